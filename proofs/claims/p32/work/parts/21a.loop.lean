/-! the law's loop -/
section
def zEv (p : Program) (l : Launch) (s : State) (m : MethodId) (meth : Method) (c : Code) (sb L : Nat) (xs : Nat → Int32) (D : va_G) (cA : Nat → ClassId) : Prop :=
  p.tables.exec = Jvm.exec ∧ c.code = cL_law ∧ meth.sig.returnType = ret ∧ c.maxLocals = 12 ∧ s.vm.findClass RL = some m.cls ∧ (∀ w ∈ wsL_law, w.before #[.ref sb] s = true) ∧ va_X sb L xs s s.heap ∧ sb < s.heap.size ∧ meth.locks = false ∧ L ≤ 260 ∧ va_K D vwCl (zTy cA) s ∧ zOut (fun q => s.heap.size ≤ q) s ∧ l.stackTraces = false
set_option maxHeartbeats 40000000 in
set_option maxRecDepth 100000 in
theorem zlaw_261 {p : Program} {l : Launch} {e : Env} {s : State} {m : MethodId} {below : List Frame} {meth : Method} {c : Code} {sb L : Nat} {xs : Nat → Int32} {D : va_G} {cA : Nat → ClassId} {rd : Nat} {b : Nat → Nat → Nat} {x : Nat → Nat} (E : zEv p l s m meth c sb L xs D cA) (t : Nat) (ht : t < 64) (kt : ∀ (N : NK) (B X : BK) (Bs : Nat → BK) (H : Heap) (locs : List Loc) (ls : Array Slot), lv_has ls 12 [(0, .ref sb), (1, .ref (x 0)), (2, .int 1), (3, .int (nI (t + 1)))] → va_P D vwCl (xmW cA x b rd X N ++ (bkW (cA 0) (b 0) B ++ (otW (cA 0) b Bs))) H → va_D (fun q => s.heap.size ≤ q) (xmW cA x b rd X N ++ (bkW (cA 0) (b 0) B ++ (otW (cA 0) b Bs))) → va_S (fun q => s.heap.size ≤ q) s.heap H locs → zT ((t + 1 : Nat) : Int) N B X Bs → W p l e room_1 s m #[.ref sb] below meth c H locs (100 + 30 * t + 25) (1000 + 200 * t + 150) (lw_Z below #[.ref sb] s) (F0 m 31 ls [])) (xx yy : Int32) : ∀ (N : NK) (B X : BK) (Bs : Nat → BK) (H : Heap) (locs : List Loc) (ls : Array Slot), lv_has ls 12 [(0, .ref sb), (1, .ref (x 0)), (2, .int 1), (3, .int (nI t)), (4, .int xx), (5, .int yy)] → va_P D vwCl (xmW cA x b rd X N ++ (bkW (cA 0) (b 0) B ++ (otW (cA 0) b Bs))) H → va_D (fun q => s.heap.size ≤ q) (xmW cA x b rd X N ++ (bkW (cA 0) (b 0) B ++ (otW (cA 0) b Bs))) → va_S (fun q => s.heap.size ≤ q) s.heap H locs → zT ((t : Int) + 1) N B X Bs → W p l e room_1 s m #[.ref sb] below meth c H locs (100 + 30 * t + 25) (1000 + 200 * t + 150) (lw_Z below #[.ref sb] s) (F0 m 261 ls []) := by
  obtain ⟨hx, hb, hr, hml, hown, hts, hX, hbl, hlocks, hL, hK, hO, hfl⟩ := id E
  intro N B X Bs H locs ls hl hP hD hS hT
  refine lv_iconst (v := 1) hx hb dL_law_261 (by decide) ?_
  refine lv_goto (tgt := 266) hx hb dL_law_262 (by decide) ?_
  refine lv_istore_n (lv' := [(2, .int 1), (0, .ref sb), (1, .ref (x 0)), (3, .int (nI t)), (4, .int xx), (5, .int yy)]) hx hb dL_law_266 rfl hl (by decide) rfl (fun ls hl => ?_)
  refine lv_iinc (v := nI (t + 1)) (lv' := [(3, .int (nI (t + 1))), (2, .int 1), (0, .ref sb), (1, .ref (x 0)), (4, .int xx), (5, .int yy)]) hx hb dL_law_267 hl (k := 3) rfl (by rw [show (Int32.ofInt 1) = nI 1 from by decide]; exact nI_add t 1) (by decide) rfl (fun ls hl => ?_)
  refine lv_goto (tgt := 31) hx hb dL_law_270 (by decide) ?_
  exact kt N B X Bs H locs ls (lv_sub hl [2, 3, 1, 0] rfl) hP hD hS hT
set_option maxHeartbeats 40000000 in
set_option maxRecDepth 100000 in
theorem zlaw_239 {p : Program} {l : Launch} {e : Env} {s : State} {m : MethodId} {below : List Frame} {meth : Method} {c : Code} {sb L : Nat} {xs : Nat → Int32} {D : va_G} {cA : Nat → ClassId} {rd : Nat} {b : Nat → Nat → Nat} {x : Nat → Nat} (E : zEv p l s m meth c sb L xs D cA) (t : Nat) (ht : t < 64) (xx yy : Int32) (kt : ∀ (N : NK) (B X : BK) (Bs : Nat → BK) (H : Heap) (locs : List Loc) (ls : Array Slot), lv_has ls 12 [(0, .ref sb), (1, .ref (x 0)), (2, .int 1), (3, .int (nI t)), (4, .int xx), (5, .int yy)] → va_P D vwCl (xmW cA x b rd X N ++ (bkW (cA 0) (b 0) B ++ (otW (cA 0) b Bs))) H → va_D (fun q => s.heap.size ≤ q) (xmW cA x b rd X N ++ (bkW (cA 0) (b 0) B ++ (otW (cA 0) b Bs))) → va_S (fun q => s.heap.size ≤ q) s.heap H locs → zT ((t : Int) + 1) N B X Bs → W p l e room_1 s m #[.ref sb] below meth c H locs (100 + 30 * t + 25) (1000 + 200 * t + 150) (lw_Z below #[.ref sb] s) (F0 m 261 ls [])) : ∀ (N : NK) (B X : BK) (Bs : Nat → BK) (H : Heap) (locs : List Loc) (ls : Array Slot), lv_has ls 12 [(0, .ref sb), (1, .ref (x 0)), (2, .int 1), (3, .int (nI t)), (4, .int xx), (5, .int yy)] → va_P D vwCl (xmW cA x b rd X N ++ (bkW (cA 0) (b 0) B ++ (otW (cA 0) b Bs))) H → va_D (fun q => s.heap.size ≤ q) (xmW cA x b rd X N ++ (bkW (cA 0) (b 0) B ++ (otW (cA 0) b Bs))) → va_S (fun q => s.heap.size ≤ q) s.heap H locs → zT ((t : Int) + 1) N B X Bs → W p l e room_1 s m #[.ref sb] below meth c H locs (100 + 30 * t + 24) (1000 + 200 * t + 144) (lw_Z below #[.ref sb] s) (F0 m 239 ls []) := by
  obtain ⟨hx, hb, hr, hml, hown, hts, hX, hbl, hlocks, hL, hK, hO, hfl⟩ := id E
  intro N B X Bs H locs ls hl hP hD hS hT
  refine lv_iload_n hx hb dL_law_239 rfl (lv_at hl 3 rfl) ?_
  refine lv_bipush (v := 23) hx hb dL_law_240 (by decide) ?_
  refine lv_irem hx hb dL_law_242 (by decide) ?_
  refine z_top (pk_rem (a := t) (d := 23) (by omega) (by omega) (by omega)) ?_
  refine lv_bipush (v := 15) hx hb dL_law_243 (by decide) ?_
  refine lv_icmp_ne (tgt := 261) hx hb dL_law_245 (by decide) (fun c9 => ?_) (fun c9 => ?_)
  · refine W.widen (k := 100 + 30 * t + 25) (n := 1000 + 200 * t + 150) (by omega) (by omega) ?_
    exact kt N B X Bs H locs ls (lv_sub hl [0, 1, 2, 3, 4, 5] rfl) hP hD hS hT
  · refine lv_aload_n hx hb dL_law_248 rfl (lv_at hl 1 rfl) ?_
    refine lv_iconst (v := 0) hx hb dL_law_249 (by decide) ?_
    refine zv_M (X := ([] : va_W)) (Z := ([] : va_W)) (vx_runV (As := [.int 0]) (rest := []) ⟨hx, hb, hml, hown, hts⟩ (zk_X2_keep l hfl D cA b rd x X N B Bs 0) (cwV 1 hts gL_law_X2_keep rfl rfl rfl zy_X2_keep ⟨(Nat.le_of_ble_eq_true rfl), (Nat.le_of_ble_eq_true rfl)⟩) (zx_preVq (A := (fun q : Nat => s.heap.size ≤ q)) (ci := 2) (q0 := 0) hK hP hD hO hS (zD_fr hD) rfl rfl) rfl rfl hl.1 rfl (lv_room (Nat.le_of_ble_eq_true rfl)) dL_law_250 ⟨Nat.le_trans (m := 9000) (by omega) (Nat.le_of_ble_eq_true rfl), Nat.le_trans (m := 90000) (by omega) (Nat.le_of_ble_eq_true rfl)⟩) (zva_no ⟨⟨by decide, by decide⟩, trivial⟩) hP hD hS (z_adr2 xmW_adr (z_adr2 bkW_adr otW_adr)) rfl (fun H locs hP9 hD9 hS9 => ?_)
    replace hP : va_P D vwCl (xmW cA x b rd ((f_X2_keep X B Bs 0).2.1) N ++ (bkW (cA 0) (b 0) B ++ (otW (cA 0) b ((f_X2_keep X B Bs 0).2.2)))) H := hP9
    replace hD : va_D _ (xmW cA x b rd ((f_X2_keep X B Bs 0).2.1) N ++ (bkW (cA 0) (b 0) B ++ (otW (cA 0) b ((f_X2_keep X B Bs 0).2.2)))) := hD9
    replace hS := hS9
    clear hP9 hD9 hS9
    refine W.widen (k := 100 + 30 * t + 25) (n := 1000 + 200 * t + 150) (by omega) (by omega) ?_
    refine lv_aload_n hx hb dL_law_253 rfl (lv_at hl 1 rfl) ?_
    refine lv_iconst (v := 4) hx hb dL_law_254 (by decide) ?_
    refine zv_E (vx_runV (As := [.int 4]) (rest := [.int ((f_X2_keep X B Bs 0).1)]) ⟨hx, hb, hml, hown, hts⟩ (zk_X2_count l hfl D cA b rd x ((f_X2_keep X B Bs 0).2.1) N B 4) (cwV 1 hts gL_law_X2_count rfl rfl rfl zy_X2_count ⟨(Nat.le_of_ble_eq_true rfl), (Nat.le_of_ble_eq_true rfl)⟩) (zx_preVq (A := (fun q : Nat => s.heap.size ≤ q)) (ci := 2) (q0 := 0) hK (hP.sub (ws' := xmW cA x b rd ((f_X2_keep X B Bs 0).2.1) N ++ (bkW (cA 0) (b 0) B)) [0, 1, 2, 3, 4, 5, 6, 7, 8, 9, 10, 11, 12, 13, 14] rfl) (hD.sub (ws' := xmW cA x b rd ((f_X2_keep X B Bs 0).2.1) N ++ (bkW (cA 0) (b 0) B)) [0, 1, 2, 3, 4, 5, 6, 7, 8, 9, 10, 11, 12, 13, 14] (by decide) rfl) hO hS (zD_fr (hD.sub (ws' := xmW cA x b rd ((f_X2_keep X B Bs 0).2.1) N ++ (bkW (cA 0) (b 0) B)) [0, 1, 2, 3, 4, 5, 6, 7, 8, 9, 10, 11, 12, 13, 14] (by decide) rfl)) rfl rfl) rfl rfl hl.1 rfl (lv_room (Nat.le_of_ble_eq_true rfl)) dL_law_255 ⟨Nat.le_trans (m := 9000) (by omega) (Nat.le_of_ble_eq_true rfl), Nat.le_trans (m := 90000) (by omega) (Nat.le_of_ble_eq_true rfl)⟩) (zva_no ⟨⟨by decide, by decide⟩, trivial⟩) rfl ?_
    refine lv_icmp_ne (tgt := 265) hx hb dL_law_258 (by decide) (fun c_1 => by exact absurd rfl c_1) (fun _ => ?_)
    refine W.widen (k := 100 + 30 * t + 25) (n := 1000 + 200 * t + 150) (by omega) (by omega) ?_
    exact kt _ _ _ _ H locs ls (lv_sub hl [0, 1, 2, 3, 4, 5] rfl) hP hD hS (zT_keep hT)
set_option maxHeartbeats 40000000 in
set_option maxRecDepth 100000 in
theorem zlaw_193 {p : Program} {l : Launch} {e : Env} {s : State} {m : MethodId} {below : List Frame} {meth : Method} {c : Code} {sb L : Nat} {xs : Nat → Int32} {D : va_G} {cA : Nat → ClassId} {rd : Nat} {b : Nat → Nat → Nat} {x : Nat → Nat} (E : zEv p l s m meth c sb L xs D cA) (t : Nat) (ht : t < 64) (xx yy : Int32) (kt : ∀ (N : NK) (B X : BK) (Bs : Nat → BK) (H : Heap) (locs : List Loc) (ls : Array Slot), lv_has ls 12 [(0, .ref sb), (1, .ref (x 0)), (2, .int 1), (3, .int (nI t)), (4, .int xx), (5, .int yy)] → va_P D vwCl (xmW cA x b rd X N ++ (bkW (cA 0) (b 0) B ++ (otW (cA 0) b Bs))) H → va_D (fun q => s.heap.size ≤ q) (xmW cA x b rd X N ++ (bkW (cA 0) (b 0) B ++ (otW (cA 0) b Bs))) → va_S (fun q => s.heap.size ≤ q) s.heap H locs → zT ((t : Int) + 1) N B X Bs → W p l e room_1 s m #[.ref sb] below meth c H locs (100 + 30 * t + 24) (1000 + 200 * t + 144) (lw_Z below #[.ref sb] s) (F0 m 239 ls [])) : ∀ (N : NK) (B X : BK) (Bs : Nat → BK) (H : Heap) (locs : List Loc) (ls : Array Slot), lv_has ls 12 [(0, .ref sb), (1, .ref (x 0)), (2, .int 1), (3, .int (nI t)), (4, .int xx), (5, .int yy)] → va_P D vwCl (xmW cA x b rd X N ++ (bkW (cA 0) (b 0) B ++ (otW (cA 0) b Bs))) H → va_D (fun q => s.heap.size ≤ q) (xmW cA x b rd X N ++ (bkW (cA 0) (b 0) B ++ (otW (cA 0) b Bs))) → va_S (fun q => s.heap.size ≤ q) s.heap H locs → zT ((t : Int) + 1) N B X Bs → W p l e room_1 s m #[.ref sb] below meth c H locs (100 + 30 * t + 13) (1000 + 200 * t + 78) (lw_Z below #[.ref sb] s) (F0 m 193 ls []) := by
  obtain ⟨hx, hb, hr, hml, hown, hts, hX, hbl, hlocks, hL, hK, hO, hfl⟩ := id E
  intro N B X Bs H locs ls hl hP hD hS hT
  refine lv_iload_n hx hb dL_law_193 rfl (lv_at hl 2 rfl) ?_
  refine lv_if_eq (tgt := 265) hx hb dL_law_194 (by decide) (fun c_2 => absurd c_2 (by decide)) (fun _ => ?_)
  refine lv_aload_n hx hb dL_law_197 rfl (lv_at hl 1 rfl) ?_
  refine zu_E (va_runS (As := [.ref (x 0)]) (rest := []) ⟨hx, hb, hml, hown, hts⟩ (zc_L_holds l hfl D cA b rd x X N B (zH_holds hT.2.2.1 (by omega) _)) (va_cwS 1 hts gL_law_L_holds rfl rfl rfl zy_L_holds.2 ⟨(Nat.le_of_ble_eq_true rfl), (Nat.le_of_ble_eq_true rfl)⟩) (zx_preS (A := (fun q : Nat => s.heap.size ≤ q)) hK (hP.sub (ws' := xmW cA x b rd X N ++ (bkW (cA 0) (b 0) B)) [0, 1, 2, 3, 4, 5, 6, 7, 8, 9, 10, 11, 12, 13, 14] rfl) (hD.sub (ws' := xmW cA x b rd X N ++ (bkW (cA 0) (b 0) B)) [0, 1, 2, 3, 4, 5, 6, 7, 8, 9, 10, 11, 12, 13, 14] (by decide) rfl) hO hS (zD_fr (hD.sub (ws' := xmW cA x b rd X N ++ (bkW (cA 0) (b 0) B)) [0, 1, 2, 3, 4, 5, 6, 7, 8, 9, 10, 11, 12, 13, 14] (by decide) rfl))) rfl rfl hl.1 rfl (lv_room (Nat.le_of_ble_eq_true rfl)) dL_law_198 ⟨Nat.le_trans (m := 9000) (by omega) (Nat.le_of_ble_eq_true rfl), Nat.le_trans (m := 90000) (by omega) (Nat.le_of_ble_eq_true rfl)⟩) rfl ?_
  refine lv_if_eq (tgt := 265) hx hb dL_law_201 (by decide) (fun c_3 => absurd c_3 (by decide)) (fun _ => ?_)
  refine lv_iload_n hx hb dL_law_204 rfl (lv_at hl 3 rfl) ?_
  refine lv_iconst (v := 3) hx hb dL_law_205 (by decide) ?_
  refine lv_irem hx hb dL_law_206 (by decide) ?_
  refine z_top (pk_rem (a := t) (d := 3) (by omega) (by omega) (by omega)) ?_
  refine lv_iconst (v := 2) hx hb dL_law_207 (by decide) ?_
  refine lv_icmp_ne (tgt := 239) hx hb dL_law_208 (by decide) (fun c9 => ?_) (fun c9 => ?_)
  · refine W.widen (k := 100 + 30 * t + 24) (n := 1000 + 200 * t + 144) (by omega) (by omega) ?_
    exact kt N B X Bs H locs ls (lv_sub hl [0, 1, 2, 3, 4, 5] rfl) hP hD hS hT
  · refine lv_aload_n hx hb dL_law_211 rfl (lv_at hl 1 rfl) ?_
    refine lv_iload hx hb dL_law_212 (lv_at hl 4 rfl) ?_
    refine lv_iconst (v := 5) hx hb dL_law_214 (by decide) ?_
    refine lv_ishr hx hb dL_law_215 ?_
    refine lv_bipush (v := 6) hx hb dL_law_216 (by decide) ?_
    refine z_E (va_runS (As := [.int ((xx : Int32) >>> (5 &&& 31)), .int 6]) (rest := [.ref (x 0)]) ⟨hx, hb, hml, hown, hts⟩ (zc_L_up l D cA ((xx : Int32) >>> (5 &&& 31)) 6 (zu_ne (n := 6) (by decide) (by decide))) (va_cwS 2 hts gL_law_L_up rfl rfl rfl zy_L_up.2 ⟨(Nat.le_of_ble_eq_true rfl), (Nat.le_of_ble_eq_true rfl)⟩) (z_preS hK z_P0 (z_D0 (A := fun _ => True))) rfl rfl hl.1 rfl (lv_room (Nat.le_of_ble_eq_true rfl)) dL_law_218 ⟨Nat.le_trans (m := 9000) (by omega) (Nat.le_of_ble_eq_true rfl), Nat.le_trans (m := 90000) (by omega) (Nat.le_of_ble_eq_true rfl)⟩) rfl ?_
    refine z_top (y := nI (zu ((xx : Int32) >>> (5 &&& 31)) 6)) (zu_eq ((xx : Int32) >>> (5 &&& 31)) (n := 6) (by decide) (by decide)) ?_
    have hu_218 := zu_lt ((xx : Int32) >>> (5 &&& 31)) (n := 6) (by decide) (by decide)
    refine lv_iconst (v := 1) hx hb dL_law_221 (by decide) ?_
    refine lv_iload hx hb dL_law_222 (lv_at hl 5 rfl) ?_
    refine lv_iconst (v := 4) hx hb dL_law_224 (by decide) ?_
    refine lv_ishr hx hb dL_law_225 ?_
    refine lv_sipush (v := 9999) hx hb dL_law_226 (by decide) ?_
    refine z_E (va_runS (As := [.int ((yy : Int32) >>> (4 &&& 31)), .int 9999]) (rest := [.int 1, .int (nI (zu ((xx : Int32) >>> (5 &&& 31)) 6)), .ref (x 0)]) ⟨hx, hb, hml, hown, hts⟩ (zc_L_up l D cA ((yy : Int32) >>> (4 &&& 31)) 9999 (zu_ne (n := 9999) (by decide) (by decide))) (va_cwS 2 hts gL_law_L_up rfl rfl rfl zy_L_up.2 ⟨(Nat.le_of_ble_eq_true rfl), (Nat.le_of_ble_eq_true rfl)⟩) (z_preS hK z_P0 (z_D0 (A := fun _ => True))) rfl rfl hl.1 rfl (lv_room (Nat.le_of_ble_eq_true rfl)) dL_law_229 ⟨Nat.le_trans (m := 9000) (by omega) (Nat.le_of_ble_eq_true rfl), Nat.le_trans (m := 90000) (by omega) (Nat.le_of_ble_eq_true rfl)⟩) rfl ?_
    refine z_top (y := nI (zu ((yy : Int32) >>> (4 &&& 31)) 9999)) (zu_eq ((yy : Int32) >>> (4 &&& 31)) (n := 9999) (by decide) (by decide)) ?_
    have hu_229 := zu_lt ((yy : Int32) >>> (4 &&& 31)) (n := 9999) (by decide) (by decide)
    refine lv_iadd hx hb dL_law_232 ?_
    refine z_top (nI_add 1 (zu ((yy : Int32) >>> (4 &&& 31)) 9999)) ?_
    refine zu_M (X := ([] : va_W)) (Z := otW (cA 0) b Bs) (va_runS (As := [.ref (x 0), .int (nI (zu ((xx : Int32) >>> (5 &&& 31)) 6)), .int (nI (1 + (zu ((yy : Int32) >>> (4 &&& 31)) 9999)))]) (rest := []) ⟨hx, hb, hml, hown, hts⟩ (zc_L_isAhead l hfl D cA b rd x X N B (zu ((xx : Int32) >>> (5 &&& 31)) 6) (1 + (zu ((yy : Int32) >>> (4 &&& 31)) 9999)) (by omega) (by omega) (by omega) (zA_ahead hT.2.2.1 (by omega) _ (by omega) (by omega) (by omega))) (va_cwS 3 hts gL_law_L_isAhead rfl rfl rfl zy_L_isAhead.2 ⟨(Nat.le_of_ble_eq_true rfl), (Nat.le_of_ble_eq_true rfl)⟩) (zx_preS (A := (fun q : Nat => s.heap.size ≤ q)) hK (hP.sub (ws' := xmW cA x b rd X N ++ (bkW (cA 0) (b 0) B)) [0, 1, 2, 3, 4, 5, 6, 7, 8, 9, 10, 11, 12, 13, 14] rfl) (hD.sub (ws' := xmW cA x b rd X N ++ (bkW (cA 0) (b 0) B)) [0, 1, 2, 3, 4, 5, 6, 7, 8, 9, 10, 11, 12, 13, 14] (by decide) rfl) hO hS (zD_fr (hD.sub (ws' := xmW cA x b rd X N ++ (bkW (cA 0) (b 0) B)) [0, 1, 2, 3, 4, 5, 6, 7, 8, 9, 10, 11, 12, 13, 14] (by decide) rfl))) rfl rfl hl.1 rfl (lv_room (Nat.le_of_ble_eq_true rfl)) dL_law_233 ⟨Nat.le_trans (m := 9000) (by omega) (Nat.le_of_ble_eq_true rfl), Nat.le_trans (m := 90000) (by omega) (Nat.le_of_ble_eq_true rfl)⟩) hP hD hS (z_adr2 xmW_adr bkW_adr) rfl (fun H locs hP9 hD9 hS9 => ?_)
    replace hP : va_P D vwCl (xmW cA x b rd (f_L_isAhead X B (zu ((xx : Int32) >>> (5 &&& 31)) 6) (1 + (zu ((yy : Int32) >>> (4 &&& 31)) 9999))) N ++ (bkW (cA 0) (b 0) B ++ (otW (cA 0) b Bs))) H := hP9
    replace hD : va_D _ (xmW cA x b rd (f_L_isAhead X B (zu ((xx : Int32) >>> (5 &&& 31)) 6) (1 + (zu ((yy : Int32) >>> (4 &&& 31)) 9999))) N ++ (bkW (cA 0) (b 0) B ++ (otW (cA 0) b Bs))) := hD9
    replace hS := hS9
    clear hP9 hD9 hS9
    refine W.widen (k := 100 + 30 * t + 24) (n := 1000 + 200 * t + 144) (by omega) (by omega) ?_
    refine lv_if_eq (tgt := 265) hx hb dL_law_236 (by decide) (fun c_4 => absurd c_4 (by decide)) (fun _ => ?_)
    refine W.widen (k := 100 + 30 * t + 24) (n := 1000 + 200 * t + 144) (by omega) (by omega) ?_
    exact kt _ _ _ _ H locs ls (lv_sub hl [0, 1, 2, 3, 4, 5] rfl) hP hD hS (zT_ahead hT (by omega) (by omega))
set_option maxHeartbeats 40000000 in
set_option maxRecDepth 100000 in
theorem zlaw_37 {p : Program} {l : Launch} {e : Env} {s : State} {m : MethodId} {below : List Frame} {meth : Method} {c : Code} {sb L : Nat} {xs : Nat → Int32} {D : va_G} {cA : Nat → ClassId} {rd : Nat} {b : Nat → Nat → Nat} {x : Nat → Nat} (E : zEv p l s m meth c sb L xs D cA) (t : Nat) (ht : t < 64) (kt : ∀ xx yy : Int32, ∀ (N : NK) (B X : BK) (Bs : Nat → BK) (H : Heap) (locs : List Loc) (ls : Array Slot), lv_has ls 12 [(0, .ref sb), (1, .ref (x 0)), (2, .int 1), (3, .int (nI t)), (4, .int xx), (5, .int yy)] → va_P D vwCl (xmW cA x b rd X N ++ (bkW (cA 0) (b 0) B ++ (otW (cA 0) b Bs))) H → va_D (fun q => s.heap.size ≤ q) (xmW cA x b rd X N ++ (bkW (cA 0) (b 0) B ++ (otW (cA 0) b Bs))) → va_S (fun q => s.heap.size ≤ q) s.heap H locs → zT ((t : Int) + 1) N B X Bs → W p l e room_1 s m #[.ref sb] below meth c H locs (100 + 30 * t + 13) (1000 + 200 * t + 78) (lw_Z below #[.ref sb] s) (F0 m 193 ls [])) : ∀ (N : NK) (B X : BK) (Bs : Nat → BK) (H : Heap) (locs : List Loc) (ls : Array Slot), lv_has ls 12 [(0, .ref sb), (1, .ref (x 0)), (2, .int 1), (3, .int (nI t))] → va_P D vwCl (xmW cA x b rd X N ++ (bkW (cA 0) (b 0) B ++ (otW (cA 0) b Bs))) H → va_D (fun q => s.heap.size ≤ q) (xmW cA x b rd X N ++ (bkW (cA 0) (b 0) B ++ (otW (cA 0) b Bs))) → va_S (fun q => s.heap.size ≤ q) s.heap H locs → zT (t : Int) N B X Bs → W p l e room_1 s m #[.ref sb] below meth c H locs (100 + 30 * t + 0) (1000 + 200 * t + 0) (lw_Z below #[.ref sb] s) (F0 m 37 ls []) := by
  obtain ⟨hx, hb, hr, hml, hown, hts, hX, hbl, hlocks, hL, hK, hO, hfl⟩ := id E
  have hbA : ¬ (fun q => s.heap.size ≤ q) sb := Nat.not_le.mpr hbl
  intro N B X Bs H locs ls hl hP hD hS hT
  refine lv_iload_n hx hb dL_law_37 rfl (lv_at hl 2 rfl) ?_
  refine lv_if_eq (tgt := 273) hx hb dL_law_38 (by decide) (fun c_5 => absurd c_5 (by decide)) (fun _ => ?_)
  refine lv_aload_n hx hb dL_law_41 rfl (lv_at hl 0 rfl) ?_
  refine lv_iconst (v := 2) hx hb dL_law_42 (by decide) ?_
  refine lv_iload_n hx hb dL_law_43 rfl (lv_at hl 3 rfl) ?_
  refine lv_imul hx hb dL_law_44 ?_
  refine z_top (pk_mul 2 t) ?_
  refine z_E (va_runS (As := [.ref sb, .int (nI (2 * t))]) (rest := []) ⟨hx, hb, hml, hown, hts⟩ (zc_L_cell l sb L xs (2 * t) (by omega) (by omega)) (va_cwS 2 hts gL_law_L_cell rfl rfl rfl zy_L_cell.2 ⟨(Nat.le_of_ble_eq_true rfl), (Nat.le_of_ble_eq_true rfl)⟩) (zXp_pre hX hbl hbA hS) rfl rfl hl.1 rfl (lv_room (Nat.le_of_ble_eq_true rfl)) dL_law_45 ⟨Nat.le_trans (m := 9000) (by omega) (Nat.le_of_ble_eq_true rfl), Nat.le_trans (m := 90000) (by omega) (Nat.le_of_ble_eq_true rfl)⟩) rfl ?_
  refine lv_istore (lv' := [(4, .int (zcell L xs (nI (2 * t)))), (0, .ref sb), (1, .ref (x 0)), (2, .int 1), (3, .int (nI t))]) hx hb dL_law_48 hl (by decide) rfl (fun ls hl => ?_)
  refine lv_aload_n hx hb dL_law_50 rfl (lv_at hl 1 rfl) ?_
  refine lv_iconst (v := 2) hx hb dL_law_51 (by decide) ?_
  refine lv_iload_n hx hb dL_law_52 rfl (lv_at hl 4 rfl) ?_
  refine lv_imul hx hb dL_law_53 ?_
  refine z_top (pk_mul 2 t) ?_
  refine lv_iconst (v := 1) hx hb dL_law_54 (by decide) ?_
  refine lv_iadd hx hb dL_law_55 ?_
  refine z_top (nI_add (2 * t) 1) ?_
  refine z_E (va_runS (As := [.ref sb, .int (nI ((2 * t) + 1))]) (rest := []) ⟨hx, hb, hml, hown, hts⟩ (zc_L_cell l sb L xs ((2 * t) + 1) (by omega) (by omega)) (va_cwS 2 hts gL_law_L_cell rfl rfl rfl zy_L_cell.2 ⟨(Nat.le_of_ble_eq_true rfl), (Nat.le_of_ble_eq_true rfl)⟩) (zXp_pre hX hbl hbA hS) rfl rfl hl.1 rfl (lv_room (Nat.le_of_ble_eq_true rfl)) dL_law_56 ⟨Nat.le_trans (m := 9000) (by omega) (Nat.le_of_ble_eq_true rfl), Nat.le_trans (m := 90000) (by omega) (Nat.le_of_ble_eq_true rfl)⟩) rfl ?_
  refine lv_istore (lv' := [(5, .int (zcell L xs (nI ((2 * t) + 1)))), (4, .int (zcell L xs (nI (2 * t)))), (0, .ref sb), (1, .ref (x 0)), (2, .int 1), (3, .int (nI t))]) hx hb dL_law_59 hl (by decide) rfl (fun ls hl => ?_)
  generalize zcell L xs (nI (2 * t)) = xx at hl ⊢
  generalize zcell L xs (nI ((2 * t) + 1)) = yy at hl ⊢
  have hN6 := hT.2.1
  have hc := zT_cnt hT xx yy
  have hu := zT_undo hT xx yy
  have hT1 := zT_act hT (by omega) xx yy
  have hM6 := hT1.2.1
  have hu1 := hu.1
  have hb9 : (if 6 ≤ N 0 0 then (6 : Nat) else N 0 0 + 1) < 2 ^ 31 := by split <;> omega
  refine lv_aload_n hx hb dL_law_61 rfl (lv_at hl 3 rfl) ?_
  refine zu_E (va_runS (As := [.ref (x 0)]) (rest := []) ⟨hx, hb, hml, hown, hts⟩ (zc_L_looks l hfl D cA b rd x X N B) (va_cwS 1 hts gL_law_L_looks rfl rfl rfl zy_L_looks.2 ⟨(Nat.le_of_ble_eq_true rfl), (Nat.le_of_ble_eq_true rfl)⟩) (zx_preS (A := (fun q : Nat => s.heap.size ≤ q)) hK (hP.sub (ws' := xmW cA x b rd X N ++ (bkW (cA 0) (b 0) B)) [0, 1, 2, 3, 4, 5, 6, 7, 8, 9, 10, 11, 12, 13, 14] rfl) (hD.sub (ws' := xmW cA x b rd X N ++ (bkW (cA 0) (b 0) B)) [0, 1, 2, 3, 4, 5, 6, 7, 8, 9, 10, 11, 12, 13, 14] (by decide) rfl) hO hS (zD_fr (hD.sub (ws' := xmW cA x b rd X N ++ (bkW (cA 0) (b 0) B)) [0, 1, 2, 3, 4, 5, 6, 7, 8, 9, 10, 11, 12, 13, 14] (by decide) rfl))) rfl rfl hl.1 rfl (lv_room (Nat.le_of_ble_eq_true rfl)) dL_law_62 ⟨Nat.le_trans (m := 9000) (by omega) (Nat.le_of_ble_eq_true rfl), Nat.le_trans (m := 90000) (by omega) (Nat.le_of_ble_eq_true rfl)⟩) rfl ?_
  refine lv_lstore (lv' := [(6, .long (f_L_looks N B)), (5, .int yy), (4, .int xx), (0, .ref sb), (1, .ref (x 0)), (2, .int 1), (3, .int (nI t))]) hx hb dL_law_65 hl (by decide) rfl (fun ls hl => ?_)
  refine lv_aload_n hx hb dL_law_67 rfl (lv_at hl 4 rfl) ?_
  refine lv_bipush (v := 11) hx hb dL_law_68 (by decide) ?_
  refine zv_E (vx_runV (As := [.int 11]) (rest := []) ⟨hx, hb, hml, hown, hts⟩ (zk_X2_count l hfl D cA b rd x X N B 11) (cwV 1 hts gL_law_X2_count rfl rfl rfl zy_X2_count ⟨(Nat.le_of_ble_eq_true rfl), (Nat.le_of_ble_eq_true rfl)⟩) (zx_preVq (A := (fun q : Nat => s.heap.size ≤ q)) (ci := 2) (q0 := 0) hK (hP.sub (ws' := xmW cA x b rd X N ++ (bkW (cA 0) (b 0) B)) [0, 1, 2, 3, 4, 5, 6, 7, 8, 9, 10, 11, 12, 13, 14] rfl) (hD.sub (ws' := xmW cA x b rd X N ++ (bkW (cA 0) (b 0) B)) [0, 1, 2, 3, 4, 5, 6, 7, 8, 9, 10, 11, 12, 13, 14] (by decide) rfl) hO hS (zD_fr (hD.sub (ws' := xmW cA x b rd X N ++ (bkW (cA 0) (b 0) B)) [0, 1, 2, 3, 4, 5, 6, 7, 8, 9, 10, 11, 12, 13, 14] (by decide) rfl)) rfl rfl) rfl rfl hl.1 rfl (lv_room (Nat.le_of_ble_eq_true rfl)) dL_law_70 ⟨Nat.le_trans (m := 9000) (by omega) (Nat.le_of_ble_eq_true rfl), Nat.le_trans (m := 90000) (by omega) (Nat.le_of_ble_eq_true rfl)⟩) (zva_no ⟨⟨by decide, by decide⟩, trivial⟩) rfl ?_
  refine z_top (y := nI (N 0 0)) rfl ?_
  refine lv_istore (lv' := [(8, .int (nI (N 0 0))), (6, .long (f_L_looks N B)), (5, .int yy), (4, .int xx), (0, .ref sb), (1, .ref (x 0)), (2, .int 1), (3, .int (nI t))]) hx hb dL_law_73 hl (by decide) rfl (fun ls hl => ?_)
  refine lv_aload_n hx hb dL_law_75 rfl (lv_at hl 5 rfl) ?_
  refine lv_iload hx hb dL_law_76 (lv_at hl 3 rfl) ?_
  refine lv_iload hx hb dL_law_78 (lv_at hl 2 rfl) ?_
  refine zu_M (X := ([] : va_W)) (Z := ([] : va_W)) (va_runS (As := [.ref (x 0), .int xx, .int yy]) (rest := []) ⟨hx, hb, hml, hown, hts⟩ (zc_L_acts l hfl D cA b rd x X N B Bs xx yy hT.1 hT.2.1 (zA_acts hT.2.2.1 (by omega) hT.2.2.2.2)) (va_cwS 3 hts gL_law_L_acts rfl rfl rfl zy_L_acts.2 ⟨(Nat.le_of_ble_eq_true rfl), (Nat.le_of_ble_eq_true rfl)⟩) (zx_preS (A := (fun q : Nat => s.heap.size ≤ q)) hK hP hD hO hS (zD_fr hD)) rfl rfl hl.1 rfl (lv_room (Nat.le_of_ble_eq_true rfl)) dL_law_80 ⟨Nat.le_trans (m := 9000) (by omega) (Nat.le_of_ble_eq_true rfl), Nat.le_trans (m := 90000) (by omega) (Nat.le_of_ble_eq_true rfl)⟩) hP hD hS (z_adr2 xmW_adr (z_adr2 bkW_adr otW_adr)) rfl (fun H locs hP9 hD9 hS9 => ?_)
  replace hP : va_P D vwCl (xmW cA x b rd X ((f_L_acts N B Bs xx yy).1) ++ (bkW (cA 0) (b 0) ((f_L_acts N B Bs xx yy).2.1) ++ (otW (cA 0) b ((f_L_acts N B Bs xx yy).2.2)))) H := hP9
  replace hD : va_D _ (xmW cA x b rd X ((f_L_acts N B Bs xx yy).1) ++ (bkW (cA 0) (b 0) ((f_L_acts N B Bs xx yy).2.1) ++ (otW (cA 0) b ((f_L_acts N B Bs xx yy).2.2)))) := hD9
  replace hS := hS9
  clear hP9 hD9 hS9
  refine W.widen (k := 100 + 30 * t + 6) (n := 1000 + 200 * t + 36) (by omega) (by omega) ?_
  refine lv_if_eq (tgt := 115) hx hb dL_law_83 (by decide) (fun c_6 => absurd c_6 (by decide)) (fun _ => ?_)
  refine lv_aload_n hx hb dL_law_86 rfl (lv_at hl 5 rfl) ?_
  refine lv_bipush (v := 11) hx hb dL_law_87 (by decide) ?_
  refine zv_E (vx_runV (As := [.int 11]) (rest := []) ⟨hx, hb, hml, hown, hts⟩ (zk_X2_count l hfl D cA b rd x X ((f_L_acts N B Bs xx yy).1) ((f_L_acts N B Bs xx yy).2.1) 11) (cwV 1 hts gL_law_X2_count rfl rfl rfl zy_X2_count ⟨(Nat.le_of_ble_eq_true rfl), (Nat.le_of_ble_eq_true rfl)⟩) (zx_preVq (A := (fun q : Nat => s.heap.size ≤ q)) (ci := 2) (q0 := 0) hK (hP.sub (ws' := xmW cA x b rd X ((f_L_acts N B Bs xx yy).1) ++ (bkW (cA 0) (b 0) ((f_L_acts N B Bs xx yy).2.1))) [0, 1, 2, 3, 4, 5, 6, 7, 8, 9, 10, 11, 12, 13, 14] rfl) (hD.sub (ws' := xmW cA x b rd X ((f_L_acts N B Bs xx yy).1) ++ (bkW (cA 0) (b 0) ((f_L_acts N B Bs xx yy).2.1))) [0, 1, 2, 3, 4, 5, 6, 7, 8, 9, 10, 11, 12, 13, 14] (by decide) rfl) hO hS (zD_fr (hD.sub (ws' := xmW cA x b rd X ((f_L_acts N B Bs xx yy).1) ++ (bkW (cA 0) (b 0) ((f_L_acts N B Bs xx yy).2.1))) [0, 1, 2, 3, 4, 5, 6, 7, 8, 9, 10, 11, 12, 13, 14] (by decide) rfl)) rfl rfl) rfl rfl hl.1 rfl (lv_room (Nat.le_of_ble_eq_true rfl)) dL_law_89 ⟨Nat.le_trans (m := 9000) (by omega) (Nat.le_of_ble_eq_true rfl), Nat.le_trans (m := 90000) (by omega) (Nat.le_of_ble_eq_true rfl)⟩) (zva_no ⟨⟨by decide, by decide⟩, trivial⟩) rfl ?_
  refine z_top (y := nI (((f_L_acts N B Bs xx yy).1) 0 0)) rfl ?_
  refine lv_iload hx hb dL_law_92 (lv_at hl 0 rfl) ?_
  refine lv_bipush (v := 6) hx hb dL_law_94 (by decide) ?_
  have k108 : W p l e room_1 s m #[.ref sb] below meth c H locs (100 + 30 * t + 6) (1000 + 200 * t + 36) (lw_Z below #[.ref sb] s) (F0 m 108 ls [.int (nI (if 6 ≤ N 0 0 then (6 : Nat) else N 0 0 + 1)), .int (nI (((f_L_acts N B Bs xx yy).1) 0 0))]) := by
    refine lv_icmp_ne (tgt := 115) hx hb dL_law_108 (by decide) (fun c_7 => by have c_7 : ¬ (((f_L_acts N B Bs xx yy).1) 0 0) = (if 6 ≤ N 0 0 then (6 : Nat) else N 0 0 + 1) := fun h9 => c_7 ((nI_eq (a := (((f_L_acts N B Bs xx yy).1) 0 0)) (b := (if 6 ≤ N 0 0 then (6 : Nat) else N 0 0 + 1)) (by omega) (by omega)).mpr h9); exact absurd hc c_7) (fun _ => ?_)
    refine lv_iconst (v := 1) hx hb dL_law_111 (by decide) ?_
    refine lv_goto (tgt := 116) hx hb dL_law_112 (by decide) ?_
    refine lv_istore_n (lv' := [(2, .int 1), (8, .int (nI (N 0 0))), (6, .long (f_L_looks N B)), (5, .int yy), (4, .int xx), (0, .ref sb), (1, .ref (x 0)), (3, .int (nI t))]) hx hb dL_law_116 rfl hl (by decide) rfl (fun ls hl => ?_)
    refine lv_iload_n hx hb dL_law_117 rfl (lv_at hl 0 rfl) ?_
    refine lv_if_eq (tgt := 193) hx hb dL_law_118 (by decide) (fun c_8 => absurd c_8 (by decide)) (fun _ => ?_)
    refine lv_iload hx hb dL_law_121 (lv_at hl 4 rfl) ?_
    refine lv_bipush (v := 8) hx hb dL_law_123 (by decide) ?_
    refine lv_ishr hx hb dL_law_125 ?_
    refine lv_iconst (v := 3) hx hb dL_law_126 (by decide) ?_
    refine lv_iand hx hb dL_law_127 ?_
    refine lv_if_ne (tgt := 193) hx hb dL_law_128 (by decide) (fun c9 => ?_) (fun c9 => ?_)
    · refine W.widen (k := 100 + 30 * t + 13) (n := 1000 + 200 * t + 78) (by omega) (by omega) ?_
      exact kt xx yy _ _ _ _ H locs ls (lv_sub hl [5, 6, 0, 7, 4, 3] rfl) hP hD hS hT1
    · refine lv_aload_n hx hb dL_law_131 rfl (lv_at hl 6 rfl) ?_
      refine zu_E (va_runS (As := [.ref (x 0)]) (rest := []) ⟨hx, hb, hml, hown, hts⟩ (zc_L_looks l hfl D cA b rd x X ((f_L_acts N B Bs xx yy).1) ((f_L_acts N B Bs xx yy).2.1)) (va_cwS 1 hts gL_law_L_looks rfl rfl rfl zy_L_looks.2 ⟨(Nat.le_of_ble_eq_true rfl), (Nat.le_of_ble_eq_true rfl)⟩) (zx_preS (A := (fun q : Nat => s.heap.size ≤ q)) hK (hP.sub (ws' := xmW cA x b rd X ((f_L_acts N B Bs xx yy).1) ++ (bkW (cA 0) (b 0) ((f_L_acts N B Bs xx yy).2.1))) [0, 1, 2, 3, 4, 5, 6, 7, 8, 9, 10, 11, 12, 13, 14] rfl) (hD.sub (ws' := xmW cA x b rd X ((f_L_acts N B Bs xx yy).1) ++ (bkW (cA 0) (b 0) ((f_L_acts N B Bs xx yy).2.1))) [0, 1, 2, 3, 4, 5, 6, 7, 8, 9, 10, 11, 12, 13, 14] (by decide) rfl) hO hS (zD_fr (hD.sub (ws' := xmW cA x b rd X ((f_L_acts N B Bs xx yy).1) ++ (bkW (cA 0) (b 0) ((f_L_acts N B Bs xx yy).2.1))) [0, 1, 2, 3, 4, 5, 6, 7, 8, 9, 10, 11, 12, 13, 14] (by decide) rfl))) rfl rfl hl.1 rfl (lv_room (Nat.le_of_ble_eq_true rfl)) dL_law_132 ⟨Nat.le_trans (m := 9000) (by omega) (Nat.le_of_ble_eq_true rfl), Nat.le_trans (m := 90000) (by omega) (Nat.le_of_ble_eq_true rfl)⟩) rfl ?_
      refine lv_lstore (lv' := [(9, .long (f_L_looks ((f_L_acts N B Bs xx yy).1) ((f_L_acts N B Bs xx yy).2.1))), (2, .int 1), (8, .int (nI (N 0 0))), (6, .long (f_L_looks N B)), (5, .int yy), (4, .int xx), (0, .ref sb), (1, .ref (x 0)), (3, .int (nI t))]) hx hb dL_law_135 hl (by decide) rfl (fun ls hl => ?_)
      refine lv_aload_n hx hb dL_law_137 rfl (lv_at hl 7 rfl) ?_
      refine lv_bipush (v := 11) hx hb dL_law_138 (by decide) ?_
      refine zv_E (vx_runV (As := [.int 11]) (rest := []) ⟨hx, hb, hml, hown, hts⟩ (zk_X2_count l hfl D cA b rd x X ((f_L_acts N B Bs xx yy).1) ((f_L_acts N B Bs xx yy).2.1) 11) (cwV 1 hts gL_law_X2_count rfl rfl rfl zy_X2_count ⟨(Nat.le_of_ble_eq_true rfl), (Nat.le_of_ble_eq_true rfl)⟩) (zx_preVq (A := (fun q : Nat => s.heap.size ≤ q)) (ci := 2) (q0 := 0) hK (hP.sub (ws' := xmW cA x b rd X ((f_L_acts N B Bs xx yy).1) ++ (bkW (cA 0) (b 0) ((f_L_acts N B Bs xx yy).2.1))) [0, 1, 2, 3, 4, 5, 6, 7, 8, 9, 10, 11, 12, 13, 14] rfl) (hD.sub (ws' := xmW cA x b rd X ((f_L_acts N B Bs xx yy).1) ++ (bkW (cA 0) (b 0) ((f_L_acts N B Bs xx yy).2.1))) [0, 1, 2, 3, 4, 5, 6, 7, 8, 9, 10, 11, 12, 13, 14] (by decide) rfl) hO hS (zD_fr (hD.sub (ws' := xmW cA x b rd X ((f_L_acts N B Bs xx yy).1) ++ (bkW (cA 0) (b 0) ((f_L_acts N B Bs xx yy).2.1))) [0, 1, 2, 3, 4, 5, 6, 7, 8, 9, 10, 11, 12, 13, 14] (by decide) rfl)) rfl rfl) rfl rfl hl.1 rfl (lv_room (Nat.le_of_ble_eq_true rfl)) dL_law_140 ⟨Nat.le_trans (m := 9000) (by omega) (Nat.le_of_ble_eq_true rfl), Nat.le_trans (m := 90000) (by omega) (Nat.le_of_ble_eq_true rfl)⟩) (zva_no ⟨⟨by decide, by decide⟩, trivial⟩) rfl ?_
      refine z_top (y := nI (((f_L_acts N B Bs xx yy).1) 0 0)) rfl ?_
      refine lv_iconst (v := 1) hx hb dL_law_143 (by decide) ?_
      refine lv_isub hx hb dL_law_144 ?_
      refine z_top (pk_sub (a := (((f_L_acts N B Bs xx yy).1) 0 0)) (b := 1) (by omega)) ?_
      refine lv_istore (lv' := [(11, .int (nI ((((f_L_acts N B Bs xx yy).1) 0 0) - 1))), (9, .long (f_L_looks ((f_L_acts N B Bs xx yy).1) ((f_L_acts N B Bs xx yy).2.1))), (2, .int 1), (8, .int (nI (N 0 0))), (6, .long (f_L_looks N B)), (5, .int yy), (4, .int xx), (0, .ref sb), (1, .ref (x 0)), (3, .int (nI t))]) hx hb dL_law_145 hl (by decide) rfl (fun ls hl => ?_)
      refine lv_aload_n hx hb dL_law_147 rfl (lv_at hl 8 rfl) ?_
      refine zv_M (X := ([] : va_W)) (Z := ([] : va_W)) (vx_runV (As := []) (rest := []) ⟨hx, hb, hml, hown, hts⟩ (zk_X2_undo l hfl D cA b rd x X ((f_L_acts N B Bs xx yy).1) ((f_L_acts N B Bs xx yy).2.1) ((f_L_acts N B Bs xx yy).2.2) hT1.1 hT1.2.1) (cwV 0 hts gL_law_X2_undo rfl rfl rfl zy_X2_undo ⟨(Nat.le_of_ble_eq_true rfl), (Nat.le_of_ble_eq_true rfl)⟩) (zx_preVq (A := (fun q : Nat => s.heap.size ≤ q)) (ci := 2) (q0 := 0) hK hP hD hO hS (zD_fr hD) rfl rfl) rfl rfl hl.1 rfl (lv_room (Nat.le_of_ble_eq_true rfl)) dL_law_148 ⟨Nat.le_trans (m := 9000) (by omega) (Nat.le_of_ble_eq_true rfl), Nat.le_trans (m := 90000) (by omega) (Nat.le_of_ble_eq_true rfl)⟩) (zva_no ⟨(by omega), trivial⟩) hP hD hS (z_adr2 xmW_adr (z_adr2 bkW_adr otW_adr)) rfl (fun H locs hP9 hD9 hS9 => ?_)
      replace hP : va_P D vwCl (xmW cA x b rd X ((f_X2_undo ((f_L_acts N B Bs xx yy).1) ((f_L_acts N B Bs xx yy).2.2)).2.1) ++ (bkW (cA 0) (b 0) ((f_X2_undo ((f_L_acts N B Bs xx yy).1) ((f_L_acts N B Bs xx yy).2.2)).2.2) ++ (otW (cA 0) b ((f_L_acts N B Bs xx yy).2.2)))) H := hP9
      replace hD : va_D _ (xmW cA x b rd X ((f_X2_undo ((f_L_acts N B Bs xx yy).1) ((f_L_acts N B Bs xx yy).2.2)).2.1) ++ (bkW (cA 0) (b 0) ((f_X2_undo ((f_L_acts N B Bs xx yy).1) ((f_L_acts N B Bs xx yy).2.2)).2.2) ++ (otW (cA 0) b ((f_L_acts N B Bs xx yy).2.2)))) := hD9
      replace hS := hS9
      clear hP9 hD9 hS9
      refine W.widen (k := 100 + 30 * t + 7) (n := 1000 + 200 * t + 42) (by omega) (by omega) ?_
      have hT2 := hu.2.2.2.1
      rw [hu.2.2.1] at hP hD
      refine lv_iload hx hb dL_law_151 (lv_at hl 0 rfl) ?_
      refine lv_icmp_ne (tgt := 191) hx hb dL_law_153 (by decide) (fun c_9 => by exact absurd hu.2.1 c_9) (fun _ => ?_)
      refine lv_aload_n hx hb dL_law_156 rfl (lv_at hl 8 rfl) ?_
      refine zu_E (va_runS (As := [.ref (x 0)]) (rest := []) ⟨hx, hb, hml, hown, hts⟩ (zc_L_looks l hfl D cA b rd x X ((f_X2_undo ((f_L_acts N B Bs xx yy).1) ((f_L_acts N B Bs xx yy).2.2)).2.1) B) (va_cwS 1 hts gL_law_L_looks rfl rfl rfl zy_L_looks.2 ⟨(Nat.le_of_ble_eq_true rfl), (Nat.le_of_ble_eq_true rfl)⟩) (zx_preS (A := (fun q : Nat => s.heap.size ≤ q)) hK (hP.sub (ws' := xmW cA x b rd X ((f_X2_undo ((f_L_acts N B Bs xx yy).1) ((f_L_acts N B Bs xx yy).2.2)).2.1) ++ (bkW (cA 0) (b 0) B)) [0, 1, 2, 3, 4, 5, 6, 7, 8, 9, 10, 11, 12, 13, 14] rfl) (hD.sub (ws' := xmW cA x b rd X ((f_X2_undo ((f_L_acts N B Bs xx yy).1) ((f_L_acts N B Bs xx yy).2.2)).2.1) ++ (bkW (cA 0) (b 0) B)) [0, 1, 2, 3, 4, 5, 6, 7, 8, 9, 10, 11, 12, 13, 14] (by decide) rfl) hO hS (zD_fr (hD.sub (ws' := xmW cA x b rd X ((f_X2_undo ((f_L_acts N B Bs xx yy).1) ((f_L_acts N B Bs xx yy).2.2)).2.1) ++ (bkW (cA 0) (b 0) B)) [0, 1, 2, 3, 4, 5, 6, 7, 8, 9, 10, 11, 12, 13, 14] (by decide) rfl))) rfl rfl hl.1 rfl (lv_room (Nat.le_of_ble_eq_true rfl)) dL_law_157 ⟨Nat.le_trans (m := 9000) (by omega) (Nat.le_of_ble_eq_true rfl), Nat.le_trans (m := 90000) (by omega) (Nat.le_of_ble_eq_true rfl)⟩) rfl ?_
      refine lv_lload hx hb dL_law_160 (lv_at hl 4 rfl) ?_
      refine W.lcmp hx hb dL_law_162 ?_
      refine lv_if_ne (tgt := 191) hx hb dL_law_163 (by decide) (fun c_10 => by have c_10 : ¬ (f_L_looks ((f_X2_undo ((f_L_acts N B Bs xx yy).1) ((f_L_acts N B Bs xx yy).2.2)).2.1) B) = (f_L_looks N B) := fun h9 => c_10 ((lg_cmp_eq _ _).mpr h9); exact absurd (zlk _ _ _) c_10) (fun _ => ?_)
      refine lv_aload_n hx hb dL_law_166 rfl (lv_at hl 8 rfl) ?_
      refine lv_iload hx hb dL_law_167 (lv_at hl 6 rfl) ?_
      refine lv_iload hx hb dL_law_169 (lv_at hl 5 rfl) ?_
      refine zu_M (X := ([] : va_W)) (Z := ([] : va_W)) (va_runS (As := [.ref (x 0), .int xx, .int yy]) (rest := []) ⟨hx, hb, hml, hown, hts⟩ (zc_L_acts l hfl D cA b rd x X ((f_X2_undo ((f_L_acts N B Bs xx yy).1) ((f_L_acts N B Bs xx yy).2.2)).2.1) B ((f_L_acts N B Bs xx yy).2.2) xx yy hT2.1 hT2.2.1 (zA_acts hT2.2.2.1 (by omega) hT2.2.2.2.2)) (va_cwS 3 hts gL_law_L_acts rfl rfl rfl zy_L_acts.2 ⟨(Nat.le_of_ble_eq_true rfl), (Nat.le_of_ble_eq_true rfl)⟩) (zx_preS (A := (fun q : Nat => s.heap.size ≤ q)) hK hP hD hO hS (zD_fr hD)) rfl rfl hl.1 rfl (lv_room (Nat.le_of_ble_eq_true rfl)) dL_law_171 ⟨Nat.le_trans (m := 9000) (by omega) (Nat.le_of_ble_eq_true rfl), Nat.le_trans (m := 90000) (by omega) (Nat.le_of_ble_eq_true rfl)⟩) hP hD hS (z_adr2 xmW_adr (z_adr2 bkW_adr otW_adr)) rfl (fun H locs hP9 hD9 hS9 => ?_)
      replace hP : va_P D vwCl (xmW cA x b rd X ((f_L_acts ((f_X2_undo ((f_L_acts N B Bs xx yy).1) ((f_L_acts N B Bs xx yy).2.2)).2.1) B ((f_L_acts N B Bs xx yy).2.2) xx yy).1) ++ (bkW (cA 0) (b 0) ((f_L_acts ((f_X2_undo ((f_L_acts N B Bs xx yy).1) ((f_L_acts N B Bs xx yy).2.2)).2.1) B ((f_L_acts N B Bs xx yy).2.2) xx yy).2.1) ++ (otW (cA 0) b ((f_L_acts ((f_X2_undo ((f_L_acts N B Bs xx yy).1) ((f_L_acts N B Bs xx yy).2.2)).2.1) B ((f_L_acts N B Bs xx yy).2.2) xx yy).2.2)))) H := hP9
      replace hD : va_D _ (xmW cA x b rd X ((f_L_acts ((f_X2_undo ((f_L_acts N B Bs xx yy).1) ((f_L_acts N B Bs xx yy).2.2)).2.1) B ((f_L_acts N B Bs xx yy).2.2) xx yy).1) ++ (bkW (cA 0) (b 0) ((f_L_acts ((f_X2_undo ((f_L_acts N B Bs xx yy).1) ((f_L_acts N B Bs xx yy).2.2)).2.1) B ((f_L_acts N B Bs xx yy).2.2) xx yy).2.1) ++ (otW (cA 0) b ((f_L_acts ((f_X2_undo ((f_L_acts N B Bs xx yy).1) ((f_L_acts N B Bs xx yy).2.2)).2.1) B ((f_L_acts N B Bs xx yy).2.2) xx yy).2.2)))) := hD9
      replace hS := hS9
      clear hP9 hD9 hS9
      refine W.widen (k := 100 + 30 * t + 13) (n := 1000 + 200 * t + 78) (by omega) (by omega) ?_
      refine lv_if_eq (tgt := 191) hx hb dL_law_174 (by decide) (fun c_11 => absurd c_11 (by decide)) (fun _ => ?_)
      refine lv_aload_n hx hb dL_law_177 rfl (lv_at hl 8 rfl) ?_
      refine zu_E (va_runS (As := [.ref (x 0)]) (rest := []) ⟨hx, hb, hml, hown, hts⟩ (zc_L_looks l hfl D cA b rd x X ((f_L_acts ((f_X2_undo ((f_L_acts N B Bs xx yy).1) ((f_L_acts N B Bs xx yy).2.2)).2.1) B ((f_L_acts N B Bs xx yy).2.2) xx yy).1) ((f_L_acts ((f_X2_undo ((f_L_acts N B Bs xx yy).1) ((f_L_acts N B Bs xx yy).2.2)).2.1) B ((f_L_acts N B Bs xx yy).2.2) xx yy).2.1)) (va_cwS 1 hts gL_law_L_looks rfl rfl rfl zy_L_looks.2 ⟨(Nat.le_of_ble_eq_true rfl), (Nat.le_of_ble_eq_true rfl)⟩) (zx_preS (A := (fun q : Nat => s.heap.size ≤ q)) hK (hP.sub (ws' := xmW cA x b rd X ((f_L_acts ((f_X2_undo ((f_L_acts N B Bs xx yy).1) ((f_L_acts N B Bs xx yy).2.2)).2.1) B ((f_L_acts N B Bs xx yy).2.2) xx yy).1) ++ (bkW (cA 0) (b 0) ((f_L_acts ((f_X2_undo ((f_L_acts N B Bs xx yy).1) ((f_L_acts N B Bs xx yy).2.2)).2.1) B ((f_L_acts N B Bs xx yy).2.2) xx yy).2.1))) [0, 1, 2, 3, 4, 5, 6, 7, 8, 9, 10, 11, 12, 13, 14] rfl) (hD.sub (ws' := xmW cA x b rd X ((f_L_acts ((f_X2_undo ((f_L_acts N B Bs xx yy).1) ((f_L_acts N B Bs xx yy).2.2)).2.1) B ((f_L_acts N B Bs xx yy).2.2) xx yy).1) ++ (bkW (cA 0) (b 0) ((f_L_acts ((f_X2_undo ((f_L_acts N B Bs xx yy).1) ((f_L_acts N B Bs xx yy).2.2)).2.1) B ((f_L_acts N B Bs xx yy).2.2) xx yy).2.1))) [0, 1, 2, 3, 4, 5, 6, 7, 8, 9, 10, 11, 12, 13, 14] (by decide) rfl) hO hS (zD_fr (hD.sub (ws' := xmW cA x b rd X ((f_L_acts ((f_X2_undo ((f_L_acts N B Bs xx yy).1) ((f_L_acts N B Bs xx yy).2.2)).2.1) B ((f_L_acts N B Bs xx yy).2.2) xx yy).1) ++ (bkW (cA 0) (b 0) ((f_L_acts ((f_X2_undo ((f_L_acts N B Bs xx yy).1) ((f_L_acts N B Bs xx yy).2.2)).2.1) B ((f_L_acts N B Bs xx yy).2.2) xx yy).2.1))) [0, 1, 2, 3, 4, 5, 6, 7, 8, 9, 10, 11, 12, 13, 14] (by decide) rfl))) rfl rfl hl.1 rfl (lv_room (Nat.le_of_ble_eq_true rfl)) dL_law_178 ⟨Nat.le_trans (m := 9000) (by omega) (Nat.le_of_ble_eq_true rfl), Nat.le_trans (m := 90000) (by omega) (Nat.le_of_ble_eq_true rfl)⟩) rfl ?_
      refine lv_lload hx hb dL_law_181 (lv_at hl 1 rfl) ?_
      refine W.lcmp hx hb dL_law_183 ?_
      refine lv_if_ne (tgt := 191) hx hb dL_law_184 (by decide) (fun c_12 => by have c_12 : ¬ (f_L_looks ((f_L_acts ((f_X2_undo ((f_L_acts N B Bs xx yy).1) ((f_L_acts N B Bs xx yy).2.2)).2.1) B ((f_L_acts N B Bs xx yy).2.2) xx yy).1) ((f_L_acts ((f_X2_undo ((f_L_acts N B Bs xx yy).1) ((f_L_acts N B Bs xx yy).2.2)).2.1) B ((f_L_acts N B Bs xx yy).2.2) xx yy).2.1)) = (f_L_looks ((f_L_acts N B Bs xx yy).1) ((f_L_acts N B Bs xx yy).2.1)) := fun h9 => c_12 ((lg_cmp_eq _ _).mpr h9); exact absurd (by rw [hu.2.2.2.2]; exact zlk _ _ _) c_12) (fun _ => ?_)
      refine lv_iconst (v := 1) hx hb dL_law_187 (by decide) ?_
      refine lv_goto (tgt := 192) hx hb dL_law_188 (by decide) ?_
      refine lv_istore_n (lv' := [(2, .int 1), (11, .int (nI ((((f_L_acts N B Bs xx yy).1) 0 0) - 1))), (9, .long (f_L_looks ((f_L_acts N B Bs xx yy).1) ((f_L_acts N B Bs xx yy).2.1))), (8, .int (nI (N 0 0))), (6, .long (f_L_looks N B)), (5, .int yy), (4, .int xx), (0, .ref sb), (1, .ref (x 0)), (3, .int (nI t))]) hx hb dL_law_192 rfl hl (by decide) rfl (fun ls hl => ?_)
      refine W.widen (k := 100 + 30 * t + 13) (n := 1000 + 200 * t + 78) (by omega) (by omega) ?_
      exact kt xx yy _ _ _ _ H locs ls (lv_sub hl [7, 8, 0, 9, 6, 5] rfl) hP hD hS (zT_act hT2 (by omega) xx yy)
  refine lv_icmp_ge (tgt := 106) hx hb dL_law_96 (by decide) (fun c9 => ?_) (fun c9 => ?_)
  · have c9 : 6 ≤ N 0 0 := (nI_leI (a := 6) (b := N 0 0) (by omega) (by omega)).mp c9
    refine lv_bipush (v := 6) hx hb dL_law_106 (by decide) ?_
    refine z_top (y := nI (if 6 ≤ N 0 0 then (6 : Nat) else N 0 0 + 1)) (by rw [if_pos c9]; rfl) ?_
    exact k108
  · have c9 : ¬ 6 ≤ N 0 0 := fun h9 => c9 ((nI_leI (a := 6) (b := N 0 0) (by omega) (by omega)).mpr h9)
    refine lv_iload hx hb dL_law_99 (lv_at hl 0 rfl) ?_
    refine lv_iconst (v := 1) hx hb dL_law_101 (by decide) ?_
    refine lv_iadd hx hb dL_law_102 ?_
    refine z_top (nI_add (N 0 0) 1) ?_
    refine lv_goto (tgt := 108) hx hb dL_law_103 (by decide) ?_
    refine z_top (y := nI (if 6 ≤ N 0 0 then (6 : Nat) else N 0 0 + 1)) (by rw [if_neg c9]) ?_
    exact k108
set_option maxHeartbeats 40000000 in
set_option maxRecDepth 100000 in
theorem zlaw_loop {p : Program} {l : Launch} {e : Env} {s : State} {m : MethodId} {below : List Frame} {meth : Method} {c : Code} {sb L : Nat} {xs : Nat → Int32} {D : va_G} {cA : Nat → ClassId} {rd : Nat} {b : Nat → Nat → Nat} {x : Nat → Nat} (E : zEv p l s m meth c sb L xs D cA) : ∀ (n t : Nat), t + n = 64 → ∀ (N : NK) (B X : BK) (Bs : Nat → BK) (H : Heap) (locs : List Loc) (ls : Array Slot), lv_has ls 12 [(0, .ref sb), (1, .ref (x 0)), (2, .int 1), (3, .int (nI t))] → va_P D vwCl (xmW cA x b rd X N ++ (bkW (cA 0) (b 0) B ++ (otW (cA 0) b Bs))) H → va_D (fun q => s.heap.size ≤ q) (xmW cA x b rd X N ++ (bkW (cA 0) (b 0) B ++ (otW (cA 0) b Bs))) → va_S (fun q => s.heap.size ≤ q) s.heap H locs → zT (t : Int) N B X Bs → W p l e room_1 s m #[.ref sb] below meth c H locs (100 + 30 * t + 0) (1000 + 200 * t + 0) (lw_Z below #[.ref sb] s) (F0 m 31 ls []) := by
  obtain ⟨hx, hb, hr, hml, hown, hts, hX, hbl, hlocks, hL, hK, hO, hfl⟩ := id E
  intro n
  induction n with
  | zero =>
    intro t h N B X Bs H locs ls hl hP hD hS hT
    have ht : t = 64 := by omega
    subst ht
    refine lv_iload_n hx hb dL_law_31 rfl (lv_at hl 3 rfl) ?_
    refine lv_bipush (v := 64) hx hb dL_law_32 (by decide) ?_
    refine lv_icmp_ge (tgt := 273) hx hb dL_law_34 (by decide) (fun c9 => ?_) (fun c9 => ?_)
    · refine lv_iload_n hx hb dL_law_273 rfl (lv_at hl 2 rfl) ?_
      refine va_forget (fun q hq => hS.2.2 q hq) ?_
      refine W.widen (k := 600130) (n := 7301080) (by omega) (by omega) ?_
      exact lw_ret (d0 := s.drawn) (Drawn.sameBut.refl s.drawn lw_cs) hx hb hr hlocks dL_law_274
    · exact absurd (show nI 64 ≤ nI 64 from Int32.le_refl _) c9
  | succ n ih =>
    intro t h N B X Bs H locs ls hl hP hD hS hT
    have ht : t < 64 := by omega
    refine lv_iload_n hx hb dL_law_31 rfl (lv_at hl 3 rfl) ?_
    refine lv_bipush (v := 64) hx hb dL_law_32 (by decide) ?_
    refine lv_icmp_ge (tgt := 273) hx hb dL_law_34 (by decide) (fun c9 => ?_) (fun c9 => ?_)
    · exact absurd ((nI_leI (a := 64) (b := t) (by omega) (by omega)).mp c9) (by omega)
    · have kt : ∀ (N : NK) (B X : BK) (Bs : Nat → BK) (H : Heap) (locs : List Loc) (ls : Array Slot), lv_has ls 12 [(0, .ref sb), (1, .ref (x 0)), (2, .int 1), (3, .int (nI (t + 1)))] → va_P D vwCl (xmW cA x b rd X N ++ (bkW (cA 0) (b 0) B ++ (otW (cA 0) b Bs))) H → va_D (fun q => s.heap.size ≤ q) (xmW cA x b rd X N ++ (bkW (cA 0) (b 0) B ++ (otW (cA 0) b Bs))) → va_S (fun q => s.heap.size ≤ q) s.heap H locs → zT ((t + 1 : Nat) : Int) N B X Bs → W p l e room_1 s m #[.ref sb] below meth c H locs (100 + 30 * t + 25) (1000 + 200 * t + 150) (lw_Z below #[.ref sb] s) (F0 m 31 ls []) := fun N B X Bs H locs ls hl hP hD hS hT => by
        refine W.widen (k := 100 + 30 * (t + 1) + 0) (n := 1000 + 200 * (t + 1) + 0) (by omega) (by omega) ?_
        exact ih (t + 1) (by omega) N B X Bs H locs ls hl hP hD hS hT
      exact zlaw_37 E t ht (fun xx yy => zlaw_193 E t ht xx yy (zlaw_239 E t ht xx yy (zlaw_261 E t ht kt xx yy))) N B X Bs H locs ls hl hP hD hS hT
end
