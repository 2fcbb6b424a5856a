/-! the law's cases -/
/-- what holds all along the law -/
def zEv (p : Program) (l : Launch) (s : State) (m : MethodId) (c : Code) (b L : Nat) (xs : Nat → Int32) (D : va_G) (cA : Nat → ClassId) : Prop :=
  p.tables.exec = Jvm.exec ∧ c.code = cL_law ∧ c.maxLocals = 9 ∧ s.vm.findClass RL = some m.cls ∧ (∀ w ∈ wsL_law, w.before #[.ref b] s = true) ∧ va_X b L xs s s.heap ∧ b < s.heap.size ∧ L ≤ 2048 ∧ va_K D vwCl (zTy cA) s ∧ zOut (fun q => s.heap.size ≤ q) s ∧ (va_Nc zeA zeO s ∧ va_Nc zeS zeA s) ∧ l.stackTraces = false
/-- the law goes on behind a call -/
def zKt (p : Program) (l : Launch) (e : Env) (s : State) (m : MethodId) (below : List Frame) (meth : Method) (c : Code) (b i : Nat) (D : va_G) (cA : Nat → ClassId) (o : Nat) (bb : Nat → Nat → Nat) (rd : Nat) (x mo : Nat → Nat) (K : Int) (cK nK : Nat) (Q : State → Prop) : Prop :=
  ∀ (f : Nat → Int64) (r : Nat → Nat) (N : NK) (B X : BK) (Bs : Nat → BK) (M : BK) (Nm : Nat → Nat) (h : Int64) (H : Heap) (locs : List Loc) (ls : Array Slot), lv_has ls 9 [(0, .ref b), (1, .ref (x 0)), (2, .ref (mo 0)), (3, .ref o), (4, .int (nI i))] → va_P D vwCl ((ouW cA o f ++ unW cA x bb rd r X N B Bs) ++ moW cA mo M Nm h) H → va_D (fun q => s.heap.size ≤ q) ((ouW cA o f ++ unW cA x bb rd r X N B Bs) ++ moW cA mo M Nm h) → va_S (fun q => s.heap.size ≤ q) s.heap H locs → zL K r N B X Bs M Nm → W p l e room_1 s m #[.ref b] below meth c H locs cK nK Q (F0 m 1731 ls [])
section
set_option maxHeartbeats 4000000 in
set_option maxRecDepth 100000 in
theorem zca_payIn {p : Program} {l : Launch} {e : Env} {s : State} {m : MethodId} {below : List Frame} {meth : Method} {c : Code} {H : Heap} {locs : List Loc} {k0 n0 cK nK : Nat} {Q : State → Prop} {ls : Array Slot} {b L i : Nat} {xs : Nat → Int32} {D : va_G} {cA : Nat → ClassId} {o rd : Nat} {f : Nat → Int64} {bb : Nat → Nat → Nat} {r x mo : Nat → Nat} {X : BK} {N : NK} {B : BK} {Bs : Nat → BK} {M : BK} {Nm : Nat → Nat} {h : Int64} {K : Int} (E : zEv p l s m c b L xs D cA) (hi : i + 3 < L) (hcK : k0 + 4 ≤ cK ∧ n0 + 24 ≤ nK ∧ cK ≤ 601024 ∧ nK ≤ 7293034) (h0 : zL K r N B X Bs M Nm) (hK9 : K + 620000 ≤ 2 ^ 29) (hl : lv_has ls 9 [(0, .ref b), (1, .ref (x 0)), (2, .ref (mo 0)), (3, .ref o), (4, .int (nI i))]) (hP : va_P D vwCl ((ouW cA o f ++ unW cA x bb rd r X N B Bs) ++ moW cA mo M Nm h) H) (hD : va_D (fun q => s.heap.size ≤ q) ((ouW cA o f ++ unW cA x bb rd r X N B Bs) ++ moW cA mo M Nm h)) (hS : va_S (fun q => s.heap.size ≤ q) s.heap H locs) (kt : zKt p l e s m below meth c b i D cA o bb rd x mo (K + 620000) cK nK Q) : W p l e room_1 s m #[.ref b] below meth c H locs k0 n0 Q (F0 m 168 ls []) := by
  obtain ⟨hx, hb, hml, hown, hts, hX, hbl, hL, hK, hO, hn, hfl⟩ := E
  have hbA : ¬ (fun q => s.heap.size ≤ q) b := Nat.not_le.mpr hbl
  refine lv_aload_n hx hb dL_law_168 rfl (lv_at hl 1 rfl) ?_
  refine zl_arg hx hb hX hbl hbA hS (i := i) (j := 1) (by omega) hL (lv_at hl 4 rfl) (lv_at hl 0 rfl) dL_law_169 dL_law_170 dL_law_172 dL_law_173 dL_law_174 (by decide) ?_
  refine zl_arg hx hb hX hbl hbA hS (i := i) (j := 2) (by omega) hL (lv_at hl 4 rfl) (lv_at hl 0 rfl) dL_law_175 dL_law_176 dL_law_178 dL_law_179 dL_law_180 (by decide) ?_
  refine lv_aload_n hx hb dL_law_181 rfl (lv_at hl 3 rfl) ?_
  refine zv_W (w1 := ouW cA o (vp_updL f 0 ((f_X2_payIn N B Bs (xs (i + 1)) (xs (i + 2))).1).toInt64) ++ unW cA x bb rd r X ((f_X2_payIn N B Bs (xs (i + 1)) (xs (i + 2))).2.1) ((f_X2_payIn N B Bs (xs (i + 1)) (xs (i + 2))).2.2.1) ((f_X2_payIn N B Bs (xs (i + 1)) (xs (i + 2))).2.2.2)) (w2 := ouW cA o f ++ unW cA x bb rd r X N B Bs) (vx_runSW (As := [.ref (x 0), .int (xs (i + 1)), .int (xs (i + 2)), .ref o]) (rest := []) ⟨hx, hb, hml, hown, hts⟩ (zl_payIn l hfl D cA o f bb rd r x X N B Bs (xs (i + 1)) (xs (i + 2)) h0.2.2.2.2.1.1 (by have := h0.2.2.1; omega)) (vx_cwSW 4 hts gL_law_L_payIn rfl rfl rfl zy_L_payIn.2 ⟨(Nat.le_of_ble_eq_true rfl), (Nat.le_of_ble_eq_true rfl)⟩) (zPw_preS hK (zL_P hP) (zL_D hD) hO hn hS (zL_fr hD)) rfl rfl hl.1 rfl (lv_room (Nat.le_of_ble_eq_true rfl)) dL_law_182 ⟨by show k0 + 2 ≤ 601024; omega, by show n0 + 12 ≤ 7293034; omega⟩) hP hD hS (zou_adr zun_adr) (zou_adr zun_adr) (fun k H locs hk hP hD hS => ?_)
  have q := zs_payIn h0 (by omega) (xs (i + 1)) (xs (i + 2)) k hk
  refine lv_istore (lv' := [(5, .int k), (0, .ref b), (1, .ref (x 0)), (2, .ref (mo 0)), (3, .ref o), (4, .int (nI i))]) hx hb dL_law_185 hl (by decide) rfl (fun ls hl => ?_)
  refine lv_aload_n hx hb dL_law_187 rfl (lv_at hl 3 rfl) ?_
  refine zl_arg hx hb hX hbl hbA hS (i := i) (j := 1) (by omega) hL (lv_at hl 5 rfl) (lv_at hl 1 rfl) dL_law_188 dL_law_189 dL_law_191 dL_law_192 dL_law_193 (by decide) ?_
  refine zl_arg hx hb hX hbl hbA hS (i := i) (j := 2) (by omega) hL (lv_at hl 5 rfl) (lv_at hl 1 rfl) dL_law_194 dL_law_195 dL_law_197 dL_law_198 dL_law_199 (by decide) ?_
  refine zm_M (U := (if k = 0 then ouW cA o (vp_updL f 0 ((f_X2_payIn N B Bs (xs (i + 1)) (xs (i + 2))).1).toInt64) ++ unW cA x bb rd r X ((f_X2_payIn N B Bs (xs (i + 1)) (xs (i + 2))).2.1) ((f_X2_payIn N B Bs (xs (i + 1)) (xs (i + 2))).2.2.1) ((f_X2_payIn N B Bs (xs (i + 1)) (xs (i + 2))).2.2.2) else ouW cA o f ++ unW cA x bb rd r X N B Bs)) (w1 := moW cA mo ((f_X3_payIn M Nm (xs (i + 1)) (xs (i + 2))).2.1) ((f_X3_payIn M Nm (xs (i + 1)) (xs (i + 2))).2.2) h) (va_runV (As := [.int (xs (i + 1)), .int (xs (i + 2))]) (rest := []) ⟨hx, hb, hml, hown, hts⟩ (zc_X3_payIn l D cA mo M Nm h (xs (i + 1)) (xs (i + 2)) h0.2.2.1.2) (cwV 2 hts gL_law_X3_payIn rfl rfl rfl zy_X3_payIn ⟨(Nat.le_of_ble_eq_true rfl), (Nat.le_of_ble_eq_true rfl)⟩) (z_preVq (ci := 3) (q0 := 0) hK (zR_P hP) (zR_D hD) rfl rfl) rfl rfl hl.1 rfl (lv_room (Nat.le_of_ble_eq_true rfl)) dL_law_200 ⟨by show k0 + 2 + 0 ≤ 601024; omega, by show n0 + 12 + 0 ≤ 7293034; omega⟩) hP hD hS moW_adr rfl (fun H locs hP hD hS => ?_)
  refine lv_istore (lv' := [(6, .int ((f_X3_payIn M Nm (xs (i + 1)) (xs (i + 2))).1)), (5, .int k), (0, .ref b), (1, .ref (x 0)), (2, .ref (mo 0)), (3, .ref o), (4, .int (nI i))]) hx hb dL_law_203 hl (by decide) rfl (fun ls hl => ?_)
  refine lv_aload_n hx hb dL_law_205 rfl (lv_at hl 4 rfl) ?_
  refine z_E (va_runV (As := []) (rest := []) ⟨hx, hb, hml, hown, hts⟩ (zc_X3_thrown l D cA mo ((f_X3_payIn M Nm (xs (i + 1)) (xs (i + 2))).2.1) ((f_X3_payIn M Nm (xs (i + 1)) (xs (i + 2))).2.2) h) (cwV 0 hts gL_law_X3_thrown rfl rfl rfl zy_X3_thrown ⟨(Nat.le_of_ble_eq_true rfl), (Nat.le_of_ble_eq_true rfl)⟩) (z_preVq (ci := 3) (q0 := 0) hK (zR_P hP) (zR_D hD) rfl rfl) rfl rfl hl.1 rfl (lv_room (Nat.le_of_ble_eq_true rfl)) dL_law_206 ⟨by show k0 + 2 + 0 ≤ 601024; omega, by show n0 + 12 + 0 ≤ 7293034; omega⟩) rfl ?_
  refine lv_iload hx hb dL_law_209 (lv_at hl 1 rfl) ?_
  refine lv_icmp_eq (tgt := 216) hx hb dL_law_211 (by decide) (fun _ => ?_) (fun c9 => absurd q.1 c9)
  refine lv_iload hx hb dL_law_216 (lv_at hl 1 rfl) ?_
  refine lv_if_ne (tgt := 233) hx hb dL_law_218 (by decide) (fun c9 => ?_) (fun c9 => ?_)
  · rw [zW_neg c9] at hP hD
    refine lv_goto (tgt := 1731) hx hb dL_law_233 (by decide) ?_
    refine W.widen (k := cK) (n := nK) (by omega) (by omega) ?_
    exact kt _ _ _ _ _ _ _ _ _ _ _ _ (lv_sub hl [2, 3, 4, 5, 6] rfl) hP hD hS ((q.2.2 c9).mono (by omega))
  · rw [zW_pos c9] at hP hD
    refine lv_aload_n hx hb dL_law_221 rfl (lv_at hl 5 rfl) ?_
    refine lv_iconst (v := 0) hx hb dL_law_222 (by decide) ?_
    refine zw_lald hx hb hK (U := unW cA x bb rd r X ((f_X2_payIn N B Bs (xs (i + 1)) (xs (i + 2))).2.1) ((f_X2_payIn N B Bs (xs (i + 1)) (xs (i + 2))).2.2.1) ((f_X2_payIn N B Bs (xs (i + 1)) (xs (i + 2))).2.2.2) ++ moW cA mo ((f_X3_payIn M Nm (xs (i + 1)) (xs (i + 2))).2.1) ((f_X3_payIn M Nm (xs (i + 1)) (xs (i + 2))).2.2) h) (by rw [← List.append_assoc]; exact hP) dL_law_223 ?_
    refine lv_iload hx hb dL_law_224 (lv_at hl 0 rfl) ?_
    refine lv_i2l hx hb dL_law_226 rfl ?_
    refine W.lcmp hx hb dL_law_227 ?_
    refine z_top (y := 0) (by rw [zw_up, (q.2.1 c9).1]; exact zlc_eq _) ?_
    refine lv_if_eq (tgt := 233) hx hb dL_law_228 (by decide) (fun _ => ?_) (fun c8 => absurd rfl c8)
    refine lv_goto (tgt := 1731) hx hb dL_law_233 (by decide) ?_
    refine W.widen (k := cK) (n := nK) (by omega) (by omega) ?_
    exact kt _ _ _ _ _ _ _ _ _ _ _ _ (lv_sub hl [2, 3, 4, 5, 6] rfl) hP hD hS ((q.2.1 c9).2.mono (by omega))
set_option maxHeartbeats 4000000 in
set_option maxRecDepth 100000 in
theorem zca_payOut {p : Program} {l : Launch} {e : Env} {s : State} {m : MethodId} {below : List Frame} {meth : Method} {c : Code} {H : Heap} {locs : List Loc} {k0 n0 cK nK : Nat} {Q : State → Prop} {ls : Array Slot} {b L i : Nat} {xs : Nat → Int32} {D : va_G} {cA : Nat → ClassId} {o rd : Nat} {f : Nat → Int64} {bb : Nat → Nat → Nat} {r x mo : Nat → Nat} {X : BK} {N : NK} {B : BK} {Bs : Nat → BK} {M : BK} {Nm : Nat → Nat} {h : Int64} {K : Int} (E : zEv p l s m c b L xs D cA) (hi : i + 3 < L) (hcK : k0 + 4 ≤ cK ∧ n0 + 24 ≤ nK ∧ cK ≤ 601024 ∧ nK ≤ 7293034) (h0 : zL K r N B X Bs M Nm) (hK9 : K + 620000 ≤ 2 ^ 29) (hl : lv_has ls 9 [(0, .ref b), (1, .ref (x 0)), (2, .ref (mo 0)), (3, .ref o), (4, .int (nI i))]) (hP : va_P D vwCl ((ouW cA o f ++ unW cA x bb rd r X N B Bs) ++ moW cA mo M Nm h) H) (hD : va_D (fun q => s.heap.size ≤ q) ((ouW cA o f ++ unW cA x bb rd r X N B Bs) ++ moW cA mo M Nm h)) (hS : va_S (fun q => s.heap.size ≤ q) s.heap H locs) (kt : zKt p l e s m below meth c b i D cA o bb rd x mo (K + 620000) cK nK Q) : W p l e room_1 s m #[.ref b] below meth c H locs k0 n0 Q (F0 m 236 ls []) := by
  obtain ⟨hx, hb, hml, hown, hts, hX, hbl, hL, hK, hO, hn, hfl⟩ := E
  have hbA : ¬ (fun q => s.heap.size ≤ q) b := Nat.not_le.mpr hbl
  refine lv_aload_n hx hb dL_law_236 rfl (lv_at hl 1 rfl) ?_
  refine zl_arg hx hb hX hbl hbA hS (i := i) (j := 1) (by omega) hL (lv_at hl 4 rfl) (lv_at hl 0 rfl) dL_law_237 dL_law_238 dL_law_240 dL_law_241 dL_law_242 (by decide) ?_
  refine zl_arg hx hb hX hbl hbA hS (i := i) (j := 2) (by omega) hL (lv_at hl 4 rfl) (lv_at hl 0 rfl) dL_law_243 dL_law_244 dL_law_246 dL_law_247 dL_law_248 (by decide) ?_
  refine lv_aload_n hx hb dL_law_249 rfl (lv_at hl 3 rfl) ?_
  refine zv_W (w1 := ouW cA o (vp_updL f 0 ((f_X2_payOut N B Bs (xs (i + 1)) (xs (i + 2))).1).toInt64) ++ unW cA x bb rd r X ((f_X2_payOut N B Bs (xs (i + 1)) (xs (i + 2))).2.1) ((f_X2_payOut N B Bs (xs (i + 1)) (xs (i + 2))).2.2.1) ((f_X2_payOut N B Bs (xs (i + 1)) (xs (i + 2))).2.2.2)) (w2 := ouW cA o f ++ unW cA x bb rd r X N B Bs) (vx_runSW (As := [.ref (x 0), .int (xs (i + 1)), .int (xs (i + 2)), .ref o]) (rest := []) ⟨hx, hb, hml, hown, hts⟩ (zl_payOut l hfl D cA o f bb rd r x X N B Bs (xs (i + 1)) (xs (i + 2)) h0.2.2.2.2.1.1 (by have := h0.2.2.1; omega)) (vx_cwSW 4 hts gL_law_L_payOut rfl rfl rfl zy_L_payOut.2 ⟨(Nat.le_of_ble_eq_true rfl), (Nat.le_of_ble_eq_true rfl)⟩) (zPw_preS hK (zL_P hP) (zL_D hD) hO hn hS (zL_fr hD)) rfl rfl hl.1 rfl (lv_room (Nat.le_of_ble_eq_true rfl)) dL_law_250 ⟨by show k0 + 2 ≤ 601024; omega, by show n0 + 12 ≤ 7293034; omega⟩) hP hD hS (zou_adr zun_adr) (zou_adr zun_adr) (fun k H locs hk hP hD hS => ?_)
  have q := zs_payOut h0 (by omega) (xs (i + 1)) (xs (i + 2)) k hk
  refine lv_istore (lv' := [(5, .int k), (0, .ref b), (1, .ref (x 0)), (2, .ref (mo 0)), (3, .ref o), (4, .int (nI i))]) hx hb dL_law_253 hl (by decide) rfl (fun ls hl => ?_)
  refine lv_aload_n hx hb dL_law_255 rfl (lv_at hl 3 rfl) ?_
  refine zl_arg hx hb hX hbl hbA hS (i := i) (j := 1) (by omega) hL (lv_at hl 5 rfl) (lv_at hl 1 rfl) dL_law_256 dL_law_257 dL_law_259 dL_law_260 dL_law_261 (by decide) ?_
  refine zl_arg hx hb hX hbl hbA hS (i := i) (j := 2) (by omega) hL (lv_at hl 5 rfl) (lv_at hl 1 rfl) dL_law_262 dL_law_263 dL_law_265 dL_law_266 dL_law_267 (by decide) ?_
  refine zm_M (U := (if k = 0 then ouW cA o (vp_updL f 0 ((f_X2_payOut N B Bs (xs (i + 1)) (xs (i + 2))).1).toInt64) ++ unW cA x bb rd r X ((f_X2_payOut N B Bs (xs (i + 1)) (xs (i + 2))).2.1) ((f_X2_payOut N B Bs (xs (i + 1)) (xs (i + 2))).2.2.1) ((f_X2_payOut N B Bs (xs (i + 1)) (xs (i + 2))).2.2.2) else ouW cA o f ++ unW cA x bb rd r X N B Bs)) (w1 := moW cA mo ((f_X3_payOut M Nm (xs (i + 1)) (xs (i + 2))).2.1) ((f_X3_payOut M Nm (xs (i + 1)) (xs (i + 2))).2.2) h) (va_runV (As := [.int (xs (i + 1)), .int (xs (i + 2))]) (rest := []) ⟨hx, hb, hml, hown, hts⟩ (zc_X3_payOut l D cA mo M Nm h (xs (i + 1)) (xs (i + 2)) h0.2.2.1.2) (cwV 2 hts gL_law_X3_payOut rfl rfl rfl zy_X3_payOut ⟨(Nat.le_of_ble_eq_true rfl), (Nat.le_of_ble_eq_true rfl)⟩) (z_preVq (ci := 3) (q0 := 0) hK (zR_P hP) (zR_D hD) rfl rfl) rfl rfl hl.1 rfl (lv_room (Nat.le_of_ble_eq_true rfl)) dL_law_268 ⟨by show k0 + 2 + 0 ≤ 601024; omega, by show n0 + 12 + 0 ≤ 7293034; omega⟩) hP hD hS moW_adr rfl (fun H locs hP hD hS => ?_)
  refine lv_istore (lv' := [(6, .int ((f_X3_payOut M Nm (xs (i + 1)) (xs (i + 2))).1)), (5, .int k), (0, .ref b), (1, .ref (x 0)), (2, .ref (mo 0)), (3, .ref o), (4, .int (nI i))]) hx hb dL_law_271 hl (by decide) rfl (fun ls hl => ?_)
  refine lv_aload_n hx hb dL_law_273 rfl (lv_at hl 4 rfl) ?_
  refine z_E (va_runV (As := []) (rest := []) ⟨hx, hb, hml, hown, hts⟩ (zc_X3_thrown l D cA mo ((f_X3_payOut M Nm (xs (i + 1)) (xs (i + 2))).2.1) ((f_X3_payOut M Nm (xs (i + 1)) (xs (i + 2))).2.2) h) (cwV 0 hts gL_law_X3_thrown rfl rfl rfl zy_X3_thrown ⟨(Nat.le_of_ble_eq_true rfl), (Nat.le_of_ble_eq_true rfl)⟩) (z_preVq (ci := 3) (q0 := 0) hK (zR_P hP) (zR_D hD) rfl rfl) rfl rfl hl.1 rfl (lv_room (Nat.le_of_ble_eq_true rfl)) dL_law_274 ⟨by show k0 + 2 + 0 ≤ 601024; omega, by show n0 + 12 + 0 ≤ 7293034; omega⟩) rfl ?_
  refine lv_iload hx hb dL_law_277 (lv_at hl 1 rfl) ?_
  refine lv_icmp_eq (tgt := 284) hx hb dL_law_279 (by decide) (fun _ => ?_) (fun c9 => absurd q.1 c9)
  refine lv_iload hx hb dL_law_284 (lv_at hl 1 rfl) ?_
  refine lv_if_ne (tgt := 301) hx hb dL_law_286 (by decide) (fun c9 => ?_) (fun c9 => ?_)
  · rw [zW_neg c9] at hP hD
    refine lv_goto (tgt := 1731) hx hb dL_law_301 (by decide) ?_
    refine W.widen (k := cK) (n := nK) (by omega) (by omega) ?_
    exact kt _ _ _ _ _ _ _ _ _ _ _ _ (lv_sub hl [2, 3, 4, 5, 6] rfl) hP hD hS ((q.2.2 c9).mono (by omega))
  · rw [zW_pos c9] at hP hD
    refine lv_aload_n hx hb dL_law_289 rfl (lv_at hl 5 rfl) ?_
    refine lv_iconst (v := 0) hx hb dL_law_290 (by decide) ?_
    refine zw_lald hx hb hK (U := unW cA x bb rd r X ((f_X2_payOut N B Bs (xs (i + 1)) (xs (i + 2))).2.1) ((f_X2_payOut N B Bs (xs (i + 1)) (xs (i + 2))).2.2.1) ((f_X2_payOut N B Bs (xs (i + 1)) (xs (i + 2))).2.2.2) ++ moW cA mo ((f_X3_payOut M Nm (xs (i + 1)) (xs (i + 2))).2.1) ((f_X3_payOut M Nm (xs (i + 1)) (xs (i + 2))).2.2) h) (by rw [← List.append_assoc]; exact hP) dL_law_291 ?_
    refine lv_iload hx hb dL_law_292 (lv_at hl 0 rfl) ?_
    refine lv_i2l hx hb dL_law_294 rfl ?_
    refine W.lcmp hx hb dL_law_295 ?_
    refine z_top (y := 0) (by rw [zw_up, (q.2.1 c9).1]; exact zlc_eq _) ?_
    refine lv_if_eq (tgt := 301) hx hb dL_law_296 (by decide) (fun _ => ?_) (fun c8 => absurd rfl c8)
    refine lv_goto (tgt := 1731) hx hb dL_law_301 (by decide) ?_
    refine W.widen (k := cK) (n := nK) (by omega) (by omega) ?_
    exact kt _ _ _ _ _ _ _ _ _ _ _ _ (lv_sub hl [2, 3, 4, 5, 6] rfl) hP hD hS ((q.2.1 c9).2.mono (by omega))
set_option maxHeartbeats 4000000 in
set_option maxRecDepth 100000 in
theorem zca_repay {p : Program} {l : Launch} {e : Env} {s : State} {m : MethodId} {below : List Frame} {meth : Method} {c : Code} {H : Heap} {locs : List Loc} {k0 n0 cK nK : Nat} {Q : State → Prop} {ls : Array Slot} {b L i : Nat} {xs : Nat → Int32} {D : va_G} {cA : Nat → ClassId} {o rd : Nat} {f : Nat → Int64} {bb : Nat → Nat → Nat} {r x mo : Nat → Nat} {X : BK} {N : NK} {B : BK} {Bs : Nat → BK} {M : BK} {Nm : Nat → Nat} {h : Int64} {K : Int} (E : zEv p l s m c b L xs D cA) (hi : i + 3 < L) (hcK : k0 + 4 ≤ cK ∧ n0 + 24 ≤ nK ∧ cK ≤ 601024 ∧ nK ≤ 7293034) (h0 : zL K r N B X Bs M Nm) (hK9 : K + 620000 ≤ 2 ^ 29) (hl : lv_has ls 9 [(0, .ref b), (1, .ref (x 0)), (2, .ref (mo 0)), (3, .ref o), (4, .int (nI i))]) (hP : va_P D vwCl ((ouW cA o f ++ unW cA x bb rd r X N B Bs) ++ moW cA mo M Nm h) H) (hD : va_D (fun q => s.heap.size ≤ q) ((ouW cA o f ++ unW cA x bb rd r X N B Bs) ++ moW cA mo M Nm h)) (hS : va_S (fun q => s.heap.size ≤ q) s.heap H locs) (kt : zKt p l e s m below meth c b i D cA o bb rd x mo (K + 620000) cK nK Q) : W p l e room_1 s m #[.ref b] below meth c H locs k0 n0 Q (F0 m 544 ls []) := by
  obtain ⟨hx, hb, hml, hown, hts, hX, hbl, hL, hK, hO, hn, hfl⟩ := E
  have hbA : ¬ (fun q => s.heap.size ≤ q) b := Nat.not_le.mpr hbl
  refine lv_aload_n hx hb dL_law_544 rfl (lv_at hl 1 rfl) ?_
  refine zl_arg hx hb hX hbl hbA hS (i := i) (j := 1) (by omega) hL (lv_at hl 4 rfl) (lv_at hl 0 rfl) dL_law_545 dL_law_546 dL_law_548 dL_law_549 dL_law_550 (by decide) ?_
  refine zl_arg hx hb hX hbl hbA hS (i := i) (j := 2) (by omega) hL (lv_at hl 4 rfl) (lv_at hl 0 rfl) dL_law_551 dL_law_552 dL_law_554 dL_law_555 dL_law_556 (by decide) ?_
  refine lv_aload_n hx hb dL_law_557 rfl (lv_at hl 3 rfl) ?_
  refine zv_W (w1 := ouW cA o (vp_updL f 0 ((f_X2_repay N B Bs (xs (i + 1)) (xs (i + 2))).1).toInt64) ++ unW cA x bb rd r X ((f_X2_repay N B Bs (xs (i + 1)) (xs (i + 2))).2.1) ((f_X2_repay N B Bs (xs (i + 1)) (xs (i + 2))).2.2.1) ((f_X2_repay N B Bs (xs (i + 1)) (xs (i + 2))).2.2.2)) (w2 := ouW cA o f ++ unW cA x bb rd r X N B Bs) (vx_runSW (As := [.ref (x 0), .int (xs (i + 1)), .int (xs (i + 2)), .ref o]) (rest := []) ⟨hx, hb, hml, hown, hts⟩ (zl_repay l hfl D cA o f bb rd r x X N B Bs (xs (i + 1)) (xs (i + 2)) h0.2.2.2.2.1.1 (by have := h0.2.2.1; omega)) (vx_cwSW 4 hts gL_law_L_repay rfl rfl rfl zy_L_repay.2 ⟨(Nat.le_of_ble_eq_true rfl), (Nat.le_of_ble_eq_true rfl)⟩) (zPw_preS hK (zL_P hP) (zL_D hD) hO hn hS (zL_fr hD)) rfl rfl hl.1 rfl (lv_room (Nat.le_of_ble_eq_true rfl)) dL_law_558 ⟨by show k0 + 2 ≤ 601024; omega, by show n0 + 12 ≤ 7293034; omega⟩) hP hD hS (zou_adr zun_adr) (zou_adr zun_adr) (fun k H locs hk hP hD hS => ?_)
  have q := zs_repay h0 (by omega) (xs (i + 1)) (xs (i + 2)) k hk
  refine lv_istore (lv' := [(5, .int k), (0, .ref b), (1, .ref (x 0)), (2, .ref (mo 0)), (3, .ref o), (4, .int (nI i))]) hx hb dL_law_561 hl (by decide) rfl (fun ls hl => ?_)
  refine lv_aload_n hx hb dL_law_563 rfl (lv_at hl 3 rfl) ?_
  refine zl_arg hx hb hX hbl hbA hS (i := i) (j := 1) (by omega) hL (lv_at hl 5 rfl) (lv_at hl 1 rfl) dL_law_564 dL_law_565 dL_law_567 dL_law_568 dL_law_569 (by decide) ?_
  refine zl_arg hx hb hX hbl hbA hS (i := i) (j := 2) (by omega) hL (lv_at hl 5 rfl) (lv_at hl 1 rfl) dL_law_570 dL_law_571 dL_law_573 dL_law_574 dL_law_575 (by decide) ?_
  refine zm_M (U := (if k = 0 then ouW cA o (vp_updL f 0 ((f_X2_repay N B Bs (xs (i + 1)) (xs (i + 2))).1).toInt64) ++ unW cA x bb rd r X ((f_X2_repay N B Bs (xs (i + 1)) (xs (i + 2))).2.1) ((f_X2_repay N B Bs (xs (i + 1)) (xs (i + 2))).2.2.1) ((f_X2_repay N B Bs (xs (i + 1)) (xs (i + 2))).2.2.2) else ouW cA o f ++ unW cA x bb rd r X N B Bs)) (w1 := moW cA mo ((f_X3_repay M Nm (xs (i + 1)) (xs (i + 2))).2.1) ((f_X3_repay M Nm (xs (i + 1)) (xs (i + 2))).2.2) h) (va_runV (As := [.int (xs (i + 1)), .int (xs (i + 2))]) (rest := []) ⟨hx, hb, hml, hown, hts⟩ (zc_X3_repay l D cA mo M Nm h (xs (i + 1)) (xs (i + 2)) h0.2.2.1.2) (cwV 2 hts gL_law_X3_repay rfl rfl rfl zy_X3_repay ⟨(Nat.le_of_ble_eq_true rfl), (Nat.le_of_ble_eq_true rfl)⟩) (z_preVq (ci := 3) (q0 := 0) hK (zR_P hP) (zR_D hD) rfl rfl) rfl rfl hl.1 rfl (lv_room (Nat.le_of_ble_eq_true rfl)) dL_law_576 ⟨by show k0 + 2 + 0 ≤ 601024; omega, by show n0 + 12 + 0 ≤ 7293034; omega⟩) hP hD hS moW_adr rfl (fun H locs hP hD hS => ?_)
  refine lv_istore (lv' := [(6, .int ((f_X3_repay M Nm (xs (i + 1)) (xs (i + 2))).1)), (5, .int k), (0, .ref b), (1, .ref (x 0)), (2, .ref (mo 0)), (3, .ref o), (4, .int (nI i))]) hx hb dL_law_579 hl (by decide) rfl (fun ls hl => ?_)
  refine lv_aload_n hx hb dL_law_581 rfl (lv_at hl 4 rfl) ?_
  refine z_E (va_runV (As := []) (rest := []) ⟨hx, hb, hml, hown, hts⟩ (zc_X3_thrown l D cA mo ((f_X3_repay M Nm (xs (i + 1)) (xs (i + 2))).2.1) ((f_X3_repay M Nm (xs (i + 1)) (xs (i + 2))).2.2) h) (cwV 0 hts gL_law_X3_thrown rfl rfl rfl zy_X3_thrown ⟨(Nat.le_of_ble_eq_true rfl), (Nat.le_of_ble_eq_true rfl)⟩) (z_preVq (ci := 3) (q0 := 0) hK (zR_P hP) (zR_D hD) rfl rfl) rfl rfl hl.1 rfl (lv_room (Nat.le_of_ble_eq_true rfl)) dL_law_582 ⟨by show k0 + 2 + 0 ≤ 601024; omega, by show n0 + 12 + 0 ≤ 7293034; omega⟩) rfl ?_
  refine lv_iload hx hb dL_law_585 (lv_at hl 1 rfl) ?_
  refine lv_icmp_eq (tgt := 592) hx hb dL_law_587 (by decide) (fun _ => ?_) (fun c9 => absurd q.1 c9)
  refine lv_iload hx hb dL_law_592 (lv_at hl 1 rfl) ?_
  refine lv_if_ne (tgt := 609) hx hb dL_law_594 (by decide) (fun c9 => ?_) (fun c9 => ?_)
  · rw [zW_neg c9] at hP hD
    refine lv_goto (tgt := 1731) hx hb dL_law_609 (by decide) ?_
    refine W.widen (k := cK) (n := nK) (by omega) (by omega) ?_
    exact kt _ _ _ _ _ _ _ _ _ _ _ _ (lv_sub hl [2, 3, 4, 5, 6] rfl) hP hD hS ((q.2.2 c9).mono (by omega))
  · rw [zW_pos c9] at hP hD
    refine lv_aload_n hx hb dL_law_597 rfl (lv_at hl 5 rfl) ?_
    refine lv_iconst (v := 0) hx hb dL_law_598 (by decide) ?_
    refine zw_lald hx hb hK (U := unW cA x bb rd r X ((f_X2_repay N B Bs (xs (i + 1)) (xs (i + 2))).2.1) ((f_X2_repay N B Bs (xs (i + 1)) (xs (i + 2))).2.2.1) ((f_X2_repay N B Bs (xs (i + 1)) (xs (i + 2))).2.2.2) ++ moW cA mo ((f_X3_repay M Nm (xs (i + 1)) (xs (i + 2))).2.1) ((f_X3_repay M Nm (xs (i + 1)) (xs (i + 2))).2.2) h) (by rw [← List.append_assoc]; exact hP) dL_law_599 ?_
    refine lv_iload hx hb dL_law_600 (lv_at hl 0 rfl) ?_
    refine lv_i2l hx hb dL_law_602 rfl ?_
    refine W.lcmp hx hb dL_law_603 ?_
    refine z_top (y := 0) (by rw [zw_up, (q.2.1 c9).1]; exact zlc_eq _) ?_
    refine lv_if_eq (tgt := 609) hx hb dL_law_604 (by decide) (fun _ => ?_) (fun c8 => absurd rfl c8)
    refine lv_goto (tgt := 1731) hx hb dL_law_609 (by decide) ?_
    refine W.widen (k := cK) (n := nK) (by omega) (by omega) ?_
    exact kt _ _ _ _ _ _ _ _ _ _ _ _ (lv_sub hl [2, 3, 4, 5, 6] rfl) hP hD hS ((q.2.1 c9).2.mono (by omega))
set_option maxHeartbeats 4000000 in
set_option maxRecDepth 100000 in
theorem zca_pledge {p : Program} {l : Launch} {e : Env} {s : State} {m : MethodId} {below : List Frame} {meth : Method} {c : Code} {H : Heap} {locs : List Loc} {k0 n0 cK nK : Nat} {Q : State → Prop} {ls : Array Slot} {b L i : Nat} {xs : Nat → Int32} {D : va_G} {cA : Nat → ClassId} {o rd : Nat} {f : Nat → Int64} {bb : Nat → Nat → Nat} {r x mo : Nat → Nat} {X : BK} {N : NK} {B : BK} {Bs : Nat → BK} {M : BK} {Nm : Nat → Nat} {h : Int64} {K : Int} (E : zEv p l s m c b L xs D cA) (hi : i + 3 < L) (hcK : k0 + 4 ≤ cK ∧ n0 + 24 ≤ nK ∧ cK ≤ 601024 ∧ nK ≤ 7293034) (h0 : zL K r N B X Bs M Nm) (hK9 : K + 620000 ≤ 2 ^ 29) (hl : lv_has ls 9 [(0, .ref b), (1, .ref (x 0)), (2, .ref (mo 0)), (3, .ref o), (4, .int (nI i))]) (hP : va_P D vwCl ((ouW cA o f ++ unW cA x bb rd r X N B Bs) ++ moW cA mo M Nm h) H) (hD : va_D (fun q => s.heap.size ≤ q) ((ouW cA o f ++ unW cA x bb rd r X N B Bs) ++ moW cA mo M Nm h)) (hS : va_S (fun q => s.heap.size ≤ q) s.heap H locs) (kt : zKt p l e s m below meth c b i D cA o bb rd x mo (K + 620000) cK nK Q) : W p l e room_1 s m #[.ref b] below meth c H locs k0 n0 Q (F0 m 304 ls []) := by
  obtain ⟨hx, hb, hml, hown, hts, hX, hbl, hL, hK, hO, hn, hfl⟩ := E
  have hbA : ¬ (fun q => s.heap.size ≤ q) b := Nat.not_le.mpr hbl
  refine lv_aload_n hx hb dL_law_304 rfl (lv_at hl 1 rfl) ?_
  refine zl_arg hx hb hX hbl hbA hS (i := i) (j := 1) (by omega) hL (lv_at hl 4 rfl) (lv_at hl 0 rfl) dL_law_305 dL_law_306 dL_law_308 dL_law_309 dL_law_310 (by decide) ?_
  refine zl_arg hx hb hX hbl hbA hS (i := i) (j := 2) (by omega) hL (lv_at hl 4 rfl) (lv_at hl 0 rfl) dL_law_311 dL_law_312 dL_law_314 dL_law_315 dL_law_316 (by decide) ?_
  refine zl_arg hx hb hX hbl hbA hS (i := i) (j := 3) (by omega) hL (lv_at hl 4 rfl) (lv_at hl 0 rfl) dL_law_317 dL_law_318 dL_law_320 dL_law_321 dL_law_322 (by decide) ?_
  refine lv_aload_n hx hb dL_law_323 rfl (lv_at hl 3 rfl) ?_
  refine zv_W (w1 := ouW cA o (vp_updL f 0 ((f_X2_pledge N B Bs (xs (i + 1)) (xs (i + 2)) (xs (i + 3))).1).toInt64) ++ unW cA x bb rd r X ((f_X2_pledge N B Bs (xs (i + 1)) (xs (i + 2)) (xs (i + 3))).2.1) ((f_X2_pledge N B Bs (xs (i + 1)) (xs (i + 2)) (xs (i + 3))).2.2.1) ((f_X2_pledge N B Bs (xs (i + 1)) (xs (i + 2)) (xs (i + 3))).2.2.2)) (w2 := ouW cA o f ++ unW cA x bb rd r X N B Bs) (vx_runSW (As := [.ref (x 0), .int (xs (i + 1)), .int (xs (i + 2)), .int (xs (i + 3)), .ref o]) (rest := []) ⟨hx, hb, hml, hown, hts⟩ (zl_pledge l hfl D cA o f bb rd r x X N B Bs (xs (i + 1)) (xs (i + 2)) (xs (i + 3)) h0.2.2.2.2.1.1 (by have := h0.2.2.1; omega)) (vx_cwSW 5 hts gL_law_L_pledge rfl rfl rfl zy_L_pledge.2 ⟨(Nat.le_of_ble_eq_true rfl), (Nat.le_of_ble_eq_true rfl)⟩) (zPw_preS hK (zL_P hP) (zL_D hD) hO hn hS (zL_fr hD)) rfl rfl hl.1 rfl (lv_room (Nat.le_of_ble_eq_true rfl)) dL_law_324 ⟨by show k0 + 4 ≤ 601024; omega, by show n0 + 24 ≤ 7293034; omega⟩) hP hD hS (zou_adr zun_adr) (zou_adr zun_adr) (fun k H locs hk hP hD hS => ?_)
  have q := zs_pledge h0 (by omega) (xs (i + 1)) (xs (i + 2)) (xs (i + 3)) k hk
  refine lv_istore (lv' := [(5, .int k), (0, .ref b), (1, .ref (x 0)), (2, .ref (mo 0)), (3, .ref o), (4, .int (nI i))]) hx hb dL_law_327 hl (by decide) rfl (fun ls hl => ?_)
  refine lv_aload_n hx hb dL_law_329 rfl (lv_at hl 3 rfl) ?_
  refine zl_arg hx hb hX hbl hbA hS (i := i) (j := 1) (by omega) hL (lv_at hl 5 rfl) (lv_at hl 1 rfl) dL_law_330 dL_law_331 dL_law_333 dL_law_334 dL_law_335 (by decide) ?_
  refine zl_arg hx hb hX hbl hbA hS (i := i) (j := 2) (by omega) hL (lv_at hl 5 rfl) (lv_at hl 1 rfl) dL_law_336 dL_law_337 dL_law_339 dL_law_340 dL_law_341 (by decide) ?_
  refine zl_arg hx hb hX hbl hbA hS (i := i) (j := 3) (by omega) hL (lv_at hl 5 rfl) (lv_at hl 1 rfl) dL_law_342 dL_law_343 dL_law_345 dL_law_346 dL_law_347 (by decide) ?_
  refine zm_M (U := (if k = 0 then ouW cA o (vp_updL f 0 ((f_X2_pledge N B Bs (xs (i + 1)) (xs (i + 2)) (xs (i + 3))).1).toInt64) ++ unW cA x bb rd r X ((f_X2_pledge N B Bs (xs (i + 1)) (xs (i + 2)) (xs (i + 3))).2.1) ((f_X2_pledge N B Bs (xs (i + 1)) (xs (i + 2)) (xs (i + 3))).2.2.1) ((f_X2_pledge N B Bs (xs (i + 1)) (xs (i + 2)) (xs (i + 3))).2.2.2) else ouW cA o f ++ unW cA x bb rd r X N B Bs)) (w1 := moW cA mo ((f_X3_pledge M Nm (xs (i + 1)) (xs (i + 2)) (xs (i + 3))).2.1) ((f_X3_pledge M Nm (xs (i + 1)) (xs (i + 2)) (xs (i + 3))).2.2) h) (va_runV (As := [.int (xs (i + 1)), .int (xs (i + 2)), .int (xs (i + 3))]) (rest := []) ⟨hx, hb, hml, hown, hts⟩ (zc_X3_pledge l D cA mo M Nm h (xs (i + 1)) (xs (i + 2)) (xs (i + 3)) h0.2.2.1.2) (cwV 3 hts gL_law_X3_pledge rfl rfl rfl zy_X3_pledge ⟨(Nat.le_of_ble_eq_true rfl), (Nat.le_of_ble_eq_true rfl)⟩) (z_preVq (ci := 3) (q0 := 0) hK (zR_P hP) (zR_D hD) rfl rfl) rfl rfl hl.1 rfl (lv_room (Nat.le_of_ble_eq_true rfl)) dL_law_348 ⟨by show k0 + 4 + 0 ≤ 601024; omega, by show n0 + 24 + 0 ≤ 7293034; omega⟩) hP hD hS moW_adr rfl (fun H locs hP hD hS => ?_)
  refine lv_istore (lv' := [(6, .int ((f_X3_pledge M Nm (xs (i + 1)) (xs (i + 2)) (xs (i + 3))).1)), (5, .int k), (0, .ref b), (1, .ref (x 0)), (2, .ref (mo 0)), (3, .ref o), (4, .int (nI i))]) hx hb dL_law_351 hl (by decide) rfl (fun ls hl => ?_)
  refine lv_aload_n hx hb dL_law_353 rfl (lv_at hl 4 rfl) ?_
  refine z_E (va_runV (As := []) (rest := []) ⟨hx, hb, hml, hown, hts⟩ (zc_X3_thrown l D cA mo ((f_X3_pledge M Nm (xs (i + 1)) (xs (i + 2)) (xs (i + 3))).2.1) ((f_X3_pledge M Nm (xs (i + 1)) (xs (i + 2)) (xs (i + 3))).2.2) h) (cwV 0 hts gL_law_X3_thrown rfl rfl rfl zy_X3_thrown ⟨(Nat.le_of_ble_eq_true rfl), (Nat.le_of_ble_eq_true rfl)⟩) (z_preVq (ci := 3) (q0 := 0) hK (zR_P hP) (zR_D hD) rfl rfl) rfl rfl hl.1 rfl (lv_room (Nat.le_of_ble_eq_true rfl)) dL_law_354 ⟨by show k0 + 4 + 0 ≤ 601024; omega, by show n0 + 24 + 0 ≤ 7293034; omega⟩) rfl ?_
  refine lv_iload hx hb dL_law_357 (lv_at hl 1 rfl) ?_
  refine lv_icmp_eq (tgt := 364) hx hb dL_law_359 (by decide) (fun _ => ?_) (fun c9 => absurd q.1 c9)
  refine lv_iload hx hb dL_law_364 (lv_at hl 1 rfl) ?_
  refine lv_if_ne (tgt := 381) hx hb dL_law_366 (by decide) (fun c9 => ?_) (fun c9 => ?_)
  · rw [zW_neg c9] at hP hD
    refine lv_goto (tgt := 1731) hx hb dL_law_381 (by decide) ?_
    refine W.widen (k := cK) (n := nK) (by omega) (by omega) ?_
    exact kt _ _ _ _ _ _ _ _ _ _ _ _ (lv_sub hl [2, 3, 4, 5, 6] rfl) hP hD hS ((q.2.2 c9).mono (by omega))
  · rw [zW_pos c9] at hP hD
    refine lv_aload_n hx hb dL_law_369 rfl (lv_at hl 5 rfl) ?_
    refine lv_iconst (v := 0) hx hb dL_law_370 (by decide) ?_
    refine zw_lald hx hb hK (U := unW cA x bb rd r X ((f_X2_pledge N B Bs (xs (i + 1)) (xs (i + 2)) (xs (i + 3))).2.1) ((f_X2_pledge N B Bs (xs (i + 1)) (xs (i + 2)) (xs (i + 3))).2.2.1) ((f_X2_pledge N B Bs (xs (i + 1)) (xs (i + 2)) (xs (i + 3))).2.2.2) ++ moW cA mo ((f_X3_pledge M Nm (xs (i + 1)) (xs (i + 2)) (xs (i + 3))).2.1) ((f_X3_pledge M Nm (xs (i + 1)) (xs (i + 2)) (xs (i + 3))).2.2) h) (by rw [← List.append_assoc]; exact hP) dL_law_371 ?_
    refine lv_iload hx hb dL_law_372 (lv_at hl 0 rfl) ?_
    refine lv_i2l hx hb dL_law_374 rfl ?_
    refine W.lcmp hx hb dL_law_375 ?_
    refine z_top (y := 0) (by rw [zw_up, (q.2.1 c9).1]; exact zlc_eq _) ?_
    refine lv_if_eq (tgt := 381) hx hb dL_law_376 (by decide) (fun _ => ?_) (fun c8 => absurd rfl c8)
    refine lv_goto (tgt := 1731) hx hb dL_law_381 (by decide) ?_
    refine W.widen (k := cK) (n := nK) (by omega) (by omega) ?_
    exact kt _ _ _ _ _ _ _ _ _ _ _ _ (lv_sub hl [2, 3, 4, 5, 6] rfl) hP hD hS ((q.2.1 c9).2.mono (by omega))
set_option maxHeartbeats 4000000 in
set_option maxRecDepth 100000 in
theorem zca_unpledge {p : Program} {l : Launch} {e : Env} {s : State} {m : MethodId} {below : List Frame} {meth : Method} {c : Code} {H : Heap} {locs : List Loc} {k0 n0 cK nK : Nat} {Q : State → Prop} {ls : Array Slot} {b L i : Nat} {xs : Nat → Int32} {D : va_G} {cA : Nat → ClassId} {o rd : Nat} {f : Nat → Int64} {bb : Nat → Nat → Nat} {r x mo : Nat → Nat} {X : BK} {N : NK} {B : BK} {Bs : Nat → BK} {M : BK} {Nm : Nat → Nat} {h : Int64} {K : Int} (E : zEv p l s m c b L xs D cA) (hi : i + 3 < L) (hcK : k0 + 4 ≤ cK ∧ n0 + 24 ≤ nK ∧ cK ≤ 601024 ∧ nK ≤ 7293034) (h0 : zL K r N B X Bs M Nm) (hK9 : K + 620000 ≤ 2 ^ 29) (hl : lv_has ls 9 [(0, .ref b), (1, .ref (x 0)), (2, .ref (mo 0)), (3, .ref o), (4, .int (nI i))]) (hP : va_P D vwCl ((ouW cA o f ++ unW cA x bb rd r X N B Bs) ++ moW cA mo M Nm h) H) (hD : va_D (fun q => s.heap.size ≤ q) ((ouW cA o f ++ unW cA x bb rd r X N B Bs) ++ moW cA mo M Nm h)) (hS : va_S (fun q => s.heap.size ≤ q) s.heap H locs) (kt : zKt p l e s m below meth c b i D cA o bb rd x mo (K + 620000) cK nK Q) : W p l e room_1 s m #[.ref b] below meth c H locs k0 n0 Q (F0 m 384 ls []) := by
  obtain ⟨hx, hb, hml, hown, hts, hX, hbl, hL, hK, hO, hn, hfl⟩ := E
  have hbA : ¬ (fun q => s.heap.size ≤ q) b := Nat.not_le.mpr hbl
  refine lv_aload_n hx hb dL_law_384 rfl (lv_at hl 1 rfl) ?_
  refine zl_arg hx hb hX hbl hbA hS (i := i) (j := 1) (by omega) hL (lv_at hl 4 rfl) (lv_at hl 0 rfl) dL_law_385 dL_law_386 dL_law_388 dL_law_389 dL_law_390 (by decide) ?_
  refine zl_arg hx hb hX hbl hbA hS (i := i) (j := 2) (by omega) hL (lv_at hl 4 rfl) (lv_at hl 0 rfl) dL_law_391 dL_law_392 dL_law_394 dL_law_395 dL_law_396 (by decide) ?_
  refine zl_arg hx hb hX hbl hbA hS (i := i) (j := 3) (by omega) hL (lv_at hl 4 rfl) (lv_at hl 0 rfl) dL_law_397 dL_law_398 dL_law_400 dL_law_401 dL_law_402 (by decide) ?_
  refine lv_aload_n hx hb dL_law_403 rfl (lv_at hl 3 rfl) ?_
  refine zv_W (w1 := ouW cA o (vp_updL f 0 ((f_X2_unpledge N B Bs (xs (i + 1)) (xs (i + 2)) (xs (i + 3))).1).toInt64) ++ unW cA x bb rd r X ((f_X2_unpledge N B Bs (xs (i + 1)) (xs (i + 2)) (xs (i + 3))).2.1) ((f_X2_unpledge N B Bs (xs (i + 1)) (xs (i + 2)) (xs (i + 3))).2.2.1) ((f_X2_unpledge N B Bs (xs (i + 1)) (xs (i + 2)) (xs (i + 3))).2.2.2)) (w2 := ouW cA o f ++ unW cA x bb rd r X N B Bs) (vx_runSW (As := [.ref (x 0), .int (xs (i + 1)), .int (xs (i + 2)), .int (xs (i + 3)), .ref o]) (rest := []) ⟨hx, hb, hml, hown, hts⟩ (zl_unpledge l hfl D cA o f bb rd r x X N B Bs (xs (i + 1)) (xs (i + 2)) (xs (i + 3)) h0.2.2.2.2.1.1 (by have := h0.2.2.1; omega)) (vx_cwSW 5 hts gL_law_L_unpledge rfl rfl rfl zy_L_unpledge.2 ⟨(Nat.le_of_ble_eq_true rfl), (Nat.le_of_ble_eq_true rfl)⟩) (zPw_preS hK (zL_P hP) (zL_D hD) hO hn hS (zL_fr hD)) rfl rfl hl.1 rfl (lv_room (Nat.le_of_ble_eq_true rfl)) dL_law_404 ⟨by show k0 + 4 ≤ 601024; omega, by show n0 + 24 ≤ 7293034; omega⟩) hP hD hS (zou_adr zun_adr) (zou_adr zun_adr) (fun k H locs hk hP hD hS => ?_)
  have q := zs_unpledge h0 (by omega) (xs (i + 1)) (xs (i + 2)) (xs (i + 3)) k hk
  refine lv_istore (lv' := [(5, .int k), (0, .ref b), (1, .ref (x 0)), (2, .ref (mo 0)), (3, .ref o), (4, .int (nI i))]) hx hb dL_law_407 hl (by decide) rfl (fun ls hl => ?_)
  refine lv_aload_n hx hb dL_law_409 rfl (lv_at hl 3 rfl) ?_
  refine zl_arg hx hb hX hbl hbA hS (i := i) (j := 1) (by omega) hL (lv_at hl 5 rfl) (lv_at hl 1 rfl) dL_law_410 dL_law_411 dL_law_413 dL_law_414 dL_law_415 (by decide) ?_
  refine zl_arg hx hb hX hbl hbA hS (i := i) (j := 2) (by omega) hL (lv_at hl 5 rfl) (lv_at hl 1 rfl) dL_law_416 dL_law_417 dL_law_419 dL_law_420 dL_law_421 (by decide) ?_
  refine zl_arg hx hb hX hbl hbA hS (i := i) (j := 3) (by omega) hL (lv_at hl 5 rfl) (lv_at hl 1 rfl) dL_law_422 dL_law_423 dL_law_425 dL_law_426 dL_law_427 (by decide) ?_
  refine zm_M (U := (if k = 0 then ouW cA o (vp_updL f 0 ((f_X2_unpledge N B Bs (xs (i + 1)) (xs (i + 2)) (xs (i + 3))).1).toInt64) ++ unW cA x bb rd r X ((f_X2_unpledge N B Bs (xs (i + 1)) (xs (i + 2)) (xs (i + 3))).2.1) ((f_X2_unpledge N B Bs (xs (i + 1)) (xs (i + 2)) (xs (i + 3))).2.2.1) ((f_X2_unpledge N B Bs (xs (i + 1)) (xs (i + 2)) (xs (i + 3))).2.2.2) else ouW cA o f ++ unW cA x bb rd r X N B Bs)) (w1 := moW cA mo ((f_X3_unpledge M Nm (xs (i + 1)) (xs (i + 2)) (xs (i + 3))).2.1) ((f_X3_unpledge M Nm (xs (i + 1)) (xs (i + 2)) (xs (i + 3))).2.2) h) (va_runV (As := [.int (xs (i + 1)), .int (xs (i + 2)), .int (xs (i + 3))]) (rest := []) ⟨hx, hb, hml, hown, hts⟩ (zc_X3_unpledge l D cA mo M Nm h (xs (i + 1)) (xs (i + 2)) (xs (i + 3)) h0.2.2.1.2) (cwV 3 hts gL_law_X3_unpledge rfl rfl rfl zy_X3_unpledge ⟨(Nat.le_of_ble_eq_true rfl), (Nat.le_of_ble_eq_true rfl)⟩) (z_preVq (ci := 3) (q0 := 0) hK (zR_P hP) (zR_D hD) rfl rfl) rfl rfl hl.1 rfl (lv_room (Nat.le_of_ble_eq_true rfl)) dL_law_428 ⟨by show k0 + 4 + 0 ≤ 601024; omega, by show n0 + 24 + 0 ≤ 7293034; omega⟩) hP hD hS moW_adr rfl (fun H locs hP hD hS => ?_)
  refine lv_istore (lv' := [(6, .int ((f_X3_unpledge M Nm (xs (i + 1)) (xs (i + 2)) (xs (i + 3))).1)), (5, .int k), (0, .ref b), (1, .ref (x 0)), (2, .ref (mo 0)), (3, .ref o), (4, .int (nI i))]) hx hb dL_law_431 hl (by decide) rfl (fun ls hl => ?_)
  refine lv_aload_n hx hb dL_law_433 rfl (lv_at hl 4 rfl) ?_
  refine z_E (va_runV (As := []) (rest := []) ⟨hx, hb, hml, hown, hts⟩ (zc_X3_thrown l D cA mo ((f_X3_unpledge M Nm (xs (i + 1)) (xs (i + 2)) (xs (i + 3))).2.1) ((f_X3_unpledge M Nm (xs (i + 1)) (xs (i + 2)) (xs (i + 3))).2.2) h) (cwV 0 hts gL_law_X3_thrown rfl rfl rfl zy_X3_thrown ⟨(Nat.le_of_ble_eq_true rfl), (Nat.le_of_ble_eq_true rfl)⟩) (z_preVq (ci := 3) (q0 := 0) hK (zR_P hP) (zR_D hD) rfl rfl) rfl rfl hl.1 rfl (lv_room (Nat.le_of_ble_eq_true rfl)) dL_law_434 ⟨by show k0 + 4 + 0 ≤ 601024; omega, by show n0 + 24 + 0 ≤ 7293034; omega⟩) rfl ?_
  refine lv_iload hx hb dL_law_437 (lv_at hl 1 rfl) ?_
  refine lv_icmp_eq (tgt := 444) hx hb dL_law_439 (by decide) (fun _ => ?_) (fun c9 => absurd q.1 c9)
  refine lv_iload hx hb dL_law_444 (lv_at hl 1 rfl) ?_
  refine lv_if_ne (tgt := 461) hx hb dL_law_446 (by decide) (fun c9 => ?_) (fun c9 => ?_)
  · rw [zW_neg c9] at hP hD
    refine lv_goto (tgt := 1731) hx hb dL_law_461 (by decide) ?_
    refine W.widen (k := cK) (n := nK) (by omega) (by omega) ?_
    exact kt _ _ _ _ _ _ _ _ _ _ _ _ (lv_sub hl [2, 3, 4, 5, 6] rfl) hP hD hS ((q.2.2 c9).mono (by omega))
  · rw [zW_pos c9] at hP hD
    refine lv_aload_n hx hb dL_law_449 rfl (lv_at hl 5 rfl) ?_
    refine lv_iconst (v := 0) hx hb dL_law_450 (by decide) ?_
    refine zw_lald hx hb hK (U := unW cA x bb rd r X ((f_X2_unpledge N B Bs (xs (i + 1)) (xs (i + 2)) (xs (i + 3))).2.1) ((f_X2_unpledge N B Bs (xs (i + 1)) (xs (i + 2)) (xs (i + 3))).2.2.1) ((f_X2_unpledge N B Bs (xs (i + 1)) (xs (i + 2)) (xs (i + 3))).2.2.2) ++ moW cA mo ((f_X3_unpledge M Nm (xs (i + 1)) (xs (i + 2)) (xs (i + 3))).2.1) ((f_X3_unpledge M Nm (xs (i + 1)) (xs (i + 2)) (xs (i + 3))).2.2) h) (by rw [← List.append_assoc]; exact hP) dL_law_451 ?_
    refine lv_iload hx hb dL_law_452 (lv_at hl 0 rfl) ?_
    refine lv_i2l hx hb dL_law_454 rfl ?_
    refine W.lcmp hx hb dL_law_455 ?_
    refine z_top (y := 0) (by rw [zw_up, (q.2.1 c9).1]; exact zlc_eq _) ?_
    refine lv_if_eq (tgt := 461) hx hb dL_law_456 (by decide) (fun _ => ?_) (fun c8 => absurd rfl c8)
    refine lv_goto (tgt := 1731) hx hb dL_law_461 (by decide) ?_
    refine W.widen (k := cK) (n := nK) (by omega) (by omega) ?_
    exact kt _ _ _ _ _ _ _ _ _ _ _ _ (lv_sub hl [2, 3, 4, 5, 6] rfl) hP hD hS ((q.2.1 c9).2.mono (by omega))
set_option maxHeartbeats 4000000 in
set_option maxRecDepth 100000 in
theorem zca_borrow {p : Program} {l : Launch} {e : Env} {s : State} {m : MethodId} {below : List Frame} {meth : Method} {c : Code} {H : Heap} {locs : List Loc} {k0 n0 cK nK : Nat} {Q : State → Prop} {ls : Array Slot} {b L i : Nat} {xs : Nat → Int32} {D : va_G} {cA : Nat → ClassId} {o rd : Nat} {f : Nat → Int64} {bb : Nat → Nat → Nat} {r x mo : Nat → Nat} {X : BK} {N : NK} {B : BK} {Bs : Nat → BK} {M : BK} {Nm : Nat → Nat} {h : Int64} {K : Int} (E : zEv p l s m c b L xs D cA) (hi : i + 3 < L) (hcK : k0 + 4 ≤ cK ∧ n0 + 24 ≤ nK ∧ cK ≤ 601024 ∧ nK ≤ 7293034) (h0 : zL K r N B X Bs M Nm) (hK9 : K + 620000 ≤ 2 ^ 29) (hl : lv_has ls 9 [(0, .ref b), (1, .ref (x 0)), (2, .ref (mo 0)), (3, .ref o), (4, .int (nI i))]) (hP : va_P D vwCl ((ouW cA o f ++ unW cA x bb rd r X N B Bs) ++ moW cA mo M Nm h) H) (hD : va_D (fun q => s.heap.size ≤ q) ((ouW cA o f ++ unW cA x bb rd r X N B Bs) ++ moW cA mo M Nm h)) (hS : va_S (fun q => s.heap.size ≤ q) s.heap H locs) (kt : zKt p l e s m below meth c b i D cA o bb rd x mo (K + 620000) cK nK Q) : W p l e room_1 s m #[.ref b] below meth c H locs k0 n0 Q (F0 m 464 ls []) := by
  obtain ⟨hx, hb, hml, hown, hts, hX, hbl, hL, hK, hO, hn, hfl⟩ := E
  have hbA : ¬ (fun q => s.heap.size ≤ q) b := Nat.not_le.mpr hbl
  refine lv_aload_n hx hb dL_law_464 rfl (lv_at hl 1 rfl) ?_
  refine zl_arg hx hb hX hbl hbA hS (i := i) (j := 1) (by omega) hL (lv_at hl 4 rfl) (lv_at hl 0 rfl) dL_law_465 dL_law_466 dL_law_468 dL_law_469 dL_law_470 (by decide) ?_
  refine zl_arg hx hb hX hbl hbA hS (i := i) (j := 2) (by omega) hL (lv_at hl 4 rfl) (lv_at hl 0 rfl) dL_law_471 dL_law_472 dL_law_474 dL_law_475 dL_law_476 (by decide) ?_
  refine zl_arg hx hb hX hbl hbA hS (i := i) (j := 3) (by omega) hL (lv_at hl 4 rfl) (lv_at hl 0 rfl) dL_law_477 dL_law_478 dL_law_480 dL_law_481 dL_law_482 (by decide) ?_
  refine lv_aload_n hx hb dL_law_483 rfl (lv_at hl 3 rfl) ?_
  refine zv_W (w1 := ouW cA o (vp_updL f 0 ((f_X2_borrow N B Bs (xs (i + 1)) (xs (i + 2)) (xs (i + 3))).1).toInt64) ++ unW cA x bb rd r X ((f_X2_borrow N B Bs (xs (i + 1)) (xs (i + 2)) (xs (i + 3))).2.1) ((f_X2_borrow N B Bs (xs (i + 1)) (xs (i + 2)) (xs (i + 3))).2.2.1) ((f_X2_borrow N B Bs (xs (i + 1)) (xs (i + 2)) (xs (i + 3))).2.2.2)) (w2 := ouW cA o f ++ unW cA x bb rd r X N B Bs) (vx_runSW (As := [.ref (x 0), .int (xs (i + 1)), .int (xs (i + 2)), .int (xs (i + 3)), .ref o]) (rest := []) ⟨hx, hb, hml, hown, hts⟩ (zl_borrow l hfl D cA o f bb rd r x X N B Bs (xs (i + 1)) (xs (i + 2)) (xs (i + 3)) h0.2.2.2.2.1.1 (by have := h0.2.2.1; omega)) (vx_cwSW 5 hts gL_law_L_borrow rfl rfl rfl zy_L_borrow.2 ⟨(Nat.le_of_ble_eq_true rfl), (Nat.le_of_ble_eq_true rfl)⟩) (zPw_preS hK (zL_P hP) (zL_D hD) hO hn hS (zL_fr hD)) rfl rfl hl.1 rfl (lv_room (Nat.le_of_ble_eq_true rfl)) dL_law_484 ⟨by show k0 + 3 ≤ 601024; omega, by show n0 + 18 ≤ 7293034; omega⟩) hP hD hS (zou_adr zun_adr) (zou_adr zun_adr) (fun k H locs hk hP hD hS => ?_)
  have q := zs_borrow h0 (by omega) (xs (i + 1)) (xs (i + 2)) (xs (i + 3)) k hk
  refine lv_istore (lv' := [(5, .int k), (0, .ref b), (1, .ref (x 0)), (2, .ref (mo 0)), (3, .ref o), (4, .int (nI i))]) hx hb dL_law_487 hl (by decide) rfl (fun ls hl => ?_)
  refine lv_aload_n hx hb dL_law_489 rfl (lv_at hl 3 rfl) ?_
  refine zl_arg hx hb hX hbl hbA hS (i := i) (j := 1) (by omega) hL (lv_at hl 5 rfl) (lv_at hl 1 rfl) dL_law_490 dL_law_491 dL_law_493 dL_law_494 dL_law_495 (by decide) ?_
  refine zl_arg hx hb hX hbl hbA hS (i := i) (j := 2) (by omega) hL (lv_at hl 5 rfl) (lv_at hl 1 rfl) dL_law_496 dL_law_497 dL_law_499 dL_law_500 dL_law_501 (by decide) ?_
  refine zl_arg hx hb hX hbl hbA hS (i := i) (j := 3) (by omega) hL (lv_at hl 5 rfl) (lv_at hl 1 rfl) dL_law_502 dL_law_503 dL_law_505 dL_law_506 dL_law_507 (by decide) ?_
  refine zm_M (U := (if k = 0 then ouW cA o (vp_updL f 0 ((f_X2_borrow N B Bs (xs (i + 1)) (xs (i + 2)) (xs (i + 3))).1).toInt64) ++ unW cA x bb rd r X ((f_X2_borrow N B Bs (xs (i + 1)) (xs (i + 2)) (xs (i + 3))).2.1) ((f_X2_borrow N B Bs (xs (i + 1)) (xs (i + 2)) (xs (i + 3))).2.2.1) ((f_X2_borrow N B Bs (xs (i + 1)) (xs (i + 2)) (xs (i + 3))).2.2.2) else ouW cA o f ++ unW cA x bb rd r X N B Bs)) (w1 := moW cA mo ((f_X3_borrow M Nm (xs (i + 1)) (xs (i + 2)) (xs (i + 3))).2.1) ((f_X3_borrow M Nm (xs (i + 1)) (xs (i + 2)) (xs (i + 3))).2.2) h) (va_runV (As := [.int (xs (i + 1)), .int (xs (i + 2)), .int (xs (i + 3))]) (rest := []) ⟨hx, hb, hml, hown, hts⟩ (zc_X3_borrow l D cA mo M Nm h (xs (i + 1)) (xs (i + 2)) (xs (i + 3)) h0.2.2.1.2) (cwV 3 hts gL_law_X3_borrow rfl rfl rfl zy_X3_borrow ⟨(Nat.le_of_ble_eq_true rfl), (Nat.le_of_ble_eq_true rfl)⟩) (z_preVq (ci := 3) (q0 := 0) hK (zR_P hP) (zR_D hD) rfl rfl) rfl rfl hl.1 rfl (lv_room (Nat.le_of_ble_eq_true rfl)) dL_law_508 ⟨by show k0 + 3 + 0 ≤ 601024; omega, by show n0 + 18 + 0 ≤ 7293034; omega⟩) hP hD hS moW_adr rfl (fun H locs hP hD hS => ?_)
  refine lv_istore (lv' := [(6, .int ((f_X3_borrow M Nm (xs (i + 1)) (xs (i + 2)) (xs (i + 3))).1)), (5, .int k), (0, .ref b), (1, .ref (x 0)), (2, .ref (mo 0)), (3, .ref o), (4, .int (nI i))]) hx hb dL_law_511 hl (by decide) rfl (fun ls hl => ?_)
  refine lv_aload_n hx hb dL_law_513 rfl (lv_at hl 4 rfl) ?_
  refine z_E (va_runV (As := []) (rest := []) ⟨hx, hb, hml, hown, hts⟩ (zc_X3_thrown l D cA mo ((f_X3_borrow M Nm (xs (i + 1)) (xs (i + 2)) (xs (i + 3))).2.1) ((f_X3_borrow M Nm (xs (i + 1)) (xs (i + 2)) (xs (i + 3))).2.2) h) (cwV 0 hts gL_law_X3_thrown rfl rfl rfl zy_X3_thrown ⟨(Nat.le_of_ble_eq_true rfl), (Nat.le_of_ble_eq_true rfl)⟩) (z_preVq (ci := 3) (q0 := 0) hK (zR_P hP) (zR_D hD) rfl rfl) rfl rfl hl.1 rfl (lv_room (Nat.le_of_ble_eq_true rfl)) dL_law_514 ⟨by show k0 + 3 + 0 ≤ 601024; omega, by show n0 + 18 + 0 ≤ 7293034; omega⟩) rfl ?_
  refine lv_iload hx hb dL_law_517 (lv_at hl 1 rfl) ?_
  refine lv_icmp_eq (tgt := 524) hx hb dL_law_519 (by decide) (fun _ => ?_) (fun c9 => absurd q.1 c9)
  refine lv_iload hx hb dL_law_524 (lv_at hl 1 rfl) ?_
  refine lv_if_ne (tgt := 541) hx hb dL_law_526 (by decide) (fun c9 => ?_) (fun c9 => ?_)
  · rw [zW_neg c9] at hP hD
    refine lv_goto (tgt := 1731) hx hb dL_law_541 (by decide) ?_
    refine W.widen (k := cK) (n := nK) (by omega) (by omega) ?_
    exact kt _ _ _ _ _ _ _ _ _ _ _ _ (lv_sub hl [2, 3, 4, 5, 6] rfl) hP hD hS ((q.2.2 c9).mono (by omega))
  · rw [zW_pos c9] at hP hD
    refine lv_aload_n hx hb dL_law_529 rfl (lv_at hl 5 rfl) ?_
    refine lv_iconst (v := 0) hx hb dL_law_530 (by decide) ?_
    refine zw_lald hx hb hK (U := unW cA x bb rd r X ((f_X2_borrow N B Bs (xs (i + 1)) (xs (i + 2)) (xs (i + 3))).2.1) ((f_X2_borrow N B Bs (xs (i + 1)) (xs (i + 2)) (xs (i + 3))).2.2.1) ((f_X2_borrow N B Bs (xs (i + 1)) (xs (i + 2)) (xs (i + 3))).2.2.2) ++ moW cA mo ((f_X3_borrow M Nm (xs (i + 1)) (xs (i + 2)) (xs (i + 3))).2.1) ((f_X3_borrow M Nm (xs (i + 1)) (xs (i + 2)) (xs (i + 3))).2.2) h) (by rw [← List.append_assoc]; exact hP) dL_law_531 ?_
    refine lv_iload hx hb dL_law_532 (lv_at hl 0 rfl) ?_
    refine lv_i2l hx hb dL_law_534 rfl ?_
    refine W.lcmp hx hb dL_law_535 ?_
    refine z_top (y := 0) (by rw [zw_up, (q.2.1 c9).1]; exact zlc_eq _) ?_
    refine lv_if_eq (tgt := 541) hx hb dL_law_536 (by decide) (fun _ => ?_) (fun c8 => absurd rfl c8)
    refine lv_goto (tgt := 1731) hx hb dL_law_541 (by decide) ?_
    refine W.widen (k := cK) (n := nK) (by omega) (by omega) ?_
    exact kt _ _ _ _ _ _ _ _ _ _ _ _ (lv_sub hl [2, 3, 4, 5, 6] rfl) hP hD hS ((q.2.1 c9).2.mono (by omega))
set_option maxHeartbeats 4000000 in
set_option maxRecDepth 100000 in
theorem zca_week {p : Program} {l : Launch} {e : Env} {s : State} {m : MethodId} {below : List Frame} {meth : Method} {c : Code} {H : Heap} {locs : List Loc} {k0 n0 cK nK : Nat} {Q : State → Prop} {ls : Array Slot} {b L i : Nat} {xs : Nat → Int32} {D : va_G} {cA : Nat → ClassId} {o rd : Nat} {f : Nat → Int64} {bb : Nat → Nat → Nat} {r x mo : Nat → Nat} {X : BK} {N : NK} {B : BK} {Bs : Nat → BK} {M : BK} {Nm : Nat → Nat} {h : Int64} {K : Int} (E : zEv p l s m c b L xs D cA) (hi : i + 3 < L) (hcK : k0 + 4 ≤ cK ∧ n0 + 24 ≤ nK ∧ cK ≤ 601024 ∧ nK ≤ 7293034) (h0 : zL K r N B X Bs M Nm) (hK9 : K + 620000 ≤ 2 ^ 29) (hl : lv_has ls 9 [(0, .ref b), (1, .ref (x 0)), (2, .ref (mo 0)), (3, .ref o), (4, .int (nI i))]) (hP : va_P D vwCl ((ouW cA o f ++ unW cA x bb rd r X N B Bs) ++ moW cA mo M Nm h) H) (hD : va_D (fun q => s.heap.size ≤ q) ((ouW cA o f ++ unW cA x bb rd r X N B Bs) ++ moW cA mo M Nm h)) (hS : va_S (fun q => s.heap.size ≤ q) s.heap H locs) (kt : zKt p l e s m below meth c b i D cA o bb rd x mo (K + 620000) cK nK Q) : W p l e room_1 s m #[.ref b] below meth c H locs k0 n0 Q (F0 m 612 ls []) := by
  obtain ⟨hx, hb, hml, hown, hts, hX, hbl, hL, hK, hO, hn, hfl⟩ := E
  have hbA : ¬ (fun q => s.heap.size ≤ q) b := Nat.not_le.mpr hbl
  refine lv_aload_n hx hb dL_law_612 rfl (lv_at hl 1 rfl) ?_
  refine lv_aload_n hx hb dL_law_613 rfl (lv_at hl 3 rfl) ?_
  refine zv_W (w1 := ouW cA o (vp_updL f 0 ((f_X2_week N B Bs).1).toInt64) ++ unW cA x bb rd r X ((f_X2_week N B Bs).2.1) ((f_X2_week N B Bs).2.2.1) ((f_X2_week N B Bs).2.2.2)) (w2 := ouW cA o f ++ unW cA x bb rd r X N B Bs) (vx_runSW (As := [.ref (x 0), .ref o]) (rest := []) ⟨hx, hb, hml, hown, hts⟩ (zl_week l hfl D cA o f bb rd r x X N B Bs  h0.2.2.2.2.1.1 (by have := h0.2.2.1; omega)) (vx_cwSW 2 hts gL_law_L_week rfl rfl rfl zy_L_week.2 ⟨(Nat.le_of_ble_eq_true rfl), (Nat.le_of_ble_eq_true rfl)⟩) (zPw_preS hK (zL_P hP) (zL_D hD) hO hn hS (zL_fr hD)) rfl rfl hl.1 rfl (lv_room (Nat.le_of_ble_eq_true rfl)) dL_law_614 ⟨by show k0 + 1 ≤ 601024; omega, by show n0 + 6 ≤ 7293034; omega⟩) hP hD hS (zou_adr zun_adr) (zou_adr zun_adr) (fun k H locs hk hP hD hS => ?_)
  have q := zs_week h0 (by omega)  k hk
  refine lv_istore (lv' := [(5, .int k), (0, .ref b), (1, .ref (x 0)), (2, .ref (mo 0)), (3, .ref o), (4, .int (nI i))]) hx hb dL_law_617 hl (by decide) rfl (fun ls hl => ?_)
  refine lv_aload_n hx hb dL_law_619 rfl (lv_at hl 3 rfl) ?_
  refine zm_M (U := (if k = 0 then ouW cA o (vp_updL f 0 ((f_X2_week N B Bs).1).toInt64) ++ unW cA x bb rd r X ((f_X2_week N B Bs).2.1) ((f_X2_week N B Bs).2.2.1) ((f_X2_week N B Bs).2.2.2) else ouW cA o f ++ unW cA x bb rd r X N B Bs)) (w1 := moW cA mo ((f_X3_week M Nm).2.1) ((f_X3_week M Nm).2.2) h) (va_runV (As := []) (rest := []) ⟨hx, hb, hml, hown, hts⟩ (zc_X3_week l D cA mo M Nm h  h0.2.2.1.2) (cwV 0 hts gL_law_X3_week rfl rfl rfl zy_X3_week ⟨(Nat.le_of_ble_eq_true rfl), (Nat.le_of_ble_eq_true rfl)⟩) (z_preVq (ci := 3) (q0 := 0) hK (zR_P hP) (zR_D hD) rfl rfl) rfl rfl hl.1 rfl (lv_room (Nat.le_of_ble_eq_true rfl)) dL_law_620 ⟨by show k0 + 1 + 0 ≤ 601024; omega, by show n0 + 6 + 0 ≤ 7293034; omega⟩) hP hD hS moW_adr rfl (fun H locs hP hD hS => ?_)
  refine lv_istore (lv' := [(6, .int ((f_X3_week M Nm).1)), (5, .int k), (0, .ref b), (1, .ref (x 0)), (2, .ref (mo 0)), (3, .ref o), (4, .int (nI i))]) hx hb dL_law_623 hl (by decide) rfl (fun ls hl => ?_)
  refine lv_aload_n hx hb dL_law_625 rfl (lv_at hl 4 rfl) ?_
  refine z_E (va_runV (As := []) (rest := []) ⟨hx, hb, hml, hown, hts⟩ (zc_X3_thrown l D cA mo ((f_X3_week M Nm).2.1) ((f_X3_week M Nm).2.2) h) (cwV 0 hts gL_law_X3_thrown rfl rfl rfl zy_X3_thrown ⟨(Nat.le_of_ble_eq_true rfl), (Nat.le_of_ble_eq_true rfl)⟩) (z_preVq (ci := 3) (q0 := 0) hK (zR_P hP) (zR_D hD) rfl rfl) rfl rfl hl.1 rfl (lv_room (Nat.le_of_ble_eq_true rfl)) dL_law_626 ⟨by show k0 + 1 + 0 ≤ 601024; omega, by show n0 + 6 + 0 ≤ 7293034; omega⟩) rfl ?_
  refine lv_iload hx hb dL_law_629 (lv_at hl 1 rfl) ?_
  refine lv_icmp_eq (tgt := 636) hx hb dL_law_631 (by decide) (fun _ => ?_) (fun c9 => absurd q.1 c9)
  refine lv_iload hx hb dL_law_636 (lv_at hl 1 rfl) ?_
  refine lv_if_ne (tgt := 653) hx hb dL_law_638 (by decide) (fun c9 => ?_) (fun c9 => ?_)
  · rw [zW_neg c9] at hP hD
    refine lv_goto (tgt := 1731) hx hb dL_law_653 (by decide) ?_
    refine W.widen (k := cK) (n := nK) (by omega) (by omega) ?_
    exact kt _ _ _ _ _ _ _ _ _ _ _ _ (lv_sub hl [2, 3, 4, 5, 6] rfl) hP hD hS ((q.2.2 c9).mono (by omega))
  · rw [zW_pos c9] at hP hD
    refine lv_aload_n hx hb dL_law_641 rfl (lv_at hl 5 rfl) ?_
    refine lv_iconst (v := 0) hx hb dL_law_642 (by decide) ?_
    refine zw_lald hx hb hK (U := unW cA x bb rd r X ((f_X2_week N B Bs).2.1) ((f_X2_week N B Bs).2.2.1) ((f_X2_week N B Bs).2.2.2) ++ moW cA mo ((f_X3_week M Nm).2.1) ((f_X3_week M Nm).2.2) h) (by rw [← List.append_assoc]; exact hP) dL_law_643 ?_
    refine lv_iload hx hb dL_law_644 (lv_at hl 0 rfl) ?_
    refine lv_i2l hx hb dL_law_646 rfl ?_
    refine W.lcmp hx hb dL_law_647 ?_
    refine z_top (y := 0) (by rw [zw_up, (q.2.1 c9).1]; exact zlc_eq _) ?_
    refine lv_if_eq (tgt := 653) hx hb dL_law_648 (by decide) (fun _ => ?_) (fun c8 => absurd rfl c8)
    refine lv_goto (tgt := 1731) hx hb dL_law_653 (by decide) ?_
    refine W.widen (k := cK) (n := nK) (by omega) (by omega) ?_
    exact kt _ _ _ _ _ _ _ _ _ _ _ _ (lv_sub hl [2, 3, 4, 5, 6] rfl) hP hD hS ((q.2.1 c9).2.mono (by omega))
set_option maxHeartbeats 4000000 in
set_option maxRecDepth 100000 in
theorem zca_pass {p : Program} {l : Launch} {e : Env} {s : State} {m : MethodId} {below : List Frame} {meth : Method} {c : Code} {H : Heap} {locs : List Loc} {k0 n0 cK nK : Nat} {Q : State → Prop} {ls : Array Slot} {b L i : Nat} {xs : Nat → Int32} {D : va_G} {cA : Nat → ClassId} {o rd : Nat} {f : Nat → Int64} {bb : Nat → Nat → Nat} {r x mo : Nat → Nat} {X : BK} {N : NK} {B : BK} {Bs : Nat → BK} {M : BK} {Nm : Nat → Nat} {h : Int64} {K : Int} (E : zEv p l s m c b L xs D cA) (hi : i + 3 < L) (hcK : k0 + 4 ≤ cK ∧ n0 + 24 ≤ nK ∧ cK ≤ 601024 ∧ nK ≤ 7293034) (h0 : zL K r N B X Bs M Nm) (hK9 : K + 620000 ≤ 2 ^ 29) (hl : lv_has ls 9 [(0, .ref b), (1, .ref (x 0)), (2, .ref (mo 0)), (3, .ref o), (4, .int (nI i))]) (hP : va_P D vwCl ((ouW cA o f ++ unW cA x bb rd r X N B Bs) ++ moW cA mo M Nm h) H) (hD : va_D (fun q => s.heap.size ≤ q) ((ouW cA o f ++ unW cA x bb rd r X N B Bs) ++ moW cA mo M Nm h)) (hS : va_S (fun q => s.heap.size ≤ q) s.heap H locs) (kt : zKt p l e s m below meth c b i D cA o bb rd x mo (K + 620000) cK nK Q) : W p l e room_1 s m #[.ref b] below meth c H locs k0 n0 Q (F0 m 656 ls []) := by
  obtain ⟨hx, hb, hml, hown, hts, hX, hbl, hL, hK, hO, hn, hfl⟩ := E
  have hbA : ¬ (fun q => s.heap.size ≤ q) b := Nat.not_le.mpr hbl
  refine lv_aload_n hx hb dL_law_656 rfl (lv_at hl 1 rfl) ?_
  refine zl_arg hx hb hX hbl hbA hS (i := i) (j := 1) (by omega) hL (lv_at hl 4 rfl) (lv_at hl 0 rfl) dL_law_657 dL_law_658 dL_law_660 dL_law_661 dL_law_662 (by decide) ?_
  refine lv_aload_n hx hb dL_law_663 rfl (lv_at hl 3 rfl) ?_
  refine zv_W (w1 := ouW cA o (vp_updL f 0 ((f_X2_pass N B Bs (xs (i + 1))).1).toInt64) ++ unW cA x bb rd r X ((f_X2_pass N B Bs (xs (i + 1))).2.1) ((f_X2_pass N B Bs (xs (i + 1))).2.2.1) ((f_X2_pass N B Bs (xs (i + 1))).2.2.2)) (w2 := ouW cA o f ++ unW cA x bb rd r X N B Bs) (vx_runSW (As := [.ref (x 0), .int (xs (i + 1)), .ref o]) (rest := []) ⟨hx, hb, hml, hown, hts⟩ (zl_pass l hfl D cA o f bb rd r x X N B Bs (xs (i + 1)) h0.2.2.2.2.1.1 (by have := h0.2.2.1; omega)) (vx_cwSW 3 hts gL_law_L_pass rfl rfl rfl zy_L_pass.2 ⟨(Nat.le_of_ble_eq_true rfl), (Nat.le_of_ble_eq_true rfl)⟩) (zPw_preS hK (zL_P hP) (zL_D hD) hO hn hS (zL_fr hD)) rfl rfl hl.1 rfl (lv_room (Nat.le_of_ble_eq_true rfl)) dL_law_664 ⟨by show k0 + 2 ≤ 601024; omega, by show n0 + 12 ≤ 7293034; omega⟩) hP hD hS (zou_adr zun_adr) (zou_adr zun_adr) (fun k H locs hk hP hD hS => ?_)
  have q := zs_pass h0 (by omega) (xs (i + 1)) k hk
  refine lv_istore (lv' := [(5, .int k), (0, .ref b), (1, .ref (x 0)), (2, .ref (mo 0)), (3, .ref o), (4, .int (nI i))]) hx hb dL_law_667 hl (by decide) rfl (fun ls hl => ?_)
  refine lv_aload_n hx hb dL_law_669 rfl (lv_at hl 3 rfl) ?_
  refine zl_arg hx hb hX hbl hbA hS (i := i) (j := 1) (by omega) hL (lv_at hl 5 rfl) (lv_at hl 1 rfl) dL_law_670 dL_law_671 dL_law_673 dL_law_674 dL_law_675 (by decide) ?_
  refine zm_M (U := (if k = 0 then ouW cA o (vp_updL f 0 ((f_X2_pass N B Bs (xs (i + 1))).1).toInt64) ++ unW cA x bb rd r X ((f_X2_pass N B Bs (xs (i + 1))).2.1) ((f_X2_pass N B Bs (xs (i + 1))).2.2.1) ((f_X2_pass N B Bs (xs (i + 1))).2.2.2) else ouW cA o f ++ unW cA x bb rd r X N B Bs)) (w1 := moW cA mo ((f_X3_pass M Nm (xs (i + 1))).2.1) ((f_X3_pass M Nm (xs (i + 1))).2.2) h) (va_runV (As := [.int (xs (i + 1))]) (rest := []) ⟨hx, hb, hml, hown, hts⟩ (zc_X3_pass l D cA mo M Nm h (xs (i + 1)) h0.2.2.1.2) (cwV 1 hts gL_law_X3_pass rfl rfl rfl zy_X3_pass ⟨(Nat.le_of_ble_eq_true rfl), (Nat.le_of_ble_eq_true rfl)⟩) (z_preVq (ci := 3) (q0 := 0) hK (zR_P hP) (zR_D hD) rfl rfl) rfl rfl hl.1 rfl (lv_room (Nat.le_of_ble_eq_true rfl)) dL_law_676 ⟨by show k0 + 2 + 0 ≤ 601024; omega, by show n0 + 12 + 0 ≤ 7293034; omega⟩) hP hD hS moW_adr rfl (fun H locs hP hD hS => ?_)
  refine lv_istore (lv' := [(6, .int ((f_X3_pass M Nm (xs (i + 1))).1)), (5, .int k), (0, .ref b), (1, .ref (x 0)), (2, .ref (mo 0)), (3, .ref o), (4, .int (nI i))]) hx hb dL_law_679 hl (by decide) rfl (fun ls hl => ?_)
  refine lv_aload_n hx hb dL_law_681 rfl (lv_at hl 4 rfl) ?_
  refine z_E (va_runV (As := []) (rest := []) ⟨hx, hb, hml, hown, hts⟩ (zc_X3_thrown l D cA mo ((f_X3_pass M Nm (xs (i + 1))).2.1) ((f_X3_pass M Nm (xs (i + 1))).2.2) h) (cwV 0 hts gL_law_X3_thrown rfl rfl rfl zy_X3_thrown ⟨(Nat.le_of_ble_eq_true rfl), (Nat.le_of_ble_eq_true rfl)⟩) (z_preVq (ci := 3) (q0 := 0) hK (zR_P hP) (zR_D hD) rfl rfl) rfl rfl hl.1 rfl (lv_room (Nat.le_of_ble_eq_true rfl)) dL_law_682 ⟨by show k0 + 2 + 0 ≤ 601024; omega, by show n0 + 12 + 0 ≤ 7293034; omega⟩) rfl ?_
  refine lv_iload hx hb dL_law_685 (lv_at hl 1 rfl) ?_
  refine lv_icmp_eq (tgt := 692) hx hb dL_law_687 (by decide) (fun _ => ?_) (fun c9 => absurd q.1 c9)
  refine lv_iload hx hb dL_law_692 (lv_at hl 1 rfl) ?_
  refine lv_if_ne (tgt := 709) hx hb dL_law_694 (by decide) (fun c9 => ?_) (fun c9 => ?_)
  · rw [zW_neg c9] at hP hD
    refine lv_goto (tgt := 1731) hx hb dL_law_709 (by decide) ?_
    refine W.widen (k := cK) (n := nK) (by omega) (by omega) ?_
    exact kt _ _ _ _ _ _ _ _ _ _ _ _ (lv_sub hl [2, 3, 4, 5, 6] rfl) hP hD hS ((q.2.2 c9).mono (by omega))
  · rw [zW_pos c9] at hP hD
    refine lv_aload_n hx hb dL_law_697 rfl (lv_at hl 5 rfl) ?_
    refine lv_iconst (v := 0) hx hb dL_law_698 (by decide) ?_
    refine zw_lald hx hb hK (U := unW cA x bb rd r X ((f_X2_pass N B Bs (xs (i + 1))).2.1) ((f_X2_pass N B Bs (xs (i + 1))).2.2.1) ((f_X2_pass N B Bs (xs (i + 1))).2.2.2) ++ moW cA mo ((f_X3_pass M Nm (xs (i + 1))).2.1) ((f_X3_pass M Nm (xs (i + 1))).2.2) h) (by rw [← List.append_assoc]; exact hP) dL_law_699 ?_
    refine lv_iload hx hb dL_law_700 (lv_at hl 0 rfl) ?_
    refine lv_i2l hx hb dL_law_702 rfl ?_
    refine W.lcmp hx hb dL_law_703 ?_
    refine z_top (y := 0) (by rw [zw_up, (q.2.1 c9).1]; exact zlc_eq _) ?_
    refine lv_if_eq (tgt := 709) hx hb dL_law_704 (by decide) (fun _ => ?_) (fun c8 => absurd rfl c8)
    refine lv_goto (tgt := 1731) hx hb dL_law_709 (by decide) ?_
    refine W.widen (k := cK) (n := nK) (by omega) (by omega) ?_
    exact kt _ _ _ _ _ _ _ _ _ _ _ _ (lv_sub hl [2, 3, 4, 5, 6] rfl) hP hD hS ((q.2.1 c9).2.mono (by omega))
set_option maxHeartbeats 4000000 in
set_option maxRecDepth 100000 in
theorem zca_set {p : Program} {l : Launch} {e : Env} {s : State} {m : MethodId} {below : List Frame} {meth : Method} {c : Code} {H : Heap} {locs : List Loc} {k0 n0 cK nK : Nat} {Q : State → Prop} {ls : Array Slot} {b L i : Nat} {xs : Nat → Int32} {D : va_G} {cA : Nat → ClassId} {o rd : Nat} {f : Nat → Int64} {bb : Nat → Nat → Nat} {r x mo : Nat → Nat} {X : BK} {N : NK} {B : BK} {Bs : Nat → BK} {M : BK} {Nm : Nat → Nat} {h : Int64} {K : Int} (E : zEv p l s m c b L xs D cA) (hi : i + 3 < L) (hcK : k0 + 4 ≤ cK ∧ n0 + 24 ≤ nK ∧ cK ≤ 601024 ∧ nK ≤ 7293034) (h0 : zL K r N B X Bs M Nm) (hK9 : K + 620000 ≤ 2 ^ 29) (hl : lv_has ls 9 [(0, .ref b), (1, .ref (x 0)), (2, .ref (mo 0)), (3, .ref o), (4, .int (nI i))]) (hP : va_P D vwCl ((ouW cA o f ++ unW cA x bb rd r X N B Bs) ++ moW cA mo M Nm h) H) (hD : va_D (fun q => s.heap.size ≤ q) ((ouW cA o f ++ unW cA x bb rd r X N B Bs) ++ moW cA mo M Nm h)) (hS : va_S (fun q => s.heap.size ≤ q) s.heap H locs) (kt : zKt p l e s m below meth c b i D cA o bb rd x mo (K + 620000) cK nK Q) : W p l e room_1 s m #[.ref b] below meth c H locs k0 n0 Q (F0 m 725 ls []) := by
  obtain ⟨hx, hb, hml, hown, hts, hX, hbl, hL, hK, hO, hn, hfl⟩ := E
  have hbA : ¬ (fun q => s.heap.size ≤ q) b := Nat.not_le.mpr hbl
  refine lv_aload_n hx hb dL_law_725 rfl (lv_at hl 1 rfl) ?_
  refine zl_arg hx hb hX hbl hbA hS (i := i) (j := 1) (by omega) hL (lv_at hl 4 rfl) (lv_at hl 0 rfl) dL_law_726 dL_law_727 dL_law_729 dL_law_730 dL_law_731 (by decide) ?_
  refine zl_arg hx hb hX hbl hbA hS (i := i) (j := 2) (by omega) hL (lv_at hl 4 rfl) (lv_at hl 0 rfl) dL_law_732 dL_law_733 dL_law_735 dL_law_736 dL_law_737 (by decide) ?_
  refine lv_aload_n hx hb dL_law_738 rfl (lv_at hl 3 rfl) ?_
  refine zv_W (w1 := ouW cA o (vp_updL f 0 ((f_X2_set N B Bs (xs (i + 1)) (xs (i + 2))).1).toInt64) ++ unW cA x bb rd r X ((f_X2_set N B Bs (xs (i + 1)) (xs (i + 2))).2.1) ((f_X2_set N B Bs (xs (i + 1)) (xs (i + 2))).2.2.1) ((f_X2_set N B Bs (xs (i + 1)) (xs (i + 2))).2.2.2)) (w2 := ouW cA o f ++ unW cA x bb rd r X N B Bs) (vx_runSW (As := [.ref (x 0), .int (xs (i + 1)), .int (xs (i + 2)), .ref o]) (rest := []) ⟨hx, hb, hml, hown, hts⟩ (zl_set l hfl D cA o f bb rd r x X N B Bs (xs (i + 1)) (xs (i + 2)) h0.2.2.2.2.1.1 (by have := h0.2.2.1; omega)) (vx_cwSW 4 hts gL_law_L_set rfl rfl rfl zy_L_set.2 ⟨(Nat.le_of_ble_eq_true rfl), (Nat.le_of_ble_eq_true rfl)⟩) (zPw_preS hK (zL_P hP) (zL_D hD) hO hn hS (zL_fr hD)) rfl rfl hl.1 rfl (lv_room (Nat.le_of_ble_eq_true rfl)) dL_law_739 ⟨by show k0 + 2 ≤ 601024; omega, by show n0 + 12 ≤ 7293034; omega⟩) hP hD hS (zou_adr zun_adr) (zou_adr zun_adr) (fun k H locs hk hP hD hS => ?_)
  have q := zs_set h0 (xs (i + 1)) (xs (i + 2)) k hk
  refine lv_istore (lv' := [(5, .int k), (0, .ref b), (1, .ref (x 0)), (2, .ref (mo 0)), (3, .ref o), (4, .int (nI i))]) hx hb dL_law_742 hl (by decide) rfl (fun ls hl => ?_)
  refine lv_aload_n hx hb dL_law_744 rfl (lv_at hl 3 rfl) ?_
  refine zl_arg hx hb hX hbl hbA hS (i := i) (j := 1) (by omega) hL (lv_at hl 5 rfl) (lv_at hl 1 rfl) dL_law_745 dL_law_746 dL_law_748 dL_law_749 dL_law_750 (by decide) ?_
  refine zl_arg hx hb hX hbl hbA hS (i := i) (j := 2) (by omega) hL (lv_at hl 5 rfl) (lv_at hl 1 rfl) dL_law_751 dL_law_752 dL_law_754 dL_law_755 dL_law_756 (by decide) ?_
  refine zm_M (U := (if k = 0 then ouW cA o (vp_updL f 0 ((f_X2_set N B Bs (xs (i + 1)) (xs (i + 2))).1).toInt64) ++ unW cA x bb rd r X ((f_X2_set N B Bs (xs (i + 1)) (xs (i + 2))).2.1) ((f_X2_set N B Bs (xs (i + 1)) (xs (i + 2))).2.2.1) ((f_X2_set N B Bs (xs (i + 1)) (xs (i + 2))).2.2.2) else ouW cA o f ++ unW cA x bb rd r X N B Bs)) (w1 := moW cA mo ((f_X3_set M Nm (xs (i + 1)) (xs (i + 2))).2.1) ((f_X3_set M Nm (xs (i + 1)) (xs (i + 2))).2.2) h) (va_runV (As := [.int (xs (i + 1)), .int (xs (i + 2))]) (rest := []) ⟨hx, hb, hml, hown, hts⟩ (zc_X3_set l D cA mo M Nm h (xs (i + 1)) (xs (i + 2)) h0.2.2.1.2) (cwV 2 hts gL_law_X3_set rfl rfl rfl zy_X3_set ⟨(Nat.le_of_ble_eq_true rfl), (Nat.le_of_ble_eq_true rfl)⟩) (z_preVq (ci := 3) (q0 := 0) hK (zR_P hP) (zR_D hD) rfl rfl) rfl rfl hl.1 rfl (lv_room (Nat.le_of_ble_eq_true rfl)) dL_law_757 ⟨by show k0 + 2 + 0 ≤ 601024; omega, by show n0 + 12 + 0 ≤ 7293034; omega⟩) hP hD hS moW_adr rfl (fun H locs hP hD hS => ?_)
  refine lv_istore (lv' := [(6, .int ((f_X3_set M Nm (xs (i + 1)) (xs (i + 2))).1)), (5, .int k), (0, .ref b), (1, .ref (x 0)), (2, .ref (mo 0)), (3, .ref o), (4, .int (nI i))]) hx hb dL_law_760 hl (by decide) rfl (fun ls hl => ?_)
  refine lv_aload_n hx hb dL_law_762 rfl (lv_at hl 4 rfl) ?_
  refine z_E (va_runV (As := []) (rest := []) ⟨hx, hb, hml, hown, hts⟩ (zc_X3_thrown l D cA mo ((f_X3_set M Nm (xs (i + 1)) (xs (i + 2))).2.1) ((f_X3_set M Nm (xs (i + 1)) (xs (i + 2))).2.2) h) (cwV 0 hts gL_law_X3_thrown rfl rfl rfl zy_X3_thrown ⟨(Nat.le_of_ble_eq_true rfl), (Nat.le_of_ble_eq_true rfl)⟩) (z_preVq (ci := 3) (q0 := 0) hK (zR_P hP) (zR_D hD) rfl rfl) rfl rfl hl.1 rfl (lv_room (Nat.le_of_ble_eq_true rfl)) dL_law_763 ⟨by show k0 + 2 + 0 ≤ 601024; omega, by show n0 + 12 + 0 ≤ 7293034; omega⟩) rfl ?_
  refine lv_iload hx hb dL_law_766 (lv_at hl 1 rfl) ?_
  refine lv_icmp_eq (tgt := 773) hx hb dL_law_768 (by decide) (fun _ => ?_) (fun c9 => absurd q.1 c9)
  refine lv_iload hx hb dL_law_773 (lv_at hl 1 rfl) ?_
  refine lv_if_ne (tgt := 790) hx hb dL_law_775 (by decide) (fun c9 => ?_) (fun c9 => ?_)
  · rw [zW_neg c9] at hP hD
    refine lv_goto (tgt := 1731) hx hb dL_law_790 (by decide) ?_
    refine W.widen (k := cK) (n := nK) (by omega) (by omega) ?_
    exact kt _ _ _ _ _ _ _ _ _ _ _ _ (lv_sub hl [2, 3, 4, 5, 6] rfl) hP hD hS ((q.2.2 c9).mono (by omega))
  · rw [zW_pos c9] at hP hD
    refine lv_aload_n hx hb dL_law_778 rfl (lv_at hl 5 rfl) ?_
    refine lv_iconst (v := 0) hx hb dL_law_779 (by decide) ?_
    refine zw_lald hx hb hK (U := unW cA x bb rd r X ((f_X2_set N B Bs (xs (i + 1)) (xs (i + 2))).2.1) ((f_X2_set N B Bs (xs (i + 1)) (xs (i + 2))).2.2.1) ((f_X2_set N B Bs (xs (i + 1)) (xs (i + 2))).2.2.2) ++ moW cA mo ((f_X3_set M Nm (xs (i + 1)) (xs (i + 2))).2.1) ((f_X3_set M Nm (xs (i + 1)) (xs (i + 2))).2.2) h) (by rw [← List.append_assoc]; exact hP) dL_law_780 ?_
    refine lv_iload hx hb dL_law_781 (lv_at hl 0 rfl) ?_
    refine lv_i2l hx hb dL_law_783 rfl ?_
    refine W.lcmp hx hb dL_law_784 ?_
    refine z_top (y := 0) (by rw [zw_up, (q.2.1 c9).1]; exact zlc_eq _) ?_
    refine lv_if_eq (tgt := 790) hx hb dL_law_785 (by decide) (fun _ => ?_) (fun c8 => absurd rfl c8)
    refine lv_goto (tgt := 1731) hx hb dL_law_790 (by decide) ?_
    refine W.widen (k := cK) (n := nK) (by omega) (by omega) ?_
    exact kt _ _ _ _ _ _ _ _ _ _ _ _ (lv_sub hl [2, 3, 4, 5, 6] rfl) hP hD hS ((q.2.1 c9).2.mono (by omega))
set_option maxHeartbeats 4000000 in
set_option maxRecDepth 100000 in
theorem zca_append {p : Program} {l : Launch} {e : Env} {s : State} {m : MethodId} {below : List Frame} {meth : Method} {c : Code} {H : Heap} {locs : List Loc} {k0 n0 cK nK : Nat} {Q : State → Prop} {ls : Array Slot} {b L i : Nat} {xs : Nat → Int32} {D : va_G} {cA : Nat → ClassId} {o rd : Nat} {f : Nat → Int64} {bb : Nat → Nat → Nat} {r x mo : Nat → Nat} {X : BK} {N : NK} {B : BK} {Bs : Nat → BK} {M : BK} {Nm : Nat → Nat} {h : Int64} {K : Int} (E : zEv p l s m c b L xs D cA) (hi : i + 3 < L) (hcK : k0 + 4 ≤ cK ∧ n0 + 24 ≤ nK ∧ cK ≤ 601024 ∧ nK ≤ 7293034) (h0 : zL K r N B X Bs M Nm) (hK9 : K + 620000 ≤ 2 ^ 29) (hl : lv_has ls 9 [(0, .ref b), (1, .ref (x 0)), (2, .ref (mo 0)), (3, .ref o), (4, .int (nI i))]) (hP : va_P D vwCl ((ouW cA o f ++ unW cA x bb rd r X N B Bs) ++ moW cA mo M Nm h) H) (hD : va_D (fun q => s.heap.size ≤ q) ((ouW cA o f ++ unW cA x bb rd r X N B Bs) ++ moW cA mo M Nm h)) (hS : va_S (fun q => s.heap.size ≤ q) s.heap H locs) (kt : zKt p l e s m below meth c b i D cA o bb rd x mo (K + 620000) cK nK Q) : W p l e room_1 s m #[.ref b] below meth c H locs k0 n0 Q (F0 m 793 ls []) := by
  obtain ⟨hx, hb, hml, hown, hts, hX, hbl, hL, hK, hO, hn, hfl⟩ := E
  have hbA : ¬ (fun q => s.heap.size ≤ q) b := Nat.not_le.mpr hbl
  refine lv_aload_n hx hb dL_law_793 rfl (lv_at hl 1 rfl) ?_
  refine zl_arg hx hb hX hbl hbA hS (i := i) (j := 1) (by omega) hL (lv_at hl 4 rfl) (lv_at hl 0 rfl) dL_law_794 dL_law_795 dL_law_797 dL_law_798 dL_law_799 (by decide) ?_
  refine lv_aload_n hx hb dL_law_800 rfl (lv_at hl 3 rfl) ?_
  refine zv_W (w1 := ouW cA o (vp_updL f 0 ((f_X2_append N (xs (i + 1))).1).toInt64) ++ unW cA x bb rd r X ((f_X2_append N (xs (i + 1))).2) B Bs) (w2 := ouW cA o f ++ unW cA x bb rd r X N B Bs) (vx_runSW (As := [.ref (x 0), .int (xs (i + 1)), .ref o]) (rest := []) ⟨hx, hb, hml, hown, hts⟩ (zl_append l hfl D cA o f bb rd r x X N B Bs (xs (i + 1)) (by have := h0.2.2.2.1; omega)) (vx_cwSW 3 hts gL_law_L_append rfl rfl rfl zy_L_append.2 ⟨(Nat.le_of_ble_eq_true rfl), (Nat.le_of_ble_eq_true rfl)⟩) (zPw_preS hK (zL_P hP) (zL_D hD) hO hn hS (zL_fr hD)) rfl rfl hl.1 rfl (lv_room (Nat.le_of_ble_eq_true rfl)) dL_law_801 ⟨by show k0 + 2 ≤ 601024; omega, by show n0 + 12 ≤ 7293034; omega⟩) hP hD hS (zou_adr zun_adr) (zou_adr zun_adr) (fun k H locs hk hP hD hS => ?_)
  have q := zs_append h0 (xs (i + 1)) k hk
  refine lv_istore (lv' := [(5, .int k), (0, .ref b), (1, .ref (x 0)), (2, .ref (mo 0)), (3, .ref o), (4, .int (nI i))]) hx hb dL_law_804 hl (by decide) rfl (fun ls hl => ?_)
  refine lv_aload_n hx hb dL_law_806 rfl (lv_at hl 3 rfl) ?_
  refine zl_arg hx hb hX hbl hbA hS (i := i) (j := 1) (by omega) hL (lv_at hl 5 rfl) (lv_at hl 1 rfl) dL_law_807 dL_law_808 dL_law_810 dL_law_811 dL_law_812 (by decide) ?_
  refine zm_M (U := (if k = 0 then ouW cA o (vp_updL f 0 ((f_X2_append N (xs (i + 1))).1).toInt64) ++ unW cA x bb rd r X ((f_X2_append N (xs (i + 1))).2) B Bs else ouW cA o f ++ unW cA x bb rd r X N B Bs)) (w1 := moW cA mo ((f_X3_append M Nm (xs (i + 1))).2.1) ((f_X3_append M Nm (xs (i + 1))).2.2) h) (va_runV (As := [.int (xs (i + 1))]) (rest := []) ⟨hx, hb, hml, hown, hts⟩ (zc_X3_append l D cA mo M Nm h (xs (i + 1)) h0.2.2.2.1.2) (cwV 1 hts gL_law_X3_append rfl rfl rfl zy_X3_append ⟨(Nat.le_of_ble_eq_true rfl), (Nat.le_of_ble_eq_true rfl)⟩) (z_preVq (ci := 3) (q0 := 0) hK (zR_P hP) (zR_D hD) rfl rfl) rfl rfl hl.1 rfl (lv_room (Nat.le_of_ble_eq_true rfl)) dL_law_813 ⟨by show k0 + 2 + 0 ≤ 601024; omega, by show n0 + 12 + 0 ≤ 7293034; omega⟩) hP hD hS moW_adr rfl (fun H locs hP hD hS => ?_)
  refine lv_istore (lv' := [(6, .int ((f_X3_append M Nm (xs (i + 1))).1)), (5, .int k), (0, .ref b), (1, .ref (x 0)), (2, .ref (mo 0)), (3, .ref o), (4, .int (nI i))]) hx hb dL_law_816 hl (by decide) rfl (fun ls hl => ?_)
  refine lv_aload_n hx hb dL_law_818 rfl (lv_at hl 4 rfl) ?_
  refine z_E (va_runV (As := []) (rest := []) ⟨hx, hb, hml, hown, hts⟩ (zc_X3_thrown l D cA mo ((f_X3_append M Nm (xs (i + 1))).2.1) ((f_X3_append M Nm (xs (i + 1))).2.2) h) (cwV 0 hts gL_law_X3_thrown rfl rfl rfl zy_X3_thrown ⟨(Nat.le_of_ble_eq_true rfl), (Nat.le_of_ble_eq_true rfl)⟩) (z_preVq (ci := 3) (q0 := 0) hK (zR_P hP) (zR_D hD) rfl rfl) rfl rfl hl.1 rfl (lv_room (Nat.le_of_ble_eq_true rfl)) dL_law_819 ⟨by show k0 + 2 + 0 ≤ 601024; omega, by show n0 + 12 + 0 ≤ 7293034; omega⟩) rfl ?_
  refine lv_iload hx hb dL_law_822 (lv_at hl 1 rfl) ?_
  refine lv_icmp_eq (tgt := 829) hx hb dL_law_824 (by decide) (fun _ => ?_) (fun c9 => absurd q.1 c9)
  refine lv_iload hx hb dL_law_829 (lv_at hl 1 rfl) ?_
  refine lv_if_ne (tgt := 846) hx hb dL_law_831 (by decide) (fun c9 => ?_) (fun c9 => ?_)
  · rw [zW_neg c9] at hP hD
    refine lv_goto (tgt := 1731) hx hb dL_law_846 (by decide) ?_
    refine W.widen (k := cK) (n := nK) (by omega) (by omega) ?_
    exact kt _ _ _ _ _ _ _ _ _ _ _ _ (lv_sub hl [2, 3, 4, 5, 6] rfl) hP hD hS ((q.2.2 c9).mono (by omega))
  · rw [zW_pos c9] at hP hD
    refine lv_aload_n hx hb dL_law_834 rfl (lv_at hl 5 rfl) ?_
    refine lv_iconst (v := 0) hx hb dL_law_835 (by decide) ?_
    refine zw_lald hx hb hK (U := unW cA x bb rd r X ((f_X2_append N (xs (i + 1))).2) B Bs ++ moW cA mo ((f_X3_append M Nm (xs (i + 1))).2.1) ((f_X3_append M Nm (xs (i + 1))).2.2) h) (by rw [← List.append_assoc]; exact hP) dL_law_836 ?_
    refine lv_iload hx hb dL_law_837 (lv_at hl 0 rfl) ?_
    refine lv_i2l hx hb dL_law_839 rfl ?_
    refine W.lcmp hx hb dL_law_840 ?_
    refine z_top (y := 0) (by rw [zw_up, (q.2.1 c9).1]; exact zlc_eq _) ?_
    refine lv_if_eq (tgt := 846) hx hb dL_law_841 (by decide) (fun _ => ?_) (fun c8 => absurd rfl c8)
    refine lv_goto (tgt := 1731) hx hb dL_law_846 (by decide) ?_
    refine W.widen (k := cK) (n := nK) (by omega) (by omega) ?_
    exact kt _ _ _ _ _ _ _ _ _ _ _ _ (lv_sub hl [2, 3, 4, 5, 6] rfl) hP hD hS ((q.2.1 c9).2.mono (by omega))
set_option maxHeartbeats 4000000 in
set_option maxRecDepth 100000 in
theorem zca_run {p : Program} {l : Launch} {e : Env} {s : State} {m : MethodId} {below : List Frame} {meth : Method} {c : Code} {H : Heap} {locs : List Loc} {k0 n0 cK nK : Nat} {Q : State → Prop} {ls : Array Slot} {b L i : Nat} {xs : Nat → Int32} {D : va_G} {cA : Nat → ClassId} {o rd : Nat} {f : Nat → Int64} {bb : Nat → Nat → Nat} {r x mo : Nat → Nat} {X : BK} {N : NK} {B : BK} {Bs : Nat → BK} {M : BK} {Nm : Nat → Nat} {h : Int64} {K : Int} (E : zEv p l s m c b L xs D cA) (hi : i + 3 < L) (hcK : k0 + 4 ≤ cK ∧ n0 + 24 ≤ nK ∧ cK ≤ 601024 ∧ nK ≤ 7293034) (h0 : zL K r N B X Bs M Nm) (hK9 : K + 620000 ≤ 2 ^ 29) (hl : lv_has ls 9 [(0, .ref b), (1, .ref (x 0)), (2, .ref (mo 0)), (3, .ref o), (4, .int (nI i))]) (hP : va_P D vwCl ((ouW cA o f ++ unW cA x bb rd r X N B Bs) ++ moW cA mo M Nm h) H) (hD : va_D (fun q => s.heap.size ≤ q) ((ouW cA o f ++ unW cA x bb rd r X N B Bs) ++ moW cA mo M Nm h)) (hS : va_S (fun q => s.heap.size ≤ q) s.heap H locs) (kt : zKt p l e s m below meth c b i D cA o bb rd x mo (K + 620000) cK nK Q) : W p l e room_1 s m #[.ref b] below meth c H locs k0 n0 Q (F0 m 875 ls []) := by
  obtain ⟨hx, hb, hml, hown, hts, hX, hbl, hL, hK, hO, hn, hfl⟩ := E
  have hbA : ¬ (fun q => s.heap.size ≤ q) b := Nat.not_le.mpr hbl
  refine lv_aload_n hx hb dL_law_875 rfl (lv_at hl 1 rfl) ?_
  refine lv_aload_n hx hb dL_law_876 rfl (lv_at hl 3 rfl) ?_
  refine zv_W (w1 := ouW cA o (vp_updL f 0 ((f_X2_run r N B Bs).1).toInt64) ++ unW cA x bb rd ((f_X2_run r N B Bs).2.1) X ((f_X2_run r N B Bs).2.2.1) ((f_X2_run r N B Bs).2.2.2.1) ((f_X2_run r N B Bs).2.2.2.2)) (w2 := ouW cA o f ++ unW cA x bb rd ((f_X2_readToError r N).2) X N B Bs) (vx_runSW (As := [.ref (x 0), .ref o]) (rest := []) ⟨hx, hb, hml, hown, hts⟩ (zl_run l hfl D cA o f bb rd r x X N B Bs  h0.2.2.2.2.1.1 (by have := h0.2.2.1; omega) (by have := h0.2.2.2.1; omega) (zl_bs h0) (zl_ri h0) (zl_hall h0)) (vx_cwSW 2 hts gL_law_L_run rfl rfl rfl zy_L_run.2 ⟨(Nat.le_of_ble_eq_true rfl), (Nat.le_of_ble_eq_true rfl)⟩) (zPw_preS hK (zL_P hP) (zL_D hD) hO hn hS (zL_fr hD)) rfl rfl hl.1 rfl (lv_room (Nat.le_of_ble_eq_true rfl)) dL_law_877 ⟨by show k0 + 1 ≤ 601024; omega, by show n0 + 6 ≤ 7293034; omega⟩) hP hD hS (zou_adr zun_adr) (zou_adr zun_adr) (fun k H locs hk hP hD hS => ?_)
  have q := zs_run h0 hK9  k hk
  refine lv_istore (lv' := [(5, .int k), (0, .ref b), (1, .ref (x 0)), (2, .ref (mo 0)), (3, .ref o), (4, .int (nI i))]) hx hb dL_law_880 hl (by decide) rfl (fun ls hl => ?_)
  refine lv_aload_n hx hb dL_law_882 rfl (lv_at hl 3 rfl) ?_
  refine zm_M (U := (if k = 0 then ouW cA o (vp_updL f 0 ((f_X2_run r N B Bs).1).toInt64) ++ unW cA x bb rd ((f_X2_run r N B Bs).2.1) X ((f_X2_run r N B Bs).2.2.1) ((f_X2_run r N B Bs).2.2.2.1) ((f_X2_run r N B Bs).2.2.2.2) else ouW cA o f ++ unW cA x bb rd ((f_X2_readToError r N).2) X N B Bs)) (w1 := moW cA mo ((f_X3_run M Nm).2.1) ((f_X3_run M Nm).2.2) h) (va_runV (As := []) (rest := []) ⟨hx, hb, hml, hown, hts⟩ (zc_X3_run l D cA mo M Nm h  h0.2.2.1.2 h0.2.2.2.1.2) (cwV 0 hts gL_law_X3_run rfl rfl rfl zy_X3_run ⟨(Nat.le_of_ble_eq_true rfl), (Nat.le_of_ble_eq_true rfl)⟩) (z_preVq (ci := 3) (q0 := 0) hK (zR_P hP) (zR_D hD) rfl rfl) rfl rfl hl.1 rfl (lv_room (Nat.le_of_ble_eq_true rfl)) dL_law_883 ⟨by show k0 + 1 + 0 ≤ 601024; omega, by show n0 + 6 + 0 ≤ 7293034; omega⟩) hP hD hS moW_adr rfl (fun H locs hP hD hS => ?_)
  refine lv_istore (lv' := [(6, .int ((f_X3_run M Nm).1)), (5, .int k), (0, .ref b), (1, .ref (x 0)), (2, .ref (mo 0)), (3, .ref o), (4, .int (nI i))]) hx hb dL_law_886 hl (by decide) rfl (fun ls hl => ?_)
  refine lv_aload_n hx hb dL_law_888 rfl (lv_at hl 4 rfl) ?_
  refine z_E (va_runV (As := []) (rest := []) ⟨hx, hb, hml, hown, hts⟩ (zc_X3_thrown l D cA mo ((f_X3_run M Nm).2.1) ((f_X3_run M Nm).2.2) h) (cwV 0 hts gL_law_X3_thrown rfl rfl rfl zy_X3_thrown ⟨(Nat.le_of_ble_eq_true rfl), (Nat.le_of_ble_eq_true rfl)⟩) (z_preVq (ci := 3) (q0 := 0) hK (zR_P hP) (zR_D hD) rfl rfl) rfl rfl hl.1 rfl (lv_room (Nat.le_of_ble_eq_true rfl)) dL_law_889 ⟨by show k0 + 1 + 0 ≤ 601024; omega, by show n0 + 6 + 0 ≤ 7293034; omega⟩) rfl ?_
  refine lv_iload hx hb dL_law_892 (lv_at hl 1 rfl) ?_
  refine lv_icmp_eq (tgt := 899) hx hb dL_law_894 (by decide) (fun _ => ?_) (fun c9 => absurd q.1 c9)
  refine lv_iload hx hb dL_law_899 (lv_at hl 1 rfl) ?_
  refine lv_if_ne (tgt := 916) hx hb dL_law_901 (by decide) (fun c9 => ?_) (fun c9 => ?_)
  · rw [zW_neg c9] at hP hD
    refine lv_goto (tgt := 1731) hx hb dL_law_916 (by decide) ?_
    refine W.widen (k := cK) (n := nK) (by omega) (by omega) ?_
    exact kt _ _ _ _ _ _ _ _ _ _ _ _ (lv_sub hl [2, 3, 4, 5, 6] rfl) hP hD hS ((q.2.2 c9).mono (by omega))
  · rw [zW_pos c9] at hP hD
    refine lv_aload_n hx hb dL_law_904 rfl (lv_at hl 5 rfl) ?_
    refine lv_iconst (v := 0) hx hb dL_law_905 (by decide) ?_
    refine zw_lald hx hb hK (U := unW cA x bb rd ((f_X2_run r N B Bs).2.1) X ((f_X2_run r N B Bs).2.2.1) ((f_X2_run r N B Bs).2.2.2.1) ((f_X2_run r N B Bs).2.2.2.2) ++ moW cA mo ((f_X3_run M Nm).2.1) ((f_X3_run M Nm).2.2) h) (by rw [← List.append_assoc]; exact hP) dL_law_906 ?_
    refine lv_iload hx hb dL_law_907 (lv_at hl 0 rfl) ?_
    refine lv_i2l hx hb dL_law_909 rfl ?_
    refine W.lcmp hx hb dL_law_910 ?_
    refine z_top (y := 0) (by rw [zw_up, (q.2.1 c9).1]; exact zlc_eq _) ?_
    refine lv_if_eq (tgt := 916) hx hb dL_law_911 (by decide) (fun _ => ?_) (fun c8 => absurd rfl c8)
    refine lv_goto (tgt := 1731) hx hb dL_law_916 (by decide) ?_
    refine W.widen (k := cK) (n := nK) (by omega) (by omega) ?_
    exact kt _ _ _ _ _ _ _ _ _ _ _ _ (lv_sub hl [2, 3, 4, 5, 6] rfl) hP hD hS ((q.2.1 c9).2.mono (by omega))
set_option maxHeartbeats 4000000 in
set_option maxRecDepth 100000 in
theorem zca_keep {p : Program} {l : Launch} {e : Env} {s : State} {m : MethodId} {below : List Frame} {meth : Method} {c : Code} {H : Heap} {locs : List Loc} {k0 n0 cK nK : Nat} {Q : State → Prop} {ls : Array Slot} {b L i : Nat} {xs : Nat → Int32} {D : va_G} {cA : Nat → ClassId} {o rd : Nat} {f : Nat → Int64} {bb : Nat → Nat → Nat} {r x mo : Nat → Nat} {X : BK} {N : NK} {B : BK} {Bs : Nat → BK} {M : BK} {Nm : Nat → Nat} {h : Int64} {K : Int} (E : zEv p l s m c b L xs D cA) (hi : i + 3 < L) (hcK : k0 + 4 ≤ cK ∧ n0 + 24 ≤ nK ∧ cK ≤ 601024 ∧ nK ≤ 7293034) (h0 : zL K r N B X Bs M Nm) (hK9 : K + 620000 ≤ 2 ^ 29) (hl : lv_has ls 9 [(0, .ref b), (1, .ref (x 0)), (2, .ref (mo 0)), (3, .ref o), (4, .int (nI i))]) (hP : va_P D vwCl ((ouW cA o f ++ unW cA x bb rd r X N B Bs) ++ moW cA mo M Nm h) H) (hD : va_D (fun q => s.heap.size ≤ q) ((ouW cA o f ++ unW cA x bb rd r X N B Bs) ++ moW cA mo M Nm h)) (hS : va_S (fun q => s.heap.size ≤ q) s.heap H locs) (kt : zKt p l e s m below meth c b i D cA o bb rd x mo (K + 620000) cK nK Q) : W p l e room_1 s m #[.ref b] below meth c H locs k0 n0 Q (F0 m 919 ls []) := by
  obtain ⟨hx, hb, hml, hown, hts, hX, hbl, hL, hK, hO, hn, hfl⟩ := E
  have hbA : ¬ (fun q => s.heap.size ≤ q) b := Nat.not_le.mpr hbl
  refine lv_aload_n hx hb dL_law_919 rfl (lv_at hl 1 rfl) ?_
  refine zl_arg hx hb hX hbl hbA hS (i := i) (j := 1) (by omega) hL (lv_at hl 4 rfl) (lv_at hl 0 rfl) dL_law_920 dL_law_921 dL_law_923 dL_law_924 dL_law_925 (by decide) ?_
  refine lv_aload_n hx hb dL_law_926 rfl (lv_at hl 3 rfl) ?_
  refine zv_W (w1 := ouW cA o (vp_updL f 0 ((f_X2_keep X B Bs (xs (i + 1))).1).toInt64) ++ unW cA x bb rd r ((f_X2_keep X B Bs (xs (i + 1))).2.1) N B ((f_X2_keep X B Bs (xs (i + 1))).2.2)) (w2 := ouW cA o f ++ unW cA x bb rd r X N B Bs) (vx_runSW (As := [.ref (x 0), .int (xs (i + 1)), .ref o]) (rest := []) ⟨hx, hb, hml, hown, hts⟩ (zl_keep l hfl D cA o f bb rd r x X N B Bs (xs (i + 1)) ) (vx_cwSW 3 hts gL_law_L_keep rfl rfl rfl zy_L_keep.2 ⟨(Nat.le_of_ble_eq_true rfl), (Nat.le_of_ble_eq_true rfl)⟩) (zPw_preS hK (zL_P hP) (zL_D hD) hO hn hS (zL_fr hD)) rfl rfl hl.1 rfl (lv_room (Nat.le_of_ble_eq_true rfl)) dL_law_927 ⟨by show k0 + 1 ≤ 601024; omega, by show n0 + 6 ≤ 7293034; omega⟩) hP hD hS (zou_adr zun_adr) (zou_adr zun_adr) (fun k H locs hk hP hD hS => ?_)
  have q := zs_keep h0 (xs (i + 1)) k hk
  refine lv_istore (lv' := [(5, .int k), (0, .ref b), (1, .ref (x 0)), (2, .ref (mo 0)), (3, .ref o), (4, .int (nI i))]) hx hb dL_law_930 hl (by decide) rfl (fun ls hl => ?_)
  refine lv_aload_n hx hb dL_law_932 rfl (lv_at hl 3 rfl) ?_
  refine zl_arg hx hb hX hbl hbA hS (i := i) (j := 1) (by omega) hL (lv_at hl 5 rfl) (lv_at hl 1 rfl) dL_law_933 dL_law_934 dL_law_936 dL_law_937 dL_law_938 (by decide) ?_
  refine zm_M (U := (if k = 0 then ouW cA o (vp_updL f 0 ((f_X2_keep X B Bs (xs (i + 1))).1).toInt64) ++ unW cA x bb rd r ((f_X2_keep X B Bs (xs (i + 1))).2.1) N B ((f_X2_keep X B Bs (xs (i + 1))).2.2) else ouW cA o f ++ unW cA x bb rd r X N B Bs)) (w1 := moW cA mo ((f_X3_keep M (xs (i + 1))).2) Nm h) (va_runV (As := [.int (xs (i + 1))]) (rest := []) ⟨hx, hb, hml, hown, hts⟩ (zc_X3_keep l D cA mo M Nm h (xs (i + 1)) ) (cwV 1 hts gL_law_X3_keep rfl rfl rfl zy_X3_keep ⟨(Nat.le_of_ble_eq_true rfl), (Nat.le_of_ble_eq_true rfl)⟩) (z_preVq (ci := 3) (q0 := 0) hK (zR_P hP) (zR_D hD) rfl rfl) rfl rfl hl.1 rfl (lv_room (Nat.le_of_ble_eq_true rfl)) dL_law_939 ⟨by show k0 + 1 + 0 ≤ 601024; omega, by show n0 + 6 + 0 ≤ 7293034; omega⟩) hP hD hS moW_adr rfl (fun H locs hP hD hS => ?_)
  refine lv_istore (lv' := [(6, .int ((f_X3_keep M (xs (i + 1))).1)), (5, .int k), (0, .ref b), (1, .ref (x 0)), (2, .ref (mo 0)), (3, .ref o), (4, .int (nI i))]) hx hb dL_law_942 hl (by decide) rfl (fun ls hl => ?_)
  refine lv_aload_n hx hb dL_law_944 rfl (lv_at hl 4 rfl) ?_
  refine z_E (va_runV (As := []) (rest := []) ⟨hx, hb, hml, hown, hts⟩ (zc_X3_thrown l D cA mo ((f_X3_keep M (xs (i + 1))).2) Nm h) (cwV 0 hts gL_law_X3_thrown rfl rfl rfl zy_X3_thrown ⟨(Nat.le_of_ble_eq_true rfl), (Nat.le_of_ble_eq_true rfl)⟩) (z_preVq (ci := 3) (q0 := 0) hK (zR_P hP) (zR_D hD) rfl rfl) rfl rfl hl.1 rfl (lv_room (Nat.le_of_ble_eq_true rfl)) dL_law_945 ⟨by show k0 + 1 + 0 ≤ 601024; omega, by show n0 + 6 + 0 ≤ 7293034; omega⟩) rfl ?_
  refine lv_iload hx hb dL_law_948 (lv_at hl 1 rfl) ?_
  refine lv_icmp_eq (tgt := 955) hx hb dL_law_950 (by decide) (fun _ => ?_) (fun c9 => absurd q.1 c9)
  refine lv_iload hx hb dL_law_955 (lv_at hl 1 rfl) ?_
  refine lv_if_ne (tgt := 972) hx hb dL_law_957 (by decide) (fun c9 => ?_) (fun c9 => ?_)
  · rw [zW_neg c9] at hP hD
    refine lv_goto (tgt := 1731) hx hb dL_law_972 (by decide) ?_
    refine W.widen (k := cK) (n := nK) (by omega) (by omega) ?_
    exact kt _ _ _ _ _ _ _ _ _ _ _ _ (lv_sub hl [2, 3, 4, 5, 6] rfl) hP hD hS ((q.2.2 c9).mono (by omega))
  · rw [zW_pos c9] at hP hD
    refine lv_aload_n hx hb dL_law_960 rfl (lv_at hl 5 rfl) ?_
    refine lv_iconst (v := 0) hx hb dL_law_961 (by decide) ?_
    refine zw_lald hx hb hK (U := unW cA x bb rd r ((f_X2_keep X B Bs (xs (i + 1))).2.1) N B ((f_X2_keep X B Bs (xs (i + 1))).2.2) ++ moW cA mo ((f_X3_keep M (xs (i + 1))).2) Nm h) (by rw [← List.append_assoc]; exact hP) dL_law_962 ?_
    refine lv_iload hx hb dL_law_963 (lv_at hl 0 rfl) ?_
    refine lv_i2l hx hb dL_law_965 rfl ?_
    refine W.lcmp hx hb dL_law_966 ?_
    refine z_top (y := 0) (by rw [zw_up, (q.2.1 c9).1]; exact zlc_eq _) ?_
    refine lv_if_eq (tgt := 972) hx hb dL_law_967 (by decide) (fun _ => ?_) (fun c8 => absurd rfl c8)
    refine lv_goto (tgt := 1731) hx hb dL_law_972 (by decide) ?_
    refine W.widen (k := cK) (n := nK) (by omega) (by omega) ?_
    exact kt _ _ _ _ _ _ _ _ _ _ _ _ (lv_sub hl [2, 3, 4, 5, 6] rfl) hP hD hS ((q.2.1 c9).2.mono (by omega))
set_option maxHeartbeats 4000000 in
set_option maxRecDepth 100000 in
theorem zca_goBack {p : Program} {l : Launch} {e : Env} {s : State} {m : MethodId} {below : List Frame} {meth : Method} {c : Code} {H : Heap} {locs : List Loc} {k0 n0 cK nK : Nat} {Q : State → Prop} {ls : Array Slot} {b L i : Nat} {xs : Nat → Int32} {D : va_G} {cA : Nat → ClassId} {o rd : Nat} {f : Nat → Int64} {bb : Nat → Nat → Nat} {r x mo : Nat → Nat} {X : BK} {N : NK} {B : BK} {Bs : Nat → BK} {M : BK} {Nm : Nat → Nat} {h : Int64} {K : Int} (E : zEv p l s m c b L xs D cA) (hi : i + 3 < L) (hcK : k0 + 4 ≤ cK ∧ n0 + 24 ≤ nK ∧ cK ≤ 601024 ∧ nK ≤ 7293034) (h0 : zL K r N B X Bs M Nm) (hK9 : K + 620000 ≤ 2 ^ 29) (hl : lv_has ls 9 [(0, .ref b), (1, .ref (x 0)), (2, .ref (mo 0)), (3, .ref o), (4, .int (nI i))]) (hP : va_P D vwCl ((ouW cA o f ++ unW cA x bb rd r X N B Bs) ++ moW cA mo M Nm h) H) (hD : va_D (fun q => s.heap.size ≤ q) ((ouW cA o f ++ unW cA x bb rd r X N B Bs) ++ moW cA mo M Nm h)) (hS : va_S (fun q => s.heap.size ≤ q) s.heap H locs) (kt : zKt p l e s m below meth c b i D cA o bb rd x mo (K + 620000) cK nK Q) : W p l e room_1 s m #[.ref b] below meth c H locs k0 n0 Q (F0 m 975 ls []) := by
  obtain ⟨hx, hb, hml, hown, hts, hX, hbl, hL, hK, hO, hn, hfl⟩ := E
  have hbA : ¬ (fun q => s.heap.size ≤ q) b := Nat.not_le.mpr hbl
  refine lv_aload_n hx hb dL_law_975 rfl (lv_at hl 1 rfl) ?_
  refine zl_arg hx hb hX hbl hbA hS (i := i) (j := 1) (by omega) hL (lv_at hl 4 rfl) (lv_at hl 0 rfl) dL_law_976 dL_law_977 dL_law_979 dL_law_980 dL_law_981 (by decide) ?_
  refine lv_aload_n hx hb dL_law_982 rfl (lv_at hl 3 rfl) ?_
  refine zv_W (w1 := ouW cA o (vp_updL f 0 ((f_X2_goBack N B Bs (xs (i + 1))).1).toInt64) ++ unW cA x bb rd r X ((f_X2_goBack N B Bs (xs (i + 1))).2.1) ((f_X2_goBack N B Bs (xs (i + 1))).2.2.1) ((f_X2_goBack N B Bs (xs (i + 1))).2.2.2)) (w2 := ouW cA o f ++ unW cA x bb rd r X N B Bs) (vx_runSW (As := [.ref (x 0), .int (xs (i + 1)), .ref o]) (rest := []) ⟨hx, hb, hml, hown, hts⟩ (zl_goBack l hfl D cA o f bb rd r x X N B Bs (xs (i + 1)) h0.2.2.2.2.1.1 (by have := h0.2.2.1; omega)) (vx_cwSW 3 hts gL_law_L_goBack rfl rfl rfl zy_L_goBack.2 ⟨(Nat.le_of_ble_eq_true rfl), (Nat.le_of_ble_eq_true rfl)⟩) (zPw_preS hK (zL_P hP) (zL_D hD) hO hn hS (zL_fr hD)) rfl rfl hl.1 rfl (lv_room (Nat.le_of_ble_eq_true rfl)) dL_law_983 ⟨by show k0 + 2 ≤ 601024; omega, by show n0 + 12 ≤ 7293034; omega⟩) hP hD hS (zou_adr zun_adr) (zou_adr zun_adr) (fun k H locs hk hP hD hS => ?_)
  have q := zs_goBack h0 (xs (i + 1)) k hk
  refine lv_istore (lv' := [(5, .int k), (0, .ref b), (1, .ref (x 0)), (2, .ref (mo 0)), (3, .ref o), (4, .int (nI i))]) hx hb dL_law_986 hl (by decide) rfl (fun ls hl => ?_)
  refine lv_aload_n hx hb dL_law_988 rfl (lv_at hl 3 rfl) ?_
  refine zl_arg hx hb hX hbl hbA hS (i := i) (j := 1) (by omega) hL (lv_at hl 5 rfl) (lv_at hl 1 rfl) dL_law_989 dL_law_990 dL_law_992 dL_law_993 dL_law_994 (by decide) ?_
  refine zm_M (U := (if k = 0 then ouW cA o (vp_updL f 0 ((f_X2_goBack N B Bs (xs (i + 1))).1).toInt64) ++ unW cA x bb rd r X ((f_X2_goBack N B Bs (xs (i + 1))).2.1) ((f_X2_goBack N B Bs (xs (i + 1))).2.2.1) ((f_X2_goBack N B Bs (xs (i + 1))).2.2.2) else ouW cA o f ++ unW cA x bb rd r X N B Bs)) (w1 := moW cA mo ((f_X3_goBack M Nm (xs (i + 1))).2.1) ((f_X3_goBack M Nm (xs (i + 1))).2.2) h) (va_runV (As := [.int (xs (i + 1))]) (rest := []) ⟨hx, hb, hml, hown, hts⟩ (zc_X3_goBack l D cA mo M Nm h (xs (i + 1)) h0.2.2.1.2) (cwV 1 hts gL_law_X3_goBack rfl rfl rfl zy_X3_goBack ⟨(Nat.le_of_ble_eq_true rfl), (Nat.le_of_ble_eq_true rfl)⟩) (z_preVq (ci := 3) (q0 := 0) hK (zR_P hP) (zR_D hD) rfl rfl) rfl rfl hl.1 rfl (lv_room (Nat.le_of_ble_eq_true rfl)) dL_law_995 ⟨by show k0 + 2 + 0 ≤ 601024; omega, by show n0 + 12 + 0 ≤ 7293034; omega⟩) hP hD hS moW_adr rfl (fun H locs hP hD hS => ?_)
  refine lv_istore (lv' := [(6, .int ((f_X3_goBack M Nm (xs (i + 1))).1)), (5, .int k), (0, .ref b), (1, .ref (x 0)), (2, .ref (mo 0)), (3, .ref o), (4, .int (nI i))]) hx hb dL_law_998 hl (by decide) rfl (fun ls hl => ?_)
  refine lv_aload_n hx hb dL_law_1000 rfl (lv_at hl 4 rfl) ?_
  refine z_E (va_runV (As := []) (rest := []) ⟨hx, hb, hml, hown, hts⟩ (zc_X3_thrown l D cA mo ((f_X3_goBack M Nm (xs (i + 1))).2.1) ((f_X3_goBack M Nm (xs (i + 1))).2.2) h) (cwV 0 hts gL_law_X3_thrown rfl rfl rfl zy_X3_thrown ⟨(Nat.le_of_ble_eq_true rfl), (Nat.le_of_ble_eq_true rfl)⟩) (z_preVq (ci := 3) (q0 := 0) hK (zR_P hP) (zR_D hD) rfl rfl) rfl rfl hl.1 rfl (lv_room (Nat.le_of_ble_eq_true rfl)) dL_law_1001 ⟨by show k0 + 2 + 0 ≤ 601024; omega, by show n0 + 12 + 0 ≤ 7293034; omega⟩) rfl ?_
  refine lv_iload hx hb dL_law_1004 (lv_at hl 1 rfl) ?_
  refine lv_icmp_eq (tgt := 1011) hx hb dL_law_1006 (by decide) (fun _ => ?_) (fun c9 => absurd q.1 c9)
  refine lv_iload hx hb dL_law_1011 (lv_at hl 1 rfl) ?_
  refine lv_if_ne (tgt := 1028) hx hb dL_law_1013 (by decide) (fun c9 => ?_) (fun c9 => ?_)
  · rw [zW_neg c9] at hP hD
    refine lv_goto (tgt := 1731) hx hb dL_law_1028 (by decide) ?_
    refine W.widen (k := cK) (n := nK) (by omega) (by omega) ?_
    exact kt _ _ _ _ _ _ _ _ _ _ _ _ (lv_sub hl [2, 3, 4, 5, 6] rfl) hP hD hS ((q.2.2 c9).mono (by omega))
  · rw [zW_pos c9] at hP hD
    refine lv_aload_n hx hb dL_law_1016 rfl (lv_at hl 5 rfl) ?_
    refine lv_iconst (v := 0) hx hb dL_law_1017 (by decide) ?_
    refine zw_lald hx hb hK (U := unW cA x bb rd r X ((f_X2_goBack N B Bs (xs (i + 1))).2.1) ((f_X2_goBack N B Bs (xs (i + 1))).2.2.1) ((f_X2_goBack N B Bs (xs (i + 1))).2.2.2) ++ moW cA mo ((f_X3_goBack M Nm (xs (i + 1))).2.1) ((f_X3_goBack M Nm (xs (i + 1))).2.2) h) (by rw [← List.append_assoc]; exact hP) dL_law_1018 ?_
    refine lv_iload hx hb dL_law_1019 (lv_at hl 0 rfl) ?_
    refine lv_i2l hx hb dL_law_1021 rfl ?_
    refine W.lcmp hx hb dL_law_1022 ?_
    refine z_top (y := 0) (by rw [zw_up, (q.2.1 c9).1]; exact zlc_eq _) ?_
    refine lv_if_eq (tgt := 1028) hx hb dL_law_1023 (by decide) (fun _ => ?_) (fun c8 => absurd rfl c8)
    refine lv_goto (tgt := 1731) hx hb dL_law_1028 (by decide) ?_
    refine W.widen (k := cK) (n := nK) (by omega) (by omega) ?_
    exact kt _ _ _ _ _ _ _ _ _ _ _ _ (lv_sub hl [2, 3, 4, 5, 6] rfl) hP hD hS ((q.2.1 c9).2.mono (by omega))
set_option maxHeartbeats 4000000 in
set_option maxRecDepth 100000 in
theorem zca_undo {p : Program} {l : Launch} {e : Env} {s : State} {m : MethodId} {below : List Frame} {meth : Method} {c : Code} {H : Heap} {locs : List Loc} {k0 n0 cK nK : Nat} {Q : State → Prop} {ls : Array Slot} {b L i : Nat} {xs : Nat → Int32} {D : va_G} {cA : Nat → ClassId} {o rd : Nat} {f : Nat → Int64} {bb : Nat → Nat → Nat} {r x mo : Nat → Nat} {X : BK} {N : NK} {B : BK} {Bs : Nat → BK} {M : BK} {Nm : Nat → Nat} {h : Int64} {K : Int} (E : zEv p l s m c b L xs D cA) (hi : i + 3 < L) (hcK : k0 + 4 ≤ cK ∧ n0 + 24 ≤ nK ∧ cK ≤ 601024 ∧ nK ≤ 7293034) (h0 : zL K r N B X Bs M Nm) (hK9 : K + 620000 ≤ 2 ^ 29) (hl : lv_has ls 9 [(0, .ref b), (1, .ref (x 0)), (2, .ref (mo 0)), (3, .ref o), (4, .int (nI i))]) (hP : va_P D vwCl ((ouW cA o f ++ unW cA x bb rd r X N B Bs) ++ moW cA mo M Nm h) H) (hD : va_D (fun q => s.heap.size ≤ q) ((ouW cA o f ++ unW cA x bb rd r X N B Bs) ++ moW cA mo M Nm h)) (hS : va_S (fun q => s.heap.size ≤ q) s.heap H locs) (kt : zKt p l e s m below meth c b i D cA o bb rd x mo (K + 620000) cK nK Q) : W p l e room_1 s m #[.ref b] below meth c H locs k0 n0 Q (F0 m 1031 ls []) := by
  obtain ⟨hx, hb, hml, hown, hts, hX, hbl, hL, hK, hO, hn, hfl⟩ := E
  have hbA : ¬ (fun q => s.heap.size ≤ q) b := Nat.not_le.mpr hbl
  refine lv_aload_n hx hb dL_law_1031 rfl (lv_at hl 1 rfl) ?_
  refine lv_aload_n hx hb dL_law_1032 rfl (lv_at hl 3 rfl) ?_
  refine zv_W (w1 := ouW cA o (vp_updL f 0 ((f_X2_undo N Bs).1).toInt64) ++ unW cA x bb rd r X ((f_X2_undo N Bs).2.1) ((f_X2_undo N Bs).2.2) Bs) (w2 := ouW cA o f ++ unW cA x bb rd r X N B Bs) (vx_runSW (As := [.ref (x 0), .ref o]) (rest := []) ⟨hx, hb, hml, hown, hts⟩ (zl_undo l hfl D cA o f bb rd r x X N B Bs  h0.2.2.2.2.1.1 (by have := h0.2.2.1; omega)) (vx_cwSW 2 hts gL_law_L_undo rfl rfl rfl zy_L_undo.2 ⟨(Nat.le_of_ble_eq_true rfl), (Nat.le_of_ble_eq_true rfl)⟩) (zPw_preS hK (zL_P hP) (zL_D hD) hO hn hS (zL_fr hD)) rfl rfl hl.1 rfl (lv_room (Nat.le_of_ble_eq_true rfl)) dL_law_1033 ⟨by show k0 + 1 ≤ 601024; omega, by show n0 + 6 ≤ 7293034; omega⟩) hP hD hS (zou_adr zun_adr) (zou_adr zun_adr) (fun k H locs hk hP hD hS => ?_)
  have q := zs_undo h0  k hk
  refine lv_istore (lv' := [(5, .int k), (0, .ref b), (1, .ref (x 0)), (2, .ref (mo 0)), (3, .ref o), (4, .int (nI i))]) hx hb dL_law_1036 hl (by decide) rfl (fun ls hl => ?_)
  refine lv_aload_n hx hb dL_law_1038 rfl (lv_at hl 3 rfl) ?_
  refine zm_M (U := (if k = 0 then ouW cA o (vp_updL f 0 ((f_X2_undo N Bs).1).toInt64) ++ unW cA x bb rd r X ((f_X2_undo N Bs).2.1) ((f_X2_undo N Bs).2.2) Bs else ouW cA o f ++ unW cA x bb rd r X N B Bs)) (w1 := moW cA mo ((f_X3_undo M Nm).2.1) ((f_X3_undo M Nm).2.2) h) (va_runV (As := []) (rest := []) ⟨hx, hb, hml, hown, hts⟩ (zc_X3_undo l D cA mo M Nm h  h0.2.2.1.2) (cwV 0 hts gL_law_X3_undo rfl rfl rfl zy_X3_undo ⟨(Nat.le_of_ble_eq_true rfl), (Nat.le_of_ble_eq_true rfl)⟩) (z_preVq (ci := 3) (q0 := 0) hK (zR_P hP) (zR_D hD) rfl rfl) rfl rfl hl.1 rfl (lv_room (Nat.le_of_ble_eq_true rfl)) dL_law_1039 ⟨by show k0 + 1 + 0 ≤ 601024; omega, by show n0 + 6 + 0 ≤ 7293034; omega⟩) hP hD hS moW_adr rfl (fun H locs hP hD hS => ?_)
  refine lv_istore (lv' := [(6, .int ((f_X3_undo M Nm).1)), (5, .int k), (0, .ref b), (1, .ref (x 0)), (2, .ref (mo 0)), (3, .ref o), (4, .int (nI i))]) hx hb dL_law_1042 hl (by decide) rfl (fun ls hl => ?_)
  refine lv_aload_n hx hb dL_law_1044 rfl (lv_at hl 4 rfl) ?_
  refine z_E (va_runV (As := []) (rest := []) ⟨hx, hb, hml, hown, hts⟩ (zc_X3_thrown l D cA mo ((f_X3_undo M Nm).2.1) ((f_X3_undo M Nm).2.2) h) (cwV 0 hts gL_law_X3_thrown rfl rfl rfl zy_X3_thrown ⟨(Nat.le_of_ble_eq_true rfl), (Nat.le_of_ble_eq_true rfl)⟩) (z_preVq (ci := 3) (q0 := 0) hK (zR_P hP) (zR_D hD) rfl rfl) rfl rfl hl.1 rfl (lv_room (Nat.le_of_ble_eq_true rfl)) dL_law_1045 ⟨by show k0 + 1 + 0 ≤ 601024; omega, by show n0 + 6 + 0 ≤ 7293034; omega⟩) rfl ?_
  refine lv_iload hx hb dL_law_1048 (lv_at hl 1 rfl) ?_
  refine lv_icmp_eq (tgt := 1055) hx hb dL_law_1050 (by decide) (fun _ => ?_) (fun c9 => absurd q.1 c9)
  refine lv_iload hx hb dL_law_1055 (lv_at hl 1 rfl) ?_
  refine lv_if_ne (tgt := 1072) hx hb dL_law_1057 (by decide) (fun c9 => ?_) (fun c9 => ?_)
  · rw [zW_neg c9] at hP hD
    refine lv_goto (tgt := 1731) hx hb dL_law_1072 (by decide) ?_
    refine W.widen (k := cK) (n := nK) (by omega) (by omega) ?_
    exact kt _ _ _ _ _ _ _ _ _ _ _ _ (lv_sub hl [2, 3, 4, 5, 6] rfl) hP hD hS ((q.2.2 c9).mono (by omega))
  · rw [zW_pos c9] at hP hD
    refine lv_aload_n hx hb dL_law_1060 rfl (lv_at hl 5 rfl) ?_
    refine lv_iconst (v := 0) hx hb dL_law_1061 (by decide) ?_
    refine zw_lald hx hb hK (U := unW cA x bb rd r X ((f_X2_undo N Bs).2.1) ((f_X2_undo N Bs).2.2) Bs ++ moW cA mo ((f_X3_undo M Nm).2.1) ((f_X3_undo M Nm).2.2) h) (by rw [← List.append_assoc]; exact hP) dL_law_1062 ?_
    refine lv_iload hx hb dL_law_1063 (lv_at hl 0 rfl) ?_
    refine lv_i2l hx hb dL_law_1065 rfl ?_
    refine W.lcmp hx hb dL_law_1066 ?_
    refine z_top (y := 0) (by rw [zw_up, (q.2.1 c9).1]; exact zlc_eq _) ?_
    refine lv_if_eq (tgt := 1072) hx hb dL_law_1067 (by decide) (fun _ => ?_) (fun c8 => absurd rfl c8)
    refine lv_goto (tgt := 1731) hx hb dL_law_1072 (by decide) ?_
    refine W.widen (k := cK) (n := nK) (by omega) (by omega) ?_
    exact kt _ _ _ _ _ _ _ _ _ _ _ _ (lv_sub hl [2, 3, 4, 5, 6] rfl) hP hD hS ((q.2.1 c9).2.mono (by omega))
set_option maxHeartbeats 4000000 in
set_option maxRecDepth 100000 in
theorem zca_memberOf {p : Program} {l : Launch} {e : Env} {s : State} {m : MethodId} {below : List Frame} {meth : Method} {c : Code} {H : Heap} {locs : List Loc} {k0 n0 cK nK : Nat} {Q : State → Prop} {ls : Array Slot} {b L i : Nat} {xs : Nat → Int32} {D : va_G} {cA : Nat → ClassId} {o rd : Nat} {f : Nat → Int64} {bb : Nat → Nat → Nat} {r x mo : Nat → Nat} {X : BK} {N : NK} {B : BK} {Bs : Nat → BK} {M : BK} {Nm : Nat → Nat} {h : Int64} {K : Int} (E : zEv p l s m c b L xs D cA) (hi : i + 3 < L) (hcK : k0 + 4 ≤ cK ∧ n0 + 24 ≤ nK ∧ cK ≤ 601024 ∧ nK ≤ 7293034) (h0 : zL K r N B X Bs M Nm) (hK9 : K + 620000 ≤ 2 ^ 29) (hl : lv_has ls 9 [(0, .ref b), (1, .ref (x 0)), (2, .ref (mo 0)), (3, .ref o), (4, .int (nI i))]) (hP : va_P D vwCl ((ouW cA o f ++ unW cA x bb rd r X N B Bs) ++ moW cA mo M Nm h) H) (hD : va_D (fun q => s.heap.size ≤ q) ((ouW cA o f ++ unW cA x bb rd r X N B Bs) ++ moW cA mo M Nm h)) (hS : va_S (fun q => s.heap.size ≤ q) s.heap H locs) (kt : zKt p l e s m below meth c b i D cA o bb rd x mo (K + 620000) cK nK Q) : W p l e room_1 s m #[.ref b] below meth c H locs k0 n0 Q (F0 m 1075 ls []) := by
  obtain ⟨hx, hb, hml, hown, hts, hX, hbl, hL, hK, hO, hn, hfl⟩ := E
  have hbA : ¬ (fun q => s.heap.size ≤ q) b := Nat.not_le.mpr hbl
  refine lv_aload_n hx hb dL_law_1075 rfl (lv_at hl 1 rfl) ?_
  refine zl_arg hx hb hX hbl hbA hS (i := i) (j := 1) (by omega) hL (lv_at hl 4 rfl) (lv_at hl 0 rfl) dL_law_1076 dL_law_1077 dL_law_1079 dL_law_1080 dL_law_1081 (by decide) ?_
  refine zl_arg hx hb hX hbl hbA hS (i := i) (j := 2) (by omega) hL (lv_at hl 4 rfl) (lv_at hl 0 rfl) dL_law_1082 dL_law_1083 dL_law_1085 dL_law_1086 dL_law_1087 (by decide) ?_
  refine lv_aload_n hx hb dL_law_1088 rfl (lv_at hl 3 rfl) ?_
  refine zv_W (w1 := ouW cA o (vp_updL f 0 (f_X2_memberOf B (xs (i + 1)) (xs (i + 2))).toInt64) ++ unW cA x bb rd r X N B Bs) (w2 := ouW cA o f ++ unW cA x bb rd r X N B Bs) (vx_runSW (As := [.ref (x 0), .int (xs (i + 1)), .int (xs (i + 2)), .ref o]) (rest := []) ⟨hx, hb, hml, hown, hts⟩ (zl_memberOf l hfl D cA o f bb rd r x X N B Bs (xs (i + 1)) (xs (i + 2)) ) (vx_cwSW 4 hts gL_law_L_memberOf rfl rfl rfl zy_L_memberOf.2 ⟨(Nat.le_of_ble_eq_true rfl), (Nat.le_of_ble_eq_true rfl)⟩) (zPw_preS hK (zL_P hP) (zL_D hD) hO hn hS (zL_fr hD)) rfl rfl hl.1 rfl (lv_room (Nat.le_of_ble_eq_true rfl)) dL_law_1089 ⟨by show k0 + 2 ≤ 601024; omega, by show n0 + 12 ≤ 7293034; omega⟩) hP hD hS (zou_adr zun_adr) (zou_adr zun_adr) (fun k H locs hk hP hD hS => ?_)
  have q := zs_memberOf h0 (xs (i + 1)) (xs (i + 2)) k hk
  refine lv_istore (lv' := [(5, .int k), (0, .ref b), (1, .ref (x 0)), (2, .ref (mo 0)), (3, .ref o), (4, .int (nI i))]) hx hb dL_law_1092 hl (by decide) rfl (fun ls hl => ?_)
  refine lv_aload_n hx hb dL_law_1094 rfl (lv_at hl 3 rfl) ?_
  refine zl_arg hx hb hX hbl hbA hS (i := i) (j := 1) (by omega) hL (lv_at hl 5 rfl) (lv_at hl 1 rfl) dL_law_1095 dL_law_1096 dL_law_1098 dL_law_1099 dL_law_1100 (by decide) ?_
  refine zl_arg hx hb hX hbl hbA hS (i := i) (j := 2) (by omega) hL (lv_at hl 5 rfl) (lv_at hl 1 rfl) dL_law_1101 dL_law_1102 dL_law_1104 dL_law_1105 dL_law_1106 (by decide) ?_
  refine zm_M (U := (if k = 0 then ouW cA o (vp_updL f 0 (f_X2_memberOf B (xs (i + 1)) (xs (i + 2))).toInt64) ++ unW cA x bb rd r X N B Bs else ouW cA o f ++ unW cA x bb rd r X N B Bs)) (w1 := moW cA mo ((f_X3_memberOf M (xs (i + 1)) (xs (i + 2))).2) Nm h) (va_runV (As := [.int (xs (i + 1)), .int (xs (i + 2))]) (rest := []) ⟨hx, hb, hml, hown, hts⟩ (zc_X3_memberOf l D cA mo M Nm h (xs (i + 1)) (xs (i + 2)) ) (cwV 2 hts gL_law_X3_memberOf rfl rfl rfl zy_X3_memberOf ⟨(Nat.le_of_ble_eq_true rfl), (Nat.le_of_ble_eq_true rfl)⟩) (z_preVq (ci := 3) (q0 := 0) hK (zR_P hP) (zR_D hD) rfl rfl) rfl rfl hl.1 rfl (lv_room (Nat.le_of_ble_eq_true rfl)) dL_law_1107 ⟨by show k0 + 2 + 0 ≤ 601024; omega, by show n0 + 12 + 0 ≤ 7293034; omega⟩) hP hD hS moW_adr rfl (fun H locs hP hD hS => ?_)
  refine lv_istore (lv' := [(6, .int ((f_X3_memberOf M (xs (i + 1)) (xs (i + 2))).1)), (5, .int k), (0, .ref b), (1, .ref (x 0)), (2, .ref (mo 0)), (3, .ref o), (4, .int (nI i))]) hx hb dL_law_1110 hl (by decide) rfl (fun ls hl => ?_)
  refine lv_aload_n hx hb dL_law_1112 rfl (lv_at hl 4 rfl) ?_
  refine z_E (va_runV (As := []) (rest := []) ⟨hx, hb, hml, hown, hts⟩ (zc_X3_thrown l D cA mo ((f_X3_memberOf M (xs (i + 1)) (xs (i + 2))).2) Nm h) (cwV 0 hts gL_law_X3_thrown rfl rfl rfl zy_X3_thrown ⟨(Nat.le_of_ble_eq_true rfl), (Nat.le_of_ble_eq_true rfl)⟩) (z_preVq (ci := 3) (q0 := 0) hK (zR_P hP) (zR_D hD) rfl rfl) rfl rfl hl.1 rfl (lv_room (Nat.le_of_ble_eq_true rfl)) dL_law_1113 ⟨by show k0 + 2 + 0 ≤ 601024; omega, by show n0 + 12 + 0 ≤ 7293034; omega⟩) rfl ?_
  refine lv_iload hx hb dL_law_1116 (lv_at hl 1 rfl) ?_
  refine lv_icmp_eq (tgt := 1123) hx hb dL_law_1118 (by decide) (fun _ => ?_) (fun c9 => absurd q.1 c9)
  refine lv_iload hx hb dL_law_1123 (lv_at hl 1 rfl) ?_
  refine lv_if_ne (tgt := 1140) hx hb dL_law_1125 (by decide) (fun c9 => ?_) (fun c9 => ?_)
  · rw [zW_neg c9] at hP hD
    refine lv_goto (tgt := 1731) hx hb dL_law_1140 (by decide) ?_
    refine W.widen (k := cK) (n := nK) (by omega) (by omega) ?_
    exact kt _ _ _ _ _ _ _ _ _ _ _ _ (lv_sub hl [2, 3, 4, 5, 6] rfl) hP hD hS (q.2.2.mono (by omega))
  · rw [zW_pos c9] at hP hD
    refine lv_aload_n hx hb dL_law_1128 rfl (lv_at hl 5 rfl) ?_
    refine lv_iconst (v := 0) hx hb dL_law_1129 (by decide) ?_
    refine zw_lald hx hb hK (U := unW cA x bb rd r X N B Bs ++ moW cA mo ((f_X3_memberOf M (xs (i + 1)) (xs (i + 2))).2) Nm h) (by rw [← List.append_assoc]; exact hP) dL_law_1130 ?_
    refine lv_iload hx hb dL_law_1131 (lv_at hl 0 rfl) ?_
    refine lv_i2l hx hb dL_law_1133 rfl ?_
    refine W.lcmp hx hb dL_law_1134 ?_
    refine z_top (y := 0) (by rw [zw_up, (q.2.1 c9)]; exact zlc_eq _) ?_
    refine lv_if_eq (tgt := 1140) hx hb dL_law_1135 (by decide) (fun _ => ?_) (fun c8 => absurd rfl c8)
    refine lv_goto (tgt := 1731) hx hb dL_law_1140 (by decide) ?_
    refine W.widen (k := cK) (n := nK) (by omega) (by omega) ?_
    exact kt _ _ _ _ _ _ _ _ _ _ _ _ (lv_sub hl [2, 3, 4, 5, 6] rfl) hP hD hS (q.2.2.mono (by omega))
set_option maxHeartbeats 4000000 in
set_option maxRecDepth 100000 in
theorem zca_pledged {p : Program} {l : Launch} {e : Env} {s : State} {m : MethodId} {below : List Frame} {meth : Method} {c : Code} {H : Heap} {locs : List Loc} {k0 n0 cK nK : Nat} {Q : State → Prop} {ls : Array Slot} {b L i : Nat} {xs : Nat → Int32} {D : va_G} {cA : Nat → ClassId} {o rd : Nat} {f : Nat → Int64} {bb : Nat → Nat → Nat} {r x mo : Nat → Nat} {X : BK} {N : NK} {B : BK} {Bs : Nat → BK} {M : BK} {Nm : Nat → Nat} {h : Int64} {K : Int} (E : zEv p l s m c b L xs D cA) (hi : i + 3 < L) (hcK : k0 + 4 ≤ cK ∧ n0 + 24 ≤ nK ∧ cK ≤ 601024 ∧ nK ≤ 7293034) (h0 : zL K r N B X Bs M Nm) (hK9 : K + 620000 ≤ 2 ^ 29) (hl : lv_has ls 9 [(0, .ref b), (1, .ref (x 0)), (2, .ref (mo 0)), (3, .ref o), (4, .int (nI i))]) (hP : va_P D vwCl ((ouW cA o f ++ unW cA x bb rd r X N B Bs) ++ moW cA mo M Nm h) H) (hD : va_D (fun q => s.heap.size ≤ q) ((ouW cA o f ++ unW cA x bb rd r X N B Bs) ++ moW cA mo M Nm h)) (hS : va_S (fun q => s.heap.size ≤ q) s.heap H locs) (kt : zKt p l e s m below meth c b i D cA o bb rd x mo (K + 620000) cK nK Q) : W p l e room_1 s m #[.ref b] below meth c H locs k0 n0 Q (F0 m 1143 ls []) := by
  obtain ⟨hx, hb, hml, hown, hts, hX, hbl, hL, hK, hO, hn, hfl⟩ := E
  have hbA : ¬ (fun q => s.heap.size ≤ q) b := Nat.not_le.mpr hbl
  refine lv_aload_n hx hb dL_law_1143 rfl (lv_at hl 1 rfl) ?_
  refine zl_arg hx hb hX hbl hbA hS (i := i) (j := 1) (by omega) hL (lv_at hl 4 rfl) (lv_at hl 0 rfl) dL_law_1144 dL_law_1145 dL_law_1147 dL_law_1148 dL_law_1149 (by decide) ?_
  refine zl_arg hx hb hX hbl hbA hS (i := i) (j := 2) (by omega) hL (lv_at hl 4 rfl) (lv_at hl 0 rfl) dL_law_1150 dL_law_1151 dL_law_1153 dL_law_1154 dL_law_1155 (by decide) ?_
  refine lv_aload_n hx hb dL_law_1156 rfl (lv_at hl 3 rfl) ?_
  refine zv_W (w1 := ouW cA o (vp_updL f 0 (f_X2_pledged B (xs (i + 1)) (xs (i + 2))).toInt64) ++ unW cA x bb rd r X N B Bs) (w2 := ouW cA o f ++ unW cA x bb rd r X N B Bs) (vx_runSW (As := [.ref (x 0), .int (xs (i + 1)), .int (xs (i + 2)), .ref o]) (rest := []) ⟨hx, hb, hml, hown, hts⟩ (zl_pledged l hfl D cA o f bb rd r x X N B Bs (xs (i + 1)) (xs (i + 2)) ) (vx_cwSW 4 hts gL_law_L_pledged rfl rfl rfl zy_L_pledged.2 ⟨(Nat.le_of_ble_eq_true rfl), (Nat.le_of_ble_eq_true rfl)⟩) (zPw_preS hK (zL_P hP) (zL_D hD) hO hn hS (zL_fr hD)) rfl rfl hl.1 rfl (lv_room (Nat.le_of_ble_eq_true rfl)) dL_law_1157 ⟨by show k0 + 2 ≤ 601024; omega, by show n0 + 12 ≤ 7293034; omega⟩) hP hD hS (zou_adr zun_adr) (zou_adr zun_adr) (fun k H locs hk hP hD hS => ?_)
  have q := zs_pledged h0 (xs (i + 1)) (xs (i + 2)) k hk
  refine lv_istore (lv' := [(5, .int k), (0, .ref b), (1, .ref (x 0)), (2, .ref (mo 0)), (3, .ref o), (4, .int (nI i))]) hx hb dL_law_1160 hl (by decide) rfl (fun ls hl => ?_)
  refine lv_aload_n hx hb dL_law_1162 rfl (lv_at hl 3 rfl) ?_
  refine zl_arg hx hb hX hbl hbA hS (i := i) (j := 1) (by omega) hL (lv_at hl 5 rfl) (lv_at hl 1 rfl) dL_law_1163 dL_law_1164 dL_law_1166 dL_law_1167 dL_law_1168 (by decide) ?_
  refine zl_arg hx hb hX hbl hbA hS (i := i) (j := 2) (by omega) hL (lv_at hl 5 rfl) (lv_at hl 1 rfl) dL_law_1169 dL_law_1170 dL_law_1172 dL_law_1173 dL_law_1174 (by decide) ?_
  refine zm_M (U := (if k = 0 then ouW cA o (vp_updL f 0 (f_X2_pledged B (xs (i + 1)) (xs (i + 2))).toInt64) ++ unW cA x bb rd r X N B Bs else ouW cA o f ++ unW cA x bb rd r X N B Bs)) (w1 := moW cA mo ((f_X3_pledged M (xs (i + 1)) (xs (i + 2))).2) Nm h) (va_runV (As := [.int (xs (i + 1)), .int (xs (i + 2))]) (rest := []) ⟨hx, hb, hml, hown, hts⟩ (zc_X3_pledged l D cA mo M Nm h (xs (i + 1)) (xs (i + 2)) ) (cwV 2 hts gL_law_X3_pledged rfl rfl rfl zy_X3_pledged ⟨(Nat.le_of_ble_eq_true rfl), (Nat.le_of_ble_eq_true rfl)⟩) (z_preVq (ci := 3) (q0 := 0) hK (zR_P hP) (zR_D hD) rfl rfl) rfl rfl hl.1 rfl (lv_room (Nat.le_of_ble_eq_true rfl)) dL_law_1175 ⟨by show k0 + 2 + 0 ≤ 601024; omega, by show n0 + 12 + 0 ≤ 7293034; omega⟩) hP hD hS moW_adr rfl (fun H locs hP hD hS => ?_)
  refine lv_istore (lv' := [(6, .int ((f_X3_pledged M (xs (i + 1)) (xs (i + 2))).1)), (5, .int k), (0, .ref b), (1, .ref (x 0)), (2, .ref (mo 0)), (3, .ref o), (4, .int (nI i))]) hx hb dL_law_1178 hl (by decide) rfl (fun ls hl => ?_)
  refine lv_aload_n hx hb dL_law_1180 rfl (lv_at hl 4 rfl) ?_
  refine z_E (va_runV (As := []) (rest := []) ⟨hx, hb, hml, hown, hts⟩ (zc_X3_thrown l D cA mo ((f_X3_pledged M (xs (i + 1)) (xs (i + 2))).2) Nm h) (cwV 0 hts gL_law_X3_thrown rfl rfl rfl zy_X3_thrown ⟨(Nat.le_of_ble_eq_true rfl), (Nat.le_of_ble_eq_true rfl)⟩) (z_preVq (ci := 3) (q0 := 0) hK (zR_P hP) (zR_D hD) rfl rfl) rfl rfl hl.1 rfl (lv_room (Nat.le_of_ble_eq_true rfl)) dL_law_1181 ⟨by show k0 + 2 + 0 ≤ 601024; omega, by show n0 + 12 + 0 ≤ 7293034; omega⟩) rfl ?_
  refine lv_iload hx hb dL_law_1184 (lv_at hl 1 rfl) ?_
  refine lv_icmp_eq (tgt := 1191) hx hb dL_law_1186 (by decide) (fun _ => ?_) (fun c9 => absurd q.1 c9)
  refine lv_iload hx hb dL_law_1191 (lv_at hl 1 rfl) ?_
  refine lv_if_ne (tgt := 1208) hx hb dL_law_1193 (by decide) (fun c9 => ?_) (fun c9 => ?_)
  · rw [zW_neg c9] at hP hD
    refine lv_goto (tgt := 1731) hx hb dL_law_1208 (by decide) ?_
    refine W.widen (k := cK) (n := nK) (by omega) (by omega) ?_
    exact kt _ _ _ _ _ _ _ _ _ _ _ _ (lv_sub hl [2, 3, 4, 5, 6] rfl) hP hD hS (q.2.2.mono (by omega))
  · rw [zW_pos c9] at hP hD
    refine lv_aload_n hx hb dL_law_1196 rfl (lv_at hl 5 rfl) ?_
    refine lv_iconst (v := 0) hx hb dL_law_1197 (by decide) ?_
    refine zw_lald hx hb hK (U := unW cA x bb rd r X N B Bs ++ moW cA mo ((f_X3_pledged M (xs (i + 1)) (xs (i + 2))).2) Nm h) (by rw [← List.append_assoc]; exact hP) dL_law_1198 ?_
    refine lv_iload hx hb dL_law_1199 (lv_at hl 0 rfl) ?_
    refine lv_i2l hx hb dL_law_1201 rfl ?_
    refine W.lcmp hx hb dL_law_1202 ?_
    refine z_top (y := 0) (by rw [zw_up, (q.2.1 c9)]; exact zlc_eq _) ?_
    refine lv_if_eq (tgt := 1208) hx hb dL_law_1203 (by decide) (fun _ => ?_) (fun c8 => absurd rfl c8)
    refine lv_goto (tgt := 1731) hx hb dL_law_1208 (by decide) ?_
    refine W.widen (k := cK) (n := nK) (by omega) (by omega) ?_
    exact kt _ _ _ _ _ _ _ _ _ _ _ _ (lv_sub hl [2, 3, 4, 5, 6] rfl) hP hD hS (q.2.2.mono (by omega))
set_option maxHeartbeats 4000000 in
set_option maxRecDepth 100000 in
theorem zca_count {p : Program} {l : Launch} {e : Env} {s : State} {m : MethodId} {below : List Frame} {meth : Method} {c : Code} {H : Heap} {locs : List Loc} {k0 n0 cK nK : Nat} {Q : State → Prop} {ls : Array Slot} {b L i : Nat} {xs : Nat → Int32} {D : va_G} {cA : Nat → ClassId} {o rd : Nat} {f : Nat → Int64} {bb : Nat → Nat → Nat} {r x mo : Nat → Nat} {X : BK} {N : NK} {B : BK} {Bs : Nat → BK} {M : BK} {Nm : Nat → Nat} {h : Int64} {K : Int} (E : zEv p l s m c b L xs D cA) (hi : i + 3 < L) (hcK : k0 + 4 ≤ cK ∧ n0 + 24 ≤ nK ∧ cK ≤ 601024 ∧ nK ≤ 7293034) (h0 : zL K r N B X Bs M Nm) (hK9 : K + 620000 ≤ 2 ^ 29) (hl : lv_has ls 9 [(0, .ref b), (1, .ref (x 0)), (2, .ref (mo 0)), (3, .ref o), (4, .int (nI i))]) (hP : va_P D vwCl ((ouW cA o f ++ unW cA x bb rd r X N B Bs) ++ moW cA mo M Nm h) H) (hD : va_D (fun q => s.heap.size ≤ q) ((ouW cA o f ++ unW cA x bb rd r X N B Bs) ++ moW cA mo M Nm h)) (hS : va_S (fun q => s.heap.size ≤ q) s.heap H locs) (kt : zKt p l e s m below meth c b i D cA o bb rd x mo (K + 620000) cK nK Q) : W p l e room_1 s m #[.ref b] below meth c H locs k0 n0 Q (F0 m 1211 ls []) := by
  obtain ⟨hx, hb, hml, hown, hts, hX, hbl, hL, hK, hO, hn, hfl⟩ := E
  have hbA : ¬ (fun q => s.heap.size ≤ q) b := Nat.not_le.mpr hbl
  refine lv_aload_n hx hb dL_law_1211 rfl (lv_at hl 1 rfl) ?_
  refine zl_arg hx hb hX hbl hbA hS (i := i) (j := 1) (by omega) hL (lv_at hl 4 rfl) (lv_at hl 0 rfl) dL_law_1212 dL_law_1213 dL_law_1215 dL_law_1216 dL_law_1217 (by decide) ?_
  refine lv_aload_n hx hb dL_law_1218 rfl (lv_at hl 3 rfl) ?_
  refine zv_W (w1 := ouW cA o (vp_updL f 0 (f_X2_count N B (xs (i + 1))).toInt64) ++ unW cA x bb rd r X N B Bs) (w2 := ouW cA o f ++ unW cA x bb rd r X N B Bs) (vx_runSW (As := [.ref (x 0), .int (xs (i + 1)), .ref o]) (rest := []) ⟨hx, hb, hml, hown, hts⟩ (zl_count l hfl D cA o f bb rd r x X N B Bs (xs (i + 1)) ) (vx_cwSW 3 hts gL_law_L_count rfl rfl rfl zy_L_count.2 ⟨(Nat.le_of_ble_eq_true rfl), (Nat.le_of_ble_eq_true rfl)⟩) (zPw_preS hK (zL_P hP) (zL_D hD) hO hn hS (zL_fr hD)) rfl rfl hl.1 rfl (lv_room (Nat.le_of_ble_eq_true rfl)) dL_law_1219 ⟨by show k0 + 1 ≤ 601024; omega, by show n0 + 6 ≤ 7293034; omega⟩) hP hD hS (zou_adr zun_adr) (zou_adr zun_adr) (fun k H locs hk hP hD hS => ?_)
  have q := zs_count h0 (xs (i + 1)) k hk
  refine lv_istore (lv' := [(5, .int k), (0, .ref b), (1, .ref (x 0)), (2, .ref (mo 0)), (3, .ref o), (4, .int (nI i))]) hx hb dL_law_1222 hl (by decide) rfl (fun ls hl => ?_)
  refine lv_aload_n hx hb dL_law_1224 rfl (lv_at hl 3 rfl) ?_
  refine zl_arg hx hb hX hbl hbA hS (i := i) (j := 1) (by omega) hL (lv_at hl 5 rfl) (lv_at hl 1 rfl) dL_law_1225 dL_law_1226 dL_law_1228 dL_law_1229 dL_law_1230 (by decide) ?_
  refine zm_M (U := (if k = 0 then ouW cA o (vp_updL f 0 (f_X2_count N B (xs (i + 1))).toInt64) ++ unW cA x bb rd r X N B Bs else ouW cA o f ++ unW cA x bb rd r X N B Bs)) (w1 := moW cA mo ((f_X3_count M Nm (xs (i + 1))).2) Nm h) (va_runV (As := [.int (xs (i + 1))]) (rest := []) ⟨hx, hb, hml, hown, hts⟩ (zc_X3_count l D cA mo M Nm h (xs (i + 1)) ) (cwV 1 hts gL_law_X3_count rfl rfl rfl zy_X3_count ⟨(Nat.le_of_ble_eq_true rfl), (Nat.le_of_ble_eq_true rfl)⟩) (z_preVq (ci := 3) (q0 := 0) hK (zR_P hP) (zR_D hD) rfl rfl) rfl rfl hl.1 rfl (lv_room (Nat.le_of_ble_eq_true rfl)) dL_law_1231 ⟨by show k0 + 1 + 0 ≤ 601024; omega, by show n0 + 6 + 0 ≤ 7293034; omega⟩) hP hD hS moW_adr rfl (fun H locs hP hD hS => ?_)
  refine lv_istore (lv' := [(6, .int ((f_X3_count M Nm (xs (i + 1))).1)), (5, .int k), (0, .ref b), (1, .ref (x 0)), (2, .ref (mo 0)), (3, .ref o), (4, .int (nI i))]) hx hb dL_law_1234 hl (by decide) rfl (fun ls hl => ?_)
  refine lv_aload_n hx hb dL_law_1236 rfl (lv_at hl 4 rfl) ?_
  refine z_E (va_runV (As := []) (rest := []) ⟨hx, hb, hml, hown, hts⟩ (zc_X3_thrown l D cA mo ((f_X3_count M Nm (xs (i + 1))).2) Nm h) (cwV 0 hts gL_law_X3_thrown rfl rfl rfl zy_X3_thrown ⟨(Nat.le_of_ble_eq_true rfl), (Nat.le_of_ble_eq_true rfl)⟩) (z_preVq (ci := 3) (q0 := 0) hK (zR_P hP) (zR_D hD) rfl rfl) rfl rfl hl.1 rfl (lv_room (Nat.le_of_ble_eq_true rfl)) dL_law_1237 ⟨by show k0 + 1 + 0 ≤ 601024; omega, by show n0 + 6 + 0 ≤ 7293034; omega⟩) rfl ?_
  refine lv_iload hx hb dL_law_1240 (lv_at hl 1 rfl) ?_
  refine lv_icmp_eq (tgt := 1247) hx hb dL_law_1242 (by decide) (fun _ => ?_) (fun c9 => absurd q.1 c9)
  refine lv_iload hx hb dL_law_1247 (lv_at hl 1 rfl) ?_
  refine lv_if_ne (tgt := 1264) hx hb dL_law_1249 (by decide) (fun c9 => ?_) (fun c9 => ?_)
  · rw [zW_neg c9] at hP hD
    refine lv_goto (tgt := 1731) hx hb dL_law_1264 (by decide) ?_
    refine W.widen (k := cK) (n := nK) (by omega) (by omega) ?_
    exact kt _ _ _ _ _ _ _ _ _ _ _ _ (lv_sub hl [2, 3, 4, 5, 6] rfl) hP hD hS (q.2.2.mono (by omega))
  · rw [zW_pos c9] at hP hD
    refine lv_aload_n hx hb dL_law_1252 rfl (lv_at hl 5 rfl) ?_
    refine lv_iconst (v := 0) hx hb dL_law_1253 (by decide) ?_
    refine zw_lald hx hb hK (U := unW cA x bb rd r X N B Bs ++ moW cA mo ((f_X3_count M Nm (xs (i + 1))).2) Nm h) (by rw [← List.append_assoc]; exact hP) dL_law_1254 ?_
    refine lv_iload hx hb dL_law_1255 (lv_at hl 0 rfl) ?_
    refine lv_i2l hx hb dL_law_1257 rfl ?_
    refine W.lcmp hx hb dL_law_1258 ?_
    refine z_top (y := 0) (by rw [zw_up, (q.2.1 c9)]; exact zlc_eq _) ?_
    refine lv_if_eq (tgt := 1264) hx hb dL_law_1259 (by decide) (fun _ => ?_) (fun c8 => absurd rfl c8)
    refine lv_goto (tgt := 1731) hx hb dL_law_1264 (by decide) ?_
    refine W.widen (k := cK) (n := nK) (by omega) (by omega) ?_
    exact kt _ _ _ _ _ _ _ _ _ _ _ _ (lv_sub hl [2, 3, 4, 5, 6] rfl) hP hD hS (q.2.2.mono (by omega))
set_option maxHeartbeats 4000000 in
set_option maxRecDepth 100000 in
theorem zca_setting {p : Program} {l : Launch} {e : Env} {s : State} {m : MethodId} {below : List Frame} {meth : Method} {c : Code} {H : Heap} {locs : List Loc} {k0 n0 cK nK : Nat} {Q : State → Prop} {ls : Array Slot} {b L i : Nat} {xs : Nat → Int32} {D : va_G} {cA : Nat → ClassId} {o rd : Nat} {f : Nat → Int64} {bb : Nat → Nat → Nat} {r x mo : Nat → Nat} {X : BK} {N : NK} {B : BK} {Bs : Nat → BK} {M : BK} {Nm : Nat → Nat} {h : Int64} {K : Int} (E : zEv p l s m c b L xs D cA) (hi : i + 3 < L) (hcK : k0 + 4 ≤ cK ∧ n0 + 24 ≤ nK ∧ cK ≤ 601024 ∧ nK ≤ 7293034) (h0 : zL K r N B X Bs M Nm) (hK9 : K + 620000 ≤ 2 ^ 29) (hl : lv_has ls 9 [(0, .ref b), (1, .ref (x 0)), (2, .ref (mo 0)), (3, .ref o), (4, .int (nI i))]) (hP : va_P D vwCl ((ouW cA o f ++ unW cA x bb rd r X N B Bs) ++ moW cA mo M Nm h) H) (hD : va_D (fun q => s.heap.size ≤ q) ((ouW cA o f ++ unW cA x bb rd r X N B Bs) ++ moW cA mo M Nm h)) (hS : va_S (fun q => s.heap.size ≤ q) s.heap H locs) (kt : zKt p l e s m below meth c b i D cA o bb rd x mo (K + 620000) cK nK Q) : W p l e room_1 s m #[.ref b] below meth c H locs k0 n0 Q (F0 m 1267 ls []) := by
  obtain ⟨hx, hb, hml, hown, hts, hX, hbl, hL, hK, hO, hn, hfl⟩ := E
  have hbA : ¬ (fun q => s.heap.size ≤ q) b := Nat.not_le.mpr hbl
  refine lv_aload_n hx hb dL_law_1267 rfl (lv_at hl 1 rfl) ?_
  refine zl_arg hx hb hX hbl hbA hS (i := i) (j := 1) (by omega) hL (lv_at hl 4 rfl) (lv_at hl 0 rfl) dL_law_1268 dL_law_1269 dL_law_1271 dL_law_1272 dL_law_1273 (by decide) ?_
  refine lv_aload_n hx hb dL_law_1274 rfl (lv_at hl 3 rfl) ?_
  refine zv_W (w1 := ouW cA o (vp_updL f 0 (f_X2_setting B (xs (i + 1))).toInt64) ++ unW cA x bb rd r X N B Bs) (w2 := ouW cA o f ++ unW cA x bb rd r X N B Bs) (vx_runSW (As := [.ref (x 0), .int (xs (i + 1)), .ref o]) (rest := []) ⟨hx, hb, hml, hown, hts⟩ (zl_setting l hfl D cA o f bb rd r x X N B Bs (xs (i + 1)) ) (vx_cwSW 3 hts gL_law_L_setting rfl rfl rfl zy_L_setting.2 ⟨(Nat.le_of_ble_eq_true rfl), (Nat.le_of_ble_eq_true rfl)⟩) (zPw_preS hK (zL_P hP) (zL_D hD) hO hn hS (zL_fr hD)) rfl rfl hl.1 rfl (lv_room (Nat.le_of_ble_eq_true rfl)) dL_law_1275 ⟨by show k0 + 1 ≤ 601024; omega, by show n0 + 6 ≤ 7293034; omega⟩) hP hD hS (zou_adr zun_adr) (zou_adr zun_adr) (fun k H locs hk hP hD hS => ?_)
  have q := zs_setting h0 (xs (i + 1)) k hk
  refine lv_istore (lv' := [(5, .int k), (0, .ref b), (1, .ref (x 0)), (2, .ref (mo 0)), (3, .ref o), (4, .int (nI i))]) hx hb dL_law_1278 hl (by decide) rfl (fun ls hl => ?_)
  refine lv_aload_n hx hb dL_law_1280 rfl (lv_at hl 3 rfl) ?_
  refine zl_arg hx hb hX hbl hbA hS (i := i) (j := 1) (by omega) hL (lv_at hl 5 rfl) (lv_at hl 1 rfl) dL_law_1281 dL_law_1282 dL_law_1284 dL_law_1285 dL_law_1286 (by decide) ?_
  refine zm_M (U := (if k = 0 then ouW cA o (vp_updL f 0 (f_X2_setting B (xs (i + 1))).toInt64) ++ unW cA x bb rd r X N B Bs else ouW cA o f ++ unW cA x bb rd r X N B Bs)) (w1 := moW cA mo ((f_X3_setting M (xs (i + 1))).2) Nm h) (va_runV (As := [.int (xs (i + 1))]) (rest := []) ⟨hx, hb, hml, hown, hts⟩ (zc_X3_setting l D cA mo M Nm h (xs (i + 1)) ) (cwV 1 hts gL_law_X3_setting rfl rfl rfl zy_X3_setting ⟨(Nat.le_of_ble_eq_true rfl), (Nat.le_of_ble_eq_true rfl)⟩) (z_preVq (ci := 3) (q0 := 0) hK (zR_P hP) (zR_D hD) rfl rfl) rfl rfl hl.1 rfl (lv_room (Nat.le_of_ble_eq_true rfl)) dL_law_1287 ⟨by show k0 + 1 + 0 ≤ 601024; omega, by show n0 + 6 + 0 ≤ 7293034; omega⟩) hP hD hS moW_adr rfl (fun H locs hP hD hS => ?_)
  refine lv_istore (lv' := [(6, .int ((f_X3_setting M (xs (i + 1))).1)), (5, .int k), (0, .ref b), (1, .ref (x 0)), (2, .ref (mo 0)), (3, .ref o), (4, .int (nI i))]) hx hb dL_law_1290 hl (by decide) rfl (fun ls hl => ?_)
  refine lv_aload_n hx hb dL_law_1292 rfl (lv_at hl 4 rfl) ?_
  refine z_E (va_runV (As := []) (rest := []) ⟨hx, hb, hml, hown, hts⟩ (zc_X3_thrown l D cA mo ((f_X3_setting M (xs (i + 1))).2) Nm h) (cwV 0 hts gL_law_X3_thrown rfl rfl rfl zy_X3_thrown ⟨(Nat.le_of_ble_eq_true rfl), (Nat.le_of_ble_eq_true rfl)⟩) (z_preVq (ci := 3) (q0 := 0) hK (zR_P hP) (zR_D hD) rfl rfl) rfl rfl hl.1 rfl (lv_room (Nat.le_of_ble_eq_true rfl)) dL_law_1293 ⟨by show k0 + 1 + 0 ≤ 601024; omega, by show n0 + 6 + 0 ≤ 7293034; omega⟩) rfl ?_
  refine lv_iload hx hb dL_law_1296 (lv_at hl 1 rfl) ?_
  refine lv_icmp_eq (tgt := 1303) hx hb dL_law_1298 (by decide) (fun _ => ?_) (fun c9 => absurd q.1 c9)
  refine lv_iload hx hb dL_law_1303 (lv_at hl 1 rfl) ?_
  refine lv_if_ne (tgt := 1320) hx hb dL_law_1305 (by decide) (fun c9 => ?_) (fun c9 => ?_)
  · rw [zW_neg c9] at hP hD
    refine lv_goto (tgt := 1731) hx hb dL_law_1320 (by decide) ?_
    refine W.widen (k := cK) (n := nK) (by omega) (by omega) ?_
    exact kt _ _ _ _ _ _ _ _ _ _ _ _ (lv_sub hl [2, 3, 4, 5, 6] rfl) hP hD hS (q.2.2.mono (by omega))
  · rw [zW_pos c9] at hP hD
    refine lv_aload_n hx hb dL_law_1308 rfl (lv_at hl 5 rfl) ?_
    refine lv_iconst (v := 0) hx hb dL_law_1309 (by decide) ?_
    refine zw_lald hx hb hK (U := unW cA x bb rd r X N B Bs ++ moW cA mo ((f_X3_setting M (xs (i + 1))).2) Nm h) (by rw [← List.append_assoc]; exact hP) dL_law_1310 ?_
    refine lv_iload hx hb dL_law_1311 (lv_at hl 0 rfl) ?_
    refine lv_i2l hx hb dL_law_1313 rfl ?_
    refine W.lcmp hx hb dL_law_1314 ?_
    refine z_top (y := 0) (by rw [zw_up, (q.2.1 c9)]; exact zlc_eq _) ?_
    refine lv_if_eq (tgt := 1320) hx hb dL_law_1315 (by decide) (fun _ => ?_) (fun c8 => absurd rfl c8)
    refine lv_goto (tgt := 1731) hx hb dL_law_1320 (by decide) ?_
    refine W.widen (k := cK) (n := nK) (by omega) (by omega) ?_
    exact kt _ _ _ _ _ _ _ _ _ _ _ _ (lv_sub hl [2, 3, 4, 5, 6] rfl) hP hD hS (q.2.2.mono (by omega))
set_option maxHeartbeats 4000000 in
set_option maxRecDepth 100000 in
theorem zca_whyNot {p : Program} {l : Launch} {e : Env} {s : State} {m : MethodId} {below : List Frame} {meth : Method} {c : Code} {H : Heap} {locs : List Loc} {k0 n0 cK nK : Nat} {Q : State → Prop} {ls : Array Slot} {b L i : Nat} {xs : Nat → Int32} {D : va_G} {cA : Nat → ClassId} {o rd : Nat} {f : Nat → Int64} {bb : Nat → Nat → Nat} {r x mo : Nat → Nat} {X : BK} {N : NK} {B : BK} {Bs : Nat → BK} {M : BK} {Nm : Nat → Nat} {h : Int64} {K : Int} (E : zEv p l s m c b L xs D cA) (hi : i + 3 < L) (hcK : k0 + 4 ≤ cK ∧ n0 + 24 ≤ nK ∧ cK ≤ 601024 ∧ nK ≤ 7293034) (h0 : zL K r N B X Bs M Nm) (hK9 : K + 620000 ≤ 2 ^ 29) (hl : lv_has ls 9 [(0, .ref b), (1, .ref (x 0)), (2, .ref (mo 0)), (3, .ref o), (4, .int (nI i))]) (hP : va_P D vwCl ((ouW cA o f ++ unW cA x bb rd r X N B Bs) ++ moW cA mo M Nm h) H) (hD : va_D (fun q => s.heap.size ≤ q) ((ouW cA o f ++ unW cA x bb rd r X N B Bs) ++ moW cA mo M Nm h)) (hS : va_S (fun q => s.heap.size ≤ q) s.heap H locs) (kt : zKt p l e s m below meth c b i D cA o bb rd x mo (K + 620000) cK nK Q) : W p l e room_1 s m #[.ref b] below meth c H locs k0 n0 Q (F0 m 1323 ls []) := by
  obtain ⟨hx, hb, hml, hown, hts, hX, hbl, hL, hK, hO, hn, hfl⟩ := E
  have hbA : ¬ (fun q => s.heap.size ≤ q) b := Nat.not_le.mpr hbl
  refine lv_aload_n hx hb dL_law_1323 rfl (lv_at hl 1 rfl) ?_
  refine zl_arg hx hb hX hbl hbA hS (i := i) (j := 1) (by omega) hL (lv_at hl 4 rfl) (lv_at hl 0 rfl) dL_law_1324 dL_law_1325 dL_law_1327 dL_law_1328 dL_law_1329 (by decide) ?_
  refine zl_arg hx hb hX hbl hbA hS (i := i) (j := 2) (by omega) hL (lv_at hl 4 rfl) (lv_at hl 0 rfl) dL_law_1330 dL_law_1331 dL_law_1333 dL_law_1334 dL_law_1335 (by decide) ?_
  refine lv_aload_n hx hb dL_law_1336 rfl (lv_at hl 3 rfl) ?_
  refine zv_W (w1 := ouW cA o (vp_updL f 0 (f_X2_whyNot B (xs (i + 1)) (xs (i + 2))).toInt64) ++ unW cA x bb rd r X N B Bs) (w2 := ouW cA o f ++ unW cA x bb rd r X N B Bs) (vx_runSW (As := [.ref (x 0), .int (xs (i + 1)), .int (xs (i + 2)), .ref o]) (rest := []) ⟨hx, hb, hml, hown, hts⟩ (zl_whyNot l hfl D cA o f bb rd r x X N B Bs (xs (i + 1)) (xs (i + 2)) ) (vx_cwSW 4 hts gL_law_L_whyNot rfl rfl rfl zy_L_whyNot.2 ⟨(Nat.le_of_ble_eq_true rfl), (Nat.le_of_ble_eq_true rfl)⟩) (zPw_preS hK (zL_P hP) (zL_D hD) hO hn hS (zL_fr hD)) rfl rfl hl.1 rfl (lv_room (Nat.le_of_ble_eq_true rfl)) dL_law_1337 ⟨by show k0 + 2 ≤ 601024; omega, by show n0 + 12 ≤ 7293034; omega⟩) hP hD hS (zou_adr zun_adr) (zou_adr zun_adr) (fun k H locs hk hP hD hS => ?_)
  have q := zs_whyNot h0 (xs (i + 1)) (xs (i + 2)) k hk
  refine lv_istore (lv' := [(5, .int k), (0, .ref b), (1, .ref (x 0)), (2, .ref (mo 0)), (3, .ref o), (4, .int (nI i))]) hx hb dL_law_1340 hl (by decide) rfl (fun ls hl => ?_)
  refine lv_aload_n hx hb dL_law_1342 rfl (lv_at hl 3 rfl) ?_
  refine zl_arg hx hb hX hbl hbA hS (i := i) (j := 1) (by omega) hL (lv_at hl 5 rfl) (lv_at hl 1 rfl) dL_law_1343 dL_law_1344 dL_law_1346 dL_law_1347 dL_law_1348 (by decide) ?_
  refine zl_arg hx hb hX hbl hbA hS (i := i) (j := 2) (by omega) hL (lv_at hl 5 rfl) (lv_at hl 1 rfl) dL_law_1349 dL_law_1350 dL_law_1352 dL_law_1353 dL_law_1354 (by decide) ?_
  refine zm_M (U := (if k = 0 then ouW cA o (vp_updL f 0 (f_X2_whyNot B (xs (i + 1)) (xs (i + 2))).toInt64) ++ unW cA x bb rd r X N B Bs else ouW cA o f ++ unW cA x bb rd r X N B Bs)) (w1 := moW cA mo ((f_X3_whyNot M (xs (i + 1)) (xs (i + 2))).2) Nm h) (va_runV (As := [.int (xs (i + 1)), .int (xs (i + 2))]) (rest := []) ⟨hx, hb, hml, hown, hts⟩ (zc_X3_whyNot l D cA mo M Nm h (xs (i + 1)) (xs (i + 2)) ) (cwV 2 hts gL_law_X3_whyNot rfl rfl rfl zy_X3_whyNot ⟨(Nat.le_of_ble_eq_true rfl), (Nat.le_of_ble_eq_true rfl)⟩) (z_preVq (ci := 3) (q0 := 0) hK (zR_P hP) (zR_D hD) rfl rfl) rfl rfl hl.1 rfl (lv_room (Nat.le_of_ble_eq_true rfl)) dL_law_1355 ⟨by show k0 + 2 + 0 ≤ 601024; omega, by show n0 + 12 + 0 ≤ 7293034; omega⟩) hP hD hS moW_adr rfl (fun H locs hP hD hS => ?_)
  refine lv_istore (lv' := [(6, .int ((f_X3_whyNot M (xs (i + 1)) (xs (i + 2))).1)), (5, .int k), (0, .ref b), (1, .ref (x 0)), (2, .ref (mo 0)), (3, .ref o), (4, .int (nI i))]) hx hb dL_law_1358 hl (by decide) rfl (fun ls hl => ?_)
  refine lv_aload_n hx hb dL_law_1360 rfl (lv_at hl 4 rfl) ?_
  refine z_E (va_runV (As := []) (rest := []) ⟨hx, hb, hml, hown, hts⟩ (zc_X3_thrown l D cA mo ((f_X3_whyNot M (xs (i + 1)) (xs (i + 2))).2) Nm h) (cwV 0 hts gL_law_X3_thrown rfl rfl rfl zy_X3_thrown ⟨(Nat.le_of_ble_eq_true rfl), (Nat.le_of_ble_eq_true rfl)⟩) (z_preVq (ci := 3) (q0 := 0) hK (zR_P hP) (zR_D hD) rfl rfl) rfl rfl hl.1 rfl (lv_room (Nat.le_of_ble_eq_true rfl)) dL_law_1361 ⟨by show k0 + 2 + 0 ≤ 601024; omega, by show n0 + 12 + 0 ≤ 7293034; omega⟩) rfl ?_
  refine lv_iload hx hb dL_law_1364 (lv_at hl 1 rfl) ?_
  refine lv_icmp_eq (tgt := 1371) hx hb dL_law_1366 (by decide) (fun _ => ?_) (fun c9 => absurd q.1 c9)
  refine lv_iload hx hb dL_law_1371 (lv_at hl 1 rfl) ?_
  refine lv_if_ne (tgt := 1388) hx hb dL_law_1373 (by decide) (fun c9 => ?_) (fun c9 => ?_)
  · rw [zW_neg c9] at hP hD
    refine lv_goto (tgt := 1731) hx hb dL_law_1388 (by decide) ?_
    refine W.widen (k := cK) (n := nK) (by omega) (by omega) ?_
    exact kt _ _ _ _ _ _ _ _ _ _ _ _ (lv_sub hl [2, 3, 4, 5, 6] rfl) hP hD hS (q.2.2.mono (by omega))
  · rw [zW_pos c9] at hP hD
    refine lv_aload_n hx hb dL_law_1376 rfl (lv_at hl 5 rfl) ?_
    refine lv_iconst (v := 0) hx hb dL_law_1377 (by decide) ?_
    refine zw_lald hx hb hK (U := unW cA x bb rd r X N B Bs ++ moW cA mo ((f_X3_whyNot M (xs (i + 1)) (xs (i + 2))).2) Nm h) (by rw [← List.append_assoc]; exact hP) dL_law_1378 ?_
    refine lv_iload hx hb dL_law_1379 (lv_at hl 0 rfl) ?_
    refine lv_i2l hx hb dL_law_1381 rfl ?_
    refine W.lcmp hx hb dL_law_1382 ?_
    refine z_top (y := 0) (by rw [zw_up, (q.2.1 c9)]; exact zlc_eq _) ?_
    refine lv_if_eq (tgt := 1388) hx hb dL_law_1383 (by decide) (fun _ => ?_) (fun c8 => absurd rfl c8)
    refine lv_goto (tgt := 1731) hx hb dL_law_1388 (by decide) ?_
    refine W.widen (k := cK) (n := nK) (by omega) (by omega) ?_
    exact kt _ _ _ _ _ _ _ _ _ _ _ _ (lv_sub hl [2, 3, 4, 5, 6] rfl) hP hD hS (q.2.2.mono (by omega))
set_option maxHeartbeats 4000000 in
set_option maxRecDepth 100000 in
theorem zca_greatest {p : Program} {l : Launch} {e : Env} {s : State} {m : MethodId} {below : List Frame} {meth : Method} {c : Code} {H : Heap} {locs : List Loc} {k0 n0 cK nK : Nat} {Q : State → Prop} {ls : Array Slot} {b L i : Nat} {xs : Nat → Int32} {D : va_G} {cA : Nat → ClassId} {o rd : Nat} {f : Nat → Int64} {bb : Nat → Nat → Nat} {r x mo : Nat → Nat} {X : BK} {N : NK} {B : BK} {Bs : Nat → BK} {M : BK} {Nm : Nat → Nat} {h : Int64} {K : Int} (E : zEv p l s m c b L xs D cA) (hi : i + 3 < L) (hcK : k0 + 4 ≤ cK ∧ n0 + 24 ≤ nK ∧ cK ≤ 601024 ∧ nK ≤ 7293034) (h0 : zL K r N B X Bs M Nm) (hK9 : K + 620000 ≤ 2 ^ 29) (hl : lv_has ls 9 [(0, .ref b), (1, .ref (x 0)), (2, .ref (mo 0)), (3, .ref o), (4, .int (nI i))]) (hP : va_P D vwCl ((ouW cA o f ++ unW cA x bb rd r X N B Bs) ++ moW cA mo M Nm h) H) (hD : va_D (fun q => s.heap.size ≤ q) ((ouW cA o f ++ unW cA x bb rd r X N B Bs) ++ moW cA mo M Nm h)) (hS : va_S (fun q => s.heap.size ≤ q) s.heap H locs) (kt : zKt p l e s m below meth c b i D cA o bb rd x mo (K + 620000) cK nK Q) : W p l e room_1 s m #[.ref b] below meth c H locs k0 n0 Q (F0 m 1391 ls []) := by
  obtain ⟨hx, hb, hml, hown, hts, hX, hbl, hL, hK, hO, hn, hfl⟩ := E
  have hbA : ¬ (fun q => s.heap.size ≤ q) b := Nat.not_le.mpr hbl
  refine lv_aload_n hx hb dL_law_1391 rfl (lv_at hl 1 rfl) ?_
  refine zl_arg hx hb hX hbl hbA hS (i := i) (j := 1) (by omega) hL (lv_at hl 4 rfl) (lv_at hl 0 rfl) dL_law_1392 dL_law_1393 dL_law_1395 dL_law_1396 dL_law_1397 (by decide) ?_
  refine zl_arg hx hb hX hbl hbA hS (i := i) (j := 2) (by omega) hL (lv_at hl 4 rfl) (lv_at hl 0 rfl) dL_law_1398 dL_law_1399 dL_law_1401 dL_law_1402 dL_law_1403 (by decide) ?_
  refine lv_aload_n hx hb dL_law_1404 rfl (lv_at hl 3 rfl) ?_
  refine zv_W (w1 := ouW cA o (vp_updL f 0 (f_X2_greatest B (xs (i + 1)) (xs (i + 2))).toInt64) ++ unW cA x bb rd r X N B Bs) (w2 := ouW cA o f ++ unW cA x bb rd r X N B Bs) (vx_runSW (As := [.ref (x 0), .int (xs (i + 1)), .int (xs (i + 2)), .ref o]) (rest := []) ⟨hx, hb, hml, hown, hts⟩ (zl_greatest l hfl D cA o f bb rd r x X N B Bs (xs (i + 1)) (xs (i + 2)) ) (vx_cwSW 4 hts gL_law_L_greatest rfl rfl rfl zy_L_greatest.2 ⟨(Nat.le_of_ble_eq_true rfl), (Nat.le_of_ble_eq_true rfl)⟩) (zPw_preS hK (zL_P hP) (zL_D hD) hO hn hS (zL_fr hD)) rfl rfl hl.1 rfl (lv_room (Nat.le_of_ble_eq_true rfl)) dL_law_1405 ⟨by show k0 + 2 ≤ 601024; omega, by show n0 + 12 ≤ 7293034; omega⟩) hP hD hS (zou_adr zun_adr) (zou_adr zun_adr) (fun k H locs hk hP hD hS => ?_)
  have q := zs_greatest h0 (xs (i + 1)) (xs (i + 2)) k hk
  refine lv_istore (lv' := [(5, .int k), (0, .ref b), (1, .ref (x 0)), (2, .ref (mo 0)), (3, .ref o), (4, .int (nI i))]) hx hb dL_law_1408 hl (by decide) rfl (fun ls hl => ?_)
  refine lv_aload_n hx hb dL_law_1410 rfl (lv_at hl 3 rfl) ?_
  refine zl_arg hx hb hX hbl hbA hS (i := i) (j := 1) (by omega) hL (lv_at hl 5 rfl) (lv_at hl 1 rfl) dL_law_1411 dL_law_1412 dL_law_1414 dL_law_1415 dL_law_1416 (by decide) ?_
  refine zl_arg hx hb hX hbl hbA hS (i := i) (j := 2) (by omega) hL (lv_at hl 5 rfl) (lv_at hl 1 rfl) dL_law_1417 dL_law_1418 dL_law_1420 dL_law_1421 dL_law_1422 (by decide) ?_
  refine zm_M (U := (if k = 0 then ouW cA o (vp_updL f 0 (f_X2_greatest B (xs (i + 1)) (xs (i + 2))).toInt64) ++ unW cA x bb rd r X N B Bs else ouW cA o f ++ unW cA x bb rd r X N B Bs)) (w1 := moW cA mo ((f_X3_greatest M (xs (i + 1)) (xs (i + 2))).2) Nm h) (va_runV (As := [.int (xs (i + 1)), .int (xs (i + 2))]) (rest := []) ⟨hx, hb, hml, hown, hts⟩ (zc_X3_greatest l D cA mo M Nm h (xs (i + 1)) (xs (i + 2)) ) (cwV 2 hts gL_law_X3_greatest rfl rfl rfl zy_X3_greatest ⟨(Nat.le_of_ble_eq_true rfl), (Nat.le_of_ble_eq_true rfl)⟩) (z_preVq (ci := 3) (q0 := 0) hK (zR_P hP) (zR_D hD) rfl rfl) rfl rfl hl.1 rfl (lv_room (Nat.le_of_ble_eq_true rfl)) dL_law_1423 ⟨by show k0 + 2 + 0 ≤ 601024; omega, by show n0 + 12 + 0 ≤ 7293034; omega⟩) hP hD hS moW_adr rfl (fun H locs hP hD hS => ?_)
  refine lv_istore (lv' := [(6, .int ((f_X3_greatest M (xs (i + 1)) (xs (i + 2))).1)), (5, .int k), (0, .ref b), (1, .ref (x 0)), (2, .ref (mo 0)), (3, .ref o), (4, .int (nI i))]) hx hb dL_law_1426 hl (by decide) rfl (fun ls hl => ?_)
  refine lv_aload_n hx hb dL_law_1428 rfl (lv_at hl 4 rfl) ?_
  refine z_E (va_runV (As := []) (rest := []) ⟨hx, hb, hml, hown, hts⟩ (zc_X3_thrown l D cA mo ((f_X3_greatest M (xs (i + 1)) (xs (i + 2))).2) Nm h) (cwV 0 hts gL_law_X3_thrown rfl rfl rfl zy_X3_thrown ⟨(Nat.le_of_ble_eq_true rfl), (Nat.le_of_ble_eq_true rfl)⟩) (z_preVq (ci := 3) (q0 := 0) hK (zR_P hP) (zR_D hD) rfl rfl) rfl rfl hl.1 rfl (lv_room (Nat.le_of_ble_eq_true rfl)) dL_law_1429 ⟨by show k0 + 2 + 0 ≤ 601024; omega, by show n0 + 12 + 0 ≤ 7293034; omega⟩) rfl ?_
  refine lv_iload hx hb dL_law_1432 (lv_at hl 1 rfl) ?_
  refine lv_icmp_eq (tgt := 1439) hx hb dL_law_1434 (by decide) (fun _ => ?_) (fun c9 => absurd q.1 c9)
  refine lv_iload hx hb dL_law_1439 (lv_at hl 1 rfl) ?_
  refine lv_if_ne (tgt := 1456) hx hb dL_law_1441 (by decide) (fun c9 => ?_) (fun c9 => ?_)
  · rw [zW_neg c9] at hP hD
    refine lv_goto (tgt := 1731) hx hb dL_law_1456 (by decide) ?_
    refine W.widen (k := cK) (n := nK) (by omega) (by omega) ?_
    exact kt _ _ _ _ _ _ _ _ _ _ _ _ (lv_sub hl [2, 3, 4, 5, 6] rfl) hP hD hS (q.2.2.mono (by omega))
  · rw [zW_pos c9] at hP hD
    refine lv_aload_n hx hb dL_law_1444 rfl (lv_at hl 5 rfl) ?_
    refine lv_iconst (v := 0) hx hb dL_law_1445 (by decide) ?_
    refine zw_lald hx hb hK (U := unW cA x bb rd r X N B Bs ++ moW cA mo ((f_X3_greatest M (xs (i + 1)) (xs (i + 2))).2) Nm h) (by rw [← List.append_assoc]; exact hP) dL_law_1446 ?_
    refine lv_iload hx hb dL_law_1447 (lv_at hl 0 rfl) ?_
    refine lv_i2l hx hb dL_law_1449 rfl ?_
    refine W.lcmp hx hb dL_law_1450 ?_
    refine z_top (y := 0) (by rw [zw_up, (q.2.1 c9)]; exact zlc_eq _) ?_
    refine lv_if_eq (tgt := 1456) hx hb dL_law_1451 (by decide) (fun _ => ?_) (fun c8 => absurd rfl c8)
    refine lv_goto (tgt := 1731) hx hb dL_law_1456 (by decide) ?_
    refine W.widen (k := cK) (n := nK) (by omega) (by omega) ?_
    exact kt _ _ _ _ _ _ _ _ _ _ _ _ (lv_sub hl [2, 3, 4, 5, 6] rfl) hP hD hS (q.2.2.mono (by omega))
set_option maxHeartbeats 4000000 in
set_option maxRecDepth 100000 in
theorem zca_guarantors {p : Program} {l : Launch} {e : Env} {s : State} {m : MethodId} {below : List Frame} {meth : Method} {c : Code} {H : Heap} {locs : List Loc} {k0 n0 cK nK : Nat} {Q : State → Prop} {ls : Array Slot} {b L i : Nat} {xs : Nat → Int32} {D : va_G} {cA : Nat → ClassId} {o rd : Nat} {f : Nat → Int64} {bb : Nat → Nat → Nat} {r x mo : Nat → Nat} {X : BK} {N : NK} {B : BK} {Bs : Nat → BK} {M : BK} {Nm : Nat → Nat} {h : Int64} {K : Int} (E : zEv p l s m c b L xs D cA) (hi : i + 3 < L) (hcK : k0 + 4 ≤ cK ∧ n0 + 24 ≤ nK ∧ cK ≤ 601024 ∧ nK ≤ 7293034) (h0 : zL K r N B X Bs M Nm) (hK9 : K + 620000 ≤ 2 ^ 29) (hl : lv_has ls 9 [(0, .ref b), (1, .ref (x 0)), (2, .ref (mo 0)), (3, .ref o), (4, .int (nI i))]) (hP : va_P D vwCl ((ouW cA o f ++ unW cA x bb rd r X N B Bs) ++ moW cA mo M Nm h) H) (hD : va_D (fun q => s.heap.size ≤ q) ((ouW cA o f ++ unW cA x bb rd r X N B Bs) ++ moW cA mo M Nm h)) (hS : va_S (fun q => s.heap.size ≤ q) s.heap H locs) (kt : zKt p l e s m below meth c b i D cA o bb rd x mo (K + 620000) cK nK Q) : W p l e room_1 s m #[.ref b] below meth c H locs k0 n0 Q (F0 m 1459 ls []) := by
  obtain ⟨hx, hb, hml, hown, hts, hX, hbl, hL, hK, hO, hn, hfl⟩ := E
  have hbA : ¬ (fun q => s.heap.size ≤ q) b := Nat.not_le.mpr hbl
  refine lv_aload_n hx hb dL_law_1459 rfl (lv_at hl 1 rfl) ?_
  refine zl_arg hx hb hX hbl hbA hS (i := i) (j := 1) (by omega) hL (lv_at hl 4 rfl) (lv_at hl 0 rfl) dL_law_1460 dL_law_1461 dL_law_1463 dL_law_1464 dL_law_1465 (by decide) ?_
  refine zl_arg hx hb hX hbl hbA hS (i := i) (j := 2) (by omega) hL (lv_at hl 4 rfl) (lv_at hl 0 rfl) dL_law_1466 dL_law_1467 dL_law_1469 dL_law_1470 dL_law_1471 (by decide) ?_
  refine zl_arg hx hb hX hbl hbA hS (i := i) (j := 3) (by omega) hL (lv_at hl 4 rfl) (lv_at hl 0 rfl) dL_law_1472 dL_law_1473 dL_law_1475 dL_law_1476 dL_law_1477 (by decide) ?_
  refine lv_aload_n hx hb dL_law_1478 rfl (lv_at hl 3 rfl) ?_
  refine zv_W (w1 := ouW cA o (vp_updL f 0 ((f_X2_guarantors X B (xs (i + 1)) (xs (i + 2)) (xs (i + 3))).1).toInt64) ++ unW cA x bb rd r ((f_X2_guarantors X B (xs (i + 1)) (xs (i + 2)) (xs (i + 3))).2) N B Bs) (w2 := ouW cA o f ++ unW cA x bb rd r X N B Bs) (vx_runSW (As := [.ref (x 0), .int (xs (i + 1)), .int (xs (i + 2)), .int (xs (i + 3)), .ref o]) (rest := []) ⟨hx, hb, hml, hown, hts⟩ (zl_guarantors l hfl D cA o f bb rd r x X N B Bs (xs (i + 1)) (xs (i + 2)) (xs (i + 3)) ) (vx_cwSW 5 hts gL_law_L_guarantors rfl rfl rfl zy_L_guarantors.2 ⟨(Nat.le_of_ble_eq_true rfl), (Nat.le_of_ble_eq_true rfl)⟩) (zPw_preS hK (zL_P hP) (zL_D hD) hO hn hS (zL_fr hD)) rfl rfl hl.1 rfl (lv_room (Nat.le_of_ble_eq_true rfl)) dL_law_1479 ⟨by show k0 + 3 ≤ 601024; omega, by show n0 + 18 ≤ 7293034; omega⟩) hP hD hS (zou_adr zun_adr) (zou_adr zun_adr) (fun k H locs hk hP hD hS => ?_)
  have q := zs_guarantors h0 (by omega) (xs (i + 1)) (xs (i + 2)) (xs (i + 3)) k hk
  refine lv_istore (lv' := [(5, .int k), (0, .ref b), (1, .ref (x 0)), (2, .ref (mo 0)), (3, .ref o), (4, .int (nI i))]) hx hb dL_law_1482 hl (by decide) rfl (fun ls hl => ?_)
  refine lv_aload_n hx hb dL_law_1484 rfl (lv_at hl 3 rfl) ?_
  refine zl_arg hx hb hX hbl hbA hS (i := i) (j := 1) (by omega) hL (lv_at hl 5 rfl) (lv_at hl 1 rfl) dL_law_1485 dL_law_1486 dL_law_1488 dL_law_1489 dL_law_1490 (by decide) ?_
  refine zl_arg hx hb hX hbl hbA hS (i := i) (j := 2) (by omega) hL (lv_at hl 5 rfl) (lv_at hl 1 rfl) dL_law_1491 dL_law_1492 dL_law_1494 dL_law_1495 dL_law_1496 (by decide) ?_
  refine zl_arg hx hb hX hbl hbA hS (i := i) (j := 3) (by omega) hL (lv_at hl 5 rfl) (lv_at hl 1 rfl) dL_law_1497 dL_law_1498 dL_law_1500 dL_law_1501 dL_law_1502 (by decide) ?_
  refine zm_M (U := (if k = 0 then ouW cA o (vp_updL f 0 ((f_X2_guarantors X B (xs (i + 1)) (xs (i + 2)) (xs (i + 3))).1).toInt64) ++ unW cA x bb rd r ((f_X2_guarantors X B (xs (i + 1)) (xs (i + 2)) (xs (i + 3))).2) N B Bs else ouW cA o f ++ unW cA x bb rd r X N B Bs)) (w1 := moW cA mo ((f_X3_guarantors M (xs (i + 1)) (xs (i + 2)) (xs (i + 3))).2) Nm h) (va_runV (As := [.int (xs (i + 1)), .int (xs (i + 2)), .int (xs (i + 3))]) (rest := []) ⟨hx, hb, hml, hown, hts⟩ (zc_X3_guarantors l D cA mo M Nm h (xs (i + 1)) (xs (i + 2)) (xs (i + 3)) ) (cwV 3 hts gL_law_X3_guarantors rfl rfl rfl zy_X3_guarantors ⟨(Nat.le_of_ble_eq_true rfl), (Nat.le_of_ble_eq_true rfl)⟩) (z_preVq (ci := 3) (q0 := 0) hK (zR_P hP) (zR_D hD) rfl rfl) rfl rfl hl.1 rfl (lv_room (Nat.le_of_ble_eq_true rfl)) dL_law_1503 ⟨by show k0 + 3 + 0 ≤ 601024; omega, by show n0 + 18 + 0 ≤ 7293034; omega⟩) hP hD hS moW_adr rfl (fun H locs hP hD hS => ?_)
  refine lv_istore (lv' := [(6, .int ((f_X3_guarantors M (xs (i + 1)) (xs (i + 2)) (xs (i + 3))).1)), (5, .int k), (0, .ref b), (1, .ref (x 0)), (2, .ref (mo 0)), (3, .ref o), (4, .int (nI i))]) hx hb dL_law_1506 hl (by decide) rfl (fun ls hl => ?_)
  refine lv_aload_n hx hb dL_law_1508 rfl (lv_at hl 4 rfl) ?_
  refine z_E (va_runV (As := []) (rest := []) ⟨hx, hb, hml, hown, hts⟩ (zc_X3_thrown l D cA mo ((f_X3_guarantors M (xs (i + 1)) (xs (i + 2)) (xs (i + 3))).2) Nm h) (cwV 0 hts gL_law_X3_thrown rfl rfl rfl zy_X3_thrown ⟨(Nat.le_of_ble_eq_true rfl), (Nat.le_of_ble_eq_true rfl)⟩) (z_preVq (ci := 3) (q0 := 0) hK (zR_P hP) (zR_D hD) rfl rfl) rfl rfl hl.1 rfl (lv_room (Nat.le_of_ble_eq_true rfl)) dL_law_1509 ⟨by show k0 + 3 + 0 ≤ 601024; omega, by show n0 + 18 + 0 ≤ 7293034; omega⟩) rfl ?_
  refine lv_iload hx hb dL_law_1512 (lv_at hl 1 rfl) ?_
  refine lv_icmp_eq (tgt := 1519) hx hb dL_law_1514 (by decide) (fun _ => ?_) (fun c9 => absurd q.1 c9)
  refine lv_iload hx hb dL_law_1519 (lv_at hl 1 rfl) ?_
  refine lv_if_ne (tgt := 1536) hx hb dL_law_1521 (by decide) (fun c9 => ?_) (fun c9 => ?_)
  · rw [zW_neg c9] at hP hD
    refine lv_goto (tgt := 1731) hx hb dL_law_1536 (by decide) ?_
    refine W.widen (k := cK) (n := nK) (by omega) (by omega) ?_
    exact kt _ _ _ _ _ _ _ _ _ _ _ _ (lv_sub hl [2, 3, 4, 5, 6] rfl) hP hD hS ((q.2.2 c9).mono (by omega))
  · rw [zW_pos c9] at hP hD
    refine lv_aload_n hx hb dL_law_1524 rfl (lv_at hl 5 rfl) ?_
    refine lv_iconst (v := 0) hx hb dL_law_1525 (by decide) ?_
    refine zw_lald hx hb hK (U := unW cA x bb rd r ((f_X2_guarantors X B (xs (i + 1)) (xs (i + 2)) (xs (i + 3))).2) N B Bs ++ moW cA mo ((f_X3_guarantors M (xs (i + 1)) (xs (i + 2)) (xs (i + 3))).2) Nm h) (by rw [← List.append_assoc]; exact hP) dL_law_1526 ?_
    refine lv_iload hx hb dL_law_1527 (lv_at hl 0 rfl) ?_
    refine lv_i2l hx hb dL_law_1529 rfl ?_
    refine W.lcmp hx hb dL_law_1530 ?_
    refine z_top (y := 0) (by rw [zw_up, (q.2.1 c9).1]; exact zlc_eq _) ?_
    refine lv_if_eq (tgt := 1536) hx hb dL_law_1531 (by decide) (fun _ => ?_) (fun c8 => absurd rfl c8)
    refine lv_goto (tgt := 1731) hx hb dL_law_1536 (by decide) ?_
    refine W.widen (k := cK) (n := nK) (by omega) (by omega) ?_
    exact kt _ _ _ _ _ _ _ _ _ _ _ _ (lv_sub hl [2, 3, 4, 5, 6] rfl) hP hD hS ((q.2.1 c9).2.mono (by omega))
set_option maxHeartbeats 4000000 in
set_option maxRecDepth 100000 in
theorem zca_weeksLeft {p : Program} {l : Launch} {e : Env} {s : State} {m : MethodId} {below : List Frame} {meth : Method} {c : Code} {H : Heap} {locs : List Loc} {k0 n0 cK nK : Nat} {Q : State → Prop} {ls : Array Slot} {b L i : Nat} {xs : Nat → Int32} {D : va_G} {cA : Nat → ClassId} {o rd : Nat} {f : Nat → Int64} {bb : Nat → Nat → Nat} {r x mo : Nat → Nat} {X : BK} {N : NK} {B : BK} {Bs : Nat → BK} {M : BK} {Nm : Nat → Nat} {h : Int64} {K : Int} (E : zEv p l s m c b L xs D cA) (hi : i + 3 < L) (hcK : k0 + 4 ≤ cK ∧ n0 + 24 ≤ nK ∧ cK ≤ 601024 ∧ nK ≤ 7293034) (h0 : zL K r N B X Bs M Nm) (hK9 : K + 620000 ≤ 2 ^ 29) (hl : lv_has ls 9 [(0, .ref b), (1, .ref (x 0)), (2, .ref (mo 0)), (3, .ref o), (4, .int (nI i))]) (hP : va_P D vwCl ((ouW cA o f ++ unW cA x bb rd r X N B Bs) ++ moW cA mo M Nm h) H) (hD : va_D (fun q => s.heap.size ≤ q) ((ouW cA o f ++ unW cA x bb rd r X N B Bs) ++ moW cA mo M Nm h)) (hS : va_S (fun q => s.heap.size ≤ q) s.heap H locs) (kt : zKt p l e s m below meth c b i D cA o bb rd x mo (K + 620000) cK nK Q) : W p l e room_1 s m #[.ref b] below meth c H locs k0 n0 Q (F0 m 1539 ls []) := by
  obtain ⟨hx, hb, hml, hown, hts, hX, hbl, hL, hK, hO, hn, hfl⟩ := E
  have hbA : ¬ (fun q => s.heap.size ≤ q) b := Nat.not_le.mpr hbl
  refine lv_aload_n hx hb dL_law_1539 rfl (lv_at hl 1 rfl) ?_
  refine zl_arg hx hb hX hbl hbA hS (i := i) (j := 1) (by omega) hL (lv_at hl 4 rfl) (lv_at hl 0 rfl) dL_law_1540 dL_law_1541 dL_law_1543 dL_law_1544 dL_law_1545 (by decide) ?_
  refine zl_arg hx hb hX hbl hbA hS (i := i) (j := 2) (by omega) hL (lv_at hl 4 rfl) (lv_at hl 0 rfl) dL_law_1546 dL_law_1547 dL_law_1549 dL_law_1550 dL_law_1551 (by decide) ?_
  refine lv_aload_n hx hb dL_law_1552 rfl (lv_at hl 3 rfl) ?_
  refine zv_W (w1 := ouW cA o (vp_updL f 0 (f_X2_weeksLeft B (xs (i + 1)) (xs (i + 2))).toInt64) ++ unW cA x bb rd r X N B Bs) (w2 := ouW cA o f ++ unW cA x bb rd r X N B Bs) (vx_runSW (As := [.ref (x 0), .int (xs (i + 1)), .int (xs (i + 2)), .ref o]) (rest := []) ⟨hx, hb, hml, hown, hts⟩ (zl_weeksLeft l hfl D cA o f bb rd r x X N B Bs (xs (i + 1)) (xs (i + 2)) ) (vx_cwSW 4 hts gL_law_L_weeksLeft rfl rfl rfl zy_L_weeksLeft.2 ⟨(Nat.le_of_ble_eq_true rfl), (Nat.le_of_ble_eq_true rfl)⟩) (zPw_preS hK (zL_P hP) (zL_D hD) hO hn hS (zL_fr hD)) rfl rfl hl.1 rfl (lv_room (Nat.le_of_ble_eq_true rfl)) dL_law_1553 ⟨by show k0 + 2 ≤ 601024; omega, by show n0 + 12 ≤ 7293034; omega⟩) hP hD hS (zou_adr zun_adr) (zou_adr zun_adr) (fun k H locs hk hP hD hS => ?_)
  have q := zs_weeksLeft h0 (xs (i + 1)) (xs (i + 2)) k hk
  refine lv_istore (lv' := [(5, .int k), (0, .ref b), (1, .ref (x 0)), (2, .ref (mo 0)), (3, .ref o), (4, .int (nI i))]) hx hb dL_law_1556 hl (by decide) rfl (fun ls hl => ?_)
  refine lv_aload_n hx hb dL_law_1558 rfl (lv_at hl 3 rfl) ?_
  refine zl_arg hx hb hX hbl hbA hS (i := i) (j := 1) (by omega) hL (lv_at hl 5 rfl) (lv_at hl 1 rfl) dL_law_1559 dL_law_1560 dL_law_1562 dL_law_1563 dL_law_1564 (by decide) ?_
  refine zl_arg hx hb hX hbl hbA hS (i := i) (j := 2) (by omega) hL (lv_at hl 5 rfl) (lv_at hl 1 rfl) dL_law_1565 dL_law_1566 dL_law_1568 dL_law_1569 dL_law_1570 (by decide) ?_
  refine zm_M (U := (if k = 0 then ouW cA o (vp_updL f 0 (f_X2_weeksLeft B (xs (i + 1)) (xs (i + 2))).toInt64) ++ unW cA x bb rd r X N B Bs else ouW cA o f ++ unW cA x bb rd r X N B Bs)) (w1 := moW cA mo ((f_X3_weeksLeft M (xs (i + 1)) (xs (i + 2))).2) Nm h) (va_runV (As := [.int (xs (i + 1)), .int (xs (i + 2))]) (rest := []) ⟨hx, hb, hml, hown, hts⟩ (zc_X3_weeksLeft l D cA mo M Nm h (xs (i + 1)) (xs (i + 2)) (zl_pt h0)) (cwV 2 hts gL_law_X3_weeksLeft rfl rfl rfl zy_X3_weeksLeft ⟨(Nat.le_of_ble_eq_true rfl), (Nat.le_of_ble_eq_true rfl)⟩) (z_preVq (ci := 3) (q0 := 0) hK (zR_P hP) (zR_D hD) rfl rfl) rfl rfl hl.1 rfl (lv_room (Nat.le_of_ble_eq_true rfl)) dL_law_1571 ⟨by show k0 + 2 + 0 ≤ 601024; omega, by show n0 + 12 + 0 ≤ 7293034; omega⟩) hP hD hS moW_adr rfl (fun H locs hP hD hS => ?_)
  refine lv_istore (lv' := [(6, .int ((f_X3_weeksLeft M (xs (i + 1)) (xs (i + 2))).1)), (5, .int k), (0, .ref b), (1, .ref (x 0)), (2, .ref (mo 0)), (3, .ref o), (4, .int (nI i))]) hx hb dL_law_1574 hl (by decide) rfl (fun ls hl => ?_)
  refine lv_aload_n hx hb dL_law_1576 rfl (lv_at hl 4 rfl) ?_
  refine z_E (va_runV (As := []) (rest := []) ⟨hx, hb, hml, hown, hts⟩ (zc_X3_thrown l D cA mo ((f_X3_weeksLeft M (xs (i + 1)) (xs (i + 2))).2) Nm h) (cwV 0 hts gL_law_X3_thrown rfl rfl rfl zy_X3_thrown ⟨(Nat.le_of_ble_eq_true rfl), (Nat.le_of_ble_eq_true rfl)⟩) (z_preVq (ci := 3) (q0 := 0) hK (zR_P hP) (zR_D hD) rfl rfl) rfl rfl hl.1 rfl (lv_room (Nat.le_of_ble_eq_true rfl)) dL_law_1577 ⟨by show k0 + 2 + 0 ≤ 601024; omega, by show n0 + 12 + 0 ≤ 7293034; omega⟩) rfl ?_
  refine lv_iload hx hb dL_law_1580 (lv_at hl 1 rfl) ?_
  refine lv_icmp_eq (tgt := 1587) hx hb dL_law_1582 (by decide) (fun _ => ?_) (fun c9 => absurd q.1 c9)
  refine lv_iload hx hb dL_law_1587 (lv_at hl 1 rfl) ?_
  refine lv_if_ne (tgt := 1604) hx hb dL_law_1589 (by decide) (fun c9 => ?_) (fun c9 => ?_)
  · rw [zW_neg c9] at hP hD
    refine lv_goto (tgt := 1731) hx hb dL_law_1604 (by decide) ?_
    refine W.widen (k := cK) (n := nK) (by omega) (by omega) ?_
    exact kt _ _ _ _ _ _ _ _ _ _ _ _ (lv_sub hl [2, 3, 4, 5, 6] rfl) hP hD hS (q.2.2.mono (by omega))
  · rw [zW_pos c9] at hP hD
    refine lv_aload_n hx hb dL_law_1592 rfl (lv_at hl 5 rfl) ?_
    refine lv_iconst (v := 0) hx hb dL_law_1593 (by decide) ?_
    refine zw_lald hx hb hK (U := unW cA x bb rd r X N B Bs ++ moW cA mo ((f_X3_weeksLeft M (xs (i + 1)) (xs (i + 2))).2) Nm h) (by rw [← List.append_assoc]; exact hP) dL_law_1594 ?_
    refine lv_iload hx hb dL_law_1595 (lv_at hl 0 rfl) ?_
    refine lv_i2l hx hb dL_law_1597 rfl ?_
    refine W.lcmp hx hb dL_law_1598 ?_
    refine z_top (y := 0) (by rw [zw_up, (q.2.1 c9)]; exact zlc_eq _) ?_
    refine lv_if_eq (tgt := 1604) hx hb dL_law_1599 (by decide) (fun _ => ?_) (fun c8 => absurd rfl c8)
    refine lv_goto (tgt := 1731) hx hb dL_law_1604 (by decide) ?_
    refine W.widen (k := cK) (n := nK) (by omega) (by omega) ?_
    exact kt _ _ _ _ _ _ _ _ _ _ _ _ (lv_sub hl [2, 3, 4, 5, 6] rfl) hP hD hS (q.2.2.mono (by omega))
set_option maxHeartbeats 4000000 in
set_option maxRecDepth 100000 in
theorem zca_ifDivided {p : Program} {l : Launch} {e : Env} {s : State} {m : MethodId} {below : List Frame} {meth : Method} {c : Code} {H : Heap} {locs : List Loc} {k0 n0 cK nK : Nat} {Q : State → Prop} {ls : Array Slot} {b L i : Nat} {xs : Nat → Int32} {D : va_G} {cA : Nat → ClassId} {o rd : Nat} {f : Nat → Int64} {bb : Nat → Nat → Nat} {r x mo : Nat → Nat} {X : BK} {N : NK} {B : BK} {Bs : Nat → BK} {M : BK} {Nm : Nat → Nat} {h : Int64} {K : Int} (E : zEv p l s m c b L xs D cA) (hi : i + 3 < L) (hcK : k0 + 4 ≤ cK ∧ n0 + 24 ≤ nK ∧ cK ≤ 601024 ∧ nK ≤ 7293034) (h0 : zL K r N B X Bs M Nm) (hK9 : K + 620000 ≤ 2 ^ 29) (hl : lv_has ls 9 [(0, .ref b), (1, .ref (x 0)), (2, .ref (mo 0)), (3, .ref o), (4, .int (nI i))]) (hP : va_P D vwCl ((ouW cA o f ++ unW cA x bb rd r X N B Bs) ++ moW cA mo M Nm h) H) (hD : va_D (fun q => s.heap.size ≤ q) ((ouW cA o f ++ unW cA x bb rd r X N B Bs) ++ moW cA mo M Nm h)) (hS : va_S (fun q => s.heap.size ≤ q) s.heap H locs) (kt : zKt p l e s m below meth c b i D cA o bb rd x mo (K + 620000) cK nK Q) : W p l e room_1 s m #[.ref b] below meth c H locs k0 n0 Q (F0 m 1607 ls []) := by
  obtain ⟨hx, hb, hml, hown, hts, hX, hbl, hL, hK, hO, hn, hfl⟩ := E
  have hbA : ¬ (fun q => s.heap.size ≤ q) b := Nat.not_le.mpr hbl
  refine lv_aload_n hx hb dL_law_1607 rfl (lv_at hl 1 rfl) ?_
  refine zl_arg hx hb hX hbl hbA hS (i := i) (j := 1) (by omega) hL (lv_at hl 4 rfl) (lv_at hl 0 rfl) dL_law_1608 dL_law_1609 dL_law_1611 dL_law_1612 dL_law_1613 (by decide) ?_
  refine lv_aload_n hx hb dL_law_1614 rfl (lv_at hl 3 rfl) ?_
  refine zv_W (w1 := ouW cA o (vp_updL f 0 (f_X2_ifDivided B (xs (i + 1))).toInt64) ++ unW cA x bb rd r X N B Bs) (w2 := ouW cA o f ++ unW cA x bb rd r X N B Bs) (vx_runSW (As := [.ref (x 0), .int (xs (i + 1)), .ref o]) (rest := []) ⟨hx, hb, hml, hown, hts⟩ (zl_ifDivided l hfl D cA o f bb rd r x X N B Bs (xs (i + 1)) ) (vx_cwSW 3 hts gL_law_L_ifDivided rfl rfl rfl zy_L_ifDivided.2 ⟨(Nat.le_of_ble_eq_true rfl), (Nat.le_of_ble_eq_true rfl)⟩) (zPw_preS hK (zL_P hP) (zL_D hD) hO hn hS (zL_fr hD)) rfl rfl hl.1 rfl (lv_room (Nat.le_of_ble_eq_true rfl)) dL_law_1615 ⟨by show k0 + 1 ≤ 601024; omega, by show n0 + 6 ≤ 7293034; omega⟩) hP hD hS (zou_adr zun_adr) (zou_adr zun_adr) (fun k H locs hk hP hD hS => ?_)
  have q := zs_ifDivided h0 (xs (i + 1)) k hk
  refine lv_istore (lv' := [(5, .int k), (0, .ref b), (1, .ref (x 0)), (2, .ref (mo 0)), (3, .ref o), (4, .int (nI i))]) hx hb dL_law_1618 hl (by decide) rfl (fun ls hl => ?_)
  refine lv_aload_n hx hb dL_law_1620 rfl (lv_at hl 3 rfl) ?_
  refine zl_arg hx hb hX hbl hbA hS (i := i) (j := 1) (by omega) hL (lv_at hl 5 rfl) (lv_at hl 1 rfl) dL_law_1621 dL_law_1622 dL_law_1624 dL_law_1625 dL_law_1626 (by decide) ?_
  refine zm_M (U := (if k = 0 then ouW cA o (vp_updL f 0 (f_X2_ifDivided B (xs (i + 1))).toInt64) ++ unW cA x bb rd r X N B Bs else ouW cA o f ++ unW cA x bb rd r X N B Bs)) (w1 := moW cA mo ((f_X3_ifDivided M (xs (i + 1))).2) Nm h) (va_runV (As := [.int (xs (i + 1))]) (rest := []) ⟨hx, hb, hml, hown, hts⟩ (zc_X3_ifDivided l D cA mo M Nm h (xs (i + 1)) ) (cwV 1 hts gL_law_X3_ifDivided rfl rfl rfl zy_X3_ifDivided ⟨(Nat.le_of_ble_eq_true rfl), (Nat.le_of_ble_eq_true rfl)⟩) (z_preVq (ci := 3) (q0 := 0) hK (zR_P hP) (zR_D hD) rfl rfl) rfl rfl hl.1 rfl (lv_room (Nat.le_of_ble_eq_true rfl)) dL_law_1627 ⟨by show k0 + 1 + 0 ≤ 601024; omega, by show n0 + 6 + 0 ≤ 7293034; omega⟩) hP hD hS moW_adr rfl (fun H locs hP hD hS => ?_)
  refine lv_istore (lv' := [(6, .int ((f_X3_ifDivided M (xs (i + 1))).1)), (5, .int k), (0, .ref b), (1, .ref (x 0)), (2, .ref (mo 0)), (3, .ref o), (4, .int (nI i))]) hx hb dL_law_1630 hl (by decide) rfl (fun ls hl => ?_)
  refine lv_aload_n hx hb dL_law_1632 rfl (lv_at hl 4 rfl) ?_
  refine z_E (va_runV (As := []) (rest := []) ⟨hx, hb, hml, hown, hts⟩ (zc_X3_thrown l D cA mo ((f_X3_ifDivided M (xs (i + 1))).2) Nm h) (cwV 0 hts gL_law_X3_thrown rfl rfl rfl zy_X3_thrown ⟨(Nat.le_of_ble_eq_true rfl), (Nat.le_of_ble_eq_true rfl)⟩) (z_preVq (ci := 3) (q0 := 0) hK (zR_P hP) (zR_D hD) rfl rfl) rfl rfl hl.1 rfl (lv_room (Nat.le_of_ble_eq_true rfl)) dL_law_1633 ⟨by show k0 + 1 + 0 ≤ 601024; omega, by show n0 + 6 + 0 ≤ 7293034; omega⟩) rfl ?_
  refine lv_iload hx hb dL_law_1636 (lv_at hl 1 rfl) ?_
  refine lv_icmp_eq (tgt := 1643) hx hb dL_law_1638 (by decide) (fun _ => ?_) (fun c9 => absurd q.1 c9)
  refine lv_iload hx hb dL_law_1643 (lv_at hl 1 rfl) ?_
  refine lv_if_ne (tgt := 1660) hx hb dL_law_1645 (by decide) (fun c9 => ?_) (fun c9 => ?_)
  · rw [zW_neg c9] at hP hD
    refine lv_goto (tgt := 1731) hx hb dL_law_1660 (by decide) ?_
    refine W.widen (k := cK) (n := nK) (by omega) (by omega) ?_
    exact kt _ _ _ _ _ _ _ _ _ _ _ _ (lv_sub hl [2, 3, 4, 5, 6] rfl) hP hD hS (q.2.2.mono (by omega))
  · rw [zW_pos c9] at hP hD
    refine lv_aload_n hx hb dL_law_1648 rfl (lv_at hl 5 rfl) ?_
    refine lv_iconst (v := 0) hx hb dL_law_1649 (by decide) ?_
    refine zw_lald hx hb hK (U := unW cA x bb rd r X N B Bs ++ moW cA mo ((f_X3_ifDivided M (xs (i + 1))).2) Nm h) (by rw [← List.append_assoc]; exact hP) dL_law_1650 ?_
    refine lv_iload hx hb dL_law_1651 (lv_at hl 0 rfl) ?_
    refine lv_i2l hx hb dL_law_1653 rfl ?_
    refine W.lcmp hx hb dL_law_1654 ?_
    refine z_top (y := 0) (by rw [zw_up, (q.2.1 c9)]; exact zlc_eq _) ?_
    refine lv_if_eq (tgt := 1660) hx hb dL_law_1655 (by decide) (fun _ => ?_) (fun c8 => absurd rfl c8)
    refine lv_goto (tgt := 1731) hx hb dL_law_1660 (by decide) ?_
    refine W.widen (k := cK) (n := nK) (by omega) (by omega) ?_
    exact kt _ _ _ _ _ _ _ _ _ _ _ _ (lv_sub hl [2, 3, 4, 5, 6] rfl) hP hD hS (q.2.2.mono (by omega))
end
