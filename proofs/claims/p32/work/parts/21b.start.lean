/-! the law from its entry -/
section
theorem zstr {s : State} {args : Array Value} {cur k : Nat} {tx : String} (hf : s.vm.findClass RX2 = some cur) (h : (Cond.stringRef RX2 k tx).before args s = true) : ∃ sa, vk_R RX2 k tx sa s := by
  obtain ⟨_, _, _, a, _, _, _, _, _, he⟩ := Cond.stringRef_spec hf h
  exact ⟨a, vk_R.of h he⟩
theorem zarP {s : State} {args : Array Value} {ty : FieldType} (h : (Cond.arrayClass ty).before args s = true) : ∃ c : ClassId, ArrOfT s c ty ∧ s.vm.findClass ("[" ++ ty.toString) = some c := by
  obtain ⟨c, k, comp, h1, h2, h3⟩ := Cond.arrayClass_spec h
  exact ⟨c, fun n z => ⟨fun k h => (by cases h), k, h2, comp, h3⟩, h1⟩
theorem zarQ {s : State} {args : Array Value} {C : String} (h : (Cond.arrayOver (.object C)).before args s = true) : ∃ c : ClassId, ArrOfT s c (.object C) ∧ va_RA s c (.object C) := by
  obtain ⟨comp, c, k, h1, h2, h3, h4, h5⟩ := Cond.arrayOver_spec h
  exact ⟨c, fun n z => ⟨fun k h => (by cases h), k, h3, comp, h4⟩, k, comp, h3, h4, h1, h5⟩
theorem zflag {l : Launch} (h : l.flags = flags0) : l.stackTraces = false := by
  unfold Launch.stackTraces
  rw [h]
  decide +kernel
set_option maxHeartbeats 40000000 in
set_option maxRecDepth 100000 in
theorem whole_start {p : Program} {e : Env} {s : State} {m : MethodId} {below : List Frame} {meth : Method} {c : Code} (l : Launch) (hflags : l.flags = flags0) {sb L : Nat} {xs : Nat → Int32} (hL : L ≤ 260) (C0 : lw_At p s m meth c sb L xs) : W p l e room_1 s m #[Value.ref sb] below meth c s.heap [] 0 0 (lw_Z below #[Value.ref sb] s) (entryFrame m ([Value.ref sb] : List Value).toArray 12) := by
  obtain ⟨hx, hb, hr, hml, hown, htT, hX, hbl, hlocks, hgv⟩ := id C0
  have hts : ∀ w ∈ wsL_law, w.before #[.ref sb] s = true := fun w h => htT w (wsL_law_in w h)
  have hA : ∀ q : Nat, s.heap.size ≤ q → (fun q : Nat => s.heap.size ≤ q) q := fun _ h => h
  have hg := flat_of_before _ hgv
  obtain ⟨c0, i0, hKn0⟩ := u_known (C := RX0) (T := TX0) (N := 16) (n := 16) htT inX0 (htT (.instantiable RX0 16) (List.mem_of_getElem? (i := 35) (by decide +kernel)))
  obtain ⟨c1, i1, hKn1⟩ := u_known (C := RX1) (T := TX1) (N := 6) (n := 6) htT inX1 (htT (.instantiable RX1 6) (List.mem_of_getElem? (i := 102) (by decide +kernel)))
  obtain ⟨c2, i2, hKn2⟩ := u_known (C := RX2) (T := TX2) (N := 9) (n := 9) htT inX2 (htT (.instantiable RX2 9) (List.mem_of_getElem? (i := 27) (by decide +kernel)))
  obtain ⟨dC, dI, hKc⟩ : ∃ (dC : Nat → ClassId) (dI : Nat → Nat → Nat), ∀ (k : Nat) (q : vw_C), vwCl[k]? = some q → u_Kn s q.1 q.2.1 q.2.2 (dC k) (dI k) := by
    refine ⟨fun k => if k = 0 then c0 else if k = 1 then c1 else c2, fun k => if k = 0 then i0 else if k = 1 then i1 else i2, ?_⟩
    intro k q hq
    match k, hq with
    | 0, hq => cases hq; exact hKn0
    | 1, hq => cases hq; exact hKn1
    | 2, hq => cases hq; exact hKn2
    | k + 3, hq => simp [vwCl] at hq
  obtain ⟨aI, uI, vI⟩ := zarP (ty := .int) (htT (.arrayClass .int) (List.mem_of_getElem? (i := 99) (by decide +kernel)))
  obtain ⟨aZ, uZ, vZ⟩ := zarP (ty := .boolean) (htT (.arrayClass .boolean) (List.mem_of_getElem? (i := 120) (by decide +kernel)))
  obtain ⟨aC, uC, vC⟩ := zarP (ty := .char) (htT (.arrayClass .char) (List.mem_of_getElem? (i := 121) (by decide +kernel)))
  obtain ⟨aQ, uQ, vQ⟩ := zarQ (C := "PledgedLoans$Books") (htT (.arrayOver (.object "PledgedLoans$Books")) (List.mem_of_getElem? (i := 100) (by decide +kernel)))
  obtain ⟨cA, hKt⟩ : ∃ cA : Nat → ClassId, ∀ (k : Nat) (q : ClassId × FieldType), (zTy cA)[k]? = some q → ArrOfT s q.1 q.2 ∧ va_RA s q.1 q.2 := by
    refine ⟨fun k => if k = 0 then aI else if k = 1 then aZ else if k = 2 then aC else aQ, ?_⟩
    intro k q hq
    match k, hq with
    | 0, hq => cases hq; exact ⟨uI, vI⟩
    | 1, hq => cases hq; exact ⟨uZ, vZ⟩
    | 2, hq => cases hq; exact ⟨uC, vC⟩
    | 3, hq => cases hq; exact ⟨uQ, vQ⟩
    | k + 4, hq => simp at hq
  obtain ⟨D, hK⟩ : ∃ D : va_G, va_K D vwCl (zTy cA) s := ⟨(dC, dI), hKc, hKt⟩
  have hf2 : s.vm.findClass RX2 = some c2 := hKn2.2.1
  have hZ : ∀ a : Nat, a < s.heap.size → ¬ (fun q : Nat => s.heap.size ≤ q) a := fun a h => Nat.not_le.mpr h
  have hO : zOut (fun q => s.heap.size ≤ q) s := by
    refine ⟨vx_Zqof (htT (.laysStatic "java/lang/Throwable" "UNASSIGNED_STACK" "[Ljava/lang/StackTraceElement;") (List.mem_of_getElem? (i := 183) (by decide +kernel))) (htT (.initialized "java/lang/Throwable") (List.mem_of_getElem? (i := 17) (by decide +kernel))) (hg _ (by decide +kernel)) hZ, vx_Zqof (htT (.laysStatic "java/lang/Throwable" "SUPPRESSED_SENTINEL" "Ljava/util/List;") (List.mem_of_getElem? (i := 185) (by decide +kernel))) (htT (.initialized "java/lang/Throwable") (List.mem_of_getElem? (i := 17) (by decide +kernel))) (hg _ (by decide +kernel)) hZ, ?_, ?_, ?_, ?_, ?_, ?_, ?_⟩
    · intro q hq
      simp only [zTx, List.mem_cons, List.not_mem_nil, or_false] at hq
      rcases hq with rfl | rfl | rfl | rfl | rfl | rfl | rfl | rfl
      · exact zstr hf2 (htT (.stringRef RX2 86 "too many weeks ended") (List.mem_of_getElem? (i := 472) (by decide +kernel)))
      · exact zstr hf2 (htT (.stringRef RX2 99 "too many days or share days") (List.mem_of_getElem? (i := 495) (by decide +kernel)))
      · exact zstr hf2 (htT (.stringRef RX2 141 "no snapshot in the slot") (List.mem_of_getElem? (i := 533) (by decide +kernel)))
      · exact zstr hf2 (htT (.stringRef RX2 146 "no saved state") (List.mem_of_getElem? (i := 258) (by decide +kernel)))
      · exact zstr hf2 (htT (.stringRef RX2 210 "no such member") (List.mem_of_getElem? (i := 310) (by decide +kernel)))
      · exact zstr hf2 (htT (.stringRef RX2 213 "both are the same member") (List.mem_of_getElem? (i := 398) (by decide +kernel)))
      · exact zstr hf2 (htT (.stringRef RX2 215 "no such setting") (List.mem_of_getElem? (i := 358) (by decide +kernel)))
      · exact zstr hf2 (htT (.stringRef RX2 217 "out of range") (List.mem_of_getElem? (i := 197) (by decide +kernel)))
    · exact va_Nw.of rfl (htT (.castable "java/lang/IndexOutOfBoundsException" "java/lang/IndexOutOfBoundsException") (List.mem_of_getElem? (i := 303) (by decide +kernel)))
    · exact va_Nw.of rfl (htT (.castable "java/lang/IllegalArgumentException" "java/lang/IllegalArgumentException") (List.mem_of_getElem? (i := 158) (by decide +kernel)))
    · exact va_Nw.of rfl (htT (.castable "java/lang/IllegalStateException" "java/lang/IllegalStateException") (List.mem_of_getElem? (i := 251) (by decide +kernel)))
    · exact va_Nw.of rfl (htT (.declares (Bundle.initS "java/lang/RuntimeException")) (List.mem_of_getElem? (i := 160) (by decide +kernel)))
    · exact va_Nw.of rfl (htT (.declares (Bundle.initS "java/lang/Exception")) (List.mem_of_getElem? (i := 162) (by decide +kernel)))
    · exact va_Nw.of rfl (htT (.declares (Bundle.initS "java/lang/Throwable")) (List.mem_of_getElem? (i := 164) (by decide +kernel)))
  have hfl := zflag hflags
  have E : zEv p l s m meth c sb L xs D cA := ⟨hx, hb, hr, hml, hown, hts, hX, hbl, hlocks, hL, hK, hO, hfl⟩
  have hAO : va_AO RX0 s := va_AO.of (htT (.arrayOver (.object "PledgedLoans$Books")) (List.mem_of_getElem? (i := 100) (by decide +kernel)))
  have hN1 : va_Nw (.methodLinkNest RX2 9 yX0_init RX2) s := va_Nw.of rfl (htT (.methodLinkNest RX2 9 yX0_init RX2) (List.mem_of_getElem? (i := 36) (by decide +kernel)))
  have hN2 : va_Nw (.methodLinkNest RX2 33 yX1_init RX2) s := va_Nw.of rfl (htT (.methodLinkNest RX2 33 yX1_init RX2) (List.mem_of_getElem? (i := 103) (by decide +kernel)))
  have hS : va_S (fun q : Nat => s.heap.size ≤ q) s.heap s.heap [] := va_S.rf
  have hP : va_P D vwCl [] s.heap := fun k q h => by simp at h
  have hD : va_D (fun q : Nat => s.heap.size ≤ q) [] := ⟨fun i j p q h => by simp at h, fun k q h => by simp at h⟩
  have hl := lv_entry ([.ref sb]) (n := 12) (Nat.le_of_ble_eq_true rfl)
  rw [lg_entry_eq]
  generalize (lg_sl ([.ref sb]) ++ List.replicate (12 - (lg_sl ([.ref sb])).length) Slot.unset).toArray = ls at hl ⊢
  have hl : lv_has ls 12 [(0, .ref sb)] := hl
  refine va_new (ci := 2) (fs := [.null, .null, .int 0, .null, .null, .null, .int 0, .null, .null]) (C := RX2) (T := TX2) (N := 9) hx hb htT inX2 tyX2 tyX2_ok hown (htT (.classLink RL 14 RX2) (List.mem_of_getElem? (i := 26) (by decide +kernel))) (htT (.instantiable RX2 9) (List.mem_of_getElem? (i := 27) (by decide +kernel))) (htT (.initialized RX2) (List.mem_of_getElem? (i := 14) (by decide +kernel))) hK hP hD hS hA rfl (fun j hj => by rcases (show j = 0 ∨ j = 1 ∨ j = 2 ∨ j = 3 ∨ j = 4 ∨ j = 5 ∨ j = 6 ∨ j = 7 ∨ j = 8 by omega) with rfl | rfl | rfl | rfl | rfl | rfl | rfl | rfl | rfl <;> rfl) (Nat.le_of_ble_eq_true rfl) (Nat.le_of_ble_eq_true rfl) dL_law_0 (fun q1 H hP hD hS => ?_)
  have hP : va_P D vwCl ([(q1, .inr (2, [.null, .null, .int 0, .null, .null, .null, .int 0, .null, .null]))]) H := hP
  have hD : va_D (fun q : Nat => s.heap.size ≤ q) ([(q1, .inr (2, [.null, .null, .int 0, .null, .null, .null, .int 0, .null, .null]))]) := hD
  refine lv_dup hx hb dL_law_3 rfl ?_
  have hPc := hP.sub (ws' := [(q1, .inr (2, [.null, .null, .int 0, .null, .null, .null, .int 0, .null, .null]))]) [0] rfl
  have hDc := hD.sub (ws' := [(q1, .inr (2, [.null, .null, .int 0, .null, .null, .null, .int 0, .null, .null]))]) [0] (by decide) rfl
  have hFc := va_free (wc := [(q1, .inr (2, [.null, .null, .int 0, .null, .null, .null, .int 0, .null, .null]))]) hD hS hA [0] rfl
  refine va_callv (va_runI (As := []) (rest := [.ref q1]) ⟨hx, hb, hml, hown, hts⟩ (zi_X2_init l D cA q1 H.size) (cwI 0 hts gL_law_X2_init rfl rfl rfl (htT (.initialized RX2) (List.mem_of_getElem? (i := 14) (by decide +kernel))) (htT (.methodLink RL 101 yX2_init) (List.mem_of_getElem? (i := 28) (by decide +kernel))) (htT (.instanceMethod yX2_init) (List.mem_of_getElem? (i := 29) (by decide +kernel))) rfl zy_X2_init.2 ⟨(Nat.le_of_ble_eq_true rfl), (Nat.le_of_ble_eq_true rfl)⟩) (zPq_pre hK hPc hDc hAO hN1 hN2) rfl rfl hl.1 rfl (lv_room (Nat.le_of_ble_eq_true rfl)) dL_law_4 ⟨(Nat.le_of_ble_eq_true rfl), (Nat.le_of_ble_eq_true rfl)⟩) hS (fun q _ h => hFc q h) hFc (fun u t H1 locs ht hvm hw hB hz1 hk1 hS => ?_)
  obtain ⟨b, rd, x⟩ := u
  obtain ⟨hP1, hD1⟩ := hB
  rw [ht] at hP1
  obtain ⟨hPj, hDj⟩ := va_join (wr := []) (w1 := rdW rd (fun _ => 0) ++ (xmW cA x b rd (fun _ _ => 0) zN0 ++ (bkW (cA 0) (b 0) zB0 ++ otW (cA 0) b (fun _ => zB0)))) hP hD [0] [] rfl rfl (by decide) (by decide) hk1 hFc hP1 hD1
  clear hPc hDc hFc hP1 hD1 hk1 ht hvm hz1 hP hD
  obtain rfl : x 0 = q1 := hw
  have hP : va_P D vwCl (xmW cA x b rd (fun _ _ => 0) zN0 ++ (bkW (cA 0) (b 0) zB0 ++ otW (cA 0) b (fun _ => zB0))) H1 := hPj.sub [1, 2, 3, 4, 5, 6, 7, 8, 9, 10, 11, 12, 13, 14, 15, 16, 17, 18, 19, 20, 21, 22, 23, 24, 25, 26, 27, 28, 29, 30, 31, 32, 33, 34, 35, 36, 37, 38, 39, 40, 41, 42, 43, 44, 45, 46, 47, 48, 49, 50, 51, 52, 53, 54, 55, 56, 57, 58, 59, 60, 61, 62, 63, 64, 65, 66, 67, 68, 69, 70, 71, 72, 73, 74, 75, 76, 77, 78, 79, 80, 81, 82, 83, 84, 85, 86, 87] rfl
  have hD : va_D (fun q : Nat => s.heap.size ≤ q) (xmW cA x b rd (fun _ _ => 0) zN0 ++ (bkW (cA 0) (b 0) zB0 ++ otW (cA 0) b (fun _ => zB0))) := hDj.sub [1, 2, 3, 4, 5, 6, 7, 8, 9, 10, 11, 12, 13, 14, 15, 16, 17, 18, 19, 20, 21, 22, 23, 24, 25, 26, 27, 28, 29, 30, 31, 32, 33, 34, 35, 36, 37, 38, 39, 40, 41, 42, 43, 44, 45, 46, 47, 48, 49, 50, 51, 52, 53, 54, 55, 56, 57, 58, 59, 60, 61, 62, 63, 64, 65, 66, 67, 68, 69, 70, 71, 72, 73, 74, 75, 76, 77, 78, 79, 80, 81, 82, 83, 84, 85, 86, 87] (by decide) rfl
  clear hPj hDj
  generalize H1 = H at hP hS ⊢
  refine lv_astore_n (lv' := [(1, .ref (x 0)), (0, .ref sb)]) hx hb dL_law_7 rfl hl (by decide) rfl (fun ls hl => ?_)
  refine W.widen (k := 88 + 0) (n := 901 + 0) (by omega) (by omega) ?_
  refine lv_aload_n hx hb dL_law_8 rfl (lv_at hl 0 rfl) ?_
  refine lv_iconst (v := 0) hx hb dL_law_9 (by decide) ?_
  refine zv_M (X := ([] : va_W)) (Z := ([] : va_W)) (vx_runV (As := [.int 0]) (rest := []) ⟨hx, hb, hml, hown, hts⟩ (zk_X2_keep l hfl D cA b rd x (fun _ _ => 0) zN0 zB0 (fun _ => zB0) 0) (cwV 1 hts gL_law_X2_keep rfl rfl rfl zy_X2_keep ⟨(Nat.le_of_ble_eq_true rfl), (Nat.le_of_ble_eq_true rfl)⟩) (zx_preVq (A := (fun q : Nat => s.heap.size ≤ q)) (ci := 2) (q0 := 0) hK hP hD hO hS (zD_fr hD) rfl rfl) rfl rfl hl.1 rfl (lv_room (Nat.le_of_ble_eq_true rfl)) dL_law_10 ⟨Nat.le_trans (m := 9000) (by omega) (Nat.le_of_ble_eq_true rfl), Nat.le_trans (m := 90000) (by omega) (Nat.le_of_ble_eq_true rfl)⟩) (zva_no ⟨⟨by decide, by decide⟩, trivial⟩) hP hD hS (z_adr2 xmW_adr (z_adr2 bkW_adr otW_adr)) rfl (fun H locs hP9 hD9 hS9 => ?_)
  replace hP : va_P D vwCl (xmW cA x b rd ((f_X2_keep (fun _ _ => 0) zB0 (fun _ => zB0) 0).2.1) zN0 ++ (bkW (cA 0) (b 0) zB0 ++ (otW (cA 0) b ((f_X2_keep (fun _ _ => 0) zB0 (fun _ => zB0) 0).2.2)))) H := hP9
  replace hD : va_D _ (xmW cA x b rd ((f_X2_keep (fun _ _ => 0) zB0 (fun _ => zB0) 0).2.1) zN0 ++ (bkW (cA 0) (b 0) zB0 ++ (otW (cA 0) b ((f_X2_keep (fun _ _ => 0) zB0 (fun _ => zB0) 0).2.2)))) := hD9
  replace hS := hS9
  clear hP9 hD9 hS9
  refine W.widen (k := 88 + 1) (n := 901 + 6) (by omega) (by omega) ?_
  refine lv_if_ne (tgt := 27) hx hb dL_law_13 (by decide) (fun c_13 => by exact absurd (by decide +kernel) c_13) (fun _ => ?_)
  refine lv_aload_n hx hb dL_law_16 rfl (lv_at hl 0 rfl) ?_
  refine zu_E (va_runS (As := [.ref (x 0)]) (rest := []) ⟨hx, hb, hml, hown, hts⟩ (zc_L_holds l hfl D cA b rd x ((f_X2_keep (fun _ _ => 0) zB0 (fun _ => zB0) 0).2.1) zN0 zB0 (zH_holds zQ_new (by omega) _)) (va_cwS 1 hts gL_law_L_holds rfl rfl rfl zy_L_holds.2 ⟨(Nat.le_of_ble_eq_true rfl), (Nat.le_of_ble_eq_true rfl)⟩) (zx_preS (A := (fun q : Nat => s.heap.size ≤ q)) hK (hP.sub (ws' := xmW cA x b rd ((f_X2_keep (fun _ _ => 0) zB0 (fun _ => zB0) 0).2.1) zN0 ++ (bkW (cA 0) (b 0) zB0)) [0, 1, 2, 3, 4, 5, 6, 7, 8, 9, 10, 11, 12, 13, 14] rfl) (hD.sub (ws' := xmW cA x b rd ((f_X2_keep (fun _ _ => 0) zB0 (fun _ => zB0) 0).2.1) zN0 ++ (bkW (cA 0) (b 0) zB0)) [0, 1, 2, 3, 4, 5, 6, 7, 8, 9, 10, 11, 12, 13, 14] (by decide) rfl) hO hS (zD_fr (hD.sub (ws' := xmW cA x b rd ((f_X2_keep (fun _ _ => 0) zB0 (fun _ => zB0) 0).2.1) zN0 ++ (bkW (cA 0) (b 0) zB0)) [0, 1, 2, 3, 4, 5, 6, 7, 8, 9, 10, 11, 12, 13, 14] (by decide) rfl))) rfl rfl hl.1 rfl (lv_room (Nat.le_of_ble_eq_true rfl)) dL_law_17 ⟨Nat.le_trans (m := 9000) (by omega) (Nat.le_of_ble_eq_true rfl), Nat.le_trans (m := 90000) (by omega) (Nat.le_of_ble_eq_true rfl)⟩) rfl ?_
  refine lv_if_eq (tgt := 27) hx hb dL_law_20 (by decide) (fun c_14 => absurd c_14 (by decide)) (fun _ => ?_)
  refine lv_iconst (v := 1) hx hb dL_law_23 (by decide) ?_
  refine lv_goto (tgt := 28) hx hb dL_law_24 (by decide) ?_
  refine lv_istore_n (lv' := [(2, .int 1), (1, .ref (x 0)), (0, .ref sb)]) hx hb dL_law_28 rfl hl (by decide) rfl (fun ls hl => ?_)
  refine lv_iconst (v := 0) hx hb dL_law_29 (by decide) ?_
  refine z_top (y := nI 0) rfl ?_
  refine lv_istore_n (lv' := [(3, .int (nI 0)), (2, .int 1), (1, .ref (x 0)), (0, .ref sb)]) hx hb dL_law_30 rfl hl (by decide) rfl (fun ls hl => ?_)
  have hT : zT ((0 : Nat) : Int) zN0 zB0 (f_X2_keep (fun _ _ => 0) zB0 (fun _ => zB0) 0).2.1 (f_X2_keep (fun _ _ => 0) zB0 (fun _ => zB0) 0).2.2 := ⟨fun i hi => ⟨Nat.succ_le_succ (Nat.zero_le i), hi⟩, Nat.zero_le 6, zQ_new, (show zQ 0 zB0 from zQ_new), (show ¬ (1 : Int32) = 0 from by decide)⟩
  refine W.widen (k := 100 + 30 * 0 + 0) (n := 1000 + 200 * 0 + 0) (by omega) (by omega) ?_
  exact zlaw_loop E 64 0 (by omega) _ _ _ _ H locs ls (lv_sub hl [3, 2, 1, 0] rfl) hP hD hS hT
end
