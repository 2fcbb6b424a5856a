/-! the law's cases that throw nothing -/
section
theorem zd_refl {x : UInt64} (h : x = 0 ∨ zdn x) : Op.cmpValue (FP.dcmp x x) .l = 0 := by
  rcases h with rfl | ⟨E, T, h1, h2, h3, rfl⟩
  · decide +kernel
  · rw [zd_dec (by omega) (by omega) h3 (by omega) (by omega) h3, zd_ord, zd_cmpE rfl]
    decide
theorem zl_A {cA : Nat → ClassId} {o rd : Nat} {f : Nat → Int64} {bb : Nat → Nat → Nat} {r x : Nat → Nat} {X : BK} {N : NK} {B : BK} {Bs : Nat → BK} {R : va_W} : (ouW cA o f ++ unW cA x bb rd r X N B Bs) ++ R = (ouW cA o f ++ rdW rd r) ++ ((xmW cA x bb rd X N ++ (bkW (cA 0) (bb 0) B ++ otW (cA 0) bb Bs)) ++ R) := by
  unfold unW
  simp only [List.append_assoc]
theorem zl_B {cA : Nat → ClassId} {o rd : Nat} {f : Nat → Int64} {bb : Nat → Nat → Nat} {r x : Nat → Nat} {X : BK} {N : NK} {B : BK} {Bs : Nat → BK} {R : va_W} : (ouW cA o f ++ unW cA x bb rd r X N B Bs) ++ R = (ouW cA o f ++ rdW rd r) ++ (xmW cA x bb rd X N ++ ((bkW (cA 0) (bb 0) B ++ otW (cA 0) bb Bs) ++ R)) := by
  unfold unW
  simp only [List.append_assoc]
theorem zl_C {cA : Nat → ClassId} {o rd : Nat} {f : Nat → Int64} {bb : Nat → Nat → Nat} {r x : Nat → Nat} {X : BK} {N : NK} {B : BK} {Bs : Nat → BK} {R : va_W} : (ouW cA o f ++ unW cA x bb rd r X N B Bs) ++ R = (ouW cA o f ++ rdW rd r) ++ ((xmW cA x bb rd X N ++ bkW (cA 0) (bb 0) B) ++ (otW (cA 0) bb Bs ++ R)) := by
  unfold unW
  simp only [List.append_assoc]
theorem zl_E {cA : Nat → ClassId} {o rd : Nat} {f : Nat → Int64} {bb : Nat → Nat → Nat} {r x : Nat → Nat} {X : BK} {N : NK} {B : BK} {Bs : Nat → BK} {R : va_W} : (ouW cA o f ++ unW cA x bb rd r X N B Bs) ++ R = ouW cA o f ++ ((rdW rd r ++ xmW cA x bb rd X N) ++ ((bkW (cA 0) (bb 0) B ++ otW (cA 0) bb Bs) ++ R)) := by
  unfold unW
  simp only [List.append_assoc]
set_option maxHeartbeats 4000000 in
set_option maxRecDepth 100000 in
theorem zca_dividend {p : Program} {l : Launch} {e : Env} {s : State} {m : MethodId} {below : List Frame} {meth : Method} {c : Code} {H : Heap} {locs : List Loc} {k0 n0 cK nK : Nat} {Q : State → Prop} {ls : Array Slot} {b L i : Nat} {xs : Nat → Int32} {D : va_G} {cA : Nat → ClassId} {o rd : Nat} {f : Nat → Int64} {bb : Nat → Nat → Nat} {r x mo : Nat → Nat} {X : BK} {N : NK} {B : BK} {Bs : Nat → BK} {M : BK} {Nm : Nat → Nat} {h : Int64} {K : Int} (E : zEv p l s m c b L xs D cA) (hi : i + 3 < L) (hcK : k0 + 4 ≤ cK ∧ n0 + 24 ≤ nK ∧ cK ≤ 601024 ∧ nK ≤ 7293034) (h0 : zL K r N B X Bs M Nm) (hK9 : K + 620000 ≤ 2 ^ 29) (hl : lv_has ls 9 [(0, .ref b), (1, .ref (x 0)), (2, .ref (mo 0)), (3, .ref o), (4, .int (nI i))]) (hP : va_P D vwCl ((ouW cA o f ++ unW cA x bb rd r X N B Bs) ++ moW cA mo M Nm h) H) (hD : va_D (fun q => s.heap.size ≤ q) ((ouW cA o f ++ unW cA x bb rd r X N B Bs) ++ moW cA mo M Nm h)) (hS : va_S (fun q => s.heap.size ≤ q) s.heap H locs) (kt : zKt p l e s m below meth c b i D cA o bb rd x mo (K + 620000) cK nK Q) : W p l e room_1 s m #[.ref b] below meth c H locs k0 n0 Q (F0 m 712 ls []) := by
  obtain ⟨hx, hb, hml, hown, hts, hX, hbl, hL, hK, hO, hn, hfl⟩ := E
  have hbA : ¬ (fun q => s.heap.size ≤ q) b := Nat.not_le.mpr hbl
  refine lv_aload_n hx hb dL_law_712 rfl (lv_at hl 1 rfl) ?_
  have hPx := hP
  have hDx := hD
  rw [zl_A] at hPx hDx
  refine z_M (X := (ouW cA o f ++ rdW rd r)) (Z := moW cA mo M Nm h) (va_runV (As := []) (rest := []) ⟨hx, hb, hml, hown, hts⟩ (zc_X2_dividend l D cA bb rd x X N B Bs h0.2.2.2.2.1.1 (by have := h0.2.2.1; omega)) (cwV 0 hts gL_law_X2_dividend rfl rfl rfl zy_X2_dividend ⟨(Nat.le_of_ble_eq_true rfl), (Nat.le_of_ble_eq_true rfl)⟩) (z_preVq (ci := 2) (q0 := 0) hK (zmid_P hPx) (zmid_D hDx) rfl rfl) rfl rfl hl.1 rfl (lv_room (Nat.le_of_ble_eq_true rfl)) dL_law_713 ⟨by show k0 + 0 ≤ 601024; omega, by show n0 + 0 ≤ 7293034; omega⟩) hPx hDx hS (z_adr2 xmW_adr (z_adr2 bkW_adr otW_adr)) rfl (fun H locs hP hD hS => ?_)
  rw [← zl_A] at hP hD
  refine lv_aload_n hx hb dL_law_716 rfl (lv_at hl 2 rfl) ?_
  refine zm_M (U := ouW cA o f ++ unW cA x bb rd r X ((f_X2_dividend N B Bs).2.1) ((f_X2_dividend N B Bs).2.2.1) ((f_X2_dividend N B Bs).2.2.2)) (w1 := moW cA mo ((f_X3_dividend M Nm).2.1) ((f_X3_dividend M Nm).2.2) h) (va_runV (As := []) (rest := [.int ((f_X2_dividend N B Bs).1)]) ⟨hx, hb, hml, hown, hts⟩ (zc_X3_dividend l D cA mo M Nm h h0.2.2.1.2) (cwV 0 hts gL_law_X3_dividend rfl rfl rfl zy_X3_dividend ⟨(Nat.le_of_ble_eq_true rfl), (Nat.le_of_ble_eq_true rfl)⟩) (z_preVq (ci := 3) (q0 := 0) hK (zR_P hP) (zR_D hD) rfl rfl) rfl rfl hl.1 rfl (lv_room (Nat.le_of_ble_eq_true rfl)) dL_law_717 ⟨by show k0 + 0 ≤ 601024; omega, by show n0 + 0 ≤ 7293034; omega⟩) hP hD hS moW_adr rfl (fun H locs hP hD hS => ?_)
  have q := zs_dividend h0 (by omega)
  refine lv_icmp_eq (tgt := 1731) hx hb dL_law_720 (by decide) (fun _ => ?_) (fun c9 => absurd q.1.symm c9)
  refine W.widen (k := cK) (n := nK) (by omega) (by omega) ?_
  exact kt _ _ _ _ _ _ _ _ _ _ _ _ (lv_sub hl [0, 1, 2, 3, 4] rfl) hP hD hS (q.2.mono (by omega))
set_option maxHeartbeats 4000000 in
set_option maxRecDepth 100000 in
theorem zca_clearBuffer {p : Program} {l : Launch} {e : Env} {s : State} {m : MethodId} {below : List Frame} {meth : Method} {c : Code} {H : Heap} {locs : List Loc} {k0 n0 cK nK : Nat} {Q : State → Prop} {ls : Array Slot} {b L i : Nat} {xs : Nat → Int32} {D : va_G} {cA : Nat → ClassId} {o rd : Nat} {f : Nat → Int64} {bb : Nat → Nat → Nat} {r x mo : Nat → Nat} {X : BK} {N : NK} {B : BK} {Bs : Nat → BK} {M : BK} {Nm : Nat → Nat} {h : Int64} {K : Int} (E : zEv p l s m c b L xs D cA) (hi : i + 3 < L) (hcK : k0 + 4 ≤ cK ∧ n0 + 24 ≤ nK ∧ cK ≤ 601024 ∧ nK ≤ 7293034) (h0 : zL K r N B X Bs M Nm) (hK9 : K + 620000 ≤ 2 ^ 29) (hl : lv_has ls 9 [(0, .ref b), (1, .ref (x 0)), (2, .ref (mo 0)), (3, .ref o), (4, .int (nI i))]) (hP : va_P D vwCl ((ouW cA o f ++ unW cA x bb rd r X N B Bs) ++ moW cA mo M Nm h) H) (hD : va_D (fun q => s.heap.size ≤ q) ((ouW cA o f ++ unW cA x bb rd r X N B Bs) ++ moW cA mo M Nm h)) (hS : va_S (fun q => s.heap.size ≤ q) s.heap H locs) (kt : zKt p l e s m below meth c b i D cA o bb rd x mo (K + 620000) cK nK Q) : W p l e room_1 s m #[.ref b] below meth c H locs k0 n0 Q (F0 m 849 ls []) := by
  obtain ⟨hx, hb, hml, hown, hts, hX, hbl, hL, hK, hO, hn, hfl⟩ := E
  have hbA : ¬ (fun q => s.heap.size ≤ q) b := Nat.not_le.mpr hbl
  refine lv_aload_n hx hb dL_law_849 rfl (lv_at hl 1 rfl) ?_
  have hPx := hP
  have hDx := hD
  rw [zl_B] at hPx hDx
  refine z_M (X := (ouW cA o f ++ rdW rd r)) (Z := ((bkW (cA 0) (bb 0) B ++ otW (cA 0) bb Bs) ++ moW cA mo M Nm h)) (va_runV (As := []) (rest := []) ⟨hx, hb, hml, hown, hts⟩ (zc_X2_clearBuffer l D cA bb rd x X N (by have := h0.2.2.2.1; omega)) (cwV 0 hts gL_law_X2_clearBuffer rfl rfl rfl zy_X2_clearBuffer ⟨(Nat.le_of_ble_eq_true rfl), (Nat.le_of_ble_eq_true rfl)⟩) (z_preVq (ci := 2) (q0 := 0) hK (zmid_P hPx) (zmid_D hDx) rfl rfl) rfl rfl hl.1 rfl (lv_room (Nat.le_of_ble_eq_true rfl)) dL_law_850 ⟨by show k0 + 0 ≤ 601024; omega, by show n0 + 0 ≤ 7293034; omega⟩) hPx hDx hS xmW_adr rfl (fun H locs hP hD hS => ?_)
  rw [← zl_B] at hP hD
  refine lv_aload_n hx hb dL_law_853 rfl (lv_at hl 2 rfl) ?_
  refine zm_M (U := ouW cA o f ++ unW cA x bb rd r X ((f_X2_clearBuffer N).2) B Bs) (w1 := moW cA mo ((f_X3_clearBuffer M Nm).2.1) ((f_X3_clearBuffer M Nm).2.2) h) (va_runV (As := []) (rest := [.int ((f_X2_clearBuffer N).1)]) ⟨hx, hb, hml, hown, hts⟩ (zc_X3_clearBuffer l D cA mo M Nm h ) (cwV 0 hts gL_law_X3_clearBuffer rfl rfl rfl zy_X3_clearBuffer ⟨(Nat.le_of_ble_eq_true rfl), (Nat.le_of_ble_eq_true rfl)⟩) (z_preVq (ci := 3) (q0 := 0) hK (zR_P hP) (zR_D hD) rfl rfl) rfl rfl hl.1 rfl (lv_room (Nat.le_of_ble_eq_true rfl)) dL_law_854 ⟨by show k0 + 0 ≤ 601024; omega, by show n0 + 0 ≤ 7293034; omega⟩) hP hD hS moW_adr rfl (fun H locs hP hD hS => ?_)
  have q := zs_clear h0
  refine lv_icmp_eq (tgt := 1731) hx hb dL_law_857 (by decide) (fun _ => ?_) (fun c9 => absurd q.1.symm c9)
  refine W.widen (k := cK) (n := nK) (by omega) (by omega) ?_
  exact kt _ _ _ _ _ _ _ _ _ _ _ _ (lv_sub hl [0, 1, 2, 3, 4] rfl) hP hD hS (q.2.mono (by omega))
set_option maxHeartbeats 4000000 in
set_option maxRecDepth 100000 in
theorem zca_firstError {p : Program} {l : Launch} {e : Env} {s : State} {m : MethodId} {below : List Frame} {meth : Method} {c : Code} {H : Heap} {locs : List Loc} {k0 n0 cK nK : Nat} {Q : State → Prop} {ls : Array Slot} {b L i : Nat} {xs : Nat → Int32} {D : va_G} {cA : Nat → ClassId} {o rd : Nat} {f : Nat → Int64} {bb : Nat → Nat → Nat} {r x mo : Nat → Nat} {X : BK} {N : NK} {B : BK} {Bs : Nat → BK} {M : BK} {Nm : Nat → Nat} {h : Int64} {K : Int} (E : zEv p l s m c b L xs D cA) (hi : i + 3 < L) (hcK : k0 + 4 ≤ cK ∧ n0 + 24 ≤ nK ∧ cK ≤ 601024 ∧ nK ≤ 7293034) (h0 : zL K r N B X Bs M Nm) (hK9 : K + 620000 ≤ 2 ^ 29) (hl : lv_has ls 9 [(0, .ref b), (1, .ref (x 0)), (2, .ref (mo 0)), (3, .ref o), (4, .int (nI i))]) (hP : va_P D vwCl ((ouW cA o f ++ unW cA x bb rd r X N B Bs) ++ moW cA mo M Nm h) H) (hD : va_D (fun q => s.heap.size ≤ q) ((ouW cA o f ++ unW cA x bb rd r X N B Bs) ++ moW cA mo M Nm h)) (hS : va_S (fun q => s.heap.size ≤ q) s.heap H locs) (kt : zKt p l e s m below meth c b i D cA o bb rd x mo (K + 620000) cK nK Q) : W p l e room_1 s m #[.ref b] below meth c H locs k0 n0 Q (F0 m 862 ls []) := by
  obtain ⟨hx, hb, hml, hown, hts, hX, hbl, hL, hK, hO, hn, hfl⟩ := E
  have hbA : ¬ (fun q => s.heap.size ≤ q) b := Nat.not_le.mpr hbl
  refine lv_aload_n hx hb dL_law_862 rfl (lv_at hl 1 rfl) ?_
  have hPx := hP
  have hDx := hD
  rw [zl_E] at hPx hDx
  refine z_M (X := ouW cA o f) (Z := ((bkW (cA 0) (bb 0) B ++ otW (cA 0) bb Bs) ++ moW cA mo M Nm h)) (va_runV (As := []) (rest := []) ⟨hx, hb, hml, hown, hts⟩ (zc_X2_firstError l D cA bb rd r x X N (by have := h0.2.2.2.1; omega) (zl_bs h0) (zl_ri h0)) (cwV 0 hts gL_law_X2_firstError rfl rfl rfl zy_X2_firstError ⟨(Nat.le_of_ble_eq_true rfl), (Nat.le_of_ble_eq_true rfl)⟩) (z_preVq (ci := 2) (q0 := 1) hK (zmid_P hPx) (zmid_D hDx) rfl rfl) rfl rfl hl.1 rfl (lv_room (Nat.le_of_ble_eq_true rfl)) dL_law_863 ⟨by show k0 + 0 ≤ 601024; omega, by show n0 + 0 ≤ 7293034; omega⟩) hPx hDx hS (z_adr2 rdW_adr xmW_adr) rfl (fun H locs hP hD hS => ?_)
  rw [← zl_E] at hP hD
  refine lv_aload_n hx hb dL_law_866 rfl (lv_at hl 2 rfl) ?_
  refine zm_M (U := ouW cA o f ++ unW cA x bb rd ((f_X2_firstError r N).2) X N B Bs) (w1 := moW cA mo ((f_X3_firstError M Nm).2.1) ((f_X3_firstError M Nm).2.2) h) (va_runV (As := []) (rest := [.int ((f_X2_firstError r N).1)]) ⟨hx, hb, hml, hown, hts⟩ (zc_X3_firstError l D cA mo M Nm h h0.2.2.2.1.2) (cwV 0 hts gL_law_X3_firstError rfl rfl rfl zy_X3_firstError ⟨(Nat.le_of_ble_eq_true rfl), (Nat.le_of_ble_eq_true rfl)⟩) (z_preVq (ci := 3) (q0 := 0) hK (zR_P hP) (zR_D hD) rfl rfl) rfl rfl hl.1 rfl (lv_room (Nat.le_of_ble_eq_true rfl)) dL_law_867 ⟨by show k0 + 0 ≤ 601024; omega, by show n0 + 0 ≤ 7293034; omega⟩) hP hD hS moW_adr rfl (fun H locs hP hD hS => ?_)
  have q := zs_firstError h0
  refine lv_icmp_eq (tgt := 1731) hx hb dL_law_870 (by decide) (fun _ => ?_) (fun c9 => absurd q.1.symm c9)
  refine W.widen (k := cK) (n := nK) (by omega) (by omega) ?_
  exact kt _ _ _ _ _ _ _ _ _ _ _ _ (lv_sub hl [0, 1, 2, 3, 4] rfl) hP hD hS (q.2.mono (by omega))
set_option maxHeartbeats 4000000 in
set_option maxRecDepth 100000 in
theorem zca_riskiest {p : Program} {l : Launch} {e : Env} {s : State} {m : MethodId} {below : List Frame} {meth : Method} {c : Code} {H : Heap} {locs : List Loc} {k0 n0 cK nK : Nat} {Q : State → Prop} {ls : Array Slot} {b L i : Nat} {xs : Nat → Int32} {D : va_G} {cA : Nat → ClassId} {o rd : Nat} {f : Nat → Int64} {bb : Nat → Nat → Nat} {r x mo : Nat → Nat} {X : BK} {N : NK} {B : BK} {Bs : Nat → BK} {M : BK} {Nm : Nat → Nat} {h : Int64} {K : Int} (E : zEv p l s m c b L xs D cA) (hi : i + 3 < L) (hcK : k0 + 4 ≤ cK ∧ n0 + 24 ≤ nK ∧ cK ≤ 601024 ∧ nK ≤ 7293034) (h0 : zL K r N B X Bs M Nm) (hK9 : K + 620000 ≤ 2 ^ 29) (hl : lv_has ls 9 [(0, .ref b), (1, .ref (x 0)), (2, .ref (mo 0)), (3, .ref o), (4, .int (nI i))]) (hP : va_P D vwCl ((ouW cA o f ++ unW cA x bb rd r X N B Bs) ++ moW cA mo M Nm h) H) (hD : va_D (fun q => s.heap.size ≤ q) ((ouW cA o f ++ unW cA x bb rd r X N B Bs) ++ moW cA mo M Nm h)) (hS : va_S (fun q => s.heap.size ≤ q) s.heap H locs) (kt : zKt p l e s m below meth c b i D cA o bb rd x mo (K + 620000) cK nK Q) : W p l e room_1 s m #[.ref b] below meth c H locs k0 n0 Q (F0 m 1663 ls []) := by
  obtain ⟨hx, hb, hml, hown, hts, hX, hbl, hL, hK, hO, hn, hfl⟩ := E
  have hbA : ¬ (fun q => s.heap.size ≤ q) b := Nat.not_le.mpr hbl
  refine lv_aload_n hx hb dL_law_1663 rfl (lv_at hl 1 rfl) ?_
  have hPx := hP
  have hDx := hD
  rw [zl_C] at hPx hDx
  refine z_E (va_runV (As := []) (rest := []) ⟨hx, hb, hml, hown, hts⟩ (zc_X2_riskiest l D cA bb rd x X N B ) (cwV 0 hts gL_law_X2_riskiest rfl rfl rfl zy_X2_riskiest ⟨(Nat.le_of_ble_eq_true rfl), (Nat.le_of_ble_eq_true rfl)⟩) (z_preVq (ci := 2) (q0 := 0) hK (zmid_P hPx) (zmid_D hDx) rfl rfl) rfl rfl hl.1 rfl (lv_room (Nat.le_of_ble_eq_true rfl)) dL_law_1664 ⟨by show k0 + 0 ≤ 601024; omega, by show n0 + 0 ≤ 7293034; omega⟩) rfl ?_
  refine lv_aload_n hx hb dL_law_1667 rfl (lv_at hl 2 rfl) ?_
  refine zm_M (U := ouW cA o f ++ unW cA x bb rd r X N B Bs) (w1 := moW cA mo ((f_X3_riskiest M).2) Nm h) (va_runV (As := []) (rest := [.int (f_X2_riskiest B)]) ⟨hx, hb, hml, hown, hts⟩ (zc_X3_riskiest l D cA mo M Nm h ) (cwV 0 hts gL_law_X3_riskiest rfl rfl rfl zy_X3_riskiest ⟨(Nat.le_of_ble_eq_true rfl), (Nat.le_of_ble_eq_true rfl)⟩) (z_preVq (ci := 3) (q0 := 0) hK (zR_P hP) (zR_D hD) rfl rfl) rfl rfl hl.1 rfl (lv_room (Nat.le_of_ble_eq_true rfl)) dL_law_1668 ⟨by show k0 + 0 ≤ 601024; omega, by show n0 + 0 ≤ 7293034; omega⟩) hP hD hS moW_adr rfl (fun H locs hP hD hS => ?_)
  have q := zs_riskiest h0
  refine lv_icmp_eq (tgt := 1731) hx hb dL_law_1671 (by decide) (fun _ => ?_) (fun c9 => absurd q.1.symm c9)
  refine W.widen (k := cK) (n := nK) (by omega) (by omega) ?_
  exact kt _ _ _ _ _ _ _ _ _ _ _ _ (lv_sub hl [0, 1, 2, 3, 4] rfl) hP hD hS (q.2.mono (by omega))
set_option maxHeartbeats 4000000 in
set_option maxRecDepth 100000 in
theorem zca_lentShare {p : Program} {l : Launch} {e : Env} {s : State} {m : MethodId} {below : List Frame} {meth : Method} {c : Code} {H : Heap} {locs : List Loc} {k0 n0 cK nK : Nat} {Q : State → Prop} {ls : Array Slot} {b L i : Nat} {xs : Nat → Int32} {D : va_G} {cA : Nat → ClassId} {o rd : Nat} {f : Nat → Int64} {bb : Nat → Nat → Nat} {r x mo : Nat → Nat} {X : BK} {N : NK} {B : BK} {Bs : Nat → BK} {M : BK} {Nm : Nat → Nat} {h : Int64} {K : Int} (E : zEv p l s m c b L xs D cA) (hi : i + 3 < L) (hcK : k0 + 4 ≤ cK ∧ n0 + 24 ≤ nK ∧ cK ≤ 601024 ∧ nK ≤ 7293034) (h0 : zL K r N B X Bs M Nm) (hK9 : K + 620000 ≤ 2 ^ 29) (hl : lv_has ls 9 [(0, .ref b), (1, .ref (x 0)), (2, .ref (mo 0)), (3, .ref o), (4, .int (nI i))]) (hP : va_P D vwCl ((ouW cA o f ++ unW cA x bb rd r X N B Bs) ++ moW cA mo M Nm h) H) (hD : va_D (fun q => s.heap.size ≤ q) ((ouW cA o f ++ unW cA x bb rd r X N B Bs) ++ moW cA mo M Nm h)) (hS : va_S (fun q => s.heap.size ≤ q) s.heap H locs) (kt : zKt p l e s m below meth c b i D cA o bb rd x mo (K + 620000) cK nK Q) : W p l e room_1 s m #[.ref b] below meth c H locs k0 n0 Q (F0 m 1676 ls []) := by
  obtain ⟨hx, hb, hml, hown, hts, hX, hbl, hL, hK, hO, hn, hfl⟩ := E
  have hbA : ¬ (fun q => s.heap.size ≤ q) b := Nat.not_le.mpr hbl
  have hz := zlent h0.1 h0.2.1 (by omega)
  refine lv_aload_n hx hb dL_law_1676 rfl (lv_at hl 1 rfl) ?_
  have hPx := hP
  have hDx := hD
  rw [zl_C] at hPx hDx
  refine z_E (va_runV (As := []) (rest := []) ⟨hx, hb, hml, hown, hts⟩ (zc_X2_lentShare l D cA bb rd x X N B hz.2.2.2.1 hz.2.2.2.2.1) (cwV 0 hts gL_law_X2_lentShare rfl rfl rfl zy_X2_lentShare ⟨(Nat.le_of_ble_eq_true rfl), (Nat.le_of_ble_eq_true rfl)⟩) (z_preVq (ci := 2) (q0 := 0) hK (zmid_P hPx) (zmid_D hDx) rfl rfl) rfl rfl hl.1 rfl (lv_room (Nat.le_of_ble_eq_true rfl)) dL_law_1677 ⟨by show k0 + 0 ≤ 601024; omega, by show n0 + 0 ≤ 7293034; omega⟩) rfl ?_
  refine lv_dstore (lv' := [(5, .double (f_X2_lentShare B)), (0, .ref b), (1, .ref (x 0)), (2, .ref (mo 0)), (3, .ref o), (4, .int (nI i))]) hx hb dL_law_1680 hl (by decide) rfl (fun ls hl => ?_)
  refine lv_aload_n hx hb dL_law_1682 rfl (lv_at hl 3 rfl) ?_
  refine zm_M (U := ouW cA o f ++ unW cA x bb rd r X N B Bs) (w1 := moW cA mo ((f_X3_lentShare M).2) Nm h) (va_runV (As := []) (rest := []) ⟨hx, hb, hml, hown, hts⟩ (zc_X3_lentShare l D cA mo M Nm h hz.2.1 hz.2.2.1) (cwV 0 hts gL_law_X3_lentShare rfl rfl rfl zy_X3_lentShare ⟨(Nat.le_of_ble_eq_true rfl), (Nat.le_of_ble_eq_true rfl)⟩) (z_preVq (ci := 3) (q0 := 0) hK (zR_P hP) (zR_D hD) rfl rfl) rfl rfl hl.1 rfl (lv_room (Nat.le_of_ble_eq_true rfl)) dL_law_1683 ⟨by show k0 + 0 ≤ 601024; omega, by show n0 + 0 ≤ 7293034; omega⟩) hP hD hS moW_adr rfl (fun H locs hP hD hS => ?_)
  have q := zs_lentShare h0 (by omega)
  refine lv_dstore (lv' := [(7, .double ((f_X3_lentShare M).1)), (5, .double (f_X2_lentShare B)), (0, .ref b), (1, .ref (x 0)), (2, .ref (mo 0)), (3, .ref o), (4, .int (nI i))]) hx hb dL_law_1686 hl (by decide) rfl (fun ls hl => ?_)
  refine lv_dload hx hb dL_law_1688 (lv_at hl 1 rfl) ?_
  refine lv_dload hx hb dL_law_1690 (lv_at hl 0 rfl) ?_
  refine lv_dcmp hx hb dL_law_1692 ?_
  refine z_top (y := 0) (by rw [q.1]; exact zd_refl hz.2.2.2.2.2) ?_
  refine lv_if_eq (tgt := 1714) hx hb dL_law_1693 (by decide) (fun _ => ?_) (fun c8 => absurd rfl c8)
  refine lv_goto (tgt := 1731) hx hb dL_law_1714 (by decide) ?_
  refine W.widen (k := cK) (n := nK) (by omega) (by omega) ?_
  exact kt _ _ _ _ _ _ _ _ _ _ _ _ (lv_sub hl [2, 3, 4, 5, 6] rfl) hP hD hS (q.2.mono (by omega))
set_option maxHeartbeats 4000000 in
set_option maxRecDepth 100000 in
theorem zca_digest {p : Program} {l : Launch} {e : Env} {s : State} {m : MethodId} {below : List Frame} {meth : Method} {c : Code} {H : Heap} {locs : List Loc} {k0 n0 cK nK : Nat} {Q : State → Prop} {ls : Array Slot} {b L i : Nat} {xs : Nat → Int32} {D : va_G} {cA : Nat → ClassId} {o rd : Nat} {f : Nat → Int64} {bb : Nat → Nat → Nat} {r x mo : Nat → Nat} {X : BK} {N : NK} {B : BK} {Bs : Nat → BK} {M : BK} {Nm : Nat → Nat} {h : Int64} {K : Int} (E : zEv p l s m c b L xs D cA) (hi : i + 3 < L) (hcK : k0 + 4 ≤ cK ∧ n0 + 24 ≤ nK ∧ cK ≤ 601024 ∧ nK ≤ 7293034) (h0 : zL K r N B X Bs M Nm) (hK9 : K + 620000 ≤ 2 ^ 29) (hl : lv_has ls 9 [(0, .ref b), (1, .ref (x 0)), (2, .ref (mo 0)), (3, .ref o), (4, .int (nI i))]) (hP : va_P D vwCl ((ouW cA o f ++ unW cA x bb rd r X N B Bs) ++ moW cA mo M Nm h) H) (hD : va_D (fun q => s.heap.size ≤ q) ((ouW cA o f ++ unW cA x bb rd r X N B Bs) ++ moW cA mo M Nm h)) (hS : va_S (fun q => s.heap.size ≤ q) s.heap H locs) (kt : zKt p l e s m below meth c b i D cA o bb rd x mo (K + 620000) cK nK Q) : W p l e room_1 s m #[.ref b] below meth c H locs k0 n0 Q (F0 m 1717 ls []) := by
  obtain ⟨hx, hb, hml, hown, hts, hX, hbl, hL, hK, hO, hn, hfl⟩ := E
  have hbA : ¬ (fun q => s.heap.size ≤ q) b := Nat.not_le.mpr hbl
  have hz := zlent h0.1 h0.2.1 (by omega)
  refine lv_aload_n hx hb dL_law_1717 rfl (lv_at hl 1 rfl) ?_
  have hPx := hP
  have hDx := hD
  rw [zl_C] at hPx hDx
  refine z_M (X := (ouW cA o f ++ rdW rd r)) (Z := (otW (cA 0) bb Bs ++ moW cA mo M Nm h)) (va_runV (As := []) (rest := []) ⟨hx, hb, hml, hown, hts⟩ (zc_X2_digest l D cA bb rd x X N B (by have := h0.2.2.2.1; omega) hz.2.2.2.1 hz.2.2.2.2.1 hz.2.2.2.2.2) (cwV 0 hts gL_law_X2_digest rfl rfl rfl zy_X2_digest ⟨(Nat.le_of_ble_eq_true rfl), (Nat.le_of_ble_eq_true rfl)⟩) (z_preVq (ci := 2) (q0 := 0) hK (zmid_P hPx) (zmid_D hDx) rfl rfl) rfl rfl hl.1 rfl (lv_room (Nat.le_of_ble_eq_true rfl)) dL_law_1718 ⟨by show k0 + 0 ≤ 601024; omega, by show n0 + 0 ≤ 7293034; omega⟩) hPx hDx hS (z_adr2 xmW_adr bkW_adr) rfl (fun H locs hP hD hS => ?_)
  rw [← zl_C] at hP hD
  refine lv_aload_n hx hb dL_law_1721 rfl (lv_at hl 2 rfl) ?_
  refine zm_M (U := ouW cA o f ++ unW cA x bb rd r ((f_X2_digest X N B).2) N B Bs) (w1 := moW cA mo ((f_X3_digest M Nm).2.1) Nm ((f_X3_digest M Nm).2.2)) (va_runV (As := []) (rest := [.long ((f_X2_digest X N B).1)]) ⟨hx, hb, hml, hown, hts⟩ (zc_X3_digest l D cA mo M Nm h h0.2.2.2.1.2 (zl_pt h0) hz.2.1 hz.2.2.1 (by rw [hz.1]; exact hz.2.2.2.2.2)) (cwV 0 hts gL_law_X3_digest rfl rfl rfl zy_X3_digest ⟨(Nat.le_of_ble_eq_true rfl), (Nat.le_of_ble_eq_true rfl)⟩) (z_preVq (ci := 3) (q0 := 0) hK (zR_P hP) (zR_D hD) rfl rfl) rfl rfl hl.1 rfl (lv_room (Nat.le_of_ble_eq_true rfl)) dL_law_1722 ⟨by show k0 + 0 ≤ 601024; omega, by show n0 + 0 ≤ 7293034; omega⟩) hP hD hS moW_adr rfl (fun H locs hP hD hS => ?_)
  have q := zs_digest h0 (by omega)
  refine W.lcmp hx hb dL_law_1725 ?_
  refine z_top (y := 0) (by rw [q.1]; exact zlc_eq _) ?_
  refine lv_if_eq (tgt := 1731) hx hb dL_law_1726 (by decide) (fun _ => ?_) (fun c8 => absurd rfl c8)
  refine W.widen (k := cK) (n := nK) (by omega) (by omega) ?_
  exact kt _ _ _ _ _ _ _ _ _ _ _ _ (lv_sub hl [0, 1, 2, 3, 4] rfl) hP hD hS (q.2.mono (by omega))
end
