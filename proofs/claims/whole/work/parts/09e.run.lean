theorem zy_X2_run : yX2_run.cls = RX2 ∧ yX2_run.cls ≠ "java/lang/invoke/MethodHandle" ∧ yX2_run.cls ≠ "java/lang/invoke/VarHandle" ∧ (parseMethodDescriptor yX2_run.desc).map (fun d => d.parameters.length) = some 0 := by decide +kernel
def f_X2_run (r : Nat → Nat) (N : NK) (B : BK) (Bs : Nat → BK) : Int32 × (Nat → Nat) × NK × BK × (Nat → BK) :=
  let N_1 : Nat → Nat := (f_X2_readToError r N).2
      let N_4 : NK := (f_X2_saveState N B Bs).1
      let M_5 : Nat → BK := (f_X2_saveState N B Bs).2
      let N_6 : Nat → Nat := (f_X2_doOrders N_1 N_4 B).2.1
      let M_7 : BK := (f_X2_doOrders N_1 N_4 B).2.2
      ((f_X2_doOrders N_1 N_4 B).1, N_6, uN N_4 0 1 0, M_7, M_5)

theorem zr_rte9 (r : Nat → Nat) (N : NK) (hbs : ∀ i, i < N 0 1 → N 2 i < 128) : ∀ (k q : Nat) (r1 : Nat → Nat), zRI r1 → zRI (f_X2_readToError_9 r N k q r1).2 := by
  intro k
  induction k with
  | zero => intro q r1 h; exact h
  | succ k ih =>
    intro q r1 h
    unfold f_X2_readToError_9
    dsimp only
    by_cases c : N 0 1 ≤ q
    · rw [if_pos c]; exact h
    · have ht := zr_take h (hbs q (by omega))
      rw [if_neg c]
      exact zif (fun (x : Int32 × (Nat → Nat)) => zRI x.2) (fun _ => ht) (fun _ => ih _ _ ht)
theorem zr_rte {r : Nat → Nat} {N : NK} (h : zRI r) (hbs : ∀ i, i < N 0 1 → N 2 i < 128) : zRI (f_X2_readToError r N).2 := zr_rte9 r N hbs _ _ _ (zr_restart h)
theorem zn_do01 (N : NK) : ∀ (k q : Nat) (N1 : NK), N1 0 1 = N 0 1 ∧ N1 2 = N 2 → (f_X2_dropOldest_9 N k q N1) 0 1 = N 0 1 ∧ (f_X2_dropOldest_9 N k q N1) 2 = N 2 := by
  intro k
  induction k with
  | zero => intro q N1 h; exact h
  | succ k ih =>
    intro q N1 h
    unfold f_X2_dropOldest_9
    by_cases c : 6 ≤ q
    · rw [if_pos c]; exact h
    · rw [if_neg c]; exact ih _ _ h
theorem zn_save (N : NK) (B : BK) (Bs : Nat → BK) : (f_X2_saveState N B Bs).1 0 1 = N 0 1 ∧ (f_X2_saveState N B Bs).1 2 = N 2 := by
  unfold f_X2_saveState
  dsimp only
  exact zif (fun (x : NK × (Nat → BK)) => x.1 0 1 = N 0 1 ∧ x.1 2 = N 2) (fun _ => ⟨rfl, rfl⟩) (fun _ => zn_do01 N _ _ _ ⟨rfl, rfl⟩)
theorem zrs_same {N N' : NK} (h : N' 2 = N 2) (r : Nat → Nat) : ∀ i, zrs N' r i = zrs N r i
  | 0 => rfl
  | i + 1 => by
    show (f_X1_take (zrs N' r i) (N' 2 i)).2 = (f_X1_take (zrs N r i) (N 2 i)).2
    rw [zrs_same h r i, h]
theorem zall_same {N N' : NK} (h1 : N' 0 1 = N 0 1) (h2 : N' 2 = N 2) {r : Nat → Nat} (h : zall N r) : zall N' r := by
  unfold zall at h ⊢
  rw [h1, zrs_same h2, h2]
  exact ⟨fun i hi => by rw [zrs_same h2]; exact h.1 i hi, h.2⟩

set_option maxHeartbeats 4000000 in
set_option maxRecDepth 100000 in
theorem zk_X2_run (l : Launch) (hfl : l.stackTraces = false) (D : va_G) (cA : Nat → ClassId) (b : Nat → Nat → Nat) (rd : Nat) (r : Nat → Nat) (x : Nat → Nat) (X : BK) (N : NK) (B : BK) (Bs : Nat → BK) (hbl : N 0 1 ≤ 60) (hbs : ∀ i, i < N 0 1 → N 2 i < 128) (hri : zRI r) (hpm : zpm N) (hsv2 : N 0 0 ≤ 6) (hall : ¬ (f_X2_readToError r N).1 < nI (N 0 1) → ¬ f_X1_isWhole ((f_X2_readToError r N).2) = 0 → zall N (f_X2_readToError r N).2) : vx_Met l yX2_run wsX2_run (zrx 7 156 1 6) (zPx D cA [.ref (x 0)] (rdW rd r ++ (xmW cA x b rd X N ++ (bkW (cA 0) (b 0) B ++ (otW (cA 0) b Bs))))) (zV (zva [((¬ (f_X2_readToError r N).1 < nI (N 0 1) ∧ ¬ f_X1_isWhole ((f_X2_readToError r N).2) = 0), zeA)]) (zM D (rdW rd r ++ (xmW cA x b rd X N ++ (bkW (cA 0) (b 0) B ++ (otW (cA 0) b Bs)))) (rdW rd ((f_X2_run r N B Bs).2.1) ++ (xmW cA x b rd X ((f_X2_run r N B Bs).2.2.1) ++ (bkW (cA 0) (b 0) ((f_X2_run r N B Bs).2.2.2.1) ++ (otW (cA 0) b ((f_X2_run r N B Bs).2.2.2.2))))) (some (.int ((f_X2_run r N B Bs).1))))) (zX D (rdW rd r ++ (xmW cA x b rd X N ++ (bkW (cA 0) (b 0) B ++ (otW (cA 0) b Bs)))) (rdW rd (f_X2_readToError r N).2 ++ (xmW cA x b rd X N ++ (bkW (cA 0) (b 0) B ++ otW (cA 0) b Bs))) (zxp [((¬ (f_X2_readToError r N).1 < nI (N 0 1) ∧ ¬ f_X1_isWhole ((f_X2_readToError r N).2) = 0), zeA)])) 1 6 (zfr (rdW rd r ++ (xmW cA x b rd X N ++ (bkW (cA 0) (b 0) B ++ (otW (cA 0) b Bs))))) := by
  refine vx_ofW (cc := cX2_run) (maxL := 2) (ret := (some .int)) (by decide) rfl ?_
  intro p e s m args below meth c s₁ Bd hml hnt hv
  obtain ⟨rfl, hP, hK, hD0, hO⟩ := hv
  have hx := Bd.exec
  have hb := Bd.bytes
  have hr := Bd.returns
  have hts := atoms_spec (ws := wsX2_run) Bd.pre
  have hown : s.vm.findClass RX2 = some m.cls := findClass_of_methodNamed Bd.named
  have hlocks := Bd.notSynchronized
  have hD := z_Dfr hD0
  have hS : va_S (zfr (rdW rd r ++ (xmW cA x b rd X N ++ (bkW (cA 0) (b 0) B ++ (otW (cA 0) b Bs))))) s.heap s.heap [] := va_S.rf
  have hi0 : ∀ w ∈ wsX00, w ∈ wsX2_run := fun w h => List.mem_cons_of_mem _ (List.mem_append_left _ (List.mem_append_right _ h))
  have hi1 : ∀ w ∈ wsX10, w ∈ wsX2_run := fun w h => List.mem_cons_of_mem _ (List.mem_append_left _ (List.mem_append_left _ (List.mem_append_right _ h)))
  have hi2 : ∀ w ∈ wsX20, w ∈ wsX2_run := fun w h => List.mem_cons_of_mem _ (List.mem_append_left _ (List.mem_append_left _ (List.mem_append_left _ (List.mem_append_right _ h))))
  have hl := lv_entry ([.ref (x 0)]) (n := 2) (Nat.le_of_ble_eq_true rfl)
  rw [lg_entry_eq]
  generalize (lg_sl ([.ref (x 0)]) ++ List.replicate (2 - (lg_sl ([.ref (x 0)])).length) Slot.unset).toArray = ls at hl ⊢
  have hl : lv_has ls 2 [(0, .ref (x 0))] := hl
  refine lv_aload_n hx hb dX2_run_0 rfl (lv_at hl 0 rfl) ?_
  refine z_M (X := ([] : va_W)) (Z := bkW (cA 0) (b 0) B ++ (otW (cA 0) b Bs)) (va_runV (As := []) (rest := []) ⟨hx, hb, hml, hown, hts⟩ (zc_X2_readToError l D cA b rd r x X N (by first | assumption | omega) (by first | assumption | omega) (by first | assumption | omega)) (cwV 0 hts gX2_run_X2_readToError rfl rfl rfl zy_X2_readToError ⟨Nat.le_of_ble_eq_true rfl, Nat.le_of_ble_eq_true rfl⟩) (z_preVq (ci := 2) (q0 := 1) hK (hP.sub (ws' := rdW rd r ++ (xmW cA x b rd X N)) [0, 1, 2, 3, 4, 5, 6] rfl) (hD.sub (ws' := rdW rd r ++ (xmW cA x b rd X N)) [0, 1, 2, 3, 4, 5, 6] (by decide) rfl) rfl rfl) rfl rfl hl.1 rfl (lv_room (Nat.le_of_ble_eq_true rfl)) dX2_run_1 ⟨Nat.le_of_ble_eq_true rfl, Nat.le_of_ble_eq_true rfl⟩) hP hD hS (z_adr2 rdW_adr xmW_adr) rfl (fun H locs hP9 hD9 hS9 => ?_)
  replace hP : va_P D vwCl (rdW rd ((f_X2_readToError r N).2) ++ (xmW cA x b rd X N ++ (bkW (cA 0) (b 0) B ++ (otW (cA 0) b Bs)))) H := hP9
  replace hD : va_D _ (rdW rd ((f_X2_readToError r N).2) ++ (xmW cA x b rd X N ++ (bkW (cA 0) (b 0) B ++ (otW (cA 0) b Bs)))) := hD9
  replace hS := hS9
  clear hP9 hD9 hS9
  obtain ⟨N_1, eN_1⟩ : ∃ z9 : Nat → Nat, z9 = (f_X2_readToError r N).2 := ⟨_, rfl⟩
  rw [← eN_1] at hP hD
  refine lv_aload_n hx hb dX2_run_4 rfl (lv_at hl 0 rfl) ?_
  refine va_get (D := D) (ci := 2) (v := .int (nI (N 0 1))) (C := RX2) (T := TX2) (N := 9) hx hb hts hi2 hown hK hP 1 rfl rfl 6 (by decide) (hts (.fieldLink RX2 114 "PledgedLoans" "bufferLength" "I") (List.mem_of_getElem? (i := 3) rfl)) (fun _ h9 => h9) rfl dX2_run_5 ?_
  refine lv_icmp_lt (tgt := 21) hx hb dX2_run_8 (by decide) (fun c_2 => ?_) (fun c_2 => ?_)
  · subst eN_1; exact zx_throw (w := rdW rd r ++ (xmW cA x b rd X N ++ (bkW (cA 0) (b 0) B ++ (otW (cA 0) b Bs)))) (cls := zeA) (text := "no orders as a text") (ik := 126) (is := 128) (ic := 130) hx hb hfl hown (by decide +kernel) (hts (.classLink RX2 126 "java/lang/IllegalArgumentException") (List.mem_of_getElem? (i := 1) rfl)) (hts (.initialized "java/lang/IllegalArgumentException") (List.mem_of_getElem? (i := 2) rfl)) hO (by decide) (fun x h8 => hts x ((fun w h => List.mem_cons_of_mem _ (List.mem_append_right _ h)) x h8)) zt_ngA hO.2.2.2.2.1 zt_otA hS (by rw [hml]; exact hl.1) dX2_run_21 dX2_run_24 dX2_run_25 dX2_run_27 dX2_run_30 hnt (Nat.le_of_ble_eq_true rfl) (Nat.le_of_ble_eq_true rfl) (Nat.le_of_ble_eq_true rfl) (Nat.le_of_ble_eq_true rfl) hlocks hP (zxp_mid (pre := []) (vc := [((¬ (f_X2_readToError r N).1 < nI (N 0 1) ∧ ¬ f_X1_isWhole ((f_X2_readToError r N).2) = 0), zeA)]) (suf := []) trivial (Or.inl ⟨(by first | exact (fun h => h.1 c_2) | exact (fun h => h.2 c_2)), rfl⟩)) (Nat.le_of_ble_eq_true rfl) (Nat.le_of_ble_eq_true rfl)
  · refine lv_aload_n hx hb dX2_run_11 rfl (lv_at hl 0 rfl) ?_
    refine va_get (D := D) (ci := 2) (v := .ref rd) (C := RX2) (T := TX2) (N := 9) hx hb hts hi2 hown hK hP 1 rfl rfl 7 (by decide) (hts (.fieldLink RX2 34 "PledgedLoans" "reader" "LPledgedLoans$OrderReader;") (List.mem_of_getElem? (i := 4) rfl)) (fun _ h9 => h9) rfl dX2_run_12 ?_
    refine z_E (va_runV (As := []) (rest := []) ⟨hx, hb, hml, hown, hts⟩ (zc_X1_isWhole l D cA rd N_1 (by rw [eN_1]; exact zr_rte hri hbs)) (cwV 0 hts gX2_run_X1_isWhole rfl rfl rfl zy_X1_isWhole ⟨Nat.le_of_ble_eq_true rfl, Nat.le_of_ble_eq_true rfl⟩) (z_preV (ci := 1) hK (hP.sub (ws' := rdW rd N_1) [0] rfl) (hD.sub (ws' := rdW rd N_1) [0] (by decide) rfl) rfl rfl) rfl rfl hl.1 rfl (lv_room (Nat.le_of_ble_eq_true rfl)) dX2_run_15 ⟨Nat.le_of_ble_eq_true rfl, Nat.le_of_ble_eq_true rfl⟩) rfl ?_
    refine lv_if_ne (tgt := 31) hx hb dX2_run_18 (by decide) (fun c_3 => ?_) (fun c_3 => ?_)
    · refine lv_aload_n hx hb dX2_run_31 rfl (lv_at hl 0 rfl) ?_
      refine z_M (X := rdW rd N_1) (Z := ([] : va_W)) (va_runV (As := []) (rest := []) ⟨hx, hb, hml, hown, hts⟩ (zc_X2_saveState l D cA b rd x X N B Bs (by first | assumption | omega) (by first | assumption | omega)) (cwV 0 hts gX2_run_X2_saveState rfl rfl rfl zy_X2_saveState ⟨Nat.le_of_ble_eq_true rfl, Nat.le_of_ble_eq_true rfl⟩) (z_preV (ci := 2) hK (hP.sub (ws' := xmW cA x b rd X N ++ (bkW (cA 0) (b 0) B ++ (otW (cA 0) b Bs))) [1, 2, 3, 4, 5, 6, 7, 8, 9, 10, 11, 12, 13, 14, 15, 16, 17, 18, 19, 20, 21, 22, 23, 24, 25, 26, 27, 28, 29, 30, 31, 32, 33, 34, 35, 36, 37, 38, 39, 40, 41, 42, 43, 44, 45, 46, 47, 48, 49, 50, 51, 52, 53, 54, 55, 56, 57, 58, 59, 60, 61, 62, 63, 64, 65, 66, 67, 68, 69, 70, 71, 72, 73, 74, 75, 76, 77, 78, 79, 80, 81, 82, 83, 84, 85, 86, 87] rfl) (hD.sub (ws' := xmW cA x b rd X N ++ (bkW (cA 0) (b 0) B ++ (otW (cA 0) b Bs))) [1, 2, 3, 4, 5, 6, 7, 8, 9, 10, 11, 12, 13, 14, 15, 16, 17, 18, 19, 20, 21, 22, 23, 24, 25, 26, 27, 28, 29, 30, 31, 32, 33, 34, 35, 36, 37, 38, 39, 40, 41, 42, 43, 44, 45, 46, 47, 48, 49, 50, 51, 52, 53, 54, 55, 56, 57, 58, 59, 60, 61, 62, 63, 64, 65, 66, 67, 68, 69, 70, 71, 72, 73, 74, 75, 76, 77, 78, 79, 80, 81, 82, 83, 84, 85, 86, 87] (by decide) rfl) rfl rfl) rfl rfl hl.1 rfl (lv_room (Nat.le_of_ble_eq_true rfl)) dX2_run_32 ⟨Nat.le_of_ble_eq_true rfl, Nat.le_of_ble_eq_true rfl⟩) hP hD hS (z_adr2 xmW_adr (z_adr2 bkW_adr otW_adr)) rfl (fun H locs hP9 hD9 hS9 => ?_)
      replace hP : va_P D vwCl (rdW rd N_1 ++ (xmW cA x b rd X ((f_X2_saveState N B Bs).1) ++ (bkW (cA 0) (b 0) B ++ (otW (cA 0) b ((f_X2_saveState N B Bs).2))))) H := hP9
      replace hD : va_D _ (rdW rd N_1 ++ (xmW cA x b rd X ((f_X2_saveState N B Bs).1) ++ (bkW (cA 0) (b 0) B ++ (otW (cA 0) b ((f_X2_saveState N B Bs).2))))) := hD9
      replace hS := hS9
      clear hP9 hD9 hS9
      obtain ⟨N_4, eN_4⟩ : ∃ z9 : NK, z9 = (f_X2_saveState N B Bs).1 := ⟨_, rfl⟩
      rw [← eN_4] at hP hD
      obtain ⟨M_5, eM_5⟩ : ∃ z9 : Nat → BK, z9 = (f_X2_saveState N B Bs).2 := ⟨_, rfl⟩
      rw [← eM_5] at hP hD
      refine lv_aload_n hx hb dX2_run_35 rfl (lv_at hl 0 rfl) ?_
      refine z_M (X := ([] : va_W)) (Z := otW (cA 0) b M_5) (va_runV (As := []) (rest := []) ⟨hx, hb, hml, hown, hts⟩ (zc_X2_doOrders l D cA b rd N_1 x X N_4 B (by rw [eN_4, (zn_save N B Bs).1]; exact hbl) (by rw [eN_4, (zn_save N B Bs).1, (zn_save N B Bs).2]; exact hbs) (by rw [eN_1]; exact zr_rte hri hbs) (by rw [eN_4, eN_1]; exact zall_same (zn_save N B Bs).1 (zn_save N B Bs).2 (hall c_2 (by rw [← eN_1]; exact c_3)))) (cwV 0 hts gX2_run_X2_doOrders rfl rfl rfl zy_X2_doOrders ⟨Nat.le_of_ble_eq_true rfl, Nat.le_of_ble_eq_true rfl⟩) (z_preVq (ci := 2) (q0 := 1) hK (hP.sub (ws' := rdW rd N_1 ++ (xmW cA x b rd X N_4 ++ (bkW (cA 0) (b 0) B))) [0, 1, 2, 3, 4, 5, 6, 7, 8, 9, 10, 11, 12, 13, 14, 15] rfl) (hD.sub (ws' := rdW rd N_1 ++ (xmW cA x b rd X N_4 ++ (bkW (cA 0) (b 0) B))) [0, 1, 2, 3, 4, 5, 6, 7, 8, 9, 10, 11, 12, 13, 14, 15] (by decide) rfl) rfl rfl) rfl rfl hl.1 rfl (lv_room (Nat.le_of_ble_eq_true rfl)) dX2_run_36 ⟨Nat.le_of_ble_eq_true rfl, Nat.le_of_ble_eq_true rfl⟩) hP hD hS (z_adr2 rdW_adr (z_adr2 xmW_adr bkW_adr)) rfl (fun H locs hP9 hD9 hS9 => ?_)
      replace hP : va_P D vwCl (rdW rd ((f_X2_doOrders N_1 N_4 B).2.1) ++ (xmW cA x b rd X N_4 ++ (bkW (cA 0) (b 0) ((f_X2_doOrders N_1 N_4 B).2.2) ++ (otW (cA 0) b M_5)))) H := hP9
      replace hD : va_D _ (rdW rd ((f_X2_doOrders N_1 N_4 B).2.1) ++ (xmW cA x b rd X N_4 ++ (bkW (cA 0) (b 0) ((f_X2_doOrders N_1 N_4 B).2.2) ++ (otW (cA 0) b M_5)))) := hD9
      replace hS := hS9
      clear hP9 hD9 hS9
      obtain ⟨N_6, eN_6⟩ : ∃ z9 : Nat → Nat, z9 = (f_X2_doOrders N_1 N_4 B).2.1 := ⟨_, rfl⟩
      rw [← eN_6] at hP hD
      obtain ⟨M_7, eM_7⟩ : ∃ z9 : BK, z9 = (f_X2_doOrders N_1 N_4 B).2.2 := ⟨_, rfl⟩
      rw [← eM_7] at hP hD
      refine lv_istore_n (lv' := [(1, .int ((f_X2_doOrders N_1 N_4 B).1)), (0, .ref (x 0))]) hx hb dX2_run_39 rfl hl (by decide) rfl (fun ls hl => ?_)
      refine lv_aload_n hx hb dX2_run_40 rfl (lv_at hl 1 rfl) ?_
      refine lv_iconst (v := 0) hx hb dX2_run_41 (by decide) ?_
      refine va_put (D := D) (ci := 2) (v := .int 0) (ty := .int) (C := RX2) (T := TX2) (N := 9) hx hb hts hi2 tyX2 tyX2_ok nmX2 hown hK hP hD hS 1 rfl rfl 6 (by decide) (hts (.fieldLink RX2 114 "PledgedLoans" "bufferLength" "I") (List.mem_of_getElem? (i := 3) rfl)) (fun _ h9 => h9) rfl (by decide +kernel) rfl rfl (Nat.le_of_ble_eq_true rfl) dX2_run_42 (fun H locs hP9 hD9 hS9 => ?_)
      replace hP : va_P D vwCl (rdW rd N_6 ++ (xmW cA x b rd X (uN N_4 0 1 0) ++ (bkW (cA 0) (b 0) M_7 ++ (otW (cA 0) b M_5)))) H := hP9
      replace hD : va_D _ (rdW rd N_6 ++ (xmW cA x b rd X (uN N_4 0 1 0) ++ (bkW (cA 0) (b 0) M_7 ++ (otW (cA 0) b M_5)))) := hD9
      replace hS := hS9
      clear hP9 hD9 hS9
      refine lv_iload_n hx hb dX2_run_45 rfl (lv_at hl 0 rfl) ?_
      refine W.widen (k := 1) (n := 6) (Nat.le_of_ble_eq_true rfl) (Nat.le_of_ble_eq_true rfl) ?_
      refine zx_ret ⟨(by subst eM_7 eN_6 eM_5 eN_4 eN_1;  exact ⟨c_2, c_3⟩), trivial⟩ ?_
      exact z_iretM (w1 := rdW rd N_6 ++ (xmW cA x b rd X (uN N_4 0 1 0) ++ (bkW (cA 0) (b 0) M_7 ++ (otW (cA 0) b M_5)))) hx hb hr hlocks dX2_run_46 hP hS (by subst eM_7 eN_6 eM_5 eN_4 eN_1; simp only [f_X2_run, if_neg c_2, if_neg c_3]) (by subst eM_7 eN_6 eM_5 eN_4 eN_1; simp only [f_X2_run, if_neg c_2, if_neg c_3])
    · subst eN_1; exact zx_throw (w := rdW rd r ++ (xmW cA x b rd X N ++ (bkW (cA 0) (b 0) B ++ (otW (cA 0) b Bs)))) (cls := zeA) (text := "no orders as a text") (ik := 126) (is := 128) (ic := 130) hx hb hfl hown (by decide +kernel) (hts (.classLink RX2 126 "java/lang/IllegalArgumentException") (List.mem_of_getElem? (i := 1) rfl)) (hts (.initialized "java/lang/IllegalArgumentException") (List.mem_of_getElem? (i := 2) rfl)) hO (by decide) (fun x h8 => hts x ((fun w h => List.mem_cons_of_mem _ (List.mem_append_right _ h)) x h8)) zt_ngA hO.2.2.2.2.1 zt_otA hS (by rw [hml]; exact hl.1) dX2_run_21 dX2_run_24 dX2_run_25 dX2_run_27 dX2_run_30 hnt (Nat.le_of_ble_eq_true rfl) (Nat.le_of_ble_eq_true rfl) (Nat.le_of_ble_eq_true rfl) (Nat.le_of_ble_eq_true rfl) hlocks hP (zxp_mid (pre := []) (vc := [((¬ (f_X2_readToError r N).1 < nI (N 0 1) ∧ ¬ f_X1_isWhole ((f_X2_readToError r N).2) = 0), zeA)]) (suf := []) trivial (Or.inl ⟨(by first | exact (fun h => h.1 c_3) | exact (fun h => h.2 c_3)), rfl⟩)) (Nat.le_of_ble_eq_true rfl) (Nat.le_of_ble_eq_true rfl)

