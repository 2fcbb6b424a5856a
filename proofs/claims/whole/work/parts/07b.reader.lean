/-- what always holds of the reader -/
def zRI (r : Nat → Nat) : Prop := r 0 ≤ 7 ∧ r 1 < 128 ∧ r 2 < 6 ∧ r 3 < 6 ∧ r 4 < 10000 ∧ r 5 < 53 ∧ (r 0 = 7 → r 1 = 119) ∧ (r 0 = 6 → r 1 = 98)

theorem zy_X1_restart : yX1_restart.cls = RX1 ∧ yX1_restart.cls ≠ "java/lang/invoke/MethodHandle" ∧ yX1_restart.cls ≠ "java/lang/invoke/VarHandle" ∧ (parseMethodDescriptor yX1_restart.desc).map (fun d => d.parameters.length) = some 0 := by decide +kernel
def f_X1_restart (r : Nat → Nat) : (Nat → Nat) :=
  va_up (va_up (va_up (va_up r 0 0) 1 59) 4 0) 5 0

set_option maxHeartbeats 4000000 in
set_option maxRecDepth 100000 in
theorem zc_X1_restart (l : Launch) (D : va_G) (cA : Nat → ClassId) (a : Nat) (r : Nat → Nat)  : Met l yX1_restart wsX1_restart (zrm 0 0) (zPc D cA [.ref a] (rdW a r)) (zM D (rdW a r) (rdW a (f_X1_restart r)) none) 0 0 (zfr (rdW a r)) := by
  refine Met.ofW (cc := cX1_restart) (maxL := 1) (ret := none) (by decide) rfl ?_
  intro p e s m args below meth c s₁ Bd hml hv
  obtain ⟨rfl, hP, hK, hD0⟩ := hv
  have hx := Bd.exec
  have hb := Bd.bytes
  have hr := Bd.returns
  have hts := atoms_spec (ws := wsX1_restart) Bd.pre
  have hown : s.vm.findClass RX1 = some m.cls := findClass_of_methodNamed Bd.named
  have hlocks := Bd.notSynchronized
  have hD := z_Dfr hD0
  have hS : va_S (zfr (rdW a r)) s.heap s.heap [] := va_S.rf
  have hi1 : ∀ w ∈ wsX10, w ∈ wsX1_restart := fun w h => List.mem_cons_of_mem _ (List.mem_append_right _ h)
  have hl := lv_entry ([.ref a]) (n := 1) (Nat.le_of_ble_eq_true rfl)
  rw [lg_entry_eq]
  generalize (lg_sl ([.ref a]) ++ List.replicate (1 - (lg_sl ([.ref a])).length) Slot.unset).toArray = ls at hl ⊢
  have hl : lv_has ls 1 [(0, .ref a)] := hl
  refine lv_aload_n hx hb dX1_restart_0 rfl (lv_at hl 0 rfl) ?_
  refine lv_iconst (v := 0) hx hb dX1_restart_1 (by decide) ?_
  refine va_put (D := D) (ci := 1) (v := .int 0) (ty := .int) (C := RX1) (T := TX1) (N := 6) hx hb hts hi1 tyX1 tyX1_ok nmX1 hown hK hP hD hS 0 rfl rfl 0 (by decide) (hts (.fieldLink RX1 11 "PledgedLoans$OrderReader" "stage" "I") (List.mem_of_getElem? (i := 1) rfl)) (fun _ h9 => h9) rfl (by decide +kernel) rfl rfl (Nat.le_of_ble_eq_true rfl) dX1_restart_2 (fun H locs hP9 hD9 hS9 => ?_)
  replace hP : va_P D vwCl (rdW a (va_up r 0 0)) H := hP9
  replace hD : va_D _ (rdW a (va_up r 0 0)) := hD9
  replace hS := hS9
  clear hP9 hD9 hS9
  refine lv_aload_n hx hb dX1_restart_5 rfl (lv_at hl 0 rfl) ?_
  refine lv_bipush (v := 59) hx hb dX1_restart_6 (by decide) ?_
  refine va_put (D := D) (ci := 1) (v := .int 59) (ty := .char) (C := RX1) (T := TX1) (N := 6) hx hb hts hi1 tyX1 tyX1_ok nmX1 hown hK hP hD hS 0 rfl rfl 1 (by decide) (hts (.fieldLink RX1 15 "PledgedLoans$OrderReader" "kind" "C") (List.mem_of_getElem? (i := 2) rfl)) (fun _ h9 => h9) rfl (by decide +kernel) (pk_charN (q := 59) (by omega)).1 (pk_charN (q := 59) (by omega)).2 (Nat.le_of_ble_eq_true rfl) dX1_restart_8 (fun H locs hP9 hD9 hS9 => ?_)
  replace hP : va_P D vwCl (rdW a (va_up (va_up r 0 0) 1 59)) H := hP9
  replace hD : va_D _ (rdW a (va_up (va_up r 0 0) 1 59)) := hD9
  replace hS := hS9
  clear hP9 hD9 hS9
  refine lv_aload_n hx hb dX1_restart_11 rfl (lv_at hl 0 rfl) ?_
  refine lv_iconst (v := 0) hx hb dX1_restart_12 (by decide) ?_
  refine va_put (D := D) (ci := 1) (v := .int 0) (ty := .int) (C := RX1) (T := TX1) (N := 6) hx hb hts hi1 tyX1 tyX1_ok nmX1 hown hK hP hD hS 0 rfl rfl 4 (by decide) (hts (.fieldLink RX1 19 "PledgedLoans$OrderReader" "amount" "I") (List.mem_of_getElem? (i := 3) rfl)) (fun _ h9 => h9) rfl (by decide +kernel) rfl rfl (Nat.le_of_ble_eq_true rfl) dX1_restart_13 (fun H locs hP9 hD9 hS9 => ?_)
  replace hP : va_P D vwCl (rdW a (va_up (va_up (va_up r 0 0) 1 59) 4 0)) H := hP9
  replace hD : va_D _ (rdW a (va_up (va_up (va_up r 0 0) 1 59) 4 0)) := hD9
  replace hS := hS9
  clear hP9 hD9 hS9
  refine lv_aload_n hx hb dX1_restart_16 rfl (lv_at hl 0 rfl) ?_
  refine lv_iconst (v := 0) hx hb dX1_restart_17 (by decide) ?_
  refine va_put (D := D) (ci := 1) (v := .int 0) (ty := .int) (C := RX1) (T := TX1) (N := 6) hx hb hts hi1 tyX1 tyX1_ok nmX1 hown hK hP hD hS 0 rfl rfl 5 (by decide) (hts (.fieldLink RX1 22 "PledgedLoans$OrderReader" "weeks" "I") (List.mem_of_getElem? (i := 4) rfl)) (fun _ h9 => h9) rfl (by decide +kernel) rfl rfl (Nat.le_of_ble_eq_true rfl) dX1_restart_18 (fun H locs hP9 hD9 hS9 => ?_)
  replace hP : va_P D vwCl (rdW a (va_up (va_up (va_up (va_up r 0 0) 1 59) 4 0) 5 0)) H := hP9
  replace hD : va_D _ (rdW a (va_up (va_up (va_up (va_up r 0 0) 1 59) 4 0) 5 0)) := hD9
  replace hS := hS9
  clear hP9 hD9 hS9
  exact z_vretM (w1 := rdW a (va_up (va_up (va_up (va_up r 0 0) 1 59) 4 0) 5 0)) hx hb hr hlocks dX1_restart_21 hP hS (by first | (simp only [f_X1_restart]; done) | rfl)

theorem zy_X1_isWhole : yX1_isWhole.cls = RX1 ∧ yX1_isWhole.cls ≠ "java/lang/invoke/MethodHandle" ∧ yX1_isWhole.cls ≠ "java/lang/invoke/VarHandle" ∧ (parseMethodDescriptor yX1_isWhole.desc).map (fun d => d.parameters.length) = some 0 := by decide +kernel
def f_X1_isWhole (r : Nat → Nat) : Int32 :=
  if (r 0) = 5 then
    if (r 4) ≤ 0 then
      0
    else
      if (r 1) = 98 then
        0
      else
        1
  else
  if (r 0) = 6 then
    if (r 5) ≤ 0 then
      0
    else
      1
  else
    if (r 0) = 7 then
      1
    else
      0

theorem zb_X1_isWhole (r : Nat → Nat) : narrow .boolean (.int (f_X1_isWhole r)) = .int (f_X1_isWhole r) := by
  unfold f_X1_isWhole; repeat' split
  all_goals (first | rfl | (dsimp only; rfl))
set_option maxHeartbeats 4000000 in
set_option maxRecDepth 100000 in
theorem zc_X1_isWhole (l : Launch) (D : va_G) (cA : Nat → ClassId) (a : Nat) (r : Nat → Nat) (hri : zRI r) : Met l yX1_isWhole wsX1_isWhole (zrm 0 0) (zPc D cA [.ref a] (rdW a r)) (zE (some (.int (f_X1_isWhole r)))) 0 0 (fun _ => False) := by
  refine Met.ofW (cc := cX1_isWhole) (maxL := 1) (ret := (some .boolean)) (by decide) rfl ?_
  intro p e s m args below meth c s₁ Bd hml hv
  obtain ⟨rfl, hP, hK, hD0⟩ := hv
  have hx := Bd.exec
  have hb := Bd.bytes
  have hr := Bd.returns
  have hts := atoms_spec (ws := wsX1_isWhole) Bd.pre
  have hown : s.vm.findClass RX1 = some m.cls := findClass_of_methodNamed Bd.named
  have hlocks := Bd.notSynchronized
  have hD := z_Dfr hD0
  have hS : va_S (zfr (rdW a r)) s.heap s.heap [] := va_S.rf
  have hi1 : ∀ w ∈ wsX10, w ∈ wsX1_isWhole := fun w h => List.mem_cons_of_mem _ (List.mem_append_right _ h)
  have hl := lv_entry ([.ref a]) (n := 1) (Nat.le_of_ble_eq_true rfl)
  rw [lg_entry_eq]
  generalize (lg_sl ([.ref a]) ++ List.replicate (1 - (lg_sl ([.ref a])).length) Slot.unset).toArray = ls at hl ⊢
  have hl : lv_has ls 1 [(0, .ref a)] := hl
  obtain ⟨hr0, hr1, hr2, hr3, hr4, hr5, hr6, hr7⟩ := id hri
  refine lv_aload_n hx hb dX1_isWhole_0 rfl (lv_at hl 0 rfl) ?_
  refine va_get (D := D) (ci := 1) (v := .int (nI (r 0))) (C := RX1) (T := TX1) (N := 6) hx hb hts hi1 hown hK hP 0 rfl rfl 0 (by decide) (hts (.fieldLink RX1 11 "PledgedLoans$OrderReader" "stage" "I") (List.mem_of_getElem? (i := 1) rfl)) (fun _ h9 => h9) rfl dX1_isWhole_1 ?_
  by_cases c_1 : (r 0) = 5
  · refine lv_lookup (off := 28) (tgt := 32) hx hb dX1_isWhole_4 (by decide) (by rw [c_1]; decide) (by decide) ?_
    refine lv_aload_n hx hb dX1_isWhole_32 rfl (lv_at hl 0 rfl) ?_
    refine va_get (D := D) (ci := 1) (v := .int (nI (r 4))) (C := RX1) (T := TX1) (N := 6) hx hb hts hi1 hown hK hP 0 rfl rfl 4 (by decide) (hts (.fieldLink RX1 19 "PledgedLoans$OrderReader" "amount" "I") (List.mem_of_getElem? (i := 2) rfl)) (fun _ h9 => h9) rfl dX1_isWhole_33 ?_
    refine lv_if_le (tgt := 52) hx hb dX1_isWhole_36 (by decide) (fun c_2 => ?_) (fun c_2 => ?_)
    · have c_2 : (r 4) ≤ 0 := (nI_leI (a := (r 4)) (b := 0) (by omega) (by omega)).mp c_2
      refine lv_iconst (v := 0) hx hb dX1_isWhole_52 (by decide) ?_
      exact z_zretE hx hb hr hlocks dX1_isWhole_53 rfl (by simp only [f_X1_isWhole, if_pos c_1, if_pos c_2])
    · have c_2 : ¬ (r 4) ≤ 0 := fun h9 => c_2 ((nI_leI (a := (r 4)) (b := 0) (by omega) (by omega)).mpr h9)
      refine lv_aload_n hx hb dX1_isWhole_39 rfl (lv_at hl 0 rfl) ?_
      refine va_get (D := D) (ci := 1) (v := .int (nI (r 1))) (C := RX1) (T := TX1) (N := 6) hx hb hts hi1 hown hK hP 0 rfl rfl 1 (by decide) (hts (.fieldLink RX1 15 "PledgedLoans$OrderReader" "kind" "C") (List.mem_of_getElem? (i := 3) rfl)) (fun _ h9 => h9) rfl dX1_isWhole_40 ?_
      refine lv_bipush (v := 98) hx hb dX1_isWhole_43 (by decide) ?_
      refine lv_icmp_eq (tgt := 52) hx hb dX1_isWhole_45 (by decide) (fun c_3 => ?_) (fun c_3 => ?_)
      · have c_3 : (r 1) = 98 := (nI_eq (a := (r 1)) (b := 98) (by omega) (by omega)).mp c_3
        refine lv_iconst (v := 0) hx hb dX1_isWhole_52 (by decide) ?_
        exact z_zretE hx hb hr hlocks dX1_isWhole_53 rfl (by simp only [f_X1_isWhole, if_pos c_1, if_neg c_2, if_pos c_3])
      · have c_3 : ¬ (r 1) = 98 := fun h9 => c_3 ((nI_eq (a := (r 1)) (b := 98) (by omega) (by omega)).mpr h9)
        refine lv_iconst (v := 1) hx hb dX1_isWhole_48 (by decide) ?_
        refine lv_goto (tgt := 53) hx hb dX1_isWhole_49 (by decide) ?_
        exact z_zretE hx hb hr hlocks dX1_isWhole_53 rfl (by simp only [f_X1_isWhole, if_pos c_1, if_neg c_2, if_neg c_3])
  by_cases c_4 : (r 0) = 6
  · refine lv_lookup (off := 50) (tgt := 54) hx hb dX1_isWhole_4 (by decide) (by rw [c_4]; decide) (by decide) ?_
    refine lv_aload_n hx hb dX1_isWhole_54 rfl (lv_at hl 0 rfl) ?_
    refine va_get (D := D) (ci := 1) (v := .int (nI (r 5))) (C := RX1) (T := TX1) (N := 6) hx hb hts hi1 hown hK hP 0 rfl rfl 5 (by decide) (hts (.fieldLink RX1 22 "PledgedLoans$OrderReader" "weeks" "I") (List.mem_of_getElem? (i := 4) rfl)) (fun _ h9 => h9) rfl dX1_isWhole_55 ?_
    refine lv_if_le (tgt := 65) hx hb dX1_isWhole_58 (by decide) (fun c_5 => ?_) (fun c_5 => ?_)
    · have c_5 : (r 5) ≤ 0 := (nI_leI (a := (r 5)) (b := 0) (by omega) (by omega)).mp c_5
      refine lv_iconst (v := 0) hx hb dX1_isWhole_65 (by decide) ?_
      exact z_zretE hx hb hr hlocks dX1_isWhole_66 rfl (by simp only [f_X1_isWhole, if_neg c_1, if_pos c_4, if_pos c_5])
    · have c_5 : ¬ (r 5) ≤ 0 := fun h9 => c_5 ((nI_leI (a := (r 5)) (b := 0) (by omega) (by omega)).mpr h9)
      refine lv_iconst (v := 1) hx hb dX1_isWhole_61 (by decide) ?_
      refine lv_goto (tgt := 66) hx hb dX1_isWhole_62 (by decide) ?_
      exact z_zretE hx hb hr hlocks dX1_isWhole_66 rfl (by simp only [f_X1_isWhole, if_neg c_1, if_pos c_4, if_neg c_5])
  refine lv_lookup (off := 63) (tgt := 67) hx hb dX1_isWhole_4 (by decide) (by rw [lv_osw (fun h8 => c_1 ((nI_eq (by omega) (by omega)).mp h8)) (by decide), lv_osw (fun h8 => c_4 ((nI_eq (by omega) (by omega)).mp h8)) (by decide)]; rfl) (by decide) ?_
  refine lv_aload_n hx hb dX1_isWhole_67 rfl (lv_at hl 0 rfl) ?_
  refine va_get (D := D) (ci := 1) (v := .int (nI (r 0))) (C := RX1) (T := TX1) (N := 6) hx hb hts hi1 hown hK hP 0 rfl rfl 0 (by decide) (hts (.fieldLink RX1 11 "PledgedLoans$OrderReader" "stage" "I") (List.mem_of_getElem? (i := 1) rfl)) (fun _ h9 => h9) rfl dX1_isWhole_68 ?_
  refine lv_bipush (v := 7) hx hb dX1_isWhole_71 (by decide) ?_
  refine lv_icmp_ne (tgt := 80) hx hb dX1_isWhole_73 (by decide) (fun c_6 => ?_) (fun c_6 => ?_)
  · have c_6 : ¬ (r 0) = 7 := fun h9 => c_6 ((nI_eq (a := (r 0)) (b := 7) (by omega) (by omega)).mpr h9)
    refine lv_iconst (v := 0) hx hb dX1_isWhole_80 (by decide) ?_
    exact z_zretE hx hb hr hlocks dX1_isWhole_81 rfl (by simp only [f_X1_isWhole, if_neg c_1, if_neg c_4, if_neg c_6])
  · have c_6 : (r 0) = 7 := (nI_eq (a := (r 0)) (b := 7) (by omega) (by omega)).mp c_6
    refine lv_iconst (v := 1) hx hb dX1_isWhole_76 (by decide) ?_
    refine lv_goto (tgt := 81) hx hb dX1_isWhole_77 (by decide) ?_
    exact z_zretE hx hb hr hlocks dX1_isWhole_81 rfl (by simp only [f_X1_isWhole, if_neg c_1, if_neg c_4, if_pos c_6])

theorem zy_X1_takeEnd : yX1_takeEnd.cls = RX1 ∧ yX1_takeEnd.cls ≠ "java/lang/invoke/MethodHandle" ∧ yX1_takeEnd.cls ≠ "java/lang/invoke/VarHandle" ∧ (parseMethodDescriptor yX1_takeEnd.desc).map (fun d => d.parameters.length) = some 0 := by decide +kernel
def f_X1_takeEnd (r : Nat → Nat) : Int32 × (Nat → Nat) :=
  if (f_X1_isWhole r) = 0 then
    (0, r)
  else
    let N_2 : Nat → Nat := f_X1_restart r
    (1, N_2)

theorem zb_X1_takeEnd (r : Nat → Nat) : narrow .boolean (.int ((f_X1_takeEnd r).1)) = .int ((f_X1_takeEnd r).1) := by
  unfold f_X1_takeEnd; repeat' split
  all_goals (first | rfl | (dsimp only; rfl))
set_option maxHeartbeats 4000000 in
set_option maxRecDepth 100000 in
theorem zc_X1_takeEnd (l : Launch) (D : va_G) (cA : Nat → ClassId) (a : Nat) (r : Nat → Nat) (hri : zRI r) : Met l yX1_takeEnd wsX1_takeEnd (zrm 1 20) (zPc D cA [.ref a] (rdW a r)) (zM D (rdW a r) (rdW a ((f_X1_takeEnd r).2)) (some (.int ((f_X1_takeEnd r).1)))) 0 0 (zfr (rdW a r)) := by
  refine Met.ofW (cc := cX1_takeEnd) (maxL := 1) (ret := (some .boolean)) (by decide) rfl ?_
  intro p e s m args below meth c s₁ Bd hml hv
  obtain ⟨rfl, hP, hK, hD0⟩ := hv
  have hx := Bd.exec
  have hb := Bd.bytes
  have hr := Bd.returns
  have hts := atoms_spec (ws := wsX1_takeEnd) Bd.pre
  have hown : s.vm.findClass RX1 = some m.cls := findClass_of_methodNamed Bd.named
  have hlocks := Bd.notSynchronized
  have hD := z_Dfr hD0
  have hS : va_S (zfr (rdW a r)) s.heap s.heap [] := va_S.rf
  have hi1 : ∀ w ∈ wsX10, w ∈ wsX1_takeEnd := fun w h => List.mem_cons_of_mem _ (List.mem_append_right _ h)
  have hl := lv_entry ([.ref a]) (n := 1) (Nat.le_of_ble_eq_true rfl)
  rw [lg_entry_eq]
  generalize (lg_sl ([.ref a]) ++ List.replicate (1 - (lg_sl ([.ref a])).length) Slot.unset).toArray = ls at hl ⊢
  have hl : lv_has ls 1 [(0, .ref a)] := hl
  obtain ⟨hr0, hr1, hr2, hr3, hr4, hr5, hr6, hr7⟩ := id hri
  refine lv_aload_n hx hb dX1_takeEnd_0 rfl (lv_at hl 0 rfl) ?_
  refine z_E (va_runV (As := []) (rest := []) ⟨hx, hb, hml, hown, hts⟩ (zc_X1_isWhole l D cA a r (by first | assumption | omega)) (cwV 0 hts gX1_takeEnd_X1_isWhole rfl rfl rfl zy_X1_isWhole ⟨Nat.le_of_ble_eq_true rfl, Nat.le_of_ble_eq_true rfl⟩) (z_preV (ci := 1) hK hP hD rfl rfl) rfl rfl hl.1 rfl (lv_room (Nat.le_of_ble_eq_true rfl)) dX1_takeEnd_1 ⟨Nat.zero_le _, Nat.zero_le _⟩) rfl ?_
  refine lv_if_ne (tgt := 9) hx hb dX1_takeEnd_4 (by decide) (fun c_1 => ?_) (fun c_1 => ?_)
  · refine lv_aload_n hx hb dX1_takeEnd_9 rfl (lv_at hl 0 rfl) ?_
    refine z_M (X := ([] : va_W)) (Z := ([] : va_W)) (va_runV (As := []) (rest := []) ⟨hx, hb, hml, hown, hts⟩ (zc_X1_restart l D cA a r) (cwV 0 hts gX1_takeEnd_X1_restart rfl rfl rfl zy_X1_restart ⟨Nat.le_of_ble_eq_true rfl, Nat.le_of_ble_eq_true rfl⟩) (z_preV (ci := 1) hK hP hD rfl rfl) rfl rfl hl.1 rfl (lv_room (Nat.le_of_ble_eq_true rfl)) dX1_takeEnd_10 ⟨Nat.zero_le _, Nat.zero_le _⟩) hP hD hS rdW_adr rfl (fun H locs hP9 hD9 hS9 => ?_)
    replace hP : va_P D vwCl (rdW a (f_X1_restart r)) H := hP9
    replace hD : va_D _ (rdW a (f_X1_restart r)) := hD9
    replace hS := hS9
    clear hP9 hD9 hS9
    obtain ⟨N_2, eN_2⟩ : ∃ z9 : Nat → Nat, z9 = f_X1_restart r := ⟨_, rfl⟩
    rw [← eN_2] at hP hD
    refine lv_iconst (v := 1) hx hb dX1_takeEnd_13 (by decide) ?_
    exact z_zretM (w1 := rdW a N_2) hx hb hr hlocks dX1_takeEnd_14 hP hS rfl (by subst eN_2; simp only [f_X1_takeEnd, if_neg c_1]) (by subst eN_2; simp only [f_X1_takeEnd, if_neg c_1])
  · refine lv_iconst (v := 0) hx hb dX1_takeEnd_7 (by decide) ?_
    exact z_zretM (w1 := rdW a r) hx hb hr hlocks dX1_takeEnd_8 hP hS rfl (by simp only [f_X1_takeEnd, if_pos c_1]) (by simp only [f_X1_takeEnd, if_pos c_1])

theorem zy_X1_takeKind : yX1_takeKind.cls = RX1 ∧ yX1_takeKind.cls ≠ "java/lang/invoke/MethodHandle" ∧ yX1_takeKind.cls ≠ "java/lang/invoke/VarHandle" ∧ (parseMethodDescriptor yX1_takeKind.desc).map (fun d => d.parameters.length) = some 1 := by decide +kernel
def f_X1_takeKind (r : Nat → Nat) (sg : Nat) : Int32 × (Nat → Nat) :=
  if sg = 43 then
    (1, va_up (va_up r 1 sg) 0 1)
  else
  if sg = 45 then
    (1, va_up (va_up r 1 sg) 0 1)
  else
  if sg = 98 then
    (1, va_up (va_up r 1 sg) 0 1)
  else
  if sg = 112 then
    (1, va_up (va_up r 1 sg) 0 1)
  else
  if sg = 114 then
    (1, va_up (va_up r 1 sg) 0 1)
  else
  if sg = 119 then
    (1, va_up (va_up r 1 sg) 0 7)
  else
    (0, va_up r 1 sg)

theorem zb_X1_takeKind (r : Nat → Nat) (sg : Nat) : narrow .boolean (.int ((f_X1_takeKind r sg).1)) = .int ((f_X1_takeKind r sg).1) := by
  unfold f_X1_takeKind; repeat' split
  all_goals (first | rfl | (dsimp only; rfl))
set_option maxHeartbeats 4000000 in
set_option maxRecDepth 100000 in
theorem zc_X1_takeKind (l : Launch) (D : va_G) (cA : Nat → ClassId) (a : Nat) (r : Nat → Nat) (sg : Nat) (hsg : sg < 128) : Met l yX1_takeKind wsX1_takeKind (zrm 0 0) (zPc D cA [.ref a, .int (nI sg)] (rdW a r)) (zM D (rdW a r) (rdW a ((f_X1_takeKind r sg).2)) (some (.int ((f_X1_takeKind r sg).1)))) 0 0 (zfr (rdW a r)) := by
  refine Met.ofW (cc := cX1_takeKind) (maxL := 2) (ret := (some .boolean)) (by decide) rfl ?_
  intro p e s m args below meth c s₁ Bd hml hv
  obtain ⟨rfl, hP, hK, hD0⟩ := hv
  have hx := Bd.exec
  have hb := Bd.bytes
  have hr := Bd.returns
  have hts := atoms_spec (ws := wsX1_takeKind) Bd.pre
  have hown : s.vm.findClass RX1 = some m.cls := findClass_of_methodNamed Bd.named
  have hlocks := Bd.notSynchronized
  have hD := z_Dfr hD0
  have hS : va_S (zfr (rdW a r)) s.heap s.heap [] := va_S.rf
  have hi1 : ∀ w ∈ wsX10, w ∈ wsX1_takeKind := fun w h => List.mem_cons_of_mem _ (List.mem_append_right _ h)
  have hl := lv_entry ([.ref a, .int (nI sg)]) (n := 2) (Nat.le_of_ble_eq_true rfl)
  rw [lg_entry_eq]
  generalize (lg_sl ([.ref a, .int (nI sg)]) ++ List.replicate (2 - (lg_sl ([.ref a, .int (nI sg)])).length) Slot.unset).toArray = ls at hl ⊢
  have hl : lv_has ls 2 [(0, .ref a), (1, .int (nI sg))] := hl
  refine lv_aload_n hx hb dX1_takeKind_0 rfl (lv_at hl 0 rfl) ?_
  refine lv_iload_n hx hb dX1_takeKind_1 rfl (lv_at hl 1 rfl) ?_
  refine va_put (D := D) (ci := 1) (v := .int (nI sg)) (ty := .char) (C := RX1) (T := TX1) (N := 6) hx hb hts hi1 tyX1 tyX1_ok nmX1 hown hK hP hD hS 0 rfl rfl 1 (by decide) (hts (.fieldLink RX1 15 "PledgedLoans$OrderReader" "kind" "C") (List.mem_of_getElem? (i := 1) rfl)) (fun _ h9 => h9) rfl (by decide +kernel) (pk_charN (q := sg) (by omega)).1 (pk_charN (q := sg) (by omega)).2 (Nat.le_of_ble_eq_true rfl) dX1_takeKind_2 (fun H locs hP9 hD9 hS9 => ?_)
  replace hP : va_P D vwCl (rdW a (va_up r 1 sg)) H := hP9
  replace hD : va_D _ (rdW a (va_up r 1 sg)) := hD9
  replace hS := hS9
  clear hP9 hD9 hS9
  refine lv_iload_n hx hb dX1_takeKind_5 rfl (lv_at hl 1 rfl) ?_
  by_cases c_2 : sg = 43
  · refine lv_lookup (off := 58) (tgt := 64) hx hb dX1_takeKind_6 (by decide) (by rw [c_2]; decide) (by decide) ?_
    refine lv_aload_n hx hb dX1_takeKind_64 rfl (lv_at hl 0 rfl) ?_
    refine lv_iconst (v := 1) hx hb dX1_takeKind_65 (by decide) ?_
    refine va_put (D := D) (ci := 1) (v := .int 1) (ty := .int) (C := RX1) (T := TX1) (N := 6) hx hb hts hi1 tyX1 tyX1_ok nmX1 hown hK hP hD hS 0 rfl rfl 0 (by decide) (hts (.fieldLink RX1 11 "PledgedLoans$OrderReader" "stage" "I") (List.mem_of_getElem? (i := 2) rfl)) (fun _ h9 => h9) rfl (by decide +kernel) rfl rfl (Nat.le_of_ble_eq_true rfl) dX1_takeKind_66 (fun H locs hP9 hD9 hS9 => ?_)
    replace hP : va_P D vwCl (rdW a (va_up (va_up r 1 sg) 0 1)) H := hP9
    replace hD : va_D _ (rdW a (va_up (va_up r 1 sg) 0 1)) := hD9
    replace hS := hS9
    clear hP9 hD9 hS9
    refine lv_iconst (v := 1) hx hb dX1_takeKind_69 (by decide) ?_
    exact z_zretM (w1 := rdW a (va_up (va_up r 1 sg) 0 1)) hx hb hr hlocks dX1_takeKind_70 hP hS rfl (by simp only [f_X1_takeKind, if_pos c_2]) (by simp only [f_X1_takeKind, if_pos c_2])
  by_cases c_4 : sg = 45
  · refine lv_lookup (off := 58) (tgt := 64) hx hb dX1_takeKind_6 (by decide) (by rw [c_4]; decide) (by decide) ?_
    refine lv_aload_n hx hb dX1_takeKind_64 rfl (lv_at hl 0 rfl) ?_
    refine lv_iconst (v := 1) hx hb dX1_takeKind_65 (by decide) ?_
    refine va_put (D := D) (ci := 1) (v := .int 1) (ty := .int) (C := RX1) (T := TX1) (N := 6) hx hb hts hi1 tyX1 tyX1_ok nmX1 hown hK hP hD hS 0 rfl rfl 0 (by decide) (hts (.fieldLink RX1 11 "PledgedLoans$OrderReader" "stage" "I") (List.mem_of_getElem? (i := 2) rfl)) (fun _ h9 => h9) rfl (by decide +kernel) rfl rfl (Nat.le_of_ble_eq_true rfl) dX1_takeKind_66 (fun H locs hP9 hD9 hS9 => ?_)
    replace hP : va_P D vwCl (rdW a (va_up (va_up r 1 sg) 0 1)) H := hP9
    replace hD : va_D _ (rdW a (va_up (va_up r 1 sg) 0 1)) := hD9
    replace hS := hS9
    clear hP9 hD9 hS9
    refine lv_iconst (v := 1) hx hb dX1_takeKind_69 (by decide) ?_
    exact z_zretM (w1 := rdW a (va_up (va_up r 1 sg) 0 1)) hx hb hr hlocks dX1_takeKind_70 hP hS rfl (by simp only [f_X1_takeKind, if_neg c_2, if_pos c_4]) (by simp only [f_X1_takeKind, if_neg c_2, if_pos c_4])
  by_cases c_6 : sg = 98
  · refine lv_lookup (off := 58) (tgt := 64) hx hb dX1_takeKind_6 (by decide) (by rw [c_6]; decide) (by decide) ?_
    refine lv_aload_n hx hb dX1_takeKind_64 rfl (lv_at hl 0 rfl) ?_
    refine lv_iconst (v := 1) hx hb dX1_takeKind_65 (by decide) ?_
    refine va_put (D := D) (ci := 1) (v := .int 1) (ty := .int) (C := RX1) (T := TX1) (N := 6) hx hb hts hi1 tyX1 tyX1_ok nmX1 hown hK hP hD hS 0 rfl rfl 0 (by decide) (hts (.fieldLink RX1 11 "PledgedLoans$OrderReader" "stage" "I") (List.mem_of_getElem? (i := 2) rfl)) (fun _ h9 => h9) rfl (by decide +kernel) rfl rfl (Nat.le_of_ble_eq_true rfl) dX1_takeKind_66 (fun H locs hP9 hD9 hS9 => ?_)
    replace hP : va_P D vwCl (rdW a (va_up (va_up r 1 sg) 0 1)) H := hP9
    replace hD : va_D _ (rdW a (va_up (va_up r 1 sg) 0 1)) := hD9
    replace hS := hS9
    clear hP9 hD9 hS9
    refine lv_iconst (v := 1) hx hb dX1_takeKind_69 (by decide) ?_
    exact z_zretM (w1 := rdW a (va_up (va_up r 1 sg) 0 1)) hx hb hr hlocks dX1_takeKind_70 hP hS rfl (by simp only [f_X1_takeKind, if_neg c_2, if_neg c_4, if_pos c_6]) (by simp only [f_X1_takeKind, if_neg c_2, if_neg c_4, if_pos c_6])
  by_cases c_8 : sg = 112
  · refine lv_lookup (off := 58) (tgt := 64) hx hb dX1_takeKind_6 (by decide) (by rw [c_8]; decide) (by decide) ?_
    refine lv_aload_n hx hb dX1_takeKind_64 rfl (lv_at hl 0 rfl) ?_
    refine lv_iconst (v := 1) hx hb dX1_takeKind_65 (by decide) ?_
    refine va_put (D := D) (ci := 1) (v := .int 1) (ty := .int) (C := RX1) (T := TX1) (N := 6) hx hb hts hi1 tyX1 tyX1_ok nmX1 hown hK hP hD hS 0 rfl rfl 0 (by decide) (hts (.fieldLink RX1 11 "PledgedLoans$OrderReader" "stage" "I") (List.mem_of_getElem? (i := 2) rfl)) (fun _ h9 => h9) rfl (by decide +kernel) rfl rfl (Nat.le_of_ble_eq_true rfl) dX1_takeKind_66 (fun H locs hP9 hD9 hS9 => ?_)
    replace hP : va_P D vwCl (rdW a (va_up (va_up r 1 sg) 0 1)) H := hP9
    replace hD : va_D _ (rdW a (va_up (va_up r 1 sg) 0 1)) := hD9
    replace hS := hS9
    clear hP9 hD9 hS9
    refine lv_iconst (v := 1) hx hb dX1_takeKind_69 (by decide) ?_
    exact z_zretM (w1 := rdW a (va_up (va_up r 1 sg) 0 1)) hx hb hr hlocks dX1_takeKind_70 hP hS rfl (by simp only [f_X1_takeKind, if_neg c_2, if_neg c_4, if_neg c_6, if_pos c_8]) (by simp only [f_X1_takeKind, if_neg c_2, if_neg c_4, if_neg c_6, if_pos c_8])
  by_cases c_10 : sg = 114
  · refine lv_lookup (off := 58) (tgt := 64) hx hb dX1_takeKind_6 (by decide) (by rw [c_10]; decide) (by decide) ?_
    refine lv_aload_n hx hb dX1_takeKind_64 rfl (lv_at hl 0 rfl) ?_
    refine lv_iconst (v := 1) hx hb dX1_takeKind_65 (by decide) ?_
    refine va_put (D := D) (ci := 1) (v := .int 1) (ty := .int) (C := RX1) (T := TX1) (N := 6) hx hb hts hi1 tyX1 tyX1_ok nmX1 hown hK hP hD hS 0 rfl rfl 0 (by decide) (hts (.fieldLink RX1 11 "PledgedLoans$OrderReader" "stage" "I") (List.mem_of_getElem? (i := 2) rfl)) (fun _ h9 => h9) rfl (by decide +kernel) rfl rfl (Nat.le_of_ble_eq_true rfl) dX1_takeKind_66 (fun H locs hP9 hD9 hS9 => ?_)
    replace hP : va_P D vwCl (rdW a (va_up (va_up r 1 sg) 0 1)) H := hP9
    replace hD : va_D _ (rdW a (va_up (va_up r 1 sg) 0 1)) := hD9
    replace hS := hS9
    clear hP9 hD9 hS9
    refine lv_iconst (v := 1) hx hb dX1_takeKind_69 (by decide) ?_
    exact z_zretM (w1 := rdW a (va_up (va_up r 1 sg) 0 1)) hx hb hr hlocks dX1_takeKind_70 hP hS rfl (by simp only [f_X1_takeKind, if_neg c_2, if_neg c_4, if_neg c_6, if_neg c_8, if_pos c_10]) (by simp only [f_X1_takeKind, if_neg c_2, if_neg c_4, if_neg c_6, if_neg c_8, if_pos c_10])
  by_cases c_12 : sg = 119
  · refine lv_lookup (off := 65) (tgt := 71) hx hb dX1_takeKind_6 (by decide) (by rw [c_12]; decide) (by decide) ?_
    refine lv_aload_n hx hb dX1_takeKind_71 rfl (lv_at hl 0 rfl) ?_
    refine lv_bipush (v := 7) hx hb dX1_takeKind_72 (by decide) ?_
    refine va_put (D := D) (ci := 1) (v := .int 7) (ty := .int) (C := RX1) (T := TX1) (N := 6) hx hb hts hi1 tyX1 tyX1_ok nmX1 hown hK hP hD hS 0 rfl rfl 0 (by decide) (hts (.fieldLink RX1 11 "PledgedLoans$OrderReader" "stage" "I") (List.mem_of_getElem? (i := 2) rfl)) (fun _ h9 => h9) rfl (by decide +kernel) rfl rfl (Nat.le_of_ble_eq_true rfl) dX1_takeKind_74 (fun H locs hP9 hD9 hS9 => ?_)
    replace hP : va_P D vwCl (rdW a (va_up (va_up r 1 sg) 0 7)) H := hP9
    replace hD : va_D _ (rdW a (va_up (va_up r 1 sg) 0 7)) := hD9
    replace hS := hS9
    clear hP9 hD9 hS9
    refine lv_iconst (v := 1) hx hb dX1_takeKind_77 (by decide) ?_
    exact z_zretM (w1 := rdW a (va_up (va_up r 1 sg) 0 7)) hx hb hr hlocks dX1_takeKind_78 hP hS rfl (by simp only [f_X1_takeKind, if_neg c_2, if_neg c_4, if_neg c_6, if_neg c_8, if_neg c_10, if_pos c_12]) (by simp only [f_X1_takeKind, if_neg c_2, if_neg c_4, if_neg c_6, if_neg c_8, if_neg c_10, if_pos c_12])
  refine lv_lookup (off := 73) (tgt := 79) hx hb dX1_takeKind_6 (by decide) (by rw [lv_osw (fun h8 => c_2 ((nI_eq (by omega) (by omega)).mp h8)) (by decide), lv_osw (fun h8 => c_4 ((nI_eq (by omega) (by omega)).mp h8)) (by decide), lv_osw (fun h8 => c_6 ((nI_eq (by omega) (by omega)).mp h8)) (by decide), lv_osw (fun h8 => c_8 ((nI_eq (by omega) (by omega)).mp h8)) (by decide), lv_osw (fun h8 => c_10 ((nI_eq (by omega) (by omega)).mp h8)) (by decide), lv_osw (fun h8 => c_12 ((nI_eq (by omega) (by omega)).mp h8)) (by decide)]; rfl) (by decide) ?_
  refine lv_iconst (v := 0) hx hb dX1_takeKind_79 (by decide) ?_
  exact z_zretM (w1 := rdW a (va_up r 1 sg)) hx hb hr hlocks dX1_takeKind_80 hP hS rfl (by simp only [f_X1_takeKind, if_neg c_2, if_neg c_4, if_neg c_6, if_neg c_8, if_neg c_10, if_neg c_12]) (by simp only [f_X1_takeKind, if_neg c_2, if_neg c_4, if_neg c_6, if_neg c_8, if_neg c_10, if_neg c_12])

theorem zy_X1_isMember : yX1_isMember.cls = RX1 ∧ yX1_isMember.cls ≠ "java/lang/invoke/MethodHandle" ∧ yX1_isMember.cls ≠ "java/lang/invoke/VarHandle" ∧ (parseMethodDescriptor yX1_isMember.desc).map (fun d => d.parameters.length) = some 1 := by decide +kernel
def f_X1_isMember (sg : Nat) : Int32 :=
  if sg < 48 then
    0
  else
    if 6 ≤ (sg - 48) then
      0
    else
      1

theorem zb_X1_isMember (sg : Nat) : narrow .boolean (.int (f_X1_isMember sg)) = .int (f_X1_isMember sg) := by
  unfold f_X1_isMember; repeat' split
  all_goals (first | rfl | (dsimp only; rfl))
set_option maxHeartbeats 4000000 in
set_option maxRecDepth 100000 in
theorem zc_X1_isMember (l : Launch) (D : va_G) (cA : Nat → ClassId) (sg : Nat) (hsg : sg < 128) : Met l yX1_isMember wsX1_isMember (zrm 0 0) (zPc D cA [.int (nI sg)] (([] : va_W))) (zE (some (.int (f_X1_isMember sg)))) 0 0 (fun _ => False) := by
  refine Met.ofW (cc := cX1_isMember) (maxL := 1) (ret := (some .boolean)) (by decide) rfl ?_
  intro p e s m args below meth c s₁ Bd hml hv
  obtain ⟨rfl, hP, hK, hD0⟩ := hv
  have hx := Bd.exec
  have hb := Bd.bytes
  have hr := Bd.returns
  have hts := atoms_spec (ws := wsX1_isMember) Bd.pre
  have hown : s.vm.findClass RX1 = some m.cls := findClass_of_methodNamed Bd.named
  have hlocks := Bd.notSynchronized
  have hD := z_Dfr hD0
  have hS : va_S (zfr (([] : va_W))) s.heap s.heap [] := va_S.rf
  have hl := lv_entry ([.int (nI sg)]) (n := 1) (Nat.le_of_ble_eq_true rfl)
  rw [lg_entry_eq]
  generalize (lg_sl ([.int (nI sg)]) ++ List.replicate (1 - (lg_sl ([.int (nI sg)])).length) Slot.unset).toArray = ls at hl ⊢
  have hl : lv_has ls 1 [(0, .int (nI sg))] := hl
  refine lv_iload_n hx hb dX1_isMember_0 rfl (lv_at hl 0 rfl) ?_
  refine lv_bipush (v := 48) hx hb dX1_isMember_1 (by decide) ?_
  refine lv_icmp_lt (tgt := 19) hx hb dX1_isMember_3 (by decide) (fun c_1 => ?_) (fun c_1 => ?_)
  · have c_1 : sg < 48 := (nI_ltI (a := sg) (b := 48) (by omega) (by omega)).mp c_1
    refine lv_iconst (v := 0) hx hb dX1_isMember_19 (by decide) ?_
    exact z_zretE hx hb hr hlocks dX1_isMember_20 rfl (by simp only [f_X1_isMember, if_pos c_1])
  · have c_1 : ¬ sg < 48 := fun h9 => c_1 ((nI_ltI (a := sg) (b := 48) (by omega) (by omega)).mpr h9)
    refine lv_iload_n hx hb dX1_isMember_6 rfl (lv_at hl 0 rfl) ?_
    refine lv_bipush (v := 48) hx hb dX1_isMember_7 (by decide) ?_
    refine lv_isub hx hb dX1_isMember_9 ?_
    refine z_top (pk_sub (a := sg) (b := 48) (by omega)) ?_
    refine lv_bipush (v := 6) hx hb dX1_isMember_10 (by decide) ?_
    refine lv_icmp_ge (tgt := 19) hx hb dX1_isMember_12 (by decide) (fun c_2 => ?_) (fun c_2 => ?_)
    · have c_2 : 6 ≤ (sg - 48) := (nI_leI (a := 6) (b := (sg - 48)) (by omega) (by omega)).mp c_2
      refine lv_iconst (v := 0) hx hb dX1_isMember_19 (by decide) ?_
      exact z_zretE hx hb hr hlocks dX1_isMember_20 rfl (by simp only [f_X1_isMember, if_neg c_1, if_pos c_2])
    · have c_2 : ¬ 6 ≤ (sg - 48) := fun h9 => c_2 ((nI_leI (a := 6) (b := (sg - 48)) (by omega) (by omega)).mpr h9)
      refine lv_iconst (v := 1) hx hb dX1_isMember_15 (by decide) ?_
      refine lv_goto (tgt := 20) hx hb dX1_isMember_16 (by decide) ?_
      exact z_zretE hx hb hr hlocks dX1_isMember_20 rfl (by simp only [f_X1_isMember, if_neg c_1, if_neg c_2])

theorem zq_rm {sg : Nat} (h : ¬ f_X1_isMember sg = 0) : 48 ≤ sg ∧ sg < 54 := by
  unfold f_X1_isMember at h
  split at h
  · exact absurd rfl h
  · split at h
    · exact absurd rfl h
    · omega

theorem zy_X1_takeMember : yX1_takeMember.cls = RX1 ∧ yX1_takeMember.cls ≠ "java/lang/invoke/MethodHandle" ∧ yX1_takeMember.cls ≠ "java/lang/invoke/VarHandle" ∧ (parseMethodDescriptor yX1_takeMember.desc).map (fun d => d.parameters.length) = some 1 := by decide +kernel
def f_X1_takeMember (r : Nat → Nat) (sg : Nat) : Int32 × (Nat → Nat) :=
  if (f_X1_isMember sg) = 0 then
    (0, r)
  else
    if (r 1) = 112 then
      (1, va_up (va_up r 2 (sg - 48)) 0 2)
    else
      (1, va_up (va_up r 2 (sg - 48)) 0 4)

theorem zb_X1_takeMember (r : Nat → Nat) (sg : Nat) : narrow .boolean (.int ((f_X1_takeMember r sg).1)) = .int ((f_X1_takeMember r sg).1) := by
  unfold f_X1_takeMember; repeat' split
  all_goals (first | rfl | (dsimp only; rfl))
set_option maxHeartbeats 4000000 in
set_option maxRecDepth 100000 in
theorem zc_X1_takeMember (l : Launch) (D : va_G) (cA : Nat → ClassId) (a : Nat) (r : Nat → Nat) (sg : Nat) (hsg : sg < 128) (hri : zRI r) : Met l yX1_takeMember wsX1_takeMember (zrm 1 20) (zPc D cA [.ref a, .int (nI sg)] (rdW a r)) (zM D (rdW a r) (rdW a ((f_X1_takeMember r sg).2)) (some (.int ((f_X1_takeMember r sg).1)))) 0 0 (zfr (rdW a r)) := by
  refine Met.ofW (cc := cX1_takeMember) (maxL := 2) (ret := (some .boolean)) (by decide) rfl ?_
  intro p e s m args below meth c s₁ Bd hml hv
  obtain ⟨rfl, hP, hK, hD0⟩ := hv
  have hx := Bd.exec
  have hb := Bd.bytes
  have hr := Bd.returns
  have hts := atoms_spec (ws := wsX1_takeMember) Bd.pre
  have hown : s.vm.findClass RX1 = some m.cls := findClass_of_methodNamed Bd.named
  have hlocks := Bd.notSynchronized
  have hD := z_Dfr hD0
  have hS : va_S (zfr (rdW a r)) s.heap s.heap [] := va_S.rf
  have hi1 : ∀ w ∈ wsX10, w ∈ wsX1_takeMember := fun w h => List.mem_cons_of_mem _ (List.mem_append_right _ h)
  have hl := lv_entry ([.ref a, .int (nI sg)]) (n := 2) (Nat.le_of_ble_eq_true rfl)
  rw [lg_entry_eq]
  generalize (lg_sl ([.ref a, .int (nI sg)]) ++ List.replicate (2 - (lg_sl ([.ref a, .int (nI sg)])).length) Slot.unset).toArray = ls at hl ⊢
  have hl : lv_has ls 2 [(0, .ref a), (1, .int (nI sg))] := hl
  obtain ⟨hr0, hr1, hr2, hr3, hr4, hr5, hr6, hr7⟩ := id hri
  refine lv_iload_n hx hb dX1_takeMember_0 rfl (lv_at hl 1 rfl) ?_
  refine z_E (va_runS (As := [.int (nI sg)]) (rest := []) ⟨hx, hb, hml, hown, hts⟩ (zc_X1_isMember l D cA sg (by omega)) (va_cwS 1 hts gX1_takeMember_X1_isMember rfl rfl rfl zy_X1_isMember.2 ⟨Nat.le_of_ble_eq_true rfl, Nat.le_of_ble_eq_true rfl⟩) (z_preS hK z_P0 (z_D0 (A := fun _ => True))) rfl rfl hl.1 rfl (lv_room (Nat.le_of_ble_eq_true rfl)) dX1_takeMember_1 ⟨Nat.zero_le _, Nat.zero_le _⟩) rfl ?_
  refine lv_if_ne (tgt := 9) hx hb dX1_takeMember_4 (by decide) (fun c_1 => ?_) (fun c_1 => ?_)
  · have hd9 := zq_rm c_1
    refine lv_aload_n hx hb dX1_takeMember_9 rfl (lv_at hl 0 rfl) ?_
    refine lv_iload_n hx hb dX1_takeMember_10 rfl (lv_at hl 1 rfl) ?_
    refine lv_bipush (v := 48) hx hb dX1_takeMember_11 (by decide) ?_
    refine lv_isub hx hb dX1_takeMember_13 ?_
    refine z_top (pk_sub (a := sg) (b := 48) (by omega)) ?_
    refine va_put (D := D) (ci := 1) (v := .int (nI (sg - 48))) (ty := .int) (C := RX1) (T := TX1) (N := 6) hx hb hts hi1 tyX1 tyX1_ok nmX1 hown hK hP hD hS 0 rfl rfl 2 (by decide) (hts (.fieldLink RX1 58 "PledgedLoans$OrderReader" "member" "I") (List.mem_of_getElem? (i := 1) rfl)) (fun _ h9 => h9) rfl (by decide +kernel) rfl rfl (Nat.le_of_ble_eq_true rfl) dX1_takeMember_14 (fun H locs hP9 hD9 hS9 => ?_)
    replace hP : va_P D vwCl (rdW a (va_up r 2 (sg - 48))) H := hP9
    replace hD : va_D _ (rdW a (va_up r 2 (sg - 48))) := hD9
    replace hS := hS9
    clear hP9 hD9 hS9
    refine lv_aload_n hx hb dX1_takeMember_17 rfl (lv_at hl 0 rfl) ?_
    refine lv_aload_n hx hb dX1_takeMember_18 rfl (lv_at hl 0 rfl) ?_
    refine va_get (D := D) (ci := 1) (v := .int (nI ((va_up r 2 (sg - 48)) 1))) (C := RX1) (T := TX1) (N := 6) hx hb hts hi1 hown hK hP 0 rfl rfl 1 (by decide) (hts (.fieldLink RX1 15 "PledgedLoans$OrderReader" "kind" "C") (List.mem_of_getElem? (i := 2) rfl)) (fun _ h9 => h9) rfl dX1_takeMember_19 ?_
    refine z_top (y := nI (r 1)) rfl ?_
    refine lv_bipush (v := 112) hx hb dX1_takeMember_22 (by decide) ?_
    refine lv_icmp_ne (tgt := 31) hx hb dX1_takeMember_24 (by decide) (fun c_3 => ?_) (fun c_3 => ?_)
    · have c_3 : ¬ (r 1) = 112 := fun h9 => c_3 ((nI_eq (a := (r 1)) (b := 112) (by omega) (by omega)).mpr h9)
      refine lv_iconst (v := 4) hx hb dX1_takeMember_31 (by decide) ?_
      refine va_put (D := D) (ci := 1) (v := .int 4) (ty := .int) (C := RX1) (T := TX1) (N := 6) hx hb hts hi1 tyX1 tyX1_ok nmX1 hown hK hP hD hS 0 rfl rfl 0 (by decide) (hts (.fieldLink RX1 11 "PledgedLoans$OrderReader" "stage" "I") (List.mem_of_getElem? (i := 3) rfl)) (fun _ h9 => h9) rfl (by decide +kernel) rfl rfl (Nat.le_of_ble_eq_true rfl) dX1_takeMember_32 (fun H locs hP9 hD9 hS9 => ?_)
      replace hP : va_P D vwCl (rdW a (va_up (va_up r 2 (sg - 48)) 0 4)) H := hP9
      replace hD : va_D _ (rdW a (va_up (va_up r 2 (sg - 48)) 0 4)) := hD9
      replace hS := hS9
      clear hP9 hD9 hS9
      refine lv_iconst (v := 1) hx hb dX1_takeMember_35 (by decide) ?_
      exact z_zretM (w1 := rdW a (va_up (va_up r 2 (sg - 48)) 0 4)) hx hb hr hlocks dX1_takeMember_36 hP hS rfl (by simp only [f_X1_takeMember, if_neg c_1, if_neg c_3]) (by simp only [f_X1_takeMember, if_neg c_1, if_neg c_3])
    · have c_3 : (r 1) = 112 := (nI_eq (a := (r 1)) (b := 112) (by omega) (by omega)).mp c_3
      refine lv_iconst (v := 2) hx hb dX1_takeMember_27 (by decide) ?_
      refine lv_goto (tgt := 32) hx hb dX1_takeMember_28 (by decide) ?_
      refine va_put (D := D) (ci := 1) (v := .int 2) (ty := .int) (C := RX1) (T := TX1) (N := 6) hx hb hts hi1 tyX1 tyX1_ok nmX1 hown hK hP hD hS 0 rfl rfl 0 (by decide) (hts (.fieldLink RX1 11 "PledgedLoans$OrderReader" "stage" "I") (List.mem_of_getElem? (i := 3) rfl)) (fun _ h9 => h9) rfl (by decide +kernel) rfl rfl (Nat.le_of_ble_eq_true rfl) dX1_takeMember_32 (fun H locs hP9 hD9 hS9 => ?_)
      replace hP : va_P D vwCl (rdW a (va_up (va_up r 2 (sg - 48)) 0 2)) H := hP9
      replace hD : va_D _ (rdW a (va_up (va_up r 2 (sg - 48)) 0 2)) := hD9
      replace hS := hS9
      clear hP9 hD9 hS9
      refine lv_iconst (v := 1) hx hb dX1_takeMember_35 (by decide) ?_
      exact z_zretM (w1 := rdW a (va_up (va_up r 2 (sg - 48)) 0 2)) hx hb hr hlocks dX1_takeMember_36 hP hS rfl (by simp only [f_X1_takeMember, if_neg c_1, if_pos c_3]) (by simp only [f_X1_takeMember, if_neg c_1, if_pos c_3])
  · refine lv_iconst (v := 0) hx hb dX1_takeMember_7 (by decide) ?_
    exact z_zretM (w1 := rdW a r) hx hb hr hlocks dX1_takeMember_8 hP hS rfl (by simp only [f_X1_takeMember, if_pos c_1]) (by simp only [f_X1_takeMember, if_pos c_1])

theorem zy_X1_takeBorrower : yX1_takeBorrower.cls = RX1 ∧ yX1_takeBorrower.cls ≠ "java/lang/invoke/MethodHandle" ∧ yX1_takeBorrower.cls ≠ "java/lang/invoke/VarHandle" ∧ (parseMethodDescriptor yX1_takeBorrower.desc).map (fun d => d.parameters.length) = some 1 := by decide +kernel
def f_X1_takeBorrower (r : Nat → Nat) (sg : Nat) : Int32 × (Nat → Nat) :=
  if (f_X1_isMember sg) = 0 then
    (0, r)
  else
    if (sg - 48) = (r 2) then
      (0, r)
    else
      (1, va_up (va_up r 3 (sg - 48)) 0 4)

theorem zb_X1_takeBorrower (r : Nat → Nat) (sg : Nat) : narrow .boolean (.int ((f_X1_takeBorrower r sg).1)) = .int ((f_X1_takeBorrower r sg).1) := by
  unfold f_X1_takeBorrower; repeat' split
  all_goals (first | rfl | (dsimp only; rfl))
set_option maxHeartbeats 4000000 in
set_option maxRecDepth 100000 in
theorem zc_X1_takeBorrower (l : Launch) (D : va_G) (cA : Nat → ClassId) (a : Nat) (r : Nat → Nat) (sg : Nat) (hsg : sg < 128) (hri : zRI r) : Met l yX1_takeBorrower wsX1_takeBorrower (zrm 1 20) (zPc D cA [.ref a, .int (nI sg)] (rdW a r)) (zM D (rdW a r) (rdW a ((f_X1_takeBorrower r sg).2)) (some (.int ((f_X1_takeBorrower r sg).1)))) 0 0 (zfr (rdW a r)) := by
  refine Met.ofW (cc := cX1_takeBorrower) (maxL := 2) (ret := (some .boolean)) (by decide) rfl ?_
  intro p e s m args below meth c s₁ Bd hml hv
  obtain ⟨rfl, hP, hK, hD0⟩ := hv
  have hx := Bd.exec
  have hb := Bd.bytes
  have hr := Bd.returns
  have hts := atoms_spec (ws := wsX1_takeBorrower) Bd.pre
  have hown : s.vm.findClass RX1 = some m.cls := findClass_of_methodNamed Bd.named
  have hlocks := Bd.notSynchronized
  have hD := z_Dfr hD0
  have hS : va_S (zfr (rdW a r)) s.heap s.heap [] := va_S.rf
  have hi1 : ∀ w ∈ wsX10, w ∈ wsX1_takeBorrower := fun w h => List.mem_cons_of_mem _ (List.mem_append_right _ h)
  have hl := lv_entry ([.ref a, .int (nI sg)]) (n := 2) (Nat.le_of_ble_eq_true rfl)
  rw [lg_entry_eq]
  generalize (lg_sl ([.ref a, .int (nI sg)]) ++ List.replicate (2 - (lg_sl ([.ref a, .int (nI sg)])).length) Slot.unset).toArray = ls at hl ⊢
  have hl : lv_has ls 2 [(0, .ref a), (1, .int (nI sg))] := hl
  obtain ⟨hr0, hr1, hr2, hr3, hr4, hr5, hr6, hr7⟩ := id hri
  refine lv_iload_n hx hb dX1_takeBorrower_0 rfl (lv_at hl 1 rfl) ?_
  refine z_E (va_runS (As := [.int (nI sg)]) (rest := []) ⟨hx, hb, hml, hown, hts⟩ (zc_X1_isMember l D cA sg (by omega)) (va_cwS 1 hts gX1_takeBorrower_X1_isMember rfl rfl rfl zy_X1_isMember.2 ⟨Nat.le_of_ble_eq_true rfl, Nat.le_of_ble_eq_true rfl⟩) (z_preS hK z_P0 (z_D0 (A := fun _ => True))) rfl rfl hl.1 rfl (lv_room (Nat.le_of_ble_eq_true rfl)) dX1_takeBorrower_1 ⟨Nat.zero_le _, Nat.zero_le _⟩) rfl ?_
  refine lv_if_eq (tgt := 18) hx hb dX1_takeBorrower_4 (by decide) (fun c_1 => ?_) (fun c_1 => ?_)
  · refine lv_iconst (v := 0) hx hb dX1_takeBorrower_18 (by decide) ?_
    exact z_zretM (w1 := rdW a r) hx hb hr hlocks dX1_takeBorrower_19 hP hS rfl (by simp only [f_X1_takeBorrower, if_pos c_1]) (by simp only [f_X1_takeBorrower, if_pos c_1])
  · have hd9 := zq_rm c_1
    refine lv_iload_n hx hb dX1_takeBorrower_7 rfl (lv_at hl 1 rfl) ?_
    refine lv_bipush (v := 48) hx hb dX1_takeBorrower_8 (by decide) ?_
    refine lv_isub hx hb dX1_takeBorrower_10 ?_
    refine z_top (pk_sub (a := sg) (b := 48) (by omega)) ?_
    refine lv_aload_n hx hb dX1_takeBorrower_11 rfl (lv_at hl 0 rfl) ?_
    refine va_get (D := D) (ci := 1) (v := .int (nI (r 2))) (C := RX1) (T := TX1) (N := 6) hx hb hts hi1 hown hK hP 0 rfl rfl 2 (by decide) (hts (.fieldLink RX1 58 "PledgedLoans$OrderReader" "member" "I") (List.mem_of_getElem? (i := 1) rfl)) (fun _ h9 => h9) rfl dX1_takeBorrower_12 ?_
    refine lv_icmp_ne (tgt := 20) hx hb dX1_takeBorrower_15 (by decide) (fun c_2 => ?_) (fun c_2 => ?_)
    · have c_2 : ¬ (sg - 48) = (r 2) := fun h9 => c_2 ((nI_eq (a := (sg - 48)) (b := (r 2)) (by omega) (by omega)).mpr h9)
      refine lv_aload_n hx hb dX1_takeBorrower_20 rfl (lv_at hl 0 rfl) ?_
      refine lv_iload_n hx hb dX1_takeBorrower_21 rfl (lv_at hl 1 rfl) ?_
      refine lv_bipush (v := 48) hx hb dX1_takeBorrower_22 (by decide) ?_
      refine lv_isub hx hb dX1_takeBorrower_24 ?_
      refine z_top (pk_sub (a := sg) (b := 48) (by omega)) ?_
      refine va_put (D := D) (ci := 1) (v := .int (nI (sg - 48))) (ty := .int) (C := RX1) (T := TX1) (N := 6) hx hb hts hi1 tyX1 tyX1_ok nmX1 hown hK hP hD hS 0 rfl rfl 3 (by decide) (hts (.fieldLink RX1 61 "PledgedLoans$OrderReader" "borrower" "I") (List.mem_of_getElem? (i := 2) rfl)) (fun _ h9 => h9) rfl (by decide +kernel) rfl rfl (Nat.le_of_ble_eq_true rfl) dX1_takeBorrower_25 (fun H locs hP9 hD9 hS9 => ?_)
      replace hP : va_P D vwCl (rdW a (va_up r 3 (sg - 48))) H := hP9
      replace hD : va_D _ (rdW a (va_up r 3 (sg - 48))) := hD9
      replace hS := hS9
      clear hP9 hD9 hS9
      refine lv_aload_n hx hb dX1_takeBorrower_28 rfl (lv_at hl 0 rfl) ?_
      refine lv_iconst (v := 4) hx hb dX1_takeBorrower_29 (by decide) ?_
      refine va_put (D := D) (ci := 1) (v := .int 4) (ty := .int) (C := RX1) (T := TX1) (N := 6) hx hb hts hi1 tyX1 tyX1_ok nmX1 hown hK hP hD hS 0 rfl rfl 0 (by decide) (hts (.fieldLink RX1 11 "PledgedLoans$OrderReader" "stage" "I") (List.mem_of_getElem? (i := 3) rfl)) (fun _ h9 => h9) rfl (by decide +kernel) rfl rfl (Nat.le_of_ble_eq_true rfl) dX1_takeBorrower_30 (fun H locs hP9 hD9 hS9 => ?_)
      replace hP : va_P D vwCl (rdW a (va_up (va_up r 3 (sg - 48)) 0 4)) H := hP9
      replace hD : va_D _ (rdW a (va_up (va_up r 3 (sg - 48)) 0 4)) := hD9
      replace hS := hS9
      clear hP9 hD9 hS9
      refine lv_iconst (v := 1) hx hb dX1_takeBorrower_33 (by decide) ?_
      exact z_zretM (w1 := rdW a (va_up (va_up r 3 (sg - 48)) 0 4)) hx hb hr hlocks dX1_takeBorrower_34 hP hS rfl (by simp only [f_X1_takeBorrower, if_neg c_1, if_neg c_2]) (by simp only [f_X1_takeBorrower, if_neg c_1, if_neg c_2])
    · have c_2 : (sg - 48) = (r 2) := (nI_eq (a := (sg - 48)) (b := (r 2)) (by omega) (by omega)).mp c_2
      refine lv_iconst (v := 0) hx hb dX1_takeBorrower_18 (by decide) ?_
      exact z_zretM (w1 := rdW a r) hx hb hr hlocks dX1_takeBorrower_19 hP hS rfl (by simp only [f_X1_takeBorrower, if_neg c_1, if_pos c_2]) (by simp only [f_X1_takeBorrower, if_neg c_1, if_pos c_2])

theorem zy_X1_takeMark : yX1_takeMark.cls = RX1 ∧ yX1_takeMark.cls ≠ "java/lang/invoke/MethodHandle" ∧ yX1_takeMark.cls ≠ "java/lang/invoke/VarHandle" ∧ (parseMethodDescriptor yX1_takeMark.desc).map (fun d => d.parameters.length) = some 3 := by decide +kernel
def f_X1_takeMark (r : Nat → Nat) (sg : Nat) (mk : Nat) (nx : Nat) : Int32 × (Nat → Nat) :=
  if sg = mk then
    (1, va_up r 0 nx)
  else
    (0, r)

theorem zb_X1_takeMark (r : Nat → Nat) (sg : Nat) (mk : Nat) (nx : Nat) : narrow .boolean (.int ((f_X1_takeMark r sg mk nx).1)) = .int ((f_X1_takeMark r sg mk nx).1) := by
  unfold f_X1_takeMark; repeat' split
  all_goals (first | rfl | (dsimp only; rfl))
set_option maxHeartbeats 4000000 in
set_option maxRecDepth 100000 in
theorem zc_X1_takeMark (l : Launch) (D : va_G) (cA : Nat → ClassId) (a : Nat) (r : Nat → Nat) (sg : Nat) (mk : Nat) (nx : Nat) (hsg : sg < 128) (hmk : mk < 128) (hnx : nx < 8) : Met l yX1_takeMark wsX1_takeMark (zrm 0 0) (zPc D cA [.ref a, .int (nI sg), .int (nI mk), .int (nI nx)] (rdW a r)) (zM D (rdW a r) (rdW a ((f_X1_takeMark r sg mk nx).2)) (some (.int ((f_X1_takeMark r sg mk nx).1)))) 0 0 (zfr (rdW a r)) := by
  refine Met.ofW (cc := cX1_takeMark) (maxL := 4) (ret := (some .boolean)) (by decide) rfl ?_
  intro p e s m args below meth c s₁ Bd hml hv
  obtain ⟨rfl, hP, hK, hD0⟩ := hv
  have hx := Bd.exec
  have hb := Bd.bytes
  have hr := Bd.returns
  have hts := atoms_spec (ws := wsX1_takeMark) Bd.pre
  have hown : s.vm.findClass RX1 = some m.cls := findClass_of_methodNamed Bd.named
  have hlocks := Bd.notSynchronized
  have hD := z_Dfr hD0
  have hS : va_S (zfr (rdW a r)) s.heap s.heap [] := va_S.rf
  have hi1 : ∀ w ∈ wsX10, w ∈ wsX1_takeMark := fun w h => List.mem_cons_of_mem _ (List.mem_append_right _ h)
  have hl := lv_entry ([.ref a, .int (nI sg), .int (nI mk), .int (nI nx)]) (n := 4) (Nat.le_of_ble_eq_true rfl)
  rw [lg_entry_eq]
  generalize (lg_sl ([.ref a, .int (nI sg), .int (nI mk), .int (nI nx)]) ++ List.replicate (4 - (lg_sl ([.ref a, .int (nI sg), .int (nI mk), .int (nI nx)])).length) Slot.unset).toArray = ls at hl ⊢
  have hl : lv_has ls 4 [(0, .ref a), (1, .int (nI sg)), (2, .int (nI mk)), (3, .int (nI nx))] := hl
  refine lv_iload_n hx hb dX1_takeMark_0 rfl (lv_at hl 1 rfl) ?_
  refine lv_iload_n hx hb dX1_takeMark_1 rfl (lv_at hl 2 rfl) ?_
  refine lv_icmp_eq (tgt := 7) hx hb dX1_takeMark_2 (by decide) (fun c_1 => ?_) (fun c_1 => ?_)
  · have c_1 : sg = mk := (nI_eq (a := sg) (b := mk) (by omega) (by omega)).mp c_1
    refine lv_aload_n hx hb dX1_takeMark_7 rfl (lv_at hl 0 rfl) ?_
    refine lv_iload_n hx hb dX1_takeMark_8 rfl (lv_at hl 3 rfl) ?_
    refine va_put (D := D) (ci := 1) (v := .int (nI nx)) (ty := .int) (C := RX1) (T := TX1) (N := 6) hx hb hts hi1 tyX1 tyX1_ok nmX1 hown hK hP hD hS 0 rfl rfl 0 (by decide) (hts (.fieldLink RX1 11 "PledgedLoans$OrderReader" "stage" "I") (List.mem_of_getElem? (i := 1) rfl)) (fun _ h9 => h9) rfl (by decide +kernel) rfl rfl (Nat.le_of_ble_eq_true rfl) dX1_takeMark_9 (fun H locs hP9 hD9 hS9 => ?_)
    replace hP : va_P D vwCl (rdW a (va_up r 0 nx)) H := hP9
    replace hD : va_D _ (rdW a (va_up r 0 nx)) := hD9
    replace hS := hS9
    clear hP9 hD9 hS9
    refine lv_iconst (v := 1) hx hb dX1_takeMark_12 (by decide) ?_
    exact z_zretM (w1 := rdW a (va_up r 0 nx)) hx hb hr hlocks dX1_takeMark_13 hP hS rfl (by simp only [f_X1_takeMark, if_pos c_1]) (by simp only [f_X1_takeMark, if_pos c_1])
  · have c_1 : ¬ sg = mk := fun h9 => c_1 ((nI_eq (a := sg) (b := mk) (by omega) (by omega)).mpr h9)
    refine lv_iconst (v := 0) hx hb dX1_takeMark_5 (by decide) ?_
    exact z_zretM (w1 := rdW a r) hx hb hr hlocks dX1_takeMark_6 hP hS rfl (by simp only [f_X1_takeMark, if_neg c_1]) (by simp only [f_X1_takeMark, if_neg c_1])

theorem zy_X1_longer : yX1_longer.cls = RX1 ∧ yX1_longer.cls ≠ "java/lang/invoke/MethodHandle" ∧ yX1_longer.cls ≠ "java/lang/invoke/VarHandle" ∧ (parseMethodDescriptor yX1_longer.desc).map (fun d => d.parameters.length) = some 3 := by decide +kernel
def f_X1_longer (nm : Nat) (dg : Nat) (hg : Int32) : Int32 :=
  if dg < 48 then
    (-1)
  else
    if dg ≤ 57 then
      if ((nm * 10) + (dg - 48)) < 1 then
        (-1)
      else
        if (nI ((nm * 10) + (dg - 48))) ≤ hg then
          nI ((nm * 10) + (dg - 48))
        else
          (-1)
    else
      (-1)

set_option maxHeartbeats 4000000 in
set_option maxRecDepth 100000 in
theorem zc_X1_longer (l : Launch) (D : va_G) (cA : Nat → ClassId) (nm : Nat) (dg : Nat) (hg : Int32) (hnm : nm < 10000) (hdg : dg < 128) : Met l yX1_longer wsX1_longer (zrm 0 0) (zPc D cA [.int (nI nm), .int (nI dg), .int hg] (([] : va_W))) (zE (some (.int (f_X1_longer nm dg hg)))) 0 0 (fun _ => False) := by
  refine Met.ofW (cc := cX1_longer) (maxL := 4) (ret := (some .int)) (by decide) rfl ?_
  intro p e s m args below meth c s₁ Bd hml hv
  obtain ⟨rfl, hP, hK, hD0⟩ := hv
  have hx := Bd.exec
  have hb := Bd.bytes
  have hr := Bd.returns
  have hts := atoms_spec (ws := wsX1_longer) Bd.pre
  have hown : s.vm.findClass RX1 = some m.cls := findClass_of_methodNamed Bd.named
  have hlocks := Bd.notSynchronized
  have hD := z_Dfr hD0
  have hS : va_S (zfr (([] : va_W))) s.heap s.heap [] := va_S.rf
  have hl := lv_entry ([.int (nI nm), .int (nI dg), .int hg]) (n := 4) (Nat.le_of_ble_eq_true rfl)
  rw [lg_entry_eq]
  generalize (lg_sl ([.int (nI nm), .int (nI dg), .int hg]) ++ List.replicate (4 - (lg_sl ([.int (nI nm), .int (nI dg), .int hg])).length) Slot.unset).toArray = ls at hl ⊢
  have hl : lv_has ls 4 [(0, .int (nI nm)), (1, .int (nI dg)), (2, .int hg)] := hl
  refine lv_iload_n hx hb dX1_longer_0 rfl (lv_at hl 1 rfl) ?_
  refine lv_bipush (v := 48) hx hb dX1_longer_1 (by decide) ?_
  refine lv_icmp_lt (tgt := 12) hx hb dX1_longer_3 (by decide) (fun c_1 => ?_) (fun c_1 => ?_)
  · have c_1 : dg < 48 := (nI_ltI (a := dg) (b := 48) (by omega) (by omega)).mp c_1
    refine lv_iconst (v := (-1)) hx hb dX1_longer_12 (by decide) ?_
    exact z_iretE hx hb hr hlocks dX1_longer_13 (by simp only [f_X1_longer, if_pos c_1])
  · have c_1 : ¬ dg < 48 := fun h9 => c_1 ((nI_ltI (a := dg) (b := 48) (by omega) (by omega)).mpr h9)
    refine lv_iload_n hx hb dX1_longer_6 rfl (lv_at hl 1 rfl) ?_
    refine lv_bipush (v := 57) hx hb dX1_longer_7 (by decide) ?_
    refine lv_icmp_le (tgt := 14) hx hb dX1_longer_9 (by decide) (fun c_2 => ?_) (fun c_2 => ?_)
    · have c_2 : dg ≤ 57 := (nI_leI (a := dg) (b := 57) (by omega) (by omega)).mp c_2
      refine lv_iload_n hx hb dX1_longer_14 rfl (lv_at hl 0 rfl) ?_
      refine lv_bipush (v := 10) hx hb dX1_longer_15 (by decide) ?_
      refine lv_imul hx hb dX1_longer_17 ?_
      refine z_top (pk_mul nm 10) ?_
      refine lv_iload_n hx hb dX1_longer_18 rfl (lv_at hl 1 rfl) ?_
      refine lv_bipush (v := 48) hx hb dX1_longer_19 (by decide) ?_
      refine lv_isub hx hb dX1_longer_21 ?_
      refine z_top (pk_sub (a := dg) (b := 48) (by omega)) ?_
      refine lv_iadd hx hb dX1_longer_22 ?_
      refine z_top (nI_add (nm * 10) (dg - 48)) ?_
      refine lv_istore_n (lv' := [(3, .int (nI ((nm * 10) + (dg - 48)))), (0, .int (nI nm)), (1, .int (nI dg)), (2, .int hg)]) hx hb dX1_longer_23 rfl hl (by decide) rfl (fun ls hl => ?_)
      refine lv_iload_n hx hb dX1_longer_24 rfl (lv_at hl 0 rfl) ?_
      refine lv_iconst (v := 1) hx hb dX1_longer_25 (by decide) ?_
      refine lv_icmp_lt (tgt := 34) hx hb dX1_longer_26 (by decide) (fun c_3 => ?_) (fun c_3 => ?_)
      · have c_3 : ((nm * 10) + (dg - 48)) < 1 := (nI_ltI (a := ((nm * 10) + (dg - 48))) (b := 1) (by omega) (by omega)).mp c_3
        refine lv_iconst (v := (-1)) hx hb dX1_longer_34 (by decide) ?_
        refine lv_goto (tgt := 39) hx hb dX1_longer_35 (by decide) ?_
        exact z_iretE hx hb hr hlocks dX1_longer_39 (by simp only [f_X1_longer, if_neg c_1, if_pos c_2, if_pos c_3])
      · have c_3 : ¬ ((nm * 10) + (dg - 48)) < 1 := fun h9 => c_3 ((nI_ltI (a := ((nm * 10) + (dg - 48))) (b := 1) (by omega) (by omega)).mpr h9)
        refine lv_iload_n hx hb dX1_longer_29 rfl (lv_at hl 0 rfl) ?_
        refine lv_iload_n hx hb dX1_longer_30 rfl (lv_at hl 3 rfl) ?_
        refine lv_icmp_le (tgt := 38) hx hb dX1_longer_31 (by decide) (fun c_4 => ?_) (fun c_4 => ?_)
        · refine lv_iload_n hx hb dX1_longer_38 rfl (lv_at hl 0 rfl) ?_
          exact z_iretE hx hb hr hlocks dX1_longer_39 (by simp only [f_X1_longer, if_neg c_1, if_pos c_2, if_neg c_3, if_pos c_4])
        · refine lv_iconst (v := (-1)) hx hb dX1_longer_34 (by decide) ?_
          refine lv_goto (tgt := 39) hx hb dX1_longer_35 (by decide) ?_
          exact z_iretE hx hb hr hlocks dX1_longer_39 (by simp only [f_X1_longer, if_neg c_1, if_pos c_2, if_neg c_3, if_neg c_4])
    · have c_2 : ¬ dg ≤ 57 := fun h9 => c_2 ((nI_leI (a := dg) (b := 57) (by omega) (by omega)).mpr h9)
      refine lv_iconst (v := (-1)) hx hb dX1_longer_12 (by decide) ?_
      exact z_iretE hx hb hr hlocks dX1_longer_13 (by simp only [f_X1_longer, if_neg c_1, if_neg c_2])

theorem zq_lg {nm dg n : Nat} {hg : Int32} (h1 : nm < 10000) (h2 : dg < 128) (hn : hg = nI n) (h : ¬ f_X1_longer nm dg hg = -1) (hb : n < 10000 := by omega) : ∃ q9 : Nat, q9 < n + 1 ∧ f_X1_longer nm dg hg = nI q9 := by
  subst hn
  unfold f_X1_longer at h ⊢
  by_cases c1 : dg < 48
  · rw [if_pos c1] at h
    exact absurd rfl h
  · rw [if_neg c1] at h ⊢
    by_cases c2 : dg ≤ 57
    · rw [if_pos c2] at h ⊢
      by_cases c3 : (nm * 10) + (dg - 48) < 1
      · rw [if_pos c3] at h
        exact absurd rfl h
      · rw [if_neg c3] at h ⊢
        by_cases c4 : nI ((nm * 10) + (dg - 48)) ≤ nI n
        · rw [if_pos c4]
          rw [nI_leI (by omega) (by omega)] at c4
          exact ⟨_, by omega, rfl⟩
        · rw [if_neg c4] at h
          exact absurd rfl h
    · rw [if_neg c2] at h
      exact absurd rfl h

theorem zy_X1_takeAmount : yX1_takeAmount.cls = RX1 ∧ yX1_takeAmount.cls ≠ "java/lang/invoke/MethodHandle" ∧ yX1_takeAmount.cls ≠ "java/lang/invoke/VarHandle" ∧ (parseMethodDescriptor yX1_takeAmount.desc).map (fun d => d.parameters.length) = some 1 := by decide +kernel
def f_X1_takeAmount (r : Nat → Nat) (sg : Nat) : Int32 × (Nat → Nat) :=
  if sg = 47 then
    if (r 1) = 98 then
      if (r 4) ≤ 0 then
        if (f_X1_longer (r 4) sg 9999) = (-1) then
          (0, r)
        else
          (1, va_up r 4 ((f_X1_longer (r 4) sg 9999).toNatClampNeg))
      else
        (1, va_up r 0 6)
    else
      if (f_X1_longer (r 4) sg 9999) = (-1) then
        (0, r)
      else
        (1, va_up r 4 ((f_X1_longer (r 4) sg 9999).toNatClampNeg))
  else
    if (f_X1_longer (r 4) sg 9999) = (-1) then
      (0, r)
    else
      (1, va_up r 4 ((f_X1_longer (r 4) sg 9999).toNatClampNeg))

theorem zb_X1_takeAmount (r : Nat → Nat) (sg : Nat) : narrow .boolean (.int ((f_X1_takeAmount r sg).1)) = .int ((f_X1_takeAmount r sg).1) := by
  unfold f_X1_takeAmount; repeat' split
  all_goals (first | rfl | (dsimp only; rfl))
set_option maxHeartbeats 4000000 in
set_option maxRecDepth 100000 in
theorem zc_X1_takeAmount (l : Launch) (D : va_G) (cA : Nat → ClassId) (a : Nat) (r : Nat → Nat) (sg : Nat) (hsg : sg < 128) (hri : zRI r) : Met l yX1_takeAmount wsX1_takeAmount (zrm 1 23) (zPc D cA [.ref a, .int (nI sg)] (rdW a r)) (zM D (rdW a r) (rdW a ((f_X1_takeAmount r sg).2)) (some (.int ((f_X1_takeAmount r sg).1)))) 0 0 (zfr (rdW a r)) := by
  refine Met.ofW (cc := cX1_takeAmount) (maxL := 3) (ret := (some .boolean)) (by decide) rfl ?_
  intro p e s m args below meth c s₁ Bd hml hv
  obtain ⟨rfl, hP, hK, hD0⟩ := hv
  have hx := Bd.exec
  have hb := Bd.bytes
  have hr := Bd.returns
  have hts := atoms_spec (ws := wsX1_takeAmount) Bd.pre
  have hown : s.vm.findClass RX1 = some m.cls := findClass_of_methodNamed Bd.named
  have hlocks := Bd.notSynchronized
  have hD := z_Dfr hD0
  have hS : va_S (zfr (rdW a r)) s.heap s.heap [] := va_S.rf
  have hi1 : ∀ w ∈ wsX10, w ∈ wsX1_takeAmount := fun w h => List.mem_cons_of_mem _ (List.mem_append_right _ h)
  have hl := lv_entry ([.ref a, .int (nI sg)]) (n := 3) (Nat.le_of_ble_eq_true rfl)
  rw [lg_entry_eq]
  generalize (lg_sl ([.ref a, .int (nI sg)]) ++ List.replicate (3 - (lg_sl ([.ref a, .int (nI sg)])).length) Slot.unset).toArray = ls at hl ⊢
  have hl : lv_has ls 3 [(0, .ref a), (1, .int (nI sg))] := hl
  obtain ⟨hr0, hr1, hr2, hr3, hr4, hr5, hr6, hr7⟩ := id hri
  refine lv_iload_n hx hb dX1_takeAmount_0 rfl (lv_at hl 1 rfl) ?_
  refine lv_bipush (v := 47) hx hb dX1_takeAmount_1 (by decide) ?_
  refine lv_icmp_ne (tgt := 30) hx hb dX1_takeAmount_3 (by decide) (fun c_1 => ?_) (fun c_1 => ?_)
  · have c_1 : ¬ sg = 47 := fun h9 => c_1 ((nI_eq (a := sg) (b := 47) (by omega) (by omega)).mpr h9)
    refine lv_aload_n hx hb dX1_takeAmount_30 rfl (lv_at hl 0 rfl) ?_
    refine va_get (D := D) (ci := 1) (v := .int (nI (r 4))) (C := RX1) (T := TX1) (N := 6) hx hb hts hi1 hown hK hP 0 rfl rfl 4 (by decide) (hts (.fieldLink RX1 19 "PledgedLoans$OrderReader" "amount" "I") (List.mem_of_getElem? (i := 2) rfl)) (fun _ h9 => h9) rfl dX1_takeAmount_31 ?_
    refine lv_iload_n hx hb dX1_takeAmount_34 rfl (lv_at hl 1 rfl) ?_
    refine lv_sipush (v := 9999) hx hb dX1_takeAmount_35 (by decide) ?_
    refine z_E (va_runS (As := [.int (nI (r 4)), .int (nI sg), .int 9999]) (rest := []) ⟨hx, hb, hml, hown, hts⟩ (zc_X1_longer l D cA (r 4) sg 9999 (by omega) (by omega)) (va_cwS 3 hts gX1_takeAmount_X1_longer rfl rfl rfl zy_X1_longer.2 ⟨Nat.le_of_ble_eq_true rfl, Nat.le_of_ble_eq_true rfl⟩) (z_preS hK z_P0 (z_D0 (A := fun _ => True))) rfl rfl hl.1 rfl (lv_room (Nat.le_of_ble_eq_true rfl)) dX1_takeAmount_38 ⟨Nat.zero_le _, Nat.zero_le _⟩) rfl ?_
    refine lv_istore_n (lv' := [(2, .int (f_X1_longer (r 4) sg 9999)), (0, .ref a), (1, .int (nI sg))]) hx hb dX1_takeAmount_41 rfl hl (by decide) rfl (fun ls hl => ?_)
    refine lv_iload_n hx hb dX1_takeAmount_42 rfl (lv_at hl 0 rfl) ?_
    refine lv_iconst (v := (-1)) hx hb dX1_takeAmount_43 (by decide) ?_
    refine lv_icmp_ne (tgt := 49) hx hb dX1_takeAmount_44 (by decide) (fun c_2 => ?_) (fun c_2 => ?_)
    · obtain ⟨q_1, hq_1, qq_1⟩ : ∃ q9 : Nat, q9 < 10000 ∧ f_X1_longer (r 4) sg 9999 = nI q9 := zq_lg (by omega) (by omega) rfl c_2
      have hcl_q_1 : (nI q_1).toNatClampNeg = q_1 := nI_clamp (by omega)
      rw [qq_1] at hl c_2
      refine lv_aload_n hx hb dX1_takeAmount_49 rfl (lv_at hl 1 rfl) ?_
      refine lv_iload_n hx hb dX1_takeAmount_50 rfl (lv_at hl 0 rfl) ?_
      refine va_put (D := D) (ci := 1) (v := .int (nI q_1)) (ty := .int) (C := RX1) (T := TX1) (N := 6) hx hb hts hi1 tyX1 tyX1_ok nmX1 hown hK hP hD hS 0 rfl rfl 4 (by decide) (hts (.fieldLink RX1 19 "PledgedLoans$OrderReader" "amount" "I") (List.mem_of_getElem? (i := 2) rfl)) (fun _ h9 => h9) rfl (by decide +kernel) rfl rfl (Nat.le_of_ble_eq_true rfl) dX1_takeAmount_51 (fun H locs hP9 hD9 hS9 => ?_)
      replace hP : va_P D vwCl (rdW a (va_up r 4 q_1)) H := hP9
      replace hD : va_D _ (rdW a (va_up r 4 q_1)) := hD9
      replace hS := hS9
      clear hP9 hD9 hS9
      refine lv_iconst (v := 1) hx hb dX1_takeAmount_54 (by decide) ?_
      exact z_zretM (w1 := rdW a (va_up r 4 q_1)) hx hb hr hlocks dX1_takeAmount_55 hP hS rfl (by simp only [f_X1_takeAmount, if_neg c_1, if_neg c_2, qq_1, hcl_q_1]) (by simp only [f_X1_takeAmount, if_neg c_1, if_neg c_2, qq_1, hcl_q_1])
    · refine lv_iconst (v := 0) hx hb dX1_takeAmount_47 (by decide) ?_
      exact z_zretM (w1 := rdW a r) hx hb hr hlocks dX1_takeAmount_48 hP hS rfl (by simp only [f_X1_takeAmount, if_neg c_1, if_pos c_2]) (by simp only [f_X1_takeAmount, if_neg c_1, if_pos c_2])
  · have c_1 : sg = 47 := (nI_eq (a := sg) (b := 47) (by omega) (by omega)).mp c_1
    refine lv_aload_n hx hb dX1_takeAmount_6 rfl (lv_at hl 0 rfl) ?_
    refine va_get (D := D) (ci := 1) (v := .int (nI (r 1))) (C := RX1) (T := TX1) (N := 6) hx hb hts hi1 hown hK hP 0 rfl rfl 1 (by decide) (hts (.fieldLink RX1 15 "PledgedLoans$OrderReader" "kind" "C") (List.mem_of_getElem? (i := 1) rfl)) (fun _ h9 => h9) rfl dX1_takeAmount_7 ?_
    refine lv_bipush (v := 98) hx hb dX1_takeAmount_10 (by decide) ?_
    refine lv_icmp_ne (tgt := 30) hx hb dX1_takeAmount_12 (by decide) (fun c_4 => ?_) (fun c_4 => ?_)
    · have c_4 : ¬ (r 1) = 98 := fun h9 => c_4 ((nI_eq (a := (r 1)) (b := 98) (by omega) (by omega)).mpr h9)
      refine lv_aload_n hx hb dX1_takeAmount_30 rfl (lv_at hl 0 rfl) ?_
      refine va_get (D := D) (ci := 1) (v := .int (nI (r 4))) (C := RX1) (T := TX1) (N := 6) hx hb hts hi1 hown hK hP 0 rfl rfl 4 (by decide) (hts (.fieldLink RX1 19 "PledgedLoans$OrderReader" "amount" "I") (List.mem_of_getElem? (i := 2) rfl)) (fun _ h9 => h9) rfl dX1_takeAmount_31 ?_
      refine lv_iload_n hx hb dX1_takeAmount_34 rfl (lv_at hl 1 rfl) ?_
      refine lv_sipush (v := 9999) hx hb dX1_takeAmount_35 (by decide) ?_
      refine z_E (va_runS (As := [.int (nI (r 4)), .int (nI sg), .int 9999]) (rest := []) ⟨hx, hb, hml, hown, hts⟩ (zc_X1_longer l D cA (r 4) sg 9999 (by omega) (by omega)) (va_cwS 3 hts gX1_takeAmount_X1_longer rfl rfl rfl zy_X1_longer.2 ⟨Nat.le_of_ble_eq_true rfl, Nat.le_of_ble_eq_true rfl⟩) (z_preS hK z_P0 (z_D0 (A := fun _ => True))) rfl rfl hl.1 rfl (lv_room (Nat.le_of_ble_eq_true rfl)) dX1_takeAmount_38 ⟨Nat.zero_le _, Nat.zero_le _⟩) rfl ?_
      refine lv_istore_n (lv' := [(2, .int (f_X1_longer (r 4) sg 9999)), (0, .ref a), (1, .int (nI sg))]) hx hb dX1_takeAmount_41 rfl hl (by decide) rfl (fun ls hl => ?_)
      refine lv_iload_n hx hb dX1_takeAmount_42 rfl (lv_at hl 0 rfl) ?_
      refine lv_iconst (v := (-1)) hx hb dX1_takeAmount_43 (by decide) ?_
      refine lv_icmp_ne (tgt := 49) hx hb dX1_takeAmount_44 (by decide) (fun c_5 => ?_) (fun c_5 => ?_)
      · obtain ⟨q_1, hq_1, qq_1⟩ : ∃ q9 : Nat, q9 < 10000 ∧ f_X1_longer (r 4) sg 9999 = nI q9 := zq_lg (by omega) (by omega) rfl c_5
        have hcl_q_1 : (nI q_1).toNatClampNeg = q_1 := nI_clamp (by omega)
        rw [qq_1] at hl c_5
        refine lv_aload_n hx hb dX1_takeAmount_49 rfl (lv_at hl 1 rfl) ?_
        refine lv_iload_n hx hb dX1_takeAmount_50 rfl (lv_at hl 0 rfl) ?_
        refine va_put (D := D) (ci := 1) (v := .int (nI q_1)) (ty := .int) (C := RX1) (T := TX1) (N := 6) hx hb hts hi1 tyX1 tyX1_ok nmX1 hown hK hP hD hS 0 rfl rfl 4 (by decide) (hts (.fieldLink RX1 19 "PledgedLoans$OrderReader" "amount" "I") (List.mem_of_getElem? (i := 2) rfl)) (fun _ h9 => h9) rfl (by decide +kernel) rfl rfl (Nat.le_of_ble_eq_true rfl) dX1_takeAmount_51 (fun H locs hP9 hD9 hS9 => ?_)
        replace hP : va_P D vwCl (rdW a (va_up r 4 q_1)) H := hP9
        replace hD : va_D _ (rdW a (va_up r 4 q_1)) := hD9
        replace hS := hS9
        clear hP9 hD9 hS9
        refine lv_iconst (v := 1) hx hb dX1_takeAmount_54 (by decide) ?_
        exact z_zretM (w1 := rdW a (va_up r 4 q_1)) hx hb hr hlocks dX1_takeAmount_55 hP hS rfl (by simp only [f_X1_takeAmount, if_pos c_1, if_neg c_4, if_neg c_5, qq_1, hcl_q_1]) (by simp only [f_X1_takeAmount, if_pos c_1, if_neg c_4, if_neg c_5, qq_1, hcl_q_1])
      · refine lv_iconst (v := 0) hx hb dX1_takeAmount_47 (by decide) ?_
        exact z_zretM (w1 := rdW a r) hx hb hr hlocks dX1_takeAmount_48 hP hS rfl (by simp only [f_X1_takeAmount, if_pos c_1, if_neg c_4, if_pos c_5]) (by simp only [f_X1_takeAmount, if_pos c_1, if_neg c_4, if_pos c_5])
    · have c_4 : (r 1) = 98 := (nI_eq (a := (r 1)) (b := 98) (by omega) (by omega)).mp c_4
      refine lv_aload_n hx hb dX1_takeAmount_15 rfl (lv_at hl 0 rfl) ?_
      refine va_get (D := D) (ci := 1) (v := .int (nI (r 4))) (C := RX1) (T := TX1) (N := 6) hx hb hts hi1 hown hK hP 0 rfl rfl 4 (by decide) (hts (.fieldLink RX1 19 "PledgedLoans$OrderReader" "amount" "I") (List.mem_of_getElem? (i := 2) rfl)) (fun _ h9 => h9) rfl dX1_takeAmount_16 ?_
      refine lv_if_le (tgt := 30) hx hb dX1_takeAmount_19 (by decide) (fun c_7 => ?_) (fun c_7 => ?_)
      · have c_7 : (r 4) ≤ 0 := (nI_leI (a := (r 4)) (b := 0) (by omega) (by omega)).mp c_7
        refine lv_aload_n hx hb dX1_takeAmount_30 rfl (lv_at hl 0 rfl) ?_
        refine va_get (D := D) (ci := 1) (v := .int (nI (r 4))) (C := RX1) (T := TX1) (N := 6) hx hb hts hi1 hown hK hP 0 rfl rfl 4 (by decide) (hts (.fieldLink RX1 19 "PledgedLoans$OrderReader" "amount" "I") (List.mem_of_getElem? (i := 2) rfl)) (fun _ h9 => h9) rfl dX1_takeAmount_31 ?_
        refine lv_iload_n hx hb dX1_takeAmount_34 rfl (lv_at hl 1 rfl) ?_
        refine lv_sipush (v := 9999) hx hb dX1_takeAmount_35 (by decide) ?_
        refine z_E (va_runS (As := [.int (nI (r 4)), .int (nI sg), .int 9999]) (rest := []) ⟨hx, hb, hml, hown, hts⟩ (zc_X1_longer l D cA (r 4) sg 9999 (by omega) (by omega)) (va_cwS 3 hts gX1_takeAmount_X1_longer rfl rfl rfl zy_X1_longer.2 ⟨Nat.le_of_ble_eq_true rfl, Nat.le_of_ble_eq_true rfl⟩) (z_preS hK z_P0 (z_D0 (A := fun _ => True))) rfl rfl hl.1 rfl (lv_room (Nat.le_of_ble_eq_true rfl)) dX1_takeAmount_38 ⟨Nat.zero_le _, Nat.zero_le _⟩) rfl ?_
        refine lv_istore_n (lv' := [(2, .int (f_X1_longer (r 4) sg 9999)), (0, .ref a), (1, .int (nI sg))]) hx hb dX1_takeAmount_41 rfl hl (by decide) rfl (fun ls hl => ?_)
        refine lv_iload_n hx hb dX1_takeAmount_42 rfl (lv_at hl 0 rfl) ?_
        refine lv_iconst (v := (-1)) hx hb dX1_takeAmount_43 (by decide) ?_
        refine lv_icmp_ne (tgt := 49) hx hb dX1_takeAmount_44 (by decide) (fun c_8 => ?_) (fun c_8 => ?_)
        · obtain ⟨q_1, hq_1, qq_1⟩ : ∃ q9 : Nat, q9 < 10000 ∧ f_X1_longer (r 4) sg 9999 = nI q9 := zq_lg (by omega) (by omega) rfl c_8
          have hcl_q_1 : (nI q_1).toNatClampNeg = q_1 := nI_clamp (by omega)
          rw [qq_1] at hl c_8
          refine lv_aload_n hx hb dX1_takeAmount_49 rfl (lv_at hl 1 rfl) ?_
          refine lv_iload_n hx hb dX1_takeAmount_50 rfl (lv_at hl 0 rfl) ?_
          refine va_put (D := D) (ci := 1) (v := .int (nI q_1)) (ty := .int) (C := RX1) (T := TX1) (N := 6) hx hb hts hi1 tyX1 tyX1_ok nmX1 hown hK hP hD hS 0 rfl rfl 4 (by decide) (hts (.fieldLink RX1 19 "PledgedLoans$OrderReader" "amount" "I") (List.mem_of_getElem? (i := 2) rfl)) (fun _ h9 => h9) rfl (by decide +kernel) rfl rfl (Nat.le_of_ble_eq_true rfl) dX1_takeAmount_51 (fun H locs hP9 hD9 hS9 => ?_)
          replace hP : va_P D vwCl (rdW a (va_up r 4 q_1)) H := hP9
          replace hD : va_D _ (rdW a (va_up r 4 q_1)) := hD9
          replace hS := hS9
          clear hP9 hD9 hS9
          refine lv_iconst (v := 1) hx hb dX1_takeAmount_54 (by decide) ?_
          exact z_zretM (w1 := rdW a (va_up r 4 q_1)) hx hb hr hlocks dX1_takeAmount_55 hP hS rfl (by simp only [f_X1_takeAmount, if_pos c_1, if_pos c_4, if_pos c_7, if_neg c_8, qq_1, hcl_q_1]) (by simp only [f_X1_takeAmount, if_pos c_1, if_pos c_4, if_pos c_7, if_neg c_8, qq_1, hcl_q_1])
        · refine lv_iconst (v := 0) hx hb dX1_takeAmount_47 (by decide) ?_
          exact z_zretM (w1 := rdW a r) hx hb hr hlocks dX1_takeAmount_48 hP hS rfl (by simp only [f_X1_takeAmount, if_pos c_1, if_pos c_4, if_pos c_7, if_pos c_8]) (by simp only [f_X1_takeAmount, if_pos c_1, if_pos c_4, if_pos c_7, if_pos c_8])
      · have c_7 : ¬ (r 4) ≤ 0 := fun h9 => c_7 ((nI_leI (a := (r 4)) (b := 0) (by omega) (by omega)).mpr h9)
        refine lv_aload_n hx hb dX1_takeAmount_22 rfl (lv_at hl 0 rfl) ?_
        refine lv_bipush (v := 6) hx hb dX1_takeAmount_23 (by decide) ?_
        refine va_put (D := D) (ci := 1) (v := .int 6) (ty := .int) (C := RX1) (T := TX1) (N := 6) hx hb hts hi1 tyX1 tyX1_ok nmX1 hown hK hP hD hS 0 rfl rfl 0 (by decide) (hts (.fieldLink RX1 11 "PledgedLoans$OrderReader" "stage" "I") (List.mem_of_getElem? (i := 3) rfl)) (fun _ h9 => h9) rfl (by decide +kernel) rfl rfl (Nat.le_of_ble_eq_true rfl) dX1_takeAmount_25 (fun H locs hP9 hD9 hS9 => ?_)
        replace hP : va_P D vwCl (rdW a (va_up r 0 6)) H := hP9
        replace hD : va_D _ (rdW a (va_up r 0 6)) := hD9
        replace hS := hS9
        clear hP9 hD9 hS9
        refine lv_iconst (v := 1) hx hb dX1_takeAmount_28 (by decide) ?_
        exact z_zretM (w1 := rdW a (va_up r 0 6)) hx hb hr hlocks dX1_takeAmount_29 hP hS rfl (by simp only [f_X1_takeAmount, if_pos c_1, if_pos c_4, if_neg c_7]) (by simp only [f_X1_takeAmount, if_pos c_1, if_pos c_4, if_neg c_7])

theorem zy_X1_takeWeeks : yX1_takeWeeks.cls = RX1 ∧ yX1_takeWeeks.cls ≠ "java/lang/invoke/MethodHandle" ∧ yX1_takeWeeks.cls ≠ "java/lang/invoke/VarHandle" ∧ (parseMethodDescriptor yX1_takeWeeks.desc).map (fun d => d.parameters.length) = some 1 := by decide +kernel
def f_X1_takeWeeks (r : Nat → Nat) (sg : Nat) : Int32 × (Nat → Nat) :=
  if (f_X1_longer (r 5) sg 52) = (-1) then
    (0, r)
  else
    (1, va_up r 5 ((f_X1_longer (r 5) sg 52).toNatClampNeg))

theorem zb_X1_takeWeeks (r : Nat → Nat) (sg : Nat) : narrow .boolean (.int ((f_X1_takeWeeks r sg).1)) = .int ((f_X1_takeWeeks r sg).1) := by
  unfold f_X1_takeWeeks; repeat' split
  all_goals (first | rfl | (dsimp only; rfl))
set_option maxHeartbeats 4000000 in
set_option maxRecDepth 100000 in
theorem zc_X1_takeWeeks (l : Launch) (D : va_G) (cA : Nat → ClassId) (a : Nat) (r : Nat → Nat) (sg : Nat) (hsg : sg < 128) (hri : zRI r) : Met l yX1_takeWeeks wsX1_takeWeeks (zrm 1 23) (zPc D cA [.ref a, .int (nI sg)] (rdW a r)) (zM D (rdW a r) (rdW a ((f_X1_takeWeeks r sg).2)) (some (.int ((f_X1_takeWeeks r sg).1)))) 0 0 (zfr (rdW a r)) := by
  refine Met.ofW (cc := cX1_takeWeeks) (maxL := 3) (ret := (some .boolean)) (by decide) rfl ?_
  intro p e s m args below meth c s₁ Bd hml hv
  obtain ⟨rfl, hP, hK, hD0⟩ := hv
  have hx := Bd.exec
  have hb := Bd.bytes
  have hr := Bd.returns
  have hts := atoms_spec (ws := wsX1_takeWeeks) Bd.pre
  have hown : s.vm.findClass RX1 = some m.cls := findClass_of_methodNamed Bd.named
  have hlocks := Bd.notSynchronized
  have hD := z_Dfr hD0
  have hS : va_S (zfr (rdW a r)) s.heap s.heap [] := va_S.rf
  have hi1 : ∀ w ∈ wsX10, w ∈ wsX1_takeWeeks := fun w h => List.mem_cons_of_mem _ (List.mem_append_right _ h)
  have hl := lv_entry ([.ref a, .int (nI sg)]) (n := 3) (Nat.le_of_ble_eq_true rfl)
  rw [lg_entry_eq]
  generalize (lg_sl ([.ref a, .int (nI sg)]) ++ List.replicate (3 - (lg_sl ([.ref a, .int (nI sg)])).length) Slot.unset).toArray = ls at hl ⊢
  have hl : lv_has ls 3 [(0, .ref a), (1, .int (nI sg))] := hl
  obtain ⟨hr0, hr1, hr2, hr3, hr4, hr5, hr6, hr7⟩ := id hri
  refine lv_aload_n hx hb dX1_takeWeeks_0 rfl (lv_at hl 0 rfl) ?_
  refine va_get (D := D) (ci := 1) (v := .int (nI (r 5))) (C := RX1) (T := TX1) (N := 6) hx hb hts hi1 hown hK hP 0 rfl rfl 5 (by decide) (hts (.fieldLink RX1 22 "PledgedLoans$OrderReader" "weeks" "I") (List.mem_of_getElem? (i := 1) rfl)) (fun _ h9 => h9) rfl dX1_takeWeeks_1 ?_
  refine lv_iload_n hx hb dX1_takeWeeks_4 rfl (lv_at hl 1 rfl) ?_
  refine lv_bipush (v := 52) hx hb dX1_takeWeeks_5 (by decide) ?_
  refine z_E (va_runS (As := [.int (nI (r 5)), .int (nI sg), .int 52]) (rest := []) ⟨hx, hb, hml, hown, hts⟩ (zc_X1_longer l D cA (r 5) sg 52 (by omega) (by omega)) (va_cwS 3 hts gX1_takeWeeks_X1_longer rfl rfl rfl zy_X1_longer.2 ⟨Nat.le_of_ble_eq_true rfl, Nat.le_of_ble_eq_true rfl⟩) (z_preS hK z_P0 (z_D0 (A := fun _ => True))) rfl rfl hl.1 rfl (lv_room (Nat.le_of_ble_eq_true rfl)) dX1_takeWeeks_7 ⟨Nat.zero_le _, Nat.zero_le _⟩) rfl ?_
  refine lv_istore_n (lv' := [(2, .int (f_X1_longer (r 5) sg 52)), (0, .ref a), (1, .int (nI sg))]) hx hb dX1_takeWeeks_10 rfl hl (by decide) rfl (fun ls hl => ?_)
  refine lv_iload_n hx hb dX1_takeWeeks_11 rfl (lv_at hl 0 rfl) ?_
  refine lv_iconst (v := (-1)) hx hb dX1_takeWeeks_12 (by decide) ?_
  refine lv_icmp_ne (tgt := 18) hx hb dX1_takeWeeks_13 (by decide) (fun c_1 => ?_) (fun c_1 => ?_)
  · obtain ⟨q_1, hq_1, qq_1⟩ : ∃ q9 : Nat, q9 < 53 ∧ f_X1_longer (r 5) sg 52 = nI q9 := zq_lg (by omega) (by omega) rfl c_1
    have hcl_q_1 : (nI q_1).toNatClampNeg = q_1 := nI_clamp (by omega)
    rw [qq_1] at hl c_1
    refine lv_aload_n hx hb dX1_takeWeeks_18 rfl (lv_at hl 1 rfl) ?_
    refine lv_iload_n hx hb dX1_takeWeeks_19 rfl (lv_at hl 0 rfl) ?_
    refine va_put (D := D) (ci := 1) (v := .int (nI q_1)) (ty := .int) (C := RX1) (T := TX1) (N := 6) hx hb hts hi1 tyX1 tyX1_ok nmX1 hown hK hP hD hS 0 rfl rfl 5 (by decide) (hts (.fieldLink RX1 22 "PledgedLoans$OrderReader" "weeks" "I") (List.mem_of_getElem? (i := 1) rfl)) (fun _ h9 => h9) rfl (by decide +kernel) rfl rfl (Nat.le_of_ble_eq_true rfl) dX1_takeWeeks_20 (fun H locs hP9 hD9 hS9 => ?_)
    replace hP : va_P D vwCl (rdW a (va_up r 5 q_1)) H := hP9
    replace hD : va_D _ (rdW a (va_up r 5 q_1)) := hD9
    replace hS := hS9
    clear hP9 hD9 hS9
    refine lv_iconst (v := 1) hx hb dX1_takeWeeks_23 (by decide) ?_
    exact z_zretM (w1 := rdW a (va_up r 5 q_1)) hx hb hr hlocks dX1_takeWeeks_24 hP hS rfl (by simp only [f_X1_takeWeeks, if_neg c_1, qq_1, hcl_q_1]) (by simp only [f_X1_takeWeeks, if_neg c_1, qq_1, hcl_q_1])
  · refine lv_iconst (v := 0) hx hb dX1_takeWeeks_16 (by decide) ?_
    exact z_zretM (w1 := rdW a r) hx hb hr hlocks dX1_takeWeeks_17 hP hS rfl (by simp only [f_X1_takeWeeks, if_pos c_1]) (by simp only [f_X1_takeWeeks, if_pos c_1])

theorem zy_X1_take : yX1_take.cls = RX1 ∧ yX1_take.cls ≠ "java/lang/invoke/MethodHandle" ∧ yX1_take.cls ≠ "java/lang/invoke/VarHandle" ∧ (parseMethodDescriptor yX1_take.desc).map (fun d => d.parameters.length) = some 1 := by decide +kernel
def f_X1_take (r : Nat → Nat) (sg : Nat) : Int32 × (Nat → Nat) :=
  if sg = 59 then
    let N_9 : Nat → Nat := (f_X1_takeEnd r).2
    ((f_X1_takeEnd r).1, N_9)
  else
    if (r 0) = 0 then
      let N_2 : Nat → Nat := (f_X1_takeKind r sg).2
      ((f_X1_takeKind r sg).1, N_2)
    else
    if (r 0) = 1 then
      let N_3 : Nat → Nat := (f_X1_takeMember r sg).2
      ((f_X1_takeMember r sg).1, N_3)
    else
    if (r 0) = 2 then
      let N_4 : Nat → Nat := (f_X1_takeMark r sg 62 3).2
      ((f_X1_takeMark r sg 62 3).1, N_4)
    else
    if (r 0) = 3 then
      let N_5 : Nat → Nat := (f_X1_takeBorrower r sg).2
      ((f_X1_takeBorrower r sg).1, N_5)
    else
    if (r 0) = 4 then
      let N_6 : Nat → Nat := (f_X1_takeMark r sg 58 5).2
      ((f_X1_takeMark r sg 58 5).1, N_6)
    else
    if (r 0) = 5 then
      let N_7 : Nat → Nat := (f_X1_takeAmount r sg).2
      ((f_X1_takeAmount r sg).1, N_7)
    else
    if (r 0) = 6 then
      let N_8 : Nat → Nat := (f_X1_takeWeeks r sg).2
      ((f_X1_takeWeeks r sg).1, N_8)
    else
      (0, r)

theorem zb_X1_take (r : Nat → Nat) (sg : Nat) : narrow .boolean (.int ((f_X1_take r sg).1)) = .int ((f_X1_take r sg).1) := by
  unfold f_X1_take
  exact zif (fun (q : Int32 × (Nat → Nat)) => narrow .boolean (.int q.1) = .int q.1) (fun _ => zb_X1_takeEnd r) (fun _ => zif (fun (q : Int32 × (Nat → Nat)) => narrow .boolean (.int q.1) = .int q.1) (fun _ => zb_X1_takeKind r sg) (fun _ => zif (fun (q : Int32 × (Nat → Nat)) => narrow .boolean (.int q.1) = .int q.1) (fun _ => zb_X1_takeMember r sg) (fun _ => zif (fun (q : Int32 × (Nat → Nat)) => narrow .boolean (.int q.1) = .int q.1) (fun _ => zb_X1_takeMark r sg 62 3) (fun _ => zif (fun (q : Int32 × (Nat → Nat)) => narrow .boolean (.int q.1) = .int q.1) (fun _ => zb_X1_takeBorrower r sg) (fun _ => zif (fun (q : Int32 × (Nat → Nat)) => narrow .boolean (.int q.1) = .int q.1) (fun _ => zb_X1_takeMark r sg 58 5) (fun _ => zif (fun (q : Int32 × (Nat → Nat)) => narrow .boolean (.int q.1) = .int q.1) (fun _ => zb_X1_takeAmount r sg) (fun _ => zif (fun (q : Int32 × (Nat → Nat)) => narrow .boolean (.int q.1) = .int q.1) (fun _ => zb_X1_takeWeeks r sg) (fun _ => (by dsimp only; rfl)))))))))
set_option maxHeartbeats 4000000 in
set_option maxRecDepth 100000 in
theorem zc_X1_take (l : Launch) (D : va_G) (cA : Nat → ClassId) (a : Nat) (r : Nat → Nat) (sg : Nat) (hsg : sg < 128) (hri : zRI r) : Met l yX1_take wsX1_take (zrm 2 45) (zPc D cA [.ref a, .int (nI sg)] (rdW a r)) (zM D (rdW a r) (rdW a ((f_X1_take r sg).2)) (some (.int ((f_X1_take r sg).1)))) 0 0 (zfr (rdW a r)) := by
  refine Met.ofW (cc := cX1_take) (maxL := 2) (ret := (some .boolean)) (by decide) rfl ?_
  intro p e s m args below meth c s₁ Bd hml hv
  obtain ⟨rfl, hP, hK, hD0⟩ := hv
  have hx := Bd.exec
  have hb := Bd.bytes
  have hr := Bd.returns
  have hts := atoms_spec (ws := wsX1_take) Bd.pre
  have hown : s.vm.findClass RX1 = some m.cls := findClass_of_methodNamed Bd.named
  have hlocks := Bd.notSynchronized
  have hD := z_Dfr hD0
  have hS : va_S (zfr (rdW a r)) s.heap s.heap [] := va_S.rf
  have hi1 : ∀ w ∈ wsX10, w ∈ wsX1_take := fun w h => List.mem_cons_of_mem _ (List.mem_append_right _ h)
  have hl := lv_entry ([.ref a, .int (nI sg)]) (n := 2) (Nat.le_of_ble_eq_true rfl)
  rw [lg_entry_eq]
  generalize (lg_sl ([.ref a, .int (nI sg)]) ++ List.replicate (2 - (lg_sl ([.ref a, .int (nI sg)])).length) Slot.unset).toArray = ls at hl ⊢
  have hl : lv_has ls 2 [(0, .ref a), (1, .int (nI sg))] := hl
  obtain ⟨hr0, hr1, hr2, hr3, hr4, hr5, hr6, hr7⟩ := id hri
  refine lv_iload_n hx hb dX1_take_0 rfl (lv_at hl 1 rfl) ?_
  refine lv_bipush (v := 59) hx hb dX1_take_1 (by decide) ?_
  refine lv_icmp_ne (tgt := 11) hx hb dX1_take_3 (by decide) (fun c_1 => ?_) (fun c_1 => ?_)
  · have c_1 : ¬ sg = 59 := fun h9 => c_1 ((nI_eq (a := sg) (b := 59) (by omega) (by omega)).mpr h9)
    refine lv_aload_n hx hb dX1_take_11 rfl (lv_at hl 0 rfl) ?_
    refine va_get (D := D) (ci := 1) (v := .int (nI (r 0))) (C := RX1) (T := TX1) (N := 6) hx hb hts hi1 hown hK hP 0 rfl rfl 0 (by decide) (hts (.fieldLink RX1 11 "PledgedLoans$OrderReader" "stage" "I") (List.mem_of_getElem? (i := 1) rfl)) (fun _ h9 => h9) rfl dX1_take_12 ?_
    by_cases c_2 : (r 0) = 0
    · refine lv_tableIn (off := 41) (tgt := 56) hx hb dX1_take_15 (by rw [c_2]; decide) (by rw [c_2]; decide) (by rw [c_2]; decide) (by decide) ?_
      refine lv_aload_n hx hb dX1_take_56 rfl (lv_at hl 0 rfl) ?_
      refine lv_iload_n hx hb dX1_take_57 rfl (lv_at hl 1 rfl) ?_
      refine z_M (X := ([] : va_W)) (Z := ([] : va_W)) (va_runV (As := [.int (nI sg)]) (rest := []) ⟨hx, hb, hml, hown, hts⟩ (zc_X1_takeKind l D cA a r sg (by omega)) (cwV 1 hts gX1_take_X1_takeKind rfl rfl rfl zy_X1_takeKind ⟨Nat.le_of_ble_eq_true rfl, Nat.le_of_ble_eq_true rfl⟩) (z_preV (ci := 1) hK hP hD rfl rfl) rfl rfl hl.1 rfl (lv_room (Nat.le_of_ble_eq_true rfl)) dX1_take_58 ⟨Nat.zero_le _, Nat.zero_le _⟩) hP hD hS rdW_adr rfl (fun H locs hP9 hD9 hS9 => ?_)
      replace hP : va_P D vwCl (rdW a ((f_X1_takeKind r sg).2)) H := hP9
      replace hD : va_D _ (rdW a ((f_X1_takeKind r sg).2)) := hD9
      replace hS := hS9
      clear hP9 hD9 hS9
      obtain ⟨N_3, eN_3⟩ : ∃ z9 : Nat → Nat, z9 = (f_X1_takeKind r sg).2 := ⟨_, rfl⟩
      rw [← eN_3] at hP hD
      exact z_zretM (w1 := rdW a N_3) hx hb hr hlocks dX1_take_61 hP hS (zb_X1_takeKind r sg) (by subst eN_3; simp only [f_X1_take, if_neg c_1, if_pos c_2]) (by subst eN_3; simp only [f_X1_take, if_neg c_1, if_pos c_2])
    by_cases c_4 : (r 0) = 1
    · refine lv_tableIn (off := 47) (tgt := 62) hx hb dX1_take_15 (by rw [c_4]; decide) (by rw [c_4]; decide) (by rw [c_4]; decide) (by decide) ?_
      refine lv_aload_n hx hb dX1_take_62 rfl (lv_at hl 0 rfl) ?_
      refine lv_iload_n hx hb dX1_take_63 rfl (lv_at hl 1 rfl) ?_
      refine z_M (X := ([] : va_W)) (Z := ([] : va_W)) (va_runV (As := [.int (nI sg)]) (rest := []) ⟨hx, hb, hml, hown, hts⟩ (zc_X1_takeMember l D cA a r sg (by omega) (by first | assumption | omega)) (cwV 1 hts gX1_take_X1_takeMember rfl rfl rfl zy_X1_takeMember ⟨Nat.le_of_ble_eq_true rfl, Nat.le_of_ble_eq_true rfl⟩) (z_preV (ci := 1) hK hP hD rfl rfl) rfl rfl hl.1 rfl (lv_room (Nat.le_of_ble_eq_true rfl)) dX1_take_64 ⟨Nat.zero_le _, Nat.zero_le _⟩) hP hD hS rdW_adr rfl (fun H locs hP9 hD9 hS9 => ?_)
      replace hP : va_P D vwCl (rdW a ((f_X1_takeMember r sg).2)) H := hP9
      replace hD : va_D _ (rdW a ((f_X1_takeMember r sg).2)) := hD9
      replace hS := hS9
      clear hP9 hD9 hS9
      obtain ⟨N_5, eN_5⟩ : ∃ z9 : Nat → Nat, z9 = (f_X1_takeMember r sg).2 := ⟨_, rfl⟩
      rw [← eN_5] at hP hD
      exact z_zretM (w1 := rdW a N_5) hx hb hr hlocks dX1_take_67 hP hS (zb_X1_takeMember r sg) (by subst eN_5; simp only [f_X1_take, if_neg c_1, if_neg c_2, if_pos c_4]) (by subst eN_5; simp only [f_X1_take, if_neg c_1, if_neg c_2, if_pos c_4])
    by_cases c_6 : (r 0) = 2
    · refine lv_tableIn (off := 53) (tgt := 68) hx hb dX1_take_15 (by rw [c_6]; decide) (by rw [c_6]; decide) (by rw [c_6]; decide) (by decide) ?_
      refine lv_aload_n hx hb dX1_take_68 rfl (lv_at hl 0 rfl) ?_
      refine lv_iload_n hx hb dX1_take_69 rfl (lv_at hl 1 rfl) ?_
      refine lv_bipush (v := 62) hx hb dX1_take_70 (by decide) ?_
      refine lv_iconst (v := 3) hx hb dX1_take_72 (by decide) ?_
      refine z_M (X := ([] : va_W)) (Z := ([] : va_W)) (va_runV (As := [.int (nI sg), .int 62, .int 3]) (rest := []) ⟨hx, hb, hml, hown, hts⟩ (zc_X1_takeMark l D cA a r sg 62 3 (by omega) (by omega) (by omega)) (cwV 3 hts gX1_take_X1_takeMark rfl rfl rfl zy_X1_takeMark ⟨Nat.le_of_ble_eq_true rfl, Nat.le_of_ble_eq_true rfl⟩) (z_preV (ci := 1) hK hP hD rfl rfl) rfl rfl hl.1 rfl (lv_room (Nat.le_of_ble_eq_true rfl)) dX1_take_73 ⟨Nat.zero_le _, Nat.zero_le _⟩) hP hD hS rdW_adr rfl (fun H locs hP9 hD9 hS9 => ?_)
      replace hP : va_P D vwCl (rdW a ((f_X1_takeMark r sg 62 3).2)) H := hP9
      replace hD : va_D _ (rdW a ((f_X1_takeMark r sg 62 3).2)) := hD9
      replace hS := hS9
      clear hP9 hD9 hS9
      obtain ⟨N_7, eN_7⟩ : ∃ z9 : Nat → Nat, z9 = (f_X1_takeMark r sg 62 3).2 := ⟨_, rfl⟩
      rw [← eN_7] at hP hD
      exact z_zretM (w1 := rdW a N_7) hx hb hr hlocks dX1_take_76 hP hS (zb_X1_takeMark r sg 62 3) (by subst eN_7; simp only [f_X1_take, if_neg c_1, if_neg c_2, if_neg c_4, if_pos c_6]) (by subst eN_7; simp only [f_X1_take, if_neg c_1, if_neg c_2, if_neg c_4, if_pos c_6])
    by_cases c_8 : (r 0) = 3
    · refine lv_tableIn (off := 62) (tgt := 77) hx hb dX1_take_15 (by rw [c_8]; decide) (by rw [c_8]; decide) (by rw [c_8]; decide) (by decide) ?_
      refine lv_aload_n hx hb dX1_take_77 rfl (lv_at hl 0 rfl) ?_
      refine lv_iload_n hx hb dX1_take_78 rfl (lv_at hl 1 rfl) ?_
      refine z_M (X := ([] : va_W)) (Z := ([] : va_W)) (va_runV (As := [.int (nI sg)]) (rest := []) ⟨hx, hb, hml, hown, hts⟩ (zc_X1_takeBorrower l D cA a r sg (by omega) (by first | assumption | omega)) (cwV 1 hts gX1_take_X1_takeBorrower rfl rfl rfl zy_X1_takeBorrower ⟨Nat.le_of_ble_eq_true rfl, Nat.le_of_ble_eq_true rfl⟩) (z_preV (ci := 1) hK hP hD rfl rfl) rfl rfl hl.1 rfl (lv_room (Nat.le_of_ble_eq_true rfl)) dX1_take_79 ⟨Nat.zero_le _, Nat.zero_le _⟩) hP hD hS rdW_adr rfl (fun H locs hP9 hD9 hS9 => ?_)
      replace hP : va_P D vwCl (rdW a ((f_X1_takeBorrower r sg).2)) H := hP9
      replace hD : va_D _ (rdW a ((f_X1_takeBorrower r sg).2)) := hD9
      replace hS := hS9
      clear hP9 hD9 hS9
      obtain ⟨N_9, eN_9⟩ : ∃ z9 : Nat → Nat, z9 = (f_X1_takeBorrower r sg).2 := ⟨_, rfl⟩
      rw [← eN_9] at hP hD
      exact z_zretM (w1 := rdW a N_9) hx hb hr hlocks dX1_take_82 hP hS (zb_X1_takeBorrower r sg) (by subst eN_9; simp only [f_X1_take, if_neg c_1, if_neg c_2, if_neg c_4, if_neg c_6, if_pos c_8]) (by subst eN_9; simp only [f_X1_take, if_neg c_1, if_neg c_2, if_neg c_4, if_neg c_6, if_pos c_8])
    by_cases c_10 : (r 0) = 4
    · refine lv_tableIn (off := 68) (tgt := 83) hx hb dX1_take_15 (by rw [c_10]; decide) (by rw [c_10]; decide) (by rw [c_10]; decide) (by decide) ?_
      refine lv_aload_n hx hb dX1_take_83 rfl (lv_at hl 0 rfl) ?_
      refine lv_iload_n hx hb dX1_take_84 rfl (lv_at hl 1 rfl) ?_
      refine lv_bipush (v := 58) hx hb dX1_take_85 (by decide) ?_
      refine lv_iconst (v := 5) hx hb dX1_take_87 (by decide) ?_
      refine z_M (X := ([] : va_W)) (Z := ([] : va_W)) (va_runV (As := [.int (nI sg), .int 58, .int 5]) (rest := []) ⟨hx, hb, hml, hown, hts⟩ (zc_X1_takeMark l D cA a r sg 58 5 (by omega) (by omega) (by omega)) (cwV 3 hts gX1_take_X1_takeMark rfl rfl rfl zy_X1_takeMark ⟨Nat.le_of_ble_eq_true rfl, Nat.le_of_ble_eq_true rfl⟩) (z_preV (ci := 1) hK hP hD rfl rfl) rfl rfl hl.1 rfl (lv_room (Nat.le_of_ble_eq_true rfl)) dX1_take_88 ⟨Nat.zero_le _, Nat.zero_le _⟩) hP hD hS rdW_adr rfl (fun H locs hP9 hD9 hS9 => ?_)
      replace hP : va_P D vwCl (rdW a ((f_X1_takeMark r sg 58 5).2)) H := hP9
      replace hD : va_D _ (rdW a ((f_X1_takeMark r sg 58 5).2)) := hD9
      replace hS := hS9
      clear hP9 hD9 hS9
      obtain ⟨N_11, eN_11⟩ : ∃ z9 : Nat → Nat, z9 = (f_X1_takeMark r sg 58 5).2 := ⟨_, rfl⟩
      rw [← eN_11] at hP hD
      exact z_zretM (w1 := rdW a N_11) hx hb hr hlocks dX1_take_91 hP hS (zb_X1_takeMark r sg 58 5) (by subst eN_11; simp only [f_X1_take, if_neg c_1, if_neg c_2, if_neg c_4, if_neg c_6, if_neg c_8, if_pos c_10]) (by subst eN_11; simp only [f_X1_take, if_neg c_1, if_neg c_2, if_neg c_4, if_neg c_6, if_neg c_8, if_pos c_10])
    by_cases c_12 : (r 0) = 5
    · refine lv_tableIn (off := 77) (tgt := 92) hx hb dX1_take_15 (by rw [c_12]; decide) (by rw [c_12]; decide) (by rw [c_12]; decide) (by decide) ?_
      refine lv_aload_n hx hb dX1_take_92 rfl (lv_at hl 0 rfl) ?_
      refine lv_iload_n hx hb dX1_take_93 rfl (lv_at hl 1 rfl) ?_
      refine z_M (X := ([] : va_W)) (Z := ([] : va_W)) (va_runV (As := [.int (nI sg)]) (rest := []) ⟨hx, hb, hml, hown, hts⟩ (zc_X1_takeAmount l D cA a r sg (by omega) (by first | assumption | omega)) (cwV 1 hts gX1_take_X1_takeAmount rfl rfl rfl zy_X1_takeAmount ⟨Nat.le_of_ble_eq_true rfl, Nat.le_of_ble_eq_true rfl⟩) (z_preV (ci := 1) hK hP hD rfl rfl) rfl rfl hl.1 rfl (lv_room (Nat.le_of_ble_eq_true rfl)) dX1_take_94 ⟨Nat.zero_le _, Nat.zero_le _⟩) hP hD hS rdW_adr rfl (fun H locs hP9 hD9 hS9 => ?_)
      replace hP : va_P D vwCl (rdW a ((f_X1_takeAmount r sg).2)) H := hP9
      replace hD : va_D _ (rdW a ((f_X1_takeAmount r sg).2)) := hD9
      replace hS := hS9
      clear hP9 hD9 hS9
      obtain ⟨N_13, eN_13⟩ : ∃ z9 : Nat → Nat, z9 = (f_X1_takeAmount r sg).2 := ⟨_, rfl⟩
      rw [← eN_13] at hP hD
      exact z_zretM (w1 := rdW a N_13) hx hb hr hlocks dX1_take_97 hP hS (zb_X1_takeAmount r sg) (by subst eN_13; simp only [f_X1_take, if_neg c_1, if_neg c_2, if_neg c_4, if_neg c_6, if_neg c_8, if_neg c_10, if_pos c_12]) (by subst eN_13; simp only [f_X1_take, if_neg c_1, if_neg c_2, if_neg c_4, if_neg c_6, if_neg c_8, if_neg c_10, if_pos c_12])
    by_cases c_14 : (r 0) = 6
    · refine lv_tableIn (off := 83) (tgt := 98) hx hb dX1_take_15 (by rw [c_14]; decide) (by rw [c_14]; decide) (by rw [c_14]; decide) (by decide) ?_
      refine lv_aload_n hx hb dX1_take_98 rfl (lv_at hl 0 rfl) ?_
      refine lv_iload_n hx hb dX1_take_99 rfl (lv_at hl 1 rfl) ?_
      refine z_M (X := ([] : va_W)) (Z := ([] : va_W)) (va_runV (As := [.int (nI sg)]) (rest := []) ⟨hx, hb, hml, hown, hts⟩ (zc_X1_takeWeeks l D cA a r sg (by omega) (by first | assumption | omega)) (cwV 1 hts gX1_take_X1_takeWeeks rfl rfl rfl zy_X1_takeWeeks ⟨Nat.le_of_ble_eq_true rfl, Nat.le_of_ble_eq_true rfl⟩) (z_preV (ci := 1) hK hP hD rfl rfl) rfl rfl hl.1 rfl (lv_room (Nat.le_of_ble_eq_true rfl)) dX1_take_100 ⟨Nat.zero_le _, Nat.zero_le _⟩) hP hD hS rdW_adr rfl (fun H locs hP9 hD9 hS9 => ?_)
      replace hP : va_P D vwCl (rdW a ((f_X1_takeWeeks r sg).2)) H := hP9
      replace hD : va_D _ (rdW a ((f_X1_takeWeeks r sg).2)) := hD9
      replace hS := hS9
      clear hP9 hD9 hS9
      obtain ⟨N_15, eN_15⟩ : ∃ z9 : Nat → Nat, z9 = (f_X1_takeWeeks r sg).2 := ⟨_, rfl⟩
      rw [← eN_15] at hP hD
      exact z_zretM (w1 := rdW a N_15) hx hb hr hlocks dX1_take_103 hP hS (zb_X1_takeWeeks r sg) (by subst eN_15; simp only [f_X1_take, if_neg c_1, if_neg c_2, if_neg c_4, if_neg c_6, if_neg c_8, if_neg c_10, if_neg c_12, if_pos c_14]) (by subst eN_15; simp only [f_X1_take, if_neg c_1, if_neg c_2, if_neg c_4, if_neg c_6, if_neg c_8, if_neg c_10, if_neg c_12, if_pos c_14])
    refine lv_tableOut (tgt := 104) hx hb dX1_take_15 (by rw [nI_toInt (by omega)]; omega) (by decide) ?_
    refine lv_iconst (v := 0) hx hb dX1_take_104 (by decide) ?_
    exact z_zretM (w1 := rdW a r) hx hb hr hlocks dX1_take_105 hP hS rfl (by simp only [f_X1_take, if_neg c_1, if_neg c_2, if_neg c_4, if_neg c_6, if_neg c_8, if_neg c_10, if_neg c_12, if_neg c_14]) (by simp only [f_X1_take, if_neg c_1, if_neg c_2, if_neg c_4, if_neg c_6, if_neg c_8, if_neg c_10, if_neg c_12, if_neg c_14])
  · have c_1 : sg = 59 := (nI_eq (a := sg) (b := 59) (by omega) (by omega)).mp c_1
    refine lv_aload_n hx hb dX1_take_6 rfl (lv_at hl 0 rfl) ?_
    refine z_M (X := ([] : va_W)) (Z := ([] : va_W)) (va_runV (As := []) (rest := []) ⟨hx, hb, hml, hown, hts⟩ (zc_X1_takeEnd l D cA a r (by first | assumption | omega)) (cwV 0 hts gX1_take_X1_takeEnd rfl rfl rfl zy_X1_takeEnd ⟨Nat.le_of_ble_eq_true rfl, Nat.le_of_ble_eq_true rfl⟩) (z_preV (ci := 1) hK hP hD rfl rfl) rfl rfl hl.1 rfl (lv_room (Nat.le_of_ble_eq_true rfl)) dX1_take_7 ⟨Nat.zero_le _, Nat.zero_le _⟩) hP hD hS rdW_adr rfl (fun H locs hP9 hD9 hS9 => ?_)
    replace hP : va_P D vwCl (rdW a ((f_X1_takeEnd r).2)) H := hP9
    replace hD : va_D _ (rdW a ((f_X1_takeEnd r).2)) := hD9
    replace hS := hS9
    clear hP9 hD9 hS9
    obtain ⟨N_16, eN_16⟩ : ∃ z9 : Nat → Nat, z9 = (f_X1_takeEnd r).2 := ⟨_, rfl⟩
    rw [← eN_16] at hP hD
    exact z_zretM (w1 := rdW a N_16) hx hb hr hlocks dX1_take_10 hP hS (zb_X1_takeEnd r) (by subst eN_16; simp only [f_X1_take, if_pos c_1]) (by subst eN_16; simp only [f_X1_take, if_pos c_1])

theorem zr_restart {r : Nat → Nat} (h : zRI r) : zRI (f_X1_restart r) := by
  obtain ⟨h0, h1, h2, h3, h4, h5, h6, h7⟩ := h
  exact ⟨(by show 0 ≤ 7; omega), (by show 59 < 128; omega), h2, h3, (by show 0 < 10000; omega), (by show 0 < 53; omega), (fun e => absurd e (by show ¬ (0 = 7); omega)), (fun e => absurd e (by show ¬ (0 = 6); omega))⟩
theorem zr_takeEnd {r : Nat → Nat} (h : zRI r) : zRI (f_X1_takeEnd r).2 := by
  unfold f_X1_takeEnd
  split
  · exact h
  · exact zr_restart h
theorem zr_takeKind {r : Nat → Nat} {sg : Nat} (h : zRI r) (hs : sg < 128) (h9 : r 0 = 0) : zRI (f_X1_takeKind r sg).2 := by
  obtain ⟨h0, h1, h2, h3, h4, h5, h6, h7⟩ := h
  unfold f_X1_takeKind
  repeat' split
  all_goals first
    | exact ⟨(by show 1 ≤ 7; omega), hs, h2, h3, h4, h5, (fun e => absurd e (by show ¬ (1 = 7); omega)), (fun e => absurd e (by show ¬ (1 = 6); omega))⟩
    | exact ⟨(by show 7 ≤ 7; omega), hs, h2, h3, h4, h5, (fun _ => by show sg = 119; assumption), (fun e => absurd e (by show ¬ (7 = 6); omega))⟩
    | exact ⟨(by show r 0 ≤ 7; omega), hs, h2, h3, h4, h5, (fun e => absurd e (by show ¬ (r 0 = 7); omega)), (fun e => absurd e (by show ¬ (r 0 = 6); omega))⟩
theorem zr_takeMember {r : Nat → Nat} {sg : Nat} (h : zRI r) : zRI (f_X1_takeMember r sg).2 := by
  obtain ⟨h0, h1, h2, h3, h4, h5, h6, h7⟩ := id h
  by_cases c : f_X1_isMember sg = 0
  · simp only [f_X1_takeMember, if_pos c]
    exact h
  · have hd := zq_rm c
    simp only [f_X1_takeMember, if_neg c]
    split
    · exact ⟨(by show 2 ≤ 7; omega), h1, (by show sg - 48 < 6; omega), h3, h4, h5, (fun e => absurd e (by show ¬ (2 = 7); omega)), (fun e => absurd e (by show ¬ (2 = 6); omega))⟩
    · exact ⟨(by show 4 ≤ 7; omega), h1, (by show sg - 48 < 6; omega), h3, h4, h5, (fun e => absurd e (by show ¬ (4 = 7); omega)), (fun e => absurd e (by show ¬ (4 = 6); omega))⟩
theorem zr_takeBorrower {r : Nat → Nat} {sg : Nat} (h : zRI r) : zRI (f_X1_takeBorrower r sg).2 := by
  obtain ⟨h0, h1, h2, h3, h4, h5, h6, h7⟩ := id h
  by_cases c : f_X1_isMember sg = 0
  · simp only [f_X1_takeBorrower, if_pos c]
    exact h
  · have hd := zq_rm c
    simp only [f_X1_takeBorrower, if_neg c]
    split
    · exact h
    · exact ⟨(by show 4 ≤ 7; omega), h1, h2, (by show sg - 48 < 6; omega), h4, h5, (fun e => absurd e (by show ¬ (4 = 7); omega)), (fun e => absurd e (by show ¬ (4 = 6); omega))⟩
theorem zr_takeMark {r : Nat → Nat} {sg mk nx : Nat} (h : zRI r) (hn : nx ≤ 5) : zRI (f_X1_takeMark r sg mk nx).2 := by
  obtain ⟨h0, h1, h2, h3, h4, h5, h6, h7⟩ := id h
  unfold f_X1_takeMark
  split
  · exact ⟨(by show nx ≤ 7; omega), h1, h2, h3, h4, h5, (fun e => absurd e (by show ¬ (nx = 7); omega)), (fun e => absurd e (by show ¬ (nx = 6); omega))⟩
  · exact h
theorem zr_lg {nm dg n : Nat} {hg : Int32} (h1 : nm < 10000) (h2 : dg < 128) (hn : hg = nI n) (hb : n < 10000) (h : ¬ f_X1_longer nm dg hg = -1) : (f_X1_longer nm dg hg).toNatClampNeg < n + 1 := by
  obtain ⟨q, hq, e⟩ := zq_lg h1 h2 hn h hb
  rw [e, nI_clamp (by omega)]
  exact hq
theorem zr_takeAmount {r : Nat → Nat} {sg : Nat} (h : zRI r) (hs : sg < 128) : zRI (f_X1_takeAmount r sg).2 := by
  obtain ⟨h0, h1, h2, h3, h4, h5, h6, h7⟩ := id h
  unfold f_X1_takeAmount
  repeat' split
  all_goals first
    | exact h
    | exact ⟨h0, h1, h2, h3, (by show (f_X1_longer (r 4) sg 9999).toNatClampNeg < 9999 + 1; exact zr_lg h4 hs rfl (by omega) (by assumption)), h5, h6, h7⟩
    | exact ⟨(by show 6 ≤ 7; omega), h1, h2, h3, h4, h5, (fun e => absurd e (by show ¬ (6 = 7); omega)), (fun _ => by show r 1 = 98; assumption)⟩
theorem zr_takeWeeks {r : Nat → Nat} {sg : Nat} (h : zRI r) (hs : sg < 128) : zRI (f_X1_takeWeeks r sg).2 := by
  obtain ⟨h0, h1, h2, h3, h4, h5, h6, h7⟩ := id h
  unfold f_X1_takeWeeks
  split
  · exact h
  · exact ⟨h0, h1, h2, h3, h4, (by show (f_X1_longer (r 5) sg 52).toNatClampNeg < 52 + 1; exact zr_lg (by omega) hs rfl (by omega) (by assumption)), h6, h7⟩
theorem zr_take {r : Nat → Nat} {sg : Nat} (h : zRI r) (hs : sg < 128) : zRI (f_X1_take r sg).2 := by
  unfold f_X1_take
  dsimp only
  repeat' split
  all_goals first
    | exact zr_takeEnd h
    | exact zr_takeKind h hs (by assumption)
    | exact zr_takeMember h
    | exact zr_takeBorrower h
    | exact zr_takeMark h (by omega)
    | exact zr_takeAmount h hs
    | exact zr_takeWeeks h hs
    | exact h
/-- the reader is whole: the order that was read can be done -/
theorem zr_whole {r : Nat → Nat} (h : zRI r) (hw : ¬ f_X1_isWhole r = 0) : r 1 = 98 → ¬ r 5 = 0 := by
  obtain ⟨h0, h1, h2, h3, h4, h5, h6, h7⟩ := id h
  intro e e5
  apply hw
  unfold f_X1_isWhole
  by_cases c1 : r 0 = 5
  · rw [if_pos c1]
    split
    all_goals first | rfl | rw [if_pos e]
  · rw [if_neg c1]
    by_cases c2 : r 0 = 6
    · rw [if_pos c2, if_pos (by omega)]
    · rw [if_neg c2]
      have : ¬ r 0 = 7 := fun q => by have := h6 q; omega
      rw [if_neg this]

