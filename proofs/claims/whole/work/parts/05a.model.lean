theorem zy_X3_isDeed : yX3_isDeed.cls = RX3 ∧ yX3_isDeed.cls ≠ "java/lang/invoke/MethodHandle" ∧ yX3_isDeed.cls ≠ "java/lang/invoke/VarHandle" ∧ (parseMethodDescriptor yX3_isDeed.desc).map (fun d => d.parameters.length) = some 2 := by decide +kernel
def f_X3_isDeed (M : BK) (i1 : Int32) (am : Int32) : Int32 × BK :=
  if (f_X3_isMember i1) = 0 then
    let M_5 : BK := (f_X3_holds M 1).2
    (0, M_5)
  else
    if (f_X3_isAmount am) = 0 then
      let M_4 : BK := (f_X3_holds M 2).2
      (0, M_4)
    else
      let M_3 : BK := (f_X3_holds M 0).2
      (1, M_3)

theorem zq_isDeed {M : BK} {i1 am : Int32} (h : ¬ (f_X3_isDeed M i1 am).1 = 0) : ∃ q9 : Nat, q9 < 6 ∧ i1 = nI q9 := by
  by_cases c : f_X3_isMember i1 = 0
  · simp only [f_X3_isDeed, if_pos c] at h
    exact absurd trivial h
  · exact zq_isMember c

theorem zb_X3_isDeed (M : BK) (i1 : Int32) (am : Int32) : narrow .boolean (.int ((f_X3_isDeed M i1 am).1)) = .int ((f_X3_isDeed M i1 am).1) := by
  unfold f_X3_isDeed; repeat' split
  all_goals (first | rfl | (dsimp only; rfl))
set_option maxHeartbeats 4000000 in
set_option maxRecDepth 100000 in
theorem zc_X3_isDeed (l : Launch) (D : va_G) (cA : Nat → ClassId) (a : Nat → Nat) (M : BK) (N : Nat → Nat) (h : Int64) (i1 : Int32) (am : Int32)  : Met l yX3_isDeed wsX3_isDeed (zrm 2 42) (zPc D cA [.ref (a 0), .int i1, .int am] (moW cA a M N h)) (zM D (moW cA a M N h) (moW cA a ((f_X3_isDeed M i1 am).2) N h) (some (.int ((f_X3_isDeed M i1 am).1)))) 0 0 (zfr (moW cA a M N h)) := by
  refine Met.ofW (cc := cX3_isDeed) (maxL := 3) (ret := (some .boolean)) (by decide) rfl ?_
  intro p e s m args below meth c s₁ Bd hml hv
  obtain ⟨rfl, hP, hK, hD0⟩ := hv
  have hx := Bd.exec
  have hb := Bd.bytes
  have hr := Bd.returns
  have hts := atoms_spec (ws := wsX3_isDeed) Bd.pre
  have hown : s.vm.findClass RX3 = some m.cls := findClass_of_methodNamed Bd.named
  have hlocks := Bd.notSynchronized
  have hD := z_Dfr hD0
  have hS : va_S (zfr (moW cA a M N h)) s.heap s.heap [] := va_S.rf
  have hi3 : ∀ w ∈ wsX30, w ∈ wsX3_isDeed := fun w h => List.mem_cons_of_mem _ (List.mem_append_right _ h)
  have hl := lv_entry ([.ref (a 0), .int i1, .int am]) (n := 3) (Nat.le_of_ble_eq_true rfl)
  rw [lg_entry_eq]
  generalize (lg_sl ([.ref (a 0), .int i1, .int am]) ++ List.replicate (3 - (lg_sl ([.ref (a 0), .int i1, .int am])).length) Slot.unset).toArray = ls at hl ⊢
  have hl : lv_has ls 3 [(0, .ref (a 0)), (1, .int i1), (2, .int am)] := hl
  refine lv_aload_n hx hb dX3_isDeed_0 rfl (lv_at hl 0 rfl) ?_
  refine lv_iload_n hx hb dX3_isDeed_1 rfl (lv_at hl 1 rfl) ?_
  refine z_E (va_runS (As := [.int i1]) (rest := [.ref (a 0)]) ⟨hx, hb, hml, hown, hts⟩ (zc_X3_isMember l D cA i1) (va_cwS 1 hts gX3_isDeed_X3_isMember rfl rfl rfl zy_X3_isMember.2 ⟨Nat.le_of_ble_eq_true rfl, Nat.le_of_ble_eq_true rfl⟩) (z_preS hK z_P0 (z_D0 (A := fun _ => True))) rfl rfl hl.1 rfl (lv_room (Nat.le_of_ble_eq_true rfl)) dX3_isDeed_2 ⟨Nat.zero_le _, Nat.zero_le _⟩) rfl ?_
  refine lv_if_ne (tgt := 12) hx hb dX3_isDeed_5 (by decide) (fun c_1 => ?_) (fun c_1 => ?_)
  · refine lv_iload_n hx hb dX3_isDeed_12 rfl (lv_at hl 2 rfl) ?_
    refine z_E (va_runS (As := [.int am]) (rest := [.ref (a 0)]) ⟨hx, hb, hml, hown, hts⟩ (zc_X3_isAmount l D cA am) (va_cwS 1 hts gX3_isDeed_X3_isAmount rfl rfl rfl zy_X3_isAmount.2 ⟨Nat.le_of_ble_eq_true rfl, Nat.le_of_ble_eq_true rfl⟩) (z_preS hK z_P0 (z_D0 (A := fun _ => True))) rfl rfl hl.1 rfl (lv_room (Nat.le_of_ble_eq_true rfl)) dX3_isDeed_13 ⟨Nat.zero_le _, Nat.zero_le _⟩) rfl ?_
    refine lv_if_ne (tgt := 23) hx hb dX3_isDeed_16 (by decide) (fun c_2 => ?_) (fun c_2 => ?_)
    · refine lv_iconst (v := 0) hx hb dX3_isDeed_23 (by decide) ?_
      refine z_M (X := ([] : va_W)) (Z := ([] : va_W)) (va_runV (As := [.int 0]) (rest := []) ⟨hx, hb, hml, hown, hts⟩ (zc_X3_holds l D cA a M N h 0) (cwV 1 hts gX3_isDeed_X3_holds rfl rfl rfl zy_X3_holds ⟨Nat.le_of_ble_eq_true rfl, Nat.le_of_ble_eq_true rfl⟩) (z_preV (ci := 3) hK hP hD rfl rfl) rfl rfl hl.1 rfl (lv_room (Nat.le_of_ble_eq_true rfl)) dX3_isDeed_24 ⟨Nat.zero_le _, Nat.zero_le _⟩) hP hD hS moW_adr rfl (fun H locs hP9 hD9 hS9 => ?_)
      replace hP : va_P D vwCl (moW cA a ((f_X3_holds M 0).2) N h) H := hP9
      replace hD : va_D _ (moW cA a ((f_X3_holds M 0).2) N h) := hD9
      replace hS := hS9
      clear hP9 hD9 hS9
      obtain ⟨M_3, eM_3⟩ : ∃ z9 : BK, z9 = (f_X3_holds M 0).2 := ⟨_, rfl⟩
      rw [← eM_3] at hP hD
      refine z_top (y := 1) (by simp only [f_X3_holds]; rfl) ?_
      exact z_zretM (w1 := moW cA a M_3 N h) hx hb hr hlocks dX3_isDeed_27 hP hS rfl (by subst eM_3; simp only [f_X3_isDeed, if_neg c_1, if_neg c_2]) (by subst eM_3; simp only [f_X3_isDeed, if_neg c_1, if_neg c_2])
    · refine lv_iconst (v := 2) hx hb dX3_isDeed_19 (by decide) ?_
      refine lv_goto (tgt := 24) hx hb dX3_isDeed_20 (by decide) ?_
      refine z_M (X := ([] : va_W)) (Z := ([] : va_W)) (va_runV (As := [.int 2]) (rest := []) ⟨hx, hb, hml, hown, hts⟩ (zc_X3_holds l D cA a M N h 2) (cwV 1 hts gX3_isDeed_X3_holds rfl rfl rfl zy_X3_holds ⟨Nat.le_of_ble_eq_true rfl, Nat.le_of_ble_eq_true rfl⟩) (z_preV (ci := 3) hK hP hD rfl rfl) rfl rfl hl.1 rfl (lv_room (Nat.le_of_ble_eq_true rfl)) dX3_isDeed_24 ⟨Nat.zero_le _, Nat.zero_le _⟩) hP hD hS moW_adr rfl (fun H locs hP9 hD9 hS9 => ?_)
      replace hP : va_P D vwCl (moW cA a ((f_X3_holds M 2).2) N h) H := hP9
      replace hD : va_D _ (moW cA a ((f_X3_holds M 2).2) N h) := hD9
      replace hS := hS9
      clear hP9 hD9 hS9
      obtain ⟨M_4, eM_4⟩ : ∃ z9 : BK, z9 = (f_X3_holds M 2).2 := ⟨_, rfl⟩
      rw [← eM_4] at hP hD
      refine z_top (y := 0) (by simp only [f_X3_holds]; rfl) ?_
      exact z_zretM (w1 := moW cA a M_4 N h) hx hb hr hlocks dX3_isDeed_27 hP hS rfl (by subst eM_4; simp only [f_X3_isDeed, if_neg c_1, if_pos c_2]) (by subst eM_4; simp only [f_X3_isDeed, if_neg c_1, if_pos c_2])
  · refine lv_iconst (v := 1) hx hb dX3_isDeed_8 (by decide) ?_
    refine lv_goto (tgt := 24) hx hb dX3_isDeed_9 (by decide) ?_
    refine z_M (X := ([] : va_W)) (Z := ([] : va_W)) (va_runV (As := [.int 1]) (rest := []) ⟨hx, hb, hml, hown, hts⟩ (zc_X3_holds l D cA a M N h 1) (cwV 1 hts gX3_isDeed_X3_holds rfl rfl rfl zy_X3_holds ⟨Nat.le_of_ble_eq_true rfl, Nat.le_of_ble_eq_true rfl⟩) (z_preV (ci := 3) hK hP hD rfl rfl) rfl rfl hl.1 rfl (lv_room (Nat.le_of_ble_eq_true rfl)) dX3_isDeed_24 ⟨Nat.zero_le _, Nat.zero_le _⟩) hP hD hS moW_adr rfl (fun H locs hP9 hD9 hS9 => ?_)
    replace hP : va_P D vwCl (moW cA a ((f_X3_holds M 1).2) N h) H := hP9
    replace hD : va_D _ (moW cA a ((f_X3_holds M 1).2) N h) := hD9
    replace hS := hS9
    clear hP9 hD9 hS9
    obtain ⟨M_5, eM_5⟩ : ∃ z9 : BK, z9 = (f_X3_holds M 1).2 := ⟨_, rfl⟩
    rw [← eM_5] at hP hD
    refine z_top (y := 0) (by simp only [f_X3_holds]; rfl) ?_
    exact z_zretM (w1 := moW cA a M_5 N h) hx hb hr hlocks dX3_isDeed_27 hP hS rfl (by subst eM_5; simp only [f_X3_isDeed, if_pos c_1]) (by subst eM_5; simp only [f_X3_isDeed, if_pos c_1])

theorem zy_X3_payIn : yX3_payIn.cls = RX3 ∧ yX3_payIn.cls ≠ "java/lang/invoke/MethodHandle" ∧ yX3_payIn.cls ≠ "java/lang/invoke/VarHandle" ∧ (parseMethodDescriptor yX3_payIn.desc).map (fun d => d.parameters.length) = some 2 := by decide +kernel
def f_X3_payIn (M : BK) (N : Nat → Nat) (i1 : Int32) (am : Int32) : Int32 × BK × (Nat → Nat) :=
  let M_1 : BK := (f_X3_isDeed M i1 am).2
  if ((f_X3_isDeed M i1 am).1) = 0 then
    (0, M_1, N)
  else
    let M_3 : BK := (f_X3_save M_1 N).1
    let N_4 : Nat → Nat := (f_X3_save M_1 N).2
    let M_5 : BK := (f_X3_paysIn M_3 i1.toNatClampNeg am).2
    ((f_X3_paysIn M_3 i1.toNatClampNeg am).1, M_5, N_4)

set_option maxHeartbeats 4000000 in
set_option maxRecDepth 100000 in
theorem zc_X3_payIn (l : Launch) (D : va_G) (cA : Nat → ClassId) (a : Nat → Nat) (M : BK) (N : Nat → Nat) (h : Int64) (i1 : Int32) (am : Int32) (hsv : N 0 ≤ 6) : Met l yX3_payIn wsX3_payIn (zrm 3 64) (zPc D cA [.ref (a 0), .int i1, .int am] (moW cA a M N h)) (zM D (moW cA a M N h) (moW cA a ((f_X3_payIn M N i1 am).2.1) ((f_X3_payIn M N i1 am).2.2) h) (some (.int ((f_X3_payIn M N i1 am).1)))) 0 0 (zfr (moW cA a M N h)) := by
  refine Met.ofW (cc := cX3_payIn) (maxL := 3) (ret := (some .int)) (by decide) rfl ?_
  intro p e s m args below meth c s₁ Bd hml hv
  obtain ⟨rfl, hP, hK, hD0⟩ := hv
  have hx := Bd.exec
  have hb := Bd.bytes
  have hr := Bd.returns
  have hts := atoms_spec (ws := wsX3_payIn) Bd.pre
  have hown : s.vm.findClass RX3 = some m.cls := findClass_of_methodNamed Bd.named
  have hlocks := Bd.notSynchronized
  have hD := z_Dfr hD0
  have hS : va_S (zfr (moW cA a M N h)) s.heap s.heap [] := va_S.rf
  have hi3 : ∀ w ∈ wsX30, w ∈ wsX3_payIn := fun w h => List.mem_cons_of_mem _ (List.mem_append_right _ h)
  have hl := lv_entry ([.ref (a 0), .int i1, .int am]) (n := 3) (Nat.le_of_ble_eq_true rfl)
  rw [lg_entry_eq]
  generalize (lg_sl ([.ref (a 0), .int i1, .int am]) ++ List.replicate (3 - (lg_sl ([.ref (a 0), .int i1, .int am])).length) Slot.unset).toArray = ls at hl ⊢
  have hl : lv_has ls 3 [(0, .ref (a 0)), (1, .int i1), (2, .int am)] := hl
  refine lv_aload_n hx hb dX3_payIn_0 rfl (lv_at hl 0 rfl) ?_
  refine lv_iload_n hx hb dX3_payIn_1 rfl (lv_at hl 1 rfl) ?_
  refine lv_iload_n hx hb dX3_payIn_2 rfl (lv_at hl 2 rfl) ?_
  refine z_M (X := ([] : va_W)) (Z := ([] : va_W)) (va_runV (As := [.int i1, .int am]) (rest := []) ⟨hx, hb, hml, hown, hts⟩ (zc_X3_isDeed l D cA a M N h i1 am) (cwV 2 hts gX3_payIn_X3_isDeed rfl rfl rfl zy_X3_isDeed ⟨Nat.le_of_ble_eq_true rfl, Nat.le_of_ble_eq_true rfl⟩) (z_preV (ci := 3) hK hP hD rfl rfl) rfl rfl hl.1 rfl (lv_room (Nat.le_of_ble_eq_true rfl)) dX3_payIn_3 ⟨Nat.zero_le _, Nat.zero_le _⟩) hP hD hS moW_adr rfl (fun H locs hP9 hD9 hS9 => ?_)
  replace hP : va_P D vwCl (moW cA a ((f_X3_isDeed M i1 am).2) N h) H := hP9
  replace hD : va_D _ (moW cA a ((f_X3_isDeed M i1 am).2) N h) := hD9
  replace hS := hS9
  clear hP9 hD9 hS9
  obtain ⟨M_1, eM_1⟩ : ∃ z9 : BK, z9 = (f_X3_isDeed M i1 am).2 := ⟨_, rfl⟩
  rw [← eM_1] at hP hD
  refine lv_if_ne (tgt := 11) hx hb dX3_payIn_6 (by decide) (fun c_2 => ?_) (fun c_2 => ?_)
  · obtain ⟨m1, hm1, rfl⟩ : ∃ q9 : Nat, q9 < 6 ∧ i1 = nI q9 := zq_isDeed c_2
    have hcl_m1 : (nI m1).toNatClampNeg = m1 := nI_clamp (by omega)
    refine lv_aload_n hx hb dX3_payIn_11 rfl (lv_at hl 0 rfl) ?_
    refine z_M (X := ([] : va_W)) (Z := ([] : va_W)) (va_runV (As := []) (rest := []) ⟨hx, hb, hml, hown, hts⟩ (zc_X3_save l D cA a M_1 N h (by exact (show (N 0) ≤ 6 by omega))) (cwV 0 hts gX3_payIn_X3_save rfl rfl rfl zy_X3_save ⟨Nat.le_of_ble_eq_true rfl, Nat.le_of_ble_eq_true rfl⟩) (z_preV (ci := 3) hK hP hD rfl rfl) rfl rfl hl.1 rfl (lv_room (Nat.le_of_ble_eq_true rfl)) dX3_payIn_12 ⟨Nat.zero_le _, Nat.zero_le _⟩) hP hD hS moW_adr rfl (fun H locs hP9 hD9 hS9 => ?_)
    replace hP : va_P D vwCl (moW cA a ((f_X3_save M_1 N).1) ((f_X3_save M_1 N).2) h) H := hP9
    replace hD : va_D _ (moW cA a ((f_X3_save M_1 N).1) ((f_X3_save M_1 N).2) h) := hD9
    replace hS := hS9
    clear hP9 hD9 hS9
    obtain ⟨M_3, eM_3⟩ : ∃ z9 : BK, z9 = (f_X3_save M_1 N).1 := ⟨_, rfl⟩
    rw [← eM_3] at hP hD
    obtain ⟨N_4, eN_4⟩ : ∃ z9 : Nat → Nat, z9 = (f_X3_save M_1 N).2 := ⟨_, rfl⟩
    rw [← eN_4] at hP hD
    have hlN_4 : N_4 1 = (N 1) ∧ N_4 2 = (N 2) ∧ N_4 0 ≤ 6 := by rw [eN_4]; exact (zn_X3_save M_1 N (by first | assumption | omega))
    refine lv_aload_n hx hb dX3_payIn_15 rfl (lv_at hl 0 rfl) ?_
    refine lv_iload_n hx hb dX3_payIn_16 rfl (lv_at hl 1 rfl) ?_
    refine lv_iload_n hx hb dX3_payIn_17 rfl (lv_at hl 2 rfl) ?_
    refine z_M (X := ([] : va_W)) (Z := ([] : va_W)) (va_runV (As := [.int (nI m1), .int am]) (rest := []) ⟨hx, hb, hml, hown, hts⟩ (zc_X3_paysIn l D cA a M_3 N_4 h m1 am (by omega)) (cwV 2 hts gX3_payIn_X3_paysIn rfl rfl rfl zy_X3_paysIn ⟨Nat.le_of_ble_eq_true rfl, Nat.le_of_ble_eq_true rfl⟩) (z_preV (ci := 3) hK hP hD rfl rfl) rfl rfl hl.1 rfl (lv_room (Nat.le_of_ble_eq_true rfl)) dX3_payIn_18 ⟨Nat.zero_le _, Nat.zero_le _⟩) hP hD hS moW_adr rfl (fun H locs hP9 hD9 hS9 => ?_)
    replace hP : va_P D vwCl (moW cA a ((f_X3_paysIn M_3 m1 am).2) N_4 h) H := hP9
    replace hD : va_D _ (moW cA a ((f_X3_paysIn M_3 m1 am).2) N_4 h) := hD9
    replace hS := hS9
    clear hP9 hD9 hS9
    obtain ⟨M_5, eM_5⟩ : ∃ z9 : BK, z9 = (f_X3_paysIn M_3 m1 am).2 := ⟨_, rfl⟩
    rw [← eM_5] at hP hD
    exact z_iretM (w1 := moW cA a M_5 N_4 h) hx hb hr hlocks dX3_payIn_21 hP hS (by subst eM_5 eN_4 eM_3 eM_1; simp only [f_X3_payIn, if_neg c_2, hcl_m1]) (by subst eM_5 eN_4 eM_3 eM_1; simp only [f_X3_payIn, if_neg c_2, hcl_m1])
  · refine lv_iconst (v := 0) hx hb dX3_payIn_9 (by decide) ?_
    exact z_iretM (w1 := moW cA a M_1 N h) hx hb hr hlocks dX3_payIn_10 hP hS (by subst eM_1; simp only [f_X3_payIn, if_pos c_2]) (by subst eM_1; simp only [f_X3_payIn, if_pos c_2])

theorem zy_X3_payOut : yX3_payOut.cls = RX3 ∧ yX3_payOut.cls ≠ "java/lang/invoke/MethodHandle" ∧ yX3_payOut.cls ≠ "java/lang/invoke/VarHandle" ∧ (parseMethodDescriptor yX3_payOut.desc).map (fun d => d.parameters.length) = some 2 := by decide +kernel
def f_X3_payOut (M : BK) (N : Nat → Nat) (i1 : Int32) (am : Int32) : Int32 × BK × (Nat → Nat) :=
  let M_1 : BK := (f_X3_isDeed M i1 am).2
  if ((f_X3_isDeed M i1 am).1) = 0 then
    (0, M_1, N)
  else
    let M_3 : BK := (f_X3_save M_1 N).1
    let N_4 : Nat → Nat := (f_X3_save M_1 N).2
    let M_5 : BK := (f_X3_paysOut M_3 i1.toNatClampNeg am).2
    ((f_X3_paysOut M_3 i1.toNatClampNeg am).1, M_5, N_4)

set_option maxHeartbeats 4000000 in
set_option maxRecDepth 100000 in
theorem zc_X3_payOut (l : Launch) (D : va_G) (cA : Nat → ClassId) (a : Nat → Nat) (M : BK) (N : Nat → Nat) (h : Int64) (i1 : Int32) (am : Int32) (hsv : N 0 ≤ 6) : Met l yX3_payOut wsX3_payOut (zrm 5 110) (zPc D cA [.ref (a 0), .int i1, .int am] (moW cA a M N h)) (zM D (moW cA a M N h) (moW cA a ((f_X3_payOut M N i1 am).2.1) ((f_X3_payOut M N i1 am).2.2) h) (some (.int ((f_X3_payOut M N i1 am).1)))) 0 0 (zfr (moW cA a M N h)) := by
  refine Met.ofW (cc := cX3_payOut) (maxL := 3) (ret := (some .int)) (by decide) rfl ?_
  intro p e s m args below meth c s₁ Bd hml hv
  obtain ⟨rfl, hP, hK, hD0⟩ := hv
  have hx := Bd.exec
  have hb := Bd.bytes
  have hr := Bd.returns
  have hts := atoms_spec (ws := wsX3_payOut) Bd.pre
  have hown : s.vm.findClass RX3 = some m.cls := findClass_of_methodNamed Bd.named
  have hlocks := Bd.notSynchronized
  have hD := z_Dfr hD0
  have hS : va_S (zfr (moW cA a M N h)) s.heap s.heap [] := va_S.rf
  have hi3 : ∀ w ∈ wsX30, w ∈ wsX3_payOut := fun w h => List.mem_cons_of_mem _ (List.mem_append_right _ h)
  have hl := lv_entry ([.ref (a 0), .int i1, .int am]) (n := 3) (Nat.le_of_ble_eq_true rfl)
  rw [lg_entry_eq]
  generalize (lg_sl ([.ref (a 0), .int i1, .int am]) ++ List.replicate (3 - (lg_sl ([.ref (a 0), .int i1, .int am])).length) Slot.unset).toArray = ls at hl ⊢
  have hl : lv_has ls 3 [(0, .ref (a 0)), (1, .int i1), (2, .int am)] := hl
  refine lv_aload_n hx hb dX3_payOut_0 rfl (lv_at hl 0 rfl) ?_
  refine lv_iload_n hx hb dX3_payOut_1 rfl (lv_at hl 1 rfl) ?_
  refine lv_iload_n hx hb dX3_payOut_2 rfl (lv_at hl 2 rfl) ?_
  refine z_M (X := ([] : va_W)) (Z := ([] : va_W)) (va_runV (As := [.int i1, .int am]) (rest := []) ⟨hx, hb, hml, hown, hts⟩ (zc_X3_isDeed l D cA a M N h i1 am) (cwV 2 hts gX3_payOut_X3_isDeed rfl rfl rfl zy_X3_isDeed ⟨Nat.le_of_ble_eq_true rfl, Nat.le_of_ble_eq_true rfl⟩) (z_preV (ci := 3) hK hP hD rfl rfl) rfl rfl hl.1 rfl (lv_room (Nat.le_of_ble_eq_true rfl)) dX3_payOut_3 ⟨Nat.zero_le _, Nat.zero_le _⟩) hP hD hS moW_adr rfl (fun H locs hP9 hD9 hS9 => ?_)
  replace hP : va_P D vwCl (moW cA a ((f_X3_isDeed M i1 am).2) N h) H := hP9
  replace hD : va_D _ (moW cA a ((f_X3_isDeed M i1 am).2) N h) := hD9
  replace hS := hS9
  clear hP9 hD9 hS9
  obtain ⟨M_1, eM_1⟩ : ∃ z9 : BK, z9 = (f_X3_isDeed M i1 am).2 := ⟨_, rfl⟩
  rw [← eM_1] at hP hD
  refine lv_if_ne (tgt := 11) hx hb dX3_payOut_6 (by decide) (fun c_2 => ?_) (fun c_2 => ?_)
  · obtain ⟨m1, hm1, rfl⟩ : ∃ q9 : Nat, q9 < 6 ∧ i1 = nI q9 := zq_isDeed c_2
    have hcl_m1 : (nI m1).toNatClampNeg = m1 := nI_clamp (by omega)
    refine lv_aload_n hx hb dX3_payOut_11 rfl (lv_at hl 0 rfl) ?_
    refine z_M (X := ([] : va_W)) (Z := ([] : va_W)) (va_runV (As := []) (rest := []) ⟨hx, hb, hml, hown, hts⟩ (zc_X3_save l D cA a M_1 N h (by exact (show (N 0) ≤ 6 by omega))) (cwV 0 hts gX3_payOut_X3_save rfl rfl rfl zy_X3_save ⟨Nat.le_of_ble_eq_true rfl, Nat.le_of_ble_eq_true rfl⟩) (z_preV (ci := 3) hK hP hD rfl rfl) rfl rfl hl.1 rfl (lv_room (Nat.le_of_ble_eq_true rfl)) dX3_payOut_12 ⟨Nat.zero_le _, Nat.zero_le _⟩) hP hD hS moW_adr rfl (fun H locs hP9 hD9 hS9 => ?_)
    replace hP : va_P D vwCl (moW cA a ((f_X3_save M_1 N).1) ((f_X3_save M_1 N).2) h) H := hP9
    replace hD : va_D _ (moW cA a ((f_X3_save M_1 N).1) ((f_X3_save M_1 N).2) h) := hD9
    replace hS := hS9
    clear hP9 hD9 hS9
    obtain ⟨M_3, eM_3⟩ : ∃ z9 : BK, z9 = (f_X3_save M_1 N).1 := ⟨_, rfl⟩
    rw [← eM_3] at hP hD
    obtain ⟨N_4, eN_4⟩ : ∃ z9 : Nat → Nat, z9 = (f_X3_save M_1 N).2 := ⟨_, rfl⟩
    rw [← eN_4] at hP hD
    have hlN_4 : N_4 1 = (N 1) ∧ N_4 2 = (N 2) ∧ N_4 0 ≤ 6 := by rw [eN_4]; exact (zn_X3_save M_1 N (by first | assumption | omega))
    refine lv_aload_n hx hb dX3_payOut_15 rfl (lv_at hl 0 rfl) ?_
    refine lv_iload_n hx hb dX3_payOut_16 rfl (lv_at hl 1 rfl) ?_
    refine lv_iload_n hx hb dX3_payOut_17 rfl (lv_at hl 2 rfl) ?_
    refine z_M (X := ([] : va_W)) (Z := ([] : va_W)) (va_runV (As := [.int (nI m1), .int am]) (rest := []) ⟨hx, hb, hml, hown, hts⟩ (zc_X3_paysOut l D cA a M_3 N_4 h m1 am (by omega)) (cwV 2 hts gX3_payOut_X3_paysOut rfl rfl rfl zy_X3_paysOut ⟨Nat.le_of_ble_eq_true rfl, Nat.le_of_ble_eq_true rfl⟩) (z_preV (ci := 3) hK hP hD rfl rfl) rfl rfl hl.1 rfl (lv_room (Nat.le_of_ble_eq_true rfl)) dX3_payOut_18 ⟨Nat.zero_le _, Nat.zero_le _⟩) hP hD hS moW_adr rfl (fun H locs hP9 hD9 hS9 => ?_)
    replace hP : va_P D vwCl (moW cA a ((f_X3_paysOut M_3 m1 am).2) N_4 h) H := hP9
    replace hD : va_D _ (moW cA a ((f_X3_paysOut M_3 m1 am).2) N_4 h) := hD9
    replace hS := hS9
    clear hP9 hD9 hS9
    obtain ⟨M_5, eM_5⟩ : ∃ z9 : BK, z9 = (f_X3_paysOut M_3 m1 am).2 := ⟨_, rfl⟩
    rw [← eM_5] at hP hD
    exact z_iretM (w1 := moW cA a M_5 N_4 h) hx hb hr hlocks dX3_payOut_21 hP hS (by subst eM_5 eN_4 eM_3 eM_1; simp only [f_X3_payOut, if_neg c_2, hcl_m1]) (by subst eM_5 eN_4 eM_3 eM_1; simp only [f_X3_payOut, if_neg c_2, hcl_m1])
  · refine lv_iconst (v := 0) hx hb dX3_payOut_9 (by decide) ?_
    exact z_iretM (w1 := moW cA a M_1 N h) hx hb hr hlocks dX3_payOut_10 hP hS (by subst eM_1; simp only [f_X3_payOut, if_pos c_2]) (by subst eM_1; simp only [f_X3_payOut, if_pos c_2])

theorem zy_X3_isPair : yX3_isPair.cls = RX3 ∧ yX3_isPair.cls ≠ "java/lang/invoke/MethodHandle" ∧ yX3_isPair.cls ≠ "java/lang/invoke/VarHandle" ∧ (parseMethodDescriptor yX3_isPair.desc).map (fun d => d.parameters.length) = some 3 := by decide +kernel
def f_X3_isPair (M : BK) (i1 : Int32) (i2 : Int32) (am : Int32) : Int32 × BK :=
  if (f_X3_isMember i1) = 0 then
    let M_3 : BK := (f_X3_holds M 1).2
    (0, M_3)
  else
    if (f_X3_isMember i2) = 0 then
      let M_6 : BK := (f_X3_holds M 1).2
      (0, M_6)
    else
      if i1 = i2 then
        let M_9 : BK := (f_X3_holds M 2).2
        (0, M_9)
      else
        if (f_X3_isAmount am) = 0 then
          let M_12 : BK := (f_X3_holds M 2).2
          (0, M_12)
        else
          let M_11 : BK := (f_X3_holds M 0).2
          (1, M_11)

theorem zq_isPair1 {M : BK} {i1 i2 am : Int32} (h : ¬ (f_X3_isPair M i1 i2 am).1 = 0) : ∃ q9 : Nat, q9 < 6 ∧ i1 = nI q9 := by
  by_cases c : f_X3_isMember i1 = 0
  · simp only [f_X3_isPair, if_pos c] at h
    exact absurd trivial h
  · exact zq_isMember c
theorem zq_isPair2 {M : BK} {i1 i2 am : Int32} (h : ¬ (f_X3_isPair M i1 i2 am).1 = 0) : ∃ q9 : Nat, q9 < 6 ∧ i2 = nI q9 := by
  by_cases c : f_X3_isMember i1 = 0
  · simp only [f_X3_isPair, if_pos c] at h
    exact absurd trivial h
  · by_cases c2 : f_X3_isMember i2 = 0
    · simp only [f_X3_isPair, if_neg c, if_pos c2] at h
      exact absurd trivial h
    · exact zq_isMember c2

theorem zb_X3_isPair (M : BK) (i1 : Int32) (i2 : Int32) (am : Int32) : narrow .boolean (.int ((f_X3_isPair M i1 i2 am).1)) = .int ((f_X3_isPair M i1 i2 am).1) := by
  unfold f_X3_isPair; repeat' split
  all_goals (first | rfl | (dsimp only; rfl))
set_option maxHeartbeats 4000000 in
set_option maxRecDepth 100000 in
theorem zc_X3_isPair (l : Launch) (D : va_G) (cA : Nat → ClassId) (a : Nat → Nat) (M : BK) (N : Nat → Nat) (h : Int64) (i1 : Int32) (i2 : Int32) (am : Int32)  : Met l yX3_isPair wsX3_isPair (zrm 2 42) (zPc D cA [.ref (a 0), .int i1, .int i2, .int am] (moW cA a M N h)) (zM D (moW cA a M N h) (moW cA a ((f_X3_isPair M i1 i2 am).2) N h) (some (.int ((f_X3_isPair M i1 i2 am).1)))) 0 0 (zfr (moW cA a M N h)) := by
  refine Met.ofW (cc := cX3_isPair) (maxL := 5) (ret := (some .boolean)) (by decide) rfl ?_
  intro p e s m args below meth c s₁ Bd hml hv
  obtain ⟨rfl, hP, hK, hD0⟩ := hv
  have hx := Bd.exec
  have hb := Bd.bytes
  have hr := Bd.returns
  have hts := atoms_spec (ws := wsX3_isPair) Bd.pre
  have hown : s.vm.findClass RX3 = some m.cls := findClass_of_methodNamed Bd.named
  have hlocks := Bd.notSynchronized
  have hD := z_Dfr hD0
  have hS : va_S (zfr (moW cA a M N h)) s.heap s.heap [] := va_S.rf
  have hi3 : ∀ w ∈ wsX30, w ∈ wsX3_isPair := fun w h => List.mem_cons_of_mem _ (List.mem_append_right _ h)
  have hl := lv_entry ([.ref (a 0), .int i1, .int i2, .int am]) (n := 5) (Nat.le_of_ble_eq_true rfl)
  rw [lg_entry_eq]
  generalize (lg_sl ([.ref (a 0), .int i1, .int i2, .int am]) ++ List.replicate (5 - (lg_sl ([.ref (a 0), .int i1, .int i2, .int am])).length) Slot.unset).toArray = ls at hl ⊢
  have hl : lv_has ls 5 [(0, .ref (a 0)), (1, .int i1), (2, .int i2), (3, .int am)] := hl
  refine lv_iload_n hx hb dX3_isPair_0 rfl (lv_at hl 1 rfl) ?_
  refine z_E (va_runS (As := [.int i1]) (rest := []) ⟨hx, hb, hml, hown, hts⟩ (zc_X3_isMember l D cA i1) (va_cwS 1 hts gX3_isPair_X3_isMember rfl rfl rfl zy_X3_isMember.2 ⟨Nat.le_of_ble_eq_true rfl, Nat.le_of_ble_eq_true rfl⟩) (z_preS hK z_P0 (z_D0 (A := fun _ => True))) rfl rfl hl.1 rfl (lv_room (Nat.le_of_ble_eq_true rfl)) dX3_isPair_1 ⟨Nat.zero_le _, Nat.zero_le _⟩) rfl ?_
  refine lv_if_eq (tgt := 18) hx hb dX3_isPair_4 (by decide) (fun c_1 => ?_) (fun c_1 => ?_)
  · refine lv_iconst (v := 0) hx hb dX3_isPair_18 (by decide) ?_
    refine lv_istore (lv' := [(4, .int 0), (0, .ref (a 0)), (1, .int i1), (2, .int i2), (3, .int am)]) hx hb dX3_isPair_19 hl (by decide) rfl (fun ls hl => ?_)
    refine lv_aload_n hx hb dX3_isPair_21 rfl (lv_at hl 1 rfl) ?_
    refine lv_iload hx hb dX3_isPair_22 (lv_at hl 0 rfl) ?_
    refine lv_if_ne (tgt := 31) hx hb dX3_isPair_24 (by decide) (fun c_2 => ?_) (fun c_2 => ?_)
    · exact absurd c_2 (by decide)
    · refine lv_iconst (v := 1) hx hb dX3_isPair_27 (by decide) ?_
      refine lv_goto (tgt := 48) hx hb dX3_isPair_28 (by decide) ?_
      refine z_M (X := ([] : va_W)) (Z := ([] : va_W)) (va_runV (As := [.int 1]) (rest := []) ⟨hx, hb, hml, hown, hts⟩ (zc_X3_holds l D cA a M N h 1) (cwV 1 hts gX3_isPair_X3_holds rfl rfl rfl zy_X3_holds ⟨Nat.le_of_ble_eq_true rfl, Nat.le_of_ble_eq_true rfl⟩) (z_preV (ci := 3) hK hP hD rfl rfl) rfl rfl hl.1 rfl (lv_room (Nat.le_of_ble_eq_true rfl)) dX3_isPair_48 ⟨Nat.zero_le _, Nat.zero_le _⟩) hP hD hS moW_adr rfl (fun H locs hP9 hD9 hS9 => ?_)
      replace hP : va_P D vwCl (moW cA a ((f_X3_holds M 1).2) N h) H := hP9
      replace hD : va_D _ (moW cA a ((f_X3_holds M 1).2) N h) := hD9
      replace hS := hS9
      clear hP9 hD9 hS9
      obtain ⟨M_3, eM_3⟩ : ∃ z9 : BK, z9 = (f_X3_holds M 1).2 := ⟨_, rfl⟩
      rw [← eM_3] at hP hD
      refine z_top (y := 0) (by simp only [f_X3_holds]; rfl) ?_
      exact z_zretM (w1 := moW cA a M_3 N h) hx hb hr hlocks dX3_isPair_51 hP hS rfl (by subst eM_3; simp only [f_X3_isPair, if_pos c_1]) (by subst eM_3; simp only [f_X3_isPair, if_pos c_1])
  · refine lv_iload_n hx hb dX3_isPair_7 rfl (lv_at hl 2 rfl) ?_
    refine z_E (va_runS (As := [.int i2]) (rest := []) ⟨hx, hb, hml, hown, hts⟩ (zc_X3_isMember l D cA i2) (va_cwS 1 hts gX3_isPair_X3_isMember rfl rfl rfl zy_X3_isMember.2 ⟨Nat.le_of_ble_eq_true rfl, Nat.le_of_ble_eq_true rfl⟩) (z_preS hK z_P0 (z_D0 (A := fun _ => True))) rfl rfl hl.1 rfl (lv_room (Nat.le_of_ble_eq_true rfl)) dX3_isPair_8 ⟨Nat.zero_le _, Nat.zero_le _⟩) rfl ?_
    refine lv_if_eq (tgt := 18) hx hb dX3_isPair_11 (by decide) (fun c_4 => ?_) (fun c_4 => ?_)
    · refine lv_iconst (v := 0) hx hb dX3_isPair_18 (by decide) ?_
      refine lv_istore (lv' := [(4, .int 0), (0, .ref (a 0)), (1, .int i1), (2, .int i2), (3, .int am)]) hx hb dX3_isPair_19 hl (by decide) rfl (fun ls hl => ?_)
      refine lv_aload_n hx hb dX3_isPair_21 rfl (lv_at hl 1 rfl) ?_
      refine lv_iload hx hb dX3_isPair_22 (lv_at hl 0 rfl) ?_
      refine lv_if_ne (tgt := 31) hx hb dX3_isPair_24 (by decide) (fun c_5 => ?_) (fun c_5 => ?_)
      · exact absurd c_5 (by decide)
      · refine lv_iconst (v := 1) hx hb dX3_isPair_27 (by decide) ?_
        refine lv_goto (tgt := 48) hx hb dX3_isPair_28 (by decide) ?_
        refine z_M (X := ([] : va_W)) (Z := ([] : va_W)) (va_runV (As := [.int 1]) (rest := []) ⟨hx, hb, hml, hown, hts⟩ (zc_X3_holds l D cA a M N h 1) (cwV 1 hts gX3_isPair_X3_holds rfl rfl rfl zy_X3_holds ⟨Nat.le_of_ble_eq_true rfl, Nat.le_of_ble_eq_true rfl⟩) (z_preV (ci := 3) hK hP hD rfl rfl) rfl rfl hl.1 rfl (lv_room (Nat.le_of_ble_eq_true rfl)) dX3_isPair_48 ⟨Nat.zero_le _, Nat.zero_le _⟩) hP hD hS moW_adr rfl (fun H locs hP9 hD9 hS9 => ?_)
        replace hP : va_P D vwCl (moW cA a ((f_X3_holds M 1).2) N h) H := hP9
        replace hD : va_D _ (moW cA a ((f_X3_holds M 1).2) N h) := hD9
        replace hS := hS9
        clear hP9 hD9 hS9
        obtain ⟨M_6, eM_6⟩ : ∃ z9 : BK, z9 = (f_X3_holds M 1).2 := ⟨_, rfl⟩
        rw [← eM_6] at hP hD
        refine z_top (y := 0) (by simp only [f_X3_holds]; rfl) ?_
        exact z_zretM (w1 := moW cA a M_6 N h) hx hb hr hlocks dX3_isPair_51 hP hS rfl (by subst eM_6; simp only [f_X3_isPair, if_neg c_1, if_pos c_4]) (by subst eM_6; simp only [f_X3_isPair, if_neg c_1, if_pos c_4])
    · refine lv_iconst (v := 1) hx hb dX3_isPair_14 (by decide) ?_
      refine lv_goto (tgt := 19) hx hb dX3_isPair_15 (by decide) ?_
      refine lv_istore (lv' := [(4, .int 1), (0, .ref (a 0)), (1, .int i1), (2, .int i2), (3, .int am)]) hx hb dX3_isPair_19 hl (by decide) rfl (fun ls hl => ?_)
      refine lv_aload_n hx hb dX3_isPair_21 rfl (lv_at hl 1 rfl) ?_
      refine lv_iload hx hb dX3_isPair_22 (lv_at hl 0 rfl) ?_
      refine lv_if_ne (tgt := 31) hx hb dX3_isPair_24 (by decide) (fun c_7 => ?_) (fun c_7 => ?_)
      · refine lv_iload_n hx hb dX3_isPair_31 rfl (lv_at hl 2 rfl) ?_
        refine lv_iload_n hx hb dX3_isPair_32 rfl (lv_at hl 3 rfl) ?_
        refine lv_icmp_eq (tgt := 43) hx hb dX3_isPair_33 (by decide) (fun c_8 => ?_) (fun c_8 => ?_)
        · refine lv_iconst (v := 2) hx hb dX3_isPair_43 (by decide) ?_
          refine lv_goto (tgt := 48) hx hb dX3_isPair_44 (by decide) ?_
          refine z_M (X := ([] : va_W)) (Z := ([] : va_W)) (va_runV (As := [.int 2]) (rest := []) ⟨hx, hb, hml, hown, hts⟩ (zc_X3_holds l D cA a M N h 2) (cwV 1 hts gX3_isPair_X3_holds rfl rfl rfl zy_X3_holds ⟨Nat.le_of_ble_eq_true rfl, Nat.le_of_ble_eq_true rfl⟩) (z_preV (ci := 3) hK hP hD rfl rfl) rfl rfl hl.1 rfl (lv_room (Nat.le_of_ble_eq_true rfl)) dX3_isPair_48 ⟨Nat.zero_le _, Nat.zero_le _⟩) hP hD hS moW_adr rfl (fun H locs hP9 hD9 hS9 => ?_)
          replace hP : va_P D vwCl (moW cA a ((f_X3_holds M 2).2) N h) H := hP9
          replace hD : va_D _ (moW cA a ((f_X3_holds M 2).2) N h) := hD9
          replace hS := hS9
          clear hP9 hD9 hS9
          obtain ⟨M_9, eM_9⟩ : ∃ z9 : BK, z9 = (f_X3_holds M 2).2 := ⟨_, rfl⟩
          rw [← eM_9] at hP hD
          refine z_top (y := 0) (by simp only [f_X3_holds]; rfl) ?_
          exact z_zretM (w1 := moW cA a M_9 N h) hx hb hr hlocks dX3_isPair_51 hP hS rfl (by subst eM_9; simp only [f_X3_isPair, if_neg c_1, if_neg c_4, if_pos c_8]) (by subst eM_9; simp only [f_X3_isPair, if_neg c_1, if_neg c_4, if_pos c_8])
        · refine lv_iload_n hx hb dX3_isPair_36 rfl (lv_at hl 4 rfl) ?_
          refine z_E (va_runS (As := [.int am]) (rest := [.ref (a 0)]) ⟨hx, hb, hml, hown, hts⟩ (zc_X3_isAmount l D cA am) (va_cwS 1 hts gX3_isPair_X3_isAmount rfl rfl rfl zy_X3_isAmount.2 ⟨Nat.le_of_ble_eq_true rfl, Nat.le_of_ble_eq_true rfl⟩) (z_preS hK z_P0 (z_D0 (A := fun _ => True))) rfl rfl hl.1 rfl (lv_room (Nat.le_of_ble_eq_true rfl)) dX3_isPair_37 ⟨Nat.zero_le _, Nat.zero_le _⟩) rfl ?_
          refine lv_if_ne (tgt := 47) hx hb dX3_isPair_40 (by decide) (fun c_10 => ?_) (fun c_10 => ?_)
          · refine lv_iconst (v := 0) hx hb dX3_isPair_47 (by decide) ?_
            refine z_M (X := ([] : va_W)) (Z := ([] : va_W)) (va_runV (As := [.int 0]) (rest := []) ⟨hx, hb, hml, hown, hts⟩ (zc_X3_holds l D cA a M N h 0) (cwV 1 hts gX3_isPair_X3_holds rfl rfl rfl zy_X3_holds ⟨Nat.le_of_ble_eq_true rfl, Nat.le_of_ble_eq_true rfl⟩) (z_preV (ci := 3) hK hP hD rfl rfl) rfl rfl hl.1 rfl (lv_room (Nat.le_of_ble_eq_true rfl)) dX3_isPair_48 ⟨Nat.zero_le _, Nat.zero_le _⟩) hP hD hS moW_adr rfl (fun H locs hP9 hD9 hS9 => ?_)
            replace hP : va_P D vwCl (moW cA a ((f_X3_holds M 0).2) N h) H := hP9
            replace hD : va_D _ (moW cA a ((f_X3_holds M 0).2) N h) := hD9
            replace hS := hS9
            clear hP9 hD9 hS9
            obtain ⟨M_11, eM_11⟩ : ∃ z9 : BK, z9 = (f_X3_holds M 0).2 := ⟨_, rfl⟩
            rw [← eM_11] at hP hD
            refine z_top (y := 1) (by simp only [f_X3_holds]; rfl) ?_
            exact z_zretM (w1 := moW cA a M_11 N h) hx hb hr hlocks dX3_isPair_51 hP hS rfl (by subst eM_11; simp only [f_X3_isPair, if_neg c_1, if_neg c_4, if_neg c_8, if_neg c_10]) (by subst eM_11; simp only [f_X3_isPair, if_neg c_1, if_neg c_4, if_neg c_8, if_neg c_10])
          · refine lv_iconst (v := 2) hx hb dX3_isPair_43 (by decide) ?_
            refine lv_goto (tgt := 48) hx hb dX3_isPair_44 (by decide) ?_
            refine z_M (X := ([] : va_W)) (Z := ([] : va_W)) (va_runV (As := [.int 2]) (rest := []) ⟨hx, hb, hml, hown, hts⟩ (zc_X3_holds l D cA a M N h 2) (cwV 1 hts gX3_isPair_X3_holds rfl rfl rfl zy_X3_holds ⟨Nat.le_of_ble_eq_true rfl, Nat.le_of_ble_eq_true rfl⟩) (z_preV (ci := 3) hK hP hD rfl rfl) rfl rfl hl.1 rfl (lv_room (Nat.le_of_ble_eq_true rfl)) dX3_isPair_48 ⟨Nat.zero_le _, Nat.zero_le _⟩) hP hD hS moW_adr rfl (fun H locs hP9 hD9 hS9 => ?_)
            replace hP : va_P D vwCl (moW cA a ((f_X3_holds M 2).2) N h) H := hP9
            replace hD : va_D _ (moW cA a ((f_X3_holds M 2).2) N h) := hD9
            replace hS := hS9
            clear hP9 hD9 hS9
            obtain ⟨M_12, eM_12⟩ : ∃ z9 : BK, z9 = (f_X3_holds M 2).2 := ⟨_, rfl⟩
            rw [← eM_12] at hP hD
            refine z_top (y := 0) (by simp only [f_X3_holds]; rfl) ?_
            exact z_zretM (w1 := moW cA a M_12 N h) hx hb hr hlocks dX3_isPair_51 hP hS rfl (by subst eM_12; simp only [f_X3_isPair, if_neg c_1, if_neg c_4, if_neg c_8, if_pos c_10]) (by subst eM_12; simp only [f_X3_isPair, if_neg c_1, if_neg c_4, if_neg c_8, if_pos c_10])
      · exact absurd c_7 (by decide)

theorem zy_X3_pledge : yX3_pledge.cls = RX3 ∧ yX3_pledge.cls ≠ "java/lang/invoke/MethodHandle" ∧ yX3_pledge.cls ≠ "java/lang/invoke/VarHandle" ∧ (parseMethodDescriptor yX3_pledge.desc).map (fun d => d.parameters.length) = some 3 := by decide +kernel
def f_X3_pledge (M : BK) (N : Nat → Nat) (i1 : Int32) (i2 : Int32) (am : Int32) : Int32 × BK × (Nat → Nat) :=
  let M_1 : BK := (f_X3_isPair M i1 i2 am).2
  if ((f_X3_isPair M i1 i2 am).1) = 0 then
    (0, M_1, N)
  else
    let M_3 : BK := (f_X3_save M_1 N).1
    let N_4 : Nat → Nat := (f_X3_save M_1 N).2
    let M_5 : BK := (f_X3_pledges M_3 i1.toNatClampNeg i2.toNatClampNeg am).2
    ((f_X3_pledges M_3 i1.toNatClampNeg i2.toNatClampNeg am).1, M_5, N_4)

set_option maxHeartbeats 4000000 in
set_option maxRecDepth 100000 in
theorem zc_X3_pledge (l : Launch) (D : va_G) (cA : Nat → ClassId) (a : Nat → Nat) (M : BK) (N : Nat → Nat) (h : Int64) (i1 : Int32) (i2 : Int32) (am : Int32) (hsv : N 0 ≤ 6) : Met l yX3_pledge wsX3_pledge (zrm 5 111) (zPc D cA [.ref (a 0), .int i1, .int i2, .int am] (moW cA a M N h)) (zM D (moW cA a M N h) (moW cA a ((f_X3_pledge M N i1 i2 am).2.1) ((f_X3_pledge M N i1 i2 am).2.2) h) (some (.int ((f_X3_pledge M N i1 i2 am).1)))) 0 0 (zfr (moW cA a M N h)) := by
  refine Met.ofW (cc := cX3_pledge) (maxL := 4) (ret := (some .int)) (by decide) rfl ?_
  intro p e s m args below meth c s₁ Bd hml hv
  obtain ⟨rfl, hP, hK, hD0⟩ := hv
  have hx := Bd.exec
  have hb := Bd.bytes
  have hr := Bd.returns
  have hts := atoms_spec (ws := wsX3_pledge) Bd.pre
  have hown : s.vm.findClass RX3 = some m.cls := findClass_of_methodNamed Bd.named
  have hlocks := Bd.notSynchronized
  have hD := z_Dfr hD0
  have hS : va_S (zfr (moW cA a M N h)) s.heap s.heap [] := va_S.rf
  have hi3 : ∀ w ∈ wsX30, w ∈ wsX3_pledge := fun w h => List.mem_cons_of_mem _ (List.mem_append_right _ h)
  have hl := lv_entry ([.ref (a 0), .int i1, .int i2, .int am]) (n := 4) (Nat.le_of_ble_eq_true rfl)
  rw [lg_entry_eq]
  generalize (lg_sl ([.ref (a 0), .int i1, .int i2, .int am]) ++ List.replicate (4 - (lg_sl ([.ref (a 0), .int i1, .int i2, .int am])).length) Slot.unset).toArray = ls at hl ⊢
  have hl : lv_has ls 4 [(0, .ref (a 0)), (1, .int i1), (2, .int i2), (3, .int am)] := hl
  refine lv_aload_n hx hb dX3_pledge_0 rfl (lv_at hl 0 rfl) ?_
  refine lv_iload_n hx hb dX3_pledge_1 rfl (lv_at hl 1 rfl) ?_
  refine lv_iload_n hx hb dX3_pledge_2 rfl (lv_at hl 2 rfl) ?_
  refine lv_iload_n hx hb dX3_pledge_3 rfl (lv_at hl 3 rfl) ?_
  refine z_M (X := ([] : va_W)) (Z := ([] : va_W)) (va_runV (As := [.int i1, .int i2, .int am]) (rest := []) ⟨hx, hb, hml, hown, hts⟩ (zc_X3_isPair l D cA a M N h i1 i2 am) (cwV 3 hts gX3_pledge_X3_isPair rfl rfl rfl zy_X3_isPair ⟨Nat.le_of_ble_eq_true rfl, Nat.le_of_ble_eq_true rfl⟩) (z_preV (ci := 3) hK hP hD rfl rfl) rfl rfl hl.1 rfl (lv_room (Nat.le_of_ble_eq_true rfl)) dX3_pledge_4 ⟨Nat.zero_le _, Nat.zero_le _⟩) hP hD hS moW_adr rfl (fun H locs hP9 hD9 hS9 => ?_)
  replace hP : va_P D vwCl (moW cA a ((f_X3_isPair M i1 i2 am).2) N h) H := hP9
  replace hD : va_D _ (moW cA a ((f_X3_isPair M i1 i2 am).2) N h) := hD9
  replace hS := hS9
  clear hP9 hD9 hS9
  obtain ⟨M_1, eM_1⟩ : ∃ z9 : BK, z9 = (f_X3_isPair M i1 i2 am).2 := ⟨_, rfl⟩
  rw [← eM_1] at hP hD
  refine lv_if_ne (tgt := 12) hx hb dX3_pledge_7 (by decide) (fun c_2 => ?_) (fun c_2 => ?_)
  · obtain ⟨m1, hm1, rfl⟩ : ∃ q9 : Nat, q9 < 6 ∧ i1 = nI q9 := zq_isPair1 c_2
    have hcl_m1 : (nI m1).toNatClampNeg = m1 := nI_clamp (by omega)
    obtain ⟨m2, hm2, rfl⟩ : ∃ q9 : Nat, q9 < 6 ∧ i2 = nI q9 := zq_isPair2 c_2
    have hcl_m2 : (nI m2).toNatClampNeg = m2 := nI_clamp (by omega)
    refine lv_aload_n hx hb dX3_pledge_12 rfl (lv_at hl 0 rfl) ?_
    refine z_M (X := ([] : va_W)) (Z := ([] : va_W)) (va_runV (As := []) (rest := []) ⟨hx, hb, hml, hown, hts⟩ (zc_X3_save l D cA a M_1 N h (by exact (show (N 0) ≤ 6 by omega))) (cwV 0 hts gX3_pledge_X3_save rfl rfl rfl zy_X3_save ⟨Nat.le_of_ble_eq_true rfl, Nat.le_of_ble_eq_true rfl⟩) (z_preV (ci := 3) hK hP hD rfl rfl) rfl rfl hl.1 rfl (lv_room (Nat.le_of_ble_eq_true rfl)) dX3_pledge_13 ⟨Nat.zero_le _, Nat.zero_le _⟩) hP hD hS moW_adr rfl (fun H locs hP9 hD9 hS9 => ?_)
    replace hP : va_P D vwCl (moW cA a ((f_X3_save M_1 N).1) ((f_X3_save M_1 N).2) h) H := hP9
    replace hD : va_D _ (moW cA a ((f_X3_save M_1 N).1) ((f_X3_save M_1 N).2) h) := hD9
    replace hS := hS9
    clear hP9 hD9 hS9
    obtain ⟨M_3, eM_3⟩ : ∃ z9 : BK, z9 = (f_X3_save M_1 N).1 := ⟨_, rfl⟩
    rw [← eM_3] at hP hD
    obtain ⟨N_4, eN_4⟩ : ∃ z9 : Nat → Nat, z9 = (f_X3_save M_1 N).2 := ⟨_, rfl⟩
    rw [← eN_4] at hP hD
    have hlN_4 : N_4 1 = (N 1) ∧ N_4 2 = (N 2) ∧ N_4 0 ≤ 6 := by rw [eN_4]; exact (zn_X3_save M_1 N (by first | assumption | omega))
    refine lv_aload_n hx hb dX3_pledge_16 rfl (lv_at hl 0 rfl) ?_
    refine lv_iload_n hx hb dX3_pledge_17 rfl (lv_at hl 1 rfl) ?_
    refine lv_iload_n hx hb dX3_pledge_18 rfl (lv_at hl 2 rfl) ?_
    refine lv_iload_n hx hb dX3_pledge_19 rfl (lv_at hl 3 rfl) ?_
    refine z_M (X := ([] : va_W)) (Z := ([] : va_W)) (va_runV (As := [.int (nI m1), .int (nI m2), .int am]) (rest := []) ⟨hx, hb, hml, hown, hts⟩ (zc_X3_pledges l D cA a M_3 N_4 h m1 m2 am (by omega) (by omega)) (cwV 3 hts gX3_pledge_X3_pledges rfl rfl rfl zy_X3_pledges ⟨Nat.le_of_ble_eq_true rfl, Nat.le_of_ble_eq_true rfl⟩) (z_preV (ci := 3) hK hP hD rfl rfl) rfl rfl hl.1 rfl (lv_room (Nat.le_of_ble_eq_true rfl)) dX3_pledge_20 ⟨Nat.zero_le _, Nat.zero_le _⟩) hP hD hS moW_adr rfl (fun H locs hP9 hD9 hS9 => ?_)
    replace hP : va_P D vwCl (moW cA a ((f_X3_pledges M_3 m1 m2 am).2) N_4 h) H := hP9
    replace hD : va_D _ (moW cA a ((f_X3_pledges M_3 m1 m2 am).2) N_4 h) := hD9
    replace hS := hS9
    clear hP9 hD9 hS9
    obtain ⟨M_5, eM_5⟩ : ∃ z9 : BK, z9 = (f_X3_pledges M_3 m1 m2 am).2 := ⟨_, rfl⟩
    rw [← eM_5] at hP hD
    exact z_iretM (w1 := moW cA a M_5 N_4 h) hx hb hr hlocks dX3_pledge_23 hP hS (by subst eM_5 eN_4 eM_3 eM_1; simp only [f_X3_pledge, if_neg c_2, hcl_m1, hcl_m2]) (by subst eM_5 eN_4 eM_3 eM_1; simp only [f_X3_pledge, if_neg c_2, hcl_m1, hcl_m2])
  · refine lv_iconst (v := 0) hx hb dX3_pledge_10 (by decide) ?_
    exact z_iretM (w1 := moW cA a M_1 N h) hx hb hr hlocks dX3_pledge_11 hP hS (by subst eM_1; simp only [f_X3_pledge, if_pos c_2]) (by subst eM_1; simp only [f_X3_pledge, if_pos c_2])

theorem zy_X3_unpledge : yX3_unpledge.cls = RX3 ∧ yX3_unpledge.cls ≠ "java/lang/invoke/MethodHandle" ∧ yX3_unpledge.cls ≠ "java/lang/invoke/VarHandle" ∧ (parseMethodDescriptor yX3_unpledge.desc).map (fun d => d.parameters.length) = some 3 := by decide +kernel
def f_X3_unpledge (M : BK) (N : Nat → Nat) (i1 : Int32) (i2 : Int32) (am : Int32) : Int32 × BK × (Nat → Nat) :=
  let M_1 : BK := (f_X3_isPair M i1 i2 am).2
  if ((f_X3_isPair M i1 i2 am).1) = 0 then
    (0, M_1, N)
  else
    let M_3 : BK := (f_X3_save M_1 N).1
    let N_4 : Nat → Nat := (f_X3_save M_1 N).2
    let M_5 : BK := (f_X3_takesBack M_3 i1.toNatClampNeg i2.toNatClampNeg am).2
    ((f_X3_takesBack M_3 i1.toNatClampNeg i2.toNatClampNeg am).1, M_5, N_4)

set_option maxHeartbeats 4000000 in
set_option maxRecDepth 100000 in
theorem zc_X3_unpledge (l : Launch) (D : va_G) (cA : Nat → ClassId) (a : Nat → Nat) (M : BK) (N : Nat → Nat) (h : Int64) (i1 : Int32) (i2 : Int32) (am : Int32) (hsv : N 0 ≤ 6) : Met l yX3_unpledge wsX3_unpledge (zrm 5 110) (zPc D cA [.ref (a 0), .int i1, .int i2, .int am] (moW cA a M N h)) (zM D (moW cA a M N h) (moW cA a ((f_X3_unpledge M N i1 i2 am).2.1) ((f_X3_unpledge M N i1 i2 am).2.2) h) (some (.int ((f_X3_unpledge M N i1 i2 am).1)))) 0 0 (zfr (moW cA a M N h)) := by
  refine Met.ofW (cc := cX3_unpledge) (maxL := 4) (ret := (some .int)) (by decide) rfl ?_
  intro p e s m args below meth c s₁ Bd hml hv
  obtain ⟨rfl, hP, hK, hD0⟩ := hv
  have hx := Bd.exec
  have hb := Bd.bytes
  have hr := Bd.returns
  have hts := atoms_spec (ws := wsX3_unpledge) Bd.pre
  have hown : s.vm.findClass RX3 = some m.cls := findClass_of_methodNamed Bd.named
  have hlocks := Bd.notSynchronized
  have hD := z_Dfr hD0
  have hS : va_S (zfr (moW cA a M N h)) s.heap s.heap [] := va_S.rf
  have hi3 : ∀ w ∈ wsX30, w ∈ wsX3_unpledge := fun w h => List.mem_cons_of_mem _ (List.mem_append_right _ h)
  have hl := lv_entry ([.ref (a 0), .int i1, .int i2, .int am]) (n := 4) (Nat.le_of_ble_eq_true rfl)
  rw [lg_entry_eq]
  generalize (lg_sl ([.ref (a 0), .int i1, .int i2, .int am]) ++ List.replicate (4 - (lg_sl ([.ref (a 0), .int i1, .int i2, .int am])).length) Slot.unset).toArray = ls at hl ⊢
  have hl : lv_has ls 4 [(0, .ref (a 0)), (1, .int i1), (2, .int i2), (3, .int am)] := hl
  refine lv_aload_n hx hb dX3_unpledge_0 rfl (lv_at hl 0 rfl) ?_
  refine lv_iload_n hx hb dX3_unpledge_1 rfl (lv_at hl 1 rfl) ?_
  refine lv_iload_n hx hb dX3_unpledge_2 rfl (lv_at hl 2 rfl) ?_
  refine lv_iload_n hx hb dX3_unpledge_3 rfl (lv_at hl 3 rfl) ?_
  refine z_M (X := ([] : va_W)) (Z := ([] : va_W)) (va_runV (As := [.int i1, .int i2, .int am]) (rest := []) ⟨hx, hb, hml, hown, hts⟩ (zc_X3_isPair l D cA a M N h i1 i2 am) (cwV 3 hts gX3_unpledge_X3_isPair rfl rfl rfl zy_X3_isPair ⟨Nat.le_of_ble_eq_true rfl, Nat.le_of_ble_eq_true rfl⟩) (z_preV (ci := 3) hK hP hD rfl rfl) rfl rfl hl.1 rfl (lv_room (Nat.le_of_ble_eq_true rfl)) dX3_unpledge_4 ⟨Nat.zero_le _, Nat.zero_le _⟩) hP hD hS moW_adr rfl (fun H locs hP9 hD9 hS9 => ?_)
  replace hP : va_P D vwCl (moW cA a ((f_X3_isPair M i1 i2 am).2) N h) H := hP9
  replace hD : va_D _ (moW cA a ((f_X3_isPair M i1 i2 am).2) N h) := hD9
  replace hS := hS9
  clear hP9 hD9 hS9
  obtain ⟨M_1, eM_1⟩ : ∃ z9 : BK, z9 = (f_X3_isPair M i1 i2 am).2 := ⟨_, rfl⟩
  rw [← eM_1] at hP hD
  refine lv_if_ne (tgt := 12) hx hb dX3_unpledge_7 (by decide) (fun c_2 => ?_) (fun c_2 => ?_)
  · obtain ⟨m1, hm1, rfl⟩ : ∃ q9 : Nat, q9 < 6 ∧ i1 = nI q9 := zq_isPair1 c_2
    have hcl_m1 : (nI m1).toNatClampNeg = m1 := nI_clamp (by omega)
    obtain ⟨m2, hm2, rfl⟩ : ∃ q9 : Nat, q9 < 6 ∧ i2 = nI q9 := zq_isPair2 c_2
    have hcl_m2 : (nI m2).toNatClampNeg = m2 := nI_clamp (by omega)
    refine lv_aload_n hx hb dX3_unpledge_12 rfl (lv_at hl 0 rfl) ?_
    refine z_M (X := ([] : va_W)) (Z := ([] : va_W)) (va_runV (As := []) (rest := []) ⟨hx, hb, hml, hown, hts⟩ (zc_X3_save l D cA a M_1 N h (by exact (show (N 0) ≤ 6 by omega))) (cwV 0 hts gX3_unpledge_X3_save rfl rfl rfl zy_X3_save ⟨Nat.le_of_ble_eq_true rfl, Nat.le_of_ble_eq_true rfl⟩) (z_preV (ci := 3) hK hP hD rfl rfl) rfl rfl hl.1 rfl (lv_room (Nat.le_of_ble_eq_true rfl)) dX3_unpledge_13 ⟨Nat.zero_le _, Nat.zero_le _⟩) hP hD hS moW_adr rfl (fun H locs hP9 hD9 hS9 => ?_)
    replace hP : va_P D vwCl (moW cA a ((f_X3_save M_1 N).1) ((f_X3_save M_1 N).2) h) H := hP9
    replace hD : va_D _ (moW cA a ((f_X3_save M_1 N).1) ((f_X3_save M_1 N).2) h) := hD9
    replace hS := hS9
    clear hP9 hD9 hS9
    obtain ⟨M_3, eM_3⟩ : ∃ z9 : BK, z9 = (f_X3_save M_1 N).1 := ⟨_, rfl⟩
    rw [← eM_3] at hP hD
    obtain ⟨N_4, eN_4⟩ : ∃ z9 : Nat → Nat, z9 = (f_X3_save M_1 N).2 := ⟨_, rfl⟩
    rw [← eN_4] at hP hD
    have hlN_4 : N_4 1 = (N 1) ∧ N_4 2 = (N 2) ∧ N_4 0 ≤ 6 := by rw [eN_4]; exact (zn_X3_save M_1 N (by first | assumption | omega))
    refine lv_aload_n hx hb dX3_unpledge_16 rfl (lv_at hl 0 rfl) ?_
    refine lv_iload_n hx hb dX3_unpledge_17 rfl (lv_at hl 1 rfl) ?_
    refine lv_iload_n hx hb dX3_unpledge_18 rfl (lv_at hl 2 rfl) ?_
    refine lv_iload_n hx hb dX3_unpledge_19 rfl (lv_at hl 3 rfl) ?_
    refine z_M (X := ([] : va_W)) (Z := ([] : va_W)) (va_runV (As := [.int (nI m1), .int (nI m2), .int am]) (rest := []) ⟨hx, hb, hml, hown, hts⟩ (zc_X3_takesBack l D cA a M_3 N_4 h m1 m2 am (by omega) (by omega)) (cwV 3 hts gX3_unpledge_X3_takesBack rfl rfl rfl zy_X3_takesBack ⟨Nat.le_of_ble_eq_true rfl, Nat.le_of_ble_eq_true rfl⟩) (z_preV (ci := 3) hK hP hD rfl rfl) rfl rfl hl.1 rfl (lv_room (Nat.le_of_ble_eq_true rfl)) dX3_unpledge_20 ⟨Nat.zero_le _, Nat.zero_le _⟩) hP hD hS moW_adr rfl (fun H locs hP9 hD9 hS9 => ?_)
    replace hP : va_P D vwCl (moW cA a ((f_X3_takesBack M_3 m1 m2 am).2) N_4 h) H := hP9
    replace hD : va_D _ (moW cA a ((f_X3_takesBack M_3 m1 m2 am).2) N_4 h) := hD9
    replace hS := hS9
    clear hP9 hD9 hS9
    obtain ⟨M_5, eM_5⟩ : ∃ z9 : BK, z9 = (f_X3_takesBack M_3 m1 m2 am).2 := ⟨_, rfl⟩
    rw [← eM_5] at hP hD
    exact z_iretM (w1 := moW cA a M_5 N_4 h) hx hb hr hlocks dX3_unpledge_23 hP hS (by subst eM_5 eN_4 eM_3 eM_1; simp only [f_X3_unpledge, if_neg c_2, hcl_m1, hcl_m2]) (by subst eM_5 eN_4 eM_3 eM_1; simp only [f_X3_unpledge, if_neg c_2, hcl_m1, hcl_m2])
  · refine lv_iconst (v := 0) hx hb dX3_unpledge_10 (by decide) ?_
    exact z_iretM (w1 := moW cA a M_1 N h) hx hb hr hlocks dX3_unpledge_11 hP hS (by subst eM_1; simp only [f_X3_unpledge, if_pos c_2]) (by subst eM_1; simp only [f_X3_unpledge, if_pos c_2])

theorem zy_X3_repay : yX3_repay.cls = RX3 ∧ yX3_repay.cls ≠ "java/lang/invoke/MethodHandle" ∧ yX3_repay.cls ≠ "java/lang/invoke/VarHandle" ∧ (parseMethodDescriptor yX3_repay.desc).map (fun d => d.parameters.length) = some 2 := by decide +kernel
def f_X3_repay (M : BK) (N : Nat → Nat) (i1 : Int32) (am : Int32) : Int32 × BK × (Nat → Nat) :=
  let M_1 : BK := (f_X3_isDeed M i1 am).2
  if ((f_X3_isDeed M i1 am).1) = 0 then
    (0, M_1, N)
  else
    let M_3 : BK := (f_X3_save M_1 N).1
    let N_4 : Nat → Nat := (f_X3_save M_1 N).2
    let M_5 : BK := (f_X3_repays M_3 i1.toNatClampNeg am).2
    ((f_X3_repays M_3 i1.toNatClampNeg am).1, M_5, N_4)

set_option maxHeartbeats 4000000 in
set_option maxRecDepth 100000 in
theorem zc_X3_repay (l : Launch) (D : va_G) (cA : Nat → ClassId) (a : Nat → Nat) (M : BK) (N : Nat → Nat) (h : Int64) (i1 : Int32) (am : Int32) (hsv : N 0 ≤ 6) : Met l yX3_repay wsX3_repay (zrm 3 64) (zPc D cA [.ref (a 0), .int i1, .int am] (moW cA a M N h)) (zM D (moW cA a M N h) (moW cA a ((f_X3_repay M N i1 am).2.1) ((f_X3_repay M N i1 am).2.2) h) (some (.int ((f_X3_repay M N i1 am).1)))) 0 0 (zfr (moW cA a M N h)) := by
  refine Met.ofW (cc := cX3_repay) (maxL := 3) (ret := (some .int)) (by decide) rfl ?_
  intro p e s m args below meth c s₁ Bd hml hv
  obtain ⟨rfl, hP, hK, hD0⟩ := hv
  have hx := Bd.exec
  have hb := Bd.bytes
  have hr := Bd.returns
  have hts := atoms_spec (ws := wsX3_repay) Bd.pre
  have hown : s.vm.findClass RX3 = some m.cls := findClass_of_methodNamed Bd.named
  have hlocks := Bd.notSynchronized
  have hD := z_Dfr hD0
  have hS : va_S (zfr (moW cA a M N h)) s.heap s.heap [] := va_S.rf
  have hi3 : ∀ w ∈ wsX30, w ∈ wsX3_repay := fun w h => List.mem_cons_of_mem _ (List.mem_append_right _ h)
  have hl := lv_entry ([.ref (a 0), .int i1, .int am]) (n := 3) (Nat.le_of_ble_eq_true rfl)
  rw [lg_entry_eq]
  generalize (lg_sl ([.ref (a 0), .int i1, .int am]) ++ List.replicate (3 - (lg_sl ([.ref (a 0), .int i1, .int am])).length) Slot.unset).toArray = ls at hl ⊢
  have hl : lv_has ls 3 [(0, .ref (a 0)), (1, .int i1), (2, .int am)] := hl
  refine lv_aload_n hx hb dX3_repay_0 rfl (lv_at hl 0 rfl) ?_
  refine lv_iload_n hx hb dX3_repay_1 rfl (lv_at hl 1 rfl) ?_
  refine lv_iload_n hx hb dX3_repay_2 rfl (lv_at hl 2 rfl) ?_
  refine z_M (X := ([] : va_W)) (Z := ([] : va_W)) (va_runV (As := [.int i1, .int am]) (rest := []) ⟨hx, hb, hml, hown, hts⟩ (zc_X3_isDeed l D cA a M N h i1 am) (cwV 2 hts gX3_repay_X3_isDeed rfl rfl rfl zy_X3_isDeed ⟨Nat.le_of_ble_eq_true rfl, Nat.le_of_ble_eq_true rfl⟩) (z_preV (ci := 3) hK hP hD rfl rfl) rfl rfl hl.1 rfl (lv_room (Nat.le_of_ble_eq_true rfl)) dX3_repay_3 ⟨Nat.zero_le _, Nat.zero_le _⟩) hP hD hS moW_adr rfl (fun H locs hP9 hD9 hS9 => ?_)
  replace hP : va_P D vwCl (moW cA a ((f_X3_isDeed M i1 am).2) N h) H := hP9
  replace hD : va_D _ (moW cA a ((f_X3_isDeed M i1 am).2) N h) := hD9
  replace hS := hS9
  clear hP9 hD9 hS9
  obtain ⟨M_1, eM_1⟩ : ∃ z9 : BK, z9 = (f_X3_isDeed M i1 am).2 := ⟨_, rfl⟩
  rw [← eM_1] at hP hD
  refine lv_if_ne (tgt := 11) hx hb dX3_repay_6 (by decide) (fun c_2 => ?_) (fun c_2 => ?_)
  · obtain ⟨m1, hm1, rfl⟩ : ∃ q9 : Nat, q9 < 6 ∧ i1 = nI q9 := zq_isDeed c_2
    have hcl_m1 : (nI m1).toNatClampNeg = m1 := nI_clamp (by omega)
    refine lv_aload_n hx hb dX3_repay_11 rfl (lv_at hl 0 rfl) ?_
    refine z_M (X := ([] : va_W)) (Z := ([] : va_W)) (va_runV (As := []) (rest := []) ⟨hx, hb, hml, hown, hts⟩ (zc_X3_save l D cA a M_1 N h (by exact (show (N 0) ≤ 6 by omega))) (cwV 0 hts gX3_repay_X3_save rfl rfl rfl zy_X3_save ⟨Nat.le_of_ble_eq_true rfl, Nat.le_of_ble_eq_true rfl⟩) (z_preV (ci := 3) hK hP hD rfl rfl) rfl rfl hl.1 rfl (lv_room (Nat.le_of_ble_eq_true rfl)) dX3_repay_12 ⟨Nat.zero_le _, Nat.zero_le _⟩) hP hD hS moW_adr rfl (fun H locs hP9 hD9 hS9 => ?_)
    replace hP : va_P D vwCl (moW cA a ((f_X3_save M_1 N).1) ((f_X3_save M_1 N).2) h) H := hP9
    replace hD : va_D _ (moW cA a ((f_X3_save M_1 N).1) ((f_X3_save M_1 N).2) h) := hD9
    replace hS := hS9
    clear hP9 hD9 hS9
    obtain ⟨M_3, eM_3⟩ : ∃ z9 : BK, z9 = (f_X3_save M_1 N).1 := ⟨_, rfl⟩
    rw [← eM_3] at hP hD
    obtain ⟨N_4, eN_4⟩ : ∃ z9 : Nat → Nat, z9 = (f_X3_save M_1 N).2 := ⟨_, rfl⟩
    rw [← eN_4] at hP hD
    have hlN_4 : N_4 1 = (N 1) ∧ N_4 2 = (N 2) ∧ N_4 0 ≤ 6 := by rw [eN_4]; exact (zn_X3_save M_1 N (by first | assumption | omega))
    refine lv_aload_n hx hb dX3_repay_15 rfl (lv_at hl 0 rfl) ?_
    refine lv_iload_n hx hb dX3_repay_16 rfl (lv_at hl 1 rfl) ?_
    refine lv_iload_n hx hb dX3_repay_17 rfl (lv_at hl 2 rfl) ?_
    refine z_M (X := ([] : va_W)) (Z := ([] : va_W)) (va_runV (As := [.int (nI m1), .int am]) (rest := []) ⟨hx, hb, hml, hown, hts⟩ (zc_X3_repays l D cA a M_3 N_4 h m1 am (by omega)) (cwV 2 hts gX3_repay_X3_repays rfl rfl rfl zy_X3_repays ⟨Nat.le_of_ble_eq_true rfl, Nat.le_of_ble_eq_true rfl⟩) (z_preV (ci := 3) hK hP hD rfl rfl) rfl rfl hl.1 rfl (lv_room (Nat.le_of_ble_eq_true rfl)) dX3_repay_18 ⟨Nat.zero_le _, Nat.zero_le _⟩) hP hD hS moW_adr rfl (fun H locs hP9 hD9 hS9 => ?_)
    replace hP : va_P D vwCl (moW cA a ((f_X3_repays M_3 m1 am).2) N_4 h) H := hP9
    replace hD : va_D _ (moW cA a ((f_X3_repays M_3 m1 am).2) N_4 h) := hD9
    replace hS := hS9
    clear hP9 hD9 hS9
    obtain ⟨M_5, eM_5⟩ : ∃ z9 : BK, z9 = (f_X3_repays M_3 m1 am).2 := ⟨_, rfl⟩
    rw [← eM_5] at hP hD
    exact z_iretM (w1 := moW cA a M_5 N_4 h) hx hb hr hlocks dX3_repay_21 hP hS (by subst eM_5 eN_4 eM_3 eM_1; simp only [f_X3_repay, if_neg c_2, hcl_m1]) (by subst eM_5 eN_4 eM_3 eM_1; simp only [f_X3_repay, if_neg c_2, hcl_m1])
  · refine lv_iconst (v := 0) hx hb dX3_repay_9 (by decide) ?_
    exact z_iretM (w1 := moW cA a M_1 N h) hx hb hr hlocks dX3_repay_10 hP hS (by subst eM_1; simp only [f_X3_repay, if_pos c_2]) (by subst eM_1; simp only [f_X3_repay, if_pos c_2])

theorem zy_X3_borrow : yX3_borrow.cls = RX3 ∧ yX3_borrow.cls ≠ "java/lang/invoke/MethodHandle" ∧ yX3_borrow.cls ≠ "java/lang/invoke/VarHandle" ∧ (parseMethodDescriptor yX3_borrow.desc).map (fun d => d.parameters.length) = some 3 := by decide +kernel
def f_X3_borrow (M : BK) (N : Nat → Nat) (i1 : Int32) (i2 : Int32) (i3 : Int32) : Int32 × BK × (Nat → Nat) :=
  if (f_X3_isAmount i2) = 0 then
    if (f_X3_isMember i1) = 0 then
      let M_6 : BK := (f_X3_holds M 1).2
      (0, M_6, N)
    else
      let M_4 : BK := (f_X3_holds M 2).2
      (0, M_4, N)
  else
    if (f_X3_in i3 1 52) = 0 then
      if (f_X3_isMember i1) = 0 then
        let M_13 : BK := (f_X3_holds M 1).2
        (0, M_13, N)
      else
        let M_11 : BK := (f_X3_holds M 2).2
        (0, M_11, N)
    else
      if (f_X3_isMember i1) = 0 then
        let M_22 : BK := (f_X3_holds M 1).2
        (0, M_22, N)
      else
        let M_17 : BK := (f_X3_holds M 0).2
        let M_19 : BK := (f_X3_save M_17 N).1
        let N_20 : Nat → Nat := (f_X3_save M_17 N).2
        let M_21 : BK := (f_X3_lends M_19 i1.toNatClampNeg i2 i3).2
        ((f_X3_lends M_19 i1.toNatClampNeg i2 i3).1, M_21, N_20)

set_option maxHeartbeats 4000000 in
set_option maxRecDepth 100000 in
theorem zc_X3_borrow (l : Launch) (D : va_G) (cA : Nat → ClassId) (a : Nat → Nat) (M : BK) (N : Nat → Nat) (h : Int64) (i1 : Int32) (i2 : Int32) (i3 : Int32) (hsv : N 0 ≤ 6) : Met l yX3_borrow wsX3_borrow (zrm 6 134) (zPc D cA [.ref (a 0), .int i1, .int i2, .int i3] (moW cA a M N h)) (zM D (moW cA a M N h) (moW cA a ((f_X3_borrow M N i1 i2 i3).2.1) ((f_X3_borrow M N i1 i2 i3).2.2) h) (some (.int ((f_X3_borrow M N i1 i2 i3).1)))) 0 0 (zfr (moW cA a M N h)) := by
  refine Met.ofW (cc := cX3_borrow) (maxL := 5) (ret := (some .int)) (by decide) rfl ?_
  intro p e s m args below meth c s₁ Bd hml hv
  obtain ⟨rfl, hP, hK, hD0⟩ := hv
  have hx := Bd.exec
  have hb := Bd.bytes
  have hr := Bd.returns
  have hts := atoms_spec (ws := wsX3_borrow) Bd.pre
  have hown : s.vm.findClass RX3 = some m.cls := findClass_of_methodNamed Bd.named
  have hlocks := Bd.notSynchronized
  have hD := z_Dfr hD0
  have hS : va_S (zfr (moW cA a M N h)) s.heap s.heap [] := va_S.rf
  have hi3 : ∀ w ∈ wsX30, w ∈ wsX3_borrow := fun w h => List.mem_cons_of_mem _ (List.mem_append_right _ h)
  have hl := lv_entry ([.ref (a 0), .int i1, .int i2, .int i3]) (n := 5) (Nat.le_of_ble_eq_true rfl)
  rw [lg_entry_eq]
  generalize (lg_sl ([.ref (a 0), .int i1, .int i2, .int i3]) ++ List.replicate (5 - (lg_sl ([.ref (a 0), .int i1, .int i2, .int i3])).length) Slot.unset).toArray = ls at hl ⊢
  have hl : lv_has ls 5 [(0, .ref (a 0)), (1, .int i1), (2, .int i2), (3, .int i3)] := hl
  refine lv_iload_n hx hb dX3_borrow_0 rfl (lv_at hl 2 rfl) ?_
  refine z_E (va_runS (As := [.int i2]) (rest := []) ⟨hx, hb, hml, hown, hts⟩ (zc_X3_isAmount l D cA i2) (va_cwS 1 hts gX3_borrow_X3_isAmount rfl rfl rfl zy_X3_isAmount.2 ⟨Nat.le_of_ble_eq_true rfl, Nat.le_of_ble_eq_true rfl⟩) (z_preS hK z_P0 (z_D0 (A := fun _ => True))) rfl rfl hl.1 rfl (lv_room (Nat.le_of_ble_eq_true rfl)) dX3_borrow_1 ⟨Nat.zero_le _, Nat.zero_le _⟩) rfl ?_
  refine lv_if_eq (tgt := 21) hx hb dX3_borrow_4 (by decide) (fun c_1 => ?_) (fun c_1 => ?_)
  · refine lv_iconst (v := 0) hx hb dX3_borrow_21 (by decide) ?_
    refine lv_istore (lv' := [(4, .int 0), (0, .ref (a 0)), (1, .int i1), (2, .int i2), (3, .int i3)]) hx hb dX3_borrow_22 hl (by decide) rfl (fun ls hl => ?_)
    refine lv_aload_n hx hb dX3_borrow_24 rfl (lv_at hl 1 rfl) ?_
    refine lv_iload_n hx hb dX3_borrow_25 rfl (lv_at hl 2 rfl) ?_
    refine z_E (va_runS (As := [.int i1]) (rest := [.ref (a 0)]) ⟨hx, hb, hml, hown, hts⟩ (zc_X3_isMember l D cA i1) (va_cwS 1 hts gX3_borrow_X3_isMember rfl rfl rfl zy_X3_isMember.2 ⟨Nat.le_of_ble_eq_true rfl, Nat.le_of_ble_eq_true rfl⟩) (z_preS hK z_P0 (z_D0 (A := fun _ => True))) rfl rfl hl.1 rfl (lv_room (Nat.le_of_ble_eq_true rfl)) dX3_borrow_26 ⟨Nat.zero_le _, Nat.zero_le _⟩) rfl ?_
    refine lv_if_ne (tgt := 36) hx hb dX3_borrow_29 (by decide) (fun c_2 => ?_) (fun c_2 => ?_)
    · obtain ⟨m1, hm1, rfl⟩ : ∃ q9 : Nat, q9 < 6 ∧ i1 = nI q9 := zq_isMember c_2
      have hcl_m1 : (nI m1).toNatClampNeg = m1 := nI_clamp (by omega)
      refine lv_iload hx hb dX3_borrow_36 (lv_at hl 0 rfl) ?_
      refine lv_if_ne (tgt := 45) hx hb dX3_borrow_38 (by decide) (fun c_3 => ?_) (fun c_3 => ?_)
      · exact absurd c_3 (by decide)
      · refine lv_iconst (v := 2) hx hb dX3_borrow_41 (by decide) ?_
        refine lv_goto (tgt := 46) hx hb dX3_borrow_42 (by decide) ?_
        refine z_M (X := ([] : va_W)) (Z := ([] : va_W)) (va_runV (As := [.int 2]) (rest := []) ⟨hx, hb, hml, hown, hts⟩ (zc_X3_holds l D cA a M N h 2) (cwV 1 hts gX3_borrow_X3_holds rfl rfl rfl zy_X3_holds ⟨Nat.le_of_ble_eq_true rfl, Nat.le_of_ble_eq_true rfl⟩) (z_preV (ci := 3) hK hP hD rfl rfl) rfl rfl hl.1 rfl (lv_room (Nat.le_of_ble_eq_true rfl)) dX3_borrow_46 ⟨Nat.zero_le _, Nat.zero_le _⟩) hP hD hS moW_adr rfl (fun H locs hP9 hD9 hS9 => ?_)
        replace hP : va_P D vwCl (moW cA a ((f_X3_holds M 2).2) N h) H := hP9
        replace hD : va_D _ (moW cA a ((f_X3_holds M 2).2) N h) := hD9
        replace hS := hS9
        clear hP9 hD9 hS9
        obtain ⟨M_4, eM_4⟩ : ∃ z9 : BK, z9 = (f_X3_holds M 2).2 := ⟨_, rfl⟩
        rw [← eM_4] at hP hD
        refine z_top (y := 0) (by simp only [f_X3_holds]; rfl) ?_
        refine lv_if_ne (tgt := 54) hx hb dX3_borrow_49 (by decide) (fun c_5 => ?_) (fun c_5 => ?_)
        · exact absurd c_5 (by decide)
        · refine lv_iconst (v := 0) hx hb dX3_borrow_52 (by decide) ?_
          exact z_iretM (w1 := moW cA a M_4 N h) hx hb hr hlocks dX3_borrow_53 hP hS (by subst eM_4; simp only [f_X3_borrow, if_pos c_1, if_neg c_2, hcl_m1]) (by subst eM_4; simp only [f_X3_borrow, if_pos c_1, if_neg c_2, hcl_m1])
    · refine lv_iconst (v := 1) hx hb dX3_borrow_32 (by decide) ?_
      refine lv_goto (tgt := 46) hx hb dX3_borrow_33 (by decide) ?_
      refine z_M (X := ([] : va_W)) (Z := ([] : va_W)) (va_runV (As := [.int 1]) (rest := []) ⟨hx, hb, hml, hown, hts⟩ (zc_X3_holds l D cA a M N h 1) (cwV 1 hts gX3_borrow_X3_holds rfl rfl rfl zy_X3_holds ⟨Nat.le_of_ble_eq_true rfl, Nat.le_of_ble_eq_true rfl⟩) (z_preV (ci := 3) hK hP hD rfl rfl) rfl rfl hl.1 rfl (lv_room (Nat.le_of_ble_eq_true rfl)) dX3_borrow_46 ⟨Nat.zero_le _, Nat.zero_le _⟩) hP hD hS moW_adr rfl (fun H locs hP9 hD9 hS9 => ?_)
      replace hP : va_P D vwCl (moW cA a ((f_X3_holds M 1).2) N h) H := hP9
      replace hD : va_D _ (moW cA a ((f_X3_holds M 1).2) N h) := hD9
      replace hS := hS9
      clear hP9 hD9 hS9
      obtain ⟨M_6, eM_6⟩ : ∃ z9 : BK, z9 = (f_X3_holds M 1).2 := ⟨_, rfl⟩
      rw [← eM_6] at hP hD
      refine z_top (y := 0) (by simp only [f_X3_holds]; rfl) ?_
      refine lv_if_ne (tgt := 54) hx hb dX3_borrow_49 (by decide) (fun c_7 => ?_) (fun c_7 => ?_)
      · exact absurd c_7 (by decide)
      · refine lv_iconst (v := 0) hx hb dX3_borrow_52 (by decide) ?_
        exact z_iretM (w1 := moW cA a M_6 N h) hx hb hr hlocks dX3_borrow_53 hP hS (by subst eM_6; simp only [f_X3_borrow, if_pos c_1, if_pos c_2]) (by subst eM_6; simp only [f_X3_borrow, if_pos c_1, if_pos c_2])
  · refine lv_iload_n hx hb dX3_borrow_7 rfl (lv_at hl 3 rfl) ?_
    refine lv_iconst (v := 1) hx hb dX3_borrow_8 (by decide) ?_
    refine lv_bipush (v := 52) hx hb dX3_borrow_9 (by decide) ?_
    refine z_E (va_runS (As := [.int i3, .int 1, .int 52]) (rest := []) ⟨hx, hb, hml, hown, hts⟩ (zc_X3_in l D cA i3 1 52) (va_cwS 3 hts gX3_borrow_X3_in rfl rfl rfl zy_X3_in.2 ⟨Nat.le_of_ble_eq_true rfl, Nat.le_of_ble_eq_true rfl⟩) (z_preS hK z_P0 (z_D0 (A := fun _ => True))) rfl rfl hl.1 rfl (lv_room (Nat.le_of_ble_eq_true rfl)) dX3_borrow_11 ⟨Nat.zero_le _, Nat.zero_le _⟩) rfl ?_
    refine lv_if_eq (tgt := 21) hx hb dX3_borrow_14 (by decide) (fun c_8 => ?_) (fun c_8 => ?_)
    · refine lv_iconst (v := 0) hx hb dX3_borrow_21 (by decide) ?_
      refine lv_istore (lv' := [(4, .int 0), (0, .ref (a 0)), (1, .int i1), (2, .int i2), (3, .int i3)]) hx hb dX3_borrow_22 hl (by decide) rfl (fun ls hl => ?_)
      refine lv_aload_n hx hb dX3_borrow_24 rfl (lv_at hl 1 rfl) ?_
      refine lv_iload_n hx hb dX3_borrow_25 rfl (lv_at hl 2 rfl) ?_
      refine z_E (va_runS (As := [.int i1]) (rest := [.ref (a 0)]) ⟨hx, hb, hml, hown, hts⟩ (zc_X3_isMember l D cA i1) (va_cwS 1 hts gX3_borrow_X3_isMember rfl rfl rfl zy_X3_isMember.2 ⟨Nat.le_of_ble_eq_true rfl, Nat.le_of_ble_eq_true rfl⟩) (z_preS hK z_P0 (z_D0 (A := fun _ => True))) rfl rfl hl.1 rfl (lv_room (Nat.le_of_ble_eq_true rfl)) dX3_borrow_26 ⟨Nat.zero_le _, Nat.zero_le _⟩) rfl ?_
      refine lv_if_ne (tgt := 36) hx hb dX3_borrow_29 (by decide) (fun c_9 => ?_) (fun c_9 => ?_)
      · obtain ⟨m1, hm1, rfl⟩ : ∃ q9 : Nat, q9 < 6 ∧ i1 = nI q9 := zq_isMember c_9
        have hcl_m1 : (nI m1).toNatClampNeg = m1 := nI_clamp (by omega)
        refine lv_iload hx hb dX3_borrow_36 (lv_at hl 0 rfl) ?_
        refine lv_if_ne (tgt := 45) hx hb dX3_borrow_38 (by decide) (fun c_10 => ?_) (fun c_10 => ?_)
        · exact absurd c_10 (by decide)
        · refine lv_iconst (v := 2) hx hb dX3_borrow_41 (by decide) ?_
          refine lv_goto (tgt := 46) hx hb dX3_borrow_42 (by decide) ?_
          refine z_M (X := ([] : va_W)) (Z := ([] : va_W)) (va_runV (As := [.int 2]) (rest := []) ⟨hx, hb, hml, hown, hts⟩ (zc_X3_holds l D cA a M N h 2) (cwV 1 hts gX3_borrow_X3_holds rfl rfl rfl zy_X3_holds ⟨Nat.le_of_ble_eq_true rfl, Nat.le_of_ble_eq_true rfl⟩) (z_preV (ci := 3) hK hP hD rfl rfl) rfl rfl hl.1 rfl (lv_room (Nat.le_of_ble_eq_true rfl)) dX3_borrow_46 ⟨Nat.zero_le _, Nat.zero_le _⟩) hP hD hS moW_adr rfl (fun H locs hP9 hD9 hS9 => ?_)
          replace hP : va_P D vwCl (moW cA a ((f_X3_holds M 2).2) N h) H := hP9
          replace hD : va_D _ (moW cA a ((f_X3_holds M 2).2) N h) := hD9
          replace hS := hS9
          clear hP9 hD9 hS9
          obtain ⟨M_11, eM_11⟩ : ∃ z9 : BK, z9 = (f_X3_holds M 2).2 := ⟨_, rfl⟩
          rw [← eM_11] at hP hD
          refine z_top (y := 0) (by simp only [f_X3_holds]; rfl) ?_
          refine lv_if_ne (tgt := 54) hx hb dX3_borrow_49 (by decide) (fun c_12 => ?_) (fun c_12 => ?_)
          · exact absurd c_12 (by decide)
          · refine lv_iconst (v := 0) hx hb dX3_borrow_52 (by decide) ?_
            exact z_iretM (w1 := moW cA a M_11 N h) hx hb hr hlocks dX3_borrow_53 hP hS (by subst eM_11; simp only [f_X3_borrow, if_neg c_1, if_pos c_8, if_neg c_9, hcl_m1]) (by subst eM_11; simp only [f_X3_borrow, if_neg c_1, if_pos c_8, if_neg c_9, hcl_m1])
      · refine lv_iconst (v := 1) hx hb dX3_borrow_32 (by decide) ?_
        refine lv_goto (tgt := 46) hx hb dX3_borrow_33 (by decide) ?_
        refine z_M (X := ([] : va_W)) (Z := ([] : va_W)) (va_runV (As := [.int 1]) (rest := []) ⟨hx, hb, hml, hown, hts⟩ (zc_X3_holds l D cA a M N h 1) (cwV 1 hts gX3_borrow_X3_holds rfl rfl rfl zy_X3_holds ⟨Nat.le_of_ble_eq_true rfl, Nat.le_of_ble_eq_true rfl⟩) (z_preV (ci := 3) hK hP hD rfl rfl) rfl rfl hl.1 rfl (lv_room (Nat.le_of_ble_eq_true rfl)) dX3_borrow_46 ⟨Nat.zero_le _, Nat.zero_le _⟩) hP hD hS moW_adr rfl (fun H locs hP9 hD9 hS9 => ?_)
        replace hP : va_P D vwCl (moW cA a ((f_X3_holds M 1).2) N h) H := hP9
        replace hD : va_D _ (moW cA a ((f_X3_holds M 1).2) N h) := hD9
        replace hS := hS9
        clear hP9 hD9 hS9
        obtain ⟨M_13, eM_13⟩ : ∃ z9 : BK, z9 = (f_X3_holds M 1).2 := ⟨_, rfl⟩
        rw [← eM_13] at hP hD
        refine z_top (y := 0) (by simp only [f_X3_holds]; rfl) ?_
        refine lv_if_ne (tgt := 54) hx hb dX3_borrow_49 (by decide) (fun c_14 => ?_) (fun c_14 => ?_)
        · exact absurd c_14 (by decide)
        · refine lv_iconst (v := 0) hx hb dX3_borrow_52 (by decide) ?_
          exact z_iretM (w1 := moW cA a M_13 N h) hx hb hr hlocks dX3_borrow_53 hP hS (by subst eM_13; simp only [f_X3_borrow, if_neg c_1, if_pos c_8, if_pos c_9]) (by subst eM_13; simp only [f_X3_borrow, if_neg c_1, if_pos c_8, if_pos c_9])
    · refine lv_iconst (v := 1) hx hb dX3_borrow_17 (by decide) ?_
      refine lv_goto (tgt := 22) hx hb dX3_borrow_18 (by decide) ?_
      refine lv_istore (lv' := [(4, .int 1), (0, .ref (a 0)), (1, .int i1), (2, .int i2), (3, .int i3)]) hx hb dX3_borrow_22 hl (by decide) rfl (fun ls hl => ?_)
      refine lv_aload_n hx hb dX3_borrow_24 rfl (lv_at hl 1 rfl) ?_
      refine lv_iload_n hx hb dX3_borrow_25 rfl (lv_at hl 2 rfl) ?_
      refine z_E (va_runS (As := [.int i1]) (rest := [.ref (a 0)]) ⟨hx, hb, hml, hown, hts⟩ (zc_X3_isMember l D cA i1) (va_cwS 1 hts gX3_borrow_X3_isMember rfl rfl rfl zy_X3_isMember.2 ⟨Nat.le_of_ble_eq_true rfl, Nat.le_of_ble_eq_true rfl⟩) (z_preS hK z_P0 (z_D0 (A := fun _ => True))) rfl rfl hl.1 rfl (lv_room (Nat.le_of_ble_eq_true rfl)) dX3_borrow_26 ⟨Nat.zero_le _, Nat.zero_le _⟩) rfl ?_
      refine lv_if_ne (tgt := 36) hx hb dX3_borrow_29 (by decide) (fun c_15 => ?_) (fun c_15 => ?_)
      · obtain ⟨m1, hm1, rfl⟩ : ∃ q9 : Nat, q9 < 6 ∧ i1 = nI q9 := zq_isMember c_15
        have hcl_m1 : (nI m1).toNatClampNeg = m1 := nI_clamp (by omega)
        refine lv_iload hx hb dX3_borrow_36 (lv_at hl 0 rfl) ?_
        refine lv_if_ne (tgt := 45) hx hb dX3_borrow_38 (by decide) (fun c_16 => ?_) (fun c_16 => ?_)
        · refine lv_iconst (v := 0) hx hb dX3_borrow_45 (by decide) ?_
          refine z_M (X := ([] : va_W)) (Z := ([] : va_W)) (va_runV (As := [.int 0]) (rest := []) ⟨hx, hb, hml, hown, hts⟩ (zc_X3_holds l D cA a M N h 0) (cwV 1 hts gX3_borrow_X3_holds rfl rfl rfl zy_X3_holds ⟨Nat.le_of_ble_eq_true rfl, Nat.le_of_ble_eq_true rfl⟩) (z_preV (ci := 3) hK hP hD rfl rfl) rfl rfl hl.1 rfl (lv_room (Nat.le_of_ble_eq_true rfl)) dX3_borrow_46 ⟨Nat.zero_le _, Nat.zero_le _⟩) hP hD hS moW_adr rfl (fun H locs hP9 hD9 hS9 => ?_)
          replace hP : va_P D vwCl (moW cA a ((f_X3_holds M 0).2) N h) H := hP9
          replace hD : va_D _ (moW cA a ((f_X3_holds M 0).2) N h) := hD9
          replace hS := hS9
          clear hP9 hD9 hS9
          obtain ⟨M_17, eM_17⟩ : ∃ z9 : BK, z9 = (f_X3_holds M 0).2 := ⟨_, rfl⟩
          rw [← eM_17] at hP hD
          refine z_top (y := 1) (by simp only [f_X3_holds]; rfl) ?_
          refine lv_if_ne (tgt := 54) hx hb dX3_borrow_49 (by decide) (fun c_18 => ?_) (fun c_18 => ?_)
          · refine lv_aload_n hx hb dX3_borrow_54 rfl (lv_at hl 1 rfl) ?_
            refine z_M (X := ([] : va_W)) (Z := ([] : va_W)) (va_runV (As := []) (rest := []) ⟨hx, hb, hml, hown, hts⟩ (zc_X3_save l D cA a M_17 N h (by exact (show (N 0) ≤ 6 by omega))) (cwV 0 hts gX3_borrow_X3_save rfl rfl rfl zy_X3_save ⟨Nat.le_of_ble_eq_true rfl, Nat.le_of_ble_eq_true rfl⟩) (z_preV (ci := 3) hK hP hD rfl rfl) rfl rfl hl.1 rfl (lv_room (Nat.le_of_ble_eq_true rfl)) dX3_borrow_55 ⟨Nat.zero_le _, Nat.zero_le _⟩) hP hD hS moW_adr rfl (fun H locs hP9 hD9 hS9 => ?_)
            replace hP : va_P D vwCl (moW cA a ((f_X3_save M_17 N).1) ((f_X3_save M_17 N).2) h) H := hP9
            replace hD : va_D _ (moW cA a ((f_X3_save M_17 N).1) ((f_X3_save M_17 N).2) h) := hD9
            replace hS := hS9
            clear hP9 hD9 hS9
            obtain ⟨M_19, eM_19⟩ : ∃ z9 : BK, z9 = (f_X3_save M_17 N).1 := ⟨_, rfl⟩
            rw [← eM_19] at hP hD
            obtain ⟨N_20, eN_20⟩ : ∃ z9 : Nat → Nat, z9 = (f_X3_save M_17 N).2 := ⟨_, rfl⟩
            rw [← eN_20] at hP hD
            have hlN_20 : N_20 1 = (N 1) ∧ N_20 2 = (N 2) ∧ N_20 0 ≤ 6 := by rw [eN_20]; exact (zn_X3_save M_17 N (by first | assumption | omega))
            refine lv_aload_n hx hb dX3_borrow_58 rfl (lv_at hl 1 rfl) ?_
            refine lv_iload_n hx hb dX3_borrow_59 rfl (lv_at hl 2 rfl) ?_
            refine lv_iload_n hx hb dX3_borrow_60 rfl (lv_at hl 3 rfl) ?_
            refine lv_iload_n hx hb dX3_borrow_61 rfl (lv_at hl 4 rfl) ?_
            refine z_M (X := ([] : va_W)) (Z := ([] : va_W)) (va_runV (As := [.int (nI m1), .int i2, .int i3]) (rest := []) ⟨hx, hb, hml, hown, hts⟩ (zc_X3_lends l D cA a M_19 N_20 h m1 i2 i3 (by omega) (by exact zq_in1 c_8)) (cwV 3 hts gX3_borrow_X3_lends rfl rfl rfl zy_X3_lends ⟨Nat.le_of_ble_eq_true rfl, Nat.le_of_ble_eq_true rfl⟩) (z_preV (ci := 3) hK hP hD rfl rfl) rfl rfl hl.1 rfl (lv_room (Nat.le_of_ble_eq_true rfl)) dX3_borrow_62 ⟨Nat.zero_le _, Nat.zero_le _⟩) hP hD hS moW_adr rfl (fun H locs hP9 hD9 hS9 => ?_)
            replace hP : va_P D vwCl (moW cA a ((f_X3_lends M_19 m1 i2 i3).2) N_20 h) H := hP9
            replace hD : va_D _ (moW cA a ((f_X3_lends M_19 m1 i2 i3).2) N_20 h) := hD9
            replace hS := hS9
            clear hP9 hD9 hS9
            obtain ⟨M_21, eM_21⟩ : ∃ z9 : BK, z9 = (f_X3_lends M_19 m1 i2 i3).2 := ⟨_, rfl⟩
            rw [← eM_21] at hP hD
            exact z_iretM (w1 := moW cA a M_21 N_20 h) hx hb hr hlocks dX3_borrow_65 hP hS (by subst eM_21 eN_20 eM_19 eM_17; simp only [f_X3_borrow, if_neg c_1, if_neg c_8, if_neg c_15, hcl_m1]) (by subst eM_21 eN_20 eM_19 eM_17; simp only [f_X3_borrow, if_neg c_1, if_neg c_8, if_neg c_15, hcl_m1])
          · exact absurd c_18 (by decide)
        · exact absurd c_16 (by decide)
      · refine lv_iconst (v := 1) hx hb dX3_borrow_32 (by decide) ?_
        refine lv_goto (tgt := 46) hx hb dX3_borrow_33 (by decide) ?_
        refine z_M (X := ([] : va_W)) (Z := ([] : va_W)) (va_runV (As := [.int 1]) (rest := []) ⟨hx, hb, hml, hown, hts⟩ (zc_X3_holds l D cA a M N h 1) (cwV 1 hts gX3_borrow_X3_holds rfl rfl rfl zy_X3_holds ⟨Nat.le_of_ble_eq_true rfl, Nat.le_of_ble_eq_true rfl⟩) (z_preV (ci := 3) hK hP hD rfl rfl) rfl rfl hl.1 rfl (lv_room (Nat.le_of_ble_eq_true rfl)) dX3_borrow_46 ⟨Nat.zero_le _, Nat.zero_le _⟩) hP hD hS moW_adr rfl (fun H locs hP9 hD9 hS9 => ?_)
        replace hP : va_P D vwCl (moW cA a ((f_X3_holds M 1).2) N h) H := hP9
        replace hD : va_D _ (moW cA a ((f_X3_holds M 1).2) N h) := hD9
        replace hS := hS9
        clear hP9 hD9 hS9
        obtain ⟨M_22, eM_22⟩ : ∃ z9 : BK, z9 = (f_X3_holds M 1).2 := ⟨_, rfl⟩
        rw [← eM_22] at hP hD
        refine z_top (y := 0) (by simp only [f_X3_holds]; rfl) ?_
        refine lv_if_ne (tgt := 54) hx hb dX3_borrow_49 (by decide) (fun c_23 => ?_) (fun c_23 => ?_)
        · exact absurd c_23 (by decide)
        · refine lv_iconst (v := 0) hx hb dX3_borrow_52 (by decide) ?_
          exact z_iretM (w1 := moW cA a M_22 N h) hx hb hr hlocks dX3_borrow_53 hP hS (by subst eM_22; simp only [f_X3_borrow, if_neg c_1, if_neg c_8, if_pos c_15]) (by subst eM_22; simp only [f_X3_borrow, if_neg c_1, if_neg c_8, if_pos c_15])

theorem zy_X3_week : yX3_week.cls = RX3 ∧ yX3_week.cls ≠ "java/lang/invoke/MethodHandle" ∧ yX3_week.cls ≠ "java/lang/invoke/VarHandle" ∧ (parseMethodDescriptor yX3_week.desc).map (fun d => d.parameters.length) = some 0 := by decide +kernel
def f_X3_week (M : BK) (N : Nat → Nat) : Int32 × BK × (Nat → Nat) :=
  if (M 0 4) = 9999 then
    let M_7 : BK := (f_X3_holds M 1).2
    (0, M_7, N)
  else
    let M_2 : BK := (f_X3_holds M 0).2
    let M_4 : BK := (f_X3_save M_2 N).1
    let N_5 : Nat → Nat := (f_X3_save M_2 N).2
    let M_6 : BK := (f_X3_endsWeek M_4).2
    ((f_X3_endsWeek M_4).1, M_6, N_5)

set_option maxHeartbeats 4000000 in
set_option maxRecDepth 100000 in
theorem zc_X3_week (l : Launch) (D : va_G) (cA : Nat → ClassId) (a : Nat → Nat) (M : BK) (N : Nat → Nat) (h : Int64) (hsv : N 0 ≤ 6) : Met l yX3_week wsX3_week (zrm 5 111) (zPc D cA [.ref (a 0)] (moW cA a M N h)) (zM D (moW cA a M N h) (moW cA a ((f_X3_week M N).2.1) ((f_X3_week M N).2.2) h) (some (.int ((f_X3_week M N).1)))) 0 0 (zfr (moW cA a M N h)) := by
  refine Met.ofW (cc := cX3_week) (maxL := 1) (ret := (some .int)) (by decide) rfl ?_
  intro p e s m args below meth c s₁ Bd hml hv
  obtain ⟨rfl, hP, hK, hD0⟩ := hv
  have hx := Bd.exec
  have hb := Bd.bytes
  have hr := Bd.returns
  have hts := atoms_spec (ws := wsX3_week) Bd.pre
  have hown : s.vm.findClass RX3 = some m.cls := findClass_of_methodNamed Bd.named
  have hlocks := Bd.notSynchronized
  have hD := z_Dfr hD0
  have hS : va_S (zfr (moW cA a M N h)) s.heap s.heap [] := va_S.rf
  have hi3 : ∀ w ∈ wsX30, w ∈ wsX3_week := fun w h => List.mem_cons_of_mem _ (List.mem_append_right _ h)
  have hl := lv_entry ([.ref (a 0)]) (n := 1) (Nat.le_of_ble_eq_true rfl)
  rw [lg_entry_eq]
  generalize (lg_sl ([.ref (a 0)]) ++ List.replicate (1 - (lg_sl ([.ref (a 0)])).length) Slot.unset).toArray = ls at hl ⊢
  have hl : lv_has ls 1 [(0, .ref (a 0))] := hl
  refine lv_aload_n hx hb dX3_week_0 rfl (lv_at hl 0 rfl) ?_
  refine lv_aload_n hx hb dX3_week_1 rfl (lv_at hl 0 rfl) ?_
  refine va_get (D := D) (ci := 3) (v := .ref (a 1)) (C := RX3) (T := TX3) (N := 14) hx hb hts hi3 hown hK hP 0 rfl rfl 1 (by decide) (hts (.fieldLink RX3 7 "PledgedLoansModel" "s" "[I") (List.mem_of_getElem? (i := 1) rfl)) (fun _ h9 => h9) rfl dX3_week_2 ?_
  refine lv_iconst (v := 4) hx hb dX3_week_5 (by decide) ?_
  refine z_iald (j := 4) hx hb hK hP 1 0 rfl rfl dX3_week_6 (by omega) (by decide) ?_
  refine lv_sipush (v := 9999) hx hb dX3_week_7 (by decide) ?_
  refine lv_icmp_ne (tgt := 17) hx hb dX3_week_10 (by decide) (fun c_1 => ?_) (fun c_1 => ?_)
  · refine lv_iconst (v := 0) hx hb dX3_week_17 (by decide) ?_
    refine z_M (X := ([] : va_W)) (Z := ([] : va_W)) (va_runV (As := [.int 0]) (rest := []) ⟨hx, hb, hml, hown, hts⟩ (zc_X3_holds l D cA a M N h 0) (cwV 1 hts gX3_week_X3_holds rfl rfl rfl zy_X3_holds ⟨Nat.le_of_ble_eq_true rfl, Nat.le_of_ble_eq_true rfl⟩) (z_preV (ci := 3) hK hP hD rfl rfl) rfl rfl hl.1 rfl (lv_room (Nat.le_of_ble_eq_true rfl)) dX3_week_18 ⟨Nat.zero_le _, Nat.zero_le _⟩) hP hD hS moW_adr rfl (fun H locs hP9 hD9 hS9 => ?_)
    replace hP : va_P D vwCl (moW cA a ((f_X3_holds M 0).2) N h) H := hP9
    replace hD : va_D _ (moW cA a ((f_X3_holds M 0).2) N h) := hD9
    replace hS := hS9
    clear hP9 hD9 hS9
    obtain ⟨M_2, eM_2⟩ : ∃ z9 : BK, z9 = (f_X3_holds M 0).2 := ⟨_, rfl⟩
    rw [← eM_2] at hP hD
    refine z_top (y := 1) (by simp only [f_X3_holds]; rfl) ?_
    refine lv_if_ne (tgt := 26) hx hb dX3_week_21 (by decide) (fun c_3 => ?_) (fun c_3 => ?_)
    · refine lv_aload_n hx hb dX3_week_26 rfl (lv_at hl 0 rfl) ?_
      refine z_M (X := ([] : va_W)) (Z := ([] : va_W)) (va_runV (As := []) (rest := []) ⟨hx, hb, hml, hown, hts⟩ (zc_X3_save l D cA a M_2 N h (by exact (show (N 0) ≤ 6 by omega))) (cwV 0 hts gX3_week_X3_save rfl rfl rfl zy_X3_save ⟨Nat.le_of_ble_eq_true rfl, Nat.le_of_ble_eq_true rfl⟩) (z_preV (ci := 3) hK hP hD rfl rfl) rfl rfl hl.1 rfl (lv_room (Nat.le_of_ble_eq_true rfl)) dX3_week_27 ⟨Nat.zero_le _, Nat.zero_le _⟩) hP hD hS moW_adr rfl (fun H locs hP9 hD9 hS9 => ?_)
      replace hP : va_P D vwCl (moW cA a ((f_X3_save M_2 N).1) ((f_X3_save M_2 N).2) h) H := hP9
      replace hD : va_D _ (moW cA a ((f_X3_save M_2 N).1) ((f_X3_save M_2 N).2) h) := hD9
      replace hS := hS9
      clear hP9 hD9 hS9
      obtain ⟨M_4, eM_4⟩ : ∃ z9 : BK, z9 = (f_X3_save M_2 N).1 := ⟨_, rfl⟩
      rw [← eM_4] at hP hD
      obtain ⟨N_5, eN_5⟩ : ∃ z9 : Nat → Nat, z9 = (f_X3_save M_2 N).2 := ⟨_, rfl⟩
      rw [← eN_5] at hP hD
      have hlN_5 : N_5 1 = (N 1) ∧ N_5 2 = (N 2) ∧ N_5 0 ≤ 6 := by rw [eN_5]; exact (zn_X3_save M_2 N (by first | assumption | omega))
      refine lv_aload_n hx hb dX3_week_30 rfl (lv_at hl 0 rfl) ?_
      refine z_M (X := ([] : va_W)) (Z := ([] : va_W)) (va_runV (As := []) (rest := []) ⟨hx, hb, hml, hown, hts⟩ (zc_X3_endsWeek l D cA a M_4 N_5 h) (cwV 0 hts gX3_week_X3_endsWeek rfl rfl rfl zy_X3_endsWeek ⟨Nat.le_of_ble_eq_true rfl, Nat.le_of_ble_eq_true rfl⟩) (z_preV (ci := 3) hK hP hD rfl rfl) rfl rfl hl.1 rfl (lv_room (Nat.le_of_ble_eq_true rfl)) dX3_week_31 ⟨Nat.zero_le _, Nat.zero_le _⟩) hP hD hS moW_adr rfl (fun H locs hP9 hD9 hS9 => ?_)
      replace hP : va_P D vwCl (moW cA a ((f_X3_endsWeek M_4).2) N_5 h) H := hP9
      replace hD : va_D _ (moW cA a ((f_X3_endsWeek M_4).2) N_5 h) := hD9
      replace hS := hS9
      clear hP9 hD9 hS9
      obtain ⟨M_6, eM_6⟩ : ∃ z9 : BK, z9 = (f_X3_endsWeek M_4).2 := ⟨_, rfl⟩
      rw [← eM_6] at hP hD
      exact z_iretM (w1 := moW cA a M_6 N_5 h) hx hb hr hlocks dX3_week_34 hP hS (by subst eM_6 eN_5 eM_4 eM_2; simp only [f_X3_week, if_neg c_1]) (by subst eM_6 eN_5 eM_4 eM_2; simp only [f_X3_week, if_neg c_1])
    · exact absurd c_3 (by decide)
  · refine lv_iconst (v := 1) hx hb dX3_week_13 (by decide) ?_
    refine lv_goto (tgt := 18) hx hb dX3_week_14 (by decide) ?_
    refine z_M (X := ([] : va_W)) (Z := ([] : va_W)) (va_runV (As := [.int 1]) (rest := []) ⟨hx, hb, hml, hown, hts⟩ (zc_X3_holds l D cA a M N h 1) (cwV 1 hts gX3_week_X3_holds rfl rfl rfl zy_X3_holds ⟨Nat.le_of_ble_eq_true rfl, Nat.le_of_ble_eq_true rfl⟩) (z_preV (ci := 3) hK hP hD rfl rfl) rfl rfl hl.1 rfl (lv_room (Nat.le_of_ble_eq_true rfl)) dX3_week_18 ⟨Nat.zero_le _, Nat.zero_le _⟩) hP hD hS moW_adr rfl (fun H locs hP9 hD9 hS9 => ?_)
    replace hP : va_P D vwCl (moW cA a ((f_X3_holds M 1).2) N h) H := hP9
    replace hD : va_D _ (moW cA a ((f_X3_holds M 1).2) N h) := hD9
    replace hS := hS9
    clear hP9 hD9 hS9
    obtain ⟨M_7, eM_7⟩ : ∃ z9 : BK, z9 = (f_X3_holds M 1).2 := ⟨_, rfl⟩
    rw [← eM_7] at hP hD
    refine z_top (y := 0) (by simp only [f_X3_holds]; rfl) ?_
    refine lv_if_ne (tgt := 26) hx hb dX3_week_21 (by decide) (fun c_8 => ?_) (fun c_8 => ?_)
    · exact absurd c_8 (by decide)
    · refine lv_iconst (v := 0) hx hb dX3_week_24 (by decide) ?_
      exact z_iretM (w1 := moW cA a M_7 N h) hx hb hr hlocks dX3_week_25 hP hS (by subst eM_7; simp only [f_X3_week, if_pos c_1]) (by subst eM_7; simp only [f_X3_week, if_pos c_1])

theorem zy_X3_pass : yX3_pass.cls = RX3 ∧ yX3_pass.cls ≠ "java/lang/invoke/MethodHandle" ∧ yX3_pass.cls ≠ "java/lang/invoke/VarHandle" ∧ (parseMethodDescriptor yX3_pass.desc).map (fun d => d.parameters.length) = some 1 := by decide +kernel
def f_X3_pass_22 (M : BK) (N : Nat → Nat) (dd : Int32) (i0 : Int32) : Nat → Int32
  | 0 => i0
  | n + 1 =>
    let y0_22 : Int32 := f_X3_pass_22 M N dd i0 n
    if y0_22 = 0 then
      if (((f_X3_of M n 1).toInt64) + (((f_X3_of M n 0).toInt64) * ((dd).toInt64))) ≤ (100000000) then
        0
      else
        1
    else
      1
def f_X3_pass_107 (M : BK) (N : Nat → Nat) (dd : Int32) (N_10 : Nat → Nat) (i0 : BK) : Nat → BK
  | 0 => i0
  | n + 1 =>
    let y0_107 : BK := f_X3_pass_107 M N dd N_10 i0 n
    let M_12 : BK := f_X3_adds y0_107 n 1 ((f_X3_of y0_107 n 0) * dd)
    M_12
def f_X3_pass (M : BK) (N : Nat → Nat) (dd : Int32) : Int32 × BK × (Nat → Nat) :=
  if ((M 0 5) + dd) ≤ 9999 then
    let y0_22 : Int32 := f_X3_pass_22 M N dd 0 6
    if (f_X3_in dd 1 99) = 0 then
      let M_15 : BK := (f_X3_holds M 1).2
      (0, M_15, N)
    else
      if y0_22 = 0 then
        let M_7 : BK := (f_X3_holds M 0).2
        let M_9 : BK := (f_X3_save M_7 N).1
        let N_10 : Nat → Nat := (f_X3_save M_7 N).2
        let y0_107 : BK := f_X3_pass_107 M N dd N_10 M_9 6
        ((uB y0_107 0 5 ((y0_107 0 5) + dd)) 0 5, uB y0_107 0 5 ((y0_107 0 5) + dd), N_10)
      else
        let M_13 : BK := (f_X3_holds M 2).2
        (0, M_13, N)
  else
    let y0_22 : Int32 := f_X3_pass_22 M N dd 1 6
    if (f_X3_in dd 1 99) = 0 then
      let M_25 : BK := (f_X3_holds M 1).2
      (0, M_25, N)
    else
      if y0_22 = 0 then
        let M_19 : BK := (f_X3_holds M 0).2
        let M_21 : BK := (f_X3_save M_19 N).1
        let N_22 : Nat → Nat := (f_X3_save M_19 N).2
        let y0_107 : BK := f_X3_pass_107 M N dd N_22 M_21 6
        ((uB y0_107 0 5 ((y0_107 0 5) + dd)) 0 5, uB y0_107 0 5 ((y0_107 0 5) + dd), N_22)
      else
        let M_23 : BK := (f_X3_holds M 2).2
        (0, M_23, N)

set_option maxHeartbeats 4000000 in
set_option maxRecDepth 100000 in
theorem zc_X3_pass (l : Launch) (D : va_G) (cA : Nat → ClassId) (a : Nat → Nat) (M : BK) (N : Nat → Nat) (h : Int64) (dd : Int32) (hsv : N 0 ≤ 6) : Met l yX3_pass wsX3_pass (zrm 2 44) (zPc D cA [.ref (a 0), .int dd] (moW cA a M N h)) (zM D (moW cA a M N h) (moW cA a ((f_X3_pass M N dd).2.1) ((f_X3_pass M N dd).2.2) h) (some (.int ((f_X3_pass M N dd).1)))) 0 0 (zfr (moW cA a M N h)) := by
  refine Met.ofW (cc := cX3_pass) (maxL := 4) (ret := (some .int)) (by decide) rfl ?_
  intro p e s m args below meth c s₁ Bd hml hv
  obtain ⟨rfl, hP, hK, hD0⟩ := hv
  have hx := Bd.exec
  have hb := Bd.bytes
  have hr := Bd.returns
  have hts := atoms_spec (ws := wsX3_pass) Bd.pre
  have hown : s.vm.findClass RX3 = some m.cls := findClass_of_methodNamed Bd.named
  have hlocks := Bd.notSynchronized
  have hD := z_Dfr hD0
  have hS : va_S (zfr (moW cA a M N h)) s.heap s.heap [] := va_S.rf
  have hi3 : ∀ w ∈ wsX30, w ∈ wsX3_pass := fun w h => List.mem_cons_of_mem _ (List.mem_append_right _ h)
  have hl := lv_entry ([.ref (a 0), .int dd]) (n := 4) (Nat.le_of_ble_eq_true rfl)
  rw [lg_entry_eq]
  generalize (lg_sl ([.ref (a 0), .int dd]) ++ List.replicate (4 - (lg_sl ([.ref (a 0), .int dd])).length) Slot.unset).toArray = ls at hl ⊢
  have hl : lv_has ls 4 [(0, .ref (a 0)), (1, .int dd)] := hl
  refine lv_aload_n hx hb dX3_pass_0 rfl (lv_at hl 0 rfl) ?_
  refine va_get (D := D) (ci := 3) (v := .ref (a 1)) (C := RX3) (T := TX3) (N := 14) hx hb hts hi3 hown hK hP 0 rfl rfl 1 (by decide) (hts (.fieldLink RX3 7 "PledgedLoansModel" "s" "[I") (List.mem_of_getElem? (i := 1) rfl)) (fun _ h9 => h9) rfl dX3_pass_1 ?_
  refine lv_iconst (v := 5) hx hb dX3_pass_4 (by decide) ?_
  refine z_iald (j := 5) hx hb hK hP 1 0 rfl rfl dX3_pass_5 (by omega) (by decide) ?_
  refine lv_iload_n hx hb dX3_pass_6 rfl (lv_at hl 1 rfl) ?_
  refine lv_iadd hx hb dX3_pass_7 ?_
  refine lv_sipush (v := 9999) hx hb dX3_pass_8 (by decide) ?_
  refine lv_icmp_le (tgt := 18) hx hb dX3_pass_11 (by decide) (fun c_1 => ?_) (fun c_1 => ?_)
  · refine lv_iconst (v := 0) hx hb dX3_pass_18 (by decide) ?_
    refine lv_istore_n (lv' := [(2, .int 0), (0, .ref (a 0)), (1, .int dd)]) hx hb dX3_pass_19 rfl hl (by decide) rfl (fun ls hl => ?_)
    refine lv_iconst (v := 0) hx hb dX3_pass_20 (by decide) ?_
    refine lv_istore_n (lv' := [(3, .int 0), (2, .int 0), (0, .ref (a 0)), (1, .int dd)]) hx hb dX3_pass_21 rfl hl (by decide) rfl (fun ls hl => ?_)
    have loop_22 : ∀ (kk : Nat) (n : Nat) (y0_22 : Int32), n ≤ 6 → 6 - n < kk → y0_22 = f_X3_pass_22 M N dd 0 n → ∀ (H : Heap) (locs : List Loc), va_P D vwCl (moW cA a M N h) H → va_D (zfr (moW cA a M N h)) (moW cA a M N h) → va_S (zfr (moW cA a M N h)) s.heap H locs → ∀ (ls : Array Slot), lv_has ls 4 [(0, .ref (a 0)), (1, .int dd), (2, .int y0_22), (3, .int (nI n))] → W p l e (headSpec wsX3_pass (zrm 2 44)).room s m ([.ref (a 0), .int dd] : List Value).toArray below meth c H locs 0 0 (MQ below (zM D (moW cA a M N h) (moW cA a ((f_X3_pass M N dd).2.1) ((f_X3_pass M N dd).2.2) h) (some (.int ((f_X3_pass M N dd).1)))) ([.ref (a 0), .int dd] : List Value).toArray s 0 0 (zfr (moW cA a M N h))) (F0 m 22 ls []) := by
      intro kk
      induction kk with
      | zero => intro n y0_22 _ h9; exact absurd h9 (Nat.not_lt_zero _)
      | succ kk ih_22 =>
        intro n y0_22 hn_22 hm_22 q_y0_22 H locs hP hD hS ls hl
        refine lv_iload_n hx hb dX3_pass_22 rfl (lv_at hl 3 rfl) ?_
        refine lv_bipush (v := 6) hx hb dX3_pass_23 (by decide) ?_
        refine lv_icmp_ge (tgt := 69) hx hb dX3_pass_25 (by decide) (fun c_2 => ?_) (fun c_2 => ?_)
        · have c_2 : 6 ≤ n := (nI_leI (a := 6) (b := n) (by omega) (by omega)).mp c_2
          obtain rfl : n = 6 := by omega
          obtain ⟨z_22, hz_22⟩ : ∃ z9, z9 = f_X3_pass_22 M N dd 0 6 := ⟨_, rfl⟩
          rw [← hz_22] at q_y0_22
          refine lv_aload_n hx hb dX3_pass_69 rfl (lv_at hl 0 rfl) ?_
          refine lv_iload_n hx hb dX3_pass_70 rfl (lv_at hl 1 rfl) ?_
          refine lv_iconst (v := 1) hx hb dX3_pass_71 (by decide) ?_
          refine lv_bipush (v := 99) hx hb dX3_pass_72 (by decide) ?_
          refine z_E (va_runS (As := [.int dd, .int 1, .int 99]) (rest := [.ref (a 0)]) ⟨hx, hb, hml, hown, hts⟩ (zc_X3_in l D cA dd 1 99) (va_cwS 3 hts gX3_pass_X3_in rfl rfl rfl zy_X3_in.2 ⟨Nat.le_of_ble_eq_true rfl, Nat.le_of_ble_eq_true rfl⟩) (z_preS hK z_P0 (z_D0 (A := fun _ => True))) rfl rfl hl.1 rfl (lv_room (Nat.le_of_ble_eq_true rfl)) dX3_pass_74 ⟨Nat.zero_le _, Nat.zero_le _⟩) rfl ?_
          refine lv_if_ne (tgt := 84) hx hb dX3_pass_77 (by decide) (fun c_3 => ?_) (fun c_3 => ?_)
          · refine lv_iload_n hx hb dX3_pass_84 rfl (lv_at hl 2 rfl) ?_
            refine lv_if_eq (tgt := 92) hx hb dX3_pass_85 (by decide) (fun c_4 => ?_) (fun c_4 => ?_)
            · refine lv_iconst (v := 0) hx hb dX3_pass_92 (by decide) ?_
              refine z_M (X := ([] : va_W)) (Z := ([] : va_W)) (va_runV (As := [.int 0]) (rest := []) ⟨hx, hb, hml, hown, hts⟩ (zc_X3_holds l D cA a M N h 0) (cwV 1 hts gX3_pass_X3_holds rfl rfl rfl zy_X3_holds ⟨Nat.le_of_ble_eq_true rfl, Nat.le_of_ble_eq_true rfl⟩) (z_preV (ci := 3) hK hP hD rfl rfl) rfl rfl hl.1 rfl (lv_room (Nat.le_of_ble_eq_true rfl)) dX3_pass_93 ⟨Nat.zero_le _, Nat.zero_le _⟩) hP hD hS moW_adr rfl (fun H locs hP9 hD9 hS9 => ?_)
              replace hP : va_P D vwCl (moW cA a ((f_X3_holds M 0).2) N h) H := hP9
              replace hD : va_D _ (moW cA a ((f_X3_holds M 0).2) N h) := hD9
              replace hS := hS9
              clear hP9 hD9 hS9
              obtain ⟨M_5, eM_5⟩ : ∃ z9 : BK, z9 = (f_X3_holds M 0).2 := ⟨_, rfl⟩
              rw [← eM_5] at hP hD
              refine z_top (y := 1) (by simp only [f_X3_holds]; rfl) ?_
              refine lv_if_ne (tgt := 101) hx hb dX3_pass_96 (by decide) (fun c_6 => ?_) (fun c_6 => ?_)
              · refine lv_aload_n hx hb dX3_pass_101 rfl (lv_at hl 0 rfl) ?_
                refine z_M (X := ([] : va_W)) (Z := ([] : va_W)) (va_runV (As := []) (rest := []) ⟨hx, hb, hml, hown, hts⟩ (zc_X3_save l D cA a M_5 N h (by exact (show (N 0) ≤ 6 by omega))) (cwV 0 hts gX3_pass_X3_save rfl rfl rfl zy_X3_save ⟨Nat.le_of_ble_eq_true rfl, Nat.le_of_ble_eq_true rfl⟩) (z_preV (ci := 3) hK hP hD rfl rfl) rfl rfl hl.1 rfl (lv_room (Nat.le_of_ble_eq_true rfl)) dX3_pass_102 ⟨Nat.zero_le _, Nat.zero_le _⟩) hP hD hS moW_adr rfl (fun H locs hP9 hD9 hS9 => ?_)
                replace hP : va_P D vwCl (moW cA a ((f_X3_save M_5 N).1) ((f_X3_save M_5 N).2) h) H := hP9
                replace hD : va_D _ (moW cA a ((f_X3_save M_5 N).1) ((f_X3_save M_5 N).2) h) := hD9
                replace hS := hS9
                clear hP9 hD9 hS9
                obtain ⟨M_7, eM_7⟩ : ∃ z9 : BK, z9 = (f_X3_save M_5 N).1 := ⟨_, rfl⟩
                rw [← eM_7] at hP hD
                obtain ⟨N_8, eN_8⟩ : ∃ z9 : Nat → Nat, z9 = (f_X3_save M_5 N).2 := ⟨_, rfl⟩
                rw [← eN_8] at hP hD
                have hlN_8 : N_8 1 = (N 1) ∧ N_8 2 = (N 2) ∧ N_8 0 ≤ 6 := by rw [eN_8]; exact (zn_X3_save M_5 N (by first | assumption | omega))
                refine lv_iconst (v := 0) hx hb dX3_pass_105 (by decide) ?_
                refine lv_istore_n (lv' := [(3, .int 0), (0, .ref (a 0)), (1, .int dd), (2, .int y0_22)]) hx hb dX3_pass_106 rfl hl (by decide) rfl (fun ls hl => ?_)
                have loop_107 : ∀ (kk : Nat) (n : Nat) (y0_107 : BK), n ≤ 6 → 6 - n < kk → y0_107 = f_X3_pass_107 M N dd N_8 M_7 n → ∀ (H : Heap) (locs : List Loc), va_P D vwCl (moW cA a y0_107 N_8 h) H → va_D (zfr (moW cA a M N h)) (moW cA a y0_107 N_8 h) → va_S (zfr (moW cA a M N h)) s.heap H locs → ∀ (ls : Array Slot), lv_has ls 4 [(0, .ref (a 0)), (1, .int dd), (3, .int (nI n))] → W p l e (headSpec wsX3_pass (zrm 2 44)).room s m ([.ref (a 0), .int dd] : List Value).toArray below meth c H locs 0 0 (MQ below (zM D (moW cA a M N h) (moW cA a ((f_X3_pass M N dd).2.1) ((f_X3_pass M N dd).2.2) h) (some (.int ((f_X3_pass M N dd).1)))) ([.ref (a 0), .int dd] : List Value).toArray s 0 0 (zfr (moW cA a M N h))) (F0 m 107 ls []) := by
                  intro kk
                  induction kk with
                  | zero => intro n y0_107 _ h9; exact absurd h9 (Nat.not_lt_zero _)
                  | succ kk ih_107 =>
                    intro n y0_107 hn_107 hm_107 q_y0_107 H locs hP hD hS ls hl
                    refine lv_iload_n hx hb dX3_pass_107 rfl (lv_at hl 2 rfl) ?_
                    refine lv_bipush (v := 6) hx hb dX3_pass_108 (by decide) ?_
                    refine lv_icmp_ge (tgt := 133) hx hb dX3_pass_110 (by decide) (fun c_9 => ?_) (fun c_9 => ?_)
                    · have c_9 : 6 ≤ n := (nI_leI (a := 6) (b := n) (by omega) (by omega)).mp c_9
                      obtain rfl : n = 6 := by omega
                      obtain ⟨z_107, hz_107⟩ : ∃ z9, z9 = f_X3_pass_107 M N dd N_8 M_7 6 := ⟨_, rfl⟩
                      rw [← hz_107] at q_y0_107
                      refine lv_aload_n hx hb dX3_pass_133 rfl (lv_at hl 0 rfl) ?_
                      refine va_get (D := D) (ci := 3) (v := .ref (a 1)) (C := RX3) (T := TX3) (N := 14) hx hb hts hi3 hown hK hP 0 rfl rfl 1 (by decide) (hts (.fieldLink RX3 7 "PledgedLoansModel" "s" "[I") (List.mem_of_getElem? (i := 1) rfl)) (fun _ h9 => h9) rfl dX3_pass_134 ?_
                      refine lv_iconst (v := 5) hx hb dX3_pass_137 (by decide) ?_
                      refine lv_dup2_11 hx hb dX3_pass_138 rfl rfl ?_
                      refine z_iald (j := 5) hx hb hK hP 1 0 rfl rfl dX3_pass_139 (by omega) (by decide) ?_
                      refine lv_iload_n hx hb dX3_pass_140 rfl (lv_at hl 1 rfl) ?_
                      refine lv_iadd hx hb dX3_pass_141 ?_
                      refine z_iast (j := 5) hx hb hK hP hD hS 1 0 rfl rfl dX3_pass_142 (by omega) (by decide) (moW cA a (uB y0_107 0 5 ((y0_107 0 5) + dd)) N_8 h) rfl (fun H locs hP9 hD9 hS9 => ?_)
                      replace hP : va_P D vwCl (moW cA a (uB y0_107 0 5 ((y0_107 0 5) + dd)) N_8 h) H := hP9
                      replace hD : va_D _ (moW cA a (uB y0_107 0 5 ((y0_107 0 5) + dd)) N_8 h) := hD9
                      replace hS := hS9
                      clear hP9 hD9 hS9
                      refine lv_aload_n hx hb dX3_pass_143 rfl (lv_at hl 0 rfl) ?_
                      refine va_get (D := D) (ci := 3) (v := .ref (a 1)) (C := RX3) (T := TX3) (N := 14) hx hb hts hi3 hown hK hP 0 rfl rfl 1 (by decide) (hts (.fieldLink RX3 7 "PledgedLoansModel" "s" "[I") (List.mem_of_getElem? (i := 1) rfl)) (fun _ h9 => h9) rfl dX3_pass_144 ?_
                      refine lv_iconst (v := 5) hx hb dX3_pass_147 (by decide) ?_
                      refine z_iald (j := 5) hx hb hK hP 1 0 rfl rfl dX3_pass_148 (by omega) (by decide) ?_
                      exact z_iretM (w1 := moW cA a (uB y0_107 0 5 ((y0_107 0 5) + dd)) N_8 h) hx hb hr hlocks dX3_pass_149 hP hS (by subst q_y0_107 eN_8 eM_7 eM_5 q_y0_22; simp -proj only [f_X3_pass, if_pos c_1, if_neg c_3, if_pos c_4, ← hz_22, ← hz_107]; first | done | rfl) (by subst q_y0_107 eN_8 eM_7 eM_5 q_y0_22; simp -proj only [f_X3_pass, if_pos c_1, if_neg c_3, if_pos c_4, ← hz_22, ← hz_107]; first | done | rfl)
                    · have c_9 : ¬ 6 ≤ n := fun h9 => c_9 ((nI_leI (a := 6) (b := n) (by omega) (by omega)).mpr h9)
                      refine lv_aload_n hx hb dX3_pass_113 rfl (lv_at hl 0 rfl) ?_
                      refine lv_iload_n hx hb dX3_pass_114 rfl (lv_at hl 2 rfl) ?_
                      refine lv_iconst (v := 1) hx hb dX3_pass_115 (by decide) ?_
                      refine lv_aload_n hx hb dX3_pass_116 rfl (lv_at hl 0 rfl) ?_
                      refine lv_iload_n hx hb dX3_pass_117 rfl (lv_at hl 2 rfl) ?_
                      refine lv_iconst (v := 0) hx hb dX3_pass_118 (by decide) ?_
                      refine z_E (va_runV (As := [.int (nI n), .int 0]) (rest := [.int 1, .int (nI n), .ref (a 0)]) ⟨hx, hb, hml, hown, hts⟩ (zc_X3_of l D cA a y0_107 N_8 h n 0 (by omega) (by omega)) (cwV 2 hts gX3_pass_X3_of rfl rfl rfl zy_X3_of ⟨Nat.le_of_ble_eq_true rfl, Nat.le_of_ble_eq_true rfl⟩) (z_preV (ci := 3) hK hP hD rfl rfl) rfl rfl hl.1 rfl (lv_room (Nat.le_of_ble_eq_true rfl)) dX3_pass_119 ⟨Nat.zero_le _, Nat.zero_le _⟩) rfl ?_
                      refine lv_iload_n hx hb dX3_pass_122 rfl (lv_at hl 1 rfl) ?_
                      refine lv_imul hx hb dX3_pass_123 ?_
                      refine z_M (X := ([] : va_W)) (Z := ([] : va_W)) (va_runV (As := [.int (nI n), .int 1, .int ((f_X3_of y0_107 n 0) * dd)]) (rest := []) ⟨hx, hb, hml, hown, hts⟩ (zc_X3_adds l D cA a y0_107 N_8 h n 1 ((f_X3_of y0_107 n 0) * dd) (by omega) (by omega)) (cwV 3 hts gX3_pass_X3_adds rfl rfl rfl zy_X3_adds ⟨Nat.le_of_ble_eq_true rfl, Nat.le_of_ble_eq_true rfl⟩) (z_preV (ci := 3) hK hP hD rfl rfl) rfl rfl hl.1 rfl (lv_room (Nat.le_of_ble_eq_true rfl)) dX3_pass_124 ⟨Nat.zero_le _, Nat.zero_le _⟩) hP hD hS moW_adr rfl (fun H locs hP9 hD9 hS9 => ?_)
                      replace hP : va_P D vwCl (moW cA a (f_X3_adds y0_107 n 1 ((f_X3_of y0_107 n 0) * dd)) N_8 h) H := hP9
                      replace hD : va_D _ (moW cA a (f_X3_adds y0_107 n 1 ((f_X3_of y0_107 n 0) * dd)) N_8 h) := hD9
                      replace hS := hS9
                      clear hP9 hD9 hS9
                      obtain ⟨M_10, eM_10⟩ : ∃ z9 : BK, z9 = f_X3_adds y0_107 n 1 ((f_X3_of y0_107 n 0) * dd) := ⟨_, rfl⟩
                      rw [← eM_10] at hP hD
                      refine lv_iinc (v := nI (n + 1)) (lv' := [(3, .int (nI (n + 1))), (0, .ref (a 0)), (1, .int dd)]) hx hb dX3_pass_127 hl (k := 2) rfl (by rw [show (Int32.ofInt 1) = nI 1 from by decide]; exact nI_add n 1) (by decide) rfl (fun ls hl => ?_)
                      refine lv_goto (tgt := 107) hx hb dX3_pass_130 (by decide) ?_
                      exact ih_107 (n + 1) _ (by omega) (by omega) (by subst eM_10 q_y0_107 eN_8 eM_7 eM_5 q_y0_22; first | (simp -proj only [f_X3_pass_107, ← hz_22]; first | done | rfl; done) | rfl) _ _ hP hD hS ls (lv_sub hl [1, 2, 0] rfl)
                exact loop_107 _ 0 _ (by omega) (Nat.lt_succ_self _) rfl _ _ hP hD hS ls (lv_sub hl [1, 2, 0] rfl)
              · exact absurd c_6 (by decide)
            · refine lv_iconst (v := 2) hx hb dX3_pass_88 (by decide) ?_
              refine lv_goto (tgt := 93) hx hb dX3_pass_89 (by decide) ?_
              refine z_M (X := ([] : va_W)) (Z := ([] : va_W)) (va_runV (As := [.int 2]) (rest := []) ⟨hx, hb, hml, hown, hts⟩ (zc_X3_holds l D cA a M N h 2) (cwV 1 hts gX3_pass_X3_holds rfl rfl rfl zy_X3_holds ⟨Nat.le_of_ble_eq_true rfl, Nat.le_of_ble_eq_true rfl⟩) (z_preV (ci := 3) hK hP hD rfl rfl) rfl rfl hl.1 rfl (lv_room (Nat.le_of_ble_eq_true rfl)) dX3_pass_93 ⟨Nat.zero_le _, Nat.zero_le _⟩) hP hD hS moW_adr rfl (fun H locs hP9 hD9 hS9 => ?_)
              replace hP : va_P D vwCl (moW cA a ((f_X3_holds M 2).2) N h) H := hP9
              replace hD : va_D _ (moW cA a ((f_X3_holds M 2).2) N h) := hD9
              replace hS := hS9
              clear hP9 hD9 hS9
              obtain ⟨M_11, eM_11⟩ : ∃ z9 : BK, z9 = (f_X3_holds M 2).2 := ⟨_, rfl⟩
              rw [← eM_11] at hP hD
              refine z_top (y := 0) (by simp only [f_X3_holds]; rfl) ?_
              refine lv_if_ne (tgt := 101) hx hb dX3_pass_96 (by decide) (fun c_12 => ?_) (fun c_12 => ?_)
              · exact absurd c_12 (by decide)
              · refine lv_iconst (v := 0) hx hb dX3_pass_99 (by decide) ?_
                exact z_iretM (w1 := moW cA a M_11 N h) hx hb hr hlocks dX3_pass_100 hP hS (by subst eM_11 q_y0_22; simp -proj only [f_X3_pass, if_pos c_1, if_neg c_3, if_neg c_4, ← hz_22]; first | done | rfl) (by subst eM_11 q_y0_22; simp -proj only [f_X3_pass, if_pos c_1, if_neg c_3, if_neg c_4, ← hz_22]; first | done | rfl)
          · refine lv_iconst (v := 1) hx hb dX3_pass_80 (by decide) ?_
            refine lv_goto (tgt := 93) hx hb dX3_pass_81 (by decide) ?_
            refine z_M (X := ([] : va_W)) (Z := ([] : va_W)) (va_runV (As := [.int 1]) (rest := []) ⟨hx, hb, hml, hown, hts⟩ (zc_X3_holds l D cA a M N h 1) (cwV 1 hts gX3_pass_X3_holds rfl rfl rfl zy_X3_holds ⟨Nat.le_of_ble_eq_true rfl, Nat.le_of_ble_eq_true rfl⟩) (z_preV (ci := 3) hK hP hD rfl rfl) rfl rfl hl.1 rfl (lv_room (Nat.le_of_ble_eq_true rfl)) dX3_pass_93 ⟨Nat.zero_le _, Nat.zero_le _⟩) hP hD hS moW_adr rfl (fun H locs hP9 hD9 hS9 => ?_)
            replace hP : va_P D vwCl (moW cA a ((f_X3_holds M 1).2) N h) H := hP9
            replace hD : va_D _ (moW cA a ((f_X3_holds M 1).2) N h) := hD9
            replace hS := hS9
            clear hP9 hD9 hS9
            obtain ⟨M_13, eM_13⟩ : ∃ z9 : BK, z9 = (f_X3_holds M 1).2 := ⟨_, rfl⟩
            rw [← eM_13] at hP hD
            refine z_top (y := 0) (by simp only [f_X3_holds]; rfl) ?_
            refine lv_if_ne (tgt := 101) hx hb dX3_pass_96 (by decide) (fun c_14 => ?_) (fun c_14 => ?_)
            · exact absurd c_14 (by decide)
            · refine lv_iconst (v := 0) hx hb dX3_pass_99 (by decide) ?_
              exact z_iretM (w1 := moW cA a M_13 N h) hx hb hr hlocks dX3_pass_100 hP hS (by subst eM_13 q_y0_22; simp -proj only [f_X3_pass, if_pos c_1, if_pos c_3, ← hz_22]; first | done | rfl) (by subst eM_13 q_y0_22; simp -proj only [f_X3_pass, if_pos c_1, if_pos c_3, ← hz_22]; first | done | rfl)
        · have c_2 : ¬ 6 ≤ n := fun h9 => c_2 ((nI_leI (a := 6) (b := n) (by omega) (by omega)).mpr h9)
          refine lv_iload_n hx hb dX3_pass_28 rfl (lv_at hl 2 rfl) ?_
          refine lv_if_ne (tgt := 57) hx hb dX3_pass_29 (by decide) (fun c_15 => ?_) (fun c_15 => ?_)
          · refine lv_iconst (v := 1) hx hb dX3_pass_57 (by decide) ?_
            refine lv_goto (tgt := 62) hx hb dX3_pass_58 (by decide) ?_
            refine lv_istore_n (lv' := [(2, .int 1), (0, .ref (a 0)), (1, .int dd), (3, .int (nI n))]) hx hb dX3_pass_62 rfl hl (by decide) rfl (fun ls hl => ?_)
            refine lv_iinc (v := nI (n + 1)) (lv' := [(3, .int (nI (n + 1))), (2, .int 1), (0, .ref (a 0)), (1, .int dd)]) hx hb dX3_pass_63 hl (k := 3) rfl (by rw [show (Int32.ofInt 1) = nI 1 from by decide]; exact nI_add n 1) (by decide) rfl (fun ls hl => ?_)
            refine lv_goto (tgt := 22) hx hb dX3_pass_66 (by decide) ?_
            exact ih_22 (n + 1) _ (by omega) (by omega) (by subst q_y0_22; simp -proj only [f_X3_pass_22, if_neg c_15]; first | done | rfl) _ _ hP hD hS ls (lv_sub hl [2, 3, 1, 0] rfl)
          · refine lv_aload_n hx hb dX3_pass_32 rfl (lv_at hl 0 rfl) ?_
            refine lv_iload_n hx hb dX3_pass_33 rfl (lv_at hl 3 rfl) ?_
            refine lv_iconst (v := 1) hx hb dX3_pass_34 (by decide) ?_
            refine z_E (va_runV (As := [.int (nI n), .int 1]) (rest := []) ⟨hx, hb, hml, hown, hts⟩ (zc_X3_of l D cA a M N h n 1 (by omega) (by omega)) (cwV 2 hts gX3_pass_X3_of rfl rfl rfl zy_X3_of ⟨Nat.le_of_ble_eq_true rfl, Nat.le_of_ble_eq_true rfl⟩) (z_preV (ci := 3) hK hP hD rfl rfl) rfl rfl hl.1 rfl (lv_room (Nat.le_of_ble_eq_true rfl)) dX3_pass_35 ⟨Nat.zero_le _, Nat.zero_le _⟩) rfl ?_
            refine lv_i2l (v := (f_X3_of M n 1).toInt64) hx hb dX3_pass_38 rfl ?_
            refine lv_aload_n hx hb dX3_pass_39 rfl (lv_at hl 0 rfl) ?_
            refine lv_iload_n hx hb dX3_pass_40 rfl (lv_at hl 3 rfl) ?_
            refine lv_iconst (v := 0) hx hb dX3_pass_41 (by decide) ?_
            refine z_E (va_runV (As := [.int (nI n), .int 0]) (rest := [.long ((f_X3_of M n 1).toInt64)]) ⟨hx, hb, hml, hown, hts⟩ (zc_X3_of l D cA a M N h n 0 (by omega) (by omega)) (cwV 2 hts gX3_pass_X3_of rfl rfl rfl zy_X3_of ⟨Nat.le_of_ble_eq_true rfl, Nat.le_of_ble_eq_true rfl⟩) (z_preV (ci := 3) hK hP hD rfl rfl) rfl rfl hl.1 rfl (lv_room (Nat.le_of_ble_eq_true rfl)) dX3_pass_42 ⟨Nat.zero_le _, Nat.zero_le _⟩) rfl ?_
            refine lv_i2l (v := (f_X3_of M n 0).toInt64) hx hb dX3_pass_45 rfl ?_
            refine lv_iload_n hx hb dX3_pass_46 rfl (lv_at hl 1 rfl) ?_
            refine lv_i2l (v := (dd).toInt64) hx hb dX3_pass_47 rfl ?_
            refine lv_lmul hx hb dX3_pass_48 ?_
            refine lv_ladd hx hb dX3_pass_49 ?_
            refine lv_ldc2 hx hb hown (hts (.constantLong RX3 129 (100000000)) (List.mem_of_getElem? (i := 2) rfl)) dX3_pass_50 ?_
            refine W.lcmp hx hb dX3_pass_53 ?_
            refine lv_if_le (tgt := 61) hx hb dX3_pass_54 (by decide) (fun c_16 => ?_) (fun c_16 => ?_)
            · have c_16 : (((f_X3_of M n 1).toInt64) + (((f_X3_of M n 0).toInt64) * ((dd).toInt64))) ≤ (100000000) := (lg_cmp_le _ _).mp c_16
              refine lv_iconst (v := 0) hx hb dX3_pass_61 (by decide) ?_
              refine lv_istore_n (lv' := [(2, .int 0), (0, .ref (a 0)), (1, .int dd), (3, .int (nI n))]) hx hb dX3_pass_62 rfl hl (by decide) rfl (fun ls hl => ?_)
              refine lv_iinc (v := nI (n + 1)) (lv' := [(3, .int (nI (n + 1))), (2, .int 0), (0, .ref (a 0)), (1, .int dd)]) hx hb dX3_pass_63 hl (k := 3) rfl (by rw [show (Int32.ofInt 1) = nI 1 from by decide]; exact nI_add n 1) (by decide) rfl (fun ls hl => ?_)
              refine lv_goto (tgt := 22) hx hb dX3_pass_66 (by decide) ?_
              exact ih_22 (n + 1) _ (by omega) (by omega) (by subst q_y0_22; simp -proj only [f_X3_pass_22, if_pos c_15, if_pos c_16]; first | done | rfl) _ _ hP hD hS ls (lv_sub hl [2, 3, 1, 0] rfl)
            · have c_16 : ¬ (((f_X3_of M n 1).toInt64) + (((f_X3_of M n 0).toInt64) * ((dd).toInt64))) ≤ (100000000) := fun h9 => c_16 ((lg_cmp_le _ _).mpr h9)
              refine lv_iconst (v := 1) hx hb dX3_pass_57 (by decide) ?_
              refine lv_goto (tgt := 62) hx hb dX3_pass_58 (by decide) ?_
              refine lv_istore_n (lv' := [(2, .int 1), (0, .ref (a 0)), (1, .int dd), (3, .int (nI n))]) hx hb dX3_pass_62 rfl hl (by decide) rfl (fun ls hl => ?_)
              refine lv_iinc (v := nI (n + 1)) (lv' := [(3, .int (nI (n + 1))), (2, .int 1), (0, .ref (a 0)), (1, .int dd)]) hx hb dX3_pass_63 hl (k := 3) rfl (by rw [show (Int32.ofInt 1) = nI 1 from by decide]; exact nI_add n 1) (by decide) rfl (fun ls hl => ?_)
              refine lv_goto (tgt := 22) hx hb dX3_pass_66 (by decide) ?_
              exact ih_22 (n + 1) _ (by omega) (by omega) (by subst q_y0_22; simp -proj only [f_X3_pass_22, if_pos c_15, if_neg c_16]; first | done | rfl) _ _ hP hD hS ls (lv_sub hl [2, 3, 1, 0] rfl)
    exact loop_22 _ 0 _ (by omega) (Nat.lt_succ_self _) rfl _ _ hP hD hS ls (lv_sub hl [2, 3, 1, 0] rfl)
  · refine lv_iconst (v := 1) hx hb dX3_pass_14 (by decide) ?_
    refine lv_goto (tgt := 19) hx hb dX3_pass_15 (by decide) ?_
    refine lv_istore_n (lv' := [(2, .int 1), (0, .ref (a 0)), (1, .int dd)]) hx hb dX3_pass_19 rfl hl (by decide) rfl (fun ls hl => ?_)
    refine lv_iconst (v := 0) hx hb dX3_pass_20 (by decide) ?_
    refine lv_istore_n (lv' := [(3, .int 0), (2, .int 1), (0, .ref (a 0)), (1, .int dd)]) hx hb dX3_pass_21 rfl hl (by decide) rfl (fun ls hl => ?_)
    have loop_22 : ∀ (kk : Nat) (n : Nat) (y0_22 : Int32), n ≤ 6 → 6 - n < kk → y0_22 = f_X3_pass_22 M N dd 1 n → ∀ (H : Heap) (locs : List Loc), va_P D vwCl (moW cA a M N h) H → va_D (zfr (moW cA a M N h)) (moW cA a M N h) → va_S (zfr (moW cA a M N h)) s.heap H locs → ∀ (ls : Array Slot), lv_has ls 4 [(0, .ref (a 0)), (1, .int dd), (2, .int y0_22), (3, .int (nI n))] → W p l e (headSpec wsX3_pass (zrm 2 44)).room s m ([.ref (a 0), .int dd] : List Value).toArray below meth c H locs 0 0 (MQ below (zM D (moW cA a M N h) (moW cA a ((f_X3_pass M N dd).2.1) ((f_X3_pass M N dd).2.2) h) (some (.int ((f_X3_pass M N dd).1)))) ([.ref (a 0), .int dd] : List Value).toArray s 0 0 (zfr (moW cA a M N h))) (F0 m 22 ls []) := by
      intro kk
      induction kk with
      | zero => intro n y0_22 _ h9; exact absurd h9 (Nat.not_lt_zero _)
      | succ kk ih_22 =>
        intro n y0_22 hn_22 hm_22 q_y0_22 H locs hP hD hS ls hl
        refine lv_iload_n hx hb dX3_pass_22 rfl (lv_at hl 3 rfl) ?_
        refine lv_bipush (v := 6) hx hb dX3_pass_23 (by decide) ?_
        refine lv_icmp_ge (tgt := 69) hx hb dX3_pass_25 (by decide) (fun c_17 => ?_) (fun c_17 => ?_)
        · have c_17 : 6 ≤ n := (nI_leI (a := 6) (b := n) (by omega) (by omega)).mp c_17
          obtain rfl : n = 6 := by omega
          obtain ⟨z_22, hz_22⟩ : ∃ z9, z9 = f_X3_pass_22 M N dd 1 6 := ⟨_, rfl⟩
          rw [← hz_22] at q_y0_22
          refine lv_aload_n hx hb dX3_pass_69 rfl (lv_at hl 0 rfl) ?_
          refine lv_iload_n hx hb dX3_pass_70 rfl (lv_at hl 1 rfl) ?_
          refine lv_iconst (v := 1) hx hb dX3_pass_71 (by decide) ?_
          refine lv_bipush (v := 99) hx hb dX3_pass_72 (by decide) ?_
          refine z_E (va_runS (As := [.int dd, .int 1, .int 99]) (rest := [.ref (a 0)]) ⟨hx, hb, hml, hown, hts⟩ (zc_X3_in l D cA dd 1 99) (va_cwS 3 hts gX3_pass_X3_in rfl rfl rfl zy_X3_in.2 ⟨Nat.le_of_ble_eq_true rfl, Nat.le_of_ble_eq_true rfl⟩) (z_preS hK z_P0 (z_D0 (A := fun _ => True))) rfl rfl hl.1 rfl (lv_room (Nat.le_of_ble_eq_true rfl)) dX3_pass_74 ⟨Nat.zero_le _, Nat.zero_le _⟩) rfl ?_
          refine lv_if_ne (tgt := 84) hx hb dX3_pass_77 (by decide) (fun c_18 => ?_) (fun c_18 => ?_)
          · refine lv_iload_n hx hb dX3_pass_84 rfl (lv_at hl 2 rfl) ?_
            refine lv_if_eq (tgt := 92) hx hb dX3_pass_85 (by decide) (fun c_19 => ?_) (fun c_19 => ?_)
            · refine lv_iconst (v := 0) hx hb dX3_pass_92 (by decide) ?_
              refine z_M (X := ([] : va_W)) (Z := ([] : va_W)) (va_runV (As := [.int 0]) (rest := []) ⟨hx, hb, hml, hown, hts⟩ (zc_X3_holds l D cA a M N h 0) (cwV 1 hts gX3_pass_X3_holds rfl rfl rfl zy_X3_holds ⟨Nat.le_of_ble_eq_true rfl, Nat.le_of_ble_eq_true rfl⟩) (z_preV (ci := 3) hK hP hD rfl rfl) rfl rfl hl.1 rfl (lv_room (Nat.le_of_ble_eq_true rfl)) dX3_pass_93 ⟨Nat.zero_le _, Nat.zero_le _⟩) hP hD hS moW_adr rfl (fun H locs hP9 hD9 hS9 => ?_)
              replace hP : va_P D vwCl (moW cA a ((f_X3_holds M 0).2) N h) H := hP9
              replace hD : va_D _ (moW cA a ((f_X3_holds M 0).2) N h) := hD9
              replace hS := hS9
              clear hP9 hD9 hS9
              obtain ⟨M_20, eM_20⟩ : ∃ z9 : BK, z9 = (f_X3_holds M 0).2 := ⟨_, rfl⟩
              rw [← eM_20] at hP hD
              refine z_top (y := 1) (by simp only [f_X3_holds]; rfl) ?_
              refine lv_if_ne (tgt := 101) hx hb dX3_pass_96 (by decide) (fun c_21 => ?_) (fun c_21 => ?_)
              · refine lv_aload_n hx hb dX3_pass_101 rfl (lv_at hl 0 rfl) ?_
                refine z_M (X := ([] : va_W)) (Z := ([] : va_W)) (va_runV (As := []) (rest := []) ⟨hx, hb, hml, hown, hts⟩ (zc_X3_save l D cA a M_20 N h (by exact (show (N 0) ≤ 6 by omega))) (cwV 0 hts gX3_pass_X3_save rfl rfl rfl zy_X3_save ⟨Nat.le_of_ble_eq_true rfl, Nat.le_of_ble_eq_true rfl⟩) (z_preV (ci := 3) hK hP hD rfl rfl) rfl rfl hl.1 rfl (lv_room (Nat.le_of_ble_eq_true rfl)) dX3_pass_102 ⟨Nat.zero_le _, Nat.zero_le _⟩) hP hD hS moW_adr rfl (fun H locs hP9 hD9 hS9 => ?_)
                replace hP : va_P D vwCl (moW cA a ((f_X3_save M_20 N).1) ((f_X3_save M_20 N).2) h) H := hP9
                replace hD : va_D _ (moW cA a ((f_X3_save M_20 N).1) ((f_X3_save M_20 N).2) h) := hD9
                replace hS := hS9
                clear hP9 hD9 hS9
                obtain ⟨M_22, eM_22⟩ : ∃ z9 : BK, z9 = (f_X3_save M_20 N).1 := ⟨_, rfl⟩
                rw [← eM_22] at hP hD
                obtain ⟨N_23, eN_23⟩ : ∃ z9 : Nat → Nat, z9 = (f_X3_save M_20 N).2 := ⟨_, rfl⟩
                rw [← eN_23] at hP hD
                have hlN_23 : N_23 1 = (N 1) ∧ N_23 2 = (N 2) ∧ N_23 0 ≤ 6 := by rw [eN_23]; exact (zn_X3_save M_20 N (by first | assumption | omega))
                refine lv_iconst (v := 0) hx hb dX3_pass_105 (by decide) ?_
                refine lv_istore_n (lv' := [(3, .int 0), (0, .ref (a 0)), (1, .int dd), (2, .int y0_22)]) hx hb dX3_pass_106 rfl hl (by decide) rfl (fun ls hl => ?_)
                have loop_107 : ∀ (kk : Nat) (n : Nat) (y0_107 : BK), n ≤ 6 → 6 - n < kk → y0_107 = f_X3_pass_107 M N dd N_23 M_22 n → ∀ (H : Heap) (locs : List Loc), va_P D vwCl (moW cA a y0_107 N_23 h) H → va_D (zfr (moW cA a M N h)) (moW cA a y0_107 N_23 h) → va_S (zfr (moW cA a M N h)) s.heap H locs → ∀ (ls : Array Slot), lv_has ls 4 [(0, .ref (a 0)), (1, .int dd), (3, .int (nI n))] → W p l e (headSpec wsX3_pass (zrm 2 44)).room s m ([.ref (a 0), .int dd] : List Value).toArray below meth c H locs 0 0 (MQ below (zM D (moW cA a M N h) (moW cA a ((f_X3_pass M N dd).2.1) ((f_X3_pass M N dd).2.2) h) (some (.int ((f_X3_pass M N dd).1)))) ([.ref (a 0), .int dd] : List Value).toArray s 0 0 (zfr (moW cA a M N h))) (F0 m 107 ls []) := by
                  intro kk
                  induction kk with
                  | zero => intro n y0_107 _ h9; exact absurd h9 (Nat.not_lt_zero _)
                  | succ kk ih_107 =>
                    intro n y0_107 hn_107 hm_107 q_y0_107 H locs hP hD hS ls hl
                    refine lv_iload_n hx hb dX3_pass_107 rfl (lv_at hl 2 rfl) ?_
                    refine lv_bipush (v := 6) hx hb dX3_pass_108 (by decide) ?_
                    refine lv_icmp_ge (tgt := 133) hx hb dX3_pass_110 (by decide) (fun c_24 => ?_) (fun c_24 => ?_)
                    · have c_24 : 6 ≤ n := (nI_leI (a := 6) (b := n) (by omega) (by omega)).mp c_24
                      obtain rfl : n = 6 := by omega
                      obtain ⟨z_107, hz_107⟩ : ∃ z9, z9 = f_X3_pass_107 M N dd N_23 M_22 6 := ⟨_, rfl⟩
                      rw [← hz_107] at q_y0_107
                      refine lv_aload_n hx hb dX3_pass_133 rfl (lv_at hl 0 rfl) ?_
                      refine va_get (D := D) (ci := 3) (v := .ref (a 1)) (C := RX3) (T := TX3) (N := 14) hx hb hts hi3 hown hK hP 0 rfl rfl 1 (by decide) (hts (.fieldLink RX3 7 "PledgedLoansModel" "s" "[I") (List.mem_of_getElem? (i := 1) rfl)) (fun _ h9 => h9) rfl dX3_pass_134 ?_
                      refine lv_iconst (v := 5) hx hb dX3_pass_137 (by decide) ?_
                      refine lv_dup2_11 hx hb dX3_pass_138 rfl rfl ?_
                      refine z_iald (j := 5) hx hb hK hP 1 0 rfl rfl dX3_pass_139 (by omega) (by decide) ?_
                      refine lv_iload_n hx hb dX3_pass_140 rfl (lv_at hl 1 rfl) ?_
                      refine lv_iadd hx hb dX3_pass_141 ?_
                      refine z_iast (j := 5) hx hb hK hP hD hS 1 0 rfl rfl dX3_pass_142 (by omega) (by decide) (moW cA a (uB y0_107 0 5 ((y0_107 0 5) + dd)) N_23 h) rfl (fun H locs hP9 hD9 hS9 => ?_)
                      replace hP : va_P D vwCl (moW cA a (uB y0_107 0 5 ((y0_107 0 5) + dd)) N_23 h) H := hP9
                      replace hD : va_D _ (moW cA a (uB y0_107 0 5 ((y0_107 0 5) + dd)) N_23 h) := hD9
                      replace hS := hS9
                      clear hP9 hD9 hS9
                      refine lv_aload_n hx hb dX3_pass_143 rfl (lv_at hl 0 rfl) ?_
                      refine va_get (D := D) (ci := 3) (v := .ref (a 1)) (C := RX3) (T := TX3) (N := 14) hx hb hts hi3 hown hK hP 0 rfl rfl 1 (by decide) (hts (.fieldLink RX3 7 "PledgedLoansModel" "s" "[I") (List.mem_of_getElem? (i := 1) rfl)) (fun _ h9 => h9) rfl dX3_pass_144 ?_
                      refine lv_iconst (v := 5) hx hb dX3_pass_147 (by decide) ?_
                      refine z_iald (j := 5) hx hb hK hP 1 0 rfl rfl dX3_pass_148 (by omega) (by decide) ?_
                      exact z_iretM (w1 := moW cA a (uB y0_107 0 5 ((y0_107 0 5) + dd)) N_23 h) hx hb hr hlocks dX3_pass_149 hP hS (by subst q_y0_107 eN_23 eM_22 eM_20 q_y0_22; simp -proj only [f_X3_pass, if_neg c_1, if_neg c_18, if_pos c_19, ← hz_22, ← hz_107]; first | done | rfl) (by subst q_y0_107 eN_23 eM_22 eM_20 q_y0_22; simp -proj only [f_X3_pass, if_neg c_1, if_neg c_18, if_pos c_19, ← hz_22, ← hz_107]; first | done | rfl)
                    · have c_24 : ¬ 6 ≤ n := fun h9 => c_24 ((nI_leI (a := 6) (b := n) (by omega) (by omega)).mpr h9)
                      refine lv_aload_n hx hb dX3_pass_113 rfl (lv_at hl 0 rfl) ?_
                      refine lv_iload_n hx hb dX3_pass_114 rfl (lv_at hl 2 rfl) ?_
                      refine lv_iconst (v := 1) hx hb dX3_pass_115 (by decide) ?_
                      refine lv_aload_n hx hb dX3_pass_116 rfl (lv_at hl 0 rfl) ?_
                      refine lv_iload_n hx hb dX3_pass_117 rfl (lv_at hl 2 rfl) ?_
                      refine lv_iconst (v := 0) hx hb dX3_pass_118 (by decide) ?_
                      refine z_E (va_runV (As := [.int (nI n), .int 0]) (rest := [.int 1, .int (nI n), .ref (a 0)]) ⟨hx, hb, hml, hown, hts⟩ (zc_X3_of l D cA a y0_107 N_23 h n 0 (by omega) (by omega)) (cwV 2 hts gX3_pass_X3_of rfl rfl rfl zy_X3_of ⟨Nat.le_of_ble_eq_true rfl, Nat.le_of_ble_eq_true rfl⟩) (z_preV (ci := 3) hK hP hD rfl rfl) rfl rfl hl.1 rfl (lv_room (Nat.le_of_ble_eq_true rfl)) dX3_pass_119 ⟨Nat.zero_le _, Nat.zero_le _⟩) rfl ?_
                      refine lv_iload_n hx hb dX3_pass_122 rfl (lv_at hl 1 rfl) ?_
                      refine lv_imul hx hb dX3_pass_123 ?_
                      refine z_M (X := ([] : va_W)) (Z := ([] : va_W)) (va_runV (As := [.int (nI n), .int 1, .int ((f_X3_of y0_107 n 0) * dd)]) (rest := []) ⟨hx, hb, hml, hown, hts⟩ (zc_X3_adds l D cA a y0_107 N_23 h n 1 ((f_X3_of y0_107 n 0) * dd) (by omega) (by omega)) (cwV 3 hts gX3_pass_X3_adds rfl rfl rfl zy_X3_adds ⟨Nat.le_of_ble_eq_true rfl, Nat.le_of_ble_eq_true rfl⟩) (z_preV (ci := 3) hK hP hD rfl rfl) rfl rfl hl.1 rfl (lv_room (Nat.le_of_ble_eq_true rfl)) dX3_pass_124 ⟨Nat.zero_le _, Nat.zero_le _⟩) hP hD hS moW_adr rfl (fun H locs hP9 hD9 hS9 => ?_)
                      replace hP : va_P D vwCl (moW cA a (f_X3_adds y0_107 n 1 ((f_X3_of y0_107 n 0) * dd)) N_23 h) H := hP9
                      replace hD : va_D _ (moW cA a (f_X3_adds y0_107 n 1 ((f_X3_of y0_107 n 0) * dd)) N_23 h) := hD9
                      replace hS := hS9
                      clear hP9 hD9 hS9
                      obtain ⟨M_25, eM_25⟩ : ∃ z9 : BK, z9 = f_X3_adds y0_107 n 1 ((f_X3_of y0_107 n 0) * dd) := ⟨_, rfl⟩
                      rw [← eM_25] at hP hD
                      refine lv_iinc (v := nI (n + 1)) (lv' := [(3, .int (nI (n + 1))), (0, .ref (a 0)), (1, .int dd)]) hx hb dX3_pass_127 hl (k := 2) rfl (by rw [show (Int32.ofInt 1) = nI 1 from by decide]; exact nI_add n 1) (by decide) rfl (fun ls hl => ?_)
                      refine lv_goto (tgt := 107) hx hb dX3_pass_130 (by decide) ?_
                      exact ih_107 (n + 1) _ (by omega) (by omega) (by subst eM_25 q_y0_107 eN_23 eM_22 eM_20 q_y0_22; first | (simp -proj only [f_X3_pass_107, ← hz_22]; first | done | rfl; done) | rfl) _ _ hP hD hS ls (lv_sub hl [1, 2, 0] rfl)
                exact loop_107 _ 0 _ (by omega) (Nat.lt_succ_self _) rfl _ _ hP hD hS ls (lv_sub hl [1, 2, 0] rfl)
              · exact absurd c_21 (by decide)
            · refine lv_iconst (v := 2) hx hb dX3_pass_88 (by decide) ?_
              refine lv_goto (tgt := 93) hx hb dX3_pass_89 (by decide) ?_
              refine z_M (X := ([] : va_W)) (Z := ([] : va_W)) (va_runV (As := [.int 2]) (rest := []) ⟨hx, hb, hml, hown, hts⟩ (zc_X3_holds l D cA a M N h 2) (cwV 1 hts gX3_pass_X3_holds rfl rfl rfl zy_X3_holds ⟨Nat.le_of_ble_eq_true rfl, Nat.le_of_ble_eq_true rfl⟩) (z_preV (ci := 3) hK hP hD rfl rfl) rfl rfl hl.1 rfl (lv_room (Nat.le_of_ble_eq_true rfl)) dX3_pass_93 ⟨Nat.zero_le _, Nat.zero_le _⟩) hP hD hS moW_adr rfl (fun H locs hP9 hD9 hS9 => ?_)
              replace hP : va_P D vwCl (moW cA a ((f_X3_holds M 2).2) N h) H := hP9
              replace hD : va_D _ (moW cA a ((f_X3_holds M 2).2) N h) := hD9
              replace hS := hS9
              clear hP9 hD9 hS9
              obtain ⟨M_26, eM_26⟩ : ∃ z9 : BK, z9 = (f_X3_holds M 2).2 := ⟨_, rfl⟩
              rw [← eM_26] at hP hD
              refine z_top (y := 0) (by simp only [f_X3_holds]; rfl) ?_
              refine lv_if_ne (tgt := 101) hx hb dX3_pass_96 (by decide) (fun c_27 => ?_) (fun c_27 => ?_)
              · exact absurd c_27 (by decide)
              · refine lv_iconst (v := 0) hx hb dX3_pass_99 (by decide) ?_
                exact z_iretM (w1 := moW cA a M_26 N h) hx hb hr hlocks dX3_pass_100 hP hS (by subst eM_26 q_y0_22; simp -proj only [f_X3_pass, if_neg c_1, if_neg c_18, if_neg c_19, ← hz_22]; first | done | rfl) (by subst eM_26 q_y0_22; simp -proj only [f_X3_pass, if_neg c_1, if_neg c_18, if_neg c_19, ← hz_22]; first | done | rfl)
          · refine lv_iconst (v := 1) hx hb dX3_pass_80 (by decide) ?_
            refine lv_goto (tgt := 93) hx hb dX3_pass_81 (by decide) ?_
            refine z_M (X := ([] : va_W)) (Z := ([] : va_W)) (va_runV (As := [.int 1]) (rest := []) ⟨hx, hb, hml, hown, hts⟩ (zc_X3_holds l D cA a M N h 1) (cwV 1 hts gX3_pass_X3_holds rfl rfl rfl zy_X3_holds ⟨Nat.le_of_ble_eq_true rfl, Nat.le_of_ble_eq_true rfl⟩) (z_preV (ci := 3) hK hP hD rfl rfl) rfl rfl hl.1 rfl (lv_room (Nat.le_of_ble_eq_true rfl)) dX3_pass_93 ⟨Nat.zero_le _, Nat.zero_le _⟩) hP hD hS moW_adr rfl (fun H locs hP9 hD9 hS9 => ?_)
            replace hP : va_P D vwCl (moW cA a ((f_X3_holds M 1).2) N h) H := hP9
            replace hD : va_D _ (moW cA a ((f_X3_holds M 1).2) N h) := hD9
            replace hS := hS9
            clear hP9 hD9 hS9
            obtain ⟨M_28, eM_28⟩ : ∃ z9 : BK, z9 = (f_X3_holds M 1).2 := ⟨_, rfl⟩
            rw [← eM_28] at hP hD
            refine z_top (y := 0) (by simp only [f_X3_holds]; rfl) ?_
            refine lv_if_ne (tgt := 101) hx hb dX3_pass_96 (by decide) (fun c_29 => ?_) (fun c_29 => ?_)
            · exact absurd c_29 (by decide)
            · refine lv_iconst (v := 0) hx hb dX3_pass_99 (by decide) ?_
              exact z_iretM (w1 := moW cA a M_28 N h) hx hb hr hlocks dX3_pass_100 hP hS (by subst eM_28 q_y0_22; simp -proj only [f_X3_pass, if_neg c_1, if_pos c_18, ← hz_22]; first | done | rfl) (by subst eM_28 q_y0_22; simp -proj only [f_X3_pass, if_neg c_1, if_pos c_18, ← hz_22]; first | done | rfl)
        · have c_17 : ¬ 6 ≤ n := fun h9 => c_17 ((nI_leI (a := 6) (b := n) (by omega) (by omega)).mpr h9)
          refine lv_iload_n hx hb dX3_pass_28 rfl (lv_at hl 2 rfl) ?_
          refine lv_if_ne (tgt := 57) hx hb dX3_pass_29 (by decide) (fun c_30 => ?_) (fun c_30 => ?_)
          · refine lv_iconst (v := 1) hx hb dX3_pass_57 (by decide) ?_
            refine lv_goto (tgt := 62) hx hb dX3_pass_58 (by decide) ?_
            refine lv_istore_n (lv' := [(2, .int 1), (0, .ref (a 0)), (1, .int dd), (3, .int (nI n))]) hx hb dX3_pass_62 rfl hl (by decide) rfl (fun ls hl => ?_)
            refine lv_iinc (v := nI (n + 1)) (lv' := [(3, .int (nI (n + 1))), (2, .int 1), (0, .ref (a 0)), (1, .int dd)]) hx hb dX3_pass_63 hl (k := 3) rfl (by rw [show (Int32.ofInt 1) = nI 1 from by decide]; exact nI_add n 1) (by decide) rfl (fun ls hl => ?_)
            refine lv_goto (tgt := 22) hx hb dX3_pass_66 (by decide) ?_
            exact ih_22 (n + 1) _ (by omega) (by omega) (by subst q_y0_22; simp -proj only [f_X3_pass_22, if_neg c_30]; first | done | rfl) _ _ hP hD hS ls (lv_sub hl [2, 3, 1, 0] rfl)
          · refine lv_aload_n hx hb dX3_pass_32 rfl (lv_at hl 0 rfl) ?_
            refine lv_iload_n hx hb dX3_pass_33 rfl (lv_at hl 3 rfl) ?_
            refine lv_iconst (v := 1) hx hb dX3_pass_34 (by decide) ?_
            refine z_E (va_runV (As := [.int (nI n), .int 1]) (rest := []) ⟨hx, hb, hml, hown, hts⟩ (zc_X3_of l D cA a M N h n 1 (by omega) (by omega)) (cwV 2 hts gX3_pass_X3_of rfl rfl rfl zy_X3_of ⟨Nat.le_of_ble_eq_true rfl, Nat.le_of_ble_eq_true rfl⟩) (z_preV (ci := 3) hK hP hD rfl rfl) rfl rfl hl.1 rfl (lv_room (Nat.le_of_ble_eq_true rfl)) dX3_pass_35 ⟨Nat.zero_le _, Nat.zero_le _⟩) rfl ?_
            refine lv_i2l (v := (f_X3_of M n 1).toInt64) hx hb dX3_pass_38 rfl ?_
            refine lv_aload_n hx hb dX3_pass_39 rfl (lv_at hl 0 rfl) ?_
            refine lv_iload_n hx hb dX3_pass_40 rfl (lv_at hl 3 rfl) ?_
            refine lv_iconst (v := 0) hx hb dX3_pass_41 (by decide) ?_
            refine z_E (va_runV (As := [.int (nI n), .int 0]) (rest := [.long ((f_X3_of M n 1).toInt64)]) ⟨hx, hb, hml, hown, hts⟩ (zc_X3_of l D cA a M N h n 0 (by omega) (by omega)) (cwV 2 hts gX3_pass_X3_of rfl rfl rfl zy_X3_of ⟨Nat.le_of_ble_eq_true rfl, Nat.le_of_ble_eq_true rfl⟩) (z_preV (ci := 3) hK hP hD rfl rfl) rfl rfl hl.1 rfl (lv_room (Nat.le_of_ble_eq_true rfl)) dX3_pass_42 ⟨Nat.zero_le _, Nat.zero_le _⟩) rfl ?_
            refine lv_i2l (v := (f_X3_of M n 0).toInt64) hx hb dX3_pass_45 rfl ?_
            refine lv_iload_n hx hb dX3_pass_46 rfl (lv_at hl 1 rfl) ?_
            refine lv_i2l (v := (dd).toInt64) hx hb dX3_pass_47 rfl ?_
            refine lv_lmul hx hb dX3_pass_48 ?_
            refine lv_ladd hx hb dX3_pass_49 ?_
            refine lv_ldc2 hx hb hown (hts (.constantLong RX3 129 (100000000)) (List.mem_of_getElem? (i := 2) rfl)) dX3_pass_50 ?_
            refine W.lcmp hx hb dX3_pass_53 ?_
            refine lv_if_le (tgt := 61) hx hb dX3_pass_54 (by decide) (fun c_31 => ?_) (fun c_31 => ?_)
            · have c_31 : (((f_X3_of M n 1).toInt64) + (((f_X3_of M n 0).toInt64) * ((dd).toInt64))) ≤ (100000000) := (lg_cmp_le _ _).mp c_31
              refine lv_iconst (v := 0) hx hb dX3_pass_61 (by decide) ?_
              refine lv_istore_n (lv' := [(2, .int 0), (0, .ref (a 0)), (1, .int dd), (3, .int (nI n))]) hx hb dX3_pass_62 rfl hl (by decide) rfl (fun ls hl => ?_)
              refine lv_iinc (v := nI (n + 1)) (lv' := [(3, .int (nI (n + 1))), (2, .int 0), (0, .ref (a 0)), (1, .int dd)]) hx hb dX3_pass_63 hl (k := 3) rfl (by rw [show (Int32.ofInt 1) = nI 1 from by decide]; exact nI_add n 1) (by decide) rfl (fun ls hl => ?_)
              refine lv_goto (tgt := 22) hx hb dX3_pass_66 (by decide) ?_
              exact ih_22 (n + 1) _ (by omega) (by omega) (by subst q_y0_22; simp -proj only [f_X3_pass_22, if_pos c_30, if_pos c_31]; first | done | rfl) _ _ hP hD hS ls (lv_sub hl [2, 3, 1, 0] rfl)
            · have c_31 : ¬ (((f_X3_of M n 1).toInt64) + (((f_X3_of M n 0).toInt64) * ((dd).toInt64))) ≤ (100000000) := fun h9 => c_31 ((lg_cmp_le _ _).mpr h9)
              refine lv_iconst (v := 1) hx hb dX3_pass_57 (by decide) ?_
              refine lv_goto (tgt := 62) hx hb dX3_pass_58 (by decide) ?_
              refine lv_istore_n (lv' := [(2, .int 1), (0, .ref (a 0)), (1, .int dd), (3, .int (nI n))]) hx hb dX3_pass_62 rfl hl (by decide) rfl (fun ls hl => ?_)
              refine lv_iinc (v := nI (n + 1)) (lv' := [(3, .int (nI (n + 1))), (2, .int 1), (0, .ref (a 0)), (1, .int dd)]) hx hb dX3_pass_63 hl (k := 3) rfl (by rw [show (Int32.ofInt 1) = nI 1 from by decide]; exact nI_add n 1) (by decide) rfl (fun ls hl => ?_)
              refine lv_goto (tgt := 22) hx hb dX3_pass_66 (by decide) ?_
              exact ih_22 (n + 1) _ (by omega) (by omega) (by subst q_y0_22; simp -proj only [f_X3_pass_22, if_pos c_30, if_neg c_31]; first | done | rfl) _ _ hP hD hS ls (lv_sub hl [2, 3, 1, 0] rfl)
    exact loop_22 _ 0 _ (by omega) (Nat.lt_succ_self _) rfl _ _ hP hD hS ls (lv_sub hl [2, 3, 1, 0] rfl)

theorem zy_X3_dividend : yX3_dividend.cls = RX3 ∧ yX3_dividend.cls ≠ "java/lang/invoke/MethodHandle" ∧ yX3_dividend.cls ≠ "java/lang/invoke/VarHandle" ∧ (parseMethodDescriptor yX3_dividend.desc).map (fun d => d.parameters.length) = some 0 := by decide +kernel
def f_X3_dividend_28 (M : BK) (N : Nat → Nat) (N_2 : Nat → Nat) (i0 : Int32) (i1 : BK) : Nat → Int32 × BK
  | 0 => (i0, i1)
  | n + 1 =>
    let y0_28 : Int32 := (f_X3_dividend_28 M N N_2 i0 i1 n).1
    let y1_28 : BK := (f_X3_dividend_28 M N N_2 i0 i1 n).2
    let M_5 : BK := f_X3_adds y1_28 n 0 (f_X3_share y1_28 n)
    (y0_28 + (f_X3_share y1_28 n), M_5)
def f_X3_dividend_61 (M : BK) (N : Nat → Nat) (N_2 : Nat → Nat) (y0_28 : Int32) (i0 : BK) : Nat → BK
  | 0 => i0
  | n + 1 =>
    let y0_61 : BK := f_X3_dividend_61 M N N_2 y0_28 i0 n
    let M_7 : BK := f_X3_adds y0_61 n 1 (-(f_X3_of y0_61 n 1))
    M_7
def f_X3_dividend (M : BK) (N : Nat → Nat) : Int32 × BK × (Nat → Nat) :=
  let M_1 : BK := (f_X3_save (uB M 4 0 0) N).1
  let N_2 : Nat → Nat := (f_X3_save (uB M 4 0 0) N).2
  if (f_X3_allDays M_1) = 0 then
    let M_9 : BK := (f_X3_refuses M_1 (-1)).2
    ((f_X3_refuses M_1 (-1)).1, M_9, N_2)
  else
    let y0_28 : Int32 := (f_X3_dividend_28 M N N_2 0 M_1 6).1
    let y1_28 : BK := (f_X3_dividend_28 M N N_2 0 M_1 6).2
    let y0_61 : BK := f_X3_dividend_61 M N N_2 y0_28 y1_28 6
    let M_8 : BK := uB (uB y0_61 0 1 ((y0_61 0 1) - y0_28)) 0 7 (((uB y0_61 0 1 ((y0_61 0 1) - y0_28)) 0 7) + y0_28)
    (y0_28, M_8, N_2)

set_option maxHeartbeats 4000000 in
set_option maxRecDepth 100000 in
theorem zc_X3_dividend (l : Launch) (D : va_G) (cA : Nat → ClassId) (a : Nat → Nat) (M : BK) (N : Nat → Nat) (h : Int64) (hsv : N 0 ≤ 6) : Met l yX3_dividend wsX3_dividend (zrm 3 68) (zPc D cA [.ref (a 0)] (moW cA a M N h)) (zM D (moW cA a M N h) (moW cA a ((f_X3_dividend M N).2.1) ((f_X3_dividend M N).2.2) h) (some (.int ((f_X3_dividend M N).1)))) 0 0 (zfr (moW cA a M N h)) := by
  refine Met.ofW (cc := cX3_dividend) (maxL := 3) (ret := (some .int)) (by decide) rfl ?_
  intro p e s m args below meth c s₁ Bd hml hv
  obtain ⟨rfl, hP, hK, hD0⟩ := hv
  have hx := Bd.exec
  have hb := Bd.bytes
  have hr := Bd.returns
  have hts := atoms_spec (ws := wsX3_dividend) Bd.pre
  have hown : s.vm.findClass RX3 = some m.cls := findClass_of_methodNamed Bd.named
  have hlocks := Bd.notSynchronized
  have hD := z_Dfr hD0
  have hS : va_S (zfr (moW cA a M N h)) s.heap s.heap [] := va_S.rf
  have hi3 : ∀ w ∈ wsX30, w ∈ wsX3_dividend := fun w h => List.mem_cons_of_mem _ (List.mem_append_right _ h)
  have hl := lv_entry ([.ref (a 0)]) (n := 3) (Nat.le_of_ble_eq_true rfl)
  rw [lg_entry_eq]
  generalize (lg_sl ([.ref (a 0)]) ++ List.replicate (3 - (lg_sl ([.ref (a 0)])).length) Slot.unset).toArray = ls at hl ⊢
  have hl : lv_has ls 3 [(0, .ref (a 0))] := hl
  refine lv_aload_n hx hb dX3_dividend_0 rfl (lv_at hl 0 rfl) ?_
  refine lv_iconst (v := 0) hx hb dX3_dividend_1 (by decide) ?_
  refine va_put (D := D) (ci := 3) (v := .int 0) (ty := .int) (C := RX3) (T := TX3) (N := 14) hx hb hts hi3 tyX3 tyX3_ok nmX3 hown hK hP hD hS 0 rfl rfl 0 (by decide) (hts (.fieldLink RX3 23 "PledgedLoansModel" "thrown" "I") (List.mem_of_getElem? (i := 1) rfl)) (fun _ h9 => h9) rfl (by decide +kernel) rfl rfl (Nat.le_of_ble_eq_true rfl) dX3_dividend_2 (fun H locs hP9 hD9 hS9 => ?_)
  replace hP : va_P D vwCl (moW cA a (uB M 4 0 0) N h) H := hP9
  replace hD : va_D _ (moW cA a (uB M 4 0 0) N h) := hD9
  replace hS := hS9
  clear hP9 hD9 hS9
  refine lv_aload_n hx hb dX3_dividend_5 rfl (lv_at hl 0 rfl) ?_
  refine z_M (X := ([] : va_W)) (Z := ([] : va_W)) (va_runV (As := []) (rest := []) ⟨hx, hb, hml, hown, hts⟩ (zc_X3_save l D cA a (uB M 4 0 0) N h (by exact (show (N 0) ≤ 6 by omega))) (cwV 0 hts gX3_dividend_X3_save rfl rfl rfl zy_X3_save ⟨Nat.le_of_ble_eq_true rfl, Nat.le_of_ble_eq_true rfl⟩) (z_preV (ci := 3) hK hP hD rfl rfl) rfl rfl hl.1 rfl (lv_room (Nat.le_of_ble_eq_true rfl)) dX3_dividend_6 ⟨Nat.zero_le _, Nat.zero_le _⟩) hP hD hS moW_adr rfl (fun H locs hP9 hD9 hS9 => ?_)
  replace hP : va_P D vwCl (moW cA a ((f_X3_save (uB M 4 0 0) N).1) ((f_X3_save (uB M 4 0 0) N).2) h) H := hP9
  replace hD : va_D _ (moW cA a ((f_X3_save (uB M 4 0 0) N).1) ((f_X3_save (uB M 4 0 0) N).2) h) := hD9
  replace hS := hS9
  clear hP9 hD9 hS9
  obtain ⟨M_1, eM_1⟩ : ∃ z9 : BK, z9 = (f_X3_save (uB M 4 0 0) N).1 := ⟨_, rfl⟩
  rw [← eM_1] at hP hD
  obtain ⟨N_2, eN_2⟩ : ∃ z9 : Nat → Nat, z9 = (f_X3_save (uB M 4 0 0) N).2 := ⟨_, rfl⟩
  rw [← eN_2] at hP hD
  have hlN_2 : N_2 1 = (N 1) ∧ N_2 2 = (N 2) ∧ N_2 0 ≤ 6 := by rw [eN_2]; exact (zn_X3_save (uB M 4 0 0) N (by first | assumption | omega))
  refine lv_aload_n hx hb dX3_dividend_9 rfl (lv_at hl 0 rfl) ?_
  refine z_E (va_runV (As := []) (rest := []) ⟨hx, hb, hml, hown, hts⟩ (zc_X3_allDays l D cA a M_1 N_2 h) (cwV 0 hts gX3_dividend_X3_allDays rfl rfl rfl zy_X3_allDays ⟨Nat.le_of_ble_eq_true rfl, Nat.le_of_ble_eq_true rfl⟩) (z_preV (ci := 3) hK hP hD rfl rfl) rfl rfl hl.1 rfl (lv_room (Nat.le_of_ble_eq_true rfl)) dX3_dividend_10 ⟨Nat.zero_le _, Nat.zero_le _⟩) rfl ?_
  refine lv_lconst (v := 0) hx hb dX3_dividend_13 (by decide) ?_
  refine W.lcmp hx hb dX3_dividend_14 ?_
  refine lv_if_ne (tgt := 24) hx hb dX3_dividend_15 (by decide) (fun c_3 => ?_) (fun c_3 => ?_)
  · have c_3 : ¬ (f_X3_allDays M_1) = 0 := fun h9 => c_3 ((lg_cmp_eq _ _).mpr h9)
    refine lv_iconst (v := 0) hx hb dX3_dividend_24 (by decide) ?_
    refine lv_istore_n (lv' := [(1, .int 0), (0, .ref (a 0))]) hx hb dX3_dividend_25 rfl hl (by decide) rfl (fun ls hl => ?_)
    refine lv_iconst (v := 0) hx hb dX3_dividend_26 (by decide) ?_
    refine lv_istore_n (lv' := [(2, .int 0), (1, .int 0), (0, .ref (a 0))]) hx hb dX3_dividend_27 rfl hl (by decide) rfl (fun ls hl => ?_)
    have loop_28 : ∀ (kk : Nat) (n : Nat) (y0_28 : Int32) (y1_28 : BK), n ≤ 6 → 6 - n < kk → y0_28 = (f_X3_dividend_28 M N N_2 0 M_1 n).1 → y1_28 = (f_X3_dividend_28 M N N_2 0 M_1 n).2 → ∀ (H : Heap) (locs : List Loc), va_P D vwCl (moW cA a y1_28 N_2 h) H → va_D (zfr (moW cA a M N h)) (moW cA a y1_28 N_2 h) → va_S (zfr (moW cA a M N h)) s.heap H locs → ∀ (ls : Array Slot), lv_has ls 3 [(0, .ref (a 0)), (1, .int y0_28), (2, .int (nI n))] → W p l e (headSpec wsX3_dividend (zrm 3 68)).room s m ([.ref (a 0)] : List Value).toArray below meth c H locs 0 0 (MQ below (zM D (moW cA a M N h) (moW cA a ((f_X3_dividend M N).2.1) ((f_X3_dividend M N).2.2) h) (some (.int ((f_X3_dividend M N).1)))) ([.ref (a 0)] : List Value).toArray s 0 0 (zfr (moW cA a M N h))) (F0 m 28 ls []) := by
      intro kk
      induction kk with
      | zero => intro n y0_28 y1_28 _ h9; exact absurd h9 (Nat.not_lt_zero _)
      | succ kk ih_28 =>
        intro n y0_28 y1_28 hn_28 hm_28 q_y0_28 q_y1_28 H locs hP hD hS ls hl
        refine lv_iload_n hx hb dX3_dividend_28 rfl (lv_at hl 2 rfl) ?_
        refine lv_bipush (v := 6) hx hb dX3_dividend_29 (by decide) ?_
        refine lv_icmp_ge (tgt := 59) hx hb dX3_dividend_31 (by decide) (fun c_4 => ?_) (fun c_4 => ?_)
        · have c_4 : 6 ≤ n := (nI_leI (a := 6) (b := n) (by omega) (by omega)).mp c_4
          obtain rfl : n = 6 := by omega
          obtain ⟨z_28, hz_28⟩ : ∃ z9, z9 = f_X3_dividend_28 M N N_2 0 M_1 6 := ⟨_, rfl⟩
          rw [← hz_28] at q_y0_28 q_y1_28
          refine lv_iconst (v := 0) hx hb dX3_dividend_59 (by decide) ?_
          refine lv_istore_n (lv' := [(2, .int 0), (0, .ref (a 0)), (1, .int y0_28)]) hx hb dX3_dividend_60 rfl hl (by decide) rfl (fun ls hl => ?_)
          have loop_61 : ∀ (kk : Nat) (n : Nat) (y0_61 : BK), n ≤ 6 → 6 - n < kk → y0_61 = f_X3_dividend_61 M N N_2 y0_28 y1_28 n → ∀ (H : Heap) (locs : List Loc), va_P D vwCl (moW cA a y0_61 N_2 h) H → va_D (zfr (moW cA a M N h)) (moW cA a y0_61 N_2 h) → va_S (zfr (moW cA a M N h)) s.heap H locs → ∀ (ls : Array Slot), lv_has ls 3 [(0, .ref (a 0)), (1, .int y0_28), (2, .int (nI n))] → W p l e (headSpec wsX3_dividend (zrm 3 68)).room s m ([.ref (a 0)] : List Value).toArray below meth c H locs 0 0 (MQ below (zM D (moW cA a M N h) (moW cA a ((f_X3_dividend M N).2.1) ((f_X3_dividend M N).2.2) h) (some (.int ((f_X3_dividend M N).1)))) ([.ref (a 0)] : List Value).toArray s 0 0 (zfr (moW cA a M N h))) (F0 m 61 ls []) := by
            intro kk
            induction kk with
            | zero => intro n y0_61 _ h9; exact absurd h9 (Nat.not_lt_zero _)
            | succ kk ih_61 =>
              intro n y0_61 hn_61 hm_61 q_y0_61 H locs hP hD hS ls hl
              refine lv_iload_n hx hb dX3_dividend_61 rfl (lv_at hl 2 rfl) ?_
              refine lv_bipush (v := 6) hx hb dX3_dividend_62 (by decide) ?_
              refine lv_icmp_ge (tgt := 86) hx hb dX3_dividend_64 (by decide) (fun c_5 => ?_) (fun c_5 => ?_)
              · have c_5 : 6 ≤ n := (nI_leI (a := 6) (b := n) (by omega) (by omega)).mp c_5
                obtain rfl : n = 6 := by omega
                obtain ⟨z_61, hz_61⟩ : ∃ z9, z9 = f_X3_dividend_61 M N N_2 y0_28 y1_28 6 := ⟨_, rfl⟩
                rw [← hz_61] at q_y0_61
                refine lv_aload_n hx hb dX3_dividend_86 rfl (lv_at hl 0 rfl) ?_
                refine va_get (D := D) (ci := 3) (v := .ref (a 1)) (C := RX3) (T := TX3) (N := 14) hx hb hts hi3 hown hK hP 0 rfl rfl 1 (by decide) (hts (.fieldLink RX3 7 "PledgedLoansModel" "s" "[I") (List.mem_of_getElem? (i := 2) rfl)) (fun _ h9 => h9) rfl dX3_dividend_87 ?_
                refine lv_iconst (v := 1) hx hb dX3_dividend_90 (by decide) ?_
                refine lv_dup2_11 hx hb dX3_dividend_91 rfl rfl ?_
                refine z_iald (j := 1) hx hb hK hP 1 0 rfl rfl dX3_dividend_92 (by omega) (by decide) ?_
                refine lv_iload_n hx hb dX3_dividend_93 rfl (lv_at hl 1 rfl) ?_
                refine lv_isub hx hb dX3_dividend_94 ?_
                refine z_iast (j := 1) hx hb hK hP hD hS 1 0 rfl rfl dX3_dividend_95 (by omega) (by decide) (moW cA a (uB y0_61 0 1 ((y0_61 0 1) - y0_28)) N_2 h) rfl (fun H locs hP9 hD9 hS9 => ?_)
                replace hP : va_P D vwCl (moW cA a (uB y0_61 0 1 ((y0_61 0 1) - y0_28)) N_2 h) H := hP9
                replace hD : va_D _ (moW cA a (uB y0_61 0 1 ((y0_61 0 1) - y0_28)) N_2 h) := hD9
                replace hS := hS9
                clear hP9 hD9 hS9
                refine lv_aload_n hx hb dX3_dividend_96 rfl (lv_at hl 0 rfl) ?_
                refine va_get (D := D) (ci := 3) (v := .ref (a 1)) (C := RX3) (T := TX3) (N := 14) hx hb hts hi3 hown hK hP 0 rfl rfl 1 (by decide) (hts (.fieldLink RX3 7 "PledgedLoansModel" "s" "[I") (List.mem_of_getElem? (i := 2) rfl)) (fun _ h9 => h9) rfl dX3_dividend_97 ?_
                refine lv_bipush (v := 7) hx hb dX3_dividend_100 (by decide) ?_
                refine lv_dup2_11 hx hb dX3_dividend_102 rfl rfl ?_
                refine z_iald (j := 7) hx hb hK hP 1 0 rfl rfl dX3_dividend_103 (by omega) (by decide) ?_
                refine lv_iload_n hx hb dX3_dividend_104 rfl (lv_at hl 1 rfl) ?_
                refine lv_iadd hx hb dX3_dividend_105 ?_
                refine z_iast (j := 7) hx hb hK hP hD hS 1 0 rfl rfl dX3_dividend_106 (by omega) (by decide) (moW cA a (uB (uB y0_61 0 1 ((y0_61 0 1) - y0_28)) 0 7 (((uB y0_61 0 1 ((y0_61 0 1) - y0_28)) 0 7) + y0_28)) N_2 h) rfl (fun H locs hP9 hD9 hS9 => ?_)
                replace hP : va_P D vwCl (moW cA a (uB (uB y0_61 0 1 ((y0_61 0 1) - y0_28)) 0 7 (((uB y0_61 0 1 ((y0_61 0 1) - y0_28)) 0 7) + y0_28)) N_2 h) H := hP9
                replace hD : va_D _ (moW cA a (uB (uB y0_61 0 1 ((y0_61 0 1) - y0_28)) 0 7 (((uB y0_61 0 1 ((y0_61 0 1) - y0_28)) 0 7) + y0_28)) N_2 h) := hD9
                replace hS := hS9
                clear hP9 hD9 hS9
                obtain ⟨M_6, eM_6⟩ : ∃ z9 : BK, z9 = uB (uB y0_61 0 1 ((y0_61 0 1) - y0_28)) 0 7 (((uB y0_61 0 1 ((y0_61 0 1) - y0_28)) 0 7) + y0_28) := ⟨_, rfl⟩
                rw [← eM_6] at hP hD
                refine lv_iload_n hx hb dX3_dividend_107 rfl (lv_at hl 1 rfl) ?_
                exact z_iretM (w1 := moW cA a M_6 N_2 h) hx hb hr hlocks dX3_dividend_108 hP hS (by subst eM_6 q_y0_61 q_y1_28 q_y0_28 eN_2 eM_1; simp -proj only [f_X3_dividend, if_neg c_3, ← hz_28, ← hz_61]; first | done | rfl) (by subst eM_6 q_y0_61 q_y1_28 q_y0_28 eN_2 eM_1; simp -proj only [f_X3_dividend, if_neg c_3, ← hz_28, ← hz_61]; first | done | rfl)
              · have c_5 : ¬ 6 ≤ n := fun h9 => c_5 ((nI_leI (a := 6) (b := n) (by omega) (by omega)).mpr h9)
                refine lv_aload_n hx hb dX3_dividend_67 rfl (lv_at hl 0 rfl) ?_
                refine lv_iload_n hx hb dX3_dividend_68 rfl (lv_at hl 2 rfl) ?_
                refine lv_iconst (v := 1) hx hb dX3_dividend_69 (by decide) ?_
                refine lv_aload_n hx hb dX3_dividend_70 rfl (lv_at hl 0 rfl) ?_
                refine lv_iload_n hx hb dX3_dividend_71 rfl (lv_at hl 2 rfl) ?_
                refine lv_iconst (v := 1) hx hb dX3_dividend_72 (by decide) ?_
                refine z_E (va_runV (As := [.int (nI n), .int 1]) (rest := [.int 1, .int (nI n), .ref (a 0)]) ⟨hx, hb, hml, hown, hts⟩ (zc_X3_of l D cA a y0_61 N_2 h n 1 (by omega) (by omega)) (cwV 2 hts gX3_dividend_X3_of rfl rfl rfl zy_X3_of ⟨Nat.le_of_ble_eq_true rfl, Nat.le_of_ble_eq_true rfl⟩) (z_preV (ci := 3) hK hP hD rfl rfl) rfl rfl hl.1 rfl (lv_room (Nat.le_of_ble_eq_true rfl)) dX3_dividend_73 ⟨Nat.zero_le _, Nat.zero_le _⟩) rfl ?_
                refine lv_ineg hx hb dX3_dividend_76 ?_
                refine z_M (X := ([] : va_W)) (Z := ([] : va_W)) (va_runV (As := [.int (nI n), .int 1, .int (-(f_X3_of y0_61 n 1))]) (rest := []) ⟨hx, hb, hml, hown, hts⟩ (zc_X3_adds l D cA a y0_61 N_2 h n 1 (-(f_X3_of y0_61 n 1)) (by omega) (by omega)) (cwV 3 hts gX3_dividend_X3_adds rfl rfl rfl zy_X3_adds ⟨Nat.le_of_ble_eq_true rfl, Nat.le_of_ble_eq_true rfl⟩) (z_preV (ci := 3) hK hP hD rfl rfl) rfl rfl hl.1 rfl (lv_room (Nat.le_of_ble_eq_true rfl)) dX3_dividend_77 ⟨Nat.zero_le _, Nat.zero_le _⟩) hP hD hS moW_adr rfl (fun H locs hP9 hD9 hS9 => ?_)
                replace hP : va_P D vwCl (moW cA a (f_X3_adds y0_61 n 1 (-(f_X3_of y0_61 n 1))) N_2 h) H := hP9
                replace hD : va_D _ (moW cA a (f_X3_adds y0_61 n 1 (-(f_X3_of y0_61 n 1))) N_2 h) := hD9
                replace hS := hS9
                clear hP9 hD9 hS9
                obtain ⟨M_7, eM_7⟩ : ∃ z9 : BK, z9 = f_X3_adds y0_61 n 1 (-(f_X3_of y0_61 n 1)) := ⟨_, rfl⟩
                rw [← eM_7] at hP hD
                refine lv_iinc (v := nI (n + 1)) (lv' := [(2, .int (nI (n + 1))), (0, .ref (a 0)), (1, .int y0_28)]) hx hb dX3_dividend_80 hl (k := 2) rfl (by rw [show (Int32.ofInt 1) = nI 1 from by decide]; exact nI_add n 1) (by decide) rfl (fun ls hl => ?_)
                refine lv_goto (tgt := 61) hx hb dX3_dividend_83 (by decide) ?_
                exact ih_61 (n + 1) _ (by omega) (by omega) (by subst eM_7 q_y0_61 q_y1_28 q_y0_28 eN_2 eM_1; first | (simp -proj only [f_X3_dividend_61, ← hz_28]; first | done | rfl; done) | rfl) _ _ hP hD hS ls (lv_sub hl [1, 2, 0] rfl)
          exact loop_61 _ 0 _ (by omega) (Nat.lt_succ_self _) rfl _ _ hP hD hS ls (lv_sub hl [1, 2, 0] rfl)
        · have c_4 : ¬ 6 ≤ n := fun h9 => c_4 ((nI_leI (a := 6) (b := n) (by omega) (by omega)).mpr h9)
          refine lv_iload_n hx hb dX3_dividend_34 rfl (lv_at hl 1 rfl) ?_
          refine lv_aload_n hx hb dX3_dividend_35 rfl (lv_at hl 0 rfl) ?_
          refine lv_iload_n hx hb dX3_dividend_36 rfl (lv_at hl 2 rfl) ?_
          refine z_E (va_runV (As := [.int (nI n)]) (rest := [.int y0_28]) ⟨hx, hb, hml, hown, hts⟩ (zc_X3_share l D cA a y1_28 N_2 h n (by omega)) (cwV 1 hts gX3_dividend_X3_share rfl rfl rfl zy_X3_share ⟨Nat.le_of_ble_eq_true rfl, Nat.le_of_ble_eq_true rfl⟩) (z_preV (ci := 3) hK hP hD rfl rfl) rfl rfl hl.1 rfl (lv_room (Nat.le_of_ble_eq_true rfl)) dX3_dividend_37 ⟨Nat.zero_le _, Nat.zero_le _⟩) rfl ?_
          refine lv_iadd hx hb dX3_dividend_40 ?_
          refine lv_istore_n (lv' := [(1, .int (y0_28 + (f_X3_share y1_28 n))), (0, .ref (a 0)), (2, .int (nI n))]) hx hb dX3_dividend_41 rfl hl (by decide) rfl (fun ls hl => ?_)
          refine lv_aload_n hx hb dX3_dividend_42 rfl (lv_at hl 1 rfl) ?_
          refine lv_iload_n hx hb dX3_dividend_43 rfl (lv_at hl 2 rfl) ?_
          refine lv_iconst (v := 0) hx hb dX3_dividend_44 (by decide) ?_
          refine lv_aload_n hx hb dX3_dividend_45 rfl (lv_at hl 1 rfl) ?_
          refine lv_iload_n hx hb dX3_dividend_46 rfl (lv_at hl 2 rfl) ?_
          refine z_E (va_runV (As := [.int (nI n)]) (rest := [.int 0, .int (nI n), .ref (a 0)]) ⟨hx, hb, hml, hown, hts⟩ (zc_X3_share l D cA a y1_28 N_2 h n (by omega)) (cwV 1 hts gX3_dividend_X3_share rfl rfl rfl zy_X3_share ⟨Nat.le_of_ble_eq_true rfl, Nat.le_of_ble_eq_true rfl⟩) (z_preV (ci := 3) hK hP hD rfl rfl) rfl rfl hl.1 rfl (lv_room (Nat.le_of_ble_eq_true rfl)) dX3_dividend_47 ⟨Nat.zero_le _, Nat.zero_le _⟩) rfl ?_
          refine z_M (X := ([] : va_W)) (Z := ([] : va_W)) (va_runV (As := [.int (nI n), .int 0, .int (f_X3_share y1_28 n)]) (rest := []) ⟨hx, hb, hml, hown, hts⟩ (zc_X3_adds l D cA a y1_28 N_2 h n 0 (f_X3_share y1_28 n) (by omega) (by omega)) (cwV 3 hts gX3_dividend_X3_adds rfl rfl rfl zy_X3_adds ⟨Nat.le_of_ble_eq_true rfl, Nat.le_of_ble_eq_true rfl⟩) (z_preV (ci := 3) hK hP hD rfl rfl) rfl rfl hl.1 rfl (lv_room (Nat.le_of_ble_eq_true rfl)) dX3_dividend_50 ⟨Nat.zero_le _, Nat.zero_le _⟩) hP hD hS moW_adr rfl (fun H locs hP9 hD9 hS9 => ?_)
          replace hP : va_P D vwCl (moW cA a (f_X3_adds y1_28 n 0 (f_X3_share y1_28 n)) N_2 h) H := hP9
          replace hD : va_D _ (moW cA a (f_X3_adds y1_28 n 0 (f_X3_share y1_28 n)) N_2 h) := hD9
          replace hS := hS9
          clear hP9 hD9 hS9
          obtain ⟨M_8, eM_8⟩ : ∃ z9 : BK, z9 = f_X3_adds y1_28 n 0 (f_X3_share y1_28 n) := ⟨_, rfl⟩
          rw [← eM_8] at hP hD
          refine lv_iinc (v := nI (n + 1)) (lv' := [(2, .int (nI (n + 1))), (1, .int (y0_28 + (f_X3_share y1_28 n))), (0, .ref (a 0))]) hx hb dX3_dividend_53 hl (k := 2) rfl (by rw [show (Int32.ofInt 1) = nI 1 from by decide]; exact nI_add n 1) (by decide) rfl (fun ls hl => ?_)
          refine lv_goto (tgt := 28) hx hb dX3_dividend_56 (by decide) ?_
          exact ih_28 (n + 1) _ _ (by omega) (by omega) (by subst eM_8 q_y1_28 q_y0_28 eN_2 eM_1; first | (simp -proj only [f_X3_dividend_28]; first | done | rfl; done) | rfl) (by subst eM_8 q_y1_28 q_y0_28 eN_2 eM_1; first | (simp -proj only [f_X3_dividend_28]; first | done | rfl; done) | rfl) _ _ hP hD hS ls (lv_sub hl [2, 1, 0] rfl)
    exact loop_28 _ 0 _ _ (by omega) (Nat.lt_succ_self _) rfl rfl _ _ hP hD hS ls (lv_sub hl [2, 1, 0] rfl)
  · have c_3 : (f_X3_allDays M_1) = 0 := (lg_cmp_eq _ _).mp c_3
    refine lv_aload_n hx hb dX3_dividend_18 rfl (lv_at hl 0 rfl) ?_
    refine lv_iconst (v := (-1)) hx hb dX3_dividend_19 (by decide) ?_
    refine z_M (X := ([] : va_W)) (Z := ([] : va_W)) (va_runV (As := [.int (-1)]) (rest := []) ⟨hx, hb, hml, hown, hts⟩ (zc_X3_refuses l D cA a M_1 N_2 h (-1)) (cwV 1 hts gX3_dividend_X3_refuses rfl rfl rfl zy_X3_refuses ⟨Nat.le_of_ble_eq_true rfl, Nat.le_of_ble_eq_true rfl⟩) (z_preV (ci := 3) hK hP hD rfl rfl) rfl rfl hl.1 rfl (lv_room (Nat.le_of_ble_eq_true rfl)) dX3_dividend_20 ⟨Nat.zero_le _, Nat.zero_le _⟩) hP hD hS moW_adr rfl (fun H locs hP9 hD9 hS9 => ?_)
    replace hP : va_P D vwCl (moW cA a ((f_X3_refuses M_1 (-1)).2) N_2 h) H := hP9
    replace hD : va_D _ (moW cA a ((f_X3_refuses M_1 (-1)).2) N_2 h) := hD9
    replace hS := hS9
    clear hP9 hD9 hS9
    obtain ⟨M_9, eM_9⟩ : ∃ z9 : BK, z9 = (f_X3_refuses M_1 (-1)).2 := ⟨_, rfl⟩
    rw [← eM_9] at hP hD
    exact z_iretM (w1 := moW cA a M_9 N_2 h) hx hb hr hlocks dX3_dividend_23 hP hS (by subst eM_9 eN_2 eM_1; simp -proj only [f_X3_dividend, if_pos c_3]; first | done | rfl) (by subst eM_9 eN_2 eM_1; simp -proj only [f_X3_dividend, if_pos c_3]; first | done | rfl)

theorem zy_X3_set : yX3_set.cls = RX3 ∧ yX3_set.cls ≠ "java/lang/invoke/MethodHandle" ∧ yX3_set.cls ≠ "java/lang/invoke/VarHandle" ∧ (parseMethodDescriptor yX3_set.desc).map (fun d => d.parameters.length) = some 2 := by decide +kernel
def f_X3_set (M : BK) (N : Nat → Nat) (i1 : Int32) (i2 : Int32) : Int32 × BK × (Nat → Nat) :=
  if (f_X3_in i1 0 1) = 0 then
    let M_17 : BK := (f_X3_holds M 1).2
    (0, M_17, N)
  else
    if i1.toNatClampNeg = 0 then
      if (f_X3_in i2 (nI i1.toNatClampNeg) 100) = 0 then
        let M_15 : BK := (f_X3_holds M 2).2
        (0, M_15, N)
      else
        let M_11 : BK := (f_X3_holds M 0).2
        let M_13 : BK := (f_X3_save M_11 N).1
        let N_14 : Nat → Nat := (f_X3_save M_11 N).2
        (M_13 0 (8 + i1.toNatClampNeg), uB M_13 0 (8 + i1.toNatClampNeg) i2, N_14)
    else
      if (f_X3_in i2 (nI i1.toNatClampNeg) 5) = 0 then
        let M_8 : BK := (f_X3_holds M 2).2
        (0, M_8, N)
      else
        let M_4 : BK := (f_X3_holds M 0).2
        let M_6 : BK := (f_X3_save M_4 N).1
        let N_7 : Nat → Nat := (f_X3_save M_4 N).2
        (M_6 0 (8 + i1.toNatClampNeg), uB M_6 0 (8 + i1.toNatClampNeg) i2, N_7)

set_option maxHeartbeats 4000000 in
set_option maxRecDepth 100000 in
theorem zc_X3_set (l : Launch) (D : va_G) (cA : Nat → ClassId) (a : Nat → Nat) (M : BK) (N : Nat → Nat) (h : Int64) (i1 : Int32) (i2 : Int32) (hsv : N 0 ≤ 6) : Met l yX3_set wsX3_set (zrm 2 44) (zPc D cA [.ref (a 0), .int i1, .int i2] (moW cA a M N h)) (zM D (moW cA a M N h) (moW cA a ((f_X3_set M N i1 i2).2.1) ((f_X3_set M N i1 i2).2.2) h) (some (.int ((f_X3_set M N i1 i2).1)))) 0 0 (zfr (moW cA a M N h)) := by
  refine Met.ofW (cc := cX3_set) (maxL := 4) (ret := (some .int)) (by decide) rfl ?_
  intro p e s m args below meth c s₁ Bd hml hv
  obtain ⟨rfl, hP, hK, hD0⟩ := hv
  have hx := Bd.exec
  have hb := Bd.bytes
  have hr := Bd.returns
  have hts := atoms_spec (ws := wsX3_set) Bd.pre
  have hown : s.vm.findClass RX3 = some m.cls := findClass_of_methodNamed Bd.named
  have hlocks := Bd.notSynchronized
  have hD := z_Dfr hD0
  have hS : va_S (zfr (moW cA a M N h)) s.heap s.heap [] := va_S.rf
  have hi3 : ∀ w ∈ wsX30, w ∈ wsX3_set := fun w h => List.mem_cons_of_mem _ (List.mem_append_right _ h)
  have hl := lv_entry ([.ref (a 0), .int i1, .int i2]) (n := 4) (Nat.le_of_ble_eq_true rfl)
  rw [lg_entry_eq]
  generalize (lg_sl ([.ref (a 0), .int i1, .int i2]) ++ List.replicate (4 - (lg_sl ([.ref (a 0), .int i1, .int i2])).length) Slot.unset).toArray = ls at hl ⊢
  have hl : lv_has ls 4 [(0, .ref (a 0)), (1, .int i1), (2, .int i2)] := hl
  refine lv_aload_n hx hb dX3_set_0 rfl (lv_at hl 0 rfl) ?_
  refine lv_iload_n hx hb dX3_set_1 rfl (lv_at hl 1 rfl) ?_
  refine lv_iconst (v := 0) hx hb dX3_set_2 (by decide) ?_
  refine lv_iconst (v := 1) hx hb dX3_set_3 (by decide) ?_
  refine z_E (va_runS (As := [.int i1, .int 0, .int 1]) (rest := [.ref (a 0)]) ⟨hx, hb, hml, hown, hts⟩ (zc_X3_in l D cA i1 0 1) (va_cwS 3 hts gX3_set_X3_in rfl rfl rfl zy_X3_in.2 ⟨Nat.le_of_ble_eq_true rfl, Nat.le_of_ble_eq_true rfl⟩) (z_preS hK z_P0 (z_D0 (A := fun _ => True))) rfl rfl hl.1 rfl (lv_room (Nat.le_of_ble_eq_true rfl)) dX3_set_4 ⟨Nat.zero_le _, Nat.zero_le _⟩) rfl ?_
  refine lv_if_ne (tgt := 14) hx hb dX3_set_7 (by decide) (fun c_1 => ?_) (fun c_1 => ?_)
  · obtain ⟨s1, hs1, rfl⟩ : ∃ q9 : Nat, q9 < 2 ∧ i1 = nI q9 := zq_in0 1 rfl (by omega) c_1
    have hcl_s1 : (nI s1).toNatClampNeg = s1 := nI_clamp (by omega)
    refine lv_iload_n hx hb dX3_set_14 rfl (lv_at hl 2 rfl) ?_
    refine lv_iload_n hx hb dX3_set_15 rfl (lv_at hl 1 rfl) ?_
    refine lv_iload_n hx hb dX3_set_16 rfl (lv_at hl 1 rfl) ?_
    refine lv_if_ne (tgt := 25) hx hb dX3_set_17 (by decide) (fun c_2 => ?_) (fun c_2 => ?_)
    · have c_2 : ¬ s1 = 0 := fun h9 => c_2 ((nI_eq (a := s1) (b := 0) (by omega) (by omega)).mpr h9)
      refine lv_iconst (v := 5) hx hb dX3_set_25 (by decide) ?_
      refine z_E (va_runS (As := [.int i2, .int (nI s1), .int 5]) (rest := [.ref (a 0)]) ⟨hx, hb, hml, hown, hts⟩ (zc_X3_in l D cA i2 (nI s1) 5) (va_cwS 3 hts gX3_set_X3_in rfl rfl rfl zy_X3_in.2 ⟨Nat.le_of_ble_eq_true rfl, Nat.le_of_ble_eq_true rfl⟩) (z_preS hK z_P0 (z_D0 (A := fun _ => True))) rfl rfl hl.1 rfl (lv_room (Nat.le_of_ble_eq_true rfl)) dX3_set_26 ⟨Nat.zero_le _, Nat.zero_le _⟩) rfl ?_
      refine lv_if_ne (tgt := 36) hx hb dX3_set_29 (by decide) (fun c_3 => ?_) (fun c_3 => ?_)
      · refine lv_iconst (v := 0) hx hb dX3_set_36 (by decide) ?_
        refine z_M (X := ([] : va_W)) (Z := ([] : va_W)) (va_runV (As := [.int 0]) (rest := []) ⟨hx, hb, hml, hown, hts⟩ (zc_X3_holds l D cA a M N h 0) (cwV 1 hts gX3_set_X3_holds rfl rfl rfl zy_X3_holds ⟨Nat.le_of_ble_eq_true rfl, Nat.le_of_ble_eq_true rfl⟩) (z_preV (ci := 3) hK hP hD rfl rfl) rfl rfl hl.1 rfl (lv_room (Nat.le_of_ble_eq_true rfl)) dX3_set_37 ⟨Nat.zero_le _, Nat.zero_le _⟩) hP hD hS moW_adr rfl (fun H locs hP9 hD9 hS9 => ?_)
        replace hP : va_P D vwCl (moW cA a ((f_X3_holds M 0).2) N h) H := hP9
        replace hD : va_D _ (moW cA a ((f_X3_holds M 0).2) N h) := hD9
        replace hS := hS9
        clear hP9 hD9 hS9
        obtain ⟨M_4, eM_4⟩ : ∃ z9 : BK, z9 = (f_X3_holds M 0).2 := ⟨_, rfl⟩
        rw [← eM_4] at hP hD
        refine z_top (y := 1) (by simp only [f_X3_holds]; rfl) ?_
        refine lv_if_ne (tgt := 45) hx hb dX3_set_40 (by decide) (fun c_5 => ?_) (fun c_5 => ?_)
        · refine lv_aload_n hx hb dX3_set_45 rfl (lv_at hl 0 rfl) ?_
          refine z_M (X := ([] : va_W)) (Z := ([] : va_W)) (va_runV (As := []) (rest := []) ⟨hx, hb, hml, hown, hts⟩ (zc_X3_save l D cA a M_4 N h (by exact (show (N 0) ≤ 6 by omega))) (cwV 0 hts gX3_set_X3_save rfl rfl rfl zy_X3_save ⟨Nat.le_of_ble_eq_true rfl, Nat.le_of_ble_eq_true rfl⟩) (z_preV (ci := 3) hK hP hD rfl rfl) rfl rfl hl.1 rfl (lv_room (Nat.le_of_ble_eq_true rfl)) dX3_set_46 ⟨Nat.zero_le _, Nat.zero_le _⟩) hP hD hS moW_adr rfl (fun H locs hP9 hD9 hS9 => ?_)
          replace hP : va_P D vwCl (moW cA a ((f_X3_save M_4 N).1) ((f_X3_save M_4 N).2) h) H := hP9
          replace hD : va_D _ (moW cA a ((f_X3_save M_4 N).1) ((f_X3_save M_4 N).2) h) := hD9
          replace hS := hS9
          clear hP9 hD9 hS9
          obtain ⟨M_6, eM_6⟩ : ∃ z9 : BK, z9 = (f_X3_save M_4 N).1 := ⟨_, rfl⟩
          rw [← eM_6] at hP hD
          obtain ⟨N_7, eN_7⟩ : ∃ z9 : Nat → Nat, z9 = (f_X3_save M_4 N).2 := ⟨_, rfl⟩
          rw [← eN_7] at hP hD
          have hlN_7 : N_7 1 = (N 1) ∧ N_7 2 = (N 2) ∧ N_7 0 ≤ 6 := by rw [eN_7]; exact (zn_X3_save M_4 N (by first | assumption | omega))
          refine lv_aload_n hx hb dX3_set_49 rfl (lv_at hl 0 rfl) ?_
          refine va_get (D := D) (ci := 3) (v := .ref (a 1)) (C := RX3) (T := TX3) (N := 14) hx hb hts hi3 hown hK hP 0 rfl rfl 1 (by decide) (hts (.fieldLink RX3 7 "PledgedLoansModel" "s" "[I") (List.mem_of_getElem? (i := 1) rfl)) (fun _ h9 => h9) rfl dX3_set_50 ?_
          refine lv_bipush (v := 8) hx hb dX3_set_53 (by decide) ?_
          refine lv_iload_n hx hb dX3_set_55 rfl (lv_at hl 1 rfl) ?_
          refine lv_iadd hx hb dX3_set_56 ?_
          refine z_top (nI_add 8 s1) ?_
          refine z_iald (j := 8 + s1) hx hb hK hP 1 0 rfl rfl dX3_set_57 (by omega) (by decide) ?_
          refine lv_istore_n (lv' := [(3, .int (M_6 0 (8 + s1))), (0, .ref (a 0)), (1, .int (nI s1)), (2, .int i2)]) hx hb dX3_set_58 rfl hl (by decide) rfl (fun ls hl => ?_)
          refine lv_aload_n hx hb dX3_set_59 rfl (lv_at hl 1 rfl) ?_
          refine va_get (D := D) (ci := 3) (v := .ref (a 1)) (C := RX3) (T := TX3) (N := 14) hx hb hts hi3 hown hK hP 0 rfl rfl 1 (by decide) (hts (.fieldLink RX3 7 "PledgedLoansModel" "s" "[I") (List.mem_of_getElem? (i := 1) rfl)) (fun _ h9 => h9) rfl dX3_set_60 ?_
          refine lv_bipush (v := 8) hx hb dX3_set_63 (by decide) ?_
          refine lv_iload_n hx hb dX3_set_65 rfl (lv_at hl 2 rfl) ?_
          refine lv_iadd hx hb dX3_set_66 ?_
          refine z_top (nI_add 8 s1) ?_
          refine lv_iload_n hx hb dX3_set_67 rfl (lv_at hl 3 rfl) ?_
          refine z_iast (j := 8 + s1) hx hb hK hP hD hS 1 0 rfl rfl dX3_set_68 (by omega) (by decide) (moW cA a (uB M_6 0 (8 + s1) i2) N_7 h) rfl (fun H locs hP9 hD9 hS9 => ?_)
          replace hP : va_P D vwCl (moW cA a (uB M_6 0 (8 + s1) i2) N_7 h) H := hP9
          replace hD : va_D _ (moW cA a (uB M_6 0 (8 + s1) i2) N_7 h) := hD9
          replace hS := hS9
          clear hP9 hD9 hS9
          refine lv_iload_n hx hb dX3_set_69 rfl (lv_at hl 0 rfl) ?_
          exact z_iretM (w1 := moW cA a (uB M_6 0 (8 + s1) i2) N_7 h) hx hb hr hlocks dX3_set_70 hP hS (by subst eN_7 eM_6 eM_4; simp only [f_X3_set, if_neg c_1, if_neg c_2, if_neg c_3, hcl_s1]) (by subst eN_7 eM_6 eM_4; simp only [f_X3_set, if_neg c_1, if_neg c_2, if_neg c_3, hcl_s1])
        · exact absurd c_5 (by decide)
      · refine lv_iconst (v := 2) hx hb dX3_set_32 (by decide) ?_
        refine lv_goto (tgt := 37) hx hb dX3_set_33 (by decide) ?_
        refine z_M (X := ([] : va_W)) (Z := ([] : va_W)) (va_runV (As := [.int 2]) (rest := []) ⟨hx, hb, hml, hown, hts⟩ (zc_X3_holds l D cA a M N h 2) (cwV 1 hts gX3_set_X3_holds rfl rfl rfl zy_X3_holds ⟨Nat.le_of_ble_eq_true rfl, Nat.le_of_ble_eq_true rfl⟩) (z_preV (ci := 3) hK hP hD rfl rfl) rfl rfl hl.1 rfl (lv_room (Nat.le_of_ble_eq_true rfl)) dX3_set_37 ⟨Nat.zero_le _, Nat.zero_le _⟩) hP hD hS moW_adr rfl (fun H locs hP9 hD9 hS9 => ?_)
        replace hP : va_P D vwCl (moW cA a ((f_X3_holds M 2).2) N h) H := hP9
        replace hD : va_D _ (moW cA a ((f_X3_holds M 2).2) N h) := hD9
        replace hS := hS9
        clear hP9 hD9 hS9
        obtain ⟨M_8, eM_8⟩ : ∃ z9 : BK, z9 = (f_X3_holds M 2).2 := ⟨_, rfl⟩
        rw [← eM_8] at hP hD
        refine z_top (y := 0) (by simp only [f_X3_holds]; rfl) ?_
        refine lv_if_ne (tgt := 45) hx hb dX3_set_40 (by decide) (fun c_9 => ?_) (fun c_9 => ?_)
        · exact absurd c_9 (by decide)
        · refine lv_iconst (v := 0) hx hb dX3_set_43 (by decide) ?_
          exact z_iretM (w1 := moW cA a M_8 N h) hx hb hr hlocks dX3_set_44 hP hS (by subst eM_8; simp only [f_X3_set, if_neg c_1, if_neg c_2, if_pos c_3, hcl_s1]) (by subst eM_8; simp only [f_X3_set, if_neg c_1, if_neg c_2, if_pos c_3, hcl_s1])
    · have c_2 : s1 = 0 := (nI_eq (a := s1) (b := 0) (by omega) (by omega)).mp c_2
      refine lv_bipush (v := 100) hx hb dX3_set_20 (by decide) ?_
      refine lv_goto (tgt := 26) hx hb dX3_set_22 (by decide) ?_
      refine z_E (va_runS (As := [.int i2, .int (nI s1), .int 100]) (rest := [.ref (a 0)]) ⟨hx, hb, hml, hown, hts⟩ (zc_X3_in l D cA i2 (nI s1) 100) (va_cwS 3 hts gX3_set_X3_in rfl rfl rfl zy_X3_in.2 ⟨Nat.le_of_ble_eq_true rfl, Nat.le_of_ble_eq_true rfl⟩) (z_preS hK z_P0 (z_D0 (A := fun _ => True))) rfl rfl hl.1 rfl (lv_room (Nat.le_of_ble_eq_true rfl)) dX3_set_26 ⟨Nat.zero_le _, Nat.zero_le _⟩) rfl ?_
      refine lv_if_ne (tgt := 36) hx hb dX3_set_29 (by decide) (fun c_10 => ?_) (fun c_10 => ?_)
      · refine lv_iconst (v := 0) hx hb dX3_set_36 (by decide) ?_
        refine z_M (X := ([] : va_W)) (Z := ([] : va_W)) (va_runV (As := [.int 0]) (rest := []) ⟨hx, hb, hml, hown, hts⟩ (zc_X3_holds l D cA a M N h 0) (cwV 1 hts gX3_set_X3_holds rfl rfl rfl zy_X3_holds ⟨Nat.le_of_ble_eq_true rfl, Nat.le_of_ble_eq_true rfl⟩) (z_preV (ci := 3) hK hP hD rfl rfl) rfl rfl hl.1 rfl (lv_room (Nat.le_of_ble_eq_true rfl)) dX3_set_37 ⟨Nat.zero_le _, Nat.zero_le _⟩) hP hD hS moW_adr rfl (fun H locs hP9 hD9 hS9 => ?_)
        replace hP : va_P D vwCl (moW cA a ((f_X3_holds M 0).2) N h) H := hP9
        replace hD : va_D _ (moW cA a ((f_X3_holds M 0).2) N h) := hD9
        replace hS := hS9
        clear hP9 hD9 hS9
        obtain ⟨M_11, eM_11⟩ : ∃ z9 : BK, z9 = (f_X3_holds M 0).2 := ⟨_, rfl⟩
        rw [← eM_11] at hP hD
        refine z_top (y := 1) (by simp only [f_X3_holds]; rfl) ?_
        refine lv_if_ne (tgt := 45) hx hb dX3_set_40 (by decide) (fun c_12 => ?_) (fun c_12 => ?_)
        · refine lv_aload_n hx hb dX3_set_45 rfl (lv_at hl 0 rfl) ?_
          refine z_M (X := ([] : va_W)) (Z := ([] : va_W)) (va_runV (As := []) (rest := []) ⟨hx, hb, hml, hown, hts⟩ (zc_X3_save l D cA a M_11 N h (by exact (show (N 0) ≤ 6 by omega))) (cwV 0 hts gX3_set_X3_save rfl rfl rfl zy_X3_save ⟨Nat.le_of_ble_eq_true rfl, Nat.le_of_ble_eq_true rfl⟩) (z_preV (ci := 3) hK hP hD rfl rfl) rfl rfl hl.1 rfl (lv_room (Nat.le_of_ble_eq_true rfl)) dX3_set_46 ⟨Nat.zero_le _, Nat.zero_le _⟩) hP hD hS moW_adr rfl (fun H locs hP9 hD9 hS9 => ?_)
          replace hP : va_P D vwCl (moW cA a ((f_X3_save M_11 N).1) ((f_X3_save M_11 N).2) h) H := hP9
          replace hD : va_D _ (moW cA a ((f_X3_save M_11 N).1) ((f_X3_save M_11 N).2) h) := hD9
          replace hS := hS9
          clear hP9 hD9 hS9
          obtain ⟨M_13, eM_13⟩ : ∃ z9 : BK, z9 = (f_X3_save M_11 N).1 := ⟨_, rfl⟩
          rw [← eM_13] at hP hD
          obtain ⟨N_14, eN_14⟩ : ∃ z9 : Nat → Nat, z9 = (f_X3_save M_11 N).2 := ⟨_, rfl⟩
          rw [← eN_14] at hP hD
          have hlN_14 : N_14 1 = (N 1) ∧ N_14 2 = (N 2) ∧ N_14 0 ≤ 6 := by rw [eN_14]; exact (zn_X3_save M_11 N (by first | assumption | omega))
          refine lv_aload_n hx hb dX3_set_49 rfl (lv_at hl 0 rfl) ?_
          refine va_get (D := D) (ci := 3) (v := .ref (a 1)) (C := RX3) (T := TX3) (N := 14) hx hb hts hi3 hown hK hP 0 rfl rfl 1 (by decide) (hts (.fieldLink RX3 7 "PledgedLoansModel" "s" "[I") (List.mem_of_getElem? (i := 1) rfl)) (fun _ h9 => h9) rfl dX3_set_50 ?_
          refine lv_bipush (v := 8) hx hb dX3_set_53 (by decide) ?_
          refine lv_iload_n hx hb dX3_set_55 rfl (lv_at hl 1 rfl) ?_
          refine lv_iadd hx hb dX3_set_56 ?_
          refine z_top (nI_add 8 s1) ?_
          refine z_iald (j := 8 + s1) hx hb hK hP 1 0 rfl rfl dX3_set_57 (by omega) (by decide) ?_
          refine lv_istore_n (lv' := [(3, .int (M_13 0 (8 + s1))), (0, .ref (a 0)), (1, .int (nI s1)), (2, .int i2)]) hx hb dX3_set_58 rfl hl (by decide) rfl (fun ls hl => ?_)
          refine lv_aload_n hx hb dX3_set_59 rfl (lv_at hl 1 rfl) ?_
          refine va_get (D := D) (ci := 3) (v := .ref (a 1)) (C := RX3) (T := TX3) (N := 14) hx hb hts hi3 hown hK hP 0 rfl rfl 1 (by decide) (hts (.fieldLink RX3 7 "PledgedLoansModel" "s" "[I") (List.mem_of_getElem? (i := 1) rfl)) (fun _ h9 => h9) rfl dX3_set_60 ?_
          refine lv_bipush (v := 8) hx hb dX3_set_63 (by decide) ?_
          refine lv_iload_n hx hb dX3_set_65 rfl (lv_at hl 2 rfl) ?_
          refine lv_iadd hx hb dX3_set_66 ?_
          refine z_top (nI_add 8 s1) ?_
          refine lv_iload_n hx hb dX3_set_67 rfl (lv_at hl 3 rfl) ?_
          refine z_iast (j := 8 + s1) hx hb hK hP hD hS 1 0 rfl rfl dX3_set_68 (by omega) (by decide) (moW cA a (uB M_13 0 (8 + s1) i2) N_14 h) rfl (fun H locs hP9 hD9 hS9 => ?_)
          replace hP : va_P D vwCl (moW cA a (uB M_13 0 (8 + s1) i2) N_14 h) H := hP9
          replace hD : va_D _ (moW cA a (uB M_13 0 (8 + s1) i2) N_14 h) := hD9
          replace hS := hS9
          clear hP9 hD9 hS9
          refine lv_iload_n hx hb dX3_set_69 rfl (lv_at hl 0 rfl) ?_
          exact z_iretM (w1 := moW cA a (uB M_13 0 (8 + s1) i2) N_14 h) hx hb hr hlocks dX3_set_70 hP hS (by subst eN_14 eM_13 eM_11; simp only [f_X3_set, if_neg c_1, if_pos c_2, if_neg c_10, hcl_s1]) (by subst eN_14 eM_13 eM_11; simp only [f_X3_set, if_neg c_1, if_pos c_2, if_neg c_10, hcl_s1])
        · exact absurd c_12 (by decide)
      · refine lv_iconst (v := 2) hx hb dX3_set_32 (by decide) ?_
        refine lv_goto (tgt := 37) hx hb dX3_set_33 (by decide) ?_
        refine z_M (X := ([] : va_W)) (Z := ([] : va_W)) (va_runV (As := [.int 2]) (rest := []) ⟨hx, hb, hml, hown, hts⟩ (zc_X3_holds l D cA a M N h 2) (cwV 1 hts gX3_set_X3_holds rfl rfl rfl zy_X3_holds ⟨Nat.le_of_ble_eq_true rfl, Nat.le_of_ble_eq_true rfl⟩) (z_preV (ci := 3) hK hP hD rfl rfl) rfl rfl hl.1 rfl (lv_room (Nat.le_of_ble_eq_true rfl)) dX3_set_37 ⟨Nat.zero_le _, Nat.zero_le _⟩) hP hD hS moW_adr rfl (fun H locs hP9 hD9 hS9 => ?_)
        replace hP : va_P D vwCl (moW cA a ((f_X3_holds M 2).2) N h) H := hP9
        replace hD : va_D _ (moW cA a ((f_X3_holds M 2).2) N h) := hD9
        replace hS := hS9
        clear hP9 hD9 hS9
        obtain ⟨M_15, eM_15⟩ : ∃ z9 : BK, z9 = (f_X3_holds M 2).2 := ⟨_, rfl⟩
        rw [← eM_15] at hP hD
        refine z_top (y := 0) (by simp only [f_X3_holds]; rfl) ?_
        refine lv_if_ne (tgt := 45) hx hb dX3_set_40 (by decide) (fun c_16 => ?_) (fun c_16 => ?_)
        · exact absurd c_16 (by decide)
        · refine lv_iconst (v := 0) hx hb dX3_set_43 (by decide) ?_
          exact z_iretM (w1 := moW cA a M_15 N h) hx hb hr hlocks dX3_set_44 hP hS (by subst eM_15; simp only [f_X3_set, if_neg c_1, if_pos c_2, if_pos c_10, hcl_s1]) (by subst eM_15; simp only [f_X3_set, if_neg c_1, if_pos c_2, if_pos c_10, hcl_s1])
  · refine lv_iconst (v := 1) hx hb dX3_set_10 (by decide) ?_
    refine lv_goto (tgt := 37) hx hb dX3_set_11 (by decide) ?_
    refine z_M (X := ([] : va_W)) (Z := ([] : va_W)) (va_runV (As := [.int 1]) (rest := []) ⟨hx, hb, hml, hown, hts⟩ (zc_X3_holds l D cA a M N h 1) (cwV 1 hts gX3_set_X3_holds rfl rfl rfl zy_X3_holds ⟨Nat.le_of_ble_eq_true rfl, Nat.le_of_ble_eq_true rfl⟩) (z_preV (ci := 3) hK hP hD rfl rfl) rfl rfl hl.1 rfl (lv_room (Nat.le_of_ble_eq_true rfl)) dX3_set_37 ⟨Nat.zero_le _, Nat.zero_le _⟩) hP hD hS moW_adr rfl (fun H locs hP9 hD9 hS9 => ?_)
    replace hP : va_P D vwCl (moW cA a ((f_X3_holds M 1).2) N h) H := hP9
    replace hD : va_D _ (moW cA a ((f_X3_holds M 1).2) N h) := hD9
    replace hS := hS9
    clear hP9 hD9 hS9
    obtain ⟨M_17, eM_17⟩ : ∃ z9 : BK, z9 = (f_X3_holds M 1).2 := ⟨_, rfl⟩
    rw [← eM_17] at hP hD
    refine z_top (y := 0) (by simp only [f_X3_holds]; rfl) ?_
    refine lv_if_ne (tgt := 45) hx hb dX3_set_40 (by decide) (fun c_18 => ?_) (fun c_18 => ?_)
    · exact absurd c_18 (by decide)
    · refine lv_iconst (v := 0) hx hb dX3_set_43 (by decide) ?_
      exact z_iretM (w1 := moW cA a M_17 N h) hx hb hr hlocks dX3_set_44 hP hS (by subst eM_17; simp only [f_X3_set, if_pos c_1]) (by subst eM_17; simp only [f_X3_set, if_pos c_1])

theorem zy_X3_append : yX3_append.cls = RX3 ∧ yX3_append.cls ≠ "java/lang/invoke/MethodHandle" ∧ yX3_append.cls ≠ "java/lang/invoke/VarHandle" ∧ (parseMethodDescriptor yX3_append.desc).map (fun d => d.parameters.length) = some 1 := by decide +kernel
def f_X3_append (M : BK) (N : Nat → Nat) (i1 : Int32) : Int32 × BK × (Nat → Nat) :=
  if (f_X3_in i1 33 126) = 0 then
    let M_8 : BK := (f_X3_holds M 1).2
    (0, M_8, N)
  else
    if (N 1) = 60 then
      let M_6 : BK := (f_X3_holds M 2).2
      (0, M_6, N)
    else
      let M_3 : BK := (f_X3_holds M 0).2
      (nI ((N 1) + 1), uB M_3 2 (N 1) i1, va_up N 1 ((N 1) + 1))

set_option maxHeartbeats 4000000 in
set_option maxRecDepth 100000 in
theorem zc_X3_append (l : Launch) (D : va_G) (cA : Nat → ClassId) (a : Nat → Nat) (M : BK) (N : Nat → Nat) (h : Int64) (i1 : Int32) (hlen : N 1 ≤ 60) : Met l yX3_append wsX3_append (zrm 1 22) (zPc D cA [.ref (a 0), .int i1] (moW cA a M N h)) (zM D (moW cA a M N h) (moW cA a ((f_X3_append M N i1).2.1) ((f_X3_append M N i1).2.2) h) (some (.int ((f_X3_append M N i1).1)))) 0 0 (zfr (moW cA a M N h)) := by
  refine Met.ofW (cc := cX3_append) (maxL := 2) (ret := (some .int)) (by decide) rfl ?_
  intro p e s m args below meth c s₁ Bd hml hv
  obtain ⟨rfl, hP, hK, hD0⟩ := hv
  have hx := Bd.exec
  have hb := Bd.bytes
  have hr := Bd.returns
  have hts := atoms_spec (ws := wsX3_append) Bd.pre
  have hown : s.vm.findClass RX3 = some m.cls := findClass_of_methodNamed Bd.named
  have hlocks := Bd.notSynchronized
  have hD := z_Dfr hD0
  have hS : va_S (zfr (moW cA a M N h)) s.heap s.heap [] := va_S.rf
  have hi3 : ∀ w ∈ wsX30, w ∈ wsX3_append := fun w h => List.mem_cons_of_mem _ (List.mem_append_right _ h)
  have hl := lv_entry ([.ref (a 0), .int i1]) (n := 2) (Nat.le_of_ble_eq_true rfl)
  rw [lg_entry_eq]
  generalize (lg_sl ([.ref (a 0), .int i1]) ++ List.replicate (2 - (lg_sl ([.ref (a 0), .int i1])).length) Slot.unset).toArray = ls at hl ⊢
  have hl : lv_has ls 2 [(0, .ref (a 0)), (1, .int i1)] := hl
  refine lv_aload_n hx hb dX3_append_0 rfl (lv_at hl 0 rfl) ?_
  refine lv_iload_n hx hb dX3_append_1 rfl (lv_at hl 1 rfl) ?_
  refine lv_bipush (v := 33) hx hb dX3_append_2 (by decide) ?_
  refine lv_bipush (v := 126) hx hb dX3_append_4 (by decide) ?_
  refine z_E (va_runS (As := [.int i1, .int 33, .int 126]) (rest := [.ref (a 0)]) ⟨hx, hb, hml, hown, hts⟩ (zc_X3_in l D cA i1 33 126) (va_cwS 3 hts gX3_append_X3_in rfl rfl rfl zy_X3_in.2 ⟨Nat.le_of_ble_eq_true rfl, Nat.le_of_ble_eq_true rfl⟩) (z_preS hK z_P0 (z_D0 (A := fun _ => True))) rfl rfl hl.1 rfl (lv_room (Nat.le_of_ble_eq_true rfl)) dX3_append_6 ⟨Nat.zero_le _, Nat.zero_le _⟩) rfl ?_
  refine lv_if_ne (tgt := 16) hx hb dX3_append_9 (by decide) (fun c_1 => ?_) (fun c_1 => ?_)
  · refine lv_aload_n hx hb dX3_append_16 rfl (lv_at hl 0 rfl) ?_
    refine va_get (D := D) (ci := 3) (v := .int (nI (N 1))) (C := RX3) (T := TX3) (N := 14) hx hb hts hi3 hown hK hP 0 rfl rfl 5 (by decide) (hts (.fieldLink RX3 134 "PledgedLoansModel" "length" "I") (List.mem_of_getElem? (i := 1) rfl)) (fun _ h9 => h9) rfl dX3_append_17 ?_
    refine lv_bipush (v := 60) hx hb dX3_append_20 (by decide) ?_
    refine lv_icmp_ne (tgt := 29) hx hb dX3_append_22 (by decide) (fun c_2 => ?_) (fun c_2 => ?_)
    · have c_2 : ¬ (N 1) = 60 := fun h9 => c_2 ((nI_eq (a := (N 1)) (b := 60) (by omega) (by omega)).mpr h9)
      refine lv_iconst (v := 0) hx hb dX3_append_29 (by decide) ?_
      refine z_M (X := ([] : va_W)) (Z := ([] : va_W)) (va_runV (As := [.int 0]) (rest := []) ⟨hx, hb, hml, hown, hts⟩ (zc_X3_holds l D cA a M N h 0) (cwV 1 hts gX3_append_X3_holds rfl rfl rfl zy_X3_holds ⟨Nat.le_of_ble_eq_true rfl, Nat.le_of_ble_eq_true rfl⟩) (z_preV (ci := 3) hK hP hD rfl rfl) rfl rfl hl.1 rfl (lv_room (Nat.le_of_ble_eq_true rfl)) dX3_append_30 ⟨Nat.zero_le _, Nat.zero_le _⟩) hP hD hS moW_adr rfl (fun H locs hP9 hD9 hS9 => ?_)
      replace hP : va_P D vwCl (moW cA a ((f_X3_holds M 0).2) N h) H := hP9
      replace hD : va_D _ (moW cA a ((f_X3_holds M 0).2) N h) := hD9
      replace hS := hS9
      clear hP9 hD9 hS9
      obtain ⟨M_3, eM_3⟩ : ∃ z9 : BK, z9 = (f_X3_holds M 0).2 := ⟨_, rfl⟩
      rw [← eM_3] at hP hD
      refine z_top (y := 1) (by simp only [f_X3_holds]; rfl) ?_
      refine lv_if_ne (tgt := 38) hx hb dX3_append_33 (by decide) (fun c_4 => ?_) (fun c_4 => ?_)
      · refine lv_aload_n hx hb dX3_append_38 rfl (lv_at hl 0 rfl) ?_
        refine va_get (D := D) (ci := 3) (v := .ref (a 3)) (C := RX3) (T := TX3) (N := 14) hx hb hts hi3 hown hK hP 0 rfl rfl 4 (by decide) (hts (.fieldLink RX3 17 "PledgedLoansModel" "text" "[I") (List.mem_of_getElem? (i := 2) rfl)) (fun _ h9 => h9) rfl dX3_append_39 ?_
        refine lv_aload_n hx hb dX3_append_42 rfl (lv_at hl 0 rfl) ?_
        refine va_get (D := D) (ci := 3) (v := .int (nI (N 1))) (C := RX3) (T := TX3) (N := 14) hx hb hts hi3 hown hK hP 0 rfl rfl 5 (by decide) (hts (.fieldLink RX3 134 "PledgedLoansModel" "length" "I") (List.mem_of_getElem? (i := 1) rfl)) (fun _ h9 => h9) rfl dX3_append_43 ?_
        refine lv_iload_n hx hb dX3_append_46 rfl (lv_at hl 1 rfl) ?_
        refine z_iast (j := N 1) hx hb hK hP hD hS 3 0 rfl rfl dX3_append_47 (by omega) (by decide) (moW cA a (uB M_3 2 (N 1) i1) N h) rfl (fun H locs hP9 hD9 hS9 => ?_)
        replace hP : va_P D vwCl (moW cA a (uB M_3 2 (N 1) i1) N h) H := hP9
        replace hD : va_D _ (moW cA a (uB M_3 2 (N 1) i1) N h) := hD9
        replace hS := hS9
        clear hP9 hD9 hS9
        refine lv_aload_n hx hb dX3_append_48 rfl (lv_at hl 0 rfl) ?_
        refine lv_dup hx hb dX3_append_49 rfl ?_
        refine va_get (D := D) (ci := 3) (v := .int (nI (N 1))) (C := RX3) (T := TX3) (N := 14) hx hb hts hi3 hown hK hP 0 rfl rfl 5 (by decide) (hts (.fieldLink RX3 134 "PledgedLoansModel" "length" "I") (List.mem_of_getElem? (i := 1) rfl)) (fun _ h9 => h9) rfl dX3_append_50 ?_
        refine lv_iconst (v := 1) hx hb dX3_append_53 (by decide) ?_
        refine lv_iadd hx hb dX3_append_54 ?_
        refine z_top (nI_add (N 1) 1) ?_
        refine va_put (D := D) (ci := 3) (v := .int (nI ((N 1) + 1))) (ty := .int) (C := RX3) (T := TX3) (N := 14) hx hb hts hi3 tyX3 tyX3_ok nmX3 hown hK hP hD hS 0 rfl rfl 5 (by decide) (hts (.fieldLink RX3 134 "PledgedLoansModel" "length" "I") (List.mem_of_getElem? (i := 1) rfl)) (fun _ h9 => h9) rfl (by decide +kernel) rfl rfl (Nat.le_of_ble_eq_true rfl) dX3_append_55 (fun H locs hP9 hD9 hS9 => ?_)
        replace hP : va_P D vwCl (moW cA a (uB M_3 2 (N 1) i1) (va_up N 1 ((N 1) + 1)) h) H := hP9
        replace hD : va_D _ (moW cA a (uB M_3 2 (N 1) i1) (va_up N 1 ((N 1) + 1)) h) := hD9
        replace hS := hS9
        clear hP9 hD9 hS9
        refine lv_aload_n hx hb dX3_append_58 rfl (lv_at hl 0 rfl) ?_
        refine va_get (D := D) (ci := 3) (v := .int (nI ((va_up N 1 ((N 1) + 1)) 1))) (C := RX3) (T := TX3) (N := 14) hx hb hts hi3 hown hK hP 0 rfl rfl 5 (by decide) (hts (.fieldLink RX3 134 "PledgedLoansModel" "length" "I") (List.mem_of_getElem? (i := 1) rfl)) (fun _ h9 => h9) rfl dX3_append_59 ?_
        refine z_top (y := nI ((N 1) + 1)) rfl ?_
        exact z_iretM (w1 := moW cA a (uB M_3 2 (N 1) i1) (va_up N 1 ((N 1) + 1)) h) hx hb hr hlocks dX3_append_62 hP hS (by subst eM_3; simp only [f_X3_append, if_neg c_1, if_neg c_2]) (by subst eM_3; simp only [f_X3_append, if_neg c_1, if_neg c_2])
      · exact absurd c_4 (by decide)
    · have c_2 : (N 1) = 60 := (nI_eq (a := (N 1)) (b := 60) (by omega) (by omega)).mp c_2
      refine lv_iconst (v := 2) hx hb dX3_append_25 (by decide) ?_
      refine lv_goto (tgt := 30) hx hb dX3_append_26 (by decide) ?_
      refine z_M (X := ([] : va_W)) (Z := ([] : va_W)) (va_runV (As := [.int 2]) (rest := []) ⟨hx, hb, hml, hown, hts⟩ (zc_X3_holds l D cA a M N h 2) (cwV 1 hts gX3_append_X3_holds rfl rfl rfl zy_X3_holds ⟨Nat.le_of_ble_eq_true rfl, Nat.le_of_ble_eq_true rfl⟩) (z_preV (ci := 3) hK hP hD rfl rfl) rfl rfl hl.1 rfl (lv_room (Nat.le_of_ble_eq_true rfl)) dX3_append_30 ⟨Nat.zero_le _, Nat.zero_le _⟩) hP hD hS moW_adr rfl (fun H locs hP9 hD9 hS9 => ?_)
      replace hP : va_P D vwCl (moW cA a ((f_X3_holds M 2).2) N h) H := hP9
      replace hD : va_D _ (moW cA a ((f_X3_holds M 2).2) N h) := hD9
      replace hS := hS9
      clear hP9 hD9 hS9
      obtain ⟨M_6, eM_6⟩ : ∃ z9 : BK, z9 = (f_X3_holds M 2).2 := ⟨_, rfl⟩
      rw [← eM_6] at hP hD
      refine z_top (y := 0) (by simp only [f_X3_holds]; rfl) ?_
      refine lv_if_ne (tgt := 38) hx hb dX3_append_33 (by decide) (fun c_7 => ?_) (fun c_7 => ?_)
      · exact absurd c_7 (by decide)
      · refine lv_iconst (v := 0) hx hb dX3_append_36 (by decide) ?_
        exact z_iretM (w1 := moW cA a M_6 N h) hx hb hr hlocks dX3_append_37 hP hS (by subst eM_6; simp only [f_X3_append, if_neg c_1, if_pos c_2]) (by subst eM_6; simp only [f_X3_append, if_neg c_1, if_pos c_2])
  · refine lv_iconst (v := 1) hx hb dX3_append_12 (by decide) ?_
    refine lv_goto (tgt := 30) hx hb dX3_append_13 (by decide) ?_
    refine z_M (X := ([] : va_W)) (Z := ([] : va_W)) (va_runV (As := [.int 1]) (rest := []) ⟨hx, hb, hml, hown, hts⟩ (zc_X3_holds l D cA a M N h 1) (cwV 1 hts gX3_append_X3_holds rfl rfl rfl zy_X3_holds ⟨Nat.le_of_ble_eq_true rfl, Nat.le_of_ble_eq_true rfl⟩) (z_preV (ci := 3) hK hP hD rfl rfl) rfl rfl hl.1 rfl (lv_room (Nat.le_of_ble_eq_true rfl)) dX3_append_30 ⟨Nat.zero_le _, Nat.zero_le _⟩) hP hD hS moW_adr rfl (fun H locs hP9 hD9 hS9 => ?_)
    replace hP : va_P D vwCl (moW cA a ((f_X3_holds M 1).2) N h) H := hP9
    replace hD : va_D _ (moW cA a ((f_X3_holds M 1).2) N h) := hD9
    replace hS := hS9
    clear hP9 hD9 hS9
    obtain ⟨M_8, eM_8⟩ : ∃ z9 : BK, z9 = (f_X3_holds M 1).2 := ⟨_, rfl⟩
    rw [← eM_8] at hP hD
    refine z_top (y := 0) (by simp only [f_X3_holds]; rfl) ?_
    refine lv_if_ne (tgt := 38) hx hb dX3_append_33 (by decide) (fun c_9 => ?_) (fun c_9 => ?_)
    · exact absurd c_9 (by decide)
    · refine lv_iconst (v := 0) hx hb dX3_append_36 (by decide) ?_
      exact z_iretM (w1 := moW cA a M_8 N h) hx hb hr hlocks dX3_append_37 hP hS (by subst eM_8; simp only [f_X3_append, if_pos c_1]) (by subst eM_8; simp only [f_X3_append, if_pos c_1])

theorem zy_X3_clearBuffer : yX3_clearBuffer.cls = RX3 ∧ yX3_clearBuffer.cls ≠ "java/lang/invoke/MethodHandle" ∧ yX3_clearBuffer.cls ≠ "java/lang/invoke/VarHandle" ∧ (parseMethodDescriptor yX3_clearBuffer.desc).map (fun d => d.parameters.length) = some 0 := by decide +kernel
def f_X3_clearBuffer (M : BK) (N : Nat → Nat) : Int32 × BK × (Nat → Nat) :=
  (nI (N 1), uB M 4 0 0, va_up N 1 0)

set_option maxHeartbeats 4000000 in
set_option maxRecDepth 100000 in
theorem zc_X3_clearBuffer (l : Launch) (D : va_G) (cA : Nat → ClassId) (a : Nat → Nat) (M : BK) (N : Nat → Nat) (h : Int64)  : Met l yX3_clearBuffer wsX3_clearBuffer (zrm 0 0) (zPc D cA [.ref (a 0)] (moW cA a M N h)) (zM D (moW cA a M N h) (moW cA a ((f_X3_clearBuffer M N).2.1) ((f_X3_clearBuffer M N).2.2) h) (some (.int ((f_X3_clearBuffer M N).1)))) 0 0 (zfr (moW cA a M N h)) := by
  refine Met.ofW (cc := cX3_clearBuffer) (maxL := 2) (ret := (some .int)) (by decide) rfl ?_
  intro p e s m args below meth c s₁ Bd hml hv
  obtain ⟨rfl, hP, hK, hD0⟩ := hv
  have hx := Bd.exec
  have hb := Bd.bytes
  have hr := Bd.returns
  have hts := atoms_spec (ws := wsX3_clearBuffer) Bd.pre
  have hown : s.vm.findClass RX3 = some m.cls := findClass_of_methodNamed Bd.named
  have hlocks := Bd.notSynchronized
  have hD := z_Dfr hD0
  have hS : va_S (zfr (moW cA a M N h)) s.heap s.heap [] := va_S.rf
  have hi3 : ∀ w ∈ wsX30, w ∈ wsX3_clearBuffer := fun w h => List.mem_cons_of_mem _ (List.mem_append_right _ h)
  have hl := lv_entry ([.ref (a 0)]) (n := 2) (Nat.le_of_ble_eq_true rfl)
  rw [lg_entry_eq]
  generalize (lg_sl ([.ref (a 0)]) ++ List.replicate (2 - (lg_sl ([.ref (a 0)])).length) Slot.unset).toArray = ls at hl ⊢
  have hl : lv_has ls 2 [(0, .ref (a 0))] := hl
  refine lv_aload_n hx hb dX3_clearBuffer_0 rfl (lv_at hl 0 rfl) ?_
  refine lv_iconst (v := 0) hx hb dX3_clearBuffer_1 (by decide) ?_
  refine va_put (D := D) (ci := 3) (v := .int 0) (ty := .int) (C := RX3) (T := TX3) (N := 14) hx hb hts hi3 tyX3 tyX3_ok nmX3 hown hK hP hD hS 0 rfl rfl 0 (by decide) (hts (.fieldLink RX3 23 "PledgedLoansModel" "thrown" "I") (List.mem_of_getElem? (i := 1) rfl)) (fun _ h9 => h9) rfl (by decide +kernel) rfl rfl (Nat.le_of_ble_eq_true rfl) dX3_clearBuffer_2 (fun H locs hP9 hD9 hS9 => ?_)
  replace hP : va_P D vwCl (moW cA a (uB M 4 0 0) N h) H := hP9
  replace hD : va_D _ (moW cA a (uB M 4 0 0) N h) := hD9
  replace hS := hS9
  clear hP9 hD9 hS9
  refine lv_aload_n hx hb dX3_clearBuffer_5 rfl (lv_at hl 0 rfl) ?_
  refine va_get (D := D) (ci := 3) (v := .int (nI (N 1))) (C := RX3) (T := TX3) (N := 14) hx hb hts hi3 hown hK hP 0 rfl rfl 5 (by decide) (hts (.fieldLink RX3 134 "PledgedLoansModel" "length" "I") (List.mem_of_getElem? (i := 2) rfl)) (fun _ h9 => h9) rfl dX3_clearBuffer_6 ?_
  refine lv_istore_n (lv' := [(1, .int (nI (N 1))), (0, .ref (a 0))]) hx hb dX3_clearBuffer_9 rfl hl (by decide) rfl (fun ls hl => ?_)
  refine lv_aload_n hx hb dX3_clearBuffer_10 rfl (lv_at hl 1 rfl) ?_
  refine lv_iconst (v := 0) hx hb dX3_clearBuffer_11 (by decide) ?_
  refine va_put (D := D) (ci := 3) (v := .int 0) (ty := .int) (C := RX3) (T := TX3) (N := 14) hx hb hts hi3 tyX3 tyX3_ok nmX3 hown hK hP hD hS 0 rfl rfl 5 (by decide) (hts (.fieldLink RX3 134 "PledgedLoansModel" "length" "I") (List.mem_of_getElem? (i := 2) rfl)) (fun _ h9 => h9) rfl (by decide +kernel) rfl rfl (Nat.le_of_ble_eq_true rfl) dX3_clearBuffer_12 (fun H locs hP9 hD9 hS9 => ?_)
  replace hP : va_P D vwCl (moW cA a (uB M 4 0 0) (va_up N 1 0) h) H := hP9
  replace hD : va_D _ (moW cA a (uB M 4 0 0) (va_up N 1 0) h) := hD9
  replace hS := hS9
  clear hP9 hD9 hS9
  refine lv_iload_n hx hb dX3_clearBuffer_15 rfl (lv_at hl 0 rfl) ?_
  exact z_iretM (w1 := moW cA a (uB M 4 0 0) (va_up N 1 0) h) hx hb hr hlocks dX3_clearBuffer_16 hP hS (by first | (simp only [f_X3_clearBuffer]; done) | rfl) (by first | (simp only [f_X3_clearBuffer]; done) | rfl)

theorem zy_X3_sign : yX3_sign.cls = RX3 ∧ yX3_sign.cls ≠ "java/lang/invoke/MethodHandle" ∧ yX3_sign.cls ≠ "java/lang/invoke/VarHandle" ∧ (parseMethodDescriptor yX3_sign.desc).map (fun d => d.parameters.length) = some 0 := by decide +kernel
def f_X3_sign (M : BK) (N : Nat → Nat) : Int32 :=
  if (N 1) ≤ (N 2) then
    0
  else
    M 2 (N 2)

theorem zq_sign {M : BK} {N : Nat → Nat} {lo hi : Int32} (h : ¬ f_X3_in (f_X3_sign M N) lo hi = 0) (h0 : (0 : Int32) < lo) : N 2 < N 1 := by
  by_cases c : N 1 ≤ N 2
  · exfalso
    apply h
    have e : f_X3_sign M N = 0 := by simp only [f_X3_sign, if_pos c]
    rw [e]
    simp only [f_X3_in, if_pos h0]
  · omega
/-- the text's place goes on, or stays; its length stays -/
def zadv (N N' : Nat → Nat) : Prop := N' 1 = N 1 ∧ N' 0 = N 0 ∧ (N 2 ≤ N 1 → N 2 ≤ N' 2 ∧ N' 2 ≤ N 1)
theorem zadv.rf (N : Nat → Nat) : zadv N N := ⟨rfl, rfl, fun h => ⟨Nat.le_refl _, h⟩⟩
theorem zadv.tr {N N1 N2 : Nat → Nat} (h1 : zadv N N1) (h2 : zadv N1 N2) : zadv N N2 := by
  obtain ⟨a1, a2, a3⟩ := h1
  obtain ⟨b1, b2, b3⟩ := h2
  exact ⟨by omega, by omega, fun h => by omega⟩
theorem zadv.up {N : Nat → Nat} {v : Nat} (h : N 2 ≤ N 1 → N 2 ≤ v ∧ v ≤ N 1) : zadv N (va_up N 2 v) := ⟨rfl, rfl, h⟩

set_option maxHeartbeats 4000000 in
set_option maxRecDepth 100000 in
theorem zc_X3_sign (l : Launch) (D : va_G) (cA : Nat → ClassId) (a : Nat → Nat) (M : BK) (N : Nat → Nat) (h : Int64) (hlen : N 1 ≤ 60) (hat : N 2 ≤ N 1) : Met l yX3_sign wsX3_sign (zrm 0 0) (zPc D cA [.ref (a 0)] (moW cA a M N h)) (zE (some (.int (f_X3_sign M N)))) 0 0 (fun _ => False) := by
  refine Met.ofW (cc := cX3_sign) (maxL := 1) (ret := (some .int)) (by decide) rfl ?_
  intro p e s m args below meth c s₁ Bd hml hv
  obtain ⟨rfl, hP, hK, hD0⟩ := hv
  have hx := Bd.exec
  have hb := Bd.bytes
  have hr := Bd.returns
  have hts := atoms_spec (ws := wsX3_sign) Bd.pre
  have hown : s.vm.findClass RX3 = some m.cls := findClass_of_methodNamed Bd.named
  have hlocks := Bd.notSynchronized
  have hD := z_Dfr hD0
  have hS : va_S (zfr (moW cA a M N h)) s.heap s.heap [] := va_S.rf
  have hi3 : ∀ w ∈ wsX30, w ∈ wsX3_sign := fun w h => List.mem_cons_of_mem _ (List.mem_append_right _ h)
  have hl := lv_entry ([.ref (a 0)]) (n := 1) (Nat.le_of_ble_eq_true rfl)
  rw [lg_entry_eq]
  generalize (lg_sl ([.ref (a 0)]) ++ List.replicate (1 - (lg_sl ([.ref (a 0)])).length) Slot.unset).toArray = ls at hl ⊢
  have hl : lv_has ls 1 [(0, .ref (a 0))] := hl
  refine lv_aload_n hx hb dX3_sign_0 rfl (lv_at hl 0 rfl) ?_
  refine va_get (D := D) (ci := 3) (v := .int (nI (N 2))) (C := RX3) (T := TX3) (N := 14) hx hb hts hi3 hown hK hP 0 rfl rfl 6 (by decide) (hts (.fieldLink RX3 137 "PledgedLoansModel" "at" "I") (List.mem_of_getElem? (i := 1) rfl)) (fun _ h9 => h9) rfl dX3_sign_1 ?_
  refine lv_aload_n hx hb dX3_sign_4 rfl (lv_at hl 0 rfl) ?_
  refine va_get (D := D) (ci := 3) (v := .int (nI (N 1))) (C := RX3) (T := TX3) (N := 14) hx hb hts hi3 hown hK hP 0 rfl rfl 5 (by decide) (hts (.fieldLink RX3 134 "PledgedLoansModel" "length" "I") (List.mem_of_getElem? (i := 2) rfl)) (fun _ h9 => h9) rfl dX3_sign_5 ?_
  refine lv_icmp_ge (tgt := 23) hx hb dX3_sign_8 (by decide) (fun c_1 => ?_) (fun c_1 => ?_)
  · have c_1 : (N 1) ≤ (N 2) := (nI_leI (a := (N 1)) (b := (N 2)) (by omega) (by omega)).mp c_1
    refine lv_iconst (v := 0) hx hb dX3_sign_23 (by decide) ?_
    exact z_iretE hx hb hr hlocks dX3_sign_24 (by simp only [f_X3_sign, if_pos c_1])
  · have c_1 : ¬ (N 1) ≤ (N 2) := fun h9 => c_1 ((nI_leI (a := (N 1)) (b := (N 2)) (by omega) (by omega)).mpr h9)
    refine lv_aload_n hx hb dX3_sign_11 rfl (lv_at hl 0 rfl) ?_
    refine va_get (D := D) (ci := 3) (v := .ref (a 3)) (C := RX3) (T := TX3) (N := 14) hx hb hts hi3 hown hK hP 0 rfl rfl 4 (by decide) (hts (.fieldLink RX3 17 "PledgedLoansModel" "text" "[I") (List.mem_of_getElem? (i := 3) rfl)) (fun _ h9 => h9) rfl dX3_sign_12 ?_
    refine lv_aload_n hx hb dX3_sign_15 rfl (lv_at hl 0 rfl) ?_
    refine va_get (D := D) (ci := 3) (v := .int (nI (N 2))) (C := RX3) (T := TX3) (N := 14) hx hb hts hi3 hown hK hP 0 rfl rfl 6 (by decide) (hts (.fieldLink RX3 137 "PledgedLoansModel" "at" "I") (List.mem_of_getElem? (i := 1) rfl)) (fun _ h9 => h9) rfl dX3_sign_16 ?_
    refine z_iald (j := N 2) hx hb hK hP 3 0 rfl rfl dX3_sign_19 (by omega) (by decide) ?_
    refine lv_goto (tgt := 24) hx hb dX3_sign_20 (by decide) ?_
    exact z_iretE hx hb hr hlocks dX3_sign_24 (by simp only [f_X3_sign, if_neg c_1])

theorem zy_X3_takesSign : yX3_takesSign.cls = RX3 ∧ yX3_takesSign.cls ≠ "java/lang/invoke/MethodHandle" ∧ yX3_takesSign.cls ≠ "java/lang/invoke/VarHandle" ∧ (parseMethodDescriptor yX3_takesSign.desc).map (fun d => d.parameters.length) = some 1 := by decide +kernel
def f_X3_takesSign (M : BK) (N : Nat → Nat) (sg : Int32) : Int32 × (Nat → Nat) :=
  if (f_X3_sign M N) = sg then
    (1, va_up N 2 ((N 2) + 1))
  else
    (0, va_up N 2 ((N 2) + 0))

theorem zn_X3_takesSign (M : BK) (N : Nat → Nat) (sg : Int32) (hz : ¬ sg = 0) : zadv N (f_X3_takesSign M N sg).2 := by
  by_cases c : f_X3_sign M N = sg
  · have hlt : N 2 < N 1 := by
      by_cases c2 : N 1 ≤ N 2
      · exfalso
        apply hz
        rw [← c]
        simp only [f_X3_sign, if_pos c2]
      · omega
    simp only [f_X3_takesSign, if_pos c]
    exact zadv.up (fun h => by omega)
  · simp only [f_X3_takesSign, if_neg c]
    exact zadv.up (fun h => by omega)
theorem zn_took {M : BK} {N : Nat → Nat} {sg : Int32} (hz : ¬ sg = 0) (h : ¬ (f_X3_takesSign M N sg).1 = 0) : N 2 < N 1 ∧ (f_X3_takesSign M N sg).2 2 = N 2 + 1 := by
  by_cases c : f_X3_sign M N = sg
  · have hlt : N 2 < N 1 := by
      by_cases c2 : N 1 ≤ N 2
      · exfalso
        apply hz
        rw [← c]
        simp only [f_X3_sign, if_pos c2]
      · omega
    simp only [f_X3_takesSign, if_pos c]
    exact ⟨hlt, rfl⟩
  · simp only [f_X3_takesSign, if_neg c] at h
    exact absurd trivial h

theorem zb_X3_takesSign (M : BK) (N : Nat → Nat) (sg : Int32) : narrow .boolean (.int ((f_X3_takesSign M N sg).1)) = .int ((f_X3_takesSign M N sg).1) := by
  unfold f_X3_takesSign; repeat' split
  all_goals (first | rfl | (dsimp only; rfl))
set_option maxHeartbeats 4000000 in
set_option maxRecDepth 100000 in
theorem zc_X3_takesSign (l : Launch) (D : va_G) (cA : Nat → ClassId) (a : Nat → Nat) (M : BK) (N : Nat → Nat) (h : Int64) (sg : Int32) (hlen : N 1 ≤ 60) (hat : N 2 ≤ N 1) : Met l yX3_takesSign wsX3_takesSign (zrm 1 20) (zPc D cA [.ref (a 0), .int sg] (moW cA a M N h)) (zM D (moW cA a M N h) (moW cA a M ((f_X3_takesSign M N sg).2) h) (some (.int ((f_X3_takesSign M N sg).1)))) 0 0 (zfr (moW cA a M N h)) := by
  refine Met.ofW (cc := cX3_takesSign) (maxL := 3) (ret := (some .boolean)) (by decide) rfl ?_
  intro p e s m args below meth c s₁ Bd hml hv
  obtain ⟨rfl, hP, hK, hD0⟩ := hv
  have hx := Bd.exec
  have hb := Bd.bytes
  have hr := Bd.returns
  have hts := atoms_spec (ws := wsX3_takesSign) Bd.pre
  have hown : s.vm.findClass RX3 = some m.cls := findClass_of_methodNamed Bd.named
  have hlocks := Bd.notSynchronized
  have hD := z_Dfr hD0
  have hS : va_S (zfr (moW cA a M N h)) s.heap s.heap [] := va_S.rf
  have hi3 : ∀ w ∈ wsX30, w ∈ wsX3_takesSign := fun w h => List.mem_cons_of_mem _ (List.mem_append_right _ h)
  have hl := lv_entry ([.ref (a 0), .int sg]) (n := 3) (Nat.le_of_ble_eq_true rfl)
  rw [lg_entry_eq]
  generalize (lg_sl ([.ref (a 0), .int sg]) ++ List.replicate (3 - (lg_sl ([.ref (a 0), .int sg])).length) Slot.unset).toArray = ls at hl ⊢
  have hl : lv_has ls 3 [(0, .ref (a 0)), (1, .int sg)] := hl
  refine lv_aload_n hx hb dX3_takesSign_0 rfl (lv_at hl 0 rfl) ?_
  refine z_E (va_runV (As := []) (rest := []) ⟨hx, hb, hml, hown, hts⟩ (zc_X3_sign l D cA a M N h (by exact (show (N 1) ≤ 60 by omega)) (by exact (show (N 2) ≤ (N 1) by omega))) (cwV 0 hts gX3_takesSign_X3_sign rfl rfl rfl zy_X3_sign ⟨Nat.le_of_ble_eq_true rfl, Nat.le_of_ble_eq_true rfl⟩) (z_preV (ci := 3) hK hP hD rfl rfl) rfl rfl hl.1 rfl (lv_room (Nat.le_of_ble_eq_true rfl)) dX3_takesSign_1 ⟨Nat.zero_le _, Nat.zero_le _⟩) rfl ?_
  refine lv_iload_n hx hb dX3_takesSign_4 rfl (lv_at hl 1 rfl) ?_
  refine lv_icmp_ne (tgt := 12) hx hb dX3_takesSign_5 (by decide) (fun c_1 => ?_) (fun c_1 => ?_)
  · refine lv_iconst (v := 0) hx hb dX3_takesSign_12 (by decide) ?_
    refine lv_istore_n (lv' := [(2, .int 0), (0, .ref (a 0)), (1, .int sg)]) hx hb dX3_takesSign_13 rfl hl (by decide) rfl (fun ls hl => ?_)
    refine lv_aload_n hx hb dX3_takesSign_14 rfl (lv_at hl 1 rfl) ?_
    refine lv_dup hx hb dX3_takesSign_15 rfl ?_
    refine va_get (D := D) (ci := 3) (v := .int (nI (N 2))) (C := RX3) (T := TX3) (N := 14) hx hb hts hi3 hown hK hP 0 rfl rfl 6 (by decide) (hts (.fieldLink RX3 137 "PledgedLoansModel" "at" "I") (List.mem_of_getElem? (i := 1) rfl)) (fun _ h9 => h9) rfl dX3_takesSign_16 ?_
    refine lv_iload_n hx hb dX3_takesSign_19 rfl (lv_at hl 0 rfl) ?_
    refine lv_if_eq (tgt := 27) hx hb dX3_takesSign_20 (by decide) (fun c_2 => ?_) (fun c_2 => ?_)
    · refine lv_iconst (v := 0) hx hb dX3_takesSign_27 (by decide) ?_
      refine lv_iadd hx hb dX3_takesSign_28 ?_
      refine z_top (nI_add (N 2) 0) ?_
      refine va_put (D := D) (ci := 3) (v := .int (nI ((N 2) + 0))) (ty := .int) (C := RX3) (T := TX3) (N := 14) hx hb hts hi3 tyX3 tyX3_ok nmX3 hown hK hP hD hS 0 rfl rfl 6 (by decide) (hts (.fieldLink RX3 137 "PledgedLoansModel" "at" "I") (List.mem_of_getElem? (i := 1) rfl)) (fun _ h9 => h9) rfl (by decide +kernel) rfl rfl (Nat.le_of_ble_eq_true rfl) dX3_takesSign_29 (fun H locs hP9 hD9 hS9 => ?_)
      replace hP : va_P D vwCl (moW cA a M (va_up N 2 ((N 2) + 0)) h) H := hP9
      replace hD : va_D _ (moW cA a M (va_up N 2 ((N 2) + 0)) h) := hD9
      replace hS := hS9
      clear hP9 hD9 hS9
      refine lv_iload_n hx hb dX3_takesSign_32 rfl (lv_at hl 0 rfl) ?_
      exact z_zretM (w1 := moW cA a M (va_up N 2 ((N 2) + 0)) h) hx hb hr hlocks dX3_takesSign_33 hP hS rfl (by simp only [f_X3_takesSign, if_neg c_1]) (by simp only [f_X3_takesSign, if_neg c_1])
    · exact absurd c_2 (by decide)
  · refine lv_iconst (v := 1) hx hb dX3_takesSign_8 (by decide) ?_
    refine lv_goto (tgt := 13) hx hb dX3_takesSign_9 (by decide) ?_
    refine lv_istore_n (lv' := [(2, .int 1), (0, .ref (a 0)), (1, .int sg)]) hx hb dX3_takesSign_13 rfl hl (by decide) rfl (fun ls hl => ?_)
    refine lv_aload_n hx hb dX3_takesSign_14 rfl (lv_at hl 1 rfl) ?_
    refine lv_dup hx hb dX3_takesSign_15 rfl ?_
    refine va_get (D := D) (ci := 3) (v := .int (nI (N 2))) (C := RX3) (T := TX3) (N := 14) hx hb hts hi3 hown hK hP 0 rfl rfl 6 (by decide) (hts (.fieldLink RX3 137 "PledgedLoansModel" "at" "I") (List.mem_of_getElem? (i := 1) rfl)) (fun _ h9 => h9) rfl dX3_takesSign_16 ?_
    refine lv_iload_n hx hb dX3_takesSign_19 rfl (lv_at hl 0 rfl) ?_
    refine lv_if_eq (tgt := 27) hx hb dX3_takesSign_20 (by decide) (fun c_4 => ?_) (fun c_4 => ?_)
    · exact absurd c_4 (by decide)
    · refine lv_iconst (v := 1) hx hb dX3_takesSign_23 (by decide) ?_
      refine lv_goto (tgt := 28) hx hb dX3_takesSign_24 (by decide) ?_
      refine lv_iadd hx hb dX3_takesSign_28 ?_
      refine z_top (nI_add (N 2) 1) ?_
      refine va_put (D := D) (ci := 3) (v := .int (nI ((N 2) + 1))) (ty := .int) (C := RX3) (T := TX3) (N := 14) hx hb hts hi3 tyX3 tyX3_ok nmX3 hown hK hP hD hS 0 rfl rfl 6 (by decide) (hts (.fieldLink RX3 137 "PledgedLoansModel" "at" "I") (List.mem_of_getElem? (i := 1) rfl)) (fun _ h9 => h9) rfl (by decide +kernel) rfl rfl (Nat.le_of_ble_eq_true rfl) dX3_takesSign_29 (fun H locs hP9 hD9 hS9 => ?_)
      replace hP : va_P D vwCl (moW cA a M (va_up N 2 ((N 2) + 1)) h) H := hP9
      replace hD : va_D _ (moW cA a M (va_up N 2 ((N 2) + 1)) h) := hD9
      replace hS := hS9
      clear hP9 hD9 hS9
      refine lv_iload_n hx hb dX3_takesSign_32 rfl (lv_at hl 0 rfl) ?_
      exact z_zretM (w1 := moW cA a M (va_up N 2 ((N 2) + 1)) h) hx hb hr hlocks dX3_takesSign_33 hP hS rfl (by simp only [f_X3_takesSign, if_pos c_1]) (by simp only [f_X3_takesSign, if_pos c_1])

theorem zy_X3_keep : yX3_keep.cls = RX3 ∧ yX3_keep.cls ≠ "java/lang/invoke/MethodHandle" ∧ yX3_keep.cls ≠ "java/lang/invoke/VarHandle" ∧ (parseMethodDescriptor yX3_keep.desc).map (fun d => d.parameters.length) = some 1 := by decide +kernel
def f_X3_keep (M : BK) (i1 : Int32) : Int32 × BK :=
  if (f_X3_in i1 0 1) = 0 then
    let M_2 : BK := (f_X3_holds M 1).2
    (0, M_2)
  else
    let M_4 : BK := (f_X3_holds M 0).2
    let M_6 : BK := f_X3_copies M_4 0 (7 + i1.toNatClampNeg)
    (f_X3_loans (uB M_6 1 i1.toNatClampNeg 1), uB M_6 1 i1.toNatClampNeg 1)

set_option maxHeartbeats 4000000 in
set_option maxRecDepth 100000 in
theorem zc_X3_keep (l : Launch) (D : va_G) (cA : Nat → ClassId) (a : Nat → Nat) (M : BK) (N : Nat → Nat) (h : Int64) (i1 : Int32)  : Met l yX3_keep wsX3_keep (zrm 2 44) (zPc D cA [.ref (a 0), .int i1] (moW cA a M N h)) (zM D (moW cA a M N h) (moW cA a ((f_X3_keep M i1).2) N h) (some (.int ((f_X3_keep M i1).1)))) 0 0 (zfr (moW cA a M N h)) := by
  refine Met.ofW (cc := cX3_keep) (maxL := 2) (ret := (some .int)) (by decide) rfl ?_
  intro p e s m args below meth c s₁ Bd hml hv
  obtain ⟨rfl, hP, hK, hD0⟩ := hv
  have hx := Bd.exec
  have hb := Bd.bytes
  have hr := Bd.returns
  have hts := atoms_spec (ws := wsX3_keep) Bd.pre
  have hown : s.vm.findClass RX3 = some m.cls := findClass_of_methodNamed Bd.named
  have hlocks := Bd.notSynchronized
  have hD := z_Dfr hD0
  have hS : va_S (zfr (moW cA a M N h)) s.heap s.heap [] := va_S.rf
  have hi3 : ∀ w ∈ wsX30, w ∈ wsX3_keep := fun w h => List.mem_cons_of_mem _ (List.mem_append_right _ h)
  have hl := lv_entry ([.ref (a 0), .int i1]) (n := 2) (Nat.le_of_ble_eq_true rfl)
  rw [lg_entry_eq]
  generalize (lg_sl ([.ref (a 0), .int i1]) ++ List.replicate (2 - (lg_sl ([.ref (a 0), .int i1])).length) Slot.unset).toArray = ls at hl ⊢
  have hl : lv_has ls 2 [(0, .ref (a 0)), (1, .int i1)] := hl
  refine lv_aload_n hx hb dX3_keep_0 rfl (lv_at hl 0 rfl) ?_
  refine lv_iload_n hx hb dX3_keep_1 rfl (lv_at hl 1 rfl) ?_
  refine lv_iconst (v := 0) hx hb dX3_keep_2 (by decide) ?_
  refine lv_iconst (v := 1) hx hb dX3_keep_3 (by decide) ?_
  refine z_E (va_runS (As := [.int i1, .int 0, .int 1]) (rest := [.ref (a 0)]) ⟨hx, hb, hml, hown, hts⟩ (zc_X3_in l D cA i1 0 1) (va_cwS 3 hts gX3_keep_X3_in rfl rfl rfl zy_X3_in.2 ⟨Nat.le_of_ble_eq_true rfl, Nat.le_of_ble_eq_true rfl⟩) (z_preS hK z_P0 (z_D0 (A := fun _ => True))) rfl rfl hl.1 rfl (lv_room (Nat.le_of_ble_eq_true rfl)) dX3_keep_4 ⟨Nat.zero_le _, Nat.zero_le _⟩) rfl ?_
  refine lv_if_eq (tgt := 14) hx hb dX3_keep_7 (by decide) (fun c_1 => ?_) (fun c_1 => ?_)
  · refine lv_iconst (v := 1) hx hb dX3_keep_14 (by decide) ?_
    refine z_M (X := ([] : va_W)) (Z := ([] : va_W)) (va_runV (As := [.int 1]) (rest := []) ⟨hx, hb, hml, hown, hts⟩ (zc_X3_holds l D cA a M N h 1) (cwV 1 hts gX3_keep_X3_holds rfl rfl rfl zy_X3_holds ⟨Nat.le_of_ble_eq_true rfl, Nat.le_of_ble_eq_true rfl⟩) (z_preV (ci := 3) hK hP hD rfl rfl) rfl rfl hl.1 rfl (lv_room (Nat.le_of_ble_eq_true rfl)) dX3_keep_15 ⟨Nat.zero_le _, Nat.zero_le _⟩) hP hD hS moW_adr rfl (fun H locs hP9 hD9 hS9 => ?_)
    replace hP : va_P D vwCl (moW cA a ((f_X3_holds M 1).2) N h) H := hP9
    replace hD : va_D _ (moW cA a ((f_X3_holds M 1).2) N h) := hD9
    replace hS := hS9
    clear hP9 hD9 hS9
    obtain ⟨M_2, eM_2⟩ : ∃ z9 : BK, z9 = (f_X3_holds M 1).2 := ⟨_, rfl⟩
    rw [← eM_2] at hP hD
    refine z_top (y := 0) (by simp only [f_X3_holds]; rfl) ?_
    refine lv_if_ne (tgt := 23) hx hb dX3_keep_18 (by decide) (fun c_3 => ?_) (fun c_3 => ?_)
    · exact absurd c_3 (by decide)
    · refine lv_iconst (v := 0) hx hb dX3_keep_21 (by decide) ?_
      exact z_iretM (w1 := moW cA a M_2 N h) hx hb hr hlocks dX3_keep_22 hP hS (by subst eM_2; simp only [f_X3_keep, if_pos c_1]) (by subst eM_2; simp only [f_X3_keep, if_pos c_1])
  · obtain ⟨s1, hs1, rfl⟩ : ∃ q9 : Nat, q9 < 2 ∧ i1 = nI q9 := zq_in0 1 rfl (by omega) c_1
    have hcl_s1 : (nI s1).toNatClampNeg = s1 := nI_clamp (by omega)
    refine lv_iconst (v := 0) hx hb dX3_keep_10 (by decide) ?_
    refine lv_goto (tgt := 15) hx hb dX3_keep_11 (by decide) ?_
    refine z_M (X := ([] : va_W)) (Z := ([] : va_W)) (va_runV (As := [.int 0]) (rest := []) ⟨hx, hb, hml, hown, hts⟩ (zc_X3_holds l D cA a M N h 0) (cwV 1 hts gX3_keep_X3_holds rfl rfl rfl zy_X3_holds ⟨Nat.le_of_ble_eq_true rfl, Nat.le_of_ble_eq_true rfl⟩) (z_preV (ci := 3) hK hP hD rfl rfl) rfl rfl hl.1 rfl (lv_room (Nat.le_of_ble_eq_true rfl)) dX3_keep_15 ⟨Nat.zero_le _, Nat.zero_le _⟩) hP hD hS moW_adr rfl (fun H locs hP9 hD9 hS9 => ?_)
    replace hP : va_P D vwCl (moW cA a ((f_X3_holds M 0).2) N h) H := hP9
    replace hD : va_D _ (moW cA a ((f_X3_holds M 0).2) N h) := hD9
    replace hS := hS9
    clear hP9 hD9 hS9
    obtain ⟨M_4, eM_4⟩ : ∃ z9 : BK, z9 = (f_X3_holds M 0).2 := ⟨_, rfl⟩
    rw [← eM_4] at hP hD
    refine z_top (y := 1) (by simp only [f_X3_holds]; rfl) ?_
    refine lv_if_ne (tgt := 23) hx hb dX3_keep_18 (by decide) (fun c_5 => ?_) (fun c_5 => ?_)
    · refine lv_aload_n hx hb dX3_keep_23 rfl (lv_at hl 0 rfl) ?_
      refine lv_iconst (v := 0) hx hb dX3_keep_24 (by decide) ?_
      refine lv_bipush (v := 7) hx hb dX3_keep_25 (by decide) ?_
      refine lv_iload_n hx hb dX3_keep_27 rfl (lv_at hl 1 rfl) ?_
      refine lv_iadd hx hb dX3_keep_28 ?_
      refine z_top (nI_add 7 s1) ?_
      refine z_M (X := ([] : va_W)) (Z := ([] : va_W)) (va_runV (As := [.int 0, .int (nI (7 + s1))]) (rest := []) ⟨hx, hb, hml, hown, hts⟩ (zc_X3_copies l D cA a M_4 N h 0 (7 + s1) (by omega) (by omega)) (cwV 2 hts gX3_keep_X3_copies rfl rfl rfl zy_X3_copies ⟨Nat.le_of_ble_eq_true rfl, Nat.le_of_ble_eq_true rfl⟩) (z_preV (ci := 3) hK hP hD rfl rfl) rfl rfl hl.1 rfl (lv_room (Nat.le_of_ble_eq_true rfl)) dX3_keep_29 ⟨Nat.zero_le _, Nat.zero_le _⟩) hP hD hS moW_adr rfl (fun H locs hP9 hD9 hS9 => ?_)
      replace hP : va_P D vwCl (moW cA a (f_X3_copies M_4 0 (7 + s1)) N h) H := hP9
      replace hD : va_D _ (moW cA a (f_X3_copies M_4 0 (7 + s1)) N h) := hD9
      replace hS := hS9
      clear hP9 hD9 hS9
      obtain ⟨M_6, eM_6⟩ : ∃ z9 : BK, z9 = f_X3_copies M_4 0 (7 + s1) := ⟨_, rfl⟩
      rw [← eM_6] at hP hD
      refine lv_aload_n hx hb dX3_keep_32 rfl (lv_at hl 0 rfl) ?_
      refine va_get (D := D) (ci := 3) (v := .ref (a 2)) (C := RX3) (T := TX3) (N := 14) hx hb hts hi3 hown hK hP 0 rfl rfl 3 (by decide) (hts (.fieldLink RX3 13 "PledgedLoansModel" "isKept" "[Z") (List.mem_of_getElem? (i := 1) rfl)) (fun _ h9 => h9) rfl dX3_keep_33 ?_
      refine lv_iload_n hx hb dX3_keep_36 rfl (lv_at hl 1 rfl) ?_
      refine lv_iconst (v := 1) hx hb dX3_keep_37 (by decide) ?_
      refine z_zast (j := s1) hx hb hK hP hD hS 2 1 rfl rfl dX3_keep_38 (by omega) (by decide) (by decide) (moW cA a (uB M_6 1 s1 1) N h) rfl (fun H locs hP9 hD9 hS9 => ?_)
      replace hP : va_P D vwCl (moW cA a (uB M_6 1 s1 1) N h) H := hP9
      replace hD : va_D _ (moW cA a (uB M_6 1 s1 1) N h) := hD9
      replace hS := hS9
      clear hP9 hD9 hS9
      refine lv_aload_n hx hb dX3_keep_39 rfl (lv_at hl 0 rfl) ?_
      refine z_E (va_runV (As := []) (rest := []) ⟨hx, hb, hml, hown, hts⟩ (zc_X3_loans l D cA a (uB M_6 1 s1 1) N h) (cwV 0 hts gX3_keep_X3_loans rfl rfl rfl zy_X3_loans ⟨Nat.le_of_ble_eq_true rfl, Nat.le_of_ble_eq_true rfl⟩) (z_preV (ci := 3) hK hP hD rfl rfl) rfl rfl hl.1 rfl (lv_room (Nat.le_of_ble_eq_true rfl)) dX3_keep_40 ⟨Nat.zero_le _, Nat.zero_le _⟩) rfl ?_
      exact z_iretM (w1 := moW cA a (uB M_6 1 s1 1) N h) hx hb hr hlocks dX3_keep_43 hP hS (by subst eM_6 eM_4; simp only [f_X3_keep, if_neg c_1, hcl_s1]) (by subst eM_6 eM_4; simp only [f_X3_keep, if_neg c_1, hcl_s1])
    · exact absurd c_5 (by decide)

theorem zy_X3_goBack : yX3_goBack.cls = RX3 ∧ yX3_goBack.cls ≠ "java/lang/invoke/MethodHandle" ∧ yX3_goBack.cls ≠ "java/lang/invoke/VarHandle" ∧ (parseMethodDescriptor yX3_goBack.desc).map (fun d => d.parameters.length) = some 1 := by decide +kernel
def f_X3_goBack (M : BK) (N : Nat → Nat) (i1 : Int32) : Int32 × BK × (Nat → Nat) :=
  if (f_X3_in i1 0 1) = 0 then
    let M_10 : BK := (f_X3_holds M 1).2
    (0, M_10, N)
  else
    if (M 1 i1.toNatClampNeg) = 0 then
      let M_8 : BK := (f_X3_holds M 2).2
      (0, M_8, N)
    else
      let M_3 : BK := (f_X3_holds M 0).2
      let M_5 : BK := (f_X3_save M_3 N).1
      let N_6 : Nat → Nat := (f_X3_save M_3 N).2
      let M_7 : BK := f_X3_copies M_5 (7 + i1.toNatClampNeg) 0
      (f_X3_loans M_7, M_7, N_6)

set_option maxHeartbeats 4000000 in
set_option maxRecDepth 100000 in
theorem zc_X3_goBack (l : Launch) (D : va_G) (cA : Nat → ClassId) (a : Nat → Nat) (M : BK) (N : Nat → Nat) (h : Int64) (i1 : Int32) (hsv : N 0 ≤ 6) : Met l yX3_goBack wsX3_goBack (zrm 2 44) (zPc D cA [.ref (a 0), .int i1] (moW cA a M N h)) (zM D (moW cA a M N h) (moW cA a ((f_X3_goBack M N i1).2.1) ((f_X3_goBack M N i1).2.2) h) (some (.int ((f_X3_goBack M N i1).1)))) 0 0 (zfr (moW cA a M N h)) := by
  refine Met.ofW (cc := cX3_goBack) (maxL := 2) (ret := (some .int)) (by decide) rfl ?_
  intro p e s m args below meth c s₁ Bd hml hv
  obtain ⟨rfl, hP, hK, hD0⟩ := hv
  have hx := Bd.exec
  have hb := Bd.bytes
  have hr := Bd.returns
  have hts := atoms_spec (ws := wsX3_goBack) Bd.pre
  have hown : s.vm.findClass RX3 = some m.cls := findClass_of_methodNamed Bd.named
  have hlocks := Bd.notSynchronized
  have hD := z_Dfr hD0
  have hS : va_S (zfr (moW cA a M N h)) s.heap s.heap [] := va_S.rf
  have hi3 : ∀ w ∈ wsX30, w ∈ wsX3_goBack := fun w h => List.mem_cons_of_mem _ (List.mem_append_right _ h)
  have hl := lv_entry ([.ref (a 0), .int i1]) (n := 2) (Nat.le_of_ble_eq_true rfl)
  rw [lg_entry_eq]
  generalize (lg_sl ([.ref (a 0), .int i1]) ++ List.replicate (2 - (lg_sl ([.ref (a 0), .int i1])).length) Slot.unset).toArray = ls at hl ⊢
  have hl : lv_has ls 2 [(0, .ref (a 0)), (1, .int i1)] := hl
  refine lv_aload_n hx hb dX3_goBack_0 rfl (lv_at hl 0 rfl) ?_
  refine lv_iload_n hx hb dX3_goBack_1 rfl (lv_at hl 1 rfl) ?_
  refine lv_iconst (v := 0) hx hb dX3_goBack_2 (by decide) ?_
  refine lv_iconst (v := 1) hx hb dX3_goBack_3 (by decide) ?_
  refine z_E (va_runS (As := [.int i1, .int 0, .int 1]) (rest := [.ref (a 0)]) ⟨hx, hb, hml, hown, hts⟩ (zc_X3_in l D cA i1 0 1) (va_cwS 3 hts gX3_goBack_X3_in rfl rfl rfl zy_X3_in.2 ⟨Nat.le_of_ble_eq_true rfl, Nat.le_of_ble_eq_true rfl⟩) (z_preS hK z_P0 (z_D0 (A := fun _ => True))) rfl rfl hl.1 rfl (lv_room (Nat.le_of_ble_eq_true rfl)) dX3_goBack_4 ⟨Nat.zero_le _, Nat.zero_le _⟩) rfl ?_
  refine lv_if_ne (tgt := 14) hx hb dX3_goBack_7 (by decide) (fun c_1 => ?_) (fun c_1 => ?_)
  · obtain ⟨s1, hs1, rfl⟩ : ∃ q9 : Nat, q9 < 2 ∧ i1 = nI q9 := zq_in0 1 rfl (by omega) c_1
    have hcl_s1 : (nI s1).toNatClampNeg = s1 := nI_clamp (by omega)
    refine lv_aload_n hx hb dX3_goBack_14 rfl (lv_at hl 0 rfl) ?_
    refine va_get (D := D) (ci := 3) (v := .ref (a 2)) (C := RX3) (T := TX3) (N := 14) hx hb hts hi3 hown hK hP 0 rfl rfl 3 (by decide) (hts (.fieldLink RX3 13 "PledgedLoansModel" "isKept" "[Z") (List.mem_of_getElem? (i := 1) rfl)) (fun _ h9 => h9) rfl dX3_goBack_15 ?_
    refine lv_iload_n hx hb dX3_goBack_18 rfl (lv_at hl 1 rfl) ?_
    refine z_zald (j := s1) hx hb hK hP 2 1 rfl rfl dX3_goBack_19 (by omega) (by decide) ?_
    refine lv_if_ne (tgt := 27) hx hb dX3_goBack_20 (by decide) (fun c_2 => ?_) (fun c_2 => ?_)
    · refine lv_iconst (v := 0) hx hb dX3_goBack_27 (by decide) ?_
      refine z_M (X := ([] : va_W)) (Z := ([] : va_W)) (va_runV (As := [.int 0]) (rest := []) ⟨hx, hb, hml, hown, hts⟩ (zc_X3_holds l D cA a M N h 0) (cwV 1 hts gX3_goBack_X3_holds rfl rfl rfl zy_X3_holds ⟨Nat.le_of_ble_eq_true rfl, Nat.le_of_ble_eq_true rfl⟩) (z_preV (ci := 3) hK hP hD rfl rfl) rfl rfl hl.1 rfl (lv_room (Nat.le_of_ble_eq_true rfl)) dX3_goBack_28 ⟨Nat.zero_le _, Nat.zero_le _⟩) hP hD hS moW_adr rfl (fun H locs hP9 hD9 hS9 => ?_)
      replace hP : va_P D vwCl (moW cA a ((f_X3_holds M 0).2) N h) H := hP9
      replace hD : va_D _ (moW cA a ((f_X3_holds M 0).2) N h) := hD9
      replace hS := hS9
      clear hP9 hD9 hS9
      obtain ⟨M_3, eM_3⟩ : ∃ z9 : BK, z9 = (f_X3_holds M 0).2 := ⟨_, rfl⟩
      rw [← eM_3] at hP hD
      refine z_top (y := 1) (by simp only [f_X3_holds]; rfl) ?_
      refine lv_if_ne (tgt := 36) hx hb dX3_goBack_31 (by decide) (fun c_4 => ?_) (fun c_4 => ?_)
      · refine lv_aload_n hx hb dX3_goBack_36 rfl (lv_at hl 0 rfl) ?_
        refine z_M (X := ([] : va_W)) (Z := ([] : va_W)) (va_runV (As := []) (rest := []) ⟨hx, hb, hml, hown, hts⟩ (zc_X3_save l D cA a M_3 N h (by exact (show (N 0) ≤ 6 by omega))) (cwV 0 hts gX3_goBack_X3_save rfl rfl rfl zy_X3_save ⟨Nat.le_of_ble_eq_true rfl, Nat.le_of_ble_eq_true rfl⟩) (z_preV (ci := 3) hK hP hD rfl rfl) rfl rfl hl.1 rfl (lv_room (Nat.le_of_ble_eq_true rfl)) dX3_goBack_37 ⟨Nat.zero_le _, Nat.zero_le _⟩) hP hD hS moW_adr rfl (fun H locs hP9 hD9 hS9 => ?_)
        replace hP : va_P D vwCl (moW cA a ((f_X3_save M_3 N).1) ((f_X3_save M_3 N).2) h) H := hP9
        replace hD : va_D _ (moW cA a ((f_X3_save M_3 N).1) ((f_X3_save M_3 N).2) h) := hD9
        replace hS := hS9
        clear hP9 hD9 hS9
        obtain ⟨M_5, eM_5⟩ : ∃ z9 : BK, z9 = (f_X3_save M_3 N).1 := ⟨_, rfl⟩
        rw [← eM_5] at hP hD
        obtain ⟨N_6, eN_6⟩ : ∃ z9 : Nat → Nat, z9 = (f_X3_save M_3 N).2 := ⟨_, rfl⟩
        rw [← eN_6] at hP hD
        have hlN_6 : N_6 1 = (N 1) ∧ N_6 2 = (N 2) ∧ N_6 0 ≤ 6 := by rw [eN_6]; exact (zn_X3_save M_3 N (by first | assumption | omega))
        refine lv_aload_n hx hb dX3_goBack_40 rfl (lv_at hl 0 rfl) ?_
        refine lv_bipush (v := 7) hx hb dX3_goBack_41 (by decide) ?_
        refine lv_iload_n hx hb dX3_goBack_43 rfl (lv_at hl 1 rfl) ?_
        refine lv_iadd hx hb dX3_goBack_44 ?_
        refine z_top (nI_add 7 s1) ?_
        refine lv_iconst (v := 0) hx hb dX3_goBack_45 (by decide) ?_
        refine z_M (X := ([] : va_W)) (Z := ([] : va_W)) (va_runV (As := [.int (nI (7 + s1)), .int 0]) (rest := []) ⟨hx, hb, hml, hown, hts⟩ (zc_X3_copies l D cA a M_5 N_6 h (7 + s1) 0 (by omega) (by omega)) (cwV 2 hts gX3_goBack_X3_copies rfl rfl rfl zy_X3_copies ⟨Nat.le_of_ble_eq_true rfl, Nat.le_of_ble_eq_true rfl⟩) (z_preV (ci := 3) hK hP hD rfl rfl) rfl rfl hl.1 rfl (lv_room (Nat.le_of_ble_eq_true rfl)) dX3_goBack_46 ⟨Nat.zero_le _, Nat.zero_le _⟩) hP hD hS moW_adr rfl (fun H locs hP9 hD9 hS9 => ?_)
        replace hP : va_P D vwCl (moW cA a (f_X3_copies M_5 (7 + s1) 0) N_6 h) H := hP9
        replace hD : va_D _ (moW cA a (f_X3_copies M_5 (7 + s1) 0) N_6 h) := hD9
        replace hS := hS9
        clear hP9 hD9 hS9
        obtain ⟨M_7, eM_7⟩ : ∃ z9 : BK, z9 = f_X3_copies M_5 (7 + s1) 0 := ⟨_, rfl⟩
        rw [← eM_7] at hP hD
        refine lv_aload_n hx hb dX3_goBack_49 rfl (lv_at hl 0 rfl) ?_
        refine z_E (va_runV (As := []) (rest := []) ⟨hx, hb, hml, hown, hts⟩ (zc_X3_loans l D cA a M_7 N_6 h) (cwV 0 hts gX3_goBack_X3_loans rfl rfl rfl zy_X3_loans ⟨Nat.le_of_ble_eq_true rfl, Nat.le_of_ble_eq_true rfl⟩) (z_preV (ci := 3) hK hP hD rfl rfl) rfl rfl hl.1 rfl (lv_room (Nat.le_of_ble_eq_true rfl)) dX3_goBack_50 ⟨Nat.zero_le _, Nat.zero_le _⟩) rfl ?_
        exact z_iretM (w1 := moW cA a M_7 N_6 h) hx hb hr hlocks dX3_goBack_53 hP hS (by subst eM_7 eN_6 eM_5 eM_3; simp only [f_X3_goBack, if_neg c_1, if_neg c_2, hcl_s1]) (by subst eM_7 eN_6 eM_5 eM_3; simp only [f_X3_goBack, if_neg c_1, if_neg c_2, hcl_s1])
      · exact absurd c_4 (by decide)
    · refine lv_iconst (v := 2) hx hb dX3_goBack_23 (by decide) ?_
      refine lv_goto (tgt := 28) hx hb dX3_goBack_24 (by decide) ?_
      refine z_M (X := ([] : va_W)) (Z := ([] : va_W)) (va_runV (As := [.int 2]) (rest := []) ⟨hx, hb, hml, hown, hts⟩ (zc_X3_holds l D cA a M N h 2) (cwV 1 hts gX3_goBack_X3_holds rfl rfl rfl zy_X3_holds ⟨Nat.le_of_ble_eq_true rfl, Nat.le_of_ble_eq_true rfl⟩) (z_preV (ci := 3) hK hP hD rfl rfl) rfl rfl hl.1 rfl (lv_room (Nat.le_of_ble_eq_true rfl)) dX3_goBack_28 ⟨Nat.zero_le _, Nat.zero_le _⟩) hP hD hS moW_adr rfl (fun H locs hP9 hD9 hS9 => ?_)
      replace hP : va_P D vwCl (moW cA a ((f_X3_holds M 2).2) N h) H := hP9
      replace hD : va_D _ (moW cA a ((f_X3_holds M 2).2) N h) := hD9
      replace hS := hS9
      clear hP9 hD9 hS9
      obtain ⟨M_8, eM_8⟩ : ∃ z9 : BK, z9 = (f_X3_holds M 2).2 := ⟨_, rfl⟩
      rw [← eM_8] at hP hD
      refine z_top (y := 0) (by simp only [f_X3_holds]; rfl) ?_
      refine lv_if_ne (tgt := 36) hx hb dX3_goBack_31 (by decide) (fun c_9 => ?_) (fun c_9 => ?_)
      · exact absurd c_9 (by decide)
      · refine lv_iconst (v := 0) hx hb dX3_goBack_34 (by decide) ?_
        exact z_iretM (w1 := moW cA a M_8 N h) hx hb hr hlocks dX3_goBack_35 hP hS (by subst eM_8; simp only [f_X3_goBack, if_neg c_1, if_pos c_2, hcl_s1]) (by subst eM_8; simp only [f_X3_goBack, if_neg c_1, if_pos c_2, hcl_s1])
  · refine lv_iconst (v := 1) hx hb dX3_goBack_10 (by decide) ?_
    refine lv_goto (tgt := 28) hx hb dX3_goBack_11 (by decide) ?_
    refine z_M (X := ([] : va_W)) (Z := ([] : va_W)) (va_runV (As := [.int 1]) (rest := []) ⟨hx, hb, hml, hown, hts⟩ (zc_X3_holds l D cA a M N h 1) (cwV 1 hts gX3_goBack_X3_holds rfl rfl rfl zy_X3_holds ⟨Nat.le_of_ble_eq_true rfl, Nat.le_of_ble_eq_true rfl⟩) (z_preV (ci := 3) hK hP hD rfl rfl) rfl rfl hl.1 rfl (lv_room (Nat.le_of_ble_eq_true rfl)) dX3_goBack_28 ⟨Nat.zero_le _, Nat.zero_le _⟩) hP hD hS moW_adr rfl (fun H locs hP9 hD9 hS9 => ?_)
    replace hP : va_P D vwCl (moW cA a ((f_X3_holds M 1).2) N h) H := hP9
    replace hD : va_D _ (moW cA a ((f_X3_holds M 1).2) N h) := hD9
    replace hS := hS9
    clear hP9 hD9 hS9
    obtain ⟨M_10, eM_10⟩ : ∃ z9 : BK, z9 = (f_X3_holds M 1).2 := ⟨_, rfl⟩
    rw [← eM_10] at hP hD
    refine z_top (y := 0) (by simp only [f_X3_holds]; rfl) ?_
    refine lv_if_ne (tgt := 36) hx hb dX3_goBack_31 (by decide) (fun c_11 => ?_) (fun c_11 => ?_)
    · exact absurd c_11 (by decide)
    · refine lv_iconst (v := 0) hx hb dX3_goBack_34 (by decide) ?_
      exact z_iretM (w1 := moW cA a M_10 N h) hx hb hr hlocks dX3_goBack_35 hP hS (by subst eM_10; simp only [f_X3_goBack, if_pos c_1]) (by subst eM_10; simp only [f_X3_goBack, if_pos c_1])

theorem zy_X3_undo : yX3_undo.cls = RX3 ∧ yX3_undo.cls ≠ "java/lang/invoke/MethodHandle" ∧ yX3_undo.cls ≠ "java/lang/invoke/VarHandle" ∧ (parseMethodDescriptor yX3_undo.desc).map (fun d => d.parameters.length) = some 0 := by decide +kernel
def f_X3_undo (M : BK) (N : Nat → Nat) : Int32 × BK × (Nat → Nat) :=
  if (N 0) ≤ 0 then
    let M_2 : BK := (f_X3_holds M 1).2
    (0, M_2, N)
  else
    let M_4 : BK := (f_X3_holds M 0).2
    let M_6 : BK := f_X3_copies M_4 (N 0) 0
    (nI ((N 0) - 1), M_6, va_up N 0 ((N 0) - 1))

set_option maxHeartbeats 4000000 in
set_option maxRecDepth 100000 in
theorem zc_X3_undo (l : Launch) (D : va_G) (cA : Nat → ClassId) (a : Nat → Nat) (M : BK) (N : Nat → Nat) (h : Int64) (hsv : N 0 ≤ 6) : Met l yX3_undo wsX3_undo (zrm 1 23) (zPc D cA [.ref (a 0)] (moW cA a M N h)) (zM D (moW cA a M N h) (moW cA a ((f_X3_undo M N).2.1) ((f_X3_undo M N).2.2) h) (some (.int ((f_X3_undo M N).1)))) 0 0 (zfr (moW cA a M N h)) := by
  refine Met.ofW (cc := cX3_undo) (maxL := 1) (ret := (some .int)) (by decide) rfl ?_
  intro p e s m args below meth c s₁ Bd hml hv
  obtain ⟨rfl, hP, hK, hD0⟩ := hv
  have hx := Bd.exec
  have hb := Bd.bytes
  have hr := Bd.returns
  have hts := atoms_spec (ws := wsX3_undo) Bd.pre
  have hown : s.vm.findClass RX3 = some m.cls := findClass_of_methodNamed Bd.named
  have hlocks := Bd.notSynchronized
  have hD := z_Dfr hD0
  have hS : va_S (zfr (moW cA a M N h)) s.heap s.heap [] := va_S.rf
  have hi3 : ∀ w ∈ wsX30, w ∈ wsX3_undo := fun w h => List.mem_cons_of_mem _ (List.mem_append_right _ h)
  have hl := lv_entry ([.ref (a 0)]) (n := 1) (Nat.le_of_ble_eq_true rfl)
  rw [lg_entry_eq]
  generalize (lg_sl ([.ref (a 0)]) ++ List.replicate (1 - (lg_sl ([.ref (a 0)])).length) Slot.unset).toArray = ls at hl ⊢
  have hl : lv_has ls 1 [(0, .ref (a 0))] := hl
  refine lv_aload_n hx hb dX3_undo_0 rfl (lv_at hl 0 rfl) ?_
  refine lv_aload_n hx hb dX3_undo_1 rfl (lv_at hl 0 rfl) ?_
  refine va_get (D := D) (ci := 3) (v := .int (nI (N 0))) (C := RX3) (T := TX3) (N := 14) hx hb hts hi3 hown hK hP 0 rfl rfl 2 (by decide) (hts (.fieldLink RX3 80 "PledgedLoansModel" "saved" "I") (List.mem_of_getElem? (i := 1) rfl)) (fun _ h9 => h9) rfl dX3_undo_2 ?_
  refine lv_if_le (tgt := 12) hx hb dX3_undo_5 (by decide) (fun c_1 => ?_) (fun c_1 => ?_)
  · have c_1 : (N 0) ≤ 0 := (nI_leI (a := (N 0)) (b := 0) (by omega) (by omega)).mp c_1
    refine lv_iconst (v := 1) hx hb dX3_undo_12 (by decide) ?_
    refine z_M (X := ([] : va_W)) (Z := ([] : va_W)) (va_runV (As := [.int 1]) (rest := []) ⟨hx, hb, hml, hown, hts⟩ (zc_X3_holds l D cA a M N h 1) (cwV 1 hts gX3_undo_X3_holds rfl rfl rfl zy_X3_holds ⟨Nat.le_of_ble_eq_true rfl, Nat.le_of_ble_eq_true rfl⟩) (z_preV (ci := 3) hK hP hD rfl rfl) rfl rfl hl.1 rfl (lv_room (Nat.le_of_ble_eq_true rfl)) dX3_undo_13 ⟨Nat.zero_le _, Nat.zero_le _⟩) hP hD hS moW_adr rfl (fun H locs hP9 hD9 hS9 => ?_)
    replace hP : va_P D vwCl (moW cA a ((f_X3_holds M 1).2) N h) H := hP9
    replace hD : va_D _ (moW cA a ((f_X3_holds M 1).2) N h) := hD9
    replace hS := hS9
    clear hP9 hD9 hS9
    obtain ⟨M_2, eM_2⟩ : ∃ z9 : BK, z9 = (f_X3_holds M 1).2 := ⟨_, rfl⟩
    rw [← eM_2] at hP hD
    refine z_top (y := 0) (by simp only [f_X3_holds]; rfl) ?_
    refine lv_if_ne (tgt := 21) hx hb dX3_undo_16 (by decide) (fun c_3 => ?_) (fun c_3 => ?_)
    · exact absurd c_3 (by decide)
    · refine lv_iconst (v := 0) hx hb dX3_undo_19 (by decide) ?_
      exact z_iretM (w1 := moW cA a M_2 N h) hx hb hr hlocks dX3_undo_20 hP hS (by subst eM_2; simp only [f_X3_undo, if_pos c_1]) (by subst eM_2; simp only [f_X3_undo, if_pos c_1])
  · have c_1 : ¬ (N 0) ≤ 0 := fun h9 => c_1 ((nI_leI (a := (N 0)) (b := 0) (by omega) (by omega)).mpr h9)
    refine lv_iconst (v := 0) hx hb dX3_undo_8 (by decide) ?_
    refine lv_goto (tgt := 13) hx hb dX3_undo_9 (by decide) ?_
    refine z_M (X := ([] : va_W)) (Z := ([] : va_W)) (va_runV (As := [.int 0]) (rest := []) ⟨hx, hb, hml, hown, hts⟩ (zc_X3_holds l D cA a M N h 0) (cwV 1 hts gX3_undo_X3_holds rfl rfl rfl zy_X3_holds ⟨Nat.le_of_ble_eq_true rfl, Nat.le_of_ble_eq_true rfl⟩) (z_preV (ci := 3) hK hP hD rfl rfl) rfl rfl hl.1 rfl (lv_room (Nat.le_of_ble_eq_true rfl)) dX3_undo_13 ⟨Nat.zero_le _, Nat.zero_le _⟩) hP hD hS moW_adr rfl (fun H locs hP9 hD9 hS9 => ?_)
    replace hP : va_P D vwCl (moW cA a ((f_X3_holds M 0).2) N h) H := hP9
    replace hD : va_D _ (moW cA a ((f_X3_holds M 0).2) N h) := hD9
    replace hS := hS9
    clear hP9 hD9 hS9
    obtain ⟨M_4, eM_4⟩ : ∃ z9 : BK, z9 = (f_X3_holds M 0).2 := ⟨_, rfl⟩
    rw [← eM_4] at hP hD
    refine z_top (y := 1) (by simp only [f_X3_holds]; rfl) ?_
    refine lv_if_ne (tgt := 21) hx hb dX3_undo_16 (by decide) (fun c_5 => ?_) (fun c_5 => ?_)
    · refine lv_aload_n hx hb dX3_undo_21 rfl (lv_at hl 0 rfl) ?_
      refine lv_aload_n hx hb dX3_undo_22 rfl (lv_at hl 0 rfl) ?_
      refine va_get (D := D) (ci := 3) (v := .int (nI (N 0))) (C := RX3) (T := TX3) (N := 14) hx hb hts hi3 hown hK hP 0 rfl rfl 2 (by decide) (hts (.fieldLink RX3 80 "PledgedLoansModel" "saved" "I") (List.mem_of_getElem? (i := 1) rfl)) (fun _ h9 => h9) rfl dX3_undo_23 ?_
      refine lv_iconst (v := 0) hx hb dX3_undo_26 (by decide) ?_
      refine z_M (X := ([] : va_W)) (Z := ([] : va_W)) (va_runV (As := [.int (nI (N 0)), .int 0]) (rest := []) ⟨hx, hb, hml, hown, hts⟩ (zc_X3_copies l D cA a M_4 N h (N 0) 0 (by omega) (by omega)) (cwV 2 hts gX3_undo_X3_copies rfl rfl rfl zy_X3_copies ⟨Nat.le_of_ble_eq_true rfl, Nat.le_of_ble_eq_true rfl⟩) (z_preV (ci := 3) hK hP hD rfl rfl) rfl rfl hl.1 rfl (lv_room (Nat.le_of_ble_eq_true rfl)) dX3_undo_27 ⟨Nat.zero_le _, Nat.zero_le _⟩) hP hD hS moW_adr rfl (fun H locs hP9 hD9 hS9 => ?_)
      replace hP : va_P D vwCl (moW cA a (f_X3_copies M_4 (N 0) 0) N h) H := hP9
      replace hD : va_D _ (moW cA a (f_X3_copies M_4 (N 0) 0) N h) := hD9
      replace hS := hS9
      clear hP9 hD9 hS9
      obtain ⟨M_6, eM_6⟩ : ∃ z9 : BK, z9 = f_X3_copies M_4 (N 0) 0 := ⟨_, rfl⟩
      rw [← eM_6] at hP hD
      refine lv_aload_n hx hb dX3_undo_30 rfl (lv_at hl 0 rfl) ?_
      refine lv_dup hx hb dX3_undo_31 rfl ?_
      refine va_get (D := D) (ci := 3) (v := .int (nI (N 0))) (C := RX3) (T := TX3) (N := 14) hx hb hts hi3 hown hK hP 0 rfl rfl 2 (by decide) (hts (.fieldLink RX3 80 "PledgedLoansModel" "saved" "I") (List.mem_of_getElem? (i := 1) rfl)) (fun _ h9 => h9) rfl dX3_undo_32 ?_
      refine lv_iconst (v := 1) hx hb dX3_undo_35 (by decide) ?_
      refine lv_isub hx hb dX3_undo_36 ?_
      refine z_top (pk_sub (a := (N 0)) (b := 1) (by omega)) ?_
      refine va_put (D := D) (ci := 3) (v := .int (nI ((N 0) - 1))) (ty := .int) (C := RX3) (T := TX3) (N := 14) hx hb hts hi3 tyX3 tyX3_ok nmX3 hown hK hP hD hS 0 rfl rfl 2 (by decide) (hts (.fieldLink RX3 80 "PledgedLoansModel" "saved" "I") (List.mem_of_getElem? (i := 1) rfl)) (fun _ h9 => h9) rfl (by decide +kernel) rfl rfl (Nat.le_of_ble_eq_true rfl) dX3_undo_37 (fun H locs hP9 hD9 hS9 => ?_)
      replace hP : va_P D vwCl (moW cA a M_6 (va_up N 0 ((N 0) - 1)) h) H := hP9
      replace hD : va_D _ (moW cA a M_6 (va_up N 0 ((N 0) - 1)) h) := hD9
      replace hS := hS9
      clear hP9 hD9 hS9
      refine lv_aload_n hx hb dX3_undo_40 rfl (lv_at hl 0 rfl) ?_
      refine va_get (D := D) (ci := 3) (v := .int (nI ((va_up N 0 ((N 0) - 1)) 0))) (C := RX3) (T := TX3) (N := 14) hx hb hts hi3 hown hK hP 0 rfl rfl 2 (by decide) (hts (.fieldLink RX3 80 "PledgedLoansModel" "saved" "I") (List.mem_of_getElem? (i := 1) rfl)) (fun _ h9 => h9) rfl dX3_undo_41 ?_
      refine z_top (y := nI ((N 0) - 1)) rfl ?_
      exact z_iretM (w1 := moW cA a M_6 (va_up N 0 ((N 0) - 1)) h) hx hb hr hlocks dX3_undo_44 hP hS (by subst eM_6 eM_4; simp only [f_X3_undo, if_neg c_1]) (by subst eM_6 eM_4; simp only [f_X3_undo, if_neg c_1])
    · exact absurd c_5 (by decide)

theorem zy_X3_memberOf : yX3_memberOf.cls = RX3 ∧ yX3_memberOf.cls ≠ "java/lang/invoke/MethodHandle" ∧ yX3_memberOf.cls ≠ "java/lang/invoke/VarHandle" ∧ (parseMethodDescriptor yX3_memberOf.desc).map (fun d => d.parameters.length) = some 2 := by decide +kernel
def f_X3_memberOf (M : BK) (i1 : Int32) (i2 : Int32) : Int32 × BK :=
  if (f_X3_isMember i1) = 0 then
    let M_7 : BK := (f_X3_holds M 1).2
    (0, M_7)
  else
    if (f_X3_in i2 0 9) = 0 then
      let M_5 : BK := (f_X3_holds M 2).2
      (0, M_5)
    else
      let M_3 : BK := (f_X3_holds M 0).2
      (f_X3_property M_3 i1.toNatClampNeg i2.toNatClampNeg, M_3)

set_option maxHeartbeats 4000000 in
set_option maxRecDepth 100000 in
theorem zc_X3_memberOf (l : Launch) (D : va_G) (cA : Nat → ClassId) (a : Nat → Nat) (M : BK) (N : Nat → Nat) (h : Int64) (i1 : Int32) (i2 : Int32)  : Met l yX3_memberOf wsX3_memberOf (zrm 5 110) (zPc D cA [.ref (a 0), .int i1, .int i2] (moW cA a M N h)) (zM D (moW cA a M N h) (moW cA a ((f_X3_memberOf M i1 i2).2) N h) (some (.int ((f_X3_memberOf M i1 i2).1)))) 0 0 (zfr (moW cA a M N h)) := by
  refine Met.ofW (cc := cX3_memberOf) (maxL := 3) (ret := (some .int)) (by decide) rfl ?_
  intro p e s m args below meth c s₁ Bd hml hv
  obtain ⟨rfl, hP, hK, hD0⟩ := hv
  have hx := Bd.exec
  have hb := Bd.bytes
  have hr := Bd.returns
  have hts := atoms_spec (ws := wsX3_memberOf) Bd.pre
  have hown : s.vm.findClass RX3 = some m.cls := findClass_of_methodNamed Bd.named
  have hlocks := Bd.notSynchronized
  have hD := z_Dfr hD0
  have hS : va_S (zfr (moW cA a M N h)) s.heap s.heap [] := va_S.rf
  have hi3 : ∀ w ∈ wsX30, w ∈ wsX3_memberOf := fun w h => List.mem_cons_of_mem _ (List.mem_append_right _ h)
  have hl := lv_entry ([.ref (a 0), .int i1, .int i2]) (n := 3) (Nat.le_of_ble_eq_true rfl)
  rw [lg_entry_eq]
  generalize (lg_sl ([.ref (a 0), .int i1, .int i2]) ++ List.replicate (3 - (lg_sl ([.ref (a 0), .int i1, .int i2])).length) Slot.unset).toArray = ls at hl ⊢
  have hl : lv_has ls 3 [(0, .ref (a 0)), (1, .int i1), (2, .int i2)] := hl
  refine lv_aload_n hx hb dX3_memberOf_0 rfl (lv_at hl 0 rfl) ?_
  refine lv_iload_n hx hb dX3_memberOf_1 rfl (lv_at hl 1 rfl) ?_
  refine z_E (va_runS (As := [.int i1]) (rest := [.ref (a 0)]) ⟨hx, hb, hml, hown, hts⟩ (zc_X3_isMember l D cA i1) (va_cwS 1 hts gX3_memberOf_X3_isMember rfl rfl rfl zy_X3_isMember.2 ⟨Nat.le_of_ble_eq_true rfl, Nat.le_of_ble_eq_true rfl⟩) (z_preS hK z_P0 (z_D0 (A := fun _ => True))) rfl rfl hl.1 rfl (lv_room (Nat.le_of_ble_eq_true rfl)) dX3_memberOf_2 ⟨Nat.zero_le _, Nat.zero_le _⟩) rfl ?_
  refine lv_if_ne (tgt := 12) hx hb dX3_memberOf_5 (by decide) (fun c_1 => ?_) (fun c_1 => ?_)
  · obtain ⟨m1, hm1, rfl⟩ : ∃ q9 : Nat, q9 < 6 ∧ i1 = nI q9 := zq_isMember c_1
    have hcl_m1 : (nI m1).toNatClampNeg = m1 := nI_clamp (by omega)
    refine lv_iload_n hx hb dX3_memberOf_12 rfl (lv_at hl 2 rfl) ?_
    refine lv_iconst (v := 0) hx hb dX3_memberOf_13 (by decide) ?_
    refine lv_bipush (v := 9) hx hb dX3_memberOf_14 (by decide) ?_
    refine z_E (va_runS (As := [.int i2, .int 0, .int 9]) (rest := [.ref (a 0)]) ⟨hx, hb, hml, hown, hts⟩ (zc_X3_in l D cA i2 0 9) (va_cwS 3 hts gX3_memberOf_X3_in rfl rfl rfl zy_X3_in.2 ⟨Nat.le_of_ble_eq_true rfl, Nat.le_of_ble_eq_true rfl⟩) (z_preS hK z_P0 (z_D0 (A := fun _ => True))) rfl rfl hl.1 rfl (lv_room (Nat.le_of_ble_eq_true rfl)) dX3_memberOf_16 ⟨Nat.zero_le _, Nat.zero_le _⟩) rfl ?_
    refine lv_if_ne (tgt := 26) hx hb dX3_memberOf_19 (by decide) (fun c_2 => ?_) (fun c_2 => ?_)
    · obtain ⟨w1, hw1, rfl⟩ : ∃ q9 : Nat, q9 < 10 ∧ i2 = nI q9 := zq_in0 9 rfl (by omega) c_2
      have hcl_w1 : (nI w1).toNatClampNeg = w1 := nI_clamp (by omega)
      refine lv_iconst (v := 0) hx hb dX3_memberOf_26 (by decide) ?_
      refine z_M (X := ([] : va_W)) (Z := ([] : va_W)) (va_runV (As := [.int 0]) (rest := []) ⟨hx, hb, hml, hown, hts⟩ (zc_X3_holds l D cA a M N h 0) (cwV 1 hts gX3_memberOf_X3_holds rfl rfl rfl zy_X3_holds ⟨Nat.le_of_ble_eq_true rfl, Nat.le_of_ble_eq_true rfl⟩) (z_preV (ci := 3) hK hP hD rfl rfl) rfl rfl hl.1 rfl (lv_room (Nat.le_of_ble_eq_true rfl)) dX3_memberOf_27 ⟨Nat.zero_le _, Nat.zero_le _⟩) hP hD hS moW_adr rfl (fun H locs hP9 hD9 hS9 => ?_)
      replace hP : va_P D vwCl (moW cA a ((f_X3_holds M 0).2) N h) H := hP9
      replace hD : va_D _ (moW cA a ((f_X3_holds M 0).2) N h) := hD9
      replace hS := hS9
      clear hP9 hD9 hS9
      obtain ⟨M_3, eM_3⟩ : ∃ z9 : BK, z9 = (f_X3_holds M 0).2 := ⟨_, rfl⟩
      rw [← eM_3] at hP hD
      refine z_top (y := 1) (by simp only [f_X3_holds]; rfl) ?_
      refine lv_if_eq (tgt := 42) hx hb dX3_memberOf_30 (by decide) (fun c_4 => ?_) (fun c_4 => ?_)
      · exact absurd c_4 (by decide)
      · refine lv_aload_n hx hb dX3_memberOf_33 rfl (lv_at hl 0 rfl) ?_
        refine lv_iload_n hx hb dX3_memberOf_34 rfl (lv_at hl 1 rfl) ?_
        refine lv_iload_n hx hb dX3_memberOf_35 rfl (lv_at hl 2 rfl) ?_
        refine z_E (va_runV (As := [.int (nI m1), .int (nI w1)]) (rest := []) ⟨hx, hb, hml, hown, hts⟩ (zc_X3_property l D cA a M_3 N h m1 w1 (by omega) (by omega)) (cwV 2 hts gX3_memberOf_X3_property rfl rfl rfl zy_X3_property ⟨Nat.le_of_ble_eq_true rfl, Nat.le_of_ble_eq_true rfl⟩) (z_preV (ci := 3) hK hP hD rfl rfl) rfl rfl hl.1 rfl (lv_room (Nat.le_of_ble_eq_true rfl)) dX3_memberOf_36 ⟨Nat.zero_le _, Nat.zero_le _⟩) rfl ?_
        refine lv_goto (tgt := 43) hx hb dX3_memberOf_39 (by decide) ?_
        exact z_iretM (w1 := moW cA a M_3 N h) hx hb hr hlocks dX3_memberOf_43 hP hS (by subst eM_3; simp only [f_X3_memberOf, if_neg c_1, if_neg c_2, hcl_m1, hcl_w1]) (by subst eM_3; simp only [f_X3_memberOf, if_neg c_1, if_neg c_2, hcl_m1, hcl_w1])
    · refine lv_iconst (v := 2) hx hb dX3_memberOf_22 (by decide) ?_
      refine lv_goto (tgt := 27) hx hb dX3_memberOf_23 (by decide) ?_
      refine z_M (X := ([] : va_W)) (Z := ([] : va_W)) (va_runV (As := [.int 2]) (rest := []) ⟨hx, hb, hml, hown, hts⟩ (zc_X3_holds l D cA a M N h 2) (cwV 1 hts gX3_memberOf_X3_holds rfl rfl rfl zy_X3_holds ⟨Nat.le_of_ble_eq_true rfl, Nat.le_of_ble_eq_true rfl⟩) (z_preV (ci := 3) hK hP hD rfl rfl) rfl rfl hl.1 rfl (lv_room (Nat.le_of_ble_eq_true rfl)) dX3_memberOf_27 ⟨Nat.zero_le _, Nat.zero_le _⟩) hP hD hS moW_adr rfl (fun H locs hP9 hD9 hS9 => ?_)
      replace hP : va_P D vwCl (moW cA a ((f_X3_holds M 2).2) N h) H := hP9
      replace hD : va_D _ (moW cA a ((f_X3_holds M 2).2) N h) := hD9
      replace hS := hS9
      clear hP9 hD9 hS9
      obtain ⟨M_5, eM_5⟩ : ∃ z9 : BK, z9 = (f_X3_holds M 2).2 := ⟨_, rfl⟩
      rw [← eM_5] at hP hD
      refine z_top (y := 0) (by simp only [f_X3_holds]; rfl) ?_
      refine lv_if_eq (tgt := 42) hx hb dX3_memberOf_30 (by decide) (fun c_6 => ?_) (fun c_6 => ?_)
      · refine lv_iconst (v := 0) hx hb dX3_memberOf_42 (by decide) ?_
        exact z_iretM (w1 := moW cA a M_5 N h) hx hb hr hlocks dX3_memberOf_43 hP hS (by subst eM_5; simp only [f_X3_memberOf, if_neg c_1, if_pos c_2, hcl_m1]) (by subst eM_5; simp only [f_X3_memberOf, if_neg c_1, if_pos c_2, hcl_m1])
      · exact absurd c_6 (by decide)
  · refine lv_iconst (v := 1) hx hb dX3_memberOf_8 (by decide) ?_
    refine lv_goto (tgt := 27) hx hb dX3_memberOf_9 (by decide) ?_
    refine z_M (X := ([] : va_W)) (Z := ([] : va_W)) (va_runV (As := [.int 1]) (rest := []) ⟨hx, hb, hml, hown, hts⟩ (zc_X3_holds l D cA a M N h 1) (cwV 1 hts gX3_memberOf_X3_holds rfl rfl rfl zy_X3_holds ⟨Nat.le_of_ble_eq_true rfl, Nat.le_of_ble_eq_true rfl⟩) (z_preV (ci := 3) hK hP hD rfl rfl) rfl rfl hl.1 rfl (lv_room (Nat.le_of_ble_eq_true rfl)) dX3_memberOf_27 ⟨Nat.zero_le _, Nat.zero_le _⟩) hP hD hS moW_adr rfl (fun H locs hP9 hD9 hS9 => ?_)
    replace hP : va_P D vwCl (moW cA a ((f_X3_holds M 1).2) N h) H := hP9
    replace hD : va_D _ (moW cA a ((f_X3_holds M 1).2) N h) := hD9
    replace hS := hS9
    clear hP9 hD9 hS9
    obtain ⟨M_7, eM_7⟩ : ∃ z9 : BK, z9 = (f_X3_holds M 1).2 := ⟨_, rfl⟩
    rw [← eM_7] at hP hD
    refine z_top (y := 0) (by simp only [f_X3_holds]; rfl) ?_
    refine lv_if_eq (tgt := 42) hx hb dX3_memberOf_30 (by decide) (fun c_8 => ?_) (fun c_8 => ?_)
    · refine lv_iconst (v := 0) hx hb dX3_memberOf_42 (by decide) ?_
      exact z_iretM (w1 := moW cA a M_7 N h) hx hb hr hlocks dX3_memberOf_43 hP hS (by subst eM_7; simp only [f_X3_memberOf, if_pos c_1]) (by subst eM_7; simp only [f_X3_memberOf, if_pos c_1])
    · exact absurd c_8 (by decide)

theorem zy_X3_pledged : yX3_pledged.cls = RX3 ∧ yX3_pledged.cls ≠ "java/lang/invoke/MethodHandle" ∧ yX3_pledged.cls ≠ "java/lang/invoke/VarHandle" ∧ (parseMethodDescriptor yX3_pledged.desc).map (fun d => d.parameters.length) = some 2 := by decide +kernel
def f_X3_pledged (M : BK) (i1 : Int32) (i2 : Int32) : Int32 × BK :=
  if (f_X3_isMember i1) = 0 then
    let M_2 : BK := (f_X3_holds M 1).2
    (0, M_2)
  else
    if (f_X3_isMember i2) = 0 then
      let M_5 : BK := (f_X3_holds M 1).2
      (0, M_5)
    else
      let M_7 : BK := (f_X3_holds M 0).2
      (f_X3_pledgeOf M_7 i1.toNatClampNeg i2.toNatClampNeg, M_7)

set_option maxHeartbeats 4000000 in
set_option maxRecDepth 100000 in
theorem zc_X3_pledged (l : Launch) (D : va_G) (cA : Nat → ClassId) (a : Nat → Nat) (M : BK) (N : Nat → Nat) (h : Int64) (i1 : Int32) (i2 : Int32)  : Met l yX3_pledged wsX3_pledged (zrm 2 42) (zPc D cA [.ref (a 0), .int i1, .int i2] (moW cA a M N h)) (zM D (moW cA a M N h) (moW cA a ((f_X3_pledged M i1 i2).2) N h) (some (.int ((f_X3_pledged M i1 i2).1)))) 0 0 (zfr (moW cA a M N h)) := by
  refine Met.ofW (cc := cX3_pledged) (maxL := 3) (ret := (some .int)) (by decide) rfl ?_
  intro p e s m args below meth c s₁ Bd hml hv
  obtain ⟨rfl, hP, hK, hD0⟩ := hv
  have hx := Bd.exec
  have hb := Bd.bytes
  have hr := Bd.returns
  have hts := atoms_spec (ws := wsX3_pledged) Bd.pre
  have hown : s.vm.findClass RX3 = some m.cls := findClass_of_methodNamed Bd.named
  have hlocks := Bd.notSynchronized
  have hD := z_Dfr hD0
  have hS : va_S (zfr (moW cA a M N h)) s.heap s.heap [] := va_S.rf
  have hi3 : ∀ w ∈ wsX30, w ∈ wsX3_pledged := fun w h => List.mem_cons_of_mem _ (List.mem_append_right _ h)
  have hl := lv_entry ([.ref (a 0), .int i1, .int i2]) (n := 3) (Nat.le_of_ble_eq_true rfl)
  rw [lg_entry_eq]
  generalize (lg_sl ([.ref (a 0), .int i1, .int i2]) ++ List.replicate (3 - (lg_sl ([.ref (a 0), .int i1, .int i2])).length) Slot.unset).toArray = ls at hl ⊢
  have hl : lv_has ls 3 [(0, .ref (a 0)), (1, .int i1), (2, .int i2)] := hl
  refine lv_aload_n hx hb dX3_pledged_0 rfl (lv_at hl 0 rfl) ?_
  refine lv_iload_n hx hb dX3_pledged_1 rfl (lv_at hl 1 rfl) ?_
  refine z_E (va_runS (As := [.int i1]) (rest := [.ref (a 0)]) ⟨hx, hb, hml, hown, hts⟩ (zc_X3_isMember l D cA i1) (va_cwS 1 hts gX3_pledged_X3_isMember rfl rfl rfl zy_X3_isMember.2 ⟨Nat.le_of_ble_eq_true rfl, Nat.le_of_ble_eq_true rfl⟩) (z_preS hK z_P0 (z_D0 (A := fun _ => True))) rfl rfl hl.1 rfl (lv_room (Nat.le_of_ble_eq_true rfl)) dX3_pledged_2 ⟨Nat.zero_le _, Nat.zero_le _⟩) rfl ?_
  refine lv_if_eq (tgt := 19) hx hb dX3_pledged_5 (by decide) (fun c_1 => ?_) (fun c_1 => ?_)
  · refine lv_iconst (v := 1) hx hb dX3_pledged_19 (by decide) ?_
    refine z_M (X := ([] : va_W)) (Z := ([] : va_W)) (va_runV (As := [.int 1]) (rest := []) ⟨hx, hb, hml, hown, hts⟩ (zc_X3_holds l D cA a M N h 1) (cwV 1 hts gX3_pledged_X3_holds rfl rfl rfl zy_X3_holds ⟨Nat.le_of_ble_eq_true rfl, Nat.le_of_ble_eq_true rfl⟩) (z_preV (ci := 3) hK hP hD rfl rfl) rfl rfl hl.1 rfl (lv_room (Nat.le_of_ble_eq_true rfl)) dX3_pledged_20 ⟨Nat.zero_le _, Nat.zero_le _⟩) hP hD hS moW_adr rfl (fun H locs hP9 hD9 hS9 => ?_)
    replace hP : va_P D vwCl (moW cA a ((f_X3_holds M 1).2) N h) H := hP9
    replace hD : va_D _ (moW cA a ((f_X3_holds M 1).2) N h) := hD9
    replace hS := hS9
    clear hP9 hD9 hS9
    obtain ⟨M_2, eM_2⟩ : ∃ z9 : BK, z9 = (f_X3_holds M 1).2 := ⟨_, rfl⟩
    rw [← eM_2] at hP hD
    refine z_top (y := 0) (by simp only [f_X3_holds]; rfl) ?_
    refine lv_if_eq (tgt := 35) hx hb dX3_pledged_23 (by decide) (fun c_3 => ?_) (fun c_3 => ?_)
    · refine lv_iconst (v := 0) hx hb dX3_pledged_35 (by decide) ?_
      exact z_iretM (w1 := moW cA a M_2 N h) hx hb hr hlocks dX3_pledged_36 hP hS (by subst eM_2; simp only [f_X3_pledged, if_pos c_1]) (by subst eM_2; simp only [f_X3_pledged, if_pos c_1])
    · exact absurd c_3 (by decide)
  · obtain ⟨m1, hm1, rfl⟩ : ∃ q9 : Nat, q9 < 6 ∧ i1 = nI q9 := zq_isMember c_1
    have hcl_m1 : (nI m1).toNatClampNeg = m1 := nI_clamp (by omega)
    refine lv_iload_n hx hb dX3_pledged_8 rfl (lv_at hl 2 rfl) ?_
    refine z_E (va_runS (As := [.int i2]) (rest := [.ref (a 0)]) ⟨hx, hb, hml, hown, hts⟩ (zc_X3_isMember l D cA i2) (va_cwS 1 hts gX3_pledged_X3_isMember rfl rfl rfl zy_X3_isMember.2 ⟨Nat.le_of_ble_eq_true rfl, Nat.le_of_ble_eq_true rfl⟩) (z_preS hK z_P0 (z_D0 (A := fun _ => True))) rfl rfl hl.1 rfl (lv_room (Nat.le_of_ble_eq_true rfl)) dX3_pledged_9 ⟨Nat.zero_le _, Nat.zero_le _⟩) rfl ?_
    refine lv_if_eq (tgt := 19) hx hb dX3_pledged_12 (by decide) (fun c_4 => ?_) (fun c_4 => ?_)
    · refine lv_iconst (v := 1) hx hb dX3_pledged_19 (by decide) ?_
      refine z_M (X := ([] : va_W)) (Z := ([] : va_W)) (va_runV (As := [.int 1]) (rest := []) ⟨hx, hb, hml, hown, hts⟩ (zc_X3_holds l D cA a M N h 1) (cwV 1 hts gX3_pledged_X3_holds rfl rfl rfl zy_X3_holds ⟨Nat.le_of_ble_eq_true rfl, Nat.le_of_ble_eq_true rfl⟩) (z_preV (ci := 3) hK hP hD rfl rfl) rfl rfl hl.1 rfl (lv_room (Nat.le_of_ble_eq_true rfl)) dX3_pledged_20 ⟨Nat.zero_le _, Nat.zero_le _⟩) hP hD hS moW_adr rfl (fun H locs hP9 hD9 hS9 => ?_)
      replace hP : va_P D vwCl (moW cA a ((f_X3_holds M 1).2) N h) H := hP9
      replace hD : va_D _ (moW cA a ((f_X3_holds M 1).2) N h) := hD9
      replace hS := hS9
      clear hP9 hD9 hS9
      obtain ⟨M_5, eM_5⟩ : ∃ z9 : BK, z9 = (f_X3_holds M 1).2 := ⟨_, rfl⟩
      rw [← eM_5] at hP hD
      refine z_top (y := 0) (by simp only [f_X3_holds]; rfl) ?_
      refine lv_if_eq (tgt := 35) hx hb dX3_pledged_23 (by decide) (fun c_6 => ?_) (fun c_6 => ?_)
      · refine lv_iconst (v := 0) hx hb dX3_pledged_35 (by decide) ?_
        exact z_iretM (w1 := moW cA a M_5 N h) hx hb hr hlocks dX3_pledged_36 hP hS (by subst eM_5; simp only [f_X3_pledged, if_neg c_1, if_pos c_4, hcl_m1]) (by subst eM_5; simp only [f_X3_pledged, if_neg c_1, if_pos c_4, hcl_m1])
      · exact absurd c_6 (by decide)
    · obtain ⟨m2, hm2, rfl⟩ : ∃ q9 : Nat, q9 < 6 ∧ i2 = nI q9 := zq_isMember c_4
      have hcl_m2 : (nI m2).toNatClampNeg = m2 := nI_clamp (by omega)
      refine lv_iconst (v := 0) hx hb dX3_pledged_15 (by decide) ?_
      refine lv_goto (tgt := 20) hx hb dX3_pledged_16 (by decide) ?_
      refine z_M (X := ([] : va_W)) (Z := ([] : va_W)) (va_runV (As := [.int 0]) (rest := []) ⟨hx, hb, hml, hown, hts⟩ (zc_X3_holds l D cA a M N h 0) (cwV 1 hts gX3_pledged_X3_holds rfl rfl rfl zy_X3_holds ⟨Nat.le_of_ble_eq_true rfl, Nat.le_of_ble_eq_true rfl⟩) (z_preV (ci := 3) hK hP hD rfl rfl) rfl rfl hl.1 rfl (lv_room (Nat.le_of_ble_eq_true rfl)) dX3_pledged_20 ⟨Nat.zero_le _, Nat.zero_le _⟩) hP hD hS moW_adr rfl (fun H locs hP9 hD9 hS9 => ?_)
      replace hP : va_P D vwCl (moW cA a ((f_X3_holds M 0).2) N h) H := hP9
      replace hD : va_D _ (moW cA a ((f_X3_holds M 0).2) N h) := hD9
      replace hS := hS9
      clear hP9 hD9 hS9
      obtain ⟨M_7, eM_7⟩ : ∃ z9 : BK, z9 = (f_X3_holds M 0).2 := ⟨_, rfl⟩
      rw [← eM_7] at hP hD
      refine z_top (y := 1) (by simp only [f_X3_holds]; rfl) ?_
      refine lv_if_eq (tgt := 35) hx hb dX3_pledged_23 (by decide) (fun c_8 => ?_) (fun c_8 => ?_)
      · exact absurd c_8 (by decide)
      · refine lv_aload_n hx hb dX3_pledged_26 rfl (lv_at hl 0 rfl) ?_
        refine lv_iload_n hx hb dX3_pledged_27 rfl (lv_at hl 1 rfl) ?_
        refine lv_iload_n hx hb dX3_pledged_28 rfl (lv_at hl 2 rfl) ?_
        refine z_E (va_runV (As := [.int (nI m1), .int (nI m2)]) (rest := []) ⟨hx, hb, hml, hown, hts⟩ (zc_X3_pledgeOf l D cA a M_7 N h m1 m2 (by omega) (by omega)) (cwV 2 hts gX3_pledged_X3_pledgeOf rfl rfl rfl zy_X3_pledgeOf ⟨Nat.le_of_ble_eq_true rfl, Nat.le_of_ble_eq_true rfl⟩) (z_preV (ci := 3) hK hP hD rfl rfl) rfl rfl hl.1 rfl (lv_room (Nat.le_of_ble_eq_true rfl)) dX3_pledged_29 ⟨Nat.zero_le _, Nat.zero_le _⟩) rfl ?_
        refine lv_goto (tgt := 36) hx hb dX3_pledged_32 (by decide) ?_
        exact z_iretM (w1 := moW cA a M_7 N h) hx hb hr hlocks dX3_pledged_36 hP hS (by subst eM_7; simp only [f_X3_pledged, if_neg c_1, if_neg c_4, hcl_m1, hcl_m2]) (by subst eM_7; simp only [f_X3_pledged, if_neg c_1, if_neg c_4, hcl_m1, hcl_m2])

theorem zy_X3_count : yX3_count.cls = RX3 ∧ yX3_count.cls ≠ "java/lang/invoke/MethodHandle" ∧ yX3_count.cls ≠ "java/lang/invoke/VarHandle" ∧ (parseMethodDescriptor yX3_count.desc).map (fun d => d.parameters.length) = some 1 := by decide +kernel
def f_X3_count (M : BK) (N : Nat → Nat) (i1 : Int32) : Int32 × BK :=
  if (f_X3_in i1 0 11) = 0 then
    let M_2 : BK := (f_X3_holds M 1).2
    (0, M_2)
  else
    let M_4 : BK := (f_X3_holds M 0).2
    (f_X3_counted M_4 N i1.toNatClampNeg, M_4)

set_option maxHeartbeats 4000000 in
set_option maxRecDepth 100000 in
theorem zc_X3_count (l : Launch) (D : va_G) (cA : Nat → ClassId) (a : Nat → Nat) (M : BK) (N : Nat → Nat) (h : Int64) (i1 : Int32)  : Met l yX3_count wsX3_count (zrm 3 66) (zPc D cA [.ref (a 0), .int i1] (moW cA a M N h)) (zM D (moW cA a M N h) (moW cA a ((f_X3_count M N i1).2) N h) (some (.int ((f_X3_count M N i1).1)))) 0 0 (zfr (moW cA a M N h)) := by
  refine Met.ofW (cc := cX3_count) (maxL := 2) (ret := (some .int)) (by decide) rfl ?_
  intro p e s m args below meth c s₁ Bd hml hv
  obtain ⟨rfl, hP, hK, hD0⟩ := hv
  have hx := Bd.exec
  have hb := Bd.bytes
  have hr := Bd.returns
  have hts := atoms_spec (ws := wsX3_count) Bd.pre
  have hown : s.vm.findClass RX3 = some m.cls := findClass_of_methodNamed Bd.named
  have hlocks := Bd.notSynchronized
  have hD := z_Dfr hD0
  have hS : va_S (zfr (moW cA a M N h)) s.heap s.heap [] := va_S.rf
  have hi3 : ∀ w ∈ wsX30, w ∈ wsX3_count := fun w h => List.mem_cons_of_mem _ (List.mem_append_right _ h)
  have hl := lv_entry ([.ref (a 0), .int i1]) (n := 2) (Nat.le_of_ble_eq_true rfl)
  rw [lg_entry_eq]
  generalize (lg_sl ([.ref (a 0), .int i1]) ++ List.replicate (2 - (lg_sl ([.ref (a 0), .int i1])).length) Slot.unset).toArray = ls at hl ⊢
  have hl : lv_has ls 2 [(0, .ref (a 0)), (1, .int i1)] := hl
  refine lv_aload_n hx hb dX3_count_0 rfl (lv_at hl 0 rfl) ?_
  refine lv_iload_n hx hb dX3_count_1 rfl (lv_at hl 1 rfl) ?_
  refine lv_iconst (v := 0) hx hb dX3_count_2 (by decide) ?_
  refine lv_bipush (v := 11) hx hb dX3_count_3 (by decide) ?_
  refine z_E (va_runS (As := [.int i1, .int 0, .int 11]) (rest := [.ref (a 0)]) ⟨hx, hb, hml, hown, hts⟩ (zc_X3_in l D cA i1 0 11) (va_cwS 3 hts gX3_count_X3_in rfl rfl rfl zy_X3_in.2 ⟨Nat.le_of_ble_eq_true rfl, Nat.le_of_ble_eq_true rfl⟩) (z_preS hK z_P0 (z_D0 (A := fun _ => True))) rfl rfl hl.1 rfl (lv_room (Nat.le_of_ble_eq_true rfl)) dX3_count_5 ⟨Nat.zero_le _, Nat.zero_le _⟩) rfl ?_
  refine lv_if_eq (tgt := 15) hx hb dX3_count_8 (by decide) (fun c_1 => ?_) (fun c_1 => ?_)
  · refine lv_iconst (v := 1) hx hb dX3_count_15 (by decide) ?_
    refine z_M (X := ([] : va_W)) (Z := ([] : va_W)) (va_runV (As := [.int 1]) (rest := []) ⟨hx, hb, hml, hown, hts⟩ (zc_X3_holds l D cA a M N h 1) (cwV 1 hts gX3_count_X3_holds rfl rfl rfl zy_X3_holds ⟨Nat.le_of_ble_eq_true rfl, Nat.le_of_ble_eq_true rfl⟩) (z_preV (ci := 3) hK hP hD rfl rfl) rfl rfl hl.1 rfl (lv_room (Nat.le_of_ble_eq_true rfl)) dX3_count_16 ⟨Nat.zero_le _, Nat.zero_le _⟩) hP hD hS moW_adr rfl (fun H locs hP9 hD9 hS9 => ?_)
    replace hP : va_P D vwCl (moW cA a ((f_X3_holds M 1).2) N h) H := hP9
    replace hD : va_D _ (moW cA a ((f_X3_holds M 1).2) N h) := hD9
    replace hS := hS9
    clear hP9 hD9 hS9
    obtain ⟨M_2, eM_2⟩ : ∃ z9 : BK, z9 = (f_X3_holds M 1).2 := ⟨_, rfl⟩
    rw [← eM_2] at hP hD
    refine z_top (y := 0) (by simp only [f_X3_holds]; rfl) ?_
    refine lv_if_eq (tgt := 30) hx hb dX3_count_19 (by decide) (fun c_3 => ?_) (fun c_3 => ?_)
    · refine lv_iconst (v := 0) hx hb dX3_count_30 (by decide) ?_
      exact z_iretM (w1 := moW cA a M_2 N h) hx hb hr hlocks dX3_count_31 hP hS (by subst eM_2; simp only [f_X3_count, if_pos c_1]) (by subst eM_2; simp only [f_X3_count, if_pos c_1])
    · exact absurd c_3 (by decide)
  · obtain ⟨w1, hw1, rfl⟩ : ∃ q9 : Nat, q9 < 12 ∧ i1 = nI q9 := zq_in0 11 rfl (by omega) c_1
    have hcl_w1 : (nI w1).toNatClampNeg = w1 := nI_clamp (by omega)
    refine lv_iconst (v := 0) hx hb dX3_count_11 (by decide) ?_
    refine lv_goto (tgt := 16) hx hb dX3_count_12 (by decide) ?_
    refine z_M (X := ([] : va_W)) (Z := ([] : va_W)) (va_runV (As := [.int 0]) (rest := []) ⟨hx, hb, hml, hown, hts⟩ (zc_X3_holds l D cA a M N h 0) (cwV 1 hts gX3_count_X3_holds rfl rfl rfl zy_X3_holds ⟨Nat.le_of_ble_eq_true rfl, Nat.le_of_ble_eq_true rfl⟩) (z_preV (ci := 3) hK hP hD rfl rfl) rfl rfl hl.1 rfl (lv_room (Nat.le_of_ble_eq_true rfl)) dX3_count_16 ⟨Nat.zero_le _, Nat.zero_le _⟩) hP hD hS moW_adr rfl (fun H locs hP9 hD9 hS9 => ?_)
    replace hP : va_P D vwCl (moW cA a ((f_X3_holds M 0).2) N h) H := hP9
    replace hD : va_D _ (moW cA a ((f_X3_holds M 0).2) N h) := hD9
    replace hS := hS9
    clear hP9 hD9 hS9
    obtain ⟨M_4, eM_4⟩ : ∃ z9 : BK, z9 = (f_X3_holds M 0).2 := ⟨_, rfl⟩
    rw [← eM_4] at hP hD
    refine z_top (y := 1) (by simp only [f_X3_holds]; rfl) ?_
    refine lv_if_eq (tgt := 30) hx hb dX3_count_19 (by decide) (fun c_5 => ?_) (fun c_5 => ?_)
    · exact absurd c_5 (by decide)
    · refine lv_aload_n hx hb dX3_count_22 rfl (lv_at hl 0 rfl) ?_
      refine lv_iload_n hx hb dX3_count_23 rfl (lv_at hl 1 rfl) ?_
      refine z_E (va_runV (As := [.int (nI w1)]) (rest := []) ⟨hx, hb, hml, hown, hts⟩ (zc_X3_counted l D cA a M_4 N h w1 (by omega)) (cwV 1 hts gX3_count_X3_counted rfl rfl rfl zy_X3_counted ⟨Nat.le_of_ble_eq_true rfl, Nat.le_of_ble_eq_true rfl⟩) (z_preV (ci := 3) hK hP hD rfl rfl) rfl rfl hl.1 rfl (lv_room (Nat.le_of_ble_eq_true rfl)) dX3_count_24 ⟨Nat.zero_le _, Nat.zero_le _⟩) rfl ?_
      refine lv_goto (tgt := 31) hx hb dX3_count_27 (by decide) ?_
      exact z_iretM (w1 := moW cA a M_4 N h) hx hb hr hlocks dX3_count_31 hP hS (by subst eM_4; simp only [f_X3_count, if_neg c_1, hcl_w1]) (by subst eM_4; simp only [f_X3_count, if_neg c_1, hcl_w1])

theorem zy_X3_setting : yX3_setting.cls = RX3 ∧ yX3_setting.cls ≠ "java/lang/invoke/MethodHandle" ∧ yX3_setting.cls ≠ "java/lang/invoke/VarHandle" ∧ (parseMethodDescriptor yX3_setting.desc).map (fun d => d.parameters.length) = some 1 := by decide +kernel
def f_X3_setting (M : BK) (i1 : Int32) : Int32 × BK :=
  if (f_X3_in i1 0 1) = 0 then
    let M_2 : BK := (f_X3_holds M 1).2
    (0, M_2)
  else
    let M_4 : BK := (f_X3_holds M 0).2
    (M_4 0 (8 + i1.toNatClampNeg), M_4)

set_option maxHeartbeats 4000000 in
set_option maxRecDepth 100000 in
theorem zc_X3_setting (l : Launch) (D : va_G) (cA : Nat → ClassId) (a : Nat → Nat) (M : BK) (N : Nat → Nat) (h : Int64) (i1 : Int32)  : Met l yX3_setting wsX3_setting (zrm 1 22) (zPc D cA [.ref (a 0), .int i1] (moW cA a M N h)) (zM D (moW cA a M N h) (moW cA a ((f_X3_setting M i1).2) N h) (some (.int ((f_X3_setting M i1).1)))) 0 0 (zfr (moW cA a M N h)) := by
  refine Met.ofW (cc := cX3_setting) (maxL := 2) (ret := (some .int)) (by decide) rfl ?_
  intro p e s m args below meth c s₁ Bd hml hv
  obtain ⟨rfl, hP, hK, hD0⟩ := hv
  have hx := Bd.exec
  have hb := Bd.bytes
  have hr := Bd.returns
  have hts := atoms_spec (ws := wsX3_setting) Bd.pre
  have hown : s.vm.findClass RX3 = some m.cls := findClass_of_methodNamed Bd.named
  have hlocks := Bd.notSynchronized
  have hD := z_Dfr hD0
  have hS : va_S (zfr (moW cA a M N h)) s.heap s.heap [] := va_S.rf
  have hi3 : ∀ w ∈ wsX30, w ∈ wsX3_setting := fun w h => List.mem_cons_of_mem _ (List.mem_append_right _ h)
  have hl := lv_entry ([.ref (a 0), .int i1]) (n := 2) (Nat.le_of_ble_eq_true rfl)
  rw [lg_entry_eq]
  generalize (lg_sl ([.ref (a 0), .int i1]) ++ List.replicate (2 - (lg_sl ([.ref (a 0), .int i1])).length) Slot.unset).toArray = ls at hl ⊢
  have hl : lv_has ls 2 [(0, .ref (a 0)), (1, .int i1)] := hl
  refine lv_aload_n hx hb dX3_setting_0 rfl (lv_at hl 0 rfl) ?_
  refine lv_iload_n hx hb dX3_setting_1 rfl (lv_at hl 1 rfl) ?_
  refine lv_iconst (v := 0) hx hb dX3_setting_2 (by decide) ?_
  refine lv_iconst (v := 1) hx hb dX3_setting_3 (by decide) ?_
  refine z_E (va_runS (As := [.int i1, .int 0, .int 1]) (rest := [.ref (a 0)]) ⟨hx, hb, hml, hown, hts⟩ (zc_X3_in l D cA i1 0 1) (va_cwS 3 hts gX3_setting_X3_in rfl rfl rfl zy_X3_in.2 ⟨Nat.le_of_ble_eq_true rfl, Nat.le_of_ble_eq_true rfl⟩) (z_preS hK z_P0 (z_D0 (A := fun _ => True))) rfl rfl hl.1 rfl (lv_room (Nat.le_of_ble_eq_true rfl)) dX3_setting_4 ⟨Nat.zero_le _, Nat.zero_le _⟩) rfl ?_
  refine lv_if_eq (tgt := 14) hx hb dX3_setting_7 (by decide) (fun c_1 => ?_) (fun c_1 => ?_)
  · refine lv_iconst (v := 1) hx hb dX3_setting_14 (by decide) ?_
    refine z_M (X := ([] : va_W)) (Z := ([] : va_W)) (va_runV (As := [.int 1]) (rest := []) ⟨hx, hb, hml, hown, hts⟩ (zc_X3_holds l D cA a M N h 1) (cwV 1 hts gX3_setting_X3_holds rfl rfl rfl zy_X3_holds ⟨Nat.le_of_ble_eq_true rfl, Nat.le_of_ble_eq_true rfl⟩) (z_preV (ci := 3) hK hP hD rfl rfl) rfl rfl hl.1 rfl (lv_room (Nat.le_of_ble_eq_true rfl)) dX3_setting_15 ⟨Nat.zero_le _, Nat.zero_le _⟩) hP hD hS moW_adr rfl (fun H locs hP9 hD9 hS9 => ?_)
    replace hP : va_P D vwCl (moW cA a ((f_X3_holds M 1).2) N h) H := hP9
    replace hD : va_D _ (moW cA a ((f_X3_holds M 1).2) N h) := hD9
    replace hS := hS9
    clear hP9 hD9 hS9
    obtain ⟨M_2, eM_2⟩ : ∃ z9 : BK, z9 = (f_X3_holds M 1).2 := ⟨_, rfl⟩
    rw [← eM_2] at hP hD
    refine z_top (y := 0) (by simp only [f_X3_holds]; rfl) ?_
    refine lv_if_eq (tgt := 33) hx hb dX3_setting_18 (by decide) (fun c_3 => ?_) (fun c_3 => ?_)
    · refine lv_iconst (v := 0) hx hb dX3_setting_33 (by decide) ?_
      exact z_iretM (w1 := moW cA a M_2 N h) hx hb hr hlocks dX3_setting_34 hP hS (by subst eM_2; simp only [f_X3_setting, if_pos c_1]) (by subst eM_2; simp only [f_X3_setting, if_pos c_1])
    · exact absurd c_3 (by decide)
  · obtain ⟨w1, hw1, rfl⟩ : ∃ q9 : Nat, q9 < 2 ∧ i1 = nI q9 := zq_in0 1 rfl (by omega) c_1
    have hcl_w1 : (nI w1).toNatClampNeg = w1 := nI_clamp (by omega)
    refine lv_iconst (v := 0) hx hb dX3_setting_10 (by decide) ?_
    refine lv_goto (tgt := 15) hx hb dX3_setting_11 (by decide) ?_
    refine z_M (X := ([] : va_W)) (Z := ([] : va_W)) (va_runV (As := [.int 0]) (rest := []) ⟨hx, hb, hml, hown, hts⟩ (zc_X3_holds l D cA a M N h 0) (cwV 1 hts gX3_setting_X3_holds rfl rfl rfl zy_X3_holds ⟨Nat.le_of_ble_eq_true rfl, Nat.le_of_ble_eq_true rfl⟩) (z_preV (ci := 3) hK hP hD rfl rfl) rfl rfl hl.1 rfl (lv_room (Nat.le_of_ble_eq_true rfl)) dX3_setting_15 ⟨Nat.zero_le _, Nat.zero_le _⟩) hP hD hS moW_adr rfl (fun H locs hP9 hD9 hS9 => ?_)
    replace hP : va_P D vwCl (moW cA a ((f_X3_holds M 0).2) N h) H := hP9
    replace hD : va_D _ (moW cA a ((f_X3_holds M 0).2) N h) := hD9
    replace hS := hS9
    clear hP9 hD9 hS9
    obtain ⟨M_4, eM_4⟩ : ∃ z9 : BK, z9 = (f_X3_holds M 0).2 := ⟨_, rfl⟩
    rw [← eM_4] at hP hD
    refine z_top (y := 1) (by simp only [f_X3_holds]; rfl) ?_
    refine lv_if_eq (tgt := 33) hx hb dX3_setting_18 (by decide) (fun c_5 => ?_) (fun c_5 => ?_)
    · exact absurd c_5 (by decide)
    · refine lv_aload_n hx hb dX3_setting_21 rfl (lv_at hl 0 rfl) ?_
      refine va_get (D := D) (ci := 3) (v := .ref (a 1)) (C := RX3) (T := TX3) (N := 14) hx hb hts hi3 hown hK hP 0 rfl rfl 1 (by decide) (hts (.fieldLink RX3 7 "PledgedLoansModel" "s" "[I") (List.mem_of_getElem? (i := 1) rfl)) (fun _ h9 => h9) rfl dX3_setting_22 ?_
      refine lv_bipush (v := 8) hx hb dX3_setting_25 (by decide) ?_
      refine lv_iload_n hx hb dX3_setting_27 rfl (lv_at hl 1 rfl) ?_
      refine lv_iadd hx hb dX3_setting_28 ?_
      refine z_top (nI_add 8 w1) ?_
      refine z_iald (j := 8 + w1) hx hb hK hP 1 0 rfl rfl dX3_setting_29 (by omega) (by decide) ?_
      refine lv_goto (tgt := 34) hx hb dX3_setting_30 (by decide) ?_
      exact z_iretM (w1 := moW cA a M_4 N h) hx hb hr hlocks dX3_setting_34 hP hS (by subst eM_4; simp only [f_X3_setting, if_neg c_1, hcl_w1]) (by subst eM_4; simp only [f_X3_setting, if_neg c_1, hcl_w1])

theorem zy_X3_whyNot : yX3_whyNot.cls = RX3 ∧ yX3_whyNot.cls ≠ "java/lang/invoke/MethodHandle" ∧ yX3_whyNot.cls ≠ "java/lang/invoke/VarHandle" ∧ (parseMethodDescriptor yX3_whyNot.desc).map (fun d => d.parameters.length) = some 2 := by decide +kernel
def f_X3_whyNot (M : BK) (i1 : Int32) (am : Int32) : Int32 × BK :=
  let M_1 : BK := (f_X3_isDeed M i1 am).2
  if ((f_X3_isDeed M i1 am).1) = 0 then
    (0, M_1)
  else
    (f_X3_reason M_1 i1.toNatClampNeg am, M_1)

set_option maxHeartbeats 4000000 in
set_option maxRecDepth 100000 in
theorem zc_X3_whyNot (l : Launch) (D : va_G) (cA : Nat → ClassId) (a : Nat → Nat) (M : BK) (N : Nat → Nat) (h : Int64) (i1 : Int32) (am : Int32)  : Met l yX3_whyNot wsX3_whyNot (zrm 5 109) (zPc D cA [.ref (a 0), .int i1, .int am] (moW cA a M N h)) (zM D (moW cA a M N h) (moW cA a ((f_X3_whyNot M i1 am).2) N h) (some (.int ((f_X3_whyNot M i1 am).1)))) 0 0 (zfr (moW cA a M N h)) := by
  refine Met.ofW (cc := cX3_whyNot) (maxL := 3) (ret := (some .int)) (by decide) rfl ?_
  intro p e s m args below meth c s₁ Bd hml hv
  obtain ⟨rfl, hP, hK, hD0⟩ := hv
  have hx := Bd.exec
  have hb := Bd.bytes
  have hr := Bd.returns
  have hts := atoms_spec (ws := wsX3_whyNot) Bd.pre
  have hown : s.vm.findClass RX3 = some m.cls := findClass_of_methodNamed Bd.named
  have hlocks := Bd.notSynchronized
  have hD := z_Dfr hD0
  have hS : va_S (zfr (moW cA a M N h)) s.heap s.heap [] := va_S.rf
  have hi3 : ∀ w ∈ wsX30, w ∈ wsX3_whyNot := fun w h => List.mem_cons_of_mem _ (List.mem_append_right _ h)
  have hl := lv_entry ([.ref (a 0), .int i1, .int am]) (n := 3) (Nat.le_of_ble_eq_true rfl)
  rw [lg_entry_eq]
  generalize (lg_sl ([.ref (a 0), .int i1, .int am]) ++ List.replicate (3 - (lg_sl ([.ref (a 0), .int i1, .int am])).length) Slot.unset).toArray = ls at hl ⊢
  have hl : lv_has ls 3 [(0, .ref (a 0)), (1, .int i1), (2, .int am)] := hl
  refine lv_aload_n hx hb dX3_whyNot_0 rfl (lv_at hl 0 rfl) ?_
  refine lv_iload_n hx hb dX3_whyNot_1 rfl (lv_at hl 1 rfl) ?_
  refine lv_iload_n hx hb dX3_whyNot_2 rfl (lv_at hl 2 rfl) ?_
  refine z_M (X := ([] : va_W)) (Z := ([] : va_W)) (va_runV (As := [.int i1, .int am]) (rest := []) ⟨hx, hb, hml, hown, hts⟩ (zc_X3_isDeed l D cA a M N h i1 am) (cwV 2 hts gX3_whyNot_X3_isDeed rfl rfl rfl zy_X3_isDeed ⟨Nat.le_of_ble_eq_true rfl, Nat.le_of_ble_eq_true rfl⟩) (z_preV (ci := 3) hK hP hD rfl rfl) rfl rfl hl.1 rfl (lv_room (Nat.le_of_ble_eq_true rfl)) dX3_whyNot_3 ⟨Nat.zero_le _, Nat.zero_le _⟩) hP hD hS moW_adr rfl (fun H locs hP9 hD9 hS9 => ?_)
  replace hP : va_P D vwCl (moW cA a ((f_X3_isDeed M i1 am).2) N h) H := hP9
  replace hD : va_D _ (moW cA a ((f_X3_isDeed M i1 am).2) N h) := hD9
  replace hS := hS9
  clear hP9 hD9 hS9
  obtain ⟨M_1, eM_1⟩ : ∃ z9 : BK, z9 = (f_X3_isDeed M i1 am).2 := ⟨_, rfl⟩
  rw [← eM_1] at hP hD
  refine lv_if_eq (tgt := 18) hx hb dX3_whyNot_6 (by decide) (fun c_2 => ?_) (fun c_2 => ?_)
  · refine lv_iconst (v := 0) hx hb dX3_whyNot_18 (by decide) ?_
    exact z_iretM (w1 := moW cA a M_1 N h) hx hb hr hlocks dX3_whyNot_19 hP hS (by subst eM_1; simp only [f_X3_whyNot, if_pos c_2]) (by subst eM_1; simp only [f_X3_whyNot, if_pos c_2])
  · obtain ⟨m1, hm1, rfl⟩ : ∃ q9 : Nat, q9 < 6 ∧ i1 = nI q9 := zq_isDeed c_2
    have hcl_m1 : (nI m1).toNatClampNeg = m1 := nI_clamp (by omega)
    refine lv_aload_n hx hb dX3_whyNot_9 rfl (lv_at hl 0 rfl) ?_
    refine lv_iload_n hx hb dX3_whyNot_10 rfl (lv_at hl 1 rfl) ?_
    refine lv_iload_n hx hb dX3_whyNot_11 rfl (lv_at hl 2 rfl) ?_
    refine z_E (va_runV (As := [.int (nI m1), .int am]) (rest := []) ⟨hx, hb, hml, hown, hts⟩ (zc_X3_reason l D cA a M_1 N h m1 am (by omega)) (cwV 2 hts gX3_whyNot_X3_reason rfl rfl rfl zy_X3_reason ⟨Nat.le_of_ble_eq_true rfl, Nat.le_of_ble_eq_true rfl⟩) (z_preV (ci := 3) hK hP hD rfl rfl) rfl rfl hl.1 rfl (lv_room (Nat.le_of_ble_eq_true rfl)) dX3_whyNot_12 ⟨Nat.zero_le _, Nat.zero_le _⟩) rfl ?_
    refine lv_goto (tgt := 19) hx hb dX3_whyNot_15 (by decide) ?_
    exact z_iretM (w1 := moW cA a M_1 N h) hx hb hr hlocks dX3_whyNot_19 hP hS (by subst eM_1; simp only [f_X3_whyNot, if_neg c_2, hcl_m1]) (by subst eM_1; simp only [f_X3_whyNot, if_neg c_2, hcl_m1])

theorem zy_X3_greatest : yX3_greatest.cls = RX3 ∧ yX3_greatest.cls ≠ "java/lang/invoke/MethodHandle" ∧ yX3_greatest.cls ≠ "java/lang/invoke/VarHandle" ∧ (parseMethodDescriptor yX3_greatest.desc).map (fun d => d.parameters.length) = some 2 := by decide +kernel
def f_X3_greatest (M : BK) (i1 : Int32) (i2 : Int32) : Int32 × BK :=
  if (f_X3_isMember i1) = 0 then
    let M_7 : BK := (f_X3_holds M 1).2
    (0, M_7)
  else
    if (f_X3_in i2 0 1) = 0 then
      let M_5 : BK := (f_X3_holds M 2).2
      (0, M_5)
    else
      let M_3 : BK := (f_X3_holds M 0).2
      (f_X3_most M_3 i1.toNatClampNeg, M_3)

set_option maxHeartbeats 4000000 in
set_option maxRecDepth 100000 in
theorem zc_X3_greatest (l : Launch) (D : va_G) (cA : Nat → ClassId) (a : Nat → Nat) (M : BK) (N : Nat → Nat) (h : Int64) (i1 : Int32) (i2 : Int32)  : Met l yX3_greatest wsX3_greatest (zrm 6 131) (zPc D cA [.ref (a 0), .int i1, .int i2] (moW cA a M N h)) (zM D (moW cA a M N h) (moW cA a ((f_X3_greatest M i1 i2).2) N h) (some (.int ((f_X3_greatest M i1 i2).1)))) 0 0 (zfr (moW cA a M N h)) := by
  refine Met.ofW (cc := cX3_greatest) (maxL := 3) (ret := (some .int)) (by decide) rfl ?_
  intro p e s m args below meth c s₁ Bd hml hv
  obtain ⟨rfl, hP, hK, hD0⟩ := hv
  have hx := Bd.exec
  have hb := Bd.bytes
  have hr := Bd.returns
  have hts := atoms_spec (ws := wsX3_greatest) Bd.pre
  have hown : s.vm.findClass RX3 = some m.cls := findClass_of_methodNamed Bd.named
  have hlocks := Bd.notSynchronized
  have hD := z_Dfr hD0
  have hS : va_S (zfr (moW cA a M N h)) s.heap s.heap [] := va_S.rf
  have hi3 : ∀ w ∈ wsX30, w ∈ wsX3_greatest := fun w h => List.mem_cons_of_mem _ (List.mem_append_right _ h)
  have hl := lv_entry ([.ref (a 0), .int i1, .int i2]) (n := 3) (Nat.le_of_ble_eq_true rfl)
  rw [lg_entry_eq]
  generalize (lg_sl ([.ref (a 0), .int i1, .int i2]) ++ List.replicate (3 - (lg_sl ([.ref (a 0), .int i1, .int i2])).length) Slot.unset).toArray = ls at hl ⊢
  have hl : lv_has ls 3 [(0, .ref (a 0)), (1, .int i1), (2, .int i2)] := hl
  refine lv_aload_n hx hb dX3_greatest_0 rfl (lv_at hl 0 rfl) ?_
  refine lv_iload_n hx hb dX3_greatest_1 rfl (lv_at hl 1 rfl) ?_
  refine z_E (va_runS (As := [.int i1]) (rest := [.ref (a 0)]) ⟨hx, hb, hml, hown, hts⟩ (zc_X3_isMember l D cA i1) (va_cwS 1 hts gX3_greatest_X3_isMember rfl rfl rfl zy_X3_isMember.2 ⟨Nat.le_of_ble_eq_true rfl, Nat.le_of_ble_eq_true rfl⟩) (z_preS hK z_P0 (z_D0 (A := fun _ => True))) rfl rfl hl.1 rfl (lv_room (Nat.le_of_ble_eq_true rfl)) dX3_greatest_2 ⟨Nat.zero_le _, Nat.zero_le _⟩) rfl ?_
  refine lv_if_ne (tgt := 12) hx hb dX3_greatest_5 (by decide) (fun c_1 => ?_) (fun c_1 => ?_)
  · obtain ⟨m1, hm1, rfl⟩ : ∃ q9 : Nat, q9 < 6 ∧ i1 = nI q9 := zq_isMember c_1
    have hcl_m1 : (nI m1).toNatClampNeg = m1 := nI_clamp (by omega)
    refine lv_iload_n hx hb dX3_greatest_12 rfl (lv_at hl 2 rfl) ?_
    refine lv_iconst (v := 0) hx hb dX3_greatest_13 (by decide) ?_
    refine lv_iconst (v := 1) hx hb dX3_greatest_14 (by decide) ?_
    refine z_E (va_runS (As := [.int i2, .int 0, .int 1]) (rest := [.ref (a 0)]) ⟨hx, hb, hml, hown, hts⟩ (zc_X3_in l D cA i2 0 1) (va_cwS 3 hts gX3_greatest_X3_in rfl rfl rfl zy_X3_in.2 ⟨Nat.le_of_ble_eq_true rfl, Nat.le_of_ble_eq_true rfl⟩) (z_preS hK z_P0 (z_D0 (A := fun _ => True))) rfl rfl hl.1 rfl (lv_room (Nat.le_of_ble_eq_true rfl)) dX3_greatest_15 ⟨Nat.zero_le _, Nat.zero_le _⟩) rfl ?_
    refine lv_if_ne (tgt := 25) hx hb dX3_greatest_18 (by decide) (fun c_2 => ?_) (fun c_2 => ?_)
    · refine lv_iconst (v := 0) hx hb dX3_greatest_25 (by decide) ?_
      refine z_M (X := ([] : va_W)) (Z := ([] : va_W)) (va_runV (As := [.int 0]) (rest := []) ⟨hx, hb, hml, hown, hts⟩ (zc_X3_holds l D cA a M N h 0) (cwV 1 hts gX3_greatest_X3_holds rfl rfl rfl zy_X3_holds ⟨Nat.le_of_ble_eq_true rfl, Nat.le_of_ble_eq_true rfl⟩) (z_preV (ci := 3) hK hP hD rfl rfl) rfl rfl hl.1 rfl (lv_room (Nat.le_of_ble_eq_true rfl)) dX3_greatest_26 ⟨Nat.zero_le _, Nat.zero_le _⟩) hP hD hS moW_adr rfl (fun H locs hP9 hD9 hS9 => ?_)
      replace hP : va_P D vwCl (moW cA a ((f_X3_holds M 0).2) N h) H := hP9
      replace hD : va_D _ (moW cA a ((f_X3_holds M 0).2) N h) := hD9
      replace hS := hS9
      clear hP9 hD9 hS9
      obtain ⟨M_3, eM_3⟩ : ∃ z9 : BK, z9 = (f_X3_holds M 0).2 := ⟨_, rfl⟩
      rw [← eM_3] at hP hD
      refine z_top (y := 1) (by simp only [f_X3_holds]; rfl) ?_
      refine lv_if_eq (tgt := 40) hx hb dX3_greatest_29 (by decide) (fun c_4 => ?_) (fun c_4 => ?_)
      · exact absurd c_4 (by decide)
      · refine lv_aload_n hx hb dX3_greatest_32 rfl (lv_at hl 0 rfl) ?_
        refine lv_iload_n hx hb dX3_greatest_33 rfl (lv_at hl 1 rfl) ?_
        refine z_E (va_runV (As := [.int (nI m1)]) (rest := []) ⟨hx, hb, hml, hown, hts⟩ (zc_X3_most l D cA a M_3 N h m1 (by omega)) (cwV 1 hts gX3_greatest_X3_most rfl rfl rfl zy_X3_most ⟨Nat.le_of_ble_eq_true rfl, Nat.le_of_ble_eq_true rfl⟩) (z_preV (ci := 3) hK hP hD rfl rfl) rfl rfl hl.1 rfl (lv_room (Nat.le_of_ble_eq_true rfl)) dX3_greatest_34 ⟨Nat.zero_le _, Nat.zero_le _⟩) rfl ?_
        refine lv_goto (tgt := 41) hx hb dX3_greatest_37 (by decide) ?_
        exact z_iretM (w1 := moW cA a M_3 N h) hx hb hr hlocks dX3_greatest_41 hP hS (by subst eM_3; simp only [f_X3_greatest, if_neg c_1, if_neg c_2, hcl_m1]) (by subst eM_3; simp only [f_X3_greatest, if_neg c_1, if_neg c_2, hcl_m1])
    · refine lv_iconst (v := 2) hx hb dX3_greatest_21 (by decide) ?_
      refine lv_goto (tgt := 26) hx hb dX3_greatest_22 (by decide) ?_
      refine z_M (X := ([] : va_W)) (Z := ([] : va_W)) (va_runV (As := [.int 2]) (rest := []) ⟨hx, hb, hml, hown, hts⟩ (zc_X3_holds l D cA a M N h 2) (cwV 1 hts gX3_greatest_X3_holds rfl rfl rfl zy_X3_holds ⟨Nat.le_of_ble_eq_true rfl, Nat.le_of_ble_eq_true rfl⟩) (z_preV (ci := 3) hK hP hD rfl rfl) rfl rfl hl.1 rfl (lv_room (Nat.le_of_ble_eq_true rfl)) dX3_greatest_26 ⟨Nat.zero_le _, Nat.zero_le _⟩) hP hD hS moW_adr rfl (fun H locs hP9 hD9 hS9 => ?_)
      replace hP : va_P D vwCl (moW cA a ((f_X3_holds M 2).2) N h) H := hP9
      replace hD : va_D _ (moW cA a ((f_X3_holds M 2).2) N h) := hD9
      replace hS := hS9
      clear hP9 hD9 hS9
      obtain ⟨M_5, eM_5⟩ : ∃ z9 : BK, z9 = (f_X3_holds M 2).2 := ⟨_, rfl⟩
      rw [← eM_5] at hP hD
      refine z_top (y := 0) (by simp only [f_X3_holds]; rfl) ?_
      refine lv_if_eq (tgt := 40) hx hb dX3_greatest_29 (by decide) (fun c_6 => ?_) (fun c_6 => ?_)
      · refine lv_iconst (v := 0) hx hb dX3_greatest_40 (by decide) ?_
        exact z_iretM (w1 := moW cA a M_5 N h) hx hb hr hlocks dX3_greatest_41 hP hS (by subst eM_5; simp only [f_X3_greatest, if_neg c_1, if_pos c_2, hcl_m1]) (by subst eM_5; simp only [f_X3_greatest, if_neg c_1, if_pos c_2, hcl_m1])
      · exact absurd c_6 (by decide)
  · refine lv_iconst (v := 1) hx hb dX3_greatest_8 (by decide) ?_
    refine lv_goto (tgt := 26) hx hb dX3_greatest_9 (by decide) ?_
    refine z_M (X := ([] : va_W)) (Z := ([] : va_W)) (va_runV (As := [.int 1]) (rest := []) ⟨hx, hb, hml, hown, hts⟩ (zc_X3_holds l D cA a M N h 1) (cwV 1 hts gX3_greatest_X3_holds rfl rfl rfl zy_X3_holds ⟨Nat.le_of_ble_eq_true rfl, Nat.le_of_ble_eq_true rfl⟩) (z_preV (ci := 3) hK hP hD rfl rfl) rfl rfl hl.1 rfl (lv_room (Nat.le_of_ble_eq_true rfl)) dX3_greatest_26 ⟨Nat.zero_le _, Nat.zero_le _⟩) hP hD hS moW_adr rfl (fun H locs hP9 hD9 hS9 => ?_)
    replace hP : va_P D vwCl (moW cA a ((f_X3_holds M 1).2) N h) H := hP9
    replace hD : va_D _ (moW cA a ((f_X3_holds M 1).2) N h) := hD9
    replace hS := hS9
    clear hP9 hD9 hS9
    obtain ⟨M_7, eM_7⟩ : ∃ z9 : BK, z9 = (f_X3_holds M 1).2 := ⟨_, rfl⟩
    rw [← eM_7] at hP hD
    refine z_top (y := 0) (by simp only [f_X3_holds]; rfl) ?_
    refine lv_if_eq (tgt := 40) hx hb dX3_greatest_29 (by decide) (fun c_8 => ?_) (fun c_8 => ?_)
    · refine lv_iconst (v := 0) hx hb dX3_greatest_40 (by decide) ?_
      exact z_iretM (w1 := moW cA a M_7 N h) hx hb hr hlocks dX3_greatest_41 hP hS (by subst eM_7; simp only [f_X3_greatest, if_pos c_1]) (by subst eM_7; simp only [f_X3_greatest, if_pos c_1])
    · exact absurd c_8 (by decide)

theorem zy_X3_fewest : yX3_fewest.cls = RX3 ∧ yX3_fewest.cls ≠ "java/lang/invoke/MethodHandle" ∧ yX3_fewest.cls ≠ "java/lang/invoke/VarHandle" ∧ (parseMethodDescriptor yX3_fewest.desc).map (fun d => d.parameters.length) = some 2 := by decide +kernel
def f_X3_fewest_2 (M : BK) (mb : Nat) (am : Int32) (i0 : BK) : Nat → BK
  | 0 => i0
  | n + 1 =>
    let y0_2 : BK := f_X3_fewest_2 M mb am i0 n
    if n = mb then
      uB y0_2 3 n (-1)
    else
      uB y0_2 3 n (f_X3_free y0_2 n)
def f_X3_fewest_54 (M : BK) (mb : Nat) (am : Int32) (x : Int32) (q : Nat) (M1 : BK) (i0 : Nat) : Nat → Nat
  | 0 => i0
  | n2 + 1 =>
    let y0_54 : Nat := f_X3_fewest_54 M mb am x q M1 i0 n2
    if (M1 3 n2) ≤ (M1 3 y0_54) then
      y0_54
    else
      n2
def f_X3_fewest_43 (M : BK) (mb : Nat) (am : Int32) : Nat → Int32 → Nat → BK → Int32 × BK
  | 0, x, q, M1 => (0, M1)
  | k + 1, x, q, M1 =>
    if am ≤ x then
      (nI q, M1)
    else
      let y0_54 : Nat := f_X3_fewest_54 M mb am x q M1 0 6
      if 0 < (M1 3 y0_54) then
        f_X3_fewest_43 M mb am k (x + (M1 3 y0_54)) (q + 1) (uB M1 3 y0_54 (-1))
      else
        ((-1), M1)
def f_X3_fewest (M : BK) (mb : Nat) (am : Int32) : Int32 × BK :=
  let y0_2 : BK := f_X3_fewest_2 M mb am M 6
  f_X3_fewest_43 M mb am 7 (f_X3_cover y0_2 mb) 0 y0_2

set_option maxHeartbeats 4000000 in
set_option maxRecDepth 100000 in
theorem zc_X3_fewest (l : Launch) (D : va_G) (cA : Nat → ClassId) (a : Nat → Nat) (M : BK) (N : Nat → Nat) (h : Int64) (mb : Nat) (am : Int32) (hmb : mb < 6) : Met l yX3_fewest wsX3_fewest (zrm 4 88) (zPc D cA [.ref (a 0), .int (nI mb), .int am] (moW cA a M N h)) (zM D (moW cA a M N h) (moW cA a ((f_X3_fewest M mb am).2) N h) (some (.int ((f_X3_fewest M mb am).1)))) 0 0 (zfr (moW cA a M N h)) := by
  refine Met.ofW (cc := cX3_fewest) (maxL := 7) (ret := (some .int)) (by decide) rfl ?_
  intro p e s m args below meth c s₁ Bd hml hv
  obtain ⟨rfl, hP, hK, hD0⟩ := hv
  have hx := Bd.exec
  have hb := Bd.bytes
  have hr := Bd.returns
  have hts := atoms_spec (ws := wsX3_fewest) Bd.pre
  have hown : s.vm.findClass RX3 = some m.cls := findClass_of_methodNamed Bd.named
  have hlocks := Bd.notSynchronized
  have hD := z_Dfr hD0
  have hS : va_S (zfr (moW cA a M N h)) s.heap s.heap [] := va_S.rf
  have hi3 : ∀ w ∈ wsX30, w ∈ wsX3_fewest := fun w h => List.mem_cons_of_mem _ (List.mem_append_right _ h)
  have hl := lv_entry ([.ref (a 0), .int (nI mb), .int am]) (n := 7) (Nat.le_of_ble_eq_true rfl)
  rw [lg_entry_eq]
  generalize (lg_sl ([.ref (a 0), .int (nI mb), .int am]) ++ List.replicate (7 - (lg_sl ([.ref (a 0), .int (nI mb), .int am])).length) Slot.unset).toArray = ls at hl ⊢
  have hl : lv_has ls 7 [(0, .ref (a 0)), (1, .int (nI mb)), (2, .int am)] := hl
  refine lv_iconst (v := 0) hx hb dX3_fewest_0 (by decide) ?_
  refine lv_istore_n (lv' := [(3, .int 0), (0, .ref (a 0)), (1, .int (nI mb)), (2, .int am)]) hx hb dX3_fewest_1 rfl hl (by decide) rfl (fun ls hl => ?_)
  have loop_2 : ∀ (kk : Nat) (n : Nat) (y0_2 : BK), n ≤ 6 → 6 - n < kk → y0_2 = f_X3_fewest_2 M mb am M n → ∀ (H : Heap) (locs : List Loc), va_P D vwCl (moW cA a y0_2 N h) H → va_D (zfr (moW cA a M N h)) (moW cA a y0_2 N h) → va_S (zfr (moW cA a M N h)) s.heap H locs → ∀ (ls : Array Slot), lv_has ls 7 [(0, .ref (a 0)), (1, .int (nI mb)), (2, .int am), (3, .int (nI n))] → W p l e (headSpec wsX3_fewest (zrm 4 88)).room s m ([.ref (a 0), .int (nI mb), .int am] : List Value).toArray below meth c H locs 0 0 (MQ below (zM D (moW cA a M N h) (moW cA a ((f_X3_fewest M mb am).2) N h) (some (.int ((f_X3_fewest M mb am).1)))) ([.ref (a 0), .int (nI mb), .int am] : List Value).toArray s 0 0 (zfr (moW cA a M N h))) (F0 m 2 ls []) := by
    intro kk
    induction kk with
    | zero => intro n y0_2 _ h9; exact absurd h9 (Nat.not_lt_zero _)
    | succ kk ih_2 =>
      intro n y0_2 hn_2 hm_2 q_y0_2 H locs hP hD hS ls hl
      refine lv_iload_n hx hb dX3_fewest_2 rfl (lv_at hl 3 rfl) ?_
      refine lv_bipush (v := 6) hx hb dX3_fewest_3 (by decide) ?_
      refine lv_icmp_ge (tgt := 34) hx hb dX3_fewest_5 (by decide) (fun c_1 => ?_) (fun c_1 => ?_)
      · have c_1 : 6 ≤ n := (nI_leI (a := 6) (b := n) (by omega) (by omega)).mp c_1
        obtain rfl : n = 6 := by omega
        obtain ⟨z_2, hz_2⟩ : ∃ z9, z9 = f_X3_fewest_2 M mb am M 6 := ⟨_, rfl⟩
        rw [← hz_2] at q_y0_2
        refine lv_aload_n hx hb dX3_fewest_34 rfl (lv_at hl 0 rfl) ?_
        refine lv_iload_n hx hb dX3_fewest_35 rfl (lv_at hl 1 rfl) ?_
        refine z_E (va_runV (As := [.int (nI mb)]) (rest := []) ⟨hx, hb, hml, hown, hts⟩ (zc_X3_cover l D cA a y0_2 N h mb (by omega)) (cwV 1 hts gX3_fewest_X3_cover rfl rfl rfl zy_X3_cover ⟨Nat.le_of_ble_eq_true rfl, Nat.le_of_ble_eq_true rfl⟩) (z_preV (ci := 3) hK hP hD rfl rfl) rfl rfl hl.1 rfl (lv_room (Nat.le_of_ble_eq_true rfl)) dX3_fewest_36 ⟨Nat.zero_le _, Nat.zero_le _⟩) rfl ?_
        refine lv_istore_n (lv' := [(3, .int (f_X3_cover y0_2 mb)), (0, .ref (a 0)), (1, .int (nI mb)), (2, .int am)]) hx hb dX3_fewest_39 rfl hl (by decide) rfl (fun ls hl => ?_)
        refine lv_iconst (v := 0) hx hb dX3_fewest_40 (by decide) ?_
        refine lv_istore (lv' := [(4, .int 0), (3, .int (f_X3_cover y0_2 mb)), (0, .ref (a 0)), (1, .int (nI mb)), (2, .int am)]) hx hb dX3_fewest_41 hl (by decide) rfl (fun ls hl => ?_)
        have loop_43 : ∀ (kk : Nat) (x : Int32) (q : Nat) (M1 : BK), zcnt (M1 3) 6 < kk → f_X3_fewest M mb am = f_X3_fewest_43 M mb am kk x q M1 → ∀ (H : Heap) (locs : List Loc), va_P D vwCl (moW cA a M1 N h) H → va_D (zfr (moW cA a M N h)) (moW cA a M1 N h) → va_S (zfr (moW cA a M N h)) s.heap H locs → ∀ (ls : Array Slot), lv_has ls 7 [(0, .ref (a 0)), (1, .int (nI mb)), (2, .int am), (3, .int x), (4, .int (nI q))] → W p l e (headSpec wsX3_fewest (zrm 4 88)).room s m ([.ref (a 0), .int (nI mb), .int am] : List Value).toArray below meth c H locs 0 0 (MQ below (zM D (moW cA a M N h) (moW cA a ((f_X3_fewest M mb am).2) N h) (some (.int ((f_X3_fewest M mb am).1)))) ([.ref (a 0), .int (nI mb), .int am] : List Value).toArray s 0 0 (zfr (moW cA a M N h))) (F0 m 43 ls []) := by
          intro kk
          induction kk with
          | zero => intro x q M1 h9; exact absurd h9 (Nat.not_lt_zero _)
          | succ kk ih_43 =>
            intro x q M1 hm_43 hres_43 H locs hP hD hS ls hl
            refine lv_iload_n hx hb dX3_fewest_43 rfl (lv_at hl 3 rfl) ?_
            refine lv_iload_n hx hb dX3_fewest_44 rfl (lv_at hl 2 rfl) ?_
            refine lv_icmp_ge (tgt := 129) hx hb dX3_fewest_45 (by decide) (fun c_2 => ?_) (fun c_2 => ?_)
            · refine lv_iload hx hb dX3_fewest_129 (lv_at hl 4 rfl) ?_
              exact z_iretM (w1 := moW cA a M1 N h) hx hb hr hlocks dX3_fewest_131 hP hS (by subst q_y0_2; rw [hres_43]; simp -proj only [f_X3_fewest_43, if_pos c_2, ← hz_2]; first | done | rfl) (by subst q_y0_2; rw [hres_43]; simp -proj only [f_X3_fewest_43, if_pos c_2, ← hz_2]; first | done | rfl)
            · refine lv_iconst (v := 0) hx hb dX3_fewest_48 (by decide) ?_
              refine lv_istore (lv' := [(5, .int 0), (0, .ref (a 0)), (1, .int (nI mb)), (2, .int am), (3, .int x), (4, .int (nI q))]) hx hb dX3_fewest_49 hl (by decide) rfl (fun ls hl => ?_)
              refine lv_iconst (v := 1) hx hb dX3_fewest_51 (by decide) ?_
              refine lv_istore (lv' := [(6, .int 1), (5, .int 0), (0, .ref (a 0)), (1, .int (nI mb)), (2, .int am), (3, .int x), (4, .int (nI q))]) hx hb dX3_fewest_52 hl (by decide) rfl (fun ls hl => ?_)
              have loop_54 : ∀ (kk : Nat) (n2 : Nat) (y0_54 : Nat), n2 ≤ 6 → 6 - n2 < kk → y0_54 < 6 → y0_54 = f_X3_fewest_54 M mb am x q M1 0 n2 → ∀ (H : Heap) (locs : List Loc), va_P D vwCl (moW cA a M1 N h) H → va_D (zfr (moW cA a M N h)) (moW cA a M1 N h) → va_S (zfr (moW cA a M N h)) s.heap H locs → ∀ (ls : Array Slot), lv_has ls 7 [(0, .ref (a 0)), (1, .int (nI mb)), (2, .int am), (3, .int x), (4, .int (nI q)), (5, .int (nI y0_54)), (6, .int (nI n2))] → W p l e (headSpec wsX3_fewest (zrm 4 88)).room s m ([.ref (a 0), .int (nI mb), .int am] : List Value).toArray below meth c H locs 0 0 (MQ below (zM D (moW cA a M N h) (moW cA a ((f_X3_fewest M mb am).2) N h) (some (.int ((f_X3_fewest M mb am).1)))) ([.ref (a 0), .int (nI mb), .int am] : List Value).toArray s 0 0 (zfr (moW cA a M N h))) (F0 m 54 ls []) := by
                intro kk
                induction kk with
                | zero => intro n2 y0_54 _ h9; exact absurd h9 (Nat.not_lt_zero _)
                | succ kk ih_54 =>
                  intro n2 y0_54 hn_54 hm_54 hi0_54 q_y0_54 H locs hP hD hS ls hl
                  refine lv_iload hx hb dX3_fewest_54 (lv_at hl 6 rfl) ?_
                  refine lv_bipush (v := 6) hx hb dX3_fewest_56 (by decide) ?_
                  refine lv_icmp_ge (tgt := 93) hx hb dX3_fewest_58 (by decide) (fun c_3 => ?_) (fun c_3 => ?_)
                  · have c_3 : 6 ≤ n2 := (nI_leI (a := 6) (b := n2) (by omega) (by omega)).mp c_3
                    obtain rfl : n2 = 6 := by omega
                    obtain ⟨z_54, hz_54⟩ : ∃ z9, z9 = f_X3_fewest_54 M mb am x q M1 0 6 := ⟨_, rfl⟩
                    rw [← hz_54] at q_y0_54
                    refine lv_aload_n hx hb dX3_fewest_93 rfl (lv_at hl 0 rfl) ?_
                    refine va_get (D := D) (ci := 3) (v := .ref (a 4)) (C := RX3) (T := TX3) (N := 14) hx hb hts hi3 hown hK hP 0 rfl rfl 12 (by decide) (hts (.fieldLink RX3 20 "PledgedLoansModel" "frees" "[I") (List.mem_of_getElem? (i := 1) rfl)) (fun _ h9 => h9) rfl dX3_fewest_94 ?_
                    refine lv_iload hx hb dX3_fewest_97 (lv_at hl 5 rfl) ?_
                    refine z_iald (j := y0_54) hx hb hK hP 4 0 rfl rfl dX3_fewest_99 (by omega) (by decide) ?_
                    refine lv_if_gt (tgt := 105) hx hb dX3_fewest_100 (by decide) (fun c_4 => ?_) (fun c_4 => ?_)
                    · refine lv_iload_n hx hb dX3_fewest_105 rfl (lv_at hl 3 rfl) ?_
                      refine lv_aload_n hx hb dX3_fewest_106 rfl (lv_at hl 0 rfl) ?_
                      refine va_get (D := D) (ci := 3) (v := .ref (a 4)) (C := RX3) (T := TX3) (N := 14) hx hb hts hi3 hown hK hP 0 rfl rfl 12 (by decide) (hts (.fieldLink RX3 20 "PledgedLoansModel" "frees" "[I") (List.mem_of_getElem? (i := 1) rfl)) (fun _ h9 => h9) rfl dX3_fewest_107 ?_
                      refine lv_iload hx hb dX3_fewest_110 (lv_at hl 5 rfl) ?_
                      refine z_iald (j := y0_54) hx hb hK hP 4 0 rfl rfl dX3_fewest_112 (by omega) (by decide) ?_
                      refine lv_iadd hx hb dX3_fewest_113 ?_
                      refine lv_istore_n (lv' := [(3, .int (x + (M1 3 y0_54))), (0, .ref (a 0)), (1, .int (nI mb)), (2, .int am), (4, .int (nI q)), (5, .int (nI y0_54)), (6, .int (nI 6))]) hx hb dX3_fewest_114 rfl hl (by decide) rfl (fun ls hl => ?_)
                      refine lv_aload_n hx hb dX3_fewest_115 rfl (lv_at hl 1 rfl) ?_
                      refine va_get (D := D) (ci := 3) (v := .ref (a 4)) (C := RX3) (T := TX3) (N := 14) hx hb hts hi3 hown hK hP 0 rfl rfl 12 (by decide) (hts (.fieldLink RX3 20 "PledgedLoansModel" "frees" "[I") (List.mem_of_getElem? (i := 1) rfl)) (fun _ h9 => h9) rfl dX3_fewest_116 ?_
                      refine lv_iload hx hb dX3_fewest_119 (lv_at hl 5 rfl) ?_
                      refine lv_iconst (v := (-1)) hx hb dX3_fewest_121 (by decide) ?_
                      refine z_iast (j := y0_54) hx hb hK hP hD hS 4 0 rfl rfl dX3_fewest_122 (by omega) (by decide) (moW cA a (uB M1 3 y0_54 (-1)) N h) rfl (fun H locs hP9 hD9 hS9 => ?_)
                      replace hP : va_P D vwCl (moW cA a (uB M1 3 y0_54 (-1)) N h) H := hP9
                      replace hD : va_D _ (moW cA a (uB M1 3 y0_54 (-1)) N h) := hD9
                      replace hS := hS9
                      clear hP9 hD9 hS9
                      refine lv_iinc (v := nI (q + 1)) (lv' := [(4, .int (nI (q + 1))), (3, .int (x + (M1 3 y0_54))), (0, .ref (a 0)), (1, .int (nI mb)), (2, .int am), (5, .int (nI y0_54)), (6, .int (nI 6))]) hx hb dX3_fewest_123 hl (k := 4) rfl (by rw [show (Int32.ofInt 1) = nI 1 from by decide]; exact nI_add q 1) (by decide) rfl (fun ls hl => ?_)
                      refine lv_goto (tgt := 43) hx hb dX3_fewest_126 (by decide) ?_
                      exact ih_43 (x + (M1 3 y0_54)) (q + 1) (uB M1 3 y0_54 (-1)) (by exact Nat.lt_of_lt_of_le (zcnt_dec hi0_54 c_4) (Nat.le_of_lt_succ hm_43)) (by subst q_y0_54 q_y0_2; rw [hres_43]; simp -proj only [f_X3_fewest_43, if_neg c_2, if_pos c_4, ← hz_2, ← hz_54]; first | done | rfl) _ _ hP hD hS ls (lv_sub hl [2, 3, 4, 1, 0] rfl)
                    · refine lv_iconst (v := (-1)) hx hb dX3_fewest_103 (by decide) ?_
                      exact z_iretM (w1 := moW cA a M1 N h) hx hb hr hlocks dX3_fewest_104 hP hS (by subst q_y0_54 q_y0_2; rw [hres_43]; simp -proj only [f_X3_fewest_43, if_neg c_2, if_neg c_4, ← hz_2, ← hz_54]; first | done | rfl) (by subst q_y0_54 q_y0_2; rw [hres_43]; simp -proj only [f_X3_fewest_43, if_neg c_2, if_neg c_4, ← hz_2, ← hz_54]; first | done | rfl)
                  · have c_3 : ¬ 6 ≤ n2 := fun h9 => c_3 ((nI_leI (a := 6) (b := n2) (by omega) (by omega)).mpr h9)
                    refine lv_aload_n hx hb dX3_fewest_61 rfl (lv_at hl 0 rfl) ?_
                    refine va_get (D := D) (ci := 3) (v := .ref (a 4)) (C := RX3) (T := TX3) (N := 14) hx hb hts hi3 hown hK hP 0 rfl rfl 12 (by decide) (hts (.fieldLink RX3 20 "PledgedLoansModel" "frees" "[I") (List.mem_of_getElem? (i := 1) rfl)) (fun _ h9 => h9) rfl dX3_fewest_62 ?_
                    refine lv_iload hx hb dX3_fewest_65 (lv_at hl 6 rfl) ?_
                    refine z_iald (j := n2) hx hb hK hP 4 0 rfl rfl dX3_fewest_67 (by omega) (by decide) ?_
                    refine lv_aload_n hx hb dX3_fewest_68 rfl (lv_at hl 0 rfl) ?_
                    refine va_get (D := D) (ci := 3) (v := .ref (a 4)) (C := RX3) (T := TX3) (N := 14) hx hb hts hi3 hown hK hP 0 rfl rfl 12 (by decide) (hts (.fieldLink RX3 20 "PledgedLoansModel" "frees" "[I") (List.mem_of_getElem? (i := 1) rfl)) (fun _ h9 => h9) rfl dX3_fewest_69 ?_
                    refine lv_iload hx hb dX3_fewest_72 (lv_at hl 5 rfl) ?_
                    refine z_iald (j := y0_54) hx hb hK hP 4 0 rfl rfl dX3_fewest_74 (by omega) (by decide) ?_
                    refine lv_icmp_le (tgt := 83) hx hb dX3_fewest_75 (by decide) (fun c_5 => ?_) (fun c_5 => ?_)
                    · refine lv_iload hx hb dX3_fewest_83 (lv_at hl 5 rfl) ?_
                      refine lv_istore (lv' := [(5, .int (nI y0_54)), (0, .ref (a 0)), (1, .int (nI mb)), (2, .int am), (3, .int x), (4, .int (nI q)), (6, .int (nI n2))]) hx hb dX3_fewest_85 hl (by decide) rfl (fun ls hl => ?_)
                      refine lv_iinc (v := nI (n2 + 1)) (lv' := [(6, .int (nI (n2 + 1))), (5, .int (nI y0_54)), (0, .ref (a 0)), (1, .int (nI mb)), (2, .int am), (3, .int x), (4, .int (nI q))]) hx hb dX3_fewest_87 hl (k := 6) rfl (by rw [show (Int32.ofInt 1) = nI 1 from by decide]; exact nI_add n2 1) (by decide) rfl (fun ls hl => ?_)
                      refine lv_goto (tgt := 54) hx hb dX3_fewest_90 (by decide) ?_
                      exact ih_54 (n2 + 1) _ (by omega) (by omega) (by omega) (by subst q_y0_54 q_y0_2; simp -proj only [f_X3_fewest_54, if_pos c_5, ← hz_2]; first | done | rfl) _ _ hP hD hS ls (lv_sub hl [2, 3, 4, 5, 6, 1, 0] rfl)
                    · refine lv_iload hx hb dX3_fewest_78 (lv_at hl 6 rfl) ?_
                      refine lv_goto (tgt := 85) hx hb dX3_fewest_80 (by decide) ?_
                      refine lv_istore (lv' := [(5, .int (nI n2)), (0, .ref (a 0)), (1, .int (nI mb)), (2, .int am), (3, .int x), (4, .int (nI q)), (6, .int (nI n2))]) hx hb dX3_fewest_85 hl (by decide) rfl (fun ls hl => ?_)
                      refine lv_iinc (v := nI (n2 + 1)) (lv' := [(6, .int (nI (n2 + 1))), (5, .int (nI n2)), (0, .ref (a 0)), (1, .int (nI mb)), (2, .int am), (3, .int x), (4, .int (nI q))]) hx hb dX3_fewest_87 hl (k := 6) rfl (by rw [show (Int32.ofInt 1) = nI 1 from by decide]; exact nI_add n2 1) (by decide) rfl (fun ls hl => ?_)
                      refine lv_goto (tgt := 54) hx hb dX3_fewest_90 (by decide) ?_
                      exact ih_54 (n2 + 1) _ (by omega) (by omega) (by omega) (by subst q_y0_54 q_y0_2; simp -proj only [f_X3_fewest_54, if_neg c_5, ← hz_2]; first | done | rfl) _ _ hP hD hS ls (lv_sub hl [2, 3, 4, 5, 6, 1, 0] rfl)
              exact loop_54 _ 1 _ (by omega) (Nat.lt_succ_self _) (by first | omega | decide) (by simp [f_X3_fewest_54]) _ _ hP hD hS ls (lv_sub hl [2, 3, 4, 5, 6, 1, 0] rfl)
        exact loop_43 7 (f_X3_cover y0_2 mb) 0 y0_2 (by exact Nat.lt_succ_of_le (zcnt_le _ 6)) (by subst q_y0_2; first | (simp -proj only [f_X3_fewest, ← hz_2]; first | done | rfl; done) | rfl) _ _ hP hD hS ls (lv_sub hl [2, 3, 4, 1, 0] rfl)
      · have c_1 : ¬ 6 ≤ n := fun h9 => c_1 ((nI_leI (a := 6) (b := n) (by omega) (by omega)).mpr h9)
        refine lv_aload_n hx hb dX3_fewest_8 rfl (lv_at hl 0 rfl) ?_
        refine va_get (D := D) (ci := 3) (v := .ref (a 4)) (C := RX3) (T := TX3) (N := 14) hx hb hts hi3 hown hK hP 0 rfl rfl 12 (by decide) (hts (.fieldLink RX3 20 "PledgedLoansModel" "frees" "[I") (List.mem_of_getElem? (i := 1) rfl)) (fun _ h9 => h9) rfl dX3_fewest_9 ?_
        refine lv_iload_n hx hb dX3_fewest_12 rfl (lv_at hl 3 rfl) ?_
        refine lv_iload_n hx hb dX3_fewest_13 rfl (lv_at hl 3 rfl) ?_
        refine lv_iload_n hx hb dX3_fewest_14 rfl (lv_at hl 1 rfl) ?_
        refine lv_icmp_ne (tgt := 22) hx hb dX3_fewest_15 (by decide) (fun c_6 => ?_) (fun c_6 => ?_)
        · have c_6 : ¬ n = mb := fun h9 => c_6 ((nI_eq (a := n) (b := mb) (by omega) (by omega)).mpr h9)
          refine lv_aload_n hx hb dX3_fewest_22 rfl (lv_at hl 0 rfl) ?_
          refine lv_iload_n hx hb dX3_fewest_23 rfl (lv_at hl 3 rfl) ?_
          refine z_E (va_runV (As := [.int (nI n)]) (rest := [.int (nI n), .ref (a 4)]) ⟨hx, hb, hml, hown, hts⟩ (zc_X3_free l D cA a y0_2 N h n (by omega)) (cwV 1 hts gX3_fewest_X3_free rfl rfl rfl zy_X3_free ⟨Nat.le_of_ble_eq_true rfl, Nat.le_of_ble_eq_true rfl⟩) (z_preV (ci := 3) hK hP hD rfl rfl) rfl rfl hl.1 rfl (lv_room (Nat.le_of_ble_eq_true rfl)) dX3_fewest_24 ⟨Nat.zero_le _, Nat.zero_le _⟩) rfl ?_
          refine z_iast (j := n) hx hb hK hP hD hS 4 0 rfl rfl dX3_fewest_27 (by omega) (by decide) (moW cA a (uB y0_2 3 n (f_X3_free y0_2 n)) N h) rfl (fun H locs hP9 hD9 hS9 => ?_)
          replace hP : va_P D vwCl (moW cA a (uB y0_2 3 n (f_X3_free y0_2 n)) N h) H := hP9
          replace hD : va_D _ (moW cA a (uB y0_2 3 n (f_X3_free y0_2 n)) N h) := hD9
          replace hS := hS9
          clear hP9 hD9 hS9
          refine lv_iinc (v := nI (n + 1)) (lv' := [(3, .int (nI (n + 1))), (0, .ref (a 0)), (1, .int (nI mb)), (2, .int am)]) hx hb dX3_fewest_28 hl (k := 3) rfl (by rw [show (Int32.ofInt 1) = nI 1 from by decide]; exact nI_add n 1) (by decide) rfl (fun ls hl => ?_)
          refine lv_goto (tgt := 2) hx hb dX3_fewest_31 (by decide) ?_
          exact ih_2 (n + 1) _ (by omega) (by omega) (by subst q_y0_2; simp -proj only [f_X3_fewest_2, if_neg c_6]; first | done | rfl) _ _ hP hD hS ls (lv_sub hl [1, 2, 3, 0] rfl)
        · have c_6 : n = mb := (nI_eq (a := n) (b := mb) (by omega) (by omega)).mp c_6
          refine lv_iconst (v := (-1)) hx hb dX3_fewest_18 (by decide) ?_
          refine lv_goto (tgt := 27) hx hb dX3_fewest_19 (by decide) ?_
          refine z_iast (j := n) hx hb hK hP hD hS 4 0 rfl rfl dX3_fewest_27 (by omega) (by decide) (moW cA a (uB y0_2 3 n (-1)) N h) rfl (fun H locs hP9 hD9 hS9 => ?_)
          replace hP : va_P D vwCl (moW cA a (uB y0_2 3 n (-1)) N h) H := hP9
          replace hD : va_D _ (moW cA a (uB y0_2 3 n (-1)) N h) := hD9
          replace hS := hS9
          clear hP9 hD9 hS9
          refine lv_iinc (v := nI (n + 1)) (lv' := [(3, .int (nI (n + 1))), (0, .ref (a 0)), (1, .int (nI mb)), (2, .int am)]) hx hb dX3_fewest_28 hl (k := 3) rfl (by rw [show (Int32.ofInt 1) = nI 1 from by decide]; exact nI_add n 1) (by decide) rfl (fun ls hl => ?_)
          refine lv_goto (tgt := 2) hx hb dX3_fewest_31 (by decide) ?_
          exact ih_2 (n + 1) _ (by omega) (by omega) (by subst q_y0_2; simp -proj only [f_X3_fewest_2, if_pos c_6]; first | done | rfl) _ _ hP hD hS ls (lv_sub hl [1, 2, 3, 0] rfl)
  exact loop_2 _ 0 _ (by omega) (Nat.lt_succ_self _) rfl _ _ hP hD hS ls (lv_sub hl [1, 2, 3, 0] rfl)

theorem zy_X3_guarantors : yX3_guarantors.cls = RX3 ∧ yX3_guarantors.cls ≠ "java/lang/invoke/MethodHandle" ∧ yX3_guarantors.cls ≠ "java/lang/invoke/VarHandle" ∧ (parseMethodDescriptor yX3_guarantors.desc).map (fun d => d.parameters.length) = some 3 := by decide +kernel
def f_X3_guarantors (M : BK) (i1 : Int32) (i2 : Int32) (i3 : Int32) : Int32 × BK :=
  if (f_X3_isAmount i2) = 0 then
    if (f_X3_isMember i1) = 0 then
      let M_6 : BK := (f_X3_holds M 1).2
      (0, M_6)
    else
      let M_4 : BK := (f_X3_holds M 2).2
      (0, M_4)
  else
    if (f_X3_in i3 0 1) = 0 then
      if (f_X3_isMember i1) = 0 then
        let M_13 : BK := (f_X3_holds M 1).2
        (0, M_13)
      else
        let M_11 : BK := (f_X3_holds M 2).2
        (0, M_11)
    else
      if (f_X3_isMember i1) = 0 then
        let M_20 : BK := (f_X3_holds M 1).2
        (0, M_20)
      else
        let M_17 : BK := (f_X3_holds M 0).2
        let M_19 : BK := (f_X3_fewest M_17 i1.toNatClampNeg i2).2
        ((f_X3_fewest M_17 i1.toNatClampNeg i2).1, M_19)

set_option maxHeartbeats 4000000 in
set_option maxRecDepth 100000 in
theorem zc_X3_guarantors (l : Launch) (D : va_G) (cA : Nat → ClassId) (a : Nat → Nat) (M : BK) (N : Nat → Nat) (h : Int64) (i1 : Int32) (i2 : Int32) (i3 : Int32)  : Met l yX3_guarantors wsX3_guarantors (zrm 5 114) (zPc D cA [.ref (a 0), .int i1, .int i2, .int i3] (moW cA a M N h)) (zM D (moW cA a M N h) (moW cA a ((f_X3_guarantors M i1 i2 i3).2) N h) (some (.int ((f_X3_guarantors M i1 i2 i3).1)))) 0 0 (zfr (moW cA a M N h)) := by
  refine Met.ofW (cc := cX3_guarantors) (maxL := 5) (ret := (some .int)) (by decide) rfl ?_
  intro p e s m args below meth c s₁ Bd hml hv
  obtain ⟨rfl, hP, hK, hD0⟩ := hv
  have hx := Bd.exec
  have hb := Bd.bytes
  have hr := Bd.returns
  have hts := atoms_spec (ws := wsX3_guarantors) Bd.pre
  have hown : s.vm.findClass RX3 = some m.cls := findClass_of_methodNamed Bd.named
  have hlocks := Bd.notSynchronized
  have hD := z_Dfr hD0
  have hS : va_S (zfr (moW cA a M N h)) s.heap s.heap [] := va_S.rf
  have hi3 : ∀ w ∈ wsX30, w ∈ wsX3_guarantors := fun w h => List.mem_cons_of_mem _ (List.mem_append_right _ h)
  have hl := lv_entry ([.ref (a 0), .int i1, .int i2, .int i3]) (n := 5) (Nat.le_of_ble_eq_true rfl)
  rw [lg_entry_eq]
  generalize (lg_sl ([.ref (a 0), .int i1, .int i2, .int i3]) ++ List.replicate (5 - (lg_sl ([.ref (a 0), .int i1, .int i2, .int i3])).length) Slot.unset).toArray = ls at hl ⊢
  have hl : lv_has ls 5 [(0, .ref (a 0)), (1, .int i1), (2, .int i2), (3, .int i3)] := hl
  refine lv_iload_n hx hb dX3_guarantors_0 rfl (lv_at hl 2 rfl) ?_
  refine z_E (va_runS (As := [.int i2]) (rest := []) ⟨hx, hb, hml, hown, hts⟩ (zc_X3_isAmount l D cA i2) (va_cwS 1 hts gX3_guarantors_X3_isAmount rfl rfl rfl zy_X3_isAmount.2 ⟨Nat.le_of_ble_eq_true rfl, Nat.le_of_ble_eq_true rfl⟩) (z_preS hK z_P0 (z_D0 (A := fun _ => True))) rfl rfl hl.1 rfl (lv_room (Nat.le_of_ble_eq_true rfl)) dX3_guarantors_1 ⟨Nat.zero_le _, Nat.zero_le _⟩) rfl ?_
  refine lv_if_eq (tgt := 20) hx hb dX3_guarantors_4 (by decide) (fun c_1 => ?_) (fun c_1 => ?_)
  · refine lv_iconst (v := 0) hx hb dX3_guarantors_20 (by decide) ?_
    refine lv_istore (lv' := [(4, .int 0), (0, .ref (a 0)), (1, .int i1), (2, .int i2), (3, .int i3)]) hx hb dX3_guarantors_21 hl (by decide) rfl (fun ls hl => ?_)
    refine lv_aload_n hx hb dX3_guarantors_23 rfl (lv_at hl 1 rfl) ?_
    refine lv_iload_n hx hb dX3_guarantors_24 rfl (lv_at hl 2 rfl) ?_
    refine z_E (va_runS (As := [.int i1]) (rest := [.ref (a 0)]) ⟨hx, hb, hml, hown, hts⟩ (zc_X3_isMember l D cA i1) (va_cwS 1 hts gX3_guarantors_X3_isMember rfl rfl rfl zy_X3_isMember.2 ⟨Nat.le_of_ble_eq_true rfl, Nat.le_of_ble_eq_true rfl⟩) (z_preS hK z_P0 (z_D0 (A := fun _ => True))) rfl rfl hl.1 rfl (lv_room (Nat.le_of_ble_eq_true rfl)) dX3_guarantors_25 ⟨Nat.zero_le _, Nat.zero_le _⟩) rfl ?_
    refine lv_if_ne (tgt := 35) hx hb dX3_guarantors_28 (by decide) (fun c_2 => ?_) (fun c_2 => ?_)
    · obtain ⟨m1, hm1, rfl⟩ : ∃ q9 : Nat, q9 < 6 ∧ i1 = nI q9 := zq_isMember c_2
      have hcl_m1 : (nI m1).toNatClampNeg = m1 := nI_clamp (by omega)
      refine lv_iload hx hb dX3_guarantors_35 (lv_at hl 0 rfl) ?_
      refine lv_if_ne (tgt := 44) hx hb dX3_guarantors_37 (by decide) (fun c_3 => ?_) (fun c_3 => ?_)
      · exact absurd c_3 (by decide)
      · refine lv_iconst (v := 2) hx hb dX3_guarantors_40 (by decide) ?_
        refine lv_goto (tgt := 45) hx hb dX3_guarantors_41 (by decide) ?_
        refine z_M (X := ([] : va_W)) (Z := ([] : va_W)) (va_runV (As := [.int 2]) (rest := []) ⟨hx, hb, hml, hown, hts⟩ (zc_X3_holds l D cA a M N h 2) (cwV 1 hts gX3_guarantors_X3_holds rfl rfl rfl zy_X3_holds ⟨Nat.le_of_ble_eq_true rfl, Nat.le_of_ble_eq_true rfl⟩) (z_preV (ci := 3) hK hP hD rfl rfl) rfl rfl hl.1 rfl (lv_room (Nat.le_of_ble_eq_true rfl)) dX3_guarantors_45 ⟨Nat.zero_le _, Nat.zero_le _⟩) hP hD hS moW_adr rfl (fun H locs hP9 hD9 hS9 => ?_)
        replace hP : va_P D vwCl (moW cA a ((f_X3_holds M 2).2) N h) H := hP9
        replace hD : va_D _ (moW cA a ((f_X3_holds M 2).2) N h) := hD9
        replace hS := hS9
        clear hP9 hD9 hS9
        obtain ⟨M_4, eM_4⟩ : ∃ z9 : BK, z9 = (f_X3_holds M 2).2 := ⟨_, rfl⟩
        rw [← eM_4] at hP hD
        refine z_top (y := 0) (by simp only [f_X3_holds]; rfl) ?_
        refine lv_if_eq (tgt := 60) hx hb dX3_guarantors_48 (by decide) (fun c_5 => ?_) (fun c_5 => ?_)
        · refine lv_iconst (v := 0) hx hb dX3_guarantors_60 (by decide) ?_
          exact z_iretM (w1 := moW cA a M_4 N h) hx hb hr hlocks dX3_guarantors_61 hP hS (by subst eM_4; simp only [f_X3_guarantors, if_pos c_1, if_neg c_2, hcl_m1]) (by subst eM_4; simp only [f_X3_guarantors, if_pos c_1, if_neg c_2, hcl_m1])
        · exact absurd c_5 (by decide)
    · refine lv_iconst (v := 1) hx hb dX3_guarantors_31 (by decide) ?_
      refine lv_goto (tgt := 45) hx hb dX3_guarantors_32 (by decide) ?_
      refine z_M (X := ([] : va_W)) (Z := ([] : va_W)) (va_runV (As := [.int 1]) (rest := []) ⟨hx, hb, hml, hown, hts⟩ (zc_X3_holds l D cA a M N h 1) (cwV 1 hts gX3_guarantors_X3_holds rfl rfl rfl zy_X3_holds ⟨Nat.le_of_ble_eq_true rfl, Nat.le_of_ble_eq_true rfl⟩) (z_preV (ci := 3) hK hP hD rfl rfl) rfl rfl hl.1 rfl (lv_room (Nat.le_of_ble_eq_true rfl)) dX3_guarantors_45 ⟨Nat.zero_le _, Nat.zero_le _⟩) hP hD hS moW_adr rfl (fun H locs hP9 hD9 hS9 => ?_)
      replace hP : va_P D vwCl (moW cA a ((f_X3_holds M 1).2) N h) H := hP9
      replace hD : va_D _ (moW cA a ((f_X3_holds M 1).2) N h) := hD9
      replace hS := hS9
      clear hP9 hD9 hS9
      obtain ⟨M_6, eM_6⟩ : ∃ z9 : BK, z9 = (f_X3_holds M 1).2 := ⟨_, rfl⟩
      rw [← eM_6] at hP hD
      refine z_top (y := 0) (by simp only [f_X3_holds]; rfl) ?_
      refine lv_if_eq (tgt := 60) hx hb dX3_guarantors_48 (by decide) (fun c_7 => ?_) (fun c_7 => ?_)
      · refine lv_iconst (v := 0) hx hb dX3_guarantors_60 (by decide) ?_
        exact z_iretM (w1 := moW cA a M_6 N h) hx hb hr hlocks dX3_guarantors_61 hP hS (by subst eM_6; simp only [f_X3_guarantors, if_pos c_1, if_pos c_2]) (by subst eM_6; simp only [f_X3_guarantors, if_pos c_1, if_pos c_2])
      · exact absurd c_7 (by decide)
  · refine lv_iload_n hx hb dX3_guarantors_7 rfl (lv_at hl 3 rfl) ?_
    refine lv_iconst (v := 0) hx hb dX3_guarantors_8 (by decide) ?_
    refine lv_iconst (v := 1) hx hb dX3_guarantors_9 (by decide) ?_
    refine z_E (va_runS (As := [.int i3, .int 0, .int 1]) (rest := []) ⟨hx, hb, hml, hown, hts⟩ (zc_X3_in l D cA i3 0 1) (va_cwS 3 hts gX3_guarantors_X3_in rfl rfl rfl zy_X3_in.2 ⟨Nat.le_of_ble_eq_true rfl, Nat.le_of_ble_eq_true rfl⟩) (z_preS hK z_P0 (z_D0 (A := fun _ => True))) rfl rfl hl.1 rfl (lv_room (Nat.le_of_ble_eq_true rfl)) dX3_guarantors_10 ⟨Nat.zero_le _, Nat.zero_le _⟩) rfl ?_
    refine lv_if_eq (tgt := 20) hx hb dX3_guarantors_13 (by decide) (fun c_8 => ?_) (fun c_8 => ?_)
    · refine lv_iconst (v := 0) hx hb dX3_guarantors_20 (by decide) ?_
      refine lv_istore (lv' := [(4, .int 0), (0, .ref (a 0)), (1, .int i1), (2, .int i2), (3, .int i3)]) hx hb dX3_guarantors_21 hl (by decide) rfl (fun ls hl => ?_)
      refine lv_aload_n hx hb dX3_guarantors_23 rfl (lv_at hl 1 rfl) ?_
      refine lv_iload_n hx hb dX3_guarantors_24 rfl (lv_at hl 2 rfl) ?_
      refine z_E (va_runS (As := [.int i1]) (rest := [.ref (a 0)]) ⟨hx, hb, hml, hown, hts⟩ (zc_X3_isMember l D cA i1) (va_cwS 1 hts gX3_guarantors_X3_isMember rfl rfl rfl zy_X3_isMember.2 ⟨Nat.le_of_ble_eq_true rfl, Nat.le_of_ble_eq_true rfl⟩) (z_preS hK z_P0 (z_D0 (A := fun _ => True))) rfl rfl hl.1 rfl (lv_room (Nat.le_of_ble_eq_true rfl)) dX3_guarantors_25 ⟨Nat.zero_le _, Nat.zero_le _⟩) rfl ?_
      refine lv_if_ne (tgt := 35) hx hb dX3_guarantors_28 (by decide) (fun c_9 => ?_) (fun c_9 => ?_)
      · obtain ⟨m1, hm1, rfl⟩ : ∃ q9 : Nat, q9 < 6 ∧ i1 = nI q9 := zq_isMember c_9
        have hcl_m1 : (nI m1).toNatClampNeg = m1 := nI_clamp (by omega)
        refine lv_iload hx hb dX3_guarantors_35 (lv_at hl 0 rfl) ?_
        refine lv_if_ne (tgt := 44) hx hb dX3_guarantors_37 (by decide) (fun c_10 => ?_) (fun c_10 => ?_)
        · exact absurd c_10 (by decide)
        · refine lv_iconst (v := 2) hx hb dX3_guarantors_40 (by decide) ?_
          refine lv_goto (tgt := 45) hx hb dX3_guarantors_41 (by decide) ?_
          refine z_M (X := ([] : va_W)) (Z := ([] : va_W)) (va_runV (As := [.int 2]) (rest := []) ⟨hx, hb, hml, hown, hts⟩ (zc_X3_holds l D cA a M N h 2) (cwV 1 hts gX3_guarantors_X3_holds rfl rfl rfl zy_X3_holds ⟨Nat.le_of_ble_eq_true rfl, Nat.le_of_ble_eq_true rfl⟩) (z_preV (ci := 3) hK hP hD rfl rfl) rfl rfl hl.1 rfl (lv_room (Nat.le_of_ble_eq_true rfl)) dX3_guarantors_45 ⟨Nat.zero_le _, Nat.zero_le _⟩) hP hD hS moW_adr rfl (fun H locs hP9 hD9 hS9 => ?_)
          replace hP : va_P D vwCl (moW cA a ((f_X3_holds M 2).2) N h) H := hP9
          replace hD : va_D _ (moW cA a ((f_X3_holds M 2).2) N h) := hD9
          replace hS := hS9
          clear hP9 hD9 hS9
          obtain ⟨M_11, eM_11⟩ : ∃ z9 : BK, z9 = (f_X3_holds M 2).2 := ⟨_, rfl⟩
          rw [← eM_11] at hP hD
          refine z_top (y := 0) (by simp only [f_X3_holds]; rfl) ?_
          refine lv_if_eq (tgt := 60) hx hb dX3_guarantors_48 (by decide) (fun c_12 => ?_) (fun c_12 => ?_)
          · refine lv_iconst (v := 0) hx hb dX3_guarantors_60 (by decide) ?_
            exact z_iretM (w1 := moW cA a M_11 N h) hx hb hr hlocks dX3_guarantors_61 hP hS (by subst eM_11; simp only [f_X3_guarantors, if_neg c_1, if_pos c_8, if_neg c_9, hcl_m1]) (by subst eM_11; simp only [f_X3_guarantors, if_neg c_1, if_pos c_8, if_neg c_9, hcl_m1])
          · exact absurd c_12 (by decide)
      · refine lv_iconst (v := 1) hx hb dX3_guarantors_31 (by decide) ?_
        refine lv_goto (tgt := 45) hx hb dX3_guarantors_32 (by decide) ?_
        refine z_M (X := ([] : va_W)) (Z := ([] : va_W)) (va_runV (As := [.int 1]) (rest := []) ⟨hx, hb, hml, hown, hts⟩ (zc_X3_holds l D cA a M N h 1) (cwV 1 hts gX3_guarantors_X3_holds rfl rfl rfl zy_X3_holds ⟨Nat.le_of_ble_eq_true rfl, Nat.le_of_ble_eq_true rfl⟩) (z_preV (ci := 3) hK hP hD rfl rfl) rfl rfl hl.1 rfl (lv_room (Nat.le_of_ble_eq_true rfl)) dX3_guarantors_45 ⟨Nat.zero_le _, Nat.zero_le _⟩) hP hD hS moW_adr rfl (fun H locs hP9 hD9 hS9 => ?_)
        replace hP : va_P D vwCl (moW cA a ((f_X3_holds M 1).2) N h) H := hP9
        replace hD : va_D _ (moW cA a ((f_X3_holds M 1).2) N h) := hD9
        replace hS := hS9
        clear hP9 hD9 hS9
        obtain ⟨M_13, eM_13⟩ : ∃ z9 : BK, z9 = (f_X3_holds M 1).2 := ⟨_, rfl⟩
        rw [← eM_13] at hP hD
        refine z_top (y := 0) (by simp only [f_X3_holds]; rfl) ?_
        refine lv_if_eq (tgt := 60) hx hb dX3_guarantors_48 (by decide) (fun c_14 => ?_) (fun c_14 => ?_)
        · refine lv_iconst (v := 0) hx hb dX3_guarantors_60 (by decide) ?_
          exact z_iretM (w1 := moW cA a M_13 N h) hx hb hr hlocks dX3_guarantors_61 hP hS (by subst eM_13; simp only [f_X3_guarantors, if_neg c_1, if_pos c_8, if_pos c_9]) (by subst eM_13; simp only [f_X3_guarantors, if_neg c_1, if_pos c_8, if_pos c_9])
        · exact absurd c_14 (by decide)
    · refine lv_iconst (v := 1) hx hb dX3_guarantors_16 (by decide) ?_
      refine lv_goto (tgt := 21) hx hb dX3_guarantors_17 (by decide) ?_
      refine lv_istore (lv' := [(4, .int 1), (0, .ref (a 0)), (1, .int i1), (2, .int i2), (3, .int i3)]) hx hb dX3_guarantors_21 hl (by decide) rfl (fun ls hl => ?_)
      refine lv_aload_n hx hb dX3_guarantors_23 rfl (lv_at hl 1 rfl) ?_
      refine lv_iload_n hx hb dX3_guarantors_24 rfl (lv_at hl 2 rfl) ?_
      refine z_E (va_runS (As := [.int i1]) (rest := [.ref (a 0)]) ⟨hx, hb, hml, hown, hts⟩ (zc_X3_isMember l D cA i1) (va_cwS 1 hts gX3_guarantors_X3_isMember rfl rfl rfl zy_X3_isMember.2 ⟨Nat.le_of_ble_eq_true rfl, Nat.le_of_ble_eq_true rfl⟩) (z_preS hK z_P0 (z_D0 (A := fun _ => True))) rfl rfl hl.1 rfl (lv_room (Nat.le_of_ble_eq_true rfl)) dX3_guarantors_25 ⟨Nat.zero_le _, Nat.zero_le _⟩) rfl ?_
      refine lv_if_ne (tgt := 35) hx hb dX3_guarantors_28 (by decide) (fun c_15 => ?_) (fun c_15 => ?_)
      · obtain ⟨m1, hm1, rfl⟩ : ∃ q9 : Nat, q9 < 6 ∧ i1 = nI q9 := zq_isMember c_15
        have hcl_m1 : (nI m1).toNatClampNeg = m1 := nI_clamp (by omega)
        refine lv_iload hx hb dX3_guarantors_35 (lv_at hl 0 rfl) ?_
        refine lv_if_ne (tgt := 44) hx hb dX3_guarantors_37 (by decide) (fun c_16 => ?_) (fun c_16 => ?_)
        · refine lv_iconst (v := 0) hx hb dX3_guarantors_44 (by decide) ?_
          refine z_M (X := ([] : va_W)) (Z := ([] : va_W)) (va_runV (As := [.int 0]) (rest := []) ⟨hx, hb, hml, hown, hts⟩ (zc_X3_holds l D cA a M N h 0) (cwV 1 hts gX3_guarantors_X3_holds rfl rfl rfl zy_X3_holds ⟨Nat.le_of_ble_eq_true rfl, Nat.le_of_ble_eq_true rfl⟩) (z_preV (ci := 3) hK hP hD rfl rfl) rfl rfl hl.1 rfl (lv_room (Nat.le_of_ble_eq_true rfl)) dX3_guarantors_45 ⟨Nat.zero_le _, Nat.zero_le _⟩) hP hD hS moW_adr rfl (fun H locs hP9 hD9 hS9 => ?_)
          replace hP : va_P D vwCl (moW cA a ((f_X3_holds M 0).2) N h) H := hP9
          replace hD : va_D _ (moW cA a ((f_X3_holds M 0).2) N h) := hD9
          replace hS := hS9
          clear hP9 hD9 hS9
          obtain ⟨M_17, eM_17⟩ : ∃ z9 : BK, z9 = (f_X3_holds M 0).2 := ⟨_, rfl⟩
          rw [← eM_17] at hP hD
          refine z_top (y := 1) (by simp only [f_X3_holds]; rfl) ?_
          refine lv_if_eq (tgt := 60) hx hb dX3_guarantors_48 (by decide) (fun c_18 => ?_) (fun c_18 => ?_)
          · exact absurd c_18 (by decide)
          · refine lv_aload_n hx hb dX3_guarantors_51 rfl (lv_at hl 1 rfl) ?_
            refine lv_iload_n hx hb dX3_guarantors_52 rfl (lv_at hl 2 rfl) ?_
            refine lv_iload_n hx hb dX3_guarantors_53 rfl (lv_at hl 3 rfl) ?_
            refine z_M (X := ([] : va_W)) (Z := ([] : va_W)) (va_runV (As := [.int (nI m1), .int i2]) (rest := []) ⟨hx, hb, hml, hown, hts⟩ (zc_X3_fewest l D cA a M_17 N h m1 i2 (by omega)) (cwV 2 hts gX3_guarantors_X3_fewest rfl rfl rfl zy_X3_fewest ⟨Nat.le_of_ble_eq_true rfl, Nat.le_of_ble_eq_true rfl⟩) (z_preV (ci := 3) hK hP hD rfl rfl) rfl rfl hl.1 rfl (lv_room (Nat.le_of_ble_eq_true rfl)) dX3_guarantors_54 ⟨Nat.zero_le _, Nat.zero_le _⟩) hP hD hS moW_adr rfl (fun H locs hP9 hD9 hS9 => ?_)
            replace hP : va_P D vwCl (moW cA a ((f_X3_fewest M_17 m1 i2).2) N h) H := hP9
            replace hD : va_D _ (moW cA a ((f_X3_fewest M_17 m1 i2).2) N h) := hD9
            replace hS := hS9
            clear hP9 hD9 hS9
            obtain ⟨M_19, eM_19⟩ : ∃ z9 : BK, z9 = (f_X3_fewest M_17 m1 i2).2 := ⟨_, rfl⟩
            rw [← eM_19] at hP hD
            refine lv_goto (tgt := 61) hx hb dX3_guarantors_57 (by decide) ?_
            exact z_iretM (w1 := moW cA a M_19 N h) hx hb hr hlocks dX3_guarantors_61 hP hS (by subst eM_19 eM_17; simp only [f_X3_guarantors, if_neg c_1, if_neg c_8, if_neg c_15, hcl_m1]) (by subst eM_19 eM_17; simp only [f_X3_guarantors, if_neg c_1, if_neg c_8, if_neg c_15, hcl_m1])
        · exact absurd c_16 (by decide)
      · refine lv_iconst (v := 1) hx hb dX3_guarantors_31 (by decide) ?_
        refine lv_goto (tgt := 45) hx hb dX3_guarantors_32 (by decide) ?_
        refine z_M (X := ([] : va_W)) (Z := ([] : va_W)) (va_runV (As := [.int 1]) (rest := []) ⟨hx, hb, hml, hown, hts⟩ (zc_X3_holds l D cA a M N h 1) (cwV 1 hts gX3_guarantors_X3_holds rfl rfl rfl zy_X3_holds ⟨Nat.le_of_ble_eq_true rfl, Nat.le_of_ble_eq_true rfl⟩) (z_preV (ci := 3) hK hP hD rfl rfl) rfl rfl hl.1 rfl (lv_room (Nat.le_of_ble_eq_true rfl)) dX3_guarantors_45 ⟨Nat.zero_le _, Nat.zero_le _⟩) hP hD hS moW_adr rfl (fun H locs hP9 hD9 hS9 => ?_)
        replace hP : va_P D vwCl (moW cA a ((f_X3_holds M 1).2) N h) H := hP9
        replace hD : va_D _ (moW cA a ((f_X3_holds M 1).2) N h) := hD9
        replace hS := hS9
        clear hP9 hD9 hS9
        obtain ⟨M_20, eM_20⟩ : ∃ z9 : BK, z9 = (f_X3_holds M 1).2 := ⟨_, rfl⟩
        rw [← eM_20] at hP hD
        refine z_top (y := 0) (by simp only [f_X3_holds]; rfl) ?_
        refine lv_if_eq (tgt := 60) hx hb dX3_guarantors_48 (by decide) (fun c_21 => ?_) (fun c_21 => ?_)
        · refine lv_iconst (v := 0) hx hb dX3_guarantors_60 (by decide) ?_
          exact z_iretM (w1 := moW cA a M_20 N h) hx hb hr hlocks dX3_guarantors_61 hP hS (by subst eM_20; simp only [f_X3_guarantors, if_neg c_1, if_neg c_8, if_pos c_15]) (by subst eM_20; simp only [f_X3_guarantors, if_neg c_1, if_neg c_8, if_pos c_15])
        · exact absurd c_21 (by decide)

theorem zy_X3_lasts : yX3_lasts.cls = RX3 ∧ yX3_lasts.cls ≠ "java/lang/invoke/MethodHandle" ∧ yX3_lasts.cls ≠ "java/lang/invoke/VarHandle" ∧ (parseMethodDescriptor yX3_lasts.desc).map (fun d => d.parameters.length) = some 1 := by decide +kernel
def f_X3_lasts (M : BK) (mb : Nat) : Int32 :=
  if (f_X3_of M mb 2) = 0 then
    0
  else
    (((f_X3_of M mb 2) + (f_X3_of M mb 3)) - 1) / (f_X3_of M mb 3)

set_option maxHeartbeats 4000000 in
set_option maxRecDepth 100000 in
theorem zc_X3_lasts (l : Launch) (D : va_G) (cA : Nat → ClassId) (a : Nat → Nat) (M : BK) (N : Nat → Nat) (h : Int64) (mb : Nat) (hmb : mb < 6) (hpt : zpt (M 0)) : Met l yX3_lasts wsX3_lasts (zrm 1 22) (zPc D cA [.ref (a 0), .int (nI mb)] (moW cA a M N h)) (zE (some (.int (f_X3_lasts M mb)))) 0 0 (fun _ => False) := by
  refine Met.ofW (cc := cX3_lasts) (maxL := 3) (ret := (some .int)) (by decide) rfl ?_
  intro p e s m args below meth c s₁ Bd hml hv
  obtain ⟨rfl, hP, hK, hD0⟩ := hv
  have hx := Bd.exec
  have hb := Bd.bytes
  have hr := Bd.returns
  have hts := atoms_spec (ws := wsX3_lasts) Bd.pre
  have hown : s.vm.findClass RX3 = some m.cls := findClass_of_methodNamed Bd.named
  have hlocks := Bd.notSynchronized
  have hD := z_Dfr hD0
  have hS : va_S (zfr (moW cA a M N h)) s.heap s.heap [] := va_S.rf
  have hi3 : ∀ w ∈ wsX30, w ∈ wsX3_lasts := fun w h => List.mem_cons_of_mem _ (List.mem_append_right _ h)
  have hl := lv_entry ([.ref (a 0), .int (nI mb)]) (n := 3) (Nat.le_of_ble_eq_true rfl)
  rw [lg_entry_eq]
  generalize (lg_sl ([.ref (a 0), .int (nI mb)]) ++ List.replicate (3 - (lg_sl ([.ref (a 0), .int (nI mb)])).length) Slot.unset).toArray = ls at hl ⊢
  have hl : lv_has ls 3 [(0, .ref (a 0)), (1, .int (nI mb))] := hl
  refine lv_aload_n hx hb dX3_lasts_0 rfl (lv_at hl 0 rfl) ?_
  refine lv_iload_n hx hb dX3_lasts_1 rfl (lv_at hl 1 rfl) ?_
  refine lv_iconst (v := 2) hx hb dX3_lasts_2 (by decide) ?_
  refine z_E (va_runV (As := [.int (nI mb), .int 2]) (rest := []) ⟨hx, hb, hml, hown, hts⟩ (zc_X3_of l D cA a M N h mb 2 (by omega) (by omega)) (cwV 2 hts gX3_lasts_X3_of rfl rfl rfl zy_X3_of ⟨Nat.le_of_ble_eq_true rfl, Nat.le_of_ble_eq_true rfl⟩) (z_preV (ci := 3) hK hP hD rfl rfl) rfl rfl hl.1 rfl (lv_room (Nat.le_of_ble_eq_true rfl)) dX3_lasts_3 ⟨Nat.zero_le _, Nat.zero_le _⟩) rfl ?_
  refine lv_istore_n (lv' := [(2, .int (f_X3_of M mb 2)), (0, .ref (a 0)), (1, .int (nI mb))]) hx hb dX3_lasts_6 rfl hl (by decide) rfl (fun ls hl => ?_)
  refine lv_iload_n hx hb dX3_lasts_7 rfl (lv_at hl 0 rfl) ?_
  refine lv_if_ne (tgt := 15) hx hb dX3_lasts_8 (by decide) (fun c_1 => ?_) (fun c_1 => ?_)
  · refine lv_iload_n hx hb dX3_lasts_15 rfl (lv_at hl 0 rfl) ?_
    refine lv_aload_n hx hb dX3_lasts_16 rfl (lv_at hl 1 rfl) ?_
    refine lv_iload_n hx hb dX3_lasts_17 rfl (lv_at hl 2 rfl) ?_
    refine lv_iconst (v := 3) hx hb dX3_lasts_18 (by decide) ?_
    refine z_E (va_runV (As := [.int (nI mb), .int 3]) (rest := [.int (f_X3_of M mb 2)]) ⟨hx, hb, hml, hown, hts⟩ (zc_X3_of l D cA a M N h mb 3 (by omega) (by omega)) (cwV 2 hts gX3_lasts_X3_of rfl rfl rfl zy_X3_of ⟨Nat.le_of_ble_eq_true rfl, Nat.le_of_ble_eq_true rfl⟩) (z_preV (ci := 3) hK hP hD rfl rfl) rfl rfl hl.1 rfl (lv_room (Nat.le_of_ble_eq_true rfl)) dX3_lasts_19 ⟨Nat.zero_le _, Nat.zero_le _⟩) rfl ?_
    refine lv_iadd hx hb dX3_lasts_22 ?_
    refine lv_iconst (v := 1) hx hb dX3_lasts_23 (by decide) ?_
    refine lv_isub hx hb dX3_lasts_24 ?_
    refine lv_aload_n hx hb dX3_lasts_25 rfl (lv_at hl 1 rfl) ?_
    refine lv_iload_n hx hb dX3_lasts_26 rfl (lv_at hl 2 rfl) ?_
    refine lv_iconst (v := 3) hx hb dX3_lasts_27 (by decide) ?_
    refine z_E (va_runV (As := [.int (nI mb), .int 3]) (rest := [.int (((f_X3_of M mb 2) + (f_X3_of M mb 3)) - 1)]) ⟨hx, hb, hml, hown, hts⟩ (zc_X3_of l D cA a M N h mb 3 (by omega) (by omega)) (cwV 2 hts gX3_lasts_X3_of rfl rfl rfl zy_X3_of ⟨Nat.le_of_ble_eq_true rfl, Nat.le_of_ble_eq_true rfl⟩) (z_preV (ci := 3) hK hP hD rfl rfl) rfl rfl hl.1 rfl (lv_room (Nat.le_of_ble_eq_true rfl)) dX3_lasts_28 ⟨Nat.zero_le _, Nat.zero_le _⟩) rfl ?_
    refine lv_idiv hx hb dX3_lasts_31 (hpt mb (by assumption) c_1) ?_
    exact z_iretE hx hb hr hlocks dX3_lasts_32 (by simp only [f_X3_lasts, if_neg c_1])
  · refine lv_iconst (v := 0) hx hb dX3_lasts_11 (by decide) ?_
    refine lv_goto (tgt := 32) hx hb dX3_lasts_12 (by decide) ?_
    exact z_iretE hx hb hr hlocks dX3_lasts_32 (by simp only [f_X3_lasts, if_pos c_1])

theorem zy_X3_weeksLeft : yX3_weeksLeft.cls = RX3 ∧ yX3_weeksLeft.cls ≠ "java/lang/invoke/MethodHandle" ∧ yX3_weeksLeft.cls ≠ "java/lang/invoke/VarHandle" ∧ (parseMethodDescriptor yX3_weeksLeft.desc).map (fun d => d.parameters.length) = some 2 := by decide +kernel
def f_X3_weeksLeft (M : BK) (i1 : Int32) (i2 : Int32) : Int32 × BK :=
  if (f_X3_isMember i1) = 0 then
    let M_7 : BK := (f_X3_holds M 1).2
    (0, M_7)
  else
    if (f_X3_in i2 0 1) = 0 then
      let M_5 : BK := (f_X3_holds M 2).2
      (0, M_5)
    else
      let M_3 : BK := (f_X3_holds M 0).2
      (f_X3_lasts M_3 i1.toNatClampNeg, M_3)

set_option maxHeartbeats 4000000 in
set_option maxRecDepth 100000 in
theorem zc_X3_weeksLeft (l : Launch) (D : va_G) (cA : Nat → ClassId) (a : Nat → Nat) (M : BK) (N : Nat → Nat) (h : Int64) (i1 : Int32) (i2 : Int32) (hpt : zpt (M 0)) : Met l yX3_weeksLeft wsX3_weeksLeft (zrm 2 44) (zPc D cA [.ref (a 0), .int i1, .int i2] (moW cA a M N h)) (zM D (moW cA a M N h) (moW cA a ((f_X3_weeksLeft M i1 i2).2) N h) (some (.int ((f_X3_weeksLeft M i1 i2).1)))) 0 0 (zfr (moW cA a M N h)) := by
  refine Met.ofW (cc := cX3_weeksLeft) (maxL := 3) (ret := (some .int)) (by decide) rfl ?_
  intro p e s m args below meth c s₁ Bd hml hv
  obtain ⟨rfl, hP, hK, hD0⟩ := hv
  have hx := Bd.exec
  have hb := Bd.bytes
  have hr := Bd.returns
  have hts := atoms_spec (ws := wsX3_weeksLeft) Bd.pre
  have hown : s.vm.findClass RX3 = some m.cls := findClass_of_methodNamed Bd.named
  have hlocks := Bd.notSynchronized
  have hD := z_Dfr hD0
  have hS : va_S (zfr (moW cA a M N h)) s.heap s.heap [] := va_S.rf
  have hi3 : ∀ w ∈ wsX30, w ∈ wsX3_weeksLeft := fun w h => List.mem_cons_of_mem _ (List.mem_append_right _ h)
  have hl := lv_entry ([.ref (a 0), .int i1, .int i2]) (n := 3) (Nat.le_of_ble_eq_true rfl)
  rw [lg_entry_eq]
  generalize (lg_sl ([.ref (a 0), .int i1, .int i2]) ++ List.replicate (3 - (lg_sl ([.ref (a 0), .int i1, .int i2])).length) Slot.unset).toArray = ls at hl ⊢
  have hl : lv_has ls 3 [(0, .ref (a 0)), (1, .int i1), (2, .int i2)] := hl
  refine lv_aload_n hx hb dX3_weeksLeft_0 rfl (lv_at hl 0 rfl) ?_
  refine lv_iload_n hx hb dX3_weeksLeft_1 rfl (lv_at hl 1 rfl) ?_
  refine z_E (va_runS (As := [.int i1]) (rest := [.ref (a 0)]) ⟨hx, hb, hml, hown, hts⟩ (zc_X3_isMember l D cA i1) (va_cwS 1 hts gX3_weeksLeft_X3_isMember rfl rfl rfl zy_X3_isMember.2 ⟨Nat.le_of_ble_eq_true rfl, Nat.le_of_ble_eq_true rfl⟩) (z_preS hK z_P0 (z_D0 (A := fun _ => True))) rfl rfl hl.1 rfl (lv_room (Nat.le_of_ble_eq_true rfl)) dX3_weeksLeft_2 ⟨Nat.zero_le _, Nat.zero_le _⟩) rfl ?_
  refine lv_if_ne (tgt := 12) hx hb dX3_weeksLeft_5 (by decide) (fun c_1 => ?_) (fun c_1 => ?_)
  · obtain ⟨m1, hm1, rfl⟩ : ∃ q9 : Nat, q9 < 6 ∧ i1 = nI q9 := zq_isMember c_1
    have hcl_m1 : (nI m1).toNatClampNeg = m1 := nI_clamp (by omega)
    refine lv_iload_n hx hb dX3_weeksLeft_12 rfl (lv_at hl 2 rfl) ?_
    refine lv_iconst (v := 0) hx hb dX3_weeksLeft_13 (by decide) ?_
    refine lv_iconst (v := 1) hx hb dX3_weeksLeft_14 (by decide) ?_
    refine z_E (va_runS (As := [.int i2, .int 0, .int 1]) (rest := [.ref (a 0)]) ⟨hx, hb, hml, hown, hts⟩ (zc_X3_in l D cA i2 0 1) (va_cwS 3 hts gX3_weeksLeft_X3_in rfl rfl rfl zy_X3_in.2 ⟨Nat.le_of_ble_eq_true rfl, Nat.le_of_ble_eq_true rfl⟩) (z_preS hK z_P0 (z_D0 (A := fun _ => True))) rfl rfl hl.1 rfl (lv_room (Nat.le_of_ble_eq_true rfl)) dX3_weeksLeft_15 ⟨Nat.zero_le _, Nat.zero_le _⟩) rfl ?_
    refine lv_if_ne (tgt := 25) hx hb dX3_weeksLeft_18 (by decide) (fun c_2 => ?_) (fun c_2 => ?_)
    · refine lv_iconst (v := 0) hx hb dX3_weeksLeft_25 (by decide) ?_
      refine z_M (X := ([] : va_W)) (Z := ([] : va_W)) (va_runV (As := [.int 0]) (rest := []) ⟨hx, hb, hml, hown, hts⟩ (zc_X3_holds l D cA a M N h 0) (cwV 1 hts gX3_weeksLeft_X3_holds rfl rfl rfl zy_X3_holds ⟨Nat.le_of_ble_eq_true rfl, Nat.le_of_ble_eq_true rfl⟩) (z_preV (ci := 3) hK hP hD rfl rfl) rfl rfl hl.1 rfl (lv_room (Nat.le_of_ble_eq_true rfl)) dX3_weeksLeft_26 ⟨Nat.zero_le _, Nat.zero_le _⟩) hP hD hS moW_adr rfl (fun H locs hP9 hD9 hS9 => ?_)
      replace hP : va_P D vwCl (moW cA a ((f_X3_holds M 0).2) N h) H := hP9
      replace hD : va_D _ (moW cA a ((f_X3_holds M 0).2) N h) := hD9
      replace hS := hS9
      clear hP9 hD9 hS9
      obtain ⟨M_3, eM_3⟩ : ∃ z9 : BK, z9 = (f_X3_holds M 0).2 := ⟨_, rfl⟩
      rw [← eM_3] at hP hD
      refine z_top (y := 1) (by simp only [f_X3_holds]; rfl) ?_
      refine lv_if_eq (tgt := 40) hx hb dX3_weeksLeft_29 (by decide) (fun c_4 => ?_) (fun c_4 => ?_)
      · exact absurd c_4 (by decide)
      · refine lv_aload_n hx hb dX3_weeksLeft_32 rfl (lv_at hl 0 rfl) ?_
        refine lv_iload_n hx hb dX3_weeksLeft_33 rfl (lv_at hl 1 rfl) ?_
        refine z_E (va_runV (As := [.int (nI m1)]) (rest := []) ⟨hx, hb, hml, hown, hts⟩ (zc_X3_lasts l D cA a M_3 N h m1 (by omega) (by rw [eM_3, zh_holds]; exact hpt)) (cwV 1 hts gX3_weeksLeft_X3_lasts rfl rfl rfl zy_X3_lasts ⟨Nat.le_of_ble_eq_true rfl, Nat.le_of_ble_eq_true rfl⟩) (z_preV (ci := 3) hK hP hD rfl rfl) rfl rfl hl.1 rfl (lv_room (Nat.le_of_ble_eq_true rfl)) dX3_weeksLeft_34 ⟨Nat.zero_le _, Nat.zero_le _⟩) rfl ?_
        refine lv_goto (tgt := 41) hx hb dX3_weeksLeft_37 (by decide) ?_
        exact z_iretM (w1 := moW cA a M_3 N h) hx hb hr hlocks dX3_weeksLeft_41 hP hS (by subst eM_3; simp only [f_X3_weeksLeft, if_neg c_1, if_neg c_2, hcl_m1]) (by subst eM_3; simp only [f_X3_weeksLeft, if_neg c_1, if_neg c_2, hcl_m1])
    · refine lv_iconst (v := 2) hx hb dX3_weeksLeft_21 (by decide) ?_
      refine lv_goto (tgt := 26) hx hb dX3_weeksLeft_22 (by decide) ?_
      refine z_M (X := ([] : va_W)) (Z := ([] : va_W)) (va_runV (As := [.int 2]) (rest := []) ⟨hx, hb, hml, hown, hts⟩ (zc_X3_holds l D cA a M N h 2) (cwV 1 hts gX3_weeksLeft_X3_holds rfl rfl rfl zy_X3_holds ⟨Nat.le_of_ble_eq_true rfl, Nat.le_of_ble_eq_true rfl⟩) (z_preV (ci := 3) hK hP hD rfl rfl) rfl rfl hl.1 rfl (lv_room (Nat.le_of_ble_eq_true rfl)) dX3_weeksLeft_26 ⟨Nat.zero_le _, Nat.zero_le _⟩) hP hD hS moW_adr rfl (fun H locs hP9 hD9 hS9 => ?_)
      replace hP : va_P D vwCl (moW cA a ((f_X3_holds M 2).2) N h) H := hP9
      replace hD : va_D _ (moW cA a ((f_X3_holds M 2).2) N h) := hD9
      replace hS := hS9
      clear hP9 hD9 hS9
      obtain ⟨M_5, eM_5⟩ : ∃ z9 : BK, z9 = (f_X3_holds M 2).2 := ⟨_, rfl⟩
      rw [← eM_5] at hP hD
      refine z_top (y := 0) (by simp only [f_X3_holds]; rfl) ?_
      refine lv_if_eq (tgt := 40) hx hb dX3_weeksLeft_29 (by decide) (fun c_6 => ?_) (fun c_6 => ?_)
      · refine lv_iconst (v := 0) hx hb dX3_weeksLeft_40 (by decide) ?_
        exact z_iretM (w1 := moW cA a M_5 N h) hx hb hr hlocks dX3_weeksLeft_41 hP hS (by subst eM_5; simp only [f_X3_weeksLeft, if_neg c_1, if_pos c_2, hcl_m1]) (by subst eM_5; simp only [f_X3_weeksLeft, if_neg c_1, if_pos c_2, hcl_m1])
      · exact absurd c_6 (by decide)
  · refine lv_iconst (v := 1) hx hb dX3_weeksLeft_8 (by decide) ?_
    refine lv_goto (tgt := 26) hx hb dX3_weeksLeft_9 (by decide) ?_
    refine z_M (X := ([] : va_W)) (Z := ([] : va_W)) (va_runV (As := [.int 1]) (rest := []) ⟨hx, hb, hml, hown, hts⟩ (zc_X3_holds l D cA a M N h 1) (cwV 1 hts gX3_weeksLeft_X3_holds rfl rfl rfl zy_X3_holds ⟨Nat.le_of_ble_eq_true rfl, Nat.le_of_ble_eq_true rfl⟩) (z_preV (ci := 3) hK hP hD rfl rfl) rfl rfl hl.1 rfl (lv_room (Nat.le_of_ble_eq_true rfl)) dX3_weeksLeft_26 ⟨Nat.zero_le _, Nat.zero_le _⟩) hP hD hS moW_adr rfl (fun H locs hP9 hD9 hS9 => ?_)
    replace hP : va_P D vwCl (moW cA a ((f_X3_holds M 1).2) N h) H := hP9
    replace hD : va_D _ (moW cA a ((f_X3_holds M 1).2) N h) := hD9
    replace hS := hS9
    clear hP9 hD9 hS9
    obtain ⟨M_7, eM_7⟩ : ∃ z9 : BK, z9 = (f_X3_holds M 1).2 := ⟨_, rfl⟩
    rw [← eM_7] at hP hD
    refine z_top (y := 0) (by simp only [f_X3_holds]; rfl) ?_
    refine lv_if_eq (tgt := 40) hx hb dX3_weeksLeft_29 (by decide) (fun c_8 => ?_) (fun c_8 => ?_)
    · refine lv_iconst (v := 0) hx hb dX3_weeksLeft_40 (by decide) ?_
      exact z_iretM (w1 := moW cA a M_7 N h) hx hb hr hlocks dX3_weeksLeft_41 hP hS (by subst eM_7; simp only [f_X3_weeksLeft, if_pos c_1]) (by subst eM_7; simp only [f_X3_weeksLeft, if_pos c_1])
    · exact absurd c_8 (by decide)

theorem zy_X3_ifDivided : yX3_ifDivided.cls = RX3 ∧ yX3_ifDivided.cls ≠ "java/lang/invoke/MethodHandle" ∧ yX3_ifDivided.cls ≠ "java/lang/invoke/VarHandle" ∧ (parseMethodDescriptor yX3_ifDivided.desc).map (fun d => d.parameters.length) = some 1 := by decide +kernel
def f_X3_ifDivided (M : BK) (i1 : Int32) : Int32 × BK :=
  if (f_X3_isMember i1) = 0 then
    let M_2 : BK := (f_X3_holds M 1).2
    (0, M_2)
  else
    let M_4 : BK := (f_X3_holds M 0).2
    (f_X3_share M_4 i1.toNatClampNeg, M_4)

set_option maxHeartbeats 4000000 in
set_option maxRecDepth 100000 in
theorem zc_X3_ifDivided (l : Launch) (D : va_G) (cA : Nat → ClassId) (a : Nat → Nat) (M : BK) (N : Nat → Nat) (h : Int64) (i1 : Int32)  : Met l yX3_ifDivided wsX3_ifDivided (zrm 3 68) (zPc D cA [.ref (a 0), .int i1] (moW cA a M N h)) (zM D (moW cA a M N h) (moW cA a ((f_X3_ifDivided M i1).2) N h) (some (.int ((f_X3_ifDivided M i1).1)))) 0 0 (zfr (moW cA a M N h)) := by
  refine Met.ofW (cc := cX3_ifDivided) (maxL := 2) (ret := (some .int)) (by decide) rfl ?_
  intro p e s m args below meth c s₁ Bd hml hv
  obtain ⟨rfl, hP, hK, hD0⟩ := hv
  have hx := Bd.exec
  have hb := Bd.bytes
  have hr := Bd.returns
  have hts := atoms_spec (ws := wsX3_ifDivided) Bd.pre
  have hown : s.vm.findClass RX3 = some m.cls := findClass_of_methodNamed Bd.named
  have hlocks := Bd.notSynchronized
  have hD := z_Dfr hD0
  have hS : va_S (zfr (moW cA a M N h)) s.heap s.heap [] := va_S.rf
  have hi3 : ∀ w ∈ wsX30, w ∈ wsX3_ifDivided := fun w h => List.mem_cons_of_mem _ (List.mem_append_right _ h)
  have hl := lv_entry ([.ref (a 0), .int i1]) (n := 2) (Nat.le_of_ble_eq_true rfl)
  rw [lg_entry_eq]
  generalize (lg_sl ([.ref (a 0), .int i1]) ++ List.replicate (2 - (lg_sl ([.ref (a 0), .int i1])).length) Slot.unset).toArray = ls at hl ⊢
  have hl : lv_has ls 2 [(0, .ref (a 0)), (1, .int i1)] := hl
  refine lv_aload_n hx hb dX3_ifDivided_0 rfl (lv_at hl 0 rfl) ?_
  refine lv_iload_n hx hb dX3_ifDivided_1 rfl (lv_at hl 1 rfl) ?_
  refine z_E (va_runS (As := [.int i1]) (rest := [.ref (a 0)]) ⟨hx, hb, hml, hown, hts⟩ (zc_X3_isMember l D cA i1) (va_cwS 1 hts gX3_ifDivided_X3_isMember rfl rfl rfl zy_X3_isMember.2 ⟨Nat.le_of_ble_eq_true rfl, Nat.le_of_ble_eq_true rfl⟩) (z_preS hK z_P0 (z_D0 (A := fun _ => True))) rfl rfl hl.1 rfl (lv_room (Nat.le_of_ble_eq_true rfl)) dX3_ifDivided_2 ⟨Nat.zero_le _, Nat.zero_le _⟩) rfl ?_
  refine lv_if_eq (tgt := 12) hx hb dX3_ifDivided_5 (by decide) (fun c_1 => ?_) (fun c_1 => ?_)
  · refine lv_iconst (v := 1) hx hb dX3_ifDivided_12 (by decide) ?_
    refine z_M (X := ([] : va_W)) (Z := ([] : va_W)) (va_runV (As := [.int 1]) (rest := []) ⟨hx, hb, hml, hown, hts⟩ (zc_X3_holds l D cA a M N h 1) (cwV 1 hts gX3_ifDivided_X3_holds rfl rfl rfl zy_X3_holds ⟨Nat.le_of_ble_eq_true rfl, Nat.le_of_ble_eq_true rfl⟩) (z_preV (ci := 3) hK hP hD rfl rfl) rfl rfl hl.1 rfl (lv_room (Nat.le_of_ble_eq_true rfl)) dX3_ifDivided_13 ⟨Nat.zero_le _, Nat.zero_le _⟩) hP hD hS moW_adr rfl (fun H locs hP9 hD9 hS9 => ?_)
    replace hP : va_P D vwCl (moW cA a ((f_X3_holds M 1).2) N h) H := hP9
    replace hD : va_D _ (moW cA a ((f_X3_holds M 1).2) N h) := hD9
    replace hS := hS9
    clear hP9 hD9 hS9
    obtain ⟨M_2, eM_2⟩ : ∃ z9 : BK, z9 = (f_X3_holds M 1).2 := ⟨_, rfl⟩
    rw [← eM_2] at hP hD
    refine z_top (y := 0) (by simp only [f_X3_holds]; rfl) ?_
    refine lv_if_eq (tgt := 27) hx hb dX3_ifDivided_16 (by decide) (fun c_3 => ?_) (fun c_3 => ?_)
    · refine lv_iconst (v := 0) hx hb dX3_ifDivided_27 (by decide) ?_
      exact z_iretM (w1 := moW cA a M_2 N h) hx hb hr hlocks dX3_ifDivided_28 hP hS (by subst eM_2; simp only [f_X3_ifDivided, if_pos c_1]) (by subst eM_2; simp only [f_X3_ifDivided, if_pos c_1])
    · exact absurd c_3 (by decide)
  · obtain ⟨m1, hm1, rfl⟩ : ∃ q9 : Nat, q9 < 6 ∧ i1 = nI q9 := zq_isMember c_1
    have hcl_m1 : (nI m1).toNatClampNeg = m1 := nI_clamp (by omega)
    refine lv_iconst (v := 0) hx hb dX3_ifDivided_8 (by decide) ?_
    refine lv_goto (tgt := 13) hx hb dX3_ifDivided_9 (by decide) ?_
    refine z_M (X := ([] : va_W)) (Z := ([] : va_W)) (va_runV (As := [.int 0]) (rest := []) ⟨hx, hb, hml, hown, hts⟩ (zc_X3_holds l D cA a M N h 0) (cwV 1 hts gX3_ifDivided_X3_holds rfl rfl rfl zy_X3_holds ⟨Nat.le_of_ble_eq_true rfl, Nat.le_of_ble_eq_true rfl⟩) (z_preV (ci := 3) hK hP hD rfl rfl) rfl rfl hl.1 rfl (lv_room (Nat.le_of_ble_eq_true rfl)) dX3_ifDivided_13 ⟨Nat.zero_le _, Nat.zero_le _⟩) hP hD hS moW_adr rfl (fun H locs hP9 hD9 hS9 => ?_)
    replace hP : va_P D vwCl (moW cA a ((f_X3_holds M 0).2) N h) H := hP9
    replace hD : va_D _ (moW cA a ((f_X3_holds M 0).2) N h) := hD9
    replace hS := hS9
    clear hP9 hD9 hS9
    obtain ⟨M_4, eM_4⟩ : ∃ z9 : BK, z9 = (f_X3_holds M 0).2 := ⟨_, rfl⟩
    rw [← eM_4] at hP hD
    refine z_top (y := 1) (by simp only [f_X3_holds]; rfl) ?_
    refine lv_if_eq (tgt := 27) hx hb dX3_ifDivided_16 (by decide) (fun c_5 => ?_) (fun c_5 => ?_)
    · exact absurd c_5 (by decide)
    · refine lv_aload_n hx hb dX3_ifDivided_19 rfl (lv_at hl 0 rfl) ?_
      refine lv_iload_n hx hb dX3_ifDivided_20 rfl (lv_at hl 1 rfl) ?_
      refine z_E (va_runV (As := [.int (nI m1)]) (rest := []) ⟨hx, hb, hml, hown, hts⟩ (zc_X3_share l D cA a M_4 N h m1 (by omega)) (cwV 1 hts gX3_ifDivided_X3_share rfl rfl rfl zy_X3_share ⟨Nat.le_of_ble_eq_true rfl, Nat.le_of_ble_eq_true rfl⟩) (z_preV (ci := 3) hK hP hD rfl rfl) rfl rfl hl.1 rfl (lv_room (Nat.le_of_ble_eq_true rfl)) dX3_ifDivided_21 ⟨Nat.zero_le _, Nat.zero_le _⟩) rfl ?_
      refine lv_goto (tgt := 28) hx hb dX3_ifDivided_24 (by decide) ?_
      exact z_iretM (w1 := moW cA a M_4 N h) hx hb hr hlocks dX3_ifDivided_28 hP hS (by subst eM_4; simp only [f_X3_ifDivided, if_neg c_1, hcl_m1]) (by subst eM_4; simp only [f_X3_ifDivided, if_neg c_1, hcl_m1])

theorem zy_X3_risky : yX3_risky.cls = RX3 ∧ yX3_risky.cls ≠ "java/lang/invoke/MethodHandle" ∧ yX3_risky.cls ≠ "java/lang/invoke/VarHandle" ∧ (parseMethodDescriptor yX3_risky.desc).map (fun d => d.parameters.length) = some 0 := by decide +kernel
def f_X3_risky_6 (M : BK) (i0 : Int32) (i1 : Int32) : Nat → Int32 × Int32
  | 0 => (i0, i1)
  | n + 1 =>
    let y0_6 : Int32 := (f_X3_risky_6 M i0 i1 n).1
    let y1_6 : Int32 := (f_X3_risky_6 M i0 i1 n).2
    if (f_X3_of M n 2) ≤ 0 then
      (y0_6, y1_6)
    else
      if ((f_X3_of M n 2) - (f_X3_own M n)) ≤ y1_6 then
        (y0_6, y1_6)
      else
        (nI n, (f_X3_of M n 2) - (f_X3_own M n))
def f_X3_risky (M : BK) : Int32 :=
  let y0_6 : Int32 := (f_X3_risky_6 M (-1) 0 6).1
  let y1_6 : Int32 := (f_X3_risky_6 M (-1) 0 6).2
  y0_6

set_option maxHeartbeats 4000000 in
set_option maxRecDepth 100000 in
theorem zc_X3_risky (l : Launch) (D : va_G) (cA : Nat → ClassId) (a : Nat → Nat) (M : BK) (N : Nat → Nat) (h : Int64)  : Met l yX3_risky wsX3_risky (zrm 3 66) (zPc D cA [.ref (a 0)] (moW cA a M N h)) (zE (some (.int (f_X3_risky M)))) 0 0 (fun _ => False) := by
  refine Met.ofW (cc := cX3_risky) (maxL := 6) (ret := (some .int)) (by decide) rfl ?_
  intro p e s m args below meth c s₁ Bd hml hv
  obtain ⟨rfl, hP, hK, hD0⟩ := hv
  have hx := Bd.exec
  have hb := Bd.bytes
  have hr := Bd.returns
  have hts := atoms_spec (ws := wsX3_risky) Bd.pre
  have hown : s.vm.findClass RX3 = some m.cls := findClass_of_methodNamed Bd.named
  have hlocks := Bd.notSynchronized
  have hD := z_Dfr hD0
  have hS : va_S (zfr (moW cA a M N h)) s.heap s.heap [] := va_S.rf
  have hi3 : ∀ w ∈ wsX30, w ∈ wsX3_risky := fun w h => List.mem_cons_of_mem _ (List.mem_append_right _ h)
  have hl := lv_entry ([.ref (a 0)]) (n := 6) (Nat.le_of_ble_eq_true rfl)
  rw [lg_entry_eq]
  generalize (lg_sl ([.ref (a 0)]) ++ List.replicate (6 - (lg_sl ([.ref (a 0)])).length) Slot.unset).toArray = ls at hl ⊢
  have hl : lv_has ls 6 [(0, .ref (a 0))] := hl
  refine lv_iconst (v := (-1)) hx hb dX3_risky_0 (by decide) ?_
  refine lv_istore_n (lv' := [(1, .int (-1)), (0, .ref (a 0))]) hx hb dX3_risky_1 rfl hl (by decide) rfl (fun ls hl => ?_)
  refine lv_iconst (v := 0) hx hb dX3_risky_2 (by decide) ?_
  refine lv_istore_n (lv' := [(2, .int 0), (1, .int (-1)), (0, .ref (a 0))]) hx hb dX3_risky_3 rfl hl (by decide) rfl (fun ls hl => ?_)
  refine lv_iconst (v := 0) hx hb dX3_risky_4 (by decide) ?_
  refine lv_istore_n (lv' := [(3, .int 0), (2, .int 0), (1, .int (-1)), (0, .ref (a 0))]) hx hb dX3_risky_5 rfl hl (by decide) rfl (fun ls hl => ?_)
  have loop_6 : ∀ (kk : Nat) (n : Nat) (y0_6 : Int32) (y1_6 : Int32), n ≤ 6 → 6 - n < kk → y0_6 = (f_X3_risky_6 M (-1) 0 n).1 → y1_6 = (f_X3_risky_6 M (-1) 0 n).2 → ∀ (ls : Array Slot), lv_has ls 6 [(0, .ref (a 0)), (1, .int y0_6), (2, .int y1_6), (3, .int (nI n))] → W p l e (headSpec wsX3_risky (zrm 3 66)).room s m ([.ref (a 0)] : List Value).toArray below meth c s.heap [] 0 0 (MQ below (zE (some (.int (f_X3_risky M)))) ([.ref (a 0)] : List Value).toArray s 0 0 (fun _ => False)) (F0 m 6 ls []) := by
    intro kk
    induction kk with
    | zero => intro n y0_6 y1_6 _ h9; exact absurd h9 (Nat.not_lt_zero _)
    | succ kk ih_6 =>
      intro n y0_6 y1_6 hn_6 hm_6 q_y0_6 q_y1_6 ls hl
      refine lv_iload_n hx hb dX3_risky_6 rfl (lv_at hl 3 rfl) ?_
      refine lv_bipush (v := 6) hx hb dX3_risky_7 (by decide) ?_
      refine lv_icmp_ge (tgt := 77) hx hb dX3_risky_9 (by decide) (fun c_1 => ?_) (fun c_1 => ?_)
      · have c_1 : 6 ≤ n := (nI_leI (a := 6) (b := n) (by omega) (by omega)).mp c_1
        obtain rfl : n = 6 := by omega
        obtain ⟨z_6, hz_6⟩ : ∃ z9, z9 = f_X3_risky_6 M (-1) 0 6 := ⟨_, rfl⟩
        rw [← hz_6] at q_y0_6 q_y1_6
        refine lv_iload_n hx hb dX3_risky_77 rfl (lv_at hl 1 rfl) ?_
        exact z_iretE hx hb hr hlocks dX3_risky_78 (by subst q_y1_6 q_y0_6; first | (simp -proj only [f_X3_risky, ← hz_6]; first | done | rfl; done) | rfl)
      · have c_1 : ¬ 6 ≤ n := fun h9 => c_1 ((nI_leI (a := 6) (b := n) (by omega) (by omega)).mpr h9)
        refine lv_aload_n hx hb dX3_risky_12 rfl (lv_at hl 0 rfl) ?_
        refine lv_iload_n hx hb dX3_risky_13 rfl (lv_at hl 3 rfl) ?_
        refine lv_iconst (v := 2) hx hb dX3_risky_14 (by decide) ?_
        refine z_E (va_runV (As := [.int (nI n), .int 2]) (rest := []) ⟨hx, hb, hml, hown, hts⟩ (zc_X3_of l D cA a M N h n 2 (by omega) (by omega)) (cwV 2 hts gX3_risky_X3_of rfl rfl rfl zy_X3_of ⟨Nat.le_of_ble_eq_true rfl, Nat.le_of_ble_eq_true rfl⟩) (z_preV (ci := 3) hK hP hD rfl rfl) rfl rfl hl.1 rfl (lv_room (Nat.le_of_ble_eq_true rfl)) dX3_risky_15 ⟨Nat.zero_le _, Nat.zero_le _⟩) rfl ?_
        refine lv_aload_n hx hb dX3_risky_18 rfl (lv_at hl 0 rfl) ?_
        refine lv_iload_n hx hb dX3_risky_19 rfl (lv_at hl 3 rfl) ?_
        refine z_E (va_runV (As := [.int (nI n)]) (rest := [.int (f_X3_of M n 2)]) ⟨hx, hb, hml, hown, hts⟩ (zc_X3_own l D cA a M N h n (by omega)) (cwV 1 hts gX3_risky_X3_own rfl rfl rfl zy_X3_own ⟨Nat.le_of_ble_eq_true rfl, Nat.le_of_ble_eq_true rfl⟩) (z_preV (ci := 3) hK hP hD rfl rfl) rfl rfl hl.1 rfl (lv_room (Nat.le_of_ble_eq_true rfl)) dX3_risky_20 ⟨Nat.zero_le _, Nat.zero_le _⟩) rfl ?_
        refine lv_isub hx hb dX3_risky_23 ?_
        refine lv_istore (lv' := [(4, .int ((f_X3_of M n 2) - (f_X3_own M n))), (0, .ref (a 0)), (1, .int y0_6), (2, .int y1_6), (3, .int (nI n))]) hx hb dX3_risky_24 hl (by decide) rfl (fun ls hl => ?_)
        refine lv_aload_n hx hb dX3_risky_26 rfl (lv_at hl 1 rfl) ?_
        refine lv_iload_n hx hb dX3_risky_27 rfl (lv_at hl 4 rfl) ?_
        refine lv_iconst (v := 2) hx hb dX3_risky_28 (by decide) ?_
        refine z_E (va_runV (As := [.int (nI n), .int 2]) (rest := []) ⟨hx, hb, hml, hown, hts⟩ (zc_X3_of l D cA a M N h n 2 (by omega) (by omega)) (cwV 2 hts gX3_risky_X3_of rfl rfl rfl zy_X3_of ⟨Nat.le_of_ble_eq_true rfl, Nat.le_of_ble_eq_true rfl⟩) (z_preV (ci := 3) hK hP hD rfl rfl) rfl rfl hl.1 rfl (lv_room (Nat.le_of_ble_eq_true rfl)) dX3_risky_29 ⟨Nat.zero_le _, Nat.zero_le _⟩) rfl ?_
        refine lv_if_le (tgt := 45) hx hb dX3_risky_32 (by decide) (fun c_2 => ?_) (fun c_2 => ?_)
        · refine lv_iconst (v := 0) hx hb dX3_risky_45 (by decide) ?_
          refine lv_istore (lv' := [(5, .int 0), (4, .int ((f_X3_of M n 2) - (f_X3_own M n))), (0, .ref (a 0)), (1, .int y0_6), (2, .int y1_6), (3, .int (nI n))]) hx hb dX3_risky_46 hl (by decide) rfl (fun ls hl => ?_)
          refine lv_iload hx hb dX3_risky_48 (lv_at hl 0 rfl) ?_
          refine lv_if_eq (tgt := 57) hx hb dX3_risky_50 (by decide) (fun c_3 => ?_) (fun c_3 => ?_)
          · refine lv_iload_n hx hb dX3_risky_57 rfl (lv_at hl 3 rfl) ?_
            refine lv_istore_n (lv' := [(1, .int y0_6), (5, .int 0), (4, .int ((f_X3_of M n 2) - (f_X3_own M n))), (0, .ref (a 0)), (2, .int y1_6), (3, .int (nI n))]) hx hb dX3_risky_58 rfl hl (by decide) rfl (fun ls hl => ?_)
            refine lv_iload hx hb dX3_risky_59 (lv_at hl 1 rfl) ?_
            refine lv_if_eq (tgt := 69) hx hb dX3_risky_61 (by decide) (fun c_4 => ?_) (fun c_4 => ?_)
            · refine lv_iload_n hx hb dX3_risky_69 rfl (lv_at hl 4 rfl) ?_
              refine lv_istore_n (lv' := [(2, .int y1_6), (1, .int y0_6), (5, .int 0), (4, .int ((f_X3_of M n 2) - (f_X3_own M n))), (0, .ref (a 0)), (3, .int (nI n))]) hx hb dX3_risky_70 rfl hl (by decide) rfl (fun ls hl => ?_)
              refine lv_iinc (v := nI (n + 1)) (lv' := [(3, .int (nI (n + 1))), (2, .int y1_6), (1, .int y0_6), (5, .int 0), (4, .int ((f_X3_of M n 2) - (f_X3_own M n))), (0, .ref (a 0))]) hx hb dX3_risky_71 hl (k := 5) rfl (by rw [show (Int32.ofInt 1) = nI 1 from by decide]; exact nI_add n 1) (by decide) rfl (fun ls hl => ?_)
              refine lv_goto (tgt := 6) hx hb dX3_risky_74 (by decide) ?_
              exact ih_6 (n + 1) _ _ (by omega) (by omega) (by subst q_y1_6 q_y0_6; simp -proj only [f_X3_risky_6, if_pos c_2]; first | done | rfl) (by subst q_y1_6 q_y0_6; simp -proj only [f_X3_risky_6, if_pos c_2]; first | done | rfl) ls (lv_sub hl [5, 2, 1, 0] rfl)
            · exact absurd c_4 (by decide)
          · exact absurd c_3 (by decide)
        · refine lv_iload hx hb dX3_risky_35 (lv_at hl 0 rfl) ?_
          refine lv_iload_n hx hb dX3_risky_37 rfl (lv_at hl 3 rfl) ?_
          refine lv_icmp_le (tgt := 45) hx hb dX3_risky_38 (by decide) (fun c_5 => ?_) (fun c_5 => ?_)
          · refine lv_iconst (v := 0) hx hb dX3_risky_45 (by decide) ?_
            refine lv_istore (lv' := [(5, .int 0), (4, .int ((f_X3_of M n 2) - (f_X3_own M n))), (0, .ref (a 0)), (1, .int y0_6), (2, .int y1_6), (3, .int (nI n))]) hx hb dX3_risky_46 hl (by decide) rfl (fun ls hl => ?_)
            refine lv_iload hx hb dX3_risky_48 (lv_at hl 0 rfl) ?_
            refine lv_if_eq (tgt := 57) hx hb dX3_risky_50 (by decide) (fun c_6 => ?_) (fun c_6 => ?_)
            · refine lv_iload_n hx hb dX3_risky_57 rfl (lv_at hl 3 rfl) ?_
              refine lv_istore_n (lv' := [(1, .int y0_6), (5, .int 0), (4, .int ((f_X3_of M n 2) - (f_X3_own M n))), (0, .ref (a 0)), (2, .int y1_6), (3, .int (nI n))]) hx hb dX3_risky_58 rfl hl (by decide) rfl (fun ls hl => ?_)
              refine lv_iload hx hb dX3_risky_59 (lv_at hl 1 rfl) ?_
              refine lv_if_eq (tgt := 69) hx hb dX3_risky_61 (by decide) (fun c_7 => ?_) (fun c_7 => ?_)
              · refine lv_iload_n hx hb dX3_risky_69 rfl (lv_at hl 4 rfl) ?_
                refine lv_istore_n (lv' := [(2, .int y1_6), (1, .int y0_6), (5, .int 0), (4, .int ((f_X3_of M n 2) - (f_X3_own M n))), (0, .ref (a 0)), (3, .int (nI n))]) hx hb dX3_risky_70 rfl hl (by decide) rfl (fun ls hl => ?_)
                refine lv_iinc (v := nI (n + 1)) (lv' := [(3, .int (nI (n + 1))), (2, .int y1_6), (1, .int y0_6), (5, .int 0), (4, .int ((f_X3_of M n 2) - (f_X3_own M n))), (0, .ref (a 0))]) hx hb dX3_risky_71 hl (k := 5) rfl (by rw [show (Int32.ofInt 1) = nI 1 from by decide]; exact nI_add n 1) (by decide) rfl (fun ls hl => ?_)
                refine lv_goto (tgt := 6) hx hb dX3_risky_74 (by decide) ?_
                exact ih_6 (n + 1) _ _ (by omega) (by omega) (by subst q_y1_6 q_y0_6; simp -proj only [f_X3_risky_6, if_neg c_2, if_pos c_5]; first | done | rfl) (by subst q_y1_6 q_y0_6; simp -proj only [f_X3_risky_6, if_neg c_2, if_pos c_5]; first | done | rfl) ls (lv_sub hl [5, 2, 1, 0] rfl)
              · exact absurd c_7 (by decide)
            · exact absurd c_6 (by decide)
          · refine lv_iconst (v := 1) hx hb dX3_risky_41 (by decide) ?_
            refine lv_goto (tgt := 46) hx hb dX3_risky_42 (by decide) ?_
            refine lv_istore (lv' := [(5, .int 1), (4, .int ((f_X3_of M n 2) - (f_X3_own M n))), (0, .ref (a 0)), (1, .int y0_6), (2, .int y1_6), (3, .int (nI n))]) hx hb dX3_risky_46 hl (by decide) rfl (fun ls hl => ?_)
            refine lv_iload hx hb dX3_risky_48 (lv_at hl 0 rfl) ?_
            refine lv_if_eq (tgt := 57) hx hb dX3_risky_50 (by decide) (fun c_8 => ?_) (fun c_8 => ?_)
            · exact absurd c_8 (by decide)
            · refine lv_iload_n hx hb dX3_risky_53 rfl (lv_at hl 5 rfl) ?_
              refine lv_goto (tgt := 58) hx hb dX3_risky_54 (by decide) ?_
              refine lv_istore_n (lv' := [(1, .int (nI n)), (5, .int 1), (4, .int ((f_X3_of M n 2) - (f_X3_own M n))), (0, .ref (a 0)), (2, .int y1_6), (3, .int (nI n))]) hx hb dX3_risky_58 rfl hl (by decide) rfl (fun ls hl => ?_)
              refine lv_iload hx hb dX3_risky_59 (lv_at hl 1 rfl) ?_
              refine lv_if_eq (tgt := 69) hx hb dX3_risky_61 (by decide) (fun c_9 => ?_) (fun c_9 => ?_)
              · exact absurd c_9 (by decide)
              · refine lv_iload hx hb dX3_risky_64 (lv_at hl 2 rfl) ?_
                refine lv_goto (tgt := 70) hx hb dX3_risky_66 (by decide) ?_
                refine lv_istore_n (lv' := [(2, .int ((f_X3_of M n 2) - (f_X3_own M n))), (1, .int (nI n)), (5, .int 1), (4, .int ((f_X3_of M n 2) - (f_X3_own M n))), (0, .ref (a 0)), (3, .int (nI n))]) hx hb dX3_risky_70 rfl hl (by decide) rfl (fun ls hl => ?_)
                refine lv_iinc (v := nI (n + 1)) (lv' := [(3, .int (nI (n + 1))), (2, .int ((f_X3_of M n 2) - (f_X3_own M n))), (1, .int (nI n)), (5, .int 1), (4, .int ((f_X3_of M n 2) - (f_X3_own M n))), (0, .ref (a 0))]) hx hb dX3_risky_71 hl (k := 5) rfl (by rw [show (Int32.ofInt 1) = nI 1 from by decide]; exact nI_add n 1) (by decide) rfl (fun ls hl => ?_)
                refine lv_goto (tgt := 6) hx hb dX3_risky_74 (by decide) ?_
                exact ih_6 (n + 1) _ _ (by omega) (by omega) (by subst q_y1_6 q_y0_6; simp -proj only [f_X3_risky_6, if_neg c_2, if_neg c_5]; first | done | rfl) (by subst q_y1_6 q_y0_6; simp -proj only [f_X3_risky_6, if_neg c_2, if_neg c_5]; first | done | rfl) ls (lv_sub hl [5, 2, 1, 0] rfl)
  exact loop_6 _ 0 _ _ (by omega) (Nat.lt_succ_self _) rfl rfl ls (lv_sub hl [3, 2, 1, 0] rfl)

theorem zy_X3_riskiest : yX3_riskiest.cls = RX3 ∧ yX3_riskiest.cls ≠ "java/lang/invoke/MethodHandle" ∧ yX3_riskiest.cls ≠ "java/lang/invoke/VarHandle" ∧ (parseMethodDescriptor yX3_riskiest.desc).map (fun d => d.parameters.length) = some 0 := by decide +kernel
def f_X3_riskiest (M : BK) : Int32 × BK :=
  (f_X3_risky (uB M 4 0 0), uB M 4 0 0)

set_option maxHeartbeats 4000000 in
set_option maxRecDepth 100000 in
theorem zc_X3_riskiest (l : Launch) (D : va_G) (cA : Nat → ClassId) (a : Nat → Nat) (M : BK) (N : Nat → Nat) (h : Int64)  : Met l yX3_riskiest wsX3_riskiest (zrm 4 91) (zPc D cA [.ref (a 0)] (moW cA a M N h)) (zM D (moW cA a M N h) (moW cA a ((f_X3_riskiest M).2) N h) (some (.int ((f_X3_riskiest M).1)))) 0 0 (zfr (moW cA a M N h)) := by
  refine Met.ofW (cc := cX3_riskiest) (maxL := 1) (ret := (some .int)) (by decide) rfl ?_
  intro p e s m args below meth c s₁ Bd hml hv
  obtain ⟨rfl, hP, hK, hD0⟩ := hv
  have hx := Bd.exec
  have hb := Bd.bytes
  have hr := Bd.returns
  have hts := atoms_spec (ws := wsX3_riskiest) Bd.pre
  have hown : s.vm.findClass RX3 = some m.cls := findClass_of_methodNamed Bd.named
  have hlocks := Bd.notSynchronized
  have hD := z_Dfr hD0
  have hS : va_S (zfr (moW cA a M N h)) s.heap s.heap [] := va_S.rf
  have hi3 : ∀ w ∈ wsX30, w ∈ wsX3_riskiest := fun w h => List.mem_cons_of_mem _ (List.mem_append_right _ h)
  have hl := lv_entry ([.ref (a 0)]) (n := 1) (Nat.le_of_ble_eq_true rfl)
  rw [lg_entry_eq]
  generalize (lg_sl ([.ref (a 0)]) ++ List.replicate (1 - (lg_sl ([.ref (a 0)])).length) Slot.unset).toArray = ls at hl ⊢
  have hl : lv_has ls 1 [(0, .ref (a 0))] := hl
  refine lv_aload_n hx hb dX3_riskiest_0 rfl (lv_at hl 0 rfl) ?_
  refine lv_iconst (v := 0) hx hb dX3_riskiest_1 (by decide) ?_
  refine va_put (D := D) (ci := 3) (v := .int 0) (ty := .int) (C := RX3) (T := TX3) (N := 14) hx hb hts hi3 tyX3 tyX3_ok nmX3 hown hK hP hD hS 0 rfl rfl 0 (by decide) (hts (.fieldLink RX3 23 "PledgedLoansModel" "thrown" "I") (List.mem_of_getElem? (i := 1) rfl)) (fun _ h9 => h9) rfl (by decide +kernel) rfl rfl (Nat.le_of_ble_eq_true rfl) dX3_riskiest_2 (fun H locs hP9 hD9 hS9 => ?_)
  replace hP : va_P D vwCl (moW cA a (uB M 4 0 0) N h) H := hP9
  replace hD : va_D _ (moW cA a (uB M 4 0 0) N h) := hD9
  replace hS := hS9
  clear hP9 hD9 hS9
  refine lv_aload_n hx hb dX3_riskiest_5 rfl (lv_at hl 0 rfl) ?_
  refine z_E (va_runV (As := []) (rest := []) ⟨hx, hb, hml, hown, hts⟩ (zc_X3_risky l D cA a (uB M 4 0 0) N h) (cwV 0 hts gX3_riskiest_X3_risky rfl rfl rfl zy_X3_risky ⟨Nat.le_of_ble_eq_true rfl, Nat.le_of_ble_eq_true rfl⟩) (z_preV (ci := 3) hK hP hD rfl rfl) rfl rfl hl.1 rfl (lv_room (Nat.le_of_ble_eq_true rfl)) dX3_riskiest_6 ⟨Nat.zero_le _, Nat.zero_le _⟩) rfl ?_
  exact z_iretM (w1 := moW cA a (uB M 4 0 0) N h) hx hb hr hlocks dX3_riskiest_9 hP hS (by first | (simp only [f_X3_riskiest]; done) | rfl) (by first | (simp only [f_X3_riskiest]; done) | rfl)

theorem zy_X3_lent : yX3_lent.cls = RX3 ∧ yX3_lent.cls ≠ "java/lang/invoke/MethodHandle" ∧ yX3_lent.cls ≠ "java/lang/invoke/VarHandle" ∧ (parseMethodDescriptor yX3_lent.desc).map (fun d => d.parameters.length) = some 0 := by decide +kernel
def f_X3_lent (M : BK) : UInt64 :=
  if (f_X3_total M 0) = 0 then
    FP.dconst0
  else
    FP.ddiv (FP.i2d (f_X3_total M 2)) (FP.i2d (f_X3_total M 0))

set_option maxHeartbeats 4000000 in
set_option maxRecDepth 100000 in
theorem zc_X3_lent (l : Launch) (D : va_G) (cA : Nat → ClassId) (a : Nat → Nat) (M : BK) (N : Nat → Nat) (h : Int64) (hl0 : ¬ f_X3_total M 0 < 0) (hl2 : ¬ f_X3_total M 2 < 0) : Met l yX3_lent wsX3_lent (zrm 2 45) (zPc D cA [.ref (a 0)] (moW cA a M N h)) (zE (some (.double (f_X3_lent M)))) 0 0 (fun _ => False) := by
  refine Met.ofW (cc := cX3_lent) (maxL := 1) (ret := (some .double)) (by decide) rfl ?_
  intro p e s m args below meth c s₁ Bd hml hv
  obtain ⟨rfl, hP, hK, hD0⟩ := hv
  have hx := Bd.exec
  have hb := Bd.bytes
  have hr := Bd.returns
  have hts := atoms_spec (ws := wsX3_lent) Bd.pre
  have hown : s.vm.findClass RX3 = some m.cls := findClass_of_methodNamed Bd.named
  have hlocks := Bd.notSynchronized
  have hD := z_Dfr hD0
  have hS : va_S (zfr (moW cA a M N h)) s.heap s.heap [] := va_S.rf
  have hi3 : ∀ w ∈ wsX30, w ∈ wsX3_lent := fun w h => List.mem_cons_of_mem _ (List.mem_append_right _ h)
  have hl := lv_entry ([.ref (a 0)]) (n := 1) (Nat.le_of_ble_eq_true rfl)
  rw [lg_entry_eq]
  generalize (lg_sl ([.ref (a 0)]) ++ List.replicate (1 - (lg_sl ([.ref (a 0)])).length) Slot.unset).toArray = ls at hl ⊢
  have hl : lv_has ls 1 [(0, .ref (a 0))] := hl
  refine lv_aload_n hx hb dX3_lent_0 rfl (lv_at hl 0 rfl) ?_
  refine lv_iconst (v := 0) hx hb dX3_lent_1 (by decide) ?_
  refine z_E (va_runV (As := [.int 0]) (rest := []) ⟨hx, hb, hml, hown, hts⟩ (zc_X3_total l D cA a M N h 0 (by omega)) (cwV 1 hts gX3_lent_X3_total rfl rfl rfl zy_X3_total ⟨Nat.le_of_ble_eq_true rfl, Nat.le_of_ble_eq_true rfl⟩) (z_preV (ci := 3) hK hP hD rfl rfl) rfl rfl hl.1 rfl (lv_room (Nat.le_of_ble_eq_true rfl)) dX3_lent_2 ⟨Nat.zero_le _, Nat.zero_le _⟩) rfl ?_
  refine lv_if_ne (tgt := 12) hx hb dX3_lent_5 (by decide) (fun c_1 => ?_) (fun c_1 => ?_)
  · refine lv_aload_n hx hb dX3_lent_12 rfl (lv_at hl 0 rfl) ?_
    refine lv_iconst (v := 2) hx hb dX3_lent_13 (by decide) ?_
    refine z_E (va_runV (As := [.int 2]) (rest := []) ⟨hx, hb, hml, hown, hts⟩ (zc_X3_total l D cA a M N h 2 (by omega)) (cwV 1 hts gX3_lent_X3_total rfl rfl rfl zy_X3_total ⟨Nat.le_of_ble_eq_true rfl, Nat.le_of_ble_eq_true rfl⟩) (z_preV (ci := 3) hK hP hD rfl rfl) rfl rfl hl.1 rfl (lv_room (Nat.le_of_ble_eq_true rfl)) dX3_lent_14 ⟨Nat.zero_le _, Nat.zero_le _⟩) rfl ?_
    refine lv_i2d hx hb dX3_lent_17 ?_
    refine lv_aload_n hx hb dX3_lent_18 rfl (lv_at hl 0 rfl) ?_
    refine lv_iconst (v := 0) hx hb dX3_lent_19 (by decide) ?_
    refine z_E (va_runV (As := [.int 0]) (rest := [.double (FP.i2d (f_X3_total M 2))]) ⟨hx, hb, hml, hown, hts⟩ (zc_X3_total l D cA a M N h 0 (by omega)) (cwV 1 hts gX3_lent_X3_total rfl rfl rfl zy_X3_total ⟨Nat.le_of_ble_eq_true rfl, Nat.le_of_ble_eq_true rfl⟩) (z_preV (ci := 3) hK hP hD rfl rfl) rfl rfl hl.1 rfl (lv_room (Nat.le_of_ble_eq_true rfl)) dX3_lent_20 ⟨Nat.zero_le _, Nat.zero_le _⟩) rfl ?_
    refine lv_i2d hx hb dX3_lent_23 ?_
    refine lv_ddiv hx hb dX3_lent_24 (z_ddn c_1 hl2 hl0) ?_
    exact z_dretE hx hb hr hlocks dX3_lent_25 (by simp only [f_X3_lent, if_neg c_1])
  · refine lv_dconst0 hx hb dX3_lent_8 ?_
    refine lv_goto (tgt := 25) hx hb dX3_lent_9 (by decide) ?_
    exact z_dretE hx hb hr hlocks dX3_lent_25 (by simp only [f_X3_lent, if_pos c_1])

theorem zy_X3_lentShare : yX3_lentShare.cls = RX3 ∧ yX3_lentShare.cls ≠ "java/lang/invoke/MethodHandle" ∧ yX3_lentShare.cls ≠ "java/lang/invoke/VarHandle" ∧ (parseMethodDescriptor yX3_lentShare.desc).map (fun d => d.parameters.length) = some 0 := by decide +kernel
def f_X3_lentShare (M : BK) : UInt64 × BK :=
  (f_X3_lent (uB M 4 0 0), uB M 4 0 0)

set_option maxHeartbeats 4000000 in
set_option maxRecDepth 100000 in
theorem zc_X3_lentShare (l : Launch) (D : va_G) (cA : Nat → ClassId) (a : Nat → Nat) (M : BK) (N : Nat → Nat) (h : Int64) (hl0 : ¬ f_X3_total M 0 < 0) (hl2 : ¬ f_X3_total M 2 < 0) : Met l yX3_lentShare wsX3_lentShare (zrm 3 65) (zPc D cA [.ref (a 0)] (moW cA a M N h)) (zM D (moW cA a M N h) (moW cA a ((f_X3_lentShare M).2) N h) (some (.double ((f_X3_lentShare M).1)))) 0 0 (zfr (moW cA a M N h)) := by
  refine Met.ofW (cc := cX3_lentShare) (maxL := 1) (ret := (some .double)) (by decide) rfl ?_
  intro p e s m args below meth c s₁ Bd hml hv
  obtain ⟨rfl, hP, hK, hD0⟩ := hv
  have hx := Bd.exec
  have hb := Bd.bytes
  have hr := Bd.returns
  have hts := atoms_spec (ws := wsX3_lentShare) Bd.pre
  have hown : s.vm.findClass RX3 = some m.cls := findClass_of_methodNamed Bd.named
  have hlocks := Bd.notSynchronized
  have hD := z_Dfr hD0
  have hS : va_S (zfr (moW cA a M N h)) s.heap s.heap [] := va_S.rf
  have hi3 : ∀ w ∈ wsX30, w ∈ wsX3_lentShare := fun w h => List.mem_cons_of_mem _ (List.mem_append_right _ h)
  have hl := lv_entry ([.ref (a 0)]) (n := 1) (Nat.le_of_ble_eq_true rfl)
  rw [lg_entry_eq]
  generalize (lg_sl ([.ref (a 0)]) ++ List.replicate (1 - (lg_sl ([.ref (a 0)])).length) Slot.unset).toArray = ls at hl ⊢
  have hl : lv_has ls 1 [(0, .ref (a 0))] := hl
  refine lv_aload_n hx hb dX3_lentShare_0 rfl (lv_at hl 0 rfl) ?_
  refine lv_iconst (v := 0) hx hb dX3_lentShare_1 (by decide) ?_
  refine va_put (D := D) (ci := 3) (v := .int 0) (ty := .int) (C := RX3) (T := TX3) (N := 14) hx hb hts hi3 tyX3 tyX3_ok nmX3 hown hK hP hD hS 0 rfl rfl 0 (by decide) (hts (.fieldLink RX3 23 "PledgedLoansModel" "thrown" "I") (List.mem_of_getElem? (i := 1) rfl)) (fun _ h9 => h9) rfl (by decide +kernel) rfl rfl (Nat.le_of_ble_eq_true rfl) dX3_lentShare_2 (fun H locs hP9 hD9 hS9 => ?_)
  replace hP : va_P D vwCl (moW cA a (uB M 4 0 0) N h) H := hP9
  replace hD : va_D _ (moW cA a (uB M 4 0 0) N h) := hD9
  replace hS := hS9
  clear hP9 hD9 hS9
  refine lv_aload_n hx hb dX3_lentShare_5 rfl (lv_at hl 0 rfl) ?_
  refine z_E (va_runV (As := []) (rest := []) ⟨hx, hb, hml, hown, hts⟩ (zc_X3_lent l D cA a (uB M 4 0 0) N h (by exact hl0) (by exact hl2)) (cwV 0 hts gX3_lentShare_X3_lent rfl rfl rfl zy_X3_lent ⟨Nat.le_of_ble_eq_true rfl, Nat.le_of_ble_eq_true rfl⟩) (z_preV (ci := 3) hK hP hD rfl rfl) rfl rfl hl.1 rfl (lv_room (Nat.le_of_ble_eq_true rfl)) dX3_lentShare_6 ⟨Nat.zero_le _, Nat.zero_le _⟩) rfl ?_
  exact z_dretM (w1 := moW cA a (uB M 4 0 0) N h) hx hb hr hlocks dX3_lentShare_9 hP hS (by first | (simp only [f_X3_lentShare]; done) | rfl) (by first | (simp only [f_X3_lentShare]; done) | rfl)

theorem zy_X3_mix : yX3_mix.cls = RX3 ∧ yX3_mix.cls ≠ "java/lang/invoke/MethodHandle" ∧ yX3_mix.cls ≠ "java/lang/invoke/VarHandle" ∧ (parseMethodDescriptor yX3_mix.desc).map (fun d => d.parameters.length) = some 1 := by decide +kernel
def f_X3_mix (h : Int64) (hv : Int64) : Int64 :=
  ((31) * h) + hv

set_option maxHeartbeats 4000000 in
set_option maxRecDepth 100000 in
theorem zc_X3_mix (l : Launch) (D : va_G) (cA : Nat → ClassId) (a : Nat → Nat) (M : BK) (N : Nat → Nat) (h : Int64) (hv : Int64)  : Met l yX3_mix wsX3_mix (zrm 0 0) (zPc D cA [.ref (a 0), .long hv] (moW cA a M N h)) (zM D (moW cA a M N h) (moW cA a M N (f_X3_mix h hv)) none) 0 0 (zfr (moW cA a M N h)) := by
  refine Met.ofW (cc := cX3_mix) (maxL := 3) (ret := none) (by decide) rfl ?_
  intro p e s m args below meth c s₁ Bd hml hv
  obtain ⟨rfl, hP, hK, hD0⟩ := hv
  have hx := Bd.exec
  have hb := Bd.bytes
  have hr := Bd.returns
  have hts := atoms_spec (ws := wsX3_mix) Bd.pre
  have hown : s.vm.findClass RX3 = some m.cls := findClass_of_methodNamed Bd.named
  have hlocks := Bd.notSynchronized
  have hD := z_Dfr hD0
  have hS : va_S (zfr (moW cA a M N h)) s.heap s.heap [] := va_S.rf
  have hi3 : ∀ w ∈ wsX30, w ∈ wsX3_mix := fun w h => List.mem_cons_of_mem _ (List.mem_append_right _ h)
  have hl := lv_entry ([.ref (a 0), .long hv]) (n := 3) (Nat.le_of_ble_eq_true rfl)
  rw [lg_entry_eq]
  generalize (lg_sl ([.ref (a 0), .long hv]) ++ List.replicate (3 - (lg_sl ([.ref (a 0), .long hv])).length) Slot.unset).toArray = ls at hl ⊢
  have hl : lv_has ls 3 [(0, .ref (a 0)), (1, .long hv)] := hl
  refine lv_aload_n hx hb dX3_mix_0 rfl (lv_at hl 0 rfl) ?_
  refine lv_ldc2 hx hb hown (hts (.constantLong RX3 205 (31)) (List.mem_of_getElem? (i := 1) rfl)) dX3_mix_1 ?_
  refine lv_aload_n hx hb dX3_mix_4 rfl (lv_at hl 0 rfl) ?_
  refine va_get (D := D) (ci := 3) (v := .long h) (C := RX3) (T := TX3) (N := 14) hx hb hts hi3 hown hK hP 0 rfl rfl 13 (by decide) (hts (.fieldLink RX3 207 "PledgedLoansModel" "hash" "J") (List.mem_of_getElem? (i := 2) rfl)) (fun _ h9 => h9) rfl dX3_mix_5 ?_
  refine lv_lmul hx hb dX3_mix_8 ?_
  refine lv_lload_n hx hb dX3_mix_9 rfl (lv_at hl 1 rfl) ?_
  refine lv_ladd hx hb dX3_mix_10 ?_
  refine va_put (D := D) (ci := 3) (v := .long (((31) * h) + hv)) (ty := .long) (C := RX3) (T := TX3) (N := 14) hx hb hts hi3 tyX3 tyX3_ok nmX3 hown hK hP hD hS 0 rfl rfl 13 (by decide) (hts (.fieldLink RX3 207 "PledgedLoansModel" "hash" "J") (List.mem_of_getElem? (i := 2) rfl)) (fun _ h9 => h9) rfl (by decide +kernel) rfl rfl (Nat.le_of_ble_eq_true rfl) dX3_mix_11 (fun H locs hP9 hD9 hS9 => ?_)
  replace hP : va_P D vwCl (moW cA a M N (((31) * h) + hv)) H := hP9
  replace hD : va_D _ (moW cA a M N (((31) * h) + hv)) := hD9
  replace hS := hS9
  clear hP9 hD9 hS9
  exact z_vretM (w1 := moW cA a M N (((31) * h) + hv)) hx hb hr hlocks dX3_mix_14 hP hS (by first | (simp only [f_X3_mix]; done) | rfl)

