theorem zy_X3_readsMember : yX3_readsMember.cls = RX3 ∧ yX3_readsMember.cls ≠ "java/lang/invoke/MethodHandle" ∧ yX3_readsMember.cls ≠ "java/lang/invoke/VarHandle" ∧ (parseMethodDescriptor yX3_readsMember.desc).map (fun d => d.parameters.length) = some 1 := by decide +kernel
def f_X3_readsMember (M : BK) (N : Nat → Nat) (bu : Int32) : Int32 × (Nat → Nat) :=
  if (f_X3_in (f_X3_sign M N) 48 53) = 0 then
    ((-1), va_up N 2 ((N 2) + 0))
  else
    if ((f_X3_sign M N) - 48) = bu then
      ((-1), va_up N 2 ((N 2) + 0))
    else
      if ((f_X3_sign M N) - 48) = (-1) then
        ((f_X3_sign M N) - 48, va_up N 2 ((N 2) + 0))
      else
        ((f_X3_sign M N) - 48, va_up N 2 ((N 2) + 1))

theorem zn_X3_readsMember (M : BK) (N : Nat → Nat) (bu : Int32) : zadv N (f_X3_readsMember M N bu).2 := by
  by_cases c : (f_X3_in (f_X3_sign M N) 48 53) = 0
  · simp only [f_X3_readsMember, if_pos c]
    exact zadv.up (fun h => by omega)
  · have hlt := zq_sign c (by decide)
    simp only [f_X3_readsMember, if_neg c]
    split
    · exact zadv.up (fun h => by omega)
    · split
      · exact zadv.up (fun h => by omega)
      · exact zadv.up (fun h => by omega)

set_option maxHeartbeats 4000000 in
set_option maxRecDepth 100000 in
theorem zc_X3_readsMember (l : Launch) (D : va_G) (cA : Nat → ClassId) (a : Nat → Nat) (M : BK) (N : Nat → Nat) (h : Int64) (bu : Int32) (hlen : N 1 ≤ 60) (hat : N 2 ≤ N 1) : Met l yX3_readsMember wsX3_readsMember (zrm 1 22) (zPc D cA [.ref (a 0), .int bu] (moW cA a M N h)) (zM D (moW cA a M N h) (moW cA a M ((f_X3_readsMember M N bu).2) h) (some (.int ((f_X3_readsMember M N bu).1)))) 0 0 (zfr (moW cA a M N h)) := by
  refine Met.ofW (cc := cX3_readsMember) (maxL := 3) (ret := (some .int)) (by decide) rfl ?_
  intro p e s m args below meth c s₁ Bd hml hv
  obtain ⟨rfl, hP, hK, hD0⟩ := hv
  have hx := Bd.exec
  have hb := Bd.bytes
  have hr := Bd.returns
  have hts := atoms_spec (ws := wsX3_readsMember) Bd.pre
  have hown : s.vm.findClass RX3 = some m.cls := findClass_of_methodNamed Bd.named
  have hlocks := Bd.notSynchronized
  have hD := z_Dfr hD0
  have hS : va_S (zfr (moW cA a M N h)) s.heap s.heap [] := va_S.rf
  have hi3 : ∀ w ∈ wsX30, w ∈ wsX3_readsMember := fun w h => List.mem_cons_of_mem _ (List.mem_append_right _ h)
  have hl := lv_entry ([.ref (a 0), .int bu]) (n := 3) (Nat.le_of_ble_eq_true rfl)
  rw [lg_entry_eq]
  generalize (lg_sl ([.ref (a 0), .int bu]) ++ List.replicate (3 - (lg_sl ([.ref (a 0), .int bu])).length) Slot.unset).toArray = ls at hl ⊢
  have hl : lv_has ls 3 [(0, .ref (a 0)), (1, .int bu)] := hl
  refine lv_aload_n hx hb dX3_readsMember_0 rfl (lv_at hl 0 rfl) ?_
  refine z_E (va_runV (As := []) (rest := []) ⟨hx, hb, hml, hown, hts⟩ (zc_X3_sign l D cA a M N h (by exact (show (N 1) ≤ 60 by omega)) (by exact (show (N 2) ≤ (N 1) by omega))) (cwV 0 hts gX3_readsMember_X3_sign rfl rfl rfl zy_X3_sign ⟨Nat.le_of_ble_eq_true rfl, Nat.le_of_ble_eq_true rfl⟩) (z_preV (ci := 3) hK hP hD rfl rfl) rfl rfl hl.1 rfl (lv_room (Nat.le_of_ble_eq_true rfl)) dX3_readsMember_1 ⟨Nat.zero_le _, Nat.zero_le _⟩) rfl ?_
  refine lv_bipush (v := 48) hx hb dX3_readsMember_4 (by decide) ?_
  refine lv_bipush (v := 53) hx hb dX3_readsMember_6 (by decide) ?_
  refine z_E (va_runS (As := [.int (f_X3_sign M N), .int 48, .int 53]) (rest := []) ⟨hx, hb, hml, hown, hts⟩ (zc_X3_in l D cA (f_X3_sign M N) 48 53) (va_cwS 3 hts gX3_readsMember_X3_in rfl rfl rfl zy_X3_in.2 ⟨Nat.le_of_ble_eq_true rfl, Nat.le_of_ble_eq_true rfl⟩) (z_preS hK z_P0 (z_D0 (A := fun _ => True))) rfl rfl hl.1 rfl (lv_room (Nat.le_of_ble_eq_true rfl)) dX3_readsMember_8 ⟨Nat.zero_le _, Nat.zero_le _⟩) rfl ?_
  refine lv_if_eq (tgt := 35) hx hb dX3_readsMember_11 (by decide) (fun c_1 => ?_) (fun c_1 => ?_)
  · refine lv_iconst (v := (-1)) hx hb dX3_readsMember_35 (by decide) ?_
    refine lv_istore_n (lv' := [(2, .int (-1)), (0, .ref (a 0)), (1, .int bu)]) hx hb dX3_readsMember_36 rfl hl (by decide) rfl (fun ls hl => ?_)
    refine lv_aload_n hx hb dX3_readsMember_37 rfl (lv_at hl 1 rfl) ?_
    refine lv_dup hx hb dX3_readsMember_38 rfl ?_
    refine va_get (D := D) (ci := 3) (v := .int (nI (N 2))) (C := RX3) (T := TX3) (N := 14) hx hb hts hi3 hown hK hP 0 rfl rfl 6 (by decide) (hts (.fieldLink RX3 137 "PledgedLoansModel" "at" "I") (List.mem_of_getElem? (i := 1) rfl)) (fun _ h9 => h9) rfl dX3_readsMember_39 ?_
    refine lv_iload_n hx hb dX3_readsMember_42 rfl (lv_at hl 0 rfl) ?_
    refine lv_iconst (v := (-1)) hx hb dX3_readsMember_43 (by decide) ?_
    refine lv_icmp_ne (tgt := 51) hx hb dX3_readsMember_44 (by decide) (fun c_2 => ?_) (fun c_2 => ?_)
    · exact absurd c_2 (by decide)
    · refine lv_iconst (v := 0) hx hb dX3_readsMember_47 (by decide) ?_
      refine lv_goto (tgt := 52) hx hb dX3_readsMember_48 (by decide) ?_
      refine lv_iadd hx hb dX3_readsMember_52 ?_
      refine z_top (nI_add (N 2) 0) ?_
      refine va_put (D := D) (ci := 3) (v := .int (nI ((N 2) + 0))) (ty := .int) (C := RX3) (T := TX3) (N := 14) hx hb hts hi3 tyX3 tyX3_ok nmX3 hown hK hP hD hS 0 rfl rfl 6 (by decide) (hts (.fieldLink RX3 137 "PledgedLoansModel" "at" "I") (List.mem_of_getElem? (i := 1) rfl)) (fun _ h9 => h9) rfl (by decide +kernel) rfl rfl (Nat.le_of_ble_eq_true rfl) dX3_readsMember_53 (fun H locs hP9 hD9 hS9 => ?_)
      replace hP : va_P D vwCl (moW cA a M (va_up N 2 ((N 2) + 0)) h) H := hP9
      replace hD : va_D _ (moW cA a M (va_up N 2 ((N 2) + 0)) h) := hD9
      replace hS := hS9
      clear hP9 hD9 hS9
      refine lv_iload_n hx hb dX3_readsMember_56 rfl (lv_at hl 0 rfl) ?_
      exact z_iretM (w1 := moW cA a M (va_up N 2 ((N 2) + 0)) h) hx hb hr hlocks dX3_readsMember_57 hP hS (by simp only [f_X3_readsMember, if_pos c_1]) (by simp only [f_X3_readsMember, if_pos c_1])
  · refine lv_aload_n hx hb dX3_readsMember_14 rfl (lv_at hl 0 rfl) ?_
    refine z_E (va_runV (As := []) (rest := []) ⟨hx, hb, hml, hown, hts⟩ (zc_X3_sign l D cA a M N h (by exact (show (N 1) ≤ 60 by omega)) (by exact (show (N 2) ≤ (N 1) by omega))) (cwV 0 hts gX3_readsMember_X3_sign rfl rfl rfl zy_X3_sign ⟨Nat.le_of_ble_eq_true rfl, Nat.le_of_ble_eq_true rfl⟩) (z_preV (ci := 3) hK hP hD rfl rfl) rfl rfl hl.1 rfl (lv_room (Nat.le_of_ble_eq_true rfl)) dX3_readsMember_15 ⟨Nat.zero_le _, Nat.zero_le _⟩) rfl ?_
    refine lv_bipush (v := 48) hx hb dX3_readsMember_18 (by decide) ?_
    refine lv_isub hx hb dX3_readsMember_20 ?_
    refine lv_iload_n hx hb dX3_readsMember_21 rfl (lv_at hl 1 rfl) ?_
    refine lv_icmp_eq (tgt := 35) hx hb dX3_readsMember_22 (by decide) (fun c_4 => ?_) (fun c_4 => ?_)
    · refine lv_iconst (v := (-1)) hx hb dX3_readsMember_35 (by decide) ?_
      refine lv_istore_n (lv' := [(2, .int (-1)), (0, .ref (a 0)), (1, .int bu)]) hx hb dX3_readsMember_36 rfl hl (by decide) rfl (fun ls hl => ?_)
      refine lv_aload_n hx hb dX3_readsMember_37 rfl (lv_at hl 1 rfl) ?_
      refine lv_dup hx hb dX3_readsMember_38 rfl ?_
      refine va_get (D := D) (ci := 3) (v := .int (nI (N 2))) (C := RX3) (T := TX3) (N := 14) hx hb hts hi3 hown hK hP 0 rfl rfl 6 (by decide) (hts (.fieldLink RX3 137 "PledgedLoansModel" "at" "I") (List.mem_of_getElem? (i := 1) rfl)) (fun _ h9 => h9) rfl dX3_readsMember_39 ?_
      refine lv_iload_n hx hb dX3_readsMember_42 rfl (lv_at hl 0 rfl) ?_
      refine lv_iconst (v := (-1)) hx hb dX3_readsMember_43 (by decide) ?_
      refine lv_icmp_ne (tgt := 51) hx hb dX3_readsMember_44 (by decide) (fun c_5 => ?_) (fun c_5 => ?_)
      · exact absurd c_5 (by decide)
      · refine lv_iconst (v := 0) hx hb dX3_readsMember_47 (by decide) ?_
        refine lv_goto (tgt := 52) hx hb dX3_readsMember_48 (by decide) ?_
        refine lv_iadd hx hb dX3_readsMember_52 ?_
        refine z_top (nI_add (N 2) 0) ?_
        refine va_put (D := D) (ci := 3) (v := .int (nI ((N 2) + 0))) (ty := .int) (C := RX3) (T := TX3) (N := 14) hx hb hts hi3 tyX3 tyX3_ok nmX3 hown hK hP hD hS 0 rfl rfl 6 (by decide) (hts (.fieldLink RX3 137 "PledgedLoansModel" "at" "I") (List.mem_of_getElem? (i := 1) rfl)) (fun _ h9 => h9) rfl (by decide +kernel) rfl rfl (Nat.le_of_ble_eq_true rfl) dX3_readsMember_53 (fun H locs hP9 hD9 hS9 => ?_)
        replace hP : va_P D vwCl (moW cA a M (va_up N 2 ((N 2) + 0)) h) H := hP9
        replace hD : va_D _ (moW cA a M (va_up N 2 ((N 2) + 0)) h) := hD9
        replace hS := hS9
        clear hP9 hD9 hS9
        refine lv_iload_n hx hb dX3_readsMember_56 rfl (lv_at hl 0 rfl) ?_
        exact z_iretM (w1 := moW cA a M (va_up N 2 ((N 2) + 0)) h) hx hb hr hlocks dX3_readsMember_57 hP hS (by simp only [f_X3_readsMember, if_neg c_1, if_pos c_4]) (by simp only [f_X3_readsMember, if_neg c_1, if_pos c_4])
    · refine lv_aload_n hx hb dX3_readsMember_25 rfl (lv_at hl 0 rfl) ?_
      refine z_E (va_runV (As := []) (rest := []) ⟨hx, hb, hml, hown, hts⟩ (zc_X3_sign l D cA a M N h (by exact (show (N 1) ≤ 60 by omega)) (by exact (show (N 2) ≤ (N 1) by omega))) (cwV 0 hts gX3_readsMember_X3_sign rfl rfl rfl zy_X3_sign ⟨Nat.le_of_ble_eq_true rfl, Nat.le_of_ble_eq_true rfl⟩) (z_preV (ci := 3) hK hP hD rfl rfl) rfl rfl hl.1 rfl (lv_room (Nat.le_of_ble_eq_true rfl)) dX3_readsMember_26 ⟨Nat.zero_le _, Nat.zero_le _⟩) rfl ?_
      refine lv_bipush (v := 48) hx hb dX3_readsMember_29 (by decide) ?_
      refine lv_isub hx hb dX3_readsMember_31 ?_
      refine lv_goto (tgt := 36) hx hb dX3_readsMember_32 (by decide) ?_
      refine lv_istore_n (lv' := [(2, .int ((f_X3_sign M N) - 48)), (0, .ref (a 0)), (1, .int bu)]) hx hb dX3_readsMember_36 rfl hl (by decide) rfl (fun ls hl => ?_)
      refine lv_aload_n hx hb dX3_readsMember_37 rfl (lv_at hl 1 rfl) ?_
      refine lv_dup hx hb dX3_readsMember_38 rfl ?_
      refine va_get (D := D) (ci := 3) (v := .int (nI (N 2))) (C := RX3) (T := TX3) (N := 14) hx hb hts hi3 hown hK hP 0 rfl rfl 6 (by decide) (hts (.fieldLink RX3 137 "PledgedLoansModel" "at" "I") (List.mem_of_getElem? (i := 1) rfl)) (fun _ h9 => h9) rfl dX3_readsMember_39 ?_
      refine lv_iload_n hx hb dX3_readsMember_42 rfl (lv_at hl 0 rfl) ?_
      refine lv_iconst (v := (-1)) hx hb dX3_readsMember_43 (by decide) ?_
      refine lv_icmp_ne (tgt := 51) hx hb dX3_readsMember_44 (by decide) (fun c_7 => ?_) (fun c_7 => ?_)
      · refine lv_iconst (v := 1) hx hb dX3_readsMember_51 (by decide) ?_
        refine lv_iadd hx hb dX3_readsMember_52 ?_
        refine z_top (nI_add (N 2) 1) ?_
        refine va_put (D := D) (ci := 3) (v := .int (nI ((N 2) + 1))) (ty := .int) (C := RX3) (T := TX3) (N := 14) hx hb hts hi3 tyX3 tyX3_ok nmX3 hown hK hP hD hS 0 rfl rfl 6 (by decide) (hts (.fieldLink RX3 137 "PledgedLoansModel" "at" "I") (List.mem_of_getElem? (i := 1) rfl)) (fun _ h9 => h9) rfl (by decide +kernel) rfl rfl (Nat.le_of_ble_eq_true rfl) dX3_readsMember_53 (fun H locs hP9 hD9 hS9 => ?_)
        replace hP : va_P D vwCl (moW cA a M (va_up N 2 ((N 2) + 1)) h) H := hP9
        replace hD : va_D _ (moW cA a M (va_up N 2 ((N 2) + 1)) h) := hD9
        replace hS := hS9
        clear hP9 hD9 hS9
        refine lv_iload_n hx hb dX3_readsMember_56 rfl (lv_at hl 0 rfl) ?_
        exact z_iretM (w1 := moW cA a M (va_up N 2 ((N 2) + 1)) h) hx hb hr hlocks dX3_readsMember_57 hP hS (by simp only [f_X3_readsMember, if_neg c_1, if_neg c_4, if_neg c_7]) (by simp only [f_X3_readsMember, if_neg c_1, if_neg c_4, if_neg c_7])
      · refine lv_iconst (v := 0) hx hb dX3_readsMember_47 (by decide) ?_
        refine lv_goto (tgt := 52) hx hb dX3_readsMember_48 (by decide) ?_
        refine lv_iadd hx hb dX3_readsMember_52 ?_
        refine z_top (nI_add (N 2) 0) ?_
        refine va_put (D := D) (ci := 3) (v := .int (nI ((N 2) + 0))) (ty := .int) (C := RX3) (T := TX3) (N := 14) hx hb hts hi3 tyX3 tyX3_ok nmX3 hown hK hP hD hS 0 rfl rfl 6 (by decide) (hts (.fieldLink RX3 137 "PledgedLoansModel" "at" "I") (List.mem_of_getElem? (i := 1) rfl)) (fun _ h9 => h9) rfl (by decide +kernel) rfl rfl (Nat.le_of_ble_eq_true rfl) dX3_readsMember_53 (fun H locs hP9 hD9 hS9 => ?_)
        replace hP : va_P D vwCl (moW cA a M (va_up N 2 ((N 2) + 0)) h) H := hP9
        replace hD : va_D _ (moW cA a M (va_up N 2 ((N 2) + 0)) h) := hD9
        replace hS := hS9
        clear hP9 hD9 hS9
        refine lv_iload_n hx hb dX3_readsMember_56 rfl (lv_at hl 0 rfl) ?_
        exact z_iretM (w1 := moW cA a M (va_up N 2 ((N 2) + 0)) h) hx hb hr hlocks dX3_readsMember_57 hP hS (by simp only [f_X3_readsMember, if_neg c_1, if_neg c_4, if_pos c_7]) (by simp only [f_X3_readsMember, if_neg c_1, if_neg c_4, if_pos c_7])

theorem zy_X3_readsNumber : yX3_readsNumber.cls = RX3 ∧ yX3_readsNumber.cls ≠ "java/lang/invoke/MethodHandle" ∧ yX3_readsNumber.cls ≠ "java/lang/invoke/VarHandle" ∧ (parseMethodDescriptor yX3_readsNumber.desc).map (fun d => d.parameters.length) = some 1 := by decide +kernel
def f_X3_readsNumber_44 (M : BK) (N : Nat → Nat) (mt : Int32) : Nat → Int32 → (Nat → Nat) → Int32 × (Nat → Nat)
  | 0, x, N1 => (0, N1)
  | k + 1, x, N1 =>
    if x ≤ 0 then
      (x, N1)
    else
      if (f_X3_in (f_X3_sign M N1) 48 57) = 0 then
        (x, N1)
      else
        if mt < (((10 * x) + (f_X3_sign M N1)) - 48) then
          (x, N1)
        else
          f_X3_readsNumber_44 M N mt k (((10 * x) + (f_X3_sign M N1)) - 48) (va_up N1 2 ((N1 2) + 1))
def f_X3_readsNumber (M : BK) (N : Nat → Nat) (mt : Int32) : Int32 × (Nat → Nat) :=
  if (f_X3_in (f_X3_sign M N) 49 57) = 0 then
    f_X3_readsNumber_44 M N mt 61 0 (va_up N 2 ((N 2) + 0))
  else
    if ((f_X3_sign M N) - 48) ≤ 0 then
      f_X3_readsNumber_44 M N mt 61 ((f_X3_sign M N) - 48) (va_up N 2 ((N 2) + 0))
    else
      f_X3_readsNumber_44 M N mt 61 ((f_X3_sign M N) - 48) (va_up N 2 ((N 2) + 1))

theorem zn_X3_readsNumber (M : BK) (N : Nat → Nat) (mt : Int32) : zadv N (f_X3_readsNumber M N mt).2 := by
  have key : ∀ (k : Nat) (x : Int32) (N1 : Nat → Nat), zadv N1 (f_X3_readsNumber_44 M N mt k x N1).2 := by
    intro k
    induction k with
    | zero => intro x N1; exact zadv.rf N1
    | succ k ih =>
      intro x N1
      unfold f_X3_readsNumber_44
      split
      · exact zadv.rf N1
      · split
        · exact zadv.rf N1
        · split
          · exact zadv.rf N1
          · have hlt := zq_sign (M := M) (N := N1) (lo := 48) (hi := 57) (by assumption) (by decide)
            exact zadv.tr (zadv.up (fun h => by omega)) (ih _ _)
  unfold f_X3_readsNumber
  by_cases c : (f_X3_in (f_X3_sign M N) 49 57) = 0
  · rw [if_pos c]
    exact zadv.tr (zadv.up (fun h => by omega)) (key _ _ _)
  · have hlt := zq_sign c (by decide)
    rw [if_neg c]
    split
    · exact zadv.tr (zadv.up (fun h => by omega)) (key _ _ _)
    · exact zadv.tr (zadv.up (fun h => by omega)) (key _ _ _)

set_option maxHeartbeats 4000000 in
set_option maxRecDepth 100000 in
theorem zc_X3_readsNumber (l : Launch) (D : va_G) (cA : Nat → ClassId) (a : Nat → Nat) (M : BK) (N : Nat → Nat) (h : Int64) (mt : Int32) (hlen : N 1 ≤ 60) (hat : N 2 ≤ N 1) : Met l yX3_readsNumber wsX3_readsNumber (zrm 1 22) (zPc D cA [.ref (a 0), .int mt] (moW cA a M N h)) (zM D (moW cA a M N h) (moW cA a M ((f_X3_readsNumber M N mt).2) h) (some (.int ((f_X3_readsNumber M N mt).1)))) 0 0 (zfr (moW cA a M N h)) := by
  refine Met.ofW (cc := cX3_readsNumber) (maxL := 3) (ret := (some .int)) (by decide) rfl ?_
  intro p e s m args below meth c s₁ Bd hml hv
  obtain ⟨rfl, hP, hK, hD0⟩ := hv
  have hx := Bd.exec
  have hb := Bd.bytes
  have hr := Bd.returns
  have hts := atoms_spec (ws := wsX3_readsNumber) Bd.pre
  have hown : s.vm.findClass RX3 = some m.cls := findClass_of_methodNamed Bd.named
  have hlocks := Bd.notSynchronized
  have hD := z_Dfr hD0
  have hS : va_S (zfr (moW cA a M N h)) s.heap s.heap [] := va_S.rf
  have hi3 : ∀ w ∈ wsX30, w ∈ wsX3_readsNumber := fun w h => List.mem_cons_of_mem _ (List.mem_append_right _ h)
  have hl := lv_entry ([.ref (a 0), .int mt]) (n := 3) (Nat.le_of_ble_eq_true rfl)
  rw [lg_entry_eq]
  generalize (lg_sl ([.ref (a 0), .int mt]) ++ List.replicate (3 - (lg_sl ([.ref (a 0), .int mt])).length) Slot.unset).toArray = ls at hl ⊢
  have hl : lv_has ls 3 [(0, .ref (a 0)), (1, .int mt)] := hl
  refine lv_aload_n hx hb dX3_readsNumber_0 rfl (lv_at hl 0 rfl) ?_
  refine z_E (va_runV (As := []) (rest := []) ⟨hx, hb, hml, hown, hts⟩ (zc_X3_sign l D cA a M N h (by exact (show (N 1) ≤ 60 by omega)) (by exact (show (N 2) ≤ (N 1) by omega))) (cwV 0 hts gX3_readsNumber_X3_sign rfl rfl rfl zy_X3_sign ⟨Nat.le_of_ble_eq_true rfl, Nat.le_of_ble_eq_true rfl⟩) (z_preV (ci := 3) hK hP hD rfl rfl) rfl rfl hl.1 rfl (lv_room (Nat.le_of_ble_eq_true rfl)) dX3_readsNumber_1 ⟨Nat.zero_le _, Nat.zero_le _⟩) rfl ?_
  refine lv_bipush (v := 49) hx hb dX3_readsNumber_4 (by decide) ?_
  refine lv_bipush (v := 57) hx hb dX3_readsNumber_6 (by decide) ?_
  refine z_E (va_runS (As := [.int (f_X3_sign M N), .int 49, .int 57]) (rest := []) ⟨hx, hb, hml, hown, hts⟩ (zc_X3_in l D cA (f_X3_sign M N) 49 57) (va_cwS 3 hts gX3_readsNumber_X3_in rfl rfl rfl zy_X3_in.2 ⟨Nat.le_of_ble_eq_true rfl, Nat.le_of_ble_eq_true rfl⟩) (z_preS hK z_P0 (z_D0 (A := fun _ => True))) rfl rfl hl.1 rfl (lv_room (Nat.le_of_ble_eq_true rfl)) dX3_readsNumber_8 ⟨Nat.zero_le _, Nat.zero_le _⟩) rfl ?_
  refine lv_if_eq (tgt := 24) hx hb dX3_readsNumber_11 (by decide) (fun c_1 => ?_) (fun c_1 => ?_)
  · refine lv_iconst (v := 0) hx hb dX3_readsNumber_24 (by decide) ?_
    refine lv_istore_n (lv' := [(2, .int 0), (0, .ref (a 0)), (1, .int mt)]) hx hb dX3_readsNumber_25 rfl hl (by decide) rfl (fun ls hl => ?_)
    refine lv_aload_n hx hb dX3_readsNumber_26 rfl (lv_at hl 1 rfl) ?_
    refine lv_dup hx hb dX3_readsNumber_27 rfl ?_
    refine va_get (D := D) (ci := 3) (v := .int (nI (N 2))) (C := RX3) (T := TX3) (N := 14) hx hb hts hi3 hown hK hP 0 rfl rfl 6 (by decide) (hts (.fieldLink RX3 137 "PledgedLoansModel" "at" "I") (List.mem_of_getElem? (i := 1) rfl)) (fun _ h9 => h9) rfl dX3_readsNumber_28 ?_
    refine lv_iload_n hx hb dX3_readsNumber_31 rfl (lv_at hl 0 rfl) ?_
    refine lv_if_le (tgt := 39) hx hb dX3_readsNumber_32 (by decide) (fun c_2 => ?_) (fun c_2 => ?_)
    · refine lv_iconst (v := 0) hx hb dX3_readsNumber_39 (by decide) ?_
      refine lv_iadd hx hb dX3_readsNumber_40 ?_
      refine z_top (nI_add (N 2) 0) ?_
      refine va_put (D := D) (ci := 3) (v := .int (nI ((N 2) + 0))) (ty := .int) (C := RX3) (T := TX3) (N := 14) hx hb hts hi3 tyX3 tyX3_ok nmX3 hown hK hP hD hS 0 rfl rfl 6 (by decide) (hts (.fieldLink RX3 137 "PledgedLoansModel" "at" "I") (List.mem_of_getElem? (i := 1) rfl)) (fun _ h9 => h9) rfl (by decide +kernel) rfl rfl (Nat.le_of_ble_eq_true rfl) dX3_readsNumber_41 (fun H locs hP9 hD9 hS9 => ?_)
      replace hP : va_P D vwCl (moW cA a M (va_up N 2 ((N 2) + 0)) h) H := hP9
      replace hD : va_D _ (moW cA a M (va_up N 2 ((N 2) + 0)) h) := hD9
      replace hS := hS9
      clear hP9 hD9 hS9
      have loop_44 : ∀ (kk : Nat) (x : Int32) (N1 : Nat → Nat), 60 - N1 2 < kk → N1 1 = N 1 → N1 2 ≤ N1 1 → f_X3_readsNumber M N mt = f_X3_readsNumber_44 M N mt kk x N1 → ∀ (H : Heap) (locs : List Loc), va_P D vwCl (moW cA a M N1 h) H → va_D (zfr (moW cA a M N h)) (moW cA a M N1 h) → va_S (zfr (moW cA a M N h)) s.heap H locs → ∀ (ls : Array Slot), lv_has ls 3 [(0, .ref (a 0)), (1, .int mt), (2, .int x)] → W p l e (headSpec wsX3_readsNumber (zrm 1 22)).room s m ([.ref (a 0), .int mt] : List Value).toArray below meth c H locs 0 0 (MQ below (zM D (moW cA a M N h) (moW cA a M ((f_X3_readsNumber M N mt).2) h) (some (.int ((f_X3_readsNumber M N mt).1)))) ([.ref (a 0), .int mt] : List Value).toArray s 0 0 (zfr (moW cA a M N h))) (F0 m 44 ls []) := by
        intro kk
        induction kk with
        | zero => intro x N1 h9; exact absurd h9 (Nat.not_lt_zero _)
        | succ kk ih_44 =>
          intro x N1 hm_44 hi0_44 hi1_44 hres_44 H locs hP hD hS ls hl
          have hlen1 : N1 1 ≤ 60 := by omega
          refine lv_iload_n hx hb dX3_readsNumber_44 rfl (lv_at hl 2 rfl) ?_
          refine lv_if_le (tgt := 104) hx hb dX3_readsNumber_45 (by decide) (fun c_4 => ?_) (fun c_4 => ?_)
          · refine lv_iload_n hx hb dX3_readsNumber_104 rfl (lv_at hl 2 rfl) ?_
            exact z_iretM (w1 := moW cA a M N1 h) hx hb hr hlocks dX3_readsNumber_105 hP hS (by rw [hres_44]; simp only [f_X3_readsNumber_44, if_pos c_4]) (by rw [hres_44]; simp only [f_X3_readsNumber_44, if_pos c_4])
          · refine lv_aload_n hx hb dX3_readsNumber_48 rfl (lv_at hl 0 rfl) ?_
            refine z_E (va_runV (As := []) (rest := []) ⟨hx, hb, hml, hown, hts⟩ (zc_X3_sign l D cA a M N1 h (by exact (show (N1 1) ≤ 60 by omega)) (by exact (show (N1 2) ≤ (N1 1) by omega))) (cwV 0 hts gX3_readsNumber_X3_sign rfl rfl rfl zy_X3_sign ⟨Nat.le_of_ble_eq_true rfl, Nat.le_of_ble_eq_true rfl⟩) (z_preV (ci := 3) hK hP hD rfl rfl) rfl rfl hl.1 rfl (lv_room (Nat.le_of_ble_eq_true rfl)) dX3_readsNumber_49 ⟨Nat.zero_le _, Nat.zero_le _⟩) rfl ?_
            refine lv_bipush (v := 48) hx hb dX3_readsNumber_52 (by decide) ?_
            refine lv_bipush (v := 57) hx hb dX3_readsNumber_54 (by decide) ?_
            refine z_E (va_runS (As := [.int (f_X3_sign M N1), .int 48, .int 57]) (rest := []) ⟨hx, hb, hml, hown, hts⟩ (zc_X3_in l D cA (f_X3_sign M N1) 48 57) (va_cwS 3 hts gX3_readsNumber_X3_in rfl rfl rfl zy_X3_in.2 ⟨Nat.le_of_ble_eq_true rfl, Nat.le_of_ble_eq_true rfl⟩) (z_preS hK z_P0 (z_D0 (A := fun _ => True))) rfl rfl hl.1 rfl (lv_room (Nat.le_of_ble_eq_true rfl)) dX3_readsNumber_56 ⟨Nat.zero_le _, Nat.zero_le _⟩) rfl ?_
            refine lv_if_eq (tgt := 104) hx hb dX3_readsNumber_59 (by decide) (fun c_5 => ?_) (fun c_5 => ?_)
            · refine lv_iload_n hx hb dX3_readsNumber_104 rfl (lv_at hl 2 rfl) ?_
              exact z_iretM (w1 := moW cA a M N1 h) hx hb hr hlocks dX3_readsNumber_105 hP hS (by rw [hres_44]; simp only [f_X3_readsNumber_44, if_neg c_4, if_pos c_5]) (by rw [hres_44]; simp only [f_X3_readsNumber_44, if_neg c_4, if_pos c_5])
            · have hat9 := zq_sign c_5 (by decide)
              refine lv_bipush (v := 10) hx hb dX3_readsNumber_62 (by decide) ?_
              refine lv_iload_n hx hb dX3_readsNumber_64 rfl (lv_at hl 2 rfl) ?_
              refine lv_imul hx hb dX3_readsNumber_65 ?_
              refine lv_aload_n hx hb dX3_readsNumber_66 rfl (lv_at hl 0 rfl) ?_
              refine z_E (va_runV (As := []) (rest := [.int (10 * x)]) ⟨hx, hb, hml, hown, hts⟩ (zc_X3_sign l D cA a M N1 h (by exact (show (N1 1) ≤ 60 by omega)) (by exact (show (N1 2) ≤ (N1 1) by omega))) (cwV 0 hts gX3_readsNumber_X3_sign rfl rfl rfl zy_X3_sign ⟨Nat.le_of_ble_eq_true rfl, Nat.le_of_ble_eq_true rfl⟩) (z_preV (ci := 3) hK hP hD rfl rfl) rfl rfl hl.1 rfl (lv_room (Nat.le_of_ble_eq_true rfl)) dX3_readsNumber_67 ⟨Nat.zero_le _, Nat.zero_le _⟩) rfl ?_
              refine lv_iadd hx hb dX3_readsNumber_70 ?_
              refine lv_bipush (v := 48) hx hb dX3_readsNumber_71 (by decide) ?_
              refine lv_isub hx hb dX3_readsNumber_73 ?_
              refine lv_iload_n hx hb dX3_readsNumber_74 rfl (lv_at hl 1 rfl) ?_
              refine lv_icmp_gt (tgt := 104) hx hb dX3_readsNumber_75 (by decide) (fun c_6 => ?_) (fun c_6 => ?_)
              · refine lv_iload_n hx hb dX3_readsNumber_104 rfl (lv_at hl 2 rfl) ?_
                exact z_iretM (w1 := moW cA a M N1 h) hx hb hr hlocks dX3_readsNumber_105 hP hS (by rw [hres_44]; simp only [f_X3_readsNumber_44, if_neg c_4, if_neg c_5, if_pos c_6]) (by rw [hres_44]; simp only [f_X3_readsNumber_44, if_neg c_4, if_neg c_5, if_pos c_6])
              · refine lv_bipush (v := 10) hx hb dX3_readsNumber_78 (by decide) ?_
                refine lv_iload_n hx hb dX3_readsNumber_80 rfl (lv_at hl 2 rfl) ?_
                refine lv_imul hx hb dX3_readsNumber_81 ?_
                refine lv_aload_n hx hb dX3_readsNumber_82 rfl (lv_at hl 0 rfl) ?_
                refine z_E (va_runV (As := []) (rest := [.int (10 * x)]) ⟨hx, hb, hml, hown, hts⟩ (zc_X3_sign l D cA a M N1 h (by exact (show (N1 1) ≤ 60 by omega)) (by exact (show (N1 2) ≤ (N1 1) by omega))) (cwV 0 hts gX3_readsNumber_X3_sign rfl rfl rfl zy_X3_sign ⟨Nat.le_of_ble_eq_true rfl, Nat.le_of_ble_eq_true rfl⟩) (z_preV (ci := 3) hK hP hD rfl rfl) rfl rfl hl.1 rfl (lv_room (Nat.le_of_ble_eq_true rfl)) dX3_readsNumber_83 ⟨Nat.zero_le _, Nat.zero_le _⟩) rfl ?_
                refine lv_iadd hx hb dX3_readsNumber_86 ?_
                refine lv_bipush (v := 48) hx hb dX3_readsNumber_87 (by decide) ?_
                refine lv_isub hx hb dX3_readsNumber_89 ?_
                refine lv_istore_n (lv' := [(2, .int (((10 * x) + (f_X3_sign M N1)) - 48)), (0, .ref (a 0)), (1, .int mt)]) hx hb dX3_readsNumber_90 rfl hl (by decide) rfl (fun ls hl => ?_)
                refine lv_aload_n hx hb dX3_readsNumber_91 rfl (lv_at hl 1 rfl) ?_
                refine lv_dup hx hb dX3_readsNumber_92 rfl ?_
                refine va_get (D := D) (ci := 3) (v := .int (nI (N1 2))) (C := RX3) (T := TX3) (N := 14) hx hb hts hi3 hown hK hP 0 rfl rfl 6 (by decide) (hts (.fieldLink RX3 137 "PledgedLoansModel" "at" "I") (List.mem_of_getElem? (i := 1) rfl)) (fun _ h9 => h9) rfl dX3_readsNumber_93 ?_
                refine lv_iconst (v := 1) hx hb dX3_readsNumber_96 (by decide) ?_
                refine lv_iadd hx hb dX3_readsNumber_97 ?_
                refine z_top (nI_add (N1 2) 1) ?_
                refine va_put (D := D) (ci := 3) (v := .int (nI ((N1 2) + 1))) (ty := .int) (C := RX3) (T := TX3) (N := 14) hx hb hts hi3 tyX3 tyX3_ok nmX3 hown hK hP hD hS 0 rfl rfl 6 (by decide) (hts (.fieldLink RX3 137 "PledgedLoansModel" "at" "I") (List.mem_of_getElem? (i := 1) rfl)) (fun _ h9 => h9) rfl (by decide +kernel) rfl rfl (Nat.le_of_ble_eq_true rfl) dX3_readsNumber_98 (fun H locs hP9 hD9 hS9 => ?_)
                replace hP : va_P D vwCl (moW cA a M (va_up N1 2 ((N1 2) + 1)) h) H := hP9
                replace hD : va_D _ (moW cA a M (va_up N1 2 ((N1 2) + 1)) h) := hD9
                replace hS := hS9
                clear hP9 hD9 hS9
                refine lv_goto (tgt := 44) hx hb dX3_readsNumber_101 (by decide) ?_
                exact ih_44 (((10 * x) + (f_X3_sign M N1)) - 48) (va_up N1 2 ((N1 2) + 1)) (by first | omega | (simp [va_up]; omega)) (by first | omega | (simp [va_up]; done) | (simp [va_up]; omega)) (by first | omega | (simp [va_up]; done) | (simp [va_up]; omega)) (by rw [hres_44]; simp only [f_X3_readsNumber_44, if_neg c_4, if_neg c_5, if_neg c_6]) _ _ hP hD hS ls (lv_sub hl [1, 2, 0] rfl)
      exact loop_44 61 0 (va_up N 2 ((N 2) + 0)) (by have := hlen; show 60 - (N 2 + _) < 61; omega) (by rfl) (by first | (show N 2 + 0 ≤ N 1; omega) | (show N 2 + 1 ≤ N 1; omega)) (by simp only [f_X3_readsNumber, if_pos c_1]) _ _ hP hD hS ls (lv_sub hl [1, 2, 0] rfl)
    · exact absurd c_2 (by decide)
  · have hat8 := zq_sign c_1 (by decide)
    refine lv_aload_n hx hb dX3_readsNumber_14 rfl (lv_at hl 0 rfl) ?_
    refine z_E (va_runV (As := []) (rest := []) ⟨hx, hb, hml, hown, hts⟩ (zc_X3_sign l D cA a M N h (by exact (show (N 1) ≤ 60 by omega)) (by exact (show (N 2) ≤ (N 1) by omega))) (cwV 0 hts gX3_readsNumber_X3_sign rfl rfl rfl zy_X3_sign ⟨Nat.le_of_ble_eq_true rfl, Nat.le_of_ble_eq_true rfl⟩) (z_preV (ci := 3) hK hP hD rfl rfl) rfl rfl hl.1 rfl (lv_room (Nat.le_of_ble_eq_true rfl)) dX3_readsNumber_15 ⟨Nat.zero_le _, Nat.zero_le _⟩) rfl ?_
    refine lv_bipush (v := 48) hx hb dX3_readsNumber_18 (by decide) ?_
    refine lv_isub hx hb dX3_readsNumber_20 ?_
    refine lv_goto (tgt := 25) hx hb dX3_readsNumber_21 (by decide) ?_
    refine lv_istore_n (lv' := [(2, .int ((f_X3_sign M N) - 48)), (0, .ref (a 0)), (1, .int mt)]) hx hb dX3_readsNumber_25 rfl hl (by decide) rfl (fun ls hl => ?_)
    refine lv_aload_n hx hb dX3_readsNumber_26 rfl (lv_at hl 1 rfl) ?_
    refine lv_dup hx hb dX3_readsNumber_27 rfl ?_
    refine va_get (D := D) (ci := 3) (v := .int (nI (N 2))) (C := RX3) (T := TX3) (N := 14) hx hb hts hi3 hown hK hP 0 rfl rfl 6 (by decide) (hts (.fieldLink RX3 137 "PledgedLoansModel" "at" "I") (List.mem_of_getElem? (i := 1) rfl)) (fun _ h9 => h9) rfl dX3_readsNumber_28 ?_
    refine lv_iload_n hx hb dX3_readsNumber_31 rfl (lv_at hl 0 rfl) ?_
    refine lv_if_le (tgt := 39) hx hb dX3_readsNumber_32 (by decide) (fun c_8 => ?_) (fun c_8 => ?_)
    · refine lv_iconst (v := 0) hx hb dX3_readsNumber_39 (by decide) ?_
      refine lv_iadd hx hb dX3_readsNumber_40 ?_
      refine z_top (nI_add (N 2) 0) ?_
      refine va_put (D := D) (ci := 3) (v := .int (nI ((N 2) + 0))) (ty := .int) (C := RX3) (T := TX3) (N := 14) hx hb hts hi3 tyX3 tyX3_ok nmX3 hown hK hP hD hS 0 rfl rfl 6 (by decide) (hts (.fieldLink RX3 137 "PledgedLoansModel" "at" "I") (List.mem_of_getElem? (i := 1) rfl)) (fun _ h9 => h9) rfl (by decide +kernel) rfl rfl (Nat.le_of_ble_eq_true rfl) dX3_readsNumber_41 (fun H locs hP9 hD9 hS9 => ?_)
      replace hP : va_P D vwCl (moW cA a M (va_up N 2 ((N 2) + 0)) h) H := hP9
      replace hD : va_D _ (moW cA a M (va_up N 2 ((N 2) + 0)) h) := hD9
      replace hS := hS9
      clear hP9 hD9 hS9
      have loop_44 : ∀ (kk : Nat) (x : Int32) (N1 : Nat → Nat), 60 - N1 2 < kk → N1 1 = N 1 → N1 2 ≤ N1 1 → f_X3_readsNumber M N mt = f_X3_readsNumber_44 M N mt kk x N1 → ∀ (H : Heap) (locs : List Loc), va_P D vwCl (moW cA a M N1 h) H → va_D (zfr (moW cA a M N h)) (moW cA a M N1 h) → va_S (zfr (moW cA a M N h)) s.heap H locs → ∀ (ls : Array Slot), lv_has ls 3 [(0, .ref (a 0)), (1, .int mt), (2, .int x)] → W p l e (headSpec wsX3_readsNumber (zrm 1 22)).room s m ([.ref (a 0), .int mt] : List Value).toArray below meth c H locs 0 0 (MQ below (zM D (moW cA a M N h) (moW cA a M ((f_X3_readsNumber M N mt).2) h) (some (.int ((f_X3_readsNumber M N mt).1)))) ([.ref (a 0), .int mt] : List Value).toArray s 0 0 (zfr (moW cA a M N h))) (F0 m 44 ls []) := by
        intro kk
        induction kk with
        | zero => intro x N1 h9; exact absurd h9 (Nat.not_lt_zero _)
        | succ kk ih_44 =>
          intro x N1 hm_44 hi0_44 hi1_44 hres_44 H locs hP hD hS ls hl
          have hlen1 : N1 1 ≤ 60 := by omega
          refine lv_iload_n hx hb dX3_readsNumber_44 rfl (lv_at hl 2 rfl) ?_
          refine lv_if_le (tgt := 104) hx hb dX3_readsNumber_45 (by decide) (fun c_10 => ?_) (fun c_10 => ?_)
          · refine lv_iload_n hx hb dX3_readsNumber_104 rfl (lv_at hl 2 rfl) ?_
            exact z_iretM (w1 := moW cA a M N1 h) hx hb hr hlocks dX3_readsNumber_105 hP hS (by rw [hres_44]; simp only [f_X3_readsNumber_44, if_pos c_10]) (by rw [hres_44]; simp only [f_X3_readsNumber_44, if_pos c_10])
          · refine lv_aload_n hx hb dX3_readsNumber_48 rfl (lv_at hl 0 rfl) ?_
            refine z_E (va_runV (As := []) (rest := []) ⟨hx, hb, hml, hown, hts⟩ (zc_X3_sign l D cA a M N1 h (by exact (show (N1 1) ≤ 60 by omega)) (by exact (show (N1 2) ≤ (N1 1) by omega))) (cwV 0 hts gX3_readsNumber_X3_sign rfl rfl rfl zy_X3_sign ⟨Nat.le_of_ble_eq_true rfl, Nat.le_of_ble_eq_true rfl⟩) (z_preV (ci := 3) hK hP hD rfl rfl) rfl rfl hl.1 rfl (lv_room (Nat.le_of_ble_eq_true rfl)) dX3_readsNumber_49 ⟨Nat.zero_le _, Nat.zero_le _⟩) rfl ?_
            refine lv_bipush (v := 48) hx hb dX3_readsNumber_52 (by decide) ?_
            refine lv_bipush (v := 57) hx hb dX3_readsNumber_54 (by decide) ?_
            refine z_E (va_runS (As := [.int (f_X3_sign M N1), .int 48, .int 57]) (rest := []) ⟨hx, hb, hml, hown, hts⟩ (zc_X3_in l D cA (f_X3_sign M N1) 48 57) (va_cwS 3 hts gX3_readsNumber_X3_in rfl rfl rfl zy_X3_in.2 ⟨Nat.le_of_ble_eq_true rfl, Nat.le_of_ble_eq_true rfl⟩) (z_preS hK z_P0 (z_D0 (A := fun _ => True))) rfl rfl hl.1 rfl (lv_room (Nat.le_of_ble_eq_true rfl)) dX3_readsNumber_56 ⟨Nat.zero_le _, Nat.zero_le _⟩) rfl ?_
            refine lv_if_eq (tgt := 104) hx hb dX3_readsNumber_59 (by decide) (fun c_11 => ?_) (fun c_11 => ?_)
            · refine lv_iload_n hx hb dX3_readsNumber_104 rfl (lv_at hl 2 rfl) ?_
              exact z_iretM (w1 := moW cA a M N1 h) hx hb hr hlocks dX3_readsNumber_105 hP hS (by rw [hres_44]; simp only [f_X3_readsNumber_44, if_neg c_10, if_pos c_11]) (by rw [hres_44]; simp only [f_X3_readsNumber_44, if_neg c_10, if_pos c_11])
            · have hat9 := zq_sign c_11 (by decide)
              refine lv_bipush (v := 10) hx hb dX3_readsNumber_62 (by decide) ?_
              refine lv_iload_n hx hb dX3_readsNumber_64 rfl (lv_at hl 2 rfl) ?_
              refine lv_imul hx hb dX3_readsNumber_65 ?_
              refine lv_aload_n hx hb dX3_readsNumber_66 rfl (lv_at hl 0 rfl) ?_
              refine z_E (va_runV (As := []) (rest := [.int (10 * x)]) ⟨hx, hb, hml, hown, hts⟩ (zc_X3_sign l D cA a M N1 h (by exact (show (N1 1) ≤ 60 by omega)) (by exact (show (N1 2) ≤ (N1 1) by omega))) (cwV 0 hts gX3_readsNumber_X3_sign rfl rfl rfl zy_X3_sign ⟨Nat.le_of_ble_eq_true rfl, Nat.le_of_ble_eq_true rfl⟩) (z_preV (ci := 3) hK hP hD rfl rfl) rfl rfl hl.1 rfl (lv_room (Nat.le_of_ble_eq_true rfl)) dX3_readsNumber_67 ⟨Nat.zero_le _, Nat.zero_le _⟩) rfl ?_
              refine lv_iadd hx hb dX3_readsNumber_70 ?_
              refine lv_bipush (v := 48) hx hb dX3_readsNumber_71 (by decide) ?_
              refine lv_isub hx hb dX3_readsNumber_73 ?_
              refine lv_iload_n hx hb dX3_readsNumber_74 rfl (lv_at hl 1 rfl) ?_
              refine lv_icmp_gt (tgt := 104) hx hb dX3_readsNumber_75 (by decide) (fun c_12 => ?_) (fun c_12 => ?_)
              · refine lv_iload_n hx hb dX3_readsNumber_104 rfl (lv_at hl 2 rfl) ?_
                exact z_iretM (w1 := moW cA a M N1 h) hx hb hr hlocks dX3_readsNumber_105 hP hS (by rw [hres_44]; simp only [f_X3_readsNumber_44, if_neg c_10, if_neg c_11, if_pos c_12]) (by rw [hres_44]; simp only [f_X3_readsNumber_44, if_neg c_10, if_neg c_11, if_pos c_12])
              · refine lv_bipush (v := 10) hx hb dX3_readsNumber_78 (by decide) ?_
                refine lv_iload_n hx hb dX3_readsNumber_80 rfl (lv_at hl 2 rfl) ?_
                refine lv_imul hx hb dX3_readsNumber_81 ?_
                refine lv_aload_n hx hb dX3_readsNumber_82 rfl (lv_at hl 0 rfl) ?_
                refine z_E (va_runV (As := []) (rest := [.int (10 * x)]) ⟨hx, hb, hml, hown, hts⟩ (zc_X3_sign l D cA a M N1 h (by exact (show (N1 1) ≤ 60 by omega)) (by exact (show (N1 2) ≤ (N1 1) by omega))) (cwV 0 hts gX3_readsNumber_X3_sign rfl rfl rfl zy_X3_sign ⟨Nat.le_of_ble_eq_true rfl, Nat.le_of_ble_eq_true rfl⟩) (z_preV (ci := 3) hK hP hD rfl rfl) rfl rfl hl.1 rfl (lv_room (Nat.le_of_ble_eq_true rfl)) dX3_readsNumber_83 ⟨Nat.zero_le _, Nat.zero_le _⟩) rfl ?_
                refine lv_iadd hx hb dX3_readsNumber_86 ?_
                refine lv_bipush (v := 48) hx hb dX3_readsNumber_87 (by decide) ?_
                refine lv_isub hx hb dX3_readsNumber_89 ?_
                refine lv_istore_n (lv' := [(2, .int (((10 * x) + (f_X3_sign M N1)) - 48)), (0, .ref (a 0)), (1, .int mt)]) hx hb dX3_readsNumber_90 rfl hl (by decide) rfl (fun ls hl => ?_)
                refine lv_aload_n hx hb dX3_readsNumber_91 rfl (lv_at hl 1 rfl) ?_
                refine lv_dup hx hb dX3_readsNumber_92 rfl ?_
                refine va_get (D := D) (ci := 3) (v := .int (nI (N1 2))) (C := RX3) (T := TX3) (N := 14) hx hb hts hi3 hown hK hP 0 rfl rfl 6 (by decide) (hts (.fieldLink RX3 137 "PledgedLoansModel" "at" "I") (List.mem_of_getElem? (i := 1) rfl)) (fun _ h9 => h9) rfl dX3_readsNumber_93 ?_
                refine lv_iconst (v := 1) hx hb dX3_readsNumber_96 (by decide) ?_
                refine lv_iadd hx hb dX3_readsNumber_97 ?_
                refine z_top (nI_add (N1 2) 1) ?_
                refine va_put (D := D) (ci := 3) (v := .int (nI ((N1 2) + 1))) (ty := .int) (C := RX3) (T := TX3) (N := 14) hx hb hts hi3 tyX3 tyX3_ok nmX3 hown hK hP hD hS 0 rfl rfl 6 (by decide) (hts (.fieldLink RX3 137 "PledgedLoansModel" "at" "I") (List.mem_of_getElem? (i := 1) rfl)) (fun _ h9 => h9) rfl (by decide +kernel) rfl rfl (Nat.le_of_ble_eq_true rfl) dX3_readsNumber_98 (fun H locs hP9 hD9 hS9 => ?_)
                replace hP : va_P D vwCl (moW cA a M (va_up N1 2 ((N1 2) + 1)) h) H := hP9
                replace hD : va_D _ (moW cA a M (va_up N1 2 ((N1 2) + 1)) h) := hD9
                replace hS := hS9
                clear hP9 hD9 hS9
                refine lv_goto (tgt := 44) hx hb dX3_readsNumber_101 (by decide) ?_
                exact ih_44 (((10 * x) + (f_X3_sign M N1)) - 48) (va_up N1 2 ((N1 2) + 1)) (by first | omega | (simp [va_up]; omega)) (by first | omega | (simp [va_up]; done) | (simp [va_up]; omega)) (by first | omega | (simp [va_up]; done) | (simp [va_up]; omega)) (by rw [hres_44]; simp only [f_X3_readsNumber_44, if_neg c_10, if_neg c_11, if_neg c_12]) _ _ hP hD hS ls (lv_sub hl [1, 2, 0] rfl)
      exact loop_44 61 ((f_X3_sign M N) - 48) (va_up N 2 ((N 2) + 0)) (by have := hlen; show 60 - (N 2 + _) < 61; omega) (by rfl) (by first | (show N 2 + 0 ≤ N 1; omega) | (show N 2 + 1 ≤ N 1; omega)) (by simp only [f_X3_readsNumber, if_neg c_1, if_pos c_8]) _ _ hP hD hS ls (lv_sub hl [1, 2, 0] rfl)
    · refine lv_iconst (v := 1) hx hb dX3_readsNumber_35 (by decide) ?_
      refine lv_goto (tgt := 40) hx hb dX3_readsNumber_36 (by decide) ?_
      refine lv_iadd hx hb dX3_readsNumber_40 ?_
      refine z_top (nI_add (N 2) 1) ?_
      refine va_put (D := D) (ci := 3) (v := .int (nI ((N 2) + 1))) (ty := .int) (C := RX3) (T := TX3) (N := 14) hx hb hts hi3 tyX3 tyX3_ok nmX3 hown hK hP hD hS 0 rfl rfl 6 (by decide) (hts (.fieldLink RX3 137 "PledgedLoansModel" "at" "I") (List.mem_of_getElem? (i := 1) rfl)) (fun _ h9 => h9) rfl (by decide +kernel) rfl rfl (Nat.le_of_ble_eq_true rfl) dX3_readsNumber_41 (fun H locs hP9 hD9 hS9 => ?_)
      replace hP : va_P D vwCl (moW cA a M (va_up N 2 ((N 2) + 1)) h) H := hP9
      replace hD : va_D _ (moW cA a M (va_up N 2 ((N 2) + 1)) h) := hD9
      replace hS := hS9
      clear hP9 hD9 hS9
      have loop_44 : ∀ (kk : Nat) (x : Int32) (N1 : Nat → Nat), 60 - N1 2 < kk → N1 1 = N 1 → N1 2 ≤ N1 1 → f_X3_readsNumber M N mt = f_X3_readsNumber_44 M N mt kk x N1 → ∀ (H : Heap) (locs : List Loc), va_P D vwCl (moW cA a M N1 h) H → va_D (zfr (moW cA a M N h)) (moW cA a M N1 h) → va_S (zfr (moW cA a M N h)) s.heap H locs → ∀ (ls : Array Slot), lv_has ls 3 [(0, .ref (a 0)), (1, .int mt), (2, .int x)] → W p l e (headSpec wsX3_readsNumber (zrm 1 22)).room s m ([.ref (a 0), .int mt] : List Value).toArray below meth c H locs 0 0 (MQ below (zM D (moW cA a M N h) (moW cA a M ((f_X3_readsNumber M N mt).2) h) (some (.int ((f_X3_readsNumber M N mt).1)))) ([.ref (a 0), .int mt] : List Value).toArray s 0 0 (zfr (moW cA a M N h))) (F0 m 44 ls []) := by
        intro kk
        induction kk with
        | zero => intro x N1 h9; exact absurd h9 (Nat.not_lt_zero _)
        | succ kk ih_44 =>
          intro x N1 hm_44 hi0_44 hi1_44 hres_44 H locs hP hD hS ls hl
          have hlen1 : N1 1 ≤ 60 := by omega
          refine lv_iload_n hx hb dX3_readsNumber_44 rfl (lv_at hl 2 rfl) ?_
          refine lv_if_le (tgt := 104) hx hb dX3_readsNumber_45 (by decide) (fun c_15 => ?_) (fun c_15 => ?_)
          · refine lv_iload_n hx hb dX3_readsNumber_104 rfl (lv_at hl 2 rfl) ?_
            exact z_iretM (w1 := moW cA a M N1 h) hx hb hr hlocks dX3_readsNumber_105 hP hS (by rw [hres_44]; simp only [f_X3_readsNumber_44, if_pos c_15]) (by rw [hres_44]; simp only [f_X3_readsNumber_44, if_pos c_15])
          · refine lv_aload_n hx hb dX3_readsNumber_48 rfl (lv_at hl 0 rfl) ?_
            refine z_E (va_runV (As := []) (rest := []) ⟨hx, hb, hml, hown, hts⟩ (zc_X3_sign l D cA a M N1 h (by exact (show (N1 1) ≤ 60 by omega)) (by exact (show (N1 2) ≤ (N1 1) by omega))) (cwV 0 hts gX3_readsNumber_X3_sign rfl rfl rfl zy_X3_sign ⟨Nat.le_of_ble_eq_true rfl, Nat.le_of_ble_eq_true rfl⟩) (z_preV (ci := 3) hK hP hD rfl rfl) rfl rfl hl.1 rfl (lv_room (Nat.le_of_ble_eq_true rfl)) dX3_readsNumber_49 ⟨Nat.zero_le _, Nat.zero_le _⟩) rfl ?_
            refine lv_bipush (v := 48) hx hb dX3_readsNumber_52 (by decide) ?_
            refine lv_bipush (v := 57) hx hb dX3_readsNumber_54 (by decide) ?_
            refine z_E (va_runS (As := [.int (f_X3_sign M N1), .int 48, .int 57]) (rest := []) ⟨hx, hb, hml, hown, hts⟩ (zc_X3_in l D cA (f_X3_sign M N1) 48 57) (va_cwS 3 hts gX3_readsNumber_X3_in rfl rfl rfl zy_X3_in.2 ⟨Nat.le_of_ble_eq_true rfl, Nat.le_of_ble_eq_true rfl⟩) (z_preS hK z_P0 (z_D0 (A := fun _ => True))) rfl rfl hl.1 rfl (lv_room (Nat.le_of_ble_eq_true rfl)) dX3_readsNumber_56 ⟨Nat.zero_le _, Nat.zero_le _⟩) rfl ?_
            refine lv_if_eq (tgt := 104) hx hb dX3_readsNumber_59 (by decide) (fun c_16 => ?_) (fun c_16 => ?_)
            · refine lv_iload_n hx hb dX3_readsNumber_104 rfl (lv_at hl 2 rfl) ?_
              exact z_iretM (w1 := moW cA a M N1 h) hx hb hr hlocks dX3_readsNumber_105 hP hS (by rw [hres_44]; simp only [f_X3_readsNumber_44, if_neg c_15, if_pos c_16]) (by rw [hres_44]; simp only [f_X3_readsNumber_44, if_neg c_15, if_pos c_16])
            · have hat9 := zq_sign c_16 (by decide)
              refine lv_bipush (v := 10) hx hb dX3_readsNumber_62 (by decide) ?_
              refine lv_iload_n hx hb dX3_readsNumber_64 rfl (lv_at hl 2 rfl) ?_
              refine lv_imul hx hb dX3_readsNumber_65 ?_
              refine lv_aload_n hx hb dX3_readsNumber_66 rfl (lv_at hl 0 rfl) ?_
              refine z_E (va_runV (As := []) (rest := [.int (10 * x)]) ⟨hx, hb, hml, hown, hts⟩ (zc_X3_sign l D cA a M N1 h (by exact (show (N1 1) ≤ 60 by omega)) (by exact (show (N1 2) ≤ (N1 1) by omega))) (cwV 0 hts gX3_readsNumber_X3_sign rfl rfl rfl zy_X3_sign ⟨Nat.le_of_ble_eq_true rfl, Nat.le_of_ble_eq_true rfl⟩) (z_preV (ci := 3) hK hP hD rfl rfl) rfl rfl hl.1 rfl (lv_room (Nat.le_of_ble_eq_true rfl)) dX3_readsNumber_67 ⟨Nat.zero_le _, Nat.zero_le _⟩) rfl ?_
              refine lv_iadd hx hb dX3_readsNumber_70 ?_
              refine lv_bipush (v := 48) hx hb dX3_readsNumber_71 (by decide) ?_
              refine lv_isub hx hb dX3_readsNumber_73 ?_
              refine lv_iload_n hx hb dX3_readsNumber_74 rfl (lv_at hl 1 rfl) ?_
              refine lv_icmp_gt (tgt := 104) hx hb dX3_readsNumber_75 (by decide) (fun c_17 => ?_) (fun c_17 => ?_)
              · refine lv_iload_n hx hb dX3_readsNumber_104 rfl (lv_at hl 2 rfl) ?_
                exact z_iretM (w1 := moW cA a M N1 h) hx hb hr hlocks dX3_readsNumber_105 hP hS (by rw [hres_44]; simp only [f_X3_readsNumber_44, if_neg c_15, if_neg c_16, if_pos c_17]) (by rw [hres_44]; simp only [f_X3_readsNumber_44, if_neg c_15, if_neg c_16, if_pos c_17])
              · refine lv_bipush (v := 10) hx hb dX3_readsNumber_78 (by decide) ?_
                refine lv_iload_n hx hb dX3_readsNumber_80 rfl (lv_at hl 2 rfl) ?_
                refine lv_imul hx hb dX3_readsNumber_81 ?_
                refine lv_aload_n hx hb dX3_readsNumber_82 rfl (lv_at hl 0 rfl) ?_
                refine z_E (va_runV (As := []) (rest := [.int (10 * x)]) ⟨hx, hb, hml, hown, hts⟩ (zc_X3_sign l D cA a M N1 h (by exact (show (N1 1) ≤ 60 by omega)) (by exact (show (N1 2) ≤ (N1 1) by omega))) (cwV 0 hts gX3_readsNumber_X3_sign rfl rfl rfl zy_X3_sign ⟨Nat.le_of_ble_eq_true rfl, Nat.le_of_ble_eq_true rfl⟩) (z_preV (ci := 3) hK hP hD rfl rfl) rfl rfl hl.1 rfl (lv_room (Nat.le_of_ble_eq_true rfl)) dX3_readsNumber_83 ⟨Nat.zero_le _, Nat.zero_le _⟩) rfl ?_
                refine lv_iadd hx hb dX3_readsNumber_86 ?_
                refine lv_bipush (v := 48) hx hb dX3_readsNumber_87 (by decide) ?_
                refine lv_isub hx hb dX3_readsNumber_89 ?_
                refine lv_istore_n (lv' := [(2, .int (((10 * x) + (f_X3_sign M N1)) - 48)), (0, .ref (a 0)), (1, .int mt)]) hx hb dX3_readsNumber_90 rfl hl (by decide) rfl (fun ls hl => ?_)
                refine lv_aload_n hx hb dX3_readsNumber_91 rfl (lv_at hl 1 rfl) ?_
                refine lv_dup hx hb dX3_readsNumber_92 rfl ?_
                refine va_get (D := D) (ci := 3) (v := .int (nI (N1 2))) (C := RX3) (T := TX3) (N := 14) hx hb hts hi3 hown hK hP 0 rfl rfl 6 (by decide) (hts (.fieldLink RX3 137 "PledgedLoansModel" "at" "I") (List.mem_of_getElem? (i := 1) rfl)) (fun _ h9 => h9) rfl dX3_readsNumber_93 ?_
                refine lv_iconst (v := 1) hx hb dX3_readsNumber_96 (by decide) ?_
                refine lv_iadd hx hb dX3_readsNumber_97 ?_
                refine z_top (nI_add (N1 2) 1) ?_
                refine va_put (D := D) (ci := 3) (v := .int (nI ((N1 2) + 1))) (ty := .int) (C := RX3) (T := TX3) (N := 14) hx hb hts hi3 tyX3 tyX3_ok nmX3 hown hK hP hD hS 0 rfl rfl 6 (by decide) (hts (.fieldLink RX3 137 "PledgedLoansModel" "at" "I") (List.mem_of_getElem? (i := 1) rfl)) (fun _ h9 => h9) rfl (by decide +kernel) rfl rfl (Nat.le_of_ble_eq_true rfl) dX3_readsNumber_98 (fun H locs hP9 hD9 hS9 => ?_)
                replace hP : va_P D vwCl (moW cA a M (va_up N1 2 ((N1 2) + 1)) h) H := hP9
                replace hD : va_D _ (moW cA a M (va_up N1 2 ((N1 2) + 1)) h) := hD9
                replace hS := hS9
                clear hP9 hD9 hS9
                refine lv_goto (tgt := 44) hx hb dX3_readsNumber_101 (by decide) ?_
                exact ih_44 (((10 * x) + (f_X3_sign M N1)) - 48) (va_up N1 2 ((N1 2) + 1)) (by first | omega | (simp [va_up]; omega)) (by first | omega | (simp [va_up]; done) | (simp [va_up]; omega)) (by first | omega | (simp [va_up]; done) | (simp [va_up]; omega)) (by rw [hres_44]; simp only [f_X3_readsNumber_44, if_neg c_15, if_neg c_16, if_neg c_17]) _ _ hP hD hS ls (lv_sub hl [1, 2, 0] rfl)
      exact loop_44 61 ((f_X3_sign M N) - 48) (va_up N 2 ((N 2) + 1)) (by have := hlen; show 60 - (N 2 + _) < 61; omega) (by rfl) (by first | (show N 2 + 0 ≤ N 1; omega) | (show N 2 + 1 ≤ N 1; omega)) (by simp only [f_X3_readsNumber, if_neg c_1, if_neg c_8]) _ _ hP hD hS ls (lv_sub hl [1, 2, 0] rfl)

theorem zy_X3_readsOrder : yX3_readsOrder.cls = RX3 ∧ yX3_readsOrder.cls ≠ "java/lang/invoke/MethodHandle" ∧ yX3_readsOrder.cls ≠ "java/lang/invoke/VarHandle" ∧ (parseMethodDescriptor yX3_readsOrder.desc).map (fun d => d.parameters.length) = some 0 := by decide +kernel
def f_X3_readsOrder_205 (M : BK) (N : Nat → Nat) (M5 : BK) (N5 : (Nat → Nat)) : Int32 × BK × (Nat → Nat) :=
  if (M5 4 5) ≤ 0 then
    (0, M5, N5)
  else
    (1, M5, N5)
def f_X3_readsOrder_153 (M : BK) (N : Nat → Nat) (M4 : BK) (N4 : (Nat → Nat)) : Int32 × BK × (Nat → Nat) :=
  if (M4 4 1) = 98 then
    if (M4 4 4) = 0 then
      if (M4 4 4) ≤ 0 then
        (0, M4, N4)
      else
        (1, M4, N4)
    else
      let N_5 : Nat → Nat := (f_X3_takesSign M4 N4 47).2
      if ((f_X3_takesSign M4 N4 47).1) = 0 then
        f_X3_readsOrder_205 M N (uB M4 4 5 0) N_5
      else
        let N_7 : Nat → Nat := (f_X3_readsNumber M4 N_5 52).2
        f_X3_readsOrder_205 M N (uB M4 4 5 ((f_X3_readsNumber M4 N_5 52).1)) N_7
  else
    if (M4 4 4) ≤ 0 then
      (0, M4, N4)
    else
      (1, M4, N4)
def f_X3_readsOrder_129 (M : BK) (N : Nat → Nat) (M3 : BK) (N3 : (Nat → Nat)) : Int32 × BK × (Nat → Nat) :=
  let N_9 : Nat → Nat := (f_X3_takesSign M3 N3 58).2
  if ((f_X3_takesSign M3 N3 58).1) = 0 then
    f_X3_readsOrder_153 M N (uB M3 4 4 0) N_9
  else
    let N_11 : Nat → Nat := (f_X3_readsNumber M3 N_9 9999).2
    f_X3_readsOrder_153 M N (uB M3 4 4 ((f_X3_readsNumber M3 N_9 9999).1)) N_11
def f_X3_readsOrder_66 (M : BK) (N : Nat → Nat) (M2 : BK) (N2 : (Nat → Nat)) : Int32 × BK × (Nat → Nat) :=
  let N_12 : Nat → Nat := (f_X3_readsMember M2 N2 (-1)).2
  if ((uB M2 4 2 ((f_X3_readsMember M2 N2 (-1)).1)) 4 2) = (-1) then
    (0, uB M2 4 2 ((f_X3_readsMember M2 N2 (-1)).1), N_12)
  else
    if ((uB M2 4 2 ((f_X3_readsMember M2 N2 (-1)).1)) 4 1) = 112 then
      let N_15 : Nat → Nat := (f_X3_takesSign (uB M2 4 2 ((f_X3_readsMember M2 N2 (-1)).1)) N_12 62).2
      let M_16 : BK := uB M2 4 2 ((f_X3_readsMember M2 N2 (-1)).1)
      if ((f_X3_takesSign (uB M2 4 2 ((f_X3_readsMember M2 N2 (-1)).1)) N_12 62).1) = 0 then
        if ((uB M_16 4 3 (-1)) 4 3) = (-1) then
          (0, uB M_16 4 3 (-1), N_15)
        else
          f_X3_readsOrder_129 M N (uB M_16 4 3 (-1)) N_15
      else
        let N_19 : Nat → Nat := (f_X3_readsMember M_16 N_15 (M_16 4 2)).2
        let M_20 : BK := uB M_16 4 3 ((f_X3_readsMember M_16 N_15 (M_16 4 2)).1)
        if (M_20 4 3) = (-1) then
          (0, M_20, N_19)
        else
          f_X3_readsOrder_129 M N M_20 N_19
    else
      f_X3_readsOrder_129 M N (uB M2 4 2 ((f_X3_readsMember M2 N2 (-1)).1)) N_12
def f_X3_readsOrder (M : BK) (N : Nat → Nat) : Int32 × BK × (Nat → Nat) :=
  let N_22 : Nat → Nat := (f_X3_takesSign (uB M 4 1 (f_X3_sign M N)) N 119).2
  let M_23 : BK := uB M 4 1 (f_X3_sign M N)
  if ((f_X3_takesSign (uB M 4 1 (f_X3_sign M N)) N 119).1) = 0 then
    let N_25 : Nat → Nat := (f_X3_takesSign M_23 N_22 43).2
    if ((f_X3_takesSign M_23 N_22 43).1) = 0 then
      let N_27 : Nat → Nat := (f_X3_takesSign M_23 N_25 45).2
      if ((f_X3_takesSign M_23 N_25 45).1) = 0 then
        let N_29 : Nat → Nat := (f_X3_takesSign M_23 N_27 112).2
        if ((f_X3_takesSign M_23 N_27 112).1) = 0 then
          let N_31 : Nat → Nat := (f_X3_takesSign M_23 N_29 98).2
          if ((f_X3_takesSign M_23 N_29 98).1) = 0 then
            let N_33 : Nat → Nat := (f_X3_takesSign M_23 N_31 114).2
            if ((f_X3_takesSign M_23 N_31 114).1) = 0 then
              (0, M_23, N_33)
            else
              f_X3_readsOrder_66 M N M_23 N_33
          else
            f_X3_readsOrder_66 M N M_23 N_31
        else
          f_X3_readsOrder_66 M N M_23 N_29
      else
        f_X3_readsOrder_66 M N M_23 N_27
    else
      f_X3_readsOrder_66 M N M_23 N_25
  else
    (1, M_23, N_22)

theorem zif {α : Type} (P : α → Prop) {c : Prop} [Decidable c] {x y : α} (h1 : c → P x) (h2 : ¬ c → P y) : P (if c then x else y) := by
  by_cases h : c
  · rw [if_pos h]; exact h1 h
  · rw [if_neg h]; exact h2 h
theorem z_dig {x : Int32} {lo hi : Nat} (hh : hi < 2 ^ 31) (hl : lo < 2 ^ 31) (h : ¬ f_X3_in x (nI lo) (nI hi) = 0) : ∃ j : Nat, lo ≤ j ∧ j ≤ hi ∧ x = nI j := by
  obtain ⟨h1, h2⟩ := zq_in h
  have h0 : ¬ x < 0 := by
    intro h9
    apply h1
    rw [Int32.lt_iff_toInt_lt] at h9 ⊢
    rw [nI_toInt hl]
    have e0 : (0 : Int32).toInt = 0 := by decide
    omega
  obtain ⟨j, hj, rfl⟩ := zq_nI hh h0 h2
  rw [nI_ltI (by omega) hl] at h1
  exact ⟨j, by omega, by omega, rfl⟩
/-- the order that was read says who and how long -/
def zvf (M : BK) : Prop := M 4 2 = nI ((M 4 2).toNatClampNeg % 6)
def zvs (M : BK) : Prop := M 4 1 = 112 → M 4 3 = nI ((M 4 3).toNatClampNeg % 6)
def zval (M : BK) : Prop := (¬ M 4 1 = 119 → M 4 2 = nI ((M 4 2).toNatClampNeg % 6)) ∧ (M 4 1 = 112 → M 4 3 = nI ((M 4 3).toNatClampNeg % 6)) ∧ (M 4 1 = 98 → ¬ M 4 5 = 0)
def zRQ (N : Nat → Nat) (r : Int32 × BK × (Nat → Nat)) : Prop := zadv N r.2.2 ∧ (r.1 = 0 ∨ r.1 = 1) ∧ (¬ r.1 = 0 → zval r.2.1)
theorem zRQ.no (N N' : Nat → Nat) (M : BK) (h : zadv N N') : zRQ N (0, M, N') := ⟨h, Or.inl rfl, fun h => absurd rfl h⟩
theorem zRQ.ok (N N' : Nat → Nat) (M : BK) (h : zadv N N') (hv : zval M) : zRQ N (1, M, N') := ⟨h, Or.inr rfl, fun _ => hv⟩
theorem zRQ.tr {N N1 : Nat → Nat} {r : Int32 × BK × (Nat → Nat)} (h1 : zadv N N1) (h2 : zRQ N1 r) : zRQ N r := ⟨zadv.tr h1 h2.1, h2.2⟩
theorem zrm_v (M : BK) (N : Nat → Nat) (bu : Int32) : (f_X3_readsMember M N bu).1 = -1 ∨ (f_X3_readsMember M N bu).1 = nI ((f_X3_readsMember M N bu).1.toNatClampNeg % 6) := by
  by_cases c : f_X3_in (f_X3_sign M N) 48 53 = 0
  · left
    simp only [f_X3_readsMember, if_pos c]
  · obtain ⟨j, h1, h2, e⟩ := z_dig (lo := 48) (hi := 53) (by omega) (by omega) c
    have es : f_X3_sign M N - 48 = nI (j - 48) := by
      rw [e]
      exact pk_sub (a := j) (b := 48) h1
    have ec : (nI (j - 48)).toNatClampNeg = j - 48 := nI_clamp (by omega)
    have em : (j - 48) % 6 = j - 48 := Nat.mod_eq_of_lt (by omega)
    have key : f_X3_sign M N - 48 = nI ((f_X3_sign M N - 48).toNatClampNeg % 6) := by rw [es, ec, em]
    simp only [f_X3_readsMember, if_neg c]
    by_cases c2 : f_X3_sign M N - 48 = bu
    · left
      rw [if_pos c2]
    · right
      rw [if_neg c2]
      by_cases c3 : f_X3_sign M N - 48 = -1
      · rw [if_pos c3]; exact key
      · rw [if_neg c3]; exact key
theorem zRQ_205 (M : BK) (N : Nat → Nat) (M5 : BK) (N5 : Nat → Nat) (h1 : zvf M5) (h2 : zvs M5) : zRQ N5 (f_X3_readsOrder_205 M N M5 N5) := by
  unfold f_X3_readsOrder_205
  refine zif (zRQ N5) (fun _ => zRQ.no _ _ _ (zadv.rf _)) (fun c => zRQ.ok _ _ _ (zadv.rf _) ⟨fun _ => h1, h2, fun _ h => c ?_⟩)
  rw [h]
  decide
theorem zRQ_153 (M : BK) (N : Nat → Nat) (M4 : BK) (N4 : Nat → Nat) (h1 : zvf M4) (h2 : zvs M4) : zRQ N4 (f_X3_readsOrder_153 M N M4 N4) := by
  unfold f_X3_readsOrder_153
  dsimp only
  refine zif (zRQ N4) (fun c => ?_) (fun c => ?_)
  · refine zif (zRQ N4) (fun c2 => ?_) (fun c2 => ?_)
    · refine zif (zRQ N4) (fun _ => zRQ.no _ _ _ (zadv.rf _)) (fun c3 => absurd ?_ c3)
      rw [c2]
      decide
    · have t := zn_X3_takesSign M4 N4 47 (by decide)
      refine zif (zRQ N4) (fun _ => zRQ.tr t (zRQ_205 M N _ _ h1 h2)) (fun _ => zRQ.tr (zadv.tr t (zn_X3_readsNumber _ _ _)) (zRQ_205 M N _ _ h1 h2))
  · refine zif (zRQ N4) (fun _ => zRQ.no _ _ _ (zadv.rf _)) (fun _ => zRQ.ok _ _ _ (zadv.rf _) ⟨fun _ => h1, h2, fun h => absurd h c⟩)
theorem zRQ_129 (M : BK) (N : Nat → Nat) (M3 : BK) (N3 : Nat → Nat) (h1 : zvf M3) (h2 : zvs M3) : zRQ N3 (f_X3_readsOrder_129 M N M3 N3) := by
  unfold f_X3_readsOrder_129
  dsimp only
  have t := zn_X3_takesSign M3 N3 58 (by decide)
  refine zif (zRQ N3) (fun _ => zRQ.tr t (zRQ_153 M N _ _ h1 h2)) (fun _ => zRQ.tr (zadv.tr t (zn_X3_readsNumber _ _ _)) (zRQ_153 M N _ _ h1 h2))
theorem zRQ_66 (M : BK) (N : Nat → Nat) (M2 : BK) (N2 : Nat → Nat) : zRQ N2 (f_X3_readsOrder_66 M N M2 N2) := by
  unfold f_X3_readsOrder_66
  dsimp only
  have r := zn_X3_readsMember M2 N2 (-1)
  have v := zrm_v M2 N2 (-1)
  refine zif (zRQ N2) (fun _ => zRQ.no _ _ _ r) (fun c => ?_)
  have vf : (f_X3_readsMember M2 N2 (-1)).1 = nI ((f_X3_readsMember M2 N2 (-1)).1.toNatClampNeg % 6) := by
    rcases v with v | v
    · exact absurd v c
    · exact v
  clear v c
  generalize (f_X3_readsMember M2 N2 (-1)).1 = x at *
  generalize (f_X3_readsMember M2 N2 (-1)).2 = N3 at *
  refine zif (zRQ N2) (fun c => ?_) (fun c => zRQ.tr r (zRQ_129 M N _ _ vf (fun h => absurd h c)))
  have t := zn_X3_takesSign (uB M2 4 2 x) N3 62 (by decide)
  refine zif (zRQ N2) (fun _ => ?_) (fun _ => ?_)
  · exact zif (zRQ N2) (fun _ => zRQ.no _ _ _ (zadv.tr r t)) (fun c9 => absurd rfl c9)
  · generalize (f_X3_takesSign (uB M2 4 2 x) N3 62).2 = N4 at *
    have r2 := zn_X3_readsMember (uB M2 4 2 x) N4 ((uB M2 4 2 x) 4 2)
    have v2 := zrm_v (uB M2 4 2 x) N4 ((uB M2 4 2 x) 4 2)
    generalize (f_X3_readsMember (uB M2 4 2 x) N4 ((uB M2 4 2 x) 4 2)).1 = y at *
    generalize (f_X3_readsMember (uB M2 4 2 x) N4 ((uB M2 4 2 x) 4 2)).2 = N5 at *
    refine zif (zRQ N2) (fun _ => zRQ.no _ _ _ (zadv.tr (zadv.tr r t) r2)) (fun c3 => zRQ.tr (zadv.tr (zadv.tr r t) r2) (zRQ_129 M N _ _ vf (fun _ => ?_)))
    rcases v2 with v2 | v2
    · exact absurd v2 c3
    · exact v2
theorem zts_1 {M : BK} {N : Nat → Nat} {sg : Int32} (h : ¬ (f_X3_takesSign M N sg).1 = 0) : f_X3_sign M N = sg := by
  by_cases c : f_X3_sign M N = sg
  · exact c
  · simp only [f_X3_takesSign, if_neg c] at h
    exact absurd trivial h
theorem zRQ_ro (M : BK) (N : Nat → Nat) : zRQ N (f_X3_readsOrder M N) := by
  unfold f_X3_readsOrder
  dsimp only
  have es : f_X3_sign (uB M 4 1 (f_X3_sign M N)) N = f_X3_sign M N := rfl
  have e1 : (uB M 4 1 (f_X3_sign M N)) 4 1 = f_X3_sign M N := rfl
  generalize uB M 4 1 (f_X3_sign M N) = M1 at *
  have t := fun (N1 : Nat → Nat) (sg : Int32) (h : ¬ sg = 0) => zn_X3_takesSign M1 N1 sg h
  refine zif (zRQ N) (fun _ => ?_) (fun c => zRQ.ok _ _ _ (t _ _ (by decide)) ?_)
  · have t1 := t N 119 (by decide)
    generalize (f_X3_takesSign M1 N 119).2 = N1 at *
    refine zif (zRQ N) (fun _ => ?_) (fun _ => zRQ.tr (zadv.tr t1 (t _ _ (by decide))) (zRQ_66 M N _ _))
    have t2 := zadv.tr t1 (t N1 43 (by decide))
    generalize (f_X3_takesSign M1 N1 43).2 = N2 at *
    refine zif (zRQ N) (fun _ => ?_) (fun _ => zRQ.tr (zadv.tr t2 (t _ _ (by decide))) (zRQ_66 M N _ _))
    have t3 := zadv.tr t2 (t N2 45 (by decide))
    generalize (f_X3_takesSign M1 N2 45).2 = N3 at *
    refine zif (zRQ N) (fun _ => ?_) (fun _ => zRQ.tr (zadv.tr t3 (t _ _ (by decide))) (zRQ_66 M N _ _))
    have t4 := zadv.tr t3 (t N3 112 (by decide))
    generalize (f_X3_takesSign M1 N3 112).2 = N4 at *
    refine zif (zRQ N) (fun _ => ?_) (fun _ => zRQ.tr (zadv.tr t4 (t _ _ (by decide))) (zRQ_66 M N _ _))
    have t5 := zadv.tr t4 (t N4 98 (by decide))
    generalize (f_X3_takesSign M1 N4 98).2 = N5 at *
    refine zif (zRQ N) (fun _ => ?_) (fun _ => zRQ.tr (zadv.tr t5 (t _ _ (by decide))) (zRQ_66 M N _ _))
    exact zRQ.no _ _ _ (zadv.tr t5 (t _ _ (by decide)))
  · have hs := zts_1 c
    rw [es] at hs
    have h9 : M1 4 1 = 119 := e1.trans hs
    refine ⟨fun h => absurd h9 h, fun h => ?_, fun h => ?_⟩
    · rw [h9] at h
      exact absurd h (by decide)
    · rw [h9] at h
      exact absurd h (by decide)
theorem zn_X3_readsOrder (M : BK) (N : Nat → Nat) : zadv N (f_X3_readsOrder M N).2.2 := (zRQ_ro M N).1
theorem zval_ro (M : BK) (N : Nat → Nat) (h : ¬ (f_X3_readsOrder M N).1 = 0) : zval (f_X3_readsOrder M N).2.1 := (zRQ_ro M N).2.2 h
theorem zbb {x : Int32} (h : x = 0 ∨ x = 1) : narrow .boolean (.int x) = .int x := by
  rcases h with rfl | rfl <;> rfl

theorem zb_X3_readsOrder (M : BK) (N : Nat → Nat) : narrow .boolean (.int ((f_X3_readsOrder M N).1)) = .int ((f_X3_readsOrder M N).1) := by
  exact zbb (zRQ_ro M N).2.1
set_option maxHeartbeats 4000000 in
set_option maxRecDepth 100000 in
theorem zc_X3_readsOrder (l : Launch) (D : va_G) (cA : Nat → ClassId) (a : Nat → Nat) (M : BK) (N : Nat → Nat) (h : Int64) (hlen : N 1 ≤ 60) (hat : N 2 ≤ N 1) : Met l yX3_readsOrder wsX3_readsOrder (zrm 2 44) (zPc D cA [.ref (a 0)] (moW cA a M N h)) (zM D (moW cA a M N h) (moW cA a ((f_X3_readsOrder M N).2.1) ((f_X3_readsOrder M N).2.2) h) (some (.int ((f_X3_readsOrder M N).1)))) 0 0 (zfr (moW cA a M N h)) := by
  refine Met.ofW (cc := cX3_readsOrder) (maxL := 1) (ret := (some .boolean)) (by decide) rfl ?_
  intro p e s m args below meth c s₁ Bd hml hv
  obtain ⟨rfl, hP, hK, hD0⟩ := hv
  have hx := Bd.exec
  have hb := Bd.bytes
  have hr := Bd.returns
  have hts := atoms_spec (ws := wsX3_readsOrder) Bd.pre
  have hown : s.vm.findClass RX3 = some m.cls := findClass_of_methodNamed Bd.named
  have hlocks := Bd.notSynchronized
  have hD := z_Dfr hD0
  have hS : va_S (zfr (moW cA a M N h)) s.heap s.heap [] := va_S.rf
  have hi3 : ∀ w ∈ wsX30, w ∈ wsX3_readsOrder := fun w h => List.mem_cons_of_mem _ (List.mem_append_right _ h)
  have hl := lv_entry ([.ref (a 0)]) (n := 1) (Nat.le_of_ble_eq_true rfl)
  rw [lg_entry_eq]
  generalize (lg_sl ([.ref (a 0)]) ++ List.replicate (1 - (lg_sl ([.ref (a 0)])).length) Slot.unset).toArray = ls at hl ⊢
  have hl : lv_has ls 1 [(0, .ref (a 0))] := hl
  have join_205 : ∀ (M5 : BK) (N5 : (Nat → Nat)), N5 1 = N 1 → N5 2 ≤ N5 1 → f_X3_readsOrder M N = f_X3_readsOrder_205 M N M5 N5 → ∀ (H : Heap) (locs : List Loc), va_P D vwCl (moW cA a M5 N5 h) H → va_D (zfr (moW cA a M N h)) (moW cA a M5 N5 h) → va_S (zfr (moW cA a M N h)) s.heap H locs → ∀ (ls : Array Slot), lv_has ls 1 [(0, .ref (a 0))] → W p l e (headSpec wsX3_readsOrder (zrm 2 44)).room s m ([.ref (a 0)] : List Value).toArray below meth c H locs 0 0 (MQ below (zM D (moW cA a M N h) (moW cA a ((f_X3_readsOrder M N).2.1) ((f_X3_readsOrder M N).2.2) h) (some (.int ((f_X3_readsOrder M N).1)))) ([.ref (a 0)] : List Value).toArray s 0 0 (zfr (moW cA a M N h))) (F0 m 205 ls []) := by
    intro M5 N5 hi0_205 hi1_205 hres_205 H locs hP hD hS ls hl
    have hlen5 : N5 1 ≤ 60 := by omega
    refine lv_aload_n hx hb dX3_readsOrder_205 rfl (lv_at hl 0 rfl) ?_
    refine va_get (D := D) (ci := 3) (v := .int (M5 4 5)) (C := RX3) (T := TX3) (N := 14) hx hb hts hi3 hown hK hP 0 rfl rfl 11 (by decide) (hts (.fieldLink RX3 164 "PledgedLoansModel" "weeks" "I") (List.mem_of_getElem? (i := 5) rfl)) (fun _ h9 => h9) rfl dX3_readsOrder_206 ?_
    refine lv_if_le (tgt := 216) hx hb dX3_readsOrder_209 (by decide) (fun c_1 => ?_) (fun c_1 => ?_)
    · refine lv_iconst (v := 0) hx hb dX3_readsOrder_216 (by decide) ?_
      exact z_zretM (w1 := moW cA a M5 N5 h) hx hb hr hlocks dX3_readsOrder_217 hP hS rfl (by rw [hres_205]; simp only [f_X3_readsOrder_205, if_pos c_1]) (by rw [hres_205]; simp only [f_X3_readsOrder_205, if_pos c_1])
    · refine lv_iconst (v := 1) hx hb dX3_readsOrder_212 (by decide) ?_
      refine lv_goto (tgt := 217) hx hb dX3_readsOrder_213 (by decide) ?_
      exact z_zretM (w1 := moW cA a M5 N5 h) hx hb hr hlocks dX3_readsOrder_217 hP hS rfl (by rw [hres_205]; simp only [f_X3_readsOrder_205, if_neg c_1]) (by rw [hres_205]; simp only [f_X3_readsOrder_205, if_neg c_1])
  have join_153 : ∀ (M4 : BK) (N4 : (Nat → Nat)), N4 1 = N 1 → N4 2 ≤ N4 1 → f_X3_readsOrder M N = f_X3_readsOrder_153 M N M4 N4 → ∀ (H : Heap) (locs : List Loc), va_P D vwCl (moW cA a M4 N4 h) H → va_D (zfr (moW cA a M N h)) (moW cA a M4 N4 h) → va_S (zfr (moW cA a M N h)) s.heap H locs → ∀ (ls : Array Slot), lv_has ls 1 [(0, .ref (a 0))] → W p l e (headSpec wsX3_readsOrder (zrm 2 44)).room s m ([.ref (a 0)] : List Value).toArray below meth c H locs 0 0 (MQ below (zM D (moW cA a M N h) (moW cA a ((f_X3_readsOrder M N).2.1) ((f_X3_readsOrder M N).2.2) h) (some (.int ((f_X3_readsOrder M N).1)))) ([.ref (a 0)] : List Value).toArray s 0 0 (zfr (moW cA a M N h))) (F0 m 153 ls []) := by
    intro M4 N4 hi0_153 hi1_153 hres_153 H locs hP hD hS ls hl
    have hlen4 : N4 1 ≤ 60 := by omega
    refine lv_aload_n hx hb dX3_readsOrder_153 rfl (lv_at hl 0 rfl) ?_
    refine va_get (D := D) (ci := 3) (v := .int (M4 4 1)) (C := RX3) (T := TX3) (N := 14) hx hb hts hi3 hown hK hP 0 rfl rfl 7 (by decide) (hts (.fieldLink RX3 143 "PledgedLoansModel" "order" "I") (List.mem_of_getElem? (i := 1) rfl)) (fun _ h9 => h9) rfl dX3_readsOrder_154 ?_
    refine lv_bipush (v := 98) hx hb dX3_readsOrder_157 (by decide) ?_
    refine lv_icmp_ne (tgt := 169) hx hb dX3_readsOrder_159 (by decide) (fun c_2 => ?_) (fun c_2 => ?_)
    · refine lv_aload_n hx hb dX3_readsOrder_169 rfl (lv_at hl 0 rfl) ?_
      refine va_get (D := D) (ci := 3) (v := .int (M4 4 4)) (C := RX3) (T := TX3) (N := 14) hx hb hts hi3 hown hK hP 0 rfl rfl 10 (by decide) (hts (.fieldLink RX3 161 "PledgedLoansModel" "amount" "I") (List.mem_of_getElem? (i := 4) rfl)) (fun _ h9 => h9) rfl dX3_readsOrder_170 ?_
      refine lv_if_le (tgt := 180) hx hb dX3_readsOrder_173 (by decide) (fun c_3 => ?_) (fun c_3 => ?_)
      · refine lv_iconst (v := 0) hx hb dX3_readsOrder_180 (by decide) ?_
        exact z_zretM (w1 := moW cA a M4 N4 h) hx hb hr hlocks dX3_readsOrder_181 hP hS rfl (by rw [hres_153]; simp only [f_X3_readsOrder_153, if_neg c_2, if_pos c_3]) (by rw [hres_153]; simp only [f_X3_readsOrder_153, if_neg c_2, if_pos c_3])
      · refine lv_iconst (v := 1) hx hb dX3_readsOrder_176 (by decide) ?_
        refine lv_goto (tgt := 181) hx hb dX3_readsOrder_177 (by decide) ?_
        exact z_zretM (w1 := moW cA a M4 N4 h) hx hb hr hlocks dX3_readsOrder_181 hP hS rfl (by rw [hres_153]; simp only [f_X3_readsOrder_153, if_neg c_2, if_neg c_3]) (by rw [hres_153]; simp only [f_X3_readsOrder_153, if_neg c_2, if_neg c_3])
    · refine lv_aload_n hx hb dX3_readsOrder_162 rfl (lv_at hl 0 rfl) ?_
      refine va_get (D := D) (ci := 3) (v := .int (M4 4 4)) (C := RX3) (T := TX3) (N := 14) hx hb hts hi3 hown hK hP 0 rfl rfl 10 (by decide) (hts (.fieldLink RX3 161 "PledgedLoansModel" "amount" "I") (List.mem_of_getElem? (i := 4) rfl)) (fun _ h9 => h9) rfl dX3_readsOrder_163 ?_
      refine lv_if_ne (tgt := 182) hx hb dX3_readsOrder_166 (by decide) (fun c_4 => ?_) (fun c_4 => ?_)
      · refine lv_aload_n hx hb dX3_readsOrder_182 rfl (lv_at hl 0 rfl) ?_
        refine lv_aload_n hx hb dX3_readsOrder_183 rfl (lv_at hl 0 rfl) ?_
        refine lv_bipush (v := 47) hx hb dX3_readsOrder_184 (by decide) ?_
        refine z_M (X := ([] : va_W)) (Z := ([] : va_W)) (va_runV (As := [.int 47]) (rest := [.ref (a 0)]) ⟨hx, hb, hml, hown, hts⟩ (zc_X3_takesSign l D cA a M4 N4 h 47 (by exact (show (N4 1) ≤ 60 by omega)) (by exact (show (N4 2) ≤ (N4 1) by omega))) (cwV 1 hts gX3_readsOrder_X3_takesSign rfl rfl rfl zy_X3_takesSign ⟨Nat.le_of_ble_eq_true rfl, Nat.le_of_ble_eq_true rfl⟩) (z_preV (ci := 3) hK hP hD rfl rfl) rfl rfl hl.1 rfl (lv_room (Nat.le_of_ble_eq_true rfl)) dX3_readsOrder_186 ⟨Nat.zero_le _, Nat.zero_le _⟩) hP hD hS moW_adr rfl (fun H locs hP9 hD9 hS9 => ?_)
        replace hP : va_P D vwCl (moW cA a M4 ((f_X3_takesSign M4 N4 47).2) h) H := hP9
        replace hD : va_D _ (moW cA a M4 ((f_X3_takesSign M4 N4 47).2) h) := hD9
        replace hS := hS9
        clear hP9 hD9 hS9
        obtain ⟨N_5, eN_5⟩ : ∃ z9 : Nat → Nat, z9 = (f_X3_takesSign M4 N4 47).2 := ⟨_, rfl⟩
        rw [← eN_5] at hP hD
        have hlN_5 : N_5 1 = (N4 1) ∧ N_5 0 = (N4 0) ∧ ((N4 2) ≤ (N4 1) → (N4 2) ≤ N_5 2 ∧ N_5 2 ≤ (N4 1)) := by rw [eN_5]; exact (zn_X3_takesSign M4 N4 47 (by decide))
        refine lv_if_eq (tgt := 201) hx hb dX3_readsOrder_189 (by decide) (fun c_6 => ?_) (fun c_6 => ?_)
        · refine lv_iconst (v := 0) hx hb dX3_readsOrder_201 (by decide) ?_
          refine va_put (D := D) (ci := 3) (v := .int 0) (ty := .int) (C := RX3) (T := TX3) (N := 14) hx hb hts hi3 tyX3 tyX3_ok nmX3 hown hK hP hD hS 0 rfl rfl 11 (by decide) (hts (.fieldLink RX3 164 "PledgedLoansModel" "weeks" "I") (List.mem_of_getElem? (i := 5) rfl)) (fun _ h9 => h9) rfl (by decide +kernel) rfl rfl (Nat.le_of_ble_eq_true rfl) dX3_readsOrder_202 (fun H locs hP9 hD9 hS9 => ?_)
          replace hP : va_P D vwCl (moW cA a (uB M4 4 5 0) N_5 h) H := hP9
          replace hD : va_D _ (moW cA a (uB M4 4 5 0) N_5 h) := hD9
          replace hS := hS9
          clear hP9 hD9 hS9
          exact join_205 (uB M4 4 5 0) N_5 (by first | assumption | omega) (by first | assumption | omega) (by subst eN_5; rw [hres_153]; simp only [f_X3_readsOrder_153, if_pos c_2, if_neg c_4, if_pos c_6]) _ _ hP hD hS ls (lv_sub hl [0] rfl)
        · refine lv_aload_n hx hb dX3_readsOrder_192 rfl (lv_at hl 0 rfl) ?_
          refine lv_bipush (v := 52) hx hb dX3_readsOrder_193 (by decide) ?_
          refine z_M (X := ([] : va_W)) (Z := ([] : va_W)) (va_runV (As := [.int 52]) (rest := [.ref (a 0)]) ⟨hx, hb, hml, hown, hts⟩ (zc_X3_readsNumber l D cA a M4 N_5 h 52 (by exact (show (N_5 1) ≤ 60 by omega)) (by exact (show (N_5 2) ≤ (N_5 1) by omega))) (cwV 1 hts gX3_readsOrder_X3_readsNumber rfl rfl rfl zy_X3_readsNumber ⟨Nat.le_of_ble_eq_true rfl, Nat.le_of_ble_eq_true rfl⟩) (z_preV (ci := 3) hK hP hD rfl rfl) rfl rfl hl.1 rfl (lv_room (Nat.le_of_ble_eq_true rfl)) dX3_readsOrder_195 ⟨Nat.zero_le _, Nat.zero_le _⟩) hP hD hS moW_adr rfl (fun H locs hP9 hD9 hS9 => ?_)
          replace hP : va_P D vwCl (moW cA a M4 ((f_X3_readsNumber M4 N_5 52).2) h) H := hP9
          replace hD : va_D _ (moW cA a M4 ((f_X3_readsNumber M4 N_5 52).2) h) := hD9
          replace hS := hS9
          clear hP9 hD9 hS9
          obtain ⟨N_7, eN_7⟩ : ∃ z9 : Nat → Nat, z9 = (f_X3_readsNumber M4 N_5 52).2 := ⟨_, rfl⟩
          rw [← eN_7] at hP hD
          have hlN_7 : N_7 1 = (N_5 1) ∧ N_7 0 = (N_5 0) ∧ ((N_5 2) ≤ (N_5 1) → (N_5 2) ≤ N_7 2 ∧ N_7 2 ≤ (N_5 1)) := by rw [eN_7]; exact (zn_X3_readsNumber M4 N_5 52)
          refine lv_goto (tgt := 202) hx hb dX3_readsOrder_198 (by decide) ?_
          refine va_put (D := D) (ci := 3) (v := .int ((f_X3_readsNumber M4 N_5 52).1)) (ty := .int) (C := RX3) (T := TX3) (N := 14) hx hb hts hi3 tyX3 tyX3_ok nmX3 hown hK hP hD hS 0 rfl rfl 11 (by decide) (hts (.fieldLink RX3 164 "PledgedLoansModel" "weeks" "I") (List.mem_of_getElem? (i := 5) rfl)) (fun _ h9 => h9) rfl (by decide +kernel) rfl rfl (Nat.le_of_ble_eq_true rfl) dX3_readsOrder_202 (fun H locs hP9 hD9 hS9 => ?_)
          replace hP : va_P D vwCl (moW cA a (uB M4 4 5 ((f_X3_readsNumber M4 N_5 52).1)) N_7 h) H := hP9
          replace hD : va_D _ (moW cA a (uB M4 4 5 ((f_X3_readsNumber M4 N_5 52).1)) N_7 h) := hD9
          replace hS := hS9
          clear hP9 hD9 hS9
          exact join_205 (uB M4 4 5 ((f_X3_readsNumber M4 N_5 52).1)) N_7 (by first | assumption | omega) (by first | assumption | omega) (by subst eN_7 eN_5; rw [hres_153]; simp only [f_X3_readsOrder_153, if_pos c_2, if_neg c_4, if_neg c_6]) _ _ hP hD hS ls (lv_sub hl [0] rfl)
      · refine lv_aload_n hx hb dX3_readsOrder_169 rfl (lv_at hl 0 rfl) ?_
        refine va_get (D := D) (ci := 3) (v := .int (M4 4 4)) (C := RX3) (T := TX3) (N := 14) hx hb hts hi3 hown hK hP 0 rfl rfl 10 (by decide) (hts (.fieldLink RX3 161 "PledgedLoansModel" "amount" "I") (List.mem_of_getElem? (i := 4) rfl)) (fun _ h9 => h9) rfl dX3_readsOrder_170 ?_
        refine lv_if_le (tgt := 180) hx hb dX3_readsOrder_173 (by decide) (fun c_8 => ?_) (fun c_8 => ?_)
        · refine lv_iconst (v := 0) hx hb dX3_readsOrder_180 (by decide) ?_
          exact z_zretM (w1 := moW cA a M4 N4 h) hx hb hr hlocks dX3_readsOrder_181 hP hS rfl (by rw [hres_153]; simp only [f_X3_readsOrder_153, if_pos c_2, if_pos c_4, if_pos c_8]) (by rw [hres_153]; simp only [f_X3_readsOrder_153, if_pos c_2, if_pos c_4, if_pos c_8])
        · refine lv_iconst (v := 1) hx hb dX3_readsOrder_176 (by decide) ?_
          refine lv_goto (tgt := 181) hx hb dX3_readsOrder_177 (by decide) ?_
          exact z_zretM (w1 := moW cA a M4 N4 h) hx hb hr hlocks dX3_readsOrder_181 hP hS rfl (by rw [hres_153]; simp only [f_X3_readsOrder_153, if_pos c_2, if_pos c_4, if_neg c_8]) (by rw [hres_153]; simp only [f_X3_readsOrder_153, if_pos c_2, if_pos c_4, if_neg c_8])
  have join_129 : ∀ (M3 : BK) (N3 : (Nat → Nat)), N3 1 = N 1 → N3 2 ≤ N3 1 → f_X3_readsOrder M N = f_X3_readsOrder_129 M N M3 N3 → ∀ (H : Heap) (locs : List Loc), va_P D vwCl (moW cA a M3 N3 h) H → va_D (zfr (moW cA a M N h)) (moW cA a M3 N3 h) → va_S (zfr (moW cA a M N h)) s.heap H locs → ∀ (ls : Array Slot), lv_has ls 1 [(0, .ref (a 0))] → W p l e (headSpec wsX3_readsOrder (zrm 2 44)).room s m ([.ref (a 0)] : List Value).toArray below meth c H locs 0 0 (MQ below (zM D (moW cA a M N h) (moW cA a ((f_X3_readsOrder M N).2.1) ((f_X3_readsOrder M N).2.2) h) (some (.int ((f_X3_readsOrder M N).1)))) ([.ref (a 0)] : List Value).toArray s 0 0 (zfr (moW cA a M N h))) (F0 m 129 ls []) := by
    intro M3 N3 hi0_129 hi1_129 hres_129 H locs hP hD hS ls hl
    have hlen3 : N3 1 ≤ 60 := by omega
    refine lv_aload_n hx hb dX3_readsOrder_129 rfl (lv_at hl 0 rfl) ?_
    refine lv_aload_n hx hb dX3_readsOrder_130 rfl (lv_at hl 0 rfl) ?_
    refine lv_bipush (v := 58) hx hb dX3_readsOrder_131 (by decide) ?_
    refine z_M (X := ([] : va_W)) (Z := ([] : va_W)) (va_runV (As := [.int 58]) (rest := [.ref (a 0)]) ⟨hx, hb, hml, hown, hts⟩ (zc_X3_takesSign l D cA a M3 N3 h 58 (by exact (show (N3 1) ≤ 60 by omega)) (by exact (show (N3 2) ≤ (N3 1) by omega))) (cwV 1 hts gX3_readsOrder_X3_takesSign rfl rfl rfl zy_X3_takesSign ⟨Nat.le_of_ble_eq_true rfl, Nat.le_of_ble_eq_true rfl⟩) (z_preV (ci := 3) hK hP hD rfl rfl) rfl rfl hl.1 rfl (lv_room (Nat.le_of_ble_eq_true rfl)) dX3_readsOrder_133 ⟨Nat.zero_le _, Nat.zero_le _⟩) hP hD hS moW_adr rfl (fun H locs hP9 hD9 hS9 => ?_)
    replace hP : va_P D vwCl (moW cA a M3 ((f_X3_takesSign M3 N3 58).2) h) H := hP9
    replace hD : va_D _ (moW cA a M3 ((f_X3_takesSign M3 N3 58).2) h) := hD9
    replace hS := hS9
    clear hP9 hD9 hS9
    obtain ⟨N_9, eN_9⟩ : ∃ z9 : Nat → Nat, z9 = (f_X3_takesSign M3 N3 58).2 := ⟨_, rfl⟩
    rw [← eN_9] at hP hD
    have hlN_9 : N_9 1 = (N3 1) ∧ N_9 0 = (N3 0) ∧ ((N3 2) ≤ (N3 1) → (N3 2) ≤ N_9 2 ∧ N_9 2 ≤ (N3 1)) := by rw [eN_9]; exact (zn_X3_takesSign M3 N3 58 (by decide))
    refine lv_if_eq (tgt := 149) hx hb dX3_readsOrder_136 (by decide) (fun c_10 => ?_) (fun c_10 => ?_)
    · refine lv_iconst (v := 0) hx hb dX3_readsOrder_149 (by decide) ?_
      refine va_put (D := D) (ci := 3) (v := .int 0) (ty := .int) (C := RX3) (T := TX3) (N := 14) hx hb hts hi3 tyX3 tyX3_ok nmX3 hown hK hP hD hS 0 rfl rfl 10 (by decide) (hts (.fieldLink RX3 161 "PledgedLoansModel" "amount" "I") (List.mem_of_getElem? (i := 4) rfl)) (fun _ h9 => h9) rfl (by decide +kernel) rfl rfl (Nat.le_of_ble_eq_true rfl) dX3_readsOrder_150 (fun H locs hP9 hD9 hS9 => ?_)
      replace hP : va_P D vwCl (moW cA a (uB M3 4 4 0) N_9 h) H := hP9
      replace hD : va_D _ (moW cA a (uB M3 4 4 0) N_9 h) := hD9
      replace hS := hS9
      clear hP9 hD9 hS9
      exact join_153 (uB M3 4 4 0) N_9 (by first | assumption | omega) (by first | assumption | omega) (by subst eN_9; rw [hres_129]; simp only [f_X3_readsOrder_129, if_pos c_10]) _ _ hP hD hS ls (lv_sub hl [0] rfl)
    · refine lv_aload_n hx hb dX3_readsOrder_139 rfl (lv_at hl 0 rfl) ?_
      refine lv_sipush (v := 9999) hx hb dX3_readsOrder_140 (by decide) ?_
      refine z_M (X := ([] : va_W)) (Z := ([] : va_W)) (va_runV (As := [.int 9999]) (rest := [.ref (a 0)]) ⟨hx, hb, hml, hown, hts⟩ (zc_X3_readsNumber l D cA a M3 N_9 h 9999 (by exact (show (N_9 1) ≤ 60 by omega)) (by exact (show (N_9 2) ≤ (N_9 1) by omega))) (cwV 1 hts gX3_readsOrder_X3_readsNumber rfl rfl rfl zy_X3_readsNumber ⟨Nat.le_of_ble_eq_true rfl, Nat.le_of_ble_eq_true rfl⟩) (z_preV (ci := 3) hK hP hD rfl rfl) rfl rfl hl.1 rfl (lv_room (Nat.le_of_ble_eq_true rfl)) dX3_readsOrder_143 ⟨Nat.zero_le _, Nat.zero_le _⟩) hP hD hS moW_adr rfl (fun H locs hP9 hD9 hS9 => ?_)
      replace hP : va_P D vwCl (moW cA a M3 ((f_X3_readsNumber M3 N_9 9999).2) h) H := hP9
      replace hD : va_D _ (moW cA a M3 ((f_X3_readsNumber M3 N_9 9999).2) h) := hD9
      replace hS := hS9
      clear hP9 hD9 hS9
      obtain ⟨N_11, eN_11⟩ : ∃ z9 : Nat → Nat, z9 = (f_X3_readsNumber M3 N_9 9999).2 := ⟨_, rfl⟩
      rw [← eN_11] at hP hD
      have hlN_11 : N_11 1 = (N_9 1) ∧ N_11 0 = (N_9 0) ∧ ((N_9 2) ≤ (N_9 1) → (N_9 2) ≤ N_11 2 ∧ N_11 2 ≤ (N_9 1)) := by rw [eN_11]; exact (zn_X3_readsNumber M3 N_9 9999)
      refine lv_goto (tgt := 150) hx hb dX3_readsOrder_146 (by decide) ?_
      refine va_put (D := D) (ci := 3) (v := .int ((f_X3_readsNumber M3 N_9 9999).1)) (ty := .int) (C := RX3) (T := TX3) (N := 14) hx hb hts hi3 tyX3 tyX3_ok nmX3 hown hK hP hD hS 0 rfl rfl 10 (by decide) (hts (.fieldLink RX3 161 "PledgedLoansModel" "amount" "I") (List.mem_of_getElem? (i := 4) rfl)) (fun _ h9 => h9) rfl (by decide +kernel) rfl rfl (Nat.le_of_ble_eq_true rfl) dX3_readsOrder_150 (fun H locs hP9 hD9 hS9 => ?_)
      replace hP : va_P D vwCl (moW cA a (uB M3 4 4 ((f_X3_readsNumber M3 N_9 9999).1)) N_11 h) H := hP9
      replace hD : va_D _ (moW cA a (uB M3 4 4 ((f_X3_readsNumber M3 N_9 9999).1)) N_11 h) := hD9
      replace hS := hS9
      clear hP9 hD9 hS9
      exact join_153 (uB M3 4 4 ((f_X3_readsNumber M3 N_9 9999).1)) N_11 (by first | assumption | omega) (by first | assumption | omega) (by subst eN_11 eN_9; rw [hres_129]; simp only [f_X3_readsOrder_129, if_neg c_10]) _ _ hP hD hS ls (lv_sub hl [0] rfl)
  have join_66 : ∀ (M2 : BK) (N2 : (Nat → Nat)), N2 1 = N 1 → N2 2 ≤ N2 1 → f_X3_readsOrder M N = f_X3_readsOrder_66 M N M2 N2 → ∀ (H : Heap) (locs : List Loc), va_P D vwCl (moW cA a M2 N2 h) H → va_D (zfr (moW cA a M N h)) (moW cA a M2 N2 h) → va_S (zfr (moW cA a M N h)) s.heap H locs → ∀ (ls : Array Slot), lv_has ls 1 [(0, .ref (a 0))] → W p l e (headSpec wsX3_readsOrder (zrm 2 44)).room s m ([.ref (a 0)] : List Value).toArray below meth c H locs 0 0 (MQ below (zM D (moW cA a M N h) (moW cA a ((f_X3_readsOrder M N).2.1) ((f_X3_readsOrder M N).2.2) h) (some (.int ((f_X3_readsOrder M N).1)))) ([.ref (a 0)] : List Value).toArray s 0 0 (zfr (moW cA a M N h))) (F0 m 66 ls []) := by
    intro M2 N2 hi0_66 hi1_66 hres_66 H locs hP hD hS ls hl
    have hlen2 : N2 1 ≤ 60 := by omega
    refine lv_aload_n hx hb dX3_readsOrder_66 rfl (lv_at hl 0 rfl) ?_
    refine lv_aload_n hx hb dX3_readsOrder_67 rfl (lv_at hl 0 rfl) ?_
    refine lv_iconst (v := (-1)) hx hb dX3_readsOrder_68 (by decide) ?_
    refine z_M (X := ([] : va_W)) (Z := ([] : va_W)) (va_runV (As := [.int (-1)]) (rest := [.ref (a 0)]) ⟨hx, hb, hml, hown, hts⟩ (zc_X3_readsMember l D cA a M2 N2 h (-1) (by exact (show (N2 1) ≤ 60 by omega)) (by exact (show (N2 2) ≤ (N2 1) by omega))) (cwV 1 hts gX3_readsOrder_X3_readsMember rfl rfl rfl zy_X3_readsMember ⟨Nat.le_of_ble_eq_true rfl, Nat.le_of_ble_eq_true rfl⟩) (z_preV (ci := 3) hK hP hD rfl rfl) rfl rfl hl.1 rfl (lv_room (Nat.le_of_ble_eq_true rfl)) dX3_readsOrder_69 ⟨Nat.zero_le _, Nat.zero_le _⟩) hP hD hS moW_adr rfl (fun H locs hP9 hD9 hS9 => ?_)
    replace hP : va_P D vwCl (moW cA a M2 ((f_X3_readsMember M2 N2 (-1)).2) h) H := hP9
    replace hD : va_D _ (moW cA a M2 ((f_X3_readsMember M2 N2 (-1)).2) h) := hD9
    replace hS := hS9
    clear hP9 hD9 hS9
    obtain ⟨N_12, eN_12⟩ : ∃ z9 : Nat → Nat, z9 = (f_X3_readsMember M2 N2 (-1)).2 := ⟨_, rfl⟩
    rw [← eN_12] at hP hD
    have hlN_12 : N_12 1 = (N2 1) ∧ N_12 0 = (N2 0) ∧ ((N2 2) ≤ (N2 1) → (N2 2) ≤ N_12 2 ∧ N_12 2 ≤ (N2 1)) := by rw [eN_12]; exact (zn_X3_readsMember M2 N2 (-1))
    refine va_put (D := D) (ci := 3) (v := .int ((f_X3_readsMember M2 N2 (-1)).1)) (ty := .int) (C := RX3) (T := TX3) (N := 14) hx hb hts hi3 tyX3 tyX3_ok nmX3 hown hK hP hD hS 0 rfl rfl 8 (by decide) (hts (.fieldLink RX3 152 "PledgedLoansModel" "first" "I") (List.mem_of_getElem? (i := 2) rfl)) (fun _ h9 => h9) rfl (by decide +kernel) rfl rfl (Nat.le_of_ble_eq_true rfl) dX3_readsOrder_72 (fun H locs hP9 hD9 hS9 => ?_)
    replace hP : va_P D vwCl (moW cA a (uB M2 4 2 ((f_X3_readsMember M2 N2 (-1)).1)) N_12 h) H := hP9
    replace hD : va_D _ (moW cA a (uB M2 4 2 ((f_X3_readsMember M2 N2 (-1)).1)) N_12 h) := hD9
    replace hS := hS9
    clear hP9 hD9 hS9
    refine lv_aload_n hx hb dX3_readsOrder_75 rfl (lv_at hl 0 rfl) ?_
    refine va_get (D := D) (ci := 3) (v := .int ((uB M2 4 2 ((f_X3_readsMember M2 N2 (-1)).1)) 4 2)) (C := RX3) (T := TX3) (N := 14) hx hb hts hi3 hown hK hP 0 rfl rfl 8 (by decide) (hts (.fieldLink RX3 152 "PledgedLoansModel" "first" "I") (List.mem_of_getElem? (i := 2) rfl)) (fun _ h9 => h9) rfl dX3_readsOrder_76 ?_
    refine lv_iconst (v := (-1)) hx hb dX3_readsOrder_79 (by decide) ?_
    refine lv_icmp_ne (tgt := 85) hx hb dX3_readsOrder_80 (by decide) (fun c_13 => ?_) (fun c_13 => ?_)
    · refine lv_aload_n hx hb dX3_readsOrder_85 rfl (lv_at hl 0 rfl) ?_
      refine va_get (D := D) (ci := 3) (v := .int ((uB M2 4 2 ((f_X3_readsMember M2 N2 (-1)).1)) 4 1)) (C := RX3) (T := TX3) (N := 14) hx hb hts hi3 hown hK hP 0 rfl rfl 7 (by decide) (hts (.fieldLink RX3 143 "PledgedLoansModel" "order" "I") (List.mem_of_getElem? (i := 1) rfl)) (fun _ h9 => h9) rfl dX3_readsOrder_86 ?_
      refine lv_bipush (v := 112) hx hb dX3_readsOrder_89 (by decide) ?_
      refine lv_icmp_ne (tgt := 129) hx hb dX3_readsOrder_91 (by decide) (fun c_14 => ?_) (fun c_14 => ?_)
      · exact join_129 (uB M2 4 2 ((f_X3_readsMember M2 N2 (-1)).1)) N_12 (by first | assumption | omega) (by first | assumption | omega) (by subst eN_12; rw [hres_66]; simp only [f_X3_readsOrder_66, if_neg c_13, if_neg c_14]) _ _ hP hD hS ls (lv_sub hl [0] rfl)
      · refine lv_aload_n hx hb dX3_readsOrder_94 rfl (lv_at hl 0 rfl) ?_
        refine lv_aload_n hx hb dX3_readsOrder_95 rfl (lv_at hl 0 rfl) ?_
        refine lv_bipush (v := 62) hx hb dX3_readsOrder_96 (by decide) ?_
        refine z_M (X := ([] : va_W)) (Z := ([] : va_W)) (va_runV (As := [.int 62]) (rest := [.ref (a 0)]) ⟨hx, hb, hml, hown, hts⟩ (zc_X3_takesSign l D cA a (uB M2 4 2 ((f_X3_readsMember M2 N2 (-1)).1)) N_12 h 62 (by exact (show (N_12 1) ≤ 60 by omega)) (by exact (show (N_12 2) ≤ (N_12 1) by omega))) (cwV 1 hts gX3_readsOrder_X3_takesSign rfl rfl rfl zy_X3_takesSign ⟨Nat.le_of_ble_eq_true rfl, Nat.le_of_ble_eq_true rfl⟩) (z_preV (ci := 3) hK hP hD rfl rfl) rfl rfl hl.1 rfl (lv_room (Nat.le_of_ble_eq_true rfl)) dX3_readsOrder_98 ⟨Nat.zero_le _, Nat.zero_le _⟩) hP hD hS moW_adr rfl (fun H locs hP9 hD9 hS9 => ?_)
        replace hP : va_P D vwCl (moW cA a (uB M2 4 2 ((f_X3_readsMember M2 N2 (-1)).1)) ((f_X3_takesSign (uB M2 4 2 ((f_X3_readsMember M2 N2 (-1)).1)) N_12 62).2) h) H := hP9
        replace hD : va_D _ (moW cA a (uB M2 4 2 ((f_X3_readsMember M2 N2 (-1)).1)) ((f_X3_takesSign (uB M2 4 2 ((f_X3_readsMember M2 N2 (-1)).1)) N_12 62).2) h) := hD9
        replace hS := hS9
        clear hP9 hD9 hS9
        obtain ⟨N_15, eN_15⟩ : ∃ z9 : Nat → Nat, z9 = (f_X3_takesSign (uB M2 4 2 ((f_X3_readsMember M2 N2 (-1)).1)) N_12 62).2 := ⟨_, rfl⟩
        rw [← eN_15] at hP hD
        have hlN_15 : N_15 1 = (N_12 1) ∧ N_15 0 = (N_12 0) ∧ ((N_12 2) ≤ (N_12 1) → (N_12 2) ≤ N_15 2 ∧ N_15 2 ≤ (N_12 1)) := by rw [eN_15]; exact (zn_X3_takesSign (uB M2 4 2 ((f_X3_readsMember M2 N2 (-1)).1)) N_12 62 (by decide))
        obtain ⟨M_16, eM_16⟩ : ∃ z9 : BK, z9 = uB M2 4 2 ((f_X3_readsMember M2 N2 (-1)).1) := ⟨_, rfl⟩
        rw [← eM_16] at hP hD
        refine lv_if_eq (tgt := 115) hx hb dX3_readsOrder_101 (by decide) (fun c_17 => ?_) (fun c_17 => ?_)
        · refine lv_iconst (v := (-1)) hx hb dX3_readsOrder_115 (by decide) ?_
          refine va_put (D := D) (ci := 3) (v := .int (-1)) (ty := .int) (C := RX3) (T := TX3) (N := 14) hx hb hts hi3 tyX3 tyX3_ok nmX3 hown hK hP hD hS 0 rfl rfl 9 (by decide) (hts (.fieldLink RX3 155 "PledgedLoansModel" "second" "I") (List.mem_of_getElem? (i := 3) rfl)) (fun _ h9 => h9) rfl (by decide +kernel) rfl rfl (Nat.le_of_ble_eq_true rfl) dX3_readsOrder_116 (fun H locs hP9 hD9 hS9 => ?_)
          replace hP : va_P D vwCl (moW cA a (uB M_16 4 3 (-1)) N_15 h) H := hP9
          replace hD : va_D _ (moW cA a (uB M_16 4 3 (-1)) N_15 h) := hD9
          replace hS := hS9
          clear hP9 hD9 hS9
          refine lv_aload_n hx hb dX3_readsOrder_119 rfl (lv_at hl 0 rfl) ?_
          refine va_get (D := D) (ci := 3) (v := .int ((uB M_16 4 3 (-1)) 4 3)) (C := RX3) (T := TX3) (N := 14) hx hb hts hi3 hown hK hP 0 rfl rfl 9 (by decide) (hts (.fieldLink RX3 155 "PledgedLoansModel" "second" "I") (List.mem_of_getElem? (i := 3) rfl)) (fun _ h9 => h9) rfl dX3_readsOrder_120 ?_
          refine lv_iconst (v := (-1)) hx hb dX3_readsOrder_123 (by decide) ?_
          refine lv_icmp_ne (tgt := 129) hx hb dX3_readsOrder_124 (by decide) (fun c_18 => ?_) (fun c_18 => ?_)
          · exact join_129 (uB M_16 4 3 (-1)) N_15 (by first | assumption | omega) (by first | assumption | omega) (by subst eM_16 eN_15 eN_12; rw [hres_66]; simp only [f_X3_readsOrder_66, if_neg c_13, if_pos c_14, if_pos c_17, if_neg c_18]) _ _ hP hD hS ls (lv_sub hl [0] rfl)
          · refine lv_iconst (v := 0) hx hb dX3_readsOrder_127 (by decide) ?_
            exact z_zretM (w1 := moW cA a (uB M_16 4 3 (-1)) N_15 h) hx hb hr hlocks dX3_readsOrder_128 hP hS rfl (by subst eM_16 eN_15 eN_12; rw [hres_66]; simp only [f_X3_readsOrder_66, if_neg c_13, if_pos c_14, if_pos c_17, if_pos c_18]) (by subst eM_16 eN_15 eN_12; rw [hres_66]; simp only [f_X3_readsOrder_66, if_neg c_13, if_pos c_14, if_pos c_17, if_pos c_18])
        · refine lv_aload_n hx hb dX3_readsOrder_104 rfl (lv_at hl 0 rfl) ?_
          refine lv_aload_n hx hb dX3_readsOrder_105 rfl (lv_at hl 0 rfl) ?_
          refine va_get (D := D) (ci := 3) (v := .int (M_16 4 2)) (C := RX3) (T := TX3) (N := 14) hx hb hts hi3 hown hK hP 0 rfl rfl 8 (by decide) (hts (.fieldLink RX3 152 "PledgedLoansModel" "first" "I") (List.mem_of_getElem? (i := 2) rfl)) (fun _ h9 => h9) rfl dX3_readsOrder_106 ?_
          refine z_M (X := ([] : va_W)) (Z := ([] : va_W)) (va_runV (As := [.int (M_16 4 2)]) (rest := [.ref (a 0)]) ⟨hx, hb, hml, hown, hts⟩ (zc_X3_readsMember l D cA a M_16 N_15 h (M_16 4 2) (by exact (show (N_15 1) ≤ 60 by omega)) (by exact (show (N_15 2) ≤ (N_15 1) by omega))) (cwV 1 hts gX3_readsOrder_X3_readsMember rfl rfl rfl zy_X3_readsMember ⟨Nat.le_of_ble_eq_true rfl, Nat.le_of_ble_eq_true rfl⟩) (z_preV (ci := 3) hK hP hD rfl rfl) rfl rfl hl.1 rfl (lv_room (Nat.le_of_ble_eq_true rfl)) dX3_readsOrder_109 ⟨Nat.zero_le _, Nat.zero_le _⟩) hP hD hS moW_adr rfl (fun H locs hP9 hD9 hS9 => ?_)
          replace hP : va_P D vwCl (moW cA a M_16 ((f_X3_readsMember M_16 N_15 (M_16 4 2)).2) h) H := hP9
          replace hD : va_D _ (moW cA a M_16 ((f_X3_readsMember M_16 N_15 (M_16 4 2)).2) h) := hD9
          replace hS := hS9
          clear hP9 hD9 hS9
          obtain ⟨N_19, eN_19⟩ : ∃ z9 : Nat → Nat, z9 = (f_X3_readsMember M_16 N_15 (M_16 4 2)).2 := ⟨_, rfl⟩
          rw [← eN_19] at hP hD
          have hlN_19 : N_19 1 = (N_15 1) ∧ N_19 0 = (N_15 0) ∧ ((N_15 2) ≤ (N_15 1) → (N_15 2) ≤ N_19 2 ∧ N_19 2 ≤ (N_15 1)) := by rw [eN_19]; exact (zn_X3_readsMember M_16 N_15 (M_16 4 2))
          refine lv_goto (tgt := 116) hx hb dX3_readsOrder_112 (by decide) ?_
          refine va_put (D := D) (ci := 3) (v := .int ((f_X3_readsMember M_16 N_15 (M_16 4 2)).1)) (ty := .int) (C := RX3) (T := TX3) (N := 14) hx hb hts hi3 tyX3 tyX3_ok nmX3 hown hK hP hD hS 0 rfl rfl 9 (by decide) (hts (.fieldLink RX3 155 "PledgedLoansModel" "second" "I") (List.mem_of_getElem? (i := 3) rfl)) (fun _ h9 => h9) rfl (by decide +kernel) rfl rfl (Nat.le_of_ble_eq_true rfl) dX3_readsOrder_116 (fun H locs hP9 hD9 hS9 => ?_)
          replace hP : va_P D vwCl (moW cA a (uB M_16 4 3 ((f_X3_readsMember M_16 N_15 (M_16 4 2)).1)) N_19 h) H := hP9
          replace hD : va_D _ (moW cA a (uB M_16 4 3 ((f_X3_readsMember M_16 N_15 (M_16 4 2)).1)) N_19 h) := hD9
          replace hS := hS9
          clear hP9 hD9 hS9
          obtain ⟨M_20, eM_20⟩ : ∃ z9 : BK, z9 = uB M_16 4 3 ((f_X3_readsMember M_16 N_15 (M_16 4 2)).1) := ⟨_, rfl⟩
          rw [← eM_20] at hP hD
          refine lv_aload_n hx hb dX3_readsOrder_119 rfl (lv_at hl 0 rfl) ?_
          refine va_get (D := D) (ci := 3) (v := .int (M_20 4 3)) (C := RX3) (T := TX3) (N := 14) hx hb hts hi3 hown hK hP 0 rfl rfl 9 (by decide) (hts (.fieldLink RX3 155 "PledgedLoansModel" "second" "I") (List.mem_of_getElem? (i := 3) rfl)) (fun _ h9 => h9) rfl dX3_readsOrder_120 ?_
          refine lv_iconst (v := (-1)) hx hb dX3_readsOrder_123 (by decide) ?_
          refine lv_icmp_ne (tgt := 129) hx hb dX3_readsOrder_124 (by decide) (fun c_21 => ?_) (fun c_21 => ?_)
          · exact join_129 M_20 N_19 (by first | assumption | omega) (by first | assumption | omega) (by subst eM_20 eN_19 eM_16 eN_15 eN_12; rw [hres_66]; simp only [f_X3_readsOrder_66, if_neg c_13, if_pos c_14, if_neg c_17, if_neg c_21]) _ _ hP hD hS ls (lv_sub hl [0] rfl)
          · refine lv_iconst (v := 0) hx hb dX3_readsOrder_127 (by decide) ?_
            exact z_zretM (w1 := moW cA a M_20 N_19 h) hx hb hr hlocks dX3_readsOrder_128 hP hS rfl (by subst eM_20 eN_19 eM_16 eN_15 eN_12; rw [hres_66]; simp only [f_X3_readsOrder_66, if_neg c_13, if_pos c_14, if_neg c_17, if_pos c_21]) (by subst eM_20 eN_19 eM_16 eN_15 eN_12; rw [hres_66]; simp only [f_X3_readsOrder_66, if_neg c_13, if_pos c_14, if_neg c_17, if_pos c_21])
    · refine lv_iconst (v := 0) hx hb dX3_readsOrder_83 (by decide) ?_
      exact z_zretM (w1 := moW cA a (uB M2 4 2 ((f_X3_readsMember M2 N2 (-1)).1)) N_12 h) hx hb hr hlocks dX3_readsOrder_84 hP hS rfl (by subst eN_12; rw [hres_66]; simp only [f_X3_readsOrder_66, if_pos c_13]) (by subst eN_12; rw [hres_66]; simp only [f_X3_readsOrder_66, if_pos c_13])
  refine lv_aload_n hx hb dX3_readsOrder_0 rfl (lv_at hl 0 rfl) ?_
  refine lv_aload_n hx hb dX3_readsOrder_1 rfl (lv_at hl 0 rfl) ?_
  refine z_E (va_runV (As := []) (rest := [.ref (a 0)]) ⟨hx, hb, hml, hown, hts⟩ (zc_X3_sign l D cA a M N h (by exact (show (N 1) ≤ 60 by omega)) (by exact (show (N 2) ≤ (N 1) by omega))) (cwV 0 hts gX3_readsOrder_X3_sign rfl rfl rfl zy_X3_sign ⟨Nat.le_of_ble_eq_true rfl, Nat.le_of_ble_eq_true rfl⟩) (z_preV (ci := 3) hK hP hD rfl rfl) rfl rfl hl.1 rfl (lv_room (Nat.le_of_ble_eq_true rfl)) dX3_readsOrder_2 ⟨Nat.zero_le _, Nat.zero_le _⟩) rfl ?_
  refine va_put (D := D) (ci := 3) (v := .int (f_X3_sign M N)) (ty := .int) (C := RX3) (T := TX3) (N := 14) hx hb hts hi3 tyX3 tyX3_ok nmX3 hown hK hP hD hS 0 rfl rfl 7 (by decide) (hts (.fieldLink RX3 143 "PledgedLoansModel" "order" "I") (List.mem_of_getElem? (i := 1) rfl)) (fun _ h9 => h9) rfl (by decide +kernel) rfl rfl (Nat.le_of_ble_eq_true rfl) dX3_readsOrder_5 (fun H locs hP9 hD9 hS9 => ?_)
  replace hP : va_P D vwCl (moW cA a (uB M 4 1 (f_X3_sign M N)) N h) H := hP9
  replace hD : va_D _ (moW cA a (uB M 4 1 (f_X3_sign M N)) N h) := hD9
  replace hS := hS9
  clear hP9 hD9 hS9
  refine lv_aload_n hx hb dX3_readsOrder_8 rfl (lv_at hl 0 rfl) ?_
  refine lv_bipush (v := 119) hx hb dX3_readsOrder_9 (by decide) ?_
  refine z_M (X := ([] : va_W)) (Z := ([] : va_W)) (va_runV (As := [.int 119]) (rest := []) ⟨hx, hb, hml, hown, hts⟩ (zc_X3_takesSign l D cA a (uB M 4 1 (f_X3_sign M N)) N h 119 (by exact (show (N 1) ≤ 60 by omega)) (by exact (show (N 2) ≤ (N 1) by omega))) (cwV 1 hts gX3_readsOrder_X3_takesSign rfl rfl rfl zy_X3_takesSign ⟨Nat.le_of_ble_eq_true rfl, Nat.le_of_ble_eq_true rfl⟩) (z_preV (ci := 3) hK hP hD rfl rfl) rfl rfl hl.1 rfl (lv_room (Nat.le_of_ble_eq_true rfl)) dX3_readsOrder_11 ⟨Nat.zero_le _, Nat.zero_le _⟩) hP hD hS moW_adr rfl (fun H locs hP9 hD9 hS9 => ?_)
  replace hP : va_P D vwCl (moW cA a (uB M 4 1 (f_X3_sign M N)) ((f_X3_takesSign (uB M 4 1 (f_X3_sign M N)) N 119).2) h) H := hP9
  replace hD : va_D _ (moW cA a (uB M 4 1 (f_X3_sign M N)) ((f_X3_takesSign (uB M 4 1 (f_X3_sign M N)) N 119).2) h) := hD9
  replace hS := hS9
  clear hP9 hD9 hS9
  obtain ⟨N_22, eN_22⟩ : ∃ z9 : Nat → Nat, z9 = (f_X3_takesSign (uB M 4 1 (f_X3_sign M N)) N 119).2 := ⟨_, rfl⟩
  rw [← eN_22] at hP hD
  have hlN_22 : N_22 1 = (N 1) ∧ N_22 0 = (N 0) ∧ ((N 2) ≤ (N 1) → (N 2) ≤ N_22 2 ∧ N_22 2 ≤ (N 1)) := by rw [eN_22]; exact (zn_X3_takesSign (uB M 4 1 (f_X3_sign M N)) N 119 (by decide))
  obtain ⟨M_23, eM_23⟩ : ∃ z9 : BK, z9 = uB M 4 1 (f_X3_sign M N) := ⟨_, rfl⟩
  rw [← eM_23] at hP hD
  refine lv_if_eq (tgt := 19) hx hb dX3_readsOrder_14 (by decide) (fun c_24 => ?_) (fun c_24 => ?_)
  · refine lv_aload_n hx hb dX3_readsOrder_19 rfl (lv_at hl 0 rfl) ?_
    refine lv_bipush (v := 43) hx hb dX3_readsOrder_20 (by decide) ?_
    refine z_M (X := ([] : va_W)) (Z := ([] : va_W)) (va_runV (As := [.int 43]) (rest := []) ⟨hx, hb, hml, hown, hts⟩ (zc_X3_takesSign l D cA a M_23 N_22 h 43 (by exact (show (N_22 1) ≤ 60 by omega)) (by exact (show (N_22 2) ≤ (N_22 1) by omega))) (cwV 1 hts gX3_readsOrder_X3_takesSign rfl rfl rfl zy_X3_takesSign ⟨Nat.le_of_ble_eq_true rfl, Nat.le_of_ble_eq_true rfl⟩) (z_preV (ci := 3) hK hP hD rfl rfl) rfl rfl hl.1 rfl (lv_room (Nat.le_of_ble_eq_true rfl)) dX3_readsOrder_22 ⟨Nat.zero_le _, Nat.zero_le _⟩) hP hD hS moW_adr rfl (fun H locs hP9 hD9 hS9 => ?_)
    replace hP : va_P D vwCl (moW cA a M_23 ((f_X3_takesSign M_23 N_22 43).2) h) H := hP9
    replace hD : va_D _ (moW cA a M_23 ((f_X3_takesSign M_23 N_22 43).2) h) := hD9
    replace hS := hS9
    clear hP9 hD9 hS9
    obtain ⟨N_25, eN_25⟩ : ∃ z9 : Nat → Nat, z9 = (f_X3_takesSign M_23 N_22 43).2 := ⟨_, rfl⟩
    rw [← eN_25] at hP hD
    have hlN_25 : N_25 1 = (N_22 1) ∧ N_25 0 = (N_22 0) ∧ ((N_22 2) ≤ (N_22 1) → (N_22 2) ≤ N_25 2 ∧ N_25 2 ≤ (N_22 1)) := by rw [eN_25]; exact (zn_X3_takesSign M_23 N_22 43 (by decide))
    refine lv_if_ne (tgt := 66) hx hb dX3_readsOrder_25 (by decide) (fun c_26 => ?_) (fun c_26 => ?_)
    · exact join_66 M_23 N_25 (by first | assumption | omega) (by first | assumption | omega) (by subst eN_25 eM_23 eN_22; simp only [f_X3_readsOrder, if_pos c_24, if_neg c_26]) _ _ hP hD hS ls (lv_sub hl [0] rfl)
    · refine lv_aload_n hx hb dX3_readsOrder_28 rfl (lv_at hl 0 rfl) ?_
      refine lv_bipush (v := 45) hx hb dX3_readsOrder_29 (by decide) ?_
      refine z_M (X := ([] : va_W)) (Z := ([] : va_W)) (va_runV (As := [.int 45]) (rest := []) ⟨hx, hb, hml, hown, hts⟩ (zc_X3_takesSign l D cA a M_23 N_25 h 45 (by exact (show (N_25 1) ≤ 60 by omega)) (by exact (show (N_25 2) ≤ (N_25 1) by omega))) (cwV 1 hts gX3_readsOrder_X3_takesSign rfl rfl rfl zy_X3_takesSign ⟨Nat.le_of_ble_eq_true rfl, Nat.le_of_ble_eq_true rfl⟩) (z_preV (ci := 3) hK hP hD rfl rfl) rfl rfl hl.1 rfl (lv_room (Nat.le_of_ble_eq_true rfl)) dX3_readsOrder_31 ⟨Nat.zero_le _, Nat.zero_le _⟩) hP hD hS moW_adr rfl (fun H locs hP9 hD9 hS9 => ?_)
      replace hP : va_P D vwCl (moW cA a M_23 ((f_X3_takesSign M_23 N_25 45).2) h) H := hP9
      replace hD : va_D _ (moW cA a M_23 ((f_X3_takesSign M_23 N_25 45).2) h) := hD9
      replace hS := hS9
      clear hP9 hD9 hS9
      obtain ⟨N_27, eN_27⟩ : ∃ z9 : Nat → Nat, z9 = (f_X3_takesSign M_23 N_25 45).2 := ⟨_, rfl⟩
      rw [← eN_27] at hP hD
      have hlN_27 : N_27 1 = (N_25 1) ∧ N_27 0 = (N_25 0) ∧ ((N_25 2) ≤ (N_25 1) → (N_25 2) ≤ N_27 2 ∧ N_27 2 ≤ (N_25 1)) := by rw [eN_27]; exact (zn_X3_takesSign M_23 N_25 45 (by decide))
      refine lv_if_ne (tgt := 66) hx hb dX3_readsOrder_34 (by decide) (fun c_28 => ?_) (fun c_28 => ?_)
      · exact join_66 M_23 N_27 (by first | assumption | omega) (by first | assumption | omega) (by subst eN_27 eN_25 eM_23 eN_22; simp only [f_X3_readsOrder, if_pos c_24, if_pos c_26, if_neg c_28]) _ _ hP hD hS ls (lv_sub hl [0] rfl)
      · refine lv_aload_n hx hb dX3_readsOrder_37 rfl (lv_at hl 0 rfl) ?_
        refine lv_bipush (v := 112) hx hb dX3_readsOrder_38 (by decide) ?_
        refine z_M (X := ([] : va_W)) (Z := ([] : va_W)) (va_runV (As := [.int 112]) (rest := []) ⟨hx, hb, hml, hown, hts⟩ (zc_X3_takesSign l D cA a M_23 N_27 h 112 (by exact (show (N_27 1) ≤ 60 by omega)) (by exact (show (N_27 2) ≤ (N_27 1) by omega))) (cwV 1 hts gX3_readsOrder_X3_takesSign rfl rfl rfl zy_X3_takesSign ⟨Nat.le_of_ble_eq_true rfl, Nat.le_of_ble_eq_true rfl⟩) (z_preV (ci := 3) hK hP hD rfl rfl) rfl rfl hl.1 rfl (lv_room (Nat.le_of_ble_eq_true rfl)) dX3_readsOrder_40 ⟨Nat.zero_le _, Nat.zero_le _⟩) hP hD hS moW_adr rfl (fun H locs hP9 hD9 hS9 => ?_)
        replace hP : va_P D vwCl (moW cA a M_23 ((f_X3_takesSign M_23 N_27 112).2) h) H := hP9
        replace hD : va_D _ (moW cA a M_23 ((f_X3_takesSign M_23 N_27 112).2) h) := hD9
        replace hS := hS9
        clear hP9 hD9 hS9
        obtain ⟨N_29, eN_29⟩ : ∃ z9 : Nat → Nat, z9 = (f_X3_takesSign M_23 N_27 112).2 := ⟨_, rfl⟩
        rw [← eN_29] at hP hD
        have hlN_29 : N_29 1 = (N_27 1) ∧ N_29 0 = (N_27 0) ∧ ((N_27 2) ≤ (N_27 1) → (N_27 2) ≤ N_29 2 ∧ N_29 2 ≤ (N_27 1)) := by rw [eN_29]; exact (zn_X3_takesSign M_23 N_27 112 (by decide))
        refine lv_if_ne (tgt := 66) hx hb dX3_readsOrder_43 (by decide) (fun c_30 => ?_) (fun c_30 => ?_)
        · exact join_66 M_23 N_29 (by first | assumption | omega) (by first | assumption | omega) (by subst eN_29 eN_27 eN_25 eM_23 eN_22; simp only [f_X3_readsOrder, if_pos c_24, if_pos c_26, if_pos c_28, if_neg c_30]) _ _ hP hD hS ls (lv_sub hl [0] rfl)
        · refine lv_aload_n hx hb dX3_readsOrder_46 rfl (lv_at hl 0 rfl) ?_
          refine lv_bipush (v := 98) hx hb dX3_readsOrder_47 (by decide) ?_
          refine z_M (X := ([] : va_W)) (Z := ([] : va_W)) (va_runV (As := [.int 98]) (rest := []) ⟨hx, hb, hml, hown, hts⟩ (zc_X3_takesSign l D cA a M_23 N_29 h 98 (by exact (show (N_29 1) ≤ 60 by omega)) (by exact (show (N_29 2) ≤ (N_29 1) by omega))) (cwV 1 hts gX3_readsOrder_X3_takesSign rfl rfl rfl zy_X3_takesSign ⟨Nat.le_of_ble_eq_true rfl, Nat.le_of_ble_eq_true rfl⟩) (z_preV (ci := 3) hK hP hD rfl rfl) rfl rfl hl.1 rfl (lv_room (Nat.le_of_ble_eq_true rfl)) dX3_readsOrder_49 ⟨Nat.zero_le _, Nat.zero_le _⟩) hP hD hS moW_adr rfl (fun H locs hP9 hD9 hS9 => ?_)
          replace hP : va_P D vwCl (moW cA a M_23 ((f_X3_takesSign M_23 N_29 98).2) h) H := hP9
          replace hD : va_D _ (moW cA a M_23 ((f_X3_takesSign M_23 N_29 98).2) h) := hD9
          replace hS := hS9
          clear hP9 hD9 hS9
          obtain ⟨N_31, eN_31⟩ : ∃ z9 : Nat → Nat, z9 = (f_X3_takesSign M_23 N_29 98).2 := ⟨_, rfl⟩
          rw [← eN_31] at hP hD
          have hlN_31 : N_31 1 = (N_29 1) ∧ N_31 0 = (N_29 0) ∧ ((N_29 2) ≤ (N_29 1) → (N_29 2) ≤ N_31 2 ∧ N_31 2 ≤ (N_29 1)) := by rw [eN_31]; exact (zn_X3_takesSign M_23 N_29 98 (by decide))
          refine lv_if_ne (tgt := 66) hx hb dX3_readsOrder_52 (by decide) (fun c_32 => ?_) (fun c_32 => ?_)
          · exact join_66 M_23 N_31 (by first | assumption | omega) (by first | assumption | omega) (by subst eN_31 eN_29 eN_27 eN_25 eM_23 eN_22; simp only [f_X3_readsOrder, if_pos c_24, if_pos c_26, if_pos c_28, if_pos c_30, if_neg c_32]) _ _ hP hD hS ls (lv_sub hl [0] rfl)
          · refine lv_aload_n hx hb dX3_readsOrder_55 rfl (lv_at hl 0 rfl) ?_
            refine lv_bipush (v := 114) hx hb dX3_readsOrder_56 (by decide) ?_
            refine z_M (X := ([] : va_W)) (Z := ([] : va_W)) (va_runV (As := [.int 114]) (rest := []) ⟨hx, hb, hml, hown, hts⟩ (zc_X3_takesSign l D cA a M_23 N_31 h 114 (by exact (show (N_31 1) ≤ 60 by omega)) (by exact (show (N_31 2) ≤ (N_31 1) by omega))) (cwV 1 hts gX3_readsOrder_X3_takesSign rfl rfl rfl zy_X3_takesSign ⟨Nat.le_of_ble_eq_true rfl, Nat.le_of_ble_eq_true rfl⟩) (z_preV (ci := 3) hK hP hD rfl rfl) rfl rfl hl.1 rfl (lv_room (Nat.le_of_ble_eq_true rfl)) dX3_readsOrder_58 ⟨Nat.zero_le _, Nat.zero_le _⟩) hP hD hS moW_adr rfl (fun H locs hP9 hD9 hS9 => ?_)
            replace hP : va_P D vwCl (moW cA a M_23 ((f_X3_takesSign M_23 N_31 114).2) h) H := hP9
            replace hD : va_D _ (moW cA a M_23 ((f_X3_takesSign M_23 N_31 114).2) h) := hD9
            replace hS := hS9
            clear hP9 hD9 hS9
            obtain ⟨N_33, eN_33⟩ : ∃ z9 : Nat → Nat, z9 = (f_X3_takesSign M_23 N_31 114).2 := ⟨_, rfl⟩
            rw [← eN_33] at hP hD
            have hlN_33 : N_33 1 = (N_31 1) ∧ N_33 0 = (N_31 0) ∧ ((N_31 2) ≤ (N_31 1) → (N_31 2) ≤ N_33 2 ∧ N_33 2 ≤ (N_31 1)) := by rw [eN_33]; exact (zn_X3_takesSign M_23 N_31 114 (by decide))
            refine lv_if_ne (tgt := 66) hx hb dX3_readsOrder_61 (by decide) (fun c_34 => ?_) (fun c_34 => ?_)
            · exact join_66 M_23 N_33 (by first | assumption | omega) (by first | assumption | omega) (by subst eN_33 eN_31 eN_29 eN_27 eN_25 eM_23 eN_22; simp only [f_X3_readsOrder, if_pos c_24, if_pos c_26, if_pos c_28, if_pos c_30, if_pos c_32, if_neg c_34]) _ _ hP hD hS ls (lv_sub hl [0] rfl)
            · refine lv_iconst (v := 0) hx hb dX3_readsOrder_64 (by decide) ?_
              exact z_zretM (w1 := moW cA a M_23 N_33 h) hx hb hr hlocks dX3_readsOrder_65 hP hS rfl (by subst eN_33 eN_31 eN_29 eN_27 eN_25 eM_23 eN_22; simp only [f_X3_readsOrder, if_pos c_24, if_pos c_26, if_pos c_28, if_pos c_30, if_pos c_32, if_pos c_34]) (by subst eN_33 eN_31 eN_29 eN_27 eN_25 eM_23 eN_22; simp only [f_X3_readsOrder, if_pos c_24, if_pos c_26, if_pos c_28, if_pos c_30, if_pos c_32, if_pos c_34])
  · refine lv_iconst (v := 1) hx hb dX3_readsOrder_17 (by decide) ?_
    exact z_zretM (w1 := moW cA a M_23 N_22 h) hx hb hr hlocks dX3_readsOrder_18 hP hS rfl (by subst eM_23 eN_22; simp only [f_X3_readsOrder, if_neg c_24]) (by subst eM_23 eN_22; simp only [f_X3_readsOrder, if_neg c_24])

theorem zy_X3_areOrders : yX3_areOrders.cls = RX3 ∧ yX3_areOrders.cls ≠ "java/lang/invoke/MethodHandle" ∧ yX3_areOrders.cls ≠ "java/lang/invoke/VarHandle" ∧ (parseMethodDescriptor yX3_areOrders.desc).map (fun d => d.parameters.length) = some 0 := by decide +kernel
def f_X3_areOrders_5 (M : BK) (N : Nat → Nat) : Nat → BK → (Nat → Nat) → Int32 × BK × (Nat → Nat)
  | 0, M1, N1 => (0, M1, N1)
  | k + 1, M1, N1 =>
    let M_2 : BK := (f_X3_readsOrder M1 N1).2.1
    let N_3 : Nat → Nat := (f_X3_readsOrder M1 N1).2.2
    if ((f_X3_readsOrder M1 N1).1) = 0 then
      (0, M_2, N_3)
    else
      if (N_3 2) = (N_3 1) then
        (1, M_2, N_3)
      else
        let N_6 : Nat → Nat := (f_X3_takesSign M_2 N_3 59).2
        if ((f_X3_takesSign M_2 N_3 59).1) = 0 then
          (0, M_2, N_6)
        else
          f_X3_areOrders_5 M N k M_2 N_6
def f_X3_areOrders (M : BK) (N : Nat → Nat) : Int32 × BK × (Nat → Nat) :=
  f_X3_areOrders_5 M N 62 M (va_up N 2 0)

theorem zn_X3_areOrders (M : BK) (N : Nat → Nat) : (f_X3_areOrders M N).2.2 1 = N 1 ∧ (f_X3_areOrders M N).2.2 0 = N 0 ∧ (f_X3_areOrders M N).2.2 2 ≤ N 1 := by
  have key : ∀ (k : Nat) (M1 : BK) (N1 : Nat → Nat), N1 2 ≤ N1 1 → zadv N1 (f_X3_areOrders_5 M N k M1 N1).2.2 := by
    intro k
    induction k with
    | zero => intro M1 N1 h; exact zadv.rf _
    | succ k ih =>
      intro M1 N1 h
      have h1 := zn_X3_readsOrder M1 N1
      unfold f_X3_areOrders_5
      dsimp only
      generalize f_X3_readsOrder M1 N1 = r at *
      have h2 := zn_X3_takesSign r.2.1 r.2.2 59 (by decide)
      refine zif (fun (q : Int32 × BK × (Nat → Nat)) => zadv N1 q.2.2) (fun _ => h1) (fun _ => zif (fun (q : Int32 × BK × (Nat → Nat)) => zadv N1 q.2.2) (fun _ => h1) (fun _ => zif (fun (q : Int32 × BK × (Nat → Nat)) => zadv N1 q.2.2) (fun _ => zadv.tr h1 h2) (fun _ => zadv.tr (zadv.tr h1 h2) (ih _ _ ?_))))
      obtain ⟨a1, a2, a3⟩ := zadv.tr h1 h2
      omega
  have h := key 62 M (va_up N 2 0) (Nat.zero_le _)
  obtain ⟨a1, a2, a3⟩ := h
  exact ⟨a1, a2, (a3 (Nat.zero_le _)).2⟩

theorem zb_X3_areOrders (M : BK) (N : Nat → Nat) : narrow .boolean (.int ((f_X3_areOrders M N).1)) = .int ((f_X3_areOrders M N).1) := by
  have key : ∀ (k : Nat) (M1 : BK) (N1 : Nat → Nat), (f_X3_areOrders_5 M N k M1 N1).1 = 0 ∨ (f_X3_areOrders_5 M N k M1 N1).1 = 1 := by
    intro k
    induction k with
    | zero => intro M1 N1; exact Or.inl rfl
    | succ k ih =>
      intro M1 N1
      unfold f_X3_areOrders_5
      dsimp only
      refine zif (fun (q : Int32 × BK × (Nat → Nat)) => q.1 = 0 ∨ q.1 = 1) (fun _ => Or.inl rfl) (fun _ => zif (fun (q : Int32 × BK × (Nat → Nat)) => q.1 = 0 ∨ q.1 = 1) (fun _ => Or.inr rfl) (fun _ => zif (fun (q : Int32 × BK × (Nat → Nat)) => q.1 = 0 ∨ q.1 = 1) (fun _ => Or.inl rfl) (fun _ => ih _ _)))
  exact zbb (key _ _ _)
set_option maxHeartbeats 4000000 in
set_option maxRecDepth 100000 in
theorem zc_X3_areOrders (l : Launch) (D : va_G) (cA : Nat → ClassId) (a : Nat → Nat) (M : BK) (N : Nat → Nat) (h : Int64) (hlen : N 1 ≤ 60) : Met l yX3_areOrders wsX3_areOrders (zrm 3 64) (zPc D cA [.ref (a 0)] (moW cA a M N h)) (zM D (moW cA a M N h) (moW cA a ((f_X3_areOrders M N).2.1) ((f_X3_areOrders M N).2.2) h) (some (.int ((f_X3_areOrders M N).1)))) 0 0 (zfr (moW cA a M N h)) := by
  refine Met.ofW (cc := cX3_areOrders) (maxL := 1) (ret := (some .boolean)) (by decide) rfl ?_
  intro p e s m args below meth c s₁ Bd hml hv
  obtain ⟨rfl, hP, hK, hD0⟩ := hv
  have hx := Bd.exec
  have hb := Bd.bytes
  have hr := Bd.returns
  have hts := atoms_spec (ws := wsX3_areOrders) Bd.pre
  have hown : s.vm.findClass RX3 = some m.cls := findClass_of_methodNamed Bd.named
  have hlocks := Bd.notSynchronized
  have hD := z_Dfr hD0
  have hS : va_S (zfr (moW cA a M N h)) s.heap s.heap [] := va_S.rf
  have hi3 : ∀ w ∈ wsX30, w ∈ wsX3_areOrders := fun w h => List.mem_cons_of_mem _ (List.mem_append_right _ h)
  have hl := lv_entry ([.ref (a 0)]) (n := 1) (Nat.le_of_ble_eq_true rfl)
  rw [lg_entry_eq]
  generalize (lg_sl ([.ref (a 0)]) ++ List.replicate (1 - (lg_sl ([.ref (a 0)])).length) Slot.unset).toArray = ls at hl ⊢
  have hl : lv_has ls 1 [(0, .ref (a 0))] := hl
  refine lv_aload_n hx hb dX3_areOrders_0 rfl (lv_at hl 0 rfl) ?_
  refine lv_iconst (v := 0) hx hb dX3_areOrders_1 (by decide) ?_
  refine va_put (D := D) (ci := 3) (v := .int 0) (ty := .int) (C := RX3) (T := TX3) (N := 14) hx hb hts hi3 tyX3 tyX3_ok nmX3 hown hK hP hD hS 0 rfl rfl 6 (by decide) (hts (.fieldLink RX3 137 "PledgedLoansModel" "at" "I") (List.mem_of_getElem? (i := 1) rfl)) (fun _ h9 => h9) rfl (by decide +kernel) rfl rfl (Nat.le_of_ble_eq_true rfl) dX3_areOrders_2 (fun H locs hP9 hD9 hS9 => ?_)
  replace hP : va_P D vwCl (moW cA a M (va_up N 2 0) h) H := hP9
  replace hD : va_D _ (moW cA a M (va_up N 2 0) h) := hD9
  replace hS := hS9
  clear hP9 hD9 hS9
  have loop_5 : ∀ (kk : Nat) (M1 : BK) (N1 : Nat → Nat), 61 - N1 2 < kk → N1 1 = N 1 → N1 2 ≤ N1 1 → f_X3_areOrders M N = f_X3_areOrders_5 M N kk M1 N1 → ∀ (H : Heap) (locs : List Loc), va_P D vwCl (moW cA a M1 N1 h) H → va_D (zfr (moW cA a M N h)) (moW cA a M1 N1 h) → va_S (zfr (moW cA a M N h)) s.heap H locs → ∀ (ls : Array Slot), lv_has ls 1 [(0, .ref (a 0))] → W p l e (headSpec wsX3_areOrders (zrm 3 64)).room s m ([.ref (a 0)] : List Value).toArray below meth c H locs 0 0 (MQ below (zM D (moW cA a M N h) (moW cA a ((f_X3_areOrders M N).2.1) ((f_X3_areOrders M N).2.2) h) (some (.int ((f_X3_areOrders M N).1)))) ([.ref (a 0)] : List Value).toArray s 0 0 (zfr (moW cA a M N h))) (F0 m 5 ls []) := by
    intro kk
    induction kk with
    | zero => intro M1 N1 h9; exact absurd h9 (Nat.not_lt_zero _)
    | succ kk ih_5 =>
      intro M1 N1 hm_5 hi0_5 hi1_5 hres_5 H locs hP hD hS ls hl
      have hlen1 : N1 1 ≤ 60 := by omega
      refine lv_aload_n hx hb dX3_areOrders_5 rfl (lv_at hl 0 rfl) ?_
      refine z_M (X := ([] : va_W)) (Z := ([] : va_W)) (va_runV (As := []) (rest := []) ⟨hx, hb, hml, hown, hts⟩ (zc_X3_readsOrder l D cA a M1 N1 h (by exact (show (N1 1) ≤ 60 by omega)) (by exact (show (N1 2) ≤ (N1 1) by omega))) (cwV 0 hts gX3_areOrders_X3_readsOrder rfl rfl rfl zy_X3_readsOrder ⟨Nat.le_of_ble_eq_true rfl, Nat.le_of_ble_eq_true rfl⟩) (z_preV (ci := 3) hK hP hD rfl rfl) rfl rfl hl.1 rfl (lv_room (Nat.le_of_ble_eq_true rfl)) dX3_areOrders_6 ⟨Nat.zero_le _, Nat.zero_le _⟩) hP hD hS moW_adr rfl (fun H locs hP9 hD9 hS9 => ?_)
      replace hP : va_P D vwCl (moW cA a ((f_X3_readsOrder M1 N1).2.1) ((f_X3_readsOrder M1 N1).2.2) h) H := hP9
      replace hD : va_D _ (moW cA a ((f_X3_readsOrder M1 N1).2.1) ((f_X3_readsOrder M1 N1).2.2) h) := hD9
      replace hS := hS9
      clear hP9 hD9 hS9
      obtain ⟨M_2, eM_2⟩ : ∃ z9 : BK, z9 = (f_X3_readsOrder M1 N1).2.1 := ⟨_, rfl⟩
      rw [← eM_2] at hP hD
      obtain ⟨N_3, eN_3⟩ : ∃ z9 : Nat → Nat, z9 = (f_X3_readsOrder M1 N1).2.2 := ⟨_, rfl⟩
      rw [← eN_3] at hP hD
      have hlN_3 : N_3 1 = (N1 1) ∧ N_3 0 = (N1 0) ∧ ((N1 2) ≤ (N1 1) → (N1 2) ≤ N_3 2 ∧ N_3 2 ≤ (N1 1)) := by rw [eN_3]; exact (zn_X3_readsOrder M1 N1)
      refine lv_if_eq (tgt := 36) hx hb dX3_areOrders_9 (by decide) (fun c_4 => ?_) (fun c_4 => ?_)
      · refine lv_iconst (v := 0) hx hb dX3_areOrders_36 (by decide) ?_
        exact z_zretM (w1 := moW cA a M_2 N_3 h) hx hb hr hlocks dX3_areOrders_37 hP hS rfl (by subst eN_3 eM_2; rw [hres_5]; simp only [f_X3_areOrders_5, if_pos c_4]) (by subst eN_3 eM_2; rw [hres_5]; simp only [f_X3_areOrders_5, if_pos c_4])
      · refine lv_aload_n hx hb dX3_areOrders_12 rfl (lv_at hl 0 rfl) ?_
        refine va_get (D := D) (ci := 3) (v := .int (nI (N_3 2))) (C := RX3) (T := TX3) (N := 14) hx hb hts hi3 hown hK hP 0 rfl rfl 6 (by decide) (hts (.fieldLink RX3 137 "PledgedLoansModel" "at" "I") (List.mem_of_getElem? (i := 1) rfl)) (fun _ h9 => h9) rfl dX3_areOrders_13 ?_
        refine lv_aload_n hx hb dX3_areOrders_16 rfl (lv_at hl 0 rfl) ?_
        refine va_get (D := D) (ci := 3) (v := .int (nI (N_3 1))) (C := RX3) (T := TX3) (N := 14) hx hb hts hi3 hown hK hP 0 rfl rfl 5 (by decide) (hts (.fieldLink RX3 134 "PledgedLoansModel" "length" "I") (List.mem_of_getElem? (i := 2) rfl)) (fun _ h9 => h9) rfl dX3_areOrders_17 ?_
        refine lv_icmp_ne (tgt := 25) hx hb dX3_areOrders_20 (by decide) (fun c_5 => ?_) (fun c_5 => ?_)
        · have c_5 : ¬ (N_3 2) = (N_3 1) := fun h9 => c_5 ((nI_eq (a := (N_3 2)) (b := (N_3 1)) (by omega) (by omega)).mpr h9)
          refine lv_aload_n hx hb dX3_areOrders_25 rfl (lv_at hl 0 rfl) ?_
          refine lv_bipush (v := 59) hx hb dX3_areOrders_26 (by decide) ?_
          refine z_M (X := ([] : va_W)) (Z := ([] : va_W)) (va_runV (As := [.int 59]) (rest := []) ⟨hx, hb, hml, hown, hts⟩ (zc_X3_takesSign l D cA a M_2 N_3 h 59 (by exact (show (N_3 1) ≤ 60 by omega)) (by exact (show (N_3 2) ≤ (N_3 1) by omega))) (cwV 1 hts gX3_areOrders_X3_takesSign rfl rfl rfl zy_X3_takesSign ⟨Nat.le_of_ble_eq_true rfl, Nat.le_of_ble_eq_true rfl⟩) (z_preV (ci := 3) hK hP hD rfl rfl) rfl rfl hl.1 rfl (lv_room (Nat.le_of_ble_eq_true rfl)) dX3_areOrders_28 ⟨Nat.zero_le _, Nat.zero_le _⟩) hP hD hS moW_adr rfl (fun H locs hP9 hD9 hS9 => ?_)
          replace hP : va_P D vwCl (moW cA a M_2 ((f_X3_takesSign M_2 N_3 59).2) h) H := hP9
          replace hD : va_D _ (moW cA a M_2 ((f_X3_takesSign M_2 N_3 59).2) h) := hD9
          replace hS := hS9
          clear hP9 hD9 hS9
          obtain ⟨N_6, eN_6⟩ : ∃ z9 : Nat → Nat, z9 = (f_X3_takesSign M_2 N_3 59).2 := ⟨_, rfl⟩
          rw [← eN_6] at hP hD
          have hlN_6 : N_6 1 = (N_3 1) ∧ N_6 0 = (N_3 0) ∧ ((N_3 2) ≤ (N_3 1) → (N_3 2) ≤ N_6 2 ∧ N_6 2 ≤ (N_3 1)) := by rw [eN_6]; exact (zn_X3_takesSign M_2 N_3 59 (by decide))
          refine lv_if_ne (tgt := 5) hx hb dX3_areOrders_31 (by decide) (fun c_7 => ?_) (fun c_7 => ?_)
          · obtain ⟨hk1, hk2⟩ := zn_took (by decide) c_7; rw [← eN_6] at hk2
            exact ih_5 M_2 N_6 (by omega) (by omega) (by omega) (by subst eN_6 eN_3 eM_2; rw [hres_5]; simp only [f_X3_areOrders_5, if_neg c_4, if_neg c_5, if_neg c_7]) _ _ hP hD hS ls (lv_sub hl [0] rfl)
          · refine lv_iconst (v := 0) hx hb dX3_areOrders_34 (by decide) ?_
            exact z_zretM (w1 := moW cA a M_2 N_6 h) hx hb hr hlocks dX3_areOrders_35 hP hS rfl (by subst eN_6 eN_3 eM_2; rw [hres_5]; simp only [f_X3_areOrders_5, if_neg c_4, if_neg c_5, if_pos c_7]) (by subst eN_6 eN_3 eM_2; rw [hres_5]; simp only [f_X3_areOrders_5, if_neg c_4, if_neg c_5, if_pos c_7])
        · have c_5 : (N_3 2) = (N_3 1) := (nI_eq (a := (N_3 2)) (b := (N_3 1)) (by omega) (by omega)).mp c_5
          refine lv_iconst (v := 1) hx hb dX3_areOrders_23 (by decide) ?_
          exact z_zretM (w1 := moW cA a M_2 N_3 h) hx hb hr hlocks dX3_areOrders_24 hP hS rfl (by subst eN_3 eM_2; rw [hres_5]; simp only [f_X3_areOrders_5, if_neg c_4, if_pos c_5]) (by subst eN_3 eM_2; rw [hres_5]; simp only [f_X3_areOrders_5, if_neg c_4, if_pos c_5])
  exact loop_5 62 M (va_up N 2 0) (by have := hlen; show 61 - 0 < 62; omega) (by first | rfl | (show 0 ≤ N 1; omega)) (by first | rfl | (show 0 ≤ N 1; omega)) (by first | (simp only [f_X3_areOrders]; done) | rfl) _ _ hP hD hS ls (lv_sub hl [0] rfl)

theorem zy_X3_firstError : yX3_firstError.cls = RX3 ∧ yX3_firstError.cls ≠ "java/lang/invoke/MethodHandle" ∧ yX3_firstError.cls ≠ "java/lang/invoke/VarHandle" ∧ (parseMethodDescriptor yX3_firstError.desc).map (fun d => d.parameters.length) = some 0 := by decide +kernel
def f_X3_firstError (M : BK) (N : Nat → Nat) : Int32 × BK × (Nat → Nat) :=
  let M_1 : BK := (f_X3_areOrders (uB M 4 0 0) N).2.1
  let N_2 : Nat → Nat := (f_X3_areOrders (uB M 4 0 0) N).2.2
  (nI (N_2 2), M_1, N_2)

set_option maxHeartbeats 4000000 in
set_option maxRecDepth 100000 in
theorem zc_X3_firstError (l : Launch) (D : va_G) (cA : Nat → ClassId) (a : Nat → Nat) (M : BK) (N : Nat → Nat) (h : Int64) (hlen : N 1 ≤ 60) : Met l yX3_firstError wsX3_firstError (zrm 4 84) (zPc D cA [.ref (a 0)] (moW cA a M N h)) (zM D (moW cA a M N h) (moW cA a ((f_X3_firstError M N).2.1) ((f_X3_firstError M N).2.2) h) (some (.int ((f_X3_firstError M N).1)))) 0 0 (zfr (moW cA a M N h)) := by
  refine Met.ofW (cc := cX3_firstError) (maxL := 1) (ret := (some .int)) (by decide) rfl ?_
  intro p e s m args below meth c s₁ Bd hml hv
  obtain ⟨rfl, hP, hK, hD0⟩ := hv
  have hx := Bd.exec
  have hb := Bd.bytes
  have hr := Bd.returns
  have hts := atoms_spec (ws := wsX3_firstError) Bd.pre
  have hown : s.vm.findClass RX3 = some m.cls := findClass_of_methodNamed Bd.named
  have hlocks := Bd.notSynchronized
  have hD := z_Dfr hD0
  have hS : va_S (zfr (moW cA a M N h)) s.heap s.heap [] := va_S.rf
  have hi3 : ∀ w ∈ wsX30, w ∈ wsX3_firstError := fun w h => List.mem_cons_of_mem _ (List.mem_append_right _ h)
  have hl := lv_entry ([.ref (a 0)]) (n := 1) (Nat.le_of_ble_eq_true rfl)
  rw [lg_entry_eq]
  generalize (lg_sl ([.ref (a 0)]) ++ List.replicate (1 - (lg_sl ([.ref (a 0)])).length) Slot.unset).toArray = ls at hl ⊢
  have hl : lv_has ls 1 [(0, .ref (a 0))] := hl
  refine lv_aload_n hx hb dX3_firstError_0 rfl (lv_at hl 0 rfl) ?_
  refine lv_iconst (v := 0) hx hb dX3_firstError_1 (by decide) ?_
  refine va_put (D := D) (ci := 3) (v := .int 0) (ty := .int) (C := RX3) (T := TX3) (N := 14) hx hb hts hi3 tyX3 tyX3_ok nmX3 hown hK hP hD hS 0 rfl rfl 0 (by decide) (hts (.fieldLink RX3 23 "PledgedLoansModel" "thrown" "I") (List.mem_of_getElem? (i := 1) rfl)) (fun _ h9 => h9) rfl (by decide +kernel) rfl rfl (Nat.le_of_ble_eq_true rfl) dX3_firstError_2 (fun H locs hP9 hD9 hS9 => ?_)
  replace hP : va_P D vwCl (moW cA a (uB M 4 0 0) N h) H := hP9
  replace hD : va_D _ (moW cA a (uB M 4 0 0) N h) := hD9
  replace hS := hS9
  clear hP9 hD9 hS9
  refine lv_aload_n hx hb dX3_firstError_5 rfl (lv_at hl 0 rfl) ?_
  refine z_M (X := ([] : va_W)) (Z := ([] : va_W)) (va_runV (As := []) (rest := []) ⟨hx, hb, hml, hown, hts⟩ (zc_X3_areOrders l D cA a (uB M 4 0 0) N h (by exact (show (N 1) ≤ 60 by omega))) (cwV 0 hts gX3_firstError_X3_areOrders rfl rfl rfl zy_X3_areOrders ⟨Nat.le_of_ble_eq_true rfl, Nat.le_of_ble_eq_true rfl⟩) (z_preV (ci := 3) hK hP hD rfl rfl) rfl rfl hl.1 rfl (lv_room (Nat.le_of_ble_eq_true rfl)) dX3_firstError_6 ⟨Nat.zero_le _, Nat.zero_le _⟩) hP hD hS moW_adr rfl (fun H locs hP9 hD9 hS9 => ?_)
  replace hP : va_P D vwCl (moW cA a ((f_X3_areOrders (uB M 4 0 0) N).2.1) ((f_X3_areOrders (uB M 4 0 0) N).2.2) h) H := hP9
  replace hD : va_D _ (moW cA a ((f_X3_areOrders (uB M 4 0 0) N).2.1) ((f_X3_areOrders (uB M 4 0 0) N).2.2) h) := hD9
  replace hS := hS9
  clear hP9 hD9 hS9
  obtain ⟨M_1, eM_1⟩ : ∃ z9 : BK, z9 = (f_X3_areOrders (uB M 4 0 0) N).2.1 := ⟨_, rfl⟩
  rw [← eM_1] at hP hD
  obtain ⟨N_2, eN_2⟩ : ∃ z9 : Nat → Nat, z9 = (f_X3_areOrders (uB M 4 0 0) N).2.2 := ⟨_, rfl⟩
  rw [← eN_2] at hP hD
  have hlN_2 : N_2 1 = (N 1) ∧ N_2 0 = (N 0) ∧ N_2 2 ≤ (N 1) := by rw [eN_2]; exact (zn_X3_areOrders (uB M 4 0 0) N)
  refine lv_pop hx hb dX3_firstError_9 rfl ?_
  refine lv_aload_n hx hb dX3_firstError_10 rfl (lv_at hl 0 rfl) ?_
  refine va_get (D := D) (ci := 3) (v := .int (nI (N_2 2))) (C := RX3) (T := TX3) (N := 14) hx hb hts hi3 hown hK hP 0 rfl rfl 6 (by decide) (hts (.fieldLink RX3 137 "PledgedLoansModel" "at" "I") (List.mem_of_getElem? (i := 2) rfl)) (fun _ h9 => h9) rfl dX3_firstError_11 ?_
  exact z_iretM (w1 := moW cA a M_1 N_2 h) hx hb hr hlocks dX3_firstError_14 hP hS (by subst eN_2 eM_1; first | (simp only [f_X3_firstError]; done) | rfl) (by subst eN_2 eM_1; first | (simp only [f_X3_firstError]; done) | rfl)

theorem zy_X3_does : yX3_does.cls = RX3 ∧ yX3_does.cls ≠ "java/lang/invoke/MethodHandle" ∧ yX3_does.cls ≠ "java/lang/invoke/VarHandle" ∧ (parseMethodDescriptor yX3_does.desc).map (fun d => d.parameters.length) = some 0 := by decide +kernel
def f_X3_does (M : BK) (fm : Nat) (sm : Nat) : BK :=
  if (M 4 1) = 43 then
    let M_1 : BK := (f_X3_paysIn M fm (M 4 4)).2
    M_1
  else
  if (M 4 1) = 45 then
    let M_2 : BK := (f_X3_paysOut M fm (M 4 4)).2
    M_2
  else
  if (M 4 1) = 98 then
    let M_3 : BK := (f_X3_lends M fm (M 4 4) (M 4 5)).2
    M_3
  else
  if (M 4 1) = 112 then
    let M_4 : BK := (f_X3_pledges M fm sm (M 4 4)).2
    M_4
  else
  if (M 4 1) = 114 then
    let M_5 : BK := (f_X3_repays M fm (M 4 4)).2
    M_5
  else
    let M_6 : BK := (f_X3_endsWeek M).2
    M_6

set_option maxHeartbeats 4000000 in
set_option maxRecDepth 100000 in
theorem zc_X3_does (l : Launch) (D : va_G) (cA : Nat → ClassId) (a : Nat → Nat) (M : BK) (N : Nat → Nat) (h : Int64) (fm : Nat) (sm : Nat) (hfm : fm < 6) (hsm : sm < 6) (hf : ¬ M 4 1 = 119 → M 4 2 = nI fm) (hs2 : M 4 1 = 112 → M 4 3 = nI sm) (hw2 : M 4 1 = 98 → ¬ M 4 5 = 0) : Met l yX3_does wsX3_does (zrm 6 134) (zPc D cA [.ref (a 0)] (moW cA a M N h)) (zM D (moW cA a M N h) (moW cA a (f_X3_does M fm sm) N h) none) 0 0 (zfr (moW cA a M N h)) := by
  refine Met.ofW (cc := cX3_does) (maxL := 1) (ret := none) (by decide) rfl ?_
  intro p e s m args below meth c s₁ Bd hml hv
  obtain ⟨rfl, hP, hK, hD0⟩ := hv
  have hx := Bd.exec
  have hb := Bd.bytes
  have hr := Bd.returns
  have hts := atoms_spec (ws := wsX3_does) Bd.pre
  have hown : s.vm.findClass RX3 = some m.cls := findClass_of_methodNamed Bd.named
  have hlocks := Bd.notSynchronized
  have hD := z_Dfr hD0
  have hS : va_S (zfr (moW cA a M N h)) s.heap s.heap [] := va_S.rf
  have hi3 : ∀ w ∈ wsX30, w ∈ wsX3_does := fun w h => List.mem_cons_of_mem _ (List.mem_append_right _ h)
  have hl := lv_entry ([.ref (a 0)]) (n := 1) (Nat.le_of_ble_eq_true rfl)
  rw [lg_entry_eq]
  generalize (lg_sl ([.ref (a 0)]) ++ List.replicate (1 - (lg_sl ([.ref (a 0)])).length) Slot.unset).toArray = ls at hl ⊢
  have hl : lv_has ls 1 [(0, .ref (a 0))] := hl
  refine lv_aload_n hx hb dX3_does_0 rfl (lv_at hl 0 rfl) ?_
  refine va_get (D := D) (ci := 3) (v := .int (M 4 1)) (C := RX3) (T := TX3) (N := 14) hx hb hts hi3 hown hK hP 0 rfl rfl 7 (by decide) (hts (.fieldLink RX3 143 "PledgedLoansModel" "order" "I") (List.mem_of_getElem? (i := 1) rfl)) (fun _ h9 => h9) rfl dX3_does_1 ?_
  by_cases c_1 : (M 4 1) = 43
  · refine lv_lookup (off := 52) (tgt := 56) hx hb dX3_does_4 (by decide) (by rw [c_1]; decide) (by decide) ?_
    refine lv_aload_n hx hb dX3_does_56 rfl (lv_at hl 0 rfl) ?_
    refine lv_aload_n hx hb dX3_does_57 rfl (lv_at hl 0 rfl) ?_
    refine va_get (D := D) (ci := 3) (v := .int (M 4 2)) (C := RX3) (T := TX3) (N := 14) hx hb hts hi3 hown hK hP 0 rfl rfl 8 (by decide) (hts (.fieldLink RX3 152 "PledgedLoansModel" "first" "I") (List.mem_of_getElem? (i := 2) rfl)) (fun _ h9 => h9) rfl dX3_does_58 ?_
    refine z_top (y := nI fm) (hf (by rw [c_1]; decide)) ?_
    refine lv_aload_n hx hb dX3_does_61 rfl (lv_at hl 0 rfl) ?_
    refine va_get (D := D) (ci := 3) (v := .int (M 4 4)) (C := RX3) (T := TX3) (N := 14) hx hb hts hi3 hown hK hP 0 rfl rfl 10 (by decide) (hts (.fieldLink RX3 161 "PledgedLoansModel" "amount" "I") (List.mem_of_getElem? (i := 3) rfl)) (fun _ h9 => h9) rfl dX3_does_62 ?_
    refine z_M (X := ([] : va_W)) (Z := ([] : va_W)) (va_runV (As := [.int (nI fm), .int (M 4 4)]) (rest := []) ⟨hx, hb, hml, hown, hts⟩ (zc_X3_paysIn l D cA a M N h fm (M 4 4) (by omega)) (cwV 2 hts gX3_does_X3_paysIn rfl rfl rfl zy_X3_paysIn ⟨Nat.le_of_ble_eq_true rfl, Nat.le_of_ble_eq_true rfl⟩) (z_preV (ci := 3) hK hP hD rfl rfl) rfl rfl hl.1 rfl (lv_room (Nat.le_of_ble_eq_true rfl)) dX3_does_65 ⟨Nat.zero_le _, Nat.zero_le _⟩) hP hD hS moW_adr rfl (fun H locs hP9 hD9 hS9 => ?_)
    replace hP : va_P D vwCl (moW cA a ((f_X3_paysIn M fm (M 4 4)).2) N h) H := hP9
    replace hD : va_D _ (moW cA a ((f_X3_paysIn M fm (M 4 4)).2) N h) := hD9
    replace hS := hS9
    clear hP9 hD9 hS9
    obtain ⟨M_2, eM_2⟩ : ∃ z9 : BK, z9 = (f_X3_paysIn M fm (M 4 4)).2 := ⟨_, rfl⟩
    rw [← eM_2] at hP hD
    refine lv_pop hx hb dX3_does_68 rfl ?_
    refine lv_goto (tgt := 149) hx hb dX3_does_69 (by decide) ?_
    exact z_vretM (w1 := moW cA a M_2 N h) hx hb hr hlocks dX3_does_149 hP hS (by subst eM_2; simp only [f_X3_does, if_pos c_1])
  by_cases c_3 : (M 4 1) = 45
  · refine lv_lookup (off := 68) (tgt := 72) hx hb dX3_does_4 (by decide) (by rw [c_3]; decide) (by decide) ?_
    refine lv_aload_n hx hb dX3_does_72 rfl (lv_at hl 0 rfl) ?_
    refine lv_aload_n hx hb dX3_does_73 rfl (lv_at hl 0 rfl) ?_
    refine va_get (D := D) (ci := 3) (v := .int (M 4 2)) (C := RX3) (T := TX3) (N := 14) hx hb hts hi3 hown hK hP 0 rfl rfl 8 (by decide) (hts (.fieldLink RX3 152 "PledgedLoansModel" "first" "I") (List.mem_of_getElem? (i := 2) rfl)) (fun _ h9 => h9) rfl dX3_does_74 ?_
    refine z_top (y := nI fm) (hf (by rw [c_3]; decide)) ?_
    refine lv_aload_n hx hb dX3_does_77 rfl (lv_at hl 0 rfl) ?_
    refine va_get (D := D) (ci := 3) (v := .int (M 4 4)) (C := RX3) (T := TX3) (N := 14) hx hb hts hi3 hown hK hP 0 rfl rfl 10 (by decide) (hts (.fieldLink RX3 161 "PledgedLoansModel" "amount" "I") (List.mem_of_getElem? (i := 3) rfl)) (fun _ h9 => h9) rfl dX3_does_78 ?_
    refine z_M (X := ([] : va_W)) (Z := ([] : va_W)) (va_runV (As := [.int (nI fm), .int (M 4 4)]) (rest := []) ⟨hx, hb, hml, hown, hts⟩ (zc_X3_paysOut l D cA a M N h fm (M 4 4) (by omega)) (cwV 2 hts gX3_does_X3_paysOut rfl rfl rfl zy_X3_paysOut ⟨Nat.le_of_ble_eq_true rfl, Nat.le_of_ble_eq_true rfl⟩) (z_preV (ci := 3) hK hP hD rfl rfl) rfl rfl hl.1 rfl (lv_room (Nat.le_of_ble_eq_true rfl)) dX3_does_81 ⟨Nat.zero_le _, Nat.zero_le _⟩) hP hD hS moW_adr rfl (fun H locs hP9 hD9 hS9 => ?_)
    replace hP : va_P D vwCl (moW cA a ((f_X3_paysOut M fm (M 4 4)).2) N h) H := hP9
    replace hD : va_D _ (moW cA a ((f_X3_paysOut M fm (M 4 4)).2) N h) := hD9
    replace hS := hS9
    clear hP9 hD9 hS9
    obtain ⟨M_4, eM_4⟩ : ∃ z9 : BK, z9 = (f_X3_paysOut M fm (M 4 4)).2 := ⟨_, rfl⟩
    rw [← eM_4] at hP hD
    refine lv_pop hx hb dX3_does_84 rfl ?_
    refine lv_goto (tgt := 149) hx hb dX3_does_85 (by decide) ?_
    exact z_vretM (w1 := moW cA a M_4 N h) hx hb hr hlocks dX3_does_149 hP hS (by subst eM_4; simp only [f_X3_does, if_neg c_1, if_pos c_3])
  by_cases c_5 : (M 4 1) = 98
  · refine lv_lookup (off := 104) (tgt := 108) hx hb dX3_does_4 (by decide) (by rw [c_5]; decide) (by decide) ?_
    refine lv_aload_n hx hb dX3_does_108 rfl (lv_at hl 0 rfl) ?_
    refine lv_aload_n hx hb dX3_does_109 rfl (lv_at hl 0 rfl) ?_
    refine va_get (D := D) (ci := 3) (v := .int (M 4 2)) (C := RX3) (T := TX3) (N := 14) hx hb hts hi3 hown hK hP 0 rfl rfl 8 (by decide) (hts (.fieldLink RX3 152 "PledgedLoansModel" "first" "I") (List.mem_of_getElem? (i := 2) rfl)) (fun _ h9 => h9) rfl dX3_does_110 ?_
    refine z_top (y := nI fm) (hf (by rw [c_5]; decide)) ?_
    refine lv_aload_n hx hb dX3_does_113 rfl (lv_at hl 0 rfl) ?_
    refine va_get (D := D) (ci := 3) (v := .int (M 4 4)) (C := RX3) (T := TX3) (N := 14) hx hb hts hi3 hown hK hP 0 rfl rfl 10 (by decide) (hts (.fieldLink RX3 161 "PledgedLoansModel" "amount" "I") (List.mem_of_getElem? (i := 3) rfl)) (fun _ h9 => h9) rfl dX3_does_114 ?_
    refine lv_aload_n hx hb dX3_does_117 rfl (lv_at hl 0 rfl) ?_
    refine va_get (D := D) (ci := 3) (v := .int (M 4 5)) (C := RX3) (T := TX3) (N := 14) hx hb hts hi3 hown hK hP 0 rfl rfl 11 (by decide) (hts (.fieldLink RX3 164 "PledgedLoansModel" "weeks" "I") (List.mem_of_getElem? (i := 5) rfl)) (fun _ h9 => h9) rfl dX3_does_118 ?_
    refine z_M (X := ([] : va_W)) (Z := ([] : va_W)) (va_runV (As := [.int (nI fm), .int (M 4 4), .int (M 4 5)]) (rest := []) ⟨hx, hb, hml, hown, hts⟩ (zc_X3_lends l D cA a M N h fm (M 4 4) (M 4 5) (by omega) (by exact hw2 (by assumption))) (cwV 3 hts gX3_does_X3_lends rfl rfl rfl zy_X3_lends ⟨Nat.le_of_ble_eq_true rfl, Nat.le_of_ble_eq_true rfl⟩) (z_preV (ci := 3) hK hP hD rfl rfl) rfl rfl hl.1 rfl (lv_room (Nat.le_of_ble_eq_true rfl)) dX3_does_121 ⟨Nat.zero_le _, Nat.zero_le _⟩) hP hD hS moW_adr rfl (fun H locs hP9 hD9 hS9 => ?_)
    replace hP : va_P D vwCl (moW cA a ((f_X3_lends M fm (M 4 4) (M 4 5)).2) N h) H := hP9
    replace hD : va_D _ (moW cA a ((f_X3_lends M fm (M 4 4) (M 4 5)).2) N h) := hD9
    replace hS := hS9
    clear hP9 hD9 hS9
    obtain ⟨M_6, eM_6⟩ : ∃ z9 : BK, z9 = (f_X3_lends M fm (M 4 4) (M 4 5)).2 := ⟨_, rfl⟩
    rw [← eM_6] at hP hD
    refine lv_pop hx hb dX3_does_124 rfl ?_
    refine lv_goto (tgt := 149) hx hb dX3_does_125 (by decide) ?_
    exact z_vretM (w1 := moW cA a M_6 N h) hx hb hr hlocks dX3_does_149 hP hS (by subst eM_6; simp only [f_X3_does, if_neg c_1, if_neg c_3, if_pos c_5])
  by_cases c_7 : (M 4 1) = 112
  · refine lv_lookup (off := 84) (tgt := 88) hx hb dX3_does_4 (by decide) (by rw [c_7]; decide) (by decide) ?_
    refine lv_aload_n hx hb dX3_does_88 rfl (lv_at hl 0 rfl) ?_
    refine lv_aload_n hx hb dX3_does_89 rfl (lv_at hl 0 rfl) ?_
    refine va_get (D := D) (ci := 3) (v := .int (M 4 2)) (C := RX3) (T := TX3) (N := 14) hx hb hts hi3 hown hK hP 0 rfl rfl 8 (by decide) (hts (.fieldLink RX3 152 "PledgedLoansModel" "first" "I") (List.mem_of_getElem? (i := 2) rfl)) (fun _ h9 => h9) rfl dX3_does_90 ?_
    refine z_top (y := nI fm) (hf (by rw [c_7]; decide)) ?_
    refine lv_aload_n hx hb dX3_does_93 rfl (lv_at hl 0 rfl) ?_
    refine va_get (D := D) (ci := 3) (v := .int (M 4 3)) (C := RX3) (T := TX3) (N := 14) hx hb hts hi3 hown hK hP 0 rfl rfl 9 (by decide) (hts (.fieldLink RX3 155 "PledgedLoansModel" "second" "I") (List.mem_of_getElem? (i := 4) rfl)) (fun _ h9 => h9) rfl dX3_does_94 ?_
    refine z_top (y := nI sm) (hs2 c_7) ?_
    refine lv_aload_n hx hb dX3_does_97 rfl (lv_at hl 0 rfl) ?_
    refine va_get (D := D) (ci := 3) (v := .int (M 4 4)) (C := RX3) (T := TX3) (N := 14) hx hb hts hi3 hown hK hP 0 rfl rfl 10 (by decide) (hts (.fieldLink RX3 161 "PledgedLoansModel" "amount" "I") (List.mem_of_getElem? (i := 3) rfl)) (fun _ h9 => h9) rfl dX3_does_98 ?_
    refine z_M (X := ([] : va_W)) (Z := ([] : va_W)) (va_runV (As := [.int (nI fm), .int (nI sm), .int (M 4 4)]) (rest := []) ⟨hx, hb, hml, hown, hts⟩ (zc_X3_pledges l D cA a M N h fm sm (M 4 4) (by omega) (by omega)) (cwV 3 hts gX3_does_X3_pledges rfl rfl rfl zy_X3_pledges ⟨Nat.le_of_ble_eq_true rfl, Nat.le_of_ble_eq_true rfl⟩) (z_preV (ci := 3) hK hP hD rfl rfl) rfl rfl hl.1 rfl (lv_room (Nat.le_of_ble_eq_true rfl)) dX3_does_101 ⟨Nat.zero_le _, Nat.zero_le _⟩) hP hD hS moW_adr rfl (fun H locs hP9 hD9 hS9 => ?_)
    replace hP : va_P D vwCl (moW cA a ((f_X3_pledges M fm sm (M 4 4)).2) N h) H := hP9
    replace hD : va_D _ (moW cA a ((f_X3_pledges M fm sm (M 4 4)).2) N h) := hD9
    replace hS := hS9
    clear hP9 hD9 hS9
    obtain ⟨M_8, eM_8⟩ : ∃ z9 : BK, z9 = (f_X3_pledges M fm sm (M 4 4)).2 := ⟨_, rfl⟩
    rw [← eM_8] at hP hD
    refine lv_pop hx hb dX3_does_104 rfl ?_
    refine lv_goto (tgt := 149) hx hb dX3_does_105 (by decide) ?_
    exact z_vretM (w1 := moW cA a M_8 N h) hx hb hr hlocks dX3_does_149 hP hS (by subst eM_8; simp only [f_X3_does, if_neg c_1, if_neg c_3, if_neg c_5, if_pos c_7])
  by_cases c_9 : (M 4 1) = 114
  · refine lv_lookup (off := 124) (tgt := 128) hx hb dX3_does_4 (by decide) (by rw [c_9]; decide) (by decide) ?_
    refine lv_aload_n hx hb dX3_does_128 rfl (lv_at hl 0 rfl) ?_
    refine lv_aload_n hx hb dX3_does_129 rfl (lv_at hl 0 rfl) ?_
    refine va_get (D := D) (ci := 3) (v := .int (M 4 2)) (C := RX3) (T := TX3) (N := 14) hx hb hts hi3 hown hK hP 0 rfl rfl 8 (by decide) (hts (.fieldLink RX3 152 "PledgedLoansModel" "first" "I") (List.mem_of_getElem? (i := 2) rfl)) (fun _ h9 => h9) rfl dX3_does_130 ?_
    refine z_top (y := nI fm) (hf (by rw [c_9]; decide)) ?_
    refine lv_aload_n hx hb dX3_does_133 rfl (lv_at hl 0 rfl) ?_
    refine va_get (D := D) (ci := 3) (v := .int (M 4 4)) (C := RX3) (T := TX3) (N := 14) hx hb hts hi3 hown hK hP 0 rfl rfl 10 (by decide) (hts (.fieldLink RX3 161 "PledgedLoansModel" "amount" "I") (List.mem_of_getElem? (i := 3) rfl)) (fun _ h9 => h9) rfl dX3_does_134 ?_
    refine z_M (X := ([] : va_W)) (Z := ([] : va_W)) (va_runV (As := [.int (nI fm), .int (M 4 4)]) (rest := []) ⟨hx, hb, hml, hown, hts⟩ (zc_X3_repays l D cA a M N h fm (M 4 4) (by omega)) (cwV 2 hts gX3_does_X3_repays rfl rfl rfl zy_X3_repays ⟨Nat.le_of_ble_eq_true rfl, Nat.le_of_ble_eq_true rfl⟩) (z_preV (ci := 3) hK hP hD rfl rfl) rfl rfl hl.1 rfl (lv_room (Nat.le_of_ble_eq_true rfl)) dX3_does_137 ⟨Nat.zero_le _, Nat.zero_le _⟩) hP hD hS moW_adr rfl (fun H locs hP9 hD9 hS9 => ?_)
    replace hP : va_P D vwCl (moW cA a ((f_X3_repays M fm (M 4 4)).2) N h) H := hP9
    replace hD : va_D _ (moW cA a ((f_X3_repays M fm (M 4 4)).2) N h) := hD9
    replace hS := hS9
    clear hP9 hD9 hS9
    obtain ⟨M_10, eM_10⟩ : ∃ z9 : BK, z9 = (f_X3_repays M fm (M 4 4)).2 := ⟨_, rfl⟩
    rw [← eM_10] at hP hD
    refine lv_pop hx hb dX3_does_140 rfl ?_
    refine lv_goto (tgt := 149) hx hb dX3_does_141 (by decide) ?_
    exact z_vretM (w1 := moW cA a M_10 N h) hx hb hr hlocks dX3_does_149 hP hS (by subst eM_10; simp only [f_X3_does, if_neg c_1, if_neg c_3, if_neg c_5, if_neg c_7, if_pos c_9])
  refine lv_lookup (off := 140) (tgt := 144) hx hb dX3_does_4 (by decide) (by rw [lv_osw c_1 (by decide), lv_osw c_3 (by decide), lv_osw c_5 (by decide), lv_osw c_7 (by decide), lv_osw c_9 (by decide)]; rfl) (by decide) ?_
  refine lv_aload_n hx hb dX3_does_144 rfl (lv_at hl 0 rfl) ?_
  refine z_M (X := ([] : va_W)) (Z := ([] : va_W)) (va_runV (As := []) (rest := []) ⟨hx, hb, hml, hown, hts⟩ (zc_X3_endsWeek l D cA a M N h) (cwV 0 hts gX3_does_X3_endsWeek rfl rfl rfl zy_X3_endsWeek ⟨Nat.le_of_ble_eq_true rfl, Nat.le_of_ble_eq_true rfl⟩) (z_preV (ci := 3) hK hP hD rfl rfl) rfl rfl hl.1 rfl (lv_room (Nat.le_of_ble_eq_true rfl)) dX3_does_145 ⟨Nat.zero_le _, Nat.zero_le _⟩) hP hD hS moW_adr rfl (fun H locs hP9 hD9 hS9 => ?_)
  replace hP : va_P D vwCl (moW cA a ((f_X3_endsWeek M).2) N h) H := hP9
  replace hD : va_D _ (moW cA a ((f_X3_endsWeek M).2) N h) := hD9
  replace hS := hS9
  clear hP9 hD9 hS9
  obtain ⟨M_11, eM_11⟩ : ∃ z9 : BK, z9 = (f_X3_endsWeek M).2 := ⟨_, rfl⟩
  rw [← eM_11] at hP hD
  refine lv_pop hx hb dX3_does_148 rfl ?_
  exact z_vretM (w1 := moW cA a M_11 N h) hx hb hr hlocks dX3_does_149 hP hS (by subst eM_11; simp only [f_X3_does, if_neg c_1, if_neg c_3, if_neg c_5, if_neg c_7, if_neg c_9])

theorem zy_X3_run : yX3_run.cls = RX3 ∧ yX3_run.cls ≠ "java/lang/invoke/MethodHandle" ∧ yX3_run.cls ≠ "java/lang/invoke/VarHandle" ∧ (parseMethodDescriptor yX3_run.desc).map (fun d => d.parameters.length) = some 0 := by decide +kernel
def f_X3_run_45 (M : BK) (N : Nat → Nat) : Nat → Nat → Int32 → Int32 → BK → (Nat → Nat) → Int32 × BK × (Nat → Nat)
  | 0, q, rf, g, M1, N1 => (0, M1, N1)
  | k + 1, q, rf, g, M1, N1 =>
    if g = 0 then
      (nI q, M1, va_up N1 1 0)
    else
      if (M1 4 1) = 119 then
        if 9999 ≤ (M1 0 4) then
          (nI q, M1, va_up N1 1 0)
        else
          let M_27 : BK := f_X3_does M1 ((M1 4 2).toNatClampNeg % 6) ((M1 4 3).toNatClampNeg % 6)
          if (M_27 0 6) = rf then
            let N_31 : Nat → Nat := (f_X3_takesSign M_27 N1 59).2
            if ((f_X3_takesSign M_27 N1 59).1) = 0 then
              f_X3_run_45 M N k (q + 1) rf 0 M_27 N_31
            else
              let M_33 : BK := (f_X3_readsOrder M_27 N_31).2.1
              let N_34 : Nat → Nat := (f_X3_readsOrder M_27 N_31).2.2
              if ((f_X3_readsOrder M_27 N_31).1) = 0 then
                f_X3_run_45 M N k (q + 1) rf 0 M_33 N_34
              else
                f_X3_run_45 M N k (q + 1) rf 1 M_33 N_34
          else
            f_X3_run_45 M N k (q + 0) rf 0 M_27 N1
      else
        let M_16 : BK := f_X3_does M1 ((M1 4 2).toNatClampNeg % 6) ((M1 4 3).toNatClampNeg % 6)
        if (M_16 0 6) = rf then
          let N_20 : Nat → Nat := (f_X3_takesSign M_16 N1 59).2
          if ((f_X3_takesSign M_16 N1 59).1) = 0 then
            f_X3_run_45 M N k (q + 1) rf 0 M_16 N_20
          else
            let M_22 : BK := (f_X3_readsOrder M_16 N_20).2.1
            let N_23 : Nat → Nat := (f_X3_readsOrder M_16 N_20).2.2
            if ((f_X3_readsOrder M_16 N_20).1) = 0 then
              f_X3_run_45 M N k (q + 1) rf 0 M_22 N_23
            else
              f_X3_run_45 M N k (q + 1) rf 1 M_22 N_23
        else
          f_X3_run_45 M N k (q + 0) rf 0 M_16 N1
def f_X3_run (M : BK) (N : Nat → Nat) : Int32 × BK × (Nat → Nat) :=
  let M_1 : BK := (f_X3_areOrders M N).2.1
  let N_2 : Nat → Nat := (f_X3_areOrders M N).2.2
  if ((f_X3_areOrders M N).1) = 0 then
    let M_4 : BK := (f_X3_holds M_1 1).2
    (0, M_4, N_2)
  else
    let M_6 : BK := (f_X3_holds M_1 0).2
    let M_8 : BK := (f_X3_save M_6 N_2).1
    let N_9 : Nat → Nat := (f_X3_save M_6 N_2).2
    let M_11 : BK := (f_X3_readsOrder M_8 (va_up N_9 2 0)).2.1
    let N_12 : Nat → Nat := (f_X3_readsOrder M_8 (va_up N_9 2 0)).2.2
    f_X3_run_45 M N 130 0 (M_8 0 6) ((f_X3_readsOrder M_8 (va_up N_9 2 0)).1) M_11 N_12

def zg (g : Int32) : Nat := if g = 0 then 0 else 1
theorem zg_le (g : Int32) : zg g ≤ 1 := by unfold zg; split <;> omega
theorem zg_1 {g : Int32} (h : ¬ g = 0) : zg g = 1 := by unfold zg; rw [if_neg h]

set_option maxHeartbeats 4000000 in
set_option maxRecDepth 100000 in
theorem zc_X3_run (l : Launch) (D : va_G) (cA : Nat → ClassId) (a : Nat → Nat) (M : BK) (N : Nat → Nat) (h : Int64) (hsv : N 0 ≤ 6) (hlen : N 1 ≤ 60) : Met l yX3_run wsX3_run (zrm 7 154) (zPc D cA [.ref (a 0)] (moW cA a M N h)) (zM D (moW cA a M N h) (moW cA a ((f_X3_run M N).2.1) ((f_X3_run M N).2.2) h) (some (.int ((f_X3_run M N).1)))) 0 0 (zfr (moW cA a M N h)) := by
  refine Met.ofW (cc := cX3_run) (maxL := 4) (ret := (some .int)) (by decide) rfl ?_
  intro p e s m args below meth c s₁ Bd hml hv
  obtain ⟨rfl, hP, hK, hD0⟩ := hv
  have hx := Bd.exec
  have hb := Bd.bytes
  have hr := Bd.returns
  have hts := atoms_spec (ws := wsX3_run) Bd.pre
  have hown : s.vm.findClass RX3 = some m.cls := findClass_of_methodNamed Bd.named
  have hlocks := Bd.notSynchronized
  have hD := z_Dfr hD0
  have hS : va_S (zfr (moW cA a M N h)) s.heap s.heap [] := va_S.rf
  have hi3 : ∀ w ∈ wsX30, w ∈ wsX3_run := fun w h => List.mem_cons_of_mem _ (List.mem_append_right _ h)
  have hl := lv_entry ([.ref (a 0)]) (n := 4) (Nat.le_of_ble_eq_true rfl)
  rw [lg_entry_eq]
  generalize (lg_sl ([.ref (a 0)]) ++ List.replicate (4 - (lg_sl ([.ref (a 0)])).length) Slot.unset).toArray = ls at hl ⊢
  have hl : lv_has ls 4 [(0, .ref (a 0))] := hl
  refine lv_aload_n hx hb dX3_run_0 rfl (lv_at hl 0 rfl) ?_
  refine lv_aload_n hx hb dX3_run_1 rfl (lv_at hl 0 rfl) ?_
  refine z_M (X := ([] : va_W)) (Z := ([] : va_W)) (va_runV (As := []) (rest := [.ref (a 0)]) ⟨hx, hb, hml, hown, hts⟩ (zc_X3_areOrders l D cA a M N h (by exact (show (N 1) ≤ 60 by omega))) (cwV 0 hts gX3_run_X3_areOrders rfl rfl rfl zy_X3_areOrders ⟨Nat.le_of_ble_eq_true rfl, Nat.le_of_ble_eq_true rfl⟩) (z_preV (ci := 3) hK hP hD rfl rfl) rfl rfl hl.1 rfl (lv_room (Nat.le_of_ble_eq_true rfl)) dX3_run_2 ⟨Nat.zero_le _, Nat.zero_le _⟩) hP hD hS moW_adr rfl (fun H locs hP9 hD9 hS9 => ?_)
  replace hP : va_P D vwCl (moW cA a ((f_X3_areOrders M N).2.1) ((f_X3_areOrders M N).2.2) h) H := hP9
  replace hD : va_D _ (moW cA a ((f_X3_areOrders M N).2.1) ((f_X3_areOrders M N).2.2) h) := hD9
  replace hS := hS9
  clear hP9 hD9 hS9
  obtain ⟨M_1, eM_1⟩ : ∃ z9 : BK, z9 = (f_X3_areOrders M N).2.1 := ⟨_, rfl⟩
  rw [← eM_1] at hP hD
  obtain ⟨N_2, eN_2⟩ : ∃ z9 : Nat → Nat, z9 = (f_X3_areOrders M N).2.2 := ⟨_, rfl⟩
  rw [← eN_2] at hP hD
  have hlN_2 : N_2 1 = (N 1) ∧ N_2 0 = (N 0) ∧ N_2 2 ≤ (N 1) := by rw [eN_2]; exact (zn_X3_areOrders M N)
  refine lv_if_eq (tgt := 12) hx hb dX3_run_5 (by decide) (fun c_3 => ?_) (fun c_3 => ?_)
  · refine lv_iconst (v := 1) hx hb dX3_run_12 (by decide) ?_
    refine z_M (X := ([] : va_W)) (Z := ([] : va_W)) (va_runV (As := [.int 1]) (rest := []) ⟨hx, hb, hml, hown, hts⟩ (zc_X3_holds l D cA a M_1 N_2 h 1) (cwV 1 hts gX3_run_X3_holds rfl rfl rfl zy_X3_holds ⟨Nat.le_of_ble_eq_true rfl, Nat.le_of_ble_eq_true rfl⟩) (z_preV (ci := 3) hK hP hD rfl rfl) rfl rfl hl.1 rfl (lv_room (Nat.le_of_ble_eq_true rfl)) dX3_run_13 ⟨Nat.zero_le _, Nat.zero_le _⟩) hP hD hS moW_adr rfl (fun H locs hP9 hD9 hS9 => ?_)
    replace hP : va_P D vwCl (moW cA a ((f_X3_holds M_1 1).2) N_2 h) H := hP9
    replace hD : va_D _ (moW cA a ((f_X3_holds M_1 1).2) N_2 h) := hD9
    replace hS := hS9
    clear hP9 hD9 hS9
    obtain ⟨M_4, eM_4⟩ : ∃ z9 : BK, z9 = (f_X3_holds M_1 1).2 := ⟨_, rfl⟩
    rw [← eM_4] at hP hD
    refine z_top (y := 0) (by simp only [f_X3_holds]; rfl) ?_
    refine lv_if_ne (tgt := 21) hx hb dX3_run_16 (by decide) (fun c_5 => ?_) (fun c_5 => ?_)
    · exact absurd c_5 (by decide)
    · refine lv_iconst (v := 0) hx hb dX3_run_19 (by decide) ?_
      exact z_iretM (w1 := moW cA a M_4 N_2 h) hx hb hr hlocks dX3_run_20 hP hS (by subst eM_4 eN_2 eM_1; simp only [f_X3_run, if_pos c_3]) (by subst eM_4 eN_2 eM_1; simp only [f_X3_run, if_pos c_3])
  · refine lv_iconst (v := 0) hx hb dX3_run_8 (by decide) ?_
    refine lv_goto (tgt := 13) hx hb dX3_run_9 (by decide) ?_
    refine z_M (X := ([] : va_W)) (Z := ([] : va_W)) (va_runV (As := [.int 0]) (rest := []) ⟨hx, hb, hml, hown, hts⟩ (zc_X3_holds l D cA a M_1 N_2 h 0) (cwV 1 hts gX3_run_X3_holds rfl rfl rfl zy_X3_holds ⟨Nat.le_of_ble_eq_true rfl, Nat.le_of_ble_eq_true rfl⟩) (z_preV (ci := 3) hK hP hD rfl rfl) rfl rfl hl.1 rfl (lv_room (Nat.le_of_ble_eq_true rfl)) dX3_run_13 ⟨Nat.zero_le _, Nat.zero_le _⟩) hP hD hS moW_adr rfl (fun H locs hP9 hD9 hS9 => ?_)
    replace hP : va_P D vwCl (moW cA a ((f_X3_holds M_1 0).2) N_2 h) H := hP9
    replace hD : va_D _ (moW cA a ((f_X3_holds M_1 0).2) N_2 h) := hD9
    replace hS := hS9
    clear hP9 hD9 hS9
    obtain ⟨M_6, eM_6⟩ : ∃ z9 : BK, z9 = (f_X3_holds M_1 0).2 := ⟨_, rfl⟩
    rw [← eM_6] at hP hD
    refine z_top (y := 1) (by simp only [f_X3_holds]; rfl) ?_
    refine lv_if_ne (tgt := 21) hx hb dX3_run_16 (by decide) (fun c_7 => ?_) (fun c_7 => ?_)
    · refine lv_aload_n hx hb dX3_run_21 rfl (lv_at hl 0 rfl) ?_
      refine z_M (X := ([] : va_W)) (Z := ([] : va_W)) (va_runV (As := []) (rest := []) ⟨hx, hb, hml, hown, hts⟩ (zc_X3_save l D cA a M_6 N_2 h (by exact (show (N_2 0) ≤ 6 by omega))) (cwV 0 hts gX3_run_X3_save rfl rfl rfl zy_X3_save ⟨Nat.le_of_ble_eq_true rfl, Nat.le_of_ble_eq_true rfl⟩) (z_preV (ci := 3) hK hP hD rfl rfl) rfl rfl hl.1 rfl (lv_room (Nat.le_of_ble_eq_true rfl)) dX3_run_22 ⟨Nat.zero_le _, Nat.zero_le _⟩) hP hD hS moW_adr rfl (fun H locs hP9 hD9 hS9 => ?_)
      replace hP : va_P D vwCl (moW cA a ((f_X3_save M_6 N_2).1) ((f_X3_save M_6 N_2).2) h) H := hP9
      replace hD : va_D _ (moW cA a ((f_X3_save M_6 N_2).1) ((f_X3_save M_6 N_2).2) h) := hD9
      replace hS := hS9
      clear hP9 hD9 hS9
      obtain ⟨M_8, eM_8⟩ : ∃ z9 : BK, z9 = (f_X3_save M_6 N_2).1 := ⟨_, rfl⟩
      rw [← eM_8] at hP hD
      obtain ⟨N_9, eN_9⟩ : ∃ z9 : Nat → Nat, z9 = (f_X3_save M_6 N_2).2 := ⟨_, rfl⟩
      rw [← eN_9] at hP hD
      have hlN_9 : N_9 1 = (N_2 1) ∧ N_9 2 = (N_2 2) ∧ N_9 0 ≤ 6 := by rw [eN_9]; exact (zn_X3_save M_6 N_2 (by first | assumption | omega))
      refine lv_aload_n hx hb dX3_run_25 rfl (lv_at hl 0 rfl) ?_
      refine lv_iconst (v := 0) hx hb dX3_run_26 (by decide) ?_
      refine va_put (D := D) (ci := 3) (v := .int 0) (ty := .int) (C := RX3) (T := TX3) (N := 14) hx hb hts hi3 tyX3 tyX3_ok nmX3 hown hK hP hD hS 0 rfl rfl 6 (by decide) (hts (.fieldLink RX3 137 "PledgedLoansModel" "at" "I") (List.mem_of_getElem? (i := 1) rfl)) (fun _ h9 => h9) rfl (by decide +kernel) rfl rfl (Nat.le_of_ble_eq_true rfl) dX3_run_27 (fun H locs hP9 hD9 hS9 => ?_)
      replace hP : va_P D vwCl (moW cA a M_8 (va_up N_9 2 0) h) H := hP9
      replace hD : va_D _ (moW cA a M_8 (va_up N_9 2 0) h) := hD9
      replace hS := hS9
      clear hP9 hD9 hS9
      refine lv_iconst (v := 0) hx hb dX3_run_30 (by decide) ?_
      refine lv_istore_n (lv' := [(1, .int 0), (0, .ref (a 0))]) hx hb dX3_run_31 rfl hl (by decide) rfl (fun ls hl => ?_)
      refine lv_aload_n hx hb dX3_run_32 rfl (lv_at hl 1 rfl) ?_
      refine va_get (D := D) (ci := 3) (v := .ref (a 1)) (C := RX3) (T := TX3) (N := 14) hx hb hts hi3 hown hK hP 0 rfl rfl 1 (by decide) (hts (.fieldLink RX3 7 "PledgedLoansModel" "s" "[I") (List.mem_of_getElem? (i := 2) rfl)) (fun _ h9 => h9) rfl dX3_run_33 ?_
      refine lv_bipush (v := 6) hx hb dX3_run_36 (by decide) ?_
      refine z_iald (j := 6) hx hb hK hP 1 0 rfl rfl dX3_run_38 (by omega) (by decide) ?_
      refine lv_istore_n (lv' := [(2, .int (M_8 0 6)), (1, .int 0), (0, .ref (a 0))]) hx hb dX3_run_39 rfl hl (by decide) rfl (fun ls hl => ?_)
      refine lv_aload_n hx hb dX3_run_40 rfl (lv_at hl 2 rfl) ?_
      refine z_M (X := ([] : va_W)) (Z := ([] : va_W)) (va_runV (As := []) (rest := []) ⟨hx, hb, hml, hown, hts⟩ (zc_X3_readsOrder l D cA a M_8 (va_up N_9 2 0) h (by exact (show (N_9 1) ≤ 60 by omega)) (by exact (show 0 ≤ (N_9 1) by omega))) (cwV 0 hts gX3_run_X3_readsOrder rfl rfl rfl zy_X3_readsOrder ⟨Nat.le_of_ble_eq_true rfl, Nat.le_of_ble_eq_true rfl⟩) (z_preV (ci := 3) hK hP hD rfl rfl) rfl rfl hl.1 rfl (lv_room (Nat.le_of_ble_eq_true rfl)) dX3_run_41 ⟨Nat.zero_le _, Nat.zero_le _⟩) hP hD hS moW_adr rfl (fun H locs hP9 hD9 hS9 => ?_)
      replace hP : va_P D vwCl (moW cA a ((f_X3_readsOrder M_8 (va_up N_9 2 0)).2.1) ((f_X3_readsOrder M_8 (va_up N_9 2 0)).2.2) h) H := hP9
      replace hD : va_D _ (moW cA a ((f_X3_readsOrder M_8 (va_up N_9 2 0)).2.1) ((f_X3_readsOrder M_8 (va_up N_9 2 0)).2.2) h) := hD9
      replace hS := hS9
      clear hP9 hD9 hS9
      obtain ⟨M_11, eM_11⟩ : ∃ z9 : BK, z9 = (f_X3_readsOrder M_8 (va_up N_9 2 0)).2.1 := ⟨_, rfl⟩
      rw [← eM_11] at hP hD
      obtain ⟨N_12, eN_12⟩ : ∃ z9 : Nat → Nat, z9 = (f_X3_readsOrder M_8 (va_up N_9 2 0)).2.2 := ⟨_, rfl⟩
      rw [← eN_12] at hP hD
      have hlN_12 : N_12 1 = (N_9 1) ∧ N_12 0 = (N_9 0) ∧ (0 ≤ (N_9 1) → 0 ≤ N_12 2 ∧ N_12 2 ≤ (N_9 1)) := by rw [eN_12]; exact (zn_X3_readsOrder M_8 (va_up N_9 2 0))
      refine lv_istore_n (lv' := [(3, .int ((f_X3_readsOrder M_8 (va_up N_9 2 0)).1)), (2, .int (M_8 0 6)), (1, .int 0), (0, .ref (a 0))]) hx hb dX3_run_44 rfl hl (by decide) rfl (fun ls hl => ?_)
      have loop_45 : ∀ (kk : Nat) (q : Nat) (rf : Int32) (g : Int32) (M1 : BK) (N1 : Nat → Nat), 2 * (61 - N1 2) + zg g < kk → N1 1 = N 1 → N1 2 ≤ N1 1 → (¬ g = 0 → zval M1) → f_X3_run M N = f_X3_run_45 M N kk q rf g M1 N1 → ∀ (H : Heap) (locs : List Loc), va_P D vwCl (moW cA a M1 N1 h) H → va_D (zfr (moW cA a M N h)) (moW cA a M1 N1 h) → va_S (zfr (moW cA a M N h)) s.heap H locs → ∀ (ls : Array Slot), lv_has ls 4 [(0, .ref (a 0)), (1, .int (nI q)), (2, .int rf), (3, .int g)] → W p l e (headSpec wsX3_run (zrm 7 154)).room s m ([.ref (a 0)] : List Value).toArray below meth c H locs 0 0 (MQ below (zM D (moW cA a M N h) (moW cA a ((f_X3_run M N).2.1) ((f_X3_run M N).2.2) h) (some (.int ((f_X3_run M N).1)))) ([.ref (a 0)] : List Value).toArray s 0 0 (zfr (moW cA a M N h))) (F0 m 45 ls []) := by
        intro kk
        induction kk with
        | zero => intro q rf g M1 N1 h9; exact absurd h9 (Nat.not_lt_zero _)
        | succ kk ih_45 =>
          intro q rf g M1 N1 hm_45 hi0_45 hi1_45 hi2_45 hres_45 H locs hP hD hS ls hl
          have hlen1 : N1 1 ≤ 60 := by omega
          refine lv_iload_n hx hb dX3_run_45 rfl (lv_at hl 3 rfl) ?_
          refine lv_if_eq (tgt := 129) hx hb dX3_run_46 (by decide) (fun c_13 => ?_) (fun c_13 => ?_)
          · refine lv_aload_n hx hb dX3_run_129 rfl (lv_at hl 0 rfl) ?_
            refine lv_iconst (v := 0) hx hb dX3_run_130 (by decide) ?_
            refine va_put (D := D) (ci := 3) (v := .int 0) (ty := .int) (C := RX3) (T := TX3) (N := 14) hx hb hts hi3 tyX3 tyX3_ok nmX3 hown hK hP hD hS 0 rfl rfl 5 (by decide) (hts (.fieldLink RX3 134 "PledgedLoansModel" "length" "I") (List.mem_of_getElem? (i := 4) rfl)) (fun _ h9 => h9) rfl (by decide +kernel) rfl rfl (Nat.le_of_ble_eq_true rfl) dX3_run_131 (fun H locs hP9 hD9 hS9 => ?_)
            replace hP : va_P D vwCl (moW cA a M1 (va_up N1 1 0) h) H := hP9
            replace hD : va_D _ (moW cA a M1 (va_up N1 1 0) h) := hD9
            replace hS := hS9
            clear hP9 hD9 hS9
            refine lv_iload_n hx hb dX3_run_134 rfl (lv_at hl 1 rfl) ?_
            exact z_iretM (w1 := moW cA a M1 (va_up N1 1 0) h) hx hb hr hlocks dX3_run_135 hP hS (by subst eN_12 eM_11 eN_9 eM_8 eM_6 eN_2 eM_1; rw [hres_45]; simp only [f_X3_run_45, if_pos c_13]) (by subst eN_12 eM_11 eN_9 eM_8 eM_6 eN_2 eM_1; rw [hres_45]; simp only [f_X3_run_45, if_pos c_13])
          · refine lv_aload_n hx hb dX3_run_49 rfl (lv_at hl 0 rfl) ?_
            refine va_get (D := D) (ci := 3) (v := .int (M1 4 1)) (C := RX3) (T := TX3) (N := 14) hx hb hts hi3 hown hK hP 0 rfl rfl 7 (by decide) (hts (.fieldLink RX3 143 "PledgedLoansModel" "order" "I") (List.mem_of_getElem? (i := 3) rfl)) (fun _ h9 => h9) rfl dX3_run_50 ?_
            refine lv_bipush (v := 119) hx hb dX3_run_53 (by decide) ?_
            refine lv_icmp_ne (tgt := 70) hx hb dX3_run_55 (by decide) (fun c_15 => ?_) (fun c_15 => ?_)
            · refine lv_aload_n hx hb dX3_run_70 rfl (lv_at hl 0 rfl) ?_
              refine z_M (X := ([] : va_W)) (Z := ([] : va_W)) (va_runV (As := []) (rest := []) ⟨hx, hb, hml, hown, hts⟩ (zc_X3_does l D cA a M1 N1 h ((M1 4 2).toNatClampNeg % 6) ((M1 4 3).toNatClampNeg % 6) (by omega) (by omega) (by exact (hi2_45 c_13).1) (by exact (hi2_45 c_13).2.1) (by exact (hi2_45 c_13).2.2)) (cwV 0 hts gX3_run_X3_does rfl rfl rfl zy_X3_does ⟨Nat.le_of_ble_eq_true rfl, Nat.le_of_ble_eq_true rfl⟩) (z_preV (ci := 3) hK hP hD rfl rfl) rfl rfl hl.1 rfl (lv_room (Nat.le_of_ble_eq_true rfl)) dX3_run_71 ⟨Nat.zero_le _, Nat.zero_le _⟩) hP hD hS moW_adr rfl (fun H locs hP9 hD9 hS9 => ?_)
              replace hP : va_P D vwCl (moW cA a (f_X3_does M1 ((M1 4 2).toNatClampNeg % 6) ((M1 4 3).toNatClampNeg % 6)) N1 h) H := hP9
              replace hD : va_D _ (moW cA a (f_X3_does M1 ((M1 4 2).toNatClampNeg % 6) ((M1 4 3).toNatClampNeg % 6)) N1 h) := hD9
              replace hS := hS9
              clear hP9 hD9 hS9
              obtain ⟨M_16, eM_16⟩ : ∃ z9 : BK, z9 = f_X3_does M1 ((M1 4 2).toNatClampNeg % 6) ((M1 4 3).toNatClampNeg % 6) := ⟨_, rfl⟩
              rw [← eM_16] at hP hD
              refine lv_iload_n hx hb dX3_run_74 rfl (lv_at hl 1 rfl) ?_
              refine lv_aload_n hx hb dX3_run_75 rfl (lv_at hl 0 rfl) ?_
              refine va_get (D := D) (ci := 3) (v := .ref (a 1)) (C := RX3) (T := TX3) (N := 14) hx hb hts hi3 hown hK hP 0 rfl rfl 1 (by decide) (hts (.fieldLink RX3 7 "PledgedLoansModel" "s" "[I") (List.mem_of_getElem? (i := 2) rfl)) (fun _ h9 => h9) rfl dX3_run_76 ?_
              refine lv_bipush (v := 6) hx hb dX3_run_79 (by decide) ?_
              refine z_iald (j := 6) hx hb hK hP 1 0 rfl rfl dX3_run_81 (by omega) (by decide) ?_
              refine lv_iload_n hx hb dX3_run_82 rfl (lv_at hl 2 rfl) ?_
              refine lv_icmp_ne (tgt := 90) hx hb dX3_run_83 (by decide) (fun c_17 => ?_) (fun c_17 => ?_)
              · refine lv_iconst (v := 0) hx hb dX3_run_90 (by decide) ?_
                refine lv_iadd hx hb dX3_run_91 ?_
                refine z_top (nI_add q 0) ?_
                refine lv_istore_n (lv' := [(1, .int (nI (q + 0))), (0, .ref (a 0)), (2, .int rf), (3, .int g)]) hx hb dX3_run_92 rfl hl (by decide) rfl (fun ls hl => ?_)
                refine lv_aload_n hx hb dX3_run_93 rfl (lv_at hl 1 rfl) ?_
                refine va_get (D := D) (ci := 3) (v := .ref (a 1)) (C := RX3) (T := TX3) (N := 14) hx hb hts hi3 hown hK hP 0 rfl rfl 1 (by decide) (hts (.fieldLink RX3 7 "PledgedLoansModel" "s" "[I") (List.mem_of_getElem? (i := 2) rfl)) (fun _ h9 => h9) rfl dX3_run_94 ?_
                refine lv_bipush (v := 6) hx hb dX3_run_97 (by decide) ?_
                refine z_iald (j := 6) hx hb hK hP 1 0 rfl rfl dX3_run_99 (by omega) (by decide) ?_
                refine lv_iload_n hx hb dX3_run_100 rfl (lv_at hl 2 rfl) ?_
                refine lv_icmp_ne (tgt := 124) hx hb dX3_run_101 (by decide) (fun c_18 => ?_) (fun c_18 => ?_)
                · refine lv_iconst (v := 0) hx hb dX3_run_124 (by decide) ?_
                  refine lv_istore_n (lv' := [(3, .int 0), (1, .int (nI (q + 0))), (0, .ref (a 0)), (2, .int rf)]) hx hb dX3_run_125 rfl hl (by decide) rfl (fun ls hl => ?_)
                  refine lv_goto (tgt := 45) hx hb dX3_run_126 (by decide) ?_
                  exact ih_45 (q + 0) rf 0 M_16 N1 (by have hz1 := zg_1 c_13; have hz2 : zg 0 = 0 := rfl; have hz3 : zg 1 = 1 := rfl; omega) (by omega) (by omega) (by first | (intro h9; exact absurd rfl h9) | (intro h9; subst eM_16 eN_12 eM_11 eN_9 eM_8 eM_6 eN_2 eM_1; exact zval_ro _ _ (by assumption))) (by subst eM_16 eN_12 eM_11 eN_9 eM_8 eM_6 eN_2 eM_1; rw [hres_45]; simp only [f_X3_run_45, if_neg c_13, if_neg c_15, if_neg c_17]) _ _ hP hD hS ls (lv_sub hl [2, 1, 3, 0] rfl)
                · exact absurd c_18 c_17
              · refine lv_iconst (v := 1) hx hb dX3_run_86 (by decide) ?_
                refine lv_goto (tgt := 91) hx hb dX3_run_87 (by decide) ?_
                refine lv_iadd hx hb dX3_run_91 ?_
                refine z_top (nI_add q 1) ?_
                refine lv_istore_n (lv' := [(1, .int (nI (q + 1))), (0, .ref (a 0)), (2, .int rf), (3, .int g)]) hx hb dX3_run_92 rfl hl (by decide) rfl (fun ls hl => ?_)
                refine lv_aload_n hx hb dX3_run_93 rfl (lv_at hl 1 rfl) ?_
                refine va_get (D := D) (ci := 3) (v := .ref (a 1)) (C := RX3) (T := TX3) (N := 14) hx hb hts hi3 hown hK hP 0 rfl rfl 1 (by decide) (hts (.fieldLink RX3 7 "PledgedLoansModel" "s" "[I") (List.mem_of_getElem? (i := 2) rfl)) (fun _ h9 => h9) rfl dX3_run_94 ?_
                refine lv_bipush (v := 6) hx hb dX3_run_97 (by decide) ?_
                refine z_iald (j := 6) hx hb hK hP 1 0 rfl rfl dX3_run_99 (by omega) (by decide) ?_
                refine lv_iload_n hx hb dX3_run_100 rfl (lv_at hl 2 rfl) ?_
                refine lv_icmp_ne (tgt := 124) hx hb dX3_run_101 (by decide) (fun c_19 => ?_) (fun c_19 => ?_)
                · exact absurd c_17 c_19
                · refine lv_aload_n hx hb dX3_run_104 rfl (lv_at hl 1 rfl) ?_
                  refine lv_bipush (v := 59) hx hb dX3_run_105 (by decide) ?_
                  refine z_M (X := ([] : va_W)) (Z := ([] : va_W)) (va_runV (As := [.int 59]) (rest := []) ⟨hx, hb, hml, hown, hts⟩ (zc_X3_takesSign l D cA a M_16 N1 h 59 (by exact (show (N1 1) ≤ 60 by omega)) (by exact (show (N1 2) ≤ (N1 1) by omega))) (cwV 1 hts gX3_run_X3_takesSign rfl rfl rfl zy_X3_takesSign ⟨Nat.le_of_ble_eq_true rfl, Nat.le_of_ble_eq_true rfl⟩) (z_preV (ci := 3) hK hP hD rfl rfl) rfl rfl hl.1 rfl (lv_room (Nat.le_of_ble_eq_true rfl)) dX3_run_107 ⟨Nat.zero_le _, Nat.zero_le _⟩) hP hD hS moW_adr rfl (fun H locs hP9 hD9 hS9 => ?_)
                  replace hP : va_P D vwCl (moW cA a M_16 ((f_X3_takesSign M_16 N1 59).2) h) H := hP9
                  replace hD : va_D _ (moW cA a M_16 ((f_X3_takesSign M_16 N1 59).2) h) := hD9
                  replace hS := hS9
                  clear hP9 hD9 hS9
                  obtain ⟨N_20, eN_20⟩ : ∃ z9 : Nat → Nat, z9 = (f_X3_takesSign M_16 N1 59).2 := ⟨_, rfl⟩
                  rw [← eN_20] at hP hD
                  have hlN_20 : N_20 1 = (N1 1) ∧ N_20 0 = (N1 0) ∧ ((N1 2) ≤ (N1 1) → (N1 2) ≤ N_20 2 ∧ N_20 2 ≤ (N1 1)) := by rw [eN_20]; exact (zn_X3_takesSign M_16 N1 59 (by decide))
                  refine lv_if_eq (tgt := 124) hx hb dX3_run_110 (by decide) (fun c_21 => ?_) (fun c_21 => ?_)
                  · refine lv_iconst (v := 0) hx hb dX3_run_124 (by decide) ?_
                    refine lv_istore_n (lv' := [(3, .int 0), (1, .int (nI (q + 1))), (0, .ref (a 0)), (2, .int rf)]) hx hb dX3_run_125 rfl hl (by decide) rfl (fun ls hl => ?_)
                    refine lv_goto (tgt := 45) hx hb dX3_run_126 (by decide) ?_
                    exact ih_45 (q + 1) rf 0 M_16 N_20 (by have hz1 := zg_1 c_13; have hz2 : zg 0 = 0 := rfl; have hz3 : zg 1 = 1 := rfl; omega) (by omega) (by omega) (by first | (intro h9; exact absurd rfl h9) | (intro h9; subst eN_20 eM_16 eN_12 eM_11 eN_9 eM_8 eM_6 eN_2 eM_1; exact zval_ro _ _ (by assumption))) (by subst eN_20 eM_16 eN_12 eM_11 eN_9 eM_8 eM_6 eN_2 eM_1; rw [hres_45]; simp only [f_X3_run_45, if_neg c_13, if_neg c_15, if_pos c_17, if_pos c_21]) _ _ hP hD hS ls (lv_sub hl [2, 1, 3, 0] rfl)
                  · obtain ⟨hk1, hk2⟩ := zn_took (by decide) c_21; rw [← eN_20] at hk2
                    refine lv_aload_n hx hb dX3_run_113 rfl (lv_at hl 1 rfl) ?_
                    refine z_M (X := ([] : va_W)) (Z := ([] : va_W)) (va_runV (As := []) (rest := []) ⟨hx, hb, hml, hown, hts⟩ (zc_X3_readsOrder l D cA a M_16 N_20 h (by exact (show (N_20 1) ≤ 60 by omega)) (by exact (show (N_20 2) ≤ (N_20 1) by omega))) (cwV 0 hts gX3_run_X3_readsOrder rfl rfl rfl zy_X3_readsOrder ⟨Nat.le_of_ble_eq_true rfl, Nat.le_of_ble_eq_true rfl⟩) (z_preV (ci := 3) hK hP hD rfl rfl) rfl rfl hl.1 rfl (lv_room (Nat.le_of_ble_eq_true rfl)) dX3_run_114 ⟨Nat.zero_le _, Nat.zero_le _⟩) hP hD hS moW_adr rfl (fun H locs hP9 hD9 hS9 => ?_)
                    replace hP : va_P D vwCl (moW cA a ((f_X3_readsOrder M_16 N_20).2.1) ((f_X3_readsOrder M_16 N_20).2.2) h) H := hP9
                    replace hD : va_D _ (moW cA a ((f_X3_readsOrder M_16 N_20).2.1) ((f_X3_readsOrder M_16 N_20).2.2) h) := hD9
                    replace hS := hS9
                    clear hP9 hD9 hS9
                    obtain ⟨M_22, eM_22⟩ : ∃ z9 : BK, z9 = (f_X3_readsOrder M_16 N_20).2.1 := ⟨_, rfl⟩
                    rw [← eM_22] at hP hD
                    obtain ⟨N_23, eN_23⟩ : ∃ z9 : Nat → Nat, z9 = (f_X3_readsOrder M_16 N_20).2.2 := ⟨_, rfl⟩
                    rw [← eN_23] at hP hD
                    have hlN_23 : N_23 1 = (N_20 1) ∧ N_23 0 = (N_20 0) ∧ ((N_20 2) ≤ (N_20 1) → (N_20 2) ≤ N_23 2 ∧ N_23 2 ≤ (N_20 1)) := by rw [eN_23]; exact (zn_X3_readsOrder M_16 N_20)
                    refine lv_if_eq (tgt := 124) hx hb dX3_run_117 (by decide) (fun c_24 => ?_) (fun c_24 => ?_)
                    · refine lv_iconst (v := 0) hx hb dX3_run_124 (by decide) ?_
                      refine lv_istore_n (lv' := [(3, .int 0), (1, .int (nI (q + 1))), (0, .ref (a 0)), (2, .int rf)]) hx hb dX3_run_125 rfl hl (by decide) rfl (fun ls hl => ?_)
                      refine lv_goto (tgt := 45) hx hb dX3_run_126 (by decide) ?_
                      exact ih_45 (q + 1) rf 0 M_22 N_23 (by have hz1 := zg_1 c_13; have hz2 : zg 0 = 0 := rfl; have hz3 : zg 1 = 1 := rfl; omega) (by omega) (by omega) (by first | (intro h9; exact absurd rfl h9) | (intro h9; subst eN_23 eM_22 eN_20 eM_16 eN_12 eM_11 eN_9 eM_8 eM_6 eN_2 eM_1; exact zval_ro _ _ (by assumption))) (by subst eN_23 eM_22 eN_20 eM_16 eN_12 eM_11 eN_9 eM_8 eM_6 eN_2 eM_1; rw [hres_45]; simp only [f_X3_run_45, if_neg c_13, if_neg c_15, if_pos c_17, if_neg c_21, if_pos c_24]) _ _ hP hD hS ls (lv_sub hl [2, 1, 3, 0] rfl)
                    · refine lv_iconst (v := 1) hx hb dX3_run_120 (by decide) ?_
                      refine lv_goto (tgt := 125) hx hb dX3_run_121 (by decide) ?_
                      refine lv_istore_n (lv' := [(3, .int 1), (1, .int (nI (q + 1))), (0, .ref (a 0)), (2, .int rf)]) hx hb dX3_run_125 rfl hl (by decide) rfl (fun ls hl => ?_)
                      refine lv_goto (tgt := 45) hx hb dX3_run_126 (by decide) ?_
                      exact ih_45 (q + 1) rf 1 M_22 N_23 (by have hz1 := zg_1 c_13; have hz2 : zg 0 = 0 := rfl; have hz3 : zg 1 = 1 := rfl; omega) (by omega) (by omega) (by first | (intro h9; exact absurd rfl h9) | (intro h9; subst eN_23 eM_22 eN_20 eM_16 eN_12 eM_11 eN_9 eM_8 eM_6 eN_2 eM_1; exact zval_ro _ _ (by assumption))) (by subst eN_23 eM_22 eN_20 eM_16 eN_12 eM_11 eN_9 eM_8 eM_6 eN_2 eM_1; rw [hres_45]; simp only [f_X3_run_45, if_neg c_13, if_neg c_15, if_pos c_17, if_neg c_21, if_neg c_24]) _ _ hP hD hS ls (lv_sub hl [2, 1, 3, 0] rfl)
            · refine lv_aload_n hx hb dX3_run_58 rfl (lv_at hl 0 rfl) ?_
              refine va_get (D := D) (ci := 3) (v := .ref (a 1)) (C := RX3) (T := TX3) (N := 14) hx hb hts hi3 hown hK hP 0 rfl rfl 1 (by decide) (hts (.fieldLink RX3 7 "PledgedLoansModel" "s" "[I") (List.mem_of_getElem? (i := 2) rfl)) (fun _ h9 => h9) rfl dX3_run_59 ?_
              refine lv_iconst (v := 4) hx hb dX3_run_62 (by decide) ?_
              refine z_iald (j := 4) hx hb hK hP 1 0 rfl rfl dX3_run_63 (by omega) (by decide) ?_
              refine lv_sipush (v := 9999) hx hb dX3_run_64 (by decide) ?_
              refine lv_icmp_ge (tgt := 129) hx hb dX3_run_67 (by decide) (fun c_25 => ?_) (fun c_25 => ?_)
              · refine lv_aload_n hx hb dX3_run_129 rfl (lv_at hl 0 rfl) ?_
                refine lv_iconst (v := 0) hx hb dX3_run_130 (by decide) ?_
                refine va_put (D := D) (ci := 3) (v := .int 0) (ty := .int) (C := RX3) (T := TX3) (N := 14) hx hb hts hi3 tyX3 tyX3_ok nmX3 hown hK hP hD hS 0 rfl rfl 5 (by decide) (hts (.fieldLink RX3 134 "PledgedLoansModel" "length" "I") (List.mem_of_getElem? (i := 4) rfl)) (fun _ h9 => h9) rfl (by decide +kernel) rfl rfl (Nat.le_of_ble_eq_true rfl) dX3_run_131 (fun H locs hP9 hD9 hS9 => ?_)
                replace hP : va_P D vwCl (moW cA a M1 (va_up N1 1 0) h) H := hP9
                replace hD : va_D _ (moW cA a M1 (va_up N1 1 0) h) := hD9
                replace hS := hS9
                clear hP9 hD9 hS9
                refine lv_iload_n hx hb dX3_run_134 rfl (lv_at hl 1 rfl) ?_
                exact z_iretM (w1 := moW cA a M1 (va_up N1 1 0) h) hx hb hr hlocks dX3_run_135 hP hS (by subst eN_12 eM_11 eN_9 eM_8 eM_6 eN_2 eM_1; rw [hres_45]; simp only [f_X3_run_45, if_neg c_13, if_pos c_15, if_pos c_25]) (by subst eN_12 eM_11 eN_9 eM_8 eM_6 eN_2 eM_1; rw [hres_45]; simp only [f_X3_run_45, if_neg c_13, if_pos c_15, if_pos c_25])
              · refine lv_aload_n hx hb dX3_run_70 rfl (lv_at hl 0 rfl) ?_
                refine z_M (X := ([] : va_W)) (Z := ([] : va_W)) (va_runV (As := []) (rest := []) ⟨hx, hb, hml, hown, hts⟩ (zc_X3_does l D cA a M1 N1 h ((M1 4 2).toNatClampNeg % 6) ((M1 4 3).toNatClampNeg % 6) (by omega) (by omega) (by exact (hi2_45 c_13).1) (by exact (hi2_45 c_13).2.1) (by exact (hi2_45 c_13).2.2)) (cwV 0 hts gX3_run_X3_does rfl rfl rfl zy_X3_does ⟨Nat.le_of_ble_eq_true rfl, Nat.le_of_ble_eq_true rfl⟩) (z_preV (ci := 3) hK hP hD rfl rfl) rfl rfl hl.1 rfl (lv_room (Nat.le_of_ble_eq_true rfl)) dX3_run_71 ⟨Nat.zero_le _, Nat.zero_le _⟩) hP hD hS moW_adr rfl (fun H locs hP9 hD9 hS9 => ?_)
                replace hP : va_P D vwCl (moW cA a (f_X3_does M1 ((M1 4 2).toNatClampNeg % 6) ((M1 4 3).toNatClampNeg % 6)) N1 h) H := hP9
                replace hD : va_D _ (moW cA a (f_X3_does M1 ((M1 4 2).toNatClampNeg % 6) ((M1 4 3).toNatClampNeg % 6)) N1 h) := hD9
                replace hS := hS9
                clear hP9 hD9 hS9
                obtain ⟨M_27, eM_27⟩ : ∃ z9 : BK, z9 = f_X3_does M1 ((M1 4 2).toNatClampNeg % 6) ((M1 4 3).toNatClampNeg % 6) := ⟨_, rfl⟩
                rw [← eM_27] at hP hD
                refine lv_iload_n hx hb dX3_run_74 rfl (lv_at hl 1 rfl) ?_
                refine lv_aload_n hx hb dX3_run_75 rfl (lv_at hl 0 rfl) ?_
                refine va_get (D := D) (ci := 3) (v := .ref (a 1)) (C := RX3) (T := TX3) (N := 14) hx hb hts hi3 hown hK hP 0 rfl rfl 1 (by decide) (hts (.fieldLink RX3 7 "PledgedLoansModel" "s" "[I") (List.mem_of_getElem? (i := 2) rfl)) (fun _ h9 => h9) rfl dX3_run_76 ?_
                refine lv_bipush (v := 6) hx hb dX3_run_79 (by decide) ?_
                refine z_iald (j := 6) hx hb hK hP 1 0 rfl rfl dX3_run_81 (by omega) (by decide) ?_
                refine lv_iload_n hx hb dX3_run_82 rfl (lv_at hl 2 rfl) ?_
                refine lv_icmp_ne (tgt := 90) hx hb dX3_run_83 (by decide) (fun c_28 => ?_) (fun c_28 => ?_)
                · refine lv_iconst (v := 0) hx hb dX3_run_90 (by decide) ?_
                  refine lv_iadd hx hb dX3_run_91 ?_
                  refine z_top (nI_add q 0) ?_
                  refine lv_istore_n (lv' := [(1, .int (nI (q + 0))), (0, .ref (a 0)), (2, .int rf), (3, .int g)]) hx hb dX3_run_92 rfl hl (by decide) rfl (fun ls hl => ?_)
                  refine lv_aload_n hx hb dX3_run_93 rfl (lv_at hl 1 rfl) ?_
                  refine va_get (D := D) (ci := 3) (v := .ref (a 1)) (C := RX3) (T := TX3) (N := 14) hx hb hts hi3 hown hK hP 0 rfl rfl 1 (by decide) (hts (.fieldLink RX3 7 "PledgedLoansModel" "s" "[I") (List.mem_of_getElem? (i := 2) rfl)) (fun _ h9 => h9) rfl dX3_run_94 ?_
                  refine lv_bipush (v := 6) hx hb dX3_run_97 (by decide) ?_
                  refine z_iald (j := 6) hx hb hK hP 1 0 rfl rfl dX3_run_99 (by omega) (by decide) ?_
                  refine lv_iload_n hx hb dX3_run_100 rfl (lv_at hl 2 rfl) ?_
                  refine lv_icmp_ne (tgt := 124) hx hb dX3_run_101 (by decide) (fun c_29 => ?_) (fun c_29 => ?_)
                  · refine lv_iconst (v := 0) hx hb dX3_run_124 (by decide) ?_
                    refine lv_istore_n (lv' := [(3, .int 0), (1, .int (nI (q + 0))), (0, .ref (a 0)), (2, .int rf)]) hx hb dX3_run_125 rfl hl (by decide) rfl (fun ls hl => ?_)
                    refine lv_goto (tgt := 45) hx hb dX3_run_126 (by decide) ?_
                    exact ih_45 (q + 0) rf 0 M_27 N1 (by have hz1 := zg_1 c_13; have hz2 : zg 0 = 0 := rfl; have hz3 : zg 1 = 1 := rfl; omega) (by omega) (by omega) (by first | (intro h9; exact absurd rfl h9) | (intro h9; subst eM_27 eN_12 eM_11 eN_9 eM_8 eM_6 eN_2 eM_1; exact zval_ro _ _ (by assumption))) (by subst eM_27 eN_12 eM_11 eN_9 eM_8 eM_6 eN_2 eM_1; rw [hres_45]; simp only [f_X3_run_45, if_neg c_13, if_pos c_15, if_neg c_25, if_neg c_28]) _ _ hP hD hS ls (lv_sub hl [2, 1, 3, 0] rfl)
                  · exact absurd c_29 c_28
                · refine lv_iconst (v := 1) hx hb dX3_run_86 (by decide) ?_
                  refine lv_goto (tgt := 91) hx hb dX3_run_87 (by decide) ?_
                  refine lv_iadd hx hb dX3_run_91 ?_
                  refine z_top (nI_add q 1) ?_
                  refine lv_istore_n (lv' := [(1, .int (nI (q + 1))), (0, .ref (a 0)), (2, .int rf), (3, .int g)]) hx hb dX3_run_92 rfl hl (by decide) rfl (fun ls hl => ?_)
                  refine lv_aload_n hx hb dX3_run_93 rfl (lv_at hl 1 rfl) ?_
                  refine va_get (D := D) (ci := 3) (v := .ref (a 1)) (C := RX3) (T := TX3) (N := 14) hx hb hts hi3 hown hK hP 0 rfl rfl 1 (by decide) (hts (.fieldLink RX3 7 "PledgedLoansModel" "s" "[I") (List.mem_of_getElem? (i := 2) rfl)) (fun _ h9 => h9) rfl dX3_run_94 ?_
                  refine lv_bipush (v := 6) hx hb dX3_run_97 (by decide) ?_
                  refine z_iald (j := 6) hx hb hK hP 1 0 rfl rfl dX3_run_99 (by omega) (by decide) ?_
                  refine lv_iload_n hx hb dX3_run_100 rfl (lv_at hl 2 rfl) ?_
                  refine lv_icmp_ne (tgt := 124) hx hb dX3_run_101 (by decide) (fun c_30 => ?_) (fun c_30 => ?_)
                  · exact absurd c_28 c_30
                  · refine lv_aload_n hx hb dX3_run_104 rfl (lv_at hl 1 rfl) ?_
                    refine lv_bipush (v := 59) hx hb dX3_run_105 (by decide) ?_
                    refine z_M (X := ([] : va_W)) (Z := ([] : va_W)) (va_runV (As := [.int 59]) (rest := []) ⟨hx, hb, hml, hown, hts⟩ (zc_X3_takesSign l D cA a M_27 N1 h 59 (by exact (show (N1 1) ≤ 60 by omega)) (by exact (show (N1 2) ≤ (N1 1) by omega))) (cwV 1 hts gX3_run_X3_takesSign rfl rfl rfl zy_X3_takesSign ⟨Nat.le_of_ble_eq_true rfl, Nat.le_of_ble_eq_true rfl⟩) (z_preV (ci := 3) hK hP hD rfl rfl) rfl rfl hl.1 rfl (lv_room (Nat.le_of_ble_eq_true rfl)) dX3_run_107 ⟨Nat.zero_le _, Nat.zero_le _⟩) hP hD hS moW_adr rfl (fun H locs hP9 hD9 hS9 => ?_)
                    replace hP : va_P D vwCl (moW cA a M_27 ((f_X3_takesSign M_27 N1 59).2) h) H := hP9
                    replace hD : va_D _ (moW cA a M_27 ((f_X3_takesSign M_27 N1 59).2) h) := hD9
                    replace hS := hS9
                    clear hP9 hD9 hS9
                    obtain ⟨N_31, eN_31⟩ : ∃ z9 : Nat → Nat, z9 = (f_X3_takesSign M_27 N1 59).2 := ⟨_, rfl⟩
                    rw [← eN_31] at hP hD
                    have hlN_31 : N_31 1 = (N1 1) ∧ N_31 0 = (N1 0) ∧ ((N1 2) ≤ (N1 1) → (N1 2) ≤ N_31 2 ∧ N_31 2 ≤ (N1 1)) := by rw [eN_31]; exact (zn_X3_takesSign M_27 N1 59 (by decide))
                    refine lv_if_eq (tgt := 124) hx hb dX3_run_110 (by decide) (fun c_32 => ?_) (fun c_32 => ?_)
                    · refine lv_iconst (v := 0) hx hb dX3_run_124 (by decide) ?_
                      refine lv_istore_n (lv' := [(3, .int 0), (1, .int (nI (q + 1))), (0, .ref (a 0)), (2, .int rf)]) hx hb dX3_run_125 rfl hl (by decide) rfl (fun ls hl => ?_)
                      refine lv_goto (tgt := 45) hx hb dX3_run_126 (by decide) ?_
                      exact ih_45 (q + 1) rf 0 M_27 N_31 (by have hz1 := zg_1 c_13; have hz2 : zg 0 = 0 := rfl; have hz3 : zg 1 = 1 := rfl; omega) (by omega) (by omega) (by first | (intro h9; exact absurd rfl h9) | (intro h9; subst eN_31 eM_27 eN_12 eM_11 eN_9 eM_8 eM_6 eN_2 eM_1; exact zval_ro _ _ (by assumption))) (by subst eN_31 eM_27 eN_12 eM_11 eN_9 eM_8 eM_6 eN_2 eM_1; rw [hres_45]; simp only [f_X3_run_45, if_neg c_13, if_pos c_15, if_neg c_25, if_pos c_28, if_pos c_32]) _ _ hP hD hS ls (lv_sub hl [2, 1, 3, 0] rfl)
                    · obtain ⟨hk1, hk2⟩ := zn_took (by decide) c_32; rw [← eN_31] at hk2
                      refine lv_aload_n hx hb dX3_run_113 rfl (lv_at hl 1 rfl) ?_
                      refine z_M (X := ([] : va_W)) (Z := ([] : va_W)) (va_runV (As := []) (rest := []) ⟨hx, hb, hml, hown, hts⟩ (zc_X3_readsOrder l D cA a M_27 N_31 h (by exact (show (N_31 1) ≤ 60 by omega)) (by exact (show (N_31 2) ≤ (N_31 1) by omega))) (cwV 0 hts gX3_run_X3_readsOrder rfl rfl rfl zy_X3_readsOrder ⟨Nat.le_of_ble_eq_true rfl, Nat.le_of_ble_eq_true rfl⟩) (z_preV (ci := 3) hK hP hD rfl rfl) rfl rfl hl.1 rfl (lv_room (Nat.le_of_ble_eq_true rfl)) dX3_run_114 ⟨Nat.zero_le _, Nat.zero_le _⟩) hP hD hS moW_adr rfl (fun H locs hP9 hD9 hS9 => ?_)
                      replace hP : va_P D vwCl (moW cA a ((f_X3_readsOrder M_27 N_31).2.1) ((f_X3_readsOrder M_27 N_31).2.2) h) H := hP9
                      replace hD : va_D _ (moW cA a ((f_X3_readsOrder M_27 N_31).2.1) ((f_X3_readsOrder M_27 N_31).2.2) h) := hD9
                      replace hS := hS9
                      clear hP9 hD9 hS9
                      obtain ⟨M_33, eM_33⟩ : ∃ z9 : BK, z9 = (f_X3_readsOrder M_27 N_31).2.1 := ⟨_, rfl⟩
                      rw [← eM_33] at hP hD
                      obtain ⟨N_34, eN_34⟩ : ∃ z9 : Nat → Nat, z9 = (f_X3_readsOrder M_27 N_31).2.2 := ⟨_, rfl⟩
                      rw [← eN_34] at hP hD
                      have hlN_34 : N_34 1 = (N_31 1) ∧ N_34 0 = (N_31 0) ∧ ((N_31 2) ≤ (N_31 1) → (N_31 2) ≤ N_34 2 ∧ N_34 2 ≤ (N_31 1)) := by rw [eN_34]; exact (zn_X3_readsOrder M_27 N_31)
                      refine lv_if_eq (tgt := 124) hx hb dX3_run_117 (by decide) (fun c_35 => ?_) (fun c_35 => ?_)
                      · refine lv_iconst (v := 0) hx hb dX3_run_124 (by decide) ?_
                        refine lv_istore_n (lv' := [(3, .int 0), (1, .int (nI (q + 1))), (0, .ref (a 0)), (2, .int rf)]) hx hb dX3_run_125 rfl hl (by decide) rfl (fun ls hl => ?_)
                        refine lv_goto (tgt := 45) hx hb dX3_run_126 (by decide) ?_
                        exact ih_45 (q + 1) rf 0 M_33 N_34 (by have hz1 := zg_1 c_13; have hz2 : zg 0 = 0 := rfl; have hz3 : zg 1 = 1 := rfl; omega) (by omega) (by omega) (by first | (intro h9; exact absurd rfl h9) | (intro h9; subst eN_34 eM_33 eN_31 eM_27 eN_12 eM_11 eN_9 eM_8 eM_6 eN_2 eM_1; exact zval_ro _ _ (by assumption))) (by subst eN_34 eM_33 eN_31 eM_27 eN_12 eM_11 eN_9 eM_8 eM_6 eN_2 eM_1; rw [hres_45]; simp only [f_X3_run_45, if_neg c_13, if_pos c_15, if_neg c_25, if_pos c_28, if_neg c_32, if_pos c_35]) _ _ hP hD hS ls (lv_sub hl [2, 1, 3, 0] rfl)
                      · refine lv_iconst (v := 1) hx hb dX3_run_120 (by decide) ?_
                        refine lv_goto (tgt := 125) hx hb dX3_run_121 (by decide) ?_
                        refine lv_istore_n (lv' := [(3, .int 1), (1, .int (nI (q + 1))), (0, .ref (a 0)), (2, .int rf)]) hx hb dX3_run_125 rfl hl (by decide) rfl (fun ls hl => ?_)
                        refine lv_goto (tgt := 45) hx hb dX3_run_126 (by decide) ?_
                        exact ih_45 (q + 1) rf 1 M_33 N_34 (by have hz1 := zg_1 c_13; have hz2 : zg 0 = 0 := rfl; have hz3 : zg 1 = 1 := rfl; omega) (by omega) (by omega) (by first | (intro h9; exact absurd rfl h9) | (intro h9; subst eN_34 eM_33 eN_31 eM_27 eN_12 eM_11 eN_9 eM_8 eM_6 eN_2 eM_1; exact zval_ro _ _ (by assumption))) (by subst eN_34 eM_33 eN_31 eM_27 eN_12 eM_11 eN_9 eM_8 eM_6 eN_2 eM_1; rw [hres_45]; simp only [f_X3_run_45, if_neg c_13, if_pos c_15, if_neg c_25, if_pos c_28, if_neg c_32, if_neg c_35]) _ _ hP hD hS ls (lv_sub hl [2, 1, 3, 0] rfl)
      exact loop_45 130 0 (M_8 0 6) ((f_X3_readsOrder M_8 (va_up N_9 2 0)).1) M_11 N_12 (by exact Nat.lt_of_le_of_lt (Nat.add_le_add_left (zg_le _) _) (by omega)) (by omega) (by omega) (by intro h9; subst eN_12 eM_11 eN_9 eM_8 eM_6 eN_2 eM_1; exact zval_ro _ _ h9) (by subst eN_12 eM_11 eN_9 eM_8 eM_6 eN_2 eM_1; simp only [f_X3_run, if_neg c_3]) _ _ hP hD hS ls (lv_sub hl [3, 2, 1, 0] rfl)
    · exact absurd c_7 (by decide)

