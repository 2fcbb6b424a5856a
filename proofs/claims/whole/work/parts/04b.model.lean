theorem zy_X3_thrown : yX3_thrown.cls = RX3 ∧ yX3_thrown.cls ≠ "java/lang/invoke/MethodHandle" ∧ yX3_thrown.cls ≠ "java/lang/invoke/VarHandle" ∧ (parseMethodDescriptor yX3_thrown.desc).map (fun d => d.parameters.length) = some 0 := by decide +kernel
def f_X3_thrown (M : BK) : Int32 :=
  M 4 0

set_option maxHeartbeats 4000000 in
set_option maxRecDepth 100000 in
theorem zc_X3_thrown (l : Launch) (D : va_G) (cA : Nat → ClassId) (a : Nat → Nat) (M : BK) (N : Nat → Nat) (h : Int64)  : Met l yX3_thrown wsX3_thrown (zrm 0 0) (zPc D cA [.ref (a 0)] (moW cA a M N h)) (zE (some (.int (f_X3_thrown M)))) 0 0 (fun _ => False) := by
  refine Met.ofW (cc := cX3_thrown) (maxL := 1) (ret := (some .int)) (by decide) rfl ?_
  intro p e s m args below meth c s₁ Bd hml hv
  obtain ⟨rfl, hP, hK, hD0⟩ := hv
  have hx := Bd.exec
  have hb := Bd.bytes
  have hr := Bd.returns
  have hts := atoms_spec (ws := wsX3_thrown) Bd.pre
  have hown : s.vm.findClass RX3 = some m.cls := findClass_of_methodNamed Bd.named
  have hlocks := Bd.notSynchronized
  have hD := z_Dfr hD0
  have hS : va_S (zfr (moW cA a M N h)) s.heap s.heap [] := va_S.rf
  have hi3 : ∀ w ∈ wsX30, w ∈ wsX3_thrown := fun w h => List.mem_cons_of_mem _ (List.mem_append_right _ h)
  have hl := lv_entry ([.ref (a 0)]) (n := 1) (Nat.le_of_ble_eq_true rfl)
  rw [lg_entry_eq]
  generalize (lg_sl ([.ref (a 0)]) ++ List.replicate (1 - (lg_sl ([.ref (a 0)])).length) Slot.unset).toArray = ls at hl ⊢
  have hl : lv_has ls 1 [(0, .ref (a 0))] := hl
  refine lv_aload_n hx hb dX3_thrown_0 rfl (lv_at hl 0 rfl) ?_
  refine va_get (D := D) (ci := 3) (v := .int (M 4 0)) (C := RX3) (T := TX3) (N := 14) hx hb hts hi3 hown hK hP 0 rfl rfl 0 (by decide) (hts (.fieldLink RX3 23 "PledgedLoansModel" "thrown" "I") (List.mem_of_getElem? (i := 1) rfl)) (fun _ h9 => h9) rfl dX3_thrown_1 ?_
  exact z_iretE hx hb hr hlocks dX3_thrown_4 (by first | (simp only [f_X3_thrown]; done) | rfl)

theorem zy_X3_in : yX3_in.cls = RX3 ∧ yX3_in.cls ≠ "java/lang/invoke/MethodHandle" ∧ yX3_in.cls ≠ "java/lang/invoke/VarHandle" ∧ (parseMethodDescriptor yX3_in.desc).map (fun d => d.parameters.length) = some 3 := by decide +kernel
def f_X3_in (iv : Int32) (lw : Int32) (hw : Int32) : Int32 :=
  if iv < lw then
    0
  else
    if hw < iv then
      0
    else
      1

theorem zb_X3_in (iv : Int32) (lw : Int32) (hw : Int32) : narrow .boolean (.int (f_X3_in iv lw hw)) = .int (f_X3_in iv lw hw) := by
  unfold f_X3_in; repeat' split
  all_goals (first | rfl | (dsimp only; rfl))
set_option maxHeartbeats 4000000 in
set_option maxRecDepth 100000 in
theorem zc_X3_in (l : Launch) (D : va_G) (cA : Nat → ClassId) (iv : Int32) (lw : Int32) (hw : Int32)  : Met l yX3_in wsX3_in (zrm 0 0) (zPc D cA [.int iv, .int lw, .int hw] (([] : va_W))) (zE (some (.int (f_X3_in iv lw hw)))) 0 0 (fun _ => False) := by
  refine Met.ofW (cc := cX3_in) (maxL := 3) (ret := (some .boolean)) (by decide) rfl ?_
  intro p e s m args below meth c s₁ Bd hml hv
  obtain ⟨rfl, hP, hK, hD0⟩ := hv
  have hx := Bd.exec
  have hb := Bd.bytes
  have hr := Bd.returns
  have hts := atoms_spec (ws := wsX3_in) Bd.pre
  have hown : s.vm.findClass RX3 = some m.cls := findClass_of_methodNamed Bd.named
  have hlocks := Bd.notSynchronized
  have hD := z_Dfr hD0
  have hS : va_S (zfr (([] : va_W))) s.heap s.heap [] := va_S.rf
  have hl := lv_entry ([.int iv, .int lw, .int hw]) (n := 3) (Nat.le_of_ble_eq_true rfl)
  rw [lg_entry_eq]
  generalize (lg_sl ([.int iv, .int lw, .int hw]) ++ List.replicate (3 - (lg_sl ([.int iv, .int lw, .int hw])).length) Slot.unset).toArray = ls at hl ⊢
  have hl : lv_has ls 3 [(0, .int iv), (1, .int lw), (2, .int hw)] := hl
  refine lv_iload_n hx hb dX3_in_0 rfl (lv_at hl 0 rfl) ?_
  refine lv_iload_n hx hb dX3_in_1 rfl (lv_at hl 1 rfl) ?_
  refine lv_icmp_lt (tgt := 14) hx hb dX3_in_2 (by decide) (fun c_1 => ?_) (fun c_1 => ?_)
  · refine lv_iconst (v := 0) hx hb dX3_in_14 (by decide) ?_
    exact z_zretE hx hb hr hlocks dX3_in_15 rfl (by simp only [f_X3_in, if_pos c_1])
  · refine lv_iload_n hx hb dX3_in_5 rfl (lv_at hl 0 rfl) ?_
    refine lv_iload_n hx hb dX3_in_6 rfl (lv_at hl 2 rfl) ?_
    refine lv_icmp_gt (tgt := 14) hx hb dX3_in_7 (by decide) (fun c_2 => ?_) (fun c_2 => ?_)
    · refine lv_iconst (v := 0) hx hb dX3_in_14 (by decide) ?_
      exact z_zretE hx hb hr hlocks dX3_in_15 rfl (by simp only [f_X3_in, if_neg c_1, if_pos c_2])
    · refine lv_iconst (v := 1) hx hb dX3_in_10 (by decide) ?_
      refine lv_goto (tgt := 15) hx hb dX3_in_11 (by decide) ?_
      exact z_zretE hx hb hr hlocks dX3_in_15 rfl (by simp only [f_X3_in, if_neg c_1, if_neg c_2])

theorem zy_X3_holds : yX3_holds.cls = RX3 ∧ yX3_holds.cls ≠ "java/lang/invoke/MethodHandle" ∧ yX3_holds.cls ≠ "java/lang/invoke/VarHandle" ∧ (parseMethodDescriptor yX3_holds.desc).map (fun d => d.parameters.length) = some 1 := by decide +kernel
def f_X3_holds (M : BK) (pl : Int32) : Int32 × BK :=
  if pl = 0 then
    (1, uB M 4 0 pl)
  else
    (0, uB M 4 0 pl)

theorem zb_X3_holds (M : BK) (pl : Int32) : narrow .boolean (.int ((f_X3_holds M pl).1)) = .int ((f_X3_holds M pl).1) := by
  unfold f_X3_holds; repeat' split
  all_goals (first | rfl | (dsimp only; rfl))
set_option maxHeartbeats 4000000 in
set_option maxRecDepth 100000 in
theorem zc_X3_holds (l : Launch) (D : va_G) (cA : Nat → ClassId) (a : Nat → Nat) (M : BK) (N : Nat → Nat) (h : Int64) (pl : Int32)  : Met l yX3_holds wsX3_holds (zrm 0 0) (zPc D cA [.ref (a 0), .int pl] (moW cA a M N h)) (zM D (moW cA a M N h) (moW cA a ((f_X3_holds M pl).2) N h) (some (.int ((f_X3_holds M pl).1)))) 0 0 (zfr (moW cA a M N h)) := by
  refine Met.ofW (cc := cX3_holds) (maxL := 2) (ret := (some .boolean)) (by decide) rfl ?_
  intro p e s m args below meth c s₁ Bd hml hv
  obtain ⟨rfl, hP, hK, hD0⟩ := hv
  have hx := Bd.exec
  have hb := Bd.bytes
  have hr := Bd.returns
  have hts := atoms_spec (ws := wsX3_holds) Bd.pre
  have hown : s.vm.findClass RX3 = some m.cls := findClass_of_methodNamed Bd.named
  have hlocks := Bd.notSynchronized
  have hD := z_Dfr hD0
  have hS : va_S (zfr (moW cA a M N h)) s.heap s.heap [] := va_S.rf
  have hi3 : ∀ w ∈ wsX30, w ∈ wsX3_holds := fun w h => List.mem_cons_of_mem _ (List.mem_append_right _ h)
  have hl := lv_entry ([.ref (a 0), .int pl]) (n := 2) (Nat.le_of_ble_eq_true rfl)
  rw [lg_entry_eq]
  generalize (lg_sl ([.ref (a 0), .int pl]) ++ List.replicate (2 - (lg_sl ([.ref (a 0), .int pl])).length) Slot.unset).toArray = ls at hl ⊢
  have hl : lv_has ls 2 [(0, .ref (a 0)), (1, .int pl)] := hl
  refine lv_aload_n hx hb dX3_holds_0 rfl (lv_at hl 0 rfl) ?_
  refine lv_iload_n hx hb dX3_holds_1 rfl (lv_at hl 1 rfl) ?_
  refine va_put (D := D) (ci := 3) (v := .int pl) (ty := .int) (C := RX3) (T := TX3) (N := 14) hx hb hts hi3 tyX3 tyX3_ok nmX3 hown hK hP hD hS 0 rfl rfl 0 (by decide) (hts (.fieldLink RX3 23 "PledgedLoansModel" "thrown" "I") (List.mem_of_getElem? (i := 1) rfl)) (fun _ h9 => h9) rfl (by decide +kernel) rfl rfl (Nat.le_of_ble_eq_true rfl) dX3_holds_2 (fun H locs hP hD hS => ?_)
  have hP : va_P D vwCl (moW cA a (uB M 4 0 pl) N h) H := hP
  have hD : va_D _ (moW cA a (uB M 4 0 pl) N h) := hD
  refine lv_iload_n hx hb dX3_holds_5 rfl (lv_at hl 1 rfl) ?_
  refine lv_if_ne (tgt := 13) hx hb dX3_holds_6 (by decide) (fun c_1 => ?_) (fun c_1 => ?_)
  · refine lv_iconst (v := 0) hx hb dX3_holds_13 (by decide) ?_
    exact z_zretM (w1 := moW cA a (uB M 4 0 pl) N h) hx hb hr hlocks dX3_holds_14 hP hS rfl (by simp only [f_X3_holds, if_neg c_1]) (by simp only [f_X3_holds, if_neg c_1])
  · refine lv_iconst (v := 1) hx hb dX3_holds_9 (by decide) ?_
    refine lv_goto (tgt := 14) hx hb dX3_holds_10 (by decide) ?_
    exact z_zretM (w1 := moW cA a (uB M 4 0 pl) N h) hx hb hr hlocks dX3_holds_14 hP hS rfl (by simp only [f_X3_holds, if_pos c_1]) (by simp only [f_X3_holds, if_pos c_1])

theorem zy_X3_isMember : yX3_isMember.cls = RX3 ∧ yX3_isMember.cls ≠ "java/lang/invoke/MethodHandle" ∧ yX3_isMember.cls ≠ "java/lang/invoke/VarHandle" ∧ (parseMethodDescriptor yX3_isMember.desc).map (fun d => d.parameters.length) = some 1 := by decide +kernel
def f_X3_isMember (i1 : Int32) : Int32 :=
  f_X3_in i1 0 5

theorem zb_X3_isMember (i1 : Int32) : narrow .boolean (.int (f_X3_isMember i1)) = .int (f_X3_isMember i1) := by
  exact zb_X3_in i1 0 5
set_option maxHeartbeats 4000000 in
set_option maxRecDepth 100000 in
theorem zc_X3_isMember (l : Launch) (D : va_G) (cA : Nat → ClassId) (i1 : Int32)  : Met l yX3_isMember wsX3_isMember (zrm 1 22) (zPc D cA [.int i1] (([] : va_W))) (zE (some (.int (f_X3_isMember i1)))) 0 0 (fun _ => False) := by
  refine Met.ofW (cc := cX3_isMember) (maxL := 1) (ret := (some .boolean)) (by decide) rfl ?_
  intro p e s m args below meth c s₁ Bd hml hv
  obtain ⟨rfl, hP, hK, hD0⟩ := hv
  have hx := Bd.exec
  have hb := Bd.bytes
  have hr := Bd.returns
  have hts := atoms_spec (ws := wsX3_isMember) Bd.pre
  have hown : s.vm.findClass RX3 = some m.cls := findClass_of_methodNamed Bd.named
  have hlocks := Bd.notSynchronized
  have hD := z_Dfr hD0
  have hS : va_S (zfr (([] : va_W))) s.heap s.heap [] := va_S.rf
  have hl := lv_entry ([.int i1]) (n := 1) (Nat.le_of_ble_eq_true rfl)
  rw [lg_entry_eq]
  generalize (lg_sl ([.int i1]) ++ List.replicate (1 - (lg_sl ([.int i1])).length) Slot.unset).toArray = ls at hl ⊢
  have hl : lv_has ls 1 [(0, .int i1)] := hl
  refine lv_iload_n hx hb dX3_isMember_0 rfl (lv_at hl 0 rfl) ?_
  refine lv_iconst (v := 0) hx hb dX3_isMember_1 (by decide) ?_
  refine lv_iconst (v := 5) hx hb dX3_isMember_2 (by decide) ?_
  refine z_E (va_runS (As := [.int i1, .int 0, .int 5]) (rest := []) ⟨hx, hb, hml, hown, hts⟩ (zc_X3_in l D cA i1 0 5) (va_cwS 3 hts gX3_isMember_X3_in rfl rfl rfl zy_X3_in.2 ⟨Nat.le_of_ble_eq_true rfl, Nat.le_of_ble_eq_true rfl⟩) (z_preS hK z_P0 (z_D0 (A := fun _ => True))) rfl rfl hl.1 rfl (lv_room (Nat.le_of_ble_eq_true rfl)) dX3_isMember_3 ⟨Nat.zero_le _, Nat.zero_le _⟩) rfl ?_
  exact z_zretE hx hb hr hlocks dX3_isMember_6 (zb_X3_in i1 0 5) (by first | (simp only [f_X3_isMember]; done) | rfl)

theorem zy_X3_isAmount : yX3_isAmount.cls = RX3 ∧ yX3_isAmount.cls ≠ "java/lang/invoke/MethodHandle" ∧ yX3_isAmount.cls ≠ "java/lang/invoke/VarHandle" ∧ (parseMethodDescriptor yX3_isAmount.desc).map (fun d => d.parameters.length) = some 1 := by decide +kernel
def f_X3_isAmount (i1 : Int32) : Int32 :=
  f_X3_in i1 1 9999

theorem zb_X3_isAmount (i1 : Int32) : narrow .boolean (.int (f_X3_isAmount i1)) = .int (f_X3_isAmount i1) := by
  exact zb_X3_in i1 1 9999
set_option maxHeartbeats 4000000 in
set_option maxRecDepth 100000 in
theorem zc_X3_isAmount (l : Launch) (D : va_G) (cA : Nat → ClassId) (i1 : Int32)  : Met l yX3_isAmount wsX3_isAmount (zrm 1 22) (zPc D cA [.int i1] (([] : va_W))) (zE (some (.int (f_X3_isAmount i1)))) 0 0 (fun _ => False) := by
  refine Met.ofW (cc := cX3_isAmount) (maxL := 1) (ret := (some .boolean)) (by decide) rfl ?_
  intro p e s m args below meth c s₁ Bd hml hv
  obtain ⟨rfl, hP, hK, hD0⟩ := hv
  have hx := Bd.exec
  have hb := Bd.bytes
  have hr := Bd.returns
  have hts := atoms_spec (ws := wsX3_isAmount) Bd.pre
  have hown : s.vm.findClass RX3 = some m.cls := findClass_of_methodNamed Bd.named
  have hlocks := Bd.notSynchronized
  have hD := z_Dfr hD0
  have hS : va_S (zfr (([] : va_W))) s.heap s.heap [] := va_S.rf
  have hl := lv_entry ([.int i1]) (n := 1) (Nat.le_of_ble_eq_true rfl)
  rw [lg_entry_eq]
  generalize (lg_sl ([.int i1]) ++ List.replicate (1 - (lg_sl ([.int i1])).length) Slot.unset).toArray = ls at hl ⊢
  have hl : lv_has ls 1 [(0, .int i1)] := hl
  refine lv_iload_n hx hb dX3_isAmount_0 rfl (lv_at hl 0 rfl) ?_
  refine lv_iconst (v := 1) hx hb dX3_isAmount_1 (by decide) ?_
  refine lv_sipush (v := 9999) hx hb dX3_isAmount_2 (by decide) ?_
  refine z_E (va_runS (As := [.int i1, .int 1, .int 9999]) (rest := []) ⟨hx, hb, hml, hown, hts⟩ (zc_X3_in l D cA i1 1 9999) (va_cwS 3 hts gX3_isAmount_X3_in rfl rfl rfl zy_X3_in.2 ⟨Nat.le_of_ble_eq_true rfl, Nat.le_of_ble_eq_true rfl⟩) (z_preS hK z_P0 (z_D0 (A := fun _ => True))) rfl rfl hl.1 rfl (lv_room (Nat.le_of_ble_eq_true rfl)) dX3_isAmount_5 ⟨Nat.zero_le _, Nat.zero_le _⟩) rfl ?_
  exact z_zretE hx hb hr hlocks dX3_isAmount_8 (zb_X3_in i1 1 9999) (by first | (simp only [f_X3_isAmount]; done) | rfl)

theorem zy_X3_of : yX3_of.cls = RX3 ∧ yX3_of.cls ≠ "java/lang/invoke/MethodHandle" ∧ yX3_of.cls ≠ "java/lang/invoke/VarHandle" ∧ (parseMethodDescriptor yX3_of.desc).map (fun d => d.parameters.length) = some 2 := by decide +kernel
def f_X3_of (M : BK) (mb : Nat) (wt : Nat) : Int32 :=
  M 0 ((10 + (6 * mb)) + wt)

set_option maxHeartbeats 4000000 in
set_option maxRecDepth 100000 in
theorem zc_X3_of (l : Launch) (D : va_G) (cA : Nat → ClassId) (a : Nat → Nat) (M : BK) (N : Nat → Nat) (h : Int64) (mb : Nat) (wt : Nat) (hmb : mb < 6) (hwt : wt < 6) : Met l yX3_of wsX3_of (zrm 0 0) (zPc D cA [.ref (a 0), .int (nI mb), .int (nI wt)] (moW cA a M N h)) (zE (some (.int (f_X3_of M mb wt)))) 0 0 (fun _ => False) := by
  refine Met.ofW (cc := cX3_of) (maxL := 3) (ret := (some .int)) (by decide) rfl ?_
  intro p e s m args below meth c s₁ Bd hml hv
  obtain ⟨rfl, hP, hK, hD0⟩ := hv
  have hx := Bd.exec
  have hb := Bd.bytes
  have hr := Bd.returns
  have hts := atoms_spec (ws := wsX3_of) Bd.pre
  have hown : s.vm.findClass RX3 = some m.cls := findClass_of_methodNamed Bd.named
  have hlocks := Bd.notSynchronized
  have hD := z_Dfr hD0
  have hS : va_S (zfr (moW cA a M N h)) s.heap s.heap [] := va_S.rf
  have hi3 : ∀ w ∈ wsX30, w ∈ wsX3_of := fun w h => List.mem_cons_of_mem _ (List.mem_append_right _ h)
  have hl := lv_entry ([.ref (a 0), .int (nI mb), .int (nI wt)]) (n := 3) (Nat.le_of_ble_eq_true rfl)
  rw [lg_entry_eq]
  generalize (lg_sl ([.ref (a 0), .int (nI mb), .int (nI wt)]) ++ List.replicate (3 - (lg_sl ([.ref (a 0), .int (nI mb), .int (nI wt)])).length) Slot.unset).toArray = ls at hl ⊢
  have hl : lv_has ls 3 [(0, .ref (a 0)), (1, .int (nI mb)), (2, .int (nI wt))] := hl
  refine lv_aload_n hx hb dX3_of_0 rfl (lv_at hl 0 rfl) ?_
  refine va_get (D := D) (ci := 3) (v := .ref (a 1)) (C := RX3) (T := TX3) (N := 14) hx hb hts hi3 hown hK hP 0 rfl rfl 1 (by decide) (hts (.fieldLink RX3 7 "PledgedLoansModel" "s" "[I") (List.mem_of_getElem? (i := 1) rfl)) (fun _ h9 => h9) rfl dX3_of_1 ?_
  refine lv_bipush (v := 10) hx hb dX3_of_4 (by decide) ?_
  refine lv_bipush (v := 6) hx hb dX3_of_6 (by decide) ?_
  refine lv_iload_n hx hb dX3_of_8 rfl (lv_at hl 1 rfl) ?_
  refine lv_imul hx hb dX3_of_9 ?_
  refine z_top (pk_mul 6 mb) ?_
  refine lv_iadd hx hb dX3_of_10 ?_
  refine z_top (nI_add 10 (6 * mb)) ?_
  refine lv_iload_n hx hb dX3_of_11 rfl (lv_at hl 2 rfl) ?_
  refine lv_iadd hx hb dX3_of_12 ?_
  refine z_top (nI_add (10 + (6 * mb)) wt) ?_
  refine z_iald (j := (10 + (6 * mb)) + wt) hx hb hK hP 1 0 rfl rfl dX3_of_13 (by omega) (by decide) ?_
  exact z_iretE hx hb hr hlocks dX3_of_14 (by first | (simp only [f_X3_of]; done) | rfl)

theorem zy_X3_adds : yX3_adds.cls = RX3 ∧ yX3_adds.cls ≠ "java/lang/invoke/MethodHandle" ∧ yX3_adds.cls ≠ "java/lang/invoke/VarHandle" ∧ (parseMethodDescriptor yX3_adds.desc).map (fun d => d.parameters.length) = some 3 := by decide +kernel
def f_X3_adds (M : BK) (mb : Nat) (wt : Nat) (by_ : Int32) : BK :=
  let M_1 : BK := uB M 0 ((10 + (6 * mb)) + wt) ((M 0 ((10 + (6 * mb)) + wt)) + by_)
  M_1

set_option maxHeartbeats 4000000 in
set_option maxRecDepth 100000 in
theorem zc_X3_adds (l : Launch) (D : va_G) (cA : Nat → ClassId) (a : Nat → Nat) (M : BK) (N : Nat → Nat) (h : Int64) (mb : Nat) (wt : Nat) (by_ : Int32) (hmb : mb < 6) (hwt : wt < 6) : Met l yX3_adds wsX3_adds (zrm 0 0) (zPc D cA [.ref (a 0), .int (nI mb), .int (nI wt), .int by_] (moW cA a M N h)) (zM D (moW cA a M N h) (moW cA a (f_X3_adds M mb wt by_) N h) none) 0 0 (zfr (moW cA a M N h)) := by
  refine Met.ofW (cc := cX3_adds) (maxL := 4) (ret := none) (by decide) rfl ?_
  intro p e s m args below meth c s₁ Bd hml hv
  obtain ⟨rfl, hP, hK, hD0⟩ := hv
  have hx := Bd.exec
  have hb := Bd.bytes
  have hr := Bd.returns
  have hts := atoms_spec (ws := wsX3_adds) Bd.pre
  have hown : s.vm.findClass RX3 = some m.cls := findClass_of_methodNamed Bd.named
  have hlocks := Bd.notSynchronized
  have hD := z_Dfr hD0
  have hS : va_S (zfr (moW cA a M N h)) s.heap s.heap [] := va_S.rf
  have hi3 : ∀ w ∈ wsX30, w ∈ wsX3_adds := fun w h => List.mem_cons_of_mem _ (List.mem_append_right _ h)
  have hl := lv_entry ([.ref (a 0), .int (nI mb), .int (nI wt), .int by_]) (n := 4) (Nat.le_of_ble_eq_true rfl)
  rw [lg_entry_eq]
  generalize (lg_sl ([.ref (a 0), .int (nI mb), .int (nI wt), .int by_]) ++ List.replicate (4 - (lg_sl ([.ref (a 0), .int (nI mb), .int (nI wt), .int by_])).length) Slot.unset).toArray = ls at hl ⊢
  have hl : lv_has ls 4 [(0, .ref (a 0)), (1, .int (nI mb)), (2, .int (nI wt)), (3, .int by_)] := hl
  refine lv_aload_n hx hb dX3_adds_0 rfl (lv_at hl 0 rfl) ?_
  refine va_get (D := D) (ci := 3) (v := .ref (a 1)) (C := RX3) (T := TX3) (N := 14) hx hb hts hi3 hown hK hP 0 rfl rfl 1 (by decide) (hts (.fieldLink RX3 7 "PledgedLoansModel" "s" "[I") (List.mem_of_getElem? (i := 1) rfl)) (fun _ h9 => h9) rfl dX3_adds_1 ?_
  refine lv_bipush (v := 10) hx hb dX3_adds_4 (by decide) ?_
  refine lv_bipush (v := 6) hx hb dX3_adds_6 (by decide) ?_
  refine lv_iload_n hx hb dX3_adds_8 rfl (lv_at hl 1 rfl) ?_
  refine lv_imul hx hb dX3_adds_9 ?_
  refine z_top (pk_mul 6 mb) ?_
  refine lv_iadd hx hb dX3_adds_10 ?_
  refine z_top (nI_add 10 (6 * mb)) ?_
  refine lv_iload_n hx hb dX3_adds_11 rfl (lv_at hl 2 rfl) ?_
  refine lv_iadd hx hb dX3_adds_12 ?_
  refine z_top (nI_add (10 + (6 * mb)) wt) ?_
  refine lv_dup2_11 hx hb dX3_adds_13 rfl rfl ?_
  refine z_iald (j := (10 + (6 * mb)) + wt) hx hb hK hP 1 0 rfl rfl dX3_adds_14 (by omega) (by decide) ?_
  refine lv_iload_n hx hb dX3_adds_15 rfl (lv_at hl 3 rfl) ?_
  refine lv_iadd hx hb dX3_adds_16 ?_
  refine z_iast (j := (10 + (6 * mb)) + wt) hx hb hK hP hD hS 1 0 rfl rfl dX3_adds_17 (by omega) (by decide) (moW cA a (uB M 0 ((10 + (6 * mb)) + wt) ((M 0 ((10 + (6 * mb)) + wt)) + by_)) N h) rfl (fun H locs hP hD hS => ?_)
  obtain ⟨M_1, eM_1⟩ : ∃ z9 : BK, z9 = uB M 0 ((10 + (6 * mb)) + wt) ((M 0 ((10 + (6 * mb)) + wt)) + by_) := ⟨_, rfl⟩
  rw [← eM_1] at hP hD
  exact z_vretM (w1 := moW cA a M_1 N h) hx hb hr hlocks dX3_adds_18 hP hS (by subst eM_1; first | (simp only [f_X3_adds]; done) | rfl)

theorem zy_X3_pledgeOf : yX3_pledgeOf.cls = RX3 ∧ yX3_pledgeOf.cls ≠ "java/lang/invoke/MethodHandle" ∧ yX3_pledgeOf.cls ≠ "java/lang/invoke/VarHandle" ∧ (parseMethodDescriptor yX3_pledgeOf.desc).map (fun d => d.parameters.length) = some 2 := by decide +kernel
def f_X3_pledgeOf (M : BK) (mb : Nat) (br : Nat) : Int32 :=
  M 0 ((46 + (6 * mb)) + br)

set_option maxHeartbeats 4000000 in
set_option maxRecDepth 100000 in
theorem zc_X3_pledgeOf (l : Launch) (D : va_G) (cA : Nat → ClassId) (a : Nat → Nat) (M : BK) (N : Nat → Nat) (h : Int64) (mb : Nat) (br : Nat) (hmb : mb < 6) (hbr : br < 6) : Met l yX3_pledgeOf wsX3_pledgeOf (zrm 0 0) (zPc D cA [.ref (a 0), .int (nI mb), .int (nI br)] (moW cA a M N h)) (zE (some (.int (f_X3_pledgeOf M mb br)))) 0 0 (fun _ => False) := by
  refine Met.ofW (cc := cX3_pledgeOf) (maxL := 3) (ret := (some .int)) (by decide) rfl ?_
  intro p e s m args below meth c s₁ Bd hml hv
  obtain ⟨rfl, hP, hK, hD0⟩ := hv
  have hx := Bd.exec
  have hb := Bd.bytes
  have hr := Bd.returns
  have hts := atoms_spec (ws := wsX3_pledgeOf) Bd.pre
  have hown : s.vm.findClass RX3 = some m.cls := findClass_of_methodNamed Bd.named
  have hlocks := Bd.notSynchronized
  have hD := z_Dfr hD0
  have hS : va_S (zfr (moW cA a M N h)) s.heap s.heap [] := va_S.rf
  have hi3 : ∀ w ∈ wsX30, w ∈ wsX3_pledgeOf := fun w h => List.mem_cons_of_mem _ (List.mem_append_right _ h)
  have hl := lv_entry ([.ref (a 0), .int (nI mb), .int (nI br)]) (n := 3) (Nat.le_of_ble_eq_true rfl)
  rw [lg_entry_eq]
  generalize (lg_sl ([.ref (a 0), .int (nI mb), .int (nI br)]) ++ List.replicate (3 - (lg_sl ([.ref (a 0), .int (nI mb), .int (nI br)])).length) Slot.unset).toArray = ls at hl ⊢
  have hl : lv_has ls 3 [(0, .ref (a 0)), (1, .int (nI mb)), (2, .int (nI br))] := hl
  refine lv_aload_n hx hb dX3_pledgeOf_0 rfl (lv_at hl 0 rfl) ?_
  refine va_get (D := D) (ci := 3) (v := .ref (a 1)) (C := RX3) (T := TX3) (N := 14) hx hb hts hi3 hown hK hP 0 rfl rfl 1 (by decide) (hts (.fieldLink RX3 7 "PledgedLoansModel" "s" "[I") (List.mem_of_getElem? (i := 1) rfl)) (fun _ h9 => h9) rfl dX3_pledgeOf_1 ?_
  refine lv_bipush (v := 46) hx hb dX3_pledgeOf_4 (by decide) ?_
  refine lv_bipush (v := 6) hx hb dX3_pledgeOf_6 (by decide) ?_
  refine lv_iload_n hx hb dX3_pledgeOf_8 rfl (lv_at hl 1 rfl) ?_
  refine lv_imul hx hb dX3_pledgeOf_9 ?_
  refine z_top (pk_mul 6 mb) ?_
  refine lv_iadd hx hb dX3_pledgeOf_10 ?_
  refine z_top (nI_add 46 (6 * mb)) ?_
  refine lv_iload_n hx hb dX3_pledgeOf_11 rfl (lv_at hl 2 rfl) ?_
  refine lv_iadd hx hb dX3_pledgeOf_12 ?_
  refine z_top (nI_add (46 + (6 * mb)) br) ?_
  refine z_iald (j := (46 + (6 * mb)) + br) hx hb hK hP 1 0 rfl rfl dX3_pledgeOf_13 (by omega) (by decide) ?_
  exact z_iretE hx hb hr hlocks dX3_pledgeOf_14 (by first | (simp only [f_X3_pledgeOf]; done) | rfl)

theorem zy_X3_pledgedBy : yX3_pledgedBy.cls = RX3 ∧ yX3_pledgedBy.cls ≠ "java/lang/invoke/MethodHandle" ∧ yX3_pledgedBy.cls ≠ "java/lang/invoke/VarHandle" ∧ (parseMethodDescriptor yX3_pledgedBy.desc).map (fun d => d.parameters.length) = some 1 := by decide +kernel
def f_X3_pledgedBy_4 (M : BK) (mb : Nat) (i0 : Int32) : Nat → Int32
  | 0 => i0
  | n + 1 =>
    let y0_4 : Int32 := f_X3_pledgedBy_4 M mb i0 n
    y0_4 + (f_X3_pledgeOf M mb n)
def f_X3_pledgedBy (M : BK) (mb : Nat) : Int32 :=
  let y0_4 : Int32 := f_X3_pledgedBy_4 M mb 0 6
  y0_4

set_option maxHeartbeats 4000000 in
set_option maxRecDepth 100000 in
theorem zc_X3_pledgedBy (l : Launch) (D : va_G) (cA : Nat → ClassId) (a : Nat → Nat) (M : BK) (N : Nat → Nat) (h : Int64) (mb : Nat) (hmb : mb < 6) : Met l yX3_pledgedBy wsX3_pledgedBy (zrm 1 22) (zPc D cA [.ref (a 0), .int (nI mb)] (moW cA a M N h)) (zE (some (.int (f_X3_pledgedBy M mb)))) 0 0 (fun _ => False) := by
  refine Met.ofW (cc := cX3_pledgedBy) (maxL := 4) (ret := (some .int)) (by decide) rfl ?_
  intro p e s m args below meth c s₁ Bd hml hv
  obtain ⟨rfl, hP, hK, hD0⟩ := hv
  have hx := Bd.exec
  have hb := Bd.bytes
  have hr := Bd.returns
  have hts := atoms_spec (ws := wsX3_pledgedBy) Bd.pre
  have hown : s.vm.findClass RX3 = some m.cls := findClass_of_methodNamed Bd.named
  have hlocks := Bd.notSynchronized
  have hD := z_Dfr hD0
  have hS : va_S (zfr (moW cA a M N h)) s.heap s.heap [] := va_S.rf
  have hi3 : ∀ w ∈ wsX30, w ∈ wsX3_pledgedBy := fun w h => List.mem_cons_of_mem _ (List.mem_append_right _ h)
  have hl := lv_entry ([.ref (a 0), .int (nI mb)]) (n := 4) (Nat.le_of_ble_eq_true rfl)
  rw [lg_entry_eq]
  generalize (lg_sl ([.ref (a 0), .int (nI mb)]) ++ List.replicate (4 - (lg_sl ([.ref (a 0), .int (nI mb)])).length) Slot.unset).toArray = ls at hl ⊢
  have hl : lv_has ls 4 [(0, .ref (a 0)), (1, .int (nI mb))] := hl
  refine lv_iconst (v := 0) hx hb dX3_pledgedBy_0 (by decide) ?_
  refine lv_istore_n (lv' := [(2, .int 0), (0, .ref (a 0)), (1, .int (nI mb))]) hx hb dX3_pledgedBy_1 rfl hl (by decide) rfl (fun ls hl => ?_)
  refine lv_iconst (v := 0) hx hb dX3_pledgedBy_2 (by decide) ?_
  refine lv_istore_n (lv' := [(3, .int 0), (2, .int 0), (0, .ref (a 0)), (1, .int (nI mb))]) hx hb dX3_pledgedBy_3 rfl hl (by decide) rfl (fun ls hl => ?_)
  have loop_4 : ∀ (kk : Nat) (n : Nat) (y0_4 : Int32), n ≤ 6 → 6 - n < kk → y0_4 = f_X3_pledgedBy_4 M mb 0 n → ∀ (ls : Array Slot), lv_has ls 4 [(0, .ref (a 0)), (1, .int (nI mb)), (2, .int y0_4), (3, .int (nI n))] → W p l e (headSpec wsX3_pledgedBy (zrm 1 22)).room s m ([.ref (a 0), .int (nI mb)] : List Value).toArray below meth c s.heap [] 0 0 (MQ below (zE (some (.int (f_X3_pledgedBy M mb)))) ([.ref (a 0), .int (nI mb)] : List Value).toArray s 0 0 (fun _ => False)) (F0 m 4 ls []) := by
    intro kk
    induction kk with
    | zero => intro n y0_4 _ h9; exact absurd h9 (Nat.not_lt_zero _)
    | succ kk ih_4 =>
      intro n y0_4 hn_4 hm_4 q_y0_4 ls hl
      refine lv_iload_n hx hb dX3_pledgedBy_4 rfl (lv_at hl 3 rfl) ?_
      refine lv_bipush (v := 6) hx hb dX3_pledgedBy_5 (by decide) ?_
      refine lv_icmp_ge (tgt := 25) hx hb dX3_pledgedBy_7 (by decide) (fun c_1 => ?_) (fun c_1 => ?_)
      · have c_1 : 6 ≤ n := (nI_leI (a := 6) (b := n) (by omega) (by omega)).mp c_1
        obtain rfl : n = 6 := by omega
        refine lv_iload_n hx hb dX3_pledgedBy_25 rfl (lv_at hl 2 rfl) ?_
        exact z_iretE hx hb hr hlocks dX3_pledgedBy_26 (by subst q_y0_4; first | (simp only [f_X3_pledgedBy]; done) | rfl)
      · have c_1 : ¬ 6 ≤ n := fun h9 => c_1 ((nI_leI (a := 6) (b := n) (by omega) (by omega)).mpr h9)
        refine lv_iload_n hx hb dX3_pledgedBy_10 rfl (lv_at hl 2 rfl) ?_
        refine lv_aload_n hx hb dX3_pledgedBy_11 rfl (lv_at hl 0 rfl) ?_
        refine lv_iload_n hx hb dX3_pledgedBy_12 rfl (lv_at hl 1 rfl) ?_
        refine lv_iload_n hx hb dX3_pledgedBy_13 rfl (lv_at hl 3 rfl) ?_
        refine z_E (va_runV (As := [.int (nI mb), .int (nI n)]) (rest := [.int y0_4]) ⟨hx, hb, hml, hown, hts⟩ (zc_X3_pledgeOf l D cA a M N h mb n (by omega) (by omega)) (cwV 2 hts gX3_pledgedBy_X3_pledgeOf rfl rfl rfl zy_X3_pledgeOf ⟨Nat.le_of_ble_eq_true rfl, Nat.le_of_ble_eq_true rfl⟩) (z_preV (ci := 3) hK hP hD rfl rfl) rfl rfl hl.1 rfl (lv_room (Nat.le_of_ble_eq_true rfl)) dX3_pledgedBy_14 ⟨Nat.zero_le _, Nat.zero_le _⟩) rfl ?_
        refine lv_iadd hx hb dX3_pledgedBy_17 ?_
        refine lv_istore_n (lv' := [(2, .int (y0_4 + (f_X3_pledgeOf M mb n))), (0, .ref (a 0)), (1, .int (nI mb)), (3, .int (nI n))]) hx hb dX3_pledgedBy_18 rfl hl (by decide) rfl (fun ls hl => ?_)
        refine lv_iinc (v := nI (n + 1)) (lv' := [(3, .int (nI (n + 1))), (2, .int (y0_4 + (f_X3_pledgeOf M mb n))), (0, .ref (a 0)), (1, .int (nI mb))]) hx hb dX3_pledgedBy_19 hl (k := 3) rfl (by rw [show (Int32.ofInt 1) = nI 1 from by decide]; exact nI_add n 1) (by decide) rfl (fun ls hl => ?_)
        refine lv_goto (tgt := 4) hx hb dX3_pledgedBy_22 (by decide) ?_
        exact ih_4 (n + 1) _ (by omega) (by omega) (by subst q_y0_4; first | (simp only [f_X3_pledgedBy_4]; done) | rfl) ls (lv_sub hl [2, 3, 1, 0] rfl)
  exact loop_4 _ 0 _ (by omega) (Nat.lt_succ_self _) rfl ls (lv_sub hl [2, 3, 1, 0] rfl)

theorem zy_X3_pledgedFor : yX3_pledgedFor.cls = RX3 ∧ yX3_pledgedFor.cls ≠ "java/lang/invoke/MethodHandle" ∧ yX3_pledgedFor.cls ≠ "java/lang/invoke/VarHandle" ∧ (parseMethodDescriptor yX3_pledgedFor.desc).map (fun d => d.parameters.length) = some 1 := by decide +kernel
def f_X3_pledgedFor_4 (M : BK) (mb : Nat) (i0 : Int32) : Nat → Int32
  | 0 => i0
  | n + 1 =>
    let y0_4 : Int32 := f_X3_pledgedFor_4 M mb i0 n
    y0_4 + (f_X3_pledgeOf M n mb)
def f_X3_pledgedFor (M : BK) (mb : Nat) : Int32 :=
  let y0_4 : Int32 := f_X3_pledgedFor_4 M mb 0 6
  y0_4

set_option maxHeartbeats 4000000 in
set_option maxRecDepth 100000 in
theorem zc_X3_pledgedFor (l : Launch) (D : va_G) (cA : Nat → ClassId) (a : Nat → Nat) (M : BK) (N : Nat → Nat) (h : Int64) (mb : Nat) (hmb : mb < 6) : Met l yX3_pledgedFor wsX3_pledgedFor (zrm 1 22) (zPc D cA [.ref (a 0), .int (nI mb)] (moW cA a M N h)) (zE (some (.int (f_X3_pledgedFor M mb)))) 0 0 (fun _ => False) := by
  refine Met.ofW (cc := cX3_pledgedFor) (maxL := 4) (ret := (some .int)) (by decide) rfl ?_
  intro p e s m args below meth c s₁ Bd hml hv
  obtain ⟨rfl, hP, hK, hD0⟩ := hv
  have hx := Bd.exec
  have hb := Bd.bytes
  have hr := Bd.returns
  have hts := atoms_spec (ws := wsX3_pledgedFor) Bd.pre
  have hown : s.vm.findClass RX3 = some m.cls := findClass_of_methodNamed Bd.named
  have hlocks := Bd.notSynchronized
  have hD := z_Dfr hD0
  have hS : va_S (zfr (moW cA a M N h)) s.heap s.heap [] := va_S.rf
  have hi3 : ∀ w ∈ wsX30, w ∈ wsX3_pledgedFor := fun w h => List.mem_cons_of_mem _ (List.mem_append_right _ h)
  have hl := lv_entry ([.ref (a 0), .int (nI mb)]) (n := 4) (Nat.le_of_ble_eq_true rfl)
  rw [lg_entry_eq]
  generalize (lg_sl ([.ref (a 0), .int (nI mb)]) ++ List.replicate (4 - (lg_sl ([.ref (a 0), .int (nI mb)])).length) Slot.unset).toArray = ls at hl ⊢
  have hl : lv_has ls 4 [(0, .ref (a 0)), (1, .int (nI mb))] := hl
  refine lv_iconst (v := 0) hx hb dX3_pledgedFor_0 (by decide) ?_
  refine lv_istore_n (lv' := [(2, .int 0), (0, .ref (a 0)), (1, .int (nI mb))]) hx hb dX3_pledgedFor_1 rfl hl (by decide) rfl (fun ls hl => ?_)
  refine lv_iconst (v := 0) hx hb dX3_pledgedFor_2 (by decide) ?_
  refine lv_istore_n (lv' := [(3, .int 0), (2, .int 0), (0, .ref (a 0)), (1, .int (nI mb))]) hx hb dX3_pledgedFor_3 rfl hl (by decide) rfl (fun ls hl => ?_)
  have loop_4 : ∀ (kk : Nat) (n : Nat) (y0_4 : Int32), n ≤ 6 → 6 - n < kk → y0_4 = f_X3_pledgedFor_4 M mb 0 n → ∀ (ls : Array Slot), lv_has ls 4 [(0, .ref (a 0)), (1, .int (nI mb)), (2, .int y0_4), (3, .int (nI n))] → W p l e (headSpec wsX3_pledgedFor (zrm 1 22)).room s m ([.ref (a 0), .int (nI mb)] : List Value).toArray below meth c s.heap [] 0 0 (MQ below (zE (some (.int (f_X3_pledgedFor M mb)))) ([.ref (a 0), .int (nI mb)] : List Value).toArray s 0 0 (fun _ => False)) (F0 m 4 ls []) := by
    intro kk
    induction kk with
    | zero => intro n y0_4 _ h9; exact absurd h9 (Nat.not_lt_zero _)
    | succ kk ih_4 =>
      intro n y0_4 hn_4 hm_4 q_y0_4 ls hl
      refine lv_iload_n hx hb dX3_pledgedFor_4 rfl (lv_at hl 3 rfl) ?_
      refine lv_bipush (v := 6) hx hb dX3_pledgedFor_5 (by decide) ?_
      refine lv_icmp_ge (tgt := 25) hx hb dX3_pledgedFor_7 (by decide) (fun c_1 => ?_) (fun c_1 => ?_)
      · have c_1 : 6 ≤ n := (nI_leI (a := 6) (b := n) (by omega) (by omega)).mp c_1
        obtain rfl : n = 6 := by omega
        refine lv_iload_n hx hb dX3_pledgedFor_25 rfl (lv_at hl 2 rfl) ?_
        exact z_iretE hx hb hr hlocks dX3_pledgedFor_26 (by subst q_y0_4; first | (simp only [f_X3_pledgedFor]; done) | rfl)
      · have c_1 : ¬ 6 ≤ n := fun h9 => c_1 ((nI_leI (a := 6) (b := n) (by omega) (by omega)).mpr h9)
        refine lv_iload_n hx hb dX3_pledgedFor_10 rfl (lv_at hl 2 rfl) ?_
        refine lv_aload_n hx hb dX3_pledgedFor_11 rfl (lv_at hl 0 rfl) ?_
        refine lv_iload_n hx hb dX3_pledgedFor_12 rfl (lv_at hl 3 rfl) ?_
        refine lv_iload_n hx hb dX3_pledgedFor_13 rfl (lv_at hl 1 rfl) ?_
        refine z_E (va_runV (As := [.int (nI n), .int (nI mb)]) (rest := [.int y0_4]) ⟨hx, hb, hml, hown, hts⟩ (zc_X3_pledgeOf l D cA a M N h n mb (by omega) (by omega)) (cwV 2 hts gX3_pledgedFor_X3_pledgeOf rfl rfl rfl zy_X3_pledgeOf ⟨Nat.le_of_ble_eq_true rfl, Nat.le_of_ble_eq_true rfl⟩) (z_preV (ci := 3) hK hP hD rfl rfl) rfl rfl hl.1 rfl (lv_room (Nat.le_of_ble_eq_true rfl)) dX3_pledgedFor_14 ⟨Nat.zero_le _, Nat.zero_le _⟩) rfl ?_
        refine lv_iadd hx hb dX3_pledgedFor_17 ?_
        refine lv_istore_n (lv' := [(2, .int (y0_4 + (f_X3_pledgeOf M n mb))), (0, .ref (a 0)), (1, .int (nI mb)), (3, .int (nI n))]) hx hb dX3_pledgedFor_18 rfl hl (by decide) rfl (fun ls hl => ?_)
        refine lv_iinc (v := nI (n + 1)) (lv' := [(3, .int (nI (n + 1))), (2, .int (y0_4 + (f_X3_pledgeOf M n mb))), (0, .ref (a 0)), (1, .int (nI mb))]) hx hb dX3_pledgedFor_19 hl (k := 3) rfl (by rw [show (Int32.ofInt 1) = nI 1 from by decide]; exact nI_add n 1) (by decide) rfl (fun ls hl => ?_)
        refine lv_goto (tgt := 4) hx hb dX3_pledgedFor_22 (by decide) ?_
        exact ih_4 (n + 1) _ (by omega) (by omega) (by subst q_y0_4; first | (simp only [f_X3_pledgedFor_4]; done) | rfl) ls (lv_sub hl [2, 3, 1, 0] rfl)
  exact loop_4 _ 0 _ (by omega) (Nat.lt_succ_self _) rfl ls (lv_sub hl [2, 3, 1, 0] rfl)

theorem zy_X3_own : yX3_own.cls = RX3 ∧ yX3_own.cls ≠ "java/lang/invoke/MethodHandle" ∧ yX3_own.cls ≠ "java/lang/invoke/VarHandle" ∧ (parseMethodDescriptor yX3_own.desc).map (fun d => d.parameters.length) = some 1 := by decide +kernel
def f_X3_own (M : BK) (mb : Nat) : Int32 :=
  (f_X3_of M mb 0) - (f_X3_pledgedBy M mb)

set_option maxHeartbeats 4000000 in
set_option maxRecDepth 100000 in
theorem zc_X3_own (l : Launch) (D : va_G) (cA : Nat → ClassId) (a : Nat → Nat) (M : BK) (N : Nat → Nat) (h : Int64) (mb : Nat) (hmb : mb < 6) : Met l yX3_own wsX3_own (zrm 2 45) (zPc D cA [.ref (a 0), .int (nI mb)] (moW cA a M N h)) (zE (some (.int (f_X3_own M mb)))) 0 0 (fun _ => False) := by
  refine Met.ofW (cc := cX3_own) (maxL := 2) (ret := (some .int)) (by decide) rfl ?_
  intro p e s m args below meth c s₁ Bd hml hv
  obtain ⟨rfl, hP, hK, hD0⟩ := hv
  have hx := Bd.exec
  have hb := Bd.bytes
  have hr := Bd.returns
  have hts := atoms_spec (ws := wsX3_own) Bd.pre
  have hown : s.vm.findClass RX3 = some m.cls := findClass_of_methodNamed Bd.named
  have hlocks := Bd.notSynchronized
  have hD := z_Dfr hD0
  have hS : va_S (zfr (moW cA a M N h)) s.heap s.heap [] := va_S.rf
  have hi3 : ∀ w ∈ wsX30, w ∈ wsX3_own := fun w h => List.mem_cons_of_mem _ (List.mem_append_right _ h)
  have hl := lv_entry ([.ref (a 0), .int (nI mb)]) (n := 2) (Nat.le_of_ble_eq_true rfl)
  rw [lg_entry_eq]
  generalize (lg_sl ([.ref (a 0), .int (nI mb)]) ++ List.replicate (2 - (lg_sl ([.ref (a 0), .int (nI mb)])).length) Slot.unset).toArray = ls at hl ⊢
  have hl : lv_has ls 2 [(0, .ref (a 0)), (1, .int (nI mb))] := hl
  refine lv_aload_n hx hb dX3_own_0 rfl (lv_at hl 0 rfl) ?_
  refine lv_iload_n hx hb dX3_own_1 rfl (lv_at hl 1 rfl) ?_
  refine lv_iconst (v := 0) hx hb dX3_own_2 (by decide) ?_
  refine z_E (va_runV (As := [.int (nI mb), .int 0]) (rest := []) ⟨hx, hb, hml, hown, hts⟩ (zc_X3_of l D cA a M N h mb 0 (by omega) (by omega)) (cwV 2 hts gX3_own_X3_of rfl rfl rfl zy_X3_of ⟨Nat.le_of_ble_eq_true rfl, Nat.le_of_ble_eq_true rfl⟩) (z_preV (ci := 3) hK hP hD rfl rfl) rfl rfl hl.1 rfl (lv_room (Nat.le_of_ble_eq_true rfl)) dX3_own_3 ⟨Nat.zero_le _, Nat.zero_le _⟩) rfl ?_
  refine lv_aload_n hx hb dX3_own_6 rfl (lv_at hl 0 rfl) ?_
  refine lv_iload_n hx hb dX3_own_7 rfl (lv_at hl 1 rfl) ?_
  refine z_E (va_runV (As := [.int (nI mb)]) (rest := [.int (f_X3_of M mb 0)]) ⟨hx, hb, hml, hown, hts⟩ (zc_X3_pledgedBy l D cA a M N h mb (by omega)) (cwV 1 hts gX3_own_X3_pledgedBy rfl rfl rfl zy_X3_pledgedBy ⟨Nat.le_of_ble_eq_true rfl, Nat.le_of_ble_eq_true rfl⟩) (z_preV (ci := 3) hK hP hD rfl rfl) rfl rfl hl.1 rfl (lv_room (Nat.le_of_ble_eq_true rfl)) dX3_own_8 ⟨Nat.zero_le _, Nat.zero_le _⟩) rfl ?_
  refine lv_isub hx hb dX3_own_11 ?_
  exact z_iretE hx hb hr hlocks dX3_own_12 (by first | (simp only [f_X3_own]; done) | rfl)

theorem zy_X3_cover : yX3_cover.cls = RX3 ∧ yX3_cover.cls ≠ "java/lang/invoke/MethodHandle" ∧ yX3_cover.cls ≠ "java/lang/invoke/VarHandle" ∧ (parseMethodDescriptor yX3_cover.desc).map (fun d => d.parameters.length) = some 1 := by decide +kernel
def f_X3_cover (M : BK) (mb : Nat) : Int32 :=
  (f_X3_own M mb) + (f_X3_pledgedFor M mb)

set_option maxHeartbeats 4000000 in
set_option maxRecDepth 100000 in
theorem zc_X3_cover (l : Launch) (D : va_G) (cA : Nat → ClassId) (a : Nat → Nat) (M : BK) (N : Nat → Nat) (h : Int64) (mb : Nat) (hmb : mb < 6) : Met l yX3_cover wsX3_cover (zrm 3 66) (zPc D cA [.ref (a 0), .int (nI mb)] (moW cA a M N h)) (zE (some (.int (f_X3_cover M mb)))) 0 0 (fun _ => False) := by
  refine Met.ofW (cc := cX3_cover) (maxL := 2) (ret := (some .int)) (by decide) rfl ?_
  intro p e s m args below meth c s₁ Bd hml hv
  obtain ⟨rfl, hP, hK, hD0⟩ := hv
  have hx := Bd.exec
  have hb := Bd.bytes
  have hr := Bd.returns
  have hts := atoms_spec (ws := wsX3_cover) Bd.pre
  have hown : s.vm.findClass RX3 = some m.cls := findClass_of_methodNamed Bd.named
  have hlocks := Bd.notSynchronized
  have hD := z_Dfr hD0
  have hS : va_S (zfr (moW cA a M N h)) s.heap s.heap [] := va_S.rf
  have hi3 : ∀ w ∈ wsX30, w ∈ wsX3_cover := fun w h => List.mem_cons_of_mem _ (List.mem_append_right _ h)
  have hl := lv_entry ([.ref (a 0), .int (nI mb)]) (n := 2) (Nat.le_of_ble_eq_true rfl)
  rw [lg_entry_eq]
  generalize (lg_sl ([.ref (a 0), .int (nI mb)]) ++ List.replicate (2 - (lg_sl ([.ref (a 0), .int (nI mb)])).length) Slot.unset).toArray = ls at hl ⊢
  have hl : lv_has ls 2 [(0, .ref (a 0)), (1, .int (nI mb))] := hl
  refine lv_aload_n hx hb dX3_cover_0 rfl (lv_at hl 0 rfl) ?_
  refine lv_iload_n hx hb dX3_cover_1 rfl (lv_at hl 1 rfl) ?_
  refine z_E (va_runV (As := [.int (nI mb)]) (rest := []) ⟨hx, hb, hml, hown, hts⟩ (zc_X3_own l D cA a M N h mb (by omega)) (cwV 1 hts gX3_cover_X3_own rfl rfl rfl zy_X3_own ⟨Nat.le_of_ble_eq_true rfl, Nat.le_of_ble_eq_true rfl⟩) (z_preV (ci := 3) hK hP hD rfl rfl) rfl rfl hl.1 rfl (lv_room (Nat.le_of_ble_eq_true rfl)) dX3_cover_2 ⟨Nat.zero_le _, Nat.zero_le _⟩) rfl ?_
  refine lv_aload_n hx hb dX3_cover_5 rfl (lv_at hl 0 rfl) ?_
  refine lv_iload_n hx hb dX3_cover_6 rfl (lv_at hl 1 rfl) ?_
  refine z_E (va_runV (As := [.int (nI mb)]) (rest := [.int (f_X3_own M mb)]) ⟨hx, hb, hml, hown, hts⟩ (zc_X3_pledgedFor l D cA a M N h mb (by omega)) (cwV 1 hts gX3_cover_X3_pledgedFor rfl rfl rfl zy_X3_pledgedFor ⟨Nat.le_of_ble_eq_true rfl, Nat.le_of_ble_eq_true rfl⟩) (z_preV (ci := 3) hK hP hD rfl rfl) rfl rfl hl.1 rfl (lv_room (Nat.le_of_ble_eq_true rfl)) dX3_cover_7 ⟨Nat.zero_le _, Nat.zero_le _⟩) rfl ?_
  refine lv_iadd hx hb dX3_cover_10 ?_
  exact z_iretE hx hb hr hlocks dX3_cover_11 (by first | (simp only [f_X3_cover]; done) | rfl)

theorem zy_X3_free : yX3_free.cls = RX3 ∧ yX3_free.cls ≠ "java/lang/invoke/MethodHandle" ∧ yX3_free.cls ≠ "java/lang/invoke/VarHandle" ∧ (parseMethodDescriptor yX3_free.desc).map (fun d => d.parameters.length) = some 1 := by decide +kernel
def f_X3_free (M : BK) (mb : Nat) : Int32 :=
  if ((f_X3_of M mb 2) - (f_X3_pledgedFor M mb)) ≤ 0 then
    (f_X3_own M mb) - 0
  else
    (f_X3_own M mb) - ((f_X3_of M mb 2) - (f_X3_pledgedFor M mb))

set_option maxHeartbeats 4000000 in
set_option maxRecDepth 100000 in
theorem zc_X3_free (l : Launch) (D : va_G) (cA : Nat → ClassId) (a : Nat → Nat) (M : BK) (N : Nat → Nat) (h : Int64) (mb : Nat) (hmb : mb < 6) : Met l yX3_free wsX3_free (zrm 3 66) (zPc D cA [.ref (a 0), .int (nI mb)] (moW cA a M N h)) (zE (some (.int (f_X3_free M mb)))) 0 0 (fun _ => False) := by
  refine Met.ofW (cc := cX3_free) (maxL := 3) (ret := (some .int)) (by decide) rfl ?_
  intro p e s m args below meth c s₁ Bd hml hv
  obtain ⟨rfl, hP, hK, hD0⟩ := hv
  have hx := Bd.exec
  have hb := Bd.bytes
  have hr := Bd.returns
  have hts := atoms_spec (ws := wsX3_free) Bd.pre
  have hown : s.vm.findClass RX3 = some m.cls := findClass_of_methodNamed Bd.named
  have hlocks := Bd.notSynchronized
  have hD := z_Dfr hD0
  have hS : va_S (zfr (moW cA a M N h)) s.heap s.heap [] := va_S.rf
  have hi3 : ∀ w ∈ wsX30, w ∈ wsX3_free := fun w h => List.mem_cons_of_mem _ (List.mem_append_right _ h)
  have hl := lv_entry ([.ref (a 0), .int (nI mb)]) (n := 3) (Nat.le_of_ble_eq_true rfl)
  rw [lg_entry_eq]
  generalize (lg_sl ([.ref (a 0), .int (nI mb)]) ++ List.replicate (3 - (lg_sl ([.ref (a 0), .int (nI mb)])).length) Slot.unset).toArray = ls at hl ⊢
  have hl : lv_has ls 3 [(0, .ref (a 0)), (1, .int (nI mb))] := hl
  refine lv_aload_n hx hb dX3_free_0 rfl (lv_at hl 0 rfl) ?_
  refine lv_iload_n hx hb dX3_free_1 rfl (lv_at hl 1 rfl) ?_
  refine lv_iconst (v := 2) hx hb dX3_free_2 (by decide) ?_
  refine z_E (va_runV (As := [.int (nI mb), .int 2]) (rest := []) ⟨hx, hb, hml, hown, hts⟩ (zc_X3_of l D cA a M N h mb 2 (by omega) (by omega)) (cwV 2 hts gX3_free_X3_of rfl rfl rfl zy_X3_of ⟨Nat.le_of_ble_eq_true rfl, Nat.le_of_ble_eq_true rfl⟩) (z_preV (ci := 3) hK hP hD rfl rfl) rfl rfl hl.1 rfl (lv_room (Nat.le_of_ble_eq_true rfl)) dX3_free_3 ⟨Nat.zero_le _, Nat.zero_le _⟩) rfl ?_
  refine lv_aload_n hx hb dX3_free_6 rfl (lv_at hl 0 rfl) ?_
  refine lv_iload_n hx hb dX3_free_7 rfl (lv_at hl 1 rfl) ?_
  refine z_E (va_runV (As := [.int (nI mb)]) (rest := [.int (f_X3_of M mb 2)]) ⟨hx, hb, hml, hown, hts⟩ (zc_X3_pledgedFor l D cA a M N h mb (by omega)) (cwV 1 hts gX3_free_X3_pledgedFor rfl rfl rfl zy_X3_pledgedFor ⟨Nat.le_of_ble_eq_true rfl, Nat.le_of_ble_eq_true rfl⟩) (z_preV (ci := 3) hK hP hD rfl rfl) rfl rfl hl.1 rfl (lv_room (Nat.le_of_ble_eq_true rfl)) dX3_free_8 ⟨Nat.zero_le _, Nat.zero_le _⟩) rfl ?_
  refine lv_isub hx hb dX3_free_11 ?_
  refine lv_istore_n (lv' := [(2, .int ((f_X3_of M mb 2) - (f_X3_pledgedFor M mb))), (0, .ref (a 0)), (1, .int (nI mb))]) hx hb dX3_free_12 rfl hl (by decide) rfl (fun ls hl => ?_)
  refine lv_aload_n hx hb dX3_free_13 rfl (lv_at hl 1 rfl) ?_
  refine lv_iload_n hx hb dX3_free_14 rfl (lv_at hl 2 rfl) ?_
  refine z_E (va_runV (As := [.int (nI mb)]) (rest := []) ⟨hx, hb, hml, hown, hts⟩ (zc_X3_own l D cA a M N h mb (by omega)) (cwV 1 hts gX3_free_X3_own rfl rfl rfl zy_X3_own ⟨Nat.le_of_ble_eq_true rfl, Nat.le_of_ble_eq_true rfl⟩) (z_preV (ci := 3) hK hP hD rfl rfl) rfl rfl hl.1 rfl (lv_room (Nat.le_of_ble_eq_true rfl)) dX3_free_15 ⟨Nat.zero_le _, Nat.zero_le _⟩) rfl ?_
  refine lv_iload_n hx hb dX3_free_18 rfl (lv_at hl 0 rfl) ?_
  refine lv_if_le (tgt := 26) hx hb dX3_free_19 (by decide) (fun c_1 => ?_) (fun c_1 => ?_)
  · refine lv_iconst (v := 0) hx hb dX3_free_26 (by decide) ?_
    refine lv_isub hx hb dX3_free_27 ?_
    exact z_iretE hx hb hr hlocks dX3_free_28 (by simp only [f_X3_free, if_pos c_1])
  · refine lv_iload_n hx hb dX3_free_22 rfl (lv_at hl 0 rfl) ?_
    refine lv_goto (tgt := 27) hx hb dX3_free_23 (by decide) ?_
    refine lv_isub hx hb dX3_free_27 ?_
    exact z_iretE hx hb hr hlocks dX3_free_28 (by simp only [f_X3_free, if_neg c_1])

theorem zy_X3_fee : yX3_fee.cls = RX3 ∧ yX3_fee.cls ≠ "java/lang/invoke/MethodHandle" ∧ yX3_fee.cls ≠ "java/lang/invoke/VarHandle" ∧ (parseMethodDescriptor yX3_fee.desc).map (fun d => d.parameters.length) = some 2 := by decide +kernel
def f_X3_fee (x1 : Int32) (x2 : Int32) : Int32 :=
  (x1 * x2) / 1000

set_option maxHeartbeats 4000000 in
set_option maxRecDepth 100000 in
theorem zc_X3_fee (l : Launch) (D : va_G) (cA : Nat → ClassId) (x1 : Int32) (x2 : Int32)  : Met l yX3_fee wsX3_fee (zrm 0 0) (zPc D cA [.int x1, .int x2] (([] : va_W))) (zE (some (.int (f_X3_fee x1 x2)))) 0 0 (fun _ => False) := by
  refine Met.ofW (cc := cX3_fee) (maxL := 2) (ret := (some .int)) (by decide) rfl ?_
  intro p e s m args below meth c s₁ Bd hml hv
  obtain ⟨rfl, hP, hK, hD0⟩ := hv
  have hx := Bd.exec
  have hb := Bd.bytes
  have hr := Bd.returns
  have hts := atoms_spec (ws := wsX3_fee) Bd.pre
  have hown : s.vm.findClass RX3 = some m.cls := findClass_of_methodNamed Bd.named
  have hlocks := Bd.notSynchronized
  have hD := z_Dfr hD0
  have hS : va_S (zfr (([] : va_W))) s.heap s.heap [] := va_S.rf
  have hl := lv_entry ([.int x1, .int x2]) (n := 2) (Nat.le_of_ble_eq_true rfl)
  rw [lg_entry_eq]
  generalize (lg_sl ([.int x1, .int x2]) ++ List.replicate (2 - (lg_sl ([.int x1, .int x2])).length) Slot.unset).toArray = ls at hl ⊢
  have hl : lv_has ls 2 [(0, .int x1), (1, .int x2)] := hl
  refine lv_iload_n hx hb dX3_fee_0 rfl (lv_at hl 0 rfl) ?_
  refine lv_iload_n hx hb dX3_fee_1 rfl (lv_at hl 1 rfl) ?_
  refine lv_imul hx hb dX3_fee_2 ?_
  refine lv_sipush (v := 1000) hx hb dX3_fee_3 (by decide) ?_
  refine lv_idiv hx hb dX3_fee_6 (by decide) ?_
  exact z_iretE hx hb hr hlocks dX3_fee_7 (by first | (simp only [f_X3_fee]; done) | rfl)

theorem zy_X3_reason : yX3_reason.cls = RX3 ∧ yX3_reason.cls ≠ "java/lang/invoke/MethodHandle" ∧ yX3_reason.cls ≠ "java/lang/invoke/VarHandle" ∧ (parseMethodDescriptor yX3_reason.desc).map (fun d => d.parameters.length) = some 2 := by decide +kernel
def f_X3_reason (M : BK) (mb : Nat) (am : Int32) : Int32 :=
  if (f_X3_of M mb 2) ≤ 0 then
    if am ≤ (3 * (f_X3_of M mb 0)) then
      if am ≤ (f_X3_cover M mb) then
        if (am - (f_X3_fee am (M 0 8))) ≤ (M 0 0) then
          0
        else
          4
      else
        3
    else
      2
  else
    1

set_option maxHeartbeats 4000000 in
set_option maxRecDepth 100000 in
theorem zc_X3_reason (l : Launch) (D : va_G) (cA : Nat → ClassId) (a : Nat → Nat) (M : BK) (N : Nat → Nat) (h : Int64) (mb : Nat) (am : Int32) (hmb : mb < 6) : Met l yX3_reason wsX3_reason (zrm 4 87) (zPc D cA [.ref (a 0), .int (nI mb), .int am] (moW cA a M N h)) (zE (some (.int (f_X3_reason M mb am)))) 0 0 (fun _ => False) := by
  refine Met.ofW (cc := cX3_reason) (maxL := 3) (ret := (some .int)) (by decide) rfl ?_
  intro p e s m args below meth c s₁ Bd hml hv
  obtain ⟨rfl, hP, hK, hD0⟩ := hv
  have hx := Bd.exec
  have hb := Bd.bytes
  have hr := Bd.returns
  have hts := atoms_spec (ws := wsX3_reason) Bd.pre
  have hown : s.vm.findClass RX3 = some m.cls := findClass_of_methodNamed Bd.named
  have hlocks := Bd.notSynchronized
  have hD := z_Dfr hD0
  have hS : va_S (zfr (moW cA a M N h)) s.heap s.heap [] := va_S.rf
  have hi3 : ∀ w ∈ wsX30, w ∈ wsX3_reason := fun w h => List.mem_cons_of_mem _ (List.mem_append_right _ h)
  have hl := lv_entry ([.ref (a 0), .int (nI mb), .int am]) (n := 3) (Nat.le_of_ble_eq_true rfl)
  rw [lg_entry_eq]
  generalize (lg_sl ([.ref (a 0), .int (nI mb), .int am]) ++ List.replicate (3 - (lg_sl ([.ref (a 0), .int (nI mb), .int am])).length) Slot.unset).toArray = ls at hl ⊢
  have hl : lv_has ls 3 [(0, .ref (a 0)), (1, .int (nI mb)), (2, .int am)] := hl
  refine lv_aload_n hx hb dX3_reason_0 rfl (lv_at hl 0 rfl) ?_
  refine lv_iload_n hx hb dX3_reason_1 rfl (lv_at hl 1 rfl) ?_
  refine lv_iconst (v := 2) hx hb dX3_reason_2 (by decide) ?_
  refine z_E (va_runV (As := [.int (nI mb), .int 2]) (rest := []) ⟨hx, hb, hml, hown, hts⟩ (zc_X3_of l D cA a M N h mb 2 (by omega) (by omega)) (cwV 2 hts gX3_reason_X3_of rfl rfl rfl zy_X3_of ⟨Nat.le_of_ble_eq_true rfl, Nat.le_of_ble_eq_true rfl⟩) (z_preV (ci := 3) hK hP hD rfl rfl) rfl rfl hl.1 rfl (lv_room (Nat.le_of_ble_eq_true rfl)) dX3_reason_3 ⟨Nat.zero_le _, Nat.zero_le _⟩) rfl ?_
  refine lv_if_le (tgt := 11) hx hb dX3_reason_6 (by decide) (fun c_1 => ?_) (fun c_1 => ?_)
  · refine lv_iload_n hx hb dX3_reason_11 rfl (lv_at hl 2 rfl) ?_
    refine lv_iconst (v := 3) hx hb dX3_reason_12 (by decide) ?_
    refine lv_aload_n hx hb dX3_reason_13 rfl (lv_at hl 0 rfl) ?_
    refine lv_iload_n hx hb dX3_reason_14 rfl (lv_at hl 1 rfl) ?_
    refine lv_iconst (v := 0) hx hb dX3_reason_15 (by decide) ?_
    refine z_E (va_runV (As := [.int (nI mb), .int 0]) (rest := [.int 3, .int am]) ⟨hx, hb, hml, hown, hts⟩ (zc_X3_of l D cA a M N h mb 0 (by omega) (by omega)) (cwV 2 hts gX3_reason_X3_of rfl rfl rfl zy_X3_of ⟨Nat.le_of_ble_eq_true rfl, Nat.le_of_ble_eq_true rfl⟩) (z_preV (ci := 3) hK hP hD rfl rfl) rfl rfl hl.1 rfl (lv_room (Nat.le_of_ble_eq_true rfl)) dX3_reason_16 ⟨Nat.zero_le _, Nat.zero_le _⟩) rfl ?_
    refine lv_imul hx hb dX3_reason_19 ?_
    refine lv_icmp_le (tgt := 25) hx hb dX3_reason_20 (by decide) (fun c_2 => ?_) (fun c_2 => ?_)
    · refine lv_iload_n hx hb dX3_reason_25 rfl (lv_at hl 2 rfl) ?_
      refine lv_aload_n hx hb dX3_reason_26 rfl (lv_at hl 0 rfl) ?_
      refine lv_iload_n hx hb dX3_reason_27 rfl (lv_at hl 1 rfl) ?_
      refine z_E (va_runV (As := [.int (nI mb)]) (rest := [.int am]) ⟨hx, hb, hml, hown, hts⟩ (zc_X3_cover l D cA a M N h mb (by omega)) (cwV 1 hts gX3_reason_X3_cover rfl rfl rfl zy_X3_cover ⟨Nat.le_of_ble_eq_true rfl, Nat.le_of_ble_eq_true rfl⟩) (z_preV (ci := 3) hK hP hD rfl rfl) rfl rfl hl.1 rfl (lv_room (Nat.le_of_ble_eq_true rfl)) dX3_reason_28 ⟨Nat.zero_le _, Nat.zero_le _⟩) rfl ?_
      refine lv_icmp_le (tgt := 38) hx hb dX3_reason_31 (by decide) (fun c_3 => ?_) (fun c_3 => ?_)
      · refine lv_aload_n hx hb dX3_reason_38 rfl (lv_at hl 0 rfl) ?_
        refine va_get (D := D) (ci := 3) (v := .ref (a 1)) (C := RX3) (T := TX3) (N := 14) hx hb hts hi3 hown hK hP 0 rfl rfl 1 (by decide) (hts (.fieldLink RX3 7 "PledgedLoansModel" "s" "[I") (List.mem_of_getElem? (i := 1) rfl)) (fun _ h9 => h9) rfl dX3_reason_39 ?_
        refine lv_iconst (v := 0) hx hb dX3_reason_42 (by decide) ?_
        refine z_iald (j := 0) hx hb hK hP 1 0 rfl rfl dX3_reason_43 (by omega) (by decide) ?_
        refine lv_iload_n hx hb dX3_reason_44 rfl (lv_at hl 2 rfl) ?_
        refine lv_iload_n hx hb dX3_reason_45 rfl (lv_at hl 2 rfl) ?_
        refine lv_aload_n hx hb dX3_reason_46 rfl (lv_at hl 0 rfl) ?_
        refine va_get (D := D) (ci := 3) (v := .ref (a 1)) (C := RX3) (T := TX3) (N := 14) hx hb hts hi3 hown hK hP 0 rfl rfl 1 (by decide) (hts (.fieldLink RX3 7 "PledgedLoansModel" "s" "[I") (List.mem_of_getElem? (i := 1) rfl)) (fun _ h9 => h9) rfl dX3_reason_47 ?_
        refine lv_bipush (v := 8) hx hb dX3_reason_50 (by decide) ?_
        refine z_iald (j := 8) hx hb hK hP 1 0 rfl rfl dX3_reason_52 (by omega) (by decide) ?_
        refine z_E (va_runS (As := [.int am, .int (M 0 8)]) (rest := [.int am, .int (M 0 0)]) ⟨hx, hb, hml, hown, hts⟩ (zc_X3_fee l D cA am (M 0 8)) (va_cwS 2 hts gX3_reason_X3_fee rfl rfl rfl zy_X3_fee.2 ⟨Nat.le_of_ble_eq_true rfl, Nat.le_of_ble_eq_true rfl⟩) (z_preS hK z_P0 (z_D0 (A := fun _ => True))) rfl rfl hl.1 rfl (lv_room (Nat.le_of_ble_eq_true rfl)) dX3_reason_53 ⟨Nat.zero_le _, Nat.zero_le _⟩) rfl ?_
        refine lv_isub hx hb dX3_reason_56 ?_
        refine lv_icmp_ge (tgt := 64) hx hb dX3_reason_57 (by decide) (fun c_4 => ?_) (fun c_4 => ?_)
        · refine lv_iconst (v := 0) hx hb dX3_reason_64 (by decide) ?_
          exact z_iretE hx hb hr hlocks dX3_reason_65 (by simp only [f_X3_reason, if_pos c_1, if_pos c_2, if_pos c_3, if_pos c_4])
        · refine lv_iconst (v := 4) hx hb dX3_reason_60 (by decide) ?_
          refine lv_goto (tgt := 65) hx hb dX3_reason_61 (by decide) ?_
          exact z_iretE hx hb hr hlocks dX3_reason_65 (by simp only [f_X3_reason, if_pos c_1, if_pos c_2, if_pos c_3, if_neg c_4])
      · refine lv_iconst (v := 3) hx hb dX3_reason_34 (by decide) ?_
        refine lv_goto (tgt := 65) hx hb dX3_reason_35 (by decide) ?_
        exact z_iretE hx hb hr hlocks dX3_reason_65 (by simp only [f_X3_reason, if_pos c_1, if_pos c_2, if_neg c_3])
    · refine lv_iconst (v := 2) hx hb dX3_reason_23 (by decide) ?_
      exact z_iretE hx hb hr hlocks dX3_reason_24 (by simp only [f_X3_reason, if_pos c_1, if_neg c_2])
  · refine lv_iconst (v := 1) hx hb dX3_reason_9 (by decide) ?_
    exact z_iretE hx hb hr hlocks dX3_reason_10 (by simp only [f_X3_reason, if_neg c_1])

theorem zy_X3_refuses : yX3_refuses.cls = RX3 ∧ yX3_refuses.cls ≠ "java/lang/invoke/MethodHandle" ∧ yX3_refuses.cls ≠ "java/lang/invoke/VarHandle" ∧ (parseMethodDescriptor yX3_refuses.desc).map (fun d => d.parameters.length) = some 1 := by decide +kernel
def f_X3_refuses (M : BK) (td : Int32) : Int32 × BK :=
  (td, uB M 0 6 ((M 0 6) + 1))

set_option maxHeartbeats 4000000 in
set_option maxRecDepth 100000 in
theorem zc_X3_refuses (l : Launch) (D : va_G) (cA : Nat → ClassId) (a : Nat → Nat) (M : BK) (N : Nat → Nat) (h : Int64) (td : Int32)  : Met l yX3_refuses wsX3_refuses (zrm 0 0) (zPc D cA [.ref (a 0), .int td] (moW cA a M N h)) (zM D (moW cA a M N h) (moW cA a ((f_X3_refuses M td).2) N h) (some (.int ((f_X3_refuses M td).1)))) 0 0 (zfr (moW cA a M N h)) := by
  refine Met.ofW (cc := cX3_refuses) (maxL := 2) (ret := (some .int)) (by decide) rfl ?_
  intro p e s m args below meth c s₁ Bd hml hv
  obtain ⟨rfl, hP, hK, hD0⟩ := hv
  have hx := Bd.exec
  have hb := Bd.bytes
  have hr := Bd.returns
  have hts := atoms_spec (ws := wsX3_refuses) Bd.pre
  have hown : s.vm.findClass RX3 = some m.cls := findClass_of_methodNamed Bd.named
  have hlocks := Bd.notSynchronized
  have hD := z_Dfr hD0
  have hS : va_S (zfr (moW cA a M N h)) s.heap s.heap [] := va_S.rf
  have hi3 : ∀ w ∈ wsX30, w ∈ wsX3_refuses := fun w h => List.mem_cons_of_mem _ (List.mem_append_right _ h)
  have hl := lv_entry ([.ref (a 0), .int td]) (n := 2) (Nat.le_of_ble_eq_true rfl)
  rw [lg_entry_eq]
  generalize (lg_sl ([.ref (a 0), .int td]) ++ List.replicate (2 - (lg_sl ([.ref (a 0), .int td])).length) Slot.unset).toArray = ls at hl ⊢
  have hl : lv_has ls 2 [(0, .ref (a 0)), (1, .int td)] := hl
  refine lv_aload_n hx hb dX3_refuses_0 rfl (lv_at hl 0 rfl) ?_
  refine va_get (D := D) (ci := 3) (v := .ref (a 1)) (C := RX3) (T := TX3) (N := 14) hx hb hts hi3 hown hK hP 0 rfl rfl 1 (by decide) (hts (.fieldLink RX3 7 "PledgedLoansModel" "s" "[I") (List.mem_of_getElem? (i := 1) rfl)) (fun _ h9 => h9) rfl dX3_refuses_1 ?_
  refine lv_bipush (v := 6) hx hb dX3_refuses_4 (by decide) ?_
  refine lv_dup2_11 hx hb dX3_refuses_6 rfl rfl ?_
  refine z_iald (j := 6) hx hb hK hP 1 0 rfl rfl dX3_refuses_7 (by omega) (by decide) ?_
  refine lv_iconst (v := 1) hx hb dX3_refuses_8 (by decide) ?_
  refine lv_iadd hx hb dX3_refuses_9 ?_
  refine z_iast (j := 6) hx hb hK hP hD hS 1 0 rfl rfl dX3_refuses_10 (by omega) (by decide) (moW cA a (uB M 0 6 ((M 0 6) + 1)) N h) rfl (fun H locs hP hD hS => ?_)
  refine lv_iload_n hx hb dX3_refuses_11 rfl (lv_at hl 1 rfl) ?_
  exact z_iretM (w1 := moW cA a (uB M 0 6 ((M 0 6) + 1)) N h) hx hb hr hlocks dX3_refuses_12 hP hS (by first | (simp only [f_X3_refuses]; done) | rfl) (by first | (simp only [f_X3_refuses]; done) | rfl)

theorem zy_X3_paysIn : yX3_paysIn.cls = RX3 ∧ yX3_paysIn.cls ≠ "java/lang/invoke/MethodHandle" ∧ yX3_paysIn.cls ≠ "java/lang/invoke/VarHandle" ∧ (parseMethodDescriptor yX3_paysIn.desc).map (fun d => d.parameters.length) = some 2 := by decide +kernel
def f_X3_paysIn (M : BK) (mb : Nat) (am : Int32) : Int32 × BK :=
  if ((f_X3_of M mb 0) + am) ≤ 90000 then
    let M_2 : BK := f_X3_adds M mb 0 am
    (f_X3_of (uB M_2 0 0 ((M_2 0 0) + am)) mb 0, uB M_2 0 0 ((M_2 0 0) + am))
  else
    let M_3 : BK := (f_X3_refuses M (-1)).2
    ((f_X3_refuses M (-1)).1, M_3)

set_option maxHeartbeats 4000000 in
set_option maxRecDepth 100000 in
theorem zc_X3_paysIn (l : Launch) (D : va_G) (cA : Nat → ClassId) (a : Nat → Nat) (M : BK) (N : Nat → Nat) (h : Int64) (mb : Nat) (am : Int32) (hmb : mb < 6) : Met l yX3_paysIn wsX3_paysIn (zrm 1 23) (zPc D cA [.ref (a 0), .int (nI mb), .int am] (moW cA a M N h)) (zM D (moW cA a M N h) (moW cA a ((f_X3_paysIn M mb am).2) N h) (some (.int ((f_X3_paysIn M mb am).1)))) 0 0 (zfr (moW cA a M N h)) := by
  refine Met.ofW (cc := cX3_paysIn) (maxL := 3) (ret := (some .int)) (by decide) rfl ?_
  intro p e s m args below meth c s₁ Bd hml hv
  obtain ⟨rfl, hP, hK, hD0⟩ := hv
  have hx := Bd.exec
  have hb := Bd.bytes
  have hr := Bd.returns
  have hts := atoms_spec (ws := wsX3_paysIn) Bd.pre
  have hown : s.vm.findClass RX3 = some m.cls := findClass_of_methodNamed Bd.named
  have hlocks := Bd.notSynchronized
  have hD := z_Dfr hD0
  have hS : va_S (zfr (moW cA a M N h)) s.heap s.heap [] := va_S.rf
  have hi3 : ∀ w ∈ wsX30, w ∈ wsX3_paysIn := fun w h => List.mem_cons_of_mem _ (List.mem_append_right _ h)
  have hl := lv_entry ([.ref (a 0), .int (nI mb), .int am]) (n := 3) (Nat.le_of_ble_eq_true rfl)
  rw [lg_entry_eq]
  generalize (lg_sl ([.ref (a 0), .int (nI mb), .int am]) ++ List.replicate (3 - (lg_sl ([.ref (a 0), .int (nI mb), .int am])).length) Slot.unset).toArray = ls at hl ⊢
  have hl : lv_has ls 3 [(0, .ref (a 0)), (1, .int (nI mb)), (2, .int am)] := hl
  refine lv_aload_n hx hb dX3_paysIn_0 rfl (lv_at hl 0 rfl) ?_
  refine lv_iload_n hx hb dX3_paysIn_1 rfl (lv_at hl 1 rfl) ?_
  refine lv_iconst (v := 0) hx hb dX3_paysIn_2 (by decide) ?_
  refine z_E (va_runV (As := [.int (nI mb), .int 0]) (rest := []) ⟨hx, hb, hml, hown, hts⟩ (zc_X3_of l D cA a M N h mb 0 (by omega) (by omega)) (cwV 2 hts gX3_paysIn_X3_of rfl rfl rfl zy_X3_of ⟨Nat.le_of_ble_eq_true rfl, Nat.le_of_ble_eq_true rfl⟩) (z_preV (ci := 3) hK hP hD rfl rfl) rfl rfl hl.1 rfl (lv_room (Nat.le_of_ble_eq_true rfl)) dX3_paysIn_3 ⟨Nat.zero_le _, Nat.zero_le _⟩) rfl ?_
  refine lv_iload_n hx hb dX3_paysIn_6 rfl (lv_at hl 2 rfl) ?_
  refine lv_iadd hx hb dX3_paysIn_7 ?_
  refine lv_ldc hx hb hown (hts (.constant RX3 54 (90000)) (List.mem_of_getElem? (i := 1) rfl)) dX3_paysIn_8 ?_
  refine lv_icmp_le (tgt := 19) hx hb dX3_paysIn_10 (by decide) (fun c_1 => ?_) (fun c_1 => ?_)
  · refine lv_aload_n hx hb dX3_paysIn_19 rfl (lv_at hl 0 rfl) ?_
    refine lv_iload_n hx hb dX3_paysIn_20 rfl (lv_at hl 1 rfl) ?_
    refine lv_iconst (v := 0) hx hb dX3_paysIn_21 (by decide) ?_
    refine lv_iload_n hx hb dX3_paysIn_22 rfl (lv_at hl 2 rfl) ?_
    refine z_M (X := ([] : va_W)) (Z := ([] : va_W)) (va_runV (As := [.int (nI mb), .int 0, .int am]) (rest := []) ⟨hx, hb, hml, hown, hts⟩ (zc_X3_adds l D cA a M N h mb 0 am (by omega) (by omega)) (cwV 3 hts gX3_paysIn_X3_adds rfl rfl rfl zy_X3_adds ⟨Nat.le_of_ble_eq_true rfl, Nat.le_of_ble_eq_true rfl⟩) (z_preV (ci := 3) hK hP hD rfl rfl) rfl rfl hl.1 rfl (lv_room (Nat.le_of_ble_eq_true rfl)) dX3_paysIn_23 ⟨Nat.zero_le _, Nat.zero_le _⟩) hP hD hS rfl rfl (fun H locs hP hD hS => ?_)
    have hP : va_P D vwCl (moW cA a (f_X3_adds M mb 0 am) N h) H := hP
    have hD : va_D _ (moW cA a (f_X3_adds M mb 0 am) N h) := hD
    obtain ⟨M_2, eM_2⟩ : ∃ z9 : BK, z9 = f_X3_adds M mb 0 am := ⟨_, rfl⟩
    rw [← eM_2] at hP hD
    refine lv_aload_n hx hb dX3_paysIn_26 rfl (lv_at hl 0 rfl) ?_
    refine va_get (D := D) (ci := 3) (v := .ref (a 1)) (C := RX3) (T := TX3) (N := 14) hx hb hts hi3 hown hK hP 0 rfl rfl 1 (by decide) (hts (.fieldLink RX3 7 "PledgedLoansModel" "s" "[I") (List.mem_of_getElem? (i := 2) rfl)) (fun _ h9 => h9) rfl dX3_paysIn_27 ?_
    refine lv_iconst (v := 0) hx hb dX3_paysIn_30 (by decide) ?_
    refine lv_dup2_11 hx hb dX3_paysIn_31 rfl rfl ?_
    refine z_iald (j := 0) hx hb hK hP 1 0 rfl rfl dX3_paysIn_32 (by omega) (by decide) ?_
    refine lv_iload_n hx hb dX3_paysIn_33 rfl (lv_at hl 2 rfl) ?_
    refine lv_iadd hx hb dX3_paysIn_34 ?_
    refine z_iast (j := 0) hx hb hK hP hD hS 1 0 rfl rfl dX3_paysIn_35 (by omega) (by decide) (moW cA a (uB M_2 0 0 ((M_2 0 0) + am)) N h) rfl (fun H locs hP hD hS => ?_)
    refine lv_aload_n hx hb dX3_paysIn_36 rfl (lv_at hl 0 rfl) ?_
    refine lv_iload_n hx hb dX3_paysIn_37 rfl (lv_at hl 1 rfl) ?_
    refine lv_iconst (v := 0) hx hb dX3_paysIn_38 (by decide) ?_
    refine z_E (va_runV (As := [.int (nI mb), .int 0]) (rest := []) ⟨hx, hb, hml, hown, hts⟩ (zc_X3_of l D cA a (uB M_2 0 0 ((M_2 0 0) + am)) N h mb 0 (by omega) (by omega)) (cwV 2 hts gX3_paysIn_X3_of rfl rfl rfl zy_X3_of ⟨Nat.le_of_ble_eq_true rfl, Nat.le_of_ble_eq_true rfl⟩) (z_preV (ci := 3) hK hP hD rfl rfl) rfl rfl hl.1 rfl (lv_room (Nat.le_of_ble_eq_true rfl)) dX3_paysIn_39 ⟨Nat.zero_le _, Nat.zero_le _⟩) rfl ?_
    exact z_iretM (w1 := moW cA a (uB M_2 0 0 ((M_2 0 0) + am)) N h) hx hb hr hlocks dX3_paysIn_42 hP hS (by subst eM_2; simp only [f_X3_paysIn, if_pos c_1]) (by subst eM_2; simp only [f_X3_paysIn, if_pos c_1])
  · refine lv_aload_n hx hb dX3_paysIn_13 rfl (lv_at hl 0 rfl) ?_
    refine lv_iconst (v := (-1)) hx hb dX3_paysIn_14 (by decide) ?_
    refine z_M (X := ([] : va_W)) (Z := ([] : va_W)) (va_runV (As := [.int (-1)]) (rest := []) ⟨hx, hb, hml, hown, hts⟩ (zc_X3_refuses l D cA a M N h (-1)) (cwV 1 hts gX3_paysIn_X3_refuses rfl rfl rfl zy_X3_refuses ⟨Nat.le_of_ble_eq_true rfl, Nat.le_of_ble_eq_true rfl⟩) (z_preV (ci := 3) hK hP hD rfl rfl) rfl rfl hl.1 rfl (lv_room (Nat.le_of_ble_eq_true rfl)) dX3_paysIn_15 ⟨Nat.zero_le _, Nat.zero_le _⟩) hP hD hS rfl rfl (fun H locs hP hD hS => ?_)
    have hP : va_P D vwCl (moW cA a ((f_X3_refuses M (-1)).2) N h) H := hP
    have hD : va_D _ (moW cA a ((f_X3_refuses M (-1)).2) N h) := hD
    obtain ⟨M_3, eM_3⟩ : ∃ z9 : BK, z9 = (f_X3_refuses M (-1)).2 := ⟨_, rfl⟩
    rw [← eM_3] at hP hD
    exact z_iretM (w1 := moW cA a M_3 N h) hx hb hr hlocks dX3_paysIn_18 hP hS (by subst eM_3; simp only [f_X3_paysIn, if_neg c_1]) (by subst eM_3; simp only [f_X3_paysIn, if_neg c_1])

theorem zy_X3_paysOut : yX3_paysOut.cls = RX3 ∧ yX3_paysOut.cls ≠ "java/lang/invoke/MethodHandle" ∧ yX3_paysOut.cls ≠ "java/lang/invoke/VarHandle" ∧ (parseMethodDescriptor yX3_paysOut.desc).map (fun d => d.parameters.length) = some 2 := by decide +kernel
def f_X3_paysOut (M : BK) (mb : Nat) (am : Int32) : Int32 × BK :=
  if am ≤ (f_X3_free M mb) then
    if am ≤ (M 0 0) then
      let M_3 : BK := f_X3_adds M mb 0 (-am)
      (0, uB M_3 0 0 ((M_3 0 0) - am))
    else
      let M_4 : BK := (f_X3_refuses M 2).2
      ((f_X3_refuses M 2).1, M_4)
  else
    let M_5 : BK := (f_X3_refuses M 1).2
    ((f_X3_refuses M 1).1, M_5)

set_option maxHeartbeats 4000000 in
set_option maxRecDepth 100000 in
theorem zc_X3_paysOut (l : Launch) (D : va_G) (cA : Nat → ClassId) (a : Nat → Nat) (M : BK) (N : Nat → Nat) (h : Int64) (mb : Nat) (am : Int32) (hmb : mb < 6) : Met l yX3_paysOut wsX3_paysOut (zrm 4 88) (zPc D cA [.ref (a 0), .int (nI mb), .int am] (moW cA a M N h)) (zM D (moW cA a M N h) (moW cA a ((f_X3_paysOut M mb am).2) N h) (some (.int ((f_X3_paysOut M mb am).1)))) 0 0 (zfr (moW cA a M N h)) := by
  refine Met.ofW (cc := cX3_paysOut) (maxL := 3) (ret := (some .int)) (by decide) rfl ?_
  intro p e s m args below meth c s₁ Bd hml hv
  obtain ⟨rfl, hP, hK, hD0⟩ := hv
  have hx := Bd.exec
  have hb := Bd.bytes
  have hr := Bd.returns
  have hts := atoms_spec (ws := wsX3_paysOut) Bd.pre
  have hown : s.vm.findClass RX3 = some m.cls := findClass_of_methodNamed Bd.named
  have hlocks := Bd.notSynchronized
  have hD := z_Dfr hD0
  have hS : va_S (zfr (moW cA a M N h)) s.heap s.heap [] := va_S.rf
  have hi3 : ∀ w ∈ wsX30, w ∈ wsX3_paysOut := fun w h => List.mem_cons_of_mem _ (List.mem_append_right _ h)
  have hl := lv_entry ([.ref (a 0), .int (nI mb), .int am]) (n := 3) (Nat.le_of_ble_eq_true rfl)
  rw [lg_entry_eq]
  generalize (lg_sl ([.ref (a 0), .int (nI mb), .int am]) ++ List.replicate (3 - (lg_sl ([.ref (a 0), .int (nI mb), .int am])).length) Slot.unset).toArray = ls at hl ⊢
  have hl : lv_has ls 3 [(0, .ref (a 0)), (1, .int (nI mb)), (2, .int am)] := hl
  refine lv_iload_n hx hb dX3_paysOut_0 rfl (lv_at hl 2 rfl) ?_
  refine lv_aload_n hx hb dX3_paysOut_1 rfl (lv_at hl 0 rfl) ?_
  refine lv_iload_n hx hb dX3_paysOut_2 rfl (lv_at hl 1 rfl) ?_
  refine z_E (va_runV (As := [.int (nI mb)]) (rest := [.int am]) ⟨hx, hb, hml, hown, hts⟩ (zc_X3_free l D cA a M N h mb (by omega)) (cwV 1 hts gX3_paysOut_X3_free rfl rfl rfl zy_X3_free ⟨Nat.le_of_ble_eq_true rfl, Nat.le_of_ble_eq_true rfl⟩) (z_preV (ci := 3) hK hP hD rfl rfl) rfl rfl hl.1 rfl (lv_room (Nat.le_of_ble_eq_true rfl)) dX3_paysOut_3 ⟨Nat.zero_le _, Nat.zero_le _⟩) rfl ?_
  refine lv_icmp_le (tgt := 15) hx hb dX3_paysOut_6 (by decide) (fun c_1 => ?_) (fun c_1 => ?_)
  · refine lv_aload_n hx hb dX3_paysOut_15 rfl (lv_at hl 0 rfl) ?_
    refine va_get (D := D) (ci := 3) (v := .ref (a 1)) (C := RX3) (T := TX3) (N := 14) hx hb hts hi3 hown hK hP 0 rfl rfl 1 (by decide) (hts (.fieldLink RX3 7 "PledgedLoansModel" "s" "[I") (List.mem_of_getElem? (i := 1) rfl)) (fun _ h9 => h9) rfl dX3_paysOut_16 ?_
    refine lv_iconst (v := 0) hx hb dX3_paysOut_19 (by decide) ?_
    refine z_iald (j := 0) hx hb hK hP 1 0 rfl rfl dX3_paysOut_20 (by omega) (by decide) ?_
    refine lv_iload_n hx hb dX3_paysOut_21 rfl (lv_at hl 2 rfl) ?_
    refine lv_icmp_ge (tgt := 31) hx hb dX3_paysOut_22 (by decide) (fun c_2 => ?_) (fun c_2 => ?_)
    · refine lv_aload_n hx hb dX3_paysOut_31 rfl (lv_at hl 0 rfl) ?_
      refine lv_iload_n hx hb dX3_paysOut_32 rfl (lv_at hl 1 rfl) ?_
      refine lv_iconst (v := 0) hx hb dX3_paysOut_33 (by decide) ?_
      refine lv_iload_n hx hb dX3_paysOut_34 rfl (lv_at hl 2 rfl) ?_
      refine lv_ineg hx hb dX3_paysOut_35 ?_
      refine z_M (X := ([] : va_W)) (Z := ([] : va_W)) (va_runV (As := [.int (nI mb), .int 0, .int (-am)]) (rest := []) ⟨hx, hb, hml, hown, hts⟩ (zc_X3_adds l D cA a M N h mb 0 (-am) (by omega) (by omega)) (cwV 3 hts gX3_paysOut_X3_adds rfl rfl rfl zy_X3_adds ⟨Nat.le_of_ble_eq_true rfl, Nat.le_of_ble_eq_true rfl⟩) (z_preV (ci := 3) hK hP hD rfl rfl) rfl rfl hl.1 rfl (lv_room (Nat.le_of_ble_eq_true rfl)) dX3_paysOut_36 ⟨Nat.zero_le _, Nat.zero_le _⟩) hP hD hS rfl rfl (fun H locs hP hD hS => ?_)
      have hP : va_P D vwCl (moW cA a (f_X3_adds M mb 0 (-am)) N h) H := hP
      have hD : va_D _ (moW cA a (f_X3_adds M mb 0 (-am)) N h) := hD
      obtain ⟨M_3, eM_3⟩ : ∃ z9 : BK, z9 = f_X3_adds M mb 0 (-am) := ⟨_, rfl⟩
      rw [← eM_3] at hP hD
      refine lv_aload_n hx hb dX3_paysOut_39 rfl (lv_at hl 0 rfl) ?_
      refine va_get (D := D) (ci := 3) (v := .ref (a 1)) (C := RX3) (T := TX3) (N := 14) hx hb hts hi3 hown hK hP 0 rfl rfl 1 (by decide) (hts (.fieldLink RX3 7 "PledgedLoansModel" "s" "[I") (List.mem_of_getElem? (i := 1) rfl)) (fun _ h9 => h9) rfl dX3_paysOut_40 ?_
      refine lv_iconst (v := 0) hx hb dX3_paysOut_43 (by decide) ?_
      refine lv_dup2_11 hx hb dX3_paysOut_44 rfl rfl ?_
      refine z_iald (j := 0) hx hb hK hP 1 0 rfl rfl dX3_paysOut_45 (by omega) (by decide) ?_
      refine lv_iload_n hx hb dX3_paysOut_46 rfl (lv_at hl 2 rfl) ?_
      refine lv_isub hx hb dX3_paysOut_47 ?_
      refine z_iast (j := 0) hx hb hK hP hD hS 1 0 rfl rfl dX3_paysOut_48 (by omega) (by decide) (moW cA a (uB M_3 0 0 ((M_3 0 0) - am)) N h) rfl (fun H locs hP hD hS => ?_)
      refine lv_iconst (v := 0) hx hb dX3_paysOut_49 (by decide) ?_
      exact z_iretM (w1 := moW cA a (uB M_3 0 0 ((M_3 0 0) - am)) N h) hx hb hr hlocks dX3_paysOut_50 hP hS (by subst eM_3; simp only [f_X3_paysOut, if_pos c_1, if_pos c_2]) (by subst eM_3; simp only [f_X3_paysOut, if_pos c_1, if_pos c_2])
    · refine lv_aload_n hx hb dX3_paysOut_25 rfl (lv_at hl 0 rfl) ?_
      refine lv_iconst (v := 2) hx hb dX3_paysOut_26 (by decide) ?_
      refine z_M (X := ([] : va_W)) (Z := ([] : va_W)) (va_runV (As := [.int 2]) (rest := []) ⟨hx, hb, hml, hown, hts⟩ (zc_X3_refuses l D cA a M N h 2) (cwV 1 hts gX3_paysOut_X3_refuses rfl rfl rfl zy_X3_refuses ⟨Nat.le_of_ble_eq_true rfl, Nat.le_of_ble_eq_true rfl⟩) (z_preV (ci := 3) hK hP hD rfl rfl) rfl rfl hl.1 rfl (lv_room (Nat.le_of_ble_eq_true rfl)) dX3_paysOut_27 ⟨Nat.zero_le _, Nat.zero_le _⟩) hP hD hS rfl rfl (fun H locs hP hD hS => ?_)
      have hP : va_P D vwCl (moW cA a ((f_X3_refuses M 2).2) N h) H := hP
      have hD : va_D _ (moW cA a ((f_X3_refuses M 2).2) N h) := hD
      obtain ⟨M_4, eM_4⟩ : ∃ z9 : BK, z9 = (f_X3_refuses M 2).2 := ⟨_, rfl⟩
      rw [← eM_4] at hP hD
      exact z_iretM (w1 := moW cA a M_4 N h) hx hb hr hlocks dX3_paysOut_30 hP hS (by subst eM_4; simp only [f_X3_paysOut, if_pos c_1, if_neg c_2]) (by subst eM_4; simp only [f_X3_paysOut, if_pos c_1, if_neg c_2])
  · refine lv_aload_n hx hb dX3_paysOut_9 rfl (lv_at hl 0 rfl) ?_
    refine lv_iconst (v := 1) hx hb dX3_paysOut_10 (by decide) ?_
    refine z_M (X := ([] : va_W)) (Z := ([] : va_W)) (va_runV (As := [.int 1]) (rest := []) ⟨hx, hb, hml, hown, hts⟩ (zc_X3_refuses l D cA a M N h 1) (cwV 1 hts gX3_paysOut_X3_refuses rfl rfl rfl zy_X3_refuses ⟨Nat.le_of_ble_eq_true rfl, Nat.le_of_ble_eq_true rfl⟩) (z_preV (ci := 3) hK hP hD rfl rfl) rfl rfl hl.1 rfl (lv_room (Nat.le_of_ble_eq_true rfl)) dX3_paysOut_11 ⟨Nat.zero_le _, Nat.zero_le _⟩) hP hD hS rfl rfl (fun H locs hP hD hS => ?_)
    have hP : va_P D vwCl (moW cA a ((f_X3_refuses M 1).2) N h) H := hP
    have hD : va_D _ (moW cA a ((f_X3_refuses M 1).2) N h) := hD
    obtain ⟨M_5, eM_5⟩ : ∃ z9 : BK, z9 = (f_X3_refuses M 1).2 := ⟨_, rfl⟩
    rw [← eM_5] at hP hD
    exact z_iretM (w1 := moW cA a M_5 N h) hx hb hr hlocks dX3_paysOut_14 hP hS (by subst eM_5; simp only [f_X3_paysOut, if_neg c_1]) (by subst eM_5; simp only [f_X3_paysOut, if_neg c_1])

theorem zy_X3_pledges : yX3_pledges.cls = RX3 ∧ yX3_pledges.cls ≠ "java/lang/invoke/MethodHandle" ∧ yX3_pledges.cls ≠ "java/lang/invoke/VarHandle" ∧ (parseMethodDescriptor yX3_pledges.desc).map (fun d => d.parameters.length) = some 3 := by decide +kernel
def f_X3_pledges (M : BK) (mb : Nat) (br : Nat) (am : Int32) : Int32 × BK :=
  if am ≤ (f_X3_free M mb) then
    let M_2 : BK := uB M 0 ((46 + (6 * mb)) + br) ((M 0 ((46 + (6 * mb)) + br)) + am)
    (f_X3_pledgeOf M_2 mb br, M_2)
  else
    let M_3 : BK := (f_X3_refuses M (-1)).2
    ((f_X3_refuses M (-1)).1, M_3)

set_option maxHeartbeats 4000000 in
set_option maxRecDepth 100000 in
theorem zc_X3_pledges (l : Launch) (D : va_G) (cA : Nat → ClassId) (a : Nat → Nat) (M : BK) (N : Nat → Nat) (h : Int64) (mb : Nat) (br : Nat) (am : Int32) (hmb : mb < 6) (hbr : br < 6) : Met l yX3_pledges wsX3_pledges (zrm 4 88) (zPc D cA [.ref (a 0), .int (nI mb), .int (nI br), .int am] (moW cA a M N h)) (zM D (moW cA a M N h) (moW cA a ((f_X3_pledges M mb br am).2) N h) (some (.int ((f_X3_pledges M mb br am).1)))) 0 0 (zfr (moW cA a M N h)) := by
  refine Met.ofW (cc := cX3_pledges) (maxL := 4) (ret := (some .int)) (by decide) rfl ?_
  intro p e s m args below meth c s₁ Bd hml hv
  obtain ⟨rfl, hP, hK, hD0⟩ := hv
  have hx := Bd.exec
  have hb := Bd.bytes
  have hr := Bd.returns
  have hts := atoms_spec (ws := wsX3_pledges) Bd.pre
  have hown : s.vm.findClass RX3 = some m.cls := findClass_of_methodNamed Bd.named
  have hlocks := Bd.notSynchronized
  have hD := z_Dfr hD0
  have hS : va_S (zfr (moW cA a M N h)) s.heap s.heap [] := va_S.rf
  have hi3 : ∀ w ∈ wsX30, w ∈ wsX3_pledges := fun w h => List.mem_cons_of_mem _ (List.mem_append_right _ h)
  have hl := lv_entry ([.ref (a 0), .int (nI mb), .int (nI br), .int am]) (n := 4) (Nat.le_of_ble_eq_true rfl)
  rw [lg_entry_eq]
  generalize (lg_sl ([.ref (a 0), .int (nI mb), .int (nI br), .int am]) ++ List.replicate (4 - (lg_sl ([.ref (a 0), .int (nI mb), .int (nI br), .int am])).length) Slot.unset).toArray = ls at hl ⊢
  have hl : lv_has ls 4 [(0, .ref (a 0)), (1, .int (nI mb)), (2, .int (nI br)), (3, .int am)] := hl
  refine lv_iload_n hx hb dX3_pledges_0 rfl (lv_at hl 3 rfl) ?_
  refine lv_aload_n hx hb dX3_pledges_1 rfl (lv_at hl 0 rfl) ?_
  refine lv_iload_n hx hb dX3_pledges_2 rfl (lv_at hl 1 rfl) ?_
  refine z_E (va_runV (As := [.int (nI mb)]) (rest := [.int am]) ⟨hx, hb, hml, hown, hts⟩ (zc_X3_free l D cA a M N h mb (by omega)) (cwV 1 hts gX3_pledges_X3_free rfl rfl rfl zy_X3_free ⟨Nat.le_of_ble_eq_true rfl, Nat.le_of_ble_eq_true rfl⟩) (z_preV (ci := 3) hK hP hD rfl rfl) rfl rfl hl.1 rfl (lv_room (Nat.le_of_ble_eq_true rfl)) dX3_pledges_3 ⟨Nat.zero_le _, Nat.zero_le _⟩) rfl ?_
  refine lv_icmp_le (tgt := 15) hx hb dX3_pledges_6 (by decide) (fun c_1 => ?_) (fun c_1 => ?_)
  · refine lv_aload_n hx hb dX3_pledges_15 rfl (lv_at hl 0 rfl) ?_
    refine va_get (D := D) (ci := 3) (v := .ref (a 1)) (C := RX3) (T := TX3) (N := 14) hx hb hts hi3 hown hK hP 0 rfl rfl 1 (by decide) (hts (.fieldLink RX3 7 "PledgedLoansModel" "s" "[I") (List.mem_of_getElem? (i := 1) rfl)) (fun _ h9 => h9) rfl dX3_pledges_16 ?_
    refine lv_bipush (v := 46) hx hb dX3_pledges_19 (by decide) ?_
    refine lv_bipush (v := 6) hx hb dX3_pledges_21 (by decide) ?_
    refine lv_iload_n hx hb dX3_pledges_23 rfl (lv_at hl 1 rfl) ?_
    refine lv_imul hx hb dX3_pledges_24 ?_
    refine z_top (pk_mul 6 mb) ?_
    refine lv_iadd hx hb dX3_pledges_25 ?_
    refine z_top (nI_add 46 (6 * mb)) ?_
    refine lv_iload_n hx hb dX3_pledges_26 rfl (lv_at hl 2 rfl) ?_
    refine lv_iadd hx hb dX3_pledges_27 ?_
    refine z_top (nI_add (46 + (6 * mb)) br) ?_
    refine lv_dup2_11 hx hb dX3_pledges_28 rfl rfl ?_
    refine z_iald (j := (46 + (6 * mb)) + br) hx hb hK hP 1 0 rfl rfl dX3_pledges_29 (by omega) (by decide) ?_
    refine lv_iload_n hx hb dX3_pledges_30 rfl (lv_at hl 3 rfl) ?_
    refine lv_iadd hx hb dX3_pledges_31 ?_
    refine z_iast (j := (46 + (6 * mb)) + br) hx hb hK hP hD hS 1 0 rfl rfl dX3_pledges_32 (by omega) (by decide) (moW cA a (uB M 0 ((46 + (6 * mb)) + br) ((M 0 ((46 + (6 * mb)) + br)) + am)) N h) rfl (fun H locs hP hD hS => ?_)
    obtain ⟨M_2, eM_2⟩ : ∃ z9 : BK, z9 = uB M 0 ((46 + (6 * mb)) + br) ((M 0 ((46 + (6 * mb)) + br)) + am) := ⟨_, rfl⟩
    rw [← eM_2] at hP hD
    refine lv_aload_n hx hb dX3_pledges_33 rfl (lv_at hl 0 rfl) ?_
    refine lv_iload_n hx hb dX3_pledges_34 rfl (lv_at hl 1 rfl) ?_
    refine lv_iload_n hx hb dX3_pledges_35 rfl (lv_at hl 2 rfl) ?_
    refine z_E (va_runV (As := [.int (nI mb), .int (nI br)]) (rest := []) ⟨hx, hb, hml, hown, hts⟩ (zc_X3_pledgeOf l D cA a M_2 N h mb br (by omega) (by omega)) (cwV 2 hts gX3_pledges_X3_pledgeOf rfl rfl rfl zy_X3_pledgeOf ⟨Nat.le_of_ble_eq_true rfl, Nat.le_of_ble_eq_true rfl⟩) (z_preV (ci := 3) hK hP hD rfl rfl) rfl rfl hl.1 rfl (lv_room (Nat.le_of_ble_eq_true rfl)) dX3_pledges_36 ⟨Nat.zero_le _, Nat.zero_le _⟩) rfl ?_
    exact z_iretM (w1 := moW cA a M_2 N h) hx hb hr hlocks dX3_pledges_39 hP hS (by subst eM_2; simp only [f_X3_pledges, if_pos c_1]) (by subst eM_2; simp only [f_X3_pledges, if_pos c_1])
  · refine lv_aload_n hx hb dX3_pledges_9 rfl (lv_at hl 0 rfl) ?_
    refine lv_iconst (v := (-1)) hx hb dX3_pledges_10 (by decide) ?_
    refine z_M (X := ([] : va_W)) (Z := ([] : va_W)) (va_runV (As := [.int (-1)]) (rest := []) ⟨hx, hb, hml, hown, hts⟩ (zc_X3_refuses l D cA a M N h (-1)) (cwV 1 hts gX3_pledges_X3_refuses rfl rfl rfl zy_X3_refuses ⟨Nat.le_of_ble_eq_true rfl, Nat.le_of_ble_eq_true rfl⟩) (z_preV (ci := 3) hK hP hD rfl rfl) rfl rfl hl.1 rfl (lv_room (Nat.le_of_ble_eq_true rfl)) dX3_pledges_11 ⟨Nat.zero_le _, Nat.zero_le _⟩) hP hD hS rfl rfl (fun H locs hP hD hS => ?_)
    have hP : va_P D vwCl (moW cA a ((f_X3_refuses M (-1)).2) N h) H := hP
    have hD : va_D _ (moW cA a ((f_X3_refuses M (-1)).2) N h) := hD
    obtain ⟨M_3, eM_3⟩ : ∃ z9 : BK, z9 = (f_X3_refuses M (-1)).2 := ⟨_, rfl⟩
    rw [← eM_3] at hP hD
    exact z_iretM (w1 := moW cA a M_3 N h) hx hb hr hlocks dX3_pledges_14 hP hS (by subst eM_3; simp only [f_X3_pledges, if_neg c_1]) (by subst eM_3; simp only [f_X3_pledges, if_neg c_1])

theorem zy_X3_takesBack : yX3_takesBack.cls = RX3 ∧ yX3_takesBack.cls ≠ "java/lang/invoke/MethodHandle" ∧ yX3_takesBack.cls ≠ "java/lang/invoke/VarHandle" ∧ (parseMethodDescriptor yX3_takesBack.desc).map (fun d => d.parameters.length) = some 3 := by decide +kernel
def f_X3_takesBack (M : BK) (mb : Nat) (br : Nat) (am : Int32) : Int32 × BK :=
  if am ≤ (f_X3_pledgeOf M mb br) then
    if (f_X3_of M br 2) ≤ ((f_X3_cover M br) - am) then
      let M_3 : BK := uB M 0 ((46 + (6 * mb)) + br) ((M 0 ((46 + (6 * mb)) + br)) - am)
      (0, M_3)
    else
      let M_4 : BK := (f_X3_refuses M 2).2
      ((f_X3_refuses M 2).1, M_4)
  else
    let M_5 : BK := (f_X3_refuses M 1).2
    ((f_X3_refuses M 1).1, M_5)

set_option maxHeartbeats 4000000 in
set_option maxRecDepth 100000 in
theorem zc_X3_takesBack (l : Launch) (D : va_G) (cA : Nat → ClassId) (a : Nat → Nat) (M : BK) (N : Nat → Nat) (h : Int64) (mb : Nat) (br : Nat) (am : Int32) (hmb : mb < 6) (hbr : br < 6) : Met l yX3_takesBack wsX3_takesBack (zrm 4 87) (zPc D cA [.ref (a 0), .int (nI mb), .int (nI br), .int am] (moW cA a M N h)) (zM D (moW cA a M N h) (moW cA a ((f_X3_takesBack M mb br am).2) N h) (some (.int ((f_X3_takesBack M mb br am).1)))) 0 0 (zfr (moW cA a M N h)) := by
  refine Met.ofW (cc := cX3_takesBack) (maxL := 4) (ret := (some .int)) (by decide) rfl ?_
  intro p e s m args below meth c s₁ Bd hml hv
  obtain ⟨rfl, hP, hK, hD0⟩ := hv
  have hx := Bd.exec
  have hb := Bd.bytes
  have hr := Bd.returns
  have hts := atoms_spec (ws := wsX3_takesBack) Bd.pre
  have hown : s.vm.findClass RX3 = some m.cls := findClass_of_methodNamed Bd.named
  have hlocks := Bd.notSynchronized
  have hD := z_Dfr hD0
  have hS : va_S (zfr (moW cA a M N h)) s.heap s.heap [] := va_S.rf
  have hi3 : ∀ w ∈ wsX30, w ∈ wsX3_takesBack := fun w h => List.mem_cons_of_mem _ (List.mem_append_right _ h)
  have hl := lv_entry ([.ref (a 0), .int (nI mb), .int (nI br), .int am]) (n := 4) (Nat.le_of_ble_eq_true rfl)
  rw [lg_entry_eq]
  generalize (lg_sl ([.ref (a 0), .int (nI mb), .int (nI br), .int am]) ++ List.replicate (4 - (lg_sl ([.ref (a 0), .int (nI mb), .int (nI br), .int am])).length) Slot.unset).toArray = ls at hl ⊢
  have hl : lv_has ls 4 [(0, .ref (a 0)), (1, .int (nI mb)), (2, .int (nI br)), (3, .int am)] := hl
  refine lv_iload_n hx hb dX3_takesBack_0 rfl (lv_at hl 3 rfl) ?_
  refine lv_aload_n hx hb dX3_takesBack_1 rfl (lv_at hl 0 rfl) ?_
  refine lv_iload_n hx hb dX3_takesBack_2 rfl (lv_at hl 1 rfl) ?_
  refine lv_iload_n hx hb dX3_takesBack_3 rfl (lv_at hl 2 rfl) ?_
  refine z_E (va_runV (As := [.int (nI mb), .int (nI br)]) (rest := [.int am]) ⟨hx, hb, hml, hown, hts⟩ (zc_X3_pledgeOf l D cA a M N h mb br (by omega) (by omega)) (cwV 2 hts gX3_takesBack_X3_pledgeOf rfl rfl rfl zy_X3_pledgeOf ⟨Nat.le_of_ble_eq_true rfl, Nat.le_of_ble_eq_true rfl⟩) (z_preV (ci := 3) hK hP hD rfl rfl) rfl rfl hl.1 rfl (lv_room (Nat.le_of_ble_eq_true rfl)) dX3_takesBack_4 ⟨Nat.zero_le _, Nat.zero_le _⟩) rfl ?_
  refine lv_icmp_le (tgt := 16) hx hb dX3_takesBack_7 (by decide) (fun c_1 => ?_) (fun c_1 => ?_)
  · refine lv_aload_n hx hb dX3_takesBack_16 rfl (lv_at hl 0 rfl) ?_
    refine lv_iload_n hx hb dX3_takesBack_17 rfl (lv_at hl 2 rfl) ?_
    refine z_E (va_runV (As := [.int (nI br)]) (rest := []) ⟨hx, hb, hml, hown, hts⟩ (zc_X3_cover l D cA a M N h br (by omega)) (cwV 1 hts gX3_takesBack_X3_cover rfl rfl rfl zy_X3_cover ⟨Nat.le_of_ble_eq_true rfl, Nat.le_of_ble_eq_true rfl⟩) (z_preV (ci := 3) hK hP hD rfl rfl) rfl rfl hl.1 rfl (lv_room (Nat.le_of_ble_eq_true rfl)) dX3_takesBack_18 ⟨Nat.zero_le _, Nat.zero_le _⟩) rfl ?_
    refine lv_iload_n hx hb dX3_takesBack_21 rfl (lv_at hl 3 rfl) ?_
    refine lv_isub hx hb dX3_takesBack_22 ?_
    refine lv_aload_n hx hb dX3_takesBack_23 rfl (lv_at hl 0 rfl) ?_
    refine lv_iload_n hx hb dX3_takesBack_24 rfl (lv_at hl 2 rfl) ?_
    refine lv_iconst (v := 2) hx hb dX3_takesBack_25 (by decide) ?_
    refine z_E (va_runV (As := [.int (nI br), .int 2]) (rest := [.int ((f_X3_cover M br) - am)]) ⟨hx, hb, hml, hown, hts⟩ (zc_X3_of l D cA a M N h br 2 (by omega) (by omega)) (cwV 2 hts gX3_takesBack_X3_of rfl rfl rfl zy_X3_of ⟨Nat.le_of_ble_eq_true rfl, Nat.le_of_ble_eq_true rfl⟩) (z_preV (ci := 3) hK hP hD rfl rfl) rfl rfl hl.1 rfl (lv_room (Nat.le_of_ble_eq_true rfl)) dX3_takesBack_26 ⟨Nat.zero_le _, Nat.zero_le _⟩) rfl ?_
    refine lv_icmp_ge (tgt := 38) hx hb dX3_takesBack_29 (by decide) (fun c_2 => ?_) (fun c_2 => ?_)
    · refine lv_aload_n hx hb dX3_takesBack_38 rfl (lv_at hl 0 rfl) ?_
      refine va_get (D := D) (ci := 3) (v := .ref (a 1)) (C := RX3) (T := TX3) (N := 14) hx hb hts hi3 hown hK hP 0 rfl rfl 1 (by decide) (hts (.fieldLink RX3 7 "PledgedLoansModel" "s" "[I") (List.mem_of_getElem? (i := 1) rfl)) (fun _ h9 => h9) rfl dX3_takesBack_39 ?_
      refine lv_bipush (v := 46) hx hb dX3_takesBack_42 (by decide) ?_
      refine lv_bipush (v := 6) hx hb dX3_takesBack_44 (by decide) ?_
      refine lv_iload_n hx hb dX3_takesBack_46 rfl (lv_at hl 1 rfl) ?_
      refine lv_imul hx hb dX3_takesBack_47 ?_
      refine z_top (pk_mul 6 mb) ?_
      refine lv_iadd hx hb dX3_takesBack_48 ?_
      refine z_top (nI_add 46 (6 * mb)) ?_
      refine lv_iload_n hx hb dX3_takesBack_49 rfl (lv_at hl 2 rfl) ?_
      refine lv_iadd hx hb dX3_takesBack_50 ?_
      refine z_top (nI_add (46 + (6 * mb)) br) ?_
      refine lv_dup2_11 hx hb dX3_takesBack_51 rfl rfl ?_
      refine z_iald (j := (46 + (6 * mb)) + br) hx hb hK hP 1 0 rfl rfl dX3_takesBack_52 (by omega) (by decide) ?_
      refine lv_iload_n hx hb dX3_takesBack_53 rfl (lv_at hl 3 rfl) ?_
      refine lv_isub hx hb dX3_takesBack_54 ?_
      refine z_iast (j := (46 + (6 * mb)) + br) hx hb hK hP hD hS 1 0 rfl rfl dX3_takesBack_55 (by omega) (by decide) (moW cA a (uB M 0 ((46 + (6 * mb)) + br) ((M 0 ((46 + (6 * mb)) + br)) - am)) N h) rfl (fun H locs hP hD hS => ?_)
      obtain ⟨M_3, eM_3⟩ : ∃ z9 : BK, z9 = uB M 0 ((46 + (6 * mb)) + br) ((M 0 ((46 + (6 * mb)) + br)) - am) := ⟨_, rfl⟩
      rw [← eM_3] at hP hD
      refine lv_iconst (v := 0) hx hb dX3_takesBack_56 (by decide) ?_
      exact z_iretM (w1 := moW cA a M_3 N h) hx hb hr hlocks dX3_takesBack_57 hP hS (by subst eM_3; simp only [f_X3_takesBack, if_pos c_1, if_pos c_2]) (by subst eM_3; simp only [f_X3_takesBack, if_pos c_1, if_pos c_2])
    · refine lv_aload_n hx hb dX3_takesBack_32 rfl (lv_at hl 0 rfl) ?_
      refine lv_iconst (v := 2) hx hb dX3_takesBack_33 (by decide) ?_
      refine z_M (X := ([] : va_W)) (Z := ([] : va_W)) (va_runV (As := [.int 2]) (rest := []) ⟨hx, hb, hml, hown, hts⟩ (zc_X3_refuses l D cA a M N h 2) (cwV 1 hts gX3_takesBack_X3_refuses rfl rfl rfl zy_X3_refuses ⟨Nat.le_of_ble_eq_true rfl, Nat.le_of_ble_eq_true rfl⟩) (z_preV (ci := 3) hK hP hD rfl rfl) rfl rfl hl.1 rfl (lv_room (Nat.le_of_ble_eq_true rfl)) dX3_takesBack_34 ⟨Nat.zero_le _, Nat.zero_le _⟩) hP hD hS rfl rfl (fun H locs hP hD hS => ?_)
      have hP : va_P D vwCl (moW cA a ((f_X3_refuses M 2).2) N h) H := hP
      have hD : va_D _ (moW cA a ((f_X3_refuses M 2).2) N h) := hD
      obtain ⟨M_4, eM_4⟩ : ∃ z9 : BK, z9 = (f_X3_refuses M 2).2 := ⟨_, rfl⟩
      rw [← eM_4] at hP hD
      exact z_iretM (w1 := moW cA a M_4 N h) hx hb hr hlocks dX3_takesBack_37 hP hS (by subst eM_4; simp only [f_X3_takesBack, if_pos c_1, if_neg c_2]) (by subst eM_4; simp only [f_X3_takesBack, if_pos c_1, if_neg c_2])
  · refine lv_aload_n hx hb dX3_takesBack_10 rfl (lv_at hl 0 rfl) ?_
    refine lv_iconst (v := 1) hx hb dX3_takesBack_11 (by decide) ?_
    refine z_M (X := ([] : va_W)) (Z := ([] : va_W)) (va_runV (As := [.int 1]) (rest := []) ⟨hx, hb, hml, hown, hts⟩ (zc_X3_refuses l D cA a M N h 1) (cwV 1 hts gX3_takesBack_X3_refuses rfl rfl rfl zy_X3_refuses ⟨Nat.le_of_ble_eq_true rfl, Nat.le_of_ble_eq_true rfl⟩) (z_preV (ci := 3) hK hP hD rfl rfl) rfl rfl hl.1 rfl (lv_room (Nat.le_of_ble_eq_true rfl)) dX3_takesBack_12 ⟨Nat.zero_le _, Nat.zero_le _⟩) hP hD hS rfl rfl (fun H locs hP hD hS => ?_)
    have hP : va_P D vwCl (moW cA a ((f_X3_refuses M 1).2) N h) H := hP
    have hD : va_D _ (moW cA a ((f_X3_refuses M 1).2) N h) := hD
    obtain ⟨M_5, eM_5⟩ : ∃ z9 : BK, z9 = (f_X3_refuses M 1).2 := ⟨_, rfl⟩
    rw [← eM_5] at hP hD
    exact z_iretM (w1 := moW cA a M_5 N h) hx hb hr hlocks dX3_takesBack_15 hP hS (by subst eM_5; simp only [f_X3_takesBack, if_neg c_1]) (by subst eM_5; simp only [f_X3_takesBack, if_neg c_1])

theorem zy_X3_lends : yX3_lends.cls = RX3 ∧ yX3_lends.cls ≠ "java/lang/invoke/MethodHandle" ∧ yX3_lends.cls ≠ "java/lang/invoke/VarHandle" ∧ (parseMethodDescriptor yX3_lends.desc).map (fun d => d.parameters.length) = some 3 := by decide +kernel
def f_X3_lends (M : BK) (mb : Nat) (am : Int32) (wk : Int32) : Int32 × BK :=
  if (f_X3_reason M mb am) ≤ 0 then
    let M_2 : BK := uB M 0 0 ((M 0 0) - (am - (f_X3_fee am (M 0 8))))
    let M_3 : BK := uB (uB M_2 0 1 ((M_2 0 1) + (f_X3_fee am (M 0 8)))) 0 2 (((uB M_2 0 1 ((M_2 0 1) + (f_X3_fee am (M 0 8)))) 0 2) + 1)
    let M_4 : BK := f_X3_adds M_3 mb 2 am
    let M_5 : BK := f_X3_adds M_4 mb 3 ((((am + wk) - 1) / wk) - (f_X3_of M_4 mb 3))
    let M_6 : BK := f_X3_adds M_5 mb 4 (-(f_X3_of M_5 mb 4))
    let M_7 : BK := f_X3_adds M_6 mb 5 (-(f_X3_of M_6 mb 5))
    (0, M_7)
  else
    let M_8 : BK := (f_X3_refuses M (f_X3_reason M mb am)).2
    ((f_X3_refuses M (f_X3_reason M mb am)).1, M_8)

set_option maxHeartbeats 4000000 in
set_option maxRecDepth 100000 in
theorem zc_X3_lends (l : Launch) (D : va_G) (cA : Nat → ClassId) (a : Nat → Nat) (M : BK) (N : Nat → Nat) (h : Int64) (mb : Nat) (am : Int32) (wk : Int32) (hmb : mb < 6) (hwk : ¬ wk = 0) : Met l yX3_lends wsX3_lends (zrm 5 109) (zPc D cA [.ref (a 0), .int (nI mb), .int am, .int wk] (moW cA a M N h)) (zM D (moW cA a M N h) (moW cA a ((f_X3_lends M mb am wk).2) N h) (some (.int ((f_X3_lends M mb am wk).1)))) 0 0 (zfr (moW cA a M N h)) := by
  refine Met.ofW (cc := cX3_lends) (maxL := 6) (ret := (some .int)) (by decide) rfl ?_
  intro p e s m args below meth c s₁ Bd hml hv
  obtain ⟨rfl, hP, hK, hD0⟩ := hv
  have hx := Bd.exec
  have hb := Bd.bytes
  have hr := Bd.returns
  have hts := atoms_spec (ws := wsX3_lends) Bd.pre
  have hown : s.vm.findClass RX3 = some m.cls := findClass_of_methodNamed Bd.named
  have hlocks := Bd.notSynchronized
  have hD := z_Dfr hD0
  have hS : va_S (zfr (moW cA a M N h)) s.heap s.heap [] := va_S.rf
  have hi3 : ∀ w ∈ wsX30, w ∈ wsX3_lends := fun w h => List.mem_cons_of_mem _ (List.mem_append_right _ h)
  have hl := lv_entry ([.ref (a 0), .int (nI mb), .int am, .int wk]) (n := 6) (Nat.le_of_ble_eq_true rfl)
  rw [lg_entry_eq]
  generalize (lg_sl ([.ref (a 0), .int (nI mb), .int am, .int wk]) ++ List.replicate (6 - (lg_sl ([.ref (a 0), .int (nI mb), .int am, .int wk])).length) Slot.unset).toArray = ls at hl ⊢
  have hl : lv_has ls 6 [(0, .ref (a 0)), (1, .int (nI mb)), (2, .int am), (3, .int wk)] := hl
  refine lv_aload_n hx hb dX3_lends_0 rfl (lv_at hl 0 rfl) ?_
  refine lv_iload_n hx hb dX3_lends_1 rfl (lv_at hl 1 rfl) ?_
  refine lv_iload_n hx hb dX3_lends_2 rfl (lv_at hl 2 rfl) ?_
  refine z_E (va_runV (As := [.int (nI mb), .int am]) (rest := []) ⟨hx, hb, hml, hown, hts⟩ (zc_X3_reason l D cA a M N h mb am (by omega)) (cwV 2 hts gX3_lends_X3_reason rfl rfl rfl zy_X3_reason ⟨Nat.le_of_ble_eq_true rfl, Nat.le_of_ble_eq_true rfl⟩) (z_preV (ci := 3) hK hP hD rfl rfl) rfl rfl hl.1 rfl (lv_room (Nat.le_of_ble_eq_true rfl)) dX3_lends_3 ⟨Nat.zero_le _, Nat.zero_le _⟩) rfl ?_
  refine lv_istore (lv' := [(4, .int (f_X3_reason M mb am)), (0, .ref (a 0)), (1, .int (nI mb)), (2, .int am), (3, .int wk)]) hx hb dX3_lends_6 hl (by decide) rfl (fun ls hl => ?_)
  refine lv_iload hx hb dX3_lends_8 (lv_at hl 0 rfl) ?_
  refine lv_if_le (tgt := 20) hx hb dX3_lends_10 (by decide) (fun c_1 => ?_) (fun c_1 => ?_)
  · refine lv_iload_n hx hb dX3_lends_20 rfl (lv_at hl 3 rfl) ?_
    refine lv_aload_n hx hb dX3_lends_21 rfl (lv_at hl 1 rfl) ?_
    refine va_get (D := D) (ci := 3) (v := .ref (a 1)) (C := RX3) (T := TX3) (N := 14) hx hb hts hi3 hown hK hP 0 rfl rfl 1 (by decide) (hts (.fieldLink RX3 7 "PledgedLoansModel" "s" "[I") (List.mem_of_getElem? (i := 1) rfl)) (fun _ h9 => h9) rfl dX3_lends_22 ?_
    refine lv_bipush (v := 8) hx hb dX3_lends_25 (by decide) ?_
    refine z_iald (j := 8) hx hb hK hP 1 0 rfl rfl dX3_lends_27 (by omega) (by decide) ?_
    refine z_E (va_runS (As := [.int am, .int (M 0 8)]) (rest := []) ⟨hx, hb, hml, hown, hts⟩ (zc_X3_fee l D cA am (M 0 8)) (va_cwS 2 hts gX3_lends_X3_fee rfl rfl rfl zy_X3_fee.2 ⟨Nat.le_of_ble_eq_true rfl, Nat.le_of_ble_eq_true rfl⟩) (z_preS hK z_P0 (z_D0 (A := fun _ => True))) rfl rfl hl.1 rfl (lv_room (Nat.le_of_ble_eq_true rfl)) dX3_lends_28 ⟨Nat.zero_le _, Nat.zero_le _⟩) rfl ?_
    refine lv_istore (lv' := [(5, .int (f_X3_fee am (M 0 8))), (4, .int (f_X3_reason M mb am)), (0, .ref (a 0)), (1, .int (nI mb)), (2, .int am), (3, .int wk)]) hx hb dX3_lends_31 hl (by decide) rfl (fun ls hl => ?_)
    refine lv_aload_n hx hb dX3_lends_33 rfl (lv_at hl 2 rfl) ?_
    refine va_get (D := D) (ci := 3) (v := .ref (a 1)) (C := RX3) (T := TX3) (N := 14) hx hb hts hi3 hown hK hP 0 rfl rfl 1 (by decide) (hts (.fieldLink RX3 7 "PledgedLoansModel" "s" "[I") (List.mem_of_getElem? (i := 1) rfl)) (fun _ h9 => h9) rfl dX3_lends_34 ?_
    refine lv_iconst (v := 0) hx hb dX3_lends_37 (by decide) ?_
    refine lv_dup2_11 hx hb dX3_lends_38 rfl rfl ?_
    refine z_iald (j := 0) hx hb hK hP 1 0 rfl rfl dX3_lends_39 (by omega) (by decide) ?_
    refine lv_iload_n hx hb dX3_lends_40 rfl (lv_at hl 4 rfl) ?_
    refine lv_iload hx hb dX3_lends_41 (lv_at hl 0 rfl) ?_
    refine lv_isub hx hb dX3_lends_43 ?_
    refine lv_isub hx hb dX3_lends_44 ?_
    refine z_iast (j := 0) hx hb hK hP hD hS 1 0 rfl rfl dX3_lends_45 (by omega) (by decide) (moW cA a (uB M 0 0 ((M 0 0) - (am - (f_X3_fee am (M 0 8))))) N h) rfl (fun H locs hP hD hS => ?_)
    obtain ⟨M_2, eM_2⟩ : ∃ z9 : BK, z9 = uB M 0 0 ((M 0 0) - (am - (f_X3_fee am (M 0 8)))) := ⟨_, rfl⟩
    rw [← eM_2] at hP hD
    refine lv_aload_n hx hb dX3_lends_46 rfl (lv_at hl 2 rfl) ?_
    refine va_get (D := D) (ci := 3) (v := .ref (a 1)) (C := RX3) (T := TX3) (N := 14) hx hb hts hi3 hown hK hP 0 rfl rfl 1 (by decide) (hts (.fieldLink RX3 7 "PledgedLoansModel" "s" "[I") (List.mem_of_getElem? (i := 1) rfl)) (fun _ h9 => h9) rfl dX3_lends_47 ?_
    refine lv_iconst (v := 1) hx hb dX3_lends_50 (by decide) ?_
    refine lv_dup2_11 hx hb dX3_lends_51 rfl rfl ?_
    refine z_iald (j := 1) hx hb hK hP 1 0 rfl rfl dX3_lends_52 (by omega) (by decide) ?_
    refine lv_iload hx hb dX3_lends_53 (lv_at hl 0 rfl) ?_
    refine lv_iadd hx hb dX3_lends_55 ?_
    refine z_iast (j := 1) hx hb hK hP hD hS 1 0 rfl rfl dX3_lends_56 (by omega) (by decide) (moW cA a (uB M_2 0 1 ((M_2 0 1) + (f_X3_fee am (M 0 8)))) N h) rfl (fun H locs hP hD hS => ?_)
    refine lv_aload_n hx hb dX3_lends_57 rfl (lv_at hl 2 rfl) ?_
    refine va_get (D := D) (ci := 3) (v := .ref (a 1)) (C := RX3) (T := TX3) (N := 14) hx hb hts hi3 hown hK hP 0 rfl rfl 1 (by decide) (hts (.fieldLink RX3 7 "PledgedLoansModel" "s" "[I") (List.mem_of_getElem? (i := 1) rfl)) (fun _ h9 => h9) rfl dX3_lends_58 ?_
    refine lv_iconst (v := 2) hx hb dX3_lends_61 (by decide) ?_
    refine lv_dup2_11 hx hb dX3_lends_62 rfl rfl ?_
    refine z_iald (j := 2) hx hb hK hP 1 0 rfl rfl dX3_lends_63 (by omega) (by decide) ?_
    refine lv_iconst (v := 1) hx hb dX3_lends_64 (by decide) ?_
    refine lv_iadd hx hb dX3_lends_65 ?_
    refine z_iast (j := 2) hx hb hK hP hD hS 1 0 rfl rfl dX3_lends_66 (by omega) (by decide) (moW cA a (uB (uB M_2 0 1 ((M_2 0 1) + (f_X3_fee am (M 0 8)))) 0 2 (((uB M_2 0 1 ((M_2 0 1) + (f_X3_fee am (M 0 8)))) 0 2) + 1)) N h) rfl (fun H locs hP hD hS => ?_)
    obtain ⟨M_3, eM_3⟩ : ∃ z9 : BK, z9 = uB (uB M_2 0 1 ((M_2 0 1) + (f_X3_fee am (M 0 8)))) 0 2 (((uB M_2 0 1 ((M_2 0 1) + (f_X3_fee am (M 0 8)))) 0 2) + 1) := ⟨_, rfl⟩
    rw [← eM_3] at hP hD
    refine lv_aload_n hx hb dX3_lends_67 rfl (lv_at hl 2 rfl) ?_
    refine lv_iload_n hx hb dX3_lends_68 rfl (lv_at hl 3 rfl) ?_
    refine lv_iconst (v := 2) hx hb dX3_lends_69 (by decide) ?_
    refine lv_iload_n hx hb dX3_lends_70 rfl (lv_at hl 4 rfl) ?_
    refine z_M (X := ([] : va_W)) (Z := ([] : va_W)) (va_runV (As := [.int (nI mb), .int 2, .int am]) (rest := []) ⟨hx, hb, hml, hown, hts⟩ (zc_X3_adds l D cA a M_3 N h mb 2 am (by omega) (by omega)) (cwV 3 hts gX3_lends_X3_adds rfl rfl rfl zy_X3_adds ⟨Nat.le_of_ble_eq_true rfl, Nat.le_of_ble_eq_true rfl⟩) (z_preV (ci := 3) hK hP hD rfl rfl) rfl rfl hl.1 rfl (lv_room (Nat.le_of_ble_eq_true rfl)) dX3_lends_71 ⟨Nat.zero_le _, Nat.zero_le _⟩) hP hD hS rfl rfl (fun H locs hP hD hS => ?_)
    have hP : va_P D vwCl (moW cA a (f_X3_adds M_3 mb 2 am) N h) H := hP
    have hD : va_D _ (moW cA a (f_X3_adds M_3 mb 2 am) N h) := hD
    obtain ⟨M_4, eM_4⟩ : ∃ z9 : BK, z9 = f_X3_adds M_3 mb 2 am := ⟨_, rfl⟩
    rw [← eM_4] at hP hD
    refine lv_aload_n hx hb dX3_lends_74 rfl (lv_at hl 2 rfl) ?_
    refine lv_iload_n hx hb dX3_lends_75 rfl (lv_at hl 3 rfl) ?_
    refine lv_iconst (v := 3) hx hb dX3_lends_76 (by decide) ?_
    refine lv_iload_n hx hb dX3_lends_77 rfl (lv_at hl 4 rfl) ?_
    refine lv_iload_n hx hb dX3_lends_78 rfl (lv_at hl 5 rfl) ?_
    refine lv_iadd hx hb dX3_lends_79 ?_
    refine lv_iconst (v := 1) hx hb dX3_lends_80 (by decide) ?_
    refine lv_isub hx hb dX3_lends_81 ?_
    refine lv_iload_n hx hb dX3_lends_82 rfl (lv_at hl 5 rfl) ?_
    refine lv_idiv hx hb dX3_lends_83 hwk ?_
    refine lv_aload_n hx hb dX3_lends_84 rfl (lv_at hl 2 rfl) ?_
    refine lv_iload_n hx hb dX3_lends_85 rfl (lv_at hl 3 rfl) ?_
    refine lv_iconst (v := 3) hx hb dX3_lends_86 (by decide) ?_
    refine z_E (va_runV (As := [.int (nI mb), .int 3]) (rest := [.int (((am + wk) - 1) / wk), .int 3, .int (nI mb), .ref (a 0)]) ⟨hx, hb, hml, hown, hts⟩ (zc_X3_of l D cA a M_4 N h mb 3 (by omega) (by omega)) (cwV 2 hts gX3_lends_X3_of rfl rfl rfl zy_X3_of ⟨Nat.le_of_ble_eq_true rfl, Nat.le_of_ble_eq_true rfl⟩) (z_preV (ci := 3) hK hP hD rfl rfl) rfl rfl hl.1 rfl (lv_room (Nat.le_of_ble_eq_true rfl)) dX3_lends_87 ⟨Nat.zero_le _, Nat.zero_le _⟩) rfl ?_
    refine lv_isub hx hb dX3_lends_90 ?_
    refine z_M (X := ([] : va_W)) (Z := ([] : va_W)) (va_runV (As := [.int (nI mb), .int 3, .int ((((am + wk) - 1) / wk) - (f_X3_of M_4 mb 3))]) (rest := []) ⟨hx, hb, hml, hown, hts⟩ (zc_X3_adds l D cA a M_4 N h mb 3 ((((am + wk) - 1) / wk) - (f_X3_of M_4 mb 3)) (by omega) (by omega)) (cwV 3 hts gX3_lends_X3_adds rfl rfl rfl zy_X3_adds ⟨Nat.le_of_ble_eq_true rfl, Nat.le_of_ble_eq_true rfl⟩) (z_preV (ci := 3) hK hP hD rfl rfl) rfl rfl hl.1 rfl (lv_room (Nat.le_of_ble_eq_true rfl)) dX3_lends_91 ⟨Nat.zero_le _, Nat.zero_le _⟩) hP hD hS rfl rfl (fun H locs hP hD hS => ?_)
    have hP : va_P D vwCl (moW cA a (f_X3_adds M_4 mb 3 ((((am + wk) - 1) / wk) - (f_X3_of M_4 mb 3))) N h) H := hP
    have hD : va_D _ (moW cA a (f_X3_adds M_4 mb 3 ((((am + wk) - 1) / wk) - (f_X3_of M_4 mb 3))) N h) := hD
    obtain ⟨M_5, eM_5⟩ : ∃ z9 : BK, z9 = f_X3_adds M_4 mb 3 ((((am + wk) - 1) / wk) - (f_X3_of M_4 mb 3)) := ⟨_, rfl⟩
    rw [← eM_5] at hP hD
    refine lv_aload_n hx hb dX3_lends_94 rfl (lv_at hl 2 rfl) ?_
    refine lv_iload_n hx hb dX3_lends_95 rfl (lv_at hl 3 rfl) ?_
    refine lv_iconst (v := 4) hx hb dX3_lends_96 (by decide) ?_
    refine lv_aload_n hx hb dX3_lends_97 rfl (lv_at hl 2 rfl) ?_
    refine lv_iload_n hx hb dX3_lends_98 rfl (lv_at hl 3 rfl) ?_
    refine lv_iconst (v := 4) hx hb dX3_lends_99 (by decide) ?_
    refine z_E (va_runV (As := [.int (nI mb), .int 4]) (rest := [.int 4, .int (nI mb), .ref (a 0)]) ⟨hx, hb, hml, hown, hts⟩ (zc_X3_of l D cA a M_5 N h mb 4 (by omega) (by omega)) (cwV 2 hts gX3_lends_X3_of rfl rfl rfl zy_X3_of ⟨Nat.le_of_ble_eq_true rfl, Nat.le_of_ble_eq_true rfl⟩) (z_preV (ci := 3) hK hP hD rfl rfl) rfl rfl hl.1 rfl (lv_room (Nat.le_of_ble_eq_true rfl)) dX3_lends_100 ⟨Nat.zero_le _, Nat.zero_le _⟩) rfl ?_
    refine lv_ineg hx hb dX3_lends_103 ?_
    refine z_M (X := ([] : va_W)) (Z := ([] : va_W)) (va_runV (As := [.int (nI mb), .int 4, .int (-(f_X3_of M_5 mb 4))]) (rest := []) ⟨hx, hb, hml, hown, hts⟩ (zc_X3_adds l D cA a M_5 N h mb 4 (-(f_X3_of M_5 mb 4)) (by omega) (by omega)) (cwV 3 hts gX3_lends_X3_adds rfl rfl rfl zy_X3_adds ⟨Nat.le_of_ble_eq_true rfl, Nat.le_of_ble_eq_true rfl⟩) (z_preV (ci := 3) hK hP hD rfl rfl) rfl rfl hl.1 rfl (lv_room (Nat.le_of_ble_eq_true rfl)) dX3_lends_104 ⟨Nat.zero_le _, Nat.zero_le _⟩) hP hD hS rfl rfl (fun H locs hP hD hS => ?_)
    have hP : va_P D vwCl (moW cA a (f_X3_adds M_5 mb 4 (-(f_X3_of M_5 mb 4))) N h) H := hP
    have hD : va_D _ (moW cA a (f_X3_adds M_5 mb 4 (-(f_X3_of M_5 mb 4))) N h) := hD
    obtain ⟨M_6, eM_6⟩ : ∃ z9 : BK, z9 = f_X3_adds M_5 mb 4 (-(f_X3_of M_5 mb 4)) := ⟨_, rfl⟩
    rw [← eM_6] at hP hD
    refine lv_aload_n hx hb dX3_lends_107 rfl (lv_at hl 2 rfl) ?_
    refine lv_iload_n hx hb dX3_lends_108 rfl (lv_at hl 3 rfl) ?_
    refine lv_iconst (v := 5) hx hb dX3_lends_109 (by decide) ?_
    refine lv_aload_n hx hb dX3_lends_110 rfl (lv_at hl 2 rfl) ?_
    refine lv_iload_n hx hb dX3_lends_111 rfl (lv_at hl 3 rfl) ?_
    refine lv_iconst (v := 5) hx hb dX3_lends_112 (by decide) ?_
    refine z_E (va_runV (As := [.int (nI mb), .int 5]) (rest := [.int 5, .int (nI mb), .ref (a 0)]) ⟨hx, hb, hml, hown, hts⟩ (zc_X3_of l D cA a M_6 N h mb 5 (by omega) (by omega)) (cwV 2 hts gX3_lends_X3_of rfl rfl rfl zy_X3_of ⟨Nat.le_of_ble_eq_true rfl, Nat.le_of_ble_eq_true rfl⟩) (z_preV (ci := 3) hK hP hD rfl rfl) rfl rfl hl.1 rfl (lv_room (Nat.le_of_ble_eq_true rfl)) dX3_lends_113 ⟨Nat.zero_le _, Nat.zero_le _⟩) rfl ?_
    refine lv_ineg hx hb dX3_lends_116 ?_
    refine z_M (X := ([] : va_W)) (Z := ([] : va_W)) (va_runV (As := [.int (nI mb), .int 5, .int (-(f_X3_of M_6 mb 5))]) (rest := []) ⟨hx, hb, hml, hown, hts⟩ (zc_X3_adds l D cA a M_6 N h mb 5 (-(f_X3_of M_6 mb 5)) (by omega) (by omega)) (cwV 3 hts gX3_lends_X3_adds rfl rfl rfl zy_X3_adds ⟨Nat.le_of_ble_eq_true rfl, Nat.le_of_ble_eq_true rfl⟩) (z_preV (ci := 3) hK hP hD rfl rfl) rfl rfl hl.1 rfl (lv_room (Nat.le_of_ble_eq_true rfl)) dX3_lends_117 ⟨Nat.zero_le _, Nat.zero_le _⟩) hP hD hS rfl rfl (fun H locs hP hD hS => ?_)
    have hP : va_P D vwCl (moW cA a (f_X3_adds M_6 mb 5 (-(f_X3_of M_6 mb 5))) N h) H := hP
    have hD : va_D _ (moW cA a (f_X3_adds M_6 mb 5 (-(f_X3_of M_6 mb 5))) N h) := hD
    obtain ⟨M_7, eM_7⟩ : ∃ z9 : BK, z9 = f_X3_adds M_6 mb 5 (-(f_X3_of M_6 mb 5)) := ⟨_, rfl⟩
    rw [← eM_7] at hP hD
    refine lv_iconst (v := 0) hx hb dX3_lends_120 (by decide) ?_
    exact z_iretM (w1 := moW cA a M_7 N h) hx hb hr hlocks dX3_lends_121 hP hS (by subst eM_7 eM_6 eM_5 eM_4 eM_3 eM_2; simp only [f_X3_lends, if_pos c_1]) (by subst eM_7 eM_6 eM_5 eM_4 eM_3 eM_2; simp only [f_X3_lends, if_pos c_1])
  · refine lv_aload_n hx hb dX3_lends_13 rfl (lv_at hl 1 rfl) ?_
    refine lv_iload hx hb dX3_lends_14 (lv_at hl 0 rfl) ?_
    refine z_M (X := ([] : va_W)) (Z := ([] : va_W)) (va_runV (As := [.int (f_X3_reason M mb am)]) (rest := []) ⟨hx, hb, hml, hown, hts⟩ (zc_X3_refuses l D cA a M N h (f_X3_reason M mb am)) (cwV 1 hts gX3_lends_X3_refuses rfl rfl rfl zy_X3_refuses ⟨Nat.le_of_ble_eq_true rfl, Nat.le_of_ble_eq_true rfl⟩) (z_preV (ci := 3) hK hP hD rfl rfl) rfl rfl hl.1 rfl (lv_room (Nat.le_of_ble_eq_true rfl)) dX3_lends_16 ⟨Nat.zero_le _, Nat.zero_le _⟩) hP hD hS rfl rfl (fun H locs hP hD hS => ?_)
    have hP : va_P D vwCl (moW cA a ((f_X3_refuses M (f_X3_reason M mb am)).2) N h) H := hP
    have hD : va_D _ (moW cA a ((f_X3_refuses M (f_X3_reason M mb am)).2) N h) := hD
    obtain ⟨M_8, eM_8⟩ : ∃ z9 : BK, z9 = (f_X3_refuses M (f_X3_reason M mb am)).2 := ⟨_, rfl⟩
    rw [← eM_8] at hP hD
    exact z_iretM (w1 := moW cA a M_8 N h) hx hb hr hlocks dX3_lends_19 hP hS (by subst eM_8; simp only [f_X3_lends, if_neg c_1]) (by subst eM_8; simp only [f_X3_lends, if_neg c_1])

theorem zy_X3_repays : yX3_repays.cls = RX3 ∧ yX3_repays.cls ≠ "java/lang/invoke/MethodHandle" ∧ yX3_repays.cls ≠ "java/lang/invoke/VarHandle" ∧ (parseMethodDescriptor yX3_repays.desc).map (fun d => d.parameters.length) = some 2 := by decide +kernel
def f_X3_repays (M : BK) (mb : Nat) (am : Int32) : Int32 × BK :=
  if am ≤ (f_X3_of M mb 2) then
    let M_2 : BK := f_X3_adds M mb 2 (-am)
    let M_3 : BK := f_X3_adds M_2 mb 4 am
    (f_X3_of (uB M_3 0 0 ((M_3 0 0) + am)) mb 2, uB M_3 0 0 ((M_3 0 0) + am))
  else
    let M_4 : BK := (f_X3_refuses M (-1)).2
    ((f_X3_refuses M (-1)).1, M_4)

set_option maxHeartbeats 4000000 in
set_option maxRecDepth 100000 in
theorem zc_X3_repays (l : Launch) (D : va_G) (cA : Nat → ClassId) (a : Nat → Nat) (M : BK) (N : Nat → Nat) (h : Int64) (mb : Nat) (am : Int32) (hmb : mb < 6) : Met l yX3_repays wsX3_repays (zrm 1 23) (zPc D cA [.ref (a 0), .int (nI mb), .int am] (moW cA a M N h)) (zM D (moW cA a M N h) (moW cA a ((f_X3_repays M mb am).2) N h) (some (.int ((f_X3_repays M mb am).1)))) 0 0 (zfr (moW cA a M N h)) := by
  refine Met.ofW (cc := cX3_repays) (maxL := 3) (ret := (some .int)) (by decide) rfl ?_
  intro p e s m args below meth c s₁ Bd hml hv
  obtain ⟨rfl, hP, hK, hD0⟩ := hv
  have hx := Bd.exec
  have hb := Bd.bytes
  have hr := Bd.returns
  have hts := atoms_spec (ws := wsX3_repays) Bd.pre
  have hown : s.vm.findClass RX3 = some m.cls := findClass_of_methodNamed Bd.named
  have hlocks := Bd.notSynchronized
  have hD := z_Dfr hD0
  have hS : va_S (zfr (moW cA a M N h)) s.heap s.heap [] := va_S.rf
  have hi3 : ∀ w ∈ wsX30, w ∈ wsX3_repays := fun w h => List.mem_cons_of_mem _ (List.mem_append_right _ h)
  have hl := lv_entry ([.ref (a 0), .int (nI mb), .int am]) (n := 3) (Nat.le_of_ble_eq_true rfl)
  rw [lg_entry_eq]
  generalize (lg_sl ([.ref (a 0), .int (nI mb), .int am]) ++ List.replicate (3 - (lg_sl ([.ref (a 0), .int (nI mb), .int am])).length) Slot.unset).toArray = ls at hl ⊢
  have hl : lv_has ls 3 [(0, .ref (a 0)), (1, .int (nI mb)), (2, .int am)] := hl
  refine lv_aload_n hx hb dX3_repays_0 rfl (lv_at hl 0 rfl) ?_
  refine lv_iload_n hx hb dX3_repays_1 rfl (lv_at hl 1 rfl) ?_
  refine lv_iconst (v := 2) hx hb dX3_repays_2 (by decide) ?_
  refine z_E (va_runV (As := [.int (nI mb), .int 2]) (rest := []) ⟨hx, hb, hml, hown, hts⟩ (zc_X3_of l D cA a M N h mb 2 (by omega) (by omega)) (cwV 2 hts gX3_repays_X3_of rfl rfl rfl zy_X3_of ⟨Nat.le_of_ble_eq_true rfl, Nat.le_of_ble_eq_true rfl⟩) (z_preV (ci := 3) hK hP hD rfl rfl) rfl rfl hl.1 rfl (lv_room (Nat.le_of_ble_eq_true rfl)) dX3_repays_3 ⟨Nat.zero_le _, Nat.zero_le _⟩) rfl ?_
  refine lv_iload_n hx hb dX3_repays_6 rfl (lv_at hl 2 rfl) ?_
  refine lv_icmp_ge (tgt := 16) hx hb dX3_repays_7 (by decide) (fun c_1 => ?_) (fun c_1 => ?_)
  · refine lv_aload_n hx hb dX3_repays_16 rfl (lv_at hl 0 rfl) ?_
    refine lv_iload_n hx hb dX3_repays_17 rfl (lv_at hl 1 rfl) ?_
    refine lv_iconst (v := 2) hx hb dX3_repays_18 (by decide) ?_
    refine lv_iload_n hx hb dX3_repays_19 rfl (lv_at hl 2 rfl) ?_
    refine lv_ineg hx hb dX3_repays_20 ?_
    refine z_M (X := ([] : va_W)) (Z := ([] : va_W)) (va_runV (As := [.int (nI mb), .int 2, .int (-am)]) (rest := []) ⟨hx, hb, hml, hown, hts⟩ (zc_X3_adds l D cA a M N h mb 2 (-am) (by omega) (by omega)) (cwV 3 hts gX3_repays_X3_adds rfl rfl rfl zy_X3_adds ⟨Nat.le_of_ble_eq_true rfl, Nat.le_of_ble_eq_true rfl⟩) (z_preV (ci := 3) hK hP hD rfl rfl) rfl rfl hl.1 rfl (lv_room (Nat.le_of_ble_eq_true rfl)) dX3_repays_21 ⟨Nat.zero_le _, Nat.zero_le _⟩) hP hD hS rfl rfl (fun H locs hP hD hS => ?_)
    have hP : va_P D vwCl (moW cA a (f_X3_adds M mb 2 (-am)) N h) H := hP
    have hD : va_D _ (moW cA a (f_X3_adds M mb 2 (-am)) N h) := hD
    obtain ⟨M_2, eM_2⟩ : ∃ z9 : BK, z9 = f_X3_adds M mb 2 (-am) := ⟨_, rfl⟩
    rw [← eM_2] at hP hD
    refine lv_aload_n hx hb dX3_repays_24 rfl (lv_at hl 0 rfl) ?_
    refine lv_iload_n hx hb dX3_repays_25 rfl (lv_at hl 1 rfl) ?_
    refine lv_iconst (v := 4) hx hb dX3_repays_26 (by decide) ?_
    refine lv_iload_n hx hb dX3_repays_27 rfl (lv_at hl 2 rfl) ?_
    refine z_M (X := ([] : va_W)) (Z := ([] : va_W)) (va_runV (As := [.int (nI mb), .int 4, .int am]) (rest := []) ⟨hx, hb, hml, hown, hts⟩ (zc_X3_adds l D cA a M_2 N h mb 4 am (by omega) (by omega)) (cwV 3 hts gX3_repays_X3_adds rfl rfl rfl zy_X3_adds ⟨Nat.le_of_ble_eq_true rfl, Nat.le_of_ble_eq_true rfl⟩) (z_preV (ci := 3) hK hP hD rfl rfl) rfl rfl hl.1 rfl (lv_room (Nat.le_of_ble_eq_true rfl)) dX3_repays_28 ⟨Nat.zero_le _, Nat.zero_le _⟩) hP hD hS rfl rfl (fun H locs hP hD hS => ?_)
    have hP : va_P D vwCl (moW cA a (f_X3_adds M_2 mb 4 am) N h) H := hP
    have hD : va_D _ (moW cA a (f_X3_adds M_2 mb 4 am) N h) := hD
    obtain ⟨M_3, eM_3⟩ : ∃ z9 : BK, z9 = f_X3_adds M_2 mb 4 am := ⟨_, rfl⟩
    rw [← eM_3] at hP hD
    refine lv_aload_n hx hb dX3_repays_31 rfl (lv_at hl 0 rfl) ?_
    refine va_get (D := D) (ci := 3) (v := .ref (a 1)) (C := RX3) (T := TX3) (N := 14) hx hb hts hi3 hown hK hP 0 rfl rfl 1 (by decide) (hts (.fieldLink RX3 7 "PledgedLoansModel" "s" "[I") (List.mem_of_getElem? (i := 1) rfl)) (fun _ h9 => h9) rfl dX3_repays_32 ?_
    refine lv_iconst (v := 0) hx hb dX3_repays_35 (by decide) ?_
    refine lv_dup2_11 hx hb dX3_repays_36 rfl rfl ?_
    refine z_iald (j := 0) hx hb hK hP 1 0 rfl rfl dX3_repays_37 (by omega) (by decide) ?_
    refine lv_iload_n hx hb dX3_repays_38 rfl (lv_at hl 2 rfl) ?_
    refine lv_iadd hx hb dX3_repays_39 ?_
    refine z_iast (j := 0) hx hb hK hP hD hS 1 0 rfl rfl dX3_repays_40 (by omega) (by decide) (moW cA a (uB M_3 0 0 ((M_3 0 0) + am)) N h) rfl (fun H locs hP hD hS => ?_)
    refine lv_aload_n hx hb dX3_repays_41 rfl (lv_at hl 0 rfl) ?_
    refine lv_iload_n hx hb dX3_repays_42 rfl (lv_at hl 1 rfl) ?_
    refine lv_iconst (v := 2) hx hb dX3_repays_43 (by decide) ?_
    refine z_E (va_runV (As := [.int (nI mb), .int 2]) (rest := []) ⟨hx, hb, hml, hown, hts⟩ (zc_X3_of l D cA a (uB M_3 0 0 ((M_3 0 0) + am)) N h mb 2 (by omega) (by omega)) (cwV 2 hts gX3_repays_X3_of rfl rfl rfl zy_X3_of ⟨Nat.le_of_ble_eq_true rfl, Nat.le_of_ble_eq_true rfl⟩) (z_preV (ci := 3) hK hP hD rfl rfl) rfl rfl hl.1 rfl (lv_room (Nat.le_of_ble_eq_true rfl)) dX3_repays_44 ⟨Nat.zero_le _, Nat.zero_le _⟩) rfl ?_
    exact z_iretM (w1 := moW cA a (uB M_3 0 0 ((M_3 0 0) + am)) N h) hx hb hr hlocks dX3_repays_47 hP hS (by subst eM_3 eM_2; simp only [f_X3_repays, if_pos c_1]) (by subst eM_3 eM_2; simp only [f_X3_repays, if_pos c_1])
  · refine lv_aload_n hx hb dX3_repays_10 rfl (lv_at hl 0 rfl) ?_
    refine lv_iconst (v := (-1)) hx hb dX3_repays_11 (by decide) ?_
    refine z_M (X := ([] : va_W)) (Z := ([] : va_W)) (va_runV (As := [.int (-1)]) (rest := []) ⟨hx, hb, hml, hown, hts⟩ (zc_X3_refuses l D cA a M N h (-1)) (cwV 1 hts gX3_repays_X3_refuses rfl rfl rfl zy_X3_refuses ⟨Nat.le_of_ble_eq_true rfl, Nat.le_of_ble_eq_true rfl⟩) (z_preV (ci := 3) hK hP hD rfl rfl) rfl rfl hl.1 rfl (lv_room (Nat.le_of_ble_eq_true rfl)) dX3_repays_12 ⟨Nat.zero_le _, Nat.zero_le _⟩) hP hD hS rfl rfl (fun H locs hP hD hS => ?_)
    have hP : va_P D vwCl (moW cA a ((f_X3_refuses M (-1)).2) N h) H := hP
    have hD : va_D _ (moW cA a ((f_X3_refuses M (-1)).2) N h) := hD
    obtain ⟨M_4, eM_4⟩ : ∃ z9 : BK, z9 = (f_X3_refuses M (-1)).2 := ⟨_, rfl⟩
    rw [← eM_4] at hP hD
    exact z_iretM (w1 := moW cA a M_4 N h) hx hb hr hlocks dX3_repays_15 hP hS (by subst eM_4; simp only [f_X3_repays, if_neg c_1]) (by subst eM_4; simp only [f_X3_repays, if_neg c_1])

theorem zy_X3_takes : yX3_takes.cls = RX3 ∧ yX3_takes.cls ≠ "java/lang/invoke/MethodHandle" ∧ yX3_takes.cls ≠ "java/lang/invoke/VarHandle" ∧ (parseMethodDescriptor yX3_takes.desc).map (fun d => d.parameters.length) = some 3 := by decide +kernel
def f_X3_takes (M : BK) (mb : Nat) (fr : Nat) (mt : Int32) : Int32 × BK :=
  if mt ≤ (f_X3_of M mb 2) then
    let M_2 : BK := f_X3_adds M fr 0 (-mt)
    let M_3 : BK := f_X3_adds M_2 mb 2 (-mt)
    (mt, M_3)
  else
    let M_4 : BK := f_X3_adds M fr 0 (-(f_X3_of M mb 2))
    let M_5 : BK := f_X3_adds M_4 mb 2 (-(f_X3_of M mb 2))
    (f_X3_of M mb 2, M_5)

set_option maxHeartbeats 4000000 in
set_option maxRecDepth 100000 in
theorem zc_X3_takes (l : Launch) (D : va_G) (cA : Nat → ClassId) (a : Nat → Nat) (M : BK) (N : Nat → Nat) (h : Int64) (mb : Nat) (fr : Nat) (mt : Int32) (hmb : mb < 6) (hfr : fr < 6) : Met l yX3_takes wsX3_takes (zrm 1 23) (zPc D cA [.ref (a 0), .int (nI mb), .int (nI fr), .int mt] (moW cA a M N h)) (zM D (moW cA a M N h) (moW cA a ((f_X3_takes M mb fr mt).2) N h) (some (.int ((f_X3_takes M mb fr mt).1)))) 0 0 (zfr (moW cA a M N h)) := by
  refine Met.ofW (cc := cX3_takes) (maxL := 5) (ret := (some .int)) (by decide) rfl ?_
  intro p e s m args below meth c s₁ Bd hml hv
  obtain ⟨rfl, hP, hK, hD0⟩ := hv
  have hx := Bd.exec
  have hb := Bd.bytes
  have hr := Bd.returns
  have hts := atoms_spec (ws := wsX3_takes) Bd.pre
  have hown : s.vm.findClass RX3 = some m.cls := findClass_of_methodNamed Bd.named
  have hlocks := Bd.notSynchronized
  have hD := z_Dfr hD0
  have hS : va_S (zfr (moW cA a M N h)) s.heap s.heap [] := va_S.rf
  have hi3 : ∀ w ∈ wsX30, w ∈ wsX3_takes := fun w h => List.mem_cons_of_mem _ (List.mem_append_right _ h)
  have hl := lv_entry ([.ref (a 0), .int (nI mb), .int (nI fr), .int mt]) (n := 5) (Nat.le_of_ble_eq_true rfl)
  rw [lg_entry_eq]
  generalize (lg_sl ([.ref (a 0), .int (nI mb), .int (nI fr), .int mt]) ++ List.replicate (5 - (lg_sl ([.ref (a 0), .int (nI mb), .int (nI fr), .int mt])).length) Slot.unset).toArray = ls at hl ⊢
  have hl : lv_has ls 5 [(0, .ref (a 0)), (1, .int (nI mb)), (2, .int (nI fr)), (3, .int mt)] := hl
  refine lv_aload_n hx hb dX3_takes_0 rfl (lv_at hl 0 rfl) ?_
  refine lv_iload_n hx hb dX3_takes_1 rfl (lv_at hl 1 rfl) ?_
  refine lv_iconst (v := 2) hx hb dX3_takes_2 (by decide) ?_
  refine z_E (va_runV (As := [.int (nI mb), .int 2]) (rest := []) ⟨hx, hb, hml, hown, hts⟩ (zc_X3_of l D cA a M N h mb 2 (by omega) (by omega)) (cwV 2 hts gX3_takes_X3_of rfl rfl rfl zy_X3_of ⟨Nat.le_of_ble_eq_true rfl, Nat.le_of_ble_eq_true rfl⟩) (z_preV (ci := 3) hK hP hD rfl rfl) rfl rfl hl.1 rfl (lv_room (Nat.le_of_ble_eq_true rfl)) dX3_takes_3 ⟨Nat.zero_le _, Nat.zero_le _⟩) rfl ?_
  refine lv_iload_n hx hb dX3_takes_6 rfl (lv_at hl 3 rfl) ?_
  refine lv_icmp_ge (tgt := 19) hx hb dX3_takes_7 (by decide) (fun c_1 => ?_) (fun c_1 => ?_)
  · refine lv_iload_n hx hb dX3_takes_19 rfl (lv_at hl 3 rfl) ?_
    refine lv_istore (lv' := [(4, .int mt), (0, .ref (a 0)), (1, .int (nI mb)), (2, .int (nI fr)), (3, .int mt)]) hx hb dX3_takes_20 hl (by decide) rfl (fun ls hl => ?_)
    refine lv_aload_n hx hb dX3_takes_22 rfl (lv_at hl 1 rfl) ?_
    refine lv_iload_n hx hb dX3_takes_23 rfl (lv_at hl 3 rfl) ?_
    refine lv_iconst (v := 0) hx hb dX3_takes_24 (by decide) ?_
    refine lv_iload hx hb dX3_takes_25 (lv_at hl 0 rfl) ?_
    refine lv_ineg hx hb dX3_takes_27 ?_
    refine z_M (X := ([] : va_W)) (Z := ([] : va_W)) (va_runV (As := [.int (nI fr), .int 0, .int (-mt)]) (rest := []) ⟨hx, hb, hml, hown, hts⟩ (zc_X3_adds l D cA a M N h fr 0 (-mt) (by omega) (by omega)) (cwV 3 hts gX3_takes_X3_adds rfl rfl rfl zy_X3_adds ⟨Nat.le_of_ble_eq_true rfl, Nat.le_of_ble_eq_true rfl⟩) (z_preV (ci := 3) hK hP hD rfl rfl) rfl rfl hl.1 rfl (lv_room (Nat.le_of_ble_eq_true rfl)) dX3_takes_28 ⟨Nat.zero_le _, Nat.zero_le _⟩) hP hD hS rfl rfl (fun H locs hP hD hS => ?_)
    have hP : va_P D vwCl (moW cA a (f_X3_adds M fr 0 (-mt)) N h) H := hP
    have hD : va_D _ (moW cA a (f_X3_adds M fr 0 (-mt)) N h) := hD
    obtain ⟨M_2, eM_2⟩ : ∃ z9 : BK, z9 = f_X3_adds M fr 0 (-mt) := ⟨_, rfl⟩
    rw [← eM_2] at hP hD
    refine lv_aload_n hx hb dX3_takes_31 rfl (lv_at hl 1 rfl) ?_
    refine lv_iload_n hx hb dX3_takes_32 rfl (lv_at hl 2 rfl) ?_
    refine lv_iconst (v := 2) hx hb dX3_takes_33 (by decide) ?_
    refine lv_iload hx hb dX3_takes_34 (lv_at hl 0 rfl) ?_
    refine lv_ineg hx hb dX3_takes_36 ?_
    refine z_M (X := ([] : va_W)) (Z := ([] : va_W)) (va_runV (As := [.int (nI mb), .int 2, .int (-mt)]) (rest := []) ⟨hx, hb, hml, hown, hts⟩ (zc_X3_adds l D cA a M_2 N h mb 2 (-mt) (by omega) (by omega)) (cwV 3 hts gX3_takes_X3_adds rfl rfl rfl zy_X3_adds ⟨Nat.le_of_ble_eq_true rfl, Nat.le_of_ble_eq_true rfl⟩) (z_preV (ci := 3) hK hP hD rfl rfl) rfl rfl hl.1 rfl (lv_room (Nat.le_of_ble_eq_true rfl)) dX3_takes_37 ⟨Nat.zero_le _, Nat.zero_le _⟩) hP hD hS rfl rfl (fun H locs hP hD hS => ?_)
    have hP : va_P D vwCl (moW cA a (f_X3_adds M_2 mb 2 (-mt)) N h) H := hP
    have hD : va_D _ (moW cA a (f_X3_adds M_2 mb 2 (-mt)) N h) := hD
    obtain ⟨M_3, eM_3⟩ : ∃ z9 : BK, z9 = f_X3_adds M_2 mb 2 (-mt) := ⟨_, rfl⟩
    rw [← eM_3] at hP hD
    refine lv_iload hx hb dX3_takes_40 (lv_at hl 0 rfl) ?_
    exact z_iretM (w1 := moW cA a M_3 N h) hx hb hr hlocks dX3_takes_42 hP hS (by subst eM_3 eM_2; simp only [f_X3_takes, if_pos c_1]) (by subst eM_3 eM_2; simp only [f_X3_takes, if_pos c_1])
  · refine lv_aload_n hx hb dX3_takes_10 rfl (lv_at hl 0 rfl) ?_
    refine lv_iload_n hx hb dX3_takes_11 rfl (lv_at hl 1 rfl) ?_
    refine lv_iconst (v := 2) hx hb dX3_takes_12 (by decide) ?_
    refine z_E (va_runV (As := [.int (nI mb), .int 2]) (rest := []) ⟨hx, hb, hml, hown, hts⟩ (zc_X3_of l D cA a M N h mb 2 (by omega) (by omega)) (cwV 2 hts gX3_takes_X3_of rfl rfl rfl zy_X3_of ⟨Nat.le_of_ble_eq_true rfl, Nat.le_of_ble_eq_true rfl⟩) (z_preV (ci := 3) hK hP hD rfl rfl) rfl rfl hl.1 rfl (lv_room (Nat.le_of_ble_eq_true rfl)) dX3_takes_13 ⟨Nat.zero_le _, Nat.zero_le _⟩) rfl ?_
    refine lv_goto (tgt := 20) hx hb dX3_takes_16 (by decide) ?_
    refine lv_istore (lv' := [(4, .int (f_X3_of M mb 2)), (0, .ref (a 0)), (1, .int (nI mb)), (2, .int (nI fr)), (3, .int mt)]) hx hb dX3_takes_20 hl (by decide) rfl (fun ls hl => ?_)
    refine lv_aload_n hx hb dX3_takes_22 rfl (lv_at hl 1 rfl) ?_
    refine lv_iload_n hx hb dX3_takes_23 rfl (lv_at hl 3 rfl) ?_
    refine lv_iconst (v := 0) hx hb dX3_takes_24 (by decide) ?_
    refine lv_iload hx hb dX3_takes_25 (lv_at hl 0 rfl) ?_
    refine lv_ineg hx hb dX3_takes_27 ?_
    refine z_M (X := ([] : va_W)) (Z := ([] : va_W)) (va_runV (As := [.int (nI fr), .int 0, .int (-(f_X3_of M mb 2))]) (rest := []) ⟨hx, hb, hml, hown, hts⟩ (zc_X3_adds l D cA a M N h fr 0 (-(f_X3_of M mb 2)) (by omega) (by omega)) (cwV 3 hts gX3_takes_X3_adds rfl rfl rfl zy_X3_adds ⟨Nat.le_of_ble_eq_true rfl, Nat.le_of_ble_eq_true rfl⟩) (z_preV (ci := 3) hK hP hD rfl rfl) rfl rfl hl.1 rfl (lv_room (Nat.le_of_ble_eq_true rfl)) dX3_takes_28 ⟨Nat.zero_le _, Nat.zero_le _⟩) hP hD hS rfl rfl (fun H locs hP hD hS => ?_)
    have hP : va_P D vwCl (moW cA a (f_X3_adds M fr 0 (-(f_X3_of M mb 2))) N h) H := hP
    have hD : va_D _ (moW cA a (f_X3_adds M fr 0 (-(f_X3_of M mb 2))) N h) := hD
    obtain ⟨M_4, eM_4⟩ : ∃ z9 : BK, z9 = f_X3_adds M fr 0 (-(f_X3_of M mb 2)) := ⟨_, rfl⟩
    rw [← eM_4] at hP hD
    refine lv_aload_n hx hb dX3_takes_31 rfl (lv_at hl 1 rfl) ?_
    refine lv_iload_n hx hb dX3_takes_32 rfl (lv_at hl 2 rfl) ?_
    refine lv_iconst (v := 2) hx hb dX3_takes_33 (by decide) ?_
    refine lv_iload hx hb dX3_takes_34 (lv_at hl 0 rfl) ?_
    refine lv_ineg hx hb dX3_takes_36 ?_
    refine z_M (X := ([] : va_W)) (Z := ([] : va_W)) (va_runV (As := [.int (nI mb), .int 2, .int (-(f_X3_of M mb 2))]) (rest := []) ⟨hx, hb, hml, hown, hts⟩ (zc_X3_adds l D cA a M_4 N h mb 2 (-(f_X3_of M mb 2)) (by omega) (by omega)) (cwV 3 hts gX3_takes_X3_adds rfl rfl rfl zy_X3_adds ⟨Nat.le_of_ble_eq_true rfl, Nat.le_of_ble_eq_true rfl⟩) (z_preV (ci := 3) hK hP hD rfl rfl) rfl rfl hl.1 rfl (lv_room (Nat.le_of_ble_eq_true rfl)) dX3_takes_37 ⟨Nat.zero_le _, Nat.zero_le _⟩) hP hD hS rfl rfl (fun H locs hP hD hS => ?_)
    have hP : va_P D vwCl (moW cA a (f_X3_adds M_4 mb 2 (-(f_X3_of M mb 2))) N h) H := hP
    have hD : va_D _ (moW cA a (f_X3_adds M_4 mb 2 (-(f_X3_of M mb 2))) N h) := hD
    obtain ⟨M_5, eM_5⟩ : ∃ z9 : BK, z9 = f_X3_adds M_4 mb 2 (-(f_X3_of M mb 2)) := ⟨_, rfl⟩
    rw [← eM_5] at hP hD
    refine lv_iload hx hb dX3_takes_40 (lv_at hl 0 rfl) ?_
    exact z_iretM (w1 := moW cA a M_5 N h) hx hb hr hlocks dX3_takes_42 hP hS (by subst eM_5 eM_4; simp only [f_X3_takes, if_neg c_1]) (by subst eM_5 eM_4; simp only [f_X3_takes, if_neg c_1])

theorem zy_X3_fallsDue : yX3_fallsDue.cls = RX3 ∧ yX3_fallsDue.cls ≠ "java/lang/invoke/MethodHandle" ∧ yX3_fallsDue.cls ≠ "java/lang/invoke/VarHandle" ∧ (parseMethodDescriptor yX3_fallsDue.desc).map (fun d => d.parameters.length) = some 1 := by decide +kernel
def f_X3_fallsDue_14 (M : BK) (mb : Nat) (i0 : BK) : Nat → BK
  | 0 => i0
  | n + 1 =>
    let y0_14 : BK := f_X3_fallsDue_14 M mb i0 n
    let M_3 : BK := (f_X3_takes y0_14 mb n (f_X3_pledgeOf y0_14 n mb)).2
    let M_4 : BK := uB M_3 0 ((46 + (6 * n)) + mb) ((y0_14 0 ((46 + (6 * n)) + mb)) - ((f_X3_takes y0_14 mb n (f_X3_pledgeOf y0_14 n mb)).1))
    M_4
def f_X3_fallsDue (M : BK) (mb : Nat) : BK :=
  let M_1 : BK := (f_X3_takes M mb mb (f_X3_own M mb)).2
  let y0_14 : BK := f_X3_fallsDue_14 M mb M_1 6
  let M_5 : BK := f_X3_adds y0_14 mb 2 (-(f_X3_of y0_14 mb 2))
  uB M_5 0 3 ((M_5 0 3) + 1)

set_option maxHeartbeats 4000000 in
set_option maxRecDepth 100000 in
theorem zc_X3_fallsDue (l : Launch) (D : va_G) (cA : Nat → ClassId) (a : Nat → Nat) (M : BK) (N : Nat → Nat) (h : Int64) (mb : Nat) (hmb : mb < 6) : Met l yX3_fallsDue wsX3_fallsDue (zrm 3 66) (zPc D cA [.ref (a 0), .int (nI mb)] (moW cA a M N h)) (zM D (moW cA a M N h) (moW cA a (f_X3_fallsDue M mb) N h) none) 0 0 (zfr (moW cA a M N h)) := by
  refine Met.ofW (cc := cX3_fallsDue) (maxL := 3) (ret := none) (by decide) rfl ?_
  intro p e s m args below meth c s₁ Bd hml hv
  obtain ⟨rfl, hP, hK, hD0⟩ := hv
  have hx := Bd.exec
  have hb := Bd.bytes
  have hr := Bd.returns
  have hts := atoms_spec (ws := wsX3_fallsDue) Bd.pre
  have hown : s.vm.findClass RX3 = some m.cls := findClass_of_methodNamed Bd.named
  have hlocks := Bd.notSynchronized
  have hD := z_Dfr hD0
  have hS : va_S (zfr (moW cA a M N h)) s.heap s.heap [] := va_S.rf
  have hi3 : ∀ w ∈ wsX30, w ∈ wsX3_fallsDue := fun w h => List.mem_cons_of_mem _ (List.mem_append_right _ h)
  have hl := lv_entry ([.ref (a 0), .int (nI mb)]) (n := 3) (Nat.le_of_ble_eq_true rfl)
  rw [lg_entry_eq]
  generalize (lg_sl ([.ref (a 0), .int (nI mb)]) ++ List.replicate (3 - (lg_sl ([.ref (a 0), .int (nI mb)])).length) Slot.unset).toArray = ls at hl ⊢
  have hl : lv_has ls 3 [(0, .ref (a 0)), (1, .int (nI mb))] := hl
  refine lv_aload_n hx hb dX3_fallsDue_0 rfl (lv_at hl 0 rfl) ?_
  refine lv_iload_n hx hb dX3_fallsDue_1 rfl (lv_at hl 1 rfl) ?_
  refine lv_iload_n hx hb dX3_fallsDue_2 rfl (lv_at hl 1 rfl) ?_
  refine lv_aload_n hx hb dX3_fallsDue_3 rfl (lv_at hl 0 rfl) ?_
  refine lv_iload_n hx hb dX3_fallsDue_4 rfl (lv_at hl 1 rfl) ?_
  refine z_E (va_runV (As := [.int (nI mb)]) (rest := [.int (nI mb), .int (nI mb), .ref (a 0)]) ⟨hx, hb, hml, hown, hts⟩ (zc_X3_own l D cA a M N h mb (by omega)) (cwV 1 hts gX3_fallsDue_X3_own rfl rfl rfl zy_X3_own ⟨Nat.le_of_ble_eq_true rfl, Nat.le_of_ble_eq_true rfl⟩) (z_preV (ci := 3) hK hP hD rfl rfl) rfl rfl hl.1 rfl (lv_room (Nat.le_of_ble_eq_true rfl)) dX3_fallsDue_5 ⟨Nat.zero_le _, Nat.zero_le _⟩) rfl ?_
  refine z_M (X := ([] : va_W)) (Z := ([] : va_W)) (va_runV (As := [.int (nI mb), .int (nI mb), .int (f_X3_own M mb)]) (rest := []) ⟨hx, hb, hml, hown, hts⟩ (zc_X3_takes l D cA a M N h mb mb (f_X3_own M mb) (by omega) (by omega)) (cwV 3 hts gX3_fallsDue_X3_takes rfl rfl rfl zy_X3_takes ⟨Nat.le_of_ble_eq_true rfl, Nat.le_of_ble_eq_true rfl⟩) (z_preV (ci := 3) hK hP hD rfl rfl) rfl rfl hl.1 rfl (lv_room (Nat.le_of_ble_eq_true rfl)) dX3_fallsDue_8 ⟨Nat.zero_le _, Nat.zero_le _⟩) hP hD hS rfl rfl (fun H locs hP hD hS => ?_)
  have hP : va_P D vwCl (moW cA a ((f_X3_takes M mb mb (f_X3_own M mb)).2) N h) H := hP
  have hD : va_D _ (moW cA a ((f_X3_takes M mb mb (f_X3_own M mb)).2) N h) := hD
  obtain ⟨M_1, eM_1⟩ : ∃ z9 : BK, z9 = (f_X3_takes M mb mb (f_X3_own M mb)).2 := ⟨_, rfl⟩
  rw [← eM_1] at hP hD
  refine lv_pop hx hb dX3_fallsDue_11 rfl ?_
  refine lv_iconst (v := 0) hx hb dX3_fallsDue_12 (by decide) ?_
  refine lv_istore_n (lv' := [(2, .int 0), (0, .ref (a 0)), (1, .int (nI mb))]) hx hb dX3_fallsDue_13 rfl hl (by decide) rfl (fun ls hl => ?_)
  have loop_14 : ∀ (kk : Nat) (n : Nat) (y0_14 : BK), n ≤ 6 → 6 - n < kk → y0_14 = f_X3_fallsDue_14 M mb M_1 n → ∀ (H : Heap) (locs : List Loc), va_P D vwCl (moW cA a y0_14 N h) H → va_D (zfr (moW cA a M N h)) (moW cA a y0_14 N h) → va_S (zfr (moW cA a M N h)) s.heap H locs → ∀ (ls : Array Slot), lv_has ls 3 [(0, .ref (a 0)), (1, .int (nI mb)), (2, .int (nI n))] → W p l e (headSpec wsX3_fallsDue (zrm 3 66)).room s m ([.ref (a 0), .int (nI mb)] : List Value).toArray below meth c H locs 0 0 (MQ below (zM D (moW cA a M N h) (moW cA a (f_X3_fallsDue M mb) N h) none) ([.ref (a 0), .int (nI mb)] : List Value).toArray s 0 0 (zfr (moW cA a M N h))) (F0 m 14 ls []) := by
    intro kk
    induction kk with
    | zero => intro n y0_14 _ h9; exact absurd h9 (Nat.not_lt_zero _)
    | succ kk ih_14 =>
      intro n y0_14 hn_14 hm_14 q_y0_14 H locs hP hD hS ls hl
      refine lv_iload_n hx hb dX3_fallsDue_14 rfl (lv_at hl 2 rfl) ?_
      refine lv_bipush (v := 6) hx hb dX3_fallsDue_15 (by decide) ?_
      refine lv_icmp_ge (tgt := 55) hx hb dX3_fallsDue_17 (by decide) (fun c_2 => ?_) (fun c_2 => ?_)
      · have c_2 : 6 ≤ n := (nI_leI (a := 6) (b := n) (by omega) (by omega)).mp c_2
        obtain rfl : n = 6 := by omega
        refine lv_aload_n hx hb dX3_fallsDue_55 rfl (lv_at hl 0 rfl) ?_
        refine lv_iload_n hx hb dX3_fallsDue_56 rfl (lv_at hl 1 rfl) ?_
        refine lv_iconst (v := 2) hx hb dX3_fallsDue_57 (by decide) ?_
        refine lv_aload_n hx hb dX3_fallsDue_58 rfl (lv_at hl 0 rfl) ?_
        refine lv_iload_n hx hb dX3_fallsDue_59 rfl (lv_at hl 1 rfl) ?_
        refine lv_iconst (v := 2) hx hb dX3_fallsDue_60 (by decide) ?_
        refine z_E (va_runV (As := [.int (nI mb), .int 2]) (rest := [.int 2, .int (nI mb), .ref (a 0)]) ⟨hx, hb, hml, hown, hts⟩ (zc_X3_of l D cA a y0_14 N h mb 2 (by omega) (by omega)) (cwV 2 hts gX3_fallsDue_X3_of rfl rfl rfl zy_X3_of ⟨Nat.le_of_ble_eq_true rfl, Nat.le_of_ble_eq_true rfl⟩) (z_preV (ci := 3) hK hP hD rfl rfl) rfl rfl hl.1 rfl (lv_room (Nat.le_of_ble_eq_true rfl)) dX3_fallsDue_61 ⟨Nat.zero_le _, Nat.zero_le _⟩) rfl ?_
        refine lv_ineg hx hb dX3_fallsDue_64 ?_
        refine z_M (X := ([] : va_W)) (Z := ([] : va_W)) (va_runV (As := [.int (nI mb), .int 2, .int (-(f_X3_of y0_14 mb 2))]) (rest := []) ⟨hx, hb, hml, hown, hts⟩ (zc_X3_adds l D cA a y0_14 N h mb 2 (-(f_X3_of y0_14 mb 2)) (by omega) (by omega)) (cwV 3 hts gX3_fallsDue_X3_adds rfl rfl rfl zy_X3_adds ⟨Nat.le_of_ble_eq_true rfl, Nat.le_of_ble_eq_true rfl⟩) (z_preV (ci := 3) hK hP hD rfl rfl) rfl rfl hl.1 rfl (lv_room (Nat.le_of_ble_eq_true rfl)) dX3_fallsDue_65 ⟨Nat.zero_le _, Nat.zero_le _⟩) hP hD hS rfl rfl (fun H locs hP hD hS => ?_)
        have hP : va_P D vwCl (moW cA a (f_X3_adds y0_14 mb 2 (-(f_X3_of y0_14 mb 2))) N h) H := hP
        have hD : va_D _ (moW cA a (f_X3_adds y0_14 mb 2 (-(f_X3_of y0_14 mb 2))) N h) := hD
        obtain ⟨M_3, eM_3⟩ : ∃ z9 : BK, z9 = f_X3_adds y0_14 mb 2 (-(f_X3_of y0_14 mb 2)) := ⟨_, rfl⟩
        rw [← eM_3] at hP hD
        refine lv_aload_n hx hb dX3_fallsDue_68 rfl (lv_at hl 0 rfl) ?_
        refine va_get (D := D) (ci := 3) (v := .ref (a 1)) (C := RX3) (T := TX3) (N := 14) hx hb hts hi3 hown hK hP 0 rfl rfl 1 (by decide) (hts (.fieldLink RX3 7 "PledgedLoansModel" "s" "[I") (List.mem_of_getElem? (i := 1) rfl)) (fun _ h9 => h9) rfl dX3_fallsDue_69 ?_
        refine lv_iconst (v := 3) hx hb dX3_fallsDue_72 (by decide) ?_
        refine lv_dup2_11 hx hb dX3_fallsDue_73 rfl rfl ?_
        refine z_iald (j := 3) hx hb hK hP 1 0 rfl rfl dX3_fallsDue_74 (by omega) (by decide) ?_
        refine lv_iconst (v := 1) hx hb dX3_fallsDue_75 (by decide) ?_
        refine lv_iadd hx hb dX3_fallsDue_76 ?_
        refine z_iast (j := 3) hx hb hK hP hD hS 1 0 rfl rfl dX3_fallsDue_77 (by omega) (by decide) (moW cA a (uB M_3 0 3 ((M_3 0 3) + 1)) N h) rfl (fun H locs hP hD hS => ?_)
        exact z_vretM (w1 := moW cA a (uB M_3 0 3 ((M_3 0 3) + 1)) N h) hx hb hr hlocks dX3_fallsDue_78 hP hS (by subst eM_3 q_y0_14 eM_1; first | (simp only [f_X3_fallsDue]; done) | rfl)
      · have c_2 : ¬ 6 ≤ n := fun h9 => c_2 ((nI_leI (a := 6) (b := n) (by omega) (by omega)).mpr h9)
        refine lv_aload_n hx hb dX3_fallsDue_20 rfl (lv_at hl 0 rfl) ?_
        refine va_get (D := D) (ci := 3) (v := .ref (a 1)) (C := RX3) (T := TX3) (N := 14) hx hb hts hi3 hown hK hP 0 rfl rfl 1 (by decide) (hts (.fieldLink RX3 7 "PledgedLoansModel" "s" "[I") (List.mem_of_getElem? (i := 1) rfl)) (fun _ h9 => h9) rfl dX3_fallsDue_21 ?_
        refine lv_bipush (v := 46) hx hb dX3_fallsDue_24 (by decide) ?_
        refine lv_bipush (v := 6) hx hb dX3_fallsDue_26 (by decide) ?_
        refine lv_iload_n hx hb dX3_fallsDue_28 rfl (lv_at hl 2 rfl) ?_
        refine lv_imul hx hb dX3_fallsDue_29 ?_
        refine z_top (pk_mul 6 n) ?_
        refine lv_iadd hx hb dX3_fallsDue_30 ?_
        refine z_top (nI_add 46 (6 * n)) ?_
        refine lv_iload_n hx hb dX3_fallsDue_31 rfl (lv_at hl 1 rfl) ?_
        refine lv_iadd hx hb dX3_fallsDue_32 ?_
        refine z_top (nI_add (46 + (6 * n)) mb) ?_
        refine lv_dup2_11 hx hb dX3_fallsDue_33 rfl rfl ?_
        refine z_iald (j := (46 + (6 * n)) + mb) hx hb hK hP 1 0 rfl rfl dX3_fallsDue_34 (by omega) (by decide) ?_
        refine lv_aload_n hx hb dX3_fallsDue_35 rfl (lv_at hl 0 rfl) ?_
        refine lv_iload_n hx hb dX3_fallsDue_36 rfl (lv_at hl 1 rfl) ?_
        refine lv_iload_n hx hb dX3_fallsDue_37 rfl (lv_at hl 2 rfl) ?_
        refine lv_aload_n hx hb dX3_fallsDue_38 rfl (lv_at hl 0 rfl) ?_
        refine lv_iload_n hx hb dX3_fallsDue_39 rfl (lv_at hl 2 rfl) ?_
        refine lv_iload_n hx hb dX3_fallsDue_40 rfl (lv_at hl 1 rfl) ?_
        refine z_E (va_runV (As := [.int (nI n), .int (nI mb)]) (rest := [.int (nI n), .int (nI mb), .ref (a 0), .int (y0_14 0 ((46 + (6 * n)) + mb)), .int (nI ((46 + (6 * n)) + mb)), .ref (a 1)]) ⟨hx, hb, hml, hown, hts⟩ (zc_X3_pledgeOf l D cA a y0_14 N h n mb (by omega) (by omega)) (cwV 2 hts gX3_fallsDue_X3_pledgeOf rfl rfl rfl zy_X3_pledgeOf ⟨Nat.le_of_ble_eq_true rfl, Nat.le_of_ble_eq_true rfl⟩) (z_preV (ci := 3) hK hP hD rfl rfl) rfl rfl hl.1 rfl (lv_room (Nat.le_of_ble_eq_true rfl)) dX3_fallsDue_41 ⟨Nat.zero_le _, Nat.zero_le _⟩) rfl ?_
        refine z_M (X := ([] : va_W)) (Z := ([] : va_W)) (va_runV (As := [.int (nI mb), .int (nI n), .int (f_X3_pledgeOf y0_14 n mb)]) (rest := [.int (y0_14 0 ((46 + (6 * n)) + mb)), .int (nI ((46 + (6 * n)) + mb)), .ref (a 1)]) ⟨hx, hb, hml, hown, hts⟩ (zc_X3_takes l D cA a y0_14 N h mb n (f_X3_pledgeOf y0_14 n mb) (by omega) (by omega)) (cwV 3 hts gX3_fallsDue_X3_takes rfl rfl rfl zy_X3_takes ⟨Nat.le_of_ble_eq_true rfl, Nat.le_of_ble_eq_true rfl⟩) (z_preV (ci := 3) hK hP hD rfl rfl) rfl rfl hl.1 rfl (lv_room (Nat.le_of_ble_eq_true rfl)) dX3_fallsDue_44 ⟨Nat.zero_le _, Nat.zero_le _⟩) hP hD hS rfl rfl (fun H locs hP hD hS => ?_)
        have hP : va_P D vwCl (moW cA a ((f_X3_takes y0_14 mb n (f_X3_pledgeOf y0_14 n mb)).2) N h) H := hP
        have hD : va_D _ (moW cA a ((f_X3_takes y0_14 mb n (f_X3_pledgeOf y0_14 n mb)).2) N h) := hD
        obtain ⟨M_4, eM_4⟩ : ∃ z9 : BK, z9 = (f_X3_takes y0_14 mb n (f_X3_pledgeOf y0_14 n mb)).2 := ⟨_, rfl⟩
        rw [← eM_4] at hP hD
        refine lv_isub hx hb dX3_fallsDue_47 ?_
        refine z_iast (j := (46 + (6 * n)) + mb) hx hb hK hP hD hS 1 0 rfl rfl dX3_fallsDue_48 (by omega) (by decide) (moW cA a (uB M_4 0 ((46 + (6 * n)) + mb) ((y0_14 0 ((46 + (6 * n)) + mb)) - ((f_X3_takes y0_14 mb n (f_X3_pledgeOf y0_14 n mb)).1))) N h) rfl (fun H locs hP hD hS => ?_)
        obtain ⟨M_5, eM_5⟩ : ∃ z9 : BK, z9 = uB M_4 0 ((46 + (6 * n)) + mb) ((y0_14 0 ((46 + (6 * n)) + mb)) - ((f_X3_takes y0_14 mb n (f_X3_pledgeOf y0_14 n mb)).1)) := ⟨_, rfl⟩
        rw [← eM_5] at hP hD
        refine lv_iinc (v := nI (n + 1)) (lv' := [(2, .int (nI (n + 1))), (0, .ref (a 0)), (1, .int (nI mb))]) hx hb dX3_fallsDue_49 hl (k := 2) rfl (by rw [show (Int32.ofInt 1) = nI 1 from by decide]; exact nI_add n 1) (by decide) rfl (fun ls hl => ?_)
        refine lv_goto (tgt := 14) hx hb dX3_fallsDue_52 (by decide) ?_
        exact ih_14 (n + 1) _ (by omega) (by omega) (by subst eM_5 eM_4 q_y0_14 eM_1; first | (simp only [f_X3_fallsDue_14]; done) | rfl) _ _ hP hD hS ls (lv_sub hl [1, 2, 0] rfl)
  exact loop_14 _ 0 _ (by omega) (Nat.lt_succ_self _) rfl _ _ hP hD hS ls (lv_sub hl [1, 2, 0] rfl)

theorem zy_X3_allDays : yX3_allDays.cls = RX3 ∧ yX3_allDays.cls ≠ "java/lang/invoke/MethodHandle" ∧ yX3_allDays.cls ≠ "java/lang/invoke/VarHandle" ∧ (parseMethodDescriptor yX3_allDays.desc).map (fun d => d.parameters.length) = some 0 := by decide +kernel
def f_X3_allDays_4 (M : BK) (i0 : Int64) : Nat → Int64
  | 0 => i0
  | n + 1 =>
    let y0_4 : Int64 := f_X3_allDays_4 M i0 n
    y0_4 + ((f_X3_of M n 1).toInt64)
def f_X3_allDays (M : BK) : Int64 :=
  let y0_4 : Int64 := f_X3_allDays_4 M 0 6
  y0_4

set_option maxHeartbeats 4000000 in
set_option maxRecDepth 100000 in
theorem zc_X3_allDays (l : Launch) (D : va_G) (cA : Nat → ClassId) (a : Nat → Nat) (M : BK) (N : Nat → Nat) (h : Int64)  : Met l yX3_allDays wsX3_allDays (zrm 1 22) (zPc D cA [.ref (a 0)] (moW cA a M N h)) (zE (some (.long (f_X3_allDays M)))) 0 0 (fun _ => False) := by
  refine Met.ofW (cc := cX3_allDays) (maxL := 4) (ret := (some .long)) (by decide) rfl ?_
  intro p e s m args below meth c s₁ Bd hml hv
  obtain ⟨rfl, hP, hK, hD0⟩ := hv
  have hx := Bd.exec
  have hb := Bd.bytes
  have hr := Bd.returns
  have hts := atoms_spec (ws := wsX3_allDays) Bd.pre
  have hown : s.vm.findClass RX3 = some m.cls := findClass_of_methodNamed Bd.named
  have hlocks := Bd.notSynchronized
  have hD := z_Dfr hD0
  have hS : va_S (zfr (moW cA a M N h)) s.heap s.heap [] := va_S.rf
  have hi3 : ∀ w ∈ wsX30, w ∈ wsX3_allDays := fun w h => List.mem_cons_of_mem _ (List.mem_append_right _ h)
  have hl := lv_entry ([.ref (a 0)]) (n := 4) (Nat.le_of_ble_eq_true rfl)
  rw [lg_entry_eq]
  generalize (lg_sl ([.ref (a 0)]) ++ List.replicate (4 - (lg_sl ([.ref (a 0)])).length) Slot.unset).toArray = ls at hl ⊢
  have hl : lv_has ls 4 [(0, .ref (a 0))] := hl
  refine lv_lconst (v := 0) hx hb dX3_allDays_0 (by decide) ?_
  refine lv_lstore_n (lv' := [(1, .long 0), (0, .ref (a 0))]) hx hb dX3_allDays_1 rfl hl (by decide) rfl (fun ls hl => ?_)
  refine lv_iconst (v := 0) hx hb dX3_allDays_2 (by decide) ?_
  refine lv_istore_n (lv' := [(3, .int 0), (1, .long 0), (0, .ref (a 0))]) hx hb dX3_allDays_3 rfl hl (by decide) rfl (fun ls hl => ?_)
  have loop_4 : ∀ (kk : Nat) (n : Nat) (y0_4 : Int64), n ≤ 6 → 6 - n < kk → y0_4 = f_X3_allDays_4 M 0 n → ∀ (ls : Array Slot), lv_has ls 4 [(0, .ref (a 0)), (1, .long y0_4), (3, .int (nI n))] → W p l e (headSpec wsX3_allDays (zrm 1 22)).room s m ([.ref (a 0)] : List Value).toArray below meth c s.heap [] 0 0 (MQ below (zE (some (.long (f_X3_allDays M)))) ([.ref (a 0)] : List Value).toArray s 0 0 (fun _ => False)) (F0 m 4 ls []) := by
    intro kk
    induction kk with
    | zero => intro n y0_4 _ h9; exact absurd h9 (Nat.not_lt_zero _)
    | succ kk ih_4 =>
      intro n y0_4 hn_4 hm_4 q_y0_4 ls hl
      refine lv_iload_n hx hb dX3_allDays_4 rfl (lv_at hl 2 rfl) ?_
      refine lv_bipush (v := 6) hx hb dX3_allDays_5 (by decide) ?_
      refine lv_icmp_ge (tgt := 26) hx hb dX3_allDays_7 (by decide) (fun c_1 => ?_) (fun c_1 => ?_)
      · have c_1 : 6 ≤ n := (nI_leI (a := 6) (b := n) (by omega) (by omega)).mp c_1
        obtain rfl : n = 6 := by omega
        refine lv_lload_n hx hb dX3_allDays_26 rfl (lv_at hl 1 rfl) ?_
        exact z_lretE hx hb hr hlocks dX3_allDays_27 (by subst q_y0_4; first | (simp only [f_X3_allDays]; done) | rfl)
      · have c_1 : ¬ 6 ≤ n := fun h9 => c_1 ((nI_leI (a := 6) (b := n) (by omega) (by omega)).mpr h9)
        refine lv_lload_n hx hb dX3_allDays_10 rfl (lv_at hl 1 rfl) ?_
        refine lv_aload_n hx hb dX3_allDays_11 rfl (lv_at hl 0 rfl) ?_
        refine lv_iload_n hx hb dX3_allDays_12 rfl (lv_at hl 2 rfl) ?_
        refine lv_iconst (v := 1) hx hb dX3_allDays_13 (by decide) ?_
        refine z_E (va_runV (As := [.int (nI n), .int 1]) (rest := [.long y0_4]) ⟨hx, hb, hml, hown, hts⟩ (zc_X3_of l D cA a M N h n 1 (by omega) (by omega)) (cwV 2 hts gX3_allDays_X3_of rfl rfl rfl zy_X3_of ⟨Nat.le_of_ble_eq_true rfl, Nat.le_of_ble_eq_true rfl⟩) (z_preV (ci := 3) hK hP hD rfl rfl) rfl rfl hl.1 rfl (lv_room (Nat.le_of_ble_eq_true rfl)) dX3_allDays_14 ⟨Nat.zero_le _, Nat.zero_le _⟩) rfl ?_
        refine lv_i2l (v := (f_X3_of M n 1).toInt64) hx hb dX3_allDays_17 rfl ?_
        refine lv_ladd hx hb dX3_allDays_18 ?_
        refine lv_lstore_n (lv' := [(1, .long (y0_4 + ((f_X3_of M n 1).toInt64))), (0, .ref (a 0)), (3, .int (nI n))]) hx hb dX3_allDays_19 rfl hl (by decide) rfl (fun ls hl => ?_)
        refine lv_iinc (v := nI (n + 1)) (lv' := [(3, .int (nI (n + 1))), (1, .long (y0_4 + ((f_X3_of M n 1).toInt64))), (0, .ref (a 0))]) hx hb dX3_allDays_20 hl (k := 2) rfl (by rw [show (Int32.ofInt 1) = nI 1 from by decide]; exact nI_add n 1) (by decide) rfl (fun ls hl => ?_)
        refine lv_goto (tgt := 4) hx hb dX3_allDays_23 (by decide) ?_
        exact ih_4 (n + 1) _ (by omega) (by omega) (by subst q_y0_4; first | (simp only [f_X3_allDays_4]; done) | rfl) ls (lv_sub hl [2, 1, 0] rfl)
  exact loop_4 _ 0 _ (by omega) (Nat.lt_succ_self _) rfl ls (lv_sub hl [2, 1, 0] rfl)

theorem zy_X3_share : yX3_share.cls = RX3 ∧ yX3_share.cls ≠ "java/lang/invoke/MethodHandle" ∧ yX3_share.cls ≠ "java/lang/invoke/VarHandle" ∧ (parseMethodDescriptor yX3_share.desc).map (fun d => d.parameters.length) = some 1 := by decide +kernel
def f_X3_share (M : BK) (mb : Nat) : Int32 :=
  if (f_X3_allDays M) = 0 then
    0
  else
    ((((M 0 1).toInt64) * ((f_X3_of M mb 1).toInt64)) / (f_X3_allDays M)).toInt32

set_option maxHeartbeats 4000000 in
set_option maxRecDepth 100000 in
theorem zc_X3_share (l : Launch) (D : va_G) (cA : Nat → ClassId) (a : Nat → Nat) (M : BK) (N : Nat → Nat) (h : Int64) (mb : Nat) (hmb : mb < 6) : Met l yX3_share wsX3_share (zrm 2 45) (zPc D cA [.ref (a 0), .int (nI mb)] (moW cA a M N h)) (zE (some (.int (f_X3_share M mb)))) 0 0 (fun _ => False) := by
  refine Met.ofW (cc := cX3_share) (maxL := 4) (ret := (some .int)) (by decide) rfl ?_
  intro p e s m args below meth c s₁ Bd hml hv
  obtain ⟨rfl, hP, hK, hD0⟩ := hv
  have hx := Bd.exec
  have hb := Bd.bytes
  have hr := Bd.returns
  have hts := atoms_spec (ws := wsX3_share) Bd.pre
  have hown : s.vm.findClass RX3 = some m.cls := findClass_of_methodNamed Bd.named
  have hlocks := Bd.notSynchronized
  have hD := z_Dfr hD0
  have hS : va_S (zfr (moW cA a M N h)) s.heap s.heap [] := va_S.rf
  have hi3 : ∀ w ∈ wsX30, w ∈ wsX3_share := fun w h => List.mem_cons_of_mem _ (List.mem_append_right _ h)
  have hl := lv_entry ([.ref (a 0), .int (nI mb)]) (n := 4) (Nat.le_of_ble_eq_true rfl)
  rw [lg_entry_eq]
  generalize (lg_sl ([.ref (a 0), .int (nI mb)]) ++ List.replicate (4 - (lg_sl ([.ref (a 0), .int (nI mb)])).length) Slot.unset).toArray = ls at hl ⊢
  have hl : lv_has ls 4 [(0, .ref (a 0)), (1, .int (nI mb))] := hl
  refine lv_aload_n hx hb dX3_share_0 rfl (lv_at hl 0 rfl) ?_
  refine z_E (va_runV (As := []) (rest := []) ⟨hx, hb, hml, hown, hts⟩ (zc_X3_allDays l D cA a M N h) (cwV 0 hts gX3_share_X3_allDays rfl rfl rfl zy_X3_allDays ⟨Nat.le_of_ble_eq_true rfl, Nat.le_of_ble_eq_true rfl⟩) (z_preV (ci := 3) hK hP hD rfl rfl) rfl rfl hl.1 rfl (lv_room (Nat.le_of_ble_eq_true rfl)) dX3_share_1 ⟨Nat.zero_le _, Nat.zero_le _⟩) rfl ?_
  refine lv_lstore_n (lv' := [(2, .long (f_X3_allDays M)), (0, .ref (a 0)), (1, .int (nI mb))]) hx hb dX3_share_4 rfl hl (by decide) rfl (fun ls hl => ?_)
  refine lv_lload_n hx hb dX3_share_5 rfl (lv_at hl 0 rfl) ?_
  refine lv_lconst (v := 0) hx hb dX3_share_6 (by decide) ?_
  refine W.lcmp hx hb dX3_share_7 ?_
  refine lv_if_ne (tgt := 15) hx hb dX3_share_8 (by decide) (fun c_1 => ?_) (fun c_1 => ?_)
  · have c_1 : ¬ (f_X3_allDays M) = 0 := fun h9 => c_1 ((lg_cmp_eq _ _).mpr h9)
    refine lv_aload_n hx hb dX3_share_15 rfl (lv_at hl 1 rfl) ?_
    refine va_get (D := D) (ci := 3) (v := .ref (a 1)) (C := RX3) (T := TX3) (N := 14) hx hb hts hi3 hown hK hP 0 rfl rfl 1 (by decide) (hts (.fieldLink RX3 7 "PledgedLoansModel" "s" "[I") (List.mem_of_getElem? (i := 1) rfl)) (fun _ h9 => h9) rfl dX3_share_16 ?_
    refine lv_iconst (v := 1) hx hb dX3_share_19 (by decide) ?_
    refine z_iald (j := 1) hx hb hK hP 1 0 rfl rfl dX3_share_20 (by omega) (by decide) ?_
    refine lv_i2l (v := (M 0 1).toInt64) hx hb dX3_share_21 rfl ?_
    refine lv_aload_n hx hb dX3_share_22 rfl (lv_at hl 1 rfl) ?_
    refine lv_iload_n hx hb dX3_share_23 rfl (lv_at hl 2 rfl) ?_
    refine lv_iconst (v := 1) hx hb dX3_share_24 (by decide) ?_
    refine z_E (va_runV (As := [.int (nI mb), .int 1]) (rest := [.long ((M 0 1).toInt64)]) ⟨hx, hb, hml, hown, hts⟩ (zc_X3_of l D cA a M N h mb 1 (by omega) (by omega)) (cwV 2 hts gX3_share_X3_of rfl rfl rfl zy_X3_of ⟨Nat.le_of_ble_eq_true rfl, Nat.le_of_ble_eq_true rfl⟩) (z_preV (ci := 3) hK hP hD rfl rfl) rfl rfl hl.1 rfl (lv_room (Nat.le_of_ble_eq_true rfl)) dX3_share_25 ⟨Nat.zero_le _, Nat.zero_le _⟩) rfl ?_
    refine lv_i2l (v := (f_X3_of M mb 1).toInt64) hx hb dX3_share_28 rfl ?_
    refine lv_lmul hx hb dX3_share_29 ?_
    refine lv_lload_n hx hb dX3_share_30 rfl (lv_at hl 0 rfl) ?_
    refine lv_ldiv hx hb dX3_share_31 c_1 ?_
    refine lv_l2i (v := ((((M 0 1).toInt64) * ((f_X3_of M mb 1).toInt64)) / (f_X3_allDays M)).toInt32) hx hb dX3_share_32 rfl ?_
    exact z_iretE hx hb hr hlocks dX3_share_33 (by simp only [f_X3_share, if_neg c_1])
  · have c_1 : (f_X3_allDays M) = 0 := (lg_cmp_eq _ _).mp c_1
    refine lv_iconst (v := 0) hx hb dX3_share_11 (by decide) ?_
    refine lv_goto (tgt := 33) hx hb dX3_share_12 (by decide) ?_
    exact z_iretE hx hb hr hlocks dX3_share_33 (by simp only [f_X3_share, if_pos c_1])

theorem zy_X3_copies : yX3_copies.cls = RX3 ∧ yX3_copies.cls ≠ "java/lang/invoke/MethodHandle" ∧ yX3_copies.cls ≠ "java/lang/invoke/VarHandle" ∧ (parseMethodDescriptor yX3_copies.desc).map (fun d => d.parameters.length) = some 2 := by decide +kernel
def f_X3_copies_2 (M : BK) (fr : Nat) (to : Nat) (i0 : BK) : Nat → BK
  | 0 => i0
  | n + 1 =>
    let y0_2 : BK := f_X3_copies_2 M fr to i0 n
    let M_2 : BK := uB y0_2 0 ((82 * to) + n) (y0_2 0 ((82 * fr) + n))
    M_2
def f_X3_copies (M : BK) (fr : Nat) (to : Nat) : BK :=
  let y0_2 : BK := f_X3_copies_2 M fr to M 82
  y0_2

set_option maxHeartbeats 4000000 in
set_option maxRecDepth 100000 in
theorem zc_X3_copies (l : Launch) (D : va_G) (cA : Nat → ClassId) (a : Nat → Nat) (M : BK) (N : Nat → Nat) (h : Int64) (fr : Nat) (to : Nat) (hfr : fr < 9) (hto : to < 9) : Met l yX3_copies wsX3_copies (zrm 0 0) (zPc D cA [.ref (a 0), .int (nI fr), .int (nI to)] (moW cA a M N h)) (zM D (moW cA a M N h) (moW cA a (f_X3_copies M fr to) N h) none) 0 0 (zfr (moW cA a M N h)) := by
  refine Met.ofW (cc := cX3_copies) (maxL := 4) (ret := none) (by decide) rfl ?_
  intro p e s m args below meth c s₁ Bd hml hv
  obtain ⟨rfl, hP, hK, hD0⟩ := hv
  have hx := Bd.exec
  have hb := Bd.bytes
  have hr := Bd.returns
  have hts := atoms_spec (ws := wsX3_copies) Bd.pre
  have hown : s.vm.findClass RX3 = some m.cls := findClass_of_methodNamed Bd.named
  have hlocks := Bd.notSynchronized
  have hD := z_Dfr hD0
  have hS : va_S (zfr (moW cA a M N h)) s.heap s.heap [] := va_S.rf
  have hi3 : ∀ w ∈ wsX30, w ∈ wsX3_copies := fun w h => List.mem_cons_of_mem _ (List.mem_append_right _ h)
  have hl := lv_entry ([.ref (a 0), .int (nI fr), .int (nI to)]) (n := 4) (Nat.le_of_ble_eq_true rfl)
  rw [lg_entry_eq]
  generalize (lg_sl ([.ref (a 0), .int (nI fr), .int (nI to)]) ++ List.replicate (4 - (lg_sl ([.ref (a 0), .int (nI fr), .int (nI to)])).length) Slot.unset).toArray = ls at hl ⊢
  have hl : lv_has ls 4 [(0, .ref (a 0)), (1, .int (nI fr)), (2, .int (nI to))] := hl
  refine lv_iconst (v := 0) hx hb dX3_copies_0 (by decide) ?_
  refine lv_istore_n (lv' := [(3, .int 0), (0, .ref (a 0)), (1, .int (nI fr)), (2, .int (nI to))]) hx hb dX3_copies_1 rfl hl (by decide) rfl (fun ls hl => ?_)
  have loop_2 : ∀ (kk : Nat) (n : Nat) (y0_2 : BK), n ≤ 82 → 82 - n < kk → y0_2 = f_X3_copies_2 M fr to M n → ∀ (H : Heap) (locs : List Loc), va_P D vwCl (moW cA a y0_2 N h) H → va_D (zfr (moW cA a M N h)) (moW cA a y0_2 N h) → va_S (zfr (moW cA a M N h)) s.heap H locs → ∀ (ls : Array Slot), lv_has ls 4 [(0, .ref (a 0)), (1, .int (nI fr)), (2, .int (nI to)), (3, .int (nI n))] → W p l e (headSpec wsX3_copies (zrm 0 0)).room s m ([.ref (a 0), .int (nI fr), .int (nI to)] : List Value).toArray below meth c H locs 0 0 (MQ below (zM D (moW cA a M N h) (moW cA a (f_X3_copies M fr to) N h) none) ([.ref (a 0), .int (nI fr), .int (nI to)] : List Value).toArray s 0 0 (zfr (moW cA a M N h))) (F0 m 2 ls []) := by
    intro kk
    induction kk with
    | zero => intro n y0_2 _ h9; exact absurd h9 (Nat.not_lt_zero _)
    | succ kk ih_2 =>
      intro n y0_2 hn_2 hm_2 q_y0_2 H locs hP hD hS ls hl
      refine lv_iload_n hx hb dX3_copies_2 rfl (lv_at hl 3 rfl) ?_
      refine lv_bipush (v := 82) hx hb dX3_copies_3 (by decide) ?_
      refine lv_icmp_ge (tgt := 36) hx hb dX3_copies_5 (by decide) (fun c_1 => ?_) (fun c_1 => ?_)
      · have c_1 : 82 ≤ n := (nI_leI (a := 82) (b := n) (by omega) (by omega)).mp c_1
        obtain rfl : n = 82 := by omega
        exact z_vretM (w1 := moW cA a y0_2 N h) hx hb hr hlocks dX3_copies_36 hP hS (by subst q_y0_2; first | (simp only [f_X3_copies]; done) | rfl)
      · have c_1 : ¬ 82 ≤ n := fun h9 => c_1 ((nI_leI (a := 82) (b := n) (by omega) (by omega)).mpr h9)
        refine lv_aload_n hx hb dX3_copies_8 rfl (lv_at hl 0 rfl) ?_
        refine va_get (D := D) (ci := 3) (v := .ref (a 1)) (C := RX3) (T := TX3) (N := 14) hx hb hts hi3 hown hK hP 0 rfl rfl 1 (by decide) (hts (.fieldLink RX3 7 "PledgedLoansModel" "s" "[I") (List.mem_of_getElem? (i := 1) rfl)) (fun _ h9 => h9) rfl dX3_copies_9 ?_
        refine lv_bipush (v := 82) hx hb dX3_copies_12 (by decide) ?_
        refine lv_iload_n hx hb dX3_copies_14 rfl (lv_at hl 2 rfl) ?_
        refine lv_imul hx hb dX3_copies_15 ?_
        refine z_top (pk_mul 82 to) ?_
        refine lv_iload_n hx hb dX3_copies_16 rfl (lv_at hl 3 rfl) ?_
        refine lv_iadd hx hb dX3_copies_17 ?_
        refine z_top (nI_add (82 * to) n) ?_
        refine lv_aload_n hx hb dX3_copies_18 rfl (lv_at hl 0 rfl) ?_
        refine va_get (D := D) (ci := 3) (v := .ref (a 1)) (C := RX3) (T := TX3) (N := 14) hx hb hts hi3 hown hK hP 0 rfl rfl 1 (by decide) (hts (.fieldLink RX3 7 "PledgedLoansModel" "s" "[I") (List.mem_of_getElem? (i := 1) rfl)) (fun _ h9 => h9) rfl dX3_copies_19 ?_
        refine lv_bipush (v := 82) hx hb dX3_copies_22 (by decide) ?_
        refine lv_iload_n hx hb dX3_copies_24 rfl (lv_at hl 1 rfl) ?_
        refine lv_imul hx hb dX3_copies_25 ?_
        refine z_top (pk_mul 82 fr) ?_
        refine lv_iload_n hx hb dX3_copies_26 rfl (lv_at hl 3 rfl) ?_
        refine lv_iadd hx hb dX3_copies_27 ?_
        refine z_top (nI_add (82 * fr) n) ?_
        refine z_iald (j := (82 * fr) + n) hx hb hK hP 1 0 rfl rfl dX3_copies_28 (by omega) (by decide) ?_
        refine z_iast (j := (82 * to) + n) hx hb hK hP hD hS 1 0 rfl rfl dX3_copies_29 (by omega) (by decide) (moW cA a (uB y0_2 0 ((82 * to) + n) (y0_2 0 ((82 * fr) + n))) N h) rfl (fun H locs hP hD hS => ?_)
        obtain ⟨M_2, eM_2⟩ : ∃ z9 : BK, z9 = uB y0_2 0 ((82 * to) + n) (y0_2 0 ((82 * fr) + n)) := ⟨_, rfl⟩
        rw [← eM_2] at hP hD
        refine lv_iinc (v := nI (n + 1)) (lv' := [(3, .int (nI (n + 1))), (0, .ref (a 0)), (1, .int (nI fr)), (2, .int (nI to))]) hx hb dX3_copies_30 hl (k := 3) rfl (by rw [show (Int32.ofInt 1) = nI 1 from by decide]; exact nI_add n 1) (by decide) rfl (fun ls hl => ?_)
        refine lv_goto (tgt := 2) hx hb dX3_copies_33 (by decide) ?_
        exact ih_2 (n + 1) _ (by omega) (by omega) (by subst eM_2 q_y0_2; first | (simp only [f_X3_copies_2]; done) | rfl) _ _ hP hD hS ls (lv_sub hl [1, 2, 3, 0] rfl)
  exact loop_2 _ 0 _ (by omega) (Nat.lt_succ_self _) rfl _ _ hP hD hS ls (lv_sub hl [1, 2, 3, 0] rfl)

theorem zy_X3_save : yX3_save.cls = RX3 ∧ yX3_save.cls ≠ "java/lang/invoke/MethodHandle" ∧ yX3_save.cls ≠ "java/lang/invoke/VarHandle" ∧ (parseMethodDescriptor yX3_save.desc).map (fun d => d.parameters.length) = some 0 := by decide +kernel
def f_X3_save_2 (M : BK) (N : Nat → Nat) : Nat → Nat → BK → BK × (Nat → Nat)
  | 0, q, M1 => (M1, N)
  | k + 1, q, M1 =>
    if 6 ≤ q then
      if 6 ≤ (N 0) then
        let M_4 : BK := f_X3_copies M1 0 ((N 0) + 0)
        (M_4, va_up N 0 ((N 0) + 0))
      else
        let M_7 : BK := f_X3_copies M1 0 ((N 0) + 1)
        (M_7, va_up N 0 ((N 0) + 1))
    else
      if (N 0) = 6 then
        let M_17 : BK := f_X3_copies M1 (q + 1) q
        f_X3_save_2 M N k (q + 1) M_17
      else
        if 6 ≤ (N 0) then
          let M_12 : BK := f_X3_copies M1 0 ((N 0) + 0)
          (M_12, va_up N 0 ((N 0) + 0))
        else
          let M_15 : BK := f_X3_copies M1 0 ((N 0) + 1)
          (M_15, va_up N 0 ((N 0) + 1))
def f_X3_save (M : BK) (N : Nat → Nat) : BK × (Nat → Nat) :=
  f_X3_save_2 M N 8 1 M

def zsv (N N' : Nat → Nat) : Prop := N' 1 = N 1 ∧ N' 2 = N 2 ∧ N' 0 ≤ 6
theorem zn_X3_save (M : BK) (N : Nat → Nat) (h : N 0 ≤ 6) : zsv N (f_X3_save M N).2 := by
  have key : ∀ (k q : Nat) (M1 : BK), zsv N (f_X3_save_2 M N k q M1).2 := by
    intro k
    induction k with
    | zero => intro q M1; exact ⟨rfl, rfl, h⟩
    | succ k ih =>
      intro q M1
      unfold f_X3_save_2
      dsimp only
      repeat' split
      all_goals first | exact ih _ _ | exact ⟨rfl, rfl, by show N 0 + 0 ≤ 6; omega⟩ | exact ⟨rfl, rfl, by show N 0 + 1 ≤ 6; omega⟩
  exact key 8 1 M

set_option maxHeartbeats 4000000 in
set_option maxRecDepth 100000 in
theorem zc_X3_save (l : Launch) (D : va_G) (cA : Nat → ClassId) (a : Nat → Nat) (M : BK) (N : Nat → Nat) (h : Int64) (hsv : N 0 ≤ 6) : Met l yX3_save wsX3_save (zrm 1 23) (zPc D cA [.ref (a 0)] (moW cA a M N h)) (zM D (moW cA a M N h) (moW cA a ((f_X3_save M N).1) ((f_X3_save M N).2) h) none) 0 0 (zfr (moW cA a M N h)) := by
  refine Met.ofW (cc := cX3_save) (maxL := 2) (ret := none) (by decide) rfl ?_
  intro p e s m args below meth c s₁ Bd hml hv
  obtain ⟨rfl, hP, hK, hD0⟩ := hv
  have hx := Bd.exec
  have hb := Bd.bytes
  have hr := Bd.returns
  have hts := atoms_spec (ws := wsX3_save) Bd.pre
  have hown : s.vm.findClass RX3 = some m.cls := findClass_of_methodNamed Bd.named
  have hlocks := Bd.notSynchronized
  have hD := z_Dfr hD0
  have hS : va_S (zfr (moW cA a M N h)) s.heap s.heap [] := va_S.rf
  have hi3 : ∀ w ∈ wsX30, w ∈ wsX3_save := fun w h => List.mem_cons_of_mem _ (List.mem_append_right _ h)
  have hl := lv_entry ([.ref (a 0)]) (n := 2) (Nat.le_of_ble_eq_true rfl)
  rw [lg_entry_eq]
  generalize (lg_sl ([.ref (a 0)]) ++ List.replicate (2 - (lg_sl ([.ref (a 0)])).length) Slot.unset).toArray = ls at hl ⊢
  have hl : lv_has ls 2 [(0, .ref (a 0))] := hl
  refine lv_iconst (v := 1) hx hb dX3_save_0 (by decide) ?_
  refine lv_istore_n (lv' := [(1, .int 1), (0, .ref (a 0))]) hx hb dX3_save_1 rfl hl (by decide) rfl (fun ls hl => ?_)
  have loop_2 : ∀ (kk : Nat) (q : Nat) (M1 : BK), 7 - q < kk → q < 7 → f_X3_save M N = f_X3_save_2 M N kk q M1 → ∀ (H : Heap) (locs : List Loc), va_P D vwCl (moW cA a M1 N h) H → va_D (zfr (moW cA a M N h)) (moW cA a M1 N h) → va_S (zfr (moW cA a M N h)) s.heap H locs → ∀ (ls : Array Slot), lv_has ls 2 [(0, .ref (a 0)), (1, .int (nI q))] → W p l e (headSpec wsX3_save (zrm 1 23)).room s m ([.ref (a 0)] : List Value).toArray below meth c H locs 0 0 (MQ below (zM D (moW cA a M N h) (moW cA a ((f_X3_save M N).1) ((f_X3_save M N).2) h) none) ([.ref (a 0)] : List Value).toArray s 0 0 (zfr (moW cA a M N h))) (F0 m 2 ls []) := by
    intro kk
    induction kk with
    | zero => intro q M1 h9; exact absurd h9 (Nat.not_lt_zero _)
    | succ kk ih_2 =>
      intro q M1 hm_2 hi0_2 hres_2 H locs hP hD hS ls hl
      refine lv_iload_n hx hb dX3_save_2 rfl (lv_at hl 1 rfl) ?_
      refine lv_bipush (v := 6) hx hb dX3_save_3 (by decide) ?_
      refine lv_icmp_ge (tgt := 31) hx hb dX3_save_5 (by decide) (fun c_1 => ?_) (fun c_1 => ?_)
      · have c_1 : 6 ≤ q := (nI_leI (a := 6) (b := q) (by omega) (by omega)).mp c_1
        refine lv_aload_n hx hb dX3_save_31 rfl (lv_at hl 0 rfl) ?_
        refine lv_dup hx hb dX3_save_32 rfl ?_
        refine va_get (D := D) (ci := 3) (v := .int (nI (N 0))) (C := RX3) (T := TX3) (N := 14) hx hb hts hi3 hown hK hP 0 rfl rfl 2 (by decide) (hts (.fieldLink RX3 80 "PledgedLoansModel" "saved" "I") (List.mem_of_getElem? (i := 1) rfl)) (fun _ h9 => h9) rfl dX3_save_33 ?_
        refine lv_aload_n hx hb dX3_save_36 rfl (lv_at hl 0 rfl) ?_
        refine va_get (D := D) (ci := 3) (v := .int (nI (N 0))) (C := RX3) (T := TX3) (N := 14) hx hb hts hi3 hown hK hP 0 rfl rfl 2 (by decide) (hts (.fieldLink RX3 80 "PledgedLoansModel" "saved" "I") (List.mem_of_getElem? (i := 1) rfl)) (fun _ h9 => h9) rfl dX3_save_37 ?_
        refine lv_bipush (v := 6) hx hb dX3_save_40 (by decide) ?_
        refine lv_icmp_ge (tgt := 49) hx hb dX3_save_42 (by decide) (fun c_2 => ?_) (fun c_2 => ?_)
        · have c_2 : 6 ≤ (N 0) := (nI_leI (a := 6) (b := (N 0)) (by omega) (by omega)).mp c_2
          refine lv_iconst (v := 0) hx hb dX3_save_49 (by decide) ?_
          refine lv_iadd hx hb dX3_save_50 ?_
          refine z_top (nI_add (N 0) 0) ?_
          refine va_put (D := D) (ci := 3) (v := .int (nI ((N 0) + 0))) (ty := .int) (C := RX3) (T := TX3) (N := 14) hx hb hts hi3 tyX3 tyX3_ok nmX3 hown hK hP hD hS 0 rfl rfl 2 (by decide) (hts (.fieldLink RX3 80 "PledgedLoansModel" "saved" "I") (List.mem_of_getElem? (i := 1) rfl)) (fun _ h9 => h9) rfl (by decide +kernel) rfl rfl (Nat.le_of_ble_eq_true rfl) dX3_save_51 (fun H locs hP hD hS => ?_)
          have hP : va_P D vwCl (moW cA a M1 (va_up N 0 ((N 0) + 0)) h) H := hP
          have hD : va_D _ (moW cA a M1 (va_up N 0 ((N 0) + 0)) h) := hD
          refine lv_aload_n hx hb dX3_save_54 rfl (lv_at hl 0 rfl) ?_
          refine lv_iconst (v := 0) hx hb dX3_save_55 (by decide) ?_
          refine lv_aload_n hx hb dX3_save_56 rfl (lv_at hl 0 rfl) ?_
          refine va_get (D := D) (ci := 3) (v := .int (nI ((va_up N 0 ((N 0) + 0)) 0))) (C := RX3) (T := TX3) (N := 14) hx hb hts hi3 hown hK hP 0 rfl rfl 2 (by decide) (hts (.fieldLink RX3 80 "PledgedLoansModel" "saved" "I") (List.mem_of_getElem? (i := 1) rfl)) (fun _ h9 => h9) rfl dX3_save_57 ?_
          refine z_top (y := nI ((N 0) + 0)) rfl ?_
          refine z_M (X := ([] : va_W)) (Z := ([] : va_W)) (va_runV (As := [.int 0, .int (nI ((N 0) + 0))]) (rest := []) ⟨hx, hb, hml, hown, hts⟩ (zc_X3_copies l D cA a M1 (va_up N 0 ((N 0) + 0)) h 0 ((N 0) + 0) (by omega) (by omega)) (cwV 2 hts gX3_save_X3_copies rfl rfl rfl zy_X3_copies ⟨Nat.le_of_ble_eq_true rfl, Nat.le_of_ble_eq_true rfl⟩) (z_preV (ci := 3) hK hP hD rfl rfl) rfl rfl hl.1 rfl (lv_room (Nat.le_of_ble_eq_true rfl)) dX3_save_60 ⟨Nat.zero_le _, Nat.zero_le _⟩) hP hD hS rfl rfl (fun H locs hP hD hS => ?_)
          have hP : va_P D vwCl (moW cA a (f_X3_copies M1 0 ((N 0) + 0)) (va_up N 0 ((N 0) + 0)) h) H := hP
          have hD : va_D _ (moW cA a (f_X3_copies M1 0 ((N 0) + 0)) (va_up N 0 ((N 0) + 0)) h) := hD
          obtain ⟨M_4, eM_4⟩ : ∃ z9 : BK, z9 = f_X3_copies M1 0 ((N 0) + 0) := ⟨_, rfl⟩
          rw [← eM_4] at hP hD
          exact z_vretM (w1 := moW cA a M_4 (va_up N 0 ((N 0) + 0)) h) hx hb hr hlocks dX3_save_63 hP hS (by subst eM_4; rw [hres_2]; simp only [f_X3_save_2, if_pos c_1, if_pos c_2])
        · have c_2 : ¬ 6 ≤ (N 0) := fun h9 => c_2 ((nI_leI (a := 6) (b := (N 0)) (by omega) (by omega)).mpr h9)
          refine lv_iconst (v := 1) hx hb dX3_save_45 (by decide) ?_
          refine lv_goto (tgt := 50) hx hb dX3_save_46 (by decide) ?_
          refine lv_iadd hx hb dX3_save_50 ?_
          refine z_top (nI_add (N 0) 1) ?_
          refine va_put (D := D) (ci := 3) (v := .int (nI ((N 0) + 1))) (ty := .int) (C := RX3) (T := TX3) (N := 14) hx hb hts hi3 tyX3 tyX3_ok nmX3 hown hK hP hD hS 0 rfl rfl 2 (by decide) (hts (.fieldLink RX3 80 "PledgedLoansModel" "saved" "I") (List.mem_of_getElem? (i := 1) rfl)) (fun _ h9 => h9) rfl (by decide +kernel) rfl rfl (Nat.le_of_ble_eq_true rfl) dX3_save_51 (fun H locs hP hD hS => ?_)
          have hP : va_P D vwCl (moW cA a M1 (va_up N 0 ((N 0) + 1)) h) H := hP
          have hD : va_D _ (moW cA a M1 (va_up N 0 ((N 0) + 1)) h) := hD
          refine lv_aload_n hx hb dX3_save_54 rfl (lv_at hl 0 rfl) ?_
          refine lv_iconst (v := 0) hx hb dX3_save_55 (by decide) ?_
          refine lv_aload_n hx hb dX3_save_56 rfl (lv_at hl 0 rfl) ?_
          refine va_get (D := D) (ci := 3) (v := .int (nI ((va_up N 0 ((N 0) + 1)) 0))) (C := RX3) (T := TX3) (N := 14) hx hb hts hi3 hown hK hP 0 rfl rfl 2 (by decide) (hts (.fieldLink RX3 80 "PledgedLoansModel" "saved" "I") (List.mem_of_getElem? (i := 1) rfl)) (fun _ h9 => h9) rfl dX3_save_57 ?_
          refine z_top (y := nI ((N 0) + 1)) rfl ?_
          refine z_M (X := ([] : va_W)) (Z := ([] : va_W)) (va_runV (As := [.int 0, .int (nI ((N 0) + 1))]) (rest := []) ⟨hx, hb, hml, hown, hts⟩ (zc_X3_copies l D cA a M1 (va_up N 0 ((N 0) + 1)) h 0 ((N 0) + 1) (by omega) (by omega)) (cwV 2 hts gX3_save_X3_copies rfl rfl rfl zy_X3_copies ⟨Nat.le_of_ble_eq_true rfl, Nat.le_of_ble_eq_true rfl⟩) (z_preV (ci := 3) hK hP hD rfl rfl) rfl rfl hl.1 rfl (lv_room (Nat.le_of_ble_eq_true rfl)) dX3_save_60 ⟨Nat.zero_le _, Nat.zero_le _⟩) hP hD hS rfl rfl (fun H locs hP hD hS => ?_)
          have hP : va_P D vwCl (moW cA a (f_X3_copies M1 0 ((N 0) + 1)) (va_up N 0 ((N 0) + 1)) h) H := hP
          have hD : va_D _ (moW cA a (f_X3_copies M1 0 ((N 0) + 1)) (va_up N 0 ((N 0) + 1)) h) := hD
          obtain ⟨M_7, eM_7⟩ : ∃ z9 : BK, z9 = f_X3_copies M1 0 ((N 0) + 1) := ⟨_, rfl⟩
          rw [← eM_7] at hP hD
          exact z_vretM (w1 := moW cA a M_7 (va_up N 0 ((N 0) + 1)) h) hx hb hr hlocks dX3_save_63 hP hS (by subst eM_7; rw [hres_2]; simp only [f_X3_save_2, if_pos c_1, if_neg c_2])
      · have c_1 : ¬ 6 ≤ q := fun h9 => c_1 ((nI_leI (a := 6) (b := q) (by omega) (by omega)).mpr h9)
        refine lv_aload_n hx hb dX3_save_8 rfl (lv_at hl 0 rfl) ?_
        refine va_get (D := D) (ci := 3) (v := .int (nI (N 0))) (C := RX3) (T := TX3) (N := 14) hx hb hts hi3 hown hK hP 0 rfl rfl 2 (by decide) (hts (.fieldLink RX3 80 "PledgedLoansModel" "saved" "I") (List.mem_of_getElem? (i := 1) rfl)) (fun _ h9 => h9) rfl dX3_save_9 ?_
        refine lv_bipush (v := 6) hx hb dX3_save_12 (by decide) ?_
        refine lv_icmp_ne (tgt := 31) hx hb dX3_save_14 (by decide) (fun c_9 => ?_) (fun c_9 => ?_)
        · have c_9 : ¬ (N 0) = 6 := fun h9 => c_9 ((nI_eq (a := (N 0)) (b := 6) (by omega) (by omega)).mpr h9)
          refine lv_aload_n hx hb dX3_save_31 rfl (lv_at hl 0 rfl) ?_
          refine lv_dup hx hb dX3_save_32 rfl ?_
          refine va_get (D := D) (ci := 3) (v := .int (nI (N 0))) (C := RX3) (T := TX3) (N := 14) hx hb hts hi3 hown hK hP 0 rfl rfl 2 (by decide) (hts (.fieldLink RX3 80 "PledgedLoansModel" "saved" "I") (List.mem_of_getElem? (i := 1) rfl)) (fun _ h9 => h9) rfl dX3_save_33 ?_
          refine lv_aload_n hx hb dX3_save_36 rfl (lv_at hl 0 rfl) ?_
          refine va_get (D := D) (ci := 3) (v := .int (nI (N 0))) (C := RX3) (T := TX3) (N := 14) hx hb hts hi3 hown hK hP 0 rfl rfl 2 (by decide) (hts (.fieldLink RX3 80 "PledgedLoansModel" "saved" "I") (List.mem_of_getElem? (i := 1) rfl)) (fun _ h9 => h9) rfl dX3_save_37 ?_
          refine lv_bipush (v := 6) hx hb dX3_save_40 (by decide) ?_
          refine lv_icmp_ge (tgt := 49) hx hb dX3_save_42 (by decide) (fun c_10 => ?_) (fun c_10 => ?_)
          · have c_10 : 6 ≤ (N 0) := (nI_leI (a := 6) (b := (N 0)) (by omega) (by omega)).mp c_10
            refine lv_iconst (v := 0) hx hb dX3_save_49 (by decide) ?_
            refine lv_iadd hx hb dX3_save_50 ?_
            refine z_top (nI_add (N 0) 0) ?_
            refine va_put (D := D) (ci := 3) (v := .int (nI ((N 0) + 0))) (ty := .int) (C := RX3) (T := TX3) (N := 14) hx hb hts hi3 tyX3 tyX3_ok nmX3 hown hK hP hD hS 0 rfl rfl 2 (by decide) (hts (.fieldLink RX3 80 "PledgedLoansModel" "saved" "I") (List.mem_of_getElem? (i := 1) rfl)) (fun _ h9 => h9) rfl (by decide +kernel) rfl rfl (Nat.le_of_ble_eq_true rfl) dX3_save_51 (fun H locs hP hD hS => ?_)
            have hP : va_P D vwCl (moW cA a M1 (va_up N 0 ((N 0) + 0)) h) H := hP
            have hD : va_D _ (moW cA a M1 (va_up N 0 ((N 0) + 0)) h) := hD
            refine lv_aload_n hx hb dX3_save_54 rfl (lv_at hl 0 rfl) ?_
            refine lv_iconst (v := 0) hx hb dX3_save_55 (by decide) ?_
            refine lv_aload_n hx hb dX3_save_56 rfl (lv_at hl 0 rfl) ?_
            refine va_get (D := D) (ci := 3) (v := .int (nI ((va_up N 0 ((N 0) + 0)) 0))) (C := RX3) (T := TX3) (N := 14) hx hb hts hi3 hown hK hP 0 rfl rfl 2 (by decide) (hts (.fieldLink RX3 80 "PledgedLoansModel" "saved" "I") (List.mem_of_getElem? (i := 1) rfl)) (fun _ h9 => h9) rfl dX3_save_57 ?_
            refine z_top (y := nI ((N 0) + 0)) rfl ?_
            refine z_M (X := ([] : va_W)) (Z := ([] : va_W)) (va_runV (As := [.int 0, .int (nI ((N 0) + 0))]) (rest := []) ⟨hx, hb, hml, hown, hts⟩ (zc_X3_copies l D cA a M1 (va_up N 0 ((N 0) + 0)) h 0 ((N 0) + 0) (by omega) (by omega)) (cwV 2 hts gX3_save_X3_copies rfl rfl rfl zy_X3_copies ⟨Nat.le_of_ble_eq_true rfl, Nat.le_of_ble_eq_true rfl⟩) (z_preV (ci := 3) hK hP hD rfl rfl) rfl rfl hl.1 rfl (lv_room (Nat.le_of_ble_eq_true rfl)) dX3_save_60 ⟨Nat.zero_le _, Nat.zero_le _⟩) hP hD hS rfl rfl (fun H locs hP hD hS => ?_)
            have hP : va_P D vwCl (moW cA a (f_X3_copies M1 0 ((N 0) + 0)) (va_up N 0 ((N 0) + 0)) h) H := hP
            have hD : va_D _ (moW cA a (f_X3_copies M1 0 ((N 0) + 0)) (va_up N 0 ((N 0) + 0)) h) := hD
            obtain ⟨M_12, eM_12⟩ : ∃ z9 : BK, z9 = f_X3_copies M1 0 ((N 0) + 0) := ⟨_, rfl⟩
            rw [← eM_12] at hP hD
            exact z_vretM (w1 := moW cA a M_12 (va_up N 0 ((N 0) + 0)) h) hx hb hr hlocks dX3_save_63 hP hS (by subst eM_12; rw [hres_2]; simp only [f_X3_save_2, if_neg c_1, if_neg c_9, if_pos c_10])
          · have c_10 : ¬ 6 ≤ (N 0) := fun h9 => c_10 ((nI_leI (a := 6) (b := (N 0)) (by omega) (by omega)).mpr h9)
            refine lv_iconst (v := 1) hx hb dX3_save_45 (by decide) ?_
            refine lv_goto (tgt := 50) hx hb dX3_save_46 (by decide) ?_
            refine lv_iadd hx hb dX3_save_50 ?_
            refine z_top (nI_add (N 0) 1) ?_
            refine va_put (D := D) (ci := 3) (v := .int (nI ((N 0) + 1))) (ty := .int) (C := RX3) (T := TX3) (N := 14) hx hb hts hi3 tyX3 tyX3_ok nmX3 hown hK hP hD hS 0 rfl rfl 2 (by decide) (hts (.fieldLink RX3 80 "PledgedLoansModel" "saved" "I") (List.mem_of_getElem? (i := 1) rfl)) (fun _ h9 => h9) rfl (by decide +kernel) rfl rfl (Nat.le_of_ble_eq_true rfl) dX3_save_51 (fun H locs hP hD hS => ?_)
            have hP : va_P D vwCl (moW cA a M1 (va_up N 0 ((N 0) + 1)) h) H := hP
            have hD : va_D _ (moW cA a M1 (va_up N 0 ((N 0) + 1)) h) := hD
            refine lv_aload_n hx hb dX3_save_54 rfl (lv_at hl 0 rfl) ?_
            refine lv_iconst (v := 0) hx hb dX3_save_55 (by decide) ?_
            refine lv_aload_n hx hb dX3_save_56 rfl (lv_at hl 0 rfl) ?_
            refine va_get (D := D) (ci := 3) (v := .int (nI ((va_up N 0 ((N 0) + 1)) 0))) (C := RX3) (T := TX3) (N := 14) hx hb hts hi3 hown hK hP 0 rfl rfl 2 (by decide) (hts (.fieldLink RX3 80 "PledgedLoansModel" "saved" "I") (List.mem_of_getElem? (i := 1) rfl)) (fun _ h9 => h9) rfl dX3_save_57 ?_
            refine z_top (y := nI ((N 0) + 1)) rfl ?_
            refine z_M (X := ([] : va_W)) (Z := ([] : va_W)) (va_runV (As := [.int 0, .int (nI ((N 0) + 1))]) (rest := []) ⟨hx, hb, hml, hown, hts⟩ (zc_X3_copies l D cA a M1 (va_up N 0 ((N 0) + 1)) h 0 ((N 0) + 1) (by omega) (by omega)) (cwV 2 hts gX3_save_X3_copies rfl rfl rfl zy_X3_copies ⟨Nat.le_of_ble_eq_true rfl, Nat.le_of_ble_eq_true rfl⟩) (z_preV (ci := 3) hK hP hD rfl rfl) rfl rfl hl.1 rfl (lv_room (Nat.le_of_ble_eq_true rfl)) dX3_save_60 ⟨Nat.zero_le _, Nat.zero_le _⟩) hP hD hS rfl rfl (fun H locs hP hD hS => ?_)
            have hP : va_P D vwCl (moW cA a (f_X3_copies M1 0 ((N 0) + 1)) (va_up N 0 ((N 0) + 1)) h) H := hP
            have hD : va_D _ (moW cA a (f_X3_copies M1 0 ((N 0) + 1)) (va_up N 0 ((N 0) + 1)) h) := hD
            obtain ⟨M_15, eM_15⟩ : ∃ z9 : BK, z9 = f_X3_copies M1 0 ((N 0) + 1) := ⟨_, rfl⟩
            rw [← eM_15] at hP hD
            exact z_vretM (w1 := moW cA a M_15 (va_up N 0 ((N 0) + 1)) h) hx hb hr hlocks dX3_save_63 hP hS (by subst eM_15; rw [hres_2]; simp only [f_X3_save_2, if_neg c_1, if_neg c_9, if_neg c_10])
        · have c_9 : (N 0) = 6 := (nI_eq (a := (N 0)) (b := 6) (by omega) (by omega)).mp c_9
          refine lv_aload_n hx hb dX3_save_17 rfl (lv_at hl 0 rfl) ?_
          refine lv_iload_n hx hb dX3_save_18 rfl (lv_at hl 1 rfl) ?_
          refine lv_iconst (v := 1) hx hb dX3_save_19 (by decide) ?_
          refine lv_iadd hx hb dX3_save_20 ?_
          refine z_top (nI_add q 1) ?_
          refine lv_iload_n hx hb dX3_save_21 rfl (lv_at hl 1 rfl) ?_
          refine z_M (X := ([] : va_W)) (Z := ([] : va_W)) (va_runV (As := [.int (nI (q + 1)), .int (nI q)]) (rest := []) ⟨hx, hb, hml, hown, hts⟩ (zc_X3_copies l D cA a M1 N h (q + 1) q (by omega) (by omega)) (cwV 2 hts gX3_save_X3_copies rfl rfl rfl zy_X3_copies ⟨Nat.le_of_ble_eq_true rfl, Nat.le_of_ble_eq_true rfl⟩) (z_preV (ci := 3) hK hP hD rfl rfl) rfl rfl hl.1 rfl (lv_room (Nat.le_of_ble_eq_true rfl)) dX3_save_22 ⟨Nat.zero_le _, Nat.zero_le _⟩) hP hD hS rfl rfl (fun H locs hP hD hS => ?_)
          have hP : va_P D vwCl (moW cA a (f_X3_copies M1 (q + 1) q) N h) H := hP
          have hD : va_D _ (moW cA a (f_X3_copies M1 (q + 1) q) N h) := hD
          obtain ⟨M_17, eM_17⟩ : ∃ z9 : BK, z9 = f_X3_copies M1 (q + 1) q := ⟨_, rfl⟩
          rw [← eM_17] at hP hD
          refine lv_iinc (v := nI (q + 1)) (lv' := [(1, .int (nI (q + 1))), (0, .ref (a 0))]) hx hb dX3_save_25 hl (k := 1) rfl (by rw [show (Int32.ofInt 1) = nI 1 from by decide]; exact nI_add q 1) (by decide) rfl (fun ls hl => ?_)
          refine lv_goto (tgt := 2) hx hb dX3_save_28 (by decide) ?_
          exact ih_2 (q + 1) M_17 (by omega) (by omega) (by subst eM_17; rw [hres_2]; simp only [f_X3_save_2, if_neg c_1, if_pos c_9]) _ _ hP hD hS ls (lv_sub hl [1, 0] rfl)
  exact loop_2 8 1 M (by omega) (by omega) (by first | (simp only [f_X3_save]; done) | rfl) _ _ hP hD hS ls (lv_sub hl [1, 0] rfl)

theorem zy_X3_loans : yX3_loans.cls = RX3 ∧ yX3_loans.cls ≠ "java/lang/invoke/MethodHandle" ∧ yX3_loans.cls ≠ "java/lang/invoke/VarHandle" ∧ (parseMethodDescriptor yX3_loans.desc).map (fun d => d.parameters.length) = some 0 := by decide +kernel
def f_X3_loans_4 (M : BK) (i0 : Int32) : Nat → Int32
  | 0 => i0
  | n + 1 =>
    let y0_4 : Int32 := f_X3_loans_4 M i0 n
    if (f_X3_of M n 2) ≤ 0 then
      y0_4 + 0
    else
      y0_4 + 1
def f_X3_loans (M : BK) : Int32 :=
  let y0_4 : Int32 := f_X3_loans_4 M 0 6
  y0_4

set_option maxHeartbeats 4000000 in
set_option maxRecDepth 100000 in
theorem zc_X3_loans (l : Launch) (D : va_G) (cA : Nat → ClassId) (a : Nat → Nat) (M : BK) (N : Nat → Nat) (h : Int64)  : Met l yX3_loans wsX3_loans (zrm 1 22) (zPc D cA [.ref (a 0)] (moW cA a M N h)) (zE (some (.int (f_X3_loans M)))) 0 0 (fun _ => False) := by
  refine Met.ofW (cc := cX3_loans) (maxL := 3) (ret := (some .int)) (by decide) rfl ?_
  intro p e s m args below meth c s₁ Bd hml hv
  obtain ⟨rfl, hP, hK, hD0⟩ := hv
  have hx := Bd.exec
  have hb := Bd.bytes
  have hr := Bd.returns
  have hts := atoms_spec (ws := wsX3_loans) Bd.pre
  have hown : s.vm.findClass RX3 = some m.cls := findClass_of_methodNamed Bd.named
  have hlocks := Bd.notSynchronized
  have hD := z_Dfr hD0
  have hS : va_S (zfr (moW cA a M N h)) s.heap s.heap [] := va_S.rf
  have hi3 : ∀ w ∈ wsX30, w ∈ wsX3_loans := fun w h => List.mem_cons_of_mem _ (List.mem_append_right _ h)
  have hl := lv_entry ([.ref (a 0)]) (n := 3) (Nat.le_of_ble_eq_true rfl)
  rw [lg_entry_eq]
  generalize (lg_sl ([.ref (a 0)]) ++ List.replicate (3 - (lg_sl ([.ref (a 0)])).length) Slot.unset).toArray = ls at hl ⊢
  have hl : lv_has ls 3 [(0, .ref (a 0))] := hl
  refine lv_iconst (v := 0) hx hb dX3_loans_0 (by decide) ?_
  refine lv_istore_n (lv' := [(1, .int 0), (0, .ref (a 0))]) hx hb dX3_loans_1 rfl hl (by decide) rfl (fun ls hl => ?_)
  refine lv_iconst (v := 0) hx hb dX3_loans_2 (by decide) ?_
  refine lv_istore_n (lv' := [(2, .int 0), (1, .int 0), (0, .ref (a 0))]) hx hb dX3_loans_3 rfl hl (by decide) rfl (fun ls hl => ?_)
  have loop_4 : ∀ (kk : Nat) (n : Nat) (y0_4 : Int32), n ≤ 6 → 6 - n < kk → y0_4 = f_X3_loans_4 M 0 n → ∀ (ls : Array Slot), lv_has ls 3 [(0, .ref (a 0)), (1, .int y0_4), (2, .int (nI n))] → W p l e (headSpec wsX3_loans (zrm 1 22)).room s m ([.ref (a 0)] : List Value).toArray below meth c s.heap [] 0 0 (MQ below (zE (some (.int (f_X3_loans M)))) ([.ref (a 0)] : List Value).toArray s 0 0 (fun _ => False)) (F0 m 4 ls []) := by
    intro kk
    induction kk with
    | zero => intro n y0_4 _ h9; exact absurd h9 (Nat.not_lt_zero _)
    | succ kk ih_4 =>
      intro n y0_4 hn_4 hm_4 q_y0_4 ls hl
      refine lv_iload_n hx hb dX3_loans_4 rfl (lv_at hl 2 rfl) ?_
      refine lv_bipush (v := 6) hx hb dX3_loans_5 (by decide) ?_
      refine lv_icmp_ge (tgt := 33) hx hb dX3_loans_7 (by decide) (fun c_1 => ?_) (fun c_1 => ?_)
      · have c_1 : 6 ≤ n := (nI_leI (a := 6) (b := n) (by omega) (by omega)).mp c_1
        obtain rfl : n = 6 := by omega
        refine lv_iload_n hx hb dX3_loans_33 rfl (lv_at hl 1 rfl) ?_
        exact z_iretE hx hb hr hlocks dX3_loans_34 (by subst q_y0_4; first | (simp only [f_X3_loans]; done) | rfl)
      · have c_1 : ¬ 6 ≤ n := fun h9 => c_1 ((nI_leI (a := 6) (b := n) (by omega) (by omega)).mpr h9)
        refine lv_iload_n hx hb dX3_loans_10 rfl (lv_at hl 1 rfl) ?_
        refine lv_aload_n hx hb dX3_loans_11 rfl (lv_at hl 0 rfl) ?_
        refine lv_iload_n hx hb dX3_loans_12 rfl (lv_at hl 2 rfl) ?_
        refine lv_iconst (v := 2) hx hb dX3_loans_13 (by decide) ?_
        refine z_E (va_runV (As := [.int (nI n), .int 2]) (rest := [.int y0_4]) ⟨hx, hb, hml, hown, hts⟩ (zc_X3_of l D cA a M N h n 2 (by omega) (by omega)) (cwV 2 hts gX3_loans_X3_of rfl rfl rfl zy_X3_of ⟨Nat.le_of_ble_eq_true rfl, Nat.le_of_ble_eq_true rfl⟩) (z_preV (ci := 3) hK hP hD rfl rfl) rfl rfl hl.1 rfl (lv_room (Nat.le_of_ble_eq_true rfl)) dX3_loans_14 ⟨Nat.zero_le _, Nat.zero_le _⟩) rfl ?_
        refine lv_if_le (tgt := 24) hx hb dX3_loans_17 (by decide) (fun c_2 => ?_) (fun c_2 => ?_)
        · refine lv_iconst (v := 0) hx hb dX3_loans_24 (by decide) ?_
          refine lv_iadd hx hb dX3_loans_25 ?_
          refine lv_istore_n (lv' := [(1, .int (y0_4 + 0)), (0, .ref (a 0)), (2, .int (nI n))]) hx hb dX3_loans_26 rfl hl (by decide) rfl (fun ls hl => ?_)
          refine lv_iinc (v := nI (n + 1)) (lv' := [(2, .int (nI (n + 1))), (1, .int (y0_4 + 0)), (0, .ref (a 0))]) hx hb dX3_loans_27 hl (k := 2) rfl (by rw [show (Int32.ofInt 1) = nI 1 from by decide]; exact nI_add n 1) (by decide) rfl (fun ls hl => ?_)
          refine lv_goto (tgt := 4) hx hb dX3_loans_30 (by decide) ?_
          exact ih_4 (n + 1) _ (by omega) (by omega) (by subst q_y0_4; simp only [f_X3_loans_4, if_pos c_2]) ls (lv_sub hl [2, 1, 0] rfl)
        · refine lv_iconst (v := 1) hx hb dX3_loans_20 (by decide) ?_
          refine lv_goto (tgt := 25) hx hb dX3_loans_21 (by decide) ?_
          refine lv_iadd hx hb dX3_loans_25 ?_
          refine lv_istore_n (lv' := [(1, .int (y0_4 + 1)), (0, .ref (a 0)), (2, .int (nI n))]) hx hb dX3_loans_26 rfl hl (by decide) rfl (fun ls hl => ?_)
          refine lv_iinc (v := nI (n + 1)) (lv' := [(2, .int (nI (n + 1))), (1, .int (y0_4 + 1)), (0, .ref (a 0))]) hx hb dX3_loans_27 hl (k := 2) rfl (by rw [show (Int32.ofInt 1) = nI 1 from by decide]; exact nI_add n 1) (by decide) rfl (fun ls hl => ?_)
          refine lv_goto (tgt := 4) hx hb dX3_loans_30 (by decide) ?_
          exact ih_4 (n + 1) _ (by omega) (by omega) (by subst q_y0_4; simp only [f_X3_loans_4, if_neg c_2]) ls (lv_sub hl [2, 1, 0] rfl)
  exact loop_4 _ 0 _ (by omega) (Nat.lt_succ_self _) rfl ls (lv_sub hl [2, 1, 0] rfl)

theorem zy_X3_property : yX3_property.cls = RX3 ∧ yX3_property.cls ≠ "java/lang/invoke/MethodHandle" ∧ yX3_property.cls ≠ "java/lang/invoke/VarHandle" ∧ (parseMethodDescriptor yX3_property.desc).map (fun d => d.parameters.length) = some 2 := by decide +kernel
def f_X3_property (M : BK) (mb : Nat) (wt : Nat) : Int32 :=
  if wt = 0 then
    f_X3_of M mb 0
  else
  if wt = 1 then
    f_X3_pledgedBy M mb
  else
  if wt = 2 then
    f_X3_pledgedFor M mb
  else
  if wt = 3 then
    f_X3_cover M mb
  else
  if wt = 4 then
    f_X3_free M mb
  else
  if wt = 5 then
    f_X3_of M mb 1
  else
  if wt = 6 then
    f_X3_of M mb 2
  else
    if (f_X3_of M mb 2) = 0 then
      (-1)
    else
      f_X3_of M mb ((3 + wt) - 7)

set_option maxHeartbeats 4000000 in
set_option maxRecDepth 100000 in
theorem zc_X3_property (l : Launch) (D : va_G) (cA : Nat → ClassId) (a : Nat → Nat) (M : BK) (N : Nat → Nat) (h : Int64) (mb : Nat) (wt : Nat) (hmb : mb < 6) (hwt : wt < 10) : Met l yX3_property wsX3_property (zrm 4 88) (zPc D cA [.ref (a 0), .int (nI mb), .int (nI wt)] (moW cA a M N h)) (zE (some (.int (f_X3_property M mb wt)))) 0 0 (fun _ => False) := by
  refine Met.ofW (cc := cX3_property) (maxL := 3) (ret := (some .int)) (by decide) rfl ?_
  intro p e s m args below meth c s₁ Bd hml hv
  obtain ⟨rfl, hP, hK, hD0⟩ := hv
  have hx := Bd.exec
  have hb := Bd.bytes
  have hr := Bd.returns
  have hts := atoms_spec (ws := wsX3_property) Bd.pre
  have hown : s.vm.findClass RX3 = some m.cls := findClass_of_methodNamed Bd.named
  have hlocks := Bd.notSynchronized
  have hD := z_Dfr hD0
  have hS : va_S (zfr (moW cA a M N h)) s.heap s.heap [] := va_S.rf
  have hi3 : ∀ w ∈ wsX30, w ∈ wsX3_property := fun w h => List.mem_cons_of_mem _ (List.mem_append_right _ h)
  have hl := lv_entry ([.ref (a 0), .int (nI mb), .int (nI wt)]) (n := 3) (Nat.le_of_ble_eq_true rfl)
  rw [lg_entry_eq]
  generalize (lg_sl ([.ref (a 0), .int (nI mb), .int (nI wt)]) ++ List.replicate (3 - (lg_sl ([.ref (a 0), .int (nI mb), .int (nI wt)])).length) Slot.unset).toArray = ls at hl ⊢
  have hl : lv_has ls 3 [(0, .ref (a 0)), (1, .int (nI mb)), (2, .int (nI wt))] := hl
  refine lv_iload_n hx hb dX3_property_0 rfl (lv_at hl 2 rfl) ?_
  by_cases c_1 : wt = 0
  · refine lv_tableIn (off := 43) (tgt := 44) hx hb dX3_property_1 (by rw [c_1]; decide) (by rw [c_1]; decide) (by rw [c_1]; decide) (by decide) ?_
    refine lv_aload_n hx hb dX3_property_44 rfl (lv_at hl 0 rfl) ?_
    refine lv_iload_n hx hb dX3_property_45 rfl (lv_at hl 1 rfl) ?_
    refine lv_iconst (v := 0) hx hb dX3_property_46 (by decide) ?_
    refine z_E (va_runV (As := [.int (nI mb), .int 0]) (rest := []) ⟨hx, hb, hml, hown, hts⟩ (zc_X3_of l D cA a M N h mb 0 (by omega) (by omega)) (cwV 2 hts gX3_property_X3_of rfl rfl rfl zy_X3_of ⟨Nat.le_of_ble_eq_true rfl, Nat.le_of_ble_eq_true rfl⟩) (z_preV (ci := 3) hK hP hD rfl rfl) rfl rfl hl.1 rfl (lv_room (Nat.le_of_ble_eq_true rfl)) dX3_property_47 ⟨Nat.zero_le _, Nat.zero_le _⟩) rfl ?_
    exact z_iretE hx hb hr hlocks dX3_property_50 (by simp only [f_X3_property, if_pos c_1])
  by_cases c_2 : wt = 1
  · refine lv_tableIn (off := 50) (tgt := 51) hx hb dX3_property_1 (by rw [c_2]; decide) (by rw [c_2]; decide) (by rw [c_2]; decide) (by decide) ?_
    refine lv_aload_n hx hb dX3_property_51 rfl (lv_at hl 0 rfl) ?_
    refine lv_iload_n hx hb dX3_property_52 rfl (lv_at hl 1 rfl) ?_
    refine z_E (va_runV (As := [.int (nI mb)]) (rest := []) ⟨hx, hb, hml, hown, hts⟩ (zc_X3_pledgedBy l D cA a M N h mb (by omega)) (cwV 1 hts gX3_property_X3_pledgedBy rfl rfl rfl zy_X3_pledgedBy ⟨Nat.le_of_ble_eq_true rfl, Nat.le_of_ble_eq_true rfl⟩) (z_preV (ci := 3) hK hP hD rfl rfl) rfl rfl hl.1 rfl (lv_room (Nat.le_of_ble_eq_true rfl)) dX3_property_53 ⟨Nat.zero_le _, Nat.zero_le _⟩) rfl ?_
    exact z_iretE hx hb hr hlocks dX3_property_56 (by simp only [f_X3_property, if_neg c_1, if_pos c_2])
  by_cases c_3 : wt = 2
  · refine lv_tableIn (off := 56) (tgt := 57) hx hb dX3_property_1 (by rw [c_3]; decide) (by rw [c_3]; decide) (by rw [c_3]; decide) (by decide) ?_
    refine lv_aload_n hx hb dX3_property_57 rfl (lv_at hl 0 rfl) ?_
    refine lv_iload_n hx hb dX3_property_58 rfl (lv_at hl 1 rfl) ?_
    refine z_E (va_runV (As := [.int (nI mb)]) (rest := []) ⟨hx, hb, hml, hown, hts⟩ (zc_X3_pledgedFor l D cA a M N h mb (by omega)) (cwV 1 hts gX3_property_X3_pledgedFor rfl rfl rfl zy_X3_pledgedFor ⟨Nat.le_of_ble_eq_true rfl, Nat.le_of_ble_eq_true rfl⟩) (z_preV (ci := 3) hK hP hD rfl rfl) rfl rfl hl.1 rfl (lv_room (Nat.le_of_ble_eq_true rfl)) dX3_property_59 ⟨Nat.zero_le _, Nat.zero_le _⟩) rfl ?_
    exact z_iretE hx hb hr hlocks dX3_property_62 (by simp only [f_X3_property, if_neg c_1, if_neg c_2, if_pos c_3])
  by_cases c_4 : wt = 3
  · refine lv_tableIn (off := 62) (tgt := 63) hx hb dX3_property_1 (by rw [c_4]; decide) (by rw [c_4]; decide) (by rw [c_4]; decide) (by decide) ?_
    refine lv_aload_n hx hb dX3_property_63 rfl (lv_at hl 0 rfl) ?_
    refine lv_iload_n hx hb dX3_property_64 rfl (lv_at hl 1 rfl) ?_
    refine z_E (va_runV (As := [.int (nI mb)]) (rest := []) ⟨hx, hb, hml, hown, hts⟩ (zc_X3_cover l D cA a M N h mb (by omega)) (cwV 1 hts gX3_property_X3_cover rfl rfl rfl zy_X3_cover ⟨Nat.le_of_ble_eq_true rfl, Nat.le_of_ble_eq_true rfl⟩) (z_preV (ci := 3) hK hP hD rfl rfl) rfl rfl hl.1 rfl (lv_room (Nat.le_of_ble_eq_true rfl)) dX3_property_65 ⟨Nat.zero_le _, Nat.zero_le _⟩) rfl ?_
    exact z_iretE hx hb hr hlocks dX3_property_68 (by simp only [f_X3_property, if_neg c_1, if_neg c_2, if_neg c_3, if_pos c_4])
  by_cases c_5 : wt = 4
  · refine lv_tableIn (off := 68) (tgt := 69) hx hb dX3_property_1 (by rw [c_5]; decide) (by rw [c_5]; decide) (by rw [c_5]; decide) (by decide) ?_
    refine lv_aload_n hx hb dX3_property_69 rfl (lv_at hl 0 rfl) ?_
    refine lv_iload_n hx hb dX3_property_70 rfl (lv_at hl 1 rfl) ?_
    refine z_E (va_runV (As := [.int (nI mb)]) (rest := []) ⟨hx, hb, hml, hown, hts⟩ (zc_X3_free l D cA a M N h mb (by omega)) (cwV 1 hts gX3_property_X3_free rfl rfl rfl zy_X3_free ⟨Nat.le_of_ble_eq_true rfl, Nat.le_of_ble_eq_true rfl⟩) (z_preV (ci := 3) hK hP hD rfl rfl) rfl rfl hl.1 rfl (lv_room (Nat.le_of_ble_eq_true rfl)) dX3_property_71 ⟨Nat.zero_le _, Nat.zero_le _⟩) rfl ?_
    exact z_iretE hx hb hr hlocks dX3_property_74 (by simp only [f_X3_property, if_neg c_1, if_neg c_2, if_neg c_3, if_neg c_4, if_pos c_5])
  by_cases c_6 : wt = 5
  · refine lv_tableIn (off := 74) (tgt := 75) hx hb dX3_property_1 (by rw [c_6]; decide) (by rw [c_6]; decide) (by rw [c_6]; decide) (by decide) ?_
    refine lv_aload_n hx hb dX3_property_75 rfl (lv_at hl 0 rfl) ?_
    refine lv_iload_n hx hb dX3_property_76 rfl (lv_at hl 1 rfl) ?_
    refine lv_iconst (v := 1) hx hb dX3_property_77 (by decide) ?_
    refine z_E (va_runV (As := [.int (nI mb), .int 1]) (rest := []) ⟨hx, hb, hml, hown, hts⟩ (zc_X3_of l D cA a M N h mb 1 (by omega) (by omega)) (cwV 2 hts gX3_property_X3_of rfl rfl rfl zy_X3_of ⟨Nat.le_of_ble_eq_true rfl, Nat.le_of_ble_eq_true rfl⟩) (z_preV (ci := 3) hK hP hD rfl rfl) rfl rfl hl.1 rfl (lv_room (Nat.le_of_ble_eq_true rfl)) dX3_property_78 ⟨Nat.zero_le _, Nat.zero_le _⟩) rfl ?_
    exact z_iretE hx hb hr hlocks dX3_property_81 (by simp only [f_X3_property, if_neg c_1, if_neg c_2, if_neg c_3, if_neg c_4, if_neg c_5, if_pos c_6])
  by_cases c_7 : wt = 6
  · refine lv_tableIn (off := 81) (tgt := 82) hx hb dX3_property_1 (by rw [c_7]; decide) (by rw [c_7]; decide) (by rw [c_7]; decide) (by decide) ?_
    refine lv_aload_n hx hb dX3_property_82 rfl (lv_at hl 0 rfl) ?_
    refine lv_iload_n hx hb dX3_property_83 rfl (lv_at hl 1 rfl) ?_
    refine lv_iconst (v := 2) hx hb dX3_property_84 (by decide) ?_
    refine z_E (va_runV (As := [.int (nI mb), .int 2]) (rest := []) ⟨hx, hb, hml, hown, hts⟩ (zc_X3_of l D cA a M N h mb 2 (by omega) (by omega)) (cwV 2 hts gX3_property_X3_of rfl rfl rfl zy_X3_of ⟨Nat.le_of_ble_eq_true rfl, Nat.le_of_ble_eq_true rfl⟩) (z_preV (ci := 3) hK hP hD rfl rfl) rfl rfl hl.1 rfl (lv_room (Nat.le_of_ble_eq_true rfl)) dX3_property_85 ⟨Nat.zero_le _, Nat.zero_le _⟩) rfl ?_
    exact z_iretE hx hb hr hlocks dX3_property_88 (by simp only [f_X3_property, if_neg c_1, if_neg c_2, if_neg c_3, if_neg c_4, if_neg c_5, if_neg c_6, if_pos c_7])
  refine lv_tableOut (tgt := 89) hx hb dX3_property_1 (by rw [nI_toInt (by omega)]; omega) (by decide) ?_
  refine lv_aload_n hx hb dX3_property_89 rfl (lv_at hl 0 rfl) ?_
  refine lv_iload_n hx hb dX3_property_90 rfl (lv_at hl 1 rfl) ?_
  refine lv_iconst (v := 2) hx hb dX3_property_91 (by decide) ?_
  refine z_E (va_runV (As := [.int (nI mb), .int 2]) (rest := []) ⟨hx, hb, hml, hown, hts⟩ (zc_X3_of l D cA a M N h mb 2 (by omega) (by omega)) (cwV 2 hts gX3_property_X3_of rfl rfl rfl zy_X3_of ⟨Nat.le_of_ble_eq_true rfl, Nat.le_of_ble_eq_true rfl⟩) (z_preV (ci := 3) hK hP hD rfl rfl) rfl rfl hl.1 rfl (lv_room (Nat.le_of_ble_eq_true rfl)) dX3_property_92 ⟨Nat.zero_le _, Nat.zero_le _⟩) rfl ?_
  refine lv_if_ne (tgt := 102) hx hb dX3_property_95 (by decide) (fun c_8 => ?_) (fun c_8 => ?_)
  · refine lv_aload_n hx hb dX3_property_102 rfl (lv_at hl 0 rfl) ?_
    refine lv_iload_n hx hb dX3_property_103 rfl (lv_at hl 1 rfl) ?_
    refine lv_iconst (v := 3) hx hb dX3_property_104 (by decide) ?_
    refine lv_iload_n hx hb dX3_property_105 rfl (lv_at hl 2 rfl) ?_
    refine lv_iadd hx hb dX3_property_106 ?_
    refine z_top (nI_add 3 wt) ?_
    refine lv_bipush (v := 7) hx hb dX3_property_107 (by decide) ?_
    refine lv_isub hx hb dX3_property_109 ?_
    refine z_top (pk_sub (a := (3 + wt)) (b := 7) (by omega)) ?_
    refine z_E (va_runV (As := [.int (nI mb), .int (nI ((3 + wt) - 7))]) (rest := []) ⟨hx, hb, hml, hown, hts⟩ (zc_X3_of l D cA a M N h mb ((3 + wt) - 7) (by omega) (by omega)) (cwV 2 hts gX3_property_X3_of rfl rfl rfl zy_X3_of ⟨Nat.le_of_ble_eq_true rfl, Nat.le_of_ble_eq_true rfl⟩) (z_preV (ci := 3) hK hP hD rfl rfl) rfl rfl hl.1 rfl (lv_room (Nat.le_of_ble_eq_true rfl)) dX3_property_110 ⟨Nat.zero_le _, Nat.zero_le _⟩) rfl ?_
    exact z_iretE hx hb hr hlocks dX3_property_113 (by simp only [f_X3_property, if_neg c_1, if_neg c_2, if_neg c_3, if_neg c_4, if_neg c_5, if_neg c_6, if_neg c_7, if_neg c_8])
  · refine lv_iconst (v := (-1)) hx hb dX3_property_98 (by decide) ?_
    refine lv_goto (tgt := 113) hx hb dX3_property_99 (by decide) ?_
    exact z_iretE hx hb hr hlocks dX3_property_113 (by simp only [f_X3_property, if_neg c_1, if_neg c_2, if_neg c_3, if_neg c_4, if_neg c_5, if_neg c_6, if_neg c_7, if_pos c_8])

theorem zy_X3_total : yX3_total.cls = RX3 ∧ yX3_total.cls ≠ "java/lang/invoke/MethodHandle" ∧ yX3_total.cls ≠ "java/lang/invoke/VarHandle" ∧ (parseMethodDescriptor yX3_total.desc).map (fun d => d.parameters.length) = some 1 := by decide +kernel
def f_X3_total_4 (M : BK) (wt : Nat) (i0 : Int32) : Nat → Int32
  | 0 => i0
  | n + 1 =>
    let y0_4 : Int32 := f_X3_total_4 M wt i0 n
    y0_4 + (f_X3_of M n wt)
def f_X3_total (M : BK) (wt : Nat) : Int32 :=
  let y0_4 : Int32 := f_X3_total_4 M wt 0 6
  y0_4

set_option maxHeartbeats 4000000 in
set_option maxRecDepth 100000 in
theorem zc_X3_total (l : Launch) (D : va_G) (cA : Nat → ClassId) (a : Nat → Nat) (M : BK) (N : Nat → Nat) (h : Int64) (wt : Nat) (hwt : wt < 6) : Met l yX3_total wsX3_total (zrm 1 22) (zPc D cA [.ref (a 0), .int (nI wt)] (moW cA a M N h)) (zE (some (.int (f_X3_total M wt)))) 0 0 (fun _ => False) := by
  refine Met.ofW (cc := cX3_total) (maxL := 4) (ret := (some .int)) (by decide) rfl ?_
  intro p e s m args below meth c s₁ Bd hml hv
  obtain ⟨rfl, hP, hK, hD0⟩ := hv
  have hx := Bd.exec
  have hb := Bd.bytes
  have hr := Bd.returns
  have hts := atoms_spec (ws := wsX3_total) Bd.pre
  have hown : s.vm.findClass RX3 = some m.cls := findClass_of_methodNamed Bd.named
  have hlocks := Bd.notSynchronized
  have hD := z_Dfr hD0
  have hS : va_S (zfr (moW cA a M N h)) s.heap s.heap [] := va_S.rf
  have hi3 : ∀ w ∈ wsX30, w ∈ wsX3_total := fun w h => List.mem_cons_of_mem _ (List.mem_append_right _ h)
  have hl := lv_entry ([.ref (a 0), .int (nI wt)]) (n := 4) (Nat.le_of_ble_eq_true rfl)
  rw [lg_entry_eq]
  generalize (lg_sl ([.ref (a 0), .int (nI wt)]) ++ List.replicate (4 - (lg_sl ([.ref (a 0), .int (nI wt)])).length) Slot.unset).toArray = ls at hl ⊢
  have hl : lv_has ls 4 [(0, .ref (a 0)), (1, .int (nI wt))] := hl
  refine lv_iconst (v := 0) hx hb dX3_total_0 (by decide) ?_
  refine lv_istore_n (lv' := [(2, .int 0), (0, .ref (a 0)), (1, .int (nI wt))]) hx hb dX3_total_1 rfl hl (by decide) rfl (fun ls hl => ?_)
  refine lv_iconst (v := 0) hx hb dX3_total_2 (by decide) ?_
  refine lv_istore_n (lv' := [(3, .int 0), (2, .int 0), (0, .ref (a 0)), (1, .int (nI wt))]) hx hb dX3_total_3 rfl hl (by decide) rfl (fun ls hl => ?_)
  have loop_4 : ∀ (kk : Nat) (n : Nat) (y0_4 : Int32), n ≤ 6 → 6 - n < kk → y0_4 = f_X3_total_4 M wt 0 n → ∀ (ls : Array Slot), lv_has ls 4 [(0, .ref (a 0)), (1, .int (nI wt)), (2, .int y0_4), (3, .int (nI n))] → W p l e (headSpec wsX3_total (zrm 1 22)).room s m ([.ref (a 0), .int (nI wt)] : List Value).toArray below meth c s.heap [] 0 0 (MQ below (zE (some (.int (f_X3_total M wt)))) ([.ref (a 0), .int (nI wt)] : List Value).toArray s 0 0 (fun _ => False)) (F0 m 4 ls []) := by
    intro kk
    induction kk with
    | zero => intro n y0_4 _ h9; exact absurd h9 (Nat.not_lt_zero _)
    | succ kk ih_4 =>
      intro n y0_4 hn_4 hm_4 q_y0_4 ls hl
      refine lv_iload_n hx hb dX3_total_4 rfl (lv_at hl 3 rfl) ?_
      refine lv_bipush (v := 6) hx hb dX3_total_5 (by decide) ?_
      refine lv_icmp_ge (tgt := 25) hx hb dX3_total_7 (by decide) (fun c_1 => ?_) (fun c_1 => ?_)
      · have c_1 : 6 ≤ n := (nI_leI (a := 6) (b := n) (by omega) (by omega)).mp c_1
        obtain rfl : n = 6 := by omega
        refine lv_iload_n hx hb dX3_total_25 rfl (lv_at hl 2 rfl) ?_
        exact z_iretE hx hb hr hlocks dX3_total_26 (by subst q_y0_4; first | (simp only [f_X3_total]; done) | rfl)
      · have c_1 : ¬ 6 ≤ n := fun h9 => c_1 ((nI_leI (a := 6) (b := n) (by omega) (by omega)).mpr h9)
        refine lv_iload_n hx hb dX3_total_10 rfl (lv_at hl 2 rfl) ?_
        refine lv_aload_n hx hb dX3_total_11 rfl (lv_at hl 0 rfl) ?_
        refine lv_iload_n hx hb dX3_total_12 rfl (lv_at hl 3 rfl) ?_
        refine lv_iload_n hx hb dX3_total_13 rfl (lv_at hl 1 rfl) ?_
        refine z_E (va_runV (As := [.int (nI n), .int (nI wt)]) (rest := [.int y0_4]) ⟨hx, hb, hml, hown, hts⟩ (zc_X3_of l D cA a M N h n wt (by omega) (by omega)) (cwV 2 hts gX3_total_X3_of rfl rfl rfl zy_X3_of ⟨Nat.le_of_ble_eq_true rfl, Nat.le_of_ble_eq_true rfl⟩) (z_preV (ci := 3) hK hP hD rfl rfl) rfl rfl hl.1 rfl (lv_room (Nat.le_of_ble_eq_true rfl)) dX3_total_14 ⟨Nat.zero_le _, Nat.zero_le _⟩) rfl ?_
        refine lv_iadd hx hb dX3_total_17 ?_
        refine lv_istore_n (lv' := [(2, .int (y0_4 + (f_X3_of M n wt))), (0, .ref (a 0)), (1, .int (nI wt)), (3, .int (nI n))]) hx hb dX3_total_18 rfl hl (by decide) rfl (fun ls hl => ?_)
        refine lv_iinc (v := nI (n + 1)) (lv' := [(3, .int (nI (n + 1))), (2, .int (y0_4 + (f_X3_of M n wt))), (0, .ref (a 0)), (1, .int (nI wt))]) hx hb dX3_total_19 hl (k := 3) rfl (by rw [show (Int32.ofInt 1) = nI 1 from by decide]; exact nI_add n 1) (by decide) rfl (fun ls hl => ?_)
        refine lv_goto (tgt := 4) hx hb dX3_total_22 (by decide) ?_
        exact ih_4 (n + 1) _ (by omega) (by omega) (by subst q_y0_4; first | (simp only [f_X3_total_4]; done) | rfl) ls (lv_sub hl [2, 3, 1, 0] rfl)
  exact loop_4 _ 0 _ (by omega) (Nat.lt_succ_self _) rfl ls (lv_sub hl [2, 3, 1, 0] rfl)

theorem zy_X3_counted : yX3_counted.cls = RX3 ∧ yX3_counted.cls ≠ "java/lang/invoke/MethodHandle" ∧ yX3_counted.cls ≠ "java/lang/invoke/VarHandle" ∧ (parseMethodDescriptor yX3_counted.desc).map (fun d => d.parameters.length) = some 1 := by decide +kernel
def f_X3_counted (M : BK) (N : Nat → Nat) (wt : Nat) : Int32 :=
  if wt = 0 then
    M 0 wt
  else
  if wt = 1 then
    M 0 wt
  else
  if wt = 2 then
    f_X3_total M 0
  else
  if wt = 3 then
    f_X3_total M 2
  else
  if wt = 4 then
    f_X3_loans M
  else
  if wt = 5 then
    M 0 ((2 + wt) - 5)
  else
  if wt = 6 then
    M 0 ((2 + wt) - 5)
  else
  if wt = 7 then
    M 0 ((2 + wt) - 5)
  else
  if wt = 8 then
    M 0 ((2 + wt) - 5)
  else
  if wt = 9 then
    M 0 ((2 + wt) - 5)
  else
  if wt = 10 then
    M 0 ((2 + wt) - 5)
  else
  if wt = 11 then
    nI (N 0)
  else
    M 0 ((2 + wt) - 5)

set_option maxHeartbeats 4000000 in
set_option maxRecDepth 100000 in
theorem zc_X3_counted (l : Launch) (D : va_G) (cA : Nat → ClassId) (a : Nat → Nat) (M : BK) (N : Nat → Nat) (h : Int64) (wt : Nat) (hwt : wt < 12) : Met l yX3_counted wsX3_counted (zrm 2 45) (zPc D cA [.ref (a 0), .int (nI wt)] (moW cA a M N h)) (zE (some (.int (f_X3_counted M N wt)))) 0 0 (fun _ => False) := by
  refine Met.ofW (cc := cX3_counted) (maxL := 2) (ret := (some .int)) (by decide) rfl ?_
  intro p e s m args below meth c s₁ Bd hml hv
  obtain ⟨rfl, hP, hK, hD0⟩ := hv
  have hx := Bd.exec
  have hb := Bd.bytes
  have hr := Bd.returns
  have hts := atoms_spec (ws := wsX3_counted) Bd.pre
  have hown : s.vm.findClass RX3 = some m.cls := findClass_of_methodNamed Bd.named
  have hlocks := Bd.notSynchronized
  have hD := z_Dfr hD0
  have hS : va_S (zfr (moW cA a M N h)) s.heap s.heap [] := va_S.rf
  have hi3 : ∀ w ∈ wsX30, w ∈ wsX3_counted := fun w h => List.mem_cons_of_mem _ (List.mem_append_right _ h)
  have hl := lv_entry ([.ref (a 0), .int (nI wt)]) (n := 2) (Nat.le_of_ble_eq_true rfl)
  rw [lg_entry_eq]
  generalize (lg_sl ([.ref (a 0), .int (nI wt)]) ++ List.replicate (2 - (lg_sl ([.ref (a 0), .int (nI wt)])).length) Slot.unset).toArray = ls at hl ⊢
  have hl : lv_has ls 2 [(0, .ref (a 0)), (1, .int (nI wt))] := hl
  refine lv_iload_n hx hb dX3_counted_0 rfl (lv_at hl 1 rfl) ?_
  by_cases c_1 : wt = 0
  · refine lv_tableIn (off := 63) (tgt := 64) hx hb dX3_counted_1 (by rw [c_1]; decide) (by rw [c_1]; decide) (by rw [c_1]; decide) (by decide) ?_
    refine lv_aload_n hx hb dX3_counted_64 rfl (lv_at hl 0 rfl) ?_
    refine va_get (D := D) (ci := 3) (v := .ref (a 1)) (C := RX3) (T := TX3) (N := 14) hx hb hts hi3 hown hK hP 0 rfl rfl 1 (by decide) (hts (.fieldLink RX3 7 "PledgedLoansModel" "s" "[I") (List.mem_of_getElem? (i := 1) rfl)) (fun _ h9 => h9) rfl dX3_counted_65 ?_
    refine lv_iload_n hx hb dX3_counted_68 rfl (lv_at hl 1 rfl) ?_
    refine z_iald (j := wt) hx hb hK hP 1 0 rfl rfl dX3_counted_69 (by omega) (by decide) ?_
    exact z_iretE hx hb hr hlocks dX3_counted_70 (by simp only [f_X3_counted, if_pos c_1])
  by_cases c_2 : wt = 1
  · refine lv_tableIn (off := 63) (tgt := 64) hx hb dX3_counted_1 (by rw [c_2]; decide) (by rw [c_2]; decide) (by rw [c_2]; decide) (by decide) ?_
    refine lv_aload_n hx hb dX3_counted_64 rfl (lv_at hl 0 rfl) ?_
    refine va_get (D := D) (ci := 3) (v := .ref (a 1)) (C := RX3) (T := TX3) (N := 14) hx hb hts hi3 hown hK hP 0 rfl rfl 1 (by decide) (hts (.fieldLink RX3 7 "PledgedLoansModel" "s" "[I") (List.mem_of_getElem? (i := 1) rfl)) (fun _ h9 => h9) rfl dX3_counted_65 ?_
    refine lv_iload_n hx hb dX3_counted_68 rfl (lv_at hl 1 rfl) ?_
    refine z_iald (j := wt) hx hb hK hP 1 0 rfl rfl dX3_counted_69 (by omega) (by decide) ?_
    exact z_iretE hx hb hr hlocks dX3_counted_70 (by simp only [f_X3_counted, if_neg c_1, if_pos c_2])
  by_cases c_3 : wt = 2
  · refine lv_tableIn (off := 70) (tgt := 71) hx hb dX3_counted_1 (by rw [c_3]; decide) (by rw [c_3]; decide) (by rw [c_3]; decide) (by decide) ?_
    refine lv_aload_n hx hb dX3_counted_71 rfl (lv_at hl 0 rfl) ?_
    refine lv_iconst (v := 0) hx hb dX3_counted_72 (by decide) ?_
    refine z_E (va_runV (As := [.int 0]) (rest := []) ⟨hx, hb, hml, hown, hts⟩ (zc_X3_total l D cA a M N h 0 (by omega)) (cwV 1 hts gX3_counted_X3_total rfl rfl rfl zy_X3_total ⟨Nat.le_of_ble_eq_true rfl, Nat.le_of_ble_eq_true rfl⟩) (z_preV (ci := 3) hK hP hD rfl rfl) rfl rfl hl.1 rfl (lv_room (Nat.le_of_ble_eq_true rfl)) dX3_counted_73 ⟨Nat.zero_le _, Nat.zero_le _⟩) rfl ?_
    exact z_iretE hx hb hr hlocks dX3_counted_76 (by simp only [f_X3_counted, if_neg c_1, if_neg c_2, if_pos c_3])
  by_cases c_4 : wt = 3
  · refine lv_tableIn (off := 76) (tgt := 77) hx hb dX3_counted_1 (by rw [c_4]; decide) (by rw [c_4]; decide) (by rw [c_4]; decide) (by decide) ?_
    refine lv_aload_n hx hb dX3_counted_77 rfl (lv_at hl 0 rfl) ?_
    refine lv_iconst (v := 2) hx hb dX3_counted_78 (by decide) ?_
    refine z_E (va_runV (As := [.int 2]) (rest := []) ⟨hx, hb, hml, hown, hts⟩ (zc_X3_total l D cA a M N h 2 (by omega)) (cwV 1 hts gX3_counted_X3_total rfl rfl rfl zy_X3_total ⟨Nat.le_of_ble_eq_true rfl, Nat.le_of_ble_eq_true rfl⟩) (z_preV (ci := 3) hK hP hD rfl rfl) rfl rfl hl.1 rfl (lv_room (Nat.le_of_ble_eq_true rfl)) dX3_counted_79 ⟨Nat.zero_le _, Nat.zero_le _⟩) rfl ?_
    exact z_iretE hx hb hr hlocks dX3_counted_82 (by simp only [f_X3_counted, if_neg c_1, if_neg c_2, if_neg c_3, if_pos c_4])
  by_cases c_5 : wt = 4
  · refine lv_tableIn (off := 82) (tgt := 83) hx hb dX3_counted_1 (by rw [c_5]; decide) (by rw [c_5]; decide) (by rw [c_5]; decide) (by decide) ?_
    refine lv_aload_n hx hb dX3_counted_83 rfl (lv_at hl 0 rfl) ?_
    refine z_E (va_runV (As := []) (rest := []) ⟨hx, hb, hml, hown, hts⟩ (zc_X3_loans l D cA a M N h) (cwV 0 hts gX3_counted_X3_loans rfl rfl rfl zy_X3_loans ⟨Nat.le_of_ble_eq_true rfl, Nat.le_of_ble_eq_true rfl⟩) (z_preV (ci := 3) hK hP hD rfl rfl) rfl rfl hl.1 rfl (lv_room (Nat.le_of_ble_eq_true rfl)) dX3_counted_84 ⟨Nat.zero_le _, Nat.zero_le _⟩) rfl ?_
    exact z_iretE hx hb hr hlocks dX3_counted_87 (by simp only [f_X3_counted, if_neg c_1, if_neg c_2, if_neg c_3, if_neg c_4, if_pos c_5])
  by_cases c_6 : wt = 5
  · refine lv_tableIn (off := 92) (tgt := 93) hx hb dX3_counted_1 (by rw [c_6]; decide) (by rw [c_6]; decide) (by rw [c_6]; decide) (by decide) ?_
    refine lv_aload_n hx hb dX3_counted_93 rfl (lv_at hl 0 rfl) ?_
    refine va_get (D := D) (ci := 3) (v := .ref (a 1)) (C := RX3) (T := TX3) (N := 14) hx hb hts hi3 hown hK hP 0 rfl rfl 1 (by decide) (hts (.fieldLink RX3 7 "PledgedLoansModel" "s" "[I") (List.mem_of_getElem? (i := 1) rfl)) (fun _ h9 => h9) rfl dX3_counted_94 ?_
    refine lv_iconst (v := 2) hx hb dX3_counted_97 (by decide) ?_
    refine lv_iload_n hx hb dX3_counted_98 rfl (lv_at hl 1 rfl) ?_
    refine lv_iadd hx hb dX3_counted_99 ?_
    refine z_top (nI_add 2 wt) ?_
    refine lv_iconst (v := 5) hx hb dX3_counted_100 (by decide) ?_
    refine lv_isub hx hb dX3_counted_101 ?_
    refine z_top (pk_sub (a := (2 + wt)) (b := 5) (by omega)) ?_
    refine z_iald (j := (2 + wt) - 5) hx hb hK hP 1 0 rfl rfl dX3_counted_102 (by omega) (by decide) ?_
    exact z_iretE hx hb hr hlocks dX3_counted_103 (by simp only [f_X3_counted, if_neg c_1, if_neg c_2, if_neg c_3, if_neg c_4, if_neg c_5, if_pos c_6])
  by_cases c_7 : wt = 6
  · refine lv_tableIn (off := 92) (tgt := 93) hx hb dX3_counted_1 (by rw [c_7]; decide) (by rw [c_7]; decide) (by rw [c_7]; decide) (by decide) ?_
    refine lv_aload_n hx hb dX3_counted_93 rfl (lv_at hl 0 rfl) ?_
    refine va_get (D := D) (ci := 3) (v := .ref (a 1)) (C := RX3) (T := TX3) (N := 14) hx hb hts hi3 hown hK hP 0 rfl rfl 1 (by decide) (hts (.fieldLink RX3 7 "PledgedLoansModel" "s" "[I") (List.mem_of_getElem? (i := 1) rfl)) (fun _ h9 => h9) rfl dX3_counted_94 ?_
    refine lv_iconst (v := 2) hx hb dX3_counted_97 (by decide) ?_
    refine lv_iload_n hx hb dX3_counted_98 rfl (lv_at hl 1 rfl) ?_
    refine lv_iadd hx hb dX3_counted_99 ?_
    refine z_top (nI_add 2 wt) ?_
    refine lv_iconst (v := 5) hx hb dX3_counted_100 (by decide) ?_
    refine lv_isub hx hb dX3_counted_101 ?_
    refine z_top (pk_sub (a := (2 + wt)) (b := 5) (by omega)) ?_
    refine z_iald (j := (2 + wt) - 5) hx hb hK hP 1 0 rfl rfl dX3_counted_102 (by omega) (by decide) ?_
    exact z_iretE hx hb hr hlocks dX3_counted_103 (by simp only [f_X3_counted, if_neg c_1, if_neg c_2, if_neg c_3, if_neg c_4, if_neg c_5, if_neg c_6, if_pos c_7])
  by_cases c_8 : wt = 7
  · refine lv_tableIn (off := 92) (tgt := 93) hx hb dX3_counted_1 (by rw [c_8]; decide) (by rw [c_8]; decide) (by rw [c_8]; decide) (by decide) ?_
    refine lv_aload_n hx hb dX3_counted_93 rfl (lv_at hl 0 rfl) ?_
    refine va_get (D := D) (ci := 3) (v := .ref (a 1)) (C := RX3) (T := TX3) (N := 14) hx hb hts hi3 hown hK hP 0 rfl rfl 1 (by decide) (hts (.fieldLink RX3 7 "PledgedLoansModel" "s" "[I") (List.mem_of_getElem? (i := 1) rfl)) (fun _ h9 => h9) rfl dX3_counted_94 ?_
    refine lv_iconst (v := 2) hx hb dX3_counted_97 (by decide) ?_
    refine lv_iload_n hx hb dX3_counted_98 rfl (lv_at hl 1 rfl) ?_
    refine lv_iadd hx hb dX3_counted_99 ?_
    refine z_top (nI_add 2 wt) ?_
    refine lv_iconst (v := 5) hx hb dX3_counted_100 (by decide) ?_
    refine lv_isub hx hb dX3_counted_101 ?_
    refine z_top (pk_sub (a := (2 + wt)) (b := 5) (by omega)) ?_
    refine z_iald (j := (2 + wt) - 5) hx hb hK hP 1 0 rfl rfl dX3_counted_102 (by omega) (by decide) ?_
    exact z_iretE hx hb hr hlocks dX3_counted_103 (by simp only [f_X3_counted, if_neg c_1, if_neg c_2, if_neg c_3, if_neg c_4, if_neg c_5, if_neg c_6, if_neg c_7, if_pos c_8])
  by_cases c_9 : wt = 8
  · refine lv_tableIn (off := 92) (tgt := 93) hx hb dX3_counted_1 (by rw [c_9]; decide) (by rw [c_9]; decide) (by rw [c_9]; decide) (by decide) ?_
    refine lv_aload_n hx hb dX3_counted_93 rfl (lv_at hl 0 rfl) ?_
    refine va_get (D := D) (ci := 3) (v := .ref (a 1)) (C := RX3) (T := TX3) (N := 14) hx hb hts hi3 hown hK hP 0 rfl rfl 1 (by decide) (hts (.fieldLink RX3 7 "PledgedLoansModel" "s" "[I") (List.mem_of_getElem? (i := 1) rfl)) (fun _ h9 => h9) rfl dX3_counted_94 ?_
    refine lv_iconst (v := 2) hx hb dX3_counted_97 (by decide) ?_
    refine lv_iload_n hx hb dX3_counted_98 rfl (lv_at hl 1 rfl) ?_
    refine lv_iadd hx hb dX3_counted_99 ?_
    refine z_top (nI_add 2 wt) ?_
    refine lv_iconst (v := 5) hx hb dX3_counted_100 (by decide) ?_
    refine lv_isub hx hb dX3_counted_101 ?_
    refine z_top (pk_sub (a := (2 + wt)) (b := 5) (by omega)) ?_
    refine z_iald (j := (2 + wt) - 5) hx hb hK hP 1 0 rfl rfl dX3_counted_102 (by omega) (by decide) ?_
    exact z_iretE hx hb hr hlocks dX3_counted_103 (by simp only [f_X3_counted, if_neg c_1, if_neg c_2, if_neg c_3, if_neg c_4, if_neg c_5, if_neg c_6, if_neg c_7, if_neg c_8, if_pos c_9])
  by_cases c_10 : wt = 9
  · refine lv_tableIn (off := 92) (tgt := 93) hx hb dX3_counted_1 (by rw [c_10]; decide) (by rw [c_10]; decide) (by rw [c_10]; decide) (by decide) ?_
    refine lv_aload_n hx hb dX3_counted_93 rfl (lv_at hl 0 rfl) ?_
    refine va_get (D := D) (ci := 3) (v := .ref (a 1)) (C := RX3) (T := TX3) (N := 14) hx hb hts hi3 hown hK hP 0 rfl rfl 1 (by decide) (hts (.fieldLink RX3 7 "PledgedLoansModel" "s" "[I") (List.mem_of_getElem? (i := 1) rfl)) (fun _ h9 => h9) rfl dX3_counted_94 ?_
    refine lv_iconst (v := 2) hx hb dX3_counted_97 (by decide) ?_
    refine lv_iload_n hx hb dX3_counted_98 rfl (lv_at hl 1 rfl) ?_
    refine lv_iadd hx hb dX3_counted_99 ?_
    refine z_top (nI_add 2 wt) ?_
    refine lv_iconst (v := 5) hx hb dX3_counted_100 (by decide) ?_
    refine lv_isub hx hb dX3_counted_101 ?_
    refine z_top (pk_sub (a := (2 + wt)) (b := 5) (by omega)) ?_
    refine z_iald (j := (2 + wt) - 5) hx hb hK hP 1 0 rfl rfl dX3_counted_102 (by omega) (by decide) ?_
    exact z_iretE hx hb hr hlocks dX3_counted_103 (by simp only [f_X3_counted, if_neg c_1, if_neg c_2, if_neg c_3, if_neg c_4, if_neg c_5, if_neg c_6, if_neg c_7, if_neg c_8, if_neg c_9, if_pos c_10])
  by_cases c_11 : wt = 10
  · refine lv_tableIn (off := 92) (tgt := 93) hx hb dX3_counted_1 (by rw [c_11]; decide) (by rw [c_11]; decide) (by rw [c_11]; decide) (by decide) ?_
    refine lv_aload_n hx hb dX3_counted_93 rfl (lv_at hl 0 rfl) ?_
    refine va_get (D := D) (ci := 3) (v := .ref (a 1)) (C := RX3) (T := TX3) (N := 14) hx hb hts hi3 hown hK hP 0 rfl rfl 1 (by decide) (hts (.fieldLink RX3 7 "PledgedLoansModel" "s" "[I") (List.mem_of_getElem? (i := 1) rfl)) (fun _ h9 => h9) rfl dX3_counted_94 ?_
    refine lv_iconst (v := 2) hx hb dX3_counted_97 (by decide) ?_
    refine lv_iload_n hx hb dX3_counted_98 rfl (lv_at hl 1 rfl) ?_
    refine lv_iadd hx hb dX3_counted_99 ?_
    refine z_top (nI_add 2 wt) ?_
    refine lv_iconst (v := 5) hx hb dX3_counted_100 (by decide) ?_
    refine lv_isub hx hb dX3_counted_101 ?_
    refine z_top (pk_sub (a := (2 + wt)) (b := 5) (by omega)) ?_
    refine z_iald (j := (2 + wt) - 5) hx hb hK hP 1 0 rfl rfl dX3_counted_102 (by omega) (by decide) ?_
    exact z_iretE hx hb hr hlocks dX3_counted_103 (by simp only [f_X3_counted, if_neg c_1, if_neg c_2, if_neg c_3, if_neg c_4, if_neg c_5, if_neg c_6, if_neg c_7, if_neg c_8, if_neg c_9, if_neg c_10, if_pos c_11])
  by_cases c_12 : wt = 11
  · refine lv_tableIn (off := 87) (tgt := 88) hx hb dX3_counted_1 (by rw [c_12]; decide) (by rw [c_12]; decide) (by rw [c_12]; decide) (by decide) ?_
    refine lv_aload_n hx hb dX3_counted_88 rfl (lv_at hl 0 rfl) ?_
    refine va_get (D := D) (ci := 3) (v := .int (nI (N 0))) (C := RX3) (T := TX3) (N := 14) hx hb hts hi3 hown hK hP 0 rfl rfl 2 (by decide) (hts (.fieldLink RX3 80 "PledgedLoansModel" "saved" "I") (List.mem_of_getElem? (i := 2) rfl)) (fun _ h9 => h9) rfl dX3_counted_89 ?_
    exact z_iretE hx hb hr hlocks dX3_counted_92 (by simp only [f_X3_counted, if_neg c_1, if_neg c_2, if_neg c_3, if_neg c_4, if_neg c_5, if_neg c_6, if_neg c_7, if_neg c_8, if_neg c_9, if_neg c_10, if_neg c_11, if_pos c_12])
  refine lv_tableOut (tgt := 93) hx hb dX3_counted_1 (by rw [nI_toInt (by omega)]; omega) (by decide) ?_
  refine lv_aload_n hx hb dX3_counted_93 rfl (lv_at hl 0 rfl) ?_
  refine va_get (D := D) (ci := 3) (v := .ref (a 1)) (C := RX3) (T := TX3) (N := 14) hx hb hts hi3 hown hK hP 0 rfl rfl 1 (by decide) (hts (.fieldLink RX3 7 "PledgedLoansModel" "s" "[I") (List.mem_of_getElem? (i := 1) rfl)) (fun _ h9 => h9) rfl dX3_counted_94 ?_
  refine lv_iconst (v := 2) hx hb dX3_counted_97 (by decide) ?_
  refine lv_iload_n hx hb dX3_counted_98 rfl (lv_at hl 1 rfl) ?_
  refine lv_iadd hx hb dX3_counted_99 ?_
  refine z_top (nI_add 2 wt) ?_
  refine lv_iconst (v := 5) hx hb dX3_counted_100 (by decide) ?_
  refine lv_isub hx hb dX3_counted_101 ?_
  refine z_top (pk_sub (a := (2 + wt)) (b := 5) (by omega)) ?_
  refine z_iald (j := (2 + wt) - 5) hx hb hK hP 1 0 rfl rfl dX3_counted_102 (by omega) (by decide) ?_
  exact z_iretE hx hb hr hlocks dX3_counted_103 (by simp only [f_X3_counted, if_neg c_1, if_neg c_2, if_neg c_3, if_neg c_4, if_neg c_5, if_neg c_6, if_neg c_7, if_neg c_8, if_neg c_9, if_neg c_10, if_neg c_11, if_neg c_12])

theorem zy_X3_most : yX3_most.cls = RX3 ∧ yX3_most.cls ≠ "java/lang/invoke/MethodHandle" ∧ yX3_most.cls ≠ "java/lang/invoke/VarHandle" ∧ (parseMethodDescriptor yX3_most.desc).map (fun d => d.parameters.length) = some 1 := by decide +kernel
def f_X3_most_4 (M : BK) (mb : Nat) : Nat → Nat → Int32
  | 0, q => 0
  | k + 1, q =>
    if q ≤ 0 then
      nI q
    else
      if (f_X3_reason M mb (nI q)) ≤ 0 then
        nI q
      else
        f_X3_most_4 M mb k (q - 1)
def f_X3_most (M : BK) (mb : Nat) : Int32 :=
  f_X3_most_4 M mb 10001 9999

set_option maxHeartbeats 4000000 in
set_option maxRecDepth 100000 in
theorem zc_X3_most (l : Launch) (D : va_G) (cA : Nat → ClassId) (a : Nat → Nat) (M : BK) (N : Nat → Nat) (h : Int64) (mb : Nat) (hmb : mb < 6) : Met l yX3_most wsX3_most (zrm 5 109) (zPc D cA [.ref (a 0), .int (nI mb)] (moW cA a M N h)) (zE (some (.int (f_X3_most M mb)))) 0 0 (fun _ => False) := by
  refine Met.ofW (cc := cX3_most) (maxL := 3) (ret := (some .int)) (by decide) rfl ?_
  intro p e s m args below meth c s₁ Bd hml hv
  obtain ⟨rfl, hP, hK, hD0⟩ := hv
  have hx := Bd.exec
  have hb := Bd.bytes
  have hr := Bd.returns
  have hts := atoms_spec (ws := wsX3_most) Bd.pre
  have hown : s.vm.findClass RX3 = some m.cls := findClass_of_methodNamed Bd.named
  have hlocks := Bd.notSynchronized
  have hD := z_Dfr hD0
  have hS : va_S (zfr (moW cA a M N h)) s.heap s.heap [] := va_S.rf
  have hi3 : ∀ w ∈ wsX30, w ∈ wsX3_most := fun w h => List.mem_cons_of_mem _ (List.mem_append_right _ h)
  have hl := lv_entry ([.ref (a 0), .int (nI mb)]) (n := 3) (Nat.le_of_ble_eq_true rfl)
  rw [lg_entry_eq]
  generalize (lg_sl ([.ref (a 0), .int (nI mb)]) ++ List.replicate (3 - (lg_sl ([.ref (a 0), .int (nI mb)])).length) Slot.unset).toArray = ls at hl ⊢
  have hl : lv_has ls 3 [(0, .ref (a 0)), (1, .int (nI mb))] := hl
  refine lv_sipush (v := 9999) hx hb dX3_most_0 (by decide) ?_
  refine lv_istore_n (lv' := [(2, .int 9999), (0, .ref (a 0)), (1, .int (nI mb))]) hx hb dX3_most_3 rfl hl (by decide) rfl (fun ls hl => ?_)
  have loop_4 : ∀ (kk : Nat) (q : Nat), q < kk → q < 10000 → f_X3_most M mb = f_X3_most_4 M mb kk q → ∀ (ls : Array Slot), lv_has ls 3 [(0, .ref (a 0)), (1, .int (nI mb)), (2, .int (nI q))] → W p l e (headSpec wsX3_most (zrm 5 109)).room s m ([.ref (a 0), .int (nI mb)] : List Value).toArray below meth c s.heap [] 0 0 (MQ below (zE (some (.int (f_X3_most M mb)))) ([.ref (a 0), .int (nI mb)] : List Value).toArray s 0 0 (fun _ => False)) (F0 m 4 ls []) := by
    intro kk
    induction kk with
    | zero => intro q h9; exact absurd h9 (Nat.not_lt_zero _)
    | succ kk ih_4 =>
      intro q hm_4 hi0_4 hres_4 ls hl
      refine lv_iload_n hx hb dX3_most_4 rfl (lv_at hl 2 rfl) ?_
      refine lv_if_le (tgt := 23) hx hb dX3_most_5 (by decide) (fun c_1 => ?_) (fun c_1 => ?_)
      · have c_1 : q ≤ 0 := (nI_leI (a := q) (b := 0) (by omega) (by omega)).mp c_1
        refine lv_iload_n hx hb dX3_most_23 rfl (lv_at hl 2 rfl) ?_
        exact z_iretE hx hb hr hlocks dX3_most_24 (by rw [hres_4]; simp only [f_X3_most_4, if_pos c_1])
      · have c_1 : ¬ q ≤ 0 := fun h9 => c_1 ((nI_leI (a := q) (b := 0) (by omega) (by omega)).mpr h9)
        refine lv_aload_n hx hb dX3_most_8 rfl (lv_at hl 0 rfl) ?_
        refine lv_iload_n hx hb dX3_most_9 rfl (lv_at hl 1 rfl) ?_
        refine lv_iload_n hx hb dX3_most_10 rfl (lv_at hl 2 rfl) ?_
        refine z_E (va_runV (As := [.int (nI mb), .int (nI q)]) (rest := []) ⟨hx, hb, hml, hown, hts⟩ (zc_X3_reason l D cA a M N h mb (nI q) (by omega)) (cwV 2 hts gX3_most_X3_reason rfl rfl rfl zy_X3_reason ⟨Nat.le_of_ble_eq_true rfl, Nat.le_of_ble_eq_true rfl⟩) (z_preV (ci := 3) hK hP hD rfl rfl) rfl rfl hl.1 rfl (lv_room (Nat.le_of_ble_eq_true rfl)) dX3_most_11 ⟨Nat.zero_le _, Nat.zero_le _⟩) rfl ?_
        refine lv_if_le (tgt := 23) hx hb dX3_most_14 (by decide) (fun c_2 => ?_) (fun c_2 => ?_)
        · refine lv_iload_n hx hb dX3_most_23 rfl (lv_at hl 2 rfl) ?_
          exact z_iretE hx hb hr hlocks dX3_most_24 (by rw [hres_4]; simp only [f_X3_most_4, if_neg c_1, if_pos c_2])
        · refine lv_iinc (v := nI (q - 1)) (lv' := [(2, .int (nI (q - 1))), (0, .ref (a 0)), (1, .int (nI mb))]) hx hb dX3_most_17 hl (k := 2) rfl (by rw [show (Int32.ofInt (-1)) = -nI 1 from by decide, ← Int32.sub_eq_add_neg]; exact pk_sub (by omega)) (by decide) rfl (fun ls hl => ?_)
          refine lv_goto (tgt := 4) hx hb dX3_most_20 (by decide) ?_
          exact ih_4 (q - 1) (by omega) (by omega) (by rw [hres_4]; simp only [f_X3_most_4, if_neg c_1, if_neg c_2]) ls (lv_sub hl [1, 2, 0] rfl)
  exact loop_4 10001 9999 (by omega) (by omega) (by first | (simp only [f_X3_most]; done) | rfl) ls (lv_sub hl [1, 2, 0] rfl)

