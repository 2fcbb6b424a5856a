theorem zy_X0_init : yX0_init.cls = RX0 ∧ yX0_init.cls ≠ "java/lang/invoke/MethodHandle" ∧ yX0_init.cls ≠ "java/lang/invoke/VarHandle" ∧ (parseMethodDescriptor yX0_init.desc).map (fun d => d.parameters.length) = some 0 := by decide +kernel
set_option maxHeartbeats 4000000 in
set_option maxRecDepth 100000 in
theorem zi_X0_init (l : Launch) (D : va_G) (cA : Nat → ClassId) (a0 sz : Nat) : Met l yX0_init wsX0_init ({ frames := 1, cells := 8, slots := 74, locals := 12 }) (zPn D cA [.ref a0] [(a0, .inr (0, [.null, .null, .null, .null, .null, .null, .null, .null, .int 0, .int 0, .int 0, .int 0, .int 0, .int 0, .int 0, .int 0]))] sz) (va_Qv (fun u : Nat → Nat => u 0 = a0) (fun u t => va_P D vwCl (bkW (cA 0) u zB0) t.heap ∧ va_D (va_A [(a0, .inr (0, [.null, .null, .null, .null, .null, .null, .null, .null, .int 0, .int 0, .int 0, .int 0, .int 0, .int 0, .int 0, .int 0]))] sz) (bkW (cA 0) u zB0)) (va_A [(a0, .inr (0, [.null, .null, .null, .null, .null, .null, .null, .null, .int 0, .int 0, .int 0, .int 0, .int 0, .int 0, .int 0, .int 0]))] sz)) 8 74 (va_A [(a0, .inr (0, [.null, .null, .null, .null, .null, .null, .null, .null, .int 0, .int 0, .int 0, .int 0, .int 0, .int 0, .int 0, .int 0]))] sz) := by
  refine Met.ofW (cc := cX0_init) (maxL := 1) (ret := none) (by decide) rfl ?_
  intro p e s m args below meth c s₁ Bd hml hv
  obtain ⟨rfl, hsz, hP, hK, hD0⟩ := hv
  have hx := Bd.exec
  have hb := Bd.bytes
  have hr := Bd.returns
  have hts := atoms_spec (ws := wsX0_init) Bd.pre
  have hown : s.vm.findClass RX0 = some m.cls := findClass_of_methodNamed Bd.named
  have hlocks := Bd.notSynchronized
  have hin : meth.name = "<init>" := (name_of_methodNamed Bd.named Bd.method).1
  subst hsz
  have hD := hD0.self (sz := s.heap.size)
  generalize hAe : va_A [(a0, .inr (0, [.null, .null, .null, .null, .null, .null, .null, .null, .int 0, .int 0, .int 0, .int 0, .int 0, .int 0, .int 0, .int 0]))] s.heap.size = A at hD ⊢
  have hA : ∀ q : Nat, s.heap.size ≤ q → A q := fun q h => by rw [← hAe]; exact Or.inr h
  have hS : va_S A s.heap s.heap [] := va_S.rf
  have hi0 : ∀ w ∈ wsX00, w ∈ wsX0_init := fun w h => List.mem_cons_of_mem _ (List.mem_append_right _ h)
  have hl := lv_entry ([.ref a0]) (n := 1) (Nat.le_of_ble_eq_true rfl)
  rw [lg_entry_eq]
  generalize (lg_sl ([.ref a0]) ++ List.replicate (1 - (lg_sl ([.ref a0])).length) Slot.unset).toArray = ls at hl ⊢
  have hl : lv_has ls 1 [(0, .ref a0)] := hl
  refine lv_aload_n hx hb dX0_init_0 rfl (lv_at hl 0 rfl) ?_
  refine W.objInit hx hb hown (hts (.methodLink RX0 3 objectInit) (List.mem_of_getElem? (i := 1) rfl)) (hts (.instanceMethod objectInit) (List.mem_of_getElem? (i := 2) rfl)) (hts (.code objectInit ⟨#[0xb1]⟩ 1 none) (List.mem_of_getElem? (i := 3) rfl)) rfl (by rw [hml]; exact hl.1) rfl dX0_init_1 (Nat.le_of_ble_eq_true rfl) (Nat.le_of_ble_eq_true rfl) ?_
  refine W.eq (g2 := F0 m 4 ls []) rfl ?_
  refine lv_aload_n hx hb dX0_init_4 rfl (lv_at hl 0 rfl) ?_
  refine lv_bipush (v := 6) hx hb dX0_init_5 (by decide) ?_
  refine z_newI (N' := 6) hx hb (hts (.arrayClass .int) (List.mem_of_getElem? (i := 4) rfl)) hK hP hD hS hA (by decide) (by decide) (by decide) (Nat.le_of_ble_eq_true rfl) (Nat.le_of_ble_eq_true rfl) dX0_init_7 (fun q1 H hP hD hS => ?_)
  have hP : va_P D vwCl ([(a0, .inr (0, [.null, .null, .null, .null, .null, .null, .null, .null, .int 0, .int 0, .int 0, .int 0, .int 0, .int 0, .int 0, .int 0])), (q1, .inl (cA 0, 6, .inl (fun _ => 0)))]) H := hP
  have hD : va_D A ([(a0, .inr (0, [.null, .null, .null, .null, .null, .null, .null, .null, .int 0, .int 0, .int 0, .int 0, .int 0, .int 0, .int 0, .int 0])), (q1, .inl (cA 0, 6, .inl (fun _ => 0)))]) := hD
  refine va_putF (D := D) (ci := 0) (v := .ref q1) (ty := .array .int) (C := RX0) (T := TX0) (N := 16) hx hb hts hi0 tyX0 tyX0_ok nmX0 hown hK hP hD hS 0 rfl rfl 0 (by decide) (hts (.fieldLink RX0 9 "PledgedLoans$Books" "shares" "[I") (List.mem_of_getElem? (i := 5) rfl)) (fun _ h9 => h9) rfl hin rfl (by decide +kernel) rfl rfl (Nat.le_of_ble_eq_true rfl) dX0_init_9 (fun H locs hP hD hS => ?_)
  have hP : va_P D vwCl ([(a0, .inr (0, [.ref q1, .null, .null, .null, .null, .null, .null, .null, .int 0, .int 0, .int 0, .int 0, .int 0, .int 0, .int 0, .int 0])), (q1, .inl (cA 0, 6, .inl (fun _ => 0)))]) H := hP
  have hD : va_D A ([(a0, .inr (0, [.ref q1, .null, .null, .null, .null, .null, .null, .null, .int 0, .int 0, .int 0, .int 0, .int 0, .int 0, .int 0, .int 0])), (q1, .inl (cA 0, 6, .inl (fun _ => 0)))]) := hD
  refine lv_aload_n hx hb dX0_init_12 rfl (lv_at hl 0 rfl) ?_
  refine lv_bipush (v := 6) hx hb dX0_init_13 (by decide) ?_
  refine z_newI (N' := 6) hx hb (hts (.arrayClass .int) (List.mem_of_getElem? (i := 4) rfl)) hK hP hD hS hA (by decide) (by decide) (by decide) (Nat.le_of_ble_eq_true rfl) (Nat.le_of_ble_eq_true rfl) dX0_init_15 (fun q2 H hP hD hS => ?_)
  have hP : va_P D vwCl ([(a0, .inr (0, [.ref q1, .null, .null, .null, .null, .null, .null, .null, .int 0, .int 0, .int 0, .int 0, .int 0, .int 0, .int 0, .int 0])), (q1, .inl (cA 0, 6, .inl (fun _ => 0))), (q2, .inl (cA 0, 6, .inl (fun _ => 0)))]) H := hP
  have hD : va_D A ([(a0, .inr (0, [.ref q1, .null, .null, .null, .null, .null, .null, .null, .int 0, .int 0, .int 0, .int 0, .int 0, .int 0, .int 0, .int 0])), (q1, .inl (cA 0, 6, .inl (fun _ => 0))), (q2, .inl (cA 0, 6, .inl (fun _ => 0)))]) := hD
  refine va_putF (D := D) (ci := 0) (v := .ref q2) (ty := .array .int) (C := RX0) (T := TX0) (N := 16) hx hb hts hi0 tyX0 tyX0_ok nmX0 hown hK hP hD hS 0 rfl rfl 1 (by decide) (hts (.fieldLink RX0 15 "PledgedLoans$Books" "shareDays" "[I") (List.mem_of_getElem? (i := 6) rfl)) (fun _ h9 => h9) rfl hin rfl (by decide +kernel) rfl rfl (Nat.le_of_ble_eq_true rfl) dX0_init_17 (fun H locs hP hD hS => ?_)
  have hP : va_P D vwCl ([(a0, .inr (0, [.ref q1, .ref q2, .null, .null, .null, .null, .null, .null, .int 0, .int 0, .int 0, .int 0, .int 0, .int 0, .int 0, .int 0])), (q1, .inl (cA 0, 6, .inl (fun _ => 0))), (q2, .inl (cA 0, 6, .inl (fun _ => 0)))]) H := hP
  have hD : va_D A ([(a0, .inr (0, [.ref q1, .ref q2, .null, .null, .null, .null, .null, .null, .int 0, .int 0, .int 0, .int 0, .int 0, .int 0, .int 0, .int 0])), (q1, .inl (cA 0, 6, .inl (fun _ => 0))), (q2, .inl (cA 0, 6, .inl (fun _ => 0)))]) := hD
  refine lv_aload_n hx hb dX0_init_20 rfl (lv_at hl 0 rfl) ?_
  refine lv_bipush (v := 36) hx hb dX0_init_21 (by decide) ?_
  refine z_newI (N' := 36) hx hb (hts (.arrayClass .int) (List.mem_of_getElem? (i := 4) rfl)) hK hP hD hS hA (by decide) (by decide) (by decide) (Nat.le_of_ble_eq_true rfl) (Nat.le_of_ble_eq_true rfl) dX0_init_23 (fun q3 H hP hD hS => ?_)
  have hP : va_P D vwCl ([(a0, .inr (0, [.ref q1, .ref q2, .null, .null, .null, .null, .null, .null, .int 0, .int 0, .int 0, .int 0, .int 0, .int 0, .int 0, .int 0])), (q1, .inl (cA 0, 6, .inl (fun _ => 0))), (q2, .inl (cA 0, 6, .inl (fun _ => 0))), (q3, .inl (cA 0, 36, .inl (fun _ => 0)))]) H := hP
  have hD : va_D A ([(a0, .inr (0, [.ref q1, .ref q2, .null, .null, .null, .null, .null, .null, .int 0, .int 0, .int 0, .int 0, .int 0, .int 0, .int 0, .int 0])), (q1, .inl (cA 0, 6, .inl (fun _ => 0))), (q2, .inl (cA 0, 6, .inl (fun _ => 0))), (q3, .inl (cA 0, 36, .inl (fun _ => 0)))]) := hD
  refine va_putF (D := D) (ci := 0) (v := .ref q3) (ty := .array .int) (C := RX0) (T := TX0) (N := 16) hx hb hts hi0 tyX0 tyX0_ok nmX0 hown hK hP hD hS 0 rfl rfl 2 (by decide) (hts (.fieldLink RX0 18 "PledgedLoans$Books" "pledges" "[I") (List.mem_of_getElem? (i := 7) rfl)) (fun _ h9 => h9) rfl hin rfl (by decide +kernel) rfl rfl (Nat.le_of_ble_eq_true rfl) dX0_init_25 (fun H locs hP hD hS => ?_)
  have hP : va_P D vwCl ([(a0, .inr (0, [.ref q1, .ref q2, .ref q3, .null, .null, .null, .null, .null, .int 0, .int 0, .int 0, .int 0, .int 0, .int 0, .int 0, .int 0])), (q1, .inl (cA 0, 6, .inl (fun _ => 0))), (q2, .inl (cA 0, 6, .inl (fun _ => 0))), (q3, .inl (cA 0, 36, .inl (fun _ => 0)))]) H := hP
  have hD : va_D A ([(a0, .inr (0, [.ref q1, .ref q2, .ref q3, .null, .null, .null, .null, .null, .int 0, .int 0, .int 0, .int 0, .int 0, .int 0, .int 0, .int 0])), (q1, .inl (cA 0, 6, .inl (fun _ => 0))), (q2, .inl (cA 0, 6, .inl (fun _ => 0))), (q3, .inl (cA 0, 36, .inl (fun _ => 0)))]) := hD
  refine lv_aload_n hx hb dX0_init_28 rfl (lv_at hl 0 rfl) ?_
  refine lv_bipush (v := 6) hx hb dX0_init_29 (by decide) ?_
  refine z_newI (N' := 6) hx hb (hts (.arrayClass .int) (List.mem_of_getElem? (i := 4) rfl)) hK hP hD hS hA (by decide) (by decide) (by decide) (Nat.le_of_ble_eq_true rfl) (Nat.le_of_ble_eq_true rfl) dX0_init_31 (fun q4 H hP hD hS => ?_)
  have hP : va_P D vwCl ([(a0, .inr (0, [.ref q1, .ref q2, .ref q3, .null, .null, .null, .null, .null, .int 0, .int 0, .int 0, .int 0, .int 0, .int 0, .int 0, .int 0])), (q1, .inl (cA 0, 6, .inl (fun _ => 0))), (q2, .inl (cA 0, 6, .inl (fun _ => 0))), (q3, .inl (cA 0, 36, .inl (fun _ => 0))), (q4, .inl (cA 0, 6, .inl (fun _ => 0)))]) H := hP
  have hD : va_D A ([(a0, .inr (0, [.ref q1, .ref q2, .ref q3, .null, .null, .null, .null, .null, .int 0, .int 0, .int 0, .int 0, .int 0, .int 0, .int 0, .int 0])), (q1, .inl (cA 0, 6, .inl (fun _ => 0))), (q2, .inl (cA 0, 6, .inl (fun _ => 0))), (q3, .inl (cA 0, 36, .inl (fun _ => 0))), (q4, .inl (cA 0, 6, .inl (fun _ => 0)))]) := hD
  refine va_putF (D := D) (ci := 0) (v := .ref q4) (ty := .array .int) (C := RX0) (T := TX0) (N := 16) hx hb hts hi0 tyX0 tyX0_ok nmX0 hown hK hP hD hS 0 rfl rfl 3 (by decide) (hts (.fieldLink RX0 21 "PledgedLoans$Books" "rest" "[I") (List.mem_of_getElem? (i := 8) rfl)) (fun _ h9 => h9) rfl hin rfl (by decide +kernel) rfl rfl (Nat.le_of_ble_eq_true rfl) dX0_init_33 (fun H locs hP hD hS => ?_)
  have hP : va_P D vwCl ([(a0, .inr (0, [.ref q1, .ref q2, .ref q3, .ref q4, .null, .null, .null, .null, .int 0, .int 0, .int 0, .int 0, .int 0, .int 0, .int 0, .int 0])), (q1, .inl (cA 0, 6, .inl (fun _ => 0))), (q2, .inl (cA 0, 6, .inl (fun _ => 0))), (q3, .inl (cA 0, 36, .inl (fun _ => 0))), (q4, .inl (cA 0, 6, .inl (fun _ => 0)))]) H := hP
  have hD : va_D A ([(a0, .inr (0, [.ref q1, .ref q2, .ref q3, .ref q4, .null, .null, .null, .null, .int 0, .int 0, .int 0, .int 0, .int 0, .int 0, .int 0, .int 0])), (q1, .inl (cA 0, 6, .inl (fun _ => 0))), (q2, .inl (cA 0, 6, .inl (fun _ => 0))), (q3, .inl (cA 0, 36, .inl (fun _ => 0))), (q4, .inl (cA 0, 6, .inl (fun _ => 0)))]) := hD
  refine lv_aload_n hx hb dX0_init_36 rfl (lv_at hl 0 rfl) ?_
  refine lv_bipush (v := 6) hx hb dX0_init_37 (by decide) ?_
  refine z_newI (N' := 6) hx hb (hts (.arrayClass .int) (List.mem_of_getElem? (i := 4) rfl)) hK hP hD hS hA (by decide) (by decide) (by decide) (Nat.le_of_ble_eq_true rfl) (Nat.le_of_ble_eq_true rfl) dX0_init_39 (fun q5 H hP hD hS => ?_)
  have hP : va_P D vwCl ([(a0, .inr (0, [.ref q1, .ref q2, .ref q3, .ref q4, .null, .null, .null, .null, .int 0, .int 0, .int 0, .int 0, .int 0, .int 0, .int 0, .int 0])), (q1, .inl (cA 0, 6, .inl (fun _ => 0))), (q2, .inl (cA 0, 6, .inl (fun _ => 0))), (q3, .inl (cA 0, 36, .inl (fun _ => 0))), (q4, .inl (cA 0, 6, .inl (fun _ => 0))), (q5, .inl (cA 0, 6, .inl (fun _ => 0)))]) H := hP
  have hD : va_D A ([(a0, .inr (0, [.ref q1, .ref q2, .ref q3, .ref q4, .null, .null, .null, .null, .int 0, .int 0, .int 0, .int 0, .int 0, .int 0, .int 0, .int 0])), (q1, .inl (cA 0, 6, .inl (fun _ => 0))), (q2, .inl (cA 0, 6, .inl (fun _ => 0))), (q3, .inl (cA 0, 36, .inl (fun _ => 0))), (q4, .inl (cA 0, 6, .inl (fun _ => 0))), (q5, .inl (cA 0, 6, .inl (fun _ => 0)))]) := hD
  refine va_putF (D := D) (ci := 0) (v := .ref q5) (ty := .array .int) (C := RX0) (T := TX0) (N := 16) hx hb hts hi0 tyX0 tyX0_ok nmX0 hown hK hP hD hS 0 rfl rfl 4 (by decide) (hts (.fieldLink RX0 24 "PledgedLoans$Books" "part" "[I") (List.mem_of_getElem? (i := 9) rfl)) (fun _ h9 => h9) rfl hin rfl (by decide +kernel) rfl rfl (Nat.le_of_ble_eq_true rfl) dX0_init_41 (fun H locs hP hD hS => ?_)
  have hP : va_P D vwCl ([(a0, .inr (0, [.ref q1, .ref q2, .ref q3, .ref q4, .ref q5, .null, .null, .null, .int 0, .int 0, .int 0, .int 0, .int 0, .int 0, .int 0, .int 0])), (q1, .inl (cA 0, 6, .inl (fun _ => 0))), (q2, .inl (cA 0, 6, .inl (fun _ => 0))), (q3, .inl (cA 0, 36, .inl (fun _ => 0))), (q4, .inl (cA 0, 6, .inl (fun _ => 0))), (q5, .inl (cA 0, 6, .inl (fun _ => 0)))]) H := hP
  have hD : va_D A ([(a0, .inr (0, [.ref q1, .ref q2, .ref q3, .ref q4, .ref q5, .null, .null, .null, .int 0, .int 0, .int 0, .int 0, .int 0, .int 0, .int 0, .int 0])), (q1, .inl (cA 0, 6, .inl (fun _ => 0))), (q2, .inl (cA 0, 6, .inl (fun _ => 0))), (q3, .inl (cA 0, 36, .inl (fun _ => 0))), (q4, .inl (cA 0, 6, .inl (fun _ => 0))), (q5, .inl (cA 0, 6, .inl (fun _ => 0)))]) := hD
  refine lv_aload_n hx hb dX0_init_44 rfl (lv_at hl 0 rfl) ?_
  refine lv_bipush (v := 6) hx hb dX0_init_45 (by decide) ?_
  refine z_newI (N' := 6) hx hb (hts (.arrayClass .int) (List.mem_of_getElem? (i := 4) rfl)) hK hP hD hS hA (by decide) (by decide) (by decide) (Nat.le_of_ble_eq_true rfl) (Nat.le_of_ble_eq_true rfl) dX0_init_47 (fun q6 H hP hD hS => ?_)
  have hP : va_P D vwCl ([(a0, .inr (0, [.ref q1, .ref q2, .ref q3, .ref q4, .ref q5, .null, .null, .null, .int 0, .int 0, .int 0, .int 0, .int 0, .int 0, .int 0, .int 0])), (q1, .inl (cA 0, 6, .inl (fun _ => 0))), (q2, .inl (cA 0, 6, .inl (fun _ => 0))), (q3, .inl (cA 0, 36, .inl (fun _ => 0))), (q4, .inl (cA 0, 6, .inl (fun _ => 0))), (q5, .inl (cA 0, 6, .inl (fun _ => 0))), (q6, .inl (cA 0, 6, .inl (fun _ => 0)))]) H := hP
  have hD : va_D A ([(a0, .inr (0, [.ref q1, .ref q2, .ref q3, .ref q4, .ref q5, .null, .null, .null, .int 0, .int 0, .int 0, .int 0, .int 0, .int 0, .int 0, .int 0])), (q1, .inl (cA 0, 6, .inl (fun _ => 0))), (q2, .inl (cA 0, 6, .inl (fun _ => 0))), (q3, .inl (cA 0, 36, .inl (fun _ => 0))), (q4, .inl (cA 0, 6, .inl (fun _ => 0))), (q5, .inl (cA 0, 6, .inl (fun _ => 0))), (q6, .inl (cA 0, 6, .inl (fun _ => 0)))]) := hD
  refine va_putF (D := D) (ci := 0) (v := .ref q6) (ty := .array .int) (C := RX0) (T := TX0) (N := 16) hx hb hts hi0 tyX0 tyX0_ok nmX0 hown hK hP hD hS 0 rfl rfl 5 (by decide) (hts (.fieldLink RX0 27 "PledgedLoans$Books" "paid" "[I") (List.mem_of_getElem? (i := 10) rfl)) (fun _ h9 => h9) rfl hin rfl (by decide +kernel) rfl rfl (Nat.le_of_ble_eq_true rfl) dX0_init_49 (fun H locs hP hD hS => ?_)
  have hP : va_P D vwCl ([(a0, .inr (0, [.ref q1, .ref q2, .ref q3, .ref q4, .ref q5, .ref q6, .null, .null, .int 0, .int 0, .int 0, .int 0, .int 0, .int 0, .int 0, .int 0])), (q1, .inl (cA 0, 6, .inl (fun _ => 0))), (q2, .inl (cA 0, 6, .inl (fun _ => 0))), (q3, .inl (cA 0, 36, .inl (fun _ => 0))), (q4, .inl (cA 0, 6, .inl (fun _ => 0))), (q5, .inl (cA 0, 6, .inl (fun _ => 0))), (q6, .inl (cA 0, 6, .inl (fun _ => 0)))]) H := hP
  have hD : va_D A ([(a0, .inr (0, [.ref q1, .ref q2, .ref q3, .ref q4, .ref q5, .ref q6, .null, .null, .int 0, .int 0, .int 0, .int 0, .int 0, .int 0, .int 0, .int 0])), (q1, .inl (cA 0, 6, .inl (fun _ => 0))), (q2, .inl (cA 0, 6, .inl (fun _ => 0))), (q3, .inl (cA 0, 36, .inl (fun _ => 0))), (q4, .inl (cA 0, 6, .inl (fun _ => 0))), (q5, .inl (cA 0, 6, .inl (fun _ => 0))), (q6, .inl (cA 0, 6, .inl (fun _ => 0)))]) := hD
  refine lv_aload_n hx hb dX0_init_52 rfl (lv_at hl 0 rfl) ?_
  refine lv_bipush (v := 6) hx hb dX0_init_53 (by decide) ?_
  refine z_newI (N' := 6) hx hb (hts (.arrayClass .int) (List.mem_of_getElem? (i := 4) rfl)) hK hP hD hS hA (by decide) (by decide) (by decide) (Nat.le_of_ble_eq_true rfl) (Nat.le_of_ble_eq_true rfl) dX0_init_55 (fun q7 H hP hD hS => ?_)
  have hP : va_P D vwCl ([(a0, .inr (0, [.ref q1, .ref q2, .ref q3, .ref q4, .ref q5, .ref q6, .null, .null, .int 0, .int 0, .int 0, .int 0, .int 0, .int 0, .int 0, .int 0])), (q1, .inl (cA 0, 6, .inl (fun _ => 0))), (q2, .inl (cA 0, 6, .inl (fun _ => 0))), (q3, .inl (cA 0, 36, .inl (fun _ => 0))), (q4, .inl (cA 0, 6, .inl (fun _ => 0))), (q5, .inl (cA 0, 6, .inl (fun _ => 0))), (q6, .inl (cA 0, 6, .inl (fun _ => 0))), (q7, .inl (cA 0, 6, .inl (fun _ => 0)))]) H := hP
  have hD : va_D A ([(a0, .inr (0, [.ref q1, .ref q2, .ref q3, .ref q4, .ref q5, .ref q6, .null, .null, .int 0, .int 0, .int 0, .int 0, .int 0, .int 0, .int 0, .int 0])), (q1, .inl (cA 0, 6, .inl (fun _ => 0))), (q2, .inl (cA 0, 6, .inl (fun _ => 0))), (q3, .inl (cA 0, 36, .inl (fun _ => 0))), (q4, .inl (cA 0, 6, .inl (fun _ => 0))), (q5, .inl (cA 0, 6, .inl (fun _ => 0))), (q6, .inl (cA 0, 6, .inl (fun _ => 0))), (q7, .inl (cA 0, 6, .inl (fun _ => 0)))]) := hD
  refine va_putF (D := D) (ci := 0) (v := .ref q7) (ty := .array .int) (C := RX0) (T := TX0) (N := 16) hx hb hts hi0 tyX0 tyX0_ok nmX0 hown hK hP hD hS 0 rfl rfl 6 (by decide) (hts (.fieldLink RX0 30 "PledgedLoans$Books" "misses" "[I") (List.mem_of_getElem? (i := 11) rfl)) (fun _ h9 => h9) rfl hin rfl (by decide +kernel) rfl rfl (Nat.le_of_ble_eq_true rfl) dX0_init_57 (fun H locs hP hD hS => ?_)
  have hP : va_P D vwCl ([(a0, .inr (0, [.ref q1, .ref q2, .ref q3, .ref q4, .ref q5, .ref q6, .ref q7, .null, .int 0, .int 0, .int 0, .int 0, .int 0, .int 0, .int 0, .int 0])), (q1, .inl (cA 0, 6, .inl (fun _ => 0))), (q2, .inl (cA 0, 6, .inl (fun _ => 0))), (q3, .inl (cA 0, 36, .inl (fun _ => 0))), (q4, .inl (cA 0, 6, .inl (fun _ => 0))), (q5, .inl (cA 0, 6, .inl (fun _ => 0))), (q6, .inl (cA 0, 6, .inl (fun _ => 0))), (q7, .inl (cA 0, 6, .inl (fun _ => 0)))]) H := hP
  have hD : va_D A ([(a0, .inr (0, [.ref q1, .ref q2, .ref q3, .ref q4, .ref q5, .ref q6, .ref q7, .null, .int 0, .int 0, .int 0, .int 0, .int 0, .int 0, .int 0, .int 0])), (q1, .inl (cA 0, 6, .inl (fun _ => 0))), (q2, .inl (cA 0, 6, .inl (fun _ => 0))), (q3, .inl (cA 0, 36, .inl (fun _ => 0))), (q4, .inl (cA 0, 6, .inl (fun _ => 0))), (q5, .inl (cA 0, 6, .inl (fun _ => 0))), (q6, .inl (cA 0, 6, .inl (fun _ => 0))), (q7, .inl (cA 0, 6, .inl (fun _ => 0)))]) := hD
  refine lv_aload_n hx hb dX0_init_60 rfl (lv_at hl 0 rfl) ?_
  refine lv_iconst (v := 2) hx hb dX0_init_61 (by decide) ?_
  refine z_newI (N' := 2) hx hb (hts (.arrayClass .int) (List.mem_of_getElem? (i := 4) rfl)) hK hP hD hS hA (by decide) (by decide) (by decide) (Nat.le_of_ble_eq_true rfl) (Nat.le_of_ble_eq_true rfl) dX0_init_62 (fun q8 H hP hD hS => ?_)
  have hP : va_P D vwCl ([(a0, .inr (0, [.ref q1, .ref q2, .ref q3, .ref q4, .ref q5, .ref q6, .ref q7, .null, .int 0, .int 0, .int 0, .int 0, .int 0, .int 0, .int 0, .int 0])), (q1, .inl (cA 0, 6, .inl (fun _ => 0))), (q2, .inl (cA 0, 6, .inl (fun _ => 0))), (q3, .inl (cA 0, 36, .inl (fun _ => 0))), (q4, .inl (cA 0, 6, .inl (fun _ => 0))), (q5, .inl (cA 0, 6, .inl (fun _ => 0))), (q6, .inl (cA 0, 6, .inl (fun _ => 0))), (q7, .inl (cA 0, 6, .inl (fun _ => 0))), (q8, .inl (cA 0, 2, .inl (fun _ => 0)))]) H := hP
  have hD : va_D A ([(a0, .inr (0, [.ref q1, .ref q2, .ref q3, .ref q4, .ref q5, .ref q6, .ref q7, .null, .int 0, .int 0, .int 0, .int 0, .int 0, .int 0, .int 0, .int 0])), (q1, .inl (cA 0, 6, .inl (fun _ => 0))), (q2, .inl (cA 0, 6, .inl (fun _ => 0))), (q3, .inl (cA 0, 36, .inl (fun _ => 0))), (q4, .inl (cA 0, 6, .inl (fun _ => 0))), (q5, .inl (cA 0, 6, .inl (fun _ => 0))), (q6, .inl (cA 0, 6, .inl (fun _ => 0))), (q7, .inl (cA 0, 6, .inl (fun _ => 0))), (q8, .inl (cA 0, 2, .inl (fun _ => 0)))]) := hD
  refine lv_dup hx hb dX0_init_64 rfl ?_
  refine lv_iconst (v := 0) hx hb dX0_init_65 (by decide) ?_
  refine lv_bipush (v := 20) hx hb dX0_init_66 (by decide) ?_
  refine z_iast (j := 0) hx hb hK hP hD hS 8 0 rfl rfl dX0_init_68 (by omega) (by decide) ([(a0, .inr (0, [.ref q1, .ref q2, .ref q3, .ref q4, .ref q5, .ref q6, .ref q7, .null, .int 0, .int 0, .int 0, .int 0, .int 0, .int 0, .int 0, .int 0])), (q1, .inl (cA 0, 6, .inl (fun _ => 0))), (q2, .inl (cA 0, 6, .inl (fun _ => 0))), (q3, .inl (cA 0, 36, .inl (fun _ => 0))), (q4, .inl (cA 0, 6, .inl (fun _ => 0))), (q5, .inl (cA 0, 6, .inl (fun _ => 0))), (q6, .inl (cA 0, 6, .inl (fun _ => 0))), (q7, .inl (cA 0, 6, .inl (fun _ => 0))), (q8, .inl (cA 0, 2, .inl (upd (fun _ => 0) 0 20)))]) rfl (fun H locs hP hD hS => ?_)
  have hP : va_P D vwCl ([(a0, .inr (0, [.ref q1, .ref q2, .ref q3, .ref q4, .ref q5, .ref q6, .ref q7, .null, .int 0, .int 0, .int 0, .int 0, .int 0, .int 0, .int 0, .int 0])), (q1, .inl (cA 0, 6, .inl (fun _ => 0))), (q2, .inl (cA 0, 6, .inl (fun _ => 0))), (q3, .inl (cA 0, 36, .inl (fun _ => 0))), (q4, .inl (cA 0, 6, .inl (fun _ => 0))), (q5, .inl (cA 0, 6, .inl (fun _ => 0))), (q6, .inl (cA 0, 6, .inl (fun _ => 0))), (q7, .inl (cA 0, 6, .inl (fun _ => 0))), (q8, .inl (cA 0, 2, .inl (upd (fun _ => 0) 0 20)))]) H := hP
  have hD : va_D A ([(a0, .inr (0, [.ref q1, .ref q2, .ref q3, .ref q4, .ref q5, .ref q6, .ref q7, .null, .int 0, .int 0, .int 0, .int 0, .int 0, .int 0, .int 0, .int 0])), (q1, .inl (cA 0, 6, .inl (fun _ => 0))), (q2, .inl (cA 0, 6, .inl (fun _ => 0))), (q3, .inl (cA 0, 36, .inl (fun _ => 0))), (q4, .inl (cA 0, 6, .inl (fun _ => 0))), (q5, .inl (cA 0, 6, .inl (fun _ => 0))), (q6, .inl (cA 0, 6, .inl (fun _ => 0))), (q7, .inl (cA 0, 6, .inl (fun _ => 0))), (q8, .inl (cA 0, 2, .inl (upd (fun _ => 0) 0 20)))]) := hD
  refine lv_dup hx hb dX0_init_69 rfl ?_
  refine lv_iconst (v := 1) hx hb dX0_init_70 (by decide) ?_
  refine lv_iconst (v := 3) hx hb dX0_init_71 (by decide) ?_
  refine z_iast (j := 1) hx hb hK hP hD hS 8 0 rfl rfl dX0_init_72 (by omega) (by decide) ([(a0, .inr (0, [.ref q1, .ref q2, .ref q3, .ref q4, .ref q5, .ref q6, .ref q7, .null, .int 0, .int 0, .int 0, .int 0, .int 0, .int 0, .int 0, .int 0])), (q1, .inl (cA 0, 6, .inl (fun _ => 0))), (q2, .inl (cA 0, 6, .inl (fun _ => 0))), (q3, .inl (cA 0, 36, .inl (fun _ => 0))), (q4, .inl (cA 0, 6, .inl (fun _ => 0))), (q5, .inl (cA 0, 6, .inl (fun _ => 0))), (q6, .inl (cA 0, 6, .inl (fun _ => 0))), (q7, .inl (cA 0, 6, .inl (fun _ => 0))), (q8, .inl (cA 0, 2, .inl (upd (upd (fun _ => 0) 0 20) 1 3)))]) rfl (fun H locs hP hD hS => ?_)
  have hP : va_P D vwCl ([(a0, .inr (0, [.ref q1, .ref q2, .ref q3, .ref q4, .ref q5, .ref q6, .ref q7, .null, .int 0, .int 0, .int 0, .int 0, .int 0, .int 0, .int 0, .int 0])), (q1, .inl (cA 0, 6, .inl (fun _ => 0))), (q2, .inl (cA 0, 6, .inl (fun _ => 0))), (q3, .inl (cA 0, 36, .inl (fun _ => 0))), (q4, .inl (cA 0, 6, .inl (fun _ => 0))), (q5, .inl (cA 0, 6, .inl (fun _ => 0))), (q6, .inl (cA 0, 6, .inl (fun _ => 0))), (q7, .inl (cA 0, 6, .inl (fun _ => 0))), (q8, .inl (cA 0, 2, .inl (upd (upd (fun _ => 0) 0 20) 1 3)))]) H := hP
  have hD : va_D A ([(a0, .inr (0, [.ref q1, .ref q2, .ref q3, .ref q4, .ref q5, .ref q6, .ref q7, .null, .int 0, .int 0, .int 0, .int 0, .int 0, .int 0, .int 0, .int 0])), (q1, .inl (cA 0, 6, .inl (fun _ => 0))), (q2, .inl (cA 0, 6, .inl (fun _ => 0))), (q3, .inl (cA 0, 36, .inl (fun _ => 0))), (q4, .inl (cA 0, 6, .inl (fun _ => 0))), (q5, .inl (cA 0, 6, .inl (fun _ => 0))), (q6, .inl (cA 0, 6, .inl (fun _ => 0))), (q7, .inl (cA 0, 6, .inl (fun _ => 0))), (q8, .inl (cA 0, 2, .inl (upd (upd (fun _ => 0) 0 20) 1 3)))]) := hD
  refine va_putF (D := D) (ci := 0) (v := .ref q8) (ty := .array .int) (C := RX0) (T := TX0) (N := 16) hx hb hts hi0 tyX0 tyX0_ok nmX0 hown hK hP hD hS 0 rfl rfl 7 (by decide) (hts (.fieldLink RX0 33 "PledgedLoans$Books" "settings" "[I") (List.mem_of_getElem? (i := 12) rfl)) (fun _ h9 => h9) rfl hin rfl (by decide +kernel) rfl rfl (Nat.le_of_ble_eq_true rfl) dX0_init_73 (fun H locs hP hD hS => ?_)
  have hP : va_P D vwCl ([(a0, .inr (0, [.ref q1, .ref q2, .ref q3, .ref q4, .ref q5, .ref q6, .ref q7, .ref q8, .int 0, .int 0, .int 0, .int 0, .int 0, .int 0, .int 0, .int 0])), (q1, .inl (cA 0, 6, .inl (fun _ => 0))), (q2, .inl (cA 0, 6, .inl (fun _ => 0))), (q3, .inl (cA 0, 36, .inl (fun _ => 0))), (q4, .inl (cA 0, 6, .inl (fun _ => 0))), (q5, .inl (cA 0, 6, .inl (fun _ => 0))), (q6, .inl (cA 0, 6, .inl (fun _ => 0))), (q7, .inl (cA 0, 6, .inl (fun _ => 0))), (q8, .inl (cA 0, 2, .inl (upd (upd (fun _ => 0) 0 20) 1 3)))]) H := hP
  have hD : va_D A ([(a0, .inr (0, [.ref q1, .ref q2, .ref q3, .ref q4, .ref q5, .ref q6, .ref q7, .ref q8, .int 0, .int 0, .int 0, .int 0, .int 0, .int 0, .int 0, .int 0])), (q1, .inl (cA 0, 6, .inl (fun _ => 0))), (q2, .inl (cA 0, 6, .inl (fun _ => 0))), (q3, .inl (cA 0, 36, .inl (fun _ => 0))), (q4, .inl (cA 0, 6, .inl (fun _ => 0))), (q5, .inl (cA 0, 6, .inl (fun _ => 0))), (q6, .inl (cA 0, 6, .inl (fun _ => 0))), (q7, .inl (cA 0, 6, .inl (fun _ => 0))), (q8, .inl (cA 0, 2, .inl (upd (upd (fun _ => 0) 0 20) 1 3)))]) := hD
  refine W.widen (k := 8) (n := 74) (Nat.le_of_ble_eq_true rfl) (Nat.le_of_ble_eq_true rfl) ?_
  exact W.vret hx hb hr (fun t ht hW => ⟨⟨zad [a0, q1, q2, q3, q4, q5, q6, q7, q8], rfl, rfl, (by rw [ht]; exact hP), hD⟩, hS.F ht⟩) hS.2.2 dX0_init_76
theorem zy_X1_init : yX1_init.cls = RX1 ∧ yX1_init.cls ≠ "java/lang/invoke/MethodHandle" ∧ yX1_init.cls ≠ "java/lang/invoke/VarHandle" ∧ (parseMethodDescriptor yX1_init.desc).map (fun d => d.parameters.length) = some 0 := by decide +kernel
set_option maxHeartbeats 4000000 in
set_option maxRecDepth 100000 in
theorem zi_X1_init (l : Launch) (D : va_G) (cA : Nat → ClassId) (a0 sz : Nat) : Met l yX1_init wsX1_init ({ frames := 1, cells := 0, slots := 0, locals := 12 }) (zPn D cA [.ref a0] [(a0, .inr (1, [.int 0, .int 0, .int 0, .int 0, .int 0, .int 0]))] sz) (va_Qv (fun u : Nat → Nat => u 0 = a0) (fun u t => va_P D vwCl (rdW (u 0) (fun _ => 0)) t.heap ∧ va_D (va_A [(a0, .inr (1, [.int 0, .int 0, .int 0, .int 0, .int 0, .int 0]))] sz) (rdW (u 0) (fun _ => 0))) (va_A [(a0, .inr (1, [.int 0, .int 0, .int 0, .int 0, .int 0, .int 0]))] sz)) 0 0 (va_A [(a0, .inr (1, [.int 0, .int 0, .int 0, .int 0, .int 0, .int 0]))] sz) := by
  refine Met.ofW (cc := cX1_init) (maxL := 1) (ret := none) (by decide) rfl ?_
  intro p e s m args below meth c s₁ Bd hml hv
  obtain ⟨rfl, hsz, hP, hK, hD0⟩ := hv
  have hx := Bd.exec
  have hb := Bd.bytes
  have hr := Bd.returns
  have hts := atoms_spec (ws := wsX1_init) Bd.pre
  have hown : s.vm.findClass RX1 = some m.cls := findClass_of_methodNamed Bd.named
  have hlocks := Bd.notSynchronized
  have hin : meth.name = "<init>" := (name_of_methodNamed Bd.named Bd.method).1
  subst hsz
  have hD := hD0.self (sz := s.heap.size)
  generalize hAe : va_A [(a0, .inr (1, [.int 0, .int 0, .int 0, .int 0, .int 0, .int 0]))] s.heap.size = A at hD ⊢
  have hA : ∀ q : Nat, s.heap.size ≤ q → A q := fun q h => by rw [← hAe]; exact Or.inr h
  have hS : va_S A s.heap s.heap [] := va_S.rf
  have hl := lv_entry ([.ref a0]) (n := 1) (Nat.le_of_ble_eq_true rfl)
  rw [lg_entry_eq]
  generalize (lg_sl ([.ref a0]) ++ List.replicate (1 - (lg_sl ([.ref a0])).length) Slot.unset).toArray = ls at hl ⊢
  have hl : lv_has ls 1 [(0, .ref a0)] := hl
  refine lv_aload_n hx hb dX1_init_0 rfl (lv_at hl 0 rfl) ?_
  refine W.objInit hx hb hown (hts (.methodLink RX1 3 objectInit) (List.mem_of_getElem? (i := 1) rfl)) (hts (.instanceMethod objectInit) (List.mem_of_getElem? (i := 2) rfl)) (hts (.code objectInit ⟨#[0xb1]⟩ 1 none) (List.mem_of_getElem? (i := 3) rfl)) rfl (by rw [hml]; exact hl.1) rfl dX1_init_1 (Nat.le_of_ble_eq_true rfl) (Nat.le_of_ble_eq_true rfl) ?_
  refine W.eq (g2 := F0 m 4 ls []) rfl ?_
  refine W.widen (k := 0) (n := 0) (Nat.le_of_ble_eq_true rfl) (Nat.le_of_ble_eq_true rfl) ?_
  exact W.vret hx hb hr (fun t ht hW => ⟨⟨zad [a0], rfl, rfl, (by rw [ht]; exact hP), hD⟩, hS.F ht⟩) hS.2.2 dX1_init_4
theorem zy_X3_init : yX3_init.cls = RX3 ∧ yX3_init.cls ≠ "java/lang/invoke/MethodHandle" ∧ yX3_init.cls ≠ "java/lang/invoke/VarHandle" ∧ (parseMethodDescriptor yX3_init.desc).map (fun d => d.parameters.length) = some 0 := by decide +kernel
set_option maxHeartbeats 4000000 in
set_option maxRecDepth 100000 in
theorem zi_X3_init (l : Launch) (D : va_G) (cA : Nat → ClassId) (a0 sz : Nat) : Met l yX3_init wsX3_init ({ frames := 1, cells := 4, slots := 806, locals := 12 }) (zPn D cA [.ref a0] [(a0, .inr (3, [.int 0, .null, .int 0, .null, .null, .int 0, .int 0, .int 0, .int 0, .int 0, .int 0, .int 0, .null, .long 0]))] sz) (va_Qv (fun u : Nat → Nat => u 0 = a0) (fun u t => va_P D vwCl (moW cA u zM0 (fun _ => 0) 0) t.heap ∧ va_D (va_A [(a0, .inr (3, [.int 0, .null, .int 0, .null, .null, .int 0, .int 0, .int 0, .int 0, .int 0, .int 0, .int 0, .null, .long 0]))] sz) (moW cA u zM0 (fun _ => 0) 0)) (va_A [(a0, .inr (3, [.int 0, .null, .int 0, .null, .null, .int 0, .int 0, .int 0, .int 0, .int 0, .int 0, .int 0, .null, .long 0]))] sz)) 4 806 (va_A [(a0, .inr (3, [.int 0, .null, .int 0, .null, .null, .int 0, .int 0, .int 0, .int 0, .int 0, .int 0, .int 0, .null, .long 0]))] sz) := by
  refine Met.ofW (cc := cX3_init) (maxL := 1) (ret := none) (by decide) rfl ?_
  intro p e s m args below meth c s₁ Bd hml hv
  obtain ⟨rfl, hsz, hP, hK, hD0⟩ := hv
  have hx := Bd.exec
  have hb := Bd.bytes
  have hr := Bd.returns
  have hts := atoms_spec (ws := wsX3_init) Bd.pre
  have hown : s.vm.findClass RX3 = some m.cls := findClass_of_methodNamed Bd.named
  have hlocks := Bd.notSynchronized
  have hin : meth.name = "<init>" := (name_of_methodNamed Bd.named Bd.method).1
  subst hsz
  have hD := hD0.self (sz := s.heap.size)
  generalize hAe : va_A [(a0, .inr (3, [.int 0, .null, .int 0, .null, .null, .int 0, .int 0, .int 0, .int 0, .int 0, .int 0, .int 0, .null, .long 0]))] s.heap.size = A at hD ⊢
  have hA : ∀ q : Nat, s.heap.size ≤ q → A q := fun q h => by rw [← hAe]; exact Or.inr h
  have hS : va_S A s.heap s.heap [] := va_S.rf
  have hi3 : ∀ w ∈ wsX30, w ∈ wsX3_init := fun w h => List.mem_cons_of_mem _ (List.mem_append_right _ h)
  have hl := lv_entry ([.ref a0]) (n := 1) (Nat.le_of_ble_eq_true rfl)
  rw [lg_entry_eq]
  generalize (lg_sl ([.ref a0]) ++ List.replicate (1 - (lg_sl ([.ref a0])).length) Slot.unset).toArray = ls at hl ⊢
  have hl : lv_has ls 1 [(0, .ref a0)] := hl
  refine lv_aload_n hx hb dX3_init_0 rfl (lv_at hl 0 rfl) ?_
  refine W.objInit hx hb hown (hts (.methodLink RX3 1 objectInit) (List.mem_of_getElem? (i := 1) rfl)) (hts (.instanceMethod objectInit) (List.mem_of_getElem? (i := 2) rfl)) (hts (.code objectInit ⟨#[0xb1]⟩ 1 none) (List.mem_of_getElem? (i := 3) rfl)) rfl (by rw [hml]; exact hl.1) rfl dX3_init_1 (Nat.le_of_ble_eq_true rfl) (Nat.le_of_ble_eq_true rfl) ?_
  refine W.eq (g2 := F0 m 4 ls []) rfl ?_
  refine lv_aload_n hx hb dX3_init_4 rfl (lv_at hl 0 rfl) ?_
  refine lv_sipush (v := 738) hx hb dX3_init_5 (by decide) ?_
  refine z_newI (N' := 738) hx hb (hts (.arrayClass .int) (List.mem_of_getElem? (i := 4) rfl)) hK hP hD hS hA (by decide) (by decide) (by decide) (Nat.le_of_ble_eq_true rfl) (Nat.le_of_ble_eq_true rfl) dX3_init_8 (fun q1 H hP hD hS => ?_)
  have hP : va_P D vwCl ([(a0, .inr (3, [.int 0, .null, .int 0, .null, .null, .int 0, .int 0, .int 0, .int 0, .int 0, .int 0, .int 0, .null, .long 0])), (q1, .inl (cA 0, 738, .inl (fun _ => 0)))]) H := hP
  have hD : va_D A ([(a0, .inr (3, [.int 0, .null, .int 0, .null, .null, .int 0, .int 0, .int 0, .int 0, .int 0, .int 0, .int 0, .null, .long 0])), (q1, .inl (cA 0, 738, .inl (fun _ => 0)))]) := hD
  refine va_putF (D := D) (ci := 3) (v := .ref q1) (ty := .array .int) (C := RX3) (T := TX3) (N := 14) hx hb hts hi3 tyX3 tyX3_ok nmX3 hown hK hP hD hS 0 rfl rfl 1 (by decide) (hts (.fieldLink RX3 7 "PledgedLoansModel" "s" "[I") (List.mem_of_getElem? (i := 5) rfl)) (fun _ h9 => h9) rfl hin rfl (by decide +kernel) rfl rfl (Nat.le_of_ble_eq_true rfl) dX3_init_10 (fun H locs hP hD hS => ?_)
  have hP : va_P D vwCl ([(a0, .inr (3, [.int 0, .ref q1, .int 0, .null, .null, .int 0, .int 0, .int 0, .int 0, .int 0, .int 0, .int 0, .null, .long 0])), (q1, .inl (cA 0, 738, .inl (fun _ => 0)))]) H := hP
  have hD : va_D A ([(a0, .inr (3, [.int 0, .ref q1, .int 0, .null, .null, .int 0, .int 0, .int 0, .int 0, .int 0, .int 0, .int 0, .null, .long 0])), (q1, .inl (cA 0, 738, .inl (fun _ => 0)))]) := hD
  refine lv_aload_n hx hb dX3_init_13 rfl (lv_at hl 0 rfl) ?_
  refine lv_iconst (v := 2) hx hb dX3_init_14 (by decide) ?_
  refine z_newZ (N' := 2) hx hb (hts (.arrayClass .boolean) (List.mem_of_getElem? (i := 6) rfl)) hK hP hD hS hA (by decide) (by decide) (by decide) (Nat.le_of_ble_eq_true rfl) (Nat.le_of_ble_eq_true rfl) dX3_init_15 (fun q2 H hP hD hS => ?_)
  have hP : va_P D vwCl ([(a0, .inr (3, [.int 0, .ref q1, .int 0, .null, .null, .int 0, .int 0, .int 0, .int 0, .int 0, .int 0, .int 0, .null, .long 0])), (q1, .inl (cA 0, 738, .inl (fun _ => 0))), (q2, .inl (cA 1, 2, .inl (fun _ => 0)))]) H := hP
  have hD : va_D A ([(a0, .inr (3, [.int 0, .ref q1, .int 0, .null, .null, .int 0, .int 0, .int 0, .int 0, .int 0, .int 0, .int 0, .null, .long 0])), (q1, .inl (cA 0, 738, .inl (fun _ => 0))), (q2, .inl (cA 1, 2, .inl (fun _ => 0)))]) := hD
  refine va_putF (D := D) (ci := 3) (v := .ref q2) (ty := .array .boolean) (C := RX3) (T := TX3) (N := 14) hx hb hts hi3 tyX3 tyX3_ok nmX3 hown hK hP hD hS 0 rfl rfl 3 (by decide) (hts (.fieldLink RX3 13 "PledgedLoansModel" "isKept" "[Z") (List.mem_of_getElem? (i := 7) rfl)) (fun _ h9 => h9) rfl hin rfl (by decide +kernel) rfl rfl (Nat.le_of_ble_eq_true rfl) dX3_init_17 (fun H locs hP hD hS => ?_)
  have hP : va_P D vwCl ([(a0, .inr (3, [.int 0, .ref q1, .int 0, .ref q2, .null, .int 0, .int 0, .int 0, .int 0, .int 0, .int 0, .int 0, .null, .long 0])), (q1, .inl (cA 0, 738, .inl (fun _ => 0))), (q2, .inl (cA 1, 2, .inl (fun _ => 0)))]) H := hP
  have hD : va_D A ([(a0, .inr (3, [.int 0, .ref q1, .int 0, .ref q2, .null, .int 0, .int 0, .int 0, .int 0, .int 0, .int 0, .int 0, .null, .long 0])), (q1, .inl (cA 0, 738, .inl (fun _ => 0))), (q2, .inl (cA 1, 2, .inl (fun _ => 0)))]) := hD
  refine lv_aload_n hx hb dX3_init_20 rfl (lv_at hl 0 rfl) ?_
  refine lv_bipush (v := 60) hx hb dX3_init_21 (by decide) ?_
  refine z_newI (N' := 60) hx hb (hts (.arrayClass .int) (List.mem_of_getElem? (i := 4) rfl)) hK hP hD hS hA (by decide) (by decide) (by decide) (Nat.le_of_ble_eq_true rfl) (Nat.le_of_ble_eq_true rfl) dX3_init_23 (fun q3 H hP hD hS => ?_)
  have hP : va_P D vwCl ([(a0, .inr (3, [.int 0, .ref q1, .int 0, .ref q2, .null, .int 0, .int 0, .int 0, .int 0, .int 0, .int 0, .int 0, .null, .long 0])), (q1, .inl (cA 0, 738, .inl (fun _ => 0))), (q2, .inl (cA 1, 2, .inl (fun _ => 0))), (q3, .inl (cA 0, 60, .inl (fun _ => 0)))]) H := hP
  have hD : va_D A ([(a0, .inr (3, [.int 0, .ref q1, .int 0, .ref q2, .null, .int 0, .int 0, .int 0, .int 0, .int 0, .int 0, .int 0, .null, .long 0])), (q1, .inl (cA 0, 738, .inl (fun _ => 0))), (q2, .inl (cA 1, 2, .inl (fun _ => 0))), (q3, .inl (cA 0, 60, .inl (fun _ => 0)))]) := hD
  refine va_putF (D := D) (ci := 3) (v := .ref q3) (ty := .array .int) (C := RX3) (T := TX3) (N := 14) hx hb hts hi3 tyX3 tyX3_ok nmX3 hown hK hP hD hS 0 rfl rfl 4 (by decide) (hts (.fieldLink RX3 17 "PledgedLoansModel" "text" "[I") (List.mem_of_getElem? (i := 8) rfl)) (fun _ h9 => h9) rfl hin rfl (by decide +kernel) rfl rfl (Nat.le_of_ble_eq_true rfl) dX3_init_25 (fun H locs hP hD hS => ?_)
  have hP : va_P D vwCl ([(a0, .inr (3, [.int 0, .ref q1, .int 0, .ref q2, .ref q3, .int 0, .int 0, .int 0, .int 0, .int 0, .int 0, .int 0, .null, .long 0])), (q1, .inl (cA 0, 738, .inl (fun _ => 0))), (q2, .inl (cA 1, 2, .inl (fun _ => 0))), (q3, .inl (cA 0, 60, .inl (fun _ => 0)))]) H := hP
  have hD : va_D A ([(a0, .inr (3, [.int 0, .ref q1, .int 0, .ref q2, .ref q3, .int 0, .int 0, .int 0, .int 0, .int 0, .int 0, .int 0, .null, .long 0])), (q1, .inl (cA 0, 738, .inl (fun _ => 0))), (q2, .inl (cA 1, 2, .inl (fun _ => 0))), (q3, .inl (cA 0, 60, .inl (fun _ => 0)))]) := hD
  refine lv_aload_n hx hb dX3_init_28 rfl (lv_at hl 0 rfl) ?_
  refine lv_bipush (v := 6) hx hb dX3_init_29 (by decide) ?_
  refine z_newI (N' := 6) hx hb (hts (.arrayClass .int) (List.mem_of_getElem? (i := 4) rfl)) hK hP hD hS hA (by decide) (by decide) (by decide) (Nat.le_of_ble_eq_true rfl) (Nat.le_of_ble_eq_true rfl) dX3_init_31 (fun q4 H hP hD hS => ?_)
  have hP : va_P D vwCl ([(a0, .inr (3, [.int 0, .ref q1, .int 0, .ref q2, .ref q3, .int 0, .int 0, .int 0, .int 0, .int 0, .int 0, .int 0, .null, .long 0])), (q1, .inl (cA 0, 738, .inl (fun _ => 0))), (q2, .inl (cA 1, 2, .inl (fun _ => 0))), (q3, .inl (cA 0, 60, .inl (fun _ => 0))), (q4, .inl (cA 0, 6, .inl (fun _ => 0)))]) H := hP
  have hD : va_D A ([(a0, .inr (3, [.int 0, .ref q1, .int 0, .ref q2, .ref q3, .int 0, .int 0, .int 0, .int 0, .int 0, .int 0, .int 0, .null, .long 0])), (q1, .inl (cA 0, 738, .inl (fun _ => 0))), (q2, .inl (cA 1, 2, .inl (fun _ => 0))), (q3, .inl (cA 0, 60, .inl (fun _ => 0))), (q4, .inl (cA 0, 6, .inl (fun _ => 0)))]) := hD
  refine va_putF (D := D) (ci := 3) (v := .ref q4) (ty := .array .int) (C := RX3) (T := TX3) (N := 14) hx hb hts hi3 tyX3 tyX3_ok nmX3 hown hK hP hD hS 0 rfl rfl 12 (by decide) (hts (.fieldLink RX3 20 "PledgedLoansModel" "frees" "[I") (List.mem_of_getElem? (i := 9) rfl)) (fun _ h9 => h9) rfl hin rfl (by decide +kernel) rfl rfl (Nat.le_of_ble_eq_true rfl) dX3_init_33 (fun H locs hP hD hS => ?_)
  have hP : va_P D vwCl ([(a0, .inr (3, [.int 0, .ref q1, .int 0, .ref q2, .ref q3, .int 0, .int 0, .int 0, .int 0, .int 0, .int 0, .int 0, .ref q4, .long 0])), (q1, .inl (cA 0, 738, .inl (fun _ => 0))), (q2, .inl (cA 1, 2, .inl (fun _ => 0))), (q3, .inl (cA 0, 60, .inl (fun _ => 0))), (q4, .inl (cA 0, 6, .inl (fun _ => 0)))]) H := hP
  have hD : va_D A ([(a0, .inr (3, [.int 0, .ref q1, .int 0, .ref q2, .ref q3, .int 0, .int 0, .int 0, .int 0, .int 0, .int 0, .int 0, .ref q4, .long 0])), (q1, .inl (cA 0, 738, .inl (fun _ => 0))), (q2, .inl (cA 1, 2, .inl (fun _ => 0))), (q3, .inl (cA 0, 60, .inl (fun _ => 0))), (q4, .inl (cA 0, 6, .inl (fun _ => 0)))]) := hD
  refine lv_aload_n hx hb dX3_init_36 rfl (lv_at hl 0 rfl) ?_
  refine va_get (D := D) (ci := 3) (v := .ref q1) (C := RX3) (T := TX3) (N := 14) hx hb hts hi3 hown hK hP 0 rfl rfl 1 (by decide) (hts (.fieldLink RX3 7 "PledgedLoansModel" "s" "[I") (List.mem_of_getElem? (i := 5) rfl)) (fun _ h9 => h9) rfl dX3_init_37 ?_
  refine lv_bipush (v := 8) hx hb dX3_init_40 (by decide) ?_
  refine lv_bipush (v := 20) hx hb dX3_init_42 (by decide) ?_
  refine z_iast (j := 8) hx hb hK hP hD hS 1 0 rfl rfl dX3_init_44 (by omega) (by decide) ([(a0, .inr (3, [.int 0, .ref q1, .int 0, .ref q2, .ref q3, .int 0, .int 0, .int 0, .int 0, .int 0, .int 0, .int 0, .ref q4, .long 0])), (q1, .inl (cA 0, 738, .inl (upd (fun _ => 0) 8 20))), (q2, .inl (cA 1, 2, .inl (fun _ => 0))), (q3, .inl (cA 0, 60, .inl (fun _ => 0))), (q4, .inl (cA 0, 6, .inl (fun _ => 0)))]) rfl (fun H locs hP hD hS => ?_)
  have hP : va_P D vwCl ([(a0, .inr (3, [.int 0, .ref q1, .int 0, .ref q2, .ref q3, .int 0, .int 0, .int 0, .int 0, .int 0, .int 0, .int 0, .ref q4, .long 0])), (q1, .inl (cA 0, 738, .inl (upd (fun _ => 0) 8 20))), (q2, .inl (cA 1, 2, .inl (fun _ => 0))), (q3, .inl (cA 0, 60, .inl (fun _ => 0))), (q4, .inl (cA 0, 6, .inl (fun _ => 0)))]) H := hP
  have hD : va_D A ([(a0, .inr (3, [.int 0, .ref q1, .int 0, .ref q2, .ref q3, .int 0, .int 0, .int 0, .int 0, .int 0, .int 0, .int 0, .ref q4, .long 0])), (q1, .inl (cA 0, 738, .inl (upd (fun _ => 0) 8 20))), (q2, .inl (cA 1, 2, .inl (fun _ => 0))), (q3, .inl (cA 0, 60, .inl (fun _ => 0))), (q4, .inl (cA 0, 6, .inl (fun _ => 0)))]) := hD
  refine lv_aload_n hx hb dX3_init_45 rfl (lv_at hl 0 rfl) ?_
  refine va_get (D := D) (ci := 3) (v := .ref q1) (C := RX3) (T := TX3) (N := 14) hx hb hts hi3 hown hK hP 0 rfl rfl 1 (by decide) (hts (.fieldLink RX3 7 "PledgedLoansModel" "s" "[I") (List.mem_of_getElem? (i := 5) rfl)) (fun _ h9 => h9) rfl dX3_init_46 ?_
  refine lv_bipush (v := 9) hx hb dX3_init_49 (by decide) ?_
  refine lv_iconst (v := 3) hx hb dX3_init_51 (by decide) ?_
  refine z_iast (j := 9) hx hb hK hP hD hS 1 0 rfl rfl dX3_init_52 (by omega) (by decide) ([(a0, .inr (3, [.int 0, .ref q1, .int 0, .ref q2, .ref q3, .int 0, .int 0, .int 0, .int 0, .int 0, .int 0, .int 0, .ref q4, .long 0])), (q1, .inl (cA 0, 738, .inl (upd (upd (fun _ => 0) 8 20) 9 3))), (q2, .inl (cA 1, 2, .inl (fun _ => 0))), (q3, .inl (cA 0, 60, .inl (fun _ => 0))), (q4, .inl (cA 0, 6, .inl (fun _ => 0)))]) rfl (fun H locs hP hD hS => ?_)
  have hP : va_P D vwCl ([(a0, .inr (3, [.int 0, .ref q1, .int 0, .ref q2, .ref q3, .int 0, .int 0, .int 0, .int 0, .int 0, .int 0, .int 0, .ref q4, .long 0])), (q1, .inl (cA 0, 738, .inl (upd (upd (fun _ => 0) 8 20) 9 3))), (q2, .inl (cA 1, 2, .inl (fun _ => 0))), (q3, .inl (cA 0, 60, .inl (fun _ => 0))), (q4, .inl (cA 0, 6, .inl (fun _ => 0)))]) H := hP
  have hD : va_D A ([(a0, .inr (3, [.int 0, .ref q1, .int 0, .ref q2, .ref q3, .int 0, .int 0, .int 0, .int 0, .int 0, .int 0, .int 0, .ref q4, .long 0])), (q1, .inl (cA 0, 738, .inl (upd (upd (fun _ => 0) 8 20) 9 3))), (q2, .inl (cA 1, 2, .inl (fun _ => 0))), (q3, .inl (cA 0, 60, .inl (fun _ => 0))), (q4, .inl (cA 0, 6, .inl (fun _ => 0)))]) := hD
  refine W.widen (k := 4) (n := 806) (Nat.le_of_ble_eq_true rfl) (Nat.le_of_ble_eq_true rfl) ?_
  exact W.vret hx hb hr (fun t ht hW => ⟨⟨zad [a0, q1, q2, q3, q4], rfl, rfl, (by rw [ht]; exact hP), hD⟩, hS.F ht⟩) hS.2.2 dX3_init_53
