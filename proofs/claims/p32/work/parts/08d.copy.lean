theorem zy_X0_copyRow : yX0_copyRow.cls = RX0 ∧ yX0_copyRow.cls ≠ "java/lang/invoke/MethodHandle" ∧ yX0_copyRow.cls ≠ "java/lang/invoke/VarHandle" ∧ (parseMethodDescriptor yX0_copyRow.desc).map (fun d => d.parameters.length) = some 2 := by decide +kernel
theorem zy_X0_copyFrom : yX0_copyFrom.cls = RX0 ∧ yX0_copyFrom.cls ≠ "java/lang/invoke/MethodHandle" ∧ yX0_copyFrom.cls ≠ "java/lang/invoke/VarHandle" ∧ (parseMethodDescriptor yX0_copyFrom.desc).map (fun d => d.parameters.length) = some 1 := by decide +kernel
def f_X0_copyFrom (B : BK) (B2 : BK) : BK := B2

set_option maxHeartbeats 4000000 in
set_option maxRecDepth 100000 in
theorem zc_X0_copyFrom (l : Launch) (D : va_G) (cA : Nat → ClassId) (a : Nat → Nat) (B : BK) (a2 : Nat → Nat) (B2 : BK)  : Met l yX0_copyFrom wsX0_copyFrom (zrm 2 61) (zPc D cA [.ref (a 0), .ref (a2 0)] (bkW (cA 0) a B ++ (bkW (cA 0) a2 B2))) (zM D (bkW (cA 0) a B ++ (bkW (cA 0) a2 B2)) (bkW (cA 0) a (f_X0_copyFrom B B2) ++ (bkW (cA 0) a2 B2)) none) 0 0 (zfr (bkW (cA 0) a B ++ (bkW (cA 0) a2 B2))) := by
  refine Met.ofW (cc := cX0_copyFrom) (maxL := 2) (ret := none) (by decide) rfl ?_
  intro p e s m args below meth c s₁ Bd hml hv
  obtain ⟨rfl, hP, hK, hD0⟩ := hv
  have hx := Bd.exec
  have hb := Bd.bytes
  have hr := Bd.returns
  have hts := atoms_spec (ws := wsX0_copyFrom) Bd.pre
  have hown : s.vm.findClass RX0 = some m.cls := findClass_of_methodNamed Bd.named
  have hlocks := Bd.notSynchronized
  have hD := z_Dfr hD0
  have hS : va_S (zfr (bkW (cA 0) a B ++ (bkW (cA 0) a2 B2))) s.heap s.heap [] := va_S.rf
  have hi0 : ∀ w ∈ wsX00, w ∈ wsX0_copyFrom := fun w h => List.mem_cons_of_mem _ (List.mem_append_right _ h)
  have hl := lv_entry ([.ref (a 0), .ref (a2 0)]) (n := 2) (Nat.le_of_ble_eq_true rfl)
  rw [lg_entry_eq]
  generalize (lg_sl ([.ref (a 0), .ref (a2 0)]) ++ List.replicate (2 - (lg_sl ([.ref (a 0), .ref (a2 0)])).length) Slot.unset).toArray = ls at hl ⊢
  have hl : lv_has ls 2 [(0, .ref (a 0)), (1, .ref (a2 0))] := hl
  refine lv_aload_n hx hb dX0_copyFrom_0 rfl (lv_at hl 1 rfl) ?_
  refine va_get (D := D) (ci := 0) (v := .ref (a2 1)) (C := RX0) (T := TX0) (N := 16) hx hb hts hi0 hown hK hP 9 rfl rfl 0 (by decide) (hts (.fieldLink RX0 9 "PledgedLoans$Books" "shares" "[I") (List.mem_of_getElem? (i := 1) rfl)) (fun _ h9 => h9) rfl dX0_copyFrom_1 ?_
  refine lv_aload_n hx hb dX0_copyFrom_4 rfl (lv_at hl 0 rfl) ?_
  refine va_get (D := D) (ci := 0) (v := .ref (a 1)) (C := RX0) (T := TX0) (N := 16) hx hb hts hi0 hown hK hP 0 rfl rfl 0 (by decide) (hts (.fieldLink RX0 9 "PledgedLoans$Books" "shares" "[I") (List.mem_of_getElem? (i := 1) rfl)) (fun _ h9 => h9) rfl dX0_copyFrom_5 ?_
  refine z_M (X := ([] : va_W)) (Z := zpick (bkW (cA 0) a B ++ (bkW (cA 0) a2 B2)) [0, 2, 3, 4, 5, 6, 7, 8, 9, 11, 12, 13, 14, 15, 16, 17]) (va_runS (As := [.ref (a2 1), .ref (a 1)]) (rest := []) ⟨hx, hb, hml, hown, hts⟩ (zc_X0_copyRow l D cA (a2 1) (a 1) 6 (B2 0) (B 0) (by decide)) (va_cwS 2 hts gX0_copyFrom_X0_copyRow rfl rfl rfl zy_X0_copyRow.2 ⟨Nat.le_of_ble_eq_true rfl, Nat.le_of_ble_eq_true rfl⟩) (z_preS hK (hP.sub (ws' := [(a2 1, .inl (cA 0, 6, .inl (B2 0))), (a 1, .inl (cA 0, 6, .inl (B 0)))]) [10, 1] rfl) (hD.sub (ws' := [(a2 1, .inl (cA 0, 6, .inl (B2 0))), (a 1, .inl (cA 0, 6, .inl (B 0)))]) [10, 1] (by decide) rfl)) rfl rfl hl.1 rfl (lv_room (Nat.le_of_ble_eq_true rfl)) dX0_copyFrom_8 ⟨Nat.zero_le _, Nat.zero_le _⟩) (hP.sub (ws' := ([] : va_W) ++ ([(a2 1, .inl (cA 0, 6, .inl (B2 0))), (a 1, .inl (cA 0, 6, .inl (B 0)))] ++ zpick (bkW (cA 0) a B ++ (bkW (cA 0) a2 B2)) [0, 2, 3, 4, 5, 6, 7, 8, 9, 11, 12, 13, 14, 15, 16, 17])) [10, 1, 0, 2, 3, 4, 5, 6, 7, 8, 9, 11, 12, 13, 14, 15, 16, 17] rfl) (hD.sub (ws' := ([] : va_W) ++ ([(a2 1, .inl (cA 0, 6, .inl (B2 0))), (a 1, .inl (cA 0, 6, .inl (B 0)))] ++ zpick (bkW (cA 0) a B ++ (bkW (cA 0) a2 B2)) [0, 2, 3, 4, 5, 6, 7, 8, 9, 11, 12, 13, 14, 15, 16, 17])) [10, 1, 0, 2, 3, 4, 5, 6, 7, 8, 9, 11, 12, 13, 14, 15, 16, 17] (by decide) rfl) hS rfl rfl (fun H locs hP9 hD9 hS9 => ?_)
  replace hP : va_P D vwCl (bkW (cA 0) a (uR B 0 (B2 0)) ++ (bkW (cA 0) a2 B2)) H := hP9.sub [2, 1, 3, 4, 5, 6, 7, 8, 9, 10, 0, 11, 12, 13, 14, 15, 16, 17] rfl
  replace hD : va_D _ (bkW (cA 0) a (uR B 0 (B2 0)) ++ (bkW (cA 0) a2 B2)) := hD9.sub [2, 1, 3, 4, 5, 6, 7, 8, 9, 10, 0, 11, 12, 13, 14, 15, 16, 17] (by decide) rfl
  replace hS := hS9
  clear hP9 hD9 hS9
  refine lv_aload_n hx hb dX0_copyFrom_11 rfl (lv_at hl 1 rfl) ?_
  refine va_get (D := D) (ci := 0) (v := .ref (a2 2)) (C := RX0) (T := TX0) (N := 16) hx hb hts hi0 hown hK hP 9 rfl rfl 1 (by decide) (hts (.fieldLink RX0 15 "PledgedLoans$Books" "shareDays" "[I") (List.mem_of_getElem? (i := 2) rfl)) (fun _ h9 => h9) rfl dX0_copyFrom_12 ?_
  refine lv_aload_n hx hb dX0_copyFrom_15 rfl (lv_at hl 0 rfl) ?_
  refine va_get (D := D) (ci := 0) (v := .ref (a 2)) (C := RX0) (T := TX0) (N := 16) hx hb hts hi0 hown hK hP 0 rfl rfl 1 (by decide) (hts (.fieldLink RX0 15 "PledgedLoans$Books" "shareDays" "[I") (List.mem_of_getElem? (i := 2) rfl)) (fun _ h9 => h9) rfl dX0_copyFrom_16 ?_
  refine z_M (X := ([] : va_W)) (Z := zpick (bkW (cA 0) a (uR B 0 (B2 0)) ++ (bkW (cA 0) a2 B2)) [0, 1, 3, 4, 5, 6, 7, 8, 9, 10, 12, 13, 14, 15, 16, 17]) (va_runS (As := [.ref (a2 2), .ref (a 2)]) (rest := []) ⟨hx, hb, hml, hown, hts⟩ (zc_X0_copyRow l D cA (a2 2) (a 2) 6 (B2 1) ((uR B 0 (B2 0)) 1) (by decide)) (va_cwS 2 hts gX0_copyFrom_X0_copyRow rfl rfl rfl zy_X0_copyRow.2 ⟨Nat.le_of_ble_eq_true rfl, Nat.le_of_ble_eq_true rfl⟩) (z_preS hK (hP.sub (ws' := [(a2 2, .inl (cA 0, 6, .inl (B2 1))), (a 2, .inl (cA 0, 6, .inl ((uR B 0 (B2 0)) 1)))]) [11, 2] rfl) (hD.sub (ws' := [(a2 2, .inl (cA 0, 6, .inl (B2 1))), (a 2, .inl (cA 0, 6, .inl ((uR B 0 (B2 0)) 1)))]) [11, 2] (by decide) rfl)) rfl rfl hl.1 rfl (lv_room (Nat.le_of_ble_eq_true rfl)) dX0_copyFrom_19 ⟨Nat.zero_le _, Nat.zero_le _⟩) (hP.sub (ws' := ([] : va_W) ++ ([(a2 2, .inl (cA 0, 6, .inl (B2 1))), (a 2, .inl (cA 0, 6, .inl ((uR B 0 (B2 0)) 1)))] ++ zpick (bkW (cA 0) a (uR B 0 (B2 0)) ++ (bkW (cA 0) a2 B2)) [0, 1, 3, 4, 5, 6, 7, 8, 9, 10, 12, 13, 14, 15, 16, 17])) [11, 2, 0, 1, 3, 4, 5, 6, 7, 8, 9, 10, 12, 13, 14, 15, 16, 17] rfl) (hD.sub (ws' := ([] : va_W) ++ ([(a2 2, .inl (cA 0, 6, .inl (B2 1))), (a 2, .inl (cA 0, 6, .inl ((uR B 0 (B2 0)) 1)))] ++ zpick (bkW (cA 0) a (uR B 0 (B2 0)) ++ (bkW (cA 0) a2 B2)) [0, 1, 3, 4, 5, 6, 7, 8, 9, 10, 12, 13, 14, 15, 16, 17])) [11, 2, 0, 1, 3, 4, 5, 6, 7, 8, 9, 10, 12, 13, 14, 15, 16, 17] (by decide) rfl) hS rfl rfl (fun H locs hP9 hD9 hS9 => ?_)
  replace hP : va_P D vwCl (bkW (cA 0) a (uR (uR B 0 (B2 0)) 1 (B2 1)) ++ (bkW (cA 0) a2 B2)) H := hP9.sub [2, 3, 1, 4, 5, 6, 7, 8, 9, 10, 11, 0, 12, 13, 14, 15, 16, 17] rfl
  replace hD : va_D _ (bkW (cA 0) a (uR (uR B 0 (B2 0)) 1 (B2 1)) ++ (bkW (cA 0) a2 B2)) := hD9.sub [2, 3, 1, 4, 5, 6, 7, 8, 9, 10, 11, 0, 12, 13, 14, 15, 16, 17] (by decide) rfl
  replace hS := hS9
  clear hP9 hD9 hS9
  refine lv_aload_n hx hb dX0_copyFrom_22 rfl (lv_at hl 1 rfl) ?_
  refine va_get (D := D) (ci := 0) (v := .ref (a2 3)) (C := RX0) (T := TX0) (N := 16) hx hb hts hi0 hown hK hP 9 rfl rfl 2 (by decide) (hts (.fieldLink RX0 18 "PledgedLoans$Books" "pledges" "[I") (List.mem_of_getElem? (i := 3) rfl)) (fun _ h9 => h9) rfl dX0_copyFrom_23 ?_
  refine lv_aload_n hx hb dX0_copyFrom_26 rfl (lv_at hl 0 rfl) ?_
  refine va_get (D := D) (ci := 0) (v := .ref (a 3)) (C := RX0) (T := TX0) (N := 16) hx hb hts hi0 hown hK hP 0 rfl rfl 2 (by decide) (hts (.fieldLink RX0 18 "PledgedLoans$Books" "pledges" "[I") (List.mem_of_getElem? (i := 3) rfl)) (fun _ h9 => h9) rfl dX0_copyFrom_27 ?_
  refine z_M (X := ([] : va_W)) (Z := zpick (bkW (cA 0) a (uR (uR B 0 (B2 0)) 1 (B2 1)) ++ (bkW (cA 0) a2 B2)) [0, 1, 2, 4, 5, 6, 7, 8, 9, 10, 11, 13, 14, 15, 16, 17]) (va_runS (As := [.ref (a2 3), .ref (a 3)]) (rest := []) ⟨hx, hb, hml, hown, hts⟩ (zc_X0_copyRow l D cA (a2 3) (a 3) 36 (B2 2) ((uR (uR B 0 (B2 0)) 1 (B2 1)) 2) (by decide)) (va_cwS 2 hts gX0_copyFrom_X0_copyRow rfl rfl rfl zy_X0_copyRow.2 ⟨Nat.le_of_ble_eq_true rfl, Nat.le_of_ble_eq_true rfl⟩) (z_preS hK (hP.sub (ws' := [(a2 3, .inl (cA 0, 36, .inl (B2 2))), (a 3, .inl (cA 0, 36, .inl ((uR (uR B 0 (B2 0)) 1 (B2 1)) 2)))]) [12, 3] rfl) (hD.sub (ws' := [(a2 3, .inl (cA 0, 36, .inl (B2 2))), (a 3, .inl (cA 0, 36, .inl ((uR (uR B 0 (B2 0)) 1 (B2 1)) 2)))]) [12, 3] (by decide) rfl)) rfl rfl hl.1 rfl (lv_room (Nat.le_of_ble_eq_true rfl)) dX0_copyFrom_30 ⟨Nat.zero_le _, Nat.zero_le _⟩) (hP.sub (ws' := ([] : va_W) ++ ([(a2 3, .inl (cA 0, 36, .inl (B2 2))), (a 3, .inl (cA 0, 36, .inl ((uR (uR B 0 (B2 0)) 1 (B2 1)) 2)))] ++ zpick (bkW (cA 0) a (uR (uR B 0 (B2 0)) 1 (B2 1)) ++ (bkW (cA 0) a2 B2)) [0, 1, 2, 4, 5, 6, 7, 8, 9, 10, 11, 13, 14, 15, 16, 17])) [12, 3, 0, 1, 2, 4, 5, 6, 7, 8, 9, 10, 11, 13, 14, 15, 16, 17] rfl) (hD.sub (ws' := ([] : va_W) ++ ([(a2 3, .inl (cA 0, 36, .inl (B2 2))), (a 3, .inl (cA 0, 36, .inl ((uR (uR B 0 (B2 0)) 1 (B2 1)) 2)))] ++ zpick (bkW (cA 0) a (uR (uR B 0 (B2 0)) 1 (B2 1)) ++ (bkW (cA 0) a2 B2)) [0, 1, 2, 4, 5, 6, 7, 8, 9, 10, 11, 13, 14, 15, 16, 17])) [12, 3, 0, 1, 2, 4, 5, 6, 7, 8, 9, 10, 11, 13, 14, 15, 16, 17] (by decide) rfl) hS rfl rfl (fun H locs hP9 hD9 hS9 => ?_)
  replace hP : va_P D vwCl (bkW (cA 0) a (uR (uR (uR B 0 (B2 0)) 1 (B2 1)) 2 (B2 2)) ++ (bkW (cA 0) a2 B2)) H := hP9.sub [2, 3, 4, 1, 5, 6, 7, 8, 9, 10, 11, 12, 0, 13, 14, 15, 16, 17] rfl
  replace hD : va_D _ (bkW (cA 0) a (uR (uR (uR B 0 (B2 0)) 1 (B2 1)) 2 (B2 2)) ++ (bkW (cA 0) a2 B2)) := hD9.sub [2, 3, 4, 1, 5, 6, 7, 8, 9, 10, 11, 12, 0, 13, 14, 15, 16, 17] (by decide) rfl
  replace hS := hS9
  clear hP9 hD9 hS9
  refine lv_aload_n hx hb dX0_copyFrom_33 rfl (lv_at hl 1 rfl) ?_
  refine va_get (D := D) (ci := 0) (v := .ref (a2 4)) (C := RX0) (T := TX0) (N := 16) hx hb hts hi0 hown hK hP 9 rfl rfl 3 (by decide) (hts (.fieldLink RX0 21 "PledgedLoans$Books" "rest" "[I") (List.mem_of_getElem? (i := 4) rfl)) (fun _ h9 => h9) rfl dX0_copyFrom_34 ?_
  refine lv_aload_n hx hb dX0_copyFrom_37 rfl (lv_at hl 0 rfl) ?_
  refine va_get (D := D) (ci := 0) (v := .ref (a 4)) (C := RX0) (T := TX0) (N := 16) hx hb hts hi0 hown hK hP 0 rfl rfl 3 (by decide) (hts (.fieldLink RX0 21 "PledgedLoans$Books" "rest" "[I") (List.mem_of_getElem? (i := 4) rfl)) (fun _ h9 => h9) rfl dX0_copyFrom_38 ?_
  refine z_M (X := ([] : va_W)) (Z := zpick (bkW (cA 0) a (uR (uR (uR B 0 (B2 0)) 1 (B2 1)) 2 (B2 2)) ++ (bkW (cA 0) a2 B2)) [0, 1, 2, 3, 5, 6, 7, 8, 9, 10, 11, 12, 14, 15, 16, 17]) (va_runS (As := [.ref (a2 4), .ref (a 4)]) (rest := []) ⟨hx, hb, hml, hown, hts⟩ (zc_X0_copyRow l D cA (a2 4) (a 4) 6 (B2 3) ((uR (uR (uR B 0 (B2 0)) 1 (B2 1)) 2 (B2 2)) 3) (by decide)) (va_cwS 2 hts gX0_copyFrom_X0_copyRow rfl rfl rfl zy_X0_copyRow.2 ⟨Nat.le_of_ble_eq_true rfl, Nat.le_of_ble_eq_true rfl⟩) (z_preS hK (hP.sub (ws' := [(a2 4, .inl (cA 0, 6, .inl (B2 3))), (a 4, .inl (cA 0, 6, .inl ((uR (uR (uR B 0 (B2 0)) 1 (B2 1)) 2 (B2 2)) 3)))]) [13, 4] rfl) (hD.sub (ws' := [(a2 4, .inl (cA 0, 6, .inl (B2 3))), (a 4, .inl (cA 0, 6, .inl ((uR (uR (uR B 0 (B2 0)) 1 (B2 1)) 2 (B2 2)) 3)))]) [13, 4] (by decide) rfl)) rfl rfl hl.1 rfl (lv_room (Nat.le_of_ble_eq_true rfl)) dX0_copyFrom_41 ⟨Nat.zero_le _, Nat.zero_le _⟩) (hP.sub (ws' := ([] : va_W) ++ ([(a2 4, .inl (cA 0, 6, .inl (B2 3))), (a 4, .inl (cA 0, 6, .inl ((uR (uR (uR B 0 (B2 0)) 1 (B2 1)) 2 (B2 2)) 3)))] ++ zpick (bkW (cA 0) a (uR (uR (uR B 0 (B2 0)) 1 (B2 1)) 2 (B2 2)) ++ (bkW (cA 0) a2 B2)) [0, 1, 2, 3, 5, 6, 7, 8, 9, 10, 11, 12, 14, 15, 16, 17])) [13, 4, 0, 1, 2, 3, 5, 6, 7, 8, 9, 10, 11, 12, 14, 15, 16, 17] rfl) (hD.sub (ws' := ([] : va_W) ++ ([(a2 4, .inl (cA 0, 6, .inl (B2 3))), (a 4, .inl (cA 0, 6, .inl ((uR (uR (uR B 0 (B2 0)) 1 (B2 1)) 2 (B2 2)) 3)))] ++ zpick (bkW (cA 0) a (uR (uR (uR B 0 (B2 0)) 1 (B2 1)) 2 (B2 2)) ++ (bkW (cA 0) a2 B2)) [0, 1, 2, 3, 5, 6, 7, 8, 9, 10, 11, 12, 14, 15, 16, 17])) [13, 4, 0, 1, 2, 3, 5, 6, 7, 8, 9, 10, 11, 12, 14, 15, 16, 17] (by decide) rfl) hS rfl rfl (fun H locs hP9 hD9 hS9 => ?_)
  replace hP : va_P D vwCl (bkW (cA 0) a (uR (uR (uR (uR B 0 (B2 0)) 1 (B2 1)) 2 (B2 2)) 3 (B2 3)) ++ (bkW (cA 0) a2 B2)) H := hP9.sub [2, 3, 4, 5, 1, 6, 7, 8, 9, 10, 11, 12, 13, 0, 14, 15, 16, 17] rfl
  replace hD : va_D _ (bkW (cA 0) a (uR (uR (uR (uR B 0 (B2 0)) 1 (B2 1)) 2 (B2 2)) 3 (B2 3)) ++ (bkW (cA 0) a2 B2)) := hD9.sub [2, 3, 4, 5, 1, 6, 7, 8, 9, 10, 11, 12, 13, 0, 14, 15, 16, 17] (by decide) rfl
  replace hS := hS9
  clear hP9 hD9 hS9
  refine lv_aload_n hx hb dX0_copyFrom_44 rfl (lv_at hl 1 rfl) ?_
  refine va_get (D := D) (ci := 0) (v := .ref (a2 5)) (C := RX0) (T := TX0) (N := 16) hx hb hts hi0 hown hK hP 9 rfl rfl 4 (by decide) (hts (.fieldLink RX0 24 "PledgedLoans$Books" "part" "[I") (List.mem_of_getElem? (i := 5) rfl)) (fun _ h9 => h9) rfl dX0_copyFrom_45 ?_
  refine lv_aload_n hx hb dX0_copyFrom_48 rfl (lv_at hl 0 rfl) ?_
  refine va_get (D := D) (ci := 0) (v := .ref (a 5)) (C := RX0) (T := TX0) (N := 16) hx hb hts hi0 hown hK hP 0 rfl rfl 4 (by decide) (hts (.fieldLink RX0 24 "PledgedLoans$Books" "part" "[I") (List.mem_of_getElem? (i := 5) rfl)) (fun _ h9 => h9) rfl dX0_copyFrom_49 ?_
  refine z_M (X := ([] : va_W)) (Z := zpick (bkW (cA 0) a (uR (uR (uR (uR B 0 (B2 0)) 1 (B2 1)) 2 (B2 2)) 3 (B2 3)) ++ (bkW (cA 0) a2 B2)) [0, 1, 2, 3, 4, 6, 7, 8, 9, 10, 11, 12, 13, 15, 16, 17]) (va_runS (As := [.ref (a2 5), .ref (a 5)]) (rest := []) ⟨hx, hb, hml, hown, hts⟩ (zc_X0_copyRow l D cA (a2 5) (a 5) 6 (B2 4) ((uR (uR (uR (uR B 0 (B2 0)) 1 (B2 1)) 2 (B2 2)) 3 (B2 3)) 4) (by decide)) (va_cwS 2 hts gX0_copyFrom_X0_copyRow rfl rfl rfl zy_X0_copyRow.2 ⟨Nat.le_of_ble_eq_true rfl, Nat.le_of_ble_eq_true rfl⟩) (z_preS hK (hP.sub (ws' := [(a2 5, .inl (cA 0, 6, .inl (B2 4))), (a 5, .inl (cA 0, 6, .inl ((uR (uR (uR (uR B 0 (B2 0)) 1 (B2 1)) 2 (B2 2)) 3 (B2 3)) 4)))]) [14, 5] rfl) (hD.sub (ws' := [(a2 5, .inl (cA 0, 6, .inl (B2 4))), (a 5, .inl (cA 0, 6, .inl ((uR (uR (uR (uR B 0 (B2 0)) 1 (B2 1)) 2 (B2 2)) 3 (B2 3)) 4)))]) [14, 5] (by decide) rfl)) rfl rfl hl.1 rfl (lv_room (Nat.le_of_ble_eq_true rfl)) dX0_copyFrom_52 ⟨Nat.zero_le _, Nat.zero_le _⟩) (hP.sub (ws' := ([] : va_W) ++ ([(a2 5, .inl (cA 0, 6, .inl (B2 4))), (a 5, .inl (cA 0, 6, .inl ((uR (uR (uR (uR B 0 (B2 0)) 1 (B2 1)) 2 (B2 2)) 3 (B2 3)) 4)))] ++ zpick (bkW (cA 0) a (uR (uR (uR (uR B 0 (B2 0)) 1 (B2 1)) 2 (B2 2)) 3 (B2 3)) ++ (bkW (cA 0) a2 B2)) [0, 1, 2, 3, 4, 6, 7, 8, 9, 10, 11, 12, 13, 15, 16, 17])) [14, 5, 0, 1, 2, 3, 4, 6, 7, 8, 9, 10, 11, 12, 13, 15, 16, 17] rfl) (hD.sub (ws' := ([] : va_W) ++ ([(a2 5, .inl (cA 0, 6, .inl (B2 4))), (a 5, .inl (cA 0, 6, .inl ((uR (uR (uR (uR B 0 (B2 0)) 1 (B2 1)) 2 (B2 2)) 3 (B2 3)) 4)))] ++ zpick (bkW (cA 0) a (uR (uR (uR (uR B 0 (B2 0)) 1 (B2 1)) 2 (B2 2)) 3 (B2 3)) ++ (bkW (cA 0) a2 B2)) [0, 1, 2, 3, 4, 6, 7, 8, 9, 10, 11, 12, 13, 15, 16, 17])) [14, 5, 0, 1, 2, 3, 4, 6, 7, 8, 9, 10, 11, 12, 13, 15, 16, 17] (by decide) rfl) hS rfl rfl (fun H locs hP9 hD9 hS9 => ?_)
  replace hP : va_P D vwCl (bkW (cA 0) a (uR (uR (uR (uR (uR B 0 (B2 0)) 1 (B2 1)) 2 (B2 2)) 3 (B2 3)) 4 (B2 4)) ++ (bkW (cA 0) a2 B2)) H := hP9.sub [2, 3, 4, 5, 6, 1, 7, 8, 9, 10, 11, 12, 13, 14, 0, 15, 16, 17] rfl
  replace hD : va_D _ (bkW (cA 0) a (uR (uR (uR (uR (uR B 0 (B2 0)) 1 (B2 1)) 2 (B2 2)) 3 (B2 3)) 4 (B2 4)) ++ (bkW (cA 0) a2 B2)) := hD9.sub [2, 3, 4, 5, 6, 1, 7, 8, 9, 10, 11, 12, 13, 14, 0, 15, 16, 17] (by decide) rfl
  replace hS := hS9
  clear hP9 hD9 hS9
  refine lv_aload_n hx hb dX0_copyFrom_55 rfl (lv_at hl 1 rfl) ?_
  refine va_get (D := D) (ci := 0) (v := .ref (a2 6)) (C := RX0) (T := TX0) (N := 16) hx hb hts hi0 hown hK hP 9 rfl rfl 5 (by decide) (hts (.fieldLink RX0 27 "PledgedLoans$Books" "paid" "[I") (List.mem_of_getElem? (i := 6) rfl)) (fun _ h9 => h9) rfl dX0_copyFrom_56 ?_
  refine lv_aload_n hx hb dX0_copyFrom_59 rfl (lv_at hl 0 rfl) ?_
  refine va_get (D := D) (ci := 0) (v := .ref (a 6)) (C := RX0) (T := TX0) (N := 16) hx hb hts hi0 hown hK hP 0 rfl rfl 5 (by decide) (hts (.fieldLink RX0 27 "PledgedLoans$Books" "paid" "[I") (List.mem_of_getElem? (i := 6) rfl)) (fun _ h9 => h9) rfl dX0_copyFrom_60 ?_
  refine z_M (X := ([] : va_W)) (Z := zpick (bkW (cA 0) a (uR (uR (uR (uR (uR B 0 (B2 0)) 1 (B2 1)) 2 (B2 2)) 3 (B2 3)) 4 (B2 4)) ++ (bkW (cA 0) a2 B2)) [0, 1, 2, 3, 4, 5, 7, 8, 9, 10, 11, 12, 13, 14, 16, 17]) (va_runS (As := [.ref (a2 6), .ref (a 6)]) (rest := []) ⟨hx, hb, hml, hown, hts⟩ (zc_X0_copyRow l D cA (a2 6) (a 6) 6 (B2 5) ((uR (uR (uR (uR (uR B 0 (B2 0)) 1 (B2 1)) 2 (B2 2)) 3 (B2 3)) 4 (B2 4)) 5) (by decide)) (va_cwS 2 hts gX0_copyFrom_X0_copyRow rfl rfl rfl zy_X0_copyRow.2 ⟨Nat.le_of_ble_eq_true rfl, Nat.le_of_ble_eq_true rfl⟩) (z_preS hK (hP.sub (ws' := [(a2 6, .inl (cA 0, 6, .inl (B2 5))), (a 6, .inl (cA 0, 6, .inl ((uR (uR (uR (uR (uR B 0 (B2 0)) 1 (B2 1)) 2 (B2 2)) 3 (B2 3)) 4 (B2 4)) 5)))]) [15, 6] rfl) (hD.sub (ws' := [(a2 6, .inl (cA 0, 6, .inl (B2 5))), (a 6, .inl (cA 0, 6, .inl ((uR (uR (uR (uR (uR B 0 (B2 0)) 1 (B2 1)) 2 (B2 2)) 3 (B2 3)) 4 (B2 4)) 5)))]) [15, 6] (by decide) rfl)) rfl rfl hl.1 rfl (lv_room (Nat.le_of_ble_eq_true rfl)) dX0_copyFrom_63 ⟨Nat.zero_le _, Nat.zero_le _⟩) (hP.sub (ws' := ([] : va_W) ++ ([(a2 6, .inl (cA 0, 6, .inl (B2 5))), (a 6, .inl (cA 0, 6, .inl ((uR (uR (uR (uR (uR B 0 (B2 0)) 1 (B2 1)) 2 (B2 2)) 3 (B2 3)) 4 (B2 4)) 5)))] ++ zpick (bkW (cA 0) a (uR (uR (uR (uR (uR B 0 (B2 0)) 1 (B2 1)) 2 (B2 2)) 3 (B2 3)) 4 (B2 4)) ++ (bkW (cA 0) a2 B2)) [0, 1, 2, 3, 4, 5, 7, 8, 9, 10, 11, 12, 13, 14, 16, 17])) [15, 6, 0, 1, 2, 3, 4, 5, 7, 8, 9, 10, 11, 12, 13, 14, 16, 17] rfl) (hD.sub (ws' := ([] : va_W) ++ ([(a2 6, .inl (cA 0, 6, .inl (B2 5))), (a 6, .inl (cA 0, 6, .inl ((uR (uR (uR (uR (uR B 0 (B2 0)) 1 (B2 1)) 2 (B2 2)) 3 (B2 3)) 4 (B2 4)) 5)))] ++ zpick (bkW (cA 0) a (uR (uR (uR (uR (uR B 0 (B2 0)) 1 (B2 1)) 2 (B2 2)) 3 (B2 3)) 4 (B2 4)) ++ (bkW (cA 0) a2 B2)) [0, 1, 2, 3, 4, 5, 7, 8, 9, 10, 11, 12, 13, 14, 16, 17])) [15, 6, 0, 1, 2, 3, 4, 5, 7, 8, 9, 10, 11, 12, 13, 14, 16, 17] (by decide) rfl) hS rfl rfl (fun H locs hP9 hD9 hS9 => ?_)
  replace hP : va_P D vwCl (bkW (cA 0) a (uR (uR (uR (uR (uR (uR B 0 (B2 0)) 1 (B2 1)) 2 (B2 2)) 3 (B2 3)) 4 (B2 4)) 5 (B2 5)) ++ (bkW (cA 0) a2 B2)) H := hP9.sub [2, 3, 4, 5, 6, 7, 1, 8, 9, 10, 11, 12, 13, 14, 15, 0, 16, 17] rfl
  replace hD : va_D _ (bkW (cA 0) a (uR (uR (uR (uR (uR (uR B 0 (B2 0)) 1 (B2 1)) 2 (B2 2)) 3 (B2 3)) 4 (B2 4)) 5 (B2 5)) ++ (bkW (cA 0) a2 B2)) := hD9.sub [2, 3, 4, 5, 6, 7, 1, 8, 9, 10, 11, 12, 13, 14, 15, 0, 16, 17] (by decide) rfl
  replace hS := hS9
  clear hP9 hD9 hS9
  refine lv_aload_n hx hb dX0_copyFrom_66 rfl (lv_at hl 1 rfl) ?_
  refine va_get (D := D) (ci := 0) (v := .ref (a2 7)) (C := RX0) (T := TX0) (N := 16) hx hb hts hi0 hown hK hP 9 rfl rfl 6 (by decide) (hts (.fieldLink RX0 30 "PledgedLoans$Books" "misses" "[I") (List.mem_of_getElem? (i := 7) rfl)) (fun _ h9 => h9) rfl dX0_copyFrom_67 ?_
  refine lv_aload_n hx hb dX0_copyFrom_70 rfl (lv_at hl 0 rfl) ?_
  refine va_get (D := D) (ci := 0) (v := .ref (a 7)) (C := RX0) (T := TX0) (N := 16) hx hb hts hi0 hown hK hP 0 rfl rfl 6 (by decide) (hts (.fieldLink RX0 30 "PledgedLoans$Books" "misses" "[I") (List.mem_of_getElem? (i := 7) rfl)) (fun _ h9 => h9) rfl dX0_copyFrom_71 ?_
  refine z_M (X := ([] : va_W)) (Z := zpick (bkW (cA 0) a (uR (uR (uR (uR (uR (uR B 0 (B2 0)) 1 (B2 1)) 2 (B2 2)) 3 (B2 3)) 4 (B2 4)) 5 (B2 5)) ++ (bkW (cA 0) a2 B2)) [0, 1, 2, 3, 4, 5, 6, 8, 9, 10, 11, 12, 13, 14, 15, 17]) (va_runS (As := [.ref (a2 7), .ref (a 7)]) (rest := []) ⟨hx, hb, hml, hown, hts⟩ (zc_X0_copyRow l D cA (a2 7) (a 7) 6 (B2 6) ((uR (uR (uR (uR (uR (uR B 0 (B2 0)) 1 (B2 1)) 2 (B2 2)) 3 (B2 3)) 4 (B2 4)) 5 (B2 5)) 6) (by decide)) (va_cwS 2 hts gX0_copyFrom_X0_copyRow rfl rfl rfl zy_X0_copyRow.2 ⟨Nat.le_of_ble_eq_true rfl, Nat.le_of_ble_eq_true rfl⟩) (z_preS hK (hP.sub (ws' := [(a2 7, .inl (cA 0, 6, .inl (B2 6))), (a 7, .inl (cA 0, 6, .inl ((uR (uR (uR (uR (uR (uR B 0 (B2 0)) 1 (B2 1)) 2 (B2 2)) 3 (B2 3)) 4 (B2 4)) 5 (B2 5)) 6)))]) [16, 7] rfl) (hD.sub (ws' := [(a2 7, .inl (cA 0, 6, .inl (B2 6))), (a 7, .inl (cA 0, 6, .inl ((uR (uR (uR (uR (uR (uR B 0 (B2 0)) 1 (B2 1)) 2 (B2 2)) 3 (B2 3)) 4 (B2 4)) 5 (B2 5)) 6)))]) [16, 7] (by decide) rfl)) rfl rfl hl.1 rfl (lv_room (Nat.le_of_ble_eq_true rfl)) dX0_copyFrom_74 ⟨Nat.zero_le _, Nat.zero_le _⟩) (hP.sub (ws' := ([] : va_W) ++ ([(a2 7, .inl (cA 0, 6, .inl (B2 6))), (a 7, .inl (cA 0, 6, .inl ((uR (uR (uR (uR (uR (uR B 0 (B2 0)) 1 (B2 1)) 2 (B2 2)) 3 (B2 3)) 4 (B2 4)) 5 (B2 5)) 6)))] ++ zpick (bkW (cA 0) a (uR (uR (uR (uR (uR (uR B 0 (B2 0)) 1 (B2 1)) 2 (B2 2)) 3 (B2 3)) 4 (B2 4)) 5 (B2 5)) ++ (bkW (cA 0) a2 B2)) [0, 1, 2, 3, 4, 5, 6, 8, 9, 10, 11, 12, 13, 14, 15, 17])) [16, 7, 0, 1, 2, 3, 4, 5, 6, 8, 9, 10, 11, 12, 13, 14, 15, 17] rfl) (hD.sub (ws' := ([] : va_W) ++ ([(a2 7, .inl (cA 0, 6, .inl (B2 6))), (a 7, .inl (cA 0, 6, .inl ((uR (uR (uR (uR (uR (uR B 0 (B2 0)) 1 (B2 1)) 2 (B2 2)) 3 (B2 3)) 4 (B2 4)) 5 (B2 5)) 6)))] ++ zpick (bkW (cA 0) a (uR (uR (uR (uR (uR (uR B 0 (B2 0)) 1 (B2 1)) 2 (B2 2)) 3 (B2 3)) 4 (B2 4)) 5 (B2 5)) ++ (bkW (cA 0) a2 B2)) [0, 1, 2, 3, 4, 5, 6, 8, 9, 10, 11, 12, 13, 14, 15, 17])) [16, 7, 0, 1, 2, 3, 4, 5, 6, 8, 9, 10, 11, 12, 13, 14, 15, 17] (by decide) rfl) hS rfl rfl (fun H locs hP9 hD9 hS9 => ?_)
  replace hP : va_P D vwCl (bkW (cA 0) a (uR (uR (uR (uR (uR (uR (uR B 0 (B2 0)) 1 (B2 1)) 2 (B2 2)) 3 (B2 3)) 4 (B2 4)) 5 (B2 5)) 6 (B2 6)) ++ (bkW (cA 0) a2 B2)) H := hP9.sub [2, 3, 4, 5, 6, 7, 8, 1, 9, 10, 11, 12, 13, 14, 15, 16, 0, 17] rfl
  replace hD : va_D _ (bkW (cA 0) a (uR (uR (uR (uR (uR (uR (uR B 0 (B2 0)) 1 (B2 1)) 2 (B2 2)) 3 (B2 3)) 4 (B2 4)) 5 (B2 5)) 6 (B2 6)) ++ (bkW (cA 0) a2 B2)) := hD9.sub [2, 3, 4, 5, 6, 7, 8, 1, 9, 10, 11, 12, 13, 14, 15, 16, 0, 17] (by decide) rfl
  replace hS := hS9
  clear hP9 hD9 hS9
  refine lv_aload_n hx hb dX0_copyFrom_77 rfl (lv_at hl 1 rfl) ?_
  refine va_get (D := D) (ci := 0) (v := .ref (a2 8)) (C := RX0) (T := TX0) (N := 16) hx hb hts hi0 hown hK hP 9 rfl rfl 7 (by decide) (hts (.fieldLink RX0 33 "PledgedLoans$Books" "settings" "[I") (List.mem_of_getElem? (i := 8) rfl)) (fun _ h9 => h9) rfl dX0_copyFrom_78 ?_
  refine lv_aload_n hx hb dX0_copyFrom_81 rfl (lv_at hl 0 rfl) ?_
  refine va_get (D := D) (ci := 0) (v := .ref (a 8)) (C := RX0) (T := TX0) (N := 16) hx hb hts hi0 hown hK hP 0 rfl rfl 7 (by decide) (hts (.fieldLink RX0 33 "PledgedLoans$Books" "settings" "[I") (List.mem_of_getElem? (i := 8) rfl)) (fun _ h9 => h9) rfl dX0_copyFrom_82 ?_
  refine z_M (X := ([] : va_W)) (Z := zpick (bkW (cA 0) a (uR (uR (uR (uR (uR (uR (uR B 0 (B2 0)) 1 (B2 1)) 2 (B2 2)) 3 (B2 3)) 4 (B2 4)) 5 (B2 5)) 6 (B2 6)) ++ (bkW (cA 0) a2 B2)) [0, 1, 2, 3, 4, 5, 6, 7, 9, 10, 11, 12, 13, 14, 15, 16]) (va_runS (As := [.ref (a2 8), .ref (a 8)]) (rest := []) ⟨hx, hb, hml, hown, hts⟩ (zc_X0_copyRow l D cA (a2 8) (a 8) 2 (B2 7) ((uR (uR (uR (uR (uR (uR (uR B 0 (B2 0)) 1 (B2 1)) 2 (B2 2)) 3 (B2 3)) 4 (B2 4)) 5 (B2 5)) 6 (B2 6)) 7) (by decide)) (va_cwS 2 hts gX0_copyFrom_X0_copyRow rfl rfl rfl zy_X0_copyRow.2 ⟨Nat.le_of_ble_eq_true rfl, Nat.le_of_ble_eq_true rfl⟩) (z_preS hK (hP.sub (ws' := [(a2 8, .inl (cA 0, 2, .inl (B2 7))), (a 8, .inl (cA 0, 2, .inl ((uR (uR (uR (uR (uR (uR (uR B 0 (B2 0)) 1 (B2 1)) 2 (B2 2)) 3 (B2 3)) 4 (B2 4)) 5 (B2 5)) 6 (B2 6)) 7)))]) [17, 8] rfl) (hD.sub (ws' := [(a2 8, .inl (cA 0, 2, .inl (B2 7))), (a 8, .inl (cA 0, 2, .inl ((uR (uR (uR (uR (uR (uR (uR B 0 (B2 0)) 1 (B2 1)) 2 (B2 2)) 3 (B2 3)) 4 (B2 4)) 5 (B2 5)) 6 (B2 6)) 7)))]) [17, 8] (by decide) rfl)) rfl rfl hl.1 rfl (lv_room (Nat.le_of_ble_eq_true rfl)) dX0_copyFrom_85 ⟨Nat.zero_le _, Nat.zero_le _⟩) (hP.sub (ws' := ([] : va_W) ++ ([(a2 8, .inl (cA 0, 2, .inl (B2 7))), (a 8, .inl (cA 0, 2, .inl ((uR (uR (uR (uR (uR (uR (uR B 0 (B2 0)) 1 (B2 1)) 2 (B2 2)) 3 (B2 3)) 4 (B2 4)) 5 (B2 5)) 6 (B2 6)) 7)))] ++ zpick (bkW (cA 0) a (uR (uR (uR (uR (uR (uR (uR B 0 (B2 0)) 1 (B2 1)) 2 (B2 2)) 3 (B2 3)) 4 (B2 4)) 5 (B2 5)) 6 (B2 6)) ++ (bkW (cA 0) a2 B2)) [0, 1, 2, 3, 4, 5, 6, 7, 9, 10, 11, 12, 13, 14, 15, 16])) [17, 8, 0, 1, 2, 3, 4, 5, 6, 7, 9, 10, 11, 12, 13, 14, 15, 16] rfl) (hD.sub (ws' := ([] : va_W) ++ ([(a2 8, .inl (cA 0, 2, .inl (B2 7))), (a 8, .inl (cA 0, 2, .inl ((uR (uR (uR (uR (uR (uR (uR B 0 (B2 0)) 1 (B2 1)) 2 (B2 2)) 3 (B2 3)) 4 (B2 4)) 5 (B2 5)) 6 (B2 6)) 7)))] ++ zpick (bkW (cA 0) a (uR (uR (uR (uR (uR (uR (uR B 0 (B2 0)) 1 (B2 1)) 2 (B2 2)) 3 (B2 3)) 4 (B2 4)) 5 (B2 5)) 6 (B2 6)) ++ (bkW (cA 0) a2 B2)) [0, 1, 2, 3, 4, 5, 6, 7, 9, 10, 11, 12, 13, 14, 15, 16])) [17, 8, 0, 1, 2, 3, 4, 5, 6, 7, 9, 10, 11, 12, 13, 14, 15, 16] (by decide) rfl) hS rfl rfl (fun H locs hP9 hD9 hS9 => ?_)
  replace hP : va_P D vwCl (bkW (cA 0) a (uR (uR (uR (uR (uR (uR (uR (uR B 0 (B2 0)) 1 (B2 1)) 2 (B2 2)) 3 (B2 3)) 4 (B2 4)) 5 (B2 5)) 6 (B2 6)) 7 (B2 7)) ++ (bkW (cA 0) a2 B2)) H := hP9.sub [2, 3, 4, 5, 6, 7, 8, 9, 1, 10, 11, 12, 13, 14, 15, 16, 17, 0] rfl
  replace hD : va_D _ (bkW (cA 0) a (uR (uR (uR (uR (uR (uR (uR (uR B 0 (B2 0)) 1 (B2 1)) 2 (B2 2)) 3 (B2 3)) 4 (B2 4)) 5 (B2 5)) 6 (B2 6)) 7 (B2 7)) ++ (bkW (cA 0) a2 B2)) := hD9.sub [2, 3, 4, 5, 6, 7, 8, 9, 1, 10, 11, 12, 13, 14, 15, 16, 17, 0] (by decide) rfl
  replace hS := hS9
  clear hP9 hD9 hS9
  refine lv_aload_n hx hb dX0_copyFrom_88 rfl (lv_at hl 0 rfl) ?_
  refine lv_aload_n hx hb dX0_copyFrom_89 rfl (lv_at hl 1 rfl) ?_
  refine va_get (D := D) (ci := 0) (v := .int (B2 8 0)) (C := RX0) (T := TX0) (N := 16) hx hb hts hi0 hown hK hP 9 rfl rfl 8 (by decide) (hts (.fieldLink RX0 40 "PledgedLoans$Books" "till" "I") (List.mem_of_getElem? (i := 9) rfl)) (fun _ h9 => h9) rfl dX0_copyFrom_90 ?_
  refine va_put (D := D) (ci := 0) (v := .int (B2 8 0)) (ty := .int) (C := RX0) (T := TX0) (N := 16) hx hb hts hi0 tyX0 tyX0_ok nmX0 hown hK hP hD hS 0 rfl rfl 8 (by decide) (hts (.fieldLink RX0 40 "PledgedLoans$Books" "till" "I") (List.mem_of_getElem? (i := 9) rfl)) (fun _ h9 => h9) rfl (by decide +kernel) rfl rfl (Nat.le_of_ble_eq_true rfl) dX0_copyFrom_93 (fun H locs hP9 hD9 hS9 => ?_)
  replace hP : va_P D vwCl (bkW (cA 0) a (uB (uR (uR (uR (uR (uR (uR (uR (uR B 0 (B2 0)) 1 (B2 1)) 2 (B2 2)) 3 (B2 3)) 4 (B2 4)) 5 (B2 5)) 6 (B2 6)) 7 (B2 7)) 8 0 (B2 8 0)) ++ (bkW (cA 0) a2 B2)) H := hP9
  replace hD : va_D _ (bkW (cA 0) a (uB (uR (uR (uR (uR (uR (uR (uR (uR B 0 (B2 0)) 1 (B2 1)) 2 (B2 2)) 3 (B2 3)) 4 (B2 4)) 5 (B2 5)) 6 (B2 6)) 7 (B2 7)) 8 0 (B2 8 0)) ++ (bkW (cA 0) a2 B2)) := hD9
  replace hS := hS9
  clear hP9 hD9 hS9
  obtain ⟨M_1, eM_1⟩ : ∃ z9 : BK, z9 = uB (uR (uR (uR (uR (uR (uR (uR (uR B 0 (B2 0)) 1 (B2 1)) 2 (B2 2)) 3 (B2 3)) 4 (B2 4)) 5 (B2 5)) 6 (B2 6)) 7 (B2 7)) 8 0 (B2 8 0) := ⟨_, rfl⟩
  rw [← eM_1] at hP hD
  refine lv_aload_n hx hb dX0_copyFrom_96 rfl (lv_at hl 0 rfl) ?_
  refine lv_aload_n hx hb dX0_copyFrom_97 rfl (lv_at hl 1 rfl) ?_
  refine va_get (D := D) (ci := 0) (v := .int (B2 8 1)) (C := RX0) (T := TX0) (N := 16) hx hb hts hi0 hown hK hP 9 rfl rfl 9 (by decide) (hts (.fieldLink RX0 44 "PledgedLoans$Books" "surplus" "I") (List.mem_of_getElem? (i := 10) rfl)) (fun _ h9 => h9) rfl dX0_copyFrom_98 ?_
  refine va_put (D := D) (ci := 0) (v := .int (B2 8 1)) (ty := .int) (C := RX0) (T := TX0) (N := 16) hx hb hts hi0 tyX0 tyX0_ok nmX0 hown hK hP hD hS 0 rfl rfl 9 (by decide) (hts (.fieldLink RX0 44 "PledgedLoans$Books" "surplus" "I") (List.mem_of_getElem? (i := 10) rfl)) (fun _ h9 => h9) rfl (by decide +kernel) rfl rfl (Nat.le_of_ble_eq_true rfl) dX0_copyFrom_101 (fun H locs hP9 hD9 hS9 => ?_)
  replace hP : va_P D vwCl (bkW (cA 0) a (uB M_1 8 1 (B2 8 1)) ++ (bkW (cA 0) a2 B2)) H := hP9
  replace hD : va_D _ (bkW (cA 0) a (uB M_1 8 1 (B2 8 1)) ++ (bkW (cA 0) a2 B2)) := hD9
  replace hS := hS9
  clear hP9 hD9 hS9
  refine lv_aload_n hx hb dX0_copyFrom_104 rfl (lv_at hl 0 rfl) ?_
  refine lv_aload_n hx hb dX0_copyFrom_105 rfl (lv_at hl 1 rfl) ?_
  refine va_get (D := D) (ci := 0) (v := .int (B2 8 2)) (C := RX0) (T := TX0) (N := 16) hx hb hts hi0 hown hK hP 9 rfl rfl 10 (by decide) (hts (.fieldLink RX0 47 "PledgedLoans$Books" "loansGiven" "I") (List.mem_of_getElem? (i := 11) rfl)) (fun _ h9 => h9) rfl dX0_copyFrom_106 ?_
  refine va_put (D := D) (ci := 0) (v := .int (B2 8 2)) (ty := .int) (C := RX0) (T := TX0) (N := 16) hx hb hts hi0 tyX0 tyX0_ok nmX0 hown hK hP hD hS 0 rfl rfl 10 (by decide) (hts (.fieldLink RX0 47 "PledgedLoans$Books" "loansGiven" "I") (List.mem_of_getElem? (i := 11) rfl)) (fun _ h9 => h9) rfl (by decide +kernel) rfl rfl (Nat.le_of_ble_eq_true rfl) dX0_copyFrom_109 (fun H locs hP9 hD9 hS9 => ?_)
  replace hP : va_P D vwCl (bkW (cA 0) a (uB (uB M_1 8 1 (B2 8 1)) 8 2 (B2 8 2)) ++ (bkW (cA 0) a2 B2)) H := hP9
  replace hD : va_D _ (bkW (cA 0) a (uB (uB M_1 8 1 (B2 8 1)) 8 2 (B2 8 2)) ++ (bkW (cA 0) a2 B2)) := hD9
  replace hS := hS9
  clear hP9 hD9 hS9
  refine lv_aload_n hx hb dX0_copyFrom_112 rfl (lv_at hl 0 rfl) ?_
  refine lv_aload_n hx hb dX0_copyFrom_113 rfl (lv_at hl 1 rfl) ?_
  refine va_get (D := D) (ci := 0) (v := .int (B2 8 3)) (C := RX0) (T := TX0) (N := 16) hx hb hts hi0 hown hK hP 9 rfl rfl 11 (by decide) (hts (.fieldLink RX0 50 "PledgedLoans$Books" "loansFallenDue" "I") (List.mem_of_getElem? (i := 12) rfl)) (fun _ h9 => h9) rfl dX0_copyFrom_114 ?_
  refine va_put (D := D) (ci := 0) (v := .int (B2 8 3)) (ty := .int) (C := RX0) (T := TX0) (N := 16) hx hb hts hi0 tyX0 tyX0_ok nmX0 hown hK hP hD hS 0 rfl rfl 11 (by decide) (hts (.fieldLink RX0 50 "PledgedLoans$Books" "loansFallenDue" "I") (List.mem_of_getElem? (i := 12) rfl)) (fun _ h9 => h9) rfl (by decide +kernel) rfl rfl (Nat.le_of_ble_eq_true rfl) dX0_copyFrom_117 (fun H locs hP9 hD9 hS9 => ?_)
  replace hP : va_P D vwCl (bkW (cA 0) a (uB (uB (uB M_1 8 1 (B2 8 1)) 8 2 (B2 8 2)) 8 3 (B2 8 3)) ++ (bkW (cA 0) a2 B2)) H := hP9
  replace hD : va_D _ (bkW (cA 0) a (uB (uB (uB M_1 8 1 (B2 8 1)) 8 2 (B2 8 2)) 8 3 (B2 8 3)) ++ (bkW (cA 0) a2 B2)) := hD9
  replace hS := hS9
  clear hP9 hD9 hS9
  obtain ⟨M_2, eM_2⟩ : ∃ z9 : BK, z9 = uB (uB (uB M_1 8 1 (B2 8 1)) 8 2 (B2 8 2)) 8 3 (B2 8 3) := ⟨_, rfl⟩
  rw [← eM_2] at hP hD
  refine lv_aload_n hx hb dX0_copyFrom_120 rfl (lv_at hl 0 rfl) ?_
  refine lv_aload_n hx hb dX0_copyFrom_121 rfl (lv_at hl 1 rfl) ?_
  refine va_get (D := D) (ci := 0) (v := .int (B2 8 4)) (C := RX0) (T := TX0) (N := 16) hx hb hts hi0 hown hK hP 9 rfl rfl 12 (by decide) (hts (.fieldLink RX0 53 "PledgedLoans$Books" "weeksEnded" "I") (List.mem_of_getElem? (i := 13) rfl)) (fun _ h9 => h9) rfl dX0_copyFrom_122 ?_
  refine va_put (D := D) (ci := 0) (v := .int (B2 8 4)) (ty := .int) (C := RX0) (T := TX0) (N := 16) hx hb hts hi0 tyX0 tyX0_ok nmX0 hown hK hP hD hS 0 rfl rfl 12 (by decide) (hts (.fieldLink RX0 53 "PledgedLoans$Books" "weeksEnded" "I") (List.mem_of_getElem? (i := 13) rfl)) (fun _ h9 => h9) rfl (by decide +kernel) rfl rfl (Nat.le_of_ble_eq_true rfl) dX0_copyFrom_125 (fun H locs hP9 hD9 hS9 => ?_)
  replace hP : va_P D vwCl (bkW (cA 0) a (uB M_2 8 4 (B2 8 4)) ++ (bkW (cA 0) a2 B2)) H := hP9
  replace hD : va_D _ (bkW (cA 0) a (uB M_2 8 4 (B2 8 4)) ++ (bkW (cA 0) a2 B2)) := hD9
  replace hS := hS9
  clear hP9 hD9 hS9
  refine lv_aload_n hx hb dX0_copyFrom_128 rfl (lv_at hl 0 rfl) ?_
  refine lv_aload_n hx hb dX0_copyFrom_129 rfl (lv_at hl 1 rfl) ?_
  refine va_get (D := D) (ci := 0) (v := .int (B2 8 5)) (C := RX0) (T := TX0) (N := 16) hx hb hts hi0 hown hK hP 9 rfl rfl 13 (by decide) (hts (.fieldLink RX0 56 "PledgedLoans$Books" "day" "I") (List.mem_of_getElem? (i := 14) rfl)) (fun _ h9 => h9) rfl dX0_copyFrom_130 ?_
  refine va_put (D := D) (ci := 0) (v := .int (B2 8 5)) (ty := .int) (C := RX0) (T := TX0) (N := 16) hx hb hts hi0 tyX0 tyX0_ok nmX0 hown hK hP hD hS 0 rfl rfl 13 (by decide) (hts (.fieldLink RX0 56 "PledgedLoans$Books" "day" "I") (List.mem_of_getElem? (i := 14) rfl)) (fun _ h9 => h9) rfl (by decide +kernel) rfl rfl (Nat.le_of_ble_eq_true rfl) dX0_copyFrom_133 (fun H locs hP9 hD9 hS9 => ?_)
  replace hP : va_P D vwCl (bkW (cA 0) a (uB (uB M_2 8 4 (B2 8 4)) 8 5 (B2 8 5)) ++ (bkW (cA 0) a2 B2)) H := hP9
  replace hD : va_D _ (bkW (cA 0) a (uB (uB M_2 8 4 (B2 8 4)) 8 5 (B2 8 5)) ++ (bkW (cA 0) a2 B2)) := hD9
  replace hS := hS9
  clear hP9 hD9 hS9
  refine lv_aload_n hx hb dX0_copyFrom_136 rfl (lv_at hl 0 rfl) ?_
  refine lv_aload_n hx hb dX0_copyFrom_137 rfl (lv_at hl 1 rfl) ?_
  refine va_get (D := D) (ci := 0) (v := .int (B2 8 6)) (C := RX0) (T := TX0) (N := 16) hx hb hts hi0 hown hK hP 9 rfl rfl 14 (by decide) (hts (.fieldLink RX0 59 "PledgedLoans$Books" "refused" "I") (List.mem_of_getElem? (i := 15) rfl)) (fun _ h9 => h9) rfl dX0_copyFrom_138 ?_
  refine va_put (D := D) (ci := 0) (v := .int (B2 8 6)) (ty := .int) (C := RX0) (T := TX0) (N := 16) hx hb hts hi0 tyX0 tyX0_ok nmX0 hown hK hP hD hS 0 rfl rfl 14 (by decide) (hts (.fieldLink RX0 59 "PledgedLoans$Books" "refused" "I") (List.mem_of_getElem? (i := 15) rfl)) (fun _ h9 => h9) rfl (by decide +kernel) rfl rfl (Nat.le_of_ble_eq_true rfl) dX0_copyFrom_141 (fun H locs hP9 hD9 hS9 => ?_)
  replace hP : va_P D vwCl (bkW (cA 0) a (uB (uB (uB M_2 8 4 (B2 8 4)) 8 5 (B2 8 5)) 8 6 (B2 8 6)) ++ (bkW (cA 0) a2 B2)) H := hP9
  replace hD : va_D _ (bkW (cA 0) a (uB (uB (uB M_2 8 4 (B2 8 4)) 8 5 (B2 8 5)) 8 6 (B2 8 6)) ++ (bkW (cA 0) a2 B2)) := hD9
  replace hS := hS9
  clear hP9 hD9 hS9
  obtain ⟨M_3, eM_3⟩ : ∃ z9 : BK, z9 = uB (uB (uB M_2 8 4 (B2 8 4)) 8 5 (B2 8 5)) 8 6 (B2 8 6) := ⟨_, rfl⟩
  rw [← eM_3] at hP hD
  refine lv_aload_n hx hb dX0_copyFrom_144 rfl (lv_at hl 0 rfl) ?_
  refine lv_aload_n hx hb dX0_copyFrom_145 rfl (lv_at hl 1 rfl) ?_
  refine va_get (D := D) (ci := 0) (v := .int (B2 8 7)) (C := RX0) (T := TX0) (N := 16) hx hb hts hi0 hown hK hP 9 rfl rfl 15 (by decide) (hts (.fieldLink RX0 62 "PledgedLoans$Books" "dividendsPaid" "I") (List.mem_of_getElem? (i := 16) rfl)) (fun _ h9 => h9) rfl dX0_copyFrom_146 ?_
  refine va_put (D := D) (ci := 0) (v := .int (B2 8 7)) (ty := .int) (C := RX0) (T := TX0) (N := 16) hx hb hts hi0 tyX0 tyX0_ok nmX0 hown hK hP hD hS 0 rfl rfl 15 (by decide) (hts (.fieldLink RX0 62 "PledgedLoans$Books" "dividendsPaid" "I") (List.mem_of_getElem? (i := 16) rfl)) (fun _ h9 => h9) rfl (by decide +kernel) rfl rfl (Nat.le_of_ble_eq_true rfl) dX0_copyFrom_149 (fun H locs hP9 hD9 hS9 => ?_)
  replace hP : va_P D vwCl (bkW (cA 0) a (uB M_3 8 7 (B2 8 7)) ++ (bkW (cA 0) a2 B2)) H := hP9
  replace hD : va_D _ (bkW (cA 0) a (uB M_3 8 7 (B2 8 7)) ++ (bkW (cA 0) a2 B2)) := hD9
  replace hS := hS9
  clear hP9 hD9 hS9
  exact z_vretM (w1 := bkW (cA 0) a (uB M_3 8 7 (B2 8 7)) ++ (bkW (cA 0) a2 B2)) hx hb hr hlocks dX0_copyFrom_152 hP hS (by subst eM_3 eM_2 eM_1; rfl)

theorem zy_X0_lentPart : yX0_lentPart.cls = RX0 ∧ yX0_lentPart.cls ≠ "java/lang/invoke/MethodHandle" ∧ yX0_lentPart.cls ≠ "java/lang/invoke/VarHandle" ∧ (parseMethodDescriptor yX0_lentPart.desc).map (fun d => d.parameters.length) = some 0 := by decide +kernel
def f_X0_lentPart (B : BK) : UInt64 :=
  if 1 ≤ (f_X0_allShares B) then
    FP.ddiv (FP.i2d (f_X0_allRests B)) (FP.i2d (f_X0_allShares B))
  else
    FP.dconst0

set_option maxHeartbeats 4000000 in
set_option maxRecDepth 100000 in
theorem zc_X0_lentPart (l : Launch) (D : va_G) (cA : Nat → ClassId) (a : Nat → Nat) (B : BK) (hl0 : ¬ f_X0_allShares B < 0) (hl2 : ¬ f_X0_allRests B < 0) : Met l yX0_lentPart wsX0_lentPart (zrm 1 25) (zPc D cA [.ref (a 0)] (bkW (cA 0) a B)) (zE (some (.double (f_X0_lentPart B)))) 0 0 (fun _ => False) := by
  refine Met.ofW (cc := cX0_lentPart) (maxL := 2) (ret := (some .double)) (by decide) rfl ?_
  intro p e s m args below meth c s₁ Bd hml hv
  obtain ⟨rfl, hP, hK, hD0⟩ := hv
  have hx := Bd.exec
  have hb := Bd.bytes
  have hr := Bd.returns
  have hts := atoms_spec (ws := wsX0_lentPart) Bd.pre
  have hown : s.vm.findClass RX0 = some m.cls := findClass_of_methodNamed Bd.named
  have hlocks := Bd.notSynchronized
  have hD := z_Dfr hD0
  have hS : va_S (zfr (bkW (cA 0) a B)) s.heap s.heap [] := va_S.rf
  have hi0 : ∀ w ∈ wsX00, w ∈ wsX0_lentPart := fun w h => List.mem_cons_of_mem _ (List.mem_append_right _ h)
  have hl := lv_entry ([.ref (a 0)]) (n := 2) (Nat.le_of_ble_eq_true rfl)
  rw [lg_entry_eq]
  generalize (lg_sl ([.ref (a 0)]) ++ List.replicate (2 - (lg_sl ([.ref (a 0)])).length) Slot.unset).toArray = ls at hl ⊢
  have hl : lv_has ls 2 [(0, .ref (a 0))] := hl
  refine lv_aload_n hx hb dX0_lentPart_0 rfl (lv_at hl 0 rfl) ?_
  refine z_E (va_runV (As := []) (rest := []) ⟨hx, hb, hml, hown, hts⟩ (zc_X0_allShares l D cA a B) (cwV 0 hts gX0_lentPart_X0_allShares rfl rfl rfl zy_X0_allShares ⟨Nat.le_of_ble_eq_true rfl, Nat.le_of_ble_eq_true rfl⟩) (z_preV (ci := 0) hK hP hD rfl rfl) rfl rfl hl.1 rfl (lv_room (Nat.le_of_ble_eq_true rfl)) dX0_lentPart_1 ⟨Nat.zero_le _, Nat.zero_le _⟩) rfl ?_
  refine lv_istore_n (lv' := [(1, .int (f_X0_allShares B)), (0, .ref (a 0))]) hx hb dX0_lentPart_4 rfl hl (by decide) rfl (fun ls hl => ?_)
  refine lv_iload_n hx hb dX0_lentPart_5 rfl (lv_at hl 0 rfl) ?_
  refine lv_iconst (v := 1) hx hb dX0_lentPart_6 (by decide) ?_
  refine lv_icmp_ge (tgt := 14) hx hb dX0_lentPart_7 (by decide) (fun c_1 => ?_) (fun c_1 => ?_)
  · refine lv_aload_n hx hb dX0_lentPart_14 rfl (lv_at hl 1 rfl) ?_
    refine z_E (va_runV (As := []) (rest := []) ⟨hx, hb, hml, hown, hts⟩ (zc_X0_allRests l D cA a B) (cwV 0 hts gX0_lentPart_X0_allRests rfl rfl rfl zy_X0_allRests ⟨Nat.le_of_ble_eq_true rfl, Nat.le_of_ble_eq_true rfl⟩) (z_preV (ci := 0) hK hP hD rfl rfl) rfl rfl hl.1 rfl (lv_room (Nat.le_of_ble_eq_true rfl)) dX0_lentPart_15 ⟨Nat.zero_le _, Nat.zero_le _⟩) rfl ?_
    refine lv_i2d hx hb dX0_lentPart_18 ?_
    refine lv_iload_n hx hb dX0_lentPart_19 rfl (lv_at hl 0 rfl) ?_
    refine lv_i2d hx hb dX0_lentPart_20 ?_
    refine lv_ddiv hx hb dX0_lentPart_21 (z_ddn (z_nz1 c_1) hl2 hl0) ?_
    exact z_dretE hx hb hr hlocks dX0_lentPart_22 (by simp only [f_X0_lentPart, if_pos c_1])
  · refine lv_dconst0 hx hb dX0_lentPart_10 ?_
    refine lv_goto (tgt := 22) hx hb dX0_lentPart_11 (by decide) ?_
    exact z_dretE hx hb hr hlocks dX0_lentPart_22 (by simp only [f_X0_lentPart, if_neg c_1])

