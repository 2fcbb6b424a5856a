theorem zy_X2_number : yX2_number.cls = RX2 ∧ yX2_number.cls ≠ "java/lang/invoke/MethodHandle" ∧ yX2_number.cls ≠ "java/lang/invoke/VarHandle" ∧ (parseMethodDescriptor yX2_number.desc).map (fun d => d.parameters.length) = some 1 := by decide +kernel
def f_X2_number (N : NK) (B : BK) (wt : Nat) : Int32 :=
  if wt = 0 then
    B 8 0
  else
  if wt = 1 then
    B 8 1
  else
  if wt = 2 then
    f_X0_allShares B
  else
  if wt = 3 then
    f_X0_allRests B
  else
  if wt = 4 then
    f_X0_loans B
  else
  if wt = 5 then
    B 8 2
  else
  if wt = 6 then
    B 8 3
  else
  if wt = 7 then
    B 8 4
  else
  if wt = 8 then
    B 8 5
  else
  if wt = 9 then
    B 8 6
  else
  if wt = 10 then
    B 8 7
  else
    nI (N 0 0)

set_option maxHeartbeats 4000000 in
set_option maxRecDepth 100000 in
theorem zc_X2_number (l : Launch) (D : va_G) (cA : Nat → ClassId) (b : Nat → Nat → Nat) (rd : Nat) (x : Nat → Nat) (X : BK) (N : NK) (B : BK) (wt : Nat) (hwt : wt < 12) : Met l yX2_number wsX2_number (zrm 2 43) (zPc D cA [.ref (x 0), .int (nI wt)] (xmW cA x b rd X N ++ (bkW (cA 0) (b 0) B))) (zE (some (.int (f_X2_number N B wt)))) 0 0 (fun _ => False) := by
  refine Met.ofW (cc := cX2_number) (maxL := 2) (ret := (some .int)) (by decide) rfl ?_
  intro p e s m args below meth c s₁ Bd hml hv
  obtain ⟨rfl, hP, hK, hD0⟩ := hv
  have hx := Bd.exec
  have hb := Bd.bytes
  have hr := Bd.returns
  have hts := atoms_spec (ws := wsX2_number) Bd.pre
  have hown : s.vm.findClass RX2 = some m.cls := findClass_of_methodNamed Bd.named
  have hlocks := Bd.notSynchronized
  have hD := z_Dfr hD0
  have hS : va_S (zfr (xmW cA x b rd X N ++ (bkW (cA 0) (b 0) B))) s.heap s.heap [] := va_S.rf
  have hi0 : ∀ w ∈ wsX00, w ∈ wsX2_number := fun w h => List.mem_cons_of_mem _ (List.mem_append_right _ h)
  have hi2 : ∀ w ∈ wsX20, w ∈ wsX2_number := fun w h => List.mem_cons_of_mem _ (List.mem_append_left _ (List.mem_append_right _ h))
  have hl := lv_entry ([.ref (x 0), .int (nI wt)]) (n := 2) (Nat.le_of_ble_eq_true rfl)
  rw [lg_entry_eq]
  generalize (lg_sl ([.ref (x 0), .int (nI wt)]) ++ List.replicate (2 - (lg_sl ([.ref (x 0), .int (nI wt)])).length) Slot.unset).toArray = ls at hl ⊢
  have hl : lv_has ls 2 [(0, .ref (x 0)), (1, .int (nI wt))] := hl
  refine lv_iload_n hx hb dX2_number_0 rfl (lv_at hl 1 rfl) ?_
  by_cases c_1 : wt = 0
  · refine lv_tableIn (off := 59) (tgt := 60) hx hb dX2_number_1 (by rw [c_1]; decide) (by rw [c_1]; decide) (by rw [c_1]; decide) (by decide) ?_
    refine lv_aload_n hx hb dX2_number_60 rfl (lv_at hl 0 rfl) ?_
    refine va_get (D := D) (ci := 2) (v := .ref (b 0 0)) (C := RX2) (T := TX2) (N := 9) hx hb hts hi2 hown hK hP 0 rfl rfl 0 (by decide) (hts (.fieldLink RX2 10 "PledgedLoans" "books" "LPledgedLoans$Books;") (List.mem_of_getElem? (i := 1) rfl)) (fun _ h9 => h9) rfl dX2_number_61 ?_
    refine va_get (D := D) (ci := 0) (v := .int (B 8 0)) (C := RX0) (T := TX0) (N := 16) hx hb hts hi0 hown hK hP 6 rfl rfl 8 (by decide) (hts (.fieldLink RX2 248 "PledgedLoans$Books" "till" "I") (List.mem_of_getElem? (i := 2) rfl)) (fun _ h9 => h9) rfl dX2_number_64 ?_
    exact z_iretE hx hb hr hlocks dX2_number_67 (by simp only [f_X2_number, if_pos c_1])
  by_cases c_2 : wt = 1
  · refine lv_tableIn (off := 67) (tgt := 68) hx hb dX2_number_1 (by rw [c_2]; decide) (by rw [c_2]; decide) (by rw [c_2]; decide) (by decide) ?_
    refine lv_aload_n hx hb dX2_number_68 rfl (lv_at hl 0 rfl) ?_
    refine va_get (D := D) (ci := 2) (v := .ref (b 0 0)) (C := RX2) (T := TX2) (N := 9) hx hb hts hi2 hown hK hP 0 rfl rfl 0 (by decide) (hts (.fieldLink RX2 10 "PledgedLoans" "books" "LPledgedLoans$Books;") (List.mem_of_getElem? (i := 1) rfl)) (fun _ h9 => h9) rfl dX2_number_69 ?_
    refine va_get (D := D) (ci := 0) (v := .int (B 8 1)) (C := RX0) (T := TX0) (N := 16) hx hb hts hi0 hown hK hP 6 rfl rfl 9 (by decide) (hts (.fieldLink RX2 251 "PledgedLoans$Books" "surplus" "I") (List.mem_of_getElem? (i := 3) rfl)) (fun _ h9 => h9) rfl dX2_number_72 ?_
    exact z_iretE hx hb hr hlocks dX2_number_75 (by simp only [f_X2_number, if_neg c_1, if_pos c_2])
  by_cases c_3 : wt = 2
  · refine lv_tableIn (off := 75) (tgt := 76) hx hb dX2_number_1 (by rw [c_3]; decide) (by rw [c_3]; decide) (by rw [c_3]; decide) (by decide) ?_
    refine lv_aload_n hx hb dX2_number_76 rfl (lv_at hl 0 rfl) ?_
    refine va_get (D := D) (ci := 2) (v := .ref (b 0 0)) (C := RX2) (T := TX2) (N := 9) hx hb hts hi2 hown hK hP 0 rfl rfl 0 (by decide) (hts (.fieldLink RX2 10 "PledgedLoans" "books" "LPledgedLoans$Books;") (List.mem_of_getElem? (i := 1) rfl)) (fun _ h9 => h9) rfl dX2_number_77 ?_
    refine z_E (va_runV (As := []) (rest := []) ⟨hx, hb, hml, hown, hts⟩ (zc_X0_allShares l D cA (b 0) B) (cwV 0 hts gX2_number_X0_allShares rfl rfl rfl zy_X0_allShares ⟨Nat.le_of_ble_eq_true rfl, Nat.le_of_ble_eq_true rfl⟩) (z_preV (ci := 0) hK (hP.sub (ws' := bkW (cA 0) (b 0) B) [6, 7, 8, 9, 10, 11, 12, 13, 14] rfl) (hD.sub (ws' := bkW (cA 0) (b 0) B) [6, 7, 8, 9, 10, 11, 12, 13, 14] (by decide) rfl) rfl rfl) rfl rfl hl.1 rfl (lv_room (Nat.le_of_ble_eq_true rfl)) dX2_number_80 ⟨Nat.zero_le _, Nat.zero_le _⟩) rfl ?_
    exact z_iretE hx hb hr hlocks dX2_number_83 (by simp only [f_X2_number, if_neg c_1, if_neg c_2, if_pos c_3])
  by_cases c_4 : wt = 3
  · refine lv_tableIn (off := 83) (tgt := 84) hx hb dX2_number_1 (by rw [c_4]; decide) (by rw [c_4]; decide) (by rw [c_4]; decide) (by decide) ?_
    refine lv_aload_n hx hb dX2_number_84 rfl (lv_at hl 0 rfl) ?_
    refine va_get (D := D) (ci := 2) (v := .ref (b 0 0)) (C := RX2) (T := TX2) (N := 9) hx hb hts hi2 hown hK hP 0 rfl rfl 0 (by decide) (hts (.fieldLink RX2 10 "PledgedLoans" "books" "LPledgedLoans$Books;") (List.mem_of_getElem? (i := 1) rfl)) (fun _ h9 => h9) rfl dX2_number_85 ?_
    refine z_E (va_runV (As := []) (rest := []) ⟨hx, hb, hml, hown, hts⟩ (zc_X0_allRests l D cA (b 0) B) (cwV 0 hts gX2_number_X0_allRests rfl rfl rfl zy_X0_allRests ⟨Nat.le_of_ble_eq_true rfl, Nat.le_of_ble_eq_true rfl⟩) (z_preV (ci := 0) hK (hP.sub (ws' := bkW (cA 0) (b 0) B) [6, 7, 8, 9, 10, 11, 12, 13, 14] rfl) (hD.sub (ws' := bkW (cA 0) (b 0) B) [6, 7, 8, 9, 10, 11, 12, 13, 14] (by decide) rfl) rfl rfl) rfl rfl hl.1 rfl (lv_room (Nat.le_of_ble_eq_true rfl)) dX2_number_88 ⟨Nat.zero_le _, Nat.zero_le _⟩) rfl ?_
    exact z_iretE hx hb hr hlocks dX2_number_91 (by simp only [f_X2_number, if_neg c_1, if_neg c_2, if_neg c_3, if_pos c_4])
  by_cases c_5 : wt = 4
  · refine lv_tableIn (off := 91) (tgt := 92) hx hb dX2_number_1 (by rw [c_5]; decide) (by rw [c_5]; decide) (by rw [c_5]; decide) (by decide) ?_
    refine lv_aload_n hx hb dX2_number_92 rfl (lv_at hl 0 rfl) ?_
    refine va_get (D := D) (ci := 2) (v := .ref (b 0 0)) (C := RX2) (T := TX2) (N := 9) hx hb hts hi2 hown hK hP 0 rfl rfl 0 (by decide) (hts (.fieldLink RX2 10 "PledgedLoans" "books" "LPledgedLoans$Books;") (List.mem_of_getElem? (i := 1) rfl)) (fun _ h9 => h9) rfl dX2_number_93 ?_
    refine z_E (va_runV (As := []) (rest := []) ⟨hx, hb, hml, hown, hts⟩ (zc_X0_loans l D cA (b 0) B) (cwV 0 hts gX2_number_X0_loans rfl rfl rfl zy_X0_loans ⟨Nat.le_of_ble_eq_true rfl, Nat.le_of_ble_eq_true rfl⟩) (z_preV (ci := 0) hK (hP.sub (ws' := bkW (cA 0) (b 0) B) [6, 7, 8, 9, 10, 11, 12, 13, 14] rfl) (hD.sub (ws' := bkW (cA 0) (b 0) B) [6, 7, 8, 9, 10, 11, 12, 13, 14] (by decide) rfl) rfl rfl) rfl rfl hl.1 rfl (lv_room (Nat.le_of_ble_eq_true rfl)) dX2_number_96 ⟨Nat.zero_le _, Nat.zero_le _⟩) rfl ?_
    exact z_iretE hx hb hr hlocks dX2_number_99 (by simp only [f_X2_number, if_neg c_1, if_neg c_2, if_neg c_3, if_neg c_4, if_pos c_5])
  by_cases c_6 : wt = 5
  · refine lv_tableIn (off := 99) (tgt := 100) hx hb dX2_number_1 (by rw [c_6]; decide) (by rw [c_6]; decide) (by rw [c_6]; decide) (by decide) ?_
    refine lv_aload_n hx hb dX2_number_100 rfl (lv_at hl 0 rfl) ?_
    refine va_get (D := D) (ci := 2) (v := .ref (b 0 0)) (C := RX2) (T := TX2) (N := 9) hx hb hts hi2 hown hK hP 0 rfl rfl 0 (by decide) (hts (.fieldLink RX2 10 "PledgedLoans" "books" "LPledgedLoans$Books;") (List.mem_of_getElem? (i := 1) rfl)) (fun _ h9 => h9) rfl dX2_number_101 ?_
    refine va_get (D := D) (ci := 0) (v := .int (B 8 2)) (C := RX0) (T := TX0) (N := 16) hx hb hts hi0 hown hK hP 6 rfl rfl 10 (by decide) (hts (.fieldLink RX2 260 "PledgedLoans$Books" "loansGiven" "I") (List.mem_of_getElem? (i := 4) rfl)) (fun _ h9 => h9) rfl dX2_number_104 ?_
    exact z_iretE hx hb hr hlocks dX2_number_107 (by simp only [f_X2_number, if_neg c_1, if_neg c_2, if_neg c_3, if_neg c_4, if_neg c_5, if_pos c_6])
  by_cases c_7 : wt = 6
  · refine lv_tableIn (off := 107) (tgt := 108) hx hb dX2_number_1 (by rw [c_7]; decide) (by rw [c_7]; decide) (by rw [c_7]; decide) (by decide) ?_
    refine lv_aload_n hx hb dX2_number_108 rfl (lv_at hl 0 rfl) ?_
    refine va_get (D := D) (ci := 2) (v := .ref (b 0 0)) (C := RX2) (T := TX2) (N := 9) hx hb hts hi2 hown hK hP 0 rfl rfl 0 (by decide) (hts (.fieldLink RX2 10 "PledgedLoans" "books" "LPledgedLoans$Books;") (List.mem_of_getElem? (i := 1) rfl)) (fun _ h9 => h9) rfl dX2_number_109 ?_
    refine va_get (D := D) (ci := 0) (v := .int (B 8 3)) (C := RX0) (T := TX0) (N := 16) hx hb hts hi0 hown hK hP 6 rfl rfl 11 (by decide) (hts (.fieldLink RX2 263 "PledgedLoans$Books" "loansFallenDue" "I") (List.mem_of_getElem? (i := 5) rfl)) (fun _ h9 => h9) rfl dX2_number_112 ?_
    exact z_iretE hx hb hr hlocks dX2_number_115 (by simp only [f_X2_number, if_neg c_1, if_neg c_2, if_neg c_3, if_neg c_4, if_neg c_5, if_neg c_6, if_pos c_7])
  by_cases c_8 : wt = 7
  · refine lv_tableIn (off := 115) (tgt := 116) hx hb dX2_number_1 (by rw [c_8]; decide) (by rw [c_8]; decide) (by rw [c_8]; decide) (by decide) ?_
    refine lv_aload_n hx hb dX2_number_116 rfl (lv_at hl 0 rfl) ?_
    refine va_get (D := D) (ci := 2) (v := .ref (b 0 0)) (C := RX2) (T := TX2) (N := 9) hx hb hts hi2 hown hK hP 0 rfl rfl 0 (by decide) (hts (.fieldLink RX2 10 "PledgedLoans" "books" "LPledgedLoans$Books;") (List.mem_of_getElem? (i := 1) rfl)) (fun _ h9 => h9) rfl dX2_number_117 ?_
    refine va_get (D := D) (ci := 0) (v := .int (B 8 4)) (C := RX0) (T := TX0) (N := 16) hx hb hts hi0 hown hK hP 6 rfl rfl 12 (by decide) (hts (.fieldLink RX2 266 "PledgedLoans$Books" "weeksEnded" "I") (List.mem_of_getElem? (i := 6) rfl)) (fun _ h9 => h9) rfl dX2_number_120 ?_
    exact z_iretE hx hb hr hlocks dX2_number_123 (by simp only [f_X2_number, if_neg c_1, if_neg c_2, if_neg c_3, if_neg c_4, if_neg c_5, if_neg c_6, if_neg c_7, if_pos c_8])
  by_cases c_9 : wt = 8
  · refine lv_tableIn (off := 123) (tgt := 124) hx hb dX2_number_1 (by rw [c_9]; decide) (by rw [c_9]; decide) (by rw [c_9]; decide) (by decide) ?_
    refine lv_aload_n hx hb dX2_number_124 rfl (lv_at hl 0 rfl) ?_
    refine va_get (D := D) (ci := 2) (v := .ref (b 0 0)) (C := RX2) (T := TX2) (N := 9) hx hb hts hi2 hown hK hP 0 rfl rfl 0 (by decide) (hts (.fieldLink RX2 10 "PledgedLoans" "books" "LPledgedLoans$Books;") (List.mem_of_getElem? (i := 1) rfl)) (fun _ h9 => h9) rfl dX2_number_125 ?_
    refine va_get (D := D) (ci := 0) (v := .int (B 8 5)) (C := RX0) (T := TX0) (N := 16) hx hb hts hi0 hown hK hP 6 rfl rfl 13 (by decide) (hts (.fieldLink RX2 269 "PledgedLoans$Books" "day" "I") (List.mem_of_getElem? (i := 7) rfl)) (fun _ h9 => h9) rfl dX2_number_128 ?_
    exact z_iretE hx hb hr hlocks dX2_number_131 (by simp only [f_X2_number, if_neg c_1, if_neg c_2, if_neg c_3, if_neg c_4, if_neg c_5, if_neg c_6, if_neg c_7, if_neg c_8, if_pos c_9])
  by_cases c_10 : wt = 9
  · refine lv_tableIn (off := 131) (tgt := 132) hx hb dX2_number_1 (by rw [c_10]; decide) (by rw [c_10]; decide) (by rw [c_10]; decide) (by decide) ?_
    refine lv_aload_n hx hb dX2_number_132 rfl (lv_at hl 0 rfl) ?_
    refine va_get (D := D) (ci := 2) (v := .ref (b 0 0)) (C := RX2) (T := TX2) (N := 9) hx hb hts hi2 hown hK hP 0 rfl rfl 0 (by decide) (hts (.fieldLink RX2 10 "PledgedLoans" "books" "LPledgedLoans$Books;") (List.mem_of_getElem? (i := 1) rfl)) (fun _ h9 => h9) rfl dX2_number_133 ?_
    refine va_get (D := D) (ci := 0) (v := .int (B 8 6)) (C := RX0) (T := TX0) (N := 16) hx hb hts hi0 hown hK hP 6 rfl rfl 14 (by decide) (hts (.fieldLink RX2 272 "PledgedLoans$Books" "refused" "I") (List.mem_of_getElem? (i := 8) rfl)) (fun _ h9 => h9) rfl dX2_number_136 ?_
    exact z_iretE hx hb hr hlocks dX2_number_139 (by simp only [f_X2_number, if_neg c_1, if_neg c_2, if_neg c_3, if_neg c_4, if_neg c_5, if_neg c_6, if_neg c_7, if_neg c_8, if_neg c_9, if_pos c_10])
  by_cases c_11 : wt = 10
  · refine lv_tableIn (off := 139) (tgt := 140) hx hb dX2_number_1 (by rw [c_11]; decide) (by rw [c_11]; decide) (by rw [c_11]; decide) (by decide) ?_
    refine lv_aload_n hx hb dX2_number_140 rfl (lv_at hl 0 rfl) ?_
    refine va_get (D := D) (ci := 2) (v := .ref (b 0 0)) (C := RX2) (T := TX2) (N := 9) hx hb hts hi2 hown hK hP 0 rfl rfl 0 (by decide) (hts (.fieldLink RX2 10 "PledgedLoans" "books" "LPledgedLoans$Books;") (List.mem_of_getElem? (i := 1) rfl)) (fun _ h9 => h9) rfl dX2_number_141 ?_
    refine va_get (D := D) (ci := 0) (v := .int (B 8 7)) (C := RX0) (T := TX0) (N := 16) hx hb hts hi0 hown hK hP 6 rfl rfl 15 (by decide) (hts (.fieldLink RX2 275 "PledgedLoans$Books" "dividendsPaid" "I") (List.mem_of_getElem? (i := 9) rfl)) (fun _ h9 => h9) rfl dX2_number_144 ?_
    exact z_iretE hx hb hr hlocks dX2_number_147 (by simp only [f_X2_number, if_neg c_1, if_neg c_2, if_neg c_3, if_neg c_4, if_neg c_5, if_neg c_6, if_neg c_7, if_neg c_8, if_neg c_9, if_neg c_10, if_pos c_11])
  refine lv_tableOut (tgt := 148) hx hb dX2_number_1 (by rw [nI_toInt (by omega)]; omega) (by decide) ?_
  refine lv_aload_n hx hb dX2_number_148 rfl (lv_at hl 0 rfl) ?_
  refine va_get (D := D) (ci := 2) (v := .int (nI (N 0 0))) (C := RX2) (T := TX2) (N := 9) hx hb hts hi2 hown hK hP 0 rfl rfl 2 (by decide) (hts (.fieldLink RX2 143 "PledgedLoans" "savedStates" "I") (List.mem_of_getElem? (i := 10) rfl)) (fun _ h9 => h9) rfl dX2_number_149 ?_
  exact z_iretE hx hb hr hlocks dX2_number_152 (by simp only [f_X2_number, if_neg c_1, if_neg c_2, if_neg c_3, if_neg c_4, if_neg c_5, if_neg c_6, if_neg c_7, if_neg c_8, if_neg c_9, if_neg c_10, if_neg c_11])

theorem zy_X2_greatestByHalving : yX2_greatestByHalving.cls = RX2 ∧ yX2_greatestByHalving.cls ≠ "java/lang/invoke/MethodHandle" ∧ yX2_greatestByHalving.cls ≠ "java/lang/invoke/VarHandle" ∧ (parseMethodDescriptor yX2_greatestByHalving.desc).map (fun d => d.parameters.length) = some 1 := by decide +kernel
def f_X2_greatestByHalving_6 (B : BK) (mb : Nat) : Nat → Nat → Nat → Int32
  | 0, q, st => 0
  | k + 1, q, st =>
    if st ≤ 0 then
      nI q
    else
      if 9999 < (q + st) then
        f_X2_greatestByHalving_6 B mb k q (st / 2)
      else
        if (f_X0_whyNoLoan B mb (nI (q + st))) = 0 then
          f_X2_greatestByHalving_6 B mb k (q + st) (st / 2)
        else
          f_X2_greatestByHalving_6 B mb k q (st / 2)
def f_X2_greatestByHalving (B : BK) (mb : Nat) : Int32 :=
  f_X2_greatestByHalving_6 B mb 8193 0 8192

set_option maxHeartbeats 4000000 in
set_option maxRecDepth 100000 in
theorem zc_X2_greatestByHalving (l : Launch) (D : va_G) (cA : Nat → ClassId) (b : Nat → Nat → Nat) (rd : Nat) (x : Nat → Nat) (X : BK) (N : NK) (B : BK) (mb : Nat) (hmb : mb < 6) : Met l yX2_greatestByHalving wsX2_greatestByHalving (zrm 4 88) (zPc D cA [.ref (x 0), .int (nI mb)] (xmW cA x b rd X N ++ (bkW (cA 0) (b 0) B))) (zE (some (.int (f_X2_greatestByHalving B mb)))) 0 0 (fun _ => False) := by
  refine Met.ofW (cc := cX2_greatestByHalving) (maxL := 5) (ret := (some .int)) (by decide) rfl ?_
  intro p e s m args below meth c s₁ Bd hml hv
  obtain ⟨rfl, hP, hK, hD0⟩ := hv
  have hx := Bd.exec
  have hb := Bd.bytes
  have hr := Bd.returns
  have hts := atoms_spec (ws := wsX2_greatestByHalving) Bd.pre
  have hown : s.vm.findClass RX2 = some m.cls := findClass_of_methodNamed Bd.named
  have hlocks := Bd.notSynchronized
  have hD := z_Dfr hD0
  have hS : va_S (zfr (xmW cA x b rd X N ++ (bkW (cA 0) (b 0) B))) s.heap s.heap [] := va_S.rf
  have hi0 : ∀ w ∈ wsX00, w ∈ wsX2_greatestByHalving := fun w h => List.mem_cons_of_mem _ (List.mem_append_right _ h)
  have hi2 : ∀ w ∈ wsX20, w ∈ wsX2_greatestByHalving := fun w h => List.mem_cons_of_mem _ (List.mem_append_left _ (List.mem_append_right _ h))
  have hl := lv_entry ([.ref (x 0), .int (nI mb)]) (n := 5) (Nat.le_of_ble_eq_true rfl)
  rw [lg_entry_eq]
  generalize (lg_sl ([.ref (x 0), .int (nI mb)]) ++ List.replicate (5 - (lg_sl ([.ref (x 0), .int (nI mb)])).length) Slot.unset).toArray = ls at hl ⊢
  have hl : lv_has ls 5 [(0, .ref (x 0)), (1, .int (nI mb))] := hl
  refine lv_iconst (v := 0) hx hb dX2_greatestByHalving_0 (by decide) ?_
  refine lv_istore_n (lv' := [(2, .int 0), (0, .ref (x 0)), (1, .int (nI mb))]) hx hb dX2_greatestByHalving_1 rfl hl (by decide) rfl (fun ls hl => ?_)
  refine lv_sipush (v := 8192) hx hb dX2_greatestByHalving_2 (by decide) ?_
  refine lv_istore_n (lv' := [(3, .int 8192), (2, .int 0), (0, .ref (x 0)), (1, .int (nI mb))]) hx hb dX2_greatestByHalving_5 rfl hl (by decide) rfl (fun ls hl => ?_)
  have loop_6 : ∀ (kk : Nat) (q : Nat) (st : Nat), st < kk → q < 10000 → st < 8193 → f_X2_greatestByHalving B mb = f_X2_greatestByHalving_6 B mb kk q st → ∀ (ls : Array Slot), lv_has ls 5 [(0, .ref (x 0)), (1, .int (nI mb)), (2, .int (nI q)), (3, .int (nI st))] → W p l e (headSpec wsX2_greatestByHalving (zrm 4 88)).room s m ([.ref (x 0), .int (nI mb)] : List Value).toArray below meth c s.heap [] 0 0 (MQ below (zE (some (.int (f_X2_greatestByHalving B mb)))) ([.ref (x 0), .int (nI mb)] : List Value).toArray s 0 0 (fun _ => False)) (F0 m 6 ls []) := by
    intro kk
    induction kk with
    | zero => intro q st h9; exact absurd h9 (Nat.not_lt_zero _)
    | succ kk ih_6 =>
      intro q st hm_6 hi0_6 hi1_6 hres_6 ls hl
      refine lv_iload_n hx hb dX2_greatestByHalving_6 rfl (lv_at hl 3 rfl) ?_
      refine lv_if_le (tgt := 46) hx hb dX2_greatestByHalving_7 (by decide) (fun c_1 => ?_) (fun c_1 => ?_)
      · have c_1 : st ≤ 0 := (nI_leI (a := st) (b := 0) (by omega) (by omega)).mp c_1
        refine lv_iload_n hx hb dX2_greatestByHalving_46 rfl (lv_at hl 2 rfl) ?_
        exact z_iretE hx hb hr hlocks dX2_greatestByHalving_47 (by rw [hres_6]; simp only [f_X2_greatestByHalving_6, if_pos c_1])
      · have c_1 : ¬ st ≤ 0 := fun h9 => c_1 ((nI_leI (a := st) (b := 0) (by omega) (by omega)).mpr h9)
        refine lv_iload_n hx hb dX2_greatestByHalving_10 rfl (lv_at hl 2 rfl) ?_
        refine lv_iload_n hx hb dX2_greatestByHalving_11 rfl (lv_at hl 3 rfl) ?_
        refine lv_iadd hx hb dX2_greatestByHalving_12 ?_
        refine z_top (nI_add q st) ?_
        refine lv_istore (lv' := [(4, .int (nI (q + st))), (0, .ref (x 0)), (1, .int (nI mb)), (2, .int (nI q)), (3, .int (nI st))]) hx hb dX2_greatestByHalving_13 hl (by decide) rfl (fun ls hl => ?_)
        refine lv_iload hx hb dX2_greatestByHalving_15 (lv_at hl 0 rfl) ?_
        refine lv_sipush (v := 9999) hx hb dX2_greatestByHalving_17 (by decide) ?_
        refine lv_icmp_gt (tgt := 39) hx hb dX2_greatestByHalving_20 (by decide) (fun c_2 => ?_) (fun c_2 => ?_)
        · have c_2 : 9999 < (q + st) := (nI_ltI (a := 9999) (b := (q + st)) (by omega) (by omega)).mp c_2
          refine lv_iload_n hx hb dX2_greatestByHalving_39 rfl (lv_at hl 4 rfl) ?_
          refine lv_iconst (v := 2) hx hb dX2_greatestByHalving_40 (by decide) ?_
          refine lv_idiv hx hb dX2_greatestByHalving_41 (by decide) ?_
          refine z_top (pk_div (a := st) (d := 2) (by omega) (by omega) (by omega)) ?_
          refine lv_istore_n (lv' := [(3, .int (nI (st / 2))), (4, .int (nI (q + st))), (0, .ref (x 0)), (1, .int (nI mb)), (2, .int (nI q))]) hx hb dX2_greatestByHalving_42 rfl hl (by decide) rfl (fun ls hl => ?_)
          refine lv_goto (tgt := 6) hx hb dX2_greatestByHalving_43 (by decide) ?_
          exact ih_6 q (st / 2) (by omega) (by omega) (by omega) (by rw [hres_6]; simp only [f_X2_greatestByHalving_6, if_neg c_1, if_pos c_2]) ls (lv_sub hl [2, 3, 4, 0] rfl)
        · have c_2 : ¬ 9999 < (q + st) := fun h9 => c_2 ((nI_ltI (a := 9999) (b := (q + st)) (by omega) (by omega)).mpr h9)
          refine lv_aload_n hx hb dX2_greatestByHalving_23 rfl (lv_at hl 1 rfl) ?_
          refine va_get (D := D) (ci := 2) (v := .ref (b 0 0)) (C := RX2) (T := TX2) (N := 9) hx hb hts hi2 hown hK hP 0 rfl rfl 0 (by decide) (hts (.fieldLink RX2 10 "PledgedLoans" "books" "LPledgedLoans$Books;") (List.mem_of_getElem? (i := 1) rfl)) (fun _ h9 => h9) rfl dX2_greatestByHalving_24 ?_
          refine lv_iload_n hx hb dX2_greatestByHalving_27 rfl (lv_at hl 2 rfl) ?_
          refine lv_iload hx hb dX2_greatestByHalving_28 (lv_at hl 0 rfl) ?_
          refine z_E (va_runV (As := [.int (nI mb), .int (nI (q + st))]) (rest := []) ⟨hx, hb, hml, hown, hts⟩ (zc_X0_whyNoLoan l D cA (b 0) B mb (nI (q + st)) (by omega)) (cwV 2 hts gX2_greatestByHalving_X0_whyNoLoan rfl rfl rfl zy_X0_whyNoLoan ⟨Nat.le_of_ble_eq_true rfl, Nat.le_of_ble_eq_true rfl⟩) (z_preV (ci := 0) hK (hP.sub (ws' := bkW (cA 0) (b 0) B) [6, 7, 8, 9, 10, 11, 12, 13, 14] rfl) (hD.sub (ws' := bkW (cA 0) (b 0) B) [6, 7, 8, 9, 10, 11, 12, 13, 14] (by decide) rfl) rfl rfl) rfl rfl hl.1 rfl (lv_room (Nat.le_of_ble_eq_true rfl)) dX2_greatestByHalving_30 ⟨Nat.zero_le _, Nat.zero_le _⟩) rfl ?_
          refine lv_if_ne (tgt := 39) hx hb dX2_greatestByHalving_33 (by decide) (fun c_3 => ?_) (fun c_3 => ?_)
          · refine lv_iload_n hx hb dX2_greatestByHalving_39 rfl (lv_at hl 4 rfl) ?_
            refine lv_iconst (v := 2) hx hb dX2_greatestByHalving_40 (by decide) ?_
            refine lv_idiv hx hb dX2_greatestByHalving_41 (by decide) ?_
            refine z_top (pk_div (a := st) (d := 2) (by omega) (by omega) (by omega)) ?_
            refine lv_istore_n (lv' := [(3, .int (nI (st / 2))), (4, .int (nI (q + st))), (0, .ref (x 0)), (1, .int (nI mb)), (2, .int (nI q))]) hx hb dX2_greatestByHalving_42 rfl hl (by decide) rfl (fun ls hl => ?_)
            refine lv_goto (tgt := 6) hx hb dX2_greatestByHalving_43 (by decide) ?_
            exact ih_6 q (st / 2) (by omega) (by omega) (by omega) (by rw [hres_6]; simp only [f_X2_greatestByHalving_6, if_neg c_1, if_neg c_2, if_neg c_3]) ls (lv_sub hl [2, 3, 4, 0] rfl)
          · refine lv_iload hx hb dX2_greatestByHalving_36 (lv_at hl 0 rfl) ?_
            refine lv_istore_n (lv' := [(2, .int (nI (q + st))), (4, .int (nI (q + st))), (0, .ref (x 0)), (1, .int (nI mb)), (3, .int (nI st))]) hx hb dX2_greatestByHalving_38 rfl hl (by decide) rfl (fun ls hl => ?_)
            refine lv_iload_n hx hb dX2_greatestByHalving_39 rfl (lv_at hl 4 rfl) ?_
            refine lv_iconst (v := 2) hx hb dX2_greatestByHalving_40 (by decide) ?_
            refine lv_idiv hx hb dX2_greatestByHalving_41 (by decide) ?_
            refine z_top (pk_div (a := st) (d := 2) (by omega) (by omega) (by omega)) ?_
            refine lv_istore_n (lv' := [(3, .int (nI (st / 2))), (2, .int (nI (q + st))), (4, .int (nI (q + st))), (0, .ref (x 0)), (1, .int (nI mb))]) hx hb dX2_greatestByHalving_42 rfl hl (by decide) rfl (fun ls hl => ?_)
            refine lv_goto (tgt := 6) hx hb dX2_greatestByHalving_43 (by decide) ?_
            exact ih_6 (q + st) (st / 2) (by omega) (by omega) (by omega) (by rw [hres_6]; simp only [f_X2_greatestByHalving_6, if_neg c_1, if_neg c_2, if_pos c_3]) ls (lv_sub hl [3, 4, 1, 0] rfl)
  exact loop_6 8193 0 8192 (by omega) (by omega) (by omega) (by first | (simp only [f_X2_greatestByHalving]; done) | rfl) ls (lv_sub hl [2, 3, 1, 0] rfl)

theorem zy_X2_greatestByAll : yX2_greatestByAll.cls = RX2 ∧ yX2_greatestByAll.cls ≠ "java/lang/invoke/MethodHandle" ∧ yX2_greatestByAll.cls ≠ "java/lang/invoke/VarHandle" ∧ (parseMethodDescriptor yX2_greatestByAll.desc).map (fun d => d.parameters.length) = some 1 := by decide +kernel
def f_X2_greatestByAll_36 (B : BK) (mb : Nat) : Nat → Nat → Int32
  | 0, q => 0
  | k + 1, q =>
    if q ≤ 0 then
      0
    else
      if (f_X0_whyAbove B (f_X0_threefold B mb) (f_X0_cover B mb) (nI q)) = 0 then
        nI q
      else
        f_X2_greatestByAll_36 B mb k (q - 1)
def f_X2_greatestByAll (B : BK) (mb : Nat) : Int32 :=
  if (f_X0_hasLoan B mb) = 0 then
    f_X2_greatestByAll_36 B mb 10001 9999
  else
    0

set_option maxHeartbeats 4000000 in
set_option maxRecDepth 100000 in
theorem zc_X2_greatestByAll (l : Launch) (D : va_G) (cA : Nat → ClassId) (b : Nat → Nat → Nat) (rd : Nat) (x : Nat → Nat) (X : BK) (N : NK) (B : BK) (mb : Nat) (hmb : mb < 6) : Met l yX2_greatestByAll wsX2_greatestByAll (zrm 3 66) (zPc D cA [.ref (x 0), .int (nI mb)] (xmW cA x b rd X N ++ (bkW (cA 0) (b 0) B))) (zE (some (.int (f_X2_greatestByAll B mb)))) 0 0 (fun _ => False) := by
  refine Met.ofW (cc := cX2_greatestByAll) (maxL := 5) (ret := (some .int)) (by decide) rfl ?_
  intro p e s m args below meth c s₁ Bd hml hv
  obtain ⟨rfl, hP, hK, hD0⟩ := hv
  have hx := Bd.exec
  have hb := Bd.bytes
  have hr := Bd.returns
  have hts := atoms_spec (ws := wsX2_greatestByAll) Bd.pre
  have hown : s.vm.findClass RX2 = some m.cls := findClass_of_methodNamed Bd.named
  have hlocks := Bd.notSynchronized
  have hD := z_Dfr hD0
  have hS : va_S (zfr (xmW cA x b rd X N ++ (bkW (cA 0) (b 0) B))) s.heap s.heap [] := va_S.rf
  have hi0 : ∀ w ∈ wsX00, w ∈ wsX2_greatestByAll := fun w h => List.mem_cons_of_mem _ (List.mem_append_right _ h)
  have hi2 : ∀ w ∈ wsX20, w ∈ wsX2_greatestByAll := fun w h => List.mem_cons_of_mem _ (List.mem_append_left _ (List.mem_append_right _ h))
  have hl := lv_entry ([.ref (x 0), .int (nI mb)]) (n := 5) (Nat.le_of_ble_eq_true rfl)
  rw [lg_entry_eq]
  generalize (lg_sl ([.ref (x 0), .int (nI mb)]) ++ List.replicate (5 - (lg_sl ([.ref (x 0), .int (nI mb)])).length) Slot.unset).toArray = ls at hl ⊢
  have hl : lv_has ls 5 [(0, .ref (x 0)), (1, .int (nI mb))] := hl
  refine lv_aload_n hx hb dX2_greatestByAll_0 rfl (lv_at hl 0 rfl) ?_
  refine va_get (D := D) (ci := 2) (v := .ref (b 0 0)) (C := RX2) (T := TX2) (N := 9) hx hb hts hi2 hown hK hP 0 rfl rfl 0 (by decide) (hts (.fieldLink RX2 10 "PledgedLoans" "books" "LPledgedLoans$Books;") (List.mem_of_getElem? (i := 1) rfl)) (fun _ h9 => h9) rfl dX2_greatestByAll_1 ?_
  refine lv_iload_n hx hb dX2_greatestByAll_4 rfl (lv_at hl 1 rfl) ?_
  refine z_E (va_runV (As := [.int (nI mb)]) (rest := []) ⟨hx, hb, hml, hown, hts⟩ (zc_X0_hasLoan l D cA (b 0) B mb (by omega)) (cwV 1 hts gX2_greatestByAll_X0_hasLoan rfl rfl rfl zy_X0_hasLoan ⟨Nat.le_of_ble_eq_true rfl, Nat.le_of_ble_eq_true rfl⟩) (z_preV (ci := 0) hK (hP.sub (ws' := bkW (cA 0) (b 0) B) [6, 7, 8, 9, 10, 11, 12, 13, 14] rfl) (hD.sub (ws' := bkW (cA 0) (b 0) B) [6, 7, 8, 9, 10, 11, 12, 13, 14] (by decide) rfl) rfl rfl) rfl rfl hl.1 rfl (lv_room (Nat.le_of_ble_eq_true rfl)) dX2_greatestByAll_5 ⟨Nat.zero_le _, Nat.zero_le _⟩) rfl ?_
  refine lv_if_eq (tgt := 13) hx hb dX2_greatestByAll_8 (by decide) (fun c_1 => ?_) (fun c_1 => ?_)
  · refine lv_aload_n hx hb dX2_greatestByAll_13 rfl (lv_at hl 0 rfl) ?_
    refine va_get (D := D) (ci := 2) (v := .ref (b 0 0)) (C := RX2) (T := TX2) (N := 9) hx hb hts hi2 hown hK hP 0 rfl rfl 0 (by decide) (hts (.fieldLink RX2 10 "PledgedLoans" "books" "LPledgedLoans$Books;") (List.mem_of_getElem? (i := 1) rfl)) (fun _ h9 => h9) rfl dX2_greatestByAll_14 ?_
    refine lv_iload_n hx hb dX2_greatestByAll_17 rfl (lv_at hl 1 rfl) ?_
    refine z_E (va_runV (As := [.int (nI mb)]) (rest := []) ⟨hx, hb, hml, hown, hts⟩ (zc_X0_threefold l D cA (b 0) B mb (by omega)) (cwV 1 hts gX2_greatestByAll_X0_threefold rfl rfl rfl zy_X0_threefold ⟨Nat.le_of_ble_eq_true rfl, Nat.le_of_ble_eq_true rfl⟩) (z_preV (ci := 0) hK (hP.sub (ws' := bkW (cA 0) (b 0) B) [6, 7, 8, 9, 10, 11, 12, 13, 14] rfl) (hD.sub (ws' := bkW (cA 0) (b 0) B) [6, 7, 8, 9, 10, 11, 12, 13, 14] (by decide) rfl) rfl rfl) rfl rfl hl.1 rfl (lv_room (Nat.le_of_ble_eq_true rfl)) dX2_greatestByAll_18 ⟨Nat.zero_le _, Nat.zero_le _⟩) rfl ?_
    refine lv_istore_n (lv' := [(2, .int (f_X0_threefold B mb)), (0, .ref (x 0)), (1, .int (nI mb))]) hx hb dX2_greatestByAll_21 rfl hl (by decide) rfl (fun ls hl => ?_)
    refine lv_aload_n hx hb dX2_greatestByAll_22 rfl (lv_at hl 1 rfl) ?_
    refine va_get (D := D) (ci := 2) (v := .ref (b 0 0)) (C := RX2) (T := TX2) (N := 9) hx hb hts hi2 hown hK hP 0 rfl rfl 0 (by decide) (hts (.fieldLink RX2 10 "PledgedLoans" "books" "LPledgedLoans$Books;") (List.mem_of_getElem? (i := 1) rfl)) (fun _ h9 => h9) rfl dX2_greatestByAll_23 ?_
    refine lv_iload_n hx hb dX2_greatestByAll_26 rfl (lv_at hl 2 rfl) ?_
    refine z_E (va_runV (As := [.int (nI mb)]) (rest := []) ⟨hx, hb, hml, hown, hts⟩ (zc_X0_cover l D cA (b 0) B mb (by omega)) (cwV 1 hts gX2_greatestByAll_X0_cover rfl rfl rfl zy_X0_cover ⟨Nat.le_of_ble_eq_true rfl, Nat.le_of_ble_eq_true rfl⟩) (z_preV (ci := 0) hK (hP.sub (ws' := bkW (cA 0) (b 0) B) [6, 7, 8, 9, 10, 11, 12, 13, 14] rfl) (hD.sub (ws' := bkW (cA 0) (b 0) B) [6, 7, 8, 9, 10, 11, 12, 13, 14] (by decide) rfl) rfl rfl) rfl rfl hl.1 rfl (lv_room (Nat.le_of_ble_eq_true rfl)) dX2_greatestByAll_27 ⟨Nat.zero_le _, Nat.zero_le _⟩) rfl ?_
    refine lv_istore_n (lv' := [(3, .int (f_X0_cover B mb)), (2, .int (f_X0_threefold B mb)), (0, .ref (x 0)), (1, .int (nI mb))]) hx hb dX2_greatestByAll_30 rfl hl (by decide) rfl (fun ls hl => ?_)
    refine lv_sipush (v := 9999) hx hb dX2_greatestByAll_31 (by decide) ?_
    refine lv_istore (lv' := [(4, .int 9999), (3, .int (f_X0_cover B mb)), (2, .int (f_X0_threefold B mb)), (0, .ref (x 0)), (1, .int (nI mb))]) hx hb dX2_greatestByAll_34 hl (by decide) rfl (fun ls hl => ?_)
    have loop_36 : ∀ (kk : Nat) (q : Nat), q < kk → q < 10000 → f_X2_greatestByAll B mb = f_X2_greatestByAll_36 B mb kk q → ∀ (ls : Array Slot), lv_has ls 5 [(0, .ref (x 0)), (1, .int (nI mb)), (2, .int (f_X0_threefold B mb)), (3, .int (f_X0_cover B mb)), (4, .int (nI q))] → W p l e (headSpec wsX2_greatestByAll (zrm 3 66)).room s m ([.ref (x 0), .int (nI mb)] : List Value).toArray below meth c s.heap [] 0 0 (MQ below (zE (some (.int (f_X2_greatestByAll B mb)))) ([.ref (x 0), .int (nI mb)] : List Value).toArray s 0 0 (fun _ => False)) (F0 m 36 ls []) := by
      intro kk
      induction kk with
      | zero => intro q h9; exact absurd h9 (Nat.not_lt_zero _)
      | succ kk ih_36 =>
        intro q hm_36 hi0_36 hres_36 ls hl
        refine lv_iload hx hb dX2_greatestByAll_36 (lv_at hl 4 rfl) ?_
        refine lv_if_le (tgt := 64) hx hb dX2_greatestByAll_38 (by decide) (fun c_2 => ?_) (fun c_2 => ?_)
        · have c_2 : q ≤ 0 := (nI_leI (a := q) (b := 0) (by omega) (by omega)).mp c_2
          refine lv_iconst (v := 0) hx hb dX2_greatestByAll_64 (by decide) ?_
          exact z_iretE hx hb hr hlocks dX2_greatestByAll_65 (by rw [hres_36]; simp only [f_X2_greatestByAll_36, if_pos c_2])
        · have c_2 : ¬ q ≤ 0 := fun h9 => c_2 ((nI_leI (a := q) (b := 0) (by omega) (by omega)).mpr h9)
          refine lv_aload_n hx hb dX2_greatestByAll_41 rfl (lv_at hl 0 rfl) ?_
          refine va_get (D := D) (ci := 2) (v := .ref (b 0 0)) (C := RX2) (T := TX2) (N := 9) hx hb hts hi2 hown hK hP 0 rfl rfl 0 (by decide) (hts (.fieldLink RX2 10 "PledgedLoans" "books" "LPledgedLoans$Books;") (List.mem_of_getElem? (i := 1) rfl)) (fun _ h9 => h9) rfl dX2_greatestByAll_42 ?_
          refine lv_iload_n hx hb dX2_greatestByAll_45 rfl (lv_at hl 2 rfl) ?_
          refine lv_iload_n hx hb dX2_greatestByAll_46 rfl (lv_at hl 3 rfl) ?_
          refine lv_iload hx hb dX2_greatestByAll_47 (lv_at hl 4 rfl) ?_
          refine z_E (va_runV (As := [.int (f_X0_threefold B mb), .int (f_X0_cover B mb), .int (nI q)]) (rest := []) ⟨hx, hb, hml, hown, hts⟩ (zc_X0_whyAbove l D cA (b 0) B (f_X0_threefold B mb) (f_X0_cover B mb) (nI q)) (cwV 3 hts gX2_greatestByAll_X0_whyAbove rfl rfl rfl zy_X0_whyAbove ⟨Nat.le_of_ble_eq_true rfl, Nat.le_of_ble_eq_true rfl⟩) (z_preV (ci := 0) hK (hP.sub (ws' := bkW (cA 0) (b 0) B) [6, 7, 8, 9, 10, 11, 12, 13, 14] rfl) (hD.sub (ws' := bkW (cA 0) (b 0) B) [6, 7, 8, 9, 10, 11, 12, 13, 14] (by decide) rfl) rfl rfl) rfl rfl hl.1 rfl (lv_room (Nat.le_of_ble_eq_true rfl)) dX2_greatestByAll_49 ⟨Nat.zero_le _, Nat.zero_le _⟩) rfl ?_
          refine lv_if_ne (tgt := 58) hx hb dX2_greatestByAll_52 (by decide) (fun c_3 => ?_) (fun c_3 => ?_)
          · refine lv_iinc (v := nI (q - 1)) (lv' := [(4, .int (nI (q - 1))), (0, .ref (x 0)), (1, .int (nI mb)), (2, .int (f_X0_threefold B mb)), (3, .int (f_X0_cover B mb))]) hx hb dX2_greatestByAll_58 hl (k := 4) rfl (by rw [show (Int32.ofInt (-1)) = -nI 1 from by decide, ← Int32.sub_eq_add_neg]; exact pk_sub (by omega)) (by decide) rfl (fun ls hl => ?_)
            refine lv_goto (tgt := 36) hx hb dX2_greatestByAll_61 (by decide) ?_
            exact ih_36 (q - 1) (by omega) (by omega) (by rw [hres_36]; simp only [f_X2_greatestByAll_36, if_neg c_2, if_neg c_3]) ls (lv_sub hl [1, 2, 3, 4, 0] rfl)
          · refine lv_iload hx hb dX2_greatestByAll_55 (lv_at hl 4 rfl) ?_
            exact z_iretE hx hb hr hlocks dX2_greatestByAll_57 (by rw [hres_36]; simp only [f_X2_greatestByAll_36, if_neg c_2, if_pos c_3])
    exact loop_36 10001 9999 (by omega) (by omega) (by simp only [f_X2_greatestByAll, if_pos c_1]) ls (lv_sub hl [3, 4, 2, 1, 0] rfl)
  · refine lv_iconst (v := 0) hx hb dX2_greatestByAll_11 (by decide) ?_
    exact z_iretE hx hb hr hlocks dX2_greatestByAll_12 (by simp only [f_X2_greatestByAll, if_neg c_1])

theorem zy_X2_fillFree : yX2_fillFree.cls = RX2 ∧ yX2_fillFree.cls ≠ "java/lang/invoke/MethodHandle" ∧ yX2_fillFree.cls ≠ "java/lang/invoke/VarHandle" ∧ (parseMethodDescriptor yX2_fillFree.desc).map (fun d => d.parameters.length) = some 0 := by decide +kernel
def f_X2_fillFree_2 (X : BK) (B : BK) (i0 : BK) : Nat → BK
  | 0 => i0
  | n + 1 =>
    let y0_2 : BK := f_X2_fillFree_2 X B i0 n
    uB y0_2 1 n (f_X0_freeShares B n)
def f_X2_fillFree (X : BK) (B : BK) : BK :=
  let y0_2 : BK := f_X2_fillFree_2 X B X 6
  y0_2

set_option maxHeartbeats 4000000 in
set_option maxRecDepth 100000 in
theorem zc_X2_fillFree (l : Launch) (D : va_G) (cA : Nat → ClassId) (b : Nat → Nat → Nat) (rd : Nat) (x : Nat → Nat) (X : BK) (N : NK) (B : BK)  : Met l yX2_fillFree wsX2_fillFree (zrm 3 66) (zPc D cA [.ref (x 0)] (xmW cA x b rd X N ++ (bkW (cA 0) (b 0) B))) (zM D (xmW cA x b rd X N ++ (bkW (cA 0) (b 0) B)) (xmW cA x b rd (f_X2_fillFree X B) N ++ (bkW (cA 0) (b 0) B)) none) 0 0 (zfr (xmW cA x b rd X N ++ (bkW (cA 0) (b 0) B))) := by
  refine Met.ofW (cc := cX2_fillFree) (maxL := 2) (ret := none) (by decide) rfl ?_
  intro p e s m args below meth c s₁ Bd hml hv
  obtain ⟨rfl, hP, hK, hD0⟩ := hv
  have hx := Bd.exec
  have hb := Bd.bytes
  have hr := Bd.returns
  have hts := atoms_spec (ws := wsX2_fillFree) Bd.pre
  have hown : s.vm.findClass RX2 = some m.cls := findClass_of_methodNamed Bd.named
  have hlocks := Bd.notSynchronized
  have hD := z_Dfr hD0
  have hS : va_S (zfr (xmW cA x b rd X N ++ (bkW (cA 0) (b 0) B))) s.heap s.heap [] := va_S.rf
  have hi0 : ∀ w ∈ wsX00, w ∈ wsX2_fillFree := fun w h => List.mem_cons_of_mem _ (List.mem_append_right _ h)
  have hi2 : ∀ w ∈ wsX20, w ∈ wsX2_fillFree := fun w h => List.mem_cons_of_mem _ (List.mem_append_left _ (List.mem_append_right _ h))
  have hl := lv_entry ([.ref (x 0)]) (n := 2) (Nat.le_of_ble_eq_true rfl)
  rw [lg_entry_eq]
  generalize (lg_sl ([.ref (x 0)]) ++ List.replicate (2 - (lg_sl ([.ref (x 0)])).length) Slot.unset).toArray = ls at hl ⊢
  have hl : lv_has ls 2 [(0, .ref (x 0))] := hl
  refine lv_iconst (v := 0) hx hb dX2_fillFree_0 (by decide) ?_
  refine lv_istore_n (lv' := [(1, .int 0), (0, .ref (x 0))]) hx hb dX2_fillFree_1 rfl hl (by decide) rfl (fun ls hl => ?_)
  have loop_2 : ∀ (kk : Nat) (n : Nat) (y0_2 : BK), n ≤ 6 → 6 - n < kk → y0_2 = f_X2_fillFree_2 X B X n → ∀ (H : Heap) (locs : List Loc), va_P D vwCl (xmW cA x b rd y0_2 N ++ (bkW (cA 0) (b 0) B)) H → va_D (zfr (xmW cA x b rd X N ++ (bkW (cA 0) (b 0) B))) (xmW cA x b rd y0_2 N ++ (bkW (cA 0) (b 0) B)) → va_S (zfr (xmW cA x b rd X N ++ (bkW (cA 0) (b 0) B))) s.heap H locs → ∀ (ls : Array Slot), lv_has ls 2 [(0, .ref (x 0)), (1, .int (nI n))] → W p l e (headSpec wsX2_fillFree (zrm 3 66)).room s m ([.ref (x 0)] : List Value).toArray below meth c H locs 0 0 (MQ below (zM D (xmW cA x b rd X N ++ (bkW (cA 0) (b 0) B)) (xmW cA x b rd (f_X2_fillFree X B) N ++ (bkW (cA 0) (b 0) B)) none) ([.ref (x 0)] : List Value).toArray s 0 0 (zfr (xmW cA x b rd X N ++ (bkW (cA 0) (b 0) B)))) (F0 m 2 ls []) := by
    intro kk
    induction kk with
    | zero => intro n y0_2 _ h9; exact absurd h9 (Nat.not_lt_zero _)
    | succ kk ih_2 =>
      intro n y0_2 hn_2 hm_2 q_y0_2 H locs hP hD hS ls hl
      refine lv_iload_n hx hb dX2_fillFree_2 rfl (lv_at hl 1 rfl) ?_
      refine lv_bipush (v := 6) hx hb dX2_fillFree_3 (by decide) ?_
      refine lv_icmp_ge (tgt := 28) hx hb dX2_fillFree_5 (by decide) (fun c_1 => ?_) (fun c_1 => ?_)
      · have c_1 : 6 ≤ n := (nI_leI (a := 6) (b := n) (by omega) (by omega)).mp c_1
        obtain rfl : n = 6 := by omega
        obtain ⟨z_2, hz_2⟩ : ∃ z9, z9 = f_X2_fillFree_2 X B X 6 := ⟨_, rfl⟩
        rw [← hz_2] at q_y0_2
        exact z_vretM (w1 := xmW cA x b rd y0_2 N ++ (bkW (cA 0) (b 0) B)) hx hb hr hlocks dX2_fillFree_28 hP hS (by subst q_y0_2; first | (simp -proj only [f_X2_fillFree, ← hz_2]; first | done | rfl; done) | rfl)
      · have c_1 : ¬ 6 ≤ n := fun h9 => c_1 ((nI_leI (a := 6) (b := n) (by omega) (by omega)).mpr h9)
        refine lv_aload_n hx hb dX2_fillFree_8 rfl (lv_at hl 0 rfl) ?_
        refine va_get (D := D) (ci := 2) (v := .ref (x 5)) (C := RX2) (T := TX2) (N := 9) hx hb hts hi2 hown hK hP 0 rfl rfl 8 (by decide) (hts (.fieldLink RX2 38 "PledgedLoans" "free" "[I") (List.mem_of_getElem? (i := 1) rfl)) (fun _ h9 => h9) rfl dX2_fillFree_9 ?_
        refine lv_iload_n hx hb dX2_fillFree_12 rfl (lv_at hl 1 rfl) ?_
        refine lv_aload_n hx hb dX2_fillFree_13 rfl (lv_at hl 0 rfl) ?_
        refine va_get (D := D) (ci := 2) (v := .ref (b 0 0)) (C := RX2) (T := TX2) (N := 9) hx hb hts hi2 hown hK hP 0 rfl rfl 0 (by decide) (hts (.fieldLink RX2 10 "PledgedLoans" "books" "LPledgedLoans$Books;") (List.mem_of_getElem? (i := 2) rfl)) (fun _ h9 => h9) rfl dX2_fillFree_14 ?_
        refine lv_iload_n hx hb dX2_fillFree_17 rfl (lv_at hl 1 rfl) ?_
        refine z_E (va_runV (As := [.int (nI n)]) (rest := [.int (nI n), .ref (x 5)]) ⟨hx, hb, hml, hown, hts⟩ (zc_X0_freeShares l D cA (b 0) B n (by omega)) (cwV 1 hts gX2_fillFree_X0_freeShares rfl rfl rfl zy_X0_freeShares ⟨Nat.le_of_ble_eq_true rfl, Nat.le_of_ble_eq_true rfl⟩) (z_preV (ci := 0) hK (hP.sub (ws' := bkW (cA 0) (b 0) B) [6, 7, 8, 9, 10, 11, 12, 13, 14] rfl) (hD.sub (ws' := bkW (cA 0) (b 0) B) [6, 7, 8, 9, 10, 11, 12, 13, 14] (by decide) rfl) rfl rfl) rfl rfl hl.1 rfl (lv_room (Nat.le_of_ble_eq_true rfl)) dX2_fillFree_18 ⟨Nat.zero_le _, Nat.zero_le _⟩) rfl ?_
        refine z_iast (j := n) hx hb hK hP hD hS 5 0 rfl rfl dX2_fillFree_21 (by omega) (by decide) (xmW cA x b rd (uB y0_2 1 n (f_X0_freeShares B n)) N ++ (bkW (cA 0) (b 0) B)) rfl (fun H locs hP9 hD9 hS9 => ?_)
        replace hP : va_P D vwCl (xmW cA x b rd (uB y0_2 1 n (f_X0_freeShares B n)) N ++ (bkW (cA 0) (b 0) B)) H := hP9
        replace hD : va_D _ (xmW cA x b rd (uB y0_2 1 n (f_X0_freeShares B n)) N ++ (bkW (cA 0) (b 0) B)) := hD9
        replace hS := hS9
        clear hP9 hD9 hS9
        refine lv_iinc (v := nI (n + 1)) (lv' := [(1, .int (nI (n + 1))), (0, .ref (x 0))]) hx hb dX2_fillFree_22 hl (k := 1) rfl (by rw [show (Int32.ofInt 1) = nI 1 from by decide]; exact nI_add n 1) (by decide) rfl (fun ls hl => ?_)
        refine lv_goto (tgt := 2) hx hb dX2_fillFree_25 (by decide) ?_
        exact ih_2 (n + 1) _ (by omega) (by omega) (by subst q_y0_2; first | (simp -proj only [f_X2_fillFree_2]; first | done | rfl; done) | rfl) _ _ hP hD hS ls (lv_sub hl [1, 0] rfl)
  exact loop_2 _ 0 _ (by omega) (Nat.lt_succ_self _) rfl _ _ hP hD hS ls (lv_sub hl [1, 0] rfl)

theorem zy_X2_freest : yX2_freest.cls = RX2 ∧ yX2_freest.cls ≠ "java/lang/invoke/MethodHandle" ∧ yX2_freest.cls ≠ "java/lang/invoke/VarHandle" ∧ (parseMethodDescriptor yX2_freest.desc).map (fun d => d.parameters.length) = some 1 := by decide +kernel
def f_X2_freest_4 (X : BK) (us : Int32) (i0 : Int32) : Nat → Int32
  | 0 => i0
  | n + 1 =>
    let y0_4 : Int32 := f_X2_freest_4 X us i0 n
    if (((us : Int32) >>> ((nI n) &&& 31)) &&& 1) = 0 then
      if y0_4 = (-1) then
        nI n
      else
        if (X 1 n) ≤ (X 1 ((y0_4).toNatClampNeg)) then
          nI ((y0_4).toNatClampNeg)
        else
          nI n
    else
      y0_4
def f_X2_freest (X : BK) (us : Int32) : Int32 :=
  let y0_4 : Int32 := f_X2_freest_4 X us (-1) 6
  y0_4

theorem zq_fr1 {y : Int32} (h1 : y = -1 ∨ ∃ q9 : Nat, q9 < 6 ∧ y = nI q9) (h : ¬ y = -1) : nI y.toNatClampNeg = -1 ∨ ∃ q9 : Nat, q9 < 6 ∧ nI y.toNatClampNeg = nI q9 := by
  rcases h1 with e | ⟨q9, hq, rfl⟩
  · exact absurd e h
  · exact Or.inr ⟨q9, hq, by rw [nI_clamp (by omega)]⟩
theorem zq_freest {X : BK} {us : Int32} (h : ¬ f_X2_freest X us = -1) : ∃ q9 : Nat, q9 < 6 ∧ f_X2_freest X us = nI q9 := by
  have key : ∀ (n : Nat), n ≤ 6 → f_X2_freest_4 X us (-1) n = -1 ∨ ∃ q9 : Nat, q9 < 6 ∧ f_X2_freest_4 X us (-1) n = nI q9 := by
    intro n
    induction n with
    | zero => intro _; exact Or.inl rfl
    | succ n ih =>
      intro hn
      have h1 := ih (by omega)
      unfold f_X2_freest_4
      dsimp only
      repeat' split
      all_goals first | exact h1 | exact Or.inr ⟨n, by omega, rfl⟩ | exact zq_fr1 h1 (by assumption)
  rcases key 6 (by omega) with e | e
  · exact absurd e h
  · exact e

set_option maxHeartbeats 4000000 in
set_option maxRecDepth 100000 in
theorem zc_X2_freest (l : Launch) (D : va_G) (cA : Nat → ClassId) (b : Nat → Nat → Nat) (rd : Nat) (x : Nat → Nat) (X : BK) (N : NK) (us : Int32)  : Met l yX2_freest wsX2_freest (zrm 0 0) (zPc D cA [.ref (x 0), .int us] (xmW cA x b rd X N)) (zE (some (.int (f_X2_freest X us)))) 0 0 (fun _ => False) := by
  refine Met.ofW (cc := cX2_freest) (maxL := 4) (ret := (some .int)) (by decide) rfl ?_
  intro p e s m args below meth c s₁ Bd hml hv
  obtain ⟨rfl, hP, hK, hD0⟩ := hv
  have hx := Bd.exec
  have hb := Bd.bytes
  have hr := Bd.returns
  have hts := atoms_spec (ws := wsX2_freest) Bd.pre
  have hown : s.vm.findClass RX2 = some m.cls := findClass_of_methodNamed Bd.named
  have hlocks := Bd.notSynchronized
  have hD := z_Dfr hD0
  have hS : va_S (zfr (xmW cA x b rd X N)) s.heap s.heap [] := va_S.rf
  have hi2 : ∀ w ∈ wsX20, w ∈ wsX2_freest := fun w h => List.mem_cons_of_mem _ (List.mem_append_right _ h)
  have hl := lv_entry ([.ref (x 0), .int us]) (n := 4) (Nat.le_of_ble_eq_true rfl)
  rw [lg_entry_eq]
  generalize (lg_sl ([.ref (x 0), .int us]) ++ List.replicate (4 - (lg_sl ([.ref (x 0), .int us])).length) Slot.unset).toArray = ls at hl ⊢
  have hl : lv_has ls 4 [(0, .ref (x 0)), (1, .int us)] := hl
  refine lv_iconst (v := (-1)) hx hb dX2_freest_0 (by decide) ?_
  refine lv_istore_n (lv' := [(2, .int (-1)), (0, .ref (x 0)), (1, .int us)]) hx hb dX2_freest_1 rfl hl (by decide) rfl (fun ls hl => ?_)
  refine lv_iconst (v := 0) hx hb dX2_freest_2 (by decide) ?_
  refine lv_istore_n (lv' := [(3, .int 0), (2, .int (-1)), (0, .ref (x 0)), (1, .int us)]) hx hb dX2_freest_3 rfl hl (by decide) rfl (fun ls hl => ?_)
  have loop_4 : ∀ (kk : Nat) (n : Nat) (y0_4 : Int32), n ≤ 6 → 6 - n < kk → (y0_4 = -1 ∨ ∃ q9 : Nat, q9 < 6 ∧ y0_4 = nI q9) → y0_4 = f_X2_freest_4 X us (-1) n → ∀ (ls : Array Slot), lv_has ls 4 [(0, .ref (x 0)), (1, .int us), (2, .int y0_4), (3, .int (nI n))] → W p l e (headSpec wsX2_freest (zrm 0 0)).room s m ([.ref (x 0), .int us] : List Value).toArray below meth c s.heap [] 0 0 (MQ below (zE (some (.int (f_X2_freest X us)))) ([.ref (x 0), .int us] : List Value).toArray s 0 0 (fun _ => False)) (F0 m 4 ls []) := by
    intro kk
    induction kk with
    | zero => intro n y0_4 _ h9; exact absurd h9 (Nat.not_lt_zero _)
    | succ kk ih_4 =>
      intro n y0_4 hn_4 hm_4 hi0_4 q_y0_4 ls hl
      refine lv_iload_n hx hb dX2_freest_4 rfl (lv_at hl 3 rfl) ?_
      refine lv_bipush (v := 6) hx hb dX2_freest_5 (by decide) ?_
      refine lv_icmp_ge (tgt := 46) hx hb dX2_freest_7 (by decide) (fun c_1 => ?_) (fun c_1 => ?_)
      · have c_1 : 6 ≤ n := (nI_leI (a := 6) (b := n) (by omega) (by omega)).mp c_1
        obtain rfl : n = 6 := by omega
        obtain ⟨z_4, hz_4⟩ : ∃ z9, z9 = f_X2_freest_4 X us (-1) 6 := ⟨_, rfl⟩
        rw [← hz_4] at q_y0_4
        refine lv_iload_n hx hb dX2_freest_46 rfl (lv_at hl 2 rfl) ?_
        exact z_iretE hx hb hr hlocks dX2_freest_47 (by subst q_y0_4; first | (simp -proj only [f_X2_freest, ← hz_4]; first | done | rfl; done) | rfl)
      · have c_1 : ¬ 6 ≤ n := fun h9 => c_1 ((nI_leI (a := 6) (b := n) (by omega) (by omega)).mpr h9)
        refine lv_iload_n hx hb dX2_freest_10 rfl (lv_at hl 1 rfl) ?_
        refine lv_iload_n hx hb dX2_freest_11 rfl (lv_at hl 3 rfl) ?_
        refine lv_ishr hx hb dX2_freest_12 ?_
        refine lv_iconst (v := 1) hx hb dX2_freest_13 (by decide) ?_
        refine lv_iand hx hb dX2_freest_14 ?_
        refine lv_if_ne (tgt := 40) hx hb dX2_freest_15 (by decide) (fun c_2 => ?_) (fun c_2 => ?_)
        · refine lv_iinc (v := nI (n + 1)) (lv' := [(3, .int (nI (n + 1))), (0, .ref (x 0)), (1, .int us), (2, .int y0_4)]) hx hb dX2_freest_40 hl (k := 3) rfl (by rw [show (Int32.ofInt 1) = nI 1 from by decide]; exact nI_add n 1) (by decide) rfl (fun ls hl => ?_)
          refine lv_goto (tgt := 4) hx hb dX2_freest_43 (by decide) ?_
          exact ih_4 (n + 1) _ (by omega) (by omega) (by first | assumption | exact Or.inr ⟨_, by omega, rfl⟩) (by subst q_y0_4; simp -proj only [f_X2_freest_4, if_neg c_2]; first | done | rfl) ls (lv_sub hl [1, 2, 3, 0] rfl)
        · refine lv_iload_n hx hb dX2_freest_18 rfl (lv_at hl 2 rfl) ?_
          refine lv_iconst (v := (-1)) hx hb dX2_freest_19 (by decide) ?_
          refine lv_icmp_eq (tgt := 38) hx hb dX2_freest_20 (by decide) (fun c_3 => ?_) (fun c_3 => ?_)
          · refine lv_iload_n hx hb dX2_freest_38 rfl (lv_at hl 3 rfl) ?_
            refine lv_istore_n (lv' := [(2, .int (nI n)), (0, .ref (x 0)), (1, .int us), (3, .int (nI n))]) hx hb dX2_freest_39 rfl hl (by decide) rfl (fun ls hl => ?_)
            refine lv_iinc (v := nI (n + 1)) (lv' := [(3, .int (nI (n + 1))), (2, .int (nI n)), (0, .ref (x 0)), (1, .int us)]) hx hb dX2_freest_40 hl (k := 3) rfl (by rw [show (Int32.ofInt 1) = nI 1 from by decide]; exact nI_add n 1) (by decide) rfl (fun ls hl => ?_)
            refine lv_goto (tgt := 4) hx hb dX2_freest_43 (by decide) ?_
            exact ih_4 (n + 1) _ (by omega) (by omega) (by first | assumption | exact Or.inr ⟨_, by omega, rfl⟩) (by subst q_y0_4; simp -proj only [f_X2_freest_4, if_pos c_2, if_pos c_3]; first | done | rfl) ls (lv_sub hl [2, 3, 1, 0] rfl)
          · obtain ⟨b1, hb1, qb1⟩ : ∃ q9 : Nat, q9 < 6 ∧ y0_4 = nI q9 := (Or.resolve_left hi0_4 c_3)
            have hcl_b1 : (nI b1).toNatClampNeg = b1 := nI_clamp (by omega)
            rw [qb1] at hl c_3
            refine lv_aload_n hx hb dX2_freest_23 rfl (lv_at hl 0 rfl) ?_
            refine va_get (D := D) (ci := 2) (v := .ref (x 5)) (C := RX2) (T := TX2) (N := 9) hx hb hts hi2 hown hK hP 0 rfl rfl 8 (by decide) (hts (.fieldLink RX2 38 "PledgedLoans" "free" "[I") (List.mem_of_getElem? (i := 1) rfl)) (fun _ h9 => h9) rfl dX2_freest_24 ?_
            refine lv_iload_n hx hb dX2_freest_27 rfl (lv_at hl 3 rfl) ?_
            refine z_iald (j := n) hx hb hK hP 5 0 rfl rfl dX2_freest_28 (by omega) (by decide) ?_
            refine lv_aload_n hx hb dX2_freest_29 rfl (lv_at hl 0 rfl) ?_
            refine va_get (D := D) (ci := 2) (v := .ref (x 5)) (C := RX2) (T := TX2) (N := 9) hx hb hts hi2 hown hK hP 0 rfl rfl 8 (by decide) (hts (.fieldLink RX2 38 "PledgedLoans" "free" "[I") (List.mem_of_getElem? (i := 1) rfl)) (fun _ h9 => h9) rfl dX2_freest_30 ?_
            refine lv_iload_n hx hb dX2_freest_33 rfl (lv_at hl 2 rfl) ?_
            refine z_iald (j := b1) hx hb hK hP 5 0 rfl rfl dX2_freest_34 (by omega) (by decide) ?_
            refine lv_icmp_le (tgt := 40) hx hb dX2_freest_35 (by decide) (fun c_4 => ?_) (fun c_4 => ?_)
            · refine lv_iinc (v := nI (n + 1)) (lv' := [(3, .int (nI (n + 1))), (0, .ref (x 0)), (1, .int us), (2, .int (nI b1))]) hx hb dX2_freest_40 hl (k := 3) rfl (by rw [show (Int32.ofInt 1) = nI 1 from by decide]; exact nI_add n 1) (by decide) rfl (fun ls hl => ?_)
              refine lv_goto (tgt := 4) hx hb dX2_freest_43 (by decide) ?_
              exact ih_4 (n + 1) _ (by omega) (by omega) (by first | assumption | exact Or.inr ⟨_, by omega, rfl⟩) (by subst q_y0_4; simp -proj only [f_X2_freest_4, if_pos c_2, if_neg c_3, if_pos c_4, qb1, hcl_b1]; first | done | rfl) ls (lv_sub hl [1, 2, 3, 0] rfl)
            · refine lv_iload_n hx hb dX2_freest_38 rfl (lv_at hl 3 rfl) ?_
              refine lv_istore_n (lv' := [(2, .int (nI n)), (0, .ref (x 0)), (1, .int us), (3, .int (nI n))]) hx hb dX2_freest_39 rfl hl (by decide) rfl (fun ls hl => ?_)
              refine lv_iinc (v := nI (n + 1)) (lv' := [(3, .int (nI (n + 1))), (2, .int (nI n)), (0, .ref (x 0)), (1, .int us)]) hx hb dX2_freest_40 hl (k := 3) rfl (by rw [show (Int32.ofInt 1) = nI 1 from by decide]; exact nI_add n 1) (by decide) rfl (fun ls hl => ?_)
              refine lv_goto (tgt := 4) hx hb dX2_freest_43 (by decide) ?_
              exact ih_4 (n + 1) _ (by omega) (by omega) (by first | assumption | exact Or.inr ⟨_, by omega, rfl⟩) (by subst q_y0_4; simp -proj only [f_X2_freest_4, if_pos c_2, if_neg c_3, if_neg c_4, qb1, hcl_b1]; first | done | rfl) ls (lv_sub hl [2, 3, 1, 0] rfl)
  exact loop_4 _ 0 _ (by omega) (Nat.lt_succ_self _) (by exact Or.inl rfl) rfl ls (lv_sub hl [2, 3, 1, 0] rfl)

theorem zy_X2_freeOf : yX2_freeOf.cls = RX2 ∧ yX2_freeOf.cls ≠ "java/lang/invoke/MethodHandle" ∧ yX2_freeOf.cls ≠ "java/lang/invoke/VarHandle" ∧ (parseMethodDescriptor yX2_freeOf.desc).map (fun d => d.parameters.length) = some 1 := by decide +kernel
def f_X2_freeOf_4 (X : BK) (th : Int32) (i0 : Int32) : Nat → Int32
  | 0 => i0
  | n + 1 =>
    let y0_4 : Int32 := f_X2_freeOf_4 X th i0 n
    if (((th : Int32) >>> ((nI n) &&& 31)) &&& 1) = 1 then
      y0_4 + (X 1 n)
    else
      y0_4
def f_X2_freeOf (X : BK) (th : Int32) : Int32 :=
  let y0_4 : Int32 := f_X2_freeOf_4 X th 0 6
  y0_4

set_option maxHeartbeats 4000000 in
set_option maxRecDepth 100000 in
theorem zc_X2_freeOf (l : Launch) (D : va_G) (cA : Nat → ClassId) (b : Nat → Nat → Nat) (rd : Nat) (x : Nat → Nat) (X : BK) (N : NK) (th : Int32)  : Met l yX2_freeOf wsX2_freeOf (zrm 0 0) (zPc D cA [.ref (x 0), .int th] (xmW cA x b rd X N)) (zE (some (.int (f_X2_freeOf X th)))) 0 0 (fun _ => False) := by
  refine Met.ofW (cc := cX2_freeOf) (maxL := 4) (ret := (some .int)) (by decide) rfl ?_
  intro p e s m args below meth c s₁ Bd hml hv
  obtain ⟨rfl, hP, hK, hD0⟩ := hv
  have hx := Bd.exec
  have hb := Bd.bytes
  have hr := Bd.returns
  have hts := atoms_spec (ws := wsX2_freeOf) Bd.pre
  have hown : s.vm.findClass RX2 = some m.cls := findClass_of_methodNamed Bd.named
  have hlocks := Bd.notSynchronized
  have hD := z_Dfr hD0
  have hS : va_S (zfr (xmW cA x b rd X N)) s.heap s.heap [] := va_S.rf
  have hi2 : ∀ w ∈ wsX20, w ∈ wsX2_freeOf := fun w h => List.mem_cons_of_mem _ (List.mem_append_right _ h)
  have hl := lv_entry ([.ref (x 0), .int th]) (n := 4) (Nat.le_of_ble_eq_true rfl)
  rw [lg_entry_eq]
  generalize (lg_sl ([.ref (x 0), .int th]) ++ List.replicate (4 - (lg_sl ([.ref (x 0), .int th])).length) Slot.unset).toArray = ls at hl ⊢
  have hl : lv_has ls 4 [(0, .ref (x 0)), (1, .int th)] := hl
  refine lv_iconst (v := 0) hx hb dX2_freeOf_0 (by decide) ?_
  refine lv_istore_n (lv' := [(2, .int 0), (0, .ref (x 0)), (1, .int th)]) hx hb dX2_freeOf_1 rfl hl (by decide) rfl (fun ls hl => ?_)
  refine lv_iconst (v := 0) hx hb dX2_freeOf_2 (by decide) ?_
  refine lv_istore_n (lv' := [(3, .int 0), (2, .int 0), (0, .ref (x 0)), (1, .int th)]) hx hb dX2_freeOf_3 rfl hl (by decide) rfl (fun ls hl => ?_)
  have loop_4 : ∀ (kk : Nat) (n : Nat) (y0_4 : Int32), n ≤ 6 → 6 - n < kk → y0_4 = f_X2_freeOf_4 X th 0 n → ∀ (ls : Array Slot), lv_has ls 4 [(0, .ref (x 0)), (1, .int th), (2, .int y0_4), (3, .int (nI n))] → W p l e (headSpec wsX2_freeOf (zrm 0 0)).room s m ([.ref (x 0), .int th] : List Value).toArray below meth c s.heap [] 0 0 (MQ below (zE (some (.int (f_X2_freeOf X th)))) ([.ref (x 0), .int th] : List Value).toArray s 0 0 (fun _ => False)) (F0 m 4 ls []) := by
    intro kk
    induction kk with
    | zero => intro n y0_4 _ h9; exact absurd h9 (Nat.not_lt_zero _)
    | succ kk ih_4 =>
      intro n y0_4 hn_4 hm_4 q_y0_4 ls hl
      refine lv_iload_n hx hb dX2_freeOf_4 rfl (lv_at hl 3 rfl) ?_
      refine lv_bipush (v := 6) hx hb dX2_freeOf_5 (by decide) ?_
      refine lv_icmp_ge (tgt := 34) hx hb dX2_freeOf_7 (by decide) (fun c_1 => ?_) (fun c_1 => ?_)
      · have c_1 : 6 ≤ n := (nI_leI (a := 6) (b := n) (by omega) (by omega)).mp c_1
        obtain rfl : n = 6 := by omega
        obtain ⟨z_4, hz_4⟩ : ∃ z9, z9 = f_X2_freeOf_4 X th 0 6 := ⟨_, rfl⟩
        rw [← hz_4] at q_y0_4
        refine lv_iload_n hx hb dX2_freeOf_34 rfl (lv_at hl 2 rfl) ?_
        exact z_iretE hx hb hr hlocks dX2_freeOf_35 (by subst q_y0_4; first | (simp -proj only [f_X2_freeOf, ← hz_4]; first | done | rfl; done) | rfl)
      · have c_1 : ¬ 6 ≤ n := fun h9 => c_1 ((nI_leI (a := 6) (b := n) (by omega) (by omega)).mpr h9)
        refine lv_iload_n hx hb dX2_freeOf_10 rfl (lv_at hl 1 rfl) ?_
        refine lv_iload_n hx hb dX2_freeOf_11 rfl (lv_at hl 3 rfl) ?_
        refine lv_ishr hx hb dX2_freeOf_12 ?_
        refine lv_iconst (v := 1) hx hb dX2_freeOf_13 (by decide) ?_
        refine lv_iand hx hb dX2_freeOf_14 ?_
        refine lv_iconst (v := 1) hx hb dX2_freeOf_15 (by decide) ?_
        refine lv_icmp_ne (tgt := 28) hx hb dX2_freeOf_16 (by decide) (fun c_2 => ?_) (fun c_2 => ?_)
        · refine lv_iinc (v := nI (n + 1)) (lv' := [(3, .int (nI (n + 1))), (0, .ref (x 0)), (1, .int th), (2, .int y0_4)]) hx hb dX2_freeOf_28 hl (k := 3) rfl (by rw [show (Int32.ofInt 1) = nI 1 from by decide]; exact nI_add n 1) (by decide) rfl (fun ls hl => ?_)
          refine lv_goto (tgt := 4) hx hb dX2_freeOf_31 (by decide) ?_
          exact ih_4 (n + 1) _ (by omega) (by omega) (by subst q_y0_4; simp -proj only [f_X2_freeOf_4, if_neg c_2]; first | done | rfl) ls (lv_sub hl [1, 2, 3, 0] rfl)
        · refine lv_iload_n hx hb dX2_freeOf_19 rfl (lv_at hl 2 rfl) ?_
          refine lv_aload_n hx hb dX2_freeOf_20 rfl (lv_at hl 0 rfl) ?_
          refine va_get (D := D) (ci := 2) (v := .ref (x 5)) (C := RX2) (T := TX2) (N := 9) hx hb hts hi2 hown hK hP 0 rfl rfl 8 (by decide) (hts (.fieldLink RX2 38 "PledgedLoans" "free" "[I") (List.mem_of_getElem? (i := 1) rfl)) (fun _ h9 => h9) rfl dX2_freeOf_21 ?_
          refine lv_iload_n hx hb dX2_freeOf_24 rfl (lv_at hl 3 rfl) ?_
          refine z_iald (j := n) hx hb hK hP 5 0 rfl rfl dX2_freeOf_25 (by omega) (by decide) ?_
          refine lv_iadd hx hb dX2_freeOf_26 ?_
          refine lv_istore_n (lv' := [(2, .int (y0_4 + (X 1 n))), (0, .ref (x 0)), (1, .int th), (3, .int (nI n))]) hx hb dX2_freeOf_27 rfl hl (by decide) rfl (fun ls hl => ?_)
          refine lv_iinc (v := nI (n + 1)) (lv' := [(3, .int (nI (n + 1))), (2, .int (y0_4 + (X 1 n))), (0, .ref (x 0)), (1, .int th)]) hx hb dX2_freeOf_28 hl (k := 3) rfl (by rw [show (Int32.ofInt 1) = nI 1 from by decide]; exact nI_add n 1) (by decide) rfl (fun ls hl => ?_)
          refine lv_goto (tgt := 4) hx hb dX2_freeOf_31 (by decide) ?_
          exact ih_4 (n + 1) _ (by omega) (by omega) (by subst q_y0_4; simp -proj only [f_X2_freeOf_4, if_pos c_2]; first | done | rfl) ls (lv_sub hl [2, 3, 1, 0] rfl)
  exact loop_4 _ 0 _ (by omega) (Nat.lt_succ_self _) rfl ls (lv_sub hl [2, 3, 1, 0] rfl)

theorem zy_X2_fewestByGreatest : yX2_fewestByGreatest.cls = RX2 ∧ yX2_fewestByGreatest.cls ≠ "java/lang/invoke/MethodHandle" ∧ yX2_fewestByGreatest.cls ≠ "java/lang/invoke/VarHandle" ∧ (parseMethodDescriptor yX2_fewestByGreatest.desc).map (fun d => d.parameters.length) = some 2 := by decide +kernel
def f_X2_fewestByGreatest_21 (X : BK) (B : BK) (mb : Nat) (am : Int32) : Nat → Int32 → Int32 → Nat → BK → Int32 × BK
  | 0, cv, us, q, X1 => (0, X1)
  | k + 1, cv, us, q, X1 =>
    if 6 ≤ q then
      ((-1), X1)
    else
      if cv < am then
        if (f_X2_freest X1 us) = (-1) then
          ((-1), X1)
        else
          f_X2_fewestByGreatest_21 X B mb am k (cv + (X1 1 ((f_X2_freest X1 us).toNatClampNeg))) (us ||| ((1 : Int32) <<< ((nI ((f_X2_freest X1 us).toNatClampNeg)) &&& 31))) (q + 1) X1
      else
        (nI q, X1)
def f_X2_fewestByGreatest (X : BK) (B : BK) (mb : Nat) (am : Int32) : Int32 × BK :=
  let M_1 : BK := f_X2_fillFree X B
  f_X2_fewestByGreatest_21 X B mb am 8 (f_X0_cover B mb) ((1 : Int32) <<< ((nI mb) &&& 31)) 0 M_1

set_option maxHeartbeats 4000000 in
set_option maxRecDepth 100000 in
theorem zc_X2_fewestByGreatest (l : Launch) (D : va_G) (cA : Nat → ClassId) (b : Nat → Nat → Nat) (rd : Nat) (x : Nat → Nat) (X : BK) (N : NK) (B : BK) (mb : Nat) (am : Int32) (hmb : mb < 6) : Met l yX2_fewestByGreatest wsX2_fewestByGreatest (zrm 4 87) (zPc D cA [.ref (x 0), .int (nI mb), .int am] (xmW cA x b rd X N ++ (bkW (cA 0) (b 0) B))) (zM D (xmW cA x b rd X N ++ (bkW (cA 0) (b 0) B)) (xmW cA x b rd ((f_X2_fewestByGreatest X B mb am).2) N ++ (bkW (cA 0) (b 0) B)) (some (.int ((f_X2_fewestByGreatest X B mb am).1)))) 0 0 (zfr (xmW cA x b rd X N ++ (bkW (cA 0) (b 0) B))) := by
  refine Met.ofW (cc := cX2_fewestByGreatest) (maxL := 7) (ret := (some .int)) (by decide) rfl ?_
  intro p e s m args below meth c s₁ Bd hml hv
  obtain ⟨rfl, hP, hK, hD0⟩ := hv
  have hx := Bd.exec
  have hb := Bd.bytes
  have hr := Bd.returns
  have hts := atoms_spec (ws := wsX2_fewestByGreatest) Bd.pre
  have hown : s.vm.findClass RX2 = some m.cls := findClass_of_methodNamed Bd.named
  have hlocks := Bd.notSynchronized
  have hD := z_Dfr hD0
  have hS : va_S (zfr (xmW cA x b rd X N ++ (bkW (cA 0) (b 0) B))) s.heap s.heap [] := va_S.rf
  have hi0 : ∀ w ∈ wsX00, w ∈ wsX2_fewestByGreatest := fun w h => List.mem_cons_of_mem _ (List.mem_append_right _ h)
  have hi2 : ∀ w ∈ wsX20, w ∈ wsX2_fewestByGreatest := fun w h => List.mem_cons_of_mem _ (List.mem_append_left _ (List.mem_append_right _ h))
  have hl := lv_entry ([.ref (x 0), .int (nI mb), .int am]) (n := 7) (Nat.le_of_ble_eq_true rfl)
  rw [lg_entry_eq]
  generalize (lg_sl ([.ref (x 0), .int (nI mb), .int am]) ++ List.replicate (7 - (lg_sl ([.ref (x 0), .int (nI mb), .int am])).length) Slot.unset).toArray = ls at hl ⊢
  have hl : lv_has ls 7 [(0, .ref (x 0)), (1, .int (nI mb)), (2, .int am)] := hl
  refine lv_aload_n hx hb dX2_fewestByGreatest_0 rfl (lv_at hl 0 rfl) ?_
  refine z_M (X := ([] : va_W)) (Z := ([] : va_W)) (va_runV (As := []) (rest := []) ⟨hx, hb, hml, hown, hts⟩ (zc_X2_fillFree l D cA b rd x X N B) (cwV 0 hts gX2_fewestByGreatest_X2_fillFree rfl rfl rfl zy_X2_fillFree ⟨Nat.le_of_ble_eq_true rfl, Nat.le_of_ble_eq_true rfl⟩) (z_preV (ci := 2) hK hP hD rfl rfl) rfl rfl hl.1 rfl (lv_room (Nat.le_of_ble_eq_true rfl)) dX2_fewestByGreatest_1 ⟨Nat.zero_le _, Nat.zero_le _⟩) hP hD hS (z_adr2 xmW_adr bkW_adr) rfl (fun H locs hP9 hD9 hS9 => ?_)
  replace hP : va_P D vwCl (xmW cA x b rd (f_X2_fillFree X B) N ++ (bkW (cA 0) (b 0) B)) H := hP9
  replace hD : va_D _ (xmW cA x b rd (f_X2_fillFree X B) N ++ (bkW (cA 0) (b 0) B)) := hD9
  replace hS := hS9
  clear hP9 hD9 hS9
  obtain ⟨M_1, eM_1⟩ : ∃ z9 : BK, z9 = f_X2_fillFree X B := ⟨_, rfl⟩
  rw [← eM_1] at hP hD
  refine lv_aload_n hx hb dX2_fewestByGreatest_4 rfl (lv_at hl 0 rfl) ?_
  refine va_get (D := D) (ci := 2) (v := .ref (b 0 0)) (C := RX2) (T := TX2) (N := 9) hx hb hts hi2 hown hK hP 0 rfl rfl 0 (by decide) (hts (.fieldLink RX2 10 "PledgedLoans" "books" "LPledgedLoans$Books;") (List.mem_of_getElem? (i := 1) rfl)) (fun _ h9 => h9) rfl dX2_fewestByGreatest_5 ?_
  refine lv_iload_n hx hb dX2_fewestByGreatest_8 rfl (lv_at hl 1 rfl) ?_
  refine z_E (va_runV (As := [.int (nI mb)]) (rest := []) ⟨hx, hb, hml, hown, hts⟩ (zc_X0_cover l D cA (b 0) B mb (by omega)) (cwV 1 hts gX2_fewestByGreatest_X0_cover rfl rfl rfl zy_X0_cover ⟨Nat.le_of_ble_eq_true rfl, Nat.le_of_ble_eq_true rfl⟩) (z_preV (ci := 0) hK (hP.sub (ws' := bkW (cA 0) (b 0) B) [6, 7, 8, 9, 10, 11, 12, 13, 14] rfl) (hD.sub (ws' := bkW (cA 0) (b 0) B) [6, 7, 8, 9, 10, 11, 12, 13, 14] (by decide) rfl) rfl rfl) rfl rfl hl.1 rfl (lv_room (Nat.le_of_ble_eq_true rfl)) dX2_fewestByGreatest_9 ⟨Nat.zero_le _, Nat.zero_le _⟩) rfl ?_
  refine lv_istore_n (lv' := [(3, .int (f_X0_cover B mb)), (0, .ref (x 0)), (1, .int (nI mb)), (2, .int am)]) hx hb dX2_fewestByGreatest_12 rfl hl (by decide) rfl (fun ls hl => ?_)
  refine lv_iconst (v := 1) hx hb dX2_fewestByGreatest_13 (by decide) ?_
  refine lv_iload_n hx hb dX2_fewestByGreatest_14 rfl (lv_at hl 2 rfl) ?_
  refine lv_ishl hx hb dX2_fewestByGreatest_15 ?_
  refine lv_istore (lv' := [(4, .int ((1 : Int32) <<< ((nI mb) &&& 31))), (3, .int (f_X0_cover B mb)), (0, .ref (x 0)), (1, .int (nI mb)), (2, .int am)]) hx hb dX2_fewestByGreatest_16 hl (by decide) rfl (fun ls hl => ?_)
  refine lv_iconst (v := 0) hx hb dX2_fewestByGreatest_18 (by decide) ?_
  refine lv_istore (lv' := [(5, .int 0), (4, .int ((1 : Int32) <<< ((nI mb) &&& 31))), (3, .int (f_X0_cover B mb)), (0, .ref (x 0)), (1, .int (nI mb)), (2, .int am)]) hx hb dX2_fewestByGreatest_19 hl (by decide) rfl (fun ls hl => ?_)
  have loop_21 : ∀ (kk : Nat) (cv : Int32) (us : Int32) (q : Nat) (X1 : BK), 7 - q < kk → q < 7 → f_X2_fewestByGreatest X B mb am = f_X2_fewestByGreatest_21 X B mb am kk cv us q X1 → ∀ (H : Heap) (locs : List Loc), va_P D vwCl (xmW cA x b rd X1 N ++ (bkW (cA 0) (b 0) B)) H → va_D (zfr (xmW cA x b rd X N ++ (bkW (cA 0) (b 0) B))) (xmW cA x b rd X1 N ++ (bkW (cA 0) (b 0) B)) → va_S (zfr (xmW cA x b rd X N ++ (bkW (cA 0) (b 0) B))) s.heap H locs → ∀ (ls : Array Slot), lv_has ls 7 [(0, .ref (x 0)), (1, .int (nI mb)), (2, .int am), (3, .int cv), (4, .int us), (5, .int (nI q))] → W p l e (headSpec wsX2_fewestByGreatest (zrm 4 87)).room s m ([.ref (x 0), .int (nI mb), .int am] : List Value).toArray below meth c H locs 0 0 (MQ below (zM D (xmW cA x b rd X N ++ (bkW (cA 0) (b 0) B)) (xmW cA x b rd ((f_X2_fewestByGreatest X B mb am).2) N ++ (bkW (cA 0) (b 0) B)) (some (.int ((f_X2_fewestByGreatest X B mb am).1)))) ([.ref (x 0), .int (nI mb), .int am] : List Value).toArray s 0 0 (zfr (xmW cA x b rd X N ++ (bkW (cA 0) (b 0) B)))) (F0 m 21 ls []) := by
    intro kk
    induction kk with
    | zero => intro cv us q X1 h9; exact absurd h9 (Nat.not_lt_zero _)
    | succ kk ih_21 =>
      intro cv us q X1 hm_21 hi0_21 hres_21 H locs hP hD hS ls hl
      refine lv_iload hx hb dX2_fewestByGreatest_21 (lv_at hl 5 rfl) ?_
      refine lv_bipush (v := 6) hx hb dX2_fewestByGreatest_23 (by decide) ?_
      refine lv_icmp_ge (tgt := 77) hx hb dX2_fewestByGreatest_25 (by decide) (fun c_2 => ?_) (fun c_2 => ?_)
      · have c_2 : 6 ≤ q := (nI_leI (a := 6) (b := q) (by omega) (by omega)).mp c_2
        refine lv_iconst (v := (-1)) hx hb dX2_fewestByGreatest_77 (by decide) ?_
        exact z_iretM (w1 := xmW cA x b rd X1 N ++ (bkW (cA 0) (b 0) B)) hx hb hr hlocks dX2_fewestByGreatest_78 hP hS (by subst eM_1; rw [hres_21]; simp only [f_X2_fewestByGreatest_21, if_pos c_2]) (by subst eM_1; rw [hres_21]; simp only [f_X2_fewestByGreatest_21, if_pos c_2])
      · have c_2 : ¬ 6 ≤ q := fun h9 => c_2 ((nI_leI (a := 6) (b := q) (by omega) (by omega)).mpr h9)
        refine lv_iload_n hx hb dX2_fewestByGreatest_28 rfl (lv_at hl 3 rfl) ?_
        refine lv_iload_n hx hb dX2_fewestByGreatest_29 rfl (lv_at hl 2 rfl) ?_
        refine lv_icmp_lt (tgt := 36) hx hb dX2_fewestByGreatest_30 (by decide) (fun c_3 => ?_) (fun c_3 => ?_)
        · refine lv_aload_n hx hb dX2_fewestByGreatest_36 rfl (lv_at hl 0 rfl) ?_
          refine lv_iload hx hb dX2_fewestByGreatest_37 (lv_at hl 4 rfl) ?_
          refine z_E (va_runV (As := [.int us]) (rest := []) ⟨hx, hb, hml, hown, hts⟩ (zc_X2_freest l D cA b rd x X1 N us) (cwV 1 hts gX2_fewestByGreatest_X2_freest rfl rfl rfl zy_X2_freest ⟨Nat.le_of_ble_eq_true rfl, Nat.le_of_ble_eq_true rfl⟩) (z_preV (ci := 2) hK (hP.sub (ws' := xmW cA x b rd X1 N) [0, 1, 2, 3, 4, 5] rfl) (hD.sub (ws' := xmW cA x b rd X1 N) [0, 1, 2, 3, 4, 5] (by decide) rfl) rfl rfl) rfl rfl hl.1 rfl (lv_room (Nat.le_of_ble_eq_true rfl)) dX2_fewestByGreatest_39 ⟨Nat.zero_le _, Nat.zero_le _⟩) rfl ?_
          refine lv_istore (lv' := [(6, .int (f_X2_freest X1 us)), (0, .ref (x 0)), (1, .int (nI mb)), (2, .int am), (3, .int cv), (4, .int us), (5, .int (nI q))]) hx hb dX2_fewestByGreatest_42 hl (by decide) rfl (fun ls hl => ?_)
          refine lv_iload hx hb dX2_fewestByGreatest_44 (lv_at hl 0 rfl) ?_
          refine lv_iconst (v := (-1)) hx hb dX2_fewestByGreatest_46 (by decide) ?_
          refine lv_icmp_ne (tgt := 52) hx hb dX2_fewestByGreatest_47 (by decide) (fun c_4 => ?_) (fun c_4 => ?_)
          · obtain ⟨b1, hb1, qb1⟩ : ∃ q9 : Nat, q9 < 6 ∧ f_X2_freest X1 us = nI q9 := (zq_freest c_4)
            have hcl_b1 : (nI b1).toNatClampNeg = b1 := nI_clamp (by omega)
            rw [qb1] at hl c_4
            refine lv_iload_n hx hb dX2_fewestByGreatest_52 rfl (lv_at hl 4 rfl) ?_
            refine lv_aload_n hx hb dX2_fewestByGreatest_53 rfl (lv_at hl 1 rfl) ?_
            refine va_get (D := D) (ci := 2) (v := .ref (x 5)) (C := RX2) (T := TX2) (N := 9) hx hb hts hi2 hown hK hP 0 rfl rfl 8 (by decide) (hts (.fieldLink RX2 38 "PledgedLoans" "free" "[I") (List.mem_of_getElem? (i := 2) rfl)) (fun _ h9 => h9) rfl dX2_fewestByGreatest_54 ?_
            refine lv_iload hx hb dX2_fewestByGreatest_57 (lv_at hl 0 rfl) ?_
            refine z_iald (j := b1) hx hb hK hP 5 0 rfl rfl dX2_fewestByGreatest_59 (by omega) (by decide) ?_
            refine lv_iadd hx hb dX2_fewestByGreatest_60 ?_
            refine lv_istore_n (lv' := [(3, .int (cv + (X1 1 b1))), (6, .int (nI b1)), (0, .ref (x 0)), (1, .int (nI mb)), (2, .int am), (4, .int us), (5, .int (nI q))]) hx hb dX2_fewestByGreatest_61 rfl hl (by decide) rfl (fun ls hl => ?_)
            refine lv_iload hx hb dX2_fewestByGreatest_62 (lv_at hl 5 rfl) ?_
            refine lv_iconst (v := 1) hx hb dX2_fewestByGreatest_64 (by decide) ?_
            refine lv_iload hx hb dX2_fewestByGreatest_65 (lv_at hl 1 rfl) ?_
            refine lv_ishl hx hb dX2_fewestByGreatest_67 ?_
            refine lv_ior hx hb dX2_fewestByGreatest_68 ?_
            refine lv_istore (lv' := [(4, .int (us ||| ((1 : Int32) <<< ((nI b1) &&& 31)))), (3, .int (cv + (X1 1 b1))), (6, .int (nI b1)), (0, .ref (x 0)), (1, .int (nI mb)), (2, .int am), (5, .int (nI q))]) hx hb dX2_fewestByGreatest_69 hl (by decide) rfl (fun ls hl => ?_)
            refine lv_iinc (v := nI (q + 1)) (lv' := [(5, .int (nI (q + 1))), (4, .int (us ||| ((1 : Int32) <<< ((nI b1) &&& 31)))), (3, .int (cv + (X1 1 b1))), (6, .int (nI b1)), (0, .ref (x 0)), (1, .int (nI mb)), (2, .int am)]) hx hb dX2_fewestByGreatest_71 hl (k := 6) rfl (by rw [show (Int32.ofInt 1) = nI 1 from by decide]; exact nI_add q 1) (by decide) rfl (fun ls hl => ?_)
            refine lv_goto (tgt := 21) hx hb dX2_fewestByGreatest_74 (by decide) ?_
            exact ih_21 (cv + (X1 1 b1)) (us ||| ((1 : Int32) <<< ((nI b1) &&& 31))) (q + 1) X1 (by omega) (by omega) (by subst eM_1; rw [hres_21]; simp only [f_X2_fewestByGreatest_21, if_neg c_2, if_pos c_3, if_neg c_4, qb1, hcl_b1]) _ _ hP hD hS ls (lv_sub hl [4, 5, 6, 2, 1, 0] rfl)
          · refine lv_iconst (v := (-1)) hx hb dX2_fewestByGreatest_50 (by decide) ?_
            exact z_iretM (w1 := xmW cA x b rd X1 N ++ (bkW (cA 0) (b 0) B)) hx hb hr hlocks dX2_fewestByGreatest_51 hP hS (by subst eM_1; rw [hres_21]; simp only [f_X2_fewestByGreatest_21, if_neg c_2, if_pos c_3, if_pos c_4]) (by subst eM_1; rw [hres_21]; simp only [f_X2_fewestByGreatest_21, if_neg c_2, if_pos c_3, if_pos c_4])
        · refine lv_iload hx hb dX2_fewestByGreatest_33 (lv_at hl 5 rfl) ?_
          exact z_iretM (w1 := xmW cA x b rd X1 N ++ (bkW (cA 0) (b 0) B)) hx hb hr hlocks dX2_fewestByGreatest_35 hP hS (by subst eM_1; rw [hres_21]; simp only [f_X2_fewestByGreatest_21, if_neg c_2, if_neg c_3]) (by subst eM_1; rw [hres_21]; simp only [f_X2_fewestByGreatest_21, if_neg c_2, if_neg c_3])
  exact loop_21 8 (f_X0_cover B mb) ((1 : Int32) <<< ((nI mb) &&& 31)) 0 M_1 (by omega) (by omega) (by subst eM_1; first | (simp only [f_X2_fewestByGreatest]; done) | rfl) _ _ hP hD hS ls (lv_sub hl [3, 4, 5, 2, 1, 0] rfl)

theorem zy_X2_fewestBySets : yX2_fewestBySets.cls = RX2 ∧ yX2_fewestBySets.cls ≠ "java/lang/invoke/MethodHandle" ∧ yX2_fewestBySets.cls ≠ "java/lang/invoke/VarHandle" ∧ (parseMethodDescriptor yX2_fewestBySets.desc).map (fun d => d.parameters.length) = some 2 := by decide +kernel
def f_X2_fewestBySets_19 (X : BK) (B : BK) (mb : Nat) (am : Int32) (M_1 : BK) (i0 : Int32) : Nat → Int32
  | 0 => i0
  | n + 1 =>
    let y0_19 : Int32 := f_X2_fewestBySets_19 X B mb am M_1 i0 n
    if (((nI n : Int32) >>> ((nI mb) &&& 31)) &&& 1) = 0 then
      if y0_19 = (-1) then
        if ((f_X0_cover B mb) + (f_X2_freeOf M_1 (nI n))) < am then
          y0_19
        else
          f_J6_bitCount_0f7a4 (nI n)
      else
        if y0_19 ≤ (f_J6_bitCount_0f7a4 (nI n)) then
          y0_19
        else
          if ((f_X0_cover B mb) + (f_X2_freeOf M_1 (nI n))) < am then
            y0_19
          else
            f_J6_bitCount_0f7a4 (nI n)
    else
      y0_19
def f_X2_fewestBySets (X : BK) (B : BK) (mb : Nat) (am : Int32) : Int32 × BK :=
  let M_1 : BK := f_X2_fillFree X B
  let y0_19 : Int32 := f_X2_fewestBySets_19 X B mb am M_1 (-1) 64
  (y0_19, M_1)

set_option maxHeartbeats 4000000 in
set_option maxRecDepth 100000 in
theorem zc_X2_fewestBySets (l : Launch) (D : va_G) (cA : Nat → ClassId) (b : Nat → Nat → Nat) (rd : Nat) (x : Nat → Nat) (X : BK) (N : NK) (B : BK) (mb : Nat) (am : Int32) (hmb : mb < 6) : Met l yX2_fewestBySets wsX2_fewestBySets (zrm 4 87) (zPc D cA [.ref (x 0), .int (nI mb), .int am] (xmW cA x b rd X N ++ (bkW (cA 0) (b 0) B))) (zM D (xmW cA x b rd X N ++ (bkW (cA 0) (b 0) B)) (xmW cA x b rd ((f_X2_fewestBySets X B mb am).2) N ++ (bkW (cA 0) (b 0) B)) (some (.int ((f_X2_fewestBySets X B mb am).1)))) 0 0 (zfr (xmW cA x b rd X N ++ (bkW (cA 0) (b 0) B))) := by
  refine Met.ofW (cc := cX2_fewestBySets) (maxL := 8) (ret := (some .int)) (by decide) rfl ?_
  intro p e s m args below meth c s₁ Bd hml hv
  obtain ⟨rfl, hP, hK, hD0⟩ := hv
  have hx := Bd.exec
  have hb := Bd.bytes
  have hr := Bd.returns
  have hts := atoms_spec (ws := wsX2_fewestBySets) Bd.pre
  have hown : s.vm.findClass RX2 = some m.cls := findClass_of_methodNamed Bd.named
  have hlocks := Bd.notSynchronized
  have hD := z_Dfr hD0
  have hS : va_S (zfr (xmW cA x b rd X N ++ (bkW (cA 0) (b 0) B))) s.heap s.heap [] := va_S.rf
  have hi0 : ∀ w ∈ wsX00, w ∈ wsX2_fewestBySets := fun w h => List.mem_cons_of_mem _ (List.mem_append_right _ h)
  have hi2 : ∀ w ∈ wsX20, w ∈ wsX2_fewestBySets := fun w h => List.mem_cons_of_mem _ (List.mem_append_left _ (List.mem_append_right _ h))
  have hl := lv_entry ([.ref (x 0), .int (nI mb), .int am]) (n := 8) (Nat.le_of_ble_eq_true rfl)
  rw [lg_entry_eq]
  generalize (lg_sl ([.ref (x 0), .int (nI mb), .int am]) ++ List.replicate (8 - (lg_sl ([.ref (x 0), .int (nI mb), .int am])).length) Slot.unset).toArray = ls at hl ⊢
  have hl : lv_has ls 8 [(0, .ref (x 0)), (1, .int (nI mb)), (2, .int am)] := hl
  refine lv_aload_n hx hb dX2_fewestBySets_0 rfl (lv_at hl 0 rfl) ?_
  refine z_M (X := ([] : va_W)) (Z := ([] : va_W)) (va_runV (As := []) (rest := []) ⟨hx, hb, hml, hown, hts⟩ (zc_X2_fillFree l D cA b rd x X N B) (cwV 0 hts gX2_fewestBySets_X2_fillFree rfl rfl rfl zy_X2_fillFree ⟨Nat.le_of_ble_eq_true rfl, Nat.le_of_ble_eq_true rfl⟩) (z_preV (ci := 2) hK hP hD rfl rfl) rfl rfl hl.1 rfl (lv_room (Nat.le_of_ble_eq_true rfl)) dX2_fewestBySets_1 ⟨Nat.zero_le _, Nat.zero_le _⟩) hP hD hS (z_adr2 xmW_adr bkW_adr) rfl (fun H locs hP9 hD9 hS9 => ?_)
  replace hP : va_P D vwCl (xmW cA x b rd (f_X2_fillFree X B) N ++ (bkW (cA 0) (b 0) B)) H := hP9
  replace hD : va_D _ (xmW cA x b rd (f_X2_fillFree X B) N ++ (bkW (cA 0) (b 0) B)) := hD9
  replace hS := hS9
  clear hP9 hD9 hS9
  obtain ⟨M_1, eM_1⟩ : ∃ z9 : BK, z9 = f_X2_fillFree X B := ⟨_, rfl⟩
  rw [← eM_1] at hP hD
  refine lv_aload_n hx hb dX2_fewestBySets_4 rfl (lv_at hl 0 rfl) ?_
  refine va_get (D := D) (ci := 2) (v := .ref (b 0 0)) (C := RX2) (T := TX2) (N := 9) hx hb hts hi2 hown hK hP 0 rfl rfl 0 (by decide) (hts (.fieldLink RX2 10 "PledgedLoans" "books" "LPledgedLoans$Books;") (List.mem_of_getElem? (i := 1) rfl)) (fun _ h9 => h9) rfl dX2_fewestBySets_5 ?_
  refine lv_iload_n hx hb dX2_fewestBySets_8 rfl (lv_at hl 1 rfl) ?_
  refine z_E (va_runV (As := [.int (nI mb)]) (rest := []) ⟨hx, hb, hml, hown, hts⟩ (zc_X0_cover l D cA (b 0) B mb (by omega)) (cwV 1 hts gX2_fewestBySets_X0_cover rfl rfl rfl zy_X0_cover ⟨Nat.le_of_ble_eq_true rfl, Nat.le_of_ble_eq_true rfl⟩) (z_preV (ci := 0) hK (hP.sub (ws' := bkW (cA 0) (b 0) B) [6, 7, 8, 9, 10, 11, 12, 13, 14] rfl) (hD.sub (ws' := bkW (cA 0) (b 0) B) [6, 7, 8, 9, 10, 11, 12, 13, 14] (by decide) rfl) rfl rfl) rfl rfl hl.1 rfl (lv_room (Nat.le_of_ble_eq_true rfl)) dX2_fewestBySets_9 ⟨Nat.zero_le _, Nat.zero_le _⟩) rfl ?_
  refine lv_istore_n (lv' := [(3, .int (f_X0_cover B mb)), (0, .ref (x 0)), (1, .int (nI mb)), (2, .int am)]) hx hb dX2_fewestBySets_12 rfl hl (by decide) rfl (fun ls hl => ?_)
  refine lv_iconst (v := (-1)) hx hb dX2_fewestBySets_13 (by decide) ?_
  refine lv_istore (lv' := [(4, .int (-1)), (3, .int (f_X0_cover B mb)), (0, .ref (x 0)), (1, .int (nI mb)), (2, .int am)]) hx hb dX2_fewestBySets_14 hl (by decide) rfl (fun ls hl => ?_)
  refine lv_iconst (v := 0) hx hb dX2_fewestBySets_16 (by decide) ?_
  refine lv_istore (lv' := [(5, .int 0), (4, .int (-1)), (3, .int (f_X0_cover B mb)), (0, .ref (x 0)), (1, .int (nI mb)), (2, .int am)]) hx hb dX2_fewestBySets_17 hl (by decide) rfl (fun ls hl => ?_)
  have loop_19 : ∀ (kk : Nat) (n : Nat) (y0_19 : Int32), n ≤ 64 → 64 - n < kk → y0_19 = f_X2_fewestBySets_19 X B mb am M_1 (-1) n → ∀ (H : Heap) (locs : List Loc), va_P D vwCl (xmW cA x b rd M_1 N ++ (bkW (cA 0) (b 0) B)) H → va_D (zfr (xmW cA x b rd X N ++ (bkW (cA 0) (b 0) B))) (xmW cA x b rd M_1 N ++ (bkW (cA 0) (b 0) B)) → va_S (zfr (xmW cA x b rd X N ++ (bkW (cA 0) (b 0) B))) s.heap H locs → ∀ (ls : Array Slot), lv_has ls 8 [(0, .ref (x 0)), (1, .int (nI mb)), (2, .int am), (3, .int (f_X0_cover B mb)), (4, .int y0_19), (5, .int (nI n))] → W p l e (headSpec wsX2_fewestBySets (zrm 4 87)).room s m ([.ref (x 0), .int (nI mb), .int am] : List Value).toArray below meth c H locs 0 0 (MQ below (zM D (xmW cA x b rd X N ++ (bkW (cA 0) (b 0) B)) (xmW cA x b rd ((f_X2_fewestBySets X B mb am).2) N ++ (bkW (cA 0) (b 0) B)) (some (.int ((f_X2_fewestBySets X B mb am).1)))) ([.ref (x 0), .int (nI mb), .int am] : List Value).toArray s 0 0 (zfr (xmW cA x b rd X N ++ (bkW (cA 0) (b 0) B)))) (F0 m 19 ls []) := by
    intro kk
    induction kk with
    | zero => intro n y0_19 _ h9; exact absurd h9 (Nat.not_lt_zero _)
    | succ kk ih_19 =>
      intro n y0_19 hn_19 hm_19 q_y0_19 H locs hP hD hS ls hl
      refine lv_iload hx hb dX2_fewestBySets_19 (lv_at hl 5 rfl) ?_
      refine lv_bipush (v := 64) hx hb dX2_fewestBySets_21 (by decide) ?_
      refine lv_icmp_ge (tgt := 89) hx hb dX2_fewestBySets_23 (by decide) (fun c_2 => ?_) (fun c_2 => ?_)
      · have c_2 : 64 ≤ n := (nI_leI (a := 64) (b := n) (by omega) (by omega)).mp c_2
        obtain rfl : n = 64 := by omega
        obtain ⟨z_19, hz_19⟩ : ∃ z9, z9 = f_X2_fewestBySets_19 X B mb am M_1 (-1) 64 := ⟨_, rfl⟩
        rw [← hz_19] at q_y0_19
        refine lv_iload hx hb dX2_fewestBySets_89 (lv_at hl 4 rfl) ?_
        exact z_iretM (w1 := xmW cA x b rd M_1 N ++ (bkW (cA 0) (b 0) B)) hx hb hr hlocks dX2_fewestBySets_91 hP hS (by subst q_y0_19 eM_1; first | (simp -proj only [f_X2_fewestBySets, ← hz_19]; first | done | rfl; done) | rfl) (by subst q_y0_19 eM_1; first | (simp -proj only [f_X2_fewestBySets, ← hz_19]; first | done | rfl; done) | rfl)
      · have c_2 : ¬ 64 ≤ n := fun h9 => c_2 ((nI_leI (a := 64) (b := n) (by omega) (by omega)).mpr h9)
        refine lv_iload hx hb dX2_fewestBySets_26 (lv_at hl 5 rfl) ?_
        refine z_E (va_runS (As := [.int (nI n)]) (rest := []) ⟨hx, hb, hml, hown, hts⟩ (zc_J6_bitCount_0f7a4 l D cA (nI n)) (va_cwS 1 hts gX2_fewestBySets_J6_bitCount_0f7a4 rfl rfl rfl zy_J6_bitCount_0f7a4.2 ⟨Nat.le_of_ble_eq_true rfl, Nat.le_of_ble_eq_true rfl⟩) (z_preS hK z_P0 (z_D0 (A := fun _ => True))) rfl rfl hl.1 rfl (lv_room (Nat.le_of_ble_eq_true rfl)) dX2_fewestBySets_28 ⟨Nat.zero_le _, Nat.zero_le _⟩) rfl ?_
        refine lv_istore (lv' := [(6, .int (f_J6_bitCount_0f7a4 (nI n))), (0, .ref (x 0)), (1, .int (nI mb)), (2, .int am), (3, .int (f_X0_cover B mb)), (4, .int y0_19), (5, .int (nI n))]) hx hb dX2_fewestBySets_31 hl (by decide) rfl (fun ls hl => ?_)
        refine lv_iload hx hb dX2_fewestBySets_33 (lv_at hl 6 rfl) ?_
        refine lv_iload_n hx hb dX2_fewestBySets_35 rfl (lv_at hl 2 rfl) ?_
        refine lv_ishr hx hb dX2_fewestBySets_36 ?_
        refine lv_iconst (v := 1) hx hb dX2_fewestBySets_37 (by decide) ?_
        refine lv_iand hx hb dX2_fewestBySets_38 ?_
        refine lv_if_ne (tgt := 46) hx hb dX2_fewestBySets_39 (by decide) (fun c_3 => ?_) (fun c_3 => ?_)
        · refine lv_iconst (v := 0) hx hb dX2_fewestBySets_46 (by decide) ?_
          refine lv_istore (lv' := [(7, .int 0), (6, .int (f_J6_bitCount_0f7a4 (nI n))), (0, .ref (x 0)), (1, .int (nI mb)), (2, .int am), (3, .int (f_X0_cover B mb)), (4, .int y0_19), (5, .int (nI n))]) hx hb dX2_fewestBySets_47 hl (by decide) rfl (fun ls hl => ?_)
          refine lv_iload hx hb dX2_fewestBySets_49 (lv_at hl 0 rfl) ?_
          refine lv_if_eq (tgt := 83) hx hb dX2_fewestBySets_51 (by decide) (fun c_4 => ?_) (fun c_4 => ?_)
          · refine lv_iinc (v := nI (n + 1)) (lv' := [(5, .int (nI (n + 1))), (7, .int 0), (6, .int (f_J6_bitCount_0f7a4 (nI n))), (0, .ref (x 0)), (1, .int (nI mb)), (2, .int am), (3, .int (f_X0_cover B mb)), (4, .int y0_19)]) hx hb dX2_fewestBySets_83 hl (k := 7) rfl (by rw [show (Int32.ofInt 1) = nI 1 from by decide]; exact nI_add n 1) (by decide) rfl (fun ls hl => ?_)
            refine lv_goto (tgt := 19) hx hb dX2_fewestBySets_86 (by decide) ?_
            exact ih_19 (n + 1) _ (by omega) (by omega) (by subst q_y0_19 eM_1; simp -proj only [f_X2_fewestBySets_19, if_neg c_3]; first | done | rfl) _ _ hP hD hS ls (lv_sub hl [3, 4, 5, 6, 7, 0] rfl)
          · exact absurd c_4 (by decide)
        · refine lv_iconst (v := 1) hx hb dX2_fewestBySets_42 (by decide) ?_
          refine lv_goto (tgt := 47) hx hb dX2_fewestBySets_43 (by decide) ?_
          refine lv_istore (lv' := [(7, .int 1), (6, .int (f_J6_bitCount_0f7a4 (nI n))), (0, .ref (x 0)), (1, .int (nI mb)), (2, .int am), (3, .int (f_X0_cover B mb)), (4, .int y0_19), (5, .int (nI n))]) hx hb dX2_fewestBySets_47 hl (by decide) rfl (fun ls hl => ?_)
          refine lv_iload hx hb dX2_fewestBySets_49 (lv_at hl 0 rfl) ?_
          refine lv_if_eq (tgt := 83) hx hb dX2_fewestBySets_51 (by decide) (fun c_5 => ?_) (fun c_5 => ?_)
          · exact absurd c_5 (by decide)
          · refine lv_iload hx hb dX2_fewestBySets_54 (lv_at hl 6 rfl) ?_
            refine lv_iconst (v := (-1)) hx hb dX2_fewestBySets_56 (by decide) ?_
            refine lv_icmp_eq (tgt := 67) hx hb dX2_fewestBySets_57 (by decide) (fun c_6 => ?_) (fun c_6 => ?_)
            · refine lv_iload_n hx hb dX2_fewestBySets_67 rfl (lv_at hl 5 rfl) ?_
              refine lv_aload_n hx hb dX2_fewestBySets_68 rfl (lv_at hl 2 rfl) ?_
              refine lv_iload hx hb dX2_fewestBySets_69 (lv_at hl 7 rfl) ?_
              refine z_E (va_runV (As := [.int (nI n)]) (rest := [.int (f_X0_cover B mb)]) ⟨hx, hb, hml, hown, hts⟩ (zc_X2_freeOf l D cA b rd x M_1 N (nI n)) (cwV 1 hts gX2_fewestBySets_X2_freeOf rfl rfl rfl zy_X2_freeOf ⟨Nat.le_of_ble_eq_true rfl, Nat.le_of_ble_eq_true rfl⟩) (z_preV (ci := 2) hK (hP.sub (ws' := xmW cA x b rd M_1 N) [0, 1, 2, 3, 4, 5] rfl) (hD.sub (ws' := xmW cA x b rd M_1 N) [0, 1, 2, 3, 4, 5] (by decide) rfl) rfl rfl) rfl rfl hl.1 rfl (lv_room (Nat.le_of_ble_eq_true rfl)) dX2_fewestBySets_71 ⟨Nat.zero_le _, Nat.zero_le _⟩) rfl ?_
              refine lv_iadd hx hb dX2_fewestBySets_74 ?_
              refine lv_iload_n hx hb dX2_fewestBySets_75 rfl (lv_at hl 4 rfl) ?_
              refine lv_icmp_lt (tgt := 83) hx hb dX2_fewestBySets_76 (by decide) (fun c_7 => ?_) (fun c_7 => ?_)
              · refine lv_iinc (v := nI (n + 1)) (lv' := [(5, .int (nI (n + 1))), (7, .int 1), (6, .int (f_J6_bitCount_0f7a4 (nI n))), (0, .ref (x 0)), (1, .int (nI mb)), (2, .int am), (3, .int (f_X0_cover B mb)), (4, .int y0_19)]) hx hb dX2_fewestBySets_83 hl (k := 7) rfl (by rw [show (Int32.ofInt 1) = nI 1 from by decide]; exact nI_add n 1) (by decide) rfl (fun ls hl => ?_)
                refine lv_goto (tgt := 19) hx hb dX2_fewestBySets_86 (by decide) ?_
                exact ih_19 (n + 1) _ (by omega) (by omega) (by subst q_y0_19 eM_1; simp -proj only [f_X2_fewestBySets_19, if_pos c_3, if_pos c_6, if_pos c_7]; first | done | rfl) _ _ hP hD hS ls (lv_sub hl [3, 4, 5, 6, 7, 0] rfl)
              · refine lv_iload hx hb dX2_fewestBySets_79 (lv_at hl 1 rfl) ?_
                refine lv_istore (lv' := [(4, .int (f_J6_bitCount_0f7a4 (nI n))), (7, .int 1), (6, .int (f_J6_bitCount_0f7a4 (nI n))), (0, .ref (x 0)), (1, .int (nI mb)), (2, .int am), (3, .int (f_X0_cover B mb)), (5, .int (nI n))]) hx hb dX2_fewestBySets_81 hl (by decide) rfl (fun ls hl => ?_)
                refine lv_iinc (v := nI (n + 1)) (lv' := [(5, .int (nI (n + 1))), (4, .int (f_J6_bitCount_0f7a4 (nI n))), (7, .int 1), (6, .int (f_J6_bitCount_0f7a4 (nI n))), (0, .ref (x 0)), (1, .int (nI mb)), (2, .int am), (3, .int (f_X0_cover B mb))]) hx hb dX2_fewestBySets_83 hl (k := 7) rfl (by rw [show (Int32.ofInt 1) = nI 1 from by decide]; exact nI_add n 1) (by decide) rfl (fun ls hl => ?_)
                refine lv_goto (tgt := 19) hx hb dX2_fewestBySets_86 (by decide) ?_
                exact ih_19 (n + 1) _ (by omega) (by omega) (by subst q_y0_19 eM_1; simp -proj only [f_X2_fewestBySets_19, if_pos c_3, if_pos c_6, if_neg c_7]; first | done | rfl) _ _ hP hD hS ls (lv_sub hl [4, 5, 6, 7, 1, 0] rfl)
            · refine lv_iload hx hb dX2_fewestBySets_60 (lv_at hl 1 rfl) ?_
              refine lv_iload hx hb dX2_fewestBySets_62 (lv_at hl 6 rfl) ?_
              refine lv_icmp_ge (tgt := 83) hx hb dX2_fewestBySets_64 (by decide) (fun c_8 => ?_) (fun c_8 => ?_)
              · refine lv_iinc (v := nI (n + 1)) (lv' := [(5, .int (nI (n + 1))), (7, .int 1), (6, .int (f_J6_bitCount_0f7a4 (nI n))), (0, .ref (x 0)), (1, .int (nI mb)), (2, .int am), (3, .int (f_X0_cover B mb)), (4, .int y0_19)]) hx hb dX2_fewestBySets_83 hl (k := 7) rfl (by rw [show (Int32.ofInt 1) = nI 1 from by decide]; exact nI_add n 1) (by decide) rfl (fun ls hl => ?_)
                refine lv_goto (tgt := 19) hx hb dX2_fewestBySets_86 (by decide) ?_
                exact ih_19 (n + 1) _ (by omega) (by omega) (by subst q_y0_19 eM_1; simp -proj only [f_X2_fewestBySets_19, if_pos c_3, if_neg c_6, if_pos c_8]; first | done | rfl) _ _ hP hD hS ls (lv_sub hl [3, 4, 5, 6, 7, 0] rfl)
              · refine lv_iload_n hx hb dX2_fewestBySets_67 rfl (lv_at hl 5 rfl) ?_
                refine lv_aload_n hx hb dX2_fewestBySets_68 rfl (lv_at hl 2 rfl) ?_
                refine lv_iload hx hb dX2_fewestBySets_69 (lv_at hl 7 rfl) ?_
                refine z_E (va_runV (As := [.int (nI n)]) (rest := [.int (f_X0_cover B mb)]) ⟨hx, hb, hml, hown, hts⟩ (zc_X2_freeOf l D cA b rd x M_1 N (nI n)) (cwV 1 hts gX2_fewestBySets_X2_freeOf rfl rfl rfl zy_X2_freeOf ⟨Nat.le_of_ble_eq_true rfl, Nat.le_of_ble_eq_true rfl⟩) (z_preV (ci := 2) hK (hP.sub (ws' := xmW cA x b rd M_1 N) [0, 1, 2, 3, 4, 5] rfl) (hD.sub (ws' := xmW cA x b rd M_1 N) [0, 1, 2, 3, 4, 5] (by decide) rfl) rfl rfl) rfl rfl hl.1 rfl (lv_room (Nat.le_of_ble_eq_true rfl)) dX2_fewestBySets_71 ⟨Nat.zero_le _, Nat.zero_le _⟩) rfl ?_
                refine lv_iadd hx hb dX2_fewestBySets_74 ?_
                refine lv_iload_n hx hb dX2_fewestBySets_75 rfl (lv_at hl 4 rfl) ?_
                refine lv_icmp_lt (tgt := 83) hx hb dX2_fewestBySets_76 (by decide) (fun c_9 => ?_) (fun c_9 => ?_)
                · refine lv_iinc (v := nI (n + 1)) (lv' := [(5, .int (nI (n + 1))), (7, .int 1), (6, .int (f_J6_bitCount_0f7a4 (nI n))), (0, .ref (x 0)), (1, .int (nI mb)), (2, .int am), (3, .int (f_X0_cover B mb)), (4, .int y0_19)]) hx hb dX2_fewestBySets_83 hl (k := 7) rfl (by rw [show (Int32.ofInt 1) = nI 1 from by decide]; exact nI_add n 1) (by decide) rfl (fun ls hl => ?_)
                  refine lv_goto (tgt := 19) hx hb dX2_fewestBySets_86 (by decide) ?_
                  exact ih_19 (n + 1) _ (by omega) (by omega) (by subst q_y0_19 eM_1; simp -proj only [f_X2_fewestBySets_19, if_pos c_3, if_neg c_6, if_neg c_8, if_pos c_9]; first | done | rfl) _ _ hP hD hS ls (lv_sub hl [3, 4, 5, 6, 7, 0] rfl)
                · refine lv_iload hx hb dX2_fewestBySets_79 (lv_at hl 1 rfl) ?_
                  refine lv_istore (lv' := [(4, .int (f_J6_bitCount_0f7a4 (nI n))), (7, .int 1), (6, .int (f_J6_bitCount_0f7a4 (nI n))), (0, .ref (x 0)), (1, .int (nI mb)), (2, .int am), (3, .int (f_X0_cover B mb)), (5, .int (nI n))]) hx hb dX2_fewestBySets_81 hl (by decide) rfl (fun ls hl => ?_)
                  refine lv_iinc (v := nI (n + 1)) (lv' := [(5, .int (nI (n + 1))), (4, .int (f_J6_bitCount_0f7a4 (nI n))), (7, .int 1), (6, .int (f_J6_bitCount_0f7a4 (nI n))), (0, .ref (x 0)), (1, .int (nI mb)), (2, .int am), (3, .int (f_X0_cover B mb))]) hx hb dX2_fewestBySets_83 hl (k := 7) rfl (by rw [show (Int32.ofInt 1) = nI 1 from by decide]; exact nI_add n 1) (by decide) rfl (fun ls hl => ?_)
                  refine lv_goto (tgt := 19) hx hb dX2_fewestBySets_86 (by decide) ?_
                  exact ih_19 (n + 1) _ (by omega) (by omega) (by subst q_y0_19 eM_1; simp -proj only [f_X2_fewestBySets_19, if_pos c_3, if_neg c_6, if_neg c_8, if_neg c_9]; first | done | rfl) _ _ hP hD hS ls (lv_sub hl [4, 5, 6, 7, 1, 0] rfl)
  exact loop_19 _ 0 _ (by omega) (Nat.lt_succ_self _) rfl _ _ hP hD hS ls (lv_sub hl [3, 4, 5, 2, 1, 0] rfl)
