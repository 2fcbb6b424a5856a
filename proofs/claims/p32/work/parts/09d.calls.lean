theorem zy_X2_dividend : yX2_dividend.cls = RX2 ∧ yX2_dividend.cls ≠ "java/lang/invoke/MethodHandle" ∧ yX2_dividend.cls ≠ "java/lang/invoke/VarHandle" ∧ (parseMethodDescriptor yX2_dividend.desc).map (fun d => d.parameters.length) = some 0 := by decide +kernel
def f_X2_dividend (N : NK) (B : BK) (Bs : Nat → BK) : Int32 × NK × BK × (Nat → BK) :=
  let N_1 : NK := (f_X2_saveState N B Bs).1
  let M_2 : Nat → BK := (f_X2_saveState N B Bs).2
  let M_3 : BK := (f_X0_shareOut B).2
  ((f_X0_shareOut B).1, N_1, M_3, M_2)

set_option maxHeartbeats 4000000 in
set_option maxRecDepth 100000 in
theorem zc_X2_dividend (l : Launch) (D : va_G) (cA : Nat → ClassId) (b : Nat → Nat → Nat) (rd : Nat) (x : Nat → Nat) (X : BK) (N : NK) (B : BK) (Bs : Nat → BK) (hpm : zpm N) (hsv2 : N 0 0 ≤ 6) : Met l yX2_dividend wsX2_dividend (zrm 4 102) (zPc D cA [.ref (x 0)] (xmW cA x b rd X N ++ (bkW (cA 0) (b 0) B ++ (otW (cA 0) b Bs)))) (zM D (xmW cA x b rd X N ++ (bkW (cA 0) (b 0) B ++ (otW (cA 0) b Bs))) (xmW cA x b rd X ((f_X2_dividend N B Bs).2.1) ++ (bkW (cA 0) (b 0) ((f_X2_dividend N B Bs).2.2.1) ++ (otW (cA 0) b ((f_X2_dividend N B Bs).2.2.2)))) (some (.int ((f_X2_dividend N B Bs).1)))) 0 0 (zfr (xmW cA x b rd X N ++ (bkW (cA 0) (b 0) B ++ (otW (cA 0) b Bs)))) := by
  refine Met.ofW (cc := cX2_dividend) (maxL := 1) (ret := (some .int)) (by decide) rfl ?_
  intro p e s m args below meth c s₁ Bd hml hv
  obtain ⟨rfl, hP, hK, hD0⟩ := hv
  have hx := Bd.exec
  have hb := Bd.bytes
  have hr := Bd.returns
  have hts := atoms_spec (ws := wsX2_dividend) Bd.pre
  have hown : s.vm.findClass RX2 = some m.cls := findClass_of_methodNamed Bd.named
  have hlocks := Bd.notSynchronized
  have hD := z_Dfr hD0
  have hS : va_S (zfr (xmW cA x b rd X N ++ (bkW (cA 0) (b 0) B ++ (otW (cA 0) b Bs)))) s.heap s.heap [] := va_S.rf
  have hi0 : ∀ w ∈ wsX00, w ∈ wsX2_dividend := fun w h => List.mem_cons_of_mem _ (List.mem_append_right _ h)
  have hi2 : ∀ w ∈ wsX20, w ∈ wsX2_dividend := fun w h => List.mem_cons_of_mem _ (List.mem_append_left _ (List.mem_append_right _ h))
  have hl := lv_entry ([.ref (x 0)]) (n := 1) (Nat.le_of_ble_eq_true rfl)
  rw [lg_entry_eq]
  generalize (lg_sl ([.ref (x 0)]) ++ List.replicate (1 - (lg_sl ([.ref (x 0)])).length) Slot.unset).toArray = ls at hl ⊢
  have hl : lv_has ls 1 [(0, .ref (x 0))] := hl
  refine lv_aload_n hx hb dX2_dividend_0 rfl (lv_at hl 0 rfl) ?_
  refine z_M (X := ([] : va_W)) (Z := ([] : va_W)) (va_runV (As := []) (rest := []) ⟨hx, hb, hml, hown, hts⟩ (zc_X2_saveState l D cA b rd x X N B Bs (by first | assumption | omega) (by first | assumption | omega)) (cwV 0 hts gX2_dividend_X2_saveState rfl rfl rfl zy_X2_saveState ⟨Nat.le_of_ble_eq_true rfl, Nat.le_of_ble_eq_true rfl⟩) (z_preV (ci := 2) hK hP hD rfl rfl) rfl rfl hl.1 rfl (lv_room (Nat.le_of_ble_eq_true rfl)) dX2_dividend_1 ⟨Nat.zero_le _, Nat.zero_le _⟩) hP hD hS (z_adr2 xmW_adr (z_adr2 bkW_adr otW_adr)) rfl (fun H locs hP9 hD9 hS9 => ?_)
  replace hP : va_P D vwCl (xmW cA x b rd X ((f_X2_saveState N B Bs).1) ++ (bkW (cA 0) (b 0) B ++ (otW (cA 0) b ((f_X2_saveState N B Bs).2)))) H := hP9
  replace hD : va_D _ (xmW cA x b rd X ((f_X2_saveState N B Bs).1) ++ (bkW (cA 0) (b 0) B ++ (otW (cA 0) b ((f_X2_saveState N B Bs).2)))) := hD9
  replace hS := hS9
  clear hP9 hD9 hS9
  obtain ⟨N_1, eN_1⟩ : ∃ z9 : NK, z9 = (f_X2_saveState N B Bs).1 := ⟨_, rfl⟩
  rw [← eN_1] at hP hD
  obtain ⟨M_2, eM_2⟩ : ∃ z9 : Nat → BK, z9 = (f_X2_saveState N B Bs).2 := ⟨_, rfl⟩
  rw [← eM_2] at hP hD
  refine lv_aload_n hx hb dX2_dividend_4 rfl (lv_at hl 0 rfl) ?_
  refine va_get (D := D) (ci := 2) (v := .ref (b 0 0)) (C := RX2) (T := TX2) (N := 9) hx hb hts hi2 hown hK hP 0 rfl rfl 0 (by decide) (hts (.fieldLink RX2 10 "PledgedLoans" "books" "LPledgedLoans$Books;") (List.mem_of_getElem? (i := 1) rfl)) (fun _ h9 => h9) rfl dX2_dividend_5 ?_
  refine z_M (X := xmW cA x b rd X N_1) (Z := otW (cA 0) b M_2) (va_runV (As := []) (rest := []) ⟨hx, hb, hml, hown, hts⟩ (zc_X0_shareOut l D cA (b 0) B) (cwV 0 hts gX2_dividend_X0_shareOut rfl rfl rfl zy_X0_shareOut ⟨Nat.le_of_ble_eq_true rfl, Nat.le_of_ble_eq_true rfl⟩) (z_preV (ci := 0) hK (hP.sub (ws' := bkW (cA 0) (b 0) B) [6, 7, 8, 9, 10, 11, 12, 13, 14] rfl) (hD.sub (ws' := bkW (cA 0) (b 0) B) [6, 7, 8, 9, 10, 11, 12, 13, 14] (by decide) rfl) rfl rfl) rfl rfl hl.1 rfl (lv_room (Nat.le_of_ble_eq_true rfl)) dX2_dividend_8 ⟨Nat.zero_le _, Nat.zero_le _⟩) hP hD hS bkW_adr rfl (fun H locs hP9 hD9 hS9 => ?_)
  replace hP : va_P D vwCl (xmW cA x b rd X N_1 ++ (bkW (cA 0) (b 0) ((f_X0_shareOut B).2) ++ (otW (cA 0) b M_2))) H := hP9
  replace hD : va_D _ (xmW cA x b rd X N_1 ++ (bkW (cA 0) (b 0) ((f_X0_shareOut B).2) ++ (otW (cA 0) b M_2))) := hD9
  replace hS := hS9
  clear hP9 hD9 hS9
  obtain ⟨M_3, eM_3⟩ : ∃ z9 : BK, z9 = (f_X0_shareOut B).2 := ⟨_, rfl⟩
  rw [← eM_3] at hP hD
  exact z_iretM (w1 := xmW cA x b rd X N_1 ++ (bkW (cA 0) (b 0) M_3 ++ (otW (cA 0) b M_2))) hx hb hr hlocks dX2_dividend_11 hP hS (by subst eM_3 eM_2 eN_1; first | (simp only [f_X2_dividend]; done) | rfl) (by subst eM_3 eM_2 eN_1; first | (simp only [f_X2_dividend]; done) | rfl)

theorem zy_X2_riskiest : yX2_riskiest.cls = RX2 ∧ yX2_riskiest.cls ≠ "java/lang/invoke/MethodHandle" ∧ yX2_riskiest.cls ≠ "java/lang/invoke/VarHandle" ∧ (parseMethodDescriptor yX2_riskiest.desc).map (fun d => d.parameters.length) = some 0 := by decide +kernel
def f_X2_riskiest (B : BK) : Int32 :=
  f_X0_mostAtStake B

set_option maxHeartbeats 4000000 in
set_option maxRecDepth 100000 in
theorem zc_X2_riskiest (l : Launch) (D : va_G) (cA : Nat → ClassId) (b : Nat → Nat → Nat) (rd : Nat) (x : Nat → Nat) (X : BK) (N : NK) (B : BK)  : Met l yX2_riskiest wsX2_riskiest (zrm 3 69) (zPc D cA [.ref (x 0)] (xmW cA x b rd X N ++ (bkW (cA 0) (b 0) B))) (zE (some (.int (f_X2_riskiest B)))) 0 0 (fun _ => False) := by
  refine Met.ofW (cc := cX2_riskiest) (maxL := 1) (ret := (some .int)) (by decide) rfl ?_
  intro p e s m args below meth c s₁ Bd hml hv
  obtain ⟨rfl, hP, hK, hD0⟩ := hv
  have hx := Bd.exec
  have hb := Bd.bytes
  have hr := Bd.returns
  have hts := atoms_spec (ws := wsX2_riskiest) Bd.pre
  have hown : s.vm.findClass RX2 = some m.cls := findClass_of_methodNamed Bd.named
  have hlocks := Bd.notSynchronized
  have hD := z_Dfr hD0
  have hS : va_S (zfr (xmW cA x b rd X N ++ (bkW (cA 0) (b 0) B))) s.heap s.heap [] := va_S.rf
  have hi0 : ∀ w ∈ wsX00, w ∈ wsX2_riskiest := fun w h => List.mem_cons_of_mem _ (List.mem_append_right _ h)
  have hi2 : ∀ w ∈ wsX20, w ∈ wsX2_riskiest := fun w h => List.mem_cons_of_mem _ (List.mem_append_left _ (List.mem_append_right _ h))
  have hl := lv_entry ([.ref (x 0)]) (n := 1) (Nat.le_of_ble_eq_true rfl)
  rw [lg_entry_eq]
  generalize (lg_sl ([.ref (x 0)]) ++ List.replicate (1 - (lg_sl ([.ref (x 0)])).length) Slot.unset).toArray = ls at hl ⊢
  have hl : lv_has ls 1 [(0, .ref (x 0))] := hl
  refine lv_aload_n hx hb dX2_riskiest_0 rfl (lv_at hl 0 rfl) ?_
  refine va_get (D := D) (ci := 2) (v := .ref (b 0 0)) (C := RX2) (T := TX2) (N := 9) hx hb hts hi2 hown hK hP 0 rfl rfl 0 (by decide) (hts (.fieldLink RX2 10 "PledgedLoans" "books" "LPledgedLoans$Books;") (List.mem_of_getElem? (i := 1) rfl)) (fun _ h9 => h9) rfl dX2_riskiest_1 ?_
  refine z_E (va_runV (As := []) (rest := []) ⟨hx, hb, hml, hown, hts⟩ (zc_X0_mostAtStake l D cA (b 0) B) (cwV 0 hts gX2_riskiest_X0_mostAtStake rfl rfl rfl zy_X0_mostAtStake ⟨Nat.le_of_ble_eq_true rfl, Nat.le_of_ble_eq_true rfl⟩) (z_preV (ci := 0) hK (hP.sub (ws' := bkW (cA 0) (b 0) B) [6, 7, 8, 9, 10, 11, 12, 13, 14] rfl) (hD.sub (ws' := bkW (cA 0) (b 0) B) [6, 7, 8, 9, 10, 11, 12, 13, 14] (by decide) rfl) rfl rfl) rfl rfl hl.1 rfl (lv_room (Nat.le_of_ble_eq_true rfl)) dX2_riskiest_4 ⟨Nat.zero_le _, Nat.zero_le _⟩) rfl ?_
  exact z_iretE hx hb hr hlocks dX2_riskiest_7 (by first | (simp only [f_X2_riskiest]; done) | rfl)

theorem zy_X2_lentShare : yX2_lentShare.cls = RX2 ∧ yX2_lentShare.cls ≠ "java/lang/invoke/MethodHandle" ∧ yX2_lentShare.cls ≠ "java/lang/invoke/VarHandle" ∧ (parseMethodDescriptor yX2_lentShare.desc).map (fun d => d.parameters.length) = some 0 := by decide +kernel
def f_X2_lentShare (B : BK) : UInt64 :=
  f_X0_lentPart B

set_option maxHeartbeats 4000000 in
set_option maxRecDepth 100000 in
theorem zc_X2_lentShare (l : Launch) (D : va_G) (cA : Nat → ClassId) (b : Nat → Nat → Nat) (rd : Nat) (x : Nat → Nat) (X : BK) (N : NK) (B : BK) (hl0 : ¬ f_X0_allShares B < 0) (hl2 : ¬ f_X0_allRests B < 0) : Met l yX2_lentShare wsX2_lentShare (zrm 2 46) (zPc D cA [.ref (x 0)] (xmW cA x b rd X N ++ (bkW (cA 0) (b 0) B))) (zE (some (.double (f_X2_lentShare B)))) 0 0 (fun _ => False) := by
  refine Met.ofW (cc := cX2_lentShare) (maxL := 1) (ret := (some .double)) (by decide) rfl ?_
  intro p e s m args below meth c s₁ Bd hml hv
  obtain ⟨rfl, hP, hK, hD0⟩ := hv
  have hx := Bd.exec
  have hb := Bd.bytes
  have hr := Bd.returns
  have hts := atoms_spec (ws := wsX2_lentShare) Bd.pre
  have hown : s.vm.findClass RX2 = some m.cls := findClass_of_methodNamed Bd.named
  have hlocks := Bd.notSynchronized
  have hD := z_Dfr hD0
  have hS : va_S (zfr (xmW cA x b rd X N ++ (bkW (cA 0) (b 0) B))) s.heap s.heap [] := va_S.rf
  have hi0 : ∀ w ∈ wsX00, w ∈ wsX2_lentShare := fun w h => List.mem_cons_of_mem _ (List.mem_append_right _ h)
  have hi2 : ∀ w ∈ wsX20, w ∈ wsX2_lentShare := fun w h => List.mem_cons_of_mem _ (List.mem_append_left _ (List.mem_append_right _ h))
  have hl := lv_entry ([.ref (x 0)]) (n := 1) (Nat.le_of_ble_eq_true rfl)
  rw [lg_entry_eq]
  generalize (lg_sl ([.ref (x 0)]) ++ List.replicate (1 - (lg_sl ([.ref (x 0)])).length) Slot.unset).toArray = ls at hl ⊢
  have hl : lv_has ls 1 [(0, .ref (x 0))] := hl
  refine lv_aload_n hx hb dX2_lentShare_0 rfl (lv_at hl 0 rfl) ?_
  refine va_get (D := D) (ci := 2) (v := .ref (b 0 0)) (C := RX2) (T := TX2) (N := 9) hx hb hts hi2 hown hK hP 0 rfl rfl 0 (by decide) (hts (.fieldLink RX2 10 "PledgedLoans" "books" "LPledgedLoans$Books;") (List.mem_of_getElem? (i := 1) rfl)) (fun _ h9 => h9) rfl dX2_lentShare_1 ?_
  refine z_E (va_runV (As := []) (rest := []) ⟨hx, hb, hml, hown, hts⟩ (zc_X0_lentPart l D cA (b 0) B (by exact hl0) (by exact hl2)) (cwV 0 hts gX2_lentShare_X0_lentPart rfl rfl rfl zy_X0_lentPart ⟨Nat.le_of_ble_eq_true rfl, Nat.le_of_ble_eq_true rfl⟩) (z_preV (ci := 0) hK (hP.sub (ws' := bkW (cA 0) (b 0) B) [6, 7, 8, 9, 10, 11, 12, 13, 14] rfl) (hD.sub (ws' := bkW (cA 0) (b 0) B) [6, 7, 8, 9, 10, 11, 12, 13, 14] (by decide) rfl) rfl rfl) rfl rfl hl.1 rfl (lv_room (Nat.le_of_ble_eq_true rfl)) dX2_lentShare_4 ⟨Nat.zero_le _, Nat.zero_le _⟩) rfl ?_
  exact z_dretE hx hb hr hlocks dX2_lentShare_7 (by first | (simp only [f_X2_lentShare]; done) | rfl)

