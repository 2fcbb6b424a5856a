theorem zy_X2_payIn : yX2_payIn.cls = RX2 ∧ yX2_payIn.cls ≠ "java/lang/invoke/MethodHandle" ∧ yX2_payIn.cls ≠ "java/lang/invoke/VarHandle" ∧ (parseMethodDescriptor yX2_payIn.desc).map (fun d => d.parameters.length) = some 2 := by decide +kernel
def f_X2_payIn (N : NK) (B : BK) (Bs : Nat → BK) (i1 : Int32) (am : Int32) : Int32 × NK × BK × (Nat → BK) :=
  let N_1 : NK := (f_X2_saveState N B Bs).1
  let M_2 : Nat → BK := (f_X2_saveState N B Bs).2
  let M_3 : BK := (f_X0_takeIn B i1.toNatClampNeg am).2
  ((f_X0_takeIn B i1.toNatClampNeg am).1, N_1, M_3, M_2)

set_option maxHeartbeats 4000000 in
set_option maxRecDepth 100000 in
theorem zk_X2_payIn (l : Launch) (hfl : l.stackTraces = false) (D : va_G) (cA : Nat → ClassId) (b : Nat → Nat → Nat) (rd : Nat) (x : Nat → Nat) (X : BK) (N : NK) (B : BK) (Bs : Nat → BK) (i1 : Int32) (am : Int32) (hpm : zpm N) (hsv2 : N 0 0 ≤ 6) : vx_Met l yX2_payIn wsX2_payIn (zrx 8 132 2 12) (zPx D cA [.ref (x 0), .int i1, .int am] (xmW cA x b rd X N ++ (bkW (cA 0) (b 0) B ++ (otW (cA 0) b Bs)))) (zV (zva [(zmem i1, zeO), (zrg am 1 9999, zeA)]) (zM D (xmW cA x b rd X N ++ (bkW (cA 0) (b 0) B ++ (otW (cA 0) b Bs))) (xmW cA x b rd X ((f_X2_payIn N B Bs i1 am).2.1) ++ (bkW (cA 0) (b 0) ((f_X2_payIn N B Bs i1 am).2.2.1) ++ (otW (cA 0) b ((f_X2_payIn N B Bs i1 am).2.2.2)))) (some (.int ((f_X2_payIn N B Bs i1 am).1))))) (zX D (xmW cA x b rd X N ++ (bkW (cA 0) (b 0) B ++ (otW (cA 0) b Bs))) (xmW cA x b rd X N ++ (bkW (cA 0) (b 0) B ++ (otW (cA 0) b Bs))) (zxp [(zmem i1, zeO), (zrg am 1 9999, zeA)])) 2 12 (zfr (xmW cA x b rd X N ++ (bkW (cA 0) (b 0) B ++ (otW (cA 0) b Bs)))) := by
  refine vx_ofW (cc := cX2_payIn) (maxL := 3) (ret := (some .int)) (by decide) rfl ?_
  intro p e s m args below meth c s₁ Bd hml hnt hv
  obtain ⟨rfl, hP, hK, hD0, hO⟩ := hv
  have hx := Bd.exec
  have hb := Bd.bytes
  have hr := Bd.returns
  have hts := atoms_spec (ws := wsX2_payIn) Bd.pre
  have hown : s.vm.findClass RX2 = some m.cls := findClass_of_methodNamed Bd.named
  have hlocks := Bd.notSynchronized
  have hD := z_Dfr hD0
  have hS : va_S (zfr (xmW cA x b rd X N ++ (bkW (cA 0) (b 0) B ++ (otW (cA 0) b Bs)))) s.heap s.heap [] := va_S.rf
  have hi0 : ∀ w ∈ wsX00, w ∈ wsX2_payIn := fun w h => List.mem_cons_of_mem _ (List.mem_append_left _ (List.mem_append_left _ (List.mem_append_right _ h)))
  have hi2 : ∀ w ∈ wsX20, w ∈ wsX2_payIn := fun w h => List.mem_cons_of_mem _ (List.mem_append_left _ (List.mem_append_left _ (List.mem_append_left _ (List.mem_append_right _ h))))
  have hl := lv_entry ([.ref (x 0), .int i1, .int am]) (n := 3) (Nat.le_of_ble_eq_true rfl)
  rw [lg_entry_eq]
  generalize (lg_sl ([.ref (x 0), .int i1, .int am]) ++ List.replicate (3 - (lg_sl ([.ref (x 0), .int i1, .int am])).length) Slot.unset).toArray = ls at hl ⊢
  have hl : lv_has ls 3 [(0, .ref (x 0)), (1, .int i1), (2, .int am)] := hl
  refine lv_iload_n hx hb dX2_payIn_0 rfl (lv_at hl 1 rfl) ?_
  refine zx_chk (w := xmW cA x b rd X N ++ (bkW (cA 0) (b 0) B ++ (otW (cA 0) b Bs))) (vx_runS (As := [.int i1]) (rest := []) ⟨hx, hb, hml, hown, hts⟩ (zk_X2_checkMember l hfl D cA i1) (va_cwS 1 hts gX2_payIn_X2_checkMember rfl rfl rfl zy_X2_checkMember.2 ⟨Nat.le_of_ble_eq_true rfl, Nat.le_of_ble_eq_true rfl⟩) (zx_preS (A := zfr (xmW cA x b rd X N ++ (bkW (cA 0) (b 0) B ++ (otW (cA 0) b Bs)))) hK z_P0 (z_D0 (A := fun _ => True)) hO hS (fun q h => (zfr_0 q h).elim)) rfl rfl hl.1 rfl (lv_room (Nat.le_of_ble_eq_true rfl)) dX2_payIn_1 ⟨Nat.le_of_ble_eq_true rfl, Nat.le_of_ble_eq_true rfl⟩) rfl hnt hlocks hP (fun E h9 => zxp_mid (pre := []) (vc := [(zmem i1, zeO)]) (suf := [(zrg am 1 9999, zeA)]) trivial h9) (Nat.le_of_ble_eq_true rfl) (Nat.le_of_ble_eq_true rfl) (fun hv_1 => ?_)
  obtain ⟨m1, hm1, rfl⟩ : ∃ q9 : Nat, q9 < 6 ∧ i1 = nI q9 := hv_1.1
  have hcl_m1 : (nI m1).toNatClampNeg = m1 := nI_clamp (by omega)
  refine lv_iload_n hx hb dX2_payIn_4 rfl (lv_at hl 2 rfl) ?_
  refine zx_chk (w := xmW cA x b rd X N ++ (bkW (cA 0) (b 0) B ++ (otW (cA 0) b Bs))) (vx_runS (As := [.int am]) (rest := []) ⟨hx, hb, hml, hown, hts⟩ (zk_X2_checkAmount l hfl D cA am) (va_cwS 1 hts gX2_payIn_X2_checkAmount rfl rfl rfl zy_X2_checkAmount.2 ⟨Nat.le_of_ble_eq_true rfl, Nat.le_of_ble_eq_true rfl⟩) (zx_preS (A := zfr (xmW cA x b rd X N ++ (bkW (cA 0) (b 0) B ++ (otW (cA 0) b Bs)))) hK z_P0 (z_D0 (A := fun _ => True)) hO hS (fun q h => (zfr_0 q h).elim)) rfl rfl hl.1 rfl (lv_room (Nat.le_of_ble_eq_true rfl)) dX2_payIn_5 ⟨Nat.le_of_ble_eq_true rfl, Nat.le_of_ble_eq_true rfl⟩) rfl hnt hlocks hP (fun E h9 => zxp_mid (pre := [(zmem (nI m1), zeO)]) (vc := [(zrg am 1 9999, zeA)]) (suf := []) ⟨hv_1.1, trivial⟩ h9) (Nat.le_of_ble_eq_true rfl) (Nat.le_of_ble_eq_true rfl) (fun hv_5 => ?_)
  refine lv_aload_n hx hb dX2_payIn_8 rfl (lv_at hl 0 rfl) ?_
  refine z_M (X := ([] : va_W)) (Z := ([] : va_W)) (va_runV (As := []) (rest := []) ⟨hx, hb, hml, hown, hts⟩ (zc_X2_saveState l D cA b rd x X N B Bs (by first | assumption | omega) (by first | assumption | omega)) (cwV 0 hts gX2_payIn_X2_saveState rfl rfl rfl zy_X2_saveState ⟨Nat.le_of_ble_eq_true rfl, Nat.le_of_ble_eq_true rfl⟩) (z_preV (ci := 2) hK hP hD rfl rfl) rfl rfl hl.1 rfl (lv_room (Nat.le_of_ble_eq_true rfl)) dX2_payIn_9 ⟨Nat.le_of_ble_eq_true rfl, Nat.le_of_ble_eq_true rfl⟩) hP hD hS (z_adr2 xmW_adr (z_adr2 bkW_adr otW_adr)) rfl (fun H locs hP9 hD9 hS9 => ?_)
  replace hP : va_P D vwCl (xmW cA x b rd X ((f_X2_saveState N B Bs).1) ++ (bkW (cA 0) (b 0) B ++ (otW (cA 0) b ((f_X2_saveState N B Bs).2)))) H := hP9
  replace hD : va_D _ (xmW cA x b rd X ((f_X2_saveState N B Bs).1) ++ (bkW (cA 0) (b 0) B ++ (otW (cA 0) b ((f_X2_saveState N B Bs).2)))) := hD9
  replace hS := hS9
  clear hP9 hD9 hS9
  obtain ⟨N_1, eN_1⟩ : ∃ z9 : NK, z9 = (f_X2_saveState N B Bs).1 := ⟨_, rfl⟩
  rw [← eN_1] at hP hD
  obtain ⟨M_2, eM_2⟩ : ∃ z9 : Nat → BK, z9 = (f_X2_saveState N B Bs).2 := ⟨_, rfl⟩
  rw [← eM_2] at hP hD
  refine lv_aload_n hx hb dX2_payIn_12 rfl (lv_at hl 0 rfl) ?_
  refine va_get (D := D) (ci := 2) (v := .ref (b 0 0)) (C := RX2) (T := TX2) (N := 9) hx hb hts hi2 hown hK hP 0 rfl rfl 0 (by decide) (hts (.fieldLink RX2 10 "PledgedLoans" "books" "LPledgedLoans$Books;") (List.mem_of_getElem? (i := 1) rfl)) (fun _ h9 => h9) rfl dX2_payIn_13 ?_
  refine lv_iload_n hx hb dX2_payIn_16 rfl (lv_at hl 1 rfl) ?_
  refine lv_iload_n hx hb dX2_payIn_17 rfl (lv_at hl 2 rfl) ?_
  refine z_M (X := xmW cA x b rd X N_1) (Z := otW (cA 0) b M_2) (va_runV (As := [.int (nI m1), .int am]) (rest := []) ⟨hx, hb, hml, hown, hts⟩ (zc_X0_takeIn l D cA (b 0) B m1 am (by omega)) (cwV 2 hts gX2_payIn_X0_takeIn rfl rfl rfl zy_X0_takeIn ⟨Nat.le_of_ble_eq_true rfl, Nat.le_of_ble_eq_true rfl⟩) (z_preV (ci := 0) hK (hP.sub (ws' := bkW (cA 0) (b 0) B) [6, 7, 8, 9, 10, 11, 12, 13, 14] rfl) (hD.sub (ws' := bkW (cA 0) (b 0) B) [6, 7, 8, 9, 10, 11, 12, 13, 14] (by decide) rfl) rfl rfl) rfl rfl hl.1 rfl (lv_room (Nat.le_of_ble_eq_true rfl)) dX2_payIn_18 ⟨Nat.le_of_ble_eq_true rfl, Nat.le_of_ble_eq_true rfl⟩) hP hD hS bkW_adr rfl (fun H locs hP9 hD9 hS9 => ?_)
  replace hP : va_P D vwCl (xmW cA x b rd X N_1 ++ (bkW (cA 0) (b 0) ((f_X0_takeIn B m1 am).2) ++ (otW (cA 0) b M_2))) H := hP9
  replace hD : va_D _ (xmW cA x b rd X N_1 ++ (bkW (cA 0) (b 0) ((f_X0_takeIn B m1 am).2) ++ (otW (cA 0) b M_2))) := hD9
  replace hS := hS9
  clear hP9 hD9 hS9
  obtain ⟨M_3, eM_3⟩ : ∃ z9 : BK, z9 = (f_X0_takeIn B m1 am).2 := ⟨_, rfl⟩
  rw [← eM_3] at hP hD
  refine W.widen (k := 2) (n := 12) (Nat.le_of_ble_eq_true rfl) (Nat.le_of_ble_eq_true rfl) ?_
  refine zx_ret ⟨hv_1.1, hv_5.1, trivial⟩ ?_
  exact z_iretM (w1 := xmW cA x b rd X N_1 ++ (bkW (cA 0) (b 0) M_3 ++ (otW (cA 0) b M_2))) hx hb hr hlocks dX2_payIn_21 hP hS (by subst eM_3 eM_2 eN_1; first | (simp only [f_X2_payIn, hcl_m1]; done) | rfl) (by subst eM_3 eM_2 eN_1; first | (simp only [f_X2_payIn, hcl_m1]; done) | rfl)

theorem zy_X2_payOut : yX2_payOut.cls = RX2 ∧ yX2_payOut.cls ≠ "java/lang/invoke/MethodHandle" ∧ yX2_payOut.cls ≠ "java/lang/invoke/VarHandle" ∧ (parseMethodDescriptor yX2_payOut.desc).map (fun d => d.parameters.length) = some 2 := by decide +kernel
def f_X2_payOut (N : NK) (B : BK) (Bs : Nat → BK) (i1 : Int32) (am : Int32) : Int32 × NK × BK × (Nat → BK) :=
  let N_1 : NK := (f_X2_saveState N B Bs).1
  let M_2 : Nat → BK := (f_X2_saveState N B Bs).2
  let M_3 : BK := (f_X0_giveOut B i1.toNatClampNeg am).2
  ((f_X0_giveOut B i1.toNatClampNeg am).1, N_1, M_3, M_2)

set_option maxHeartbeats 4000000 in
set_option maxRecDepth 100000 in
theorem zk_X2_payOut (l : Launch) (hfl : l.stackTraces = false) (D : va_G) (cA : Nat → ClassId) (b : Nat → Nat → Nat) (rd : Nat) (x : Nat → Nat) (X : BK) (N : NK) (B : BK) (Bs : Nat → BK) (i1 : Int32) (am : Int32) (hpm : zpm N) (hsv2 : N 0 0 ≤ 6) : vx_Met l yX2_payOut wsX2_payOut (zrx 8 132 2 12) (zPx D cA [.ref (x 0), .int i1, .int am] (xmW cA x b rd X N ++ (bkW (cA 0) (b 0) B ++ (otW (cA 0) b Bs)))) (zV (zva [(zmem i1, zeO), (zrg am 1 9999, zeA)]) (zM D (xmW cA x b rd X N ++ (bkW (cA 0) (b 0) B ++ (otW (cA 0) b Bs))) (xmW cA x b rd X ((f_X2_payOut N B Bs i1 am).2.1) ++ (bkW (cA 0) (b 0) ((f_X2_payOut N B Bs i1 am).2.2.1) ++ (otW (cA 0) b ((f_X2_payOut N B Bs i1 am).2.2.2)))) (some (.int ((f_X2_payOut N B Bs i1 am).1))))) (zX D (xmW cA x b rd X N ++ (bkW (cA 0) (b 0) B ++ (otW (cA 0) b Bs))) (xmW cA x b rd X N ++ (bkW (cA 0) (b 0) B ++ (otW (cA 0) b Bs))) (zxp [(zmem i1, zeO), (zrg am 1 9999, zeA)])) 2 12 (zfr (xmW cA x b rd X N ++ (bkW (cA 0) (b 0) B ++ (otW (cA 0) b Bs)))) := by
  refine vx_ofW (cc := cX2_payOut) (maxL := 3) (ret := (some .int)) (by decide) rfl ?_
  intro p e s m args below meth c s₁ Bd hml hnt hv
  obtain ⟨rfl, hP, hK, hD0, hO⟩ := hv
  have hx := Bd.exec
  have hb := Bd.bytes
  have hr := Bd.returns
  have hts := atoms_spec (ws := wsX2_payOut) Bd.pre
  have hown : s.vm.findClass RX2 = some m.cls := findClass_of_methodNamed Bd.named
  have hlocks := Bd.notSynchronized
  have hD := z_Dfr hD0
  have hS : va_S (zfr (xmW cA x b rd X N ++ (bkW (cA 0) (b 0) B ++ (otW (cA 0) b Bs)))) s.heap s.heap [] := va_S.rf
  have hi0 : ∀ w ∈ wsX00, w ∈ wsX2_payOut := fun w h => List.mem_cons_of_mem _ (List.mem_append_left _ (List.mem_append_left _ (List.mem_append_right _ h)))
  have hi2 : ∀ w ∈ wsX20, w ∈ wsX2_payOut := fun w h => List.mem_cons_of_mem _ (List.mem_append_left _ (List.mem_append_left _ (List.mem_append_left _ (List.mem_append_right _ h))))
  have hl := lv_entry ([.ref (x 0), .int i1, .int am]) (n := 3) (Nat.le_of_ble_eq_true rfl)
  rw [lg_entry_eq]
  generalize (lg_sl ([.ref (x 0), .int i1, .int am]) ++ List.replicate (3 - (lg_sl ([.ref (x 0), .int i1, .int am])).length) Slot.unset).toArray = ls at hl ⊢
  have hl : lv_has ls 3 [(0, .ref (x 0)), (1, .int i1), (2, .int am)] := hl
  refine lv_iload_n hx hb dX2_payOut_0 rfl (lv_at hl 1 rfl) ?_
  refine zx_chk (w := xmW cA x b rd X N ++ (bkW (cA 0) (b 0) B ++ (otW (cA 0) b Bs))) (vx_runS (As := [.int i1]) (rest := []) ⟨hx, hb, hml, hown, hts⟩ (zk_X2_checkMember l hfl D cA i1) (va_cwS 1 hts gX2_payOut_X2_checkMember rfl rfl rfl zy_X2_checkMember.2 ⟨Nat.le_of_ble_eq_true rfl, Nat.le_of_ble_eq_true rfl⟩) (zx_preS (A := zfr (xmW cA x b rd X N ++ (bkW (cA 0) (b 0) B ++ (otW (cA 0) b Bs)))) hK z_P0 (z_D0 (A := fun _ => True)) hO hS (fun q h => (zfr_0 q h).elim)) rfl rfl hl.1 rfl (lv_room (Nat.le_of_ble_eq_true rfl)) dX2_payOut_1 ⟨Nat.le_of_ble_eq_true rfl, Nat.le_of_ble_eq_true rfl⟩) rfl hnt hlocks hP (fun E h9 => zxp_mid (pre := []) (vc := [(zmem i1, zeO)]) (suf := [(zrg am 1 9999, zeA)]) trivial h9) (Nat.le_of_ble_eq_true rfl) (Nat.le_of_ble_eq_true rfl) (fun hv_1 => ?_)
  obtain ⟨m1, hm1, rfl⟩ : ∃ q9 : Nat, q9 < 6 ∧ i1 = nI q9 := hv_1.1
  have hcl_m1 : (nI m1).toNatClampNeg = m1 := nI_clamp (by omega)
  refine lv_iload_n hx hb dX2_payOut_4 rfl (lv_at hl 2 rfl) ?_
  refine zx_chk (w := xmW cA x b rd X N ++ (bkW (cA 0) (b 0) B ++ (otW (cA 0) b Bs))) (vx_runS (As := [.int am]) (rest := []) ⟨hx, hb, hml, hown, hts⟩ (zk_X2_checkAmount l hfl D cA am) (va_cwS 1 hts gX2_payOut_X2_checkAmount rfl rfl rfl zy_X2_checkAmount.2 ⟨Nat.le_of_ble_eq_true rfl, Nat.le_of_ble_eq_true rfl⟩) (zx_preS (A := zfr (xmW cA x b rd X N ++ (bkW (cA 0) (b 0) B ++ (otW (cA 0) b Bs)))) hK z_P0 (z_D0 (A := fun _ => True)) hO hS (fun q h => (zfr_0 q h).elim)) rfl rfl hl.1 rfl (lv_room (Nat.le_of_ble_eq_true rfl)) dX2_payOut_5 ⟨Nat.le_of_ble_eq_true rfl, Nat.le_of_ble_eq_true rfl⟩) rfl hnt hlocks hP (fun E h9 => zxp_mid (pre := [(zmem (nI m1), zeO)]) (vc := [(zrg am 1 9999, zeA)]) (suf := []) ⟨hv_1.1, trivial⟩ h9) (Nat.le_of_ble_eq_true rfl) (Nat.le_of_ble_eq_true rfl) (fun hv_5 => ?_)
  refine lv_aload_n hx hb dX2_payOut_8 rfl (lv_at hl 0 rfl) ?_
  refine z_M (X := ([] : va_W)) (Z := ([] : va_W)) (va_runV (As := []) (rest := []) ⟨hx, hb, hml, hown, hts⟩ (zc_X2_saveState l D cA b rd x X N B Bs (by first | assumption | omega) (by first | assumption | omega)) (cwV 0 hts gX2_payOut_X2_saveState rfl rfl rfl zy_X2_saveState ⟨Nat.le_of_ble_eq_true rfl, Nat.le_of_ble_eq_true rfl⟩) (z_preV (ci := 2) hK hP hD rfl rfl) rfl rfl hl.1 rfl (lv_room (Nat.le_of_ble_eq_true rfl)) dX2_payOut_9 ⟨Nat.le_of_ble_eq_true rfl, Nat.le_of_ble_eq_true rfl⟩) hP hD hS (z_adr2 xmW_adr (z_adr2 bkW_adr otW_adr)) rfl (fun H locs hP9 hD9 hS9 => ?_)
  replace hP : va_P D vwCl (xmW cA x b rd X ((f_X2_saveState N B Bs).1) ++ (bkW (cA 0) (b 0) B ++ (otW (cA 0) b ((f_X2_saveState N B Bs).2)))) H := hP9
  replace hD : va_D _ (xmW cA x b rd X ((f_X2_saveState N B Bs).1) ++ (bkW (cA 0) (b 0) B ++ (otW (cA 0) b ((f_X2_saveState N B Bs).2)))) := hD9
  replace hS := hS9
  clear hP9 hD9 hS9
  obtain ⟨N_1, eN_1⟩ : ∃ z9 : NK, z9 = (f_X2_saveState N B Bs).1 := ⟨_, rfl⟩
  rw [← eN_1] at hP hD
  obtain ⟨M_2, eM_2⟩ : ∃ z9 : Nat → BK, z9 = (f_X2_saveState N B Bs).2 := ⟨_, rfl⟩
  rw [← eM_2] at hP hD
  refine lv_aload_n hx hb dX2_payOut_12 rfl (lv_at hl 0 rfl) ?_
  refine va_get (D := D) (ci := 2) (v := .ref (b 0 0)) (C := RX2) (T := TX2) (N := 9) hx hb hts hi2 hown hK hP 0 rfl rfl 0 (by decide) (hts (.fieldLink RX2 10 "PledgedLoans" "books" "LPledgedLoans$Books;") (List.mem_of_getElem? (i := 1) rfl)) (fun _ h9 => h9) rfl dX2_payOut_13 ?_
  refine lv_iload_n hx hb dX2_payOut_16 rfl (lv_at hl 1 rfl) ?_
  refine lv_iload_n hx hb dX2_payOut_17 rfl (lv_at hl 2 rfl) ?_
  refine z_M (X := xmW cA x b rd X N_1) (Z := otW (cA 0) b M_2) (va_runV (As := [.int (nI m1), .int am]) (rest := []) ⟨hx, hb, hml, hown, hts⟩ (zc_X0_giveOut l D cA (b 0) B m1 am (by omega)) (cwV 2 hts gX2_payOut_X0_giveOut rfl rfl rfl zy_X0_giveOut ⟨Nat.le_of_ble_eq_true rfl, Nat.le_of_ble_eq_true rfl⟩) (z_preV (ci := 0) hK (hP.sub (ws' := bkW (cA 0) (b 0) B) [6, 7, 8, 9, 10, 11, 12, 13, 14] rfl) (hD.sub (ws' := bkW (cA 0) (b 0) B) [6, 7, 8, 9, 10, 11, 12, 13, 14] (by decide) rfl) rfl rfl) rfl rfl hl.1 rfl (lv_room (Nat.le_of_ble_eq_true rfl)) dX2_payOut_18 ⟨Nat.le_of_ble_eq_true rfl, Nat.le_of_ble_eq_true rfl⟩) hP hD hS bkW_adr rfl (fun H locs hP9 hD9 hS9 => ?_)
  replace hP : va_P D vwCl (xmW cA x b rd X N_1 ++ (bkW (cA 0) (b 0) ((f_X0_giveOut B m1 am).2) ++ (otW (cA 0) b M_2))) H := hP9
  replace hD : va_D _ (xmW cA x b rd X N_1 ++ (bkW (cA 0) (b 0) ((f_X0_giveOut B m1 am).2) ++ (otW (cA 0) b M_2))) := hD9
  replace hS := hS9
  clear hP9 hD9 hS9
  obtain ⟨M_3, eM_3⟩ : ∃ z9 : BK, z9 = (f_X0_giveOut B m1 am).2 := ⟨_, rfl⟩
  rw [← eM_3] at hP hD
  refine W.widen (k := 2) (n := 12) (Nat.le_of_ble_eq_true rfl) (Nat.le_of_ble_eq_true rfl) ?_
  refine zx_ret ⟨hv_1.1, hv_5.1, trivial⟩ ?_
  exact z_iretM (w1 := xmW cA x b rd X N_1 ++ (bkW (cA 0) (b 0) M_3 ++ (otW (cA 0) b M_2))) hx hb hr hlocks dX2_payOut_21 hP hS (by subst eM_3 eM_2 eN_1; first | (simp only [f_X2_payOut, hcl_m1]; done) | rfl) (by subst eM_3 eM_2 eN_1; first | (simp only [f_X2_payOut, hcl_m1]; done) | rfl)

theorem zy_X2_repay : yX2_repay.cls = RX2 ∧ yX2_repay.cls ≠ "java/lang/invoke/MethodHandle" ∧ yX2_repay.cls ≠ "java/lang/invoke/VarHandle" ∧ (parseMethodDescriptor yX2_repay.desc).map (fun d => d.parameters.length) = some 2 := by decide +kernel
def f_X2_repay (N : NK) (B : BK) (Bs : Nat → BK) (i1 : Int32) (am : Int32) : Int32 × NK × BK × (Nat → BK) :=
  let N_1 : NK := (f_X2_saveState N B Bs).1
  let M_2 : Nat → BK := (f_X2_saveState N B Bs).2
  let M_3 : BK := (f_X0_takeBack B i1.toNatClampNeg am).2
  ((f_X0_takeBack B i1.toNatClampNeg am).1, N_1, M_3, M_2)

set_option maxHeartbeats 4000000 in
set_option maxRecDepth 100000 in
theorem zk_X2_repay (l : Launch) (hfl : l.stackTraces = false) (D : va_G) (cA : Nat → ClassId) (b : Nat → Nat → Nat) (rd : Nat) (x : Nat → Nat) (X : BK) (N : NK) (B : BK) (Bs : Nat → BK) (i1 : Int32) (am : Int32) (hpm : zpm N) (hsv2 : N 0 0 ≤ 6) : vx_Met l yX2_repay wsX2_repay (zrx 8 132 2 12) (zPx D cA [.ref (x 0), .int i1, .int am] (xmW cA x b rd X N ++ (bkW (cA 0) (b 0) B ++ (otW (cA 0) b Bs)))) (zV (zva [(zmem i1, zeO), (zrg am 1 9999, zeA)]) (zM D (xmW cA x b rd X N ++ (bkW (cA 0) (b 0) B ++ (otW (cA 0) b Bs))) (xmW cA x b rd X ((f_X2_repay N B Bs i1 am).2.1) ++ (bkW (cA 0) (b 0) ((f_X2_repay N B Bs i1 am).2.2.1) ++ (otW (cA 0) b ((f_X2_repay N B Bs i1 am).2.2.2)))) (some (.int ((f_X2_repay N B Bs i1 am).1))))) (zX D (xmW cA x b rd X N ++ (bkW (cA 0) (b 0) B ++ (otW (cA 0) b Bs))) (xmW cA x b rd X N ++ (bkW (cA 0) (b 0) B ++ (otW (cA 0) b Bs))) (zxp [(zmem i1, zeO), (zrg am 1 9999, zeA)])) 2 12 (zfr (xmW cA x b rd X N ++ (bkW (cA 0) (b 0) B ++ (otW (cA 0) b Bs)))) := by
  refine vx_ofW (cc := cX2_repay) (maxL := 3) (ret := (some .int)) (by decide) rfl ?_
  intro p e s m args below meth c s₁ Bd hml hnt hv
  obtain ⟨rfl, hP, hK, hD0, hO⟩ := hv
  have hx := Bd.exec
  have hb := Bd.bytes
  have hr := Bd.returns
  have hts := atoms_spec (ws := wsX2_repay) Bd.pre
  have hown : s.vm.findClass RX2 = some m.cls := findClass_of_methodNamed Bd.named
  have hlocks := Bd.notSynchronized
  have hD := z_Dfr hD0
  have hS : va_S (zfr (xmW cA x b rd X N ++ (bkW (cA 0) (b 0) B ++ (otW (cA 0) b Bs)))) s.heap s.heap [] := va_S.rf
  have hi0 : ∀ w ∈ wsX00, w ∈ wsX2_repay := fun w h => List.mem_cons_of_mem _ (List.mem_append_left _ (List.mem_append_left _ (List.mem_append_right _ h)))
  have hi2 : ∀ w ∈ wsX20, w ∈ wsX2_repay := fun w h => List.mem_cons_of_mem _ (List.mem_append_left _ (List.mem_append_left _ (List.mem_append_left _ (List.mem_append_right _ h))))
  have hl := lv_entry ([.ref (x 0), .int i1, .int am]) (n := 3) (Nat.le_of_ble_eq_true rfl)
  rw [lg_entry_eq]
  generalize (lg_sl ([.ref (x 0), .int i1, .int am]) ++ List.replicate (3 - (lg_sl ([.ref (x 0), .int i1, .int am])).length) Slot.unset).toArray = ls at hl ⊢
  have hl : lv_has ls 3 [(0, .ref (x 0)), (1, .int i1), (2, .int am)] := hl
  refine lv_iload_n hx hb dX2_repay_0 rfl (lv_at hl 1 rfl) ?_
  refine zx_chk (w := xmW cA x b rd X N ++ (bkW (cA 0) (b 0) B ++ (otW (cA 0) b Bs))) (vx_runS (As := [.int i1]) (rest := []) ⟨hx, hb, hml, hown, hts⟩ (zk_X2_checkMember l hfl D cA i1) (va_cwS 1 hts gX2_repay_X2_checkMember rfl rfl rfl zy_X2_checkMember.2 ⟨Nat.le_of_ble_eq_true rfl, Nat.le_of_ble_eq_true rfl⟩) (zx_preS (A := zfr (xmW cA x b rd X N ++ (bkW (cA 0) (b 0) B ++ (otW (cA 0) b Bs)))) hK z_P0 (z_D0 (A := fun _ => True)) hO hS (fun q h => (zfr_0 q h).elim)) rfl rfl hl.1 rfl (lv_room (Nat.le_of_ble_eq_true rfl)) dX2_repay_1 ⟨Nat.le_of_ble_eq_true rfl, Nat.le_of_ble_eq_true rfl⟩) rfl hnt hlocks hP (fun E h9 => zxp_mid (pre := []) (vc := [(zmem i1, zeO)]) (suf := [(zrg am 1 9999, zeA)]) trivial h9) (Nat.le_of_ble_eq_true rfl) (Nat.le_of_ble_eq_true rfl) (fun hv_1 => ?_)
  obtain ⟨m1, hm1, rfl⟩ : ∃ q9 : Nat, q9 < 6 ∧ i1 = nI q9 := hv_1.1
  have hcl_m1 : (nI m1).toNatClampNeg = m1 := nI_clamp (by omega)
  refine lv_iload_n hx hb dX2_repay_4 rfl (lv_at hl 2 rfl) ?_
  refine zx_chk (w := xmW cA x b rd X N ++ (bkW (cA 0) (b 0) B ++ (otW (cA 0) b Bs))) (vx_runS (As := [.int am]) (rest := []) ⟨hx, hb, hml, hown, hts⟩ (zk_X2_checkAmount l hfl D cA am) (va_cwS 1 hts gX2_repay_X2_checkAmount rfl rfl rfl zy_X2_checkAmount.2 ⟨Nat.le_of_ble_eq_true rfl, Nat.le_of_ble_eq_true rfl⟩) (zx_preS (A := zfr (xmW cA x b rd X N ++ (bkW (cA 0) (b 0) B ++ (otW (cA 0) b Bs)))) hK z_P0 (z_D0 (A := fun _ => True)) hO hS (fun q h => (zfr_0 q h).elim)) rfl rfl hl.1 rfl (lv_room (Nat.le_of_ble_eq_true rfl)) dX2_repay_5 ⟨Nat.le_of_ble_eq_true rfl, Nat.le_of_ble_eq_true rfl⟩) rfl hnt hlocks hP (fun E h9 => zxp_mid (pre := [(zmem (nI m1), zeO)]) (vc := [(zrg am 1 9999, zeA)]) (suf := []) ⟨hv_1.1, trivial⟩ h9) (Nat.le_of_ble_eq_true rfl) (Nat.le_of_ble_eq_true rfl) (fun hv_5 => ?_)
  refine lv_aload_n hx hb dX2_repay_8 rfl (lv_at hl 0 rfl) ?_
  refine z_M (X := ([] : va_W)) (Z := ([] : va_W)) (va_runV (As := []) (rest := []) ⟨hx, hb, hml, hown, hts⟩ (zc_X2_saveState l D cA b rd x X N B Bs (by first | assumption | omega) (by first | assumption | omega)) (cwV 0 hts gX2_repay_X2_saveState rfl rfl rfl zy_X2_saveState ⟨Nat.le_of_ble_eq_true rfl, Nat.le_of_ble_eq_true rfl⟩) (z_preV (ci := 2) hK hP hD rfl rfl) rfl rfl hl.1 rfl (lv_room (Nat.le_of_ble_eq_true rfl)) dX2_repay_9 ⟨Nat.le_of_ble_eq_true rfl, Nat.le_of_ble_eq_true rfl⟩) hP hD hS (z_adr2 xmW_adr (z_adr2 bkW_adr otW_adr)) rfl (fun H locs hP9 hD9 hS9 => ?_)
  replace hP : va_P D vwCl (xmW cA x b rd X ((f_X2_saveState N B Bs).1) ++ (bkW (cA 0) (b 0) B ++ (otW (cA 0) b ((f_X2_saveState N B Bs).2)))) H := hP9
  replace hD : va_D _ (xmW cA x b rd X ((f_X2_saveState N B Bs).1) ++ (bkW (cA 0) (b 0) B ++ (otW (cA 0) b ((f_X2_saveState N B Bs).2)))) := hD9
  replace hS := hS9
  clear hP9 hD9 hS9
  obtain ⟨N_1, eN_1⟩ : ∃ z9 : NK, z9 = (f_X2_saveState N B Bs).1 := ⟨_, rfl⟩
  rw [← eN_1] at hP hD
  obtain ⟨M_2, eM_2⟩ : ∃ z9 : Nat → BK, z9 = (f_X2_saveState N B Bs).2 := ⟨_, rfl⟩
  rw [← eM_2] at hP hD
  refine lv_aload_n hx hb dX2_repay_12 rfl (lv_at hl 0 rfl) ?_
  refine va_get (D := D) (ci := 2) (v := .ref (b 0 0)) (C := RX2) (T := TX2) (N := 9) hx hb hts hi2 hown hK hP 0 rfl rfl 0 (by decide) (hts (.fieldLink RX2 10 "PledgedLoans" "books" "LPledgedLoans$Books;") (List.mem_of_getElem? (i := 1) rfl)) (fun _ h9 => h9) rfl dX2_repay_13 ?_
  refine lv_iload_n hx hb dX2_repay_16 rfl (lv_at hl 1 rfl) ?_
  refine lv_iload_n hx hb dX2_repay_17 rfl (lv_at hl 2 rfl) ?_
  refine z_M (X := xmW cA x b rd X N_1) (Z := otW (cA 0) b M_2) (va_runV (As := [.int (nI m1), .int am]) (rest := []) ⟨hx, hb, hml, hown, hts⟩ (zc_X0_takeBack l D cA (b 0) B m1 am (by omega)) (cwV 2 hts gX2_repay_X0_takeBack rfl rfl rfl zy_X0_takeBack ⟨Nat.le_of_ble_eq_true rfl, Nat.le_of_ble_eq_true rfl⟩) (z_preV (ci := 0) hK (hP.sub (ws' := bkW (cA 0) (b 0) B) [6, 7, 8, 9, 10, 11, 12, 13, 14] rfl) (hD.sub (ws' := bkW (cA 0) (b 0) B) [6, 7, 8, 9, 10, 11, 12, 13, 14] (by decide) rfl) rfl rfl) rfl rfl hl.1 rfl (lv_room (Nat.le_of_ble_eq_true rfl)) dX2_repay_18 ⟨Nat.le_of_ble_eq_true rfl, Nat.le_of_ble_eq_true rfl⟩) hP hD hS bkW_adr rfl (fun H locs hP9 hD9 hS9 => ?_)
  replace hP : va_P D vwCl (xmW cA x b rd X N_1 ++ (bkW (cA 0) (b 0) ((f_X0_takeBack B m1 am).2) ++ (otW (cA 0) b M_2))) H := hP9
  replace hD : va_D _ (xmW cA x b rd X N_1 ++ (bkW (cA 0) (b 0) ((f_X0_takeBack B m1 am).2) ++ (otW (cA 0) b M_2))) := hD9
  replace hS := hS9
  clear hP9 hD9 hS9
  obtain ⟨M_3, eM_3⟩ : ∃ z9 : BK, z9 = (f_X0_takeBack B m1 am).2 := ⟨_, rfl⟩
  rw [← eM_3] at hP hD
  refine W.widen (k := 2) (n := 12) (Nat.le_of_ble_eq_true rfl) (Nat.le_of_ble_eq_true rfl) ?_
  refine zx_ret ⟨hv_1.1, hv_5.1, trivial⟩ ?_
  exact z_iretM (w1 := xmW cA x b rd X N_1 ++ (bkW (cA 0) (b 0) M_3 ++ (otW (cA 0) b M_2))) hx hb hr hlocks dX2_repay_21 hP hS (by subst eM_3 eM_2 eN_1; first | (simp only [f_X2_repay, hcl_m1]; done) | rfl) (by subst eM_3 eM_2 eN_1; first | (simp only [f_X2_repay, hcl_m1]; done) | rfl)

theorem zy_X2_pledge : yX2_pledge.cls = RX2 ∧ yX2_pledge.cls ≠ "java/lang/invoke/MethodHandle" ∧ yX2_pledge.cls ≠ "java/lang/invoke/VarHandle" ∧ (parseMethodDescriptor yX2_pledge.desc).map (fun d => d.parameters.length) = some 3 := by decide +kernel
def f_X2_pledge (N : NK) (B : BK) (Bs : Nat → BK) (i1 : Int32) (i2 : Int32) (am : Int32) : Int32 × NK × BK × (Nat → BK) :=
  let N_1 : NK := (f_X2_saveState N B Bs).1
  let M_2 : Nat → BK := (f_X2_saveState N B Bs).2
  let M_3 : BK := (f_X0_addPledge B i1.toNatClampNeg i2.toNatClampNeg am).2
  ((f_X0_addPledge B i1.toNatClampNeg i2.toNatClampNeg am).1, N_1, M_3, M_2)

set_option maxHeartbeats 4000000 in
set_option maxRecDepth 100000 in
theorem zk_X2_pledge (l : Launch) (hfl : l.stackTraces = false) (D : va_G) (cA : Nat → ClassId) (b : Nat → Nat → Nat) (rd : Nat) (x : Nat → Nat) (X : BK) (N : NK) (B : BK) (Bs : Nat → BK) (i1 : Int32) (i2 : Int32) (am : Int32) (hpm : zpm N) (hsv2 : N 0 0 ≤ 6) : vx_Met l yX2_pledge wsX2_pledge (zrx 8 132 4 24) (zPx D cA [.ref (x 0), .int i1, .int i2, .int am] (xmW cA x b rd X N ++ (bkW (cA 0) (b 0) B ++ (otW (cA 0) b Bs)))) (zV (zva [(zmem i1, zeO), (zmem i2, zeO), (¬ i1 = i2, zeA), (zrg am 1 9999, zeA)]) (zM D (xmW cA x b rd X N ++ (bkW (cA 0) (b 0) B ++ (otW (cA 0) b Bs))) (xmW cA x b rd X ((f_X2_pledge N B Bs i1 i2 am).2.1) ++ (bkW (cA 0) (b 0) ((f_X2_pledge N B Bs i1 i2 am).2.2.1) ++ (otW (cA 0) b ((f_X2_pledge N B Bs i1 i2 am).2.2.2)))) (some (.int ((f_X2_pledge N B Bs i1 i2 am).1))))) (zX D (xmW cA x b rd X N ++ (bkW (cA 0) (b 0) B ++ (otW (cA 0) b Bs))) (xmW cA x b rd X N ++ (bkW (cA 0) (b 0) B ++ (otW (cA 0) b Bs))) (zxp [(zmem i1, zeO), (zmem i2, zeO), (¬ i1 = i2, zeA), (zrg am 1 9999, zeA)])) 4 24 (zfr (xmW cA x b rd X N ++ (bkW (cA 0) (b 0) B ++ (otW (cA 0) b Bs)))) := by
  refine vx_ofW (cc := cX2_pledge) (maxL := 4) (ret := (some .int)) (by decide) rfl ?_
  intro p e s m args below meth c s₁ Bd hml hnt hv
  obtain ⟨rfl, hP, hK, hD0, hO⟩ := hv
  have hx := Bd.exec
  have hb := Bd.bytes
  have hr := Bd.returns
  have hts := atoms_spec (ws := wsX2_pledge) Bd.pre
  have hown : s.vm.findClass RX2 = some m.cls := findClass_of_methodNamed Bd.named
  have hlocks := Bd.notSynchronized
  have hD := z_Dfr hD0
  have hS : va_S (zfr (xmW cA x b rd X N ++ (bkW (cA 0) (b 0) B ++ (otW (cA 0) b Bs)))) s.heap s.heap [] := va_S.rf
  have hi0 : ∀ w ∈ wsX00, w ∈ wsX2_pledge := fun w h => List.mem_cons_of_mem _ (List.mem_append_left _ (List.mem_append_left _ (List.mem_append_right _ h)))
  have hi2 : ∀ w ∈ wsX20, w ∈ wsX2_pledge := fun w h => List.mem_cons_of_mem _ (List.mem_append_left _ (List.mem_append_left _ (List.mem_append_left _ (List.mem_append_right _ h))))
  have hl := lv_entry ([.ref (x 0), .int i1, .int i2, .int am]) (n := 4) (Nat.le_of_ble_eq_true rfl)
  rw [lg_entry_eq]
  generalize (lg_sl ([.ref (x 0), .int i1, .int i2, .int am]) ++ List.replicate (4 - (lg_sl ([.ref (x 0), .int i1, .int i2, .int am])).length) Slot.unset).toArray = ls at hl ⊢
  have hl : lv_has ls 4 [(0, .ref (x 0)), (1, .int i1), (2, .int i2), (3, .int am)] := hl
  refine lv_iload_n hx hb dX2_pledge_0 rfl (lv_at hl 1 rfl) ?_
  refine lv_iload_n hx hb dX2_pledge_1 rfl (lv_at hl 2 rfl) ?_
  refine zx_chk (w := xmW cA x b rd X N ++ (bkW (cA 0) (b 0) B ++ (otW (cA 0) b Bs))) (vx_runS (As := [.int i1, .int i2]) (rest := []) ⟨hx, hb, hml, hown, hts⟩ (zk_X2_checkPair l hfl D cA i1 i2) (va_cwS 2 hts gX2_pledge_X2_checkPair rfl rfl rfl zy_X2_checkPair.2 ⟨Nat.le_of_ble_eq_true rfl, Nat.le_of_ble_eq_true rfl⟩) (zx_preS (A := zfr (xmW cA x b rd X N ++ (bkW (cA 0) (b 0) B ++ (otW (cA 0) b Bs)))) hK z_P0 (z_D0 (A := fun _ => True)) hO hS (fun q h => (zfr_0 q h).elim)) rfl rfl hl.1 rfl (lv_room (Nat.le_of_ble_eq_true rfl)) dX2_pledge_2 ⟨Nat.le_of_ble_eq_true rfl, Nat.le_of_ble_eq_true rfl⟩) rfl hnt hlocks hP (fun E h9 => zxp_mid (pre := []) (vc := [(zmem i1, zeO), (zmem i2, zeO), (¬ i1 = i2, zeA)]) (suf := [(zrg am 1 9999, zeA)]) trivial h9) (Nat.le_of_ble_eq_true rfl) (Nat.le_of_ble_eq_true rfl) (fun hv_2 => ?_)
  obtain ⟨m1, hm1, rfl⟩ : ∃ q9 : Nat, q9 < 6 ∧ i1 = nI q9 := hv_2.1
  have hcl_m1 : (nI m1).toNatClampNeg = m1 := nI_clamp (by omega)
  obtain ⟨m2, hm2, rfl⟩ : ∃ q9 : Nat, q9 < 6 ∧ i2 = nI q9 := hv_2.2.1
  have hcl_m2 : (nI m2).toNatClampNeg = m2 := nI_clamp (by omega)
  refine lv_iload_n hx hb dX2_pledge_5 rfl (lv_at hl 3 rfl) ?_
  refine zx_chk (w := xmW cA x b rd X N ++ (bkW (cA 0) (b 0) B ++ (otW (cA 0) b Bs))) (vx_runS (As := [.int am]) (rest := []) ⟨hx, hb, hml, hown, hts⟩ (zk_X2_checkAmount l hfl D cA am) (va_cwS 1 hts gX2_pledge_X2_checkAmount rfl rfl rfl zy_X2_checkAmount.2 ⟨Nat.le_of_ble_eq_true rfl, Nat.le_of_ble_eq_true rfl⟩) (zx_preS (A := zfr (xmW cA x b rd X N ++ (bkW (cA 0) (b 0) B ++ (otW (cA 0) b Bs)))) hK z_P0 (z_D0 (A := fun _ => True)) hO hS (fun q h => (zfr_0 q h).elim)) rfl rfl hl.1 rfl (lv_room (Nat.le_of_ble_eq_true rfl)) dX2_pledge_6 ⟨Nat.le_of_ble_eq_true rfl, Nat.le_of_ble_eq_true rfl⟩) rfl hnt hlocks hP (fun E h9 => zxp_mid (pre := [(zmem (nI m1), zeO), (zmem (nI m2), zeO), (¬ (nI m1) = (nI m2), zeA)]) (vc := [(zrg am 1 9999, zeA)]) (suf := []) ⟨hv_2.1, hv_2.2.1, hv_2.2.2.1, trivial⟩ h9) (Nat.le_of_ble_eq_true rfl) (Nat.le_of_ble_eq_true rfl) (fun hv_6 => ?_)
  refine lv_aload_n hx hb dX2_pledge_9 rfl (lv_at hl 0 rfl) ?_
  refine z_M (X := ([] : va_W)) (Z := ([] : va_W)) (va_runV (As := []) (rest := []) ⟨hx, hb, hml, hown, hts⟩ (zc_X2_saveState l D cA b rd x X N B Bs (by first | assumption | omega) (by first | assumption | omega)) (cwV 0 hts gX2_pledge_X2_saveState rfl rfl rfl zy_X2_saveState ⟨Nat.le_of_ble_eq_true rfl, Nat.le_of_ble_eq_true rfl⟩) (z_preV (ci := 2) hK hP hD rfl rfl) rfl rfl hl.1 rfl (lv_room (Nat.le_of_ble_eq_true rfl)) dX2_pledge_10 ⟨Nat.le_of_ble_eq_true rfl, Nat.le_of_ble_eq_true rfl⟩) hP hD hS (z_adr2 xmW_adr (z_adr2 bkW_adr otW_adr)) rfl (fun H locs hP9 hD9 hS9 => ?_)
  replace hP : va_P D vwCl (xmW cA x b rd X ((f_X2_saveState N B Bs).1) ++ (bkW (cA 0) (b 0) B ++ (otW (cA 0) b ((f_X2_saveState N B Bs).2)))) H := hP9
  replace hD : va_D _ (xmW cA x b rd X ((f_X2_saveState N B Bs).1) ++ (bkW (cA 0) (b 0) B ++ (otW (cA 0) b ((f_X2_saveState N B Bs).2)))) := hD9
  replace hS := hS9
  clear hP9 hD9 hS9
  obtain ⟨N_1, eN_1⟩ : ∃ z9 : NK, z9 = (f_X2_saveState N B Bs).1 := ⟨_, rfl⟩
  rw [← eN_1] at hP hD
  obtain ⟨M_2, eM_2⟩ : ∃ z9 : Nat → BK, z9 = (f_X2_saveState N B Bs).2 := ⟨_, rfl⟩
  rw [← eM_2] at hP hD
  refine lv_aload_n hx hb dX2_pledge_13 rfl (lv_at hl 0 rfl) ?_
  refine va_get (D := D) (ci := 2) (v := .ref (b 0 0)) (C := RX2) (T := TX2) (N := 9) hx hb hts hi2 hown hK hP 0 rfl rfl 0 (by decide) (hts (.fieldLink RX2 10 "PledgedLoans" "books" "LPledgedLoans$Books;") (List.mem_of_getElem? (i := 1) rfl)) (fun _ h9 => h9) rfl dX2_pledge_14 ?_
  refine lv_iload_n hx hb dX2_pledge_17 rfl (lv_at hl 1 rfl) ?_
  refine lv_iload_n hx hb dX2_pledge_18 rfl (lv_at hl 2 rfl) ?_
  refine lv_iload_n hx hb dX2_pledge_19 rfl (lv_at hl 3 rfl) ?_
  refine z_M (X := xmW cA x b rd X N_1) (Z := otW (cA 0) b M_2) (va_runV (As := [.int (nI m1), .int (nI m2), .int am]) (rest := []) ⟨hx, hb, hml, hown, hts⟩ (zc_X0_addPledge l D cA (b 0) B m1 m2 am (by omega) (by omega)) (cwV 3 hts gX2_pledge_X0_addPledge rfl rfl rfl zy_X0_addPledge ⟨Nat.le_of_ble_eq_true rfl, Nat.le_of_ble_eq_true rfl⟩) (z_preV (ci := 0) hK (hP.sub (ws' := bkW (cA 0) (b 0) B) [6, 7, 8, 9, 10, 11, 12, 13, 14] rfl) (hD.sub (ws' := bkW (cA 0) (b 0) B) [6, 7, 8, 9, 10, 11, 12, 13, 14] (by decide) rfl) rfl rfl) rfl rfl hl.1 rfl (lv_room (Nat.le_of_ble_eq_true rfl)) dX2_pledge_20 ⟨Nat.le_of_ble_eq_true rfl, Nat.le_of_ble_eq_true rfl⟩) hP hD hS bkW_adr rfl (fun H locs hP9 hD9 hS9 => ?_)
  replace hP : va_P D vwCl (xmW cA x b rd X N_1 ++ (bkW (cA 0) (b 0) ((f_X0_addPledge B m1 m2 am).2) ++ (otW (cA 0) b M_2))) H := hP9
  replace hD : va_D _ (xmW cA x b rd X N_1 ++ (bkW (cA 0) (b 0) ((f_X0_addPledge B m1 m2 am).2) ++ (otW (cA 0) b M_2))) := hD9
  replace hS := hS9
  clear hP9 hD9 hS9
  obtain ⟨M_3, eM_3⟩ : ∃ z9 : BK, z9 = (f_X0_addPledge B m1 m2 am).2 := ⟨_, rfl⟩
  rw [← eM_3] at hP hD
  refine W.widen (k := 4) (n := 24) (Nat.le_of_ble_eq_true rfl) (Nat.le_of_ble_eq_true rfl) ?_
  refine zx_ret ⟨hv_2.1, hv_2.2.1, hv_2.2.2.1, hv_6.1, trivial⟩ ?_
  exact z_iretM (w1 := xmW cA x b rd X N_1 ++ (bkW (cA 0) (b 0) M_3 ++ (otW (cA 0) b M_2))) hx hb hr hlocks dX2_pledge_23 hP hS (by subst eM_3 eM_2 eN_1; first | (simp only [f_X2_pledge, hcl_m1, hcl_m2]; done) | rfl) (by subst eM_3 eM_2 eN_1; first | (simp only [f_X2_pledge, hcl_m1, hcl_m2]; done) | rfl)

theorem zy_X2_unpledge : yX2_unpledge.cls = RX2 ∧ yX2_unpledge.cls ≠ "java/lang/invoke/MethodHandle" ∧ yX2_unpledge.cls ≠ "java/lang/invoke/VarHandle" ∧ (parseMethodDescriptor yX2_unpledge.desc).map (fun d => d.parameters.length) = some 3 := by decide +kernel
def f_X2_unpledge (N : NK) (B : BK) (Bs : Nat → BK) (i1 : Int32) (i2 : Int32) (am : Int32) : Int32 × NK × BK × (Nat → BK) :=
  let N_1 : NK := (f_X2_saveState N B Bs).1
  let M_2 : Nat → BK := (f_X2_saveState N B Bs).2
  let M_3 : BK := (f_X0_dropPledge B i1.toNatClampNeg i2.toNatClampNeg am).2
  ((f_X0_dropPledge B i1.toNatClampNeg i2.toNatClampNeg am).1, N_1, M_3, M_2)

set_option maxHeartbeats 4000000 in
set_option maxRecDepth 100000 in
theorem zk_X2_unpledge (l : Launch) (hfl : l.stackTraces = false) (D : va_G) (cA : Nat → ClassId) (b : Nat → Nat → Nat) (rd : Nat) (x : Nat → Nat) (X : BK) (N : NK) (B : BK) (Bs : Nat → BK) (i1 : Int32) (i2 : Int32) (am : Int32) (hpm : zpm N) (hsv2 : N 0 0 ≤ 6) : vx_Met l yX2_unpledge wsX2_unpledge (zrx 8 132 4 24) (zPx D cA [.ref (x 0), .int i1, .int i2, .int am] (xmW cA x b rd X N ++ (bkW (cA 0) (b 0) B ++ (otW (cA 0) b Bs)))) (zV (zva [(zmem i1, zeO), (zmem i2, zeO), (¬ i1 = i2, zeA), (zrg am 1 9999, zeA)]) (zM D (xmW cA x b rd X N ++ (bkW (cA 0) (b 0) B ++ (otW (cA 0) b Bs))) (xmW cA x b rd X ((f_X2_unpledge N B Bs i1 i2 am).2.1) ++ (bkW (cA 0) (b 0) ((f_X2_unpledge N B Bs i1 i2 am).2.2.1) ++ (otW (cA 0) b ((f_X2_unpledge N B Bs i1 i2 am).2.2.2)))) (some (.int ((f_X2_unpledge N B Bs i1 i2 am).1))))) (zX D (xmW cA x b rd X N ++ (bkW (cA 0) (b 0) B ++ (otW (cA 0) b Bs))) (xmW cA x b rd X N ++ (bkW (cA 0) (b 0) B ++ (otW (cA 0) b Bs))) (zxp [(zmem i1, zeO), (zmem i2, zeO), (¬ i1 = i2, zeA), (zrg am 1 9999, zeA)])) 4 24 (zfr (xmW cA x b rd X N ++ (bkW (cA 0) (b 0) B ++ (otW (cA 0) b Bs)))) := by
  refine vx_ofW (cc := cX2_unpledge) (maxL := 4) (ret := (some .int)) (by decide) rfl ?_
  intro p e s m args below meth c s₁ Bd hml hnt hv
  obtain ⟨rfl, hP, hK, hD0, hO⟩ := hv
  have hx := Bd.exec
  have hb := Bd.bytes
  have hr := Bd.returns
  have hts := atoms_spec (ws := wsX2_unpledge) Bd.pre
  have hown : s.vm.findClass RX2 = some m.cls := findClass_of_methodNamed Bd.named
  have hlocks := Bd.notSynchronized
  have hD := z_Dfr hD0
  have hS : va_S (zfr (xmW cA x b rd X N ++ (bkW (cA 0) (b 0) B ++ (otW (cA 0) b Bs)))) s.heap s.heap [] := va_S.rf
  have hi0 : ∀ w ∈ wsX00, w ∈ wsX2_unpledge := fun w h => List.mem_cons_of_mem _ (List.mem_append_left _ (List.mem_append_left _ (List.mem_append_right _ h)))
  have hi2 : ∀ w ∈ wsX20, w ∈ wsX2_unpledge := fun w h => List.mem_cons_of_mem _ (List.mem_append_left _ (List.mem_append_left _ (List.mem_append_left _ (List.mem_append_right _ h))))
  have hl := lv_entry ([.ref (x 0), .int i1, .int i2, .int am]) (n := 4) (Nat.le_of_ble_eq_true rfl)
  rw [lg_entry_eq]
  generalize (lg_sl ([.ref (x 0), .int i1, .int i2, .int am]) ++ List.replicate (4 - (lg_sl ([.ref (x 0), .int i1, .int i2, .int am])).length) Slot.unset).toArray = ls at hl ⊢
  have hl : lv_has ls 4 [(0, .ref (x 0)), (1, .int i1), (2, .int i2), (3, .int am)] := hl
  refine lv_iload_n hx hb dX2_unpledge_0 rfl (lv_at hl 1 rfl) ?_
  refine lv_iload_n hx hb dX2_unpledge_1 rfl (lv_at hl 2 rfl) ?_
  refine zx_chk (w := xmW cA x b rd X N ++ (bkW (cA 0) (b 0) B ++ (otW (cA 0) b Bs))) (vx_runS (As := [.int i1, .int i2]) (rest := []) ⟨hx, hb, hml, hown, hts⟩ (zk_X2_checkPair l hfl D cA i1 i2) (va_cwS 2 hts gX2_unpledge_X2_checkPair rfl rfl rfl zy_X2_checkPair.2 ⟨Nat.le_of_ble_eq_true rfl, Nat.le_of_ble_eq_true rfl⟩) (zx_preS (A := zfr (xmW cA x b rd X N ++ (bkW (cA 0) (b 0) B ++ (otW (cA 0) b Bs)))) hK z_P0 (z_D0 (A := fun _ => True)) hO hS (fun q h => (zfr_0 q h).elim)) rfl rfl hl.1 rfl (lv_room (Nat.le_of_ble_eq_true rfl)) dX2_unpledge_2 ⟨Nat.le_of_ble_eq_true rfl, Nat.le_of_ble_eq_true rfl⟩) rfl hnt hlocks hP (fun E h9 => zxp_mid (pre := []) (vc := [(zmem i1, zeO), (zmem i2, zeO), (¬ i1 = i2, zeA)]) (suf := [(zrg am 1 9999, zeA)]) trivial h9) (Nat.le_of_ble_eq_true rfl) (Nat.le_of_ble_eq_true rfl) (fun hv_2 => ?_)
  obtain ⟨m1, hm1, rfl⟩ : ∃ q9 : Nat, q9 < 6 ∧ i1 = nI q9 := hv_2.1
  have hcl_m1 : (nI m1).toNatClampNeg = m1 := nI_clamp (by omega)
  obtain ⟨m2, hm2, rfl⟩ : ∃ q9 : Nat, q9 < 6 ∧ i2 = nI q9 := hv_2.2.1
  have hcl_m2 : (nI m2).toNatClampNeg = m2 := nI_clamp (by omega)
  refine lv_iload_n hx hb dX2_unpledge_5 rfl (lv_at hl 3 rfl) ?_
  refine zx_chk (w := xmW cA x b rd X N ++ (bkW (cA 0) (b 0) B ++ (otW (cA 0) b Bs))) (vx_runS (As := [.int am]) (rest := []) ⟨hx, hb, hml, hown, hts⟩ (zk_X2_checkAmount l hfl D cA am) (va_cwS 1 hts gX2_unpledge_X2_checkAmount rfl rfl rfl zy_X2_checkAmount.2 ⟨Nat.le_of_ble_eq_true rfl, Nat.le_of_ble_eq_true rfl⟩) (zx_preS (A := zfr (xmW cA x b rd X N ++ (bkW (cA 0) (b 0) B ++ (otW (cA 0) b Bs)))) hK z_P0 (z_D0 (A := fun _ => True)) hO hS (fun q h => (zfr_0 q h).elim)) rfl rfl hl.1 rfl (lv_room (Nat.le_of_ble_eq_true rfl)) dX2_unpledge_6 ⟨Nat.le_of_ble_eq_true rfl, Nat.le_of_ble_eq_true rfl⟩) rfl hnt hlocks hP (fun E h9 => zxp_mid (pre := [(zmem (nI m1), zeO), (zmem (nI m2), zeO), (¬ (nI m1) = (nI m2), zeA)]) (vc := [(zrg am 1 9999, zeA)]) (suf := []) ⟨hv_2.1, hv_2.2.1, hv_2.2.2.1, trivial⟩ h9) (Nat.le_of_ble_eq_true rfl) (Nat.le_of_ble_eq_true rfl) (fun hv_6 => ?_)
  refine lv_aload_n hx hb dX2_unpledge_9 rfl (lv_at hl 0 rfl) ?_
  refine z_M (X := ([] : va_W)) (Z := ([] : va_W)) (va_runV (As := []) (rest := []) ⟨hx, hb, hml, hown, hts⟩ (zc_X2_saveState l D cA b rd x X N B Bs (by first | assumption | omega) (by first | assumption | omega)) (cwV 0 hts gX2_unpledge_X2_saveState rfl rfl rfl zy_X2_saveState ⟨Nat.le_of_ble_eq_true rfl, Nat.le_of_ble_eq_true rfl⟩) (z_preV (ci := 2) hK hP hD rfl rfl) rfl rfl hl.1 rfl (lv_room (Nat.le_of_ble_eq_true rfl)) dX2_unpledge_10 ⟨Nat.le_of_ble_eq_true rfl, Nat.le_of_ble_eq_true rfl⟩) hP hD hS (z_adr2 xmW_adr (z_adr2 bkW_adr otW_adr)) rfl (fun H locs hP9 hD9 hS9 => ?_)
  replace hP : va_P D vwCl (xmW cA x b rd X ((f_X2_saveState N B Bs).1) ++ (bkW (cA 0) (b 0) B ++ (otW (cA 0) b ((f_X2_saveState N B Bs).2)))) H := hP9
  replace hD : va_D _ (xmW cA x b rd X ((f_X2_saveState N B Bs).1) ++ (bkW (cA 0) (b 0) B ++ (otW (cA 0) b ((f_X2_saveState N B Bs).2)))) := hD9
  replace hS := hS9
  clear hP9 hD9 hS9
  obtain ⟨N_1, eN_1⟩ : ∃ z9 : NK, z9 = (f_X2_saveState N B Bs).1 := ⟨_, rfl⟩
  rw [← eN_1] at hP hD
  obtain ⟨M_2, eM_2⟩ : ∃ z9 : Nat → BK, z9 = (f_X2_saveState N B Bs).2 := ⟨_, rfl⟩
  rw [← eM_2] at hP hD
  refine lv_aload_n hx hb dX2_unpledge_13 rfl (lv_at hl 0 rfl) ?_
  refine va_get (D := D) (ci := 2) (v := .ref (b 0 0)) (C := RX2) (T := TX2) (N := 9) hx hb hts hi2 hown hK hP 0 rfl rfl 0 (by decide) (hts (.fieldLink RX2 10 "PledgedLoans" "books" "LPledgedLoans$Books;") (List.mem_of_getElem? (i := 1) rfl)) (fun _ h9 => h9) rfl dX2_unpledge_14 ?_
  refine lv_iload_n hx hb dX2_unpledge_17 rfl (lv_at hl 1 rfl) ?_
  refine lv_iload_n hx hb dX2_unpledge_18 rfl (lv_at hl 2 rfl) ?_
  refine lv_iload_n hx hb dX2_unpledge_19 rfl (lv_at hl 3 rfl) ?_
  refine z_M (X := xmW cA x b rd X N_1) (Z := otW (cA 0) b M_2) (va_runV (As := [.int (nI m1), .int (nI m2), .int am]) (rest := []) ⟨hx, hb, hml, hown, hts⟩ (zc_X0_dropPledge l D cA (b 0) B m1 m2 am (by omega) (by omega)) (cwV 3 hts gX2_unpledge_X0_dropPledge rfl rfl rfl zy_X0_dropPledge ⟨Nat.le_of_ble_eq_true rfl, Nat.le_of_ble_eq_true rfl⟩) (z_preV (ci := 0) hK (hP.sub (ws' := bkW (cA 0) (b 0) B) [6, 7, 8, 9, 10, 11, 12, 13, 14] rfl) (hD.sub (ws' := bkW (cA 0) (b 0) B) [6, 7, 8, 9, 10, 11, 12, 13, 14] (by decide) rfl) rfl rfl) rfl rfl hl.1 rfl (lv_room (Nat.le_of_ble_eq_true rfl)) dX2_unpledge_20 ⟨Nat.le_of_ble_eq_true rfl, Nat.le_of_ble_eq_true rfl⟩) hP hD hS bkW_adr rfl (fun H locs hP9 hD9 hS9 => ?_)
  replace hP : va_P D vwCl (xmW cA x b rd X N_1 ++ (bkW (cA 0) (b 0) ((f_X0_dropPledge B m1 m2 am).2) ++ (otW (cA 0) b M_2))) H := hP9
  replace hD : va_D _ (xmW cA x b rd X N_1 ++ (bkW (cA 0) (b 0) ((f_X0_dropPledge B m1 m2 am).2) ++ (otW (cA 0) b M_2))) := hD9
  replace hS := hS9
  clear hP9 hD9 hS9
  obtain ⟨M_3, eM_3⟩ : ∃ z9 : BK, z9 = (f_X0_dropPledge B m1 m2 am).2 := ⟨_, rfl⟩
  rw [← eM_3] at hP hD
  refine W.widen (k := 4) (n := 24) (Nat.le_of_ble_eq_true rfl) (Nat.le_of_ble_eq_true rfl) ?_
  refine zx_ret ⟨hv_2.1, hv_2.2.1, hv_2.2.2.1, hv_6.1, trivial⟩ ?_
  exact z_iretM (w1 := xmW cA x b rd X N_1 ++ (bkW (cA 0) (b 0) M_3 ++ (otW (cA 0) b M_2))) hx hb hr hlocks dX2_unpledge_23 hP hS (by subst eM_3 eM_2 eN_1; first | (simp only [f_X2_unpledge, hcl_m1, hcl_m2]; done) | rfl) (by subst eM_3 eM_2 eN_1; first | (simp only [f_X2_unpledge, hcl_m1, hcl_m2]; done) | rfl)

theorem zy_X2_borrow : yX2_borrow.cls = RX2 ∧ yX2_borrow.cls ≠ "java/lang/invoke/MethodHandle" ∧ yX2_borrow.cls ≠ "java/lang/invoke/VarHandle" ∧ (parseMethodDescriptor yX2_borrow.desc).map (fun d => d.parameters.length) = some 3 := by decide +kernel
def f_X2_borrow (N : NK) (B : BK) (Bs : Nat → BK) (i1 : Int32) (am : Int32) (i3 : Int32) : Int32 × NK × BK × (Nat → BK) :=
  let N_1 : NK := (f_X2_saveState N B Bs).1
  let M_2 : Nat → BK := (f_X2_saveState N B Bs).2
  let M_3 : BK := (f_X0_lend B i1.toNatClampNeg am i3).2
  ((f_X0_lend B i1.toNatClampNeg am i3).1, N_1, M_3, M_2)

set_option maxHeartbeats 4000000 in
set_option maxRecDepth 100000 in
theorem zk_X2_borrow (l : Launch) (hfl : l.stackTraces = false) (D : va_G) (cA : Nat → ClassId) (b : Nat → Nat → Nat) (rd : Nat) (x : Nat → Nat) (X : BK) (N : NK) (B : BK) (Bs : Nat → BK) (i1 : Int32) (am : Int32) (i3 : Int32) (hpm : zpm N) (hsv2 : N 0 0 ≤ 6) : vx_Met l yX2_borrow wsX2_borrow (zrx 8 132 3 18) (zPx D cA [.ref (x 0), .int i1, .int am, .int i3] (xmW cA x b rd X N ++ (bkW (cA 0) (b 0) B ++ (otW (cA 0) b Bs)))) (zV (zva [(zmem i1, zeO), (zrg am 1 9999, zeA), (zrg i3 1 52, zeA)]) (zM D (xmW cA x b rd X N ++ (bkW (cA 0) (b 0) B ++ (otW (cA 0) b Bs))) (xmW cA x b rd X ((f_X2_borrow N B Bs i1 am i3).2.1) ++ (bkW (cA 0) (b 0) ((f_X2_borrow N B Bs i1 am i3).2.2.1) ++ (otW (cA 0) b ((f_X2_borrow N B Bs i1 am i3).2.2.2)))) (some (.int ((f_X2_borrow N B Bs i1 am i3).1))))) (zX D (xmW cA x b rd X N ++ (bkW (cA 0) (b 0) B ++ (otW (cA 0) b Bs))) (xmW cA x b rd X N ++ (bkW (cA 0) (b 0) B ++ (otW (cA 0) b Bs))) (zxp [(zmem i1, zeO), (zrg am 1 9999, zeA), (zrg i3 1 52, zeA)])) 3 18 (zfr (xmW cA x b rd X N ++ (bkW (cA 0) (b 0) B ++ (otW (cA 0) b Bs)))) := by
  refine vx_ofW (cc := cX2_borrow) (maxL := 4) (ret := (some .int)) (by decide) rfl ?_
  intro p e s m args below meth c s₁ Bd hml hnt hv
  obtain ⟨rfl, hP, hK, hD0, hO⟩ := hv
  have hx := Bd.exec
  have hb := Bd.bytes
  have hr := Bd.returns
  have hts := atoms_spec (ws := wsX2_borrow) Bd.pre
  have hown : s.vm.findClass RX2 = some m.cls := findClass_of_methodNamed Bd.named
  have hlocks := Bd.notSynchronized
  have hD := z_Dfr hD0
  have hS : va_S (zfr (xmW cA x b rd X N ++ (bkW (cA 0) (b 0) B ++ (otW (cA 0) b Bs)))) s.heap s.heap [] := va_S.rf
  have hi0 : ∀ w ∈ wsX00, w ∈ wsX2_borrow := fun w h => List.mem_cons_of_mem _ (List.mem_append_left _ (List.mem_append_left _ (List.mem_append_right _ h)))
  have hi2 : ∀ w ∈ wsX20, w ∈ wsX2_borrow := fun w h => List.mem_cons_of_mem _ (List.mem_append_left _ (List.mem_append_left _ (List.mem_append_left _ (List.mem_append_right _ h))))
  have hl := lv_entry ([.ref (x 0), .int i1, .int am, .int i3]) (n := 4) (Nat.le_of_ble_eq_true rfl)
  rw [lg_entry_eq]
  generalize (lg_sl ([.ref (x 0), .int i1, .int am, .int i3]) ++ List.replicate (4 - (lg_sl ([.ref (x 0), .int i1, .int am, .int i3])).length) Slot.unset).toArray = ls at hl ⊢
  have hl : lv_has ls 4 [(0, .ref (x 0)), (1, .int i1), (2, .int am), (3, .int i3)] := hl
  refine lv_iload_n hx hb dX2_borrow_0 rfl (lv_at hl 1 rfl) ?_
  refine zx_chk (w := xmW cA x b rd X N ++ (bkW (cA 0) (b 0) B ++ (otW (cA 0) b Bs))) (vx_runS (As := [.int i1]) (rest := []) ⟨hx, hb, hml, hown, hts⟩ (zk_X2_checkMember l hfl D cA i1) (va_cwS 1 hts gX2_borrow_X2_checkMember rfl rfl rfl zy_X2_checkMember.2 ⟨Nat.le_of_ble_eq_true rfl, Nat.le_of_ble_eq_true rfl⟩) (zx_preS (A := zfr (xmW cA x b rd X N ++ (bkW (cA 0) (b 0) B ++ (otW (cA 0) b Bs)))) hK z_P0 (z_D0 (A := fun _ => True)) hO hS (fun q h => (zfr_0 q h).elim)) rfl rfl hl.1 rfl (lv_room (Nat.le_of_ble_eq_true rfl)) dX2_borrow_1 ⟨Nat.le_of_ble_eq_true rfl, Nat.le_of_ble_eq_true rfl⟩) rfl hnt hlocks hP (fun E h9 => zxp_mid (pre := []) (vc := [(zmem i1, zeO)]) (suf := [(zrg am 1 9999, zeA), (zrg i3 1 52, zeA)]) trivial h9) (Nat.le_of_ble_eq_true rfl) (Nat.le_of_ble_eq_true rfl) (fun hv_1 => ?_)
  obtain ⟨m1, hm1, rfl⟩ : ∃ q9 : Nat, q9 < 6 ∧ i1 = nI q9 := hv_1.1
  have hcl_m1 : (nI m1).toNatClampNeg = m1 := nI_clamp (by omega)
  refine lv_iload_n hx hb dX2_borrow_4 rfl (lv_at hl 2 rfl) ?_
  refine zx_chk (w := xmW cA x b rd X N ++ (bkW (cA 0) (b 0) B ++ (otW (cA 0) b Bs))) (vx_runS (As := [.int am]) (rest := []) ⟨hx, hb, hml, hown, hts⟩ (zk_X2_checkAmount l hfl D cA am) (va_cwS 1 hts gX2_borrow_X2_checkAmount rfl rfl rfl zy_X2_checkAmount.2 ⟨Nat.le_of_ble_eq_true rfl, Nat.le_of_ble_eq_true rfl⟩) (zx_preS (A := zfr (xmW cA x b rd X N ++ (bkW (cA 0) (b 0) B ++ (otW (cA 0) b Bs)))) hK z_P0 (z_D0 (A := fun _ => True)) hO hS (fun q h => (zfr_0 q h).elim)) rfl rfl hl.1 rfl (lv_room (Nat.le_of_ble_eq_true rfl)) dX2_borrow_5 ⟨Nat.le_of_ble_eq_true rfl, Nat.le_of_ble_eq_true rfl⟩) rfl hnt hlocks hP (fun E h9 => zxp_mid (pre := [(zmem (nI m1), zeO)]) (vc := [(zrg am 1 9999, zeA)]) (suf := [(zrg i3 1 52, zeA)]) ⟨hv_1.1, trivial⟩ h9) (Nat.le_of_ble_eq_true rfl) (Nat.le_of_ble_eq_true rfl) (fun hv_5 => ?_)
  refine lv_iload_n hx hb dX2_borrow_8 rfl (lv_at hl 3 rfl) ?_
  refine lv_iconst (v := 1) hx hb dX2_borrow_9 (by decide) ?_
  refine lv_bipush (v := 52) hx hb dX2_borrow_10 (by decide) ?_
  refine zx_chk (w := xmW cA x b rd X N ++ (bkW (cA 0) (b 0) B ++ (otW (cA 0) b Bs))) (vx_runS (As := [.int i3, .int 1, .int 52]) (rest := []) ⟨hx, hb, hml, hown, hts⟩ (zk_X2_checkRange l hfl D cA i3 1 52) (va_cwS 3 hts gX2_borrow_X2_checkRange rfl rfl rfl zy_X2_checkRange.2 ⟨Nat.le_of_ble_eq_true rfl, Nat.le_of_ble_eq_true rfl⟩) (zx_preS (A := zfr (xmW cA x b rd X N ++ (bkW (cA 0) (b 0) B ++ (otW (cA 0) b Bs)))) hK z_P0 (z_D0 (A := fun _ => True)) hO hS (fun q h => (zfr_0 q h).elim)) rfl rfl hl.1 rfl (lv_room (Nat.le_of_ble_eq_true rfl)) dX2_borrow_12 ⟨Nat.le_of_ble_eq_true rfl, Nat.le_of_ble_eq_true rfl⟩) rfl hnt hlocks hP (fun E h9 => zxp_mid (pre := [(zmem (nI m1), zeO), (zrg am 1 9999, zeA)]) (vc := [(zrg i3 1 52, zeA)]) (suf := []) ⟨hv_1.1, hv_5.1, trivial⟩ h9) (Nat.le_of_ble_eq_true rfl) (Nat.le_of_ble_eq_true rfl) (fun hv_12 => ?_)
  refine lv_aload_n hx hb dX2_borrow_15 rfl (lv_at hl 0 rfl) ?_
  refine z_M (X := ([] : va_W)) (Z := ([] : va_W)) (va_runV (As := []) (rest := []) ⟨hx, hb, hml, hown, hts⟩ (zc_X2_saveState l D cA b rd x X N B Bs (by first | assumption | omega) (by first | assumption | omega)) (cwV 0 hts gX2_borrow_X2_saveState rfl rfl rfl zy_X2_saveState ⟨Nat.le_of_ble_eq_true rfl, Nat.le_of_ble_eq_true rfl⟩) (z_preV (ci := 2) hK hP hD rfl rfl) rfl rfl hl.1 rfl (lv_room (Nat.le_of_ble_eq_true rfl)) dX2_borrow_16 ⟨Nat.le_of_ble_eq_true rfl, Nat.le_of_ble_eq_true rfl⟩) hP hD hS (z_adr2 xmW_adr (z_adr2 bkW_adr otW_adr)) rfl (fun H locs hP9 hD9 hS9 => ?_)
  replace hP : va_P D vwCl (xmW cA x b rd X ((f_X2_saveState N B Bs).1) ++ (bkW (cA 0) (b 0) B ++ (otW (cA 0) b ((f_X2_saveState N B Bs).2)))) H := hP9
  replace hD : va_D _ (xmW cA x b rd X ((f_X2_saveState N B Bs).1) ++ (bkW (cA 0) (b 0) B ++ (otW (cA 0) b ((f_X2_saveState N B Bs).2)))) := hD9
  replace hS := hS9
  clear hP9 hD9 hS9
  obtain ⟨N_1, eN_1⟩ : ∃ z9 : NK, z9 = (f_X2_saveState N B Bs).1 := ⟨_, rfl⟩
  rw [← eN_1] at hP hD
  obtain ⟨M_2, eM_2⟩ : ∃ z9 : Nat → BK, z9 = (f_X2_saveState N B Bs).2 := ⟨_, rfl⟩
  rw [← eM_2] at hP hD
  refine lv_aload_n hx hb dX2_borrow_19 rfl (lv_at hl 0 rfl) ?_
  refine va_get (D := D) (ci := 2) (v := .ref (b 0 0)) (C := RX2) (T := TX2) (N := 9) hx hb hts hi2 hown hK hP 0 rfl rfl 0 (by decide) (hts (.fieldLink RX2 10 "PledgedLoans" "books" "LPledgedLoans$Books;") (List.mem_of_getElem? (i := 1) rfl)) (fun _ h9 => h9) rfl dX2_borrow_20 ?_
  refine lv_iload_n hx hb dX2_borrow_23 rfl (lv_at hl 1 rfl) ?_
  refine lv_iload_n hx hb dX2_borrow_24 rfl (lv_at hl 2 rfl) ?_
  refine lv_iload_n hx hb dX2_borrow_25 rfl (lv_at hl 3 rfl) ?_
  refine z_M (X := xmW cA x b rd X N_1) (Z := otW (cA 0) b M_2) (va_runV (As := [.int (nI m1), .int am, .int i3]) (rest := []) ⟨hx, hb, hml, hown, hts⟩ (zc_X0_lend l D cA (b 0) B m1 am i3 (by omega) (by exact (fun h => hv_12.1.1 (by rw [h]; decide)))) (cwV 3 hts gX2_borrow_X0_lend rfl rfl rfl zy_X0_lend ⟨Nat.le_of_ble_eq_true rfl, Nat.le_of_ble_eq_true rfl⟩) (z_preV (ci := 0) hK (hP.sub (ws' := bkW (cA 0) (b 0) B) [6, 7, 8, 9, 10, 11, 12, 13, 14] rfl) (hD.sub (ws' := bkW (cA 0) (b 0) B) [6, 7, 8, 9, 10, 11, 12, 13, 14] (by decide) rfl) rfl rfl) rfl rfl hl.1 rfl (lv_room (Nat.le_of_ble_eq_true rfl)) dX2_borrow_26 ⟨Nat.le_of_ble_eq_true rfl, Nat.le_of_ble_eq_true rfl⟩) hP hD hS bkW_adr rfl (fun H locs hP9 hD9 hS9 => ?_)
  replace hP : va_P D vwCl (xmW cA x b rd X N_1 ++ (bkW (cA 0) (b 0) ((f_X0_lend B m1 am i3).2) ++ (otW (cA 0) b M_2))) H := hP9
  replace hD : va_D _ (xmW cA x b rd X N_1 ++ (bkW (cA 0) (b 0) ((f_X0_lend B m1 am i3).2) ++ (otW (cA 0) b M_2))) := hD9
  replace hS := hS9
  clear hP9 hD9 hS9
  obtain ⟨M_3, eM_3⟩ : ∃ z9 : BK, z9 = (f_X0_lend B m1 am i3).2 := ⟨_, rfl⟩
  rw [← eM_3] at hP hD
  refine W.widen (k := 3) (n := 18) (Nat.le_of_ble_eq_true rfl) (Nat.le_of_ble_eq_true rfl) ?_
  refine zx_ret ⟨hv_1.1, hv_5.1, hv_12.1, trivial⟩ ?_
  exact z_iretM (w1 := xmW cA x b rd X N_1 ++ (bkW (cA 0) (b 0) M_3 ++ (otW (cA 0) b M_2))) hx hb hr hlocks dX2_borrow_29 hP hS (by subst eM_3 eM_2 eN_1; first | (simp only [f_X2_borrow, hcl_m1]; done) | rfl) (by subst eM_3 eM_2 eN_1; first | (simp only [f_X2_borrow, hcl_m1]; done) | rfl)

theorem zy_X2_week : yX2_week.cls = RX2 ∧ yX2_week.cls ≠ "java/lang/invoke/MethodHandle" ∧ yX2_week.cls ≠ "java/lang/invoke/VarHandle" ∧ (parseMethodDescriptor yX2_week.desc).map (fun d => d.parameters.length) = some 0 := by decide +kernel
def f_X2_week (N : NK) (B : BK) (Bs : Nat → BK) : Int32 × NK × BK × (Nat → BK) :=
    let N_2 : NK := (f_X2_saveState N B Bs).1
    let M_3 : Nat → BK := (f_X2_saveState N B Bs).2
    let M_4 : BK := (f_X0_endWeek B).2
    ((f_X0_endWeek B).1, N_2, M_4, M_3)

set_option maxHeartbeats 4000000 in
set_option maxRecDepth 100000 in
theorem zk_X2_week (l : Launch) (hfl : l.stackTraces = false) (D : va_G) (cA : Nat → ClassId) (b : Nat → Nat → Nat) (rd : Nat) (x : Nat → Nat) (X : BK) (N : NK) (B : BK) (Bs : Nat → BK) (hpm : zpm N) (hsv2 : N 0 0 ≤ 6) : vx_Met l yX2_week wsX2_week (zrx 6 114 1 6) (zPx D cA [.ref (x 0)] (xmW cA x b rd X N ++ (bkW (cA 0) (b 0) B ++ (otW (cA 0) b Bs)))) (zV (zva [(¬ f_X0_canEndWeek B = 0, zeS)]) (zM D (xmW cA x b rd X N ++ (bkW (cA 0) (b 0) B ++ (otW (cA 0) b Bs))) (xmW cA x b rd X ((f_X2_week N B Bs).2.1) ++ (bkW (cA 0) (b 0) ((f_X2_week N B Bs).2.2.1) ++ (otW (cA 0) b ((f_X2_week N B Bs).2.2.2)))) (some (.int ((f_X2_week N B Bs).1))))) (zX D (xmW cA x b rd X N ++ (bkW (cA 0) (b 0) B ++ (otW (cA 0) b Bs))) (xmW cA x b rd X N ++ (bkW (cA 0) (b 0) B ++ (otW (cA 0) b Bs))) (zxp [(¬ f_X0_canEndWeek B = 0, zeS)])) 1 6 (zfr (xmW cA x b rd X N ++ (bkW (cA 0) (b 0) B ++ (otW (cA 0) b Bs)))) := by
  refine vx_ofW (cc := cX2_week) (maxL := 1) (ret := (some .int)) (by decide) rfl ?_
  intro p e s m args below meth c s₁ Bd hml hnt hv
  obtain ⟨rfl, hP, hK, hD0, hO⟩ := hv
  have hx := Bd.exec
  have hb := Bd.bytes
  have hr := Bd.returns
  have hts := atoms_spec (ws := wsX2_week) Bd.pre
  have hown : s.vm.findClass RX2 = some m.cls := findClass_of_methodNamed Bd.named
  have hlocks := Bd.notSynchronized
  have hD := z_Dfr hD0
  have hS : va_S (zfr (xmW cA x b rd X N ++ (bkW (cA 0) (b 0) B ++ (otW (cA 0) b Bs)))) s.heap s.heap [] := va_S.rf
  have hi0 : ∀ w ∈ wsX00, w ∈ wsX2_week := fun w h => List.mem_cons_of_mem _ (List.mem_append_left _ (List.mem_append_right _ h))
  have hi2 : ∀ w ∈ wsX20, w ∈ wsX2_week := fun w h => List.mem_cons_of_mem _ (List.mem_append_left _ (List.mem_append_left _ (List.mem_append_right _ h)))
  have hl := lv_entry ([.ref (x 0)]) (n := 1) (Nat.le_of_ble_eq_true rfl)
  rw [lg_entry_eq]
  generalize (lg_sl ([.ref (x 0)]) ++ List.replicate (1 - (lg_sl ([.ref (x 0)])).length) Slot.unset).toArray = ls at hl ⊢
  have hl : lv_has ls 1 [(0, .ref (x 0))] := hl
  refine lv_aload_n hx hb dX2_week_0 rfl (lv_at hl 0 rfl) ?_
  refine va_get (D := D) (ci := 2) (v := .ref (b 0 0)) (C := RX2) (T := TX2) (N := 9) hx hb hts hi2 hown hK hP 0 rfl rfl 0 (by decide) (hts (.fieldLink RX2 10 "PledgedLoans" "books" "LPledgedLoans$Books;") (List.mem_of_getElem? (i := 3) rfl)) (fun _ h9 => h9) rfl dX2_week_1 ?_
  refine z_E (va_runV (As := []) (rest := []) ⟨hx, hb, hml, hown, hts⟩ (zc_X0_canEndWeek l D cA (b 0) B) (cwV 0 hts gX2_week_X0_canEndWeek rfl rfl rfl zy_X0_canEndWeek ⟨Nat.le_of_ble_eq_true rfl, Nat.le_of_ble_eq_true rfl⟩) (z_preV (ci := 0) hK (hP.sub (ws' := bkW (cA 0) (b 0) B) [6, 7, 8, 9, 10, 11, 12, 13, 14] rfl) (hD.sub (ws' := bkW (cA 0) (b 0) B) [6, 7, 8, 9, 10, 11, 12, 13, 14] (by decide) rfl) rfl rfl) rfl rfl hl.1 rfl (lv_room (Nat.le_of_ble_eq_true rfl)) dX2_week_4 ⟨Nat.le_of_ble_eq_true rfl, Nat.le_of_ble_eq_true rfl⟩) rfl ?_
  refine lv_if_ne (tgt := 20) hx hb dX2_week_7 (by decide) (fun c_1 => ?_) (fun c_1 => ?_)
  · refine lv_aload_n hx hb dX2_week_20 rfl (lv_at hl 0 rfl) ?_
    refine z_M (X := ([] : va_W)) (Z := ([] : va_W)) (va_runV (As := []) (rest := []) ⟨hx, hb, hml, hown, hts⟩ (zc_X2_saveState l D cA b rd x X N B Bs (by first | assumption | omega) (by first | assumption | omega)) (cwV 0 hts gX2_week_X2_saveState rfl rfl rfl zy_X2_saveState ⟨Nat.le_of_ble_eq_true rfl, Nat.le_of_ble_eq_true rfl⟩) (z_preV (ci := 2) hK hP hD rfl rfl) rfl rfl hl.1 rfl (lv_room (Nat.le_of_ble_eq_true rfl)) dX2_week_21 ⟨Nat.le_of_ble_eq_true rfl, Nat.le_of_ble_eq_true rfl⟩) hP hD hS (z_adr2 xmW_adr (z_adr2 bkW_adr otW_adr)) rfl (fun H locs hP9 hD9 hS9 => ?_)
    replace hP : va_P D vwCl (xmW cA x b rd X ((f_X2_saveState N B Bs).1) ++ (bkW (cA 0) (b 0) B ++ (otW (cA 0) b ((f_X2_saveState N B Bs).2)))) H := hP9
    replace hD : va_D _ (xmW cA x b rd X ((f_X2_saveState N B Bs).1) ++ (bkW (cA 0) (b 0) B ++ (otW (cA 0) b ((f_X2_saveState N B Bs).2)))) := hD9
    replace hS := hS9
    clear hP9 hD9 hS9
    obtain ⟨N_2, eN_2⟩ : ∃ z9 : NK, z9 = (f_X2_saveState N B Bs).1 := ⟨_, rfl⟩
    rw [← eN_2] at hP hD
    obtain ⟨M_3, eM_3⟩ : ∃ z9 : Nat → BK, z9 = (f_X2_saveState N B Bs).2 := ⟨_, rfl⟩
    rw [← eM_3] at hP hD
    refine lv_aload_n hx hb dX2_week_24 rfl (lv_at hl 0 rfl) ?_
    refine va_get (D := D) (ci := 2) (v := .ref (b 0 0)) (C := RX2) (T := TX2) (N := 9) hx hb hts hi2 hown hK hP 0 rfl rfl 0 (by decide) (hts (.fieldLink RX2 10 "PledgedLoans" "books" "LPledgedLoans$Books;") (List.mem_of_getElem? (i := 3) rfl)) (fun _ h9 => h9) rfl dX2_week_25 ?_
    refine z_M (X := xmW cA x b rd X N_2) (Z := otW (cA 0) b M_3) (va_runV (As := []) (rest := []) ⟨hx, hb, hml, hown, hts⟩ (zc_X0_endWeek l D cA (b 0) B) (cwV 0 hts gX2_week_X0_endWeek rfl rfl rfl zy_X0_endWeek ⟨Nat.le_of_ble_eq_true rfl, Nat.le_of_ble_eq_true rfl⟩) (z_preV (ci := 0) hK (hP.sub (ws' := bkW (cA 0) (b 0) B) [6, 7, 8, 9, 10, 11, 12, 13, 14] rfl) (hD.sub (ws' := bkW (cA 0) (b 0) B) [6, 7, 8, 9, 10, 11, 12, 13, 14] (by decide) rfl) rfl rfl) rfl rfl hl.1 rfl (lv_room (Nat.le_of_ble_eq_true rfl)) dX2_week_28 ⟨Nat.le_of_ble_eq_true rfl, Nat.le_of_ble_eq_true rfl⟩) hP hD hS bkW_adr rfl (fun H locs hP9 hD9 hS9 => ?_)
    replace hP : va_P D vwCl (xmW cA x b rd X N_2 ++ (bkW (cA 0) (b 0) ((f_X0_endWeek B).2) ++ (otW (cA 0) b M_3))) H := hP9
    replace hD : va_D _ (xmW cA x b rd X N_2 ++ (bkW (cA 0) (b 0) ((f_X0_endWeek B).2) ++ (otW (cA 0) b M_3))) := hD9
    replace hS := hS9
    clear hP9 hD9 hS9
    obtain ⟨M_4, eM_4⟩ : ∃ z9 : BK, z9 = (f_X0_endWeek B).2 := ⟨_, rfl⟩
    rw [← eM_4] at hP hD
    refine W.widen (k := 1) (n := 6) (Nat.le_of_ble_eq_true rfl) (Nat.le_of_ble_eq_true rfl) ?_
    refine zx_ret ⟨(by exact c_1), trivial⟩ ?_
    exact z_iretM (w1 := xmW cA x b rd X N_2 ++ (bkW (cA 0) (b 0) M_4 ++ (otW (cA 0) b M_3))) hx hb hr hlocks dX2_week_31 hP hS (by subst eM_4 eM_3 eN_2; simp only [f_X2_week, if_neg c_1]) (by subst eM_4 eM_3 eN_2; simp only [f_X2_week, if_neg c_1])
  · exact zx_throw (w := xmW cA x b rd X N ++ (bkW (cA 0) (b 0) B ++ (otW (cA 0) b Bs))) (cls := zeS) (text := "too many weeks ended") (ik := 84) (is := 86) (ic := 88) hx hb hfl hown (by decide +kernel) (hts (.classLink RX2 84 "java/lang/IllegalStateException") (List.mem_of_getElem? (i := 1) rfl)) (hts (.initialized "java/lang/IllegalStateException") (List.mem_of_getElem? (i := 2) rfl)) hO (by decide) (fun x h8 => hts x ((fun w h => List.mem_cons_of_mem _ (List.mem_append_right _ h)) x h8)) zt_ngS hO.2.2.2.2.2.1 zt_otS hS (by rw [hml]; exact hl.1) dX2_week_10 dX2_week_13 dX2_week_14 dX2_week_16 dX2_week_19 hnt (Nat.le_of_ble_eq_true rfl) (Nat.le_of_ble_eq_true rfl) (Nat.le_of_ble_eq_true rfl) (Nat.le_of_ble_eq_true rfl) hlocks hP (zxp_mid (pre := []) (vc := [(¬ f_X0_canEndWeek B = 0, zeS)]) (suf := []) trivial (Or.inl ⟨(by exact (fun h => h c_1)), rfl⟩)) (Nat.le_of_ble_eq_true rfl) (Nat.le_of_ble_eq_true rfl)

theorem zy_X2_pass : yX2_pass.cls = RX2 ∧ yX2_pass.cls ≠ "java/lang/invoke/MethodHandle" ∧ yX2_pass.cls ≠ "java/lang/invoke/VarHandle" ∧ (parseMethodDescriptor yX2_pass.desc).map (fun d => d.parameters.length) = some 1 := by decide +kernel
def f_X2_pass (N : NK) (B : BK) (Bs : Nat → BK) (dd : Int32) : Int32 × NK × BK × (Nat → BK) :=
    let N_2 : NK := (f_X2_saveState N B Bs).1
    let M_3 : Nat → BK := (f_X2_saveState N B Bs).2
    let M_4 : BK := (f_X0_addDays B dd).2
    ((f_X0_addDays B dd).1, N_2, M_4, M_3)

set_option maxHeartbeats 4000000 in
set_option maxRecDepth 100000 in
theorem zk_X2_pass (l : Launch) (hfl : l.stackTraces = false) (D : va_G) (cA : Nat → ClassId) (b : Nat → Nat → Nat) (rd : Nat) (x : Nat → Nat) (X : BK) (N : NK) (B : BK) (Bs : Nat → BK) (dd : Int32) (hpm : zpm N) (hsv2 : N 0 0 ≤ 6) : vx_Met l yX2_pass wsX2_pass (zrx 7 112 2 12) (zPx D cA [.ref (x 0), .int dd] (xmW cA x b rd X N ++ (bkW (cA 0) (b 0) B ++ (otW (cA 0) b Bs)))) (zV (zva [(zrg dd 1 99, zeA), (¬ f_X0_canAddDays B dd = 0, zeS)]) (zM D (xmW cA x b rd X N ++ (bkW (cA 0) (b 0) B ++ (otW (cA 0) b Bs))) (xmW cA x b rd X ((f_X2_pass N B Bs dd).2.1) ++ (bkW (cA 0) (b 0) ((f_X2_pass N B Bs dd).2.2.1) ++ (otW (cA 0) b ((f_X2_pass N B Bs dd).2.2.2)))) (some (.int ((f_X2_pass N B Bs dd).1))))) (zX D (xmW cA x b rd X N ++ (bkW (cA 0) (b 0) B ++ (otW (cA 0) b Bs))) (xmW cA x b rd X N ++ (bkW (cA 0) (b 0) B ++ (otW (cA 0) b Bs))) (zxp [(zrg dd 1 99, zeA), (¬ f_X0_canAddDays B dd = 0, zeS)])) 2 12 (zfr (xmW cA x b rd X N ++ (bkW (cA 0) (b 0) B ++ (otW (cA 0) b Bs)))) := by
  refine vx_ofW (cc := cX2_pass) (maxL := 2) (ret := (some .int)) (by decide) rfl ?_
  intro p e s m args below meth c s₁ Bd hml hnt hv
  obtain ⟨rfl, hP, hK, hD0, hO⟩ := hv
  have hx := Bd.exec
  have hb := Bd.bytes
  have hr := Bd.returns
  have hts := atoms_spec (ws := wsX2_pass) Bd.pre
  have hown : s.vm.findClass RX2 = some m.cls := findClass_of_methodNamed Bd.named
  have hlocks := Bd.notSynchronized
  have hD := z_Dfr hD0
  have hS : va_S (zfr (xmW cA x b rd X N ++ (bkW (cA 0) (b 0) B ++ (otW (cA 0) b Bs)))) s.heap s.heap [] := va_S.rf
  have hi0 : ∀ w ∈ wsX00, w ∈ wsX2_pass := fun w h => List.mem_cons_of_mem _ (List.mem_append_left _ (List.mem_append_left _ (List.mem_append_right _ h)))
  have hi2 : ∀ w ∈ wsX20, w ∈ wsX2_pass := fun w h => List.mem_cons_of_mem _ (List.mem_append_left _ (List.mem_append_left _ (List.mem_append_left _ (List.mem_append_right _ h))))
  have hl := lv_entry ([.ref (x 0), .int dd]) (n := 2) (Nat.le_of_ble_eq_true rfl)
  rw [lg_entry_eq]
  generalize (lg_sl ([.ref (x 0), .int dd]) ++ List.replicate (2 - (lg_sl ([.ref (x 0), .int dd])).length) Slot.unset).toArray = ls at hl ⊢
  have hl : lv_has ls 2 [(0, .ref (x 0)), (1, .int dd)] := hl
  refine lv_iload_n hx hb dX2_pass_0 rfl (lv_at hl 1 rfl) ?_
  refine lv_iconst (v := 1) hx hb dX2_pass_1 (by decide) ?_
  refine lv_bipush (v := 99) hx hb dX2_pass_2 (by decide) ?_
  refine zx_chk (w := xmW cA x b rd X N ++ (bkW (cA 0) (b 0) B ++ (otW (cA 0) b Bs))) (vx_runS (As := [.int dd, .int 1, .int 99]) (rest := []) ⟨hx, hb, hml, hown, hts⟩ (zk_X2_checkRange l hfl D cA dd 1 99) (va_cwS 3 hts gX2_pass_X2_checkRange rfl rfl rfl zy_X2_checkRange.2 ⟨Nat.le_of_ble_eq_true rfl, Nat.le_of_ble_eq_true rfl⟩) (zx_preS (A := zfr (xmW cA x b rd X N ++ (bkW (cA 0) (b 0) B ++ (otW (cA 0) b Bs)))) hK z_P0 (z_D0 (A := fun _ => True)) hO hS (fun q h => (zfr_0 q h).elim)) rfl rfl hl.1 rfl (lv_room (Nat.le_of_ble_eq_true rfl)) dX2_pass_4 ⟨Nat.le_of_ble_eq_true rfl, Nat.le_of_ble_eq_true rfl⟩) rfl hnt hlocks hP (fun E h9 => zxp_mid (pre := []) (vc := [(zrg dd 1 99, zeA)]) (suf := [(¬ f_X0_canAddDays B dd = 0, zeS)]) trivial h9) (Nat.le_of_ble_eq_true rfl) (Nat.le_of_ble_eq_true rfl) (fun hv_4 => ?_)
  refine lv_aload_n hx hb dX2_pass_7 rfl (lv_at hl 0 rfl) ?_
  refine va_get (D := D) (ci := 2) (v := .ref (b 0 0)) (C := RX2) (T := TX2) (N := 9) hx hb hts hi2 hown hK hP 0 rfl rfl 0 (by decide) (hts (.fieldLink RX2 10 "PledgedLoans" "books" "LPledgedLoans$Books;") (List.mem_of_getElem? (i := 3) rfl)) (fun _ h9 => h9) rfl dX2_pass_8 ?_
  refine lv_iload_n hx hb dX2_pass_11 rfl (lv_at hl 1 rfl) ?_
  refine z_E (va_runV (As := [.int dd]) (rest := []) ⟨hx, hb, hml, hown, hts⟩ (zc_X0_canAddDays l D cA (b 0) B dd) (cwV 1 hts gX2_pass_X0_canAddDays rfl rfl rfl zy_X0_canAddDays ⟨Nat.le_of_ble_eq_true rfl, Nat.le_of_ble_eq_true rfl⟩) (z_preV (ci := 0) hK (hP.sub (ws' := bkW (cA 0) (b 0) B) [6, 7, 8, 9, 10, 11, 12, 13, 14] rfl) (hD.sub (ws' := bkW (cA 0) (b 0) B) [6, 7, 8, 9, 10, 11, 12, 13, 14] (by decide) rfl) rfl rfl) rfl rfl hl.1 rfl (lv_room (Nat.le_of_ble_eq_true rfl)) dX2_pass_12 ⟨Nat.le_of_ble_eq_true rfl, Nat.le_of_ble_eq_true rfl⟩) rfl ?_
  refine lv_if_ne (tgt := 28) hx hb dX2_pass_15 (by decide) (fun c_1 => ?_) (fun c_1 => ?_)
  · refine lv_aload_n hx hb dX2_pass_28 rfl (lv_at hl 0 rfl) ?_
    refine z_M (X := ([] : va_W)) (Z := ([] : va_W)) (va_runV (As := []) (rest := []) ⟨hx, hb, hml, hown, hts⟩ (zc_X2_saveState l D cA b rd x X N B Bs (by first | assumption | omega) (by first | assumption | omega)) (cwV 0 hts gX2_pass_X2_saveState rfl rfl rfl zy_X2_saveState ⟨Nat.le_of_ble_eq_true rfl, Nat.le_of_ble_eq_true rfl⟩) (z_preV (ci := 2) hK hP hD rfl rfl) rfl rfl hl.1 rfl (lv_room (Nat.le_of_ble_eq_true rfl)) dX2_pass_29 ⟨Nat.le_of_ble_eq_true rfl, Nat.le_of_ble_eq_true rfl⟩) hP hD hS (z_adr2 xmW_adr (z_adr2 bkW_adr otW_adr)) rfl (fun H locs hP9 hD9 hS9 => ?_)
    replace hP : va_P D vwCl (xmW cA x b rd X ((f_X2_saveState N B Bs).1) ++ (bkW (cA 0) (b 0) B ++ (otW (cA 0) b ((f_X2_saveState N B Bs).2)))) H := hP9
    replace hD : va_D _ (xmW cA x b rd X ((f_X2_saveState N B Bs).1) ++ (bkW (cA 0) (b 0) B ++ (otW (cA 0) b ((f_X2_saveState N B Bs).2)))) := hD9
    replace hS := hS9
    clear hP9 hD9 hS9
    obtain ⟨N_2, eN_2⟩ : ∃ z9 : NK, z9 = (f_X2_saveState N B Bs).1 := ⟨_, rfl⟩
    rw [← eN_2] at hP hD
    obtain ⟨M_3, eM_3⟩ : ∃ z9 : Nat → BK, z9 = (f_X2_saveState N B Bs).2 := ⟨_, rfl⟩
    rw [← eM_3] at hP hD
    refine lv_aload_n hx hb dX2_pass_32 rfl (lv_at hl 0 rfl) ?_
    refine va_get (D := D) (ci := 2) (v := .ref (b 0 0)) (C := RX2) (T := TX2) (N := 9) hx hb hts hi2 hown hK hP 0 rfl rfl 0 (by decide) (hts (.fieldLink RX2 10 "PledgedLoans" "books" "LPledgedLoans$Books;") (List.mem_of_getElem? (i := 3) rfl)) (fun _ h9 => h9) rfl dX2_pass_33 ?_
    refine lv_iload_n hx hb dX2_pass_36 rfl (lv_at hl 1 rfl) ?_
    refine z_M (X := xmW cA x b rd X N_2) (Z := otW (cA 0) b M_3) (va_runV (As := [.int dd]) (rest := []) ⟨hx, hb, hml, hown, hts⟩ (zc_X0_addDays l D cA (b 0) B dd) (cwV 1 hts gX2_pass_X0_addDays rfl rfl rfl zy_X0_addDays ⟨Nat.le_of_ble_eq_true rfl, Nat.le_of_ble_eq_true rfl⟩) (z_preV (ci := 0) hK (hP.sub (ws' := bkW (cA 0) (b 0) B) [6, 7, 8, 9, 10, 11, 12, 13, 14] rfl) (hD.sub (ws' := bkW (cA 0) (b 0) B) [6, 7, 8, 9, 10, 11, 12, 13, 14] (by decide) rfl) rfl rfl) rfl rfl hl.1 rfl (lv_room (Nat.le_of_ble_eq_true rfl)) dX2_pass_37 ⟨Nat.le_of_ble_eq_true rfl, Nat.le_of_ble_eq_true rfl⟩) hP hD hS bkW_adr rfl (fun H locs hP9 hD9 hS9 => ?_)
    replace hP : va_P D vwCl (xmW cA x b rd X N_2 ++ (bkW (cA 0) (b 0) ((f_X0_addDays B dd).2) ++ (otW (cA 0) b M_3))) H := hP9
    replace hD : va_D _ (xmW cA x b rd X N_2 ++ (bkW (cA 0) (b 0) ((f_X0_addDays B dd).2) ++ (otW (cA 0) b M_3))) := hD9
    replace hS := hS9
    clear hP9 hD9 hS9
    obtain ⟨M_4, eM_4⟩ : ∃ z9 : BK, z9 = (f_X0_addDays B dd).2 := ⟨_, rfl⟩
    rw [← eM_4] at hP hD
    refine W.widen (k := 2) (n := 12) (Nat.le_of_ble_eq_true rfl) (Nat.le_of_ble_eq_true rfl) ?_
    refine zx_ret ⟨hv_4.1, (by exact c_1), trivial⟩ ?_
    exact z_iretM (w1 := xmW cA x b rd X N_2 ++ (bkW (cA 0) (b 0) M_4 ++ (otW (cA 0) b M_3))) hx hb hr hlocks dX2_pass_40 hP hS (by subst eM_4 eM_3 eN_2; simp only [f_X2_pass, if_neg c_1]) (by subst eM_4 eM_3 eN_2; simp only [f_X2_pass, if_neg c_1])
  · exact zx_throw (w := xmW cA x b rd X N ++ (bkW (cA 0) (b 0) B ++ (otW (cA 0) b Bs))) (cls := zeS) (text := "too many days or share days") (ik := 84) (is := 99) (ic := 88) hx hb hfl hown (by decide +kernel) (hts (.classLink RX2 84 "java/lang/IllegalStateException") (List.mem_of_getElem? (i := 1) rfl)) (hts (.initialized "java/lang/IllegalStateException") (List.mem_of_getElem? (i := 2) rfl)) hO (by decide) (fun x h8 => hts x ((fun w h => List.mem_cons_of_mem _ (List.mem_append_left _ (List.mem_append_right _ h))) x h8)) zt_ngS hO.2.2.2.2.2.1 zt_otS hS (by rw [hml]; exact hl.1) dX2_pass_18 dX2_pass_21 dX2_pass_22 dX2_pass_24 dX2_pass_27 hnt (Nat.le_of_ble_eq_true rfl) (Nat.le_of_ble_eq_true rfl) (Nat.le_of_ble_eq_true rfl) (Nat.le_of_ble_eq_true rfl) hlocks hP (zxp_mid (pre := [(zrg dd 1 99, zeA)]) (vc := [(¬ f_X0_canAddDays B dd = 0, zeS)]) (suf := []) ⟨hv_4.1, trivial⟩ (Or.inl ⟨(by exact (fun h => h c_1)), rfl⟩)) (Nat.le_of_ble_eq_true rfl) (Nat.le_of_ble_eq_true rfl)

theorem zy_X2_set : yX2_set.cls = RX2 ∧ yX2_set.cls ≠ "java/lang/invoke/MethodHandle" ∧ yX2_set.cls ≠ "java/lang/invoke/VarHandle" ∧ (parseMethodDescriptor yX2_set.desc).map (fun d => d.parameters.length) = some 2 := by decide +kernel
def f_X2_set (N : NK) (B : BK) (Bs : Nat → BK) (i1 : Int32) (i2 : Int32) : Int32 × NK × BK × (Nat → BK) :=
  if i1.toNatClampNeg = 0 then
    let N_4 : NK := (f_X2_saveState N B Bs).1
    let M_5 : Nat → BK := (f_X2_saveState N B Bs).2
    (B 7 i1.toNatClampNeg, N_4, uB B 7 i1.toNatClampNeg i2, M_5)
  else
    let N_2 : NK := (f_X2_saveState N B Bs).1
    let M_3 : Nat → BK := (f_X2_saveState N B Bs).2
    (B 7 i1.toNatClampNeg, N_2, uB B 7 i1.toNatClampNeg i2, M_3)

set_option maxHeartbeats 4000000 in
set_option maxRecDepth 100000 in
theorem zk_X2_set (l : Launch) (hfl : l.stackTraces = false) (D : va_G) (cA : Nat → ClassId) (b : Nat → Nat → Nat) (rd : Nat) (x : Nat → Nat) (X : BK) (N : NK) (B : BK) (Bs : Nat → BK) (i1 : Int32) (i2 : Int32) (hpm : zpm N) (hsv2 : N 0 0 ≤ 6) : vx_Met l yX2_set wsX2_set (zrx 7 112 2 12) (zPx D cA [.ref (x 0), .int i1, .int i2] (xmW cA x b rd X N ++ (bkW (cA 0) (b 0) B ++ (otW (cA 0) b Bs)))) (zV (zva [(zset i1, zeO), (zstv i1 i2, zeA)]) (zM D (xmW cA x b rd X N ++ (bkW (cA 0) (b 0) B ++ (otW (cA 0) b Bs))) (xmW cA x b rd X ((f_X2_set N B Bs i1 i2).2.1) ++ (bkW (cA 0) (b 0) ((f_X2_set N B Bs i1 i2).2.2.1) ++ (otW (cA 0) b ((f_X2_set N B Bs i1 i2).2.2.2)))) (some (.int ((f_X2_set N B Bs i1 i2).1))))) (zX D (xmW cA x b rd X N ++ (bkW (cA 0) (b 0) B ++ (otW (cA 0) b Bs))) (xmW cA x b rd X N ++ (bkW (cA 0) (b 0) B ++ (otW (cA 0) b Bs))) (zxp [(zset i1, zeO), (zstv i1 i2, zeA)])) 2 12 (zfr (xmW cA x b rd X N ++ (bkW (cA 0) (b 0) B ++ (otW (cA 0) b Bs)))) := by
  refine vx_ofW (cc := cX2_set) (maxL := 4) (ret := (some .int)) (by decide) rfl ?_
  intro p e s m args below meth c s₁ Bd hml hnt hv
  obtain ⟨rfl, hP, hK, hD0, hO⟩ := hv
  have hx := Bd.exec
  have hb := Bd.bytes
  have hr := Bd.returns
  have hts := atoms_spec (ws := wsX2_set) Bd.pre
  have hown : s.vm.findClass RX2 = some m.cls := findClass_of_methodNamed Bd.named
  have hlocks := Bd.notSynchronized
  have hD := z_Dfr hD0
  have hS : va_S (zfr (xmW cA x b rd X N ++ (bkW (cA 0) (b 0) B ++ (otW (cA 0) b Bs)))) s.heap s.heap [] := va_S.rf
  have hi0 : ∀ w ∈ wsX00, w ∈ wsX2_set := fun w h => List.mem_cons_of_mem _ (List.mem_append_left _ (List.mem_append_left _ (List.mem_append_right _ h)))
  have hi2 : ∀ w ∈ wsX20, w ∈ wsX2_set := fun w h => List.mem_cons_of_mem _ (List.mem_append_left _ (List.mem_append_left _ (List.mem_append_left _ (List.mem_append_right _ h))))
  have hl := lv_entry ([.ref (x 0), .int i1, .int i2]) (n := 4) (Nat.le_of_ble_eq_true rfl)
  rw [lg_entry_eq]
  generalize (lg_sl ([.ref (x 0), .int i1, .int i2]) ++ List.replicate (4 - (lg_sl ([.ref (x 0), .int i1, .int i2])).length) Slot.unset).toArray = ls at hl ⊢
  have hl : lv_has ls 4 [(0, .ref (x 0)), (1, .int i1), (2, .int i2)] := hl
  refine lv_iload_n hx hb dX2_set_0 rfl (lv_at hl 1 rfl) ?_
  refine zx_chk (w := xmW cA x b rd X N ++ (bkW (cA 0) (b 0) B ++ (otW (cA 0) b Bs))) (vx_runS (As := [.int i1]) (rest := []) ⟨hx, hb, hml, hown, hts⟩ (zk_X2_checkSetting l hfl D cA i1) (va_cwS 1 hts gX2_set_X2_checkSetting rfl rfl rfl zy_X2_checkSetting.2 ⟨Nat.le_of_ble_eq_true rfl, Nat.le_of_ble_eq_true rfl⟩) (zx_preS (A := zfr (xmW cA x b rd X N ++ (bkW (cA 0) (b 0) B ++ (otW (cA 0) b Bs)))) hK z_P0 (z_D0 (A := fun _ => True)) hO hS (fun q h => (zfr_0 q h).elim)) rfl rfl hl.1 rfl (lv_room (Nat.le_of_ble_eq_true rfl)) dX2_set_1 ⟨Nat.le_of_ble_eq_true rfl, Nat.le_of_ble_eq_true rfl⟩) rfl hnt hlocks hP (fun E h9 => zxp_mid (pre := []) (vc := [(zset i1, zeO)]) (suf := [(zstv i1 i2, zeA)]) trivial h9) (Nat.le_of_ble_eq_true rfl) (Nat.le_of_ble_eq_true rfl) (fun hv_1 => ?_)
  obtain ⟨m1, hm1, rfl⟩ : ∃ q9 : Nat, q9 < 2 ∧ i1 = nI q9 := hv_1.1
  have hcl_m1 : (nI m1).toNatClampNeg = m1 := nI_clamp (by omega)
  refine lv_iload_n hx hb dX2_set_4 rfl (lv_at hl 1 rfl) ?_
  refine lv_if_ne (tgt := 18) hx hb dX2_set_5 (by decide) (fun c_1 => ?_) (fun c_1 => ?_)
  · have c_1 : ¬ m1 = 0 := fun h9 => c_1 ((nI_eq (a := m1) (b := 0) (by omega) (by omega)).mpr h9)
    refine lv_iload_n hx hb dX2_set_18 rfl (lv_at hl 2 rfl) ?_
    refine lv_iconst (v := 1) hx hb dX2_set_19 (by decide) ?_
    refine lv_iconst (v := 5) hx hb dX2_set_20 (by decide) ?_
    refine zx_chk (w := xmW cA x b rd X N ++ (bkW (cA 0) (b 0) B ++ (otW (cA 0) b Bs))) (vx_runS (As := [.int i2, .int 1, .int 5]) (rest := []) ⟨hx, hb, hml, hown, hts⟩ (zk_X2_checkRange l hfl D cA i2 1 5) (va_cwS 3 hts gX2_set_X2_checkRange rfl rfl rfl zy_X2_checkRange.2 ⟨Nat.le_of_ble_eq_true rfl, Nat.le_of_ble_eq_true rfl⟩) (zx_preS (A := zfr (xmW cA x b rd X N ++ (bkW (cA 0) (b 0) B ++ (otW (cA 0) b Bs)))) hK z_P0 (z_D0 (A := fun _ => True)) hO hS (fun q h => (zfr_0 q h).elim)) rfl rfl hl.1 rfl (lv_room (Nat.le_of_ble_eq_true rfl)) dX2_set_21 ⟨Nat.le_of_ble_eq_true rfl, Nat.le_of_ble_eq_true rfl⟩) rfl hnt hlocks hP (fun E h9 => zxp_mid (pre := [(zset (nI m1), zeO)]) (vc := [(zstv (nI m1) i2, zeA)]) (suf := []) ⟨hv_1.1, trivial⟩ (zxp_conv (zstv_b (by omega) (by omega)) h9)) (Nat.le_of_ble_eq_true rfl) (Nat.le_of_ble_eq_true rfl) (fun hv_21 => ?_)
    refine lv_aload_n hx hb dX2_set_24 rfl (lv_at hl 0 rfl) ?_
    refine z_M (X := ([] : va_W)) (Z := ([] : va_W)) (va_runV (As := []) (rest := []) ⟨hx, hb, hml, hown, hts⟩ (zc_X2_saveState l D cA b rd x X N B Bs (by first | assumption | omega) (by first | assumption | omega)) (cwV 0 hts gX2_set_X2_saveState rfl rfl rfl zy_X2_saveState ⟨Nat.le_of_ble_eq_true rfl, Nat.le_of_ble_eq_true rfl⟩) (z_preV (ci := 2) hK hP hD rfl rfl) rfl rfl hl.1 rfl (lv_room (Nat.le_of_ble_eq_true rfl)) dX2_set_25 ⟨Nat.le_of_ble_eq_true rfl, Nat.le_of_ble_eq_true rfl⟩) hP hD hS (z_adr2 xmW_adr (z_adr2 bkW_adr otW_adr)) rfl (fun H locs hP9 hD9 hS9 => ?_)
    replace hP : va_P D vwCl (xmW cA x b rd X ((f_X2_saveState N B Bs).1) ++ (bkW (cA 0) (b 0) B ++ (otW (cA 0) b ((f_X2_saveState N B Bs).2)))) H := hP9
    replace hD : va_D _ (xmW cA x b rd X ((f_X2_saveState N B Bs).1) ++ (bkW (cA 0) (b 0) B ++ (otW (cA 0) b ((f_X2_saveState N B Bs).2)))) := hD9
    replace hS := hS9
    clear hP9 hD9 hS9
    obtain ⟨N_2, eN_2⟩ : ∃ z9 : NK, z9 = (f_X2_saveState N B Bs).1 := ⟨_, rfl⟩
    rw [← eN_2] at hP hD
    obtain ⟨M_3, eM_3⟩ : ∃ z9 : Nat → BK, z9 = (f_X2_saveState N B Bs).2 := ⟨_, rfl⟩
    rw [← eM_3] at hP hD
    refine lv_aload_n hx hb dX2_set_28 rfl (lv_at hl 0 rfl) ?_
    refine va_get (D := D) (ci := 2) (v := .ref (b 0 0)) (C := RX2) (T := TX2) (N := 9) hx hb hts hi2 hown hK hP 0 rfl rfl 0 (by decide) (hts (.fieldLink RX2 10 "PledgedLoans" "books" "LPledgedLoans$Books;") (List.mem_of_getElem? (i := 1) rfl)) (fun _ h9 => h9) rfl dX2_set_29 ?_
    refine va_get (D := D) (ci := 0) (v := .ref (b 0 8)) (C := RX0) (T := TX0) (N := 16) hx hb hts hi0 hown hK hP 6 rfl rfl 7 (by decide) (hts (.fieldLink RX2 111 "PledgedLoans$Books" "settings" "[I") (List.mem_of_getElem? (i := 2) rfl)) (fun _ h9 => h9) rfl dX2_set_32 ?_
    refine lv_iload_n hx hb dX2_set_35 rfl (lv_at hl 1 rfl) ?_
    refine z_iald (j := m1) hx hb hK hP 14 0 rfl rfl dX2_set_36 (by omega) (by decide) ?_
    refine lv_istore_n (lv' := [(3, .int (B 7 m1)), (0, .ref (x 0)), (1, .int (nI m1)), (2, .int i2)]) hx hb dX2_set_37 rfl hl (by decide) rfl (fun ls hl => ?_)
    refine lv_aload_n hx hb dX2_set_38 rfl (lv_at hl 1 rfl) ?_
    refine va_get (D := D) (ci := 2) (v := .ref (b 0 0)) (C := RX2) (T := TX2) (N := 9) hx hb hts hi2 hown hK hP 0 rfl rfl 0 (by decide) (hts (.fieldLink RX2 10 "PledgedLoans" "books" "LPledgedLoans$Books;") (List.mem_of_getElem? (i := 1) rfl)) (fun _ h9 => h9) rfl dX2_set_39 ?_
    refine va_get (D := D) (ci := 0) (v := .ref (b 0 8)) (C := RX0) (T := TX0) (N := 16) hx hb hts hi0 hown hK hP 6 rfl rfl 7 (by decide) (hts (.fieldLink RX2 111 "PledgedLoans$Books" "settings" "[I") (List.mem_of_getElem? (i := 2) rfl)) (fun _ h9 => h9) rfl dX2_set_42 ?_
    refine lv_iload_n hx hb dX2_set_45 rfl (lv_at hl 2 rfl) ?_
    refine lv_iload_n hx hb dX2_set_46 rfl (lv_at hl 3 rfl) ?_
    refine z_iast (j := m1) hx hb hK hP hD hS 14 0 rfl rfl dX2_set_47 (by omega) (by decide) (xmW cA x b rd X N_2 ++ (bkW (cA 0) (b 0) (uB B 7 m1 i2) ++ (otW (cA 0) b M_3))) rfl (fun H locs hP9 hD9 hS9 => ?_)
    replace hP : va_P D vwCl (xmW cA x b rd X N_2 ++ (bkW (cA 0) (b 0) (uB B 7 m1 i2) ++ (otW (cA 0) b M_3))) H := hP9
    replace hD : va_D _ (xmW cA x b rd X N_2 ++ (bkW (cA 0) (b 0) (uB B 7 m1 i2) ++ (otW (cA 0) b M_3))) := hD9
    replace hS := hS9
    clear hP9 hD9 hS9
    refine lv_iload_n hx hb dX2_set_48 rfl (lv_at hl 0 rfl) ?_
    refine W.widen (k := 2) (n := 12) (Nat.le_of_ble_eq_true rfl) (Nat.le_of_ble_eq_true rfl) ?_
    refine zx_ret ⟨hv_1.1, ((zstv_b (by omega) (by omega)).mp hv_21.1), trivial⟩ ?_
    exact z_iretM (w1 := xmW cA x b rd X N_2 ++ (bkW (cA 0) (b 0) (uB B 7 m1 i2) ++ (otW (cA 0) b M_3))) hx hb hr hlocks dX2_set_49 hP hS (by subst eM_3 eN_2; simp only [f_X2_set, if_neg c_1, hcl_m1]) (by subst eM_3 eN_2; simp only [f_X2_set, if_neg c_1, hcl_m1])
  · have c_1 : m1 = 0 := (nI_eq (a := m1) (b := 0) (by omega) (by omega)).mp c_1
    refine lv_iload_n hx hb dX2_set_8 rfl (lv_at hl 2 rfl) ?_
    refine lv_iconst (v := 0) hx hb dX2_set_9 (by decide) ?_
    refine lv_bipush (v := 100) hx hb dX2_set_10 (by decide) ?_
    refine zx_chk (w := xmW cA x b rd X N ++ (bkW (cA 0) (b 0) B ++ (otW (cA 0) b Bs))) (vx_runS (As := [.int i2, .int 0, .int 100]) (rest := []) ⟨hx, hb, hml, hown, hts⟩ (zk_X2_checkRange l hfl D cA i2 0 100) (va_cwS 3 hts gX2_set_X2_checkRange rfl rfl rfl zy_X2_checkRange.2 ⟨Nat.le_of_ble_eq_true rfl, Nat.le_of_ble_eq_true rfl⟩) (zx_preS (A := zfr (xmW cA x b rd X N ++ (bkW (cA 0) (b 0) B ++ (otW (cA 0) b Bs)))) hK z_P0 (z_D0 (A := fun _ => True)) hO hS (fun q h => (zfr_0 q h).elim)) rfl rfl hl.1 rfl (lv_room (Nat.le_of_ble_eq_true rfl)) dX2_set_12 ⟨Nat.le_of_ble_eq_true rfl, Nat.le_of_ble_eq_true rfl⟩) rfl hnt hlocks hP (fun E h9 => zxp_mid (pre := [(zset (nI m1), zeO)]) (vc := [(zstv (nI m1) i2, zeA)]) (suf := []) ⟨hv_1.1, trivial⟩ (zxp_conv (zstv_a (by omega)) h9)) (Nat.le_of_ble_eq_true rfl) (Nat.le_of_ble_eq_true rfl) (fun hv_12 => ?_)
    refine lv_goto (tgt := 24) hx hb dX2_set_15 (by decide) ?_
    refine lv_aload_n hx hb dX2_set_24 rfl (lv_at hl 0 rfl) ?_
    refine z_M (X := ([] : va_W)) (Z := ([] : va_W)) (va_runV (As := []) (rest := []) ⟨hx, hb, hml, hown, hts⟩ (zc_X2_saveState l D cA b rd x X N B Bs (by first | assumption | omega) (by first | assumption | omega)) (cwV 0 hts gX2_set_X2_saveState rfl rfl rfl zy_X2_saveState ⟨Nat.le_of_ble_eq_true rfl, Nat.le_of_ble_eq_true rfl⟩) (z_preV (ci := 2) hK hP hD rfl rfl) rfl rfl hl.1 rfl (lv_room (Nat.le_of_ble_eq_true rfl)) dX2_set_25 ⟨Nat.le_of_ble_eq_true rfl, Nat.le_of_ble_eq_true rfl⟩) hP hD hS (z_adr2 xmW_adr (z_adr2 bkW_adr otW_adr)) rfl (fun H locs hP9 hD9 hS9 => ?_)
    replace hP : va_P D vwCl (xmW cA x b rd X ((f_X2_saveState N B Bs).1) ++ (bkW (cA 0) (b 0) B ++ (otW (cA 0) b ((f_X2_saveState N B Bs).2)))) H := hP9
    replace hD : va_D _ (xmW cA x b rd X ((f_X2_saveState N B Bs).1) ++ (bkW (cA 0) (b 0) B ++ (otW (cA 0) b ((f_X2_saveState N B Bs).2)))) := hD9
    replace hS := hS9
    clear hP9 hD9 hS9
    obtain ⟨N_4, eN_4⟩ : ∃ z9 : NK, z9 = (f_X2_saveState N B Bs).1 := ⟨_, rfl⟩
    rw [← eN_4] at hP hD
    obtain ⟨M_5, eM_5⟩ : ∃ z9 : Nat → BK, z9 = (f_X2_saveState N B Bs).2 := ⟨_, rfl⟩
    rw [← eM_5] at hP hD
    refine lv_aload_n hx hb dX2_set_28 rfl (lv_at hl 0 rfl) ?_
    refine va_get (D := D) (ci := 2) (v := .ref (b 0 0)) (C := RX2) (T := TX2) (N := 9) hx hb hts hi2 hown hK hP 0 rfl rfl 0 (by decide) (hts (.fieldLink RX2 10 "PledgedLoans" "books" "LPledgedLoans$Books;") (List.mem_of_getElem? (i := 1) rfl)) (fun _ h9 => h9) rfl dX2_set_29 ?_
    refine va_get (D := D) (ci := 0) (v := .ref (b 0 8)) (C := RX0) (T := TX0) (N := 16) hx hb hts hi0 hown hK hP 6 rfl rfl 7 (by decide) (hts (.fieldLink RX2 111 "PledgedLoans$Books" "settings" "[I") (List.mem_of_getElem? (i := 2) rfl)) (fun _ h9 => h9) rfl dX2_set_32 ?_
    refine lv_iload_n hx hb dX2_set_35 rfl (lv_at hl 1 rfl) ?_
    refine z_iald (j := m1) hx hb hK hP 14 0 rfl rfl dX2_set_36 (by omega) (by decide) ?_
    refine lv_istore_n (lv' := [(3, .int (B 7 m1)), (0, .ref (x 0)), (1, .int (nI m1)), (2, .int i2)]) hx hb dX2_set_37 rfl hl (by decide) rfl (fun ls hl => ?_)
    refine lv_aload_n hx hb dX2_set_38 rfl (lv_at hl 1 rfl) ?_
    refine va_get (D := D) (ci := 2) (v := .ref (b 0 0)) (C := RX2) (T := TX2) (N := 9) hx hb hts hi2 hown hK hP 0 rfl rfl 0 (by decide) (hts (.fieldLink RX2 10 "PledgedLoans" "books" "LPledgedLoans$Books;") (List.mem_of_getElem? (i := 1) rfl)) (fun _ h9 => h9) rfl dX2_set_39 ?_
    refine va_get (D := D) (ci := 0) (v := .ref (b 0 8)) (C := RX0) (T := TX0) (N := 16) hx hb hts hi0 hown hK hP 6 rfl rfl 7 (by decide) (hts (.fieldLink RX2 111 "PledgedLoans$Books" "settings" "[I") (List.mem_of_getElem? (i := 2) rfl)) (fun _ h9 => h9) rfl dX2_set_42 ?_
    refine lv_iload_n hx hb dX2_set_45 rfl (lv_at hl 2 rfl) ?_
    refine lv_iload_n hx hb dX2_set_46 rfl (lv_at hl 3 rfl) ?_
    refine z_iast (j := m1) hx hb hK hP hD hS 14 0 rfl rfl dX2_set_47 (by omega) (by decide) (xmW cA x b rd X N_4 ++ (bkW (cA 0) (b 0) (uB B 7 m1 i2) ++ (otW (cA 0) b M_5))) rfl (fun H locs hP9 hD9 hS9 => ?_)
    replace hP : va_P D vwCl (xmW cA x b rd X N_4 ++ (bkW (cA 0) (b 0) (uB B 7 m1 i2) ++ (otW (cA 0) b M_5))) H := hP9
    replace hD : va_D _ (xmW cA x b rd X N_4 ++ (bkW (cA 0) (b 0) (uB B 7 m1 i2) ++ (otW (cA 0) b M_5))) := hD9
    replace hS := hS9
    clear hP9 hD9 hS9
    refine lv_iload_n hx hb dX2_set_48 rfl (lv_at hl 0 rfl) ?_
    refine W.widen (k := 2) (n := 12) (Nat.le_of_ble_eq_true rfl) (Nat.le_of_ble_eq_true rfl) ?_
    refine zx_ret ⟨hv_1.1, ((zstv_a (by omega)).mp hv_12.1), trivial⟩ ?_
    exact z_iretM (w1 := xmW cA x b rd X N_4 ++ (bkW (cA 0) (b 0) (uB B 7 m1 i2) ++ (otW (cA 0) b M_5))) hx hb hr hlocks dX2_set_49 hP hS (by subst eM_5 eN_4; simp only [f_X2_set, if_pos c_1, hcl_m1]) (by subst eM_5 eN_4; simp only [f_X2_set, if_pos c_1, hcl_m1])

theorem zy_X2_keep : yX2_keep.cls = RX2 ∧ yX2_keep.cls ≠ "java/lang/invoke/MethodHandle" ∧ yX2_keep.cls ≠ "java/lang/invoke/VarHandle" ∧ (parseMethodDescriptor yX2_keep.desc).map (fun d => d.parameters.length) = some 1 := by decide +kernel
def f_X2_keep (X : BK) (B : BK) (Bs : Nat → BK) (i1 : Int32) : Int32 × BK × (Nat → BK) :=
  let M_1 : Nat → BK := (fun j => if j = (7 + i1.toNatClampNeg) then B else Bs j)
  (f_X0_loans B, uB X 0 i1.toNatClampNeg 1, M_1)

set_option maxHeartbeats 4000000 in
set_option maxRecDepth 100000 in
theorem zk_X2_keep (l : Launch) (hfl : l.stackTraces = false) (D : va_G) (cA : Nat → ClassId) (b : Nat → Nat → Nat) (rd : Nat) (x : Nat → Nat) (X : BK) (N : NK) (B : BK) (Bs : Nat → BK) (i1 : Int32)  : vx_Met l yX2_keep wsX2_keep (zrx 7 112 1 6) (zPx D cA [.ref (x 0), .int i1] (xmW cA x b rd X N ++ (bkW (cA 0) (b 0) B ++ (otW (cA 0) b Bs)))) (zV (zva [(zrg i1 0 1, zeA)]) (zM D (xmW cA x b rd X N ++ (bkW (cA 0) (b 0) B ++ (otW (cA 0) b Bs))) (xmW cA x b rd ((f_X2_keep X B Bs i1).2.1) N ++ (bkW (cA 0) (b 0) B ++ (otW (cA 0) b ((f_X2_keep X B Bs i1).2.2)))) (some (.int ((f_X2_keep X B Bs i1).1))))) (zX D (xmW cA x b rd X N ++ (bkW (cA 0) (b 0) B ++ (otW (cA 0) b Bs))) (xmW cA x b rd X N ++ (bkW (cA 0) (b 0) B ++ (otW (cA 0) b Bs))) (zxp [(zrg i1 0 1, zeA)])) 1 6 (zfr (xmW cA x b rd X N ++ (bkW (cA 0) (b 0) B ++ (otW (cA 0) b Bs)))) := by
  refine vx_ofW (cc := cX2_keep) (maxL := 2) (ret := (some .int)) (by decide) rfl ?_
  intro p e s m args below meth c s₁ Bd hml hnt hv
  obtain ⟨rfl, hP, hK, hD0, hO⟩ := hv
  have hx := Bd.exec
  have hb := Bd.bytes
  have hr := Bd.returns
  have hts := atoms_spec (ws := wsX2_keep) Bd.pre
  have hown : s.vm.findClass RX2 = some m.cls := findClass_of_methodNamed Bd.named
  have hlocks := Bd.notSynchronized
  have hD := z_Dfr hD0
  have hS : va_S (zfr (xmW cA x b rd X N ++ (bkW (cA 0) (b 0) B ++ (otW (cA 0) b Bs)))) s.heap s.heap [] := va_S.rf
  have hi0 : ∀ w ∈ wsX00, w ∈ wsX2_keep := fun w h => List.mem_cons_of_mem _ (List.mem_append_left _ (List.mem_append_right _ h))
  have hi2 : ∀ w ∈ wsX20, w ∈ wsX2_keep := fun w h => List.mem_cons_of_mem _ (List.mem_append_left _ (List.mem_append_left _ (List.mem_append_right _ h)))
  have hl := lv_entry ([.ref (x 0), .int i1]) (n := 2) (Nat.le_of_ble_eq_true rfl)
  rw [lg_entry_eq]
  generalize (lg_sl ([.ref (x 0), .int i1]) ++ List.replicate (2 - (lg_sl ([.ref (x 0), .int i1])).length) Slot.unset).toArray = ls at hl ⊢
  have hl : lv_has ls 2 [(0, .ref (x 0)), (1, .int i1)] := hl
  refine lv_iload_n hx hb dX2_keep_0 rfl (lv_at hl 1 rfl) ?_
  refine lv_iconst (v := 0) hx hb dX2_keep_1 (by decide) ?_
  refine lv_iconst (v := 1) hx hb dX2_keep_2 (by decide) ?_
  refine zx_chk (w := xmW cA x b rd X N ++ (bkW (cA 0) (b 0) B ++ (otW (cA 0) b Bs))) (vx_runS (As := [.int i1, .int 0, .int 1]) (rest := []) ⟨hx, hb, hml, hown, hts⟩ (zk_X2_checkRange l hfl D cA i1 0 1) (va_cwS 3 hts gX2_keep_X2_checkRange rfl rfl rfl zy_X2_checkRange.2 ⟨Nat.le_of_ble_eq_true rfl, Nat.le_of_ble_eq_true rfl⟩) (zx_preS (A := zfr (xmW cA x b rd X N ++ (bkW (cA 0) (b 0) B ++ (otW (cA 0) b Bs)))) hK z_P0 (z_D0 (A := fun _ => True)) hO hS (fun q h => (zfr_0 q h).elim)) rfl rfl hl.1 rfl (lv_room (Nat.le_of_ble_eq_true rfl)) dX2_keep_3 ⟨Nat.le_of_ble_eq_true rfl, Nat.le_of_ble_eq_true rfl⟩) rfl hnt hlocks hP (fun E h9 => zxp_mid (pre := []) (vc := [(zrg i1 0 1, zeA)]) (suf := []) trivial h9) (Nat.le_of_ble_eq_true rfl) (Nat.le_of_ble_eq_true rfl) (fun hv_3 => ?_)
  obtain ⟨m1, hm1, rfl⟩ : ∃ q9 : Nat, q9 < 2 ∧ i1 = nI q9 := (zrg_nat (a := 0) (b := 1) rfl rfl (by omega) (by omega) hv_3.1)
  have hcl_m1 : (nI m1).toNatClampNeg = m1 := nI_clamp (by omega)
  refine lv_aload_n hx hb dX2_keep_6 rfl (lv_at hl 0 rfl) ?_
  refine va_get (D := D) (ci := 2) (v := .ref (x 2)) (C := RX2) (T := TX2) (N := 9) hx hb hts hi2 hown hK hP 0 rfl rfl 3 (by decide) (hts (.fieldLink RX2 20 "PledgedLoans" "slots" "[LPledgedLoans$Books;") (List.mem_of_getElem? (i := 1) rfl)) (fun _ h9 => h9) rfl dX2_keep_7 ?_
  refine lv_iload_n hx hb dX2_keep_10 rfl (lv_at hl 1 rfl) ?_
  refine z_aldq (j := m1) (v := b (7 + m1) 0) hx hb hK hP 2 3 rfl rfl dX2_keep_11 (by omega) (by decide) rfl ?_
  refine lv_aload_n hx hb dX2_keep_12 rfl (lv_at hl 0 rfl) ?_
  refine va_get (D := D) (ci := 2) (v := .ref (b 0 0)) (C := RX2) (T := TX2) (N := 9) hx hb hts hi2 hown hK hP 0 rfl rfl 0 (by decide) (hts (.fieldLink RX2 10 "PledgedLoans" "books" "LPledgedLoans$Books;") (List.mem_of_getElem? (i := 2) rfl)) (fun _ h9 => h9) rfl dX2_keep_13 ?_
  obtain ⟨hk1, hk2⟩ : 1 ≤ (7 + m1) ∧ (7 + m1) ≤ 8 := by omega
  obtain ⟨XO, ZO, hO1, hO2⟩ := ot_split (cI := cA 0) (b := b) (Bs := Bs) (7 + m1) hk1 hk2
  refine z_Mp (wc := bkW (cA 0) (b (7 + m1)) (Bs (7 + m1)) ++ bkW (cA 0) (b 0) B) (w1 := bkW (cA 0) (b (7 + m1)) B ++ bkW (cA 0) (b 0) B) (Z := xmW cA x b rd X N ++ (XO ++ ZO)) (va_runV (As := [.ref (b 0 0)]) (rest := []) ⟨hx, hb, hml, hown, hts⟩ (zc_X0_copyFrom l D cA (b (7 + m1)) (Bs (7 + m1)) (b 0) B) (cwV 1 hts gX2_keep_X0_copyFrom rfl rfl rfl zy_X0_copyFrom ⟨Nat.le_of_ble_eq_true rfl, Nat.le_of_ble_eq_true rfl⟩) (z_preV (ci := 0) hK (z_Pl (z_permP (z_perm1 hO1) hP)) (z_Dl (z_permD (z_perm1 hO1) hD)) rfl rfl) rfl rfl hl.1 rfl (lv_room (Nat.le_of_ble_eq_true rfl)) dX2_keep_16 ⟨Nat.le_of_ble_eq_true rfl, Nat.le_of_ble_eq_true rfl⟩) (z_perm1 hO1) ((z_perm1 (hO2 B).symm).symm) hP hD hS (z_adr2 bkW_adr bkW_adr) rfl (fun H locs hP9 hD9 hS9 => ?_)
  replace hP : va_P D vwCl (xmW cA x b rd X N ++ (bkW (cA 0) (b 0) B ++ (otW (cA 0) b (fun j => if j = (7 + m1) then B else Bs j)))) H := hP9
  replace hD : va_D _ (xmW cA x b rd X N ++ (bkW (cA 0) (b 0) B ++ (otW (cA 0) b (fun j => if j = (7 + m1) then B else Bs j)))) := hD9
  replace hS := hS9
  clear hP9 hD9 hS9
  obtain ⟨M_1, eM_1⟩ : ∃ z9 : Nat → BK, z9 = (fun j => if j = (7 + m1) then B else Bs j) := ⟨_, rfl⟩
  rw [← eM_1] at hP hD
  refine lv_aload_n hx hb dX2_keep_19 rfl (lv_at hl 0 rfl) ?_
  refine va_get (D := D) (ci := 2) (v := .ref (x 3)) (C := RX2) (T := TX2) (N := 9) hx hb hts hi2 hown hK hP 0 rfl rfl 4 (by decide) (hts (.fieldLink RX2 23 "PledgedLoans" "slotFilled" "[Z") (List.mem_of_getElem? (i := 3) rfl)) (fun _ h9 => h9) rfl dX2_keep_20 ?_
  refine lv_iload_n hx hb dX2_keep_23 rfl (lv_at hl 1 rfl) ?_
  refine lv_iconst (v := 1) hx hb dX2_keep_24 (by decide) ?_
  refine z_zast (j := m1) hx hb hK hP hD hS 3 1 rfl rfl dX2_keep_25 (by omega) (by decide) (by decide) (xmW cA x b rd (uB X 0 m1 1) N ++ (bkW (cA 0) (b 0) B ++ (otW (cA 0) b M_1))) rfl (fun H locs hP9 hD9 hS9 => ?_)
  replace hP : va_P D vwCl (xmW cA x b rd (uB X 0 m1 1) N ++ (bkW (cA 0) (b 0) B ++ (otW (cA 0) b M_1))) H := hP9
  replace hD : va_D _ (xmW cA x b rd (uB X 0 m1 1) N ++ (bkW (cA 0) (b 0) B ++ (otW (cA 0) b M_1))) := hD9
  replace hS := hS9
  clear hP9 hD9 hS9
  refine lv_aload_n hx hb dX2_keep_26 rfl (lv_at hl 0 rfl) ?_
  refine va_get (D := D) (ci := 2) (v := .ref (b 0 0)) (C := RX2) (T := TX2) (N := 9) hx hb hts hi2 hown hK hP 0 rfl rfl 0 (by decide) (hts (.fieldLink RX2 10 "PledgedLoans" "books" "LPledgedLoans$Books;") (List.mem_of_getElem? (i := 2) rfl)) (fun _ h9 => h9) rfl dX2_keep_27 ?_
  refine z_E (va_runV (As := []) (rest := []) ⟨hx, hb, hml, hown, hts⟩ (zc_X0_loans l D cA (b 0) B) (cwV 0 hts gX2_keep_X0_loans rfl rfl rfl zy_X0_loans ⟨Nat.le_of_ble_eq_true rfl, Nat.le_of_ble_eq_true rfl⟩) (z_preV (ci := 0) hK (hP.sub (ws' := bkW (cA 0) (b 0) B) [6, 7, 8, 9, 10, 11, 12, 13, 14] rfl) (hD.sub (ws' := bkW (cA 0) (b 0) B) [6, 7, 8, 9, 10, 11, 12, 13, 14] (by decide) rfl) rfl rfl) rfl rfl hl.1 rfl (lv_room (Nat.le_of_ble_eq_true rfl)) dX2_keep_30 ⟨Nat.le_of_ble_eq_true rfl, Nat.le_of_ble_eq_true rfl⟩) rfl ?_
  refine W.widen (k := 1) (n := 6) (Nat.le_of_ble_eq_true rfl) (Nat.le_of_ble_eq_true rfl) ?_
  refine zx_ret ⟨hv_3.1, trivial⟩ ?_
  exact z_iretM (w1 := xmW cA x b rd (uB X 0 m1 1) N ++ (bkW (cA 0) (b 0) B ++ (otW (cA 0) b M_1))) hx hb hr hlocks dX2_keep_33 hP hS (by subst eM_1; first | (simp only [f_X2_keep, hcl_m1]; done) | rfl) (by subst eM_1; first | (simp only [f_X2_keep, hcl_m1]; done) | rfl)

theorem zy_X2_goBack : yX2_goBack.cls = RX2 ∧ yX2_goBack.cls ≠ "java/lang/invoke/MethodHandle" ∧ yX2_goBack.cls ≠ "java/lang/invoke/VarHandle" ∧ (parseMethodDescriptor yX2_goBack.desc).map (fun d => d.parameters.length) = some 1 := by decide +kernel
def f_X2_goBack (N : NK) (B : BK) (Bs : Nat → BK) (i1 : Int32) : Int32 × NK × BK × (Nat → BK) :=
    let N_2 : NK := (f_X2_saveState N B Bs).1
    let M_3 : Nat → BK := (f_X2_saveState N B Bs).2
    let M_4 : BK := M_3 (7 + i1.toNatClampNeg)
    (f_X0_loans M_4, N_2, M_4, M_3)

set_option maxHeartbeats 4000000 in
set_option maxRecDepth 100000 in
theorem zk_X2_goBack (l : Launch) (hfl : l.stackTraces = false) (D : va_G) (cA : Nat → ClassId) (b : Nat → Nat → Nat) (rd : Nat) (x : Nat → Nat) (X : BK) (N : NK) (B : BK) (Bs : Nat → BK) (i1 : Int32) (hpm : zpm N) (hsv2 : N 0 0 ≤ 6) : vx_Met l yX2_goBack wsX2_goBack (zrx 7 112 2 12) (zPx D cA [.ref (x 0), .int i1] (xmW cA x b rd X N ++ (bkW (cA 0) (b 0) B ++ (otW (cA 0) b Bs)))) (zV (zva [(zrg i1 0 1, zeA), (¬ X 0 i1.toNatClampNeg = 0, zeS)]) (zM D (xmW cA x b rd X N ++ (bkW (cA 0) (b 0) B ++ (otW (cA 0) b Bs))) (xmW cA x b rd X ((f_X2_goBack N B Bs i1).2.1) ++ (bkW (cA 0) (b 0) ((f_X2_goBack N B Bs i1).2.2.1) ++ (otW (cA 0) b ((f_X2_goBack N B Bs i1).2.2.2)))) (some (.int ((f_X2_goBack N B Bs i1).1))))) (zX D (xmW cA x b rd X N ++ (bkW (cA 0) (b 0) B ++ (otW (cA 0) b Bs))) (xmW cA x b rd X N ++ (bkW (cA 0) (b 0) B ++ (otW (cA 0) b Bs))) (zxp [(zrg i1 0 1, zeA), (¬ X 0 i1.toNatClampNeg = 0, zeS)])) 2 12 (zfr (xmW cA x b rd X N ++ (bkW (cA 0) (b 0) B ++ (otW (cA 0) b Bs)))) := by
  refine vx_ofW (cc := cX2_goBack) (maxL := 2) (ret := (some .int)) (by decide) rfl ?_
  intro p e s m args below meth c s₁ Bd hml hnt hv
  obtain ⟨rfl, hP, hK, hD0, hO⟩ := hv
  have hx := Bd.exec
  have hb := Bd.bytes
  have hr := Bd.returns
  have hts := atoms_spec (ws := wsX2_goBack) Bd.pre
  have hown : s.vm.findClass RX2 = some m.cls := findClass_of_methodNamed Bd.named
  have hlocks := Bd.notSynchronized
  have hD := z_Dfr hD0
  have hS : va_S (zfr (xmW cA x b rd X N ++ (bkW (cA 0) (b 0) B ++ (otW (cA 0) b Bs)))) s.heap s.heap [] := va_S.rf
  have hi0 : ∀ w ∈ wsX00, w ∈ wsX2_goBack := fun w h => List.mem_cons_of_mem _ (List.mem_append_left _ (List.mem_append_left _ (List.mem_append_right _ h)))
  have hi2 : ∀ w ∈ wsX20, w ∈ wsX2_goBack := fun w h => List.mem_cons_of_mem _ (List.mem_append_left _ (List.mem_append_left _ (List.mem_append_left _ (List.mem_append_right _ h))))
  have hl := lv_entry ([.ref (x 0), .int i1]) (n := 2) (Nat.le_of_ble_eq_true rfl)
  rw [lg_entry_eq]
  generalize (lg_sl ([.ref (x 0), .int i1]) ++ List.replicate (2 - (lg_sl ([.ref (x 0), .int i1])).length) Slot.unset).toArray = ls at hl ⊢
  have hl : lv_has ls 2 [(0, .ref (x 0)), (1, .int i1)] := hl
  refine lv_iload_n hx hb dX2_goBack_0 rfl (lv_at hl 1 rfl) ?_
  refine lv_iconst (v := 0) hx hb dX2_goBack_1 (by decide) ?_
  refine lv_iconst (v := 1) hx hb dX2_goBack_2 (by decide) ?_
  refine zx_chk (w := xmW cA x b rd X N ++ (bkW (cA 0) (b 0) B ++ (otW (cA 0) b Bs))) (vx_runS (As := [.int i1, .int 0, .int 1]) (rest := []) ⟨hx, hb, hml, hown, hts⟩ (zk_X2_checkRange l hfl D cA i1 0 1) (va_cwS 3 hts gX2_goBack_X2_checkRange rfl rfl rfl zy_X2_checkRange.2 ⟨Nat.le_of_ble_eq_true rfl, Nat.le_of_ble_eq_true rfl⟩) (zx_preS (A := zfr (xmW cA x b rd X N ++ (bkW (cA 0) (b 0) B ++ (otW (cA 0) b Bs)))) hK z_P0 (z_D0 (A := fun _ => True)) hO hS (fun q h => (zfr_0 q h).elim)) rfl rfl hl.1 rfl (lv_room (Nat.le_of_ble_eq_true rfl)) dX2_goBack_3 ⟨Nat.le_of_ble_eq_true rfl, Nat.le_of_ble_eq_true rfl⟩) rfl hnt hlocks hP (fun E h9 => zxp_mid (pre := []) (vc := [(zrg i1 0 1, zeA)]) (suf := [(¬ X 0 i1.toNatClampNeg = 0, zeS)]) trivial h9) (Nat.le_of_ble_eq_true rfl) (Nat.le_of_ble_eq_true rfl) (fun hv_3 => ?_)
  obtain ⟨m1, hm1, rfl⟩ : ∃ q9 : Nat, q9 < 2 ∧ i1 = nI q9 := (zrg_nat (a := 0) (b := 1) rfl rfl (by omega) (by omega) hv_3.1)
  have hcl_m1 : (nI m1).toNatClampNeg = m1 := nI_clamp (by omega)
  refine lv_aload_n hx hb dX2_goBack_6 rfl (lv_at hl 0 rfl) ?_
  refine va_get (D := D) (ci := 2) (v := .ref (x 3)) (C := RX2) (T := TX2) (N := 9) hx hb hts hi2 hown hK hP 0 rfl rfl 4 (by decide) (hts (.fieldLink RX2 23 "PledgedLoans" "slotFilled" "[Z") (List.mem_of_getElem? (i := 3) rfl)) (fun _ h9 => h9) rfl dX2_goBack_7 ?_
  refine lv_iload_n hx hb dX2_goBack_10 rfl (lv_at hl 1 rfl) ?_
  refine z_zald (j := m1) hx hb hK hP 3 1 rfl rfl dX2_goBack_11 (by omega) (by decide) ?_
  refine lv_if_ne (tgt := 25) hx hb dX2_goBack_12 (by decide) (fun c_1 => ?_) (fun c_1 => ?_)
  · refine lv_aload_n hx hb dX2_goBack_25 rfl (lv_at hl 0 rfl) ?_
    refine z_M (X := ([] : va_W)) (Z := ([] : va_W)) (va_runV (As := []) (rest := []) ⟨hx, hb, hml, hown, hts⟩ (zc_X2_saveState l D cA b rd x X N B Bs (by first | assumption | omega) (by first | assumption | omega)) (cwV 0 hts gX2_goBack_X2_saveState rfl rfl rfl zy_X2_saveState ⟨Nat.le_of_ble_eq_true rfl, Nat.le_of_ble_eq_true rfl⟩) (z_preV (ci := 2) hK hP hD rfl rfl) rfl rfl hl.1 rfl (lv_room (Nat.le_of_ble_eq_true rfl)) dX2_goBack_26 ⟨Nat.le_of_ble_eq_true rfl, Nat.le_of_ble_eq_true rfl⟩) hP hD hS (z_adr2 xmW_adr (z_adr2 bkW_adr otW_adr)) rfl (fun H locs hP9 hD9 hS9 => ?_)
    replace hP : va_P D vwCl (xmW cA x b rd X ((f_X2_saveState N B Bs).1) ++ (bkW (cA 0) (b 0) B ++ (otW (cA 0) b ((f_X2_saveState N B Bs).2)))) H := hP9
    replace hD : va_D _ (xmW cA x b rd X ((f_X2_saveState N B Bs).1) ++ (bkW (cA 0) (b 0) B ++ (otW (cA 0) b ((f_X2_saveState N B Bs).2)))) := hD9
    replace hS := hS9
    clear hP9 hD9 hS9
    obtain ⟨N_2, eN_2⟩ : ∃ z9 : NK, z9 = (f_X2_saveState N B Bs).1 := ⟨_, rfl⟩
    rw [← eN_2] at hP hD
    obtain ⟨M_3, eM_3⟩ : ∃ z9 : Nat → BK, z9 = (f_X2_saveState N B Bs).2 := ⟨_, rfl⟩
    rw [← eM_3] at hP hD
    refine lv_aload_n hx hb dX2_goBack_29 rfl (lv_at hl 0 rfl) ?_
    refine va_get (D := D) (ci := 2) (v := .ref (b 0 0)) (C := RX2) (T := TX2) (N := 9) hx hb hts hi2 hown hK hP 0 rfl rfl 0 (by decide) (hts (.fieldLink RX2 10 "PledgedLoans" "books" "LPledgedLoans$Books;") (List.mem_of_getElem? (i := 4) rfl)) (fun _ h9 => h9) rfl dX2_goBack_30 ?_
    refine lv_aload_n hx hb dX2_goBack_33 rfl (lv_at hl 0 rfl) ?_
    refine va_get (D := D) (ci := 2) (v := .ref (x 2)) (C := RX2) (T := TX2) (N := 9) hx hb hts hi2 hown hK hP 0 rfl rfl 3 (by decide) (hts (.fieldLink RX2 20 "PledgedLoans" "slots" "[LPledgedLoans$Books;") (List.mem_of_getElem? (i := 5) rfl)) (fun _ h9 => h9) rfl dX2_goBack_34 ?_
    refine lv_iload_n hx hb dX2_goBack_37 rfl (lv_at hl 1 rfl) ?_
    refine z_aldq (j := m1) (v := b (7 + m1) 0) hx hb hK hP 2 3 rfl rfl dX2_goBack_38 (by omega) (by decide) rfl ?_
    obtain ⟨hk1, hk2⟩ : 1 ≤ (7 + m1) ∧ (7 + m1) ≤ 8 := by omega
    obtain ⟨XO, ZO, hO1, hO2⟩ := ot_split (cI := cA 0) (b := b) (Bs := M_3) (7 + m1) hk1 hk2
    refine z_Mp (wc := bkW (cA 0) (b 0) B ++ bkW (cA 0) (b (7 + m1)) (M_3 (7 + m1))) (w1 := bkW (cA 0) (b 0) (M_3 (7 + m1)) ++ bkW (cA 0) (b (7 + m1)) (M_3 (7 + m1))) (Z := xmW cA x b rd X N_2 ++ (XO ++ ZO)) (va_runV (As := [.ref (b (7 + m1) 0)]) (rest := []) ⟨hx, hb, hml, hown, hts⟩ (zc_X0_copyFrom l D cA (b 0) B (b (7 + m1)) (M_3 (7 + m1))) (cwV 1 hts gX2_goBack_X0_copyFrom rfl rfl rfl zy_X0_copyFrom ⟨Nat.le_of_ble_eq_true rfl, Nat.le_of_ble_eq_true rfl⟩) (z_preV (ci := 0) hK (z_Pl (z_permP (z_perm2 hO1) hP)) (z_Dl (z_permD (z_perm2 hO1) hD)) rfl rfl) rfl rfl hl.1 rfl (lv_room (Nat.le_of_ble_eq_true rfl)) dX2_goBack_39 ⟨Nat.le_of_ble_eq_true rfl, Nat.le_of_ble_eq_true rfl⟩) (z_perm2 hO1) ((z_perm2 hO1).symm) hP hD hS (z_adr2 bkW_adr bkW_adr) rfl (fun H locs hP9 hD9 hS9 => ?_)
    replace hP : va_P D vwCl (xmW cA x b rd X N_2 ++ (bkW (cA 0) (b 0) (M_3 (7 + m1)) ++ (otW (cA 0) b M_3))) H := hP9
    replace hD : va_D _ (xmW cA x b rd X N_2 ++ (bkW (cA 0) (b 0) (M_3 (7 + m1)) ++ (otW (cA 0) b M_3))) := hD9
    replace hS := hS9
    clear hP9 hD9 hS9
    obtain ⟨M_4, eM_4⟩ : ∃ z9 : BK, z9 = M_3 (7 + m1) := ⟨_, rfl⟩
    rw [← eM_4] at hP hD
    refine lv_aload_n hx hb dX2_goBack_42 rfl (lv_at hl 0 rfl) ?_
    refine va_get (D := D) (ci := 2) (v := .ref (b 0 0)) (C := RX2) (T := TX2) (N := 9) hx hb hts hi2 hown hK hP 0 rfl rfl 0 (by decide) (hts (.fieldLink RX2 10 "PledgedLoans" "books" "LPledgedLoans$Books;") (List.mem_of_getElem? (i := 4) rfl)) (fun _ h9 => h9) rfl dX2_goBack_43 ?_
    refine z_E (va_runV (As := []) (rest := []) ⟨hx, hb, hml, hown, hts⟩ (zc_X0_loans l D cA (b 0) M_4) (cwV 0 hts gX2_goBack_X0_loans rfl rfl rfl zy_X0_loans ⟨Nat.le_of_ble_eq_true rfl, Nat.le_of_ble_eq_true rfl⟩) (z_preV (ci := 0) hK (hP.sub (ws' := bkW (cA 0) (b 0) M_4) [6, 7, 8, 9, 10, 11, 12, 13, 14] rfl) (hD.sub (ws' := bkW (cA 0) (b 0) M_4) [6, 7, 8, 9, 10, 11, 12, 13, 14] (by decide) rfl) rfl rfl) rfl rfl hl.1 rfl (lv_room (Nat.le_of_ble_eq_true rfl)) dX2_goBack_46 ⟨Nat.le_of_ble_eq_true rfl, Nat.le_of_ble_eq_true rfl⟩) rfl ?_
    refine W.widen (k := 2) (n := 12) (Nat.le_of_ble_eq_true rfl) (Nat.le_of_ble_eq_true rfl) ?_
    refine zx_ret ⟨hv_3.1, (by rw [hcl_m1]; exact c_1), trivial⟩ ?_
    exact z_iretM (w1 := xmW cA x b rd X N_2 ++ (bkW (cA 0) (b 0) M_4 ++ (otW (cA 0) b M_3))) hx hb hr hlocks dX2_goBack_49 hP hS (by subst eM_4 eM_3 eN_2; simp only [f_X2_goBack, if_neg c_1, hcl_m1]) (by subst eM_4 eM_3 eN_2; simp only [f_X2_goBack, if_neg c_1, hcl_m1])
  · exact zx_throw (w := xmW cA x b rd X N ++ (bkW (cA 0) (b 0) B ++ (otW (cA 0) b Bs))) (cls := zeS) (text := "no snapshot in the slot") (ik := 84) (is := 141) (ic := 88) hx hb hfl hown (by decide +kernel) (hts (.classLink RX2 84 "java/lang/IllegalStateException") (List.mem_of_getElem? (i := 1) rfl)) (hts (.initialized "java/lang/IllegalStateException") (List.mem_of_getElem? (i := 2) rfl)) hO (by decide) (fun x h8 => hts x ((fun w h => List.mem_cons_of_mem _ (List.mem_append_left _ (List.mem_append_right _ h))) x h8)) zt_ngS hO.2.2.2.2.2.1 zt_otS hS (by rw [hml]; exact hl.1) dX2_goBack_15 dX2_goBack_18 dX2_goBack_19 dX2_goBack_21 dX2_goBack_24 hnt (Nat.le_of_ble_eq_true rfl) (Nat.le_of_ble_eq_true rfl) (Nat.le_of_ble_eq_true rfl) (Nat.le_of_ble_eq_true rfl) hlocks hP (zxp_mid (pre := [(zrg (nI m1) 0 1, zeA)]) (vc := [(¬ X 0 (nI m1).toNatClampNeg = 0, zeS)]) (suf := []) ⟨hv_3.1, trivial⟩ (Or.inl ⟨(by rw [hcl_m1]; exact (fun h => h c_1)), rfl⟩)) (Nat.le_of_ble_eq_true rfl) (Nat.le_of_ble_eq_true rfl)

theorem zy_X2_undo : yX2_undo.cls = RX2 ∧ yX2_undo.cls ≠ "java/lang/invoke/MethodHandle" ∧ yX2_undo.cls ≠ "java/lang/invoke/VarHandle" ∧ (parseMethodDescriptor yX2_undo.desc).map (fun d => d.parameters.length) = some 0 := by decide +kernel
def f_X2_undo (N : NK) (Bs : Nat → BK) : Int32 × NK × BK :=
    let M_3 : BK := Bs (N 1 ((N 0 0) - 1))
    (nI ((N 0 0) - 1), uN N 0 0 ((N 0 0) - 1), M_3)

set_option maxHeartbeats 4000000 in
set_option maxRecDepth 100000 in
theorem zk_X2_undo (l : Launch) (hfl : l.stackTraces = false) (D : va_G) (cA : Nat → ClassId) (b : Nat → Nat → Nat) (rd : Nat) (x : Nat → Nat) (X : BK) (N : NK) (B : BK) (Bs : Nat → BK) (hpm : zpm N) (hsv2 : N 0 0 ≤ 6) : vx_Met l yX2_undo wsX2_undo (zrx 6 90 1 6) (zPx D cA [.ref (x 0)] (xmW cA x b rd X N ++ (bkW (cA 0) (b 0) B ++ (otW (cA 0) b Bs)))) (zV (zva [(¬ N 0 0 < 1, zeS)]) (zM D (xmW cA x b rd X N ++ (bkW (cA 0) (b 0) B ++ (otW (cA 0) b Bs))) (xmW cA x b rd X ((f_X2_undo N Bs).2.1) ++ (bkW (cA 0) (b 0) ((f_X2_undo N Bs).2.2) ++ (otW (cA 0) b Bs))) (some (.int ((f_X2_undo N Bs).1))))) (zX D (xmW cA x b rd X N ++ (bkW (cA 0) (b 0) B ++ (otW (cA 0) b Bs))) (xmW cA x b rd X N ++ (bkW (cA 0) (b 0) B ++ (otW (cA 0) b Bs))) (zxp [(¬ N 0 0 < 1, zeS)])) 1 6 (zfr (xmW cA x b rd X N ++ (bkW (cA 0) (b 0) B ++ (otW (cA 0) b Bs)))) := by
  refine vx_ofW (cc := cX2_undo) (maxL := 1) (ret := (some .int)) (by decide) rfl ?_
  intro p e s m args below meth c s₁ Bd hml hnt hv
  obtain ⟨rfl, hP, hK, hD0, hO⟩ := hv
  have hx := Bd.exec
  have hb := Bd.bytes
  have hr := Bd.returns
  have hts := atoms_spec (ws := wsX2_undo) Bd.pre
  have hown : s.vm.findClass RX2 = some m.cls := findClass_of_methodNamed Bd.named
  have hlocks := Bd.notSynchronized
  have hD := z_Dfr hD0
  have hS : va_S (zfr (xmW cA x b rd X N ++ (bkW (cA 0) (b 0) B ++ (otW (cA 0) b Bs)))) s.heap s.heap [] := va_S.rf
  have hi0 : ∀ w ∈ wsX00, w ∈ wsX2_undo := fun w h => List.mem_cons_of_mem _ (List.mem_append_left _ (List.mem_append_right _ h))
  have hi2 : ∀ w ∈ wsX20, w ∈ wsX2_undo := fun w h => List.mem_cons_of_mem _ (List.mem_append_left _ (List.mem_append_left _ (List.mem_append_right _ h)))
  have hl := lv_entry ([.ref (x 0)]) (n := 1) (Nat.le_of_ble_eq_true rfl)
  rw [lg_entry_eq]
  generalize (lg_sl ([.ref (x 0)]) ++ List.replicate (1 - (lg_sl ([.ref (x 0)])).length) Slot.unset).toArray = ls at hl ⊢
  have hl : lv_has ls 1 [(0, .ref (x 0))] := hl
  refine lv_aload_n hx hb dX2_undo_0 rfl (lv_at hl 0 rfl) ?_
  refine va_get (D := D) (ci := 2) (v := .int (nI (N 0 0))) (C := RX2) (T := TX2) (N := 9) hx hb hts hi2 hown hK hP 0 rfl rfl 2 (by decide) (hts (.fieldLink RX2 143 "PledgedLoans" "savedStates" "I") (List.mem_of_getElem? (i := 3) rfl)) (fun _ h9 => h9) rfl dX2_undo_1 ?_
  refine lv_iconst (v := 1) hx hb dX2_undo_4 (by decide) ?_
  refine lv_icmp_ge (tgt := 18) hx hb dX2_undo_5 (by decide) (fun c_1 => ?_) (fun c_1 => ?_)
  · have c_1 : 1 ≤ (N 0 0) := (nI_leI (a := 1) (b := (N 0 0)) (by omega) (by omega)).mp c_1
    refine lv_aload_n hx hb dX2_undo_18 rfl (lv_at hl 0 rfl) ?_
    refine lv_dup hx hb dX2_undo_19 rfl ?_
    refine va_get (D := D) (ci := 2) (v := .int (nI (N 0 0))) (C := RX2) (T := TX2) (N := 9) hx hb hts hi2 hown hK hP 0 rfl rfl 2 (by decide) (hts (.fieldLink RX2 143 "PledgedLoans" "savedStates" "I") (List.mem_of_getElem? (i := 3) rfl)) (fun _ h9 => h9) rfl dX2_undo_20 ?_
    refine lv_iconst (v := 1) hx hb dX2_undo_23 (by decide) ?_
    refine lv_isub hx hb dX2_undo_24 ?_
    refine z_top (pk_sub (a := (N 0 0)) (b := 1) (by omega)) ?_
    refine va_put (D := D) (ci := 2) (v := .int (nI ((N 0 0) - 1))) (ty := .int) (C := RX2) (T := TX2) (N := 9) hx hb hts hi2 tyX2 tyX2_ok nmX2 hown hK hP hD hS 0 rfl rfl 2 (by decide) (hts (.fieldLink RX2 143 "PledgedLoans" "savedStates" "I") (List.mem_of_getElem? (i := 3) rfl)) (fun _ h9 => h9) rfl (by decide +kernel) rfl rfl (Nat.le_of_ble_eq_true rfl) dX2_undo_25 (fun H locs hP9 hD9 hS9 => ?_)
    replace hP : va_P D vwCl (xmW cA x b rd X (uN N 0 0 ((N 0 0) - 1)) ++ (bkW (cA 0) (b 0) B ++ (otW (cA 0) b Bs))) H := hP9
    replace hD : va_D _ (xmW cA x b rd X (uN N 0 0 ((N 0 0) - 1)) ++ (bkW (cA 0) (b 0) B ++ (otW (cA 0) b Bs))) := hD9
    replace hS := hS9
    clear hP9 hD9 hS9
    refine lv_aload_n hx hb dX2_undo_28 rfl (lv_at hl 0 rfl) ?_
    refine va_get (D := D) (ci := 2) (v := .ref (b 0 0)) (C := RX2) (T := TX2) (N := 9) hx hb hts hi2 hown hK hP 0 rfl rfl 0 (by decide) (hts (.fieldLink RX2 10 "PledgedLoans" "books" "LPledgedLoans$Books;") (List.mem_of_getElem? (i := 4) rfl)) (fun _ h9 => h9) rfl dX2_undo_29 ?_
    refine lv_aload_n hx hb dX2_undo_32 rfl (lv_at hl 0 rfl) ?_
    refine va_get (D := D) (ci := 2) (v := .ref (x 1)) (C := RX2) (T := TX2) (N := 9) hx hb hts hi2 hown hK hP 0 rfl rfl 1 (by decide) (hts (.fieldLink RX2 16 "PledgedLoans" "saved" "[LPledgedLoans$Books;") (List.mem_of_getElem? (i := 5) rfl)) (fun _ h9 => h9) rfl dX2_undo_33 ?_
    refine lv_aload_n hx hb dX2_undo_36 rfl (lv_at hl 0 rfl) ?_
    refine va_get (D := D) (ci := 2) (v := .int (nI ((uN N 0 0 ((N 0 0) - 1)) 0 0))) (C := RX2) (T := TX2) (N := 9) hx hb hts hi2 hown hK hP 0 rfl rfl 2 (by decide) (hts (.fieldLink RX2 143 "PledgedLoans" "savedStates" "I") (List.mem_of_getElem? (i := 3) rfl)) (fun _ h9 => h9) rfl dX2_undo_37 ?_
    refine z_top (y := nI ((N 0 0) - 1)) rfl ?_
    refine z_aldq (j := (N 0 0) - 1) (v := b (N 1 ((N 0 0) - 1)) 0) hx hb hK hP 1 3 rfl rfl dX2_undo_40 (by omega) (by decide) rfl ?_
    obtain ⟨hk1, hk2⟩ : 1 ≤ (N 1 ((N 0 0) - 1)) ∧ (N 1 ((N 0 0) - 1)) ≤ 8 := by have := hpm (N 0 0 - 1) (by omega); omega
    obtain ⟨XO, ZO, hO1, hO2⟩ := ot_split (cI := cA 0) (b := b) (Bs := Bs) (N 1 ((N 0 0) - 1)) hk1 hk2
    refine z_Mp (wc := bkW (cA 0) (b 0) B ++ bkW (cA 0) (b (N 1 ((N 0 0) - 1))) (Bs (N 1 ((N 0 0) - 1)))) (w1 := bkW (cA 0) (b 0) (Bs (N 1 ((N 0 0) - 1))) ++ bkW (cA 0) (b (N 1 ((N 0 0) - 1))) (Bs (N 1 ((N 0 0) - 1)))) (Z := xmW cA x b rd X (uN N 0 0 ((N 0 0) - 1)) ++ (XO ++ ZO)) (va_runV (As := [.ref (b (N 1 ((N 0 0) - 1)) 0)]) (rest := []) ⟨hx, hb, hml, hown, hts⟩ (zc_X0_copyFrom l D cA (b 0) B (b (N 1 ((N 0 0) - 1))) (Bs (N 1 ((N 0 0) - 1)))) (cwV 1 hts gX2_undo_X0_copyFrom rfl rfl rfl zy_X0_copyFrom ⟨Nat.le_of_ble_eq_true rfl, Nat.le_of_ble_eq_true rfl⟩) (z_preV (ci := 0) hK (z_Pl (z_permP (z_perm2 hO1) hP)) (z_Dl (z_permD (z_perm2 hO1) hD)) rfl rfl) rfl rfl hl.1 rfl (lv_room (Nat.le_of_ble_eq_true rfl)) dX2_undo_41 ⟨Nat.le_of_ble_eq_true rfl, Nat.le_of_ble_eq_true rfl⟩) (z_perm2 hO1) ((z_perm2 hO1).symm) hP hD hS (z_adr2 bkW_adr bkW_adr) rfl (fun H locs hP9 hD9 hS9 => ?_)
    replace hP : va_P D vwCl (xmW cA x b rd X (uN N 0 0 ((N 0 0) - 1)) ++ (bkW (cA 0) (b 0) (Bs (N 1 ((N 0 0) - 1))) ++ (otW (cA 0) b Bs))) H := hP9
    replace hD : va_D _ (xmW cA x b rd X (uN N 0 0 ((N 0 0) - 1)) ++ (bkW (cA 0) (b 0) (Bs (N 1 ((N 0 0) - 1))) ++ (otW (cA 0) b Bs))) := hD9
    replace hS := hS9
    clear hP9 hD9 hS9
    obtain ⟨M_3, eM_3⟩ : ∃ z9 : BK, z9 = Bs (N 1 ((N 0 0) - 1)) := ⟨_, rfl⟩
    rw [← eM_3] at hP hD
    refine lv_aload_n hx hb dX2_undo_44 rfl (lv_at hl 0 rfl) ?_
    refine va_get (D := D) (ci := 2) (v := .int (nI ((uN N 0 0 ((N 0 0) - 1)) 0 0))) (C := RX2) (T := TX2) (N := 9) hx hb hts hi2 hown hK hP 0 rfl rfl 2 (by decide) (hts (.fieldLink RX2 143 "PledgedLoans" "savedStates" "I") (List.mem_of_getElem? (i := 3) rfl)) (fun _ h9 => h9) rfl dX2_undo_45 ?_
    refine z_top (y := nI ((N 0 0) - 1)) rfl ?_
    refine W.widen (k := 1) (n := 6) (Nat.le_of_ble_eq_true rfl) (Nat.le_of_ble_eq_true rfl) ?_
    refine zx_ret ⟨(by omega), trivial⟩ ?_
    exact z_iretM (w1 := xmW cA x b rd X (uN N 0 0 ((N 0 0) - 1)) ++ (bkW (cA 0) (b 0) M_3 ++ (otW (cA 0) b Bs))) hx hb hr hlocks dX2_undo_48 hP hS (by subst eM_3; simp only [f_X2_undo, if_pos c_1]) (by subst eM_3; simp only [f_X2_undo, if_pos c_1])
  · have c_1 : ¬ 1 ≤ (N 0 0) := fun h9 => c_1 ((nI_leI (a := 1) (b := (N 0 0)) (by omega) (by omega)).mpr h9)
    exact zx_throw (w := xmW cA x b rd X N ++ (bkW (cA 0) (b 0) B ++ (otW (cA 0) b Bs))) (cls := zeS) (text := "no saved state") (ik := 84) (is := 146) (ic := 88) hx hb hfl hown (by decide +kernel) (hts (.classLink RX2 84 "java/lang/IllegalStateException") (List.mem_of_getElem? (i := 1) rfl)) (hts (.initialized "java/lang/IllegalStateException") (List.mem_of_getElem? (i := 2) rfl)) hO (by decide) (fun x h8 => hts x ((fun w h => List.mem_cons_of_mem _ (List.mem_append_right _ h)) x h8)) zt_ngS hO.2.2.2.2.2.1 zt_otS hS (by rw [hml]; exact hl.1) dX2_undo_8 dX2_undo_11 dX2_undo_12 dX2_undo_14 dX2_undo_17 hnt (Nat.le_of_ble_eq_true rfl) (Nat.le_of_ble_eq_true rfl) (Nat.le_of_ble_eq_true rfl) (Nat.le_of_ble_eq_true rfl) hlocks hP (zxp_mid (pre := []) (vc := [(¬ N 0 0 < 1, zeS)]) (suf := []) trivial (Or.inl ⟨(by omega), rfl⟩)) (Nat.le_of_ble_eq_true rfl) (Nat.le_of_ble_eq_true rfl)

theorem zy_X2_memberOf : yX2_memberOf.cls = RX2 ∧ yX2_memberOf.cls ≠ "java/lang/invoke/MethodHandle" ∧ yX2_memberOf.cls ≠ "java/lang/invoke/VarHandle" ∧ (parseMethodDescriptor yX2_memberOf.desc).map (fun d => d.parameters.length) = some 2 := by decide +kernel
def f_X2_memberOf (B : BK) (i1 : Int32) (i2 : Int32) : Int32 :=
  f_X0_property B i1.toNatClampNeg i2

set_option maxHeartbeats 4000000 in
set_option maxRecDepth 100000 in
theorem zk_X2_memberOf (l : Launch) (hfl : l.stackTraces = false) (D : va_G) (cA : Nat → ClassId) (b : Nat → Nat → Nat) (rd : Nat) (x : Nat → Nat) (X : BK) (N : NK) (B : BK) (i1 : Int32) (i2 : Int32)  : vx_Met l yX2_memberOf wsX2_memberOf (zrx 7 112 2 12) (zPx D cA [.ref (x 0), .int i1, .int i2] (xmW cA x b rd X N ++ (bkW (cA 0) (b 0) B))) (zV (zva [(zmem i1, zeO), (zrg i2 0 9, zeA)]) (zE (some (.int (f_X2_memberOf B i1 i2))))) (zX D (xmW cA x b rd X N ++ (bkW (cA 0) (b 0) B)) (xmW cA x b rd X N ++ (bkW (cA 0) (b 0) B)) (zxp [(zmem i1, zeO), (zrg i2 0 9, zeA)])) 2 12 (zfr (xmW cA x b rd X N ++ (bkW (cA 0) (b 0) B))) := by
  refine vx_ofW (cc := cX2_memberOf) (maxL := 3) (ret := (some .int)) (by decide) rfl ?_
  intro p e s m args below meth c s₁ Bd hml hnt hv
  obtain ⟨rfl, hP, hK, hD0, hO⟩ := hv
  have hx := Bd.exec
  have hb := Bd.bytes
  have hr := Bd.returns
  have hts := atoms_spec (ws := wsX2_memberOf) Bd.pre
  have hown : s.vm.findClass RX2 = some m.cls := findClass_of_methodNamed Bd.named
  have hlocks := Bd.notSynchronized
  have hD := z_Dfr hD0
  have hS : va_S (zfr (xmW cA x b rd X N ++ (bkW (cA 0) (b 0) B))) s.heap s.heap [] := va_S.rf
  have hi0 : ∀ w ∈ wsX00, w ∈ wsX2_memberOf := fun w h => List.mem_cons_of_mem _ (List.mem_append_left _ (List.mem_append_left _ (List.mem_append_right _ h)))
  have hi2 : ∀ w ∈ wsX20, w ∈ wsX2_memberOf := fun w h => List.mem_cons_of_mem _ (List.mem_append_left _ (List.mem_append_left _ (List.mem_append_left _ (List.mem_append_right _ h))))
  have hl := lv_entry ([.ref (x 0), .int i1, .int i2]) (n := 3) (Nat.le_of_ble_eq_true rfl)
  rw [lg_entry_eq]
  generalize (lg_sl ([.ref (x 0), .int i1, .int i2]) ++ List.replicate (3 - (lg_sl ([.ref (x 0), .int i1, .int i2])).length) Slot.unset).toArray = ls at hl ⊢
  have hl : lv_has ls 3 [(0, .ref (x 0)), (1, .int i1), (2, .int i2)] := hl
  refine lv_iload_n hx hb dX2_memberOf_0 rfl (lv_at hl 1 rfl) ?_
  refine zx_chk (w := xmW cA x b rd X N ++ (bkW (cA 0) (b 0) B)) (vx_runS (As := [.int i1]) (rest := []) ⟨hx, hb, hml, hown, hts⟩ (zk_X2_checkMember l hfl D cA i1) (va_cwS 1 hts gX2_memberOf_X2_checkMember rfl rfl rfl zy_X2_checkMember.2 ⟨Nat.le_of_ble_eq_true rfl, Nat.le_of_ble_eq_true rfl⟩) (zx_preS (A := zfr (xmW cA x b rd X N ++ (bkW (cA 0) (b 0) B))) hK z_P0 (z_D0 (A := fun _ => True)) hO hS (fun q h => (zfr_0 q h).elim)) rfl rfl hl.1 rfl (lv_room (Nat.le_of_ble_eq_true rfl)) dX2_memberOf_1 ⟨Nat.le_of_ble_eq_true rfl, Nat.le_of_ble_eq_true rfl⟩) rfl hnt hlocks hP (fun E h9 => zxp_mid (pre := []) (vc := [(zmem i1, zeO)]) (suf := [(zrg i2 0 9, zeA)]) trivial h9) (Nat.le_of_ble_eq_true rfl) (Nat.le_of_ble_eq_true rfl) (fun hv_1 => ?_)
  obtain ⟨m1, hm1, rfl⟩ : ∃ q9 : Nat, q9 < 6 ∧ i1 = nI q9 := hv_1.1
  have hcl_m1 : (nI m1).toNatClampNeg = m1 := nI_clamp (by omega)
  refine lv_iload_n hx hb dX2_memberOf_4 rfl (lv_at hl 2 rfl) ?_
  refine lv_iconst (v := 0) hx hb dX2_memberOf_5 (by decide) ?_
  refine lv_bipush (v := 9) hx hb dX2_memberOf_6 (by decide) ?_
  refine zx_chk (w := xmW cA x b rd X N ++ (bkW (cA 0) (b 0) B)) (vx_runS (As := [.int i2, .int 0, .int 9]) (rest := []) ⟨hx, hb, hml, hown, hts⟩ (zk_X2_checkRange l hfl D cA i2 0 9) (va_cwS 3 hts gX2_memberOf_X2_checkRange rfl rfl rfl zy_X2_checkRange.2 ⟨Nat.le_of_ble_eq_true rfl, Nat.le_of_ble_eq_true rfl⟩) (zx_preS (A := zfr (xmW cA x b rd X N ++ (bkW (cA 0) (b 0) B))) hK z_P0 (z_D0 (A := fun _ => True)) hO hS (fun q h => (zfr_0 q h).elim)) rfl rfl hl.1 rfl (lv_room (Nat.le_of_ble_eq_true rfl)) dX2_memberOf_8 ⟨Nat.le_of_ble_eq_true rfl, Nat.le_of_ble_eq_true rfl⟩) rfl hnt hlocks hP (fun E h9 => zxp_mid (pre := [(zmem (nI m1), zeO)]) (vc := [(zrg i2 0 9, zeA)]) (suf := []) ⟨hv_1.1, trivial⟩ h9) (Nat.le_of_ble_eq_true rfl) (Nat.le_of_ble_eq_true rfl) (fun hv_8 => ?_)
  refine lv_aload_n hx hb dX2_memberOf_11 rfl (lv_at hl 0 rfl) ?_
  refine va_get (D := D) (ci := 2) (v := .ref (b 0 0)) (C := RX2) (T := TX2) (N := 9) hx hb hts hi2 hown hK hP 0 rfl rfl 0 (by decide) (hts (.fieldLink RX2 10 "PledgedLoans" "books" "LPledgedLoans$Books;") (List.mem_of_getElem? (i := 1) rfl)) (fun _ h9 => h9) rfl dX2_memberOf_12 ?_
  refine lv_iload_n hx hb dX2_memberOf_15 rfl (lv_at hl 1 rfl) ?_
  refine lv_iload_n hx hb dX2_memberOf_16 rfl (lv_at hl 2 rfl) ?_
  refine z_E (va_runV (As := [.int (nI m1), .int i2]) (rest := []) ⟨hx, hb, hml, hown, hts⟩ (zc_X0_property l D cA (b 0) B m1 i2 (by omega)) (cwV 2 hts gX2_memberOf_X0_property rfl rfl rfl zy_X0_property ⟨Nat.le_of_ble_eq_true rfl, Nat.le_of_ble_eq_true rfl⟩) (z_preV (ci := 0) hK (hP.sub (ws' := bkW (cA 0) (b 0) B) [6, 7, 8, 9, 10, 11, 12, 13, 14] rfl) (hD.sub (ws' := bkW (cA 0) (b 0) B) [6, 7, 8, 9, 10, 11, 12, 13, 14] (by decide) rfl) rfl rfl) rfl rfl hl.1 rfl (lv_room (Nat.le_of_ble_eq_true rfl)) dX2_memberOf_17 ⟨Nat.le_of_ble_eq_true rfl, Nat.le_of_ble_eq_true rfl⟩) rfl ?_
  refine W.widen (k := 2) (n := 12) (Nat.le_of_ble_eq_true rfl) (Nat.le_of_ble_eq_true rfl) ?_
  refine zx_ret ⟨hv_1.1, hv_8.1, trivial⟩ ?_
  exact z_iretE hx hb hr hlocks dX2_memberOf_20 (by first | (simp only [f_X2_memberOf, hcl_m1]; done) | rfl)

theorem zy_X2_pledged : yX2_pledged.cls = RX2 ∧ yX2_pledged.cls ≠ "java/lang/invoke/MethodHandle" ∧ yX2_pledged.cls ≠ "java/lang/invoke/VarHandle" ∧ (parseMethodDescriptor yX2_pledged.desc).map (fun d => d.parameters.length) = some 2 := by decide +kernel
def f_X2_pledged (B : BK) (i1 : Int32) (i2 : Int32) : Int32 :=
  B 2 (i1.toNatClampNeg * 6 + i2.toNatClampNeg)

set_option maxHeartbeats 4000000 in
set_option maxRecDepth 100000 in
theorem zk_X2_pledged (l : Launch) (hfl : l.stackTraces = false) (D : va_G) (cA : Nat → ClassId) (b : Nat → Nat → Nat) (rd : Nat) (x : Nat → Nat) (X : BK) (N : NK) (B : BK) (i1 : Int32) (i2 : Int32)  : vx_Met l yX2_pledged wsX2_pledged (zrx 7 110 2 12) (zPx D cA [.ref (x 0), .int i1, .int i2] (xmW cA x b rd X N ++ (bkW (cA 0) (b 0) B))) (zV (zva [(zmem i1, zeO), (zmem i2, zeO)]) (zE (some (.int (f_X2_pledged B i1 i2))))) (zX D (xmW cA x b rd X N ++ (bkW (cA 0) (b 0) B)) (xmW cA x b rd X N ++ (bkW (cA 0) (b 0) B)) (zxp [(zmem i1, zeO), (zmem i2, zeO)])) 2 12 (zfr (xmW cA x b rd X N ++ (bkW (cA 0) (b 0) B))) := by
  refine vx_ofW (cc := cX2_pledged) (maxL := 3) (ret := (some .int)) (by decide) rfl ?_
  intro p e s m args below meth c s₁ Bd hml hnt hv
  obtain ⟨rfl, hP, hK, hD0, hO⟩ := hv
  have hx := Bd.exec
  have hb := Bd.bytes
  have hr := Bd.returns
  have hts := atoms_spec (ws := wsX2_pledged) Bd.pre
  have hown : s.vm.findClass RX2 = some m.cls := findClass_of_methodNamed Bd.named
  have hlocks := Bd.notSynchronized
  have hD := z_Dfr hD0
  have hS : va_S (zfr (xmW cA x b rd X N ++ (bkW (cA 0) (b 0) B))) s.heap s.heap [] := va_S.rf
  have hi0 : ∀ w ∈ wsX00, w ∈ wsX2_pledged := fun w h => List.mem_cons_of_mem _ (List.mem_append_left _ (List.mem_append_right _ h))
  have hi2 : ∀ w ∈ wsX20, w ∈ wsX2_pledged := fun w h => List.mem_cons_of_mem _ (List.mem_append_left _ (List.mem_append_left _ (List.mem_append_right _ h)))
  have hl := lv_entry ([.ref (x 0), .int i1, .int i2]) (n := 3) (Nat.le_of_ble_eq_true rfl)
  rw [lg_entry_eq]
  generalize (lg_sl ([.ref (x 0), .int i1, .int i2]) ++ List.replicate (3 - (lg_sl ([.ref (x 0), .int i1, .int i2])).length) Slot.unset).toArray = ls at hl ⊢
  have hl : lv_has ls 3 [(0, .ref (x 0)), (1, .int i1), (2, .int i2)] := hl
  refine lv_iload_n hx hb dX2_pledged_0 rfl (lv_at hl 1 rfl) ?_
  refine zx_chk (w := xmW cA x b rd X N ++ (bkW (cA 0) (b 0) B)) (vx_runS (As := [.int i1]) (rest := []) ⟨hx, hb, hml, hown, hts⟩ (zk_X2_checkMember l hfl D cA i1) (va_cwS 1 hts gX2_pledged_X2_checkMember rfl rfl rfl zy_X2_checkMember.2 ⟨Nat.le_of_ble_eq_true rfl, Nat.le_of_ble_eq_true rfl⟩) (zx_preS (A := zfr (xmW cA x b rd X N ++ (bkW (cA 0) (b 0) B))) hK z_P0 (z_D0 (A := fun _ => True)) hO hS (fun q h => (zfr_0 q h).elim)) rfl rfl hl.1 rfl (lv_room (Nat.le_of_ble_eq_true rfl)) dX2_pledged_1 ⟨Nat.le_of_ble_eq_true rfl, Nat.le_of_ble_eq_true rfl⟩) rfl hnt hlocks hP (fun E h9 => zxp_mid (pre := []) (vc := [(zmem i1, zeO)]) (suf := [(zmem i2, zeO)]) trivial h9) (Nat.le_of_ble_eq_true rfl) (Nat.le_of_ble_eq_true rfl) (fun hv_1 => ?_)
  obtain ⟨m1, hm1, rfl⟩ : ∃ q9 : Nat, q9 < 6 ∧ i1 = nI q9 := hv_1.1
  have hcl_m1 : (nI m1).toNatClampNeg = m1 := nI_clamp (by omega)
  refine lv_iload_n hx hb dX2_pledged_4 rfl (lv_at hl 2 rfl) ?_
  refine zx_chk (w := xmW cA x b rd X N ++ (bkW (cA 0) (b 0) B)) (vx_runS (As := [.int i2]) (rest := []) ⟨hx, hb, hml, hown, hts⟩ (zk_X2_checkMember l hfl D cA i2) (va_cwS 1 hts gX2_pledged_X2_checkMember rfl rfl rfl zy_X2_checkMember.2 ⟨Nat.le_of_ble_eq_true rfl, Nat.le_of_ble_eq_true rfl⟩) (zx_preS (A := zfr (xmW cA x b rd X N ++ (bkW (cA 0) (b 0) B))) hK z_P0 (z_D0 (A := fun _ => True)) hO hS (fun q h => (zfr_0 q h).elim)) rfl rfl hl.1 rfl (lv_room (Nat.le_of_ble_eq_true rfl)) dX2_pledged_5 ⟨Nat.le_of_ble_eq_true rfl, Nat.le_of_ble_eq_true rfl⟩) rfl hnt hlocks hP (fun E h9 => zxp_mid (pre := [(zmem (nI m1), zeO)]) (vc := [(zmem i2, zeO)]) (suf := []) ⟨hv_1.1, trivial⟩ h9) (Nat.le_of_ble_eq_true rfl) (Nat.le_of_ble_eq_true rfl) (fun hv_5 => ?_)
  obtain ⟨m2, hm2, rfl⟩ : ∃ q9 : Nat, q9 < 6 ∧ i2 = nI q9 := hv_5.1
  have hcl_m2 : (nI m2).toNatClampNeg = m2 := nI_clamp (by omega)
  refine lv_aload_n hx hb dX2_pledged_8 rfl (lv_at hl 0 rfl) ?_
  refine va_get (D := D) (ci := 2) (v := .ref (b 0 0)) (C := RX2) (T := TX2) (N := 9) hx hb hts hi2 hown hK hP 0 rfl rfl 0 (by decide) (hts (.fieldLink RX2 10 "PledgedLoans" "books" "LPledgedLoans$Books;") (List.mem_of_getElem? (i := 1) rfl)) (fun _ h9 => h9) rfl dX2_pledged_9 ?_
  refine va_get (D := D) (ci := 0) (v := .ref (b 0 3)) (C := RX0) (T := TX0) (N := 16) hx hb hts hi0 hown hK hP 6 rfl rfl 2 (by decide) (hts (.fieldLink RX2 151 "PledgedLoans$Books" "pledges" "[I") (List.mem_of_getElem? (i := 2) rfl)) (fun _ h9 => h9) rfl dX2_pledged_12 ?_
  refine lv_iload_n hx hb dX2_pledged_15 rfl (lv_at hl 1 rfl) ?_
  refine lv_iload_n hx hb dX2_pledged_16 rfl (lv_at hl 2 rfl) ?_
  refine z_E (va_runS (As := [.int (nI m1), .int (nI m2)]) (rest := [.ref (b 0 3)]) ⟨hx, hb, hml, hown, hts⟩ (zc_X0_place l D cA m1 m2 (by omega) (by omega)) (va_cwS 2 hts gX2_pledged_X0_place rfl rfl rfl zy_X0_place.2 ⟨Nat.le_of_ble_eq_true rfl, Nat.le_of_ble_eq_true rfl⟩) (z_preS hK z_P0 (z_D0 (A := fun _ => True))) rfl rfl hl.1 rfl (lv_room (Nat.le_of_ble_eq_true rfl)) dX2_pledged_17 ⟨Nat.le_of_ble_eq_true rfl, Nat.le_of_ble_eq_true rfl⟩) rfl ?_
  refine z_top (y := nI (m1 * 6 + m2)) rfl ?_
  refine z_iald (j := m1 * 6 + m2) hx hb hK hP 9 0 rfl rfl dX2_pledged_20 (by omega) (by decide) ?_
  refine W.widen (k := 2) (n := 12) (Nat.le_of_ble_eq_true rfl) (Nat.le_of_ble_eq_true rfl) ?_
  refine zx_ret ⟨hv_1.1, hv_5.1, trivial⟩ ?_
  exact z_iretE hx hb hr hlocks dX2_pledged_21 (by first | (simp only [f_X2_pledged, hcl_m1, hcl_m2]; done) | rfl)

theorem zy_X2_count : yX2_count.cls = RX2 ∧ yX2_count.cls ≠ "java/lang/invoke/MethodHandle" ∧ yX2_count.cls ≠ "java/lang/invoke/VarHandle" ∧ (parseMethodDescriptor yX2_count.desc).map (fun d => d.parameters.length) = some 1 := by decide +kernel
def f_X2_count (N : NK) (B : BK) (i1 : Int32) : Int32 :=
  f_X2_number N B i1.toNatClampNeg

set_option maxHeartbeats 4000000 in
set_option maxRecDepth 100000 in
theorem zk_X2_count (l : Launch) (hfl : l.stackTraces = false) (D : va_G) (cA : Nat → ClassId) (b : Nat → Nat → Nat) (rd : Nat) (x : Nat → Nat) (X : BK) (N : NK) (B : BK) (i1 : Int32)  : vx_Met l yX2_count wsX2_count (zrx 7 112 1 6) (zPx D cA [.ref (x 0), .int i1] (xmW cA x b rd X N ++ (bkW (cA 0) (b 0) B))) (zV (zva [(zrg i1 0 11, zeA)]) (zE (some (.int (f_X2_count N B i1))))) (zX D (xmW cA x b rd X N ++ (bkW (cA 0) (b 0) B)) (xmW cA x b rd X N ++ (bkW (cA 0) (b 0) B)) (zxp [(zrg i1 0 11, zeA)])) 1 6 (zfr (xmW cA x b rd X N ++ (bkW (cA 0) (b 0) B))) := by
  refine vx_ofW (cc := cX2_count) (maxL := 2) (ret := (some .int)) (by decide) rfl ?_
  intro p e s m args below meth c s₁ Bd hml hnt hv
  obtain ⟨rfl, hP, hK, hD0, hO⟩ := hv
  have hx := Bd.exec
  have hb := Bd.bytes
  have hr := Bd.returns
  have hts := atoms_spec (ws := wsX2_count) Bd.pre
  have hown : s.vm.findClass RX2 = some m.cls := findClass_of_methodNamed Bd.named
  have hlocks := Bd.notSynchronized
  have hD := z_Dfr hD0
  have hS : va_S (zfr (xmW cA x b rd X N ++ (bkW (cA 0) (b 0) B))) s.heap s.heap [] := va_S.rf
  have hi0 : ∀ w ∈ wsX00, w ∈ wsX2_count := fun w h => List.mem_cons_of_mem _ (List.mem_append_left _ (List.mem_append_right _ h))
  have hi2 : ∀ w ∈ wsX20, w ∈ wsX2_count := fun w h => List.mem_cons_of_mem _ (List.mem_append_left _ (List.mem_append_left _ (List.mem_append_right _ h)))
  have hl := lv_entry ([.ref (x 0), .int i1]) (n := 2) (Nat.le_of_ble_eq_true rfl)
  rw [lg_entry_eq]
  generalize (lg_sl ([.ref (x 0), .int i1]) ++ List.replicate (2 - (lg_sl ([.ref (x 0), .int i1])).length) Slot.unset).toArray = ls at hl ⊢
  have hl : lv_has ls 2 [(0, .ref (x 0)), (1, .int i1)] := hl
  refine lv_iload_n hx hb dX2_count_0 rfl (lv_at hl 1 rfl) ?_
  refine lv_iconst (v := 0) hx hb dX2_count_1 (by decide) ?_
  refine lv_bipush (v := 11) hx hb dX2_count_2 (by decide) ?_
  refine zx_chk (w := xmW cA x b rd X N ++ (bkW (cA 0) (b 0) B)) (vx_runS (As := [.int i1, .int 0, .int 11]) (rest := []) ⟨hx, hb, hml, hown, hts⟩ (zk_X2_checkRange l hfl D cA i1 0 11) (va_cwS 3 hts gX2_count_X2_checkRange rfl rfl rfl zy_X2_checkRange.2 ⟨Nat.le_of_ble_eq_true rfl, Nat.le_of_ble_eq_true rfl⟩) (zx_preS (A := zfr (xmW cA x b rd X N ++ (bkW (cA 0) (b 0) B))) hK z_P0 (z_D0 (A := fun _ => True)) hO hS (fun q h => (zfr_0 q h).elim)) rfl rfl hl.1 rfl (lv_room (Nat.le_of_ble_eq_true rfl)) dX2_count_4 ⟨Nat.le_of_ble_eq_true rfl, Nat.le_of_ble_eq_true rfl⟩) rfl hnt hlocks hP (fun E h9 => zxp_mid (pre := []) (vc := [(zrg i1 0 11, zeA)]) (suf := []) trivial h9) (Nat.le_of_ble_eq_true rfl) (Nat.le_of_ble_eq_true rfl) (fun hv_4 => ?_)
  obtain ⟨m1, hm1, rfl⟩ : ∃ q9 : Nat, q9 < 12 ∧ i1 = nI q9 := (zrg_nat (a := 0) (b := 11) rfl rfl (by omega) (by omega) hv_4.1)
  have hcl_m1 : (nI m1).toNatClampNeg = m1 := nI_clamp (by omega)
  refine lv_aload_n hx hb dX2_count_7 rfl (lv_at hl 0 rfl) ?_
  refine lv_iload_n hx hb dX2_count_8 rfl (lv_at hl 1 rfl) ?_
  refine z_E (va_runV (As := [.int (nI m1)]) (rest := []) ⟨hx, hb, hml, hown, hts⟩ (zc_X2_number l D cA b rd x X N B m1 (by omega)) (cwV 1 hts gX2_count_X2_number rfl rfl rfl zy_X2_number ⟨Nat.le_of_ble_eq_true rfl, Nat.le_of_ble_eq_true rfl⟩) (z_preV (ci := 2) hK hP hD rfl rfl) rfl rfl hl.1 rfl (lv_room (Nat.le_of_ble_eq_true rfl)) dX2_count_9 ⟨Nat.le_of_ble_eq_true rfl, Nat.le_of_ble_eq_true rfl⟩) rfl ?_
  refine W.widen (k := 1) (n := 6) (Nat.le_of_ble_eq_true rfl) (Nat.le_of_ble_eq_true rfl) ?_
  refine zx_ret ⟨hv_4.1, trivial⟩ ?_
  exact z_iretE hx hb hr hlocks dX2_count_12 (by first | (simp only [f_X2_count, hcl_m1]; done) | rfl)

theorem zy_X2_setting : yX2_setting.cls = RX2 ∧ yX2_setting.cls ≠ "java/lang/invoke/MethodHandle" ∧ yX2_setting.cls ≠ "java/lang/invoke/VarHandle" ∧ (parseMethodDescriptor yX2_setting.desc).map (fun d => d.parameters.length) = some 1 := by decide +kernel
def f_X2_setting (B : BK) (i1 : Int32) : Int32 :=
  B 7 i1.toNatClampNeg

set_option maxHeartbeats 4000000 in
set_option maxRecDepth 100000 in
theorem zk_X2_setting (l : Launch) (hfl : l.stackTraces = false) (D : va_G) (cA : Nat → ClassId) (b : Nat → Nat → Nat) (rd : Nat) (x : Nat → Nat) (X : BK) (N : NK) (B : BK) (i1 : Int32)  : vx_Met l yX2_setting wsX2_setting (zrx 7 110 1 6) (zPx D cA [.ref (x 0), .int i1] (xmW cA x b rd X N ++ (bkW (cA 0) (b 0) B))) (zV (zva [(zset i1, zeO)]) (zE (some (.int (f_X2_setting B i1))))) (zX D (xmW cA x b rd X N ++ (bkW (cA 0) (b 0) B)) (xmW cA x b rd X N ++ (bkW (cA 0) (b 0) B)) (zxp [(zset i1, zeO)])) 1 6 (zfr (xmW cA x b rd X N ++ (bkW (cA 0) (b 0) B))) := by
  refine vx_ofW (cc := cX2_setting) (maxL := 2) (ret := (some .int)) (by decide) rfl ?_
  intro p e s m args below meth c s₁ Bd hml hnt hv
  obtain ⟨rfl, hP, hK, hD0, hO⟩ := hv
  have hx := Bd.exec
  have hb := Bd.bytes
  have hr := Bd.returns
  have hts := atoms_spec (ws := wsX2_setting) Bd.pre
  have hown : s.vm.findClass RX2 = some m.cls := findClass_of_methodNamed Bd.named
  have hlocks := Bd.notSynchronized
  have hD := z_Dfr hD0
  have hS : va_S (zfr (xmW cA x b rd X N ++ (bkW (cA 0) (b 0) B))) s.heap s.heap [] := va_S.rf
  have hi0 : ∀ w ∈ wsX00, w ∈ wsX2_setting := fun w h => List.mem_cons_of_mem _ (List.mem_append_left _ (List.mem_append_right _ h))
  have hi2 : ∀ w ∈ wsX20, w ∈ wsX2_setting := fun w h => List.mem_cons_of_mem _ (List.mem_append_left _ (List.mem_append_left _ (List.mem_append_right _ h)))
  have hl := lv_entry ([.ref (x 0), .int i1]) (n := 2) (Nat.le_of_ble_eq_true rfl)
  rw [lg_entry_eq]
  generalize (lg_sl ([.ref (x 0), .int i1]) ++ List.replicate (2 - (lg_sl ([.ref (x 0), .int i1])).length) Slot.unset).toArray = ls at hl ⊢
  have hl : lv_has ls 2 [(0, .ref (x 0)), (1, .int i1)] := hl
  refine lv_iload_n hx hb dX2_setting_0 rfl (lv_at hl 1 rfl) ?_
  refine zx_chk (w := xmW cA x b rd X N ++ (bkW (cA 0) (b 0) B)) (vx_runS (As := [.int i1]) (rest := []) ⟨hx, hb, hml, hown, hts⟩ (zk_X2_checkSetting l hfl D cA i1) (va_cwS 1 hts gX2_setting_X2_checkSetting rfl rfl rfl zy_X2_checkSetting.2 ⟨Nat.le_of_ble_eq_true rfl, Nat.le_of_ble_eq_true rfl⟩) (zx_preS (A := zfr (xmW cA x b rd X N ++ (bkW (cA 0) (b 0) B))) hK z_P0 (z_D0 (A := fun _ => True)) hO hS (fun q h => (zfr_0 q h).elim)) rfl rfl hl.1 rfl (lv_room (Nat.le_of_ble_eq_true rfl)) dX2_setting_1 ⟨Nat.le_of_ble_eq_true rfl, Nat.le_of_ble_eq_true rfl⟩) rfl hnt hlocks hP (fun E h9 => zxp_mid (pre := []) (vc := [(zset i1, zeO)]) (suf := []) trivial h9) (Nat.le_of_ble_eq_true rfl) (Nat.le_of_ble_eq_true rfl) (fun hv_1 => ?_)
  obtain ⟨m1, hm1, rfl⟩ : ∃ q9 : Nat, q9 < 2 ∧ i1 = nI q9 := hv_1.1
  have hcl_m1 : (nI m1).toNatClampNeg = m1 := nI_clamp (by omega)
  refine lv_aload_n hx hb dX2_setting_4 rfl (lv_at hl 0 rfl) ?_
  refine va_get (D := D) (ci := 2) (v := .ref (b 0 0)) (C := RX2) (T := TX2) (N := 9) hx hb hts hi2 hown hK hP 0 rfl rfl 0 (by decide) (hts (.fieldLink RX2 10 "PledgedLoans" "books" "LPledgedLoans$Books;") (List.mem_of_getElem? (i := 1) rfl)) (fun _ h9 => h9) rfl dX2_setting_5 ?_
  refine va_get (D := D) (ci := 0) (v := .ref (b 0 8)) (C := RX0) (T := TX0) (N := 16) hx hb hts hi0 hown hK hP 6 rfl rfl 7 (by decide) (hts (.fieldLink RX2 111 "PledgedLoans$Books" "settings" "[I") (List.mem_of_getElem? (i := 2) rfl)) (fun _ h9 => h9) rfl dX2_setting_8 ?_
  refine lv_iload_n hx hb dX2_setting_11 rfl (lv_at hl 1 rfl) ?_
  refine z_iald (j := m1) hx hb hK hP 14 0 rfl rfl dX2_setting_12 (by omega) (by decide) ?_
  refine W.widen (k := 1) (n := 6) (Nat.le_of_ble_eq_true rfl) (Nat.le_of_ble_eq_true rfl) ?_
  refine zx_ret ⟨hv_1.1, trivial⟩ ?_
  exact z_iretE hx hb hr hlocks dX2_setting_13 (by first | (simp only [f_X2_setting, hcl_m1]; done) | rfl)

theorem zy_X2_whyNot : yX2_whyNot.cls = RX2 ∧ yX2_whyNot.cls ≠ "java/lang/invoke/MethodHandle" ∧ yX2_whyNot.cls ≠ "java/lang/invoke/VarHandle" ∧ (parseMethodDescriptor yX2_whyNot.desc).map (fun d => d.parameters.length) = some 2 := by decide +kernel
def f_X2_whyNot (B : BK) (i1 : Int32) (am : Int32) : Int32 :=
  f_X0_whyNoLoan B i1.toNatClampNeg am

set_option maxHeartbeats 4000000 in
set_option maxRecDepth 100000 in
theorem zk_X2_whyNot (l : Launch) (hfl : l.stackTraces = false) (D : va_G) (cA : Nat → ClassId) (b : Nat → Nat → Nat) (rd : Nat) (x : Nat → Nat) (X : BK) (N : NK) (B : BK) (i1 : Int32) (am : Int32)  : vx_Met l yX2_whyNot wsX2_whyNot (zrx 8 132 2 12) (zPx D cA [.ref (x 0), .int i1, .int am] (xmW cA x b rd X N ++ (bkW (cA 0) (b 0) B))) (zV (zva [(zmem i1, zeO), (zrg am 1 9999, zeA)]) (zE (some (.int (f_X2_whyNot B i1 am))))) (zX D (xmW cA x b rd X N ++ (bkW (cA 0) (b 0) B)) (xmW cA x b rd X N ++ (bkW (cA 0) (b 0) B)) (zxp [(zmem i1, zeO), (zrg am 1 9999, zeA)])) 2 12 (zfr (xmW cA x b rd X N ++ (bkW (cA 0) (b 0) B))) := by
  refine vx_ofW (cc := cX2_whyNot) (maxL := 3) (ret := (some .int)) (by decide) rfl ?_
  intro p e s m args below meth c s₁ Bd hml hnt hv
  obtain ⟨rfl, hP, hK, hD0, hO⟩ := hv
  have hx := Bd.exec
  have hb := Bd.bytes
  have hr := Bd.returns
  have hts := atoms_spec (ws := wsX2_whyNot) Bd.pre
  have hown : s.vm.findClass RX2 = some m.cls := findClass_of_methodNamed Bd.named
  have hlocks := Bd.notSynchronized
  have hD := z_Dfr hD0
  have hS : va_S (zfr (xmW cA x b rd X N ++ (bkW (cA 0) (b 0) B))) s.heap s.heap [] := va_S.rf
  have hi0 : ∀ w ∈ wsX00, w ∈ wsX2_whyNot := fun w h => List.mem_cons_of_mem _ (List.mem_append_left _ (List.mem_append_left _ (List.mem_append_right _ h)))
  have hi2 : ∀ w ∈ wsX20, w ∈ wsX2_whyNot := fun w h => List.mem_cons_of_mem _ (List.mem_append_left _ (List.mem_append_left _ (List.mem_append_left _ (List.mem_append_right _ h))))
  have hl := lv_entry ([.ref (x 0), .int i1, .int am]) (n := 3) (Nat.le_of_ble_eq_true rfl)
  rw [lg_entry_eq]
  generalize (lg_sl ([.ref (x 0), .int i1, .int am]) ++ List.replicate (3 - (lg_sl ([.ref (x 0), .int i1, .int am])).length) Slot.unset).toArray = ls at hl ⊢
  have hl : lv_has ls 3 [(0, .ref (x 0)), (1, .int i1), (2, .int am)] := hl
  refine lv_iload_n hx hb dX2_whyNot_0 rfl (lv_at hl 1 rfl) ?_
  refine zx_chk (w := xmW cA x b rd X N ++ (bkW (cA 0) (b 0) B)) (vx_runS (As := [.int i1]) (rest := []) ⟨hx, hb, hml, hown, hts⟩ (zk_X2_checkMember l hfl D cA i1) (va_cwS 1 hts gX2_whyNot_X2_checkMember rfl rfl rfl zy_X2_checkMember.2 ⟨Nat.le_of_ble_eq_true rfl, Nat.le_of_ble_eq_true rfl⟩) (zx_preS (A := zfr (xmW cA x b rd X N ++ (bkW (cA 0) (b 0) B))) hK z_P0 (z_D0 (A := fun _ => True)) hO hS (fun q h => (zfr_0 q h).elim)) rfl rfl hl.1 rfl (lv_room (Nat.le_of_ble_eq_true rfl)) dX2_whyNot_1 ⟨Nat.le_of_ble_eq_true rfl, Nat.le_of_ble_eq_true rfl⟩) rfl hnt hlocks hP (fun E h9 => zxp_mid (pre := []) (vc := [(zmem i1, zeO)]) (suf := [(zrg am 1 9999, zeA)]) trivial h9) (Nat.le_of_ble_eq_true rfl) (Nat.le_of_ble_eq_true rfl) (fun hv_1 => ?_)
  obtain ⟨m1, hm1, rfl⟩ : ∃ q9 : Nat, q9 < 6 ∧ i1 = nI q9 := hv_1.1
  have hcl_m1 : (nI m1).toNatClampNeg = m1 := nI_clamp (by omega)
  refine lv_iload_n hx hb dX2_whyNot_4 rfl (lv_at hl 2 rfl) ?_
  refine zx_chk (w := xmW cA x b rd X N ++ (bkW (cA 0) (b 0) B)) (vx_runS (As := [.int am]) (rest := []) ⟨hx, hb, hml, hown, hts⟩ (zk_X2_checkAmount l hfl D cA am) (va_cwS 1 hts gX2_whyNot_X2_checkAmount rfl rfl rfl zy_X2_checkAmount.2 ⟨Nat.le_of_ble_eq_true rfl, Nat.le_of_ble_eq_true rfl⟩) (zx_preS (A := zfr (xmW cA x b rd X N ++ (bkW (cA 0) (b 0) B))) hK z_P0 (z_D0 (A := fun _ => True)) hO hS (fun q h => (zfr_0 q h).elim)) rfl rfl hl.1 rfl (lv_room (Nat.le_of_ble_eq_true rfl)) dX2_whyNot_5 ⟨Nat.le_of_ble_eq_true rfl, Nat.le_of_ble_eq_true rfl⟩) rfl hnt hlocks hP (fun E h9 => zxp_mid (pre := [(zmem (nI m1), zeO)]) (vc := [(zrg am 1 9999, zeA)]) (suf := []) ⟨hv_1.1, trivial⟩ h9) (Nat.le_of_ble_eq_true rfl) (Nat.le_of_ble_eq_true rfl) (fun hv_5 => ?_)
  refine lv_aload_n hx hb dX2_whyNot_8 rfl (lv_at hl 0 rfl) ?_
  refine va_get (D := D) (ci := 2) (v := .ref (b 0 0)) (C := RX2) (T := TX2) (N := 9) hx hb hts hi2 hown hK hP 0 rfl rfl 0 (by decide) (hts (.fieldLink RX2 10 "PledgedLoans" "books" "LPledgedLoans$Books;") (List.mem_of_getElem? (i := 1) rfl)) (fun _ h9 => h9) rfl dX2_whyNot_9 ?_
  refine lv_iload_n hx hb dX2_whyNot_12 rfl (lv_at hl 1 rfl) ?_
  refine lv_iload_n hx hb dX2_whyNot_13 rfl (lv_at hl 2 rfl) ?_
  refine z_E (va_runV (As := [.int (nI m1), .int am]) (rest := []) ⟨hx, hb, hml, hown, hts⟩ (zc_X0_whyNoLoan l D cA (b 0) B m1 am (by omega)) (cwV 2 hts gX2_whyNot_X0_whyNoLoan rfl rfl rfl zy_X0_whyNoLoan ⟨Nat.le_of_ble_eq_true rfl, Nat.le_of_ble_eq_true rfl⟩) (z_preV (ci := 0) hK (hP.sub (ws' := bkW (cA 0) (b 0) B) [6, 7, 8, 9, 10, 11, 12, 13, 14] rfl) (hD.sub (ws' := bkW (cA 0) (b 0) B) [6, 7, 8, 9, 10, 11, 12, 13, 14] (by decide) rfl) rfl rfl) rfl rfl hl.1 rfl (lv_room (Nat.le_of_ble_eq_true rfl)) dX2_whyNot_14 ⟨Nat.le_of_ble_eq_true rfl, Nat.le_of_ble_eq_true rfl⟩) rfl ?_
  refine W.widen (k := 2) (n := 12) (Nat.le_of_ble_eq_true rfl) (Nat.le_of_ble_eq_true rfl) ?_
  refine zx_ret ⟨hv_1.1, hv_5.1, trivial⟩ ?_
  exact z_iretE hx hb hr hlocks dX2_whyNot_17 (by first | (simp only [f_X2_whyNot, hcl_m1]; done) | rfl)

theorem zy_X2_greatest : yX2_greatest.cls = RX2 ∧ yX2_greatest.cls ≠ "java/lang/invoke/MethodHandle" ∧ yX2_greatest.cls ≠ "java/lang/invoke/VarHandle" ∧ (parseMethodDescriptor yX2_greatest.desc).map (fun d => d.parameters.length) = some 2 := by decide +kernel
def f_X2_greatest (B : BK) (i1 : Int32) (i2 : Int32) : Int32 :=
  if i2 = 0 then
    f_X2_greatestByHalving B i1.toNatClampNeg
  else
    f_X2_greatestByAll B i1.toNatClampNeg

set_option maxHeartbeats 4000000 in
set_option maxRecDepth 100000 in
theorem zk_X2_greatest (l : Launch) (hfl : l.stackTraces = false) (D : va_G) (cA : Nat → ClassId) (b : Nat → Nat → Nat) (rd : Nat) (x : Nat → Nat) (X : BK) (N : NK) (B : BK) (i1 : Int32) (i2 : Int32)  : vx_Met l yX2_greatest wsX2_greatest (zrx 7 112 2 12) (zPx D cA [.ref (x 0), .int i1, .int i2] (xmW cA x b rd X N ++ (bkW (cA 0) (b 0) B))) (zV (zva [(zmem i1, zeO), (zrg i2 0 1, zeA)]) (zE (some (.int (f_X2_greatest B i1 i2))))) (zX D (xmW cA x b rd X N ++ (bkW (cA 0) (b 0) B)) (xmW cA x b rd X N ++ (bkW (cA 0) (b 0) B)) (zxp [(zmem i1, zeO), (zrg i2 0 1, zeA)])) 2 12 (zfr (xmW cA x b rd X N ++ (bkW (cA 0) (b 0) B))) := by
  refine vx_ofW (cc := cX2_greatest) (maxL := 3) (ret := (some .int)) (by decide) rfl ?_
  intro p e s m args below meth c s₁ Bd hml hnt hv
  obtain ⟨rfl, hP, hK, hD0, hO⟩ := hv
  have hx := Bd.exec
  have hb := Bd.bytes
  have hr := Bd.returns
  have hts := atoms_spec (ws := wsX2_greatest) Bd.pre
  have hown : s.vm.findClass RX2 = some m.cls := findClass_of_methodNamed Bd.named
  have hlocks := Bd.notSynchronized
  have hD := z_Dfr hD0
  have hS : va_S (zfr (xmW cA x b rd X N ++ (bkW (cA 0) (b 0) B))) s.heap s.heap [] := va_S.rf
  have hi0 : ∀ w ∈ wsX00, w ∈ wsX2_greatest := fun w h => List.mem_cons_of_mem _ (List.mem_append_left _ (List.mem_append_left _ (List.mem_append_right _ h)))
  have hi2 : ∀ w ∈ wsX20, w ∈ wsX2_greatest := fun w h => List.mem_cons_of_mem _ (List.mem_append_left _ (List.mem_append_left _ (List.mem_append_left _ (List.mem_append_right _ h))))
  have hl := lv_entry ([.ref (x 0), .int i1, .int i2]) (n := 3) (Nat.le_of_ble_eq_true rfl)
  rw [lg_entry_eq]
  generalize (lg_sl ([.ref (x 0), .int i1, .int i2]) ++ List.replicate (3 - (lg_sl ([.ref (x 0), .int i1, .int i2])).length) Slot.unset).toArray = ls at hl ⊢
  have hl : lv_has ls 3 [(0, .ref (x 0)), (1, .int i1), (2, .int i2)] := hl
  refine lv_iload_n hx hb dX2_greatest_0 rfl (lv_at hl 1 rfl) ?_
  refine zx_chk (w := xmW cA x b rd X N ++ (bkW (cA 0) (b 0) B)) (vx_runS (As := [.int i1]) (rest := []) ⟨hx, hb, hml, hown, hts⟩ (zk_X2_checkMember l hfl D cA i1) (va_cwS 1 hts gX2_greatest_X2_checkMember rfl rfl rfl zy_X2_checkMember.2 ⟨Nat.le_of_ble_eq_true rfl, Nat.le_of_ble_eq_true rfl⟩) (zx_preS (A := zfr (xmW cA x b rd X N ++ (bkW (cA 0) (b 0) B))) hK z_P0 (z_D0 (A := fun _ => True)) hO hS (fun q h => (zfr_0 q h).elim)) rfl rfl hl.1 rfl (lv_room (Nat.le_of_ble_eq_true rfl)) dX2_greatest_1 ⟨Nat.le_of_ble_eq_true rfl, Nat.le_of_ble_eq_true rfl⟩) rfl hnt hlocks hP (fun E h9 => zxp_mid (pre := []) (vc := [(zmem i1, zeO)]) (suf := [(zrg i2 0 1, zeA)]) trivial h9) (Nat.le_of_ble_eq_true rfl) (Nat.le_of_ble_eq_true rfl) (fun hv_1 => ?_)
  obtain ⟨m1, hm1, rfl⟩ : ∃ q9 : Nat, q9 < 6 ∧ i1 = nI q9 := hv_1.1
  have hcl_m1 : (nI m1).toNatClampNeg = m1 := nI_clamp (by omega)
  refine lv_iload_n hx hb dX2_greatest_4 rfl (lv_at hl 2 rfl) ?_
  refine lv_iconst (v := 0) hx hb dX2_greatest_5 (by decide) ?_
  refine lv_iconst (v := 1) hx hb dX2_greatest_6 (by decide) ?_
  refine zx_chk (w := xmW cA x b rd X N ++ (bkW (cA 0) (b 0) B)) (vx_runS (As := [.int i2, .int 0, .int 1]) (rest := []) ⟨hx, hb, hml, hown, hts⟩ (zk_X2_checkRange l hfl D cA i2 0 1) (va_cwS 3 hts gX2_greatest_X2_checkRange rfl rfl rfl zy_X2_checkRange.2 ⟨Nat.le_of_ble_eq_true rfl, Nat.le_of_ble_eq_true rfl⟩) (zx_preS (A := zfr (xmW cA x b rd X N ++ (bkW (cA 0) (b 0) B))) hK z_P0 (z_D0 (A := fun _ => True)) hO hS (fun q h => (zfr_0 q h).elim)) rfl rfl hl.1 rfl (lv_room (Nat.le_of_ble_eq_true rfl)) dX2_greatest_7 ⟨Nat.le_of_ble_eq_true rfl, Nat.le_of_ble_eq_true rfl⟩) rfl hnt hlocks hP (fun E h9 => zxp_mid (pre := [(zmem (nI m1), zeO)]) (vc := [(zrg i2 0 1, zeA)]) (suf := []) ⟨hv_1.1, trivial⟩ h9) (Nat.le_of_ble_eq_true rfl) (Nat.le_of_ble_eq_true rfl) (fun hv_7 => ?_)
  refine lv_iload_n hx hb dX2_greatest_10 rfl (lv_at hl 2 rfl) ?_
  refine lv_if_ne (tgt := 22) hx hb dX2_greatest_11 (by decide) (fun c_1 => ?_) (fun c_1 => ?_)
  · refine lv_aload_n hx hb dX2_greatest_22 rfl (lv_at hl 0 rfl) ?_
    refine lv_iload_n hx hb dX2_greatest_23 rfl (lv_at hl 1 rfl) ?_
    refine z_E (va_runV (As := [.int (nI m1)]) (rest := []) ⟨hx, hb, hml, hown, hts⟩ (zc_X2_greatestByAll l D cA b rd x X N B m1 (by omega)) (cwV 1 hts gX2_greatest_X2_greatestByAll rfl rfl rfl zy_X2_greatestByAll ⟨Nat.le_of_ble_eq_true rfl, Nat.le_of_ble_eq_true rfl⟩) (z_preV (ci := 2) hK hP hD rfl rfl) rfl rfl hl.1 rfl (lv_room (Nat.le_of_ble_eq_true rfl)) dX2_greatest_24 ⟨Nat.le_of_ble_eq_true rfl, Nat.le_of_ble_eq_true rfl⟩) rfl ?_
    refine W.widen (k := 2) (n := 12) (Nat.le_of_ble_eq_true rfl) (Nat.le_of_ble_eq_true rfl) ?_
    refine zx_ret ⟨hv_1.1, hv_7.1, trivial⟩ ?_
    exact z_iretE hx hb hr hlocks dX2_greatest_27 (by simp only [f_X2_greatest, if_neg c_1, hcl_m1])
  · refine lv_aload_n hx hb dX2_greatest_14 rfl (lv_at hl 0 rfl) ?_
    refine lv_iload_n hx hb dX2_greatest_15 rfl (lv_at hl 1 rfl) ?_
    refine z_E (va_runV (As := [.int (nI m1)]) (rest := []) ⟨hx, hb, hml, hown, hts⟩ (zc_X2_greatestByHalving l D cA b rd x X N B m1 (by omega)) (cwV 1 hts gX2_greatest_X2_greatestByHalving rfl rfl rfl zy_X2_greatestByHalving ⟨Nat.le_of_ble_eq_true rfl, Nat.le_of_ble_eq_true rfl⟩) (z_preV (ci := 2) hK hP hD rfl rfl) rfl rfl hl.1 rfl (lv_room (Nat.le_of_ble_eq_true rfl)) dX2_greatest_16 ⟨Nat.le_of_ble_eq_true rfl, Nat.le_of_ble_eq_true rfl⟩) rfl ?_
    refine lv_goto (tgt := 27) hx hb dX2_greatest_19 (by decide) ?_
    refine W.widen (k := 2) (n := 12) (Nat.le_of_ble_eq_true rfl) (Nat.le_of_ble_eq_true rfl) ?_
    refine zx_ret ⟨hv_1.1, hv_7.1, trivial⟩ ?_
    exact z_iretE hx hb hr hlocks dX2_greatest_27 (by simp only [f_X2_greatest, if_pos c_1, hcl_m1])

theorem zy_X2_guarantors : yX2_guarantors.cls = RX2 ∧ yX2_guarantors.cls ≠ "java/lang/invoke/MethodHandle" ∧ yX2_guarantors.cls ≠ "java/lang/invoke/VarHandle" ∧ (parseMethodDescriptor yX2_guarantors.desc).map (fun d => d.parameters.length) = some 3 := by decide +kernel
def f_X2_guarantors (X : BK) (B : BK) (i1 : Int32) (am : Int32) (i3 : Int32) : Int32 × BK :=
  if i3 = 0 then
    let M_3 : BK := (f_X2_fewestByGreatest X B i1.toNatClampNeg am).2
    ((f_X2_fewestByGreatest X B i1.toNatClampNeg am).1, M_3)
  else
    let M_2 : BK := (f_X2_fewestBySets X B i1.toNatClampNeg am).2
    ((f_X2_fewestBySets X B i1.toNatClampNeg am).1, M_2)

set_option maxHeartbeats 4000000 in
set_option maxRecDepth 100000 in
theorem zk_X2_guarantors (l : Launch) (hfl : l.stackTraces = false) (D : va_G) (cA : Nat → ClassId) (b : Nat → Nat → Nat) (rd : Nat) (x : Nat → Nat) (X : BK) (N : NK) (B : BK) (i1 : Int32) (am : Int32) (i3 : Int32)  : vx_Met l yX2_guarantors wsX2_guarantors (zrx 8 132 3 18) (zPx D cA [.ref (x 0), .int i1, .int am, .int i3] (xmW cA x b rd X N ++ (bkW (cA 0) (b 0) B))) (zV (zva [(zmem i1, zeO), (zrg am 1 9999, zeA), (zrg i3 0 1, zeA)]) (zM D (xmW cA x b rd X N ++ (bkW (cA 0) (b 0) B)) (xmW cA x b rd ((f_X2_guarantors X B i1 am i3).2) N ++ (bkW (cA 0) (b 0) B)) (some (.int ((f_X2_guarantors X B i1 am i3).1))))) (zX D (xmW cA x b rd X N ++ (bkW (cA 0) (b 0) B)) (xmW cA x b rd X N ++ (bkW (cA 0) (b 0) B)) (zxp [(zmem i1, zeO), (zrg am 1 9999, zeA), (zrg i3 0 1, zeA)])) 3 18 (zfr (xmW cA x b rd X N ++ (bkW (cA 0) (b 0) B))) := by
  refine vx_ofW (cc := cX2_guarantors) (maxL := 4) (ret := (some .int)) (by decide) rfl ?_
  intro p e s m args below meth c s₁ Bd hml hnt hv
  obtain ⟨rfl, hP, hK, hD0, hO⟩ := hv
  have hx := Bd.exec
  have hb := Bd.bytes
  have hr := Bd.returns
  have hts := atoms_spec (ws := wsX2_guarantors) Bd.pre
  have hown : s.vm.findClass RX2 = some m.cls := findClass_of_methodNamed Bd.named
  have hlocks := Bd.notSynchronized
  have hD := z_Dfr hD0
  have hS : va_S (zfr (xmW cA x b rd X N ++ (bkW (cA 0) (b 0) B))) s.heap s.heap [] := va_S.rf
  have hi0 : ∀ w ∈ wsX00, w ∈ wsX2_guarantors := fun w h => List.mem_cons_of_mem _ (List.mem_append_left _ (List.mem_append_left _ (List.mem_append_right _ h)))
  have hi2 : ∀ w ∈ wsX20, w ∈ wsX2_guarantors := fun w h => List.mem_cons_of_mem _ (List.mem_append_left _ (List.mem_append_left _ (List.mem_append_left _ (List.mem_append_right _ h))))
  have hl := lv_entry ([.ref (x 0), .int i1, .int am, .int i3]) (n := 4) (Nat.le_of_ble_eq_true rfl)
  rw [lg_entry_eq]
  generalize (lg_sl ([.ref (x 0), .int i1, .int am, .int i3]) ++ List.replicate (4 - (lg_sl ([.ref (x 0), .int i1, .int am, .int i3])).length) Slot.unset).toArray = ls at hl ⊢
  have hl : lv_has ls 4 [(0, .ref (x 0)), (1, .int i1), (2, .int am), (3, .int i3)] := hl
  refine lv_iload_n hx hb dX2_guarantors_0 rfl (lv_at hl 1 rfl) ?_
  refine zx_chk (w := xmW cA x b rd X N ++ (bkW (cA 0) (b 0) B)) (vx_runS (As := [.int i1]) (rest := []) ⟨hx, hb, hml, hown, hts⟩ (zk_X2_checkMember l hfl D cA i1) (va_cwS 1 hts gX2_guarantors_X2_checkMember rfl rfl rfl zy_X2_checkMember.2 ⟨Nat.le_of_ble_eq_true rfl, Nat.le_of_ble_eq_true rfl⟩) (zx_preS (A := zfr (xmW cA x b rd X N ++ (bkW (cA 0) (b 0) B))) hK z_P0 (z_D0 (A := fun _ => True)) hO hS (fun q h => (zfr_0 q h).elim)) rfl rfl hl.1 rfl (lv_room (Nat.le_of_ble_eq_true rfl)) dX2_guarantors_1 ⟨Nat.le_of_ble_eq_true rfl, Nat.le_of_ble_eq_true rfl⟩) rfl hnt hlocks hP (fun E h9 => zxp_mid (pre := []) (vc := [(zmem i1, zeO)]) (suf := [(zrg am 1 9999, zeA), (zrg i3 0 1, zeA)]) trivial h9) (Nat.le_of_ble_eq_true rfl) (Nat.le_of_ble_eq_true rfl) (fun hv_1 => ?_)
  obtain ⟨m1, hm1, rfl⟩ : ∃ q9 : Nat, q9 < 6 ∧ i1 = nI q9 := hv_1.1
  have hcl_m1 : (nI m1).toNatClampNeg = m1 := nI_clamp (by omega)
  refine lv_iload_n hx hb dX2_guarantors_4 rfl (lv_at hl 2 rfl) ?_
  refine zx_chk (w := xmW cA x b rd X N ++ (bkW (cA 0) (b 0) B)) (vx_runS (As := [.int am]) (rest := []) ⟨hx, hb, hml, hown, hts⟩ (zk_X2_checkAmount l hfl D cA am) (va_cwS 1 hts gX2_guarantors_X2_checkAmount rfl rfl rfl zy_X2_checkAmount.2 ⟨Nat.le_of_ble_eq_true rfl, Nat.le_of_ble_eq_true rfl⟩) (zx_preS (A := zfr (xmW cA x b rd X N ++ (bkW (cA 0) (b 0) B))) hK z_P0 (z_D0 (A := fun _ => True)) hO hS (fun q h => (zfr_0 q h).elim)) rfl rfl hl.1 rfl (lv_room (Nat.le_of_ble_eq_true rfl)) dX2_guarantors_5 ⟨Nat.le_of_ble_eq_true rfl, Nat.le_of_ble_eq_true rfl⟩) rfl hnt hlocks hP (fun E h9 => zxp_mid (pre := [(zmem (nI m1), zeO)]) (vc := [(zrg am 1 9999, zeA)]) (suf := [(zrg i3 0 1, zeA)]) ⟨hv_1.1, trivial⟩ h9) (Nat.le_of_ble_eq_true rfl) (Nat.le_of_ble_eq_true rfl) (fun hv_5 => ?_)
  refine lv_iload_n hx hb dX2_guarantors_8 rfl (lv_at hl 3 rfl) ?_
  refine lv_iconst (v := 0) hx hb dX2_guarantors_9 (by decide) ?_
  refine lv_iconst (v := 1) hx hb dX2_guarantors_10 (by decide) ?_
  refine zx_chk (w := xmW cA x b rd X N ++ (bkW (cA 0) (b 0) B)) (vx_runS (As := [.int i3, .int 0, .int 1]) (rest := []) ⟨hx, hb, hml, hown, hts⟩ (zk_X2_checkRange l hfl D cA i3 0 1) (va_cwS 3 hts gX2_guarantors_X2_checkRange rfl rfl rfl zy_X2_checkRange.2 ⟨Nat.le_of_ble_eq_true rfl, Nat.le_of_ble_eq_true rfl⟩) (zx_preS (A := zfr (xmW cA x b rd X N ++ (bkW (cA 0) (b 0) B))) hK z_P0 (z_D0 (A := fun _ => True)) hO hS (fun q h => (zfr_0 q h).elim)) rfl rfl hl.1 rfl (lv_room (Nat.le_of_ble_eq_true rfl)) dX2_guarantors_11 ⟨Nat.le_of_ble_eq_true rfl, Nat.le_of_ble_eq_true rfl⟩) rfl hnt hlocks hP (fun E h9 => zxp_mid (pre := [(zmem (nI m1), zeO), (zrg am 1 9999, zeA)]) (vc := [(zrg i3 0 1, zeA)]) (suf := []) ⟨hv_1.1, hv_5.1, trivial⟩ h9) (Nat.le_of_ble_eq_true rfl) (Nat.le_of_ble_eq_true rfl) (fun hv_11 => ?_)
  refine lv_iload_n hx hb dX2_guarantors_14 rfl (lv_at hl 3 rfl) ?_
  refine lv_if_ne (tgt := 27) hx hb dX2_guarantors_15 (by decide) (fun c_1 => ?_) (fun c_1 => ?_)
  · refine lv_aload_n hx hb dX2_guarantors_27 rfl (lv_at hl 0 rfl) ?_
    refine lv_iload_n hx hb dX2_guarantors_28 rfl (lv_at hl 1 rfl) ?_
    refine lv_iload_n hx hb dX2_guarantors_29 rfl (lv_at hl 2 rfl) ?_
    refine z_M (X := ([] : va_W)) (Z := ([] : va_W)) (va_runV (As := [.int (nI m1), .int am]) (rest := []) ⟨hx, hb, hml, hown, hts⟩ (zc_X2_fewestBySets l D cA b rd x X N B m1 am (by omega)) (cwV 2 hts gX2_guarantors_X2_fewestBySets rfl rfl rfl zy_X2_fewestBySets ⟨Nat.le_of_ble_eq_true rfl, Nat.le_of_ble_eq_true rfl⟩) (z_preV (ci := 2) hK hP hD rfl rfl) rfl rfl hl.1 rfl (lv_room (Nat.le_of_ble_eq_true rfl)) dX2_guarantors_30 ⟨Nat.le_of_ble_eq_true rfl, Nat.le_of_ble_eq_true rfl⟩) hP hD hS (z_adr2 xmW_adr bkW_adr) rfl (fun H locs hP9 hD9 hS9 => ?_)
    replace hP : va_P D vwCl (xmW cA x b rd ((f_X2_fewestBySets X B m1 am).2) N ++ (bkW (cA 0) (b 0) B)) H := hP9
    replace hD : va_D _ (xmW cA x b rd ((f_X2_fewestBySets X B m1 am).2) N ++ (bkW (cA 0) (b 0) B)) := hD9
    replace hS := hS9
    clear hP9 hD9 hS9
    obtain ⟨M_2, eM_2⟩ : ∃ z9 : BK, z9 = (f_X2_fewestBySets X B m1 am).2 := ⟨_, rfl⟩
    rw [← eM_2] at hP hD
    refine W.widen (k := 3) (n := 18) (Nat.le_of_ble_eq_true rfl) (Nat.le_of_ble_eq_true rfl) ?_
    refine zx_ret ⟨hv_1.1, hv_5.1, hv_11.1, trivial⟩ ?_
    exact z_iretM (w1 := xmW cA x b rd M_2 N ++ (bkW (cA 0) (b 0) B)) hx hb hr hlocks dX2_guarantors_33 hP hS (by subst eM_2; simp only [f_X2_guarantors, if_neg c_1, hcl_m1]) (by subst eM_2; simp only [f_X2_guarantors, if_neg c_1, hcl_m1])
  · refine lv_aload_n hx hb dX2_guarantors_18 rfl (lv_at hl 0 rfl) ?_
    refine lv_iload_n hx hb dX2_guarantors_19 rfl (lv_at hl 1 rfl) ?_
    refine lv_iload_n hx hb dX2_guarantors_20 rfl (lv_at hl 2 rfl) ?_
    refine z_M (X := ([] : va_W)) (Z := ([] : va_W)) (va_runV (As := [.int (nI m1), .int am]) (rest := []) ⟨hx, hb, hml, hown, hts⟩ (zc_X2_fewestByGreatest l D cA b rd x X N B m1 am (by omega)) (cwV 2 hts gX2_guarantors_X2_fewestByGreatest rfl rfl rfl zy_X2_fewestByGreatest ⟨Nat.le_of_ble_eq_true rfl, Nat.le_of_ble_eq_true rfl⟩) (z_preV (ci := 2) hK hP hD rfl rfl) rfl rfl hl.1 rfl (lv_room (Nat.le_of_ble_eq_true rfl)) dX2_guarantors_21 ⟨Nat.le_of_ble_eq_true rfl, Nat.le_of_ble_eq_true rfl⟩) hP hD hS (z_adr2 xmW_adr bkW_adr) rfl (fun H locs hP9 hD9 hS9 => ?_)
    replace hP : va_P D vwCl (xmW cA x b rd ((f_X2_fewestByGreatest X B m1 am).2) N ++ (bkW (cA 0) (b 0) B)) H := hP9
    replace hD : va_D _ (xmW cA x b rd ((f_X2_fewestByGreatest X B m1 am).2) N ++ (bkW (cA 0) (b 0) B)) := hD9
    replace hS := hS9
    clear hP9 hD9 hS9
    obtain ⟨M_3, eM_3⟩ : ∃ z9 : BK, z9 = (f_X2_fewestByGreatest X B m1 am).2 := ⟨_, rfl⟩
    rw [← eM_3] at hP hD
    refine lv_goto (tgt := 33) hx hb dX2_guarantors_24 (by decide) ?_
    refine W.widen (k := 3) (n := 18) (Nat.le_of_ble_eq_true rfl) (Nat.le_of_ble_eq_true rfl) ?_
    refine zx_ret ⟨hv_1.1, hv_5.1, hv_11.1, trivial⟩ ?_
    exact z_iretM (w1 := xmW cA x b rd M_3 N ++ (bkW (cA 0) (b 0) B)) hx hb hr hlocks dX2_guarantors_33 hP hS (by subst eM_3; simp only [f_X2_guarantors, if_pos c_1, hcl_m1]) (by subst eM_3; simp only [f_X2_guarantors, if_pos c_1, hcl_m1])

theorem zy_X2_weeksLeft : yX2_weeksLeft.cls = RX2 ∧ yX2_weeksLeft.cls ≠ "java/lang/invoke/MethodHandle" ∧ yX2_weeksLeft.cls ≠ "java/lang/invoke/VarHandle" ∧ (parseMethodDescriptor yX2_weeksLeft.desc).map (fun d => d.parameters.length) = some 2 := by decide +kernel
def f_X2_weeksLeft (B : BK) (i1 : Int32) (i2 : Int32) : Int32 :=
  if i2 = 0 then
    f_X0_weeksByWeeks B i1.toNatClampNeg
  else
    f_X0_weeksAtOnce B i1.toNatClampNeg

set_option maxHeartbeats 4000000 in
set_option maxRecDepth 100000 in
theorem zk_X2_weeksLeft (l : Launch) (hfl : l.stackTraces = false) (D : va_G) (cA : Nat → ClassId) (b : Nat → Nat → Nat) (rd : Nat) (x : Nat → Nat) (X : BK) (N : NK) (B : BK) (i1 : Int32) (i2 : Int32)  : vx_Met l yX2_weeksLeft wsX2_weeksLeft (zrx 7 112 2 12) (zPx D cA [.ref (x 0), .int i1, .int i2] (xmW cA x b rd X N ++ (bkW (cA 0) (b 0) B))) (zV (zva [(zmem i1, zeO), (zrg i2 0 1, zeA)]) (zE (some (.int (f_X2_weeksLeft B i1 i2))))) (zX D (xmW cA x b rd X N ++ (bkW (cA 0) (b 0) B)) (xmW cA x b rd X N ++ (bkW (cA 0) (b 0) B)) (zxp [(zmem i1, zeO), (zrg i2 0 1, zeA)])) 2 12 (zfr (xmW cA x b rd X N ++ (bkW (cA 0) (b 0) B))) := by
  refine vx_ofW (cc := cX2_weeksLeft) (maxL := 3) (ret := (some .int)) (by decide) rfl ?_
  intro p e s m args below meth c s₁ Bd hml hnt hv
  obtain ⟨rfl, hP, hK, hD0, hO⟩ := hv
  have hx := Bd.exec
  have hb := Bd.bytes
  have hr := Bd.returns
  have hts := atoms_spec (ws := wsX2_weeksLeft) Bd.pre
  have hown : s.vm.findClass RX2 = some m.cls := findClass_of_methodNamed Bd.named
  have hlocks := Bd.notSynchronized
  have hD := z_Dfr hD0
  have hS : va_S (zfr (xmW cA x b rd X N ++ (bkW (cA 0) (b 0) B))) s.heap s.heap [] := va_S.rf
  have hi0 : ∀ w ∈ wsX00, w ∈ wsX2_weeksLeft := fun w h => List.mem_cons_of_mem _ (List.mem_append_left _ (List.mem_append_left _ (List.mem_append_right _ h)))
  have hi2 : ∀ w ∈ wsX20, w ∈ wsX2_weeksLeft := fun w h => List.mem_cons_of_mem _ (List.mem_append_left _ (List.mem_append_left _ (List.mem_append_left _ (List.mem_append_right _ h))))
  have hl := lv_entry ([.ref (x 0), .int i1, .int i2]) (n := 3) (Nat.le_of_ble_eq_true rfl)
  rw [lg_entry_eq]
  generalize (lg_sl ([.ref (x 0), .int i1, .int i2]) ++ List.replicate (3 - (lg_sl ([.ref (x 0), .int i1, .int i2])).length) Slot.unset).toArray = ls at hl ⊢
  have hl : lv_has ls 3 [(0, .ref (x 0)), (1, .int i1), (2, .int i2)] := hl
  refine lv_iload_n hx hb dX2_weeksLeft_0 rfl (lv_at hl 1 rfl) ?_
  refine zx_chk (w := xmW cA x b rd X N ++ (bkW (cA 0) (b 0) B)) (vx_runS (As := [.int i1]) (rest := []) ⟨hx, hb, hml, hown, hts⟩ (zk_X2_checkMember l hfl D cA i1) (va_cwS 1 hts gX2_weeksLeft_X2_checkMember rfl rfl rfl zy_X2_checkMember.2 ⟨Nat.le_of_ble_eq_true rfl, Nat.le_of_ble_eq_true rfl⟩) (zx_preS (A := zfr (xmW cA x b rd X N ++ (bkW (cA 0) (b 0) B))) hK z_P0 (z_D0 (A := fun _ => True)) hO hS (fun q h => (zfr_0 q h).elim)) rfl rfl hl.1 rfl (lv_room (Nat.le_of_ble_eq_true rfl)) dX2_weeksLeft_1 ⟨Nat.le_of_ble_eq_true rfl, Nat.le_of_ble_eq_true rfl⟩) rfl hnt hlocks hP (fun E h9 => zxp_mid (pre := []) (vc := [(zmem i1, zeO)]) (suf := [(zrg i2 0 1, zeA)]) trivial h9) (Nat.le_of_ble_eq_true rfl) (Nat.le_of_ble_eq_true rfl) (fun hv_1 => ?_)
  obtain ⟨m1, hm1, rfl⟩ : ∃ q9 : Nat, q9 < 6 ∧ i1 = nI q9 := hv_1.1
  have hcl_m1 : (nI m1).toNatClampNeg = m1 := nI_clamp (by omega)
  refine lv_iload_n hx hb dX2_weeksLeft_4 rfl (lv_at hl 2 rfl) ?_
  refine lv_iconst (v := 0) hx hb dX2_weeksLeft_5 (by decide) ?_
  refine lv_iconst (v := 1) hx hb dX2_weeksLeft_6 (by decide) ?_
  refine zx_chk (w := xmW cA x b rd X N ++ (bkW (cA 0) (b 0) B)) (vx_runS (As := [.int i2, .int 0, .int 1]) (rest := []) ⟨hx, hb, hml, hown, hts⟩ (zk_X2_checkRange l hfl D cA i2 0 1) (va_cwS 3 hts gX2_weeksLeft_X2_checkRange rfl rfl rfl zy_X2_checkRange.2 ⟨Nat.le_of_ble_eq_true rfl, Nat.le_of_ble_eq_true rfl⟩) (zx_preS (A := zfr (xmW cA x b rd X N ++ (bkW (cA 0) (b 0) B))) hK z_P0 (z_D0 (A := fun _ => True)) hO hS (fun q h => (zfr_0 q h).elim)) rfl rfl hl.1 rfl (lv_room (Nat.le_of_ble_eq_true rfl)) dX2_weeksLeft_7 ⟨Nat.le_of_ble_eq_true rfl, Nat.le_of_ble_eq_true rfl⟩) rfl hnt hlocks hP (fun E h9 => zxp_mid (pre := [(zmem (nI m1), zeO)]) (vc := [(zrg i2 0 1, zeA)]) (suf := []) ⟨hv_1.1, trivial⟩ h9) (Nat.le_of_ble_eq_true rfl) (Nat.le_of_ble_eq_true rfl) (fun hv_7 => ?_)
  refine lv_iload_n hx hb dX2_weeksLeft_10 rfl (lv_at hl 2 rfl) ?_
  refine lv_if_ne (tgt := 25) hx hb dX2_weeksLeft_11 (by decide) (fun c_1 => ?_) (fun c_1 => ?_)
  · refine lv_aload_n hx hb dX2_weeksLeft_25 rfl (lv_at hl 0 rfl) ?_
    refine va_get (D := D) (ci := 2) (v := .ref (b 0 0)) (C := RX2) (T := TX2) (N := 9) hx hb hts hi2 hown hK hP 0 rfl rfl 0 (by decide) (hts (.fieldLink RX2 10 "PledgedLoans" "books" "LPledgedLoans$Books;") (List.mem_of_getElem? (i := 1) rfl)) (fun _ h9 => h9) rfl dX2_weeksLeft_26 ?_
    refine lv_iload_n hx hb dX2_weeksLeft_29 rfl (lv_at hl 1 rfl) ?_
    refine z_E (va_runV (As := [.int (nI m1)]) (rest := []) ⟨hx, hb, hml, hown, hts⟩ (zc_X0_weeksAtOnce l D cA (b 0) B m1 (by omega)) (cwV 1 hts gX2_weeksLeft_X0_weeksAtOnce rfl rfl rfl zy_X0_weeksAtOnce ⟨Nat.le_of_ble_eq_true rfl, Nat.le_of_ble_eq_true rfl⟩) (z_preV (ci := 0) hK (hP.sub (ws' := bkW (cA 0) (b 0) B) [6, 7, 8, 9, 10, 11, 12, 13, 14] rfl) (hD.sub (ws' := bkW (cA 0) (b 0) B) [6, 7, 8, 9, 10, 11, 12, 13, 14] (by decide) rfl) rfl rfl) rfl rfl hl.1 rfl (lv_room (Nat.le_of_ble_eq_true rfl)) dX2_weeksLeft_30 ⟨Nat.le_of_ble_eq_true rfl, Nat.le_of_ble_eq_true rfl⟩) rfl ?_
    refine W.widen (k := 2) (n := 12) (Nat.le_of_ble_eq_true rfl) (Nat.le_of_ble_eq_true rfl) ?_
    refine zx_ret ⟨hv_1.1, hv_7.1, trivial⟩ ?_
    exact z_iretE hx hb hr hlocks dX2_weeksLeft_33 (by simp only [f_X2_weeksLeft, if_neg c_1, hcl_m1])
  · refine lv_aload_n hx hb dX2_weeksLeft_14 rfl (lv_at hl 0 rfl) ?_
    refine va_get (D := D) (ci := 2) (v := .ref (b 0 0)) (C := RX2) (T := TX2) (N := 9) hx hb hts hi2 hown hK hP 0 rfl rfl 0 (by decide) (hts (.fieldLink RX2 10 "PledgedLoans" "books" "LPledgedLoans$Books;") (List.mem_of_getElem? (i := 1) rfl)) (fun _ h9 => h9) rfl dX2_weeksLeft_15 ?_
    refine lv_iload_n hx hb dX2_weeksLeft_18 rfl (lv_at hl 1 rfl) ?_
    refine z_E (va_runV (As := [.int (nI m1)]) (rest := []) ⟨hx, hb, hml, hown, hts⟩ (zc_X0_weeksByWeeks l D cA (b 0) B m1 (by omega)) (cwV 1 hts gX2_weeksLeft_X0_weeksByWeeks rfl rfl rfl zy_X0_weeksByWeeks ⟨Nat.le_of_ble_eq_true rfl, Nat.le_of_ble_eq_true rfl⟩) (z_preV (ci := 0) hK (hP.sub (ws' := bkW (cA 0) (b 0) B) [6, 7, 8, 9, 10, 11, 12, 13, 14] rfl) (hD.sub (ws' := bkW (cA 0) (b 0) B) [6, 7, 8, 9, 10, 11, 12, 13, 14] (by decide) rfl) rfl rfl) rfl rfl hl.1 rfl (lv_room (Nat.le_of_ble_eq_true rfl)) dX2_weeksLeft_19 ⟨Nat.le_of_ble_eq_true rfl, Nat.le_of_ble_eq_true rfl⟩) rfl ?_
    refine lv_goto (tgt := 33) hx hb dX2_weeksLeft_22 (by decide) ?_
    refine W.widen (k := 2) (n := 12) (Nat.le_of_ble_eq_true rfl) (Nat.le_of_ble_eq_true rfl) ?_
    refine zx_ret ⟨hv_1.1, hv_7.1, trivial⟩ ?_
    exact z_iretE hx hb hr hlocks dX2_weeksLeft_33 (by simp only [f_X2_weeksLeft, if_pos c_1, hcl_m1])

theorem zy_X2_ifDivided : yX2_ifDivided.cls = RX2 ∧ yX2_ifDivided.cls ≠ "java/lang/invoke/MethodHandle" ∧ yX2_ifDivided.cls ≠ "java/lang/invoke/VarHandle" ∧ (parseMethodDescriptor yX2_ifDivided.desc).map (fun d => d.parameters.length) = some 1 := by decide +kernel
def f_X2_ifDivided (B : BK) (i1 : Int32) : Int32 :=
  f_X0_dividendOf B i1.toNatClampNeg (f_X0_allShareDays B)

set_option maxHeartbeats 4000000 in
set_option maxRecDepth 100000 in
theorem zk_X2_ifDivided (l : Launch) (hfl : l.stackTraces = false) (D : va_G) (cA : Nat → ClassId) (b : Nat → Nat → Nat) (rd : Nat) (x : Nat → Nat) (X : BK) (N : NK) (B : BK) (i1 : Int32)  : vx_Met l yX2_ifDivided wsX2_ifDivided (zrx 7 110 1 6) (zPx D cA [.ref (x 0), .int i1] (xmW cA x b rd X N ++ (bkW (cA 0) (b 0) B))) (zV (zva [(zmem i1, zeO)]) (zE (some (.int (f_X2_ifDivided B i1))))) (zX D (xmW cA x b rd X N ++ (bkW (cA 0) (b 0) B)) (xmW cA x b rd X N ++ (bkW (cA 0) (b 0) B)) (zxp [(zmem i1, zeO)])) 1 6 (zfr (xmW cA x b rd X N ++ (bkW (cA 0) (b 0) B))) := by
  refine vx_ofW (cc := cX2_ifDivided) (maxL := 2) (ret := (some .int)) (by decide) rfl ?_
  intro p e s m args below meth c s₁ Bd hml hnt hv
  obtain ⟨rfl, hP, hK, hD0, hO⟩ := hv
  have hx := Bd.exec
  have hb := Bd.bytes
  have hr := Bd.returns
  have hts := atoms_spec (ws := wsX2_ifDivided) Bd.pre
  have hown : s.vm.findClass RX2 = some m.cls := findClass_of_methodNamed Bd.named
  have hlocks := Bd.notSynchronized
  have hD := z_Dfr hD0
  have hS : va_S (zfr (xmW cA x b rd X N ++ (bkW (cA 0) (b 0) B))) s.heap s.heap [] := va_S.rf
  have hi0 : ∀ w ∈ wsX00, w ∈ wsX2_ifDivided := fun w h => List.mem_cons_of_mem _ (List.mem_append_left _ (List.mem_append_right _ h))
  have hi2 : ∀ w ∈ wsX20, w ∈ wsX2_ifDivided := fun w h => List.mem_cons_of_mem _ (List.mem_append_left _ (List.mem_append_left _ (List.mem_append_right _ h)))
  have hl := lv_entry ([.ref (x 0), .int i1]) (n := 2) (Nat.le_of_ble_eq_true rfl)
  rw [lg_entry_eq]
  generalize (lg_sl ([.ref (x 0), .int i1]) ++ List.replicate (2 - (lg_sl ([.ref (x 0), .int i1])).length) Slot.unset).toArray = ls at hl ⊢
  have hl : lv_has ls 2 [(0, .ref (x 0)), (1, .int i1)] := hl
  refine lv_iload_n hx hb dX2_ifDivided_0 rfl (lv_at hl 1 rfl) ?_
  refine zx_chk (w := xmW cA x b rd X N ++ (bkW (cA 0) (b 0) B)) (vx_runS (As := [.int i1]) (rest := []) ⟨hx, hb, hml, hown, hts⟩ (zk_X2_checkMember l hfl D cA i1) (va_cwS 1 hts gX2_ifDivided_X2_checkMember rfl rfl rfl zy_X2_checkMember.2 ⟨Nat.le_of_ble_eq_true rfl, Nat.le_of_ble_eq_true rfl⟩) (zx_preS (A := zfr (xmW cA x b rd X N ++ (bkW (cA 0) (b 0) B))) hK z_P0 (z_D0 (A := fun _ => True)) hO hS (fun q h => (zfr_0 q h).elim)) rfl rfl hl.1 rfl (lv_room (Nat.le_of_ble_eq_true rfl)) dX2_ifDivided_1 ⟨Nat.le_of_ble_eq_true rfl, Nat.le_of_ble_eq_true rfl⟩) rfl hnt hlocks hP (fun E h9 => zxp_mid (pre := []) (vc := [(zmem i1, zeO)]) (suf := []) trivial h9) (Nat.le_of_ble_eq_true rfl) (Nat.le_of_ble_eq_true rfl) (fun hv_1 => ?_)
  obtain ⟨m1, hm1, rfl⟩ : ∃ q9 : Nat, q9 < 6 ∧ i1 = nI q9 := hv_1.1
  have hcl_m1 : (nI m1).toNatClampNeg = m1 := nI_clamp (by omega)
  refine lv_aload_n hx hb dX2_ifDivided_4 rfl (lv_at hl 0 rfl) ?_
  refine va_get (D := D) (ci := 2) (v := .ref (b 0 0)) (C := RX2) (T := TX2) (N := 9) hx hb hts hi2 hown hK hP 0 rfl rfl 0 (by decide) (hts (.fieldLink RX2 10 "PledgedLoans" "books" "LPledgedLoans$Books;") (List.mem_of_getElem? (i := 1) rfl)) (fun _ h9 => h9) rfl dX2_ifDivided_5 ?_
  refine lv_iload_n hx hb dX2_ifDivided_8 rfl (lv_at hl 1 rfl) ?_
  refine lv_aload_n hx hb dX2_ifDivided_9 rfl (lv_at hl 0 rfl) ?_
  refine va_get (D := D) (ci := 2) (v := .ref (b 0 0)) (C := RX2) (T := TX2) (N := 9) hx hb hts hi2 hown hK hP 0 rfl rfl 0 (by decide) (hts (.fieldLink RX2 10 "PledgedLoans" "books" "LPledgedLoans$Books;") (List.mem_of_getElem? (i := 1) rfl)) (fun _ h9 => h9) rfl dX2_ifDivided_10 ?_
  refine z_E (va_runV (As := []) (rest := [.int (nI m1), .ref (b 0 0)]) ⟨hx, hb, hml, hown, hts⟩ (zc_X0_allShareDays l D cA (b 0) B) (cwV 0 hts gX2_ifDivided_X0_allShareDays rfl rfl rfl zy_X0_allShareDays ⟨Nat.le_of_ble_eq_true rfl, Nat.le_of_ble_eq_true rfl⟩) (z_preV (ci := 0) hK (hP.sub (ws' := bkW (cA 0) (b 0) B) [6, 7, 8, 9, 10, 11, 12, 13, 14] rfl) (hD.sub (ws' := bkW (cA 0) (b 0) B) [6, 7, 8, 9, 10, 11, 12, 13, 14] (by decide) rfl) rfl rfl) rfl rfl hl.1 rfl (lv_room (Nat.le_of_ble_eq_true rfl)) dX2_ifDivided_13 ⟨Nat.le_of_ble_eq_true rfl, Nat.le_of_ble_eq_true rfl⟩) rfl ?_
  refine z_E (va_runV (As := [.int (nI m1), .long (f_X0_allShareDays B)]) (rest := []) ⟨hx, hb, hml, hown, hts⟩ (zc_X0_dividendOf l D cA (b 0) B m1 (f_X0_allShareDays B) (by omega)) (cwV 2 hts gX2_ifDivided_X0_dividendOf rfl rfl rfl zy_X0_dividendOf ⟨Nat.le_of_ble_eq_true rfl, Nat.le_of_ble_eq_true rfl⟩) (z_preV (ci := 0) hK (hP.sub (ws' := bkW (cA 0) (b 0) B) [6, 7, 8, 9, 10, 11, 12, 13, 14] rfl) (hD.sub (ws' := bkW (cA 0) (b 0) B) [6, 7, 8, 9, 10, 11, 12, 13, 14] (by decide) rfl) rfl rfl) rfl rfl hl.1 rfl (lv_room (Nat.le_of_ble_eq_true rfl)) dX2_ifDivided_16 ⟨Nat.le_of_ble_eq_true rfl, Nat.le_of_ble_eq_true rfl⟩) rfl ?_
  refine W.widen (k := 1) (n := 6) (Nat.le_of_ble_eq_true rfl) (Nat.le_of_ble_eq_true rfl) ?_
  refine zx_ret ⟨hv_1.1, trivial⟩ ?_
  exact z_iretE hx hb hr hlocks dX2_ifDivided_19 (by first | (simp only [f_X2_ifDivided, hcl_m1]; done) | rfl)

