theorem zq_nn {n : Nat} (h : n < 10000) (h0 : ¬ n = 0) : ¬ nI n = 0 := fun e => h0 ((nI_eq (a := n) (b := 0) (by omega) (by omega)).mp e)
theorem zy_X2_readToError : yX2_readToError.cls = RX2 ∧ yX2_readToError.cls ≠ "java/lang/invoke/MethodHandle" ∧ yX2_readToError.cls ≠ "java/lang/invoke/VarHandle" ∧ (parseMethodDescriptor yX2_readToError.desc).map (fun d => d.parameters.length) = some 0 := by decide +kernel
def f_X2_readToError_9 (r : Nat → Nat) (N : NK) : Nat → Nat → (Nat → Nat) → Int32 × (Nat → Nat)
  | 0, q, r1 => (0, r1)
  | k + 1, q, r1 =>
    if (N 0 1) ≤ q then
      (nI (N 0 1), r1)
    else
      let N_3 : Nat → Nat := (f_X1_take r1 (N 2 q)).2
      if ((f_X1_take r1 (N 2 q)).1) = 0 then
        (nI q, N_3)
      else
        f_X2_readToError_9 r N k (q + 1) N_3
def f_X2_readToError (r : Nat → Nat) (N : NK) : Int32 × (Nat → Nat) :=
  let N_1 : Nat → Nat := f_X1_restart r
  f_X2_readToError_9 r N 61 0 N_1

set_option maxHeartbeats 4000000 in
set_option maxRecDepth 100000 in
theorem zc_X2_readToError (l : Launch) (D : va_G) (cA : Nat → ClassId) (b : Nat → Nat → Nat) (rd : Nat) (r : Nat → Nat) (x : Nat → Nat) (X : BK) (N : NK) (hbl : N 0 1 ≤ 60) (hbs : ∀ i, i < N 0 1 → N 2 i < 128) (hri : zRI r) : Met l yX2_readToError wsX2_readToError (zrm 3 66) (zPc D cA [.ref (x 0)] (rdW rd r ++ (xmW cA x b rd X N))) (zM D (rdW rd r ++ (xmW cA x b rd X N)) (rdW rd ((f_X2_readToError r N).2) ++ (xmW cA x b rd X N)) (some (.int ((f_X2_readToError r N).1)))) 0 0 (zfr (rdW rd r ++ (xmW cA x b rd X N))) := by
  refine Met.ofW (cc := cX2_readToError) (maxL := 2) (ret := (some .int)) (by decide) rfl ?_
  intro p e s m args below meth c s₁ Bd hml hv
  obtain ⟨rfl, hP, hK, hD0⟩ := hv
  have hx := Bd.exec
  have hb := Bd.bytes
  have hr := Bd.returns
  have hts := atoms_spec (ws := wsX2_readToError) Bd.pre
  have hown : s.vm.findClass RX2 = some m.cls := findClass_of_methodNamed Bd.named
  have hlocks := Bd.notSynchronized
  have hD := z_Dfr hD0
  have hS : va_S (zfr (rdW rd r ++ (xmW cA x b rd X N))) s.heap s.heap [] := va_S.rf
  have hi1 : ∀ w ∈ wsX10, w ∈ wsX2_readToError := fun w h => List.mem_cons_of_mem _ (List.mem_append_right _ h)
  have hi2 : ∀ w ∈ wsX20, w ∈ wsX2_readToError := fun w h => List.mem_cons_of_mem _ (List.mem_append_left _ (List.mem_append_right _ h))
  have hl := lv_entry ([.ref (x 0)]) (n := 2) (Nat.le_of_ble_eq_true rfl)
  rw [lg_entry_eq]
  generalize (lg_sl ([.ref (x 0)]) ++ List.replicate (2 - (lg_sl ([.ref (x 0)])).length) Slot.unset).toArray = ls at hl ⊢
  have hl : lv_has ls 2 [(0, .ref (x 0))] := hl
  refine lv_aload_n hx hb dX2_readToError_0 rfl (lv_at hl 0 rfl) ?_
  refine va_get (D := D) (ci := 2) (v := .ref rd) (C := RX2) (T := TX2) (N := 9) hx hb hts hi2 hown hK hP 1 rfl rfl 7 (by decide) (hts (.fieldLink RX2 34 "PledgedLoans" "reader" "LPledgedLoans$OrderReader;") (List.mem_of_getElem? (i := 1) rfl)) (fun _ h9 => h9) rfl dX2_readToError_1 ?_
  refine z_M (X := ([] : va_W)) (Z := xmW cA x b rd X N) (va_runV (As := []) (rest := []) ⟨hx, hb, hml, hown, hts⟩ (zc_X1_restart l D cA rd r) (cwV 0 hts gX2_readToError_X1_restart rfl rfl rfl zy_X1_restart ⟨Nat.le_of_ble_eq_true rfl, Nat.le_of_ble_eq_true rfl⟩) (z_preV (ci := 1) hK (hP.sub (ws' := rdW rd r) [0] rfl) (hD.sub (ws' := rdW rd r) [0] (by decide) rfl) rfl rfl) rfl rfl hl.1 rfl (lv_room (Nat.le_of_ble_eq_true rfl)) dX2_readToError_4 ⟨Nat.zero_le _, Nat.zero_le _⟩) hP hD hS rdW_adr rfl (fun H locs hP9 hD9 hS9 => ?_)
  replace hP : va_P D vwCl (rdW rd (f_X1_restart r) ++ (xmW cA x b rd X N)) H := hP9
  replace hD : va_D _ (rdW rd (f_X1_restart r) ++ (xmW cA x b rd X N)) := hD9
  replace hS := hS9
  clear hP9 hD9 hS9
  obtain ⟨N_1, eN_1⟩ : ∃ z9 : Nat → Nat, z9 = f_X1_restart r := ⟨_, rfl⟩
  rw [← eN_1] at hP hD
  refine lv_iconst (v := 0) hx hb dX2_readToError_7 (by decide) ?_
  refine lv_istore_n (lv' := [(1, .int 0), (0, .ref (x 0))]) hx hb dX2_readToError_8 rfl hl (by decide) rfl (fun ls hl => ?_)
  have loop_9 : ∀ (kk : Nat) (q : Nat) (r1 : Nat → Nat), N 0 1 - q < kk → zRI r1 → q ≤ N 0 1 → f_X2_readToError r N = f_X2_readToError_9 r N kk q r1 → ∀ (H : Heap) (locs : List Loc), va_P D vwCl (rdW rd r1 ++ (xmW cA x b rd X N)) H → va_D (zfr (rdW rd r ++ (xmW cA x b rd X N))) (rdW rd r1 ++ (xmW cA x b rd X N)) → va_S (zfr (rdW rd r ++ (xmW cA x b rd X N))) s.heap H locs → ∀ (ls : Array Slot), lv_has ls 2 [(0, .ref (x 0)), (1, .int (nI q))] → W p l e (headSpec wsX2_readToError (zrm 3 66)).room s m ([.ref (x 0)] : List Value).toArray below meth c H locs 0 0 (MQ below (zM D (rdW rd r ++ (xmW cA x b rd X N)) (rdW rd ((f_X2_readToError r N).2) ++ (xmW cA x b rd X N)) (some (.int ((f_X2_readToError r N).1)))) ([.ref (x 0)] : List Value).toArray s 0 0 (zfr (rdW rd r ++ (xmW cA x b rd X N)))) (F0 m 9 ls []) := by
    intro kk
    induction kk with
    | zero => intro q r1 h9; exact absurd h9 (Nat.not_lt_zero _)
    | succ kk ih_9 =>
      intro q r1 hm_9 hi0_9 hi1_9 hres_9 H locs hP hD hS ls hl
      refine lv_iload_n hx hb dX2_readToError_9 rfl (lv_at hl 1 rfl) ?_
      refine lv_aload_n hx hb dX2_readToError_10 rfl (lv_at hl 0 rfl) ?_
      refine va_get (D := D) (ci := 2) (v := .int (nI (N 0 1))) (C := RX2) (T := TX2) (N := 9) hx hb hts hi2 hown hK hP 1 rfl rfl 6 (by decide) (hts (.fieldLink RX2 114 "PledgedLoans" "bufferLength" "I") (List.mem_of_getElem? (i := 2) rfl)) (fun _ h9 => h9) rfl dX2_readToError_11 ?_
      refine lv_icmp_ge (tgt := 41) hx hb dX2_readToError_14 (by decide) (fun c_2 => ?_) (fun c_2 => ?_)
      · have c_2 : (N 0 1) ≤ q := (nI_leI (a := (N 0 1)) (b := q) (by omega) (by omega)).mp c_2
        refine lv_aload_n hx hb dX2_readToError_41 rfl (lv_at hl 0 rfl) ?_
        refine va_get (D := D) (ci := 2) (v := .int (nI (N 0 1))) (C := RX2) (T := TX2) (N := 9) hx hb hts hi2 hown hK hP 1 rfl rfl 6 (by decide) (hts (.fieldLink RX2 114 "PledgedLoans" "bufferLength" "I") (List.mem_of_getElem? (i := 2) rfl)) (fun _ h9 => h9) rfl dX2_readToError_42 ?_
        exact z_iretM (w1 := rdW rd r1 ++ (xmW cA x b rd X N)) hx hb hr hlocks dX2_readToError_45 hP hS (by subst eN_1; rw [hres_9]; simp only [f_X2_readToError_9, if_pos c_2]) (by subst eN_1; rw [hres_9]; simp only [f_X2_readToError_9, if_pos c_2])
      · have c_2 : ¬ (N 0 1) ≤ q := fun h9 => c_2 ((nI_leI (a := (N 0 1)) (b := q) (by omega) (by omega)).mpr h9)
        have hb9 := hbs q (by omega)
        refine lv_aload_n hx hb dX2_readToError_17 rfl (lv_at hl 0 rfl) ?_
        refine va_get (D := D) (ci := 2) (v := .ref rd) (C := RX2) (T := TX2) (N := 9) hx hb hts hi2 hown hK hP 1 rfl rfl 7 (by decide) (hts (.fieldLink RX2 34 "PledgedLoans" "reader" "LPledgedLoans$OrderReader;") (List.mem_of_getElem? (i := 1) rfl)) (fun _ h9 => h9) rfl dX2_readToError_18 ?_
        refine lv_aload_n hx hb dX2_readToError_21 rfl (lv_at hl 0 rfl) ?_
        refine va_get (D := D) (ci := 2) (v := .ref (x 4)) (C := RX2) (T := TX2) (N := 9) hx hb hts hi2 hown hK hP 1 rfl rfl 5 (by decide) (hts (.fieldLink RX2 27 "PledgedLoans" "buffer" "[C") (List.mem_of_getElem? (i := 3) rfl)) (fun _ h9 => h9) rfl dX2_readToError_22 ?_
        refine lv_iload_n hx hb dX2_readToError_25 rfl (lv_at hl 1 rfl) ?_
        refine z_cald (j := q) hx hb hK hP 5 2 rfl rfl dX2_readToError_26 (by omega) (by decide) ?_
        refine z_top (y := nI (N 2 q)) rfl ?_
        refine z_M (X := ([] : va_W)) (Z := xmW cA x b rd X N) (va_runV (As := [.int (nI (N 2 q))]) (rest := []) ⟨hx, hb, hml, hown, hts⟩ (zc_X1_take l D cA rd r1 (N 2 q) (by omega) (by first | assumption | omega)) (cwV 1 hts gX2_readToError_X1_take rfl rfl rfl zy_X1_take ⟨Nat.le_of_ble_eq_true rfl, Nat.le_of_ble_eq_true rfl⟩) (z_preV (ci := 1) hK (hP.sub (ws' := rdW rd r1) [0] rfl) (hD.sub (ws' := rdW rd r1) [0] (by decide) rfl) rfl rfl) rfl rfl hl.1 rfl (lv_room (Nat.le_of_ble_eq_true rfl)) dX2_readToError_27 ⟨Nat.zero_le _, Nat.zero_le _⟩) hP hD hS rdW_adr rfl (fun H locs hP9 hD9 hS9 => ?_)
        replace hP : va_P D vwCl (rdW rd ((f_X1_take r1 (N 2 q)).2) ++ (xmW cA x b rd X N)) H := hP9
        replace hD : va_D _ (rdW rd ((f_X1_take r1 (N 2 q)).2) ++ (xmW cA x b rd X N)) := hD9
        replace hS := hS9
        clear hP9 hD9 hS9
        obtain ⟨N_3, eN_3⟩ : ∃ z9 : Nat → Nat, z9 = (f_X1_take r1 (N 2 q)).2 := ⟨_, rfl⟩
        rw [← eN_3] at hP hD
        refine lv_if_ne (tgt := 35) hx hb dX2_readToError_30 (by decide) (fun c_4 => ?_) (fun c_4 => ?_)
        · refine lv_iinc (v := nI (q + 1)) (lv' := [(1, .int (nI (q + 1))), (0, .ref (x 0))]) hx hb dX2_readToError_35 hl (k := 1) rfl (by rw [show (Int32.ofInt 1) = nI 1 from by decide]; exact nI_add q 1) (by decide) rfl (fun ls hl => ?_)
          refine lv_goto (tgt := 9) hx hb dX2_readToError_38 (by decide) ?_
          exact ih_9 (q + 1) N_3 (by omega) (by subst eN_3 eN_1; exact zr_take hi0_9 (hbs _ (by omega))) (by omega) (by subst eN_3 eN_1; rw [hres_9]; simp only [f_X2_readToError_9, if_neg c_2, if_neg c_4]) _ _ hP hD hS ls (lv_sub hl [1, 0] rfl)
        · refine lv_iload_n hx hb dX2_readToError_33 rfl (lv_at hl 1 rfl) ?_
          exact z_iretM (w1 := rdW rd N_3 ++ (xmW cA x b rd X N)) hx hb hr hlocks dX2_readToError_34 hP hS (by subst eN_3 eN_1; rw [hres_9]; simp only [f_X2_readToError_9, if_neg c_2, if_pos c_4]) (by subst eN_3 eN_1; rw [hres_9]; simp only [f_X2_readToError_9, if_neg c_2, if_pos c_4])
  exact loop_9 61 0 N_1 (by omega) (by subst eN_1; exact zr_restart hri) (by omega) (by subst eN_1; first | (simp only [f_X2_readToError]; done) | rfl) _ _ hP hD hS ls (lv_sub hl [1, 0] rfl)

theorem zy_X2_doOrder : yX2_doOrder.cls = RX2 ∧ yX2_doOrder.cls ≠ "java/lang/invoke/MethodHandle" ∧ yX2_doOrder.cls ≠ "java/lang/invoke/VarHandle" ∧ (parseMethodDescriptor yX2_doOrder.desc).map (fun d => d.parameters.length) = some 0 := by decide +kernel
def f_X2_doOrder (r : Nat → Nat) (B : BK) : Int32 × BK :=
  if (r 1) = 43 then
    let M_1 : BK := (f_X0_takeIn B (r 2) (nI (r 4))).2
    if ((f_X0_takeIn B (r 2) (nI (r 4))).1) = (-1) then
      (0, M_1)
    else
      (1, M_1)
  else
  if (r 1) = 45 then
    let M_3 : BK := (f_X0_giveOut B (r 2) (nI (r 4))).2
    if ((f_X0_giveOut B (r 2) (nI (r 4))).1) = 0 then
      (1, M_3)
    else
      (0, M_3)
  else
  if (r 1) = 98 then
    let M_5 : BK := (f_X0_lend B (r 2) (nI (r 4)) (nI (r 5))).2
    if ((f_X0_lend B (r 2) (nI (r 4)) (nI (r 5))).1) = 0 then
      (1, M_5)
    else
      (0, M_5)
  else
  if (r 1) = 112 then
    let M_7 : BK := (f_X0_addPledge B (r 2) (r 3) (nI (r 4))).2
    if ((f_X0_addPledge B (r 2) (r 3) (nI (r 4))).1) = (-1) then
      (0, M_7)
    else
      (1, M_7)
  else
  if (r 1) = 114 then
    let M_9 : BK := (f_X0_takeBack B (r 2) (nI (r 4))).2
    if ((f_X0_takeBack B (r 2) (nI (r 4))).1) = (-1) then
      (0, M_9)
    else
      (1, M_9)
  else
    if (f_X0_canEndWeek B) = 0 then
      (0, B)
    else
      let M_12 : BK := (f_X0_endWeek B).2
      (1, M_12)

theorem zb_X2_doOrder (r : Nat → Nat) (B : BK) : narrow .boolean (.int ((f_X2_doOrder r B).1)) = .int ((f_X2_doOrder r B).1) := by
  unfold f_X2_doOrder; repeat' split
  all_goals (first | rfl | (dsimp only; rfl))
set_option maxHeartbeats 4000000 in
set_option maxRecDepth 100000 in
theorem zc_X2_doOrder (l : Launch) (D : va_G) (cA : Nat → ClassId) (b : Nat → Nat → Nat) (rd : Nat) (r : Nat → Nat) (x : Nat → Nat) (X : BK) (N : NK) (B : BK) (hri : zRI r) (hwk : r 1 = 98 → ¬ r 5 = 0) : Met l yX2_doOrder wsX2_doOrder (zrm 5 114) (zPc D cA [.ref (x 0)] (rdW rd r ++ (xmW cA x b rd X N ++ (bkW (cA 0) (b 0) B)))) (zM D (rdW rd r ++ (xmW cA x b rd X N ++ (bkW (cA 0) (b 0) B))) (rdW rd r ++ (xmW cA x b rd X N ++ (bkW (cA 0) (b 0) ((f_X2_doOrder r B).2)))) (some (.int ((f_X2_doOrder r B).1)))) 0 0 (zfr (rdW rd r ++ (xmW cA x b rd X N ++ (bkW (cA 0) (b 0) B)))) := by
  refine Met.ofW (cc := cX2_doOrder) (maxL := 1) (ret := (some .boolean)) (by decide) rfl ?_
  intro p e s m args below meth c s₁ Bd hml hv
  obtain ⟨rfl, hP, hK, hD0⟩ := hv
  have hx := Bd.exec
  have hb := Bd.bytes
  have hr := Bd.returns
  have hts := atoms_spec (ws := wsX2_doOrder) Bd.pre
  have hown : s.vm.findClass RX2 = some m.cls := findClass_of_methodNamed Bd.named
  have hlocks := Bd.notSynchronized
  have hD := z_Dfr hD0
  have hS : va_S (zfr (rdW rd r ++ (xmW cA x b rd X N ++ (bkW (cA 0) (b 0) B)))) s.heap s.heap [] := va_S.rf
  have hi0 : ∀ w ∈ wsX00, w ∈ wsX2_doOrder := fun w h => List.mem_cons_of_mem _ (List.mem_append_right _ h)
  have hi1 : ∀ w ∈ wsX10, w ∈ wsX2_doOrder := fun w h => List.mem_cons_of_mem _ (List.mem_append_left _ (List.mem_append_right _ h))
  have hi2 : ∀ w ∈ wsX20, w ∈ wsX2_doOrder := fun w h => List.mem_cons_of_mem _ (List.mem_append_left _ (List.mem_append_left _ (List.mem_append_right _ h)))
  have hl := lv_entry ([.ref (x 0)]) (n := 1) (Nat.le_of_ble_eq_true rfl)
  rw [lg_entry_eq]
  generalize (lg_sl ([.ref (x 0)]) ++ List.replicate (1 - (lg_sl ([.ref (x 0)])).length) Slot.unset).toArray = ls at hl ⊢
  have hl : lv_has ls 1 [(0, .ref (x 0))] := hl
  obtain ⟨hr0, hr1, hr2, hr3, hr4, hr5, hr6, hr7⟩ := id hri
  refine lv_aload_n hx hb dX2_doOrder_0 rfl (lv_at hl 0 rfl) ?_
  refine va_get (D := D) (ci := 2) (v := .ref rd) (C := RX2) (T := TX2) (N := 9) hx hb hts hi2 hown hK hP 1 rfl rfl 7 (by decide) (hts (.fieldLink RX2 34 "PledgedLoans" "reader" "LPledgedLoans$OrderReader;") (List.mem_of_getElem? (i := 1) rfl)) (fun _ h9 => h9) rfl dX2_doOrder_1 ?_
  refine va_get (D := D) (ci := 1) (v := .int (nI (r 1))) (C := RX1) (T := TX1) (N := 6) hx hb hts hi1 hown hK hP 0 rfl rfl 1 (by decide) (hts (.fieldLink RX2 232 "PledgedLoans$OrderReader" "kind" "C") (List.mem_of_getElem? (i := 2) rfl)) (fun _ h9 => h9) rfl dX2_doOrder_4 ?_
  by_cases c_1 : (r 1) = 43
  · refine lv_lookup (off := 49) (tgt := 56) hx hb dX2_doOrder_7 (by decide) (by rw [c_1]; decide) (by decide) ?_
    refine lv_aload_n hx hb dX2_doOrder_56 rfl (lv_at hl 0 rfl) ?_
    refine va_get (D := D) (ci := 2) (v := .ref (b 0 0)) (C := RX2) (T := TX2) (N := 9) hx hb hts hi2 hown hK hP 1 rfl rfl 0 (by decide) (hts (.fieldLink RX2 10 "PledgedLoans" "books" "LPledgedLoans$Books;") (List.mem_of_getElem? (i := 3) rfl)) (fun _ h9 => h9) rfl dX2_doOrder_57 ?_
    refine lv_aload_n hx hb dX2_doOrder_60 rfl (lv_at hl 0 rfl) ?_
    refine va_get (D := D) (ci := 2) (v := .ref rd) (C := RX2) (T := TX2) (N := 9) hx hb hts hi2 hown hK hP 1 rfl rfl 7 (by decide) (hts (.fieldLink RX2 34 "PledgedLoans" "reader" "LPledgedLoans$OrderReader;") (List.mem_of_getElem? (i := 1) rfl)) (fun _ h9 => h9) rfl dX2_doOrder_61 ?_
    refine va_get (D := D) (ci := 1) (v := .int (nI (r 2))) (C := RX1) (T := TX1) (N := 6) hx hb hts hi1 hown hK hP 0 rfl rfl 2 (by decide) (hts (.fieldLink RX2 236 "PledgedLoans$OrderReader" "member" "I") (List.mem_of_getElem? (i := 4) rfl)) (fun _ h9 => h9) rfl dX2_doOrder_64 ?_
    refine lv_aload_n hx hb dX2_doOrder_67 rfl (lv_at hl 0 rfl) ?_
    refine va_get (D := D) (ci := 2) (v := .ref rd) (C := RX2) (T := TX2) (N := 9) hx hb hts hi2 hown hK hP 1 rfl rfl 7 (by decide) (hts (.fieldLink RX2 34 "PledgedLoans" "reader" "LPledgedLoans$OrderReader;") (List.mem_of_getElem? (i := 1) rfl)) (fun _ h9 => h9) rfl dX2_doOrder_68 ?_
    refine va_get (D := D) (ci := 1) (v := .int (nI (r 4))) (C := RX1) (T := TX1) (N := 6) hx hb hts hi1 hown hK hP 0 rfl rfl 4 (by decide) (hts (.fieldLink RX2 239 "PledgedLoans$OrderReader" "amount" "I") (List.mem_of_getElem? (i := 5) rfl)) (fun _ h9 => h9) rfl dX2_doOrder_71 ?_
    refine z_M (X := rdW rd r ++ (xmW cA x b rd X N)) (Z := ([] : va_W)) (va_runV (As := [.int (nI (r 2)), .int (nI (r 4))]) (rest := []) ⟨hx, hb, hml, hown, hts⟩ (zc_X0_takeIn l D cA (b 0) B (r 2) (nI (r 4)) (by omega)) (cwV 2 hts gX2_doOrder_X0_takeIn rfl rfl rfl zy_X0_takeIn ⟨Nat.le_of_ble_eq_true rfl, Nat.le_of_ble_eq_true rfl⟩) (z_preV (ci := 0) hK (hP.sub (ws' := bkW (cA 0) (b 0) B) [7, 8, 9, 10, 11, 12, 13, 14, 15] rfl) (hD.sub (ws' := bkW (cA 0) (b 0) B) [7, 8, 9, 10, 11, 12, 13, 14, 15] (by decide) rfl) rfl rfl) rfl rfl hl.1 rfl (lv_room (Nat.le_of_ble_eq_true rfl)) dX2_doOrder_74 ⟨Nat.zero_le _, Nat.zero_le _⟩) hP hD hS bkW_adr rfl (fun H locs hP9 hD9 hS9 => ?_)
    replace hP : va_P D vwCl (rdW rd r ++ (xmW cA x b rd X N ++ (bkW (cA 0) (b 0) ((f_X0_takeIn B (r 2) (nI (r 4))).2)))) H := hP9
    replace hD : va_D _ (rdW rd r ++ (xmW cA x b rd X N ++ (bkW (cA 0) (b 0) ((f_X0_takeIn B (r 2) (nI (r 4))).2)))) := hD9
    replace hS := hS9
    clear hP9 hD9 hS9
    obtain ⟨M_2, eM_2⟩ : ∃ z9 : BK, z9 = (f_X0_takeIn B (r 2) (nI (r 4))).2 := ⟨_, rfl⟩
    rw [← eM_2] at hP hD
    refine lv_iconst (v := (-1)) hx hb dX2_doOrder_77 (by decide) ?_
    refine lv_icmp_eq (tgt := 85) hx hb dX2_doOrder_78 (by decide) (fun c_3 => ?_) (fun c_3 => ?_)
    · refine lv_iconst (v := 0) hx hb dX2_doOrder_85 (by decide) ?_
      exact z_zretM (w1 := rdW rd r ++ (xmW cA x b rd X N ++ (bkW (cA 0) (b 0) M_2))) hx hb hr hlocks dX2_doOrder_86 hP hS rfl (by subst eM_2; simp only [f_X2_doOrder, if_pos c_1, if_pos c_3]) (by subst eM_2; simp only [f_X2_doOrder, if_pos c_1, if_pos c_3])
    · refine lv_iconst (v := 1) hx hb dX2_doOrder_81 (by decide) ?_
      refine lv_goto (tgt := 86) hx hb dX2_doOrder_82 (by decide) ?_
      exact z_zretM (w1 := rdW rd r ++ (xmW cA x b rd X N ++ (bkW (cA 0) (b 0) M_2))) hx hb hr hlocks dX2_doOrder_86 hP hS rfl (by subst eM_2; simp only [f_X2_doOrder, if_pos c_1, if_neg c_3]) (by subst eM_2; simp only [f_X2_doOrder, if_pos c_1, if_neg c_3])
  by_cases c_4 : (r 1) = 45
  · refine lv_lookup (off := 80) (tgt := 87) hx hb dX2_doOrder_7 (by decide) (by rw [c_4]; decide) (by decide) ?_
    refine lv_aload_n hx hb dX2_doOrder_87 rfl (lv_at hl 0 rfl) ?_
    refine va_get (D := D) (ci := 2) (v := .ref (b 0 0)) (C := RX2) (T := TX2) (N := 9) hx hb hts hi2 hown hK hP 1 rfl rfl 0 (by decide) (hts (.fieldLink RX2 10 "PledgedLoans" "books" "LPledgedLoans$Books;") (List.mem_of_getElem? (i := 3) rfl)) (fun _ h9 => h9) rfl dX2_doOrder_88 ?_
    refine lv_aload_n hx hb dX2_doOrder_91 rfl (lv_at hl 0 rfl) ?_
    refine va_get (D := D) (ci := 2) (v := .ref rd) (C := RX2) (T := TX2) (N := 9) hx hb hts hi2 hown hK hP 1 rfl rfl 7 (by decide) (hts (.fieldLink RX2 34 "PledgedLoans" "reader" "LPledgedLoans$OrderReader;") (List.mem_of_getElem? (i := 1) rfl)) (fun _ h9 => h9) rfl dX2_doOrder_92 ?_
    refine va_get (D := D) (ci := 1) (v := .int (nI (r 2))) (C := RX1) (T := TX1) (N := 6) hx hb hts hi1 hown hK hP 0 rfl rfl 2 (by decide) (hts (.fieldLink RX2 236 "PledgedLoans$OrderReader" "member" "I") (List.mem_of_getElem? (i := 4) rfl)) (fun _ h9 => h9) rfl dX2_doOrder_95 ?_
    refine lv_aload_n hx hb dX2_doOrder_98 rfl (lv_at hl 0 rfl) ?_
    refine va_get (D := D) (ci := 2) (v := .ref rd) (C := RX2) (T := TX2) (N := 9) hx hb hts hi2 hown hK hP 1 rfl rfl 7 (by decide) (hts (.fieldLink RX2 34 "PledgedLoans" "reader" "LPledgedLoans$OrderReader;") (List.mem_of_getElem? (i := 1) rfl)) (fun _ h9 => h9) rfl dX2_doOrder_99 ?_
    refine va_get (D := D) (ci := 1) (v := .int (nI (r 4))) (C := RX1) (T := TX1) (N := 6) hx hb hts hi1 hown hK hP 0 rfl rfl 4 (by decide) (hts (.fieldLink RX2 239 "PledgedLoans$OrderReader" "amount" "I") (List.mem_of_getElem? (i := 5) rfl)) (fun _ h9 => h9) rfl dX2_doOrder_102 ?_
    refine z_M (X := rdW rd r ++ (xmW cA x b rd X N)) (Z := ([] : va_W)) (va_runV (As := [.int (nI (r 2)), .int (nI (r 4))]) (rest := []) ⟨hx, hb, hml, hown, hts⟩ (zc_X0_giveOut l D cA (b 0) B (r 2) (nI (r 4)) (by omega)) (cwV 2 hts gX2_doOrder_X0_giveOut rfl rfl rfl zy_X0_giveOut ⟨Nat.le_of_ble_eq_true rfl, Nat.le_of_ble_eq_true rfl⟩) (z_preV (ci := 0) hK (hP.sub (ws' := bkW (cA 0) (b 0) B) [7, 8, 9, 10, 11, 12, 13, 14, 15] rfl) (hD.sub (ws' := bkW (cA 0) (b 0) B) [7, 8, 9, 10, 11, 12, 13, 14, 15] (by decide) rfl) rfl rfl) rfl rfl hl.1 rfl (lv_room (Nat.le_of_ble_eq_true rfl)) dX2_doOrder_105 ⟨Nat.zero_le _, Nat.zero_le _⟩) hP hD hS bkW_adr rfl (fun H locs hP9 hD9 hS9 => ?_)
    replace hP : va_P D vwCl (rdW rd r ++ (xmW cA x b rd X N ++ (bkW (cA 0) (b 0) ((f_X0_giveOut B (r 2) (nI (r 4))).2)))) H := hP9
    replace hD : va_D _ (rdW rd r ++ (xmW cA x b rd X N ++ (bkW (cA 0) (b 0) ((f_X0_giveOut B (r 2) (nI (r 4))).2)))) := hD9
    replace hS := hS9
    clear hP9 hD9 hS9
    obtain ⟨M_5, eM_5⟩ : ∃ z9 : BK, z9 = (f_X0_giveOut B (r 2) (nI (r 4))).2 := ⟨_, rfl⟩
    rw [← eM_5] at hP hD
    refine lv_if_ne (tgt := 115) hx hb dX2_doOrder_108 (by decide) (fun c_6 => ?_) (fun c_6 => ?_)
    · refine lv_iconst (v := 0) hx hb dX2_doOrder_115 (by decide) ?_
      exact z_zretM (w1 := rdW rd r ++ (xmW cA x b rd X N ++ (bkW (cA 0) (b 0) M_5))) hx hb hr hlocks dX2_doOrder_116 hP hS rfl (by subst eM_5; simp only [f_X2_doOrder, if_neg c_1, if_pos c_4, if_neg c_6]) (by subst eM_5; simp only [f_X2_doOrder, if_neg c_1, if_pos c_4, if_neg c_6])
    · refine lv_iconst (v := 1) hx hb dX2_doOrder_111 (by decide) ?_
      refine lv_goto (tgt := 116) hx hb dX2_doOrder_112 (by decide) ?_
      exact z_zretM (w1 := rdW rd r ++ (xmW cA x b rd X N ++ (bkW (cA 0) (b 0) M_5))) hx hb hr hlocks dX2_doOrder_116 hP hS rfl (by subst eM_5; simp only [f_X2_doOrder, if_neg c_1, if_pos c_4, if_pos c_6]) (by subst eM_5; simp only [f_X2_doOrder, if_neg c_1, if_pos c_4, if_pos c_6])
  by_cases c_7 : (r 1) = 98
  · refine lv_lookup (off := 148) (tgt := 155) hx hb dX2_doOrder_7 (by decide) (by rw [c_7]; decide) (by decide) ?_
    refine lv_aload_n hx hb dX2_doOrder_155 rfl (lv_at hl 0 rfl) ?_
    refine va_get (D := D) (ci := 2) (v := .ref (b 0 0)) (C := RX2) (T := TX2) (N := 9) hx hb hts hi2 hown hK hP 1 rfl rfl 0 (by decide) (hts (.fieldLink RX2 10 "PledgedLoans" "books" "LPledgedLoans$Books;") (List.mem_of_getElem? (i := 3) rfl)) (fun _ h9 => h9) rfl dX2_doOrder_156 ?_
    refine lv_aload_n hx hb dX2_doOrder_159 rfl (lv_at hl 0 rfl) ?_
    refine va_get (D := D) (ci := 2) (v := .ref rd) (C := RX2) (T := TX2) (N := 9) hx hb hts hi2 hown hK hP 1 rfl rfl 7 (by decide) (hts (.fieldLink RX2 34 "PledgedLoans" "reader" "LPledgedLoans$OrderReader;") (List.mem_of_getElem? (i := 1) rfl)) (fun _ h9 => h9) rfl dX2_doOrder_160 ?_
    refine va_get (D := D) (ci := 1) (v := .int (nI (r 2))) (C := RX1) (T := TX1) (N := 6) hx hb hts hi1 hown hK hP 0 rfl rfl 2 (by decide) (hts (.fieldLink RX2 236 "PledgedLoans$OrderReader" "member" "I") (List.mem_of_getElem? (i := 4) rfl)) (fun _ h9 => h9) rfl dX2_doOrder_163 ?_
    refine lv_aload_n hx hb dX2_doOrder_166 rfl (lv_at hl 0 rfl) ?_
    refine va_get (D := D) (ci := 2) (v := .ref rd) (C := RX2) (T := TX2) (N := 9) hx hb hts hi2 hown hK hP 1 rfl rfl 7 (by decide) (hts (.fieldLink RX2 34 "PledgedLoans" "reader" "LPledgedLoans$OrderReader;") (List.mem_of_getElem? (i := 1) rfl)) (fun _ h9 => h9) rfl dX2_doOrder_167 ?_
    refine va_get (D := D) (ci := 1) (v := .int (nI (r 4))) (C := RX1) (T := TX1) (N := 6) hx hb hts hi1 hown hK hP 0 rfl rfl 4 (by decide) (hts (.fieldLink RX2 239 "PledgedLoans$OrderReader" "amount" "I") (List.mem_of_getElem? (i := 5) rfl)) (fun _ h9 => h9) rfl dX2_doOrder_170 ?_
    refine lv_aload_n hx hb dX2_doOrder_173 rfl (lv_at hl 0 rfl) ?_
    refine va_get (D := D) (ci := 2) (v := .ref rd) (C := RX2) (T := TX2) (N := 9) hx hb hts hi2 hown hK hP 1 rfl rfl 7 (by decide) (hts (.fieldLink RX2 34 "PledgedLoans" "reader" "LPledgedLoans$OrderReader;") (List.mem_of_getElem? (i := 1) rfl)) (fun _ h9 => h9) rfl dX2_doOrder_174 ?_
    refine va_get (D := D) (ci := 1) (v := .int (nI (r 5))) (C := RX1) (T := TX1) (N := 6) hx hb hts hi1 hown hK hP 0 rfl rfl 5 (by decide) (hts (.fieldLink RX2 245 "PledgedLoans$OrderReader" "weeks" "I") (List.mem_of_getElem? (i := 7) rfl)) (fun _ h9 => h9) rfl dX2_doOrder_177 ?_
    refine z_M (X := rdW rd r ++ (xmW cA x b rd X N)) (Z := ([] : va_W)) (va_runV (As := [.int (nI (r 2)), .int (nI (r 4)), .int (nI (r 5))]) (rest := []) ⟨hx, hb, hml, hown, hts⟩ (zc_X0_lend l D cA (b 0) B (r 2) (nI (r 4)) (nI (r 5)) (by omega) (by exact zq_nn (by omega) (hwk (by assumption)))) (cwV 3 hts gX2_doOrder_X0_lend rfl rfl rfl zy_X0_lend ⟨Nat.le_of_ble_eq_true rfl, Nat.le_of_ble_eq_true rfl⟩) (z_preV (ci := 0) hK (hP.sub (ws' := bkW (cA 0) (b 0) B) [7, 8, 9, 10, 11, 12, 13, 14, 15] rfl) (hD.sub (ws' := bkW (cA 0) (b 0) B) [7, 8, 9, 10, 11, 12, 13, 14, 15] (by decide) rfl) rfl rfl) rfl rfl hl.1 rfl (lv_room (Nat.le_of_ble_eq_true rfl)) dX2_doOrder_180 ⟨Nat.zero_le _, Nat.zero_le _⟩) hP hD hS bkW_adr rfl (fun H locs hP9 hD9 hS9 => ?_)
    replace hP : va_P D vwCl (rdW rd r ++ (xmW cA x b rd X N ++ (bkW (cA 0) (b 0) ((f_X0_lend B (r 2) (nI (r 4)) (nI (r 5))).2)))) H := hP9
    replace hD : va_D _ (rdW rd r ++ (xmW cA x b rd X N ++ (bkW (cA 0) (b 0) ((f_X0_lend B (r 2) (nI (r 4)) (nI (r 5))).2)))) := hD9
    replace hS := hS9
    clear hP9 hD9 hS9
    obtain ⟨M_8, eM_8⟩ : ∃ z9 : BK, z9 = (f_X0_lend B (r 2) (nI (r 4)) (nI (r 5))).2 := ⟨_, rfl⟩
    rw [← eM_8] at hP hD
    refine lv_if_ne (tgt := 190) hx hb dX2_doOrder_183 (by decide) (fun c_9 => ?_) (fun c_9 => ?_)
    · refine lv_iconst (v := 0) hx hb dX2_doOrder_190 (by decide) ?_
      exact z_zretM (w1 := rdW rd r ++ (xmW cA x b rd X N ++ (bkW (cA 0) (b 0) M_8))) hx hb hr hlocks dX2_doOrder_191 hP hS rfl (by subst eM_8; simp only [f_X2_doOrder, if_neg c_1, if_neg c_4, if_pos c_7, if_neg c_9]) (by subst eM_8; simp only [f_X2_doOrder, if_neg c_1, if_neg c_4, if_pos c_7, if_neg c_9])
    · refine lv_iconst (v := 1) hx hb dX2_doOrder_186 (by decide) ?_
      refine lv_goto (tgt := 191) hx hb dX2_doOrder_187 (by decide) ?_
      exact z_zretM (w1 := rdW rd r ++ (xmW cA x b rd X N ++ (bkW (cA 0) (b 0) M_8))) hx hb hr hlocks dX2_doOrder_191 hP hS rfl (by subst eM_8; simp only [f_X2_doOrder, if_neg c_1, if_neg c_4, if_pos c_7, if_pos c_9]) (by subst eM_8; simp only [f_X2_doOrder, if_neg c_1, if_neg c_4, if_pos c_7, if_pos c_9])
  by_cases c_10 : (r 1) = 112
  · refine lv_lookup (off := 110) (tgt := 117) hx hb dX2_doOrder_7 (by decide) (by rw [c_10]; decide) (by decide) ?_
    refine lv_aload_n hx hb dX2_doOrder_117 rfl (lv_at hl 0 rfl) ?_
    refine va_get (D := D) (ci := 2) (v := .ref (b 0 0)) (C := RX2) (T := TX2) (N := 9) hx hb hts hi2 hown hK hP 1 rfl rfl 0 (by decide) (hts (.fieldLink RX2 10 "PledgedLoans" "books" "LPledgedLoans$Books;") (List.mem_of_getElem? (i := 3) rfl)) (fun _ h9 => h9) rfl dX2_doOrder_118 ?_
    refine lv_aload_n hx hb dX2_doOrder_121 rfl (lv_at hl 0 rfl) ?_
    refine va_get (D := D) (ci := 2) (v := .ref rd) (C := RX2) (T := TX2) (N := 9) hx hb hts hi2 hown hK hP 1 rfl rfl 7 (by decide) (hts (.fieldLink RX2 34 "PledgedLoans" "reader" "LPledgedLoans$OrderReader;") (List.mem_of_getElem? (i := 1) rfl)) (fun _ h9 => h9) rfl dX2_doOrder_122 ?_
    refine va_get (D := D) (ci := 1) (v := .int (nI (r 2))) (C := RX1) (T := TX1) (N := 6) hx hb hts hi1 hown hK hP 0 rfl rfl 2 (by decide) (hts (.fieldLink RX2 236 "PledgedLoans$OrderReader" "member" "I") (List.mem_of_getElem? (i := 4) rfl)) (fun _ h9 => h9) rfl dX2_doOrder_125 ?_
    refine lv_aload_n hx hb dX2_doOrder_128 rfl (lv_at hl 0 rfl) ?_
    refine va_get (D := D) (ci := 2) (v := .ref rd) (C := RX2) (T := TX2) (N := 9) hx hb hts hi2 hown hK hP 1 rfl rfl 7 (by decide) (hts (.fieldLink RX2 34 "PledgedLoans" "reader" "LPledgedLoans$OrderReader;") (List.mem_of_getElem? (i := 1) rfl)) (fun _ h9 => h9) rfl dX2_doOrder_129 ?_
    refine va_get (D := D) (ci := 1) (v := .int (nI (r 3))) (C := RX1) (T := TX1) (N := 6) hx hb hts hi1 hown hK hP 0 rfl rfl 3 (by decide) (hts (.fieldLink RX2 242 "PledgedLoans$OrderReader" "borrower" "I") (List.mem_of_getElem? (i := 6) rfl)) (fun _ h9 => h9) rfl dX2_doOrder_132 ?_
    refine lv_aload_n hx hb dX2_doOrder_135 rfl (lv_at hl 0 rfl) ?_
    refine va_get (D := D) (ci := 2) (v := .ref rd) (C := RX2) (T := TX2) (N := 9) hx hb hts hi2 hown hK hP 1 rfl rfl 7 (by decide) (hts (.fieldLink RX2 34 "PledgedLoans" "reader" "LPledgedLoans$OrderReader;") (List.mem_of_getElem? (i := 1) rfl)) (fun _ h9 => h9) rfl dX2_doOrder_136 ?_
    refine va_get (D := D) (ci := 1) (v := .int (nI (r 4))) (C := RX1) (T := TX1) (N := 6) hx hb hts hi1 hown hK hP 0 rfl rfl 4 (by decide) (hts (.fieldLink RX2 239 "PledgedLoans$OrderReader" "amount" "I") (List.mem_of_getElem? (i := 5) rfl)) (fun _ h9 => h9) rfl dX2_doOrder_139 ?_
    refine z_M (X := rdW rd r ++ (xmW cA x b rd X N)) (Z := ([] : va_W)) (va_runV (As := [.int (nI (r 2)), .int (nI (r 3)), .int (nI (r 4))]) (rest := []) ⟨hx, hb, hml, hown, hts⟩ (zc_X0_addPledge l D cA (b 0) B (r 2) (r 3) (nI (r 4)) (by omega) (by omega)) (cwV 3 hts gX2_doOrder_X0_addPledge rfl rfl rfl zy_X0_addPledge ⟨Nat.le_of_ble_eq_true rfl, Nat.le_of_ble_eq_true rfl⟩) (z_preV (ci := 0) hK (hP.sub (ws' := bkW (cA 0) (b 0) B) [7, 8, 9, 10, 11, 12, 13, 14, 15] rfl) (hD.sub (ws' := bkW (cA 0) (b 0) B) [7, 8, 9, 10, 11, 12, 13, 14, 15] (by decide) rfl) rfl rfl) rfl rfl hl.1 rfl (lv_room (Nat.le_of_ble_eq_true rfl)) dX2_doOrder_142 ⟨Nat.zero_le _, Nat.zero_le _⟩) hP hD hS bkW_adr rfl (fun H locs hP9 hD9 hS9 => ?_)
    replace hP : va_P D vwCl (rdW rd r ++ (xmW cA x b rd X N ++ (bkW (cA 0) (b 0) ((f_X0_addPledge B (r 2) (r 3) (nI (r 4))).2)))) H := hP9
    replace hD : va_D _ (rdW rd r ++ (xmW cA x b rd X N ++ (bkW (cA 0) (b 0) ((f_X0_addPledge B (r 2) (r 3) (nI (r 4))).2)))) := hD9
    replace hS := hS9
    clear hP9 hD9 hS9
    obtain ⟨M_11, eM_11⟩ : ∃ z9 : BK, z9 = (f_X0_addPledge B (r 2) (r 3) (nI (r 4))).2 := ⟨_, rfl⟩
    rw [← eM_11] at hP hD
    refine lv_iconst (v := (-1)) hx hb dX2_doOrder_145 (by decide) ?_
    refine lv_icmp_eq (tgt := 153) hx hb dX2_doOrder_146 (by decide) (fun c_12 => ?_) (fun c_12 => ?_)
    · refine lv_iconst (v := 0) hx hb dX2_doOrder_153 (by decide) ?_
      exact z_zretM (w1 := rdW rd r ++ (xmW cA x b rd X N ++ (bkW (cA 0) (b 0) M_11))) hx hb hr hlocks dX2_doOrder_154 hP hS rfl (by subst eM_11; simp only [f_X2_doOrder, if_neg c_1, if_neg c_4, if_neg c_7, if_pos c_10, if_pos c_12]) (by subst eM_11; simp only [f_X2_doOrder, if_neg c_1, if_neg c_4, if_neg c_7, if_pos c_10, if_pos c_12])
    · refine lv_iconst (v := 1) hx hb dX2_doOrder_149 (by decide) ?_
      refine lv_goto (tgt := 154) hx hb dX2_doOrder_150 (by decide) ?_
      exact z_zretM (w1 := rdW rd r ++ (xmW cA x b rd X N ++ (bkW (cA 0) (b 0) M_11))) hx hb hr hlocks dX2_doOrder_154 hP hS rfl (by subst eM_11; simp only [f_X2_doOrder, if_neg c_1, if_neg c_4, if_neg c_7, if_pos c_10, if_neg c_12]) (by subst eM_11; simp only [f_X2_doOrder, if_neg c_1, if_neg c_4, if_neg c_7, if_pos c_10, if_neg c_12])
  by_cases c_13 : (r 1) = 114
  · refine lv_lookup (off := 185) (tgt := 192) hx hb dX2_doOrder_7 (by decide) (by rw [c_13]; decide) (by decide) ?_
    refine lv_aload_n hx hb dX2_doOrder_192 rfl (lv_at hl 0 rfl) ?_
    refine va_get (D := D) (ci := 2) (v := .ref (b 0 0)) (C := RX2) (T := TX2) (N := 9) hx hb hts hi2 hown hK hP 1 rfl rfl 0 (by decide) (hts (.fieldLink RX2 10 "PledgedLoans" "books" "LPledgedLoans$Books;") (List.mem_of_getElem? (i := 3) rfl)) (fun _ h9 => h9) rfl dX2_doOrder_193 ?_
    refine lv_aload_n hx hb dX2_doOrder_196 rfl (lv_at hl 0 rfl) ?_
    refine va_get (D := D) (ci := 2) (v := .ref rd) (C := RX2) (T := TX2) (N := 9) hx hb hts hi2 hown hK hP 1 rfl rfl 7 (by decide) (hts (.fieldLink RX2 34 "PledgedLoans" "reader" "LPledgedLoans$OrderReader;") (List.mem_of_getElem? (i := 1) rfl)) (fun _ h9 => h9) rfl dX2_doOrder_197 ?_
    refine va_get (D := D) (ci := 1) (v := .int (nI (r 2))) (C := RX1) (T := TX1) (N := 6) hx hb hts hi1 hown hK hP 0 rfl rfl 2 (by decide) (hts (.fieldLink RX2 236 "PledgedLoans$OrderReader" "member" "I") (List.mem_of_getElem? (i := 4) rfl)) (fun _ h9 => h9) rfl dX2_doOrder_200 ?_
    refine lv_aload_n hx hb dX2_doOrder_203 rfl (lv_at hl 0 rfl) ?_
    refine va_get (D := D) (ci := 2) (v := .ref rd) (C := RX2) (T := TX2) (N := 9) hx hb hts hi2 hown hK hP 1 rfl rfl 7 (by decide) (hts (.fieldLink RX2 34 "PledgedLoans" "reader" "LPledgedLoans$OrderReader;") (List.mem_of_getElem? (i := 1) rfl)) (fun _ h9 => h9) rfl dX2_doOrder_204 ?_
    refine va_get (D := D) (ci := 1) (v := .int (nI (r 4))) (C := RX1) (T := TX1) (N := 6) hx hb hts hi1 hown hK hP 0 rfl rfl 4 (by decide) (hts (.fieldLink RX2 239 "PledgedLoans$OrderReader" "amount" "I") (List.mem_of_getElem? (i := 5) rfl)) (fun _ h9 => h9) rfl dX2_doOrder_207 ?_
    refine z_M (X := rdW rd r ++ (xmW cA x b rd X N)) (Z := ([] : va_W)) (va_runV (As := [.int (nI (r 2)), .int (nI (r 4))]) (rest := []) ⟨hx, hb, hml, hown, hts⟩ (zc_X0_takeBack l D cA (b 0) B (r 2) (nI (r 4)) (by omega)) (cwV 2 hts gX2_doOrder_X0_takeBack rfl rfl rfl zy_X0_takeBack ⟨Nat.le_of_ble_eq_true rfl, Nat.le_of_ble_eq_true rfl⟩) (z_preV (ci := 0) hK (hP.sub (ws' := bkW (cA 0) (b 0) B) [7, 8, 9, 10, 11, 12, 13, 14, 15] rfl) (hD.sub (ws' := bkW (cA 0) (b 0) B) [7, 8, 9, 10, 11, 12, 13, 14, 15] (by decide) rfl) rfl rfl) rfl rfl hl.1 rfl (lv_room (Nat.le_of_ble_eq_true rfl)) dX2_doOrder_210 ⟨Nat.zero_le _, Nat.zero_le _⟩) hP hD hS bkW_adr rfl (fun H locs hP9 hD9 hS9 => ?_)
    replace hP : va_P D vwCl (rdW rd r ++ (xmW cA x b rd X N ++ (bkW (cA 0) (b 0) ((f_X0_takeBack B (r 2) (nI (r 4))).2)))) H := hP9
    replace hD : va_D _ (rdW rd r ++ (xmW cA x b rd X N ++ (bkW (cA 0) (b 0) ((f_X0_takeBack B (r 2) (nI (r 4))).2)))) := hD9
    replace hS := hS9
    clear hP9 hD9 hS9
    obtain ⟨M_14, eM_14⟩ : ∃ z9 : BK, z9 = (f_X0_takeBack B (r 2) (nI (r 4))).2 := ⟨_, rfl⟩
    rw [← eM_14] at hP hD
    refine lv_iconst (v := (-1)) hx hb dX2_doOrder_213 (by decide) ?_
    refine lv_icmp_eq (tgt := 221) hx hb dX2_doOrder_214 (by decide) (fun c_15 => ?_) (fun c_15 => ?_)
    · refine lv_iconst (v := 0) hx hb dX2_doOrder_221 (by decide) ?_
      exact z_zretM (w1 := rdW rd r ++ (xmW cA x b rd X N ++ (bkW (cA 0) (b 0) M_14))) hx hb hr hlocks dX2_doOrder_222 hP hS rfl (by subst eM_14; simp only [f_X2_doOrder, if_neg c_1, if_neg c_4, if_neg c_7, if_neg c_10, if_pos c_13, if_pos c_15]) (by subst eM_14; simp only [f_X2_doOrder, if_neg c_1, if_neg c_4, if_neg c_7, if_neg c_10, if_pos c_13, if_pos c_15])
    · refine lv_iconst (v := 1) hx hb dX2_doOrder_217 (by decide) ?_
      refine lv_goto (tgt := 222) hx hb dX2_doOrder_218 (by decide) ?_
      exact z_zretM (w1 := rdW rd r ++ (xmW cA x b rd X N ++ (bkW (cA 0) (b 0) M_14))) hx hb hr hlocks dX2_doOrder_222 hP hS rfl (by subst eM_14; simp only [f_X2_doOrder, if_neg c_1, if_neg c_4, if_neg c_7, if_neg c_10, if_pos c_13, if_neg c_15]) (by subst eM_14; simp only [f_X2_doOrder, if_neg c_1, if_neg c_4, if_neg c_7, if_neg c_10, if_pos c_13, if_neg c_15])
  refine lv_lookup (off := 216) (tgt := 223) hx hb dX2_doOrder_7 (by decide) (by rw [lv_osw (fun h8 => c_1 ((nI_eq (by omega) (by omega)).mp h8)) (by decide), lv_osw (fun h8 => c_4 ((nI_eq (by omega) (by omega)).mp h8)) (by decide), lv_osw (fun h8 => c_7 ((nI_eq (by omega) (by omega)).mp h8)) (by decide), lv_osw (fun h8 => c_10 ((nI_eq (by omega) (by omega)).mp h8)) (by decide), lv_osw (fun h8 => c_13 ((nI_eq (by omega) (by omega)).mp h8)) (by decide)]; rfl) (by decide) ?_
  refine lv_aload_n hx hb dX2_doOrder_223 rfl (lv_at hl 0 rfl) ?_
  refine va_get (D := D) (ci := 2) (v := .ref (b 0 0)) (C := RX2) (T := TX2) (N := 9) hx hb hts hi2 hown hK hP 1 rfl rfl 0 (by decide) (hts (.fieldLink RX2 10 "PledgedLoans" "books" "LPledgedLoans$Books;") (List.mem_of_getElem? (i := 3) rfl)) (fun _ h9 => h9) rfl dX2_doOrder_224 ?_
  refine z_E (va_runV (As := []) (rest := []) ⟨hx, hb, hml, hown, hts⟩ (zc_X0_canEndWeek l D cA (b 0) B) (cwV 0 hts gX2_doOrder_X0_canEndWeek rfl rfl rfl zy_X0_canEndWeek ⟨Nat.le_of_ble_eq_true rfl, Nat.le_of_ble_eq_true rfl⟩) (z_preV (ci := 0) hK (hP.sub (ws' := bkW (cA 0) (b 0) B) [7, 8, 9, 10, 11, 12, 13, 14, 15] rfl) (hD.sub (ws' := bkW (cA 0) (b 0) B) [7, 8, 9, 10, 11, 12, 13, 14, 15] (by decide) rfl) rfl rfl) rfl rfl hl.1 rfl (lv_room (Nat.le_of_ble_eq_true rfl)) dX2_doOrder_227 ⟨Nat.zero_le _, Nat.zero_le _⟩) rfl ?_
  refine lv_if_ne (tgt := 235) hx hb dX2_doOrder_230 (by decide) (fun c_16 => ?_) (fun c_16 => ?_)
  · refine lv_aload_n hx hb dX2_doOrder_235 rfl (lv_at hl 0 rfl) ?_
    refine va_get (D := D) (ci := 2) (v := .ref (b 0 0)) (C := RX2) (T := TX2) (N := 9) hx hb hts hi2 hown hK hP 1 rfl rfl 0 (by decide) (hts (.fieldLink RX2 10 "PledgedLoans" "books" "LPledgedLoans$Books;") (List.mem_of_getElem? (i := 3) rfl)) (fun _ h9 => h9) rfl dX2_doOrder_236 ?_
    refine z_M (X := rdW rd r ++ (xmW cA x b rd X N)) (Z := ([] : va_W)) (va_runV (As := []) (rest := []) ⟨hx, hb, hml, hown, hts⟩ (zc_X0_endWeek l D cA (b 0) B) (cwV 0 hts gX2_doOrder_X0_endWeek rfl rfl rfl zy_X0_endWeek ⟨Nat.le_of_ble_eq_true rfl, Nat.le_of_ble_eq_true rfl⟩) (z_preV (ci := 0) hK (hP.sub (ws' := bkW (cA 0) (b 0) B) [7, 8, 9, 10, 11, 12, 13, 14, 15] rfl) (hD.sub (ws' := bkW (cA 0) (b 0) B) [7, 8, 9, 10, 11, 12, 13, 14, 15] (by decide) rfl) rfl rfl) rfl rfl hl.1 rfl (lv_room (Nat.le_of_ble_eq_true rfl)) dX2_doOrder_239 ⟨Nat.zero_le _, Nat.zero_le _⟩) hP hD hS bkW_adr rfl (fun H locs hP9 hD9 hS9 => ?_)
    replace hP : va_P D vwCl (rdW rd r ++ (xmW cA x b rd X N ++ (bkW (cA 0) (b 0) ((f_X0_endWeek B).2)))) H := hP9
    replace hD : va_D _ (rdW rd r ++ (xmW cA x b rd X N ++ (bkW (cA 0) (b 0) ((f_X0_endWeek B).2)))) := hD9
    replace hS := hS9
    clear hP9 hD9 hS9
    obtain ⟨M_17, eM_17⟩ : ∃ z9 : BK, z9 = (f_X0_endWeek B).2 := ⟨_, rfl⟩
    rw [← eM_17] at hP hD
    refine lv_pop hx hb dX2_doOrder_242 rfl ?_
    refine lv_iconst (v := 1) hx hb dX2_doOrder_243 (by decide) ?_
    exact z_zretM (w1 := rdW rd r ++ (xmW cA x b rd X N ++ (bkW (cA 0) (b 0) M_17))) hx hb hr hlocks dX2_doOrder_244 hP hS rfl (by subst eM_17; simp only [f_X2_doOrder, if_neg c_1, if_neg c_4, if_neg c_7, if_neg c_10, if_neg c_13, if_neg c_16]) (by subst eM_17; simp only [f_X2_doOrder, if_neg c_1, if_neg c_4, if_neg c_7, if_neg c_10, if_neg c_13, if_neg c_16])
  · refine lv_iconst (v := 0) hx hb dX2_doOrder_233 (by decide) ?_
    exact z_zretM (w1 := rdW rd r ++ (xmW cA x b rd X N ++ (bkW (cA 0) (b 0) B))) hx hb hr hlocks dX2_doOrder_234 hP hS rfl (by simp only [f_X2_doOrder, if_neg c_1, if_neg c_4, if_neg c_7, if_neg c_10, if_neg c_13, if_pos c_16]) (by simp only [f_X2_doOrder, if_neg c_1, if_neg c_4, if_neg c_7, if_neg c_10, if_neg c_13, if_pos c_16])

theorem zy_X2_doOrders : yX2_doOrders.cls = RX2 ∧ yX2_doOrders.cls ≠ "java/lang/invoke/MethodHandle" ∧ yX2_doOrders.cls ≠ "java/lang/invoke/VarHandle" ∧ (parseMethodDescriptor yX2_doOrders.desc).map (fun d => d.parameters.length) = some 0 := by decide +kernel
def f_X2_doOrders_11 (r : Nat → Nat) (N : NK) (B : BK) : Nat → Nat → Nat → (Nat → Nat) → BK → Int32 × (Nat → Nat) × BK
  | 0, d, q, r1, B1 => (0, r1, B1)
  | k + 1, d, q, r1, B1 =>
    if (N 0 1) ≤ q then
      let M_3 : BK := (f_X2_doOrder r1 B1).2
      if ((f_X2_doOrder r1 B1).1) = 0 then
        (nI d, r1, M_3)
      else
        (nI (d + 1), r1, M_3)
    else
      if (N 2 q) = 59 then
        let M_7 : BK := (f_X2_doOrder r1 B1).2
        if ((f_X2_doOrder r1 B1).1) = 0 then
          (nI d, r1, M_7)
        else
          let N_9 : Nat → Nat := (f_X1_take r1 (N 2 q)).2
          f_X2_doOrders_11 r N B k (d + 1) (q + 1) N_9 M_7
      else
        let N_6 : Nat → Nat := (f_X1_take r1 (N 2 q)).2
        f_X2_doOrders_11 r N B k d (q + 1) N_6 B1
def f_X2_doOrders (r : Nat → Nat) (N : NK) (B : BK) : Int32 × (Nat → Nat) × BK :=
  let N_1 : Nat → Nat := f_X1_restart r
  f_X2_doOrders_11 r N B 61 0 0 N_1 B

/-- the reader's state when the first i signs are taken -/
def zrs (N : NK) (r : Nat → Nat) : Nat → Nat → Nat
  | 0 => f_X1_restart r
  | i + 1 => (f_X1_take (zrs N r i) (N 2 i)).2
theorem zrs_RI {N : NK} {r : Nat → Nat} (h : zRI r) (hb : ∀ i, i < N 0 1 → N 2 i < 128) : ∀ i, i ≤ N 0 1 → zRI (zrs N r i) := by
  intro i
  induction i with
  | zero => intro _; exact zr_restart h
  | succ i ih => intro hi; exact zr_take (ih (by omega)) (hb i (by omega))
/-- all signs are taken, and the text may end -/
def zall (N : NK) (r : Nat → Nat) : Prop := (∀ i, i < N 0 1 → ¬ (f_X1_take (zrs N r i) (N 2 i)).1 = 0) ∧ ¬ f_X1_isWhole (zrs N r (N 0 1)) = 0
theorem zall_end {N : NK} {r : Nat → Nat} (h : zall N r) (hr : zRI r) (hb : ∀ i, i < N 0 1 → N 2 i < 128) {q : Nat} (hq : q < N 0 1) (e : N 2 q = 59) : (zrs N r q) 1 = 98 → ¬ (zrs N r q) 5 = 0 := by
  refine zr_whole (zrs_RI hr hb q (by omega)) ?_
  intro hw
  apply h.1 q hq
  unfold f_X1_take f_X1_takeEnd
  rw [if_pos e, if_pos hw]
theorem zall_last {N : NK} {r : Nat → Nat} (h : zall N r) (hr : zRI r) (hb : ∀ i, i < N 0 1 → N 2 i < 128) : (zrs N r (N 0 1)) 1 = 98 → ¬ (zrs N r (N 0 1)) 5 = 0 := zr_whole (zrs_RI hr hb _ (Nat.le_refl _)) h.2

set_option maxHeartbeats 4000000 in
set_option maxRecDepth 100000 in
theorem zc_X2_doOrders (l : Launch) (D : va_G) (cA : Nat → ClassId) (b : Nat → Nat → Nat) (rd : Nat) (r : Nat → Nat) (x : Nat → Nat) (X : BK) (N : NK) (B : BK) (hbl : N 0 1 ≤ 60) (hbs : ∀ i, i < N 0 1 → N 2 i < 128) (hri : zRI r) (hall : zall N r) : Met l yX2_doOrders wsX2_doOrders (zrm 6 134) (zPc D cA [.ref (x 0)] (rdW rd r ++ (xmW cA x b rd X N ++ (bkW (cA 0) (b 0) B)))) (zM D (rdW rd r ++ (xmW cA x b rd X N ++ (bkW (cA 0) (b 0) B))) (rdW rd ((f_X2_doOrders r N B).2.1) ++ (xmW cA x b rd X N ++ (bkW (cA 0) (b 0) ((f_X2_doOrders r N B).2.2)))) (some (.int ((f_X2_doOrders r N B).1)))) 0 0 (zfr (rdW rd r ++ (xmW cA x b rd X N ++ (bkW (cA 0) (b 0) B)))) := by
  refine Met.ofW (cc := cX2_doOrders) (maxL := 3) (ret := (some .int)) (by decide) rfl ?_
  intro p e s m args below meth c s₁ Bd hml hv
  obtain ⟨rfl, hP, hK, hD0⟩ := hv
  have hx := Bd.exec
  have hb := Bd.bytes
  have hr := Bd.returns
  have hts := atoms_spec (ws := wsX2_doOrders) Bd.pre
  have hown : s.vm.findClass RX2 = some m.cls := findClass_of_methodNamed Bd.named
  have hlocks := Bd.notSynchronized
  have hD := z_Dfr hD0
  have hS : va_S (zfr (rdW rd r ++ (xmW cA x b rd X N ++ (bkW (cA 0) (b 0) B)))) s.heap s.heap [] := va_S.rf
  have hi0 : ∀ w ∈ wsX00, w ∈ wsX2_doOrders := fun w h => List.mem_cons_of_mem _ (List.mem_append_right _ h)
  have hi1 : ∀ w ∈ wsX10, w ∈ wsX2_doOrders := fun w h => List.mem_cons_of_mem _ (List.mem_append_left _ (List.mem_append_right _ h))
  have hi2 : ∀ w ∈ wsX20, w ∈ wsX2_doOrders := fun w h => List.mem_cons_of_mem _ (List.mem_append_left _ (List.mem_append_left _ (List.mem_append_right _ h)))
  have hl := lv_entry ([.ref (x 0)]) (n := 3) (Nat.le_of_ble_eq_true rfl)
  rw [lg_entry_eq]
  generalize (lg_sl ([.ref (x 0)]) ++ List.replicate (3 - (lg_sl ([.ref (x 0)])).length) Slot.unset).toArray = ls at hl ⊢
  have hl : lv_has ls 3 [(0, .ref (x 0))] := hl
  refine lv_iconst (v := 0) hx hb dX2_doOrders_0 (by decide) ?_
  refine lv_istore_n (lv' := [(1, .int 0), (0, .ref (x 0))]) hx hb dX2_doOrders_1 rfl hl (by decide) rfl (fun ls hl => ?_)
  refine lv_aload_n hx hb dX2_doOrders_2 rfl (lv_at hl 1 rfl) ?_
  refine va_get (D := D) (ci := 2) (v := .ref rd) (C := RX2) (T := TX2) (N := 9) hx hb hts hi2 hown hK hP 1 rfl rfl 7 (by decide) (hts (.fieldLink RX2 34 "PledgedLoans" "reader" "LPledgedLoans$OrderReader;") (List.mem_of_getElem? (i := 1) rfl)) (fun _ h9 => h9) rfl dX2_doOrders_3 ?_
  refine z_M (X := ([] : va_W)) (Z := xmW cA x b rd X N ++ (bkW (cA 0) (b 0) B)) (va_runV (As := []) (rest := []) ⟨hx, hb, hml, hown, hts⟩ (zc_X1_restart l D cA rd r) (cwV 0 hts gX2_doOrders_X1_restart rfl rfl rfl zy_X1_restart ⟨Nat.le_of_ble_eq_true rfl, Nat.le_of_ble_eq_true rfl⟩) (z_preV (ci := 1) hK (hP.sub (ws' := rdW rd r) [0] rfl) (hD.sub (ws' := rdW rd r) [0] (by decide) rfl) rfl rfl) rfl rfl hl.1 rfl (lv_room (Nat.le_of_ble_eq_true rfl)) dX2_doOrders_6 ⟨Nat.zero_le _, Nat.zero_le _⟩) hP hD hS rdW_adr rfl (fun H locs hP9 hD9 hS9 => ?_)
  replace hP : va_P D vwCl (rdW rd (f_X1_restart r) ++ (xmW cA x b rd X N ++ (bkW (cA 0) (b 0) B))) H := hP9
  replace hD : va_D _ (rdW rd (f_X1_restart r) ++ (xmW cA x b rd X N ++ (bkW (cA 0) (b 0) B))) := hD9
  replace hS := hS9
  clear hP9 hD9 hS9
  obtain ⟨N_1, eN_1⟩ : ∃ z9 : Nat → Nat, z9 = f_X1_restart r := ⟨_, rfl⟩
  rw [← eN_1] at hP hD
  refine lv_iconst (v := 0) hx hb dX2_doOrders_9 (by decide) ?_
  refine lv_istore_n (lv' := [(2, .int 0), (1, .int 0), (0, .ref (x 0))]) hx hb dX2_doOrders_10 rfl hl (by decide) rfl (fun ls hl => ?_)
  have loop_11 : ∀ (kk : Nat) (d : Nat) (q : Nat) (r1 : Nat → Nat) (B1 : BK), N 0 1 - q < kk → r1 = zrs N r q → q ≤ N 0 1 → f_X2_doOrders r N B = f_X2_doOrders_11 r N B kk d q r1 B1 → ∀ (H : Heap) (locs : List Loc), va_P D vwCl (rdW rd r1 ++ (xmW cA x b rd X N ++ (bkW (cA 0) (b 0) B1))) H → va_D (zfr (rdW rd r ++ (xmW cA x b rd X N ++ (bkW (cA 0) (b 0) B)))) (rdW rd r1 ++ (xmW cA x b rd X N ++ (bkW (cA 0) (b 0) B1))) → va_S (zfr (rdW rd r ++ (xmW cA x b rd X N ++ (bkW (cA 0) (b 0) B)))) s.heap H locs → ∀ (ls : Array Slot), lv_has ls 3 [(0, .ref (x 0)), (1, .int (nI d)), (2, .int (nI q))] → W p l e (headSpec wsX2_doOrders (zrm 6 134)).room s m ([.ref (x 0)] : List Value).toArray below meth c H locs 0 0 (MQ below (zM D (rdW rd r ++ (xmW cA x b rd X N ++ (bkW (cA 0) (b 0) B))) (rdW rd ((f_X2_doOrders r N B).2.1) ++ (xmW cA x b rd X N ++ (bkW (cA 0) (b 0) ((f_X2_doOrders r N B).2.2)))) (some (.int ((f_X2_doOrders r N B).1)))) ([.ref (x 0)] : List Value).toArray s 0 0 (zfr (rdW rd r ++ (xmW cA x b rd X N ++ (bkW (cA 0) (b 0) B))))) (F0 m 11 ls []) := by
    intro kk
    induction kk with
    | zero => intro d q r1 B1 h9; exact absurd h9 (Nat.not_lt_zero _)
    | succ kk ih_11 =>
      intro d q r1 B1 hm_11 hi0_11 hi1_11 hres_11 H locs hP hD hS ls hl
      have hri1 : zRI r1 := by rw [hi0_11]; exact zrs_RI hri hbs q hi1_11
      refine lv_iload_n hx hb dX2_doOrders_11 rfl (lv_at hl 2 rfl) ?_
      refine lv_aload_n hx hb dX2_doOrders_12 rfl (lv_at hl 0 rfl) ?_
      refine va_get (D := D) (ci := 2) (v := .int (nI (N 0 1))) (C := RX2) (T := TX2) (N := 9) hx hb hts hi2 hown hK hP 1 rfl rfl 6 (by decide) (hts (.fieldLink RX2 114 "PledgedLoans" "bufferLength" "I") (List.mem_of_getElem? (i := 2) rfl)) (fun _ h9 => h9) rfl dX2_doOrders_13 ?_
      refine lv_icmp_ge (tgt := 62) hx hb dX2_doOrders_16 (by decide) (fun c_2 => ?_) (fun c_2 => ?_)
      · have c_2 : (N 0 1) ≤ q := (nI_leI (a := (N 0 1)) (b := q) (by omega) (by omega)).mp c_2
        refine lv_aload_n hx hb dX2_doOrders_62 rfl (lv_at hl 0 rfl) ?_
        refine z_M (X := ([] : va_W)) (Z := ([] : va_W)) (va_runV (As := []) (rest := []) ⟨hx, hb, hml, hown, hts⟩ (zc_X2_doOrder l D cA b rd r1 x X N B1 (by exact hri1) (by rw [hi0_11, (show q = N 0 1 from (by omega))]; exact zall_last hall hri hbs)) (cwV 0 hts gX2_doOrders_X2_doOrder rfl rfl rfl zy_X2_doOrder ⟨Nat.le_of_ble_eq_true rfl, Nat.le_of_ble_eq_true rfl⟩) (z_preVq (ci := 2) (q0 := 1) hK hP hD rfl rfl) rfl rfl hl.1 rfl (lv_room (Nat.le_of_ble_eq_true rfl)) dX2_doOrders_63 ⟨Nat.zero_le _, Nat.zero_le _⟩) hP hD hS (z_adr2 rdW_adr (z_adr2 xmW_adr bkW_adr)) rfl (fun H locs hP9 hD9 hS9 => ?_)
        replace hP : va_P D vwCl (rdW rd r1 ++ (xmW cA x b rd X N ++ (bkW (cA 0) (b 0) ((f_X2_doOrder r1 B1).2)))) H := hP9
        replace hD : va_D _ (rdW rd r1 ++ (xmW cA x b rd X N ++ (bkW (cA 0) (b 0) ((f_X2_doOrder r1 B1).2)))) := hD9
        replace hS := hS9
        clear hP9 hD9 hS9
        obtain ⟨M_3, eM_3⟩ : ∃ z9 : BK, z9 = (f_X2_doOrder r1 B1).2 := ⟨_, rfl⟩
        rw [← eM_3] at hP hD
        refine lv_if_eq (tgt := 75) hx hb dX2_doOrders_66 (by decide) (fun c_4 => ?_) (fun c_4 => ?_)
        · refine lv_iload_n hx hb dX2_doOrders_75 rfl (lv_at hl 1 rfl) ?_
          exact z_iretM (w1 := rdW rd r1 ++ (xmW cA x b rd X N ++ (bkW (cA 0) (b 0) M_3))) hx hb hr hlocks dX2_doOrders_76 hP hS (by subst eM_3 eN_1; rw [hres_11]; simp only [f_X2_doOrders_11, if_pos c_2, if_pos c_4]) (by subst eM_3 eN_1; rw [hres_11]; simp only [f_X2_doOrders_11, if_pos c_2, if_pos c_4])
        · refine lv_iload_n hx hb dX2_doOrders_69 rfl (lv_at hl 1 rfl) ?_
          refine lv_iconst (v := 1) hx hb dX2_doOrders_70 (by decide) ?_
          refine lv_iadd hx hb dX2_doOrders_71 ?_
          refine z_top (nI_add d 1) ?_
          refine lv_goto (tgt := 76) hx hb dX2_doOrders_72 (by decide) ?_
          exact z_iretM (w1 := rdW rd r1 ++ (xmW cA x b rd X N ++ (bkW (cA 0) (b 0) M_3))) hx hb hr hlocks dX2_doOrders_76 hP hS (by subst eM_3 eN_1; rw [hres_11]; simp only [f_X2_doOrders_11, if_pos c_2, if_neg c_4]) (by subst eM_3 eN_1; rw [hres_11]; simp only [f_X2_doOrders_11, if_pos c_2, if_neg c_4])
      · have c_2 : ¬ (N 0 1) ≤ q := fun h9 => c_2 ((nI_leI (a := (N 0 1)) (b := q) (by omega) (by omega)).mpr h9)
        have hb9 := hbs q (by omega)
        refine lv_aload_n hx hb dX2_doOrders_19 rfl (lv_at hl 0 rfl) ?_
        refine va_get (D := D) (ci := 2) (v := .ref (x 4)) (C := RX2) (T := TX2) (N := 9) hx hb hts hi2 hown hK hP 1 rfl rfl 5 (by decide) (hts (.fieldLink RX2 27 "PledgedLoans" "buffer" "[C") (List.mem_of_getElem? (i := 3) rfl)) (fun _ h9 => h9) rfl dX2_doOrders_20 ?_
        refine lv_iload_n hx hb dX2_doOrders_23 rfl (lv_at hl 2 rfl) ?_
        refine z_cald (j := q) hx hb hK hP 5 2 rfl rfl dX2_doOrders_24 (by omega) (by decide) ?_
        refine z_top (y := nI (N 2 q)) rfl ?_
        refine lv_bipush (v := 59) hx hb dX2_doOrders_25 (by decide) ?_
        refine lv_icmp_ne (tgt := 42) hx hb dX2_doOrders_27 (by decide) (fun c_5 => ?_) (fun c_5 => ?_)
        · have c_5 : ¬ (N 2 q) = 59 := fun h9 => c_5 ((nI_eq (a := (N 2 q)) (b := 59) (by omega) (by omega)).mpr h9)
          refine lv_aload_n hx hb dX2_doOrders_42 rfl (lv_at hl 0 rfl) ?_
          refine va_get (D := D) (ci := 2) (v := .ref rd) (C := RX2) (T := TX2) (N := 9) hx hb hts hi2 hown hK hP 1 rfl rfl 7 (by decide) (hts (.fieldLink RX2 34 "PledgedLoans" "reader" "LPledgedLoans$OrderReader;") (List.mem_of_getElem? (i := 1) rfl)) (fun _ h9 => h9) rfl dX2_doOrders_43 ?_
          refine lv_aload_n hx hb dX2_doOrders_46 rfl (lv_at hl 0 rfl) ?_
          refine va_get (D := D) (ci := 2) (v := .ref (x 4)) (C := RX2) (T := TX2) (N := 9) hx hb hts hi2 hown hK hP 1 rfl rfl 5 (by decide) (hts (.fieldLink RX2 27 "PledgedLoans" "buffer" "[C") (List.mem_of_getElem? (i := 3) rfl)) (fun _ h9 => h9) rfl dX2_doOrders_47 ?_
          refine lv_iload_n hx hb dX2_doOrders_50 rfl (lv_at hl 2 rfl) ?_
          refine z_cald (j := q) hx hb hK hP 5 2 rfl rfl dX2_doOrders_51 (by omega) (by decide) ?_
          refine z_top (y := nI (N 2 q)) rfl ?_
          refine z_M (X := ([] : va_W)) (Z := xmW cA x b rd X N ++ (bkW (cA 0) (b 0) B1)) (va_runV (As := [.int (nI (N 2 q))]) (rest := []) ⟨hx, hb, hml, hown, hts⟩ (zc_X1_take l D cA rd r1 (N 2 q) (by omega) (by first | exact hri1 | omega)) (cwV 1 hts gX2_doOrders_X1_take rfl rfl rfl zy_X1_take ⟨Nat.le_of_ble_eq_true rfl, Nat.le_of_ble_eq_true rfl⟩) (z_preV (ci := 1) hK (hP.sub (ws' := rdW rd r1) [0] rfl) (hD.sub (ws' := rdW rd r1) [0] (by decide) rfl) rfl rfl) rfl rfl hl.1 rfl (lv_room (Nat.le_of_ble_eq_true rfl)) dX2_doOrders_52 ⟨Nat.zero_le _, Nat.zero_le _⟩) hP hD hS rdW_adr rfl (fun H locs hP9 hD9 hS9 => ?_)
          replace hP : va_P D vwCl (rdW rd ((f_X1_take r1 (N 2 q)).2) ++ (xmW cA x b rd X N ++ (bkW (cA 0) (b 0) B1))) H := hP9
          replace hD : va_D _ (rdW rd ((f_X1_take r1 (N 2 q)).2) ++ (xmW cA x b rd X N ++ (bkW (cA 0) (b 0) B1))) := hD9
          replace hS := hS9
          clear hP9 hD9 hS9
          obtain ⟨N_6, eN_6⟩ : ∃ z9 : Nat → Nat, z9 = (f_X1_take r1 (N 2 q)).2 := ⟨_, rfl⟩
          rw [← eN_6] at hP hD
          refine lv_pop hx hb dX2_doOrders_55 rfl ?_
          refine lv_iinc (v := nI (q + 1)) (lv' := [(2, .int (nI (q + 1))), (0, .ref (x 0)), (1, .int (nI d))]) hx hb dX2_doOrders_56 hl (k := 2) rfl (by rw [show (Int32.ofInt 1) = nI 1 from by decide]; exact nI_add q 1) (by decide) rfl (fun ls hl => ?_)
          refine lv_goto (tgt := 11) hx hb dX2_doOrders_59 (by decide) ?_
          exact ih_11 d (q + 1) N_6 B1 (by omega) (by subst eN_6 eN_1; show _ = (f_X1_take (zrs N r q) (N 2 q)).2; rw [← hi0_11]) (by omega) (by subst eN_6 eN_1; rw [hres_11]; simp only [f_X2_doOrders_11, if_neg c_2, if_neg c_5]) _ _ hP hD hS ls (lv_sub hl [1, 2, 0] rfl)
        · have c_5 : (N 2 q) = 59 := (nI_eq (a := (N 2 q)) (b := 59) (by omega) (by omega)).mp c_5
          refine lv_aload_n hx hb dX2_doOrders_30 rfl (lv_at hl 0 rfl) ?_
          refine z_M (X := ([] : va_W)) (Z := ([] : va_W)) (va_runV (As := []) (rest := []) ⟨hx, hb, hml, hown, hts⟩ (zc_X2_doOrder l D cA b rd r1 x X N B1 (by exact hri1) (by rw [hi0_11]; exact zall_end hall hri hbs (by omega) (by omega))) (cwV 0 hts gX2_doOrders_X2_doOrder rfl rfl rfl zy_X2_doOrder ⟨Nat.le_of_ble_eq_true rfl, Nat.le_of_ble_eq_true rfl⟩) (z_preVq (ci := 2) (q0 := 1) hK hP hD rfl rfl) rfl rfl hl.1 rfl (lv_room (Nat.le_of_ble_eq_true rfl)) dX2_doOrders_31 ⟨Nat.zero_le _, Nat.zero_le _⟩) hP hD hS (z_adr2 rdW_adr (z_adr2 xmW_adr bkW_adr)) rfl (fun H locs hP9 hD9 hS9 => ?_)
          replace hP : va_P D vwCl (rdW rd r1 ++ (xmW cA x b rd X N ++ (bkW (cA 0) (b 0) ((f_X2_doOrder r1 B1).2)))) H := hP9
          replace hD : va_D _ (rdW rd r1 ++ (xmW cA x b rd X N ++ (bkW (cA 0) (b 0) ((f_X2_doOrder r1 B1).2)))) := hD9
          replace hS := hS9
          clear hP9 hD9 hS9
          obtain ⟨M_7, eM_7⟩ : ∃ z9 : BK, z9 = (f_X2_doOrder r1 B1).2 := ⟨_, rfl⟩
          rw [← eM_7] at hP hD
          refine lv_if_ne (tgt := 39) hx hb dX2_doOrders_34 (by decide) (fun c_8 => ?_) (fun c_8 => ?_)
          · refine lv_iinc (v := nI (d + 1)) (lv' := [(1, .int (nI (d + 1))), (0, .ref (x 0)), (2, .int (nI q))]) hx hb dX2_doOrders_39 hl (k := 1) rfl (by rw [show (Int32.ofInt 1) = nI 1 from by decide]; exact nI_add d 1) (by decide) rfl (fun ls hl => ?_)
            refine lv_aload_n hx hb dX2_doOrders_42 rfl (lv_at hl 1 rfl) ?_
            refine va_get (D := D) (ci := 2) (v := .ref rd) (C := RX2) (T := TX2) (N := 9) hx hb hts hi2 hown hK hP 1 rfl rfl 7 (by decide) (hts (.fieldLink RX2 34 "PledgedLoans" "reader" "LPledgedLoans$OrderReader;") (List.mem_of_getElem? (i := 1) rfl)) (fun _ h9 => h9) rfl dX2_doOrders_43 ?_
            refine lv_aload_n hx hb dX2_doOrders_46 rfl (lv_at hl 1 rfl) ?_
            refine va_get (D := D) (ci := 2) (v := .ref (x 4)) (C := RX2) (T := TX2) (N := 9) hx hb hts hi2 hown hK hP 1 rfl rfl 5 (by decide) (hts (.fieldLink RX2 27 "PledgedLoans" "buffer" "[C") (List.mem_of_getElem? (i := 3) rfl)) (fun _ h9 => h9) rfl dX2_doOrders_47 ?_
            refine lv_iload_n hx hb dX2_doOrders_50 rfl (lv_at hl 2 rfl) ?_
            refine z_cald (j := q) hx hb hK hP 5 2 rfl rfl dX2_doOrders_51 (by omega) (by decide) ?_
            refine z_top (y := nI (N 2 q)) rfl ?_
            refine z_M (X := ([] : va_W)) (Z := xmW cA x b rd X N ++ (bkW (cA 0) (b 0) M_7)) (va_runV (As := [.int (nI (N 2 q))]) (rest := []) ⟨hx, hb, hml, hown, hts⟩ (zc_X1_take l D cA rd r1 (N 2 q) (by omega) (by first | exact hri1 | omega)) (cwV 1 hts gX2_doOrders_X1_take rfl rfl rfl zy_X1_take ⟨Nat.le_of_ble_eq_true rfl, Nat.le_of_ble_eq_true rfl⟩) (z_preV (ci := 1) hK (hP.sub (ws' := rdW rd r1) [0] rfl) (hD.sub (ws' := rdW rd r1) [0] (by decide) rfl) rfl rfl) rfl rfl hl.1 rfl (lv_room (Nat.le_of_ble_eq_true rfl)) dX2_doOrders_52 ⟨Nat.zero_le _, Nat.zero_le _⟩) hP hD hS rdW_adr rfl (fun H locs hP9 hD9 hS9 => ?_)
            replace hP : va_P D vwCl (rdW rd ((f_X1_take r1 (N 2 q)).2) ++ (xmW cA x b rd X N ++ (bkW (cA 0) (b 0) M_7))) H := hP9
            replace hD : va_D _ (rdW rd ((f_X1_take r1 (N 2 q)).2) ++ (xmW cA x b rd X N ++ (bkW (cA 0) (b 0) M_7))) := hD9
            replace hS := hS9
            clear hP9 hD9 hS9
            obtain ⟨N_9, eN_9⟩ : ∃ z9 : Nat → Nat, z9 = (f_X1_take r1 (N 2 q)).2 := ⟨_, rfl⟩
            rw [← eN_9] at hP hD
            refine lv_pop hx hb dX2_doOrders_55 rfl ?_
            refine lv_iinc (v := nI (q + 1)) (lv' := [(2, .int (nI (q + 1))), (1, .int (nI (d + 1))), (0, .ref (x 0))]) hx hb dX2_doOrders_56 hl (k := 2) rfl (by rw [show (Int32.ofInt 1) = nI 1 from by decide]; exact nI_add q 1) (by decide) rfl (fun ls hl => ?_)
            refine lv_goto (tgt := 11) hx hb dX2_doOrders_59 (by decide) ?_
            exact ih_11 (d + 1) (q + 1) N_9 M_7 (by omega) (by subst eN_9 eM_7 eN_1; show _ = (f_X1_take (zrs N r q) (N 2 q)).2; rw [← hi0_11]) (by omega) (by subst eN_9 eM_7 eN_1; rw [hres_11]; simp only [f_X2_doOrders_11, if_neg c_2, if_pos c_5, if_neg c_8]) _ _ hP hD hS ls (lv_sub hl [2, 1, 0] rfl)
          · refine lv_iload_n hx hb dX2_doOrders_37 rfl (lv_at hl 1 rfl) ?_
            exact z_iretM (w1 := rdW rd r1 ++ (xmW cA x b rd X N ++ (bkW (cA 0) (b 0) M_7))) hx hb hr hlocks dX2_doOrders_38 hP hS (by subst eM_7 eN_1; rw [hres_11]; simp only [f_X2_doOrders_11, if_neg c_2, if_pos c_5, if_pos c_8]) (by subst eM_7 eN_1; rw [hres_11]; simp only [f_X2_doOrders_11, if_neg c_2, if_pos c_5, if_pos c_8])
  exact loop_11 61 0 0 N_1 B (by omega) (by subst eN_1; rfl) (by omega) (by subst eN_1; first | (simp only [f_X2_doOrders]; done) | rfl) _ _ hP hD hS ls (lv_sub hl [2, 1, 0] rfl)

theorem zy_X2_bits : yX2_bits.cls = RX2 ∧ yX2_bits.cls ≠ "java/lang/invoke/MethodHandle" ∧ yX2_bits.cls ≠ "java/lang/invoke/VarHandle" ∧ (parseMethodDescriptor yX2_bits.desc).map (fun d => d.parameters.length) = some 1 := by decide +kernel
def f_X2_bits_16 (dv : UInt64) : Nat → UInt64 → Int32 → Nat → Int64
  | 0, x, ex, q => 0
  | k + 1, x, ex, q =>
    if 0 ≤ (Op.cmpValue (FP.dcmp x FP.dconst1) .g) then
      (((ex + 1023).toInt64) <<< ((52 : Int32).toInt64 &&& 63)) + (FP.d2l (FP.dmul (FP.dsub x FP.dconst1) (4841369599423283200)))
    else
      f_X2_bits_16 dv k (FP.dmul x (4611686018427387904)) (ex + (-1)) (q + 1)
def f_X2_bits (dv : UInt64) : Int64 :=
  if 0 < (Op.cmpValue (FP.dcmp dv FP.dconst0) .g) then
    f_X2_bits_16 dv 1101 dv 0 0
  else
    0

theorem zde_le {x : UInt64} (h : zdn x) : zde x ≤ 199 := by
  obtain ⟨E, T, h1, h2, h3, rfl⟩ := h
  unfold zde
  rw [zf_toNat (by omega) h3]
  unfold zfb
  omega

set_option maxHeartbeats 4000000 in
set_option maxRecDepth 100000 in
theorem zc_X2_bits (l : Launch) (D : va_G) (cA : Nat → ClassId) (dv : UInt64) (hdv : dv = 0 ∨ zdn dv) : Met l yX2_bits wsX2_bits (zrm 0 0) (zPc D cA [.double dv] (([] : va_W))) (zE (some (.long (f_X2_bits dv)))) 0 0 (fun _ => False) := by
  refine Met.ofW (cc := cX2_bits) (maxL := 7) (ret := (some .long)) (by decide) rfl ?_
  intro p e s m args below meth c s₁ Bd hml hv
  obtain ⟨rfl, hP, hK, hD0⟩ := hv
  have hx := Bd.exec
  have hb := Bd.bytes
  have hr := Bd.returns
  have hts := atoms_spec (ws := wsX2_bits) Bd.pre
  have hown : s.vm.findClass RX2 = some m.cls := findClass_of_methodNamed Bd.named
  have hlocks := Bd.notSynchronized
  have hD := z_Dfr hD0
  have hS : va_S (zfr (([] : va_W))) s.heap s.heap [] := va_S.rf
  have hl := lv_entry ([.double dv]) (n := 7) (Nat.le_of_ble_eq_true rfl)
  rw [lg_entry_eq]
  generalize (lg_sl ([.double dv]) ++ List.replicate (7 - (lg_sl ([.double dv])).length) Slot.unset).toArray = ls at hl ⊢
  have hl : lv_has ls 7 [(0, .double dv)] := hl
  refine lv_dload_n hx hb dX2_bits_0 rfl (lv_at hl 0 rfl) ?_
  refine lv_dconst0 hx hb dX2_bits_1 ?_
  refine lv_dcmp hx hb dX2_bits_2 ?_
  refine lv_if_gt (tgt := 8) hx hb dX2_bits_3 (by decide) (fun c_1 => ?_) (fun c_1 => ?_)
  · have hz9 := zd_nz2 hdv _ c_1
    refine lv_dload_n hx hb dX2_bits_8 rfl (lv_at hl 0 rfl) ?_
    refine lv_dstore_n (lv' := [(2, .double dv), (0, .double dv)]) hx hb dX2_bits_9 rfl hl (by decide) rfl (fun ls hl => ?_)
    refine lv_iconst (v := 0) hx hb dX2_bits_10 (by decide) ?_
    refine lv_istore (lv' := [(4, .int 0), (2, .double dv), (0, .double dv)]) hx hb dX2_bits_11 hl (by decide) rfl (fun ls hl => ?_)
    refine lv_iconst (v := 0) hx hb dX2_bits_13 (by decide) ?_
    refine lv_istore (lv' := [(5, .int 0), (4, .int 0), (2, .double dv), (0, .double dv)]) hx hb dX2_bits_14 hl (by decide) rfl (fun ls hl => ?_)
    have loop_16 : ∀ (kk : Nat) (x : UInt64) (ex : Int32) (q : Nat), zde x < kk → zdn x → zde x + q ≤ 199 → f_X2_bits dv = f_X2_bits_16 dv kk x ex q → ∀ (ls : Array Slot), lv_has ls 7 [(2, .double x), (4, .int ex), (5, .int (nI q))] → W p l e (headSpec wsX2_bits (zrm 0 0)).room s m ([.double dv] : List Value).toArray below meth c s.heap [] 0 0 (MQ below (zE (some (.long (f_X2_bits dv)))) ([.double dv] : List Value).toArray s 0 0 (fun _ => False)) (F0 m 16 ls []) := by
      intro kk
      induction kk with
      | zero => intro x ex q h9; exact absurd h9 (Nat.not_lt_zero _)
      | succ kk ih_16 =>
        intro x ex q hm_16 hi0_16 hi1_16 hres_16 ls hl
        refine lv_iload hx hb dX2_bits_16 (lv_at hl 2 rfl) ?_
        refine lv_sipush (v := 1022) hx hb dX2_bits_18 (by decide) ?_
        refine lv_icmp_ge (tgt := 45) hx hb dX2_bits_21 (by decide) (fun c_2 => ?_) (fun c_2 => ?_)
        · have c_2 : 1022 ≤ q := (nI_leI (a := 1022) (b := q) (by omega) (by omega)).mp c_2
          exfalso; omega
        · have c_2 : ¬ 1022 ≤ q := fun h9 => c_2 ((nI_leI (a := 1022) (b := q) (by omega) (by omega)).mpr h9)
          refine lv_dload_n hx hb dX2_bits_24 rfl (lv_at hl 0 rfl) ?_
          refine lv_dconst1 hx hb dX2_bits_25 ?_
          refine lv_dcmp hx hb dX2_bits_26 ?_
          refine lv_if_ge (tgt := 45) hx hb dX2_bits_27 (by decide) (fun c_3 => ?_) (fun c_3 => ?_)
          · refine lv_dload_n hx hb dX2_bits_45 rfl (lv_at hl 0 rfl) ?_
            refine lv_dconst1 hx hb dX2_bits_46 ?_
            refine lv_dsub hx hb dX2_bits_47 (zd_vfs hi0_16 _ c_3) ?_
            refine lv_ldc2d hx hb hown (hts (.constantDouble RX2 309 (4841369599423283200)) (List.mem_of_getElem? (i := 2) rfl)) dX2_bits_48 ?_
            refine lv_dmul hx hb dX2_bits_51 (zd_vfm hi0_16 _ c_3) ?_
            refine lv_d2l hx hb dX2_bits_52 ?_
            refine lv_lstore (lv' := [(5, .long (FP.d2l (FP.dmul (FP.dsub x FP.dconst1) (4841369599423283200)))), (2, .double x), (4, .int ex)]) hx hb dX2_bits_53 hl (by decide) rfl (fun ls hl => ?_)
            refine lv_iload hx hb dX2_bits_55 (lv_at hl 2 rfl) ?_
            refine lv_sipush (v := 1023) hx hb dX2_bits_57 (by decide) ?_
            refine lv_iadd hx hb dX2_bits_60 ?_
            refine lv_i2l (v := (ex + 1023).toInt64) hx hb dX2_bits_61 rfl ?_
            refine lv_bipush (v := 52) hx hb dX2_bits_62 (by decide) ?_
            refine lv_lshl (v := ((ex + 1023).toInt64) <<< ((52 : Int32).toInt64 &&& 63)) hx hb dX2_bits_64 rfl ?_
            refine lv_lload hx hb dX2_bits_65 (lv_at hl 0 rfl) ?_
            refine lv_ladd hx hb dX2_bits_67 ?_
            exact z_lretE hx hb hr hlocks dX2_bits_68 (by rw [hres_16]; simp only [f_X2_bits_16, if_neg c_2, if_pos c_3])
          · refine lv_dload_n hx hb dX2_bits_30 rfl (lv_at hl 0 rfl) ?_
            refine lv_ldc2d hx hb hown (hts (.constantDouble RX2 307 (4611686018427387904)) (List.mem_of_getElem? (i := 1) rfl)) dX2_bits_31 ?_
            refine lv_dmul hx hb dX2_bits_34 (zd_vf2 hi0_16) ?_
            refine lv_dstore_n (lv' := [(2, .double (FP.dmul x (4611686018427387904))), (4, .int ex), (5, .int (nI q))]) hx hb dX2_bits_35 rfl hl (by decide) rfl (fun ls hl => ?_)
            refine lv_iinc (v := ex + (-1)) (lv' := [(4, .int (ex + (-1))), (2, .double (FP.dmul x (4611686018427387904))), (5, .int (nI q))]) hx hb dX2_bits_36 hl (k := 1) rfl (by rfl) (by decide) rfl (fun ls hl => ?_)
            refine lv_iinc (v := nI (q + 1)) (lv' := [(5, .int (nI (q + 1))), (4, .int (ex + (-1))), (2, .double (FP.dmul x (4611686018427387904)))]) hx hb dX2_bits_39 hl (k := 2) rfl (by rw [show (Int32.ofInt 1) = nI 1 from by decide]; exact nI_add q 1) (by decide) rfl (fun ls hl => ?_)
            refine lv_goto (tgt := 16) hx hb dX2_bits_42 (by decide) ?_
            exact ih_16 (FP.dmul x (4611686018427387904)) (ex + (-1)) (q + 1) (by have hz8 := (zd_next hi0_16 _ c_3).2; omega) (by exact (zd_next hi0_16 _ c_3).1) (by have hz8 := (zd_next hi0_16 _ c_3).2; omega) (by rw [hres_16]; simp only [f_X2_bits_16, if_neg c_2, if_neg c_3]) ls (lv_sub hl [2, 1, 0] rfl)
    exact loop_16 1101 dv 0 0 (by exact Nat.lt_succ_of_le (Nat.sub_le _ _)) (by exact hz9) (by have := zde_le hz9; omega) (by simp only [f_X2_bits, if_pos c_1]) ls (lv_sub hl [2, 1, 0] rfl)
  · refine lv_lconst (v := 0) hx hb dX2_bits_6 (by decide) ?_
    exact z_lretE hx hb hr hlocks dX2_bits_7 (by simp only [f_X2_bits, if_neg c_1])

theorem zy_X2_digest : yX2_digest.cls = RX2 ∧ yX2_digest.cls ≠ "java/lang/invoke/MethodHandle" ∧ yX2_digest.cls ≠ "java/lang/invoke/VarHandle" ∧ (parseMethodDescriptor yX2_digest.desc).map (fun d => d.parameters.length) = some 0 := by decide +kernel
def f_X2_digest_6 (X : BK) (N : NK) (B : BK) (i0 : Int64) : Nat → Int64
  | 0 => i0
  | n + 1 =>
    let y0_6 : Int64 := f_X2_digest_6 X N B i0 n
    ((31) * y0_6) + ((f_X2_number N B n).toInt64)
def f_X2_digest_33 (X : BK) (N : NK) (B : BK) (i0 : Int64) : Nat → Int64
  | 0 => i0
  | n + 1 =>
    let y0_33 : Int64 := f_X2_digest_33 X N B i0 n
    ((31) * y0_33) + ((B 7 n).toInt64)
def f_X2_digest_63 (X : BK) (N : NK) (B : BK) (i0 : Int64) (i1 : BK) (n : Nat) : Int64 × BK := zfd (fun n y => f_X2_digestOfMember y.2 B y.1 n) (i0, i1) n
def f_X2_digest_116 (X : BK) (N : NK) (B : BK) (y1_63 : BK) (i0 : Int64) : Nat → Int64
  | 0 => i0
  | n + 1 =>
    let y0_116 : Int64 := f_X2_digest_116 X N B y1_63 i0 n
    if (y1_63 0 n) = 0 then
      ((31) * y0_116) + ((0 : Int32).toInt64)
    else
      ((31) * y0_116) + ((1 : Int32).toInt64)
def f_X2_digest_163 (X : BK) (N : NK) (B : BK) (y1_63 : BK) (i0 : Int64) : Nat → Int64
  | 0 => i0
  | n + 1 =>
    let y0_163 : Int64 := f_X2_digest_163 X N B y1_63 i0 n
    ((31) * y0_163) + ((nI (N 2 n)).toInt64)
def f_X2_digest (X : BK) (N : NK) (B : BK) : Int64 × BK :=
  let y0_6 : Int64 := f_X2_digest_6 X N B (3607) 12
  let y0_33 : Int64 := f_X2_digest_33 X N B y0_6 2
  let y0_63 : Int64 := (f_X2_digest_63 X N B y0_33 X 6).1
  let y1_63 : BK := (f_X2_digest_63 X N B y0_33 X 6).2
  let y9_106 : UInt64 := f_X0_lentPart B
  let y9_109 : Int64 := f_X2_bits y9_106
  let y0_116 : Int64 := f_X2_digest_116 X N B y1_63 (((31) * (((31) * y0_63) + ((f_X0_mostAtStake B).toInt64))) + y9_109) 2
  let y0_163 : Int64 := f_X2_digest_163 X N B y1_63 (((31) * y0_116) + ((nI (N 0 1)).toInt64)) (N 0 1)
  (y0_163, y1_63)

theorem zs_63 (X : BK) (N : NK) (B : BK) (i0 : Int64) (i1 : BK) (n : Nat) : f_X2_digest_63 X N B i0 i1 (n + 1) = f_X2_digestOfMember (f_X2_digest_63 X N B i0 i1 n).2 B (f_X2_digest_63 X N B i0 i1 n).1 n := zfd_s (fun n y => f_X2_digestOfMember y.2 B y.1 n) (i0, i1) n

set_option maxHeartbeats 4000000 in
set_option maxRecDepth 100000 in
theorem zc_X2_digest (l : Launch) (D : va_G) (cA : Nat → ClassId) (b : Nat → Nat → Nat) (rd : Nat) (x : Nat → Nat) (X : BK) (N : NK) (B : BK) (hbl : N 0 1 ≤ 60) (hl0 : ¬ f_X0_allShares B < 0) (hl2 : ¬ f_X0_allRests B < 0) (hdv : f_X0_lentPart B = 0 ∨ zdn (f_X0_lentPart B)) : Met l yX2_digest wsX2_digest (zrm 6 140) (zPc D cA [.ref (x 0)] (xmW cA x b rd X N ++ (bkW (cA 0) (b 0) B))) (zM D (xmW cA x b rd X N ++ (bkW (cA 0) (b 0) B)) (xmW cA x b rd ((f_X2_digest X N B).2) N ++ (bkW (cA 0) (b 0) B)) (some (.long ((f_X2_digest X N B).1)))) 0 0 (zfr (xmW cA x b rd X N ++ (bkW (cA 0) (b 0) B))) := by
  refine Met.ofW (cc := cX2_digest) (maxL := 4) (ret := (some .long)) (by decide) rfl ?_
  intro p e s m args below meth c s₁ Bd hml hv
  obtain ⟨rfl, hP, hK, hD0⟩ := hv
  have hx := Bd.exec
  have hb := Bd.bytes
  have hr := Bd.returns
  have hts := atoms_spec (ws := wsX2_digest) Bd.pre
  have hown : s.vm.findClass RX2 = some m.cls := findClass_of_methodNamed Bd.named
  have hlocks := Bd.notSynchronized
  have hD := z_Dfr hD0
  have hS : va_S (zfr (xmW cA x b rd X N ++ (bkW (cA 0) (b 0) B))) s.heap s.heap [] := va_S.rf
  have hi0 : ∀ w ∈ wsX00, w ∈ wsX2_digest := fun w h => List.mem_cons_of_mem _ (List.mem_append_right _ h)
  have hi2 : ∀ w ∈ wsX20, w ∈ wsX2_digest := fun w h => List.mem_cons_of_mem _ (List.mem_append_left _ (List.mem_append_right _ h))
  have hl := lv_entry ([.ref (x 0)]) (n := 4) (Nat.le_of_ble_eq_true rfl)
  rw [lg_entry_eq]
  generalize (lg_sl ([.ref (x 0)]) ++ List.replicate (4 - (lg_sl ([.ref (x 0)])).length) Slot.unset).toArray = ls at hl ⊢
  have hl : lv_has ls 4 [(0, .ref (x 0))] := hl
  refine lv_ldc2 hx hb hown (hts (.constantLong RX2 196 (3607)) (List.mem_of_getElem? (i := 1) rfl)) dX2_digest_0 ?_
  refine lv_lstore_n (lv' := [(1, .long (3607)), (0, .ref (x 0))]) hx hb dX2_digest_3 rfl hl (by decide) rfl (fun ls hl => ?_)
  refine lv_iconst (v := 0) hx hb dX2_digest_4 (by decide) ?_
  refine lv_istore_n (lv' := [(3, .int 0), (1, .long (3607)), (0, .ref (x 0))]) hx hb dX2_digest_5 rfl hl (by decide) rfl (fun ls hl => ?_)
  have loop_6 : ∀ (kk : Nat) (n : Nat) (y0_6 : Int64), n ≤ 12 → 12 - n < kk → y0_6 = f_X2_digest_6 X N B (3607) n → ∀ (H : Heap) (locs : List Loc), va_P D vwCl (xmW cA x b rd X N ++ (bkW (cA 0) (b 0) B)) H → va_D (zfr (xmW cA x b rd X N ++ (bkW (cA 0) (b 0) B))) (xmW cA x b rd X N ++ (bkW (cA 0) (b 0) B)) → va_S (zfr (xmW cA x b rd X N ++ (bkW (cA 0) (b 0) B))) s.heap H locs → ∀ (ls : Array Slot), lv_has ls 4 [(0, .ref (x 0)), (1, .long y0_6), (3, .int (nI n))] → W p l e (headSpec wsX2_digest (zrm 6 140)).room s m ([.ref (x 0)] : List Value).toArray below meth c H locs 0 0 (MQ below (zM D (xmW cA x b rd X N ++ (bkW (cA 0) (b 0) B)) (xmW cA x b rd ((f_X2_digest X N B).2) N ++ (bkW (cA 0) (b 0) B)) (some (.long ((f_X2_digest X N B).1)))) ([.ref (x 0)] : List Value).toArray s 0 0 (zfr (xmW cA x b rd X N ++ (bkW (cA 0) (b 0) B)))) (F0 m 6 ls []) := by
    intro kk
    induction kk with
    | zero => intro n y0_6 _ h9; exact absurd h9 (Nat.not_lt_zero _)
    | succ kk ih_6 =>
      intro n y0_6 hn_6 hm_6 q_y0_6 H locs hP hD hS ls hl
      refine lv_iload_n hx hb dX2_digest_6 rfl (lv_at hl 2 rfl) ?_
      refine lv_bipush (v := 12) hx hb dX2_digest_7 (by decide) ?_
      refine lv_icmp_ge (tgt := 31) hx hb dX2_digest_9 (by decide) (fun c_1 => ?_) (fun c_1 => ?_)
      · have c_1 : 12 ≤ n := (nI_leI (a := 12) (b := n) (by omega) (by omega)).mp c_1
        obtain rfl : n = 12 := by omega
        obtain ⟨z_6, hz_6⟩ : ∃ z9, z9 = f_X2_digest_6 X N B (3607) 12 := ⟨_, rfl⟩
        rw [← hz_6] at q_y0_6
        refine lv_iconst (v := 0) hx hb dX2_digest_31 (by decide) ?_
        refine lv_istore_n (lv' := [(3, .int 0), (0, .ref (x 0)), (1, .long y0_6)]) hx hb dX2_digest_32 rfl hl (by decide) rfl (fun ls hl => ?_)
        have loop_33 : ∀ (kk : Nat) (n : Nat) (y0_33 : Int64), n ≤ 2 → 2 - n < kk → y0_33 = f_X2_digest_33 X N B y0_6 n → ∀ (H : Heap) (locs : List Loc), va_P D vwCl (xmW cA x b rd X N ++ (bkW (cA 0) (b 0) B)) H → va_D (zfr (xmW cA x b rd X N ++ (bkW (cA 0) (b 0) B))) (xmW cA x b rd X N ++ (bkW (cA 0) (b 0) B)) → va_S (zfr (xmW cA x b rd X N ++ (bkW (cA 0) (b 0) B))) s.heap H locs → ∀ (ls : Array Slot), lv_has ls 4 [(0, .ref (x 0)), (1, .long y0_33), (3, .int (nI n))] → W p l e (headSpec wsX2_digest (zrm 6 140)).room s m ([.ref (x 0)] : List Value).toArray below meth c H locs 0 0 (MQ below (zM D (xmW cA x b rd X N ++ (bkW (cA 0) (b 0) B)) (xmW cA x b rd ((f_X2_digest X N B).2) N ++ (bkW (cA 0) (b 0) B)) (some (.long ((f_X2_digest X N B).1)))) ([.ref (x 0)] : List Value).toArray s 0 0 (zfr (xmW cA x b rd X N ++ (bkW (cA 0) (b 0) B)))) (F0 m 33 ls []) := by
          intro kk
          induction kk with
          | zero => intro n y0_33 _ h9; exact absurd h9 (Nat.not_lt_zero _)
          | succ kk ih_33 =>
            intro n y0_33 hn_33 hm_33 q_y0_33 H locs hP hD hS ls hl
            refine lv_iload_n hx hb dX2_digest_33 rfl (lv_at hl 2 rfl) ?_
            refine lv_iconst (v := 2) hx hb dX2_digest_34 (by decide) ?_
            refine lv_icmp_ge (tgt := 61) hx hb dX2_digest_35 (by decide) (fun c_2 => ?_) (fun c_2 => ?_)
            · have c_2 : 2 ≤ n := (nI_leI (a := 2) (b := n) (by omega) (by omega)).mp c_2
              obtain rfl : n = 2 := by omega
              obtain ⟨z_33, hz_33⟩ : ∃ z9, z9 = f_X2_digest_33 X N B y0_6 2 := ⟨_, rfl⟩
              rw [← hz_33] at q_y0_33
              refine lv_iconst (v := 0) hx hb dX2_digest_61 (by decide) ?_
              refine lv_istore_n (lv' := [(3, .int 0), (0, .ref (x 0)), (1, .long y0_33)]) hx hb dX2_digest_62 rfl hl (by decide) rfl (fun ls hl => ?_)
              have loop_63 : ∀ (kk : Nat) (n : Nat) (y0_63 : Int64) (y1_63 : BK), n ≤ 6 → 6 - n < kk → y0_63 = (f_X2_digest_63 X N B y0_33 X n).1 → y1_63 = (f_X2_digest_63 X N B y0_33 X n).2 → ∀ (H : Heap) (locs : List Loc), va_P D vwCl (xmW cA x b rd y1_63 N ++ (bkW (cA 0) (b 0) B)) H → va_D (zfr (xmW cA x b rd X N ++ (bkW (cA 0) (b 0) B))) (xmW cA x b rd y1_63 N ++ (bkW (cA 0) (b 0) B)) → va_S (zfr (xmW cA x b rd X N ++ (bkW (cA 0) (b 0) B))) s.heap H locs → ∀ (ls : Array Slot), lv_has ls 4 [(0, .ref (x 0)), (1, .long y0_63), (3, .int (nI n))] → W p l e (headSpec wsX2_digest (zrm 6 140)).room s m ([.ref (x 0)] : List Value).toArray below meth c H locs 0 0 (MQ below (zM D (xmW cA x b rd X N ++ (bkW (cA 0) (b 0) B)) (xmW cA x b rd ((f_X2_digest X N B).2) N ++ (bkW (cA 0) (b 0) B)) (some (.long ((f_X2_digest X N B).1)))) ([.ref (x 0)] : List Value).toArray s 0 0 (zfr (xmW cA x b rd X N ++ (bkW (cA 0) (b 0) B)))) (F0 m 63 ls []) := by
                intro kk
                induction kk with
                | zero => intro n y0_63 y1_63 _ h9; exact absurd h9 (Nat.not_lt_zero _)
                | succ kk ih_63 =>
                  intro n y0_63 y1_63 hn_63 hm_63 q_y0_63 q_y1_63 H locs hP hD hS ls hl
                  refine lv_iload_n hx hb dX2_digest_63 rfl (lv_at hl 2 rfl) ?_
                  refine lv_bipush (v := 6) hx hb dX2_digest_64 (by decide) ?_
                  refine lv_icmp_ge (tgt := 82) hx hb dX2_digest_66 (by decide) (fun c_3 => ?_) (fun c_3 => ?_)
                  · have c_3 : 6 ≤ n := (nI_leI (a := 6) (b := n) (by omega) (by omega)).mp c_3
                    obtain rfl : n = 6 := by omega
                    obtain ⟨z_63, hz_63⟩ : ∃ z9, z9 = f_X2_digest_63 X N B y0_33 X 6 := ⟨_, rfl⟩
                    rw [← hz_63] at q_y0_63 q_y1_63
                    refine lv_ldc2 hx hb hown (hts (.constantLong RX2 198 (31)) (List.mem_of_getElem? (i := 2) rfl)) dX2_digest_82 ?_
                    refine lv_lload_n hx hb dX2_digest_85 rfl (lv_at hl 1 rfl) ?_
                    refine lv_lmul hx hb dX2_digest_86 ?_
                    refine lv_aload_n hx hb dX2_digest_87 rfl (lv_at hl 0 rfl) ?_
                    refine va_get (D := D) (ci := 2) (v := .ref (b 0 0)) (C := RX2) (T := TX2) (N := 9) hx hb hts hi2 hown hK hP 0 rfl rfl 0 (by decide) (hts (.fieldLink RX2 10 "PledgedLoans" "books" "LPledgedLoans$Books;") (List.mem_of_getElem? (i := 3) rfl)) (fun _ h9 => h9) rfl dX2_digest_88 ?_
                    refine z_E (va_runV (As := []) (rest := [.long ((31) * y0_63)]) ⟨hx, hb, hml, hown, hts⟩ (zc_X0_mostAtStake l D cA (b 0) B) (cwV 0 hts gX2_digest_X0_mostAtStake rfl rfl rfl zy_X0_mostAtStake ⟨Nat.le_of_ble_eq_true rfl, Nat.le_of_ble_eq_true rfl⟩) (z_preV (ci := 0) hK (hP.sub (ws' := bkW (cA 0) (b 0) B) [6, 7, 8, 9, 10, 11, 12, 13, 14] rfl) (hD.sub (ws' := bkW (cA 0) (b 0) B) [6, 7, 8, 9, 10, 11, 12, 13, 14] (by decide) rfl) rfl rfl) rfl rfl hl.1 rfl (lv_room (Nat.le_of_ble_eq_true rfl)) dX2_digest_91 ⟨Nat.zero_le _, Nat.zero_le _⟩) rfl ?_
                    refine lv_i2l (v := (f_X0_mostAtStake B).toInt64) hx hb dX2_digest_94 rfl ?_
                    refine lv_ladd hx hb dX2_digest_95 ?_
                    refine lv_lstore_n (lv' := [(1, .long (((31) * y0_63) + ((f_X0_mostAtStake B).toInt64))), (0, .ref (x 0)), (3, .int (nI 6))]) hx hb dX2_digest_96 rfl hl (by decide) rfl (fun ls hl => ?_)
                    refine lv_ldc2 hx hb hown (hts (.constantLong RX2 198 (31)) (List.mem_of_getElem? (i := 2) rfl)) dX2_digest_97 ?_
                    refine lv_lload_n hx hb dX2_digest_100 rfl (lv_at hl 0 rfl) ?_
                    refine lv_lmul hx hb dX2_digest_101 ?_
                    refine lv_aload_n hx hb dX2_digest_102 rfl (lv_at hl 1 rfl) ?_
                    refine va_get (D := D) (ci := 2) (v := .ref (b 0 0)) (C := RX2) (T := TX2) (N := 9) hx hb hts hi2 hown hK hP 0 rfl rfl 0 (by decide) (hts (.fieldLink RX2 10 "PledgedLoans" "books" "LPledgedLoans$Books;") (List.mem_of_getElem? (i := 3) rfl)) (fun _ h9 => h9) rfl dX2_digest_103 ?_
                    refine z_E (va_runV (As := []) (rest := [.long ((31) * (((31) * y0_63) + ((f_X0_mostAtStake B).toInt64)))]) ⟨hx, hb, hml, hown, hts⟩ (zc_X0_lentPart l D cA (b 0) B (by exact hl0) (by exact hl2)) (cwV 0 hts gX2_digest_X0_lentPart rfl rfl rfl zy_X0_lentPart ⟨Nat.le_of_ble_eq_true rfl, Nat.le_of_ble_eq_true rfl⟩) (z_preV (ci := 0) hK (hP.sub (ws' := bkW (cA 0) (b 0) B) [6, 7, 8, 9, 10, 11, 12, 13, 14] rfl) (hD.sub (ws' := bkW (cA 0) (b 0) B) [6, 7, 8, 9, 10, 11, 12, 13, 14] (by decide) rfl) rfl rfl) rfl rfl hl.1 rfl (lv_room (Nat.le_of_ble_eq_true rfl)) dX2_digest_106 ⟨Nat.zero_le _, Nat.zero_le _⟩) rfl ?_
                    obtain ⟨y9_106, ey9_106⟩ : ∃ z9 : UInt64, z9 = f_X0_lentPart B := ⟨_, rfl⟩
                    refine z_topd ey9_106.symm ?_
                    refine z_E (va_runS (As := [.double y9_106]) (rest := [.long ((31) * (((31) * y0_63) + ((f_X0_mostAtStake B).toInt64)))]) ⟨hx, hb, hml, hown, hts⟩ (zc_X2_bits l D cA y9_106 (by rw [ey9_106]; exact hdv)) (va_cwS 1 hts gX2_digest_X2_bits rfl rfl rfl zy_X2_bits.2 ⟨Nat.le_of_ble_eq_true rfl, Nat.le_of_ble_eq_true rfl⟩) (z_preS hK z_P0 (z_D0 (A := fun _ => True))) rfl rfl hl.1 rfl (lv_room (Nat.le_of_ble_eq_true rfl)) dX2_digest_109 ⟨Nat.zero_le _, Nat.zero_le _⟩) rfl ?_
                    obtain ⟨y9_109, ey9_109⟩ : ∃ z9 : Int64, z9 = f_X2_bits y9_106 := ⟨_, rfl⟩
                    refine z_topl ey9_109.symm ?_
                    refine lv_ladd hx hb dX2_digest_112 ?_
                    refine lv_lstore_n (lv' := [(1, .long (((31) * (((31) * y0_63) + ((f_X0_mostAtStake B).toInt64))) + y9_109)), (0, .ref (x 0)), (3, .int (nI 6))]) hx hb dX2_digest_113 rfl hl (by decide) rfl (fun ls hl => ?_)
                    refine lv_iconst (v := 0) hx hb dX2_digest_114 (by decide) ?_
                    refine lv_istore_n (lv' := [(3, .int 0), (1, .long (((31) * (((31) * y0_63) + ((f_X0_mostAtStake B).toInt64))) + y9_109)), (0, .ref (x 0))]) hx hb dX2_digest_115 rfl hl (by decide) rfl (fun ls hl => ?_)
                    have loop_116 : ∀ (kk : Nat) (n : Nat) (y0_116 : Int64), n ≤ 2 → 2 - n < kk → y0_116 = f_X2_digest_116 X N B y1_63 (((31) * (((31) * y0_63) + ((f_X0_mostAtStake B).toInt64))) + y9_109) n → ∀ (H : Heap) (locs : List Loc), va_P D vwCl (xmW cA x b rd y1_63 N ++ (bkW (cA 0) (b 0) B)) H → va_D (zfr (xmW cA x b rd X N ++ (bkW (cA 0) (b 0) B))) (xmW cA x b rd y1_63 N ++ (bkW (cA 0) (b 0) B)) → va_S (zfr (xmW cA x b rd X N ++ (bkW (cA 0) (b 0) B))) s.heap H locs → ∀ (ls : Array Slot), lv_has ls 4 [(0, .ref (x 0)), (1, .long y0_116), (3, .int (nI n))] → W p l e (headSpec wsX2_digest (zrm 6 140)).room s m ([.ref (x 0)] : List Value).toArray below meth c H locs 0 0 (MQ below (zM D (xmW cA x b rd X N ++ (bkW (cA 0) (b 0) B)) (xmW cA x b rd ((f_X2_digest X N B).2) N ++ (bkW (cA 0) (b 0) B)) (some (.long ((f_X2_digest X N B).1)))) ([.ref (x 0)] : List Value).toArray s 0 0 (zfr (xmW cA x b rd X N ++ (bkW (cA 0) (b 0) B)))) (F0 m 116 ls []) := by
                      intro kk
                      induction kk with
                      | zero => intro n y0_116 _ h9; exact absurd h9 (Nat.not_lt_zero _)
                      | succ kk ih_116 =>
                        intro n y0_116 hn_116 hm_116 q_y0_116 H locs hP hD hS ls hl
                        refine lv_iload_n hx hb dX2_digest_116 rfl (lv_at hl 2 rfl) ?_
                        refine lv_iconst (v := 2) hx hb dX2_digest_117 (by decide) ?_
                        refine lv_icmp_ge (tgt := 149) hx hb dX2_digest_118 (by decide) (fun c_4 => ?_) (fun c_4 => ?_)
                        · have c_4 : 2 ≤ n := (nI_leI (a := 2) (b := n) (by omega) (by omega)).mp c_4
                          obtain rfl : n = 2 := by omega
                          obtain ⟨z_116, hz_116⟩ : ∃ z9, z9 = f_X2_digest_116 X N B y1_63 (((31) * (((31) * y0_63) + ((f_X0_mostAtStake B).toInt64))) + y9_109) 2 := ⟨_, rfl⟩
                          rw [← hz_116] at q_y0_116
                          refine lv_ldc2 hx hb hown (hts (.constantLong RX2 198 (31)) (List.mem_of_getElem? (i := 2) rfl)) dX2_digest_149 ?_
                          refine lv_lload_n hx hb dX2_digest_152 rfl (lv_at hl 1 rfl) ?_
                          refine lv_lmul hx hb dX2_digest_153 ?_
                          refine lv_aload_n hx hb dX2_digest_154 rfl (lv_at hl 0 rfl) ?_
                          refine va_get (D := D) (ci := 2) (v := .int (nI (N 0 1))) (C := RX2) (T := TX2) (N := 9) hx hb hts hi2 hown hK hP 0 rfl rfl 6 (by decide) (hts (.fieldLink RX2 114 "PledgedLoans" "bufferLength" "I") (List.mem_of_getElem? (i := 6) rfl)) (fun _ h9 => h9) rfl dX2_digest_155 ?_
                          refine lv_i2l (v := (nI (N 0 1)).toInt64) hx hb dX2_digest_158 rfl ?_
                          refine lv_ladd hx hb dX2_digest_159 ?_
                          refine lv_lstore_n (lv' := [(1, .long (((31) * y0_116) + ((nI (N 0 1)).toInt64))), (0, .ref (x 0)), (3, .int (nI 2))]) hx hb dX2_digest_160 rfl hl (by decide) rfl (fun ls hl => ?_)
                          refine lv_iconst (v := 0) hx hb dX2_digest_161 (by decide) ?_
                          refine lv_istore_n (lv' := [(3, .int 0), (1, .long (((31) * y0_116) + ((nI (N 0 1)).toInt64))), (0, .ref (x 0))]) hx hb dX2_digest_162 rfl hl (by decide) rfl (fun ls hl => ?_)
                          have loop_163 : ∀ (kk : Nat) (n : Nat) (y0_163 : Int64), n ≤ N 0 1 → N 0 1 - n < kk → y0_163 = f_X2_digest_163 X N B y1_63 (((31) * y0_116) + ((nI (N 0 1)).toInt64)) n → ∀ (H : Heap) (locs : List Loc), va_P D vwCl (xmW cA x b rd y1_63 N ++ (bkW (cA 0) (b 0) B)) H → va_D (zfr (xmW cA x b rd X N ++ (bkW (cA 0) (b 0) B))) (xmW cA x b rd y1_63 N ++ (bkW (cA 0) (b 0) B)) → va_S (zfr (xmW cA x b rd X N ++ (bkW (cA 0) (b 0) B))) s.heap H locs → ∀ (ls : Array Slot), lv_has ls 4 [(0, .ref (x 0)), (1, .long y0_163), (3, .int (nI n))] → W p l e (headSpec wsX2_digest (zrm 6 140)).room s m ([.ref (x 0)] : List Value).toArray below meth c H locs 0 0 (MQ below (zM D (xmW cA x b rd X N ++ (bkW (cA 0) (b 0) B)) (xmW cA x b rd ((f_X2_digest X N B).2) N ++ (bkW (cA 0) (b 0) B)) (some (.long ((f_X2_digest X N B).1)))) ([.ref (x 0)] : List Value).toArray s 0 0 (zfr (xmW cA x b rd X N ++ (bkW (cA 0) (b 0) B)))) (F0 m 163 ls []) := by
                            intro kk
                            induction kk with
                            | zero => intro n y0_163 _ h9; exact absurd h9 (Nat.not_lt_zero _)
                            | succ kk ih_163 =>
                              intro n y0_163 hn_163 hm_163 q_y0_163 H locs hP hD hS ls hl
                              refine lv_iload_n hx hb dX2_digest_163 rfl (lv_at hl 2 rfl) ?_
                              refine lv_aload_n hx hb dX2_digest_164 rfl (lv_at hl 0 rfl) ?_
                              refine va_get (D := D) (ci := 2) (v := .int (nI (N 0 1))) (C := RX2) (T := TX2) (N := 9) hx hb hts hi2 hown hK hP 0 rfl rfl 6 (by decide) (hts (.fieldLink RX2 114 "PledgedLoans" "bufferLength" "I") (List.mem_of_getElem? (i := 6) rfl)) (fun _ h9 => h9) rfl dX2_digest_165 ?_
                              refine lv_icmp_ge (tgt := 191) hx hb dX2_digest_168 (by decide) (fun c_5 => ?_) (fun c_5 => ?_)
                              · have c_5 : (N 0 1) ≤ n := (nI_leI (a := (N 0 1)) (b := n) (by omega) (by omega)).mp c_5
                                have hn9 : n = N 0 1 := by omega
                                subst hn9
                                refine lv_lload_n hx hb dX2_digest_191 rfl (lv_at hl 1 rfl) ?_
                                exact z_lretM (w1 := xmW cA x b rd y1_63 N ++ (bkW (cA 0) (b 0) B)) hx hb hr hlocks dX2_digest_192 hP hS (by subst q_y0_163 q_y0_116 ey9_109 ey9_106 q_y1_63 q_y0_63 q_y0_33 q_y0_6; first | (simp -proj only [f_X2_digest, ← hz_6, ← hz_33, ← hz_63, ← hz_116]; first | done | rfl; done) | rfl) (by subst q_y0_163 q_y0_116 ey9_109 ey9_106 q_y1_63 q_y0_63 q_y0_33 q_y0_6; first | (simp -proj only [f_X2_digest, ← hz_6, ← hz_33, ← hz_63, ← hz_116]; first | done | rfl; done) | rfl)
                              · have c_5 : ¬ (N 0 1) ≤ n := fun h9 => c_5 ((nI_leI (a := (N 0 1)) (b := n) (by omega) (by omega)).mpr h9)
                                refine lv_ldc2 hx hb hown (hts (.constantLong RX2 198 (31)) (List.mem_of_getElem? (i := 2) rfl)) dX2_digest_171 ?_
                                refine lv_lload_n hx hb dX2_digest_174 rfl (lv_at hl 1 rfl) ?_
                                refine lv_lmul hx hb dX2_digest_175 ?_
                                refine lv_aload_n hx hb dX2_digest_176 rfl (lv_at hl 0 rfl) ?_
                                refine va_get (D := D) (ci := 2) (v := .ref (x 4)) (C := RX2) (T := TX2) (N := 9) hx hb hts hi2 hown hK hP 0 rfl rfl 5 (by decide) (hts (.fieldLink RX2 27 "PledgedLoans" "buffer" "[C") (List.mem_of_getElem? (i := 7) rfl)) (fun _ h9 => h9) rfl dX2_digest_177 ?_
                                refine lv_iload_n hx hb dX2_digest_180 rfl (lv_at hl 2 rfl) ?_
                                refine z_cald (j := n) hx hb hK hP 4 2 rfl rfl dX2_digest_181 (by omega) (by decide) ?_
                                refine z_top (y := nI (N 2 n)) rfl ?_
                                refine lv_i2l (v := (nI (N 2 n)).toInt64) hx hb dX2_digest_182 rfl ?_
                                refine lv_ladd hx hb dX2_digest_183 ?_
                                refine lv_lstore_n (lv' := [(1, .long (((31) * y0_163) + ((nI (N 2 n)).toInt64))), (0, .ref (x 0)), (3, .int (nI n))]) hx hb dX2_digest_184 rfl hl (by decide) rfl (fun ls hl => ?_)
                                refine lv_iinc (v := nI (n + 1)) (lv' := [(3, .int (nI (n + 1))), (1, .long (((31) * y0_163) + ((nI (N 2 n)).toInt64))), (0, .ref (x 0))]) hx hb dX2_digest_185 hl (k := 2) rfl (by rw [show (Int32.ofInt 1) = nI 1 from by decide]; exact nI_add n 1) (by decide) rfl (fun ls hl => ?_)
                                refine lv_goto (tgt := 163) hx hb dX2_digest_188 (by decide) ?_
                                exact ih_163 (n + 1) _ (by omega) (by omega) (by subst q_y0_163 q_y0_116 ey9_109 ey9_106 q_y1_63 q_y0_63 q_y0_33 q_y0_6; first | (simp -proj only [f_X2_digest_163, ← hz_6, ← hz_33, ← hz_63, ← hz_116]; first | done | rfl; done) | rfl) _ _ hP hD hS ls (lv_sub hl [2, 1, 0] rfl)
                          exact loop_163 _ 0 _ (by omega) (Nat.lt_succ_self _) rfl _ _ hP hD hS ls (lv_sub hl [2, 1, 0] rfl)
                        · have c_4 : ¬ 2 ≤ n := fun h9 => c_4 ((nI_leI (a := 2) (b := n) (by omega) (by omega)).mpr h9)
                          refine lv_ldc2 hx hb hown (hts (.constantLong RX2 198 (31)) (List.mem_of_getElem? (i := 2) rfl)) dX2_digest_121 ?_
                          refine lv_lload_n hx hb dX2_digest_124 rfl (lv_at hl 1 rfl) ?_
                          refine lv_lmul hx hb dX2_digest_125 ?_
                          refine lv_aload_n hx hb dX2_digest_126 rfl (lv_at hl 0 rfl) ?_
                          refine va_get (D := D) (ci := 2) (v := .ref (x 3)) (C := RX2) (T := TX2) (N := 9) hx hb hts hi2 hown hK hP 0 rfl rfl 4 (by decide) (hts (.fieldLink RX2 23 "PledgedLoans" "slotFilled" "[Z") (List.mem_of_getElem? (i := 5) rfl)) (fun _ h9 => h9) rfl dX2_digest_127 ?_
                          refine lv_iload_n hx hb dX2_digest_130 rfl (lv_at hl 2 rfl) ?_
                          refine z_zald (j := n) hx hb hK hP 3 1 rfl rfl dX2_digest_131 (by omega) (by decide) ?_
                          refine lv_if_eq (tgt := 139) hx hb dX2_digest_132 (by decide) (fun c_6 => ?_) (fun c_6 => ?_)
                          · refine lv_iconst (v := 0) hx hb dX2_digest_139 (by decide) ?_
                            refine lv_i2l (v := (0 : Int32).toInt64) hx hb dX2_digest_140 rfl ?_
                            refine lv_ladd hx hb dX2_digest_141 ?_
                            refine lv_lstore_n (lv' := [(1, .long (((31) * y0_116) + ((0 : Int32).toInt64))), (0, .ref (x 0)), (3, .int (nI n))]) hx hb dX2_digest_142 rfl hl (by decide) rfl (fun ls hl => ?_)
                            refine lv_iinc (v := nI (n + 1)) (lv' := [(3, .int (nI (n + 1))), (1, .long (((31) * y0_116) + ((0 : Int32).toInt64))), (0, .ref (x 0))]) hx hb dX2_digest_143 hl (k := 2) rfl (by rw [show (Int32.ofInt 1) = nI 1 from by decide]; exact nI_add n 1) (by decide) rfl (fun ls hl => ?_)
                            refine lv_goto (tgt := 116) hx hb dX2_digest_146 (by decide) ?_
                            exact ih_116 (n + 1) _ (by omega) (by omega) (by subst q_y0_116 ey9_109 ey9_106 q_y1_63 q_y0_63 q_y0_33 q_y0_6; simp -proj only [f_X2_digest_116, if_pos c_6, ← hz_6, ← hz_33, ← hz_63]; first | done | rfl) _ _ hP hD hS ls (lv_sub hl [2, 1, 0] rfl)
                          · refine lv_iconst (v := 1) hx hb dX2_digest_135 (by decide) ?_
                            refine lv_goto (tgt := 140) hx hb dX2_digest_136 (by decide) ?_
                            refine lv_i2l (v := (1 : Int32).toInt64) hx hb dX2_digest_140 rfl ?_
                            refine lv_ladd hx hb dX2_digest_141 ?_
                            refine lv_lstore_n (lv' := [(1, .long (((31) * y0_116) + ((1 : Int32).toInt64))), (0, .ref (x 0)), (3, .int (nI n))]) hx hb dX2_digest_142 rfl hl (by decide) rfl (fun ls hl => ?_)
                            refine lv_iinc (v := nI (n + 1)) (lv' := [(3, .int (nI (n + 1))), (1, .long (((31) * y0_116) + ((1 : Int32).toInt64))), (0, .ref (x 0))]) hx hb dX2_digest_143 hl (k := 2) rfl (by rw [show (Int32.ofInt 1) = nI 1 from by decide]; exact nI_add n 1) (by decide) rfl (fun ls hl => ?_)
                            refine lv_goto (tgt := 116) hx hb dX2_digest_146 (by decide) ?_
                            exact ih_116 (n + 1) _ (by omega) (by omega) (by subst q_y0_116 ey9_109 ey9_106 q_y1_63 q_y0_63 q_y0_33 q_y0_6; simp -proj only [f_X2_digest_116, if_neg c_6, ← hz_6, ← hz_33, ← hz_63]; first | done | rfl) _ _ hP hD hS ls (lv_sub hl [2, 1, 0] rfl)
                    exact loop_116 _ 0 _ (by omega) (Nat.lt_succ_self _) rfl _ _ hP hD hS ls (lv_sub hl [2, 1, 0] rfl)
                  · have c_3 : ¬ 6 ≤ n := fun h9 => c_3 ((nI_leI (a := 6) (b := n) (by omega) (by omega)).mpr h9)
                    refine lv_aload_n hx hb dX2_digest_69 rfl (lv_at hl 0 rfl) ?_
                    refine lv_lload_n hx hb dX2_digest_70 rfl (lv_at hl 1 rfl) ?_
                    refine lv_iload_n hx hb dX2_digest_71 rfl (lv_at hl 2 rfl) ?_
                    refine z_M (X := ([] : va_W)) (Z := ([] : va_W)) (va_runV (As := [.long y0_63, .int (nI n)]) (rest := []) ⟨hx, hb, hml, hown, hts⟩ (zc_X2_digestOfMember l D cA b rd x y1_63 N B y0_63 n (by omega)) (cwV 2 hts gX2_digest_X2_digestOfMember rfl rfl rfl zy_X2_digestOfMember ⟨Nat.le_of_ble_eq_true rfl, Nat.le_of_ble_eq_true rfl⟩) (z_preV (ci := 2) hK hP hD rfl rfl) rfl rfl hl.1 rfl (lv_room (Nat.le_of_ble_eq_true rfl)) dX2_digest_72 ⟨Nat.zero_le _, Nat.zero_le _⟩) hP hD hS (z_adr2 xmW_adr bkW_adr) rfl (fun H locs hP9 hD9 hS9 => ?_)
                    replace hP : va_P D vwCl (xmW cA x b rd ((f_X2_digestOfMember y1_63 B y0_63 n).2) N ++ (bkW (cA 0) (b 0) B)) H := hP9
                    replace hD : va_D _ (xmW cA x b rd ((f_X2_digestOfMember y1_63 B y0_63 n).2) N ++ (bkW (cA 0) (b 0) B)) := hD9
                    replace hS := hS9
                    clear hP9 hD9 hS9
                    obtain ⟨M_7, eM_7⟩ : ∃ z9 : BK, z9 = (f_X2_digestOfMember y1_63 B y0_63 n).2 := ⟨_, rfl⟩
                    rw [← eM_7] at hP hD
                    refine lv_lstore_n (lv' := [(1, .long ((f_X2_digestOfMember y1_63 B y0_63 n).1)), (0, .ref (x 0)), (3, .int (nI n))]) hx hb dX2_digest_75 rfl hl (by decide) rfl (fun ls hl => ?_)
                    refine lv_iinc (v := nI (n + 1)) (lv' := [(3, .int (nI (n + 1))), (1, .long ((f_X2_digestOfMember y1_63 B y0_63 n).1)), (0, .ref (x 0))]) hx hb dX2_digest_76 hl (k := 2) rfl (by rw [show (Int32.ofInt 1) = nI 1 from by decide]; exact nI_add n 1) (by decide) rfl (fun ls hl => ?_)
                    refine lv_goto (tgt := 63) hx hb dX2_digest_79 (by decide) ?_
                    exact ih_63 (n + 1) _ _ (by omega) (by omega) (by subst eM_7 q_y1_63 q_y0_63 q_y0_33 q_y0_6; rw [zs_63]) (by subst eM_7 q_y1_63 q_y0_63 q_y0_33 q_y0_6; rw [zs_63]) _ _ hP hD hS ls (lv_sub hl [2, 1, 0] rfl)
              exact loop_63 _ 0 _ _ (by omega) (Nat.lt_succ_self _) rfl rfl _ _ hP hD hS ls (lv_sub hl [1, 2, 0] rfl)
            · have c_2 : ¬ 2 ≤ n := fun h9 => c_2 ((nI_leI (a := 2) (b := n) (by omega) (by omega)).mpr h9)
              refine lv_ldc2 hx hb hown (hts (.constantLong RX2 198 (31)) (List.mem_of_getElem? (i := 2) rfl)) dX2_digest_38 ?_
              refine lv_lload_n hx hb dX2_digest_41 rfl (lv_at hl 1 rfl) ?_
              refine lv_lmul hx hb dX2_digest_42 ?_
              refine lv_aload_n hx hb dX2_digest_43 rfl (lv_at hl 0 rfl) ?_
              refine va_get (D := D) (ci := 2) (v := .ref (b 0 0)) (C := RX2) (T := TX2) (N := 9) hx hb hts hi2 hown hK hP 0 rfl rfl 0 (by decide) (hts (.fieldLink RX2 10 "PledgedLoans" "books" "LPledgedLoans$Books;") (List.mem_of_getElem? (i := 3) rfl)) (fun _ h9 => h9) rfl dX2_digest_44 ?_
              refine va_get (D := D) (ci := 0) (v := .ref (b 0 8)) (C := RX0) (T := TX0) (N := 16) hx hb hts hi0 hown hK hP 6 rfl rfl 7 (by decide) (hts (.fieldLink RX2 111 "PledgedLoans$Books" "settings" "[I") (List.mem_of_getElem? (i := 4) rfl)) (fun _ h9 => h9) rfl dX2_digest_47 ?_
              refine lv_iload_n hx hb dX2_digest_50 rfl (lv_at hl 2 rfl) ?_
              refine z_iald (j := n) hx hb hK hP 14 0 rfl rfl dX2_digest_51 (by omega) (by decide) ?_
              refine lv_i2l (v := (B 7 n).toInt64) hx hb dX2_digest_52 rfl ?_
              refine lv_ladd hx hb dX2_digest_53 ?_
              refine lv_lstore_n (lv' := [(1, .long (((31) * y0_33) + ((B 7 n).toInt64))), (0, .ref (x 0)), (3, .int (nI n))]) hx hb dX2_digest_54 rfl hl (by decide) rfl (fun ls hl => ?_)
              refine lv_iinc (v := nI (n + 1)) (lv' := [(3, .int (nI (n + 1))), (1, .long (((31) * y0_33) + ((B 7 n).toInt64))), (0, .ref (x 0))]) hx hb dX2_digest_55 hl (k := 2) rfl (by rw [show (Int32.ofInt 1) = nI 1 from by decide]; exact nI_add n 1) (by decide) rfl (fun ls hl => ?_)
              refine lv_goto (tgt := 33) hx hb dX2_digest_58 (by decide) ?_
              exact ih_33 (n + 1) _ (by omega) (by omega) (by subst q_y0_33 q_y0_6; first | (simp -proj only [f_X2_digest_33, ← hz_6]; first | done | rfl; done) | rfl) _ _ hP hD hS ls (lv_sub hl [2, 1, 0] rfl)
        exact loop_33 _ 0 _ (by omega) (Nat.lt_succ_self _) rfl _ _ hP hD hS ls (lv_sub hl [1, 2, 0] rfl)
      · have c_1 : ¬ 12 ≤ n := fun h9 => c_1 ((nI_leI (a := 12) (b := n) (by omega) (by omega)).mpr h9)
        refine lv_ldc2 hx hb hown (hts (.constantLong RX2 198 (31)) (List.mem_of_getElem? (i := 2) rfl)) dX2_digest_12 ?_
        refine lv_lload_n hx hb dX2_digest_15 rfl (lv_at hl 1 rfl) ?_
        refine lv_lmul hx hb dX2_digest_16 ?_
        refine lv_aload_n hx hb dX2_digest_17 rfl (lv_at hl 0 rfl) ?_
        refine lv_iload_n hx hb dX2_digest_18 rfl (lv_at hl 2 rfl) ?_
        refine z_E (va_runV (As := [.int (nI n)]) (rest := [.long ((31) * y0_6)]) ⟨hx, hb, hml, hown, hts⟩ (zc_X2_number l D cA b rd x X N B n (by omega)) (cwV 1 hts gX2_digest_X2_number rfl rfl rfl zy_X2_number ⟨Nat.le_of_ble_eq_true rfl, Nat.le_of_ble_eq_true rfl⟩) (z_preV (ci := 2) hK hP hD rfl rfl) rfl rfl hl.1 rfl (lv_room (Nat.le_of_ble_eq_true rfl)) dX2_digest_19 ⟨Nat.zero_le _, Nat.zero_le _⟩) rfl ?_
        refine lv_i2l (v := (f_X2_number N B n).toInt64) hx hb dX2_digest_22 rfl ?_
        refine lv_ladd hx hb dX2_digest_23 ?_
        refine lv_lstore_n (lv' := [(1, .long (((31) * y0_6) + ((f_X2_number N B n).toInt64))), (0, .ref (x 0)), (3, .int (nI n))]) hx hb dX2_digest_24 rfl hl (by decide) rfl (fun ls hl => ?_)
        refine lv_iinc (v := nI (n + 1)) (lv' := [(3, .int (nI (n + 1))), (1, .long (((31) * y0_6) + ((f_X2_number N B n).toInt64))), (0, .ref (x 0))]) hx hb dX2_digest_25 hl (k := 2) rfl (by rw [show (Int32.ofInt 1) = nI 1 from by decide]; exact nI_add n 1) (by decide) rfl (fun ls hl => ?_)
        refine lv_goto (tgt := 6) hx hb dX2_digest_28 (by decide) ?_
        exact ih_6 (n + 1) _ (by omega) (by omega) (by subst q_y0_6; first | (simp -proj only [f_X2_digest_6]; first | done | rfl; done) | rfl) _ _ hP hD hS ls (lv_sub hl [2, 1, 0] rfl)
  exact loop_6 _ 0 _ (by omega) (Nat.lt_succ_self _) rfl _ _ hP hD hS ls (lv_sub hl [2, 1, 0] rfl)

theorem zy_X2_dropOldest : yX2_dropOldest.cls = RX2 ∧ yX2_dropOldest.cls ≠ "java/lang/invoke/MethodHandle" ∧ yX2_dropOldest.cls ≠ "java/lang/invoke/VarHandle" ∧ (parseMethodDescriptor yX2_dropOldest.desc).map (fun d => d.parameters.length) = some 0 := by decide +kernel
def f_X2_dropOldest_9 (N : NK) : Nat → Nat → NK → NK
  | 0, q, N1 => N1
  | k + 1, q, N1 =>
    if 6 ≤ q then
      uN (uN N1 1 5 (N 1 0)) 0 0 5
    else
      f_X2_dropOldest_9 N k (q + 1) (uN N1 1 (q - 1) (N1 1 q))
def f_X2_dropOldest (N : NK) : NK :=
  f_X2_dropOldest_9 N 7 1 N

theorem zn_do9 (N : NK) : ∀ (k q : Nat) (N1 : NK), 6 - q < k → (f_X2_dropOldest_9 N k q N1) 0 0 = 5 := by
  intro k
  induction k with
  | zero => intro q N1 h; omega
  | succ k ih =>
    intro q N1 h
    unfold f_X2_dropOldest_9
    by_cases c : 6 ≤ q
    · rw [if_pos c]; rfl
    · rw [if_neg c]; exact ih _ _ (by omega)
theorem zn_X2_dropOldest (N : NK) : (f_X2_dropOldest N) 0 0 = 5 := zn_do9 N _ _ _ (by omega)
theorem zpm_do9 (N : NK) (h0 : zpm N) : ∀ (k q : Nat) (N1 : NK), zpm N1 → zpm (f_X2_dropOldest_9 N k q N1) := by
  intro k
  induction k with
  | zero => intro q N1 h; exact h
  | succ k ih =>
    intro q N1 h
    unfold f_X2_dropOldest_9
    by_cases c : 6 ≤ q
    · rw [if_pos c]
      exact zpm_up h (h0 0 (by omega))
    · rw [if_neg c]
      exact ih _ _ (zpm_up h (h q (by omega)))
theorem zpm_drop {N : NK} (h : zpm N) : zpm (f_X2_dropOldest N) := zpm_do9 N h _ _ _ h

set_option maxHeartbeats 4000000 in
set_option maxRecDepth 100000 in
theorem zc_X2_dropOldest (l : Launch) (D : va_G) (cA : Nat → ClassId) (b : Nat → Nat → Nat) (rd : Nat) (x : Nat → Nat) (X : BK) (N : NK) (B : BK) (Bs : Nat → BK) (hpm : zpm N) : Met l yX2_dropOldest wsX2_dropOldest (zrm 0 0) (zPc D cA [.ref (x 0)] (xmW cA x b rd X N ++ (bkW (cA 0) (b 0) B ++ (otW (cA 0) b Bs)))) (zM D (xmW cA x b rd X N ++ (bkW (cA 0) (b 0) B ++ (otW (cA 0) b Bs))) (xmW cA x b rd X (f_X2_dropOldest N) ++ (bkW (cA 0) (b 0) B ++ (otW (cA 0) b Bs))) none) 0 0 (zfr (xmW cA x b rd X N ++ (bkW (cA 0) (b 0) B ++ (otW (cA 0) b Bs)))) := by
  refine Met.ofW (cc := cX2_dropOldest) (maxL := 3) (ret := none) (by decide) rfl ?_
  intro p e s m args below meth c s₁ Bd hml hv
  obtain ⟨rfl, hP, hK, hD0⟩ := hv
  have hx := Bd.exec
  have hb := Bd.bytes
  have hr := Bd.returns
  have hts := atoms_spec (ws := wsX2_dropOldest) Bd.pre
  have hown : s.vm.findClass RX2 = some m.cls := findClass_of_methodNamed Bd.named
  have hlocks := Bd.notSynchronized
  have hD := z_Dfr hD0
  have hS : va_S (zfr (xmW cA x b rd X N ++ (bkW (cA 0) (b 0) B ++ (otW (cA 0) b Bs)))) s.heap s.heap [] := va_S.rf
  have hi2 : ∀ w ∈ wsX20, w ∈ wsX2_dropOldest := fun w h => List.mem_cons_of_mem _ (List.mem_append_right _ h)
  have hl := lv_entry ([.ref (x 0)]) (n := 3) (Nat.le_of_ble_eq_true rfl)
  rw [lg_entry_eq]
  generalize (lg_sl ([.ref (x 0)]) ++ List.replicate (3 - (lg_sl ([.ref (x 0)])).length) Slot.unset).toArray = ls at hl ⊢
  have hl : lv_has ls 3 [(0, .ref (x 0))] := hl
  refine lv_aload_n hx hb dX2_dropOldest_0 rfl (lv_at hl 0 rfl) ?_
  refine va_get (D := D) (ci := 2) (v := .ref (x 1)) (C := RX2) (T := TX2) (N := 9) hx hb hts hi2 hown hK hP 0 rfl rfl 1 (by decide) (hts (.fieldLink RX2 16 "PledgedLoans" "saved" "[LPledgedLoans$Books;") (List.mem_of_getElem? (i := 1) rfl)) (fun _ h9 => h9) rfl dX2_dropOldest_1 ?_
  refine lv_iconst (v := 0) hx hb dX2_dropOldest_4 (by decide) ?_
  refine z_aldq (j := 0) (v := b (N 1 0) 0) hx hb hK hP 1 3 rfl rfl dX2_dropOldest_5 (by omega) (by decide) rfl ?_
  refine lv_astore_n (lv' := [(1, .ref (b (N 1 0) 0)), (0, .ref (x 0))]) hx hb dX2_dropOldest_6 rfl hl (by decide) rfl (fun ls hl => ?_)
  refine lv_iconst (v := 1) hx hb dX2_dropOldest_7 (by decide) ?_
  refine lv_istore_n (lv' := [(2, .int 1), (1, .ref (b (N 1 0) 0)), (0, .ref (x 0))]) hx hb dX2_dropOldest_8 rfl hl (by decide) rfl (fun ls hl => ?_)
  have loop_9 : ∀ (kk : Nat) (q : Nat) (N1 : NK), 6 - q < kk → 1 ≤ q → zpm N1 → q ≤ 6 → f_X2_dropOldest N = f_X2_dropOldest_9 N kk q N1 → ∀ (H : Heap) (locs : List Loc), va_P D vwCl (xmW cA x b rd X N1 ++ (bkW (cA 0) (b 0) B ++ (otW (cA 0) b Bs))) H → va_D (zfr (xmW cA x b rd X N ++ (bkW (cA 0) (b 0) B ++ (otW (cA 0) b Bs)))) (xmW cA x b rd X N1 ++ (bkW (cA 0) (b 0) B ++ (otW (cA 0) b Bs))) → va_S (zfr (xmW cA x b rd X N ++ (bkW (cA 0) (b 0) B ++ (otW (cA 0) b Bs)))) s.heap H locs → ∀ (ls : Array Slot), lv_has ls 3 [(0, .ref (x 0)), (1, .ref (b (N 1 0) 0)), (2, .int (nI q))] → W p l e (headSpec wsX2_dropOldest (zrm 0 0)).room s m ([.ref (x 0)] : List Value).toArray below meth c H locs 0 0 (MQ below (zM D (xmW cA x b rd X N ++ (bkW (cA 0) (b 0) B ++ (otW (cA 0) b Bs))) (xmW cA x b rd X (f_X2_dropOldest N) ++ (bkW (cA 0) (b 0) B ++ (otW (cA 0) b Bs))) none) ([.ref (x 0)] : List Value).toArray s 0 0 (zfr (xmW cA x b rd X N ++ (bkW (cA 0) (b 0) B ++ (otW (cA 0) b Bs))))) (F0 m 9 ls []) := by
    intro kk
    induction kk with
    | zero => intro q N1 h9; exact absurd h9 (Nat.not_lt_zero _)
    | succ kk ih_9 =>
      intro q N1 hm_9 hi0_9 hi1_9 hi2_9 hres_9 H locs hP hD hS ls hl
      refine lv_iload_n hx hb dX2_dropOldest_9 rfl (lv_at hl 2 rfl) ?_
      refine lv_bipush (v := 6) hx hb dX2_dropOldest_10 (by decide) ?_
      refine lv_icmp_ge (tgt := 35) hx hb dX2_dropOldest_12 (by decide) (fun c_1 => ?_) (fun c_1 => ?_)
      · have c_1 : 6 ≤ q := (nI_leI (a := 6) (b := q) (by omega) (by omega)).mp c_1
        refine lv_aload_n hx hb dX2_dropOldest_35 rfl (lv_at hl 0 rfl) ?_
        refine va_get (D := D) (ci := 2) (v := .ref (x 1)) (C := RX2) (T := TX2) (N := 9) hx hb hts hi2 hown hK hP 0 rfl rfl 1 (by decide) (hts (.fieldLink RX2 16 "PledgedLoans" "saved" "[LPledgedLoans$Books;") (List.mem_of_getElem? (i := 1) rfl)) (fun _ h9 => h9) rfl dX2_dropOldest_36 ?_
        refine lv_iconst (v := 5) hx hb dX2_dropOldest_39 (by decide) ?_
        refine lv_aload_n hx hb dX2_dropOldest_40 rfl (lv_at hl 1 rfl) ?_
        obtain ⟨hq1, hq2⟩ : 1 ≤ (N 1 0) ∧ (N 1 0) ≤ 8 := by have := hpm 0 (by omega); omega
        refine z_aastB (j := 5) (v := (N 1 0)) (b := b) (N := N1) hx hb hK hP hD hS 1 (15 + 9 * ((N 1 0) - 1)) rfl (ot_get15 (N 1 0) hq1 hq2) dX2_dropOldest_41 (by omega) (by decide) (xmW cA x b rd X (uN N1 1 5 (N 1 0)) ++ (bkW (cA 0) (b 0) B ++ (otW (cA 0) b Bs))) rfl (fun H locs hP9 hD9 hS9 => ?_)
        replace hP : va_P D vwCl (xmW cA x b rd X (uN N1 1 5 (N 1 0)) ++ (bkW (cA 0) (b 0) B ++ (otW (cA 0) b Bs))) H := hP9
        replace hD : va_D _ (xmW cA x b rd X (uN N1 1 5 (N 1 0)) ++ (bkW (cA 0) (b 0) B ++ (otW (cA 0) b Bs))) := hD9
        replace hS := hS9
        clear hP9 hD9 hS9
        refine lv_aload_n hx hb dX2_dropOldest_42 rfl (lv_at hl 0 rfl) ?_
        refine lv_iconst (v := 5) hx hb dX2_dropOldest_43 (by decide) ?_
        refine va_put (D := D) (ci := 2) (v := .int 5) (ty := .int) (C := RX2) (T := TX2) (N := 9) hx hb hts hi2 tyX2 tyX2_ok nmX2 hown hK hP hD hS 0 rfl rfl 2 (by decide) (hts (.fieldLink RX2 143 "PledgedLoans" "savedStates" "I") (List.mem_of_getElem? (i := 2) rfl)) (fun _ h9 => h9) rfl (by decide +kernel) rfl rfl (Nat.le_of_ble_eq_true rfl) dX2_dropOldest_44 (fun H locs hP9 hD9 hS9 => ?_)
        replace hP : va_P D vwCl (xmW cA x b rd X (uN (uN N1 1 5 (N 1 0)) 0 0 5) ++ (bkW (cA 0) (b 0) B ++ (otW (cA 0) b Bs))) H := hP9
        replace hD : va_D _ (xmW cA x b rd X (uN (uN N1 1 5 (N 1 0)) 0 0 5) ++ (bkW (cA 0) (b 0) B ++ (otW (cA 0) b Bs))) := hD9
        replace hS := hS9
        clear hP9 hD9 hS9
        exact z_vretM (w1 := xmW cA x b rd X (uN (uN N1 1 5 (N 1 0)) 0 0 5) ++ (bkW (cA 0) (b 0) B ++ (otW (cA 0) b Bs))) hx hb hr hlocks dX2_dropOldest_47 hP hS (by rw [hres_9]; simp only [f_X2_dropOldest_9, if_pos c_1])
      · have c_1 : ¬ 6 ≤ q := fun h9 => c_1 ((nI_leI (a := 6) (b := q) (by omega) (by omega)).mpr h9)
        refine lv_aload_n hx hb dX2_dropOldest_15 rfl (lv_at hl 0 rfl) ?_
        refine va_get (D := D) (ci := 2) (v := .ref (x 1)) (C := RX2) (T := TX2) (N := 9) hx hb hts hi2 hown hK hP 0 rfl rfl 1 (by decide) (hts (.fieldLink RX2 16 "PledgedLoans" "saved" "[LPledgedLoans$Books;") (List.mem_of_getElem? (i := 1) rfl)) (fun _ h9 => h9) rfl dX2_dropOldest_16 ?_
        refine lv_iload_n hx hb dX2_dropOldest_19 rfl (lv_at hl 2 rfl) ?_
        refine lv_iconst (v := 1) hx hb dX2_dropOldest_20 (by decide) ?_
        refine lv_isub hx hb dX2_dropOldest_21 ?_
        refine z_top (pk_sub (a := q) (b := 1) (by omega)) ?_
        refine lv_aload_n hx hb dX2_dropOldest_22 rfl (lv_at hl 0 rfl) ?_
        refine va_get (D := D) (ci := 2) (v := .ref (x 1)) (C := RX2) (T := TX2) (N := 9) hx hb hts hi2 hown hK hP 0 rfl rfl 1 (by decide) (hts (.fieldLink RX2 16 "PledgedLoans" "saved" "[LPledgedLoans$Books;") (List.mem_of_getElem? (i := 1) rfl)) (fun _ h9 => h9) rfl dX2_dropOldest_23 ?_
        refine lv_iload_n hx hb dX2_dropOldest_26 rfl (lv_at hl 2 rfl) ?_
        refine z_aldq (j := q) (v := b (N1 1 q) 0) hx hb hK hP 1 3 rfl rfl dX2_dropOldest_27 (by omega) (by decide) rfl ?_
        obtain ⟨hq1, hq2⟩ : 1 ≤ (N1 1 q) ∧ (N1 1 q) ≤ 8 := by have := hi1_9 q (by omega); omega
        refine z_aastB (j := q - 1) (v := (N1 1 q)) (b := b) (N := N1) hx hb hK hP hD hS 1 (15 + 9 * ((N1 1 q) - 1)) rfl (ot_get15 (N1 1 q) hq1 hq2) dX2_dropOldest_28 (by omega) (by decide) (xmW cA x b rd X (uN N1 1 (q - 1) (N1 1 q)) ++ (bkW (cA 0) (b 0) B ++ (otW (cA 0) b Bs))) rfl (fun H locs hP9 hD9 hS9 => ?_)
        replace hP : va_P D vwCl (xmW cA x b rd X (uN N1 1 (q - 1) (N1 1 q)) ++ (bkW (cA 0) (b 0) B ++ (otW (cA 0) b Bs))) H := hP9
        replace hD : va_D _ (xmW cA x b rd X (uN N1 1 (q - 1) (N1 1 q)) ++ (bkW (cA 0) (b 0) B ++ (otW (cA 0) b Bs))) := hD9
        replace hS := hS9
        clear hP9 hD9 hS9
        refine lv_iinc (v := nI (q + 1)) (lv' := [(2, .int (nI (q + 1))), (0, .ref (x 0)), (1, .ref (b (N 1 0) 0))]) hx hb dX2_dropOldest_29 hl (k := 2) rfl (by rw [show (Int32.ofInt 1) = nI 1 from by decide]; exact nI_add q 1) (by decide) rfl (fun ls hl => ?_)
        refine lv_goto (tgt := 9) hx hb dX2_dropOldest_32 (by decide) ?_
        exact ih_9 (q + 1) (uN N1 1 (q - 1) (N1 1 q)) (by omega) (by omega) (by exact zpm_up hi1_9 (hi1_9 q (by omega))) (by omega) (by rw [hres_9]; simp only [f_X2_dropOldest_9, if_neg c_1]) _ _ hP hD hS ls (lv_sub hl [1, 2, 0] rfl)
  exact loop_9 7 1 N (by omega) (by omega) (by exact hpm) (by omega) (by first | (simp only [f_X2_dropOldest]; done) | rfl) _ _ hP hD hS ls (lv_sub hl [2, 1, 0] rfl)

theorem zy_X2_saveState : yX2_saveState.cls = RX2 ∧ yX2_saveState.cls ≠ "java/lang/invoke/MethodHandle" ∧ yX2_saveState.cls ≠ "java/lang/invoke/VarHandle" ∧ (parseMethodDescriptor yX2_saveState.desc).map (fun d => d.parameters.length) = some 0 := by decide +kernel
def f_X2_saveState (N : NK) (B : BK) (Bs : Nat → BK) : NK × (Nat → BK) :=
  if (N 0 0) < 6 then
    let M_2 : Nat → BK := (fun j => if j = (N 1 (N 0 0)) then B else Bs j)
    (uN N 0 0 ((N 0 0) + 1), M_2)
  else
    let N_4 : NK := f_X2_dropOldest N
    let M_5 : Nat → BK := (fun j => if j = (N_4 1 (N_4 0 0)) then B else Bs j)
    (uN N_4 0 0 ((N_4 0 0) + 1), M_5)

set_option maxHeartbeats 4000000 in
set_option maxRecDepth 100000 in
theorem zc_X2_saveState (l : Launch) (D : va_G) (cA : Nat → ClassId) (b : Nat → Nat → Nat) (rd : Nat) (x : Nat → Nat) (X : BK) (N : NK) (B : BK) (Bs : Nat → BK) (hpm : zpm N) (hsv2 : N 0 0 ≤ 6) : Met l yX2_saveState wsX2_saveState (zrm 3 82) (zPc D cA [.ref (x 0)] (xmW cA x b rd X N ++ (bkW (cA 0) (b 0) B ++ (otW (cA 0) b Bs)))) (zM D (xmW cA x b rd X N ++ (bkW (cA 0) (b 0) B ++ (otW (cA 0) b Bs))) (xmW cA x b rd X ((f_X2_saveState N B Bs).1) ++ (bkW (cA 0) (b 0) B ++ (otW (cA 0) b ((f_X2_saveState N B Bs).2)))) none) 0 0 (zfr (xmW cA x b rd X N ++ (bkW (cA 0) (b 0) B ++ (otW (cA 0) b Bs)))) := by
  refine Met.ofW (cc := cX2_saveState) (maxL := 1) (ret := none) (by decide) rfl ?_
  intro p e s m args below meth c s₁ Bd hml hv
  obtain ⟨rfl, hP, hK, hD0⟩ := hv
  have hx := Bd.exec
  have hb := Bd.bytes
  have hr := Bd.returns
  have hts := atoms_spec (ws := wsX2_saveState) Bd.pre
  have hown : s.vm.findClass RX2 = some m.cls := findClass_of_methodNamed Bd.named
  have hlocks := Bd.notSynchronized
  have hD := z_Dfr hD0
  have hS : va_S (zfr (xmW cA x b rd X N ++ (bkW (cA 0) (b 0) B ++ (otW (cA 0) b Bs)))) s.heap s.heap [] := va_S.rf
  have hi0 : ∀ w ∈ wsX00, w ∈ wsX2_saveState := fun w h => List.mem_cons_of_mem _ (List.mem_append_right _ h)
  have hi2 : ∀ w ∈ wsX20, w ∈ wsX2_saveState := fun w h => List.mem_cons_of_mem _ (List.mem_append_left _ (List.mem_append_right _ h))
  have hl := lv_entry ([.ref (x 0)]) (n := 1) (Nat.le_of_ble_eq_true rfl)
  rw [lg_entry_eq]
  generalize (lg_sl ([.ref (x 0)]) ++ List.replicate (1 - (lg_sl ([.ref (x 0)])).length) Slot.unset).toArray = ls at hl ⊢
  have hl : lv_has ls 1 [(0, .ref (x 0))] := hl
  refine lv_aload_n hx hb dX2_saveState_0 rfl (lv_at hl 0 rfl) ?_
  refine va_get (D := D) (ci := 2) (v := .int (nI (N 0 0))) (C := RX2) (T := TX2) (N := 9) hx hb hts hi2 hown hK hP 0 rfl rfl 2 (by decide) (hts (.fieldLink RX2 143 "PledgedLoans" "savedStates" "I") (List.mem_of_getElem? (i := 1) rfl)) (fun _ h9 => h9) rfl dX2_saveState_1 ?_
  refine lv_bipush (v := 6) hx hb dX2_saveState_4 (by decide) ?_
  refine lv_icmp_lt (tgt := 13) hx hb dX2_saveState_6 (by decide) (fun c_1 => ?_) (fun c_1 => ?_)
  · have c_1 : (N 0 0) < 6 := (nI_ltI (a := (N 0 0)) (b := 6) (by omega) (by omega)).mp c_1
    refine lv_aload_n hx hb dX2_saveState_13 rfl (lv_at hl 0 rfl) ?_
    refine va_get (D := D) (ci := 2) (v := .ref (x 1)) (C := RX2) (T := TX2) (N := 9) hx hb hts hi2 hown hK hP 0 rfl rfl 1 (by decide) (hts (.fieldLink RX2 16 "PledgedLoans" "saved" "[LPledgedLoans$Books;") (List.mem_of_getElem? (i := 2) rfl)) (fun _ h9 => h9) rfl dX2_saveState_14 ?_
    refine lv_aload_n hx hb dX2_saveState_17 rfl (lv_at hl 0 rfl) ?_
    refine va_get (D := D) (ci := 2) (v := .int (nI (N 0 0))) (C := RX2) (T := TX2) (N := 9) hx hb hts hi2 hown hK hP 0 rfl rfl 2 (by decide) (hts (.fieldLink RX2 143 "PledgedLoans" "savedStates" "I") (List.mem_of_getElem? (i := 1) rfl)) (fun _ h9 => h9) rfl dX2_saveState_18 ?_
    refine z_aldq (j := N 0 0) (v := b (N 1 (N 0 0)) 0) hx hb hK hP 1 3 rfl rfl dX2_saveState_21 (by omega) (by decide) rfl ?_
    refine lv_aload_n hx hb dX2_saveState_22 rfl (lv_at hl 0 rfl) ?_
    refine va_get (D := D) (ci := 2) (v := .ref (b 0 0)) (C := RX2) (T := TX2) (N := 9) hx hb hts hi2 hown hK hP 0 rfl rfl 0 (by decide) (hts (.fieldLink RX2 10 "PledgedLoans" "books" "LPledgedLoans$Books;") (List.mem_of_getElem? (i := 3) rfl)) (fun _ h9 => h9) rfl dX2_saveState_23 ?_
    obtain ⟨hk1, hk2⟩ : 1 ≤ (N 1 (N 0 0)) ∧ (N 1 (N 0 0)) ≤ 8 := by first | (have := hpm (N 0 0) (by omega); omega) | (have h9 := zpm_drop hpm; rw [← eN] at h9; have := h9 (N 0 0) (by omega); omega)
    obtain ⟨XO, ZO, hO1, hO2⟩ := ot_split (cI := cA 0) (b := b) (Bs := Bs) (N 1 (N 0 0)) hk1 hk2
    refine z_Mp (wc := bkW (cA 0) (b (N 1 (N 0 0))) (Bs (N 1 (N 0 0))) ++ bkW (cA 0) (b 0) B) (w1 := bkW (cA 0) (b (N 1 (N 0 0))) B ++ bkW (cA 0) (b 0) B) (Z := xmW cA x b rd X N ++ (XO ++ ZO)) (va_runV (As := [.ref (b 0 0)]) (rest := []) ⟨hx, hb, hml, hown, hts⟩ (zc_X0_copyFrom l D cA (b (N 1 (N 0 0))) (Bs (N 1 (N 0 0))) (b 0) B) (cwV 1 hts gX2_saveState_X0_copyFrom rfl rfl rfl zy_X0_copyFrom ⟨Nat.le_of_ble_eq_true rfl, Nat.le_of_ble_eq_true rfl⟩) (z_preV (ci := 0) hK (z_Pl (z_permP (z_perm1 hO1) hP)) (z_Dl (z_permD (z_perm1 hO1) hD)) rfl rfl) rfl rfl hl.1 rfl (lv_room (Nat.le_of_ble_eq_true rfl)) dX2_saveState_26 ⟨Nat.zero_le _, Nat.zero_le _⟩) (z_perm1 hO1) ((z_perm1 (hO2 B).symm).symm) hP hD hS (z_adr2 bkW_adr bkW_adr) rfl (fun H locs hP9 hD9 hS9 => ?_)
    replace hP : va_P D vwCl (xmW cA x b rd X N ++ (bkW (cA 0) (b 0) B ++ (otW (cA 0) b (fun j => if j = (N 1 (N 0 0)) then B else Bs j)))) H := hP9
    replace hD : va_D _ (xmW cA x b rd X N ++ (bkW (cA 0) (b 0) B ++ (otW (cA 0) b (fun j => if j = (N 1 (N 0 0)) then B else Bs j)))) := hD9
    replace hS := hS9
    clear hP9 hD9 hS9
    obtain ⟨M_2, eM_2⟩ : ∃ z9 : Nat → BK, z9 = (fun j => if j = (N 1 (N 0 0)) then B else Bs j) := ⟨_, rfl⟩
    rw [← eM_2] at hP hD
    refine lv_aload_n hx hb dX2_saveState_29 rfl (lv_at hl 0 rfl) ?_
    refine lv_dup hx hb dX2_saveState_30 rfl ?_
    refine va_get (D := D) (ci := 2) (v := .int (nI (N 0 0))) (C := RX2) (T := TX2) (N := 9) hx hb hts hi2 hown hK hP 0 rfl rfl 2 (by decide) (hts (.fieldLink RX2 143 "PledgedLoans" "savedStates" "I") (List.mem_of_getElem? (i := 1) rfl)) (fun _ h9 => h9) rfl dX2_saveState_31 ?_
    refine lv_iconst (v := 1) hx hb dX2_saveState_34 (by decide) ?_
    refine lv_iadd hx hb dX2_saveState_35 ?_
    refine z_top (nI_add (N 0 0) 1) ?_
    refine va_put (D := D) (ci := 2) (v := .int (nI ((N 0 0) + 1))) (ty := .int) (C := RX2) (T := TX2) (N := 9) hx hb hts hi2 tyX2 tyX2_ok nmX2 hown hK hP hD hS 0 rfl rfl 2 (by decide) (hts (.fieldLink RX2 143 "PledgedLoans" "savedStates" "I") (List.mem_of_getElem? (i := 1) rfl)) (fun _ h9 => h9) rfl (by decide +kernel) rfl rfl (Nat.le_of_ble_eq_true rfl) dX2_saveState_36 (fun H locs hP9 hD9 hS9 => ?_)
    replace hP : va_P D vwCl (xmW cA x b rd X (uN N 0 0 ((N 0 0) + 1)) ++ (bkW (cA 0) (b 0) B ++ (otW (cA 0) b M_2))) H := hP9
    replace hD : va_D _ (xmW cA x b rd X (uN N 0 0 ((N 0 0) + 1)) ++ (bkW (cA 0) (b 0) B ++ (otW (cA 0) b M_2))) := hD9
    replace hS := hS9
    clear hP9 hD9 hS9
    exact z_vretM (w1 := xmW cA x b rd X (uN N 0 0 ((N 0 0) + 1)) ++ (bkW (cA 0) (b 0) B ++ (otW (cA 0) b M_2))) hx hb hr hlocks dX2_saveState_39 hP hS (by subst eM_2; simp only [f_X2_saveState, if_pos c_1])
  · have c_1 : ¬ (N 0 0) < 6 := fun h9 => c_1 ((nI_ltI (a := (N 0 0)) (b := 6) (by omega) (by omega)).mpr h9)
    refine lv_aload_n hx hb dX2_saveState_9 rfl (lv_at hl 0 rfl) ?_
    refine z_M (X := ([] : va_W)) (Z := ([] : va_W)) (va_runV (As := []) (rest := []) ⟨hx, hb, hml, hown, hts⟩ (zc_X2_dropOldest l D cA b rd x X N B Bs (by first | assumption | omega)) (cwV 0 hts gX2_saveState_X2_dropOldest rfl rfl rfl zy_X2_dropOldest ⟨Nat.le_of_ble_eq_true rfl, Nat.le_of_ble_eq_true rfl⟩) (z_preV (ci := 2) hK hP hD rfl rfl) rfl rfl hl.1 rfl (lv_room (Nat.le_of_ble_eq_true rfl)) dX2_saveState_10 ⟨Nat.zero_le _, Nat.zero_le _⟩) hP hD hS (z_adr2 xmW_adr (z_adr2 bkW_adr otW_adr)) rfl (fun H locs hP9 hD9 hS9 => ?_)
    replace hP : va_P D vwCl (xmW cA x b rd X (f_X2_dropOldest N) ++ (bkW (cA 0) (b 0) B ++ (otW (cA 0) b Bs))) H := hP9
    replace hD : va_D _ (xmW cA x b rd X (f_X2_dropOldest N) ++ (bkW (cA 0) (b 0) B ++ (otW (cA 0) b Bs))) := hD9
    replace hS := hS9
    clear hP9 hD9 hS9
    obtain ⟨N_4, eN_4⟩ : ∃ z9 : NK, z9 = f_X2_dropOldest N := ⟨_, rfl⟩
    rw [← eN_4] at hP hD
    have hlN_4 : N_4 0 0 = 5 := by rw [eN_4]; exact (zn_X2_dropOldest N)
    refine lv_aload_n hx hb dX2_saveState_13 rfl (lv_at hl 0 rfl) ?_
    refine va_get (D := D) (ci := 2) (v := .ref (x 1)) (C := RX2) (T := TX2) (N := 9) hx hb hts hi2 hown hK hP 0 rfl rfl 1 (by decide) (hts (.fieldLink RX2 16 "PledgedLoans" "saved" "[LPledgedLoans$Books;") (List.mem_of_getElem? (i := 2) rfl)) (fun _ h9 => h9) rfl dX2_saveState_14 ?_
    refine lv_aload_n hx hb dX2_saveState_17 rfl (lv_at hl 0 rfl) ?_
    refine va_get (D := D) (ci := 2) (v := .int (nI (N_4 0 0))) (C := RX2) (T := TX2) (N := 9) hx hb hts hi2 hown hK hP 0 rfl rfl 2 (by decide) (hts (.fieldLink RX2 143 "PledgedLoans" "savedStates" "I") (List.mem_of_getElem? (i := 1) rfl)) (fun _ h9 => h9) rfl dX2_saveState_18 ?_
    refine z_aldq (j := N_4 0 0) (v := b (N_4 1 (N_4 0 0)) 0) hx hb hK hP 1 3 rfl rfl dX2_saveState_21 (by omega) (by decide) rfl ?_
    refine lv_aload_n hx hb dX2_saveState_22 rfl (lv_at hl 0 rfl) ?_
    refine va_get (D := D) (ci := 2) (v := .ref (b 0 0)) (C := RX2) (T := TX2) (N := 9) hx hb hts hi2 hown hK hP 0 rfl rfl 0 (by decide) (hts (.fieldLink RX2 10 "PledgedLoans" "books" "LPledgedLoans$Books;") (List.mem_of_getElem? (i := 3) rfl)) (fun _ h9 => h9) rfl dX2_saveState_23 ?_
    obtain ⟨hk1, hk2⟩ : 1 ≤ (N_4 1 (N_4 0 0)) ∧ (N_4 1 (N_4 0 0)) ≤ 8 := by first | (have := hpm (N 0 0) (by omega); omega) | (have h9 := zpm_drop hpm; rw [← eN_4] at h9; have := h9 (N_4 0 0) (by omega); omega)
    obtain ⟨XO, ZO, hO1, hO2⟩ := ot_split (cI := cA 0) (b := b) (Bs := Bs) (N_4 1 (N_4 0 0)) hk1 hk2
    refine z_Mp (wc := bkW (cA 0) (b (N_4 1 (N_4 0 0))) (Bs (N_4 1 (N_4 0 0))) ++ bkW (cA 0) (b 0) B) (w1 := bkW (cA 0) (b (N_4 1 (N_4 0 0))) B ++ bkW (cA 0) (b 0) B) (Z := xmW cA x b rd X N_4 ++ (XO ++ ZO)) (va_runV (As := [.ref (b 0 0)]) (rest := []) ⟨hx, hb, hml, hown, hts⟩ (zc_X0_copyFrom l D cA (b (N_4 1 (N_4 0 0))) (Bs (N_4 1 (N_4 0 0))) (b 0) B) (cwV 1 hts gX2_saveState_X0_copyFrom rfl rfl rfl zy_X0_copyFrom ⟨Nat.le_of_ble_eq_true rfl, Nat.le_of_ble_eq_true rfl⟩) (z_preV (ci := 0) hK (z_Pl (z_permP (z_perm1 hO1) hP)) (z_Dl (z_permD (z_perm1 hO1) hD)) rfl rfl) rfl rfl hl.1 rfl (lv_room (Nat.le_of_ble_eq_true rfl)) dX2_saveState_26 ⟨Nat.zero_le _, Nat.zero_le _⟩) (z_perm1 hO1) ((z_perm1 (hO2 B).symm).symm) hP hD hS (z_adr2 bkW_adr bkW_adr) rfl (fun H locs hP9 hD9 hS9 => ?_)
    replace hP : va_P D vwCl (xmW cA x b rd X N_4 ++ (bkW (cA 0) (b 0) B ++ (otW (cA 0) b (fun j => if j = (N_4 1 (N_4 0 0)) then B else Bs j)))) H := hP9
    replace hD : va_D _ (xmW cA x b rd X N_4 ++ (bkW (cA 0) (b 0) B ++ (otW (cA 0) b (fun j => if j = (N_4 1 (N_4 0 0)) then B else Bs j)))) := hD9
    replace hS := hS9
    clear hP9 hD9 hS9
    obtain ⟨M_5, eM_5⟩ : ∃ z9 : Nat → BK, z9 = (fun j => if j = (N_4 1 (N_4 0 0)) then B else Bs j) := ⟨_, rfl⟩
    rw [← eM_5] at hP hD
    refine lv_aload_n hx hb dX2_saveState_29 rfl (lv_at hl 0 rfl) ?_
    refine lv_dup hx hb dX2_saveState_30 rfl ?_
    refine va_get (D := D) (ci := 2) (v := .int (nI (N_4 0 0))) (C := RX2) (T := TX2) (N := 9) hx hb hts hi2 hown hK hP 0 rfl rfl 2 (by decide) (hts (.fieldLink RX2 143 "PledgedLoans" "savedStates" "I") (List.mem_of_getElem? (i := 1) rfl)) (fun _ h9 => h9) rfl dX2_saveState_31 ?_
    refine lv_iconst (v := 1) hx hb dX2_saveState_34 (by decide) ?_
    refine lv_iadd hx hb dX2_saveState_35 ?_
    refine z_top (nI_add (N_4 0 0) 1) ?_
    refine va_put (D := D) (ci := 2) (v := .int (nI ((N_4 0 0) + 1))) (ty := .int) (C := RX2) (T := TX2) (N := 9) hx hb hts hi2 tyX2 tyX2_ok nmX2 hown hK hP hD hS 0 rfl rfl 2 (by decide) (hts (.fieldLink RX2 143 "PledgedLoans" "savedStates" "I") (List.mem_of_getElem? (i := 1) rfl)) (fun _ h9 => h9) rfl (by decide +kernel) rfl rfl (Nat.le_of_ble_eq_true rfl) dX2_saveState_36 (fun H locs hP9 hD9 hS9 => ?_)
    replace hP : va_P D vwCl (xmW cA x b rd X (uN N_4 0 0 ((N_4 0 0) + 1)) ++ (bkW (cA 0) (b 0) B ++ (otW (cA 0) b M_5))) H := hP9
    replace hD : va_D _ (xmW cA x b rd X (uN N_4 0 0 ((N_4 0 0) + 1)) ++ (bkW (cA 0) (b 0) B ++ (otW (cA 0) b M_5))) := hD9
    replace hS := hS9
    clear hP9 hD9 hS9
    exact z_vretM (w1 := xmW cA x b rd X (uN N_4 0 0 ((N_4 0 0) + 1)) ++ (bkW (cA 0) (b 0) B ++ (otW (cA 0) b M_5))) hx hb hr hlocks dX2_saveState_39 hP hS (by subst eM_5 eN_4; simp only [f_X2_saveState, if_neg c_1])

