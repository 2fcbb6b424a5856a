theorem zq_nn {n : Nat} (h : n < 10000) (h0 : ¬ n = 0) : ¬ nI n = 0 := fun e => h0 ((nI_eq (a := n) (b := 0) (by omega) (by omega)).mp e)
theorem zde_le {x : UInt64} (h : zdn x) : zde x ≤ 199 := by
  obtain ⟨E, T, h1, h2, h3, rfl⟩ := h
  unfold zde
  rw [zf_toNat (by omega) h3]
  unfold zfb
  omega

theorem zy_X2_dropOldest : yX2_dropOldest.cls = RX2 ∧ yX2_dropOldest.cls ≠ "java/lang/invoke/MethodHandle" ∧ yX2_dropOldest.cls ≠ "java/lang/invoke/VarHandle" ∧ (parseMethodDescriptor yX2_dropOldest.desc).map (fun d => d.parameters.length) = some 0 := by decide +kernel
def f_X2_dropOldest_9 (N : NK) : Nat → Nat → NK → NK
  | 0, q, N1 => N1
  | k + 1, q, N1 =>
    if 6 ≤ q then
      uN (uN N1 1 5 (N 1 0)) 0 0 5
    else
      f_X2_dropOldest_9 N k (q + 1) (uN N1 1 (q - 1) (N1 1 q))
def f_X2_dropOldest (N : NK) : NK :=
  f_X2_dropOldest_9 N 7 1 N

theorem zn_do9 (N : NK) : ∀ (k q : Nat) (N1 : NK), 6 - q < k → (f_X2_dropOldest_9 N k q N1) 0 0 = 5 := by
  intro k
  induction k with
  | zero => intro q N1 h; omega
  | succ k ih =>
    intro q N1 h
    unfold f_X2_dropOldest_9
    by_cases c : 6 ≤ q
    · rw [if_pos c]; rfl
    · rw [if_neg c]; exact ih _ _ (by omega)
theorem zn_X2_dropOldest (N : NK) : (f_X2_dropOldest N) 0 0 = 5 := zn_do9 N _ _ _ (by omega)
theorem zpm_do9 (N : NK) (h0 : zpm N) : ∀ (k q : Nat) (N1 : NK), zpm N1 → zpm (f_X2_dropOldest_9 N k q N1) := by
  intro k
  induction k with
  | zero => intro q N1 h; exact h
  | succ k ih =>
    intro q N1 h
    unfold f_X2_dropOldest_9
    by_cases c : 6 ≤ q
    · rw [if_pos c]
      exact zpm_up h (h0 0 (by omega))
    · rw [if_neg c]
      exact ih _ _ (zpm_up h (h q (by omega)))
theorem zpm_drop {N : NK} (h : zpm N) : zpm (f_X2_dropOldest N) := zpm_do9 N h _ _ _ h

set_option maxHeartbeats 4000000 in
set_option maxRecDepth 100000 in
theorem zc_X2_dropOldest (l : Launch) (D : va_G) (cA : Nat → ClassId) (b : Nat → Nat → Nat) (rd : Nat) (x : Nat → Nat) (X : BK) (N : NK) (B : BK) (Bs : Nat → BK) (hpm : zpm N) : Met l yX2_dropOldest wsX2_dropOldest (zrm 0 0) (zPc D cA [.ref (x 0)] (xmW cA x b rd X N ++ (bkW (cA 0) (b 0) B ++ (otW (cA 0) b Bs)))) (zM D (xmW cA x b rd X N ++ (bkW (cA 0) (b 0) B ++ (otW (cA 0) b Bs))) (xmW cA x b rd X (f_X2_dropOldest N) ++ (bkW (cA 0) (b 0) B ++ (otW (cA 0) b Bs))) none) 0 0 (zfr (xmW cA x b rd X N ++ (bkW (cA 0) (b 0) B ++ (otW (cA 0) b Bs)))) := by
  refine Met.ofW (cc := cX2_dropOldest) (maxL := 3) (ret := none) (by decide) rfl ?_
  intro p e s m args below meth c s₁ Bd hml hv
  obtain ⟨rfl, hP, hK, hD0⟩ := hv
  have hx := Bd.exec
  have hb := Bd.bytes
  have hr := Bd.returns
  have hts := atoms_spec (ws := wsX2_dropOldest) Bd.pre
  have hown : s.vm.findClass RX2 = some m.cls := findClass_of_methodNamed Bd.named
  have hlocks := Bd.notSynchronized
  have hD := z_Dfr hD0
  have hS : va_S (zfr (xmW cA x b rd X N ++ (bkW (cA 0) (b 0) B ++ (otW (cA 0) b Bs)))) s.heap s.heap [] := va_S.rf
  have hi2 : ∀ w ∈ wsX20, w ∈ wsX2_dropOldest := fun w h => List.mem_cons_of_mem _ (List.mem_append_right _ h)
  have hl := lv_entry ([.ref (x 0)]) (n := 3) (Nat.le_of_ble_eq_true rfl)
  rw [lg_entry_eq]
  generalize (lg_sl ([.ref (x 0)]) ++ List.replicate (3 - (lg_sl ([.ref (x 0)])).length) Slot.unset).toArray = ls at hl ⊢
  have hl : lv_has ls 3 [(0, .ref (x 0))] := hl
  refine lv_aload_n hx hb dX2_dropOldest_0 rfl (lv_at hl 0 rfl) ?_
  refine va_get (D := D) (ci := 2) (v := .ref (x 1)) (C := RX2) (T := TX2) (N := 9) hx hb hts hi2 hown hK hP 0 rfl rfl 1 (by decide) (hts (.fieldLink RX2 16 "PledgedLoans" "saved" "[LPledgedLoans$Books;") (List.mem_of_getElem? (i := 1) rfl)) (fun _ h9 => h9) rfl dX2_dropOldest_1 ?_
  refine lv_iconst (v := 0) hx hb dX2_dropOldest_4 (by decide) ?_
  refine z_aldq (j := 0) (v := b (N 1 0) 0) hx hb hK hP 1 3 rfl rfl dX2_dropOldest_5 (by omega) (by decide) rfl ?_
  refine lv_astore_n (lv' := [(1, .ref (b (N 1 0) 0)), (0, .ref (x 0))]) hx hb dX2_dropOldest_6 rfl hl (by decide) rfl (fun ls hl => ?_)
  refine lv_iconst (v := 1) hx hb dX2_dropOldest_7 (by decide) ?_
  refine lv_istore_n (lv' := [(2, .int 1), (1, .ref (b (N 1 0) 0)), (0, .ref (x 0))]) hx hb dX2_dropOldest_8 rfl hl (by decide) rfl (fun ls hl => ?_)
  have loop_9 : ∀ (kk : Nat) (q : Nat) (N1 : NK), 6 - q < kk → 1 ≤ q → zpm N1 → q ≤ 6 → f_X2_dropOldest N = f_X2_dropOldest_9 N kk q N1 → ∀ (H : Heap) (locs : List Loc), va_P D vwCl (xmW cA x b rd X N1 ++ (bkW (cA 0) (b 0) B ++ (otW (cA 0) b Bs))) H → va_D (zfr (xmW cA x b rd X N ++ (bkW (cA 0) (b 0) B ++ (otW (cA 0) b Bs)))) (xmW cA x b rd X N1 ++ (bkW (cA 0) (b 0) B ++ (otW (cA 0) b Bs))) → va_S (zfr (xmW cA x b rd X N ++ (bkW (cA 0) (b 0) B ++ (otW (cA 0) b Bs)))) s.heap H locs → ∀ (ls : Array Slot), lv_has ls 3 [(0, .ref (x 0)), (1, .ref (b (N 1 0) 0)), (2, .int (nI q))] → W p l e (headSpec wsX2_dropOldest (zrm 0 0)).room s m ([.ref (x 0)] : List Value).toArray below meth c H locs 0 0 (MQ below (zM D (xmW cA x b rd X N ++ (bkW (cA 0) (b 0) B ++ (otW (cA 0) b Bs))) (xmW cA x b rd X (f_X2_dropOldest N) ++ (bkW (cA 0) (b 0) B ++ (otW (cA 0) b Bs))) none) ([.ref (x 0)] : List Value).toArray s 0 0 (zfr (xmW cA x b rd X N ++ (bkW (cA 0) (b 0) B ++ (otW (cA 0) b Bs))))) (F0 m 9 ls []) := by
    intro kk
    induction kk with
    | zero => intro q N1 h9; exact absurd h9 (Nat.not_lt_zero _)
    | succ kk ih_9 =>
      intro q N1 hm_9 hi0_9 hi1_9 hi2_9 hres_9 H locs hP hD hS ls hl
      refine lv_iload_n hx hb dX2_dropOldest_9 rfl (lv_at hl 2 rfl) ?_
      refine lv_bipush (v := 6) hx hb dX2_dropOldest_10 (by decide) ?_
      refine lv_icmp_ge (tgt := 35) hx hb dX2_dropOldest_12 (by decide) (fun c_1 => ?_) (fun c_1 => ?_)
      · have c_1 : 6 ≤ q := (nI_leI (a := 6) (b := q) (by omega) (by omega)).mp c_1
        refine lv_aload_n hx hb dX2_dropOldest_35 rfl (lv_at hl 0 rfl) ?_
        refine va_get (D := D) (ci := 2) (v := .ref (x 1)) (C := RX2) (T := TX2) (N := 9) hx hb hts hi2 hown hK hP 0 rfl rfl 1 (by decide) (hts (.fieldLink RX2 16 "PledgedLoans" "saved" "[LPledgedLoans$Books;") (List.mem_of_getElem? (i := 1) rfl)) (fun _ h9 => h9) rfl dX2_dropOldest_36 ?_
        refine lv_iconst (v := 5) hx hb dX2_dropOldest_39 (by decide) ?_
        refine lv_aload_n hx hb dX2_dropOldest_40 rfl (lv_at hl 1 rfl) ?_
        obtain ⟨hq1, hq2⟩ : 1 ≤ (N 1 0) ∧ (N 1 0) ≤ 8 := by have := hpm 0 (by omega); omega
        refine z_aastB (j := 5) (v := (N 1 0)) (b := b) (N := N1) hx hb hK hP hD hS 1 (15 + 9 * ((N 1 0) - 1)) rfl (ot_get15 (N 1 0) hq1 hq2) dX2_dropOldest_41 (by omega) (by decide) (xmW cA x b rd X (uN N1 1 5 (N 1 0)) ++ (bkW (cA 0) (b 0) B ++ (otW (cA 0) b Bs))) rfl (fun H locs hP9 hD9 hS9 => ?_)
        replace hP : va_P D vwCl (xmW cA x b rd X (uN N1 1 5 (N 1 0)) ++ (bkW (cA 0) (b 0) B ++ (otW (cA 0) b Bs))) H := hP9
        replace hD : va_D _ (xmW cA x b rd X (uN N1 1 5 (N 1 0)) ++ (bkW (cA 0) (b 0) B ++ (otW (cA 0) b Bs))) := hD9
        replace hS := hS9
        clear hP9 hD9 hS9
        refine lv_aload_n hx hb dX2_dropOldest_42 rfl (lv_at hl 0 rfl) ?_
        refine lv_iconst (v := 5) hx hb dX2_dropOldest_43 (by decide) ?_
        refine va_put (D := D) (ci := 2) (v := .int 5) (ty := .int) (C := RX2) (T := TX2) (N := 9) hx hb hts hi2 tyX2 tyX2_ok nmX2 hown hK hP hD hS 0 rfl rfl 2 (by decide) (hts (.fieldLink RX2 143 "PledgedLoans" "savedStates" "I") (List.mem_of_getElem? (i := 2) rfl)) (fun _ h9 => h9) rfl (by decide +kernel) rfl rfl (Nat.le_of_ble_eq_true rfl) dX2_dropOldest_44 (fun H locs hP9 hD9 hS9 => ?_)
        replace hP : va_P D vwCl (xmW cA x b rd X (uN (uN N1 1 5 (N 1 0)) 0 0 5) ++ (bkW (cA 0) (b 0) B ++ (otW (cA 0) b Bs))) H := hP9
        replace hD : va_D _ (xmW cA x b rd X (uN (uN N1 1 5 (N 1 0)) 0 0 5) ++ (bkW (cA 0) (b 0) B ++ (otW (cA 0) b Bs))) := hD9
        replace hS := hS9
        clear hP9 hD9 hS9
        exact z_vretM (w1 := xmW cA x b rd X (uN (uN N1 1 5 (N 1 0)) 0 0 5) ++ (bkW (cA 0) (b 0) B ++ (otW (cA 0) b Bs))) hx hb hr hlocks dX2_dropOldest_47 hP hS (by rw [hres_9]; simp only [f_X2_dropOldest_9, if_pos c_1])
      · have c_1 : ¬ 6 ≤ q := fun h9 => c_1 ((nI_leI (a := 6) (b := q) (by omega) (by omega)).mpr h9)
        refine lv_aload_n hx hb dX2_dropOldest_15 rfl (lv_at hl 0 rfl) ?_
        refine va_get (D := D) (ci := 2) (v := .ref (x 1)) (C := RX2) (T := TX2) (N := 9) hx hb hts hi2 hown hK hP 0 rfl rfl 1 (by decide) (hts (.fieldLink RX2 16 "PledgedLoans" "saved" "[LPledgedLoans$Books;") (List.mem_of_getElem? (i := 1) rfl)) (fun _ h9 => h9) rfl dX2_dropOldest_16 ?_
        refine lv_iload_n hx hb dX2_dropOldest_19 rfl (lv_at hl 2 rfl) ?_
        refine lv_iconst (v := 1) hx hb dX2_dropOldest_20 (by decide) ?_
        refine lv_isub hx hb dX2_dropOldest_21 ?_
        refine z_top (pk_sub (a := q) (b := 1) (by omega)) ?_
        refine lv_aload_n hx hb dX2_dropOldest_22 rfl (lv_at hl 0 rfl) ?_
        refine va_get (D := D) (ci := 2) (v := .ref (x 1)) (C := RX2) (T := TX2) (N := 9) hx hb hts hi2 hown hK hP 0 rfl rfl 1 (by decide) (hts (.fieldLink RX2 16 "PledgedLoans" "saved" "[LPledgedLoans$Books;") (List.mem_of_getElem? (i := 1) rfl)) (fun _ h9 => h9) rfl dX2_dropOldest_23 ?_
        refine lv_iload_n hx hb dX2_dropOldest_26 rfl (lv_at hl 2 rfl) ?_
        refine z_aldq (j := q) (v := b (N1 1 q) 0) hx hb hK hP 1 3 rfl rfl dX2_dropOldest_27 (by omega) (by decide) rfl ?_
        obtain ⟨hq1, hq2⟩ : 1 ≤ (N1 1 q) ∧ (N1 1 q) ≤ 8 := by have := hi1_9 q (by omega); omega
        refine z_aastB (j := q - 1) (v := (N1 1 q)) (b := b) (N := N1) hx hb hK hP hD hS 1 (15 + 9 * ((N1 1 q) - 1)) rfl (ot_get15 (N1 1 q) hq1 hq2) dX2_dropOldest_28 (by omega) (by decide) (xmW cA x b rd X (uN N1 1 (q - 1) (N1 1 q)) ++ (bkW (cA 0) (b 0) B ++ (otW (cA 0) b Bs))) rfl (fun H locs hP9 hD9 hS9 => ?_)
        replace hP : va_P D vwCl (xmW cA x b rd X (uN N1 1 (q - 1) (N1 1 q)) ++ (bkW (cA 0) (b 0) B ++ (otW (cA 0) b Bs))) H := hP9
        replace hD : va_D _ (xmW cA x b rd X (uN N1 1 (q - 1) (N1 1 q)) ++ (bkW (cA 0) (b 0) B ++ (otW (cA 0) b Bs))) := hD9
        replace hS := hS9
        clear hP9 hD9 hS9
        refine lv_iinc (v := nI (q + 1)) (lv' := [(2, .int (nI (q + 1))), (0, .ref (x 0)), (1, .ref (b (N 1 0) 0))]) hx hb dX2_dropOldest_29 hl (k := 2) rfl (by rw [show (Int32.ofInt 1) = nI 1 from by decide]; exact nI_add q 1) (by decide) rfl (fun ls hl => ?_)
        refine lv_goto (tgt := 9) hx hb dX2_dropOldest_32 (by decide) ?_
        exact ih_9 (q + 1) (uN N1 1 (q - 1) (N1 1 q)) (by omega) (by omega) (by exact zpm_up hi1_9 (hi1_9 q (by omega))) (by omega) (by rw [hres_9]; simp only [f_X2_dropOldest_9, if_neg c_1]) _ _ hP hD hS ls (lv_sub hl [1, 2, 0] rfl)
  exact loop_9 7 1 N (by omega) (by omega) (by exact hpm) (by omega) (by first | (simp only [f_X2_dropOldest]; done) | rfl) _ _ hP hD hS ls (lv_sub hl [2, 1, 0] rfl)

theorem zy_X2_saveState : yX2_saveState.cls = RX2 ∧ yX2_saveState.cls ≠ "java/lang/invoke/MethodHandle" ∧ yX2_saveState.cls ≠ "java/lang/invoke/VarHandle" ∧ (parseMethodDescriptor yX2_saveState.desc).map (fun d => d.parameters.length) = some 0 := by decide +kernel
def f_X2_saveState (N : NK) (B : BK) (Bs : Nat → BK) : NK × (Nat → BK) :=
  if (N 0 0) < 6 then
    let M_2 : Nat → BK := (fun j => if j = (N 1 (N 0 0)) then B else Bs j)
    (uN N 0 0 ((N 0 0) + 1), M_2)
  else
    let N_4 : NK := f_X2_dropOldest N
    let M_5 : Nat → BK := (fun j => if j = (N_4 1 (N_4 0 0)) then B else Bs j)
    (uN N_4 0 0 ((N_4 0 0) + 1), M_5)

set_option maxHeartbeats 4000000 in
set_option maxRecDepth 100000 in
theorem zc_X2_saveState (l : Launch) (D : va_G) (cA : Nat → ClassId) (b : Nat → Nat → Nat) (rd : Nat) (x : Nat → Nat) (X : BK) (N : NK) (B : BK) (Bs : Nat → BK) (hpm : zpm N) (hsv2 : N 0 0 ≤ 6) : Met l yX2_saveState wsX2_saveState (zrm 3 82) (zPc D cA [.ref (x 0)] (xmW cA x b rd X N ++ (bkW (cA 0) (b 0) B ++ (otW (cA 0) b Bs)))) (zM D (xmW cA x b rd X N ++ (bkW (cA 0) (b 0) B ++ (otW (cA 0) b Bs))) (xmW cA x b rd X ((f_X2_saveState N B Bs).1) ++ (bkW (cA 0) (b 0) B ++ (otW (cA 0) b ((f_X2_saveState N B Bs).2)))) none) 0 0 (zfr (xmW cA x b rd X N ++ (bkW (cA 0) (b 0) B ++ (otW (cA 0) b Bs)))) := by
  refine Met.ofW (cc := cX2_saveState) (maxL := 1) (ret := none) (by decide) rfl ?_
  intro p e s m args below meth c s₁ Bd hml hv
  obtain ⟨rfl, hP, hK, hD0⟩ := hv
  have hx := Bd.exec
  have hb := Bd.bytes
  have hr := Bd.returns
  have hts := atoms_spec (ws := wsX2_saveState) Bd.pre
  have hown : s.vm.findClass RX2 = some m.cls := findClass_of_methodNamed Bd.named
  have hlocks := Bd.notSynchronized
  have hD := z_Dfr hD0
  have hS : va_S (zfr (xmW cA x b rd X N ++ (bkW (cA 0) (b 0) B ++ (otW (cA 0) b Bs)))) s.heap s.heap [] := va_S.rf
  have hi0 : ∀ w ∈ wsX00, w ∈ wsX2_saveState := fun w h => List.mem_cons_of_mem _ (List.mem_append_right _ h)
  have hi2 : ∀ w ∈ wsX20, w ∈ wsX2_saveState := fun w h => List.mem_cons_of_mem _ (List.mem_append_left _ (List.mem_append_right _ h))
  have hl := lv_entry ([.ref (x 0)]) (n := 1) (Nat.le_of_ble_eq_true rfl)
  rw [lg_entry_eq]
  generalize (lg_sl ([.ref (x 0)]) ++ List.replicate (1 - (lg_sl ([.ref (x 0)])).length) Slot.unset).toArray = ls at hl ⊢
  have hl : lv_has ls 1 [(0, .ref (x 0))] := hl
  refine lv_aload_n hx hb dX2_saveState_0 rfl (lv_at hl 0 rfl) ?_
  refine va_get (D := D) (ci := 2) (v := .int (nI (N 0 0))) (C := RX2) (T := TX2) (N := 9) hx hb hts hi2 hown hK hP 0 rfl rfl 2 (by decide) (hts (.fieldLink RX2 143 "PledgedLoans" "savedStates" "I") (List.mem_of_getElem? (i := 1) rfl)) (fun _ h9 => h9) rfl dX2_saveState_1 ?_
  refine lv_bipush (v := 6) hx hb dX2_saveState_4 (by decide) ?_
  refine lv_icmp_lt (tgt := 13) hx hb dX2_saveState_6 (by decide) (fun c_1 => ?_) (fun c_1 => ?_)
  · have c_1 : (N 0 0) < 6 := (nI_ltI (a := (N 0 0)) (b := 6) (by omega) (by omega)).mp c_1
    refine lv_aload_n hx hb dX2_saveState_13 rfl (lv_at hl 0 rfl) ?_
    refine va_get (D := D) (ci := 2) (v := .ref (x 1)) (C := RX2) (T := TX2) (N := 9) hx hb hts hi2 hown hK hP 0 rfl rfl 1 (by decide) (hts (.fieldLink RX2 16 "PledgedLoans" "saved" "[LPledgedLoans$Books;") (List.mem_of_getElem? (i := 2) rfl)) (fun _ h9 => h9) rfl dX2_saveState_14 ?_
    refine lv_aload_n hx hb dX2_saveState_17 rfl (lv_at hl 0 rfl) ?_
    refine va_get (D := D) (ci := 2) (v := .int (nI (N 0 0))) (C := RX2) (T := TX2) (N := 9) hx hb hts hi2 hown hK hP 0 rfl rfl 2 (by decide) (hts (.fieldLink RX2 143 "PledgedLoans" "savedStates" "I") (List.mem_of_getElem? (i := 1) rfl)) (fun _ h9 => h9) rfl dX2_saveState_18 ?_
    refine z_aldq (j := N 0 0) (v := b (N 1 (N 0 0)) 0) hx hb hK hP 1 3 rfl rfl dX2_saveState_21 (by omega) (by decide) rfl ?_
    refine lv_aload_n hx hb dX2_saveState_22 rfl (lv_at hl 0 rfl) ?_
    refine va_get (D := D) (ci := 2) (v := .ref (b 0 0)) (C := RX2) (T := TX2) (N := 9) hx hb hts hi2 hown hK hP 0 rfl rfl 0 (by decide) (hts (.fieldLink RX2 10 "PledgedLoans" "books" "LPledgedLoans$Books;") (List.mem_of_getElem? (i := 3) rfl)) (fun _ h9 => h9) rfl dX2_saveState_23 ?_
    obtain ⟨hk1, hk2⟩ : 1 ≤ (N 1 (N 0 0)) ∧ (N 1 (N 0 0)) ≤ 8 := by first | (have := hpm (N 0 0) (by omega); omega) | (have h9 := zpm_drop hpm; rw [← eN] at h9; have := h9 (N 0 0) (by omega); omega)
    obtain ⟨XO, ZO, hO1, hO2⟩ := ot_split (cI := cA 0) (b := b) (Bs := Bs) (N 1 (N 0 0)) hk1 hk2
    refine z_Mp (wc := bkW (cA 0) (b (N 1 (N 0 0))) (Bs (N 1 (N 0 0))) ++ bkW (cA 0) (b 0) B) (w1 := bkW (cA 0) (b (N 1 (N 0 0))) B ++ bkW (cA 0) (b 0) B) (Z := xmW cA x b rd X N ++ (XO ++ ZO)) (va_runV (As := [.ref (b 0 0)]) (rest := []) ⟨hx, hb, hml, hown, hts⟩ (zc_X0_copyFrom l D cA (b (N 1 (N 0 0))) (Bs (N 1 (N 0 0))) (b 0) B) (cwV 1 hts gX2_saveState_X0_copyFrom rfl rfl rfl zy_X0_copyFrom ⟨Nat.le_of_ble_eq_true rfl, Nat.le_of_ble_eq_true rfl⟩) (z_preV (ci := 0) hK (z_Pl (z_permP (z_perm1 hO1) hP)) (z_Dl (z_permD (z_perm1 hO1) hD)) rfl rfl) rfl rfl hl.1 rfl (lv_room (Nat.le_of_ble_eq_true rfl)) dX2_saveState_26 ⟨Nat.zero_le _, Nat.zero_le _⟩) (z_perm1 hO1) ((z_perm1 (hO2 B).symm).symm) hP hD hS (z_adr2 bkW_adr bkW_adr) rfl (fun H locs hP9 hD9 hS9 => ?_)
    replace hP : va_P D vwCl (xmW cA x b rd X N ++ (bkW (cA 0) (b 0) B ++ (otW (cA 0) b (fun j => if j = (N 1 (N 0 0)) then B else Bs j)))) H := hP9
    replace hD : va_D _ (xmW cA x b rd X N ++ (bkW (cA 0) (b 0) B ++ (otW (cA 0) b (fun j => if j = (N 1 (N 0 0)) then B else Bs j)))) := hD9
    replace hS := hS9
    clear hP9 hD9 hS9
    obtain ⟨M_2, eM_2⟩ : ∃ z9 : Nat → BK, z9 = (fun j => if j = (N 1 (N 0 0)) then B else Bs j) := ⟨_, rfl⟩
    rw [← eM_2] at hP hD
    refine lv_aload_n hx hb dX2_saveState_29 rfl (lv_at hl 0 rfl) ?_
    refine lv_dup hx hb dX2_saveState_30 rfl ?_
    refine va_get (D := D) (ci := 2) (v := .int (nI (N 0 0))) (C := RX2) (T := TX2) (N := 9) hx hb hts hi2 hown hK hP 0 rfl rfl 2 (by decide) (hts (.fieldLink RX2 143 "PledgedLoans" "savedStates" "I") (List.mem_of_getElem? (i := 1) rfl)) (fun _ h9 => h9) rfl dX2_saveState_31 ?_
    refine lv_iconst (v := 1) hx hb dX2_saveState_34 (by decide) ?_
    refine lv_iadd hx hb dX2_saveState_35 ?_
    refine z_top (nI_add (N 0 0) 1) ?_
    refine va_put (D := D) (ci := 2) (v := .int (nI ((N 0 0) + 1))) (ty := .int) (C := RX2) (T := TX2) (N := 9) hx hb hts hi2 tyX2 tyX2_ok nmX2 hown hK hP hD hS 0 rfl rfl 2 (by decide) (hts (.fieldLink RX2 143 "PledgedLoans" "savedStates" "I") (List.mem_of_getElem? (i := 1) rfl)) (fun _ h9 => h9) rfl (by decide +kernel) rfl rfl (Nat.le_of_ble_eq_true rfl) dX2_saveState_36 (fun H locs hP9 hD9 hS9 => ?_)
    replace hP : va_P D vwCl (xmW cA x b rd X (uN N 0 0 ((N 0 0) + 1)) ++ (bkW (cA 0) (b 0) B ++ (otW (cA 0) b M_2))) H := hP9
    replace hD : va_D _ (xmW cA x b rd X (uN N 0 0 ((N 0 0) + 1)) ++ (bkW (cA 0) (b 0) B ++ (otW (cA 0) b M_2))) := hD9
    replace hS := hS9
    clear hP9 hD9 hS9
    exact z_vretM (w1 := xmW cA x b rd X (uN N 0 0 ((N 0 0) + 1)) ++ (bkW (cA 0) (b 0) B ++ (otW (cA 0) b M_2))) hx hb hr hlocks dX2_saveState_39 hP hS (by subst eM_2; simp only [f_X2_saveState, if_pos c_1])
  · have c_1 : ¬ (N 0 0) < 6 := fun h9 => c_1 ((nI_ltI (a := (N 0 0)) (b := 6) (by omega) (by omega)).mpr h9)
    refine lv_aload_n hx hb dX2_saveState_9 rfl (lv_at hl 0 rfl) ?_
    refine z_M (X := ([] : va_W)) (Z := ([] : va_W)) (va_runV (As := []) (rest := []) ⟨hx, hb, hml, hown, hts⟩ (zc_X2_dropOldest l D cA b rd x X N B Bs (by first | assumption | omega)) (cwV 0 hts gX2_saveState_X2_dropOldest rfl rfl rfl zy_X2_dropOldest ⟨Nat.le_of_ble_eq_true rfl, Nat.le_of_ble_eq_true rfl⟩) (z_preV (ci := 2) hK hP hD rfl rfl) rfl rfl hl.1 rfl (lv_room (Nat.le_of_ble_eq_true rfl)) dX2_saveState_10 ⟨Nat.zero_le _, Nat.zero_le _⟩) hP hD hS (z_adr2 xmW_adr (z_adr2 bkW_adr otW_adr)) rfl (fun H locs hP9 hD9 hS9 => ?_)
    replace hP : va_P D vwCl (xmW cA x b rd X (f_X2_dropOldest N) ++ (bkW (cA 0) (b 0) B ++ (otW (cA 0) b Bs))) H := hP9
    replace hD : va_D _ (xmW cA x b rd X (f_X2_dropOldest N) ++ (bkW (cA 0) (b 0) B ++ (otW (cA 0) b Bs))) := hD9
    replace hS := hS9
    clear hP9 hD9 hS9
    obtain ⟨N_4, eN_4⟩ : ∃ z9 : NK, z9 = f_X2_dropOldest N := ⟨_, rfl⟩
    rw [← eN_4] at hP hD
    have hlN_4 : N_4 0 0 = 5 := by rw [eN_4]; exact (zn_X2_dropOldest N)
    refine lv_aload_n hx hb dX2_saveState_13 rfl (lv_at hl 0 rfl) ?_
    refine va_get (D := D) (ci := 2) (v := .ref (x 1)) (C := RX2) (T := TX2) (N := 9) hx hb hts hi2 hown hK hP 0 rfl rfl 1 (by decide) (hts (.fieldLink RX2 16 "PledgedLoans" "saved" "[LPledgedLoans$Books;") (List.mem_of_getElem? (i := 2) rfl)) (fun _ h9 => h9) rfl dX2_saveState_14 ?_
    refine lv_aload_n hx hb dX2_saveState_17 rfl (lv_at hl 0 rfl) ?_
    refine va_get (D := D) (ci := 2) (v := .int (nI (N_4 0 0))) (C := RX2) (T := TX2) (N := 9) hx hb hts hi2 hown hK hP 0 rfl rfl 2 (by decide) (hts (.fieldLink RX2 143 "PledgedLoans" "savedStates" "I") (List.mem_of_getElem? (i := 1) rfl)) (fun _ h9 => h9) rfl dX2_saveState_18 ?_
    refine z_aldq (j := N_4 0 0) (v := b (N_4 1 (N_4 0 0)) 0) hx hb hK hP 1 3 rfl rfl dX2_saveState_21 (by omega) (by decide) rfl ?_
    refine lv_aload_n hx hb dX2_saveState_22 rfl (lv_at hl 0 rfl) ?_
    refine va_get (D := D) (ci := 2) (v := .ref (b 0 0)) (C := RX2) (T := TX2) (N := 9) hx hb hts hi2 hown hK hP 0 rfl rfl 0 (by decide) (hts (.fieldLink RX2 10 "PledgedLoans" "books" "LPledgedLoans$Books;") (List.mem_of_getElem? (i := 3) rfl)) (fun _ h9 => h9) rfl dX2_saveState_23 ?_
    obtain ⟨hk1, hk2⟩ : 1 ≤ (N_4 1 (N_4 0 0)) ∧ (N_4 1 (N_4 0 0)) ≤ 8 := by first | (have := hpm (N 0 0) (by omega); omega) | (have h9 := zpm_drop hpm; rw [← eN_4] at h9; have := h9 (N_4 0 0) (by omega); omega)
    obtain ⟨XO, ZO, hO1, hO2⟩ := ot_split (cI := cA 0) (b := b) (Bs := Bs) (N_4 1 (N_4 0 0)) hk1 hk2
    refine z_Mp (wc := bkW (cA 0) (b (N_4 1 (N_4 0 0))) (Bs (N_4 1 (N_4 0 0))) ++ bkW (cA 0) (b 0) B) (w1 := bkW (cA 0) (b (N_4 1 (N_4 0 0))) B ++ bkW (cA 0) (b 0) B) (Z := xmW cA x b rd X N_4 ++ (XO ++ ZO)) (va_runV (As := [.ref (b 0 0)]) (rest := []) ⟨hx, hb, hml, hown, hts⟩ (zc_X0_copyFrom l D cA (b (N_4 1 (N_4 0 0))) (Bs (N_4 1 (N_4 0 0))) (b 0) B) (cwV 1 hts gX2_saveState_X0_copyFrom rfl rfl rfl zy_X0_copyFrom ⟨Nat.le_of_ble_eq_true rfl, Nat.le_of_ble_eq_true rfl⟩) (z_preV (ci := 0) hK (z_Pl (z_permP (z_perm1 hO1) hP)) (z_Dl (z_permD (z_perm1 hO1) hD)) rfl rfl) rfl rfl hl.1 rfl (lv_room (Nat.le_of_ble_eq_true rfl)) dX2_saveState_26 ⟨Nat.zero_le _, Nat.zero_le _⟩) (z_perm1 hO1) ((z_perm1 (hO2 B).symm).symm) hP hD hS (z_adr2 bkW_adr bkW_adr) rfl (fun H locs hP9 hD9 hS9 => ?_)
    replace hP : va_P D vwCl (xmW cA x b rd X N_4 ++ (bkW (cA 0) (b 0) B ++ (otW (cA 0) b (fun j => if j = (N_4 1 (N_4 0 0)) then B else Bs j)))) H := hP9
    replace hD : va_D _ (xmW cA x b rd X N_4 ++ (bkW (cA 0) (b 0) B ++ (otW (cA 0) b (fun j => if j = (N_4 1 (N_4 0 0)) then B else Bs j)))) := hD9
    replace hS := hS9
    clear hP9 hD9 hS9
    obtain ⟨M_5, eM_5⟩ : ∃ z9 : Nat → BK, z9 = (fun j => if j = (N_4 1 (N_4 0 0)) then B else Bs j) := ⟨_, rfl⟩
    rw [← eM_5] at hP hD
    refine lv_aload_n hx hb dX2_saveState_29 rfl (lv_at hl 0 rfl) ?_
    refine lv_dup hx hb dX2_saveState_30 rfl ?_
    refine va_get (D := D) (ci := 2) (v := .int (nI (N_4 0 0))) (C := RX2) (T := TX2) (N := 9) hx hb hts hi2 hown hK hP 0 rfl rfl 2 (by decide) (hts (.fieldLink RX2 143 "PledgedLoans" "savedStates" "I") (List.mem_of_getElem? (i := 1) rfl)) (fun _ h9 => h9) rfl dX2_saveState_31 ?_
    refine lv_iconst (v := 1) hx hb dX2_saveState_34 (by decide) ?_
    refine lv_iadd hx hb dX2_saveState_35 ?_
    refine z_top (nI_add (N_4 0 0) 1) ?_
    refine va_put (D := D) (ci := 2) (v := .int (nI ((N_4 0 0) + 1))) (ty := .int) (C := RX2) (T := TX2) (N := 9) hx hb hts hi2 tyX2 tyX2_ok nmX2 hown hK hP hD hS 0 rfl rfl 2 (by decide) (hts (.fieldLink RX2 143 "PledgedLoans" "savedStates" "I") (List.mem_of_getElem? (i := 1) rfl)) (fun _ h9 => h9) rfl (by decide +kernel) rfl rfl (Nat.le_of_ble_eq_true rfl) dX2_saveState_36 (fun H locs hP9 hD9 hS9 => ?_)
    replace hP : va_P D vwCl (xmW cA x b rd X (uN N_4 0 0 ((N_4 0 0) + 1)) ++ (bkW (cA 0) (b 0) B ++ (otW (cA 0) b M_5))) H := hP9
    replace hD : va_D _ (xmW cA x b rd X (uN N_4 0 0 ((N_4 0 0) + 1)) ++ (bkW (cA 0) (b 0) B ++ (otW (cA 0) b M_5))) := hD9
    replace hS := hS9
    clear hP9 hD9 hS9
    exact z_vretM (w1 := xmW cA x b rd X (uN N_4 0 0 ((N_4 0 0) + 1)) ++ (bkW (cA 0) (b 0) B ++ (otW (cA 0) b M_5))) hx hb hr hlocks dX2_saveState_39 hP hS (by subst eM_5 eN_4; simp only [f_X2_saveState, if_neg c_1])

