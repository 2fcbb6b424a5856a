theorem zy_X0_endWeek : yX0_endWeek.cls = RX0 ∧ yX0_endWeek.cls ≠ "java/lang/invoke/MethodHandle" ∧ yX0_endWeek.cls ≠ "java/lang/invoke/VarHandle" ∧ (parseMethodDescriptor yX0_endWeek.desc).map (fun d => d.parameters.length) = some 0 := by decide +kernel
def f_X0_endWeek_4 (B : BK) (i0 : Int32) (i1 : BK) : Nat → Int32 × BK
  | 0 => (i0, i1)
  | n + 1 =>
    let y0_4 : Int32 := (f_X0_endWeek_4 B i0 i1 n).1
    let y1_4 : BK := (f_X0_endWeek_4 B i0 i1 n).2
    if (f_X0_hasLoan y1_4 n) = 0 then
      (y0_4, y1_4)
    else
      let M_3 : BK := (f_X0_endWeekOf y1_4 n).2
      if ((f_X0_endWeekOf y1_4 n).1) = 0 then
        (y0_4, M_3)
      else
        (y0_4 + 1, M_3)
def f_X0_endWeek (B : BK) : Int32 × BK :=
  let y0_4 : Int32 := (f_X0_endWeek_4 B 0 B 6).1
  let y1_4 : BK := (f_X0_endWeek_4 B 0 B 6).2
  let M_5 : BK := uB (uB y1_4 8 4 ((y1_4 8 4) + 1)) 8 3 (((uB y1_4 8 4 ((y1_4 8 4) + 1)) 8 3) + y0_4)
  (y0_4, M_5)

set_option maxHeartbeats 4000000 in
set_option maxRecDepth 100000 in
theorem zc_X0_endWeek (l : Launch) (D : va_G) (cA : Nat → ClassId) (a : Nat → Nat) (B : BK)  : Met l yX0_endWeek wsX0_endWeek (zrm 4 92) (zPc D cA [.ref (a 0)] (bkW (cA 0) a B)) (zM D (bkW (cA 0) a B) (bkW (cA 0) a ((f_X0_endWeek B).2)) (some (.int ((f_X0_endWeek B).1)))) 0 0 (zfr (bkW (cA 0) a B)) := by
  refine Met.ofW (cc := cX0_endWeek) (maxL := 3) (ret := (some .int)) (by decide) rfl ?_
  intro p e s m args below meth c s₁ Bd hml hv
  obtain ⟨rfl, hP, hK, hD0⟩ := hv
  have hx := Bd.exec
  have hb := Bd.bytes
  have hr := Bd.returns
  have hts := atoms_spec (ws := wsX0_endWeek) Bd.pre
  have hown : s.vm.findClass RX0 = some m.cls := findClass_of_methodNamed Bd.named
  have hlocks := Bd.notSynchronized
  have hD := z_Dfr hD0
  have hS : va_S (zfr (bkW (cA 0) a B)) s.heap s.heap [] := va_S.rf
  have hi0 : ∀ w ∈ wsX00, w ∈ wsX0_endWeek := fun w h => List.mem_cons_of_mem _ (List.mem_append_right _ h)
  have hl := lv_entry ([.ref (a 0)]) (n := 3) (Nat.le_of_ble_eq_true rfl)
  rw [lg_entry_eq]
  generalize (lg_sl ([.ref (a 0)]) ++ List.replicate (3 - (lg_sl ([.ref (a 0)])).length) Slot.unset).toArray = ls at hl ⊢
  have hl : lv_has ls 3 [(0, .ref (a 0))] := hl
  refine lv_iconst (v := 0) hx hb dX0_endWeek_0 (by decide) ?_
  refine lv_istore_n (lv' := [(1, .int 0), (0, .ref (a 0))]) hx hb dX0_endWeek_1 rfl hl (by decide) rfl (fun ls hl => ?_)
  refine lv_iconst (v := 0) hx hb dX0_endWeek_2 (by decide) ?_
  refine lv_istore_n (lv' := [(2, .int 0), (1, .int 0), (0, .ref (a 0))]) hx hb dX0_endWeek_3 rfl hl (by decide) rfl (fun ls hl => ?_)
  have loop_4 : ∀ (kk : Nat) (n : Nat) (y0_4 : Int32) (y1_4 : BK), n ≤ 6 → 6 - n < kk → y0_4 = (f_X0_endWeek_4 B 0 B n).1 → y1_4 = (f_X0_endWeek_4 B 0 B n).2 → ∀ (H : Heap) (locs : List Loc), va_P D vwCl (bkW (cA 0) a y1_4) H → va_D (zfr (bkW (cA 0) a B)) (bkW (cA 0) a y1_4) → va_S (zfr (bkW (cA 0) a B)) s.heap H locs → ∀ (ls : Array Slot), lv_has ls 3 [(0, .ref (a 0)), (1, .int y0_4), (2, .int (nI n))] → W p l e (headSpec wsX0_endWeek (zrm 4 92)).room s m ([.ref (a 0)] : List Value).toArray below meth c H locs 0 0 (MQ below (zM D (bkW (cA 0) a B) (bkW (cA 0) a ((f_X0_endWeek B).2)) (some (.int ((f_X0_endWeek B).1)))) ([.ref (a 0)] : List Value).toArray s 0 0 (zfr (bkW (cA 0) a B))) (F0 m 4 ls []) := by
    intro kk
    induction kk with
    | zero => intro n y0_4 y1_4 _ h9; exact absurd h9 (Nat.not_lt_zero _)
    | succ kk ih_4 =>
      intro n y0_4 y1_4 hn_4 hm_4 q_y0_4 q_y1_4 H locs hP hD hS ls hl
      refine lv_iload_n hx hb dX0_endWeek_4 rfl (lv_at hl 2 rfl) ?_
      refine lv_bipush (v := 6) hx hb dX0_endWeek_5 (by decide) ?_
      refine lv_icmp_ge (tgt := 35) hx hb dX0_endWeek_7 (by decide) (fun c_1 => ?_) (fun c_1 => ?_)
      · have c_1 : 6 ≤ n := (nI_leI (a := 6) (b := n) (by omega) (by omega)).mp c_1
        obtain rfl : n = 6 := by omega
        obtain ⟨z_4, hz_4⟩ : ∃ z9, z9 = f_X0_endWeek_4 B 0 B 6 := ⟨_, rfl⟩
        rw [← hz_4] at q_y0_4 q_y1_4
        refine lv_aload_n hx hb dX0_endWeek_35 rfl (lv_at hl 0 rfl) ?_
        refine lv_dup hx hb dX0_endWeek_36 rfl ?_
        refine va_get (D := D) (ci := 0) (v := .int (y1_4 8 4)) (C := RX0) (T := TX0) (N := 16) hx hb hts hi0 hown hK hP 0 rfl rfl 12 (by decide) (hts (.fieldLink RX0 53 "PledgedLoans$Books" "weeksEnded" "I") (List.mem_of_getElem? (i := 1) rfl)) (fun _ h9 => h9) rfl dX0_endWeek_37 ?_
        refine lv_iconst (v := 1) hx hb dX0_endWeek_40 (by decide) ?_
        refine lv_iadd hx hb dX0_endWeek_41 ?_
        refine va_put (D := D) (ci := 0) (v := .int ((y1_4 8 4) + 1)) (ty := .int) (C := RX0) (T := TX0) (N := 16) hx hb hts hi0 tyX0 tyX0_ok nmX0 hown hK hP hD hS 0 rfl rfl 12 (by decide) (hts (.fieldLink RX0 53 "PledgedLoans$Books" "weeksEnded" "I") (List.mem_of_getElem? (i := 1) rfl)) (fun _ h9 => h9) rfl (by decide +kernel) rfl rfl (Nat.le_of_ble_eq_true rfl) dX0_endWeek_42 (fun H locs hP hD hS => ?_)
        have hP : va_P D vwCl (bkW (cA 0) a (uB y1_4 8 4 ((y1_4 8 4) + 1))) H := hP
        have hD : va_D _ (bkW (cA 0) a (uB y1_4 8 4 ((y1_4 8 4) + 1))) := hD
        refine lv_aload_n hx hb dX0_endWeek_45 rfl (lv_at hl 0 rfl) ?_
        refine lv_dup hx hb dX0_endWeek_46 rfl ?_
        refine va_get (D := D) (ci := 0) (v := .int ((uB y1_4 8 4 ((y1_4 8 4) + 1)) 8 3)) (C := RX0) (T := TX0) (N := 16) hx hb hts hi0 hown hK hP 0 rfl rfl 11 (by decide) (hts (.fieldLink RX0 50 "PledgedLoans$Books" "loansFallenDue" "I") (List.mem_of_getElem? (i := 2) rfl)) (fun _ h9 => h9) rfl dX0_endWeek_47 ?_
        refine lv_iload_n hx hb dX0_endWeek_50 rfl (lv_at hl 1 rfl) ?_
        refine lv_iadd hx hb dX0_endWeek_51 ?_
        refine va_put (D := D) (ci := 0) (v := .int (((uB y1_4 8 4 ((y1_4 8 4) + 1)) 8 3) + y0_4)) (ty := .int) (C := RX0) (T := TX0) (N := 16) hx hb hts hi0 tyX0 tyX0_ok nmX0 hown hK hP hD hS 0 rfl rfl 11 (by decide) (hts (.fieldLink RX0 50 "PledgedLoans$Books" "loansFallenDue" "I") (List.mem_of_getElem? (i := 2) rfl)) (fun _ h9 => h9) rfl (by decide +kernel) rfl rfl (Nat.le_of_ble_eq_true rfl) dX0_endWeek_52 (fun H locs hP hD hS => ?_)
        have hP : va_P D vwCl (bkW (cA 0) a (uB (uB y1_4 8 4 ((y1_4 8 4) + 1)) 8 3 (((uB y1_4 8 4 ((y1_4 8 4) + 1)) 8 3) + y0_4))) H := hP
        have hD : va_D _ (bkW (cA 0) a (uB (uB y1_4 8 4 ((y1_4 8 4) + 1)) 8 3 (((uB y1_4 8 4 ((y1_4 8 4) + 1)) 8 3) + y0_4))) := hD
        obtain ⟨M_2, eM_2⟩ : ∃ z9 : BK, z9 = uB (uB y1_4 8 4 ((y1_4 8 4) + 1)) 8 3 (((uB y1_4 8 4 ((y1_4 8 4) + 1)) 8 3) + y0_4) := ⟨_, rfl⟩
        rw [← eM_2] at hP hD
        refine lv_iload_n hx hb dX0_endWeek_55 rfl (lv_at hl 1 rfl) ?_
        exact z_iretM (w1 := bkW (cA 0) a M_2) hx hb hr hlocks dX0_endWeek_56 hP hS (by subst eM_2 q_y1_4 q_y0_4; first | (simp -proj only [f_X0_endWeek, ← hz_4]; first | done | rfl; done) | rfl) (by subst eM_2 q_y1_4 q_y0_4; first | (simp -proj only [f_X0_endWeek, ← hz_4]; first | done | rfl; done) | rfl)
      · have c_1 : ¬ 6 ≤ n := fun h9 => c_1 ((nI_leI (a := 6) (b := n) (by omega) (by omega)).mpr h9)
        refine lv_aload_n hx hb dX0_endWeek_10 rfl (lv_at hl 0 rfl) ?_
        refine lv_iload_n hx hb dX0_endWeek_11 rfl (lv_at hl 2 rfl) ?_
        refine z_E (va_runV (As := [.int (nI n)]) (rest := []) ⟨hx, hb, hml, hown, hts⟩ (zc_X0_hasLoan l D cA a y1_4 n (by omega)) (cwV 1 hts gX0_endWeek_X0_hasLoan rfl rfl rfl zy_X0_hasLoan ⟨Nat.le_of_ble_eq_true rfl, Nat.le_of_ble_eq_true rfl⟩) (z_preV (ci := 0) hK hP hD rfl rfl) rfl rfl hl.1 rfl (lv_room (Nat.le_of_ble_eq_true rfl)) dX0_endWeek_12 ⟨Nat.zero_le _, Nat.zero_le _⟩) rfl ?_
        refine lv_if_eq (tgt := 29) hx hb dX0_endWeek_15 (by decide) (fun c_3 => ?_) (fun c_3 => ?_)
        · refine lv_iinc (v := nI (n + 1)) (lv' := [(2, .int (nI (n + 1))), (0, .ref (a 0)), (1, .int y0_4)]) hx hb dX0_endWeek_29 hl (k := 2) rfl (by rw [show (Int32.ofInt 1) = nI 1 from by decide]; exact nI_add n 1) (by decide) rfl (fun ls hl => ?_)
          refine lv_goto (tgt := 4) hx hb dX0_endWeek_32 (by decide) ?_
          exact ih_4 (n + 1) _ _ (by omega) (by omega) (by subst q_y1_4 q_y0_4; simp only [f_X0_endWeek_4, if_pos c_3]) (by subst q_y1_4 q_y0_4; simp only [f_X0_endWeek_4, if_pos c_3]) _ _ hP hD hS ls (lv_sub hl [1, 2, 0] rfl)
        · refine lv_aload_n hx hb dX0_endWeek_18 rfl (lv_at hl 0 rfl) ?_
          refine lv_iload_n hx hb dX0_endWeek_19 rfl (lv_at hl 2 rfl) ?_
          refine z_M (X := ([] : va_W)) (Z := ([] : va_W)) (va_runV (As := [.int (nI n)]) (rest := []) ⟨hx, hb, hml, hown, hts⟩ (zc_X0_endWeekOf l D cA a y1_4 n (by omega)) (cwV 1 hts gX0_endWeek_X0_endWeekOf rfl rfl rfl zy_X0_endWeekOf ⟨Nat.le_of_ble_eq_true rfl, Nat.le_of_ble_eq_true rfl⟩) (z_preV (ci := 0) hK hP hD rfl rfl) rfl rfl hl.1 rfl (lv_room (Nat.le_of_ble_eq_true rfl)) dX0_endWeek_20 ⟨Nat.zero_le _, Nat.zero_le _⟩) hP hD hS rfl rfl (fun H locs hP hD hS => ?_)
          have hP : va_P D vwCl (bkW (cA 0) a ((f_X0_endWeekOf y1_4 n).2)) H := hP
          have hD : va_D _ (bkW (cA 0) a ((f_X0_endWeekOf y1_4 n).2)) := hD
          obtain ⟨M_4, eM_4⟩ : ∃ z9 : BK, z9 = (f_X0_endWeekOf y1_4 n).2 := ⟨_, rfl⟩
          rw [← eM_4] at hP hD
          refine lv_if_eq (tgt := 29) hx hb dX0_endWeek_23 (by decide) (fun c_5 => ?_) (fun c_5 => ?_)
          · refine lv_iinc (v := nI (n + 1)) (lv' := [(2, .int (nI (n + 1))), (0, .ref (a 0)), (1, .int y0_4)]) hx hb dX0_endWeek_29 hl (k := 2) rfl (by rw [show (Int32.ofInt 1) = nI 1 from by decide]; exact nI_add n 1) (by decide) rfl (fun ls hl => ?_)
            refine lv_goto (tgt := 4) hx hb dX0_endWeek_32 (by decide) ?_
            exact ih_4 (n + 1) _ _ (by omega) (by omega) (by subst eM_4 q_y1_4 q_y0_4; simp only [f_X0_endWeek_4, if_neg c_3, if_pos c_5]) (by subst eM_4 q_y1_4 q_y0_4; simp only [f_X0_endWeek_4, if_neg c_3, if_pos c_5]) _ _ hP hD hS ls (lv_sub hl [1, 2, 0] rfl)
          · refine lv_iinc (v := y0_4 + 1) (lv' := [(1, .int (y0_4 + 1)), (0, .ref (a 0)), (2, .int (nI n))]) hx hb dX0_endWeek_26 hl (k := 1) rfl (by rfl) (by decide) rfl (fun ls hl => ?_)
            refine lv_iinc (v := nI (n + 1)) (lv' := [(2, .int (nI (n + 1))), (1, .int (y0_4 + 1)), (0, .ref (a 0))]) hx hb dX0_endWeek_29 hl (k := 2) rfl (by rw [show (Int32.ofInt 1) = nI 1 from by decide]; exact nI_add n 1) (by decide) rfl (fun ls hl => ?_)
            refine lv_goto (tgt := 4) hx hb dX0_endWeek_32 (by decide) ?_
            exact ih_4 (n + 1) _ _ (by omega) (by omega) (by subst eM_4 q_y1_4 q_y0_4; simp only [f_X0_endWeek_4, if_neg c_3, if_neg c_5]) (by subst eM_4 q_y1_4 q_y0_4; simp only [f_X0_endWeek_4, if_neg c_3, if_neg c_5]) _ _ hP hD hS ls (lv_sub hl [2, 1, 0] rfl)
  exact loop_4 _ 0 _ _ (by omega) (Nat.lt_succ_self _) rfl rfl _ _ hP hD hS ls (lv_sub hl [2, 1, 0] rfl)

