theorem zy_X3_endsWeek : yX3_endsWeek.cls = RX3 ∧ yX3_endsWeek.cls ≠ "java/lang/invoke/MethodHandle" ∧ yX3_endsWeek.cls ≠ "java/lang/invoke/VarHandle" ∧ (parseMethodDescriptor yX3_endsWeek.desc).map (fun d => d.parameters.length) = some 0 := by decide +kernel
def f_X3_endsWeek_4 (M : BK) (i0 : Int32) (i1 : BK) : Nat → Int32 × BK
  | 0 => (i0, i1)
  | n + 1 =>
    let y0_4 : Int32 := (f_X3_endsWeek_4 M i0 i1 n).1
    let y1_4 : BK := (f_X3_endsWeek_4 M i0 i1 n).2
    if (f_X3_of y1_4 n 2) ≤ 0 then
      (y0_4, y1_4)
    else
      if (f_X3_of y1_4 n 3) ≤ (f_X3_of y1_4 n 4) then
        let M_5 : BK := f_X3_adds y1_4 n 5 (-(f_X3_of y1_4 n 5))
        let M_6 : BK := f_X3_adds M_5 n 4 (-(f_X3_of M_5 n 4))
        if (f_X3_of M_6 n 5) < (M_6 0 9) then
          (y0_4, M_6)
        else
          let M_8 : BK := f_X3_fallsDue M_6 n
          (y0_4 + 1, M_8)
      else
        let M_10 : BK := f_X3_adds y1_4 n 5 1
        let M_11 : BK := f_X3_adds M_10 n 4 (-(f_X3_of M_10 n 4))
        if (f_X3_of M_11 n 5) < (M_11 0 9) then
          (y0_4, M_11)
        else
          let M_13 : BK := f_X3_fallsDue M_11 n
          (y0_4 + 1, M_13)
def f_X3_endsWeek (M : BK) : Int32 × BK :=
  let y0_4 : Int32 := (f_X3_endsWeek_4 M 0 M 6).1
  let y1_4 : BK := (f_X3_endsWeek_4 M 0 M 6).2
  (y0_4, uB y1_4 0 4 ((y1_4 0 4) + 1))

set_option maxHeartbeats 4000000 in
set_option maxRecDepth 100000 in
theorem zc_X3_endsWeek (l : Launch) (D : va_G) (cA : Nat → ClassId) (a : Nat → Nat) (M : BK) (N : Nat → Nat) (h : Int64)  : Met l yX3_endsWeek wsX3_endsWeek (zrm 4 88) (zPc D cA [.ref (a 0)] (moW cA a M N h)) (zM D (moW cA a M N h) (moW cA a ((f_X3_endsWeek M).2) N h) (some (.int ((f_X3_endsWeek M).1)))) 0 0 (zfr (moW cA a M N h)) := by
  refine Met.ofW (cc := cX3_endsWeek) (maxL := 4) (ret := (some .int)) (by decide) rfl ?_
  intro p e s m args below meth c s₁ Bd hml hv
  obtain ⟨rfl, hP, hK, hD0⟩ := hv
  have hx := Bd.exec
  have hb := Bd.bytes
  have hr := Bd.returns
  have hts := atoms_spec (ws := wsX3_endsWeek) Bd.pre
  have hown : s.vm.findClass RX3 = some m.cls := findClass_of_methodNamed Bd.named
  have hlocks := Bd.notSynchronized
  have hD := z_Dfr hD0
  have hS : va_S (zfr (moW cA a M N h)) s.heap s.heap [] := va_S.rf
  have hi3 : ∀ w ∈ wsX30, w ∈ wsX3_endsWeek := fun w h => List.mem_cons_of_mem _ (List.mem_append_right _ h)
  have hl := lv_entry ([.ref (a 0)]) (n := 4) (Nat.le_of_ble_eq_true rfl)
  rw [lg_entry_eq]
  generalize (lg_sl ([.ref (a 0)]) ++ List.replicate (4 - (lg_sl ([.ref (a 0)])).length) Slot.unset).toArray = ls at hl ⊢
  have hl : lv_has ls 4 [(0, .ref (a 0))] := hl
  refine lv_iconst (v := 0) hx hb dX3_endsWeek_0 (by decide) ?_
  refine lv_istore_n (lv' := [(1, .int 0), (0, .ref (a 0))]) hx hb dX3_endsWeek_1 rfl hl (by decide) rfl (fun ls hl => ?_)
  refine lv_iconst (v := 0) hx hb dX3_endsWeek_2 (by decide) ?_
  refine lv_istore_n (lv' := [(2, .int 0), (1, .int 0), (0, .ref (a 0))]) hx hb dX3_endsWeek_3 rfl hl (by decide) rfl (fun ls hl => ?_)
  have loop_4 : ∀ (kk : Nat) (n : Nat) (y0_4 : Int32) (y1_4 : BK), n ≤ 6 → 6 - n < kk → y0_4 = (f_X3_endsWeek_4 M 0 M n).1 → y1_4 = (f_X3_endsWeek_4 M 0 M n).2 → ∀ (H : Heap) (locs : List Loc), va_P D vwCl (moW cA a y1_4 N h) H → va_D (zfr (moW cA a M N h)) (moW cA a y1_4 N h) → va_S (zfr (moW cA a M N h)) s.heap H locs → ∀ (ls : Array Slot), lv_has ls 4 [(0, .ref (a 0)), (1, .int y0_4), (2, .int (nI n))] → W p l e (headSpec wsX3_endsWeek (zrm 4 88)).room s m ([.ref (a 0)] : List Value).toArray below meth c H locs 0 0 (MQ below (zM D (moW cA a M N h) (moW cA a ((f_X3_endsWeek M).2) N h) (some (.int ((f_X3_endsWeek M).1)))) ([.ref (a 0)] : List Value).toArray s 0 0 (zfr (moW cA a M N h))) (F0 m 4 ls []) := by
    intro kk
    induction kk with
    | zero => intro n y0_4 y1_4 _ h9; exact absurd h9 (Nat.not_lt_zero _)
    | succ kk ih_4 =>
      intro n y0_4 y1_4 hn_4 hm_4 q_y0_4 q_y1_4 H locs hP hD hS ls hl
      refine lv_iload_n hx hb dX3_endsWeek_4 rfl (lv_at hl 2 rfl) ?_
      refine lv_bipush (v := 6) hx hb dX3_endsWeek_5 (by decide) ?_
      refine lv_icmp_ge (tgt := 104) hx hb dX3_endsWeek_7 (by decide) (fun c_1 => ?_) (fun c_1 => ?_)
      · have c_1 : 6 ≤ n := (nI_leI (a := 6) (b := n) (by omega) (by omega)).mp c_1
        obtain rfl : n = 6 := by omega
        obtain ⟨z_4, hz_4⟩ : ∃ z9, z9 = f_X3_endsWeek_4 M 0 M 6 := ⟨_, rfl⟩
        rw [← hz_4] at q_y0_4 q_y1_4
        refine lv_aload_n hx hb dX3_endsWeek_104 rfl (lv_at hl 0 rfl) ?_
        refine va_get (D := D) (ci := 3) (v := .ref (a 1)) (C := RX3) (T := TX3) (N := 14) hx hb hts hi3 hown hK hP 0 rfl rfl 1 (by decide) (hts (.fieldLink RX3 7 "PledgedLoansModel" "s" "[I") (List.mem_of_getElem? (i := 1) rfl)) (fun _ h9 => h9) rfl dX3_endsWeek_105 ?_
        refine lv_iconst (v := 4) hx hb dX3_endsWeek_108 (by decide) ?_
        refine lv_dup2_11 hx hb dX3_endsWeek_109 rfl rfl ?_
        refine z_iald (j := 4) hx hb hK hP 1 0 rfl rfl dX3_endsWeek_110 (by omega) (by decide) ?_
        refine lv_iconst (v := 1) hx hb dX3_endsWeek_111 (by decide) ?_
        refine lv_iadd hx hb dX3_endsWeek_112 ?_
        refine z_iast (j := 4) hx hb hK hP hD hS 1 0 rfl rfl dX3_endsWeek_113 (by omega) (by decide) (moW cA a (uB y1_4 0 4 ((y1_4 0 4) + 1)) N h) rfl (fun H locs hP hD hS => ?_)
        refine lv_iload_n hx hb dX3_endsWeek_114 rfl (lv_at hl 1 rfl) ?_
        exact z_iretM (w1 := moW cA a (uB y1_4 0 4 ((y1_4 0 4) + 1)) N h) hx hb hr hlocks dX3_endsWeek_115 hP hS (by subst q_y1_4 q_y0_4; first | (simp -proj only [f_X3_endsWeek, ← hz_4]; first | done | rfl; done) | rfl) (by subst q_y1_4 q_y0_4; first | (simp -proj only [f_X3_endsWeek, ← hz_4]; first | done | rfl; done) | rfl)
      · have c_1 : ¬ 6 ≤ n := fun h9 => c_1 ((nI_leI (a := 6) (b := n) (by omega) (by omega)).mpr h9)
        refine lv_aload_n hx hb dX3_endsWeek_10 rfl (lv_at hl 0 rfl) ?_
        refine lv_iload_n hx hb dX3_endsWeek_11 rfl (lv_at hl 2 rfl) ?_
        refine lv_iconst (v := 2) hx hb dX3_endsWeek_12 (by decide) ?_
        refine z_E (va_runV (As := [.int (nI n), .int 2]) (rest := []) ⟨hx, hb, hml, hown, hts⟩ (zc_X3_of l D cA a y1_4 N h n 2 (by omega) (by omega)) (cwV 2 hts gX3_endsWeek_X3_of rfl rfl rfl zy_X3_of ⟨Nat.le_of_ble_eq_true rfl, Nat.le_of_ble_eq_true rfl⟩) (z_preV (ci := 3) hK hP hD rfl rfl) rfl rfl hl.1 rfl (lv_room (Nat.le_of_ble_eq_true rfl)) dX3_endsWeek_13 ⟨Nat.zero_le _, Nat.zero_le _⟩) rfl ?_
        refine lv_if_le (tgt := 98) hx hb dX3_endsWeek_16 (by decide) (fun c_2 => ?_) (fun c_2 => ?_)
        · refine lv_iinc (v := nI (n + 1)) (lv' := [(2, .int (nI (n + 1))), (0, .ref (a 0)), (1, .int y0_4)]) hx hb dX3_endsWeek_98 hl (k := 2) rfl (by rw [show (Int32.ofInt 1) = nI 1 from by decide]; exact nI_add n 1) (by decide) rfl (fun ls hl => ?_)
          refine lv_goto (tgt := 4) hx hb dX3_endsWeek_101 (by decide) ?_
          exact ih_4 (n + 1) _ _ (by omega) (by omega) (by subst q_y1_4 q_y0_4; simp only [f_X3_endsWeek_4, if_pos c_2]) (by subst q_y1_4 q_y0_4; simp only [f_X3_endsWeek_4, if_pos c_2]) _ _ hP hD hS ls (lv_sub hl [1, 2, 0] rfl)
        · refine lv_aload_n hx hb dX3_endsWeek_19 rfl (lv_at hl 0 rfl) ?_
          refine lv_iload_n hx hb dX3_endsWeek_20 rfl (lv_at hl 2 rfl) ?_
          refine lv_iconst (v := 4) hx hb dX3_endsWeek_21 (by decide) ?_
          refine z_E (va_runV (As := [.int (nI n), .int 4]) (rest := []) ⟨hx, hb, hml, hown, hts⟩ (zc_X3_of l D cA a y1_4 N h n 4 (by omega) (by omega)) (cwV 2 hts gX3_endsWeek_X3_of rfl rfl rfl zy_X3_of ⟨Nat.le_of_ble_eq_true rfl, Nat.le_of_ble_eq_true rfl⟩) (z_preV (ci := 3) hK hP hD rfl rfl) rfl rfl hl.1 rfl (lv_room (Nat.le_of_ble_eq_true rfl)) dX3_endsWeek_22 ⟨Nat.zero_le _, Nat.zero_le _⟩) rfl ?_
          refine lv_aload_n hx hb dX3_endsWeek_25 rfl (lv_at hl 0 rfl) ?_
          refine lv_iload_n hx hb dX3_endsWeek_26 rfl (lv_at hl 2 rfl) ?_
          refine lv_iconst (v := 3) hx hb dX3_endsWeek_27 (by decide) ?_
          refine z_E (va_runV (As := [.int (nI n), .int 3]) (rest := [.int (f_X3_of y1_4 n 4)]) ⟨hx, hb, hml, hown, hts⟩ (zc_X3_of l D cA a y1_4 N h n 3 (by omega) (by omega)) (cwV 2 hts gX3_endsWeek_X3_of rfl rfl rfl zy_X3_of ⟨Nat.le_of_ble_eq_true rfl, Nat.le_of_ble_eq_true rfl⟩) (z_preV (ci := 3) hK hP hD rfl rfl) rfl rfl hl.1 rfl (lv_room (Nat.le_of_ble_eq_true rfl)) dX3_endsWeek_28 ⟨Nat.zero_le _, Nat.zero_le _⟩) rfl ?_
          refine lv_icmp_ge (tgt := 38) hx hb dX3_endsWeek_31 (by decide) (fun c_3 => ?_) (fun c_3 => ?_)
          · refine lv_iconst (v := 0) hx hb dX3_endsWeek_38 (by decide) ?_
            refine lv_istore_n (lv' := [(3, .int 0), (0, .ref (a 0)), (1, .int y0_4), (2, .int (nI n))]) hx hb dX3_endsWeek_39 rfl hl (by decide) rfl (fun ls hl => ?_)
            refine lv_aload_n hx hb dX3_endsWeek_40 rfl (lv_at hl 1 rfl) ?_
            refine lv_iload_n hx hb dX3_endsWeek_41 rfl (lv_at hl 3 rfl) ?_
            refine lv_iconst (v := 5) hx hb dX3_endsWeek_42 (by decide) ?_
            refine lv_iload_n hx hb dX3_endsWeek_43 rfl (lv_at hl 0 rfl) ?_
            refine lv_if_eq (tgt := 51) hx hb dX3_endsWeek_44 (by decide) (fun c_4 => ?_) (fun c_4 => ?_)
            · refine lv_aload_n hx hb dX3_endsWeek_51 rfl (lv_at hl 1 rfl) ?_
              refine lv_iload_n hx hb dX3_endsWeek_52 rfl (lv_at hl 3 rfl) ?_
              refine lv_iconst (v := 5) hx hb dX3_endsWeek_53 (by decide) ?_
              refine z_E (va_runV (As := [.int (nI n), .int 5]) (rest := [.int 5, .int (nI n), .ref (a 0)]) ⟨hx, hb, hml, hown, hts⟩ (zc_X3_of l D cA a y1_4 N h n 5 (by omega) (by omega)) (cwV 2 hts gX3_endsWeek_X3_of rfl rfl rfl zy_X3_of ⟨Nat.le_of_ble_eq_true rfl, Nat.le_of_ble_eq_true rfl⟩) (z_preV (ci := 3) hK hP hD rfl rfl) rfl rfl hl.1 rfl (lv_room (Nat.le_of_ble_eq_true rfl)) dX3_endsWeek_54 ⟨Nat.zero_le _, Nat.zero_le _⟩) rfl ?_
              refine lv_ineg hx hb dX3_endsWeek_57 ?_
              refine z_M (X := ([] : va_W)) (Z := ([] : va_W)) (va_runV (As := [.int (nI n), .int 5, .int (-(f_X3_of y1_4 n 5))]) (rest := []) ⟨hx, hb, hml, hown, hts⟩ (zc_X3_adds l D cA a y1_4 N h n 5 (-(f_X3_of y1_4 n 5)) (by omega) (by omega)) (cwV 3 hts gX3_endsWeek_X3_adds rfl rfl rfl zy_X3_adds ⟨Nat.le_of_ble_eq_true rfl, Nat.le_of_ble_eq_true rfl⟩) (z_preV (ci := 3) hK hP hD rfl rfl) rfl rfl hl.1 rfl (lv_room (Nat.le_of_ble_eq_true rfl)) dX3_endsWeek_58 ⟨Nat.zero_le _, Nat.zero_le _⟩) hP hD hS rfl rfl (fun H locs hP hD hS => ?_)
              have hP : va_P D vwCl (moW cA a (f_X3_adds y1_4 n 5 (-(f_X3_of y1_4 n 5))) N h) H := hP
              have hD : va_D _ (moW cA a (f_X3_adds y1_4 n 5 (-(f_X3_of y1_4 n 5))) N h) := hD
              obtain ⟨M_5, eM_5⟩ : ∃ z9 : BK, z9 = f_X3_adds y1_4 n 5 (-(f_X3_of y1_4 n 5)) := ⟨_, rfl⟩
              rw [← eM_5] at hP hD
              refine lv_aload_n hx hb dX3_endsWeek_61 rfl (lv_at hl 1 rfl) ?_
              refine lv_iload_n hx hb dX3_endsWeek_62 rfl (lv_at hl 3 rfl) ?_
              refine lv_iconst (v := 4) hx hb dX3_endsWeek_63 (by decide) ?_
              refine lv_aload_n hx hb dX3_endsWeek_64 rfl (lv_at hl 1 rfl) ?_
              refine lv_iload_n hx hb dX3_endsWeek_65 rfl (lv_at hl 3 rfl) ?_
              refine lv_iconst (v := 4) hx hb dX3_endsWeek_66 (by decide) ?_
              refine z_E (va_runV (As := [.int (nI n), .int 4]) (rest := [.int 4, .int (nI n), .ref (a 0)]) ⟨hx, hb, hml, hown, hts⟩ (zc_X3_of l D cA a M_5 N h n 4 (by omega) (by omega)) (cwV 2 hts gX3_endsWeek_X3_of rfl rfl rfl zy_X3_of ⟨Nat.le_of_ble_eq_true rfl, Nat.le_of_ble_eq_true rfl⟩) (z_preV (ci := 3) hK hP hD rfl rfl) rfl rfl hl.1 rfl (lv_room (Nat.le_of_ble_eq_true rfl)) dX3_endsWeek_67 ⟨Nat.zero_le _, Nat.zero_le _⟩) rfl ?_
              refine lv_ineg hx hb dX3_endsWeek_70 ?_
              refine z_M (X := ([] : va_W)) (Z := ([] : va_W)) (va_runV (As := [.int (nI n), .int 4, .int (-(f_X3_of M_5 n 4))]) (rest := []) ⟨hx, hb, hml, hown, hts⟩ (zc_X3_adds l D cA a M_5 N h n 4 (-(f_X3_of M_5 n 4)) (by omega) (by omega)) (cwV 3 hts gX3_endsWeek_X3_adds rfl rfl rfl zy_X3_adds ⟨Nat.le_of_ble_eq_true rfl, Nat.le_of_ble_eq_true rfl⟩) (z_preV (ci := 3) hK hP hD rfl rfl) rfl rfl hl.1 rfl (lv_room (Nat.le_of_ble_eq_true rfl)) dX3_endsWeek_71 ⟨Nat.zero_le _, Nat.zero_le _⟩) hP hD hS rfl rfl (fun H locs hP hD hS => ?_)
              have hP : va_P D vwCl (moW cA a (f_X3_adds M_5 n 4 (-(f_X3_of M_5 n 4))) N h) H := hP
              have hD : va_D _ (moW cA a (f_X3_adds M_5 n 4 (-(f_X3_of M_5 n 4))) N h) := hD
              obtain ⟨M_6, eM_6⟩ : ∃ z9 : BK, z9 = f_X3_adds M_5 n 4 (-(f_X3_of M_5 n 4)) := ⟨_, rfl⟩
              rw [← eM_6] at hP hD
              refine lv_aload_n hx hb dX3_endsWeek_74 rfl (lv_at hl 1 rfl) ?_
              refine lv_iload_n hx hb dX3_endsWeek_75 rfl (lv_at hl 3 rfl) ?_
              refine lv_iconst (v := 5) hx hb dX3_endsWeek_76 (by decide) ?_
              refine z_E (va_runV (As := [.int (nI n), .int 5]) (rest := []) ⟨hx, hb, hml, hown, hts⟩ (zc_X3_of l D cA a M_6 N h n 5 (by omega) (by omega)) (cwV 2 hts gX3_endsWeek_X3_of rfl rfl rfl zy_X3_of ⟨Nat.le_of_ble_eq_true rfl, Nat.le_of_ble_eq_true rfl⟩) (z_preV (ci := 3) hK hP hD rfl rfl) rfl rfl hl.1 rfl (lv_room (Nat.le_of_ble_eq_true rfl)) dX3_endsWeek_77 ⟨Nat.zero_le _, Nat.zero_le _⟩) rfl ?_
              refine lv_aload_n hx hb dX3_endsWeek_80 rfl (lv_at hl 1 rfl) ?_
              refine va_get (D := D) (ci := 3) (v := .ref (a 1)) (C := RX3) (T := TX3) (N := 14) hx hb hts hi3 hown hK hP 0 rfl rfl 1 (by decide) (hts (.fieldLink RX3 7 "PledgedLoansModel" "s" "[I") (List.mem_of_getElem? (i := 1) rfl)) (fun _ h9 => h9) rfl dX3_endsWeek_81 ?_
              refine lv_bipush (v := 9) hx hb dX3_endsWeek_84 (by decide) ?_
              refine z_iald (j := 9) hx hb hK hP 1 0 rfl rfl dX3_endsWeek_86 (by omega) (by decide) ?_
              refine lv_icmp_lt (tgt := 98) hx hb dX3_endsWeek_87 (by decide) (fun c_7 => ?_) (fun c_7 => ?_)
              · refine lv_iinc (v := nI (n + 1)) (lv' := [(2, .int (nI (n + 1))), (3, .int 0), (0, .ref (a 0)), (1, .int y0_4)]) hx hb dX3_endsWeek_98 hl (k := 3) rfl (by rw [show (Int32.ofInt 1) = nI 1 from by decide]; exact nI_add n 1) (by decide) rfl (fun ls hl => ?_)
                refine lv_goto (tgt := 4) hx hb dX3_endsWeek_101 (by decide) ?_
                exact ih_4 (n + 1) _ _ (by omega) (by omega) (by subst eM_6 eM_5 q_y1_4 q_y0_4; simp only [f_X3_endsWeek_4, if_neg c_2, if_pos c_3, if_pos c_7]) (by subst eM_6 eM_5 q_y1_4 q_y0_4; simp only [f_X3_endsWeek_4, if_neg c_2, if_pos c_3, if_pos c_7]) _ _ hP hD hS ls (lv_sub hl [2, 3, 0] rfl)
              · refine lv_aload_n hx hb dX3_endsWeek_90 rfl (lv_at hl 1 rfl) ?_
                refine lv_iload_n hx hb dX3_endsWeek_91 rfl (lv_at hl 3 rfl) ?_
                refine z_M (X := ([] : va_W)) (Z := ([] : va_W)) (va_runV (As := [.int (nI n)]) (rest := []) ⟨hx, hb, hml, hown, hts⟩ (zc_X3_fallsDue l D cA a M_6 N h n (by omega)) (cwV 1 hts gX3_endsWeek_X3_fallsDue rfl rfl rfl zy_X3_fallsDue ⟨Nat.le_of_ble_eq_true rfl, Nat.le_of_ble_eq_true rfl⟩) (z_preV (ci := 3) hK hP hD rfl rfl) rfl rfl hl.1 rfl (lv_room (Nat.le_of_ble_eq_true rfl)) dX3_endsWeek_92 ⟨Nat.zero_le _, Nat.zero_le _⟩) hP hD hS rfl rfl (fun H locs hP hD hS => ?_)
                have hP : va_P D vwCl (moW cA a (f_X3_fallsDue M_6 n) N h) H := hP
                have hD : va_D _ (moW cA a (f_X3_fallsDue M_6 n) N h) := hD
                obtain ⟨M_8, eM_8⟩ : ∃ z9 : BK, z9 = f_X3_fallsDue M_6 n := ⟨_, rfl⟩
                rw [← eM_8] at hP hD
                refine lv_iinc (v := y0_4 + 1) (lv' := [(1, .int (y0_4 + 1)), (3, .int 0), (0, .ref (a 0)), (2, .int (nI n))]) hx hb dX3_endsWeek_95 hl (k := 2) rfl (by rfl) (by decide) rfl (fun ls hl => ?_)
                refine lv_iinc (v := nI (n + 1)) (lv' := [(2, .int (nI (n + 1))), (1, .int (y0_4 + 1)), (3, .int 0), (0, .ref (a 0))]) hx hb dX3_endsWeek_98 hl (k := 3) rfl (by rw [show (Int32.ofInt 1) = nI 1 from by decide]; exact nI_add n 1) (by decide) rfl (fun ls hl => ?_)
                refine lv_goto (tgt := 4) hx hb dX3_endsWeek_101 (by decide) ?_
                exact ih_4 (n + 1) _ _ (by omega) (by omega) (by subst eM_8 eM_6 eM_5 q_y1_4 q_y0_4; simp only [f_X3_endsWeek_4, if_neg c_2, if_pos c_3, if_neg c_7]) (by subst eM_8 eM_6 eM_5 q_y1_4 q_y0_4; simp only [f_X3_endsWeek_4, if_neg c_2, if_pos c_3, if_neg c_7]) _ _ hP hD hS ls (lv_sub hl [3, 1, 0] rfl)
            · exact absurd c_4 (by decide)
          · refine lv_iconst (v := 1) hx hb dX3_endsWeek_34 (by decide) ?_
            refine lv_goto (tgt := 39) hx hb dX3_endsWeek_35 (by decide) ?_
            refine lv_istore_n (lv' := [(3, .int 1), (0, .ref (a 0)), (1, .int y0_4), (2, .int (nI n))]) hx hb dX3_endsWeek_39 rfl hl (by decide) rfl (fun ls hl => ?_)
            refine lv_aload_n hx hb dX3_endsWeek_40 rfl (lv_at hl 1 rfl) ?_
            refine lv_iload_n hx hb dX3_endsWeek_41 rfl (lv_at hl 3 rfl) ?_
            refine lv_iconst (v := 5) hx hb dX3_endsWeek_42 (by decide) ?_
            refine lv_iload_n hx hb dX3_endsWeek_43 rfl (lv_at hl 0 rfl) ?_
            refine lv_if_eq (tgt := 51) hx hb dX3_endsWeek_44 (by decide) (fun c_9 => ?_) (fun c_9 => ?_)
            · exact absurd c_9 (by decide)
            · refine lv_iconst (v := 1) hx hb dX3_endsWeek_47 (by decide) ?_
              refine lv_goto (tgt := 58) hx hb dX3_endsWeek_48 (by decide) ?_
              refine z_M (X := ([] : va_W)) (Z := ([] : va_W)) (va_runV (As := [.int (nI n), .int 5, .int 1]) (rest := []) ⟨hx, hb, hml, hown, hts⟩ (zc_X3_adds l D cA a y1_4 N h n 5 1 (by omega) (by omega)) (cwV 3 hts gX3_endsWeek_X3_adds rfl rfl rfl zy_X3_adds ⟨Nat.le_of_ble_eq_true rfl, Nat.le_of_ble_eq_true rfl⟩) (z_preV (ci := 3) hK hP hD rfl rfl) rfl rfl hl.1 rfl (lv_room (Nat.le_of_ble_eq_true rfl)) dX3_endsWeek_58 ⟨Nat.zero_le _, Nat.zero_le _⟩) hP hD hS rfl rfl (fun H locs hP hD hS => ?_)
              have hP : va_P D vwCl (moW cA a (f_X3_adds y1_4 n 5 1) N h) H := hP
              have hD : va_D _ (moW cA a (f_X3_adds y1_4 n 5 1) N h) := hD
              obtain ⟨M_10, eM_10⟩ : ∃ z9 : BK, z9 = f_X3_adds y1_4 n 5 1 := ⟨_, rfl⟩
              rw [← eM_10] at hP hD
              refine lv_aload_n hx hb dX3_endsWeek_61 rfl (lv_at hl 1 rfl) ?_
              refine lv_iload_n hx hb dX3_endsWeek_62 rfl (lv_at hl 3 rfl) ?_
              refine lv_iconst (v := 4) hx hb dX3_endsWeek_63 (by decide) ?_
              refine lv_aload_n hx hb dX3_endsWeek_64 rfl (lv_at hl 1 rfl) ?_
              refine lv_iload_n hx hb dX3_endsWeek_65 rfl (lv_at hl 3 rfl) ?_
              refine lv_iconst (v := 4) hx hb dX3_endsWeek_66 (by decide) ?_
              refine z_E (va_runV (As := [.int (nI n), .int 4]) (rest := [.int 4, .int (nI n), .ref (a 0)]) ⟨hx, hb, hml, hown, hts⟩ (zc_X3_of l D cA a M_10 N h n 4 (by omega) (by omega)) (cwV 2 hts gX3_endsWeek_X3_of rfl rfl rfl zy_X3_of ⟨Nat.le_of_ble_eq_true rfl, Nat.le_of_ble_eq_true rfl⟩) (z_preV (ci := 3) hK hP hD rfl rfl) rfl rfl hl.1 rfl (lv_room (Nat.le_of_ble_eq_true rfl)) dX3_endsWeek_67 ⟨Nat.zero_le _, Nat.zero_le _⟩) rfl ?_
              refine lv_ineg hx hb dX3_endsWeek_70 ?_
              refine z_M (X := ([] : va_W)) (Z := ([] : va_W)) (va_runV (As := [.int (nI n), .int 4, .int (-(f_X3_of M_10 n 4))]) (rest := []) ⟨hx, hb, hml, hown, hts⟩ (zc_X3_adds l D cA a M_10 N h n 4 (-(f_X3_of M_10 n 4)) (by omega) (by omega)) (cwV 3 hts gX3_endsWeek_X3_adds rfl rfl rfl zy_X3_adds ⟨Nat.le_of_ble_eq_true rfl, Nat.le_of_ble_eq_true rfl⟩) (z_preV (ci := 3) hK hP hD rfl rfl) rfl rfl hl.1 rfl (lv_room (Nat.le_of_ble_eq_true rfl)) dX3_endsWeek_71 ⟨Nat.zero_le _, Nat.zero_le _⟩) hP hD hS rfl rfl (fun H locs hP hD hS => ?_)
              have hP : va_P D vwCl (moW cA a (f_X3_adds M_10 n 4 (-(f_X3_of M_10 n 4))) N h) H := hP
              have hD : va_D _ (moW cA a (f_X3_adds M_10 n 4 (-(f_X3_of M_10 n 4))) N h) := hD
              obtain ⟨M_11, eM_11⟩ : ∃ z9 : BK, z9 = f_X3_adds M_10 n 4 (-(f_X3_of M_10 n 4)) := ⟨_, rfl⟩
              rw [← eM_11] at hP hD
              refine lv_aload_n hx hb dX3_endsWeek_74 rfl (lv_at hl 1 rfl) ?_
              refine lv_iload_n hx hb dX3_endsWeek_75 rfl (lv_at hl 3 rfl) ?_
              refine lv_iconst (v := 5) hx hb dX3_endsWeek_76 (by decide) ?_
              refine z_E (va_runV (As := [.int (nI n), .int 5]) (rest := []) ⟨hx, hb, hml, hown, hts⟩ (zc_X3_of l D cA a M_11 N h n 5 (by omega) (by omega)) (cwV 2 hts gX3_endsWeek_X3_of rfl rfl rfl zy_X3_of ⟨Nat.le_of_ble_eq_true rfl, Nat.le_of_ble_eq_true rfl⟩) (z_preV (ci := 3) hK hP hD rfl rfl) rfl rfl hl.1 rfl (lv_room (Nat.le_of_ble_eq_true rfl)) dX3_endsWeek_77 ⟨Nat.zero_le _, Nat.zero_le _⟩) rfl ?_
              refine lv_aload_n hx hb dX3_endsWeek_80 rfl (lv_at hl 1 rfl) ?_
              refine va_get (D := D) (ci := 3) (v := .ref (a 1)) (C := RX3) (T := TX3) (N := 14) hx hb hts hi3 hown hK hP 0 rfl rfl 1 (by decide) (hts (.fieldLink RX3 7 "PledgedLoansModel" "s" "[I") (List.mem_of_getElem? (i := 1) rfl)) (fun _ h9 => h9) rfl dX3_endsWeek_81 ?_
              refine lv_bipush (v := 9) hx hb dX3_endsWeek_84 (by decide) ?_
              refine z_iald (j := 9) hx hb hK hP 1 0 rfl rfl dX3_endsWeek_86 (by omega) (by decide) ?_
              refine lv_icmp_lt (tgt := 98) hx hb dX3_endsWeek_87 (by decide) (fun c_12 => ?_) (fun c_12 => ?_)
              · refine lv_iinc (v := nI (n + 1)) (lv' := [(2, .int (nI (n + 1))), (3, .int 1), (0, .ref (a 0)), (1, .int y0_4)]) hx hb dX3_endsWeek_98 hl (k := 3) rfl (by rw [show (Int32.ofInt 1) = nI 1 from by decide]; exact nI_add n 1) (by decide) rfl (fun ls hl => ?_)
                refine lv_goto (tgt := 4) hx hb dX3_endsWeek_101 (by decide) ?_
                exact ih_4 (n + 1) _ _ (by omega) (by omega) (by subst eM_11 eM_10 q_y1_4 q_y0_4; simp only [f_X3_endsWeek_4, if_neg c_2, if_neg c_3, if_pos c_12]) (by subst eM_11 eM_10 q_y1_4 q_y0_4; simp only [f_X3_endsWeek_4, if_neg c_2, if_neg c_3, if_pos c_12]) _ _ hP hD hS ls (lv_sub hl [2, 3, 0] rfl)
              · refine lv_aload_n hx hb dX3_endsWeek_90 rfl (lv_at hl 1 rfl) ?_
                refine lv_iload_n hx hb dX3_endsWeek_91 rfl (lv_at hl 3 rfl) ?_
                refine z_M (X := ([] : va_W)) (Z := ([] : va_W)) (va_runV (As := [.int (nI n)]) (rest := []) ⟨hx, hb, hml, hown, hts⟩ (zc_X3_fallsDue l D cA a M_11 N h n (by omega)) (cwV 1 hts gX3_endsWeek_X3_fallsDue rfl rfl rfl zy_X3_fallsDue ⟨Nat.le_of_ble_eq_true rfl, Nat.le_of_ble_eq_true rfl⟩) (z_preV (ci := 3) hK hP hD rfl rfl) rfl rfl hl.1 rfl (lv_room (Nat.le_of_ble_eq_true rfl)) dX3_endsWeek_92 ⟨Nat.zero_le _, Nat.zero_le _⟩) hP hD hS rfl rfl (fun H locs hP hD hS => ?_)
                have hP : va_P D vwCl (moW cA a (f_X3_fallsDue M_11 n) N h) H := hP
                have hD : va_D _ (moW cA a (f_X3_fallsDue M_11 n) N h) := hD
                obtain ⟨M_13, eM_13⟩ : ∃ z9 : BK, z9 = f_X3_fallsDue M_11 n := ⟨_, rfl⟩
                rw [← eM_13] at hP hD
                refine lv_iinc (v := y0_4 + 1) (lv' := [(1, .int (y0_4 + 1)), (3, .int 1), (0, .ref (a 0)), (2, .int (nI n))]) hx hb dX3_endsWeek_95 hl (k := 2) rfl (by rfl) (by decide) rfl (fun ls hl => ?_)
                refine lv_iinc (v := nI (n + 1)) (lv' := [(2, .int (nI (n + 1))), (1, .int (y0_4 + 1)), (3, .int 1), (0, .ref (a 0))]) hx hb dX3_endsWeek_98 hl (k := 3) rfl (by rw [show (Int32.ofInt 1) = nI 1 from by decide]; exact nI_add n 1) (by decide) rfl (fun ls hl => ?_)
                refine lv_goto (tgt := 4) hx hb dX3_endsWeek_101 (by decide) ?_
                exact ih_4 (n + 1) _ _ (by omega) (by omega) (by subst eM_13 eM_11 eM_10 q_y1_4 q_y0_4; simp only [f_X3_endsWeek_4, if_neg c_2, if_neg c_3, if_neg c_12]) (by subst eM_13 eM_11 eM_10 q_y1_4 q_y0_4; simp only [f_X3_endsWeek_4, if_neg c_2, if_neg c_3, if_neg c_12]) _ _ hP hD hS ls (lv_sub hl [3, 1, 0] rfl)
  exact loop_4 _ 0 _ _ (by omega) (Nat.lt_succ_self _) rfl rfl _ _ hP hD hS ls (lv_sub hl [2, 1, 0] rfl)

