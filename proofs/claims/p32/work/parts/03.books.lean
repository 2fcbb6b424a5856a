theorem zy_X0_place : yX0_place.cls = RX0 ∧ yX0_place.cls ≠ "java/lang/invoke/MethodHandle" ∧ yX0_place.cls ≠ "java/lang/invoke/VarHandle" ∧ (parseMethodDescriptor yX0_place.desc).map (fun d => d.parameters.length) = some 2 := by decide +kernel
def f_X0_place (mb : Nat) (br : Nat) : Int32 :=
  nI ((mb * 6) + br)

set_option maxHeartbeats 4000000 in
set_option maxRecDepth 100000 in
theorem zc_X0_place (l : Launch) (D : va_G) (cA : Nat → ClassId) (mb : Nat) (br : Nat) (hmb : mb < 6) (hbr : br < 6) : Met l yX0_place wsX0_place (zrm 0 0) (zPc D cA [.int (nI mb), .int (nI br)] (([] : va_W))) (zE (some (.int (f_X0_place mb br)))) 0 0 (fun _ => False) := by
  refine Met.ofW (cc := cX0_place) (maxL := 2) (ret := (some .int)) (by decide) rfl ?_
  intro p e s m args below meth c s₁ Bd hml hv
  obtain ⟨rfl, hP, hK, hD0⟩ := hv
  have hx := Bd.exec
  have hb := Bd.bytes
  have hr := Bd.returns
  have hts := atoms_spec (ws := wsX0_place) Bd.pre
  have hown : s.vm.findClass RX0 = some m.cls := findClass_of_methodNamed Bd.named
  have hlocks := Bd.notSynchronized
  have hD := z_Dfr hD0
  have hS : va_S (zfr (([] : va_W))) s.heap s.heap [] := va_S.rf
  have hl := lv_entry ([.int (nI mb), .int (nI br)]) (n := 2) (Nat.le_of_ble_eq_true rfl)
  rw [lg_entry_eq]
  generalize (lg_sl ([.int (nI mb), .int (nI br)]) ++ List.replicate (2 - (lg_sl ([.int (nI mb), .int (nI br)])).length) Slot.unset).toArray = ls at hl ⊢
  have hl : lv_has ls 2 [(0, .int (nI mb)), (1, .int (nI br))] := hl
  refine lv_iload_n hx hb dX0_place_0 rfl (lv_at hl 0 rfl) ?_
  refine lv_bipush (v := 6) hx hb dX0_place_1 (by decide) ?_
  refine lv_imul hx hb dX0_place_3 ?_
  refine z_top (pk_mul mb 6) ?_
  refine lv_iload_n hx hb dX0_place_4 rfl (lv_at hl 1 rfl) ?_
  refine lv_iadd hx hb dX0_place_5 ?_
  refine z_top (nI_add (mb * 6) br) ?_
  exact z_iretE hx hb hr hlocks dX0_place_6 (by first | (simp only [f_X0_place]; done) | rfl)

theorem zy_X0_allShares : yX0_allShares.cls = RX0 ∧ yX0_allShares.cls ≠ "java/lang/invoke/MethodHandle" ∧ yX0_allShares.cls ≠ "java/lang/invoke/VarHandle" ∧ (parseMethodDescriptor yX0_allShares.desc).map (fun d => d.parameters.length) = some 0 := by decide +kernel
def f_X0_allShares_13 (B : BK) (i0 : Int32) : Nat → Int32
  | 0 => i0
  | n + 1 =>
    let y0_13 : Int32 := f_X0_allShares_13 B i0 n
    y0_13 + (B 0 n)
def f_X0_allShares (B : BK) : Int32 :=
  let y0_13 : Int32 := f_X0_allShares_13 B 0 6
  y0_13

set_option maxHeartbeats 4000000 in
set_option maxRecDepth 100000 in
theorem zc_X0_allShares (l : Launch) (D : va_G) (cA : Nat → ClassId) (a : Nat → Nat) (B : BK)  : Met l yX0_allShares wsX0_allShares (zrm 0 0) (zPc D cA [.ref (a 0)] (bkW (cA 0) a B)) (zE (some (.int (f_X0_allShares B)))) 0 0 (fun _ => False) := by
  refine Met.ofW (cc := cX0_allShares) (maxL := 6) (ret := (some .int)) (by decide) rfl ?_
  intro p e s m args below meth c s₁ Bd hml hv
  obtain ⟨rfl, hP, hK, hD0⟩ := hv
  have hx := Bd.exec
  have hb := Bd.bytes
  have hr := Bd.returns
  have hts := atoms_spec (ws := wsX0_allShares) Bd.pre
  have hown : s.vm.findClass RX0 = some m.cls := findClass_of_methodNamed Bd.named
  have hlocks := Bd.notSynchronized
  have hD := z_Dfr hD0
  have hS : va_S (zfr (bkW (cA 0) a B)) s.heap s.heap [] := va_S.rf
  have hi0 : ∀ w ∈ wsX00, w ∈ wsX0_allShares := fun w h => List.mem_cons_of_mem _ (List.mem_append_right _ h)
  have hl := lv_entry ([.ref (a 0)]) (n := 6) (Nat.le_of_ble_eq_true rfl)
  rw [lg_entry_eq]
  generalize (lg_sl ([.ref (a 0)]) ++ List.replicate (6 - (lg_sl ([.ref (a 0)])).length) Slot.unset).toArray = ls at hl ⊢
  have hl : lv_has ls 6 [(0, .ref (a 0))] := hl
  refine lv_iconst (v := 0) hx hb dX0_allShares_0 (by decide) ?_
  refine lv_istore_n (lv' := [(1, .int 0), (0, .ref (a 0))]) hx hb dX0_allShares_1 rfl hl (by decide) rfl (fun ls hl => ?_)
  refine lv_aload_n hx hb dX0_allShares_2 rfl (lv_at hl 1 rfl) ?_
  refine va_get (D := D) (ci := 0) (v := .ref (a 1)) (C := RX0) (T := TX0) (N := 16) hx hb hts hi0 hown hK hP 0 rfl rfl 0 (by decide) (hts (.fieldLink RX0 9 "PledgedLoans$Books" "shares" "[I") (List.mem_of_getElem? (i := 1) rfl)) (fun _ h9 => h9) rfl dX0_allShares_3 ?_
  refine lv_astore_n (lv' := [(2, .ref (a 1)), (1, .int 0), (0, .ref (a 0))]) hx hb dX0_allShares_6 rfl hl (by decide) rfl (fun ls hl => ?_)
  refine lv_aload_n hx hb dX0_allShares_7 rfl (lv_at hl 0 rfl) ?_
  refine va_alen (v := 6) hx hb hK hP 1 0 rfl rfl (by rfl) dX0_allShares_8 ?_
  refine lv_istore_n (lv' := [(3, .int 6), (2, .ref (a 1)), (1, .int 0), (0, .ref (a 0))]) hx hb dX0_allShares_9 rfl hl (by decide) rfl (fun ls hl => ?_)
  refine lv_iconst (v := 0) hx hb dX0_allShares_10 (by decide) ?_
  refine lv_istore (lv' := [(4, .int 0), (3, .int 6), (2, .ref (a 1)), (1, .int 0), (0, .ref (a 0))]) hx hb dX0_allShares_11 hl (by decide) rfl (fun ls hl => ?_)
  have loop_13 : ∀ (kk : Nat) (n : Nat) (y0_13 : Int32), n ≤ 6 → 6 - n < kk → y0_13 = f_X0_allShares_13 B 0 n → ∀ (ls : Array Slot), lv_has ls 6 [(0, .ref (a 0)), (2, .ref (a 1)), (3, .int 6), (1, .int y0_13), (4, .int (nI n))] → W p l e (headSpec wsX0_allShares (zrm 0 0)).room s m ([.ref (a 0)] : List Value).toArray below meth c s.heap [] 0 0 (MQ below (zE (some (.int (f_X0_allShares B)))) ([.ref (a 0)] : List Value).toArray s 0 0 (fun _ => False)) (F0 m 13 ls []) := by
    intro kk
    induction kk with
    | zero => intro n y0_13 _ h9; exact absurd h9 (Nat.not_lt_zero _)
    | succ kk ih_13 =>
      intro n y0_13 hn_13 hm_13 q_y0_13 ls hl
      refine lv_iload hx hb dX0_allShares_13 (lv_at hl 4 rfl) ?_
      refine lv_iload_n hx hb dX0_allShares_15 rfl (lv_at hl 2 rfl) ?_
      refine lv_icmp_ge (tgt := 36) hx hb dX0_allShares_16 (by decide) (fun c_1 => ?_) (fun c_1 => ?_)
      · have c_1 : 6 ≤ n := (nI_leI (a := 6) (b := n) (by omega) (by omega)).mp c_1
        obtain rfl : n = 6 := by omega
        refine lv_iload_n hx hb dX0_allShares_36 rfl (lv_at hl 3 rfl) ?_
        exact z_iretE hx hb hr hlocks dX0_allShares_37 (by subst q_y0_13; first | (simp only [f_X0_allShares]; done) | rfl)
      · have c_1 : ¬ 6 ≤ n := fun h9 => c_1 ((nI_leI (a := 6) (b := n) (by omega) (by omega)).mpr h9)
        refine lv_aload_n hx hb dX0_allShares_19 rfl (lv_at hl 1 rfl) ?_
        refine lv_iload hx hb dX0_allShares_20 (lv_at hl 4 rfl) ?_
        refine z_iald (j := n) hx hb hK hP 1 0 rfl rfl dX0_allShares_22 (by omega) (by decide) ?_
        refine lv_istore (lv' := [(5, .int (B 0 n)), (0, .ref (a 0)), (2, .ref (a 1)), (3, .int 6), (1, .int y0_13), (4, .int (nI n))]) hx hb dX0_allShares_23 hl (by decide) rfl (fun ls hl => ?_)
        refine lv_iload_n hx hb dX0_allShares_25 rfl (lv_at hl 4 rfl) ?_
        refine lv_iload hx hb dX0_allShares_26 (lv_at hl 0 rfl) ?_
        refine lv_iadd hx hb dX0_allShares_28 ?_
        refine lv_istore_n (lv' := [(1, .int (y0_13 + (B 0 n))), (5, .int (B 0 n)), (0, .ref (a 0)), (2, .ref (a 1)), (3, .int 6), (4, .int (nI n))]) hx hb dX0_allShares_29 rfl hl (by decide) rfl (fun ls hl => ?_)
        refine lv_iinc (v := nI (n + 1)) (lv' := [(4, .int (nI (n + 1))), (1, .int (y0_13 + (B 0 n))), (5, .int (B 0 n)), (0, .ref (a 0)), (2, .ref (a 1)), (3, .int 6)]) hx hb dX0_allShares_30 hl (k := 5) rfl (by rw [show (Int32.ofInt 1) = nI 1 from by decide]; exact nI_add n 1) (by decide) rfl (fun ls hl => ?_)
        refine lv_goto (tgt := 13) hx hb dX0_allShares_33 (by decide) ?_
        exact ih_13 (n + 1) _ (by omega) (by omega) (by subst q_y0_13; first | (simp only [f_X0_allShares_13]; done) | rfl) ls (lv_sub hl [3, 4, 5, 1, 0] rfl)
  exact loop_13 _ 0 _ (by omega) (Nat.lt_succ_self _) rfl ls (lv_sub hl [4, 2, 1, 3, 0] rfl)

theorem zy_X0_allRests : yX0_allRests.cls = RX0 ∧ yX0_allRests.cls ≠ "java/lang/invoke/MethodHandle" ∧ yX0_allRests.cls ≠ "java/lang/invoke/VarHandle" ∧ (parseMethodDescriptor yX0_allRests.desc).map (fun d => d.parameters.length) = some 0 := by decide +kernel
def f_X0_allRests_13 (B : BK) (i0 : Int32) : Nat → Int32
  | 0 => i0
  | n + 1 =>
    let y0_13 : Int32 := f_X0_allRests_13 B i0 n
    y0_13 + (B 3 n)
def f_X0_allRests (B : BK) : Int32 :=
  let y0_13 : Int32 := f_X0_allRests_13 B 0 6
  y0_13

set_option maxHeartbeats 4000000 in
set_option maxRecDepth 100000 in
theorem zc_X0_allRests (l : Launch) (D : va_G) (cA : Nat → ClassId) (a : Nat → Nat) (B : BK)  : Met l yX0_allRests wsX0_allRests (zrm 0 0) (zPc D cA [.ref (a 0)] (bkW (cA 0) a B)) (zE (some (.int (f_X0_allRests B)))) 0 0 (fun _ => False) := by
  refine Met.ofW (cc := cX0_allRests) (maxL := 6) (ret := (some .int)) (by decide) rfl ?_
  intro p e s m args below meth c s₁ Bd hml hv
  obtain ⟨rfl, hP, hK, hD0⟩ := hv
  have hx := Bd.exec
  have hb := Bd.bytes
  have hr := Bd.returns
  have hts := atoms_spec (ws := wsX0_allRests) Bd.pre
  have hown : s.vm.findClass RX0 = some m.cls := findClass_of_methodNamed Bd.named
  have hlocks := Bd.notSynchronized
  have hD := z_Dfr hD0
  have hS : va_S (zfr (bkW (cA 0) a B)) s.heap s.heap [] := va_S.rf
  have hi0 : ∀ w ∈ wsX00, w ∈ wsX0_allRests := fun w h => List.mem_cons_of_mem _ (List.mem_append_right _ h)
  have hl := lv_entry ([.ref (a 0)]) (n := 6) (Nat.le_of_ble_eq_true rfl)
  rw [lg_entry_eq]
  generalize (lg_sl ([.ref (a 0)]) ++ List.replicate (6 - (lg_sl ([.ref (a 0)])).length) Slot.unset).toArray = ls at hl ⊢
  have hl : lv_has ls 6 [(0, .ref (a 0))] := hl
  refine lv_iconst (v := 0) hx hb dX0_allRests_0 (by decide) ?_
  refine lv_istore_n (lv' := [(1, .int 0), (0, .ref (a 0))]) hx hb dX0_allRests_1 rfl hl (by decide) rfl (fun ls hl => ?_)
  refine lv_aload_n hx hb dX0_allRests_2 rfl (lv_at hl 1 rfl) ?_
  refine va_get (D := D) (ci := 0) (v := .ref (a 4)) (C := RX0) (T := TX0) (N := 16) hx hb hts hi0 hown hK hP 0 rfl rfl 3 (by decide) (hts (.fieldLink RX0 21 "PledgedLoans$Books" "rest" "[I") (List.mem_of_getElem? (i := 1) rfl)) (fun _ h9 => h9) rfl dX0_allRests_3 ?_
  refine lv_astore_n (lv' := [(2, .ref (a 4)), (1, .int 0), (0, .ref (a 0))]) hx hb dX0_allRests_6 rfl hl (by decide) rfl (fun ls hl => ?_)
  refine lv_aload_n hx hb dX0_allRests_7 rfl (lv_at hl 0 rfl) ?_
  refine va_alen (v := 6) hx hb hK hP 4 0 rfl rfl (by rfl) dX0_allRests_8 ?_
  refine lv_istore_n (lv' := [(3, .int 6), (2, .ref (a 4)), (1, .int 0), (0, .ref (a 0))]) hx hb dX0_allRests_9 rfl hl (by decide) rfl (fun ls hl => ?_)
  refine lv_iconst (v := 0) hx hb dX0_allRests_10 (by decide) ?_
  refine lv_istore (lv' := [(4, .int 0), (3, .int 6), (2, .ref (a 4)), (1, .int 0), (0, .ref (a 0))]) hx hb dX0_allRests_11 hl (by decide) rfl (fun ls hl => ?_)
  have loop_13 : ∀ (kk : Nat) (n : Nat) (y0_13 : Int32), n ≤ 6 → 6 - n < kk → y0_13 = f_X0_allRests_13 B 0 n → ∀ (ls : Array Slot), lv_has ls 6 [(0, .ref (a 0)), (2, .ref (a 4)), (3, .int 6), (1, .int y0_13), (4, .int (nI n))] → W p l e (headSpec wsX0_allRests (zrm 0 0)).room s m ([.ref (a 0)] : List Value).toArray below meth c s.heap [] 0 0 (MQ below (zE (some (.int (f_X0_allRests B)))) ([.ref (a 0)] : List Value).toArray s 0 0 (fun _ => False)) (F0 m 13 ls []) := by
    intro kk
    induction kk with
    | zero => intro n y0_13 _ h9; exact absurd h9 (Nat.not_lt_zero _)
    | succ kk ih_13 =>
      intro n y0_13 hn_13 hm_13 q_y0_13 ls hl
      refine lv_iload hx hb dX0_allRests_13 (lv_at hl 4 rfl) ?_
      refine lv_iload_n hx hb dX0_allRests_15 rfl (lv_at hl 2 rfl) ?_
      refine lv_icmp_ge (tgt := 36) hx hb dX0_allRests_16 (by decide) (fun c_1 => ?_) (fun c_1 => ?_)
      · have c_1 : 6 ≤ n := (nI_leI (a := 6) (b := n) (by omega) (by omega)).mp c_1
        obtain rfl : n = 6 := by omega
        refine lv_iload_n hx hb dX0_allRests_36 rfl (lv_at hl 3 rfl) ?_
        exact z_iretE hx hb hr hlocks dX0_allRests_37 (by subst q_y0_13; first | (simp only [f_X0_allRests]; done) | rfl)
      · have c_1 : ¬ 6 ≤ n := fun h9 => c_1 ((nI_leI (a := 6) (b := n) (by omega) (by omega)).mpr h9)
        refine lv_aload_n hx hb dX0_allRests_19 rfl (lv_at hl 1 rfl) ?_
        refine lv_iload hx hb dX0_allRests_20 (lv_at hl 4 rfl) ?_
        refine z_iald (j := n) hx hb hK hP 4 0 rfl rfl dX0_allRests_22 (by omega) (by decide) ?_
        refine lv_istore (lv' := [(5, .int (B 3 n)), (0, .ref (a 0)), (2, .ref (a 4)), (3, .int 6), (1, .int y0_13), (4, .int (nI n))]) hx hb dX0_allRests_23 hl (by decide) rfl (fun ls hl => ?_)
        refine lv_iload_n hx hb dX0_allRests_25 rfl (lv_at hl 4 rfl) ?_
        refine lv_iload hx hb dX0_allRests_26 (lv_at hl 0 rfl) ?_
        refine lv_iadd hx hb dX0_allRests_28 ?_
        refine lv_istore_n (lv' := [(1, .int (y0_13 + (B 3 n))), (5, .int (B 3 n)), (0, .ref (a 0)), (2, .ref (a 4)), (3, .int 6), (4, .int (nI n))]) hx hb dX0_allRests_29 rfl hl (by decide) rfl (fun ls hl => ?_)
        refine lv_iinc (v := nI (n + 1)) (lv' := [(4, .int (nI (n + 1))), (1, .int (y0_13 + (B 3 n))), (5, .int (B 3 n)), (0, .ref (a 0)), (2, .ref (a 4)), (3, .int 6)]) hx hb dX0_allRests_30 hl (k := 5) rfl (by rw [show (Int32.ofInt 1) = nI 1 from by decide]; exact nI_add n 1) (by decide) rfl (fun ls hl => ?_)
        refine lv_goto (tgt := 13) hx hb dX0_allRests_33 (by decide) ?_
        exact ih_13 (n + 1) _ (by omega) (by omega) (by subst q_y0_13; first | (simp only [f_X0_allRests_13]; done) | rfl) ls (lv_sub hl [3, 4, 5, 1, 0] rfl)
  exact loop_13 _ 0 _ (by omega) (Nat.lt_succ_self _) rfl ls (lv_sub hl [4, 2, 1, 3, 0] rfl)

theorem zy_X0_allShareDays : yX0_allShareDays.cls = RX0 ∧ yX0_allShareDays.cls ≠ "java/lang/invoke/MethodHandle" ∧ yX0_allShareDays.cls ≠ "java/lang/invoke/VarHandle" ∧ (parseMethodDescriptor yX0_allShareDays.desc).map (fun d => d.parameters.length) = some 0 := by decide +kernel
def f_X0_allShareDays_14 (B : BK) (i0 : Int64) : Nat → Int64
  | 0 => i0
  | n + 1 =>
    let y0_14 : Int64 := f_X0_allShareDays_14 B i0 n
    y0_14 + ((B 1 n).toInt64)
def f_X0_allShareDays (B : BK) : Int64 :=
  let y0_14 : Int64 := f_X0_allShareDays_14 B 0 6
  y0_14

set_option maxHeartbeats 4000000 in
set_option maxRecDepth 100000 in
theorem zc_X0_allShareDays (l : Launch) (D : va_G) (cA : Nat → ClassId) (a : Nat → Nat) (B : BK)  : Met l yX0_allShareDays wsX0_allShareDays (zrm 0 0) (zPc D cA [.ref (a 0)] (bkW (cA 0) a B)) (zE (some (.long (f_X0_allShareDays B)))) 0 0 (fun _ => False) := by
  refine Met.ofW (cc := cX0_allShareDays) (maxL := 7) (ret := (some .long)) (by decide) rfl ?_
  intro p e s m args below meth c s₁ Bd hml hv
  obtain ⟨rfl, hP, hK, hD0⟩ := hv
  have hx := Bd.exec
  have hb := Bd.bytes
  have hr := Bd.returns
  have hts := atoms_spec (ws := wsX0_allShareDays) Bd.pre
  have hown : s.vm.findClass RX0 = some m.cls := findClass_of_methodNamed Bd.named
  have hlocks := Bd.notSynchronized
  have hD := z_Dfr hD0
  have hS : va_S (zfr (bkW (cA 0) a B)) s.heap s.heap [] := va_S.rf
  have hi0 : ∀ w ∈ wsX00, w ∈ wsX0_allShareDays := fun w h => List.mem_cons_of_mem _ (List.mem_append_right _ h)
  have hl := lv_entry ([.ref (a 0)]) (n := 7) (Nat.le_of_ble_eq_true rfl)
  rw [lg_entry_eq]
  generalize (lg_sl ([.ref (a 0)]) ++ List.replicate (7 - (lg_sl ([.ref (a 0)])).length) Slot.unset).toArray = ls at hl ⊢
  have hl : lv_has ls 7 [(0, .ref (a 0))] := hl
  refine lv_lconst (v := 0) hx hb dX0_allShareDays_0 (by decide) ?_
  refine lv_lstore_n (lv' := [(1, .long 0), (0, .ref (a 0))]) hx hb dX0_allShareDays_1 rfl hl (by decide) rfl (fun ls hl => ?_)
  refine lv_aload_n hx hb dX0_allShareDays_2 rfl (lv_at hl 1 rfl) ?_
  refine va_get (D := D) (ci := 0) (v := .ref (a 2)) (C := RX0) (T := TX0) (N := 16) hx hb hts hi0 hown hK hP 0 rfl rfl 1 (by decide) (hts (.fieldLink RX0 15 "PledgedLoans$Books" "shareDays" "[I") (List.mem_of_getElem? (i := 1) rfl)) (fun _ h9 => h9) rfl dX0_allShareDays_3 ?_
  refine lv_astore_n (lv' := [(3, .ref (a 2)), (1, .long 0), (0, .ref (a 0))]) hx hb dX0_allShareDays_6 rfl hl (by decide) rfl (fun ls hl => ?_)
  refine lv_aload_n hx hb dX0_allShareDays_7 rfl (lv_at hl 0 rfl) ?_
  refine va_alen (v := 6) hx hb hK hP 2 0 rfl rfl (by rfl) dX0_allShareDays_8 ?_
  refine lv_istore (lv' := [(4, .int 6), (3, .ref (a 2)), (1, .long 0), (0, .ref (a 0))]) hx hb dX0_allShareDays_9 hl (by decide) rfl (fun ls hl => ?_)
  refine lv_iconst (v := 0) hx hb dX0_allShareDays_11 (by decide) ?_
  refine lv_istore (lv' := [(5, .int 0), (4, .int 6), (3, .ref (a 2)), (1, .long 0), (0, .ref (a 0))]) hx hb dX0_allShareDays_12 hl (by decide) rfl (fun ls hl => ?_)
  have loop_14 : ∀ (kk : Nat) (n : Nat) (y0_14 : Int64), n ≤ 6 → 6 - n < kk → y0_14 = f_X0_allShareDays_14 B 0 n → ∀ (ls : Array Slot), lv_has ls 7 [(0, .ref (a 0)), (3, .ref (a 2)), (4, .int 6), (1, .long y0_14), (5, .int (nI n))] → W p l e (headSpec wsX0_allShareDays (zrm 0 0)).room s m ([.ref (a 0)] : List Value).toArray below meth c s.heap [] 0 0 (MQ below (zE (some (.long (f_X0_allShareDays B)))) ([.ref (a 0)] : List Value).toArray s 0 0 (fun _ => False)) (F0 m 14 ls []) := by
    intro kk
    induction kk with
    | zero => intro n y0_14 _ h9; exact absurd h9 (Nat.not_lt_zero _)
    | succ kk ih_14 =>
      intro n y0_14 hn_14 hm_14 q_y0_14 ls hl
      refine lv_iload hx hb dX0_allShareDays_14 (lv_at hl 4 rfl) ?_
      refine lv_iload hx hb dX0_allShareDays_16 (lv_at hl 2 rfl) ?_
      refine lv_icmp_ge (tgt := 39) hx hb dX0_allShareDays_18 (by decide) (fun c_1 => ?_) (fun c_1 => ?_)
      · have c_1 : 6 ≤ n := (nI_leI (a := 6) (b := n) (by omega) (by omega)).mp c_1
        obtain rfl : n = 6 := by omega
        refine lv_lload_n hx hb dX0_allShareDays_39 rfl (lv_at hl 3 rfl) ?_
        exact z_lretE hx hb hr hlocks dX0_allShareDays_40 (by subst q_y0_14; first | (simp only [f_X0_allShareDays]; done) | rfl)
      · have c_1 : ¬ 6 ≤ n := fun h9 => c_1 ((nI_leI (a := 6) (b := n) (by omega) (by omega)).mpr h9)
        refine lv_aload_n hx hb dX0_allShareDays_21 rfl (lv_at hl 1 rfl) ?_
        refine lv_iload hx hb dX0_allShareDays_22 (lv_at hl 4 rfl) ?_
        refine z_iald (j := n) hx hb hK hP 2 0 rfl rfl dX0_allShareDays_24 (by omega) (by decide) ?_
        refine lv_istore (lv' := [(6, .int (B 1 n)), (0, .ref (a 0)), (3, .ref (a 2)), (4, .int 6), (1, .long y0_14), (5, .int (nI n))]) hx hb dX0_allShareDays_25 hl (by decide) rfl (fun ls hl => ?_)
        refine lv_lload_n hx hb dX0_allShareDays_27 rfl (lv_at hl 4 rfl) ?_
        refine lv_iload hx hb dX0_allShareDays_28 (lv_at hl 0 rfl) ?_
        refine lv_i2l (v := (B 1 n).toInt64) hx hb dX0_allShareDays_30 rfl ?_
        refine lv_ladd hx hb dX0_allShareDays_31 ?_
        refine lv_lstore_n (lv' := [(1, .long (y0_14 + ((B 1 n).toInt64))), (6, .int (B 1 n)), (0, .ref (a 0)), (3, .ref (a 2)), (4, .int 6), (5, .int (nI n))]) hx hb dX0_allShareDays_32 rfl hl (by decide) rfl (fun ls hl => ?_)
        refine lv_iinc (v := nI (n + 1)) (lv' := [(5, .int (nI (n + 1))), (1, .long (y0_14 + ((B 1 n).toInt64))), (6, .int (B 1 n)), (0, .ref (a 0)), (3, .ref (a 2)), (4, .int 6)]) hx hb dX0_allShareDays_33 hl (k := 5) rfl (by rw [show (Int32.ofInt 1) = nI 1 from by decide]; exact nI_add n 1) (by decide) rfl (fun ls hl => ?_)
        refine lv_goto (tgt := 14) hx hb dX0_allShareDays_36 (by decide) ?_
        exact ih_14 (n + 1) _ (by omega) (by omega) (by subst q_y0_14; first | (simp only [f_X0_allShareDays_14]; done) | rfl) ls (lv_sub hl [3, 4, 5, 1, 0] rfl)
  exact loop_14 _ 0 _ (by omega) (Nat.lt_succ_self _) rfl ls (lv_sub hl [4, 2, 1, 3, 0] rfl)

theorem zy_X0_hasLoan : yX0_hasLoan.cls = RX0 ∧ yX0_hasLoan.cls ≠ "java/lang/invoke/MethodHandle" ∧ yX0_hasLoan.cls ≠ "java/lang/invoke/VarHandle" ∧ (parseMethodDescriptor yX0_hasLoan.desc).map (fun d => d.parameters.length) = some 1 := by decide +kernel
def f_X0_hasLoan (B : BK) (mb : Nat) : Int32 :=
  if (B 3 mb) ≤ 0 then
    0
  else
    1

theorem zb_X0_hasLoan (B : BK) (mb : Nat) : narrow .boolean (.int (f_X0_hasLoan B mb)) = .int (f_X0_hasLoan B mb) := by
  unfold f_X0_hasLoan; repeat' split
  all_goals (first | rfl | (dsimp only; rfl))
set_option maxHeartbeats 4000000 in
set_option maxRecDepth 100000 in
theorem zc_X0_hasLoan (l : Launch) (D : va_G) (cA : Nat → ClassId) (a : Nat → Nat) (B : BK) (mb : Nat) (hmb : mb < 6) : Met l yX0_hasLoan wsX0_hasLoan (zrm 0 0) (zPc D cA [.ref (a 0), .int (nI mb)] (bkW (cA 0) a B)) (zE (some (.int (f_X0_hasLoan B mb)))) 0 0 (fun _ => False) := by
  refine Met.ofW (cc := cX0_hasLoan) (maxL := 2) (ret := (some .boolean)) (by decide) rfl ?_
  intro p e s m args below meth c s₁ Bd hml hv
  obtain ⟨rfl, hP, hK, hD0⟩ := hv
  have hx := Bd.exec
  have hb := Bd.bytes
  have hr := Bd.returns
  have hts := atoms_spec (ws := wsX0_hasLoan) Bd.pre
  have hown : s.vm.findClass RX0 = some m.cls := findClass_of_methodNamed Bd.named
  have hlocks := Bd.notSynchronized
  have hD := z_Dfr hD0
  have hS : va_S (zfr (bkW (cA 0) a B)) s.heap s.heap [] := va_S.rf
  have hi0 : ∀ w ∈ wsX00, w ∈ wsX0_hasLoan := fun w h => List.mem_cons_of_mem _ (List.mem_append_right _ h)
  have hl := lv_entry ([.ref (a 0), .int (nI mb)]) (n := 2) (Nat.le_of_ble_eq_true rfl)
  rw [lg_entry_eq]
  generalize (lg_sl ([.ref (a 0), .int (nI mb)]) ++ List.replicate (2 - (lg_sl ([.ref (a 0), .int (nI mb)])).length) Slot.unset).toArray = ls at hl ⊢
  have hl : lv_has ls 2 [(0, .ref (a 0)), (1, .int (nI mb))] := hl
  refine lv_aload_n hx hb dX0_hasLoan_0 rfl (lv_at hl 0 rfl) ?_
  refine va_get (D := D) (ci := 0) (v := .ref (a 4)) (C := RX0) (T := TX0) (N := 16) hx hb hts hi0 hown hK hP 0 rfl rfl 3 (by decide) (hts (.fieldLink RX0 21 "PledgedLoans$Books" "rest" "[I") (List.mem_of_getElem? (i := 1) rfl)) (fun _ h9 => h9) rfl dX0_hasLoan_1 ?_
  refine lv_iload_n hx hb dX0_hasLoan_4 rfl (lv_at hl 1 rfl) ?_
  refine z_iald (j := mb) hx hb hK hP 4 0 rfl rfl dX0_hasLoan_5 (by omega) (by decide) ?_
  refine lv_if_le (tgt := 13) hx hb dX0_hasLoan_6 (by decide) (fun c_1 => ?_) (fun c_1 => ?_)
  · refine lv_iconst (v := 0) hx hb dX0_hasLoan_13 (by decide) ?_
    exact z_zretE hx hb hr hlocks dX0_hasLoan_14 rfl (by simp only [f_X0_hasLoan, if_pos c_1])
  · refine lv_iconst (v := 1) hx hb dX0_hasLoan_9 (by decide) ?_
    refine lv_goto (tgt := 14) hx hb dX0_hasLoan_10 (by decide) ?_
    exact z_zretE hx hb hr hlocks dX0_hasLoan_14 rfl (by simp only [f_X0_hasLoan, if_neg c_1])

theorem zy_X0_loans : yX0_loans.cls = RX0 ∧ yX0_loans.cls ≠ "java/lang/invoke/MethodHandle" ∧ yX0_loans.cls ≠ "java/lang/invoke/VarHandle" ∧ (parseMethodDescriptor yX0_loans.desc).map (fun d => d.parameters.length) = some 0 := by decide +kernel
def f_X0_loans_4 (B : BK) (i0 : Int32) : Nat → Int32
  | 0 => i0
  | n + 1 =>
    let y0_4 : Int32 := f_X0_loans_4 B i0 n
    if (f_X0_hasLoan B n) = 0 then
      y0_4
    else
      y0_4 + 1
def f_X0_loans (B : BK) : Int32 :=
  let y0_4 : Int32 := f_X0_loans_4 B 0 6
  y0_4

set_option maxHeartbeats 4000000 in
set_option maxRecDepth 100000 in
theorem zc_X0_loans (l : Launch) (D : va_G) (cA : Nat → ClassId) (a : Nat → Nat) (B : BK)  : Met l yX0_loans wsX0_loans (zrm 1 21) (zPc D cA [.ref (a 0)] (bkW (cA 0) a B)) (zE (some (.int (f_X0_loans B)))) 0 0 (fun _ => False) := by
  refine Met.ofW (cc := cX0_loans) (maxL := 3) (ret := (some .int)) (by decide) rfl ?_
  intro p e s m args below meth c s₁ Bd hml hv
  obtain ⟨rfl, hP, hK, hD0⟩ := hv
  have hx := Bd.exec
  have hb := Bd.bytes
  have hr := Bd.returns
  have hts := atoms_spec (ws := wsX0_loans) Bd.pre
  have hown : s.vm.findClass RX0 = some m.cls := findClass_of_methodNamed Bd.named
  have hlocks := Bd.notSynchronized
  have hD := z_Dfr hD0
  have hS : va_S (zfr (bkW (cA 0) a B)) s.heap s.heap [] := va_S.rf
  have hi0 : ∀ w ∈ wsX00, w ∈ wsX0_loans := fun w h => List.mem_cons_of_mem _ (List.mem_append_right _ h)
  have hl := lv_entry ([.ref (a 0)]) (n := 3) (Nat.le_of_ble_eq_true rfl)
  rw [lg_entry_eq]
  generalize (lg_sl ([.ref (a 0)]) ++ List.replicate (3 - (lg_sl ([.ref (a 0)])).length) Slot.unset).toArray = ls at hl ⊢
  have hl : lv_has ls 3 [(0, .ref (a 0))] := hl
  refine lv_iconst (v := 0) hx hb dX0_loans_0 (by decide) ?_
  refine lv_istore_n (lv' := [(1, .int 0), (0, .ref (a 0))]) hx hb dX0_loans_1 rfl hl (by decide) rfl (fun ls hl => ?_)
  refine lv_iconst (v := 0) hx hb dX0_loans_2 (by decide) ?_
  refine lv_istore_n (lv' := [(2, .int 0), (1, .int 0), (0, .ref (a 0))]) hx hb dX0_loans_3 rfl hl (by decide) rfl (fun ls hl => ?_)
  have loop_4 : ∀ (kk : Nat) (n : Nat) (y0_4 : Int32), n ≤ 6 → 6 - n < kk → y0_4 = f_X0_loans_4 B 0 n → ∀ (ls : Array Slot), lv_has ls 3 [(0, .ref (a 0)), (1, .int y0_4), (2, .int (nI n))] → W p l e (headSpec wsX0_loans (zrm 1 21)).room s m ([.ref (a 0)] : List Value).toArray below meth c s.heap [] 0 0 (MQ below (zE (some (.int (f_X0_loans B)))) ([.ref (a 0)] : List Value).toArray s 0 0 (fun _ => False)) (F0 m 4 ls []) := by
    intro kk
    induction kk with
    | zero => intro n y0_4 _ h9; exact absurd h9 (Nat.not_lt_zero _)
    | succ kk ih_4 =>
      intro n y0_4 hn_4 hm_4 q_y0_4 ls hl
      refine lv_iload_n hx hb dX0_loans_4 rfl (lv_at hl 2 rfl) ?_
      refine lv_bipush (v := 6) hx hb dX0_loans_5 (by decide) ?_
      refine lv_icmp_ge (tgt := 27) hx hb dX0_loans_7 (by decide) (fun c_1 => ?_) (fun c_1 => ?_)
      · have c_1 : 6 ≤ n := (nI_leI (a := 6) (b := n) (by omega) (by omega)).mp c_1
        obtain rfl : n = 6 := by omega
        refine lv_iload_n hx hb dX0_loans_27 rfl (lv_at hl 1 rfl) ?_
        exact z_iretE hx hb hr hlocks dX0_loans_28 (by subst q_y0_4; first | (simp only [f_X0_loans]; done) | rfl)
      · have c_1 : ¬ 6 ≤ n := fun h9 => c_1 ((nI_leI (a := 6) (b := n) (by omega) (by omega)).mpr h9)
        refine lv_aload_n hx hb dX0_loans_10 rfl (lv_at hl 0 rfl) ?_
        refine lv_iload_n hx hb dX0_loans_11 rfl (lv_at hl 2 rfl) ?_
        refine z_E (va_runV (As := [.int (nI n)]) (rest := []) ⟨hx, hb, hml, hown, hts⟩ (zc_X0_hasLoan l D cA a B n (by omega)) (cwV 1 hts gX0_loans_X0_hasLoan rfl rfl rfl zy_X0_hasLoan ⟨Nat.le_of_ble_eq_true rfl, Nat.le_of_ble_eq_true rfl⟩) (z_preV (ci := 0) hK hP hD rfl rfl) rfl rfl hl.1 rfl (lv_room (Nat.le_of_ble_eq_true rfl)) dX0_loans_12 ⟨Nat.zero_le _, Nat.zero_le _⟩) rfl ?_
        refine lv_if_eq (tgt := 21) hx hb dX0_loans_15 (by decide) (fun c_2 => ?_) (fun c_2 => ?_)
        · refine lv_iinc (v := nI (n + 1)) (lv' := [(2, .int (nI (n + 1))), (0, .ref (a 0)), (1, .int y0_4)]) hx hb dX0_loans_21 hl (k := 2) rfl (by rw [show (Int32.ofInt 1) = nI 1 from by decide]; exact nI_add n 1) (by decide) rfl (fun ls hl => ?_)
          refine lv_goto (tgt := 4) hx hb dX0_loans_24 (by decide) ?_
          exact ih_4 (n + 1) _ (by omega) (by omega) (by subst q_y0_4; simp only [f_X0_loans_4, if_pos c_2]) ls (lv_sub hl [1, 2, 0] rfl)
        · refine lv_iinc (v := y0_4 + 1) (lv' := [(1, .int (y0_4 + 1)), (0, .ref (a 0)), (2, .int (nI n))]) hx hb dX0_loans_18 hl (k := 1) rfl (by rfl) (by decide) rfl (fun ls hl => ?_)
          refine lv_iinc (v := nI (n + 1)) (lv' := [(2, .int (nI (n + 1))), (1, .int (y0_4 + 1)), (0, .ref (a 0))]) hx hb dX0_loans_21 hl (k := 2) rfl (by rw [show (Int32.ofInt 1) = nI 1 from by decide]; exact nI_add n 1) (by decide) rfl (fun ls hl => ?_)
          refine lv_goto (tgt := 4) hx hb dX0_loans_24 (by decide) ?_
          exact ih_4 (n + 1) _ (by omega) (by omega) (by subst q_y0_4; simp only [f_X0_loans_4, if_neg c_2]) ls (lv_sub hl [2, 1, 0] rfl)
  exact loop_4 _ 0 _ (by omega) (Nat.lt_succ_self _) rfl ls (lv_sub hl [2, 1, 0] rfl)

theorem zy_X0_pledgedBy : yX0_pledgedBy.cls = RX0 ∧ yX0_pledgedBy.cls ≠ "java/lang/invoke/MethodHandle" ∧ yX0_pledgedBy.cls ≠ "java/lang/invoke/VarHandle" ∧ (parseMethodDescriptor yX0_pledgedBy.desc).map (fun d => d.parameters.length) = some 1 := by decide +kernel
def f_X0_pledgedBy_10 (B : BK) (mb : Nat) (i0 : Int32) : Nat → Int32
  | 0 => i0
  | n + 1 =>
    let y0_10 : Int32 := f_X0_pledgedBy_10 B mb i0 n
    y0_10 + (B 2 ((mb * 6) + n))
def f_X0_pledgedBy (B : BK) (mb : Nat) : Int32 :=
  let y0_10 : Int32 := f_X0_pledgedBy_10 B mb 0 6
  y0_10

set_option maxHeartbeats 4000000 in
set_option maxRecDepth 100000 in
theorem zc_X0_pledgedBy (l : Launch) (D : va_G) (cA : Nat → ClassId) (a : Nat → Nat) (B : BK) (mb : Nat) (hmb : mb < 6) : Met l yX0_pledgedBy wsX0_pledgedBy (zrm 0 0) (zPc D cA [.ref (a 0), .int (nI mb)] (bkW (cA 0) a B)) (zE (some (.int (f_X0_pledgedBy B mb)))) 0 0 (fun _ => False) := by
  refine Met.ofW (cc := cX0_pledgedBy) (maxL := 5) (ret := (some .int)) (by decide) rfl ?_
  intro p e s m args below meth c s₁ Bd hml hv
  obtain ⟨rfl, hP, hK, hD0⟩ := hv
  have hx := Bd.exec
  have hb := Bd.bytes
  have hr := Bd.returns
  have hts := atoms_spec (ws := wsX0_pledgedBy) Bd.pre
  have hown : s.vm.findClass RX0 = some m.cls := findClass_of_methodNamed Bd.named
  have hlocks := Bd.notSynchronized
  have hD := z_Dfr hD0
  have hS : va_S (zfr (bkW (cA 0) a B)) s.heap s.heap [] := va_S.rf
  have hi0 : ∀ w ∈ wsX00, w ∈ wsX0_pledgedBy := fun w h => List.mem_cons_of_mem _ (List.mem_append_right _ h)
  have hl := lv_entry ([.ref (a 0), .int (nI mb)]) (n := 5) (Nat.le_of_ble_eq_true rfl)
  rw [lg_entry_eq]
  generalize (lg_sl ([.ref (a 0), .int (nI mb)]) ++ List.replicate (5 - (lg_sl ([.ref (a 0), .int (nI mb)])).length) Slot.unset).toArray = ls at hl ⊢
  have hl : lv_has ls 5 [(0, .ref (a 0)), (1, .int (nI mb))] := hl
  refine lv_iconst (v := 0) hx hb dX0_pledgedBy_0 (by decide) ?_
  refine lv_istore_n (lv' := [(2, .int 0), (0, .ref (a 0)), (1, .int (nI mb))]) hx hb dX0_pledgedBy_1 rfl hl (by decide) rfl (fun ls hl => ?_)
  refine lv_iload_n hx hb dX0_pledgedBy_2 rfl (lv_at hl 2 rfl) ?_
  refine lv_bipush (v := 6) hx hb dX0_pledgedBy_3 (by decide) ?_
  refine lv_imul hx hb dX0_pledgedBy_5 ?_
  refine z_top (pk_mul mb 6) ?_
  refine lv_istore_n (lv' := [(3, .int (nI (mb * 6))), (2, .int 0), (0, .ref (a 0)), (1, .int (nI mb))]) hx hb dX0_pledgedBy_6 rfl hl (by decide) rfl (fun ls hl => ?_)
  refine lv_iconst (v := 0) hx hb dX0_pledgedBy_7 (by decide) ?_
  refine lv_istore (lv' := [(4, .int 0), (3, .int (nI (mb * 6))), (2, .int 0), (0, .ref (a 0)), (1, .int (nI mb))]) hx hb dX0_pledgedBy_8 hl (by decide) rfl (fun ls hl => ?_)
  have loop_10 : ∀ (kk : Nat) (n : Nat) (y0_10 : Int32), n ≤ 6 → 6 - n < kk → y0_10 = f_X0_pledgedBy_10 B mb 0 n → ∀ (ls : Array Slot), lv_has ls 5 [(0, .ref (a 0)), (1, .int (nI mb)), (3, .int (nI (mb * 6))), (2, .int y0_10), (4, .int (nI n))] → W p l e (headSpec wsX0_pledgedBy (zrm 0 0)).room s m ([.ref (a 0), .int (nI mb)] : List Value).toArray below meth c s.heap [] 0 0 (MQ below (zE (some (.int (f_X0_pledgedBy B mb)))) ([.ref (a 0), .int (nI mb)] : List Value).toArray s 0 0 (fun _ => False)) (F0 m 10 ls []) := by
    intro kk
    induction kk with
    | zero => intro n y0_10 _ h9; exact absurd h9 (Nat.not_lt_zero _)
    | succ kk ih_10 =>
      intro n y0_10 hn_10 hm_10 q_y0_10 ls hl
      refine lv_iload hx hb dX0_pledgedBy_10 (lv_at hl 4 rfl) ?_
      refine lv_bipush (v := 6) hx hb dX0_pledgedBy_12 (by decide) ?_
      refine lv_icmp_ge (tgt := 35) hx hb dX0_pledgedBy_14 (by decide) (fun c_1 => ?_) (fun c_1 => ?_)
      · have c_1 : 6 ≤ n := (nI_leI (a := 6) (b := n) (by omega) (by omega)).mp c_1
        obtain rfl : n = 6 := by omega
        refine lv_iload_n hx hb dX0_pledgedBy_35 rfl (lv_at hl 3 rfl) ?_
        exact z_iretE hx hb hr hlocks dX0_pledgedBy_36 (by subst q_y0_10; first | (simp only [f_X0_pledgedBy]; done) | rfl)
      · have c_1 : ¬ 6 ≤ n := fun h9 => c_1 ((nI_leI (a := 6) (b := n) (by omega) (by omega)).mpr h9)
        refine lv_iload_n hx hb dX0_pledgedBy_17 rfl (lv_at hl 3 rfl) ?_
        refine lv_aload_n hx hb dX0_pledgedBy_18 rfl (lv_at hl 0 rfl) ?_
        refine va_get (D := D) (ci := 0) (v := .ref (a 3)) (C := RX0) (T := TX0) (N := 16) hx hb hts hi0 hown hK hP 0 rfl rfl 2 (by decide) (hts (.fieldLink RX0 18 "PledgedLoans$Books" "pledges" "[I") (List.mem_of_getElem? (i := 1) rfl)) (fun _ h9 => h9) rfl dX0_pledgedBy_19 ?_
        refine lv_iload_n hx hb dX0_pledgedBy_22 rfl (lv_at hl 2 rfl) ?_
        refine lv_iload hx hb dX0_pledgedBy_23 (lv_at hl 4 rfl) ?_
        refine lv_iadd hx hb dX0_pledgedBy_25 ?_
        refine z_top (nI_add (mb * 6) n) ?_
        refine z_iald (j := (mb * 6) + n) hx hb hK hP 3 0 rfl rfl dX0_pledgedBy_26 (by omega) (by decide) ?_
        refine lv_iadd hx hb dX0_pledgedBy_27 ?_
        refine lv_istore_n (lv' := [(2, .int (y0_10 + (B 2 ((mb * 6) + n)))), (0, .ref (a 0)), (1, .int (nI mb)), (3, .int (nI (mb * 6))), (4, .int (nI n))]) hx hb dX0_pledgedBy_28 rfl hl (by decide) rfl (fun ls hl => ?_)
        refine lv_iinc (v := nI (n + 1)) (lv' := [(4, .int (nI (n + 1))), (2, .int (y0_10 + (B 2 ((mb * 6) + n)))), (0, .ref (a 0)), (1, .int (nI mb)), (3, .int (nI (mb * 6)))]) hx hb dX0_pledgedBy_29 hl (k := 4) rfl (by rw [show (Int32.ofInt 1) = nI 1 from by decide]; exact nI_add n 1) (by decide) rfl (fun ls hl => ?_)
        refine lv_goto (tgt := 10) hx hb dX0_pledgedBy_32 (by decide) ?_
        exact ih_10 (n + 1) _ (by omega) (by omega) (by subst q_y0_10; first | (simp only [f_X0_pledgedBy_10]; done) | rfl) ls (lv_sub hl [2, 3, 4, 1, 0] rfl)
  exact loop_10 _ 0 _ (by omega) (Nat.lt_succ_self _) rfl ls (lv_sub hl [3, 4, 1, 2, 0] rfl)

theorem zy_X0_pledgedFor : yX0_pledgedFor.cls = RX0 ∧ yX0_pledgedFor.cls ≠ "java/lang/invoke/MethodHandle" ∧ yX0_pledgedFor.cls ≠ "java/lang/invoke/VarHandle" ∧ (parseMethodDescriptor yX0_pledgedFor.desc).map (fun d => d.parameters.length) = some 1 := by decide +kernel
def f_X0_pledgedFor_4 (B : BK) (mb : Nat) : Nat → Nat → Int32 → Int32
  | 0, q, x => 0
  | k + 1, q, x =>
    if 36 ≤ q then
      x
    else
      f_X0_pledgedFor_4 B mb k (q + 6) (x + (B 2 q))
def f_X0_pledgedFor (B : BK) (mb : Nat) : Int32 :=
  f_X0_pledgedFor_4 B mb 43 mb 0

set_option maxHeartbeats 4000000 in
set_option maxRecDepth 100000 in
theorem zc_X0_pledgedFor (l : Launch) (D : va_G) (cA : Nat → ClassId) (a : Nat → Nat) (B : BK) (mb : Nat) (hmb : mb < 6) : Met l yX0_pledgedFor wsX0_pledgedFor (zrm 0 0) (zPc D cA [.ref (a 0), .int (nI mb)] (bkW (cA 0) a B)) (zE (some (.int (f_X0_pledgedFor B mb)))) 0 0 (fun _ => False) := by
  refine Met.ofW (cc := cX0_pledgedFor) (maxL := 4) (ret := (some .int)) (by decide) rfl ?_
  intro p e s m args below meth c s₁ Bd hml hv
  obtain ⟨rfl, hP, hK, hD0⟩ := hv
  have hx := Bd.exec
  have hb := Bd.bytes
  have hr := Bd.returns
  have hts := atoms_spec (ws := wsX0_pledgedFor) Bd.pre
  have hown : s.vm.findClass RX0 = some m.cls := findClass_of_methodNamed Bd.named
  have hlocks := Bd.notSynchronized
  have hD := z_Dfr hD0
  have hS : va_S (zfr (bkW (cA 0) a B)) s.heap s.heap [] := va_S.rf
  have hi0 : ∀ w ∈ wsX00, w ∈ wsX0_pledgedFor := fun w h => List.mem_cons_of_mem _ (List.mem_append_right _ h)
  have hl := lv_entry ([.ref (a 0), .int (nI mb)]) (n := 4) (Nat.le_of_ble_eq_true rfl)
  rw [lg_entry_eq]
  generalize (lg_sl ([.ref (a 0), .int (nI mb)]) ++ List.replicate (4 - (lg_sl ([.ref (a 0), .int (nI mb)])).length) Slot.unset).toArray = ls at hl ⊢
  have hl : lv_has ls 4 [(0, .ref (a 0)), (1, .int (nI mb))] := hl
  refine lv_iconst (v := 0) hx hb dX0_pledgedFor_0 (by decide) ?_
  refine lv_istore_n (lv' := [(2, .int 0), (0, .ref (a 0)), (1, .int (nI mb))]) hx hb dX0_pledgedFor_1 rfl hl (by decide) rfl (fun ls hl => ?_)
  refine lv_iload_n hx hb dX0_pledgedFor_2 rfl (lv_at hl 2 rfl) ?_
  refine lv_istore_n (lv' := [(3, .int (nI mb)), (2, .int 0), (0, .ref (a 0)), (1, .int (nI mb))]) hx hb dX0_pledgedFor_3 rfl hl (by decide) rfl (fun ls hl => ?_)
  have loop_4 : ∀ (kk : Nat) (q : Nat) (x : Int32), 36 + 6 - q < kk → q < 42 → f_X0_pledgedFor B mb = f_X0_pledgedFor_4 B mb kk q x → ∀ (ls : Array Slot), lv_has ls 4 [(0, .ref (a 0)), (1, .int (nI mb)), (3, .int (nI q)), (2, .int x)] → W p l e (headSpec wsX0_pledgedFor (zrm 0 0)).room s m ([.ref (a 0), .int (nI mb)] : List Value).toArray below meth c s.heap [] 0 0 (MQ below (zE (some (.int (f_X0_pledgedFor B mb)))) ([.ref (a 0), .int (nI mb)] : List Value).toArray s 0 0 (fun _ => False)) (F0 m 4 ls []) := by
    intro kk
    induction kk with
    | zero => intro q x h9; exact absurd h9 (Nat.not_lt_zero _)
    | succ kk ih_4 =>
      intro q x hm_4 hi0_4 hres_4 ls hl
      refine lv_iload_n hx hb dX0_pledgedFor_4 rfl (lv_at hl 2 rfl) ?_
      refine lv_aload_n hx hb dX0_pledgedFor_5 rfl (lv_at hl 0 rfl) ?_
      refine va_get (D := D) (ci := 0) (v := .ref (a 3)) (C := RX0) (T := TX0) (N := 16) hx hb hts hi0 hown hK hP 0 rfl rfl 2 (by decide) (hts (.fieldLink RX0 18 "PledgedLoans$Books" "pledges" "[I") (List.mem_of_getElem? (i := 1) rfl)) (fun _ h9 => h9) rfl dX0_pledgedFor_6 ?_
      refine va_alen (v := 36) hx hb hK hP 3 0 rfl rfl (by rfl) dX0_pledgedFor_9 ?_
      refine lv_icmp_ge (tgt := 28) hx hb dX0_pledgedFor_10 (by decide) (fun c_1 => ?_) (fun c_1 => ?_)
      · have c_1 : 36 ≤ q := (nI_leI (a := 36) (b := q) (by omega) (by omega)).mp c_1
        refine lv_iload_n hx hb dX0_pledgedFor_28 rfl (lv_at hl 3 rfl) ?_
        exact z_iretE hx hb hr hlocks dX0_pledgedFor_29 (by rw [hres_4]; simp only [f_X0_pledgedFor_4, if_pos c_1])
      · have c_1 : ¬ 36 ≤ q := fun h9 => c_1 ((nI_leI (a := 36) (b := q) (by omega) (by omega)).mpr h9)
        refine lv_iload_n hx hb dX0_pledgedFor_13 rfl (lv_at hl 3 rfl) ?_
        refine lv_aload_n hx hb dX0_pledgedFor_14 rfl (lv_at hl 0 rfl) ?_
        refine va_get (D := D) (ci := 0) (v := .ref (a 3)) (C := RX0) (T := TX0) (N := 16) hx hb hts hi0 hown hK hP 0 rfl rfl 2 (by decide) (hts (.fieldLink RX0 18 "PledgedLoans$Books" "pledges" "[I") (List.mem_of_getElem? (i := 1) rfl)) (fun _ h9 => h9) rfl dX0_pledgedFor_15 ?_
        refine lv_iload_n hx hb dX0_pledgedFor_18 rfl (lv_at hl 2 rfl) ?_
        refine z_iald (j := q) hx hb hK hP 3 0 rfl rfl dX0_pledgedFor_19 (by omega) (by decide) ?_
        refine lv_iadd hx hb dX0_pledgedFor_20 ?_
        refine lv_istore_n (lv' := [(2, .int (x + (B 2 q))), (0, .ref (a 0)), (1, .int (nI mb)), (3, .int (nI q))]) hx hb dX0_pledgedFor_21 rfl hl (by decide) rfl (fun ls hl => ?_)
        refine lv_iinc (v := nI (q + 6)) (lv' := [(3, .int (nI (q + 6))), (2, .int (x + (B 2 q))), (0, .ref (a 0)), (1, .int (nI mb))]) hx hb dX0_pledgedFor_22 hl (k := 3) rfl (by rw [show (Int32.ofInt 6) = nI 6 from by decide]; exact nI_add q 6) (by decide) rfl (fun ls hl => ?_)
        refine lv_goto (tgt := 4) hx hb dX0_pledgedFor_25 (by decide) ?_
        exact ih_4 (q + 6) (x + (B 2 q)) (by omega) (by omega) (by rw [hres_4]; simp only [f_X0_pledgedFor_4, if_neg c_1]) ls (lv_sub hl [2, 3, 0, 1] rfl)
  exact loop_4 43 mb 0 (by omega) (by omega) (by first | (simp only [f_X0_pledgedFor]; done) | rfl) ls (lv_sub hl [2, 3, 0, 1] rfl)

theorem zy_X0_ownLeft : yX0_ownLeft.cls = RX0 ∧ yX0_ownLeft.cls ≠ "java/lang/invoke/MethodHandle" ∧ yX0_ownLeft.cls ≠ "java/lang/invoke/VarHandle" ∧ (parseMethodDescriptor yX0_ownLeft.desc).map (fun d => d.parameters.length) = some 1 := by decide +kernel
def f_X0_ownLeft (B : BK) (mb : Nat) : Int32 :=
  (B 0 mb) - (f_X0_pledgedBy B mb)

set_option maxHeartbeats 4000000 in
set_option maxRecDepth 100000 in
theorem zc_X0_ownLeft (l : Launch) (D : va_G) (cA : Nat → ClassId) (a : Nat → Nat) (B : BK) (mb : Nat) (hmb : mb < 6) : Met l yX0_ownLeft wsX0_ownLeft (zrm 1 24) (zPc D cA [.ref (a 0), .int (nI mb)] (bkW (cA 0) a B)) (zE (some (.int (f_X0_ownLeft B mb)))) 0 0 (fun _ => False) := by
  refine Met.ofW (cc := cX0_ownLeft) (maxL := 2) (ret := (some .int)) (by decide) rfl ?_
  intro p e s m args below meth c s₁ Bd hml hv
  obtain ⟨rfl, hP, hK, hD0⟩ := hv
  have hx := Bd.exec
  have hb := Bd.bytes
  have hr := Bd.returns
  have hts := atoms_spec (ws := wsX0_ownLeft) Bd.pre
  have hown : s.vm.findClass RX0 = some m.cls := findClass_of_methodNamed Bd.named
  have hlocks := Bd.notSynchronized
  have hD := z_Dfr hD0
  have hS : va_S (zfr (bkW (cA 0) a B)) s.heap s.heap [] := va_S.rf
  have hi0 : ∀ w ∈ wsX00, w ∈ wsX0_ownLeft := fun w h => List.mem_cons_of_mem _ (List.mem_append_right _ h)
  have hl := lv_entry ([.ref (a 0), .int (nI mb)]) (n := 2) (Nat.le_of_ble_eq_true rfl)
  rw [lg_entry_eq]
  generalize (lg_sl ([.ref (a 0), .int (nI mb)]) ++ List.replicate (2 - (lg_sl ([.ref (a 0), .int (nI mb)])).length) Slot.unset).toArray = ls at hl ⊢
  have hl : lv_has ls 2 [(0, .ref (a 0)), (1, .int (nI mb))] := hl
  refine lv_aload_n hx hb dX0_ownLeft_0 rfl (lv_at hl 0 rfl) ?_
  refine va_get (D := D) (ci := 0) (v := .ref (a 1)) (C := RX0) (T := TX0) (N := 16) hx hb hts hi0 hown hK hP 0 rfl rfl 0 (by decide) (hts (.fieldLink RX0 9 "PledgedLoans$Books" "shares" "[I") (List.mem_of_getElem? (i := 1) rfl)) (fun _ h9 => h9) rfl dX0_ownLeft_1 ?_
  refine lv_iload_n hx hb dX0_ownLeft_4 rfl (lv_at hl 1 rfl) ?_
  refine z_iald (j := mb) hx hb hK hP 1 0 rfl rfl dX0_ownLeft_5 (by omega) (by decide) ?_
  refine lv_aload_n hx hb dX0_ownLeft_6 rfl (lv_at hl 0 rfl) ?_
  refine lv_iload_n hx hb dX0_ownLeft_7 rfl (lv_at hl 1 rfl) ?_
  refine z_E (va_runV (As := [.int (nI mb)]) (rest := [.int (B 0 mb)]) ⟨hx, hb, hml, hown, hts⟩ (zc_X0_pledgedBy l D cA a B mb (by omega)) (cwV 1 hts gX0_ownLeft_X0_pledgedBy rfl rfl rfl zy_X0_pledgedBy ⟨Nat.le_of_ble_eq_true rfl, Nat.le_of_ble_eq_true rfl⟩) (z_preV (ci := 0) hK hP hD rfl rfl) rfl rfl hl.1 rfl (lv_room (Nat.le_of_ble_eq_true rfl)) dX0_ownLeft_8 ⟨Nat.zero_le _, Nat.zero_le _⟩) rfl ?_
  refine lv_isub hx hb dX0_ownLeft_11 ?_
  exact z_iretE hx hb hr hlocks dX0_ownLeft_12 (by first | (simp only [f_X0_ownLeft]; done) | rfl)

theorem zy_X0_cover : yX0_cover.cls = RX0 ∧ yX0_cover.cls ≠ "java/lang/invoke/MethodHandle" ∧ yX0_cover.cls ≠ "java/lang/invoke/VarHandle" ∧ (parseMethodDescriptor yX0_cover.desc).map (fun d => d.parameters.length) = some 1 := by decide +kernel
def f_X0_cover (B : BK) (mb : Nat) : Int32 :=
  (f_X0_ownLeft B mb) + (f_X0_pledgedFor B mb)

set_option maxHeartbeats 4000000 in
set_option maxRecDepth 100000 in
theorem zc_X0_cover (l : Launch) (D : va_G) (cA : Nat → ClassId) (a : Nat → Nat) (B : BK) (mb : Nat) (hmb : mb < 6) : Met l yX0_cover wsX0_cover (zrm 2 45) (zPc D cA [.ref (a 0), .int (nI mb)] (bkW (cA 0) a B)) (zE (some (.int (f_X0_cover B mb)))) 0 0 (fun _ => False) := by
  refine Met.ofW (cc := cX0_cover) (maxL := 2) (ret := (some .int)) (by decide) rfl ?_
  intro p e s m args below meth c s₁ Bd hml hv
  obtain ⟨rfl, hP, hK, hD0⟩ := hv
  have hx := Bd.exec
  have hb := Bd.bytes
  have hr := Bd.returns
  have hts := atoms_spec (ws := wsX0_cover) Bd.pre
  have hown : s.vm.findClass RX0 = some m.cls := findClass_of_methodNamed Bd.named
  have hlocks := Bd.notSynchronized
  have hD := z_Dfr hD0
  have hS : va_S (zfr (bkW (cA 0) a B)) s.heap s.heap [] := va_S.rf
  have hi0 : ∀ w ∈ wsX00, w ∈ wsX0_cover := fun w h => List.mem_cons_of_mem _ (List.mem_append_right _ h)
  have hl := lv_entry ([.ref (a 0), .int (nI mb)]) (n := 2) (Nat.le_of_ble_eq_true rfl)
  rw [lg_entry_eq]
  generalize (lg_sl ([.ref (a 0), .int (nI mb)]) ++ List.replicate (2 - (lg_sl ([.ref (a 0), .int (nI mb)])).length) Slot.unset).toArray = ls at hl ⊢
  have hl : lv_has ls 2 [(0, .ref (a 0)), (1, .int (nI mb))] := hl
  refine lv_aload_n hx hb dX0_cover_0 rfl (lv_at hl 0 rfl) ?_
  refine lv_iload_n hx hb dX0_cover_1 rfl (lv_at hl 1 rfl) ?_
  refine z_E (va_runV (As := [.int (nI mb)]) (rest := []) ⟨hx, hb, hml, hown, hts⟩ (zc_X0_ownLeft l D cA a B mb (by omega)) (cwV 1 hts gX0_cover_X0_ownLeft rfl rfl rfl zy_X0_ownLeft ⟨Nat.le_of_ble_eq_true rfl, Nat.le_of_ble_eq_true rfl⟩) (z_preV (ci := 0) hK hP hD rfl rfl) rfl rfl hl.1 rfl (lv_room (Nat.le_of_ble_eq_true rfl)) dX0_cover_2 ⟨Nat.zero_le _, Nat.zero_le _⟩) rfl ?_
  refine lv_aload_n hx hb dX0_cover_5 rfl (lv_at hl 0 rfl) ?_
  refine lv_iload_n hx hb dX0_cover_6 rfl (lv_at hl 1 rfl) ?_
  refine z_E (va_runV (As := [.int (nI mb)]) (rest := [.int (f_X0_ownLeft B mb)]) ⟨hx, hb, hml, hown, hts⟩ (zc_X0_pledgedFor l D cA a B mb (by omega)) (cwV 1 hts gX0_cover_X0_pledgedFor rfl rfl rfl zy_X0_pledgedFor ⟨Nat.le_of_ble_eq_true rfl, Nat.le_of_ble_eq_true rfl⟩) (z_preV (ci := 0) hK hP hD rfl rfl) rfl rfl hl.1 rfl (lv_room (Nat.le_of_ble_eq_true rfl)) dX0_cover_7 ⟨Nat.zero_le _, Nat.zero_le _⟩) rfl ?_
  refine lv_iadd hx hb dX0_cover_10 ?_
  exact z_iretE hx hb hr hlocks dX0_cover_11 (by first | (simp only [f_X0_cover]; done) | rfl)

theorem zy_X0_freeShares : yX0_freeShares.cls = RX0 ∧ yX0_freeShares.cls ≠ "java/lang/invoke/MethodHandle" ∧ yX0_freeShares.cls ≠ "java/lang/invoke/VarHandle" ∧ (parseMethodDescriptor yX0_freeShares.desc).map (fun d => d.parameters.length) = some 1 := by decide +kernel
def f_X0_freeShares (B : BK) (mb : Nat) : Int32 :=
  (f_X0_ownLeft B mb) - (zmax 0 ((B 3 mb) - (f_X0_pledgedFor B mb)))

set_option maxHeartbeats 4000000 in
set_option maxRecDepth 100000 in
theorem zc_X0_freeShares (l : Launch) (D : va_G) (cA : Nat → ClassId) (a : Nat → Nat) (B : BK) (mb : Nat) (hmb : mb < 6) : Met l yX0_freeShares wsX0_freeShares (zrm 2 45) (zPc D cA [.ref (a 0), .int (nI mb)] (bkW (cA 0) a B)) (zE (some (.int (f_X0_freeShares B mb)))) 0 0 (fun _ => False) := by
  refine Met.ofW (cc := cX0_freeShares) (maxL := 2) (ret := (some .int)) (by decide) rfl ?_
  intro p e s m args below meth c s₁ Bd hml hv
  obtain ⟨rfl, hP, hK, hD0⟩ := hv
  have hx := Bd.exec
  have hb := Bd.bytes
  have hr := Bd.returns
  have hts := atoms_spec (ws := wsX0_freeShares) Bd.pre
  have hown : s.vm.findClass RX0 = some m.cls := findClass_of_methodNamed Bd.named
  have hlocks := Bd.notSynchronized
  have hD := z_Dfr hD0
  have hS : va_S (zfr (bkW (cA 0) a B)) s.heap s.heap [] := va_S.rf
  have hi0 : ∀ w ∈ wsX00, w ∈ wsX0_freeShares := fun w h => List.mem_cons_of_mem _ (List.mem_append_right _ h)
  have hl := lv_entry ([.ref (a 0), .int (nI mb)]) (n := 2) (Nat.le_of_ble_eq_true rfl)
  rw [lg_entry_eq]
  generalize (lg_sl ([.ref (a 0), .int (nI mb)]) ++ List.replicate (2 - (lg_sl ([.ref (a 0), .int (nI mb)])).length) Slot.unset).toArray = ls at hl ⊢
  have hl : lv_has ls 2 [(0, .ref (a 0)), (1, .int (nI mb))] := hl
  refine lv_aload_n hx hb dX0_freeShares_0 rfl (lv_at hl 0 rfl) ?_
  refine lv_iload_n hx hb dX0_freeShares_1 rfl (lv_at hl 1 rfl) ?_
  refine z_E (va_runV (As := [.int (nI mb)]) (rest := []) ⟨hx, hb, hml, hown, hts⟩ (zc_X0_ownLeft l D cA a B mb (by omega)) (cwV 1 hts gX0_freeShares_X0_ownLeft rfl rfl rfl zy_X0_ownLeft ⟨Nat.le_of_ble_eq_true rfl, Nat.le_of_ble_eq_true rfl⟩) (z_preV (ci := 0) hK hP hD rfl rfl) rfl rfl hl.1 rfl (lv_room (Nat.le_of_ble_eq_true rfl)) dX0_freeShares_2 ⟨Nat.zero_le _, Nat.zero_le _⟩) rfl ?_
  refine lv_iconst (v := 0) hx hb dX0_freeShares_5 (by decide) ?_
  refine lv_aload_n hx hb dX0_freeShares_6 rfl (lv_at hl 0 rfl) ?_
  refine va_get (D := D) (ci := 0) (v := .ref (a 4)) (C := RX0) (T := TX0) (N := 16) hx hb hts hi0 hown hK hP 0 rfl rfl 3 (by decide) (hts (.fieldLink RX0 21 "PledgedLoans$Books" "rest" "[I") (List.mem_of_getElem? (i := 1) rfl)) (fun _ h9 => h9) rfl dX0_freeShares_7 ?_
  refine lv_iload_n hx hb dX0_freeShares_10 rfl (lv_at hl 1 rfl) ?_
  refine z_iald (j := mb) hx hb hK hP 4 0 rfl rfl dX0_freeShares_11 (by omega) (by decide) ?_
  refine lv_aload_n hx hb dX0_freeShares_12 rfl (lv_at hl 0 rfl) ?_
  refine lv_iload_n hx hb dX0_freeShares_13 rfl (lv_at hl 1 rfl) ?_
  refine z_E (va_runV (As := [.int (nI mb)]) (rest := [.int (B 3 mb), .int 0, .int (f_X0_ownLeft B mb)]) ⟨hx, hb, hml, hown, hts⟩ (zc_X0_pledgedFor l D cA a B mb (by omega)) (cwV 1 hts gX0_freeShares_X0_pledgedFor rfl rfl rfl zy_X0_pledgedFor ⟨Nat.le_of_ble_eq_true rfl, Nat.le_of_ble_eq_true rfl⟩) (z_preV (ci := 0) hK hP hD rfl rfl) rfl rfl hl.1 rfl (lv_room (Nat.le_of_ble_eq_true rfl)) dX0_freeShares_14 ⟨Nat.zero_le _, Nat.zero_le _⟩) rfl ?_
  refine lv_isub hx hb dX0_freeShares_17 ?_
  refine va_mmax hx hb (by rw [hml]; exact hl.1.symm) hown (hts (.methodLink RX0 91 Lib.Math.max.name) (List.mem_of_getElem? (i := 2) rfl)) (hts (.static Lib.Math.max.name) (List.mem_of_getElem? (i := 3) rfl)) (hts (.initialized "java/lang/Math") (List.mem_of_getElem? (i := 4) rfl)) (hts (.code Lib.Math.max.name Lib.Math.max.code 2 (some .int)) (List.mem_of_getElem? (i := 5) rfl)) (Nat.le_of_ble_eq_true rfl) (Nat.le_of_ble_eq_true rfl) (Nat.zero_le _) (Nat.zero_le _) dX0_freeShares_18 ?_
  refine z_top (y := zmax 0 ((B 3 mb) - (f_X0_pledgedFor B mb))) rfl ?_
  refine lv_isub hx hb dX0_freeShares_21 ?_
  exact z_iretE hx hb hr hlocks dX0_freeShares_22 (by first | (simp only [f_X0_freeShares]; done) | rfl)

theorem zy_X0_property : yX0_property.cls = RX0 ∧ yX0_property.cls ≠ "java/lang/invoke/MethodHandle" ∧ yX0_property.cls ≠ "java/lang/invoke/VarHandle" ∧ (parseMethodDescriptor yX0_property.desc).map (fun d => d.parameters.length) = some 2 := by decide +kernel
def f_X0_property (B : BK) (mb : Nat) (wt : Int32) : Int32 :=
  if wt = 0 then
    B 0 mb
  else
  if wt = 1 then
    f_X0_pledgedBy B mb
  else
  if wt = 2 then
    f_X0_pledgedFor B mb
  else
  if wt = 3 then
    f_X0_cover B mb
  else
  if wt = 4 then
    f_X0_freeShares B mb
  else
  if wt = 5 then
    B 1 mb
  else
  if wt = 6 then
    B 3 mb
  else
  if wt = 7 then
    if (f_X0_hasLoan B mb) = 0 then
      (-1)
    else
      B 4 mb
  else
  if wt = 8 then
    if (f_X0_hasLoan B mb) = 0 then
      (-1)
    else
      B 5 mb
  else
    if (f_X0_hasLoan B mb) = 0 then
      (-1)
    else
      B 6 mb

set_option maxHeartbeats 4000000 in
set_option maxRecDepth 100000 in
theorem zc_X0_property (l : Launch) (D : va_G) (cA : Nat → ClassId) (a : Nat → Nat) (B : BK) (mb : Nat) (wt : Int32) (hmb : mb < 6) : Met l yX0_property wsX0_property (zrm 3 66) (zPc D cA [.ref (a 0), .int (nI mb), .int wt] (bkW (cA 0) a B)) (zE (some (.int (f_X0_property B mb wt)))) 0 0 (fun _ => False) := by
  refine Met.ofW (cc := cX0_property) (maxL := 3) (ret := (some .int)) (by decide) rfl ?_
  intro p e s m args below meth c s₁ Bd hml hv
  obtain ⟨rfl, hP, hK, hD0⟩ := hv
  have hx := Bd.exec
  have hb := Bd.bytes
  have hr := Bd.returns
  have hts := atoms_spec (ws := wsX0_property) Bd.pre
  have hown : s.vm.findClass RX0 = some m.cls := findClass_of_methodNamed Bd.named
  have hlocks := Bd.notSynchronized
  have hD := z_Dfr hD0
  have hS : va_S (zfr (bkW (cA 0) a B)) s.heap s.heap [] := va_S.rf
  have hi0 : ∀ w ∈ wsX00, w ∈ wsX0_property := fun w h => List.mem_cons_of_mem _ (List.mem_append_right _ h)
  have hl := lv_entry ([.ref (a 0), .int (nI mb), .int wt]) (n := 3) (Nat.le_of_ble_eq_true rfl)
  rw [lg_entry_eq]
  generalize (lg_sl ([.ref (a 0), .int (nI mb), .int wt]) ++ List.replicate (3 - (lg_sl ([.ref (a 0), .int (nI mb), .int wt])).length) Slot.unset).toArray = ls at hl ⊢
  have hl : lv_has ls 3 [(0, .ref (a 0)), (1, .int (nI mb)), (2, .int wt)] := hl
  refine lv_iload_n hx hb dX0_property_0 rfl (lv_at hl 2 rfl) ?_
  by_cases c_1 : wt = 0
  · refine lv_tableIn (off := 51) (tgt := 52) hx hb dX0_property_1 (by rw [c_1]; decide) (by rw [c_1]; decide) (by rw [c_1]; decide) (by decide) ?_
    refine lv_aload_n hx hb dX0_property_52 rfl (lv_at hl 0 rfl) ?_
    refine va_get (D := D) (ci := 0) (v := .ref (a 1)) (C := RX0) (T := TX0) (N := 16) hx hb hts hi0 hown hK hP 0 rfl rfl 0 (by decide) (hts (.fieldLink RX0 9 "PledgedLoans$Books" "shares" "[I") (List.mem_of_getElem? (i := 1) rfl)) (fun _ h9 => h9) rfl dX0_property_53 ?_
    refine lv_iload_n hx hb dX0_property_56 rfl (lv_at hl 1 rfl) ?_
    refine z_iald (j := mb) hx hb hK hP 1 0 rfl rfl dX0_property_57 (by omega) (by decide) ?_
    exact z_iretE hx hb hr hlocks dX0_property_58 (by simp only [f_X0_property, if_pos c_1])
  by_cases c_2 : wt = 1
  · refine lv_tableIn (off := 58) (tgt := 59) hx hb dX0_property_1 (by rw [c_2]; decide) (by rw [c_2]; decide) (by rw [c_2]; decide) (by decide) ?_
    refine lv_aload_n hx hb dX0_property_59 rfl (lv_at hl 0 rfl) ?_
    refine lv_iload_n hx hb dX0_property_60 rfl (lv_at hl 1 rfl) ?_
    refine z_E (va_runV (As := [.int (nI mb)]) (rest := []) ⟨hx, hb, hml, hown, hts⟩ (zc_X0_pledgedBy l D cA a B mb (by omega)) (cwV 1 hts gX0_property_X0_pledgedBy rfl rfl rfl zy_X0_pledgedBy ⟨Nat.le_of_ble_eq_true rfl, Nat.le_of_ble_eq_true rfl⟩) (z_preV (ci := 0) hK hP hD rfl rfl) rfl rfl hl.1 rfl (lv_room (Nat.le_of_ble_eq_true rfl)) dX0_property_61 ⟨Nat.zero_le _, Nat.zero_le _⟩) rfl ?_
    exact z_iretE hx hb hr hlocks dX0_property_64 (by simp only [f_X0_property, if_neg c_1, if_pos c_2])
  by_cases c_3 : wt = 2
  · refine lv_tableIn (off := 64) (tgt := 65) hx hb dX0_property_1 (by rw [c_3]; decide) (by rw [c_3]; decide) (by rw [c_3]; decide) (by decide) ?_
    refine lv_aload_n hx hb dX0_property_65 rfl (lv_at hl 0 rfl) ?_
    refine lv_iload_n hx hb dX0_property_66 rfl (lv_at hl 1 rfl) ?_
    refine z_E (va_runV (As := [.int (nI mb)]) (rest := []) ⟨hx, hb, hml, hown, hts⟩ (zc_X0_pledgedFor l D cA a B mb (by omega)) (cwV 1 hts gX0_property_X0_pledgedFor rfl rfl rfl zy_X0_pledgedFor ⟨Nat.le_of_ble_eq_true rfl, Nat.le_of_ble_eq_true rfl⟩) (z_preV (ci := 0) hK hP hD rfl rfl) rfl rfl hl.1 rfl (lv_room (Nat.le_of_ble_eq_true rfl)) dX0_property_67 ⟨Nat.zero_le _, Nat.zero_le _⟩) rfl ?_
    exact z_iretE hx hb hr hlocks dX0_property_70 (by simp only [f_X0_property, if_neg c_1, if_neg c_2, if_pos c_3])
  by_cases c_4 : wt = 3
  · refine lv_tableIn (off := 70) (tgt := 71) hx hb dX0_property_1 (by rw [c_4]; decide) (by rw [c_4]; decide) (by rw [c_4]; decide) (by decide) ?_
    refine lv_aload_n hx hb dX0_property_71 rfl (lv_at hl 0 rfl) ?_
    refine lv_iload_n hx hb dX0_property_72 rfl (lv_at hl 1 rfl) ?_
    refine z_E (va_runV (As := [.int (nI mb)]) (rest := []) ⟨hx, hb, hml, hown, hts⟩ (zc_X0_cover l D cA a B mb (by omega)) (cwV 1 hts gX0_property_X0_cover rfl rfl rfl zy_X0_cover ⟨Nat.le_of_ble_eq_true rfl, Nat.le_of_ble_eq_true rfl⟩) (z_preV (ci := 0) hK hP hD rfl rfl) rfl rfl hl.1 rfl (lv_room (Nat.le_of_ble_eq_true rfl)) dX0_property_73 ⟨Nat.zero_le _, Nat.zero_le _⟩) rfl ?_
    exact z_iretE hx hb hr hlocks dX0_property_76 (by simp only [f_X0_property, if_neg c_1, if_neg c_2, if_neg c_3, if_pos c_4])
  by_cases c_5 : wt = 4
  · refine lv_tableIn (off := 76) (tgt := 77) hx hb dX0_property_1 (by rw [c_5]; decide) (by rw [c_5]; decide) (by rw [c_5]; decide) (by decide) ?_
    refine lv_aload_n hx hb dX0_property_77 rfl (lv_at hl 0 rfl) ?_
    refine lv_iload_n hx hb dX0_property_78 rfl (lv_at hl 1 rfl) ?_
    refine z_E (va_runV (As := [.int (nI mb)]) (rest := []) ⟨hx, hb, hml, hown, hts⟩ (zc_X0_freeShares l D cA a B mb (by omega)) (cwV 1 hts gX0_property_X0_freeShares rfl rfl rfl zy_X0_freeShares ⟨Nat.le_of_ble_eq_true rfl, Nat.le_of_ble_eq_true rfl⟩) (z_preV (ci := 0) hK hP hD rfl rfl) rfl rfl hl.1 rfl (lv_room (Nat.le_of_ble_eq_true rfl)) dX0_property_79 ⟨Nat.zero_le _, Nat.zero_le _⟩) rfl ?_
    exact z_iretE hx hb hr hlocks dX0_property_82 (by simp only [f_X0_property, if_neg c_1, if_neg c_2, if_neg c_3, if_neg c_4, if_pos c_5])
  by_cases c_6 : wt = 5
  · refine lv_tableIn (off := 82) (tgt := 83) hx hb dX0_property_1 (by rw [c_6]; decide) (by rw [c_6]; decide) (by rw [c_6]; decide) (by decide) ?_
    refine lv_aload_n hx hb dX0_property_83 rfl (lv_at hl 0 rfl) ?_
    refine va_get (D := D) (ci := 0) (v := .ref (a 2)) (C := RX0) (T := TX0) (N := 16) hx hb hts hi0 hown hK hP 0 rfl rfl 1 (by decide) (hts (.fieldLink RX0 15 "PledgedLoans$Books" "shareDays" "[I") (List.mem_of_getElem? (i := 2) rfl)) (fun _ h9 => h9) rfl dX0_property_84 ?_
    refine lv_iload_n hx hb dX0_property_87 rfl (lv_at hl 1 rfl) ?_
    refine z_iald (j := mb) hx hb hK hP 2 0 rfl rfl dX0_property_88 (by omega) (by decide) ?_
    exact z_iretE hx hb hr hlocks dX0_property_89 (by simp only [f_X0_property, if_neg c_1, if_neg c_2, if_neg c_3, if_neg c_4, if_neg c_5, if_pos c_6])
  by_cases c_7 : wt = 6
  · refine lv_tableIn (off := 89) (tgt := 90) hx hb dX0_property_1 (by rw [c_7]; decide) (by rw [c_7]; decide) (by rw [c_7]; decide) (by decide) ?_
    refine lv_aload_n hx hb dX0_property_90 rfl (lv_at hl 0 rfl) ?_
    refine va_get (D := D) (ci := 0) (v := .ref (a 4)) (C := RX0) (T := TX0) (N := 16) hx hb hts hi0 hown hK hP 0 rfl rfl 3 (by decide) (hts (.fieldLink RX0 21 "PledgedLoans$Books" "rest" "[I") (List.mem_of_getElem? (i := 3) rfl)) (fun _ h9 => h9) rfl dX0_property_91 ?_
    refine lv_iload_n hx hb dX0_property_94 rfl (lv_at hl 1 rfl) ?_
    refine z_iald (j := mb) hx hb hK hP 4 0 rfl rfl dX0_property_95 (by omega) (by decide) ?_
    exact z_iretE hx hb hr hlocks dX0_property_96 (by simp only [f_X0_property, if_neg c_1, if_neg c_2, if_neg c_3, if_neg c_4, if_neg c_5, if_neg c_6, if_pos c_7])
  by_cases c_8 : wt = 7
  · refine lv_tableIn (off := 96) (tgt := 97) hx hb dX0_property_1 (by rw [c_8]; decide) (by rw [c_8]; decide) (by rw [c_8]; decide) (by decide) ?_
    refine lv_aload_n hx hb dX0_property_97 rfl (lv_at hl 0 rfl) ?_
    refine lv_iload_n hx hb dX0_property_98 rfl (lv_at hl 1 rfl) ?_
    refine z_E (va_runV (As := [.int (nI mb)]) (rest := []) ⟨hx, hb, hml, hown, hts⟩ (zc_X0_hasLoan l D cA a B mb (by omega)) (cwV 1 hts gX0_property_X0_hasLoan rfl rfl rfl zy_X0_hasLoan ⟨Nat.le_of_ble_eq_true rfl, Nat.le_of_ble_eq_true rfl⟩) (z_preV (ci := 0) hK hP hD rfl rfl) rfl rfl hl.1 rfl (lv_room (Nat.le_of_ble_eq_true rfl)) dX0_property_99 ⟨Nat.zero_le _, Nat.zero_le _⟩) rfl ?_
    refine lv_if_eq (tgt := 114) hx hb dX0_property_102 (by decide) (fun c_9 => ?_) (fun c_9 => ?_)
    · refine lv_iconst (v := (-1)) hx hb dX0_property_114 (by decide) ?_
      exact z_iretE hx hb hr hlocks dX0_property_115 (by simp only [f_X0_property, if_neg c_1, if_neg c_2, if_neg c_3, if_neg c_4, if_neg c_5, if_neg c_6, if_neg c_7, if_pos c_8, if_pos c_9])
    · refine lv_aload_n hx hb dX0_property_105 rfl (lv_at hl 0 rfl) ?_
      refine va_get (D := D) (ci := 0) (v := .ref (a 5)) (C := RX0) (T := TX0) (N := 16) hx hb hts hi0 hown hK hP 0 rfl rfl 4 (by decide) (hts (.fieldLink RX0 24 "PledgedLoans$Books" "part" "[I") (List.mem_of_getElem? (i := 4) rfl)) (fun _ h9 => h9) rfl dX0_property_106 ?_
      refine lv_iload_n hx hb dX0_property_109 rfl (lv_at hl 1 rfl) ?_
      refine z_iald (j := mb) hx hb hK hP 5 0 rfl rfl dX0_property_110 (by omega) (by decide) ?_
      refine lv_goto (tgt := 115) hx hb dX0_property_111 (by decide) ?_
      exact z_iretE hx hb hr hlocks dX0_property_115 (by simp only [f_X0_property, if_neg c_1, if_neg c_2, if_neg c_3, if_neg c_4, if_neg c_5, if_neg c_6, if_neg c_7, if_pos c_8, if_neg c_9])
  by_cases c_10 : wt = 8
  · refine lv_tableIn (off := 115) (tgt := 116) hx hb dX0_property_1 (by rw [c_10]; decide) (by rw [c_10]; decide) (by rw [c_10]; decide) (by decide) ?_
    refine lv_aload_n hx hb dX0_property_116 rfl (lv_at hl 0 rfl) ?_
    refine lv_iload_n hx hb dX0_property_117 rfl (lv_at hl 1 rfl) ?_
    refine z_E (va_runV (As := [.int (nI mb)]) (rest := []) ⟨hx, hb, hml, hown, hts⟩ (zc_X0_hasLoan l D cA a B mb (by omega)) (cwV 1 hts gX0_property_X0_hasLoan rfl rfl rfl zy_X0_hasLoan ⟨Nat.le_of_ble_eq_true rfl, Nat.le_of_ble_eq_true rfl⟩) (z_preV (ci := 0) hK hP hD rfl rfl) rfl rfl hl.1 rfl (lv_room (Nat.le_of_ble_eq_true rfl)) dX0_property_118 ⟨Nat.zero_le _, Nat.zero_le _⟩) rfl ?_
    refine lv_if_eq (tgt := 133) hx hb dX0_property_121 (by decide) (fun c_11 => ?_) (fun c_11 => ?_)
    · refine lv_iconst (v := (-1)) hx hb dX0_property_133 (by decide) ?_
      exact z_iretE hx hb hr hlocks dX0_property_134 (by simp only [f_X0_property, if_neg c_1, if_neg c_2, if_neg c_3, if_neg c_4, if_neg c_5, if_neg c_6, if_neg c_7, if_neg c_8, if_pos c_10, if_pos c_11])
    · refine lv_aload_n hx hb dX0_property_124 rfl (lv_at hl 0 rfl) ?_
      refine va_get (D := D) (ci := 0) (v := .ref (a 6)) (C := RX0) (T := TX0) (N := 16) hx hb hts hi0 hown hK hP 0 rfl rfl 5 (by decide) (hts (.fieldLink RX0 27 "PledgedLoans$Books" "paid" "[I") (List.mem_of_getElem? (i := 5) rfl)) (fun _ h9 => h9) rfl dX0_property_125 ?_
      refine lv_iload_n hx hb dX0_property_128 rfl (lv_at hl 1 rfl) ?_
      refine z_iald (j := mb) hx hb hK hP 6 0 rfl rfl dX0_property_129 (by omega) (by decide) ?_
      refine lv_goto (tgt := 134) hx hb dX0_property_130 (by decide) ?_
      exact z_iretE hx hb hr hlocks dX0_property_134 (by simp only [f_X0_property, if_neg c_1, if_neg c_2, if_neg c_3, if_neg c_4, if_neg c_5, if_neg c_6, if_neg c_7, if_neg c_8, if_pos c_10, if_neg c_11])
  have tc_1 : (wt).toInt ≠ 0 := fun h9 => c_1 (Int32.toInt_inj.mp (h9.trans (by decide)))
  have tc_2 : (wt).toInt ≠ 1 := fun h9 => c_2 (Int32.toInt_inj.mp (h9.trans (by decide)))
  have tc_3 : (wt).toInt ≠ 2 := fun h9 => c_3 (Int32.toInt_inj.mp (h9.trans (by decide)))
  have tc_4 : (wt).toInt ≠ 3 := fun h9 => c_4 (Int32.toInt_inj.mp (h9.trans (by decide)))
  have tc_5 : (wt).toInt ≠ 4 := fun h9 => c_5 (Int32.toInt_inj.mp (h9.trans (by decide)))
  have tc_6 : (wt).toInt ≠ 5 := fun h9 => c_6 (Int32.toInt_inj.mp (h9.trans (by decide)))
  have tc_7 : (wt).toInt ≠ 6 := fun h9 => c_7 (Int32.toInt_inj.mp (h9.trans (by decide)))
  have tc_8 : (wt).toInt ≠ 7 := fun h9 => c_8 (Int32.toInt_inj.mp (h9.trans (by decide)))
  have tc_10 : (wt).toInt ≠ 8 := fun h9 => c_10 (Int32.toInt_inj.mp (h9.trans (by decide)))
  refine lv_tableOut (tgt := 135) hx hb dX0_property_1 (by omega) (by decide) ?_
  refine lv_aload_n hx hb dX0_property_135 rfl (lv_at hl 0 rfl) ?_
  refine lv_iload_n hx hb dX0_property_136 rfl (lv_at hl 1 rfl) ?_
  refine z_E (va_runV (As := [.int (nI mb)]) (rest := []) ⟨hx, hb, hml, hown, hts⟩ (zc_X0_hasLoan l D cA a B mb (by omega)) (cwV 1 hts gX0_property_X0_hasLoan rfl rfl rfl zy_X0_hasLoan ⟨Nat.le_of_ble_eq_true rfl, Nat.le_of_ble_eq_true rfl⟩) (z_preV (ci := 0) hK hP hD rfl rfl) rfl rfl hl.1 rfl (lv_room (Nat.le_of_ble_eq_true rfl)) dX0_property_137 ⟨Nat.zero_le _, Nat.zero_le _⟩) rfl ?_
  refine lv_if_eq (tgt := 152) hx hb dX0_property_140 (by decide) (fun c_12 => ?_) (fun c_12 => ?_)
  · refine lv_iconst (v := (-1)) hx hb dX0_property_152 (by decide) ?_
    exact z_iretE hx hb hr hlocks dX0_property_153 (by simp only [f_X0_property, if_neg c_1, if_neg c_2, if_neg c_3, if_neg c_4, if_neg c_5, if_neg c_6, if_neg c_7, if_neg c_8, if_neg c_10, if_pos c_12])
  · refine lv_aload_n hx hb dX0_property_143 rfl (lv_at hl 0 rfl) ?_
    refine va_get (D := D) (ci := 0) (v := .ref (a 7)) (C := RX0) (T := TX0) (N := 16) hx hb hts hi0 hown hK hP 0 rfl rfl 6 (by decide) (hts (.fieldLink RX0 30 "PledgedLoans$Books" "misses" "[I") (List.mem_of_getElem? (i := 6) rfl)) (fun _ h9 => h9) rfl dX0_property_144 ?_
    refine lv_iload_n hx hb dX0_property_147 rfl (lv_at hl 1 rfl) ?_
    refine z_iald (j := mb) hx hb hK hP 7 0 rfl rfl dX0_property_148 (by omega) (by decide) ?_
    refine lv_goto (tgt := 153) hx hb dX0_property_149 (by decide) ?_
    exact z_iretE hx hb hr hlocks dX0_property_153 (by simp only [f_X0_property, if_neg c_1, if_neg c_2, if_neg c_3, if_neg c_4, if_neg c_5, if_neg c_6, if_neg c_7, if_neg c_8, if_neg c_10, if_neg c_12])

theorem zy_X0_takeIn : yX0_takeIn.cls = RX0 ∧ yX0_takeIn.cls ≠ "java/lang/invoke/MethodHandle" ∧ yX0_takeIn.cls ≠ "java/lang/invoke/VarHandle" ∧ (parseMethodDescriptor yX0_takeIn.desc).map (fun d => d.parameters.length) = some 2 := by decide +kernel
def f_X0_takeIn (B : BK) (mb : Nat) (am : Int32) : Int32 × BK :=
  if ((B 0 mb) + am) ≤ 90000 then
    let M_2 : BK := uB (uB B 0 mb ((B 0 mb) + am)) 8 0 (((uB B 0 mb ((B 0 mb) + am)) 8 0) + am)
    ((B 0 mb) + am, M_2)
  else
    ((-1), uB B 8 6 ((B 8 6) + 1))

set_option maxHeartbeats 4000000 in
set_option maxRecDepth 100000 in
theorem zc_X0_takeIn (l : Launch) (D : va_G) (cA : Nat → ClassId) (a : Nat → Nat) (B : BK) (mb : Nat) (am : Int32) (hmb : mb < 6) : Met l yX0_takeIn wsX0_takeIn (zrm 0 0) (zPc D cA [.ref (a 0), .int (nI mb), .int am] (bkW (cA 0) a B)) (zM D (bkW (cA 0) a B) (bkW (cA 0) a ((f_X0_takeIn B mb am).2)) (some (.int ((f_X0_takeIn B mb am).1)))) 0 0 (zfr (bkW (cA 0) a B)) := by
  refine Met.ofW (cc := cX0_takeIn) (maxL := 4) (ret := (some .int)) (by decide) rfl ?_
  intro p e s m args below meth c s₁ Bd hml hv
  obtain ⟨rfl, hP, hK, hD0⟩ := hv
  have hx := Bd.exec
  have hb := Bd.bytes
  have hr := Bd.returns
  have hts := atoms_spec (ws := wsX0_takeIn) Bd.pre
  have hown : s.vm.findClass RX0 = some m.cls := findClass_of_methodNamed Bd.named
  have hlocks := Bd.notSynchronized
  have hD := z_Dfr hD0
  have hS : va_S (zfr (bkW (cA 0) a B)) s.heap s.heap [] := va_S.rf
  have hi0 : ∀ w ∈ wsX00, w ∈ wsX0_takeIn := fun w h => List.mem_cons_of_mem _ (List.mem_append_right _ h)
  have hl := lv_entry ([.ref (a 0), .int (nI mb), .int am]) (n := 4) (Nat.le_of_ble_eq_true rfl)
  rw [lg_entry_eq]
  generalize (lg_sl ([.ref (a 0), .int (nI mb), .int am]) ++ List.replicate (4 - (lg_sl ([.ref (a 0), .int (nI mb), .int am])).length) Slot.unset).toArray = ls at hl ⊢
  have hl : lv_has ls 4 [(0, .ref (a 0)), (1, .int (nI mb)), (2, .int am)] := hl
  refine lv_aload_n hx hb dX0_takeIn_0 rfl (lv_at hl 0 rfl) ?_
  refine va_get (D := D) (ci := 0) (v := .ref (a 1)) (C := RX0) (T := TX0) (N := 16) hx hb hts hi0 hown hK hP 0 rfl rfl 0 (by decide) (hts (.fieldLink RX0 9 "PledgedLoans$Books" "shares" "[I") (List.mem_of_getElem? (i := 1) rfl)) (fun _ h9 => h9) rfl dX0_takeIn_1 ?_
  refine lv_iload_n hx hb dX0_takeIn_4 rfl (lv_at hl 1 rfl) ?_
  refine z_iald (j := mb) hx hb hK hP 1 0 rfl rfl dX0_takeIn_5 (by omega) (by decide) ?_
  refine lv_iload_n hx hb dX0_takeIn_6 rfl (lv_at hl 2 rfl) ?_
  refine lv_iadd hx hb dX0_takeIn_7 ?_
  refine lv_istore_n (lv' := [(3, .int ((B 0 mb) + am)), (0, .ref (a 0)), (1, .int (nI mb)), (2, .int am)]) hx hb dX0_takeIn_8 rfl hl (by decide) rfl (fun ls hl => ?_)
  refine lv_iload_n hx hb dX0_takeIn_9 rfl (lv_at hl 0 rfl) ?_
  refine lv_ldc hx hb hown (hts (.constant RX0 100 (90000)) (List.mem_of_getElem? (i := 2) rfl)) dX0_takeIn_10 ?_
  refine lv_icmp_le (tgt := 27) hx hb dX0_takeIn_12 (by decide) (fun c_1 => ?_) (fun c_1 => ?_)
  · refine lv_aload_n hx hb dX0_takeIn_27 rfl (lv_at hl 1 rfl) ?_
    refine va_get (D := D) (ci := 0) (v := .ref (a 1)) (C := RX0) (T := TX0) (N := 16) hx hb hts hi0 hown hK hP 0 rfl rfl 0 (by decide) (hts (.fieldLink RX0 9 "PledgedLoans$Books" "shares" "[I") (List.mem_of_getElem? (i := 1) rfl)) (fun _ h9 => h9) rfl dX0_takeIn_28 ?_
    refine lv_iload_n hx hb dX0_takeIn_31 rfl (lv_at hl 2 rfl) ?_
    refine lv_iload_n hx hb dX0_takeIn_32 rfl (lv_at hl 0 rfl) ?_
    refine z_iast (j := mb) hx hb hK hP hD hS 1 0 rfl rfl dX0_takeIn_33 (by omega) (by decide) (bkW (cA 0) a (uB B 0 mb ((B 0 mb) + am))) rfl (fun H locs hP hD hS => ?_)
    refine lv_aload_n hx hb dX0_takeIn_34 rfl (lv_at hl 1 rfl) ?_
    refine lv_dup hx hb dX0_takeIn_35 rfl ?_
    refine va_get (D := D) (ci := 0) (v := .int ((uB B 0 mb ((B 0 mb) + am)) 8 0)) (C := RX0) (T := TX0) (N := 16) hx hb hts hi0 hown hK hP 0 rfl rfl 8 (by decide) (hts (.fieldLink RX0 40 "PledgedLoans$Books" "till" "I") (List.mem_of_getElem? (i := 4) rfl)) (fun _ h9 => h9) rfl dX0_takeIn_36 ?_
    refine lv_iload_n hx hb dX0_takeIn_39 rfl (lv_at hl 3 rfl) ?_
    refine lv_iadd hx hb dX0_takeIn_40 ?_
    refine va_put (D := D) (ci := 0) (v := .int (((uB B 0 mb ((B 0 mb) + am)) 8 0) + am)) (ty := .int) (C := RX0) (T := TX0) (N := 16) hx hb hts hi0 tyX0 tyX0_ok nmX0 hown hK hP hD hS 0 rfl rfl 8 (by decide) (hts (.fieldLink RX0 40 "PledgedLoans$Books" "till" "I") (List.mem_of_getElem? (i := 4) rfl)) (fun _ h9 => h9) rfl (by decide +kernel) rfl rfl (Nat.le_of_ble_eq_true rfl) dX0_takeIn_41 (fun H locs hP hD hS => ?_)
    have hP : va_P D vwCl (bkW (cA 0) a (uB (uB B 0 mb ((B 0 mb) + am)) 8 0 (((uB B 0 mb ((B 0 mb) + am)) 8 0) + am))) H := hP
    have hD : va_D _ (bkW (cA 0) a (uB (uB B 0 mb ((B 0 mb) + am)) 8 0 (((uB B 0 mb ((B 0 mb) + am)) 8 0) + am))) := hD
    obtain ⟨M_2, eM_2⟩ : ∃ z9 : BK, z9 = uB (uB B 0 mb ((B 0 mb) + am)) 8 0 (((uB B 0 mb ((B 0 mb) + am)) 8 0) + am) := ⟨_, rfl⟩
    rw [← eM_2] at hP hD
    refine lv_iload_n hx hb dX0_takeIn_44 rfl (lv_at hl 0 rfl) ?_
    exact z_iretM (w1 := bkW (cA 0) a M_2) hx hb hr hlocks dX0_takeIn_45 hP hS (by subst eM_2; simp only [f_X0_takeIn, if_pos c_1]) (by subst eM_2; simp only [f_X0_takeIn, if_pos c_1])
  · refine lv_aload_n hx hb dX0_takeIn_15 rfl (lv_at hl 1 rfl) ?_
    refine lv_dup hx hb dX0_takeIn_16 rfl ?_
    refine va_get (D := D) (ci := 0) (v := .int (B 8 6)) (C := RX0) (T := TX0) (N := 16) hx hb hts hi0 hown hK hP 0 rfl rfl 14 (by decide) (hts (.fieldLink RX0 59 "PledgedLoans$Books" "refused" "I") (List.mem_of_getElem? (i := 3) rfl)) (fun _ h9 => h9) rfl dX0_takeIn_17 ?_
    refine lv_iconst (v := 1) hx hb dX0_takeIn_20 (by decide) ?_
    refine lv_iadd hx hb dX0_takeIn_21 ?_
    refine va_put (D := D) (ci := 0) (v := .int ((B 8 6) + 1)) (ty := .int) (C := RX0) (T := TX0) (N := 16) hx hb hts hi0 tyX0 tyX0_ok nmX0 hown hK hP hD hS 0 rfl rfl 14 (by decide) (hts (.fieldLink RX0 59 "PledgedLoans$Books" "refused" "I") (List.mem_of_getElem? (i := 3) rfl)) (fun _ h9 => h9) rfl (by decide +kernel) rfl rfl (Nat.le_of_ble_eq_true rfl) dX0_takeIn_22 (fun H locs hP hD hS => ?_)
    have hP : va_P D vwCl (bkW (cA 0) a (uB B 8 6 ((B 8 6) + 1))) H := hP
    have hD : va_D _ (bkW (cA 0) a (uB B 8 6 ((B 8 6) + 1))) := hD
    refine lv_iconst (v := (-1)) hx hb dX0_takeIn_25 (by decide) ?_
    exact z_iretM (w1 := bkW (cA 0) a (uB B 8 6 ((B 8 6) + 1))) hx hb hr hlocks dX0_takeIn_26 hP hS (by simp only [f_X0_takeIn, if_neg c_1]) (by simp only [f_X0_takeIn, if_neg c_1])

theorem zy_X0_giveOut : yX0_giveOut.cls = RX0 ∧ yX0_giveOut.cls ≠ "java/lang/invoke/MethodHandle" ∧ yX0_giveOut.cls ≠ "java/lang/invoke/VarHandle" ∧ (parseMethodDescriptor yX0_giveOut.desc).map (fun d => d.parameters.length) = some 2 := by decide +kernel
def f_X0_giveOut (B : BK) (mb : Nat) (am : Int32) : Int32 × BK :=
  if am ≤ (f_X0_freeShares B mb) then
    if am ≤ (B 8 0) then
      let M_3 : BK := uB (uB B 0 mb ((B 0 mb) - am)) 8 0 (((uB B 0 mb ((B 0 mb) - am)) 8 0) - am)
      (0, M_3)
    else
      (2, uB B 8 6 ((B 8 6) + 1))
  else
    (1, uB B 8 6 ((B 8 6) + 1))

set_option maxHeartbeats 4000000 in
set_option maxRecDepth 100000 in
theorem zc_X0_giveOut (l : Launch) (D : va_G) (cA : Nat → ClassId) (a : Nat → Nat) (B : BK) (mb : Nat) (am : Int32) (hmb : mb < 6) : Met l yX0_giveOut wsX0_giveOut (zrm 3 66) (zPc D cA [.ref (a 0), .int (nI mb), .int am] (bkW (cA 0) a B)) (zM D (bkW (cA 0) a B) (bkW (cA 0) a ((f_X0_giveOut B mb am).2)) (some (.int ((f_X0_giveOut B mb am).1)))) 0 0 (zfr (bkW (cA 0) a B)) := by
  refine Met.ofW (cc := cX0_giveOut) (maxL := 3) (ret := (some .int)) (by decide) rfl ?_
  intro p e s m args below meth c s₁ Bd hml hv
  obtain ⟨rfl, hP, hK, hD0⟩ := hv
  have hx := Bd.exec
  have hb := Bd.bytes
  have hr := Bd.returns
  have hts := atoms_spec (ws := wsX0_giveOut) Bd.pre
  have hown : s.vm.findClass RX0 = some m.cls := findClass_of_methodNamed Bd.named
  have hlocks := Bd.notSynchronized
  have hD := z_Dfr hD0
  have hS : va_S (zfr (bkW (cA 0) a B)) s.heap s.heap [] := va_S.rf
  have hi0 : ∀ w ∈ wsX00, w ∈ wsX0_giveOut := fun w h => List.mem_cons_of_mem _ (List.mem_append_right _ h)
  have hl := lv_entry ([.ref (a 0), .int (nI mb), .int am]) (n := 3) (Nat.le_of_ble_eq_true rfl)
  rw [lg_entry_eq]
  generalize (lg_sl ([.ref (a 0), .int (nI mb), .int am]) ++ List.replicate (3 - (lg_sl ([.ref (a 0), .int (nI mb), .int am])).length) Slot.unset).toArray = ls at hl ⊢
  have hl : lv_has ls 3 [(0, .ref (a 0)), (1, .int (nI mb)), (2, .int am)] := hl
  refine lv_iload_n hx hb dX0_giveOut_0 rfl (lv_at hl 2 rfl) ?_
  refine lv_aload_n hx hb dX0_giveOut_1 rfl (lv_at hl 0 rfl) ?_
  refine lv_iload_n hx hb dX0_giveOut_2 rfl (lv_at hl 1 rfl) ?_
  refine z_E (va_runV (As := [.int (nI mb)]) (rest := [.int am]) ⟨hx, hb, hml, hown, hts⟩ (zc_X0_freeShares l D cA a B mb (by omega)) (cwV 1 hts gX0_giveOut_X0_freeShares rfl rfl rfl zy_X0_freeShares ⟨Nat.le_of_ble_eq_true rfl, Nat.le_of_ble_eq_true rfl⟩) (z_preV (ci := 0) hK hP hD rfl rfl) rfl rfl hl.1 rfl (lv_room (Nat.le_of_ble_eq_true rfl)) dX0_giveOut_3 ⟨Nat.zero_le _, Nat.zero_le _⟩) rfl ?_
  refine lv_icmp_le (tgt := 21) hx hb dX0_giveOut_6 (by decide) (fun c_1 => ?_) (fun c_1 => ?_)
  · refine lv_iload_n hx hb dX0_giveOut_21 rfl (lv_at hl 2 rfl) ?_
    refine lv_aload_n hx hb dX0_giveOut_22 rfl (lv_at hl 0 rfl) ?_
    refine va_get (D := D) (ci := 0) (v := .int (B 8 0)) (C := RX0) (T := TX0) (N := 16) hx hb hts hi0 hown hK hP 0 rfl rfl 8 (by decide) (hts (.fieldLink RX0 40 "PledgedLoans$Books" "till" "I") (List.mem_of_getElem? (i := 2) rfl)) (fun _ h9 => h9) rfl dX0_giveOut_23 ?_
    refine lv_icmp_le (tgt := 41) hx hb dX0_giveOut_26 (by decide) (fun c_2 => ?_) (fun c_2 => ?_)
    · refine lv_aload_n hx hb dX0_giveOut_41 rfl (lv_at hl 0 rfl) ?_
      refine va_get (D := D) (ci := 0) (v := .ref (a 1)) (C := RX0) (T := TX0) (N := 16) hx hb hts hi0 hown hK hP 0 rfl rfl 0 (by decide) (hts (.fieldLink RX0 9 "PledgedLoans$Books" "shares" "[I") (List.mem_of_getElem? (i := 3) rfl)) (fun _ h9 => h9) rfl dX0_giveOut_42 ?_
      refine lv_iload_n hx hb dX0_giveOut_45 rfl (lv_at hl 1 rfl) ?_
      refine lv_dup2_11 hx hb dX0_giveOut_46 rfl rfl ?_
      refine z_iald (j := mb) hx hb hK hP 1 0 rfl rfl dX0_giveOut_47 (by omega) (by decide) ?_
      refine lv_iload_n hx hb dX0_giveOut_48 rfl (lv_at hl 2 rfl) ?_
      refine lv_isub hx hb dX0_giveOut_49 ?_
      refine z_iast (j := mb) hx hb hK hP hD hS 1 0 rfl rfl dX0_giveOut_50 (by omega) (by decide) (bkW (cA 0) a (uB B 0 mb ((B 0 mb) - am))) rfl (fun H locs hP hD hS => ?_)
      refine lv_aload_n hx hb dX0_giveOut_51 rfl (lv_at hl 0 rfl) ?_
      refine lv_dup hx hb dX0_giveOut_52 rfl ?_
      refine va_get (D := D) (ci := 0) (v := .int ((uB B 0 mb ((B 0 mb) - am)) 8 0)) (C := RX0) (T := TX0) (N := 16) hx hb hts hi0 hown hK hP 0 rfl rfl 8 (by decide) (hts (.fieldLink RX0 40 "PledgedLoans$Books" "till" "I") (List.mem_of_getElem? (i := 2) rfl)) (fun _ h9 => h9) rfl dX0_giveOut_53 ?_
      refine lv_iload_n hx hb dX0_giveOut_56 rfl (lv_at hl 2 rfl) ?_
      refine lv_isub hx hb dX0_giveOut_57 ?_
      refine va_put (D := D) (ci := 0) (v := .int (((uB B 0 mb ((B 0 mb) - am)) 8 0) - am)) (ty := .int) (C := RX0) (T := TX0) (N := 16) hx hb hts hi0 tyX0 tyX0_ok nmX0 hown hK hP hD hS 0 rfl rfl 8 (by decide) (hts (.fieldLink RX0 40 "PledgedLoans$Books" "till" "I") (List.mem_of_getElem? (i := 2) rfl)) (fun _ h9 => h9) rfl (by decide +kernel) rfl rfl (Nat.le_of_ble_eq_true rfl) dX0_giveOut_58 (fun H locs hP hD hS => ?_)
      have hP : va_P D vwCl (bkW (cA 0) a (uB (uB B 0 mb ((B 0 mb) - am)) 8 0 (((uB B 0 mb ((B 0 mb) - am)) 8 0) - am))) H := hP
      have hD : va_D _ (bkW (cA 0) a (uB (uB B 0 mb ((B 0 mb) - am)) 8 0 (((uB B 0 mb ((B 0 mb) - am)) 8 0) - am))) := hD
      obtain ⟨M_3, eM_3⟩ : ∃ z9 : BK, z9 = uB (uB B 0 mb ((B 0 mb) - am)) 8 0 (((uB B 0 mb ((B 0 mb) - am)) 8 0) - am) := ⟨_, rfl⟩
      rw [← eM_3] at hP hD
      refine lv_iconst (v := 0) hx hb dX0_giveOut_61 (by decide) ?_
      exact z_iretM (w1 := bkW (cA 0) a M_3) hx hb hr hlocks dX0_giveOut_62 hP hS (by subst eM_3; simp only [f_X0_giveOut, if_pos c_1, if_pos c_2]) (by subst eM_3; simp only [f_X0_giveOut, if_pos c_1, if_pos c_2])
    · refine lv_aload_n hx hb dX0_giveOut_29 rfl (lv_at hl 0 rfl) ?_
      refine lv_dup hx hb dX0_giveOut_30 rfl ?_
      refine va_get (D := D) (ci := 0) (v := .int (B 8 6)) (C := RX0) (T := TX0) (N := 16) hx hb hts hi0 hown hK hP 0 rfl rfl 14 (by decide) (hts (.fieldLink RX0 59 "PledgedLoans$Books" "refused" "I") (List.mem_of_getElem? (i := 1) rfl)) (fun _ h9 => h9) rfl dX0_giveOut_31 ?_
      refine lv_iconst (v := 1) hx hb dX0_giveOut_34 (by decide) ?_
      refine lv_iadd hx hb dX0_giveOut_35 ?_
      refine va_put (D := D) (ci := 0) (v := .int ((B 8 6) + 1)) (ty := .int) (C := RX0) (T := TX0) (N := 16) hx hb hts hi0 tyX0 tyX0_ok nmX0 hown hK hP hD hS 0 rfl rfl 14 (by decide) (hts (.fieldLink RX0 59 "PledgedLoans$Books" "refused" "I") (List.mem_of_getElem? (i := 1) rfl)) (fun _ h9 => h9) rfl (by decide +kernel) rfl rfl (Nat.le_of_ble_eq_true rfl) dX0_giveOut_36 (fun H locs hP hD hS => ?_)
      have hP : va_P D vwCl (bkW (cA 0) a (uB B 8 6 ((B 8 6) + 1))) H := hP
      have hD : va_D _ (bkW (cA 0) a (uB B 8 6 ((B 8 6) + 1))) := hD
      refine lv_iconst (v := 2) hx hb dX0_giveOut_39 (by decide) ?_
      exact z_iretM (w1 := bkW (cA 0) a (uB B 8 6 ((B 8 6) + 1))) hx hb hr hlocks dX0_giveOut_40 hP hS (by simp only [f_X0_giveOut, if_pos c_1, if_neg c_2]) (by simp only [f_X0_giveOut, if_pos c_1, if_neg c_2])
  · refine lv_aload_n hx hb dX0_giveOut_9 rfl (lv_at hl 0 rfl) ?_
    refine lv_dup hx hb dX0_giveOut_10 rfl ?_
    refine va_get (D := D) (ci := 0) (v := .int (B 8 6)) (C := RX0) (T := TX0) (N := 16) hx hb hts hi0 hown hK hP 0 rfl rfl 14 (by decide) (hts (.fieldLink RX0 59 "PledgedLoans$Books" "refused" "I") (List.mem_of_getElem? (i := 1) rfl)) (fun _ h9 => h9) rfl dX0_giveOut_11 ?_
    refine lv_iconst (v := 1) hx hb dX0_giveOut_14 (by decide) ?_
    refine lv_iadd hx hb dX0_giveOut_15 ?_
    refine va_put (D := D) (ci := 0) (v := .int ((B 8 6) + 1)) (ty := .int) (C := RX0) (T := TX0) (N := 16) hx hb hts hi0 tyX0 tyX0_ok nmX0 hown hK hP hD hS 0 rfl rfl 14 (by decide) (hts (.fieldLink RX0 59 "PledgedLoans$Books" "refused" "I") (List.mem_of_getElem? (i := 1) rfl)) (fun _ h9 => h9) rfl (by decide +kernel) rfl rfl (Nat.le_of_ble_eq_true rfl) dX0_giveOut_16 (fun H locs hP hD hS => ?_)
    have hP : va_P D vwCl (bkW (cA 0) a (uB B 8 6 ((B 8 6) + 1))) H := hP
    have hD : va_D _ (bkW (cA 0) a (uB B 8 6 ((B 8 6) + 1))) := hD
    refine lv_iconst (v := 1) hx hb dX0_giveOut_19 (by decide) ?_
    exact z_iretM (w1 := bkW (cA 0) a (uB B 8 6 ((B 8 6) + 1))) hx hb hr hlocks dX0_giveOut_20 hP hS (by simp only [f_X0_giveOut, if_neg c_1]) (by simp only [f_X0_giveOut, if_neg c_1])

theorem zy_X0_addPledge : yX0_addPledge.cls = RX0 ∧ yX0_addPledge.cls ≠ "java/lang/invoke/MethodHandle" ∧ yX0_addPledge.cls ≠ "java/lang/invoke/VarHandle" ∧ (parseMethodDescriptor yX0_addPledge.desc).map (fun d => d.parameters.length) = some 3 := by decide +kernel
def f_X0_addPledge (B : BK) (mb : Nat) (br : Nat) (am : Int32) : Int32 × BK :=
  if am ≤ (f_X0_freeShares B mb) then
    ((uB B 2 (mb * 6 + br) ((B 2 (mb * 6 + br)) + am)) 2 (mb * 6 + br), uB B 2 (mb * 6 + br) ((B 2 (mb * 6 + br)) + am))
  else
    ((-1), uB B 8 6 ((B 8 6) + 1))

set_option maxHeartbeats 4000000 in
set_option maxRecDepth 100000 in
theorem zc_X0_addPledge (l : Launch) (D : va_G) (cA : Nat → ClassId) (a : Nat → Nat) (B : BK) (mb : Nat) (br : Nat) (am : Int32) (hmb : mb < 6) (hbr : br < 6) : Met l yX0_addPledge wsX0_addPledge (zrm 3 66) (zPc D cA [.ref (a 0), .int (nI mb), .int (nI br), .int am] (bkW (cA 0) a B)) (zM D (bkW (cA 0) a B) (bkW (cA 0) a ((f_X0_addPledge B mb br am).2)) (some (.int ((f_X0_addPledge B mb br am).1)))) 0 0 (zfr (bkW (cA 0) a B)) := by
  refine Met.ofW (cc := cX0_addPledge) (maxL := 5) (ret := (some .int)) (by decide) rfl ?_
  intro p e s m args below meth c s₁ Bd hml hv
  obtain ⟨rfl, hP, hK, hD0⟩ := hv
  have hx := Bd.exec
  have hb := Bd.bytes
  have hr := Bd.returns
  have hts := atoms_spec (ws := wsX0_addPledge) Bd.pre
  have hown : s.vm.findClass RX0 = some m.cls := findClass_of_methodNamed Bd.named
  have hlocks := Bd.notSynchronized
  have hD := z_Dfr hD0
  have hS : va_S (zfr (bkW (cA 0) a B)) s.heap s.heap [] := va_S.rf
  have hi0 : ∀ w ∈ wsX00, w ∈ wsX0_addPledge := fun w h => List.mem_cons_of_mem _ (List.mem_append_right _ h)
  have hl := lv_entry ([.ref (a 0), .int (nI mb), .int (nI br), .int am]) (n := 5) (Nat.le_of_ble_eq_true rfl)
  rw [lg_entry_eq]
  generalize (lg_sl ([.ref (a 0), .int (nI mb), .int (nI br), .int am]) ++ List.replicate (5 - (lg_sl ([.ref (a 0), .int (nI mb), .int (nI br), .int am])).length) Slot.unset).toArray = ls at hl ⊢
  have hl : lv_has ls 5 [(0, .ref (a 0)), (1, .int (nI mb)), (2, .int (nI br)), (3, .int am)] := hl
  refine lv_iload_n hx hb dX0_addPledge_0 rfl (lv_at hl 3 rfl) ?_
  refine lv_aload_n hx hb dX0_addPledge_1 rfl (lv_at hl 0 rfl) ?_
  refine lv_iload_n hx hb dX0_addPledge_2 rfl (lv_at hl 1 rfl) ?_
  refine z_E (va_runV (As := [.int (nI mb)]) (rest := [.int am]) ⟨hx, hb, hml, hown, hts⟩ (zc_X0_freeShares l D cA a B mb (by omega)) (cwV 1 hts gX0_addPledge_X0_freeShares rfl rfl rfl zy_X0_freeShares ⟨Nat.le_of_ble_eq_true rfl, Nat.le_of_ble_eq_true rfl⟩) (z_preV (ci := 0) hK hP hD rfl rfl) rfl rfl hl.1 rfl (lv_room (Nat.le_of_ble_eq_true rfl)) dX0_addPledge_3 ⟨Nat.zero_le _, Nat.zero_le _⟩) rfl ?_
  refine lv_icmp_le (tgt := 21) hx hb dX0_addPledge_6 (by decide) (fun c_1 => ?_) (fun c_1 => ?_)
  · refine lv_iload_n hx hb dX0_addPledge_21 rfl (lv_at hl 1 rfl) ?_
    refine lv_iload_n hx hb dX0_addPledge_22 rfl (lv_at hl 2 rfl) ?_
    refine z_E (va_runS (As := [.int (nI mb), .int (nI br)]) (rest := []) ⟨hx, hb, hml, hown, hts⟩ (zc_X0_place l D cA mb br (by omega) (by omega)) (va_cwS 2 hts gX0_addPledge_X0_place rfl rfl rfl zy_X0_place.2 ⟨Nat.le_of_ble_eq_true rfl, Nat.le_of_ble_eq_true rfl⟩) (z_preS hK z_P0 (z_D0 (A := fun _ => True))) rfl rfl hl.1 rfl (lv_room (Nat.le_of_ble_eq_true rfl)) dX0_addPledge_23 ⟨Nat.zero_le _, Nat.zero_le _⟩) rfl ?_
    refine z_top (y := nI (mb * 6 + br)) rfl ?_
    refine lv_istore (lv' := [(4, .int (nI (mb * 6 + br))), (0, .ref (a 0)), (1, .int (nI mb)), (2, .int (nI br)), (3, .int am)]) hx hb dX0_addPledge_26 hl (by decide) rfl (fun ls hl => ?_)
    refine lv_aload_n hx hb dX0_addPledge_28 rfl (lv_at hl 1 rfl) ?_
    refine va_get (D := D) (ci := 0) (v := .ref (a 3)) (C := RX0) (T := TX0) (N := 16) hx hb hts hi0 hown hK hP 0 rfl rfl 2 (by decide) (hts (.fieldLink RX0 18 "PledgedLoans$Books" "pledges" "[I") (List.mem_of_getElem? (i := 2) rfl)) (fun _ h9 => h9) rfl dX0_addPledge_29 ?_
    refine lv_iload hx hb dX0_addPledge_32 (lv_at hl 0 rfl) ?_
    refine lv_dup2_11 hx hb dX0_addPledge_34 rfl rfl ?_
    refine z_iald (j := mb * 6 + br) hx hb hK hP 3 0 rfl rfl dX0_addPledge_35 (by omega) (by decide) ?_
    refine lv_iload_n hx hb dX0_addPledge_36 rfl (lv_at hl 4 rfl) ?_
    refine lv_iadd hx hb dX0_addPledge_37 ?_
    refine z_iast (j := mb * 6 + br) hx hb hK hP hD hS 3 0 rfl rfl dX0_addPledge_38 (by omega) (by decide) (bkW (cA 0) a (uB B 2 (mb * 6 + br) ((B 2 (mb * 6 + br)) + am))) rfl (fun H locs hP hD hS => ?_)
    refine lv_aload_n hx hb dX0_addPledge_39 rfl (lv_at hl 1 rfl) ?_
    refine va_get (D := D) (ci := 0) (v := .ref (a 3)) (C := RX0) (T := TX0) (N := 16) hx hb hts hi0 hown hK hP 0 rfl rfl 2 (by decide) (hts (.fieldLink RX0 18 "PledgedLoans$Books" "pledges" "[I") (List.mem_of_getElem? (i := 2) rfl)) (fun _ h9 => h9) rfl dX0_addPledge_40 ?_
    refine lv_iload hx hb dX0_addPledge_43 (lv_at hl 0 rfl) ?_
    refine z_iald (j := mb * 6 + br) hx hb hK hP 3 0 rfl rfl dX0_addPledge_45 (by omega) (by decide) ?_
    exact z_iretM (w1 := bkW (cA 0) a (uB B 2 (mb * 6 + br) ((B 2 (mb * 6 + br)) + am))) hx hb hr hlocks dX0_addPledge_46 hP hS (by simp only [f_X0_addPledge, if_pos c_1]) (by simp only [f_X0_addPledge, if_pos c_1])
  · refine lv_aload_n hx hb dX0_addPledge_9 rfl (lv_at hl 0 rfl) ?_
    refine lv_dup hx hb dX0_addPledge_10 rfl ?_
    refine va_get (D := D) (ci := 0) (v := .int (B 8 6)) (C := RX0) (T := TX0) (N := 16) hx hb hts hi0 hown hK hP 0 rfl rfl 14 (by decide) (hts (.fieldLink RX0 59 "PledgedLoans$Books" "refused" "I") (List.mem_of_getElem? (i := 1) rfl)) (fun _ h9 => h9) rfl dX0_addPledge_11 ?_
    refine lv_iconst (v := 1) hx hb dX0_addPledge_14 (by decide) ?_
    refine lv_iadd hx hb dX0_addPledge_15 ?_
    refine va_put (D := D) (ci := 0) (v := .int ((B 8 6) + 1)) (ty := .int) (C := RX0) (T := TX0) (N := 16) hx hb hts hi0 tyX0 tyX0_ok nmX0 hown hK hP hD hS 0 rfl rfl 14 (by decide) (hts (.fieldLink RX0 59 "PledgedLoans$Books" "refused" "I") (List.mem_of_getElem? (i := 1) rfl)) (fun _ h9 => h9) rfl (by decide +kernel) rfl rfl (Nat.le_of_ble_eq_true rfl) dX0_addPledge_16 (fun H locs hP hD hS => ?_)
    have hP : va_P D vwCl (bkW (cA 0) a (uB B 8 6 ((B 8 6) + 1))) H := hP
    have hD : va_D _ (bkW (cA 0) a (uB B 8 6 ((B 8 6) + 1))) := hD
    refine lv_iconst (v := (-1)) hx hb dX0_addPledge_19 (by decide) ?_
    exact z_iretM (w1 := bkW (cA 0) a (uB B 8 6 ((B 8 6) + 1))) hx hb hr hlocks dX0_addPledge_20 hP hS (by simp only [f_X0_addPledge, if_neg c_1]) (by simp only [f_X0_addPledge, if_neg c_1])

theorem zy_X0_dropPledge : yX0_dropPledge.cls = RX0 ∧ yX0_dropPledge.cls ≠ "java/lang/invoke/MethodHandle" ∧ yX0_dropPledge.cls ≠ "java/lang/invoke/VarHandle" ∧ (parseMethodDescriptor yX0_dropPledge.desc).map (fun d => d.parameters.length) = some 3 := by decide +kernel
def f_X0_dropPledge (B : BK) (mb : Nat) (br : Nat) (am : Int32) : Int32 × BK :=
  if am ≤ (B 2 (mb * 6 + br)) then
    if (B 3 br) ≤ ((f_X0_cover B br) - am) then
      (0, uB B 2 (mb * 6 + br) ((B 2 (mb * 6 + br)) - am))
    else
      (2, uB B 8 6 ((B 8 6) + 1))
  else
    (1, uB B 8 6 ((B 8 6) + 1))

set_option maxHeartbeats 4000000 in
set_option maxRecDepth 100000 in
theorem zc_X0_dropPledge (l : Launch) (D : va_G) (cA : Nat → ClassId) (a : Nat → Nat) (B : BK) (mb : Nat) (br : Nat) (am : Int32) (hmb : mb < 6) (hbr : br < 6) : Met l yX0_dropPledge wsX0_dropPledge (zrm 3 66) (zPc D cA [.ref (a 0), .int (nI mb), .int (nI br), .int am] (bkW (cA 0) a B)) (zM D (bkW (cA 0) a B) (bkW (cA 0) a ((f_X0_dropPledge B mb br am).2)) (some (.int ((f_X0_dropPledge B mb br am).1)))) 0 0 (zfr (bkW (cA 0) a B)) := by
  refine Met.ofW (cc := cX0_dropPledge) (maxL := 5) (ret := (some .int)) (by decide) rfl ?_
  intro p e s m args below meth c s₁ Bd hml hv
  obtain ⟨rfl, hP, hK, hD0⟩ := hv
  have hx := Bd.exec
  have hb := Bd.bytes
  have hr := Bd.returns
  have hts := atoms_spec (ws := wsX0_dropPledge) Bd.pre
  have hown : s.vm.findClass RX0 = some m.cls := findClass_of_methodNamed Bd.named
  have hlocks := Bd.notSynchronized
  have hD := z_Dfr hD0
  have hS : va_S (zfr (bkW (cA 0) a B)) s.heap s.heap [] := va_S.rf
  have hi0 : ∀ w ∈ wsX00, w ∈ wsX0_dropPledge := fun w h => List.mem_cons_of_mem _ (List.mem_append_right _ h)
  have hl := lv_entry ([.ref (a 0), .int (nI mb), .int (nI br), .int am]) (n := 5) (Nat.le_of_ble_eq_true rfl)
  rw [lg_entry_eq]
  generalize (lg_sl ([.ref (a 0), .int (nI mb), .int (nI br), .int am]) ++ List.replicate (5 - (lg_sl ([.ref (a 0), .int (nI mb), .int (nI br), .int am])).length) Slot.unset).toArray = ls at hl ⊢
  have hl : lv_has ls 5 [(0, .ref (a 0)), (1, .int (nI mb)), (2, .int (nI br)), (3, .int am)] := hl
  refine lv_iload_n hx hb dX0_dropPledge_0 rfl (lv_at hl 1 rfl) ?_
  refine lv_iload_n hx hb dX0_dropPledge_1 rfl (lv_at hl 2 rfl) ?_
  refine z_E (va_runS (As := [.int (nI mb), .int (nI br)]) (rest := []) ⟨hx, hb, hml, hown, hts⟩ (zc_X0_place l D cA mb br (by omega) (by omega)) (va_cwS 2 hts gX0_dropPledge_X0_place rfl rfl rfl zy_X0_place.2 ⟨Nat.le_of_ble_eq_true rfl, Nat.le_of_ble_eq_true rfl⟩) (z_preS hK z_P0 (z_D0 (A := fun _ => True))) rfl rfl hl.1 rfl (lv_room (Nat.le_of_ble_eq_true rfl)) dX0_dropPledge_2 ⟨Nat.zero_le _, Nat.zero_le _⟩) rfl ?_
  refine z_top (y := nI (mb * 6 + br)) rfl ?_
  refine lv_istore (lv' := [(4, .int (nI (mb * 6 + br))), (0, .ref (a 0)), (1, .int (nI mb)), (2, .int (nI br)), (3, .int am)]) hx hb dX0_dropPledge_5 hl (by decide) rfl (fun ls hl => ?_)
  refine lv_iload_n hx hb dX0_dropPledge_7 rfl (lv_at hl 4 rfl) ?_
  refine lv_aload_n hx hb dX0_dropPledge_8 rfl (lv_at hl 1 rfl) ?_
  refine va_get (D := D) (ci := 0) (v := .ref (a 3)) (C := RX0) (T := TX0) (N := 16) hx hb hts hi0 hown hK hP 0 rfl rfl 2 (by decide) (hts (.fieldLink RX0 18 "PledgedLoans$Books" "pledges" "[I") (List.mem_of_getElem? (i := 1) rfl)) (fun _ h9 => h9) rfl dX0_dropPledge_9 ?_
  refine lv_iload hx hb dX0_dropPledge_12 (lv_at hl 0 rfl) ?_
  refine z_iald (j := mb * 6 + br) hx hb hK hP 3 0 rfl rfl dX0_dropPledge_14 (by omega) (by decide) ?_
  refine lv_icmp_le (tgt := 30) hx hb dX0_dropPledge_15 (by decide) (fun c_1 => ?_) (fun c_1 => ?_)
  · refine lv_aload_n hx hb dX0_dropPledge_30 rfl (lv_at hl 1 rfl) ?_
    refine lv_iload_n hx hb dX0_dropPledge_31 rfl (lv_at hl 3 rfl) ?_
    refine z_E (va_runV (As := [.int (nI br)]) (rest := []) ⟨hx, hb, hml, hown, hts⟩ (zc_X0_cover l D cA a B br (by omega)) (cwV 1 hts gX0_dropPledge_X0_cover rfl rfl rfl zy_X0_cover ⟨Nat.le_of_ble_eq_true rfl, Nat.le_of_ble_eq_true rfl⟩) (z_preV (ci := 0) hK hP hD rfl rfl) rfl rfl hl.1 rfl (lv_room (Nat.le_of_ble_eq_true rfl)) dX0_dropPledge_32 ⟨Nat.zero_le _, Nat.zero_le _⟩) rfl ?_
    refine lv_iload_n hx hb dX0_dropPledge_35 rfl (lv_at hl 4 rfl) ?_
    refine lv_isub hx hb dX0_dropPledge_36 ?_
    refine lv_aload_n hx hb dX0_dropPledge_37 rfl (lv_at hl 1 rfl) ?_
    refine va_get (D := D) (ci := 0) (v := .ref (a 4)) (C := RX0) (T := TX0) (N := 16) hx hb hts hi0 hown hK hP 0 rfl rfl 3 (by decide) (hts (.fieldLink RX0 21 "PledgedLoans$Books" "rest" "[I") (List.mem_of_getElem? (i := 3) rfl)) (fun _ h9 => h9) rfl dX0_dropPledge_38 ?_
    refine lv_iload_n hx hb dX0_dropPledge_41 rfl (lv_at hl 3 rfl) ?_
    refine z_iald (j := br) hx hb hK hP 4 0 rfl rfl dX0_dropPledge_42 (by omega) (by decide) ?_
    refine lv_icmp_ge (tgt := 58) hx hb dX0_dropPledge_43 (by decide) (fun c_2 => ?_) (fun c_2 => ?_)
    · refine lv_aload_n hx hb dX0_dropPledge_58 rfl (lv_at hl 1 rfl) ?_
      refine va_get (D := D) (ci := 0) (v := .ref (a 3)) (C := RX0) (T := TX0) (N := 16) hx hb hts hi0 hown hK hP 0 rfl rfl 2 (by decide) (hts (.fieldLink RX0 18 "PledgedLoans$Books" "pledges" "[I") (List.mem_of_getElem? (i := 1) rfl)) (fun _ h9 => h9) rfl dX0_dropPledge_59 ?_
      refine lv_iload hx hb dX0_dropPledge_62 (lv_at hl 0 rfl) ?_
      refine lv_dup2_11 hx hb dX0_dropPledge_64 rfl rfl ?_
      refine z_iald (j := mb * 6 + br) hx hb hK hP 3 0 rfl rfl dX0_dropPledge_65 (by omega) (by decide) ?_
      refine lv_iload_n hx hb dX0_dropPledge_66 rfl (lv_at hl 4 rfl) ?_
      refine lv_isub hx hb dX0_dropPledge_67 ?_
      refine z_iast (j := mb * 6 + br) hx hb hK hP hD hS 3 0 rfl rfl dX0_dropPledge_68 (by omega) (by decide) (bkW (cA 0) a (uB B 2 (mb * 6 + br) ((B 2 (mb * 6 + br)) - am))) rfl (fun H locs hP hD hS => ?_)
      refine lv_iconst (v := 0) hx hb dX0_dropPledge_69 (by decide) ?_
      exact z_iretM (w1 := bkW (cA 0) a (uB B 2 (mb * 6 + br) ((B 2 (mb * 6 + br)) - am))) hx hb hr hlocks dX0_dropPledge_70 hP hS (by simp only [f_X0_dropPledge, if_pos c_1, if_pos c_2]) (by simp only [f_X0_dropPledge, if_pos c_1, if_pos c_2])
    · refine lv_aload_n hx hb dX0_dropPledge_46 rfl (lv_at hl 1 rfl) ?_
      refine lv_dup hx hb dX0_dropPledge_47 rfl ?_
      refine va_get (D := D) (ci := 0) (v := .int (B 8 6)) (C := RX0) (T := TX0) (N := 16) hx hb hts hi0 hown hK hP 0 rfl rfl 14 (by decide) (hts (.fieldLink RX0 59 "PledgedLoans$Books" "refused" "I") (List.mem_of_getElem? (i := 2) rfl)) (fun _ h9 => h9) rfl dX0_dropPledge_48 ?_
      refine lv_iconst (v := 1) hx hb dX0_dropPledge_51 (by decide) ?_
      refine lv_iadd hx hb dX0_dropPledge_52 ?_
      refine va_put (D := D) (ci := 0) (v := .int ((B 8 6) + 1)) (ty := .int) (C := RX0) (T := TX0) (N := 16) hx hb hts hi0 tyX0 tyX0_ok nmX0 hown hK hP hD hS 0 rfl rfl 14 (by decide) (hts (.fieldLink RX0 59 "PledgedLoans$Books" "refused" "I") (List.mem_of_getElem? (i := 2) rfl)) (fun _ h9 => h9) rfl (by decide +kernel) rfl rfl (Nat.le_of_ble_eq_true rfl) dX0_dropPledge_53 (fun H locs hP hD hS => ?_)
      have hP : va_P D vwCl (bkW (cA 0) a (uB B 8 6 ((B 8 6) + 1))) H := hP
      have hD : va_D _ (bkW (cA 0) a (uB B 8 6 ((B 8 6) + 1))) := hD
      refine lv_iconst (v := 2) hx hb dX0_dropPledge_56 (by decide) ?_
      exact z_iretM (w1 := bkW (cA 0) a (uB B 8 6 ((B 8 6) + 1))) hx hb hr hlocks dX0_dropPledge_57 hP hS (by simp only [f_X0_dropPledge, if_pos c_1, if_neg c_2]) (by simp only [f_X0_dropPledge, if_pos c_1, if_neg c_2])
  · refine lv_aload_n hx hb dX0_dropPledge_18 rfl (lv_at hl 1 rfl) ?_
    refine lv_dup hx hb dX0_dropPledge_19 rfl ?_
    refine va_get (D := D) (ci := 0) (v := .int (B 8 6)) (C := RX0) (T := TX0) (N := 16) hx hb hts hi0 hown hK hP 0 rfl rfl 14 (by decide) (hts (.fieldLink RX0 59 "PledgedLoans$Books" "refused" "I") (List.mem_of_getElem? (i := 2) rfl)) (fun _ h9 => h9) rfl dX0_dropPledge_20 ?_
    refine lv_iconst (v := 1) hx hb dX0_dropPledge_23 (by decide) ?_
    refine lv_iadd hx hb dX0_dropPledge_24 ?_
    refine va_put (D := D) (ci := 0) (v := .int ((B 8 6) + 1)) (ty := .int) (C := RX0) (T := TX0) (N := 16) hx hb hts hi0 tyX0 tyX0_ok nmX0 hown hK hP hD hS 0 rfl rfl 14 (by decide) (hts (.fieldLink RX0 59 "PledgedLoans$Books" "refused" "I") (List.mem_of_getElem? (i := 2) rfl)) (fun _ h9 => h9) rfl (by decide +kernel) rfl rfl (Nat.le_of_ble_eq_true rfl) dX0_dropPledge_25 (fun H locs hP hD hS => ?_)
    have hP : va_P D vwCl (bkW (cA 0) a (uB B 8 6 ((B 8 6) + 1))) H := hP
    have hD : va_D _ (bkW (cA 0) a (uB B 8 6 ((B 8 6) + 1))) := hD
    refine lv_iconst (v := 1) hx hb dX0_dropPledge_28 (by decide) ?_
    exact z_iretM (w1 := bkW (cA 0) a (uB B 8 6 ((B 8 6) + 1))) hx hb hr hlocks dX0_dropPledge_29 hP hS (by simp only [f_X0_dropPledge, if_neg c_1]) (by simp only [f_X0_dropPledge, if_neg c_1])

theorem zy_X0_feeOf : yX0_feeOf.cls = RX0 ∧ yX0_feeOf.cls ≠ "java/lang/invoke/MethodHandle" ∧ yX0_feeOf.cls ≠ "java/lang/invoke/VarHandle" ∧ (parseMethodDescriptor yX0_feeOf.desc).map (fun d => d.parameters.length) = some 1 := by decide +kernel
def f_X0_feeOf (B : BK) (am : Int32) : Int32 :=
  (am * (B 7 0)) / 1000

set_option maxHeartbeats 4000000 in
set_option maxRecDepth 100000 in
theorem zc_X0_feeOf (l : Launch) (D : va_G) (cA : Nat → ClassId) (a : Nat → Nat) (B : BK) (am : Int32)  : Met l yX0_feeOf wsX0_feeOf (zrm 0 0) (zPc D cA [.ref (a 0), .int am] (bkW (cA 0) a B)) (zE (some (.int (f_X0_feeOf B am)))) 0 0 (fun _ => False) := by
  refine Met.ofW (cc := cX0_feeOf) (maxL := 2) (ret := (some .int)) (by decide) rfl ?_
  intro p e s m args below meth c s₁ Bd hml hv
  obtain ⟨rfl, hP, hK, hD0⟩ := hv
  have hx := Bd.exec
  have hb := Bd.bytes
  have hr := Bd.returns
  have hts := atoms_spec (ws := wsX0_feeOf) Bd.pre
  have hown : s.vm.findClass RX0 = some m.cls := findClass_of_methodNamed Bd.named
  have hlocks := Bd.notSynchronized
  have hD := z_Dfr hD0
  have hS : va_S (zfr (bkW (cA 0) a B)) s.heap s.heap [] := va_S.rf
  have hi0 : ∀ w ∈ wsX00, w ∈ wsX0_feeOf := fun w h => List.mem_cons_of_mem _ (List.mem_append_right _ h)
  have hl := lv_entry ([.ref (a 0), .int am]) (n := 2) (Nat.le_of_ble_eq_true rfl)
  rw [lg_entry_eq]
  generalize (lg_sl ([.ref (a 0), .int am]) ++ List.replicate (2 - (lg_sl ([.ref (a 0), .int am])).length) Slot.unset).toArray = ls at hl ⊢
  have hl : lv_has ls 2 [(0, .ref (a 0)), (1, .int am)] := hl
  refine lv_iload_n hx hb dX0_feeOf_0 rfl (lv_at hl 1 rfl) ?_
  refine lv_aload_n hx hb dX0_feeOf_1 rfl (lv_at hl 0 rfl) ?_
  refine va_get (D := D) (ci := 0) (v := .ref (a 8)) (C := RX0) (T := TX0) (N := 16) hx hb hts hi0 hown hK hP 0 rfl rfl 7 (by decide) (hts (.fieldLink RX0 33 "PledgedLoans$Books" "settings" "[I") (List.mem_of_getElem? (i := 1) rfl)) (fun _ h9 => h9) rfl dX0_feeOf_2 ?_
  refine lv_iconst (v := 0) hx hb dX0_feeOf_5 (by decide) ?_
  refine z_iald (j := 0) hx hb hK hP 8 0 rfl rfl dX0_feeOf_6 (by omega) (by decide) ?_
  refine lv_imul hx hb dX0_feeOf_7 ?_
  refine lv_sipush (v := 1000) hx hb dX0_feeOf_8 (by decide) ?_
  refine lv_idiv hx hb dX0_feeOf_11 (by decide) ?_
  exact z_iretE hx hb hr hlocks dX0_feeOf_12 (by first | (simp only [f_X0_feeOf]; done) | rfl)

theorem zy_X0_threefold : yX0_threefold.cls = RX0 ∧ yX0_threefold.cls ≠ "java/lang/invoke/MethodHandle" ∧ yX0_threefold.cls ≠ "java/lang/invoke/VarHandle" ∧ (parseMethodDescriptor yX0_threefold.desc).map (fun d => d.parameters.length) = some 1 := by decide +kernel
def f_X0_threefold (B : BK) (mb : Nat) : Int32 :=
  3 * (B 0 mb)

set_option maxHeartbeats 4000000 in
set_option maxRecDepth 100000 in
theorem zc_X0_threefold (l : Launch) (D : va_G) (cA : Nat → ClassId) (a : Nat → Nat) (B : BK) (mb : Nat) (hmb : mb < 6) : Met l yX0_threefold wsX0_threefold (zrm 0 0) (zPc D cA [.ref (a 0), .int (nI mb)] (bkW (cA 0) a B)) (zE (some (.int (f_X0_threefold B mb)))) 0 0 (fun _ => False) := by
  refine Met.ofW (cc := cX0_threefold) (maxL := 2) (ret := (some .int)) (by decide) rfl ?_
  intro p e s m args below meth c s₁ Bd hml hv
  obtain ⟨rfl, hP, hK, hD0⟩ := hv
  have hx := Bd.exec
  have hb := Bd.bytes
  have hr := Bd.returns
  have hts := atoms_spec (ws := wsX0_threefold) Bd.pre
  have hown : s.vm.findClass RX0 = some m.cls := findClass_of_methodNamed Bd.named
  have hlocks := Bd.notSynchronized
  have hD := z_Dfr hD0
  have hS : va_S (zfr (bkW (cA 0) a B)) s.heap s.heap [] := va_S.rf
  have hi0 : ∀ w ∈ wsX00, w ∈ wsX0_threefold := fun w h => List.mem_cons_of_mem _ (List.mem_append_right _ h)
  have hl := lv_entry ([.ref (a 0), .int (nI mb)]) (n := 2) (Nat.le_of_ble_eq_true rfl)
  rw [lg_entry_eq]
  generalize (lg_sl ([.ref (a 0), .int (nI mb)]) ++ List.replicate (2 - (lg_sl ([.ref (a 0), .int (nI mb)])).length) Slot.unset).toArray = ls at hl ⊢
  have hl : lv_has ls 2 [(0, .ref (a 0)), (1, .int (nI mb))] := hl
  refine lv_iconst (v := 3) hx hb dX0_threefold_0 (by decide) ?_
  refine lv_aload_n hx hb dX0_threefold_1 rfl (lv_at hl 0 rfl) ?_
  refine va_get (D := D) (ci := 0) (v := .ref (a 1)) (C := RX0) (T := TX0) (N := 16) hx hb hts hi0 hown hK hP 0 rfl rfl 0 (by decide) (hts (.fieldLink RX0 9 "PledgedLoans$Books" "shares" "[I") (List.mem_of_getElem? (i := 1) rfl)) (fun _ h9 => h9) rfl dX0_threefold_2 ?_
  refine lv_iload_n hx hb dX0_threefold_5 rfl (lv_at hl 1 rfl) ?_
  refine z_iald (j := mb) hx hb hK hP 1 0 rfl rfl dX0_threefold_6 (by omega) (by decide) ?_
  refine lv_imul hx hb dX0_threefold_7 ?_
  exact z_iretE hx hb hr hlocks dX0_threefold_8 (by first | (simp only [f_X0_threefold]; done) | rfl)

theorem zy_X0_whyAbove : yX0_whyAbove.cls = RX0 ∧ yX0_whyAbove.cls ≠ "java/lang/invoke/MethodHandle" ∧ yX0_whyAbove.cls ≠ "java/lang/invoke/VarHandle" ∧ (parseMethodDescriptor yX0_whyAbove.desc).map (fun d => d.parameters.length) = some 3 := by decide +kernel
def f_X0_whyAbove (B : BK) (th : Int32) (cv : Int32) (am : Int32) : Int32 :=
  if am ≤ th then
    if am ≤ cv then
      if (am - (f_X0_feeOf B am)) ≤ (B 8 0) then
        0
      else
        4
    else
      3
  else
    2

set_option maxHeartbeats 4000000 in
set_option maxRecDepth 100000 in
theorem zc_X0_whyAbove (l : Launch) (D : va_G) (cA : Nat → ClassId) (a : Nat → Nat) (B : BK) (th : Int32) (cv : Int32) (am : Int32)  : Met l yX0_whyAbove wsX0_whyAbove (zrm 1 21) (zPc D cA [.ref (a 0), .int th, .int cv, .int am] (bkW (cA 0) a B)) (zE (some (.int (f_X0_whyAbove B th cv am)))) 0 0 (fun _ => False) := by
  refine Met.ofW (cc := cX0_whyAbove) (maxL := 4) (ret := (some .int)) (by decide) rfl ?_
  intro p e s m args below meth c s₁ Bd hml hv
  obtain ⟨rfl, hP, hK, hD0⟩ := hv
  have hx := Bd.exec
  have hb := Bd.bytes
  have hr := Bd.returns
  have hts := atoms_spec (ws := wsX0_whyAbove) Bd.pre
  have hown : s.vm.findClass RX0 = some m.cls := findClass_of_methodNamed Bd.named
  have hlocks := Bd.notSynchronized
  have hD := z_Dfr hD0
  have hS : va_S (zfr (bkW (cA 0) a B)) s.heap s.heap [] := va_S.rf
  have hi0 : ∀ w ∈ wsX00, w ∈ wsX0_whyAbove := fun w h => List.mem_cons_of_mem _ (List.mem_append_right _ h)
  have hl := lv_entry ([.ref (a 0), .int th, .int cv, .int am]) (n := 4) (Nat.le_of_ble_eq_true rfl)
  rw [lg_entry_eq]
  generalize (lg_sl ([.ref (a 0), .int th, .int cv, .int am]) ++ List.replicate (4 - (lg_sl ([.ref (a 0), .int th, .int cv, .int am])).length) Slot.unset).toArray = ls at hl ⊢
  have hl : lv_has ls 4 [(0, .ref (a 0)), (1, .int th), (2, .int cv), (3, .int am)] := hl
  refine lv_iload_n hx hb dX0_whyAbove_0 rfl (lv_at hl 3 rfl) ?_
  refine lv_iload_n hx hb dX0_whyAbove_1 rfl (lv_at hl 1 rfl) ?_
  refine lv_icmp_le (tgt := 7) hx hb dX0_whyAbove_2 (by decide) (fun c_1 => ?_) (fun c_1 => ?_)
  · refine lv_iload_n hx hb dX0_whyAbove_7 rfl (lv_at hl 3 rfl) ?_
    refine lv_iload_n hx hb dX0_whyAbove_8 rfl (lv_at hl 2 rfl) ?_
    refine lv_icmp_le (tgt := 14) hx hb dX0_whyAbove_9 (by decide) (fun c_2 => ?_) (fun c_2 => ?_)
    · refine lv_aload_n hx hb dX0_whyAbove_14 rfl (lv_at hl 0 rfl) ?_
      refine va_get (D := D) (ci := 0) (v := .int (B 8 0)) (C := RX0) (T := TX0) (N := 16) hx hb hts hi0 hown hK hP 0 rfl rfl 8 (by decide) (hts (.fieldLink RX0 40 "PledgedLoans$Books" "till" "I") (List.mem_of_getElem? (i := 1) rfl)) (fun _ h9 => h9) rfl dX0_whyAbove_15 ?_
      refine lv_iload_n hx hb dX0_whyAbove_18 rfl (lv_at hl 3 rfl) ?_
      refine lv_aload_n hx hb dX0_whyAbove_19 rfl (lv_at hl 0 rfl) ?_
      refine lv_iload_n hx hb dX0_whyAbove_20 rfl (lv_at hl 3 rfl) ?_
      refine z_E (va_runV (As := [.int am]) (rest := [.int am, .int (B 8 0)]) ⟨hx, hb, hml, hown, hts⟩ (zc_X0_feeOf l D cA a B am) (cwV 1 hts gX0_whyAbove_X0_feeOf rfl rfl rfl zy_X0_feeOf ⟨Nat.le_of_ble_eq_true rfl, Nat.le_of_ble_eq_true rfl⟩) (z_preV (ci := 0) hK hP hD rfl rfl) rfl rfl hl.1 rfl (lv_room (Nat.le_of_ble_eq_true rfl)) dX0_whyAbove_21 ⟨Nat.zero_le _, Nat.zero_le _⟩) rfl ?_
      refine lv_isub hx hb dX0_whyAbove_24 ?_
      refine lv_icmp_ge (tgt := 32) hx hb dX0_whyAbove_25 (by decide) (fun c_3 => ?_) (fun c_3 => ?_)
      · refine lv_iconst (v := 0) hx hb dX0_whyAbove_32 (by decide) ?_
        exact z_iretE hx hb hr hlocks dX0_whyAbove_33 (by simp only [f_X0_whyAbove, if_pos c_1, if_pos c_2, if_pos c_3])
      · refine lv_iconst (v := 4) hx hb dX0_whyAbove_28 (by decide) ?_
        refine lv_goto (tgt := 33) hx hb dX0_whyAbove_29 (by decide) ?_
        exact z_iretE hx hb hr hlocks dX0_whyAbove_33 (by simp only [f_X0_whyAbove, if_pos c_1, if_pos c_2, if_neg c_3])
    · refine lv_iconst (v := 3) hx hb dX0_whyAbove_12 (by decide) ?_
      exact z_iretE hx hb hr hlocks dX0_whyAbove_13 (by simp only [f_X0_whyAbove, if_pos c_1, if_neg c_2])
  · refine lv_iconst (v := 2) hx hb dX0_whyAbove_5 (by decide) ?_
    exact z_iretE hx hb hr hlocks dX0_whyAbove_6 (by simp only [f_X0_whyAbove, if_neg c_1])

theorem zy_X0_whyNoLoan : yX0_whyNoLoan.cls = RX0 ∧ yX0_whyNoLoan.cls ≠ "java/lang/invoke/MethodHandle" ∧ yX0_whyNoLoan.cls ≠ "java/lang/invoke/VarHandle" ∧ (parseMethodDescriptor yX0_whyNoLoan.desc).map (fun d => d.parameters.length) = some 2 := by decide +kernel
def f_X0_whyNoLoan (B : BK) (mb : Nat) (am : Int32) : Int32 :=
  if (f_X0_hasLoan B mb) = 0 then
    f_X0_whyAbove B (f_X0_threefold B mb) (f_X0_cover B mb) am
  else
    1

set_option maxHeartbeats 4000000 in
set_option maxRecDepth 100000 in
theorem zc_X0_whyNoLoan (l : Launch) (D : va_G) (cA : Nat → ClassId) (a : Nat → Nat) (B : BK) (mb : Nat) (am : Int32) (hmb : mb < 6) : Met l yX0_whyNoLoan wsX0_whyNoLoan (zrm 3 66) (zPc D cA [.ref (a 0), .int (nI mb), .int am] (bkW (cA 0) a B)) (zE (some (.int (f_X0_whyNoLoan B mb am)))) 0 0 (fun _ => False) := by
  refine Met.ofW (cc := cX0_whyNoLoan) (maxL := 3) (ret := (some .int)) (by decide) rfl ?_
  intro p e s m args below meth c s₁ Bd hml hv
  obtain ⟨rfl, hP, hK, hD0⟩ := hv
  have hx := Bd.exec
  have hb := Bd.bytes
  have hr := Bd.returns
  have hts := atoms_spec (ws := wsX0_whyNoLoan) Bd.pre
  have hown : s.vm.findClass RX0 = some m.cls := findClass_of_methodNamed Bd.named
  have hlocks := Bd.notSynchronized
  have hD := z_Dfr hD0
  have hS : va_S (zfr (bkW (cA 0) a B)) s.heap s.heap [] := va_S.rf
  have hi0 : ∀ w ∈ wsX00, w ∈ wsX0_whyNoLoan := fun w h => List.mem_cons_of_mem _ (List.mem_append_right _ h)
  have hl := lv_entry ([.ref (a 0), .int (nI mb), .int am]) (n := 3) (Nat.le_of_ble_eq_true rfl)
  rw [lg_entry_eq]
  generalize (lg_sl ([.ref (a 0), .int (nI mb), .int am]) ++ List.replicate (3 - (lg_sl ([.ref (a 0), .int (nI mb), .int am])).length) Slot.unset).toArray = ls at hl ⊢
  have hl : lv_has ls 3 [(0, .ref (a 0)), (1, .int (nI mb)), (2, .int am)] := hl
  refine lv_aload_n hx hb dX0_whyNoLoan_0 rfl (lv_at hl 0 rfl) ?_
  refine lv_iload_n hx hb dX0_whyNoLoan_1 rfl (lv_at hl 1 rfl) ?_
  refine z_E (va_runV (As := [.int (nI mb)]) (rest := []) ⟨hx, hb, hml, hown, hts⟩ (zc_X0_hasLoan l D cA a B mb (by omega)) (cwV 1 hts gX0_whyNoLoan_X0_hasLoan rfl rfl rfl zy_X0_hasLoan ⟨Nat.le_of_ble_eq_true rfl, Nat.le_of_ble_eq_true rfl⟩) (z_preV (ci := 0) hK hP hD rfl rfl) rfl rfl hl.1 rfl (lv_room (Nat.le_of_ble_eq_true rfl)) dX0_whyNoLoan_2 ⟨Nat.zero_le _, Nat.zero_le _⟩) rfl ?_
  refine lv_if_eq (tgt := 10) hx hb dX0_whyNoLoan_5 (by decide) (fun c_1 => ?_) (fun c_1 => ?_)
  · refine lv_aload_n hx hb dX0_whyNoLoan_10 rfl (lv_at hl 0 rfl) ?_
    refine lv_aload_n hx hb dX0_whyNoLoan_11 rfl (lv_at hl 0 rfl) ?_
    refine lv_iload_n hx hb dX0_whyNoLoan_12 rfl (lv_at hl 1 rfl) ?_
    refine z_E (va_runV (As := [.int (nI mb)]) (rest := [.ref (a 0)]) ⟨hx, hb, hml, hown, hts⟩ (zc_X0_threefold l D cA a B mb (by omega)) (cwV 1 hts gX0_whyNoLoan_X0_threefold rfl rfl rfl zy_X0_threefold ⟨Nat.le_of_ble_eq_true rfl, Nat.le_of_ble_eq_true rfl⟩) (z_preV (ci := 0) hK hP hD rfl rfl) rfl rfl hl.1 rfl (lv_room (Nat.le_of_ble_eq_true rfl)) dX0_whyNoLoan_13 ⟨Nat.zero_le _, Nat.zero_le _⟩) rfl ?_
    refine lv_aload_n hx hb dX0_whyNoLoan_16 rfl (lv_at hl 0 rfl) ?_
    refine lv_iload_n hx hb dX0_whyNoLoan_17 rfl (lv_at hl 1 rfl) ?_
    refine z_E (va_runV (As := [.int (nI mb)]) (rest := [.int (f_X0_threefold B mb), .ref (a 0)]) ⟨hx, hb, hml, hown, hts⟩ (zc_X0_cover l D cA a B mb (by omega)) (cwV 1 hts gX0_whyNoLoan_X0_cover rfl rfl rfl zy_X0_cover ⟨Nat.le_of_ble_eq_true rfl, Nat.le_of_ble_eq_true rfl⟩) (z_preV (ci := 0) hK hP hD rfl rfl) rfl rfl hl.1 rfl (lv_room (Nat.le_of_ble_eq_true rfl)) dX0_whyNoLoan_18 ⟨Nat.zero_le _, Nat.zero_le _⟩) rfl ?_
    refine lv_iload_n hx hb dX0_whyNoLoan_21 rfl (lv_at hl 2 rfl) ?_
    refine z_E (va_runV (As := [.int (f_X0_threefold B mb), .int (f_X0_cover B mb), .int am]) (rest := []) ⟨hx, hb, hml, hown, hts⟩ (zc_X0_whyAbove l D cA a B (f_X0_threefold B mb) (f_X0_cover B mb) am) (cwV 3 hts gX0_whyNoLoan_X0_whyAbove rfl rfl rfl zy_X0_whyAbove ⟨Nat.le_of_ble_eq_true rfl, Nat.le_of_ble_eq_true rfl⟩) (z_preV (ci := 0) hK hP hD rfl rfl) rfl rfl hl.1 rfl (lv_room (Nat.le_of_ble_eq_true rfl)) dX0_whyNoLoan_22 ⟨Nat.zero_le _, Nat.zero_le _⟩) rfl ?_
    exact z_iretE hx hb hr hlocks dX0_whyNoLoan_25 (by simp only [f_X0_whyNoLoan, if_pos c_1])
  · refine lv_iconst (v := 1) hx hb dX0_whyNoLoan_8 (by decide) ?_
    exact z_iretE hx hb hr hlocks dX0_whyNoLoan_9 (by simp only [f_X0_whyNoLoan, if_neg c_1])

theorem zy_X0_lend : yX0_lend.cls = RX0 ∧ yX0_lend.cls ≠ "java/lang/invoke/MethodHandle" ∧ yX0_lend.cls ≠ "java/lang/invoke/VarHandle" ∧ (parseMethodDescriptor yX0_lend.desc).map (fun d => d.parameters.length) = some 3 := by decide +kernel
def f_X0_lend (B : BK) (mb : Nat) (am : Int32) (wk : Int32) : Int32 × BK :=
  if (f_X0_whyNoLoan B mb am) = 0 then
    let M_2 : BK := uB (uB B 8 0 ((B 8 0) - (am - (f_X0_feeOf B am)))) 8 1 (((uB B 8 0 ((B 8 0) - (am - (f_X0_feeOf B am)))) 8 1) + (f_X0_feeOf B am))
    let M_3 : BK := uB (uB (uB M_2 3 mb am) 4 mb (((am + wk) - 1) / wk)) 5 mb 0
    let M_4 : BK := uB (uB M_3 6 mb 0) 8 2 (((uB M_3 6 mb 0) 8 2) + 1)
    (0, M_4)
  else
    (f_X0_whyNoLoan B mb am, uB B 8 6 ((B 8 6) + 1))

set_option maxHeartbeats 4000000 in
set_option maxRecDepth 100000 in
theorem zc_X0_lend (l : Launch) (D : va_G) (cA : Nat → ClassId) (a : Nat → Nat) (B : BK) (mb : Nat) (am : Int32) (wk : Int32) (hmb : mb < 6) (hwk : ¬ wk = 0) : Met l yX0_lend wsX0_lend (zrm 4 88) (zPc D cA [.ref (a 0), .int (nI mb), .int am, .int wk] (bkW (cA 0) a B)) (zM D (bkW (cA 0) a B) (bkW (cA 0) a ((f_X0_lend B mb am wk).2)) (some (.int ((f_X0_lend B mb am wk).1)))) 0 0 (zfr (bkW (cA 0) a B)) := by
  refine Met.ofW (cc := cX0_lend) (maxL := 6) (ret := (some .int)) (by decide) rfl ?_
  intro p e s m args below meth c s₁ Bd hml hv
  obtain ⟨rfl, hP, hK, hD0⟩ := hv
  have hx := Bd.exec
  have hb := Bd.bytes
  have hr := Bd.returns
  have hts := atoms_spec (ws := wsX0_lend) Bd.pre
  have hown : s.vm.findClass RX0 = some m.cls := findClass_of_methodNamed Bd.named
  have hlocks := Bd.notSynchronized
  have hD := z_Dfr hD0
  have hS : va_S (zfr (bkW (cA 0) a B)) s.heap s.heap [] := va_S.rf
  have hi0 : ∀ w ∈ wsX00, w ∈ wsX0_lend := fun w h => List.mem_cons_of_mem _ (List.mem_append_right _ h)
  have hl := lv_entry ([.ref (a 0), .int (nI mb), .int am, .int wk]) (n := 6) (Nat.le_of_ble_eq_true rfl)
  rw [lg_entry_eq]
  generalize (lg_sl ([.ref (a 0), .int (nI mb), .int am, .int wk]) ++ List.replicate (6 - (lg_sl ([.ref (a 0), .int (nI mb), .int am, .int wk])).length) Slot.unset).toArray = ls at hl ⊢
  have hl : lv_has ls 6 [(0, .ref (a 0)), (1, .int (nI mb)), (2, .int am), (3, .int wk)] := hl
  refine lv_aload_n hx hb dX0_lend_0 rfl (lv_at hl 0 rfl) ?_
  refine lv_iload_n hx hb dX0_lend_1 rfl (lv_at hl 1 rfl) ?_
  refine lv_iload_n hx hb dX0_lend_2 rfl (lv_at hl 2 rfl) ?_
  refine z_E (va_runV (As := [.int (nI mb), .int am]) (rest := []) ⟨hx, hb, hml, hown, hts⟩ (zc_X0_whyNoLoan l D cA a B mb am (by omega)) (cwV 2 hts gX0_lend_X0_whyNoLoan rfl rfl rfl zy_X0_whyNoLoan ⟨Nat.le_of_ble_eq_true rfl, Nat.le_of_ble_eq_true rfl⟩) (z_preV (ci := 0) hK hP hD rfl rfl) rfl rfl hl.1 rfl (lv_room (Nat.le_of_ble_eq_true rfl)) dX0_lend_3 ⟨Nat.zero_le _, Nat.zero_le _⟩) rfl ?_
  refine lv_istore (lv' := [(4, .int (f_X0_whyNoLoan B mb am)), (0, .ref (a 0)), (1, .int (nI mb)), (2, .int am), (3, .int wk)]) hx hb dX0_lend_6 hl (by decide) rfl (fun ls hl => ?_)
  refine lv_iload hx hb dX0_lend_8 (lv_at hl 0 rfl) ?_
  refine lv_if_eq (tgt := 26) hx hb dX0_lend_10 (by decide) (fun c_1 => ?_) (fun c_1 => ?_)
  · refine lv_aload_n hx hb dX0_lend_26 rfl (lv_at hl 1 rfl) ?_
    refine lv_iload_n hx hb dX0_lend_27 rfl (lv_at hl 3 rfl) ?_
    refine z_E (va_runV (As := [.int am]) (rest := []) ⟨hx, hb, hml, hown, hts⟩ (zc_X0_feeOf l D cA a B am) (cwV 1 hts gX0_lend_X0_feeOf rfl rfl rfl zy_X0_feeOf ⟨Nat.le_of_ble_eq_true rfl, Nat.le_of_ble_eq_true rfl⟩) (z_preV (ci := 0) hK hP hD rfl rfl) rfl rfl hl.1 rfl (lv_room (Nat.le_of_ble_eq_true rfl)) dX0_lend_28 ⟨Nat.zero_le _, Nat.zero_le _⟩) rfl ?_
    refine lv_istore (lv' := [(5, .int (f_X0_feeOf B am)), (4, .int (f_X0_whyNoLoan B mb am)), (0, .ref (a 0)), (1, .int (nI mb)), (2, .int am), (3, .int wk)]) hx hb dX0_lend_31 hl (by decide) rfl (fun ls hl => ?_)
    refine lv_aload_n hx hb dX0_lend_33 rfl (lv_at hl 2 rfl) ?_
    refine lv_dup hx hb dX0_lend_34 rfl ?_
    refine va_get (D := D) (ci := 0) (v := .int (B 8 0)) (C := RX0) (T := TX0) (N := 16) hx hb hts hi0 hown hK hP 0 rfl rfl 8 (by decide) (hts (.fieldLink RX0 40 "PledgedLoans$Books" "till" "I") (List.mem_of_getElem? (i := 2) rfl)) (fun _ h9 => h9) rfl dX0_lend_35 ?_
    refine lv_iload_n hx hb dX0_lend_38 rfl (lv_at hl 4 rfl) ?_
    refine lv_iload hx hb dX0_lend_39 (lv_at hl 0 rfl) ?_
    refine lv_isub hx hb dX0_lend_41 ?_
    refine lv_isub hx hb dX0_lend_42 ?_
    refine va_put (D := D) (ci := 0) (v := .int ((B 8 0) - (am - (f_X0_feeOf B am)))) (ty := .int) (C := RX0) (T := TX0) (N := 16) hx hb hts hi0 tyX0 tyX0_ok nmX0 hown hK hP hD hS 0 rfl rfl 8 (by decide) (hts (.fieldLink RX0 40 "PledgedLoans$Books" "till" "I") (List.mem_of_getElem? (i := 2) rfl)) (fun _ h9 => h9) rfl (by decide +kernel) rfl rfl (Nat.le_of_ble_eq_true rfl) dX0_lend_43 (fun H locs hP hD hS => ?_)
    have hP : va_P D vwCl (bkW (cA 0) a (uB B 8 0 ((B 8 0) - (am - (f_X0_feeOf B am))))) H := hP
    have hD : va_D _ (bkW (cA 0) a (uB B 8 0 ((B 8 0) - (am - (f_X0_feeOf B am))))) := hD
    refine lv_aload_n hx hb dX0_lend_46 rfl (lv_at hl 2 rfl) ?_
    refine lv_dup hx hb dX0_lend_47 rfl ?_
    refine va_get (D := D) (ci := 0) (v := .int ((uB B 8 0 ((B 8 0) - (am - (f_X0_feeOf B am)))) 8 1)) (C := RX0) (T := TX0) (N := 16) hx hb hts hi0 hown hK hP 0 rfl rfl 9 (by decide) (hts (.fieldLink RX0 44 "PledgedLoans$Books" "surplus" "I") (List.mem_of_getElem? (i := 3) rfl)) (fun _ h9 => h9) rfl dX0_lend_48 ?_
    refine lv_iload hx hb dX0_lend_51 (lv_at hl 0 rfl) ?_
    refine lv_iadd hx hb dX0_lend_53 ?_
    refine va_put (D := D) (ci := 0) (v := .int (((uB B 8 0 ((B 8 0) - (am - (f_X0_feeOf B am)))) 8 1) + (f_X0_feeOf B am))) (ty := .int) (C := RX0) (T := TX0) (N := 16) hx hb hts hi0 tyX0 tyX0_ok nmX0 hown hK hP hD hS 0 rfl rfl 9 (by decide) (hts (.fieldLink RX0 44 "PledgedLoans$Books" "surplus" "I") (List.mem_of_getElem? (i := 3) rfl)) (fun _ h9 => h9) rfl (by decide +kernel) rfl rfl (Nat.le_of_ble_eq_true rfl) dX0_lend_54 (fun H locs hP hD hS => ?_)
    have hP : va_P D vwCl (bkW (cA 0) a (uB (uB B 8 0 ((B 8 0) - (am - (f_X0_feeOf B am)))) 8 1 (((uB B 8 0 ((B 8 0) - (am - (f_X0_feeOf B am)))) 8 1) + (f_X0_feeOf B am)))) H := hP
    have hD : va_D _ (bkW (cA 0) a (uB (uB B 8 0 ((B 8 0) - (am - (f_X0_feeOf B am)))) 8 1 (((uB B 8 0 ((B 8 0) - (am - (f_X0_feeOf B am)))) 8 1) + (f_X0_feeOf B am)))) := hD
    obtain ⟨M_2, eM_2⟩ : ∃ z9 : BK, z9 = uB (uB B 8 0 ((B 8 0) - (am - (f_X0_feeOf B am)))) 8 1 (((uB B 8 0 ((B 8 0) - (am - (f_X0_feeOf B am)))) 8 1) + (f_X0_feeOf B am)) := ⟨_, rfl⟩
    rw [← eM_2] at hP hD
    refine lv_aload_n hx hb dX0_lend_57 rfl (lv_at hl 2 rfl) ?_
    refine va_get (D := D) (ci := 0) (v := .ref (a 4)) (C := RX0) (T := TX0) (N := 16) hx hb hts hi0 hown hK hP 0 rfl rfl 3 (by decide) (hts (.fieldLink RX0 21 "PledgedLoans$Books" "rest" "[I") (List.mem_of_getElem? (i := 4) rfl)) (fun _ h9 => h9) rfl dX0_lend_58 ?_
    refine lv_iload_n hx hb dX0_lend_61 rfl (lv_at hl 3 rfl) ?_
    refine lv_iload_n hx hb dX0_lend_62 rfl (lv_at hl 4 rfl) ?_
    refine z_iast (j := mb) hx hb hK hP hD hS 4 0 rfl rfl dX0_lend_63 (by omega) (by decide) (bkW (cA 0) a (uB M_2 3 mb am)) rfl (fun H locs hP hD hS => ?_)
    refine lv_aload_n hx hb dX0_lend_64 rfl (lv_at hl 2 rfl) ?_
    refine va_get (D := D) (ci := 0) (v := .ref (a 5)) (C := RX0) (T := TX0) (N := 16) hx hb hts hi0 hown hK hP 0 rfl rfl 4 (by decide) (hts (.fieldLink RX0 24 "PledgedLoans$Books" "part" "[I") (List.mem_of_getElem? (i := 5) rfl)) (fun _ h9 => h9) rfl dX0_lend_65 ?_
    refine lv_iload_n hx hb dX0_lend_68 rfl (lv_at hl 3 rfl) ?_
    refine lv_iload_n hx hb dX0_lend_69 rfl (lv_at hl 4 rfl) ?_
    refine lv_iload_n hx hb dX0_lend_70 rfl (lv_at hl 5 rfl) ?_
    refine lv_iadd hx hb dX0_lend_71 ?_
    refine lv_iconst (v := 1) hx hb dX0_lend_72 (by decide) ?_
    refine lv_isub hx hb dX0_lend_73 ?_
    refine lv_iload_n hx hb dX0_lend_74 rfl (lv_at hl 5 rfl) ?_
    refine lv_idiv hx hb dX0_lend_75 hwk ?_
    refine z_iast (j := mb) hx hb hK hP hD hS 5 0 rfl rfl dX0_lend_76 (by omega) (by decide) (bkW (cA 0) a (uB (uB M_2 3 mb am) 4 mb (((am + wk) - 1) / wk))) rfl (fun H locs hP hD hS => ?_)
    refine lv_aload_n hx hb dX0_lend_77 rfl (lv_at hl 2 rfl) ?_
    refine va_get (D := D) (ci := 0) (v := .ref (a 6)) (C := RX0) (T := TX0) (N := 16) hx hb hts hi0 hown hK hP 0 rfl rfl 5 (by decide) (hts (.fieldLink RX0 27 "PledgedLoans$Books" "paid" "[I") (List.mem_of_getElem? (i := 6) rfl)) (fun _ h9 => h9) rfl dX0_lend_78 ?_
    refine lv_iload_n hx hb dX0_lend_81 rfl (lv_at hl 3 rfl) ?_
    refine lv_iconst (v := 0) hx hb dX0_lend_82 (by decide) ?_
    refine z_iast (j := mb) hx hb hK hP hD hS 6 0 rfl rfl dX0_lend_83 (by omega) (by decide) (bkW (cA 0) a (uB (uB (uB M_2 3 mb am) 4 mb (((am + wk) - 1) / wk)) 5 mb 0)) rfl (fun H locs hP hD hS => ?_)
    obtain ⟨M_3, eM_3⟩ : ∃ z9 : BK, z9 = uB (uB (uB M_2 3 mb am) 4 mb (((am + wk) - 1) / wk)) 5 mb 0 := ⟨_, rfl⟩
    rw [← eM_3] at hP hD
    refine lv_aload_n hx hb dX0_lend_84 rfl (lv_at hl 2 rfl) ?_
    refine va_get (D := D) (ci := 0) (v := .ref (a 7)) (C := RX0) (T := TX0) (N := 16) hx hb hts hi0 hown hK hP 0 rfl rfl 6 (by decide) (hts (.fieldLink RX0 30 "PledgedLoans$Books" "misses" "[I") (List.mem_of_getElem? (i := 7) rfl)) (fun _ h9 => h9) rfl dX0_lend_85 ?_
    refine lv_iload_n hx hb dX0_lend_88 rfl (lv_at hl 3 rfl) ?_
    refine lv_iconst (v := 0) hx hb dX0_lend_89 (by decide) ?_
    refine z_iast (j := mb) hx hb hK hP hD hS 7 0 rfl rfl dX0_lend_90 (by omega) (by decide) (bkW (cA 0) a (uB M_3 6 mb 0)) rfl (fun H locs hP hD hS => ?_)
    refine lv_aload_n hx hb dX0_lend_91 rfl (lv_at hl 2 rfl) ?_
    refine lv_dup hx hb dX0_lend_92 rfl ?_
    refine va_get (D := D) (ci := 0) (v := .int ((uB M_3 6 mb 0) 8 2)) (C := RX0) (T := TX0) (N := 16) hx hb hts hi0 hown hK hP 0 rfl rfl 10 (by decide) (hts (.fieldLink RX0 47 "PledgedLoans$Books" "loansGiven" "I") (List.mem_of_getElem? (i := 8) rfl)) (fun _ h9 => h9) rfl dX0_lend_93 ?_
    refine lv_iconst (v := 1) hx hb dX0_lend_96 (by decide) ?_
    refine lv_iadd hx hb dX0_lend_97 ?_
    refine va_put (D := D) (ci := 0) (v := .int (((uB M_3 6 mb 0) 8 2) + 1)) (ty := .int) (C := RX0) (T := TX0) (N := 16) hx hb hts hi0 tyX0 tyX0_ok nmX0 hown hK hP hD hS 0 rfl rfl 10 (by decide) (hts (.fieldLink RX0 47 "PledgedLoans$Books" "loansGiven" "I") (List.mem_of_getElem? (i := 8) rfl)) (fun _ h9 => h9) rfl (by decide +kernel) rfl rfl (Nat.le_of_ble_eq_true rfl) dX0_lend_98 (fun H locs hP hD hS => ?_)
    have hP : va_P D vwCl (bkW (cA 0) a (uB (uB M_3 6 mb 0) 8 2 (((uB M_3 6 mb 0) 8 2) + 1))) H := hP
    have hD : va_D _ (bkW (cA 0) a (uB (uB M_3 6 mb 0) 8 2 (((uB M_3 6 mb 0) 8 2) + 1))) := hD
    obtain ⟨M_4, eM_4⟩ : ∃ z9 : BK, z9 = uB (uB M_3 6 mb 0) 8 2 (((uB M_3 6 mb 0) 8 2) + 1) := ⟨_, rfl⟩
    rw [← eM_4] at hP hD
    refine lv_iconst (v := 0) hx hb dX0_lend_101 (by decide) ?_
    exact z_iretM (w1 := bkW (cA 0) a M_4) hx hb hr hlocks dX0_lend_102 hP hS (by subst eM_4 eM_3 eM_2; simp only [f_X0_lend, if_pos c_1]) (by subst eM_4 eM_3 eM_2; simp only [f_X0_lend, if_pos c_1])
  · refine lv_aload_n hx hb dX0_lend_13 rfl (lv_at hl 1 rfl) ?_
    refine lv_dup hx hb dX0_lend_14 rfl ?_
    refine va_get (D := D) (ci := 0) (v := .int (B 8 6)) (C := RX0) (T := TX0) (N := 16) hx hb hts hi0 hown hK hP 0 rfl rfl 14 (by decide) (hts (.fieldLink RX0 59 "PledgedLoans$Books" "refused" "I") (List.mem_of_getElem? (i := 1) rfl)) (fun _ h9 => h9) rfl dX0_lend_15 ?_
    refine lv_iconst (v := 1) hx hb dX0_lend_18 (by decide) ?_
    refine lv_iadd hx hb dX0_lend_19 ?_
    refine va_put (D := D) (ci := 0) (v := .int ((B 8 6) + 1)) (ty := .int) (C := RX0) (T := TX0) (N := 16) hx hb hts hi0 tyX0 tyX0_ok nmX0 hown hK hP hD hS 0 rfl rfl 14 (by decide) (hts (.fieldLink RX0 59 "PledgedLoans$Books" "refused" "I") (List.mem_of_getElem? (i := 1) rfl)) (fun _ h9 => h9) rfl (by decide +kernel) rfl rfl (Nat.le_of_ble_eq_true rfl) dX0_lend_20 (fun H locs hP hD hS => ?_)
    have hP : va_P D vwCl (bkW (cA 0) a (uB B 8 6 ((B 8 6) + 1))) H := hP
    have hD : va_D _ (bkW (cA 0) a (uB B 8 6 ((B 8 6) + 1))) := hD
    refine lv_iload hx hb dX0_lend_23 (lv_at hl 0 rfl) ?_
    exact z_iretM (w1 := bkW (cA 0) a (uB B 8 6 ((B 8 6) + 1))) hx hb hr hlocks dX0_lend_25 hP hS (by simp only [f_X0_lend, if_neg c_1]) (by simp only [f_X0_lend, if_neg c_1])

theorem zy_X0_takeBack : yX0_takeBack.cls = RX0 ∧ yX0_takeBack.cls ≠ "java/lang/invoke/MethodHandle" ∧ yX0_takeBack.cls ≠ "java/lang/invoke/VarHandle" ∧ (parseMethodDescriptor yX0_takeBack.desc).map (fun d => d.parameters.length) = some 2 := by decide +kernel
def f_X0_takeBack (B : BK) (mb : Nat) (am : Int32) : Int32 × BK :=
  if am ≤ (B 3 mb) then
    let M_2 : BK := uB (uB B 8 0 ((B 8 0) + am)) 3 mb (((uB B 8 0 ((B 8 0) + am)) 3 mb) - am)
    ((uB M_2 5 mb ((M_2 5 mb) + am)) 3 mb, uB M_2 5 mb ((M_2 5 mb) + am))
  else
    ((-1), uB B 8 6 ((B 8 6) + 1))

set_option maxHeartbeats 4000000 in
set_option maxRecDepth 100000 in
theorem zc_X0_takeBack (l : Launch) (D : va_G) (cA : Nat → ClassId) (a : Nat → Nat) (B : BK) (mb : Nat) (am : Int32) (hmb : mb < 6) : Met l yX0_takeBack wsX0_takeBack (zrm 0 0) (zPc D cA [.ref (a 0), .int (nI mb), .int am] (bkW (cA 0) a B)) (zM D (bkW (cA 0) a B) (bkW (cA 0) a ((f_X0_takeBack B mb am).2)) (some (.int ((f_X0_takeBack B mb am).1)))) 0 0 (zfr (bkW (cA 0) a B)) := by
  refine Met.ofW (cc := cX0_takeBack) (maxL := 3) (ret := (some .int)) (by decide) rfl ?_
  intro p e s m args below meth c s₁ Bd hml hv
  obtain ⟨rfl, hP, hK, hD0⟩ := hv
  have hx := Bd.exec
  have hb := Bd.bytes
  have hr := Bd.returns
  have hts := atoms_spec (ws := wsX0_takeBack) Bd.pre
  have hown : s.vm.findClass RX0 = some m.cls := findClass_of_methodNamed Bd.named
  have hlocks := Bd.notSynchronized
  have hD := z_Dfr hD0
  have hS : va_S (zfr (bkW (cA 0) a B)) s.heap s.heap [] := va_S.rf
  have hi0 : ∀ w ∈ wsX00, w ∈ wsX0_takeBack := fun w h => List.mem_cons_of_mem _ (List.mem_append_right _ h)
  have hl := lv_entry ([.ref (a 0), .int (nI mb), .int am]) (n := 3) (Nat.le_of_ble_eq_true rfl)
  rw [lg_entry_eq]
  generalize (lg_sl ([.ref (a 0), .int (nI mb), .int am]) ++ List.replicate (3 - (lg_sl ([.ref (a 0), .int (nI mb), .int am])).length) Slot.unset).toArray = ls at hl ⊢
  have hl : lv_has ls 3 [(0, .ref (a 0)), (1, .int (nI mb)), (2, .int am)] := hl
  refine lv_iload_n hx hb dX0_takeBack_0 rfl (lv_at hl 2 rfl) ?_
  refine lv_aload_n hx hb dX0_takeBack_1 rfl (lv_at hl 0 rfl) ?_
  refine va_get (D := D) (ci := 0) (v := .ref (a 4)) (C := RX0) (T := TX0) (N := 16) hx hb hts hi0 hown hK hP 0 rfl rfl 3 (by decide) (hts (.fieldLink RX0 21 "PledgedLoans$Books" "rest" "[I") (List.mem_of_getElem? (i := 1) rfl)) (fun _ h9 => h9) rfl dX0_takeBack_2 ?_
  refine lv_iload_n hx hb dX0_takeBack_5 rfl (lv_at hl 1 rfl) ?_
  refine z_iald (j := mb) hx hb hK hP 4 0 rfl rfl dX0_takeBack_6 (by omega) (by decide) ?_
  refine lv_icmp_le (tgt := 22) hx hb dX0_takeBack_7 (by decide) (fun c_1 => ?_) (fun c_1 => ?_)
  · refine lv_aload_n hx hb dX0_takeBack_22 rfl (lv_at hl 0 rfl) ?_
    refine lv_dup hx hb dX0_takeBack_23 rfl ?_
    refine va_get (D := D) (ci := 0) (v := .int (B 8 0)) (C := RX0) (T := TX0) (N := 16) hx hb hts hi0 hown hK hP 0 rfl rfl 8 (by decide) (hts (.fieldLink RX0 40 "PledgedLoans$Books" "till" "I") (List.mem_of_getElem? (i := 3) rfl)) (fun _ h9 => h9) rfl dX0_takeBack_24 ?_
    refine lv_iload_n hx hb dX0_takeBack_27 rfl (lv_at hl 2 rfl) ?_
    refine lv_iadd hx hb dX0_takeBack_28 ?_
    refine va_put (D := D) (ci := 0) (v := .int ((B 8 0) + am)) (ty := .int) (C := RX0) (T := TX0) (N := 16) hx hb hts hi0 tyX0 tyX0_ok nmX0 hown hK hP hD hS 0 rfl rfl 8 (by decide) (hts (.fieldLink RX0 40 "PledgedLoans$Books" "till" "I") (List.mem_of_getElem? (i := 3) rfl)) (fun _ h9 => h9) rfl (by decide +kernel) rfl rfl (Nat.le_of_ble_eq_true rfl) dX0_takeBack_29 (fun H locs hP hD hS => ?_)
    have hP : va_P D vwCl (bkW (cA 0) a (uB B 8 0 ((B 8 0) + am))) H := hP
    have hD : va_D _ (bkW (cA 0) a (uB B 8 0 ((B 8 0) + am))) := hD
    refine lv_aload_n hx hb dX0_takeBack_32 rfl (lv_at hl 0 rfl) ?_
    refine va_get (D := D) (ci := 0) (v := .ref (a 4)) (C := RX0) (T := TX0) (N := 16) hx hb hts hi0 hown hK hP 0 rfl rfl 3 (by decide) (hts (.fieldLink RX0 21 "PledgedLoans$Books" "rest" "[I") (List.mem_of_getElem? (i := 1) rfl)) (fun _ h9 => h9) rfl dX0_takeBack_33 ?_
    refine lv_iload_n hx hb dX0_takeBack_36 rfl (lv_at hl 1 rfl) ?_
    refine lv_dup2_11 hx hb dX0_takeBack_37 rfl rfl ?_
    refine z_iald (j := mb) hx hb hK hP 4 0 rfl rfl dX0_takeBack_38 (by omega) (by decide) ?_
    refine lv_iload_n hx hb dX0_takeBack_39 rfl (lv_at hl 2 rfl) ?_
    refine lv_isub hx hb dX0_takeBack_40 ?_
    refine z_iast (j := mb) hx hb hK hP hD hS 4 0 rfl rfl dX0_takeBack_41 (by omega) (by decide) (bkW (cA 0) a (uB (uB B 8 0 ((B 8 0) + am)) 3 mb (((uB B 8 0 ((B 8 0) + am)) 3 mb) - am))) rfl (fun H locs hP hD hS => ?_)
    obtain ⟨M_2, eM_2⟩ : ∃ z9 : BK, z9 = uB (uB B 8 0 ((B 8 0) + am)) 3 mb (((uB B 8 0 ((B 8 0) + am)) 3 mb) - am) := ⟨_, rfl⟩
    rw [← eM_2] at hP hD
    refine lv_aload_n hx hb dX0_takeBack_42 rfl (lv_at hl 0 rfl) ?_
    refine va_get (D := D) (ci := 0) (v := .ref (a 6)) (C := RX0) (T := TX0) (N := 16) hx hb hts hi0 hown hK hP 0 rfl rfl 5 (by decide) (hts (.fieldLink RX0 27 "PledgedLoans$Books" "paid" "[I") (List.mem_of_getElem? (i := 4) rfl)) (fun _ h9 => h9) rfl dX0_takeBack_43 ?_
    refine lv_iload_n hx hb dX0_takeBack_46 rfl (lv_at hl 1 rfl) ?_
    refine lv_dup2_11 hx hb dX0_takeBack_47 rfl rfl ?_
    refine z_iald (j := mb) hx hb hK hP 6 0 rfl rfl dX0_takeBack_48 (by omega) (by decide) ?_
    refine lv_iload_n hx hb dX0_takeBack_49 rfl (lv_at hl 2 rfl) ?_
    refine lv_iadd hx hb dX0_takeBack_50 ?_
    refine z_iast (j := mb) hx hb hK hP hD hS 6 0 rfl rfl dX0_takeBack_51 (by omega) (by decide) (bkW (cA 0) a (uB M_2 5 mb ((M_2 5 mb) + am))) rfl (fun H locs hP hD hS => ?_)
    refine lv_aload_n hx hb dX0_takeBack_52 rfl (lv_at hl 0 rfl) ?_
    refine va_get (D := D) (ci := 0) (v := .ref (a 4)) (C := RX0) (T := TX0) (N := 16) hx hb hts hi0 hown hK hP 0 rfl rfl 3 (by decide) (hts (.fieldLink RX0 21 "PledgedLoans$Books" "rest" "[I") (List.mem_of_getElem? (i := 1) rfl)) (fun _ h9 => h9) rfl dX0_takeBack_53 ?_
    refine lv_iload_n hx hb dX0_takeBack_56 rfl (lv_at hl 1 rfl) ?_
    refine z_iald (j := mb) hx hb hK hP 4 0 rfl rfl dX0_takeBack_57 (by omega) (by decide) ?_
    exact z_iretM (w1 := bkW (cA 0) a (uB M_2 5 mb ((M_2 5 mb) + am))) hx hb hr hlocks dX0_takeBack_58 hP hS (by subst eM_2; simp only [f_X0_takeBack, if_pos c_1]) (by subst eM_2; simp only [f_X0_takeBack, if_pos c_1])
  · refine lv_aload_n hx hb dX0_takeBack_10 rfl (lv_at hl 0 rfl) ?_
    refine lv_dup hx hb dX0_takeBack_11 rfl ?_
    refine va_get (D := D) (ci := 0) (v := .int (B 8 6)) (C := RX0) (T := TX0) (N := 16) hx hb hts hi0 hown hK hP 0 rfl rfl 14 (by decide) (hts (.fieldLink RX0 59 "PledgedLoans$Books" "refused" "I") (List.mem_of_getElem? (i := 2) rfl)) (fun _ h9 => h9) rfl dX0_takeBack_12 ?_
    refine lv_iconst (v := 1) hx hb dX0_takeBack_15 (by decide) ?_
    refine lv_iadd hx hb dX0_takeBack_16 ?_
    refine va_put (D := D) (ci := 0) (v := .int ((B 8 6) + 1)) (ty := .int) (C := RX0) (T := TX0) (N := 16) hx hb hts hi0 tyX0 tyX0_ok nmX0 hown hK hP hD hS 0 rfl rfl 14 (by decide) (hts (.fieldLink RX0 59 "PledgedLoans$Books" "refused" "I") (List.mem_of_getElem? (i := 2) rfl)) (fun _ h9 => h9) rfl (by decide +kernel) rfl rfl (Nat.le_of_ble_eq_true rfl) dX0_takeBack_17 (fun H locs hP hD hS => ?_)
    have hP : va_P D vwCl (bkW (cA 0) a (uB B 8 6 ((B 8 6) + 1))) H := hP
    have hD : va_D _ (bkW (cA 0) a (uB B 8 6 ((B 8 6) + 1))) := hD
    refine lv_iconst (v := (-1)) hx hb dX0_takeBack_20 (by decide) ?_
    exact z_iretM (w1 := bkW (cA 0) a (uB B 8 6 ((B 8 6) + 1))) hx hb hr hlocks dX0_takeBack_21 hP hS (by simp only [f_X0_takeBack, if_neg c_1]) (by simp only [f_X0_takeBack, if_neg c_1])

theorem zy_X0_weeksByWeeks : yX0_weeksByWeeks.cls = RX0 ∧ yX0_weeksByWeeks.cls ≠ "java/lang/invoke/MethodHandle" ∧ yX0_weeksByWeeks.cls ≠ "java/lang/invoke/VarHandle" ∧ (parseMethodDescriptor yX0_weeksByWeeks.desc).map (fun d => d.parameters.length) = some 1 := by decide +kernel
def f_X0_weeksByWeeks_9 (B : BK) (mb : Nat) : Nat → Int32 → Nat → Int32
  | 0, x, q => 0
  | k + 1, x, q =>
    if x ≤ 0 then
      nI q
    else
      if 9999 ≤ q then
        nI q
      else
        f_X0_weeksByWeeks_9 B mb k (x - (zmin x (B 4 mb))) (q + 1)
def f_X0_weeksByWeeks (B : BK) (mb : Nat) : Int32 :=
  f_X0_weeksByWeeks_9 B mb 10001 (B 3 mb) 0

set_option maxHeartbeats 4000000 in
set_option maxRecDepth 100000 in
theorem zc_X0_weeksByWeeks (l : Launch) (D : va_G) (cA : Nat → ClassId) (a : Nat → Nat) (B : BK) (mb : Nat) (hmb : mb < 6) : Met l yX0_weeksByWeeks wsX0_weeksByWeeks (zrm 1 30) (zPc D cA [.ref (a 0), .int (nI mb)] (bkW (cA 0) a B)) (zE (some (.int (f_X0_weeksByWeeks B mb)))) 0 0 (fun _ => False) := by
  refine Met.ofW (cc := cX0_weeksByWeeks) (maxL := 4) (ret := (some .int)) (by decide) rfl ?_
  intro p e s m args below meth c s₁ Bd hml hv
  obtain ⟨rfl, hP, hK, hD0⟩ := hv
  have hx := Bd.exec
  have hb := Bd.bytes
  have hr := Bd.returns
  have hts := atoms_spec (ws := wsX0_weeksByWeeks) Bd.pre
  have hown : s.vm.findClass RX0 = some m.cls := findClass_of_methodNamed Bd.named
  have hlocks := Bd.notSynchronized
  have hD := z_Dfr hD0
  have hS : va_S (zfr (bkW (cA 0) a B)) s.heap s.heap [] := va_S.rf
  have hi0 : ∀ w ∈ wsX00, w ∈ wsX0_weeksByWeeks := fun w h => List.mem_cons_of_mem _ (List.mem_append_right _ h)
  have hl := lv_entry ([.ref (a 0), .int (nI mb)]) (n := 4) (Nat.le_of_ble_eq_true rfl)
  rw [lg_entry_eq]
  generalize (lg_sl ([.ref (a 0), .int (nI mb)]) ++ List.replicate (4 - (lg_sl ([.ref (a 0), .int (nI mb)])).length) Slot.unset).toArray = ls at hl ⊢
  have hl : lv_has ls 4 [(0, .ref (a 0)), (1, .int (nI mb))] := hl
  refine lv_aload_n hx hb dX0_weeksByWeeks_0 rfl (lv_at hl 0 rfl) ?_
  refine va_get (D := D) (ci := 0) (v := .ref (a 4)) (C := RX0) (T := TX0) (N := 16) hx hb hts hi0 hown hK hP 0 rfl rfl 3 (by decide) (hts (.fieldLink RX0 21 "PledgedLoans$Books" "rest" "[I") (List.mem_of_getElem? (i := 1) rfl)) (fun _ h9 => h9) rfl dX0_weeksByWeeks_1 ?_
  refine lv_iload_n hx hb dX0_weeksByWeeks_4 rfl (lv_at hl 1 rfl) ?_
  refine z_iald (j := mb) hx hb hK hP 4 0 rfl rfl dX0_weeksByWeeks_5 (by omega) (by decide) ?_
  refine lv_istore_n (lv' := [(2, .int (B 3 mb)), (0, .ref (a 0)), (1, .int (nI mb))]) hx hb dX0_weeksByWeeks_6 rfl hl (by decide) rfl (fun ls hl => ?_)
  refine lv_iconst (v := 0) hx hb dX0_weeksByWeeks_7 (by decide) ?_
  refine lv_istore_n (lv' := [(3, .int 0), (2, .int (B 3 mb)), (0, .ref (a 0)), (1, .int (nI mb))]) hx hb dX0_weeksByWeeks_8 rfl hl (by decide) rfl (fun ls hl => ?_)
  have loop_9 : ∀ (kk : Nat) (x : Int32) (q : Nat), 10000 - q < kk → q < 10000 → f_X0_weeksByWeeks B mb = f_X0_weeksByWeeks_9 B mb kk x q → ∀ (ls : Array Slot), lv_has ls 4 [(0, .ref (a 0)), (1, .int (nI mb)), (2, .int x), (3, .int (nI q))] → W p l e (headSpec wsX0_weeksByWeeks (zrm 1 30)).room s m ([.ref (a 0), .int (nI mb)] : List Value).toArray below meth c s.heap [] 0 0 (MQ below (zE (some (.int (f_X0_weeksByWeeks B mb)))) ([.ref (a 0), .int (nI mb)] : List Value).toArray s 0 0 (fun _ => False)) (F0 m 9 ls []) := by
    intro kk
    induction kk with
    | zero => intro x q h9; exact absurd h9 (Nat.not_lt_zero _)
    | succ kk ih_9 =>
      intro x q hm_9 hi0_9 hres_9 ls hl
      refine lv_iload_n hx hb dX0_weeksByWeeks_9 rfl (lv_at hl 2 rfl) ?_
      refine lv_if_le (tgt := 39) hx hb dX0_weeksByWeeks_10 (by decide) (fun c_1 => ?_) (fun c_1 => ?_)
      · refine lv_iload_n hx hb dX0_weeksByWeeks_39 rfl (lv_at hl 3 rfl) ?_
        exact z_iretE hx hb hr hlocks dX0_weeksByWeeks_40 (by rw [hres_9]; simp only [f_X0_weeksByWeeks_9, if_pos c_1])
      · refine lv_iload_n hx hb dX0_weeksByWeeks_13 rfl (lv_at hl 3 rfl) ?_
        refine lv_sipush (v := 9999) hx hb dX0_weeksByWeeks_14 (by decide) ?_
        refine lv_icmp_ge (tgt := 39) hx hb dX0_weeksByWeeks_17 (by decide) (fun c_2 => ?_) (fun c_2 => ?_)
        · have c_2 : 9999 ≤ q := (nI_leI (a := 9999) (b := q) (by omega) (by omega)).mp c_2
          refine lv_iload_n hx hb dX0_weeksByWeeks_39 rfl (lv_at hl 3 rfl) ?_
          exact z_iretE hx hb hr hlocks dX0_weeksByWeeks_40 (by rw [hres_9]; simp only [f_X0_weeksByWeeks_9, if_neg c_1, if_pos c_2])
        · have c_2 : ¬ 9999 ≤ q := fun h9 => c_2 ((nI_leI (a := 9999) (b := q) (by omega) (by omega)).mpr h9)
          refine lv_iload_n hx hb dX0_weeksByWeeks_20 rfl (lv_at hl 2 rfl) ?_
          refine lv_iload_n hx hb dX0_weeksByWeeks_21 rfl (lv_at hl 2 rfl) ?_
          refine lv_aload_n hx hb dX0_weeksByWeeks_22 rfl (lv_at hl 0 rfl) ?_
          refine va_get (D := D) (ci := 0) (v := .ref (a 5)) (C := RX0) (T := TX0) (N := 16) hx hb hts hi0 hown hK hP 0 rfl rfl 4 (by decide) (hts (.fieldLink RX0 24 "PledgedLoans$Books" "part" "[I") (List.mem_of_getElem? (i := 2) rfl)) (fun _ h9 => h9) rfl dX0_weeksByWeeks_23 ?_
          refine lv_iload_n hx hb dX0_weeksByWeeks_26 rfl (lv_at hl 1 rfl) ?_
          refine z_iald (j := mb) hx hb hK hP 5 0 rfl rfl dX0_weeksByWeeks_27 (by omega) (by decide) ?_
          refine va_mmin hx hb (by rw [hml]; exact hl.1.symm) hown (hts (.methodLink RX0 65 Lib.Math.min.name) (List.mem_of_getElem? (i := 3) rfl)) (hts (.static Lib.Math.min.name) (List.mem_of_getElem? (i := 4) rfl)) (hts (.initialized "java/lang/Math") (List.mem_of_getElem? (i := 5) rfl)) (hts (.code Lib.Math.min.name Lib.Math.min.code 2 (some .int)) (List.mem_of_getElem? (i := 6) rfl)) (Nat.le_of_ble_eq_true rfl) (Nat.le_of_ble_eq_true rfl) (Nat.zero_le _) (Nat.zero_le _) dX0_weeksByWeeks_28 ?_
          refine z_top (y := zmin x (B 4 mb)) rfl ?_
          refine lv_isub hx hb dX0_weeksByWeeks_31 ?_
          refine lv_istore_n (lv' := [(2, .int (x - (zmin x (B 4 mb)))), (0, .ref (a 0)), (1, .int (nI mb)), (3, .int (nI q))]) hx hb dX0_weeksByWeeks_32 rfl hl (by decide) rfl (fun ls hl => ?_)
          refine lv_iinc (v := nI (q + 1)) (lv' := [(3, .int (nI (q + 1))), (2, .int (x - (zmin x (B 4 mb)))), (0, .ref (a 0)), (1, .int (nI mb))]) hx hb dX0_weeksByWeeks_33 hl (k := 3) rfl (by rw [show (Int32.ofInt 1) = nI 1 from by decide]; exact nI_add q 1) (by decide) rfl (fun ls hl => ?_)
          refine lv_goto (tgt := 9) hx hb dX0_weeksByWeeks_36 (by decide) ?_
          exact ih_9 (x - (zmin x (B 4 mb))) (q + 1) (by omega) (by omega) (by rw [hres_9]; simp only [f_X0_weeksByWeeks_9, if_neg c_1, if_neg c_2]) ls (lv_sub hl [2, 3, 1, 0] rfl)
  exact loop_9 10001 (B 3 mb) 0 (by omega) (by omega) (by first | (simp only [f_X0_weeksByWeeks]; done) | rfl) ls (lv_sub hl [2, 3, 1, 0] rfl)

theorem zy_X0_weeksAtOnce : yX0_weeksAtOnce.cls = RX0 ∧ yX0_weeksAtOnce.cls ≠ "java/lang/invoke/MethodHandle" ∧ yX0_weeksAtOnce.cls ≠ "java/lang/invoke/VarHandle" ∧ (parseMethodDescriptor yX0_weeksAtOnce.desc).map (fun d => d.parameters.length) = some 1 := by decide +kernel
def f_X0_weeksAtOnce (B : BK) (mb : Nat) : Int32 :=
  if (f_X0_hasLoan B mb) = 0 then
    0
  else
    if 1 ≤ (B 4 mb) then
      (((B 3 mb) + (B 4 mb)) - 1) / (B 4 mb)
    else
      0

set_option maxHeartbeats 4000000 in
set_option maxRecDepth 100000 in
theorem zc_X0_weeksAtOnce (l : Launch) (D : va_G) (cA : Nat → ClassId) (a : Nat → Nat) (B : BK) (mb : Nat) (hmb : mb < 6) : Met l yX0_weeksAtOnce wsX0_weeksAtOnce (zrm 1 21) (zPc D cA [.ref (a 0), .int (nI mb)] (bkW (cA 0) a B)) (zE (some (.int (f_X0_weeksAtOnce B mb)))) 0 0 (fun _ => False) := by
  refine Met.ofW (cc := cX0_weeksAtOnce) (maxL := 3) (ret := (some .int)) (by decide) rfl ?_
  intro p e s m args below meth c s₁ Bd hml hv
  obtain ⟨rfl, hP, hK, hD0⟩ := hv
  have hx := Bd.exec
  have hb := Bd.bytes
  have hr := Bd.returns
  have hts := atoms_spec (ws := wsX0_weeksAtOnce) Bd.pre
  have hown : s.vm.findClass RX0 = some m.cls := findClass_of_methodNamed Bd.named
  have hlocks := Bd.notSynchronized
  have hD := z_Dfr hD0
  have hS : va_S (zfr (bkW (cA 0) a B)) s.heap s.heap [] := va_S.rf
  have hi0 : ∀ w ∈ wsX00, w ∈ wsX0_weeksAtOnce := fun w h => List.mem_cons_of_mem _ (List.mem_append_right _ h)
  have hl := lv_entry ([.ref (a 0), .int (nI mb)]) (n := 3) (Nat.le_of_ble_eq_true rfl)
  rw [lg_entry_eq]
  generalize (lg_sl ([.ref (a 0), .int (nI mb)]) ++ List.replicate (3 - (lg_sl ([.ref (a 0), .int (nI mb)])).length) Slot.unset).toArray = ls at hl ⊢
  have hl : lv_has ls 3 [(0, .ref (a 0)), (1, .int (nI mb))] := hl
  refine lv_aload_n hx hb dX0_weeksAtOnce_0 rfl (lv_at hl 0 rfl) ?_
  refine va_get (D := D) (ci := 0) (v := .ref (a 5)) (C := RX0) (T := TX0) (N := 16) hx hb hts hi0 hown hK hP 0 rfl rfl 4 (by decide) (hts (.fieldLink RX0 24 "PledgedLoans$Books" "part" "[I") (List.mem_of_getElem? (i := 1) rfl)) (fun _ h9 => h9) rfl dX0_weeksAtOnce_1 ?_
  refine lv_iload_n hx hb dX0_weeksAtOnce_4 rfl (lv_at hl 1 rfl) ?_
  refine z_iald (j := mb) hx hb hK hP 5 0 rfl rfl dX0_weeksAtOnce_5 (by omega) (by decide) ?_
  refine lv_istore_n (lv' := [(2, .int (B 4 mb)), (0, .ref (a 0)), (1, .int (nI mb))]) hx hb dX0_weeksAtOnce_6 rfl hl (by decide) rfl (fun ls hl => ?_)
  refine lv_aload_n hx hb dX0_weeksAtOnce_7 rfl (lv_at hl 1 rfl) ?_
  refine lv_iload_n hx hb dX0_weeksAtOnce_8 rfl (lv_at hl 2 rfl) ?_
  refine z_E (va_runV (As := [.int (nI mb)]) (rest := []) ⟨hx, hb, hml, hown, hts⟩ (zc_X0_hasLoan l D cA a B mb (by omega)) (cwV 1 hts gX0_weeksAtOnce_X0_hasLoan rfl rfl rfl zy_X0_hasLoan ⟨Nat.le_of_ble_eq_true rfl, Nat.le_of_ble_eq_true rfl⟩) (z_preV (ci := 0) hK hP hD rfl rfl) rfl rfl hl.1 rfl (lv_room (Nat.le_of_ble_eq_true rfl)) dX0_weeksAtOnce_9 ⟨Nat.zero_le _, Nat.zero_le _⟩) rfl ?_
  refine lv_if_eq (tgt := 20) hx hb dX0_weeksAtOnce_12 (by decide) (fun c_1 => ?_) (fun c_1 => ?_)
  · refine lv_iconst (v := 0) hx hb dX0_weeksAtOnce_20 (by decide) ?_
    exact z_iretE hx hb hr hlocks dX0_weeksAtOnce_21 (by simp only [f_X0_weeksAtOnce, if_pos c_1])
  · refine lv_iload_n hx hb dX0_weeksAtOnce_15 rfl (lv_at hl 0 rfl) ?_
    refine lv_iconst (v := 1) hx hb dX0_weeksAtOnce_16 (by decide) ?_
    refine lv_icmp_ge (tgt := 22) hx hb dX0_weeksAtOnce_17 (by decide) (fun c_2 => ?_) (fun c_2 => ?_)
    · refine lv_aload_n hx hb dX0_weeksAtOnce_22 rfl (lv_at hl 1 rfl) ?_
      refine va_get (D := D) (ci := 0) (v := .ref (a 4)) (C := RX0) (T := TX0) (N := 16) hx hb hts hi0 hown hK hP 0 rfl rfl 3 (by decide) (hts (.fieldLink RX0 21 "PledgedLoans$Books" "rest" "[I") (List.mem_of_getElem? (i := 2) rfl)) (fun _ h9 => h9) rfl dX0_weeksAtOnce_23 ?_
      refine lv_iload_n hx hb dX0_weeksAtOnce_26 rfl (lv_at hl 2 rfl) ?_
      refine z_iald (j := mb) hx hb hK hP 4 0 rfl rfl dX0_weeksAtOnce_27 (by omega) (by decide) ?_
      refine lv_iload_n hx hb dX0_weeksAtOnce_28 rfl (lv_at hl 0 rfl) ?_
      refine lv_iadd hx hb dX0_weeksAtOnce_29 ?_
      refine lv_iconst (v := 1) hx hb dX0_weeksAtOnce_30 (by decide) ?_
      refine lv_isub hx hb dX0_weeksAtOnce_31 ?_
      refine lv_iload_n hx hb dX0_weeksAtOnce_32 rfl (lv_at hl 0 rfl) ?_
      refine lv_idiv hx hb dX0_weeksAtOnce_33 (z_nz1 c_2) ?_
      exact z_iretE hx hb hr hlocks dX0_weeksAtOnce_34 (by simp only [f_X0_weeksAtOnce, if_neg c_1, if_pos c_2])
    · refine lv_iconst (v := 0) hx hb dX0_weeksAtOnce_20 (by decide) ?_
      exact z_iretE hx hb hr hlocks dX0_weeksAtOnce_21 (by simp only [f_X0_weeksAtOnce, if_neg c_1, if_neg c_2])

theorem zy_X0_mostAtStake : yX0_mostAtStake.cls = RX0 ∧ yX0_mostAtStake.cls ≠ "java/lang/invoke/MethodHandle" ∧ yX0_mostAtStake.cls ≠ "java/lang/invoke/VarHandle" ∧ (parseMethodDescriptor yX0_mostAtStake.desc).map (fun d => d.parameters.length) = some 0 := by decide +kernel
def f_X0_mostAtStake_6 (B : BK) (i0 : Int32) (i1 : Int32) : Nat → Int32 × Int32
  | 0 => (i0, i1)
  | n + 1 =>
    let y0_6 : Int32 := (f_X0_mostAtStake_6 B i0 i1 n).1
    let y1_6 : Int32 := (f_X0_mostAtStake_6 B i0 i1 n).2
    if (f_X0_hasLoan B n) = 0 then
      (y0_6, y1_6)
    else
      if ((B 3 n) - (f_X0_ownLeft B n)) ≤ y1_6 then
        (y0_6, y1_6)
      else
        (nI n, (B 3 n) - (f_X0_ownLeft B n))
def f_X0_mostAtStake (B : BK) : Int32 :=
  let y0_6 : Int32 := (f_X0_mostAtStake_6 B (-1) 0 6).1
  let y1_6 : Int32 := (f_X0_mostAtStake_6 B (-1) 0 6).2
  y0_6

set_option maxHeartbeats 4000000 in
set_option maxRecDepth 100000 in
theorem zc_X0_mostAtStake (l : Launch) (D : va_G) (cA : Nat → ClassId) (a : Nat → Nat) (B : BK)  : Met l yX0_mostAtStake wsX0_mostAtStake (zrm 2 45) (zPc D cA [.ref (a 0)] (bkW (cA 0) a B)) (zE (some (.int (f_X0_mostAtStake B)))) 0 0 (fun _ => False) := by
  refine Met.ofW (cc := cX0_mostAtStake) (maxL := 5) (ret := (some .int)) (by decide) rfl ?_
  intro p e s m args below meth c s₁ Bd hml hv
  obtain ⟨rfl, hP, hK, hD0⟩ := hv
  have hx := Bd.exec
  have hb := Bd.bytes
  have hr := Bd.returns
  have hts := atoms_spec (ws := wsX0_mostAtStake) Bd.pre
  have hown : s.vm.findClass RX0 = some m.cls := findClass_of_methodNamed Bd.named
  have hlocks := Bd.notSynchronized
  have hD := z_Dfr hD0
  have hS : va_S (zfr (bkW (cA 0) a B)) s.heap s.heap [] := va_S.rf
  have hi0 : ∀ w ∈ wsX00, w ∈ wsX0_mostAtStake := fun w h => List.mem_cons_of_mem _ (List.mem_append_right _ h)
  have hl := lv_entry ([.ref (a 0)]) (n := 5) (Nat.le_of_ble_eq_true rfl)
  rw [lg_entry_eq]
  generalize (lg_sl ([.ref (a 0)]) ++ List.replicate (5 - (lg_sl ([.ref (a 0)])).length) Slot.unset).toArray = ls at hl ⊢
  have hl : lv_has ls 5 [(0, .ref (a 0))] := hl
  refine lv_iconst (v := (-1)) hx hb dX0_mostAtStake_0 (by decide) ?_
  refine lv_istore_n (lv' := [(1, .int (-1)), (0, .ref (a 0))]) hx hb dX0_mostAtStake_1 rfl hl (by decide) rfl (fun ls hl => ?_)
  refine lv_iconst (v := 0) hx hb dX0_mostAtStake_2 (by decide) ?_
  refine lv_istore_n (lv' := [(2, .int 0), (1, .int (-1)), (0, .ref (a 0))]) hx hb dX0_mostAtStake_3 rfl hl (by decide) rfl (fun ls hl => ?_)
  refine lv_iconst (v := 0) hx hb dX0_mostAtStake_4 (by decide) ?_
  refine lv_istore_n (lv' := [(3, .int 0), (2, .int 0), (1, .int (-1)), (0, .ref (a 0))]) hx hb dX0_mostAtStake_5 rfl hl (by decide) rfl (fun ls hl => ?_)
  have loop_6 : ∀ (kk : Nat) (n : Nat) (y0_6 : Int32) (y1_6 : Int32), n ≤ 6 → 6 - n < kk → y0_6 = (f_X0_mostAtStake_6 B (-1) 0 n).1 → y1_6 = (f_X0_mostAtStake_6 B (-1) 0 n).2 → ∀ (ls : Array Slot), lv_has ls 5 [(0, .ref (a 0)), (1, .int y0_6), (2, .int y1_6), (3, .int (nI n))] → W p l e (headSpec wsX0_mostAtStake (zrm 2 45)).room s m ([.ref (a 0)] : List Value).toArray below meth c s.heap [] 0 0 (MQ below (zE (some (.int (f_X0_mostAtStake B)))) ([.ref (a 0)] : List Value).toArray s 0 0 (fun _ => False)) (F0 m 6 ls []) := by
    intro kk
    induction kk with
    | zero => intro n y0_6 y1_6 _ h9; exact absurd h9 (Nat.not_lt_zero _)
    | succ kk ih_6 =>
      intro n y0_6 y1_6 hn_6 hm_6 q_y0_6 q_y1_6 ls hl
      refine lv_iload_n hx hb dX0_mostAtStake_6 rfl (lv_at hl 3 rfl) ?_
      refine lv_bipush (v := 6) hx hb dX0_mostAtStake_7 (by decide) ?_
      refine lv_icmp_ge (tgt := 51) hx hb dX0_mostAtStake_9 (by decide) (fun c_1 => ?_) (fun c_1 => ?_)
      · have c_1 : 6 ≤ n := (nI_leI (a := 6) (b := n) (by omega) (by omega)).mp c_1
        obtain rfl : n = 6 := by omega
        refine lv_iload_n hx hb dX0_mostAtStake_51 rfl (lv_at hl 1 rfl) ?_
        exact z_iretE hx hb hr hlocks dX0_mostAtStake_52 (by subst q_y1_6 q_y0_6; first | (simp -proj only [f_X0_mostAtStake]; first | done | rfl; done) | rfl)
      · have c_1 : ¬ 6 ≤ n := fun h9 => c_1 ((nI_leI (a := 6) (b := n) (by omega) (by omega)).mpr h9)
        refine lv_aload_n hx hb dX0_mostAtStake_12 rfl (lv_at hl 0 rfl) ?_
        refine va_get (D := D) (ci := 0) (v := .ref (a 4)) (C := RX0) (T := TX0) (N := 16) hx hb hts hi0 hown hK hP 0 rfl rfl 3 (by decide) (hts (.fieldLink RX0 21 "PledgedLoans$Books" "rest" "[I") (List.mem_of_getElem? (i := 1) rfl)) (fun _ h9 => h9) rfl dX0_mostAtStake_13 ?_
        refine lv_iload_n hx hb dX0_mostAtStake_16 rfl (lv_at hl 3 rfl) ?_
        refine z_iald (j := n) hx hb hK hP 4 0 rfl rfl dX0_mostAtStake_17 (by omega) (by decide) ?_
        refine lv_aload_n hx hb dX0_mostAtStake_18 rfl (lv_at hl 0 rfl) ?_
        refine lv_iload_n hx hb dX0_mostAtStake_19 rfl (lv_at hl 3 rfl) ?_
        refine z_E (va_runV (As := [.int (nI n)]) (rest := [.int (B 3 n)]) ⟨hx, hb, hml, hown, hts⟩ (zc_X0_ownLeft l D cA a B n (by omega)) (cwV 1 hts gX0_mostAtStake_X0_ownLeft rfl rfl rfl zy_X0_ownLeft ⟨Nat.le_of_ble_eq_true rfl, Nat.le_of_ble_eq_true rfl⟩) (z_preV (ci := 0) hK hP hD rfl rfl) rfl rfl hl.1 rfl (lv_room (Nat.le_of_ble_eq_true rfl)) dX0_mostAtStake_20 ⟨Nat.zero_le _, Nat.zero_le _⟩) rfl ?_
        refine lv_isub hx hb dX0_mostAtStake_23 ?_
        refine lv_istore (lv' := [(4, .int ((B 3 n) - (f_X0_ownLeft B n))), (0, .ref (a 0)), (1, .int y0_6), (2, .int y1_6), (3, .int (nI n))]) hx hb dX0_mostAtStake_24 hl (by decide) rfl (fun ls hl => ?_)
        refine lv_aload_n hx hb dX0_mostAtStake_26 rfl (lv_at hl 1 rfl) ?_
        refine lv_iload_n hx hb dX0_mostAtStake_27 rfl (lv_at hl 4 rfl) ?_
        refine z_E (va_runV (As := [.int (nI n)]) (rest := []) ⟨hx, hb, hml, hown, hts⟩ (zc_X0_hasLoan l D cA a B n (by omega)) (cwV 1 hts gX0_mostAtStake_X0_hasLoan rfl rfl rfl zy_X0_hasLoan ⟨Nat.le_of_ble_eq_true rfl, Nat.le_of_ble_eq_true rfl⟩) (z_preV (ci := 0) hK hP hD rfl rfl) rfl rfl hl.1 rfl (lv_room (Nat.le_of_ble_eq_true rfl)) dX0_mostAtStake_28 ⟨Nat.zero_le _, Nat.zero_le _⟩) rfl ?_
        refine lv_if_eq (tgt := 45) hx hb dX0_mostAtStake_31 (by decide) (fun c_2 => ?_) (fun c_2 => ?_)
        · refine lv_iinc (v := nI (n + 1)) (lv' := [(3, .int (nI (n + 1))), (4, .int ((B 3 n) - (f_X0_ownLeft B n))), (0, .ref (a 0)), (1, .int y0_6), (2, .int y1_6)]) hx hb dX0_mostAtStake_45 hl (k := 4) rfl (by rw [show (Int32.ofInt 1) = nI 1 from by decide]; exact nI_add n 1) (by decide) rfl (fun ls hl => ?_)
          refine lv_goto (tgt := 6) hx hb dX0_mostAtStake_48 (by decide) ?_
          exact ih_6 (n + 1) _ _ (by omega) (by omega) (by subst q_y1_6 q_y0_6; simp only [f_X0_mostAtStake_6, if_pos c_2]) (by subst q_y1_6 q_y0_6; simp only [f_X0_mostAtStake_6, if_pos c_2]) ls (lv_sub hl [2, 3, 4, 0] rfl)
        · refine lv_iload hx hb dX0_mostAtStake_34 (lv_at hl 0 rfl) ?_
          refine lv_iload_n hx hb dX0_mostAtStake_36 rfl (lv_at hl 3 rfl) ?_
          refine lv_icmp_le (tgt := 45) hx hb dX0_mostAtStake_37 (by decide) (fun c_3 => ?_) (fun c_3 => ?_)
          · refine lv_iinc (v := nI (n + 1)) (lv' := [(3, .int (nI (n + 1))), (4, .int ((B 3 n) - (f_X0_ownLeft B n))), (0, .ref (a 0)), (1, .int y0_6), (2, .int y1_6)]) hx hb dX0_mostAtStake_45 hl (k := 4) rfl (by rw [show (Int32.ofInt 1) = nI 1 from by decide]; exact nI_add n 1) (by decide) rfl (fun ls hl => ?_)
            refine lv_goto (tgt := 6) hx hb dX0_mostAtStake_48 (by decide) ?_
            exact ih_6 (n + 1) _ _ (by omega) (by omega) (by subst q_y1_6 q_y0_6; simp only [f_X0_mostAtStake_6, if_neg c_2, if_pos c_3]) (by subst q_y1_6 q_y0_6; simp only [f_X0_mostAtStake_6, if_neg c_2, if_pos c_3]) ls (lv_sub hl [2, 3, 4, 0] rfl)
          · refine lv_iload hx hb dX0_mostAtStake_40 (lv_at hl 0 rfl) ?_
            refine lv_istore_n (lv' := [(2, .int ((B 3 n) - (f_X0_ownLeft B n))), (4, .int ((B 3 n) - (f_X0_ownLeft B n))), (0, .ref (a 0)), (1, .int y0_6), (3, .int (nI n))]) hx hb dX0_mostAtStake_42 rfl hl (by decide) rfl (fun ls hl => ?_)
            refine lv_iload_n hx hb dX0_mostAtStake_43 rfl (lv_at hl 4 rfl) ?_
            refine lv_istore_n (lv' := [(1, .int (nI n)), (2, .int ((B 3 n) - (f_X0_ownLeft B n))), (4, .int ((B 3 n) - (f_X0_ownLeft B n))), (0, .ref (a 0)), (3, .int (nI n))]) hx hb dX0_mostAtStake_44 rfl hl (by decide) rfl (fun ls hl => ?_)
            refine lv_iinc (v := nI (n + 1)) (lv' := [(3, .int (nI (n + 1))), (1, .int (nI n)), (2, .int ((B 3 n) - (f_X0_ownLeft B n))), (4, .int ((B 3 n) - (f_X0_ownLeft B n))), (0, .ref (a 0))]) hx hb dX0_mostAtStake_45 hl (k := 4) rfl (by rw [show (Int32.ofInt 1) = nI 1 from by decide]; exact nI_add n 1) (by decide) rfl (fun ls hl => ?_)
            refine lv_goto (tgt := 6) hx hb dX0_mostAtStake_48 (by decide) ?_
            exact ih_6 (n + 1) _ _ (by omega) (by omega) (by subst q_y1_6 q_y0_6; simp only [f_X0_mostAtStake_6, if_neg c_2, if_neg c_3]) (by subst q_y1_6 q_y0_6; simp only [f_X0_mostAtStake_6, if_neg c_2, if_neg c_3]) ls (lv_sub hl [4, 1, 2, 0] rfl)
  exact loop_6 _ 0 _ _ (by omega) (Nat.lt_succ_self _) rfl rfl ls (lv_sub hl [3, 2, 1, 0] rfl)

theorem zy_X0_canEndWeek : yX0_canEndWeek.cls = RX0 ∧ yX0_canEndWeek.cls ≠ "java/lang/invoke/MethodHandle" ∧ yX0_canEndWeek.cls ≠ "java/lang/invoke/VarHandle" ∧ (parseMethodDescriptor yX0_canEndWeek.desc).map (fun d => d.parameters.length) = some 0 := by decide +kernel
def f_X0_canEndWeek (B : BK) : Int32 :=
  if 9999 ≤ (B 8 4) then
    0
  else
    1

theorem zb_X0_canEndWeek (B : BK) : narrow .boolean (.int (f_X0_canEndWeek B)) = .int (f_X0_canEndWeek B) := by
  unfold f_X0_canEndWeek; repeat' split
  all_goals (first | rfl | (dsimp only; rfl))
set_option maxHeartbeats 4000000 in
set_option maxRecDepth 100000 in
theorem zc_X0_canEndWeek (l : Launch) (D : va_G) (cA : Nat → ClassId) (a : Nat → Nat) (B : BK)  : Met l yX0_canEndWeek wsX0_canEndWeek (zrm 0 0) (zPc D cA [.ref (a 0)] (bkW (cA 0) a B)) (zE (some (.int (f_X0_canEndWeek B)))) 0 0 (fun _ => False) := by
  refine Met.ofW (cc := cX0_canEndWeek) (maxL := 1) (ret := (some .boolean)) (by decide) rfl ?_
  intro p e s m args below meth c s₁ Bd hml hv
  obtain ⟨rfl, hP, hK, hD0⟩ := hv
  have hx := Bd.exec
  have hb := Bd.bytes
  have hr := Bd.returns
  have hts := atoms_spec (ws := wsX0_canEndWeek) Bd.pre
  have hown : s.vm.findClass RX0 = some m.cls := findClass_of_methodNamed Bd.named
  have hlocks := Bd.notSynchronized
  have hD := z_Dfr hD0
  have hS : va_S (zfr (bkW (cA 0) a B)) s.heap s.heap [] := va_S.rf
  have hi0 : ∀ w ∈ wsX00, w ∈ wsX0_canEndWeek := fun w h => List.mem_cons_of_mem _ (List.mem_append_right _ h)
  have hl := lv_entry ([.ref (a 0)]) (n := 1) (Nat.le_of_ble_eq_true rfl)
  rw [lg_entry_eq]
  generalize (lg_sl ([.ref (a 0)]) ++ List.replicate (1 - (lg_sl ([.ref (a 0)])).length) Slot.unset).toArray = ls at hl ⊢
  have hl : lv_has ls 1 [(0, .ref (a 0))] := hl
  refine lv_aload_n hx hb dX0_canEndWeek_0 rfl (lv_at hl 0 rfl) ?_
  refine va_get (D := D) (ci := 0) (v := .int (B 8 4)) (C := RX0) (T := TX0) (N := 16) hx hb hts hi0 hown hK hP 0 rfl rfl 12 (by decide) (hts (.fieldLink RX0 53 "PledgedLoans$Books" "weeksEnded" "I") (List.mem_of_getElem? (i := 1) rfl)) (fun _ h9 => h9) rfl dX0_canEndWeek_1 ?_
  refine lv_sipush (v := 9999) hx hb dX0_canEndWeek_4 (by decide) ?_
  refine lv_icmp_ge (tgt := 14) hx hb dX0_canEndWeek_7 (by decide) (fun c_1 => ?_) (fun c_1 => ?_)
  · refine lv_iconst (v := 0) hx hb dX0_canEndWeek_14 (by decide) ?_
    exact z_zretE hx hb hr hlocks dX0_canEndWeek_15 rfl (by simp only [f_X0_canEndWeek, if_pos c_1])
  · refine lv_iconst (v := 1) hx hb dX0_canEndWeek_10 (by decide) ?_
    refine lv_goto (tgt := 15) hx hb dX0_canEndWeek_11 (by decide) ?_
    exact z_zretE hx hb hr hlocks dX0_canEndWeek_15 rfl (by simp only [f_X0_canEndWeek, if_neg c_1])

theorem zy_X0_takeDue : yX0_takeDue.cls = RX0 ∧ yX0_takeDue.cls ≠ "java/lang/invoke/MethodHandle" ∧ yX0_takeDue.cls ≠ "java/lang/invoke/VarHandle" ∧ (parseMethodDescriptor yX0_takeDue.desc).map (fun d => d.parameters.length) = some 1 := by decide +kernel
def f_X0_takeDue_34 (B : BK) (mb : Nat) (i0 : Int32) (i1 : BK) : Nat → Int32 × BK
  | 0 => (i0, i1)
  | n + 1 =>
    let y0_34 : Int32 := (f_X0_takeDue_34 B mb i0 i1 n).1
    let y1_34 : BK := (f_X0_takeDue_34 B mb i0 i1 n).2
    let M_3 : BK := uB y1_34 0 n ((y1_34 0 n) - (zmin y0_34 (y1_34 2 (n * 6 + mb))))
    let M_4 : BK := uB M_3 2 (n * 6 + mb) ((M_3 2 (n * 6 + mb)) - (zmin y0_34 (y1_34 2 (n * 6 + mb))))
    (y0_34 - (zmin y0_34 (y1_34 2 (n * 6 + mb))), M_4)
def f_X0_takeDue (B : BK) (mb : Nat) : BK :=
  let M_1 : BK := uB B 0 mb ((B 0 mb) - (zmin (B 3 mb) (f_X0_ownLeft B mb)))
  let y0_34 : Int32 := (f_X0_takeDue_34 B mb ((B 3 mb) - (zmin (B 3 mb) (f_X0_ownLeft B mb))) M_1 6).1
  let y1_34 : BK := (f_X0_takeDue_34 B mb ((B 3 mb) - (zmin (B 3 mb) (f_X0_ownLeft B mb))) M_1 6).2
  uB y1_34 3 mb 0

set_option maxHeartbeats 4000000 in
set_option maxRecDepth 100000 in
theorem zc_X0_takeDue (l : Launch) (D : va_G) (cA : Nat → ClassId) (a : Nat → Nat) (B : BK) (mb : Nat) (hmb : mb < 6) : Met l yX0_takeDue wsX0_takeDue (zrm 2 45) (zPc D cA [.ref (a 0), .int (nI mb)] (bkW (cA 0) a B)) (zM D (bkW (cA 0) a B) (bkW (cA 0) a (f_X0_takeDue B mb)) none) 0 0 (zfr (bkW (cA 0) a B)) := by
  refine Met.ofW (cc := cX0_takeDue) (maxL := 7) (ret := none) (by decide) rfl ?_
  intro p e s m args below meth c s₁ Bd hml hv
  obtain ⟨rfl, hP, hK, hD0⟩ := hv
  have hx := Bd.exec
  have hb := Bd.bytes
  have hr := Bd.returns
  have hts := atoms_spec (ws := wsX0_takeDue) Bd.pre
  have hown : s.vm.findClass RX0 = some m.cls := findClass_of_methodNamed Bd.named
  have hlocks := Bd.notSynchronized
  have hD := z_Dfr hD0
  have hS : va_S (zfr (bkW (cA 0) a B)) s.heap s.heap [] := va_S.rf
  have hi0 : ∀ w ∈ wsX00, w ∈ wsX0_takeDue := fun w h => List.mem_cons_of_mem _ (List.mem_append_right _ h)
  have hl := lv_entry ([.ref (a 0), .int (nI mb)]) (n := 7) (Nat.le_of_ble_eq_true rfl)
  rw [lg_entry_eq]
  generalize (lg_sl ([.ref (a 0), .int (nI mb)]) ++ List.replicate (7 - (lg_sl ([.ref (a 0), .int (nI mb)])).length) Slot.unset).toArray = ls at hl ⊢
  have hl : lv_has ls 7 [(0, .ref (a 0)), (1, .int (nI mb))] := hl
  refine lv_aload_n hx hb dX0_takeDue_0 rfl (lv_at hl 0 rfl) ?_
  refine va_get (D := D) (ci := 0) (v := .ref (a 4)) (C := RX0) (T := TX0) (N := 16) hx hb hts hi0 hown hK hP 0 rfl rfl 3 (by decide) (hts (.fieldLink RX0 21 "PledgedLoans$Books" "rest" "[I") (List.mem_of_getElem? (i := 1) rfl)) (fun _ h9 => h9) rfl dX0_takeDue_1 ?_
  refine lv_iload_n hx hb dX0_takeDue_4 rfl (lv_at hl 1 rfl) ?_
  refine z_iald (j := mb) hx hb hK hP 4 0 rfl rfl dX0_takeDue_5 (by omega) (by decide) ?_
  refine lv_istore_n (lv' := [(2, .int (B 3 mb)), (0, .ref (a 0)), (1, .int (nI mb))]) hx hb dX0_takeDue_6 rfl hl (by decide) rfl (fun ls hl => ?_)
  refine lv_iload_n hx hb dX0_takeDue_7 rfl (lv_at hl 0 rfl) ?_
  refine lv_aload_n hx hb dX0_takeDue_8 rfl (lv_at hl 1 rfl) ?_
  refine lv_iload_n hx hb dX0_takeDue_9 rfl (lv_at hl 2 rfl) ?_
  refine z_E (va_runV (As := [.int (nI mb)]) (rest := [.int (B 3 mb)]) ⟨hx, hb, hml, hown, hts⟩ (zc_X0_ownLeft l D cA a B mb (by omega)) (cwV 1 hts gX0_takeDue_X0_ownLeft rfl rfl rfl zy_X0_ownLeft ⟨Nat.le_of_ble_eq_true rfl, Nat.le_of_ble_eq_true rfl⟩) (z_preV (ci := 0) hK hP hD rfl rfl) rfl rfl hl.1 rfl (lv_room (Nat.le_of_ble_eq_true rfl)) dX0_takeDue_10 ⟨Nat.zero_le _, Nat.zero_le _⟩) rfl ?_
  refine va_mmin hx hb (by rw [hml]; exact hl.1.symm) hown (hts (.methodLink RX0 65 Lib.Math.min.name) (List.mem_of_getElem? (i := 2) rfl)) (hts (.static Lib.Math.min.name) (List.mem_of_getElem? (i := 3) rfl)) (hts (.initialized "java/lang/Math") (List.mem_of_getElem? (i := 4) rfl)) (hts (.code Lib.Math.min.name Lib.Math.min.code 2 (some .int)) (List.mem_of_getElem? (i := 5) rfl)) (Nat.le_of_ble_eq_true rfl) (Nat.le_of_ble_eq_true rfl) (Nat.zero_le _) (Nat.zero_le _) dX0_takeDue_13 ?_
  refine z_top (y := zmin (B 3 mb) (f_X0_ownLeft B mb)) rfl ?_
  refine lv_istore_n (lv' := [(3, .int (zmin (B 3 mb) (f_X0_ownLeft B mb))), (2, .int (B 3 mb)), (0, .ref (a 0)), (1, .int (nI mb))]) hx hb dX0_takeDue_16 rfl hl (by decide) rfl (fun ls hl => ?_)
  refine lv_aload_n hx hb dX0_takeDue_17 rfl (lv_at hl 2 rfl) ?_
  refine va_get (D := D) (ci := 0) (v := .ref (a 1)) (C := RX0) (T := TX0) (N := 16) hx hb hts hi0 hown hK hP 0 rfl rfl 0 (by decide) (hts (.fieldLink RX0 9 "PledgedLoans$Books" "shares" "[I") (List.mem_of_getElem? (i := 6) rfl)) (fun _ h9 => h9) rfl dX0_takeDue_18 ?_
  refine lv_iload_n hx hb dX0_takeDue_21 rfl (lv_at hl 3 rfl) ?_
  refine lv_dup2_11 hx hb dX0_takeDue_22 rfl rfl ?_
  refine z_iald (j := mb) hx hb hK hP 1 0 rfl rfl dX0_takeDue_23 (by omega) (by decide) ?_
  refine lv_iload_n hx hb dX0_takeDue_24 rfl (lv_at hl 0 rfl) ?_
  refine lv_isub hx hb dX0_takeDue_25 ?_
  refine z_iast (j := mb) hx hb hK hP hD hS 1 0 rfl rfl dX0_takeDue_26 (by omega) (by decide) (bkW (cA 0) a (uB B 0 mb ((B 0 mb) - (zmin (B 3 mb) (f_X0_ownLeft B mb))))) rfl (fun H locs hP hD hS => ?_)
  obtain ⟨M_1, eM_1⟩ : ∃ z9 : BK, z9 = uB B 0 mb ((B 0 mb) - (zmin (B 3 mb) (f_X0_ownLeft B mb))) := ⟨_, rfl⟩
  rw [← eM_1] at hP hD
  refine lv_iload_n hx hb dX0_takeDue_27 rfl (lv_at hl 1 rfl) ?_
  refine lv_iload_n hx hb dX0_takeDue_28 rfl (lv_at hl 0 rfl) ?_
  refine lv_isub hx hb dX0_takeDue_29 ?_
  refine lv_istore_n (lv' := [(2, .int ((B 3 mb) - (zmin (B 3 mb) (f_X0_ownLeft B mb)))), (3, .int (zmin (B 3 mb) (f_X0_ownLeft B mb))), (0, .ref (a 0)), (1, .int (nI mb))]) hx hb dX0_takeDue_30 rfl hl (by decide) rfl (fun ls hl => ?_)
  refine lv_iconst (v := 0) hx hb dX0_takeDue_31 (by decide) ?_
  refine lv_istore (lv' := [(4, .int 0), (2, .int ((B 3 mb) - (zmin (B 3 mb) (f_X0_ownLeft B mb)))), (3, .int (zmin (B 3 mb) (f_X0_ownLeft B mb))), (0, .ref (a 0)), (1, .int (nI mb))]) hx hb dX0_takeDue_32 hl (by decide) rfl (fun ls hl => ?_)
  have loop_34 : ∀ (kk : Nat) (n : Nat) (y0_34 : Int32) (y1_34 : BK), n ≤ 6 → 6 - n < kk → y0_34 = (f_X0_takeDue_34 B mb ((B 3 mb) - (zmin (B 3 mb) (f_X0_ownLeft B mb))) M_1 n).1 → y1_34 = (f_X0_takeDue_34 B mb ((B 3 mb) - (zmin (B 3 mb) (f_X0_ownLeft B mb))) M_1 n).2 → ∀ (H : Heap) (locs : List Loc), va_P D vwCl (bkW (cA 0) a y1_34) H → va_D (zfr (bkW (cA 0) a B)) (bkW (cA 0) a y1_34) → va_S (zfr (bkW (cA 0) a B)) s.heap H locs → ∀ (ls : Array Slot), lv_has ls 7 [(0, .ref (a 0)), (1, .int (nI mb)), (2, .int y0_34), (4, .int (nI n))] → W p l e (headSpec wsX0_takeDue (zrm 2 45)).room s m ([.ref (a 0), .int (nI mb)] : List Value).toArray below meth c H locs 0 0 (MQ below (zM D (bkW (cA 0) a B) (bkW (cA 0) a (f_X0_takeDue B mb)) none) ([.ref (a 0), .int (nI mb)] : List Value).toArray s 0 0 (zfr (bkW (cA 0) a B))) (F0 m 34 ls []) := by
    intro kk
    induction kk with
    | zero => intro n y0_34 y1_34 _ h9; exact absurd h9 (Nat.not_lt_zero _)
    | succ kk ih_34 =>
      intro n y0_34 y1_34 hn_34 hm_34 q_y0_34 q_y1_34 H locs hP hD hS ls hl
      refine lv_iload hx hb dX0_takeDue_34 (lv_at hl 3 rfl) ?_
      refine lv_bipush (v := 6) hx hb dX0_takeDue_36 (by decide) ?_
      refine lv_icmp_ge (tgt := 97) hx hb dX0_takeDue_38 (by decide) (fun c_2 => ?_) (fun c_2 => ?_)
      · have c_2 : 6 ≤ n := (nI_leI (a := 6) (b := n) (by omega) (by omega)).mp c_2
        obtain rfl : n = 6 := by omega
        refine lv_aload_n hx hb dX0_takeDue_97 rfl (lv_at hl 0 rfl) ?_
        refine va_get (D := D) (ci := 0) (v := .ref (a 4)) (C := RX0) (T := TX0) (N := 16) hx hb hts hi0 hown hK hP 0 rfl rfl 3 (by decide) (hts (.fieldLink RX0 21 "PledgedLoans$Books" "rest" "[I") (List.mem_of_getElem? (i := 1) rfl)) (fun _ h9 => h9) rfl dX0_takeDue_98 ?_
        refine lv_iload_n hx hb dX0_takeDue_101 rfl (lv_at hl 1 rfl) ?_
        refine lv_iconst (v := 0) hx hb dX0_takeDue_102 (by decide) ?_
        refine z_iast (j := mb) hx hb hK hP hD hS 4 0 rfl rfl dX0_takeDue_103 (by omega) (by decide) (bkW (cA 0) a (uB y1_34 3 mb 0)) rfl (fun H locs hP hD hS => ?_)
        exact z_vretM (w1 := bkW (cA 0) a (uB y1_34 3 mb 0)) hx hb hr hlocks dX0_takeDue_104 hP hS (by subst q_y1_34 q_y0_34 eM_1; first | (simp -proj only [f_X0_takeDue]; first | done | rfl; done) | rfl)
      · have c_2 : ¬ 6 ≤ n := fun h9 => c_2 ((nI_leI (a := 6) (b := n) (by omega) (by omega)).mpr h9)
        refine lv_iload hx hb dX0_takeDue_41 (lv_at hl 3 rfl) ?_
        refine lv_iload_n hx hb dX0_takeDue_43 rfl (lv_at hl 1 rfl) ?_
        refine z_E (va_runS (As := [.int (nI n), .int (nI mb)]) (rest := []) ⟨hx, hb, hml, hown, hts⟩ (zc_X0_place l D cA n mb (by omega) (by omega)) (va_cwS 2 hts gX0_takeDue_X0_place rfl rfl rfl zy_X0_place.2 ⟨Nat.le_of_ble_eq_true rfl, Nat.le_of_ble_eq_true rfl⟩) (z_preS hK z_P0 (z_D0 (A := fun _ => True))) rfl rfl hl.1 rfl (lv_room (Nat.le_of_ble_eq_true rfl)) dX0_takeDue_44 ⟨Nat.zero_le _, Nat.zero_le _⟩) rfl ?_
        refine z_top (y := nI (n * 6 + mb)) rfl ?_
        refine lv_istore (lv' := [(5, .int (nI (n * 6 + mb))), (0, .ref (a 0)), (1, .int (nI mb)), (2, .int y0_34), (4, .int (nI n))]) hx hb dX0_takeDue_47 hl (by decide) rfl (fun ls hl => ?_)
        refine lv_iload_n hx hb dX0_takeDue_49 rfl (lv_at hl 3 rfl) ?_
        refine lv_aload_n hx hb dX0_takeDue_50 rfl (lv_at hl 1 rfl) ?_
        refine va_get (D := D) (ci := 0) (v := .ref (a 3)) (C := RX0) (T := TX0) (N := 16) hx hb hts hi0 hown hK hP 0 rfl rfl 2 (by decide) (hts (.fieldLink RX0 18 "PledgedLoans$Books" "pledges" "[I") (List.mem_of_getElem? (i := 7) rfl)) (fun _ h9 => h9) rfl dX0_takeDue_51 ?_
        refine lv_iload hx hb dX0_takeDue_54 (lv_at hl 0 rfl) ?_
        refine z_iald (j := n * 6 + mb) hx hb hK hP 3 0 rfl rfl dX0_takeDue_56 (by omega) (by decide) ?_
        refine va_mmin hx hb (by rw [hml]; exact hl.1.symm) hown (hts (.methodLink RX0 65 Lib.Math.min.name) (List.mem_of_getElem? (i := 2) rfl)) (hts (.static Lib.Math.min.name) (List.mem_of_getElem? (i := 3) rfl)) (hts (.initialized "java/lang/Math") (List.mem_of_getElem? (i := 4) rfl)) (hts (.code Lib.Math.min.name Lib.Math.min.code 2 (some .int)) (List.mem_of_getElem? (i := 5) rfl)) (Nat.le_of_ble_eq_true rfl) (Nat.le_of_ble_eq_true rfl) (Nat.zero_le _) (Nat.zero_le _) dX0_takeDue_57 ?_
        refine z_top (y := zmin y0_34 (y1_34 2 (n * 6 + mb))) rfl ?_
        refine lv_istore (lv' := [(6, .int (zmin y0_34 (y1_34 2 (n * 6 + mb)))), (5, .int (nI (n * 6 + mb))), (0, .ref (a 0)), (1, .int (nI mb)), (2, .int y0_34), (4, .int (nI n))]) hx hb dX0_takeDue_60 hl (by decide) rfl (fun ls hl => ?_)
        refine lv_aload_n hx hb dX0_takeDue_62 rfl (lv_at hl 2 rfl) ?_
        refine va_get (D := D) (ci := 0) (v := .ref (a 1)) (C := RX0) (T := TX0) (N := 16) hx hb hts hi0 hown hK hP 0 rfl rfl 0 (by decide) (hts (.fieldLink RX0 9 "PledgedLoans$Books" "shares" "[I") (List.mem_of_getElem? (i := 6) rfl)) (fun _ h9 => h9) rfl dX0_takeDue_63 ?_
        refine lv_iload hx hb dX0_takeDue_66 (lv_at hl 5 rfl) ?_
        refine lv_dup2_11 hx hb dX0_takeDue_68 rfl rfl ?_
        refine z_iald (j := n) hx hb hK hP 1 0 rfl rfl dX0_takeDue_69 (by omega) (by decide) ?_
        refine lv_iload hx hb dX0_takeDue_70 (lv_at hl 0 rfl) ?_
        refine lv_isub hx hb dX0_takeDue_72 ?_
        refine z_iast (j := n) hx hb hK hP hD hS 1 0 rfl rfl dX0_takeDue_73 (by omega) (by decide) (bkW (cA 0) a (uB y1_34 0 n ((y1_34 0 n) - (zmin y0_34 (y1_34 2 (n * 6 + mb)))))) rfl (fun H locs hP hD hS => ?_)
        obtain ⟨M_3, eM_3⟩ : ∃ z9 : BK, z9 = uB y1_34 0 n ((y1_34 0 n) - (zmin y0_34 (y1_34 2 (n * 6 + mb)))) := ⟨_, rfl⟩
        rw [← eM_3] at hP hD
        refine lv_aload_n hx hb dX0_takeDue_74 rfl (lv_at hl 2 rfl) ?_
        refine va_get (D := D) (ci := 0) (v := .ref (a 3)) (C := RX0) (T := TX0) (N := 16) hx hb hts hi0 hown hK hP 0 rfl rfl 2 (by decide) (hts (.fieldLink RX0 18 "PledgedLoans$Books" "pledges" "[I") (List.mem_of_getElem? (i := 7) rfl)) (fun _ h9 => h9) rfl dX0_takeDue_75 ?_
        refine lv_iload hx hb dX0_takeDue_78 (lv_at hl 1 rfl) ?_
        refine lv_dup2_11 hx hb dX0_takeDue_80 rfl rfl ?_
        refine z_iald (j := n * 6 + mb) hx hb hK hP 3 0 rfl rfl dX0_takeDue_81 (by omega) (by decide) ?_
        refine lv_iload hx hb dX0_takeDue_82 (lv_at hl 0 rfl) ?_
        refine lv_isub hx hb dX0_takeDue_84 ?_
        refine z_iast (j := n * 6 + mb) hx hb hK hP hD hS 3 0 rfl rfl dX0_takeDue_85 (by omega) (by decide) (bkW (cA 0) a (uB M_3 2 (n * 6 + mb) ((M_3 2 (n * 6 + mb)) - (zmin y0_34 (y1_34 2 (n * 6 + mb)))))) rfl (fun H locs hP hD hS => ?_)
        obtain ⟨M_4, eM_4⟩ : ∃ z9 : BK, z9 = uB M_3 2 (n * 6 + mb) ((M_3 2 (n * 6 + mb)) - (zmin y0_34 (y1_34 2 (n * 6 + mb)))) := ⟨_, rfl⟩
        rw [← eM_4] at hP hD
        refine lv_iload_n hx hb dX0_takeDue_86 rfl (lv_at hl 4 rfl) ?_
        refine lv_iload hx hb dX0_takeDue_87 (lv_at hl 0 rfl) ?_
        refine lv_isub hx hb dX0_takeDue_89 ?_
        refine lv_istore_n (lv' := [(2, .int (y0_34 - (zmin y0_34 (y1_34 2 (n * 6 + mb))))), (6, .int (zmin y0_34 (y1_34 2 (n * 6 + mb)))), (5, .int (nI (n * 6 + mb))), (0, .ref (a 0)), (1, .int (nI mb)), (4, .int (nI n))]) hx hb dX0_takeDue_90 rfl hl (by decide) rfl (fun ls hl => ?_)
        refine lv_iinc (v := nI (n + 1)) (lv' := [(4, .int (nI (n + 1))), (2, .int (y0_34 - (zmin y0_34 (y1_34 2 (n * 6 + mb))))), (6, .int (zmin y0_34 (y1_34 2 (n * 6 + mb)))), (5, .int (nI (n * 6 + mb))), (0, .ref (a 0)), (1, .int (nI mb))]) hx hb dX0_takeDue_91 hl (k := 5) rfl (by rw [show (Int32.ofInt 1) = nI 1 from by decide]; exact nI_add n 1) (by decide) rfl (fun ls hl => ?_)
        refine lv_goto (tgt := 34) hx hb dX0_takeDue_94 (by decide) ?_
        exact ih_34 (n + 1) _ _ (by omega) (by omega) (by subst eM_4 eM_3 q_y1_34 q_y0_34 eM_1; first | (simp only [f_X0_takeDue_34]; done) | rfl) (by subst eM_4 eM_3 q_y1_34 q_y0_34 eM_1; first | (simp only [f_X0_takeDue_34]; done) | rfl) _ _ hP hD hS ls (lv_sub hl [4, 5, 1, 0] rfl)
  exact loop_34 _ 0 _ _ (by omega) (Nat.lt_succ_self _) rfl rfl _ _ hP hD hS ls (lv_sub hl [3, 4, 1, 0] rfl)

theorem zy_X0_endWeekOf : yX0_endWeekOf.cls = RX0 ∧ yX0_endWeekOf.cls ≠ "java/lang/invoke/MethodHandle" ∧ yX0_endWeekOf.cls ≠ "java/lang/invoke/VarHandle" ∧ (parseMethodDescriptor yX0_endWeekOf.desc).map (fun d => d.parameters.length) = some 1 := by decide +kernel
def f_X0_endWeekOf (B : BK) (mb : Nat) : Int32 × BK :=
  if (B 4 mb) ≤ (B 5 mb) then
    if ((uB (uB B 6 mb 0) 5 mb 0) 7 1) ≤ ((uB (uB B 6 mb 0) 5 mb 0) 6 mb) then
      let M_3 : BK := f_X0_takeDue (uB (uB B 6 mb 0) 5 mb 0) mb
      (1, M_3)
    else
      (0, uB (uB B 6 mb 0) 5 mb 0)
  else
    if ((uB (uB B 6 mb ((B 6 mb) + 1)) 5 mb 0) 7 1) ≤ ((uB (uB B 6 mb ((B 6 mb) + 1)) 5 mb 0) 6 mb) then
      let M_5 : BK := f_X0_takeDue (uB (uB B 6 mb ((B 6 mb) + 1)) 5 mb 0) mb
      (1, M_5)
    else
      (0, uB (uB B 6 mb ((B 6 mb) + 1)) 5 mb 0)

theorem zb_X0_endWeekOf (B : BK) (mb : Nat) : narrow .boolean (.int ((f_X0_endWeekOf B mb).1)) = .int ((f_X0_endWeekOf B mb).1) := by
  unfold f_X0_endWeekOf; repeat' split
  all_goals (first | rfl | (dsimp only; rfl))
set_option maxHeartbeats 4000000 in
set_option maxRecDepth 100000 in
theorem zc_X0_endWeekOf (l : Launch) (D : va_G) (cA : Nat → ClassId) (a : Nat → Nat) (B : BK) (mb : Nat) (hmb : mb < 6) : Met l yX0_endWeekOf wsX0_endWeekOf (zrm 3 71) (zPc D cA [.ref (a 0), .int (nI mb)] (bkW (cA 0) a B)) (zM D (bkW (cA 0) a B) (bkW (cA 0) a ((f_X0_endWeekOf B mb).2)) (some (.int ((f_X0_endWeekOf B mb).1)))) 0 0 (zfr (bkW (cA 0) a B)) := by
  refine Met.ofW (cc := cX0_endWeekOf) (maxL := 2) (ret := (some .boolean)) (by decide) rfl ?_
  intro p e s m args below meth c s₁ Bd hml hv
  obtain ⟨rfl, hP, hK, hD0⟩ := hv
  have hx := Bd.exec
  have hb := Bd.bytes
  have hr := Bd.returns
  have hts := atoms_spec (ws := wsX0_endWeekOf) Bd.pre
  have hown : s.vm.findClass RX0 = some m.cls := findClass_of_methodNamed Bd.named
  have hlocks := Bd.notSynchronized
  have hD := z_Dfr hD0
  have hS : va_S (zfr (bkW (cA 0) a B)) s.heap s.heap [] := va_S.rf
  have hi0 : ∀ w ∈ wsX00, w ∈ wsX0_endWeekOf := fun w h => List.mem_cons_of_mem _ (List.mem_append_right _ h)
  have hl := lv_entry ([.ref (a 0), .int (nI mb)]) (n := 2) (Nat.le_of_ble_eq_true rfl)
  rw [lg_entry_eq]
  generalize (lg_sl ([.ref (a 0), .int (nI mb)]) ++ List.replicate (2 - (lg_sl ([.ref (a 0), .int (nI mb)])).length) Slot.unset).toArray = ls at hl ⊢
  have hl : lv_has ls 2 [(0, .ref (a 0)), (1, .int (nI mb))] := hl
  refine lv_aload_n hx hb dX0_endWeekOf_0 rfl (lv_at hl 0 rfl) ?_
  refine va_get (D := D) (ci := 0) (v := .ref (a 7)) (C := RX0) (T := TX0) (N := 16) hx hb hts hi0 hown hK hP 0 rfl rfl 6 (by decide) (hts (.fieldLink RX0 30 "PledgedLoans$Books" "misses" "[I") (List.mem_of_getElem? (i := 1) rfl)) (fun _ h9 => h9) rfl dX0_endWeekOf_1 ?_
  refine lv_iload_n hx hb dX0_endWeekOf_4 rfl (lv_at hl 1 rfl) ?_
  refine lv_aload_n hx hb dX0_endWeekOf_5 rfl (lv_at hl 0 rfl) ?_
  refine va_get (D := D) (ci := 0) (v := .ref (a 6)) (C := RX0) (T := TX0) (N := 16) hx hb hts hi0 hown hK hP 0 rfl rfl 5 (by decide) (hts (.fieldLink RX0 27 "PledgedLoans$Books" "paid" "[I") (List.mem_of_getElem? (i := 2) rfl)) (fun _ h9 => h9) rfl dX0_endWeekOf_6 ?_
  refine lv_iload_n hx hb dX0_endWeekOf_9 rfl (lv_at hl 1 rfl) ?_
  refine z_iald (j := mb) hx hb hK hP 6 0 rfl rfl dX0_endWeekOf_10 (by omega) (by decide) ?_
  refine lv_aload_n hx hb dX0_endWeekOf_11 rfl (lv_at hl 0 rfl) ?_
  refine va_get (D := D) (ci := 0) (v := .ref (a 5)) (C := RX0) (T := TX0) (N := 16) hx hb hts hi0 hown hK hP 0 rfl rfl 4 (by decide) (hts (.fieldLink RX0 24 "PledgedLoans$Books" "part" "[I") (List.mem_of_getElem? (i := 3) rfl)) (fun _ h9 => h9) rfl dX0_endWeekOf_12 ?_
  refine lv_iload_n hx hb dX0_endWeekOf_15 rfl (lv_at hl 1 rfl) ?_
  refine z_iald (j := mb) hx hb hK hP 5 0 rfl rfl dX0_endWeekOf_16 (by omega) (by decide) ?_
  refine lv_icmp_ge (tgt := 31) hx hb dX0_endWeekOf_17 (by decide) (fun c_1 => ?_) (fun c_1 => ?_)
  · refine lv_iconst (v := 0) hx hb dX0_endWeekOf_31 (by decide) ?_
    refine z_iast (j := mb) hx hb hK hP hD hS 7 0 rfl rfl dX0_endWeekOf_32 (by omega) (by decide) (bkW (cA 0) a (uB B 6 mb 0)) rfl (fun H locs hP hD hS => ?_)
    refine lv_aload_n hx hb dX0_endWeekOf_33 rfl (lv_at hl 0 rfl) ?_
    refine va_get (D := D) (ci := 0) (v := .ref (a 6)) (C := RX0) (T := TX0) (N := 16) hx hb hts hi0 hown hK hP 0 rfl rfl 5 (by decide) (hts (.fieldLink RX0 27 "PledgedLoans$Books" "paid" "[I") (List.mem_of_getElem? (i := 2) rfl)) (fun _ h9 => h9) rfl dX0_endWeekOf_34 ?_
    refine lv_iload_n hx hb dX0_endWeekOf_37 rfl (lv_at hl 1 rfl) ?_
    refine lv_iconst (v := 0) hx hb dX0_endWeekOf_38 (by decide) ?_
    refine z_iast (j := mb) hx hb hK hP hD hS 6 0 rfl rfl dX0_endWeekOf_39 (by omega) (by decide) (bkW (cA 0) a (uB (uB B 6 mb 0) 5 mb 0)) rfl (fun H locs hP hD hS => ?_)
    refine lv_aload_n hx hb dX0_endWeekOf_40 rfl (lv_at hl 0 rfl) ?_
    refine va_get (D := D) (ci := 0) (v := .ref (a 7)) (C := RX0) (T := TX0) (N := 16) hx hb hts hi0 hown hK hP 0 rfl rfl 6 (by decide) (hts (.fieldLink RX0 30 "PledgedLoans$Books" "misses" "[I") (List.mem_of_getElem? (i := 1) rfl)) (fun _ h9 => h9) rfl dX0_endWeekOf_41 ?_
    refine lv_iload_n hx hb dX0_endWeekOf_44 rfl (lv_at hl 1 rfl) ?_
    refine z_iald (j := mb) hx hb hK hP 7 0 rfl rfl dX0_endWeekOf_45 (by omega) (by decide) ?_
    refine lv_aload_n hx hb dX0_endWeekOf_46 rfl (lv_at hl 0 rfl) ?_
    refine va_get (D := D) (ci := 0) (v := .ref (a 8)) (C := RX0) (T := TX0) (N := 16) hx hb hts hi0 hown hK hP 0 rfl rfl 7 (by decide) (hts (.fieldLink RX0 33 "PledgedLoans$Books" "settings" "[I") (List.mem_of_getElem? (i := 4) rfl)) (fun _ h9 => h9) rfl dX0_endWeekOf_47 ?_
    refine lv_iconst (v := 1) hx hb dX0_endWeekOf_50 (by decide) ?_
    refine z_iald (j := 1) hx hb hK hP 8 0 rfl rfl dX0_endWeekOf_51 (by omega) (by decide) ?_
    refine lv_icmp_ge (tgt := 57) hx hb dX0_endWeekOf_52 (by decide) (fun c_2 => ?_) (fun c_2 => ?_)
    · refine lv_aload_n hx hb dX0_endWeekOf_57 rfl (lv_at hl 0 rfl) ?_
      refine lv_iload_n hx hb dX0_endWeekOf_58 rfl (lv_at hl 1 rfl) ?_
      refine z_M (X := ([] : va_W)) (Z := ([] : va_W)) (va_runV (As := [.int (nI mb)]) (rest := []) ⟨hx, hb, hml, hown, hts⟩ (zc_X0_takeDue l D cA a (uB (uB B 6 mb 0) 5 mb 0) mb (by omega)) (cwV 1 hts gX0_endWeekOf_X0_takeDue rfl rfl rfl zy_X0_takeDue ⟨Nat.le_of_ble_eq_true rfl, Nat.le_of_ble_eq_true rfl⟩) (z_preV (ci := 0) hK hP hD rfl rfl) rfl rfl hl.1 rfl (lv_room (Nat.le_of_ble_eq_true rfl)) dX0_endWeekOf_59 ⟨Nat.zero_le _, Nat.zero_le _⟩) hP hD hS rfl rfl (fun H locs hP hD hS => ?_)
      have hP : va_P D vwCl (bkW (cA 0) a (f_X0_takeDue (uB (uB B 6 mb 0) 5 mb 0) mb)) H := hP
      have hD : va_D _ (bkW (cA 0) a (f_X0_takeDue (uB (uB B 6 mb 0) 5 mb 0) mb)) := hD
      obtain ⟨M_3, eM_3⟩ : ∃ z9 : BK, z9 = f_X0_takeDue (uB (uB B 6 mb 0) 5 mb 0) mb := ⟨_, rfl⟩
      rw [← eM_3] at hP hD
      refine lv_iconst (v := 1) hx hb dX0_endWeekOf_62 (by decide) ?_
      exact z_zretM (w1 := bkW (cA 0) a M_3) hx hb hr hlocks dX0_endWeekOf_63 hP hS rfl (by subst eM_3; simp only [f_X0_endWeekOf, if_pos c_1, if_pos c_2]) (by subst eM_3; simp only [f_X0_endWeekOf, if_pos c_1, if_pos c_2])
    · refine lv_iconst (v := 0) hx hb dX0_endWeekOf_55 (by decide) ?_
      exact z_zretM (w1 := bkW (cA 0) a (uB (uB B 6 mb 0) 5 mb 0)) hx hb hr hlocks dX0_endWeekOf_56 hP hS rfl (by simp only [f_X0_endWeekOf, if_pos c_1, if_neg c_2]) (by simp only [f_X0_endWeekOf, if_pos c_1, if_neg c_2])
  · refine lv_aload_n hx hb dX0_endWeekOf_20 rfl (lv_at hl 0 rfl) ?_
    refine va_get (D := D) (ci := 0) (v := .ref (a 7)) (C := RX0) (T := TX0) (N := 16) hx hb hts hi0 hown hK hP 0 rfl rfl 6 (by decide) (hts (.fieldLink RX0 30 "PledgedLoans$Books" "misses" "[I") (List.mem_of_getElem? (i := 1) rfl)) (fun _ h9 => h9) rfl dX0_endWeekOf_21 ?_
    refine lv_iload_n hx hb dX0_endWeekOf_24 rfl (lv_at hl 1 rfl) ?_
    refine z_iald (j := mb) hx hb hK hP 7 0 rfl rfl dX0_endWeekOf_25 (by omega) (by decide) ?_
    refine lv_iconst (v := 1) hx hb dX0_endWeekOf_26 (by decide) ?_
    refine lv_iadd hx hb dX0_endWeekOf_27 ?_
    refine lv_goto (tgt := 32) hx hb dX0_endWeekOf_28 (by decide) ?_
    refine z_iast (j := mb) hx hb hK hP hD hS 7 0 rfl rfl dX0_endWeekOf_32 (by omega) (by decide) (bkW (cA 0) a (uB B 6 mb ((B 6 mb) + 1))) rfl (fun H locs hP hD hS => ?_)
    refine lv_aload_n hx hb dX0_endWeekOf_33 rfl (lv_at hl 0 rfl) ?_
    refine va_get (D := D) (ci := 0) (v := .ref (a 6)) (C := RX0) (T := TX0) (N := 16) hx hb hts hi0 hown hK hP 0 rfl rfl 5 (by decide) (hts (.fieldLink RX0 27 "PledgedLoans$Books" "paid" "[I") (List.mem_of_getElem? (i := 2) rfl)) (fun _ h9 => h9) rfl dX0_endWeekOf_34 ?_
    refine lv_iload_n hx hb dX0_endWeekOf_37 rfl (lv_at hl 1 rfl) ?_
    refine lv_iconst (v := 0) hx hb dX0_endWeekOf_38 (by decide) ?_
    refine z_iast (j := mb) hx hb hK hP hD hS 6 0 rfl rfl dX0_endWeekOf_39 (by omega) (by decide) (bkW (cA 0) a (uB (uB B 6 mb ((B 6 mb) + 1)) 5 mb 0)) rfl (fun H locs hP hD hS => ?_)
    refine lv_aload_n hx hb dX0_endWeekOf_40 rfl (lv_at hl 0 rfl) ?_
    refine va_get (D := D) (ci := 0) (v := .ref (a 7)) (C := RX0) (T := TX0) (N := 16) hx hb hts hi0 hown hK hP 0 rfl rfl 6 (by decide) (hts (.fieldLink RX0 30 "PledgedLoans$Books" "misses" "[I") (List.mem_of_getElem? (i := 1) rfl)) (fun _ h9 => h9) rfl dX0_endWeekOf_41 ?_
    refine lv_iload_n hx hb dX0_endWeekOf_44 rfl (lv_at hl 1 rfl) ?_
    refine z_iald (j := mb) hx hb hK hP 7 0 rfl rfl dX0_endWeekOf_45 (by omega) (by decide) ?_
    refine lv_aload_n hx hb dX0_endWeekOf_46 rfl (lv_at hl 0 rfl) ?_
    refine va_get (D := D) (ci := 0) (v := .ref (a 8)) (C := RX0) (T := TX0) (N := 16) hx hb hts hi0 hown hK hP 0 rfl rfl 7 (by decide) (hts (.fieldLink RX0 33 "PledgedLoans$Books" "settings" "[I") (List.mem_of_getElem? (i := 4) rfl)) (fun _ h9 => h9) rfl dX0_endWeekOf_47 ?_
    refine lv_iconst (v := 1) hx hb dX0_endWeekOf_50 (by decide) ?_
    refine z_iald (j := 1) hx hb hK hP 8 0 rfl rfl dX0_endWeekOf_51 (by omega) (by decide) ?_
    refine lv_icmp_ge (tgt := 57) hx hb dX0_endWeekOf_52 (by decide) (fun c_4 => ?_) (fun c_4 => ?_)
    · refine lv_aload_n hx hb dX0_endWeekOf_57 rfl (lv_at hl 0 rfl) ?_
      refine lv_iload_n hx hb dX0_endWeekOf_58 rfl (lv_at hl 1 rfl) ?_
      refine z_M (X := ([] : va_W)) (Z := ([] : va_W)) (va_runV (As := [.int (nI mb)]) (rest := []) ⟨hx, hb, hml, hown, hts⟩ (zc_X0_takeDue l D cA a (uB (uB B 6 mb ((B 6 mb) + 1)) 5 mb 0) mb (by omega)) (cwV 1 hts gX0_endWeekOf_X0_takeDue rfl rfl rfl zy_X0_takeDue ⟨Nat.le_of_ble_eq_true rfl, Nat.le_of_ble_eq_true rfl⟩) (z_preV (ci := 0) hK hP hD rfl rfl) rfl rfl hl.1 rfl (lv_room (Nat.le_of_ble_eq_true rfl)) dX0_endWeekOf_59 ⟨Nat.zero_le _, Nat.zero_le _⟩) hP hD hS rfl rfl (fun H locs hP hD hS => ?_)
      have hP : va_P D vwCl (bkW (cA 0) a (f_X0_takeDue (uB (uB B 6 mb ((B 6 mb) + 1)) 5 mb 0) mb)) H := hP
      have hD : va_D _ (bkW (cA 0) a (f_X0_takeDue (uB (uB B 6 mb ((B 6 mb) + 1)) 5 mb 0) mb)) := hD
      obtain ⟨M_5, eM_5⟩ : ∃ z9 : BK, z9 = f_X0_takeDue (uB (uB B 6 mb ((B 6 mb) + 1)) 5 mb 0) mb := ⟨_, rfl⟩
      rw [← eM_5] at hP hD
      refine lv_iconst (v := 1) hx hb dX0_endWeekOf_62 (by decide) ?_
      exact z_zretM (w1 := bkW (cA 0) a M_5) hx hb hr hlocks dX0_endWeekOf_63 hP hS rfl (by subst eM_5; simp only [f_X0_endWeekOf, if_neg c_1, if_pos c_4]) (by subst eM_5; simp only [f_X0_endWeekOf, if_neg c_1, if_pos c_4])
    · refine lv_iconst (v := 0) hx hb dX0_endWeekOf_55 (by decide) ?_
      exact z_zretM (w1 := bkW (cA 0) a (uB (uB B 6 mb ((B 6 mb) + 1)) 5 mb 0)) hx hb hr hlocks dX0_endWeekOf_56 hP hS rfl (by simp only [f_X0_endWeekOf, if_neg c_1, if_neg c_4]) (by simp only [f_X0_endWeekOf, if_neg c_1, if_neg c_4])

theorem zy_X0_canAddDays : yX0_canAddDays.cls = RX0 ∧ yX0_canAddDays.cls ≠ "java/lang/invoke/MethodHandle" ∧ yX0_canAddDays.cls ≠ "java/lang/invoke/VarHandle" ∧ (parseMethodDescriptor yX0_canAddDays.desc).map (fun d => d.parameters.length) = some 1 := by decide +kernel
def f_X0_canAddDays_16 (B : BK) (dd : Int32) : Nat → Nat → Int32
  | 0, q => 0
  | k + 1, q =>
    if 6 ≤ q then
      1
    else
      if (((B 1 q).toInt64) + (((B 0 q).toInt64) * ((dd).toInt64))) ≤ (100000000) then
        f_X0_canAddDays_16 B dd k (q + 1)
      else
        0
def f_X0_canAddDays (B : BK) (dd : Int32) : Int32 :=
  if ((B 8 5) + dd) ≤ 9999 then
    f_X0_canAddDays_16 B dd 8 0
  else
    0

theorem zb_X0_canAddDays (B : BK) (dd : Int32) : narrow .boolean (.int (f_X0_canAddDays B dd)) = .int (f_X0_canAddDays B dd) := by
  have h : ∀ (k q : Nat), narrow .boolean (.int (f_X0_canAddDays_16 B dd k q)) = .int (f_X0_canAddDays_16 B dd k q) := by
    intro k
    induction k with
    | zero => intro q; unfold f_X0_canAddDays_16; rfl
    | succ k ih =>
      intro q; unfold f_X0_canAddDays_16; repeat' split
      all_goals (first | rfl | exact ih _)
  unfold f_X0_canAddDays; split
  · exact h _ _
  · rfl
set_option maxHeartbeats 4000000 in
set_option maxRecDepth 100000 in
theorem zc_X0_canAddDays (l : Launch) (D : va_G) (cA : Nat → ClassId) (a : Nat → Nat) (B : BK) (dd : Int32)  : Met l yX0_canAddDays wsX0_canAddDays (zrm 0 0) (zPc D cA [.ref (a 0), .int dd] (bkW (cA 0) a B)) (zE (some (.int (f_X0_canAddDays B dd)))) 0 0 (fun _ => False) := by
  refine Met.ofW (cc := cX0_canAddDays) (maxL := 3) (ret := (some .boolean)) (by decide) rfl ?_
  intro p e s m args below meth c s₁ Bd hml hv
  obtain ⟨rfl, hP, hK, hD0⟩ := hv
  have hx := Bd.exec
  have hb := Bd.bytes
  have hr := Bd.returns
  have hts := atoms_spec (ws := wsX0_canAddDays) Bd.pre
  have hown : s.vm.findClass RX0 = some m.cls := findClass_of_methodNamed Bd.named
  have hlocks := Bd.notSynchronized
  have hD := z_Dfr hD0
  have hS : va_S (zfr (bkW (cA 0) a B)) s.heap s.heap [] := va_S.rf
  have hi0 : ∀ w ∈ wsX00, w ∈ wsX0_canAddDays := fun w h => List.mem_cons_of_mem _ (List.mem_append_right _ h)
  have hl := lv_entry ([.ref (a 0), .int dd]) (n := 3) (Nat.le_of_ble_eq_true rfl)
  rw [lg_entry_eq]
  generalize (lg_sl ([.ref (a 0), .int dd]) ++ List.replicate (3 - (lg_sl ([.ref (a 0), .int dd])).length) Slot.unset).toArray = ls at hl ⊢
  have hl : lv_has ls 3 [(0, .ref (a 0)), (1, .int dd)] := hl
  refine lv_aload_n hx hb dX0_canAddDays_0 rfl (lv_at hl 0 rfl) ?_
  refine va_get (D := D) (ci := 0) (v := .int (B 8 5)) (C := RX0) (T := TX0) (N := 16) hx hb hts hi0 hown hK hP 0 rfl rfl 13 (by decide) (hts (.fieldLink RX0 56 "PledgedLoans$Books" "day" "I") (List.mem_of_getElem? (i := 1) rfl)) (fun _ h9 => h9) rfl dX0_canAddDays_1 ?_
  refine lv_iload_n hx hb dX0_canAddDays_4 rfl (lv_at hl 1 rfl) ?_
  refine lv_iadd hx hb dX0_canAddDays_5 ?_
  refine lv_sipush (v := 9999) hx hb dX0_canAddDays_6 (by decide) ?_
  refine lv_icmp_le (tgt := 14) hx hb dX0_canAddDays_9 (by decide) (fun c_1 => ?_) (fun c_1 => ?_)
  · refine lv_iconst (v := 0) hx hb dX0_canAddDays_14 (by decide) ?_
    refine lv_istore_n (lv' := [(2, .int 0), (0, .ref (a 0)), (1, .int dd)]) hx hb dX0_canAddDays_15 rfl hl (by decide) rfl (fun ls hl => ?_)
    have loop_16 : ∀ (kk : Nat) (q : Nat), 7 - q < kk → q < 7 → f_X0_canAddDays B dd = f_X0_canAddDays_16 B dd kk q → ∀ (ls : Array Slot), lv_has ls 3 [(0, .ref (a 0)), (1, .int dd), (2, .int (nI q))] → W p l e (headSpec wsX0_canAddDays (zrm 0 0)).room s m ([.ref (a 0), .int dd] : List Value).toArray below meth c s.heap [] 0 0 (MQ below (zE (some (.int (f_X0_canAddDays B dd)))) ([.ref (a 0), .int dd] : List Value).toArray s 0 0 (fun _ => False)) (F0 m 16 ls []) := by
      intro kk
      induction kk with
      | zero => intro q h9; exact absurd h9 (Nat.not_lt_zero _)
      | succ kk ih_16 =>
        intro q hm_16 hi0_16 hres_16 ls hl
        refine lv_iload_n hx hb dX0_canAddDays_16 rfl (lv_at hl 2 rfl) ?_
        refine lv_bipush (v := 6) hx hb dX0_canAddDays_17 (by decide) ?_
        refine lv_icmp_ge (tgt := 55) hx hb dX0_canAddDays_19 (by decide) (fun c_2 => ?_) (fun c_2 => ?_)
        · have c_2 : 6 ≤ q := (nI_leI (a := 6) (b := q) (by omega) (by omega)).mp c_2
          refine lv_iconst (v := 1) hx hb dX0_canAddDays_55 (by decide) ?_
          exact z_zretE hx hb hr hlocks dX0_canAddDays_56 rfl (by rw [hres_16]; simp only [f_X0_canAddDays_16, if_pos c_2])
        · have c_2 : ¬ 6 ≤ q := fun h9 => c_2 ((nI_leI (a := 6) (b := q) (by omega) (by omega)).mpr h9)
          refine lv_aload_n hx hb dX0_canAddDays_22 rfl (lv_at hl 0 rfl) ?_
          refine va_get (D := D) (ci := 0) (v := .ref (a 2)) (C := RX0) (T := TX0) (N := 16) hx hb hts hi0 hown hK hP 0 rfl rfl 1 (by decide) (hts (.fieldLink RX0 15 "PledgedLoans$Books" "shareDays" "[I") (List.mem_of_getElem? (i := 2) rfl)) (fun _ h9 => h9) rfl dX0_canAddDays_23 ?_
          refine lv_iload_n hx hb dX0_canAddDays_26 rfl (lv_at hl 2 rfl) ?_
          refine z_iald (j := q) hx hb hK hP 2 0 rfl rfl dX0_canAddDays_27 (by omega) (by decide) ?_
          refine lv_i2l (v := (B 1 q).toInt64) hx hb dX0_canAddDays_28 rfl ?_
          refine lv_aload_n hx hb dX0_canAddDays_29 rfl (lv_at hl 0 rfl) ?_
          refine va_get (D := D) (ci := 0) (v := .ref (a 1)) (C := RX0) (T := TX0) (N := 16) hx hb hts hi0 hown hK hP 0 rfl rfl 0 (by decide) (hts (.fieldLink RX0 9 "PledgedLoans$Books" "shares" "[I") (List.mem_of_getElem? (i := 3) rfl)) (fun _ h9 => h9) rfl dX0_canAddDays_30 ?_
          refine lv_iload_n hx hb dX0_canAddDays_33 rfl (lv_at hl 2 rfl) ?_
          refine z_iald (j := q) hx hb hK hP 1 0 rfl rfl dX0_canAddDays_34 (by omega) (by decide) ?_
          refine lv_i2l (v := (B 0 q).toInt64) hx hb dX0_canAddDays_35 rfl ?_
          refine lv_iload_n hx hb dX0_canAddDays_36 rfl (lv_at hl 1 rfl) ?_
          refine lv_i2l (v := (dd).toInt64) hx hb dX0_canAddDays_37 rfl ?_
          refine lv_lmul hx hb dX0_canAddDays_38 ?_
          refine lv_ladd hx hb dX0_canAddDays_39 ?_
          refine lv_ldc2 hx hb hown (hts (.constantLong RX0 131 (100000000)) (List.mem_of_getElem? (i := 4) rfl)) dX0_canAddDays_40 ?_
          refine W.lcmp hx hb dX0_canAddDays_43 ?_
          refine lv_if_le (tgt := 49) hx hb dX0_canAddDays_44 (by decide) (fun c_3 => ?_) (fun c_3 => ?_)
          · have c_3 : (((B 1 q).toInt64) + (((B 0 q).toInt64) * ((dd).toInt64))) ≤ (100000000) := (lg_cmp_le _ _).mp c_3
            refine lv_iinc (v := nI (q + 1)) (lv' := [(2, .int (nI (q + 1))), (0, .ref (a 0)), (1, .int dd)]) hx hb dX0_canAddDays_49 hl (k := 2) rfl (by rw [show (Int32.ofInt 1) = nI 1 from by decide]; exact nI_add q 1) (by decide) rfl (fun ls hl => ?_)
            refine lv_goto (tgt := 16) hx hb dX0_canAddDays_52 (by decide) ?_
            exact ih_16 (q + 1) (by omega) (by omega) (by rw [hres_16]; simp only [f_X0_canAddDays_16, if_neg c_2, if_pos c_3]) ls (lv_sub hl [1, 2, 0] rfl)
          · have c_3 : ¬ (((B 1 q).toInt64) + (((B 0 q).toInt64) * ((dd).toInt64))) ≤ (100000000) := fun h9 => c_3 ((lg_cmp_le _ _).mpr h9)
            refine lv_iconst (v := 0) hx hb dX0_canAddDays_47 (by decide) ?_
            exact z_zretE hx hb hr hlocks dX0_canAddDays_48 rfl (by rw [hres_16]; simp only [f_X0_canAddDays_16, if_neg c_2, if_neg c_3])
    exact loop_16 8 0 (by omega) (by omega) (by simp only [f_X0_canAddDays, if_pos c_1]) ls (lv_sub hl [1, 2, 0] rfl)
  · refine lv_iconst (v := 0) hx hb dX0_canAddDays_12 (by decide) ?_
    exact z_zretE hx hb hr hlocks dX0_canAddDays_13 rfl (by simp only [f_X0_canAddDays, if_neg c_1])

theorem zy_X0_addDays : yX0_addDays.cls = RX0 ∧ yX0_addDays.cls ≠ "java/lang/invoke/MethodHandle" ∧ yX0_addDays.cls ≠ "java/lang/invoke/VarHandle" ∧ (parseMethodDescriptor yX0_addDays.desc).map (fun d => d.parameters.length) = some 1 := by decide +kernel
def f_X0_addDays_2 (B : BK) (dd : Int32) (i0 : BK) : Nat → BK
  | 0 => i0
  | n + 1 =>
    let y0_2 : BK := f_X0_addDays_2 B dd i0 n
    uB y0_2 1 n ((y0_2 1 n) + ((y0_2 0 n) * dd))
def f_X0_addDays (B : BK) (dd : Int32) : Int32 × BK :=
  let y0_2 : BK := f_X0_addDays_2 B dd B 6
  ((uB y0_2 8 5 ((y0_2 8 5) + dd)) 8 5, uB y0_2 8 5 ((y0_2 8 5) + dd))

set_option maxHeartbeats 4000000 in
set_option maxRecDepth 100000 in
theorem zc_X0_addDays (l : Launch) (D : va_G) (cA : Nat → ClassId) (a : Nat → Nat) (B : BK) (dd : Int32)  : Met l yX0_addDays wsX0_addDays (zrm 0 0) (zPc D cA [.ref (a 0), .int dd] (bkW (cA 0) a B)) (zM D (bkW (cA 0) a B) (bkW (cA 0) a ((f_X0_addDays B dd).2)) (some (.int ((f_X0_addDays B dd).1)))) 0 0 (zfr (bkW (cA 0) a B)) := by
  refine Met.ofW (cc := cX0_addDays) (maxL := 3) (ret := (some .int)) (by decide) rfl ?_
  intro p e s m args below meth c s₁ Bd hml hv
  obtain ⟨rfl, hP, hK, hD0⟩ := hv
  have hx := Bd.exec
  have hb := Bd.bytes
  have hr := Bd.returns
  have hts := atoms_spec (ws := wsX0_addDays) Bd.pre
  have hown : s.vm.findClass RX0 = some m.cls := findClass_of_methodNamed Bd.named
  have hlocks := Bd.notSynchronized
  have hD := z_Dfr hD0
  have hS : va_S (zfr (bkW (cA 0) a B)) s.heap s.heap [] := va_S.rf
  have hi0 : ∀ w ∈ wsX00, w ∈ wsX0_addDays := fun w h => List.mem_cons_of_mem _ (List.mem_append_right _ h)
  have hl := lv_entry ([.ref (a 0), .int dd]) (n := 3) (Nat.le_of_ble_eq_true rfl)
  rw [lg_entry_eq]
  generalize (lg_sl ([.ref (a 0), .int dd]) ++ List.replicate (3 - (lg_sl ([.ref (a 0), .int dd])).length) Slot.unset).toArray = ls at hl ⊢
  have hl : lv_has ls 3 [(0, .ref (a 0)), (1, .int dd)] := hl
  refine lv_iconst (v := 0) hx hb dX0_addDays_0 (by decide) ?_
  refine lv_istore_n (lv' := [(2, .int 0), (0, .ref (a 0)), (1, .int dd)]) hx hb dX0_addDays_1 rfl hl (by decide) rfl (fun ls hl => ?_)
  have loop_2 : ∀ (kk : Nat) (n : Nat) (y0_2 : BK), n ≤ 6 → 6 - n < kk → y0_2 = f_X0_addDays_2 B dd B n → ∀ (H : Heap) (locs : List Loc), va_P D vwCl (bkW (cA 0) a y0_2) H → va_D (zfr (bkW (cA 0) a B)) (bkW (cA 0) a y0_2) → va_S (zfr (bkW (cA 0) a B)) s.heap H locs → ∀ (ls : Array Slot), lv_has ls 3 [(0, .ref (a 0)), (1, .int dd), (2, .int (nI n))] → W p l e (headSpec wsX0_addDays (zrm 0 0)).room s m ([.ref (a 0), .int dd] : List Value).toArray below meth c H locs 0 0 (MQ below (zM D (bkW (cA 0) a B) (bkW (cA 0) a ((f_X0_addDays B dd).2)) (some (.int ((f_X0_addDays B dd).1)))) ([.ref (a 0), .int dd] : List Value).toArray s 0 0 (zfr (bkW (cA 0) a B))) (F0 m 2 ls []) := by
    intro kk
    induction kk with
    | zero => intro n y0_2 _ h9; exact absurd h9 (Nat.not_lt_zero _)
    | succ kk ih_2 =>
      intro n y0_2 hn_2 hm_2 q_y0_2 H locs hP hD hS ls hl
      refine lv_iload_n hx hb dX0_addDays_2 rfl (lv_at hl 2 rfl) ?_
      refine lv_bipush (v := 6) hx hb dX0_addDays_3 (by decide) ?_
      refine lv_icmp_ge (tgt := 31) hx hb dX0_addDays_5 (by decide) (fun c_1 => ?_) (fun c_1 => ?_)
      · have c_1 : 6 ≤ n := (nI_leI (a := 6) (b := n) (by omega) (by omega)).mp c_1
        obtain rfl : n = 6 := by omega
        refine lv_aload_n hx hb dX0_addDays_31 rfl (lv_at hl 0 rfl) ?_
        refine lv_dup hx hb dX0_addDays_32 rfl ?_
        refine va_get (D := D) (ci := 0) (v := .int (y0_2 8 5)) (C := RX0) (T := TX0) (N := 16) hx hb hts hi0 hown hK hP 0 rfl rfl 13 (by decide) (hts (.fieldLink RX0 56 "PledgedLoans$Books" "day" "I") (List.mem_of_getElem? (i := 3) rfl)) (fun _ h9 => h9) rfl dX0_addDays_33 ?_
        refine lv_iload_n hx hb dX0_addDays_36 rfl (lv_at hl 1 rfl) ?_
        refine lv_iadd hx hb dX0_addDays_37 ?_
        refine va_put (D := D) (ci := 0) (v := .int ((y0_2 8 5) + dd)) (ty := .int) (C := RX0) (T := TX0) (N := 16) hx hb hts hi0 tyX0 tyX0_ok nmX0 hown hK hP hD hS 0 rfl rfl 13 (by decide) (hts (.fieldLink RX0 56 "PledgedLoans$Books" "day" "I") (List.mem_of_getElem? (i := 3) rfl)) (fun _ h9 => h9) rfl (by decide +kernel) rfl rfl (Nat.le_of_ble_eq_true rfl) dX0_addDays_38 (fun H locs hP hD hS => ?_)
        have hP : va_P D vwCl (bkW (cA 0) a (uB y0_2 8 5 ((y0_2 8 5) + dd))) H := hP
        have hD : va_D _ (bkW (cA 0) a (uB y0_2 8 5 ((y0_2 8 5) + dd))) := hD
        refine lv_aload_n hx hb dX0_addDays_41 rfl (lv_at hl 0 rfl) ?_
        refine va_get (D := D) (ci := 0) (v := .int ((uB y0_2 8 5 ((y0_2 8 5) + dd)) 8 5)) (C := RX0) (T := TX0) (N := 16) hx hb hts hi0 hown hK hP 0 rfl rfl 13 (by decide) (hts (.fieldLink RX0 56 "PledgedLoans$Books" "day" "I") (List.mem_of_getElem? (i := 3) rfl)) (fun _ h9 => h9) rfl dX0_addDays_42 ?_
        exact z_iretM (w1 := bkW (cA 0) a (uB y0_2 8 5 ((y0_2 8 5) + dd))) hx hb hr hlocks dX0_addDays_45 hP hS (by subst q_y0_2; first | (simp only [f_X0_addDays]; done) | rfl) (by subst q_y0_2; first | (simp only [f_X0_addDays]; done) | rfl)
      · have c_1 : ¬ 6 ≤ n := fun h9 => c_1 ((nI_leI (a := 6) (b := n) (by omega) (by omega)).mpr h9)
        refine lv_aload_n hx hb dX0_addDays_8 rfl (lv_at hl 0 rfl) ?_
        refine va_get (D := D) (ci := 0) (v := .ref (a 2)) (C := RX0) (T := TX0) (N := 16) hx hb hts hi0 hown hK hP 0 rfl rfl 1 (by decide) (hts (.fieldLink RX0 15 "PledgedLoans$Books" "shareDays" "[I") (List.mem_of_getElem? (i := 1) rfl)) (fun _ h9 => h9) rfl dX0_addDays_9 ?_
        refine lv_iload_n hx hb dX0_addDays_12 rfl (lv_at hl 2 rfl) ?_
        refine lv_dup2_11 hx hb dX0_addDays_13 rfl rfl ?_
        refine z_iald (j := n) hx hb hK hP 2 0 rfl rfl dX0_addDays_14 (by omega) (by decide) ?_
        refine lv_aload_n hx hb dX0_addDays_15 rfl (lv_at hl 0 rfl) ?_
        refine va_get (D := D) (ci := 0) (v := .ref (a 1)) (C := RX0) (T := TX0) (N := 16) hx hb hts hi0 hown hK hP 0 rfl rfl 0 (by decide) (hts (.fieldLink RX0 9 "PledgedLoans$Books" "shares" "[I") (List.mem_of_getElem? (i := 2) rfl)) (fun _ h9 => h9) rfl dX0_addDays_16 ?_
        refine lv_iload_n hx hb dX0_addDays_19 rfl (lv_at hl 2 rfl) ?_
        refine z_iald (j := n) hx hb hK hP 1 0 rfl rfl dX0_addDays_20 (by omega) (by decide) ?_
        refine lv_iload_n hx hb dX0_addDays_21 rfl (lv_at hl 1 rfl) ?_
        refine lv_imul hx hb dX0_addDays_22 ?_
        refine lv_iadd hx hb dX0_addDays_23 ?_
        refine z_iast (j := n) hx hb hK hP hD hS 2 0 rfl rfl dX0_addDays_24 (by omega) (by decide) (bkW (cA 0) a (uB y0_2 1 n ((y0_2 1 n) + ((y0_2 0 n) * dd)))) rfl (fun H locs hP hD hS => ?_)
        refine lv_iinc (v := nI (n + 1)) (lv' := [(2, .int (nI (n + 1))), (0, .ref (a 0)), (1, .int dd)]) hx hb dX0_addDays_25 hl (k := 2) rfl (by rw [show (Int32.ofInt 1) = nI 1 from by decide]; exact nI_add n 1) (by decide) rfl (fun ls hl => ?_)
        refine lv_goto (tgt := 2) hx hb dX0_addDays_28 (by decide) ?_
        exact ih_2 (n + 1) _ (by omega) (by omega) (by subst q_y0_2; first | (simp only [f_X0_addDays_2]; done) | rfl) _ _ hP hD hS ls (lv_sub hl [1, 2, 0] rfl)
  exact loop_2 _ 0 _ (by omega) (Nat.lt_succ_self _) rfl _ _ hP hD hS ls (lv_sub hl [1, 2, 0] rfl)

theorem zy_X0_dividendOf : yX0_dividendOf.cls = RX0 ∧ yX0_dividendOf.cls ≠ "java/lang/invoke/MethodHandle" ∧ yX0_dividendOf.cls ≠ "java/lang/invoke/VarHandle" ∧ (parseMethodDescriptor yX0_dividendOf.desc).map (fun d => d.parameters.length) = some 2 := by decide +kernel
def f_X0_dividendOf (B : BK) (mb : Nat) (al : Int64) : Int32 :=
  if 1 ≤ al then
    ((((B 8 1).toInt64) * ((B 1 mb).toInt64)) / al).toInt32
  else
    0

set_option maxHeartbeats 4000000 in
set_option maxRecDepth 100000 in
theorem zc_X0_dividendOf (l : Launch) (D : va_G) (cA : Nat → ClassId) (a : Nat → Nat) (B : BK) (mb : Nat) (al : Int64) (hmb : mb < 6) : Met l yX0_dividendOf wsX0_dividendOf (zrm 0 0) (zPc D cA [.ref (a 0), .int (nI mb), .long al] (bkW (cA 0) a B)) (zE (some (.int (f_X0_dividendOf B mb al)))) 0 0 (fun _ => False) := by
  refine Met.ofW (cc := cX0_dividendOf) (maxL := 4) (ret := (some .int)) (by decide) rfl ?_
  intro p e s m args below meth c s₁ Bd hml hv
  obtain ⟨rfl, hP, hK, hD0⟩ := hv
  have hx := Bd.exec
  have hb := Bd.bytes
  have hr := Bd.returns
  have hts := atoms_spec (ws := wsX0_dividendOf) Bd.pre
  have hown : s.vm.findClass RX0 = some m.cls := findClass_of_methodNamed Bd.named
  have hlocks := Bd.notSynchronized
  have hD := z_Dfr hD0
  have hS : va_S (zfr (bkW (cA 0) a B)) s.heap s.heap [] := va_S.rf
  have hi0 : ∀ w ∈ wsX00, w ∈ wsX0_dividendOf := fun w h => List.mem_cons_of_mem _ (List.mem_append_right _ h)
  have hl := lv_entry ([.ref (a 0), .int (nI mb), .long al]) (n := 4) (Nat.le_of_ble_eq_true rfl)
  rw [lg_entry_eq]
  generalize (lg_sl ([.ref (a 0), .int (nI mb), .long al]) ++ List.replicate (4 - (lg_sl ([.ref (a 0), .int (nI mb), .long al])).length) Slot.unset).toArray = ls at hl ⊢
  have hl : lv_has ls 4 [(0, .ref (a 0)), (1, .int (nI mb)), (2, .long al)] := hl
  refine lv_lload_n hx hb dX0_dividendOf_0 rfl (lv_at hl 2 rfl) ?_
  refine lv_lconst (v := 1) hx hb dX0_dividendOf_1 (by decide) ?_
  refine W.lcmp hx hb dX0_dividendOf_2 ?_
  refine lv_if_ge (tgt := 10) hx hb dX0_dividendOf_3 (by decide) (fun c_1 => ?_) (fun c_1 => ?_)
  · have c_1 : 1 ≤ al := (lg_cmp_ge _ _).mp c_1
    refine lv_aload_n hx hb dX0_dividendOf_10 rfl (lv_at hl 0 rfl) ?_
    refine va_get (D := D) (ci := 0) (v := .int (B 8 1)) (C := RX0) (T := TX0) (N := 16) hx hb hts hi0 hown hK hP 0 rfl rfl 9 (by decide) (hts (.fieldLink RX0 44 "PledgedLoans$Books" "surplus" "I") (List.mem_of_getElem? (i := 1) rfl)) (fun _ h9 => h9) rfl dX0_dividendOf_11 ?_
    refine lv_i2l (v := (B 8 1).toInt64) hx hb dX0_dividendOf_14 rfl ?_
    refine lv_aload_n hx hb dX0_dividendOf_15 rfl (lv_at hl 0 rfl) ?_
    refine va_get (D := D) (ci := 0) (v := .ref (a 2)) (C := RX0) (T := TX0) (N := 16) hx hb hts hi0 hown hK hP 0 rfl rfl 1 (by decide) (hts (.fieldLink RX0 15 "PledgedLoans$Books" "shareDays" "[I") (List.mem_of_getElem? (i := 2) rfl)) (fun _ h9 => h9) rfl dX0_dividendOf_16 ?_
    refine lv_iload_n hx hb dX0_dividendOf_19 rfl (lv_at hl 1 rfl) ?_
    refine z_iald (j := mb) hx hb hK hP 2 0 rfl rfl dX0_dividendOf_20 (by omega) (by decide) ?_
    refine lv_i2l (v := (B 1 mb).toInt64) hx hb dX0_dividendOf_21 rfl ?_
    refine lv_lmul hx hb dX0_dividendOf_22 ?_
    refine lv_lload_n hx hb dX0_dividendOf_23 rfl (lv_at hl 2 rfl) ?_
    refine lv_ldiv hx hb dX0_dividendOf_24 (z_nz c_1) ?_
    refine lv_l2i (v := ((((B 8 1).toInt64) * ((B 1 mb).toInt64)) / al).toInt32) hx hb dX0_dividendOf_25 rfl ?_
    exact z_iretE hx hb hr hlocks dX0_dividendOf_26 (by simp only [f_X0_dividendOf, if_pos c_1])
  · have c_1 : ¬ 1 ≤ al := fun h9 => c_1 ((lg_cmp_ge _ _).mpr h9)
    refine lv_iconst (v := 0) hx hb dX0_dividendOf_6 (by decide) ?_
    refine lv_goto (tgt := 26) hx hb dX0_dividendOf_7 (by decide) ?_
    exact z_iretE hx hb hr hlocks dX0_dividendOf_26 (by simp only [f_X0_dividendOf, if_neg c_1])

theorem zy_X0_shareOut : yX0_shareOut.cls = RX0 ∧ yX0_shareOut.cls ≠ "java/lang/invoke/MethodHandle" ∧ yX0_shareOut.cls ≠ "java/lang/invoke/VarHandle" ∧ (parseMethodDescriptor yX0_shareOut.desc).map (fun d => d.parameters.length) = some 0 := by decide +kernel
def f_X0_shareOut_28 (B : BK) (i0 : Int32) (i1 : BK) : Nat → Int32 × BK
  | 0 => (i0, i1)
  | n + 1 =>
    let y0_28 : Int32 := (f_X0_shareOut_28 B i0 i1 n).1
    let y1_28 : BK := (f_X0_shareOut_28 B i0 i1 n).2
    let M_3 : BK := uB y1_28 0 n ((y1_28 0 n) + (f_X0_dividendOf y1_28 n (f_X0_allShareDays B)))
    (y0_28 + (f_X0_dividendOf y1_28 n (f_X0_allShareDays B)), uB M_3 1 n 0)
def f_X0_shareOut (B : BK) : Int32 × BK :=
  if 1 ≤ (f_X0_allShareDays B) then
    let y0_28 : Int32 := (f_X0_shareOut_28 B 0 B 6).1
    let y1_28 : BK := (f_X0_shareOut_28 B 0 B 6).2
    let M_4 : BK := uB (uB y1_28 8 1 ((y1_28 8 1) - y0_28)) 8 7 (((uB y1_28 8 1 ((y1_28 8 1) - y0_28)) 8 7) + y0_28)
    (y0_28, M_4)
  else
    ((-1), uB B 8 6 ((B 8 6) + 1))

set_option maxHeartbeats 4000000 in
set_option maxRecDepth 100000 in
theorem zc_X0_shareOut (l : Launch) (D : va_G) (cA : Nat → ClassId) (a : Nat → Nat) (B : BK)  : Met l yX0_shareOut wsX0_shareOut (zrm 1 26) (zPc D cA [.ref (a 0)] (bkW (cA 0) a B)) (zM D (bkW (cA 0) a B) (bkW (cA 0) a ((f_X0_shareOut B).2)) (some (.int ((f_X0_shareOut B).1)))) 0 0 (zfr (bkW (cA 0) a B)) := by
  refine Met.ofW (cc := cX0_shareOut) (maxL := 6) (ret := (some .int)) (by decide) rfl ?_
  intro p e s m args below meth c s₁ Bd hml hv
  obtain ⟨rfl, hP, hK, hD0⟩ := hv
  have hx := Bd.exec
  have hb := Bd.bytes
  have hr := Bd.returns
  have hts := atoms_spec (ws := wsX0_shareOut) Bd.pre
  have hown : s.vm.findClass RX0 = some m.cls := findClass_of_methodNamed Bd.named
  have hlocks := Bd.notSynchronized
  have hD := z_Dfr hD0
  have hS : va_S (zfr (bkW (cA 0) a B)) s.heap s.heap [] := va_S.rf
  have hi0 : ∀ w ∈ wsX00, w ∈ wsX0_shareOut := fun w h => List.mem_cons_of_mem _ (List.mem_append_right _ h)
  have hl := lv_entry ([.ref (a 0)]) (n := 6) (Nat.le_of_ble_eq_true rfl)
  rw [lg_entry_eq]
  generalize (lg_sl ([.ref (a 0)]) ++ List.replicate (6 - (lg_sl ([.ref (a 0)])).length) Slot.unset).toArray = ls at hl ⊢
  have hl : lv_has ls 6 [(0, .ref (a 0))] := hl
  refine lv_aload_n hx hb dX0_shareOut_0 rfl (lv_at hl 0 rfl) ?_
  refine z_E (va_runV (As := []) (rest := []) ⟨hx, hb, hml, hown, hts⟩ (zc_X0_allShareDays l D cA a B) (cwV 0 hts gX0_shareOut_X0_allShareDays rfl rfl rfl zy_X0_allShareDays ⟨Nat.le_of_ble_eq_true rfl, Nat.le_of_ble_eq_true rfl⟩) (z_preV (ci := 0) hK hP hD rfl rfl) rfl rfl hl.1 rfl (lv_room (Nat.le_of_ble_eq_true rfl)) dX0_shareOut_1 ⟨Nat.zero_le _, Nat.zero_le _⟩) rfl ?_
  refine lv_lstore_n (lv' := [(1, .long (f_X0_allShareDays B)), (0, .ref (a 0))]) hx hb dX0_shareOut_4 rfl hl (by decide) rfl (fun ls hl => ?_)
  refine lv_lload_n hx hb dX0_shareOut_5 rfl (lv_at hl 0 rfl) ?_
  refine lv_lconst (v := 1) hx hb dX0_shareOut_6 (by decide) ?_
  refine W.lcmp hx hb dX0_shareOut_7 ?_
  refine lv_if_ge (tgt := 23) hx hb dX0_shareOut_8 (by decide) (fun c_1 => ?_) (fun c_1 => ?_)
  · have c_1 : 1 ≤ (f_X0_allShareDays B) := (lg_cmp_ge _ _).mp c_1
    refine lv_iconst (v := 0) hx hb dX0_shareOut_23 (by decide) ?_
    refine lv_istore_n (lv' := [(3, .int 0), (1, .long (f_X0_allShareDays B)), (0, .ref (a 0))]) hx hb dX0_shareOut_24 rfl hl (by decide) rfl (fun ls hl => ?_)
    refine lv_iconst (v := 0) hx hb dX0_shareOut_25 (by decide) ?_
    refine lv_istore (lv' := [(4, .int 0), (3, .int 0), (1, .long (f_X0_allShareDays B)), (0, .ref (a 0))]) hx hb dX0_shareOut_26 hl (by decide) rfl (fun ls hl => ?_)
    have loop_28 : ∀ (kk : Nat) (n : Nat) (y0_28 : Int32) (y1_28 : BK), n ≤ 6 → 6 - n < kk → y0_28 = (f_X0_shareOut_28 B 0 B n).1 → y1_28 = (f_X0_shareOut_28 B 0 B n).2 → ∀ (H : Heap) (locs : List Loc), va_P D vwCl (bkW (cA 0) a y1_28) H → va_D (zfr (bkW (cA 0) a B)) (bkW (cA 0) a y1_28) → va_S (zfr (bkW (cA 0) a B)) s.heap H locs → ∀ (ls : Array Slot), lv_has ls 6 [(0, .ref (a 0)), (1, .long (f_X0_allShareDays B)), (3, .int y0_28), (4, .int (nI n))] → W p l e (headSpec wsX0_shareOut (zrm 1 26)).room s m ([.ref (a 0)] : List Value).toArray below meth c H locs 0 0 (MQ below (zM D (bkW (cA 0) a B) (bkW (cA 0) a ((f_X0_shareOut B).2)) (some (.int ((f_X0_shareOut B).1)))) ([.ref (a 0)] : List Value).toArray s 0 0 (zfr (bkW (cA 0) a B))) (F0 m 28 ls []) := by
      intro kk
      induction kk with
      | zero => intro n y0_28 y1_28 _ h9; exact absurd h9 (Nat.not_lt_zero _)
      | succ kk ih_28 =>
        intro n y0_28 y1_28 hn_28 hm_28 q_y0_28 q_y1_28 H locs hP hD hS ls hl
        refine lv_iload hx hb dX0_shareOut_28 (lv_at hl 3 rfl) ?_
        refine lv_bipush (v := 6) hx hb dX0_shareOut_30 (by decide) ?_
        refine lv_icmp_ge (tgt := 75) hx hb dX0_shareOut_32 (by decide) (fun c_2 => ?_) (fun c_2 => ?_)
        · have c_2 : 6 ≤ n := (nI_leI (a := 6) (b := n) (by omega) (by omega)).mp c_2
          obtain rfl : n = 6 := by omega
          refine lv_aload_n hx hb dX0_shareOut_75 rfl (lv_at hl 0 rfl) ?_
          refine lv_dup hx hb dX0_shareOut_76 rfl ?_
          refine va_get (D := D) (ci := 0) (v := .int (y1_28 8 1)) (C := RX0) (T := TX0) (N := 16) hx hb hts hi0 hown hK hP 0 rfl rfl 9 (by decide) (hts (.fieldLink RX0 44 "PledgedLoans$Books" "surplus" "I") (List.mem_of_getElem? (i := 4) rfl)) (fun _ h9 => h9) rfl dX0_shareOut_77 ?_
          refine lv_iload_n hx hb dX0_shareOut_80 rfl (lv_at hl 2 rfl) ?_
          refine lv_isub hx hb dX0_shareOut_81 ?_
          refine va_put (D := D) (ci := 0) (v := .int ((y1_28 8 1) - y0_28)) (ty := .int) (C := RX0) (T := TX0) (N := 16) hx hb hts hi0 tyX0 tyX0_ok nmX0 hown hK hP hD hS 0 rfl rfl 9 (by decide) (hts (.fieldLink RX0 44 "PledgedLoans$Books" "surplus" "I") (List.mem_of_getElem? (i := 4) rfl)) (fun _ h9 => h9) rfl (by decide +kernel) rfl rfl (Nat.le_of_ble_eq_true rfl) dX0_shareOut_82 (fun H locs hP hD hS => ?_)
          have hP : va_P D vwCl (bkW (cA 0) a (uB y1_28 8 1 ((y1_28 8 1) - y0_28))) H := hP
          have hD : va_D _ (bkW (cA 0) a (uB y1_28 8 1 ((y1_28 8 1) - y0_28))) := hD
          refine lv_aload_n hx hb dX0_shareOut_85 rfl (lv_at hl 0 rfl) ?_
          refine lv_dup hx hb dX0_shareOut_86 rfl ?_
          refine va_get (D := D) (ci := 0) (v := .int ((uB y1_28 8 1 ((y1_28 8 1) - y0_28)) 8 7)) (C := RX0) (T := TX0) (N := 16) hx hb hts hi0 hown hK hP 0 rfl rfl 15 (by decide) (hts (.fieldLink RX0 62 "PledgedLoans$Books" "dividendsPaid" "I") (List.mem_of_getElem? (i := 5) rfl)) (fun _ h9 => h9) rfl dX0_shareOut_87 ?_
          refine lv_iload_n hx hb dX0_shareOut_90 rfl (lv_at hl 2 rfl) ?_
          refine lv_iadd hx hb dX0_shareOut_91 ?_
          refine va_put (D := D) (ci := 0) (v := .int (((uB y1_28 8 1 ((y1_28 8 1) - y0_28)) 8 7) + y0_28)) (ty := .int) (C := RX0) (T := TX0) (N := 16) hx hb hts hi0 tyX0 tyX0_ok nmX0 hown hK hP hD hS 0 rfl rfl 15 (by decide) (hts (.fieldLink RX0 62 "PledgedLoans$Books" "dividendsPaid" "I") (List.mem_of_getElem? (i := 5) rfl)) (fun _ h9 => h9) rfl (by decide +kernel) rfl rfl (Nat.le_of_ble_eq_true rfl) dX0_shareOut_92 (fun H locs hP hD hS => ?_)
          have hP : va_P D vwCl (bkW (cA 0) a (uB (uB y1_28 8 1 ((y1_28 8 1) - y0_28)) 8 7 (((uB y1_28 8 1 ((y1_28 8 1) - y0_28)) 8 7) + y0_28))) H := hP
          have hD : va_D _ (bkW (cA 0) a (uB (uB y1_28 8 1 ((y1_28 8 1) - y0_28)) 8 7 (((uB y1_28 8 1 ((y1_28 8 1) - y0_28)) 8 7) + y0_28))) := hD
          obtain ⟨M_3, eM_3⟩ : ∃ z9 : BK, z9 = uB (uB y1_28 8 1 ((y1_28 8 1) - y0_28)) 8 7 (((uB y1_28 8 1 ((y1_28 8 1) - y0_28)) 8 7) + y0_28) := ⟨_, rfl⟩
          rw [← eM_3] at hP hD
          refine lv_iload_n hx hb dX0_shareOut_95 rfl (lv_at hl 2 rfl) ?_
          exact z_iretM (w1 := bkW (cA 0) a M_3) hx hb hr hlocks dX0_shareOut_96 hP hS (by subst eM_3 q_y1_28 q_y0_28; simp -proj only [f_X0_shareOut, if_pos c_1]; first | done | rfl) (by subst eM_3 q_y1_28 q_y0_28; simp -proj only [f_X0_shareOut, if_pos c_1]; first | done | rfl)
        · have c_2 : ¬ 6 ≤ n := fun h9 => c_2 ((nI_leI (a := 6) (b := n) (by omega) (by omega)).mpr h9)
          refine lv_aload_n hx hb dX0_shareOut_35 rfl (lv_at hl 0 rfl) ?_
          refine lv_iload hx hb dX0_shareOut_36 (lv_at hl 3 rfl) ?_
          refine lv_lload_n hx hb dX0_shareOut_38 rfl (lv_at hl 1 rfl) ?_
          refine z_E (va_runV (As := [.int (nI n), .long (f_X0_allShareDays B)]) (rest := []) ⟨hx, hb, hml, hown, hts⟩ (zc_X0_dividendOf l D cA a y1_28 n (f_X0_allShareDays B) (by omega)) (cwV 2 hts gX0_shareOut_X0_dividendOf rfl rfl rfl zy_X0_dividendOf ⟨Nat.le_of_ble_eq_true rfl, Nat.le_of_ble_eq_true rfl⟩) (z_preV (ci := 0) hK hP hD rfl rfl) rfl rfl hl.1 rfl (lv_room (Nat.le_of_ble_eq_true rfl)) dX0_shareOut_39 ⟨Nat.zero_le _, Nat.zero_le _⟩) rfl ?_
          refine lv_istore (lv' := [(5, .int (f_X0_dividendOf y1_28 n (f_X0_allShareDays B))), (0, .ref (a 0)), (1, .long (f_X0_allShareDays B)), (3, .int y0_28), (4, .int (nI n))]) hx hb dX0_shareOut_42 hl (by decide) rfl (fun ls hl => ?_)
          refine lv_aload_n hx hb dX0_shareOut_44 rfl (lv_at hl 1 rfl) ?_
          refine va_get (D := D) (ci := 0) (v := .ref (a 1)) (C := RX0) (T := TX0) (N := 16) hx hb hts hi0 hown hK hP 0 rfl rfl 0 (by decide) (hts (.fieldLink RX0 9 "PledgedLoans$Books" "shares" "[I") (List.mem_of_getElem? (i := 2) rfl)) (fun _ h9 => h9) rfl dX0_shareOut_45 ?_
          refine lv_iload hx hb dX0_shareOut_48 (lv_at hl 4 rfl) ?_
          refine lv_dup2_11 hx hb dX0_shareOut_50 rfl rfl ?_
          refine z_iald (j := n) hx hb hK hP 1 0 rfl rfl dX0_shareOut_51 (by omega) (by decide) ?_
          refine lv_iload hx hb dX0_shareOut_52 (lv_at hl 0 rfl) ?_
          refine lv_iadd hx hb dX0_shareOut_54 ?_
          refine z_iast (j := n) hx hb hK hP hD hS 1 0 rfl rfl dX0_shareOut_55 (by omega) (by decide) (bkW (cA 0) a (uB y1_28 0 n ((y1_28 0 n) + (f_X0_dividendOf y1_28 n (f_X0_allShareDays B))))) rfl (fun H locs hP hD hS => ?_)
          obtain ⟨M_4, eM_4⟩ : ∃ z9 : BK, z9 = uB y1_28 0 n ((y1_28 0 n) + (f_X0_dividendOf y1_28 n (f_X0_allShareDays B))) := ⟨_, rfl⟩
          rw [← eM_4] at hP hD
          refine lv_aload_n hx hb dX0_shareOut_56 rfl (lv_at hl 1 rfl) ?_
          refine va_get (D := D) (ci := 0) (v := .ref (a 2)) (C := RX0) (T := TX0) (N := 16) hx hb hts hi0 hown hK hP 0 rfl rfl 1 (by decide) (hts (.fieldLink RX0 15 "PledgedLoans$Books" "shareDays" "[I") (List.mem_of_getElem? (i := 3) rfl)) (fun _ h9 => h9) rfl dX0_shareOut_57 ?_
          refine lv_iload hx hb dX0_shareOut_60 (lv_at hl 4 rfl) ?_
          refine lv_iconst (v := 0) hx hb dX0_shareOut_62 (by decide) ?_
          refine z_iast (j := n) hx hb hK hP hD hS 2 0 rfl rfl dX0_shareOut_63 (by omega) (by decide) (bkW (cA 0) a (uB M_4 1 n 0)) rfl (fun H locs hP hD hS => ?_)
          refine lv_iload_n hx hb dX0_shareOut_64 rfl (lv_at hl 3 rfl) ?_
          refine lv_iload hx hb dX0_shareOut_65 (lv_at hl 0 rfl) ?_
          refine lv_iadd hx hb dX0_shareOut_67 ?_
          refine lv_istore_n (lv' := [(3, .int (y0_28 + (f_X0_dividendOf y1_28 n (f_X0_allShareDays B)))), (5, .int (f_X0_dividendOf y1_28 n (f_X0_allShareDays B))), (0, .ref (a 0)), (1, .long (f_X0_allShareDays B)), (4, .int (nI n))]) hx hb dX0_shareOut_68 rfl hl (by decide) rfl (fun ls hl => ?_)
          refine lv_iinc (v := nI (n + 1)) (lv' := [(4, .int (nI (n + 1))), (3, .int (y0_28 + (f_X0_dividendOf y1_28 n (f_X0_allShareDays B)))), (5, .int (f_X0_dividendOf y1_28 n (f_X0_allShareDays B))), (0, .ref (a 0)), (1, .long (f_X0_allShareDays B))]) hx hb dX0_shareOut_69 hl (k := 4) rfl (by rw [show (Int32.ofInt 1) = nI 1 from by decide]; exact nI_add n 1) (by decide) rfl (fun ls hl => ?_)
          refine lv_goto (tgt := 28) hx hb dX0_shareOut_72 (by decide) ?_
          exact ih_28 (n + 1) _ _ (by omega) (by omega) (by subst eM_4 q_y1_28 q_y0_28; first | (simp only [f_X0_shareOut_28]; done) | rfl) (by subst eM_4 q_y1_28 q_y0_28; first | (simp only [f_X0_shareOut_28]; done) | rfl) _ _ hP hD hS ls (lv_sub hl [3, 4, 1, 0] rfl)
    exact loop_28 _ 0 _ _ (by omega) (Nat.lt_succ_self _) rfl rfl _ _ hP hD hS ls (lv_sub hl [3, 2, 1, 0] rfl)
  · have c_1 : ¬ 1 ≤ (f_X0_allShareDays B) := fun h9 => c_1 ((lg_cmp_ge _ _).mpr h9)
    refine lv_aload_n hx hb dX0_shareOut_11 rfl (lv_at hl 1 rfl) ?_
    refine lv_dup hx hb dX0_shareOut_12 rfl ?_
    refine va_get (D := D) (ci := 0) (v := .int (B 8 6)) (C := RX0) (T := TX0) (N := 16) hx hb hts hi0 hown hK hP 0 rfl rfl 14 (by decide) (hts (.fieldLink RX0 59 "PledgedLoans$Books" "refused" "I") (List.mem_of_getElem? (i := 1) rfl)) (fun _ h9 => h9) rfl dX0_shareOut_13 ?_
    refine lv_iconst (v := 1) hx hb dX0_shareOut_16 (by decide) ?_
    refine lv_iadd hx hb dX0_shareOut_17 ?_
    refine va_put (D := D) (ci := 0) (v := .int ((B 8 6) + 1)) (ty := .int) (C := RX0) (T := TX0) (N := 16) hx hb hts hi0 tyX0 tyX0_ok nmX0 hown hK hP hD hS 0 rfl rfl 14 (by decide) (hts (.fieldLink RX0 59 "PledgedLoans$Books" "refused" "I") (List.mem_of_getElem? (i := 1) rfl)) (fun _ h9 => h9) rfl (by decide +kernel) rfl rfl (Nat.le_of_ble_eq_true rfl) dX0_shareOut_18 (fun H locs hP hD hS => ?_)
    have hP : va_P D vwCl (bkW (cA 0) a (uB B 8 6 ((B 8 6) + 1))) H := hP
    have hD : va_D _ (bkW (cA 0) a (uB B 8 6 ((B 8 6) + 1))) := hD
    refine lv_iconst (v := (-1)) hx hb dX0_shareOut_21 (by decide) ?_
    exact z_iretM (w1 := bkW (cA 0) a (uB B 8 6 ((B 8 6) + 1))) hx hb hr hlocks dX0_shareOut_22 hP hS (by simp -proj only [f_X0_shareOut, if_neg c_1]; first | done | rfl) (by simp -proj only [f_X0_shareOut, if_neg c_1]; first | done | rfl)

