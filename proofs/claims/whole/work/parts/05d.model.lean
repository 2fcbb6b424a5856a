theorem zy_X3_digest : yX3_digest.cls = RX3 ∧ yX3_digest.cls ≠ "java/lang/invoke/MethodHandle" ∧ yX3_digest.cls ≠ "java/lang/invoke/VarHandle" ∧ (parseMethodDescriptor yX3_digest.desc).map (fun d => d.parameters.length) = some 0 := by decide +kernel
def f_X3_digest_146 (M : BK) (N : Nat → Nat) (M3 : BK) (i0 : Int64) : Nat → Int64
  | 0 => i0
  | n + 1 =>
    let y0_146 : Int64 := f_X3_digest_146 M N M3 i0 n
    let h_4 : Int64 := f_X3_mix y0_146 ((M3 2 n).toInt64)
    h_4
def f_X3_digest_132 (M : BK) (N : Nat → Nat) (M3 : BK) (h3 : Int64) (v2 : Int64) : Int64 × BK × Int64 :=
  let h_1 : Int64 := f_X3_mix h3 v2
  let h_2 : Int64 := f_X3_mix h_1 ((nI (N 1)).toInt64)
  let y0_146 : Int64 := f_X3_digest_146 M N M3 h_2 (N 1)
  (y0_146, M3, y0_146)
def f_X3_digest_114 (M : BK) (N : Nat → Nat) (M2 : BK) (h2 : Int64) (v1 : Int64) : Int64 × BK × Int64 :=
  let h_5 : Int64 := f_X3_mix h2 v1
  if (M2 1 1) = 0 then
    f_X3_digest_132 M N M2 h_5 0
  else
    f_X3_digest_132 M N M2 h_5 1
def f_X3_digest_79 (M : BK) (N : Nat → Nat) (M7 : BK) (h7 : Int64) : Int64 × BK × Int64 :=
  let h_7 : Int64 := f_X3_mix h7 ((f_X3_risky M7).toInt64)
  let y9_90 : UInt64 := f_X3_lent M7
  let y9_93 : Int64 := f_X3_bits y9_90
  let h_8 : Int64 := f_X3_mix h_7 y9_93
  if (M7 1 0) = 0 then
    f_X3_digest_114 M N M7 h_8 0
  else
    f_X3_digest_114 M N M7 h_8 1
def zfd {α : Type} (st : Nat → α → α) (i : α) : Nat → α
  | 0 => i
  | n + 1 => st n (zfd st i n)
theorem zfd_s {α : Type} (st : Nat → α → α) (i : α) (n : Nat) : zfd st i (n + 1) = st n (zfd st i n) := rfl
def f_X3_digest_62 (M : BK) (N : Nat → Nat) (i0 : BK) (i1 : Int64) (n : Nat) : BK × Int64 := zfd (fun n y => f_X3_mixMember y.1 y.2 n) (i0, i1) n
def f_X3_digest_36 (M : BK) (N : Nat → Nat) (M6 : BK) (h6 : Int64) : Int64 × BK × Int64 :=
  let h_10 : Int64 := f_X3_mix h6 ((M6 0 8).toInt64)
  let h_11 : Int64 := f_X3_mix h_10 ((M6 0 9).toInt64)
  let y0_62 : BK := (f_X3_digest_62 M N M6 h_11 6).1
  let y1_62 : Int64 := (f_X3_digest_62 M N M6 h_11 6).2
  f_X3_digest_79 M N y0_62 y1_62
def f_X3_digest_14 (M : BK) (N : Nat → Nat) (i0 : Int64) : Nat → Int64
  | 0 => i0
  | n + 1 =>
    let y0_14 : Int64 := f_X3_digest_14 M N i0 n
    let h_16 : Int64 := f_X3_mix y0_14 ((f_X3_counted (uB M 4 0 0) N n).toInt64)
    h_16
def f_X3_digest (M : BK) (N : Nat → Nat) : Int64 × BK × Int64 :=
  let y0_14 : Int64 := f_X3_digest_14 M N (3607) 12
  f_X3_digest_36 M N (uB M 4 0 0) y0_14

theorem zfst {α β : Type} (a : α) (b : β) : (a, b).1 = a := rfl
theorem zh_m75 (M : BK) (h : Int64) (mb : Nat) (i0 : BK) (i1 : Int64) : ∀ n, (f_X3_mixMember_75 M h mb i0 i1 n).1 0 = i0 0
  | 0 => rfl
  | n + 1 => by
    unfold f_X3_mixMember_75
    dsimp only
    exact zif (fun (q : BK × Int64) => q.1 0 = i0 0) (fun _ => (zh_fewest _ _ _).trans (zh_m75 M h mb i0 i1 n)) (fun _ => (zh_fewest _ _ _).trans (zh_m75 M h mb i0 i1 n))
theorem zh_mixMember (M : BK) (h : Int64) (mb : Nat) : (f_X3_mixMember M h mb).1 0 = M 0 := by
  simp -proj only [f_X3_mixMember, zfst, zh_m75]
theorem zs_62 (M : BK) (N : Nat → Nat) (i0 : BK) (i1 : Int64) (n : Nat) : f_X3_digest_62 M N i0 i1 (n + 1) = f_X3_mixMember (f_X3_digest_62 M N i0 i1 n).1 (f_X3_digest_62 M N i0 i1 n).2 n := zfd_s (fun n y => f_X3_mixMember y.1 y.2 n) (i0, i1) n

set_option maxHeartbeats 4000000 in
set_option maxRecDepth 100000 in
theorem zc_X3_digest (l : Launch) (D : va_G) (cA : Nat → ClassId) (a : Nat → Nat) (M : BK) (N : Nat → Nat) (h : Int64) (hlen : N 1 ≤ 60) (hpt : zpt (M 0)) (hl0 : ¬ f_X3_total M 0 < 0) (hl2 : ¬ f_X3_total M 2 < 0) (hdv : f_X3_lent M = 0 ∨ zdn (f_X3_lent M)) : Met l yX3_digest wsX3_digest (zrm 7 153) (zPc D cA [.ref (a 0)] (moW cA a M N h)) (zM D (moW cA a M N h) (moW cA a ((f_X3_digest M N).2.1) N ((f_X3_digest M N).2.2)) (some (.long ((f_X3_digest M N).1)))) 0 0 (zfr (moW cA a M N h)) := by
  refine Met.ofW (cc := cX3_digest) (maxL := 2) (ret := (some .long)) (by decide) rfl ?_
  intro p e s m args below meth c s₁ Bd hml hv
  obtain ⟨rfl, hP, hK, hD0⟩ := hv
  have hx := Bd.exec
  have hb := Bd.bytes
  have hr := Bd.returns
  have hts := atoms_spec (ws := wsX3_digest) Bd.pre
  have hown : s.vm.findClass RX3 = some m.cls := findClass_of_methodNamed Bd.named
  have hlocks := Bd.notSynchronized
  have hD := z_Dfr hD0
  have hS : va_S (zfr (moW cA a M N h)) s.heap s.heap [] := va_S.rf
  have hi3 : ∀ w ∈ wsX30, w ∈ wsX3_digest := fun w h => List.mem_cons_of_mem _ (List.mem_append_right _ h)
  have hl := lv_entry ([.ref (a 0)]) (n := 2) (Nat.le_of_ble_eq_true rfl)
  rw [lg_entry_eq]
  generalize (lg_sl ([.ref (a 0)]) ++ List.replicate (2 - (lg_sl ([.ref (a 0)])).length) Slot.unset).toArray = ls at hl ⊢
  have hl : lv_has ls 2 [(0, .ref (a 0))] := hl
  have join_132 : ∀ (M3 : BK) (h3 : Int64) (v2 : Int64), f_X3_digest M N = f_X3_digest_132 M N M3 h3 v2 → ∀ (H : Heap) (locs : List Loc), va_P D vwCl (moW cA a M3 N h3) H → va_D (zfr (moW cA a M N h)) (moW cA a M3 N h3) → va_S (zfr (moW cA a M N h)) s.heap H locs → ∀ (ls : Array Slot), lv_has ls 2 [(0, .ref (a 0))] → W p l e (headSpec wsX3_digest (zrm 7 153)).room s m ([.ref (a 0)] : List Value).toArray below meth c H locs 0 0 (MQ below (zM D (moW cA a M N h) (moW cA a ((f_X3_digest M N).2.1) N ((f_X3_digest M N).2.2)) (some (.long ((f_X3_digest M N).1)))) ([.ref (a 0)] : List Value).toArray s 0 0 (zfr (moW cA a M N h))) (F0 m 132 ls [.long v2, .ref (a 0)]) := by
    intro M3 h3 v2 hres_132 H locs hP hD hS ls hl
    refine z_M (X := ([] : va_W)) (Z := ([] : va_W)) (va_runV (As := [.long v2]) (rest := []) ⟨hx, hb, hml, hown, hts⟩ (zc_X3_mix l D cA a M3 N h3 v2) (cwV 1 hts gX3_digest_X3_mix rfl rfl rfl zy_X3_mix ⟨Nat.le_of_ble_eq_true rfl, Nat.le_of_ble_eq_true rfl⟩) (z_preV (ci := 3) hK hP hD rfl rfl) rfl rfl hl.1 rfl (lv_room (Nat.le_of_ble_eq_true rfl)) dX3_digest_132 ⟨Nat.zero_le _, Nat.zero_le _⟩) hP hD hS moW_adr rfl (fun H locs hP9 hD9 hS9 => ?_)
    replace hP : va_P D vwCl (moW cA a M3 N (f_X3_mix h3 v2)) H := hP9
    replace hD : va_D _ (moW cA a M3 N (f_X3_mix h3 v2)) := hD9
    replace hS := hS9
    clear hP9 hD9 hS9
    obtain ⟨h_1, eh_1⟩ : ∃ z9 : Int64, z9 = f_X3_mix h3 v2 := ⟨_, rfl⟩
    rw [← eh_1] at hP hD
    refine lv_aload_n hx hb dX3_digest_135 rfl (lv_at hl 0 rfl) ?_
    refine lv_aload_n hx hb dX3_digest_136 rfl (lv_at hl 0 rfl) ?_
    refine va_get (D := D) (ci := 3) (v := .int (nI (N 1))) (C := RX3) (T := TX3) (N := 14) hx hb hts hi3 hown hK hP 0 rfl rfl 5 (by decide) (hts (.fieldLink RX3 134 "PledgedLoansModel" "length" "I") (List.mem_of_getElem? (i := 6) rfl)) (fun _ h9 => h9) rfl dX3_digest_137 ?_
    refine lv_i2l (v := (nI (N 1)).toInt64) hx hb dX3_digest_140 rfl ?_
    refine z_M (X := ([] : va_W)) (Z := ([] : va_W)) (va_runV (As := [.long ((nI (N 1)).toInt64)]) (rest := []) ⟨hx, hb, hml, hown, hts⟩ (zc_X3_mix l D cA a M3 N h_1 ((nI (N 1)).toInt64)) (cwV 1 hts gX3_digest_X3_mix rfl rfl rfl zy_X3_mix ⟨Nat.le_of_ble_eq_true rfl, Nat.le_of_ble_eq_true rfl⟩) (z_preV (ci := 3) hK hP hD rfl rfl) rfl rfl hl.1 rfl (lv_room (Nat.le_of_ble_eq_true rfl)) dX3_digest_141 ⟨Nat.zero_le _, Nat.zero_le _⟩) hP hD hS moW_adr rfl (fun H locs hP9 hD9 hS9 => ?_)
    replace hP : va_P D vwCl (moW cA a M3 N (f_X3_mix h_1 ((nI (N 1)).toInt64))) H := hP9
    replace hD : va_D _ (moW cA a M3 N (f_X3_mix h_1 ((nI (N 1)).toInt64))) := hD9
    replace hS := hS9
    clear hP9 hD9 hS9
    obtain ⟨h_2, eh_2⟩ : ∃ z9 : Int64, z9 = f_X3_mix h_1 ((nI (N 1)).toInt64) := ⟨_, rfl⟩
    rw [← eh_2] at hP hD
    refine lv_iconst (v := 0) hx hb dX3_digest_144 (by decide) ?_
    refine lv_istore_n (lv' := [(1, .int 0), (0, .ref (a 0))]) hx hb dX3_digest_145 rfl hl (by decide) rfl (fun ls hl => ?_)
    have loop_146 : ∀ (kk : Nat) (n : Nat) (y0_146 : Int64), n ≤ N 1 → N 1 - n < kk → y0_146 = f_X3_digest_146 M N M3 h_2 n → ∀ (H : Heap) (locs : List Loc), va_P D vwCl (moW cA a M3 N y0_146) H → va_D (zfr (moW cA a M N h)) (moW cA a M3 N y0_146) → va_S (zfr (moW cA a M N h)) s.heap H locs → ∀ (ls : Array Slot), lv_has ls 2 [(0, .ref (a 0)), (1, .int (nI n))] → W p l e (headSpec wsX3_digest (zrm 7 153)).room s m ([.ref (a 0)] : List Value).toArray below meth c H locs 0 0 (MQ below (zM D (moW cA a M N h) (moW cA a ((f_X3_digest M N).2.1) N ((f_X3_digest M N).2.2)) (some (.long ((f_X3_digest M N).1)))) ([.ref (a 0)] : List Value).toArray s 0 0 (zfr (moW cA a M N h))) (F0 m 146 ls []) := by
      intro kk
      induction kk with
      | zero => intro n y0_146 _ h9; exact absurd h9 (Nat.not_lt_zero _)
      | succ kk ih_146 =>
        intro n y0_146 hn_146 hm_146 q_y0_146 H locs hP hD hS ls hl
        refine lv_iload_n hx hb dX3_digest_146 rfl (lv_at hl 1 rfl) ?_
        refine lv_aload_n hx hb dX3_digest_147 rfl (lv_at hl 0 rfl) ?_
        refine va_get (D := D) (ci := 3) (v := .int (nI (N 1))) (C := RX3) (T := TX3) (N := 14) hx hb hts hi3 hown hK hP 0 rfl rfl 5 (by decide) (hts (.fieldLink RX3 134 "PledgedLoansModel" "length" "I") (List.mem_of_getElem? (i := 6) rfl)) (fun _ h9 => h9) rfl dX3_digest_148 ?_
        refine lv_icmp_ge (tgt := 171) hx hb dX3_digest_151 (by decide) (fun c_3 => ?_) (fun c_3 => ?_)
        · have c_3 : (N 1) ≤ n := (nI_leI (a := (N 1)) (b := n) (by omega) (by omega)).mp c_3
          have hn9 : n = N 1 := by omega
          subst hn9
          refine lv_aload_n hx hb dX3_digest_171 rfl (lv_at hl 0 rfl) ?_
          refine va_get (D := D) (ci := 3) (v := .long y0_146) (C := RX3) (T := TX3) (N := 14) hx hb hts hi3 hown hK hP 0 rfl rfl 13 (by decide) (hts (.fieldLink RX3 207 "PledgedLoansModel" "hash" "J") (List.mem_of_getElem? (i := 3) rfl)) (fun _ h9 => h9) rfl dX3_digest_172 ?_
          exact z_lretM (w1 := moW cA a M3 N y0_146) hx hb hr hlocks dX3_digest_175 hP hS (by subst q_y0_146 eh_2 eh_1; rw [hres_132]; first | (simp -proj only [f_X3_digest_132]; first | done | rfl; done) | rfl) (by subst q_y0_146 eh_2 eh_1; rw [hres_132]; first | (simp -proj only [f_X3_digest_132]; first | done | rfl; done) | rfl)
        · have c_3 : ¬ (N 1) ≤ n := fun h9 => c_3 ((nI_leI (a := (N 1)) (b := n) (by omega) (by omega)).mpr h9)
          refine lv_aload_n hx hb dX3_digest_154 rfl (lv_at hl 0 rfl) ?_
          refine lv_aload_n hx hb dX3_digest_155 rfl (lv_at hl 0 rfl) ?_
          refine va_get (D := D) (ci := 3) (v := .ref (a 3)) (C := RX3) (T := TX3) (N := 14) hx hb hts hi3 hown hK hP 0 rfl rfl 4 (by decide) (hts (.fieldLink RX3 17 "PledgedLoansModel" "text" "[I") (List.mem_of_getElem? (i := 7) rfl)) (fun _ h9 => h9) rfl dX3_digest_156 ?_
          refine lv_iload_n hx hb dX3_digest_159 rfl (lv_at hl 1 rfl) ?_
          refine z_iald (j := n) hx hb hK hP 3 0 rfl rfl dX3_digest_160 (by omega) (by decide) ?_
          refine lv_i2l (v := (M3 2 n).toInt64) hx hb dX3_digest_161 rfl ?_
          refine z_M (X := ([] : va_W)) (Z := ([] : va_W)) (va_runV (As := [.long ((M3 2 n).toInt64)]) (rest := []) ⟨hx, hb, hml, hown, hts⟩ (zc_X3_mix l D cA a M3 N y0_146 ((M3 2 n).toInt64)) (cwV 1 hts gX3_digest_X3_mix rfl rfl rfl zy_X3_mix ⟨Nat.le_of_ble_eq_true rfl, Nat.le_of_ble_eq_true rfl⟩) (z_preV (ci := 3) hK hP hD rfl rfl) rfl rfl hl.1 rfl (lv_room (Nat.le_of_ble_eq_true rfl)) dX3_digest_162 ⟨Nat.zero_le _, Nat.zero_le _⟩) hP hD hS moW_adr rfl (fun H locs hP9 hD9 hS9 => ?_)
          replace hP : va_P D vwCl (moW cA a M3 N (f_X3_mix y0_146 ((M3 2 n).toInt64))) H := hP9
          replace hD : va_D _ (moW cA a M3 N (f_X3_mix y0_146 ((M3 2 n).toInt64))) := hD9
          replace hS := hS9
          clear hP9 hD9 hS9
          obtain ⟨h_4, eh_4⟩ : ∃ z9 : Int64, z9 = f_X3_mix y0_146 ((M3 2 n).toInt64) := ⟨_, rfl⟩
          rw [← eh_4] at hP hD
          refine lv_iinc (v := nI (n + 1)) (lv' := [(1, .int (nI (n + 1))), (0, .ref (a 0))]) hx hb dX3_digest_165 hl (k := 1) rfl (by rw [show (Int32.ofInt 1) = nI 1 from by decide]; exact nI_add n 1) (by decide) rfl (fun ls hl => ?_)
          refine lv_goto (tgt := 146) hx hb dX3_digest_168 (by decide) ?_
          exact ih_146 (n + 1) _ (by omega) (by omega) (by subst eh_4 q_y0_146 eh_2 eh_1; first | (simp -proj only [f_X3_digest_146]; first | done | rfl; done) | rfl) _ _ hP hD hS ls (lv_sub hl [1, 0] rfl)
    exact loop_146 _ 0 _ (by omega) (Nat.lt_succ_self _) rfl _ _ hP hD hS ls (lv_sub hl [1, 0] rfl)
  have join_114 : ∀ (M2 : BK) (h2 : Int64) (v1 : Int64), f_X3_digest M N = f_X3_digest_114 M N M2 h2 v1 → ∀ (H : Heap) (locs : List Loc), va_P D vwCl (moW cA a M2 N h2) H → va_D (zfr (moW cA a M N h)) (moW cA a M2 N h2) → va_S (zfr (moW cA a M N h)) s.heap H locs → ∀ (ls : Array Slot), lv_has ls 2 [(0, .ref (a 0))] → W p l e (headSpec wsX3_digest (zrm 7 153)).room s m ([.ref (a 0)] : List Value).toArray below meth c H locs 0 0 (MQ below (zM D (moW cA a M N h) (moW cA a ((f_X3_digest M N).2.1) N ((f_X3_digest M N).2.2)) (some (.long ((f_X3_digest M N).1)))) ([.ref (a 0)] : List Value).toArray s 0 0 (zfr (moW cA a M N h))) (F0 m 114 ls [.long v1, .ref (a 0)]) := by
    intro M2 h2 v1 hres_114 H locs hP hD hS ls hl
    refine z_M (X := ([] : va_W)) (Z := ([] : va_W)) (va_runV (As := [.long v1]) (rest := []) ⟨hx, hb, hml, hown, hts⟩ (zc_X3_mix l D cA a M2 N h2 v1) (cwV 1 hts gX3_digest_X3_mix rfl rfl rfl zy_X3_mix ⟨Nat.le_of_ble_eq_true rfl, Nat.le_of_ble_eq_true rfl⟩) (z_preV (ci := 3) hK hP hD rfl rfl) rfl rfl hl.1 rfl (lv_room (Nat.le_of_ble_eq_true rfl)) dX3_digest_114 ⟨Nat.zero_le _, Nat.zero_le _⟩) hP hD hS moW_adr rfl (fun H locs hP9 hD9 hS9 => ?_)
    replace hP : va_P D vwCl (moW cA a M2 N (f_X3_mix h2 v1)) H := hP9
    replace hD : va_D _ (moW cA a M2 N (f_X3_mix h2 v1)) := hD9
    replace hS := hS9
    clear hP9 hD9 hS9
    obtain ⟨h_5, eh_5⟩ : ∃ z9 : Int64, z9 = f_X3_mix h2 v1 := ⟨_, rfl⟩
    rw [← eh_5] at hP hD
    refine lv_aload_n hx hb dX3_digest_117 rfl (lv_at hl 0 rfl) ?_
    refine lv_aload_n hx hb dX3_digest_118 rfl (lv_at hl 0 rfl) ?_
    refine va_get (D := D) (ci := 3) (v := .ref (a 2)) (C := RX3) (T := TX3) (N := 14) hx hb hts hi3 hown hK hP 0 rfl rfl 3 (by decide) (hts (.fieldLink RX3 13 "PledgedLoansModel" "isKept" "[Z") (List.mem_of_getElem? (i := 5) rfl)) (fun _ h9 => h9) rfl dX3_digest_119 ?_
    refine lv_iconst (v := 1) hx hb dX3_digest_122 (by decide) ?_
    refine z_zald (j := 1) hx hb hK hP 2 1 rfl rfl dX3_digest_123 (by omega) (by decide) ?_
    refine lv_if_eq (tgt := 131) hx hb dX3_digest_124 (by decide) (fun c_6 => ?_) (fun c_6 => ?_)
    · refine lv_lconst (v := 0) hx hb dX3_digest_131 (by decide) ?_
      exact join_132 M2 h_5 0 (by subst eh_5; rw [hres_114]; simp -proj only [f_X3_digest_114, if_pos c_6]; first | done | rfl) _ _ hP hD hS ls (lv_sub hl [0] rfl)
    · refine lv_lconst (v := 1) hx hb dX3_digest_127 (by decide) ?_
      refine lv_goto (tgt := 132) hx hb dX3_digest_128 (by decide) ?_
      exact join_132 M2 h_5 1 (by subst eh_5; rw [hres_114]; simp -proj only [f_X3_digest_114, if_neg c_6]; first | done | rfl) _ _ hP hD hS ls (lv_sub hl [0] rfl)
  have join_79 : ∀ (M7 : BK) (h7 : Int64), M7 0 = M 0 → f_X3_digest M N = f_X3_digest_79 M N M7 h7 → ∀ (H : Heap) (locs : List Loc), va_P D vwCl (moW cA a M7 N h7) H → va_D (zfr (moW cA a M N h)) (moW cA a M7 N h7) → va_S (zfr (moW cA a M N h)) s.heap H locs → ∀ (ls : Array Slot), lv_has ls 2 [(0, .ref (a 0))] → W p l e (headSpec wsX3_digest (zrm 7 153)).room s m ([.ref (a 0)] : List Value).toArray below meth c H locs 0 0 (MQ below (zM D (moW cA a M N h) (moW cA a ((f_X3_digest M N).2.1) N ((f_X3_digest M N).2.2)) (some (.long ((f_X3_digest M N).1)))) ([.ref (a 0)] : List Value).toArray s 0 0 (zfr (moW cA a M N h))) (F0 m 79 ls []) := by
    intro M7 h7 hi0_79 hres_79 H locs hP hD hS ls hl
    refine lv_aload_n hx hb dX3_digest_79 rfl (lv_at hl 0 rfl) ?_
    refine lv_aload_n hx hb dX3_digest_80 rfl (lv_at hl 0 rfl) ?_
    refine z_E (va_runV (As := []) (rest := [.ref (a 0)]) ⟨hx, hb, hml, hown, hts⟩ (zc_X3_risky l D cA a M7 N h7) (cwV 0 hts gX3_digest_X3_risky rfl rfl rfl zy_X3_risky ⟨Nat.le_of_ble_eq_true rfl, Nat.le_of_ble_eq_true rfl⟩) (z_preV (ci := 3) hK hP hD rfl rfl) rfl rfl hl.1 rfl (lv_room (Nat.le_of_ble_eq_true rfl)) dX3_digest_81 ⟨Nat.zero_le _, Nat.zero_le _⟩) rfl ?_
    refine lv_i2l (v := (f_X3_risky M7).toInt64) hx hb dX3_digest_84 rfl ?_
    refine z_M (X := ([] : va_W)) (Z := ([] : va_W)) (va_runV (As := [.long ((f_X3_risky M7).toInt64)]) (rest := []) ⟨hx, hb, hml, hown, hts⟩ (zc_X3_mix l D cA a M7 N h7 ((f_X3_risky M7).toInt64)) (cwV 1 hts gX3_digest_X3_mix rfl rfl rfl zy_X3_mix ⟨Nat.le_of_ble_eq_true rfl, Nat.le_of_ble_eq_true rfl⟩) (z_preV (ci := 3) hK hP hD rfl rfl) rfl rfl hl.1 rfl (lv_room (Nat.le_of_ble_eq_true rfl)) dX3_digest_85 ⟨Nat.zero_le _, Nat.zero_le _⟩) hP hD hS moW_adr rfl (fun H locs hP9 hD9 hS9 => ?_)
    replace hP : va_P D vwCl (moW cA a M7 N (f_X3_mix h7 ((f_X3_risky M7).toInt64))) H := hP9
    replace hD : va_D _ (moW cA a M7 N (f_X3_mix h7 ((f_X3_risky M7).toInt64))) := hD9
    replace hS := hS9
    clear hP9 hD9 hS9
    obtain ⟨h_7, eh_7⟩ : ∃ z9 : Int64, z9 = f_X3_mix h7 ((f_X3_risky M7).toInt64) := ⟨_, rfl⟩
    rw [← eh_7] at hP hD
    refine lv_aload_n hx hb dX3_digest_88 rfl (lv_at hl 0 rfl) ?_
    refine lv_aload_n hx hb dX3_digest_89 rfl (lv_at hl 0 rfl) ?_
    refine z_E (va_runV (As := []) (rest := [.ref (a 0)]) ⟨hx, hb, hml, hown, hts⟩ (zc_X3_lent l D cA a M7 N h_7 (by rw [zh_total hi0_79]; exact hl0) (by rw [zh_total hi0_79]; exact hl2)) (cwV 0 hts gX3_digest_X3_lent rfl rfl rfl zy_X3_lent ⟨Nat.le_of_ble_eq_true rfl, Nat.le_of_ble_eq_true rfl⟩) (z_preV (ci := 3) hK hP hD rfl rfl) rfl rfl hl.1 rfl (lv_room (Nat.le_of_ble_eq_true rfl)) dX3_digest_90 ⟨Nat.zero_le _, Nat.zero_le _⟩) rfl ?_
    obtain ⟨y9_90, ey9_90⟩ : ∃ z9 : UInt64, z9 = f_X3_lent M7 := ⟨_, rfl⟩
    refine z_topd ey9_90.symm ?_
    refine z_E (va_runS (As := [.double y9_90]) (rest := [.ref (a 0)]) ⟨hx, hb, hml, hown, hts⟩ (zc_X3_bits l D cA y9_90 (by rw [ey9_90, zh_lent hi0_79]; exact hdv)) (va_cwS 1 hts gX3_digest_X3_bits rfl rfl rfl zy_X3_bits.2 ⟨Nat.le_of_ble_eq_true rfl, Nat.le_of_ble_eq_true rfl⟩) (z_preS hK z_P0 (z_D0 (A := fun _ => True))) rfl rfl hl.1 rfl (lv_room (Nat.le_of_ble_eq_true rfl)) dX3_digest_93 ⟨Nat.zero_le _, Nat.zero_le _⟩) rfl ?_
    obtain ⟨y9_93, ey9_93⟩ : ∃ z9 : Int64, z9 = f_X3_bits y9_90 := ⟨_, rfl⟩
    refine z_topl ey9_93.symm ?_
    refine z_M (X := ([] : va_W)) (Z := ([] : va_W)) (va_runV (As := [.long y9_93]) (rest := []) ⟨hx, hb, hml, hown, hts⟩ (zc_X3_mix l D cA a M7 N h_7 y9_93) (cwV 1 hts gX3_digest_X3_mix rfl rfl rfl zy_X3_mix ⟨Nat.le_of_ble_eq_true rfl, Nat.le_of_ble_eq_true rfl⟩) (z_preV (ci := 3) hK hP hD rfl rfl) rfl rfl hl.1 rfl (lv_room (Nat.le_of_ble_eq_true rfl)) dX3_digest_96 ⟨Nat.zero_le _, Nat.zero_le _⟩) hP hD hS moW_adr rfl (fun H locs hP9 hD9 hS9 => ?_)
    replace hP : va_P D vwCl (moW cA a M7 N (f_X3_mix h_7 y9_93)) H := hP9
    replace hD : va_D _ (moW cA a M7 N (f_X3_mix h_7 y9_93)) := hD9
    replace hS := hS9
    clear hP9 hD9 hS9
    obtain ⟨h_8, eh_8⟩ : ∃ z9 : Int64, z9 = f_X3_mix h_7 y9_93 := ⟨_, rfl⟩
    rw [← eh_8] at hP hD
    refine lv_aload_n hx hb dX3_digest_99 rfl (lv_at hl 0 rfl) ?_
    refine lv_aload_n hx hb dX3_digest_100 rfl (lv_at hl 0 rfl) ?_
    refine va_get (D := D) (ci := 3) (v := .ref (a 2)) (C := RX3) (T := TX3) (N := 14) hx hb hts hi3 hown hK hP 0 rfl rfl 3 (by decide) (hts (.fieldLink RX3 13 "PledgedLoansModel" "isKept" "[Z") (List.mem_of_getElem? (i := 5) rfl)) (fun _ h9 => h9) rfl dX3_digest_101 ?_
    refine lv_iconst (v := 0) hx hb dX3_digest_104 (by decide) ?_
    refine z_zald (j := 0) hx hb hK hP 2 1 rfl rfl dX3_digest_105 (by omega) (by decide) ?_
    refine lv_if_eq (tgt := 113) hx hb dX3_digest_106 (by decide) (fun c_9 => ?_) (fun c_9 => ?_)
    · refine lv_lconst (v := 0) hx hb dX3_digest_113 (by decide) ?_
      exact join_114 M7 h_8 0 (by subst eh_8 ey9_93 ey9_90 eh_7; rw [hres_79]; simp -proj only [f_X3_digest_79, if_pos c_9]; first | done | rfl) _ _ hP hD hS ls (lv_sub hl [0] rfl)
    · refine lv_lconst (v := 1) hx hb dX3_digest_109 (by decide) ?_
      refine lv_goto (tgt := 114) hx hb dX3_digest_110 (by decide) ?_
      exact join_114 M7 h_8 1 (by subst eh_8 ey9_93 ey9_90 eh_7; rw [hres_79]; simp -proj only [f_X3_digest_79, if_neg c_9]; first | done | rfl) _ _ hP hD hS ls (lv_sub hl [0] rfl)
  have join_36 : ∀ (M6 : BK) (h6 : Int64), M6 0 = M 0 → f_X3_digest M N = f_X3_digest_36 M N M6 h6 → ∀ (H : Heap) (locs : List Loc), va_P D vwCl (moW cA a M6 N h6) H → va_D (zfr (moW cA a M N h)) (moW cA a M6 N h6) → va_S (zfr (moW cA a M N h)) s.heap H locs → ∀ (ls : Array Slot), lv_has ls 2 [(0, .ref (a 0))] → W p l e (headSpec wsX3_digest (zrm 7 153)).room s m ([.ref (a 0)] : List Value).toArray below meth c H locs 0 0 (MQ below (zM D (moW cA a M N h) (moW cA a ((f_X3_digest M N).2.1) N ((f_X3_digest M N).2.2)) (some (.long ((f_X3_digest M N).1)))) ([.ref (a 0)] : List Value).toArray s 0 0 (zfr (moW cA a M N h))) (F0 m 36 ls []) := by
    intro M6 h6 hi0_36 hres_36 H locs hP hD hS ls hl
    refine lv_aload_n hx hb dX3_digest_36 rfl (lv_at hl 0 rfl) ?_
    refine lv_aload_n hx hb dX3_digest_37 rfl (lv_at hl 0 rfl) ?_
    refine va_get (D := D) (ci := 3) (v := .ref (a 1)) (C := RX3) (T := TX3) (N := 14) hx hb hts hi3 hown hK hP 0 rfl rfl 1 (by decide) (hts (.fieldLink RX3 7 "PledgedLoansModel" "s" "[I") (List.mem_of_getElem? (i := 4) rfl)) (fun _ h9 => h9) rfl dX3_digest_38 ?_
    refine lv_bipush (v := 8) hx hb dX3_digest_41 (by decide) ?_
    refine z_iald (j := 8) hx hb hK hP 1 0 rfl rfl dX3_digest_43 (by omega) (by decide) ?_
    refine lv_i2l (v := (M6 0 8).toInt64) hx hb dX3_digest_44 rfl ?_
    refine z_M (X := ([] : va_W)) (Z := ([] : va_W)) (va_runV (As := [.long ((M6 0 8).toInt64)]) (rest := []) ⟨hx, hb, hml, hown, hts⟩ (zc_X3_mix l D cA a M6 N h6 ((M6 0 8).toInt64)) (cwV 1 hts gX3_digest_X3_mix rfl rfl rfl zy_X3_mix ⟨Nat.le_of_ble_eq_true rfl, Nat.le_of_ble_eq_true rfl⟩) (z_preV (ci := 3) hK hP hD rfl rfl) rfl rfl hl.1 rfl (lv_room (Nat.le_of_ble_eq_true rfl)) dX3_digest_45 ⟨Nat.zero_le _, Nat.zero_le _⟩) hP hD hS moW_adr rfl (fun H locs hP9 hD9 hS9 => ?_)
    replace hP : va_P D vwCl (moW cA a M6 N (f_X3_mix h6 ((M6 0 8).toInt64))) H := hP9
    replace hD : va_D _ (moW cA a M6 N (f_X3_mix h6 ((M6 0 8).toInt64))) := hD9
    replace hS := hS9
    clear hP9 hD9 hS9
    obtain ⟨h_10, eh_10⟩ : ∃ z9 : Int64, z9 = f_X3_mix h6 ((M6 0 8).toInt64) := ⟨_, rfl⟩
    rw [← eh_10] at hP hD
    refine lv_aload_n hx hb dX3_digest_48 rfl (lv_at hl 0 rfl) ?_
    refine lv_aload_n hx hb dX3_digest_49 rfl (lv_at hl 0 rfl) ?_
    refine va_get (D := D) (ci := 3) (v := .ref (a 1)) (C := RX3) (T := TX3) (N := 14) hx hb hts hi3 hown hK hP 0 rfl rfl 1 (by decide) (hts (.fieldLink RX3 7 "PledgedLoansModel" "s" "[I") (List.mem_of_getElem? (i := 4) rfl)) (fun _ h9 => h9) rfl dX3_digest_50 ?_
    refine lv_bipush (v := 9) hx hb dX3_digest_53 (by decide) ?_
    refine z_iald (j := 9) hx hb hK hP 1 0 rfl rfl dX3_digest_55 (by omega) (by decide) ?_
    refine lv_i2l (v := (M6 0 9).toInt64) hx hb dX3_digest_56 rfl ?_
    refine z_M (X := ([] : va_W)) (Z := ([] : va_W)) (va_runV (As := [.long ((M6 0 9).toInt64)]) (rest := []) ⟨hx, hb, hml, hown, hts⟩ (zc_X3_mix l D cA a M6 N h_10 ((M6 0 9).toInt64)) (cwV 1 hts gX3_digest_X3_mix rfl rfl rfl zy_X3_mix ⟨Nat.le_of_ble_eq_true rfl, Nat.le_of_ble_eq_true rfl⟩) (z_preV (ci := 3) hK hP hD rfl rfl) rfl rfl hl.1 rfl (lv_room (Nat.le_of_ble_eq_true rfl)) dX3_digest_57 ⟨Nat.zero_le _, Nat.zero_le _⟩) hP hD hS moW_adr rfl (fun H locs hP9 hD9 hS9 => ?_)
    replace hP : va_P D vwCl (moW cA a M6 N (f_X3_mix h_10 ((M6 0 9).toInt64))) H := hP9
    replace hD : va_D _ (moW cA a M6 N (f_X3_mix h_10 ((M6 0 9).toInt64))) := hD9
    replace hS := hS9
    clear hP9 hD9 hS9
    obtain ⟨h_11, eh_11⟩ : ∃ z9 : Int64, z9 = f_X3_mix h_10 ((M6 0 9).toInt64) := ⟨_, rfl⟩
    rw [← eh_11] at hP hD
    refine lv_iconst (v := 0) hx hb dX3_digest_60 (by decide) ?_
    refine lv_istore_n (lv' := [(1, .int 0), (0, .ref (a 0))]) hx hb dX3_digest_61 rfl hl (by decide) rfl (fun ls hl => ?_)
    have loop_62 : ∀ (kk : Nat) (n : Nat) (y0_62 : BK) (y1_62 : Int64), n ≤ 6 → 6 - n < kk → y0_62 0 = M 0 → y0_62 = (f_X3_digest_62 M N M6 h_11 n).1 → y1_62 = (f_X3_digest_62 M N M6 h_11 n).2 → ∀ (H : Heap) (locs : List Loc), va_P D vwCl (moW cA a y0_62 N y1_62) H → va_D (zfr (moW cA a M N h)) (moW cA a y0_62 N y1_62) → va_S (zfr (moW cA a M N h)) s.heap H locs → ∀ (ls : Array Slot), lv_has ls 2 [(0, .ref (a 0)), (1, .int (nI n))] → W p l e (headSpec wsX3_digest (zrm 7 153)).room s m ([.ref (a 0)] : List Value).toArray below meth c H locs 0 0 (MQ below (zM D (moW cA a M N h) (moW cA a ((f_X3_digest M N).2.1) N ((f_X3_digest M N).2.2)) (some (.long ((f_X3_digest M N).1)))) ([.ref (a 0)] : List Value).toArray s 0 0 (zfr (moW cA a M N h))) (F0 m 62 ls []) := by
      intro kk
      induction kk with
      | zero => intro n y0_62 y1_62 _ h9; exact absurd h9 (Nat.not_lt_zero _)
      | succ kk ih_62 =>
        intro n y0_62 y1_62 hn_62 hm_62 hi0_62 q_y0_62 q_y1_62 H locs hP hD hS ls hl
        refine lv_iload_n hx hb dX3_digest_62 rfl (lv_at hl 1 rfl) ?_
        refine lv_bipush (v := 6) hx hb dX3_digest_63 (by decide) ?_
        refine lv_icmp_ge (tgt := 79) hx hb dX3_digest_65 (by decide) (fun c_12 => ?_) (fun c_12 => ?_)
        · have c_12 : 6 ≤ n := (nI_leI (a := 6) (b := n) (by omega) (by omega)).mp c_12
          obtain rfl : n = 6 := by omega
          obtain ⟨z_62, hz_62⟩ : ∃ z9, z9 = f_X3_digest_62 M N M6 h_11 6 := ⟨_, rfl⟩
          rw [← hz_62] at q_y0_62 q_y1_62
          exact join_79 y0_62 y1_62 (by first | assumption | rfl) (by subst q_y1_62 q_y0_62 eh_11 eh_10; rw [hres_36]; first | (simp -proj only [f_X3_digest_36, ← hz_62]; first | done | rfl; done) | rfl) _ _ hP hD hS ls (lv_sub hl [0] rfl)
        · have c_12 : ¬ 6 ≤ n := fun h9 => c_12 ((nI_leI (a := 6) (b := n) (by omega) (by omega)).mpr h9)
          refine lv_aload_n hx hb dX3_digest_68 rfl (lv_at hl 0 rfl) ?_
          refine lv_iload_n hx hb dX3_digest_69 rfl (lv_at hl 1 rfl) ?_
          refine z_M (X := ([] : va_W)) (Z := ([] : va_W)) (va_runV (As := [.int (nI n)]) (rest := []) ⟨hx, hb, hml, hown, hts⟩ (zc_X3_mixMember l D cA a y0_62 N y1_62 n (by omega) (by rw [hi0_62]; exact hpt)) (cwV 1 hts gX3_digest_X3_mixMember rfl rfl rfl zy_X3_mixMember ⟨Nat.le_of_ble_eq_true rfl, Nat.le_of_ble_eq_true rfl⟩) (z_preV (ci := 3) hK hP hD rfl rfl) rfl rfl hl.1 rfl (lv_room (Nat.le_of_ble_eq_true rfl)) dX3_digest_70 ⟨Nat.zero_le _, Nat.zero_le _⟩) hP hD hS moW_adr rfl (fun H locs hP9 hD9 hS9 => ?_)
          replace hP : va_P D vwCl (moW cA a ((f_X3_mixMember y0_62 y1_62 n).1) N ((f_X3_mixMember y0_62 y1_62 n).2)) H := hP9
          replace hD : va_D _ (moW cA a ((f_X3_mixMember y0_62 y1_62 n).1) N ((f_X3_mixMember y0_62 y1_62 n).2)) := hD9
          replace hS := hS9
          clear hP9 hD9 hS9
          obtain ⟨M_13, eM_13⟩ : ∃ z9 : BK, z9 = (f_X3_mixMember y0_62 y1_62 n).1 := ⟨_, rfl⟩
          rw [← eM_13] at hP hD
          obtain ⟨h_14, eh_14⟩ : ∃ z9 : Int64, z9 = (f_X3_mixMember y0_62 y1_62 n).2 := ⟨_, rfl⟩
          rw [← eh_14] at hP hD
          refine lv_iinc (v := nI (n + 1)) (lv' := [(1, .int (nI (n + 1))), (0, .ref (a 0))]) hx hb dX3_digest_73 hl (k := 1) rfl (by rw [show (Int32.ofInt 1) = nI 1 from by decide]; exact nI_add n 1) (by decide) rfl (fun ls hl => ?_)
          refine lv_goto (tgt := 62) hx hb dX3_digest_76 (by decide) ?_
          exact ih_62 (n + 1) _ _ (by omega) (by omega) (by subst eh_14 eM_13 q_y1_62 q_y0_62 eh_11 eh_10; exact (zh_mixMember _ _ _).trans hi0_62) (by subst eh_14 eM_13 q_y1_62 q_y0_62 eh_11 eh_10; rw [zs_62]) (by subst eh_14 eM_13 q_y1_62 q_y0_62 eh_11 eh_10; rw [zs_62]) _ _ hP hD hS ls (lv_sub hl [1, 0] rfl)
    exact loop_62 _ 0 _ _ (by omega) (Nat.lt_succ_self _) (by exact hi0_36) rfl rfl _ _ hP hD hS ls (lv_sub hl [1, 0] rfl)
  refine lv_aload_n hx hb dX3_digest_0 rfl (lv_at hl 0 rfl) ?_
  refine lv_iconst (v := 0) hx hb dX3_digest_1 (by decide) ?_
  refine va_put (D := D) (ci := 3) (v := .int 0) (ty := .int) (C := RX3) (T := TX3) (N := 14) hx hb hts hi3 tyX3 tyX3_ok nmX3 hown hK hP hD hS 0 rfl rfl 0 (by decide) (hts (.fieldLink RX3 23 "PledgedLoansModel" "thrown" "I") (List.mem_of_getElem? (i := 1) rfl)) (fun _ h9 => h9) rfl (by decide +kernel) rfl rfl (Nat.le_of_ble_eq_true rfl) dX3_digest_2 (fun H locs hP9 hD9 hS9 => ?_)
  replace hP : va_P D vwCl (moW cA a (uB M 4 0 0) N h) H := hP9
  replace hD : va_D _ (moW cA a (uB M 4 0 0) N h) := hD9
  replace hS := hS9
  clear hP9 hD9 hS9
  refine lv_aload_n hx hb dX3_digest_5 rfl (lv_at hl 0 rfl) ?_
  refine lv_ldc2 hx hb hown (hts (.constantLong RX3 223 (3607)) (List.mem_of_getElem? (i := 2) rfl)) dX3_digest_6 ?_
  refine va_put (D := D) (ci := 3) (v := .long (3607)) (ty := .long) (C := RX3) (T := TX3) (N := 14) hx hb hts hi3 tyX3 tyX3_ok nmX3 hown hK hP hD hS 0 rfl rfl 13 (by decide) (hts (.fieldLink RX3 207 "PledgedLoansModel" "hash" "J") (List.mem_of_getElem? (i := 3) rfl)) (fun _ h9 => h9) rfl (by decide +kernel) rfl rfl (Nat.le_of_ble_eq_true rfl) dX3_digest_9 (fun H locs hP9 hD9 hS9 => ?_)
  replace hP : va_P D vwCl (moW cA a (uB M 4 0 0) N (3607)) H := hP9
  replace hD : va_D _ (moW cA a (uB M 4 0 0) N (3607)) := hD9
  replace hS := hS9
  clear hP9 hD9 hS9
  refine lv_iconst (v := 0) hx hb dX3_digest_12 (by decide) ?_
  refine lv_istore_n (lv' := [(1, .int 0), (0, .ref (a 0))]) hx hb dX3_digest_13 rfl hl (by decide) rfl (fun ls hl => ?_)
  have loop_14 : ∀ (kk : Nat) (n : Nat) (y0_14 : Int64), n ≤ 12 → 12 - n < kk → y0_14 = f_X3_digest_14 M N (3607) n → ∀ (H : Heap) (locs : List Loc), va_P D vwCl (moW cA a (uB M 4 0 0) N y0_14) H → va_D (zfr (moW cA a M N h)) (moW cA a (uB M 4 0 0) N y0_14) → va_S (zfr (moW cA a M N h)) s.heap H locs → ∀ (ls : Array Slot), lv_has ls 2 [(0, .ref (a 0)), (1, .int (nI n))] → W p l e (headSpec wsX3_digest (zrm 7 153)).room s m ([.ref (a 0)] : List Value).toArray below meth c H locs 0 0 (MQ below (zM D (moW cA a M N h) (moW cA a ((f_X3_digest M N).2.1) N ((f_X3_digest M N).2.2)) (some (.long ((f_X3_digest M N).1)))) ([.ref (a 0)] : List Value).toArray s 0 0 (zfr (moW cA a M N h))) (F0 m 14 ls []) := by
    intro kk
    induction kk with
    | zero => intro n y0_14 _ h9; exact absurd h9 (Nat.not_lt_zero _)
    | succ kk ih_14 =>
      intro n y0_14 hn_14 hm_14 q_y0_14 H locs hP hD hS ls hl
      refine lv_iload_n hx hb dX3_digest_14 rfl (lv_at hl 1 rfl) ?_
      refine lv_bipush (v := 12) hx hb dX3_digest_15 (by decide) ?_
      refine lv_icmp_ge (tgt := 36) hx hb dX3_digest_17 (by decide) (fun c_15 => ?_) (fun c_15 => ?_)
      · have c_15 : 12 ≤ n := (nI_leI (a := 12) (b := n) (by omega) (by omega)).mp c_15
        obtain rfl : n = 12 := by omega
        obtain ⟨z_14, hz_14⟩ : ∃ z9, z9 = f_X3_digest_14 M N (3607) 12 := ⟨_, rfl⟩
        rw [← hz_14] at q_y0_14
        exact join_36 (uB M 4 0 0) y0_14 (by first | assumption | rfl) (by subst q_y0_14; first | (simp -proj only [f_X3_digest, ← hz_14]; first | done | rfl; done) | rfl) _ _ hP hD hS ls (lv_sub hl [0] rfl)
      · have c_15 : ¬ 12 ≤ n := fun h9 => c_15 ((nI_leI (a := 12) (b := n) (by omega) (by omega)).mpr h9)
        refine lv_aload_n hx hb dX3_digest_20 rfl (lv_at hl 0 rfl) ?_
        refine lv_aload_n hx hb dX3_digest_21 rfl (lv_at hl 0 rfl) ?_
        refine lv_iload_n hx hb dX3_digest_22 rfl (lv_at hl 1 rfl) ?_
        refine z_E (va_runV (As := [.int (nI n)]) (rest := [.ref (a 0)]) ⟨hx, hb, hml, hown, hts⟩ (zc_X3_counted l D cA a (uB M 4 0 0) N y0_14 n (by omega)) (cwV 1 hts gX3_digest_X3_counted rfl rfl rfl zy_X3_counted ⟨Nat.le_of_ble_eq_true rfl, Nat.le_of_ble_eq_true rfl⟩) (z_preV (ci := 3) hK hP hD rfl rfl) rfl rfl hl.1 rfl (lv_room (Nat.le_of_ble_eq_true rfl)) dX3_digest_23 ⟨Nat.zero_le _, Nat.zero_le _⟩) rfl ?_
        refine lv_i2l (v := (f_X3_counted (uB M 4 0 0) N n).toInt64) hx hb dX3_digest_26 rfl ?_
        refine z_M (X := ([] : va_W)) (Z := ([] : va_W)) (va_runV (As := [.long ((f_X3_counted (uB M 4 0 0) N n).toInt64)]) (rest := []) ⟨hx, hb, hml, hown, hts⟩ (zc_X3_mix l D cA a (uB M 4 0 0) N y0_14 ((f_X3_counted (uB M 4 0 0) N n).toInt64)) (cwV 1 hts gX3_digest_X3_mix rfl rfl rfl zy_X3_mix ⟨Nat.le_of_ble_eq_true rfl, Nat.le_of_ble_eq_true rfl⟩) (z_preV (ci := 3) hK hP hD rfl rfl) rfl rfl hl.1 rfl (lv_room (Nat.le_of_ble_eq_true rfl)) dX3_digest_27 ⟨Nat.zero_le _, Nat.zero_le _⟩) hP hD hS moW_adr rfl (fun H locs hP9 hD9 hS9 => ?_)
        replace hP : va_P D vwCl (moW cA a (uB M 4 0 0) N (f_X3_mix y0_14 ((f_X3_counted (uB M 4 0 0) N n).toInt64))) H := hP9
        replace hD : va_D _ (moW cA a (uB M 4 0 0) N (f_X3_mix y0_14 ((f_X3_counted (uB M 4 0 0) N n).toInt64))) := hD9
        replace hS := hS9
        clear hP9 hD9 hS9
        obtain ⟨h_16, eh_16⟩ : ∃ z9 : Int64, z9 = f_X3_mix y0_14 ((f_X3_counted (uB M 4 0 0) N n).toInt64) := ⟨_, rfl⟩
        rw [← eh_16] at hP hD
        refine lv_iinc (v := nI (n + 1)) (lv' := [(1, .int (nI (n + 1))), (0, .ref (a 0))]) hx hb dX3_digest_30 hl (k := 1) rfl (by rw [show (Int32.ofInt 1) = nI 1 from by decide]; exact nI_add n 1) (by decide) rfl (fun ls hl => ?_)
        refine lv_goto (tgt := 14) hx hb dX3_digest_33 (by decide) ?_
        exact ih_14 (n + 1) _ (by omega) (by omega) (by subst eh_16 q_y0_14; first | (simp -proj only [f_X3_digest_14]; first | done | rfl; done) | rfl) _ _ hP hD hS ls (lv_sub hl [1, 0] rfl)
  exact loop_14 _ 0 _ (by omega) (Nat.lt_succ_self _) rfl _ _ hP hD hS ls (lv_sub hl [1, 0] rfl)

