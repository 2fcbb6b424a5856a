theorem zy_X3_bits : yX3_bits.cls = RX3 ∧ yX3_bits.cls ≠ "java/lang/invoke/MethodHandle" ∧ yX3_bits.cls ≠ "java/lang/invoke/VarHandle" ∧ (parseMethodDescriptor yX3_bits.desc).map (fun d => d.parameters.length) = some 1 := by decide +kernel
def f_X3_bits_38 (dv : UInt64) : Nat → UInt64 → Int64 → Int64
  | 0, x, pw => 0
  | k + 1, x, pw =>
    if 0 ≤ (Op.cmpValue (FP.dcmp x FP.dconst1) .g) then
      (pw * (4503599627370496)) + (FP.d2l (FP.dmul (FP.dsub x FP.dconst1) (4841369599423283200)))
    else
      f_X3_bits_38 dv k (FP.dmul x (4611686018427387904)) (pw - 1)
def f_X3_bits (dv : UInt64) : Int64 :=
  if (Op.cmpValue (FP.dcmp dv FP.dconst0) .l) = 0 then
    0
  else
    f_X3_bits_38 dv 1101 dv (1023)

theorem zh_f2 (M : BK) (mb : Nat) (am : Int32) (i0 : BK) : ∀ n, (f_X3_fewest_2 M mb am i0 n) 0 = i0 0
  | 0 => rfl
  | n + 1 => by
    unfold f_X3_fewest_2
    exact zif (fun (q : BK) => q 0 = i0 0) (fun _ => zh_f2 M mb am i0 n) (fun _ => zh_f2 M mb am i0 n)
theorem zh_f43 (M : BK) (mb : Nat) (am : Int32) : ∀ (k : Nat) (x : Int32) (q : Nat) (M1 : BK), (f_X3_fewest_43 M mb am k x q M1).2 0 = M1 0
  | 0, _, _, _ => rfl
  | k + 1, x, q, M1 => by
    unfold f_X3_fewest_43
    dsimp only
    exact zif (fun (r : Int32 × BK) => r.2 0 = M1 0) (fun _ => rfl) (fun _ => zif (fun (r : Int32 × BK) => r.2 0 = M1 0) (fun _ => zh_f43 M mb am k _ _ _) (fun _ => rfl))
theorem zh_fewest (M : BK) (mb : Nat) (am : Int32) : (f_X3_fewest M mb am).2 0 = M 0 := by
  unfold f_X3_fewest
  exact (zh_f43 M mb am 7 _ _ _).trans (zh_f2 M mb am M 6)
theorem zh_t4 (M M' : BK) (h : M' 0 = M 0) (wt : Nat) (i : Int32) : ∀ n, f_X3_total_4 M' wt i n = f_X3_total_4 M wt i n
  | 0 => rfl
  | n + 1 => by
    unfold f_X3_total_4
    dsimp only
    rw [zh_t4 M M' h wt i n]
    unfold f_X3_of
    rw [h]
theorem zh_total {M M' : BK} (h : M' 0 = M 0) (wt : Nat) : f_X3_total M' wt = f_X3_total M wt := zh_t4 M M' h wt 0 6
theorem zh_lent {M M' : BK} (h : M' 0 = M 0) : f_X3_lent M' = f_X3_lent M := by
  unfold f_X3_lent
  rw [zh_total h, zh_total h]
section
variable {p : Program} {l : Launch} {e : Env} {R : Room} {s : State} {m : MethodId} {args : Array Value} {below : List Frame} {meth : Method} {c : Code} {H : Heap} {locs : List Loc} {cells slots : Nat} {Q : State → Prop}
variable {pc : Nat} {ls : Array Slot} {rest : List Value}
theorem z_topd {x y : UInt64} (h : x = y) (k : W p l e R s m args below meth c H locs cells slots Q (F0 m pc ls (.double y :: rest))) : W p l e R s m args below meth c H locs cells slots Q (F0 m pc ls (.double x :: rest)) := h ▸ k
end

set_option maxHeartbeats 4000000 in
set_option maxRecDepth 100000 in
theorem zc_X3_bits (l : Launch) (D : va_G) (cA : Nat → ClassId) (dv : UInt64) (hdv : dv = 0 ∨ zdn dv) : Met l yX3_bits wsX3_bits (zrm 0 0) (zPc D cA [.double dv] (([] : va_W))) (zE (some (.long (f_X3_bits dv)))) 0 0 (fun _ => False) := by
  refine Met.ofW (cc := cX3_bits) (maxL := 6) (ret := (some .long)) (by decide) rfl ?_
  intro p e s m args below meth c s₁ Bd hml hv
  obtain ⟨rfl, hP, hK, hD0⟩ := hv
  have hx := Bd.exec
  have hb := Bd.bytes
  have hr := Bd.returns
  have hts := atoms_spec (ws := wsX3_bits) Bd.pre
  have hown : s.vm.findClass RX3 = some m.cls := findClass_of_methodNamed Bd.named
  have hlocks := Bd.notSynchronized
  have hD := z_Dfr hD0
  have hS : va_S (zfr (([] : va_W))) s.heap s.heap [] := va_S.rf
  have hl := lv_entry ([.double dv]) (n := 6) (Nat.le_of_ble_eq_true rfl)
  rw [lg_entry_eq]
  generalize (lg_sl ([.double dv]) ++ List.replicate (6 - (lg_sl ([.double dv])).length) Slot.unset).toArray = ls at hl ⊢
  have hl : lv_has ls 6 [(0, .double dv)] := hl
  refine lv_dload_n hx hb dX3_bits_0 rfl (lv_at hl 0 rfl) ?_
  refine lv_dconst0 hx hb dX3_bits_1 ?_
  refine lv_dcmp hx hb dX3_bits_2 ?_
  refine lv_if_ne (tgt := 8) hx hb dX3_bits_3 (by decide) (fun c_1 => ?_) (fun c_1 => ?_)
  · have hz9 := zd_nz hdv _ c_1
    refine lv_dload_n hx hb dX3_bits_8 rfl (lv_at hl 0 rfl) ?_
    refine lv_dstore_n (lv' := [(2, .double dv), (0, .double dv)]) hx hb dX3_bits_9 rfl hl (by decide) rfl (fun ls hl => ?_)
    refine lv_ldc2 hx hb hown (hts (.constantLong RX3 211 (1023)) (List.mem_of_getElem? (i := 1) rfl)) dX3_bits_10 ?_
    refine lv_lstore (lv' := [(4, .long (1023)), (2, .double dv), (0, .double dv)]) hx hb dX3_bits_13 hl (by decide) rfl (fun ls hl => ?_)
    refine lv_dload_n hx hb dX3_bits_15 rfl (lv_at hl 1 rfl) ?_
    refine lv_ldc2d hx hb hown (hts (.constantDouble RX3 213 (4611686018427387904)) (List.mem_of_getElem? (i := 2) rfl)) dX3_bits_16 ?_
    refine lv_dcmp hx hb dX3_bits_19 ?_
    refine lv_if_lt (tgt := 38) hx hb dX3_bits_20 (by decide) (fun c_2 => ?_) (fun c_2 => ?_)
    · have loop_38 : ∀ (kk : Nat) (x : UInt64) (pw : Int64), zde x < kk → zdn x → f_X3_bits dv = f_X3_bits_38 dv kk x pw → ∀ (ls : Array Slot), lv_has ls 6 [(2, .double x), (4, .long pw)] → W p l e (headSpec wsX3_bits (zrm 0 0)).room s m ([.double dv] : List Value).toArray below meth c s.heap [] 0 0 (MQ below (zE (some (.long (f_X3_bits dv)))) ([.double dv] : List Value).toArray s 0 0 (fun _ => False)) (F0 m 38 ls []) := by
        intro kk
        induction kk with
        | zero => intro x pw h9; exact absurd h9 (Nat.not_lt_zero _)
        | succ kk ih_38 =>
          intro x pw hm_38 hi0_38 hres_38 ls hl
          refine lv_dload_n hx hb dX3_bits_38 rfl (lv_at hl 0 rfl) ?_
          refine lv_dconst1 hx hb dX3_bits_39 ?_
          refine lv_dcmp hx hb dX3_bits_40 ?_
          refine lv_if_ge (tgt := 59) hx hb dX3_bits_41 (by decide) (fun c_3 => ?_) (fun c_3 => ?_)
          · refine lv_lload hx hb dX3_bits_59 (lv_at hl 1 rfl) ?_
            refine lv_ldc2 hx hb hown (hts (.constantLong RX3 215 (4503599627370496)) (List.mem_of_getElem? (i := 3) rfl)) dX3_bits_61 ?_
            refine lv_lmul hx hb dX3_bits_64 ?_
            refine lv_dload_n hx hb dX3_bits_65 rfl (lv_at hl 0 rfl) ?_
            refine lv_dconst1 hx hb dX3_bits_66 ?_
            refine lv_dsub hx hb dX3_bits_67 (zd_vfs hi0_38 _ c_3) ?_
            refine lv_ldc2d hx hb hown (hts (.constantDouble RX3 217 (4841369599423283200)) (List.mem_of_getElem? (i := 4) rfl)) dX3_bits_68 ?_
            refine lv_dmul hx hb dX3_bits_71 (zd_vfm hi0_38 _ c_3) ?_
            refine lv_d2l hx hb dX3_bits_72 ?_
            refine lv_ladd hx hb dX3_bits_73 ?_
            exact z_lretE hx hb hr hlocks dX3_bits_74 (by rw [hres_38]; simp only [f_X3_bits_38, if_pos c_3])
          · refine lv_dload_n hx hb dX3_bits_44 rfl (lv_at hl 0 rfl) ?_
            refine lv_ldc2d hx hb hown (hts (.constantDouble RX3 213 (4611686018427387904)) (List.mem_of_getElem? (i := 2) rfl)) dX3_bits_45 ?_
            refine lv_dmul hx hb dX3_bits_48 (zd_vf2 hi0_38) ?_
            refine lv_dstore_n (lv' := [(2, .double (FP.dmul x (4611686018427387904))), (4, .long pw)]) hx hb dX3_bits_49 rfl hl (by decide) rfl (fun ls hl => ?_)
            refine lv_lload hx hb dX3_bits_50 (lv_at hl 1 rfl) ?_
            refine lv_lconst (v := 1) hx hb dX3_bits_52 (by decide) ?_
            refine lv_lsub hx hb dX3_bits_53 ?_
            refine lv_lstore (lv' := [(4, .long (pw - 1)), (2, .double (FP.dmul x (4611686018427387904)))]) hx hb dX3_bits_54 hl (by decide) rfl (fun ls hl => ?_)
            refine lv_goto (tgt := 38) hx hb dX3_bits_56 (by decide) ?_
            exact ih_38 (FP.dmul x (4611686018427387904)) (pw - 1) (by have hz8 := (zd_next hi0_38 _ c_3).2; omega) (by exact (zd_next hi0_38 _ c_3).1) (by rw [hres_38]; simp only [f_X3_bits_38, if_neg c_3]) ls (lv_sub hl [1, 0] rfl)
      exact loop_38 1101 dv (1023) (by exact Nat.lt_succ_of_le (Nat.sub_le _ _)) (by exact hz9) (by simp only [f_X3_bits, if_neg c_1, if_pos c_2]) ls (lv_sub hl [1, 0] rfl)
    · exact absurd (zd_lt2 hz9 _) c_2
  · refine lv_lconst (v := 0) hx hb dX3_bits_6 (by decide) ?_
    exact z_lretE hx hb hr hlocks dX3_bits_7 (by simp only [f_X3_bits, if_pos c_1])

theorem zy_X3_mixMember : yX3_mixMember.cls = RX3 ∧ yX3_mixMember.cls ≠ "java/lang/invoke/MethodHandle" ∧ yX3_mixMember.cls ≠ "java/lang/invoke/VarHandle" ∧ (parseMethodDescriptor yX3_mixMember.desc).map (fun d => d.parameters.length) = some 1 := by decide +kernel
def f_X3_mixMember_2 (M : BK) (h : Int64) (mb : Nat) (i0 : Int64) : Nat → Int64
  | 0 => i0
  | n + 1 =>
    let y0_2 : Int64 := f_X3_mixMember_2 M h mb i0 n
    let h_2 : Int64 := f_X3_mix y0_2 ((f_X3_property M mb n).toInt64)
    h_2
def f_X3_mixMember_27 (M : BK) (h : Int64) (mb : Nat) (i0 : Int64) : Nat → Int64
  | 0 => i0
  | n + 1 =>
    let y0_27 : Int64 := f_X3_mixMember_27 M h mb i0 n
    let h_4 : Int64 := f_X3_mix y0_27 ((f_X3_pledgeOf M mb n).toInt64)
    h_4
def f_X3_mixMember_52 (M : BK) (h : Int64) (mb : Nat) (i0 : Int64) : Nat → Int64
  | 0 => i0
  | n + 1 =>
    let y0_52 : Int64 := f_X3_mixMember_52 M h mb i0 n
    let h_6 : Int64 := f_X3_mix y0_52 ((f_X3_most M mb).toInt64)
    h_6
def f_X3_mixMember_75 (M : BK) (h : Int64) (mb : Nat) (i0 : BK) (i1 : Int64) : Nat → BK × Int64
  | 0 => (i0, i1)
  | n + 1 =>
    let y0_75 : BK := (f_X3_mixMember_75 M h mb i0 i1 n).1
    let y1_75 : Int64 := (f_X3_mixMember_75 M h mb i0 i1 n).2
    if 2 ≤ n then
      let M_9 : BK := (f_X3_fewest y0_75 mb 5000).2
      let h_10 : Int64 := f_X3_mix y1_75 (((f_X3_fewest y0_75 mb 5000).1).toInt64)
      (M_9, h_10)
    else
      let M_11 : BK := (f_X3_fewest y0_75 mb 500).2
      let h_12 : Int64 := f_X3_mix y1_75 (((f_X3_fewest y0_75 mb 500).1).toInt64)
      (M_11, h_12)
def f_X3_mixMember_112 (M : BK) (h : Int64) (mb : Nat) (y0_75 : BK) (i0 : Int64) : Nat → Int64
  | 0 => i0
  | n + 1 =>
    let y0_112 : Int64 := f_X3_mixMember_112 M h mb y0_75 i0 n
    let h_14 : Int64 := f_X3_mix y0_112 ((f_X3_lasts y0_75 mb).toInt64)
    h_14
def f_X3_mixMember (M : BK) (h : Int64) (mb : Nat) : BK × Int64 :=
  let y0_2 : Int64 := f_X3_mixMember_2 M h mb h 10
  let y0_27 : Int64 := f_X3_mixMember_27 M h mb y0_2 6
  let y0_52 : Int64 := f_X3_mixMember_52 M h mb y0_27 2
  let y0_75 : BK := (f_X3_mixMember_75 M h mb M y0_52 4).1
  let y1_75 : Int64 := (f_X3_mixMember_75 M h mb M y0_52 4).2
  let y0_112 : Int64 := f_X3_mixMember_112 M h mb y0_75 y1_75 2
  let h_15 : Int64 := f_X3_mix y0_112 ((f_X3_share y0_75 mb).toInt64)
  (y0_75, h_15)

set_option maxHeartbeats 4000000 in
set_option maxRecDepth 100000 in
theorem zc_X3_mixMember (l : Launch) (D : va_G) (cA : Nat → ClassId) (a : Nat → Nat) (M : BK) (N : Nat → Nat) (h : Int64) (mb : Nat) (hmb : mb < 6) (hpt : zpt (M 0)) : Met l yX3_mixMember wsX3_mixMember (zrm 6 131) (zPc D cA [.ref (a 0), .int (nI mb)] (moW cA a M N h)) (zM D (moW cA a M N h) (moW cA a ((f_X3_mixMember M h mb).1) N ((f_X3_mixMember M h mb).2)) none) 0 0 (zfr (moW cA a M N h)) := by
  refine Met.ofW (cc := cX3_mixMember) (maxL := 3) (ret := none) (by decide) rfl ?_
  intro p e s m args below meth c s₁ Bd hml hv
  obtain ⟨rfl, hP, hK, hD0⟩ := hv
  have hx := Bd.exec
  have hb := Bd.bytes
  have hr := Bd.returns
  have hts := atoms_spec (ws := wsX3_mixMember) Bd.pre
  have hown : s.vm.findClass RX3 = some m.cls := findClass_of_methodNamed Bd.named
  have hlocks := Bd.notSynchronized
  have hD := z_Dfr hD0
  have hS : va_S (zfr (moW cA a M N h)) s.heap s.heap [] := va_S.rf
  have hi3 : ∀ w ∈ wsX30, w ∈ wsX3_mixMember := fun w h => List.mem_cons_of_mem _ (List.mem_append_right _ h)
  have hl := lv_entry ([.ref (a 0), .int (nI mb)]) (n := 3) (Nat.le_of_ble_eq_true rfl)
  rw [lg_entry_eq]
  generalize (lg_sl ([.ref (a 0), .int (nI mb)]) ++ List.replicate (3 - (lg_sl ([.ref (a 0), .int (nI mb)])).length) Slot.unset).toArray = ls at hl ⊢
  have hl : lv_has ls 3 [(0, .ref (a 0)), (1, .int (nI mb))] := hl
  refine lv_iconst (v := 0) hx hb dX3_mixMember_0 (by decide) ?_
  refine lv_istore_n (lv' := [(2, .int 0), (0, .ref (a 0)), (1, .int (nI mb))]) hx hb dX3_mixMember_1 rfl hl (by decide) rfl (fun ls hl => ?_)
  have loop_2 : ∀ (kk : Nat) (n : Nat) (y0_2 : Int64), n ≤ 10 → 10 - n < kk → y0_2 = f_X3_mixMember_2 M h mb h n → ∀ (H : Heap) (locs : List Loc), va_P D vwCl (moW cA a M N y0_2) H → va_D (zfr (moW cA a M N h)) (moW cA a M N y0_2) → va_S (zfr (moW cA a M N h)) s.heap H locs → ∀ (ls : Array Slot), lv_has ls 3 [(0, .ref (a 0)), (1, .int (nI mb)), (2, .int (nI n))] → W p l e (headSpec wsX3_mixMember (zrm 6 131)).room s m ([.ref (a 0), .int (nI mb)] : List Value).toArray below meth c H locs 0 0 (MQ below (zM D (moW cA a M N h) (moW cA a ((f_X3_mixMember M h mb).1) N ((f_X3_mixMember M h mb).2)) none) ([.ref (a 0), .int (nI mb)] : List Value).toArray s 0 0 (zfr (moW cA a M N h))) (F0 m 2 ls []) := by
    intro kk
    induction kk with
    | zero => intro n y0_2 _ h9; exact absurd h9 (Nat.not_lt_zero _)
    | succ kk ih_2 =>
      intro n y0_2 hn_2 hm_2 q_y0_2 H locs hP hD hS ls hl
      refine lv_iload_n hx hb dX3_mixMember_2 rfl (lv_at hl 2 rfl) ?_
      refine lv_bipush (v := 10) hx hb dX3_mixMember_3 (by decide) ?_
      refine lv_icmp_ge (tgt := 25) hx hb dX3_mixMember_5 (by decide) (fun c_1 => ?_) (fun c_1 => ?_)
      · have c_1 : 10 ≤ n := (nI_leI (a := 10) (b := n) (by omega) (by omega)).mp c_1
        obtain rfl : n = 10 := by omega
        obtain ⟨z_2, hz_2⟩ : ∃ z9, z9 = f_X3_mixMember_2 M h mb h 10 := ⟨_, rfl⟩
        rw [← hz_2] at q_y0_2
        refine lv_iconst (v := 0) hx hb dX3_mixMember_25 (by decide) ?_
        refine lv_istore_n (lv' := [(2, .int 0), (0, .ref (a 0)), (1, .int (nI mb))]) hx hb dX3_mixMember_26 rfl hl (by decide) rfl (fun ls hl => ?_)
        have loop_27 : ∀ (kk : Nat) (n : Nat) (y0_27 : Int64), n ≤ 6 → 6 - n < kk → y0_27 = f_X3_mixMember_27 M h mb y0_2 n → ∀ (H : Heap) (locs : List Loc), va_P D vwCl (moW cA a M N y0_27) H → va_D (zfr (moW cA a M N h)) (moW cA a M N y0_27) → va_S (zfr (moW cA a M N h)) s.heap H locs → ∀ (ls : Array Slot), lv_has ls 3 [(0, .ref (a 0)), (1, .int (nI mb)), (2, .int (nI n))] → W p l e (headSpec wsX3_mixMember (zrm 6 131)).room s m ([.ref (a 0), .int (nI mb)] : List Value).toArray below meth c H locs 0 0 (MQ below (zM D (moW cA a M N h) (moW cA a ((f_X3_mixMember M h mb).1) N ((f_X3_mixMember M h mb).2)) none) ([.ref (a 0), .int (nI mb)] : List Value).toArray s 0 0 (zfr (moW cA a M N h))) (F0 m 27 ls []) := by
          intro kk
          induction kk with
          | zero => intro n y0_27 _ h9; exact absurd h9 (Nat.not_lt_zero _)
          | succ kk ih_27 =>
            intro n y0_27 hn_27 hm_27 q_y0_27 H locs hP hD hS ls hl
            refine lv_iload_n hx hb dX3_mixMember_27 rfl (lv_at hl 2 rfl) ?_
            refine lv_bipush (v := 6) hx hb dX3_mixMember_28 (by decide) ?_
            refine lv_icmp_ge (tgt := 50) hx hb dX3_mixMember_30 (by decide) (fun c_2 => ?_) (fun c_2 => ?_)
            · have c_2 : 6 ≤ n := (nI_leI (a := 6) (b := n) (by omega) (by omega)).mp c_2
              obtain rfl : n = 6 := by omega
              obtain ⟨z_27, hz_27⟩ : ∃ z9, z9 = f_X3_mixMember_27 M h mb y0_2 6 := ⟨_, rfl⟩
              rw [← hz_27] at q_y0_27
              refine lv_iconst (v := 0) hx hb dX3_mixMember_50 (by decide) ?_
              refine lv_istore_n (lv' := [(2, .int 0), (0, .ref (a 0)), (1, .int (nI mb))]) hx hb dX3_mixMember_51 rfl hl (by decide) rfl (fun ls hl => ?_)
              have loop_52 : ∀ (kk : Nat) (n : Nat) (y0_52 : Int64), n ≤ 2 → 2 - n < kk → y0_52 = f_X3_mixMember_52 M h mb y0_27 n → ∀ (H : Heap) (locs : List Loc), va_P D vwCl (moW cA a M N y0_52) H → va_D (zfr (moW cA a M N h)) (moW cA a M N y0_52) → va_S (zfr (moW cA a M N h)) s.heap H locs → ∀ (ls : Array Slot), lv_has ls 3 [(0, .ref (a 0)), (1, .int (nI mb)), (2, .int (nI n))] → W p l e (headSpec wsX3_mixMember (zrm 6 131)).room s m ([.ref (a 0), .int (nI mb)] : List Value).toArray below meth c H locs 0 0 (MQ below (zM D (moW cA a M N h) (moW cA a ((f_X3_mixMember M h mb).1) N ((f_X3_mixMember M h mb).2)) none) ([.ref (a 0), .int (nI mb)] : List Value).toArray s 0 0 (zfr (moW cA a M N h))) (F0 m 52 ls []) := by
                intro kk
                induction kk with
                | zero => intro n y0_52 _ h9; exact absurd h9 (Nat.not_lt_zero _)
                | succ kk ih_52 =>
                  intro n y0_52 hn_52 hm_52 q_y0_52 H locs hP hD hS ls hl
                  refine lv_iload_n hx hb dX3_mixMember_52 rfl (lv_at hl 2 rfl) ?_
                  refine lv_iconst (v := 2) hx hb dX3_mixMember_53 (by decide) ?_
                  refine lv_icmp_ge (tgt := 73) hx hb dX3_mixMember_54 (by decide) (fun c_3 => ?_) (fun c_3 => ?_)
                  · have c_3 : 2 ≤ n := (nI_leI (a := 2) (b := n) (by omega) (by omega)).mp c_3
                    obtain rfl : n = 2 := by omega
                    obtain ⟨z_52, hz_52⟩ : ∃ z9, z9 = f_X3_mixMember_52 M h mb y0_27 2 := ⟨_, rfl⟩
                    rw [← hz_52] at q_y0_52
                    refine lv_iconst (v := 0) hx hb dX3_mixMember_73 (by decide) ?_
                    refine lv_istore_n (lv' := [(2, .int 0), (0, .ref (a 0)), (1, .int (nI mb))]) hx hb dX3_mixMember_74 rfl hl (by decide) rfl (fun ls hl => ?_)
                    have loop_75 : ∀ (kk : Nat) (n : Nat) (y0_75 : BK) (y1_75 : Int64), n ≤ 4 → 4 - n < kk → y0_75 0 = M 0 → y0_75 = (f_X3_mixMember_75 M h mb M y0_52 n).1 → y1_75 = (f_X3_mixMember_75 M h mb M y0_52 n).2 → ∀ (H : Heap) (locs : List Loc), va_P D vwCl (moW cA a y0_75 N y1_75) H → va_D (zfr (moW cA a M N h)) (moW cA a y0_75 N y1_75) → va_S (zfr (moW cA a M N h)) s.heap H locs → ∀ (ls : Array Slot), lv_has ls 3 [(0, .ref (a 0)), (1, .int (nI mb)), (2, .int (nI n))] → W p l e (headSpec wsX3_mixMember (zrm 6 131)).room s m ([.ref (a 0), .int (nI mb)] : List Value).toArray below meth c H locs 0 0 (MQ below (zM D (moW cA a M N h) (moW cA a ((f_X3_mixMember M h mb).1) N ((f_X3_mixMember M h mb).2)) none) ([.ref (a 0), .int (nI mb)] : List Value).toArray s 0 0 (zfr (moW cA a M N h))) (F0 m 75 ls []) := by
                      intro kk
                      induction kk with
                      | zero => intro n y0_75 y1_75 _ h9; exact absurd h9 (Nat.not_lt_zero _)
                      | succ kk ih_75 =>
                        intro n y0_75 y1_75 hn_75 hm_75 hi0_75 q_y0_75 q_y1_75 H locs hP hD hS ls hl
                        refine lv_iload_n hx hb dX3_mixMember_75 rfl (lv_at hl 2 rfl) ?_
                        refine lv_iconst (v := 4) hx hb dX3_mixMember_76 (by decide) ?_
                        refine lv_icmp_ge (tgt := 110) hx hb dX3_mixMember_77 (by decide) (fun c_4 => ?_) (fun c_4 => ?_)
                        · have c_4 : 4 ≤ n := (nI_leI (a := 4) (b := n) (by omega) (by omega)).mp c_4
                          obtain rfl : n = 4 := by omega
                          obtain ⟨z_75, hz_75⟩ : ∃ z9, z9 = f_X3_mixMember_75 M h mb M y0_52 4 := ⟨_, rfl⟩
                          rw [← hz_75] at q_y0_75 q_y1_75
                          refine lv_iconst (v := 0) hx hb dX3_mixMember_110 (by decide) ?_
                          refine lv_istore_n (lv' := [(2, .int 0), (0, .ref (a 0)), (1, .int (nI mb))]) hx hb dX3_mixMember_111 rfl hl (by decide) rfl (fun ls hl => ?_)
                          have loop_112 : ∀ (kk : Nat) (n : Nat) (y0_112 : Int64), n ≤ 2 → 2 - n < kk → y0_112 = f_X3_mixMember_112 M h mb y0_75 y1_75 n → ∀ (H : Heap) (locs : List Loc), va_P D vwCl (moW cA a y0_75 N y0_112) H → va_D (zfr (moW cA a M N h)) (moW cA a y0_75 N y0_112) → va_S (zfr (moW cA a M N h)) s.heap H locs → ∀ (ls : Array Slot), lv_has ls 3 [(0, .ref (a 0)), (1, .int (nI mb)), (2, .int (nI n))] → W p l e (headSpec wsX3_mixMember (zrm 6 131)).room s m ([.ref (a 0), .int (nI mb)] : List Value).toArray below meth c H locs 0 0 (MQ below (zM D (moW cA a M N h) (moW cA a ((f_X3_mixMember M h mb).1) N ((f_X3_mixMember M h mb).2)) none) ([.ref (a 0), .int (nI mb)] : List Value).toArray s 0 0 (zfr (moW cA a M N h))) (F0 m 112 ls []) := by
                            intro kk
                            induction kk with
                            | zero => intro n y0_112 _ h9; exact absurd h9 (Nat.not_lt_zero _)
                            | succ kk ih_112 =>
                              intro n y0_112 hn_112 hm_112 q_y0_112 H locs hP hD hS ls hl
                              refine lv_iload_n hx hb dX3_mixMember_112 rfl (lv_at hl 2 rfl) ?_
                              refine lv_iconst (v := 2) hx hb dX3_mixMember_113 (by decide) ?_
                              refine lv_icmp_ge (tgt := 133) hx hb dX3_mixMember_114 (by decide) (fun c_5 => ?_) (fun c_5 => ?_)
                              · have c_5 : 2 ≤ n := (nI_leI (a := 2) (b := n) (by omega) (by omega)).mp c_5
                                obtain rfl : n = 2 := by omega
                                obtain ⟨z_112, hz_112⟩ : ∃ z9, z9 = f_X3_mixMember_112 M h mb y0_75 y1_75 2 := ⟨_, rfl⟩
                                rw [← hz_112] at q_y0_112
                                refine lv_aload_n hx hb dX3_mixMember_133 rfl (lv_at hl 0 rfl) ?_
                                refine lv_aload_n hx hb dX3_mixMember_134 rfl (lv_at hl 0 rfl) ?_
                                refine lv_iload_n hx hb dX3_mixMember_135 rfl (lv_at hl 1 rfl) ?_
                                refine z_E (va_runV (As := [.int (nI mb)]) (rest := [.ref (a 0)]) ⟨hx, hb, hml, hown, hts⟩ (zc_X3_share l D cA a y0_75 N y0_112 mb (by omega)) (cwV 1 hts gX3_mixMember_X3_share rfl rfl rfl zy_X3_share ⟨Nat.le_of_ble_eq_true rfl, Nat.le_of_ble_eq_true rfl⟩) (z_preV (ci := 3) hK hP hD rfl rfl) rfl rfl hl.1 rfl (lv_room (Nat.le_of_ble_eq_true rfl)) dX3_mixMember_136 ⟨Nat.zero_le _, Nat.zero_le _⟩) rfl ?_
                                refine lv_i2l (v := (f_X3_share y0_75 mb).toInt64) hx hb dX3_mixMember_139 rfl ?_
                                refine z_M (X := ([] : va_W)) (Z := ([] : va_W)) (va_runV (As := [.long ((f_X3_share y0_75 mb).toInt64)]) (rest := []) ⟨hx, hb, hml, hown, hts⟩ (zc_X3_mix l D cA a y0_75 N y0_112 ((f_X3_share y0_75 mb).toInt64)) (cwV 1 hts gX3_mixMember_X3_mix rfl rfl rfl zy_X3_mix ⟨Nat.le_of_ble_eq_true rfl, Nat.le_of_ble_eq_true rfl⟩) (z_preV (ci := 3) hK hP hD rfl rfl) rfl rfl hl.1 rfl (lv_room (Nat.le_of_ble_eq_true rfl)) dX3_mixMember_140 ⟨Nat.zero_le _, Nat.zero_le _⟩) hP hD hS moW_adr rfl (fun H locs hP9 hD9 hS9 => ?_)
                                replace hP : va_P D vwCl (moW cA a y0_75 N (f_X3_mix y0_112 ((f_X3_share y0_75 mb).toInt64))) H := hP9
                                replace hD : va_D _ (moW cA a y0_75 N (f_X3_mix y0_112 ((f_X3_share y0_75 mb).toInt64))) := hD9
                                replace hS := hS9
                                clear hP9 hD9 hS9
                                obtain ⟨h_6, eh_6⟩ : ∃ z9 : Int64, z9 = f_X3_mix y0_112 ((f_X3_share y0_75 mb).toInt64) := ⟨_, rfl⟩
                                rw [← eh_6] at hP hD
                                exact z_vretM (w1 := moW cA a y0_75 N h_6) hx hb hr hlocks dX3_mixMember_143 hP hS (by subst eh_6 q_y0_112 q_y1_75 q_y0_75 q_y0_52 q_y0_27 q_y0_2; first | (simp -proj only [f_X3_mixMember, ← hz_2, ← hz_27, ← hz_52, ← hz_75, ← hz_112]; first | done | rfl; done) | rfl)
                              · have c_5 : ¬ 2 ≤ n := fun h9 => c_5 ((nI_leI (a := 2) (b := n) (by omega) (by omega)).mpr h9)
                                refine lv_aload_n hx hb dX3_mixMember_117 rfl (lv_at hl 0 rfl) ?_
                                refine lv_aload_n hx hb dX3_mixMember_118 rfl (lv_at hl 0 rfl) ?_
                                refine lv_iload_n hx hb dX3_mixMember_119 rfl (lv_at hl 1 rfl) ?_
                                refine z_E (va_runV (As := [.int (nI mb)]) (rest := [.ref (a 0)]) ⟨hx, hb, hml, hown, hts⟩ (zc_X3_lasts l D cA a y0_75 N y0_112 mb (by omega) (by rw [hi0_75]; exact hpt)) (cwV 1 hts gX3_mixMember_X3_lasts rfl rfl rfl zy_X3_lasts ⟨Nat.le_of_ble_eq_true rfl, Nat.le_of_ble_eq_true rfl⟩) (z_preV (ci := 3) hK hP hD rfl rfl) rfl rfl hl.1 rfl (lv_room (Nat.le_of_ble_eq_true rfl)) dX3_mixMember_120 ⟨Nat.zero_le _, Nat.zero_le _⟩) rfl ?_
                                refine lv_i2l (v := (f_X3_lasts y0_75 mb).toInt64) hx hb dX3_mixMember_123 rfl ?_
                                refine z_M (X := ([] : va_W)) (Z := ([] : va_W)) (va_runV (As := [.long ((f_X3_lasts y0_75 mb).toInt64)]) (rest := []) ⟨hx, hb, hml, hown, hts⟩ (zc_X3_mix l D cA a y0_75 N y0_112 ((f_X3_lasts y0_75 mb).toInt64)) (cwV 1 hts gX3_mixMember_X3_mix rfl rfl rfl zy_X3_mix ⟨Nat.le_of_ble_eq_true rfl, Nat.le_of_ble_eq_true rfl⟩) (z_preV (ci := 3) hK hP hD rfl rfl) rfl rfl hl.1 rfl (lv_room (Nat.le_of_ble_eq_true rfl)) dX3_mixMember_124 ⟨Nat.zero_le _, Nat.zero_le _⟩) hP hD hS moW_adr rfl (fun H locs hP9 hD9 hS9 => ?_)
                                replace hP : va_P D vwCl (moW cA a y0_75 N (f_X3_mix y0_112 ((f_X3_lasts y0_75 mb).toInt64))) H := hP9
                                replace hD : va_D _ (moW cA a y0_75 N (f_X3_mix y0_112 ((f_X3_lasts y0_75 mb).toInt64))) := hD9
                                replace hS := hS9
                                clear hP9 hD9 hS9
                                obtain ⟨h_7, eh_7⟩ : ∃ z9 : Int64, z9 = f_X3_mix y0_112 ((f_X3_lasts y0_75 mb).toInt64) := ⟨_, rfl⟩
                                rw [← eh_7] at hP hD
                                refine lv_iinc (v := nI (n + 1)) (lv' := [(2, .int (nI (n + 1))), (0, .ref (a 0)), (1, .int (nI mb))]) hx hb dX3_mixMember_127 hl (k := 2) rfl (by rw [show (Int32.ofInt 1) = nI 1 from by decide]; exact nI_add n 1) (by decide) rfl (fun ls hl => ?_)
                                refine lv_goto (tgt := 112) hx hb dX3_mixMember_130 (by decide) ?_
                                exact ih_112 (n + 1) _ (by omega) (by omega) (by subst eh_7 q_y0_112 q_y1_75 q_y0_75 q_y0_52 q_y0_27 q_y0_2; first | (simp -proj only [f_X3_mixMember_112, ← hz_2, ← hz_27, ← hz_52, ← hz_75]; first | done | rfl; done) | rfl) _ _ hP hD hS ls (lv_sub hl [1, 2, 0] rfl)
                          exact loop_112 _ 0 _ (by omega) (Nat.lt_succ_self _) rfl _ _ hP hD hS ls (lv_sub hl [1, 2, 0] rfl)
                        · have c_4 : ¬ 4 ≤ n := fun h9 => c_4 ((nI_leI (a := 4) (b := n) (by omega) (by omega)).mpr h9)
                          refine lv_aload_n hx hb dX3_mixMember_80 rfl (lv_at hl 0 rfl) ?_
                          refine lv_aload_n hx hb dX3_mixMember_81 rfl (lv_at hl 0 rfl) ?_
                          refine lv_iload_n hx hb dX3_mixMember_82 rfl (lv_at hl 1 rfl) ?_
                          refine lv_iload_n hx hb dX3_mixMember_83 rfl (lv_at hl 2 rfl) ?_
                          refine lv_iconst (v := 2) hx hb dX3_mixMember_84 (by decide) ?_
                          refine lv_icmp_ge (tgt := 94) hx hb dX3_mixMember_85 (by decide) (fun c_8 => ?_) (fun c_8 => ?_)
                          · have c_8 : 2 ≤ n := (nI_leI (a := 2) (b := n) (by omega) (by omega)).mp c_8
                            refine lv_sipush (v := 5000) hx hb dX3_mixMember_94 (by decide) ?_
                            refine z_M (X := ([] : va_W)) (Z := ([] : va_W)) (va_runV (As := [.int (nI mb), .int 5000]) (rest := [.ref (a 0)]) ⟨hx, hb, hml, hown, hts⟩ (zc_X3_fewest l D cA a y0_75 N y1_75 mb 5000 (by omega)) (cwV 2 hts gX3_mixMember_X3_fewest rfl rfl rfl zy_X3_fewest ⟨Nat.le_of_ble_eq_true rfl, Nat.le_of_ble_eq_true rfl⟩) (z_preV (ci := 3) hK hP hD rfl rfl) rfl rfl hl.1 rfl (lv_room (Nat.le_of_ble_eq_true rfl)) dX3_mixMember_97 ⟨Nat.zero_le _, Nat.zero_le _⟩) hP hD hS moW_adr rfl (fun H locs hP9 hD9 hS9 => ?_)
                            replace hP : va_P D vwCl (moW cA a ((f_X3_fewest y0_75 mb 5000).2) N y1_75) H := hP9
                            replace hD : va_D _ (moW cA a ((f_X3_fewest y0_75 mb 5000).2) N y1_75) := hD9
                            replace hS := hS9
                            clear hP9 hD9 hS9
                            obtain ⟨M_9, eM_9⟩ : ∃ z9 : BK, z9 = (f_X3_fewest y0_75 mb 5000).2 := ⟨_, rfl⟩
                            rw [← eM_9] at hP hD
                            refine lv_i2l (v := ((f_X3_fewest y0_75 mb 5000).1).toInt64) hx hb dX3_mixMember_100 rfl ?_
                            refine z_M (X := ([] : va_W)) (Z := ([] : va_W)) (va_runV (As := [.long (((f_X3_fewest y0_75 mb 5000).1).toInt64)]) (rest := []) ⟨hx, hb, hml, hown, hts⟩ (zc_X3_mix l D cA a M_9 N y1_75 (((f_X3_fewest y0_75 mb 5000).1).toInt64)) (cwV 1 hts gX3_mixMember_X3_mix rfl rfl rfl zy_X3_mix ⟨Nat.le_of_ble_eq_true rfl, Nat.le_of_ble_eq_true rfl⟩) (z_preV (ci := 3) hK hP hD rfl rfl) rfl rfl hl.1 rfl (lv_room (Nat.le_of_ble_eq_true rfl)) dX3_mixMember_101 ⟨Nat.zero_le _, Nat.zero_le _⟩) hP hD hS moW_adr rfl (fun H locs hP9 hD9 hS9 => ?_)
                            replace hP : va_P D vwCl (moW cA a M_9 N (f_X3_mix y1_75 (((f_X3_fewest y0_75 mb 5000).1).toInt64))) H := hP9
                            replace hD : va_D _ (moW cA a M_9 N (f_X3_mix y1_75 (((f_X3_fewest y0_75 mb 5000).1).toInt64))) := hD9
                            replace hS := hS9
                            clear hP9 hD9 hS9
                            obtain ⟨h_10, eh_10⟩ : ∃ z9 : Int64, z9 = f_X3_mix y1_75 (((f_X3_fewest y0_75 mb 5000).1).toInt64) := ⟨_, rfl⟩
                            rw [← eh_10] at hP hD
                            refine lv_iinc (v := nI (n + 1)) (lv' := [(2, .int (nI (n + 1))), (0, .ref (a 0)), (1, .int (nI mb))]) hx hb dX3_mixMember_104 hl (k := 2) rfl (by rw [show (Int32.ofInt 1) = nI 1 from by decide]; exact nI_add n 1) (by decide) rfl (fun ls hl => ?_)
                            refine lv_goto (tgt := 75) hx hb dX3_mixMember_107 (by decide) ?_
                            exact ih_75 (n + 1) _ _ (by omega) (by omega) (by subst eh_10 eM_9 q_y1_75 q_y0_75 q_y0_52 q_y0_27 q_y0_2; exact (zh_fewest _ _ _).trans hi0_75) (by subst eh_10 eM_9 q_y1_75 q_y0_75 q_y0_52 q_y0_27 q_y0_2; simp -proj only [f_X3_mixMember_75, if_pos c_8, ← hz_2, ← hz_27, ← hz_52]; first | done | rfl) (by subst eh_10 eM_9 q_y1_75 q_y0_75 q_y0_52 q_y0_27 q_y0_2; simp -proj only [f_X3_mixMember_75, if_pos c_8, ← hz_2, ← hz_27, ← hz_52]; first | done | rfl) _ _ hP hD hS ls (lv_sub hl [1, 2, 0] rfl)
                          · have c_8 : ¬ 2 ≤ n := fun h9 => c_8 ((nI_leI (a := 2) (b := n) (by omega) (by omega)).mpr h9)
                            refine lv_sipush (v := 500) hx hb dX3_mixMember_88 (by decide) ?_
                            refine lv_goto (tgt := 97) hx hb dX3_mixMember_91 (by decide) ?_
                            refine z_M (X := ([] : va_W)) (Z := ([] : va_W)) (va_runV (As := [.int (nI mb), .int 500]) (rest := [.ref (a 0)]) ⟨hx, hb, hml, hown, hts⟩ (zc_X3_fewest l D cA a y0_75 N y1_75 mb 500 (by omega)) (cwV 2 hts gX3_mixMember_X3_fewest rfl rfl rfl zy_X3_fewest ⟨Nat.le_of_ble_eq_true rfl, Nat.le_of_ble_eq_true rfl⟩) (z_preV (ci := 3) hK hP hD rfl rfl) rfl rfl hl.1 rfl (lv_room (Nat.le_of_ble_eq_true rfl)) dX3_mixMember_97 ⟨Nat.zero_le _, Nat.zero_le _⟩) hP hD hS moW_adr rfl (fun H locs hP9 hD9 hS9 => ?_)
                            replace hP : va_P D vwCl (moW cA a ((f_X3_fewest y0_75 mb 500).2) N y1_75) H := hP9
                            replace hD : va_D _ (moW cA a ((f_X3_fewest y0_75 mb 500).2) N y1_75) := hD9
                            replace hS := hS9
                            clear hP9 hD9 hS9
                            obtain ⟨M_11, eM_11⟩ : ∃ z9 : BK, z9 = (f_X3_fewest y0_75 mb 500).2 := ⟨_, rfl⟩
                            rw [← eM_11] at hP hD
                            refine lv_i2l (v := ((f_X3_fewest y0_75 mb 500).1).toInt64) hx hb dX3_mixMember_100 rfl ?_
                            refine z_M (X := ([] : va_W)) (Z := ([] : va_W)) (va_runV (As := [.long (((f_X3_fewest y0_75 mb 500).1).toInt64)]) (rest := []) ⟨hx, hb, hml, hown, hts⟩ (zc_X3_mix l D cA a M_11 N y1_75 (((f_X3_fewest y0_75 mb 500).1).toInt64)) (cwV 1 hts gX3_mixMember_X3_mix rfl rfl rfl zy_X3_mix ⟨Nat.le_of_ble_eq_true rfl, Nat.le_of_ble_eq_true rfl⟩) (z_preV (ci := 3) hK hP hD rfl rfl) rfl rfl hl.1 rfl (lv_room (Nat.le_of_ble_eq_true rfl)) dX3_mixMember_101 ⟨Nat.zero_le _, Nat.zero_le _⟩) hP hD hS moW_adr rfl (fun H locs hP9 hD9 hS9 => ?_)
                            replace hP : va_P D vwCl (moW cA a M_11 N (f_X3_mix y1_75 (((f_X3_fewest y0_75 mb 500).1).toInt64))) H := hP9
                            replace hD : va_D _ (moW cA a M_11 N (f_X3_mix y1_75 (((f_X3_fewest y0_75 mb 500).1).toInt64))) := hD9
                            replace hS := hS9
                            clear hP9 hD9 hS9
                            obtain ⟨h_12, eh_12⟩ : ∃ z9 : Int64, z9 = f_X3_mix y1_75 (((f_X3_fewest y0_75 mb 500).1).toInt64) := ⟨_, rfl⟩
                            rw [← eh_12] at hP hD
                            refine lv_iinc (v := nI (n + 1)) (lv' := [(2, .int (nI (n + 1))), (0, .ref (a 0)), (1, .int (nI mb))]) hx hb dX3_mixMember_104 hl (k := 2) rfl (by rw [show (Int32.ofInt 1) = nI 1 from by decide]; exact nI_add n 1) (by decide) rfl (fun ls hl => ?_)
                            refine lv_goto (tgt := 75) hx hb dX3_mixMember_107 (by decide) ?_
                            exact ih_75 (n + 1) _ _ (by omega) (by omega) (by subst eh_12 eM_11 q_y1_75 q_y0_75 q_y0_52 q_y0_27 q_y0_2; exact (zh_fewest _ _ _).trans hi0_75) (by subst eh_12 eM_11 q_y1_75 q_y0_75 q_y0_52 q_y0_27 q_y0_2; simp -proj only [f_X3_mixMember_75, if_neg c_8, ← hz_2, ← hz_27, ← hz_52]; first | done | rfl) (by subst eh_12 eM_11 q_y1_75 q_y0_75 q_y0_52 q_y0_27 q_y0_2; simp -proj only [f_X3_mixMember_75, if_neg c_8, ← hz_2, ← hz_27, ← hz_52]; first | done | rfl) _ _ hP hD hS ls (lv_sub hl [1, 2, 0] rfl)
                    exact loop_75 _ 0 _ _ (by omega) (Nat.lt_succ_self _) (by rfl) rfl rfl _ _ hP hD hS ls (lv_sub hl [1, 2, 0] rfl)
                  · have c_3 : ¬ 2 ≤ n := fun h9 => c_3 ((nI_leI (a := 2) (b := n) (by omega) (by omega)).mpr h9)
                    refine lv_aload_n hx hb dX3_mixMember_57 rfl (lv_at hl 0 rfl) ?_
                    refine lv_aload_n hx hb dX3_mixMember_58 rfl (lv_at hl 0 rfl) ?_
                    refine lv_iload_n hx hb dX3_mixMember_59 rfl (lv_at hl 1 rfl) ?_
                    refine z_E (va_runV (As := [.int (nI mb)]) (rest := [.ref (a 0)]) ⟨hx, hb, hml, hown, hts⟩ (zc_X3_most l D cA a M N y0_52 mb (by omega)) (cwV 1 hts gX3_mixMember_X3_most rfl rfl rfl zy_X3_most ⟨Nat.le_of_ble_eq_true rfl, Nat.le_of_ble_eq_true rfl⟩) (z_preV (ci := 3) hK hP hD rfl rfl) rfl rfl hl.1 rfl (lv_room (Nat.le_of_ble_eq_true rfl)) dX3_mixMember_60 ⟨Nat.zero_le _, Nat.zero_le _⟩) rfl ?_
                    refine lv_i2l (v := (f_X3_most M mb).toInt64) hx hb dX3_mixMember_63 rfl ?_
                    refine z_M (X := ([] : va_W)) (Z := ([] : va_W)) (va_runV (As := [.long ((f_X3_most M mb).toInt64)]) (rest := []) ⟨hx, hb, hml, hown, hts⟩ (zc_X3_mix l D cA a M N y0_52 ((f_X3_most M mb).toInt64)) (cwV 1 hts gX3_mixMember_X3_mix rfl rfl rfl zy_X3_mix ⟨Nat.le_of_ble_eq_true rfl, Nat.le_of_ble_eq_true rfl⟩) (z_preV (ci := 3) hK hP hD rfl rfl) rfl rfl hl.1 rfl (lv_room (Nat.le_of_ble_eq_true rfl)) dX3_mixMember_64 ⟨Nat.zero_le _, Nat.zero_le _⟩) hP hD hS moW_adr rfl (fun H locs hP9 hD9 hS9 => ?_)
                    replace hP : va_P D vwCl (moW cA a M N (f_X3_mix y0_52 ((f_X3_most M mb).toInt64))) H := hP9
                    replace hD : va_D _ (moW cA a M N (f_X3_mix y0_52 ((f_X3_most M mb).toInt64))) := hD9
                    replace hS := hS9
                    clear hP9 hD9 hS9
                    obtain ⟨h_13, eh_13⟩ : ∃ z9 : Int64, z9 = f_X3_mix y0_52 ((f_X3_most M mb).toInt64) := ⟨_, rfl⟩
                    rw [← eh_13] at hP hD
                    refine lv_iinc (v := nI (n + 1)) (lv' := [(2, .int (nI (n + 1))), (0, .ref (a 0)), (1, .int (nI mb))]) hx hb dX3_mixMember_67 hl (k := 2) rfl (by rw [show (Int32.ofInt 1) = nI 1 from by decide]; exact nI_add n 1) (by decide) rfl (fun ls hl => ?_)
                    refine lv_goto (tgt := 52) hx hb dX3_mixMember_70 (by decide) ?_
                    exact ih_52 (n + 1) _ (by omega) (by omega) (by subst eh_13 q_y0_52 q_y0_27 q_y0_2; first | (simp -proj only [f_X3_mixMember_52, ← hz_2, ← hz_27]; first | done | rfl; done) | rfl) _ _ hP hD hS ls (lv_sub hl [1, 2, 0] rfl)
              exact loop_52 _ 0 _ (by omega) (Nat.lt_succ_self _) rfl _ _ hP hD hS ls (lv_sub hl [1, 2, 0] rfl)
            · have c_2 : ¬ 6 ≤ n := fun h9 => c_2 ((nI_leI (a := 6) (b := n) (by omega) (by omega)).mpr h9)
              refine lv_aload_n hx hb dX3_mixMember_33 rfl (lv_at hl 0 rfl) ?_
              refine lv_aload_n hx hb dX3_mixMember_34 rfl (lv_at hl 0 rfl) ?_
              refine lv_iload_n hx hb dX3_mixMember_35 rfl (lv_at hl 1 rfl) ?_
              refine lv_iload_n hx hb dX3_mixMember_36 rfl (lv_at hl 2 rfl) ?_
              refine z_E (va_runV (As := [.int (nI mb), .int (nI n)]) (rest := [.ref (a 0)]) ⟨hx, hb, hml, hown, hts⟩ (zc_X3_pledgeOf l D cA a M N y0_27 mb n (by omega) (by omega)) (cwV 2 hts gX3_mixMember_X3_pledgeOf rfl rfl rfl zy_X3_pledgeOf ⟨Nat.le_of_ble_eq_true rfl, Nat.le_of_ble_eq_true rfl⟩) (z_preV (ci := 3) hK hP hD rfl rfl) rfl rfl hl.1 rfl (lv_room (Nat.le_of_ble_eq_true rfl)) dX3_mixMember_37 ⟨Nat.zero_le _, Nat.zero_le _⟩) rfl ?_
              refine lv_i2l (v := (f_X3_pledgeOf M mb n).toInt64) hx hb dX3_mixMember_40 rfl ?_
              refine z_M (X := ([] : va_W)) (Z := ([] : va_W)) (va_runV (As := [.long ((f_X3_pledgeOf M mb n).toInt64)]) (rest := []) ⟨hx, hb, hml, hown, hts⟩ (zc_X3_mix l D cA a M N y0_27 ((f_X3_pledgeOf M mb n).toInt64)) (cwV 1 hts gX3_mixMember_X3_mix rfl rfl rfl zy_X3_mix ⟨Nat.le_of_ble_eq_true rfl, Nat.le_of_ble_eq_true rfl⟩) (z_preV (ci := 3) hK hP hD rfl rfl) rfl rfl hl.1 rfl (lv_room (Nat.le_of_ble_eq_true rfl)) dX3_mixMember_41 ⟨Nat.zero_le _, Nat.zero_le _⟩) hP hD hS moW_adr rfl (fun H locs hP9 hD9 hS9 => ?_)
              replace hP : va_P D vwCl (moW cA a M N (f_X3_mix y0_27 ((f_X3_pledgeOf M mb n).toInt64))) H := hP9
              replace hD : va_D _ (moW cA a M N (f_X3_mix y0_27 ((f_X3_pledgeOf M mb n).toInt64))) := hD9
              replace hS := hS9
              clear hP9 hD9 hS9
              obtain ⟨h_14, eh_14⟩ : ∃ z9 : Int64, z9 = f_X3_mix y0_27 ((f_X3_pledgeOf M mb n).toInt64) := ⟨_, rfl⟩
              rw [← eh_14] at hP hD
              refine lv_iinc (v := nI (n + 1)) (lv' := [(2, .int (nI (n + 1))), (0, .ref (a 0)), (1, .int (nI mb))]) hx hb dX3_mixMember_44 hl (k := 2) rfl (by rw [show (Int32.ofInt 1) = nI 1 from by decide]; exact nI_add n 1) (by decide) rfl (fun ls hl => ?_)
              refine lv_goto (tgt := 27) hx hb dX3_mixMember_47 (by decide) ?_
              exact ih_27 (n + 1) _ (by omega) (by omega) (by subst eh_14 q_y0_27 q_y0_2; first | (simp -proj only [f_X3_mixMember_27, ← hz_2]; first | done | rfl; done) | rfl) _ _ hP hD hS ls (lv_sub hl [1, 2, 0] rfl)
        exact loop_27 _ 0 _ (by omega) (Nat.lt_succ_self _) rfl _ _ hP hD hS ls (lv_sub hl [1, 2, 0] rfl)
      · have c_1 : ¬ 10 ≤ n := fun h9 => c_1 ((nI_leI (a := 10) (b := n) (by omega) (by omega)).mpr h9)
        refine lv_aload_n hx hb dX3_mixMember_8 rfl (lv_at hl 0 rfl) ?_
        refine lv_aload_n hx hb dX3_mixMember_9 rfl (lv_at hl 0 rfl) ?_
        refine lv_iload_n hx hb dX3_mixMember_10 rfl (lv_at hl 1 rfl) ?_
        refine lv_iload_n hx hb dX3_mixMember_11 rfl (lv_at hl 2 rfl) ?_
        refine z_E (va_runV (As := [.int (nI mb), .int (nI n)]) (rest := [.ref (a 0)]) ⟨hx, hb, hml, hown, hts⟩ (zc_X3_property l D cA a M N y0_2 mb n (by omega) (by omega)) (cwV 2 hts gX3_mixMember_X3_property rfl rfl rfl zy_X3_property ⟨Nat.le_of_ble_eq_true rfl, Nat.le_of_ble_eq_true rfl⟩) (z_preV (ci := 3) hK hP hD rfl rfl) rfl rfl hl.1 rfl (lv_room (Nat.le_of_ble_eq_true rfl)) dX3_mixMember_12 ⟨Nat.zero_le _, Nat.zero_le _⟩) rfl ?_
        refine lv_i2l (v := (f_X3_property M mb n).toInt64) hx hb dX3_mixMember_15 rfl ?_
        refine z_M (X := ([] : va_W)) (Z := ([] : va_W)) (va_runV (As := [.long ((f_X3_property M mb n).toInt64)]) (rest := []) ⟨hx, hb, hml, hown, hts⟩ (zc_X3_mix l D cA a M N y0_2 ((f_X3_property M mb n).toInt64)) (cwV 1 hts gX3_mixMember_X3_mix rfl rfl rfl zy_X3_mix ⟨Nat.le_of_ble_eq_true rfl, Nat.le_of_ble_eq_true rfl⟩) (z_preV (ci := 3) hK hP hD rfl rfl) rfl rfl hl.1 rfl (lv_room (Nat.le_of_ble_eq_true rfl)) dX3_mixMember_16 ⟨Nat.zero_le _, Nat.zero_le _⟩) hP hD hS moW_adr rfl (fun H locs hP9 hD9 hS9 => ?_)
        replace hP : va_P D vwCl (moW cA a M N (f_X3_mix y0_2 ((f_X3_property M mb n).toInt64))) H := hP9
        replace hD : va_D _ (moW cA a M N (f_X3_mix y0_2 ((f_X3_property M mb n).toInt64))) := hD9
        replace hS := hS9
        clear hP9 hD9 hS9
        obtain ⟨h_15, eh_15⟩ : ∃ z9 : Int64, z9 = f_X3_mix y0_2 ((f_X3_property M mb n).toInt64) := ⟨_, rfl⟩
        rw [← eh_15] at hP hD
        refine lv_iinc (v := nI (n + 1)) (lv' := [(2, .int (nI (n + 1))), (0, .ref (a 0)), (1, .int (nI mb))]) hx hb dX3_mixMember_19 hl (k := 2) rfl (by rw [show (Int32.ofInt 1) = nI 1 from by decide]; exact nI_add n 1) (by decide) rfl (fun ls hl => ?_)
        refine lv_goto (tgt := 2) hx hb dX3_mixMember_22 (by decide) ?_
        exact ih_2 (n + 1) _ (by omega) (by omega) (by subst eh_15 q_y0_2; first | (simp -proj only [f_X3_mixMember_2]; first | done | rfl; done) | rfl) _ _ hP hD hS ls (lv_sub hl [1, 2, 0] rfl)
  exact loop_2 _ 0 _ (by omega) (Nat.lt_succ_self _) rfl _ _ hP hD hS ls (lv_sub hl [1, 2, 0] rfl)

