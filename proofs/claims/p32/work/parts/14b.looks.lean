/-! the law: looks -/
theorem zy_L_looks : yL_looks.cls = RL ∧ yL_looks.cls ≠ "java/lang/invoke/MethodHandle" ∧ yL_looks.cls ≠ "java/lang/invoke/VarHandle" ∧ (parseMethodDescriptor yL_looks.desc).map (fun d => d.parameters.length) = some 1 := by decide +kernel
def f_L_looks_6 (N : NK) (B : BK) (i0 : Int64) : Nat → Int64
  | 0 => i0
  | n + 1 =>
    let y0_6 : Int64 := f_L_looks_6 N B i0 n
    ((31) * y0_6) + ((f_X2_count N B (nI n)).toInt64)
def f_L_looks_33 (N : NK) (B : BK) (i0 : Int64) : Nat → Int64
  | 0 => i0
  | n + 1 =>
    let y0_33 : Int64 := f_L_looks_33 N B i0 n
    ((31) * y0_33) + ((f_X2_memberOf B (nI (n / 10)) (nI (n % 10))).toInt64)
def f_L_looks_67 (N : NK) (B : BK) (i0 : Int64) : Nat → Int64
  | 0 => i0
  | n + 1 =>
    let y0_67 : Int64 := f_L_looks_67 N B i0 n
    ((31) * y0_67) + ((f_X2_pledged B (nI (n / 6)) (nI (n % 6))).toInt64)
def f_L_looks (N : NK) (B : BK) : Int64 :=
  let y0_6 : Int64 := f_L_looks_6 N B (107) 11
  let y0_33 : Int64 := f_L_looks_33 N B y0_6 60
  let y0_67 : Int64 := f_L_looks_67 N B y0_33 36
  ((31) * (((31) * y0_67) + ((f_X2_setting B 0).toInt64))) + ((f_X2_setting B 1).toInt64)

set_option maxHeartbeats 4000000 in
set_option maxRecDepth 100000 in
theorem zc_L_looks (l : Launch) (hfl : l.stackTraces = false) (D : va_G) (cA : Nat → ClassId) (b : Nat → Nat → Nat) (rd : Nat) (x : Nat → Nat) (X : BK) (N : NK) (B : BK)  : Met l yL_looks wsL_looks (zrx 8 134 2 12) (zPx D cA [.ref (x 0)] (xmW cA x b rd X N ++ (bkW (cA 0) (b 0) B))) (zE (some (.long (f_L_looks N B)))) 2 12 (fun _ => False) := by
  refine Met.ofW (cc := cL_looks) (maxL := 4) (ret := (some .long)) (by decide) rfl ?_
  intro p e s m args below meth c s₁ Bd hml hv
  obtain ⟨rfl, hP, hK, hD0, hO⟩ := hv
  have hx := Bd.exec
  have hb := Bd.bytes
  have hr := Bd.returns
  have hts := atoms_spec (ws := wsL_looks) Bd.pre
  have hown : s.vm.findClass RL = some m.cls := findClass_of_methodNamed Bd.named
  have hlocks := Bd.notSynchronized
  have hD := z_Dfr hD0
  have hS : va_S (zfr (xmW cA x b rd X N ++ (bkW (cA 0) (b 0) B))) s.heap s.heap [] := va_S.rf
  have hl := lv_entry ([.ref (x 0)]) (n := 4) (Nat.le_of_ble_eq_true rfl)
  rw [lg_entry_eq]
  generalize (lg_sl ([.ref (x 0)]) ++ List.replicate (4 - (lg_sl ([.ref (x 0)])).length) Slot.unset).toArray = ls at hl ⊢
  have hl : lv_has ls 4 [(0, .ref (x 0))] := hl
  refine lv_ldc2 hx hb hown (hts (.constantLong RL 9 (107)) (List.mem_of_getElem? (i := 1) rfl)) dL_looks_0 ?_
  refine lv_lstore_n (lv' := [(1, .long (107)), (0, .ref (x 0))]) hx hb dL_looks_3 rfl hl (by decide) rfl (fun ls hl => ?_)
  refine lv_iconst (v := 0) hx hb dL_looks_4 (by decide) ?_
  refine lv_istore_n (lv' := [(3, .int 0), (1, .long (107)), (0, .ref (x 0))]) hx hb dL_looks_5 rfl hl (by decide) rfl (fun ls hl => ?_)
  have loop_6 : ∀ (kk : Nat) (n : Nat) (y0_6 : Int64), n ≤ 11 → 11 - n < kk → y0_6 = f_L_looks_6 N B (107) n → ∀ (ls : Array Slot), lv_has ls 4 [(0, .ref (x 0)), (1, .long y0_6), (3, .int (nI n))] → W p l e (headSpec wsL_looks (zrx 8 134 2 12)).room s m ([.ref (x 0)] : List Value).toArray below meth c s.heap [] 0 0 (MQ below (zE (some (.long (f_L_looks N B)))) ([.ref (x 0)] : List Value).toArray s 2 12 (fun _ => False)) (F0 m 6 ls []) := by
    intro kk
    induction kk with
    | zero => intro n y0_6 _ h9; exact absurd h9 (Nat.not_lt_zero _)
    | succ kk ih_6 =>
      intro n y0_6 hn_6 hm_6 q_y0_6 ls hl
      refine lv_iload_n hx hb dL_looks_6 rfl (lv_at hl 2 rfl) ?_
      refine lv_bipush (v := 11) hx hb dL_looks_7 (by decide) ?_
      refine lv_icmp_ge (tgt := 31) hx hb dL_looks_9 (by decide) (fun c_1 => ?_) (fun c_1 => ?_)
      · have c_1 : 11 ≤ n := (nI_leI (a := 11) (b := n) (by omega) (by omega)).mp c_1
        obtain rfl : n = 11 := by omega
        obtain ⟨z_6, hz_6⟩ : ∃ z9, z9 = f_L_looks_6 N B (107) 11 := ⟨_, rfl⟩
        rw [← hz_6] at q_y0_6
        refine lv_iconst (v := 0) hx hb dL_looks_31 (by decide) ?_
        refine lv_istore_n (lv' := [(3, .int 0), (0, .ref (x 0)), (1, .long y0_6)]) hx hb dL_looks_32 rfl hl (by decide) rfl (fun ls hl => ?_)
        have loop_33 : ∀ (kk : Nat) (n : Nat) (y0_33 : Int64), n ≤ 60 → 60 - n < kk → y0_33 = f_L_looks_33 N B y0_6 n → ∀ (ls : Array Slot), lv_has ls 4 [(0, .ref (x 0)), (1, .long y0_33), (3, .int (nI n))] → W p l e (headSpec wsL_looks (zrx 8 134 2 12)).room s m ([.ref (x 0)] : List Value).toArray below meth c s.heap [] 0 0 (MQ below (zE (some (.long (f_L_looks N B)))) ([.ref (x 0)] : List Value).toArray s 2 12 (fun _ => False)) (F0 m 33 ls []) := by
          intro kk
          induction kk with
          | zero => intro n y0_33 _ h9; exact absurd h9 (Nat.not_lt_zero _)
          | succ kk ih_33 =>
            intro n y0_33 hn_33 hm_33 q_y0_33 ls hl
            refine lv_iload_n hx hb dL_looks_33 rfl (lv_at hl 2 rfl) ?_
            refine lv_bipush (v := 60) hx hb dL_looks_34 (by decide) ?_
            refine lv_icmp_ge (tgt := 65) hx hb dL_looks_36 (by decide) (fun c_2 => ?_) (fun c_2 => ?_)
            · have c_2 : 60 ≤ n := (nI_leI (a := 60) (b := n) (by omega) (by omega)).mp c_2
              obtain rfl : n = 60 := by omega
              obtain ⟨z_33, hz_33⟩ : ∃ z9, z9 = f_L_looks_33 N B y0_6 60 := ⟨_, rfl⟩
              rw [← hz_33] at q_y0_33
              refine lv_iconst (v := 0) hx hb dL_looks_65 (by decide) ?_
              refine lv_istore_n (lv' := [(3, .int 0), (0, .ref (x 0)), (1, .long y0_33)]) hx hb dL_looks_66 rfl hl (by decide) rfl (fun ls hl => ?_)
              have loop_67 : ∀ (kk : Nat) (n : Nat) (y0_67 : Int64), n ≤ 36 → 36 - n < kk → y0_67 = f_L_looks_67 N B y0_33 n → ∀ (ls : Array Slot), lv_has ls 4 [(0, .ref (x 0)), (1, .long y0_67), (3, .int (nI n))] → W p l e (headSpec wsL_looks (zrx 8 134 2 12)).room s m ([.ref (x 0)] : List Value).toArray below meth c s.heap [] 0 0 (MQ below (zE (some (.long (f_L_looks N B)))) ([.ref (x 0)] : List Value).toArray s 2 12 (fun _ => False)) (F0 m 67 ls []) := by
                intro kk
                induction kk with
                | zero => intro n y0_67 _ h9; exact absurd h9 (Nat.not_lt_zero _)
                | succ kk ih_67 =>
                  intro n y0_67 hn_67 hm_67 q_y0_67 ls hl
                  refine lv_iload_n hx hb dL_looks_67 rfl (lv_at hl 2 rfl) ?_
                  refine lv_bipush (v := 36) hx hb dL_looks_68 (by decide) ?_
                  refine lv_icmp_ge (tgt := 99) hx hb dL_looks_70 (by decide) (fun c_3 => ?_) (fun c_3 => ?_)
                  · have c_3 : 36 ≤ n := (nI_leI (a := 36) (b := n) (by omega) (by omega)).mp c_3
                    obtain rfl : n = 36 := by omega
                    obtain ⟨z_67, hz_67⟩ : ∃ z9, z9 = f_L_looks_67 N B y0_33 36 := ⟨_, rfl⟩
                    rw [← hz_67] at q_y0_67
                    refine lv_ldc2 hx hb hown (hts (.constantLong RL 11 (31)) (List.mem_of_getElem? (i := 2) rfl)) dL_looks_99 ?_
                    refine lv_ldc2 hx hb hown (hts (.constantLong RL 11 (31)) (List.mem_of_getElem? (i := 2) rfl)) dL_looks_102 ?_
                    refine lv_lload_n hx hb dL_looks_105 rfl (lv_at hl 1 rfl) ?_
                    refine lv_lmul hx hb dL_looks_106 ?_
                    refine lv_aload_n hx hb dL_looks_107 rfl (lv_at hl 0 rfl) ?_
                    refine lv_iconst (v := 0) hx hb dL_looks_108 (by decide) ?_
                    refine zv_E (vx_runV (As := [.int 0]) (rest := [.long ((31) * y0_67), .long (31)]) ⟨hx, hb, hml, hown, hts⟩ (zk_X2_setting l hfl D cA b rd x X N B 0) (cwV 1 hts gL_looks_X2_setting rfl rfl rfl zy_X2_setting ⟨(Nat.le_of_ble_eq_true rfl), (Nat.le_of_ble_eq_true rfl)⟩) (zx_preVq (A := (zfr (xmW cA x b rd X N ++ (bkW (cA 0) (b 0) B)))) (ci := 2) (q0 := 0) hK hP hD hO hS (zD_fr hD) rfl rfl) rfl rfl hl.1 rfl (lv_room (Nat.le_of_ble_eq_true rfl)) dL_looks_109 ⟨Nat.le_of_ble_eq_true rfl, Nat.le_of_ble_eq_true rfl⟩) (zva_no ⟨⟨0, by decide, rfl⟩, trivial⟩) rfl ?_
                    refine lv_i2l (v := (f_X2_setting B 0).toInt64) hx hb dL_looks_112 rfl ?_
                    refine lv_ladd hx hb dL_looks_113 ?_
                    refine lv_lmul hx hb dL_looks_114 ?_
                    refine lv_aload_n hx hb dL_looks_115 rfl (lv_at hl 0 rfl) ?_
                    refine lv_iconst (v := 1) hx hb dL_looks_116 (by decide) ?_
                    refine zv_E (vx_runV (As := [.int 1]) (rest := [.long ((31) * (((31) * y0_67) + ((f_X2_setting B 0).toInt64)))]) ⟨hx, hb, hml, hown, hts⟩ (zk_X2_setting l hfl D cA b rd x X N B 1) (cwV 1 hts gL_looks_X2_setting rfl rfl rfl zy_X2_setting ⟨(Nat.le_of_ble_eq_true rfl), (Nat.le_of_ble_eq_true rfl)⟩) (zx_preVq (A := (zfr (xmW cA x b rd X N ++ (bkW (cA 0) (b 0) B)))) (ci := 2) (q0 := 0) hK hP hD hO hS (zD_fr hD) rfl rfl) rfl rfl hl.1 rfl (lv_room (Nat.le_of_ble_eq_true rfl)) dL_looks_117 ⟨Nat.le_of_ble_eq_true rfl, Nat.le_of_ble_eq_true rfl⟩) (zva_no ⟨⟨1, by decide, rfl⟩, trivial⟩) rfl ?_
                    refine lv_i2l (v := (f_X2_setting B 1).toInt64) hx hb dL_looks_120 rfl ?_
                    refine lv_ladd hx hb dL_looks_121 ?_
                    refine W.widen (k := 2) (n := 12) (Nat.le_of_ble_eq_true rfl) (Nat.le_of_ble_eq_true rfl) ?_
                    exact z_lretE hx hb hr hlocks dL_looks_122 (by subst q_y0_67 q_y0_33 q_y0_6; first | (simp -proj only [f_L_looks, ← hz_6, ← hz_33, ← hz_67]; first | done | rfl; done) | rfl)
                  · have c_3 : ¬ 36 ≤ n := fun h9 => c_3 ((nI_leI (a := 36) (b := n) (by omega) (by omega)).mpr h9)
                    refine lv_ldc2 hx hb hown (hts (.constantLong RL 11 (31)) (List.mem_of_getElem? (i := 2) rfl)) dL_looks_73 ?_
                    refine lv_lload_n hx hb dL_looks_76 rfl (lv_at hl 1 rfl) ?_
                    refine lv_lmul hx hb dL_looks_77 ?_
                    refine lv_aload_n hx hb dL_looks_78 rfl (lv_at hl 0 rfl) ?_
                    refine lv_iload_n hx hb dL_looks_79 rfl (lv_at hl 2 rfl) ?_
                    refine lv_bipush (v := 6) hx hb dL_looks_80 (by decide) ?_
                    refine lv_idiv hx hb dL_looks_82 (by decide) ?_
                    refine z_top (pk_div (a := n) (d := 6) (by omega) (by omega) (by omega)) ?_
                    refine lv_iload_n hx hb dL_looks_83 rfl (lv_at hl 2 rfl) ?_
                    refine lv_bipush (v := 6) hx hb dL_looks_84 (by decide) ?_
                    refine lv_irem hx hb dL_looks_86 (by decide) ?_
                    refine z_top (pk_rem (a := n) (d := 6) (by omega) (by omega) (by omega)) ?_
                    refine zv_E (vx_runV (As := [.int (nI (n / 6)), .int (nI (n % 6))]) (rest := [.long ((31) * y0_67)]) ⟨hx, hb, hml, hown, hts⟩ (zk_X2_pledged l hfl D cA b rd x X N B (nI (n / 6)) (nI (n % 6))) (cwV 2 hts gL_looks_X2_pledged rfl rfl rfl zy_X2_pledged ⟨(Nat.le_of_ble_eq_true rfl), (Nat.le_of_ble_eq_true rfl)⟩) (zx_preVq (A := (zfr (xmW cA x b rd X N ++ (bkW (cA 0) (b 0) B)))) (ci := 2) (q0 := 0) hK hP hD hO hS (zD_fr hD) rfl rfl) rfl rfl hl.1 rfl (lv_room (Nat.le_of_ble_eq_true rfl)) dL_looks_87 ⟨Nat.le_of_ble_eq_true rfl, Nat.le_of_ble_eq_true rfl⟩) (zva_no ⟨⟨(n / 6), by omega, rfl⟩, ⟨(n % 6), by omega, rfl⟩, trivial⟩) rfl ?_
                    refine lv_i2l (v := (f_X2_pledged B (nI (n / 6)) (nI (n % 6))).toInt64) hx hb dL_looks_90 rfl ?_
                    refine lv_ladd hx hb dL_looks_91 ?_
                    refine lv_lstore_n (lv' := [(1, .long (((31) * y0_67) + ((f_X2_pledged B (nI (n / 6)) (nI (n % 6))).toInt64))), (0, .ref (x 0)), (3, .int (nI n))]) hx hb dL_looks_92 rfl hl (by decide) rfl (fun ls hl => ?_)
                    refine lv_iinc (v := nI (n + 1)) (lv' := [(3, .int (nI (n + 1))), (1, .long (((31) * y0_67) + ((f_X2_pledged B (nI (n / 6)) (nI (n % 6))).toInt64))), (0, .ref (x 0))]) hx hb dL_looks_93 hl (k := 2) rfl (by rw [show (Int32.ofInt 1) = nI 1 from by decide]; exact nI_add n 1) (by decide) rfl (fun ls hl => ?_)
                    refine lv_goto (tgt := 67) hx hb dL_looks_96 (by decide) ?_
                    exact ih_67 (n + 1) _ (by omega) (by omega) (by subst q_y0_67 q_y0_33 q_y0_6; first | (simp -proj only [f_L_looks_67, ← hz_6, ← hz_33]; first | done | rfl; done) | rfl) ls (lv_sub hl [2, 1, 0] rfl)
              exact loop_67 _ 0 _ (by omega) (Nat.lt_succ_self _) rfl ls (lv_sub hl [1, 2, 0] rfl)
            · have c_2 : ¬ 60 ≤ n := fun h9 => c_2 ((nI_leI (a := 60) (b := n) (by omega) (by omega)).mpr h9)
              refine lv_ldc2 hx hb hown (hts (.constantLong RL 11 (31)) (List.mem_of_getElem? (i := 2) rfl)) dL_looks_39 ?_
              refine lv_lload_n hx hb dL_looks_42 rfl (lv_at hl 1 rfl) ?_
              refine lv_lmul hx hb dL_looks_43 ?_
              refine lv_aload_n hx hb dL_looks_44 rfl (lv_at hl 0 rfl) ?_
              refine lv_iload_n hx hb dL_looks_45 rfl (lv_at hl 2 rfl) ?_
              refine lv_bipush (v := 10) hx hb dL_looks_46 (by decide) ?_
              refine lv_idiv hx hb dL_looks_48 (by decide) ?_
              refine z_top (pk_div (a := n) (d := 10) (by omega) (by omega) (by omega)) ?_
              refine lv_iload_n hx hb dL_looks_49 rfl (lv_at hl 2 rfl) ?_
              refine lv_bipush (v := 10) hx hb dL_looks_50 (by decide) ?_
              refine lv_irem hx hb dL_looks_52 (by decide) ?_
              refine z_top (pk_rem (a := n) (d := 10) (by omega) (by omega) (by omega)) ?_
              refine zv_E (vx_runV (As := [.int (nI (n / 10)), .int (nI (n % 10))]) (rest := [.long ((31) * y0_33)]) ⟨hx, hb, hml, hown, hts⟩ (zk_X2_memberOf l hfl D cA b rd x X N B (nI (n / 10)) (nI (n % 10))) (cwV 2 hts gL_looks_X2_memberOf rfl rfl rfl zy_X2_memberOf ⟨(Nat.le_of_ble_eq_true rfl), (Nat.le_of_ble_eq_true rfl)⟩) (zx_preVq (A := (zfr (xmW cA x b rd X N ++ (bkW (cA 0) (b 0) B)))) (ci := 2) (q0 := 0) hK hP hD hO hS (zD_fr hD) rfl rfl) rfl rfl hl.1 rfl (lv_room (Nat.le_of_ble_eq_true rfl)) dL_looks_53 ⟨Nat.le_of_ble_eq_true rfl, Nat.le_of_ble_eq_true rfl⟩) (zva_no ⟨⟨(n / 10), by omega, rfl⟩, (zrgN (a := 0) (b := 9) (by omega) (by omega) (by omega)), trivial⟩) rfl ?_
              refine lv_i2l (v := (f_X2_memberOf B (nI (n / 10)) (nI (n % 10))).toInt64) hx hb dL_looks_56 rfl ?_
              refine lv_ladd hx hb dL_looks_57 ?_
              refine lv_lstore_n (lv' := [(1, .long (((31) * y0_33) + ((f_X2_memberOf B (nI (n / 10)) (nI (n % 10))).toInt64))), (0, .ref (x 0)), (3, .int (nI n))]) hx hb dL_looks_58 rfl hl (by decide) rfl (fun ls hl => ?_)
              refine lv_iinc (v := nI (n + 1)) (lv' := [(3, .int (nI (n + 1))), (1, .long (((31) * y0_33) + ((f_X2_memberOf B (nI (n / 10)) (nI (n % 10))).toInt64))), (0, .ref (x 0))]) hx hb dL_looks_59 hl (k := 2) rfl (by rw [show (Int32.ofInt 1) = nI 1 from by decide]; exact nI_add n 1) (by decide) rfl (fun ls hl => ?_)
              refine lv_goto (tgt := 33) hx hb dL_looks_62 (by decide) ?_
              exact ih_33 (n + 1) _ (by omega) (by omega) (by subst q_y0_33 q_y0_6; first | (simp -proj only [f_L_looks_33, ← hz_6]; first | done | rfl; done) | rfl) ls (lv_sub hl [2, 1, 0] rfl)
        exact loop_33 _ 0 _ (by omega) (Nat.lt_succ_self _) rfl ls (lv_sub hl [1, 2, 0] rfl)
      · have c_1 : ¬ 11 ≤ n := fun h9 => c_1 ((nI_leI (a := 11) (b := n) (by omega) (by omega)).mpr h9)
        refine lv_ldc2 hx hb hown (hts (.constantLong RL 11 (31)) (List.mem_of_getElem? (i := 2) rfl)) dL_looks_12 ?_
        refine lv_lload_n hx hb dL_looks_15 rfl (lv_at hl 1 rfl) ?_
        refine lv_lmul hx hb dL_looks_16 ?_
        refine lv_aload_n hx hb dL_looks_17 rfl (lv_at hl 0 rfl) ?_
        refine lv_iload_n hx hb dL_looks_18 rfl (lv_at hl 2 rfl) ?_
        refine zv_E (vx_runV (As := [.int (nI n)]) (rest := [.long ((31) * y0_6)]) ⟨hx, hb, hml, hown, hts⟩ (zk_X2_count l hfl D cA b rd x X N B (nI n)) (cwV 1 hts gL_looks_X2_count rfl rfl rfl zy_X2_count ⟨(Nat.le_of_ble_eq_true rfl), (Nat.le_of_ble_eq_true rfl)⟩) (zx_preVq (A := (zfr (xmW cA x b rd X N ++ (bkW (cA 0) (b 0) B)))) (ci := 2) (q0 := 0) hK hP hD hO hS (zD_fr hD) rfl rfl) rfl rfl hl.1 rfl (lv_room (Nat.le_of_ble_eq_true rfl)) dL_looks_19 ⟨Nat.le_of_ble_eq_true rfl, Nat.le_of_ble_eq_true rfl⟩) (zva_no ⟨(zrgN (a := 0) (b := 11) (by omega) (by omega) (by omega)), trivial⟩) rfl ?_
        refine lv_i2l (v := (f_X2_count N B (nI n)).toInt64) hx hb dL_looks_22 rfl ?_
        refine lv_ladd hx hb dL_looks_23 ?_
        refine lv_lstore_n (lv' := [(1, .long (((31) * y0_6) + ((f_X2_count N B (nI n)).toInt64))), (0, .ref (x 0)), (3, .int (nI n))]) hx hb dL_looks_24 rfl hl (by decide) rfl (fun ls hl => ?_)
        refine lv_iinc (v := nI (n + 1)) (lv' := [(3, .int (nI (n + 1))), (1, .long (((31) * y0_6) + ((f_X2_count N B (nI n)).toInt64))), (0, .ref (x 0))]) hx hb dL_looks_25 hl (k := 2) rfl (by rw [show (Int32.ofInt 1) = nI 1 from by decide]; exact nI_add n 1) (by decide) rfl (fun ls hl => ?_)
        refine lv_goto (tgt := 6) hx hb dL_looks_28 (by decide) ?_
        exact ih_6 (n + 1) _ (by omega) (by omega) (by subst q_y0_6; first | (simp -proj only [f_L_looks_6]; first | done | rfl; done) | rfl) ls (lv_sub hl [2, 1, 0] rfl)
  exact loop_6 _ 0 _ (by omega) (Nat.lt_succ_self _) rfl ls (lv_sub hl [2, 1, 0] rfl)

