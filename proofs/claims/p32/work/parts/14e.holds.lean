/-! the law: holds -/
theorem zy_L_holds : yL_holds.cls = RL ∧ yL_holds.cls ≠ "java/lang/invoke/MethodHandle" ∧ yL_holds.cls ≠ "java/lang/invoke/VarHandle" ∧ (parseMethodDescriptor yL_holds.desc).map (fun d => d.parameters.length) = some 1 := by decide +kernel
def f_L_holds_69 (B : BK) (n : Nat) (i0 : Int32) (i1 : Int32) : Nat → Int32 × Int32
  | 0 => (i0, i1)
  | k + 1 =>
    let y0_69 : Int32 := (f_L_holds_69 B n i0 i1 k).1
    let y1_69 : Int32 := (f_L_holds_69 B n i0 i1 k).2
    (y0_69 + (f_X2_pledged B (nI n) (nI k)), y1_69 + (f_X2_pledged B (nI k) (nI n)))
def f_L_holds_53 (B : BK) (i0 : Int32) (i1 : Int32) (i2 : Int32) (i3 : Int32) : Nat → Int32 × Int32 × Int32 × Int32
  | 0 => (i0, i1, i2, i3)
  | n + 1 =>
    let y0_53 : Int32 := (f_L_holds_53 B i0 i1 i2 i3 n).1
    let y1_53 : Int32 := (f_L_holds_53 B i0 i1 i2 i3 n).2.1
    let y2_53 : Int32 := (f_L_holds_53 B i0 i1 i2 i3 n).2.2.1
    let y3_53 : Int32 := (f_L_holds_53 B i0 i1 i2 i3 n).2.2.2
    let y0_69 : Int32 := (f_L_holds_69 B n 0 0 6).1
    let y1_69 : Int32 := (f_L_holds_69 B n 0 0 6).2
    (y0_53 + (f_X2_memberOf B (nI n) 0), y1_53 + (f_X2_memberOf B (nI n) 6), y2_53 + (if (f_X2_memberOf B (nI n) 6) ≤ 0 then (0 : Int32) else 1), y3_53 + (if (f_X2_memberOf B (nI n) 6) ≤ ((f_X2_memberOf B (nI n) 0) - y0_69) then (0 : Int32) else 1))
def zF_holds (N : NK) (B : BK) : Prop :=
  ((((f_X2_count N B 0) + (f_X2_count N B 3)) = ((f_X2_count N B 2) + (f_X2_count N B 1)))) ∧
  ((¬ f_X0_allShares B < 0)) ∧
  ((¬ f_X0_allRests B < 0)) ∧
  ((¬ ((Op.cmpValue (FP.dcmp (f_X2_lentShare B) FP.dconst0) .l) < 0))) ∧
  (((f_X2_count N B 2) = ((f_L_holds_53 B 0 0 0 0 6).1))) ∧
  (((f_X2_count N B 3) = ((f_L_holds_53 B 0 0 0 0 6).2.1))) ∧
  (((f_X2_count N B 4) = ((f_L_holds_53 B 0 0 0 0 6).2.2.1))) ∧
  ((¬ ((f_X2_count N B 5) < ((f_X2_count N B 6) + ((f_L_holds_53 B 0 0 0 0 6).2.2.1))))) ∧
  (((if (f_X2_riskiest B) = (-1) then (1 : Int32) else 0) = (if ((f_L_holds_53 B 0 0 0 0 6).2.2.2) = 0 then (1 : Int32) else 0))) ∧
  (∀ n : Nat, n < 6 → ((f_X2_memberOf B (nI n) 1) = ((f_L_holds_69 B n 0 0 6).1))) ∧
  (∀ n : Nat, n < 6 → ((f_X2_memberOf B (nI n) 2) = ((f_L_holds_69 B n 0 0 6).2))) ∧
  (∀ n : Nat, n < 6 → ((f_X2_memberOf B (nI n) 3) = (((f_X2_memberOf B (nI n) 0) + ((f_L_holds_69 B n 0 0 6).2)) - ((f_L_holds_69 B n 0 0 6).1)))) ∧
  (∀ n : Nat, n < 6 → (¬ ((f_X2_memberOf B (nI n) 3) < (f_X2_memberOf B (nI n) 6)))) ∧
  (∀ n : Nat, n < 6 → (¬ ((f_X2_memberOf B (nI n) 4) < 0))) ∧
  (∀ n : Nat, n < 6 → ((f_X2_memberOf B (nI n) 4) = (((f_X2_memberOf B (nI n) 0) - ((f_L_holds_69 B n 0 0 6).1)) - (if ((f_X2_memberOf B (nI n) 6) - ((f_L_holds_69 B n 0 0 6).2)) ≤ 0 then (0 : Int32) else (f_X2_memberOf B (nI n) 6) - ((f_L_holds_69 B n 0 0 6).2))))) ∧
  (∀ n : Nat, n < 6 → (¬ (190000 < (f_X2_memberOf B (nI n) 0)))) ∧
  (∀ n : Nat, n < 6 → ((if (f_X2_memberOf B (nI n) 6) = 0 then (1 : Int32) else 0) = (if (f_X2_memberOf B (nI n) 7) = (-1) then (1 : Int32) else 0))) ∧
  (∀ n : Nat, n < 6 → ((if (f_X2_weeksLeft B (nI n) 0) = 0 then (1 : Int32) else 0) = (if (f_X2_memberOf B (nI n) 6) = 0 then (1 : Int32) else 0))) ∧
  (∀ n : Nat, n < 6 → ((f_X2_weeksLeft B (nI n) 0) = (f_X2_weeksLeft B (nI n) 1))) ∧
  (∀ n : Nat, n < 6 → ∀ k : Nat, k < 6 → (¬ ((f_X2_pledged B (nI n) (nI k)) < 0))) ∧
  (∀ n : Nat, n < 6 → ∀ k : Nat, k < 6 → (k = n) → ((f_X2_pledged B (nI n) (nI k)) = 0))
set_option maxHeartbeats 4000000 in
set_option maxRecDepth 100000 in
theorem zc_L_holds (l : Launch) (hfl : l.stackTraces = false) (D : va_G) (cA : Nat → ClassId) (b : Nat → Nat → Nat) (rd : Nat) (x : Nat → Nat) (X : BK) (N : NK) (B : BK)  (hF : zF_holds N B) : Met l yL_holds wsL_holds (zrx 8 134 2 12) (zPx D cA [.ref (x 0)] (xmW cA x b rd X N ++ (bkW (cA 0) (b 0) B))) (zE (some (.int 1))) 2 12 (fun _ => False) := by
  obtain ⟨hf_31, hf_35, hf_35x, hf_40, hf_439, hf_448, hf_457, hf_473, hf_499, hf_245, hf_257, hf_280, hf_292, hf_302, hf_325, hf_337, hf_367, hf_395, hf_412, hf_115, hf_133⟩ := hF
  refine Met.ofW (cc := cL_holds) (maxL := 11) (ret := (some .boolean)) (by decide) rfl ?_
  intro p e s m args below meth c s₁ Bd hml hv
  obtain ⟨rfl, hP, hK, hD0, hO⟩ := hv
  have hx := Bd.exec
  have hb := Bd.bytes
  have hr := Bd.returns
  have hts := atoms_spec (ws := wsL_holds) Bd.pre
  have hown : s.vm.findClass RL = some m.cls := findClass_of_methodNamed Bd.named
  have hlocks := Bd.notSynchronized
  have hD := z_Dfr hD0
  have hS : va_S (zfr (xmW cA x b rd X N ++ (bkW (cA 0) (b 0) B))) s.heap s.heap [] := va_S.rf
  have hl := lv_entry ([.ref (x 0)]) (n := 11) (Nat.le_of_ble_eq_true rfl)
  rw [lg_entry_eq]
  generalize (lg_sl ([.ref (x 0)]) ++ List.replicate (11 - (lg_sl ([.ref (x 0)])).length) Slot.unset).toArray = ls at hl ⊢
  have hl : lv_has ls 11 [(0, .ref (x 0))] := hl
  refine lv_iconst (v := 0) hx hb dL_holds_0 (by decide) ?_
  refine lv_istore_n (lv' := [(1, .int 0), (0, .ref (x 0))]) hx hb dL_holds_1 rfl hl (by decide) rfl (fun ls hl => ?_)
  refine lv_iconst (v := 0) hx hb dL_holds_2 (by decide) ?_
  refine lv_istore_n (lv' := [(2, .int 0), (1, .int 0), (0, .ref (x 0))]) hx hb dL_holds_3 rfl hl (by decide) rfl (fun ls hl => ?_)
  refine lv_iconst (v := 0) hx hb dL_holds_4 (by decide) ?_
  refine lv_istore_n (lv' := [(3, .int 0), (2, .int 0), (1, .int 0), (0, .ref (x 0))]) hx hb dL_holds_5 rfl hl (by decide) rfl (fun ls hl => ?_)
  refine lv_iconst (v := 0) hx hb dL_holds_6 (by decide) ?_
  refine lv_istore (lv' := [(4, .int 0), (3, .int 0), (2, .int 0), (1, .int 0), (0, .ref (x 0))]) hx hb dL_holds_7 hl (by decide) rfl (fun ls hl => ?_)
  refine lv_aload_n hx hb dL_holds_9 rfl (lv_at hl 4 rfl) ?_
  refine lv_iconst (v := 0) hx hb dL_holds_10 (by decide) ?_
  refine zv_E (vx_runV (As := [.int 0]) (rest := []) ⟨hx, hb, hml, hown, hts⟩ (zk_X2_count l hfl D cA b rd x X N B 0) (cwV 1 hts gL_holds_X2_count rfl rfl rfl zy_X2_count ⟨(Nat.le_of_ble_eq_true rfl), (Nat.le_of_ble_eq_true rfl)⟩) (zx_preVq (A := (zfr (xmW cA x b rd X N ++ (bkW (cA 0) (b 0) B)))) (ci := 2) (q0 := 0) hK hP hD hO hS (zD_fr hD) rfl rfl) rfl rfl hl.1 rfl (lv_room (Nat.le_of_ble_eq_true rfl)) dL_holds_11 ⟨Nat.le_of_ble_eq_true rfl, Nat.le_of_ble_eq_true rfl⟩) (zva_no ⟨⟨by decide, by decide⟩, trivial⟩) rfl ?_
  refine lv_aload_n hx hb dL_holds_14 rfl (lv_at hl 4 rfl) ?_
  refine lv_iconst (v := 3) hx hb dL_holds_15 (by decide) ?_
  refine zv_E (vx_runV (As := [.int 3]) (rest := [.int (f_X2_count N B 0)]) ⟨hx, hb, hml, hown, hts⟩ (zk_X2_count l hfl D cA b rd x X N B 3) (cwV 1 hts gL_holds_X2_count rfl rfl rfl zy_X2_count ⟨(Nat.le_of_ble_eq_true rfl), (Nat.le_of_ble_eq_true rfl)⟩) (zx_preVq (A := (zfr (xmW cA x b rd X N ++ (bkW (cA 0) (b 0) B)))) (ci := 2) (q0 := 0) hK hP hD hO hS (zD_fr hD) rfl rfl) rfl rfl hl.1 rfl (lv_room (Nat.le_of_ble_eq_true rfl)) dL_holds_16 ⟨Nat.le_of_ble_eq_true rfl, Nat.le_of_ble_eq_true rfl⟩) (zva_no ⟨⟨by decide, by decide⟩, trivial⟩) rfl ?_
  refine lv_iadd hx hb dL_holds_19 ?_
  refine lv_aload_n hx hb dL_holds_20 rfl (lv_at hl 4 rfl) ?_
  refine lv_iconst (v := 2) hx hb dL_holds_21 (by decide) ?_
  refine zv_E (vx_runV (As := [.int 2]) (rest := [.int ((f_X2_count N B 0) + (f_X2_count N B 3))]) ⟨hx, hb, hml, hown, hts⟩ (zk_X2_count l hfl D cA b rd x X N B 2) (cwV 1 hts gL_holds_X2_count rfl rfl rfl zy_X2_count ⟨(Nat.le_of_ble_eq_true rfl), (Nat.le_of_ble_eq_true rfl)⟩) (zx_preVq (A := (zfr (xmW cA x b rd X N ++ (bkW (cA 0) (b 0) B)))) (ci := 2) (q0 := 0) hK hP hD hO hS (zD_fr hD) rfl rfl) rfl rfl hl.1 rfl (lv_room (Nat.le_of_ble_eq_true rfl)) dL_holds_22 ⟨Nat.le_of_ble_eq_true rfl, Nat.le_of_ble_eq_true rfl⟩) (zva_no ⟨⟨by decide, by decide⟩, trivial⟩) rfl ?_
  refine lv_aload_n hx hb dL_holds_25 rfl (lv_at hl 4 rfl) ?_
  refine lv_iconst (v := 1) hx hb dL_holds_26 (by decide) ?_
  refine zv_E (vx_runV (As := [.int 1]) (rest := [.int (f_X2_count N B 2), .int ((f_X2_count N B 0) + (f_X2_count N B 3))]) ⟨hx, hb, hml, hown, hts⟩ (zk_X2_count l hfl D cA b rd x X N B 1) (cwV 1 hts gL_holds_X2_count rfl rfl rfl zy_X2_count ⟨(Nat.le_of_ble_eq_true rfl), (Nat.le_of_ble_eq_true rfl)⟩) (zx_preVq (A := (zfr (xmW cA x b rd X N ++ (bkW (cA 0) (b 0) B)))) (ci := 2) (q0 := 0) hK hP hD hO hS (zD_fr hD) rfl rfl) rfl rfl hl.1 rfl (lv_room (Nat.le_of_ble_eq_true rfl)) dL_holds_27 ⟨Nat.le_of_ble_eq_true rfl, Nat.le_of_ble_eq_true rfl⟩) (zva_no ⟨⟨by decide, by decide⟩, trivial⟩) rfl ?_
  refine lv_iadd hx hb dL_holds_30 ?_
  refine lv_icmp_ne (tgt := 47) hx hb dL_holds_31 (by decide) (fun c_1 => by exact absurd (hf_31) c_1) (fun _ => ?_)
  refine lv_aload_n hx hb dL_holds_34 rfl (lv_at hl 4 rfl) ?_
  refine z_E (va_runV (As := []) (rest := []) ⟨hx, hb, hml, hown, hts⟩ (zc_X2_lentShare l D cA b rd x X N B (hf_35) (hf_35x)) (cwV 0 hts gL_holds_X2_lentShare rfl rfl rfl zy_X2_lentShare ⟨(Nat.le_of_ble_eq_true rfl), (Nat.le_of_ble_eq_true rfl)⟩) (z_preV (ci := 2) hK hP hD rfl rfl) rfl rfl hl.1 rfl (lv_room (Nat.le_of_ble_eq_true rfl)) dL_holds_35 ⟨Nat.le_of_ble_eq_true rfl, Nat.le_of_ble_eq_true rfl⟩) rfl ?_
  refine lv_dconst0 hx hb dL_holds_38 ?_
  refine lv_dcmp hx hb dL_holds_39 ?_
  refine lv_if_lt (tgt := 47) hx hb dL_holds_40 (by decide) (fun c_2 => by exact absurd c_2 (hf_40)) (fun _ => ?_)
  refine lv_iconst (v := 1) hx hb dL_holds_43 (by decide) ?_
  refine lv_goto (tgt := 48) hx hb dL_holds_44 (by decide) ?_
  refine lv_istore (lv' := [(5, .int 1), (4, .int 0), (3, .int 0), (2, .int 0), (1, .int 0), (0, .ref (x 0))]) hx hb dL_holds_48 hl (by decide) rfl (fun ls hl => ?_)
  refine lv_iconst (v := 0) hx hb dL_holds_50 (by decide) ?_
  refine lv_istore (lv' := [(6, .int 0), (5, .int 1), (4, .int 0), (3, .int 0), (2, .int 0), (1, .int 0), (0, .ref (x 0))]) hx hb dL_holds_51 hl (by decide) rfl (fun ls hl => ?_)
  have loop_53 : ∀ (kk : Nat) (n : Nat) (y0_53 : Int32) (y1_53 : Int32) (y2_53 : Int32) (y3_53 : Int32), n ≤ 6 → 6 - n < kk → y0_53 = (f_L_holds_53 B 0 0 0 0 n).1 → y1_53 = (f_L_holds_53 B 0 0 0 0 n).2.1 → y2_53 = (f_L_holds_53 B 0 0 0 0 n).2.2.1 → y3_53 = (f_L_holds_53 B 0 0 0 0 n).2.2.2 → ∀ (ls : Array Slot), lv_has ls 11 [(0, .ref (x 0)), (5, .int 1), (1, .int y0_53), (2, .int y1_53), (3, .int y2_53), (4, .int y3_53), (6, .int (nI n))] → W p l e (headSpec wsL_holds (zrx 8 134 2 12)).room s m ([.ref (x 0)] : List Value).toArray below meth c s.heap [] 0 0 (MQ below (zE (some (.int 1))) ([.ref (x 0)] : List Value).toArray s 2 12 (fun _ => False)) (F0 m 53 ls []) := by
    intro kk
    induction kk with
    | zero => intro n y0_53 y1_53 y2_53 y3_53 _ h9; exact absurd h9 (Nat.not_lt_zero _)
    | succ kk ih_53 =>
      intro n y0_53 y1_53 y2_53 y3_53 hn_53 hm_53 q_y0_53 q_y1_53 q_y2_53 q_y3_53 ls hl
      refine lv_iload hx hb dL_holds_53 (lv_at hl 6 rfl) ?_
      refine lv_bipush (v := 6) hx hb dL_holds_55 (by decide) ?_
      refine lv_icmp_ge (tgt := 428) hx hb dL_holds_57 (by decide) (fun c_3 => ?_) (fun c_3 => ?_)
      · have c_3 : 6 ≤ n := (nI_leI (a := 6) (b := n) (by omega) (by omega)).mp c_3
        obtain rfl : n = 6 := by omega
        obtain ⟨z_53, hz_53⟩ : ∃ z9, z9 = f_L_holds_53 B 0 0 0 0 6 := ⟨_, rfl⟩
        rw [← hz_53] at q_y0_53 q_y1_53 q_y2_53 q_y3_53
        refine lv_iload hx hb dL_holds_428 (lv_at hl 1 rfl) ?_
        refine lv_if_eq (tgt := 506) hx hb dL_holds_430 (by decide) (fun c_4 => absurd c_4 (by decide)) (fun _ => ?_)
        refine lv_aload_n hx hb dL_holds_433 rfl (lv_at hl 0 rfl) ?_
        refine lv_iconst (v := 2) hx hb dL_holds_434 (by decide) ?_
        refine zv_E (vx_runV (As := [.int 2]) (rest := []) ⟨hx, hb, hml, hown, hts⟩ (zk_X2_count l hfl D cA b rd x X N B 2) (cwV 1 hts gL_holds_X2_count rfl rfl rfl zy_X2_count ⟨(Nat.le_of_ble_eq_true rfl), (Nat.le_of_ble_eq_true rfl)⟩) (zx_preVq (A := (zfr (xmW cA x b rd X N ++ (bkW (cA 0) (b 0) B)))) (ci := 2) (q0 := 0) hK hP hD hO hS (zD_fr hD) rfl rfl) rfl rfl hl.1 rfl (lv_room (Nat.le_of_ble_eq_true rfl)) dL_holds_435 ⟨Nat.le_of_ble_eq_true rfl, Nat.le_of_ble_eq_true rfl⟩) (zva_no ⟨⟨by decide, by decide⟩, trivial⟩) rfl ?_
        refine lv_iload_n hx hb dL_holds_438 rfl (lv_at hl 2 rfl) ?_
        refine lv_icmp_ne (tgt := 506) hx hb dL_holds_439 (by decide) (fun c_5 => by exact absurd (by subst q_y3_53 q_y2_53 q_y1_53 q_y0_53 hz_53; exact hf_439) c_5) (fun _ => ?_)
        refine lv_aload_n hx hb dL_holds_442 rfl (lv_at hl 0 rfl) ?_
        refine lv_iconst (v := 3) hx hb dL_holds_443 (by decide) ?_
        refine zv_E (vx_runV (As := [.int 3]) (rest := []) ⟨hx, hb, hml, hown, hts⟩ (zk_X2_count l hfl D cA b rd x X N B 3) (cwV 1 hts gL_holds_X2_count rfl rfl rfl zy_X2_count ⟨(Nat.le_of_ble_eq_true rfl), (Nat.le_of_ble_eq_true rfl)⟩) (zx_preVq (A := (zfr (xmW cA x b rd X N ++ (bkW (cA 0) (b 0) B)))) (ci := 2) (q0 := 0) hK hP hD hO hS (zD_fr hD) rfl rfl) rfl rfl hl.1 rfl (lv_room (Nat.le_of_ble_eq_true rfl)) dL_holds_444 ⟨Nat.le_of_ble_eq_true rfl, Nat.le_of_ble_eq_true rfl⟩) (zva_no ⟨⟨by decide, by decide⟩, trivial⟩) rfl ?_
        refine lv_iload_n hx hb dL_holds_447 rfl (lv_at hl 3 rfl) ?_
        refine lv_icmp_ne (tgt := 506) hx hb dL_holds_448 (by decide) (fun c_6 => by exact absurd (by subst q_y3_53 q_y2_53 q_y1_53 q_y0_53 hz_53; exact hf_448) c_6) (fun _ => ?_)
        refine lv_aload_n hx hb dL_holds_451 rfl (lv_at hl 0 rfl) ?_
        refine lv_iconst (v := 4) hx hb dL_holds_452 (by decide) ?_
        refine zv_E (vx_runV (As := [.int 4]) (rest := []) ⟨hx, hb, hml, hown, hts⟩ (zk_X2_count l hfl D cA b rd x X N B 4) (cwV 1 hts gL_holds_X2_count rfl rfl rfl zy_X2_count ⟨(Nat.le_of_ble_eq_true rfl), (Nat.le_of_ble_eq_true rfl)⟩) (zx_preVq (A := (zfr (xmW cA x b rd X N ++ (bkW (cA 0) (b 0) B)))) (ci := 2) (q0 := 0) hK hP hD hO hS (zD_fr hD) rfl rfl) rfl rfl hl.1 rfl (lv_room (Nat.le_of_ble_eq_true rfl)) dL_holds_453 ⟨Nat.le_of_ble_eq_true rfl, Nat.le_of_ble_eq_true rfl⟩) (zva_no ⟨⟨by decide, by decide⟩, trivial⟩) rfl ?_
        refine lv_iload_n hx hb dL_holds_456 rfl (lv_at hl 4 rfl) ?_
        refine lv_icmp_ne (tgt := 506) hx hb dL_holds_457 (by decide) (fun c_7 => by exact absurd (by subst q_y3_53 q_y2_53 q_y1_53 q_y0_53 hz_53; exact hf_457) c_7) (fun _ => ?_)
        refine lv_aload_n hx hb dL_holds_460 rfl (lv_at hl 0 rfl) ?_
        refine lv_iconst (v := 5) hx hb dL_holds_461 (by decide) ?_
        refine zv_E (vx_runV (As := [.int 5]) (rest := []) ⟨hx, hb, hml, hown, hts⟩ (zk_X2_count l hfl D cA b rd x X N B 5) (cwV 1 hts gL_holds_X2_count rfl rfl rfl zy_X2_count ⟨(Nat.le_of_ble_eq_true rfl), (Nat.le_of_ble_eq_true rfl)⟩) (zx_preVq (A := (zfr (xmW cA x b rd X N ++ (bkW (cA 0) (b 0) B)))) (ci := 2) (q0 := 0) hK hP hD hO hS (zD_fr hD) rfl rfl) rfl rfl hl.1 rfl (lv_room (Nat.le_of_ble_eq_true rfl)) dL_holds_462 ⟨Nat.le_of_ble_eq_true rfl, Nat.le_of_ble_eq_true rfl⟩) (zva_no ⟨⟨by decide, by decide⟩, trivial⟩) rfl ?_
        refine lv_aload_n hx hb dL_holds_465 rfl (lv_at hl 0 rfl) ?_
        refine lv_bipush (v := 6) hx hb dL_holds_466 (by decide) ?_
        refine zv_E (vx_runV (As := [.int 6]) (rest := [.int (f_X2_count N B 5)]) ⟨hx, hb, hml, hown, hts⟩ (zk_X2_count l hfl D cA b rd x X N B 6) (cwV 1 hts gL_holds_X2_count rfl rfl rfl zy_X2_count ⟨(Nat.le_of_ble_eq_true rfl), (Nat.le_of_ble_eq_true rfl)⟩) (zx_preVq (A := (zfr (xmW cA x b rd X N ++ (bkW (cA 0) (b 0) B)))) (ci := 2) (q0 := 0) hK hP hD hO hS (zD_fr hD) rfl rfl) rfl rfl hl.1 rfl (lv_room (Nat.le_of_ble_eq_true rfl)) dL_holds_468 ⟨Nat.le_of_ble_eq_true rfl, Nat.le_of_ble_eq_true rfl⟩) (zva_no ⟨⟨by decide, by decide⟩, trivial⟩) rfl ?_
        refine lv_iload_n hx hb dL_holds_471 rfl (lv_at hl 4 rfl) ?_
        refine lv_iadd hx hb dL_holds_472 ?_
        refine lv_icmp_lt (tgt := 506) hx hb dL_holds_473 (by decide) (fun c_8 => by exact absurd c_8 (by subst q_y3_53 q_y2_53 q_y1_53 q_y0_53 hz_53; exact hf_473)) (fun _ => ?_)
        refine lv_aload_n hx hb dL_holds_476 rfl (lv_at hl 0 rfl) ?_
        refine z_E (va_runV (As := []) (rest := []) ⟨hx, hb, hml, hown, hts⟩ (zc_X2_riskiest l D cA b rd x X N B) (cwV 0 hts gL_holds_X2_riskiest rfl rfl rfl zy_X2_riskiest ⟨(Nat.le_of_ble_eq_true rfl), (Nat.le_of_ble_eq_true rfl)⟩) (z_preV (ci := 2) hK hP hD rfl rfl) rfl rfl hl.1 rfl (lv_room (Nat.le_of_ble_eq_true rfl)) dL_holds_477 ⟨Nat.le_of_ble_eq_true rfl, Nat.le_of_ble_eq_true rfl⟩) rfl ?_
        refine lv_iconst (v := (-1)) hx hb dL_holds_480 (by decide) ?_
        have sel_481 : ∀ (ls : Array Slot), lv_has ls 11 [(0, .ref (x 0)), (5, .int 1), (1, .int y0_53), (2, .int y1_53), (3, .int y2_53), (4, .int y3_53), (6, .int (nI 6))] → W p l e (headSpec wsL_holds (zrx 8 134 2 12)).room s m ([.ref (x 0)] : List Value).toArray below meth c s.heap [] 0 0 (MQ below (zE (some (.int 1))) ([.ref (x 0)] : List Value).toArray s 2 12 (fun _ => False)) (F0 m 489 ls [.int (if (f_X2_riskiest B) = (-1) then (1 : Int32) else 0)]) := by
          intro ls hl
          refine lv_iload hx hb dL_holds_489 (lv_at hl 5 rfl) ?_
          have sel_491 : ∀ (ls : Array Slot), lv_has ls 11 [(0, .ref (x 0)), (5, .int 1), (1, .int y0_53), (2, .int y1_53), (3, .int y2_53), (4, .int y3_53), (6, .int (nI 6))] → W p l e (headSpec wsL_holds (zrx 8 134 2 12)).room s m ([.ref (x 0)] : List Value).toArray below meth c s.heap [] 0 0 (MQ below (zE (some (.int 1))) ([.ref (x 0)] : List Value).toArray s 2 12 (fun _ => False)) (F0 m 499 ls [.int (if y3_53 = 0 then (1 : Int32) else 0), .int (if (f_X2_riskiest B) = (-1) then (1 : Int32) else 0)]) := by
            intro ls hl
            refine lv_icmp_ne (tgt := 506) hx hb dL_holds_499 (by decide) (fun c_11 => by exact absurd (by subst q_y3_53 q_y2_53 q_y1_53 q_y0_53 hz_53; exact hf_499) c_11) (fun _ => ?_)
            refine lv_iconst (v := 1) hx hb dL_holds_502 (by decide) ?_
            refine lv_goto (tgt := 507) hx hb dL_holds_503 (by decide) ?_
            refine W.widen (k := 2) (n := 12) (Nat.le_of_ble_eq_true rfl) (Nat.le_of_ble_eq_true rfl) ?_
            exact z_zretE hx hb hr hlocks dL_holds_507 rfl rfl
          refine lv_if_ne (tgt := 498) hx hb dL_holds_491 (by decide) (fun c_10 => ?_) (fun c_10 => ?_)
          · refine lv_iconst (v := 0) hx hb dL_holds_498 (by decide) ?_
            refine z_top (y := if y3_53 = 0 then (1 : Int32) else 0) (by rw [if_neg c_10]) ?_
            exact sel_491 ls (lv_sub hl [0, 1, 2, 3, 4, 5, 6] rfl)
          · refine lv_iconst (v := 1) hx hb dL_holds_494 (by decide) ?_
            refine lv_goto (tgt := 499) hx hb dL_holds_495 (by decide) ?_
            refine z_top (y := if y3_53 = 0 then (1 : Int32) else 0) (by rw [if_pos c_10]) ?_
            exact sel_491 ls (lv_sub hl [0, 1, 2, 3, 4, 5, 6] rfl)
        refine lv_icmp_ne (tgt := 488) hx hb dL_holds_481 (by decide) (fun c_9 => ?_) (fun c_9 => ?_)
        · refine lv_iconst (v := 0) hx hb dL_holds_488 (by decide) ?_
          refine z_top (y := if (f_X2_riskiest B) = (-1) then (1 : Int32) else 0) (by rw [if_neg c_9]) ?_
          exact sel_481 ls (lv_sub hl [0, 1, 2, 3, 4, 5, 6] rfl)
        · refine lv_iconst (v := 1) hx hb dL_holds_484 (by decide) ?_
          refine lv_goto (tgt := 489) hx hb dL_holds_485 (by decide) ?_
          refine z_top (y := if (f_X2_riskiest B) = (-1) then (1 : Int32) else 0) (by rw [if_pos c_9]) ?_
          exact sel_481 ls (lv_sub hl [0, 1, 2, 3, 4, 5, 6] rfl)
      · have c_3 : ¬ 6 ≤ n := fun h9 => c_3 ((nI_leI (a := 6) (b := n) (by omega) (by omega)).mpr h9)
        refine lv_iconst (v := 0) hx hb dL_holds_60 (by decide) ?_
        refine lv_istore (lv' := [(7, .int 0), (0, .ref (x 0)), (5, .int 1), (1, .int y0_53), (2, .int y1_53), (3, .int y2_53), (4, .int y3_53), (6, .int (nI n))]) hx hb dL_holds_61 hl (by decide) rfl (fun ls hl => ?_)
        refine lv_iconst (v := 0) hx hb dL_holds_63 (by decide) ?_
        refine lv_istore (lv' := [(8, .int 0), (7, .int 0), (0, .ref (x 0)), (5, .int 1), (1, .int y0_53), (2, .int y1_53), (3, .int y2_53), (4, .int y3_53), (6, .int (nI n))]) hx hb dL_holds_64 hl (by decide) rfl (fun ls hl => ?_)
        refine lv_iconst (v := 0) hx hb dL_holds_66 (by decide) ?_
        refine lv_istore (lv' := [(9, .int 0), (8, .int 0), (7, .int 0), (0, .ref (x 0)), (5, .int 1), (1, .int y0_53), (2, .int y1_53), (3, .int y2_53), (4, .int y3_53), (6, .int (nI n))]) hx hb dL_holds_67 hl (by decide) rfl (fun ls hl => ?_)
        have loop_69 : ∀ (kk : Nat) (k : Nat) (y0_69 : Int32) (y1_69 : Int32), k ≤ 6 → 6 - k < kk → y0_69 = (f_L_holds_69 B n 0 0 k).1 → y1_69 = (f_L_holds_69 B n 0 0 k).2 → ∀ (ls : Array Slot), lv_has ls 11 [(0, .ref (x 0)), (1, .int y0_53), (2, .int y1_53), (3, .int y2_53), (4, .int y3_53), (5, .int 1), (6, .int (nI n)), (7, .int y0_69), (8, .int y1_69), (9, .int (nI k))] → W p l e (headSpec wsL_holds (zrx 8 134 2 12)).room s m ([.ref (x 0)] : List Value).toArray below meth c s.heap [] 0 0 (MQ below (zE (some (.int 1))) ([.ref (x 0)] : List Value).toArray s 2 12 (fun _ => False)) (F0 m 69 ls []) := by
          intro kk
          induction kk with
          | zero => intro k y0_69 y1_69 _ h9; exact absurd h9 (Nat.not_lt_zero _)
          | succ kk ih_69 =>
            intro k y0_69 y1_69 hn_69 hm_69 q_y0_69 q_y1_69 ls hl
            refine lv_iload hx hb dL_holds_69 (lv_at hl 9 rfl) ?_
            refine lv_bipush (v := 6) hx hb dL_holds_71 (by decide) ?_
            refine lv_icmp_ge (tgt := 149) hx hb dL_holds_73 (by decide) (fun c_12 => ?_) (fun c_12 => ?_)
            · have c_12 : 6 ≤ k := (nI_leI (a := 6) (b := k) (by omega) (by omega)).mp c_12
              obtain rfl : k = 6 := by omega
              obtain ⟨z_69, hz_69⟩ : ∃ z9, z9 = f_L_holds_69 B n 0 0 6 := ⟨_, rfl⟩
              rw [← hz_69] at q_y0_69 q_y1_69
              refine lv_aload_n hx hb dL_holds_149 rfl (lv_at hl 0 rfl) ?_
              refine lv_iload hx hb dL_holds_150 (lv_at hl 6 rfl) ?_
              refine lv_bipush (v := 6) hx hb dL_holds_152 (by decide) ?_
              refine zv_E (vx_runV (As := [.int (nI n), .int 6]) (rest := []) ⟨hx, hb, hml, hown, hts⟩ (zk_X2_memberOf l hfl D cA b rd x X N B (nI n) 6) (cwV 2 hts gL_holds_X2_memberOf rfl rfl rfl zy_X2_memberOf ⟨(Nat.le_of_ble_eq_true rfl), (Nat.le_of_ble_eq_true rfl)⟩) (zx_preVq (A := (zfr (xmW cA x b rd X N ++ (bkW (cA 0) (b 0) B)))) (ci := 2) (q0 := 0) hK hP hD hO hS (zD_fr hD) rfl rfl) rfl rfl hl.1 rfl (lv_room (Nat.le_of_ble_eq_true rfl)) dL_holds_154 ⟨Nat.le_of_ble_eq_true rfl, Nat.le_of_ble_eq_true rfl⟩) (zva_no ⟨⟨n, by omega, rfl⟩, ⟨by decide, by decide⟩, trivial⟩) rfl ?_
              refine lv_istore (lv' := [(9, .int (f_X2_memberOf B (nI n) 6)), (0, .ref (x 0)), (1, .int y0_53), (2, .int y1_53), (3, .int y2_53), (4, .int y3_53), (5, .int 1), (6, .int (nI n)), (7, .int y0_69), (8, .int y1_69)]) hx hb dL_holds_157 hl (by decide) rfl (fun ls hl => ?_)
              refine lv_iload hx hb dL_holds_159 (lv_at hl 0 rfl) ?_
              refine lv_iload hx hb dL_holds_161 (lv_at hl 9 rfl) ?_
              refine lv_isub hx hb dL_holds_163 ?_
              have sel_164 : ∀ (ls : Array Slot), lv_has ls 11 [(9, .int (f_X2_memberOf B (nI n) 6)), (0, .ref (x 0)), (1, .int y0_53), (2, .int y1_53), (3, .int y2_53), (4, .int y3_53), (5, .int 1), (6, .int (nI n)), (7, .int y0_69), (8, .int y1_69)] → W p l e (headSpec wsL_holds (zrx 8 134 2 12)).room s m ([.ref (x 0)] : List Value).toArray below meth c s.heap [] 0 0 (MQ below (zE (some (.int 1))) ([.ref (x 0)] : List Value).toArray s 2 12 (fun _ => False)) (F0 m 176 ls [.int (if ((f_X2_memberOf B (nI n) 6) - y1_69) ≤ 0 then (0 : Int32) else (f_X2_memberOf B (nI n) 6) - y1_69)]) := by
                intro ls hl
                refine lv_istore (lv' := [(10, .int (if ((f_X2_memberOf B (nI n) 6) - y1_69) ≤ 0 then (0 : Int32) else (f_X2_memberOf B (nI n) 6) - y1_69)), (9, .int (f_X2_memberOf B (nI n) 6)), (0, .ref (x 0)), (1, .int y0_53), (2, .int y1_53), (3, .int y2_53), (4, .int y3_53), (5, .int 1), (6, .int (nI n)), (7, .int y0_69), (8, .int y1_69)]) hx hb dL_holds_176 hl (by decide) rfl (fun ls hl => ?_)
                refine lv_iload_n hx hb dL_holds_178 rfl (lv_at hl 3 rfl) ?_
                refine lv_aload_n hx hb dL_holds_179 rfl (lv_at hl 2 rfl) ?_
                refine lv_iload hx hb dL_holds_180 (lv_at hl 8 rfl) ?_
                refine lv_iconst (v := 0) hx hb dL_holds_182 (by decide) ?_
                refine zv_E (vx_runV (As := [.int (nI n), .int 0]) (rest := [.int y0_53]) ⟨hx, hb, hml, hown, hts⟩ (zk_X2_memberOf l hfl D cA b rd x X N B (nI n) 0) (cwV 2 hts gL_holds_X2_memberOf rfl rfl rfl zy_X2_memberOf ⟨(Nat.le_of_ble_eq_true rfl), (Nat.le_of_ble_eq_true rfl)⟩) (zx_preVq (A := (zfr (xmW cA x b rd X N ++ (bkW (cA 0) (b 0) B)))) (ci := 2) (q0 := 0) hK hP hD hO hS (zD_fr hD) rfl rfl) rfl rfl hl.1 rfl (lv_room (Nat.le_of_ble_eq_true rfl)) dL_holds_183 ⟨Nat.le_of_ble_eq_true rfl, Nat.le_of_ble_eq_true rfl⟩) (zva_no ⟨⟨n, by omega, rfl⟩, ⟨by decide, by decide⟩, trivial⟩) rfl ?_
                refine lv_iadd hx hb dL_holds_186 ?_
                refine lv_istore_n (lv' := [(1, .int (y0_53 + (f_X2_memberOf B (nI n) 0))), (10, .int (if ((f_X2_memberOf B (nI n) 6) - y1_69) ≤ 0 then (0 : Int32) else (f_X2_memberOf B (nI n) 6) - y1_69)), (9, .int (f_X2_memberOf B (nI n) 6)), (0, .ref (x 0)), (2, .int y1_53), (3, .int y2_53), (4, .int y3_53), (5, .int 1), (6, .int (nI n)), (7, .int y0_69), (8, .int y1_69)]) hx hb dL_holds_187 rfl hl (by decide) rfl (fun ls hl => ?_)
                refine lv_iload_n hx hb dL_holds_188 rfl (lv_at hl 4 rfl) ?_
                refine lv_iload hx hb dL_holds_189 (lv_at hl 2 rfl) ?_
                refine lv_iadd hx hb dL_holds_191 ?_
                refine lv_istore_n (lv' := [(2, .int (y1_53 + (f_X2_memberOf B (nI n) 6))), (1, .int (y0_53 + (f_X2_memberOf B (nI n) 0))), (10, .int (if ((f_X2_memberOf B (nI n) 6) - y1_69) ≤ 0 then (0 : Int32) else (f_X2_memberOf B (nI n) 6) - y1_69)), (9, .int (f_X2_memberOf B (nI n) 6)), (0, .ref (x 0)), (3, .int y2_53), (4, .int y3_53), (5, .int 1), (6, .int (nI n)), (7, .int y0_69), (8, .int y1_69)]) hx hb dL_holds_192 rfl hl (by decide) rfl (fun ls hl => ?_)
                refine lv_iload_n hx hb dL_holds_193 rfl (lv_at hl 5 rfl) ?_
                refine lv_iload hx hb dL_holds_194 (lv_at hl 3 rfl) ?_
                have sel_196 : ∀ (ls : Array Slot), lv_has ls 11 [(2, .int (y1_53 + (f_X2_memberOf B (nI n) 6))), (1, .int (y0_53 + (f_X2_memberOf B (nI n) 0))), (10, .int (if ((f_X2_memberOf B (nI n) 6) - y1_69) ≤ 0 then (0 : Int32) else (f_X2_memberOf B (nI n) 6) - y1_69)), (9, .int (f_X2_memberOf B (nI n) 6)), (0, .ref (x 0)), (3, .int y2_53), (4, .int y3_53), (5, .int 1), (6, .int (nI n)), (7, .int y0_69), (8, .int y1_69)] → W p l e (headSpec wsL_holds (zrx 8 134 2 12)).room s m ([.ref (x 0)] : List Value).toArray below meth c s.heap [] 0 0 (MQ below (zE (some (.int 1))) ([.ref (x 0)] : List Value).toArray s 2 12 (fun _ => False)) (F0 m 204 ls [.int (if (f_X2_memberOf B (nI n) 6) ≤ 0 then (0 : Int32) else 1), .int y2_53]) := by
                  intro ls hl
                  refine lv_iadd hx hb dL_holds_204 ?_
                  refine lv_istore_n (lv' := [(3, .int (y2_53 + (if (f_X2_memberOf B (nI n) 6) ≤ 0 then (0 : Int32) else 1))), (2, .int (y1_53 + (f_X2_memberOf B (nI n) 6))), (1, .int (y0_53 + (f_X2_memberOf B (nI n) 0))), (10, .int (if ((f_X2_memberOf B (nI n) 6) - y1_69) ≤ 0 then (0 : Int32) else (f_X2_memberOf B (nI n) 6) - y1_69)), (9, .int (f_X2_memberOf B (nI n) 6)), (0, .ref (x 0)), (4, .int y3_53), (5, .int 1), (6, .int (nI n)), (7, .int y0_69), (8, .int y1_69)]) hx hb dL_holds_205 rfl hl (by decide) rfl (fun ls hl => ?_)
                  refine lv_iload hx hb dL_holds_206 (lv_at hl 6 rfl) ?_
                  refine lv_aload_n hx hb dL_holds_208 rfl (lv_at hl 5 rfl) ?_
                  refine lv_iload hx hb dL_holds_209 (lv_at hl 8 rfl) ?_
                  refine lv_iconst (v := 0) hx hb dL_holds_211 (by decide) ?_
                  refine zv_E (vx_runV (As := [.int (nI n), .int 0]) (rest := [.int y3_53]) ⟨hx, hb, hml, hown, hts⟩ (zk_X2_memberOf l hfl D cA b rd x X N B (nI n) 0) (cwV 2 hts gL_holds_X2_memberOf rfl rfl rfl zy_X2_memberOf ⟨(Nat.le_of_ble_eq_true rfl), (Nat.le_of_ble_eq_true rfl)⟩) (zx_preVq (A := (zfr (xmW cA x b rd X N ++ (bkW (cA 0) (b 0) B)))) (ci := 2) (q0 := 0) hK hP hD hO hS (zD_fr hD) rfl rfl) rfl rfl hl.1 rfl (lv_room (Nat.le_of_ble_eq_true rfl)) dL_holds_212 ⟨Nat.le_of_ble_eq_true rfl, Nat.le_of_ble_eq_true rfl⟩) (zva_no ⟨⟨n, by omega, rfl⟩, ⟨by decide, by decide⟩, trivial⟩) rfl ?_
                  refine lv_iload hx hb dL_holds_215 (lv_at hl 9 rfl) ?_
                  refine lv_isub hx hb dL_holds_217 ?_
                  refine lv_iload hx hb dL_holds_218 (lv_at hl 4 rfl) ?_
                  have sel_220 : ∀ (ls : Array Slot), lv_has ls 11 [(3, .int (y2_53 + (if (f_X2_memberOf B (nI n) 6) ≤ 0 then (0 : Int32) else 1))), (2, .int (y1_53 + (f_X2_memberOf B (nI n) 6))), (1, .int (y0_53 + (f_X2_memberOf B (nI n) 0))), (10, .int (if ((f_X2_memberOf B (nI n) 6) - y1_69) ≤ 0 then (0 : Int32) else (f_X2_memberOf B (nI n) 6) - y1_69)), (9, .int (f_X2_memberOf B (nI n) 6)), (0, .ref (x 0)), (4, .int y3_53), (5, .int 1), (6, .int (nI n)), (7, .int y0_69), (8, .int y1_69)] → W p l e (headSpec wsL_holds (zrx 8 134 2 12)).room s m ([.ref (x 0)] : List Value).toArray below meth c s.heap [] 0 0 (MQ below (zE (some (.int 1))) ([.ref (x 0)] : List Value).toArray s 2 12 (fun _ => False)) (F0 m 228 ls [.int (if (f_X2_memberOf B (nI n) 6) ≤ ((f_X2_memberOf B (nI n) 0) - y0_69) then (0 : Int32) else 1), .int y3_53]) := by
                    intro ls hl
                    refine lv_iadd hx hb dL_holds_228 ?_
                    refine lv_istore (lv' := [(4, .int (y3_53 + (if (f_X2_memberOf B (nI n) 6) ≤ ((f_X2_memberOf B (nI n) 0) - y0_69) then (0 : Int32) else 1))), (3, .int (y2_53 + (if (f_X2_memberOf B (nI n) 6) ≤ 0 then (0 : Int32) else 1))), (2, .int (y1_53 + (f_X2_memberOf B (nI n) 6))), (1, .int (y0_53 + (f_X2_memberOf B (nI n) 0))), (10, .int (if ((f_X2_memberOf B (nI n) 6) - y1_69) ≤ 0 then (0 : Int32) else (f_X2_memberOf B (nI n) 6) - y1_69)), (9, .int (f_X2_memberOf B (nI n) 6)), (0, .ref (x 0)), (5, .int 1), (6, .int (nI n)), (7, .int y0_69), (8, .int y1_69)]) hx hb dL_holds_229 hl (by decide) rfl (fun ls hl => ?_)
                    refine lv_iload hx hb dL_holds_231 (lv_at hl 7 rfl) ?_
                    refine lv_if_eq (tgt := 419) hx hb dL_holds_233 (by decide) (fun c_16 => absurd c_16 (by decide)) (fun _ => ?_)
                    refine lv_aload_n hx hb dL_holds_236 rfl (lv_at hl 6 rfl) ?_
                    refine lv_iload hx hb dL_holds_237 (lv_at hl 8 rfl) ?_
                    refine lv_iconst (v := 1) hx hb dL_holds_239 (by decide) ?_
                    refine zv_E (vx_runV (As := [.int (nI n), .int 1]) (rest := []) ⟨hx, hb, hml, hown, hts⟩ (zk_X2_memberOf l hfl D cA b rd x X N B (nI n) 1) (cwV 2 hts gL_holds_X2_memberOf rfl rfl rfl zy_X2_memberOf ⟨(Nat.le_of_ble_eq_true rfl), (Nat.le_of_ble_eq_true rfl)⟩) (zx_preVq (A := (zfr (xmW cA x b rd X N ++ (bkW (cA 0) (b 0) B)))) (ci := 2) (q0 := 0) hK hP hD hO hS (zD_fr hD) rfl rfl) rfl rfl hl.1 rfl (lv_room (Nat.le_of_ble_eq_true rfl)) dL_holds_240 ⟨Nat.le_of_ble_eq_true rfl, Nat.le_of_ble_eq_true rfl⟩) (zva_no ⟨⟨n, by omega, rfl⟩, ⟨by decide, by decide⟩, trivial⟩) rfl ?_
                    refine lv_iload hx hb dL_holds_243 (lv_at hl 9 rfl) ?_
                    refine lv_icmp_ne (tgt := 419) hx hb dL_holds_245 (by decide) (fun c_17 => by exact absurd (by subst q_y1_69 q_y0_69 q_y3_53 q_y2_53 q_y1_53 q_y0_53 hz_69; exact hf_245 _ (by omega)) c_17) (fun _ => ?_)
                    refine lv_aload_n hx hb dL_holds_248 rfl (lv_at hl 6 rfl) ?_
                    refine lv_iload hx hb dL_holds_249 (lv_at hl 8 rfl) ?_
                    refine lv_iconst (v := 2) hx hb dL_holds_251 (by decide) ?_
                    refine zv_E (vx_runV (As := [.int (nI n), .int 2]) (rest := []) ⟨hx, hb, hml, hown, hts⟩ (zk_X2_memberOf l hfl D cA b rd x X N B (nI n) 2) (cwV 2 hts gL_holds_X2_memberOf rfl rfl rfl zy_X2_memberOf ⟨(Nat.le_of_ble_eq_true rfl), (Nat.le_of_ble_eq_true rfl)⟩) (zx_preVq (A := (zfr (xmW cA x b rd X N ++ (bkW (cA 0) (b 0) B)))) (ci := 2) (q0 := 0) hK hP hD hO hS (zD_fr hD) rfl rfl) rfl rfl hl.1 rfl (lv_room (Nat.le_of_ble_eq_true rfl)) dL_holds_252 ⟨Nat.le_of_ble_eq_true rfl, Nat.le_of_ble_eq_true rfl⟩) (zva_no ⟨⟨n, by omega, rfl⟩, ⟨by decide, by decide⟩, trivial⟩) rfl ?_
                    refine lv_iload hx hb dL_holds_255 (lv_at hl 10 rfl) ?_
                    refine lv_icmp_ne (tgt := 419) hx hb dL_holds_257 (by decide) (fun c_18 => by exact absurd (by subst q_y1_69 q_y0_69 q_y3_53 q_y2_53 q_y1_53 q_y0_53 hz_69; exact hf_257 _ (by omega)) c_18) (fun _ => ?_)
                    refine lv_aload_n hx hb dL_holds_260 rfl (lv_at hl 6 rfl) ?_
                    refine lv_iload hx hb dL_holds_261 (lv_at hl 8 rfl) ?_
                    refine lv_iconst (v := 3) hx hb dL_holds_263 (by decide) ?_
                    refine zv_E (vx_runV (As := [.int (nI n), .int 3]) (rest := []) ⟨hx, hb, hml, hown, hts⟩ (zk_X2_memberOf l hfl D cA b rd x X N B (nI n) 3) (cwV 2 hts gL_holds_X2_memberOf rfl rfl rfl zy_X2_memberOf ⟨(Nat.le_of_ble_eq_true rfl), (Nat.le_of_ble_eq_true rfl)⟩) (zx_preVq (A := (zfr (xmW cA x b rd X N ++ (bkW (cA 0) (b 0) B)))) (ci := 2) (q0 := 0) hK hP hD hO hS (zD_fr hD) rfl rfl) rfl rfl hl.1 rfl (lv_room (Nat.le_of_ble_eq_true rfl)) dL_holds_264 ⟨Nat.le_of_ble_eq_true rfl, Nat.le_of_ble_eq_true rfl⟩) (zva_no ⟨⟨n, by omega, rfl⟩, ⟨by decide, by decide⟩, trivial⟩) rfl ?_
                    refine lv_aload_n hx hb dL_holds_267 rfl (lv_at hl 6 rfl) ?_
                    refine lv_iload hx hb dL_holds_268 (lv_at hl 8 rfl) ?_
                    refine lv_iconst (v := 0) hx hb dL_holds_270 (by decide) ?_
                    refine zv_E (vx_runV (As := [.int (nI n), .int 0]) (rest := [.int (f_X2_memberOf B (nI n) 3)]) ⟨hx, hb, hml, hown, hts⟩ (zk_X2_memberOf l hfl D cA b rd x X N B (nI n) 0) (cwV 2 hts gL_holds_X2_memberOf rfl rfl rfl zy_X2_memberOf ⟨(Nat.le_of_ble_eq_true rfl), (Nat.le_of_ble_eq_true rfl)⟩) (zx_preVq (A := (zfr (xmW cA x b rd X N ++ (bkW (cA 0) (b 0) B)))) (ci := 2) (q0 := 0) hK hP hD hO hS (zD_fr hD) rfl rfl) rfl rfl hl.1 rfl (lv_room (Nat.le_of_ble_eq_true rfl)) dL_holds_271 ⟨Nat.le_of_ble_eq_true rfl, Nat.le_of_ble_eq_true rfl⟩) (zva_no ⟨⟨n, by omega, rfl⟩, ⟨by decide, by decide⟩, trivial⟩) rfl ?_
                    refine lv_iload hx hb dL_holds_274 (lv_at hl 10 rfl) ?_
                    refine lv_iadd hx hb dL_holds_276 ?_
                    refine lv_iload hx hb dL_holds_277 (lv_at hl 9 rfl) ?_
                    refine lv_isub hx hb dL_holds_279 ?_
                    refine lv_icmp_ne (tgt := 419) hx hb dL_holds_280 (by decide) (fun c_19 => by exact absurd (by subst q_y1_69 q_y0_69 q_y3_53 q_y2_53 q_y1_53 q_y0_53 hz_69; exact hf_280 _ (by omega)) c_19) (fun _ => ?_)
                    refine lv_aload_n hx hb dL_holds_283 rfl (lv_at hl 6 rfl) ?_
                    refine lv_iload hx hb dL_holds_284 (lv_at hl 8 rfl) ?_
                    refine lv_iconst (v := 3) hx hb dL_holds_286 (by decide) ?_
                    refine zv_E (vx_runV (As := [.int (nI n), .int 3]) (rest := []) ⟨hx, hb, hml, hown, hts⟩ (zk_X2_memberOf l hfl D cA b rd x X N B (nI n) 3) (cwV 2 hts gL_holds_X2_memberOf rfl rfl rfl zy_X2_memberOf ⟨(Nat.le_of_ble_eq_true rfl), (Nat.le_of_ble_eq_true rfl)⟩) (zx_preVq (A := (zfr (xmW cA x b rd X N ++ (bkW (cA 0) (b 0) B)))) (ci := 2) (q0 := 0) hK hP hD hO hS (zD_fr hD) rfl rfl) rfl rfl hl.1 rfl (lv_room (Nat.le_of_ble_eq_true rfl)) dL_holds_287 ⟨Nat.le_of_ble_eq_true rfl, Nat.le_of_ble_eq_true rfl⟩) (zva_no ⟨⟨n, by omega, rfl⟩, ⟨by decide, by decide⟩, trivial⟩) rfl ?_
                    refine lv_iload hx hb dL_holds_290 (lv_at hl 5 rfl) ?_
                    refine lv_icmp_lt (tgt := 419) hx hb dL_holds_292 (by decide) (fun c_20 => by exact absurd c_20 (by subst q_y1_69 q_y0_69 q_y3_53 q_y2_53 q_y1_53 q_y0_53 hz_69; exact hf_292 _ (by omega))) (fun _ => ?_)
                    refine lv_aload_n hx hb dL_holds_295 rfl (lv_at hl 6 rfl) ?_
                    refine lv_iload hx hb dL_holds_296 (lv_at hl 8 rfl) ?_
                    refine lv_iconst (v := 4) hx hb dL_holds_298 (by decide) ?_
                    refine zv_E (vx_runV (As := [.int (nI n), .int 4]) (rest := []) ⟨hx, hb, hml, hown, hts⟩ (zk_X2_memberOf l hfl D cA b rd x X N B (nI n) 4) (cwV 2 hts gL_holds_X2_memberOf rfl rfl rfl zy_X2_memberOf ⟨(Nat.le_of_ble_eq_true rfl), (Nat.le_of_ble_eq_true rfl)⟩) (zx_preVq (A := (zfr (xmW cA x b rd X N ++ (bkW (cA 0) (b 0) B)))) (ci := 2) (q0 := 0) hK hP hD hO hS (zD_fr hD) rfl rfl) rfl rfl hl.1 rfl (lv_room (Nat.le_of_ble_eq_true rfl)) dL_holds_299 ⟨Nat.le_of_ble_eq_true rfl, Nat.le_of_ble_eq_true rfl⟩) (zva_no ⟨⟨n, by omega, rfl⟩, ⟨by decide, by decide⟩, trivial⟩) rfl ?_
                    refine lv_if_lt (tgt := 419) hx hb dL_holds_302 (by decide) (fun c_21 => by exact absurd c_21 (by subst q_y1_69 q_y0_69 q_y3_53 q_y2_53 q_y1_53 q_y0_53 hz_69; exact hf_302 _ (by omega))) (fun _ => ?_)
                    refine lv_aload_n hx hb dL_holds_305 rfl (lv_at hl 6 rfl) ?_
                    refine lv_iload hx hb dL_holds_306 (lv_at hl 8 rfl) ?_
                    refine lv_iconst (v := 4) hx hb dL_holds_308 (by decide) ?_
                    refine zv_E (vx_runV (As := [.int (nI n), .int 4]) (rest := []) ⟨hx, hb, hml, hown, hts⟩ (zk_X2_memberOf l hfl D cA b rd x X N B (nI n) 4) (cwV 2 hts gL_holds_X2_memberOf rfl rfl rfl zy_X2_memberOf ⟨(Nat.le_of_ble_eq_true rfl), (Nat.le_of_ble_eq_true rfl)⟩) (zx_preVq (A := (zfr (xmW cA x b rd X N ++ (bkW (cA 0) (b 0) B)))) (ci := 2) (q0 := 0) hK hP hD hO hS (zD_fr hD) rfl rfl) rfl rfl hl.1 rfl (lv_room (Nat.le_of_ble_eq_true rfl)) dL_holds_309 ⟨Nat.le_of_ble_eq_true rfl, Nat.le_of_ble_eq_true rfl⟩) (zva_no ⟨⟨n, by omega, rfl⟩, ⟨by decide, by decide⟩, trivial⟩) rfl ?_
                    refine lv_aload_n hx hb dL_holds_312 rfl (lv_at hl 6 rfl) ?_
                    refine lv_iload hx hb dL_holds_313 (lv_at hl 8 rfl) ?_
                    refine lv_iconst (v := 0) hx hb dL_holds_315 (by decide) ?_
                    refine zv_E (vx_runV (As := [.int (nI n), .int 0]) (rest := [.int (f_X2_memberOf B (nI n) 4)]) ⟨hx, hb, hml, hown, hts⟩ (zk_X2_memberOf l hfl D cA b rd x X N B (nI n) 0) (cwV 2 hts gL_holds_X2_memberOf rfl rfl rfl zy_X2_memberOf ⟨(Nat.le_of_ble_eq_true rfl), (Nat.le_of_ble_eq_true rfl)⟩) (zx_preVq (A := (zfr (xmW cA x b rd X N ++ (bkW (cA 0) (b 0) B)))) (ci := 2) (q0 := 0) hK hP hD hO hS (zD_fr hD) rfl rfl) rfl rfl hl.1 rfl (lv_room (Nat.le_of_ble_eq_true rfl)) dL_holds_316 ⟨Nat.le_of_ble_eq_true rfl, Nat.le_of_ble_eq_true rfl⟩) (zva_no ⟨⟨n, by omega, rfl⟩, ⟨by decide, by decide⟩, trivial⟩) rfl ?_
                    refine lv_iload hx hb dL_holds_319 (lv_at hl 9 rfl) ?_
                    refine lv_isub hx hb dL_holds_321 ?_
                    refine lv_iload hx hb dL_holds_322 (lv_at hl 4 rfl) ?_
                    refine lv_isub hx hb dL_holds_324 ?_
                    refine lv_icmp_ne (tgt := 419) hx hb dL_holds_325 (by decide) (fun c_22 => by exact absurd (by subst q_y1_69 q_y0_69 q_y3_53 q_y2_53 q_y1_53 q_y0_53 hz_69; exact hf_325 _ (by omega)) c_22) (fun _ => ?_)
                    refine lv_aload_n hx hb dL_holds_328 rfl (lv_at hl 6 rfl) ?_
                    refine lv_iload hx hb dL_holds_329 (lv_at hl 8 rfl) ?_
                    refine lv_iconst (v := 0) hx hb dL_holds_331 (by decide) ?_
                    refine zv_E (vx_runV (As := [.int (nI n), .int 0]) (rest := []) ⟨hx, hb, hml, hown, hts⟩ (zk_X2_memberOf l hfl D cA b rd x X N B (nI n) 0) (cwV 2 hts gL_holds_X2_memberOf rfl rfl rfl zy_X2_memberOf ⟨(Nat.le_of_ble_eq_true rfl), (Nat.le_of_ble_eq_true rfl)⟩) (zx_preVq (A := (zfr (xmW cA x b rd X N ++ (bkW (cA 0) (b 0) B)))) (ci := 2) (q0 := 0) hK hP hD hO hS (zD_fr hD) rfl rfl) rfl rfl hl.1 rfl (lv_room (Nat.le_of_ble_eq_true rfl)) dL_holds_332 ⟨Nat.le_of_ble_eq_true rfl, Nat.le_of_ble_eq_true rfl⟩) (zva_no ⟨⟨n, by omega, rfl⟩, ⟨by decide, by decide⟩, trivial⟩) rfl ?_
                    refine lv_ldc hx hb hown (hts (.constant RL 91 (190000)) (List.mem_of_getElem? (i := 1) rfl)) dL_holds_335 ?_
                    refine lv_icmp_gt (tgt := 419) hx hb dL_holds_337 (by decide) (fun c_23 => by exact absurd c_23 (by subst q_y1_69 q_y0_69 q_y3_53 q_y2_53 q_y1_53 q_y0_53 hz_69; exact hf_337 _ (by omega))) (fun _ => ?_)
                    refine lv_iload hx hb dL_holds_340 (lv_at hl 5 rfl) ?_
                    have sel_342 : ∀ (ls : Array Slot), lv_has ls 11 [(4, .int (y3_53 + (if (f_X2_memberOf B (nI n) 6) ≤ ((f_X2_memberOf B (nI n) 0) - y0_69) then (0 : Int32) else 1))), (3, .int (y2_53 + (if (f_X2_memberOf B (nI n) 6) ≤ 0 then (0 : Int32) else 1))), (2, .int (y1_53 + (f_X2_memberOf B (nI n) 6))), (1, .int (y0_53 + (f_X2_memberOf B (nI n) 0))), (10, .int (if ((f_X2_memberOf B (nI n) 6) - y1_69) ≤ 0 then (0 : Int32) else (f_X2_memberOf B (nI n) 6) - y1_69)), (9, .int (f_X2_memberOf B (nI n) 6)), (0, .ref (x 0)), (5, .int 1), (6, .int (nI n)), (7, .int y0_69), (8, .int y1_69)] → W p l e (headSpec wsL_holds (zrx 8 134 2 12)).room s m ([.ref (x 0)] : List Value).toArray below meth c s.heap [] 0 0 (MQ below (zE (some (.int 1))) ([.ref (x 0)] : List Value).toArray s 2 12 (fun _ => False)) (F0 m 350 ls [.int (if (f_X2_memberOf B (nI n) 6) = 0 then (1 : Int32) else 0)]) := by
                      intro ls hl
                      refine lv_aload_n hx hb dL_holds_350 rfl (lv_at hl 6 rfl) ?_
                      refine lv_iload hx hb dL_holds_351 (lv_at hl 8 rfl) ?_
                      refine lv_bipush (v := 7) hx hb dL_holds_353 (by decide) ?_
                      refine zv_E (vx_runV (As := [.int (nI n), .int 7]) (rest := [.int (if (f_X2_memberOf B (nI n) 6) = 0 then (1 : Int32) else 0)]) ⟨hx, hb, hml, hown, hts⟩ (zk_X2_memberOf l hfl D cA b rd x X N B (nI n) 7) (cwV 2 hts gL_holds_X2_memberOf rfl rfl rfl zy_X2_memberOf ⟨(Nat.le_of_ble_eq_true rfl), (Nat.le_of_ble_eq_true rfl)⟩) (zx_preVq (A := (zfr (xmW cA x b rd X N ++ (bkW (cA 0) (b 0) B)))) (ci := 2) (q0 := 0) hK hP hD hO hS (zD_fr hD) rfl rfl) rfl rfl hl.1 rfl (lv_room (Nat.le_of_ble_eq_true rfl)) dL_holds_355 ⟨Nat.le_of_ble_eq_true rfl, Nat.le_of_ble_eq_true rfl⟩) (zva_no ⟨⟨n, by omega, rfl⟩, ⟨by decide, by decide⟩, trivial⟩) rfl ?_
                      refine lv_iconst (v := (-1)) hx hb dL_holds_358 (by decide) ?_
                      have sel_359 : ∀ (ls : Array Slot), lv_has ls 11 [(4, .int (y3_53 + (if (f_X2_memberOf B (nI n) 6) ≤ ((f_X2_memberOf B (nI n) 0) - y0_69) then (0 : Int32) else 1))), (3, .int (y2_53 + (if (f_X2_memberOf B (nI n) 6) ≤ 0 then (0 : Int32) else 1))), (2, .int (y1_53 + (f_X2_memberOf B (nI n) 6))), (1, .int (y0_53 + (f_X2_memberOf B (nI n) 0))), (10, .int (if ((f_X2_memberOf B (nI n) 6) - y1_69) ≤ 0 then (0 : Int32) else (f_X2_memberOf B (nI n) 6) - y1_69)), (9, .int (f_X2_memberOf B (nI n) 6)), (0, .ref (x 0)), (5, .int 1), (6, .int (nI n)), (7, .int y0_69), (8, .int y1_69)] → W p l e (headSpec wsL_holds (zrx 8 134 2 12)).room s m ([.ref (x 0)] : List Value).toArray below meth c s.heap [] 0 0 (MQ below (zE (some (.int 1))) ([.ref (x 0)] : List Value).toArray s 2 12 (fun _ => False)) (F0 m 367 ls [.int (if (f_X2_memberOf B (nI n) 7) = (-1) then (1 : Int32) else 0), .int (if (f_X2_memberOf B (nI n) 6) = 0 then (1 : Int32) else 0)]) := by
                        intro ls hl
                        refine lv_icmp_ne (tgt := 419) hx hb dL_holds_367 (by decide) (fun c_26 => by exact absurd (by subst q_y1_69 q_y0_69 q_y3_53 q_y2_53 q_y1_53 q_y0_53 hz_69; exact hf_367 _ (by omega)) c_26) (fun _ => ?_)
                        refine lv_aload_n hx hb dL_holds_370 rfl (lv_at hl 6 rfl) ?_
                        refine lv_iload hx hb dL_holds_371 (lv_at hl 8 rfl) ?_
                        refine lv_iconst (v := 0) hx hb dL_holds_373 (by decide) ?_
                        refine zv_E (vx_runV (As := [.int (nI n), .int 0]) (rest := []) ⟨hx, hb, hml, hown, hts⟩ (zk_X2_weeksLeft l hfl D cA b rd x X N B (nI n) 0) (cwV 2 hts gL_holds_X2_weeksLeft rfl rfl rfl zy_X2_weeksLeft ⟨(Nat.le_of_ble_eq_true rfl), (Nat.le_of_ble_eq_true rfl)⟩) (zx_preVq (A := (zfr (xmW cA x b rd X N ++ (bkW (cA 0) (b 0) B)))) (ci := 2) (q0 := 0) hK hP hD hO hS (zD_fr hD) rfl rfl) rfl rfl hl.1 rfl (lv_room (Nat.le_of_ble_eq_true rfl)) dL_holds_374 ⟨Nat.le_of_ble_eq_true rfl, Nat.le_of_ble_eq_true rfl⟩) (zva_no ⟨⟨n, by omega, rfl⟩, ⟨by decide, by decide⟩, trivial⟩) rfl ?_
                        have sel_377 : ∀ (ls : Array Slot), lv_has ls 11 [(4, .int (y3_53 + (if (f_X2_memberOf B (nI n) 6) ≤ ((f_X2_memberOf B (nI n) 0) - y0_69) then (0 : Int32) else 1))), (3, .int (y2_53 + (if (f_X2_memberOf B (nI n) 6) ≤ 0 then (0 : Int32) else 1))), (2, .int (y1_53 + (f_X2_memberOf B (nI n) 6))), (1, .int (y0_53 + (f_X2_memberOf B (nI n) 0))), (10, .int (if ((f_X2_memberOf B (nI n) 6) - y1_69) ≤ 0 then (0 : Int32) else (f_X2_memberOf B (nI n) 6) - y1_69)), (9, .int (f_X2_memberOf B (nI n) 6)), (0, .ref (x 0)), (5, .int 1), (6, .int (nI n)), (7, .int y0_69), (8, .int y1_69)] → W p l e (headSpec wsL_holds (zrx 8 134 2 12)).room s m ([.ref (x 0)] : List Value).toArray below meth c s.heap [] 0 0 (MQ below (zE (some (.int 1))) ([.ref (x 0)] : List Value).toArray s 2 12 (fun _ => False)) (F0 m 385 ls [.int (if (f_X2_weeksLeft B (nI n) 0) = 0 then (1 : Int32) else 0)]) := by
                          intro ls hl
                          refine lv_iload hx hb dL_holds_385 (lv_at hl 5 rfl) ?_
                          have sel_387 : ∀ (ls : Array Slot), lv_has ls 11 [(4, .int (y3_53 + (if (f_X2_memberOf B (nI n) 6) ≤ ((f_X2_memberOf B (nI n) 0) - y0_69) then (0 : Int32) else 1))), (3, .int (y2_53 + (if (f_X2_memberOf B (nI n) 6) ≤ 0 then (0 : Int32) else 1))), (2, .int (y1_53 + (f_X2_memberOf B (nI n) 6))), (1, .int (y0_53 + (f_X2_memberOf B (nI n) 0))), (10, .int (if ((f_X2_memberOf B (nI n) 6) - y1_69) ≤ 0 then (0 : Int32) else (f_X2_memberOf B (nI n) 6) - y1_69)), (9, .int (f_X2_memberOf B (nI n) 6)), (0, .ref (x 0)), (5, .int 1), (6, .int (nI n)), (7, .int y0_69), (8, .int y1_69)] → W p l e (headSpec wsL_holds (zrx 8 134 2 12)).room s m ([.ref (x 0)] : List Value).toArray below meth c s.heap [] 0 0 (MQ below (zE (some (.int 1))) ([.ref (x 0)] : List Value).toArray s 2 12 (fun _ => False)) (F0 m 395 ls [.int (if (f_X2_memberOf B (nI n) 6) = 0 then (1 : Int32) else 0), .int (if (f_X2_weeksLeft B (nI n) 0) = 0 then (1 : Int32) else 0)]) := by
                            intro ls hl
                            refine lv_icmp_ne (tgt := 419) hx hb dL_holds_395 (by decide) (fun c_29 => by exact absurd (by subst q_y1_69 q_y0_69 q_y3_53 q_y2_53 q_y1_53 q_y0_53 hz_69; exact hf_395 _ (by omega)) c_29) (fun _ => ?_)
                            refine lv_aload_n hx hb dL_holds_398 rfl (lv_at hl 6 rfl) ?_
                            refine lv_iload hx hb dL_holds_399 (lv_at hl 8 rfl) ?_
                            refine lv_iconst (v := 0) hx hb dL_holds_401 (by decide) ?_
                            refine zv_E (vx_runV (As := [.int (nI n), .int 0]) (rest := []) ⟨hx, hb, hml, hown, hts⟩ (zk_X2_weeksLeft l hfl D cA b rd x X N B (nI n) 0) (cwV 2 hts gL_holds_X2_weeksLeft rfl rfl rfl zy_X2_weeksLeft ⟨(Nat.le_of_ble_eq_true rfl), (Nat.le_of_ble_eq_true rfl)⟩) (zx_preVq (A := (zfr (xmW cA x b rd X N ++ (bkW (cA 0) (b 0) B)))) (ci := 2) (q0 := 0) hK hP hD hO hS (zD_fr hD) rfl rfl) rfl rfl hl.1 rfl (lv_room (Nat.le_of_ble_eq_true rfl)) dL_holds_402 ⟨Nat.le_of_ble_eq_true rfl, Nat.le_of_ble_eq_true rfl⟩) (zva_no ⟨⟨n, by omega, rfl⟩, ⟨by decide, by decide⟩, trivial⟩) rfl ?_
                            refine lv_aload_n hx hb dL_holds_405 rfl (lv_at hl 6 rfl) ?_
                            refine lv_iload hx hb dL_holds_406 (lv_at hl 8 rfl) ?_
                            refine lv_iconst (v := 1) hx hb dL_holds_408 (by decide) ?_
                            refine zv_E (vx_runV (As := [.int (nI n), .int 1]) (rest := [.int (f_X2_weeksLeft B (nI n) 0)]) ⟨hx, hb, hml, hown, hts⟩ (zk_X2_weeksLeft l hfl D cA b rd x X N B (nI n) 1) (cwV 2 hts gL_holds_X2_weeksLeft rfl rfl rfl zy_X2_weeksLeft ⟨(Nat.le_of_ble_eq_true rfl), (Nat.le_of_ble_eq_true rfl)⟩) (zx_preVq (A := (zfr (xmW cA x b rd X N ++ (bkW (cA 0) (b 0) B)))) (ci := 2) (q0 := 0) hK hP hD hO hS (zD_fr hD) rfl rfl) rfl rfl hl.1 rfl (lv_room (Nat.le_of_ble_eq_true rfl)) dL_holds_409 ⟨Nat.le_of_ble_eq_true rfl, Nat.le_of_ble_eq_true rfl⟩) (zva_no ⟨⟨n, by omega, rfl⟩, ⟨by decide, by decide⟩, trivial⟩) rfl ?_
                            refine lv_icmp_ne (tgt := 419) hx hb dL_holds_412 (by decide) (fun c_30 => by exact absurd (by subst q_y1_69 q_y0_69 q_y3_53 q_y2_53 q_y1_53 q_y0_53 hz_69; exact hf_412 _ (by omega)) c_30) (fun _ => ?_)
                            refine lv_iconst (v := 1) hx hb dL_holds_415 (by decide) ?_
                            refine lv_goto (tgt := 420) hx hb dL_holds_416 (by decide) ?_
                            refine lv_istore (lv' := [(5, .int 1), (4, .int (y3_53 + (if (f_X2_memberOf B (nI n) 6) ≤ ((f_X2_memberOf B (nI n) 0) - y0_69) then (0 : Int32) else 1))), (3, .int (y2_53 + (if (f_X2_memberOf B (nI n) 6) ≤ 0 then (0 : Int32) else 1))), (2, .int (y1_53 + (f_X2_memberOf B (nI n) 6))), (1, .int (y0_53 + (f_X2_memberOf B (nI n) 0))), (10, .int (if ((f_X2_memberOf B (nI n) 6) - y1_69) ≤ 0 then (0 : Int32) else (f_X2_memberOf B (nI n) 6) - y1_69)), (9, .int (f_X2_memberOf B (nI n) 6)), (0, .ref (x 0)), (6, .int (nI n)), (7, .int y0_69), (8, .int y1_69)]) hx hb dL_holds_420 hl (by decide) rfl (fun ls hl => ?_)
                            refine lv_iinc (v := nI (n + 1)) (lv' := [(6, .int (nI (n + 1))), (5, .int 1), (4, .int (y3_53 + (if (f_X2_memberOf B (nI n) 6) ≤ ((f_X2_memberOf B (nI n) 0) - y0_69) then (0 : Int32) else 1))), (3, .int (y2_53 + (if (f_X2_memberOf B (nI n) 6) ≤ 0 then (0 : Int32) else 1))), (2, .int (y1_53 + (f_X2_memberOf B (nI n) 6))), (1, .int (y0_53 + (f_X2_memberOf B (nI n) 0))), (10, .int (if ((f_X2_memberOf B (nI n) 6) - y1_69) ≤ 0 then (0 : Int32) else (f_X2_memberOf B (nI n) 6) - y1_69)), (9, .int (f_X2_memberOf B (nI n) 6)), (0, .ref (x 0)), (7, .int y0_69), (8, .int y1_69)]) hx hb dL_holds_422 hl (k := 8) rfl (by rw [show (Int32.ofInt 1) = nI 1 from by decide]; exact nI_add n 1) (by decide) rfl (fun ls hl => ?_)
                            refine lv_goto (tgt := 53) hx hb dL_holds_425 (by decide) ?_
                            exact ih_53 (n + 1) _ _ _ _ (by omega) (by omega) (by subst q_y1_69 q_y0_69 q_y3_53 q_y2_53 q_y1_53 q_y0_53; first | (simp -proj only [f_L_holds_53, ← hz_69]; first | done | rfl; done) | rfl) (by subst q_y1_69 q_y0_69 q_y3_53 q_y2_53 q_y1_53 q_y0_53; first | (simp -proj only [f_L_holds_53, ← hz_69]; first | done | rfl; done) | rfl) (by subst q_y1_69 q_y0_69 q_y3_53 q_y2_53 q_y1_53 q_y0_53; first | (simp -proj only [f_L_holds_53, ← hz_69]; first | done | rfl; done) | rfl) (by subst q_y1_69 q_y0_69 q_y3_53 q_y2_53 q_y1_53 q_y0_53; first | (simp -proj only [f_L_holds_53, ← hz_69]; first | done | rfl; done) | rfl) ls (lv_sub hl [8, 1, 5, 4, 3, 2, 0] rfl)
                          refine lv_if_ne (tgt := 394) hx hb dL_holds_387 (by decide) (fun c_28 => ?_) (fun c_28 => ?_)
                          · refine lv_iconst (v := 0) hx hb dL_holds_394 (by decide) ?_
                            refine z_top (y := if (f_X2_memberOf B (nI n) 6) = 0 then (1 : Int32) else 0) (by rw [if_neg c_28]) ?_
                            exact sel_387 ls (lv_sub hl [0, 1, 2, 3, 4, 5, 6, 7, 8, 9, 10] rfl)
                          · refine lv_iconst (v := 1) hx hb dL_holds_390 (by decide) ?_
                            refine lv_goto (tgt := 395) hx hb dL_holds_391 (by decide) ?_
                            refine z_top (y := if (f_X2_memberOf B (nI n) 6) = 0 then (1 : Int32) else 0) (by rw [if_pos c_28]) ?_
                            exact sel_387 ls (lv_sub hl [0, 1, 2, 3, 4, 5, 6, 7, 8, 9, 10] rfl)
                        refine lv_if_ne (tgt := 384) hx hb dL_holds_377 (by decide) (fun c_27 => ?_) (fun c_27 => ?_)
                        · refine lv_iconst (v := 0) hx hb dL_holds_384 (by decide) ?_
                          refine z_top (y := if (f_X2_weeksLeft B (nI n) 0) = 0 then (1 : Int32) else 0) (by rw [if_neg c_27]) ?_
                          exact sel_377 ls (lv_sub hl [0, 1, 2, 3, 4, 5, 6, 7, 8, 9, 10] rfl)
                        · refine lv_iconst (v := 1) hx hb dL_holds_380 (by decide) ?_
                          refine lv_goto (tgt := 385) hx hb dL_holds_381 (by decide) ?_
                          refine z_top (y := if (f_X2_weeksLeft B (nI n) 0) = 0 then (1 : Int32) else 0) (by rw [if_pos c_27]) ?_
                          exact sel_377 ls (lv_sub hl [0, 1, 2, 3, 4, 5, 6, 7, 8, 9, 10] rfl)
                      refine lv_icmp_ne (tgt := 366) hx hb dL_holds_359 (by decide) (fun c_25 => ?_) (fun c_25 => ?_)
                      · refine lv_iconst (v := 0) hx hb dL_holds_366 (by decide) ?_
                        refine z_top (y := if (f_X2_memberOf B (nI n) 7) = (-1) then (1 : Int32) else 0) (by rw [if_neg c_25]) ?_
                        exact sel_359 ls (lv_sub hl [0, 1, 2, 3, 4, 5, 6, 7, 8, 9, 10] rfl)
                      · refine lv_iconst (v := 1) hx hb dL_holds_362 (by decide) ?_
                        refine lv_goto (tgt := 367) hx hb dL_holds_363 (by decide) ?_
                        refine z_top (y := if (f_X2_memberOf B (nI n) 7) = (-1) then (1 : Int32) else 0) (by rw [if_pos c_25]) ?_
                        exact sel_359 ls (lv_sub hl [0, 1, 2, 3, 4, 5, 6, 7, 8, 9, 10] rfl)
                    refine lv_if_ne (tgt := 349) hx hb dL_holds_342 (by decide) (fun c_24 => ?_) (fun c_24 => ?_)
                    · refine lv_iconst (v := 0) hx hb dL_holds_349 (by decide) ?_
                      refine z_top (y := if (f_X2_memberOf B (nI n) 6) = 0 then (1 : Int32) else 0) (by rw [if_neg c_24]) ?_
                      exact sel_342 ls (lv_sub hl [0, 1, 2, 3, 4, 5, 6, 7, 8, 9, 10] rfl)
                    · refine lv_iconst (v := 1) hx hb dL_holds_345 (by decide) ?_
                      refine lv_goto (tgt := 350) hx hb dL_holds_346 (by decide) ?_
                      refine z_top (y := if (f_X2_memberOf B (nI n) 6) = 0 then (1 : Int32) else 0) (by rw [if_pos c_24]) ?_
                      exact sel_342 ls (lv_sub hl [0, 1, 2, 3, 4, 5, 6, 7, 8, 9, 10] rfl)
                  refine lv_icmp_ge (tgt := 227) hx hb dL_holds_220 (by decide) (fun c_15 => ?_) (fun c_15 => ?_)
                  · refine lv_iconst (v := 0) hx hb dL_holds_227 (by decide) ?_
                    refine z_top (y := if (f_X2_memberOf B (nI n) 6) ≤ ((f_X2_memberOf B (nI n) 0) - y0_69) then (0 : Int32) else 1) (by rw [if_pos c_15]) ?_
                    exact sel_220 ls (lv_sub hl [0, 1, 2, 3, 4, 5, 6, 7, 8, 9, 10] rfl)
                  · refine lv_iconst (v := 1) hx hb dL_holds_223 (by decide) ?_
                    refine lv_goto (tgt := 228) hx hb dL_holds_224 (by decide) ?_
                    refine z_top (y := if (f_X2_memberOf B (nI n) 6) ≤ ((f_X2_memberOf B (nI n) 0) - y0_69) then (0 : Int32) else 1) (by rw [if_neg c_15]) ?_
                    exact sel_220 ls (lv_sub hl [0, 1, 2, 3, 4, 5, 6, 7, 8, 9, 10] rfl)
                refine lv_if_le (tgt := 203) hx hb dL_holds_196 (by decide) (fun c_14 => ?_) (fun c_14 => ?_)
                · refine lv_iconst (v := 0) hx hb dL_holds_203 (by decide) ?_
                  refine z_top (y := if (f_X2_memberOf B (nI n) 6) ≤ 0 then (0 : Int32) else 1) (by rw [if_pos c_14]) ?_
                  exact sel_196 ls (lv_sub hl [0, 1, 2, 3, 4, 5, 6, 7, 8, 9, 10] rfl)
                · refine lv_iconst (v := 1) hx hb dL_holds_199 (by decide) ?_
                  refine lv_goto (tgt := 204) hx hb dL_holds_200 (by decide) ?_
                  refine z_top (y := if (f_X2_memberOf B (nI n) 6) ≤ 0 then (0 : Int32) else 1) (by rw [if_neg c_14]) ?_
                  exact sel_196 ls (lv_sub hl [0, 1, 2, 3, 4, 5, 6, 7, 8, 9, 10] rfl)
              refine lv_if_le (tgt := 175) hx hb dL_holds_164 (by decide) (fun c_13 => ?_) (fun c_13 => ?_)
              · refine lv_iconst (v := 0) hx hb dL_holds_175 (by decide) ?_
                refine z_top (y := if ((f_X2_memberOf B (nI n) 6) - y1_69) ≤ 0 then (0 : Int32) else (f_X2_memberOf B (nI n) 6) - y1_69) (by rw [if_pos c_13]) ?_
                exact sel_164 ls (lv_sub hl [0, 1, 2, 3, 4, 5, 6, 7, 8, 9] rfl)
              · refine lv_iload hx hb dL_holds_167 (lv_at hl 0 rfl) ?_
                refine lv_iload hx hb dL_holds_169 (lv_at hl 9 rfl) ?_
                refine lv_isub hx hb dL_holds_171 ?_
                refine lv_goto (tgt := 176) hx hb dL_holds_172 (by decide) ?_
                refine z_top (y := if ((f_X2_memberOf B (nI n) 6) - y1_69) ≤ 0 then (0 : Int32) else (f_X2_memberOf B (nI n) 6) - y1_69) (by rw [if_neg c_13]) ?_
                exact sel_164 ls (lv_sub hl [0, 1, 2, 3, 4, 5, 6, 7, 8, 9] rfl)
            · have c_12 : ¬ 6 ≤ k := fun h9 => c_12 ((nI_leI (a := 6) (b := k) (by omega) (by omega)).mpr h9)
              refine lv_iload hx hb dL_holds_76 (lv_at hl 7 rfl) ?_
              refine lv_aload_n hx hb dL_holds_78 rfl (lv_at hl 0 rfl) ?_
              refine lv_iload hx hb dL_holds_79 (lv_at hl 6 rfl) ?_
              refine lv_iload hx hb dL_holds_81 (lv_at hl 9 rfl) ?_
              refine zv_E (vx_runV (As := [.int (nI n), .int (nI k)]) (rest := [.int y0_69]) ⟨hx, hb, hml, hown, hts⟩ (zk_X2_pledged l hfl D cA b rd x X N B (nI n) (nI k)) (cwV 2 hts gL_holds_X2_pledged rfl rfl rfl zy_X2_pledged ⟨(Nat.le_of_ble_eq_true rfl), (Nat.le_of_ble_eq_true rfl)⟩) (zx_preVq (A := (zfr (xmW cA x b rd X N ++ (bkW (cA 0) (b 0) B)))) (ci := 2) (q0 := 0) hK hP hD hO hS (zD_fr hD) rfl rfl) rfl rfl hl.1 rfl (lv_room (Nat.le_of_ble_eq_true rfl)) dL_holds_83 ⟨Nat.le_of_ble_eq_true rfl, Nat.le_of_ble_eq_true rfl⟩) (zva_no ⟨⟨n, by omega, rfl⟩, ⟨k, by omega, rfl⟩, trivial⟩) rfl ?_
              refine lv_iadd hx hb dL_holds_86 ?_
              refine lv_istore (lv' := [(7, .int (y0_69 + (f_X2_pledged B (nI n) (nI k)))), (0, .ref (x 0)), (1, .int y0_53), (2, .int y1_53), (3, .int y2_53), (4, .int y3_53), (5, .int 1), (6, .int (nI n)), (8, .int y1_69), (9, .int (nI k))]) hx hb dL_holds_87 hl (by decide) rfl (fun ls hl => ?_)
              refine lv_iload hx hb dL_holds_89 (lv_at hl 8 rfl) ?_
              refine lv_aload_n hx hb dL_holds_91 rfl (lv_at hl 1 rfl) ?_
              refine lv_iload hx hb dL_holds_92 (lv_at hl 9 rfl) ?_
              refine lv_iload hx hb dL_holds_94 (lv_at hl 7 rfl) ?_
              refine zv_E (vx_runV (As := [.int (nI k), .int (nI n)]) (rest := [.int y1_69]) ⟨hx, hb, hml, hown, hts⟩ (zk_X2_pledged l hfl D cA b rd x X N B (nI k) (nI n)) (cwV 2 hts gL_holds_X2_pledged rfl rfl rfl zy_X2_pledged ⟨(Nat.le_of_ble_eq_true rfl), (Nat.le_of_ble_eq_true rfl)⟩) (zx_preVq (A := (zfr (xmW cA x b rd X N ++ (bkW (cA 0) (b 0) B)))) (ci := 2) (q0 := 0) hK hP hD hO hS (zD_fr hD) rfl rfl) rfl rfl hl.1 rfl (lv_room (Nat.le_of_ble_eq_true rfl)) dL_holds_96 ⟨Nat.le_of_ble_eq_true rfl, Nat.le_of_ble_eq_true rfl⟩) (zva_no ⟨⟨k, by omega, rfl⟩, ⟨n, by omega, rfl⟩, trivial⟩) rfl ?_
              refine lv_iadd hx hb dL_holds_99 ?_
              refine lv_istore (lv' := [(8, .int (y1_69 + (f_X2_pledged B (nI k) (nI n)))), (7, .int (y0_69 + (f_X2_pledged B (nI n) (nI k)))), (0, .ref (x 0)), (1, .int y0_53), (2, .int y1_53), (3, .int y2_53), (4, .int y3_53), (5, .int 1), (6, .int (nI n)), (9, .int (nI k))]) hx hb dL_holds_100 hl (by decide) rfl (fun ls hl => ?_)
              refine lv_iload hx hb dL_holds_102 (lv_at hl 7 rfl) ?_
              refine lv_if_eq (tgt := 140) hx hb dL_holds_104 (by decide) (fun c_31 => absurd c_31 (by decide)) (fun _ => ?_)
              refine lv_aload_n hx hb dL_holds_107 rfl (lv_at hl 2 rfl) ?_
              refine lv_iload hx hb dL_holds_108 (lv_at hl 8 rfl) ?_
              refine lv_iload hx hb dL_holds_110 (lv_at hl 9 rfl) ?_
              refine zv_E (vx_runV (As := [.int (nI n), .int (nI k)]) (rest := []) ⟨hx, hb, hml, hown, hts⟩ (zk_X2_pledged l hfl D cA b rd x X N B (nI n) (nI k)) (cwV 2 hts gL_holds_X2_pledged rfl rfl rfl zy_X2_pledged ⟨(Nat.le_of_ble_eq_true rfl), (Nat.le_of_ble_eq_true rfl)⟩) (zx_preVq (A := (zfr (xmW cA x b rd X N ++ (bkW (cA 0) (b 0) B)))) (ci := 2) (q0 := 0) hK hP hD hO hS (zD_fr hD) rfl rfl) rfl rfl hl.1 rfl (lv_room (Nat.le_of_ble_eq_true rfl)) dL_holds_112 ⟨Nat.le_of_ble_eq_true rfl, Nat.le_of_ble_eq_true rfl⟩) (zva_no ⟨⟨n, by omega, rfl⟩, ⟨k, by omega, rfl⟩, trivial⟩) rfl ?_
              refine lv_if_lt (tgt := 140) hx hb dL_holds_115 (by decide) (fun c_32 => by exact absurd c_32 (by subst q_y1_69 q_y0_69 q_y3_53 q_y2_53 q_y1_53 q_y0_53; exact hf_115 _ (by omega) _ (by omega))) (fun _ => ?_)
              refine lv_iload hx hb dL_holds_118 (lv_at hl 9 rfl) ?_
              refine lv_iload hx hb dL_holds_120 (lv_at hl 8 rfl) ?_
              have sel_122 : ∀ (ls : Array Slot), lv_has ls 11 [(8, .int (y1_69 + (f_X2_pledged B (nI k) (nI n)))), (7, .int (y0_69 + (f_X2_pledged B (nI n) (nI k)))), (0, .ref (x 0)), (1, .int y0_53), (2, .int y1_53), (3, .int y2_53), (4, .int y3_53), (5, .int 1), (6, .int (nI n)), (9, .int (nI k))] → W p l e (headSpec wsL_holds (zrx 8 134 2 12)).room s m ([.ref (x 0)] : List Value).toArray below meth c s.heap [] 0 0 (MQ below (zE (some (.int 1))) ([.ref (x 0)] : List Value).toArray s 2 12 (fun _ => False)) (F0 m 136 ls []) := by
                intro ls hl
                refine lv_iconst (v := 1) hx hb dL_holds_136 (by decide) ?_
                refine lv_goto (tgt := 141) hx hb dL_holds_137 (by decide) ?_
                refine lv_istore (lv' := [(5, .int 1), (8, .int (y1_69 + (f_X2_pledged B (nI k) (nI n)))), (7, .int (y0_69 + (f_X2_pledged B (nI n) (nI k)))), (0, .ref (x 0)), (1, .int y0_53), (2, .int y1_53), (3, .int y2_53), (4, .int y3_53), (6, .int (nI n)), (9, .int (nI k))]) hx hb dL_holds_141 hl (by decide) rfl (fun ls hl => ?_)
                refine lv_iinc (v := nI (k + 1)) (lv' := [(9, .int (nI (k + 1))), (5, .int 1), (8, .int (y1_69 + (f_X2_pledged B (nI k) (nI n)))), (7, .int (y0_69 + (f_X2_pledged B (nI n) (nI k)))), (0, .ref (x 0)), (1, .int y0_53), (2, .int y1_53), (3, .int y2_53), (4, .int y3_53), (6, .int (nI n))]) hx hb dL_holds_143 hl (k := 9) rfl (by rw [show (Int32.ofInt 1) = nI 1 from by decide]; exact nI_add k 1) (by decide) rfl (fun ls hl => ?_)
                refine lv_goto (tgt := 69) hx hb dL_holds_146 (by decide) ?_
                exact ih_69 (k + 1) _ _ (by omega) (by omega) (by subst q_y1_69 q_y0_69 q_y3_53 q_y2_53 q_y1_53 q_y0_53; first | (simp -proj only [f_L_holds_69]; first | done | rfl; done) | rfl) (by subst q_y1_69 q_y0_69 q_y3_53 q_y2_53 q_y1_53 q_y0_53; first | (simp -proj only [f_L_holds_69]; first | done | rfl; done) | rfl) ls (lv_sub hl [4, 5, 6, 7, 8, 1, 9, 3, 2, 0] rfl)
              refine lv_icmp_ne (tgt := 136) hx hb dL_holds_122 (by decide) (fun c_33 => ?_) (fun c_33 => ?_)
              · have c_33 : ¬ k = n := fun h9 => c_33 ((nI_eq (a := k) (b := n) (by omega) (by omega)).mpr h9)
                exact sel_122 ls (lv_sub hl [0, 1, 2, 3, 4, 5, 6, 7, 8, 9] rfl)
              · have c_33 : k = n := (nI_eq (a := k) (b := n) (by omega) (by omega)).mp c_33
                refine lv_aload_n hx hb dL_holds_125 rfl (lv_at hl 2 rfl) ?_
                refine lv_iload hx hb dL_holds_126 (lv_at hl 8 rfl) ?_
                refine lv_iload hx hb dL_holds_128 (lv_at hl 9 rfl) ?_
                refine zv_E (vx_runV (As := [.int (nI n), .int (nI k)]) (rest := []) ⟨hx, hb, hml, hown, hts⟩ (zk_X2_pledged l hfl D cA b rd x X N B (nI n) (nI k)) (cwV 2 hts gL_holds_X2_pledged rfl rfl rfl zy_X2_pledged ⟨(Nat.le_of_ble_eq_true rfl), (Nat.le_of_ble_eq_true rfl)⟩) (zx_preVq (A := (zfr (xmW cA x b rd X N ++ (bkW (cA 0) (b 0) B)))) (ci := 2) (q0 := 0) hK hP hD hO hS (zD_fr hD) rfl rfl) rfl rfl hl.1 rfl (lv_room (Nat.le_of_ble_eq_true rfl)) dL_holds_130 ⟨Nat.le_of_ble_eq_true rfl, Nat.le_of_ble_eq_true rfl⟩) (zva_no ⟨⟨n, by omega, rfl⟩, ⟨k, by omega, rfl⟩, trivial⟩) rfl ?_
                refine lv_if_ne (tgt := 140) hx hb dL_holds_133 (by decide) (fun c_34 => by exact absurd (by subst q_y1_69 q_y0_69 q_y3_53 q_y2_53 q_y1_53 q_y0_53; exact hf_133 _ (by omega) _ (by omega) c_33) c_34) (fun _ => ?_)
                exact sel_122 ls (lv_sub hl [0, 1, 2, 3, 4, 5, 6, 7, 8, 9] rfl)
        exact loop_69 _ 0 _ _ (by omega) (Nat.lt_succ_self _) rfl rfl ls (lv_sub hl [3, 5, 6, 7, 8, 4, 9, 2, 1, 0] rfl)
  exact loop_53 _ 0 _ _ _ _ (by omega) (Nat.lt_succ_self _) rfl rfl rfl rfl ls (lv_sub hl [6, 1, 5, 4, 3, 2, 0] rfl)

