/-! the law: isAhead -/
theorem zy_L_isAhead : yL_isAhead.cls = RL ∧ yL_isAhead.cls ≠ "java/lang/invoke/MethodHandle" ∧ yL_isAhead.cls ≠ "java/lang/invoke/VarHandle" ∧ (parseMethodDescriptor yL_isAhead.desc).map (fun d => d.parameters.length) = some 3 := by decide +kernel
def f_L_isAhead (X : BK) (B : BK) (mb : Nat) (am : Nat) : BK :=
  ((f_X2_guarantors ((f_X2_guarantors ((f_X2_guarantors X B (nI mb) (nI am) 0).2) B (nI mb) (nI (if 9999 ≤ am then (am : Nat) else am + 1)) 0).2) B (nI mb) (nI am) 1).2)

def zF_isAhead (X : BK) (B : BK) (mb : Nat) (am : Nat) : Prop :=
  (((f_X2_greatest B (nI mb) 0) = (f_X2_greatest B (nI mb) 1))) ∧
  (((if (f_X2_whyNot B (nI mb) (nI am)) = 0 then (1 : Int32) else 0) = (if (f_X2_greatest B (nI mb) 0) < (nI am) then (0 : Int32) else 1))) ∧
  ((¬ ((f_X2_greatest B (nI mb) 0) = 0)) → (zrg (f_X2_greatest B (nI mb) 0) 1 9999)) ∧
  ((¬ ((f_X2_greatest B (nI mb) 0) = 0)) → ((f_X2_whyNot B (nI mb) (f_X2_greatest B (nI mb) 0)) = 0)) ∧
  ((¬ ((f_X2_greatest B (nI mb) 0) = 9999)) → (zrg ((f_X2_greatest B (nI mb) 0) + 1) 1 9999)) ∧
  ((¬ ((f_X2_greatest B (nI mb) 0) = 9999)) → (¬ ((f_X2_whyNot B (nI mb) ((f_X2_greatest B (nI mb) 0) + 1)) ≤ 0))) ∧
  ((((f_X2_guarantors X B (nI mb) (nI am) 0).1) = ((f_X2_guarantors ((f_X2_guarantors ((f_X2_guarantors X B (nI mb) (nI am) 0).2) B (nI mb) (nI (if 9999 ≤ am then (am : Nat) else am + 1)) 0).2) B (nI mb) (nI am) 1).1))) ∧
  (((if ((f_X2_guarantors X B (nI mb) (nI am) 0).1) = 0 then (1 : Int32) else 0) = (if (f_X2_memberOf B (nI mb) 3) < (nI am) then (0 : Int32) else 1))) ∧
  ((¬ (((f_X2_guarantors X B (nI mb) (nI am) 0).1) = (-1))) → (¬ (((f_X2_guarantors ((f_X2_guarantors X B (nI mb) (nI am) 0).2) B (nI mb) (nI (if 9999 ≤ am then (am : Nat) else am + 1)) 0).1) = (-1))) → (¬ (((f_X2_guarantors ((f_X2_guarantors X B (nI mb) (nI am) 0).2) B (nI mb) (nI (if 9999 ≤ am then (am : Nat) else am + 1)) 0).1) < ((f_X2_guarantors X B (nI mb) (nI am) 0).1)))) ∧
  ((((f_X2_guarantors X B (nI mb) (nI am) 0).1) = (-1)) → (((f_X2_guarantors ((f_X2_guarantors X B (nI mb) (nI am) 0).2) B (nI mb) (nI (if 9999 ≤ am then (am : Nat) else am + 1)) 0).1) = (-1))) ∧
  ((¬ (5 < ((f_X2_guarantors X B (nI mb) (nI am) 0).1))))
set_option maxHeartbeats 4000000 in
set_option maxRecDepth 100000 in
theorem zc_L_isAhead (l : Launch) (hfl : l.stackTraces = false) (D : va_G) (cA : Nat → ClassId) (b : Nat → Nat → Nat) (rd : Nat) (x : Nat → Nat) (X : BK) (N : NK) (B : BK) (mb : Nat) (am : Nat) (hmb : mb < 6) (ham : am < 10000) (ham1 : 1 ≤ am) (hF : zF_isAhead X B mb am) : Met l yL_isAhead wsL_isAhead (zrx 9 155 11 66) (zPx D cA [.ref (x 0), .int (nI mb), .int (nI am)] (xmW cA x b rd X N ++ (bkW (cA 0) (b 0) B))) (zM D (xmW cA x b rd X N ++ (bkW (cA 0) (b 0) B)) (xmW cA x b rd (f_L_isAhead X B mb am) N ++ (bkW (cA 0) (b 0) B)) (some (.int 1))) 11 66 (zfr (xmW cA x b rd X N ++ (bkW (cA 0) (b 0) B))) := by
  obtain ⟨hf_45, hf_72, hf_82, hf_85, hf_100, hf_103, hf_127, hf_155, hf_183, hf_167, hf_189⟩ := hF
  refine Met.ofW (cc := cL_isAhead) (maxL := 7) (ret := (some .boolean)) (by decide) rfl ?_
  intro p e s m args below meth c s₁ Bd hml hv
  obtain ⟨rfl, hP, hK, hD0, hO⟩ := hv
  have hx := Bd.exec
  have hb := Bd.bytes
  have hr := Bd.returns
  have hts := atoms_spec (ws := wsL_isAhead) Bd.pre
  have hown : s.vm.findClass RL = some m.cls := findClass_of_methodNamed Bd.named
  have hlocks := Bd.notSynchronized
  have hD := z_Dfr hD0
  have hS : va_S (zfr (xmW cA x b rd X N ++ (bkW (cA 0) (b 0) B))) s.heap s.heap [] := va_S.rf
  have hl := lv_entry ([.ref (x 0), .int (nI mb), .int (nI am)]) (n := 7) (Nat.le_of_ble_eq_true rfl)
  rw [lg_entry_eq]
  generalize (lg_sl ([.ref (x 0), .int (nI mb), .int (nI am)]) ++ List.replicate (7 - (lg_sl ([.ref (x 0), .int (nI mb), .int (nI am)])).length) Slot.unset).toArray = ls at hl ⊢
  have hl : lv_has ls 7 [(0, .ref (x 0)), (1, .int (nI mb)), (2, .int (nI am))] := hl
  refine lv_aload_n hx hb dL_isAhead_0 rfl (lv_at hl 0 rfl) ?_
  refine lv_iload_n hx hb dL_isAhead_1 rfl (lv_at hl 1 rfl) ?_
  refine lv_iconst (v := 0) hx hb dL_isAhead_2 (by decide) ?_
  refine zv_E (vx_runV (As := [.int (nI mb), .int 0]) (rest := []) ⟨hx, hb, hml, hown, hts⟩ (zk_X2_greatest l hfl D cA b rd x X N B (nI mb) 0) (cwV 2 hts gL_isAhead_X2_greatest rfl rfl rfl zy_X2_greatest ⟨(Nat.le_of_ble_eq_true rfl), (Nat.le_of_ble_eq_true rfl)⟩) (zx_preVq (A := (zfr (xmW cA x b rd X N ++ (bkW (cA 0) (b 0) B)))) (ci := 2) (q0 := 0) hK hP hD hO hS (zD_fr hD) rfl rfl) rfl rfl hl.1 rfl (lv_room (Nat.le_of_ble_eq_true rfl)) dL_isAhead_3 ⟨Nat.le_of_ble_eq_true rfl, Nat.le_of_ble_eq_true rfl⟩) (zva_no ⟨⟨mb, by omega, rfl⟩, ⟨by decide, by decide⟩, trivial⟩) rfl ?_
  refine lv_istore_n (lv' := [(3, .int (f_X2_greatest B (nI mb) 0)), (0, .ref (x 0)), (1, .int (nI mb)), (2, .int (nI am))]) hx hb dL_isAhead_6 rfl hl (by decide) rfl (fun ls hl => ?_)
  refine lv_aload_n hx hb dL_isAhead_7 rfl (lv_at hl 1 rfl) ?_
  refine lv_iload_n hx hb dL_isAhead_8 rfl (lv_at hl 2 rfl) ?_
  refine lv_iload_n hx hb dL_isAhead_9 rfl (lv_at hl 3 rfl) ?_
  refine lv_iconst (v := 0) hx hb dL_isAhead_10 (by decide) ?_
  refine zv_M (X := ([] : va_W)) (Z := ([] : va_W)) (vx_runV (As := [.int (nI mb), .int (nI am), .int 0]) (rest := []) ⟨hx, hb, hml, hown, hts⟩ (zk_X2_guarantors l hfl D cA b rd x X N B (nI mb) (nI am) 0) (cwV 3 hts gL_isAhead_X2_guarantors rfl rfl rfl zy_X2_guarantors ⟨(Nat.le_of_ble_eq_true rfl), (Nat.le_of_ble_eq_true rfl)⟩) (zx_preVq (A := (zfr (xmW cA x b rd X N ++ (bkW (cA 0) (b 0) B)))) (ci := 2) (q0 := 0) hK hP hD hO hS (zD_fr hD) rfl rfl) rfl rfl hl.1 rfl (lv_room (Nat.le_of_ble_eq_true rfl)) dL_isAhead_11 ⟨Nat.le_of_ble_eq_true rfl, Nat.le_of_ble_eq_true rfl⟩) (zva_no ⟨⟨mb, by omega, rfl⟩, (zrgN (a := 1) (b := 9999) (by omega) (by omega) (by omega)), ⟨by decide, by decide⟩, trivial⟩) hP hD hS (z_adr2 xmW_adr bkW_adr) rfl (fun H locs hP9 hD9 hS9 => ?_)
  replace hP : va_P D vwCl (xmW cA x b rd ((f_X2_guarantors X B (nI mb) (nI am) 0).2) N ++ (bkW (cA 0) (b 0) B)) H := hP9
  replace hD : va_D _ (xmW cA x b rd ((f_X2_guarantors X B (nI mb) (nI am) 0).2) N ++ (bkW (cA 0) (b 0) B)) := hD9
  replace hS := hS9
  clear hP9 hD9 hS9
  refine lv_istore (lv' := [(4, .int ((f_X2_guarantors X B (nI mb) (nI am) 0).1)), (3, .int (f_X2_greatest B (nI mb) 0)), (0, .ref (x 0)), (1, .int (nI mb)), (2, .int (nI am))]) hx hb dL_isAhead_14 hl (by decide) rfl (fun ls hl => ?_)
  refine lv_aload_n hx hb dL_isAhead_16 rfl (lv_at hl 2 rfl) ?_
  refine lv_iload_n hx hb dL_isAhead_17 rfl (lv_at hl 3 rfl) ?_
  refine lv_iload_n hx hb dL_isAhead_18 rfl (lv_at hl 4 rfl) ?_
  refine lv_sipush (v := 9999) hx hb dL_isAhead_19 (by decide) ?_
  have sel_22 : ∀ (ls : Array Slot), lv_has ls 7 [(4, .int ((f_X2_guarantors X B (nI mb) (nI am) 0).1)), (3, .int (f_X2_greatest B (nI mb) 0)), (0, .ref (x 0)), (1, .int (nI mb)), (2, .int (nI am))] → W p l e (headSpec wsL_isAhead (zrx 9 155 11 66)).room s m ([.ref (x 0), .int (nI mb), .int (nI am)] : List Value).toArray below meth c H locs 3 18 (MQ below (zM D (xmW cA x b rd X N ++ (bkW (cA 0) (b 0) B)) (xmW cA x b rd (f_L_isAhead X B mb am) N ++ (bkW (cA 0) (b 0) B)) (some (.int 1))) ([.ref (x 0), .int (nI mb), .int (nI am)] : List Value).toArray s 11 66 (zfr (xmW cA x b rd X N ++ (bkW (cA 0) (b 0) B)))) (F0 m 32 ls [.int (nI (if 9999 ≤ am then (am : Nat) else am + 1)), .int (nI mb), .ref (x 0)]) := by
    intro ls hl
    refine lv_iconst (v := 0) hx hb dL_isAhead_32 (by decide) ?_
    refine zv_M (X := ([] : va_W)) (Z := ([] : va_W)) (vx_runV (As := [.int (nI mb), .int (nI (if 9999 ≤ am then (am : Nat) else am + 1)), .int 0]) (rest := []) ⟨hx, hb, hml, hown, hts⟩ (zk_X2_guarantors l hfl D cA b rd x ((f_X2_guarantors X B (nI mb) (nI am) 0).2) N B (nI mb) (nI (if 9999 ≤ am then (am : Nat) else am + 1)) 0) (cwV 3 hts gL_isAhead_X2_guarantors rfl rfl rfl zy_X2_guarantors ⟨(Nat.le_of_ble_eq_true rfl), (Nat.le_of_ble_eq_true rfl)⟩) (zx_preVq (A := (zfr (xmW cA x b rd X N ++ (bkW (cA 0) (b 0) B)))) (ci := 2) (q0 := 0) hK hP hD hO hS (zD_fr hD) rfl rfl) rfl rfl hl.1 rfl (lv_room (Nat.le_of_ble_eq_true rfl)) dL_isAhead_33 ⟨Nat.le_of_ble_eq_true rfl, Nat.le_of_ble_eq_true rfl⟩) (zva_no ⟨⟨mb, by omega, rfl⟩, (zrgN (a := 1) (b := 9999) (by split <;> omega) (by split <;> omega) (by omega)), ⟨by decide, by decide⟩, trivial⟩) hP hD hS (z_adr2 xmW_adr bkW_adr) rfl (fun H locs hP9 hD9 hS9 => ?_)
    replace hP : va_P D vwCl (xmW cA x b rd ((f_X2_guarantors ((f_X2_guarantors X B (nI mb) (nI am) 0).2) B (nI mb) (nI (if 9999 ≤ am then (am : Nat) else am + 1)) 0).2) N ++ (bkW (cA 0) (b 0) B)) H := hP9
    replace hD : va_D _ (xmW cA x b rd ((f_X2_guarantors ((f_X2_guarantors X B (nI mb) (nI am) 0).2) B (nI mb) (nI (if 9999 ≤ am then (am : Nat) else am + 1)) 0).2) N ++ (bkW (cA 0) (b 0) B)) := hD9
    replace hS := hS9
    clear hP9 hD9 hS9
    refine lv_istore (lv' := [(5, .int ((f_X2_guarantors ((f_X2_guarantors X B (nI mb) (nI am) 0).2) B (nI mb) (nI (if 9999 ≤ am then (am : Nat) else am + 1)) 0).1)), (4, .int ((f_X2_guarantors X B (nI mb) (nI am) 0).1)), (3, .int (f_X2_greatest B (nI mb) 0)), (0, .ref (x 0)), (1, .int (nI mb)), (2, .int (nI am))]) hx hb dL_isAhead_36 hl (by decide) rfl (fun ls hl => ?_)
    refine lv_iload_n hx hb dL_isAhead_38 rfl (lv_at hl 2 rfl) ?_
    refine lv_aload_n hx hb dL_isAhead_39 rfl (lv_at hl 3 rfl) ?_
    refine lv_iload_n hx hb dL_isAhead_40 rfl (lv_at hl 4 rfl) ?_
    refine lv_iconst (v := 1) hx hb dL_isAhead_41 (by decide) ?_
    refine zv_E (vx_runV (As := [.int (nI mb), .int 1]) (rest := [.int (f_X2_greatest B (nI mb) 0)]) ⟨hx, hb, hml, hown, hts⟩ (zk_X2_greatest l hfl D cA b rd x ((f_X2_guarantors ((f_X2_guarantors X B (nI mb) (nI am) 0).2) B (nI mb) (nI (if 9999 ≤ am then (am : Nat) else am + 1)) 0).2) N B (nI mb) 1) (cwV 2 hts gL_isAhead_X2_greatest rfl rfl rfl zy_X2_greatest ⟨(Nat.le_of_ble_eq_true rfl), (Nat.le_of_ble_eq_true rfl)⟩) (zx_preVq (A := (zfr (xmW cA x b rd X N ++ (bkW (cA 0) (b 0) B)))) (ci := 2) (q0 := 0) hK hP hD hO hS (zD_fr hD) rfl rfl) rfl rfl hl.1 rfl (lv_room (Nat.le_of_ble_eq_true rfl)) dL_isAhead_42 ⟨Nat.le_of_ble_eq_true rfl, Nat.le_of_ble_eq_true rfl⟩) (zva_no ⟨⟨mb, by omega, rfl⟩, ⟨by decide, by decide⟩, trivial⟩) rfl ?_
    refine lv_icmp_ne (tgt := 110) hx hb dL_isAhead_45 (by decide) (fun c_2 => by exact absurd (hf_45) c_2) (fun _ => ?_)
    refine lv_aload_n hx hb dL_isAhead_48 rfl (lv_at hl 3 rfl) ?_
    refine lv_iload_n hx hb dL_isAhead_49 rfl (lv_at hl 4 rfl) ?_
    refine lv_iload_n hx hb dL_isAhead_50 rfl (lv_at hl 5 rfl) ?_
    refine zv_E (vx_runV (As := [.int (nI mb), .int (nI am)]) (rest := []) ⟨hx, hb, hml, hown, hts⟩ (zk_X2_whyNot l hfl D cA b rd x ((f_X2_guarantors ((f_X2_guarantors X B (nI mb) (nI am) 0).2) B (nI mb) (nI (if 9999 ≤ am then (am : Nat) else am + 1)) 0).2) N B (nI mb) (nI am)) (cwV 2 hts gL_isAhead_X2_whyNot rfl rfl rfl zy_X2_whyNot ⟨(Nat.le_of_ble_eq_true rfl), (Nat.le_of_ble_eq_true rfl)⟩) (zx_preVq (A := (zfr (xmW cA x b rd X N ++ (bkW (cA 0) (b 0) B)))) (ci := 2) (q0 := 0) hK hP hD hO hS (zD_fr hD) rfl rfl) rfl rfl hl.1 rfl (lv_room (Nat.le_of_ble_eq_true rfl)) dL_isAhead_51 ⟨Nat.le_of_ble_eq_true rfl, Nat.le_of_ble_eq_true rfl⟩) (zva_no ⟨⟨mb, by omega, rfl⟩, (zrgN (a := 1) (b := 9999) (by omega) (by omega) (by omega)), trivial⟩) rfl ?_
    have sel_54 : ∀ (ls : Array Slot), lv_has ls 7 [(5, .int ((f_X2_guarantors ((f_X2_guarantors X B (nI mb) (nI am) 0).2) B (nI mb) (nI (if 9999 ≤ am then (am : Nat) else am + 1)) 0).1)), (4, .int ((f_X2_guarantors X B (nI mb) (nI am) 0).1)), (3, .int (f_X2_greatest B (nI mb) 0)), (0, .ref (x 0)), (1, .int (nI mb)), (2, .int (nI am))] → W p l e (headSpec wsL_isAhead (zrx 9 155 11 66)).room s m ([.ref (x 0), .int (nI mb), .int (nI am)] : List Value).toArray below meth c H locs 6 36 (MQ below (zM D (xmW cA x b rd X N ++ (bkW (cA 0) (b 0) B)) (xmW cA x b rd (f_L_isAhead X B mb am) N ++ (bkW (cA 0) (b 0) B)) (some (.int 1))) ([.ref (x 0), .int (nI mb), .int (nI am)] : List Value).toArray s 11 66 (zfr (xmW cA x b rd X N ++ (bkW (cA 0) (b 0) B)))) (F0 m 62 ls [.int (if (f_X2_whyNot B (nI mb) (nI am)) = 0 then (1 : Int32) else 0)]) := by
      intro ls hl
      refine lv_iload_n hx hb dL_isAhead_62 rfl (lv_at hl 5 rfl) ?_
      refine lv_iload_n hx hb dL_isAhead_63 rfl (lv_at hl 2 rfl) ?_
      have sel_64 : ∀ (ls : Array Slot), lv_has ls 7 [(5, .int ((f_X2_guarantors ((f_X2_guarantors X B (nI mb) (nI am) 0).2) B (nI mb) (nI (if 9999 ≤ am then (am : Nat) else am + 1)) 0).1)), (4, .int ((f_X2_guarantors X B (nI mb) (nI am) 0).1)), (3, .int (f_X2_greatest B (nI mb) 0)), (0, .ref (x 0)), (1, .int (nI mb)), (2, .int (nI am))] → W p l e (headSpec wsL_isAhead (zrx 9 155 11 66)).room s m ([.ref (x 0), .int (nI mb), .int (nI am)] : List Value).toArray below meth c H locs 6 36 (MQ below (zM D (xmW cA x b rd X N ++ (bkW (cA 0) (b 0) B)) (xmW cA x b rd (f_L_isAhead X B mb am) N ++ (bkW (cA 0) (b 0) B)) (some (.int 1))) ([.ref (x 0), .int (nI mb), .int (nI am)] : List Value).toArray s 11 66 (zfr (xmW cA x b rd X N ++ (bkW (cA 0) (b 0) B)))) (F0 m 72 ls [.int (if (f_X2_greatest B (nI mb) 0) < (nI am) then (0 : Int32) else 1), .int (if (f_X2_whyNot B (nI mb) (nI am)) = 0 then (1 : Int32) else 0)]) := by
        intro ls hl
        refine lv_icmp_ne (tgt := 110) hx hb dL_isAhead_72 (by decide) (fun c_5 => by exact absurd (hf_72) c_5) (fun _ => ?_)
        refine lv_iload_n hx hb dL_isAhead_75 rfl (lv_at hl 2 rfl) ?_
        have sel_76 : ∀ (ls : Array Slot), lv_has ls 7 [(5, .int ((f_X2_guarantors ((f_X2_guarantors X B (nI mb) (nI am) 0).2) B (nI mb) (nI (if 9999 ≤ am then (am : Nat) else am + 1)) 0).1)), (4, .int ((f_X2_guarantors X B (nI mb) (nI am) 0).1)), (3, .int (f_X2_greatest B (nI mb) 0)), (0, .ref (x 0)), (1, .int (nI mb)), (2, .int (nI am))] → W p l e (headSpec wsL_isAhead (zrx 9 155 11 66)).room s m ([.ref (x 0), .int (nI mb), .int (nI am)] : List Value).toArray below meth c H locs 6 36 (MQ below (zM D (xmW cA x b rd X N ++ (bkW (cA 0) (b 0) B)) (xmW cA x b rd (f_L_isAhead X B mb am) N ++ (bkW (cA 0) (b 0) B)) (some (.int 1))) ([.ref (x 0), .int (nI mb), .int (nI am)] : List Value).toArray s 11 66 (zfr (xmW cA x b rd X N ++ (bkW (cA 0) (b 0) B)))) (F0 m 88 ls []) := by
          intro ls hl
          refine lv_iload_n hx hb dL_isAhead_88 rfl (lv_at hl 2 rfl) ?_
          refine lv_sipush (v := 9999) hx hb dL_isAhead_89 (by decide) ?_
          have sel_92 : ∀ (ls : Array Slot), lv_has ls 7 [(5, .int ((f_X2_guarantors ((f_X2_guarantors X B (nI mb) (nI am) 0).2) B (nI mb) (nI (if 9999 ≤ am then (am : Nat) else am + 1)) 0).1)), (4, .int ((f_X2_guarantors X B (nI mb) (nI am) 0).1)), (3, .int (f_X2_greatest B (nI mb) 0)), (0, .ref (x 0)), (1, .int (nI mb)), (2, .int (nI am))] → W p l e (headSpec wsL_isAhead (zrx 9 155 11 66)).room s m ([.ref (x 0), .int (nI mb), .int (nI am)] : List Value).toArray below meth c H locs 6 36 (MQ below (zM D (xmW cA x b rd X N ++ (bkW (cA 0) (b 0) B)) (xmW cA x b rd (f_L_isAhead X B mb am) N ++ (bkW (cA 0) (b 0) B)) (some (.int 1))) ([.ref (x 0), .int (nI mb), .int (nI am)] : List Value).toArray s 11 66 (zfr (xmW cA x b rd X N ++ (bkW (cA 0) (b 0) B)))) (F0 m 106 ls []) := by
            intro ls hl
            refine lv_iconst (v := 1) hx hb dL_isAhead_106 (by decide) ?_
            refine lv_goto (tgt := 111) hx hb dL_isAhead_107 (by decide) ?_
            refine lv_istore (lv' := [(6, .int 1), (5, .int ((f_X2_guarantors ((f_X2_guarantors X B (nI mb) (nI am) 0).2) B (nI mb) (nI (if 9999 ≤ am then (am : Nat) else am + 1)) 0).1)), (4, .int ((f_X2_guarantors X B (nI mb) (nI am) 0).1)), (3, .int (f_X2_greatest B (nI mb) 0)), (0, .ref (x 0)), (1, .int (nI mb)), (2, .int (nI am))]) hx hb dL_isAhead_111 hl (by decide) rfl (fun ls hl => ?_)
            refine lv_iload hx hb dL_isAhead_113 (lv_at hl 0 rfl) ?_
            refine lv_if_eq (tgt := 196) hx hb dL_isAhead_115 (by decide) (fun c_10 => absurd c_10 (by decide)) (fun _ => ?_)
            refine lv_iload hx hb dL_isAhead_118 (lv_at hl 2 rfl) ?_
            refine lv_aload_n hx hb dL_isAhead_120 rfl (lv_at hl 4 rfl) ?_
            refine lv_iload_n hx hb dL_isAhead_121 rfl (lv_at hl 5 rfl) ?_
            refine lv_iload_n hx hb dL_isAhead_122 rfl (lv_at hl 6 rfl) ?_
            refine lv_iconst (v := 1) hx hb dL_isAhead_123 (by decide) ?_
            refine zv_M (X := ([] : va_W)) (Z := ([] : va_W)) (vx_runV (As := [.int (nI mb), .int (nI am), .int 1]) (rest := [.int ((f_X2_guarantors X B (nI mb) (nI am) 0).1)]) ⟨hx, hb, hml, hown, hts⟩ (zk_X2_guarantors l hfl D cA b rd x ((f_X2_guarantors ((f_X2_guarantors X B (nI mb) (nI am) 0).2) B (nI mb) (nI (if 9999 ≤ am then (am : Nat) else am + 1)) 0).2) N B (nI mb) (nI am) 1) (cwV 3 hts gL_isAhead_X2_guarantors rfl rfl rfl zy_X2_guarantors ⟨(Nat.le_of_ble_eq_true rfl), (Nat.le_of_ble_eq_true rfl)⟩) (zx_preVq (A := (zfr (xmW cA x b rd X N ++ (bkW (cA 0) (b 0) B)))) (ci := 2) (q0 := 0) hK hP hD hO hS (zD_fr hD) rfl rfl) rfl rfl hl.1 rfl (lv_room (Nat.le_of_ble_eq_true rfl)) dL_isAhead_124 ⟨Nat.le_of_ble_eq_true rfl, Nat.le_of_ble_eq_true rfl⟩) (zva_no ⟨⟨mb, by omega, rfl⟩, (zrgN (a := 1) (b := 9999) (by omega) (by omega) (by omega)), ⟨by decide, by decide⟩, trivial⟩) hP hD hS (z_adr2 xmW_adr bkW_adr) rfl (fun H locs hP9 hD9 hS9 => ?_)
            replace hP : va_P D vwCl (xmW cA x b rd ((f_X2_guarantors ((f_X2_guarantors ((f_X2_guarantors X B (nI mb) (nI am) 0).2) B (nI mb) (nI (if 9999 ≤ am then (am : Nat) else am + 1)) 0).2) B (nI mb) (nI am) 1).2) N ++ (bkW (cA 0) (b 0) B)) H := hP9
            replace hD : va_D _ (xmW cA x b rd ((f_X2_guarantors ((f_X2_guarantors ((f_X2_guarantors X B (nI mb) (nI am) 0).2) B (nI mb) (nI (if 9999 ≤ am then (am : Nat) else am + 1)) 0).2) B (nI mb) (nI am) 1).2) N ++ (bkW (cA 0) (b 0) B)) := hD9
            replace hS := hS9
            clear hP9 hD9 hS9
            refine lv_icmp_ne (tgt := 196) hx hb dL_isAhead_127 (by decide) (fun c_11 => by exact absurd (hf_127) c_11) (fun _ => ?_)
            refine lv_iload hx hb dL_isAhead_130 (lv_at hl 2 rfl) ?_
            have sel_132 : ∀ (ls : Array Slot), lv_has ls 7 [(6, .int 1), (5, .int ((f_X2_guarantors ((f_X2_guarantors X B (nI mb) (nI am) 0).2) B (nI mb) (nI (if 9999 ≤ am then (am : Nat) else am + 1)) 0).1)), (4, .int ((f_X2_guarantors X B (nI mb) (nI am) 0).1)), (3, .int (f_X2_greatest B (nI mb) 0)), (0, .ref (x 0)), (1, .int (nI mb)), (2, .int (nI am))] → W p l e (headSpec wsL_isAhead (zrx 9 155 11 66)).room s m ([.ref (x 0), .int (nI mb), .int (nI am)] : List Value).toArray below meth c H locs 9 54 (MQ below (zM D (xmW cA x b rd X N ++ (bkW (cA 0) (b 0) B)) (xmW cA x b rd (f_L_isAhead X B mb am) N ++ (bkW (cA 0) (b 0) B)) (some (.int 1))) ([.ref (x 0), .int (nI mb), .int (nI am)] : List Value).toArray s 11 66 (zfr (xmW cA x b rd X N ++ (bkW (cA 0) (b 0) B)))) (F0 m 140 ls [.int (if ((f_X2_guarantors X B (nI mb) (nI am) 0).1) = 0 then (1 : Int32) else 0)]) := by
              intro ls hl
              refine lv_aload_n hx hb dL_isAhead_140 rfl (lv_at hl 4 rfl) ?_
              refine lv_iload_n hx hb dL_isAhead_141 rfl (lv_at hl 5 rfl) ?_
              refine lv_iconst (v := 3) hx hb dL_isAhead_142 (by decide) ?_
              refine zv_E (vx_runV (As := [.int (nI mb), .int 3]) (rest := [.int (if ((f_X2_guarantors X B (nI mb) (nI am) 0).1) = 0 then (1 : Int32) else 0)]) ⟨hx, hb, hml, hown, hts⟩ (zk_X2_memberOf l hfl D cA b rd x ((f_X2_guarantors ((f_X2_guarantors ((f_X2_guarantors X B (nI mb) (nI am) 0).2) B (nI mb) (nI (if 9999 ≤ am then (am : Nat) else am + 1)) 0).2) B (nI mb) (nI am) 1).2) N B (nI mb) 3) (cwV 2 hts gL_isAhead_X2_memberOf rfl rfl rfl zy_X2_memberOf ⟨(Nat.le_of_ble_eq_true rfl), (Nat.le_of_ble_eq_true rfl)⟩) (zx_preVq (A := (zfr (xmW cA x b rd X N ++ (bkW (cA 0) (b 0) B)))) (ci := 2) (q0 := 0) hK hP hD hO hS (zD_fr hD) rfl rfl) rfl rfl hl.1 rfl (lv_room (Nat.le_of_ble_eq_true rfl)) dL_isAhead_143 ⟨Nat.le_of_ble_eq_true rfl, Nat.le_of_ble_eq_true rfl⟩) (zva_no ⟨⟨mb, by omega, rfl⟩, ⟨by decide, by decide⟩, trivial⟩) rfl ?_
              refine lv_iload_n hx hb dL_isAhead_146 rfl (lv_at hl 6 rfl) ?_
              have sel_147 : ∀ (ls : Array Slot), lv_has ls 7 [(6, .int 1), (5, .int ((f_X2_guarantors ((f_X2_guarantors X B (nI mb) (nI am) 0).2) B (nI mb) (nI (if 9999 ≤ am then (am : Nat) else am + 1)) 0).1)), (4, .int ((f_X2_guarantors X B (nI mb) (nI am) 0).1)), (3, .int (f_X2_greatest B (nI mb) 0)), (0, .ref (x 0)), (1, .int (nI mb)), (2, .int (nI am))] → W p l e (headSpec wsL_isAhead (zrx 9 155 11 66)).room s m ([.ref (x 0), .int (nI mb), .int (nI am)] : List Value).toArray below meth c H locs 9 54 (MQ below (zM D (xmW cA x b rd X N ++ (bkW (cA 0) (b 0) B)) (xmW cA x b rd (f_L_isAhead X B mb am) N ++ (bkW (cA 0) (b 0) B)) (some (.int 1))) ([.ref (x 0), .int (nI mb), .int (nI am)] : List Value).toArray s 11 66 (zfr (xmW cA x b rd X N ++ (bkW (cA 0) (b 0) B)))) (F0 m 155 ls [.int (if (f_X2_memberOf B (nI mb) 3) < (nI am) then (0 : Int32) else 1), .int (if ((f_X2_guarantors X B (nI mb) (nI am) 0).1) = 0 then (1 : Int32) else 0)]) := by
                intro ls hl
                refine lv_icmp_ne (tgt := 196) hx hb dL_isAhead_155 (by decide) (fun c_14 => by exact absurd (hf_155) c_14) (fun _ => ?_)
                refine lv_iload hx hb dL_isAhead_158 (lv_at hl 2 rfl) ?_
                refine lv_iconst (v := (-1)) hx hb dL_isAhead_160 (by decide) ?_
                have sel_161 : ∀ (ls : Array Slot), lv_has ls 7 [(6, .int 1), (5, .int ((f_X2_guarantors ((f_X2_guarantors X B (nI mb) (nI am) 0).2) B (nI mb) (nI (if 9999 ≤ am then (am : Nat) else am + 1)) 0).1)), (4, .int ((f_X2_guarantors X B (nI mb) (nI am) 0).1)), (3, .int (f_X2_greatest B (nI mb) 0)), (0, .ref (x 0)), (1, .int (nI mb)), (2, .int (nI am))] → W p l e (headSpec wsL_isAhead (zrx 9 155 11 66)).room s m ([.ref (x 0), .int (nI mb), .int (nI am)] : List Value).toArray below meth c H locs 9 54 (MQ below (zM D (xmW cA x b rd X N ++ (bkW (cA 0) (b 0) B)) (xmW cA x b rd (f_L_isAhead X B mb am) N ++ (bkW (cA 0) (b 0) B)) (some (.int 1))) ([.ref (x 0), .int (nI mb), .int (nI am)] : List Value).toArray s 11 66 (zfr (xmW cA x b rd X N ++ (bkW (cA 0) (b 0) B)))) (F0 m 186 ls []) := by
                  intro ls hl
                  refine lv_iload hx hb dL_isAhead_186 (lv_at hl 2 rfl) ?_
                  refine lv_iconst (v := 5) hx hb dL_isAhead_188 (by decide) ?_
                  refine lv_icmp_gt (tgt := 196) hx hb dL_isAhead_189 (by decide) (fun c_19 => by exact absurd c_19 (hf_189)) (fun _ => ?_)
                  refine lv_iconst (v := 1) hx hb dL_isAhead_192 (by decide) ?_
                  refine lv_goto (tgt := 197) hx hb dL_isAhead_193 (by decide) ?_
                  refine W.widen (k := 11) (n := 66) (Nat.le_of_ble_eq_true rfl) (Nat.le_of_ble_eq_true rfl) ?_
                  exact z_zretM (w1 := xmW cA x b rd ((f_X2_guarantors ((f_X2_guarantors ((f_X2_guarantors X B (nI mb) (nI am) 0).2) B (nI mb) (nI (if 9999 ≤ am then (am : Nat) else am + 1)) 0).2) B (nI mb) (nI am) 1).2) N ++ (bkW (cA 0) (b 0) B)) hx hb hr hlocks dL_isAhead_197 hP hS rfl rfl (by first | (simp only [f_L_isAhead]; done) | rfl)
                refine lv_icmp_ne (tgt := 173) hx hb dL_isAhead_161 (by decide) (fun c_15 => ?_) (fun c_15 => ?_)
                · refine lv_iload hx hb dL_isAhead_173 (lv_at hl 1 rfl) ?_
                  refine lv_iconst (v := (-1)) hx hb dL_isAhead_175 (by decide) ?_
                  have sel_176 : ∀ (ls : Array Slot), lv_has ls 7 [(6, .int 1), (5, .int ((f_X2_guarantors ((f_X2_guarantors X B (nI mb) (nI am) 0).2) B (nI mb) (nI (if 9999 ≤ am then (am : Nat) else am + 1)) 0).1)), (4, .int ((f_X2_guarantors X B (nI mb) (nI am) 0).1)), (3, .int (f_X2_greatest B (nI mb) 0)), (0, .ref (x 0)), (1, .int (nI mb)), (2, .int (nI am))] → W p l e (headSpec wsL_isAhead (zrx 9 155 11 66)).room s m ([.ref (x 0), .int (nI mb), .int (nI am)] : List Value).toArray below meth c H locs 9 54 (MQ below (zM D (xmW cA x b rd X N ++ (bkW (cA 0) (b 0) B)) (xmW cA x b rd (f_L_isAhead X B mb am) N ++ (bkW (cA 0) (b 0) B)) (some (.int 1))) ([.ref (x 0), .int (nI mb), .int (nI am)] : List Value).toArray s 11 66 (zfr (xmW cA x b rd X N ++ (bkW (cA 0) (b 0) B)))) (F0 m 186 ls []) := by
                    intro ls hl
                    exact sel_161 ls (lv_sub hl [0, 1, 2, 3, 4, 5, 6] rfl)
                  refine lv_icmp_eq (tgt := 186) hx hb dL_isAhead_176 (by decide) (fun c_16 => ?_) (fun c_16 => ?_)
                  · exact sel_176 ls (lv_sub hl [0, 1, 2, 3, 4, 5, 6] rfl)
                  · refine lv_iload hx hb dL_isAhead_179 (lv_at hl 1 rfl) ?_
                    refine lv_iload hx hb dL_isAhead_181 (lv_at hl 2 rfl) ?_
                    refine lv_icmp_lt (tgt := 196) hx hb dL_isAhead_183 (by decide) (fun c_17 => by exact absurd c_17 (hf_183 c_15 c_16)) (fun _ => ?_)
                    exact sel_176 ls (lv_sub hl [0, 1, 2, 3, 4, 5, 6] rfl)
                · refine lv_iload hx hb dL_isAhead_164 (lv_at hl 1 rfl) ?_
                  refine lv_iconst (v := (-1)) hx hb dL_isAhead_166 (by decide) ?_
                  refine lv_icmp_ne (tgt := 196) hx hb dL_isAhead_167 (by decide) (fun c_18 => by exact absurd (hf_167 c_15) c_18) (fun _ => ?_)
                  refine lv_goto (tgt := 186) hx hb dL_isAhead_170 (by decide) ?_
                  exact sel_161 ls (lv_sub hl [0, 1, 2, 3, 4, 5, 6] rfl)
              refine lv_icmp_lt (tgt := 154) hx hb dL_isAhead_147 (by decide) (fun c_13 => ?_) (fun c_13 => ?_)
              · refine lv_iconst (v := 0) hx hb dL_isAhead_154 (by decide) ?_
                refine z_top (y := if (f_X2_memberOf B (nI mb) 3) < (nI am) then (0 : Int32) else 1) (by rw [if_pos c_13]) ?_; exact sel_147 ls (lv_sub hl [0, 1, 2, 3, 4, 5, 6] rfl)
              · refine lv_iconst (v := 1) hx hb dL_isAhead_150 (by decide) ?_
                refine lv_goto (tgt := 155) hx hb dL_isAhead_151 (by decide) ?_
                refine z_top (y := if (f_X2_memberOf B (nI mb) 3) < (nI am) then (0 : Int32) else 1) (by rw [if_neg c_13]) ?_; exact sel_147 ls (lv_sub hl [0, 1, 2, 3, 4, 5, 6] rfl)
            refine lv_if_ne (tgt := 139) hx hb dL_isAhead_132 (by decide) (fun c_12 => ?_) (fun c_12 => ?_)
            · refine lv_iconst (v := 0) hx hb dL_isAhead_139 (by decide) ?_
              refine z_top (y := if ((f_X2_guarantors X B (nI mb) (nI am) 0).1) = 0 then (1 : Int32) else 0) (by rw [if_neg c_12]) ?_; exact sel_132 ls (lv_sub hl [0, 1, 2, 3, 4, 5, 6] rfl)
            · refine lv_iconst (v := 1) hx hb dL_isAhead_135 (by decide) ?_
              refine lv_goto (tgt := 140) hx hb dL_isAhead_136 (by decide) ?_
              refine z_top (y := if ((f_X2_guarantors X B (nI mb) (nI am) 0).1) = 0 then (1 : Int32) else 0) (by rw [if_pos c_12]) ?_; exact sel_132 ls (lv_sub hl [0, 1, 2, 3, 4, 5, 6] rfl)
          refine lv_icmp_eq (tgt := 106) hx hb dL_isAhead_92 (by decide) (fun c_8 => ?_) (fun c_8 => ?_)
          · exact sel_92 ls (lv_sub hl [0, 1, 2, 3, 4, 5] rfl)
          · refine lv_aload_n hx hb dL_isAhead_95 rfl (lv_at hl 3 rfl) ?_
            refine lv_iload_n hx hb dL_isAhead_96 rfl (lv_at hl 4 rfl) ?_
            refine lv_iload_n hx hb dL_isAhead_97 rfl (lv_at hl 2 rfl) ?_
            refine lv_iconst (v := 1) hx hb dL_isAhead_98 (by decide) ?_
            refine lv_iadd hx hb dL_isAhead_99 ?_
            refine zv_E (vx_runV (As := [.int (nI mb), .int ((f_X2_greatest B (nI mb) 0) + 1)]) (rest := []) ⟨hx, hb, hml, hown, hts⟩ (zk_X2_whyNot l hfl D cA b rd x ((f_X2_guarantors ((f_X2_guarantors X B (nI mb) (nI am) 0).2) B (nI mb) (nI (if 9999 ≤ am then (am : Nat) else am + 1)) 0).2) N B (nI mb) ((f_X2_greatest B (nI mb) 0) + 1)) (cwV 2 hts gL_isAhead_X2_whyNot rfl rfl rfl zy_X2_whyNot ⟨(Nat.le_of_ble_eq_true rfl), (Nat.le_of_ble_eq_true rfl)⟩) (zx_preVq (A := (zfr (xmW cA x b rd X N ++ (bkW (cA 0) (b 0) B)))) (ci := 2) (q0 := 0) hK hP hD hO hS (zD_fr hD) rfl rfl) rfl rfl hl.1 rfl (lv_room (Nat.le_of_ble_eq_true rfl)) dL_isAhead_100 ⟨Nat.le_of_ble_eq_true rfl, Nat.le_of_ble_eq_true rfl⟩) (zva_no ⟨⟨mb, by omega, rfl⟩, (hf_100 c_8), trivial⟩) rfl ?_
            refine lv_if_le (tgt := 110) hx hb dL_isAhead_103 (by decide) (fun c_9 => by exact absurd c_9 (hf_103 c_8)) (fun _ => ?_)
            exact sel_92 ls (lv_sub hl [0, 1, 2, 3, 4, 5] rfl)
        refine lv_if_eq (tgt := 88) hx hb dL_isAhead_76 (by decide) (fun c_6 => ?_) (fun c_6 => ?_)
        · exact sel_76 ls (lv_sub hl [0, 1, 2, 3, 4, 5] rfl)
        · refine lv_aload_n hx hb dL_isAhead_79 rfl (lv_at hl 3 rfl) ?_
          refine lv_iload_n hx hb dL_isAhead_80 rfl (lv_at hl 4 rfl) ?_
          refine lv_iload_n hx hb dL_isAhead_81 rfl (lv_at hl 2 rfl) ?_
          refine zv_E (vx_runV (As := [.int (nI mb), .int (f_X2_greatest B (nI mb) 0)]) (rest := []) ⟨hx, hb, hml, hown, hts⟩ (zk_X2_whyNot l hfl D cA b rd x ((f_X2_guarantors ((f_X2_guarantors X B (nI mb) (nI am) 0).2) B (nI mb) (nI (if 9999 ≤ am then (am : Nat) else am + 1)) 0).2) N B (nI mb) (f_X2_greatest B (nI mb) 0)) (cwV 2 hts gL_isAhead_X2_whyNot rfl rfl rfl zy_X2_whyNot ⟨(Nat.le_of_ble_eq_true rfl), (Nat.le_of_ble_eq_true rfl)⟩) (zx_preVq (A := (zfr (xmW cA x b rd X N ++ (bkW (cA 0) (b 0) B)))) (ci := 2) (q0 := 0) hK hP hD hO hS (zD_fr hD) rfl rfl) rfl rfl hl.1 rfl (lv_room (Nat.le_of_ble_eq_true rfl)) dL_isAhead_82 ⟨Nat.le_of_ble_eq_true rfl, Nat.le_of_ble_eq_true rfl⟩) (zva_no ⟨⟨mb, by omega, rfl⟩, (hf_82 c_6), trivial⟩) rfl ?_
          refine lv_if_ne (tgt := 110) hx hb dL_isAhead_85 (by decide) (fun c_7 => by exact absurd (hf_85 c_6) c_7) (fun _ => ?_)
          exact sel_76 ls (lv_sub hl [0, 1, 2, 3, 4, 5] rfl)
      refine lv_icmp_gt (tgt := 71) hx hb dL_isAhead_64 (by decide) (fun c_4 => ?_) (fun c_4 => ?_)
      · refine lv_iconst (v := 0) hx hb dL_isAhead_71 (by decide) ?_
        refine z_top (y := if (f_X2_greatest B (nI mb) 0) < (nI am) then (0 : Int32) else 1) (by rw [if_pos c_4]) ?_; exact sel_64 ls (lv_sub hl [0, 1, 2, 3, 4, 5] rfl)
      · refine lv_iconst (v := 1) hx hb dL_isAhead_67 (by decide) ?_
        refine lv_goto (tgt := 72) hx hb dL_isAhead_68 (by decide) ?_
        refine z_top (y := if (f_X2_greatest B (nI mb) 0) < (nI am) then (0 : Int32) else 1) (by rw [if_neg c_4]) ?_; exact sel_64 ls (lv_sub hl [0, 1, 2, 3, 4, 5] rfl)
    refine lv_if_ne (tgt := 61) hx hb dL_isAhead_54 (by decide) (fun c_3 => ?_) (fun c_3 => ?_)
    · refine lv_iconst (v := 0) hx hb dL_isAhead_61 (by decide) ?_
      refine z_top (y := if (f_X2_whyNot B (nI mb) (nI am)) = 0 then (1 : Int32) else 0) (by rw [if_neg c_3]) ?_; exact sel_54 ls (lv_sub hl [0, 1, 2, 3, 4, 5] rfl)
    · refine lv_iconst (v := 1) hx hb dL_isAhead_57 (by decide) ?_
      refine lv_goto (tgt := 62) hx hb dL_isAhead_58 (by decide) ?_
      refine z_top (y := if (f_X2_whyNot B (nI mb) (nI am)) = 0 then (1 : Int32) else 0) (by rw [if_pos c_3]) ?_; exact sel_54 ls (lv_sub hl [0, 1, 2, 3, 4, 5] rfl)
  refine lv_icmp_ge (tgt := 31) hx hb dL_isAhead_22 (by decide) (fun c_1 => ?_) (fun c_1 => ?_)
  · have c_1 : 9999 ≤ am := (nI_leI (a := 9999) (b := am) (by omega) (by omega)).mp c_1
    refine lv_iload_n hx hb dL_isAhead_31 rfl (lv_at hl 4 rfl) ?_
    refine z_top (y := nI (if 9999 ≤ am then (am : Nat) else am + 1)) (by rw [if_pos c_1]) ?_; exact sel_22 ls (lv_sub hl [0, 1, 2, 3, 4] rfl)
  · have c_1 : ¬ 9999 ≤ am := fun h9 => c_1 ((nI_leI (a := 9999) (b := am) (by omega) (by omega)).mpr h9)
    refine lv_iload_n hx hb dL_isAhead_25 rfl (lv_at hl 4 rfl) ?_
    refine lv_iconst (v := 1) hx hb dL_isAhead_26 (by decide) ?_
    refine lv_iadd hx hb dL_isAhead_27 ?_
    refine z_top (nI_add am 1) ?_
    refine lv_goto (tgt := 32) hx hb dL_isAhead_28 (by decide) ?_
    refine z_top (y := nI (if 9999 ≤ am then (am : Nat) else am + 1)) (by rw [if_neg c_1]) ?_; exact sel_22 ls (lv_sub hl [0, 1, 2, 3, 4] rfl)

