section
theorem zy_L_payIn : yL_payIn.cls = RL ∧ yL_payIn.cls ≠ "java/lang/invoke/MethodHandle" ∧ yL_payIn.cls ≠ "java/lang/invoke/VarHandle" ∧ (parseMethodDescriptor yL_payIn.desc).map (fun d => d.parameters.length) = some 4 := by decide +kernel
set_option maxHeartbeats 4000000 in
set_option maxRecDepth 100000 in
theorem zl_payIn (l : Launch) (hfl : l.stackTraces = false) (D : va_G) (cA : Nat → ClassId) (o : Nat) (f : Nat → Int64) (b : Nat → Nat → Nat) (rd : Nat) (r : Nat → Nat) (x : Nat → Nat) (X : BK) (N : NK) (B : BK) (Bs : Nat → BK) (i1 am : Int32) (hpm : zpm N) (hsv2 : N 0 0 ≤ 6) : Met l yL_payIn wsL_payIn (zrx 9 154 2 12) (zPw D cA [.ref (x 0), .int i1, .int am, .ref o] (ouW cA o f ++ unW cA x b rd r X N B Bs)) (zW D (ouW cA o f ++ unW cA x b rd r X N B Bs) [(zmem i1, 1), (zrg am 1 9999, 2)] (ouW cA o (vp_updL f 0 ((f_X2_payIn N B Bs i1 am).1).toInt64) ++ unW cA x b rd r X ((f_X2_payIn N B Bs i1 am).2.1) ((f_X2_payIn N B Bs i1 am).2.2.1) ((f_X2_payIn N B Bs i1 am).2.2.2)) (ouW cA o f ++ unW cA x b rd r X N B Bs)) 2 12 (zfr (ouW cA o f ++ unW cA x b rd r X N B Bs)) := by
  refine va_MetW (cc := cL_payIn) (maxL := 5) (ret := (some .int)) (hh := [(0, 10, 13, 13), (0, 10, 17, 15)]) (by decide) rfl ?_
  intro p e s m args below meth c s₁ Bd hml hv
  obtain ⟨rfl, hP, hK, hD0, hO, hn1, hn2⟩ := hv
  have hx := Bd.exec
  have hb := Bd.bytes
  have hr := Bd.returns
  have hts := atoms_spec (ws := wsL_payIn) Bd.pre
  have hown : s.vm.findClass RL = some m.cls := findClass_of_methodNamed Bd.named
  have hlocks := Bd.notSynchronized
  have htab := vx_table (x := yL_payIn) Bd (hts _ List.mem_cons_self)
  have hD := z_Dfr hD0
  have hS : va_S (zfr (ouW cA o f ++ unW cA x b rd r X N B Bs)) s.heap s.heap [] := va_S.rf
  have hl := lv_entry ([.ref (x 0), .int i1, .int am, .ref o]) (n := 5) (Nat.le_of_ble_eq_true rfl)
  rw [lg_entry_eq]
  generalize (lg_sl ([.ref (x 0), .int i1, .int am, .ref o]) ++ List.replicate (5 - (lg_sl ([.ref (x 0), .int i1, .int am, .ref o])).length) Slot.unset).toArray = ls at hl ⊢
  have hl : lv_has ls 5 [(0, .ref (x 0)), (1, .int i1), (2, .int am), (3, .ref o)] := hl
  refine lv_aload_n hx hb dL_payIn_0 rfl (lv_at hl 3 rfl) ?_
  refine lv_iconst (v := 0) hx hb dL_payIn_1 (by decide) ?_
  refine lv_aload_n hx hb dL_payIn_2 rfl (lv_at hl 0 rfl) ?_
  refine lv_iload_n hx hb dL_payIn_3 rfl (lv_at hl 1 rfl) ?_
  refine lv_iload_n hx hb dL_payIn_4 rfl (lv_at hl 2 rfl) ?_
  rw [zun_A] at hP
  have hD : va_D (zfr (ouW cA o f ++ unW cA x b rd r X N B Bs)) ((ouW cA o f ++ rdW rd r) ++ ((xmW cA x b rd X N ++ (bkW (cA 0) (b 0) B ++ otW (cA 0) b Bs)) ++ ([] : va_W))) := by rw [← zun_A]; exact hD
  refine zw_call (X := (ouW cA o f ++ rdW rd r)) (Z := ([] : va_W)) (vx_runV (As := [.int i1, .int am]) (rest := [.int 0, .ref o]) ⟨hx, hb, hml, hown, hts⟩ (zk_X2_payIn l hfl D cA b rd x X N B Bs i1 am hpm hsv2) (cwV 2 hts gL_payIn_X2_payIn rfl rfl rfl zy_X2_payIn ⟨(Nat.le_of_ble_eq_true rfl), (Nat.le_of_ble_eq_true rfl)⟩) (zx_preVq (ci := 2) (q0 := 0) hK (zmid_P hP) (zmid_D hD) hO hS (fun q h => by rw [zun_A]; exact zmid_fr h) rfl rfl) rfl rfl hl.1 rfl (lv_room (Nat.le_of_ble_eq_true rfl)) dL_payIn_5 ⟨(Nat.le_of_ble_eq_true rfl), (Nat.le_of_ble_eq_true rfl)⟩) hP hD hS (z_adr2 xmW_adr (z_adr2 bkW_adr otW_adr)) (z_adr2 xmW_adr (z_adr2 bkW_adr otW_adr)) rfl (fun E ce q9 H locs hX hP hS hce hcv hcl => ?_) (fun H locs hV hP hD hS => ?_)
  · have hP : va_P D vwCl (ouW cA o f ++ unW cA x b rd r X N B Bs) H := by rw [zun_A]; exact hP
    rcases hX with ⟨h1, rfl⟩ | ⟨h1, ⟨h2, rfl⟩ | ⟨h2, hX⟩⟩
    · refine vx_catch (own := RL) (name := "java/lang/IndexOutOfBoundsException") hown [] ⟨0, 10, 13, 13⟩ [⟨0, 10, 17, 15⟩] (zl_spl _ htab rfl) (fun z hz => nomatch hz) (by decide) (by decide) (hts (.classLink RL 13 "java/lang/IndexOutOfBoundsException") (List.mem_of_getElem? (i := 1) rfl)) (va_Nw.use rfl hO.2.2.2.1) hce hcv hcl ?_
      refine lv_astore (lv' := [(4, .ref q9), (0, .ref (x 0)), (1, .int i1), (2, .int am), (3, .ref o)]) hx hb dL_payIn_13 hl (by decide) rfl (fun ls hl => ?_)
      refine lv_iconst (v := 1) hx hb dL_payIn_15 (by decide) ?_
      exact zw_ret hx hb hr hlocks dL_payIn_16 (Or.inl ⟨h1, rfl⟩) (if_neg z10).symm hP hS (Nat.le_of_ble_eq_true rfl) (Nat.le_of_ble_eq_true rfl)
    · refine vx_catch (own := RL) (name := "java/lang/IllegalArgumentException") hown [⟨0, 10, 13, 13⟩] ⟨0, 10, 17, 15⟩ [] (zl_spl _ htab rfl) (fun z hz => by cases List.mem_singleton.mp hz; exact Or.inr ⟨by decide, _, (hts (.classLink RL 13 "java/lang/IndexOutOfBoundsException") (List.mem_of_getElem? (i := 1) rfl)), hn1⟩) (by decide) (by decide) (hts (.classLink RL 15 "java/lang/IllegalArgumentException") (List.mem_of_getElem? (i := 2) rfl)) (va_Nw.use rfl hO.2.2.2.2.1) hce hcv hcl ?_
      refine lv_astore (lv' := [(4, .ref q9), (0, .ref (x 0)), (1, .int i1), (2, .int am), (3, .ref o)]) hx hb dL_payIn_17 hl (by decide) rfl (fun ls hl => ?_)
      refine lv_iconst (v := 2) hx hb dL_payIn_19 (by decide) ?_
      exact zw_ret hx hb hr hlocks dL_payIn_20 (Or.inr ⟨h1, Or.inl ⟨h2, rfl⟩⟩) (if_neg z20).symm hP hS (Nat.le_of_ble_eq_true rfl) (Nat.le_of_ble_eq_true rfl)
    · exact hX.elim
  · have hP : va_P D vwCl (ouW cA o f ++ unW cA x b rd r X ((f_X2_payIn N B Bs i1 am).2.1) ((f_X2_payIn N B Bs i1 am).2.2.1) ((f_X2_payIn N B Bs i1 am).2.2.2)) H := by rw [zun_A]; exact hP
    have hD : va_D (zfr (ouW cA o f ++ unW cA x b rd r X N B Bs)) (ouW cA o f ++ unW cA x b rd r X ((f_X2_payIn N B Bs i1 am).2.1) ((f_X2_payIn N B Bs i1 am).2.2.1) ((f_X2_payIn N B Bs i1 am).2.2.2)) := by have h := hD; rw [← zun_A] at h; exact h
    refine lv_i2l hx hb dL_payIn_8 rfl ?_
    refine zw_last hx hb hK hP hD hS dL_payIn_9 (fun H locs hP hD hS => ?_)
    refine lv_goto (tgt := 21) hx hb dL_payIn_10 (by decide) ?_
    refine lv_iconst (v := 0) hx hb dL_payIn_21 (by decide) ?_
    exact zw_ret hx hb hr hlocks dL_payIn_22 (Or.inr ⟨hV.1, Or.inr ⟨hV.2.1, rfl⟩⟩) (if_pos rfl).symm hP hS (Nat.le_of_ble_eq_true rfl) (Nat.le_of_ble_eq_true rfl)
theorem zy_L_payOut : yL_payOut.cls = RL ∧ yL_payOut.cls ≠ "java/lang/invoke/MethodHandle" ∧ yL_payOut.cls ≠ "java/lang/invoke/VarHandle" ∧ (parseMethodDescriptor yL_payOut.desc).map (fun d => d.parameters.length) = some 4 := by decide +kernel
set_option maxHeartbeats 4000000 in
set_option maxRecDepth 100000 in
theorem zl_payOut (l : Launch) (hfl : l.stackTraces = false) (D : va_G) (cA : Nat → ClassId) (o : Nat) (f : Nat → Int64) (b : Nat → Nat → Nat) (rd : Nat) (r : Nat → Nat) (x : Nat → Nat) (X : BK) (N : NK) (B : BK) (Bs : Nat → BK) (i1 am : Int32) (hpm : zpm N) (hsv2 : N 0 0 ≤ 6) : Met l yL_payOut wsL_payOut (zrx 9 154 2 12) (zPw D cA [.ref (x 0), .int i1, .int am, .ref o] (ouW cA o f ++ unW cA x b rd r X N B Bs)) (zW D (ouW cA o f ++ unW cA x b rd r X N B Bs) [(zmem i1, 1), (zrg am 1 9999, 2)] (ouW cA o (vp_updL f 0 ((f_X2_payOut N B Bs i1 am).1).toInt64) ++ unW cA x b rd r X ((f_X2_payOut N B Bs i1 am).2.1) ((f_X2_payOut N B Bs i1 am).2.2.1) ((f_X2_payOut N B Bs i1 am).2.2.2)) (ouW cA o f ++ unW cA x b rd r X N B Bs)) 2 12 (zfr (ouW cA o f ++ unW cA x b rd r X N B Bs)) := by
  refine va_MetW (cc := cL_payOut) (maxL := 5) (ret := (some .int)) (hh := [(0, 10, 13, 13), (0, 10, 17, 15)]) (by decide) rfl ?_
  intro p e s m args below meth c s₁ Bd hml hv
  obtain ⟨rfl, hP, hK, hD0, hO, hn1, hn2⟩ := hv
  have hx := Bd.exec
  have hb := Bd.bytes
  have hr := Bd.returns
  have hts := atoms_spec (ws := wsL_payOut) Bd.pre
  have hown : s.vm.findClass RL = some m.cls := findClass_of_methodNamed Bd.named
  have hlocks := Bd.notSynchronized
  have htab := vx_table (x := yL_payOut) Bd (hts _ List.mem_cons_self)
  have hD := z_Dfr hD0
  have hS : va_S (zfr (ouW cA o f ++ unW cA x b rd r X N B Bs)) s.heap s.heap [] := va_S.rf
  have hl := lv_entry ([.ref (x 0), .int i1, .int am, .ref o]) (n := 5) (Nat.le_of_ble_eq_true rfl)
  rw [lg_entry_eq]
  generalize (lg_sl ([.ref (x 0), .int i1, .int am, .ref o]) ++ List.replicate (5 - (lg_sl ([.ref (x 0), .int i1, .int am, .ref o])).length) Slot.unset).toArray = ls at hl ⊢
  have hl : lv_has ls 5 [(0, .ref (x 0)), (1, .int i1), (2, .int am), (3, .ref o)] := hl
  refine lv_aload_n hx hb dL_payOut_0 rfl (lv_at hl 3 rfl) ?_
  refine lv_iconst (v := 0) hx hb dL_payOut_1 (by decide) ?_
  refine lv_aload_n hx hb dL_payOut_2 rfl (lv_at hl 0 rfl) ?_
  refine lv_iload_n hx hb dL_payOut_3 rfl (lv_at hl 1 rfl) ?_
  refine lv_iload_n hx hb dL_payOut_4 rfl (lv_at hl 2 rfl) ?_
  rw [zun_A] at hP
  have hD : va_D (zfr (ouW cA o f ++ unW cA x b rd r X N B Bs)) ((ouW cA o f ++ rdW rd r) ++ ((xmW cA x b rd X N ++ (bkW (cA 0) (b 0) B ++ otW (cA 0) b Bs)) ++ ([] : va_W))) := by rw [← zun_A]; exact hD
  refine zw_call (X := (ouW cA o f ++ rdW rd r)) (Z := ([] : va_W)) (vx_runV (As := [.int i1, .int am]) (rest := [.int 0, .ref o]) ⟨hx, hb, hml, hown, hts⟩ (zk_X2_payOut l hfl D cA b rd x X N B Bs i1 am hpm hsv2) (cwV 2 hts gL_payOut_X2_payOut rfl rfl rfl zy_X2_payOut ⟨(Nat.le_of_ble_eq_true rfl), (Nat.le_of_ble_eq_true rfl)⟩) (zx_preVq (ci := 2) (q0 := 0) hK (zmid_P hP) (zmid_D hD) hO hS (fun q h => by rw [zun_A]; exact zmid_fr h) rfl rfl) rfl rfl hl.1 rfl (lv_room (Nat.le_of_ble_eq_true rfl)) dL_payOut_5 ⟨(Nat.le_of_ble_eq_true rfl), (Nat.le_of_ble_eq_true rfl)⟩) hP hD hS (z_adr2 xmW_adr (z_adr2 bkW_adr otW_adr)) (z_adr2 xmW_adr (z_adr2 bkW_adr otW_adr)) rfl (fun E ce q9 H locs hX hP hS hce hcv hcl => ?_) (fun H locs hV hP hD hS => ?_)
  · have hP : va_P D vwCl (ouW cA o f ++ unW cA x b rd r X N B Bs) H := by rw [zun_A]; exact hP
    rcases hX with ⟨h1, rfl⟩ | ⟨h1, ⟨h2, rfl⟩ | ⟨h2, hX⟩⟩
    · refine vx_catch (own := RL) (name := "java/lang/IndexOutOfBoundsException") hown [] ⟨0, 10, 13, 13⟩ [⟨0, 10, 17, 15⟩] (zl_spl _ htab rfl) (fun z hz => nomatch hz) (by decide) (by decide) (hts (.classLink RL 13 "java/lang/IndexOutOfBoundsException") (List.mem_of_getElem? (i := 1) rfl)) (va_Nw.use rfl hO.2.2.2.1) hce hcv hcl ?_
      refine lv_astore (lv' := [(4, .ref q9), (0, .ref (x 0)), (1, .int i1), (2, .int am), (3, .ref o)]) hx hb dL_payOut_13 hl (by decide) rfl (fun ls hl => ?_)
      refine lv_iconst (v := 1) hx hb dL_payOut_15 (by decide) ?_
      exact zw_ret hx hb hr hlocks dL_payOut_16 (Or.inl ⟨h1, rfl⟩) (if_neg z10).symm hP hS (Nat.le_of_ble_eq_true rfl) (Nat.le_of_ble_eq_true rfl)
    · refine vx_catch (own := RL) (name := "java/lang/IllegalArgumentException") hown [⟨0, 10, 13, 13⟩] ⟨0, 10, 17, 15⟩ [] (zl_spl _ htab rfl) (fun z hz => by cases List.mem_singleton.mp hz; exact Or.inr ⟨by decide, _, (hts (.classLink RL 13 "java/lang/IndexOutOfBoundsException") (List.mem_of_getElem? (i := 1) rfl)), hn1⟩) (by decide) (by decide) (hts (.classLink RL 15 "java/lang/IllegalArgumentException") (List.mem_of_getElem? (i := 2) rfl)) (va_Nw.use rfl hO.2.2.2.2.1) hce hcv hcl ?_
      refine lv_astore (lv' := [(4, .ref q9), (0, .ref (x 0)), (1, .int i1), (2, .int am), (3, .ref o)]) hx hb dL_payOut_17 hl (by decide) rfl (fun ls hl => ?_)
      refine lv_iconst (v := 2) hx hb dL_payOut_19 (by decide) ?_
      exact zw_ret hx hb hr hlocks dL_payOut_20 (Or.inr ⟨h1, Or.inl ⟨h2, rfl⟩⟩) (if_neg z20).symm hP hS (Nat.le_of_ble_eq_true rfl) (Nat.le_of_ble_eq_true rfl)
    · exact hX.elim
  · have hP : va_P D vwCl (ouW cA o f ++ unW cA x b rd r X ((f_X2_payOut N B Bs i1 am).2.1) ((f_X2_payOut N B Bs i1 am).2.2.1) ((f_X2_payOut N B Bs i1 am).2.2.2)) H := by rw [zun_A]; exact hP
    have hD : va_D (zfr (ouW cA o f ++ unW cA x b rd r X N B Bs)) (ouW cA o f ++ unW cA x b rd r X ((f_X2_payOut N B Bs i1 am).2.1) ((f_X2_payOut N B Bs i1 am).2.2.1) ((f_X2_payOut N B Bs i1 am).2.2.2)) := by have h := hD; rw [← zun_A] at h; exact h
    refine lv_i2l hx hb dL_payOut_8 rfl ?_
    refine zw_last hx hb hK hP hD hS dL_payOut_9 (fun H locs hP hD hS => ?_)
    refine lv_goto (tgt := 21) hx hb dL_payOut_10 (by decide) ?_
    refine lv_iconst (v := 0) hx hb dL_payOut_21 (by decide) ?_
    exact zw_ret hx hb hr hlocks dL_payOut_22 (Or.inr ⟨hV.1, Or.inr ⟨hV.2.1, rfl⟩⟩) (if_pos rfl).symm hP hS (Nat.le_of_ble_eq_true rfl) (Nat.le_of_ble_eq_true rfl)
theorem zy_L_repay : yL_repay.cls = RL ∧ yL_repay.cls ≠ "java/lang/invoke/MethodHandle" ∧ yL_repay.cls ≠ "java/lang/invoke/VarHandle" ∧ (parseMethodDescriptor yL_repay.desc).map (fun d => d.parameters.length) = some 4 := by decide +kernel
set_option maxHeartbeats 4000000 in
set_option maxRecDepth 100000 in
theorem zl_repay (l : Launch) (hfl : l.stackTraces = false) (D : va_G) (cA : Nat → ClassId) (o : Nat) (f : Nat → Int64) (b : Nat → Nat → Nat) (rd : Nat) (r : Nat → Nat) (x : Nat → Nat) (X : BK) (N : NK) (B : BK) (Bs : Nat → BK) (i1 am : Int32) (hpm : zpm N) (hsv2 : N 0 0 ≤ 6) : Met l yL_repay wsL_repay (zrx 9 154 2 12) (zPw D cA [.ref (x 0), .int i1, .int am, .ref o] (ouW cA o f ++ unW cA x b rd r X N B Bs)) (zW D (ouW cA o f ++ unW cA x b rd r X N B Bs) [(zmem i1, 1), (zrg am 1 9999, 2)] (ouW cA o (vp_updL f 0 ((f_X2_repay N B Bs i1 am).1).toInt64) ++ unW cA x b rd r X ((f_X2_repay N B Bs i1 am).2.1) ((f_X2_repay N B Bs i1 am).2.2.1) ((f_X2_repay N B Bs i1 am).2.2.2)) (ouW cA o f ++ unW cA x b rd r X N B Bs)) 2 12 (zfr (ouW cA o f ++ unW cA x b rd r X N B Bs)) := by
  refine va_MetW (cc := cL_repay) (maxL := 5) (ret := (some .int)) (hh := [(0, 10, 13, 13), (0, 10, 17, 15)]) (by decide) rfl ?_
  intro p e s m args below meth c s₁ Bd hml hv
  obtain ⟨rfl, hP, hK, hD0, hO, hn1, hn2⟩ := hv
  have hx := Bd.exec
  have hb := Bd.bytes
  have hr := Bd.returns
  have hts := atoms_spec (ws := wsL_repay) Bd.pre
  have hown : s.vm.findClass RL = some m.cls := findClass_of_methodNamed Bd.named
  have hlocks := Bd.notSynchronized
  have htab := vx_table (x := yL_repay) Bd (hts _ List.mem_cons_self)
  have hD := z_Dfr hD0
  have hS : va_S (zfr (ouW cA o f ++ unW cA x b rd r X N B Bs)) s.heap s.heap [] := va_S.rf
  have hl := lv_entry ([.ref (x 0), .int i1, .int am, .ref o]) (n := 5) (Nat.le_of_ble_eq_true rfl)
  rw [lg_entry_eq]
  generalize (lg_sl ([.ref (x 0), .int i1, .int am, .ref o]) ++ List.replicate (5 - (lg_sl ([.ref (x 0), .int i1, .int am, .ref o])).length) Slot.unset).toArray = ls at hl ⊢
  have hl : lv_has ls 5 [(0, .ref (x 0)), (1, .int i1), (2, .int am), (3, .ref o)] := hl
  refine lv_aload_n hx hb dL_repay_0 rfl (lv_at hl 3 rfl) ?_
  refine lv_iconst (v := 0) hx hb dL_repay_1 (by decide) ?_
  refine lv_aload_n hx hb dL_repay_2 rfl (lv_at hl 0 rfl) ?_
  refine lv_iload_n hx hb dL_repay_3 rfl (lv_at hl 1 rfl) ?_
  refine lv_iload_n hx hb dL_repay_4 rfl (lv_at hl 2 rfl) ?_
  rw [zun_A] at hP
  have hD : va_D (zfr (ouW cA o f ++ unW cA x b rd r X N B Bs)) ((ouW cA o f ++ rdW rd r) ++ ((xmW cA x b rd X N ++ (bkW (cA 0) (b 0) B ++ otW (cA 0) b Bs)) ++ ([] : va_W))) := by rw [← zun_A]; exact hD
  refine zw_call (X := (ouW cA o f ++ rdW rd r)) (Z := ([] : va_W)) (vx_runV (As := [.int i1, .int am]) (rest := [.int 0, .ref o]) ⟨hx, hb, hml, hown, hts⟩ (zk_X2_repay l hfl D cA b rd x X N B Bs i1 am hpm hsv2) (cwV 2 hts gL_repay_X2_repay rfl rfl rfl zy_X2_repay ⟨(Nat.le_of_ble_eq_true rfl), (Nat.le_of_ble_eq_true rfl)⟩) (zx_preVq (ci := 2) (q0 := 0) hK (zmid_P hP) (zmid_D hD) hO hS (fun q h => by rw [zun_A]; exact zmid_fr h) rfl rfl) rfl rfl hl.1 rfl (lv_room (Nat.le_of_ble_eq_true rfl)) dL_repay_5 ⟨(Nat.le_of_ble_eq_true rfl), (Nat.le_of_ble_eq_true rfl)⟩) hP hD hS (z_adr2 xmW_adr (z_adr2 bkW_adr otW_adr)) (z_adr2 xmW_adr (z_adr2 bkW_adr otW_adr)) rfl (fun E ce q9 H locs hX hP hS hce hcv hcl => ?_) (fun H locs hV hP hD hS => ?_)
  · have hP : va_P D vwCl (ouW cA o f ++ unW cA x b rd r X N B Bs) H := by rw [zun_A]; exact hP
    rcases hX with ⟨h1, rfl⟩ | ⟨h1, ⟨h2, rfl⟩ | ⟨h2, hX⟩⟩
    · refine vx_catch (own := RL) (name := "java/lang/IndexOutOfBoundsException") hown [] ⟨0, 10, 13, 13⟩ [⟨0, 10, 17, 15⟩] (zl_spl _ htab rfl) (fun z hz => nomatch hz) (by decide) (by decide) (hts (.classLink RL 13 "java/lang/IndexOutOfBoundsException") (List.mem_of_getElem? (i := 1) rfl)) (va_Nw.use rfl hO.2.2.2.1) hce hcv hcl ?_
      refine lv_astore (lv' := [(4, .ref q9), (0, .ref (x 0)), (1, .int i1), (2, .int am), (3, .ref o)]) hx hb dL_repay_13 hl (by decide) rfl (fun ls hl => ?_)
      refine lv_iconst (v := 1) hx hb dL_repay_15 (by decide) ?_
      exact zw_ret hx hb hr hlocks dL_repay_16 (Or.inl ⟨h1, rfl⟩) (if_neg z10).symm hP hS (Nat.le_of_ble_eq_true rfl) (Nat.le_of_ble_eq_true rfl)
    · refine vx_catch (own := RL) (name := "java/lang/IllegalArgumentException") hown [⟨0, 10, 13, 13⟩] ⟨0, 10, 17, 15⟩ [] (zl_spl _ htab rfl) (fun z hz => by cases List.mem_singleton.mp hz; exact Or.inr ⟨by decide, _, (hts (.classLink RL 13 "java/lang/IndexOutOfBoundsException") (List.mem_of_getElem? (i := 1) rfl)), hn1⟩) (by decide) (by decide) (hts (.classLink RL 15 "java/lang/IllegalArgumentException") (List.mem_of_getElem? (i := 2) rfl)) (va_Nw.use rfl hO.2.2.2.2.1) hce hcv hcl ?_
      refine lv_astore (lv' := [(4, .ref q9), (0, .ref (x 0)), (1, .int i1), (2, .int am), (3, .ref o)]) hx hb dL_repay_17 hl (by decide) rfl (fun ls hl => ?_)
      refine lv_iconst (v := 2) hx hb dL_repay_19 (by decide) ?_
      exact zw_ret hx hb hr hlocks dL_repay_20 (Or.inr ⟨h1, Or.inl ⟨h2, rfl⟩⟩) (if_neg z20).symm hP hS (Nat.le_of_ble_eq_true rfl) (Nat.le_of_ble_eq_true rfl)
    · exact hX.elim
  · have hP : va_P D vwCl (ouW cA o f ++ unW cA x b rd r X ((f_X2_repay N B Bs i1 am).2.1) ((f_X2_repay N B Bs i1 am).2.2.1) ((f_X2_repay N B Bs i1 am).2.2.2)) H := by rw [zun_A]; exact hP
    have hD : va_D (zfr (ouW cA o f ++ unW cA x b rd r X N B Bs)) (ouW cA o f ++ unW cA x b rd r X ((f_X2_repay N B Bs i1 am).2.1) ((f_X2_repay N B Bs i1 am).2.2.1) ((f_X2_repay N B Bs i1 am).2.2.2)) := by have h := hD; rw [← zun_A] at h; exact h
    refine lv_i2l hx hb dL_repay_8 rfl ?_
    refine zw_last hx hb hK hP hD hS dL_repay_9 (fun H locs hP hD hS => ?_)
    refine lv_goto (tgt := 21) hx hb dL_repay_10 (by decide) ?_
    refine lv_iconst (v := 0) hx hb dL_repay_21 (by decide) ?_
    exact zw_ret hx hb hr hlocks dL_repay_22 (Or.inr ⟨hV.1, Or.inr ⟨hV.2.1, rfl⟩⟩) (if_pos rfl).symm hP hS (Nat.le_of_ble_eq_true rfl) (Nat.le_of_ble_eq_true rfl)
theorem zy_L_pledge : yL_pledge.cls = RL ∧ yL_pledge.cls ≠ "java/lang/invoke/MethodHandle" ∧ yL_pledge.cls ≠ "java/lang/invoke/VarHandle" ∧ (parseMethodDescriptor yL_pledge.desc).map (fun d => d.parameters.length) = some 5 := by decide +kernel
set_option maxHeartbeats 4000000 in
set_option maxRecDepth 100000 in
theorem zl_pledge (l : Launch) (hfl : l.stackTraces = false) (D : va_G) (cA : Nat → ClassId) (o : Nat) (f : Nat → Int64) (b : Nat → Nat → Nat) (rd : Nat) (r : Nat → Nat) (x : Nat → Nat) (X : BK) (N : NK) (B : BK) (Bs : Nat → BK) (i1 i2 am : Int32) (hpm : zpm N) (hsv2 : N 0 0 ≤ 6) : Met l yL_pledge wsL_pledge (zrx 9 155 4 24) (zPw D cA [.ref (x 0), .int i1, .int i2, .int am, .ref o] (ouW cA o f ++ unW cA x b rd r X N B Bs)) (zW D (ouW cA o f ++ unW cA x b rd r X N B Bs) [(zmem i1, 1), (zmem i2, 1), (¬ i1 = i2, 2), (zrg am 1 9999, 2)] (ouW cA o (vp_updL f 0 ((f_X2_pledge N B Bs i1 i2 am).1).toInt64) ++ unW cA x b rd r X ((f_X2_pledge N B Bs i1 i2 am).2.1) ((f_X2_pledge N B Bs i1 i2 am).2.2.1) ((f_X2_pledge N B Bs i1 i2 am).2.2.2)) (ouW cA o f ++ unW cA x b rd r X N B Bs)) 4 24 (zfr (ouW cA o f ++ unW cA x b rd r X N B Bs)) := by
  refine va_MetW (cc := cL_pledge) (maxL := 6) (ret := (some .int)) (hh := [(0, 12, 15, 13), (0, 12, 19, 15)]) (by decide) rfl ?_
  intro p e s m args below meth c s₁ Bd hml hv
  obtain ⟨rfl, hP, hK, hD0, hO, hn1, hn2⟩ := hv
  have hx := Bd.exec
  have hb := Bd.bytes
  have hr := Bd.returns
  have hts := atoms_spec (ws := wsL_pledge) Bd.pre
  have hown : s.vm.findClass RL = some m.cls := findClass_of_methodNamed Bd.named
  have hlocks := Bd.notSynchronized
  have htab := vx_table (x := yL_pledge) Bd (hts _ List.mem_cons_self)
  have hD := z_Dfr hD0
  have hS : va_S (zfr (ouW cA o f ++ unW cA x b rd r X N B Bs)) s.heap s.heap [] := va_S.rf
  have hl := lv_entry ([.ref (x 0), .int i1, .int i2, .int am, .ref o]) (n := 6) (Nat.le_of_ble_eq_true rfl)
  rw [lg_entry_eq]
  generalize (lg_sl ([.ref (x 0), .int i1, .int i2, .int am, .ref o]) ++ List.replicate (6 - (lg_sl ([.ref (x 0), .int i1, .int i2, .int am, .ref o])).length) Slot.unset).toArray = ls at hl ⊢
  have hl : lv_has ls 6 [(0, .ref (x 0)), (1, .int i1), (2, .int i2), (3, .int am), (4, .ref o)] := hl
  refine lv_aload hx hb dL_pledge_0 (lv_at hl 4 rfl) ?_
  refine lv_iconst (v := 0) hx hb dL_pledge_2 (by decide) ?_
  refine lv_aload_n hx hb dL_pledge_3 rfl (lv_at hl 0 rfl) ?_
  refine lv_iload_n hx hb dL_pledge_4 rfl (lv_at hl 1 rfl) ?_
  refine lv_iload_n hx hb dL_pledge_5 rfl (lv_at hl 2 rfl) ?_
  refine lv_iload_n hx hb dL_pledge_6 rfl (lv_at hl 3 rfl) ?_
  rw [zun_A] at hP
  have hD : va_D (zfr (ouW cA o f ++ unW cA x b rd r X N B Bs)) ((ouW cA o f ++ rdW rd r) ++ ((xmW cA x b rd X N ++ (bkW (cA 0) (b 0) B ++ otW (cA 0) b Bs)) ++ ([] : va_W))) := by rw [← zun_A]; exact hD
  refine zw_call (X := (ouW cA o f ++ rdW rd r)) (Z := ([] : va_W)) (vx_runV (As := [.int i1, .int i2, .int am]) (rest := [.int 0, .ref o]) ⟨hx, hb, hml, hown, hts⟩ (zk_X2_pledge l hfl D cA b rd x X N B Bs i1 i2 am hpm hsv2) (cwV 3 hts gL_pledge_X2_pledge rfl rfl rfl zy_X2_pledge ⟨(Nat.le_of_ble_eq_true rfl), (Nat.le_of_ble_eq_true rfl)⟩) (zx_preVq (ci := 2) (q0 := 0) hK (zmid_P hP) (zmid_D hD) hO hS (fun q h => by rw [zun_A]; exact zmid_fr h) rfl rfl) rfl rfl hl.1 rfl (lv_room (Nat.le_of_ble_eq_true rfl)) dL_pledge_7 ⟨(Nat.le_of_ble_eq_true rfl), (Nat.le_of_ble_eq_true rfl)⟩) hP hD hS (z_adr2 xmW_adr (z_adr2 bkW_adr otW_adr)) (z_adr2 xmW_adr (z_adr2 bkW_adr otW_adr)) rfl (fun E ce q9 H locs hX hP hS hce hcv hcl => ?_) (fun H locs hV hP hD hS => ?_)
  · have hP : va_P D vwCl (ouW cA o f ++ unW cA x b rd r X N B Bs) H := by rw [zun_A]; exact hP
    rcases hX with ⟨h1, rfl⟩ | ⟨h1, ⟨h2, rfl⟩ | ⟨h2, ⟨h3, rfl⟩ | ⟨h3, ⟨h4, rfl⟩ | ⟨h4, hX⟩⟩⟩⟩
    · refine vx_catch (own := RL) (name := "java/lang/IndexOutOfBoundsException") hown [] ⟨0, 12, 15, 13⟩ [⟨0, 12, 19, 15⟩] (zl_spl _ htab rfl) (fun z hz => nomatch hz) (by decide) (by decide) (hts (.classLink RL 13 "java/lang/IndexOutOfBoundsException") (List.mem_of_getElem? (i := 1) rfl)) (va_Nw.use rfl hO.2.2.2.1) hce hcv hcl ?_
      refine lv_astore (lv' := [(5, .ref q9), (0, .ref (x 0)), (1, .int i1), (2, .int i2), (3, .int am), (4, .ref o)]) hx hb dL_pledge_15 hl (by decide) rfl (fun ls hl => ?_)
      refine lv_iconst (v := 1) hx hb dL_pledge_17 (by decide) ?_
      exact zw_ret hx hb hr hlocks dL_pledge_18 (Or.inl ⟨h1, rfl⟩) (if_neg z10).symm hP hS (Nat.le_of_ble_eq_true rfl) (Nat.le_of_ble_eq_true rfl)
    · refine vx_catch (own := RL) (name := "java/lang/IndexOutOfBoundsException") hown [] ⟨0, 12, 15, 13⟩ [⟨0, 12, 19, 15⟩] (zl_spl _ htab rfl) (fun z hz => nomatch hz) (by decide) (by decide) (hts (.classLink RL 13 "java/lang/IndexOutOfBoundsException") (List.mem_of_getElem? (i := 1) rfl)) (va_Nw.use rfl hO.2.2.2.1) hce hcv hcl ?_
      refine lv_astore (lv' := [(5, .ref q9), (0, .ref (x 0)), (1, .int i1), (2, .int i2), (3, .int am), (4, .ref o)]) hx hb dL_pledge_15 hl (by decide) rfl (fun ls hl => ?_)
      refine lv_iconst (v := 1) hx hb dL_pledge_17 (by decide) ?_
      exact zw_ret hx hb hr hlocks dL_pledge_18 (Or.inr ⟨h1, Or.inl ⟨h2, rfl⟩⟩) (if_neg z10).symm hP hS (Nat.le_of_ble_eq_true rfl) (Nat.le_of_ble_eq_true rfl)
    · refine vx_catch (own := RL) (name := "java/lang/IllegalArgumentException") hown [⟨0, 12, 15, 13⟩] ⟨0, 12, 19, 15⟩ [] (zl_spl _ htab rfl) (fun z hz => by cases List.mem_singleton.mp hz; exact Or.inr ⟨by decide, _, (hts (.classLink RL 13 "java/lang/IndexOutOfBoundsException") (List.mem_of_getElem? (i := 1) rfl)), hn1⟩) (by decide) (by decide) (hts (.classLink RL 15 "java/lang/IllegalArgumentException") (List.mem_of_getElem? (i := 2) rfl)) (va_Nw.use rfl hO.2.2.2.2.1) hce hcv hcl ?_
      refine lv_astore (lv' := [(5, .ref q9), (0, .ref (x 0)), (1, .int i1), (2, .int i2), (3, .int am), (4, .ref o)]) hx hb dL_pledge_19 hl (by decide) rfl (fun ls hl => ?_)
      refine lv_iconst (v := 2) hx hb dL_pledge_21 (by decide) ?_
      exact zw_ret hx hb hr hlocks dL_pledge_22 (Or.inr ⟨h1, Or.inr ⟨h2, Or.inl ⟨h3, rfl⟩⟩⟩) (if_neg z20).symm hP hS (Nat.le_of_ble_eq_true rfl) (Nat.le_of_ble_eq_true rfl)
    · refine vx_catch (own := RL) (name := "java/lang/IllegalArgumentException") hown [⟨0, 12, 15, 13⟩] ⟨0, 12, 19, 15⟩ [] (zl_spl _ htab rfl) (fun z hz => by cases List.mem_singleton.mp hz; exact Or.inr ⟨by decide, _, (hts (.classLink RL 13 "java/lang/IndexOutOfBoundsException") (List.mem_of_getElem? (i := 1) rfl)), hn1⟩) (by decide) (by decide) (hts (.classLink RL 15 "java/lang/IllegalArgumentException") (List.mem_of_getElem? (i := 2) rfl)) (va_Nw.use rfl hO.2.2.2.2.1) hce hcv hcl ?_
      refine lv_astore (lv' := [(5, .ref q9), (0, .ref (x 0)), (1, .int i1), (2, .int i2), (3, .int am), (4, .ref o)]) hx hb dL_pledge_19 hl (by decide) rfl (fun ls hl => ?_)
      refine lv_iconst (v := 2) hx hb dL_pledge_21 (by decide) ?_
      exact zw_ret hx hb hr hlocks dL_pledge_22 (Or.inr ⟨h1, Or.inr ⟨h2, Or.inr ⟨h3, Or.inl ⟨h4, rfl⟩⟩⟩⟩) (if_neg z20).symm hP hS (Nat.le_of_ble_eq_true rfl) (Nat.le_of_ble_eq_true rfl)
    · exact hX.elim
  · have hP : va_P D vwCl (ouW cA o f ++ unW cA x b rd r X ((f_X2_pledge N B Bs i1 i2 am).2.1) ((f_X2_pledge N B Bs i1 i2 am).2.2.1) ((f_X2_pledge N B Bs i1 i2 am).2.2.2)) H := by rw [zun_A]; exact hP
    have hD : va_D (zfr (ouW cA o f ++ unW cA x b rd r X N B Bs)) (ouW cA o f ++ unW cA x b rd r X ((f_X2_pledge N B Bs i1 i2 am).2.1) ((f_X2_pledge N B Bs i1 i2 am).2.2.1) ((f_X2_pledge N B Bs i1 i2 am).2.2.2)) := by have h := hD; rw [← zun_A] at h; exact h
    refine lv_i2l hx hb dL_pledge_10 rfl ?_
    refine zw_last hx hb hK hP hD hS dL_pledge_11 (fun H locs hP hD hS => ?_)
    refine lv_goto (tgt := 23) hx hb dL_pledge_12 (by decide) ?_
    refine lv_iconst (v := 0) hx hb dL_pledge_23 (by decide) ?_
    exact zw_ret hx hb hr hlocks dL_pledge_24 (Or.inr ⟨hV.1, Or.inr ⟨hV.2.1, Or.inr ⟨hV.2.2.1, Or.inr ⟨hV.2.2.2.1, rfl⟩⟩⟩⟩) (if_pos rfl).symm hP hS (Nat.le_of_ble_eq_true rfl) (Nat.le_of_ble_eq_true rfl)
theorem zy_L_unpledge : yL_unpledge.cls = RL ∧ yL_unpledge.cls ≠ "java/lang/invoke/MethodHandle" ∧ yL_unpledge.cls ≠ "java/lang/invoke/VarHandle" ∧ (parseMethodDescriptor yL_unpledge.desc).map (fun d => d.parameters.length) = some 5 := by decide +kernel
set_option maxHeartbeats 4000000 in
set_option maxRecDepth 100000 in
theorem zl_unpledge (l : Launch) (hfl : l.stackTraces = false) (D : va_G) (cA : Nat → ClassId) (o : Nat) (f : Nat → Int64) (b : Nat → Nat → Nat) (rd : Nat) (r : Nat → Nat) (x : Nat → Nat) (X : BK) (N : NK) (B : BK) (Bs : Nat → BK) (i1 i2 am : Int32) (hpm : zpm N) (hsv2 : N 0 0 ≤ 6) : Met l yL_unpledge wsL_unpledge (zrx 9 155 4 24) (zPw D cA [.ref (x 0), .int i1, .int i2, .int am, .ref o] (ouW cA o f ++ unW cA x b rd r X N B Bs)) (zW D (ouW cA o f ++ unW cA x b rd r X N B Bs) [(zmem i1, 1), (zmem i2, 1), (¬ i1 = i2, 2), (zrg am 1 9999, 2)] (ouW cA o (vp_updL f 0 ((f_X2_unpledge N B Bs i1 i2 am).1).toInt64) ++ unW cA x b rd r X ((f_X2_unpledge N B Bs i1 i2 am).2.1) ((f_X2_unpledge N B Bs i1 i2 am).2.2.1) ((f_X2_unpledge N B Bs i1 i2 am).2.2.2)) (ouW cA o f ++ unW cA x b rd r X N B Bs)) 4 24 (zfr (ouW cA o f ++ unW cA x b rd r X N B Bs)) := by
  refine va_MetW (cc := cL_unpledge) (maxL := 6) (ret := (some .int)) (hh := [(0, 12, 15, 13), (0, 12, 19, 15)]) (by decide) rfl ?_
  intro p e s m args below meth c s₁ Bd hml hv
  obtain ⟨rfl, hP, hK, hD0, hO, hn1, hn2⟩ := hv
  have hx := Bd.exec
  have hb := Bd.bytes
  have hr := Bd.returns
  have hts := atoms_spec (ws := wsL_unpledge) Bd.pre
  have hown : s.vm.findClass RL = some m.cls := findClass_of_methodNamed Bd.named
  have hlocks := Bd.notSynchronized
  have htab := vx_table (x := yL_unpledge) Bd (hts _ List.mem_cons_self)
  have hD := z_Dfr hD0
  have hS : va_S (zfr (ouW cA o f ++ unW cA x b rd r X N B Bs)) s.heap s.heap [] := va_S.rf
  have hl := lv_entry ([.ref (x 0), .int i1, .int i2, .int am, .ref o]) (n := 6) (Nat.le_of_ble_eq_true rfl)
  rw [lg_entry_eq]
  generalize (lg_sl ([.ref (x 0), .int i1, .int i2, .int am, .ref o]) ++ List.replicate (6 - (lg_sl ([.ref (x 0), .int i1, .int i2, .int am, .ref o])).length) Slot.unset).toArray = ls at hl ⊢
  have hl : lv_has ls 6 [(0, .ref (x 0)), (1, .int i1), (2, .int i2), (3, .int am), (4, .ref o)] := hl
  refine lv_aload hx hb dL_unpledge_0 (lv_at hl 4 rfl) ?_
  refine lv_iconst (v := 0) hx hb dL_unpledge_2 (by decide) ?_
  refine lv_aload_n hx hb dL_unpledge_3 rfl (lv_at hl 0 rfl) ?_
  refine lv_iload_n hx hb dL_unpledge_4 rfl (lv_at hl 1 rfl) ?_
  refine lv_iload_n hx hb dL_unpledge_5 rfl (lv_at hl 2 rfl) ?_
  refine lv_iload_n hx hb dL_unpledge_6 rfl (lv_at hl 3 rfl) ?_
  rw [zun_A] at hP
  have hD : va_D (zfr (ouW cA o f ++ unW cA x b rd r X N B Bs)) ((ouW cA o f ++ rdW rd r) ++ ((xmW cA x b rd X N ++ (bkW (cA 0) (b 0) B ++ otW (cA 0) b Bs)) ++ ([] : va_W))) := by rw [← zun_A]; exact hD
  refine zw_call (X := (ouW cA o f ++ rdW rd r)) (Z := ([] : va_W)) (vx_runV (As := [.int i1, .int i2, .int am]) (rest := [.int 0, .ref o]) ⟨hx, hb, hml, hown, hts⟩ (zk_X2_unpledge l hfl D cA b rd x X N B Bs i1 i2 am hpm hsv2) (cwV 3 hts gL_unpledge_X2_unpledge rfl rfl rfl zy_X2_unpledge ⟨(Nat.le_of_ble_eq_true rfl), (Nat.le_of_ble_eq_true rfl)⟩) (zx_preVq (ci := 2) (q0 := 0) hK (zmid_P hP) (zmid_D hD) hO hS (fun q h => by rw [zun_A]; exact zmid_fr h) rfl rfl) rfl rfl hl.1 rfl (lv_room (Nat.le_of_ble_eq_true rfl)) dL_unpledge_7 ⟨(Nat.le_of_ble_eq_true rfl), (Nat.le_of_ble_eq_true rfl)⟩) hP hD hS (z_adr2 xmW_adr (z_adr2 bkW_adr otW_adr)) (z_adr2 xmW_adr (z_adr2 bkW_adr otW_adr)) rfl (fun E ce q9 H locs hX hP hS hce hcv hcl => ?_) (fun H locs hV hP hD hS => ?_)
  · have hP : va_P D vwCl (ouW cA o f ++ unW cA x b rd r X N B Bs) H := by rw [zun_A]; exact hP
    rcases hX with ⟨h1, rfl⟩ | ⟨h1, ⟨h2, rfl⟩ | ⟨h2, ⟨h3, rfl⟩ | ⟨h3, ⟨h4, rfl⟩ | ⟨h4, hX⟩⟩⟩⟩
    · refine vx_catch (own := RL) (name := "java/lang/IndexOutOfBoundsException") hown [] ⟨0, 12, 15, 13⟩ [⟨0, 12, 19, 15⟩] (zl_spl _ htab rfl) (fun z hz => nomatch hz) (by decide) (by decide) (hts (.classLink RL 13 "java/lang/IndexOutOfBoundsException") (List.mem_of_getElem? (i := 1) rfl)) (va_Nw.use rfl hO.2.2.2.1) hce hcv hcl ?_
      refine lv_astore (lv' := [(5, .ref q9), (0, .ref (x 0)), (1, .int i1), (2, .int i2), (3, .int am), (4, .ref o)]) hx hb dL_unpledge_15 hl (by decide) rfl (fun ls hl => ?_)
      refine lv_iconst (v := 1) hx hb dL_unpledge_17 (by decide) ?_
      exact zw_ret hx hb hr hlocks dL_unpledge_18 (Or.inl ⟨h1, rfl⟩) (if_neg z10).symm hP hS (Nat.le_of_ble_eq_true rfl) (Nat.le_of_ble_eq_true rfl)
    · refine vx_catch (own := RL) (name := "java/lang/IndexOutOfBoundsException") hown [] ⟨0, 12, 15, 13⟩ [⟨0, 12, 19, 15⟩] (zl_spl _ htab rfl) (fun z hz => nomatch hz) (by decide) (by decide) (hts (.classLink RL 13 "java/lang/IndexOutOfBoundsException") (List.mem_of_getElem? (i := 1) rfl)) (va_Nw.use rfl hO.2.2.2.1) hce hcv hcl ?_
      refine lv_astore (lv' := [(5, .ref q9), (0, .ref (x 0)), (1, .int i1), (2, .int i2), (3, .int am), (4, .ref o)]) hx hb dL_unpledge_15 hl (by decide) rfl (fun ls hl => ?_)
      refine lv_iconst (v := 1) hx hb dL_unpledge_17 (by decide) ?_
      exact zw_ret hx hb hr hlocks dL_unpledge_18 (Or.inr ⟨h1, Or.inl ⟨h2, rfl⟩⟩) (if_neg z10).symm hP hS (Nat.le_of_ble_eq_true rfl) (Nat.le_of_ble_eq_true rfl)
    · refine vx_catch (own := RL) (name := "java/lang/IllegalArgumentException") hown [⟨0, 12, 15, 13⟩] ⟨0, 12, 19, 15⟩ [] (zl_spl _ htab rfl) (fun z hz => by cases List.mem_singleton.mp hz; exact Or.inr ⟨by decide, _, (hts (.classLink RL 13 "java/lang/IndexOutOfBoundsException") (List.mem_of_getElem? (i := 1) rfl)), hn1⟩) (by decide) (by decide) (hts (.classLink RL 15 "java/lang/IllegalArgumentException") (List.mem_of_getElem? (i := 2) rfl)) (va_Nw.use rfl hO.2.2.2.2.1) hce hcv hcl ?_
      refine lv_astore (lv' := [(5, .ref q9), (0, .ref (x 0)), (1, .int i1), (2, .int i2), (3, .int am), (4, .ref o)]) hx hb dL_unpledge_19 hl (by decide) rfl (fun ls hl => ?_)
      refine lv_iconst (v := 2) hx hb dL_unpledge_21 (by decide) ?_
      exact zw_ret hx hb hr hlocks dL_unpledge_22 (Or.inr ⟨h1, Or.inr ⟨h2, Or.inl ⟨h3, rfl⟩⟩⟩) (if_neg z20).symm hP hS (Nat.le_of_ble_eq_true rfl) (Nat.le_of_ble_eq_true rfl)
    · refine vx_catch (own := RL) (name := "java/lang/IllegalArgumentException") hown [⟨0, 12, 15, 13⟩] ⟨0, 12, 19, 15⟩ [] (zl_spl _ htab rfl) (fun z hz => by cases List.mem_singleton.mp hz; exact Or.inr ⟨by decide, _, (hts (.classLink RL 13 "java/lang/IndexOutOfBoundsException") (List.mem_of_getElem? (i := 1) rfl)), hn1⟩) (by decide) (by decide) (hts (.classLink RL 15 "java/lang/IllegalArgumentException") (List.mem_of_getElem? (i := 2) rfl)) (va_Nw.use rfl hO.2.2.2.2.1) hce hcv hcl ?_
      refine lv_astore (lv' := [(5, .ref q9), (0, .ref (x 0)), (1, .int i1), (2, .int i2), (3, .int am), (4, .ref o)]) hx hb dL_unpledge_19 hl (by decide) rfl (fun ls hl => ?_)
      refine lv_iconst (v := 2) hx hb dL_unpledge_21 (by decide) ?_
      exact zw_ret hx hb hr hlocks dL_unpledge_22 (Or.inr ⟨h1, Or.inr ⟨h2, Or.inr ⟨h3, Or.inl ⟨h4, rfl⟩⟩⟩⟩) (if_neg z20).symm hP hS (Nat.le_of_ble_eq_true rfl) (Nat.le_of_ble_eq_true rfl)
    · exact hX.elim
  · have hP : va_P D vwCl (ouW cA o f ++ unW cA x b rd r X ((f_X2_unpledge N B Bs i1 i2 am).2.1) ((f_X2_unpledge N B Bs i1 i2 am).2.2.1) ((f_X2_unpledge N B Bs i1 i2 am).2.2.2)) H := by rw [zun_A]; exact hP
    have hD : va_D (zfr (ouW cA o f ++ unW cA x b rd r X N B Bs)) (ouW cA o f ++ unW cA x b rd r X ((f_X2_unpledge N B Bs i1 i2 am).2.1) ((f_X2_unpledge N B Bs i1 i2 am).2.2.1) ((f_X2_unpledge N B Bs i1 i2 am).2.2.2)) := by have h := hD; rw [← zun_A] at h; exact h
    refine lv_i2l hx hb dL_unpledge_10 rfl ?_
    refine zw_last hx hb hK hP hD hS dL_unpledge_11 (fun H locs hP hD hS => ?_)
    refine lv_goto (tgt := 23) hx hb dL_unpledge_12 (by decide) ?_
    refine lv_iconst (v := 0) hx hb dL_unpledge_23 (by decide) ?_
    exact zw_ret hx hb hr hlocks dL_unpledge_24 (Or.inr ⟨hV.1, Or.inr ⟨hV.2.1, Or.inr ⟨hV.2.2.1, Or.inr ⟨hV.2.2.2.1, rfl⟩⟩⟩⟩) (if_pos rfl).symm hP hS (Nat.le_of_ble_eq_true rfl) (Nat.le_of_ble_eq_true rfl)
theorem zy_L_borrow : yL_borrow.cls = RL ∧ yL_borrow.cls ≠ "java/lang/invoke/MethodHandle" ∧ yL_borrow.cls ≠ "java/lang/invoke/VarHandle" ∧ (parseMethodDescriptor yL_borrow.desc).map (fun d => d.parameters.length) = some 5 := by decide +kernel
set_option maxHeartbeats 4000000 in
set_option maxRecDepth 100000 in
theorem zl_borrow (l : Launch) (hfl : l.stackTraces = false) (D : va_G) (cA : Nat → ClassId) (o : Nat) (f : Nat → Int64) (b : Nat → Nat → Nat) (rd : Nat) (r : Nat → Nat) (x : Nat → Nat) (X : BK) (N : NK) (B : BK) (Bs : Nat → BK) (i1 am i3 : Int32) (hpm : zpm N) (hsv2 : N 0 0 ≤ 6) : Met l yL_borrow wsL_borrow (zrx 9 155 3 18) (zPw D cA [.ref (x 0), .int i1, .int am, .int i3, .ref o] (ouW cA o f ++ unW cA x b rd r X N B Bs)) (zW D (ouW cA o f ++ unW cA x b rd r X N B Bs) [(zmem i1, 1), (zrg am 1 9999, 2), (zrg i3 1 52, 2)] (ouW cA o (vp_updL f 0 ((f_X2_borrow N B Bs i1 am i3).1).toInt64) ++ unW cA x b rd r X ((f_X2_borrow N B Bs i1 am i3).2.1) ((f_X2_borrow N B Bs i1 am i3).2.2.1) ((f_X2_borrow N B Bs i1 am i3).2.2.2)) (ouW cA o f ++ unW cA x b rd r X N B Bs)) 3 18 (zfr (ouW cA o f ++ unW cA x b rd r X N B Bs)) := by
  refine va_MetW (cc := cL_borrow) (maxL := 6) (ret := (some .int)) (hh := [(0, 12, 15, 13), (0, 12, 19, 15)]) (by decide) rfl ?_
  intro p e s m args below meth c s₁ Bd hml hv
  obtain ⟨rfl, hP, hK, hD0, hO, hn1, hn2⟩ := hv
  have hx := Bd.exec
  have hb := Bd.bytes
  have hr := Bd.returns
  have hts := atoms_spec (ws := wsL_borrow) Bd.pre
  have hown : s.vm.findClass RL = some m.cls := findClass_of_methodNamed Bd.named
  have hlocks := Bd.notSynchronized
  have htab := vx_table (x := yL_borrow) Bd (hts _ List.mem_cons_self)
  have hD := z_Dfr hD0
  have hS : va_S (zfr (ouW cA o f ++ unW cA x b rd r X N B Bs)) s.heap s.heap [] := va_S.rf
  have hl := lv_entry ([.ref (x 0), .int i1, .int am, .int i3, .ref o]) (n := 6) (Nat.le_of_ble_eq_true rfl)
  rw [lg_entry_eq]
  generalize (lg_sl ([.ref (x 0), .int i1, .int am, .int i3, .ref o]) ++ List.replicate (6 - (lg_sl ([.ref (x 0), .int i1, .int am, .int i3, .ref o])).length) Slot.unset).toArray = ls at hl ⊢
  have hl : lv_has ls 6 [(0, .ref (x 0)), (1, .int i1), (2, .int am), (3, .int i3), (4, .ref o)] := hl
  refine lv_aload hx hb dL_borrow_0 (lv_at hl 4 rfl) ?_
  refine lv_iconst (v := 0) hx hb dL_borrow_2 (by decide) ?_
  refine lv_aload_n hx hb dL_borrow_3 rfl (lv_at hl 0 rfl) ?_
  refine lv_iload_n hx hb dL_borrow_4 rfl (lv_at hl 1 rfl) ?_
  refine lv_iload_n hx hb dL_borrow_5 rfl (lv_at hl 2 rfl) ?_
  refine lv_iload_n hx hb dL_borrow_6 rfl (lv_at hl 3 rfl) ?_
  rw [zun_A] at hP
  have hD : va_D (zfr (ouW cA o f ++ unW cA x b rd r X N B Bs)) ((ouW cA o f ++ rdW rd r) ++ ((xmW cA x b rd X N ++ (bkW (cA 0) (b 0) B ++ otW (cA 0) b Bs)) ++ ([] : va_W))) := by rw [← zun_A]; exact hD
  refine zw_call (X := (ouW cA o f ++ rdW rd r)) (Z := ([] : va_W)) (vx_runV (As := [.int i1, .int am, .int i3]) (rest := [.int 0, .ref o]) ⟨hx, hb, hml, hown, hts⟩ (zk_X2_borrow l hfl D cA b rd x X N B Bs i1 am i3 hpm hsv2) (cwV 3 hts gL_borrow_X2_borrow rfl rfl rfl zy_X2_borrow ⟨(Nat.le_of_ble_eq_true rfl), (Nat.le_of_ble_eq_true rfl)⟩) (zx_preVq (ci := 2) (q0 := 0) hK (zmid_P hP) (zmid_D hD) hO hS (fun q h => by rw [zun_A]; exact zmid_fr h) rfl rfl) rfl rfl hl.1 rfl (lv_room (Nat.le_of_ble_eq_true rfl)) dL_borrow_7 ⟨(Nat.le_of_ble_eq_true rfl), (Nat.le_of_ble_eq_true rfl)⟩) hP hD hS (z_adr2 xmW_adr (z_adr2 bkW_adr otW_adr)) (z_adr2 xmW_adr (z_adr2 bkW_adr otW_adr)) rfl (fun E ce q9 H locs hX hP hS hce hcv hcl => ?_) (fun H locs hV hP hD hS => ?_)
  · have hP : va_P D vwCl (ouW cA o f ++ unW cA x b rd r X N B Bs) H := by rw [zun_A]; exact hP
    rcases hX with ⟨h1, rfl⟩ | ⟨h1, ⟨h2, rfl⟩ | ⟨h2, ⟨h3, rfl⟩ | ⟨h3, hX⟩⟩⟩
    · refine vx_catch (own := RL) (name := "java/lang/IndexOutOfBoundsException") hown [] ⟨0, 12, 15, 13⟩ [⟨0, 12, 19, 15⟩] (zl_spl _ htab rfl) (fun z hz => nomatch hz) (by decide) (by decide) (hts (.classLink RL 13 "java/lang/IndexOutOfBoundsException") (List.mem_of_getElem? (i := 1) rfl)) (va_Nw.use rfl hO.2.2.2.1) hce hcv hcl ?_
      refine lv_astore (lv' := [(5, .ref q9), (0, .ref (x 0)), (1, .int i1), (2, .int am), (3, .int i3), (4, .ref o)]) hx hb dL_borrow_15 hl (by decide) rfl (fun ls hl => ?_)
      refine lv_iconst (v := 1) hx hb dL_borrow_17 (by decide) ?_
      exact zw_ret hx hb hr hlocks dL_borrow_18 (Or.inl ⟨h1, rfl⟩) (if_neg z10).symm hP hS (Nat.le_of_ble_eq_true rfl) (Nat.le_of_ble_eq_true rfl)
    · refine vx_catch (own := RL) (name := "java/lang/IllegalArgumentException") hown [⟨0, 12, 15, 13⟩] ⟨0, 12, 19, 15⟩ [] (zl_spl _ htab rfl) (fun z hz => by cases List.mem_singleton.mp hz; exact Or.inr ⟨by decide, _, (hts (.classLink RL 13 "java/lang/IndexOutOfBoundsException") (List.mem_of_getElem? (i := 1) rfl)), hn1⟩) (by decide) (by decide) (hts (.classLink RL 15 "java/lang/IllegalArgumentException") (List.mem_of_getElem? (i := 2) rfl)) (va_Nw.use rfl hO.2.2.2.2.1) hce hcv hcl ?_
      refine lv_astore (lv' := [(5, .ref q9), (0, .ref (x 0)), (1, .int i1), (2, .int am), (3, .int i3), (4, .ref o)]) hx hb dL_borrow_19 hl (by decide) rfl (fun ls hl => ?_)
      refine lv_iconst (v := 2) hx hb dL_borrow_21 (by decide) ?_
      exact zw_ret hx hb hr hlocks dL_borrow_22 (Or.inr ⟨h1, Or.inl ⟨h2, rfl⟩⟩) (if_neg z20).symm hP hS (Nat.le_of_ble_eq_true rfl) (Nat.le_of_ble_eq_true rfl)
    · refine vx_catch (own := RL) (name := "java/lang/IllegalArgumentException") hown [⟨0, 12, 15, 13⟩] ⟨0, 12, 19, 15⟩ [] (zl_spl _ htab rfl) (fun z hz => by cases List.mem_singleton.mp hz; exact Or.inr ⟨by decide, _, (hts (.classLink RL 13 "java/lang/IndexOutOfBoundsException") (List.mem_of_getElem? (i := 1) rfl)), hn1⟩) (by decide) (by decide) (hts (.classLink RL 15 "java/lang/IllegalArgumentException") (List.mem_of_getElem? (i := 2) rfl)) (va_Nw.use rfl hO.2.2.2.2.1) hce hcv hcl ?_
      refine lv_astore (lv' := [(5, .ref q9), (0, .ref (x 0)), (1, .int i1), (2, .int am), (3, .int i3), (4, .ref o)]) hx hb dL_borrow_19 hl (by decide) rfl (fun ls hl => ?_)
      refine lv_iconst (v := 2) hx hb dL_borrow_21 (by decide) ?_
      exact zw_ret hx hb hr hlocks dL_borrow_22 (Or.inr ⟨h1, Or.inr ⟨h2, Or.inl ⟨h3, rfl⟩⟩⟩) (if_neg z20).symm hP hS (Nat.le_of_ble_eq_true rfl) (Nat.le_of_ble_eq_true rfl)
    · exact hX.elim
  · have hP : va_P D vwCl (ouW cA o f ++ unW cA x b rd r X ((f_X2_borrow N B Bs i1 am i3).2.1) ((f_X2_borrow N B Bs i1 am i3).2.2.1) ((f_X2_borrow N B Bs i1 am i3).2.2.2)) H := by rw [zun_A]; exact hP
    have hD : va_D (zfr (ouW cA o f ++ unW cA x b rd r X N B Bs)) (ouW cA o f ++ unW cA x b rd r X ((f_X2_borrow N B Bs i1 am i3).2.1) ((f_X2_borrow N B Bs i1 am i3).2.2.1) ((f_X2_borrow N B Bs i1 am i3).2.2.2)) := by have h := hD; rw [← zun_A] at h; exact h
    refine lv_i2l hx hb dL_borrow_10 rfl ?_
    refine zw_last hx hb hK hP hD hS dL_borrow_11 (fun H locs hP hD hS => ?_)
    refine lv_goto (tgt := 23) hx hb dL_borrow_12 (by decide) ?_
    refine lv_iconst (v := 0) hx hb dL_borrow_23 (by decide) ?_
    exact zw_ret hx hb hr hlocks dL_borrow_24 (Or.inr ⟨hV.1, Or.inr ⟨hV.2.1, Or.inr ⟨hV.2.2.1, rfl⟩⟩⟩) (if_pos rfl).symm hP hS (Nat.le_of_ble_eq_true rfl) (Nat.le_of_ble_eq_true rfl)
theorem zy_L_week : yL_week.cls = RL ∧ yL_week.cls ≠ "java/lang/invoke/MethodHandle" ∧ yL_week.cls ≠ "java/lang/invoke/VarHandle" ∧ (parseMethodDescriptor yL_week.desc).map (fun d => d.parameters.length) = some 2 := by decide +kernel
set_option maxHeartbeats 4000000 in
set_option maxRecDepth 100000 in
theorem zl_week (l : Launch) (hfl : l.stackTraces = false) (D : va_G) (cA : Nat → ClassId) (o : Nat) (f : Nat → Int64) (b : Nat → Nat → Nat) (rd : Nat) (r : Nat → Nat) (x : Nat → Nat) (X : BK) (N : NK) (B : BK) (Bs : Nat → BK) (hpm : zpm N) (hsv2 : N 0 0 ≤ 6) : Met l yL_week wsL_week (zrx 7 134 1 6) (zPw D cA [.ref (x 0), .ref o] (ouW cA o f ++ unW cA x b rd r X N B Bs)) (zW D (ouW cA o f ++ unW cA x b rd r X N B Bs) [(¬ f_X0_canEndWeek B = 0, 1)] (ouW cA o (vp_updL f 0 ((f_X2_week N B Bs).1).toInt64) ++ unW cA x b rd r X ((f_X2_week N B Bs).2.1) ((f_X2_week N B Bs).2.2.1) ((f_X2_week N B Bs).2.2.2)) (ouW cA o f ++ unW cA x b rd r X N B Bs)) 1 6 (zfr (ouW cA o f ++ unW cA x b rd r X N B Bs)) := by
  refine va_MetW (cc := cL_week) (maxL := 3) (ret := (some .int)) (hh := [(0, 8, 11, 37)]) (by decide) rfl ?_
  intro p e s m args below meth c s₁ Bd hml hv
  obtain ⟨rfl, hP, hK, hD0, hO, hn1, hn2⟩ := hv
  have hx := Bd.exec
  have hb := Bd.bytes
  have hr := Bd.returns
  have hts := atoms_spec (ws := wsL_week) Bd.pre
  have hown : s.vm.findClass RL = some m.cls := findClass_of_methodNamed Bd.named
  have hlocks := Bd.notSynchronized
  have htab := vx_table (x := yL_week) Bd (hts _ List.mem_cons_self)
  have hD := z_Dfr hD0
  have hS : va_S (zfr (ouW cA o f ++ unW cA x b rd r X N B Bs)) s.heap s.heap [] := va_S.rf
  have hl := lv_entry ([.ref (x 0), .ref o]) (n := 3) (Nat.le_of_ble_eq_true rfl)
  rw [lg_entry_eq]
  generalize (lg_sl ([.ref (x 0), .ref o]) ++ List.replicate (3 - (lg_sl ([.ref (x 0), .ref o])).length) Slot.unset).toArray = ls at hl ⊢
  have hl : lv_has ls 3 [(0, .ref (x 0)), (1, .ref o)] := hl
  refine lv_aload_n hx hb dL_week_0 rfl (lv_at hl 1 rfl) ?_
  refine lv_iconst (v := 0) hx hb dL_week_1 (by decide) ?_
  refine lv_aload_n hx hb dL_week_2 rfl (lv_at hl 0 rfl) ?_
  rw [zun_A] at hP
  have hD : va_D (zfr (ouW cA o f ++ unW cA x b rd r X N B Bs)) ((ouW cA o f ++ rdW rd r) ++ ((xmW cA x b rd X N ++ (bkW (cA 0) (b 0) B ++ otW (cA 0) b Bs)) ++ ([] : va_W))) := by rw [← zun_A]; exact hD
  refine zw_call (X := (ouW cA o f ++ rdW rd r)) (Z := ([] : va_W)) (vx_runV (As := []) (rest := [.int 0, .ref o]) ⟨hx, hb, hml, hown, hts⟩ (zk_X2_week l hfl D cA b rd x X N B Bs hpm hsv2) (cwV 0 hts gL_week_X2_week rfl rfl rfl zy_X2_week ⟨(Nat.le_of_ble_eq_true rfl), (Nat.le_of_ble_eq_true rfl)⟩) (zx_preVq (ci := 2) (q0 := 0) hK (zmid_P hP) (zmid_D hD) hO hS (fun q h => by rw [zun_A]; exact zmid_fr h) rfl rfl) rfl rfl hl.1 rfl (lv_room (Nat.le_of_ble_eq_true rfl)) dL_week_3 ⟨(Nat.le_of_ble_eq_true rfl), (Nat.le_of_ble_eq_true rfl)⟩) hP hD hS (z_adr2 xmW_adr (z_adr2 bkW_adr otW_adr)) (z_adr2 xmW_adr (z_adr2 bkW_adr otW_adr)) rfl (fun E ce q9 H locs hX hP hS hce hcv hcl => ?_) (fun H locs hV hP hD hS => ?_)
  · have hP : va_P D vwCl (ouW cA o f ++ unW cA x b rd r X N B Bs) H := by rw [zun_A]; exact hP
    rcases hX with ⟨h1, rfl⟩ | ⟨h1, hX⟩
    · refine vx_catch (own := RL) (name := "java/lang/IllegalStateException") hown [] ⟨0, 8, 11, 37⟩ [] (zl_spl _ htab rfl) (fun z hz => nomatch hz) (by decide) (by decide) (hts (.classLink RL 37 "java/lang/IllegalStateException") (List.mem_of_getElem? (i := 1) rfl)) (va_Nw.use rfl hO.2.2.2.2.2.1) hce hcv hcl ?_
      refine lv_astore_n (i := 2) (lv' := [(2, .ref q9), (0, .ref (x 0)), (1, .ref o)]) hx hb dL_week_11 rfl hl (by decide) rfl (fun ls hl => ?_)
      refine lv_iconst (v := 1) hx hb dL_week_12 (by decide) ?_
      exact zw_ret hx hb hr hlocks dL_week_13 (Or.inl ⟨h1, rfl⟩) (if_neg z10).symm hP hS (Nat.le_of_ble_eq_true rfl) (Nat.le_of_ble_eq_true rfl)
    · exact hX.elim
  · have hP : va_P D vwCl (ouW cA o f ++ unW cA x b rd r X ((f_X2_week N B Bs).2.1) ((f_X2_week N B Bs).2.2.1) ((f_X2_week N B Bs).2.2.2)) H := by rw [zun_A]; exact hP
    have hD : va_D (zfr (ouW cA o f ++ unW cA x b rd r X N B Bs)) (ouW cA o f ++ unW cA x b rd r X ((f_X2_week N B Bs).2.1) ((f_X2_week N B Bs).2.2.1) ((f_X2_week N B Bs).2.2.2)) := by have h := hD; rw [← zun_A] at h; exact h
    refine lv_i2l hx hb dL_week_6 rfl ?_
    refine zw_last hx hb hK hP hD hS dL_week_7 (fun H locs hP hD hS => ?_)
    refine lv_goto (tgt := 14) hx hb dL_week_8 (by decide) ?_
    refine lv_iconst (v := 0) hx hb dL_week_14 (by decide) ?_
    exact zw_ret hx hb hr hlocks dL_week_15 (Or.inr ⟨hV.1, rfl⟩) (if_pos rfl).symm hP hS (Nat.le_of_ble_eq_true rfl) (Nat.le_of_ble_eq_true rfl)
theorem zy_L_pass : yL_pass.cls = RL ∧ yL_pass.cls ≠ "java/lang/invoke/MethodHandle" ∧ yL_pass.cls ≠ "java/lang/invoke/VarHandle" ∧ (parseMethodDescriptor yL_pass.desc).map (fun d => d.parameters.length) = some 3 := by decide +kernel
set_option maxHeartbeats 4000000 in
set_option maxRecDepth 100000 in
theorem zl_pass (l : Launch) (hfl : l.stackTraces = false) (D : va_G) (cA : Nat → ClassId) (o : Nat) (f : Nat → Int64) (b : Nat → Nat → Nat) (rd : Nat) (r : Nat → Nat) (x : Nat → Nat) (X : BK) (N : NK) (B : BK) (Bs : Nat → BK) (dd : Int32) (hpm : zpm N) (hsv2 : N 0 0 ≤ 6) : Met l yL_pass wsL_pass (zrx 8 133 2 12) (zPw D cA [.ref (x 0), .int dd, .ref o] (ouW cA o f ++ unW cA x b rd r X N B Bs)) (zW D (ouW cA o f ++ unW cA x b rd r X N B Bs) [(zrg dd 1 99, 1), (¬ f_X0_canAddDays B dd = 0, 2)] (ouW cA o (vp_updL f 0 ((f_X2_pass N B Bs dd).1).toInt64) ++ unW cA x b rd r X ((f_X2_pass N B Bs dd).2.1) ((f_X2_pass N B Bs dd).2.2.1) ((f_X2_pass N B Bs dd).2.2.2)) (ouW cA o f ++ unW cA x b rd r X N B Bs)) 2 12 (zfr (ouW cA o f ++ unW cA x b rd r X N B Bs)) := by
  refine va_MetW (cc := cL_pass) (maxL := 4) (ret := (some .int)) (hh := [(0, 9, 12, 15), (0, 9, 15, 37)]) (by decide) rfl ?_
  intro p e s m args below meth c s₁ Bd hml hv
  obtain ⟨rfl, hP, hK, hD0, hO, hn1, hn2⟩ := hv
  have hx := Bd.exec
  have hb := Bd.bytes
  have hr := Bd.returns
  have hts := atoms_spec (ws := wsL_pass) Bd.pre
  have hown : s.vm.findClass RL = some m.cls := findClass_of_methodNamed Bd.named
  have hlocks := Bd.notSynchronized
  have htab := vx_table (x := yL_pass) Bd (hts _ List.mem_cons_self)
  have hD := z_Dfr hD0
  have hS : va_S (zfr (ouW cA o f ++ unW cA x b rd r X N B Bs)) s.heap s.heap [] := va_S.rf
  have hl := lv_entry ([.ref (x 0), .int dd, .ref o]) (n := 4) (Nat.le_of_ble_eq_true rfl)
  rw [lg_entry_eq]
  generalize (lg_sl ([.ref (x 0), .int dd, .ref o]) ++ List.replicate (4 - (lg_sl ([.ref (x 0), .int dd, .ref o])).length) Slot.unset).toArray = ls at hl ⊢
  have hl : lv_has ls 4 [(0, .ref (x 0)), (1, .int dd), (2, .ref o)] := hl
  refine lv_aload_n hx hb dL_pass_0 rfl (lv_at hl 2 rfl) ?_
  refine lv_iconst (v := 0) hx hb dL_pass_1 (by decide) ?_
  refine lv_aload_n hx hb dL_pass_2 rfl (lv_at hl 0 rfl) ?_
  refine lv_iload_n hx hb dL_pass_3 rfl (lv_at hl 1 rfl) ?_
  rw [zun_A] at hP
  have hD : va_D (zfr (ouW cA o f ++ unW cA x b rd r X N B Bs)) ((ouW cA o f ++ rdW rd r) ++ ((xmW cA x b rd X N ++ (bkW (cA 0) (b 0) B ++ otW (cA 0) b Bs)) ++ ([] : va_W))) := by rw [← zun_A]; exact hD
  refine zw_call (X := (ouW cA o f ++ rdW rd r)) (Z := ([] : va_W)) (vx_runV (As := [.int dd]) (rest := [.int 0, .ref o]) ⟨hx, hb, hml, hown, hts⟩ (zk_X2_pass l hfl D cA b rd x X N B Bs dd hpm hsv2) (cwV 1 hts gL_pass_X2_pass rfl rfl rfl zy_X2_pass ⟨(Nat.le_of_ble_eq_true rfl), (Nat.le_of_ble_eq_true rfl)⟩) (zx_preVq (ci := 2) (q0 := 0) hK (zmid_P hP) (zmid_D hD) hO hS (fun q h => by rw [zun_A]; exact zmid_fr h) rfl rfl) rfl rfl hl.1 rfl (lv_room (Nat.le_of_ble_eq_true rfl)) dL_pass_4 ⟨(Nat.le_of_ble_eq_true rfl), (Nat.le_of_ble_eq_true rfl)⟩) hP hD hS (z_adr2 xmW_adr (z_adr2 bkW_adr otW_adr)) (z_adr2 xmW_adr (z_adr2 bkW_adr otW_adr)) rfl (fun E ce q9 H locs hX hP hS hce hcv hcl => ?_) (fun H locs hV hP hD hS => ?_)
  · have hP : va_P D vwCl (ouW cA o f ++ unW cA x b rd r X N B Bs) H := by rw [zun_A]; exact hP
    rcases hX with ⟨h1, rfl⟩ | ⟨h1, ⟨h2, rfl⟩ | ⟨h2, hX⟩⟩
    · refine vx_catch (own := RL) (name := "java/lang/IllegalArgumentException") hown [] ⟨0, 9, 12, 15⟩ [⟨0, 9, 15, 37⟩] (zl_spl _ htab rfl) (fun z hz => nomatch hz) (by decide) (by decide) (hts (.classLink RL 15 "java/lang/IllegalArgumentException") (List.mem_of_getElem? (i := 1) rfl)) (va_Nw.use rfl hO.2.2.2.2.1) hce hcv hcl ?_
      refine lv_astore_n (i := 3) (lv' := [(3, .ref q9), (0, .ref (x 0)), (1, .int dd), (2, .ref o)]) hx hb dL_pass_12 rfl hl (by decide) rfl (fun ls hl => ?_)
      refine lv_iconst (v := 1) hx hb dL_pass_13 (by decide) ?_
      exact zw_ret hx hb hr hlocks dL_pass_14 (Or.inl ⟨h1, rfl⟩) (if_neg z10).symm hP hS (Nat.le_of_ble_eq_true rfl) (Nat.le_of_ble_eq_true rfl)
    · refine vx_catch (own := RL) (name := "java/lang/IllegalStateException") hown [⟨0, 9, 12, 15⟩] ⟨0, 9, 15, 37⟩ [] (zl_spl _ htab rfl) (fun z hz => by cases List.mem_singleton.mp hz; exact Or.inr ⟨by decide, _, (hts (.classLink RL 15 "java/lang/IllegalArgumentException") (List.mem_of_getElem? (i := 1) rfl)), hn2⟩) (by decide) (by decide) (hts (.classLink RL 37 "java/lang/IllegalStateException") (List.mem_of_getElem? (i := 2) rfl)) (va_Nw.use rfl hO.2.2.2.2.2.1) hce hcv hcl ?_
      refine lv_astore_n (i := 3) (lv' := [(3, .ref q9), (0, .ref (x 0)), (1, .int dd), (2, .ref o)]) hx hb dL_pass_15 rfl hl (by decide) rfl (fun ls hl => ?_)
      refine lv_iconst (v := 2) hx hb dL_pass_16 (by decide) ?_
      exact zw_ret hx hb hr hlocks dL_pass_17 (Or.inr ⟨h1, Or.inl ⟨h2, rfl⟩⟩) (if_neg z20).symm hP hS (Nat.le_of_ble_eq_true rfl) (Nat.le_of_ble_eq_true rfl)
    · exact hX.elim
  · have hP : va_P D vwCl (ouW cA o f ++ unW cA x b rd r X ((f_X2_pass N B Bs dd).2.1) ((f_X2_pass N B Bs dd).2.2.1) ((f_X2_pass N B Bs dd).2.2.2)) H := by rw [zun_A]; exact hP
    have hD : va_D (zfr (ouW cA o f ++ unW cA x b rd r X N B Bs)) (ouW cA o f ++ unW cA x b rd r X ((f_X2_pass N B Bs dd).2.1) ((f_X2_pass N B Bs dd).2.2.1) ((f_X2_pass N B Bs dd).2.2.2)) := by have h := hD; rw [← zun_A] at h; exact h
    refine lv_i2l hx hb dL_pass_7 rfl ?_
    refine zw_last hx hb hK hP hD hS dL_pass_8 (fun H locs hP hD hS => ?_)
    refine lv_goto (tgt := 18) hx hb dL_pass_9 (by decide) ?_
    refine lv_iconst (v := 0) hx hb dL_pass_18 (by decide) ?_
    exact zw_ret hx hb hr hlocks dL_pass_19 (Or.inr ⟨hV.1, Or.inr ⟨hV.2.1, rfl⟩⟩) (if_pos rfl).symm hP hS (Nat.le_of_ble_eq_true rfl) (Nat.le_of_ble_eq_true rfl)
theorem zy_L_set : yL_set.cls = RL ∧ yL_set.cls ≠ "java/lang/invoke/MethodHandle" ∧ yL_set.cls ≠ "java/lang/invoke/VarHandle" ∧ (parseMethodDescriptor yL_set.desc).map (fun d => d.parameters.length) = some 4 := by decide +kernel
set_option maxHeartbeats 4000000 in
set_option maxRecDepth 100000 in
theorem zl_set (l : Launch) (hfl : l.stackTraces = false) (D : va_G) (cA : Nat → ClassId) (o : Nat) (f : Nat → Int64) (b : Nat → Nat → Nat) (rd : Nat) (r : Nat → Nat) (x : Nat → Nat) (X : BK) (N : NK) (B : BK) (Bs : Nat → BK) (i1 i2 : Int32) (hpm : zpm N) (hsv2 : N 0 0 ≤ 6) : Met l yL_set wsL_set (zrx 8 135 2 12) (zPw D cA [.ref (x 0), .int i1, .int i2, .ref o] (ouW cA o f ++ unW cA x b rd r X N B Bs)) (zW D (ouW cA o f ++ unW cA x b rd r X N B Bs) [(zset i1, 1), (zstv i1 i2, 2)] (ouW cA o (vp_updL f 0 ((f_X2_set N B Bs i1 i2).1).toInt64) ++ unW cA x b rd r X ((f_X2_set N B Bs i1 i2).2.1) ((f_X2_set N B Bs i1 i2).2.2.1) ((f_X2_set N B Bs i1 i2).2.2.2)) (ouW cA o f ++ unW cA x b rd r X N B Bs)) 2 12 (zfr (ouW cA o f ++ unW cA x b rd r X N B Bs)) := by
  refine va_MetW (cc := cL_set) (maxL := 5) (ret := (some .int)) (hh := [(0, 10, 13, 13), (0, 10, 17, 15)]) (by decide) rfl ?_
  intro p e s m args below meth c s₁ Bd hml hv
  obtain ⟨rfl, hP, hK, hD0, hO, hn1, hn2⟩ := hv
  have hx := Bd.exec
  have hb := Bd.bytes
  have hr := Bd.returns
  have hts := atoms_spec (ws := wsL_set) Bd.pre
  have hown : s.vm.findClass RL = some m.cls := findClass_of_methodNamed Bd.named
  have hlocks := Bd.notSynchronized
  have htab := vx_table (x := yL_set) Bd (hts _ List.mem_cons_self)
  have hD := z_Dfr hD0
  have hS : va_S (zfr (ouW cA o f ++ unW cA x b rd r X N B Bs)) s.heap s.heap [] := va_S.rf
  have hl := lv_entry ([.ref (x 0), .int i1, .int i2, .ref o]) (n := 5) (Nat.le_of_ble_eq_true rfl)
  rw [lg_entry_eq]
  generalize (lg_sl ([.ref (x 0), .int i1, .int i2, .ref o]) ++ List.replicate (5 - (lg_sl ([.ref (x 0), .int i1, .int i2, .ref o])).length) Slot.unset).toArray = ls at hl ⊢
  have hl : lv_has ls 5 [(0, .ref (x 0)), (1, .int i1), (2, .int i2), (3, .ref o)] := hl
  refine lv_aload_n hx hb dL_set_0 rfl (lv_at hl 3 rfl) ?_
  refine lv_iconst (v := 0) hx hb dL_set_1 (by decide) ?_
  refine lv_aload_n hx hb dL_set_2 rfl (lv_at hl 0 rfl) ?_
  refine lv_iload_n hx hb dL_set_3 rfl (lv_at hl 1 rfl) ?_
  refine lv_iload_n hx hb dL_set_4 rfl (lv_at hl 2 rfl) ?_
  rw [zun_A] at hP
  have hD : va_D (zfr (ouW cA o f ++ unW cA x b rd r X N B Bs)) ((ouW cA o f ++ rdW rd r) ++ ((xmW cA x b rd X N ++ (bkW (cA 0) (b 0) B ++ otW (cA 0) b Bs)) ++ ([] : va_W))) := by rw [← zun_A]; exact hD
  refine zw_call (X := (ouW cA o f ++ rdW rd r)) (Z := ([] : va_W)) (vx_runV (As := [.int i1, .int i2]) (rest := [.int 0, .ref o]) ⟨hx, hb, hml, hown, hts⟩ (zk_X2_set l hfl D cA b rd x X N B Bs i1 i2 hpm hsv2) (cwV 2 hts gL_set_X2_set rfl rfl rfl zy_X2_set ⟨(Nat.le_of_ble_eq_true rfl), (Nat.le_of_ble_eq_true rfl)⟩) (zx_preVq (ci := 2) (q0 := 0) hK (zmid_P hP) (zmid_D hD) hO hS (fun q h => by rw [zun_A]; exact zmid_fr h) rfl rfl) rfl rfl hl.1 rfl (lv_room (Nat.le_of_ble_eq_true rfl)) dL_set_5 ⟨(Nat.le_of_ble_eq_true rfl), (Nat.le_of_ble_eq_true rfl)⟩) hP hD hS (z_adr2 xmW_adr (z_adr2 bkW_adr otW_adr)) (z_adr2 xmW_adr (z_adr2 bkW_adr otW_adr)) rfl (fun E ce q9 H locs hX hP hS hce hcv hcl => ?_) (fun H locs hV hP hD hS => ?_)
  · have hP : va_P D vwCl (ouW cA o f ++ unW cA x b rd r X N B Bs) H := by rw [zun_A]; exact hP
    rcases hX with ⟨h1, rfl⟩ | ⟨h1, ⟨h2, rfl⟩ | ⟨h2, hX⟩⟩
    · refine vx_catch (own := RL) (name := "java/lang/IndexOutOfBoundsException") hown [] ⟨0, 10, 13, 13⟩ [⟨0, 10, 17, 15⟩] (zl_spl _ htab rfl) (fun z hz => nomatch hz) (by decide) (by decide) (hts (.classLink RL 13 "java/lang/IndexOutOfBoundsException") (List.mem_of_getElem? (i := 1) rfl)) (va_Nw.use rfl hO.2.2.2.1) hce hcv hcl ?_
      refine lv_astore (lv' := [(4, .ref q9), (0, .ref (x 0)), (1, .int i1), (2, .int i2), (3, .ref o)]) hx hb dL_set_13 hl (by decide) rfl (fun ls hl => ?_)
      refine lv_iconst (v := 1) hx hb dL_set_15 (by decide) ?_
      exact zw_ret hx hb hr hlocks dL_set_16 (Or.inl ⟨h1, rfl⟩) (if_neg z10).symm hP hS (Nat.le_of_ble_eq_true rfl) (Nat.le_of_ble_eq_true rfl)
    · refine vx_catch (own := RL) (name := "java/lang/IllegalArgumentException") hown [⟨0, 10, 13, 13⟩] ⟨0, 10, 17, 15⟩ [] (zl_spl _ htab rfl) (fun z hz => by cases List.mem_singleton.mp hz; exact Or.inr ⟨by decide, _, (hts (.classLink RL 13 "java/lang/IndexOutOfBoundsException") (List.mem_of_getElem? (i := 1) rfl)), hn1⟩) (by decide) (by decide) (hts (.classLink RL 15 "java/lang/IllegalArgumentException") (List.mem_of_getElem? (i := 2) rfl)) (va_Nw.use rfl hO.2.2.2.2.1) hce hcv hcl ?_
      refine lv_astore (lv' := [(4, .ref q9), (0, .ref (x 0)), (1, .int i1), (2, .int i2), (3, .ref o)]) hx hb dL_set_17 hl (by decide) rfl (fun ls hl => ?_)
      refine lv_iconst (v := 2) hx hb dL_set_19 (by decide) ?_
      exact zw_ret hx hb hr hlocks dL_set_20 (Or.inr ⟨h1, Or.inl ⟨h2, rfl⟩⟩) (if_neg z20).symm hP hS (Nat.le_of_ble_eq_true rfl) (Nat.le_of_ble_eq_true rfl)
    · exact hX.elim
  · have hP : va_P D vwCl (ouW cA o f ++ unW cA x b rd r X ((f_X2_set N B Bs i1 i2).2.1) ((f_X2_set N B Bs i1 i2).2.2.1) ((f_X2_set N B Bs i1 i2).2.2.2)) H := by rw [zun_A]; exact hP
    have hD : va_D (zfr (ouW cA o f ++ unW cA x b rd r X N B Bs)) (ouW cA o f ++ unW cA x b rd r X ((f_X2_set N B Bs i1 i2).2.1) ((f_X2_set N B Bs i1 i2).2.2.1) ((f_X2_set N B Bs i1 i2).2.2.2)) := by have h := hD; rw [← zun_A] at h; exact h
    refine lv_i2l hx hb dL_set_8 rfl ?_
    refine zw_last hx hb hK hP hD hS dL_set_9 (fun H locs hP hD hS => ?_)
    refine lv_goto (tgt := 21) hx hb dL_set_10 (by decide) ?_
    refine lv_iconst (v := 0) hx hb dL_set_21 (by decide) ?_
    exact zw_ret hx hb hr hlocks dL_set_22 (Or.inr ⟨hV.1, Or.inr ⟨hV.2.1, rfl⟩⟩) (if_pos rfl).symm hP hS (Nat.le_of_ble_eq_true rfl) (Nat.le_of_ble_eq_true rfl)
theorem zy_L_append : yL_append.cls = RL ∧ yL_append.cls ≠ "java/lang/invoke/MethodHandle" ∧ yL_append.cls ≠ "java/lang/invoke/VarHandle" ∧ (parseMethodDescriptor yL_append.desc).map (fun d => d.parameters.length) = some 3 := by decide +kernel
set_option maxHeartbeats 4000000 in
set_option maxRecDepth 100000 in
theorem zl_append (l : Launch) (hfl : l.stackTraces = false) (D : va_G) (cA : Nat → ClassId) (o : Nat) (f : Nat → Int64) (b : Nat → Nat → Nat) (rd : Nat) (r : Nat → Nat) (x : Nat → Nat) (X : BK) (N : NK) (B : BK) (Bs : Nat → BK) (i1 : Int32) (hbl : N 0 1 ≤ 60) : Met l yL_append wsL_append (zrx 8 133 2 12) (zPw D cA [.ref (x 0), .int i1, .ref o] (ouW cA o f ++ unW cA x b rd r X N B Bs)) (zW D (ouW cA o f ++ unW cA x b rd r X N B Bs) [(zrg i1 33 126, 1), (N 0 1 < 60, 2)] (ouW cA o (vp_updL f 0 ((f_X2_append N i1).1).toInt64) ++ unW cA x b rd r X ((f_X2_append N i1).2) B Bs) (ouW cA o f ++ unW cA x b rd r X N B Bs)) 2 12 (zfr (ouW cA o f ++ unW cA x b rd r X N B Bs)) := by
  refine va_MetW (cc := cL_append) (maxL := 4) (ret := (some .int)) (hh := [(0, 9, 12, 15), (0, 9, 15, 37)]) (by decide) rfl ?_
  intro p e s m args below meth c s₁ Bd hml hv
  obtain ⟨rfl, hP, hK, hD0, hO, hn1, hn2⟩ := hv
  have hx := Bd.exec
  have hb := Bd.bytes
  have hr := Bd.returns
  have hts := atoms_spec (ws := wsL_append) Bd.pre
  have hown : s.vm.findClass RL = some m.cls := findClass_of_methodNamed Bd.named
  have hlocks := Bd.notSynchronized
  have htab := vx_table (x := yL_append) Bd (hts _ List.mem_cons_self)
  have hD := z_Dfr hD0
  have hS : va_S (zfr (ouW cA o f ++ unW cA x b rd r X N B Bs)) s.heap s.heap [] := va_S.rf
  have hl := lv_entry ([.ref (x 0), .int i1, .ref o]) (n := 4) (Nat.le_of_ble_eq_true rfl)
  rw [lg_entry_eq]
  generalize (lg_sl ([.ref (x 0), .int i1, .ref o]) ++ List.replicate (4 - (lg_sl ([.ref (x 0), .int i1, .ref o])).length) Slot.unset).toArray = ls at hl ⊢
  have hl : lv_has ls 4 [(0, .ref (x 0)), (1, .int i1), (2, .ref o)] := hl
  refine lv_aload_n hx hb dL_append_0 rfl (lv_at hl 2 rfl) ?_
  refine lv_iconst (v := 0) hx hb dL_append_1 (by decide) ?_
  refine lv_aload_n hx hb dL_append_2 rfl (lv_at hl 0 rfl) ?_
  refine lv_iload_n hx hb dL_append_3 rfl (lv_at hl 1 rfl) ?_
  rw [zun_B] at hP
  have hD : va_D (zfr (ouW cA o f ++ unW cA x b rd r X N B Bs)) ((ouW cA o f ++ rdW rd r) ++ (xmW cA x b rd X N ++ (bkW (cA 0) (b 0) B ++ otW (cA 0) b Bs))) := by rw [← zun_B]; exact hD
  refine zw_call (X := (ouW cA o f ++ rdW rd r)) (Z := (bkW (cA 0) (b 0) B ++ otW (cA 0) b Bs)) (vx_runV (As := [.int i1]) (rest := [.int 0, .ref o]) ⟨hx, hb, hml, hown, hts⟩ (zk_X2_append l hfl D cA b rd x X N i1 hbl) (cwV 1 hts gL_append_X2_append rfl rfl rfl zy_X2_append ⟨(Nat.le_of_ble_eq_true rfl), (Nat.le_of_ble_eq_true rfl)⟩) (zx_preVq (ci := 2) (q0 := 0) hK (zmid_P hP) (zmid_D hD) hO hS (fun q h => by rw [zun_B]; exact zmid_fr h) rfl rfl) rfl rfl hl.1 rfl (lv_room (Nat.le_of_ble_eq_true rfl)) dL_append_4 ⟨(Nat.le_of_ble_eq_true rfl), (Nat.le_of_ble_eq_true rfl)⟩) hP hD hS xmW_adr xmW_adr rfl (fun E ce q9 H locs hX hP hS hce hcv hcl => ?_) (fun H locs hV hP hD hS => ?_)
  · have hP : va_P D vwCl (ouW cA o f ++ unW cA x b rd r X N B Bs) H := by rw [zun_B]; exact hP
    rcases hX with ⟨h1, rfl⟩ | ⟨h1, ⟨h2, rfl⟩ | ⟨h2, hX⟩⟩
    · refine vx_catch (own := RL) (name := "java/lang/IllegalArgumentException") hown [] ⟨0, 9, 12, 15⟩ [⟨0, 9, 15, 37⟩] (zl_spl _ htab rfl) (fun z hz => nomatch hz) (by decide) (by decide) (hts (.classLink RL 15 "java/lang/IllegalArgumentException") (List.mem_of_getElem? (i := 1) rfl)) (va_Nw.use rfl hO.2.2.2.2.1) hce hcv hcl ?_
      refine lv_astore_n (i := 3) (lv' := [(3, .ref q9), (0, .ref (x 0)), (1, .int i1), (2, .ref o)]) hx hb dL_append_12 rfl hl (by decide) rfl (fun ls hl => ?_)
      refine lv_iconst (v := 1) hx hb dL_append_13 (by decide) ?_
      exact zw_ret hx hb hr hlocks dL_append_14 (Or.inl ⟨h1, rfl⟩) (if_neg z10).symm hP hS (Nat.le_of_ble_eq_true rfl) (Nat.le_of_ble_eq_true rfl)
    · refine vx_catch (own := RL) (name := "java/lang/IllegalStateException") hown [⟨0, 9, 12, 15⟩] ⟨0, 9, 15, 37⟩ [] (zl_spl _ htab rfl) (fun z hz => by cases List.mem_singleton.mp hz; exact Or.inr ⟨by decide, _, (hts (.classLink RL 15 "java/lang/IllegalArgumentException") (List.mem_of_getElem? (i := 1) rfl)), hn2⟩) (by decide) (by decide) (hts (.classLink RL 37 "java/lang/IllegalStateException") (List.mem_of_getElem? (i := 2) rfl)) (va_Nw.use rfl hO.2.2.2.2.2.1) hce hcv hcl ?_
      refine lv_astore_n (i := 3) (lv' := [(3, .ref q9), (0, .ref (x 0)), (1, .int i1), (2, .ref o)]) hx hb dL_append_15 rfl hl (by decide) rfl (fun ls hl => ?_)
      refine lv_iconst (v := 2) hx hb dL_append_16 (by decide) ?_
      exact zw_ret hx hb hr hlocks dL_append_17 (Or.inr ⟨h1, Or.inl ⟨h2, rfl⟩⟩) (if_neg z20).symm hP hS (Nat.le_of_ble_eq_true rfl) (Nat.le_of_ble_eq_true rfl)
    · exact hX.elim
  · have hP : va_P D vwCl (ouW cA o f ++ unW cA x b rd r X ((f_X2_append N i1).2) B Bs) H := by rw [zun_B]; exact hP
    have hD : va_D (zfr (ouW cA o f ++ unW cA x b rd r X N B Bs)) (ouW cA o f ++ unW cA x b rd r X ((f_X2_append N i1).2) B Bs) := by have h := hD; rw [← zun_B] at h; exact h
    refine lv_i2l hx hb dL_append_7 rfl ?_
    refine zw_last hx hb hK hP hD hS dL_append_8 (fun H locs hP hD hS => ?_)
    refine lv_goto (tgt := 18) hx hb dL_append_9 (by decide) ?_
    refine lv_iconst (v := 0) hx hb dL_append_18 (by decide) ?_
    exact zw_ret hx hb hr hlocks dL_append_19 (Or.inr ⟨hV.1, Or.inr ⟨hV.2.1, rfl⟩⟩) (if_pos rfl).symm hP hS (Nat.le_of_ble_eq_true rfl) (Nat.le_of_ble_eq_true rfl)
theorem zy_L_run : yL_run.cls = RL ∧ yL_run.cls ≠ "java/lang/invoke/MethodHandle" ∧ yL_run.cls ≠ "java/lang/invoke/VarHandle" ∧ (parseMethodDescriptor yL_run.desc).map (fun d => d.parameters.length) = some 2 := by decide +kernel
set_option maxHeartbeats 4000000 in
set_option maxRecDepth 100000 in
theorem zl_run (l : Launch) (hfl : l.stackTraces = false) (D : va_G) (cA : Nat → ClassId) (o : Nat) (f : Nat → Int64) (b : Nat → Nat → Nat) (rd : Nat) (r : Nat → Nat) (x : Nat → Nat) (X : BK) (N : NK) (B : BK) (Bs : Nat → BK) (hpm : zpm N) (hsv2 : N 0 0 ≤ 6) (hbl : N 0 1 ≤ 60) (hbs : ∀ i, i < N 0 1 → N 2 i < 128) (hri : zRI r) (hall : ¬ (f_X2_readToError r N).1 < nI (N 0 1) → ¬ f_X1_isWhole ((f_X2_readToError r N).2) = 0 → zall N (f_X2_readToError r N).2) : Met l yL_run wsL_run (zrx 8 177 1 6) (zPw D cA [.ref (x 0), .ref o] (ouW cA o f ++ unW cA x b rd r X N B Bs)) (zW D (ouW cA o f ++ unW cA x b rd r X N B Bs) [((¬ (f_X2_readToError r N).1 < nI (N 0 1) ∧ ¬ f_X1_isWhole ((f_X2_readToError r N).2) = 0), 1)] (ouW cA o (vp_updL f 0 ((f_X2_run r N B Bs).1).toInt64) ++ unW cA x b rd ((f_X2_run r N B Bs).2.1) X ((f_X2_run r N B Bs).2.2.1) ((f_X2_run r N B Bs).2.2.2.1) ((f_X2_run r N B Bs).2.2.2.2)) (ouW cA o f ++ unW cA x b rd ((f_X2_readToError r N).2) X N B Bs)) 1 6 (zfr (ouW cA o f ++ unW cA x b rd r X N B Bs)) := by
  refine va_MetW (cc := cL_run) (maxL := 3) (ret := (some .int)) (hh := [(0, 8, 11, 15)]) (by decide) rfl ?_
  intro p e s m args below meth c s₁ Bd hml hv
  obtain ⟨rfl, hP, hK, hD0, hO, hn1, hn2⟩ := hv
  have hx := Bd.exec
  have hb := Bd.bytes
  have hr := Bd.returns
  have hts := atoms_spec (ws := wsL_run) Bd.pre
  have hown : s.vm.findClass RL = some m.cls := findClass_of_methodNamed Bd.named
  have hlocks := Bd.notSynchronized
  have htab := vx_table (x := yL_run) Bd (hts _ List.mem_cons_self)
  have hD := z_Dfr hD0
  have hS : va_S (zfr (ouW cA o f ++ unW cA x b rd r X N B Bs)) s.heap s.heap [] := va_S.rf
  have hl := lv_entry ([.ref (x 0), .ref o]) (n := 3) (Nat.le_of_ble_eq_true rfl)
  rw [lg_entry_eq]
  generalize (lg_sl ([.ref (x 0), .ref o]) ++ List.replicate (3 - (lg_sl ([.ref (x 0), .ref o])).length) Slot.unset).toArray = ls at hl ⊢
  have hl : lv_has ls 3 [(0, .ref (x 0)), (1, .ref o)] := hl
  refine lv_aload_n hx hb dL_run_0 rfl (lv_at hl 1 rfl) ?_
  refine lv_iconst (v := 0) hx hb dL_run_1 (by decide) ?_
  refine lv_aload_n hx hb dL_run_2 rfl (lv_at hl 0 rfl) ?_
  rw [zun_D] at hP
  have hD : va_D (zfr (ouW cA o f ++ unW cA x b rd r X N B Bs)) ((ouW cA o f) ++ ((rdW rd r ++ (xmW cA x b rd X N ++ (bkW (cA 0) (b 0) B ++ otW (cA 0) b Bs))) ++ ([] : va_W))) := by rw [← zun_D]; exact hD
  refine zw_call (X := (ouW cA o f)) (Z := ([] : va_W)) (vx_runV (As := []) (rest := [.int 0, .ref o]) ⟨hx, hb, hml, hown, hts⟩ (zk_X2_run l hfl D cA b rd r x X N B Bs hbl hbs hri hpm hsv2 hall) (cwV 0 hts gL_run_X2_run rfl rfl rfl zy_X2_run ⟨(Nat.le_of_ble_eq_true rfl), (Nat.le_of_ble_eq_true rfl)⟩) (zx_preVq (ci := 2) (q0 := 1) hK (zmid_P hP) (zmid_D hD) hO hS (fun q h => by rw [zun_D]; exact zmid_fr h) rfl rfl) rfl rfl hl.1 rfl (lv_room (Nat.le_of_ble_eq_true rfl)) dL_run_3 ⟨(Nat.le_of_ble_eq_true rfl), (Nat.le_of_ble_eq_true rfl)⟩) hP hD hS (z_adr2 rdW_adr (z_adr2 xmW_adr (z_adr2 bkW_adr otW_adr))) (z_adr2 rdW_adr (z_adr2 xmW_adr (z_adr2 bkW_adr otW_adr))) rfl (fun E ce q9 H locs hX hP hS hce hcv hcl => ?_) (fun H locs hV hP hD hS => ?_)
  · have hP : va_P D vwCl (ouW cA o f ++ unW cA x b rd ((f_X2_readToError r N).2) X N B Bs) H := by rw [zun_D]; exact hP
    rcases hX with ⟨h1, rfl⟩ | ⟨h1, hX⟩
    · refine vx_catch (own := RL) (name := "java/lang/IllegalArgumentException") hown [] ⟨0, 8, 11, 15⟩ [] (zl_spl _ htab rfl) (fun z hz => nomatch hz) (by decide) (by decide) (hts (.classLink RL 15 "java/lang/IllegalArgumentException") (List.mem_of_getElem? (i := 1) rfl)) (va_Nw.use rfl hO.2.2.2.2.1) hce hcv hcl ?_
      refine lv_astore_n (i := 2) (lv' := [(2, .ref q9), (0, .ref (x 0)), (1, .ref o)]) hx hb dL_run_11 rfl hl (by decide) rfl (fun ls hl => ?_)
      refine lv_iconst (v := 1) hx hb dL_run_12 (by decide) ?_
      exact zw_ret hx hb hr hlocks dL_run_13 (Or.inl ⟨h1, rfl⟩) (if_neg z10).symm hP hS (Nat.le_of_ble_eq_true rfl) (Nat.le_of_ble_eq_true rfl)
    · exact hX.elim
  · have hP : va_P D vwCl (ouW cA o f ++ unW cA x b rd ((f_X2_run r N B Bs).2.1) X ((f_X2_run r N B Bs).2.2.1) ((f_X2_run r N B Bs).2.2.2.1) ((f_X2_run r N B Bs).2.2.2.2)) H := by rw [zun_D]; exact hP
    have hD : va_D (zfr (ouW cA o f ++ unW cA x b rd r X N B Bs)) (ouW cA o f ++ unW cA x b rd ((f_X2_run r N B Bs).2.1) X ((f_X2_run r N B Bs).2.2.1) ((f_X2_run r N B Bs).2.2.2.1) ((f_X2_run r N B Bs).2.2.2.2)) := by have h := hD; rw [← zun_D] at h; exact h
    refine lv_i2l hx hb dL_run_6 rfl ?_
    refine zw_last hx hb hK hP hD hS dL_run_7 (fun H locs hP hD hS => ?_)
    refine lv_goto (tgt := 14) hx hb dL_run_8 (by decide) ?_
    refine lv_iconst (v := 0) hx hb dL_run_14 (by decide) ?_
    exact zw_ret hx hb hr hlocks dL_run_15 (Or.inr ⟨hV.1, rfl⟩) (if_pos rfl).symm hP hS (Nat.le_of_ble_eq_true rfl) (Nat.le_of_ble_eq_true rfl)
theorem zy_L_keep : yL_keep.cls = RL ∧ yL_keep.cls ≠ "java/lang/invoke/MethodHandle" ∧ yL_keep.cls ≠ "java/lang/invoke/VarHandle" ∧ (parseMethodDescriptor yL_keep.desc).map (fun d => d.parameters.length) = some 3 := by decide +kernel
set_option maxHeartbeats 4000000 in
set_option maxRecDepth 100000 in
theorem zl_keep (l : Launch) (hfl : l.stackTraces = false) (D : va_G) (cA : Nat → ClassId) (o : Nat) (f : Nat → Int64) (b : Nat → Nat → Nat) (rd : Nat) (r : Nat → Nat) (x : Nat → Nat) (X : BK) (N : NK) (B : BK) (Bs : Nat → BK) (i1 : Int32)  : Met l yL_keep wsL_keep (zrx 8 133 1 6) (zPw D cA [.ref (x 0), .int i1, .ref o] (ouW cA o f ++ unW cA x b rd r X N B Bs)) (zW D (ouW cA o f ++ unW cA x b rd r X N B Bs) [(zrg i1 0 1, 1)] (ouW cA o (vp_updL f 0 ((f_X2_keep X B Bs i1).1).toInt64) ++ unW cA x b rd r ((f_X2_keep X B Bs i1).2.1) N B ((f_X2_keep X B Bs i1).2.2)) (ouW cA o f ++ unW cA x b rd r X N B Bs)) 1 6 (zfr (ouW cA o f ++ unW cA x b rd r X N B Bs)) := by
  refine va_MetW (cc := cL_keep) (maxL := 4) (ret := (some .int)) (hh := [(0, 9, 12, 15)]) (by decide) rfl ?_
  intro p e s m args below meth c s₁ Bd hml hv
  obtain ⟨rfl, hP, hK, hD0, hO, hn1, hn2⟩ := hv
  have hx := Bd.exec
  have hb := Bd.bytes
  have hr := Bd.returns
  have hts := atoms_spec (ws := wsL_keep) Bd.pre
  have hown : s.vm.findClass RL = some m.cls := findClass_of_methodNamed Bd.named
  have hlocks := Bd.notSynchronized
  have htab := vx_table (x := yL_keep) Bd (hts _ List.mem_cons_self)
  have hD := z_Dfr hD0
  have hS : va_S (zfr (ouW cA o f ++ unW cA x b rd r X N B Bs)) s.heap s.heap [] := va_S.rf
  have hl := lv_entry ([.ref (x 0), .int i1, .ref o]) (n := 4) (Nat.le_of_ble_eq_true rfl)
  rw [lg_entry_eq]
  generalize (lg_sl ([.ref (x 0), .int i1, .ref o]) ++ List.replicate (4 - (lg_sl ([.ref (x 0), .int i1, .ref o])).length) Slot.unset).toArray = ls at hl ⊢
  have hl : lv_has ls 4 [(0, .ref (x 0)), (1, .int i1), (2, .ref o)] := hl
  refine lv_aload_n hx hb dL_keep_0 rfl (lv_at hl 2 rfl) ?_
  refine lv_iconst (v := 0) hx hb dL_keep_1 (by decide) ?_
  refine lv_aload_n hx hb dL_keep_2 rfl (lv_at hl 0 rfl) ?_
  refine lv_iload_n hx hb dL_keep_3 rfl (lv_at hl 1 rfl) ?_
  rw [zun_A] at hP
  have hD : va_D (zfr (ouW cA o f ++ unW cA x b rd r X N B Bs)) ((ouW cA o f ++ rdW rd r) ++ ((xmW cA x b rd X N ++ (bkW (cA 0) (b 0) B ++ otW (cA 0) b Bs)) ++ ([] : va_W))) := by rw [← zun_A]; exact hD
  refine zw_call (X := (ouW cA o f ++ rdW rd r)) (Z := ([] : va_W)) (vx_runV (As := [.int i1]) (rest := [.int 0, .ref o]) ⟨hx, hb, hml, hown, hts⟩ (zk_X2_keep l hfl D cA b rd x X N B Bs i1) (cwV 1 hts gL_keep_X2_keep rfl rfl rfl zy_X2_keep ⟨(Nat.le_of_ble_eq_true rfl), (Nat.le_of_ble_eq_true rfl)⟩) (zx_preVq (ci := 2) (q0 := 0) hK (zmid_P hP) (zmid_D hD) hO hS (fun q h => by rw [zun_A]; exact zmid_fr h) rfl rfl) rfl rfl hl.1 rfl (lv_room (Nat.le_of_ble_eq_true rfl)) dL_keep_4 ⟨(Nat.le_of_ble_eq_true rfl), (Nat.le_of_ble_eq_true rfl)⟩) hP hD hS (z_adr2 xmW_adr (z_adr2 bkW_adr otW_adr)) (z_adr2 xmW_adr (z_adr2 bkW_adr otW_adr)) rfl (fun E ce q9 H locs hX hP hS hce hcv hcl => ?_) (fun H locs hV hP hD hS => ?_)
  · have hP : va_P D vwCl (ouW cA o f ++ unW cA x b rd r X N B Bs) H := by rw [zun_A]; exact hP
    rcases hX with ⟨h1, rfl⟩ | ⟨h1, hX⟩
    · refine vx_catch (own := RL) (name := "java/lang/IllegalArgumentException") hown [] ⟨0, 9, 12, 15⟩ [] (zl_spl _ htab rfl) (fun z hz => nomatch hz) (by decide) (by decide) (hts (.classLink RL 15 "java/lang/IllegalArgumentException") (List.mem_of_getElem? (i := 1) rfl)) (va_Nw.use rfl hO.2.2.2.2.1) hce hcv hcl ?_
      refine lv_astore_n (i := 3) (lv' := [(3, .ref q9), (0, .ref (x 0)), (1, .int i1), (2, .ref o)]) hx hb dL_keep_12 rfl hl (by decide) rfl (fun ls hl => ?_)
      refine lv_iconst (v := 1) hx hb dL_keep_13 (by decide) ?_
      exact zw_ret hx hb hr hlocks dL_keep_14 (Or.inl ⟨h1, rfl⟩) (if_neg z10).symm hP hS (Nat.le_of_ble_eq_true rfl) (Nat.le_of_ble_eq_true rfl)
    · exact hX.elim
  · have hP : va_P D vwCl (ouW cA o f ++ unW cA x b rd r ((f_X2_keep X B Bs i1).2.1) N B ((f_X2_keep X B Bs i1).2.2)) H := by rw [zun_A]; exact hP
    have hD : va_D (zfr (ouW cA o f ++ unW cA x b rd r X N B Bs)) (ouW cA o f ++ unW cA x b rd r ((f_X2_keep X B Bs i1).2.1) N B ((f_X2_keep X B Bs i1).2.2)) := by have h := hD; rw [← zun_A] at h; exact h
    refine lv_i2l hx hb dL_keep_7 rfl ?_
    refine zw_last hx hb hK hP hD hS dL_keep_8 (fun H locs hP hD hS => ?_)
    refine lv_goto (tgt := 15) hx hb dL_keep_9 (by decide) ?_
    refine lv_iconst (v := 0) hx hb dL_keep_15 (by decide) ?_
    exact zw_ret hx hb hr hlocks dL_keep_16 (Or.inr ⟨hV.1, rfl⟩) (if_pos rfl).symm hP hS (Nat.le_of_ble_eq_true rfl) (Nat.le_of_ble_eq_true rfl)
theorem zy_L_goBack : yL_goBack.cls = RL ∧ yL_goBack.cls ≠ "java/lang/invoke/MethodHandle" ∧ yL_goBack.cls ≠ "java/lang/invoke/VarHandle" ∧ (parseMethodDescriptor yL_goBack.desc).map (fun d => d.parameters.length) = some 3 := by decide +kernel
set_option maxHeartbeats 4000000 in
set_option maxRecDepth 100000 in
theorem zl_goBack (l : Launch) (hfl : l.stackTraces = false) (D : va_G) (cA : Nat → ClassId) (o : Nat) (f : Nat → Int64) (b : Nat → Nat → Nat) (rd : Nat) (r : Nat → Nat) (x : Nat → Nat) (X : BK) (N : NK) (B : BK) (Bs : Nat → BK) (i1 : Int32) (hpm : zpm N) (hsv2 : N 0 0 ≤ 6) : Met l yL_goBack wsL_goBack (zrx 8 133 2 12) (zPw D cA [.ref (x 0), .int i1, .ref o] (ouW cA o f ++ unW cA x b rd r X N B Bs)) (zW D (ouW cA o f ++ unW cA x b rd r X N B Bs) [(zrg i1 0 1, 1), (¬ X 0 i1.toNatClampNeg = 0, 2)] (ouW cA o (vp_updL f 0 ((f_X2_goBack N B Bs i1).1).toInt64) ++ unW cA x b rd r X ((f_X2_goBack N B Bs i1).2.1) ((f_X2_goBack N B Bs i1).2.2.1) ((f_X2_goBack N B Bs i1).2.2.2)) (ouW cA o f ++ unW cA x b rd r X N B Bs)) 2 12 (zfr (ouW cA o f ++ unW cA x b rd r X N B Bs)) := by
  refine va_MetW (cc := cL_goBack) (maxL := 4) (ret := (some .int)) (hh := [(0, 9, 12, 15), (0, 9, 15, 37)]) (by decide) rfl ?_
  intro p e s m args below meth c s₁ Bd hml hv
  obtain ⟨rfl, hP, hK, hD0, hO, hn1, hn2⟩ := hv
  have hx := Bd.exec
  have hb := Bd.bytes
  have hr := Bd.returns
  have hts := atoms_spec (ws := wsL_goBack) Bd.pre
  have hown : s.vm.findClass RL = some m.cls := findClass_of_methodNamed Bd.named
  have hlocks := Bd.notSynchronized
  have htab := vx_table (x := yL_goBack) Bd (hts _ List.mem_cons_self)
  have hD := z_Dfr hD0
  have hS : va_S (zfr (ouW cA o f ++ unW cA x b rd r X N B Bs)) s.heap s.heap [] := va_S.rf
  have hl := lv_entry ([.ref (x 0), .int i1, .ref o]) (n := 4) (Nat.le_of_ble_eq_true rfl)
  rw [lg_entry_eq]
  generalize (lg_sl ([.ref (x 0), .int i1, .ref o]) ++ List.replicate (4 - (lg_sl ([.ref (x 0), .int i1, .ref o])).length) Slot.unset).toArray = ls at hl ⊢
  have hl : lv_has ls 4 [(0, .ref (x 0)), (1, .int i1), (2, .ref o)] := hl
  refine lv_aload_n hx hb dL_goBack_0 rfl (lv_at hl 2 rfl) ?_
  refine lv_iconst (v := 0) hx hb dL_goBack_1 (by decide) ?_
  refine lv_aload_n hx hb dL_goBack_2 rfl (lv_at hl 0 rfl) ?_
  refine lv_iload_n hx hb dL_goBack_3 rfl (lv_at hl 1 rfl) ?_
  rw [zun_A] at hP
  have hD : va_D (zfr (ouW cA o f ++ unW cA x b rd r X N B Bs)) ((ouW cA o f ++ rdW rd r) ++ ((xmW cA x b rd X N ++ (bkW (cA 0) (b 0) B ++ otW (cA 0) b Bs)) ++ ([] : va_W))) := by rw [← zun_A]; exact hD
  refine zw_call (X := (ouW cA o f ++ rdW rd r)) (Z := ([] : va_W)) (vx_runV (As := [.int i1]) (rest := [.int 0, .ref o]) ⟨hx, hb, hml, hown, hts⟩ (zk_X2_goBack l hfl D cA b rd x X N B Bs i1 hpm hsv2) (cwV 1 hts gL_goBack_X2_goBack rfl rfl rfl zy_X2_goBack ⟨(Nat.le_of_ble_eq_true rfl), (Nat.le_of_ble_eq_true rfl)⟩) (zx_preVq (ci := 2) (q0 := 0) hK (zmid_P hP) (zmid_D hD) hO hS (fun q h => by rw [zun_A]; exact zmid_fr h) rfl rfl) rfl rfl hl.1 rfl (lv_room (Nat.le_of_ble_eq_true rfl)) dL_goBack_4 ⟨(Nat.le_of_ble_eq_true rfl), (Nat.le_of_ble_eq_true rfl)⟩) hP hD hS (z_adr2 xmW_adr (z_adr2 bkW_adr otW_adr)) (z_adr2 xmW_adr (z_adr2 bkW_adr otW_adr)) rfl (fun E ce q9 H locs hX hP hS hce hcv hcl => ?_) (fun H locs hV hP hD hS => ?_)
  · have hP : va_P D vwCl (ouW cA o f ++ unW cA x b rd r X N B Bs) H := by rw [zun_A]; exact hP
    rcases hX with ⟨h1, rfl⟩ | ⟨h1, ⟨h2, rfl⟩ | ⟨h2, hX⟩⟩
    · refine vx_catch (own := RL) (name := "java/lang/IllegalArgumentException") hown [] ⟨0, 9, 12, 15⟩ [⟨0, 9, 15, 37⟩] (zl_spl _ htab rfl) (fun z hz => nomatch hz) (by decide) (by decide) (hts (.classLink RL 15 "java/lang/IllegalArgumentException") (List.mem_of_getElem? (i := 1) rfl)) (va_Nw.use rfl hO.2.2.2.2.1) hce hcv hcl ?_
      refine lv_astore_n (i := 3) (lv' := [(3, .ref q9), (0, .ref (x 0)), (1, .int i1), (2, .ref o)]) hx hb dL_goBack_12 rfl hl (by decide) rfl (fun ls hl => ?_)
      refine lv_iconst (v := 1) hx hb dL_goBack_13 (by decide) ?_
      exact zw_ret hx hb hr hlocks dL_goBack_14 (Or.inl ⟨h1, rfl⟩) (if_neg z10).symm hP hS (Nat.le_of_ble_eq_true rfl) (Nat.le_of_ble_eq_true rfl)
    · refine vx_catch (own := RL) (name := "java/lang/IllegalStateException") hown [⟨0, 9, 12, 15⟩] ⟨0, 9, 15, 37⟩ [] (zl_spl _ htab rfl) (fun z hz => by cases List.mem_singleton.mp hz; exact Or.inr ⟨by decide, _, (hts (.classLink RL 15 "java/lang/IllegalArgumentException") (List.mem_of_getElem? (i := 1) rfl)), hn2⟩) (by decide) (by decide) (hts (.classLink RL 37 "java/lang/IllegalStateException") (List.mem_of_getElem? (i := 2) rfl)) (va_Nw.use rfl hO.2.2.2.2.2.1) hce hcv hcl ?_
      refine lv_astore_n (i := 3) (lv' := [(3, .ref q9), (0, .ref (x 0)), (1, .int i1), (2, .ref o)]) hx hb dL_goBack_15 rfl hl (by decide) rfl (fun ls hl => ?_)
      refine lv_iconst (v := 2) hx hb dL_goBack_16 (by decide) ?_
      exact zw_ret hx hb hr hlocks dL_goBack_17 (Or.inr ⟨h1, Or.inl ⟨h2, rfl⟩⟩) (if_neg z20).symm hP hS (Nat.le_of_ble_eq_true rfl) (Nat.le_of_ble_eq_true rfl)
    · exact hX.elim
  · have hP : va_P D vwCl (ouW cA o f ++ unW cA x b rd r X ((f_X2_goBack N B Bs i1).2.1) ((f_X2_goBack N B Bs i1).2.2.1) ((f_X2_goBack N B Bs i1).2.2.2)) H := by rw [zun_A]; exact hP
    have hD : va_D (zfr (ouW cA o f ++ unW cA x b rd r X N B Bs)) (ouW cA o f ++ unW cA x b rd r X ((f_X2_goBack N B Bs i1).2.1) ((f_X2_goBack N B Bs i1).2.2.1) ((f_X2_goBack N B Bs i1).2.2.2)) := by have h := hD; rw [← zun_A] at h; exact h
    refine lv_i2l hx hb dL_goBack_7 rfl ?_
    refine zw_last hx hb hK hP hD hS dL_goBack_8 (fun H locs hP hD hS => ?_)
    refine lv_goto (tgt := 18) hx hb dL_goBack_9 (by decide) ?_
    refine lv_iconst (v := 0) hx hb dL_goBack_18 (by decide) ?_
    exact zw_ret hx hb hr hlocks dL_goBack_19 (Or.inr ⟨hV.1, Or.inr ⟨hV.2.1, rfl⟩⟩) (if_pos rfl).symm hP hS (Nat.le_of_ble_eq_true rfl) (Nat.le_of_ble_eq_true rfl)
theorem zy_L_undo : yL_undo.cls = RL ∧ yL_undo.cls ≠ "java/lang/invoke/MethodHandle" ∧ yL_undo.cls ≠ "java/lang/invoke/VarHandle" ∧ (parseMethodDescriptor yL_undo.desc).map (fun d => d.parameters.length) = some 2 := by decide +kernel
set_option maxHeartbeats 4000000 in
set_option maxRecDepth 100000 in
theorem zl_undo (l : Launch) (hfl : l.stackTraces = false) (D : va_G) (cA : Nat → ClassId) (o : Nat) (f : Nat → Int64) (b : Nat → Nat → Nat) (rd : Nat) (r : Nat → Nat) (x : Nat → Nat) (X : BK) (N : NK) (B : BK) (Bs : Nat → BK) (hpm : zpm N) (hsv2 : N 0 0 ≤ 6) : Met l yL_undo wsL_undo (zrx 7 110 1 6) (zPw D cA [.ref (x 0), .ref o] (ouW cA o f ++ unW cA x b rd r X N B Bs)) (zW D (ouW cA o f ++ unW cA x b rd r X N B Bs) [(¬ N 0 0 < 1, 1)] (ouW cA o (vp_updL f 0 ((f_X2_undo N Bs).1).toInt64) ++ unW cA x b rd r X ((f_X2_undo N Bs).2.1) ((f_X2_undo N Bs).2.2) Bs) (ouW cA o f ++ unW cA x b rd r X N B Bs)) 1 6 (zfr (ouW cA o f ++ unW cA x b rd r X N B Bs)) := by
  refine va_MetW (cc := cL_undo) (maxL := 3) (ret := (some .int)) (hh := [(0, 8, 11, 37)]) (by decide) rfl ?_
  intro p e s m args below meth c s₁ Bd hml hv
  obtain ⟨rfl, hP, hK, hD0, hO, hn1, hn2⟩ := hv
  have hx := Bd.exec
  have hb := Bd.bytes
  have hr := Bd.returns
  have hts := atoms_spec (ws := wsL_undo) Bd.pre
  have hown : s.vm.findClass RL = some m.cls := findClass_of_methodNamed Bd.named
  have hlocks := Bd.notSynchronized
  have htab := vx_table (x := yL_undo) Bd (hts _ List.mem_cons_self)
  have hD := z_Dfr hD0
  have hS : va_S (zfr (ouW cA o f ++ unW cA x b rd r X N B Bs)) s.heap s.heap [] := va_S.rf
  have hl := lv_entry ([.ref (x 0), .ref o]) (n := 3) (Nat.le_of_ble_eq_true rfl)
  rw [lg_entry_eq]
  generalize (lg_sl ([.ref (x 0), .ref o]) ++ List.replicate (3 - (lg_sl ([.ref (x 0), .ref o])).length) Slot.unset).toArray = ls at hl ⊢
  have hl : lv_has ls 3 [(0, .ref (x 0)), (1, .ref o)] := hl
  refine lv_aload_n hx hb dL_undo_0 rfl (lv_at hl 1 rfl) ?_
  refine lv_iconst (v := 0) hx hb dL_undo_1 (by decide) ?_
  refine lv_aload_n hx hb dL_undo_2 rfl (lv_at hl 0 rfl) ?_
  rw [zun_A] at hP
  have hD : va_D (zfr (ouW cA o f ++ unW cA x b rd r X N B Bs)) ((ouW cA o f ++ rdW rd r) ++ ((xmW cA x b rd X N ++ (bkW (cA 0) (b 0) B ++ otW (cA 0) b Bs)) ++ ([] : va_W))) := by rw [← zun_A]; exact hD
  refine zw_call (X := (ouW cA o f ++ rdW rd r)) (Z := ([] : va_W)) (vx_runV (As := []) (rest := [.int 0, .ref o]) ⟨hx, hb, hml, hown, hts⟩ (zk_X2_undo l hfl D cA b rd x X N B Bs hpm hsv2) (cwV 0 hts gL_undo_X2_undo rfl rfl rfl zy_X2_undo ⟨(Nat.le_of_ble_eq_true rfl), (Nat.le_of_ble_eq_true rfl)⟩) (zx_preVq (ci := 2) (q0 := 0) hK (zmid_P hP) (zmid_D hD) hO hS (fun q h => by rw [zun_A]; exact zmid_fr h) rfl rfl) rfl rfl hl.1 rfl (lv_room (Nat.le_of_ble_eq_true rfl)) dL_undo_3 ⟨(Nat.le_of_ble_eq_true rfl), (Nat.le_of_ble_eq_true rfl)⟩) hP hD hS (z_adr2 xmW_adr (z_adr2 bkW_adr otW_adr)) (z_adr2 xmW_adr (z_adr2 bkW_adr otW_adr)) rfl (fun E ce q9 H locs hX hP hS hce hcv hcl => ?_) (fun H locs hV hP hD hS => ?_)
  · have hP : va_P D vwCl (ouW cA o f ++ unW cA x b rd r X N B Bs) H := by rw [zun_A]; exact hP
    rcases hX with ⟨h1, rfl⟩ | ⟨h1, hX⟩
    · refine vx_catch (own := RL) (name := "java/lang/IllegalStateException") hown [] ⟨0, 8, 11, 37⟩ [] (zl_spl _ htab rfl) (fun z hz => nomatch hz) (by decide) (by decide) (hts (.classLink RL 37 "java/lang/IllegalStateException") (List.mem_of_getElem? (i := 1) rfl)) (va_Nw.use rfl hO.2.2.2.2.2.1) hce hcv hcl ?_
      refine lv_astore_n (i := 2) (lv' := [(2, .ref q9), (0, .ref (x 0)), (1, .ref o)]) hx hb dL_undo_11 rfl hl (by decide) rfl (fun ls hl => ?_)
      refine lv_iconst (v := 1) hx hb dL_undo_12 (by decide) ?_
      exact zw_ret hx hb hr hlocks dL_undo_13 (Or.inl ⟨h1, rfl⟩) (if_neg z10).symm hP hS (Nat.le_of_ble_eq_true rfl) (Nat.le_of_ble_eq_true rfl)
    · exact hX.elim
  · have hP : va_P D vwCl (ouW cA o f ++ unW cA x b rd r X ((f_X2_undo N Bs).2.1) ((f_X2_undo N Bs).2.2) Bs) H := by rw [zun_A]; exact hP
    have hD : va_D (zfr (ouW cA o f ++ unW cA x b rd r X N B Bs)) (ouW cA o f ++ unW cA x b rd r X ((f_X2_undo N Bs).2.1) ((f_X2_undo N Bs).2.2) Bs) := by have h := hD; rw [← zun_A] at h; exact h
    refine lv_i2l hx hb dL_undo_6 rfl ?_
    refine zw_last hx hb hK hP hD hS dL_undo_7 (fun H locs hP hD hS => ?_)
    refine lv_goto (tgt := 14) hx hb dL_undo_8 (by decide) ?_
    refine lv_iconst (v := 0) hx hb dL_undo_14 (by decide) ?_
    exact zw_ret hx hb hr hlocks dL_undo_15 (Or.inr ⟨hV.1, rfl⟩) (if_pos rfl).symm hP hS (Nat.le_of_ble_eq_true rfl) (Nat.le_of_ble_eq_true rfl)
theorem zy_L_memberOf : yL_memberOf.cls = RL ∧ yL_memberOf.cls ≠ "java/lang/invoke/MethodHandle" ∧ yL_memberOf.cls ≠ "java/lang/invoke/VarHandle" ∧ (parseMethodDescriptor yL_memberOf.desc).map (fun d => d.parameters.length) = some 4 := by decide +kernel
set_option maxHeartbeats 4000000 in
set_option maxRecDepth 100000 in
theorem zl_memberOf (l : Launch) (hfl : l.stackTraces = false) (D : va_G) (cA : Nat → ClassId) (o : Nat) (f : Nat → Int64) (b : Nat → Nat → Nat) (rd : Nat) (r : Nat → Nat) (x : Nat → Nat) (X : BK) (N : NK) (B : BK) (Bs : Nat → BK) (i1 i2 : Int32)  : Met l yL_memberOf wsL_memberOf (zrx 8 134 2 12) (zPw D cA [.ref (x 0), .int i1, .int i2, .ref o] (ouW cA o f ++ unW cA x b rd r X N B Bs)) (zW D (ouW cA o f ++ unW cA x b rd r X N B Bs) [(zmem i1, 1), (zrg i2 0 9, 2)] (ouW cA o (vp_updL f 0 (f_X2_memberOf B i1 i2).toInt64) ++ unW cA x b rd r X N B Bs) (ouW cA o f ++ unW cA x b rd r X N B Bs)) 2 12 (zfr (ouW cA o f ++ unW cA x b rd r X N B Bs)) := by
  refine va_MetW (cc := cL_memberOf) (maxL := 5) (ret := (some .int)) (hh := [(0, 10, 13, 13), (0, 10, 17, 15)]) (by decide) rfl ?_
  intro p e s m args below meth c s₁ Bd hml hv
  obtain ⟨rfl, hP, hK, hD0, hO, hn1, hn2⟩ := hv
  have hx := Bd.exec
  have hb := Bd.bytes
  have hr := Bd.returns
  have hts := atoms_spec (ws := wsL_memberOf) Bd.pre
  have hown : s.vm.findClass RL = some m.cls := findClass_of_methodNamed Bd.named
  have hlocks := Bd.notSynchronized
  have htab := vx_table (x := yL_memberOf) Bd (hts _ List.mem_cons_self)
  have hD := z_Dfr hD0
  have hS : va_S (zfr (ouW cA o f ++ unW cA x b rd r X N B Bs)) s.heap s.heap [] := va_S.rf
  have hl := lv_entry ([.ref (x 0), .int i1, .int i2, .ref o]) (n := 5) (Nat.le_of_ble_eq_true rfl)
  rw [lg_entry_eq]
  generalize (lg_sl ([.ref (x 0), .int i1, .int i2, .ref o]) ++ List.replicate (5 - (lg_sl ([.ref (x 0), .int i1, .int i2, .ref o])).length) Slot.unset).toArray = ls at hl ⊢
  have hl : lv_has ls 5 [(0, .ref (x 0)), (1, .int i1), (2, .int i2), (3, .ref o)] := hl
  refine lv_aload_n hx hb dL_memberOf_0 rfl (lv_at hl 3 rfl) ?_
  refine lv_iconst (v := 0) hx hb dL_memberOf_1 (by decide) ?_
  refine lv_aload_n hx hb dL_memberOf_2 rfl (lv_at hl 0 rfl) ?_
  refine lv_iload_n hx hb dL_memberOf_3 rfl (lv_at hl 1 rfl) ?_
  refine lv_iload_n hx hb dL_memberOf_4 rfl (lv_at hl 2 rfl) ?_
  rw [zun_C] at hP
  have hD : va_D (zfr (ouW cA o f ++ unW cA x b rd r X N B Bs)) ((ouW cA o f ++ rdW rd r) ++ ((xmW cA x b rd X N ++ bkW (cA 0) (b 0) B) ++ (otW (cA 0) b Bs))) := by rw [← zun_C]; exact hD
  refine zw_look (X := (ouW cA o f ++ rdW rd r)) (Z := (otW (cA 0) b Bs)) (vx_runV (As := [.int i1, .int i2]) (rest := [.int 0, .ref o]) ⟨hx, hb, hml, hown, hts⟩ (zk_X2_memberOf l hfl D cA b rd x X N B i1 i2) (cwV 2 hts gL_memberOf_X2_memberOf rfl rfl rfl zy_X2_memberOf ⟨(Nat.le_of_ble_eq_true rfl), (Nat.le_of_ble_eq_true rfl)⟩) (zx_preVq (ci := 2) (q0 := 0) hK (zmid_P hP) (zmid_D hD) hO hS (fun q h => by rw [zun_C]; exact zmid_fr h) rfl rfl) rfl rfl hl.1 rfl (lv_room (Nat.le_of_ble_eq_true rfl)) dL_memberOf_5 ⟨(Nat.le_of_ble_eq_true rfl), (Nat.le_of_ble_eq_true rfl)⟩) hP hD hS rfl (fun E ce q9 H locs hX hP hS hce hcv hcl => ?_) (fun locs hV hS => ?_)
  · have hP : va_P D vwCl (ouW cA o f ++ unW cA x b rd r X N B Bs) H := by rw [zun_C]; exact hP
    rcases hX with ⟨h1, rfl⟩ | ⟨h1, ⟨h2, rfl⟩ | ⟨h2, hX⟩⟩
    · refine vx_catch (own := RL) (name := "java/lang/IndexOutOfBoundsException") hown [] ⟨0, 10, 13, 13⟩ [⟨0, 10, 17, 15⟩] (zl_spl _ htab rfl) (fun z hz => nomatch hz) (by decide) (by decide) (hts (.classLink RL 13 "java/lang/IndexOutOfBoundsException") (List.mem_of_getElem? (i := 1) rfl)) (va_Nw.use rfl hO.2.2.2.1) hce hcv hcl ?_
      refine lv_astore (lv' := [(4, .ref q9), (0, .ref (x 0)), (1, .int i1), (2, .int i2), (3, .ref o)]) hx hb dL_memberOf_13 hl (by decide) rfl (fun ls hl => ?_)
      refine lv_iconst (v := 1) hx hb dL_memberOf_15 (by decide) ?_
      exact zw_ret hx hb hr hlocks dL_memberOf_16 (Or.inl ⟨h1, rfl⟩) (if_neg z10).symm hP hS (Nat.le_of_ble_eq_true rfl) (Nat.le_of_ble_eq_true rfl)
    · refine vx_catch (own := RL) (name := "java/lang/IllegalArgumentException") hown [⟨0, 10, 13, 13⟩] ⟨0, 10, 17, 15⟩ [] (zl_spl _ htab rfl) (fun z hz => by cases List.mem_singleton.mp hz; exact Or.inr ⟨by decide, _, (hts (.classLink RL 13 "java/lang/IndexOutOfBoundsException") (List.mem_of_getElem? (i := 1) rfl)), hn1⟩) (by decide) (by decide) (hts (.classLink RL 15 "java/lang/IllegalArgumentException") (List.mem_of_getElem? (i := 2) rfl)) (va_Nw.use rfl hO.2.2.2.2.1) hce hcv hcl ?_
      refine lv_astore (lv' := [(4, .ref q9), (0, .ref (x 0)), (1, .int i1), (2, .int i2), (3, .ref o)]) hx hb dL_memberOf_17 hl (by decide) rfl (fun ls hl => ?_)
      refine lv_iconst (v := 2) hx hb dL_memberOf_19 (by decide) ?_
      exact zw_ret hx hb hr hlocks dL_memberOf_20 (Or.inr ⟨h1, Or.inl ⟨h2, rfl⟩⟩) (if_neg z20).symm hP hS (Nat.le_of_ble_eq_true rfl) (Nat.le_of_ble_eq_true rfl)
    · exact hX.elim
  · rw [← zun_C] at hP hD
    refine lv_i2l hx hb dL_memberOf_8 rfl ?_
    refine zw_last hx hb hK hP hD hS dL_memberOf_9 (fun H locs hP hD hS => ?_)
    refine lv_goto (tgt := 21) hx hb dL_memberOf_10 (by decide) ?_
    refine lv_iconst (v := 0) hx hb dL_memberOf_21 (by decide) ?_
    exact zw_ret hx hb hr hlocks dL_memberOf_22 (Or.inr ⟨hV.1, Or.inr ⟨hV.2.1, rfl⟩⟩) (if_pos rfl).symm hP hS (Nat.le_of_ble_eq_true rfl) (Nat.le_of_ble_eq_true rfl)
theorem zy_L_pledged : yL_pledged.cls = RL ∧ yL_pledged.cls ≠ "java/lang/invoke/MethodHandle" ∧ yL_pledged.cls ≠ "java/lang/invoke/VarHandle" ∧ (parseMethodDescriptor yL_pledged.desc).map (fun d => d.parameters.length) = some 4 := by decide +kernel
set_option maxHeartbeats 4000000 in
set_option maxRecDepth 100000 in
theorem zl_pledged (l : Launch) (hfl : l.stackTraces = false) (D : va_G) (cA : Nat → ClassId) (o : Nat) (f : Nat → Int64) (b : Nat → Nat → Nat) (rd : Nat) (r : Nat → Nat) (x : Nat → Nat) (X : BK) (N : NK) (B : BK) (Bs : Nat → BK) (i1 i2 : Int32)  : Met l yL_pledged wsL_pledged (zrx 8 132 2 12) (zPw D cA [.ref (x 0), .int i1, .int i2, .ref o] (ouW cA o f ++ unW cA x b rd r X N B Bs)) (zW D (ouW cA o f ++ unW cA x b rd r X N B Bs) [(zmem i1, 1), (zmem i2, 1)] (ouW cA o (vp_updL f 0 (f_X2_pledged B i1 i2).toInt64) ++ unW cA x b rd r X N B Bs) (ouW cA o f ++ unW cA x b rd r X N B Bs)) 2 12 (zfr (ouW cA o f ++ unW cA x b rd r X N B Bs)) := by
  refine va_MetW (cc := cL_pledged) (maxL := 5) (ret := (some .int)) (hh := [(0, 10, 13, 13)]) (by decide) rfl ?_
  intro p e s m args below meth c s₁ Bd hml hv
  obtain ⟨rfl, hP, hK, hD0, hO, hn1, hn2⟩ := hv
  have hx := Bd.exec
  have hb := Bd.bytes
  have hr := Bd.returns
  have hts := atoms_spec (ws := wsL_pledged) Bd.pre
  have hown : s.vm.findClass RL = some m.cls := findClass_of_methodNamed Bd.named
  have hlocks := Bd.notSynchronized
  have htab := vx_table (x := yL_pledged) Bd (hts _ List.mem_cons_self)
  have hD := z_Dfr hD0
  have hS : va_S (zfr (ouW cA o f ++ unW cA x b rd r X N B Bs)) s.heap s.heap [] := va_S.rf
  have hl := lv_entry ([.ref (x 0), .int i1, .int i2, .ref o]) (n := 5) (Nat.le_of_ble_eq_true rfl)
  rw [lg_entry_eq]
  generalize (lg_sl ([.ref (x 0), .int i1, .int i2, .ref o]) ++ List.replicate (5 - (lg_sl ([.ref (x 0), .int i1, .int i2, .ref o])).length) Slot.unset).toArray = ls at hl ⊢
  have hl : lv_has ls 5 [(0, .ref (x 0)), (1, .int i1), (2, .int i2), (3, .ref o)] := hl
  refine lv_aload_n hx hb dL_pledged_0 rfl (lv_at hl 3 rfl) ?_
  refine lv_iconst (v := 0) hx hb dL_pledged_1 (by decide) ?_
  refine lv_aload_n hx hb dL_pledged_2 rfl (lv_at hl 0 rfl) ?_
  refine lv_iload_n hx hb dL_pledged_3 rfl (lv_at hl 1 rfl) ?_
  refine lv_iload_n hx hb dL_pledged_4 rfl (lv_at hl 2 rfl) ?_
  rw [zun_C] at hP
  have hD : va_D (zfr (ouW cA o f ++ unW cA x b rd r X N B Bs)) ((ouW cA o f ++ rdW rd r) ++ ((xmW cA x b rd X N ++ bkW (cA 0) (b 0) B) ++ (otW (cA 0) b Bs))) := by rw [← zun_C]; exact hD
  refine zw_look (X := (ouW cA o f ++ rdW rd r)) (Z := (otW (cA 0) b Bs)) (vx_runV (As := [.int i1, .int i2]) (rest := [.int 0, .ref o]) ⟨hx, hb, hml, hown, hts⟩ (zk_X2_pledged l hfl D cA b rd x X N B i1 i2) (cwV 2 hts gL_pledged_X2_pledged rfl rfl rfl zy_X2_pledged ⟨(Nat.le_of_ble_eq_true rfl), (Nat.le_of_ble_eq_true rfl)⟩) (zx_preVq (ci := 2) (q0 := 0) hK (zmid_P hP) (zmid_D hD) hO hS (fun q h => by rw [zun_C]; exact zmid_fr h) rfl rfl) rfl rfl hl.1 rfl (lv_room (Nat.le_of_ble_eq_true rfl)) dL_pledged_5 ⟨(Nat.le_of_ble_eq_true rfl), (Nat.le_of_ble_eq_true rfl)⟩) hP hD hS rfl (fun E ce q9 H locs hX hP hS hce hcv hcl => ?_) (fun locs hV hS => ?_)
  · have hP : va_P D vwCl (ouW cA o f ++ unW cA x b rd r X N B Bs) H := by rw [zun_C]; exact hP
    rcases hX with ⟨h1, rfl⟩ | ⟨h1, ⟨h2, rfl⟩ | ⟨h2, hX⟩⟩
    · refine vx_catch (own := RL) (name := "java/lang/IndexOutOfBoundsException") hown [] ⟨0, 10, 13, 13⟩ [] (zl_spl _ htab rfl) (fun z hz => nomatch hz) (by decide) (by decide) (hts (.classLink RL 13 "java/lang/IndexOutOfBoundsException") (List.mem_of_getElem? (i := 1) rfl)) (va_Nw.use rfl hO.2.2.2.1) hce hcv hcl ?_
      refine lv_astore (lv' := [(4, .ref q9), (0, .ref (x 0)), (1, .int i1), (2, .int i2), (3, .ref o)]) hx hb dL_pledged_13 hl (by decide) rfl (fun ls hl => ?_)
      refine lv_iconst (v := 1) hx hb dL_pledged_15 (by decide) ?_
      exact zw_ret hx hb hr hlocks dL_pledged_16 (Or.inl ⟨h1, rfl⟩) (if_neg z10).symm hP hS (Nat.le_of_ble_eq_true rfl) (Nat.le_of_ble_eq_true rfl)
    · refine vx_catch (own := RL) (name := "java/lang/IndexOutOfBoundsException") hown [] ⟨0, 10, 13, 13⟩ [] (zl_spl _ htab rfl) (fun z hz => nomatch hz) (by decide) (by decide) (hts (.classLink RL 13 "java/lang/IndexOutOfBoundsException") (List.mem_of_getElem? (i := 1) rfl)) (va_Nw.use rfl hO.2.2.2.1) hce hcv hcl ?_
      refine lv_astore (lv' := [(4, .ref q9), (0, .ref (x 0)), (1, .int i1), (2, .int i2), (3, .ref o)]) hx hb dL_pledged_13 hl (by decide) rfl (fun ls hl => ?_)
      refine lv_iconst (v := 1) hx hb dL_pledged_15 (by decide) ?_
      exact zw_ret hx hb hr hlocks dL_pledged_16 (Or.inr ⟨h1, Or.inl ⟨h2, rfl⟩⟩) (if_neg z10).symm hP hS (Nat.le_of_ble_eq_true rfl) (Nat.le_of_ble_eq_true rfl)
    · exact hX.elim
  · rw [← zun_C] at hP hD
    refine lv_i2l hx hb dL_pledged_8 rfl ?_
    refine zw_last hx hb hK hP hD hS dL_pledged_9 (fun H locs hP hD hS => ?_)
    refine lv_goto (tgt := 17) hx hb dL_pledged_10 (by decide) ?_
    refine lv_iconst (v := 0) hx hb dL_pledged_17 (by decide) ?_
    exact zw_ret hx hb hr hlocks dL_pledged_18 (Or.inr ⟨hV.1, Or.inr ⟨hV.2.1, rfl⟩⟩) (if_pos rfl).symm hP hS (Nat.le_of_ble_eq_true rfl) (Nat.le_of_ble_eq_true rfl)
theorem zy_L_count : yL_count.cls = RL ∧ yL_count.cls ≠ "java/lang/invoke/MethodHandle" ∧ yL_count.cls ≠ "java/lang/invoke/VarHandle" ∧ (parseMethodDescriptor yL_count.desc).map (fun d => d.parameters.length) = some 3 := by decide +kernel
set_option maxHeartbeats 4000000 in
set_option maxRecDepth 100000 in
theorem zl_count (l : Launch) (hfl : l.stackTraces = false) (D : va_G) (cA : Nat → ClassId) (o : Nat) (f : Nat → Int64) (b : Nat → Nat → Nat) (rd : Nat) (r : Nat → Nat) (x : Nat → Nat) (X : BK) (N : NK) (B : BK) (Bs : Nat → BK) (i1 : Int32)  : Met l yL_count wsL_count (zrx 8 133 1 6) (zPw D cA [.ref (x 0), .int i1, .ref o] (ouW cA o f ++ unW cA x b rd r X N B Bs)) (zW D (ouW cA o f ++ unW cA x b rd r X N B Bs) [(zrg i1 0 11, 1)] (ouW cA o (vp_updL f 0 (f_X2_count N B i1).toInt64) ++ unW cA x b rd r X N B Bs) (ouW cA o f ++ unW cA x b rd r X N B Bs)) 1 6 (zfr (ouW cA o f ++ unW cA x b rd r X N B Bs)) := by
  refine va_MetW (cc := cL_count) (maxL := 4) (ret := (some .int)) (hh := [(0, 9, 12, 15)]) (by decide) rfl ?_
  intro p e s m args below meth c s₁ Bd hml hv
  obtain ⟨rfl, hP, hK, hD0, hO, hn1, hn2⟩ := hv
  have hx := Bd.exec
  have hb := Bd.bytes
  have hr := Bd.returns
  have hts := atoms_spec (ws := wsL_count) Bd.pre
  have hown : s.vm.findClass RL = some m.cls := findClass_of_methodNamed Bd.named
  have hlocks := Bd.notSynchronized
  have htab := vx_table (x := yL_count) Bd (hts _ List.mem_cons_self)
  have hD := z_Dfr hD0
  have hS : va_S (zfr (ouW cA o f ++ unW cA x b rd r X N B Bs)) s.heap s.heap [] := va_S.rf
  have hl := lv_entry ([.ref (x 0), .int i1, .ref o]) (n := 4) (Nat.le_of_ble_eq_true rfl)
  rw [lg_entry_eq]
  generalize (lg_sl ([.ref (x 0), .int i1, .ref o]) ++ List.replicate (4 - (lg_sl ([.ref (x 0), .int i1, .ref o])).length) Slot.unset).toArray = ls at hl ⊢
  have hl : lv_has ls 4 [(0, .ref (x 0)), (1, .int i1), (2, .ref o)] := hl
  refine lv_aload_n hx hb dL_count_0 rfl (lv_at hl 2 rfl) ?_
  refine lv_iconst (v := 0) hx hb dL_count_1 (by decide) ?_
  refine lv_aload_n hx hb dL_count_2 rfl (lv_at hl 0 rfl) ?_
  refine lv_iload_n hx hb dL_count_3 rfl (lv_at hl 1 rfl) ?_
  rw [zun_C] at hP
  have hD : va_D (zfr (ouW cA o f ++ unW cA x b rd r X N B Bs)) ((ouW cA o f ++ rdW rd r) ++ ((xmW cA x b rd X N ++ bkW (cA 0) (b 0) B) ++ (otW (cA 0) b Bs))) := by rw [← zun_C]; exact hD
  refine zw_look (X := (ouW cA o f ++ rdW rd r)) (Z := (otW (cA 0) b Bs)) (vx_runV (As := [.int i1]) (rest := [.int 0, .ref o]) ⟨hx, hb, hml, hown, hts⟩ (zk_X2_count l hfl D cA b rd x X N B i1) (cwV 1 hts gL_count_X2_count rfl rfl rfl zy_X2_count ⟨(Nat.le_of_ble_eq_true rfl), (Nat.le_of_ble_eq_true rfl)⟩) (zx_preVq (ci := 2) (q0 := 0) hK (zmid_P hP) (zmid_D hD) hO hS (fun q h => by rw [zun_C]; exact zmid_fr h) rfl rfl) rfl rfl hl.1 rfl (lv_room (Nat.le_of_ble_eq_true rfl)) dL_count_4 ⟨(Nat.le_of_ble_eq_true rfl), (Nat.le_of_ble_eq_true rfl)⟩) hP hD hS rfl (fun E ce q9 H locs hX hP hS hce hcv hcl => ?_) (fun locs hV hS => ?_)
  · have hP : va_P D vwCl (ouW cA o f ++ unW cA x b rd r X N B Bs) H := by rw [zun_C]; exact hP
    rcases hX with ⟨h1, rfl⟩ | ⟨h1, hX⟩
    · refine vx_catch (own := RL) (name := "java/lang/IllegalArgumentException") hown [] ⟨0, 9, 12, 15⟩ [] (zl_spl _ htab rfl) (fun z hz => nomatch hz) (by decide) (by decide) (hts (.classLink RL 15 "java/lang/IllegalArgumentException") (List.mem_of_getElem? (i := 1) rfl)) (va_Nw.use rfl hO.2.2.2.2.1) hce hcv hcl ?_
      refine lv_astore_n (i := 3) (lv' := [(3, .ref q9), (0, .ref (x 0)), (1, .int i1), (2, .ref o)]) hx hb dL_count_12 rfl hl (by decide) rfl (fun ls hl => ?_)
      refine lv_iconst (v := 1) hx hb dL_count_13 (by decide) ?_
      exact zw_ret hx hb hr hlocks dL_count_14 (Or.inl ⟨h1, rfl⟩) (if_neg z10).symm hP hS (Nat.le_of_ble_eq_true rfl) (Nat.le_of_ble_eq_true rfl)
    · exact hX.elim
  · rw [← zun_C] at hP hD
    refine lv_i2l hx hb dL_count_7 rfl ?_
    refine zw_last hx hb hK hP hD hS dL_count_8 (fun H locs hP hD hS => ?_)
    refine lv_goto (tgt := 15) hx hb dL_count_9 (by decide) ?_
    refine lv_iconst (v := 0) hx hb dL_count_15 (by decide) ?_
    exact zw_ret hx hb hr hlocks dL_count_16 (Or.inr ⟨hV.1, rfl⟩) (if_pos rfl).symm hP hS (Nat.le_of_ble_eq_true rfl) (Nat.le_of_ble_eq_true rfl)
theorem zy_L_setting : yL_setting.cls = RL ∧ yL_setting.cls ≠ "java/lang/invoke/MethodHandle" ∧ yL_setting.cls ≠ "java/lang/invoke/VarHandle" ∧ (parseMethodDescriptor yL_setting.desc).map (fun d => d.parameters.length) = some 3 := by decide +kernel
set_option maxHeartbeats 4000000 in
set_option maxRecDepth 100000 in
theorem zl_setting (l : Launch) (hfl : l.stackTraces = false) (D : va_G) (cA : Nat → ClassId) (o : Nat) (f : Nat → Int64) (b : Nat → Nat → Nat) (rd : Nat) (r : Nat → Nat) (x : Nat → Nat) (X : BK) (N : NK) (B : BK) (Bs : Nat → BK) (i1 : Int32)  : Met l yL_setting wsL_setting (zrx 8 131 1 6) (zPw D cA [.ref (x 0), .int i1, .ref o] (ouW cA o f ++ unW cA x b rd r X N B Bs)) (zW D (ouW cA o f ++ unW cA x b rd r X N B Bs) [(zset i1, 1)] (ouW cA o (vp_updL f 0 (f_X2_setting B i1).toInt64) ++ unW cA x b rd r X N B Bs) (ouW cA o f ++ unW cA x b rd r X N B Bs)) 1 6 (zfr (ouW cA o f ++ unW cA x b rd r X N B Bs)) := by
  refine va_MetW (cc := cL_setting) (maxL := 4) (ret := (some .int)) (hh := [(0, 9, 12, 13)]) (by decide) rfl ?_
  intro p e s m args below meth c s₁ Bd hml hv
  obtain ⟨rfl, hP, hK, hD0, hO, hn1, hn2⟩ := hv
  have hx := Bd.exec
  have hb := Bd.bytes
  have hr := Bd.returns
  have hts := atoms_spec (ws := wsL_setting) Bd.pre
  have hown : s.vm.findClass RL = some m.cls := findClass_of_methodNamed Bd.named
  have hlocks := Bd.notSynchronized
  have htab := vx_table (x := yL_setting) Bd (hts _ List.mem_cons_self)
  have hD := z_Dfr hD0
  have hS : va_S (zfr (ouW cA o f ++ unW cA x b rd r X N B Bs)) s.heap s.heap [] := va_S.rf
  have hl := lv_entry ([.ref (x 0), .int i1, .ref o]) (n := 4) (Nat.le_of_ble_eq_true rfl)
  rw [lg_entry_eq]
  generalize (lg_sl ([.ref (x 0), .int i1, .ref o]) ++ List.replicate (4 - (lg_sl ([.ref (x 0), .int i1, .ref o])).length) Slot.unset).toArray = ls at hl ⊢
  have hl : lv_has ls 4 [(0, .ref (x 0)), (1, .int i1), (2, .ref o)] := hl
  refine lv_aload_n hx hb dL_setting_0 rfl (lv_at hl 2 rfl) ?_
  refine lv_iconst (v := 0) hx hb dL_setting_1 (by decide) ?_
  refine lv_aload_n hx hb dL_setting_2 rfl (lv_at hl 0 rfl) ?_
  refine lv_iload_n hx hb dL_setting_3 rfl (lv_at hl 1 rfl) ?_
  rw [zun_C] at hP
  have hD : va_D (zfr (ouW cA o f ++ unW cA x b rd r X N B Bs)) ((ouW cA o f ++ rdW rd r) ++ ((xmW cA x b rd X N ++ bkW (cA 0) (b 0) B) ++ (otW (cA 0) b Bs))) := by rw [← zun_C]; exact hD
  refine zw_look (X := (ouW cA o f ++ rdW rd r)) (Z := (otW (cA 0) b Bs)) (vx_runV (As := [.int i1]) (rest := [.int 0, .ref o]) ⟨hx, hb, hml, hown, hts⟩ (zk_X2_setting l hfl D cA b rd x X N B i1) (cwV 1 hts gL_setting_X2_setting rfl rfl rfl zy_X2_setting ⟨(Nat.le_of_ble_eq_true rfl), (Nat.le_of_ble_eq_true rfl)⟩) (zx_preVq (ci := 2) (q0 := 0) hK (zmid_P hP) (zmid_D hD) hO hS (fun q h => by rw [zun_C]; exact zmid_fr h) rfl rfl) rfl rfl hl.1 rfl (lv_room (Nat.le_of_ble_eq_true rfl)) dL_setting_4 ⟨(Nat.le_of_ble_eq_true rfl), (Nat.le_of_ble_eq_true rfl)⟩) hP hD hS rfl (fun E ce q9 H locs hX hP hS hce hcv hcl => ?_) (fun locs hV hS => ?_)
  · have hP : va_P D vwCl (ouW cA o f ++ unW cA x b rd r X N B Bs) H := by rw [zun_C]; exact hP
    rcases hX with ⟨h1, rfl⟩ | ⟨h1, hX⟩
    · refine vx_catch (own := RL) (name := "java/lang/IndexOutOfBoundsException") hown [] ⟨0, 9, 12, 13⟩ [] (zl_spl _ htab rfl) (fun z hz => nomatch hz) (by decide) (by decide) (hts (.classLink RL 13 "java/lang/IndexOutOfBoundsException") (List.mem_of_getElem? (i := 1) rfl)) (va_Nw.use rfl hO.2.2.2.1) hce hcv hcl ?_
      refine lv_astore_n (i := 3) (lv' := [(3, .ref q9), (0, .ref (x 0)), (1, .int i1), (2, .ref o)]) hx hb dL_setting_12 rfl hl (by decide) rfl (fun ls hl => ?_)
      refine lv_iconst (v := 1) hx hb dL_setting_13 (by decide) ?_
      exact zw_ret hx hb hr hlocks dL_setting_14 (Or.inl ⟨h1, rfl⟩) (if_neg z10).symm hP hS (Nat.le_of_ble_eq_true rfl) (Nat.le_of_ble_eq_true rfl)
    · exact hX.elim
  · rw [← zun_C] at hP hD
    refine lv_i2l hx hb dL_setting_7 rfl ?_
    refine zw_last hx hb hK hP hD hS dL_setting_8 (fun H locs hP hD hS => ?_)
    refine lv_goto (tgt := 15) hx hb dL_setting_9 (by decide) ?_
    refine lv_iconst (v := 0) hx hb dL_setting_15 (by decide) ?_
    exact zw_ret hx hb hr hlocks dL_setting_16 (Or.inr ⟨hV.1, rfl⟩) (if_pos rfl).symm hP hS (Nat.le_of_ble_eq_true rfl) (Nat.le_of_ble_eq_true rfl)
theorem zy_L_whyNot : yL_whyNot.cls = RL ∧ yL_whyNot.cls ≠ "java/lang/invoke/MethodHandle" ∧ yL_whyNot.cls ≠ "java/lang/invoke/VarHandle" ∧ (parseMethodDescriptor yL_whyNot.desc).map (fun d => d.parameters.length) = some 4 := by decide +kernel
set_option maxHeartbeats 4000000 in
set_option maxRecDepth 100000 in
theorem zl_whyNot (l : Launch) (hfl : l.stackTraces = false) (D : va_G) (cA : Nat → ClassId) (o : Nat) (f : Nat → Int64) (b : Nat → Nat → Nat) (rd : Nat) (r : Nat → Nat) (x : Nat → Nat) (X : BK) (N : NK) (B : BK) (Bs : Nat → BK) (i1 am : Int32)  : Met l yL_whyNot wsL_whyNot (zrx 9 154 2 12) (zPw D cA [.ref (x 0), .int i1, .int am, .ref o] (ouW cA o f ++ unW cA x b rd r X N B Bs)) (zW D (ouW cA o f ++ unW cA x b rd r X N B Bs) [(zmem i1, 1), (zrg am 1 9999, 2)] (ouW cA o (vp_updL f 0 (f_X2_whyNot B i1 am).toInt64) ++ unW cA x b rd r X N B Bs) (ouW cA o f ++ unW cA x b rd r X N B Bs)) 2 12 (zfr (ouW cA o f ++ unW cA x b rd r X N B Bs)) := by
  refine va_MetW (cc := cL_whyNot) (maxL := 5) (ret := (some .int)) (hh := [(0, 10, 13, 13), (0, 10, 17, 15)]) (by decide) rfl ?_
  intro p e s m args below meth c s₁ Bd hml hv
  obtain ⟨rfl, hP, hK, hD0, hO, hn1, hn2⟩ := hv
  have hx := Bd.exec
  have hb := Bd.bytes
  have hr := Bd.returns
  have hts := atoms_spec (ws := wsL_whyNot) Bd.pre
  have hown : s.vm.findClass RL = some m.cls := findClass_of_methodNamed Bd.named
  have hlocks := Bd.notSynchronized
  have htab := vx_table (x := yL_whyNot) Bd (hts _ List.mem_cons_self)
  have hD := z_Dfr hD0
  have hS : va_S (zfr (ouW cA o f ++ unW cA x b rd r X N B Bs)) s.heap s.heap [] := va_S.rf
  have hl := lv_entry ([.ref (x 0), .int i1, .int am, .ref o]) (n := 5) (Nat.le_of_ble_eq_true rfl)
  rw [lg_entry_eq]
  generalize (lg_sl ([.ref (x 0), .int i1, .int am, .ref o]) ++ List.replicate (5 - (lg_sl ([.ref (x 0), .int i1, .int am, .ref o])).length) Slot.unset).toArray = ls at hl ⊢
  have hl : lv_has ls 5 [(0, .ref (x 0)), (1, .int i1), (2, .int am), (3, .ref o)] := hl
  refine lv_aload_n hx hb dL_whyNot_0 rfl (lv_at hl 3 rfl) ?_
  refine lv_iconst (v := 0) hx hb dL_whyNot_1 (by decide) ?_
  refine lv_aload_n hx hb dL_whyNot_2 rfl (lv_at hl 0 rfl) ?_
  refine lv_iload_n hx hb dL_whyNot_3 rfl (lv_at hl 1 rfl) ?_
  refine lv_iload_n hx hb dL_whyNot_4 rfl (lv_at hl 2 rfl) ?_
  rw [zun_C] at hP
  have hD : va_D (zfr (ouW cA o f ++ unW cA x b rd r X N B Bs)) ((ouW cA o f ++ rdW rd r) ++ ((xmW cA x b rd X N ++ bkW (cA 0) (b 0) B) ++ (otW (cA 0) b Bs))) := by rw [← zun_C]; exact hD
  refine zw_look (X := (ouW cA o f ++ rdW rd r)) (Z := (otW (cA 0) b Bs)) (vx_runV (As := [.int i1, .int am]) (rest := [.int 0, .ref o]) ⟨hx, hb, hml, hown, hts⟩ (zk_X2_whyNot l hfl D cA b rd x X N B i1 am) (cwV 2 hts gL_whyNot_X2_whyNot rfl rfl rfl zy_X2_whyNot ⟨(Nat.le_of_ble_eq_true rfl), (Nat.le_of_ble_eq_true rfl)⟩) (zx_preVq (ci := 2) (q0 := 0) hK (zmid_P hP) (zmid_D hD) hO hS (fun q h => by rw [zun_C]; exact zmid_fr h) rfl rfl) rfl rfl hl.1 rfl (lv_room (Nat.le_of_ble_eq_true rfl)) dL_whyNot_5 ⟨(Nat.le_of_ble_eq_true rfl), (Nat.le_of_ble_eq_true rfl)⟩) hP hD hS rfl (fun E ce q9 H locs hX hP hS hce hcv hcl => ?_) (fun locs hV hS => ?_)
  · have hP : va_P D vwCl (ouW cA o f ++ unW cA x b rd r X N B Bs) H := by rw [zun_C]; exact hP
    rcases hX with ⟨h1, rfl⟩ | ⟨h1, ⟨h2, rfl⟩ | ⟨h2, hX⟩⟩
    · refine vx_catch (own := RL) (name := "java/lang/IndexOutOfBoundsException") hown [] ⟨0, 10, 13, 13⟩ [⟨0, 10, 17, 15⟩] (zl_spl _ htab rfl) (fun z hz => nomatch hz) (by decide) (by decide) (hts (.classLink RL 13 "java/lang/IndexOutOfBoundsException") (List.mem_of_getElem? (i := 1) rfl)) (va_Nw.use rfl hO.2.2.2.1) hce hcv hcl ?_
      refine lv_astore (lv' := [(4, .ref q9), (0, .ref (x 0)), (1, .int i1), (2, .int am), (3, .ref o)]) hx hb dL_whyNot_13 hl (by decide) rfl (fun ls hl => ?_)
      refine lv_iconst (v := 1) hx hb dL_whyNot_15 (by decide) ?_
      exact zw_ret hx hb hr hlocks dL_whyNot_16 (Or.inl ⟨h1, rfl⟩) (if_neg z10).symm hP hS (Nat.le_of_ble_eq_true rfl) (Nat.le_of_ble_eq_true rfl)
    · refine vx_catch (own := RL) (name := "java/lang/IllegalArgumentException") hown [⟨0, 10, 13, 13⟩] ⟨0, 10, 17, 15⟩ [] (zl_spl _ htab rfl) (fun z hz => by cases List.mem_singleton.mp hz; exact Or.inr ⟨by decide, _, (hts (.classLink RL 13 "java/lang/IndexOutOfBoundsException") (List.mem_of_getElem? (i := 1) rfl)), hn1⟩) (by decide) (by decide) (hts (.classLink RL 15 "java/lang/IllegalArgumentException") (List.mem_of_getElem? (i := 2) rfl)) (va_Nw.use rfl hO.2.2.2.2.1) hce hcv hcl ?_
      refine lv_astore (lv' := [(4, .ref q9), (0, .ref (x 0)), (1, .int i1), (2, .int am), (3, .ref o)]) hx hb dL_whyNot_17 hl (by decide) rfl (fun ls hl => ?_)
      refine lv_iconst (v := 2) hx hb dL_whyNot_19 (by decide) ?_
      exact zw_ret hx hb hr hlocks dL_whyNot_20 (Or.inr ⟨h1, Or.inl ⟨h2, rfl⟩⟩) (if_neg z20).symm hP hS (Nat.le_of_ble_eq_true rfl) (Nat.le_of_ble_eq_true rfl)
    · exact hX.elim
  · rw [← zun_C] at hP hD
    refine lv_i2l hx hb dL_whyNot_8 rfl ?_
    refine zw_last hx hb hK hP hD hS dL_whyNot_9 (fun H locs hP hD hS => ?_)
    refine lv_goto (tgt := 21) hx hb dL_whyNot_10 (by decide) ?_
    refine lv_iconst (v := 0) hx hb dL_whyNot_21 (by decide) ?_
    exact zw_ret hx hb hr hlocks dL_whyNot_22 (Or.inr ⟨hV.1, Or.inr ⟨hV.2.1, rfl⟩⟩) (if_pos rfl).symm hP hS (Nat.le_of_ble_eq_true rfl) (Nat.le_of_ble_eq_true rfl)
theorem zy_L_greatest : yL_greatest.cls = RL ∧ yL_greatest.cls ≠ "java/lang/invoke/MethodHandle" ∧ yL_greatest.cls ≠ "java/lang/invoke/VarHandle" ∧ (parseMethodDescriptor yL_greatest.desc).map (fun d => d.parameters.length) = some 4 := by decide +kernel
set_option maxHeartbeats 4000000 in
set_option maxRecDepth 100000 in
theorem zl_greatest (l : Launch) (hfl : l.stackTraces = false) (D : va_G) (cA : Nat → ClassId) (o : Nat) (f : Nat → Int64) (b : Nat → Nat → Nat) (rd : Nat) (r : Nat → Nat) (x : Nat → Nat) (X : BK) (N : NK) (B : BK) (Bs : Nat → BK) (i1 i2 : Int32)  : Met l yL_greatest wsL_greatest (zrx 8 134 2 12) (zPw D cA [.ref (x 0), .int i1, .int i2, .ref o] (ouW cA o f ++ unW cA x b rd r X N B Bs)) (zW D (ouW cA o f ++ unW cA x b rd r X N B Bs) [(zmem i1, 1), (zrg i2 0 1, 2)] (ouW cA o (vp_updL f 0 (f_X2_greatest B i1 i2).toInt64) ++ unW cA x b rd r X N B Bs) (ouW cA o f ++ unW cA x b rd r X N B Bs)) 2 12 (zfr (ouW cA o f ++ unW cA x b rd r X N B Bs)) := by
  refine va_MetW (cc := cL_greatest) (maxL := 5) (ret := (some .int)) (hh := [(0, 10, 13, 13), (0, 10, 17, 15)]) (by decide) rfl ?_
  intro p e s m args below meth c s₁ Bd hml hv
  obtain ⟨rfl, hP, hK, hD0, hO, hn1, hn2⟩ := hv
  have hx := Bd.exec
  have hb := Bd.bytes
  have hr := Bd.returns
  have hts := atoms_spec (ws := wsL_greatest) Bd.pre
  have hown : s.vm.findClass RL = some m.cls := findClass_of_methodNamed Bd.named
  have hlocks := Bd.notSynchronized
  have htab := vx_table (x := yL_greatest) Bd (hts _ List.mem_cons_self)
  have hD := z_Dfr hD0
  have hS : va_S (zfr (ouW cA o f ++ unW cA x b rd r X N B Bs)) s.heap s.heap [] := va_S.rf
  have hl := lv_entry ([.ref (x 0), .int i1, .int i2, .ref o]) (n := 5) (Nat.le_of_ble_eq_true rfl)
  rw [lg_entry_eq]
  generalize (lg_sl ([.ref (x 0), .int i1, .int i2, .ref o]) ++ List.replicate (5 - (lg_sl ([.ref (x 0), .int i1, .int i2, .ref o])).length) Slot.unset).toArray = ls at hl ⊢
  have hl : lv_has ls 5 [(0, .ref (x 0)), (1, .int i1), (2, .int i2), (3, .ref o)] := hl
  refine lv_aload_n hx hb dL_greatest_0 rfl (lv_at hl 3 rfl) ?_
  refine lv_iconst (v := 0) hx hb dL_greatest_1 (by decide) ?_
  refine lv_aload_n hx hb dL_greatest_2 rfl (lv_at hl 0 rfl) ?_
  refine lv_iload_n hx hb dL_greatest_3 rfl (lv_at hl 1 rfl) ?_
  refine lv_iload_n hx hb dL_greatest_4 rfl (lv_at hl 2 rfl) ?_
  rw [zun_C] at hP
  have hD : va_D (zfr (ouW cA o f ++ unW cA x b rd r X N B Bs)) ((ouW cA o f ++ rdW rd r) ++ ((xmW cA x b rd X N ++ bkW (cA 0) (b 0) B) ++ (otW (cA 0) b Bs))) := by rw [← zun_C]; exact hD
  refine zw_look (X := (ouW cA o f ++ rdW rd r)) (Z := (otW (cA 0) b Bs)) (vx_runV (As := [.int i1, .int i2]) (rest := [.int 0, .ref o]) ⟨hx, hb, hml, hown, hts⟩ (zk_X2_greatest l hfl D cA b rd x X N B i1 i2) (cwV 2 hts gL_greatest_X2_greatest rfl rfl rfl zy_X2_greatest ⟨(Nat.le_of_ble_eq_true rfl), (Nat.le_of_ble_eq_true rfl)⟩) (zx_preVq (ci := 2) (q0 := 0) hK (zmid_P hP) (zmid_D hD) hO hS (fun q h => by rw [zun_C]; exact zmid_fr h) rfl rfl) rfl rfl hl.1 rfl (lv_room (Nat.le_of_ble_eq_true rfl)) dL_greatest_5 ⟨(Nat.le_of_ble_eq_true rfl), (Nat.le_of_ble_eq_true rfl)⟩) hP hD hS rfl (fun E ce q9 H locs hX hP hS hce hcv hcl => ?_) (fun locs hV hS => ?_)
  · have hP : va_P D vwCl (ouW cA o f ++ unW cA x b rd r X N B Bs) H := by rw [zun_C]; exact hP
    rcases hX with ⟨h1, rfl⟩ | ⟨h1, ⟨h2, rfl⟩ | ⟨h2, hX⟩⟩
    · refine vx_catch (own := RL) (name := "java/lang/IndexOutOfBoundsException") hown [] ⟨0, 10, 13, 13⟩ [⟨0, 10, 17, 15⟩] (zl_spl _ htab rfl) (fun z hz => nomatch hz) (by decide) (by decide) (hts (.classLink RL 13 "java/lang/IndexOutOfBoundsException") (List.mem_of_getElem? (i := 1) rfl)) (va_Nw.use rfl hO.2.2.2.1) hce hcv hcl ?_
      refine lv_astore (lv' := [(4, .ref q9), (0, .ref (x 0)), (1, .int i1), (2, .int i2), (3, .ref o)]) hx hb dL_greatest_13 hl (by decide) rfl (fun ls hl => ?_)
      refine lv_iconst (v := 1) hx hb dL_greatest_15 (by decide) ?_
      exact zw_ret hx hb hr hlocks dL_greatest_16 (Or.inl ⟨h1, rfl⟩) (if_neg z10).symm hP hS (Nat.le_of_ble_eq_true rfl) (Nat.le_of_ble_eq_true rfl)
    · refine vx_catch (own := RL) (name := "java/lang/IllegalArgumentException") hown [⟨0, 10, 13, 13⟩] ⟨0, 10, 17, 15⟩ [] (zl_spl _ htab rfl) (fun z hz => by cases List.mem_singleton.mp hz; exact Or.inr ⟨by decide, _, (hts (.classLink RL 13 "java/lang/IndexOutOfBoundsException") (List.mem_of_getElem? (i := 1) rfl)), hn1⟩) (by decide) (by decide) (hts (.classLink RL 15 "java/lang/IllegalArgumentException") (List.mem_of_getElem? (i := 2) rfl)) (va_Nw.use rfl hO.2.2.2.2.1) hce hcv hcl ?_
      refine lv_astore (lv' := [(4, .ref q9), (0, .ref (x 0)), (1, .int i1), (2, .int i2), (3, .ref o)]) hx hb dL_greatest_17 hl (by decide) rfl (fun ls hl => ?_)
      refine lv_iconst (v := 2) hx hb dL_greatest_19 (by decide) ?_
      exact zw_ret hx hb hr hlocks dL_greatest_20 (Or.inr ⟨h1, Or.inl ⟨h2, rfl⟩⟩) (if_neg z20).symm hP hS (Nat.le_of_ble_eq_true rfl) (Nat.le_of_ble_eq_true rfl)
    · exact hX.elim
  · rw [← zun_C] at hP hD
    refine lv_i2l hx hb dL_greatest_8 rfl ?_
    refine zw_last hx hb hK hP hD hS dL_greatest_9 (fun H locs hP hD hS => ?_)
    refine lv_goto (tgt := 21) hx hb dL_greatest_10 (by decide) ?_
    refine lv_iconst (v := 0) hx hb dL_greatest_21 (by decide) ?_
    exact zw_ret hx hb hr hlocks dL_greatest_22 (Or.inr ⟨hV.1, Or.inr ⟨hV.2.1, rfl⟩⟩) (if_pos rfl).symm hP hS (Nat.le_of_ble_eq_true rfl) (Nat.le_of_ble_eq_true rfl)
theorem zy_L_guarantors : yL_guarantors.cls = RL ∧ yL_guarantors.cls ≠ "java/lang/invoke/MethodHandle" ∧ yL_guarantors.cls ≠ "java/lang/invoke/VarHandle" ∧ (parseMethodDescriptor yL_guarantors.desc).map (fun d => d.parameters.length) = some 5 := by decide +kernel
set_option maxHeartbeats 4000000 in
set_option maxRecDepth 100000 in
theorem zl_guarantors (l : Launch) (hfl : l.stackTraces = false) (D : va_G) (cA : Nat → ClassId) (o : Nat) (f : Nat → Int64) (b : Nat → Nat → Nat) (rd : Nat) (r : Nat → Nat) (x : Nat → Nat) (X : BK) (N : NK) (B : BK) (Bs : Nat → BK) (i1 am i3 : Int32)  : Met l yL_guarantors wsL_guarantors (zrx 9 155 3 18) (zPw D cA [.ref (x 0), .int i1, .int am, .int i3, .ref o] (ouW cA o f ++ unW cA x b rd r X N B Bs)) (zW D (ouW cA o f ++ unW cA x b rd r X N B Bs) [(zmem i1, 1), (zrg am 1 9999, 2), (zrg i3 0 1, 2)] (ouW cA o (vp_updL f 0 ((f_X2_guarantors X B i1 am i3).1).toInt64) ++ unW cA x b rd r ((f_X2_guarantors X B i1 am i3).2) N B Bs) (ouW cA o f ++ unW cA x b rd r X N B Bs)) 3 18 (zfr (ouW cA o f ++ unW cA x b rd r X N B Bs)) := by
  refine va_MetW (cc := cL_guarantors) (maxL := 6) (ret := (some .int)) (hh := [(0, 12, 15, 13), (0, 12, 19, 15)]) (by decide) rfl ?_
  intro p e s m args below meth c s₁ Bd hml hv
  obtain ⟨rfl, hP, hK, hD0, hO, hn1, hn2⟩ := hv
  have hx := Bd.exec
  have hb := Bd.bytes
  have hr := Bd.returns
  have hts := atoms_spec (ws := wsL_guarantors) Bd.pre
  have hown : s.vm.findClass RL = some m.cls := findClass_of_methodNamed Bd.named
  have hlocks := Bd.notSynchronized
  have htab := vx_table (x := yL_guarantors) Bd (hts _ List.mem_cons_self)
  have hD := z_Dfr hD0
  have hS : va_S (zfr (ouW cA o f ++ unW cA x b rd r X N B Bs)) s.heap s.heap [] := va_S.rf
  have hl := lv_entry ([.ref (x 0), .int i1, .int am, .int i3, .ref o]) (n := 6) (Nat.le_of_ble_eq_true rfl)
  rw [lg_entry_eq]
  generalize (lg_sl ([.ref (x 0), .int i1, .int am, .int i3, .ref o]) ++ List.replicate (6 - (lg_sl ([.ref (x 0), .int i1, .int am, .int i3, .ref o])).length) Slot.unset).toArray = ls at hl ⊢
  have hl : lv_has ls 6 [(0, .ref (x 0)), (1, .int i1), (2, .int am), (3, .int i3), (4, .ref o)] := hl
  refine lv_aload hx hb dL_guarantors_0 (lv_at hl 4 rfl) ?_
  refine lv_iconst (v := 0) hx hb dL_guarantors_2 (by decide) ?_
  refine lv_aload_n hx hb dL_guarantors_3 rfl (lv_at hl 0 rfl) ?_
  refine lv_iload_n hx hb dL_guarantors_4 rfl (lv_at hl 1 rfl) ?_
  refine lv_iload_n hx hb dL_guarantors_5 rfl (lv_at hl 2 rfl) ?_
  refine lv_iload_n hx hb dL_guarantors_6 rfl (lv_at hl 3 rfl) ?_
  rw [zun_C] at hP
  have hD : va_D (zfr (ouW cA o f ++ unW cA x b rd r X N B Bs)) ((ouW cA o f ++ rdW rd r) ++ ((xmW cA x b rd X N ++ bkW (cA 0) (b 0) B) ++ (otW (cA 0) b Bs))) := by rw [← zun_C]; exact hD
  refine zw_call (X := (ouW cA o f ++ rdW rd r)) (Z := (otW (cA 0) b Bs)) (vx_runV (As := [.int i1, .int am, .int i3]) (rest := [.int 0, .ref o]) ⟨hx, hb, hml, hown, hts⟩ (zk_X2_guarantors l hfl D cA b rd x X N B i1 am i3) (cwV 3 hts gL_guarantors_X2_guarantors rfl rfl rfl zy_X2_guarantors ⟨(Nat.le_of_ble_eq_true rfl), (Nat.le_of_ble_eq_true rfl)⟩) (zx_preVq (ci := 2) (q0 := 0) hK (zmid_P hP) (zmid_D hD) hO hS (fun q h => by rw [zun_C]; exact zmid_fr h) rfl rfl) rfl rfl hl.1 rfl (lv_room (Nat.le_of_ble_eq_true rfl)) dL_guarantors_7 ⟨(Nat.le_of_ble_eq_true rfl), (Nat.le_of_ble_eq_true rfl)⟩) hP hD hS (z_adr2 xmW_adr bkW_adr) (z_adr2 xmW_adr bkW_adr) rfl (fun E ce q9 H locs hX hP hS hce hcv hcl => ?_) (fun H locs hV hP hD hS => ?_)
  · have hP : va_P D vwCl (ouW cA o f ++ unW cA x b rd r X N B Bs) H := by rw [zun_C]; exact hP
    rcases hX with ⟨h1, rfl⟩ | ⟨h1, ⟨h2, rfl⟩ | ⟨h2, ⟨h3, rfl⟩ | ⟨h3, hX⟩⟩⟩
    · refine vx_catch (own := RL) (name := "java/lang/IndexOutOfBoundsException") hown [] ⟨0, 12, 15, 13⟩ [⟨0, 12, 19, 15⟩] (zl_spl _ htab rfl) (fun z hz => nomatch hz) (by decide) (by decide) (hts (.classLink RL 13 "java/lang/IndexOutOfBoundsException") (List.mem_of_getElem? (i := 1) rfl)) (va_Nw.use rfl hO.2.2.2.1) hce hcv hcl ?_
      refine lv_astore (lv' := [(5, .ref q9), (0, .ref (x 0)), (1, .int i1), (2, .int am), (3, .int i3), (4, .ref o)]) hx hb dL_guarantors_15 hl (by decide) rfl (fun ls hl => ?_)
      refine lv_iconst (v := 1) hx hb dL_guarantors_17 (by decide) ?_
      exact zw_ret hx hb hr hlocks dL_guarantors_18 (Or.inl ⟨h1, rfl⟩) (if_neg z10).symm hP hS (Nat.le_of_ble_eq_true rfl) (Nat.le_of_ble_eq_true rfl)
    · refine vx_catch (own := RL) (name := "java/lang/IllegalArgumentException") hown [⟨0, 12, 15, 13⟩] ⟨0, 12, 19, 15⟩ [] (zl_spl _ htab rfl) (fun z hz => by cases List.mem_singleton.mp hz; exact Or.inr ⟨by decide, _, (hts (.classLink RL 13 "java/lang/IndexOutOfBoundsException") (List.mem_of_getElem? (i := 1) rfl)), hn1⟩) (by decide) (by decide) (hts (.classLink RL 15 "java/lang/IllegalArgumentException") (List.mem_of_getElem? (i := 2) rfl)) (va_Nw.use rfl hO.2.2.2.2.1) hce hcv hcl ?_
      refine lv_astore (lv' := [(5, .ref q9), (0, .ref (x 0)), (1, .int i1), (2, .int am), (3, .int i3), (4, .ref o)]) hx hb dL_guarantors_19 hl (by decide) rfl (fun ls hl => ?_)
      refine lv_iconst (v := 2) hx hb dL_guarantors_21 (by decide) ?_
      exact zw_ret hx hb hr hlocks dL_guarantors_22 (Or.inr ⟨h1, Or.inl ⟨h2, rfl⟩⟩) (if_neg z20).symm hP hS (Nat.le_of_ble_eq_true rfl) (Nat.le_of_ble_eq_true rfl)
    · refine vx_catch (own := RL) (name := "java/lang/IllegalArgumentException") hown [⟨0, 12, 15, 13⟩] ⟨0, 12, 19, 15⟩ [] (zl_spl _ htab rfl) (fun z hz => by cases List.mem_singleton.mp hz; exact Or.inr ⟨by decide, _, (hts (.classLink RL 13 "java/lang/IndexOutOfBoundsException") (List.mem_of_getElem? (i := 1) rfl)), hn1⟩) (by decide) (by decide) (hts (.classLink RL 15 "java/lang/IllegalArgumentException") (List.mem_of_getElem? (i := 2) rfl)) (va_Nw.use rfl hO.2.2.2.2.1) hce hcv hcl ?_
      refine lv_astore (lv' := [(5, .ref q9), (0, .ref (x 0)), (1, .int i1), (2, .int am), (3, .int i3), (4, .ref o)]) hx hb dL_guarantors_19 hl (by decide) rfl (fun ls hl => ?_)
      refine lv_iconst (v := 2) hx hb dL_guarantors_21 (by decide) ?_
      exact zw_ret hx hb hr hlocks dL_guarantors_22 (Or.inr ⟨h1, Or.inr ⟨h2, Or.inl ⟨h3, rfl⟩⟩⟩) (if_neg z20).symm hP hS (Nat.le_of_ble_eq_true rfl) (Nat.le_of_ble_eq_true rfl)
    · exact hX.elim
  · have hP : va_P D vwCl (ouW cA o f ++ unW cA x b rd r ((f_X2_guarantors X B i1 am i3).2) N B Bs) H := by rw [zun_C]; exact hP
    have hD : va_D (zfr (ouW cA o f ++ unW cA x b rd r X N B Bs)) (ouW cA o f ++ unW cA x b rd r ((f_X2_guarantors X B i1 am i3).2) N B Bs) := by have h := hD; rw [← zun_C] at h; exact h
    refine lv_i2l hx hb dL_guarantors_10 rfl ?_
    refine zw_last hx hb hK hP hD hS dL_guarantors_11 (fun H locs hP hD hS => ?_)
    refine lv_goto (tgt := 23) hx hb dL_guarantors_12 (by decide) ?_
    refine lv_iconst (v := 0) hx hb dL_guarantors_23 (by decide) ?_
    exact zw_ret hx hb hr hlocks dL_guarantors_24 (Or.inr ⟨hV.1, Or.inr ⟨hV.2.1, Or.inr ⟨hV.2.2.1, rfl⟩⟩⟩) (if_pos rfl).symm hP hS (Nat.le_of_ble_eq_true rfl) (Nat.le_of_ble_eq_true rfl)
theorem zy_L_weeksLeft : yL_weeksLeft.cls = RL ∧ yL_weeksLeft.cls ≠ "java/lang/invoke/MethodHandle" ∧ yL_weeksLeft.cls ≠ "java/lang/invoke/VarHandle" ∧ (parseMethodDescriptor yL_weeksLeft.desc).map (fun d => d.parameters.length) = some 4 := by decide +kernel
set_option maxHeartbeats 4000000 in
set_option maxRecDepth 100000 in
theorem zl_weeksLeft (l : Launch) (hfl : l.stackTraces = false) (D : va_G) (cA : Nat → ClassId) (o : Nat) (f : Nat → Int64) (b : Nat → Nat → Nat) (rd : Nat) (r : Nat → Nat) (x : Nat → Nat) (X : BK) (N : NK) (B : BK) (Bs : Nat → BK) (i1 i2 : Int32)  : Met l yL_weeksLeft wsL_weeksLeft (zrx 8 134 2 12) (zPw D cA [.ref (x 0), .int i1, .int i2, .ref o] (ouW cA o f ++ unW cA x b rd r X N B Bs)) (zW D (ouW cA o f ++ unW cA x b rd r X N B Bs) [(zmem i1, 1), (zrg i2 0 1, 2)] (ouW cA o (vp_updL f 0 (f_X2_weeksLeft B i1 i2).toInt64) ++ unW cA x b rd r X N B Bs) (ouW cA o f ++ unW cA x b rd r X N B Bs)) 2 12 (zfr (ouW cA o f ++ unW cA x b rd r X N B Bs)) := by
  refine va_MetW (cc := cL_weeksLeft) (maxL := 5) (ret := (some .int)) (hh := [(0, 10, 13, 13), (0, 10, 17, 15)]) (by decide) rfl ?_
  intro p e s m args below meth c s₁ Bd hml hv
  obtain ⟨rfl, hP, hK, hD0, hO, hn1, hn2⟩ := hv
  have hx := Bd.exec
  have hb := Bd.bytes
  have hr := Bd.returns
  have hts := atoms_spec (ws := wsL_weeksLeft) Bd.pre
  have hown : s.vm.findClass RL = some m.cls := findClass_of_methodNamed Bd.named
  have hlocks := Bd.notSynchronized
  have htab := vx_table (x := yL_weeksLeft) Bd (hts _ List.mem_cons_self)
  have hD := z_Dfr hD0
  have hS : va_S (zfr (ouW cA o f ++ unW cA x b rd r X N B Bs)) s.heap s.heap [] := va_S.rf
  have hl := lv_entry ([.ref (x 0), .int i1, .int i2, .ref o]) (n := 5) (Nat.le_of_ble_eq_true rfl)
  rw [lg_entry_eq]
  generalize (lg_sl ([.ref (x 0), .int i1, .int i2, .ref o]) ++ List.replicate (5 - (lg_sl ([.ref (x 0), .int i1, .int i2, .ref o])).length) Slot.unset).toArray = ls at hl ⊢
  have hl : lv_has ls 5 [(0, .ref (x 0)), (1, .int i1), (2, .int i2), (3, .ref o)] := hl
  refine lv_aload_n hx hb dL_weeksLeft_0 rfl (lv_at hl 3 rfl) ?_
  refine lv_iconst (v := 0) hx hb dL_weeksLeft_1 (by decide) ?_
  refine lv_aload_n hx hb dL_weeksLeft_2 rfl (lv_at hl 0 rfl) ?_
  refine lv_iload_n hx hb dL_weeksLeft_3 rfl (lv_at hl 1 rfl) ?_
  refine lv_iload_n hx hb dL_weeksLeft_4 rfl (lv_at hl 2 rfl) ?_
  rw [zun_C] at hP
  have hD : va_D (zfr (ouW cA o f ++ unW cA x b rd r X N B Bs)) ((ouW cA o f ++ rdW rd r) ++ ((xmW cA x b rd X N ++ bkW (cA 0) (b 0) B) ++ (otW (cA 0) b Bs))) := by rw [← zun_C]; exact hD
  refine zw_look (X := (ouW cA o f ++ rdW rd r)) (Z := (otW (cA 0) b Bs)) (vx_runV (As := [.int i1, .int i2]) (rest := [.int 0, .ref o]) ⟨hx, hb, hml, hown, hts⟩ (zk_X2_weeksLeft l hfl D cA b rd x X N B i1 i2) (cwV 2 hts gL_weeksLeft_X2_weeksLeft rfl rfl rfl zy_X2_weeksLeft ⟨(Nat.le_of_ble_eq_true rfl), (Nat.le_of_ble_eq_true rfl)⟩) (zx_preVq (ci := 2) (q0 := 0) hK (zmid_P hP) (zmid_D hD) hO hS (fun q h => by rw [zun_C]; exact zmid_fr h) rfl rfl) rfl rfl hl.1 rfl (lv_room (Nat.le_of_ble_eq_true rfl)) dL_weeksLeft_5 ⟨(Nat.le_of_ble_eq_true rfl), (Nat.le_of_ble_eq_true rfl)⟩) hP hD hS rfl (fun E ce q9 H locs hX hP hS hce hcv hcl => ?_) (fun locs hV hS => ?_)
  · have hP : va_P D vwCl (ouW cA o f ++ unW cA x b rd r X N B Bs) H := by rw [zun_C]; exact hP
    rcases hX with ⟨h1, rfl⟩ | ⟨h1, ⟨h2, rfl⟩ | ⟨h2, hX⟩⟩
    · refine vx_catch (own := RL) (name := "java/lang/IndexOutOfBoundsException") hown [] ⟨0, 10, 13, 13⟩ [⟨0, 10, 17, 15⟩] (zl_spl _ htab rfl) (fun z hz => nomatch hz) (by decide) (by decide) (hts (.classLink RL 13 "java/lang/IndexOutOfBoundsException") (List.mem_of_getElem? (i := 1) rfl)) (va_Nw.use rfl hO.2.2.2.1) hce hcv hcl ?_
      refine lv_astore (lv' := [(4, .ref q9), (0, .ref (x 0)), (1, .int i1), (2, .int i2), (3, .ref o)]) hx hb dL_weeksLeft_13 hl (by decide) rfl (fun ls hl => ?_)
      refine lv_iconst (v := 1) hx hb dL_weeksLeft_15 (by decide) ?_
      exact zw_ret hx hb hr hlocks dL_weeksLeft_16 (Or.inl ⟨h1, rfl⟩) (if_neg z10).symm hP hS (Nat.le_of_ble_eq_true rfl) (Nat.le_of_ble_eq_true rfl)
    · refine vx_catch (own := RL) (name := "java/lang/IllegalArgumentException") hown [⟨0, 10, 13, 13⟩] ⟨0, 10, 17, 15⟩ [] (zl_spl _ htab rfl) (fun z hz => by cases List.mem_singleton.mp hz; exact Or.inr ⟨by decide, _, (hts (.classLink RL 13 "java/lang/IndexOutOfBoundsException") (List.mem_of_getElem? (i := 1) rfl)), hn1⟩) (by decide) (by decide) (hts (.classLink RL 15 "java/lang/IllegalArgumentException") (List.mem_of_getElem? (i := 2) rfl)) (va_Nw.use rfl hO.2.2.2.2.1) hce hcv hcl ?_
      refine lv_astore (lv' := [(4, .ref q9), (0, .ref (x 0)), (1, .int i1), (2, .int i2), (3, .ref o)]) hx hb dL_weeksLeft_17 hl (by decide) rfl (fun ls hl => ?_)
      refine lv_iconst (v := 2) hx hb dL_weeksLeft_19 (by decide) ?_
      exact zw_ret hx hb hr hlocks dL_weeksLeft_20 (Or.inr ⟨h1, Or.inl ⟨h2, rfl⟩⟩) (if_neg z20).symm hP hS (Nat.le_of_ble_eq_true rfl) (Nat.le_of_ble_eq_true rfl)
    · exact hX.elim
  · rw [← zun_C] at hP hD
    refine lv_i2l hx hb dL_weeksLeft_8 rfl ?_
    refine zw_last hx hb hK hP hD hS dL_weeksLeft_9 (fun H locs hP hD hS => ?_)
    refine lv_goto (tgt := 21) hx hb dL_weeksLeft_10 (by decide) ?_
    refine lv_iconst (v := 0) hx hb dL_weeksLeft_21 (by decide) ?_
    exact zw_ret hx hb hr hlocks dL_weeksLeft_22 (Or.inr ⟨hV.1, Or.inr ⟨hV.2.1, rfl⟩⟩) (if_pos rfl).symm hP hS (Nat.le_of_ble_eq_true rfl) (Nat.le_of_ble_eq_true rfl)
theorem zy_L_ifDivided : yL_ifDivided.cls = RL ∧ yL_ifDivided.cls ≠ "java/lang/invoke/MethodHandle" ∧ yL_ifDivided.cls ≠ "java/lang/invoke/VarHandle" ∧ (parseMethodDescriptor yL_ifDivided.desc).map (fun d => d.parameters.length) = some 3 := by decide +kernel
set_option maxHeartbeats 4000000 in
set_option maxRecDepth 100000 in
theorem zl_ifDivided (l : Launch) (hfl : l.stackTraces = false) (D : va_G) (cA : Nat → ClassId) (o : Nat) (f : Nat → Int64) (b : Nat → Nat → Nat) (rd : Nat) (r : Nat → Nat) (x : Nat → Nat) (X : BK) (N : NK) (B : BK) (Bs : Nat → BK) (i1 : Int32)  : Met l yL_ifDivided wsL_ifDivided (zrx 8 131 1 6) (zPw D cA [.ref (x 0), .int i1, .ref o] (ouW cA o f ++ unW cA x b rd r X N B Bs)) (zW D (ouW cA o f ++ unW cA x b rd r X N B Bs) [(zmem i1, 1)] (ouW cA o (vp_updL f 0 (f_X2_ifDivided B i1).toInt64) ++ unW cA x b rd r X N B Bs) (ouW cA o f ++ unW cA x b rd r X N B Bs)) 1 6 (zfr (ouW cA o f ++ unW cA x b rd r X N B Bs)) := by
  refine va_MetW (cc := cL_ifDivided) (maxL := 4) (ret := (some .int)) (hh := [(0, 9, 12, 13)]) (by decide) rfl ?_
  intro p e s m args below meth c s₁ Bd hml hv
  obtain ⟨rfl, hP, hK, hD0, hO, hn1, hn2⟩ := hv
  have hx := Bd.exec
  have hb := Bd.bytes
  have hr := Bd.returns
  have hts := atoms_spec (ws := wsL_ifDivided) Bd.pre
  have hown : s.vm.findClass RL = some m.cls := findClass_of_methodNamed Bd.named
  have hlocks := Bd.notSynchronized
  have htab := vx_table (x := yL_ifDivided) Bd (hts _ List.mem_cons_self)
  have hD := z_Dfr hD0
  have hS : va_S (zfr (ouW cA o f ++ unW cA x b rd r X N B Bs)) s.heap s.heap [] := va_S.rf
  have hl := lv_entry ([.ref (x 0), .int i1, .ref o]) (n := 4) (Nat.le_of_ble_eq_true rfl)
  rw [lg_entry_eq]
  generalize (lg_sl ([.ref (x 0), .int i1, .ref o]) ++ List.replicate (4 - (lg_sl ([.ref (x 0), .int i1, .ref o])).length) Slot.unset).toArray = ls at hl ⊢
  have hl : lv_has ls 4 [(0, .ref (x 0)), (1, .int i1), (2, .ref o)] := hl
  refine lv_aload_n hx hb dL_ifDivided_0 rfl (lv_at hl 2 rfl) ?_
  refine lv_iconst (v := 0) hx hb dL_ifDivided_1 (by decide) ?_
  refine lv_aload_n hx hb dL_ifDivided_2 rfl (lv_at hl 0 rfl) ?_
  refine lv_iload_n hx hb dL_ifDivided_3 rfl (lv_at hl 1 rfl) ?_
  rw [zun_C] at hP
  have hD : va_D (zfr (ouW cA o f ++ unW cA x b rd r X N B Bs)) ((ouW cA o f ++ rdW rd r) ++ ((xmW cA x b rd X N ++ bkW (cA 0) (b 0) B) ++ (otW (cA 0) b Bs))) := by rw [← zun_C]; exact hD
  refine zw_look (X := (ouW cA o f ++ rdW rd r)) (Z := (otW (cA 0) b Bs)) (vx_runV (As := [.int i1]) (rest := [.int 0, .ref o]) ⟨hx, hb, hml, hown, hts⟩ (zk_X2_ifDivided l hfl D cA b rd x X N B i1) (cwV 1 hts gL_ifDivided_X2_ifDivided rfl rfl rfl zy_X2_ifDivided ⟨(Nat.le_of_ble_eq_true rfl), (Nat.le_of_ble_eq_true rfl)⟩) (zx_preVq (ci := 2) (q0 := 0) hK (zmid_P hP) (zmid_D hD) hO hS (fun q h => by rw [zun_C]; exact zmid_fr h) rfl rfl) rfl rfl hl.1 rfl (lv_room (Nat.le_of_ble_eq_true rfl)) dL_ifDivided_4 ⟨(Nat.le_of_ble_eq_true rfl), (Nat.le_of_ble_eq_true rfl)⟩) hP hD hS rfl (fun E ce q9 H locs hX hP hS hce hcv hcl => ?_) (fun locs hV hS => ?_)
  · have hP : va_P D vwCl (ouW cA o f ++ unW cA x b rd r X N B Bs) H := by rw [zun_C]; exact hP
    rcases hX with ⟨h1, rfl⟩ | ⟨h1, hX⟩
    · refine vx_catch (own := RL) (name := "java/lang/IndexOutOfBoundsException") hown [] ⟨0, 9, 12, 13⟩ [] (zl_spl _ htab rfl) (fun z hz => nomatch hz) (by decide) (by decide) (hts (.classLink RL 13 "java/lang/IndexOutOfBoundsException") (List.mem_of_getElem? (i := 1) rfl)) (va_Nw.use rfl hO.2.2.2.1) hce hcv hcl ?_
      refine lv_astore_n (i := 3) (lv' := [(3, .ref q9), (0, .ref (x 0)), (1, .int i1), (2, .ref o)]) hx hb dL_ifDivided_12 rfl hl (by decide) rfl (fun ls hl => ?_)
      refine lv_iconst (v := 1) hx hb dL_ifDivided_13 (by decide) ?_
      exact zw_ret hx hb hr hlocks dL_ifDivided_14 (Or.inl ⟨h1, rfl⟩) (if_neg z10).symm hP hS (Nat.le_of_ble_eq_true rfl) (Nat.le_of_ble_eq_true rfl)
    · exact hX.elim
  · rw [← zun_C] at hP hD
    refine lv_i2l hx hb dL_ifDivided_7 rfl ?_
    refine zw_last hx hb hK hP hD hS dL_ifDivided_8 (fun H locs hP hD hS => ?_)
    refine lv_goto (tgt := 15) hx hb dL_ifDivided_9 (by decide) ?_
    refine lv_iconst (v := 0) hx hb dL_ifDivided_15 (by decide) ?_
    exact zw_ret hx hb hr hlocks dL_ifDivided_16 (Or.inr ⟨hV.1, rfl⟩) (if_pos rfl).symm hP hS (Nat.le_of_ble_eq_true rfl) (Nat.le_of_ble_eq_true rfl)
end
