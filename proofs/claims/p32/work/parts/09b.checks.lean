theorem zxp_conv {V V' : Prop} {c E : String} (h : V ↔ V') (h1 : zxp [(V, c)] E) : zxp [(V', c)] E := by
  rcases h1 with ⟨h1, h2⟩ | ⟨_, h2⟩
  · exact Or.inl ⟨fun q => h1 (h.mpr q), h2⟩
  · exact h2.elim
/-- a value for a setting -/
def zstv (x y : Int32) : Prop := (x = 0 → zrg y 0 100) ∧ (¬ x = 0 → zrg y 1 5)
theorem zstv_a {m : Nat} {y : Int32} (h : m = 0) : zrg y 0 100 ↔ zstv (nI m) y := by
  subst h
  exact ⟨fun q => ⟨fun _ => q, fun z => absurd rfl z⟩, fun q => q.1 rfl⟩
theorem zstv_b {m : Nat} {y : Int32} (h : ¬ m = 0) (h2 : m < 2) : zrg y 1 5 ↔ zstv (nI m) y := by
  have h1 : m = 1 := by omega
  subst h1
  have hn : ¬ nI 1 = 0 := by decide
  exact ⟨fun q => ⟨fun z => absurd z hn, fun _ => q⟩, fun q => q.2 hn⟩
theorem zrg_nat {x lo hi : Int32} {a b : Nat} (hlo : lo = nI a) (hhi : hi = nI b) (ha : a < 2 ^ 31) (hb : b < 2 ^ 31) (h : zrg x lo hi) : ∃ q9 : Nat, q9 < b + 1 ∧ x = nI q9 := by
  subst hlo hhi
  obtain ⟨h1, h2⟩ := h
  have h0 : ¬ x < 0 := by
    intro h9
    apply h1
    rw [Int32.lt_iff_toInt_lt] at h9 ⊢
    rw [nI_toInt ha]
    have e0 : (0 : Int32).toInt = 0 := by decide
    omega
  exact zq_nI hb h0 h2

theorem zy_X2_checkMember : yX2_checkMember.cls = RX2 ∧ yX2_checkMember.cls ≠ "java/lang/invoke/MethodHandle" ∧ yX2_checkMember.cls ≠ "java/lang/invoke/VarHandle" ∧ (parseMethodDescriptor yX2_checkMember.desc).map (fun d => d.parameters.length) = some 1 := by decide +kernel
set_option maxHeartbeats 4000000 in
set_option maxRecDepth 100000 in
theorem zk_X2_checkMember (l : Launch) (hfl : l.stackTraces = false) (D : va_G) (cA : Nat → ClassId) (i1 : Int32)  : vx_Met l yX2_checkMember wsX2_checkMember (zrx 6 90 1 6) (zPx D cA [.int i1] (([] : va_W))) (zV (zva [(zmem i1, zeO)]) (zE none)) (zX D (([] : va_W)) (([] : va_W)) (zxp [(zmem i1, zeO)])) 1 6 (zfr (([] : va_W))) := by
  refine vx_ofW (cc := cX2_checkMember) (maxL := 1) (ret := none) (by decide) rfl ?_
  intro p e s m args below meth c s₁ Bd hml hnt hv
  obtain ⟨rfl, hP, hK, hD0, hO⟩ := hv
  have hx := Bd.exec
  have hb := Bd.bytes
  have hr := Bd.returns
  have hts := atoms_spec (ws := wsX2_checkMember) Bd.pre
  have hown : s.vm.findClass RX2 = some m.cls := findClass_of_methodNamed Bd.named
  have hlocks := Bd.notSynchronized
  have hD := z_Dfr hD0
  have hS : va_S (zfr (([] : va_W))) s.heap s.heap [] := va_S.rf
  have hl := lv_entry ([.int i1]) (n := 1) (Nat.le_of_ble_eq_true rfl)
  rw [lg_entry_eq]
  generalize (lg_sl ([.int i1]) ++ List.replicate (1 - (lg_sl ([.int i1])).length) Slot.unset).toArray = ls at hl ⊢
  have hl : lv_has ls 1 [(0, .int i1)] := hl
  refine lv_iload_n hx hb dX2_checkMember_0 rfl (lv_at hl 0 rfl) ?_
  refine lv_if_lt (tgt := 10) hx hb dX2_checkMember_1 (by decide) (fun c_1 => ?_) (fun c_1 => ?_)
  · exact zx_throw (w := ([] : va_W)) (cls := zeO) (text := "no such member") (ik := 208) (is := 210) (ic := 212) hx hb hfl hown (by decide +kernel) (hts (.classLink RX2 208 "java/lang/IndexOutOfBoundsException") (List.mem_of_getElem? (i := 1) rfl)) (hts (.initialized "java/lang/IndexOutOfBoundsException") (List.mem_of_getElem? (i := 2) rfl)) hO (by decide) (fun x h8 => hts x ((fun w h => List.mem_cons_of_mem _ (List.mem_append_right _ h)) x h8)) zt_ngO hO.2.2.2.1 zt_otO hS (by rw [hml]; exact hl.1) dX2_checkMember_10 dX2_checkMember_13 dX2_checkMember_14 dX2_checkMember_16 dX2_checkMember_19 hnt (Nat.le_of_ble_eq_true rfl) (Nat.le_of_ble_eq_true rfl) (Nat.le_of_ble_eq_true rfl) (Nat.le_of_ble_eq_true rfl) hlocks hP (zxp_mid (pre := []) (vc := [(zmem i1, zeO)]) (suf := []) trivial (Or.inl ⟨(by first | exact zmem_no1 c_1 | exact zmem_no2 (Int32.not_lt.mp c_1)), rfl⟩)) (Nat.le_of_ble_eq_true rfl) (Nat.le_of_ble_eq_true rfl)
  · refine lv_iload_n hx hb dX2_checkMember_4 rfl (lv_at hl 0 rfl) ?_
    refine lv_bipush (v := 6) hx hb dX2_checkMember_5 (by decide) ?_
    refine lv_icmp_lt (tgt := 20) hx hb dX2_checkMember_7 (by decide) (fun c_2 => ?_) (fun c_2 => ?_)
    · refine W.widen (k := 1) (n := 6) (Nat.le_of_ble_eq_true rfl) (Nat.le_of_ble_eq_true rfl) ?_
      refine zx_ret ⟨(by exact zmem_ok c_1 (Int32.not_le.mpr c_2)), trivial⟩ ?_
      exact W.vret hx hb hr (fun t ht _ => ⟨rfl, ht⟩) (fun q hq => by cases hq) dX2_checkMember_20
    · exact zx_throw (w := ([] : va_W)) (cls := zeO) (text := "no such member") (ik := 208) (is := 210) (ic := 212) hx hb hfl hown (by decide +kernel) (hts (.classLink RX2 208 "java/lang/IndexOutOfBoundsException") (List.mem_of_getElem? (i := 1) rfl)) (hts (.initialized "java/lang/IndexOutOfBoundsException") (List.mem_of_getElem? (i := 2) rfl)) hO (by decide) (fun x h8 => hts x ((fun w h => List.mem_cons_of_mem _ (List.mem_append_right _ h)) x h8)) zt_ngO hO.2.2.2.1 zt_otO hS (by rw [hml]; exact hl.1) dX2_checkMember_10 dX2_checkMember_13 dX2_checkMember_14 dX2_checkMember_16 dX2_checkMember_19 hnt (Nat.le_of_ble_eq_true rfl) (Nat.le_of_ble_eq_true rfl) (Nat.le_of_ble_eq_true rfl) (Nat.le_of_ble_eq_true rfl) hlocks hP (zxp_mid (pre := []) (vc := [(zmem i1, zeO)]) (suf := []) trivial (Or.inl ⟨(by first | exact zmem_no1 c_2 | exact zmem_no2 (Int32.not_lt.mp c_2)), rfl⟩)) (Nat.le_of_ble_eq_true rfl) (Nat.le_of_ble_eq_true rfl)

theorem zy_X2_checkRange : yX2_checkRange.cls = RX2 ∧ yX2_checkRange.cls ≠ "java/lang/invoke/MethodHandle" ∧ yX2_checkRange.cls ≠ "java/lang/invoke/VarHandle" ∧ (parseMethodDescriptor yX2_checkRange.desc).map (fun d => d.parameters.length) = some 3 := by decide +kernel
set_option maxHeartbeats 4000000 in
set_option maxRecDepth 100000 in
theorem zk_X2_checkRange (l : Launch) (hfl : l.stackTraces = false) (D : va_G) (cA : Nat → ClassId) (v1 : Int32) (lo : Int32) (hi : Int32)  : vx_Met l yX2_checkRange wsX2_checkRange (zrx 6 90 1 6) (zPx D cA [.int v1, .int lo, .int hi] (([] : va_W))) (zV (zva [(zrg v1 lo hi, zeA)]) (zE none)) (zX D (([] : va_W)) (([] : va_W)) (zxp [(zrg v1 lo hi, zeA)])) 1 6 (zfr (([] : va_W))) := by
  refine vx_ofW (cc := cX2_checkRange) (maxL := 3) (ret := none) (by decide) rfl ?_
  intro p e s m args below meth c s₁ Bd hml hnt hv
  obtain ⟨rfl, hP, hK, hD0, hO⟩ := hv
  have hx := Bd.exec
  have hb := Bd.bytes
  have hr := Bd.returns
  have hts := atoms_spec (ws := wsX2_checkRange) Bd.pre
  have hown : s.vm.findClass RX2 = some m.cls := findClass_of_methodNamed Bd.named
  have hlocks := Bd.notSynchronized
  have hD := z_Dfr hD0
  have hS : va_S (zfr (([] : va_W))) s.heap s.heap [] := va_S.rf
  have hl := lv_entry ([.int v1, .int lo, .int hi]) (n := 3) (Nat.le_of_ble_eq_true rfl)
  rw [lg_entry_eq]
  generalize (lg_sl ([.int v1, .int lo, .int hi]) ++ List.replicate (3 - (lg_sl ([.int v1, .int lo, .int hi])).length) Slot.unset).toArray = ls at hl ⊢
  have hl : lv_has ls 3 [(0, .int v1), (1, .int lo), (2, .int hi)] := hl
  refine lv_iload_n hx hb dX2_checkRange_0 rfl (lv_at hl 0 rfl) ?_
  refine lv_iload_n hx hb dX2_checkRange_1 rfl (lv_at hl 1 rfl) ?_
  refine lv_icmp_lt (tgt := 10) hx hb dX2_checkRange_2 (by decide) (fun c_1 => ?_) (fun c_1 => ?_)
  · exact zx_throw (w := ([] : va_W)) (cls := zeA) (text := "out of range") (ik := 126) (is := 217) (ic := 130) hx hb hfl hown (by decide +kernel) (hts (.classLink RX2 126 "java/lang/IllegalArgumentException") (List.mem_of_getElem? (i := 1) rfl)) (hts (.initialized "java/lang/IllegalArgumentException") (List.mem_of_getElem? (i := 2) rfl)) hO (by decide) (fun x h8 => hts x ((fun w h => List.mem_cons_of_mem _ (List.mem_append_right _ h)) x h8)) zt_ngA hO.2.2.2.2.1 zt_otA hS (by rw [hml]; exact hl.1) dX2_checkRange_10 dX2_checkRange_13 dX2_checkRange_14 dX2_checkRange_16 dX2_checkRange_19 hnt (Nat.le_of_ble_eq_true rfl) (Nat.le_of_ble_eq_true rfl) (Nat.le_of_ble_eq_true rfl) (Nat.le_of_ble_eq_true rfl) hlocks hP (zxp_mid (pre := []) (vc := [(zrg v1 lo hi, zeA)]) (suf := []) trivial (Or.inl ⟨(by first | exact (fun h => h.1 c_1) | exact (fun h => h.2 (Int32.not_le.mp c_1))), rfl⟩)) (Nat.le_of_ble_eq_true rfl) (Nat.le_of_ble_eq_true rfl)
  · refine lv_iload_n hx hb dX2_checkRange_5 rfl (lv_at hl 0 rfl) ?_
    refine lv_iload_n hx hb dX2_checkRange_6 rfl (lv_at hl 2 rfl) ?_
    refine lv_icmp_le (tgt := 20) hx hb dX2_checkRange_7 (by decide) (fun c_2 => ?_) (fun c_2 => ?_)
    · refine W.widen (k := 1) (n := 6) (Nat.le_of_ble_eq_true rfl) (Nat.le_of_ble_eq_true rfl) ?_
      refine zx_ret ⟨(by exact ⟨c_1, Int32.not_lt.mpr c_2⟩), trivial⟩ ?_
      exact W.vret hx hb hr (fun t ht _ => ⟨rfl, ht⟩) (fun q hq => by cases hq) dX2_checkRange_20
    · exact zx_throw (w := ([] : va_W)) (cls := zeA) (text := "out of range") (ik := 126) (is := 217) (ic := 130) hx hb hfl hown (by decide +kernel) (hts (.classLink RX2 126 "java/lang/IllegalArgumentException") (List.mem_of_getElem? (i := 1) rfl)) (hts (.initialized "java/lang/IllegalArgumentException") (List.mem_of_getElem? (i := 2) rfl)) hO (by decide) (fun x h8 => hts x ((fun w h => List.mem_cons_of_mem _ (List.mem_append_right _ h)) x h8)) zt_ngA hO.2.2.2.2.1 zt_otA hS (by rw [hml]; exact hl.1) dX2_checkRange_10 dX2_checkRange_13 dX2_checkRange_14 dX2_checkRange_16 dX2_checkRange_19 hnt (Nat.le_of_ble_eq_true rfl) (Nat.le_of_ble_eq_true rfl) (Nat.le_of_ble_eq_true rfl) (Nat.le_of_ble_eq_true rfl) hlocks hP (zxp_mid (pre := []) (vc := [(zrg v1 lo hi, zeA)]) (suf := []) trivial (Or.inl ⟨(by first | exact (fun h => h.1 c_2) | exact (fun h => h.2 (Int32.not_le.mp c_2))), rfl⟩)) (Nat.le_of_ble_eq_true rfl) (Nat.le_of_ble_eq_true rfl)

theorem zy_X2_checkSetting : yX2_checkSetting.cls = RX2 ∧ yX2_checkSetting.cls ≠ "java/lang/invoke/MethodHandle" ∧ yX2_checkSetting.cls ≠ "java/lang/invoke/VarHandle" ∧ (parseMethodDescriptor yX2_checkSetting.desc).map (fun d => d.parameters.length) = some 1 := by decide +kernel
set_option maxHeartbeats 4000000 in
set_option maxRecDepth 100000 in
theorem zk_X2_checkSetting (l : Launch) (hfl : l.stackTraces = false) (D : va_G) (cA : Nat → ClassId) (i1 : Int32)  : vx_Met l yX2_checkSetting wsX2_checkSetting (zrx 6 90 1 6) (zPx D cA [.int i1] (([] : va_W))) (zV (zva [(zset i1, zeO)]) (zE none)) (zX D (([] : va_W)) (([] : va_W)) (zxp [(zset i1, zeO)])) 1 6 (zfr (([] : va_W))) := by
  refine vx_ofW (cc := cX2_checkSetting) (maxL := 1) (ret := none) (by decide) rfl ?_
  intro p e s m args below meth c s₁ Bd hml hnt hv
  obtain ⟨rfl, hP, hK, hD0, hO⟩ := hv
  have hx := Bd.exec
  have hb := Bd.bytes
  have hr := Bd.returns
  have hts := atoms_spec (ws := wsX2_checkSetting) Bd.pre
  have hown : s.vm.findClass RX2 = some m.cls := findClass_of_methodNamed Bd.named
  have hlocks := Bd.notSynchronized
  have hD := z_Dfr hD0
  have hS : va_S (zfr (([] : va_W))) s.heap s.heap [] := va_S.rf
  have hl := lv_entry ([.int i1]) (n := 1) (Nat.le_of_ble_eq_true rfl)
  rw [lg_entry_eq]
  generalize (lg_sl ([.int i1]) ++ List.replicate (1 - (lg_sl ([.int i1])).length) Slot.unset).toArray = ls at hl ⊢
  have hl : lv_has ls 1 [(0, .int i1)] := hl
  refine lv_iload_n hx hb dX2_checkSetting_0 rfl (lv_at hl 0 rfl) ?_
  refine lv_if_lt (tgt := 9) hx hb dX2_checkSetting_1 (by decide) (fun c_1 => ?_) (fun c_1 => ?_)
  · exact zx_throw (w := ([] : va_W)) (cls := zeO) (text := "no such setting") (ik := 208) (is := 215) (ic := 212) hx hb hfl hown (by decide +kernel) (hts (.classLink RX2 208 "java/lang/IndexOutOfBoundsException") (List.mem_of_getElem? (i := 1) rfl)) (hts (.initialized "java/lang/IndexOutOfBoundsException") (List.mem_of_getElem? (i := 2) rfl)) hO (by decide) (fun x h8 => hts x ((fun w h => List.mem_cons_of_mem _ (List.mem_append_right _ h)) x h8)) zt_ngO hO.2.2.2.1 zt_otO hS (by rw [hml]; exact hl.1) dX2_checkSetting_9 dX2_checkSetting_12 dX2_checkSetting_13 dX2_checkSetting_15 dX2_checkSetting_18 hnt (Nat.le_of_ble_eq_true rfl) (Nat.le_of_ble_eq_true rfl) (Nat.le_of_ble_eq_true rfl) (Nat.le_of_ble_eq_true rfl) hlocks hP (zxp_mid (pre := []) (vc := [(zset i1, zeO)]) (suf := []) trivial (Or.inl ⟨(by first | exact zset_no1 c_1 | exact zset_no2 (Int32.not_lt.mp c_1)), rfl⟩)) (Nat.le_of_ble_eq_true rfl) (Nat.le_of_ble_eq_true rfl)
  · refine lv_iload_n hx hb dX2_checkSetting_4 rfl (lv_at hl 0 rfl) ?_
    refine lv_iconst (v := 2) hx hb dX2_checkSetting_5 (by decide) ?_
    refine lv_icmp_lt (tgt := 19) hx hb dX2_checkSetting_6 (by decide) (fun c_2 => ?_) (fun c_2 => ?_)
    · refine W.widen (k := 1) (n := 6) (Nat.le_of_ble_eq_true rfl) (Nat.le_of_ble_eq_true rfl) ?_
      refine zx_ret ⟨(by exact zset_ok c_1 (Int32.not_le.mpr c_2)), trivial⟩ ?_
      exact W.vret hx hb hr (fun t ht _ => ⟨rfl, ht⟩) (fun q hq => by cases hq) dX2_checkSetting_19
    · exact zx_throw (w := ([] : va_W)) (cls := zeO) (text := "no such setting") (ik := 208) (is := 215) (ic := 212) hx hb hfl hown (by decide +kernel) (hts (.classLink RX2 208 "java/lang/IndexOutOfBoundsException") (List.mem_of_getElem? (i := 1) rfl)) (hts (.initialized "java/lang/IndexOutOfBoundsException") (List.mem_of_getElem? (i := 2) rfl)) hO (by decide) (fun x h8 => hts x ((fun w h => List.mem_cons_of_mem _ (List.mem_append_right _ h)) x h8)) zt_ngO hO.2.2.2.1 zt_otO hS (by rw [hml]; exact hl.1) dX2_checkSetting_9 dX2_checkSetting_12 dX2_checkSetting_13 dX2_checkSetting_15 dX2_checkSetting_18 hnt (Nat.le_of_ble_eq_true rfl) (Nat.le_of_ble_eq_true rfl) (Nat.le_of_ble_eq_true rfl) (Nat.le_of_ble_eq_true rfl) hlocks hP (zxp_mid (pre := []) (vc := [(zset i1, zeO)]) (suf := []) trivial (Or.inl ⟨(by first | exact zset_no1 c_2 | exact zset_no2 (Int32.not_lt.mp c_2)), rfl⟩)) (Nat.le_of_ble_eq_true rfl) (Nat.le_of_ble_eq_true rfl)

theorem zy_X2_checkAmount : yX2_checkAmount.cls = RX2 ∧ yX2_checkAmount.cls ≠ "java/lang/invoke/MethodHandle" ∧ yX2_checkAmount.cls ≠ "java/lang/invoke/VarHandle" ∧ (parseMethodDescriptor yX2_checkAmount.desc).map (fun d => d.parameters.length) = some 1 := by decide +kernel
set_option maxHeartbeats 4000000 in
set_option maxRecDepth 100000 in
theorem zk_X2_checkAmount (l : Launch) (hfl : l.stackTraces = false) (D : va_G) (cA : Nat → ClassId) (am : Int32)  : vx_Met l yX2_checkAmount wsX2_checkAmount (zrx 7 112 1 6) (zPx D cA [.int am] (([] : va_W))) (zV (zva [(zrg am 1 9999, zeA)]) (zE none)) (zX D (([] : va_W)) (([] : va_W)) (zxp [(zrg am 1 9999, zeA)])) 1 6 (zfr (([] : va_W))) := by
  refine vx_ofW (cc := cX2_checkAmount) (maxL := 1) (ret := none) (by decide) rfl ?_
  intro p e s m args below meth c s₁ Bd hml hnt hv
  obtain ⟨rfl, hP, hK, hD0, hO⟩ := hv
  have hx := Bd.exec
  have hb := Bd.bytes
  have hr := Bd.returns
  have hts := atoms_spec (ws := wsX2_checkAmount) Bd.pre
  have hown : s.vm.findClass RX2 = some m.cls := findClass_of_methodNamed Bd.named
  have hlocks := Bd.notSynchronized
  have hD := z_Dfr hD0
  have hS : va_S (zfr (([] : va_W))) s.heap s.heap [] := va_S.rf
  have hl := lv_entry ([.int am]) (n := 1) (Nat.le_of_ble_eq_true rfl)
  rw [lg_entry_eq]
  generalize (lg_sl ([.int am]) ++ List.replicate (1 - (lg_sl ([.int am])).length) Slot.unset).toArray = ls at hl ⊢
  have hl : lv_has ls 1 [(0, .int am)] := hl
  refine lv_iload_n hx hb dX2_checkAmount_0 rfl (lv_at hl 0 rfl) ?_
  refine lv_iconst (v := 1) hx hb dX2_checkAmount_1 (by decide) ?_
  refine lv_sipush (v := 9999) hx hb dX2_checkAmount_2 (by decide) ?_
  refine zx_chk (w := ([] : va_W)) (vx_runS (As := [.int am, .int 1, .int 9999]) (rest := []) ⟨hx, hb, hml, hown, hts⟩ (zk_X2_checkRange l hfl D cA am 1 9999) (va_cwS 3 hts gX2_checkAmount_X2_checkRange rfl rfl rfl zy_X2_checkRange.2 ⟨Nat.le_of_ble_eq_true rfl, Nat.le_of_ble_eq_true rfl⟩) (zx_preS (A := zfr (([] : va_W))) hK z_P0 (z_D0 (A := fun _ => True)) hO hS (fun q h => (zfr_0 q h).elim)) rfl rfl hl.1 rfl (lv_room (Nat.le_of_ble_eq_true rfl)) dX2_checkAmount_5 ⟨Nat.le_of_ble_eq_true rfl, Nat.le_of_ble_eq_true rfl⟩) rfl hnt hlocks hP (fun E h9 => zxp_mid (pre := []) (vc := [(zrg am 1 9999, zeA)]) (suf := []) trivial h9) (Nat.le_of_ble_eq_true rfl) (Nat.le_of_ble_eq_true rfl) (fun hv_5 => ?_)
  refine W.widen (k := 1) (n := 6) (Nat.le_of_ble_eq_true rfl) (Nat.le_of_ble_eq_true rfl) ?_
  refine zx_ret ⟨hv_5.1, trivial⟩ ?_
  exact W.vret hx hb hr (fun t ht _ => ⟨rfl, ht⟩) (fun q hq => by cases hq) dX2_checkAmount_8

theorem zy_X2_checkPair : yX2_checkPair.cls = RX2 ∧ yX2_checkPair.cls ≠ "java/lang/invoke/MethodHandle" ∧ yX2_checkPair.cls ≠ "java/lang/invoke/VarHandle" ∧ (parseMethodDescriptor yX2_checkPair.desc).map (fun d => d.parameters.length) = some 2 := by decide +kernel
set_option maxHeartbeats 4000000 in
set_option maxRecDepth 100000 in
theorem zk_X2_checkPair (l : Launch) (hfl : l.stackTraces = false) (D : va_G) (cA : Nat → ClassId) (i1 : Int32) (i2 : Int32)  : vx_Met l yX2_checkPair wsX2_checkPair (zrx 7 110 3 18) (zPx D cA [.int i1, .int i2] (([] : va_W))) (zV (zva [(zmem i1, zeO), (zmem i2, zeO), (¬ i1 = i2, zeA)]) (zE none)) (zX D (([] : va_W)) (([] : va_W)) (zxp [(zmem i1, zeO), (zmem i2, zeO), (¬ i1 = i2, zeA)])) 3 18 (zfr (([] : va_W))) := by
  refine vx_ofW (cc := cX2_checkPair) (maxL := 2) (ret := none) (by decide) rfl ?_
  intro p e s m args below meth c s₁ Bd hml hnt hv
  obtain ⟨rfl, hP, hK, hD0, hO⟩ := hv
  have hx := Bd.exec
  have hb := Bd.bytes
  have hr := Bd.returns
  have hts := atoms_spec (ws := wsX2_checkPair) Bd.pre
  have hown : s.vm.findClass RX2 = some m.cls := findClass_of_methodNamed Bd.named
  have hlocks := Bd.notSynchronized
  have hD := z_Dfr hD0
  have hS : va_S (zfr (([] : va_W))) s.heap s.heap [] := va_S.rf
  have hl := lv_entry ([.int i1, .int i2]) (n := 2) (Nat.le_of_ble_eq_true rfl)
  rw [lg_entry_eq]
  generalize (lg_sl ([.int i1, .int i2]) ++ List.replicate (2 - (lg_sl ([.int i1, .int i2])).length) Slot.unset).toArray = ls at hl ⊢
  have hl : lv_has ls 2 [(0, .int i1), (1, .int i2)] := hl
  refine lv_iload_n hx hb dX2_checkPair_0 rfl (lv_at hl 0 rfl) ?_
  refine zx_chk (w := ([] : va_W)) (vx_runS (As := [.int i1]) (rest := []) ⟨hx, hb, hml, hown, hts⟩ (zk_X2_checkMember l hfl D cA i1) (va_cwS 1 hts gX2_checkPair_X2_checkMember rfl rfl rfl zy_X2_checkMember.2 ⟨Nat.le_of_ble_eq_true rfl, Nat.le_of_ble_eq_true rfl⟩) (zx_preS (A := zfr (([] : va_W))) hK z_P0 (z_D0 (A := fun _ => True)) hO hS (fun q h => (zfr_0 q h).elim)) rfl rfl hl.1 rfl (lv_room (Nat.le_of_ble_eq_true rfl)) dX2_checkPair_1 ⟨Nat.le_of_ble_eq_true rfl, Nat.le_of_ble_eq_true rfl⟩) rfl hnt hlocks hP (fun E h9 => zxp_mid (pre := []) (vc := [(zmem i1, zeO)]) (suf := [(zmem i2, zeO), (¬ i1 = i2, zeA)]) trivial h9) (Nat.le_of_ble_eq_true rfl) (Nat.le_of_ble_eq_true rfl) (fun hv_1 => ?_)
  refine lv_iload_n hx hb dX2_checkPair_4 rfl (lv_at hl 1 rfl) ?_
  refine zx_chk (w := ([] : va_W)) (vx_runS (As := [.int i2]) (rest := []) ⟨hx, hb, hml, hown, hts⟩ (zk_X2_checkMember l hfl D cA i2) (va_cwS 1 hts gX2_checkPair_X2_checkMember rfl rfl rfl zy_X2_checkMember.2 ⟨Nat.le_of_ble_eq_true rfl, Nat.le_of_ble_eq_true rfl⟩) (zx_preS (A := zfr (([] : va_W))) hK z_P0 (z_D0 (A := fun _ => True)) hO hS (fun q h => (zfr_0 q h).elim)) rfl rfl hl.1 rfl (lv_room (Nat.le_of_ble_eq_true rfl)) dX2_checkPair_5 ⟨Nat.le_of_ble_eq_true rfl, Nat.le_of_ble_eq_true rfl⟩) rfl hnt hlocks hP (fun E h9 => zxp_mid (pre := [(zmem i1, zeO)]) (vc := [(zmem i2, zeO)]) (suf := [(¬ i1 = i2, zeA)]) ⟨hv_1.1, trivial⟩ h9) (Nat.le_of_ble_eq_true rfl) (Nat.le_of_ble_eq_true rfl) (fun hv_5 => ?_)
  refine lv_iload_n hx hb dX2_checkPair_8 rfl (lv_at hl 0 rfl) ?_
  refine lv_iload_n hx hb dX2_checkPair_9 rfl (lv_at hl 1 rfl) ?_
  refine lv_icmp_ne (tgt := 23) hx hb dX2_checkPair_10 (by decide) (fun c_1 => ?_) (fun c_1 => ?_)
  · refine W.widen (k := 3) (n := 18) (Nat.le_of_ble_eq_true rfl) (Nat.le_of_ble_eq_true rfl) ?_
    refine zx_ret ⟨hv_1.1, hv_5.1, (by exact c_1), trivial⟩ ?_
    exact W.vret hx hb hr (fun t ht _ => ⟨rfl, ht⟩) (fun q hq => by cases hq) dX2_checkPair_23
  · exact zx_throw (w := ([] : va_W)) (cls := zeA) (text := "both are the same member") (ik := 126) (is := 213) (ic := 130) hx hb hfl hown (by decide +kernel) (hts (.classLink RX2 126 "java/lang/IllegalArgumentException") (List.mem_of_getElem? (i := 1) rfl)) (hts (.initialized "java/lang/IllegalArgumentException") (List.mem_of_getElem? (i := 2) rfl)) hO (by decide) (fun x h8 => hts x ((fun w h => List.mem_cons_of_mem _ (List.mem_append_left _ (List.mem_append_right _ h))) x h8)) zt_ngA hO.2.2.2.2.1 zt_otA hS (by rw [hml]; exact hl.1) dX2_checkPair_13 dX2_checkPair_16 dX2_checkPair_17 dX2_checkPair_19 dX2_checkPair_22 hnt (Nat.le_of_ble_eq_true rfl) (Nat.le_of_ble_eq_true rfl) (Nat.le_of_ble_eq_true rfl) (Nat.le_of_ble_eq_true rfl) hlocks hP (zxp_mid (pre := [(zmem i1, zeO), (zmem i2, zeO)]) (vc := [(¬ i1 = i2, zeA)]) (suf := []) ⟨hv_1.1, hv_5.1, trivial⟩ (Or.inl ⟨(by exact (fun h => h c_1)), rfl⟩)) (Nat.le_of_ble_eq_true rfl) (Nat.le_of_ble_eq_true rfl)

