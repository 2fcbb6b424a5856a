/-! the law's loop -/
section
theorem zand31 (x : Int32) : ∃ w : Nat, w < 32 ∧ x &&& 31 = nI w := by
  refine ⟨(x &&& 31).toBitVec.toNat, ?_, ?_⟩
  · have e : (x &&& 31).toBitVec.toNat = x.toBitVec.toNat &&& 31 := by
      rw [Int32.toBitVec_and, BitVec.toNat_and]
      rfl
    rw [e]
    exact Nat.lt_of_le_of_lt Nat.and_le_right (by omega)
  · apply Int32.toBitVec_inj.mp
    show _ = BitVec.ofNat 32 _
    rw [BitVec.ofNat_toNat, BitVec.setWidth_eq]
set_option maxHeartbeats 4000000 in
set_option maxRecDepth 100000 in
theorem zlaw_loop {p : Program} {l : Launch} {e : Env} {s : State} {m : MethodId} {below : List Frame} {meth : Method} {c : Code} {b L : Nat} {xs : Nat → Int32} {D : va_G} {cA : Nat → ClassId} {o rd : Nat} {bb : Nat → Nat → Nat} {x mo : Nat → Nat} (E : zEv p l s m c b L xs D cA) (hr : meth.sig.returnType = ret) (hlocks : meth.locks = false) : ∀ (n j : Nat) (f : Nat → Int64) (r : Nat → Nat) (N : NK) (B X : BK) (Bs : Nat → BK) (M : BK) (Nm : Nat → Nat) (h : Int64) (H : Heap) (locs : List Loc) (ls : Array Slot), L ≤ 4 * j + 4 * n → 4 * j ≤ L → lv_has ls 9 [(0, .ref b), (1, .ref (x 0)), (2, .ref (mo 0)), (3, .ref o), (4, .int (nI (4 * j)))] → va_P D vwCl ((ouW cA o f ++ unW cA x bb rd r X N B Bs) ++ moW cA mo M Nm h) H → va_D (fun q => s.heap.size ≤ q) ((ouW cA o f ++ unW cA x bb rd r X N B Bs) ++ moW cA mo M Nm h) → va_S (fun q => s.heap.size ≤ q) s.heap H locs → zL (620000 * (j : Int)) r N B X Bs M Nm →
    W p l e room_1 s m #[.ref b] below meth c H locs (94 + 4 * j) (1722 + 24 * j) (lw_Z below #[.ref b] s) (F0 m 23 ls []) := by
  obtain ⟨hx, hb, hml, hown, hts, hX, hbl, hL, hK, hO, hn, hfl⟩ := id E
  have hbA : ¬ (fun q => s.heap.size ≤ q) b := Nat.not_le.mpr hbl
  intro n
  induction n with
  | zero =>
    intro j f r N B X Bs M Nm h H locs ls hnL hjL hl hP hD hS h0
    have hj4 : 4 * j ≤ 2048 := by omega
    refine lv_iload hx hb dL_law_23 (lv_at hl 4 rfl) ?_
    refine lv_aload_n hx hb dL_law_25 rfl (lv_at hl 0 rfl) ?_
    refine va_slen hx hb hX hbl hbA hS dL_law_26 ?_
    refine lv_iconst (v := 4) hx hb dL_law_27 (by decide) ?_
    refine lv_isub hx hb dL_law_28 ?_
    have eL : (Int32.ofNat L - 4).toInt = (L : Int) - 4 := by
      have e4 : (4 : Int32).toInt = 4 := by decide
      have e5 : (Int32.ofNat L).toInt = L := nI_toInt (by omega)
      rw [Jvm.Kit.i32_sub (by omega) (by omega), e5, e4]
    have ej : (nI (4 * j)).toInt = ((4 * j : Nat) : Int) := nI_toInt (by omega)
    refine lv_icmp_gt (tgt := 1737) hx hb dL_law_29 (by decide) (fun c9 => ?_) (fun c9 => ?_)
    · refine lv_iconst (v := 1) hx hb dL_law_1737 (by decide) ?_
      refine va_forget (fun q hq => hS.2.2 q hq) ?_
      refine W.widen (k := 601024) (n := 7293034) (by omega) (by omega) ?_
      exact lw_ret (d0 := s.drawn) (Drawn.sameBut.refl s.drawn lw_cs) hx hb hr hlocks dL_law_1738
    · have hin : ¬ (Int32.ofNat L - 4).toInt < (nI (4 * j)).toInt := fun z => c9 (Int32.lt_iff_toInt_lt.mpr z)
      exfalso
      omega
  | succ n ih =>
    intro j f r N B X Bs M Nm h H locs ls hnL hjL hl hP hD hS h0
    have hj4 : 4 * j ≤ 2048 := by omega
    refine lv_iload hx hb dL_law_23 (lv_at hl 4 rfl) ?_
    refine lv_aload_n hx hb dL_law_25 rfl (lv_at hl 0 rfl) ?_
    refine va_slen hx hb hX hbl hbA hS dL_law_26 ?_
    refine lv_iconst (v := 4) hx hb dL_law_27 (by decide) ?_
    refine lv_isub hx hb dL_law_28 ?_
    have eL : (Int32.ofNat L - 4).toInt = (L : Int) - 4 := by
      have e4 : (4 : Int32).toInt = 4 := by decide
      have e5 : (Int32.ofNat L).toInt = L := nI_toInt (by omega)
      rw [Jvm.Kit.i32_sub (by omega) (by omega), e5, e4]
    have ej : (nI (4 * j)).toInt = ((4 * j : Nat) : Int) := nI_toInt (by omega)
    refine lv_icmp_gt (tgt := 1737) hx hb dL_law_29 (by decide) (fun c9 => ?_) (fun c9 => ?_)
    · refine lv_iconst (v := 1) hx hb dL_law_1737 (by decide) ?_
      refine va_forget (fun q hq => hS.2.2 q hq) ?_
      refine W.widen (k := 601024) (n := 7293034) (by omega) (by omega) ?_
      exact lw_ret (d0 := s.drawn) (Drawn.sameBut.refl s.drawn lw_cs) hx hb hr hlocks dL_law_1738
    · have hin : ¬ (Int32.ofNat L - 4).toInt < (nI (4 * j)).toInt := fun z => c9 (Int32.lt_iff_toInt_lt.mpr z)
      have hi : 4 * j + 3 < L := by omega
      have hK9 : (620000 * (j : Int)) + 620000 ≤ 2 ^ 29 := by omega
      have hcK : (94 + 4 * j) + 4 ≤ 94 + 4 * (j + 1) ∧ (1722 + 24 * j) + 24 ≤ 1722 + 24 * (j + 1) ∧ 94 + 4 * (j + 1) ≤ 601024 ∧ 1722 + 24 * (j + 1) ≤ 7293034 := by omega
      have kt : zKt p l e s m below meth c b (4 * j) D cA o bb rd x mo (620000 * (j : Int) + 620000) (94 + 4 * (j + 1)) (1722 + 24 * (j + 1)) (lw_Z below #[.ref b] s) := by
        intro f r N B X Bs M Nm h H locs ls hl hP hD hS h0
        refine lv_iinc (v := nI (4 * (j + 1))) (lv' := [(4, .int (nI (4 * (j + 1)))), (0, .ref b), (1, .ref (x 0)), (2, .ref (mo 0)), (3, .ref o)]) hx hb dL_law_1731 hl (k := 4) rfl (by exact nI_add (4 * j) 4) (by decide) rfl (fun ls hl => ?_)
        refine lv_goto (tgt := 23) hx hb dL_law_1734 (by decide) ?_
        exact ih (j + 1) f r N B X Bs M Nm h H locs ls (by omega) (by omega) (lv_sub hl [1, 2, 3, 4, 0] rfl) hP hD hS (h0.mono (by omega))
      refine lv_aload_n hx hb dL_law_32 rfl (lv_at hl 0 rfl) ?_
      refine lv_iload hx hb dL_law_33 (lv_at hl 4 rfl) ?_
      refine va_sld hx hb hX hbl hbA hS (vp_in_nI (by omega) (by omega)) dL_law_35 ?_
      refine lv_bipush (v := 31) hx hb dL_law_36 (by decide) ?_
      refine lv_iand hx hb dL_law_38 ?_
      obtain ⟨w, hw, ew⟩ := zand31 (xs (nI (4 * j)).toNatClampNeg)
      refine z_top ew ?_
      rcases (show w = 0 ∨ w = 1 ∨ w = 2 ∨ w = 3 ∨ w = 4 ∨ w = 5 ∨ w = 6 ∨ w = 7 ∨ w = 8 ∨ w = 9 ∨ w = 10 ∨ w = 11 ∨ w = 12 ∨ w = 13 ∨ w = 14 ∨ w = 15 ∨ w = 16 ∨ w = 17 ∨ w = 18 ∨ w = 19 ∨ w = 20 ∨ w = 21 ∨ w = 22 ∨ w = 23 ∨ w = 24 ∨ w = 25 ∨ w = 26 ∨ w = 27 ∨ w = 28 ∨ w = 29 ∨ w = 30 ∨ w = 31 by omega) with rfl | rfl | rfl | rfl | rfl | rfl | rfl | rfl | rfl | rfl | rfl | rfl | rfl | rfl | rfl | rfl | rfl | rfl | rfl | rfl | rfl | rfl | rfl | rfl | rfl | rfl | rfl | rfl | rfl | rfl | rfl | rfl
      · refine lv_tableIn (off := 129) (tgt := 168) hx hb dL_law_39 (by decide) (by decide) (by decide) (by decide) ?_
        exact zca_payIn E hi hcK h0 hK9 hl hP hD hS kt
      · refine lv_tableIn (off := 197) (tgt := 236) hx hb dL_law_39 (by decide) (by decide) (by decide) (by decide) ?_
        exact zca_payOut E hi hcK h0 hK9 hl hP hD hS kt
      · refine lv_tableIn (off := 265) (tgt := 304) hx hb dL_law_39 (by decide) (by decide) (by decide) (by decide) ?_
        exact zca_pledge E hi hcK h0 hK9 hl hP hD hS kt
      · refine lv_tableIn (off := 345) (tgt := 384) hx hb dL_law_39 (by decide) (by decide) (by decide) (by decide) ?_
        exact zca_unpledge E hi hcK h0 hK9 hl hP hD hS kt
      · refine lv_tableIn (off := 425) (tgt := 464) hx hb dL_law_39 (by decide) (by decide) (by decide) (by decide) ?_
        exact zca_borrow E hi hcK h0 hK9 hl hP hD hS kt
      · refine lv_tableIn (off := 505) (tgt := 544) hx hb dL_law_39 (by decide) (by decide) (by decide) (by decide) ?_
        exact zca_repay E hi hcK h0 hK9 hl hP hD hS kt
      · refine lv_tableIn (off := 573) (tgt := 612) hx hb dL_law_39 (by decide) (by decide) (by decide) (by decide) ?_
        exact zca_week E hi hcK h0 hK9 hl hP hD hS kt
      · refine lv_tableIn (off := 617) (tgt := 656) hx hb dL_law_39 (by decide) (by decide) (by decide) (by decide) ?_
        exact zca_pass E hi hcK h0 hK9 hl hP hD hS kt
      · refine lv_tableIn (off := 673) (tgt := 712) hx hb dL_law_39 (by decide) (by decide) (by decide) (by decide) ?_
        exact zca_dividend E hi hcK h0 hK9 hl hP hD hS kt
      · refine lv_tableIn (off := 686) (tgt := 725) hx hb dL_law_39 (by decide) (by decide) (by decide) (by decide) ?_
        exact zca_set E hi hcK h0 hK9 hl hP hD hS kt
      · refine lv_tableIn (off := 754) (tgt := 793) hx hb dL_law_39 (by decide) (by decide) (by decide) (by decide) ?_
        exact zca_append E hi hcK h0 hK9 hl hP hD hS kt
      · refine lv_tableIn (off := 810) (tgt := 849) hx hb dL_law_39 (by decide) (by decide) (by decide) (by decide) ?_
        exact zca_clearBuffer E hi hcK h0 hK9 hl hP hD hS kt
      · refine lv_tableIn (off := 823) (tgt := 862) hx hb dL_law_39 (by decide) (by decide) (by decide) (by decide) ?_
        exact zca_firstError E hi hcK h0 hK9 hl hP hD hS kt
      · refine lv_tableIn (off := 836) (tgt := 875) hx hb dL_law_39 (by decide) (by decide) (by decide) (by decide) ?_
        exact zca_run E hi hcK h0 hK9 hl hP hD hS kt
      · refine lv_tableIn (off := 880) (tgt := 919) hx hb dL_law_39 (by decide) (by decide) (by decide) (by decide) ?_
        exact zca_keep E hi hcK h0 hK9 hl hP hD hS kt
      · refine lv_tableIn (off := 936) (tgt := 975) hx hb dL_law_39 (by decide) (by decide) (by decide) (by decide) ?_
        exact zca_goBack E hi hcK h0 hK9 hl hP hD hS kt
      · refine lv_tableIn (off := 992) (tgt := 1031) hx hb dL_law_39 (by decide) (by decide) (by decide) (by decide) ?_
        exact zca_undo E hi hcK h0 hK9 hl hP hD hS kt
      · refine lv_tableIn (off := 1036) (tgt := 1075) hx hb dL_law_39 (by decide) (by decide) (by decide) (by decide) ?_
        exact zca_memberOf E hi hcK h0 hK9 hl hP hD hS kt
      · refine lv_tableIn (off := 1104) (tgt := 1143) hx hb dL_law_39 (by decide) (by decide) (by decide) (by decide) ?_
        exact zca_pledged E hi hcK h0 hK9 hl hP hD hS kt
      · refine lv_tableIn (off := 1172) (tgt := 1211) hx hb dL_law_39 (by decide) (by decide) (by decide) (by decide) ?_
        exact zca_count E hi hcK h0 hK9 hl hP hD hS kt
      · refine lv_tableIn (off := 1228) (tgt := 1267) hx hb dL_law_39 (by decide) (by decide) (by decide) (by decide) ?_
        exact zca_setting E hi hcK h0 hK9 hl hP hD hS kt
      · refine lv_tableIn (off := 1284) (tgt := 1323) hx hb dL_law_39 (by decide) (by decide) (by decide) (by decide) ?_
        exact zca_whyNot E hi hcK h0 hK9 hl hP hD hS kt
      · refine lv_tableIn (off := 1352) (tgt := 1391) hx hb dL_law_39 (by decide) (by decide) (by decide) (by decide) ?_
        exact zca_greatest E hi hcK h0 hK9 hl hP hD hS kt
      · refine lv_tableIn (off := 1420) (tgt := 1459) hx hb dL_law_39 (by decide) (by decide) (by decide) (by decide) ?_
        exact zca_guarantors E hi hcK h0 hK9 hl hP hD hS kt
      · refine lv_tableIn (off := 1500) (tgt := 1539) hx hb dL_law_39 (by decide) (by decide) (by decide) (by decide) ?_
        exact zca_weeksLeft E hi hcK h0 hK9 hl hP hD hS kt
      · refine lv_tableIn (off := 1568) (tgt := 1607) hx hb dL_law_39 (by decide) (by decide) (by decide) (by decide) ?_
        exact zca_ifDivided E hi hcK h0 hK9 hl hP hD hS kt
      · refine lv_tableIn (off := 1624) (tgt := 1663) hx hb dL_law_39 (by decide) (by decide) (by decide) (by decide) ?_
        exact zca_riskiest E hi hcK h0 hK9 hl hP hD hS kt
      · refine lv_tableIn (off := 1637) (tgt := 1676) hx hb dL_law_39 (by decide) (by decide) (by decide) (by decide) ?_
        exact zca_lentShare E hi hcK h0 hK9 hl hP hD hS kt
      · refine lv_tableIn (off := 1678) (tgt := 1717) hx hb dL_law_39 (by decide) (by decide) (by decide) (by decide) ?_
        exact zca_digest E hi hcK h0 hK9 hl hP hD hS kt
      · refine lv_tableOut (tgt := 1731) hx hb dL_law_39 (by decide) (by decide) ?_
        refine W.widen (k := 94 + 4 * (j + 1)) (n := 1722 + 24 * (j + 1)) (by omega) (by omega) ?_
        exact kt f r N B X Bs M Nm h H locs ls hl hP hD hS (h0.mono (by omega))
      · refine lv_tableOut (tgt := 1731) hx hb dL_law_39 (by decide) (by decide) ?_
        refine W.widen (k := 94 + 4 * (j + 1)) (n := 1722 + 24 * (j + 1)) (by omega) (by omega) ?_
        exact kt f r N B X Bs M Nm h H locs ls hl hP hD hS (h0.mono (by omega))
      · refine lv_tableOut (tgt := 1731) hx hb dL_law_39 (by decide) (by decide) ?_
        refine W.widen (k := 94 + 4 * (j + 1)) (n := 1722 + 24 * (j + 1)) (by omega) (by omega) ?_
        exact kt f r N B X Bs M Nm h H locs ls hl hP hD hS (h0.mono (by omega))
end
