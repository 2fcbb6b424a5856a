/-! one call on both sides: the looks -/
section ZS5
variable {K : Int} {r : Nat → Nat} {N : NK} {B X : BK} {Bs : Nat → BK} {M : BK} {Nm : Nat → Nat}
theorem zrg_n {x hi : Int32} {h : Nat} (hh : hi.toInt = h) (hc : zrg x 0 hi) : ∃ w, w ≤ h ∧ x = nI w := by
  have h1 := zrg_int hc
  rw [Int32.toInt_zero] at h1
  obtain ⟨j, hj, rfl⟩ := nI_of hc.1
  rw [nI_toInt hj] at h1
  exact ⟨j, by omega, rfl⟩
theorem zs_memberOf (h : zL K r N B X Bs M Nm) (i1 i2 : Int32) : ∀ k, zTh [(zmem i1, 1), (zrg i2 0 9, 2)] k →
    (f_X3_memberOf M i1 i2).2 4 0 = k ∧ (k = 0 → (f_X3_memberOf M i1 i2).1 = f_X2_memberOf B i1 i2) ∧ zL K r N B X Bs (f_X3_memberOf M i1 i2).2 Nm := by
  intro k hk
  unfold f_X3_memberOf
  dsimp only
  rw [zhold, zhold, zhold]
  rcases hk with ⟨c, rfl⟩ | ⟨c, ⟨c2, rfl⟩ | ⟨c2, rfl⟩⟩
  · rw [if_pos (zmb_no c)]
    dsimp only
    exact ⟨uB_self _ _ _ _, fun q => absurd q z10, h.r4 0 1⟩
  · rw [if_neg (zmb_yes c), if_pos (zin_no c2)]
    dsimp only
    exact ⟨uB_self _ _ _ _, fun q => absurd q z20, h.r4 0 2⟩
  · rw [if_neg (zmb_yes c), if_neg (zin_yes c2)]
    dsimp only
    have h4 := h.r4 0 0
    refine ⟨uB_self _ _ _ _, fun _ => ?_, h4⟩
    obtain ⟨w, hw, rfl⟩ := zrg_n (h := 9) (by decide) c2
    rw [nI_clamp (by omega)]
    exact zc_prop h4.1 (zmb_lt c) (by omega) (zr0 h4.2.1 (zmb_lt c))
theorem zs_pledged (h : zL K r N B X Bs M Nm) (i1 i2 : Int32) : ∀ k, zTh [(zmem i1, 1), (zmem i2, 1)] k →
    (f_X3_pledged M i1 i2).2 4 0 = k ∧ (k = 0 → (f_X3_pledged M i1 i2).1 = f_X2_pledged B i1 i2) ∧ zL K r N B X Bs (f_X3_pledged M i1 i2).2 Nm := by
  intro k hk
  unfold f_X3_pledged
  dsimp only
  rw [zhold, zhold]
  rcases hk with ⟨c, rfl⟩ | ⟨c, ⟨c2, rfl⟩ | ⟨c2, rfl⟩⟩
  · rw [if_pos (zmb_no c)]
    dsimp only
    exact ⟨uB_self _ _ _ _, fun q => absurd q z10, h.r4 0 1⟩
  · rw [if_neg (zmb_yes c), if_pos (zmb_no c2)]
    dsimp only
    exact ⟨uB_self _ _ _ _, fun q => absurd q z10, h.r4 0 1⟩
  · rw [if_neg (zmb_yes c), if_neg (zmb_yes c2)]
    dsimp only
    have h4 := h.r4 0 0
    exact ⟨uB_self _ _ _ _, fun _ => zc_pl h4.1 (zmb_lt c) (zmb_lt c2), h4⟩
theorem zs_count (h : zL K r N B X Bs M Nm) (i1 : Int32) : ∀ k, zTh [(zrg i1 0 11, 1)] k →
    (f_X3_count M Nm i1).2 4 0 = k ∧ (k = 0 → (f_X3_count M Nm i1).1 = f_X2_count N B i1) ∧ zL K r N B X Bs (f_X3_count M Nm i1).2 Nm := by
  intro k hk
  unfold f_X3_count
  dsimp only
  rw [zhold, zhold]
  rcases hk with ⟨c, rfl⟩ | ⟨c, rfl⟩
  · rw [if_pos (zin_no c)]
    dsimp only
    exact ⟨uB_self _ _ _ _, fun q => absurd q z10, h.r4 0 1⟩
  · rw [if_neg (zin_yes c)]
    dsimp only
    have h4 := h.r4 0 0
    refine ⟨uB_self _ _ _ _, fun _ => ?_, h4⟩
    obtain ⟨w, hw, rfl⟩ := zrg_n (h := 11) (by decide) c
    unfold f_X2_count
    rw [nI_clamp (by omega)]
    exact zc_cnt h4 (by omega)
theorem zs_setting (h : zL K r N B X Bs M Nm) (i1 : Int32) : ∀ k, zTh [(zset i1, 1)] k →
    (f_X3_setting M i1).2 4 0 = k ∧ (k = 0 → (f_X3_setting M i1).1 = f_X2_setting B i1) ∧ zL K r N B X Bs (f_X3_setting M i1).2 Nm := by
  intro k hk
  unfold f_X3_setting
  dsimp only
  rw [zhold, zhold]
  rcases hk with ⟨c, rfl⟩ | ⟨c, rfl⟩
  · rw [if_pos (show f_X3_in i1 0 1 = 0 from zin_no (fun q => c (zin_set.mp q)))]
    dsimp only
    exact ⟨uB_self _ _ _ _, fun q => absurd q z10, h.r4 0 1⟩
  · rw [if_neg (show ¬ f_X3_in i1 0 1 = 0 from zin_yes (zin_set.mpr c))]
    dsimp only
    have h4 := h.r4 0 0
    exact ⟨uB_self _ _ _ _, fun _ => zc_7 h4.1 (zset_lt c), h4⟩
theorem zs_whyNot (h : zL K r N B X Bs M Nm) (i1 am : Int32) : ∀ k, zTh [(zmem i1, 1), (zrg am 1 9999, 2)] k →
    (f_X3_whyNot M i1 am).2 4 0 = k ∧ (k = 0 → (f_X3_whyNot M i1 am).1 = f_X2_whyNot B i1 am) ∧ zL K r N B X Bs (f_X3_whyNot M i1 am).2 Nm := by
  intro k hk
  unfold f_X3_whyNot
  rcases hk with ⟨c, rfl⟩ | ⟨c, ⟨c2, rfl⟩ | ⟨c2, rfl⟩⟩
  · rw [zdeed_no1 c]
    dsimp only
    rw [if_pos rfl]
    dsimp only
    exact ⟨uB_self _ _ _ _, fun q => absurd q z10, h.r4 0 1⟩
  · rw [zdeed_no2 c c2]
    dsimp only
    rw [if_pos rfl]
    dsimp only
    exact ⟨uB_self _ _ _ _, fun q => absurd q z20, h.r4 0 2⟩
  · rw [zdeed_yes c c2]
    dsimp only
    rw [if_neg z10]
    dsimp only
    have h4 := h.r4 0 0
    exact ⟨uB_self _ _ _ _, fun _ => zc_reason h4.1 (zmb_lt c) am, h4⟩
theorem zs_greatest (h : zL K r N B X Bs M Nm) (i1 i2 : Int32) : ∀ k, zTh [(zmem i1, 1), (zrg i2 0 1, 2)] k →
    (f_X3_greatest M i1 i2).2 4 0 = k ∧ (k = 0 → (f_X3_greatest M i1 i2).1 = f_X2_greatest B i1 i2) ∧ zL K r N B X Bs (f_X3_greatest M i1 i2).2 Nm := by
  intro k hk
  unfold f_X3_greatest
  dsimp only
  rw [zhold, zhold, zhold]
  rcases hk with ⟨c, rfl⟩ | ⟨c, ⟨c2, rfl⟩ | ⟨c2, rfl⟩⟩
  · rw [if_pos (zmb_no c)]
    dsimp only
    exact ⟨uB_self _ _ _ _, fun q => absurd q z10, h.r4 0 1⟩
  · rw [if_neg (zmb_yes c), if_pos (zin_no c2)]
    dsimp only
    exact ⟨uB_self _ _ _ _, fun q => absurd q z20, h.r4 0 2⟩
  · rw [if_neg (zmb_yes c), if_neg (zin_yes c2)]
    dsimp only
    have h4 := h.r4 0 0
    refine ⟨uB_self _ _ _ _, fun _ => ?_, h4⟩
    unfold f_X2_greatest
    rw [zgreat h4.2.1, ite_self]
    exact zmost h4.1 (zmb_lt c)
theorem zs_guarantors (h : zL K r N B X Bs M Nm) (hK : K ≤ 2 ^ 29) (i1 am i3 : Int32) : ∀ k, zTh [(zmem i1, 1), (zrg am 1 9999, 2), (zrg i3 0 1, 2)] k →
    (f_X3_guarantors M i1 am i3).2 4 0 = k ∧ (k = 0 → (f_X3_guarantors M i1 am i3).1 = (f_X2_guarantors X B i1 am i3).1 ∧ zL K r N B (f_X2_guarantors X B i1 am i3).2 Bs (f_X3_guarantors M i1 am i3).2 Nm) ∧ (¬ k = 0 → zL K r N B X Bs (f_X3_guarantors M i1 am i3).2 Nm) := by
  intro k hk
  unfold f_X3_guarantors
  dsimp only
  rw [zhold, zhold, zhold]
  rcases hk with ⟨c, rfl⟩ | ⟨c, ⟨c2, rfl⟩ | ⟨c2, ⟨c3, rfl⟩ | ⟨c3, rfl⟩⟩⟩
  · rw [if_pos (zmb_no c), if_pos (zmb_no c), ite_self, ite_self]
    dsimp only
    exact ⟨uB_self _ _ _ _, fun q => absurd q z10, fun _ => h.r4 0 1⟩
  · rw [if_neg (zmb_yes c), if_pos (show f_X3_isAmount am = 0 from zin_no c2)]
    dsimp only
    exact ⟨uB_self _ _ _ _, fun q => absurd q z20, fun _ => h.r4 0 2⟩
  · rw [if_neg (zmb_yes c), if_neg (zmb_yes c), if_neg (show ¬ f_X3_isAmount am = 0 from zin_yes c2), if_pos (zin_no c3)]
    dsimp only
    exact ⟨uB_self _ _ _ _, fun q => absurd q z20, fun _ => h.r4 0 2⟩
  · rw [if_neg (zmb_yes c), if_neg (zmb_yes c), if_neg (show ¬ f_X3_isAmount am = 0 from zin_yes c2), if_neg (zin_yes c3)]
    dsimp only
    have h4 := h.r4 0 0
    obtain ⟨a1, a2, a3, a4, a5⟩ := zfewest h4.1 h4.2.1 hK (zmb_lt c) X am
    unfold f_X2_guarantors
    dsimp only
    refine ⟨?_, fun _ => ?_, fun q => absurd rfl q⟩
    · rw [a5 4 (by omega), uB_self]
    · by_cases c4 : i3 = 0
      · rw [if_pos c4]
        exact ⟨a1.symm, (h4.rows (a5 0 (by omega)) (a5 1 (by omega)) (a5 2 (by omega))).x1 a3⟩
      · rw [if_neg c4]
        exact ⟨a2.symm, (h4.rows (a5 0 (by omega)) (a5 1 (by omega)) (a5 2 (by omega))).x1 a4⟩
theorem zs_weeksLeft (h : zL K r N B X Bs M Nm) (i1 i2 : Int32) : ∀ k, zTh [(zmem i1, 1), (zrg i2 0 1, 2)] k →
    (f_X3_weeksLeft M i1 i2).2 4 0 = k ∧ (k = 0 → (f_X3_weeksLeft M i1 i2).1 = f_X2_weeksLeft B i1 i2) ∧ zL K r N B X Bs (f_X3_weeksLeft M i1 i2).2 Nm := by
  intro k hk
  unfold f_X3_weeksLeft
  dsimp only
  rw [zhold, zhold, zhold]
  rcases hk with ⟨c, rfl⟩ | ⟨c, ⟨c2, rfl⟩ | ⟨c2, rfl⟩⟩
  · rw [if_pos (zmb_no c)]
    dsimp only
    exact ⟨uB_self _ _ _ _, fun q => absurd q z10, h.r4 0 1⟩
  · rw [if_neg (zmb_yes c), if_pos (zin_no c2)]
    dsimp only
    exact ⟨uB_self _ _ _ _, fun q => absurd q z20, h.r4 0 2⟩
  · rw [if_neg (zmb_yes c), if_neg (zin_yes c2)]
    dsimp only
    have h4 := h.r4 0 0
    refine ⟨uB_self _ _ _ _, fun _ => ?_, h4⟩
    obtain ⟨l1, l2⟩ := zlasts h4.1 h4.2.1 (zmb_lt c)
    unfold f_X2_weeksLeft
    rw [l1, l2, ite_self]
theorem zs_ifDivided (h : zL K r N B X Bs M Nm) (i1 : Int32) : ∀ k, zTh [(zmem i1, 1)] k →
    (f_X3_ifDivided M i1).2 4 0 = k ∧ (k = 0 → (f_X3_ifDivided M i1).1 = f_X2_ifDivided B i1) ∧ zL K r N B X Bs (f_X3_ifDivided M i1).2 Nm := by
  intro k hk
  unfold f_X3_ifDivided
  dsimp only
  rw [zhold, zhold]
  rcases hk with ⟨c, rfl⟩ | ⟨c, rfl⟩
  · rw [if_pos (zmb_no c)]
    dsimp only
    exact ⟨uB_self _ _ _ _, fun q => absurd q z10, h.r4 0 1⟩
  · rw [if_neg (zmb_yes c)]
    dsimp only
    have h4 := h.r4 0 0
    exact ⟨uB_self _ _ _ _, fun _ => zc_share h4.1 (zmb_lt c) (zd0 h4.2.1), h4⟩
theorem zs_riskiest (h : zL K r N B X Bs M Nm) : (f_X3_riskiest M).1 = f_X2_riskiest B ∧ zL K r N B X Bs (f_X3_riskiest M).2 Nm := by
  have h4 := h.r4 0 0
  exact ⟨zc_risky h4.1, h4⟩
theorem zs_lentShare (h : zL K r N B X Bs M Nm) (hK : K ≤ 2 ^ 29) : (f_X3_lentShare M).1 = f_X2_lentShare B ∧ zL K r N B X Bs (f_X3_lentShare M).2 Nm := by
  have h4 := h.r4 0 0
  exact ⟨(zlent h4.1 h4.2.1 (by omega)).1, h4⟩
/-- what the model's calls want -/
theorem zl_pt (h : zL K r N B X Bs M Nm) : zpt (M 0) := by
  intro k hk h1 h2
  have a := h.2.1.2.2.1 k hk
  have e2 : M 0 (10 + 6 * k + 2) = B 3 k := zc_of2 h.1 hk
  have e3 : M 0 (10 + 6 * k + 3) = B 4 k := zc_of3 h.1 hk
  rw [e2] at h1
  rw [e3] at h2
  have e4 : (B 3 k).toInt = zv B 3 k := rfl
  have e5 : (B 4 k).toInt = zv B 4 k := rfl
  rw [h2, Int32.toInt_zero] at e5
  have : ¬ zv B 3 k = 0 := fun q => h1 (Int32.toInt_inj.mp (by rw [e4, q]; exact Int32.toInt_zero.symm))
  have := a.2.2 (by omega)
  omega
theorem zl_new (r : Nat → Nat) (hr : zRI r) (Bs : Nat → BK) : zL 0 r zN0 zB0 (fun _ _ => 0) Bs zM0 (fun _ => 0) := by
  refine ⟨?_, zI_new, ⟨rfl, Nat.zero_le 6⟩, ⟨rfl, Nat.zero_le 60⟩, ⟨fun i hi => ?_, fun i j hi hj e => ?_⟩, fun i hi => absurd hi (Nat.not_lt_zero i), fun s hs => ?_, fun i hi => absurd hi (Nat.not_lt_zero i), hr⟩
  · have g : ∀ k, k < 9 → ∀ i, i < 36 → i < zln k → zB0 k i = zM0 0 (0 + zix k i) := by decide +kernel
    intro k i hk hi
    exact g k hk i (by rcases zk9 hk with rfl | rfl | rfl | rfl | rfl | rfl | rfl | rfl | rfl <;> simp only [zln] at hi <;> omega) hi
  · show 1 ≤ i + 1 ∧ i + 1 ≤ 6
    omega
  · have e' : i + 1 = j + 1 := e
    omega
  · refine ⟨?_, fun q => absurd rfl q⟩
    show (0 : Int32) = zM0 1 s
    rfl
end ZS5
