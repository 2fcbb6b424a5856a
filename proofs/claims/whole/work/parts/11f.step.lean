/-! one call on both sides: the calls that change the books -/
section ZS1
/-- the code of the first check that fails; 0 if all hold -/
def zTh : List (Prop × Int32) → Int32 → Prop
  | [], k => k = 0
  | q :: r, k => (¬ q.1 ∧ k = q.2) ∨ (q.1 ∧ zTh r k)
theorem z10 : ¬ (1 : Int32) = 0 := by decide
theorem z20 : ¬ (2 : Int32) = 0 := by decide
theorem zK29 {K : Int} (h : K ≤ 2 ^ 29) : K ≤ 2 ^ 30 := by omega
theorem zhold (M : BK) (v : Int32) : (f_X3_holds M v).2 = uB M 4 0 v := by
  unfold f_X3_holds
  by_cases c : v = 0
  · rw [if_pos c]
  · rw [if_neg c]
theorem zr0 {K : Int} {B : BK} (h : zI K B) {mb : Nat} (hm : mb < 6) : ¬ B 3 mb < 0 := by
  have := (h.2.2.1 mb hm).1
  rw [Int32.lt_iff_toInt_lt, Int32.toInt_zero]
  unfold zv at this
  omega
theorem zd0 {K : Int} {B : BK} (h : zI K B) : ¬ f_X0_allShareDays B < 0 := by
  have := z_daysI h
  rw [Int64.lt_iff_toInt_lt, Int64.toInt_zero]
  omega
variable {K : Int} {r : Nat → Nat} {N : NK} {B X : BK} {Bs : Nat → BK} {M : BK} {Nm : Nat → Nat}
theorem zs_payIn (h : zL K r N B X Bs M Nm) (hK : K ≤ 2 ^ 29) (i1 am : Int32) : ∀ k, zTh [(zmem i1, 1), (zrg am 1 9999, 2)] k →
    (f_X3_payIn M Nm i1 am).2.1 4 0 = k ∧ (k = 0 → (f_X3_payIn M Nm i1 am).1 = (f_X2_payIn N B Bs i1 am).1 ∧ zL (K + 10000) r (f_X2_payIn N B Bs i1 am).2.1 (f_X2_payIn N B Bs i1 am).2.2.1 X (f_X2_payIn N B Bs i1 am).2.2.2 (f_X3_payIn M Nm i1 am).2.1 (f_X3_payIn M Nm i1 am).2.2) ∧ (¬ k = 0 → zL K r N B X Bs (f_X3_payIn M Nm i1 am).2.1 (f_X3_payIn M Nm i1 am).2.2) := by
  intro k hk
  unfold f_X3_payIn f_X2_payIn
  rcases hk with ⟨c, rfl⟩ | ⟨c, ⟨c2, rfl⟩ | ⟨c2, rfl⟩⟩
  · rw [zdeed_no1 c]
    dsimp only
    rw [if_pos rfl]
    dsimp only
    exact ⟨uB_self _ _ _ _, fun q => absurd q z10, fun _ => h.r4 0 1⟩
  · rw [zdeed_no2 c c2]
    dsimp only
    rw [if_pos rfl]
    dsimp only
    exact ⟨uB_self _ _ _ _, fun q => absurd q z20, fun _ => h.r4 0 2⟩
  · rw [zdeed_yes c c2]
    dsimp only
    rw [if_neg z10]
    dsimp only
    obtain ⟨s1, s2, s3, s4⟩ := (h.r4 0 0).save
    have e := ze_takeIn s1.1 (zmb_lt c) am
    have g := zI_takeIn s1.2.1 hK (zmb_lt c) (zrg_am c2)
    refine ⟨?_, fun _ => ⟨e.1, s1.deed e.2.1 e.2.2 g (by omega)⟩, fun q => absurd rfl q⟩
    rw [e.2.2.2 4 (by omega), s2 4 (by omega), uB_self]
theorem zs_payOut (h : zL K r N B X Bs M Nm) (hK : K ≤ 2 ^ 29) (i1 am : Int32) : ∀ k, zTh [(zmem i1, 1), (zrg am 1 9999, 2)] k →
    (f_X3_payOut M Nm i1 am).2.1 4 0 = k ∧ (k = 0 → (f_X3_payOut M Nm i1 am).1 = (f_X2_payOut N B Bs i1 am).1 ∧ zL (K + 10000) r (f_X2_payOut N B Bs i1 am).2.1 (f_X2_payOut N B Bs i1 am).2.2.1 X (f_X2_payOut N B Bs i1 am).2.2.2 (f_X3_payOut M Nm i1 am).2.1 (f_X3_payOut M Nm i1 am).2.2) ∧ (¬ k = 0 → zL K r N B X Bs (f_X3_payOut M Nm i1 am).2.1 (f_X3_payOut M Nm i1 am).2.2) := by
  intro k hk
  unfold f_X3_payOut f_X2_payOut
  rcases hk with ⟨c, rfl⟩ | ⟨c, ⟨c2, rfl⟩ | ⟨c2, rfl⟩⟩
  · rw [zdeed_no1 c]
    dsimp only
    rw [if_pos rfl]
    dsimp only
    exact ⟨uB_self _ _ _ _, fun q => absurd q z10, fun _ => h.r4 0 1⟩
  · rw [zdeed_no2 c c2]
    dsimp only
    rw [if_pos rfl]
    dsimp only
    exact ⟨uB_self _ _ _ _, fun q => absurd q z20, fun _ => h.r4 0 2⟩
  · rw [zdeed_yes c c2]
    dsimp only
    rw [if_neg z10]
    dsimp only
    obtain ⟨s1, s2, s3, s4⟩ := (h.r4 0 0).save
    have e := ze_giveOut s1.1 (zmb_lt c) am
    have g := zI_giveOut s1.2.1 hK (zmb_lt c) (zrg_am c2)
    refine ⟨?_, fun _ => ⟨e.1, s1.deed e.2.1 e.2.2 (g.mono (by omega)) (by omega)⟩, fun q => absurd rfl q⟩
    rw [e.2.2.2 4 (by omega), s2 4 (by omega), uB_self]
theorem zs_repay (h : zL K r N B X Bs M Nm) (hK : K ≤ 2 ^ 29) (i1 am : Int32) : ∀ k, zTh [(zmem i1, 1), (zrg am 1 9999, 2)] k →
    (f_X3_repay M Nm i1 am).2.1 4 0 = k ∧ (k = 0 → (f_X3_repay M Nm i1 am).1 = (f_X2_repay N B Bs i1 am).1 ∧ zL (K + 10000) r (f_X2_repay N B Bs i1 am).2.1 (f_X2_repay N B Bs i1 am).2.2.1 X (f_X2_repay N B Bs i1 am).2.2.2 (f_X3_repay M Nm i1 am).2.1 (f_X3_repay M Nm i1 am).2.2) ∧ (¬ k = 0 → zL K r N B X Bs (f_X3_repay M Nm i1 am).2.1 (f_X3_repay M Nm i1 am).2.2) := by
  intro k hk
  unfold f_X3_repay f_X2_repay
  rcases hk with ⟨c, rfl⟩ | ⟨c, ⟨c2, rfl⟩ | ⟨c2, rfl⟩⟩
  · rw [zdeed_no1 c]
    dsimp only
    rw [if_pos rfl]
    dsimp only
    exact ⟨uB_self _ _ _ _, fun q => absurd q z10, fun _ => h.r4 0 1⟩
  · rw [zdeed_no2 c c2]
    dsimp only
    rw [if_pos rfl]
    dsimp only
    exact ⟨uB_self _ _ _ _, fun q => absurd q z20, fun _ => h.r4 0 2⟩
  · rw [zdeed_yes c c2]
    dsimp only
    rw [if_neg z10]
    dsimp only
    obtain ⟨s1, s2, s3, s4⟩ := (h.r4 0 0).save
    have e := ze_takeBack s1.1 (zmb_lt c) am
    have g := zI_takeBack s1.2.1 (zmb_lt c) (zrg_am c2)
    refine ⟨?_, fun _ => ⟨e.1, s1.deed e.2.1 e.2.2 (g.mono (by omega)) (by omega)⟩, fun q => absurd rfl q⟩
    rw [e.2.2.2 4 (by omega), s2 4 (by omega), uB_self]
theorem zpair_no1 {M : BK} {i1 i2 am : Int32} (h : ¬ zmem i1) : f_X3_isPair M i1 i2 am = (0, uB M 4 0 1) := by
  unfold f_X3_isPair
  rw [if_pos (zmb_no h)]
  rfl
theorem zpair_no2 {M : BK} {i1 i2 am : Int32} (h1 : zmem i1) (h : ¬ zmem i2) : f_X3_isPair M i1 i2 am = (0, uB M 4 0 1) := by
  unfold f_X3_isPair
  rw [if_neg (zmb_yes h1), if_pos (zmb_no h)]
  rfl
theorem zpair_no3 {M : BK} {i1 i2 am : Int32} (h1 : zmem i1) (h2 : zmem i2) (h : ¬ ¬ i1 = i2) : f_X3_isPair M i1 i2 am = (0, uB M 4 0 2) := by
  unfold f_X3_isPair
  rw [if_neg (zmb_yes h1), if_neg (zmb_yes h2), if_pos (Classical.not_not.mp h)]
  rfl
theorem zpair_no4 {M : BK} {i1 i2 am : Int32} (h1 : zmem i1) (h2 : zmem i2) (h3 : ¬ i1 = i2) (h : ¬ zrg am 1 9999) : f_X3_isPair M i1 i2 am = (0, uB M 4 0 2) := by
  unfold f_X3_isPair
  rw [if_neg (zmb_yes h1), if_neg (zmb_yes h2), if_neg h3, if_pos (show f_X3_isAmount am = 0 from zin_no h)]
  rfl
theorem zpair_yes {M : BK} {i1 i2 am : Int32} (h1 : zmem i1) (h2 : zmem i2) (h3 : ¬ i1 = i2) (h : zrg am 1 9999) : f_X3_isPair M i1 i2 am = (1, uB M 4 0 0) := by
  unfold f_X3_isPair
  rw [if_neg (zmb_yes h1), if_neg (zmb_yes h2), if_neg h3, if_neg (show ¬ f_X3_isAmount am = 0 from zin_yes h)]
  rfl
theorem zs_pledge (h : zL K r N B X Bs M Nm) (hK : K ≤ 2 ^ 29) (i1 i2 am : Int32) : ∀ k, zTh [(zmem i1, 1), (zmem i2, 1), (¬ i1 = i2, 2), (zrg am 1 9999, 2)] k →
    (f_X3_pledge M Nm i1 i2 am).2.1 4 0 = k ∧ (k = 0 → (f_X3_pledge M Nm i1 i2 am).1 = (f_X2_pledge N B Bs i1 i2 am).1 ∧ zL (K + 10000) r (f_X2_pledge N B Bs i1 i2 am).2.1 (f_X2_pledge N B Bs i1 i2 am).2.2.1 X (f_X2_pledge N B Bs i1 i2 am).2.2.2 (f_X3_pledge M Nm i1 i2 am).2.1 (f_X3_pledge M Nm i1 i2 am).2.2) ∧ (¬ k = 0 → zL K r N B X Bs (f_X3_pledge M Nm i1 i2 am).2.1 (f_X3_pledge M Nm i1 i2 am).2.2) := by
  intro k hk
  unfold f_X3_pledge f_X2_pledge
  rcases hk with ⟨c, rfl⟩ | ⟨c, ⟨c2, rfl⟩ | ⟨c2, ⟨c3, rfl⟩ | ⟨c3, ⟨c4, rfl⟩ | ⟨c4, rfl⟩⟩⟩⟩
  · rw [zpair_no1 c]
    dsimp only
    rw [if_pos rfl]
    dsimp only
    exact ⟨uB_self _ _ _ _, fun q => absurd q z10, fun _ => h.r4 0 1⟩
  · rw [zpair_no2 c c2]
    dsimp only
    rw [if_pos rfl]
    dsimp only
    exact ⟨uB_self _ _ _ _, fun q => absurd q z10, fun _ => h.r4 0 1⟩
  · rw [zpair_no3 c c2 c3]
    dsimp only
    rw [if_pos rfl]
    dsimp only
    exact ⟨uB_self _ _ _ _, fun q => absurd q z20, fun _ => h.r4 0 2⟩
  · rw [zpair_no4 c c2 c3 c4]
    dsimp only
    rw [if_pos rfl]
    dsimp only
    exact ⟨uB_self _ _ _ _, fun q => absurd q z20, fun _ => h.r4 0 2⟩
  · rw [zpair_yes c c2 c3 c4]
    dsimp only
    rw [if_neg z10]
    dsimp only
    obtain ⟨s1, s2, s3, s4⟩ := (h.r4 0 0).save
    have e := ze_addPledge s1.1 (zmb_lt c) (zmb_lt c2) am
    have g := zI_addPledge s1.2.1 hK (zmb_lt c) (zmb_lt c2) (zrg_am c4)
    refine ⟨?_, fun _ => ⟨e.1, s1.deed e.2.1 e.2.2 (g.mono (by omega)) (by omega)⟩, fun q => absurd rfl q⟩
    rw [e.2.2.2 4 (by omega), s2 4 (by omega), uB_self]
theorem zs_unpledge (h : zL K r N B X Bs M Nm) (hK : K ≤ 2 ^ 29) (i1 i2 am : Int32) : ∀ k, zTh [(zmem i1, 1), (zmem i2, 1), (¬ i1 = i2, 2), (zrg am 1 9999, 2)] k →
    (f_X3_unpledge M Nm i1 i2 am).2.1 4 0 = k ∧ (k = 0 → (f_X3_unpledge M Nm i1 i2 am).1 = (f_X2_unpledge N B Bs i1 i2 am).1 ∧ zL (K + 10000) r (f_X2_unpledge N B Bs i1 i2 am).2.1 (f_X2_unpledge N B Bs i1 i2 am).2.2.1 X (f_X2_unpledge N B Bs i1 i2 am).2.2.2 (f_X3_unpledge M Nm i1 i2 am).2.1 (f_X3_unpledge M Nm i1 i2 am).2.2) ∧ (¬ k = 0 → zL K r N B X Bs (f_X3_unpledge M Nm i1 i2 am).2.1 (f_X3_unpledge M Nm i1 i2 am).2.2) := by
  intro k hk
  unfold f_X3_unpledge f_X2_unpledge
  rcases hk with ⟨c, rfl⟩ | ⟨c, ⟨c2, rfl⟩ | ⟨c2, ⟨c3, rfl⟩ | ⟨c3, ⟨c4, rfl⟩ | ⟨c4, rfl⟩⟩⟩⟩
  · rw [zpair_no1 c]
    dsimp only
    rw [if_pos rfl]
    dsimp only
    exact ⟨uB_self _ _ _ _, fun q => absurd q z10, fun _ => h.r4 0 1⟩
  · rw [zpair_no2 c c2]
    dsimp only
    rw [if_pos rfl]
    dsimp only
    exact ⟨uB_self _ _ _ _, fun q => absurd q z10, fun _ => h.r4 0 1⟩
  · rw [zpair_no3 c c2 c3]
    dsimp only
    rw [if_pos rfl]
    dsimp only
    exact ⟨uB_self _ _ _ _, fun q => absurd q z20, fun _ => h.r4 0 2⟩
  · rw [zpair_no4 c c2 c3 c4]
    dsimp only
    rw [if_pos rfl]
    dsimp only
    exact ⟨uB_self _ _ _ _, fun q => absurd q z20, fun _ => h.r4 0 2⟩
  · rw [zpair_yes c c2 c3 c4]
    dsimp only
    rw [if_neg z10]
    dsimp only
    obtain ⟨s1, s2, s3, s4⟩ := (h.r4 0 0).save
    have e := ze_dropPledge s1.1 (zmb_lt c) (zmb_lt c2) am
    have g := zI_dropPledge s1.2.1 hK (zmb_lt c) (zmb_lt c2) (zrg_am c4)
    refine ⟨?_, fun _ => ⟨e.1, s1.deed e.2.1 e.2.2 (g.mono (by omega)) (by omega)⟩, fun q => absurd rfl q⟩
    rw [e.2.2.2 4 (by omega), s2 4 (by omega), uB_self]
theorem zs_borrow (h : zL K r N B X Bs M Nm) (hK : K ≤ 2 ^ 29) (i1 am i3 : Int32) : ∀ k, zTh [(zmem i1, 1), (zrg am 1 9999, 2), (zrg i3 1 52, 2)] k →
    (f_X3_borrow M Nm i1 am i3).2.1 4 0 = k ∧ (k = 0 → (f_X3_borrow M Nm i1 am i3).1 = (f_X2_borrow N B Bs i1 am i3).1 ∧ zL (K + 10000) r (f_X2_borrow N B Bs i1 am i3).2.1 (f_X2_borrow N B Bs i1 am i3).2.2.1 X (f_X2_borrow N B Bs i1 am i3).2.2.2 (f_X3_borrow M Nm i1 am i3).2.1 (f_X3_borrow M Nm i1 am i3).2.2) ∧ (¬ k = 0 → zL K r N B X Bs (f_X3_borrow M Nm i1 am i3).2.1 (f_X3_borrow M Nm i1 am i3).2.2) := by
  intro k hk
  unfold f_X3_borrow f_X2_borrow
  dsimp only
  rw [zhold, zhold, zhold]
  rcases hk with ⟨c, rfl⟩ | ⟨c, ⟨c2, rfl⟩ | ⟨c2, ⟨c3, rfl⟩ | ⟨c3, rfl⟩⟩⟩
  · rw [if_pos (zmb_no c), if_pos (zmb_no c), ite_self, ite_self]
    dsimp only
    exact ⟨uB_self _ _ _ _, fun q => absurd q z10, fun _ => h.r4 0 1⟩
  · rw [if_neg (zmb_yes c), if_pos (show f_X3_isAmount am = 0 from zin_no c2)]
    dsimp only
    exact ⟨uB_self _ _ _ _, fun q => absurd q z20, fun _ => h.r4 0 2⟩
  · rw [if_neg (zmb_yes c), if_neg (zmb_yes c), if_neg (show ¬ f_X3_isAmount am = 0 from zin_yes c2), if_pos (zin_no c3)]
    dsimp only
    exact ⟨uB_self _ _ _ _, fun q => absurd q z20, fun _ => h.r4 0 2⟩
  · rw [if_neg (zmb_yes c), if_neg (zmb_yes c), if_neg (show ¬ f_X3_isAmount am = 0 from zin_yes c2), if_neg (zin_yes c3)]
    dsimp only
    obtain ⟨s1, s2, s3, s4⟩ := (h.r4 0 0).save
    have e := ze_lend s1.1 (zmb_lt c) am i3 (zr0 s1.2.1 (zmb_lt c))
    have g := zI_lend s1.2.1 hK (zmb_lt c) (zrg_am c2) (wk := i3) (zrg_int c3)
    refine ⟨?_, fun _ => ⟨e.1, s1.deed e.2.1 e.2.2 g (by omega)⟩, fun q => absurd rfl q⟩
    rw [e.2.2.2 4 (by omega), s2 4 (by omega), uB_self]
theorem zcanW {B : BK} (h : zv B 8 4 ≤ 9999) : f_X0_canEndWeek B = 0 ↔ B 8 4 = 9999 := by
  unfold f_X0_canEndWeek
  have e : (9999 : Int32).toInt = 9999 := by decide
  unfold zv at h
  by_cases c : 9999 ≤ B 8 4
  · rw [if_pos c]
    refine ⟨fun _ => Int32.toInt_inj.mp ?_, fun _ => rfl⟩
    rw [Int32.le_iff_toInt_le] at c
    omega
  · rw [if_neg c]
    refine ⟨fun q => absurd q z10, fun q => absurd ?_ c⟩
    rw [q]
    exact Int32.le_refl _
theorem zs_week (h : zL K r N B X Bs M Nm) (hK : K ≤ 2 ^ 29) : ∀ k, zTh [(¬ f_X0_canEndWeek B = 0, 1)] k →
    (f_X3_week M Nm).2.1 4 0 = k ∧ (k = 0 → (f_X3_week M Nm).1 = (f_X2_week N B Bs).1 ∧ zL (K + 10000) r (f_X2_week N B Bs).2.1 (f_X2_week N B Bs).2.2.1 X (f_X2_week N B Bs).2.2.2 (f_X3_week M Nm).2.1 (f_X3_week M Nm).2.2) ∧ (¬ k = 0 → zL K r N B X Bs (f_X3_week M Nm).2.1 (f_X3_week M Nm).2.2) := by
  intro k hk
  have hw := zcanW h.2.1.2.2.2.2.2.2.1.1
  unfold f_X3_week f_X2_week
  dsimp only
  rw [zhold, zhold, zc_8 h.1 (by omega)]
  rcases hk with ⟨c, rfl⟩ | ⟨c, rfl⟩
  · rw [if_pos (hw.mp (Classical.not_not.mp c))]
    dsimp only
    exact ⟨uB_self _ _ _ _, fun q => absurd q z10, fun _ => h.r4 0 1⟩
  · rw [if_neg (fun q => c (hw.mpr q))]
    dsimp only
    obtain ⟨s1, s2, s3, s4⟩ := (h.r4 0 0).save
    have e := ze_endWeek s1.1
    have g := zI_endWeek s1.2.1 hK c
    refine ⟨?_, fun _ => ⟨e.1, s1.deed e.2.1 e.2.2 (g.mono (by omega)) (by omega)⟩, fun q => absurd rfl q⟩
    rw [e.2.2.2 4 (by omega), s2 4 (by omega), uB_self]
end ZS1
