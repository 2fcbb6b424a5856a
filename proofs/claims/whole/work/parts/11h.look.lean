/-! the greatest loan, the weeks that are left -/
section ZS3
theorem zw_ge0 {B : BK} {mb : Nat} {am : Int32} : f_X0_whyNoLoan B mb am ≤ 0 ↔ f_X0_whyNoLoan B mb am = 0 := by
  rcases zw_vals B mb am with c | ⟨c, c2⟩
  · exact ⟨fun _ => c, fun _ => by rw [c]; decide⟩
  · exact ⟨fun q => absurd q c2, fun q => absurd q c⟩
theorem zmost_a {B M : BK} (h : zcur B M) {mb : Nat} (hm : mb < 6) (hl : f_X0_hasLoan B mb = 0) : ∀ k q, q < k → q ≤ 9999 → f_X3_most_4 M mb k q = f_X2_greatestByAll_36 B mb k q := by
  intro k
  induction k with
  | zero => intro q hq; omega
  | succ k ih =>
    intro q hq hq2
    unfold f_X3_most_4 f_X2_greatestByAll_36
    by_cases c : q ≤ 0
    · have : q = 0 := by omega
      subst this
      rw [if_pos c, if_pos c, nI_0]
    · rw [if_neg c, if_neg c, zc_reason h hm]
      have e : f_X0_whyNoLoan B mb (nI q) = f_X0_whyAbove B (f_X0_threefold B mb) (f_X0_cover B mb) (nI q) := by
        unfold f_X0_whyNoLoan
        rw [if_pos hl]
      by_cases c2 : f_X0_whyNoLoan B mb (nI q) = 0
      · rw [if_pos (zw_ge0.mpr c2), if_pos (by rw [← e]; exact c2)]
      · rw [if_neg (fun z => c2 (zw_ge0.mp z)), if_neg (by rw [← e]; exact c2)]
        exact ih (q - 1) (by omega) (by omega)
theorem zmost_0 {B M : BK} (h : zcur B M) {mb : Nat} (hm : mb < 6) (hl : ¬ f_X0_hasLoan B mb = 0) : ∀ k q, q < k → f_X3_most_4 M mb k q = 0 := by
  intro k
  induction k with
  | zero => intro q hq; omega
  | succ k ih =>
    intro q hq
    unfold f_X3_most_4
    by_cases c : q ≤ 0
    · have : q = 0 := by omega
      subst this
      rw [if_pos c, nI_0]
    · rw [if_neg c, zc_reason h hm]
      have e : f_X0_whyNoLoan B mb (nI q) = 1 := by
        unfold f_X0_whyNoLoan
        rw [if_neg hl]
      rw [e, if_neg (by decide)]
      exact ih (q - 1) (by omega)
theorem zmost {B M : BK} (h : zcur B M) {mb : Nat} (hm : mb < 6) : f_X3_most M mb = f_X2_greatestByAll B mb := by
  unfold f_X3_most f_X2_greatestByAll
  by_cases hl : f_X0_hasLoan B mb = 0
  · rw [if_pos hl]
    exact zmost_a h hm hl _ _ (by omega) (by omega)
  · rw [if_neg hl]
    exact zmost_0 h hm hl _ _ (by omega)
/-- what is given for an amount is given for each lower one -/
theorem zw_mono {K : Int} {B : BK} (h : zI K B) {mb a b : Nat} (h1 : 1 ≤ a) (h2 : a ≤ b) (h3 : b ≤ 9999) (hb : f_X0_whyNoLoan B mb (nI b) = 0) : f_X0_whyNoLoan B mb (nI a) = 0 := by
  unfold f_X0_whyNoLoan f_X0_whyAbove at hb ⊢
  have hab : nI a ≤ nI b := nI_le h2 (by omega)
  have ta : (nI a).toInt = a := nI_toInt (by omega)
  have tb : (nI b).toInt = b := nI_toInt (by omega)
  have za : zam (nI a) := by
    unfold zam
    omega
  have zb : zam (nI b) := by
    unfold zam
    omega
  obtain ⟨fa, fa0, fa1⟩ := z_feeI h za
  obtain ⟨fb, fb0, fb1⟩ := z_feeI h zb
  have r1 := h.2.2.2.2.2.1.2
  by_cases c : f_X0_hasLoan B mb = 0
  · rw [if_pos c] at hb ⊢
    by_cases c2 : nI b ≤ f_X0_threefold B mb
    · rw [if_pos c2] at hb
      rw [if_pos (Int32.le_trans hab c2)]
      by_cases c3 : nI b ≤ f_X0_cover B mb
      · rw [if_pos c3] at hb
        rw [if_pos (Int32.le_trans hab c3)]
        by_cases c4 : nI b - f_X0_feeOf B (nI b) ≤ B 8 0
        · rw [if_pos]
          refine Int32.le_trans ?_ c4
          rw [ta] at fa fa0 fa1
          rw [tb] at fb fb0 fb1
          rw [Int32.le_iff_toInt_le, Jvm.Kit.i32_sub (by omega) (by omega), Jvm.Kit.i32_sub (by omega) (by omega), ta, tb, fa, fb]
          have e : (b : Int) * zv B 7 0 = (a : Int) * zv B 7 0 + ((b : Int) - a) * zv B 7 0 := by rw [← Int.add_mul]; congr 1; omega
          have e2 : ((b : Int) - a) * zv B 7 0 ≤ ((b : Int) - a) * 1000 := Int.mul_le_mul_of_nonneg_left (by omega) (by omega)
          omega
        · rw [if_neg c4] at hb
          exact absurd hb (by decide)
      · rw [if_neg c3] at hb
        exact absurd hb (by decide)
    · rw [if_neg c2] at hb
      exact absurd hb (by decide)
  · rw [if_neg c] at hb
    exact absurd hb (by decide)
/-- the greatest one told by all -/
theorem zall36 {B : BK} {mb : Nat} (hl : f_X0_hasLoan B mb = 0) : ∀ k q, q < k → ∃ g, g ≤ q ∧ f_X2_greatestByAll_36 B mb k q = nI g ∧ (g = 0 ∨ f_X0_whyNoLoan B mb (nI g) = 0) ∧ ∀ a, g < a → a ≤ q → ¬ f_X0_whyNoLoan B mb (nI a) = 0 := by
  intro k
  induction k with
  | zero => intro q hq; omega
  | succ k ih =>
    intro q hq
    unfold f_X2_greatestByAll_36
    by_cases c : q ≤ 0
    · rw [if_pos c]
      exact ⟨0, by omega, nI_0.symm, Or.inl rfl, fun a h1 h2 => by omega⟩
    · rw [if_neg c]
      have e : f_X0_whyNoLoan B mb (nI q) = f_X0_whyAbove B (f_X0_threefold B mb) (f_X0_cover B mb) (nI q) := by
        unfold f_X0_whyNoLoan
        rw [if_pos hl]
      rw [← e]
      by_cases c2 : f_X0_whyNoLoan B mb (nI q) = 0
      · rw [if_pos c2]
        exact ⟨q, Nat.le_refl q, rfl, Or.inr c2, fun a h1 h2 => by omega⟩
      · rw [if_neg c2]
        obtain ⟨g, g1, g2, g3, g4⟩ := ih (q - 1) (by omega)
        refine ⟨g, by omega, g2, g3, fun a h1 h2 => ?_⟩
        by_cases c3 : a = q
        · subst c3
          exact c2
        · exact g4 a h1 (by omega)
theorem zhalf {K : Int} {B : BK} (h : zI K B) {mb g : Nat} (g9 : g ≤ 9999) (g1 : g = 0 ∨ f_X0_whyNoLoan B mb (nI g) = 0) (g2 : ∀ a, g < a → a ≤ 9999 → ¬ f_X0_whyNoLoan B mb (nI a) = 0) : ∀ j k q, q ≤ g → g < q + 2 * 2 ^ j → j + 1 < k → f_X2_greatestByHalving_6 B mb k q (2 ^ j) = nI g := by
  have hP : ∀ a, 1 ≤ a → a ≤ g → f_X0_whyNoLoan B mb (nI a) = 0 := by
    intro a h1 h2
    rcases g1 with rfl | g1
    · omega
    · exact zw_mono h h1 h2 g9 g1
  have hend : ∀ k q, 0 < k → f_X2_greatestByHalving_6 B mb k q 0 = nI q := by
    intro k q hk
    obtain ⟨k, rfl⟩ : ∃ k', k = k' + 1 := ⟨k - 1, by omega⟩
    unfold f_X2_greatestByHalving_6
    rw [if_pos (Nat.le_refl 0)]
  intro j
  induction j with
  | zero =>
    intro k q h1 h2 hk
    obtain ⟨k, rfl⟩ : ∃ k', k = k' + 1 := ⟨k - 1, by omega⟩
    unfold f_X2_greatestByHalving_6
    rw [Nat.pow_zero] at h2 ⊢
    rw [if_neg (by omega)]
    have e : 1 / 2 = 0 := rfl
    rw [e]
    by_cases c : 9999 < q + 1
    · rw [if_pos c, hend k q (by omega)]
      congr 1
      omega
    · rw [if_neg c]
      by_cases c2 : f_X0_whyNoLoan B mb (nI (q + 1)) = 0
      · rw [if_pos c2, hend k _ (by omega)]
        have : ¬ g < q + 1 := fun z => g2 (q + 1) z (by omega) c2
        congr 1
        omega
      · rw [if_neg c2, hend k q (by omega)]
        have : ¬ q + 1 ≤ g := fun z => c2 (hP (q + 1) (by omega) z)
        congr 1
        omega
  | succ j ih =>
    intro k q h1 h2 hk
    obtain ⟨k, rfl⟩ : ∃ k', k = k' + 1 := ⟨k - 1, by omega⟩
    unfold f_X2_greatestByHalving_6
    have hp : 0 < 2 ^ j := Nat.two_pow_pos j
    have e1 : 2 ^ (j + 1) = 2 * 2 ^ j := by rw [Nat.pow_succ]; omega
    have e : 2 ^ (j + 1) / 2 = 2 ^ j := by rw [e1]; omega
    rw [e, e1]
    rw [e1] at h2
    generalize 2 ^ j = w at *
    rw [if_neg (by omega)]
    by_cases c : 9999 < q + 2 * w
    · rw [if_pos c]
      exact ih k q h1 (by omega) (by omega)
    · rw [if_neg c]
      by_cases c2 : f_X0_whyNoLoan B mb (nI (q + 2 * w)) = 0
      · rw [if_pos c2]
        have : ¬ g < q + 2 * w := fun z => g2 _ z (by omega) c2
        exact ih k _ (by omega) (by omega) (by omega)
      · rw [if_neg c2]
        have : ¬ q + 2 * w ≤ g := fun z => c2 (hP _ (by omega) z)
        exact ih k q h1 (by omega) (by omega)
theorem zgreat {K : Int} {B : BK} (h : zI K B) (mb : Nat) : f_X2_greatestByHalving B mb = f_X2_greatestByAll B mb := by
  unfold f_X2_greatestByHalving f_X2_greatestByAll
  by_cases hl : f_X0_hasLoan B mb = 0
  · rw [if_pos hl]
    obtain ⟨g, g1, g2, g3, g4⟩ := zall36 (mb := mb) hl 10001 9999 (by omega)
    rw [g2]
    exact zhalf h g1 g3 g4 13 8193 0 (by omega) (by omega) (by omega)
  · rw [if_neg hl]
    have no : ∀ a, ¬ f_X0_whyNoLoan B mb (nI a) = 0 := by
      intro a
      unfold f_X0_whyNoLoan
      rw [if_neg hl]
      decide
    have := zhalf h (mb := mb) (g := 0) (by omega) (Or.inl rfl) (fun a _ _ => no a) 13 8193 0 (by omega) (by omega) (by omega)
    exact this
/-! how long a loan lasts -/
theorem zwk9 {B : BK} {mb : Nat} (hp : 1 ≤ zv B 4 mb ∧ zv B 4 mb ≤ 9999) : ∀ (k : Nat) (x : Int32) (q : Nat), 0 ≤ x.toInt → q + x.toInt ≤ 9999 → x.toInt < k → (f_X0_weeksByWeeks_9 B mb k x q).toInt = q + (x.toInt + zv B 4 mb - 1) / zv B 4 mb := by
  intro k
  have e4 : (B 4 mb).toInt = zv B 4 mb := rfl
  induction k with
  | zero => intro x q h0 h1 h2; omega
  | succ k ih =>
    intro x q h0 h1 h2
    unfold f_X0_weeksByWeeks_9
    by_cases c : x ≤ 0
    · rw [if_pos c, nI_toInt (by omega)]
      rw [Int32.le_iff_toInt_le, Int32.toInt_zero] at c
      have : (x.toInt + zv B 4 mb - 1) / zv B 4 mb = 0 := Int.ediv_eq_zero_of_lt (by omega) (by omega)
      omega
    · rw [if_neg c]
      rw [Int32.le_iff_toInt_le, Int32.toInt_zero] at c
      rw [if_neg (by omega)]
      have ez := z_zmin x (B 4 mb)
      have e5 : (x - zmin x (B 4 mb)).toInt = x.toInt - min x.toInt (zv B 4 mb) := by
        rw [Jvm.Kit.i32_sub (by omega) (by omega), ez, e4]
      rw [ih (x - zmin x (B 4 mb)) (q + 1) (by omega) (by omega) (by omega), e5]
      generalize x.toInt = y at *
      generalize zv B 4 mb = p at *
      by_cases c2 : y ≤ p
      · have a1 : (y - min y p + p - 1) / p = 0 := Int.ediv_eq_zero_of_lt (by omega) (by omega)
        have a2 : (y + p - 1) / p = (y - 1) / p + 1 := by
          have := Int.add_mul_ediv_right (y - 1) 1 (c := p) (by omega)
          rw [Int.one_mul] at this
          rw [← this]
          congr 1
          omega
        have a3 : (y - 1) / p = 0 := Int.ediv_eq_zero_of_lt (by omega) (by omega)
        omega
      · have a2 : (y + p - 1) / p = (y - p + p - 1) / p + 1 := by
          have := Int.add_mul_ediv_right (y - p + p - 1) 1 (c := p) (by omega)
          rw [Int.one_mul] at this
          rw [← this]
          congr 1
          omega
        have a3 : y - min y p = y - p := by omega
        rw [a3]
        omega
theorem zlasts {K : Int} {B M : BK} (h : zcur B M) (hi : zI K B) {mb : Nat} (hm : mb < 6) : f_X0_weeksAtOnce B mb = f_X3_lasts M mb ∧ f_X0_weeksByWeeks B mb = f_X3_lasts M mb := by
  obtain ⟨b1, b2, b3⟩ := hi.2.2.1 mb hm
  have e3 : (B 3 mb).toInt = zv B 3 mb := rfl
  have e4 : (B 4 mb).toInt = zv B 4 mb := rfl
  have e1 : (1 : Int32).toInt = 1 := by decide
  unfold f_X3_lasts
  rw [zc_of2 h hm, zc_of3 h hm]
  by_cases c : B 3 mb = 0
  · rw [if_pos c]
    have c2 : B 3 mb ≤ 0 := by rw [c]; exact Int32.le_refl 0
    refine ⟨?_, ?_⟩
    · unfold f_X0_weeksAtOnce f_X0_hasLoan
      rw [if_pos c2, if_pos rfl]
    · unfold f_X0_weeksByWeeks f_X0_weeksByWeeks_9
      rw [if_pos c2]
      exact nI_0
  · rw [if_neg c]
    have c1 : ¬ zv B 3 mb = 0 := fun q => c (Int32.toInt_inj.mp (by rw [e3, q]; exact Int32.toInt_zero.symm))
    obtain ⟨p1, p2⟩ := b3 (by omega)
    have c2 : ¬ B 3 mb ≤ 0 := by
      rw [Int32.le_iff_toInt_le, Int32.toInt_zero]
      omega
    refine ⟨?_, ?_⟩
    · unfold f_X0_weeksAtOnce f_X0_hasLoan
      rw [if_neg c2, if_neg z10, if_pos]
      rw [Int32.le_iff_toInt_le]
      omega
    · apply Int32.toInt_inj.mp
      unfold f_X0_weeksByWeeks
      rw [zwk9 ⟨p1, p2⟩ 10001 (B 3 mb) 0 (by omega) (by omega) (by omega)]
      have s1 : (B 3 mb + B 4 mb).toInt = zv B 3 mb + zv B 4 mb := by
        rw [Jvm.Kit.i32_add (by omega) (by omega), e3, e4]
      have s2 : (B 3 mb + B 4 mb - 1).toInt = zv B 3 mb + zv B 4 mb - 1 := by
        rw [Jvm.Kit.i32_sub (by omega) (by omega), s1, e1]
      rw [Jvm.Kit.i32_div (by omega), s2, e4, e3, Int.tdiv_eq_ediv_of_nonneg (by omega)]
      omega
theorem zlent {K : Int} {B M : BK} (h : zcur B M) (hi : zI K B) (hK : K ≤ 2 ^ 30) : f_X3_lent M = f_X0_lentPart B ∧ ¬ f_X3_total M 0 < 0 ∧ ¬ f_X3_total M 2 < 0 ∧ ¬ f_X0_allShares B < 0 ∧ ¬ f_X0_allRests B < 0 ∧ (f_X0_lentPart B = 0 ∨ zdn (f_X0_lentPart B)) := by
  have hs := z_sharesI hi hK
  have hr := z_restsI hi hK
  have ht := zsh_tot hi
  have hl := z_rests_le hi
  rw [zc_shares h, zc_rests h]
  have n1 : ¬ f_X0_allShares B < 0 := by
    rw [Int32.lt_iff_toInt_lt, Int32.toInt_zero]
    omega
  have n2 : ¬ f_X0_allRests B < 0 := by
    rw [Int32.lt_iff_toInt_lt, Int32.toInt_zero]
    omega
  have e1 : (1 : Int32).toInt = 1 := by decide
  refine ⟨?_, n1, n2, n1, n2, ?_⟩
  · unfold f_X3_lent f_X0_lentPart
    rw [zc_shares h, zc_rests h]
    by_cases c : f_X0_allShares B = 0
    · rw [if_pos c, if_neg (by rw [c]; decide)]
    · rw [if_neg c, if_pos]
      rw [Int32.le_iff_toInt_le]
      have : ¬ (f_X0_allShares B).toInt = 0 := fun q => c (Int32.toInt_inj.mp (by rw [q]; exact Int32.toInt_zero.symm))
      omega
  · unfold f_X0_lentPart
    by_cases c : 1 ≤ f_X0_allShares B
    · rw [if_pos c]
      rw [Int32.le_iff_toInt_le] at c
      obtain ⟨q, hq, eq⟩ := nI_of n1
      obtain ⟨w, hw, ew⟩ := nI_of n2
      rw [eq, nI_toInt hq] at hs c
      rw [ew, nI_toInt hw] at hr
      rw [eq, ew]
      exact zd_part (by omega) (by omega) hq
    · rw [if_neg c]
      left
      decide
end ZS3
