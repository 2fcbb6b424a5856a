/-! loans, days, dividends, settings -/
section ZRB
theorem zRest0 {K : Int} {B : BK} (hI : zI K B) {mb : Nat} (hm : mb < 6) (h : f_X0_hasLoan B mb = 0) : zv B 3 mb = 0 := by
  have h0 := (hI.2.2.1 mb hm).1
  unfold f_X0_hasLoan at h
  by_cases c : B 3 mb ≤ 0
  · rw [Int32.le_iff_toInt_le, Int32.toInt_zero] at c
    have : (B 3 mb).toInt = zv B 3 mb := rfl
    omega
  · rw [if_neg c] at h
    exact absurd h (by decide)
theorem zRest1 {B : BK} {mb : Nat} (h : ¬ f_X0_hasLoan B mb = 0) : 0 < zv B 3 mb := by
  unfold f_X0_hasLoan at h
  by_cases c : B 3 mb ≤ 0
  · rw [if_pos c] at h
    exact absurd rfl h
  · rw [Int32.le_iff_toInt_le, Int32.toInt_zero] at c
    have : (B 3 mb).toInt = zv B 3 mb := rfl
    omega
theorem zwhy_ok {B : BK} {mb : Nat} {am : Int32} (h : f_X0_whyNoLoan B mb am = 0) : f_X0_hasLoan B mb = 0 := by
  unfold f_X0_whyNoLoan at h
  by_cases c : f_X0_hasLoan B mb = 0
  · exact c
  · rw [if_neg c] at h
    exact absurd h (by decide)
theorem zR_lend {n K : Int} {B : BK} (h : zR n B) (hI : zI K B) (hK : K ≤ 2 ^ 29) (hn : n ≤ 1000) {mb : Nat} (hm : mb < 6) {am wk : Int32} (ha : zam am) : zR (n + 1) (f_X0_lend B mb am wk).2 := by
  unfold f_X0_lend
  by_cases c : f_X0_whyNoLoan B mb am = 0
  · rw [if_pos c]
    dsimp only
    have ht := z_till h hI
    have hr := zRest0 hI hm (zwhy_ok c)
    obtain ⟨f1, f2, f3⟩ := z_feeI hI ha
    obtain ⟨ha1, ha2⟩ := ha
    have hf : 0 ≤ (f_X0_feeOf B am).toInt ∧ (f_X0_feeOf B am).toInt ≤ 999 := by omega
    generalize f_X0_feeOf B am = f at hf ⊢
    obtain ⟨a1, a2, a3, a4, a5, a6, a7, a8⟩ := h
    have e80 : (B 8 0).toInt = zv B 8 0 := rfl
    have e81 : (B 8 1).toInt = zv B 8 1 := rfl
    have e82 : (B 8 2).toInt = zv B 8 2 := rfl
    have e1 : (1 : Int32).toInt = 1 := by decide
    have x0 : (B 8 0 - (am - f)).toInt = zv B 8 0 - (am.toInt - f.toInt) := by
      have : (am - f).toInt = am.toInt - f.toInt := Jvm.Kit.i32_sub (by omega) (by omega)
      rw [Jvm.Kit.i32_sub (by omega) (by omega), e80, this]
    have x1 : (B 8 1 + f).toInt = zv B 8 1 + f.toInt := by rw [Jvm.Kit.i32_add (by omega) (by omega), e81]
    have hg := zLn_nn B
    have x2 : (B 8 2 + 1).toInt = zv B 8 2 + 1 := by rw [Jvm.Kit.i32_add (by omega) (by omega), e82, e1]
    have g1 : (uB B 8 0 (B 8 0 - (am - f))) 8 1 = B 8 1 := uB_ne B _ (by decide)
    rw [g1]
    have g2 : ∀ P Q R S : Int32, (uB (uB (uB (uB (uB (uB B 8 0 P) 8 1 Q) 3 mb am) 4 mb R) 5 mb 0) 6 mb S) 8 2 = B 8 2 := fun P Q R S => by
      rw [uB_row _ _ _ (by decide), uB_row _ _ _ (by decide), uB_row _ _ _ (by decide), uB_row _ _ _ (by decide), uB_ne _ _ (by decide), uB_ne _ _ (by decide)]
    rw [g2]
    generalize B 8 0 - (am - f) = y0 at x0 ⊢
    generalize B 8 1 + f = y1 at x1 ⊢
    generalize B 8 2 + 1 = y2 at x2 ⊢
    generalize (am + wk - 1) / wk = y4
    unfold zR
    have e : ∀ k j, ¬ k = 3 → ¬ k = 4 → ¬ k = 5 → ¬ k = 6 → ¬ k = 8 → zv (uB (uB (uB (uB (uB (uB (uB B 8 0 y0) 8 1 y1) 3 mb am) 4 mb y4) 5 mb 0) 6 mb 0) 8 2 y2) k j = zv B k j := fun k j q3 q4 q5 q6 q8 => by
      rw [zv_row _ _ _ _ q8, zv_row _ _ _ _ q6, zv_row _ _ _ _ q5, zv_row _ _ _ _ q4, zv_row _ _ _ _ q3, zv_row _ _ _ _ q8, zv_row _ _ _ _ q8]
    have e8 : ∀ j, ¬ j = 2 → zv (uB (uB (uB (uB (uB (uB (uB B 8 0 y0) 8 1 y1) 3 mb am) 4 mb y4) 5 mb 0) 6 mb 0) 8 2 y2) 8 j = zv (uB (uB B 8 0 y0) 8 1 y1) 8 j := fun j q => by
      rw [zv_ne _ _ (fun z => q z.2), zv_row _ _ _ _ (by decide), zv_row _ _ _ _ (by decide), zv_row _ _ _ _ (by decide), zv_row _ _ _ _ (by decide)]
    have s0 : zv (uB (uB B 8 0 y0) 8 1 y1) 8 0 = y0.toInt := by rw [zv_ne _ _ (by decide), zv_self]
    have s1 : zv (uB (uB B 8 0 y0) 8 1 y1) 8 1 = y1.toInt := zv_self _ _ _ _
    have sj : ∀ j, 2 ≤ j → zv (uB (uB B 8 0 y0) 8 1 y1) 8 j = zv B 8 j := fun j q => by rw [zv_ne _ _ (by omega), zv_ne _ _ (by omega)]
    have h3 : zv (uB (uB B 8 0 y0) 8 1 y1) 3 mb = zv B 3 mb := by rw [zv_row _ _ _ _ (by decide), zv_row _ _ _ _ (by decide)]
    rw [zSH_ne _ _ _ (by decide), zSH_ne _ _ _ (by decide), zSH_ne _ _ _ (by decide), zSH_ne _ _ _ (by decide), zSH_ne _ _ _ (by decide), zSH_ne _ _ _ (by decide), zSH_ne _ _ _ (by decide)]
    rw [zRS_ne _ _ _ (by decide), zRS_ne _ _ _ (by decide), zRS_ne _ _ _ (by decide), zRS_ne _ _ _ (by decide), zRS_3 _ _ hm, h3, zRS_ne _ _ _ (by decide), zRS_ne _ _ _ (by decide)]
    rw [zLn_ne _ _ _ (by decide), zLn_ne _ _ _ (by decide), zLn_ne _ _ _ (by decide), zLn_ne _ _ _ (by decide), zLn_3 _ _ hm, h3, zLn_ne _ _ _ (by decide), zLn_ne _ _ _ (by decide)]
    rw [zv_self, e8 0 (by omega), e8 1 (by omega), e8 3 (by omega), e8 4 (by omega), e8 5 (by omega), s0, s1, sj 3 (by omega), sj 4 (by omega), sj 5 (by omega), e 7 1 (by omega) (by omega) (by omega) (by omega) (by omega), hr, zind_1 (by omega), zind_0 (by omega)]
    refine ⟨by omega, fun j hj => ?_, fun j hj => ?_, by omega, a5, by omega, by omega, by omega⟩
    · rw [e 2 _ (by omega) (by omega) (by omega) (by omega) (by omega)]
      exact a2 j hj
    · rw [e 0 _ (by omega) (by omega) (by omega) (by omega) (by omega)]
      have := a3 j hj
      omega
  · rw [if_neg c]
    exact (h.mono (by omega)).ref _
theorem zR_takeBack {n K : Int} {B : BK} (h : zR n B) (hI : zI K B) (hK : K ≤ 2 ^ 29) {mb : Nat} (hm : mb < 6) {am : Int32} (ha : zam am) : zR n (f_X0_takeBack B mb am).2 := by
  obtain ⟨ha1, ha2⟩ := ha
  unfold f_X0_takeBack
  by_cases c : am ≤ B 3 mb
  · rw [if_pos c]
    dsimp only
    have ht := z_till h hI
    have hr := hI.2.2.1 mb hm
    rw [Int32.le_iff_toInt_le] at c
    have e3 : (B 3 mb).toInt = zv B 3 mb := rfl
    have e80 : (B 8 0).toInt = zv B 8 0 := rfl
    rw [uB_row B (k := 8) (k' := 3) 0 _ (by decide)]
    have x0 : (B 8 0 + am).toInt = zv B 8 0 + am.toInt := by rw [Jvm.Kit.i32_add (by omega) (by omega), e80]
    have x3 : (B 3 mb - am).toInt = zv B 3 mb - am.toInt := by rw [Jvm.Kit.i32_sub (by omega) (by omega), e3]
    refine zR.skip ?_ _ (by decide) (by decide) (by decide) (by omega) (by omega)
    generalize B 8 0 + am = y0 at x0 ⊢
    generalize B 3 mb - am = y3 at x3 ⊢
    obtain ⟨a1, a2, a3, a4, a5, a6, a7, a8⟩ := h
    unfold zR
    have e : ∀ k j, ¬ k = 3 → ¬ k = 8 → zv (uB (uB B 8 0 y0) 3 mb y3) k j = zv B k j := fun k j q3 q8 => by rw [zv_row _ _ _ _ q3, zv_row _ _ _ _ q8]
    have e8 : ∀ j, ¬ j = 0 → zv (uB (uB B 8 0 y0) 3 mb y3) 8 j = zv B 8 j := fun j q => by rw [zv_row _ _ _ _ (by decide), zv_ne _ _ (fun z => q z.2)]
    have s0 : zv (uB (uB B 8 0 y0) 3 mb y3) 8 0 = y0.toInt := by rw [zv_row _ _ _ _ (by decide), zv_self]
    have h3 : zv (uB B 8 0 y0) 3 mb = zv B 3 mb := zv_row _ _ _ _ (by decide)
    have hl : zind y3.toInt ≤ zind (zv B 3 mb) := by
      by_cases q : 0 < y3.toInt
      · rw [zind_1 q, zind_1 (by omega)]
        exact Int.le_refl 1
      · rw [zind_0 q]
        exact (zind_01 _).1
    rw [zSH_ne _ _ _ (by decide), zSH_ne _ _ _ (by decide), zRS_3 _ _ hm, h3, zRS_ne _ _ _ (by decide), zLn_3 _ _ hm, h3, zLn_ne _ _ _ (by decide), s0, e8 1 (by omega), e8 2 (by omega), e8 3 (by omega), e8 4 (by omega), e8 5 (by omega), e 7 1 (by omega) (by omega)]
    refine ⟨by omega, fun j hj => ?_, fun j hj => ?_, a4, a5, by omega, a7, a8⟩
    · rw [e 2 _ (by omega) (by omega)]
      exact a2 j hj
    · rw [e 0 _ (by omega) (by omega)]
      exact a3 j hj
  · rw [if_neg c]
    exact h.ref _
theorem zR_add2 {n : Int} {B : BK} (h : zR n B) (dd : Int32) : ∀ k, zR n (f_X0_addDays_2 B dd B k) ∧ (f_X0_addDays_2 B dd B k) 8 = B 8 := by
  intro k
  induction k with
  | zero => exact ⟨h, rfl⟩
  | succ k ih =>
    unfold f_X0_addDays_2
    dsimp only
    exact ⟨ih.1.skip _ (by decide) (by decide) (by decide) (by omega) (by omega), (uB_row _ _ _ (by decide)).trans ih.2⟩
theorem zR_addDays {n : Int} {B : BK} (h : zR n B) (hn : n ≤ 1000) : zR (n + 1) (f_X0_addDays B 9).2 := by
  obtain ⟨g1, g2⟩ := zR_add2 h 9 6
  unfold f_X0_addDays
  dsimp only
  have e5 : ((f_X0_addDays_2 B 9 B 6) 8 5 + 9).toInt = zv B 8 5 + 9 := by
    have : (9 : Int32).toInt = 9 := by decide
    have h8 := h.2.2.2.2.2.2.2
    have e : (B 8 5).toInt = zv B 8 5 := rfl
    rw [g2, Jvm.Kit.i32_add (by omega) (by omega), e, this]
  generalize f_X0_addDays_2 B 9 B 6 = C at *
  generalize C 8 5 + 9 = y at e5 ⊢
  have g5 : zv C 8 5 = zv B 8 5 := by
    unfold zv
    rw [g2]
  obtain ⟨a1, a2, a3, a4, a5, a6, a7, a8⟩ := g1
  have e8 : ∀ j, ¬ j = 5 → zv (uB C 8 5 y) 8 j = zv C 8 j := fun j q => zv_ne _ _ (fun z => q z.2)
  unfold zR
  rw [zSH_ne _ _ _ (by decide), zRS_ne _ _ _ (by decide), zLn_ne _ _ _ (by decide), zv_self, e8 0 (by omega), e8 1 (by omega), e8 2 (by omega), e8 3 (by omega), e8 4 (by omega), zv_row C (k' := 7) _ _ y (by decide)]
  refine ⟨a1, fun j hj => ?_, fun j hj => ?_, by omega, a5, by omega, by omega, by omega⟩
  · rw [zv_row C _ _ y (by decide)]
    exact a2 j hj
  · rw [zv_row C _ _ y (by decide)]
    have := a3 j hj
    omega
theorem zR_set {n : Int} {B : BK} (h : zR n B) {i : Nat} {x : Int32} (hx : i = 1 → 1 ≤ x.toInt ∧ x.toInt ≤ 5) : zR n (uB B 7 i x) := by
  by_cases c : i = 1
  · subst c
    obtain ⟨a1, a2, a3, a4, a5, a6⟩ := h
    have e8 : ∀ j, zv (uB B 7 1 x) 8 j = zv B 8 j := fun j => zv_row _ _ _ _ (by decide)
    unfold zR
    rw [zSH_ne _ _ _ (by decide), zRS_ne _ _ _ (by decide), zLn_ne _ _ _ (by decide), zv_self, e8 0, e8 1, e8 2, e8 3, e8 4, e8 5]
    refine ⟨a1, fun j hj => ?_, fun j hj => ?_, a4, hx rfl, a6⟩
    · rw [zv_row B _ _ x (by decide)]
      exact a2 j hj
    · rw [zv_row B _ _ x (by decide)]
      exact a3 j hj
  · exact h.skip x (by decide) (by decide) (by decide) (fun e => c e.2.symm) (by omega)
end ZRB
