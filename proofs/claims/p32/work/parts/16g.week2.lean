/-! a week's end -/
section ZRD
/-- one member's week -/
def zWk (B B' : BK) (mb : Nat) (r : Int32) : Prop :=
  zSH B - zSH B' = zRS B - zRS B' ∧ (∀ j, j < 6 → zv B' 0 j ≤ zv B 0 j) ∧ (∀ j, j < 6 → zv B' 2 (j * 6 + j) = 0) ∧ B' 7 = B 7 ∧ B' 8 = B 8 ∧ (∀ j, ¬ j = mb → B' 3 j = B 3 j ∧ B' 5 j = B 5 j ∧ B' 6 j = B 6 j) ∧
  ((r = 0 ∧ zRS B' = zRS B ∧ zLn B' = zLn B ∧ B' 5 mb = 0 ∧ ¬ B' 7 1 ≤ B' 6 mb) ∨ (r = 1 ∧ zLn B' = zLn B - zind (zv B 3 mb) ∧ B' 3 mb = 0))
theorem zWk_of {K : Int} {B : BK} (hI : zI K B) (hK : K ≤ 2 ^ 29) {mb : Nat} (hm : mb < 6) (hg : ∀ j, j < 6 → zv B 2 (j * 6 + j) = 0) (x : Int32) :
    zWk B (if (uB (uB B 6 mb x) 5 mb 0) 7 1 ≤ (uB (uB B 6 mb x) 5 mb 0) 6 mb then ((1 : Int32), f_X0_takeDue (uB (uB B 6 mb x) 5 mb 0) mb) else (0, uB (uB B 6 mb x) 5 mb 0)).2 mb (if (uB (uB B 6 mb x) 5 mb 0) 7 1 ≤ (uB (uB B 6 mb x) 5 mb 0) 6 mb then ((1 : Int32), f_X0_takeDue (uB (uB B 6 mb x) 5 mb 0) mb) else (0, uB (uB B 6 mb x) 5 mb 0)).1 := by
  have hI1 : zI K (uB (uB B 6 mb x) 5 mb 0) := zI_up (zI_up hI (by omega) (by omega) (by omega) (by omega)) (by omega) (by omega) (by omega) (by omega)
  have hr : ∀ k, ¬ k = 5 → ¬ k = 6 → (uB (uB B 6 mb x) 5 mb 0) k = B k := fun k q5 q6 => by rw [uB_row _ _ _ q5, uB_row _ _ _ q6]
  have hj : ∀ k j, ¬ j = mb → (uB (uB B 6 mb x) 5 mb 0) k j = B k j := fun k j q => by rw [uB_ne _ _ (fun e => q e.2), uB_ne _ _ (fun e => q e.2)]
  have h5 : (uB (uB B 6 mb x) 5 mb 0) 5 mb = 0 := uB_self _ _ _ _
  generalize uB (uB B 6 mb x) 5 mb 0 = C at *
  have v : ∀ k j, ¬ k = 5 → ¬ k = 6 → zv C k j = zv B k j := fun k j q5 q6 => by
    unfold zv
    rw [hr k q5 q6]
  have hS : zSH C = zSH B := zS_congr (fun j _ => v 0 j (by decide) (by decide))
  have hR : zRS C = zRS B := zS_congr (fun j _ => v 3 j (by decide) (by decide))
  have hL : zLn C = zLn B := zS_congr (fun j _ => by rw [v 3 j (by decide) (by decide)])
  have hg' : ∀ j, j < 6 → zv C 2 (j * 6 + j) = 0 := fun j hj => by
    rw [v 2 _ (by decide) (by decide)]
    exact hg j hj
  by_cases c : C 7 1 ≤ C 6 mb
  · rw [if_pos c]
    obtain ⟨d1, d2, d3, d4, d5, d6, d7, d8⟩ := zd_due hI1 hK hm hg'
    refine ⟨?_, fun j hj => ?_, d5, ?_, ?_, fun j q => ⟨?_, ?_, ?_⟩, Or.inr ⟨rfl, ?_, d7⟩⟩
    · dsimp only
      omega
    · have := d4 j hj
      rw [v 0 j (by decide) (by decide)] at this
      exact this
    · dsimp only
      rw [d6 7 (by decide) (by decide) (by decide), hr 7 (by decide) (by decide)]
    · dsimp only
      rw [d6 8 (by decide) (by decide) (by decide), hr 8 (by decide) (by decide)]
    · dsimp only
      rw [d8 j q, hj 3 j q]
    · dsimp only
      rw [d6 5 (by decide) (by decide) (by decide), hj 5 j q]
    · dsimp only
      rw [d6 6 (by decide) (by decide) (by decide), hj 6 j q]
    · dsimp only
      rw [d3, hL, v 3 mb (by decide) (by decide)]
  · rw [if_neg c]
    refine ⟨?_, fun j hj => ?_, hg', hr 7 (by decide) (by decide), hr 8 (by decide) (by decide), fun j q => ⟨hj 3 j q, hj 5 j q, hj 6 j q⟩, Or.inl ⟨rfl, hR, hL, h5, c⟩⟩
    · dsimp only
      omega
    · dsimp only
      rw [v 0 j (by decide) (by decide)]
      exact Int.le_refl _
theorem zWk_week {K : Int} {B : BK} (hI : zI K B) (hK : K ≤ 2 ^ 29) {mb : Nat} (hm : mb < 6) (hg : ∀ j, j < 6 → zv B 2 (j * 6 + j) = 0) : zWk B (f_X0_endWeekOf B mb).2 mb (f_X0_endWeekOf B mb).1 := by
  unfold f_X0_endWeekOf
  by_cases c : B 4 mb ≤ B 5 mb
  · rw [if_pos c]
    exact zWk_of hI hK hm hg 0
  · rw [if_neg c]
    exact zWk_of hI hK hm hg _
/-- the first n members' week -/
def zWn (B C : BK) (n : Nat) (f : Int32) : Prop :=
  zSH B - zSH C = zRS B - zRS C ∧ (∀ j, j < 6 → zv C 0 j ≤ zv B 0 j) ∧ (∀ j, j < 6 → zv C 2 (j * 6 + j) = 0) ∧ C 7 = B 7 ∧ C 8 = B 8 ∧ (∀ j, n ≤ j → C 3 j = B 3 j ∧ C 5 j = B 5 j ∧ C 6 j = B 6 j) ∧
  (0 ≤ f.toInt ∧ f.toInt ≤ n ∧ zLn C + f.toInt ≤ zLn B) ∧ (f.toInt = 0 → zRS C = zRS B) ∧ ∀ j, j < n → zv C 3 j = 0 ∨ (C 5 j = 0 ∧ ¬ C 7 1 ≤ C 6 j)
theorem zWn_4 {K : Int} {B : BK} (hI : zI K B) (hK : K ≤ 2 ^ 29) (hg : ∀ j, j < 6 → zv B 2 (j * 6 + j) = 0) : ∀ n, n ≤ 6 → zWn B (f_X0_endWeek_4 B 0 B n).2 n (f_X0_endWeek_4 B 0 B n).1 := by
  intro n
  induction n with
  | zero =>
    intro _
    refine ⟨?_, fun j _ => Int.le_refl _, hg, rfl, rfl, fun j _ => ⟨rfl, rfl, rfl⟩, ?_, fun _ => rfl, fun j hj => absurd hj (Nat.not_lt_zero j)⟩
    · show zSH B - zSH B = zRS B - zRS B
      omega
    · show 0 ≤ (0 : Int32).toInt ∧ (0 : Int32).toInt ≤ ((0 : Nat) : Int) ∧ zLn B + (0 : Int32).toInt ≤ zLn B
      rw [Int32.toInt_zero]
      omega
  | succ n ih =>
    intro hn
    obtain ⟨i1, i2, i3, i4, i5, i6, i7, i8, i9⟩ := ih (by omega)
    have z1 := (zI_week4 hI hK n (by omega)).1
    unfold f_X0_endWeek_4
    dsimp only
    generalize (f_X0_endWeek_4 B 0 B n).1 = f at *
    generalize (f_X0_endWeek_4 B 0 B n).2 = C at *
    by_cases c : f_X0_hasLoan C n = 0
    · rw [if_pos c]
      have h0 := zRest0 z1 (by omega) c
      refine ⟨i1, i2, i3, i4, i5, fun j hj => i6 j (by omega), ⟨i7.1, (by show f.toInt ≤ _; omega), i7.2.2⟩, i8, fun j hj => ?_⟩
      by_cases q : j = n
      · subst q
        exact Or.inl h0
      · exact i9 j (by omega)
    · rw [if_neg c]
      have h0 := zRest1 c
      obtain ⟨w1, w2, w3, w4, w5, w6, w7⟩ := zWk_week z1 hK (mb := n) (by omega) i3
      generalize (f_X0_endWeekOf C n).2 = C' at *
      generalize (f_X0_endWeekOf C n).1 = r at *
      have hj9 : ∀ j, j < n → zv C' 3 j = 0 ∨ (C' 5 j = 0 ∧ ¬ C' 7 1 ≤ C' 6 j) := fun j hj => by
        obtain ⟨e3, e5, e6⟩ := w6 j (by omega)
        unfold zv
        rw [e3, e5, e6, w4]
        exact i9 j hj
      have hj6 : ∀ j, n + 1 ≤ j → C' 3 j = B 3 j ∧ C' 5 j = B 5 j ∧ C' 6 j = B 6 j := fun j hj => by
        obtain ⟨e3, e5, e6⟩ := w6 j (by omega)
        rw [e3, e5, e6]
        exact i6 j (by omega)
      have e1 : (1 : Int32).toInt = 1 := by decide
      rcases w7 with ⟨rfl, a2, a3, a4, a5⟩ | ⟨rfl, a2, a3⟩
      · rw [if_pos rfl]
        refine ⟨?_, fun j hj => Int.le_trans (w2 j hj) (i2 j hj), w3, w4.trans i4, w5.trans i5, hj6, ?_, ?_, fun j hj => ?_⟩
        · dsimp only
          omega
        · dsimp only
          omega
        · dsimp only
          intro q
          rw [a2]
          exact i8 q
        · dsimp only
          by_cases q : j = n
          · subst q
            exact Or.inr ⟨a4, a5⟩
          · exact hj9 j (by omega)
      · rw [if_neg (by decide)]
        rw [zind_1 h0] at a2
        have ef : (f + 1).toInt = f.toInt + 1 := by rw [Jvm.Kit.i32_add (by omega) (by omega), e1]
        refine ⟨?_, fun j hj => Int.le_trans (w2 j hj) (i2 j hj), w3, w4.trans i4, w5.trans i5, hj6, ?_, ?_, fun j hj => ?_⟩
        · dsimp only
          omega
        · dsimp only
          rw [ef]
          omega
        · dsimp only
          rw [ef]
          intro q
          omega
        · dsimp only
          by_cases q : j = n
          · subst q
            left
            unfold zv
            rw [a3]
            exact Int32.toInt_zero
          · exact hj9 j (by omega)
theorem zR_endWeek {n K : Int} {B : BK} (h : zR n B) (hI : zI K B) (hK : K ≤ 2 ^ 29) (hn : n ≤ 1000) : zR (n + 1) (f_X0_endWeek B).2 := by
  obtain ⟨i1, i2, i3, i4, i5, i6, i7, i8, i9⟩ := zWn_4 hI hK h.2.1 6 (by omega)
  unfold f_X0_endWeek
  dsimp only
  generalize (f_X0_endWeek_4 B 0 B 6).1 = f at *
  generalize (f_X0_endWeek_4 B 0 B 6).2 = C at *
  obtain ⟨a1, a2, a3, a4, a5, a6, a7, a8⟩ := h
  have hg := zLn_nn B
  have hg2 := zLn_nn C
  rw [uB_ne C _ (by decide : ¬ (8 = 8 ∧ 3 = 4)), i5]
  have e1 : (1 : Int32).toInt = 1 := by decide
  have e84 : (B 8 4).toInt = zv B 8 4 := rfl
  have e83 : (B 8 3).toInt = zv B 8 3 := rfl
  have x4 : (B 8 4 + 1).toInt = zv B 8 4 + 1 := by rw [Jvm.Kit.i32_add (by omega) (by omega), e84, e1]
  have x3 : (B 8 3 + f).toInt = zv B 8 3 + f.toInt := by rw [Jvm.Kit.i32_add (by omega) (by omega), e83]
  generalize B 8 4 + 1 = y4 at x4 ⊢
  generalize B 8 3 + f = y3 at x3 ⊢
  have v8 : ∀ j, ¬ j = 3 → ¬ j = 4 → zv (uB (uB C 8 4 y4) 8 3 y3) 8 j = zv B 8 j := fun j q3 q4 => by
    rw [zv_ne _ _ (fun e => q3 e.2), zv_ne _ _ (fun e => q4 e.2)]
    unfold zv
    rw [i5]
  have s3 : zv (uB (uB C 8 4 y4) 8 3 y3) 8 3 = y3.toInt := zv_self _ _ _ _
  have s4 : zv (uB (uB C 8 4 y4) 8 3 y3) 8 4 = y4.toInt := by rw [zv_ne _ _ (by decide), zv_self]
  have v7 : zv (uB (uB C 8 4 y4) 8 3 y3) 7 1 = zv B 7 1 := by
    rw [zv_row _ _ _ _ (by decide), zv_row _ _ _ _ (by decide)]
    unfold zv
    rw [i4]
  unfold zR
  rw [zSH_ne _ _ _ (by decide), zSH_ne _ _ _ (by decide), zRS_ne _ _ _ (by decide), zRS_ne _ _ _ (by decide), zLn_ne _ _ _ (by decide), zLn_ne _ _ _ (by decide), s3, s4, v7, v8 0 (by omega) (by omega), v8 1 (by omega) (by omega), v8 2 (by omega) (by omega), v8 5 (by omega) (by omega)]
  refine ⟨by omega, fun j hj => ?_, fun j hj => ?_, by omega, a5, by omega, by omega, by omega⟩
  · rw [zv_row _ _ _ _ (by decide), zv_row _ _ _ _ (by decide)]
    exact i3 j hj
  · rw [zv_row _ _ _ _ (by decide), zv_row _ _ _ _ (by decide)]
    have := a3 j hj
    have := i2 j hj
    omega
end ZRD
