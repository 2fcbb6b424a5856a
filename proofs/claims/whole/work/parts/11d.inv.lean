/-! days and dividends keep the books' bounds -/
section ZJ4
theorem zI_add2 {K : Int} {B : BK} (h : zI K B) {dd : Int32} (h0 : 1 ≤ dd.toInt ∧ dd.toInt ≤ 99) (hc : ∀ i, i < 6 → zok B dd i) : ∀ n, n ≤ 6 → zI K (f_X0_addDays_2 B dd B n) ∧ (f_X0_addDays_2 B dd B n) 0 = B 0 ∧ ∀ j, n ≤ j → (f_X0_addDays_2 B dd B n) 1 j = B 1 j := by
  intro n
  induction n with
  | zero => intro _; exact ⟨h, rfl, fun _ _ => rfl⟩
  | succ n ih =>
    intro hn
    obtain ⟨i1, i2, i3⟩ := ih (by omega)
    unfold f_X0_addDays_2
    dsimp only
    generalize f_X0_addDays_2 B dd B n = C at *
    rw [i2, i3 n (Nat.le_refl n)]
    have a1 := h.1 n (by omega)
    have a2 := zsh_nn h (i := n) (by omega)
    have hz := hc n (by omega)
    unfold zok at hz
    have e1 : (B 1 n).toInt64.toInt = zv B 1 n := Int32.toInt_toInt64 _
    have e2 : (B 0 n).toInt64.toInt = zv B 0 n := Int32.toInt_toInt64 _
    have e3 : dd.toInt64.toInt = dd.toInt := Int32.toInt_toInt64 _
    have e4 : (B 0 n).toInt = zv B 0 n := rfl
    have e5 : (B 1 n).toInt = zv B 1 n := rfl
    have e6 : (100000000 : Int64).toInt = 100000000 := by decide
    have q1 := (B 0 n).toInt_lt
    have m0 : 0 ≤ zv B 0 n * dd.toInt := Int.mul_nonneg a2 (by omega)
    have m1 : zv B 0 n * dd.toInt ≤ 2147483648 * 99 := Int.mul_le_mul (by omega) h0.2 (by omega) (by omega)
    have e7 : ((B 0 n).toInt64 * dd.toInt64).toInt = zv B 0 n * dd.toInt := by
      rw [Jvm.Kit.i64_mul (by rw [e2, e3]; omega) (by rw [e2, e3]; omega), e2, e3]
    rw [Int64.le_iff_toInt_le, e6, Jvm.Kit.i64_add (by omega) (by omega), e1, e7] at hz
    have e8 : (B 0 n * dd).toInt = zv B 0 n * dd.toInt := by
      rw [Jvm.Kit.i32_mul (by rw [e4]; omega) (by rw [e4]; omega), e4]
    have e9 : (B 1 n + B 0 n * dd).toInt = zv B 1 n + zv B 0 n * dd.toInt := by
      rw [Jvm.Kit.i32_add (by omega) (by omega), e5, e8]
    refine ⟨zI_set1 i1 (by omega) (by omega), ?_, fun j hj => ?_⟩
    · rw [uB_row _ _ _ (by decide)]
      exact i2
    · rw [uB_ne _ _ (by omega)]
      exact i3 j (by omega)
theorem zI_addDays {K : Int} {B : BK} (h : zI K B) {dd : Int32} (h0 : 1 ≤ dd.toInt ∧ dd.toInt ≤ 99) (hc : ∀ i, i < 6 → zok B dd i) : zI K (f_X0_addDays B dd).2 := by
  obtain ⟨g, _, _⟩ := zI_add2 h h0 hc 6 (by omega)
  unfold f_X0_addDays
  dsimp only
  exact zI_up g (by omega) (by omega) (by omega) (by omega)
/-- what the first n get -/
def zG (B : BK) : Nat → Int := zS (fun i => zv B 8 1 * zv B 1 i / zS (zv B 1) 6)
theorem z_dvI {K : Int} {B : BK} (h : zI K B) (hK : K ≤ 2 ^ 29) {i : Nat} (hi : i < 6) (ha : 1 ≤ f_X0_allShareDays B) : (f_X0_dividendOf B i (f_X0_allShareDays B)).toInt = zv B 8 1 * zv B 1 i / zS (zv B 1) 6 ∧ 0 ≤ zv B 8 1 * zv B 1 i / zS (zv B 1) 6 ∧ zv B 8 1 * zv B 1 i / zS (zv B 1) 6 ≤ zv B 8 1 ∧ 0 < zS (zv B 1) 6 := by
  obtain ⟨d1, d2, d3⟩ := z_daysI h
  have e6 : (1 : Int64).toInt = 1 := by decide
  have hp : 0 < zS (zv B 1) 6 := by
    rw [Int64.le_iff_toInt_le, e6, d1] at ha
    omega
  have hsu := h.2.2.2.2.2.2.1.2
  have htt := zsh_tot h
  have h8 := h.2.2.2.2.2.2.2
  obtain ⟨a0, a1⟩ := h.1 i hi
  have al : zv B 1 i ≤ zS (zv B 1) 6 := zS_one (f := zv B 1) (fun j hj => (h.1 j hj).1) hi
  have m0 : 0 ≤ zv B 8 1 * zv B 1 i := Int.mul_nonneg hsu a0
  have m1 : zv B 8 1 * zv B 1 i ≤ 2 ^ 29 * 100000000 := Int.mul_le_mul (by omega) a1 a0 (by omega)
  have m2 : zv B 8 1 * zv B 1 i ≤ zv B 8 1 * zS (zv B 1) 6 := Int.mul_le_mul_of_nonneg_left al hsu
  have e1 : (B 8 1).toInt64.toInt = zv B 8 1 := Int32.toInt_toInt64 _
  have e2 : (B 1 i).toInt64.toInt = zv B 1 i := Int32.toInt_toInt64 _
  have e3 : ((B 8 1).toInt64 * (B 1 i).toInt64).toInt = zv B 8 1 * zv B 1 i := by
    rw [Jvm.Kit.i64_mul (by rw [e1, e2]; omega) (by rw [e1, e2]; omega), e1, e2]
  have q0 : 0 ≤ zv B 8 1 * zv B 1 i / zS (zv B 1) 6 := Int.ediv_nonneg m0 (by omega)
  have q1 : zv B 8 1 * zv B 1 i / zS (zv B 1) 6 ≤ zv B 8 1 := Int.ediv_le_of_le_mul hp m2
  refine ⟨?_, q0, q1, hp⟩
  unfold f_X0_dividendOf
  rw [if_pos ha]
  have e4 : ((B 8 1).toInt64 * (B 1 i).toInt64 / f_X0_allShareDays B).toInt = zv B 8 1 * zv B 1 i / zS (zv B 1) 6 := by
    rw [Jvm.Kit.i64_div (by omega), e3, d1, Int.tdiv_eq_ediv_of_nonneg m0]
  rw [Jvm.Kit.i32_of_i64 (by omega) (by omega), e4]
theorem zG_mul {K : Int} {B : BK} (h : zI K B) (hp : 0 < zS (zv B 1) 6) : ∀ n, n ≤ 6 → zG B n * zS (zv B 1) 6 ≤ zv B 8 1 * zS (zv B 1) n := by
  intro n
  induction n with
  | zero =>
    intro _
    show (0 : Int) * _ ≤ _ * 0
    rw [Int.zero_mul, Int.mul_zero]
    exact Int.le_refl 0
  | succ n ih =>
    intro hn
    have i1 := ih (by omega)
    have h1 := Int.ediv_mul_le (zv B 8 1 * zv B 1 n) (b := zS (zv B 1) 6) (by omega)
    show (zG B n + zv B 8 1 * zv B 1 n / zS (zv B 1) 6) * zS (zv B 1) 6 ≤ zv B 8 1 * (zS (zv B 1) n + zv B 1 n)
    rw [Int.add_mul, Int.mul_add]
    omega
theorem zG_le {K : Int} {B : BK} (h : zI K B) (hp : 0 < zS (zv B 1) 6) {n : Nat} (hn : n ≤ 6) : 0 ≤ zG B n ∧ zG B n ≤ zv B 8 1 := by
  have hsu := h.2.2.2.2.2.2.1.2
  have h1 := zG_mul h hp n hn
  have h2 : zS (zv B 1) n ≤ zS (zv B 1) 6 := zS_mono (fun i hi => (h.1 i hi).1) hn
  have h3 : zv B 8 1 * zS (zv B 1) n ≤ zv B 8 1 * zS (zv B 1) 6 := Int.mul_le_mul_of_nonneg_left h2 hsu
  refine ⟨zS_nn (fun i hi => Int.ediv_nonneg (Int.mul_nonneg hsu (h.1 i (by omega)).1) (by omega)), ?_⟩
  exact Int.le_of_mul_le_mul_right (Int.le_trans h1 h3) hp
theorem zI_sh0 {K : Int} {B : BK} (h : zI K B) (hK : K ≤ 2 ^ 29) (ha : 1 ≤ f_X0_allShareDays B) : ∀ n, n ≤ 6 → zI (K + zG B n) (zSh B n 0) := by
  intro n
  induction n with
  | zero =>
    intro _
    rw [zSh_0]
    exact h.mono (by show K ≤ K + 0; omega)
  | succ n ih =>
    intro hn
    have i1 := ih (by omega)
    obtain ⟨q1, q2, q3, q4⟩ := z_dvI h hK (i := n) (by omega) ha
    have g1 := zG_le h q4 (n := n + 1) (by omega)
    have eG : zG B (n + 1) = zG B n + zv B 8 1 * zv B 1 n / zS (zv B 1) 6 := rfl
    have hsu := h.2.2.2.2.2.2.1.2
    have htt := zsh_tot h
    have h8 := h.2.2.2.2.2.2.2
    have s0 := zsh_nn h (i := n) (by omega)
    have s1 := zsh_le h (i := n) (by omega)
    have e4 : (B 0 n).toInt = zv B 0 n := rfl
    rw [← zSh_n]
    have k0 : zv (zSh B n 0) 0 n = zv B 0 n := by
      unfold zv
      rw [zSh_r0 B (Nat.le_refl n)]
    have b1 := i1.2.2.2.1 n (by omega)
    have b2 := i1.2.2.2.2.1 n (by omega)
    refine zI_set0 i1 (by omega) (zv B 8 1 * zv B 1 n / zS (zv B 1) 6) ?_ (by omega) (by omega) (by omega)
    rw [k0, Jvm.Kit.i32_add (by omega) (by omega), e4, q1]
theorem zI_sh1 {K : Int} {B : BK} (h : zI K (zSh B 6 0)) : ∀ n, n ≤ 6 → zI K (zSh B 6 n) := by
  intro n
  induction n with
  | zero => intro _; exact h
  | succ n ih =>
    intro hn
    rw [← zSh_m]
    exact zI_set1 (ih (by omega)) (by rw [Int32.toInt_zero]; omega) (by rw [Int32.toInt_zero]; omega)
theorem zdvI {K : Int} {B : BK} (h : zI K B) (hK : K ≤ 2 ^ 29) (ha : 1 ≤ f_X0_allShareDays B) : ∀ n, n ≤ 6 → (zdv B n).toInt = zG B n := by
  intro n
  induction n with
  | zero => intro _; exact Int32.toInt_zero
  | succ n ih =>
    intro hn
    obtain ⟨q1, q2, q3, q4⟩ := z_dvI h hK (i := n) (by omega) ha
    have g0 := zG_le h q4 (n := n) (by omega)
    have g1 := zG_le h q4 (n := n + 1) (by omega)
    have eG : zG B (n + 1) = zG B n + zv B 8 1 * zv B 1 n / zS (zv B 1) 6 := rfl
    have i1 := ih (by omega)
    have htt := zsh_tot h
    have h8 := h.2.2.2.2.2.2.2
    show (zdv B n + f_X0_dividendOf B n (f_X0_allShareDays B)).toInt = _
    rw [Jvm.Kit.i32_add (by omega) (by omega), i1, q1, eG]
theorem zI_shareOut {K : Int} {B : BK} (h : zI K B) (hK : K ≤ 2 ^ 29) : zI K (f_X0_shareOut B).2 := by
  unfold f_X0_shareOut
  dsimp only
  by_cases c : 1 ≤ f_X0_allShareDays B
  · rw [if_pos c, zso28]
    dsimp only
    obtain ⟨q1, q2, q3, q4⟩ := z_dvI h hK (i := 0) (by omega) c
    have g0 := zG_le h q4 (n := 6) (by omega)
    have e1 := zdvI h hK c 6 (by omega)
    have g1 := zI_sh1 (zI_sh0 h hK c 6 (by omega)) 6 (by omega)
    have e8 : (zSh B 6 6) 8 1 = B 8 1 := by rw [zSh_r8 B (by omega)]
    have ez : zv (zSh B 6 6) 8 1 = zv B 8 1 := by
      unfold zv
      rw [e8]
    have e4 : (B 8 1).toInt = zv B 8 1 := rfl
    have hsu := h.2.2.2.2.2.2.1.2
    have htt := zsh_tot h
    have h8 := h.2.2.2.2.2.2.2
    rw [e8]
    generalize zSh B 6 6 = C at *
    generalize zdv B 6 = d at *
    have g2 : zI K (uB C 8 1 (B 8 1 - d)) := zI_sur g1 (-zG B 6) (by rw [ez, Jvm.Kit.i32_sub (by omega) (by omega), e4, e1]; omega) (by omega) (by omega)
    exact zI_up g2 (by omega) (by omega) (by omega) (by omega)
  · rw [if_neg c]
    exact zI_up h (by omega) (by omega) (by omega) (by omega)
theorem zI_fee {K : Int} {B : BK} (h : zI K B) {x : Int32} (h0 : 0 ≤ x.toInt) (h1 : x.toInt ≤ 100) : zI K (uB B 7 0 x) := by
  obtain ⟨a1, a2, a3, a4, a5, a6, a7, a8⟩ := h
  refine ⟨fun j hj => ?_, fun j hj => ?_, fun j hj => ?_, fun j hj => ?_, fun j hj => ?_, ?_, ?_, ?_⟩
  · rw [zv_row B _ _ _ (by decide)]
    exact a1 j hj
  · rw [zv_row B _ _ _ (by decide)]
    exact a2 j hj
  · rw [zv_row B _ _ _ (by decide), zv_row B _ _ _ (by decide)]
    exact a3 j hj
  · rw [zbI_row B _ _ _ (by decide), zv_row B _ _ _ (by decide)]
    exact a4 j hj
  · rw [zbI_row B _ _ _ (by decide), zfI_row B _ _ _ (by decide), zv_row B _ _ _ (by decide), zv_row B _ _ _ (by decide)]
    exact a5 j hj
  · rw [zv_self]
    exact ⟨h0, h1⟩
  · rw [zv_row B _ _ _ (by decide), zv_row B _ _ _ (by decide)]
    exact a7
  · rw [zv_row B _ _ _ (by decide), zS_congr (f := zv (uB B 7 0 x) 0) (g := zv B 0) (fun j _ => zv_row B _ _ x (by decide))]
    exact a8
/-- the new books -/
theorem zI_new : zI 0 zB0 := by
  refine ⟨fun j hj => ?_, fun j hj => ?_, fun j hj => ?_, fun j hj => ?_, fun j hj => ?_, ?_, ?_, ?_⟩
  · revert j; decide
  · revert j; decide
  · revert j; decide
  · revert j; decide
  · revert j; decide
  · decide
  · decide
  · decide
end ZJ4
