/-! the union and the model side by side: what holds between two calls -/
section ZL
/-! saving -/
theorem zdo_1 (N : NK) : (f_X2_dropOldest N) 1 0 = N 1 1 ∧ (f_X2_dropOldest N) 1 1 = N 1 2 ∧ (f_X2_dropOldest N) 1 2 = N 1 3 ∧ (f_X2_dropOldest N) 1 3 = N 1 4 ∧ (f_X2_dropOldest N) 1 4 = N 1 5 ∧ (f_X2_dropOldest N) 1 5 = N 1 0 := ⟨rfl, rfl, rfl, rfl, rfl, rfl⟩
theorem zdo_0 (N : NK) : (f_X2_dropOldest N) 0 0 = 5 ∧ (f_X2_dropOldest N) 0 1 = N 0 1 ∧ (f_X2_dropOldest N) 2 = N 2 := ⟨rfl, rfl, rfl⟩
theorem zup_self {f : Nat → Nat} {k v : Nat} : va_up f k v k = v := if_pos rfl
theorem zup_ne {f : Nat → Nat} {k v i : Nat} (h : ¬ i = k) : va_up f k v i = f i := if_neg h
/-! the checks of the model -/
theorem zin_mem {x : Int32} : zrg x 0 5 ↔ zmem x := by
  refine ⟨fun h => ?_, fun h => ?_⟩
  · refine zmem_ok h.1 (fun q => h.2 ?_)
    rw [Int32.le_iff_toInt_le] at q
    rw [Int32.lt_iff_toInt_lt]
    have e6 : (6 : Int32).toInt = 6 := by decide
    have e5 : (5 : Int32).toInt = 5 := by decide
    omega
  · obtain ⟨q, hq, rfl⟩ := h
    exact ⟨nI_pos (by omega), (by show ¬ nI 5 < nI q; rw [nI_ltI (by omega) (by omega)]; omega)⟩
theorem zin_set {x : Int32} : zrg x 0 1 ↔ zset x := by
  refine ⟨fun h => ?_, fun h => ?_⟩
  · refine zset_ok h.1 (fun q => h.2 ?_)
    rw [Int32.le_iff_toInt_le] at q
    rw [Int32.lt_iff_toInt_lt]
    have e6 : (2 : Int32).toInt = 2 := by decide
    have e5 : (1 : Int32).toInt = 1 := by decide
    omega
  · obtain ⟨q, hq, rfl⟩ := h
    exact ⟨nI_pos (by omega), (by show ¬ nI 1 < nI q; rw [nI_ltI (by omega) (by omega)]; omega)⟩
theorem zmb_lt {x : Int32} (h : zmem x) : x.toNatClampNeg < 6 := by
  obtain ⟨q, hq, rfl⟩ := h
  rw [nI_clamp (by omega)]
  exact hq
theorem zset_lt {x : Int32} (h : zset x) : x.toNatClampNeg < 2 := by
  obtain ⟨q, hq, rfl⟩ := h
  rw [nI_clamp (by omega)]
  exact hq
theorem zrg_int {x lo hi : Int32} (h : zrg x lo hi) : lo.toInt ≤ x.toInt ∧ x.toInt ≤ hi.toInt := by
  obtain ⟨h1, h2⟩ := h
  rw [Int32.lt_iff_toInt_lt] at h1 h2
  omega
theorem zrg_am {x : Int32} (h : zrg x 1 9999) : zam x := zrg_int h
end ZL

/-! one call on both sides: the calls that change the books -/
section ZS1
theorem z10 : ¬ (1 : Int32) = 0 := by decide
theorem z20 : ¬ (2 : Int32) = 0 := by decide
theorem zK29 {K : Int} (h : K ≤ 2 ^ 29) : K ≤ 2 ^ 30 := by omega
theorem zr0 {K : Int} {B : BK} (h : zI K B) {mb : Nat} (hm : mb < 6) : ¬ B 3 mb < 0 := by
  have := (h.2.2.1 mb hm).1
  rw [Int32.lt_iff_toInt_lt, Int32.toInt_zero]
  unfold zv at this
  omega
theorem zd0 {K : Int} {B : BK} (h : zI K B) : ¬ f_X0_allShareDays B < 0 := by
  have := z_daysI h
  rw [Int64.lt_iff_toInt_lt, Int64.toInt_zero]
  omega
variable {K : Int} {r : Nat → Nat} {N : NK} {B X : BK} {Bs : Nat → BK} {M : BK} {Nm : Nat → Nat}
theorem zcanW {B : BK} (h : zv B 8 4 ≤ 9999) : f_X0_canEndWeek B = 0 ↔ B 8 4 = 9999 := by
  unfold f_X0_canEndWeek
  have e : (9999 : Int32).toInt = 9999 := by decide
  unfold zv at h
  by_cases c : 9999 ≤ B 8 4
  · rw [if_pos c]
    refine ⟨fun _ => Int32.toInt_inj.mp ?_, fun _ => rfl⟩
    rw [Int32.le_iff_toInt_le] at c
    omega
  · rw [if_neg c]
    refine ⟨fun q => absurd q z10, fun q => absurd ?_ c⟩
    rw [q]
    exact Int32.le_refl _
end ZS1

/-! the greatest loan, the weeks that are left -/
section ZS3
theorem zw_ge0 {B : BK} {mb : Nat} {am : Int32} : f_X0_whyNoLoan B mb am ≤ 0 ↔ f_X0_whyNoLoan B mb am = 0 := by
  rcases zw_vals B mb am with c | ⟨c, c2⟩
  · exact ⟨fun _ => c, fun _ => by rw [c]; decide⟩
  · exact ⟨fun q => absurd q c2, fun q => absurd q c⟩
/-- what is given for an amount is given for each lower one -/
theorem zw_mono {K : Int} {B : BK} (h : zI K B) {mb a b : Nat} (h1 : 1 ≤ a) (h2 : a ≤ b) (h3 : b ≤ 9999) (hb : f_X0_whyNoLoan B mb (nI b) = 0) : f_X0_whyNoLoan B mb (nI a) = 0 := by
  unfold f_X0_whyNoLoan f_X0_whyAbove at hb ⊢
  have hab : nI a ≤ nI b := nI_le h2 (by omega)
  have ta : (nI a).toInt = a := nI_toInt (by omega)
  have tb : (nI b).toInt = b := nI_toInt (by omega)
  have za : zam (nI a) := by
    unfold zam
    omega
  have zb : zam (nI b) := by
    unfold zam
    omega
  obtain ⟨fa, fa0, fa1⟩ := z_feeI h za
  obtain ⟨fb, fb0, fb1⟩ := z_feeI h zb
  have r1 := h.2.2.2.2.2.1.2
  by_cases c : f_X0_hasLoan B mb = 0
  · rw [if_pos c] at hb ⊢
    by_cases c2 : nI b ≤ f_X0_threefold B mb
    · rw [if_pos c2] at hb
      rw [if_pos (Int32.le_trans hab c2)]
      by_cases c3 : nI b ≤ f_X0_cover B mb
      · rw [if_pos c3] at hb
        rw [if_pos (Int32.le_trans hab c3)]
        by_cases c4 : nI b - f_X0_feeOf B (nI b) ≤ B 8 0
        · rw [if_pos]
          refine Int32.le_trans ?_ c4
          rw [ta] at fa fa0 fa1
          rw [tb] at fb fb0 fb1
          rw [Int32.le_iff_toInt_le, Jvm.Kit.i32_sub (by omega) (by omega), Jvm.Kit.i32_sub (by omega) (by omega), ta, tb, fa, fb]
          have e : (b : Int) * zv B 7 0 = (a : Int) * zv B 7 0 + ((b : Int) - a) * zv B 7 0 := by rw [← Int.add_mul]; congr 1; omega
          have e2 : ((b : Int) - a) * zv B 7 0 ≤ ((b : Int) - a) * 1000 := Int.mul_le_mul_of_nonneg_left (by omega) (by omega)
          omega
        · rw [if_neg c4] at hb
          exact absurd hb (by decide)
      · rw [if_neg c3] at hb
        exact absurd hb (by decide)
    · rw [if_neg c2] at hb
      exact absurd hb (by decide)
  · rw [if_neg c] at hb
    exact absurd hb (by decide)
/-- the greatest one told by all -/
theorem zall36 {B : BK} {mb : Nat} (hl : f_X0_hasLoan B mb = 0) : ∀ k q, q < k → ∃ g, g ≤ q ∧ f_X2_greatestByAll_36 B mb k q = nI g ∧ (g = 0 ∨ f_X0_whyNoLoan B mb (nI g) = 0) ∧ ∀ a, g < a → a ≤ q → ¬ f_X0_whyNoLoan B mb (nI a) = 0 := by
  intro k
  induction k with
  | zero => intro q hq; omega
  | succ k ih =>
    intro q hq
    unfold f_X2_greatestByAll_36
    by_cases c : q ≤ 0
    · rw [if_pos c]
      exact ⟨0, by omega, nI_0.symm, Or.inl rfl, fun a h1 h2 => by omega⟩
    · rw [if_neg c]
      have e : f_X0_whyNoLoan B mb (nI q) = f_X0_whyAbove B (f_X0_threefold B mb) (f_X0_cover B mb) (nI q) := by
        unfold f_X0_whyNoLoan
        rw [if_pos hl]
      rw [← e]
      by_cases c2 : f_X0_whyNoLoan B mb (nI q) = 0
      · rw [if_pos c2]
        exact ⟨q, Nat.le_refl q, rfl, Or.inr c2, fun a h1 h2 => by omega⟩
      · rw [if_neg c2]
        obtain ⟨g, g1, g2, g3, g4⟩ := ih (q - 1) (by omega)
        refine ⟨g, by omega, g2, g3, fun a h1 h2 => ?_⟩
        by_cases c3 : a = q
        · subst c3
          exact c2
        · exact g4 a h1 (by omega)
theorem zhalf {K : Int} {B : BK} (h : zI K B) {mb g : Nat} (g9 : g ≤ 9999) (g1 : g = 0 ∨ f_X0_whyNoLoan B mb (nI g) = 0) (g2 : ∀ a, g < a → a ≤ 9999 → ¬ f_X0_whyNoLoan B mb (nI a) = 0) : ∀ j k q, q ≤ g → g < q + 2 * 2 ^ j → j + 1 < k → f_X2_greatestByHalving_6 B mb k q (2 ^ j) = nI g := by
  have hP : ∀ a, 1 ≤ a → a ≤ g → f_X0_whyNoLoan B mb (nI a) = 0 := by
    intro a h1 h2
    rcases g1 with rfl | g1
    · omega
    · exact zw_mono h h1 h2 g9 g1
  have hend : ∀ k q, 0 < k → f_X2_greatestByHalving_6 B mb k q 0 = nI q := by
    intro k q hk
    obtain ⟨k, rfl⟩ : ∃ k', k = k' + 1 := ⟨k - 1, by omega⟩
    unfold f_X2_greatestByHalving_6
    rw [if_pos (Nat.le_refl 0)]
  intro j
  induction j with
  | zero =>
    intro k q h1 h2 hk
    obtain ⟨k, rfl⟩ : ∃ k', k = k' + 1 := ⟨k - 1, by omega⟩
    unfold f_X2_greatestByHalving_6
    rw [Nat.pow_zero] at h2 ⊢
    rw [if_neg (by omega)]
    have e : 1 / 2 = 0 := rfl
    rw [e]
    by_cases c : 9999 < q + 1
    · rw [if_pos c, hend k q (by omega)]
      congr 1
      omega
    · rw [if_neg c]
      by_cases c2 : f_X0_whyNoLoan B mb (nI (q + 1)) = 0
      · rw [if_pos c2, hend k _ (by omega)]
        have : ¬ g < q + 1 := fun z => g2 (q + 1) z (by omega) c2
        congr 1
        omega
      · rw [if_neg c2, hend k q (by omega)]
        have : ¬ q + 1 ≤ g := fun z => c2 (hP (q + 1) (by omega) z)
        congr 1
        omega
  | succ j ih =>
    intro k q h1 h2 hk
    obtain ⟨k, rfl⟩ : ∃ k', k = k' + 1 := ⟨k - 1, by omega⟩
    unfold f_X2_greatestByHalving_6
    have hp : 0 < 2 ^ j := Nat.two_pow_pos j
    have e1 : 2 ^ (j + 1) = 2 * 2 ^ j := by rw [Nat.pow_succ]; omega
    have e : 2 ^ (j + 1) / 2 = 2 ^ j := by rw [e1]; omega
    rw [e, e1]
    rw [e1] at h2
    generalize 2 ^ j = w at *
    rw [if_neg (by omega)]
    by_cases c : 9999 < q + 2 * w
    · rw [if_pos c]
      exact ih k q h1 (by omega) (by omega)
    · rw [if_neg c]
      by_cases c2 : f_X0_whyNoLoan B mb (nI (q + 2 * w)) = 0
      · rw [if_pos c2]
        have : ¬ g < q + 2 * w := fun z => g2 _ z (by omega) c2
        exact ih k _ (by omega) (by omega) (by omega)
      · rw [if_neg c2]
        have : ¬ q + 2 * w ≤ g := fun z => c2 (hP _ (by omega) z)
        exact ih k q h1 (by omega) (by omega)
theorem zgreat {K : Int} {B : BK} (h : zI K B) (mb : Nat) : f_X2_greatestByHalving B mb = f_X2_greatestByAll B mb := by
  unfold f_X2_greatestByHalving f_X2_greatestByAll
  by_cases hl : f_X0_hasLoan B mb = 0
  · rw [if_pos hl]
    obtain ⟨g, g1, g2, g3, g4⟩ := zall36 (mb := mb) hl 10001 9999 (by omega)
    rw [g2]
    exact zhalf h g1 g3 g4 13 8193 0 (by omega) (by omega) (by omega)
  · rw [if_neg hl]
    have no : ∀ a, ¬ f_X0_whyNoLoan B mb (nI a) = 0 := by
      intro a
      unfold f_X0_whyNoLoan
      rw [if_neg hl]
      decide
    have := zhalf h (mb := mb) (g := 0) (by omega) (Or.inl rfl) (fun a _ _ => no a) 13 8193 0 (by omega) (by omega) (by omega)
    exact this
/-! how long a loan lasts -/
theorem zwk9 {B : BK} {mb : Nat} (hp : 1 ≤ zv B 4 mb ∧ zv B 4 mb ≤ 9999) : ∀ (k : Nat) (x : Int32) (q : Nat), 0 ≤ x.toInt → q + x.toInt ≤ 9999 → x.toInt < k → (f_X0_weeksByWeeks_9 B mb k x q).toInt = q + (x.toInt + zv B 4 mb - 1) / zv B 4 mb := by
  intro k
  have e4 : (B 4 mb).toInt = zv B 4 mb := rfl
  induction k with
  | zero => intro x q h0 h1 h2; omega
  | succ k ih =>
    intro x q h0 h1 h2
    unfold f_X0_weeksByWeeks_9
    by_cases c : x ≤ 0
    · rw [if_pos c, nI_toInt (by omega)]
      rw [Int32.le_iff_toInt_le, Int32.toInt_zero] at c
      have : (x.toInt + zv B 4 mb - 1) / zv B 4 mb = 0 := Int.ediv_eq_zero_of_lt (by omega) (by omega)
      omega
    · rw [if_neg c]
      rw [Int32.le_iff_toInt_le, Int32.toInt_zero] at c
      rw [if_neg (by omega)]
      have ez := z_zmin x (B 4 mb)
      have e5 : (x - zmin x (B 4 mb)).toInt = x.toInt - min x.toInt (zv B 4 mb) := by
        rw [Jvm.Kit.i32_sub (by omega) (by omega), ez, e4]
      rw [ih (x - zmin x (B 4 mb)) (q + 1) (by omega) (by omega) (by omega), e5]
      generalize x.toInt = y at *
      generalize zv B 4 mb = p at *
      by_cases c2 : y ≤ p
      · have a1 : (y - min y p + p - 1) / p = 0 := Int.ediv_eq_zero_of_lt (by omega) (by omega)
        have a2 : (y + p - 1) / p = (y - 1) / p + 1 := by
          have := Int.add_mul_ediv_right (y - 1) 1 (c := p) (by omega)
          rw [Int.one_mul] at this
          rw [← this]
          congr 1
          omega
        have a3 : (y - 1) / p = 0 := Int.ediv_eq_zero_of_lt (by omega) (by omega)
        omega
      · have a2 : (y + p - 1) / p = (y - p + p - 1) / p + 1 := by
          have := Int.add_mul_ediv_right (y - p + p - 1) 1 (c := p) (by omega)
          rw [Int.one_mul] at this
          rw [← this]
          congr 1
          omega
        have a3 : y - min y p = y - p := by omega
        rw [a3]
        omega
end ZS3

/-! the fewest guarantors: what is asked, and that all three ways tell it -/
section ZFW
/-- of the members in S: how much together, how many -/
def zSu (fr : Nat → Int) (S : Nat → Bool) (n : Nat) : Int := zS (fun i => if S i = true then fr i else 0) n
def zCn (S : Nat → Bool) : Nat → Nat
  | 0 => 0
  | n + 1 => zCn S n + (if S n = true then 1 else 0)
/-- S is enough for a cover c and an amount am -/
def zQf (fr : Nat → Int) (mb : Nat) (c am : Int) (S : Nat → Bool) : Prop := S mb = false ∧ am ≤ c + zSu fr S 6
/-- k: how many are fewest; -1 if all are too few -/
def zFw (fr : Nat → Int) (mb : Nat) (c am : Int) (x : Int32) : Prop :=
  (x = -1 ∧ ∀ S, ¬ zQf fr mb c am S) ∨ ∃ k, k ≤ 6 ∧ x = nI k ∧ (∃ S, zQf fr mb c am S ∧ zCn S 6 = k) ∧ ∀ S, zQf fr mb c am S → k ≤ zCn S 6
theorem zFw.one {fr : Nat → Int} {mb : Nat} {c am : Int} {x y : Int32} (h1 : zFw fr mb c am x) (h2 : zFw fr mb c am y) : x = y := by
  rcases h1 with ⟨rfl, a⟩ | ⟨k, hk, rfl, ⟨S, s1, s2⟩, a⟩
  · rcases h2 with ⟨rfl, b⟩ | ⟨k', hk', rfl, ⟨S', t1, t2⟩, b⟩
    · rfl
    · exact absurd t1 (a S')
  · rcases h2 with ⟨rfl, b⟩ | ⟨k', hk', rfl, ⟨S', t1, t2⟩, b⟩
    · exact absurd s1 (b S)
    · have q1 := a S' t1
      have q2 := b S s1
      congr 1
      omega
theorem zCn_le (S : Nat → Bool) : ∀ n, zCn S n ≤ n
  | 0 => Nat.le_refl 0
  | n + 1 => by
    have := zCn_le S n
    show zCn S n + (if S n = true then 1 else 0) ≤ n + 1
    by_cases c : S n = true
    · rw [if_pos c]; omega
    · rw [if_neg c]; omega
theorem zSu_c (t : Int) (S : Nat → Bool) : ∀ n, zS (fun i => if S i = true then t else 0) n = (zCn S n : Int) * t
  | 0 => by
    show (0 : Int) = ((0 : Nat) : Int) * t
    rw [Int.natCast_zero, Int.zero_mul]
  | n + 1 => by
    show zS _ n + (if S n = true then t else 0) = ((zCn S n + (if S n = true then 1 else 0) : Nat) : Int) * t
    rw [zSu_c t S n]
    by_cases c : S n = true
    · rw [if_pos c, if_pos c, Int.natCast_add, Int.add_mul]
      omega
    · rw [if_neg c, if_neg c, Int.add_zero, Nat.add_zero]
/-- those of whom the most is free are at least as good as any as many -/
theorem zexch {fr : Nat → Int} {A S : Nat → Bool} {t : Int} (ht : 0 ≤ t) (h : ∀ i, i < 6 → (A i = true → t ≤ fr i) ∧ (S i = true → A i = false → fr i ≤ t)) (hc : zCn S 6 ≤ zCn A 6) : zSu fr S 6 ≤ zSu fr A 6 := by
  have e : ∀ n, n ≤ 6 → zSu fr S n - zSu fr A n ≤ zS (fun i => if S i = true then t else 0) n - zS (fun i => if A i = true then t else 0) n := by
    intro n
    induction n with
    | zero => intro _; exact Int.le_refl _
    | succ n ih =>
      intro hn
      have i1 := ih (by omega)
      obtain ⟨h1, h2⟩ := h n (by omega)
      have s1 : zSu fr S (n + 1) = zSu fr S n + (if S n = true then fr n else 0) := rfl
      have s2 : zSu fr A (n + 1) = zSu fr A n + (if A n = true then fr n else 0) := rfl
      have s3 : zS (fun i => if S i = true then t else 0) (n + 1) = zS (fun i => if S i = true then t else 0) n + (if S n = true then t else 0) := rfl
      have s4 : zS (fun i => if A i = true then t else 0) (n + 1) = zS (fun i => if A i = true then t else 0) n + (if A n = true then t else 0) := rfl
      rw [s1, s2, s3, s4]
      cases c1 : S n with
      | true =>
        cases c2 : A n with
        | true => simp only [if_true]; omega
        | false =>
          have := h2 c1 c2
          simp only [if_true, Bool.false_eq_true, if_false]
          omega
      | false =>
        cases c2 : A n with
        | true =>
          have := h1 c2
          simp only [if_true, Bool.false_eq_true, if_false]
          omega
        | false => simp only [Bool.false_eq_true, if_false]; omega
  have e6 := e 6 (Nat.le_refl 6)
  rw [zSu_c, zSu_c] at e6
  have : (zCn S 6 : Int) * t ≤ (zCn A 6 : Int) * t := Int.mul_le_mul_of_nonneg_right (by omega) ht
  omega
/-- one more -/
def zad1 (A : Nat → Bool) (j : Nat) : Nat → Bool := fun i => if i = j then true else A i
theorem zSu_ad {fr : Nat → Int} {A : Nat → Bool} {j : Nat} (hj : j < 6) (hA : A j = false) : zSu fr (zad1 A j) 6 = zSu fr A 6 + fr j := by
  unfold zSu
  rw [zS_up (f := fun i => if A i = true then fr i else 0) (g := fun i => if (zad1 A j) i = true then fr i else 0) (j := j) (fun i hi => by unfold zad1; rw [if_neg hi]) hj]
  unfold zad1
  rw [if_pos rfl, if_pos rfl, hA, if_neg (by decide)]
  omega
theorem zCn_ad {A : Nat → Bool} {j : Nat} (hA : A j = false) : ∀ n, zCn (zad1 A j) n = zCn A n + (if j < n then 1 else 0)
  | 0 => by
    rw [if_neg (Nat.not_lt_zero j)]
    rfl
  | n + 1 => by
    have := zCn_ad hA n
    show zCn (zad1 A j) n + (if (zad1 A j) n = true then 1 else 0) = zCn A n + (if A n = true then 1 else 0) + (if j < n + 1 then 1 else 0)
    rw [this]
    unfold zad1
    by_cases c : n = j
    · subst c
      rw [if_pos rfl, if_pos rfl, hA, if_neg (Nat.lt_irrefl n), if_neg (by decide), if_pos (Nat.lt_succ_self n)]
    · rw [if_neg c]
      by_cases c2 : j < n
      · rw [if_pos c2, if_pos (show j < n + 1 by omega)]
        omega
      · rw [if_neg c2, if_neg (show ¬ j < n + 1 by omega)]
        omega
/-- what holds on the way of the greatest ones: A are taken, what is free of each is at least t, of the others at most t -/
def zGr (fr : Nat → Int) (mb : Nat) (c am : Int) (A : Nat → Bool) (cv : Int) (q : Nat) : Prop :=
  A mb = false ∧ cv = c + zSu fr A 6 ∧ zCn A 6 = q ∧ (∃ t, 0 ≤ t ∧ ∀ i, i < 6 → (A i = true → t ≤ fr i) ∧ (A i = false → ¬ i = mb → fr i ≤ t)) ∧ ∀ S, zQf fr mb c am S → q ≤ zCn S 6
theorem zGr.le {fr : Nat → Int} {mb : Nat} {c am : Int} {A : Nat → Bool} {cv : Int} {q : Nat} (h : zGr fr mb c am A cv q) {S : Nat → Bool} (hs : S mb = false) (hc : zCn S 6 ≤ q) : c + zSu fr S 6 ≤ cv := by
  obtain ⟨h1, h2, h3, ⟨t, t0, ht⟩, h5⟩ := h
  have := zexch (fr := fr) (A := A) (S := S) t0 (fun i hi => ⟨(ht i hi).1, fun s a => (ht i hi).2 a (fun e => by rw [e, hs] at s; cases s)⟩) (by omega)
  omega
theorem zGr.done {fr : Nat → Int} {mb : Nat} {c am : Int} {A : Nat → Bool} {cv : Int} {q : Nat} (h : zGr fr mb c am A cv q) (hc : am ≤ cv) : zFw fr mb c am (nI q) := by
  obtain ⟨h1, h2, h3, h4, h5⟩ := h
  refine Or.inr ⟨q, ?_, rfl, ⟨A, ⟨h1, by omega⟩, h3⟩, h5⟩
  have := zCn_le A 6
  omega
/-- all that is free is taken, and it is too little -/
theorem zGr.none {fr : Nat → Int} {mb : Nat} {c am : Int} {A : Nat → Bool} {cv : Int} {q : Nat} (h : zGr fr mb c am A cv q) (hc : cv < am) (h0 : ∀ i, i < 6 → 0 ≤ fr i) (hn : ∀ i, i < 6 → A i = false → ¬ i = mb → fr i ≤ 0) : zFw fr mb c am (-1) := by
  refine Or.inl ⟨rfl, fun S hS => ?_⟩
  obtain ⟨s1, s2⟩ := hS
  have : zSu fr S 6 ≤ zSu fr A 6 := by
    refine zS_le (fun i hi => ?_)
    have g0 := h0 i hi
    cases c1 : S i with
    | false =>
      rw [if_neg (by decide)]
      by_cases c2 : A i = true
      · rw [if_pos c2]; exact g0
      · rw [if_neg c2]; exact Int.le_refl 0
    | true =>
      rw [if_pos rfl]
      cases c2 : A i with
      | true => rw [if_pos rfl]; exact Int.le_refl _
      | false =>
        rw [if_neg (by decide)]
        exact hn i hi c2 (fun e => by rw [e, s1] at c1; cases c1)
  have h2 := h.2.1
  omega
theorem zGr.next {fr : Nat → Int} {mb : Nat} {c am : Int} {A : Nat → Bool} {cv : Int} {q : Nat} (h : zGr fr mb c am A cv q) (hc : cv < am) {j : Nat} (hj : j < 6) (hA : A j = false) (hm : ¬ j = mb) (h0 : 0 ≤ fr j) (hx : ∀ i, i < 6 → A i = false → ¬ i = mb → fr i ≤ fr j) : zGr fr mb c am (zad1 A j) (cv + fr j) (q + 1) := by
  have hle := fun (S : Nat → Bool) (hs : S mb = false) (hcn : zCn S 6 ≤ q) => h.le hs hcn
  obtain ⟨h1, h2, h3, ⟨t, t0, ht⟩, h5⟩ := h
  refine ⟨?_, ?_, ?_, ⟨fr j, h0, fun i hi => ⟨fun a => ?_, fun a hi2 => ?_⟩⟩, fun S hS => ?_⟩
  · unfold zad1
    rw [if_neg (fun e => hm e.symm)]
    exact h1
  · rw [zSu_ad hj hA]
    omega
  · rw [zCn_ad hA 6, if_pos hj]
    omega
  · unfold zad1 at a
    by_cases c : i = j
    · subst c
      exact Int.le_refl _
    · rw [if_neg c] at a
      have g1 := (ht i hi).1 a
      have g2 := (ht j hj).2 hA hm
      omega
  · unfold zad1 at a
    by_cases c : i = j
    · rw [if_pos c] at a
      cases a
    · rw [if_neg c] at a
      exact hx i hi a hi2
  · have g1 := h5 S hS
    by_cases c2 : zCn S 6 ≤ q
    · have := hle S hS.1 c2
      have := hS.2
      omega
    · omega
theorem zGr.start {fr : Nat → Int} {mb : Nat} {c am : Int} {t : Int} (t0 : 0 ≤ t) (ht : ∀ i, i < 6 → fr i ≤ t) : zGr fr mb c am (fun _ => false) c 0 := by
  have e1 : zSu fr (fun _ => false) 6 = 0 := by
    have q : ∀ n, zSu fr (fun _ => false) n = 0 := by
      intro n
      induction n with
      | zero => rfl
      | succ n ih =>
        show zSu fr (fun _ => false) n + (if false = true then fr n else 0) = 0
        rw [ih, if_neg (by decide)]
        rfl
    exact q 6
  have e2 : zCn (fun _ => false) 6 = 0 := by decide
  exact ⟨rfl, by omega, e2, ⟨t, t0, fun i hi => ⟨fun a => absurd (show false = true from a) Bool.false_ne_true, fun _ _ => ht i hi⟩⟩, fun S _ => Nat.zero_le _⟩
end ZFW

/-! the three ways to the fewest guarantors -/
section ZFX
def zub (u i : Nat) : Nat := u / 2 ^ i % 2
theorem zub_01 (u i : Nat) : zub u i = 0 ∨ zub u i = 1 := by
  unfold zub
  omega
theorem zbt_or : ∀ u, u < 64 → ∀ n, n < 6 → (nI u ||| ((1 : Int32) <<< ((nI n) &&& 31))) = nI (u ||| 2 ^ n) ∧ u ||| 2 ^ n < 64 := by decide +kernel
theorem zbt_one : ∀ n, n < 6 → ((1 : Int32) <<< ((nI n) &&& 31)) = nI (2 ^ n) ∧ 2 ^ n < 64 := by decide +kernel
theorem zbt_o1 : ∀ n, n < 6 → ∀ i, i < 6 → zub (2 ^ n) i = if i = n then 1 else 0 := by decide +kernel
theorem zbt_v : ∀ u, u < 64 → ∀ i, i < 6 → (((nI u : Int32) >>> ((nI i) &&& 31)) &&& 1) = nI (zub u i) := by decide +kernel
theorem zbt_o : ∀ u, u < 64 → ∀ n, n < 6 → ∀ i, i < 6 → zub (u ||| 2 ^ n) i = if i = n then 1 else zub u i := by decide +kernel
theorem zbt_0 {u i : Nat} (hu : u < 64) (hi : i < 6) : (((nI u : Int32) >>> ((nI i) &&& 31)) &&& 1) = 0 ↔ zub u i = 0 := by
  rw [zbt_v u hu i hi]
  rcases zub_01 u i with e | e
  · rw [e]
    exact ⟨fun _ => rfl, fun _ => nI_0⟩
  · rw [e]
    exact ⟨fun q => absurd q (by decide), fun q => absurd q (by decide)⟩
theorem zbt_1 {u i : Nat} (hu : u < 64) (hi : i < 6) : (((nI u : Int32) >>> ((nI i) &&& 31)) &&& 1) = 1 ↔ zub u i = 1 := by
  rw [zbt_v u hu i hi]
  rcases zub_01 u i with e | e
  · rw [e]
    exact ⟨fun q => absurd q (by decide), fun q => absurd q (by decide)⟩
  · rw [e]
    exact ⟨fun _ => rfl, fun _ => rfl⟩
theorem zm1 {j : Nat} (hj : j < 2 ^ 31) : ¬ nI j = -1 := by
  intro e
  have h := congrArg Int32.toInt e
  rw [nI_toInt hj, show (-1 : Int32).toInt = -1 by decide] at h
  omega
theorem zleI {x y : Int32} : x ≤ y ↔ x.toInt ≤ y.toInt := Int32.le_iff_toInt_le
theorem zltI {x y : Int32} : x < y ↔ x.toInt < y.toInt := Int32.lt_iff_toInt_lt
theorem zfill (X B : BK) : ∀ n, (∀ i, i < n → (f_X2_fillFree_2 X B X n) 1 i = f_X0_freeShares B i) ∧ ∀ k, ¬ k = 1 → (f_X2_fillFree_2 X B X n) k = X k := by
  intro n
  induction n with
  | zero => exact ⟨fun i hi => absurd hi (Nat.not_lt_zero i), fun _ _ => rfl⟩
  | succ n ih =>
    obtain ⟨i1, i2⟩ := ih
    unfold f_X2_fillFree_2
    dsimp only
    refine ⟨fun i hi => ?_, fun k hk => ?_⟩
    · by_cases c : i = n
      · subst c
        rw [uB_self]
      · rw [uB_ne _ _ (fun e => c e.2)]
        exact i1 i (by omega)
    · rw [uB_row _ _ _ hk]
      exact i2 k hk
theorem zfree4 {X : BK} {u : Nat} (hu : u < 64) : ∀ n, n ≤ 6 → (f_X2_freest_4 X (nI u) (-1) n = -1 ∧ ∀ i, i < n → zub u i = 1) ∨ ∃ j, j < n ∧ f_X2_freest_4 X (nI u) (-1) n = nI j ∧ zub u j = 0 ∧ ∀ i, i < n → zub u i = 0 → (X 1 i).toInt ≤ (X 1 j).toInt := by
  intro n
  induction n with
  | zero => intro _; exact Or.inl ⟨rfl, fun i hi => absurd hi (Nat.not_lt_zero i)⟩
  | succ n ih =>
    intro hn
    unfold f_X2_freest_4
    dsimp only
    rcases zub_01 u n with e | e
    · rw [if_pos ((zbt_0 hu (by omega)).mpr e)]
      right
      rcases ih (by omega) with ⟨e1, e2⟩ | ⟨j, hj, e1, e2, e3⟩
      · rw [if_pos e1]
        refine ⟨n, by omega, rfl, e, fun i hi h0 => ?_⟩
        by_cases c : i = n
        · subst c
          exact Int.le_refl _
        · have := e2 i (by omega)
          omega
      · rw [e1, if_neg (zm1 (by omega)), nI_clamp (by omega)]
        by_cases c : X 1 n ≤ X 1 j
        · rw [if_pos c]
          refine ⟨j, by omega, rfl, e2, fun i hi h0 => ?_⟩
          by_cases c2 : i = n
          · subst c2
            exact zleI.mp c
          · exact e3 i (by omega) h0
        · rw [if_neg c]
          refine ⟨n, by omega, rfl, e, fun i hi h0 => ?_⟩
          by_cases c2 : i = n
          · subst c2
            exact Int.le_refl _
          · have := e3 i (by omega) h0
            rw [zleI] at c
            omega
    · rw [if_neg (fun q => by have := (zbt_0 hu (by omega)).mp q; omega)]
      rcases ih (by omega) with ⟨e1, e2⟩ | ⟨j, hj, e1, e2, e3⟩
      · left
        refine ⟨e1, fun i hi => ?_⟩
        by_cases c : i = n
        · subst c
          exact e
        · exact e2 i (by omega)
      · right
        refine ⟨j, by omega, e1, e2, fun i hi h0 => ?_⟩
        by_cases c : i = n
        · subst c
          omega
        · exact e3 i (by omega) h0
theorem zSu_b {fr : Nat → Int} (h0 : ∀ i, i < 6 → 0 ≤ fr i) (A : Nat → Bool) : 0 ≤ zSu fr A 6 ∧ zSu fr A 6 ≤ zS fr 6 := by
  refine ⟨zS_nn (fun i hi => ?_), zS_le (fun i hi => ?_)⟩
  · have := h0 i hi
    by_cases c : A i = true
    · rw [if_pos c]; exact this
    · rw [if_neg c]; exact Int.le_refl 0
  · have := h0 i hi
    by_cases c : A i = true
    · rw [if_pos c]; exact Int.le_refl _
    · rw [if_neg c]; exact this
theorem zCn_lt {A : Nat → Bool} {mb : Nat} (hm : mb < 6) (h : A mb = false) : zCn A 6 < 6 := by
  have h1 := zCn_ad h 6
  rw [if_pos hm] at h1
  have := zCn_le (zad1 A mb) 6
  omega
theorem zgr21 {X B : BK} {mb : Nat} (hm : mb < 6) {am : Int32} {fr : Nat → Int} {c : Int} (h0 : ∀ i, i < 6 → 0 ≤ fr i) (hc : 0 ≤ c) (hb : c + zS fr 6 < 2 ^ 31) {X1 : BK} (hX : ∀ i, i < 6 → (X1 1 i).toInt = fr i) :
    ∀ k q (cv : Int32) (u : Nat) (A : Nat → Bool), u < 64 → (∀ i, i < 6 → (zub u i = 0 ↔ (A i = false ∧ ¬ i = mb))) → zGr fr mb c am.toInt A cv.toInt q → q + k = 8 → zFw fr mb c am.toInt (f_X2_fewestByGreatest_21 X B mb am k cv (nI u) q X1).1 ∧ (f_X2_fewestByGreatest_21 X B mb am k cv (nI u) q X1).2 = X1 := by
  intro k
  induction k with
  | zero =>
    intro q cv u A hu hA hg hq
    have h3 := hg.2.2.1
    have := zCn_le A 6
    omega
  | succ k ih =>
    intro q cv u A hu hA hg hq
    unfold f_X2_fewestByGreatest_21
    have h3 := hg.2.2.1
    have h4 := zCn_lt hm hg.1
    rw [if_neg (by omega)]
    by_cases c1 : cv < am
    · rw [if_pos c1]
      rw [zltI] at c1
      rcases zfree4 (X := X1) hu 6 (by omega) with ⟨e1, e2⟩ | ⟨j, hj, e1, e2, e3⟩
      · have e1' : f_X2_freest X1 (nI u) = -1 := e1
        rw [if_pos e1']
        refine ⟨hg.none c1 h0 (fun i hi a b => ?_), rfl⟩
        have g1 := e2 i hi
        have g2 := (hA i hi).mpr ⟨a, b⟩
        omega
      · have e1' : f_X2_freest X1 (nI u) = nI j := e1
        rw [e1', if_neg (zm1 (by omega)), nI_clamp (by omega), (zbt_or u hu j hj).1]
        obtain ⟨a1, a2⟩ := (hA j hj).mp e2
        have g1 := hg.next c1 hj a1 a2 (h0 j hj) (fun i hi b1 b2 => by
          have := e3 i hi ((hA i hi).mpr ⟨b1, b2⟩)
          rw [hX i hi, hX j hj] at this
          exact this)
        have eX := hX j hj
        have b1 := zSu_b h0 (zad1 A j)
        have g2 := g1.2.1
        have b3 := zSu_b h0 A
        have b4 := hg.2.1
        have g3 : (cv + X1 1 j).toInt = cv.toInt + fr j := by
          rw [Jvm.Kit.i32_add (by omega) (by omega), eX]
        refine ih (q + 1) (cv + X1 1 j) (u ||| 2 ^ j) (zad1 A j) (zbt_or u hu j hj).2 (fun i hi => ?_) (by rw [g3]; exact g1) (by omega)
        rw [zbt_o u hu j hj i hi]
        unfold zad1
        by_cases c2 : i = j
        · rw [if_pos c2, if_pos c2]
          exact ⟨fun q => absurd q (by decide), fun q => by cases q.1⟩
        · rw [if_neg c2, if_neg c2]
          exact hA i hi
    · rw [if_neg c1]
      rw [zltI] at c1
      exact ⟨hg.done (by omega), rfl⟩
/-! all sets -/
def zmk (m : Nat) : Nat → Bool := fun i => decide (zub m i = 1)
theorem zmk_ex (S : Nat → Bool) : ∃ m, m < 64 ∧ ∀ i, i < 6 → zmk m i = S i := by
  have h : ∀ b0 b1 b2 b3 b4 b5 : Bool, b0.toNat + 2 * b1.toNat + 4 * b2.toNat + 8 * b3.toNat + 16 * b4.toNat + 32 * b5.toNat < 64 ∧ zmk (b0.toNat + 2 * b1.toNat + 4 * b2.toNat + 8 * b3.toNat + 16 * b4.toNat + 32 * b5.toNat) 0 = b0 ∧ zmk (b0.toNat + 2 * b1.toNat + 4 * b2.toNat + 8 * b3.toNat + 16 * b4.toNat + 32 * b5.toNat) 1 = b1 ∧ zmk (b0.toNat + 2 * b1.toNat + 4 * b2.toNat + 8 * b3.toNat + 16 * b4.toNat + 32 * b5.toNat) 2 = b2 ∧ zmk (b0.toNat + 2 * b1.toNat + 4 * b2.toNat + 8 * b3.toNat + 16 * b4.toNat + 32 * b5.toNat) 3 = b3 ∧ zmk (b0.toNat + 2 * b1.toNat + 4 * b2.toNat + 8 * b3.toNat + 16 * b4.toNat + 32 * b5.toNat) 4 = b4 ∧ zmk (b0.toNat + 2 * b1.toNat + 4 * b2.toNat + 8 * b3.toNat + 16 * b4.toNat + 32 * b5.toNat) 5 = b5 := by decide +kernel
  obtain ⟨hm, h0, h1, h2, h3, h4, h5⟩ := h (S 0) (S 1) (S 2) (S 3) (S 4) (S 5)
  refine ⟨_, hm, fun i hi => ?_⟩
  rcases (show i = 0 ∨ i = 1 ∨ i = 2 ∨ i = 3 ∨ i = 4 ∨ i = 5 by omega) with rfl | rfl | rfl | rfl | rfl | rfl <;> assumption
theorem zbc : ∀ m, m < 64 → f_J6_bitCount_0f7a4 (nI m) = nI (zCn (zmk m) 6) := by decide +kernel
theorem zCn_congr {S T : Nat → Bool} : ∀ {n : Nat}, (∀ i, i < n → S i = T i) → zCn S n = zCn T n
  | 0, _ => rfl
  | n + 1, h => by
    show zCn S n + (if S n = true then 1 else 0) = zCn T n + (if T n = true then 1 else 0)
    rw [zCn_congr (fun i hi => h i (by omega)), h n (by omega)]
theorem zSu_congr {fr : Nat → Int} {S T : Nat → Bool} {n : Nat} (h : ∀ i, i < n → S i = T i) : zSu fr S n = zSu fr T n := zS_congr (fun i hi => by rw [h i hi])
theorem zfo {X1 : BK} {fr : Nat → Int} (h0 : ∀ i, i < 6 → 0 ≤ fr i) (hb : zS fr 6 < 2 ^ 31) (hX : ∀ i, i < 6 → (X1 1 i).toInt = fr i) {m : Nat} (hm : m < 64) : ∀ n, n ≤ 6 → (f_X2_freeOf_4 X1 (nI m) 0 n).toInt = zSu fr (zmk m) n ∧ 0 ≤ zSu fr (zmk m) n ∧ zSu fr (zmk m) n ≤ zS fr n := by
  intro n
  induction n with
  | zero => intro _; exact ⟨Int32.toInt_zero, Int.le_refl 0, Int.le_refl 0⟩
  | succ n ih =>
    intro hn
    obtain ⟨i1, i2, i3⟩ := ih (by omega)
    have g1 : zS fr (n + 1) ≤ zS fr 6 := zS_mono h0 hn
    have g2 := h0 n (by omega)
    have g3 := hX n (by omega)
    have s1 : zSu fr (zmk m) (n + 1) = zSu fr (zmk m) n + (if zmk m n = true then fr n else 0) := rfl
    have s2 : zS fr (n + 1) = zS fr n + fr n := rfl
    unfold f_X2_freeOf_4
    dsimp only
    rw [s1]
    rcases zub_01 m n with e | e
    · rw [if_neg (fun q => by have := (zbt_1 hm (by omega)).mp q; omega), if_neg (by unfold zmk; rw [e]; decide)]
      omega
    · rw [if_pos ((zbt_1 hm (by omega)).mpr e), if_pos (by unfold zmk; rw [e]; decide), Jvm.Kit.i32_add (by omega) (by omega)]
      omega
theorem zset19 {X B : BK} {mb : Nat} (hm : mb < 6) {am : Int32} {fr : Nat → Int} (h0 : ∀ i, i < 6 → 0 ≤ fr i) (hc : 0 ≤ (f_X0_cover B mb).toInt) (hb : (f_X0_cover B mb).toInt + zS fr 6 < 2 ^ 31) {X1 : BK} (hX : ∀ i, i < 6 → (X1 1 i).toInt = fr i) :
    ∀ n, n ≤ 64 → (f_X2_fewestBySets_19 X B mb am X1 (-1) n = -1 ∧ ∀ m, m < n → ¬ zQf fr mb (f_X0_cover B mb).toInt am.toInt (zmk m)) ∨
      ∃ k, k ≤ 6 ∧ f_X2_fewestBySets_19 X B mb am X1 (-1) n = nI k ∧ (∃ m, m < n ∧ zQf fr mb (f_X0_cover B mb).toInt am.toInt (zmk m) ∧ zCn (zmk m) 6 = k) ∧ ∀ m, m < n → zQf fr mb (f_X0_cover B mb).toInt am.toInt (zmk m) → k ≤ zCn (zmk m) 6 := by
  intro n
  induction n with
  | zero => intro _; exact Or.inl ⟨rfl, fun m hm => absurd hm (Nat.not_lt_zero m)⟩
  | succ n ih =>
    intro hn
    have hs := zSu_b h0 (zmk n)
    obtain ⟨f1, f2, f3⟩ := zfo (X1 := X1) h0 (by omega) hX (m := n) (by omega) 6 (by omega)
    have f1' : (f_X2_freeOf X1 (nI n)).toInt = zSu fr (zmk n) 6 := f1
    have hlt : (f_X0_cover B mb + f_X2_freeOf X1 (nI n) < am) ↔ (f_X0_cover B mb).toInt + zSu fr (zmk n) 6 < am.toInt := by
      rw [zltI, Jvm.Kit.i32_add (by omega) (by omega), f1']
    have hbit : (((nI n : Int32) >>> ((nI mb) &&& 31)) &&& 1) = 0 ↔ zmk n mb = false := by
      rw [zbt_0 (by omega) hm]
      unfold zmk
      rcases zub_01 n mb with e | e
      · rw [e]; decide
      · rw [e]; decide
    have hq : zQf fr mb (f_X0_cover B mb).toInt am.toInt (zmk n) ↔ ((((nI n : Int32) >>> ((nI mb) &&& 31)) &&& 1) = 0 ∧ ¬ (f_X0_cover B mb + f_X2_freeOf X1 (nI n) < am)) := by
      unfold zQf
      rw [hbit, hlt]
      exact ⟨fun q => ⟨q.1, by omega⟩, fun q => ⟨q.1, by have := q.2; omega⟩⟩
    have hcn := zCn_le (zmk n) 6
    unfold f_X2_fewestBySets_19
    dsimp only
    rw [zbc n (by omega)]
    have keepN : ¬ zQf fr mb (f_X0_cover B mb).toInt am.toInt (zmk n) → ∀ y, f_X2_fewestBySets_19 X B mb am X1 (-1) n = y → (y = -1 ∧ ∀ m, m < n + 1 → ¬ zQf fr mb (f_X0_cover B mb).toInt am.toInt (zmk m)) ∨ ∃ k, k ≤ 6 ∧ y = nI k ∧ (∃ m, m < n + 1 ∧ zQf fr mb (f_X0_cover B mb).toInt am.toInt (zmk m) ∧ zCn (zmk m) 6 = k) ∧ ∀ m, m < n + 1 → zQf fr mb (f_X0_cover B mb).toInt am.toInt (zmk m) → k ≤ zCn (zmk m) 6 := by
      rintro hno y rfl
      rcases ih (by omega) with ⟨e1, e2⟩ | ⟨k, hk, e1, ⟨m, m1, m2, m3⟩, e2⟩
      · refine Or.inl ⟨e1, fun m hm2 => ?_⟩
        by_cases c : m = n
        · subst c; exact hno
        · exact e2 m (by omega)
      · refine Or.inr ⟨k, hk, e1, ⟨m, by omega, m2, m3⟩, fun m' hm2 q => ?_⟩
        by_cases c : m' = n
        · subst c; exact absurd q hno
        · exact e2 m' (by omega) q
    by_cases cb : (((nI n : Int32) >>> ((nI mb) &&& 31)) &&& 1) = 0
    · rw [if_pos cb]
      by_cases cl : f_X0_cover B mb + f_X2_freeOf X1 (nI n) < am
      · have hno : ¬ zQf fr mb (f_X0_cover B mb).toInt am.toInt (zmk n) := fun q => (hq.mp q).2 cl
        rw [if_pos cl, ite_self, ite_self]
        exact keepN hno _ rfl
      · have hyes := hq.mpr ⟨cb, cl⟩
        rw [if_neg cl]
        right
        rcases ih (by omega) with ⟨e1, e2⟩ | ⟨k, hk, e1, ⟨m, m1, m2, m3⟩, e2⟩
        · rw [if_pos e1]
          refine ⟨_, hcn, rfl, ⟨n, by omega, hyes, rfl⟩, fun m' hm2 q => ?_⟩
          by_cases c : m' = n
          · subst c; exact Nat.le_refl _
          · exact absurd q (e2 m' (by omega))
        · rw [e1, if_neg (zm1 (by omega))]
          by_cases c3 : nI k ≤ nI (zCn (zmk n) 6)
          · rw [if_pos c3]
            rw [nI_leI (by omega) (by omega)] at c3
            refine ⟨k, hk, rfl, ⟨m, by omega, m2, m3⟩, fun m' hm2 q => ?_⟩
            by_cases c : m' = n
            · subst c; exact c3
            · exact e2 m' (by omega) q
          · rw [if_neg c3]
            rw [nI_leI (by omega) (by omega)] at c3
            refine ⟨_, hcn, rfl, ⟨n, by omega, hyes, rfl⟩, fun m' hm2 q => ?_⟩
            by_cases c : m' = n
            · subst c; exact Nat.le_refl _
            · have := e2 m' (by omega) q
              omega
    · rw [if_neg cb]
      exact keepN (fun q => cb (hq.mp q).1) _ rfl
end ZFX

/-! one call on both sides: the looks -/
section ZS5
variable {K : Int} {r : Nat → Nat} {N : NK} {B X : BK} {Bs : Nat → BK} {M : BK} {Nm : Nat → Nat}
theorem zrg_n {x hi : Int32} {h : Nat} (hh : hi.toInt = h) (hc : zrg x 0 hi) : ∃ w, w ≤ h ∧ x = nI w := by
  have h1 := zrg_int hc
  rw [Int32.toInt_zero] at h1
  obtain ⟨j, hj, rfl⟩ := nI_of hc.1
  rw [nI_toInt hj] at h1
  exact ⟨j, by omega, rfl⟩
end ZS5
