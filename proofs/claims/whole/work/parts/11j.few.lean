/-! the three ways to the fewest guarantors -/
section ZFX
def zub (u i : Nat) : Nat := u / 2 ^ i % 2
theorem zub_01 (u i : Nat) : zub u i = 0 ∨ zub u i = 1 := by
  unfold zub
  omega
theorem zbt_or : ∀ u, u < 64 → ∀ n, n < 6 → (nI u ||| ((1 : Int32) <<< ((nI n) &&& 31))) = nI (u ||| 2 ^ n) ∧ u ||| 2 ^ n < 64 := by decide +kernel
theorem zbt_one : ∀ n, n < 6 → ((1 : Int32) <<< ((nI n) &&& 31)) = nI (2 ^ n) ∧ 2 ^ n < 64 := by decide +kernel
theorem zbt_o1 : ∀ n, n < 6 → ∀ i, i < 6 → zub (2 ^ n) i = if i = n then 1 else 0 := by decide +kernel
theorem zbt_v : ∀ u, u < 64 → ∀ i, i < 6 → (((nI u : Int32) >>> ((nI i) &&& 31)) &&& 1) = nI (zub u i) := by decide +kernel
theorem zbt_o : ∀ u, u < 64 → ∀ n, n < 6 → ∀ i, i < 6 → zub (u ||| 2 ^ n) i = if i = n then 1 else zub u i := by decide +kernel
theorem zbt_0 {u i : Nat} (hu : u < 64) (hi : i < 6) : (((nI u : Int32) >>> ((nI i) &&& 31)) &&& 1) = 0 ↔ zub u i = 0 := by
  rw [zbt_v u hu i hi]
  rcases zub_01 u i with e | e
  · rw [e]
    exact ⟨fun _ => rfl, fun _ => nI_0⟩
  · rw [e]
    exact ⟨fun q => absurd q (by decide), fun q => absurd q (by decide)⟩
theorem zbt_1 {u i : Nat} (hu : u < 64) (hi : i < 6) : (((nI u : Int32) >>> ((nI i) &&& 31)) &&& 1) = 1 ↔ zub u i = 1 := by
  rw [zbt_v u hu i hi]
  rcases zub_01 u i with e | e
  · rw [e]
    exact ⟨fun q => absurd q (by decide), fun q => absurd q (by decide)⟩
  · rw [e]
    exact ⟨fun _ => rfl, fun _ => rfl⟩
theorem zm1 {j : Nat} (hj : j < 2 ^ 31) : ¬ nI j = -1 := by
  intro e
  have h := congrArg Int32.toInt e
  rw [nI_toInt hj, show (-1 : Int32).toInt = -1 by decide] at h
  omega
theorem zleI {x y : Int32} : x ≤ y ↔ x.toInt ≤ y.toInt := Int32.le_iff_toInt_le
theorem zltI {x y : Int32} : x < y ↔ x.toInt < y.toInt := Int32.lt_iff_toInt_lt
theorem zfill (X B : BK) : ∀ n, (∀ i, i < n → (f_X2_fillFree_2 X B X n) 1 i = f_X0_freeShares B i) ∧ ∀ k, ¬ k = 1 → (f_X2_fillFree_2 X B X n) k = X k := by
  intro n
  induction n with
  | zero => exact ⟨fun i hi => absurd hi (Nat.not_lt_zero i), fun _ _ => rfl⟩
  | succ n ih =>
    obtain ⟨i1, i2⟩ := ih
    unfold f_X2_fillFree_2
    dsimp only
    refine ⟨fun i hi => ?_, fun k hk => ?_⟩
    · by_cases c : i = n
      · subst c
        rw [uB_self]
      · rw [uB_ne _ _ (fun e => c e.2)]
        exact i1 i (by omega)
    · rw [uB_row _ _ _ hk]
      exact i2 k hk
theorem zfree4 {X : BK} {u : Nat} (hu : u < 64) : ∀ n, n ≤ 6 → (f_X2_freest_4 X (nI u) (-1) n = -1 ∧ ∀ i, i < n → zub u i = 1) ∨ ∃ j, j < n ∧ f_X2_freest_4 X (nI u) (-1) n = nI j ∧ zub u j = 0 ∧ ∀ i, i < n → zub u i = 0 → (X 1 i).toInt ≤ (X 1 j).toInt := by
  intro n
  induction n with
  | zero => intro _; exact Or.inl ⟨rfl, fun i hi => absurd hi (Nat.not_lt_zero i)⟩
  | succ n ih =>
    intro hn
    unfold f_X2_freest_4
    dsimp only
    rcases zub_01 u n with e | e
    · rw [if_pos ((zbt_0 hu (by omega)).mpr e)]
      right
      rcases ih (by omega) with ⟨e1, e2⟩ | ⟨j, hj, e1, e2, e3⟩
      · rw [if_pos e1]
        refine ⟨n, by omega, rfl, e, fun i hi h0 => ?_⟩
        by_cases c : i = n
        · subst c
          exact Int.le_refl _
        · have := e2 i (by omega)
          omega
      · rw [e1, if_neg (zm1 (by omega)), nI_clamp (by omega)]
        by_cases c : X 1 n ≤ X 1 j
        · rw [if_pos c]
          refine ⟨j, by omega, rfl, e2, fun i hi h0 => ?_⟩
          by_cases c2 : i = n
          · subst c2
            exact zleI.mp c
          · exact e3 i (by omega) h0
        · rw [if_neg c]
          refine ⟨n, by omega, rfl, e, fun i hi h0 => ?_⟩
          by_cases c2 : i = n
          · subst c2
            exact Int.le_refl _
          · have := e3 i (by omega) h0
            rw [zleI] at c
            omega
    · rw [if_neg (fun q => by have := (zbt_0 hu (by omega)).mp q; omega)]
      rcases ih (by omega) with ⟨e1, e2⟩ | ⟨j, hj, e1, e2, e3⟩
      · left
        refine ⟨e1, fun i hi => ?_⟩
        by_cases c : i = n
        · subst c
          exact e
        · exact e2 i (by omega)
      · right
        refine ⟨j, by omega, e1, e2, fun i hi h0 => ?_⟩
        by_cases c : i = n
        · subst c
          omega
        · exact e3 i (by omega) h0
theorem zSu_b {fr : Nat → Int} (h0 : ∀ i, i < 6 → 0 ≤ fr i) (A : Nat → Bool) : 0 ≤ zSu fr A 6 ∧ zSu fr A 6 ≤ zS fr 6 := by
  refine ⟨zS_nn (fun i hi => ?_), zS_le (fun i hi => ?_)⟩
  · have := h0 i hi
    by_cases c : A i = true
    · rw [if_pos c]; exact this
    · rw [if_neg c]; exact Int.le_refl 0
  · have := h0 i hi
    by_cases c : A i = true
    · rw [if_pos c]; exact Int.le_refl _
    · rw [if_neg c]; exact this
theorem zCn_lt {A : Nat → Bool} {mb : Nat} (hm : mb < 6) (h : A mb = false) : zCn A 6 < 6 := by
  have h1 := zCn_ad h 6
  rw [if_pos hm] at h1
  have := zCn_le (zad1 A mb) 6
  omega
theorem zgr21 {X B : BK} {mb : Nat} (hm : mb < 6) {am : Int32} {fr : Nat → Int} {c : Int} (h0 : ∀ i, i < 6 → 0 ≤ fr i) (hc : 0 ≤ c) (hb : c + zS fr 6 < 2 ^ 31) {X1 : BK} (hX : ∀ i, i < 6 → (X1 1 i).toInt = fr i) :
    ∀ k q (cv : Int32) (u : Nat) (A : Nat → Bool), u < 64 → (∀ i, i < 6 → (zub u i = 0 ↔ (A i = false ∧ ¬ i = mb))) → zGr fr mb c am.toInt A cv.toInt q → q + k = 8 → zFw fr mb c am.toInt (f_X2_fewestByGreatest_21 X B mb am k cv (nI u) q X1).1 ∧ (f_X2_fewestByGreatest_21 X B mb am k cv (nI u) q X1).2 = X1 := by
  intro k
  induction k with
  | zero =>
    intro q cv u A hu hA hg hq
    have h3 := hg.2.2.1
    have := zCn_le A 6
    omega
  | succ k ih =>
    intro q cv u A hu hA hg hq
    unfold f_X2_fewestByGreatest_21
    have h3 := hg.2.2.1
    have h4 := zCn_lt hm hg.1
    rw [if_neg (by omega)]
    by_cases c1 : cv < am
    · rw [if_pos c1]
      rw [zltI] at c1
      rcases zfree4 (X := X1) hu 6 (by omega) with ⟨e1, e2⟩ | ⟨j, hj, e1, e2, e3⟩
      · have e1' : f_X2_freest X1 (nI u) = -1 := e1
        rw [if_pos e1']
        refine ⟨hg.none c1 h0 (fun i hi a b => ?_), rfl⟩
        have g1 := e2 i hi
        have g2 := (hA i hi).mpr ⟨a, b⟩
        omega
      · have e1' : f_X2_freest X1 (nI u) = nI j := e1
        rw [e1', if_neg (zm1 (by omega)), nI_clamp (by omega), (zbt_or u hu j hj).1]
        obtain ⟨a1, a2⟩ := (hA j hj).mp e2
        have g1 := hg.next c1 hj a1 a2 (h0 j hj) (fun i hi b1 b2 => by
          have := e3 i hi ((hA i hi).mpr ⟨b1, b2⟩)
          rw [hX i hi, hX j hj] at this
          exact this)
        have eX := hX j hj
        have b1 := zSu_b h0 (zad1 A j)
        have g2 := g1.2.1
        have b3 := zSu_b h0 A
        have b4 := hg.2.1
        have g3 : (cv + X1 1 j).toInt = cv.toInt + fr j := by
          rw [Jvm.Kit.i32_add (by omega) (by omega), eX]
        refine ih (q + 1) (cv + X1 1 j) (u ||| 2 ^ j) (zad1 A j) (zbt_or u hu j hj).2 (fun i hi => ?_) (by rw [g3]; exact g1) (by omega)
        rw [zbt_o u hu j hj i hi]
        unfold zad1
        by_cases c2 : i = j
        · rw [if_pos c2, if_pos c2]
          exact ⟨fun q => absurd q (by decide), fun q => by cases q.1⟩
        · rw [if_neg c2, if_neg c2]
          exact hA i hi
    · rw [if_neg c1]
      rw [zltI] at c1
      exact ⟨hg.done (by omega), rfl⟩
/-- the model's way -/
theorem zf54 {M M1 : BK} {mb : Nat} {am x : Int32} {q : Nat} : ∀ n, n ≤ 6 → f_X3_fewest_54 M mb am x q M1 0 n < 6 ∧ ∀ i, i < n → (M1 3 i).toInt ≤ (M1 3 (f_X3_fewest_54 M mb am x q M1 0 n)).toInt := by
  intro n
  induction n with
  | zero => intro _; exact ⟨(by show 0 < 6; omega), fun i hi => absurd hi (Nat.not_lt_zero i)⟩
  | succ n ih =>
    intro hn
    obtain ⟨i1, i2⟩ := ih (by omega)
    unfold f_X3_fewest_54
    dsimp only
    generalize f_X3_fewest_54 M mb am x q M1 0 n = y at *
    by_cases c : M1 3 n ≤ M1 3 y
    · rw [if_pos c]
      refine ⟨i1, fun i hi => ?_⟩
      by_cases c2 : i = n
      · subst c2
        exact zleI.mp c
      · exact i2 i (by omega)
    · rw [if_neg c]
      rw [zleI] at c
      refine ⟨by omega, fun i hi => ?_⟩
      by_cases c2 : i = n
      · subst c2
        exact Int.le_refl _
      · have := i2 i (by omega)
        omega
theorem zf43 {M : BK} {mb : Nat} (hm : mb < 6) {am : Int32} {fr : Nat → Int} {c : Int} (h0 : ∀ i, i < 6 → 0 ≤ fr i) (hc : 0 ≤ c) (hb : c + zS fr 6 < 2 ^ 31) :
    ∀ k q (x : Int32) (A : Nat → Bool) (M1 : BK), (∀ i, i < 6 → (M1 3 i).toInt = if A i = true ∨ i = mb then -1 else fr i) → zGr fr mb c am.toInt A x.toInt q → q + k = 7 → zFw fr mb c am.toInt (f_X3_fewest_43 M mb am k x q M1).1 ∧ ∀ j, ¬ j = 3 → (f_X3_fewest_43 M mb am k x q M1).2 j = M1 j := by
  intro k
  induction k with
  | zero =>
    intro q x A M1 hA hg hq
    have h3 := hg.2.2.1
    have := zCn_le A 6
    omega
  | succ k ih =>
    intro q x A M1 hA hg hq
    unfold f_X3_fewest_43
    by_cases c1 : am ≤ x
    · rw [if_pos c1]
      exact ⟨hg.done (zleI.mp c1), fun _ _ => rfl⟩
    · rw [if_neg c1]
      rw [zleI] at c1
      dsimp only
      obtain ⟨y1, y2⟩ := zf54 (M := M) (M1 := M1) (mb := mb) (am := am) (x := x) (q := q) 6 (by omega)
      generalize f_X3_fewest_54 M mb am x q M1 0 6 = y at *
      have hy := hA y y1
      by_cases c2 : 0 < M1 3 y
      · rw [if_pos c2]
        rw [zltI, Int32.toInt_zero] at c2
        by_cases c3 : A y = true ∨ y = mb
        · rw [if_pos c3] at hy
          omega
        · rw [if_neg c3] at hy
          have a1 : A y = false := by
            cases e : A y with
            | true => exact absurd (Or.inl e) c3
            | false => rfl
          have a2 : ¬ y = mb := fun e => c3 (Or.inr e)
          have g1 := hg.next (by omega) y1 a1 a2 (h0 y y1) (fun i hi b1 b2 => by
            have := y2 i hi
            rw [hA i hi, if_neg (by rintro (e | e); · rw [b1] at e; cases e
                                    · exact b2 e), hy] at this
            exact this)
          have b1 := zSu_b h0 (zad1 A y)
          have g2 := g1.2.1
          have b3 := zSu_b h0 A
          have b4 := hg.2.1
          have g3 : (x + M1 3 y).toInt = x.toInt + fr y := by
            rw [Jvm.Kit.i32_add (by omega) (by omega), hy]
          obtain ⟨r1, r2⟩ := ih (q + 1) (x + M1 3 y) (zad1 A y) (uB M1 3 y (-1)) (fun i hi => by
            unfold zad1
            by_cases c4 : i = y
            · subst c4
              rw [uB_self, if_pos rfl, if_pos (Or.inl rfl)]
              decide
            · rw [uB_ne _ _ (fun e => c4 e.2), if_neg c4]
              exact hA i hi) (by rw [g3]; exact g1) (by omega)
          exact ⟨r1, fun j hj => (r2 j hj).trans (uB_row _ _ _ hj)⟩
      · rw [if_neg c2]
        rw [zltI, Int32.toInt_zero] at c2
        refine ⟨hg.none (by omega) h0 (fun i hi b1 b2 => ?_), fun _ _ => rfl⟩
        have := y2 i hi
        rw [hA i hi, if_neg (by rintro (e | e); · rw [b1] at e; cases e
                                · exact b2 e)] at this
        omega
theorem zf2 {B M : BK} (h : zcur B M) (mb : Nat) (am : Int32) : ∀ n, n ≤ 6 → (∀ i, i < n → (f_X3_fewest_2 M mb am M n) 3 i = if i = mb then -1 else f_X0_freeShares B i) ∧ ∀ j, ¬ j = 3 → (f_X3_fewest_2 M mb am M n) j = M j := by
  intro n
  induction n with
  | zero => intro _; exact ⟨fun i hi => absurd hi (Nat.not_lt_zero i), fun _ _ => rfl⟩
  | succ n ih =>
    intro hn
    obtain ⟨i1, i2⟩ := ih (by omega)
    unfold f_X3_fewest_2
    dsimp only
    generalize f_X3_fewest_2 M mb am M n = K at *
    have hz : zcur B K := by
      unfold zcur
      rw [i2 0 (by omega)]
      exact h
    by_cases c : n = mb
    · rw [if_pos c]
      refine ⟨fun i hi => ?_, fun j hj => (uB_row _ _ _ hj).trans (i2 j hj)⟩
      by_cases c2 : i = n
      · rw [c2, uB_self, if_pos c]
      · rw [uB_ne _ _ (fun e => c2 e.2)]
        exact i1 i (by omega)
    · rw [if_neg c]
      refine ⟨fun i hi => ?_, fun j hj => (uB_row _ _ _ hj).trans (i2 j hj)⟩
      by_cases c2 : i = n
      · rw [c2, uB_self, if_neg c]
        exact zc_free hz (by omega)
      · rw [uB_ne _ _ (fun e => c2 e.2)]
        exact i1 i (by omega)
/-! all sets -/
def zmk (m : Nat) : Nat → Bool := fun i => decide (zub m i = 1)
theorem zmk_ex (S : Nat → Bool) : ∃ m, m < 64 ∧ ∀ i, i < 6 → zmk m i = S i := by
  have h : ∀ b0 b1 b2 b3 b4 b5 : Bool, b0.toNat + 2 * b1.toNat + 4 * b2.toNat + 8 * b3.toNat + 16 * b4.toNat + 32 * b5.toNat < 64 ∧ zmk (b0.toNat + 2 * b1.toNat + 4 * b2.toNat + 8 * b3.toNat + 16 * b4.toNat + 32 * b5.toNat) 0 = b0 ∧ zmk (b0.toNat + 2 * b1.toNat + 4 * b2.toNat + 8 * b3.toNat + 16 * b4.toNat + 32 * b5.toNat) 1 = b1 ∧ zmk (b0.toNat + 2 * b1.toNat + 4 * b2.toNat + 8 * b3.toNat + 16 * b4.toNat + 32 * b5.toNat) 2 = b2 ∧ zmk (b0.toNat + 2 * b1.toNat + 4 * b2.toNat + 8 * b3.toNat + 16 * b4.toNat + 32 * b5.toNat) 3 = b3 ∧ zmk (b0.toNat + 2 * b1.toNat + 4 * b2.toNat + 8 * b3.toNat + 16 * b4.toNat + 32 * b5.toNat) 4 = b4 ∧ zmk (b0.toNat + 2 * b1.toNat + 4 * b2.toNat + 8 * b3.toNat + 16 * b4.toNat + 32 * b5.toNat) 5 = b5 := by decide +kernel
  obtain ⟨hm, h0, h1, h2, h3, h4, h5⟩ := h (S 0) (S 1) (S 2) (S 3) (S 4) (S 5)
  refine ⟨_, hm, fun i hi => ?_⟩
  rcases (show i = 0 ∨ i = 1 ∨ i = 2 ∨ i = 3 ∨ i = 4 ∨ i = 5 by omega) with rfl | rfl | rfl | rfl | rfl | rfl <;> assumption
theorem zbc : ∀ m, m < 64 → f_J6_bitCount_0f7a4 (nI m) = nI (zCn (zmk m) 6) := by decide +kernel
theorem zCn_congr {S T : Nat → Bool} : ∀ {n : Nat}, (∀ i, i < n → S i = T i) → zCn S n = zCn T n
  | 0, _ => rfl
  | n + 1, h => by
    show zCn S n + (if S n = true then 1 else 0) = zCn T n + (if T n = true then 1 else 0)
    rw [zCn_congr (fun i hi => h i (by omega)), h n (by omega)]
theorem zSu_congr {fr : Nat → Int} {S T : Nat → Bool} {n : Nat} (h : ∀ i, i < n → S i = T i) : zSu fr S n = zSu fr T n := zS_congr (fun i hi => by rw [h i hi])
theorem zfo {X1 : BK} {fr : Nat → Int} (h0 : ∀ i, i < 6 → 0 ≤ fr i) (hb : zS fr 6 < 2 ^ 31) (hX : ∀ i, i < 6 → (X1 1 i).toInt = fr i) {m : Nat} (hm : m < 64) : ∀ n, n ≤ 6 → (f_X2_freeOf_4 X1 (nI m) 0 n).toInt = zSu fr (zmk m) n ∧ 0 ≤ zSu fr (zmk m) n ∧ zSu fr (zmk m) n ≤ zS fr n := by
  intro n
  induction n with
  | zero => intro _; exact ⟨Int32.toInt_zero, Int.le_refl 0, Int.le_refl 0⟩
  | succ n ih =>
    intro hn
    obtain ⟨i1, i2, i3⟩ := ih (by omega)
    have g1 : zS fr (n + 1) ≤ zS fr 6 := zS_mono h0 hn
    have g2 := h0 n (by omega)
    have g3 := hX n (by omega)
    have s1 : zSu fr (zmk m) (n + 1) = zSu fr (zmk m) n + (if zmk m n = true then fr n else 0) := rfl
    have s2 : zS fr (n + 1) = zS fr n + fr n := rfl
    unfold f_X2_freeOf_4
    dsimp only
    rw [s1]
    rcases zub_01 m n with e | e
    · rw [if_neg (fun q => by have := (zbt_1 hm (by omega)).mp q; omega), if_neg (by unfold zmk; rw [e]; decide)]
      omega
    · rw [if_pos ((zbt_1 hm (by omega)).mpr e), if_pos (by unfold zmk; rw [e]; decide), Jvm.Kit.i32_add (by omega) (by omega)]
      omega
theorem zset19 {X B : BK} {mb : Nat} (hm : mb < 6) {am : Int32} {fr : Nat → Int} (h0 : ∀ i, i < 6 → 0 ≤ fr i) (hc : 0 ≤ (f_X0_cover B mb).toInt) (hb : (f_X0_cover B mb).toInt + zS fr 6 < 2 ^ 31) {X1 : BK} (hX : ∀ i, i < 6 → (X1 1 i).toInt = fr i) :
    ∀ n, n ≤ 64 → (f_X2_fewestBySets_19 X B mb am X1 (-1) n = -1 ∧ ∀ m, m < n → ¬ zQf fr mb (f_X0_cover B mb).toInt am.toInt (zmk m)) ∨
      ∃ k, k ≤ 6 ∧ f_X2_fewestBySets_19 X B mb am X1 (-1) n = nI k ∧ (∃ m, m < n ∧ zQf fr mb (f_X0_cover B mb).toInt am.toInt (zmk m) ∧ zCn (zmk m) 6 = k) ∧ ∀ m, m < n → zQf fr mb (f_X0_cover B mb).toInt am.toInt (zmk m) → k ≤ zCn (zmk m) 6 := by
  intro n
  induction n with
  | zero => intro _; exact Or.inl ⟨rfl, fun m hm => absurd hm (Nat.not_lt_zero m)⟩
  | succ n ih =>
    intro hn
    have hs := zSu_b h0 (zmk n)
    obtain ⟨f1, f2, f3⟩ := zfo (X1 := X1) h0 (by omega) hX (m := n) (by omega) 6 (by omega)
    have f1' : (f_X2_freeOf X1 (nI n)).toInt = zSu fr (zmk n) 6 := f1
    have hlt : (f_X0_cover B mb + f_X2_freeOf X1 (nI n) < am) ↔ (f_X0_cover B mb).toInt + zSu fr (zmk n) 6 < am.toInt := by
      rw [zltI, Jvm.Kit.i32_add (by omega) (by omega), f1']
    have hbit : (((nI n : Int32) >>> ((nI mb) &&& 31)) &&& 1) = 0 ↔ zmk n mb = false := by
      rw [zbt_0 (by omega) hm]
      unfold zmk
      rcases zub_01 n mb with e | e
      · rw [e]; decide
      · rw [e]; decide
    have hq : zQf fr mb (f_X0_cover B mb).toInt am.toInt (zmk n) ↔ ((((nI n : Int32) >>> ((nI mb) &&& 31)) &&& 1) = 0 ∧ ¬ (f_X0_cover B mb + f_X2_freeOf X1 (nI n) < am)) := by
      unfold zQf
      rw [hbit, hlt]
      exact ⟨fun q => ⟨q.1, by omega⟩, fun q => ⟨q.1, by have := q.2; omega⟩⟩
    have hcn := zCn_le (zmk n) 6
    unfold f_X2_fewestBySets_19
    dsimp only
    rw [zbc n (by omega)]
    have keepN : ¬ zQf fr mb (f_X0_cover B mb).toInt am.toInt (zmk n) → ∀ y, f_X2_fewestBySets_19 X B mb am X1 (-1) n = y → (y = -1 ∧ ∀ m, m < n + 1 → ¬ zQf fr mb (f_X0_cover B mb).toInt am.toInt (zmk m)) ∨ ∃ k, k ≤ 6 ∧ y = nI k ∧ (∃ m, m < n + 1 ∧ zQf fr mb (f_X0_cover B mb).toInt am.toInt (zmk m) ∧ zCn (zmk m) 6 = k) ∧ ∀ m, m < n + 1 → zQf fr mb (f_X0_cover B mb).toInt am.toInt (zmk m) → k ≤ zCn (zmk m) 6 := by
      rintro hno y rfl
      rcases ih (by omega) with ⟨e1, e2⟩ | ⟨k, hk, e1, ⟨m, m1, m2, m3⟩, e2⟩
      · refine Or.inl ⟨e1, fun m hm2 => ?_⟩
        by_cases c : m = n
        · subst c; exact hno
        · exact e2 m (by omega)
      · refine Or.inr ⟨k, hk, e1, ⟨m, by omega, m2, m3⟩, fun m' hm2 q => ?_⟩
        by_cases c : m' = n
        · subst c; exact absurd q hno
        · exact e2 m' (by omega) q
    by_cases cb : (((nI n : Int32) >>> ((nI mb) &&& 31)) &&& 1) = 0
    · rw [if_pos cb]
      by_cases cl : f_X0_cover B mb + f_X2_freeOf X1 (nI n) < am
      · have hno : ¬ zQf fr mb (f_X0_cover B mb).toInt am.toInt (zmk n) := fun q => (hq.mp q).2 cl
        rw [if_pos cl, ite_self, ite_self]
        exact keepN hno _ rfl
      · have hyes := hq.mpr ⟨cb, cl⟩
        rw [if_neg cl]
        right
        rcases ih (by omega) with ⟨e1, e2⟩ | ⟨k, hk, e1, ⟨m, m1, m2, m3⟩, e2⟩
        · rw [if_pos e1]
          refine ⟨_, hcn, rfl, ⟨n, by omega, hyes, rfl⟩, fun m' hm2 q => ?_⟩
          by_cases c : m' = n
          · subst c; exact Nat.le_refl _
          · exact absurd q (e2 m' (by omega))
        · rw [e1, if_neg (zm1 (by omega))]
          by_cases c3 : nI k ≤ nI (zCn (zmk n) 6)
          · rw [if_pos c3]
            rw [nI_leI (by omega) (by omega)] at c3
            refine ⟨k, hk, rfl, ⟨m, by omega, m2, m3⟩, fun m' hm2 q => ?_⟩
            by_cases c : m' = n
            · subst c; exact c3
            · exact e2 m' (by omega) q
          · rw [if_neg c3]
            rw [nI_leI (by omega) (by omega)] at c3
            refine ⟨_, hcn, rfl, ⟨n, by omega, hyes, rfl⟩, fun m' hm2 q => ?_⟩
            by_cases c : m' = n
            · subst c; exact Nat.le_refl _
            · have := e2 m' (by omega) q
              omega
    · rw [if_neg cb]
      exact keepN (fun q => cb (hq.mp q).1) _ rfl
/-- all three tell the same -/
theorem zfewest {K : Int} {B M : BK} (h : zcur B M) (hi : zI K B) (hK : K ≤ 2 ^ 29) {mb : Nat} (hm : mb < 6) (X : BK) (am : Int32) :
    (f_X2_fewestByGreatest X B mb am).1 = (f_X3_fewest M mb am).1 ∧ (f_X2_fewestBySets X B mb am).1 = (f_X3_fewest M mb am).1 ∧ (f_X2_fewestByGreatest X B mb am).2 0 = X 0 ∧ (f_X2_fewestBySets X B mb am).2 0 = X 0 ∧ ∀ j, ¬ j = 3 → (f_X3_fewest M mb am).2 j = M j := by
  have hfr : ∀ i, i < 6 → 0 ≤ (f_X0_freeShares B i).toInt := fun i hi2 => (z_free0 hi hK hi2).1
  have hle : zS (fun i => (f_X0_freeShares B i).toInt) 6 ≤ zS (zv B 0) 6 := zS_le (fun i hi2 => (z_free0 hi hK hi2).2)
  have htt := zsh_tot hi
  have hcv := z_coverI hi hK hm
  have c1 := hi.2.2.2.1 mb hm
  have c2 := zbI_nn hi hm
  have c3 := zfI_nn hi hm
  have c4 := zfI_le hi hm
  have c5 := zsh_le hi hm
  have hc : 0 ≤ (f_X0_cover B mb).toInt := by omega
  have hb : (f_X0_cover B mb).toInt + zS (fun i => (f_X0_freeShares B i).toInt) 6 < 2 ^ 31 := by omega
  obtain ⟨x1, x2⟩ := zfill X B 6
  have eX : f_X2_fillFree_2 X B X 6 = f_X2_fillFree X B := rfl
  rw [eX] at x1 x2
  have hX : ∀ i, i < 6 → ((f_X2_fillFree X B) 1 i).toInt = (f_X0_freeShares B i).toInt := fun i hi2 => by rw [x1 i hi2]
  obtain ⟨y1, y2⟩ := zf2 h mb am 6 (by omega)
  have hz : zcur B (f_X3_fewest_2 M mb am M 6) := by
    unfold zcur
    rw [y2 0 (by omega)]
    exact h
  have hM : ∀ i, i < 6 → ((f_X3_fewest_2 M mb am M 6) 3 i).toInt = if (fun _ => false : Nat → Bool) i = true ∨ i = mb then -1 else (f_X0_freeShares B i).toInt := by
    intro i hi2
    rw [y1 i hi2]
    by_cases c : i = mb
    · rw [if_pos c, if_pos (Or.inr c)]
      decide
    · rw [if_neg c, if_neg (by rintro (e | e); · cases e
                               · exact c e)]
  have gs : zGr (fun i => (f_X0_freeShares B i).toInt) mb (f_X0_cover B mb).toInt am.toInt (fun _ => false) (f_X0_cover B mb).toInt 0 := zGr.start (t := K) (by omega) (fun i hi2 => Int.le_trans (z_free0 hi hK hi2).2 (zsh_le hi hi2))
  obtain ⟨m1, m2⟩ := zf43 (M := M) hm (am := am) hfr hc hb 7 0 (f_X0_cover B mb) (fun _ => false) _ hM gs (by omega)
  obtain ⟨g1, g2⟩ := zgr21 (X := X) (B := B) hm (am := am) hfr hc hb hX 8 0 (f_X0_cover B mb) (2 ^ mb) (fun _ => false) (zbt_one mb hm).2 (fun i hi2 => by
    rw [zbt_o1 mb hm i hi2]
    by_cases c : i = mb
    · rw [if_pos c]
      exact ⟨fun q => absurd q (by decide), fun q => absurd c q.2⟩
    · rw [if_neg c]
      exact ⟨fun _ => ⟨rfl, c⟩, fun _ => rfl⟩) gs (by omega)
  have s1 := zset19 (X := X) (B := B) hm (am := am) hfr hc hb hX 64 (Nat.le_refl 64)
  have s2 : zFw (fun i => (f_X0_freeShares B i).toInt) mb (f_X0_cover B mb).toInt am.toInt (f_X2_fewestBySets X B mb am).1 := by
    show zFw _ _ _ _ (f_X2_fewestBySets_19 X B mb am (f_X2_fillFree X B) (-1) 64)
    have tr : ∀ S, zQf (fun i => (f_X0_freeShares B i).toInt) mb (f_X0_cover B mb).toInt am.toInt S → ∃ m, m < 64 ∧ zQf (fun i => (f_X0_freeShares B i).toInt) mb (f_X0_cover B mb).toInt am.toInt (zmk m) ∧ zCn (zmk m) 6 = zCn S 6 := by
      intro S hS
      obtain ⟨m, hm2, he⟩ := zmk_ex S
      refine ⟨m, hm2, ⟨(he mb hm).trans hS.1, ?_⟩, zCn_congr he⟩
      rw [zSu_congr he]
      exact hS.2
    rcases s1 with ⟨e1, e2⟩ | ⟨k, hk, e1, ⟨m, p1, p2, p3⟩, e2⟩
    · refine Or.inl ⟨e1, fun S hS => ?_⟩
      obtain ⟨m, q1, q2, q3⟩ := tr S hS
      exact e2 m q1 q2
    · refine Or.inr ⟨k, hk, e1, ⟨zmk m, p2, p3⟩, fun S hS => ?_⟩
      obtain ⟨m', q1, q2, q3⟩ := tr S hS
      rw [← q3]
      exact e2 m' q1 q2
  have eM : (f_X3_fewest M mb am) = f_X3_fewest_43 M mb am 7 (f_X0_cover B mb) 0 (f_X3_fewest_2 M mb am M 6) := by
    unfold f_X3_fewest
    dsimp only
    rw [zc_cover hz hm]
  have eG : (f_X2_fewestByGreatest X B mb am) = f_X2_fewestByGreatest_21 X B mb am 8 (f_X0_cover B mb) (nI (2 ^ mb)) 0 (f_X2_fillFree X B) := by
    unfold f_X2_fewestByGreatest
    dsimp only
    rw [(zbt_one mb hm).1]
  rw [← eM] at m1 m2
  rw [← eG] at g1 g2
  refine ⟨g1.one m1, s2.one m1, ?_, x2 0 (by omega), fun j hj => (m2 j hj).trans (y2 j hj)⟩
  rw [g2]
  exact x2 0 (by omega)
end ZFX
