/-! what the books keep: numbers as integers -/
section ZJ
def zv (B : BK) (k i : Nat) : Int := (B k i).toInt
def zS (f : Nat → Int) : Nat → Int
  | 0 => 0
  | n + 1 => zS f n + f n
theorem zS_congr {f g : Nat → Int} : ∀ {n : Nat}, (∀ i, i < n → f i = g i) → zS f n = zS g n
  | 0, _ => rfl
  | n + 1, h => by
    show zS f n + f n = zS g n + g n
    rw [zS_congr (fun i hi => h i (by omega)), h n (by omega)]
theorem zS_up {f g : Nat → Int} {j : Nat} (h : ∀ i, ¬ i = j → g i = f i) : ∀ {n : Nat}, j < n → zS g n = zS f n + (g j - f j)
  | 0, hj => absurd hj (Nat.not_lt_zero j)
  | n + 1, hj => by
    show zS g n + g n = zS f n + f n + (g j - f j)
    by_cases c : j = n
    · subst c
      rw [zS_congr (f := g) (g := f) (fun i hi => h i (by omega))]
      omega
    · rw [zS_up h (by omega), h n (fun e => c e.symm)]
      omega
theorem zS_nn {f : Nat → Int} : ∀ {n : Nat}, (∀ i, i < n → 0 ≤ f i) → 0 ≤ zS f n
  | 0, _ => Int.le_refl 0
  | n + 1, h => by
    have h1 := zS_nn (f := f) (n := n) (fun i hi => h i (by omega))
    have h2 := h n (by omega)
    show 0 ≤ zS f n + f n
    omega
theorem zS_le {f g : Nat → Int} : ∀ {n : Nat}, (∀ i, i < n → f i ≤ g i) → zS f n ≤ zS g n
  | 0, _ => Int.le_refl 0
  | n + 1, h => by
    have h1 := zS_le (f := f) (g := g) (n := n) (fun i hi => h i (by omega))
    have h2 := h n (by omega)
    show zS f n + f n ≤ zS g n + g n
    omega
theorem zS_one {f : Nat → Int} {j : Nat} : ∀ {n : Nat}, (∀ i, i < n → 0 ≤ f i) → j < n → f j ≤ zS f n
  | 0, _, hj => absurd hj (Nat.not_lt_zero j)
  | n + 1, h, hj => by
    show f j ≤ zS f n + f n
    have h2 := h n (by omega)
    by_cases c : j = n
    · subst c
      have := zS_nn (f := f) (n := j) (fun i hi => h i (by omega))
      omega
    · have := zS_one (f := f) (j := j) (n := n) (fun i hi => h i (by omega)) (by omega)
      omega
theorem zS_mono {f : Nat → Int} {m : Nat} : ∀ {n : Nat}, (∀ i, i < n → 0 ≤ f i) → m ≤ n → zS f m ≤ zS f n
  | 0, _, hm => by
    have : m = 0 := by omega
    subst this
    exact Int.le_refl _
  | n + 1, h, hm => by
    by_cases c : m = n + 1
    · subst c
      exact Int.le_refl _
    · have h1 := zS_mono (f := f) (n := n) (m := m) (fun i hi => h i (by omega)) (by omega)
      have h2 := h n (by omega)
      show zS f m ≤ zS f n + f n
      omega
/-- a sum of numbers is the sum -/
theorem zsum_int {g : Nat → Int32} : ∀ {n : Nat}, (∀ i, i < n → 0 ≤ (g i).toInt) → zS (fun i => (g i).toInt) n < 2 ^ 31 → (zsum g n).toInt = zS (fun i => (g i).toInt) n
  | 0, _, _ => Int32.toInt_zero
  | n + 1, h, hb => by
    have h1 := zS_nn (f := fun i => (g i).toInt) (n := n) (fun i hi => h i (by omega))
    have h2 := h n (by omega)
    have hb' : zS (fun i => (g i).toInt) n + (g n).toInt < 2 ^ 31 := hb
    have e := zsum_int (g := g) (n := n) (fun i hi => h i (by omega)) (by omega)
    show (zsum g n + g n).toInt = zS (fun i => (g i).toInt) n + (g n).toInt
    rw [Jvm.Kit.i32_add (by omega) (by omega), e]
def zbI (B : BK) (i : Nat) : Int := zS (fun j => zv B 2 (i * 6 + j)) 6
def zfI (B : BK) (i : Nat) : Int := zS (fun j => zv B 2 (j * 6 + i)) 6
def zI (K : Int) (B : BK) : Prop :=
  (∀ i, i < 6 → 0 ≤ zv B 1 i ∧ zv B 1 i ≤ 100000000) ∧ (∀ i, i < 36 → 0 ≤ zv B 2 i) ∧
  (∀ i, i < 6 → 0 ≤ zv B 3 i ∧ zv B 3 i ≤ 9999 ∧ (0 < zv B 3 i → 1 ≤ zv B 4 i ∧ zv B 4 i ≤ 9999)) ∧
  (∀ i, i < 6 → zbI B i ≤ zv B 0 i) ∧ (∀ i, i < 6 → zv B 3 i ≤ zv B 0 i - zbI B i + zfI B i) ∧
  (0 ≤ zv B 7 0 ∧ zv B 7 0 ≤ 100) ∧ (zv B 8 4 ≤ 9999 ∧ 0 ≤ zv B 8 1) ∧ zS (zv B 0) 6 + zv B 8 1 ≤ K
theorem zI.mono {K K' : Int} {B : BK} (h : zI K B) (hk : K ≤ K') : zI K' B := by
  obtain ⟨h1, h2, h3, h4, h5, h6, h7, h8⟩ := h
  exact ⟨h1, h2, h3, h4, h5, h6, h7, by omega⟩
theorem zbI_nn {K : Int} {B : BK} (h : zI K B) {i : Nat} (hi : i < 6) : 0 ≤ zbI B i := zS_nn (fun j hj => h.2.1 _ (by omega))
theorem zfI_nn {K : Int} {B : BK} (h : zI K B) {i : Nat} (hi : i < 6) : 0 ≤ zfI B i := zS_nn (fun j hj => h.2.1 _ (by omega))
theorem zbI_one {K : Int} {B : BK} (h : zI K B) {i j : Nat} (hi : i < 6) (hj : j < 6) : zv B 2 (i * 6 + j) ≤ zbI B i := zS_one (f := fun j => zv B 2 (i * 6 + j)) (fun j hj => h.2.1 _ (by omega)) hj
theorem zfI_one {K : Int} {B : BK} (h : zI K B) {i j : Nat} (hi : i < 6) (hj : j < 6) : zv B 2 (j * 6 + i) ≤ zfI B i := zS_one (f := fun j => zv B 2 (j * 6 + i)) (fun j hj => h.2.1 _ (by omega)) hj
theorem zsh_nn {K : Int} {B : BK} (h : zI K B) {i : Nat} (hi : i < 6) : 0 ≤ zv B 0 i := Int.le_trans (zbI_nn h hi) (h.2.2.2.1 i hi)
theorem zsh_tot {K : Int} {B : BK} (h : zI K B) : zS (zv B 0) 6 ≤ K ∧ 0 ≤ zS (zv B 0) 6 := by
  have h7 := h.2.2.2.2.2.2.1.2
  have h8 := h.2.2.2.2.2.2.2
  exact ⟨by omega, zS_nn (fun i hi => zsh_nn h hi)⟩
theorem zsh_le {K : Int} {B : BK} (h : zI K B) {i : Nat} (hi : i < 6) : zv B 0 i ≤ K := Int.le_trans (zS_one (f := zv B 0) (fun i hi => zsh_nn h hi) hi) (zsh_tot h).1
theorem zS6 (f : Nat → Int) : zS f 6 = f 0 + f 1 + f 2 + f 3 + f 4 + f 5 := by
  show 0 + f 0 + f 1 + f 2 + f 3 + f 4 + f 5 = _
  omega
theorem zbf (B : BK) : zS (zfI B) 6 = zS (zbI B) 6 := by
  rw [zS6, zS6]
  unfold zfI zbI
  rw [zS6, zS6, zS6, zS6, zS6, zS6, zS6, zS6, zS6, zS6, zS6, zS6]
  omega
theorem zfI_le {K : Int} {B : BK} (h : zI K B) {i : Nat} (hi : i < 6) : zfI B i ≤ K := by
  have h1 := zS_one (f := zfI B) (n := 6) (fun i hi => zfI_nn h hi) hi
  have h2 := zbf B
  have h3 : zS (zbI B) 6 ≤ zS (zv B 0) 6 := zS_le (fun i hi => h.2.2.2.1 i hi)
  have h4 := (zsh_tot h).1
  omega
/-! what is looked at, as integers -/
theorem z_byI {K : Int} {B : BK} (h : zI K B) (hK : K ≤ 2 ^ 30) {i : Nat} (hi : i < 6) : (f_X0_pledgedBy B i).toInt = zbI B i := by
  have h1 := h.2.2.2.1 i hi
  have h2 := zsh_le h hi
  have e : ∀ n, f_X0_pledgedBy_10 B i 0 n = zsum (fun j => B 2 (i * 6 + j)) n := by
    intro n
    induction n with
    | zero => rfl
    | succ n ih =>
      show f_X0_pledgedBy_10 B i 0 n + B 2 (i * 6 + n) = zsum (fun j => B 2 (i * 6 + j)) n + B 2 (i * 6 + n)
      rw [ih]
  show (f_X0_pledgedBy_10 B i 0 6).toInt = _
  rw [e 6]
  exact zsum_int (g := fun j => B 2 (i * 6 + j)) (fun j hj => h.2.1 _ (by omega)) (Int.lt_of_le_of_lt h1 (by omega))
theorem z_forI {K : Int} {B : BK} (h : zI K B) (hK : K ≤ 2 ^ 30) {i : Nat} (hi : i < 6) : (f_X0_pledgedFor B i).toInt = zfI B i := by
  have h1 := zfI_le h hi
  rw [zf_for hi]
  show (zsum (fun j => B 2 (j * 6 + i)) 6).toInt = _
  exact zsum_int (g := fun j => B 2 (j * 6 + i)) (fun j hj => h.2.1 _ (by omega)) (Int.lt_of_le_of_lt h1 (by omega))
theorem z_ownI {K : Int} {B : BK} (h : zI K B) (hK : K ≤ 2 ^ 30) {i : Nat} (hi : i < 6) : (f_X0_ownLeft B i).toInt = zv B 0 i - zbI B i := by
  have h1 := h.2.2.2.1 i hi
  have h2 := zsh_le h hi
  have h3 := zbI_nn h hi
  have e := z_byI h hK hi
  unfold zv at *
  unfold f_X0_ownLeft
  rw [Jvm.Kit.i32_sub (by omega) (by omega), e]
theorem z_coverI {K : Int} {B : BK} (h : zI K B) (hK : K ≤ 2 ^ 29) {i : Nat} (hi : i < 6) : (f_X0_cover B i).toInt = zv B 0 i - zbI B i + zfI B i := by
  have h1 := h.2.2.2.1 i hi
  have h2 := zsh_le h hi
  have h3 := zbI_nn h hi
  have h4 := zfI_nn h hi
  have h5 := zfI_le h hi
  have e := z_ownI h (by omega) hi
  have e2 := z_forI h (by omega) hi
  unfold f_X0_cover
  rw [Jvm.Kit.i32_add (by omega) (by omega), e, e2]
theorem z_zmax (x y : Int32) : (zmax x y).toInt = max x.toInt y.toInt := by
  unfold zmax
  by_cases c : x < y
  · rw [if_pos c]
    rw [Int32.lt_iff_toInt_lt] at c
    omega
  · rw [if_neg c]
    rw [Int32.lt_iff_toInt_lt] at c
    omega
theorem z_zmin (x y : Int32) : (zmin x y).toInt = min x.toInt y.toInt := by
  unfold zmin
  by_cases c : y < x
  · rw [if_pos c]
    rw [Int32.lt_iff_toInt_lt] at c
    omega
  · rw [if_neg c]
    rw [Int32.lt_iff_toInt_lt] at c
    omega
theorem z_freeI {K : Int} {B : BK} (h : zI K B) (hK : K ≤ 2 ^ 29) {i : Nat} (hi : i < 6) : (f_X0_freeShares B i).toInt = zv B 0 i - zbI B i - max 0 (zv B 3 i - zfI B i) := by
  have h1 := h.2.2.2.1 i hi
  have h2 := zsh_le h hi
  have h3 := zbI_nn h hi
  have h4 := zfI_nn h hi
  have h5 := zfI_le h hi
  have h6 := h.2.2.1 i hi
  have e := z_ownI h (by omega) hi
  have e2 := z_forI h (by omega) hi
  have e4 : (B 3 i).toInt = zv B 3 i := rfl
  have e3 : (B 3 i - f_X0_pledgedFor B i).toInt = zv B 3 i - zfI B i := by
    rw [Jvm.Kit.i32_sub (by omega) (by omega), e2]
    rfl
  have e5 : (zmax 0 (B 3 i - f_X0_pledgedFor B i)).toInt = max 0 (zv B 3 i - zfI B i) := by
    rw [z_zmax, e3, Int32.toInt_zero]
  unfold f_X0_freeShares
  rw [Jvm.Kit.i32_sub (by omega) (by omega), e, e5]
theorem z_free0 {K : Int} {B : BK} (h : zI K B) (hK : K ≤ 2 ^ 29) {i : Nat} (hi : i < 6) : 0 ≤ (f_X0_freeShares B i).toInt ∧ (f_X0_freeShares B i).toInt ≤ zv B 0 i := by
  have h1 := h.2.2.2.1 i hi
  have h3 := zbI_nn h hi
  have h5 := h.2.2.2.2.1 i hi
  rw [z_freeI h hK hi]
  omega
theorem z_sharesI {K : Int} {B : BK} (h : zI K B) (hK : K ≤ 2 ^ 30) : (f_X0_allShares B).toInt = zS (zv B 0) 6 := by
  have h1 := zsh_tot h
  show (zsum (B 0) 6).toInt = _
  exact zsum_int (g := B 0) (fun j hj => zsh_nn h hj) (Int.lt_of_le_of_lt h1.1 (by omega))
theorem z_rests_le {K : Int} {B : BK} (h : zI K B) : zS (zv B 3) 6 ≤ zS (zv B 0) 6 := by
  have h1 := zbf B
  have c0 := h.2.2.2.2.1 0 (by omega)
  have c1 := h.2.2.2.2.1 1 (by omega)
  have c2 := h.2.2.2.2.1 2 (by omega)
  have c3 := h.2.2.2.2.1 3 (by omega)
  have c4 := h.2.2.2.2.1 4 (by omega)
  have c5 := h.2.2.2.2.1 5 (by omega)
  rw [zS6, zS6] at h1
  rw [zS6, zS6]
  omega
theorem z_restsI {K : Int} {B : BK} (h : zI K B) (hK : K ≤ 2 ^ 30) : (f_X0_allRests B).toInt = zS (zv B 3) 6 ∧ 0 ≤ zS (zv B 3) 6 := by
  have h1 := zsh_tot h
  have h2 := z_rests_le h
  refine ⟨?_, zS_nn (fun i hi => (h.2.2.1 i hi).1)⟩
  show (zsum (B 3) 6).toInt = _
  exact zsum_int (g := B 3) (fun j hj => (h.2.2.1 j hj).1) (Int.lt_of_le_of_lt (Int.le_trans h2 h1.1) (by omega))
theorem z_daysI {K : Int} {B : BK} (h : zI K B) : (f_X0_allShareDays B).toInt = zS (zv B 1) 6 ∧ 0 ≤ zS (zv B 1) 6 ∧ zS (zv B 1) 6 ≤ 600000000 := by
  have g : ∀ n, n ≤ 6 → (f_X0_allShareDays_14 B 0 n).toInt = zS (zv B 1) n ∧ 0 ≤ zS (zv B 1) n ∧ zS (zv B 1) n ≤ 100000000 * n := by
    intro n
    induction n with
    | zero => intro _; exact ⟨Int64.toInt_zero, Int.le_refl 0, (by show (0 : Int) ≤ 100000000 * ((0 : Nat) : Int); omega)⟩
    | succ n ih =>
      intro hn
      obtain ⟨i1, i2, i3⟩ := ih (by omega)
      have h1 := h.1 n (by omega)
      have e9 : (B 1 n).toInt64.toInt = zv B 1 n := Int32.toInt_toInt64 _
      show (f_X0_allShareDays_14 B 0 n + (B 1 n).toInt64).toInt = zS (zv B 1) n + zv B 1 n ∧ 0 ≤ zS (zv B 1) n + zv B 1 n ∧ zS (zv B 1) n + zv B 1 n ≤ _
      rw [Jvm.Kit.i64_add (by omega) (by omega)]
      omega
  have := g 6 (by omega)
  exact ⟨this.1, this.2.1, by omega⟩
end ZJ

/-! what the deeds keep -/
section ZJ2
theorem zv_self (B : BK) (k i : Nat) (x : Int32) : zv (uB B k i x) k i = x.toInt := by
  unfold zv
  rw [uB_self]
theorem zv_ne (B : BK) {k k' i i' : Nat} (x : Int32) (h : ¬ (k' = k ∧ i' = i)) : zv (uB B k i x) k' i' = zv B k' i' := by
  unfold zv
  rw [uB_ne _ _ h]
theorem zv_row (B : BK) {k k' : Nat} (i i' : Nat) (x : Int32) (h : ¬ k' = k) : zv (uB B k i x) k' i' = zv B k' i' := zv_ne B x (fun e => h e.1)
theorem zbI_row (B : BK) {k : Nat} (i j : Nat) (x : Int32) (h : ¬ 2 = k) : zbI (uB B k i x) j = zbI B j := zS_congr (fun i' _ => zv_row B _ _ x h)
theorem zfI_row (B : BK) {k : Nat} (i j : Nat) (x : Int32) (h : ¬ 2 = k) : zfI (uB B k i x) j = zfI B j := zS_congr (fun i' _ => zv_row B _ _ x h)
theorem zbI_2 (B : BK) {m b : Nat} (x : Int32) (hb : b < 6) (j : Nat) (hm : m < 6) (hj : j < 6) : zbI (uB B 2 (m * 6 + b) x) j = zbI B j + (if j = m then x.toInt - zv B 2 (m * 6 + b) else 0) := by
  by_cases c : j = m
  · subst c
    rw [if_pos rfl]
    unfold zbI
    rw [zS_up (f := fun i => zv B 2 (j * 6 + i)) (g := fun i => zv (uB B 2 (j * 6 + b) x) 2 (j * 6 + i)) (j := b) (fun i hi => zv_ne B x (fun e => hi (by omega))) hb, zv_self]
  · rw [if_neg c, Int.add_zero]
    exact zS_congr (fun i hi => zv_ne B x (fun e => c (by omega)))
theorem zfI_2 (B : BK) {m b : Nat} (x : Int32) (hb : b < 6) (j : Nat) (hm : m < 6) (hj : j < 6) : zfI (uB B 2 (m * 6 + b) x) j = zfI B j + (if j = b then x.toInt - zv B 2 (m * 6 + b) else 0) := by
  by_cases c : j = b
  · subst c
    rw [if_pos rfl]
    unfold zfI
    rw [zS_up (f := fun i => zv B 2 (i * 6 + j)) (g := fun i => zv (uB B 2 (m * 6 + j) x) 2 (i * 6 + j)) (j := m) (fun i hi => zv_ne B x (fun e => hi (by omega))) hm, zv_self]
  · rw [if_neg c, Int.add_zero]
    exact zS_congr (fun i hi => zv_ne B x (fun e => c (by omega)))
theorem zI_set0 {K K' : Int} {B : BK} (h : zI K B) {i : Nat} (hi : i < 6) {x : Int32} (d : Int) (hx : x.toInt = zv B 0 i + d) (h1 : zbI B i ≤ zv B 0 i + d) (h2 : zv B 3 i ≤ zv B 0 i + d - zbI B i + zfI B i) (hk : K + d ≤ K') : zI K' (uB B 0 i x) := by
  obtain ⟨a1, a2, a3, a4, a5, a6, a7, a8⟩ := h
  refine ⟨fun j hj => ?_, fun j hj => ?_, fun j hj => ?_, fun j hj => ?_, fun j hj => ?_, ?_, ?_, ?_⟩
  · rw [zv_row B _ _ _ (by decide)]
    exact a1 j hj
  · rw [zv_row B _ _ _ (by decide)]
    exact a2 j hj
  · rw [zv_row B _ _ _ (by decide), zv_row B _ _ _ (by decide)]
    exact a3 j hj
  · rw [zbI_row B _ _ _ (by decide)]
    by_cases c : j = i
    · subst c
      rw [zv_self, hx]
      exact h1
    · rw [zv_ne B _ (fun e => c e.2)]
      exact a4 j hj
  · rw [zbI_row B _ _ _ (by decide), zfI_row B _ _ _ (by decide), zv_row B _ _ _ (by decide)]
    by_cases c : j = i
    · subst c
      rw [zv_self, hx]
      exact h2
    · rw [zv_ne B _ (fun e => c e.2)]
      exact a5 j hj
  · rw [zv_row B _ _ _ (by decide)]
    exact a6
  · rw [zv_row B _ _ _ (by decide), zv_row B _ _ _ (by decide)]
    exact a7
  · rw [zv_row B _ _ _ (by decide), zS_up (f := zv B 0) (g := zv (uB B 0 i x) 0) (j := i) (fun j hj => zv_ne B x (fun e => hj e.2)) hi, zv_self, hx]
    omega
theorem zI_set1 {K : Int} {B : BK} (h : zI K B) {i : Nat} {x : Int32} (h0 : 0 ≤ x.toInt) (h1 : x.toInt ≤ 100000000) : zI K (uB B 1 i x) := by
  obtain ⟨a1, a2, a3, a4, a5, a6, a7, a8⟩ := h
  refine ⟨fun j hj => ?_, fun j hj => ?_, fun j hj => ?_, fun j hj => ?_, fun j hj => ?_, ?_, ?_, ?_⟩
  · by_cases c : j = i
    · subst c
      rw [zv_self]
      exact ⟨h0, h1⟩
    · rw [zv_ne B _ (fun e => c e.2)]
      exact a1 j hj
  · rw [zv_row B _ _ _ (by decide)]
    exact a2 j hj
  · rw [zv_row B _ _ _ (by decide), zv_row B _ _ _ (by decide)]
    exact a3 j hj
  · rw [zbI_row B _ _ _ (by decide), zv_row B _ _ _ (by decide)]
    exact a4 j hj
  · rw [zbI_row B _ _ _ (by decide), zfI_row B _ _ _ (by decide), zv_row B _ _ _ (by decide), zv_row B _ _ _ (by decide)]
    exact a5 j hj
  · rw [zv_row B _ _ _ (by decide)]
    exact a6
  · rw [zv_row B _ _ _ (by decide), zv_row B _ _ _ (by decide)]
    exact a7
  · rw [zv_row B _ _ _ (by decide), zS_congr (f := zv (uB B 1 i x) 0) (g := zv B 0) (fun j _ => zv_row B _ _ x (by decide))]
    exact a8
theorem zI_set2 {K : Int} {B : BK} (h : zI K B) {m b : Nat} (hm : m < 6) (hb : b < 6) {x : Int32} (d : Int) (hx : x.toInt = zv B 2 (m * 6 + b) + d) (h0 : 0 ≤ zv B 2 (m * 6 + b) + d) (h1 : zbI B m + d ≤ zv B 0 m) (h2 : zv B 3 m ≤ zv B 0 m - (zbI B m + d) + zfI B m) (h3 : zv B 3 b ≤ zv B 0 b - zbI B b + (zfI B b + d)) : zI K (uB B 2 (m * 6 + b) x) := by
  obtain ⟨a1, a2, a3, a4, a5, a6, a7, a8⟩ := h
  have ed : x.toInt - zv B 2 (m * 6 + b) = d := by omega
  refine ⟨fun j hj => ?_, fun j hj => ?_, fun j hj => ?_, fun j hj => ?_, fun j hj => ?_, ?_, ?_, ?_⟩
  · rw [zv_row B _ _ _ (by decide)]
    exact a1 j hj
  · by_cases c : j = m * 6 + b
    · subst c
      rw [zv_self, hx]
      exact h0
    · rw [zv_ne B _ (fun e => c e.2)]
      exact a2 j hj
  · rw [zv_row B _ _ _ (by decide), zv_row B _ _ _ (by decide)]
    exact a3 j hj
  · rw [zbI_2 B x hb j hm hj, zv_row B _ _ _ (by decide), ed]
    have := a4 j hj
    by_cases c : j = m
    · subst c
      rw [if_pos rfl]
      exact h1
    · rw [if_neg c]
      omega
  · rw [zbI_2 B x hb j hm hj, zfI_2 B x hb j hm hj, zv_row B _ _ _ (by decide), zv_row B _ _ _ (by decide), ed]
    have := a5 j hj
    by_cases c : j = m
    · subst c
      rw [if_pos rfl]
      by_cases c2 : j = b
      · subst c2
        rw [if_pos rfl]
        omega
      · rw [if_neg c2]
        omega
    · rw [if_neg c]
      by_cases c2 : j = b
      · subst c2
        rw [if_pos rfl]
        omega
      · rw [if_neg c2]
        omega
  · rw [zv_row B _ _ _ (by decide)]
    exact a6
  · rw [zv_row B _ _ _ (by decide), zv_row B _ _ _ (by decide)]
    exact a7
  · rw [zv_row B _ _ _ (by decide), zS_congr (f := zv (uB B 2 (m * 6 + b) x) 0) (g := zv B 0) (fun j _ => zv_row B _ _ x (by decide))]
    exact a8
/-- a member's loan: rest and part -/
theorem zI_set34 {K : Int} {B : BK} (h : zI K B) {i : Nat} {x y : Int32} (h0 : 0 ≤ x.toInt) (h1 : x.toInt ≤ 9999) (h2 : x.toInt ≤ zv B 0 i - zbI B i + zfI B i) (h3 : 0 < x.toInt → 1 ≤ y.toInt ∧ y.toInt ≤ 9999) : zI K (uB (uB B 3 i x) 4 i y) := by
  obtain ⟨a1, a2, a3, a4, a5, a6, a7, a8⟩ := h
  refine ⟨fun j hj => ?_, fun j hj => ?_, fun j hj => ?_, fun j hj => ?_, fun j hj => ?_, ?_, ?_, ?_⟩
  · rw [zv_row _ _ _ _ (by decide), zv_row _ _ _ _ (by decide)]
    exact a1 j hj
  · rw [zv_row _ _ _ _ (by decide), zv_row _ _ _ _ (by decide)]
    exact a2 j hj
  · by_cases c : j = i
    · subst c
      rw [zv_self, zv_row _ _ _ _ (by decide), zv_self]
      exact ⟨h0, h1, h3⟩
    · rw [zv_ne _ (k := 4) _ (fun e => c e.2), zv_ne _ (k := 4) _ (fun e => c e.2), zv_ne _ _ (fun e => c e.2), zv_row _ _ _ _ (by decide)]
      exact a3 j hj
  · rw [zbI_row _ _ _ _ (by decide), zbI_row _ _ _ _ (by decide), zv_row _ _ _ _ (by decide), zv_row _ _ _ _ (by decide)]
    exact a4 j hj
  · rw [zbI_row _ _ _ _ (by decide), zbI_row _ _ _ _ (by decide), zfI_row _ _ _ _ (by decide), zfI_row _ _ _ _ (by decide), zv_row _ (k := 4) _ _ _ (by decide), zv_row _ (k := 4) _ _ _ (by decide), zv_row _ (k' := 0) _ _ _ (by decide)]
    by_cases c : j = i
    · subst c
      rw [zv_self]
      exact h2
    · rw [zv_ne _ _ (fun e => c e.2)]
      exact a5 j hj
  · rw [zv_row _ _ _ _ (by decide), zv_row _ _ _ _ (by decide)]
    exact a6
  · rw [zv_row _ (k := 4) _ _ _ (by decide), zv_row _ (k := 4) _ _ _ (by decide), zv_row _ _ _ _ (by decide), zv_row _ _ _ _ (by decide)]
    exact a7
  · rw [zv_row _ _ _ _ (by decide), zv_row _ _ _ _ (by decide), zS_congr (f := zv (uB (uB B 3 i x) 4 i y) 0) (g := zv B 0) (fun j _ => by rw [zv_row _ _ _ _ (by decide), zv_row _ _ _ _ (by decide)])]
    exact a8
/-- rows that are not spoken of -/
theorem zI_skip {K : Int} {B B' : BK} (h : zI K B) (hr : ∀ k, k < 5 → B' k = B k) (h7 : B' 7 0 = B 7 0) (h84 : zv B' 8 4 ≤ 9999) (h81 : B' 8 1 = B 8 1) : zI K B' := by
  obtain ⟨a1, a2, a3, a4, a5, a6, a7, a8⟩ := h
  have e : ∀ k j, k < 5 → zv B' k j = zv B k j := fun k j hk => by
    unfold zv
    rw [hr k hk]
  have eb : ∀ j, zbI B' j = zbI B j := fun j => zS_congr (fun i _ => e 2 _ (by omega))
  have ef : ∀ j, zfI B' j = zfI B j := fun j => zS_congr (fun i _ => e 2 _ (by omega))
  have e7 : zv B' 7 0 = zv B 7 0 := by
    unfold zv
    rw [h7]
  have e8 : zv B' 8 1 = zv B 8 1 := by
    unfold zv
    rw [h81]
  have et : zS (zv B' 0) 6 = zS (zv B 0) 6 := zS_congr (fun i _ => e 0 i (by omega))
  refine ⟨fun j hj => ?_, fun j hj => ?_, fun j hj => ?_, fun j hj => ?_, fun j hj => ?_, ?_, ?_, ?_⟩
  · rw [e 1 _ (by omega)]
    exact a1 j hj
  · rw [e 2 _ (by omega)]
    exact a2 j hj
  · rw [e 3 _ (by omega), e 4 _ (by omega)]
    exact a3 j hj
  · rw [eb, e 0 _ (by omega)]
    exact a4 j hj
  · rw [eb, ef, e 0 _ (by omega), e 3 _ (by omega)]
    exact a5 j hj
  · rw [e7]
    exact a6
  · rw [e8]
    exact ⟨h84, a7.2⟩
  · rw [et, e8]
    exact a8
/-- a row above the fourth, but for the fee, the surplus and the weeks -/
theorem zI_up {K : Int} {B : BK} (h : zI K B) {k i : Nat} {x : Int32} (hk : 5 ≤ k) (h7 : ¬ (7 = k ∧ 0 = i)) (h84 : ¬ (8 = k ∧ 4 = i)) (h81 : ¬ (8 = k ∧ 1 = i)) : zI K (uB B k i x) :=
  zI_skip h (fun k' hk' => uB_row B i x (by omega)) (uB_ne B x h7) (by rw [zv_ne B x h84]; exact h.2.2.2.2.2.2.1.1) (uB_ne B x h81)
theorem zI_sur {K K' : Int} {B : BK} (h : zI K B) {x : Int32} (d : Int) (hx : x.toInt = zv B 8 1 + d) (h0 : 0 ≤ zv B 8 1 + d) (hk : K + d ≤ K') : zI K' (uB B 8 1 x) := by
  obtain ⟨a1, a2, a3, a4, a5, a6, a7, a8⟩ := h
  refine ⟨fun j hj => ?_, fun j hj => ?_, fun j hj => ?_, fun j hj => ?_, fun j hj => ?_, ?_, ?_, ?_⟩
  · rw [zv_row B _ _ _ (by decide)]
    exact a1 j hj
  · rw [zv_row B _ _ _ (by decide)]
    exact a2 j hj
  · rw [zv_row B _ _ _ (by decide), zv_row B _ _ _ (by decide)]
    exact a3 j hj
  · rw [zbI_row B _ _ _ (by decide), zv_row B _ _ _ (by decide)]
    exact a4 j hj
  · rw [zbI_row B _ _ _ (by decide), zfI_row B _ _ _ (by decide), zv_row B _ _ _ (by decide), zv_row B _ _ _ (by decide)]
    exact a5 j hj
  · rw [zv_row B _ _ _ (by decide)]
    exact a6
  · rw [zv_ne B _ (by decide), zv_self, hx]
    exact ⟨a7.1, h0⟩
  · rw [zv_self, hx, zS_congr (f := zv (uB B 8 1 x) 0) (g := zv B 0) (fun j _ => zv_row B _ _ x (by decide))]
    omega
end ZJ2

/-! the deeds keep the books' bounds -/
section ZJ3
def zam (am : Int32) : Prop := 1 ≤ am.toInt ∧ am.toInt ≤ 9999
theorem zI_takeIn {K : Int} {B : BK} (h : zI K B) (hK : K ≤ 2 ^ 29) {mb : Nat} (hm : mb < 6) {am : Int32} (ha : zam am) : zI (K + 10000) (f_X0_takeIn B mb am).2 := by
  obtain ⟨ha1, ha2⟩ := ha
  have hs := zsh_le h hm
  have hs0 := zsh_nn h hm
  have e4 : (B 0 mb).toInt = zv B 0 mb := rfl
  unfold f_X0_takeIn
  by_cases c : B 0 mb + am ≤ 90000
  · rw [if_pos c]
    dsimp only
    have e : (B 0 mb + am).toInt = zv B 0 mb + am.toInt := by
      rw [Jvm.Kit.i32_add (by omega) (by omega), e4]
    have b1 := h.2.2.2.1 mb hm
    have b2 := h.2.2.2.2.1 mb hm
    exact zI_up (zI_set0 h hm am.toInt e (by omega) (by omega) (by omega)) (by omega) (by omega) (by omega) (by omega)
  · rw [if_neg c]
    exact zI_up (h.mono (by omega)) (by omega) (by omega) (by omega) (by omega)
theorem zI_giveOut {K : Int} {B : BK} (h : zI K B) (hK : K ≤ 2 ^ 29) {mb : Nat} (hm : mb < 6) {am : Int32} (ha : zam am) : zI K (f_X0_giveOut B mb am).2 := by
  obtain ⟨ha1, ha2⟩ := ha
  have hs := zsh_le h hm
  have hs0 := zsh_nn h hm
  have hb0 := zbI_nn h hm
  have e4 : (B 0 mb).toInt = zv B 0 mb := rfl
  unfold f_X0_giveOut
  by_cases c : am ≤ f_X0_freeShares B mb
  · rw [if_pos c]
    by_cases c2 : am ≤ B 8 0
    · rw [if_pos c2]
      dsimp only
      rw [Int32.le_iff_toInt_le, z_freeI h hK hm] at c
      have e : (B 0 mb - am).toInt = zv B 0 mb + -am.toInt := by
        rw [Jvm.Kit.i32_sub (by omega) (by omega), e4]
        omega
      exact zI_up (zI_set0 h hm (-am.toInt) e (by omega) (by omega) (by omega)) (by omega) (by omega) (by omega) (by omega)
    · rw [if_neg c2]
      exact zI_up h (by omega) (by omega) (by omega) (by omega)
  · rw [if_neg c]
    exact zI_up h (by omega) (by omega) (by omega) (by omega)
theorem zI_addPledge {K : Int} {B : BK} (h : zI K B) (hK : K ≤ 2 ^ 29) {mb br : Nat} (hm : mb < 6) (hb : br < 6) {am : Int32} (ha : zam am) : zI K (f_X0_addPledge B mb br am).2 := by
  obtain ⟨ha1, ha2⟩ := ha
  have hs := zsh_le h hm
  have hp := zbI_one h hm hb
  have hp0 := h.2.1 (mb * 6 + br) (by omega)
  have b1 := h.2.2.2.1 mb hm
  have b2 := h.2.2.2.2.1 br hb
  have e4 : (B 2 (mb * 6 + br)).toInt = zv B 2 (mb * 6 + br) := rfl
  unfold f_X0_addPledge
  by_cases c : am ≤ f_X0_freeShares B mb
  · rw [if_pos c]
    dsimp only
    rw [Int32.le_iff_toInt_le, z_freeI h hK hm] at c
    have e : (B 2 (mb * 6 + br) + am).toInt = zv B 2 (mb * 6 + br) + am.toInt := by
      rw [Jvm.Kit.i32_add (by omega) (by omega), e4]
    exact zI_set2 h hm hb am.toInt e (by omega) (by omega) (by omega) (by omega)
  · rw [if_neg c]
    exact zI_up h (by omega) (by omega) (by omega) (by omega)
theorem zI_dropPledge {K : Int} {B : BK} (h : zI K B) (hK : K ≤ 2 ^ 29) {mb br : Nat} (hm : mb < 6) (hb : br < 6) {am : Int32} (ha : zam am) : zI K (f_X0_dropPledge B mb br am).2 := by
  obtain ⟨ha1, ha2⟩ := ha
  have hs := zsh_le h hm
  have hp := zbI_one h hm hb
  have hp0 := h.2.1 (mb * 6 + br) (by omega)
  have b1 := h.2.2.2.1 mb hm
  have b2 := h.2.2.2.2.1 mb hm
  have b3 := h.2.2.2.2.1 br hb
  have b4 := h.2.2.1 br hb
  have q1 := zsh_le h hb
  have q2 := zbI_nn h hb
  have q3 := zfI_le h hb
  have e4 : (B 2 (mb * 6 + br)).toInt = zv B 2 (mb * 6 + br) := rfl
  have e5 : (B 3 br).toInt = zv B 3 br := rfl
  have e6 := z_coverI h hK hb
  unfold f_X0_dropPledge
  by_cases c : am ≤ B 2 (mb * 6 + br)
  · rw [if_pos c]
    by_cases c2 : B 3 br ≤ f_X0_cover B br - am
    · rw [if_pos c2]
      dsimp only
      rw [Int32.le_iff_toInt_le] at c
      rw [Int32.le_iff_toInt_le, Jvm.Kit.i32_sub (by omega) (by omega)] at c2
      have e : (B 2 (mb * 6 + br) - am).toInt = zv B 2 (mb * 6 + br) + -am.toInt := by
        rw [Jvm.Kit.i32_sub (by omega) (by omega), e4]
        omega
      exact zI_set2 h hm hb (-am.toInt) e (by omega) (by omega) (by omega) (by omega)
    · rw [if_neg c2]
      exact zI_up h (by omega) (by omega) (by omega) (by omega)
  · rw [if_neg c]
    exact zI_up h (by omega) (by omega) (by omega) (by omega)
/-- the fee -/
theorem z_feeI {K : Int} {B : BK} (h : zI K B) {am : Int32} (ha : zam am) : (f_X0_feeOf B am).toInt = am.toInt * zv B 7 0 / 1000 ∧ 0 ≤ am.toInt * zv B 7 0 ∧ am.toInt * zv B 7 0 ≤ 999900 := by
  obtain ⟨ha1, ha2⟩ := ha
  obtain ⟨r0, r1⟩ := h.2.2.2.2.2.1
  have m0 : 0 ≤ am.toInt * zv B 7 0 := Int.mul_nonneg (by omega) r0
  have m1 : am.toInt * zv B 7 0 ≤ 9999 * 100 := Int.mul_le_mul ha2 r1 r0 (by omega)
  have e4 : (B 7 0).toInt = zv B 7 0 := rfl
  have e : (am * B 7 0).toInt = am.toInt * zv B 7 0 := by
    rw [Jvm.Kit.i32_mul (by rw [e4]; omega) (by rw [e4]; omega), e4]
  have e3 : (1000 : Int32).toInt = 1000 := by decide
  refine ⟨?_, m0, by omega⟩
  unfold f_X0_feeOf
  rw [Jvm.Kit.i32_div (by rw [e3]; omega), e, e3, Int.tdiv_eq_ediv_of_nonneg m0]
theorem zw_cover {B : BK} {mb : Nat} {am : Int32} (h : f_X0_whyNoLoan B mb am = 0) : am ≤ f_X0_cover B mb := by
  unfold f_X0_whyNoLoan f_X0_whyAbove at h
  by_cases c : f_X0_hasLoan B mb = 0
  · rw [if_pos c] at h
    by_cases c2 : am ≤ f_X0_threefold B mb
    · rw [if_pos c2] at h
      by_cases c3 : am ≤ f_X0_cover B mb
      · exact c3
      · rw [if_neg c3] at h
        exact absurd h (by decide)
    · rw [if_neg c2] at h
      exact absurd h (by decide)
  · rw [if_neg c] at h
    exact absurd h (by decide)
theorem z_partI {am wk : Int32} (ha : zam am) (hw : 1 ≤ wk.toInt ∧ wk.toInt ≤ 52) : 1 ≤ ((am + wk - 1) / wk).toInt ∧ ((am + wk - 1) / wk).toInt ≤ 9999 := by
  obtain ⟨ha1, ha2⟩ := ha
  obtain ⟨hw1, hw2⟩ := hw
  have e1 : (1 : Int32).toInt = 1 := by decide
  have e : (am + wk - 1).toInt = am.toInt + wk.toInt - 1 := by
    have : (am + wk).toInt = am.toInt + wk.toInt := Jvm.Kit.i32_add (by omega) (by omega)
    rw [Jvm.Kit.i32_sub (by omega) (by omega), this, e1]
  rw [Jvm.Kit.i32_div (by omega), e, Int.tdiv_eq_ediv_of_nonneg (by omega)]
  generalize am.toInt = a at *
  generalize wk.toInt = w at *
  refine ⟨Int.le_ediv_of_mul_le (by omega) (by omega), ?_⟩
  have h2 : (a + w - 1) / w ≤ a := by
    refine Int.le_of_lt_add_one (Int.ediv_lt_of_lt_mul (by omega) ?_)
    have : (a + 1) * w = a * w + w := by rw [Int.add_mul, Int.one_mul]
    have : a * 1 ≤ a * w := Int.mul_le_mul_of_nonneg_left hw1 (by omega)
    omega
  omega
theorem zI_lend {K : Int} {B : BK} (h : zI K B) (hK : K ≤ 2 ^ 29) {mb : Nat} (hm : mb < 6) {am wk : Int32} (ha : zam am) (hw : 1 ≤ wk.toInt ∧ wk.toInt ≤ 52) : zI (K + 10000) (f_X0_lend B mb am wk).2 := by
  unfold f_X0_lend
  by_cases c : f_X0_whyNoLoan B mb am = 0
  · rw [if_pos c]
    dsimp only
    have hc := zw_cover c
    rw [Int32.le_iff_toInt_le, z_coverI h hK hm] at hc
    obtain ⟨f1, f2, f3⟩ := z_feeI h ha
    have hsu := h.2.2.2.2.2.2.1.2
    have htt := zsh_tot h
    have h8 := h.2.2.2.2.2.2.2
    generalize f_X0_feeOf B am = f at *
    have g1 : zI K (uB B 8 0 (B 8 0 - (am - f))) := zI_up h (by omega) (by omega) (by omega) (by omega)
    have e1 : (uB B 8 0 (B 8 0 - (am - f))) 8 1 = B 8 1 := uB_ne _ _ (by decide)
    rw [e1]
    have e4 : (B 8 1).toInt = zv B 8 1 := rfl
    have e5 : (B 8 1 + f).toInt = zv B 8 1 + f.toInt := by
      rw [Jvm.Kit.i32_add (by omega) (by omega), e4]
    have ez : zv (uB B 8 0 (B 8 0 - (am - f))) 8 1 = zv B 8 1 := zv_ne _ _ (by decide)
    have g2 : zI (K + 10000) (uB (uB B 8 0 (B 8 0 - (am - f))) 8 1 (B 8 1 + f)) := zI_sur g1 f.toInt (by rw [ez]; exact e5) (by rw [ez]; omega) (by omega)
    have k0 : zv (uB (uB B 8 0 (B 8 0 - (am - f))) 8 1 (B 8 1 + f)) 0 mb = zv B 0 mb := by rw [zv_row _ _ _ _ (by decide), zv_row _ _ _ _ (by decide)]
    have k1 : zbI (uB (uB B 8 0 (B 8 0 - (am - f))) 8 1 (B 8 1 + f)) mb = zbI B mb := by rw [zbI_row _ _ _ _ (by decide), zbI_row _ _ _ _ (by decide)]
    have k2 : zfI (uB (uB B 8 0 (B 8 0 - (am - f))) 8 1 (B 8 1 + f)) mb = zfI B mb := by rw [zfI_row _ _ _ _ (by decide), zfI_row _ _ _ _ (by decide)]
    generalize uB (uB B 8 0 (B 8 0 - (am - f))) 8 1 (B 8 1 + f) = B2 at *
    have g3 : zI (K + 10000) (uB (uB B2 3 mb am) 4 mb ((am + wk - 1) / wk)) := zI_set34 g2 (by have := ha.1; omega) ha.2 (by rw [k0, k1, k2]; exact hc) (fun _ => z_partI ha hw)
    generalize uB (uB B2 3 mb am) 4 mb ((am + wk - 1) / wk) = B3 at *
    exact zI_up (zI_up (zI_up g3 (by omega) (by omega) (by omega) (by omega)) (by omega) (by omega) (by omega) (by omega)) (by omega) (by omega) (by omega) (by omega)
  · rw [if_neg c]
    exact zI_up (h.mono (by omega)) (by omega) (by omega) (by omega) (by omega)
theorem zI_set3 {K : Int} {B : BK} (h : zI K B) {i : Nat} {x : Int32} (h0 : 0 ≤ x.toInt) (h1 : x.toInt ≤ 9999) (h2 : x.toInt ≤ zv B 0 i - zbI B i + zfI B i) (h3 : 0 < x.toInt → 1 ≤ zv B 4 i ∧ zv B 4 i ≤ 9999) : zI K (uB B 3 i x) := by
  have := zI_set34 h (y := B 4 i) h0 h1 h2 h3
  rw [show B 4 i = (uB B 3 i x) 4 i from (by rw [uB_row _ _ _ (by decide)]), uB_id] at this
  exact this
theorem zI_takeBack {K : Int} {B : BK} (h : zI K B) {mb : Nat} (hm : mb < 6) {am : Int32} (ha : zam am) : zI K (f_X0_takeBack B mb am).2 := by
  obtain ⟨ha1, ha2⟩ := ha
  unfold f_X0_takeBack
  by_cases c : am ≤ B 3 mb
  · rw [if_pos c]
    dsimp only
    rw [Int32.le_iff_toInt_le] at c
    have e4 : (B 3 mb).toInt = zv B 3 mb := rfl
    have b3 := h.2.2.1 mb hm
    have b5 := h.2.2.2.2.1 mb hm
    have g1 : zI K (uB B 8 0 (B 8 0 + am)) := zI_up h (by omega) (by omega) (by omega) (by omega)
    have k0 : zv (uB B 8 0 (B 8 0 + am)) 0 mb = zv B 0 mb := by rw [zv_row _ _ _ _ (by decide)]
    have k1 : zbI (uB B 8 0 (B 8 0 + am)) mb = zbI B mb := by rw [zbI_row _ _ _ _ (by decide)]
    have k2 : zfI (uB B 8 0 (B 8 0 + am)) mb = zfI B mb := by rw [zfI_row _ _ _ _ (by decide)]
    have k3 : zv (uB B 8 0 (B 8 0 + am)) 4 mb = zv B 4 mb := by rw [zv_row _ _ _ _ (by decide)]
    have k4 : (uB B 8 0 (B 8 0 + am)) 3 mb = B 3 mb := by rw [uB_row _ _ _ (by decide)]
    rw [k4]
    generalize uB B 8 0 (B 8 0 + am) = B2 at *
    have e : (B 3 mb - am).toInt = zv B 3 mb - am.toInt := by
      rw [Jvm.Kit.i32_sub (by omega) (by omega), e4]
    have g2 : zI K (uB B2 3 mb (B 3 mb - am)) := zI_set3 g1 (by omega) (by omega) (by omega) (fun q => by rw [k3]; exact b3.2.2 (by omega))
    exact zI_up g2 (by omega) (by omega) (by omega) (by omega)
  · rw [if_neg c]
    exact zI_up h (by omega) (by omega) (by omega) (by omega)
/-- something is taken from a pledge and from the shares behind it -/
theorem zI_take {K : Int} {B : BK} (h : zI K B) (hK : K ≤ 2 ^ 29) {n mb : Nat} (hn : n < 6) (hm : mb < 6) (hr : zv B 3 mb = 0) {t : Int32} (t0 : 0 ≤ t.toInt) (t1 : t.toInt ≤ zv B 2 (n * 6 + mb)) : zI K (uB (uB B 0 n (B 0 n - t)) 2 (n * 6 + mb) (B 2 (n * 6 + mb) - t)) := by
  have hs := zsh_le h hn
  have hs0 := zsh_nn h hn
  have hp := zbI_one h hn hm
  have hq := zfI_one h hm hn
  have b1 := h.2.2.2.1 n hn
  have b2 := h.2.2.2.2.1 n hn
  have b3 := h.2.2.2.1 mb hm
  have e4 : (B 0 n).toInt = zv B 0 n := rfl
  have e5 : (B 2 (n * 6 + mb)).toInt = zv B 2 (n * 6 + mb) := rfl
  have e1 : (B 2 (n * 6 + mb) - t).toInt = zv B 2 (n * 6 + mb) + -t.toInt := by
    rw [Jvm.Kit.i32_sub (by omega) (by omega), e5]
    omega
  have g1 : zI K (uB B 2 (n * 6 + mb) (B 2 (n * 6 + mb) - t)) := zI_set2 h hn hm (-t.toInt) e1 (by omega) (by omega) (by omega) (by omega)
  rw [uB_comm B (k := 0) (k' := 2) _ _ _ _ (by decide)]
  have k0 : zv (uB B 2 (n * 6 + mb) (B 2 (n * 6 + mb) - t)) 0 n = zv B 0 n := zv_row _ _ _ _ (by decide)
  have k3 : zv (uB B 2 (n * 6 + mb) (B 2 (n * 6 + mb) - t)) 3 n = zv B 3 n := zv_row _ _ _ _ (by decide)
  have k1 := zbI_2 B (B 2 (n * 6 + mb) - t) (b := mb) (m := n) hm n hn hn
  rw [if_pos rfl, e1] at k1
  have k2 := zfI_2 B (B 2 (n * 6 + mb) - t) (b := mb) (m := n) hm n hn hn
  rw [e1] at k2
  generalize uB B 2 (n * 6 + mb) (B 2 (n * 6 + mb) - t) = B2 at *
  refine zI_set0 g1 hn (-t.toInt) ?_ ?_ ?_ (by omega)
  · rw [k0, Jvm.Kit.i32_sub (by omega) (by omega), e4]
    omega
  · omega
  · rw [k0, k1, k2, k3]
    by_cases c : n = mb
    · subst c
      rw [if_pos rfl]
      omega
    · rw [if_neg c]
      omega
theorem zI_due34 {K : Int} {B0 : BK} {mb : Nat} (hK : K ≤ 2 ^ 29) (hm : mb < 6) {due : Int32} {B : BK} (h : zI K (uB B 3 mb 0)) (hd : 0 ≤ due.toInt) : ∀ n, n ≤ 6 → zI K (uB (f_X0_takeDue_34 B0 mb due B n).2 3 mb 0) ∧ 0 ≤ (f_X0_takeDue_34 B0 mb due B n).1.toInt := by
  intro n
  induction n with
  | zero => intro _; exact ⟨h, hd⟩
  | succ n ih =>
    intro hn
    obtain ⟨i1, i2⟩ := ih (by omega)
    unfold f_X0_takeDue_34
    dsimp only
    generalize (f_X0_takeDue_34 B0 mb due B n).1 = d at *
    generalize (f_X0_takeDue_34 B0 mb due B n).2 = C at *
    have ep : (uB C 3 mb 0) 2 (n * 6 + mb) = C 2 (n * 6 + mb) := by rw [uB_row _ _ _ (by decide)]
    have es : (uB C 3 mb 0) 0 n = C 0 n := by rw [uB_row _ _ _ (by decide)]
    have ev : zv (uB C 3 mb 0) 2 (n * 6 + mb) = (C 2 (n * 6 + mb)).toInt := by
      unfold zv
      rw [ep]
    have p0 := i1.2.1 (n * 6 + mb) (by omega)
    rw [ev] at p0
    have ez := z_zmin d (C 2 (n * 6 + mb))
    have er : zv (uB C 3 mb 0) 3 mb = 0 := by
      rw [zv_self]
      exact Int32.toInt_zero
    generalize zmin d (C 2 (n * 6 + mb)) = t at *
    have g := zI_take i1 hK (n := n) (mb := mb) (by omega) hm er (t := t) (by omega) (by rw [ev]; omega)
    rw [ep, es] at g
    refine ⟨?_, ?_⟩
    · rw [uB_row C n _ (by decide : ¬ 2 = 0), uB_comm _ (k := 2) (k' := 3) _ _ _ _ (by decide), uB_comm _ (k := 0) (k' := 3) _ _ _ _ (by decide)]
      exact g
    · have := d.toInt_lt
      rw [Jvm.Kit.i32_sub (by omega) (by omega)]
      omega
theorem zI_due {K : Int} {B : BK} (h : zI K B) (hK : K ≤ 2 ^ 29) {mb : Nat} (hm : mb < 6) : zI K (f_X0_takeDue B mb) := by
  have b3 := h.2.2.1 mb hm
  have b1 := h.2.2.2.1 mb hm
  have b5 := h.2.2.2.2.1 mb hm
  have hs := zsh_le h hm
  have hs0 := zsh_nn h hm
  have hb0 := zbI_nn h hm
  have hf0 := zfI_nn h hm
  have eo := z_ownI h (by omega) hm
  have ez := z_zmin (B 3 mb) (f_X0_ownLeft B mb)
  have e3 : (B 3 mb).toInt = zv B 3 mb := rfl
  have e4 : (B 0 mb).toInt = zv B 0 mb := rfl
  unfold f_X0_takeDue
  dsimp only
  generalize zmin (B 3 mb) (f_X0_ownLeft B mb) = own at *
  have g0 : zI K (uB B 3 mb 0) := zI_set3 h (by rw [Int32.toInt_zero]; omega) (by rw [Int32.toInt_zero]; omega) (by rw [Int32.toInt_zero]; omega) (fun q => by rw [Int32.toInt_zero] at q; omega)
  have k0 : zv (uB B 3 mb 0) 0 mb = zv B 0 mb := zv_row _ _ _ _ (by decide)
  have k1 : zbI (uB B 3 mb 0) mb = zbI B mb := zbI_row _ _ _ _ (by decide)
  have k2 : zfI (uB B 3 mb 0) mb = zfI B mb := zfI_row _ _ _ _ (by decide)
  have k3 : zv (uB B 3 mb 0) 3 mb = 0 := by rw [zv_self]; exact Int32.toInt_zero
  have g1 : zI K (uB (uB B 0 mb (B 0 mb - own)) 3 mb 0) := by
    rw [uB_comm B (k := 0) (k' := 3) _ _ _ _ (by decide)]
    refine zI_set0 g0 hm (-own.toInt) ?_ ?_ ?_ (by omega)
    · rw [k0, Jvm.Kit.i32_sub (by omega) (by omega), e4]
      omega
    · omega
    · omega
  exact (zI_due34 hK hm g1 (by rw [Jvm.Kit.i32_sub (by omega) (by omega)]; omega) 6 (by omega)).1
theorem zI_weekOf {K : Int} {B : BK} (h : zI K B) (hK : K ≤ 2 ^ 29) {mb : Nat} (hm : mb < 6) : zI K (f_X0_endWeekOf B mb).2 := by
  have g : ∀ x, zI K (uB (uB B 6 mb x) 5 mb 0) := fun x => zI_up (zI_up h (by omega) (by omega) (by omega) (by omega)) (by omega) (by omega) (by omega) (by omega)
  unfold f_X0_endWeekOf
  refine zif (fun (r : Int32 × BK) => zI K r.2) (fun _ => ?_) (fun _ => ?_)
  · refine zif (fun (r : Int32 × BK) => zI K r.2) (fun _ => ?_) (fun _ => ?_)
    · exact zI_due (g 0) hK hm
    · exact g 0
  · refine zif (fun (r : Int32 × BK) => zI K r.2) (fun _ => ?_) (fun _ => ?_)
    · exact zI_due (g _) hK hm
    · exact g _
theorem zI_week4 {K : Int} {B : BK} (h : zI K B) (hK : K ≤ 2 ^ 29) : ∀ n, n ≤ 6 → zI K (f_X0_endWeek_4 B 0 B n).2 ∧ (f_X0_endWeek_4 B 0 B n).2 8 = B 8 := by
  intro n
  induction n with
  | zero => intro _; exact ⟨h, rfl⟩
  | succ n ih =>
    intro hn
    obtain ⟨i1, i2⟩ := ih (by omega)
    unfold f_X0_endWeek_4
    dsimp only
    generalize (f_X0_endWeek_4 B 0 B n).1 = d at *
    generalize (f_X0_endWeek_4 B 0 B n).2 = C at *
    refine zif (fun (r : Int32 × BK) => zI K r.2 ∧ r.2 8 = B 8) (fun _ => ⟨i1, i2⟩) (fun _ => ?_)
    have w1 := zI_weekOf i1 hK (mb := n) (by omega)
    have w2 := zr8_week C n
    exact zif (fun (r : Int32 × BK) => zI K r.2 ∧ r.2 8 = B 8) (fun _ => ⟨w1, w2.trans i2⟩) (fun _ => ⟨w1, w2.trans i2⟩)
theorem zI_endWeek {K : Int} {B : BK} (h : zI K B) (hK : K ≤ 2 ^ 29) (hc : ¬ f_X0_canEndWeek B = 0) : zI K (f_X0_endWeek B).2 := by
  have hw : zv B 8 4 < 9999 := by
    unfold f_X0_canEndWeek at hc
    by_cases c : 9999 ≤ B 8 4
    · rw [if_pos c] at hc
      exact absurd rfl hc
    · rw [Int32.le_iff_toInt_le] at c
      have e3 : (9999 : Int32).toInt = 9999 := by decide
      unfold zv
      omega
  obtain ⟨g1, g2⟩ := zI_week4 h hK 6 (by omega)
  unfold f_X0_endWeek
  dsimp only
  generalize (f_X0_endWeek_4 B 0 B 6).1 = d at *
  generalize (f_X0_endWeek_4 B 0 B 6).2 = C at *
  have e1 : (1 : Int32).toInt = 1 := by decide
  have e2 : (C 8 4 + 1).toInt ≤ 9999 := by
    rw [g2]
    have q := (B 8 4).le_toInt
    unfold zv at hw
    rw [Jvm.Kit.i32_add (by omega) (by omega)]
    omega
  have k : zI K (uB C 8 4 (C 8 4 + 1)) := zI_skip g1 (fun k hk => uB_row C _ _ (by omega)) (uB_ne C _ (by decide)) (by rw [zv_self]; exact e2) (uB_ne C _ (by decide))
  exact zI_up k (by omega) (by omega) (by omega) (by omega)
end ZJ3

/-! days and dividends keep the books' bounds -/
section ZJ4
theorem zI_add2 {K : Int} {B : BK} (h : zI K B) {dd : Int32} (h0 : 1 ≤ dd.toInt ∧ dd.toInt ≤ 99) (hc : ∀ i, i < 6 → zok B dd i) : ∀ n, n ≤ 6 → zI K (f_X0_addDays_2 B dd B n) ∧ (f_X0_addDays_2 B dd B n) 0 = B 0 ∧ ∀ j, n ≤ j → (f_X0_addDays_2 B dd B n) 1 j = B 1 j := by
  intro n
  induction n with
  | zero => intro _; exact ⟨h, rfl, fun _ _ => rfl⟩
  | succ n ih =>
    intro hn
    obtain ⟨i1, i2, i3⟩ := ih (by omega)
    unfold f_X0_addDays_2
    dsimp only
    generalize f_X0_addDays_2 B dd B n = C at *
    rw [i2, i3 n (Nat.le_refl n)]
    have a1 := h.1 n (by omega)
    have a2 := zsh_nn h (i := n) (by omega)
    have hz := hc n (by omega)
    unfold zok at hz
    have e1 : (B 1 n).toInt64.toInt = zv B 1 n := Int32.toInt_toInt64 _
    have e2 : (B 0 n).toInt64.toInt = zv B 0 n := Int32.toInt_toInt64 _
    have e3 : dd.toInt64.toInt = dd.toInt := Int32.toInt_toInt64 _
    have e4 : (B 0 n).toInt = zv B 0 n := rfl
    have e5 : (B 1 n).toInt = zv B 1 n := rfl
    have e6 : (100000000 : Int64).toInt = 100000000 := by decide
    have q1 := (B 0 n).toInt_lt
    have m0 : 0 ≤ zv B 0 n * dd.toInt := Int.mul_nonneg a2 (by omega)
    have m1 : zv B 0 n * dd.toInt ≤ 2147483648 * 99 := Int.mul_le_mul (by omega) h0.2 (by omega) (by omega)
    have e7 : ((B 0 n).toInt64 * dd.toInt64).toInt = zv B 0 n * dd.toInt := by
      rw [Jvm.Kit.i64_mul (by rw [e2, e3]; omega) (by rw [e2, e3]; omega), e2, e3]
    rw [Int64.le_iff_toInt_le, e6, Jvm.Kit.i64_add (by omega) (by omega), e1, e7] at hz
    have e8 : (B 0 n * dd).toInt = zv B 0 n * dd.toInt := by
      rw [Jvm.Kit.i32_mul (by rw [e4]; omega) (by rw [e4]; omega), e4]
    have e9 : (B 1 n + B 0 n * dd).toInt = zv B 1 n + zv B 0 n * dd.toInt := by
      rw [Jvm.Kit.i32_add (by omega) (by omega), e5, e8]
    refine ⟨zI_set1 i1 (by omega) (by omega), ?_, fun j hj => ?_⟩
    · rw [uB_row _ _ _ (by decide)]
      exact i2
    · rw [uB_ne _ _ (by omega)]
      exact i3 j (by omega)
theorem zI_addDays {K : Int} {B : BK} (h : zI K B) {dd : Int32} (h0 : 1 ≤ dd.toInt ∧ dd.toInt ≤ 99) (hc : ∀ i, i < 6 → zok B dd i) : zI K (f_X0_addDays B dd).2 := by
  obtain ⟨g, _, _⟩ := zI_add2 h h0 hc 6 (by omega)
  unfold f_X0_addDays
  dsimp only
  exact zI_up g (by omega) (by omega) (by omega) (by omega)
/-- what the first n get -/
def zG (B : BK) : Nat → Int := zS (fun i => zv B 8 1 * zv B 1 i / zS (zv B 1) 6)
theorem z_dvI {K : Int} {B : BK} (h : zI K B) (hK : K ≤ 2 ^ 29) {i : Nat} (hi : i < 6) (ha : 1 ≤ f_X0_allShareDays B) : (f_X0_dividendOf B i (f_X0_allShareDays B)).toInt = zv B 8 1 * zv B 1 i / zS (zv B 1) 6 ∧ 0 ≤ zv B 8 1 * zv B 1 i / zS (zv B 1) 6 ∧ zv B 8 1 * zv B 1 i / zS (zv B 1) 6 ≤ zv B 8 1 ∧ 0 < zS (zv B 1) 6 := by
  obtain ⟨d1, d2, d3⟩ := z_daysI h
  have e6 : (1 : Int64).toInt = 1 := by decide
  have hp : 0 < zS (zv B 1) 6 := by
    rw [Int64.le_iff_toInt_le, e6, d1] at ha
    omega
  have hsu := h.2.2.2.2.2.2.1.2
  have htt := zsh_tot h
  have h8 := h.2.2.2.2.2.2.2
  obtain ⟨a0, a1⟩ := h.1 i hi
  have al : zv B 1 i ≤ zS (zv B 1) 6 := zS_one (f := zv B 1) (fun j hj => (h.1 j hj).1) hi
  have m0 : 0 ≤ zv B 8 1 * zv B 1 i := Int.mul_nonneg hsu a0
  have m1 : zv B 8 1 * zv B 1 i ≤ 2 ^ 29 * 100000000 := Int.mul_le_mul (by omega) a1 a0 (by omega)
  have m2 : zv B 8 1 * zv B 1 i ≤ zv B 8 1 * zS (zv B 1) 6 := Int.mul_le_mul_of_nonneg_left al hsu
  have e1 : (B 8 1).toInt64.toInt = zv B 8 1 := Int32.toInt_toInt64 _
  have e2 : (B 1 i).toInt64.toInt = zv B 1 i := Int32.toInt_toInt64 _
  have e3 : ((B 8 1).toInt64 * (B 1 i).toInt64).toInt = zv B 8 1 * zv B 1 i := by
    rw [Jvm.Kit.i64_mul (by rw [e1, e2]; omega) (by rw [e1, e2]; omega), e1, e2]
  have q0 : 0 ≤ zv B 8 1 * zv B 1 i / zS (zv B 1) 6 := Int.ediv_nonneg m0 (by omega)
  have q1 : zv B 8 1 * zv B 1 i / zS (zv B 1) 6 ≤ zv B 8 1 := Int.ediv_le_of_le_mul hp m2
  refine ⟨?_, q0, q1, hp⟩
  unfold f_X0_dividendOf
  rw [if_pos ha]
  have e4 : ((B 8 1).toInt64 * (B 1 i).toInt64 / f_X0_allShareDays B).toInt = zv B 8 1 * zv B 1 i / zS (zv B 1) 6 := by
    rw [Jvm.Kit.i64_div (by omega), e3, d1, Int.tdiv_eq_ediv_of_nonneg m0]
  rw [Jvm.Kit.i32_of_i64 (by omega) (by omega), e4]
theorem zG_mul {K : Int} {B : BK} (h : zI K B) (hp : 0 < zS (zv B 1) 6) : ∀ n, n ≤ 6 → zG B n * zS (zv B 1) 6 ≤ zv B 8 1 * zS (zv B 1) n := by
  intro n
  induction n with
  | zero =>
    intro _
    show (0 : Int) * _ ≤ _ * 0
    rw [Int.zero_mul, Int.mul_zero]
    exact Int.le_refl 0
  | succ n ih =>
    intro hn
    have i1 := ih (by omega)
    have h1 := Int.ediv_mul_le (zv B 8 1 * zv B 1 n) (b := zS (zv B 1) 6) (by omega)
    show (zG B n + zv B 8 1 * zv B 1 n / zS (zv B 1) 6) * zS (zv B 1) 6 ≤ zv B 8 1 * (zS (zv B 1) n + zv B 1 n)
    rw [Int.add_mul, Int.mul_add]
    omega
theorem zG_le {K : Int} {B : BK} (h : zI K B) (hp : 0 < zS (zv B 1) 6) {n : Nat} (hn : n ≤ 6) : 0 ≤ zG B n ∧ zG B n ≤ zv B 8 1 := by
  have hsu := h.2.2.2.2.2.2.1.2
  have h1 := zG_mul h hp n hn
  have h2 : zS (zv B 1) n ≤ zS (zv B 1) 6 := zS_mono (fun i hi => (h.1 i hi).1) hn
  have h3 : zv B 8 1 * zS (zv B 1) n ≤ zv B 8 1 * zS (zv B 1) 6 := Int.mul_le_mul_of_nonneg_left h2 hsu
  refine ⟨zS_nn (fun i hi => Int.ediv_nonneg (Int.mul_nonneg hsu (h.1 i (by omega)).1) (by omega)), ?_⟩
  exact Int.le_of_mul_le_mul_right (Int.le_trans h1 h3) hp
theorem zI_sh0 {K : Int} {B : BK} (h : zI K B) (hK : K ≤ 2 ^ 29) (ha : 1 ≤ f_X0_allShareDays B) : ∀ n, n ≤ 6 → zI (K + zG B n) (zSh B n 0) := by
  intro n
  induction n with
  | zero =>
    intro _
    rw [zSh_0]
    exact h.mono (by show K ≤ K + 0; omega)
  | succ n ih =>
    intro hn
    have i1 := ih (by omega)
    obtain ⟨q1, q2, q3, q4⟩ := z_dvI h hK (i := n) (by omega) ha
    have g1 := zG_le h q4 (n := n + 1) (by omega)
    have eG : zG B (n + 1) = zG B n + zv B 8 1 * zv B 1 n / zS (zv B 1) 6 := rfl
    have hsu := h.2.2.2.2.2.2.1.2
    have htt := zsh_tot h
    have h8 := h.2.2.2.2.2.2.2
    have s0 := zsh_nn h (i := n) (by omega)
    have s1 := zsh_le h (i := n) (by omega)
    have e4 : (B 0 n).toInt = zv B 0 n := rfl
    rw [← zSh_n]
    have k0 : zv (zSh B n 0) 0 n = zv B 0 n := by
      unfold zv
      rw [zSh_r0 B (Nat.le_refl n)]
    have b1 := i1.2.2.2.1 n (by omega)
    have b2 := i1.2.2.2.2.1 n (by omega)
    refine zI_set0 i1 (by omega) (zv B 8 1 * zv B 1 n / zS (zv B 1) 6) ?_ (by omega) (by omega) (by omega)
    rw [k0, Jvm.Kit.i32_add (by omega) (by omega), e4, q1]
theorem zI_sh1 {K : Int} {B : BK} (h : zI K (zSh B 6 0)) : ∀ n, n ≤ 6 → zI K (zSh B 6 n) := by
  intro n
  induction n with
  | zero => intro _; exact h
  | succ n ih =>
    intro hn
    rw [← zSh_m]
    exact zI_set1 (ih (by omega)) (by rw [Int32.toInt_zero]; omega) (by rw [Int32.toInt_zero]; omega)
theorem zdvI {K : Int} {B : BK} (h : zI K B) (hK : K ≤ 2 ^ 29) (ha : 1 ≤ f_X0_allShareDays B) : ∀ n, n ≤ 6 → (zdv B n).toInt = zG B n := by
  intro n
  induction n with
  | zero => intro _; exact Int32.toInt_zero
  | succ n ih =>
    intro hn
    obtain ⟨q1, q2, q3, q4⟩ := z_dvI h hK (i := n) (by omega) ha
    have g0 := zG_le h q4 (n := n) (by omega)
    have g1 := zG_le h q4 (n := n + 1) (by omega)
    have eG : zG B (n + 1) = zG B n + zv B 8 1 * zv B 1 n / zS (zv B 1) 6 := rfl
    have i1 := ih (by omega)
    have htt := zsh_tot h
    have h8 := h.2.2.2.2.2.2.2
    show (zdv B n + f_X0_dividendOf B n (f_X0_allShareDays B)).toInt = _
    rw [Jvm.Kit.i32_add (by omega) (by omega), i1, q1, eG]
theorem zI_shareOut {K : Int} {B : BK} (h : zI K B) (hK : K ≤ 2 ^ 29) : zI K (f_X0_shareOut B).2 := by
  unfold f_X0_shareOut
  dsimp only
  by_cases c : 1 ≤ f_X0_allShareDays B
  · rw [if_pos c, zso28]
    dsimp only
    obtain ⟨q1, q2, q3, q4⟩ := z_dvI h hK (i := 0) (by omega) c
    have g0 := zG_le h q4 (n := 6) (by omega)
    have e1 := zdvI h hK c 6 (by omega)
    have g1 := zI_sh1 (zI_sh0 h hK c 6 (by omega)) 6 (by omega)
    have e8 : (zSh B 6 6) 8 1 = B 8 1 := by rw [zSh_r8 B (by omega)]
    have ez : zv (zSh B 6 6) 8 1 = zv B 8 1 := by
      unfold zv
      rw [e8]
    have e4 : (B 8 1).toInt = zv B 8 1 := rfl
    have hsu := h.2.2.2.2.2.2.1.2
    have htt := zsh_tot h
    have h8 := h.2.2.2.2.2.2.2
    rw [e8]
    generalize zSh B 6 6 = C at *
    generalize zdv B 6 = d at *
    have g2 : zI K (uB C 8 1 (B 8 1 - d)) := zI_sur g1 (-zG B 6) (by rw [ez, Jvm.Kit.i32_sub (by omega) (by omega), e4, e1]; omega) (by omega) (by omega)
    exact zI_up g2 (by omega) (by omega) (by omega) (by omega)
  · rw [if_neg c]
    exact zI_up h (by omega) (by omega) (by omega) (by omega)
theorem zI_fee {K : Int} {B : BK} (h : zI K B) {x : Int32} (h0 : 0 ≤ x.toInt) (h1 : x.toInt ≤ 100) : zI K (uB B 7 0 x) := by
  obtain ⟨a1, a2, a3, a4, a5, a6, a7, a8⟩ := h
  refine ⟨fun j hj => ?_, fun j hj => ?_, fun j hj => ?_, fun j hj => ?_, fun j hj => ?_, ?_, ?_, ?_⟩
  · rw [zv_row B _ _ _ (by decide)]
    exact a1 j hj
  · rw [zv_row B _ _ _ (by decide)]
    exact a2 j hj
  · rw [zv_row B _ _ _ (by decide), zv_row B _ _ _ (by decide)]
    exact a3 j hj
  · rw [zbI_row B _ _ _ (by decide), zv_row B _ _ _ (by decide)]
    exact a4 j hj
  · rw [zbI_row B _ _ _ (by decide), zfI_row B _ _ _ (by decide), zv_row B _ _ _ (by decide), zv_row B _ _ _ (by decide)]
    exact a5 j hj
  · rw [zv_self]
    exact ⟨h0, h1⟩
  · rw [zv_row B _ _ _ (by decide), zv_row B _ _ _ (by decide)]
    exact a7
  · rw [zv_row B _ _ _ (by decide), zS_congr (f := zv (uB B 7 0 x) 0) (g := zv B 0) (fun j _ => zv_row B _ _ x (by decide))]
    exact a8
/-- the new books -/
theorem zI_new : zI 0 zB0 := by
  refine ⟨fun j hj => ?_, fun j hj => ?_, fun j hj => ?_, fun j hj => ?_, fun j hj => ?_, ?_, ?_, ?_⟩
  · revert j; decide
  · revert j; decide
  · revert j; decide
  · revert j; decide
  · revert j; decide
  · decide
  · decide
  · decide
end ZJ4
