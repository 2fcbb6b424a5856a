/-! what the books keep: numbers as integers -/
section ZJ
def zv (B : BK) (k i : Nat) : Int := (B k i).toInt
def zS (f : Nat → Int) : Nat → Int
  | 0 => 0
  | n + 1 => zS f n + f n
theorem zS_congr {f g : Nat → Int} : ∀ {n : Nat}, (∀ i, i < n → f i = g i) → zS f n = zS g n
  | 0, _ => rfl
  | n + 1, h => by
    show zS f n + f n = zS g n + g n
    rw [zS_congr (fun i hi => h i (by omega)), h n (by omega)]
theorem zS_up {f g : Nat → Int} {j : Nat} (h : ∀ i, ¬ i = j → g i = f i) : ∀ {n : Nat}, j < n → zS g n = zS f n + (g j - f j)
  | 0, hj => absurd hj (Nat.not_lt_zero j)
  | n + 1, hj => by
    show zS g n + g n = zS f n + f n + (g j - f j)
    by_cases c : j = n
    · subst c
      rw [zS_congr (f := g) (g := f) (fun i hi => h i (by omega))]
      omega
    · rw [zS_up h (by omega), h n (fun e => c e.symm)]
      omega
theorem zS_nn {f : Nat → Int} : ∀ {n : Nat}, (∀ i, i < n → 0 ≤ f i) → 0 ≤ zS f n
  | 0, _ => Int.le_refl 0
  | n + 1, h => by
    have h1 := zS_nn (f := f) (n := n) (fun i hi => h i (by omega))
    have h2 := h n (by omega)
    show 0 ≤ zS f n + f n
    omega
theorem zS_le {f g : Nat → Int} : ∀ {n : Nat}, (∀ i, i < n → f i ≤ g i) → zS f n ≤ zS g n
  | 0, _ => Int.le_refl 0
  | n + 1, h => by
    have h1 := zS_le (f := f) (g := g) (n := n) (fun i hi => h i (by omega))
    have h2 := h n (by omega)
    show zS f n + f n ≤ zS g n + g n
    omega
theorem zS_one {f : Nat → Int} {j : Nat} : ∀ {n : Nat}, (∀ i, i < n → 0 ≤ f i) → j < n → f j ≤ zS f n
  | 0, _, hj => absurd hj (Nat.not_lt_zero j)
  | n + 1, h, hj => by
    show f j ≤ zS f n + f n
    have h2 := h n (by omega)
    by_cases c : j = n
    · subst c
      have := zS_nn (f := f) (n := j) (fun i hi => h i (by omega))
      omega
    · have := zS_one (f := f) (j := j) (n := n) (fun i hi => h i (by omega)) (by omega)
      omega
theorem zS_mono {f : Nat → Int} {m : Nat} : ∀ {n : Nat}, (∀ i, i < n → 0 ≤ f i) → m ≤ n → zS f m ≤ zS f n
  | 0, _, hm => by
    have : m = 0 := by omega
    subst this
    exact Int.le_refl _
  | n + 1, h, hm => by
    by_cases c : m = n + 1
    · subst c
      exact Int.le_refl _
    · have h1 := zS_mono (f := f) (n := n) (m := m) (fun i hi => h i (by omega)) (by omega)
      have h2 := h n (by omega)
      show zS f m ≤ zS f n + f n
      omega
/-- a sum of numbers is the sum -/
theorem zsum_int {g : Nat → Int32} : ∀ {n : Nat}, (∀ i, i < n → 0 ≤ (g i).toInt) → zS (fun i => (g i).toInt) n < 2 ^ 31 → (zsum g n).toInt = zS (fun i => (g i).toInt) n
  | 0, _, _ => Int32.toInt_zero
  | n + 1, h, hb => by
    have h1 := zS_nn (f := fun i => (g i).toInt) (n := n) (fun i hi => h i (by omega))
    have h2 := h n (by omega)
    have hb' : zS (fun i => (g i).toInt) n + (g n).toInt < 2 ^ 31 := hb
    have e := zsum_int (g := g) (n := n) (fun i hi => h i (by omega)) (by omega)
    show (zsum g n + g n).toInt = zS (fun i => (g i).toInt) n + (g n).toInt
    rw [Jvm.Kit.i32_add (by omega) (by omega), e]
def zbI (B : BK) (i : Nat) : Int := zS (fun j => zv B 2 (i * 6 + j)) 6
def zfI (B : BK) (i : Nat) : Int := zS (fun j => zv B 2 (j * 6 + i)) 6
def zI (K : Int) (B : BK) : Prop :=
  (∀ i, i < 6 → 0 ≤ zv B 1 i ∧ zv B 1 i ≤ 100000000) ∧ (∀ i, i < 36 → 0 ≤ zv B 2 i) ∧
  (∀ i, i < 6 → 0 ≤ zv B 3 i ∧ zv B 3 i ≤ 9999 ∧ (0 < zv B 3 i → 1 ≤ zv B 4 i ∧ zv B 4 i ≤ 9999)) ∧
  (∀ i, i < 6 → zbI B i ≤ zv B 0 i) ∧ (∀ i, i < 6 → zv B 3 i ≤ zv B 0 i - zbI B i + zfI B i) ∧
  (0 ≤ zv B 7 0 ∧ zv B 7 0 ≤ 100) ∧ (zv B 8 4 ≤ 9999 ∧ 0 ≤ zv B 8 1) ∧ zS (zv B 0) 6 + zv B 8 1 ≤ K
theorem zI.mono {K K' : Int} {B : BK} (h : zI K B) (hk : K ≤ K') : zI K' B := by
  obtain ⟨h1, h2, h3, h4, h5, h6, h7, h8⟩ := h
  exact ⟨h1, h2, h3, h4, h5, h6, h7, by omega⟩
theorem zbI_nn {K : Int} {B : BK} (h : zI K B) {i : Nat} (hi : i < 6) : 0 ≤ zbI B i := zS_nn (fun j hj => h.2.1 _ (by omega))
theorem zfI_nn {K : Int} {B : BK} (h : zI K B) {i : Nat} (hi : i < 6) : 0 ≤ zfI B i := zS_nn (fun j hj => h.2.1 _ (by omega))
theorem zbI_one {K : Int} {B : BK} (h : zI K B) {i j : Nat} (hi : i < 6) (hj : j < 6) : zv B 2 (i * 6 + j) ≤ zbI B i := zS_one (f := fun j => zv B 2 (i * 6 + j)) (fun j hj => h.2.1 _ (by omega)) hj
theorem zfI_one {K : Int} {B : BK} (h : zI K B) {i j : Nat} (hi : i < 6) (hj : j < 6) : zv B 2 (j * 6 + i) ≤ zfI B i := zS_one (f := fun j => zv B 2 (j * 6 + i)) (fun j hj => h.2.1 _ (by omega)) hj
theorem zsh_nn {K : Int} {B : BK} (h : zI K B) {i : Nat} (hi : i < 6) : 0 ≤ zv B 0 i := Int.le_trans (zbI_nn h hi) (h.2.2.2.1 i hi)
theorem zsh_tot {K : Int} {B : BK} (h : zI K B) : zS (zv B 0) 6 ≤ K ∧ 0 ≤ zS (zv B 0) 6 := by
  have h7 := h.2.2.2.2.2.2.1.2
  have h8 := h.2.2.2.2.2.2.2
  exact ⟨by omega, zS_nn (fun i hi => zsh_nn h hi)⟩
theorem zsh_le {K : Int} {B : BK} (h : zI K B) {i : Nat} (hi : i < 6) : zv B 0 i ≤ K := Int.le_trans (zS_one (f := zv B 0) (fun i hi => zsh_nn h hi) hi) (zsh_tot h).1
theorem zS6 (f : Nat → Int) : zS f 6 = f 0 + f 1 + f 2 + f 3 + f 4 + f 5 := by
  show 0 + f 0 + f 1 + f 2 + f 3 + f 4 + f 5 = _
  omega
theorem zbf (B : BK) : zS (zfI B) 6 = zS (zbI B) 6 := by
  rw [zS6, zS6]
  unfold zfI zbI
  rw [zS6, zS6, zS6, zS6, zS6, zS6, zS6, zS6, zS6, zS6, zS6, zS6]
  omega
theorem zfI_le {K : Int} {B : BK} (h : zI K B) {i : Nat} (hi : i < 6) : zfI B i ≤ K := by
  have h1 := zS_one (f := zfI B) (n := 6) (fun i hi => zfI_nn h hi) hi
  have h2 := zbf B
  have h3 : zS (zbI B) 6 ≤ zS (zv B 0) 6 := zS_le (fun i hi => h.2.2.2.1 i hi)
  have h4 := (zsh_tot h).1
  omega
/-! what is looked at, as integers -/
theorem z_byI {K : Int} {B : BK} (h : zI K B) (hK : K ≤ 2 ^ 30) {i : Nat} (hi : i < 6) : (f_X0_pledgedBy B i).toInt = zbI B i := by
  have h1 := h.2.2.2.1 i hi
  have h2 := zsh_le h hi
  have e : ∀ n, f_X0_pledgedBy_10 B i 0 n = zsum (fun j => B 2 (i * 6 + j)) n := by
    intro n
    induction n with
    | zero => rfl
    | succ n ih =>
      show f_X0_pledgedBy_10 B i 0 n + B 2 (i * 6 + n) = zsum (fun j => B 2 (i * 6 + j)) n + B 2 (i * 6 + n)
      rw [ih]
  show (f_X0_pledgedBy_10 B i 0 6).toInt = _
  rw [e 6]
  exact zsum_int (g := fun j => B 2 (i * 6 + j)) (fun j hj => h.2.1 _ (by omega)) (Int.lt_of_le_of_lt h1 (by omega))
theorem z_forI {K : Int} {B : BK} (h : zI K B) (hK : K ≤ 2 ^ 30) {i : Nat} (hi : i < 6) : (f_X0_pledgedFor B i).toInt = zfI B i := by
  have h1 := zfI_le h hi
  rw [zf_for hi]
  show (zsum (fun j => B 2 (j * 6 + i)) 6).toInt = _
  exact zsum_int (g := fun j => B 2 (j * 6 + i)) (fun j hj => h.2.1 _ (by omega)) (Int.lt_of_le_of_lt h1 (by omega))
theorem z_ownI {K : Int} {B : BK} (h : zI K B) (hK : K ≤ 2 ^ 30) {i : Nat} (hi : i < 6) : (f_X0_ownLeft B i).toInt = zv B 0 i - zbI B i := by
  have h1 := h.2.2.2.1 i hi
  have h2 := zsh_le h hi
  have h3 := zbI_nn h hi
  have e := z_byI h hK hi
  unfold zv at *
  unfold f_X0_ownLeft
  rw [Jvm.Kit.i32_sub (by omega) (by omega), e]
theorem z_coverI {K : Int} {B : BK} (h : zI K B) (hK : K ≤ 2 ^ 29) {i : Nat} (hi : i < 6) : (f_X0_cover B i).toInt = zv B 0 i - zbI B i + zfI B i := by
  have h1 := h.2.2.2.1 i hi
  have h2 := zsh_le h hi
  have h3 := zbI_nn h hi
  have h4 := zfI_nn h hi
  have h5 := zfI_le h hi
  have e := z_ownI h (by omega) hi
  have e2 := z_forI h (by omega) hi
  unfold f_X0_cover
  rw [Jvm.Kit.i32_add (by omega) (by omega), e, e2]
theorem z_zmax (x y : Int32) : (zmax x y).toInt = max x.toInt y.toInt := by
  unfold zmax
  by_cases c : x < y
  · rw [if_pos c]
    rw [Int32.lt_iff_toInt_lt] at c
    omega
  · rw [if_neg c]
    rw [Int32.lt_iff_toInt_lt] at c
    omega
theorem z_zmin (x y : Int32) : (zmin x y).toInt = min x.toInt y.toInt := by
  unfold zmin
  by_cases c : y < x
  · rw [if_pos c]
    rw [Int32.lt_iff_toInt_lt] at c
    omega
  · rw [if_neg c]
    rw [Int32.lt_iff_toInt_lt] at c
    omega
theorem z_freeI {K : Int} {B : BK} (h : zI K B) (hK : K ≤ 2 ^ 29) {i : Nat} (hi : i < 6) : (f_X0_freeShares B i).toInt = zv B 0 i - zbI B i - max 0 (zv B 3 i - zfI B i) := by
  have h1 := h.2.2.2.1 i hi
  have h2 := zsh_le h hi
  have h3 := zbI_nn h hi
  have h4 := zfI_nn h hi
  have h5 := zfI_le h hi
  have h6 := h.2.2.1 i hi
  have e := z_ownI h (by omega) hi
  have e2 := z_forI h (by omega) hi
  have e4 : (B 3 i).toInt = zv B 3 i := rfl
  have e3 : (B 3 i - f_X0_pledgedFor B i).toInt = zv B 3 i - zfI B i := by
    rw [Jvm.Kit.i32_sub (by omega) (by omega), e2]
    rfl
  have e5 : (zmax 0 (B 3 i - f_X0_pledgedFor B i)).toInt = max 0 (zv B 3 i - zfI B i) := by
    rw [z_zmax, e3, Int32.toInt_zero]
  unfold f_X0_freeShares
  rw [Jvm.Kit.i32_sub (by omega) (by omega), e, e5]
theorem z_free0 {K : Int} {B : BK} (h : zI K B) (hK : K ≤ 2 ^ 29) {i : Nat} (hi : i < 6) : 0 ≤ (f_X0_freeShares B i).toInt ∧ (f_X0_freeShares B i).toInt ≤ zv B 0 i := by
  have h1 := h.2.2.2.1 i hi
  have h3 := zbI_nn h hi
  have h5 := h.2.2.2.2.1 i hi
  rw [z_freeI h hK hi]
  omega
theorem z_sharesI {K : Int} {B : BK} (h : zI K B) (hK : K ≤ 2 ^ 30) : (f_X0_allShares B).toInt = zS (zv B 0) 6 := by
  have h1 := zsh_tot h
  show (zsum (B 0) 6).toInt = _
  exact zsum_int (g := B 0) (fun j hj => zsh_nn h hj) (Int.lt_of_le_of_lt h1.1 (by omega))
theorem z_rests_le {K : Int} {B : BK} (h : zI K B) : zS (zv B 3) 6 ≤ zS (zv B 0) 6 := by
  have h1 := zbf B
  have c0 := h.2.2.2.2.1 0 (by omega)
  have c1 := h.2.2.2.2.1 1 (by omega)
  have c2 := h.2.2.2.2.1 2 (by omega)
  have c3 := h.2.2.2.2.1 3 (by omega)
  have c4 := h.2.2.2.2.1 4 (by omega)
  have c5 := h.2.2.2.2.1 5 (by omega)
  rw [zS6, zS6] at h1
  rw [zS6, zS6]
  omega
theorem z_restsI {K : Int} {B : BK} (h : zI K B) (hK : K ≤ 2 ^ 30) : (f_X0_allRests B).toInt = zS (zv B 3) 6 ∧ 0 ≤ zS (zv B 3) 6 := by
  have h1 := zsh_tot h
  have h2 := z_rests_le h
  refine ⟨?_, zS_nn (fun i hi => (h.2.2.1 i hi).1)⟩
  show (zsum (B 3) 6).toInt = _
  exact zsum_int (g := B 3) (fun j hj => (h.2.2.1 j hj).1) (Int.lt_of_le_of_lt (Int.le_trans h2 h1.1) (by omega))
theorem z_daysI {K : Int} {B : BK} (h : zI K B) : (f_X0_allShareDays B).toInt = zS (zv B 1) 6 ∧ 0 ≤ zS (zv B 1) 6 ∧ zS (zv B 1) 6 ≤ 600000000 := by
  have g : ∀ n, n ≤ 6 → (f_X0_allShareDays_14 B 0 n).toInt = zS (zv B 1) n ∧ 0 ≤ zS (zv B 1) n ∧ zS (zv B 1) n ≤ 100000000 * n := by
    intro n
    induction n with
    | zero => intro _; exact ⟨Int64.toInt_zero, Int.le_refl 0, (by show (0 : Int) ≤ 100000000 * ((0 : Nat) : Int); omega)⟩
    | succ n ih =>
      intro hn
      obtain ⟨i1, i2, i3⟩ := ih (by omega)
      have h1 := h.1 n (by omega)
      have e9 : (B 1 n).toInt64.toInt = zv B 1 n := Int32.toInt_toInt64 _
      show (f_X0_allShareDays_14 B 0 n + (B 1 n).toInt64).toInt = zS (zv B 1) n + zv B 1 n ∧ 0 ≤ zS (zv B 1) n + zv B 1 n ∧ zS (zv B 1) n + zv B 1 n ≤ _
      rw [Jvm.Kit.i64_add (by omega) (by omega)]
      omega
  have := g 6 (by omega)
  exact ⟨this.1, this.2.1, by omega⟩
end ZJ
