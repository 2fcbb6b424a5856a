/-! days, dividends, looks, copies -/
section ZE2
/-- whether a member may be given so many days more -/
def zok (B : BK) (dd : Int32) (i : Nat) : Prop := (B 1 i).toInt64 + (B 0 i).toInt64 * dd.toInt64 ≤ 100000000
theorem zp22_1 (M : BK) (N : Nat → Nat) (dd : Int32) : ∀ n, f_X3_pass_22 M N dd 1 n = 1
  | 0 => rfl
  | n + 1 => by
    unfold f_X3_pass_22
    dsimp only
    rw [zp22_1 M N dd n, if_neg (by decide)]
theorem zp22_0 {B M : BK} (h : zcur B M) (N : Nat → Nat) (dd : Int32) : ∀ n, n ≤ 6 → (f_X3_pass_22 M N dd 0 n = 0 ∧ ∀ i, i < n → zok B dd i) ∨ (f_X3_pass_22 M N dd 0 n = 1 ∧ ∃ i, i < n ∧ ¬ zok B dd i) := by
  intro n
  induction n with
  | zero => intro _; exact Or.inl ⟨rfl, fun i hi => absurd hi (Nat.not_lt_zero i)⟩
  | succ n ih =>
    intro hn
    unfold f_X3_pass_22
    dsimp only
    rw [zc_of1 h (by omega), zc_of0 h (by omega)]
    rcases ih (by omega) with ⟨e, g⟩ | ⟨e, i, hi, g⟩
    · rw [e, if_pos rfl]
      by_cases c : (B 1 n).toInt64 + (B 0 n).toInt64 * dd.toInt64 ≤ 100000000
      · left
        rw [if_pos c]
        refine ⟨rfl, fun i hi => ?_⟩
        by_cases q : i = n
        · subst q; exact c
        · exact g i (by omega)
      · right
        rw [if_neg c]
        exact ⟨rfl, n, by omega, c⟩
    · right
      rw [e, if_neg (by decide)]
      exact ⟨rfl, i, by omega, g⟩
theorem zcad16 (B : BK) (dd : Int32) : ∀ (k q : Nat), 6 - q < k → (f_X0_canAddDays_16 B dd k q = 1 ∧ ∀ i, q ≤ i → i < 6 → zok B dd i) ∨ (f_X0_canAddDays_16 B dd k q = 0 ∧ ∃ i, q ≤ i ∧ i < 6 ∧ ¬ zok B dd i) := by
  intro k
  induction k with
  | zero => intro q h; omega
  | succ k ih =>
    intro q hq
    unfold f_X0_canAddDays_16
    by_cases c : 6 ≤ q
    · rw [if_pos c]
      exact Or.inl ⟨rfl, fun i h1 h2 => by omega⟩
    · rw [if_neg c]
      by_cases c2 : (B 1 q).toInt64 + (B 0 q).toInt64 * dd.toInt64 ≤ 100000000
      · rw [if_pos c2]
        rcases ih (q + 1) (by omega) with ⟨e, g⟩ | ⟨e, i, h1, h2, g⟩
        · left
          refine ⟨e, fun i h1 h2 => ?_⟩
          by_cases p : i = q
          · subst p; exact c2
          · exact g i (by omega) h2
        · exact Or.inr ⟨e, i, by omega, h2, g⟩
      · rw [if_neg c2]
        exact Or.inr ⟨rfl, q, by omega, by omega, c2⟩
/-- the model's look whether it is too much, and the class' whether it can be -/
theorem zc_canAdd {B M : BK} (h : zcur B M) (N : Nat → Nat) (dd : Int32) : (f_X0_canAddDays B dd = 1 ∧ M 0 5 + dd ≤ 9999 ∧ f_X3_pass_22 M N dd 0 6 = 0 ∧ ∀ i, i < 6 → zok B dd i) ∨ (f_X0_canAddDays B dd = 0 ∧ ((M 0 5 + dd ≤ 9999 ∧ f_X3_pass_22 M N dd 0 6 = 1) ∨ (¬ M 0 5 + dd ≤ 9999 ∧ f_X3_pass_22 M N dd 1 6 = 1))) := by
  unfold f_X0_canAddDays
  rw [zc_8 h (by omega)]
  by_cases c : B 8 5 + dd ≤ 9999
  · rw [if_pos c]
    rcases zcad16 B dd 8 0 (by omega) with ⟨e, g⟩ | ⟨e, i, h1, h2, g⟩
    · left
      rcases zp22_0 h N dd 6 (by omega) with ⟨e2, g2⟩ | ⟨e2, j, hj, g2⟩
      · exact ⟨e, c, e2, g2⟩
      · exact absurd (g j (by omega) hj) g2
    · right
      rcases zp22_0 h N dd 6 (by omega) with ⟨e2, g2⟩ | ⟨e2, j, hj, g2⟩
      · exact absurd (g2 i h2) g
      · exact ⟨e, Or.inl ⟨c, e2⟩⟩
  · rw [if_neg c]
    exact Or.inr ⟨rfl, Or.inr ⟨c, zp22_1 M N dd 6⟩⟩
theorem ze_add107 {B M : BK} (M0 : BK) (N N0 : Nat → Nat) (B0 : BK) (dd : Int32) (h : zcur B M) : ∀ n, n ≤ 6 → zcur (f_X0_addDays_2 B0 dd B n) (f_X3_pass_107 M0 N0 dd N M n) ∧ zonly M (f_X3_pass_107 M0 N0 dd N M n) := by
  intro n
  induction n with
  | zero => intro _; exact ⟨h, zonly.rf M⟩
  | succ n ih =>
    intro hn
    obtain ⟨i1, i2⟩ := ih (by omega)
    unfold f_X0_addDays_2 f_X3_pass_107
    dsimp only
    exact ⟨zc_ad i1 (by omega) (by omega) rfl rfl (by rw [zc_of0 i1 (by omega)]), i2.tr (zo_ad (by omega) (by omega))⟩
theorem ze_addDays {B M : BK} (M0 : BK) (N N0 : Nat → Nat) (dd : Int32) (h : zcur B M) : zsim (f_X0_addDays B dd) ((uB (f_X3_pass_107 M0 N0 dd N M 6) 0 5 (((f_X3_pass_107 M0 N0 dd N M 6) 0 5) + dd)) 0 5, uB (f_X3_pass_107 M0 N0 dd N M 6) 0 5 (((f_X3_pass_107 M0 N0 dd N M 6) 0 5) + dd)) M := by
  obtain ⟨i1, i2⟩ := ze_add107 M0 N N0 B dd h 6 (by omega)
  unfold f_X0_addDays
  dsimp only
  generalize f_X0_addDays_2 B dd B 6 = C at *
  generalize f_X3_pass_107 M0 N0 dd N M 6 = K at *
  have h2 := zc_up8 i1 (i := 5) (v := C 8 5 + dd) (w := K 0 5 + dd) (by omega) (by rw [zc_8 i1 (by omega)])
  refine ⟨?_, h2, i2.tr (zonly.up (by omega))⟩
  dsimp only
  rw [zc_8 h2 (by omega)]
theorem zc_share {B M : BK} (h : zcur B M) {mb : Nat} (hm : mb < 6) (hd : ¬ f_X0_allShareDays B < 0) : f_X3_share M mb = f_X0_dividendOf B mb (f_X0_allShareDays B) := by
  unfold f_X3_share f_X0_dividendOf
  rw [zc_days h, zc_8 h (by omega), zc_of1 h hm]
  by_cases c : f_X0_allShareDays B = 0
  · rw [if_pos c, if_neg (by rw [c]; decide)]
  · rw [if_neg c, if_pos]
    rw [Int64.le_iff_toInt_le]
    rw [Int64.lt_iff_toInt_lt] at hd
    have e1 : (1 : Int64).toInt = 1 := by decide
    have e0 : (0 : Int64).toInt = 0 := by decide
    have : (f_X0_allShareDays B).toInt ≠ 0 := fun q => c (Int64.toInt_inj.mp (q.trans e0.symm))
    omega
/-- dividends paid to the first n, days put to 0 for the first m -/
def zSh (B : BK) (n m : Nat) : BK := fun k i => if k = 0 then (if i < n then B 0 i + f_X0_dividendOf B i (f_X0_allShareDays B) else B 0 i) else if k = 1 then (if i < m then 0 else B 1 i) else B k i
theorem zSh_0 (B : BK) : zSh B 0 0 = B := by
  funext k i
  unfold zSh
  by_cases c : k = 0
  · subst c; rw [if_pos rfl, if_neg (Nat.not_lt_zero i)]
  · rw [if_neg c]
    by_cases c1 : k = 1
    · subst c1; rw [if_pos rfl, if_neg (Nat.not_lt_zero i)]
    · rw [if_neg c1]
theorem zSh_n (B : BK) (n m : Nat) : uB (zSh B n m) 0 n (B 0 n + f_X0_dividendOf B n (f_X0_allShareDays B)) = zSh B (n + 1) m := by
  funext k i
  by_cases c : k = 0
  · subst c
    rw [uB_hit]
    by_cases q : i = n
    · subst q
      rw [pk_us]
      unfold zSh
      rw [if_pos rfl, if_pos (by omega)]
    · rw [pk_un q]
      unfold zSh
      rw [if_pos rfl, if_pos rfl]
      by_cases q2 : i < n
      · rw [if_pos q2, if_pos (by omega)]
      · rw [if_neg q2, if_neg (by omega)]
  · rw [uB_row _ _ _ c]
    unfold zSh
    rw [if_neg c, if_neg c]
theorem zSh_m (B : BK) (n m : Nat) : uB (zSh B n m) 1 m 0 = zSh B n (m + 1) := by
  funext k i
  by_cases c : k = 1
  · subst c
    rw [uB_hit]
    by_cases q : i = m
    · subst q
      rw [pk_us]
      unfold zSh
      rw [if_neg (by decide), if_pos rfl, if_pos (by omega)]
    · rw [pk_un q]
      unfold zSh
      rw [if_neg (show ¬ (1 : Nat) = 0 by decide), if_pos rfl, if_neg (show ¬ (1 : Nat) = 0 by decide), if_pos rfl]
      by_cases q2 : i < m
      · rw [if_pos q2, if_pos (by omega)]
      · rw [if_neg q2, if_neg (by omega)]
  · rw [uB_row _ _ _ c]
    unfold zSh
    by_cases c0 : k = 0
    · rw [if_pos c0, if_pos c0]
    · rw [if_neg c0, if_neg c, if_neg c0, if_neg c]
theorem zSh_r0 (B : BK) {n m i : Nat} (h : n ≤ i) : (zSh B n m) 0 i = B 0 i := by
  unfold zSh
  rw [if_pos rfl, if_neg (by omega)]
theorem zSh_r1 (B : BK) {n m i : Nat} (h : m ≤ i) : (zSh B n m) 1 i = B 1 i := by
  unfold zSh
  rw [if_neg (by decide), if_pos rfl, if_neg (by omega)]
theorem zSh_r8 (B : BK) {n m k : Nat} (h : 1 < k) : (zSh B n m) k = B k := by
  funext i
  unfold zSh
  rw [if_neg (by omega), if_neg (by omega)]
theorem zdiv_r (B C : BK) (mb : Nat) (al : Int64) (h1 : C 8 1 = B 8 1) (h2 : C 1 mb = B 1 mb) : f_X0_dividendOf C mb al = f_X0_dividendOf B mb al := by
  unfold f_X0_dividendOf
  rw [h1, h2]
theorem zdays_r (B C : BK) (h : ∀ i, i < 6 → C 1 i = B 1 i) : f_X0_allShareDays C = f_X0_allShareDays B := by
  have key : ∀ n, n ≤ 6 → f_X0_allShareDays_14 C 0 n = f_X0_allShareDays_14 B 0 n := by
    intro n
    induction n with
    | zero => intro _; rfl
    | succ n ih =>
      intro hn
      unfold f_X0_allShareDays_14
      dsimp only
      rw [ih (by omega), h n (by omega)]
  exact key 6 (by omega)
/-- the dividends of the first n together -/
def zdv (B : BK) : Nat → Int32
  | 0 => 0
  | n + 1 => zdv B n + f_X0_dividendOf B n (f_X0_allShareDays B)
theorem zso28 (B : BK) : ∀ n, f_X0_shareOut_28 B 0 B n = (zdv B n, zSh B n n)
  | 0 => by
    show (0, B) = (0, zSh B 0 0)
    rw [zSh_0]
  | n + 1 => by
    unfold f_X0_shareOut_28
    dsimp only
    rw [zso28 B n]
    dsimp only
    rw [zdiv_r B (zSh B n n) n _ (by rw [zSh_r8 B (by omega)]) (zSh_r1 B (Nat.le_refl n)), zSh_r0 B (Nat.le_refl n), zSh_n, zSh_m]
    rfl
theorem zmd28 {B M : BK} (M0 : BK) (N N0 : Nat → Nat) (h : zcur B M) (hd : ¬ f_X0_allShareDays B < 0) : ∀ n, n ≤ 6 → (f_X3_dividend_28 M0 N N0 0 M n).1 = zdv B n ∧ zcur (zSh B n 0) (f_X3_dividend_28 M0 N N0 0 M n).2 ∧ zonly M (f_X3_dividend_28 M0 N N0 0 M n).2 := by
  intro n
  induction n with
  | zero =>
    intro _
    refine ⟨rfl, ?_, zonly.rf M⟩
    rw [zSh_0]
    exact h
  | succ n ih =>
    intro hn
    obtain ⟨i1, i2, i3⟩ := ih (by omega)
    unfold f_X3_dividend_28
    dsimp only
    rw [i1]
    generalize (f_X3_dividend_28 M0 N N0 0 M n).2 = K at *
    have ed : f_X0_allShareDays (zSh B n 0) = f_X0_allShareDays B := zdays_r B _ (fun i _ => zSh_r1 B (Nat.zero_le i))
    have es : f_X3_share K n = f_X0_dividendOf B n (f_X0_allShareDays B) := by
      rw [zc_share i2 (by omega) (by rw [ed]; exact hd), ed]
      exact zdiv_r B _ n _ (by rw [zSh_r8 B (by omega)]) (zSh_r1 B (Nat.zero_le n))
    rw [es]
    refine ⟨rfl, ?_, i3.tr (zo_ad (by omega) (by omega))⟩
    rw [← zSh_n]
    exact zc_ad i2 (by omega) (by omega) rfl rfl (by rw [zSh_r0 B (Nat.le_refl n)])
theorem zmd61 {B M : BK} (M0 : BK) (N N0 : Nat → Nat) (y : Int32) (h : zcur (zSh B 6 0) M) : ∀ n, n ≤ 6 → zcur (zSh B 6 n) (f_X3_dividend_61 M0 N N0 y M n) ∧ zonly M (f_X3_dividend_61 M0 N N0 y M n) := by
  intro n
  induction n with
  | zero => intro _; exact ⟨h, zonly.rf M⟩
  | succ n ih =>
    intro hn
    obtain ⟨i1, i2⟩ := ih (by omega)
    unfold f_X3_dividend_61
    dsimp only
    refine ⟨?_, i2.tr (zo_ad (by omega) (by omega))⟩
    rw [← zSh_m]
    exact zc_ad i1 (by omega) (by omega) rfl rfl (by rw [zc_of1 i1 (by omega), Int32.add_right_neg])
/-- dividends on both sides; M: the model behind its saving -/
theorem ze_shareOut {B M : BK} (M0 : BK) (N N0 : Nat → Nat) (h : zcur B M) (hd : ¬ f_X0_allShareDays B < 0) :
    (f_X3_allDays M = 0 ∧ zsim (f_X0_shareOut B) (f_X3_refuses M (-1)) M) ∨ (¬ f_X3_allDays M = 0 ∧ (f_X0_shareOut B).1 = (f_X3_dividend_28 M0 N N0 0 M 6).1 ∧
      ∀ K : BK, K = f_X3_dividend_61 M0 N N0 (f_X3_dividend_28 M0 N N0 0 M 6).1 (f_X3_dividend_28 M0 N N0 0 M 6).2 6 →
        zcur (f_X0_shareOut B).2 (uB (uB K 0 1 (K 0 1 - (f_X3_dividend_28 M0 N N0 0 M 6).1)) 0 7 (((uB K 0 1 (K 0 1 - (f_X3_dividend_28 M0 N N0 0 M 6).1)) 0 7) + (f_X3_dividend_28 M0 N N0 0 M 6).1)) ∧ zonly M (uB (uB K 0 1 (K 0 1 - (f_X3_dividend_28 M0 N N0 0 M 6).1)) 0 7 (((uB K 0 1 (K 0 1 - (f_X3_dividend_28 M0 N N0 0 M 6).1)) 0 7) + (f_X3_dividend_28 M0 N N0 0 M 6).1))) := by
  rw [zc_days h]
  unfold f_X0_shareOut
  dsimp only
  by_cases c : f_X0_allShareDays B = 0
  · left
    rw [if_neg (by rw [c]; decide)]
    exact ⟨c, zc_refuses h _⟩
  · right
    refine ⟨c, ?_⟩
    have c1 : 1 ≤ f_X0_allShareDays B := by
      rw [Int64.le_iff_toInt_le]
      rw [Int64.lt_iff_toInt_lt] at hd
      have e1 : (1 : Int64).toInt = 1 := by decide
      have e0 : (0 : Int64).toInt = 0 := by decide
      have : (f_X0_allShareDays B).toInt ≠ 0 := fun q => c (Int64.toInt_inj.mp (q.trans e0.symm))
      omega
    rw [if_pos c1, zso28]
    obtain ⟨i1, i2, i3⟩ := zmd28 M0 N N0 h hd 6 (by omega)
    rw [i1]
    obtain ⟨j1, j2⟩ := zmd61 M0 N N0 (zdv B 6) i2 6 (by omega)
    refine ⟨rfl, ?_⟩
    intro K hK
    rw [← hK] at j1 j2
    dsimp only
    generalize zdv B 6 = d at *
    generalize zSh B 6 6 = C at *
    have h1 := zc_up8 j1 (i := 1) (v := C 8 1 - d) (w := K 0 1 - d) (by omega) (by rw [zc_8 j1 (by omega)])
    exact ⟨zc_up8 h1 (by omega) (by rw [zc_8 h1 (by omega)]), i3.tr (j2.tr ((zonly.up (by omega)).tr (zonly.up (by omega))))⟩
theorem zc_prop {B M : BK} (h : zcur B M) {mb wt : Nat} (hm : mb < 6) (hw : wt < 10) (h0 : ¬ B 3 mb < 0) : f_X3_property M mb wt = f_X0_property B mb (nI wt) := by
  have hk : f_X0_hasLoan B mb = 0 ↔ B 3 mb = 0 := by
    unfold f_X0_hasLoan
    by_cases c : B 3 mb ≤ 0
    · rw [if_pos c]
      exact ⟨fun _ => Int32.le_antisymm c (Int32.not_lt.mp h0), fun _ => rfl⟩
    · rw [if_neg c]
      exact ⟨fun q => absurd q (by decide), fun q => absurd (by rw [q]; decide) c⟩
  have hc : wt = 0 ∨ wt = 1 ∨ wt = 2 ∨ wt = 3 ∨ wt = 4 ∨ wt = 5 ∨ wt = 6 ∨ wt = 7 ∨ wt = 8 ∨ wt = 9 := by omega
  have hl : ∀ (x : Int32) (w : Nat), x = B (w - 3) mb → (if f_X3_of M mb 2 = 0 then -1 else x) = (if f_X0_hasLoan B mb = 0 then -1 else B (w - 3) mb) := by
    intro x w hx
    rw [zc_of2 h hm, hx]
    by_cases c : B 3 mb = 0
    · rw [if_pos c, if_pos (hk.mpr c)]
    · rw [if_neg c, if_neg (fun q => c (hk.mp q))]
  rcases hc with rfl | rfl | rfl | rfl | rfl | rfl | rfl | rfl | rfl | rfl
  · exact zc_of0 h hm
  · exact zc_by h hm
  · exact zc_for h hm
  · exact zc_cover h hm
  · exact zc_free h hm
  · exact zc_of1 h hm
  · exact zc_of2 h hm
  · exact hl _ 7 (zc_of3 h hm)
  · exact hl _ 8 (zc_of4 h hm)
  · exact hl _ 9 (zc_of5 h hm)
theorem zc_risky {B M : BK} (h : zcur B M) : f_X3_risky M = f_X0_mostAtStake B := by
  have key : ∀ n, n ≤ 6 → f_X3_risky_6 M (-1) 0 n = f_X0_mostAtStake_6 B (-1) 0 n := by
    intro n
    induction n with
    | zero => intro _; rfl
    | succ n ih =>
      intro hn
      unfold f_X3_risky_6 f_X0_mostAtStake_6 f_X0_hasLoan
      dsimp only
      rw [ih (by omega), zc_of2 h (by omega), zc_own h (by omega)]
      by_cases c : B 3 n ≤ 0
      · rw [if_pos c, if_pos c, if_pos rfl]
      · rw [if_neg c, if_neg c, if_neg (show ¬ (1 : Int32) = 0 by decide)]
  unfold f_X3_risky f_X0_mostAtStake
  dsimp only
  rw [key 6 (by omega)]
/-! copies -/
theorem zcp2 (M : BK) (fr to : Nat) (hne : ¬ fr = to) : ∀ n, n ≤ 82 → ((∀ j, j < n → (f_X3_copies_2 M fr to M n) 0 (82 * to + j) = M 0 (82 * fr + j)) ∧ (∀ j, (j < 82 * to ∨ 82 * to + n ≤ j) → (f_X3_copies_2 M fr to M n) 0 j = M 0 j) ∧ ∀ k, 1 ≤ k → (f_X3_copies_2 M fr to M n) k = M k) := by
  intro n
  induction n with
  | zero => intro _; exact ⟨fun j hj => absurd hj (Nat.not_lt_zero j), fun _ _ => rfl, fun _ _ => rfl⟩
  | succ n ih =>
    intro hn
    obtain ⟨i1, i2, i3⟩ := ih (by omega)
    unfold f_X3_copies_2
    dsimp only
    generalize f_X3_copies_2 M fr to M n = K at *
    refine ⟨fun j hj => ?_, fun j hj => ?_, fun k hk => ?_⟩
    · by_cases q : j = n
      · subst q
        rw [uB_self]
        exact i2 _ (by omega)
      · rw [uB_ne _ _ (by omega)]
        exact i1 j (by omega)
    · rw [uB_ne _ _ (by omega)]
      exact i2 j (by omega)
    · rw [uB_row _ _ _ (by omega)]
      exact i3 k hk
theorem zcp_to {M : BK} {fr to : Nat} (hne : ¬ fr = to) {B : BK} (h : zrel B (M 0) (82 * fr)) : zrel B ((f_X3_copies M fr to) 0) (82 * to) := by
  intro k i hk hi
  have e : (f_X3_copies M fr to) 0 (82 * to + zix k i) = M 0 (82 * fr + zix k i) := (zcp2 M fr to hne 82 (by omega)).1 _ (zix_lt hk hi)
  rw [e]
  exact h k i hk hi
theorem zcp_far {M : BK} {fr to q : Nat} (hne : ¬ fr = to) {B : BK} (hq : ¬ q = to) (h : zrel B (M 0) (82 * q)) : zrel B ((f_X3_copies M fr to) 0) (82 * q) := by
  intro k i hk hi
  have hz := zix_lt hk hi
  have e : (f_X3_copies M fr to) 0 (82 * q + zix k i) = M 0 (82 * q + zix k i) := (zcp2 M fr to hne 82 (by omega)).2.1 _ (by omega)
  rw [e]
  exact h k i hk hi
theorem zcp_row {M : BK} {fr to : Nat} (hne : ¬ fr = to) {k : Nat} (hk : 1 ≤ k) : (f_X3_copies M fr to) k = M k := (zcp2 M fr to hne 82 (by omega)).2.2 k hk
theorem zrel_only {B M M' : BK} {q : Nat} (h : zrel B (M 0) (82 * q)) (ho : zonly M M') (hq : 1 ≤ q) : zrel B (M' 0) (82 * q) := by
  intro k i hk hi
  rw [ho.1 _ (by omega)]
  exact h k i hk hi
end ZE2
