theorem zif {α : Type} (P : α → Prop) {c : Prop} [Decidable c] {x y : α} (h1 : c → P x) (h2 : ¬ c → P y) : P (if c then x else y) := by
  by_cases h : c
  · rw [if_pos h]; exact h1 h
  · rw [if_neg h]; exact h2 h
/-! the books and the model's row: which place is which -/
section ZE0
def zix : Nat → Nat → Nat
  | 0, i => 10 + 6 * i + 0
  | 1, i => 10 + 6 * i + 1
  | 2, i => 46 + i
  | 3, i => 10 + 6 * i + 2
  | 4, i => 10 + 6 * i + 3
  | 5, i => 10 + 6 * i + 4
  | 6, i => 10 + 6 * i + 5
  | 7, i => 8 + i
  | _, i => i
def zln : Nat → Nat
  | 2 => 36
  | 7 => 2
  | 8 => 8
  | _ => 6
theorem zk9 {k : Nat} (h : k < 9) : k = 0 ∨ k = 1 ∨ k = 2 ∨ k = 3 ∨ k = 4 ∨ k = 5 ∨ k = 6 ∨ k = 7 ∨ k = 8 := by omega
theorem zix_lt {k i : Nat} (h : k < 9) (hi : i < zln k) : zix k i < 82 := by
  rcases zk9 h with rfl | rfl | rfl | rfl | rfl | rfl | rfl | rfl | rfl <;> simp only [zln] at hi <;> simp only [zix] <;> omega
theorem zix_inj {k i k' i' : Nat} (h : k < 9) (hi : i < zln k) (h' : k' < 9) (hi' : i' < zln k') (e : zix k i = zix k' i') : k = k' ∧ i = i' := by
  rcases zk9 h with rfl | rfl | rfl | rfl | rfl | rfl | rfl | rfl | rfl <;> rcases zk9 h' with rfl | rfl | rfl | rfl | rfl | rfl | rfl | rfl | rfl <;> simp only [zln] at hi hi' <;> simp only [zix] at e <;> omega
/-- every place below 82 is one of the books' -/
theorem zix_all {j : Nat} (h : j < 82) : ∃ k i, k < 9 ∧ i < zln k ∧ zix k i = j := by
  by_cases c1 : j < 8
  · exact ⟨8, j, by omega, c1, rfl⟩
  by_cases c2 : j < 10
  · exact ⟨7, j - 8, by omega, (by show j - 8 < 2; omega), (by show 8 + (j - 8) = j; omega)⟩
  by_cases c3 : j < 46
  · have hq : (j - 10) / 6 < 6 := by omega
    have hm : (j - 10) % 6 = 0 ∨ (j - 10) % 6 = 1 ∨ (j - 10) % 6 = 2 ∨ (j - 10) % 6 = 3 ∨ (j - 10) % 6 = 4 ∨ (j - 10) % 6 = 5 := by omega
    rcases hm with e | e | e | e | e | e
    · exact ⟨0, (j - 10) / 6, by omega, hq, (by show 10 + 6 * ((j - 10) / 6) + 0 = j; omega)⟩
    · exact ⟨1, (j - 10) / 6, by omega, hq, (by show 10 + 6 * ((j - 10) / 6) + 1 = j; omega)⟩
    · exact ⟨3, (j - 10) / 6, by omega, hq, (by show 10 + 6 * ((j - 10) / 6) + 2 = j; omega)⟩
    · exact ⟨4, (j - 10) / 6, by omega, hq, (by show 10 + 6 * ((j - 10) / 6) + 3 = j; omega)⟩
    · exact ⟨5, (j - 10) / 6, by omega, hq, (by show 10 + 6 * ((j - 10) / 6) + 4 = j; omega)⟩
    · exact ⟨6, (j - 10) / 6, by omega, hq, (by show 10 + 6 * ((j - 10) / 6) + 5 = j; omega)⟩
  · exact ⟨2, j - 46, by omega, (by show j - 46 < 36; omega), (by show 46 + (j - 46) = j; omega)⟩
theorem uB_self (B : BK) (k i : Nat) (v : Int32) : (uB B k i v) k i = v := by
  show (if k = k then upd (B k) i v else B k) i = v
  rw [if_pos rfl, pk_us]
theorem uB_row (B : BK) {k k' : Nat} (i : Nat) (v : Int32) (h : ¬ k' = k) : (uB B k i v) k' = B k' := if_neg h
theorem uB_ne (B : BK) {k k' i i' : Nat} (v : Int32) (h : ¬ (k' = k ∧ i' = i)) : (uB B k i v) k' i' = B k' i' := by
  by_cases e : k' = k
  · subst e
    show (if k' = k' then upd (B k') i v else B k') i' = B k' i'
    rw [if_pos rfl, pk_un (fun q => h ⟨rfl, q⟩)]
  · rw [uB_row B i v e]
theorem zf_for {B : BK} {mb : Nat} (hm : mb < 6) : f_X0_pledgedFor B mb = 0 + B 2 (0 * 6 + mb) + B 2 (1 * 6 + mb) + B 2 (2 * 6 + mb) + B 2 (3 * 6 + mb) + B 2 (4 * 6 + mb) + B 2 (5 * 6 + mb) := by
  have st : ∀ (k q : Nat) (x : Int32), q < 36 → f_X0_pledgedFor_4 B mb (k + 1) q x = f_X0_pledgedFor_4 B mb k (q + 6) (x + B 2 q) := by
    intro k q x hq
    show (if 36 ≤ q then x else f_X0_pledgedFor_4 B mb k (q + 6) (x + B 2 q)) = _
    rw [if_neg (by omega)]
  have en : ∀ (k q : Nat) (x : Int32), 36 ≤ q → f_X0_pledgedFor_4 B mb (k + 1) q x = x := by
    intro k q x hq
    show (if 36 ≤ q then x else f_X0_pledgedFor_4 B mb k (q + 6) (x + B 2 q)) = _
    rw [if_pos hq]
  unfold f_X0_pledgedFor
  rw [st 42 _ _ (by omega), st 41 _ _ (by omega), st 40 _ _ (by omega), st 39 _ _ (by omega), st 38 _ _ (by omega), st 37 _ _ (by omega), en 36 _ _ (by omega)]
  have e0 : 0 * 6 + mb = mb := by omega
  have e1 : 1 * 6 + mb = mb + 6 := by omega
  have e2 : 2 * 6 + mb = mb + 6 + 6 := by omega
  have e3 : 3 * 6 + mb = mb + 6 + 6 + 6 := by omega
  have e4 : 4 * 6 + mb = mb + 6 + 6 + 6 + 6 := by omega
  have e5 : 5 * 6 + mb = mb + 6 + 6 + 6 + 6 + 6 := by omega
  rw [e0, e1, e2, e3, e4, e5]
/-! the deeds -/
end ZE0

/-! the deeds, second part; the looks -/
section ZE1
theorem uB_hit (B : BK) (k i : Nat) (v : Int32) : (uB B k i v) k = upd (B k) i v := if_pos rfl
theorem uB_comm (B : BK) {k k' : Nat} (i i' : Nat) (v v' : Int32) (h : ¬ k = k') : uB (uB B k i v) k' i' v' = uB (uB B k' i' v') k i v := by
  funext q
  by_cases c : q = k'
  · subst c
    rw [uB_hit, uB_row _ _ _ (fun e => h e.symm), uB_row _ _ _ (fun e => h e.symm), uB_hit]
  · rw [uB_row _ _ _ c]
    by_cases c2 : q = k
    · subst c2
      rw [uB_hit, uB_hit, uB_row _ _ _ c]
    · rw [uB_row _ _ _ c2, uB_row _ _ _ c2, uB_row _ _ _ c]
theorem z_xpx (x p : Int32) : x + (p - x) = p := by rw [Int32.add_comm, Int32.sub_add_cancel]
theorem zw_vals (B : BK) (mb : Nat) (am : Int32) : f_X0_whyNoLoan B mb am = 0 ∨ (¬ f_X0_whyNoLoan B mb am = 0 ∧ ¬ f_X0_whyNoLoan B mb am ≤ 0) := by
  have h : ∀ x : Int32, x = 0 ∨ x = 1 ∨ x = 2 ∨ x = 3 ∨ x = 4 → x = 0 ∨ (¬ x = 0 ∧ ¬ x ≤ 0) := by
    intro x hx
    rcases hx with rfl | rfl | rfl | rfl | rfl
    · exact Or.inl rfl
    · right; decide
    · right; decide
    · right; decide
    · right; decide
  apply h
  unfold f_X0_whyNoLoan f_X0_whyAbove
  split
  · split
    · split
      · split
        · exact Or.inl rfl
        · exact Or.inr (Or.inr (Or.inr (Or.inr rfl)))
      · exact Or.inr (Or.inr (Or.inr (Or.inl rfl)))
    · exact Or.inr (Or.inr (Or.inl rfl))
  · exact Or.inr (Or.inl rfl)
theorem zw_rest {B : BK} {mb : Nat} {am : Int32} (h : f_X0_whyNoLoan B mb am = 0) : B 3 mb ≤ 0 := by
  unfold f_X0_whyNoLoan f_X0_hasLoan at h
  by_cases c : B 3 mb ≤ 0
  · exact c
  · rw [if_neg c, if_neg (by decide)] at h
    exact absurd h (by decide)
theorem uB_uB (B : BK) (k i : Nat) (v w : Int32) : uB (uB B k i v) k i w = uB B k i w := by
  funext q
  by_cases c : q = k
  · subst c
    rw [uB_hit, uB_hit, uB_hit]
    funext j
    by_cases c2 : j = i
    · subst c2; rw [pk_us, pk_us]
    · rw [pk_un c2, pk_un c2, pk_un c2]
  · rw [uB_row _ _ _ c, uB_row _ _ _ c, uB_row _ _ _ c]
theorem uB_id (B : BK) (k i : Nat) : uB B k i (B k i) = B := by
  funext q
  by_cases c : q = k
  · subst c
    rw [uB_hit]
    funext j
    by_cases c2 : j = i
    · subst c2; rw [pk_us]
    · rw [pk_un c2]
  · rw [uB_row _ _ _ c]
/-! row 8 is not looked at -/
theorem z8_due34 (B0 B1 : BK) (mb : Nat) (i0 : Int32) (X : BK) (d : Int32) : ∀ n, (f_X0_takeDue_34 B0 mb i0 (uB X 8 3 d) n).1 = (f_X0_takeDue_34 B1 mb i0 X n).1 ∧ (f_X0_takeDue_34 B0 mb i0 (uB X 8 3 d) n).2 = uB (f_X0_takeDue_34 B1 mb i0 X n).2 8 3 d := by
  intro n
  induction n with
  | zero => exact ⟨rfl, rfl⟩
  | succ n ih =>
    obtain ⟨e1, e2⟩ := ih
    unfold f_X0_takeDue_34
    dsimp only
    rw [e1, e2]
    generalize (f_X0_takeDue_34 B1 mb i0 X n).1 = y
    generalize (f_X0_takeDue_34 B1 mb i0 X n).2 = C
    rw [uB_row C (k := 8) (k' := 2) _ _ (by decide), uB_row C (k := 8) (k' := 0) _ _ (by decide)]
    refine ⟨rfl, ?_⟩
    rw [uB_comm C (k := 8) (k' := 0) _ _ _ _ (by decide), uB_comm _ (k := 8) (k' := 2) _ _ _ _ (by decide), uB_row _ (k := 8) (k' := 2) _ _ (by decide)]
theorem z8_by (B : BK) (mb : Nat) (d : Int32) : f_X0_pledgedBy (uB B 8 3 d) mb = f_X0_pledgedBy B mb := by
  have key : ∀ n, f_X0_pledgedBy_10 (uB B 8 3 d) mb 0 n = f_X0_pledgedBy_10 B mb 0 n := by
    intro n
    induction n with
    | zero => rfl
    | succ n ih =>
      unfold f_X0_pledgedBy_10
      dsimp only
      rw [ih, uB_row _ _ _ (by decide)]
  exact key 6
theorem z8_own (B : BK) (mb : Nat) (d : Int32) : f_X0_ownLeft (uB B 8 3 d) mb = f_X0_ownLeft B mb := by
  unfold f_X0_ownLeft
  rw [z8_by, uB_row _ _ _ (by decide)]
theorem z8_due (B : BK) (mb : Nat) (d : Int32) : f_X0_takeDue (uB B 8 3 d) mb = uB (f_X0_takeDue B mb) 8 3 d := by
  unfold f_X0_takeDue
  dsimp only
  rw [z8_own, uB_row B (k := 8) (k' := 3) _ _ (by decide), uB_row B (k := 8) (k' := 0) _ _ (by decide)]
  generalize zmin (B 3 mb) (f_X0_ownLeft B mb) = own
  rw [uB_comm B (k := 8) (k' := 0) _ _ _ _ (by decide), (z8_due34 (uB B 8 3 d) B mb (B 3 mb - own) (uB B 0 mb (B 0 mb - own)) d 6).2, uB_comm _ (k := 8) (k' := 3) _ _ _ _ (by decide)]
theorem zr8_due (B : BK) (mb : Nat) : (f_X0_takeDue B mb) 8 = B 8 := by
  have r8 : ∀ (B0 : BK) (i : Int32) (X : BK) n, (f_X0_takeDue_34 B0 mb i X n).2 8 = X 8 := by
    intro B0 i X n
    induction n with
    | zero => rfl
    | succ n ih =>
      unfold f_X0_takeDue_34
      dsimp only
      rw [uB_row _ _ _ (by decide), uB_row _ _ _ (by decide)]
      exact ih
  unfold f_X0_takeDue
  try dsimp only
  rw [uB_row _ _ _ (by decide), r8, uB_row _ _ _ (by decide)]
theorem zr8_week (B : BK) (mb : Nat) : (f_X0_endWeekOf B mb).2 8 = B 8 := by
  unfold f_X0_endWeekOf
  refine zif (fun (r : Int32 × BK) => r.2 8 = B 8) (fun _ => ?_) (fun _ => ?_)
  · refine zif (fun (r : Int32 × BK) => r.2 8 = B 8) (fun _ => ?_) (fun _ => ?_)
    · dsimp only
      rw [zr8_due, uB_row _ _ _ (by decide), uB_row _ _ _ (by decide)]
    · dsimp only
      rw [uB_row _ _ _ (by decide), uB_row _ _ _ (by decide)]
  · refine zif (fun (r : Int32 × BK) => r.2 8 = B 8) (fun _ => ?_) (fun _ => ?_)
    · dsimp only
      rw [zr8_due, uB_row _ _ _ (by decide), uB_row _ _ _ (by decide)]
    · dsimp only
      rw [uB_row _ _ _ (by decide), uB_row _ _ _ (by decide)]
end ZE1

/-! days, dividends, looks, copies -/
section ZE2
/-- whether a member may be given so many days more -/
def zok (B : BK) (dd : Int32) (i : Nat) : Prop := (B 1 i).toInt64 + (B 0 i).toInt64 * dd.toInt64 ≤ 100000000
theorem zcad16 (B : BK) (dd : Int32) : ∀ (k q : Nat), 6 - q < k → (f_X0_canAddDays_16 B dd k q = 1 ∧ ∀ i, q ≤ i → i < 6 → zok B dd i) ∨ (f_X0_canAddDays_16 B dd k q = 0 ∧ ∃ i, q ≤ i ∧ i < 6 ∧ ¬ zok B dd i) := by
  intro k
  induction k with
  | zero => intro q h; omega
  | succ k ih =>
    intro q hq
    unfold f_X0_canAddDays_16
    by_cases c : 6 ≤ q
    · rw [if_pos c]
      exact Or.inl ⟨rfl, fun i h1 h2 => by omega⟩
    · rw [if_neg c]
      by_cases c2 : (B 1 q).toInt64 + (B 0 q).toInt64 * dd.toInt64 ≤ 100000000
      · rw [if_pos c2]
        rcases ih (q + 1) (by omega) with ⟨e, g⟩ | ⟨e, i, h1, h2, g⟩
        · left
          refine ⟨e, fun i h1 h2 => ?_⟩
          by_cases p : i = q
          · subst p; exact c2
          · exact g i (by omega) h2
        · exact Or.inr ⟨e, i, by omega, h2, g⟩
      · rw [if_neg c2]
        exact Or.inr ⟨rfl, q, by omega, by omega, c2⟩
/-- dividends paid to the first n, days put to 0 for the first m -/
def zSh (B : BK) (n m : Nat) : BK := fun k i => if k = 0 then (if i < n then B 0 i + f_X0_dividendOf B i (f_X0_allShareDays B) else B 0 i) else if k = 1 then (if i < m then 0 else B 1 i) else B k i
theorem zSh_0 (B : BK) : zSh B 0 0 = B := by
  funext k i
  unfold zSh
  by_cases c : k = 0
  · subst c; rw [if_pos rfl, if_neg (Nat.not_lt_zero i)]
  · rw [if_neg c]
    by_cases c1 : k = 1
    · subst c1; rw [if_pos rfl, if_neg (Nat.not_lt_zero i)]
    · rw [if_neg c1]
theorem zSh_n (B : BK) (n m : Nat) : uB (zSh B n m) 0 n (B 0 n + f_X0_dividendOf B n (f_X0_allShareDays B)) = zSh B (n + 1) m := by
  funext k i
  by_cases c : k = 0
  · subst c
    rw [uB_hit]
    by_cases q : i = n
    · subst q
      rw [pk_us]
      unfold zSh
      rw [if_pos rfl, if_pos (by omega)]
    · rw [pk_un q]
      unfold zSh
      rw [if_pos rfl, if_pos rfl]
      by_cases q2 : i < n
      · rw [if_pos q2, if_pos (by omega)]
      · rw [if_neg q2, if_neg (by omega)]
  · rw [uB_row _ _ _ c]
    unfold zSh
    rw [if_neg c, if_neg c]
theorem zSh_m (B : BK) (n m : Nat) : uB (zSh B n m) 1 m 0 = zSh B n (m + 1) := by
  funext k i
  by_cases c : k = 1
  · subst c
    rw [uB_hit]
    by_cases q : i = m
    · subst q
      rw [pk_us]
      unfold zSh
      rw [if_neg (by decide), if_pos rfl, if_pos (by omega)]
    · rw [pk_un q]
      unfold zSh
      rw [if_neg (show ¬ (1 : Nat) = 0 by decide), if_pos rfl, if_neg (show ¬ (1 : Nat) = 0 by decide), if_pos rfl]
      by_cases q2 : i < m
      · rw [if_pos q2, if_pos (by omega)]
      · rw [if_neg q2, if_neg (by omega)]
  · rw [uB_row _ _ _ c]
    unfold zSh
    by_cases c0 : k = 0
    · rw [if_pos c0, if_pos c0]
    · rw [if_neg c0, if_neg c, if_neg c0, if_neg c]
theorem zSh_r0 (B : BK) {n m i : Nat} (h : n ≤ i) : (zSh B n m) 0 i = B 0 i := by
  unfold zSh
  rw [if_pos rfl, if_neg (by omega)]
theorem zSh_r1 (B : BK) {n m i : Nat} (h : m ≤ i) : (zSh B n m) 1 i = B 1 i := by
  unfold zSh
  rw [if_neg (by decide), if_pos rfl, if_neg (by omega)]
theorem zSh_r8 (B : BK) {n m k : Nat} (h : 1 < k) : (zSh B n m) k = B k := by
  funext i
  unfold zSh
  rw [if_neg (by omega), if_neg (by omega)]
theorem zdiv_r (B C : BK) (mb : Nat) (al : Int64) (h1 : C 8 1 = B 8 1) (h2 : C 1 mb = B 1 mb) : f_X0_dividendOf C mb al = f_X0_dividendOf B mb al := by
  unfold f_X0_dividendOf
  rw [h1, h2]
theorem zdays_r (B C : BK) (h : ∀ i, i < 6 → C 1 i = B 1 i) : f_X0_allShareDays C = f_X0_allShareDays B := by
  have key : ∀ n, n ≤ 6 → f_X0_allShareDays_14 C 0 n = f_X0_allShareDays_14 B 0 n := by
    intro n
    induction n with
    | zero => intro _; rfl
    | succ n ih =>
      intro hn
      unfold f_X0_allShareDays_14
      dsimp only
      rw [ih (by omega), h n (by omega)]
  exact key 6 (by omega)
/-- the dividends of the first n together -/
def zdv (B : BK) : Nat → Int32
  | 0 => 0
  | n + 1 => zdv B n + f_X0_dividendOf B n (f_X0_allShareDays B)
theorem zso28 (B : BK) : ∀ n, f_X0_shareOut_28 B 0 B n = (zdv B n, zSh B n n)
  | 0 => by
    show (0, B) = (0, zSh B 0 0)
    rw [zSh_0]
  | n + 1 => by
    unfold f_X0_shareOut_28
    dsimp only
    rw [zso28 B n]
    dsimp only
    rw [zdiv_r B (zSh B n n) n _ (by rw [zSh_r8 B (by omega)]) (zSh_r1 B (Nat.le_refl n)), zSh_r0 B (Nat.le_refl n), zSh_n, zSh_m]
    rfl
/-! copies -/
end ZE2
