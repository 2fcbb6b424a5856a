/-! the books and the model's row: which place is which -/
section ZE0
def zix : Nat → Nat → Nat
  | 0, i => 10 + 6 * i + 0
  | 1, i => 10 + 6 * i + 1
  | 2, i => 46 + i
  | 3, i => 10 + 6 * i + 2
  | 4, i => 10 + 6 * i + 3
  | 5, i => 10 + 6 * i + 4
  | 6, i => 10 + 6 * i + 5
  | 7, i => 8 + i
  | _, i => i
def zln : Nat → Nat
  | 2 => 36
  | 7 => 2
  | 8 => 8
  | _ => 6
theorem zk9 {k : Nat} (h : k < 9) : k = 0 ∨ k = 1 ∨ k = 2 ∨ k = 3 ∨ k = 4 ∨ k = 5 ∨ k = 6 ∨ k = 7 ∨ k = 8 := by omega
theorem zix_lt {k i : Nat} (h : k < 9) (hi : i < zln k) : zix k i < 82 := by
  rcases zk9 h with rfl | rfl | rfl | rfl | rfl | rfl | rfl | rfl | rfl <;> simp only [zln] at hi <;> simp only [zix] <;> omega
theorem zix_inj {k i k' i' : Nat} (h : k < 9) (hi : i < zln k) (h' : k' < 9) (hi' : i' < zln k') (e : zix k i = zix k' i') : k = k' ∧ i = i' := by
  rcases zk9 h with rfl | rfl | rfl | rfl | rfl | rfl | rfl | rfl | rfl <;> rcases zk9 h' with rfl | rfl | rfl | rfl | rfl | rfl | rfl | rfl | rfl <;> simp only [zln] at hi hi' <;> simp only [zix] at e <;> omega
/-- every place below 82 is one of the books' -/
theorem zix_all {j : Nat} (h : j < 82) : ∃ k i, k < 9 ∧ i < zln k ∧ zix k i = j := by
  by_cases c1 : j < 8
  · exact ⟨8, j, by omega, c1, rfl⟩
  by_cases c2 : j < 10
  · exact ⟨7, j - 8, by omega, (by show j - 8 < 2; omega), (by show 8 + (j - 8) = j; omega)⟩
  by_cases c3 : j < 46
  · have hq : (j - 10) / 6 < 6 := by omega
    have hm : (j - 10) % 6 = 0 ∨ (j - 10) % 6 = 1 ∨ (j - 10) % 6 = 2 ∨ (j - 10) % 6 = 3 ∨ (j - 10) % 6 = 4 ∨ (j - 10) % 6 = 5 := by omega
    rcases hm with e | e | e | e | e | e
    · exact ⟨0, (j - 10) / 6, by omega, hq, (by show 10 + 6 * ((j - 10) / 6) + 0 = j; omega)⟩
    · exact ⟨1, (j - 10) / 6, by omega, hq, (by show 10 + 6 * ((j - 10) / 6) + 1 = j; omega)⟩
    · exact ⟨3, (j - 10) / 6, by omega, hq, (by show 10 + 6 * ((j - 10) / 6) + 2 = j; omega)⟩
    · exact ⟨4, (j - 10) / 6, by omega, hq, (by show 10 + 6 * ((j - 10) / 6) + 3 = j; omega)⟩
    · exact ⟨5, (j - 10) / 6, by omega, hq, (by show 10 + 6 * ((j - 10) / 6) + 4 = j; omega)⟩
    · exact ⟨6, (j - 10) / 6, by omega, hq, (by show 10 + 6 * ((j - 10) / 6) + 5 = j; omega)⟩
  · exact ⟨2, j - 46, by omega, (by show j - 46 < 36; omega), (by show 46 + (j - 46) = j; omega)⟩
/-- the books B stand in the row s from the place o on -/
def zrel (B : BK) (s : Nat → Int32) (o : Nat) : Prop := ∀ k i, k < 9 → i < zln k → B k i = s (o + zix k i)
theorem uB_self (B : BK) (k i : Nat) (v : Int32) : (uB B k i v) k i = v := by
  show (if k = k then upd (B k) i v else B k) i = v
  rw [if_pos rfl, pk_us]
theorem uB_row (B : BK) {k k' : Nat} (i : Nat) (v : Int32) (h : ¬ k' = k) : (uB B k i v) k' = B k' := if_neg h
theorem uB_ne (B : BK) {k k' i i' : Nat} (v : Int32) (h : ¬ (k' = k ∧ i' = i)) : (uB B k i v) k' i' = B k' i' := by
  by_cases e : k' = k
  · subst e
    show (if k' = k' then upd (B k') i v else B k') i' = B k' i'
    rw [if_pos rfl, pk_un (fun q => h ⟨rfl, q⟩)]
  · rw [uB_row B i v e]
theorem zrel_up {B : BK} {s : Nat → Int32} {o k i j : Nat} {v w : Int32} (h : zrel B s o) (hk : k < 9) (hi : i < zln k) (hj : j = o + zix k i) (hv : w = v) : zrel (uB B k i v) (upd s j w) o := by
  subst hj
  subst hv
  intro k' i' hk' hi'
  by_cases e : k' = k ∧ i' = i
  · obtain ⟨rfl, rfl⟩ := e
    rw [uB_self, pk_us]
  · rw [uB_ne B w e, pk_un (fun q => e (zix_inj hk' hi' hk hi (by omega)))]
    exact h k' i' hk' hi'
theorem zrel_far {B : BK} {s : Nat → Int32} {o j : Nat} {v : Int32} (h : zrel B s o) (hj : j < o ∨ o + 82 ≤ j) : zrel B (upd s j v) o := by
  intro k i hk hi
  have := zix_lt hk hi
  rw [pk_un (by omega)]
  exact h k i hk hi
/-- only the first block of the model's row has changed -/
def zonly (M M' : BK) : Prop := (∀ j, 82 ≤ j → M' 0 j = M 0 j) ∧ ∀ k, 1 ≤ k → M' k = M k
theorem zonly.rf (M : BK) : zonly M M := ⟨fun _ _ => rfl, fun _ _ => rfl⟩
theorem zonly.tr {M M1 M2 : BK} (h1 : zonly M M1) (h2 : zonly M1 M2) : zonly M M2 := ⟨fun j h => (h2.1 j h).trans (h1.1 j h), fun k h => (h2.2 k h).trans (h1.2 k h)⟩
theorem zonly.up {M : BK} {j : Nat} {v : Int32} (h : j < 82) : zonly M (uB M 0 j v) := ⟨fun i hi => uB_ne M v (fun q => by omega), fun k hk => uB_row M j v (by omega)⟩
/-- the current books and the model: what both hold -/
def zcur (B : BK) (M : BK) : Prop := zrel B (M 0) 0
theorem zc_of0 {B M : BK} (h : zcur B M) {mb : Nat} (hm : mb < 6) : f_X3_of M mb 0 = B 0 mb := (h 0 mb (by omega) hm).symm ▸ by show M 0 (10 + 6 * mb + 0) = M 0 (0 + (10 + 6 * mb + 0)); rw [Nat.zero_add]
theorem zc_of1 {B M : BK} (h : zcur B M) {mb : Nat} (hm : mb < 6) : f_X3_of M mb 1 = B 1 mb := (h 1 mb (by omega) hm).symm ▸ by show M 0 (10 + 6 * mb + 1) = M 0 (0 + (10 + 6 * mb + 1)); rw [Nat.zero_add]
theorem zc_of2 {B M : BK} (h : zcur B M) {mb : Nat} (hm : mb < 6) : f_X3_of M mb 2 = B 3 mb := (h 3 mb (by omega) hm).symm ▸ by show M 0 (10 + 6 * mb + 2) = M 0 (0 + (10 + 6 * mb + 2)); rw [Nat.zero_add]
theorem zc_of3 {B M : BK} (h : zcur B M) {mb : Nat} (hm : mb < 6) : f_X3_of M mb 3 = B 4 mb := (h 4 mb (by omega) hm).symm ▸ by show M 0 (10 + 6 * mb + 3) = M 0 (0 + (10 + 6 * mb + 3)); rw [Nat.zero_add]
theorem zc_of4 {B M : BK} (h : zcur B M) {mb : Nat} (hm : mb < 6) : f_X3_of M mb 4 = B 5 mb := (h 5 mb (by omega) hm).symm ▸ by show M 0 (10 + 6 * mb + 4) = M 0 (0 + (10 + 6 * mb + 4)); rw [Nat.zero_add]
theorem zc_of5 {B M : BK} (h : zcur B M) {mb : Nat} (hm : mb < 6) : f_X3_of M mb 5 = B 6 mb := (h 6 mb (by omega) hm).symm ▸ by show M 0 (10 + 6 * mb + 5) = M 0 (0 + (10 + 6 * mb + 5)); rw [Nat.zero_add]
theorem zc_8 {B M : BK} (h : zcur B M) {i : Nat} (hi : i < 8) : M 0 i = B 8 i := (h 8 i (by omega) hi).symm ▸ by show M 0 i = M 0 (0 + i); rw [Nat.zero_add]
theorem zc_7 {B M : BK} (h : zcur B M) {i : Nat} (hi : i < 2) : M 0 (8 + i) = B 7 i := (h 7 i (by omega) hi).symm ▸ by show M 0 (8 + i) = M 0 (0 + (8 + i)); rw [Nat.zero_add]
theorem zc_pl {B M : BK} (h : zcur B M) {mb br : Nat} (hm : mb < 6) (hb : br < 6) : f_X3_pledgeOf M mb br = B 2 (mb * 6 + br) := (h 2 (mb * 6 + br) (by omega) (by show mb * 6 + br < 36; omega)).symm ▸ by
  show M 0 (46 + 6 * mb + br) = M 0 (0 + (46 + (mb * 6 + br)))
  congr 1
  omega
/-- one number changes on both sides -/
theorem zc_up {B M : BK} (h : zcur B M) {k i j : Nat} {v w : Int32} (hk : k < 9) (hi : i < zln k) (hj : j = zix k i) (hv : w = v) : zcur (uB B k i v) (uB M 0 j w) := zrel_up h hk hi (by omega) hv
theorem zc_up8 {B M : BK} (h : zcur B M) {i : Nat} {v w : Int32} (hi : i < 8) (hv : w = v) : zcur (uB B 8 i v) (uB M 0 i w) := zc_up h (by omega) hi rfl hv
/-- the model adds to a member's number -/
theorem zc_ad {B M : BK} (h : zcur B M) {mb wt k : Nat} {v by_ : Int32} (hm : mb < 6) (hk : k < 9) (hl : zln k = 6) (hw : zix k mb = 10 + 6 * mb + wt) (hv : B k mb + by_ = v) : zcur (uB B k mb v) (f_X3_adds M mb wt by_) := by
  have e : M 0 (10 + 6 * mb + wt) = B k mb := by
    rw [h k mb hk (by omega), hw, Nat.zero_add]
  show zcur (uB B k mb v) (uB M 0 (10 + 6 * mb + wt) (M 0 (10 + 6 * mb + wt) + by_))
  exact zc_up h hk (by omega) hw.symm (by rw [e]; exact hv)
theorem zo_ad {M : BK} {mb wt : Nat} {by_ : Int32} (hm : mb < 6) (hw : wt < 6) : zonly M (f_X3_adds M mb wt by_) := zonly.up (by omega)
/-- what a deed leaves on both sides -/
def zsim (r q : Int32 × BK) (M : BK) : Prop := q.1 = r.1 ∧ zcur r.2 q.2 ∧ zonly M q.2
theorem zc_by {B M : BK} (h : zcur B M) {mb : Nat} (hm : mb < 6) : f_X3_pledgedBy M mb = f_X0_pledgedBy B mb := by
  have key : ∀ n, n ≤ 6 → f_X3_pledgedBy_4 M mb 0 n = f_X0_pledgedBy_10 B mb 0 n := by
    intro n
    induction n with
    | zero => intro _; rfl
    | succ n ih =>
      intro hn
      unfold f_X3_pledgedBy_4 f_X0_pledgedBy_10
      dsimp only
      rw [ih (by omega), zc_pl h hm (by omega)]
  exact key 6 (by omega)
theorem zf_for {B : BK} {mb : Nat} (hm : mb < 6) : f_X0_pledgedFor B mb = 0 + B 2 (0 * 6 + mb) + B 2 (1 * 6 + mb) + B 2 (2 * 6 + mb) + B 2 (3 * 6 + mb) + B 2 (4 * 6 + mb) + B 2 (5 * 6 + mb) := by
  have st : ∀ (k q : Nat) (x : Int32), q < 36 → f_X0_pledgedFor_4 B mb (k + 1) q x = f_X0_pledgedFor_4 B mb k (q + 6) (x + B 2 q) := by
    intro k q x hq
    show (if 36 ≤ q then x else f_X0_pledgedFor_4 B mb k (q + 6) (x + B 2 q)) = _
    rw [if_neg (by omega)]
  have en : ∀ (k q : Nat) (x : Int32), 36 ≤ q → f_X0_pledgedFor_4 B mb (k + 1) q x = x := by
    intro k q x hq
    show (if 36 ≤ q then x else f_X0_pledgedFor_4 B mb k (q + 6) (x + B 2 q)) = _
    rw [if_pos hq]
  unfold f_X0_pledgedFor
  rw [st 42 _ _ (by omega), st 41 _ _ (by omega), st 40 _ _ (by omega), st 39 _ _ (by omega), st 38 _ _ (by omega), st 37 _ _ (by omega), en 36 _ _ (by omega)]
  have e0 : 0 * 6 + mb = mb := by omega
  have e1 : 1 * 6 + mb = mb + 6 := by omega
  have e2 : 2 * 6 + mb = mb + 6 + 6 := by omega
  have e3 : 3 * 6 + mb = mb + 6 + 6 + 6 := by omega
  have e4 : 4 * 6 + mb = mb + 6 + 6 + 6 + 6 := by omega
  have e5 : 5 * 6 + mb = mb + 6 + 6 + 6 + 6 + 6 := by omega
  rw [e0, e1, e2, e3, e4, e5]
theorem zc_for {B M : BK} (h : zcur B M) {mb : Nat} (hm : mb < 6) : f_X3_pledgedFor M mb = f_X0_pledgedFor B mb := by
  rw [zf_for hm]
  have st : ∀ n, f_X3_pledgedFor_4 M mb 0 (n + 1) = f_X3_pledgedFor_4 M mb 0 n + f_X3_pledgeOf M n mb := fun n => rfl
  show f_X3_pledgedFor_4 M mb 0 6 = _
  rw [st 5, st 4, st 3, st 2, st 1, st 0, zc_pl h (by omega) hm, zc_pl h (by omega) hm, zc_pl h (by omega) hm, zc_pl h (by omega) hm, zc_pl h (by omega) hm, zc_pl h (by omega) hm]
  rfl
theorem zc_own {B M : BK} (h : zcur B M) {mb : Nat} (hm : mb < 6) : f_X3_own M mb = f_X0_ownLeft B mb := by
  unfold f_X3_own f_X0_ownLeft
  rw [zc_of0 h hm, zc_by h hm]
theorem zc_cover {B M : BK} (h : zcur B M) {mb : Nat} (hm : mb < 6) : f_X3_cover M mb = f_X0_cover B mb := by
  unfold f_X3_cover f_X0_cover
  rw [zc_own h hm, zc_for h hm]
theorem zc_free {B M : BK} (h : zcur B M) {mb : Nat} (hm : mb < 6) : f_X3_free M mb = f_X0_freeShares B mb := by
  unfold f_X3_free f_X0_freeShares
  rw [zc_own h hm, zc_for h hm, zc_of2 h hm]
  unfold zmax
  by_cases c : B 3 mb - f_X0_pledgedFor B mb ≤ 0
  · rw [if_pos c, if_neg (Int32.not_lt.mpr c)]
  · rw [if_neg c, if_pos (Int32.not_le.mp c)]
theorem zc_fee {B M : BK} (h : zcur B M) (am : Int32) : f_X3_fee am (M 0 8) = f_X0_feeOf B am := by
  unfold f_X3_fee f_X0_feeOf
  rw [show M 0 8 = B 7 0 from zc_7 (i := 0) h (by omega)]
theorem zc_reason {B M : BK} (h : zcur B M) {mb : Nat} (hm : mb < 6) (am : Int32) : f_X3_reason M mb am = f_X0_whyNoLoan B mb am := by
  unfold f_X3_reason f_X0_whyNoLoan f_X0_whyAbove f_X0_hasLoan f_X0_threefold
  rw [zc_of2 h hm, zc_of0 h hm, zc_cover h hm, zc_fee h, zc_8 h (by omega)]
  by_cases c : B 3 mb ≤ 0
  · rw [if_pos c, if_pos c, if_pos rfl]
  · rw [if_neg c, if_neg c, if_neg (by decide)]
theorem zc_days {B M : BK} (h : zcur B M) : f_X3_allDays M = f_X0_allShareDays B := by
  have key : ∀ n, n ≤ 6 → f_X3_allDays_4 M 0 n = f_X0_allShareDays_14 B 0 n := by
    intro n
    induction n with
    | zero => intro _; rfl
    | succ n ih =>
      intro hn
      unfold f_X3_allDays_4 f_X0_allShareDays_14
      dsimp only
      rw [ih (by omega), zc_of1 h (by omega)]
  exact key 6 (by omega)
theorem zc_shares {B M : BK} (h : zcur B M) : f_X3_total M 0 = f_X0_allShares B := by
  have key : ∀ n, n ≤ 6 → f_X3_total_4 M 0 0 n = f_X0_allShares_13 B 0 n := by
    intro n
    induction n with
    | zero => intro _; rfl
    | succ n ih =>
      intro hn
      unfold f_X3_total_4 f_X0_allShares_13
      dsimp only
      rw [ih (by omega), zc_of0 h (by omega)]
  exact key 6 (by omega)
theorem zc_rests {B M : BK} (h : zcur B M) : f_X3_total M 2 = f_X0_allRests B := by
  have key : ∀ n, n ≤ 6 → f_X3_total_4 M 2 0 n = f_X0_allRests_13 B 0 n := by
    intro n
    induction n with
    | zero => intro _; rfl
    | succ n ih =>
      intro hn
      unfold f_X3_total_4 f_X0_allRests_13
      dsimp only
      rw [ih (by omega), zc_of2 h (by omega)]
  exact key 6 (by omega)
theorem zc_loans {B M : BK} (h : zcur B M) : f_X3_loans M = f_X0_loans B := by
  have key : ∀ n, n ≤ 6 → f_X3_loans_4 M 0 n = f_X0_loans_4 B 0 n := by
    intro n
    induction n with
    | zero => intro _; rfl
    | succ n ih =>
      intro hn
      unfold f_X3_loans_4 f_X0_loans_4 f_X0_hasLoan
      dsimp only
      rw [ih (by omega), zc_of2 h (by omega)]
      by_cases c : B 3 n ≤ 0
      · rw [if_pos c, if_pos c, if_pos rfl, Int32.add_zero]
      · rw [if_neg c, if_neg c, if_neg (by decide)]
  exact key 6 (by omega)
theorem zc_refuses {B M : BK} (h : zcur B M) (td : Int32) : zsim (td, uB B 8 6 (B 8 6 + 1)) (f_X3_refuses M td) M := by
  refine ⟨rfl, ?_, ?_⟩
  · exact zc_up8 h (by omega) (by rw [zc_8 h (by omega)])
  · exact zonly.up (by omega)
/-! the deeds -/
theorem ze_takeIn {B M : BK} (h : zcur B M) {mb : Nat} (hm : mb < 6) (am : Int32) : zsim (f_X0_takeIn B mb am) (f_X3_paysIn M mb am) M := by
  unfold f_X0_takeIn f_X3_paysIn
  rw [zc_of0 h hm]
  by_cases c : B 0 mb + am ≤ 90000
  · rw [if_pos c, if_pos c]
    dsimp only
    have h1 : zcur (uB B 0 mb (B 0 mb + am)) (f_X3_adds M mb 0 am) := zc_ad h hm (by omega) rfl rfl rfl
    have h2 : zcur (uB (uB B 0 mb (B 0 mb + am)) 8 0 ((uB B 0 mb (B 0 mb + am)) 8 0 + am)) (uB (f_X3_adds M mb 0 am) 0 0 ((f_X3_adds M mb 0 am) 0 0 + am)) := zc_up8 h1 (by omega) (by rw [zc_8 h1 (by omega)])
    refine ⟨?_, h2, (zo_ad hm (by omega)).tr (zonly.up (by omega))⟩
    dsimp only
    rw [zc_of0 h2 hm, uB_row _ _ _ (by decide), uB_self]
  · rw [if_neg c, if_neg c]
    exact zc_refuses h _
theorem ze_giveOut {B M : BK} (h : zcur B M) {mb : Nat} (hm : mb < 6) (am : Int32) : zsim (f_X0_giveOut B mb am) (f_X3_paysOut M mb am) M := by
  unfold f_X0_giveOut f_X3_paysOut
  rw [zc_free h hm, zc_8 h (by omega)]
  by_cases c : am ≤ f_X0_freeShares B mb
  · rw [if_pos c, if_pos c]
    by_cases c2 : am ≤ B 8 0
    · rw [if_pos c2, if_pos c2]
      dsimp only
      have h1 : zcur (uB B 0 mb (B 0 mb - am)) (f_X3_adds M mb 0 (-am)) := zc_ad h hm (by omega) rfl rfl (Int32.sub_eq_add_neg _ _).symm
      exact ⟨rfl, zc_up8 h1 (by omega) (by rw [zc_8 h1 (by omega)]), (zo_ad hm (by omega)).tr (zonly.up (by omega))⟩
    · rw [if_neg c2, if_neg c2]
      exact zc_refuses h _
  · rw [if_neg c, if_neg c]
    exact zc_refuses h _
theorem zc_upl {B M : BK} (h : zcur B M) {mb br : Nat} (hm : mb < 6) (hb : br < 6) {v w : Int32} (hv : w = v) : zcur (uB B 2 (mb * 6 + br) v) (uB M 0 (46 + 6 * mb + br) w) :=
  zc_up h (by omega) (by show mb * 6 + br < 36; omega) (by show 46 + 6 * mb + br = 46 + (mb * 6 + br); omega) hv
theorem ze_addPledge {B M : BK} (h : zcur B M) {mb br : Nat} (hm : mb < 6) (hb : br < 6) (am : Int32) : zsim (f_X0_addPledge B mb br am) (f_X3_pledges M mb br am) M := by
  unfold f_X0_addPledge f_X3_pledges
  rw [zc_free h hm]
  have ep : M 0 (46 + 6 * mb + br) = B 2 (mb * 6 + br) := zc_pl h hm hb
  by_cases c : am ≤ f_X0_freeShares B mb
  · rw [if_pos c, if_pos c]
    dsimp only
    have h1 := zc_upl h hm hb (v := B 2 (mb * 6 + br) + am) (w := M 0 (46 + 6 * mb + br) + am) (by rw [ep])
    refine ⟨?_, h1, zonly.up (by omega)⟩
    dsimp only
    rw [zc_pl h1 hm hb]
  · rw [if_neg c, if_neg c]
    exact zc_refuses h _
theorem ze_dropPledge {B M : BK} (h : zcur B M) {mb br : Nat} (hm : mb < 6) (hb : br < 6) (am : Int32) : zsim (f_X0_dropPledge B mb br am) (f_X3_takesBack M mb br am) M := by
  unfold f_X0_dropPledge f_X3_takesBack
  rw [zc_pl h hm hb, zc_of2 h hb, zc_cover h hb]
  have ep : M 0 (46 + 6 * mb + br) = B 2 (mb * 6 + br) := zc_pl h hm hb
  by_cases c : am ≤ B 2 (mb * 6 + br)
  · rw [if_pos c, if_pos c]
    by_cases c2 : B 3 br ≤ f_X0_cover B br - am
    · rw [if_pos c2, if_pos c2]
      exact ⟨rfl, zc_upl h hm hb (by rw [ep]), zonly.up (by omega)⟩
    · rw [if_neg c2, if_neg c2]
      exact zc_refuses h _
  · rw [if_neg c, if_neg c]
    exact zc_refuses h _
theorem ze_takeBack {B M : BK} (h : zcur B M) {mb : Nat} (hm : mb < 6) (am : Int32) : zsim (f_X0_takeBack B mb am) (f_X3_repays M mb am) M := by
  unfold f_X0_takeBack f_X3_repays
  rw [zc_of2 h hm]
  by_cases c : am ≤ B 3 mb
  · rw [if_pos c, if_pos c]
    dsimp only
    have h1 : zcur (uB B 3 mb (B 3 mb - am)) (f_X3_adds M mb 2 (-am)) := zc_ad h hm (by omega) rfl rfl (Int32.sub_eq_add_neg _ _).symm
    have h2 : zcur (uB (uB B 3 mb (B 3 mb - am)) 5 mb (B 5 mb + am)) (f_X3_adds (f_X3_adds M mb 2 (-am)) mb 4 am) := zc_ad h1 hm (by omega) rfl rfl (by rw [uB_row _ _ _ (by decide)])
    have h3 : zcur (uB (uB (uB B 3 mb (B 3 mb - am)) 5 mb (B 5 mb + am)) 8 0 (B 8 0 + am)) (uB (f_X3_adds (f_X3_adds M mb 2 (-am)) mb 4 am) 0 0 ((f_X3_adds (f_X3_adds M mb 2 (-am)) mb 4 am) 0 0 + am)) := zc_up8 h2 (by omega) (by rw [zc_8 h2 (by omega), uB_row _ _ _ (by decide), uB_row _ _ _ (by decide)])
    have e : uB (uB (uB B 8 0 (B 8 0 + am)) 3 mb ((uB B 8 0 (B 8 0 + am)) 3 mb - am)) 5 mb ((uB (uB B 8 0 (B 8 0 + am)) 3 mb ((uB B 8 0 (B 8 0 + am)) 3 mb - am)) 5 mb + am) = uB (uB (uB B 3 mb (B 3 mb - am)) 5 mb (B 5 mb + am)) 8 0 (B 8 0 + am) := by
      have e1 : (uB B 8 0 (B 8 0 + am)) 3 mb = B 3 mb := rfl
      have e2 : (uB (uB B 8 0 (B 8 0 + am)) 3 mb (B 3 mb - am)) 5 mb = B 5 mb := rfl
      rw [e1, e2]
      funext k
      by_cases c8 : k = 8
      · subst c8; rfl
      · by_cases c5 : k = 5
        · subst c5; rfl
        · by_cases c3 : k = 3
          · subst c3; rfl
          · rw [uB_row _ _ _ c5, uB_row _ _ _ c3, uB_row _ _ _ c8, uB_row _ _ _ c8, uB_row _ _ _ c5, uB_row _ _ _ c3]
    rw [e]
    refine ⟨?_, h3, ((zo_ad hm (by omega)).tr (zo_ad hm (by omega))).tr (zonly.up (by omega))⟩
    dsimp only
    rw [zc_of2 h3 hm]
  · rw [if_neg c, if_neg c]
    exact zc_refuses h _
end ZE0
