/-! the deeds, second part; the looks -/
section ZE1
theorem uB_hit (B : BK) (k i : Nat) (v : Int32) : (uB B k i v) k = upd (B k) i v := if_pos rfl
theorem uB_comm (B : BK) {k k' : Nat} (i i' : Nat) (v v' : Int32) (h : ¬ k = k') : uB (uB B k i v) k' i' v' = uB (uB B k' i' v') k i v := by
  funext q
  by_cases c : q = k'
  · subst c
    rw [uB_hit, uB_row _ _ _ (fun e => h e.symm), uB_row _ _ _ (fun e => h e.symm), uB_hit]
  · rw [uB_row _ _ _ c]
    by_cases c2 : q = k
    · subst c2
      rw [uB_hit, uB_hit, uB_row _ _ _ c]
    · rw [uB_row _ _ _ c2, uB_row _ _ _ c2, uB_row _ _ _ c]
theorem z_xpx (x p : Int32) : x + (p - x) = p := by rw [Int32.add_comm, Int32.sub_add_cancel]
theorem zw_vals (B : BK) (mb : Nat) (am : Int32) : f_X0_whyNoLoan B mb am = 0 ∨ (¬ f_X0_whyNoLoan B mb am = 0 ∧ ¬ f_X0_whyNoLoan B mb am ≤ 0) := by
  have h : ∀ x : Int32, x = 0 ∨ x = 1 ∨ x = 2 ∨ x = 3 ∨ x = 4 → x = 0 ∨ (¬ x = 0 ∧ ¬ x ≤ 0) := by
    intro x hx
    rcases hx with rfl | rfl | rfl | rfl | rfl
    · exact Or.inl rfl
    · right; decide
    · right; decide
    · right; decide
    · right; decide
  apply h
  unfold f_X0_whyNoLoan f_X0_whyAbove
  split
  · split
    · split
      · split
        · exact Or.inl rfl
        · exact Or.inr (Or.inr (Or.inr (Or.inr rfl)))
      · exact Or.inr (Or.inr (Or.inr (Or.inl rfl)))
    · exact Or.inr (Or.inr (Or.inl rfl))
  · exact Or.inr (Or.inl rfl)
theorem zw_rest {B : BK} {mb : Nat} {am : Int32} (h : f_X0_whyNoLoan B mb am = 0) : B 3 mb ≤ 0 := by
  unfold f_X0_whyNoLoan f_X0_hasLoan at h
  by_cases c : B 3 mb ≤ 0
  · exact c
  · rw [if_neg c, if_neg (by decide)] at h
    exact absurd h (by decide)
theorem ze_lend {B M : BK} (h : zcur B M) {mb : Nat} (hm : mb < 6) (am wk : Int32) (h0 : ¬ B 3 mb < 0) : zsim (f_X0_lend B mb am wk) (f_X3_lends M mb am wk) M := by
  unfold f_X0_lend f_X3_lends
  rw [zc_reason h hm, zc_fee h, zc_8 h (by omega)]
  rcases zw_vals B mb am with c | ⟨c, c2⟩
  · rw [if_pos c, if_pos (by rw [c]; decide)]
    have hz : B 3 mb = 0 := Int32.le_antisymm (zw_rest c) (Int32.not_lt.mp h0)
    dsimp only
    generalize f_X0_feeOf B am = f
    have h1 : zcur (uB B 8 0 (B 8 0 - (am - f))) (uB M 0 0 (B 8 0 - (am - f))) := zc_up8 h (by omega) rfl
    generalize hB1 : uB B 8 0 (B 8 0 - (am - f)) = B1 at *
    generalize hM1 : uB M 0 0 (B 8 0 - (am - f)) = M1 at *
    have h2 : zcur (uB B1 8 1 (B1 8 1 + f)) (uB M1 0 1 (M1 0 1 + f)) := zc_up8 h1 (by omega) (by rw [zc_8 h1 (by omega)])
    have r1 : B1 3 mb = B 3 mb := by rw [← hB1, uB_row _ _ _ (by decide)]
    generalize hB2 : uB B1 8 1 (B1 8 1 + f) = B2 at *
    generalize hM2 : uB M1 0 1 (M1 0 1 + f) = M2 at *
    have r2 : B2 3 mb = 0 := by rw [← hB2, uB_row _ _ _ (by decide), r1, hz]
    have h3 : zcur (uB B2 8 2 (B2 8 2 + 1)) (uB M2 0 2 (M2 0 2 + 1)) := zc_up8 h2 (by omega) (by rw [zc_8 h2 (by omega)])
    have ec : uB (uB (uB (uB (uB B2 3 mb am) 4 mb ((am + wk - 1) / wk)) 5 mb 0) 6 mb 0) 8 2 ((uB (uB (uB (uB B2 3 mb am) 4 mb ((am + wk - 1) / wk)) 5 mb 0) 6 mb 0) 8 2 + 1) = uB (uB (uB (uB (uB B2 8 2 (B2 8 2 + 1)) 3 mb am) 4 mb ((am + wk - 1) / wk)) 5 mb 0) 6 mb 0 := by
      rw [uB_row _ _ _ (by decide), uB_row _ _ _ (by decide), uB_row _ _ _ (by decide), uB_row _ _ _ (by decide)]
      rw [uB_comm (uB (uB (uB B2 3 mb am) 4 mb ((am + wk - 1) / wk)) 5 mb 0) (k := 6) (k' := 8) _ _ _ _ (by decide)]
      rw [uB_comm (uB (uB B2 3 mb am) 4 mb ((am + wk - 1) / wk)) (k := 5) (k' := 8) _ _ _ _ (by decide)]
      rw [uB_comm (uB B2 3 mb am) (k := 4) (k' := 8) _ _ _ _ (by decide)]
      rw [uB_comm B2 (k := 3) (k' := 8) _ _ _ _ (by decide)]
    rw [ec]
    have r3 : (uB B2 8 2 (B2 8 2 + 1)) 3 mb = 0 := by rw [uB_row _ _ _ (by decide), r2]
    generalize hB3 : uB B2 8 2 (B2 8 2 + 1) = B3 at *
    generalize hM3 : uB M2 0 2 (M2 0 2 + 1) = M3 at *
    have h4 : zcur (uB B3 3 mb am) (f_X3_adds M3 mb 2 am) := zc_ad h3 hm (by omega) rfl rfl (by rw [r3, Int32.zero_add])
    generalize hB4 : uB B3 3 mb am = B4 at *
    generalize hM4 : f_X3_adds M3 mb 2 am = M4 at *
    have h5 : zcur (uB B4 4 mb ((am + wk - 1) / wk)) (f_X3_adds M4 mb 3 ((am + wk - 1) / wk - f_X3_of M4 mb 3)) := zc_ad h4 hm (by omega) rfl rfl (by rw [zc_of3 h4 hm, z_xpx])
    generalize hB5 : uB B4 4 mb ((am + wk - 1) / wk) = B5 at *
    generalize hM5 : f_X3_adds M4 mb 3 ((am + wk - 1) / wk - f_X3_of M4 mb 3) = M5 at *
    have h6 : zcur (uB B5 5 mb 0) (f_X3_adds M5 mb 4 (-f_X3_of M5 mb 4)) := zc_ad h5 hm (by omega) rfl rfl (by rw [zc_of4 h5 hm, Int32.add_right_neg])
    generalize hB6 : uB B5 5 mb 0 = B6 at *
    generalize hM6 : f_X3_adds M5 mb 4 (-f_X3_of M5 mb 4) = M6 at *
    have h7 : zcur (uB B6 6 mb 0) (f_X3_adds M6 mb 5 (-f_X3_of M6 mb 5)) := zc_ad h6 hm (by omega) rfl rfl (by rw [zc_of5 h6 hm, Int32.add_right_neg])
    refine ⟨rfl, h7, ?_⟩
    have o3 : zonly M M3 := by
      rw [← hM3, ← hM2, ← hM1]
      exact ((zonly.up (by omega)).tr (zonly.up (by omega))).tr (zonly.up (by omega))
    have o4 : zonly M3 M4 := by rw [← hM4]; exact zo_ad hm (by omega)
    have o5 : zonly M4 M5 := by rw [← hM5]; exact zo_ad hm (by omega)
    have o6 : zonly M5 M6 := by rw [← hM6]; exact zo_ad hm (by omega)
    exact (((o3.tr o4).tr o5).tr o6).tr (zo_ad hm (by omega))
  · rw [if_neg c, if_neg c2]
    exact zc_refuses h _
/-- a member's due loan: the model's rest plays the part of what is due -/
theorem ze_takes {B M : BK} {mb fr : Nat} {due mt : Int32} (h : zcur (uB B 3 mb due) M) (hm : mb < 6) (hf : fr < 6) : (f_X3_takes M mb fr mt).1 = zmin due mt ∧ zcur (uB (uB B 0 fr (B 0 fr - zmin due mt)) 3 mb (due - zmin due mt)) (f_X3_takes M mb fr mt).2 ∧ zonly M (f_X3_takes M mb fr mt).2 := by
  have er : f_X3_of M mb 2 = due := by rw [zc_of2 h hm, uB_self]
  have key : ∀ x : Int32, zcur (uB (uB B 0 fr (B 0 fr - x)) 3 mb (due - x)) (f_X3_adds (f_X3_adds M fr 0 (-x)) mb 2 (-x)) ∧ zonly M (f_X3_adds (f_X3_adds M fr 0 (-x)) mb 2 (-x)) := by
    intro x
    have h1 : zcur (uB (uB B 3 mb due) 0 fr (B 0 fr - x)) (f_X3_adds M fr 0 (-x)) := zc_ad h hf (by omega) rfl rfl (by rw [uB_row _ _ _ (by decide), Int32.sub_eq_add_neg])
    have h2 : zcur (uB (uB (uB B 3 mb due) 0 fr (B 0 fr - x)) 3 mb (due - x)) (f_X3_adds (f_X3_adds M fr 0 (-x)) mb 2 (-x)) := zc_ad h1 hm (by omega) rfl rfl (by rw [uB_row _ _ _ (by decide), uB_self, Int32.sub_eq_add_neg])
    refine ⟨?_, (zo_ad hf (by omega)).tr (zo_ad hm (by omega))⟩
    have e : uB (uB (uB B 3 mb due) 0 fr (B 0 fr - x)) 3 mb (due - x) = uB (uB B 0 fr (B 0 fr - x)) 3 mb (due - x) := by
      rw [uB_comm B (k := 3) (k' := 0) _ _ _ _ (by decide)]
      funext q
      by_cases c : q = 3
      · subst c
        rw [uB_hit, uB_hit, uB_hit]
        funext j
        by_cases c2 : j = mb
        · subst c2; rw [pk_us, pk_us]
        · rw [pk_un c2, pk_un c2, pk_un c2]
      · rw [uB_row _ _ _ c, uB_row _ _ _ c, uB_row _ _ _ c]
    rw [← e]
    exact h2
  unfold f_X3_takes
  rw [er]
  unfold zmin
  by_cases c : mt ≤ due
  · rw [if_pos c]
    dsimp only
    by_cases c2 : mt < due
    · rw [if_pos c2]
      exact ⟨rfl, key mt⟩
    · rw [if_neg c2]
      have e : due = mt := Int32.le_antisymm (Int32.not_lt.mp c2) c
      subst e
      exact ⟨rfl, key due⟩
  · rw [if_neg c]
    dsimp only
    rw [if_neg (fun q => c (Int32.le_of_lt q))]
    exact ⟨rfl, key due⟩
theorem uB_uB (B : BK) (k i : Nat) (v w : Int32) : uB (uB B k i v) k i w = uB B k i w := by
  funext q
  by_cases c : q = k
  · subst c
    rw [uB_hit, uB_hit, uB_hit]
    funext j
    by_cases c2 : j = i
    · subst c2; rw [pk_us, pk_us]
    · rw [pk_un c2, pk_un c2, pk_un c2]
  · rw [uB_row _ _ _ c, uB_row _ _ _ c, uB_row _ _ _ c]
theorem uB_id (B : BK) (k i : Nat) : uB B k i (B k i) = B := by
  funext q
  by_cases c : q = k
  · subst c
    rw [uB_hit]
    funext j
    by_cases c2 : j = i
    · subst c2; rw [pk_us]
    · rw [pk_un c2]
  · rw [uB_row _ _ _ c]
theorem ze_due14 {B0 M0 : BK} {mb : Nat} (hm : mb < 6) {due : Int32} {B M : BK} (h : zcur (uB B 3 mb due) M) : ∀ n, n ≤ 6 → zcur (uB (f_X0_takeDue_34 B0 mb due B n).2 3 mb (f_X0_takeDue_34 B0 mb due B n).1) (f_X3_fallsDue_14 M0 mb M n) ∧ zonly M (f_X3_fallsDue_14 M0 mb M n) := by
  intro n
  induction n with
  | zero => intro _; exact ⟨h, zonly.rf M⟩
  | succ n ih =>
    intro hn
    obtain ⟨i1, i2⟩ := ih (by omega)
    unfold f_X0_takeDue_34 f_X3_fallsDue_14
    dsimp only
    generalize (f_X0_takeDue_34 B0 mb due B n).1 = d at *
    generalize (f_X0_takeDue_34 B0 mb due B n).2 = C at *
    generalize f_X3_fallsDue_14 M0 mb M n = K at *
    have ep : f_X3_pledgeOf K n mb = C 2 (n * 6 + mb) := by rw [zc_pl i1 (by omega) hm, uB_row _ _ _ (by decide)]
    have ek : K 0 (46 + 6 * n + mb) = C 2 (n * 6 + mb) := ep
    rw [ep, ek]
    obtain ⟨t1, t2, t3⟩ := ze_takes (fr := n) (mt := C 2 (n * 6 + mb)) i1 hm (by omega)
    rw [t1]
    generalize zmin d (C 2 (n * 6 + mb)) = t at *
    generalize (f_X3_takes K mb n (C 2 (n * 6 + mb))).2 = K2 at *
    have h4 := zc_upl t2 (mb := n) (br := mb) (by omega) hm (v := C 2 (n * 6 + mb) - t) (w := C 2 (n * 6 + mb) - t) rfl
    refine ⟨?_, i2.tr (t3.tr (zonly.up (by omega)))⟩
    rw [uB_row _ _ _ (by decide : ¬ 2 = 0), ← uB_comm _ (k := 3) (k' := 2) _ _ _ _ (by decide)]
    exact h4
theorem ze_due {B M : BK} (h : zcur B M) {mb : Nat} (hm : mb < 6) : zcur (uB (f_X0_takeDue B mb) 8 3 (B 8 3 + 1)) (f_X3_fallsDue M mb) ∧ zonly M (f_X3_fallsDue M mb) := by
  have h0 : zcur (uB B 3 mb (B 3 mb)) M := by rw [uB_id]; exact h
  obtain ⟨t1, t2, t3⟩ := ze_takes (fr := mb) (mt := f_X3_own M mb) h0 hm hm
  rw [zc_own h hm] at t1 t2 t3
  unfold f_X3_fallsDue f_X0_takeDue
  dsimp only
  rw [zc_own h hm]
  generalize zmin (B 3 mb) (f_X0_ownLeft B mb) = own at *
  generalize (f_X3_takes M mb mb (f_X0_ownLeft B mb)).2 = M1 at *
  obtain ⟨l1, l2⟩ := ze_due14 (B0 := B) (M0 := M) hm t2 6 (by omega)
  have r8 : ∀ n, (f_X0_takeDue_34 B mb (B 3 mb - own) (uB B 0 mb (B 0 mb - own)) n).2 8 = B 8 := by
    intro n
    induction n with
    | zero => exact uB_row B (k := 0) (k' := 8) mb (B 0 mb - own) (by decide)
    | succ n ih =>
      unfold f_X0_takeDue_34
      dsimp only
      rw [uB_row _ _ _ (by decide), uB_row _ _ _ (by decide)]
      exact ih
  have r8 := r8 6
  generalize (f_X0_takeDue_34 B mb (B 3 mb - own) (uB B 0 mb (B 0 mb - own)) 6).1 = d at *
  generalize (f_X0_takeDue_34 B mb (B 3 mb - own) (uB B 0 mb (B 0 mb - own)) 6).2 = C at *
  generalize f_X3_fallsDue_14 M mb M1 6 = K at *
  have h2 : zcur (uB C 3 mb 0) (f_X3_adds K mb 2 (-f_X3_of K mb 2)) := by
    have := zc_ad (v := 0) l1 hm (wt := 2) (k := 3) (by_ := -f_X3_of K mb 2) (by omega) rfl rfl (by rw [zc_of2 l1 hm, Int32.add_right_neg])
    rw [uB_uB] at this
    exact this
  refine ⟨zc_up8 h2 (by omega) ?_, ((t3.tr l2).tr (zo_ad hm (by omega))).tr (zonly.up (by omega))⟩
  rw [zc_8 h2 (by omega), uB_row _ _ _ (by decide), r8]
/-! row 8 is not looked at -/
theorem z8_due34 (B0 B1 : BK) (mb : Nat) (i0 : Int32) (X : BK) (d : Int32) : ∀ n, (f_X0_takeDue_34 B0 mb i0 (uB X 8 3 d) n).1 = (f_X0_takeDue_34 B1 mb i0 X n).1 ∧ (f_X0_takeDue_34 B0 mb i0 (uB X 8 3 d) n).2 = uB (f_X0_takeDue_34 B1 mb i0 X n).2 8 3 d := by
  intro n
  induction n with
  | zero => exact ⟨rfl, rfl⟩
  | succ n ih =>
    obtain ⟨e1, e2⟩ := ih
    unfold f_X0_takeDue_34
    dsimp only
    rw [e1, e2]
    generalize (f_X0_takeDue_34 B1 mb i0 X n).1 = y
    generalize (f_X0_takeDue_34 B1 mb i0 X n).2 = C
    rw [uB_row C (k := 8) (k' := 2) _ _ (by decide), uB_row C (k := 8) (k' := 0) _ _ (by decide)]
    refine ⟨rfl, ?_⟩
    rw [uB_comm C (k := 8) (k' := 0) _ _ _ _ (by decide), uB_comm _ (k := 8) (k' := 2) _ _ _ _ (by decide), uB_row _ (k := 8) (k' := 2) _ _ (by decide)]
theorem z8_by (B : BK) (mb : Nat) (d : Int32) : f_X0_pledgedBy (uB B 8 3 d) mb = f_X0_pledgedBy B mb := by
  have key : ∀ n, f_X0_pledgedBy_10 (uB B 8 3 d) mb 0 n = f_X0_pledgedBy_10 B mb 0 n := by
    intro n
    induction n with
    | zero => rfl
    | succ n ih =>
      unfold f_X0_pledgedBy_10
      dsimp only
      rw [ih, uB_row _ _ _ (by decide)]
  exact key 6
theorem z8_own (B : BK) (mb : Nat) (d : Int32) : f_X0_ownLeft (uB B 8 3 d) mb = f_X0_ownLeft B mb := by
  unfold f_X0_ownLeft
  rw [z8_by, uB_row _ _ _ (by decide)]
theorem z8_due (B : BK) (mb : Nat) (d : Int32) : f_X0_takeDue (uB B 8 3 d) mb = uB (f_X0_takeDue B mb) 8 3 d := by
  unfold f_X0_takeDue
  dsimp only
  rw [z8_own, uB_row B (k := 8) (k' := 3) _ _ (by decide), uB_row B (k := 8) (k' := 0) _ _ (by decide)]
  generalize zmin (B 3 mb) (f_X0_ownLeft B mb) = own
  rw [uB_comm B (k := 8) (k' := 0) _ _ _ _ (by decide), (z8_due34 (uB B 8 3 d) B mb (B 3 mb - own) (uB B 0 mb (B 0 mb - own)) d 6).2, uB_comm _ (k := 8) (k' := 3) _ _ _ _ (by decide)]
theorem zr8_due (B : BK) (mb : Nat) : (f_X0_takeDue B mb) 8 = B 8 := by
  have r8 : ∀ (B0 : BK) (i : Int32) (X : BK) n, (f_X0_takeDue_34 B0 mb i X n).2 8 = X 8 := by
    intro B0 i X n
    induction n with
    | zero => rfl
    | succ n ih =>
      unfold f_X0_takeDue_34
      dsimp only
      rw [uB_row _ _ _ (by decide), uB_row _ _ _ (by decide)]
      exact ih
  unfold f_X0_takeDue
  try dsimp only
  rw [uB_row _ _ _ (by decide), r8, uB_row _ _ _ (by decide)]
theorem zr8_week (B : BK) (mb : Nat) : (f_X0_endWeekOf B mb).2 8 = B 8 := by
  unfold f_X0_endWeekOf
  refine zif (fun (r : Int32 × BK) => r.2 8 = B 8) (fun _ => ?_) (fun _ => ?_)
  · refine zif (fun (r : Int32 × BK) => r.2 8 = B 8) (fun _ => ?_) (fun _ => ?_)
    · dsimp only
      rw [zr8_due, uB_row _ _ _ (by decide), uB_row _ _ _ (by decide)]
    · dsimp only
      rw [uB_row _ _ _ (by decide), uB_row _ _ _ (by decide)]
  · refine zif (fun (r : Int32 × BK) => r.2 8 = B 8) (fun _ => ?_) (fun _ => ?_)
    · dsimp only
      rw [zr8_due, uB_row _ _ _ (by decide), uB_row _ _ _ (by decide)]
    · dsimp only
      rw [uB_row _ _ _ (by decide), uB_row _ _ _ (by decide)]
/-- one member's week, on both sides: C is the books without the count of loans fallen due -/
theorem ze_week1 {C K : BK} {c : Int32} (h : zcur (uB C 8 3 c) K) {n : Nat} (hn : n < 6) (x : Int32) (hx : x = C 6 n + 1 ∨ x = 0) (K1 : BK) (h1 : zcur (uB (uB C 8 3 c) 6 n x) K1) (o1 : zonly K K1) :
    ((f_X3_adds K1 n 4 (-f_X3_of K1 n 4)) 0 9 = C 7 1 ∧ f_X3_of (f_X3_adds K1 n 4 (-f_X3_of K1 n 4)) n 5 = x) ∧ zcur (uB (uB (uB C 6 n x) 5 n 0) 8 3 c) (f_X3_adds K1 n 4 (-f_X3_of K1 n 4)) ∧ zonly K (f_X3_adds K1 n 4 (-f_X3_of K1 n 4)) := by
  have h2 : zcur (uB (uB (uB C 8 3 c) 6 n x) 5 n 0) (f_X3_adds K1 n 4 (-f_X3_of K1 n 4)) := zc_ad h1 hn (by omega) rfl rfl (by rw [zc_of4 h1 hn, Int32.add_right_neg])
  refine ⟨⟨?_, ?_⟩, ?_, o1.tr (zo_ad hn (by omega))⟩
  · rw [show (f_X3_adds K1 n 4 (-f_X3_of K1 n 4)) 0 9 = _ from zc_7 (i := 1) h2 (by omega), uB_row _ _ _ (by decide), uB_row _ _ _ (by decide), uB_row _ _ _ (by decide)]
  · rw [zc_of5 h2 hn, uB_row _ _ _ (by decide), uB_self]
  · rw [uB_comm C (k := 8) (k' := 6) _ _ _ _ (by decide), uB_comm _ (k := 8) (k' := 5) _ _ _ _ (by decide)] at h2
    exact h2
theorem ze_week4 {B M M0 : BK} (h : zcur B M) : ∀ n, n ≤ 6 → (f_X3_endsWeek_4 M0 0 M n).1 = (f_X0_endWeek_4 B 0 B n).1 ∧ zcur (uB (f_X0_endWeek_4 B 0 B n).2 8 3 (B 8 3 + (f_X0_endWeek_4 B 0 B n).1)) (f_X3_endsWeek_4 M0 0 M n).2 ∧ zonly M (f_X3_endsWeek_4 M0 0 M n).2 ∧ (f_X0_endWeek_4 B 0 B n).2 8 = B 8 := by
  intro n
  induction n with
  | zero =>
    intro _
    refine ⟨rfl, ?_, zonly.rf M, rfl⟩
    show zcur (uB B 8 3 (B 8 3 + 0)) M
    rw [Int32.add_zero, uB_id]
    exact h
  | succ n ih =>
    intro hn
    obtain ⟨i1, i2, i3, i4⟩ := ih (by omega)
    have hn6 : n < 6 := by omega
    unfold f_X0_endWeek_4 f_X3_endsWeek_4
    dsimp only
    rw [i1]
    generalize (f_X0_endWeek_4 B 0 B n).1 = y at *
    generalize (f_X0_endWeek_4 B 0 B n).2 = C at *
    generalize (f_X3_endsWeek_4 M0 0 M n).2 = K at *
    have e2 : f_X3_of K n 2 = C 3 n := by rw [zc_of2 i2 hn6, uB_row _ _ _ (by decide)]
    have e3 : f_X3_of K n 3 = C 4 n := by rw [zc_of3 i2 hn6, uB_row _ _ _ (by decide)]
    have e4 : f_X3_of K n 4 = C 5 n := by rw [zc_of4 i2 hn6, uB_row _ _ _ (by decide)]
    have e5 : f_X3_of K n 5 = C 6 n := by rw [zc_of5 i2 hn6, uB_row _ _ _ (by decide)]
    rw [e2, e3, e4]
    have hk : f_X0_hasLoan C n = 0 ↔ C 3 n ≤ 0 := by
      unfold f_X0_hasLoan
      by_cases c : C 3 n ≤ 0
      · rw [if_pos c]; exact ⟨fun _ => c, fun _ => rfl⟩
      · rw [if_neg c]; exact ⟨fun q => absurd q (by decide), fun q => absurd q c⟩
    by_cases c1 : C 3 n ≤ 0
    · rw [if_pos (hk.mpr c1), if_pos c1]
      exact ⟨rfl, i2, i3, i4⟩
    · rw [if_neg (fun q => c1 (hk.mp q)), if_neg c1]
      have fin : ∀ (x : Int32) (K2 : BK), (x = C 6 n + 1 ∨ x = 0) → (K2 0 9 = C 7 1 ∧ f_X3_of K2 n 5 = x) ∧ zcur (uB (uB (uB C 6 n x) 5 n 0) 8 3 (B 8 3 + y)) K2 ∧ zonly K K2 →
          ∀ (r : Int32 × BK), r = (if (uB (uB C 6 n x) 5 n 0) 7 1 ≤ (uB (uB C 6 n x) 5 n 0) 6 n then (1, f_X0_takeDue (uB (uB C 6 n x) 5 n 0) n) else (0, uB (uB C 6 n x) 5 n 0)) →
          (if f_X3_of K2 n 5 < K2 0 9 then (y, K2) else (y + 1, f_X3_fallsDue K2 n)).1 = (if r.1 = 0 then (y, r.2) else (y + 1, r.2)).1 ∧ zcur (uB (if r.1 = 0 then (y, r.2) else (y + 1, r.2)).2 8 3 (B 8 3 + (if r.1 = 0 then (y, r.2) else (y + 1, r.2)).1)) (if f_X3_of K2 n 5 < K2 0 9 then (y, K2) else (y + 1, f_X3_fallsDue K2 n)).2 ∧ zonly M (if f_X3_of K2 n 5 < K2 0 9 then (y, K2) else (y + 1, f_X3_fallsDue K2 n)).2 ∧ (if r.1 = 0 then (y, r.2) else (y + 1, r.2)).2 8 = B 8 := by
        intro x K2 hx hK r hr
        obtain ⟨⟨k1, k2⟩, k3, k4⟩ := hK
        rw [k1, k2]
        have ea : (uB (uB C 6 n x) 5 n 0) 7 1 = C 7 1 := by rw [uB_row _ _ _ (by decide), uB_row _ _ _ (by decide)]
        have eb : (uB (uB C 6 n x) 5 n 0) 6 n = x := by rw [uB_row _ _ _ (by decide), uB_self]
        have e8 : (uB (uB C 6 n x) 5 n 0) 8 = B 8 := by rw [uB_row _ _ _ (by decide), uB_row _ _ _ (by decide)]; exact i4
        rw [ea, eb] at hr
        generalize uB (uB C 6 n x) 5 n 0 = E at *
        by_cases c2 : C 7 1 ≤ x
        · rw [if_pos c2] at hr
          subst hr
          rw [if_neg (Int32.not_lt.mpr c2)]
          dsimp only
          rw [if_neg (by decide)]
          dsimp only
          obtain ⟨d1, d2⟩ := ze_due k3 hn6
          refine ⟨rfl, ?_, i3.tr (k4.tr d2), (zr8_due E n).trans e8⟩
          rw [z8_due, uB_uB, uB_self, Int32.add_assoc] at d1
          exact d1
        · rw [if_neg c2] at hr
          subst hr
          rw [if_pos (Int32.not_le.mp c2)]
          dsimp only
          rw [if_pos rfl]
          exact ⟨rfl, k3, i3.tr k4, e8⟩
      unfold f_X0_endWeekOf
      dsimp only
      by_cases c3 : C 4 n ≤ C 5 n
      · rw [if_pos c3, if_pos c3]
        have h1 : zcur (uB (uB C 8 3 (B 8 3 + y)) 6 n 0) (f_X3_adds K n 5 (-f_X3_of K n 5)) := zc_ad i2 hn6 (by omega) rfl rfl (by rw [e5, uB_row _ _ _ (by decide), Int32.add_right_neg])
        exact fin 0 _ (Or.inr rfl) (ze_week1 i2 hn6 0 (Or.inr rfl) _ h1 (zo_ad hn6 (by omega))) _ rfl
      · rw [if_neg c3, if_neg c3]
        have h1 : zcur (uB (uB C 8 3 (B 8 3 + y)) 6 n (C 6 n + 1)) (f_X3_adds K n 5 1) := zc_ad i2 hn6 (by omega) rfl rfl (by rw [uB_row _ _ _ (by decide)])
        exact fin (C 6 n + 1) _ (Or.inl rfl) (ze_week1 i2 hn6 (C 6 n + 1) (Or.inl rfl) _ h1 (zo_ad hn6 (by omega))) _ rfl
theorem ze_endWeek {B M : BK} (h : zcur B M) : zsim (f_X0_endWeek B) (f_X3_endsWeek M) M := by
  obtain ⟨i1, i2, i3, i4⟩ := ze_week4 (M0 := M) h 6 (by omega)
  unfold f_X0_endWeek f_X3_endsWeek
  dsimp only
  generalize (f_X0_endWeek_4 B 0 B 6).1 = y at *
  generalize (f_X0_endWeek_4 B 0 B 6).2 = C at *
  generalize f_X3_endsWeek_4 M 0 M 6 = K at *
  refine ⟨i1, ?_, i3.tr (zonly.up (by omega))⟩
  dsimp only
  have h2 := zc_up8 i2 (i := 4) (v := C 8 4 + 1) (w := K.2 0 4 + 1) (by omega) (by rw [zc_8 i2 (by omega), uB_ne _ _ (by omega)])
  have e : uB (uB C 8 4 (C 8 4 + 1)) 8 3 ((uB C 8 4 (C 8 4 + 1)) 8 3 + y) = uB (uB C 8 3 (B 8 3 + y)) 8 4 (C 8 4 + 1) := by
    rw [uB_ne C _ (by omega), i4]
    funext q
    by_cases c : q = 8
    · subst c
      rw [uB_hit, uB_hit, uB_hit, uB_hit]
      funext j
      by_cases c3 : j = 3
      · subst c3; rw [pk_us, pk_un (by decide), pk_us]
      · by_cases c4 : j = 4
        · subst c4; rw [pk_un (by decide), pk_us, pk_us]
        · rw [pk_un c3, pk_un c4, pk_un c4, pk_un c3]
    · rw [uB_row _ _ _ c, uB_row _ _ _ c, uB_row _ _ _ c, uB_row _ _ _ c]
  rw [e]
  exact h2
end ZE1
