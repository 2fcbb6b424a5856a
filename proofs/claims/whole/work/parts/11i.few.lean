/-! the fewest guarantors: what is asked, and that all three ways tell it -/
section ZFW
/-- of the members in S: how much together, how many -/
def zSu (fr : Nat → Int) (S : Nat → Bool) (n : Nat) : Int := zS (fun i => if S i = true then fr i else 0) n
def zCn (S : Nat → Bool) : Nat → Nat
  | 0 => 0
  | n + 1 => zCn S n + (if S n = true then 1 else 0)
/-- S is enough for a cover c and an amount am -/
def zQf (fr : Nat → Int) (mb : Nat) (c am : Int) (S : Nat → Bool) : Prop := S mb = false ∧ am ≤ c + zSu fr S 6
/-- k: how many are fewest; -1 if all are too few -/
def zFw (fr : Nat → Int) (mb : Nat) (c am : Int) (x : Int32) : Prop :=
  (x = -1 ∧ ∀ S, ¬ zQf fr mb c am S) ∨ ∃ k, k ≤ 6 ∧ x = nI k ∧ (∃ S, zQf fr mb c am S ∧ zCn S 6 = k) ∧ ∀ S, zQf fr mb c am S → k ≤ zCn S 6
theorem zFw.one {fr : Nat → Int} {mb : Nat} {c am : Int} {x y : Int32} (h1 : zFw fr mb c am x) (h2 : zFw fr mb c am y) : x = y := by
  rcases h1 with ⟨rfl, a⟩ | ⟨k, hk, rfl, ⟨S, s1, s2⟩, a⟩
  · rcases h2 with ⟨rfl, b⟩ | ⟨k', hk', rfl, ⟨S', t1, t2⟩, b⟩
    · rfl
    · exact absurd t1 (a S')
  · rcases h2 with ⟨rfl, b⟩ | ⟨k', hk', rfl, ⟨S', t1, t2⟩, b⟩
    · exact absurd s1 (b S)
    · have q1 := a S' t1
      have q2 := b S s1
      congr 1
      omega
theorem zCn_le (S : Nat → Bool) : ∀ n, zCn S n ≤ n
  | 0 => Nat.le_refl 0
  | n + 1 => by
    have := zCn_le S n
    show zCn S n + (if S n = true then 1 else 0) ≤ n + 1
    by_cases c : S n = true
    · rw [if_pos c]; omega
    · rw [if_neg c]; omega
theorem zSu_c (t : Int) (S : Nat → Bool) : ∀ n, zS (fun i => if S i = true then t else 0) n = (zCn S n : Int) * t
  | 0 => by
    show (0 : Int) = ((0 : Nat) : Int) * t
    rw [Int.natCast_zero, Int.zero_mul]
  | n + 1 => by
    show zS _ n + (if S n = true then t else 0) = ((zCn S n + (if S n = true then 1 else 0) : Nat) : Int) * t
    rw [zSu_c t S n]
    by_cases c : S n = true
    · rw [if_pos c, if_pos c, Int.natCast_add, Int.add_mul]
      omega
    · rw [if_neg c, if_neg c, Int.add_zero, Nat.add_zero]
/-- those of whom the most is free are at least as good as any as many -/
theorem zexch {fr : Nat → Int} {A S : Nat → Bool} {t : Int} (ht : 0 ≤ t) (h : ∀ i, i < 6 → (A i = true → t ≤ fr i) ∧ (S i = true → A i = false → fr i ≤ t)) (hc : zCn S 6 ≤ zCn A 6) : zSu fr S 6 ≤ zSu fr A 6 := by
  have e : ∀ n, n ≤ 6 → zSu fr S n - zSu fr A n ≤ zS (fun i => if S i = true then t else 0) n - zS (fun i => if A i = true then t else 0) n := by
    intro n
    induction n with
    | zero => intro _; exact Int.le_refl _
    | succ n ih =>
      intro hn
      have i1 := ih (by omega)
      obtain ⟨h1, h2⟩ := h n (by omega)
      have s1 : zSu fr S (n + 1) = zSu fr S n + (if S n = true then fr n else 0) := rfl
      have s2 : zSu fr A (n + 1) = zSu fr A n + (if A n = true then fr n else 0) := rfl
      have s3 : zS (fun i => if S i = true then t else 0) (n + 1) = zS (fun i => if S i = true then t else 0) n + (if S n = true then t else 0) := rfl
      have s4 : zS (fun i => if A i = true then t else 0) (n + 1) = zS (fun i => if A i = true then t else 0) n + (if A n = true then t else 0) := rfl
      rw [s1, s2, s3, s4]
      cases c1 : S n with
      | true =>
        cases c2 : A n with
        | true => simp only [if_true]; omega
        | false =>
          have := h2 c1 c2
          simp only [if_true, Bool.false_eq_true, if_false]
          omega
      | false =>
        cases c2 : A n with
        | true =>
          have := h1 c2
          simp only [if_true, Bool.false_eq_true, if_false]
          omega
        | false => simp only [Bool.false_eq_true, if_false]; omega
  have e6 := e 6 (Nat.le_refl 6)
  rw [zSu_c, zSu_c] at e6
  have : (zCn S 6 : Int) * t ≤ (zCn A 6 : Int) * t := Int.mul_le_mul_of_nonneg_right (by omega) ht
  omega
/-- one more -/
def zad1 (A : Nat → Bool) (j : Nat) : Nat → Bool := fun i => if i = j then true else A i
theorem zSu_ad {fr : Nat → Int} {A : Nat → Bool} {j : Nat} (hj : j < 6) (hA : A j = false) : zSu fr (zad1 A j) 6 = zSu fr A 6 + fr j := by
  unfold zSu
  rw [zS_up (f := fun i => if A i = true then fr i else 0) (g := fun i => if (zad1 A j) i = true then fr i else 0) (j := j) (fun i hi => by unfold zad1; rw [if_neg hi]) hj]
  unfold zad1
  rw [if_pos rfl, if_pos rfl, hA, if_neg (by decide)]
  omega
theorem zCn_ad {A : Nat → Bool} {j : Nat} (hA : A j = false) : ∀ n, zCn (zad1 A j) n = zCn A n + (if j < n then 1 else 0)
  | 0 => by
    rw [if_neg (Nat.not_lt_zero j)]
    rfl
  | n + 1 => by
    have := zCn_ad hA n
    show zCn (zad1 A j) n + (if (zad1 A j) n = true then 1 else 0) = zCn A n + (if A n = true then 1 else 0) + (if j < n + 1 then 1 else 0)
    rw [this]
    unfold zad1
    by_cases c : n = j
    · subst c
      rw [if_pos rfl, if_pos rfl, hA, if_neg (Nat.lt_irrefl n), if_neg (by decide), if_pos (Nat.lt_succ_self n)]
    · rw [if_neg c]
      by_cases c2 : j < n
      · rw [if_pos c2, if_pos (show j < n + 1 by omega)]
        omega
      · rw [if_neg c2, if_neg (show ¬ j < n + 1 by omega)]
        omega
/-- what holds on the way of the greatest ones: A are taken, what is free of each is at least t, of the others at most t -/
def zGr (fr : Nat → Int) (mb : Nat) (c am : Int) (A : Nat → Bool) (cv : Int) (q : Nat) : Prop :=
  A mb = false ∧ cv = c + zSu fr A 6 ∧ zCn A 6 = q ∧ (∃ t, 0 ≤ t ∧ ∀ i, i < 6 → (A i = true → t ≤ fr i) ∧ (A i = false → ¬ i = mb → fr i ≤ t)) ∧ ∀ S, zQf fr mb c am S → q ≤ zCn S 6
theorem zGr.le {fr : Nat → Int} {mb : Nat} {c am : Int} {A : Nat → Bool} {cv : Int} {q : Nat} (h : zGr fr mb c am A cv q) {S : Nat → Bool} (hs : S mb = false) (hc : zCn S 6 ≤ q) : c + zSu fr S 6 ≤ cv := by
  obtain ⟨h1, h2, h3, ⟨t, t0, ht⟩, h5⟩ := h
  have := zexch (fr := fr) (A := A) (S := S) t0 (fun i hi => ⟨(ht i hi).1, fun s a => (ht i hi).2 a (fun e => by rw [e, hs] at s; cases s)⟩) (by omega)
  omega
theorem zGr.done {fr : Nat → Int} {mb : Nat} {c am : Int} {A : Nat → Bool} {cv : Int} {q : Nat} (h : zGr fr mb c am A cv q) (hc : am ≤ cv) : zFw fr mb c am (nI q) := by
  obtain ⟨h1, h2, h3, h4, h5⟩ := h
  refine Or.inr ⟨q, ?_, rfl, ⟨A, ⟨h1, by omega⟩, h3⟩, h5⟩
  have := zCn_le A 6
  omega
/-- all that is free is taken, and it is too little -/
theorem zGr.none {fr : Nat → Int} {mb : Nat} {c am : Int} {A : Nat → Bool} {cv : Int} {q : Nat} (h : zGr fr mb c am A cv q) (hc : cv < am) (h0 : ∀ i, i < 6 → 0 ≤ fr i) (hn : ∀ i, i < 6 → A i = false → ¬ i = mb → fr i ≤ 0) : zFw fr mb c am (-1) := by
  refine Or.inl ⟨rfl, fun S hS => ?_⟩
  obtain ⟨s1, s2⟩ := hS
  have : zSu fr S 6 ≤ zSu fr A 6 := by
    refine zS_le (fun i hi => ?_)
    have g0 := h0 i hi
    cases c1 : S i with
    | false =>
      rw [if_neg (by decide)]
      by_cases c2 : A i = true
      · rw [if_pos c2]; exact g0
      · rw [if_neg c2]; exact Int.le_refl 0
    | true =>
      rw [if_pos rfl]
      cases c2 : A i with
      | true => rw [if_pos rfl]; exact Int.le_refl _
      | false =>
        rw [if_neg (by decide)]
        exact hn i hi c2 (fun e => by rw [e, s1] at c1; cases c1)
  have h2 := h.2.1
  omega
theorem zGr.next {fr : Nat → Int} {mb : Nat} {c am : Int} {A : Nat → Bool} {cv : Int} {q : Nat} (h : zGr fr mb c am A cv q) (hc : cv < am) {j : Nat} (hj : j < 6) (hA : A j = false) (hm : ¬ j = mb) (h0 : 0 ≤ fr j) (hx : ∀ i, i < 6 → A i = false → ¬ i = mb → fr i ≤ fr j) : zGr fr mb c am (zad1 A j) (cv + fr j) (q + 1) := by
  have hle := fun (S : Nat → Bool) (hs : S mb = false) (hcn : zCn S 6 ≤ q) => h.le hs hcn
  obtain ⟨h1, h2, h3, ⟨t, t0, ht⟩, h5⟩ := h
  refine ⟨?_, ?_, ?_, ⟨fr j, h0, fun i hi => ⟨fun a => ?_, fun a hi2 => ?_⟩⟩, fun S hS => ?_⟩
  · unfold zad1
    rw [if_neg (fun e => hm e.symm)]
    exact h1
  · rw [zSu_ad hj hA]
    omega
  · rw [zCn_ad hA 6, if_pos hj]
    omega
  · unfold zad1 at a
    by_cases c : i = j
    · subst c
      exact Int.le_refl _
    · rw [if_neg c] at a
      have g1 := (ht i hi).1 a
      have g2 := (ht j hj).2 hA hm
      omega
  · unfold zad1 at a
    by_cases c : i = j
    · rw [if_pos c] at a
      cases a
    · rw [if_neg c] at a
      exact hx i hi a hi2
  · have g1 := h5 S hS
    by_cases c2 : zCn S 6 ≤ q
    · have := hle S hS.1 c2
      have := hS.2
      omega
    · omega
theorem zGr.start {fr : Nat → Int} {mb : Nat} {c am : Int} {t : Int} (t0 : 0 ≤ t) (ht : ∀ i, i < 6 → fr i ≤ t) : zGr fr mb c am (fun _ => false) c 0 := by
  have e1 : zSu fr (fun _ => false) 6 = 0 := by
    have q : ∀ n, zSu fr (fun _ => false) n = 0 := by
      intro n
      induction n with
      | zero => rfl
      | succ n ih =>
        show zSu fr (fun _ => false) n + (if false = true then fr n else 0) = 0
        rw [ih, if_neg (by decide)]
        rfl
    exact q 6
  have e2 : zCn (fun _ => false) 6 = 0 := by decide
  exact ⟨rfl, by omega, e2, ⟨t, t0, fun i hi => ⟨fun a => absurd (show false = true from a) Bool.false_ne_true, fun _ _ => ht i hi⟩⟩, fun S _ => Nat.zero_le _⟩
end ZFW
