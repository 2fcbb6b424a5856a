/-! what the deeds keep -/
section ZJ2
theorem zv_self (B : BK) (k i : Nat) (x : Int32) : zv (uB B k i x) k i = x.toInt := by
  unfold zv
  rw [uB_self]
theorem zv_ne (B : BK) {k k' i i' : Nat} (x : Int32) (h : ¬ (k' = k ∧ i' = i)) : zv (uB B k i x) k' i' = zv B k' i' := by
  unfold zv
  rw [uB_ne _ _ h]
theorem zv_row (B : BK) {k k' : Nat} (i i' : Nat) (x : Int32) (h : ¬ k' = k) : zv (uB B k i x) k' i' = zv B k' i' := zv_ne B x (fun e => h e.1)
theorem zbI_row (B : BK) {k : Nat} (i j : Nat) (x : Int32) (h : ¬ 2 = k) : zbI (uB B k i x) j = zbI B j := zS_congr (fun i' _ => zv_row B _ _ x h)
theorem zfI_row (B : BK) {k : Nat} (i j : Nat) (x : Int32) (h : ¬ 2 = k) : zfI (uB B k i x) j = zfI B j := zS_congr (fun i' _ => zv_row B _ _ x h)
theorem zbI_2 (B : BK) {m b : Nat} (x : Int32) (hb : b < 6) (j : Nat) (hm : m < 6) (hj : j < 6) : zbI (uB B 2 (m * 6 + b) x) j = zbI B j + (if j = m then x.toInt - zv B 2 (m * 6 + b) else 0) := by
  by_cases c : j = m
  · subst c
    rw [if_pos rfl]
    unfold zbI
    rw [zS_up (f := fun i => zv B 2 (j * 6 + i)) (g := fun i => zv (uB B 2 (j * 6 + b) x) 2 (j * 6 + i)) (j := b) (fun i hi => zv_ne B x (fun e => hi (by omega))) hb, zv_self]
  · rw [if_neg c, Int.add_zero]
    exact zS_congr (fun i hi => zv_ne B x (fun e => c (by omega)))
theorem zfI_2 (B : BK) {m b : Nat} (x : Int32) (hb : b < 6) (j : Nat) (hm : m < 6) (hj : j < 6) : zfI (uB B 2 (m * 6 + b) x) j = zfI B j + (if j = b then x.toInt - zv B 2 (m * 6 + b) else 0) := by
  by_cases c : j = b
  · subst c
    rw [if_pos rfl]
    unfold zfI
    rw [zS_up (f := fun i => zv B 2 (i * 6 + j)) (g := fun i => zv (uB B 2 (m * 6 + j) x) 2 (i * 6 + j)) (j := m) (fun i hi => zv_ne B x (fun e => hi (by omega))) hm, zv_self]
  · rw [if_neg c, Int.add_zero]
    exact zS_congr (fun i hi => zv_ne B x (fun e => c (by omega)))
theorem zI_set0 {K K' : Int} {B : BK} (h : zI K B) {i : Nat} (hi : i < 6) {x : Int32} (d : Int) (hx : x.toInt = zv B 0 i + d) (h1 : zbI B i ≤ zv B 0 i + d) (h2 : zv B 3 i ≤ zv B 0 i + d - zbI B i + zfI B i) (hk : K + d ≤ K') : zI K' (uB B 0 i x) := by
  obtain ⟨a1, a2, a3, a4, a5, a6, a7, a8⟩ := h
  refine ⟨fun j hj => ?_, fun j hj => ?_, fun j hj => ?_, fun j hj => ?_, fun j hj => ?_, ?_, ?_, ?_⟩
  · rw [zv_row B _ _ _ (by decide)]
    exact a1 j hj
  · rw [zv_row B _ _ _ (by decide)]
    exact a2 j hj
  · rw [zv_row B _ _ _ (by decide), zv_row B _ _ _ (by decide)]
    exact a3 j hj
  · rw [zbI_row B _ _ _ (by decide)]
    by_cases c : j = i
    · subst c
      rw [zv_self, hx]
      exact h1
    · rw [zv_ne B _ (fun e => c e.2)]
      exact a4 j hj
  · rw [zbI_row B _ _ _ (by decide), zfI_row B _ _ _ (by decide), zv_row B _ _ _ (by decide)]
    by_cases c : j = i
    · subst c
      rw [zv_self, hx]
      exact h2
    · rw [zv_ne B _ (fun e => c e.2)]
      exact a5 j hj
  · rw [zv_row B _ _ _ (by decide)]
    exact a6
  · rw [zv_row B _ _ _ (by decide), zv_row B _ _ _ (by decide)]
    exact a7
  · rw [zv_row B _ _ _ (by decide), zS_up (f := zv B 0) (g := zv (uB B 0 i x) 0) (j := i) (fun j hj => zv_ne B x (fun e => hj e.2)) hi, zv_self, hx]
    omega
theorem zI_set1 {K : Int} {B : BK} (h : zI K B) {i : Nat} {x : Int32} (h0 : 0 ≤ x.toInt) (h1 : x.toInt ≤ 100000000) : zI K (uB B 1 i x) := by
  obtain ⟨a1, a2, a3, a4, a5, a6, a7, a8⟩ := h
  refine ⟨fun j hj => ?_, fun j hj => ?_, fun j hj => ?_, fun j hj => ?_, fun j hj => ?_, ?_, ?_, ?_⟩
  · by_cases c : j = i
    · subst c
      rw [zv_self]
      exact ⟨h0, h1⟩
    · rw [zv_ne B _ (fun e => c e.2)]
      exact a1 j hj
  · rw [zv_row B _ _ _ (by decide)]
    exact a2 j hj
  · rw [zv_row B _ _ _ (by decide), zv_row B _ _ _ (by decide)]
    exact a3 j hj
  · rw [zbI_row B _ _ _ (by decide), zv_row B _ _ _ (by decide)]
    exact a4 j hj
  · rw [zbI_row B _ _ _ (by decide), zfI_row B _ _ _ (by decide), zv_row B _ _ _ (by decide), zv_row B _ _ _ (by decide)]
    exact a5 j hj
  · rw [zv_row B _ _ _ (by decide)]
    exact a6
  · rw [zv_row B _ _ _ (by decide), zv_row B _ _ _ (by decide)]
    exact a7
  · rw [zv_row B _ _ _ (by decide), zS_congr (f := zv (uB B 1 i x) 0) (g := zv B 0) (fun j _ => zv_row B _ _ x (by decide))]
    exact a8
theorem zI_set2 {K : Int} {B : BK} (h : zI K B) {m b : Nat} (hm : m < 6) (hb : b < 6) {x : Int32} (d : Int) (hx : x.toInt = zv B 2 (m * 6 + b) + d) (h0 : 0 ≤ zv B 2 (m * 6 + b) + d) (h1 : zbI B m + d ≤ zv B 0 m) (h2 : zv B 3 m ≤ zv B 0 m - (zbI B m + d) + zfI B m) (h3 : zv B 3 b ≤ zv B 0 b - zbI B b + (zfI B b + d)) : zI K (uB B 2 (m * 6 + b) x) := by
  obtain ⟨a1, a2, a3, a4, a5, a6, a7, a8⟩ := h
  have ed : x.toInt - zv B 2 (m * 6 + b) = d := by omega
  refine ⟨fun j hj => ?_, fun j hj => ?_, fun j hj => ?_, fun j hj => ?_, fun j hj => ?_, ?_, ?_, ?_⟩
  · rw [zv_row B _ _ _ (by decide)]
    exact a1 j hj
  · by_cases c : j = m * 6 + b
    · subst c
      rw [zv_self, hx]
      exact h0
    · rw [zv_ne B _ (fun e => c e.2)]
      exact a2 j hj
  · rw [zv_row B _ _ _ (by decide), zv_row B _ _ _ (by decide)]
    exact a3 j hj
  · rw [zbI_2 B x hb j hm hj, zv_row B _ _ _ (by decide), ed]
    have := a4 j hj
    by_cases c : j = m
    · subst c
      rw [if_pos rfl]
      exact h1
    · rw [if_neg c]
      omega
  · rw [zbI_2 B x hb j hm hj, zfI_2 B x hb j hm hj, zv_row B _ _ _ (by decide), zv_row B _ _ _ (by decide), ed]
    have := a5 j hj
    by_cases c : j = m
    · subst c
      rw [if_pos rfl]
      by_cases c2 : j = b
      · subst c2
        rw [if_pos rfl]
        omega
      · rw [if_neg c2]
        omega
    · rw [if_neg c]
      by_cases c2 : j = b
      · subst c2
        rw [if_pos rfl]
        omega
      · rw [if_neg c2]
        omega
  · rw [zv_row B _ _ _ (by decide)]
    exact a6
  · rw [zv_row B _ _ _ (by decide), zv_row B _ _ _ (by decide)]
    exact a7
  · rw [zv_row B _ _ _ (by decide), zS_congr (f := zv (uB B 2 (m * 6 + b) x) 0) (g := zv B 0) (fun j _ => zv_row B _ _ x (by decide))]
    exact a8
/-- a member's loan: rest and part -/
theorem zI_set34 {K : Int} {B : BK} (h : zI K B) {i : Nat} {x y : Int32} (h0 : 0 ≤ x.toInt) (h1 : x.toInt ≤ 9999) (h2 : x.toInt ≤ zv B 0 i - zbI B i + zfI B i) (h3 : 0 < x.toInt → 1 ≤ y.toInt ∧ y.toInt ≤ 9999) : zI K (uB (uB B 3 i x) 4 i y) := by
  obtain ⟨a1, a2, a3, a4, a5, a6, a7, a8⟩ := h
  refine ⟨fun j hj => ?_, fun j hj => ?_, fun j hj => ?_, fun j hj => ?_, fun j hj => ?_, ?_, ?_, ?_⟩
  · rw [zv_row _ _ _ _ (by decide), zv_row _ _ _ _ (by decide)]
    exact a1 j hj
  · rw [zv_row _ _ _ _ (by decide), zv_row _ _ _ _ (by decide)]
    exact a2 j hj
  · by_cases c : j = i
    · subst c
      rw [zv_self, zv_row _ _ _ _ (by decide), zv_self]
      exact ⟨h0, h1, h3⟩
    · rw [zv_ne _ (k := 4) _ (fun e => c e.2), zv_ne _ (k := 4) _ (fun e => c e.2), zv_ne _ _ (fun e => c e.2), zv_row _ _ _ _ (by decide)]
      exact a3 j hj
  · rw [zbI_row _ _ _ _ (by decide), zbI_row _ _ _ _ (by decide), zv_row _ _ _ _ (by decide), zv_row _ _ _ _ (by decide)]
    exact a4 j hj
  · rw [zbI_row _ _ _ _ (by decide), zbI_row _ _ _ _ (by decide), zfI_row _ _ _ _ (by decide), zfI_row _ _ _ _ (by decide), zv_row _ (k := 4) _ _ _ (by decide), zv_row _ (k := 4) _ _ _ (by decide), zv_row _ (k' := 0) _ _ _ (by decide)]
    by_cases c : j = i
    · subst c
      rw [zv_self]
      exact h2
    · rw [zv_ne _ _ (fun e => c e.2)]
      exact a5 j hj
  · rw [zv_row _ _ _ _ (by decide), zv_row _ _ _ _ (by decide)]
    exact a6
  · rw [zv_row _ (k := 4) _ _ _ (by decide), zv_row _ (k := 4) _ _ _ (by decide), zv_row _ _ _ _ (by decide), zv_row _ _ _ _ (by decide)]
    exact a7
  · rw [zv_row _ _ _ _ (by decide), zv_row _ _ _ _ (by decide), zS_congr (f := zv (uB (uB B 3 i x) 4 i y) 0) (g := zv B 0) (fun j _ => by rw [zv_row _ _ _ _ (by decide), zv_row _ _ _ _ (by decide)])]
    exact a8
/-- rows that are not spoken of -/
theorem zI_skip {K : Int} {B B' : BK} (h : zI K B) (hr : ∀ k, k < 5 → B' k = B k) (h7 : B' 7 0 = B 7 0) (h84 : zv B' 8 4 ≤ 9999) (h81 : B' 8 1 = B 8 1) : zI K B' := by
  obtain ⟨a1, a2, a3, a4, a5, a6, a7, a8⟩ := h
  have e : ∀ k j, k < 5 → zv B' k j = zv B k j := fun k j hk => by
    unfold zv
    rw [hr k hk]
  have eb : ∀ j, zbI B' j = zbI B j := fun j => zS_congr (fun i _ => e 2 _ (by omega))
  have ef : ∀ j, zfI B' j = zfI B j := fun j => zS_congr (fun i _ => e 2 _ (by omega))
  have e7 : zv B' 7 0 = zv B 7 0 := by
    unfold zv
    rw [h7]
  have e8 : zv B' 8 1 = zv B 8 1 := by
    unfold zv
    rw [h81]
  have et : zS (zv B' 0) 6 = zS (zv B 0) 6 := zS_congr (fun i _ => e 0 i (by omega))
  refine ⟨fun j hj => ?_, fun j hj => ?_, fun j hj => ?_, fun j hj => ?_, fun j hj => ?_, ?_, ?_, ?_⟩
  · rw [e 1 _ (by omega)]
    exact a1 j hj
  · rw [e 2 _ (by omega)]
    exact a2 j hj
  · rw [e 3 _ (by omega), e 4 _ (by omega)]
    exact a3 j hj
  · rw [eb, e 0 _ (by omega)]
    exact a4 j hj
  · rw [eb, ef, e 0 _ (by omega), e 3 _ (by omega)]
    exact a5 j hj
  · rw [e7]
    exact a6
  · rw [e8]
    exact ⟨h84, a7.2⟩
  · rw [et, e8]
    exact a8
/-- a row above the fourth, but for the fee, the surplus and the weeks -/
theorem zI_up {K : Int} {B : BK} (h : zI K B) {k i : Nat} {x : Int32} (hk : 5 ≤ k) (h7 : ¬ (7 = k ∧ 0 = i)) (h84 : ¬ (8 = k ∧ 4 = i)) (h81 : ¬ (8 = k ∧ 1 = i)) : zI K (uB B k i x) :=
  zI_skip h (fun k' hk' => uB_row B i x (by omega)) (uB_ne B x h7) (by rw [zv_ne B x h84]; exact h.2.2.2.2.2.2.1.1) (uB_ne B x h81)
theorem zI_sur {K K' : Int} {B : BK} (h : zI K B) {x : Int32} (d : Int) (hx : x.toInt = zv B 8 1 + d) (h0 : 0 ≤ zv B 8 1 + d) (hk : K + d ≤ K') : zI K' (uB B 8 1 x) := by
  obtain ⟨a1, a2, a3, a4, a5, a6, a7, a8⟩ := h
  refine ⟨fun j hj => ?_, fun j hj => ?_, fun j hj => ?_, fun j hj => ?_, fun j hj => ?_, ?_, ?_, ?_⟩
  · rw [zv_row B _ _ _ (by decide)]
    exact a1 j hj
  · rw [zv_row B _ _ _ (by decide)]
    exact a2 j hj
  · rw [zv_row B _ _ _ (by decide), zv_row B _ _ _ (by decide)]
    exact a3 j hj
  · rw [zbI_row B _ _ _ (by decide), zv_row B _ _ _ (by decide)]
    exact a4 j hj
  · rw [zbI_row B _ _ _ (by decide), zfI_row B _ _ _ (by decide), zv_row B _ _ _ (by decide), zv_row B _ _ _ (by decide)]
    exact a5 j hj
  · rw [zv_row B _ _ _ (by decide)]
    exact a6
  · rw [zv_ne B _ (by decide), zv_self, hx]
    exact ⟨a7.1, h0⟩
  · rw [zv_self, hx, zS_congr (f := zv (uB B 8 1 x) 0) (g := zv B 0) (fun j _ => zv_row B _ _ x (by decide))]
    omega
end ZJ2
