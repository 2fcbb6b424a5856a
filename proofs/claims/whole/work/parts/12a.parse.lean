/-! the reader's signs -/
section ZPA
theorem zt_n59 {s : Nat → Nat} (h : f_X1_isWhole s = 0) : (f_X1_take s 59).1 = 0 := by
  unfold f_X1_take f_X1_takeEnd
  rw [if_pos rfl, if_pos h]
theorem zt_59 {s : Nat → Nat} (h : ¬ f_X1_isWhole s = 0) : f_X1_take s 59 = (1, f_X1_restart s) := by
  unfold f_X1_take f_X1_takeEnd
  rw [if_pos rfl, if_neg h]
theorem zwh_lo {s : Nat → Nat} (h : s 0 < 5) : f_X1_isWhole s = 0 := by
  unfold f_X1_isWhole
  rw [if_neg (by omega), if_neg (by omega), if_neg (by omega)]
theorem zwh_5 {s : Nat → Nat} (h : s 0 = 5) : ¬ f_X1_isWhole s = 0 ↔ (0 < s 4 ∧ ¬ s 1 = 98) := by
  unfold f_X1_isWhole
  rw [if_pos h]
  by_cases c : s 4 ≤ 0
  · rw [if_pos c]
    exact ⟨fun q => absurd rfl q, fun q => by omega⟩
  · rw [if_neg c]
    by_cases c2 : s 1 = 98
    · rw [if_pos c2]
      exact ⟨fun q => absurd rfl q, fun q => absurd c2 q.2⟩
    · rw [if_neg c2]
      exact ⟨fun _ => ⟨by omega, c2⟩, fun _ => z10⟩
theorem zwh_6 {s : Nat → Nat} (h : s 0 = 6) : ¬ f_X1_isWhole s = 0 ↔ 0 < s 5 := by
  unfold f_X1_isWhole
  rw [if_neg (by omega), if_pos h]
  by_cases c : s 5 ≤ 0
  · rw [if_pos c]
    exact ⟨fun q => absurd rfl q, fun q => by omega⟩
  · rw [if_neg c]
    exact ⟨fun _ => by omega, fun _ => z10⟩
theorem zwh_7 {s : Nat → Nat} (h : s 0 = 7) : ¬ f_X1_isWhole s = 0 := by
  unfold f_X1_isWhole
  rw [if_neg (by omega), if_neg (by omega), if_pos h]
  exact z10
theorem zt0 {s : Nat → Nat} {c : Nat} (h : s 0 = 0) (hc : c = 43 ∨ c = 45 ∨ c = 112 ∨ c = 98 ∨ c = 114) : f_X1_take s c = (1, va_up (va_up s 1 c) 0 1) := by
  rcases hc with rfl | rfl | rfl | rfl | rfl
  · unfold f_X1_take
    rw [if_neg (by decide), if_pos h]
    rfl
  · unfold f_X1_take
    rw [if_neg (by decide), if_pos h]
    rfl
  · unfold f_X1_take
    rw [if_neg (by decide), if_pos h]
    rfl
  · unfold f_X1_take
    rw [if_neg (by decide), if_pos h]
    rfl
  · unfold f_X1_take
    rw [if_neg (by decide), if_pos h]
    rfl
theorem zt0w {s : Nat → Nat} (h : s 0 = 0) : f_X1_take s 119 = (1, va_up (va_up s 1 119) 0 7) := by
  unfold f_X1_take
  rw [if_neg (by decide), if_pos h]
  rfl
theorem zt0n {s : Nat → Nat} {c : Nat} (h : s 0 = 0) (h1 : ¬ c = 43) (h2 : ¬ c = 45) (h3 : ¬ c = 112) (h4 : ¬ c = 98) (h5 : ¬ c = 114) (h6 : ¬ c = 119) : (f_X1_take s c).1 = 0 := by
  by_cases q : c = 59
  · subst q
    exact zt_n59 (zwh_lo (by omega))
  · unfold f_X1_take f_X1_takeKind
    rw [if_neg q, if_pos h, if_neg h1, if_neg h2, if_neg h4, if_neg h3, if_neg h5, if_neg h6]
theorem zmbr {c : Nat} : ¬ f_X1_isMember c = 0 ↔ (48 ≤ c ∧ c ≤ 53) := by
  unfold f_X1_isMember
  by_cases q : c < 48
  · rw [if_pos q]
    exact ⟨fun q => absurd rfl q, fun q => by omega⟩
  · rw [if_neg q]
    by_cases q2 : 6 ≤ c - 48
    · rw [if_pos q2]
      exact ⟨fun q => absurd rfl q, fun q => by omega⟩
    · rw [if_neg q2]
      exact ⟨fun _ => by omega, fun _ => z10⟩
theorem zt1 {s : Nat → Nat} {c : Nat} (h : s 0 = 1) (h1 : 48 ≤ c) (h2 : c ≤ 53) : f_X1_take s c = (1, va_up (va_up s 2 (c - 48)) 0 (if s 1 = 112 then 2 else 4)) := by
  unfold f_X1_take f_X1_takeMember
  rw [if_neg (by omega), if_neg (by omega), if_pos h, if_neg (zmbr.mpr ⟨h1, h2⟩)]
  by_cases q : s 1 = 112
  · rw [if_pos q, if_pos q]
  · rw [if_neg q, if_neg q]
theorem zt1n {s : Nat → Nat} {c : Nat} (h : s 0 = 1) (h1 : ¬ (48 ≤ c ∧ c ≤ 53)) : (f_X1_take s c).1 = 0 := by
  by_cases q : c = 59
  · subst q
    exact zt_n59 (zwh_lo (by omega))
  · unfold f_X1_take f_X1_takeMember
    rw [if_neg q, if_neg (by omega), if_pos h, if_pos (Classical.not_not.mp (fun z => h1 (zmbr.mp z)))]
theorem zt2 {s : Nat → Nat} (h : s 0 = 2) : f_X1_take s 62 = (1, va_up s 0 3) := by
  unfold f_X1_take
  rw [if_neg (by decide), if_neg (by omega), if_neg (by omega), if_pos h]
  rfl
theorem zt2n {s : Nat → Nat} {c : Nat} (h : s 0 = 2) (h1 : ¬ c = 62) : (f_X1_take s c).1 = 0 := by
  by_cases q : c = 59
  · subst q
    exact zt_n59 (zwh_lo (by omega))
  · unfold f_X1_take f_X1_takeMark
    rw [if_neg q, if_neg (by omega), if_neg (by omega), if_pos h, if_neg h1]
theorem zt3 {s : Nat → Nat} {c : Nat} (h : s 0 = 3) (h1 : 48 ≤ c) (h2 : c ≤ 53) (h3 : ¬ c - 48 = s 2) : f_X1_take s c = (1, va_up (va_up s 3 (c - 48)) 0 4) := by
  unfold f_X1_take f_X1_takeBorrower
  rw [if_neg (by omega), if_neg (by omega), if_neg (by omega), if_neg (by omega), if_pos h, if_neg (zmbr.mpr ⟨h1, h2⟩), if_neg h3]
theorem zt3n {s : Nat → Nat} {c : Nat} (h : s 0 = 3) (h1 : ¬ (48 ≤ c ∧ c ≤ 53 ∧ ¬ c - 48 = s 2)) : (f_X1_take s c).1 = 0 := by
  by_cases q : c = 59
  · subst q
    exact zt_n59 (zwh_lo (by omega))
  · unfold f_X1_take f_X1_takeBorrower
    rw [if_neg q, if_neg (by omega), if_neg (by omega), if_neg (by omega), if_pos h]
    by_cases q2 : f_X1_isMember c = 0
    · rw [if_pos q2]
    · have := zmbr.mp q2
      rw [if_neg q2, if_pos (by omega)]
theorem zt4 {s : Nat → Nat} (h : s 0 = 4) : f_X1_take s 58 = (1, va_up s 0 5) := by
  unfold f_X1_take
  rw [if_neg (by decide), if_neg (by omega), if_neg (by omega), if_neg (by omega), if_neg (by omega), if_pos h]
  rfl
theorem zt4n {s : Nat → Nat} {c : Nat} (h : s 0 = 4) (h1 : ¬ c = 58) : (f_X1_take s c).1 = 0 := by
  by_cases q : c = 59
  · subst q
    exact zt_n59 (zwh_lo (by omega))
  · unfold f_X1_take f_X1_takeMark
    rw [if_neg q, if_neg (by omega), if_neg (by omega), if_neg (by omega), if_neg (by omega), if_pos h, if_neg h1]
/-- one digit more -/
theorem zlg_y {x c mt : Nat} (h1 : 48 ≤ c) (h2 : c ≤ 57) (h3 : 1 ≤ x * 10 + (c - 48)) (h4 : x * 10 + (c - 48) ≤ mt) (hm : mt < 10000) : f_X1_longer x c (nI mt) = nI (x * 10 + (c - 48)) := by
  unfold f_X1_longer
  rw [if_neg (by omega), if_pos h2, if_neg (by omega), if_pos (nI_le h4 (by omega))]
theorem zlg_n {x c mt : Nat} (h : ¬ (48 ≤ c ∧ c ≤ 57 ∧ 1 ≤ x * 10 + (c - 48) ∧ x * 10 + (c - 48) ≤ mt)) (hx : x < 10000) (hm : mt < 10000) : f_X1_longer x c (nI mt) = -1 := by
  unfold f_X1_longer
  by_cases c1 : c < 48
  · rw [if_pos c1]
  · rw [if_neg c1]
    by_cases c2 : c ≤ 57
    · rw [if_pos c2]
      by_cases c3 : x * 10 + (c - 48) < 1
      · rw [if_pos c3]
      · rw [if_neg c3, if_neg]
        rw [nI_leI (by omega) (by omega)]
        omega
    · rw [if_neg c2]
theorem zt5s {s : Nat → Nat} (h : s 0 = 5) (h1 : s 1 = 98) (h4 : 0 < s 4) : f_X1_take s 47 = (1, va_up s 0 6) := by
  unfold f_X1_take f_X1_takeAmount
  rw [if_neg (by decide), if_neg (by omega), if_neg (by omega), if_neg (by omega), if_neg (by omega), if_neg (by omega), if_pos h, if_pos rfl, if_pos h1, if_neg (by omega)]
theorem zt5d {s : Nat → Nat} {c : Nat} (h : s 0 = 5) (h1 : 48 ≤ c) (h2 : c ≤ 57) (h3 : 1 ≤ s 4 * 10 + (c - 48)) (h4 : s 4 * 10 + (c - 48) ≤ 9999) : f_X1_take s c = (1, va_up s 4 (s 4 * 10 + (c - 48))) := by
  have e : f_X1_longer (s 4) c 9999 = nI (s 4 * 10 + (c - 48)) := zlg_y (mt := 9999) h1 h2 h3 h4 (by omega)
  unfold f_X1_take f_X1_takeAmount
  rw [if_neg (by omega), if_neg (by omega), if_neg (by omega), if_neg (by omega), if_neg (by omega), if_neg (by omega), if_pos h, if_neg (by omega), e, if_neg (zm1 (by omega)), nI_clamp (by omega)]
theorem zt5n {s : Nat → Nat} {c : Nat} (h : s 0 = 5) (hx : s 4 < 10000) (h1 : ¬ (48 ≤ c ∧ c ≤ 57 ∧ 1 ≤ s 4 * 10 + (c - 48) ∧ s 4 * 10 + (c - 48) ≤ 9999)) (h2 : ¬ (c = 47 ∧ s 1 = 98 ∧ 0 < s 4)) (h3 : c = 59 → f_X1_isWhole s = 0) : (f_X1_take s c).1 = 0 := by
  by_cases q : c = 59
  · subst q
    exact zt_n59 (h3 rfl)
  · have e : f_X1_longer (s 4) c 9999 = -1 := zlg_n (mt := 9999) h1 hx (by omega)
    unfold f_X1_take f_X1_takeAmount
    rw [if_neg q, if_neg (by omega), if_neg (by omega), if_neg (by omega), if_neg (by omega), if_neg (by omega), if_pos h, e]
    by_cases c1 : c = 47
    · rw [if_pos c1]
      by_cases c2 : s 1 = 98
      · rw [if_pos c2, if_pos (by omega), if_pos rfl]
      · rw [if_neg c2, if_pos rfl]
    · rw [if_neg c1, if_pos rfl]
theorem zt6d {s : Nat → Nat} {c : Nat} (h : s 0 = 6) (h1 : 48 ≤ c) (h2 : c ≤ 57) (h3 : 1 ≤ s 5 * 10 + (c - 48)) (h4 : s 5 * 10 + (c - 48) ≤ 52) : f_X1_take s c = (1, va_up s 5 (s 5 * 10 + (c - 48))) := by
  have e : f_X1_longer (s 5) c 52 = nI (s 5 * 10 + (c - 48)) := zlg_y (mt := 52) h1 h2 h3 h4 (by omega)
  unfold f_X1_take f_X1_takeWeeks
  rw [if_neg (by omega), if_neg (by omega), if_neg (by omega), if_neg (by omega), if_neg (by omega), if_neg (by omega), if_neg (by omega), if_pos h, e, if_neg (zm1 (by omega)), nI_clamp (by omega)]
theorem zt6n {s : Nat → Nat} {c : Nat} (h : s 0 = 6) (hx : s 5 < 10000) (h1 : ¬ (48 ≤ c ∧ c ≤ 57 ∧ 1 ≤ s 5 * 10 + (c - 48) ∧ s 5 * 10 + (c - 48) ≤ 52)) (h3 : c = 59 → f_X1_isWhole s = 0) : (f_X1_take s c).1 = 0 := by
  by_cases q : c = 59
  · subst q
    exact zt_n59 (h3 rfl)
  · have e : f_X1_longer (s 5) c 52 = -1 := zlg_n (mt := 52) h1 hx (by omega)
    unfold f_X1_take f_X1_takeWeeks
    rw [if_neg q, if_neg (by omega), if_neg (by omega), if_neg (by omega), if_neg (by omega), if_neg (by omega), if_neg (by omega), if_pos h, e, if_pos rfl]
theorem zt7n {s : Nat → Nat} {c : Nat} (h : s 0 = 7) (h1 : ¬ c = 59) : (f_X1_take s c).1 = 0 := by
  unfold f_X1_take
  rw [if_neg h1, if_neg (by omega), if_neg (by omega), if_neg (by omega), if_neg (by omega), if_neg (by omega), if_neg (by omega), if_neg (by omega)]
/-! the model's signs -/
/-- the text t of n signs stands in the model -/
def ztx (n : Nat) (t : Nat → Nat) (M : BK) (Nm : Nat → Nat) : Prop := Nm 1 = n ∧ Nm 2 ≤ n ∧ ∀ j, j < n → M 2 j = nI (t j) ∧ 33 ≤ t j ∧ t j < 127
def zsg (n : Nat) (t : Nat → Nat) (p : Nat) : Nat := if p < n then t p else 0
theorem zsg_y {n : Nat} {t : Nat → Nat} {p : Nat} (h : p < n) : zsg n t p = t p := if_pos h
theorem zsg_n {n : Nat} {t : Nat → Nat} {p : Nat} (h : ¬ p < n) : zsg n t p = 0 := if_neg h
theorem zsg_s {n : Nat} {t : Nat → Nat} {M : BK} {Nm : Nat → Nat} (h : ztx n t M Nm) : f_X3_sign M Nm = nI (zsg n t (Nm 2)) ∧ zsg n t (Nm 2) < 127 ∧ (zsg n t (Nm 2) = 0 ∨ Nm 2 < n) := by
  obtain ⟨h1, h2, h3⟩ := h
  unfold f_X3_sign
  rw [h1]
  by_cases c : n ≤ Nm 2
  · rw [if_pos c, zsg_n (by omega)]
    exact ⟨nI_0.symm, by omega, Or.inl rfl⟩
  · have := h3 (Nm 2) (by omega)
    rw [if_neg c, zsg_y (by omega)]
    exact ⟨this.1, this.2.2, Or.inr (by omega)⟩
theorem ztk {n : Nat} {t : Nat → Nat} {M : BK} {Nm : Nat → Nat} (h : ztx n t M Nm) {c : Nat} (hc : 33 ≤ c ∧ c < 127) : (zsg n t (Nm 2) = c ∧ Nm 2 < n ∧ f_X3_takesSign M Nm (nI c) = (1, va_up Nm 2 (Nm 2 + 1))) ∨ (¬ zsg n t (Nm 2) = c ∧ f_X3_takesSign M Nm (nI c) = (0, va_up Nm 2 (Nm 2))) := by
  obtain ⟨e1, e2, e3⟩ := zsg_s h
  unfold f_X3_takesSign
  rw [e1]
  by_cases q : zsg n t (Nm 2) = c
  · left
    rw [q, if_pos rfl]
    exact ⟨rfl, by omega, rfl⟩
  · right
    rw [if_neg (by rw [nI_eq (by omega) (by omega)]; exact q)]
    exact ⟨q, rfl⟩
theorem zinN {z a b : Nat} (hz : z < 2 ^ 31) (ha : a < 2 ^ 31) (hb : b < 2 ^ 31) : ¬ f_X3_in (nI z) (nI a) (nI b) = 0 ↔ (a ≤ z ∧ z ≤ b) := by
  unfold f_X3_in
  by_cases c : nI z < nI a
  · rw [if_pos c]
    rw [nI_ltI hz ha] at c
    exact ⟨fun q => absurd rfl q, fun q => by omega⟩
  · rw [if_neg c]
    rw [nI_ltI hz ha] at c
    by_cases c2 : nI b < nI z
    · rw [if_pos c2]
      rw [nI_ltI hb hz] at c2
      exact ⟨fun q => absurd rfl q, fun q => by omega⟩
    · rw [if_neg c2]
      rw [nI_ltI hb hz] at c2
      exact ⟨fun _ => by omega, fun _ => z10⟩
theorem znI48 {z : Nat} (h : 48 ≤ z) (h2 : z < 127) : nI z - 48 = nI (z - 48) := by
  apply Int32.toInt_inj.mp
  have e : (48 : Int32).toInt = 48 := by decide
  have e1 := nI_toInt (n := z) (by omega)
  rw [Jvm.Kit.i32_sub (by omega) (by omega), e1, e, nI_toInt (by omega)]
  omega
theorem znI10 {x z : Nat} (hx : x ≤ 9999) (h : 48 ≤ z) (h2 : z < 127) : 10 * nI x + nI z - 48 = nI (x * 10 + (z - 48)) := by
  apply Int32.toInt_inj.mp
  have e : (48 : Int32).toInt = 48 := by decide
  have e0 : (10 : Int32).toInt = 10 := by decide
  have e1 := nI_toInt (n := z) (by omega)
  have e2 := nI_toInt (n := x) (by omega)
  have e3 : (10 * nI x).toInt = 10 * (x : Int) := by
    rw [Jvm.Kit.i32_mul (by rw [e0, e2]; omega) (by rw [e0, e2]; omega), e0, e2]
  have e4 : (10 * nI x + nI z).toInt = 10 * (x : Int) + z := by
    rw [Jvm.Kit.i32_add (by omega) (by omega), e3, e1]
  rw [Jvm.Kit.i32_sub (by omega) (by omega), e4, e, nI_toInt (by omega)]
  omega
end ZPA
