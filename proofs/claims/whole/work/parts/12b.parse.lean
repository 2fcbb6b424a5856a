/-! one order, read on both sides -/
section ZPB
/-- the signs from p to q are taken, and none of them ends an order -/
def zokr (t : Nat → Nat) (S : Nat → Nat → Nat) (p q : Nat) : Prop := ∀ j, p ≤ j → j < q → ¬ (f_X1_take (S j) (t j)).1 = 0 ∧ ¬ t j = 59
theorem zokr.rf (t : Nat → Nat) (S : Nat → Nat → Nat) (p : Nat) : zokr t S p p := fun j h1 h2 => by omega
theorem zokr.tr {t : Nat → Nat} {S : Nat → Nat → Nat} {p q w : Nat} (h1 : zokr t S p q) (h2 : zokr t S q w) : zokr t S p w := fun j a b => by
  by_cases c : j < q
  · exact h1 j a c
  · exact h2 j (by omega) b
theorem zokr.one {t : Nat → Nat} {S : Nat → Nat → Nat} {p : Nat} {s : Nat → Nat} (h : f_X1_take (S p) (t p) = (1, s)) (h2 : ¬ t p = 59) : zokr t S p (p + 1) := fun j a b => by
  have : j = p := by omega
  subst this
  rw [h]
  exact ⟨z10, h2⟩
theorem zup_id (f : Nat → Nat) (k : Nat) : va_up f k (f k) = f := by
  funext i
  by_cases c : i = k
  · subst c; exact zup_self
  · exact zup_ne c
theorem zup_up (f : Nat → Nat) (k v w : Nat) : va_up (va_up f k v) k w = va_up f k w := by
  funext i
  by_cases c : i = k
  · subst c; rw [zup_self, zup_self]
  · rw [zup_ne c, zup_ne c, zup_ne c]
theorem ztx.at {n : Nat} {t : Nat → Nat} {M : BK} {Nm : Nat → Nat} (h : ztx n t M Nm) {q : Nat} (hq : q ≤ n) : ztx n t M (va_up Nm 2 q) := ⟨h.1, hq, h.2.2⟩
theorem ztx.m4 {n : Nat} {t : Nat → Nat} {M : BK} {Nm : Nat → Nat} (h : ztx n t M Nm) (i : Nat) (v : Int32) : ztx n t (uB M 4 i v) Nm := ⟨h.1, h.2.1, fun j hj => by rw [uB_row _ _ _ (by decide)]; exact h.2.2 j hj⟩
theorem ztx.nm {n : Nat} {t : Nat → Nat} {M : BK} {Nm Nm' : Nat → Nat} (h : ztx n t M Nm) (h1 : Nm' 1 = Nm 1) (h2 : Nm' 2 ≤ n) : ztx n t M Nm' := ⟨h1.trans h.1, h2, h.2.2⟩
theorem ztx.fm {n : Nat} {t : Nat → Nat} {M M' : BK} {Nm : Nat → Nat} (h : ztx n t M Nm) (h2 : M' 2 = M 2) : ztx n t M' Nm := ⟨h.1, h.2.1, fun j hj => by rw [h2]; exact h.2.2 j hj⟩
/-- what reading a number leaves -/
def znR (n : Nat) (t : Nat → Nat) (S : Nat → Nat → Nat) (fld mt : Nat) (Nm : Nat → Nat) (lo : Nat) (res : Int32 × (Nat → Nat)) : Prop :=
  ∃ v, res.1 = nI v ∧ lo ≤ v ∧ v ≤ mt ∧ res.2 0 = Nm 0 ∧ res.2 1 = Nm 1 ∧ Nm 2 ≤ res.2 2 ∧ res.2 2 ≤ n ∧ zokr t S (Nm 2) (res.2 2) ∧ S (res.2 2) = va_up (S (Nm 2)) fld v ∧
    ¬ (48 ≤ zsg n t (res.2 2) ∧ zsg n t (res.2 2) ≤ 57 ∧ 1 ≤ v * 10 + (zsg n t (res.2 2) - 48) ∧ v * 10 + (zsg n t (res.2 2) - 48) ≤ mt)
theorem znum44 {n : Nat} {t : Nat → Nat} {S : Nat → Nat → Nat} (hS : ∀ j, S (j + 1) = (f_X1_take (S j) (t j)).2) {fld st kd mt : Nat} (hmt : mt ≤ 9999) (hf : ¬ 0 = fld ∧ ¬ 1 = fld)
    (hd : ∀ (s : Nat → Nat) (c : Nat), s 0 = st → s 1 = kd → 48 ≤ c → c ≤ 57 → 1 ≤ s fld * 10 + (c - 48) → s fld * 10 + (c - 48) ≤ mt → f_X1_take s c = (1, va_up s fld (s fld * 10 + (c - 48)))) (M : BK) (N : Nat → Nat) :
    ∀ (k x : Nat) (Nm : Nat → Nat), ztx n t M Nm → 1 ≤ x → x ≤ mt → (S (Nm 2)) 0 = st → (S (Nm 2)) 1 = kd → (S (Nm 2)) fld = x → n - Nm 2 < k → znR n t S fld mt Nm x (f_X3_readsNumber_44 M N (nI mt) k (nI x) Nm) := by
  intro k
  induction k with
  | zero => intro x Nm hx h1 h2 h3 h4 h5 h6; omega
  | succ k ih =>
    intro x Nm hx h1 h2 h3 h4 h5 h6
    obtain ⟨e1, e2, e3⟩ := zsg_s hx
    unfold f_X3_readsNumber_44
    rw [if_neg (nI_nle (by omega) (by omega)), e1]
    have stop : ¬ (48 ≤ zsg n t (Nm 2) ∧ zsg n t (Nm 2) ≤ 57 ∧ x * 10 + (zsg n t (Nm 2) - 48) ≤ mt) → znR n t S fld mt Nm x (nI x, Nm) := by
      intro hno
      refine ⟨x, rfl, Nat.le_refl x, h2, rfl, rfl, Nat.le_refl _, hx.2.1, zokr.rf _ _ _, ?_, fun q => hno ⟨q.1, q.2.1, q.2.2.2⟩⟩
      rw [← h5, zup_id]
    have hin := zinN (z := zsg n t (Nm 2)) (a := 48) (b := 57) (by omega) (by omega) (by omega)
    by_cases c : f_X3_in (nI (zsg n t (Nm 2))) 48 57 = 0
    · rw [if_pos c]
      exact stop (fun q => (hin.mpr ⟨q.1, q.2.1⟩) c)
    · rw [if_neg c]
      obtain ⟨d1, d2⟩ := hin.mp c
      rw [znI10 (by omega) d1 e2]
      by_cases c2 : nI mt < nI (x * 10 + (zsg n t (Nm 2) - 48))
      · rw [if_pos c2]
        rw [nI_ltI (by omega) (by omega)] at c2
        exact stop (fun q => by omega)
      · rw [if_neg c2]
        rw [nI_ltI (by omega) (by omega)] at c2
        have hp : Nm 2 < n := by omega
        rw [zsg_y hp] at d1 d2 c2 ⊢
        have ht := hd (S (Nm 2)) (t (Nm 2)) h3 h4 d1 d2 (by omega) (by rw [h5]; omega)
        rw [h5] at ht
        have hS1 : S (Nm 2 + 1) = va_up (S (Nm 2)) fld (x * 10 + (t (Nm 2) - 48)) := by rw [hS, ht]
        obtain ⟨v, r1, r2, r3, r4, r5, r6, r7, r8, r9, r10⟩ := ih (x * 10 + (t (Nm 2) - 48)) (va_up Nm 2 (Nm 2 + 1)) (hx.at (by omega)) (by omega) (by omega)
          (by rw [zup_self, hS1, zup_ne hf.1]; exact h3) (by rw [zup_self, hS1, zup_ne hf.2]; exact h4) (by rw [zup_self, hS1, zup_self]) (by rw [zup_self]; omega)
        rw [zup_self] at r6 r8 r9
        refine ⟨v, r1, by omega, r3, r4, r5, by omega, r7, (zokr.one ht (by omega)).tr r8, ?_, r10⟩
        rw [r9, hS1, zup_up]
theorem znum {n : Nat} {t : Nat → Nat} {S : Nat → Nat → Nat} (hS : ∀ j, S (j + 1) = (f_X1_take (S j) (t j)).2) {fld st kd mt : Nat} (hmt : mt ≤ 9999) (hm9 : 9 ≤ mt) (hf : ¬ 0 = fld ∧ ¬ 1 = fld)
    (hd : ∀ (s : Nat → Nat) (c : Nat), s 0 = st → s 1 = kd → 48 ≤ c → c ≤ 57 → 1 ≤ s fld * 10 + (c - 48) → s fld * 10 + (c - 48) ≤ mt → f_X1_take s c = (1, va_up s fld (s fld * 10 + (c - 48)))) (hn : n ≤ 60) (M : BK) (Nm : Nat → Nat) (hx : ztx n t M Nm) (h3 : (S (Nm 2)) 0 = st) (h4 : (S (Nm 2)) 1 = kd) (h5 : (S (Nm 2)) fld = 0) : znR n t S fld mt Nm 0 (f_X3_readsNumber M Nm (nI mt)) := by
  obtain ⟨e1, e2, e3⟩ := zsg_s hx
  unfold f_X3_readsNumber
  rw [e1]
  have hin := zinN (z := zsg n t (Nm 2)) (a := 49) (b := 57) (by omega) (by omega) (by omega)
  by_cases c : f_X3_in (nI (zsg n t (Nm 2))) 49 57 = 0
  · rw [if_pos c]
    have : f_X3_readsNumber_44 M Nm (nI mt) 61 0 (va_up Nm 2 (Nm 2 + 0)) = (0, va_up Nm 2 (Nm 2 + 0)) := by
      unfold f_X3_readsNumber_44
      rw [if_pos (Int32.le_refl 0)]
    rw [this]
    have e0 : va_up Nm 2 (Nm 2 + 0) = Nm := zup_id Nm 2
    rw [e0]
    refine ⟨0, nI_0.symm, Nat.le_refl 0, by omega, rfl, rfl, Nat.le_refl _, hx.2.1, zokr.rf _ _ _, ?_, fun q => by dsimp only at q; exact hin.mpr (by omega) c⟩
    rw [← h5, zup_id]
  · rw [if_neg c]
    obtain ⟨d1, d2⟩ := hin.mp c
    have hp : Nm 2 < n := by omega
    rw [znI48 (by omega) e2, if_neg (nI_nle (by omega) (by omega))]
    rw [zsg_y hp] at d1 d2 ⊢
    have ht := hd (S (Nm 2)) (t (Nm 2)) h3 h4 (by omega) d2 (by omega) (by rw [h5]; omega)
    rw [h5] at ht
    have ez : 0 * 10 + (t (Nm 2) - 48) = t (Nm 2) - 48 := by omega
    rw [ez] at ht
    have hS1 : S (Nm 2 + 1) = va_up (S (Nm 2)) fld (t (Nm 2) - 48) := by rw [hS, ht]
    obtain ⟨v, r1, r2, r3, r4, r5, r6, r7, r8, r9, r10⟩ := znum44 hS hmt hf hd M Nm 61 (t (Nm 2) - 48) (va_up Nm 2 (Nm 2 + 1)) (hx.at (by omega)) (by omega) (by omega)
      (by rw [zup_self, hS1, zup_ne hf.1]; exact h3) (by rw [zup_self, hS1, zup_ne hf.2]; exact h4) (by rw [zup_self, hS1, zup_self]) (by rw [zup_self]; omega)
    rw [zup_self] at r6 r8 r9
    refine ⟨v, r1, by omega, r3, r4, r5, by omega, r7, (zokr.one ht (by omega)).tr r8, ?_, r10⟩
    rw [r9, hS1, zup_up]
/-- the order that the reader holds is the model's -/
def zOF (s : Nat → Nat) (M : BK) : Prop :=
  M 4 1 = nI (s 1) ∧ (s 1 = 43 ∨ s 1 = 45 ∨ s 1 = 112 ∨ s 1 = 98 ∨ s 1 = 114 ∨ s 1 = 119) ∧
  (¬ s 1 = 119 → M 4 2 = nI (s 2) ∧ s 2 < 6 ∧ M 4 4 = nI (s 4) ∧ 1 ≤ s 4 ∧ s 4 ≤ 9999) ∧
  (s 1 = 112 → M 4 3 = nI (s 3) ∧ s 3 < 6) ∧ (s 1 = 98 → M 4 5 = nI (s 5) ∧ 1 ≤ s 5 ∧ s 5 ≤ 52)
/-- how the reading of an order ends, at the model and at the reader -/
def zPO (n : Nat) (t : Nat → Nat) (S : Nat → Nat → Nat) (p : Nat) (M : BK) (Nm : Nat → Nat) (res : Int32 × BK × (Nat → Nat)) : Prop :=
  p ≤ res.2.2 2 ∧ res.2.2 2 ≤ n ∧ zokr t S p (res.2.2 2) ∧ res.2.2 0 = Nm 0 ∧ res.2.2 1 = Nm 1 ∧ (∀ k, ¬ k = 4 → res.2.1 k = M k) ∧ res.2.1 4 0 = M 4 0 ∧
  ((res.1 = 0 ∧ (res.2.2 2 < n → (f_X1_take (S (res.2.2 2)) (t (res.2.2 2))).1 = 0) ∧ (res.2.2 2 = n → f_X1_isWhole (S n) = 0)) ∨
   (res.1 = 1 ∧ ¬ f_X1_isWhole (S (res.2.2 2)) = 0 ∧ zOF (S (res.2.2 2)) res.2.1 ∧ (res.2.2 2 < n → ¬ t (res.2.2 2) = 59 → (f_X1_take (S (res.2.2 2)) (t (res.2.2 2))).1 = 0)))
theorem zPO.up {n : Nat} {t : Nat → Nat} {S : Nat → Nat → Nat} {p q : Nat} {M M1 : BK} {Nm N1 : Nat → Nat} {res : Int32 × BK × (Nat → Nat)} (h : zPO n t S q M1 N1 res) (hp : p ≤ q) (ho : zokr t S p q) (h0 : N1 0 = Nm 0) (h1 : N1 1 = Nm 1) (hM : ∀ k, ¬ k = 4 → M1 k = M k) (h40 : M1 4 0 = M 4 0) : zPO n t S p M Nm res := by
  obtain ⟨a1, a2, a3, a4, a5, a6, a7, a8⟩ := h
  exact ⟨by omega, a2, ho.tr a3, a4.trans h0, a5.trans h1, fun k hk => (a6 k hk).trans (hM k hk), a7.trans h40, a8⟩
/-- the reading fails where it stands -/
theorem zPO.no {n : Nat} {t : Nat → Nat} {S : Nat → Nat → Nat} {M M1 : BK} {Nm : Nat → Nat} (h2 : Nm 2 ≤ n) (hM : ∀ k, ¬ k = 4 → M1 k = M k) (h40 : M1 4 0 = M 4 0) (hw : f_X1_isWhole (S (Nm 2)) = 0) (hf : Nm 2 < n → (f_X1_take (S (Nm 2)) (t (Nm 2))).1 = 0) : zPO n t S (Nm 2) M Nm (0, M1, Nm) :=
  ⟨Nat.le_refl _, h2, zokr.rf _ _ _, rfl, rfl, hM, h40, Or.inl ⟨rfl, hf, fun e => by rw [← e]; exact hw⟩⟩
theorem z153a {M M0 : BK} {N0 N4 : Nat → Nat} (h : M 4 4 = 0) : f_X3_readsOrder_153 M0 N0 M N4 = (0, M, N4) := by
  unfold f_X3_readsOrder_153
  have h2 : M 4 4 ≤ 0 := by rw [h]; exact Int32.le_refl 0
  by_cases c : M 4 1 = 98
  · rw [if_pos c, if_pos h, if_pos h2]
  · rw [if_neg c, if_pos h2]
end ZPB
