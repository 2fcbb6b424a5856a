/-! the whole text, read on both sides -/
section ZPD
variable {n : Nat} {t : Nat → Nat} {S : Nat → Nat → Nat}
def zoka (t : Nat → Nat) (S : Nat → Nat → Nat) (p q : Nat) : Prop := ∀ j, p ≤ j → j < q → ¬ (f_X1_take (S j) (t j)).1 = 0
theorem zoka.tr {t : Nat → Nat} {S : Nat → Nat → Nat} {p q w : Nat} (h1 : zoka t S p q) (h2 : zoka t S q w) : zoka t S p w := fun j a b => by
  by_cases c : j < q
  · exact h1 j a c
  · exact h2 j (by omega) b
/-- how the reading of a text ends -/
def zPA (n : Nat) (t : Nat → Nat) (S : Nat → Nat → Nat) (p : Nat) (M : BK) (Nm : Nat → Nat) (res : Int32 × BK × (Nat → Nat)) : Prop :=
  p ≤ res.2.2 2 ∧ res.2.2 2 ≤ n ∧ zoka t S p (res.2.2 2) ∧ res.2.2 0 = Nm 0 ∧ res.2.2 1 = Nm 1 ∧ (∀ k, ¬ k = 4 → res.2.1 k = M k) ∧ res.2.1 4 0 = M 4 0 ∧
  ((res.1 = 0 ∧ (res.2.2 2 < n → (f_X1_take (S (res.2.2 2)) (t (res.2.2 2))).1 = 0) ∧ (res.2.2 2 = n → f_X1_isWhole (S n) = 0)) ∨ (res.1 = 1 ∧ res.2.2 2 = n ∧ ¬ f_X1_isWhole (S n) = 0))
theorem zare (hS : ∀ j, S (j + 1) = (f_X1_take (S j) (t j)).2) (hn : n ≤ 60) (M0 : BK) (N0 : Nat → Nat) : ∀ (k : Nat) (M : BK) (Nm : Nat → Nat), ztx n t M Nm → (S (Nm 2)) 0 = 0 → (S (Nm 2)) 4 = 0 → (S (Nm 2)) 5 = 0 → n - Nm 2 < k → zPA n t S (Nm 2) M Nm (f_X3_areOrders_5 M0 N0 k M Nm) := by
  intro k
  induction k with
  | zero => intro M Nm hx h0 h4 h5 hk; omega
  | succ k ih =>
    intro M Nm hx h0 h4 h5 hk
    have ho := zorder hS hn hx h0 h4 h5
    unfold f_X3_areOrders_5
    dsimp only
    generalize f_X3_readsOrder M Nm = res at *
    obtain ⟨ok, M2, N3⟩ := res
    obtain ⟨a1, a2, a3, a4, a5, a6, a7, a8⟩ := ho
    dsimp only at a1 a2 a3 a4 a5 a6 a7 a8 ⊢
    have a3' : zoka t S (Nm 2) (N3 2) := fun j x y => (a3 j x y).1
    rcases a8 with ⟨b1, b2, b3⟩ | ⟨b1, b2, b3, b4⟩
    · rw [if_pos b1]
      exact ⟨a1, a2, a3', a4, a5, a6, a7, Or.inl ⟨rfl, b2, b3⟩⟩
    · rw [if_neg (by rw [b1]; exact z10)]
      have e1 : N3 1 = n := a5.trans hx.1
      by_cases c : N3 2 = n
      · rw [if_pos (c.trans e1.symm)]
        exact ⟨a1, a2, a3', a4, a5, a6, a7, Or.inr ⟨rfl, c, by rw [← c]; exact b2⟩⟩
      · rw [if_neg (fun q => c (q.trans e1))]
        have hx2 : ztx n t M2 N3 := (hx.fm (a6 2 (by omega))).nm a5 a2
        rcases ztk hx2 (c := 59) (by omega) with ⟨z1, z2, z3⟩ | ⟨z1, z3⟩
        · have z3' : f_X3_takesSign M2 N3 59 = (1, va_up N3 2 (N3 2 + 1)) := z3
          rw [z3']
          dsimp only
          rw [if_neg z10]
          have et : t (N3 2) = 59 := (zsg_y z2).symm.trans z1
          have htk : f_X1_take (S (N3 2)) (t (N3 2)) = (1, f_X1_restart (S (N3 2))) := by rw [et]; exact zt_59 b2
          have hS1 : S (N3 2 + 1) = f_X1_restart (S (N3 2)) := by rw [hS, htk]
          have ea : (va_up N3 2 (N3 2 + 1)) 2 = N3 2 + 1 := zup_self
          have g := ih M2 (va_up N3 2 (N3 2 + 1)) (hx2.at (by omega)) (by rw [ea, hS1]; rfl) (by rw [ea, hS1]; rfl) (by rw [ea, hS1]; rfl) (by rw [ea]; omega)
          rw [ea] at g
          obtain ⟨c1, c2, c3, c4, c5, c6, c7, c8⟩ := g
          refine ⟨by omega, c2, (a3'.tr (fun j x y => ?_)).tr c3, c4.trans a4, c5.trans a5, fun k hk => (c6 k hk).trans (a6 k hk), c7.trans a7, c8⟩
          have : j = N3 2 := by omega
          subst this
          rw [htk]
          exact z10
        · have z3' : f_X3_takesSign M2 N3 59 = (0, va_up N3 2 (N3 2)) := z3
          rw [z3', zup_id]
          dsimp only
          rw [if_pos rfl]
          rw [zsg_y (by omega)] at z1
          exact ⟨a1, a2, a3', a4, a5, a6, a7, Or.inl ⟨rfl, fun hl => b4 hl z1, fun e => absurd e c⟩⟩
theorem zrte {N : NK} (r : Nat → Nat) : ∀ (k q : Nat), q ≤ N 0 1 → N 0 1 - q < k →
    (zoka (N 2) (zrs N r) q (N 0 1) ∧ f_X2_readToError_9 r N k q (zrs N r q) = (nI (N 0 1), zrs N r (N 0 1))) ∨
    ∃ j, q ≤ j ∧ j < N 0 1 ∧ (f_X1_take (zrs N r j) (N 2 j)).1 = 0 ∧ zoka (N 2) (zrs N r) q j ∧ f_X2_readToError_9 r N k q (zrs N r q) = (nI j, (f_X1_take (zrs N r j) (N 2 j)).2) := by
  intro k
  induction k with
  | zero => intro q hq hk; omega
  | succ k ih =>
    intro q hq hk
    unfold f_X2_readToError_9
    dsimp only
    by_cases c : N 0 1 ≤ q
    · have : q = N 0 1 := by omega
      subst this
      rw [if_pos c]
      exact Or.inl ⟨fun j a b => by omega, rfl⟩
    · rw [if_neg c]
      by_cases c2 : (f_X1_take (zrs N r q) (N 2 q)).1 = 0
      · rw [if_pos c2]
        exact Or.inr ⟨q, Nat.le_refl q, by omega, c2, fun j a b => by omega, rfl⟩
      · rw [if_neg c2]
        have one : zoka (N 2) (zrs N r) q (q + 1) := fun j a b => by
          have : j = q := by omega
          subst this
          exact c2
        rcases ih (q + 1) (by omega) (by omega) with ⟨g1, g2⟩ | ⟨j, g1, g2, g3, g4, g5⟩
        · exact Or.inl ⟨one.tr g1, g2⟩
        · exact Or.inr ⟨j, by omega, g2, g3, one.tr g4, g5⟩
variable {K : Int} {r : Nat → Nat} {N : NK} {B X : BK} {Bs : Nat → BK} {M : BK} {Nm : Nat → Nat}
theorem zl_tx (h : zL K r N B X Bs M Nm) {q : Nat} (hq : q ≤ N 0 1) {N' : Nat → Nat} (h1 : N' 1 = Nm 1) (h2 : N' 2 = q) : ztx (N 0 1) (N 2) M N' := by
  have hl := h.2.2.2.1
  refine ⟨h1.trans hl.1.symm, by omega, fun j hj => h.2.2.2.2.2.2.2.1 j (by omega)⟩
/-- the text on both sides, the reader begun at any state -/
theorem zl_parse (h : zL K r N B X Bs M Nm) (rb : Nat → Nat) : zPA (N 0 1) (N 2) (zrs N rb) 0 M Nm (f_X3_areOrders M Nm) ∧
    (((f_X3_areOrders M Nm).1 = 0 ∧ (f_X2_readToError rb N).1 = nI ((f_X3_areOrders M Nm).2.2 2) ∧ ¬ (¬ (f_X2_readToError rb N).1 < nI (N 0 1) ∧ ¬ f_X1_isWhole ((f_X2_readToError rb N).2) = 0)) ∨
     ((f_X3_areOrders M Nm).1 = 1 ∧ (f_X2_readToError rb N).1 = nI ((f_X3_areOrders M Nm).2.2 2) ∧ ¬ (f_X2_readToError rb N).1 < nI (N 0 1) ∧ ¬ f_X1_isWhole ((f_X2_readToError rb N).2) = 0 ∧ zall N rb)) := by
  have hl := h.2.2.2.1
  have hx : ztx (N 0 1) (N 2) M (va_up Nm 2 0) := zl_tx h (Nat.zero_le _) rfl rfl
  have g : zPA (N 0 1) (N 2) (zrs N rb) 0 M Nm (f_X3_areOrders M Nm) := zare (S := zrs N rb) (fun j => rfl) (by omega) M Nm 62 M (va_up Nm 2 0) hx rfl rfl rfl (by show N 0 1 - 0 < 62; omega)
  refine ⟨g, ?_⟩
  obtain ⟨a1, a2, a3, a4, a5, a6, a7, a8⟩ := g
  have er : f_X2_readToError rb N = f_X2_readToError_9 rb N 61 0 (zrs N rb 0) := rfl
  rw [er]
  generalize f_X3_areOrders M Nm = res at *
  obtain ⟨ok, M2, N2⟩ := res
  dsimp only at a1 a2 a3 a4 a5 a6 a7 a8 ⊢
  rcases zrte (N := N) rb 61 0 (Nat.zero_le _) (by omega) with ⟨b1, b2⟩ | ⟨j, b0, b1, b2, b3, b4⟩
  · have hp : N2 2 = N 0 1 := by
      rcases a8 with ⟨_, c2, _⟩ | ⟨_, c2, _⟩
      · rcases Nat.lt_or_ge (N2 2) (N 0 1) with q | q
        · exact absurd (c2 q) (b1 _ (Nat.zero_le _) q)
        · omega
      · exact c2
    rw [b2, hp]
    dsimp only
    rcases a8 with ⟨c1, _, c3⟩ | ⟨c1, _, c3⟩
    · exact Or.inl ⟨c1, rfl, fun q => q.2 (c3 hp)⟩
    · exact Or.inr ⟨c1, rfl, nI_nlt (Nat.le_refl _) (by omega), c3, fun i hi => b1 i (Nat.zero_le _) hi, c3⟩
  · have hp : N2 2 = j := by
      rcases Nat.lt_trichotomy (N2 2) j with q | q | q
      · exfalso
        rcases a8 with ⟨_, c2, _⟩ | ⟨_, c2, _⟩
        · exact b3 _ (Nat.zero_le _) q (c2 (by omega))
        · omega
      · exact q
      · exact absurd b2 (a3 j (Nat.zero_le _) q)
    rw [b4, hp]
    dsimp only
    rcases a8 with ⟨c1, _, _⟩ | ⟨c1, c2, _⟩
    · exact Or.inl ⟨c1, rfl, fun q => q.1 (nI_lt b1 (by omega))⟩
    · omega
theorem zl_bs (h : zL K r N B X Bs M Nm) : ∀ i, i < N 0 1 → N 2 i < 128 := fun i hi => by
  have hl := h.2.2.2.1
  have := h.2.2.2.2.2.2.2.1 i (by omega)
  omega
theorem zl_ri (h : zL K r N B X Bs M Nm) : zRI r := h.2.2.2.2.2.2.2.2
theorem zl_hall (h : zL K r N B X Bs M Nm) : ¬ (f_X2_readToError r N).1 < nI (N 0 1) → ¬ f_X1_isWhole ((f_X2_readToError r N).2) = 0 → zall N (f_X2_readToError r N).2 := by
  intro h1 h2
  rcases (zl_parse h r).2 with ⟨_, _, c3⟩ | ⟨c1, _, _, _, _⟩
  · exact absurd ⟨h1, h2⟩ c3
  · rcases (zl_parse h (f_X2_readToError r N).2).2 with ⟨d1, _, _⟩ | ⟨_, _, _, _, d5⟩
    · rw [c1] at d1
      exact absurd d1 z10
    · exact d5
theorem zs_firstError (h : zL K r N B X Bs M Nm) : (f_X3_firstError M Nm).1 = (f_X2_firstError r N).1 ∧ zL K (f_X2_firstError r N).2 N B X Bs (f_X3_firstError M Nm).2.1 (f_X3_firstError M Nm).2.2 := by
  have h4 := h.r4 0 0
  obtain ⟨⟨a1, a2, a3, a4, a5, a6, a7, a8⟩, g⟩ := zl_parse h4 r
  have hr : zRI (f_X2_readToError r N).2 := zr_rte (zl_ri h) (zl_bs h)
  unfold f_X3_firstError f_X2_firstError
  dsimp only
  refine ⟨?_, (((h4.rows (a6 0 (by omega)) (a6 1 (by omega)) (a6 2 (by omega))).nm a4 a5).rd hr)⟩
  rcases g with ⟨_, e, _⟩ | ⟨_, e, _⟩
  · exact e.symm
  · exact e.symm
end ZPD
