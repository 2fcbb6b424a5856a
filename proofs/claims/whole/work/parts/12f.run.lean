/-! run, on both sides -/
section ZRV
theorem zr45_N (M0 : BK) (N0 N1 : Nat → Nat) : ∀ (k q : Nat) (rf g : Int32) (M : BK) (Nm : Nat → Nat), f_X3_run_45 M0 N0 k q rf g M Nm = f_X3_run_45 M0 N1 k q rf g M Nm := by
  intro k
  induction k with
  | zero => intro q rf g M Nm; rfl
  | succ k ih =>
    intro q rf g M Nm
    unfold f_X3_run_45
    dsimp only
    simp only [ih]
theorem zr45_0 (M0 : BK) (N0 : Nat → Nat) (k q : Nat) (rf : Int32) (M : BK) (Nm : Nat → Nat) : f_X3_run_45 M0 N0 (k + 1) q rf 0 M Nm = (nI q, M, va_up Nm 1 0) := if_pos rfl
theorem zr45_w (M0 : BK) (N0 : Nat → Nat) (k q : Nat) (rf : Int32) (M : BK) (Nm : Nat → Nat) (h1 : M 4 1 = 119) (h2 : 9999 ≤ M 0 4) : f_X3_run_45 M0 N0 (k + 1) q rf 1 M Nm = (nI q, M, va_up Nm 1 0) := by
  unfold f_X3_run_45
  rw [if_neg z10, if_pos h1, if_pos h2]
theorem zr45_1 (M0 : BK) (N0 : Nat → Nat) (k q : Nat) (rf : Int32) (M : BK) (Nm : Nat → Nat) (h : M 4 1 = 119 → ¬ 9999 ≤ M 0 4) {D : BK} (hD : D = f_X3_does M ((M 4 2).toNatClampNeg % 6) ((M 4 3).toNatClampNeg % 6)) :
    f_X3_run_45 M0 N0 (k + 1) q rf 1 M Nm = if D 0 6 = rf then (if (f_X3_takesSign D Nm 59).1 = 0 then f_X3_run_45 M0 N0 k (q + 1) rf 0 D (f_X3_takesSign D Nm 59).2 else
      (if (f_X3_readsOrder D (f_X3_takesSign D Nm 59).2).1 = 0 then f_X3_run_45 M0 N0 k (q + 1) rf 0 (f_X3_readsOrder D (f_X3_takesSign D Nm 59).2).2.1 (f_X3_readsOrder D (f_X3_takesSign D Nm 59).2).2.2
       else f_X3_run_45 M0 N0 k (q + 1) rf 1 (f_X3_readsOrder D (f_X3_takesSign D Nm 59).2).2.1 (f_X3_readsOrder D (f_X3_takesSign D Nm 59).2).2.2)) else f_X3_run_45 M0 N0 k (q + 0) rf 0 D Nm := by
  subst hD
  show (if (1 : Int32) = 0 then _ else _) = _
  rw [if_neg z10]
  by_cases c : M 4 1 = 119
  · rw [if_pos c, if_neg (h c)]
  · rw [if_neg c]
variable {n : Nat} {t : Nat → Nat} {S : Nat → Nat → Nat}
/-- signs that end no order are passed -/
theorem zpass {N : NK} (rb : Nat → Nat) (B0 : BK) : ∀ (m kc d p : Nat) (B : BK), m ≤ kc → (∀ j, p ≤ j → j < p + m → j < N 0 1 ∧ ¬ N 2 j = 59) → f_X2_doOrders_11 rb N B0 kc d p (zrs N rb p) B = f_X2_doOrders_11 rb N B0 (kc - m) d (p + m) (zrs N rb (p + m)) B := by
  intro m
  induction m with
  | zero => intro kc d p B hm h; rfl
  | succ m ih =>
    intro kc d p B hm h
    obtain ⟨kc, rfl⟩ : ∃ k', kc = k' + 1 := ⟨kc - 1, by omega⟩
    obtain ⟨h1, h2⟩ := h p (Nat.le_refl p) (by omega)
    have e : f_X2_doOrders_11 rb N B0 (kc + 1) d p (zrs N rb p) B = f_X2_doOrders_11 rb N B0 kc d (p + 1) (zrs N rb (p + 1)) B := by
      show (if N 0 1 ≤ p then _ else (if N 2 p = 59 then _ else f_X2_doOrders_11 rb N B0 kc d (p + 1) (f_X1_take (zrs N rb p) (N 2 p)).2 B)) = _
      rw [if_neg (by omega), if_neg h2]
      rfl
    rw [e, ih kc d (p + 1) B (by omega) (fun j a b => h j (by omega) (by omega))]
    have e1 : kc + 1 - (m + 1) = kc - m := by omega
    have e2 : p + 1 + m = p + (m + 1) := by omega
    rw [e1, e2]
theorem zdo_end {N : NK} (rb : Nat → Nat) (B0 : BK) (kc d p : Nat) (s : Nat → Nat) (B : BK) (h : N 0 1 ≤ p) : f_X2_doOrders_11 rb N B0 (kc + 1) d p s B = if (f_X2_doOrder s B).1 = 0 then (nI d, s, (f_X2_doOrder s B).2) else (nI (d + 1), s, (f_X2_doOrder s B).2) := by
  show (if N 0 1 ≤ p then _ else _) = _
  rw [if_pos h]
theorem zdo_59 {N : NK} (rb : Nat → Nat) (B0 : BK) (kc d p : Nat) (s : Nat → Nat) (B : BK) (h : ¬ N 0 1 ≤ p) (h2 : N 2 p = 59) : f_X2_doOrders_11 rb N B0 (kc + 1) d p s B = if (f_X2_doOrder s B).1 = 0 then (nI d, s, (f_X2_doOrder s B).2) else f_X2_doOrders_11 rb N B0 kc (d + 1) (p + 1) (f_X1_take s (N 2 p)).2 (f_X2_doOrder s B).2 := by
  show (if N 0 1 ≤ p then _ else (if N 2 p = 59 then _ else _)) = _
  rw [if_neg h, if_pos h2]
theorem zdo_stop {s : Nat → Nat} {B : BK} (h : s 1 = 119) (hc : f_X0_canEndWeek B = 0) : f_X2_doOrder s B = (0, B) := by
  unfold f_X2_doOrder
  rw [if_neg (by omega : ¬ s 1 = 43), if_neg (by omega : ¬ s 1 = 45), if_neg (by omega : ¬ s 1 = 98), if_neg (by omega : ¬ s 1 = 112), if_neg (by omega : ¬ s 1 = 114), if_pos hc]
/-- how the doing of orders ends on both sides -/
def zRn (K : Int) (M : BK) (Nm : Nat → Nat) (x : Int32 × BK × (Nat → Nat)) (y : Int32 × (Nat → Nat) × BK) : Prop :=
  x.1 = y.1 ∧ zcur y.2.2 x.2.1 ∧ (∀ j, 82 ≤ j → x.2.1 0 j = M 0 j) ∧ (∀ k, ¬ k = 0 → ¬ k = 4 → x.2.1 k = M k) ∧ x.2.1 4 0 = M 4 0 ∧ x.2.2 0 = Nm 0 ∧ x.2.2 1 = 0 ∧ zI (K + 610000) y.2.2 ∧ zRI y.2.1
theorem zrun {K : Int} (hK : K + 620000 ≤ 2 ^ 29) {N : NK} {rb : Nat → Nat} (hn : N 0 1 ≤ 60) (hb : ∀ i, i < N 0 1 → N 2 i < 128) (hr : zRI rb) (ha : zall N rb) (M0 : BK) (N0 : Nat → Nat) (B0 : BK) (rf : Int32) :
    ∀ (w k d : Nat) (M : BK) (Nm : Nat → Nat) (B : BK), N 0 1 - Nm 2 < w → w + 2 ≤ k → ztx (N 0 1) (N 2) M Nm → (Nm 2 = N 0 1 ∨ N 2 (Nm 2) = 59) → zOF (zrs N rb (Nm 2)) M → zcur B M → zI (K + 10000 * (Nm 2 : Int)) B → B 8 6 = rf →
      zRn K M Nm (f_X3_run_45 M0 N0 k d rf 1 M Nm) (f_X2_doOrders_11 rb N B0 (61 - Nm 2) d (Nm 2) (zrs N rb (Nm 2)) B) := by
  intro w
  induction w with
  | zero => intro k d M Nm B hw; omega
  | succ w ih =>
    intro k d M Nm B hw hk hx hp ho hc hi hrf
    obtain ⟨k, rfl⟩ : ∃ k', k = k' + 1 + 1 := ⟨k - 2, by omega⟩
    have hpn := hx.2.1
    have hRI : zRI (zrs N rb (Nm 2)) := zrs_RI hr hb _ hpn
    have hkc : 61 - Nm 2 = (60 - Nm 2) + 1 := by omega
    have h84 : M 0 4 = B 8 4 := zc_8 hc (by omega)
    rw [hkc]
    have hp59 : ¬ N 0 1 ≤ Nm 2 → N 2 (Nm 2) = 59 := fun q => by
      rcases hp with z | z
      · omega
      · exact z
    have fin : ∀ (q : Nat) (D B' : BK), zcur B' D → zonly M D → zI (K + 610000) B' → zRn K M Nm (nI q, D, va_up Nm 1 0) (nI q, zrs N rb (Nm 2), B') := by
      intro q D B' f1 f2 f3
      exact ⟨rfl, f1, f2.1, fun k h0 h4 => f2.2 k (by omega), congrFun (f2.2 4 (by omega)) 0, rfl, rfl, f3, hRI⟩
    by_cases cA : (zrs N rb (Nm 2)) 1 = 119 ∧ f_X0_canEndWeek B = 0
    · obtain ⟨c1, c2⟩ := cA
      have hge : 9999 ≤ M 0 4 := by
        rw [h84]
        unfold f_X0_canEndWeek at c2
        by_cases q : 9999 ≤ B 8 4
        · exact q
        · rw [if_neg q] at c2
          exact absurd c2 z10
      rw [zr45_w M0 N0 (k + 1) d rf M Nm (by rw [ho.1, c1]; rfl) hge]
      have e := zdo_stop c1 c2
      have r := fin d M B hc (zonly.rf M) (hi.mono (by omega))
      by_cases q : N 0 1 ≤ Nm 2
      · rw [zdo_end rb B0 _ d (Nm 2) _ B q, e, if_pos rfl]
        exact r
      · rw [zdo_59 rb B0 _ d (Nm 2) _ B q (hp59 q), e, if_pos rfl]
        exact r
    · have hwk : (zrs N rb (Nm 2)) 1 = 119 → ¬ f_X0_canEndWeek B = 0 := fun a b => cA ⟨a, b⟩
      have hne : M 4 1 = 119 → ¬ 9999 ≤ M 0 4 := by
        intro a b
        have a' : (zrs N rb (Nm 2)) 1 = 119 := by
          have := ho.2.1
          rw [ho.1] at a
          exact (nI_eq (b := 119) (by omega) (by omega)).mp a
        apply hwk a'
        unfold f_X0_canEndWeek
        rw [← h84, if_pos b]
      have g := zdo1 hc hi (by omega) ho hwk
      rw [zr45_1 M0 N0 (k + 1) d rf M Nm hne rfl]
      have hend : N 0 1 ≤ Nm 2 → f_X2_doOrders_11 rb N B0 (60 - Nm 2 + 1) d (Nm 2) (zrs N rb (Nm 2)) B = if (f_X2_doOrder (zrs N rb (Nm 2)) B).1 = 0 then (nI d, zrs N rb (Nm 2), (f_X2_doOrder (zrs N rb (Nm 2)) B).2) else (nI (d + 1), zrs N rb (Nm 2), (f_X2_doOrder (zrs N rb (Nm 2)) B).2) := fun q => zdo_end rb B0 _ d (Nm 2) _ B q
      have h59 : ¬ N 0 1 ≤ Nm 2 → f_X2_doOrders_11 rb N B0 (60 - Nm 2 + 1) d (Nm 2) (zrs N rb (Nm 2)) B = if (f_X2_doOrder (zrs N rb (Nm 2)) B).1 = 0 then (nI d, zrs N rb (Nm 2), (f_X2_doOrder (zrs N rb (Nm 2)) B).2) else f_X2_doOrders_11 rb N B0 (60 - Nm 2) (d + 1) (Nm 2 + 1) (zrs N rb (Nm 2 + 1)) (f_X2_doOrder (zrs N rb (Nm 2)) B).2 := fun q => zdo_59 rb B0 _ d (Nm 2) _ B q (hp59 q)
      generalize f_X3_does M ((M 4 2).toNatClampNeg % 6) ((M 4 3).toNatClampNeg % 6) = D at *
      generalize f_X2_doOrder (zrs N rb (Nm 2)) B = R at *
      obtain ⟨g1, g2, g3, g4⟩ := g
      have d6 : D 0 6 = R.2 8 6 := zc_8 g1 (by omega)
      rcases g4 with ⟨r1, r2⟩ | ⟨r1, r2⟩
      · have hR : ¬ R.1 = 0 := by
          rw [r1]
          exact z10
        rw [if_pos (by rw [d6, r2, hrf])]
        have hxD : ztx (N 0 1) (N 2) D Nm := hx.fm (g2.2 2 (by omega))
        by_cases q : N 0 1 ≤ Nm 2
        · rw [hend q, if_neg hR]
          rcases ztk hxD (c := 59) (by omega) with ⟨z1, z2, z3⟩ | ⟨z1, z3⟩
          · omega
          · have z3' : f_X3_takesSign D Nm 59 = (0, va_up Nm 2 (Nm 2)) := z3
            rw [z3', zup_id]
            dsimp only
            rw [if_pos rfl, zr45_0]
            exact fin (d + 1) D R.2 g1 g2 (g3.mono (by omega))
        · rw [h59 q, if_neg hR]
          have ht : N 2 (Nm 2) = 59 := hp59 q
          rcases ztk hxD (c := 59) (by omega) with ⟨z1, z2, z3⟩ | ⟨z1, z3⟩
          · have z3' : f_X3_takesSign D Nm 59 = (1, va_up Nm 2 (Nm 2 + 1)) := z3
            rw [z3']
            dsimp only
            rw [if_neg z10]
            have hT := ha.1 (Nm 2) z2
            rw [ht] at hT
            have hwh : ¬ f_X1_isWhole (zrs N rb (Nm 2)) = 0 := fun z => hT (zt_n59 z)
            have hS1 : zrs N rb (Nm 2 + 1) = f_X1_restart (zrs N rb (Nm 2)) := by
              show (f_X1_take (zrs N rb (Nm 2)) (N 2 (Nm 2))).2 = _
              rw [ht, zt_59 hwh]
            have ea : (va_up Nm 2 (Nm 2 + 1)) 2 = Nm 2 + 1 := zup_self
            have po := zorder (S := zrs N rb) (fun j => rfl) hn (hxD.at (q := Nm 2 + 1) (by omega)) (by rw [ea, hS1]; rfl) (by rw [ea, hS1]; rfl) (by rw [ea, hS1]; rfl)
            rw [ea] at po
            generalize f_X3_readsOrder D (va_up Nm 2 (Nm 2 + 1)) = res at *
            obtain ⟨ok, M2, N2⟩ := res
            obtain ⟨a1, a2, a3, a4, a5, a6, a7, a8⟩ := po
            dsimp only at a1 a2 a3 a4 a5 a6 a7 a8 ⊢
            rcases a8 with ⟨_, b2, b3⟩ | ⟨b1, b2, b3, b4⟩
            · exfalso
              rcases Nat.lt_or_ge (N2 2) (N 0 1) with l | l
              · exact ha.1 _ l (b2 l)
              · exact ha.2 (b3 (by omega))
            · rw [if_neg (by rw [b1]; exact z10)]
              have e5 : N2 1 = N 0 1 := a5.trans hx.1
              have hx2 : ztx (N 0 1) (N 2) M2 N2 := ⟨e5, a2, fun j hj => by rw [a6 2 (by omega)]; exact hxD.2.2 j hj⟩
              have hz2 : zcur R.2 M2 := by
                unfold zcur
                rw [a6 0 (by omega)]
                exact g1
              have i1 := ih (k + 1) (d + 1) M2 N2 R.2 (by omega) (by omega) hx2 (by
                rcases Nat.lt_or_ge (N2 2) (N 0 1) with l | l
                · right
                  exact Classical.byContradiction (fun z => ha.1 _ l (b4 l z))
                · left
                  omega) b3 hz2 (g3.mono (by omega)) (r2.trans hrf)
              rw [zpass rb B0 (N2 2 - (Nm 2 + 1)) (60 - Nm 2) (d + 1) (Nm 2 + 1) R.2 (by omega) (fun j x y => ⟨by omega, (a3 j x (by omega)).2⟩)]
              have e1 : 60 - Nm 2 - (N2 2 - (Nm 2 + 1)) = 61 - N2 2 := by omega
              have e2 : Nm 2 + 1 + (N2 2 - (Nm 2 + 1)) = N2 2 := by omega
              rw [e1, e2]
              obtain ⟨t1, t2, t3, t4, t5, t6, t7, t8, t9⟩ := i1
              refine ⟨t1, t2, fun j hj => ?_, fun k h0 h4 => ?_, ?_, t6.trans a4, t7, t8, t9⟩
              · rw [t3 j hj, a6 0 (by omega)]
                exact g2.1 j hj
              · rw [t4 k h0 h4, a6 k h4]
                exact g2.2 k (by omega)
              · rw [t5, a7]
                exact congrFun (g2.2 4 (by omega)) 0
          · rw [zsg_y (by omega)] at z1
            exact absurd ht z1
      · rw [if_neg (by rw [d6, r2, ← hrf]; exact zx1 _), zr45_0]
        by_cases q : N 0 1 ≤ Nm 2
        · rw [hend q, if_pos r1]
          exact fin d D R.2 g1 g2 (g3.mono (by omega))
        · rw [h59 q, if_pos r1]
          exact fin d D R.2 g1 g2 (g3.mono (by omega))
theorem zs_run {K : Int} {r : Nat → Nat} {N : NK} {B X : BK} {Bs : Nat → BK} {M : BK} {Nm : Nat → Nat} (h : zL K r N B X Bs M Nm) (hK : K + 620000 ≤ 2 ^ 29) : ∀ k, zTh [((¬ (f_X2_readToError r N).1 < nI (N 0 1) ∧ ¬ f_X1_isWhole ((f_X2_readToError r N).2) = 0), 1)] k →
    (f_X3_run M Nm).2.1 4 0 = k ∧ (k = 0 → (f_X3_run M Nm).1 = (f_X2_run r N B Bs).1 ∧ zL (K + 620000) (f_X2_run r N B Bs).2.1 (f_X2_run r N B Bs).2.2.1 (f_X2_run r N B Bs).2.2.2.1 X (f_X2_run r N B Bs).2.2.2.2 (f_X3_run M Nm).2.1 (f_X3_run M Nm).2.2) ∧ (¬ k = 0 → zL K (f_X2_readToError r N).2 N B X Bs (f_X3_run M Nm).2.1 (f_X3_run M Nm).2.2) := by
  intro k hk
  obtain ⟨⟨a1, a2, a3, a4, a5, a6, a7, a8⟩, g⟩ := zl_parse h r
  have hri : zRI (f_X2_readToError r N).2 := zr_rte (zl_ri h) (zl_bs h)
  have hall := zl_hall h
  have h1 : zL K (f_X2_readToError r N).2 N B X Bs (f_X3_areOrders M Nm).2.1 (f_X3_areOrders M Nm).2.2 := ((h.rows (a6 0 (by omega)) (a6 1 (by omega)) (a6 2 (by omega))).nm a4 a5).rd hri
  unfold f_X3_run f_X2_run
  dsimp only
  rw [zhold, zhold]
  generalize f_X3_areOrders M Nm = res at *
  obtain ⟨ok, M1, N2⟩ := res
  dsimp only at a1 a2 a3 a4 a5 a6 a7 a8 g h1 ⊢
  rcases hk with ⟨c, rfl⟩ | ⟨c, rfl⟩
  · rcases g with ⟨g1, _, _⟩ | ⟨_, _, g3, g4, _⟩
    · rw [if_pos g1]
      dsimp only
      exact ⟨uB_self _ _ _ _, fun q => absurd q z10, fun _ => h1.r4 0 1⟩
    · exact absurd ⟨g3, g4⟩ c
  · rcases g with ⟨_, _, g3⟩ | ⟨g1, _, g3, g4, _⟩
    · exact absurd c g3
    · rw [if_neg (by rw [g1]; exact z10)]
      have hza := hall g3 g4
      generalize (f_X2_readToError r N).2 = rb at *
      obtain ⟨s1, s2, s3, s4⟩ := (h1.r4 0 0).save
      obtain ⟨sv1, sv2⟩ := zn_save N B Bs
      have hz4 : zall (f_X2_saveState N B Bs).1 rb := zall_same sv1 sv2 hza
      have hM40 : (f_X3_save (uB M1 4 0 0) N2).1 4 0 = 0 := by rw [s2 4 (by omega), uB_self]
      generalize (f_X2_saveState N B Bs).1 = N4 at *
      generalize (f_X2_saveState N B Bs).2 = Bs4 at *
      generalize (f_X3_save (uB M1 4 0 0) N2).1 = M8 at *
      generalize (f_X3_save (uB M1 4 0 0) N2).2 = N9 at *
      have hn4 : N4 0 1 ≤ 60 := by
        have := s1.2.2.2.1
        omega
      have po := zorder (S := zrs N4 rb) (fun j => rfl) hn4 (zl_tx s1 (N' := va_up N9 2 0) (Nat.zero_le _) rfl rfl) rfl rfl rfl
      have e0 : (va_up N9 2 0) 2 = 0 := zup_self
      rw [e0] at po
      generalize f_X3_readsOrder M8 (va_up N9 2 0) = res at *
      obtain ⟨ok2, M11, N12⟩ := res
      obtain ⟨b1, b2, b3, b4, b5, b6, b7, b8⟩ := po
      dsimp only at b1 b2 b3 b4 b5 b6 b7 b8 ⊢
      rcases b8 with ⟨_, d2, d3⟩ | ⟨d1, d2, d3, d4⟩
      · exfalso
        rcases Nat.lt_or_ge (N12 2) (N4 0 1) with l | l
        · exact hz4.1 _ l (d2 l)
        · exact hz4.2 (d3 (by omega))
      · rw [d1]
        have hx2 : ztx (N4 0 1) (N4 2) M11 N12 := ⟨b5.trans s1.2.2.2.1.1.symm, b2, fun j hj => by rw [b6 2 (by omega)]; exact s1.2.2.2.2.2.2.2.1 j (by have := s1.2.2.2.1; omega)⟩
        have hz2 : zcur B M11 := by
          unfold zcur
          rw [b6 0 (by omega)]
          exact s1.1
        have h86 : M8 0 6 = B 8 6 := zc_8 s1.1 (by omega)
        have rr := zrun hK hn4 (zl_bs s1) (zl_ri s1) hz4 M N2 B (M8 0 6) 61 130 0 M11 N12 B (by omega) (by omega) hx2 (by
          rcases Nat.lt_or_ge (N12 2) (N4 0 1) with l | l
          · right
            exact Classical.byContradiction (fun z => hz4.1 _ l (d4 l z))
          · left
            omega) d3 hz2 (s1.2.1.mono (by omega)) h86.symm
        have hps := zpass (N := N4) rb B (N12 2) 61 0 0 B (by omega) (fun j x y => ⟨by omega, (b3 j x (by omega)).2⟩)
        rw [Nat.zero_add] at hps
        rw [← hps] at rr
        have ed : f_X2_doOrders rb N4 B = f_X2_doOrders_11 rb N4 B 61 0 0 (zrs N4 rb 0) B := rfl
        rw [← ed] at rr
        have em : f_X3_run_45 M Nm 130 0 (M8 0 6) 1 M11 N12 = f_X3_run_45 M N2 130 0 (M8 0 6) 1 M11 N12 := zr45_N M Nm N2 130 0 (M8 0 6) 1 M11 N12
        rw [em]
        generalize f_X3_run_45 M N2 130 0 (M8 0 6) 1 M11 N12 = x at *
        generalize f_X2_doOrders rb N4 B = y at *
        obtain ⟨t1, t2, t3, t4, t5, t6, t7, t8, t9⟩ := rr
        obtain ⟨c1, c2, c3, c4, c5, c6, c7, c8, c9⟩ := s1.mono (K' := K + 620000) (by omega)
        have o : ∀ j, 82 ≤ j → x.2.1 0 j = M8 0 j := fun j hj => by rw [t3 j hj, b6 0 (by omega)]
        have zr : ∀ (C : BK) (q : Nat), 1 ≤ q → zrel C (M8 0) (82 * q) → zrel C (x.2.1 0) (82 * q) := by
          intro C q hq hC k i hk hi
          rw [o _ (by omega)]
          exact hC k i hk hi
        have o1 : x.2.1 1 = M8 1 := (t4 1 (by omega) (by omega)).trans (b6 1 (by omega))
        refine ⟨t5.trans (b7.trans hM40), fun _ => ⟨t1, t2, t8.mono (by omega), ⟨?_, ?_⟩, ⟨?_, ?_⟩, c5, fun i hi => ?_, fun s hs => ?_, fun i hi => ?_, t9⟩, fun q => absurd rfl q⟩
        · show N4 0 0 = x.2.2 0
          rw [t6, b4]
          exact c3.1
        · rw [t6, b4]
          exact c3.2
        · exact t7.symm
        · rw [t7]
          omega
        · rw [t6, b4] at hi
          exact ⟨zr _ _ (by omega) (c6 i hi).1, (c6 i hi).2⟩
        · rw [o1]
          exact ⟨(c7 s hs).1, fun q => ⟨zr _ _ (by omega) ((c7 s hs).2 q).1, ((c7 s hs).2 q).2⟩⟩
        · rw [t7] at hi
          omega
end ZRV
