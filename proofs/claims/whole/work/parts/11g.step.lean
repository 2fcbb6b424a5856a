/-! days, dividends, settings, the buffer, snapshots, undo -/
section ZS2
variable {K : Int} {r : Nat → Nat} {N : NK} {B X : BK} {Bs : Nat → BK} {M : BK} {Nm : Nat → Nat}
theorem zs_pass (h : zL K r N B X Bs M Nm) (hK : K ≤ 2 ^ 29) (dd : Int32) : ∀ k, zTh [(zrg dd 1 99, 1), (¬ f_X0_canAddDays B dd = 0, 2)] k →
    (f_X3_pass M Nm dd).2.1 4 0 = k ∧ (k = 0 → (f_X3_pass M Nm dd).1 = (f_X2_pass N B Bs dd).1 ∧ zL (K + 10000) r (f_X2_pass N B Bs dd).2.1 (f_X2_pass N B Bs dd).2.2.1 X (f_X2_pass N B Bs dd).2.2.2 (f_X3_pass M Nm dd).2.1 (f_X3_pass M Nm dd).2.2) ∧ (¬ k = 0 → zL K r N B X Bs (f_X3_pass M Nm dd).2.1 (f_X3_pass M Nm dd).2.2) := by
  intro k hk
  have ha := zc_canAdd h.1 Nm dd
  unfold f_X3_pass f_X2_pass
  dsimp only
  rw [zhold, zhold, zhold]
  rcases hk with ⟨c, rfl⟩ | ⟨c, ⟨c2, rfl⟩ | ⟨c2, rfl⟩⟩
  · have e : f_X3_in dd 1 99 = 0 := zin_no c
    by_cases q : M 0 5 + dd ≤ 9999
    · rw [if_pos q, if_pos e]
      dsimp only
      exact ⟨uB_self _ _ _ _, fun q => absurd q z10, fun _ => h.r4 0 1⟩
    · rw [if_neg q, if_pos e]
      dsimp only
      exact ⟨uB_self _ _ _ _, fun q => absurd q z10, fun _ => h.r4 0 1⟩
  · rcases ha with ⟨e, _⟩ | ⟨_, ⟨q, e⟩ | ⟨q, e⟩⟩
    · exact absurd (by rw [e]; exact z10) c2
    · rw [if_pos q, if_neg (zin_yes c), if_neg (by rw [e]; exact z10)]
      dsimp only
      exact ⟨uB_self _ _ _ _, fun q => absurd q z20, fun _ => h.r4 0 2⟩
    · rw [if_neg q, if_neg (zin_yes c), if_neg (by rw [e]; exact z10)]
      dsimp only
      exact ⟨uB_self _ _ _ _, fun q => absurd q z20, fun _ => h.r4 0 2⟩
  · rcases ha with ⟨_, q, e, hz⟩ | ⟨e, _⟩
    · rw [if_pos q, if_neg (zin_yes c), if_pos e]
      dsimp only
      obtain ⟨s1, s2, s3, s4⟩ := (h.r4 0 0).save
      have e2 := ze_addDays M (f_X3_save (uB M 4 0 0) Nm).2 Nm dd s1.1
      have g := zI_addDays s1.2.1 (zrg_int c) hz
      refine ⟨?_, fun _ => ⟨e2.1, s1.deed e2.2.1 e2.2.2 (g.mono (by omega)) (by omega)⟩, fun q => absurd rfl q⟩
      exact (congrFun (e2.2.2.2 4 (by omega)) 0).trans (by rw [s2 4 (by omega), uB_self])
    · exact absurd e c2
theorem zs_dividend (h : zL K r N B X Bs M Nm) (hK : K ≤ 2 ^ 29) :
    (f_X3_dividend M Nm).1 = (f_X2_dividend N B Bs).1 ∧ zL (K + 10000) r (f_X2_dividend N B Bs).2.1 (f_X2_dividend N B Bs).2.2.1 X (f_X2_dividend N B Bs).2.2.2 (f_X3_dividend M Nm).2.1 (f_X3_dividend M Nm).2.2 := by
  obtain ⟨s1, s2, s3, s4⟩ := (h.r4 0 0).save
  have e := ze_shareOut M Nm (f_X3_save (uB M 4 0 0) Nm).2 s1.1 (zd0 s1.2.1)
  have g := zI_shareOut s1.2.1 hK
  unfold f_X3_dividend f_X2_dividend
  dsimp only
  rcases e with ⟨c, e1, e2, e3⟩ | ⟨c, e1, e2⟩
  · rw [if_pos c]
    exact ⟨e1, s1.deed e2 e3 (g.mono (by omega)) (by omega)⟩
  · rw [if_neg c]
    dsimp only
    obtain ⟨e3, e4⟩ := e2 _ rfl
    exact ⟨e1.symm, s1.deed e3 e4 (g.mono (by omega)) (by omega)⟩
theorem zs_set (h : zL K r N B X Bs M Nm) (i1 i2 : Int32) : ∀ k, zTh [(zset i1, 1), (zstv i1 i2, 2)] k →
    (f_X3_set M Nm i1 i2).2.1 4 0 = k ∧ (k = 0 → (f_X3_set M Nm i1 i2).1 = (f_X2_set N B Bs i1 i2).1 ∧ zL (K + 10000) r (f_X2_set N B Bs i1 i2).2.1 (f_X2_set N B Bs i1 i2).2.2.1 X (f_X2_set N B Bs i1 i2).2.2.2 (f_X3_set M Nm i1 i2).2.1 (f_X3_set M Nm i1 i2).2.2) ∧ (¬ k = 0 → zL K r N B X Bs (f_X3_set M Nm i1 i2).2.1 (f_X3_set M Nm i1 i2).2.2) := by
  intro k hk
  unfold f_X3_set
  dsimp only
  rw [zhold, zhold, zhold]
  rcases hk with ⟨c, rfl⟩ | ⟨c, hk⟩
  · rw [if_pos (show f_X3_in i1 0 1 = 0 from zin_no (fun q => c (zin_set.mp q)))]
    dsimp only
    exact ⟨uB_self _ _ _ _, fun q => absurd q z10, fun _ => h.r4 0 1⟩
  · rw [if_neg (show ¬ f_X3_in i1 0 1 = 0 from zin_yes (zin_set.mpr c))]
    obtain ⟨m, hm, rfl⟩ := c
    obtain ⟨s1, s2, s3, s4⟩ := (h.r4 0 0).save
    have em : (nI m).toNatClampNeg = m := nI_clamp (by omega)
    unfold f_X2_set
    dsimp only
    rw [em]
    have e7 : (f_X3_save (uB M 4 0 0) Nm).1 0 (8 + m) = B 7 m := zc_7 s1.1 hm
    have u7 : zcur (uB B 7 m i2) (uB (f_X3_save (uB M 4 0 0) Nm).1 0 (8 + m) i2) := zc_up s1.1 (k := 7) (by omega) hm rfl rfl
    have o7 : zonly (f_X3_save (uB M 4 0 0) Nm).1 (uB (f_X3_save (uB M 4 0 0) Nm).1 0 (8 + m) i2) := zonly.up (by omega)
    have t7 : (uB (f_X3_save (uB M 4 0 0) Nm).1 0 (8 + m) i2) 4 0 = 0 := by
      rw [uB_row _ _ _ (by decide), s2 4 (by omega), uB_self]
    by_cases c0 : m = 0
    · subst c0
      rw [if_pos rfl, if_pos rfl]
      rcases hk with ⟨c2, rfl⟩ | ⟨c2, rfl⟩
      · rw [if_pos (show f_X3_in i2 (nI 0) 100 = 0 from zin_no (fun q => c2 ((zstv_a rfl).mp q)))]
        dsimp only
        exact ⟨uB_self _ _ _ _, fun q => absurd q z20, fun _ => h.r4 0 2⟩
      · have hr : zrg i2 0 100 := (zstv_a rfl).mpr c2
        rw [if_neg (show ¬ f_X3_in i2 (nI 0) 100 = 0 from zin_yes hr)]
        have hr2 := zrg_int hr
        have q1 : (0 : Int32).toInt = 0 := by decide
        have q2 : (100 : Int32).toInt = 100 := by decide
        have g := zI_fee s1.2.1 (x := i2) (by omega) (by omega)
        exact ⟨t7, fun _ => ⟨e7, s1.deed u7 o7 (g.mono (by omega)) (by omega)⟩, fun q => absurd rfl q⟩
    · rw [if_neg c0, if_neg c0]
      have c1 : m = 1 := by omega
      rcases hk with ⟨c2, rfl⟩ | ⟨c2, rfl⟩
      · rw [if_pos (show f_X3_in i2 (nI m) 5 = 0 from by rw [c1]; exact zin_no (fun q => c2 ((zstv_b c0 hm).mp q)))]
        dsimp only
        exact ⟨uB_self _ _ _ _, fun q => absurd q z20, fun _ => h.r4 0 2⟩
      · have hr : zrg i2 1 5 := (zstv_b c0 hm).mpr c2
        rw [if_neg (show ¬ f_X3_in i2 (nI m) 5 = 0 from by rw [c1]; exact zin_yes hr)]
        have g : zI K (uB B 7 m i2) := zI_up s1.2.1 (by decide) (by omega) (by omega) (by omega)
        exact ⟨t7, fun _ => ⟨e7, s1.deed u7 o7 (g.mono (by omega)) (by omega)⟩, fun q => absurd rfl q⟩
theorem zs_append (h : zL K r N B X Bs M Nm) (i1 : Int32) : ∀ k, zTh [(zrg i1 33 126, 1), (N 0 1 < 60, 2)] k →
    (f_X3_append M Nm i1).2.1 4 0 = k ∧ (k = 0 → (f_X3_append M Nm i1).1 = (f_X2_append N i1).1 ∧ zL (K + 10000) r (f_X2_append N i1).2 B X Bs (f_X3_append M Nm i1).2.1 (f_X3_append M Nm i1).2.2) ∧ (¬ k = 0 → zL K r N B X Bs (f_X3_append M Nm i1).2.1 (f_X3_append M Nm i1).2.2) := by
  intro k hk
  have hl := h.2.2.2.1
  unfold f_X3_append
  dsimp only
  rw [zhold, zhold, zhold]
  rcases hk with ⟨c, rfl⟩ | ⟨c, ⟨c2, rfl⟩ | ⟨c2, rfl⟩⟩
  · rw [if_pos (zin_no c)]
    dsimp only
    exact ⟨uB_self _ _ _ _, fun q => absurd q z10, fun _ => h.r4 0 1⟩
  · have c2' : ¬ N 0 1 < 60 := c2
    rw [if_neg (zin_yes c), if_pos (show Nm 1 = 60 by omega)]
    dsimp only
    exact ⟨uB_self _ _ _ _, fun q => absurd q z20, fun _ => h.r4 0 2⟩
  · have c2' : N 0 1 < 60 := c2
    rw [if_neg (zin_yes c), if_neg (show ¬ Nm 1 = 60 by omega)]
    have hc := zrg_int c
    have q1 : (33 : Int32).toInt = 33 := by decide
    have q2 : (126 : Int32).toInt = 126 := by decide
    obtain ⟨j, hj, rfl⟩ := nI_of (x := i1) (by rw [Int32.lt_iff_toInt_lt, Int32.toInt_zero]; omega)
    rw [nI_toInt hj] at hc
    unfold f_X2_append
    dsimp only
    rw [nI_clamp hj]
    refine ⟨?_, fun _ => ⟨by rw [hl.1], ?_⟩, fun q => absurd rfl q⟩
    · rw [uB_row _ _ _ (by decide), uB_self]
    · obtain ⟨a1, a2, a3, a4, a5, a6, a7, a8, a9⟩ := (h.r4 0 0).mono (K' := K + 10000) (by omega)
      refine ⟨a1, a2, a3, ⟨?_, ?_⟩, a5, a6, a7, fun i hi => ?_, a9⟩
      · show N 0 1 + 1 = Nm 1 + 1
        omega
      · show Nm 1 + 1 ≤ 60
        omega
      · have hi' : i < Nm 1 + 1 := hi
        have e2 : (uN (uN N 2 (N 0 1) j) 0 1 (N 0 1 + 1)) 2 i = va_up (N 2) (N 0 1) j i := rfl
        rw [e2]
        by_cases q : i = Nm 1
        · subst q
          rw [uB_self, hl.1, zup_self]
          exact ⟨rfl, by omega, by omega⟩
        · rw [uB_ne _ _ (fun e => q e.2), hl.1, zup_ne q]
          exact a8 i (by omega)
theorem zs_clear (h : zL K r N B X Bs M Nm) :
    (f_X3_clearBuffer M Nm).1 = (f_X2_clearBuffer N).1 ∧ zL (K + 10000) r (f_X2_clearBuffer N).2 B X Bs (f_X3_clearBuffer M Nm).2.1 (f_X3_clearBuffer M Nm).2.2 := by
  have hl := h.2.2.2.1
  unfold f_X3_clearBuffer f_X2_clearBuffer
  dsimp only
  refine ⟨by rw [hl.1], ?_⟩
  obtain ⟨a1, a2, a3, a4, a5, a6, a7, a8, a9⟩ := (h.r4 0 0).mono (K' := K + 10000) (by omega)
  exact ⟨a1, a2, a3, ⟨rfl, Nat.zero_le 60⟩, a5, a6, a7, fun i hi => absurd hi (Nat.not_lt_zero i), a9⟩
theorem zs_keep (h : zL K r N B X Bs M Nm) (i1 : Int32) : ∀ k, zTh [(zrg i1 0 1, 1)] k →
    (f_X3_keep M i1).2 4 0 = k ∧ (k = 0 → (f_X3_keep M i1).1 = (f_X2_keep X B Bs i1).1 ∧ zL (K + 10000) r N B (f_X2_keep X B Bs i1).2.1 (f_X2_keep X B Bs i1).2.2 (f_X3_keep M i1).2 Nm) ∧ (¬ k = 0 → zL K r N B X Bs (f_X3_keep M i1).2 Nm) := by
  intro k hk
  unfold f_X3_keep
  dsimp only
  rw [zhold, zhold]
  rcases hk with ⟨c, rfl⟩ | ⟨c, rfl⟩
  · rw [if_pos (zin_no c)]
    dsimp only
    exact ⟨uB_self _ _ _ _, fun q => absurd q z10, fun _ => h.r4 0 1⟩
  · rw [if_neg (zin_yes c)]
    have hs := zset_lt (zin_set.mp c)
    unfold f_X2_keep
    dsimp only
    generalize i1.toNatClampNeg = s at *
    obtain ⟨a1, a2, a3, a4, a5, a6, a7, a8, a9⟩ := (h.r4 0 0).mono (K' := K + 10000) (by omega)
    have a1' : zrel B ((uB M 4 0 0) 0) (82 * 0) := a1
    have k1 : zcur B (f_X3_copies (uB M 4 0 0) 0 (7 + s)) := zcp_far (q := 0) (by omega) (by omega) a1'
    have rw0 : (uB (f_X3_copies (uB M 4 0 0) 0 (7 + s)) 1 s 1) 0 = (f_X3_copies (uB M 4 0 0) 0 (7 + s)) 0 := uB_row _ _ _ (by decide)
    have k2 : zcur B (uB (f_X3_copies (uB M 4 0 0) 0 (7 + s)) 1 s 1) := by
      unfold zcur
      rw [rw0]
      exact k1
    refine ⟨?_, fun _ => ⟨zc_loans k2, k2, a2, a3, a4, a5, fun i hi => ?_, fun s' hs' => ?_, fun i hi => ?_, a9⟩, fun q => absurd rfl q⟩
    · rw [uB_row _ _ _ (by decide), zcp_row (by omega) (by omega), uB_self]
    · rw [rw0]
      have hp := a5.1 i (by omega)
      dsimp only
      rw [if_neg (by omega)]
      exact ⟨zcp_far (by omega) (by omega) (a6 i hi).1, (a6 i hi).2⟩
    · rw [rw0]
      by_cases q : s' = s
      · subst q
        rw [uB_self, uB_self]
        refine ⟨rfl, fun _ => ?_⟩
        dsimp only
        rw [if_pos rfl]
        exact ⟨zcp_to (by omega) a1', a2⟩
      · rw [uB_ne _ _ (fun e => q e.2), uB_ne _ _ (fun e => q e.2), zcp_row (by omega) (by omega)]
        dsimp only
        rw [if_neg (by omega)]
        exact ⟨(a7 s' hs').1, fun g => ⟨zcp_far (by omega) (by omega) ((a7 s' hs').2 g).1, ((a7 s' hs').2 g).2⟩⟩
    · rw [uB_row _ _ _ (by decide), zcp_row (by omega) (by omega)]
      exact a8 i hi
theorem zs_goBack (h : zL K r N B X Bs M Nm) (i1 : Int32) : ∀ k, zTh [(zrg i1 0 1, 1), (¬ X 0 i1.toNatClampNeg = 0, 2)] k →
    (f_X3_goBack M Nm i1).2.1 4 0 = k ∧ (k = 0 → (f_X3_goBack M Nm i1).1 = (f_X2_goBack N B Bs i1).1 ∧ zL (K + 10000) r (f_X2_goBack N B Bs i1).2.1 (f_X2_goBack N B Bs i1).2.2.1 X (f_X2_goBack N B Bs i1).2.2.2 (f_X3_goBack M Nm i1).2.1 (f_X3_goBack M Nm i1).2.2) ∧ (¬ k = 0 → zL K r N B X Bs (f_X3_goBack M Nm i1).2.1 (f_X3_goBack M Nm i1).2.2) := by
  intro k hk
  unfold f_X3_goBack
  dsimp only
  rw [zhold, zhold, zhold]
  rcases hk with ⟨c, rfl⟩ | ⟨c, hk⟩
  · rw [if_pos (zin_no c)]
    dsimp only
    exact ⟨uB_self _ _ _ _, fun q => absurd q z10, fun _ => h.r4 0 1⟩
  · rw [if_neg (zin_yes c)]
    have hs := zset_lt (zin_set.mp c)
    unfold f_X2_goBack
    dsimp only
    generalize i1.toNatClampNeg = s at *
    have hx := (h.2.2.2.2.2.2.1 s hs).1
    rw [← hx]
    rcases hk with ⟨c2, rfl⟩ | ⟨c2, rfl⟩
    · rw [if_pos (Classical.not_not.mp c2)]
      dsimp only
      exact ⟨uB_self _ _ _ _, fun q => absurd q z20, fun _ => h.r4 0 2⟩
    · have c2' : ¬ X 0 s = 0 := c2
      rw [if_neg c2']
      dsimp only
      obtain ⟨s1, s2, s3, s4⟩ := (h.r4 0 0).save
      obtain ⟨a1, a2, a3, a4, a5, a6, a7, a8, a9⟩ := s1.mono (K' := K + 10000) (by omega)
      have g := (a7 s hs).2 c2'
      have k1 : zcur ((f_X2_saveState N B Bs).2 (7 + s)) (f_X3_copies (f_X3_save (uB M 4 0 0) Nm).1 (7 + s) 0) := zcp_to (to := 0) (by omega) g.1
      refine ⟨?_, fun _ => ⟨zc_loans k1, k1, g.2, a3, a4, a5, fun i hi => ⟨zcp_far (by omega) (by omega) (a6 i hi).1, (a6 i hi).2⟩, fun s' hs' => ?_, fun i hi => ?_, a9⟩, fun q => absurd rfl q⟩
      · rw [zcp_row (by omega) (by omega), s2 4 (by omega), uB_self]
      · rw [zcp_row (by omega) (by omega)]
        exact ⟨(a7 s' hs').1, fun g => ⟨zcp_far (by omega) (by omega) ((a7 s' hs').2 g).1, ((a7 s' hs').2 g).2⟩⟩
      · rw [zcp_row (by omega) (by omega)]
        exact a8 i hi
theorem zs_undo (h : zL K r N B X Bs M Nm) : ∀ k, zTh [(¬ N 0 0 < 1, 1)] k →
    (f_X3_undo M Nm).2.1 4 0 = k ∧ (k = 0 → (f_X3_undo M Nm).1 = (f_X2_undo N Bs).1 ∧ zL (K + 10000) r (f_X2_undo N Bs).2.1 (f_X2_undo N Bs).2.2 X Bs (f_X3_undo M Nm).2.1 (f_X3_undo M Nm).2.2) ∧ (¬ k = 0 → zL K r N B X Bs (f_X3_undo M Nm).2.1 (f_X3_undo M Nm).2.2) := by
  intro k hk
  have hn := h.2.2.1
  unfold f_X3_undo
  dsimp only
  rw [zhold, zhold]
  rcases hk with ⟨c, rfl⟩ | ⟨c, rfl⟩
  · have c' : N 0 0 < 1 := Classical.not_not.mp c
    rw [if_pos (show Nm 0 ≤ 0 by omega)]
    dsimp only
    exact ⟨uB_self _ _ _ _, fun q => absurd q z10, fun _ => h.r4 0 1⟩
  · have c' : ¬ N 0 0 < 1 := c
    rw [if_neg (show ¬ Nm 0 ≤ 0 by omega)]
    unfold f_X2_undo
    dsimp only
    obtain ⟨a1, a2, a3, a4, a5, a6, a7, a8, a9⟩ := (h.r4 0 0).mono (K' := K + 10000) (by omega)
    have g := a6 (Nm 0 - 1) (by omega)
    rw [show Nm 0 - 1 + 1 = Nm 0 by omega] at g
    rw [hn.1]
    have k1 : zcur (Bs (N 1 (Nm 0 - 1))) (f_X3_copies (uB M 4 0 0) (Nm 0) 0) := zcp_to (to := 0) (by omega) g.1
    refine ⟨?_, fun _ => ⟨rfl, k1, g.2, ⟨rfl, ?_⟩, a4, a5, fun i hi => ?_, fun s' hs' => ?_, fun i hi => ?_, a9⟩, fun q => absurd rfl q⟩
    · rw [zcp_row (by omega) (by omega), uB_self]
    · show Nm 0 - 1 ≤ 6
      omega
    · have hi' : i < Nm 0 - 1 := hi
      show zrel (Bs (N 1 i)) _ _ ∧ zI _ (Bs (N 1 i))
      exact ⟨zcp_far (by omega) (by omega) (a6 i (by omega)).1, (a6 i (by omega)).2⟩
    · rw [zcp_row (by omega) (by omega)]
      exact ⟨(a7 s' hs').1, fun g => ⟨zcp_far (by omega) (by omega) ((a7 s' hs').2 g).1, ((a7 s' hs').2 g).2⟩⟩
    · rw [zcp_row (by omega) (by omega)]
      exact a8 i hi
end ZS2
