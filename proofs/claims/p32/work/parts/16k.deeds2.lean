/-! what a turn's deed tells: pledges, loans -/
section ZDF
variable {N : NK} {B X : BK} {Bs : Nat → BK}
theorem zne {m o : Nat} (hm : m < 6) (ho : o < 6) (h : ¬ m = o) : ¬ nI m = nI o := fun e => h ((nI_eq (by omega) (by omega)).mp e)
theorem zf_381 {n : Int} {y : Int32} (h : zQ n B) (hn : n ≤ 100) : zF_acts_381 N B Bs y := by
  obtain ⟨hn0, hI, hR⟩ := h
  have hK : 20000 * n ≤ 2 ^ 29 := by omega
  have hm := zm_lt y
  have ho := zo_lt y
  have hne := zo_ne y
  have ha := za_bd y
  unfold zF_acts_381
  simp only [zx_pledge hm ho, zpg _ hm ho, (zmo B hm).2.2.2.2.1, (zct N B).2.2.2.2.2.2.2.2.2.1, (zct (f_X2_saveState N B Bs).1 _).2.2.2.2.2.2.2.2.2.1]
  have e1 : (nI (za y)).toInt = (za y : Int) := nI_toInt (by omega)
  generalize za y = a at *
  generalize zm y = m at *
  generalize zo y = o at *
  have hp := zbI_one hI hm ho
  have hp0 := hI.2.1 (m * 6 + o) (by omega)
  have b1 := hI.2.2.2.1 m hm
  have b2 := zsh_le hI hm
  have e4 : (B 2 (m * 6 + o)).toInt = zv B 2 (m * 6 + o) := rfl
  have e5 : (B 2 (m * 6 + o) + nI a).toInt = zv B 2 (m * 6 + o) + a := by rw [Jvm.Kit.i32_add (by omega) (by omega), e4, e1]
  have hz : ¬ B 2 (m * 6 + o) + nI a = -1 := fun q => by
    rw [q] at e5
    have : (-1 : Int32).toInt = -1 := by decide
    omega
  refine ⟨zne hm ho hne, ?_⟩
  unfold f_X0_addPledge
  by_cases c : nI a ≤ f_X0_freeShares B m
  · rw [if_pos c]
    dsimp only
    rw [uB_self, if_neg hz, if_pos c]
    exact ⟨rfl, fun _ => rfl, fun _ => rfl, fun q => absurd q hz, fun q => absurd q hz⟩
  · rw [if_neg c, if_neg c]
    refine ⟨rfl, fun q => absurd rfl q, fun q => absurd rfl q, fun _ => ?_, fun _ => (by dsimp only; rw [uB_self])⟩
    dsimp only
    rw [uB_row _ _ _ (by decide)]
theorem zf_489 {n : Int} {y : Int32} (h : zQ n B) (hn : n ≤ 100) : zF_acts_489 N B Bs y := by
  obtain ⟨hn0, hI, hR⟩ := h
  have hK : 20000 * n ≤ 2 ^ 29 := by omega
  have hm := zm_lt y
  have ho := zo_lt y
  have hne := zo_ne y
  have ha := za_bd y
  have hI2 := zI_dropPledge hI hK hm ho (zam_n ha.1 ha.2)
  have hc2 := z_coverI hI2 hK ho
  have hc5 := hI2.2.2.2.2.1 (zo y) ho
  unfold zF_acts_489
  simp only [zx_unpledge hm ho, zpg _ hm ho, (zmo _ ho).2.2.2.1, (zmo _ ho).2.2.2.2.2.2.1]
  generalize za y = a at *
  generalize zm y = m at *
  generalize zo y = o at *
  have h6 : ¬ f_X0_cover (f_X0_dropPledge B m o (nI a)).2 o < (f_X0_dropPledge B m o (nI a)).2 3 o := by
    rw [Int32.lt_iff_toInt_lt, hc2]
    have : ((f_X0_dropPledge B m o (nI a)).2 3 o).toInt = zv (f_X0_dropPledge B m o (nI a)).2 3 o := rfl
    omega
  refine ⟨zne hm ho hne, ?_, ?_, ?_, ?_, h6⟩
  · unfold f_X0_dropPledge
    by_cases c : nI a ≤ B 2 (m * 6 + o)
    · rw [if_pos c, if_pos c]
      by_cases c2 : B 3 o ≤ f_X0_cover B o - nI a
      · rw [if_pos c2]
        rfl
      · rw [if_neg c2]
        rfl
    · rw [if_neg c, if_neg c]
      rfl
  · unfold f_X0_dropPledge
    exact zif (fun (r : Int32 × BK) => ¬ r.1 < 0) (fun _ => zif (fun (r : Int32 × BK) => ¬ r.1 < 0) (fun _ => by dsimp only; decide) (fun _ => by dsimp only; decide)) (fun _ => by dsimp only; decide)
  · unfold f_X0_dropPledge
    exact zif (fun (r : Int32 × BK) => ¬ 2 < r.1) (fun _ => zif (fun (r : Int32 × BK) => ¬ 2 < r.1) (fun _ => by dsimp only; decide) (fun _ => by dsimp only; decide)) (fun _ => by dsimp only; decide)
  · unfold f_X0_dropPledge
    by_cases c : nI a ≤ B 2 (m * 6 + o)
    · rw [if_pos c]
      by_cases c2 : B 3 o ≤ f_X0_cover B o - nI a
      · rw [if_pos c2]
        dsimp only
        rw [if_pos rfl, uB_self]
      · rw [if_neg c2]
        dsimp only
        rw [if_neg (by decide), uB_row _ _ _ (by decide)]
    · rw [if_neg c]
      dsimp only
      rw [if_neg (by decide), uB_row _ _ _ (by decide)]
/-- the weeks of a loan that has just been given -/
theorem zwk_le {a w p : Int} (ha : 1 ≤ a) (hw : 1 ≤ w) (hp : p = (a + w - 1) / w) (hp1 : 1 ≤ p) : (a + p - 1) / p ≤ w := by
  have h1 : a + w - 1 < (p + 1) * w := by
    rw [hp]
    exact Int.lt_ediv_add_one_mul_self _ (by omega)
  have h2 : (p + 1) * w = p * w + w := by rw [Int.add_mul, Int.one_mul]
  refine Int.le_of_lt_add_one (Int.ediv_lt_of_lt_mul (by omega) ?_)
  have h3 : (w + 1) * p = p * w + p := by rw [Int.add_mul, Int.one_mul, Int.mul_comm]
  omega
theorem zf_595 {n : Int} {y : Int32} (h : zQ n B) (hn : n ≤ 100) : zF_acts_595 N B Bs y := by
  obtain ⟨hn0, hI, hR⟩ := h
  have hK : 20000 * n ≤ 2 ^ 29 := by omega
  have hm := zm_lt y
  have ha := za_bd y
  have hw := zw_bd y
  have hw1 : (nI (zw y)).toInt = (zw y : Int) := nI_toInt (by omega)
  have hI2 := zI_lend hI hK hm (zam_n ha.1 ha.2) (wk := nI (zw y)) (by rw [hw1]; omega)
  have hl2 := zlast2 hI2 hm
  have ew : ∀ x, f_X2_whyNot B (nI (zm y)) x = f_X0_whyNoLoan B (zm y) x := fun x => by
    unfold f_X2_whyNot
    rw [nI_clamp (by omega)]
  have el : ∀ C : BK, f_X2_weeksLeft C (nI (zm y)) 0 = f_X0_weeksByWeeks C (zm y) := fun C => by
    unfold f_X2_weeksLeft
    rw [if_pos rfl, nI_clamp (by omega)]
  have e7 : f_X2_setting B 0 = B 7 0 := rfl
  unfold zF_acts_595
  simp only [zx_borrow hm, ew, el, e7, (zmo _ hm).2.2.2.2.2.2.1, (zmo _ hm).2.2.2.2.2.2.2.2.2, (zct N B).1, (zct N B).2.1, (zct N B).2.2.2.1, (zct N B).2.2.2.2.2.1, (zct N B).2.2.2.2.2.2.2.2.2.1, (zct (f_X2_saveState N B Bs).1 _).1, (zct (f_X2_saveState N B Bs).1 _).2.1, (zct (f_X2_saveState N B Bs).1 _).2.2.2.1, (zct (f_X2_saveState N B Bs).1 _).2.2.2.2.2.1, (zct (f_X2_saveState N B Bs).1 _).2.2.2.2.2.2.2.2.2.1]
  simp only [zw_ge0]
  have ha1 : (nI (za y)).toInt = (za y : Int) := nI_toInt (by omega)
  generalize za y = a at *
  generalize zm y = m at *
  generalize zw y = w at *
  by_cases c : f_X0_whyNoLoan B m (nI a) = 0
  · have hB : (f_X0_lend B m (nI a) (nI w)).2 3 m = nI a ∧ (f_X0_lend B m (nI a) (nI w)).2 4 m = (nI a + nI w - 1) / nI w ∧ (f_X0_lend B m (nI a) (nI w)).2 6 m = 0 ∧ (f_X0_lend B m (nI a) (nI w)).2 8 0 = B 8 0 - (nI a - f_X0_feeOf B (nI a)) ∧ (f_X0_lend B m (nI a) (nI w)).2 8 1 = B 8 1 + f_X0_feeOf B (nI a) ∧ (f_X0_lend B m (nI a) (nI w)).2 8 2 = B 8 2 + 1 := by
      unfold f_X0_lend
      rw [if_pos c]
      dsimp only
      refine ⟨?_, ?_, ?_, ?_, ?_, ?_⟩
      · rw [uB_row _ _ _ (by decide), uB_row _ _ _ (by decide), uB_row _ _ _ (by decide), uB_row _ _ _ (by decide), uB_self]
      · rw [uB_row _ _ _ (by decide), uB_row _ _ _ (by decide), uB_row _ _ _ (by decide), uB_self]
      · rw [uB_row _ _ _ (by decide), uB_self]
      · rw [uB_ne _ _ (by decide), uB_row _ _ _ (by decide), uB_row _ _ _ (by decide), uB_row _ _ _ (by decide), uB_row _ _ _ (by decide), uB_ne _ _ (by decide), uB_self]
      · rw [uB_ne _ _ (by decide), uB_row _ _ _ (by decide), uB_row _ _ _ (by decide), uB_row _ _ _ (by decide), uB_row _ _ _ (by decide), uB_self, uB_ne _ _ (by decide)]
      · rw [uB_self, uB_row _ _ _ (by decide), uB_row _ _ _ (by decide), uB_row _ _ _ (by decide), uB_row _ _ _ (by decide), uB_ne _ _ (by decide), uB_ne _ _ (by decide)]
    have h1 : (f_X0_lend B m (nI a) (nI w)).1 = 0 := by
      unfold f_X0_lend
      rw [if_pos c]
    obtain ⟨q3, q4, q6, q80, q81, q82⟩ := hB
    rw [c, h1]
    have v3 : zv (f_X0_lend B m (nI a) (nI w)).2 3 m = (a : Int) := by
      unfold zv
      rw [q3, ha1]
    have hl0 : ¬ f_X0_hasLoan (f_X0_lend B m (nI a) (nI w)).2 m = 0 := by
      refine zhl1 ?_
      rw [q3, Int32.le_iff_toInt_le, Int32.toInt_zero]
      omega
    refine ⟨rfl, fun _ => q3, fun _ => ?_, fun _ => q81, fun _ => ?_, fun _ => q82, fun _ => ?_, fun q => absurd rfl q, fun q => absurd rfl q⟩
    · obtain ⟨w1, w2, w3⟩ := hl2.2.2 (by omega)
      rw [Int32.lt_iff_toInt_lt, w1, v3, hw1]
      have e1 : (1 : Int32).toInt = 1 := by decide
      have s1 : (nI a + nI w).toInt = (a : Int) + w := by rw [Jvm.Kit.i32_add (by omega) (by omega), ha1, hw1]
      have s2 : (nI a + nI w - 1).toInt = (a : Int) + w - 1 := by rw [Jvm.Kit.i32_sub (by omega) (by omega), s1, e1]
      have v4 : zv (f_X0_lend B m (nI a) (nI w)).2 4 m = ((a : Int) + w - 1) / w := by
        unfold zv
        rw [q4, Jvm.Kit.i32_div (by omega), s2, hw1, Int.tdiv_eq_ediv_of_nonneg (by omega)]
      have := zwk_le (a := a) (w := w) (by omega) (by omega) v4 w2
      omega
    · rw [q80, show nI a * B 7 0 / 1000 = f_X0_feeOf B (nI a) from rfl]
      generalize f_X0_feeOf B (nI a) = f
      rw [Int32.sub_eq_add_neg, Int32.sub_eq_add_neg, Int32.sub_eq_add_neg, Int32.neg_add, Int32.sub_eq_add_neg, Int32.neg_neg, Int32.add_assoc]
    · rw [if_neg hl0]
      exact q6
  · have hB : f_X0_lend B m (nI a) (nI w) = (f_X0_whyNoLoan B m (nI a), uB B 8 6 (B 8 6 + 1)) := by
      unfold f_X0_lend
      rw [if_neg c]
    rw [hB]
    refine ⟨rfl, fun q => absurd q c, fun q => absurd q c, fun q => absurd q c, fun q => absurd q c, fun q => absurd q c, fun q => absurd q c, fun _ => (by dsimp only; rw [uB_self]), fun _ => zar_eq (B := B) (C := uB B 8 6 (B 8 6 + 1)) (uB_row B 6 _ (by decide : ¬ 3 = 8))⟩
end ZDF
