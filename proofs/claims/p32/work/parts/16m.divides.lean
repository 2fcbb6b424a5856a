/-! what a dividend tells -/
section ZDI
variable {N : NK} {B X : BK} {Bs : Nat → BK}
theorem zor0 {x y : Int32} : x ||| y = 0 ↔ x = 0 ∧ y = 0 := by
  rw [← Int32.toBitVec_inj, ← Int32.toBitVec_inj (a := x), ← Int32.toBitVec_inj (a := y), Int32.toBitVec_or]
  exact BitVec.or_eq_zero_iff
theorem zdi28 (N : NK) (B : BK) (Bs : Nat → BK) : ∀ n, n ≤ 6 → (f_L_divides_28 N B Bs 0 0 n).1 = zdv B n ∧ ((f_L_divides_28 N B Bs 0 0 n).2 = 0 ↔ ∀ i, i < n → B 1 i = 0) := by
  intro n
  induction n with
  | zero => intro _; exact ⟨rfl, ⟨fun _ i hi => absurd hi (Nat.not_lt_zero i), fun _ => rfl⟩⟩
  | succ n ih =>
    intro hn
    obtain ⟨i1, i2⟩ := ih (by omega)
    have e : f_X2_ifDivided B (nI n) = f_X0_dividendOf B n (f_X0_allShareDays B) := by
      unfold f_X2_ifDivided
      rw [nI_clamp (by omega)]
    unfold f_L_divides_28
    dsimp only
    rw [i1, e, (zmo B (n := n) (by omega)).2.2.2.2.2.1, zor0, i2]
    refine ⟨rfl, ⟨fun h i hi => ?_, fun h => ⟨fun i hi => h i (by omega), h n (by omega)⟩⟩⟩
    by_cases q : i = n
    · subst q
      exact h.2
    · exact h.1 i (by omega)
theorem zdv_0 (hl : ¬ 1 ≤ f_X0_allShareDays B) : ∀ n, zdv B n = 0
  | 0 => rfl
  | n + 1 => by
    show zdv B n + f_X0_dividendOf B n (f_X0_allShareDays B) = 0
    rw [zdv_0 hl n]
    unfold f_X0_dividendOf
    rw [if_neg hl]
    rfl
theorem zdays_0 {K : Int} (hI : zI K B) : (∀ i, i < 6 → B 1 i = 0) ↔ ¬ 1 ≤ f_X0_allShareDays B := by
  obtain ⟨d1, d2, d3⟩ := z_daysI hI
  have e6 : (1 : Int64).toInt = 1 := by decide
  rw [Int64.le_iff_toInt_le, e6, d1]
  refine ⟨fun h => ?_, fun h i hi => ?_⟩
  · have : zS (zv B 1) 6 = zS (fun _ => 0) 6 := zS_congr (fun i hi => by
      unfold zv
      rw [h i hi]
      exact Int32.toInt_zero)
    have z : zS (fun _ => 0) 6 = 0 := rfl
    omega
  · have h1 := zS_one (f := zv B 1) (n := 6) (j := i) (fun j hj => (hI.1 j hj).1) hi
    have h0 := (hI.1 i hi).1
    rw [zi0]
    have e : (B 1 i).toInt = zv B 1 i := rfl
    omega
theorem zF_div {n : Int} (h : zQ n B) (hn : n ≤ 100) : zF_divides N B Bs := by
  obtain ⟨hn0, hI, hR⟩ := h
  have hK : 20000 * n ≤ 2 ^ 29 := by omega
  have hK2 : 20000 * n ≤ 2 ^ 30 := by omega
  have hI2 := zI_shareOut hI hK
  obtain ⟨g1, g2⟩ := zdi28 N B Bs 6 (by omega)
  rw [zdays_0 hI] at g2
  have hsA : (f_X0_allShares B).toInt = zSH B := z_sharesI hI hK2
  have hsB : (f_X0_allShares (f_X0_shareOut B).2).toInt = zSH (f_X0_shareOut B).2 := z_sharesI hI2 hK2
  have tA : zSH B ≤ 20000 * n ∧ 0 ≤ zSH B := zsh_tot hI
  have ht := z_till hR hI
  unfold zF_divides
  rw [zx_dividend, g1]
  dsimp only
  obtain ⟨t0, t1, t2, -, -, -, -, -, -, t9, -⟩ := zct N B
  obtain ⟨u0, u1, u2, -, -, -, -, -, -, u9, -⟩ := zct (f_X2_saveState N B Bs).1 (f_X0_shareOut B).2
  rw [t1, t2, t9, u1, u2, u9]
  rw [show f_X2_memberOf (f_X0_shareOut B).2 0 5 = (f_X0_shareOut B).2 1 0 from (zmo (f_X0_shareOut B).2 (n := 0) (by omega)).2.2.2.2.2.1]
  generalize (f_L_divides_28 N B Bs 0 0 6).2 = dd at *
  by_cases c : 1 ≤ f_X0_allShareDays B
  · have hd : ¬ dd = 0 := fun q => (g2.mp q) c
    obtain ⟨q1, q2, q3, q4⟩ := z_dvI hI hK (i := 0) (by omega) c
    have g0 := zG_le hI q4 (n := 6) (by omega)
    have e1 := zdvI hI hK c 6 (by omega)
    have e81 : (B 8 1).toInt = zv B 8 1 := rfl
    have eS := zSh_SH hI hK c
    have hO : f_X0_shareOut B = (zdv B 6, uB (uB (zSh B 6 6) 8 1 (B 8 1 - zdv B 6)) 8 7 ((uB (zSh B 6 6) 8 1 (B 8 1 - zdv B 6)) 8 7 + zdv B 6)) := by
      unfold f_X0_shareOut
      dsimp only
      rw [if_pos c, zso28]
      dsimp only
      rw [zSh_r8 B (k := 8) (by omega)]
    have h1 : (f_X0_shareOut B).1 = zdv B 6 := by rw [hO]
    have h81 : (f_X0_shareOut B).2 8 1 = B 8 1 - zdv B 6 := by
      rw [hO]
      dsimp only
      rw [uB_ne _ _ (by decide), uB_self]
    have h10 : (f_X0_shareOut B).2 1 0 = 0 := by
      rw [hO]
      dsimp only
      rw [uB_row _ _ _ (by decide), uB_row _ _ _ (by decide)]
      rfl
    have hSH : zSH (f_X0_shareOut B).2 = zSH B + zG B 6 := by
      rw [hO]
      dsimp only
      rw [zSH_ne _ _ _ (by decide), zSH_ne _ _ _ (by decide), eS]
    refine ⟨fun _ => h1, fun _ => ?_, fun _ => h81, fun _ => ?_, fun _ => h10, fun q => absurd q hd, fun q => absurd q hd, fun q => absurd q hd⟩
    · rw [Int32.lt_iff_toInt_lt, e1, e81]
      omega
    · apply Int32.toInt_inj.mp
      rw [hsB, hSH, Jvm.Kit.i32_add (by omega) (by omega), hsA, e1]
  · have hd : dd = 0 := g2.mpr c
    have hO : f_X0_shareOut B = (-1, uB B 8 6 (B 8 6 + 1)) := by
      unfold f_X0_shareOut
      dsimp only
      rw [if_neg c]
    refine ⟨fun q => absurd hd q, fun q => absurd hd q, fun q => absurd hd q, fun q => absurd hd q, fun q => absurd hd q, fun _ => by rw [hO], fun _ => zdv_0 c 6, fun _ => ?_⟩
    rw [hO]
    dsimp only
    rw [uB_self]
/-- all the facts of a turn's deed -/
theorem zA_acts {n : Int} {xx y : Int32} (h : zQ n B) (hn : n ≤ 100) (hX : ¬ X 0 0 = 0) : zF_acts X N B Bs xx y :=
  ⟨zf_1031 h hn hX, zF_div h hn, zf_905 h hn, zF_end h hn, zf_775 h hn, zf_595 h hn, zf_489 h hn, zf_381 h hn, zf_272 h hn, zf_176 h hn⟩
end ZDI
