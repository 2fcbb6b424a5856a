/-! what a turn's deed tells: repaying, days, settings, slots, weeks, dividends -/
section ZDG
variable {N : NK} {B X : BK} {Bs : Nat → BK}
theorem zp_bd {n : Int} (h : zQ n B) (y : Int32) : 1 ≤ (zp B y).toInt ∧ (zp B y).toInt ≤ 9999 := by
  obtain ⟨hn0, hI, hR⟩ := h
  have hm := zm_lt y
  have ha := za_bd y
  have hr := hI.2.2.1 (zm y) hm
  have e1 : (nI (za y)).toInt = (za y : Int) := nI_toInt (by omega)
  have e3 : (B 3 (zm y)).toInt = zv B 3 (zm y) := rfl
  unfold zp
  rw [(zmo B hm).2.2.2.2.2.2.1]
  by_cases c : B 3 (zm y) ≤ 0
  · rw [if_pos c]
    omega
  · rw [if_neg c]
    rw [Int32.le_iff_toInt_le, Int32.toInt_zero] at c
    by_cases c2 : nI (za y) ≤ B 3 (zm y)
    · rw [if_pos c2]
      omega
    · rw [if_neg c2]
      omega
theorem zrgI {x : Int32} {a b : Nat} (ha : a < 2 ^ 31) (hb : b < 2 ^ 31) (h1 : (a : Int) ≤ x.toInt) (h2 : x.toInt ≤ b) : zrg x (nI a) (nI b) := by
  refine ⟨fun h => ?_, fun h => ?_⟩
  · rw [Int32.lt_iff_toInt_lt, nI_toInt ha] at h
    omega
  · rw [Int32.lt_iff_toInt_lt, nI_toInt hb] at h
    omega
theorem zf_775 {n : Int} {y : Int32} (h : zQ n B) (hn : n ≤ 100) : zF_acts_775 N B Bs y := by
  have hp := zp_bd h y
  obtain ⟨hn0, hI, hR⟩ := h
  have hK : 20000 * n ≤ 2 ^ 29 := by omega
  have hm := zm_lt y
  have hr := hI.2.2.1 (zm y) hm
  have e3 : (B 3 (zm y)).toInt = zv B 3 (zm y) := rfl
  unfold zF_acts_775
  simp only [zx_repay hm, (zmo _ hm).2.2.2.2.2.2.1, (zct N B).1, (zct N B).2.2.2.1, (zct (f_X2_saveState N B Bs).1 _).1, (zct (f_X2_saveState N B Bs).1 _).2.2.2.1]
  generalize zp B y = x at *
  generalize zm y = m at *
  refine ⟨zrgI (a := 1) (b := 9999) (by omega) (by omega) (by omega) (by omega), ?_⟩
  by_cases c : x ≤ B 3 m
  · have hz : ¬ B 3 m - x = -1 := fun q => by
      rw [Int32.le_iff_toInt_le] at c
      have e5 : (B 3 m - x).toInt = zv B 3 m - x.toInt := by rw [Jvm.Kit.i32_sub (by omega) (by omega), e3]
      rw [q] at e5
      have : (-1 : Int32).toInt = -1 := by decide
      omega
    have hT : f_X0_takeBack B m x = (B 3 m - x, (f_X0_takeBack B m x).2) ∧ (f_X0_takeBack B m x).2 3 m = B 3 m - x ∧ (∀ j, ¬ j = m → (f_X0_takeBack B m x).2 3 j = B 3 j) ∧ (f_X0_takeBack B m x).2 8 0 = B 8 0 + x := by
      unfold f_X0_takeBack
      rw [if_pos c]
      dsimp only
      refine ⟨?_, ?_, fun j hj => ?_, ?_⟩
      · rw [uB_row _ _ _ (by decide), uB_self, uB_row _ _ _ (by decide)]
      · rw [uB_row _ _ _ (by decide), uB_self, uB_row _ _ _ (by decide)]
      · rw [uB_row _ _ _ (by decide), uB_ne _ _ (fun e => hj e.2), uB_row _ _ _ (by decide)]
      · rw [uB_row _ _ _ (by decide), uB_row _ _ _ (by decide), uB_self]
    obtain ⟨t1, t2, t3, t4⟩ := hT
    have t1' : (f_X0_takeBack B m x).1 = B 3 m - x := by rw [t1]
    rw [t1', if_neg hz, if_pos c]
    refine ⟨rfl, fun _ => rfl, fun _ => ?_, fun _ => t4, fun _ => t2⟩
    exact Eq.trans (zar_ud (B := B) (d := -x) hm t3 (by rw [t2, Int32.sub_eq_add_neg])) (by rw [Int32.sub_eq_add_neg])
  · have hT : (f_X0_takeBack B m x).1 = -1 := by
      unfold f_X0_takeBack
      rw [if_neg c]
    rw [hT, if_neg c]
    exact ⟨rfl, fun q => absurd rfl q, fun q => absurd rfl q, fun q => absurd rfl q, fun q => absurd rfl q⟩
theorem zand63 (x : Int32) : 0 ≤ (x &&& 63).toInt ∧ (x &&& 63).toInt ≤ 63 := by
  have h : ∃ w : Nat, w < 64 ∧ x &&& 63 = nI w := by
    refine ⟨(x &&& 63).toBitVec.toNat, ?_, ?_⟩
    · have e : (x &&& 63).toBitVec.toNat = x.toBitVec.toNat &&& 63 := by
        rw [Int32.toBitVec_and, BitVec.toNat_and]
        rfl
      rw [e]
      exact Nat.lt_of_le_of_lt Nat.and_le_right (by omega)
    · apply Int32.toBitVec_inj.mp
      show _ = BitVec.ofNat 32 _
      rw [BitVec.ofNat_toNat, BitVec.setWidth_eq]
  obtain ⟨w, hw, e⟩ := h
  rw [e, nI_toInt (by omega)]
  omega
theorem zstv_0 {v : Int32} (h : 0 ≤ v.toInt ∧ v.toInt ≤ 100) : zstv 0 v := ⟨fun _ => zrgI (a := 0) (b := 100) (by omega) (by omega) (by omega) (by omega), fun q => absurd rfl q⟩
theorem zstv_1 {v : Int32} (h : 1 ≤ v.toInt ∧ v.toInt ≤ 5) : zstv 1 v := ⟨fun q => absurd q (by decide), fun _ => zrgI (a := 1) (b := 5) (by omega) (by omega) (by omega) (by omega)⟩
/-- can nine days pass -/
def zcan (B : BK) : Nat → Int32 := f_L_acts_911 (fun _ _ => 0) B (fun _ => B) 0 0 1
theorem z911 (N : NK) (B : BK) (Bs : Nat → BK) (xx yy : Int32) : ∀ k, f_L_acts_911 N B Bs xx yy 1 k = zcan B k := by
  intro k
  induction k with
  | zero => rfl
  | succ k ih =>
    unfold zcan
    unfold f_L_acts_911
    dsimp only
    rw [ih]
    rfl
theorem zcan_ok {K : Int} (hI : zI K B) (hK : K ≤ 2 ^ 24) : ∀ k, k ≤ 6 → ¬ zcan B k = 0 → ∀ i, i < k → zok B 9 i := by
  intro k
  induction k with
  | zero => intro _ _ i hi; omega
  | succ k ih =>
    intro hk h i hi
    have e : zcan B (k + 1) = if zcan B k = 0 then (0 : Int32) else if 100000000 < ((f_X2_memberOf B (nI k) 5) + (9 * (f_X2_memberOf B (nI k) 0))) then (0 : Int32) else 1 := rfl
    rw [e, (zmo B (n := k) (by omega)).1, (zmo B (n := k) (by omega)).2.2.2.2.2.1] at h
    by_cases c : zcan B k = 0
    · rw [if_pos c] at h
      exact absurd rfl h
    · rw [if_neg c] at h
      by_cases q : i = k
      · subst q
        by_cases c2 : 100000000 < B 1 i + 9 * B 0 i
        · rw [if_pos c2] at h
          exact absurd rfl h
        · rw [Int32.lt_iff_toInt_lt] at c2
          have a1 := hI.1 i (by omega)
          have s0 := zsh_nn hI (i := i) (by omega)
          have s1 := zsh_le hI (i := i) (by omega)
          have e0 : (B 0 i).toInt = zv B 0 i := rfl
          have e1 : (B 1 i).toInt = zv B 1 i := rfl
          have e9 : (9 : Int32).toInt = 9 := by decide
          have e8 : (100000000 : Int32).toInt = 100000000 := by decide
          have m : (9 * B 0 i).toInt = 9 * zv B 0 i := by rw [Jvm.Kit.i32_mul (by rw [e9]; omega) (by rw [e9]; omega), e9, e0]
          rw [Jvm.Kit.i32_add (by omega) (by omega), m, e1, e8] at c2
          unfold zok
          have f0 : (B 0 i).toInt64.toInt = zv B 0 i := Int32.toInt_toInt64 _
          have f1 : (B 1 i).toInt64.toInt = zv B 1 i := Int32.toInt_toInt64 _
          have f9 : (9 : Int32).toInt64.toInt = 9 := by decide
          have f8 : (100000000 : Int64).toInt = 100000000 := by decide
          have fm : ((B 0 i).toInt64 * (9 : Int32).toInt64).toInt = zv B 0 i * 9 := by rw [Jvm.Kit.i64_mul (by rw [f9]; omega) (by rw [f9]; omega), f0, f9]
          rw [Int64.le_iff_toInt_le, f8, Jvm.Kit.i64_add (by omega) (by omega), f1, fm]
          omega
      · exact ih (by omega) c i (by omega)
theorem zcan_days {n : Int} (h : zQ n B) (hn : n ≤ 100) (hc : ¬ zcan B 6 = 0) : ¬ f_X0_canAddDays B 9 = 0 := by
  obtain ⟨hn0, hI, hR⟩ := h
  have h8 := hR.2.2.2.2.2.2.2
  have ok := zcan_ok hI (by omega) 6 (by omega) hc
  have e5 : (B 8 5).toInt = zv B 8 5 := rfl
  have e9 : (9 : Int32).toInt = 9 := by decide
  have e99 : (9999 : Int32).toInt = 9999 := by decide
  unfold f_X0_canAddDays
  rw [if_pos (show B 8 5 + 9 ≤ 9999 from by rw [Int32.le_iff_toInt_le, Jvm.Kit.i32_add (by omega) (by omega), e5, e9, e99]; omega)]
  rcases zcad16 B 9 8 0 (by omega) with ⟨q, _⟩ | ⟨_, i, _, hi, q⟩
  · rw [q]
    decide
  · exact absurd (ok i hi) q
theorem zf_905 {n : Int} {xx y : Int32} (h : zQ n B) (hn : n ≤ 100) : zF_acts_905 N B Bs xx y := by
  have hs0 := h.2.1.2.2.2.2.2.1
  have e7 : (B 7 0).toInt = zv B 7 0 := rfl
  have h63 := zand63 y
  unfold zF_acts_905
  simp only [z911, zx_set0, zx_pass, (zct N B).2.2.2.2.2.2.2.2.1, (zct (f_X2_saveState N B Bs).1 _).2.2.2.2.2.2.2.2.1]
  have e : ∀ C : BK, C 8 = B 8 → (uB C 8 5 (C 8 5 + 9)) 8 5 = B 8 5 + 9 := fun C hC => by rw [uB_self, hC]
  have e8 := (zR_add2 h.2.2 9 6).2
  refine ⟨fun _ => zstv_0 (by omega), fun _ => ?_, fun q => zcan_days h hn q, fun _ => e _ e8, fun _ => e _ e8⟩
  rw [Int32.lt_iff_toInt_lt, Int32.toInt_zero]
  omega
theorem zsv7 (hpm : zpm N) (hsv : N 0 0 ≤ 6) : (f_X2_saveState N B Bs).2 7 = Bs 7 := by
  unfold f_X2_saveState
  by_cases c : N 0 0 < 6
  · rw [if_pos c]
    dsimp only
    have := hpm (N 0 0) c
    rw [if_neg (by omega)]
  · rw [if_neg c]
    dsimp only
    have hd := zpm_drop hpm
    have := hd 5 (by omega)
    rw [show (f_X2_dropOldest N) 0 0 = 5 from rfl, if_neg (by omega)]
theorem zf_1031 {n : Int} {y : Int32} (h : zQ n B) (hn : n ≤ 100) (hX : ¬ X 0 0 = 0) : zF_acts_1031 X N B Bs y := by
  have hs0 := h.2.1.2.2.2.2.2.1
  have hs1 := h.2.2.2.2.2.2.1
  have e70 : (B 7 0).toInt = zv B 7 0 := rfl
  have e71 : (B 7 1).toInt = zv B 7 1 := rfl
  have u1 := zu_lt ((y : Int32) >>> (2 &&& 31)) (n := 101) (by decide) (by decide)
  have u2 := zu_lt ((y : Int32) >>> (2 &&& 31)) (n := 5) (by decide) (by decide)
  unfold zF_acts_1031
  simp only [zx_set0, zx_set1]
  refine ⟨fun _ _ => zstv_0 ?_, fun _ _ => ?_, fun _ _ => zstv_1 ?_, fun _ _ => ?_, fun _ => hX, fun _ => rfl⟩
  · rw [nI_toInt (by omega)]
    omega
  · rw [Int32.lt_iff_toInt_lt, Int32.toInt_zero]
    omega
  · rw [nI_toInt (by omega)]
    omega
  · rw [Int32.le_iff_toInt_le, Int32.toInt_zero]
    omega
/-! a week -/
theorem zcanw {n : Int} (h : zQ n B) (hn : n ≤ 100) : ¬ f_X0_canEndWeek B = 0 := by
  have h7 := h.2.2.2.2.2.2.2.2.1
  have e4 : (B 8 4).toInt = zv B 8 4 := rfl
  have e9 : (9999 : Int32).toInt = 9999 := by decide
  unfold f_X0_canEndWeek
  rw [if_neg (by rw [Int32.le_iff_toInt_le]; omega)]
  decide
theorem zE_all {n : Int} (h : zQ n B) (hn : n ≤ 100) : ∃ C : BK, ((f_X0_endWeek B).2 8 4 = B 8 4 + 1 ∧ (f_X0_endWeek B).2 8 3 = B 8 3 + (f_X0_endWeek B).1 ∧ (∀ j, ¬ j = 3 → ¬ j = 4 → (f_X0_endWeek B).2 8 j = B 8 j)) ∧ (∀ k, ¬ k = 8 → (f_X0_endWeek B).2 k = C k) ∧ zWn B C 6 (f_X0_endWeek B).1 := by
  have hK : 20000 * n ≤ 2 ^ 29 := by omega
  have w := zWn_4 h.2.1 hK h.2.2.2.1 6 (by omega)
  refine ⟨(f_X0_endWeek_4 B 0 B 6).2, ?_, ?_, ?_⟩
  · have i5 := w.2.2.2.2.1
    unfold f_X0_endWeek
    dsimp only
    generalize f_X0_endWeek_4 B 0 B 6 = W at *
    refine ⟨?_, ?_, fun j q3 q4 => ?_⟩
    · rw [uB_ne _ _ (by decide), uB_self, i5]
    · rw [uB_self, uB_ne _ _ (by decide), i5]
    · rw [uB_ne _ _ (fun e => q3 e.2), uB_ne _ _ (fun e => q4 e.2), i5]
  · intro k hk
    unfold f_X0_endWeek
    dsimp only
    rw [uB_row _ _ _ hk, uB_row _ _ _ hk]
  · unfold f_X0_endWeek
    dsimp only
    exact w
theorem zF_end {n : Int} (h : zQ n B) (hn : n ≤ 100) : zF_ends N B Bs := by
  have hcw := zcanw h hn
  obtain ⟨C, ⟨e84, e83, e8⟩, eB, i1, i2, i3, i4, i5, i6, i7, i8, i9⟩ := zE_all h hn
  obtain ⟨hn0, hI, hR⟩ := h
  have hK : 20000 * n ≤ 2 ^ 29 := by omega
  have hK2 : 20000 * n ≤ 2 ^ 30 := by omega
  have hI2 := zI_endWeek hI hK hcw
  unfold zF_ends
  rw [zx_week]
  dsimp only
  generalize f_X0_endWeek B = R at *
  generalize (f_X2_saveState N B Bs).1 = N'
  have hsA : (f_X0_allShares B).toInt = zSH B := z_sharesI hI hK2
  have hrA : (f_X0_allRests B).toInt = zRS B := (z_restsI hI hK2).1
  have hsB : (f_X0_allShares R.2).toInt = zSH R.2 := z_sharesI hI2 hK2
  have hrB : (f_X0_allRests R.2).toInt = zRS R.2 := (z_restsI hI2 hK2).1
  have tA : zSH B ≤ 20000 * n ∧ 0 ≤ zSH B := zsh_tot hI
  have tB : zSH R.2 ≤ 20000 * n ∧ 0 ≤ zSH R.2 := zsh_tot hI2
  have rA : zRS B ≤ zSH B := z_rests_le hI
  have rB : zRS R.2 ≤ zSH R.2 := z_rests_le hI2
  have nA : 0 ≤ zRS B := (z_restsI hI hK2).2
  have nB : 0 ≤ zRS R.2 := (z_restsI hI2 hK2).2
  have hSB : zSH R.2 = zSH C := zS_congr (fun j _ => by unfold zv; rw [eB 0 (by decide)])
  have hRB : zRS R.2 = zRS C := zS_congr (fun j _ => by unfold zv; rw [eB 3 (by decide)])
  have e75 : f_X2_setting R.2 1 = R.2 7 1 := rfl
  obtain ⟨t0, t1, t2, t3, -, -, t6, t7, -⟩ := zct N B
  obtain ⟨u0, u1, u2, u3, -, -, u6, u7, -⟩ := zct N' R.2
  rw [t0, t1, t2, t3, t6, t7, u0, u1, u2, u3, u6, u7, e75]
  have key : ∀ k, k < 6 → ¬ R.2 3 k = 0 → R.2 5 k = 0 ∧ ¬ R.2 7 1 ≤ R.2 6 k := fun k hk q => by
    rw [eB 3 (by decide)] at q
    rw [eB 5 (by decide), eB 6 (by decide), eB 7 (by decide)]
    rcases i9 k hk with z | z
    · exact absurd (zi0.mpr z) q
    · exact z
  have hl : ∀ k, k < 6 → ¬ R.2 3 k = 0 → ¬ f_X0_hasLoan R.2 k = 0 := fun k hk q => by
    refine zhl1 (fun z => q ?_)
    rw [zi0]
    rw [Int32.le_iff_toInt_le, Int32.toInt_zero] at z
    have := (hI2.2.2.1 k hk).1
    have e : (R.2 3 k).toInt = zv R.2 3 k := rfl
    omega
  refine ⟨hcw, e84, e8 0 (by decide) (by decide), e8 1 (by decide) (by decide), ?_, e83, fun q => ?_, fun k hk q => ?_, fun k hk q => ?_⟩
  · apply Int32.toInt_inj.mp
    rw [Jvm.Kit.i32_sub (by omega) (by omega), Jvm.Kit.i32_sub (by omega) (by omega), hsA, hrA, hsB, hrB]
    omega
  · apply Int32.toInt_inj.mp
    rw [hrA, hrB, hRB]
    rw [Int32.lt_iff_toInt_lt, Int32.toInt_zero] at q
    exact i8 (by omega)
  · rw [(zmo _ hk).2.2.2.2.2.2.1] at q
    rw [(zmo _ hk).2.2.2.2.2.2.2.2.1, if_neg (hl k hk q)]
    exact (key k hk q).1
  · rw [(zmo _ hk).2.2.2.2.2.2.1] at q
    rw [(zmo _ hk).2.2.2.2.2.2.2.2.2, if_neg (hl k hk q)]
    exact (key k hk q).2
end ZDG
