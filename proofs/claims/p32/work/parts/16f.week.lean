/-! dividends and weeks -/
section ZRC
theorem zS_add (f g : Nat → Int) : ∀ n, zS (fun i => f i + g i) n = zS f n + zS g n
  | 0 => rfl
  | n + 1 => by
    have := zS_add f g n
    show zS (fun i => f i + g i) n + (f n + g n) = zS f n + f n + (zS g n + g n)
    omega
def zg (B : BK) (i : Nat) : Int := zv B 8 1 * zv B 1 i / zS (zv B 1) 6
theorem zSh_v0 {K : Int} {B : BK} (hI : zI K B) (hK : K ≤ 2 ^ 29) (ha : 1 ≤ f_X0_allShareDays B) {i : Nat} (hi : i < 6) : zv (zSh B 6 6) 0 i = zv B 0 i + zg B i := by
  obtain ⟨q1, q2, q3, q4⟩ := z_dvI hI hK hi ha
  have s0 := zsh_nn hI hi
  have s1 := zsh_le hI hi
  have htt := zsh_tot hI
  have h8 := hI.2.2.2.2.2.2.2
  have e4 : (B 0 i).toInt = zv B 0 i := rfl
  have e : (zSh B 6 6) 0 i = B 0 i + f_X0_dividendOf B i (f_X0_allShareDays B) := by
    unfold zSh
    rw [if_pos rfl, if_pos hi]
  show ((zSh B 6 6) 0 i).toInt = _
  rw [e, Jvm.Kit.i32_add (by omega) (by omega), q1, e4]
  rfl
theorem zg_bd {K : Int} {B : BK} (hI : zI K B) (hK : K ≤ 2 ^ 29) (ha : 1 ≤ f_X0_allShareDays B) {i : Nat} (hi : i < 6) : 0 ≤ zg B i ∧ zg B i ≤ zG B 6 := by
  have q := z_dvI hI hK hi ha
  refine ⟨q.2.1, ?_⟩
  exact zS_one (f := zg B) (n := 6) (j := i) (fun j hj => (z_dvI hI hK hj ha).2.1) hi
theorem zSh_SH {K : Int} {B : BK} (hI : zI K B) (hK : K ≤ 2 ^ 29) (ha : 1 ≤ f_X0_allShareDays B) : zSH (zSh B 6 6) = zSH B + zG B 6 := by
  unfold zSH
  rw [zS_congr (f := zv (zSh B 6 6) 0) (g := fun i => zv B 0 i + zg B i) (fun i hi => zSh_v0 hI hK ha hi), zS_add]
  rfl
theorem zR_shareOut {n K : Int} {B : BK} (h : zR n B) (hI : zI K B) (hK : K ≤ 2 ^ 29) : zR n (f_X0_shareOut B).2 := by
  unfold f_X0_shareOut
  dsimp only
  by_cases c : 1 ≤ f_X0_allShareDays B
  · rw [if_pos c, zso28]
    dsimp only
    obtain ⟨q1, q2, q3, q4⟩ := z_dvI hI hK (i := 0) (by omega) c
    have g0 := zG_le hI q4 (n := 6) (by omega)
    have e1 := zdvI hI hK c 6 (by omega)
    have e8 : ∀ j, (zSh B 6 6) 8 j = B 8 j := fun j => by rw [zSh_r8 B (by omega)]
    have er : ∀ k, 1 < k → (zSh B 6 6) k = B k := fun k hk => zSh_r8 B hk
    have eS := zSh_SH hI hK c
    have e0 : ∀ i, i < 6 → zv (zSh B 6 6) 0 i = zv B 0 i + zg B i := fun i hi => zSh_v0 hI hK c hi
    have eb : ∀ i, i < 6 → 0 ≤ zg B i ∧ zg B i ≤ zG B 6 := fun i hi => zg_bd hI hK c hi
    have e4 : (B 8 1).toInt = zv B 8 1 := rfl
    have ht := z_till h hI
    rw [e8 1]
    have y1 : (B 8 1 - zdv B 6).toInt = zv B 8 1 - zG B 6 := by rw [Jvm.Kit.i32_sub (by omega) (by omega), e4, e1]
    refine zR.skip ?_ _ (by decide) (by decide) (by decide) (by omega) (by omega)
    generalize zSh B 6 6 = C at *
    generalize B 8 1 - zdv B 6 = y at y1 ⊢
    obtain ⟨a1, a2, a3, a4, a5, a6, a7, a8⟩ := h
    have v : ∀ k j, 1 < k → zv C k j = zv B k j := fun k j hk => by
      unfold zv
      rw [er k hk]
    have r3 : zRS C = zRS B := zS_congr (fun j _ => v 3 j (by omega))
    have l3 : zLn C = zLn B := zS_congr (fun j _ => by rw [v 3 j (by omega)])
    have w8 : ∀ j, ¬ j = 1 → zv (uB C 8 1 y) 8 j = zv B 8 j := fun j hj => by rw [zv_ne _ _ (fun z => hj z.2), v 8 j (by omega)]
    unfold zR
    rw [zSH_ne _ _ _ (by decide), zRS_ne _ _ _ (by decide), zLn_ne _ _ _ (by decide), zv_self, w8 0 (by omega), w8 2 (by omega), w8 3 (by omega), w8 4 (by omega), w8 5 (by omega), zv_row C (k' := 7) _ _ y (by decide), v 7 1 (by omega), eS, r3, l3]
    refine ⟨by omega, fun j hj => ?_, fun j hj => ?_, by omega, a5, a6, a7, a8⟩
    · rw [zv_row C _ _ y (by decide), v 2 _ (by omega)]
      exact a2 j hj
    · rw [zv_row C _ _ y (by decide), e0 j hj]
      have := a3 j hj
      have := eb j hj
      omega
  · rw [if_neg c]
    exact h.ref _
/-! a loan falls due -/
theorem zd_34 {K : Int} {B0 : BK} {mb : Nat} (hK : K ≤ 2 ^ 29) (hm : mb < 6) {due : Int32} {M : BK} (hI : zI K (uB M 3 mb 0)) (hd : 0 ≤ due.toInt) (hg : ∀ j, j < 6 → zv M 2 (j * 6 + j) = 0) : ∀ n, n ≤ 6 →
    (f_X0_takeDue_34 B0 mb due M n).1.toInt = max 0 (due.toInt - zS (fun i => zv M 2 (i * 6 + mb)) n) ∧
    zSH (f_X0_takeDue_34 B0 mb due M n).2 + due.toInt = zSH M + (f_X0_takeDue_34 B0 mb due M n).1.toInt ∧
    (∀ j, j < 6 → zv (f_X0_takeDue_34 B0 mb due M n).2 0 j ≤ zv M 0 j) ∧
    (∀ j, n ≤ j → j < 6 → zv (f_X0_takeDue_34 B0 mb due M n).2 2 (j * 6 + mb) = zv M 2 (j * 6 + mb)) ∧
    (∀ j, j < 6 → zv (f_X0_takeDue_34 B0 mb due M n).2 2 (j * 6 + j) = 0) ∧
    (∀ k, ¬ k = 0 → ¬ k = 2 → (f_X0_takeDue_34 B0 mb due M n).2 k = M k) := by
  intro n
  induction n with
  | zero =>
    intro _
    refine ⟨?_, rfl, fun j _ => Int.le_refl _, fun j _ _ => rfl, hg, fun k _ _ => rfl⟩
    show due.toInt = max 0 (due.toInt - 0)
    omega
  | succ n ih =>
    intro hn
    obtain ⟨i1, i2, i3, i4, i5, i6⟩ := ih (by omega)
    obtain ⟨z1, z2⟩ := zI_due34 (B0 := B0) hK hm hI hd n (by omega)
    unfold f_X0_takeDue_34
    dsimp only
    generalize (f_X0_takeDue_34 B0 mb due M n).1 = d at *
    generalize (f_X0_takeDue_34 B0 mb due M n).2 = C at *
    have hp : zv (uB C 3 mb 0) 2 (n * 6 + mb) = zv C 2 (n * 6 + mb) := zv_row _ _ _ _ (by decide)
    have hs : zv (uB C 3 mb 0) 0 n = zv C 0 n := zv_row _ _ _ _ (by decide)
    have p0 := z1.2.1 (n * 6 + mb) (by omega)
    have p1 := zbI_one z1 (i := n) (j := mb) (by omega) hm
    have p2 := z1.2.2.2.1 n (by omega)
    have p3 := zsh_le z1 (i := n) (by omega)
    rw [hp] at p0 p1
    rw [hs] at p2 p3
    have q4 := i4 n (Nat.le_refl n) (by omega)
    have ep : (C 2 (n * 6 + mb)).toInt = zv C 2 (n * 6 + mb) := rfl
    have es : (C 0 n).toInt = zv C 0 n := rfl
    have ez := z_zmin d (C 2 (n * 6 + mb))
    have hd2 := d.toInt_lt
    rw [uB_row C n _ (by decide : ¬ 2 = 0)]
    have eS : zS (fun i => zv M 2 (i * 6 + mb)) (n + 1) = zS (fun i => zv M 2 (i * 6 + mb)) n + zv M 2 (n * 6 + mb) := rfl
    rw [eS]
    generalize zmin d (C 2 (n * 6 + mb)) = t at *
    have x0 : (C 0 n - t).toInt = zv C 0 n - t.toInt := by rw [Jvm.Kit.i32_sub (by omega) (by omega), es]
    have x2 : (C 2 (n * 6 + mb) - t).toInt = zv C 2 (n * 6 + mb) - t.toInt := by rw [Jvm.Kit.i32_sub (by omega) (by omega), ep]
    have xd : (d - t).toInt = d.toInt - t.toInt := Jvm.Kit.i32_sub (by omega) (by omega)
    generalize C 0 n - t = u at x0 ⊢
    generalize C 2 (n * 6 + mb) - t = w at x2 ⊢
    refine ⟨?_, ?_, fun j hj => ?_, fun j h1 h2 => ?_, fun j hj => ?_, fun k h0 h2 => ?_⟩
    · rw [xd]
      omega
    · rw [zSH_ne _ _ _ (by decide), zSH_0 C u (by omega), xd]
      omega
    · rw [zv_row _ _ _ _ (by decide)]
      have := i3 j hj
      by_cases c : j = n
      · subst c
        rw [zv_self]
        omega
      · rw [zv_ne _ _ (fun e => c e.2)]
        exact this
    · rw [zv_ne _ _ (by omega), zv_row _ _ _ _ (by decide)]
      exact i4 j (by omega) h2
    · have g5 := i5 j hj
      by_cases c : j * 6 + j = n * 6 + mb
      · rw [c] at g5 ⊢
        rw [zv_self]
        omega
      · rw [zv_ne _ _ (fun e => c e.2), zv_row _ _ _ _ (by decide)]
        exact g5
    · rw [uB_row _ _ _ h2, uB_row _ _ _ h0]
      exact i6 k h0 h2
theorem zd_due {K : Int} {B : BK} (hI : zI K B) (hK : K ≤ 2 ^ 29) {mb : Nat} (hm : mb < 6) (hg : ∀ j, j < 6 → zv B 2 (j * 6 + j) = 0) :
    zSH (f_X0_takeDue B mb) = zSH B - zv B 3 mb ∧ zRS (f_X0_takeDue B mb) = zRS B - zv B 3 mb ∧ zLn (f_X0_takeDue B mb) = zLn B - zind (zv B 3 mb) ∧
    (∀ j, j < 6 → zv (f_X0_takeDue B mb) 0 j ≤ zv B 0 j) ∧ (∀ j, j < 6 → zv (f_X0_takeDue B mb) 2 (j * 6 + j) = 0) ∧
    (∀ k, ¬ k = 0 → ¬ k = 2 → ¬ k = 3 → (f_X0_takeDue B mb) k = B k) ∧ (f_X0_takeDue B mb) 3 mb = 0 ∧ ∀ j, ¬ j = mb → (f_X0_takeDue B mb) 3 j = B 3 j := by
  have b3 := hI.2.2.1 mb hm
  have b1 := hI.2.2.2.1 mb hm
  have b5 := hI.2.2.2.2.1 mb hm
  have hs := zsh_le hI hm
  have hs0 := zsh_nn hI hm
  have hb0 := zbI_nn hI hm
  have hf0 := zfI_nn hI hm
  have eo := z_ownI hI (by omega) hm
  have ez := z_zmin (B 3 mb) (f_X0_ownLeft B mb)
  have e3 : (B 3 mb).toInt = zv B 3 mb := rfl
  have e4 : (B 0 mb).toInt = zv B 0 mb := rfl
  unfold f_X0_takeDue
  dsimp only
  generalize zmin (B 3 mb) (f_X0_ownLeft B mb) = own at *
  have x0 : (B 0 mb - own).toInt = zv B 0 mb + -own.toInt := by
    rw [Jvm.Kit.i32_sub (by omega) (by omega), e4]
    omega
  have xd : (B 3 mb - own).toInt = zv B 3 mb - own.toInt := by rw [Jvm.Kit.i32_sub (by omega) (by omega), e3]
  have g0 : zI K (uB B 3 mb 0) := zI_set3 hI (by rw [Int32.toInt_zero]; omega) (by rw [Int32.toInt_zero]; omega) (by rw [Int32.toInt_zero]; omega) (fun q => by rw [Int32.toInt_zero] at q; omega)
  have k0 : zv (uB B 3 mb 0) 0 mb = zv B 0 mb := zv_row _ _ _ _ (by decide)
  have k1 : zbI (uB B 3 mb 0) mb = zbI B mb := zbI_row _ _ _ _ (by decide)
  have k2 : zfI (uB B 3 mb 0) mb = zfI B mb := zfI_row _ _ _ _ (by decide)
  have k3 : zv (uB B 3 mb 0) 3 mb = 0 := by rw [zv_self]; exact Int32.toInt_zero
  have g1 : zI K (uB (uB B 0 mb (B 0 mb - own)) 3 mb 0) := by
    rw [uB_comm B (k := 0) (k' := 3) _ _ _ _ (by decide)]
    refine zI_set0 g0 hm (-own.toInt) ?_ ?_ ?_ (by omega)
    · rw [k0, x0]
    · omega
    · omega
  have hg1 : ∀ j, j < 6 → zv (uB B 0 mb (B 0 mb - own)) 2 (j * 6 + j) = 0 := fun j hj => by
    rw [zv_row _ _ _ _ (by decide)]
    exact hg j hj
  obtain ⟨d1, d2, d3, d4, d5, d6⟩ := zd_34 (B0 := B) hK hm g1 (due := B 3 mb - own) (by omega) hg1 6 (by omega)
  have hf : zS (fun i => zv (uB B 0 mb (B 0 mb - own)) 2 (i * 6 + mb)) 6 = zfI B mb := zS_congr (fun j _ => zv_row _ _ _ _ (by decide))
  have hS := zSH_0 B (i := mb) (B 0 mb - own) hm
  have h3 : ∀ j, zv (f_X0_takeDue_34 B mb (B 3 mb - own) (uB B 0 mb (B 0 mb - own)) 6).2 3 j = zv B 3 j := fun j => by
    unfold zv
    rw [d6 3 (by decide) (by decide), uB_row _ _ _ (by decide)]
  have e0 : ∀ j, j < 6 → zv (uB B 0 mb (B 0 mb - own)) 0 j ≤ zv B 0 j := fun j hj => by
    by_cases c : j = mb
    · subst c
      rw [zv_self]
      omega
    · rw [zv_ne _ _ (fun e => c e.2)]
      exact Int.le_refl _
  have d6' : ∀ k, ¬ k = 0 → ¬ k = 2 → (f_X0_takeDue_34 B mb (B 3 mb - own) (uB B 0 mb (B 0 mb - own)) 6).2 k = B k := fun k q0 q2 => by rw [d6 k q0 q2, uB_row _ _ _ q0]
  rw [hf] at d1
  rw [hS] at d2
  generalize (f_X0_takeDue_34 B mb (B 3 mb - own) (uB B 0 mb (B 0 mb - own)) 6).1 = d at *
  generalize (f_X0_takeDue_34 B mb (B 3 mb - own) (uB B 0 mb (B 0 mb - own)) 6).2 = C at *
  have r3 : zRS C = zRS B := zS_congr (fun j _ => h3 j)
  have l3 : zLn C = zLn B := zS_congr (fun j _ => by rw [h3 j])
  refine ⟨?_, ?_, ?_, fun j hj => ?_, fun j hj => ?_, fun k q0 q2 q3 => ?_, uB_self _ _ _ _, fun j hj => ?_⟩
  · rw [zSH_ne _ _ _ (by decide)]
    omega
  · rw [zRS_3 _ _ hm, h3 mb, r3, Int32.toInt_zero]
    omega
  · rw [zLn_3 _ _ hm, h3 mb, l3, Int32.toInt_zero, zind_0 (x := 0) (by omega)]
    omega
  · rw [zv_row _ _ _ _ (by decide)]
    exact Int.le_trans (d3 j hj) (e0 j hj)
  · rw [zv_row _ _ _ _ (by decide)]
    exact d5 j hj
  · rw [uB_row _ _ _ q3]
    exact d6' k q0 q2
  · rw [uB_ne _ _ (fun e => hj e.2), d6' 3 (by decide) (by decide)]
end ZRC
