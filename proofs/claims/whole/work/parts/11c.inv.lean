/-! the deeds keep the books' bounds -/
section ZJ3
def zam (am : Int32) : Prop := 1 ≤ am.toInt ∧ am.toInt ≤ 9999
theorem zI_takeIn {K : Int} {B : BK} (h : zI K B) (hK : K ≤ 2 ^ 29) {mb : Nat} (hm : mb < 6) {am : Int32} (ha : zam am) : zI (K + 10000) (f_X0_takeIn B mb am).2 := by
  obtain ⟨ha1, ha2⟩ := ha
  have hs := zsh_le h hm
  have hs0 := zsh_nn h hm
  have e4 : (B 0 mb).toInt = zv B 0 mb := rfl
  unfold f_X0_takeIn
  by_cases c : B 0 mb + am ≤ 90000
  · rw [if_pos c]
    dsimp only
    have e : (B 0 mb + am).toInt = zv B 0 mb + am.toInt := by
      rw [Jvm.Kit.i32_add (by omega) (by omega), e4]
    have b1 := h.2.2.2.1 mb hm
    have b2 := h.2.2.2.2.1 mb hm
    exact zI_up (zI_set0 h hm am.toInt e (by omega) (by omega) (by omega)) (by omega) (by omega) (by omega) (by omega)
  · rw [if_neg c]
    exact zI_up (h.mono (by omega)) (by omega) (by omega) (by omega) (by omega)
theorem zI_giveOut {K : Int} {B : BK} (h : zI K B) (hK : K ≤ 2 ^ 29) {mb : Nat} (hm : mb < 6) {am : Int32} (ha : zam am) : zI K (f_X0_giveOut B mb am).2 := by
  obtain ⟨ha1, ha2⟩ := ha
  have hs := zsh_le h hm
  have hs0 := zsh_nn h hm
  have hb0 := zbI_nn h hm
  have e4 : (B 0 mb).toInt = zv B 0 mb := rfl
  unfold f_X0_giveOut
  by_cases c : am ≤ f_X0_freeShares B mb
  · rw [if_pos c]
    by_cases c2 : am ≤ B 8 0
    · rw [if_pos c2]
      dsimp only
      rw [Int32.le_iff_toInt_le, z_freeI h hK hm] at c
      have e : (B 0 mb - am).toInt = zv B 0 mb + -am.toInt := by
        rw [Jvm.Kit.i32_sub (by omega) (by omega), e4]
        omega
      exact zI_up (zI_set0 h hm (-am.toInt) e (by omega) (by omega) (by omega)) (by omega) (by omega) (by omega) (by omega)
    · rw [if_neg c2]
      exact zI_up h (by omega) (by omega) (by omega) (by omega)
  · rw [if_neg c]
    exact zI_up h (by omega) (by omega) (by omega) (by omega)
theorem zI_addPledge {K : Int} {B : BK} (h : zI K B) (hK : K ≤ 2 ^ 29) {mb br : Nat} (hm : mb < 6) (hb : br < 6) {am : Int32} (ha : zam am) : zI K (f_X0_addPledge B mb br am).2 := by
  obtain ⟨ha1, ha2⟩ := ha
  have hs := zsh_le h hm
  have hp := zbI_one h hm hb
  have hp0 := h.2.1 (mb * 6 + br) (by omega)
  have b1 := h.2.2.2.1 mb hm
  have b2 := h.2.2.2.2.1 br hb
  have e4 : (B 2 (mb * 6 + br)).toInt = zv B 2 (mb * 6 + br) := rfl
  unfold f_X0_addPledge
  by_cases c : am ≤ f_X0_freeShares B mb
  · rw [if_pos c]
    dsimp only
    rw [Int32.le_iff_toInt_le, z_freeI h hK hm] at c
    have e : (B 2 (mb * 6 + br) + am).toInt = zv B 2 (mb * 6 + br) + am.toInt := by
      rw [Jvm.Kit.i32_add (by omega) (by omega), e4]
    exact zI_set2 h hm hb am.toInt e (by omega) (by omega) (by omega) (by omega)
  · rw [if_neg c]
    exact zI_up h (by omega) (by omega) (by omega) (by omega)
theorem zI_dropPledge {K : Int} {B : BK} (h : zI K B) (hK : K ≤ 2 ^ 29) {mb br : Nat} (hm : mb < 6) (hb : br < 6) {am : Int32} (ha : zam am) : zI K (f_X0_dropPledge B mb br am).2 := by
  obtain ⟨ha1, ha2⟩ := ha
  have hs := zsh_le h hm
  have hp := zbI_one h hm hb
  have hp0 := h.2.1 (mb * 6 + br) (by omega)
  have b1 := h.2.2.2.1 mb hm
  have b2 := h.2.2.2.2.1 mb hm
  have b3 := h.2.2.2.2.1 br hb
  have b4 := h.2.2.1 br hb
  have q1 := zsh_le h hb
  have q2 := zbI_nn h hb
  have q3 := zfI_le h hb
  have e4 : (B 2 (mb * 6 + br)).toInt = zv B 2 (mb * 6 + br) := rfl
  have e5 : (B 3 br).toInt = zv B 3 br := rfl
  have e6 := z_coverI h hK hb
  unfold f_X0_dropPledge
  by_cases c : am ≤ B 2 (mb * 6 + br)
  · rw [if_pos c]
    by_cases c2 : B 3 br ≤ f_X0_cover B br - am
    · rw [if_pos c2]
      dsimp only
      rw [Int32.le_iff_toInt_le] at c
      rw [Int32.le_iff_toInt_le, Jvm.Kit.i32_sub (by omega) (by omega)] at c2
      have e : (B 2 (mb * 6 + br) - am).toInt = zv B 2 (mb * 6 + br) + -am.toInt := by
        rw [Jvm.Kit.i32_sub (by omega) (by omega), e4]
        omega
      exact zI_set2 h hm hb (-am.toInt) e (by omega) (by omega) (by omega) (by omega)
    · rw [if_neg c2]
      exact zI_up h (by omega) (by omega) (by omega) (by omega)
  · rw [if_neg c]
    exact zI_up h (by omega) (by omega) (by omega) (by omega)
/-- the fee -/
theorem z_feeI {K : Int} {B : BK} (h : zI K B) {am : Int32} (ha : zam am) : (f_X0_feeOf B am).toInt = am.toInt * zv B 7 0 / 1000 ∧ 0 ≤ am.toInt * zv B 7 0 ∧ am.toInt * zv B 7 0 ≤ 999900 := by
  obtain ⟨ha1, ha2⟩ := ha
  obtain ⟨r0, r1⟩ := h.2.2.2.2.2.1
  have m0 : 0 ≤ am.toInt * zv B 7 0 := Int.mul_nonneg (by omega) r0
  have m1 : am.toInt * zv B 7 0 ≤ 9999 * 100 := Int.mul_le_mul ha2 r1 r0 (by omega)
  have e4 : (B 7 0).toInt = zv B 7 0 := rfl
  have e : (am * B 7 0).toInt = am.toInt * zv B 7 0 := by
    rw [Jvm.Kit.i32_mul (by rw [e4]; omega) (by rw [e4]; omega), e4]
  have e3 : (1000 : Int32).toInt = 1000 := by decide
  refine ⟨?_, m0, by omega⟩
  unfold f_X0_feeOf
  rw [Jvm.Kit.i32_div (by rw [e3]; omega), e, e3, Int.tdiv_eq_ediv_of_nonneg m0]
theorem zw_cover {B : BK} {mb : Nat} {am : Int32} (h : f_X0_whyNoLoan B mb am = 0) : am ≤ f_X0_cover B mb := by
  unfold f_X0_whyNoLoan f_X0_whyAbove at h
  by_cases c : f_X0_hasLoan B mb = 0
  · rw [if_pos c] at h
    by_cases c2 : am ≤ f_X0_threefold B mb
    · rw [if_pos c2] at h
      by_cases c3 : am ≤ f_X0_cover B mb
      · exact c3
      · rw [if_neg c3] at h
        exact absurd h (by decide)
    · rw [if_neg c2] at h
      exact absurd h (by decide)
  · rw [if_neg c] at h
    exact absurd h (by decide)
theorem z_partI {am wk : Int32} (ha : zam am) (hw : 1 ≤ wk.toInt ∧ wk.toInt ≤ 52) : 1 ≤ ((am + wk - 1) / wk).toInt ∧ ((am + wk - 1) / wk).toInt ≤ 9999 := by
  obtain ⟨ha1, ha2⟩ := ha
  obtain ⟨hw1, hw2⟩ := hw
  have e1 : (1 : Int32).toInt = 1 := by decide
  have e : (am + wk - 1).toInt = am.toInt + wk.toInt - 1 := by
    have : (am + wk).toInt = am.toInt + wk.toInt := Jvm.Kit.i32_add (by omega) (by omega)
    rw [Jvm.Kit.i32_sub (by omega) (by omega), this, e1]
  rw [Jvm.Kit.i32_div (by omega), e, Int.tdiv_eq_ediv_of_nonneg (by omega)]
  generalize am.toInt = a at *
  generalize wk.toInt = w at *
  refine ⟨Int.le_ediv_of_mul_le (by omega) (by omega), ?_⟩
  have h2 : (a + w - 1) / w ≤ a := by
    refine Int.le_of_lt_add_one (Int.ediv_lt_of_lt_mul (by omega) ?_)
    have : (a + 1) * w = a * w + w := by rw [Int.add_mul, Int.one_mul]
    have : a * 1 ≤ a * w := Int.mul_le_mul_of_nonneg_left hw1 (by omega)
    omega
  omega
theorem zI_lend {K : Int} {B : BK} (h : zI K B) (hK : K ≤ 2 ^ 29) {mb : Nat} (hm : mb < 6) {am wk : Int32} (ha : zam am) (hw : 1 ≤ wk.toInt ∧ wk.toInt ≤ 52) : zI (K + 10000) (f_X0_lend B mb am wk).2 := by
  unfold f_X0_lend
  by_cases c : f_X0_whyNoLoan B mb am = 0
  · rw [if_pos c]
    dsimp only
    have hc := zw_cover c
    rw [Int32.le_iff_toInt_le, z_coverI h hK hm] at hc
    obtain ⟨f1, f2, f3⟩ := z_feeI h ha
    have hsu := h.2.2.2.2.2.2.1.2
    have htt := zsh_tot h
    have h8 := h.2.2.2.2.2.2.2
    generalize f_X0_feeOf B am = f at *
    have g1 : zI K (uB B 8 0 (B 8 0 - (am - f))) := zI_up h (by omega) (by omega) (by omega) (by omega)
    have e1 : (uB B 8 0 (B 8 0 - (am - f))) 8 1 = B 8 1 := uB_ne _ _ (by decide)
    rw [e1]
    have e4 : (B 8 1).toInt = zv B 8 1 := rfl
    have e5 : (B 8 1 + f).toInt = zv B 8 1 + f.toInt := by
      rw [Jvm.Kit.i32_add (by omega) (by omega), e4]
    have ez : zv (uB B 8 0 (B 8 0 - (am - f))) 8 1 = zv B 8 1 := zv_ne _ _ (by decide)
    have g2 : zI (K + 10000) (uB (uB B 8 0 (B 8 0 - (am - f))) 8 1 (B 8 1 + f)) := zI_sur g1 f.toInt (by rw [ez]; exact e5) (by rw [ez]; omega) (by omega)
    have k0 : zv (uB (uB B 8 0 (B 8 0 - (am - f))) 8 1 (B 8 1 + f)) 0 mb = zv B 0 mb := by rw [zv_row _ _ _ _ (by decide), zv_row _ _ _ _ (by decide)]
    have k1 : zbI (uB (uB B 8 0 (B 8 0 - (am - f))) 8 1 (B 8 1 + f)) mb = zbI B mb := by rw [zbI_row _ _ _ _ (by decide), zbI_row _ _ _ _ (by decide)]
    have k2 : zfI (uB (uB B 8 0 (B 8 0 - (am - f))) 8 1 (B 8 1 + f)) mb = zfI B mb := by rw [zfI_row _ _ _ _ (by decide), zfI_row _ _ _ _ (by decide)]
    generalize uB (uB B 8 0 (B 8 0 - (am - f))) 8 1 (B 8 1 + f) = B2 at *
    have g3 : zI (K + 10000) (uB (uB B2 3 mb am) 4 mb ((am + wk - 1) / wk)) := zI_set34 g2 (by have := ha.1; omega) ha.2 (by rw [k0, k1, k2]; exact hc) (fun _ => z_partI ha hw)
    generalize uB (uB B2 3 mb am) 4 mb ((am + wk - 1) / wk) = B3 at *
    exact zI_up (zI_up (zI_up g3 (by omega) (by omega) (by omega) (by omega)) (by omega) (by omega) (by omega) (by omega)) (by omega) (by omega) (by omega) (by omega)
  · rw [if_neg c]
    exact zI_up (h.mono (by omega)) (by omega) (by omega) (by omega) (by omega)
theorem zI_set3 {K : Int} {B : BK} (h : zI K B) {i : Nat} {x : Int32} (h0 : 0 ≤ x.toInt) (h1 : x.toInt ≤ 9999) (h2 : x.toInt ≤ zv B 0 i - zbI B i + zfI B i) (h3 : 0 < x.toInt → 1 ≤ zv B 4 i ∧ zv B 4 i ≤ 9999) : zI K (uB B 3 i x) := by
  have := zI_set34 h (y := B 4 i) h0 h1 h2 h3
  rw [show B 4 i = (uB B 3 i x) 4 i from (by rw [uB_row _ _ _ (by decide)]), uB_id] at this
  exact this
theorem zI_takeBack {K : Int} {B : BK} (h : zI K B) {mb : Nat} (hm : mb < 6) {am : Int32} (ha : zam am) : zI K (f_X0_takeBack B mb am).2 := by
  obtain ⟨ha1, ha2⟩ := ha
  unfold f_X0_takeBack
  by_cases c : am ≤ B 3 mb
  · rw [if_pos c]
    dsimp only
    rw [Int32.le_iff_toInt_le] at c
    have e4 : (B 3 mb).toInt = zv B 3 mb := rfl
    have b3 := h.2.2.1 mb hm
    have b5 := h.2.2.2.2.1 mb hm
    have g1 : zI K (uB B 8 0 (B 8 0 + am)) := zI_up h (by omega) (by omega) (by omega) (by omega)
    have k0 : zv (uB B 8 0 (B 8 0 + am)) 0 mb = zv B 0 mb := by rw [zv_row _ _ _ _ (by decide)]
    have k1 : zbI (uB B 8 0 (B 8 0 + am)) mb = zbI B mb := by rw [zbI_row _ _ _ _ (by decide)]
    have k2 : zfI (uB B 8 0 (B 8 0 + am)) mb = zfI B mb := by rw [zfI_row _ _ _ _ (by decide)]
    have k3 : zv (uB B 8 0 (B 8 0 + am)) 4 mb = zv B 4 mb := by rw [zv_row _ _ _ _ (by decide)]
    have k4 : (uB B 8 0 (B 8 0 + am)) 3 mb = B 3 mb := by rw [uB_row _ _ _ (by decide)]
    rw [k4]
    generalize uB B 8 0 (B 8 0 + am) = B2 at *
    have e : (B 3 mb - am).toInt = zv B 3 mb - am.toInt := by
      rw [Jvm.Kit.i32_sub (by omega) (by omega), e4]
    have g2 : zI K (uB B2 3 mb (B 3 mb - am)) := zI_set3 g1 (by omega) (by omega) (by omega) (fun q => by rw [k3]; exact b3.2.2 (by omega))
    exact zI_up g2 (by omega) (by omega) (by omega) (by omega)
  · rw [if_neg c]
    exact zI_up h (by omega) (by omega) (by omega) (by omega)
/-- something is taken from a pledge and from the shares behind it -/
theorem zI_take {K : Int} {B : BK} (h : zI K B) (hK : K ≤ 2 ^ 29) {n mb : Nat} (hn : n < 6) (hm : mb < 6) (hr : zv B 3 mb = 0) {t : Int32} (t0 : 0 ≤ t.toInt) (t1 : t.toInt ≤ zv B 2 (n * 6 + mb)) : zI K (uB (uB B 0 n (B 0 n - t)) 2 (n * 6 + mb) (B 2 (n * 6 + mb) - t)) := by
  have hs := zsh_le h hn
  have hs0 := zsh_nn h hn
  have hp := zbI_one h hn hm
  have hq := zfI_one h hm hn
  have b1 := h.2.2.2.1 n hn
  have b2 := h.2.2.2.2.1 n hn
  have b3 := h.2.2.2.1 mb hm
  have e4 : (B 0 n).toInt = zv B 0 n := rfl
  have e5 : (B 2 (n * 6 + mb)).toInt = zv B 2 (n * 6 + mb) := rfl
  have e1 : (B 2 (n * 6 + mb) - t).toInt = zv B 2 (n * 6 + mb) + -t.toInt := by
    rw [Jvm.Kit.i32_sub (by omega) (by omega), e5]
    omega
  have g1 : zI K (uB B 2 (n * 6 + mb) (B 2 (n * 6 + mb) - t)) := zI_set2 h hn hm (-t.toInt) e1 (by omega) (by omega) (by omega) (by omega)
  rw [uB_comm B (k := 0) (k' := 2) _ _ _ _ (by decide)]
  have k0 : zv (uB B 2 (n * 6 + mb) (B 2 (n * 6 + mb) - t)) 0 n = zv B 0 n := zv_row _ _ _ _ (by decide)
  have k3 : zv (uB B 2 (n * 6 + mb) (B 2 (n * 6 + mb) - t)) 3 n = zv B 3 n := zv_row _ _ _ _ (by decide)
  have k1 := zbI_2 B (B 2 (n * 6 + mb) - t) (b := mb) (m := n) hm n hn hn
  rw [if_pos rfl, e1] at k1
  have k2 := zfI_2 B (B 2 (n * 6 + mb) - t) (b := mb) (m := n) hm n hn hn
  rw [e1] at k2
  generalize uB B 2 (n * 6 + mb) (B 2 (n * 6 + mb) - t) = B2 at *
  refine zI_set0 g1 hn (-t.toInt) ?_ ?_ ?_ (by omega)
  · rw [k0, Jvm.Kit.i32_sub (by omega) (by omega), e4]
    omega
  · omega
  · rw [k0, k1, k2, k3]
    by_cases c : n = mb
    · subst c
      rw [if_pos rfl]
      omega
    · rw [if_neg c]
      omega
theorem zI_due34 {K : Int} {B0 : BK} {mb : Nat} (hK : K ≤ 2 ^ 29) (hm : mb < 6) {due : Int32} {B : BK} (h : zI K (uB B 3 mb 0)) (hd : 0 ≤ due.toInt) : ∀ n, n ≤ 6 → zI K (uB (f_X0_takeDue_34 B0 mb due B n).2 3 mb 0) ∧ 0 ≤ (f_X0_takeDue_34 B0 mb due B n).1.toInt := by
  intro n
  induction n with
  | zero => intro _; exact ⟨h, hd⟩
  | succ n ih =>
    intro hn
    obtain ⟨i1, i2⟩ := ih (by omega)
    unfold f_X0_takeDue_34
    dsimp only
    generalize (f_X0_takeDue_34 B0 mb due B n).1 = d at *
    generalize (f_X0_takeDue_34 B0 mb due B n).2 = C at *
    have ep : (uB C 3 mb 0) 2 (n * 6 + mb) = C 2 (n * 6 + mb) := by rw [uB_row _ _ _ (by decide)]
    have es : (uB C 3 mb 0) 0 n = C 0 n := by rw [uB_row _ _ _ (by decide)]
    have ev : zv (uB C 3 mb 0) 2 (n * 6 + mb) = (C 2 (n * 6 + mb)).toInt := by
      unfold zv
      rw [ep]
    have p0 := i1.2.1 (n * 6 + mb) (by omega)
    rw [ev] at p0
    have ez := z_zmin d (C 2 (n * 6 + mb))
    have er : zv (uB C 3 mb 0) 3 mb = 0 := by
      rw [zv_self]
      exact Int32.toInt_zero
    generalize zmin d (C 2 (n * 6 + mb)) = t at *
    have g := zI_take i1 hK (n := n) (mb := mb) (by omega) hm er (t := t) (by omega) (by rw [ev]; omega)
    rw [ep, es] at g
    refine ⟨?_, ?_⟩
    · rw [uB_row C n _ (by decide : ¬ 2 = 0), uB_comm _ (k := 2) (k' := 3) _ _ _ _ (by decide), uB_comm _ (k := 0) (k' := 3) _ _ _ _ (by decide)]
      exact g
    · have := d.toInt_lt
      rw [Jvm.Kit.i32_sub (by omega) (by omega)]
      omega
theorem zI_due {K : Int} {B : BK} (h : zI K B) (hK : K ≤ 2 ^ 29) {mb : Nat} (hm : mb < 6) : zI K (f_X0_takeDue B mb) := by
  have b3 := h.2.2.1 mb hm
  have b1 := h.2.2.2.1 mb hm
  have b5 := h.2.2.2.2.1 mb hm
  have hs := zsh_le h hm
  have hs0 := zsh_nn h hm
  have hb0 := zbI_nn h hm
  have hf0 := zfI_nn h hm
  have eo := z_ownI h (by omega) hm
  have ez := z_zmin (B 3 mb) (f_X0_ownLeft B mb)
  have e3 : (B 3 mb).toInt = zv B 3 mb := rfl
  have e4 : (B 0 mb).toInt = zv B 0 mb := rfl
  unfold f_X0_takeDue
  dsimp only
  generalize zmin (B 3 mb) (f_X0_ownLeft B mb) = own at *
  have g0 : zI K (uB B 3 mb 0) := zI_set3 h (by rw [Int32.toInt_zero]; omega) (by rw [Int32.toInt_zero]; omega) (by rw [Int32.toInt_zero]; omega) (fun q => by rw [Int32.toInt_zero] at q; omega)
  have k0 : zv (uB B 3 mb 0) 0 mb = zv B 0 mb := zv_row _ _ _ _ (by decide)
  have k1 : zbI (uB B 3 mb 0) mb = zbI B mb := zbI_row _ _ _ _ (by decide)
  have k2 : zfI (uB B 3 mb 0) mb = zfI B mb := zfI_row _ _ _ _ (by decide)
  have k3 : zv (uB B 3 mb 0) 3 mb = 0 := by rw [zv_self]; exact Int32.toInt_zero
  have g1 : zI K (uB (uB B 0 mb (B 0 mb - own)) 3 mb 0) := by
    rw [uB_comm B (k := 0) (k' := 3) _ _ _ _ (by decide)]
    refine zI_set0 g0 hm (-own.toInt) ?_ ?_ ?_ (by omega)
    · rw [k0, Jvm.Kit.i32_sub (by omega) (by omega), e4]
      omega
    · omega
    · omega
  exact (zI_due34 hK hm g1 (by rw [Jvm.Kit.i32_sub (by omega) (by omega)]; omega) 6 (by omega)).1
theorem zI_weekOf {K : Int} {B : BK} (h : zI K B) (hK : K ≤ 2 ^ 29) {mb : Nat} (hm : mb < 6) : zI K (f_X0_endWeekOf B mb).2 := by
  have g : ∀ x, zI K (uB (uB B 6 mb x) 5 mb 0) := fun x => zI_up (zI_up h (by omega) (by omega) (by omega) (by omega)) (by omega) (by omega) (by omega) (by omega)
  unfold f_X0_endWeekOf
  refine zif (fun (r : Int32 × BK) => zI K r.2) (fun _ => ?_) (fun _ => ?_)
  · refine zif (fun (r : Int32 × BK) => zI K r.2) (fun _ => ?_) (fun _ => ?_)
    · exact zI_due (g 0) hK hm
    · exact g 0
  · refine zif (fun (r : Int32 × BK) => zI K r.2) (fun _ => ?_) (fun _ => ?_)
    · exact zI_due (g _) hK hm
    · exact g _
theorem zI_week4 {K : Int} {B : BK} (h : zI K B) (hK : K ≤ 2 ^ 29) : ∀ n, n ≤ 6 → zI K (f_X0_endWeek_4 B 0 B n).2 ∧ (f_X0_endWeek_4 B 0 B n).2 8 = B 8 := by
  intro n
  induction n with
  | zero => intro _; exact ⟨h, rfl⟩
  | succ n ih =>
    intro hn
    obtain ⟨i1, i2⟩ := ih (by omega)
    unfold f_X0_endWeek_4
    dsimp only
    generalize (f_X0_endWeek_4 B 0 B n).1 = d at *
    generalize (f_X0_endWeek_4 B 0 B n).2 = C at *
    refine zif (fun (r : Int32 × BK) => zI K r.2 ∧ r.2 8 = B 8) (fun _ => ⟨i1, i2⟩) (fun _ => ?_)
    have w1 := zI_weekOf i1 hK (mb := n) (by omega)
    have w2 := zr8_week C n
    exact zif (fun (r : Int32 × BK) => zI K r.2 ∧ r.2 8 = B 8) (fun _ => ⟨w1, w2.trans i2⟩) (fun _ => ⟨w1, w2.trans i2⟩)
theorem zI_endWeek {K : Int} {B : BK} (h : zI K B) (hK : K ≤ 2 ^ 29) (hc : ¬ f_X0_canEndWeek B = 0) : zI K (f_X0_endWeek B).2 := by
  have hw : zv B 8 4 < 9999 := by
    unfold f_X0_canEndWeek at hc
    by_cases c : 9999 ≤ B 8 4
    · rw [if_pos c] at hc
      exact absurd rfl hc
    · rw [Int32.le_iff_toInt_le] at c
      have e3 : (9999 : Int32).toInt = 9999 := by decide
      unfold zv
      omega
  obtain ⟨g1, g2⟩ := zI_week4 h hK 6 (by omega)
  unfold f_X0_endWeek
  dsimp only
  generalize (f_X0_endWeek_4 B 0 B 6).1 = d at *
  generalize (f_X0_endWeek_4 B 0 B 6).2 = C at *
  have e1 : (1 : Int32).toInt = 1 := by decide
  have e2 : (C 8 4 + 1).toInt ≤ 9999 := by
    rw [g2]
    have q := (B 8 4).le_toInt
    unfold zv at hw
    rw [Jvm.Kit.i32_add (by omega) (by omega)]
    omega
  have k : zI K (uB C 8 4 (C 8 4 + 1)) := zI_skip g1 (fun k hk => uB_row C _ _ (by omega)) (uB_ne C _ (by decide)) (by rw [zv_self]; exact e2) (uB_ne C _ (by decide))
  exact zI_up k (by omega) (by omega) (by omega) (by omega)
end ZJ3
