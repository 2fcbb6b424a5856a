/-! the greatest loan and the fewest guarantors -/
section ZAH
theorem zfew2 {K : Int} {B : BK} (hi : zI K B) (hK : K ≤ 2 ^ 29) {mb : Nat} (hm : mb < 6) (X : BK) (am : Int32) :
    zFw (fun i => (f_X0_freeShares B i).toInt) mb (f_X0_cover B mb).toInt am.toInt (f_X2_fewestByGreatest X B mb am).1 ∧ zFw (fun i => (f_X0_freeShares B i).toInt) mb (f_X0_cover B mb).toInt am.toInt (f_X2_fewestBySets X B mb am).1 ∧ (f_X2_fewestByGreatest X B mb am).2 0 = X 0 ∧ (f_X2_fewestBySets X B mb am).2 0 = X 0 := by
  have hfr : ∀ i, i < 6 → 0 ≤ (f_X0_freeShares B i).toInt := fun i hi2 => (z_free0 hi hK hi2).1
  have hle : zS (fun i => (f_X0_freeShares B i).toInt) 6 ≤ zS (zv B 0) 6 := zS_le (fun i hi2 => (z_free0 hi hK hi2).2)
  have htt := zsh_tot hi
  have hcv := z_coverI hi hK hm
  have c1 := hi.2.2.2.1 mb hm
  have c2 := zbI_nn hi hm
  have c3 := zfI_nn hi hm
  have c4 := zfI_le hi hm
  have c5 := zsh_le hi hm
  have hc : 0 ≤ (f_X0_cover B mb).toInt := by omega
  have hb : (f_X0_cover B mb).toInt + zS (fun i => (f_X0_freeShares B i).toInt) 6 < 2 ^ 31 := by omega
  obtain ⟨x1, x2⟩ := zfill X B 6
  have eX : f_X2_fillFree_2 X B X 6 = f_X2_fillFree X B := rfl
  rw [eX] at x1 x2
  have hX : ∀ i, i < 6 → ((f_X2_fillFree X B) 1 i).toInt = (f_X0_freeShares B i).toInt := fun i hi2 => by rw [x1 i hi2]
  have gs : zGr (fun i => (f_X0_freeShares B i).toInt) mb (f_X0_cover B mb).toInt am.toInt (fun _ => false) (f_X0_cover B mb).toInt 0 := zGr.start (t := K) (by omega) (fun i hi2 => Int.le_trans (z_free0 hi hK hi2).2 (zsh_le hi hi2))
  obtain ⟨g1, g2⟩ := zgr21 (X := X) (B := B) hm (am := am) hfr hc hb hX 8 0 (f_X0_cover B mb) (2 ^ mb) (fun _ => false) (zbt_one mb hm).2 (fun i hi2 => by
    rw [zbt_o1 mb hm i hi2]
    by_cases c : i = mb
    · rw [if_pos c]
      exact ⟨fun q => absurd q (by decide), fun q => absurd c q.2⟩
    · rw [if_neg c]
      exact ⟨fun _ => ⟨rfl, c⟩, fun _ => rfl⟩) gs (by omega)
  have s1 := zset19 (X := X) (B := B) hm (am := am) hfr hc hb hX 64 (Nat.le_refl 64)
  have s2 : zFw (fun i => (f_X0_freeShares B i).toInt) mb (f_X0_cover B mb).toInt am.toInt (f_X2_fewestBySets X B mb am).1 := by
    show zFw _ _ _ _ (f_X2_fewestBySets_19 X B mb am (f_X2_fillFree X B) (-1) 64)
    have tr : ∀ S, zQf (fun i => (f_X0_freeShares B i).toInt) mb (f_X0_cover B mb).toInt am.toInt S → ∃ m, m < 64 ∧ zQf (fun i => (f_X0_freeShares B i).toInt) mb (f_X0_cover B mb).toInt am.toInt (zmk m) ∧ zCn (zmk m) 6 = zCn S 6 := by
      intro S hS
      obtain ⟨m, hm2, he⟩ := zmk_ex S
      refine ⟨m, hm2, ⟨(he mb hm).trans hS.1, ?_⟩, zCn_congr he⟩
      rw [zSu_congr he]
      exact hS.2
    rcases s1 with ⟨e1, e2⟩ | ⟨k, hk, e1, ⟨m, p1, p2, p3⟩, e2⟩
    · refine Or.inl ⟨e1, fun S hS => ?_⟩
      obtain ⟨m, q1, q2, q3⟩ := tr S hS
      exact e2 m q1 q2
    · refine Or.inr ⟨k, hk, e1, ⟨zmk m, p2, p3⟩, fun S hS => ?_⟩
      obtain ⟨m', q1, q2, q3⟩ := tr S hS
      rw [← q3]
      exact e2 m' q1 q2
  have eG : (f_X2_fewestByGreatest X B mb am) = f_X2_fewestByGreatest_21 X B mb am 8 (f_X0_cover B mb) (nI (2 ^ mb)) 0 (f_X2_fillFree X B) := by
    unfold f_X2_fewestByGreatest
    dsimp only
    rw [(zbt_one mb hm).1]
  rw [← eG] at g1 g2
  refine ⟨g1, s2, ?_, x2 0 (by omega)⟩
  rw [g2]
  exact x2 0 (by omega)
theorem zCn_0 {S : Nat → Bool} : ∀ {n : Nat}, zCn S n = 0 → ∀ i, i < n → S i = false
  | 0, _, i, hi => absurd hi (Nat.not_lt_zero i)
  | n + 1, h, i, hi => by
    have h' : zCn S n + (if S n = true then 1 else 0) = 0 := h
    by_cases c : S n = true
    · rw [if_pos c] at h'
      omega
    · by_cases q : i = n
      · subst q
        exact Bool.eq_false_iff.mpr c
      · exact zCn_0 (n := n) (by omega) i (by omega)
theorem zSu_0 {fr : Nat → Int} {S : Nat → Bool} : ∀ {n : Nat}, (∀ i, i < n → S i = false) → zSu fr S n = 0
  | 0, _ => rfl
  | n + 1, h => by
    show zSu fr S n + (if S n = true then fr n else 0) = 0
    rw [zSu_0 (n := n) (fun i hi => h i (by omega)), h n (by omega), if_neg (by decide)]
    omega
theorem zCn_e : ∀ n, zCn (fun _ => false) n = 0
  | 0 => rfl
  | n + 1 => by
    show zCn (fun _ => false) n + (if false = true then 1 else 0) = 0
    rw [zCn_e n, if_neg (by decide)]
theorem zFw_0 {fr : Nat → Int} {mb : Nat} {c am : Int} {x : Int32} (h : zFw fr mb c am x) : x = 0 ↔ am ≤ c := by
  have he : am ≤ c → zQf fr mb c am (fun _ => false) := fun q => ⟨rfl, by rw [zSu_0 (fun _ _ => rfl)]; omega⟩
  rcases h with ⟨rfl, a⟩ | ⟨k, hk, rfl, ⟨S, s1, s2⟩, a⟩
  · exact ⟨fun q => absurd q (by decide), fun q => absurd (he q) (a _)⟩
  · refine ⟨fun q => ?_, fun q => ?_⟩
    · have k0 : k = 0 := (nI_eq (a := k) (b := 0) (by omega) (by omega)).mp q
      subst k0
      have h1 := s1.2
      rw [zSu_0 (zCn_0 s2)] at h1
      omega
    · have h1 := a _ (he q)
      rw [zCn_e] at h1
      have k0 : k = 0 := by omega
      subst k0
      exact nI_0
theorem zFw_5 {fr : Nat → Int} {mb : Nat} (hm : mb < 6) {c am : Int} {x : Int32} (h : zFw fr mb c am x) : ¬ 5 < x := by
  rcases h with ⟨rfl, a⟩ | ⟨k, hk, rfl, ⟨S, s1, s2⟩, a⟩
  · decide
  · have h1 := zCn_lt hm s1.1
    show ¬ nI 5 < nI k
    rw [nI_ltI (by omega) (by omega)]
    omega
theorem zFw_more {fr : Nat → Int} {mb : Nat} {c am am' : Int} {x y : Int32} (h : zFw fr mb c am x) (h' : zFw fr mb c am' y) (hle : am ≤ am') : (x = -1 → y = -1) ∧ (¬ x = -1 → ¬ y = -1 → ¬ y < x) := by
  have dn : ∀ S, zQf fr mb c am' S → zQf fr mb c am S := fun S q => ⟨q.1, by have := q.2; omega⟩
  rcases h with ⟨rfl, a⟩ | ⟨k, hk, rfl, ⟨S, s1, s2⟩, a⟩
  · rcases h' with ⟨rfl, b⟩ | ⟨k', hk', rfl, ⟨S', t1, t2⟩, b⟩
    · exact ⟨fun _ => rfl, fun q => absurd rfl q⟩
    · exact absurd (dn S' t1) (a S')
  · refine ⟨fun q => absurd q (zm1 (by omega)), fun _ q2 => ?_⟩
    rcases h' with ⟨rfl, b⟩ | ⟨k', hk', rfl, ⟨S', t1, t2⟩, b⟩
    · exact absurd rfl q2
    · have := a S' (dn S' t1)
      rw [nI_ltI (by omega) (by omega)]
      omega
theorem zgu0 (X B : BK) {mb : Nat} (hm : mb < 6) (am : Int32) : f_X2_guarantors X B (nI mb) am 0 = f_X2_fewestByGreatest X B mb am := by
  unfold f_X2_guarantors
  rw [if_pos rfl, nI_clamp (by omega)]
theorem zgu1 (X B : BK) {mb : Nat} (hm : mb < 6) (am : Int32) : f_X2_guarantors X B (nI mb) am 1 = f_X2_fewestBySets X B mb am := by
  unfold f_X2_guarantors
  rw [if_neg (by decide), nI_clamp (by omega)]
theorem zgrt {B : BK} (mb : Nat) : ∃ g, g ≤ 9999 ∧ f_X2_greatestByAll B mb = nI g ∧ (g = 0 ∨ f_X0_whyNoLoan B mb (nI g) = 0) ∧ ∀ a, g < a → a ≤ 9999 → ¬ f_X0_whyNoLoan B mb (nI a) = 0 := by
  unfold f_X2_greatestByAll
  by_cases hl : f_X0_hasLoan B mb = 0
  · rw [if_pos hl]
    exact zall36 hl 10001 9999 (by omega)
  · rw [if_neg hl]
    refine ⟨0, by omega, nI_0.symm, Or.inl rfl, fun a _ _ h => hl (zwhy_ok h)⟩
theorem zA_ahead {n : Int} {B : BK} (h : zQ n B) (hn : n ≤ 100) (X : BK) {mb am : Nat} (hm : mb < 6) (ha1 : 1 ≤ am) (ha2 : am < 10000) : zF_isAhead X B mb am := by
  obtain ⟨hn0, hI, hR⟩ := h
  have hK : 20000 * n ≤ 2 ^ 29 := by omega
  obtain ⟨g, g9, eg, g1, g2⟩ := zgrt (B := B) mb
  have e0 : f_X2_greatest B (nI mb) 0 = nI g := by
    unfold f_X2_greatest
    rw [if_pos rfl, nI_clamp (by omega), zgreat hI, eg]
  have e1 : f_X2_greatest B (nI mb) 1 = nI g := by
    unfold f_X2_greatest
    rw [if_neg (by decide), nI_clamp (by omega), eg]
  have ew : ∀ x, f_X2_whyNot B (nI mb) x = f_X0_whyNoLoan B mb x := fun x => by
    unfold f_X2_whyNot
    rw [nI_clamp (by omega)]
  have ec : f_X2_memberOf B (nI mb) 3 = f_X0_cover B mb := (zmo B hm).2.2.2.1
  have hg0 : ¬ nI g = 0 → 1 ≤ g := fun q => by
    by_cases c : g = 0
    · subst c
      exact absurd nI_0 q
    · omega
  have hg9 : ¬ nI g = 9999 → g < 9999 := fun q => by
    by_cases c : g = 9999
    · subst c
      exact absurd rfl q
    · omega
  have hmore : (am : Int) ≤ ((if 9999 ≤ am then (am : Nat) else am + 1 : Nat) : Int) ∧ (if 9999 ≤ am then (am : Nat) else am + 1) < 2 ^ 31 := by
    split <;> omega
  have t1 : (nI am).toInt = (am : Int) := nI_toInt (by omega)
  have t2 : (nI (if 9999 ≤ am then (am : Nat) else am + 1)).toInt = ((if 9999 ≤ am then (am : Nat) else am + 1 : Nat) : Int) := nI_toInt hmore.2
  unfold zF_isAhead
  rw [e0, e1, ec]
  simp only [ew, zgu0 _ _ hm, zgu1 _ _ hm]
  generalize (if 9999 ≤ am then (am : Nat) else am + 1) = a' at *
  have f0 := zfew2 hI hK hm X (nI am)
  have f1 := zfew2 hI hK hm (f_X2_fewestByGreatest X B mb (nI am)).2 (nI a')
  have f2 := zfew2 hI hK hm (f_X2_fewestByGreatest (f_X2_fewestByGreatest X B mb (nI am)).2 B mb (nI a')).2 (nI am)
  have mr := zFw_more f0.1 f1.1 (by omega)
  refine ⟨trivial, ?_, fun q => ?_, fun q => ?_, fun q => ?_, fun q => ?_, f0.1.one f2.2.1, ?_, fun q1 q2 => mr.2 q1 q2, mr.1, zFw_5 hm f0.1⟩
  · refine zif_n ⟨fun q z => ?_, fun q => ?_⟩
    · rw [nI_ltI (by omega) (by omega)] at z
      exact g2 am z (by omega) q
    · rw [nI_ltI (by omega) (by omega)] at q
      rcases g1 with c | c
      · omega
      · exact zw_mono hI ha1 (by omega) g9 c
  · exact zrgN (a := 1) (b := 9999) (hg0 q) g9 (by omega)
  · rcases g1 with c | c
    · have := hg0 q
      omega
    · exact c
  · have := hg9 q
    rw [show nI g + 1 = nI (g + 1) from nI_add g 1]
    exact zrgN (a := 1) (b := 9999) (by omega) (by omega) (by omega)
  · have := hg9 q
    rw [show nI g + 1 = nI (g + 1) from nI_add g 1, zw_ge0]
    exact g2 (g + 1) (by omega) (by omega)
  · refine zif_n ?_
    rw [zFw_0 f0.1, Int32.lt_iff_toInt_lt]
    omega
end ZAH
