/-! the digest; the looks -/
section ZS4
def zex : Nat → Int32
  | 0 => 0
  | n + 1 => zex n + (-1)
def zpw : Nat → Int64
  | 0 => 1023
  | n + 1 => zpw n - 1
theorem zshl : ∀ j, j < 201 → ((zex j + 1023).toInt64) <<< ((52 : Int32).toInt64 &&& 63) = zpw j * 4503599627370496 := by decide +kernel
theorem zbit38 (dv dv' : UInt64) : ∀ (k : Nat) (d j q E T : Nat), E + d = 1023 → 900 < E → T < 2 ^ 52 → d < k → j + d ≤ 200 → f_X3_bits_38 dv k (UInt64.ofNat (zfb E T)) (zpw j) = f_X2_bits_16 dv' k (UInt64.ofNat (zfb E T)) (zex j) q := by
  intro k
  induction k with
  | zero => intro d j q E T h1 h2 h3 h4 h5; omega
  | succ k ih =>
    intro d j q E T h1 h2 h3 h4 h5
    unfold f_X3_bits_38 f_X2_bits_16
    by_cases c : 0 ≤ Op.cmpValue (FP.dcmp (UInt64.ofNat (zfb E T)) FP.dconst1) .g
    · rw [if_pos c, if_pos c, zshl j (by omega)]
    · rw [if_neg c, if_neg c]
      have hE : E < 1023 := by
        rcases Nat.lt_or_ge E 1023 with e | e
        · exact e
        · exfalso
          have e3 : E = 1023 := by omega
          subst e3
          apply c
          rw [zd_one]
          rcases zd_ge h3 with e | e
          · rw [e]; decide
          · rw [e]; decide
      rw [zd_two, zf_scale (by omega) (by omega) (by omega) (by omega) h3 (by omega)]
      have e2 : E + 1024 - 1023 = E + 1 := by omega
      rw [e2]
      exact ih (d - 1) (j + 1) (q + 1) (E + 1) T (by omega) (by omega) h3 (by omega) (by omega)
theorem zbits {x : UInt64} (h : x = 0 ∨ zdn x) : f_X3_bits x = f_X2_bits x := by
  unfold f_X3_bits f_X2_bits
  rcases h with rfl | h
  · rw [zd_zero, if_pos (by decide), if_neg (by decide)]
  · rw [zd_pos h, if_neg (by decide), if_pos (by decide)]
    obtain ⟨E, T, h1, h2, h3, rfl⟩ := h
    exact zbit38 _ _ 1101 (1023 - E) 0 0 E T (by omega) h1 h3 (by omega) (by omega)
theorem zc_cnt {K : Int} {r : Nat → Nat} {N : NK} {B X : BK} {Bs : Nat → BK} {M : BK} {Nm : Nat → Nat} (h : zL K r N B X Bs M Nm) {w : Nat} (hw : w < 12) : f_X3_counted M Nm w = f_X2_number N B w := by
  have hc := h.1
  have hn := h.2.2.1
  rcases (show w = 0 ∨ w = 1 ∨ w = 2 ∨ w = 3 ∨ w = 4 ∨ w = 5 ∨ w = 6 ∨ w = 7 ∨ w = 8 ∨ w = 9 ∨ w = 10 ∨ w = 11 by omega) with rfl | rfl | rfl | rfl | rfl | rfl | rfl | rfl | rfl | rfl | rfl | rfl
  · exact zc_8 hc (i := 0) (by omega)
  · exact zc_8 hc (i := 1) (by omega)
  · exact zc_shares hc
  · exact zc_rests hc
  · exact zc_loans hc
  · exact zc_8 hc (i := 2) (by omega)
  · exact zc_8 hc (i := 3) (by omega)
  · exact zc_8 hc (i := 4) (by omega)
  · exact zc_8 hc (i := 5) (by omega)
  · exact zc_8 hc (i := 6) (by omega)
  · exact zc_8 hc (i := 7) (by omega)
  · show nI (Nm 0) = nI (N 0 0)
    rw [hn.1]
/-- one member's part of the digest -/
theorem zmix75 (M M0 : BK) (h y : Int64) (mb : Nat) : f_X3_mixMember_75 M0 h mb M y 4 =
    ((f_X3_fewest (f_X3_fewest (f_X3_fewest (f_X3_fewest M mb 500).2 mb 500).2 mb 5000).2 mb 5000).2,
      f_X3_mix (f_X3_mix (f_X3_mix (f_X3_mix y ((f_X3_fewest M mb 500).1.toInt64)) ((f_X3_fewest (f_X3_fewest M mb 500).2 mb 500).1.toInt64)) ((f_X3_fewest (f_X3_fewest (f_X3_fewest M mb 500).2 mb 500).2 mb 5000).1.toInt64)) ((f_X3_fewest (f_X3_fewest (f_X3_fewest (f_X3_fewest M mb 500).2 mb 500).2 mb 5000).2 mb 5000).1.toInt64)) := by
  have a : ∀ n, ¬ 2 ≤ n → f_X3_mixMember_75 M0 h mb M y (n + 1) = ((f_X3_fewest (f_X3_mixMember_75 M0 h mb M y n).1 mb 500).2, f_X3_mix (f_X3_mixMember_75 M0 h mb M y n).2 ((f_X3_fewest (f_X3_mixMember_75 M0 h mb M y n).1 mb 500).1.toInt64)) := fun n hn => if_neg hn
  have b : ∀ n, 2 ≤ n → f_X3_mixMember_75 M0 h mb M y (n + 1) = ((f_X3_fewest (f_X3_mixMember_75 M0 h mb M y n).1 mb 5000).2, f_X3_mix (f_X3_mixMember_75 M0 h mb M y n).2 ((f_X3_fewest (f_X3_mixMember_75 M0 h mb M y n).1 mb 5000).1.toInt64)) := fun n hn => if_pos hn
  have z : f_X3_mixMember_75 M0 h mb M y 0 = (M, y) := rfl
  rw [b 3 (by omega), b 2 (by omega), a 1 (by omega), a 0 (by omega), z]
theorem zmixM {K : Int} {B M : BK} (h : zcur B M) (hi : zI K B) (hK : K ≤ 2 ^ 29) {mb : Nat} (hm : mb < 6) (X : BK) (y : Int64) :
    (f_X3_mixMember M y mb).2 = (f_X2_digestOfMember X B y mb).1 ∧ (∀ j, ¬ j = 3 → (f_X3_mixMember M y mb).1 j = M j) ∧ (f_X2_digestOfMember X B y mb).2 0 = X 0 := by
  have zc : ∀ {M' : BK}, (∀ j, ¬ j = 3 → M' j = M j) → zcur B M' := by
    intro M' h'
    unfold zcur
    rw [h' 0 (by omega)]
    exact h
  have p2 : ∀ n, n ≤ 10 → f_X3_mixMember_2 M y mb y n = f_X2_digestOfMember_6 X B y mb y n := by
    intro n
    induction n with
    | zero => intro _; rfl
    | succ n ih =>
      intro hn
      unfold f_X3_mixMember_2 f_X2_digestOfMember_6
      dsimp only
      rw [ih (by omega), zc_prop h hm (by omega) (zr0 hi hm)]
      rfl
  have p27 : ∀ (z z' : Int64), z = z' → ∀ n, n ≤ 6 → f_X3_mixMember_27 M y mb z n = f_X2_digestOfMember_42 X B y mb z' n := by
    rintro z _ rfl n
    induction n with
    | zero => intro _; rfl
    | succ n ih =>
      intro hn
      unfold f_X3_mixMember_27 f_X2_digestOfMember_42
      dsimp only
      rw [ih (by omega), zc_pl h hm (by omega)]
      rfl
  have e52 : ∀ z, f_X3_mixMember_52 M y mb z 2 = f_X3_mix (f_X3_mix z ((f_X3_most M mb).toInt64)) ((f_X3_most M mb).toInt64) := fun z => rfl
  have e112 : ∀ K2 z, f_X3_mixMember_112 M y mb K2 z 2 = f_X3_mix (f_X3_mix z ((f_X3_lasts K2 mb).toInt64)) ((f_X3_lasts K2 mb).toInt64) := fun K2 z => rfl
  unfold f_X3_mixMember f_X2_digestOfMember
  dsimp only
  rw [p27 _ _ (p2 10 (by omega)) 6 (by omega), e52, zmix75]
  dsimp only
  rw [e112]
  obtain ⟨a1, a2, a3, a4, a5⟩ := zfewest h hi hK hm X 500
  generalize (f_X2_fewestByGreatest X B mb 500).2 = X1 at *
  generalize (f_X3_fewest M mb 500).2 = M1 at *
  obtain ⟨b1, b2, b3, b4, b5⟩ := zfewest (zc a5) hi hK hm X1 500
  generalize (f_X2_fewestBySets X1 B mb 500).2 = X2 at *
  generalize (f_X3_fewest M1 mb 500).2 = M2 at *
  have b5' : ∀ j, ¬ j = 3 → M2 j = M j := fun j hj => (b5 j hj).trans (a5 j hj)
  obtain ⟨c1, c2, c3, c4, c5⟩ := zfewest (zc b5') hi hK hm X2 5000
  generalize (f_X2_fewestByGreatest X2 B mb 5000).2 = X3 at *
  generalize (f_X3_fewest M2 mb 5000).2 = M3 at *
  have c5' : ∀ j, ¬ j = 3 → M3 j = M j := fun j hj => (c5 j hj).trans (b5' j hj)
  obtain ⟨d1, d2, d3, d4, d5⟩ := zfewest (zc c5') hi hK hm X3 5000
  generalize (f_X2_fewestBySets X3 B mb 5000).2 = X4 at *
  generalize (f_X3_fewest M3 mb 5000).2 = M4 at *
  have d5' : ∀ j, ¬ j = 3 → M4 j = M j := fun j hj => (d5 j hj).trans (c5' j hj)
  obtain ⟨l1, l2⟩ := zlasts (zc d5') hi hm
  refine ⟨?_, d5', d4.trans (c3.trans (b4.trans a3))⟩
  rw [a1, b2, c1, d2, l1, l2, zgreat hi mb, ← zmost h hm, zc_share (zc d5') hm (zd0 hi)]
  rfl
theorem zdig {K : Int} {B M : BK} (h : zcur B M) (hi : zI K B) (hK : K ≤ 2 ^ 29) (Nm : Nat → Nat) (N : NK) (X : BK) (y : Int64) : ∀ n, n ≤ 6 →
    (f_X3_digest_62 M Nm M y n).2 = (f_X2_digest_63 X N B y X n).1 ∧ (∀ j, ¬ j = 3 → (f_X3_digest_62 M Nm M y n).1 j = M j) ∧ (f_X2_digest_63 X N B y X n).2 0 = X 0 := by
  intro n
  induction n with
  | zero => intro _; exact ⟨rfl, fun _ _ => rfl, rfl⟩
  | succ n ih =>
    intro hn
    obtain ⟨i1, i2, i3⟩ := ih (by omega)
    unfold f_X3_digest_62 f_X2_digest_63 at *
    rw [zfd_s, zfd_s]
    generalize zfd (fun n (y : BK × Int64) => f_X3_mixMember y.1 y.2 n) (M, y) n = p at *
    generalize zfd (fun n (y : Int64 × BK) => f_X2_digestOfMember y.2 B y.1 n) (y, X) n = q at *
    obtain ⟨p1, p2⟩ := p
    obtain ⟨q1, q2⟩ := q
    dsimp only at i1 i2 i3 ⊢
    subst i1
    have hz : zcur B p1 := by
      unfold zcur
      rw [i2 0 (by omega)]
      exact h
    obtain ⟨g1, g2, g3⟩ := zmixM hz hi hK (mb := n) (by omega) q2 p2
    exact ⟨g1, fun j hj => (g2 j hj).trans (i2 j hj), g3.trans i3⟩
theorem zs_digest {K : Int} {r : Nat → Nat} {N : NK} {B X : BK} {Bs : Nat → BK} {M : BK} {Nm : Nat → Nat} (h : zL K r N B X Bs M Nm) (hK : K ≤ 2 ^ 29) :
    (f_X3_digest M Nm).1 = (f_X2_digest X N B).1 ∧ zL K r N B (f_X2_digest X N B).2 Bs (f_X3_digest M Nm).2.1 Nm := by
  have h4 := h.r4 0 0
  have p14 : ∀ n, n ≤ 12 → f_X3_digest_14 M Nm 3607 n = f_X2_digest_6 X N B 3607 n := by
    intro n
    induction n with
    | zero => intro _; rfl
    | succ n ih =>
      intro hn
      unfold f_X3_digest_14 f_X2_digest_6
      dsimp only
      rw [ih (by omega), zc_cnt h4 (by omega)]
      rfl
  have e33 : ∀ y, f_X2_digest_33 X N B y 2 = 31 * (31 * y + (B 7 0).toInt64) + (B 7 1).toInt64 := fun y => rfl
  unfold f_X3_digest f_X2_digest f_X3_digest_36
  dsimp only
  rw [p14 12 (by omega), e33]
  have m8 : (uB M 4 0 0) 0 8 = B 7 0 := zc_7 (i := 0) h4.1 (by omega)
  have m9 : (uB M 4 0 0) 0 9 = B 7 1 := zc_7 (i := 1) h4.1 (by omega)
  rw [m8, m9]
  have emx : f_X3_mix (f_X3_mix (f_X2_digest_6 X N B 3607 12) (B 7 0).toInt64) (B 7 1).toInt64 = 31 * (31 * (f_X2_digest_6 X N B 3607 12) + (B 7 0).toInt64) + (B 7 1).toInt64 := rfl
  rw [emx]
  generalize 31 * (31 * (f_X2_digest_6 X N B 3607 12) + (B 7 0).toInt64) + (B 7 1).toInt64 = y0
  have emm : f_X3_digest_62 M Nm (uB M 4 0 0) y0 6 = f_X3_digest_62 (uB M 4 0 0) Nm (uB M 4 0 0) y0 6 := rfl
  rw [emm]
  obtain ⟨d1, d2, d3⟩ := zdig h4.1 h4.2.1 hK Nm N X y0 6 (by omega)
  generalize (f_X3_digest_62 (uB M 4 0 0) Nm (uB M 4 0 0) y0 6).1 = M7 at *
  generalize (f_X3_digest_62 (uB M 4 0 0) Nm (uB M 4 0 0) y0 6).2 = y7 at *
  generalize (f_X2_digest_63 X N B y0 X 6).2 = X7 at *
  generalize (f_X2_digest_63 X N B y0 X 6).1 = y7' at *
  subst d1
  have h7 : zL K r N B X7 Bs M7 Nm := (h4.rows (d2 0 (by omega)) (d2 1 (by omega)) (d2 2 (by omega))).x1 d3
  have hl := zlent h7.1 h7.2.1 (by omega)
  have z0 := (h7.2.2.2.2.2.2.1 0 (by omega)).1
  have z1 := (h7.2.2.2.2.2.2.1 1 (by omega)).1
  have hN := h7.2.2.2.1.1
  have htx := h7.2.2.2.2.2.2.2.1
  have e146 : ∀ (y : Int64) n, n ≤ Nm 1 → f_X3_digest_146 M Nm M7 y n = f_X2_digest_163 X N B X7 y n := by
    intro y n
    induction n with
    | zero => intro _; rfl
    | succ n ih =>
      intro hn
      unfold f_X3_digest_146 f_X2_digest_163
      dsimp only
      rw [ih (by omega), (htx n (by omega)).1]
      rfl
  have e116 : ∀ y, f_X2_digest_116 X N B X7 y 2 = 31 * (31 * y + (if X7 0 0 = 0 then 0 else 1)) + (if X7 0 1 = 0 then 0 else 1) := by
    intro y
    have s : ∀ n, f_X2_digest_116 X N B X7 y (n + 1) = 31 * f_X2_digest_116 X N B X7 y n + (if X7 0 n = 0 then 0 else 1) := by
      intro n
      show (if X7 0 n = 0 then 31 * f_X2_digest_116 X N B X7 y n + (0 : Int32).toInt64 else 31 * f_X2_digest_116 X N B X7 y n + (1 : Int32).toInt64) = _
      by_cases c : X7 0 n = 0
      · rw [if_pos c, if_pos c]
        rfl
      · rw [if_neg c, if_neg c]
        rfl
    rw [s 1, s 0]
    rfl
  have e79 : f_X3_digest_79 M Nm M7 y7 = (f_X2_digest_163 X N B X7 (31 * (31 * (31 * (31 * (31 * y7 + (f_X0_mostAtStake B).toInt64) + f_X2_bits (f_X0_lentPart B)) + (if X7 0 0 = 0 then 0 else 1)) + (if X7 0 1 = 0 then 0 else 1)) + (nI (N 0 1)).toInt64) (N 0 1), M7, f_X2_digest_163 X N B X7 (31 * (31 * (31 * (31 * (31 * y7 + (f_X0_mostAtStake B).toInt64) + f_X2_bits (f_X0_lentPart B)) + (if X7 0 0 = 0 then 0 else 1)) + (if X7 0 1 = 0 then 0 else 1)) + (nI (N 0 1)).toInt64) (N 0 1)) := by
    have e132 : ∀ y v, f_X3_digest_132 M Nm M7 y v = (f_X2_digest_163 X N B X7 (31 * (31 * y + v) + (nI (N 0 1)).toInt64) (N 0 1), M7, f_X2_digest_163 X N B X7 (31 * (31 * y + v) + (nI (N 0 1)).toInt64) (N 0 1)) := by
      intro y v
      unfold f_X3_digest_132
      dsimp only
      rw [e146 _ _ (Nat.le_refl _), hN]
      rfl
    have e114 : ∀ y v, f_X3_digest_114 M Nm M7 y v = f_X3_digest_132 M Nm M7 (31 * y + v) (if X7 0 1 = 0 then 0 else 1) := by
      intro y v
      unfold f_X3_digest_114
      dsimp only
      rw [← z1]
      by_cases c : X7 0 1 = 0
      · rw [if_pos c, if_pos c]
        rfl
      · rw [if_neg c, if_neg c]
        rfl
    unfold f_X3_digest_79
    dsimp only
    rw [← z0, zc_risky h7.1, hl.1, zbits hl.2.2.2.2.2]
    by_cases c : X7 0 0 = 0
    · rw [if_pos c, if_pos c, e114, e132]
      rfl
    · rw [if_neg c, if_neg c, e114, e132]
      rfl
  rw [e79, e116]
  exact ⟨rfl, h7⟩
end ZS4
