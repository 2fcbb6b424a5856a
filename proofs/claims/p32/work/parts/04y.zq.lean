/-! doubles: what this claim needs of them -/
section ZFP
theorem zf_log2 {n k : Nat} (h1 : 2 ^ k ≤ n) (h2 : n < 2 ^ (k + 1)) : n.log2 = k := by
  have h0 : n ≠ 0 := by
    have := Nat.two_pow_pos k
    omega
  have a1 : k ≤ n.log2 := (Nat.le_log2 h0).mpr h1
  have a2 : n.log2 < k + 1 := (Nat.log2_lt h0).mpr h2
  omega
theorem zf_lead {num : Nat} (h : num ≠ 0) : FP.Core.leading num 1 = (num.log2 : Int) := by
  have h1 : Nat.log2 1 = 0 := by decide
  have h2 : 2 ^ num.log2 ≤ num := Nat.log2_self_le h
  unfold FP.Core.leading
  rw [h1]
  have e1 : ((num.log2 : Int) - ((0 : Nat) : Int)).toNat = num.log2 := by omega
  have e2 : (-((num.log2 : Int) - ((0 : Nat) : Int))).toNat = 0 := by omega
  have e3 : 1 * 2 ^ ((num.log2 : Int) - ((0 : Nat) : Int)).toNat ≤ num * 2 ^ (-((num.log2 : Int) - ((0 : Nat) : Int))).toNat := by
    rw [e1, e2]
    omega
  show (if 1 * 2 ^ ((num.log2 : Int) - ((0 : Nat) : Int)).toNat ≤ num * 2 ^ (-((num.log2 : Int) - ((0 : Nat) : Int))).toNat then _ else _) = _
  rw [if_pos e3]
  omega
theorem zf_nearest {c d : Nat} (hd : 0 < d) : FP.Core.nearest (c * d) d = c := by
  unfold FP.Core.nearest
  rw [Nat.mul_mod_left, if_pos (by omega), Nat.mul_div_cancel _ hd]
theorem zf_settle {s : Bool} {c : Nat} {q : Int} (hc : c < 2 ^ 53) (hq : q ≤ 971) : FP.Core.settle FP.Core.b64 s c q = .fin s c q := by
  unfold FP.Core.settle
  rw [if_pos (show c < 2 ^ FP.Core.b64.p from hc)]
  unfold FP.Core.bound
  rw [if_pos (show q ≤ FP.Core.b64.qmax from by show q ≤ (971 : Int); exact hq)]
/-- a number that needs no rounding -/
theorem zf_exact {s : Bool} {num c : Nat} {e Q : Int} (h0 : num ≠ 0) (hQ : (num.log2 : Int) + e - 52 = Q) (hlo : -1074 ≤ Q) (hhi : Q ≤ 971) (hu : num * 2 ^ (e - Q).toNat = c * 2 ^ (Q - e).toNat) (hc : c < 2 ^ 53) : FP.Core.roundRatio FP.Core.b64 s num 1 e = .fin s c Q := by
  have hq : FP.Core.quantum FP.Core.b64 num 1 e = Q := by
    unfold FP.Core.quantum
    rw [zf_lead h0]
    show max (-1074 : Int) ((num.log2 : Int) + e - (((53 : Nat) : Int) - 1)) = Q
    omega
  unfold FP.Core.roundRatio
  rw [if_neg h0, hq]
  unfold FP.Core.roundAt FP.Core.unitsNum FP.Core.unitsDen
  rw [hu, Nat.one_mul, zf_nearest (Nat.two_pow_pos _)]
  exact zf_settle hc hhi
/-- the bits of a positive number with a leading digit -/
def zfb (E T : Nat) : Nat := E * 2 ^ 52 + T
theorem zf_encode {c : Nat} {q : Int} (h1 : 2 ^ 52 ≤ c) (hlo : -1074 ≤ q) : FP.Core.encode FP.Core.b64 (.fin false c q) = zfb ((q + 1075).toNat) (c - 2 ^ 52) := by
  show (if c < FP.Core.b64.tails then FP.Core.assemble FP.Core.b64 false 0 c else FP.Core.assemble FP.Core.b64 false ((q - FP.Core.b64.qmin).toNat + 1) (c - FP.Core.b64.tails)) = _
  rw [if_neg (show ¬ c < FP.Core.b64.tails from by show ¬ c < 2 ^ 52; omega)]
  unfold FP.Core.assemble zfb
  show ((false.toNat * FP.Core.b64.exps + ((q - (-1074)).toNat + 1)) * 2 ^ 52 + (c - 2 ^ 52)) = _
  have : (q - (-1074)).toNat + 1 = (q + 1075).toNat := by omega
  rw [this]
  simp
theorem zf_decode {E T : Nat} (h1 : 0 < E) (h2 : E < 2047) (hT : T < 2 ^ 52) : FP.Core.decode FP.Core.b64 (zfb E T) = .fin false (2 ^ 52 + T) ((E : Int) - 1075) := by
  have hE : FP.Core.fieldE FP.Core.b64 (zfb E T) = E := by
    show (E * 2 ^ 52 + T) / 2 ^ 52 % 2048 = E
    omega
  have hTT : FP.Core.fieldT FP.Core.b64 (zfb E T) = T := by
    show (E * 2 ^ 52 + T) % 2 ^ 52 = T
    omega
  have hS : FP.Core.fieldS FP.Core.b64 (zfb E T) = false := by
    show ((E * 2 ^ 52 + T) / 2 ^ 52 / 2048 % 2 == 1) = false
    have : (E * 2 ^ 52 + T) / 2 ^ 52 / 2048 = 0 := by omega
    rw [this]
    rfl
  unfold FP.Core.decode
  rw [hE, hTT, hS, if_neg (show ¬ E = FP.Core.b64.exps - 1 from by show ¬ E = 2047; omega), if_neg (by omega)]
  show FP.Core.Datum.fin false (2 ^ 52 + T) ((-1074 : Int) + ((E : Int) - 1)) = _
  congr 1
  omega
theorem zf_vf {n : Nat} (h : n < 2047 * 2 ^ 52) : vf_n64 (UInt64.ofNat n) := by
  unfold vf_n64
  rw [UInt64.le_iff_toNat_le, UInt64.toNat_and]
  have e1 : (UInt64.ofNat n).toNat = n := by
    rw [UInt64.toNat_ofNat']
    omega
  rw [e1]
  refine Nat.le_trans Nat.and_le_left ?_
  show n ≤ 9218868437227405312
  omega
theorem zf_toNat {E T : Nat} (h2 : E < 2047) (hT : T < 2 ^ 52) : (UInt64.ofNat (zfb E T)).toNat = zfb E T := by
  rw [UInt64.toNat_ofNat']
  unfold zfb
  omega
theorem zf_vfb {E T : Nat} (h2 : E < 2047) (hT : T < 2 ^ 52) : vf_n64 (UInt64.ofNat (zfb E T)) := zf_vf (by unfold zfb; omega)
/-- a whole number from 1 on, as a double -/
theorem zf_i2d {r : Nat} (h0 : 0 < r) (h : r < 2 ^ 31) : ∃ L T : Nat, L = r.log2 ∧ L < 31 ∧ T < 2 ^ 52 ∧ 2 ^ 52 + T = r * 2 ^ (52 - L) ∧ FP.i2d (nI r) = UInt64.ofNat (zfb (L + 1023) T) := by
  have hr : r ≠ 0 := by omega
  have hL : r.log2 < 31 := (Nat.log2_lt hr).mpr h
  have h1 : 2 ^ r.log2 ≤ r := Nat.log2_self_le hr
  have h2 : r < 2 ^ (r.log2 + 1) := Nat.lt_log2_self
  have e1 : 2 ^ r.log2 * 2 ^ (52 - r.log2) = 2 ^ 52 := by
    rw [← Nat.pow_add]
    congr 1
    omega
  have e2 : 2 ^ (r.log2 + 1) * 2 ^ (52 - r.log2) = 2 ^ 53 := by
    rw [← Nat.pow_add]
    congr 1
    omega
  have hp := Nat.two_pow_pos (52 - r.log2)
  have g1 : 2 ^ 52 ≤ r * 2 ^ (52 - r.log2) := by
    rw [← e1]
    exact Nat.mul_le_mul_right _ h1
  have g2 : r * 2 ^ (52 - r.log2) < 2 ^ 53 := by
    rw [← e2]
    exact Nat.mul_lt_mul_of_pos_right h2 hp
  refine ⟨r.log2, r * 2 ^ (52 - r.log2) - 2 ^ 52, rfl, hL, by omega, by omega, ?_⟩
  show UInt64.ofNat (FP.Core.fromInt FP.Core.b64 (nI r).toInt) = _
  rw [nI_toInt h]
  have hof : FP.Core.ofInt (r : Int) = .fin false r 0 := by
    unfold FP.Core.ofInt
    rw [show decide ((r : Int) < 0) = false from by simp, show ((r : Int)).natAbs = r from by simp]
  have hrd : FP.Core.round FP.Core.b64 (FP.Core.ofInt (r : Int)) = .fin false (r * 2 ^ (52 - r.log2)) ((r.log2 : Int) - 52) := by
    rw [hof]
    show FP.Core.roundRatio FP.Core.b64 false r 1 0 = _
    refine zf_exact hr (by omega) (by omega) (by omega) ?_ g2
    have a1 : ((0 : Int) - ((r.log2 : Int) - 52)).toNat = 52 - r.log2 := by omega
    have a2 : (((r.log2 : Int) - 52) - 0).toNat = 0 := by omega
    rw [a1, a2]
    omega
  unfold FP.Core.fromInt
  rw [hrd, zf_encode g1 (by omega)]
  have : ((r.log2 : Int) - 52 + 1075).toNat = r.log2 + 1023 := by omega
  rw [this]
theorem zf_near2 {num den lo hi : Nat} (hd : 0 < den) (h1 : lo * den ≤ num) (h2 : num < hi * den) : lo ≤ FP.Core.nearest num den ∧ FP.Core.nearest num den ≤ hi := by
  have a1 : lo ≤ num / den := (Nat.le_div_iff_mul_le hd).mpr h1
  have a2 : num / den < hi := (Nat.div_lt_iff_lt_mul hd).mpr h2
  unfold FP.Core.nearest
  split
  · omega
  · split
    · omega
    · omega
/-- a positive quotient, by its exponents: K tells their difference -/
theorem zf_ddiv {E1 T1 E2 T2 : Nat} (a1 : 900 < E1) (a2 : E1 < 1100) (a3 : T1 < 2 ^ 52) (b1 : 900 < E2) (b2 : E2 < 1100) (b3 : T2 < 2 ^ 52) :
    ∃ E T : Nat, T < 2 ^ 52 ∧ FP.ddiv (UInt64.ofNat (zfb E1 T1)) (UInt64.ofNat (zfb E2 T2)) = UInt64.ofNat (zfb E T) ∧ E1 + 1022 ≤ E + E2 ∧ E + E2 ≤ E1 + 1024 ∧ (T1 ≤ T2 → E + E2 ≤ E1 + 1023) := by
  obtain ⟨c1, hc1⟩ : ∃ c, c = 2 ^ 52 + T1 := ⟨_, rfl⟩
  obtain ⟨c2, hc2⟩ : ∃ c, c = 2 ^ 52 + T2 := ⟨_, rfl⟩
  have l1 : c1.log2 = 52 := zf_log2 (by omega) (by omega)
  have l2 : c2.log2 = 52 := zf_log2 (by omega) (by omega)
  have hd : FP.ddiv (UInt64.ofNat (zfb E1 T1)) (UInt64.ofNat (zfb E2 T2)) = UInt64.ofNat (FP.Core.encode FP.Core.b64 (FP.Core.roundRatio FP.Core.b64 false c1 c2 (((E1 : Int) - 1075) - ((E2 : Int) - 1075)))) := by
    show UInt64.ofNat (FP.Core.encode FP.Core.b64 (FP.Core.quotient FP.Core.b64 (FP.Core.decode FP.Core.b64 (UInt64.ofNat (zfb E1 T1)).toNat) (FP.Core.decode FP.Core.b64 (UInt64.ofNat (zfb E2 T2)).toNat))) = _
    rw [zf_toNat (by omega) a3, zf_toNat (by omega) b3, zf_decode (by omega) (by omega) a3, zf_decode (by omega) (by omega) b3, ← hc1, ← hc2]
    show UInt64.ofNat (FP.Core.encode FP.Core.b64 (if c2 = 0 then _ else FP.Core.roundRatio FP.Core.b64 (false != false) c1 c2 _)) = _
    rw [if_neg (by omega)]
    rfl
  have hlead : FP.Core.leading c1 c2 = if c2 ≤ c1 then 0 else -1 := by
    unfold FP.Core.leading
    rw [l1, l2]
    show (if c2 * 2 ^ (((52 : Nat) : Int) - ((52 : Nat) : Int)).toNat ≤ c1 * 2 ^ (-(((52 : Nat) : Int) - ((52 : Nat) : Int))).toNat then (((52 : Nat) : Int) - ((52 : Nat) : Int)) else (((52 : Nat) : Int) - ((52 : Nat) : Int)) - 1) = _
    have e1 : (((52 : Nat) : Int) - ((52 : Nat) : Int)) = 0 := by omega
    rw [e1]
    show (if c2 * 1 ≤ c1 * 1 then (0 : Int) else 0 - 1) = _
    rw [Nat.mul_one, Nat.mul_one]
    rfl
  have main : ∀ (k : Nat) (n : Nat) (Q : Int), Q = ((E1 : Int) - E2) - (52 + k) → k ≤ 1 → FP.Core.quantum FP.Core.b64 c1 c2 (((E1 : Int) - 1075) - ((E2 : Int) - 1075)) = Q → n = FP.Core.nearest (c1 * 2 ^ (52 + k)) c2 → 2 ^ 52 ≤ n → n ≤ 2 ^ 53 →
      ∃ E T : Nat, T < 2 ^ 52 ∧ UInt64.ofNat (FP.Core.encode FP.Core.b64 (FP.Core.roundRatio FP.Core.b64 false c1 c2 (((E1 : Int) - 1075) - ((E2 : Int) - 1075)))) = UInt64.ofNat (zfb E T) ∧ ((n < 2 ^ 53 ∧ E + E2 + k = E1 + 1023) ∨ (n = 2 ^ 53 ∧ E + E2 + k = E1 + 1024)) := by
    intro k n Q hQ hk hq hn h1 h2
    have hr : FP.Core.roundRatio FP.Core.b64 false c1 c2 (((E1 : Int) - 1075) - ((E2 : Int) - 1075)) = FP.Core.settle FP.Core.b64 false n Q := by
      unfold FP.Core.roundRatio
      rw [if_neg (by omega), hq]
      unfold FP.Core.roundAt FP.Core.unitsNum FP.Core.unitsDen
      have e1 : ((((E1 : Int) - 1075) - ((E2 : Int) - 1075)) - Q).toNat = 52 + k := by omega
      have e2 : (Q - (((E1 : Int) - 1075) - ((E2 : Int) - 1075))).toNat = 0 := by omega
      rw [e1, e2, Nat.pow_zero, Nat.mul_one, ← hn]
    rw [hr]
    by_cases hlt : n < 2 ^ 53
    · rw [zf_settle hlt (by omega), zf_encode h1 (by omega)]
      refine ⟨_, _, ?_, rfl, Or.inl ⟨hlt, ?_⟩⟩
      · omega
      · omega
    · have e53 : n = 2 ^ 53 := by omega
      have hs : FP.Core.settle FP.Core.b64 false n Q = .fin false (2 ^ 52) (Q + 1) := by
        unfold FP.Core.settle
        rw [if_neg (show ¬ n < 2 ^ FP.Core.b64.p from hlt)]
        unfold FP.Core.bound
        rw [if_pos (show Q + 1 ≤ FP.Core.b64.qmax from by show Q + 1 ≤ (971 : Int); omega)]
        rfl
      rw [hs, zf_encode (Nat.le_refl _) (by omega)]
      refine ⟨_, _, ?_, rfl, Or.inr ⟨e53, ?_⟩⟩
      · omega
      · omega
  rw [hd]
  by_cases hc : c2 ≤ c1
  · have hq : FP.Core.quantum FP.Core.b64 c1 c2 (((E1 : Int) - 1075) - ((E2 : Int) - 1075)) = ((E1 : Int) - E2) - (52 + (0 : Nat)) := by
      unfold FP.Core.quantum
      rw [hlead, if_pos hc]
      show max (-1074 : Int) (0 + (((E1 : Int) - 1075) - ((E2 : Int) - 1075)) - (((53 : Nat) : Int) - 1)) = _
      omega
    obtain ⟨n1, n2⟩ := zf_near2 (num := c1 * 2 ^ (52 + 0)) (den := c2) (lo := 2 ^ 52) (hi := 2 ^ 53) (by omega) (by omega) (by omega)
    obtain ⟨E, T, hT, he, h⟩ := main 0 _ _ rfl (by omega) hq rfl n1 n2
    refine ⟨E, T, hT, he, ?_, ?_, fun hTT => ?_⟩
    · omega
    · omega
    · have e12 : c1 = c2 := by omega
      have hn : FP.Core.nearest (c1 * 2 ^ (52 + 0)) c2 = 2 ^ 52 := by
        rw [e12, Nat.mul_comm]
        exact zf_nearest (by omega)
      rw [hn] at h
      omega
  · have hq : FP.Core.quantum FP.Core.b64 c1 c2 (((E1 : Int) - 1075) - ((E2 : Int) - 1075)) = ((E1 : Int) - E2) - (52 + (1 : Nat)) := by
      unfold FP.Core.quantum
      rw [hlead, if_neg hc]
      show max (-1074 : Int) (-1 + (((E1 : Int) - 1075) - ((E2 : Int) - 1075)) - (((53 : Nat) : Int) - 1)) = _
      omega
    obtain ⟨n1, n2⟩ := zf_near2 (num := c1 * 2 ^ (52 + 1)) (den := c2) (lo := 2 ^ 52) (hi := 2 ^ 53) (by omega) (by omega) (by omega)
    obtain ⟨E, T, hT, he, h⟩ := main 1 _ _ rfl (by omega) hq rfl n1 n2
    refine ⟨E, T, hT, he, ?_, ?_, fun _ => ?_⟩
    · omega
    · omega
    · omega
/-- times a power of two -/
theorem zf_scale {E T P : Nat} (h0 : 0 < E) (h1 : E < 1100) (hP0 : 1000 < P) (hP : P < 1100) (hT : T < 2 ^ 52) (hlo : 1023 < E + P) : FP.dmul (UInt64.ofNat (zfb E T)) (UInt64.ofNat (zfb P 0)) = UInt64.ofNat (zfb (E + P - 1023) T) := by
  show UInt64.ofNat (FP.Core.encode FP.Core.b64 (FP.Core.round FP.Core.b64 (FP.Core.exactProduct (FP.Core.decode FP.Core.b64 (UInt64.ofNat (zfb E T)).toNat) (FP.Core.decode FP.Core.b64 (UInt64.ofNat (zfb P 0)).toNat)))) = _
  rw [zf_toNat (by omega) hT, zf_toNat (by omega) (by omega), zf_decode (by omega) (by omega) hT, zf_decode (by omega) (by omega) (by omega)]
  show UInt64.ofNat (FP.Core.encode FP.Core.b64 (FP.Core.roundRatio FP.Core.b64 (false != false) ((2 ^ 52 + T) * (2 ^ 52 + 0)) 1 (((E : Int) - 1075) + ((P : Int) - 1075)))) = _
  have hl : ((2 ^ 52 + T) * (2 ^ 52 + 0)).log2 = 104 := zf_log2 (by omega) (by omega)
  have hx : FP.Core.roundRatio FP.Core.b64 (false != false) ((2 ^ 52 + T) * (2 ^ 52 + 0)) 1 (((E : Int) - 1075) + ((P : Int) - 1075)) = .fin (false != false) (2 ^ 52 + T) ((E : Int) + P - 2098) := by
    refine zf_exact (by omega) (by rw [hl]; omega) (by omega) (by omega) ?_ (by omega)
    have e1 : ((((E : Int) - 1075) + ((P : Int) - 1075)) - ((E : Int) + P - 2098)).toNat = 0 := by omega
    have e2 : (((E : Int) + P - 2098) - (((E : Int) - 1075) + ((P : Int) - 1075))).toNat = 52 := by omega
    rw [e1, e2]
    omega
  rw [hx]
  show UInt64.ofNat (FP.Core.encode FP.Core.b64 (.fin false (2 ^ 52 + T) ((E : Int) + P - 2098))) = _
  rw [zf_encode (by omega) (by omega)]
  have e3 : ((E : Int) + P - 2098 + 1075).toNat = E + P - 1023 := by omega
  have e4 : 2 ^ 52 + T - 2 ^ 52 = T := by omega
  rw [e3, e4]
theorem zf_zero (s : Bool) (d : Nat) (e : Int) : FP.Core.roundRatio FP.Core.b64 s 0 d e = .fin s 0 (-1074) := by
  unfold FP.Core.roundRatio
  rw [if_pos rfl]
  rfl
theorem z_ddn {x y : Int32} (h : ¬ y = 0) (hx : ¬ x < 0) (hy : ¬ y < 0) : vf_n64 (FP.ddiv (FP.i2d x) (FP.i2d y)) := by
  obtain ⟨r, hr, rfl⟩ := nI_of hx
  obtain ⟨q, hq, rfl⟩ := nI_of hy
  have q0 : 0 < q := by
    rcases Nat.eq_zero_or_pos q with e | e
    · subst e; exact absurd rfl h
    · exact e
  obtain ⟨L2, T2, -, b1, b2, b3, b4⟩ := zf_i2d q0 hq
  rw [b4]
  rcases Nat.eq_zero_or_pos r with e | e
  · subst e
    have e0 : FP.i2d (nI 0) = UInt64.ofNat 0 := by decide
    rw [e0]
    show vf_n64 (UInt64.ofNat (FP.Core.encode FP.Core.b64 (FP.Core.quotient FP.Core.b64 (FP.Core.decode FP.Core.b64 (UInt64.ofNat 0).toNat) (FP.Core.decode FP.Core.b64 (UInt64.ofNat (zfb (L2 + 1023) T2)).toNat))))
    rw [zf_toNat (by omega) b2, zf_decode (by omega) (by omega) b2]
    have d0 : FP.Core.decode FP.Core.b64 (UInt64.ofNat 0).toNat = .fin false 0 (-1074) := by decide
    rw [d0]
    show vf_n64 (UInt64.ofNat (FP.Core.encode FP.Core.b64 (if (2 ^ 52 + T2) = 0 then _ else FP.Core.roundRatio FP.Core.b64 (false != false) 0 (2 ^ 52 + T2) _)))
    rw [if_neg (by omega)]
    rw [zf_zero]
    exact zf_vf (by decide +kernel)
  · obtain ⟨L1, T1, -, c1, c2, c3, c4⟩ := zf_i2d e hr
    rw [c4]
    obtain ⟨E, T, hT, he, g1, g2, -⟩ := zf_ddiv (E1 := L1 + 1023) (T1 := T1) (E2 := L2 + 1023) (T2 := T2) (by omega) (by omega) c2 (by omega) (by omega) b2
    rw [he]
    exact zf_vfb (by omega) hT
end ZFP
/-! what the model's checks say of numbers -/
section ZQ
theorem zq_nI {x : Int32} {n : Nat} (hn : n < 2 ^ 31) (h0 : ¬ x < 0) (h1 : ¬ nI n < x) : ∃ q9 : Nat, q9 < n + 1 ∧ x = nI q9 := by
  obtain ⟨j, hj, rfl⟩ := nI_of h0
  refine ⟨j, ?_, rfl⟩
  rw [nI_ltI hn hj] at h1
  omega
/-- how many of the first numbers of a row are above 0 -/
def zcnt (f : Nat → Int32) : Nat → Nat
  | 0 => 0
  | n + 1 => if 0 < f n then zcnt f n + 1 else zcnt f n
theorem zcnt_le (f : Nat → Int32) : ∀ n, zcnt f n ≤ n
  | 0 => Nat.le_refl 0
  | n + 1 => by
    have := zcnt_le f n
    unfold zcnt
    split <;> omega
theorem zcnt_same (f : Nat → Int32) (b : Nat) (x : Int32) : ∀ n, n ≤ b → zcnt (upd f b x) n = zcnt f n
  | 0, _ => rfl
  | n + 1, h => by
    unfold zcnt
    rw [zcnt_same f b x n (by omega), pk_un (by omega)]
theorem zcnt_dec {f : Nat → Int32} {b : Nat} (hb : b < 6) (h : 0 < f b) : zcnt (upd f b (-1)) 6 < zcnt f 6 := by
  have key : ∀ n, b < n → zcnt (upd f b (-1)) n < zcnt f n := by
    intro n
    induction n with
    | zero => intro h; omega
    | succ n ih =>
      intro hn
      unfold zcnt
      by_cases e : b = n
      · subst e
        rw [zcnt_same f b (-1) b (Nat.le_refl b), pk_us, if_neg (by decide), if_pos h]
        omega
      · rw [pk_un (fun q => e q.symm)]
        have := ih (by omega)
        split <;> omega
  exact key 6 hb

theorem z_i2c {n : Nat} (h : n < 65536) : ((nI n).toUInt32 % 65536).toInt32 = nI n := by
  rw [pk_char, pk_tn (by omega)]
  congr 1
  omega
/-- who has a rest has a part -/
def zpt (S : Nat → Int32) : Prop := ∀ k9 : Nat, k9 < 6 → ¬ S ((10 + (6 * k9)) + 2) = 0 → ¬ S ((10 + (6 * k9)) + 3) = 0
theorem z_adr2 {a b c d : va_W} (h1 : a.map Prod.fst = b.map Prod.fst) (h2 : c.map Prod.fst = d.map Prod.fst) : (a ++ c).map Prod.fst = (b ++ d).map Prod.fst := by
  rw [List.map_append, List.map_append, h1, h2]
theorem moW_adr {cA : Nat → ClassId} {a : Nat → Nat} {M M' : BK} {N N' : Nat → Nat} {h h' : Int64} : (moW cA a M N h).map Prod.fst = (moW cA a M' N' h').map Prod.fst := rfl
theorem bkW_adr {cI : ClassId} {a : Nat → Nat} {B B' : BK} : (bkW cI a B).map Prod.fst = (bkW cI a B').map Prod.fst := rfl
theorem rdW_adr {a : Nat} {r r' : Nat → Nat} : (rdW a r).map Prod.fst = (rdW a r').map Prod.fst := rfl
end ZQ
