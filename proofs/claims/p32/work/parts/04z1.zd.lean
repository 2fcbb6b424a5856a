/-! doubles in the loops of bits() -/
section ZD
def zdn (x : UInt64) : Prop := ∃ E T : Nat, 900 < E ∧ E ≤ 1023 ∧ T < 2 ^ 52 ∧ x = UInt64.ofNat (zfb E T)
def zde (x : UInt64) : Nat := 1100 - x.toNat / 2 ^ 52
theorem zd_ord {c d : Nat} {q r : Int} : FP.Core.order (.fin false c q) (.fin false d r) = some (compareOfLessAndEq ((c * 2 ^ (q - min q r).toNat : Nat) : Int) ((d * 2 ^ (r - min q r).toNat : Nat) : Int)) := rfl
theorem zd_cmpL {a b : Int} (h : a < b) : compareOfLessAndEq a b = .lt := by
  unfold compareOfLessAndEq
  rw [if_pos h]
theorem zd_cmpE {a b : Int} (h : a = b) : compareOfLessAndEq a b = .eq := by
  unfold compareOfLessAndEq
  rw [if_neg (by omega), if_pos h]
theorem zd_cmpG {a b : Int} (h : b < a) : compareOfLessAndEq a b = .gt := by
  unfold compareOfLessAndEq
  rw [if_neg (by omega), if_neg (by omega)]
theorem zd_dec {E1 T1 E2 T2 : Nat} (a1 : 0 < E1) (a2 : E1 < 1100) (a3 : T1 < 2 ^ 52) (b1 : 0 < E2) (b2 : E2 < 1100) (b3 : T2 < 2 ^ 52) : FP.dcmp (UInt64.ofNat (zfb E1 T1)) (UInt64.ofNat (zfb E2 T2)) = FP.Core.order (.fin false (2 ^ 52 + T1) ((E1 : Int) - 1075)) (.fin false (2 ^ 52 + T2) ((E2 : Int) - 1075)) := by
  show FP.Core.order (FP.Core.decode FP.Core.b64 (UInt64.ofNat (zfb E1 T1)).toNat) (FP.Core.decode FP.Core.b64 (UInt64.ofNat (zfb E2 T2)).toNat) = _
  rw [zf_toNat (by omega) a3, zf_toNat (by omega) b3, zf_decode a1 (by omega) a3, zf_decode b1 (by omega) b3]
theorem zd_lt {E1 T1 E2 T2 : Nat} (a1 : 0 < E1) (a3 : T1 < 2 ^ 52) (b2 : E2 < 1100) (b3 : T2 < 2 ^ 52) (h : E1 < E2) : FP.dcmp (UInt64.ofNat (zfb E1 T1)) (UInt64.ofNat (zfb E2 T2)) = some .lt := by
  rw [zd_dec a1 (by omega) a3 (by omega) b2 b3, zd_ord]
  have e1 : (((E1 : Int) - 1075) - min ((E1 : Int) - 1075) ((E2 : Int) - 1075)).toNat = 0 := by omega
  have e2 : (((E2 : Int) - 1075) - min ((E1 : Int) - 1075) ((E2 : Int) - 1075)).toNat = (E2 - E1 - 1) + 1 := by omega
  rw [e1, e2, zd_cmpL]
  have hp := Nat.two_pow_pos (E2 - E1 - 1)
  have h2 : (2 ^ 52 + T2) * 1 ≤ (2 ^ 52 + T2) * 2 ^ (E2 - E1 - 1) := Nat.mul_le_mul_left _ hp
  have h3 : (2 ^ 52 + T1) * 2 ^ 0 < (2 ^ 52 + T2) * 2 ^ (E2 - E1 - 1 + 1) := by
    have e9 : 2 ^ (E2 - E1 - 1 + 1) = 2 ^ (E2 - E1 - 1) * 2 := Nat.pow_succ ..
    rw [e9, ← Nat.mul_assoc, Nat.pow_zero]
    omega
  exact Int.ofNat_lt.mpr h3
theorem zd_one : (FP.dconst1 : UInt64) = UInt64.ofNat (zfb 1023 0) := by decide +kernel
theorem zd_two : (4611686018427387904 : UInt64) = UInt64.ofNat (zfb 1024 0) := by decide +kernel
theorem zd_big : (4841369599423283200 : UInt64) = UInt64.ofNat (zfb 1075 0) := by decide +kernel
theorem zd_ge {T1 : Nat} (a3 : T1 < 2 ^ 52) : FP.dcmp (UInt64.ofNat (zfb 1023 T1)) (UInt64.ofNat (zfb 1023 0)) = some .eq ∨ FP.dcmp (UInt64.ofNat (zfb 1023 T1)) (UInt64.ofNat (zfb 1023 0)) = some .gt := by
  rw [zd_dec (by omega) (by omega) a3 (by omega) (by omega) (by omega), zd_ord]
  have e1 : (((1023 : Nat) : Int) - 1075 - min (((1023 : Nat) : Int) - 1075) (((1023 : Nat) : Int) - 1075)).toNat = 0 := by omega
  rw [e1, Nat.pow_zero, Nat.mul_one, Nat.mul_one]
  rcases Nat.eq_zero_or_pos T1 with h | h
  · left
    rw [zd_cmpE (by omega)]
  · right
    rw [zd_cmpG (by omega)]
theorem zd_lt2 {x : UInt64} (h : zdn x) (op : CmpOp) : Op.cmpValue (FP.dcmp x 4611686018427387904) op < 0 := by
  obtain ⟨E, T, h1, h2, h3, rfl⟩ := h
  rw [zd_two, zd_lt (by omega) h3 (by omega) (by omega) (by omega)]
  cases op <;> decide
theorem zd_less {x : UInt64} (h : zdn x) (op : CmpOp) (c : ¬ 0 ≤ Op.cmpValue (FP.dcmp x FP.dconst1) op) : ∃ E T : Nat, 900 < E ∧ E < 1023 ∧ T < 2 ^ 52 ∧ x = UInt64.ofNat (zfb E T) := by
  obtain ⟨E, T, h1, h2, h3, rfl⟩ := h
  refine ⟨E, T, h1, ?_, h3, rfl⟩
  rcases Nat.lt_or_ge E 1023 with e | e
  · exact e
  · exfalso
    have : E = 1023 := by omega
    subst this
    apply c
    rw [zd_one]
    rcases zd_ge h3 with e | e
    · rw [e]; cases op <;> decide
    · rw [e]; cases op <;> decide
theorem zd_top {x : UInt64} (h : zdn x) (op : CmpOp) (c : 0 ≤ Op.cmpValue (FP.dcmp x FP.dconst1) op) : ∃ T : Nat, T < 2 ^ 52 ∧ x = UInt64.ofNat (zfb 1023 T) := by
  obtain ⟨E, T, h1, h2, h3, rfl⟩ := h
  rcases Nat.lt_or_ge E 1023 with e | e
  · exfalso
    rw [zd_one, zd_lt (by omega) h3 (by omega) (by omega) e] at c
    revert c
    cases op <;> decide
  · have : E = 1023 := by omega
    subst this
    exact ⟨T, h3, rfl⟩
theorem zd_vf2 {x : UInt64} (h : zdn x) : vf_n64 (FP.dmul x 4611686018427387904) := by
  obtain ⟨E, T, h1, h2, h3, rfl⟩ := h
  rw [zd_two, zf_scale (by omega) (by omega) (by omega) (by omega) h3 (by omega)]
  exact zf_vfb (by omega) h3
theorem zd_next {x : UInt64} (h : zdn x) (op : CmpOp) (c : ¬ 0 ≤ Op.cmpValue (FP.dcmp x FP.dconst1) op) : zdn (FP.dmul x 4611686018427387904) ∧ zde (FP.dmul x 4611686018427387904) < zde x := by
  obtain ⟨E, T, h1, h2, h3, rfl⟩ := zd_less h op c
  rw [zd_two, zf_scale (by omega) (by omega) (by omega) (by omega) h3 (by omega)]
  refine ⟨⟨E + 1024 - 1023, T, by omega, by omega, h3, rfl⟩, ?_⟩
  unfold zde
  rw [zf_toNat (by omega) h3, zf_toNat (by omega) h3]
  unfold zfb
  omega
theorem zd_sub1 {T : Nat} (h3 : T < 2 ^ 52) : FP.dsub (UInt64.ofNat (zfb 1023 T)) FP.dconst1 = UInt64.ofNat 0 ∨ ∃ E T' : Nat, 0 < E ∧ E < 1050 ∧ T' < 2 ^ 52 ∧ FP.dsub (UInt64.ofNat (zfb 1023 T)) FP.dconst1 = UInt64.ofNat (zfb E T') := by
  have hs : FP.dsub (UInt64.ofNat (zfb 1023 T)) FP.dconst1 = UInt64.ofNat (FP.Core.encode FP.Core.b64 (FP.Core.roundRatio FP.Core.b64 false T 1 (-52))) := by
    rw [zd_one]
    show UInt64.ofNat (FP.Core.encode FP.Core.b64 (FP.Core.round FP.Core.b64 (FP.Core.exactSum (FP.Core.decode FP.Core.b64 (UInt64.ofNat (zfb 1023 T)).toNat) (FP.Core.negate (FP.Core.decode FP.Core.b64 (UInt64.ofNat (zfb 1023 0)).toNat))))) = _
    rw [zf_toNat (by omega) h3, zf_toNat (by omega) (by omega), zf_decode (by omega) (by omega) h3, zf_decode (by omega) (by omega) (by omega)]
    have e0 : ((1023 : Nat) : Int) - 1075 = -52 := by omega
    rw [e0]
    have hu : FP.Core.sumUnits false (2 ^ 52 + T) (-52) true (2 ^ 52 + 0) (-52) (-52) = (T : Int) := by
      show (((2 ^ 52 + T) * 2 ^ ((-52 : Int) - (-52)).toNat : Nat) : Int) + -(((2 ^ 52 + 0) * 2 ^ ((-52 : Int) - (-52)).toNat : Nat) : Int) = (T : Int)
      have e1 : ((-52 : Int) - (-52)).toNat = 0 := by decide
      rw [e1, Nat.pow_zero]
      omega
    have hx : FP.Core.exactSum (.fin false (2 ^ 52 + T) (-52)) (FP.Core.negate (.fin false (2 ^ 52 + 0) (-52))) = .fin false T (-52) := by
      show FP.Core.Datum.fin (FP.Core.sumSign false true (FP.Core.sumUnits false (2 ^ 52 + T) (-52) true (2 ^ 52 + 0) (-52) (-52))) (FP.Core.sumUnits false (2 ^ 52 + T) (-52) true (2 ^ 52 + 0) (-52) (-52)).natAbs (-52) = _
      rw [hu]
      have hsg : FP.Core.sumSign false true (T : Int) = false := by
        unfold FP.Core.sumSign
        split
        · rfl
        · exact decide_eq_false (by omega)
      rw [hsg]
      rfl
    rw [hx]
    rfl
  rw [hs]
  rcases Nat.eq_zero_or_pos T with h | h
  · left
    subst h
    rw [zf_zero]
    congr 1
  · right
    have h0 : T ≠ 0 := by omega
    have hL : T.log2 < 52 := (Nat.log2_lt h0).mpr h3
    have k1 : 2 ^ T.log2 ≤ T := Nat.log2_self_le h0
    have k2 : T < 2 ^ (T.log2 + 1) := Nat.lt_log2_self
    have e1 : 2 ^ T.log2 * 2 ^ (52 - T.log2) = 2 ^ 52 := by
      rw [← Nat.pow_add]
      congr 1
      omega
    have e2 : 2 ^ (T.log2 + 1) * 2 ^ (52 - T.log2) = 2 ^ 53 := by
      rw [← Nat.pow_add]
      congr 1
      omega
    have g1 : 2 ^ 52 ≤ T * 2 ^ (52 - T.log2) := by
      rw [← e1]
      exact Nat.mul_le_mul_right _ k1
    have g2 : T * 2 ^ (52 - T.log2) < 2 ^ 53 := by
      rw [← e2]
      exact Nat.mul_lt_mul_of_pos_right k2 (Nat.two_pow_pos _)
    have hr : FP.Core.roundRatio FP.Core.b64 false T 1 (-52) = .fin false (T * 2 ^ (52 - T.log2)) ((T.log2 : Int) - 104) := by
      refine zf_exact h0 (by omega) (by omega) (by omega) ?_ g2
      have a1 : ((-52 : Int) - ((T.log2 : Int) - 104)).toNat = 52 - T.log2 := by omega
      have a2 : (((T.log2 : Int) - 104) - (-52)).toNat = 0 := by omega
      rw [a1, a2, Nat.pow_zero, Nat.mul_one]
    rw [hr, zf_encode g1 (by omega)]
    exact ⟨_, _, by omega, by omega, by omega, rfl⟩
theorem zd_vfs {x : UInt64} (h : zdn x) (op : CmpOp) (c : 0 ≤ Op.cmpValue (FP.dcmp x FP.dconst1) op) : vf_n64 (FP.dsub x FP.dconst1) := by
  obtain ⟨T, hT, rfl⟩ := zd_top h op c
  rcases zd_sub1 hT with e | ⟨E, T', h1, h2, h3, e⟩
  · rw [e]
    exact zf_vf (by omega)
  · rw [e]
    exact zf_vfb (by omega) h3
theorem zd_vfm {x : UInt64} (h : zdn x) (op : CmpOp) (c : 0 ≤ Op.cmpValue (FP.dcmp x FP.dconst1) op) : vf_n64 (FP.dmul (FP.dsub x FP.dconst1) 4841369599423283200) := by
  obtain ⟨T, hT, rfl⟩ := zd_top h op c
  rcases zd_sub1 hT with e | ⟨E, T', h1, h2, h3, e⟩
  · rw [e]
    unfold vf_n64
    decide +kernel
  · rw [e, zd_big, zf_scale h1 (by omega) (by omega) (by omega) h3 (by omega)]
    exact zf_vfb (by omega) h3
/-- a share of a whole -/
theorem zd_part {r q : Nat} (h0 : 0 < q) (h1 : r ≤ q) (h2 : q < 2 ^ 31) : FP.ddiv (FP.i2d (nI r)) (FP.i2d (nI q)) = 0 ∨ zdn (FP.ddiv (FP.i2d (nI r)) (FP.i2d (nI q))) := by
  obtain ⟨L2, T2, hL2, b1, b2, b3, b4⟩ := zf_i2d h0 h2
  rcases Nat.eq_zero_or_pos r with e | e
  · left
    subst e
    have e0 : FP.i2d (nI 0) = UInt64.ofNat 0 := by decide +kernel
    rw [b4, e0]
    show UInt64.ofNat (FP.Core.encode FP.Core.b64 (FP.Core.quotient FP.Core.b64 (FP.Core.decode FP.Core.b64 (UInt64.ofNat 0).toNat) (FP.Core.decode FP.Core.b64 (UInt64.ofNat (zfb (L2 + 1023) T2)).toNat))) = 0
    rw [zf_toNat (by omega) b2, zf_decode (by omega) (by omega) b2]
    have d0 : FP.Core.decode FP.Core.b64 (UInt64.ofNat 0).toNat = .fin false 0 (-1074) := by decide +kernel
    rw [d0]
    show UInt64.ofNat (FP.Core.encode FP.Core.b64 (if (2 ^ 52 + T2) = 0 then _ else FP.Core.roundRatio FP.Core.b64 (false != false) 0 (2 ^ 52 + T2) _)) = 0
    rw [if_neg (by omega), zf_zero]
    decide +kernel
  · right
    obtain ⟨L1, T1, hL1, c1, c2, c3, c4⟩ := zf_i2d e (Nat.lt_of_le_of_lt h1 h2)
    rw [b4, c4]
    obtain ⟨E, T, hT, he, g1, g2, g3⟩ := zf_ddiv (E1 := L1 + 1023) (T1 := T1) (E2 := L2 + 1023) (T2 := T2) (by omega) (by omega) c2 (by omega) (by omega) b2
    have hll : L1 ≤ L2 := by
      rw [hL1, hL2]
      exact (Nat.le_log2 (by omega)).mpr (Nat.le_trans (Nat.log2_self_le (by omega)) h1)
    refine ⟨E, T, by omega, ?_, hT, he⟩
    rcases Nat.lt_or_ge L1 L2 with hl | hl
    · omega
    · have hee : L1 = L2 := by omega
      have hTT : T1 ≤ T2 := by
        have : r * 2 ^ (52 - L1) ≤ q * 2 ^ (52 - L2) := by
          rw [hee]
          exact Nat.mul_le_mul_right _ h1
        omega
      have := g3 hTT
      omega
theorem zd_zero : FP.dcmp (0 : UInt64) FP.dconst0 = some .eq := by decide +kernel
theorem zd_pos {x : UInt64} (h : zdn x) : FP.dcmp x FP.dconst0 = some .gt := by
  obtain ⟨E, T, h1, h2, h3, rfl⟩ := h
  show FP.Core.order (FP.Core.decode FP.Core.b64 (UInt64.ofNat (zfb E T)).toNat) (FP.Core.decode FP.Core.b64 (FP.dconst0 : UInt64).toNat) = some .gt
  rw [zf_toNat (by omega) h3, zf_decode (by omega) (by omega) h3]
  have d0 : FP.Core.decode FP.Core.b64 (FP.dconst0 : UInt64).toNat = .fin false 0 (-1074) := by decide +kernel
  rw [d0, zd_ord, zd_cmpG]
  have hp := Nat.two_pow_pos (((E : Int) - 1075) - min ((E : Int) - 1075) (-1074)).toNat
  have : 0 < (2 ^ 52 + T) * 2 ^ (((E : Int) - 1075) - min ((E : Int) - 1075) (-1074)).toNat := Nat.mul_pos (by omega) hp
  rw [Nat.zero_mul]
  exact Int.ofNat_lt.mpr this
theorem zd_nz {x : UInt64} (h : x = 0 ∨ zdn x) (op : CmpOp) (c : ¬ Op.cmpValue (FP.dcmp x FP.dconst0) op = 0) : zdn x := by
  rcases h with rfl | h
  · rw [zd_zero] at c
    exact absurd rfl c
  · exact h
theorem zd_nz2 {x : UInt64} (h : x = 0 ∨ zdn x) (op : CmpOp) (c : 0 < Op.cmpValue (FP.dcmp x FP.dconst0) op) : zdn x := by
  rcases h with rfl | h
  · rw [zd_zero] at c
    exact absurd c (by cases op <;> decide)
  · exact h
end ZD
