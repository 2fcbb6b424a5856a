/-! what holds between two turns -/
section ZH
theorem zct (N : NK) (B : BK) : f_X2_count N B 0 = B 8 0 ∧ f_X2_count N B 1 = B 8 1 ∧ f_X2_count N B 2 = f_X0_allShares B ∧ f_X2_count N B 3 = f_X0_allRests B ∧ f_X2_count N B 4 = f_X0_loans B ∧ f_X2_count N B 5 = B 8 2 ∧ f_X2_count N B 6 = B 8 3 ∧ f_X2_count N B 7 = B 8 4 ∧ f_X2_count N B 8 = B 8 5 ∧ f_X2_count N B 9 = B 8 6 ∧ f_X2_count N B 11 = nI (N 0 0) := ⟨rfl, rfl, rfl, rfl, rfl, rfl, rfl, rfl, rfl, rfl, rfl⟩
theorem zmo (B : BK) {n : Nat} (hn : n < 6) : f_X2_memberOf B (nI n) 0 = B 0 n ∧ f_X2_memberOf B (nI n) 1 = f_X0_pledgedBy B n ∧ f_X2_memberOf B (nI n) 2 = f_X0_pledgedFor B n ∧ f_X2_memberOf B (nI n) 3 = f_X0_cover B n ∧ f_X2_memberOf B (nI n) 4 = f_X0_freeShares B n ∧ f_X2_memberOf B (nI n) 5 = B 1 n ∧ f_X2_memberOf B (nI n) 6 = B 3 n ∧ f_X2_memberOf B (nI n) 7 = (if f_X0_hasLoan B n = 0 then -1 else B 4 n) ∧ f_X2_memberOf B (nI n) 8 = (if f_X0_hasLoan B n = 0 then -1 else B 5 n) ∧ f_X2_memberOf B (nI n) 9 = (if f_X0_hasLoan B n = 0 then -1 else B 6 n) := by
  have e : (nI n).toNatClampNeg = n := nI_clamp (by omega)
  unfold f_X2_memberOf
  rw [e]
  exact ⟨rfl, rfl, rfl, rfl, rfl, rfl, rfl, rfl, rfl, rfl⟩
theorem zpg (B : BK) {n k : Nat} (hn : n < 6) (hk : k < 6) : f_X2_pledged B (nI n) (nI k) = B 2 (n * 6 + k) := by
  unfold f_X2_pledged
  rw [nI_clamp (by omega), nI_clamp (by omega)]
theorem zh69 (B : BK) {n : Nat} (hn : n < 6) : f_L_holds_69 B n 0 0 6 = (f_X0_pledgedBy B n, f_X0_pledgedFor B n) := by
  have key : ∀ k, k ≤ 6 → f_L_holds_69 B n 0 0 k = (zsum (fun j => B 2 (n * 6 + j)) k, zsum (fun j => B 2 (j * 6 + n)) k) := by
    intro k
    induction k with
    | zero => intro _; rfl
    | succ k ih =>
      intro hk
      unfold f_L_holds_69
      rw [ih (by omega)]
      dsimp only
      rw [zpg B hn (by omega), zpg B (by omega) hn]
      rfl
  have e : ∀ k, f_X0_pledgedBy_10 B n 0 k = zsum (fun j => B 2 (n * 6 + j)) k := by
    intro k
    induction k with
    | zero => rfl
    | succ k ih =>
      show f_X0_pledgedBy_10 B n 0 k + B 2 (n * 6 + k) = zsum (fun j => B 2 (n * 6 + j)) k + B 2 (n * 6 + k)
      rw [ih]
  rw [key 6 (by omega), zf_for hn]
  have e6 := e 6
  rw [← e6]
  rfl
/-- what is at stake -/
def zAt (B : BK) (i : Nat) : Prop := zv B 0 i - zbI B i < zv B 3 i
theorem zhl0 {B : BK} {n : Nat} (h : B 3 n ≤ 0) : f_X0_hasLoan B n = 0 := by
  unfold f_X0_hasLoan
  rw [if_pos h]
theorem zhl1 {B : BK} {n : Nat} (h : ¬ B 3 n ≤ 0) : ¬ f_X0_hasLoan B n = 0 := by
  unfold f_X0_hasLoan
  rw [if_neg h]
  decide
theorem zlo_int (B : BK) : ∀ n, n ≤ 6 → (f_X0_loans_4 B 0 n).toInt = zS (fun i => zind (zv B 3 i)) n ∧ 0 ≤ zS (fun i => zind (zv B 3 i)) n ∧ zS (fun i => zind (zv B 3 i)) n ≤ n := by
  intro n
  induction n with
  | zero => intro _; exact ⟨Int32.toInt_zero, Int.le_refl 0, Int.le_refl 0⟩
  | succ n ih =>
    intro hn
    obtain ⟨i1, i2, i3⟩ := ih (by omega)
    have e1 : (1 : Int32).toInt = 1 := by decide
    have e3 : (B 3 n).toInt = zv B 3 n := rfl
    have eS : zS (fun i => zind (zv B 3 i)) (n + 1) = zS (fun i => zind (zv B 3 i)) n + zind (zv B 3 n) := rfl
    rw [eS]
    unfold f_X0_loans_4
    dsimp only
    by_cases c : B 3 n ≤ 0
    · rw [if_pos (zhl0 c)]
      rw [Int32.le_iff_toInt_le, Int32.toInt_zero] at c
      rw [zind_0 (by omega)]
      omega
    · rw [if_neg (zhl1 c)]
      rw [Int32.le_iff_toInt_le, Int32.toInt_zero] at c
      rw [zind_1 (by omega), Jvm.Kit.i32_add (by omega) (by omega), i1, e1]
      omega
theorem zln_int (B : BK) : (f_X0_loans B).toInt = zLn B := (zlo_int B 6 (by omega)).1
theorem zh53 {K : Int} {B : BK} (hI : zI K B) (hK : K ≤ 2 ^ 29) : ∀ n, n ≤ 6 → (f_L_holds_53 B 0 0 0 0 n).1 = zsum (B 0) n ∧ (f_L_holds_53 B 0 0 0 0 n).2.1 = zsum (B 3) n ∧ (f_L_holds_53 B 0 0 0 0 n).2.2.1 = f_X0_loans_4 B 0 n ∧ 0 ≤ (f_L_holds_53 B 0 0 0 0 n).2.2.2.toInt ∧ (f_L_holds_53 B 0 0 0 0 n).2.2.2.toInt ≤ n ∧ ((f_L_holds_53 B 0 0 0 0 n).2.2.2.toInt = 0 ↔ ∀ i, i < n → ¬ zAt B i) := by
  intro n
  induction n with
  | zero => intro _; exact ⟨rfl, rfl, rfl, Int.le_refl 0, Int.le_refl 0, ⟨fun _ i hi => absurd hi (Nat.not_lt_zero i), fun _ => rfl⟩⟩
  | succ n ih =>
    intro hn
    obtain ⟨i1, i2, i3, i4, i5, i6⟩ := ih (by omega)
    obtain ⟨m0, m1, m2, m3, m4, m5, m6, -⟩ := zmo B (n := n) (by omega)
    have h69 := zh69 B (n := n) (by omega)
    have eo := z_ownI hI (by omega) (i := n) (by omega)
    have e3 : (B 3 n).toInt = zv B 3 n := rfl
    have e1 : (1 : Int32).toInt = 1 := by decide
    unfold f_L_holds_53
    dsimp only
    rw [m0, m6, h69]
    dsimp only
    generalize (f_L_holds_53 B 0 0 0 0 n).1 = a at *
    generalize (f_L_holds_53 B 0 0 0 0 n).2.1 = b at *
    generalize (f_L_holds_53 B 0 0 0 0 n).2.2.1 = c at *
    generalize (f_L_holds_53 B 0 0 0 0 n).2.2.2 = d at *
    refine ⟨by rw [i1]; rfl, by rw [i2]; rfl, ?_, ?_⟩
    · unfold f_X0_loans_4
      dsimp only
      by_cases q : B 3 n ≤ 0
      · rw [if_pos q, if_pos (zhl0 q), i3, Int32.add_zero]
      · rw [if_neg q, if_neg (zhl1 q), i3]
    · have eq : (B 0 n - f_X0_pledgedBy B n).toInt = zv B 0 n - zbI B n := eo
      by_cases q : B 3 n ≤ B 0 n - f_X0_pledgedBy B n
      · rw [if_pos q, Int32.add_zero]
        rw [Int32.le_iff_toInt_le, eq, e3] at q
        refine ⟨i4, by omega, fun h i hi => ?_, fun h => i6.mpr (fun i hi => h i (by omega))⟩
        by_cases w : i = n
        · subst w
          unfold zAt
          omega
        · exact i6.mp h i (by omega)
      · rw [if_neg q]
        rw [Int32.le_iff_toInt_le, eq, e3] at q
        have ed : (d + 1).toInt = d.toInt + 1 := by rw [Jvm.Kit.i32_add (by omega) (by omega), e1]
        rw [ed]
        refine ⟨by omega, by omega, fun h => by omega, fun h => absurd (show zAt B n from by unfold zAt; omega) (h n (by omega))⟩
theorem zrk {K : Int} {B : BK} (hI : zI K B) (hK : K ≤ 2 ^ 29) : ∀ n, n ≤ 6 → 0 ≤ (f_X0_mostAtStake_6 B (-1) 0 n).2.toInt ∧ (((f_X0_mostAtStake_6 B (-1) 0 n).1 = -1 ∧ (f_X0_mostAtStake_6 B (-1) 0 n).2.toInt = 0 ∧ ∀ i, i < n → ¬ zAt B i) ∨ (∃ j, j < n ∧ (f_X0_mostAtStake_6 B (-1) 0 n).1 = nI j ∧ zAt B j)) := by
  intro n
  induction n with
  | zero => intro _; exact ⟨Int.le_refl 0, Or.inl ⟨rfl, rfl, fun i hi => absurd hi (Nat.not_lt_zero i)⟩⟩
  | succ n ih =>
    intro hn
    obtain ⟨i1, i2⟩ := ih (by omega)
    have eo := z_ownI hI (by omega) (i := n) (by omega)
    have e3 : (B 3 n).toInt = zv B 3 n := rfl
    have b1 := hI.2.2.2.1 n (by omega)
    have b2 := zsh_le hI (i := n) (by omega)
    have b3 := hI.2.2.1 n (by omega)
    have b4 := zbI_nn hI (i := n) (by omega)
    unfold f_X0_mostAtStake_6
    dsimp only
    generalize (f_X0_mostAtStake_6 B (-1) 0 n).1 = a at *
    generalize (f_X0_mostAtStake_6 B (-1) 0 n).2 = b at *
    have ext : (¬ zAt B n) → 0 ≤ b.toInt ∧ ((a = -1 ∧ b.toInt = 0 ∧ ∀ i, i < n + 1 → ¬ zAt B i) ∨ ∃ j, j < n + 1 ∧ a = nI j ∧ zAt B j) := by
      intro hz
      refine ⟨i1, ?_⟩
      rcases i2 with ⟨x1, x2, x3⟩ | ⟨j, x1, x2, x3⟩
      · refine Or.inl ⟨x1, x2, fun i hi => ?_⟩
        by_cases q : i = n
        · subst q
          exact hz
        · exact x3 i (by omega)
      · exact Or.inr ⟨j, by omega, x2, x3⟩
    have keep : (zAt B n → ∃ j, j < n ∧ a = nI j ∧ zAt B j) → 0 ≤ b.toInt ∧ ((a = -1 ∧ b.toInt = 0 ∧ ∀ i, i < n + 1 → ¬ zAt B i) ∨ ∃ j, j < n + 1 ∧ a = nI j ∧ zAt B j) := by
      intro hz
      by_cases q : zAt B n
      · obtain ⟨j, x1, x2, x3⟩ := hz q
        exact ⟨i1, Or.inr ⟨j, by omega, x2, x3⟩⟩
      · exact ext q
    have es : (B 3 n - f_X0_ownLeft B n).toInt = zv B 3 n - (zv B 0 n - zbI B n) := by rw [Jvm.Kit.i32_sub (by omega) (by omega), e3, eo]
    by_cases c : f_X0_hasLoan B n = 0
    · rw [if_pos c]
      have h0 := zRest0 hI (by omega) c
      exact ext (by unfold zAt; omega)
    · rw [if_neg c]
      by_cases c2 : B 3 n - f_X0_ownLeft B n ≤ b
      · rw [if_pos c2]
        rw [Int32.le_iff_toInt_le, es] at c2
        refine keep (fun hz => ?_)
        unfold zAt at hz
        rcases i2 with ⟨x1, x2, x3⟩ | h
        · omega
        · exact h
      · rw [if_neg c2]
        rw [Int32.le_iff_toInt_le, es] at c2
        dsimp only
        rw [es]
        exact ⟨by omega, Or.inr ⟨n, by omega, rfl, by unfold zAt; omega⟩⟩
/-- how long a loan lasts: both ways -/
theorem zlast2 {K : Int} {B : BK} (hi : zI K B) {mb : Nat} (hm : mb < 6) : f_X0_weeksByWeeks B mb = f_X0_weeksAtOnce B mb ∧ (zv B 3 mb = 0 → (f_X0_weeksByWeeks B mb).toInt = 0) ∧ (0 < zv B 3 mb → (f_X0_weeksByWeeks B mb).toInt = (zv B 3 mb + zv B 4 mb - 1) / zv B 4 mb ∧ 1 ≤ zv B 4 mb ∧ zv B 4 mb ≤ 9999) := by
  obtain ⟨b1, b2, b3⟩ := hi.2.2.1 mb hm
  have e3 : (B 3 mb).toInt = zv B 3 mb := rfl
  have e4 : (B 4 mb).toInt = zv B 4 mb := rfl
  have e1 : (1 : Int32).toInt = 1 := by decide
  by_cases c2 : B 3 mb ≤ 0
  · have w : f_X0_weeksByWeeks B mb = 0 := by
      unfold f_X0_weeksByWeeks f_X0_weeksByWeeks_9
      rw [if_pos c2]
      exact nI_0
    rw [w]
    refine ⟨?_, fun _ => Int32.toInt_zero, fun q => ?_⟩
    · unfold f_X0_weeksAtOnce
      rw [if_pos (zhl0 c2)]
    · rw [Int32.le_iff_toInt_le, Int32.toInt_zero] at c2
      omega
  · have c3 := c2
    rw [Int32.le_iff_toInt_le, Int32.toInt_zero] at c3
    obtain ⟨p1, p2⟩ := b3 (by omega)
    have hw : (f_X0_weeksByWeeks B mb).toInt = (zv B 3 mb + zv B 4 mb - 1) / zv B 4 mb := by
      unfold f_X0_weeksByWeeks
      rw [zwk9 ⟨p1, p2⟩ 10001 (B 3 mb) 0 (by omega) (by omega) (by omega), e3]
      omega
    refine ⟨?_, fun q => by omega, fun _ => ⟨hw, p1, p2⟩⟩
    apply Int32.toInt_inj.mp
    rw [hw]
    unfold f_X0_weeksAtOnce
    rw [if_neg (zhl1 c2), if_pos (show (1 : Int32) ≤ B 4 mb from by rw [Int32.le_iff_toInt_le]; omega)]
    have s1 : (B 3 mb + B 4 mb).toInt = zv B 3 mb + zv B 4 mb := by
      rw [Jvm.Kit.i32_add (by omega) (by omega), e3, e4]
    have s2 : (B 3 mb + B 4 mb - 1).toInt = zv B 3 mb + zv B 4 mb - 1 := by
      rw [Jvm.Kit.i32_sub (by omega) (by omega), s1, e1]
    rw [Jvm.Kit.i32_div (by omega), s2, e4, Int.tdiv_eq_ediv_of_nonneg (by omega)]
theorem zlentB {K : Int} {B : BK} (hi : zI K B) (hK : K ≤ 2 ^ 30) : ¬ f_X0_allShares B < 0 ∧ ¬ f_X0_allRests B < 0 ∧ (f_X0_lentPart B = 0 ∨ zdn (f_X0_lentPart B)) := by
  have hs := z_sharesI hi hK
  have hr := z_restsI hi hK
  have ht := zsh_tot hi
  have hl := z_rests_le hi
  have n1 : ¬ f_X0_allShares B < 0 := by
    rw [Int32.lt_iff_toInt_lt, Int32.toInt_zero]
    omega
  have n2 : ¬ f_X0_allRests B < 0 := by
    rw [Int32.lt_iff_toInt_lt, Int32.toInt_zero]
    omega
  have e1 : (1 : Int32).toInt = 1 := by decide
  refine ⟨n1, n2, ?_⟩
  unfold f_X0_lentPart
  by_cases c : 1 ≤ f_X0_allShares B
  · rw [if_pos c]
    rw [Int32.le_iff_toInt_le] at c
    obtain ⟨q, hq, eq⟩ := nI_of n1
    obtain ⟨w, hw, ew⟩ := nI_of n2
    rw [eq, nI_toInt hq] at hs c
    rw [ew, nI_toInt hw] at hr
    rw [eq, ew]
    exact zd_part (by omega) (by omega) hq
  · rw [if_neg c]
    left
    decide
theorem zif_b {P Q : Prop} [Decidable P] [Decidable Q] (h : P ↔ Q) : (if P then (1 : Int32) else 0) = (if Q then (1 : Int32) else 0) := by
  by_cases p : P
  · rw [if_pos p, if_pos (h.mp p)]
  · rw [if_neg p, if_neg (fun q => p (h.mpr q))]
theorem zif_n {P Q : Prop} [Decidable P] [Decidable Q] (h : P ↔ ¬ Q) : (if P then (1 : Int32) else 0) = (if Q then (0 : Int32) else 1) := by
  by_cases p : P
  · rw [if_pos p, if_neg (h.mp p)]
  · by_cases q : Q
    · rw [if_neg p, if_pos q]
    · exact absurd (h.mpr q) p
theorem zi0 {x : Int32} : x = 0 ↔ x.toInt = 0 := by
  refine ⟨fun h => by rw [h]; exact Int32.toInt_zero, fun h => Int32.toInt_inj.mp (by rw [h]; exact Int32.toInt_zero.symm)⟩
theorem zH_holds {n : Int} {B : BK} (h : zQ n B) (hn : n ≤ 100) (N : NK) : zF_holds N B := by
  obtain ⟨hn0, hI, hR⟩ := h
  have hK : 20000 * n ≤ 2 ^ 29 := by omega
  have hK2 : 20000 * n ≤ 2 ^ 30 := by omega
  obtain ⟨t0, t1, t2, t3, t4, t5, t6, -⟩ := zct N B
  have ht := z_till hR hI
  obtain ⟨l1, l2, l3⟩ := zlentB hI hK2
  have hs := z_sharesI hI hK2
  have hr := (z_restsI hI hK2).1
  obtain ⟨g1, g2, g3, g4, g5, g6⟩ := zh53 hI hK 6 (by omega)
  have hg := zLn_nn B
  have hln := zln_int B
  have mo := fun k (hk : k < 6) => zmo B hk
  have h69 := fun k (hk : k < 6) => zh69 B hk
  obtain ⟨a1, a2, a3, a4, a5, a6, a7, a8⟩ := id hR
  have e80 : (B 8 0).toInt = zv B 8 0 := rfl
  have e81 : (B 8 1).toInt = zv B 8 1 := rfl
  have e82 : (B 8 2).toInt = zv B 8 2 := rfl
  have e83 : (B 8 3).toInt = zv B 8 3 := rfl
  unfold zF_holds
  rw [t0, t1, t2, t3, t4, t5, t6, g1, g2, g3]
  have hs' : (f_X0_allShares B).toInt = zSH B := hs
  have hr' : (f_X0_allRests B).toInt = zRS B := hr
  refine ⟨?_, l1, l2, ?_, rfl, rfl, rfl, ?_, ?_, fun k hk => ?_, fun k hk => ?_, fun k hk => ?_, fun k hk => ?_, fun k hk => ?_, fun k hk => ?_, fun k hk => ?_, fun k hk => ?_, fun k hk => ?_, fun k hk => ?_, fun k hk j hj => ?_, fun k hk j hj e => ?_⟩
  · apply Int32.toInt_inj.mp
    rw [Jvm.Kit.i32_add (by omega) (by omega), Jvm.Kit.i32_add (by omega) (by omega), hs', hr', e80, e81]
    omega
  · unfold f_X2_lentShare
    rcases l3 with e | e
    · rw [e, zd_zero]
      decide
    · rw [zd_pos e]
      decide
  · rw [Int32.lt_iff_toInt_lt, show f_X0_loans_4 B 0 6 = f_X0_loans B from rfl, Jvm.Kit.i32_add (by omega) (by omega), hln, e82, e83]
    omega
  · unfold f_X2_riskiest
    obtain ⟨k1, k2⟩ := zrk hI hK 6 (by omega)
    refine zif_b ?_
    rw [zi0 (x := (f_L_holds_53 B 0 0 0 0 6).2.2.2), g6]
    show (f_X0_mostAtStake_6 B (-1) 0 6).1 = -1 ↔ _
    rcases k2 with ⟨x1, x2, x3⟩ | ⟨j, x1, x2, x3⟩
    · exact ⟨fun _ => x3, fun _ => x1⟩
    · refine ⟨fun q => ?_, fun q => absurd x3 (q j x1)⟩
      rw [x2] at q
      exact absurd q (zm1 (by omega))
  · rw [(mo k hk).2.1, h69 k hk]
  · rw [(mo k hk).2.2.1, h69 k hk]
  · rw [(mo k hk).2.2.2.1, (mo k hk).1, h69 k hk]
    dsimp only
    unfold f_X0_cover f_X0_ownLeft
    rw [Int32.sub_eq_add_neg, Int32.sub_eq_add_neg, Int32.add_assoc, Int32.add_comm (-f_X0_pledgedBy B k), ← Int32.add_assoc]
  · rw [(mo k hk).2.2.2.1, (mo k hk).2.2.2.2.2.2.1, Int32.lt_iff_toInt_lt, z_coverI hI hK hk]
    have := hI.2.2.2.2.1 k hk
    have e : (B 3 k).toInt = zv B 3 k := rfl
    omega
  · rw [(mo k hk).2.2.2.2.1, Int32.lt_iff_toInt_lt, Int32.toInt_zero]
    have := z_free0 hI hK hk
    omega
  · rw [(mo k hk).2.2.2.2.1, (mo k hk).1, (mo k hk).2.2.2.2.2.2.1, h69 k hk]
    dsimp only
    unfold f_X0_freeShares f_X0_ownLeft zmax
    by_cases q : 0 < B 3 k - f_X0_pledgedFor B k
    · rw [if_pos q, if_neg (Int32.not_le.mpr q)]
    · rw [if_neg q, if_pos (Int32.not_lt.mp q)]
  · rw [(mo k hk).1, Int32.lt_iff_toInt_lt]
    have := a3 k hk
    have e : (B 0 k).toInt = zv B 0 k := rfl
    have e9 : (190000 : Int32).toInt = 190000 := by decide
    omega
  · rw [(mo k hk).2.2.2.2.2.2.1, (mo k hk).2.2.2.2.2.2.2.1]
    refine zif_b ?_
    obtain ⟨b1, b2, b3⟩ := hI.2.2.1 k hk
    have e : (B 3 k).toInt = zv B 3 k := rfl
    by_cases q : B 3 k ≤ 0
    · rw [if_pos (zhl0 q)]
      refine ⟨fun _ => rfl, fun _ => ?_⟩
      rw [zi0]
      rw [Int32.le_iff_toInt_le, Int32.toInt_zero] at q
      omega
    · rw [if_neg (zhl1 q)]
      rw [Int32.le_iff_toInt_le, Int32.toInt_zero] at q
      have p := b3 (by omega)
      refine ⟨fun z => ?_, fun z => ?_⟩
      · rw [zi0] at z
        omega
      · have e4 : (B 4 k).toInt = zv B 4 k := rfl
        rw [z] at e4
        have : (-1 : Int32).toInt = -1 := by decide
        omega
  · rw [(mo k hk).2.2.2.2.2.2.1]
    refine zif_b ?_
    have e : f_X2_weeksLeft B (nI k) 0 = f_X0_weeksByWeeks B k := by
      unfold f_X2_weeksLeft
      rw [if_pos rfl, nI_clamp (by omega)]
    rw [e, zi0, zi0]
    obtain ⟨w1, w2, w3⟩ := zlast2 hI hk
    have b1 := (hI.2.2.1 k hk).1
    have e3 : (B 3 k).toInt = zv B 3 k := rfl
    rw [e3]
    refine ⟨fun q => ?_, w2⟩
    by_cases z : zv B 3 k = 0
    · exact z
    · obtain ⟨y1, y2, y3⟩ := w3 (by omega)
      have : 1 ≤ (zv B 3 k + zv B 4 k - 1) / zv B 4 k := Int.le_ediv_of_mul_le (by omega) (by omega)
      omega
  · have e : f_X2_weeksLeft B (nI k) 0 = f_X0_weeksByWeeks B k := by
      unfold f_X2_weeksLeft
      rw [if_pos rfl, nI_clamp (by omega)]
    have e2 : f_X2_weeksLeft B (nI k) 1 = f_X0_weeksAtOnce B k := by
      unfold f_X2_weeksLeft
      rw [if_neg (by decide), nI_clamp (by omega)]
    rw [e, e2]
    exact (zlast2 hI hk).1
  · rw [zpg B hk hj, Int32.lt_iff_toInt_lt, Int32.toInt_zero]
    have := hI.2.1 (k * 6 + j) (by omega)
    have e : (B 2 (k * 6 + j)).toInt = zv B 2 (k * 6 + j) := rfl
    omega
  · subst e
    rw [zpg B hk hk, zi0]
    exact a2 j hk
end ZH
