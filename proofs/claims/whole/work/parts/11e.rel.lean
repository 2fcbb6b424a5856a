/-! the union and the model side by side: what holds between two calls -/
section ZL
def zL (K : Int) (r : Nat → Nat) (N : NK) (B X : BK) (Bs : Nat → BK) (M : BK) (Nm : Nat → Nat) : Prop :=
  zcur B M ∧ zI K B ∧ (N 0 0 = Nm 0 ∧ Nm 0 ≤ 6) ∧ (N 0 1 = Nm 1 ∧ Nm 1 ≤ 60) ∧
  (zpm N ∧ ∀ i j, i < 6 → j < 6 → N 1 i = N 1 j → i = j) ∧
  (∀ i, i < Nm 0 → zrel (Bs (N 1 i)) (M 0) (82 * (i + 1)) ∧ zI K (Bs (N 1 i))) ∧
  (∀ s, s < 2 → X 0 s = M 1 s ∧ (¬ X 0 s = 0 → zrel (Bs (7 + s)) (M 0) (82 * (7 + s)) ∧ zI K (Bs (7 + s)))) ∧
  (∀ i, i < Nm 1 → M 2 i = nI (N 2 i) ∧ 33 ≤ N 2 i ∧ N 2 i < 127) ∧ zRI r
theorem zL.rows {K : Int} {r : Nat → Nat} {N : NK} {B X : BK} {Bs : Nat → BK} {M M' : BK} {Nm : Nat → Nat} (h : zL K r N B X Bs M Nm) (h0 : M' 0 = M 0) (h1 : M' 1 = M 1) (h2 : M' 2 = M 2) : zL K r N B X Bs M' Nm := by
  unfold zL zcur at h ⊢
  rw [h0, h1, h2]
  exact h
theorem zL.r4 {K : Int} {r : Nat → Nat} {N : NK} {B X : BK} {Bs : Nat → BK} {M : BK} {Nm : Nat → Nat} (h : zL K r N B X Bs M Nm) (i : Nat) (v : Int32) : zL K r N B X Bs (uB M 4 i v) Nm :=
  h.rows (uB_row _ _ _ (by decide)) (uB_row _ _ _ (by decide)) (uB_row _ _ _ (by decide))
theorem zL.nm {K : Int} {r : Nat → Nat} {N : NK} {B X : BK} {Bs : Nat → BK} {M : BK} {Nm Nm' : Nat → Nat} (h : zL K r N B X Bs M Nm) (h0 : Nm' 0 = Nm 0) (h1 : Nm' 1 = Nm 1) : zL K r N B X Bs M Nm' := by
  unfold zL at h ⊢
  rw [h0, h1]
  exact h
theorem zL.rd {K : Int} {r r' : Nat → Nat} {N : NK} {B X : BK} {Bs : Nat → BK} {M : BK} {Nm : Nat → Nat} (h : zL K r N B X Bs M Nm) (hr : zRI r') : zL K r' N B X Bs M Nm := by
  obtain ⟨a1, a2, a3, a4, a5, a6, a7, a8, a9⟩ := h
  exact ⟨a1, a2, a3, a4, a5, a6, a7, a8, hr⟩
theorem zL.x1 {K : Int} {r : Nat → Nat} {N : NK} {B X X' : BK} {Bs : Nat → BK} {M : BK} {Nm : Nat → Nat} (h : zL K r N B X Bs M Nm) (hx : X' 0 = X 0) : zL K r N B X' Bs M Nm := by
  unfold zL at h ⊢
  rw [hx]
  exact h
theorem zL.mono {K K' : Int} {r : Nat → Nat} {N : NK} {B X : BK} {Bs : Nat → BK} {M : BK} {Nm : Nat → Nat} (h : zL K r N B X Bs M Nm) (hk : K ≤ K') : zL K' r N B X Bs M Nm := by
  obtain ⟨a1, a2, a3, a4, a5, a6, a7, a8, a9⟩ := h
  exact ⟨a1, a2.mono hk, a3, a4, a5, fun i hi => ⟨(a6 i hi).1, (a6 i hi).2.mono hk⟩, fun s hs => ⟨(a7 s hs).1, fun q => ⟨((a7 s hs).2 q).1, ((a7 s hs).2 q).2.mono hk⟩⟩, a8, a9⟩
/-- a deed on the books, behind a saving -/
theorem zL.deed {K K' : Int} {r : Nat → Nat} {N : NK} {B B' X : BK} {Bs : Nat → BK} {M M' : BK} {Nm : Nat → Nat} (h : zL K r N B X Bs M Nm) (hc : zcur B' M') (ho : zonly M M') (hi : zI K' B') (hk : K ≤ K') : zL K' r N B' X Bs M' Nm := by
  obtain ⟨a1, a2, a3, a4, a5, a6, a7, a8, a9⟩ := h.mono hk
  refine ⟨hc, hi, a3, a4, a5, fun i hi => ⟨zrel_only (a6 i hi).1 ho (by omega), (a6 i hi).2⟩, fun s hs => ⟨?_, fun q => ⟨zrel_only ((a7 s hs).2 q).1 ho (by omega), ((a7 s hs).2 q).2⟩⟩, fun i hi => ?_, a9⟩
  · rw [ho.2 1 (by omega)]
    exact (a7 s hs).1
  · rw [ho.2 2 (by omega)]
    exact a8 i hi
/-! saving -/
theorem zdo_1 (N : NK) : (f_X2_dropOldest N) 1 0 = N 1 1 ∧ (f_X2_dropOldest N) 1 1 = N 1 2 ∧ (f_X2_dropOldest N) 1 2 = N 1 3 ∧ (f_X2_dropOldest N) 1 3 = N 1 4 ∧ (f_X2_dropOldest N) 1 4 = N 1 5 ∧ (f_X2_dropOldest N) 1 5 = N 1 0 := ⟨rfl, rfl, rfl, rfl, rfl, rfl⟩
theorem zdo_0 (N : NK) : (f_X2_dropOldest N) 0 0 = 5 ∧ (f_X2_dropOldest N) 0 1 = N 0 1 ∧ (f_X2_dropOldest N) 2 = N 2 := ⟨rfl, rfl, rfl⟩
/-- the model's states, shifted by n -/
def zSt (M : BK) : Nat → BK
  | 0 => M
  | n + 1 => f_X3_copies (zSt M n) (n + 2) (n + 1)
theorem zSt_far {M C : BK} {q : Nat} (h : zrel C (M 0) (82 * q)) : ∀ n, ¬ (1 ≤ q ∧ q ≤ n) → zrel C ((zSt M n) 0) (82 * q)
  | 0, _ => h
  | n + 1, hq => zcp_far (by omega) (by omega) (zSt_far h n (by omega))
theorem zSt_to {M C : BK} {i : Nat} (h : zrel C (M 0) (82 * (i + 2))) : ∀ n, i < n → zrel C ((zSt M n) 0) (82 * (i + 1))
  | 0, hi => absurd hi (Nat.not_lt_zero i)
  | n + 1, hi => by
    by_cases c : i = n
    · subst c
      exact zcp_to (by omega) (zSt_far h i (by omega))
    · exact zcp_far (by omega) (by omega) (zSt_to h n (by omega))
theorem zSt_row (M : BK) {k : Nat} (hk : 1 ≤ k) : ∀ n, (zSt M n) k = M k
  | 0 => rfl
  | n + 1 => (zcp_row (by omega) hk).trans (zSt_row M hk n)
theorem zsv_6 (M : BK) (N : Nat → Nat) (h : N 0 = 6) : f_X3_save M N = (f_X3_copies (zSt M 5) 0 6, va_up N 0 6) := by
  have st : ∀ (k q : Nat) (M1 : BK), q < 6 → f_X3_save_2 M N (k + 1) q M1 = f_X3_save_2 M N k (q + 1) (f_X3_copies M1 (q + 1) q) := by
    intro k q M1 hq
    show (if 6 ≤ q then _ else (if N 0 = 6 then f_X3_save_2 M N k (q + 1) (f_X3_copies M1 (q + 1) q) else _)) = _
    rw [if_neg (by omega), if_pos h]
  unfold f_X3_save
  rw [st 7 1 M (by omega), st 6 _ _ (by omega), st 5 _ _ (by omega), st 4 _ _ (by omega), st 3 _ _ (by omega)]
  unfold f_X3_save_2
  rw [if_pos (by omega), if_pos (by omega), h]
  rfl
theorem zsv_lt (M : BK) (N : Nat → Nat) (h : N 0 < 6) : f_X3_save M N = (f_X3_copies M 0 (N 0 + 1), va_up N 0 (N 0 + 1)) := by
  unfold f_X3_save f_X3_save_2
  rw [if_neg (by omega), if_neg (by omega), if_neg (by omega)]
theorem zup_self {f : Nat → Nat} {k v : Nat} : va_up f k v k = v := if_pos rfl
theorem zup_ne {f : Nat → Nat} {k v i : Nat} (h : ¬ i = k) : va_up f k v i = f i := if_neg h
theorem zL.save {K : Int} {r : Nat → Nat} {N : NK} {B X : BK} {Bs : Nat → BK} {M : BK} {Nm : Nat → Nat} (h : zL K r N B X Bs M Nm) :
    zL K r (f_X2_saveState N B Bs).1 B X (f_X2_saveState N B Bs).2 (f_X3_save M Nm).1 (f_X3_save M Nm).2 ∧ (∀ k, 1 ≤ k → (f_X3_save M Nm).1 k = M k) ∧ (f_X3_save M Nm).2 1 = Nm 1 ∧ (f_X3_save M Nm).2 2 = Nm 2 := by
  obtain ⟨a1, a2, ⟨a3, a3'⟩, ⟨a4, a4'⟩, ⟨a5, a5'⟩, a6, a7, a8, a9⟩ := h
  have a1' : zrel B (M 0) (82 * 0) := a1
  unfold f_X2_saveState
  rw [a3]
  by_cases c : Nm 0 < 6
  · rw [if_pos c, zsv_lt M Nm c]
    dsimp only
    have e0 : (uN N 0 0 (Nm 0 + 1)) 0 0 = Nm 0 + 1 := rfl
    have e1 : (uN N 0 0 (Nm 0 + 1)) 1 = N 1 := rfl
    refine ⟨⟨?_, a2, ⟨?_, ?_⟩, ⟨?_, ?_⟩, ⟨fun i hi => a5 i hi, fun i j hi hj => a5' i j hi hj⟩, fun i hi => ?_, fun s hs => ?_, fun i hi => ?_, a9⟩, fun k hk => zcp_row (by omega) hk, rfl, rfl⟩
    · exact zcp_far (q := 0) (by omega) (by omega) a1'
    · exact e0
    · show Nm 0 + 1 ≤ 6
      omega
    · exact a4
    · exact a4'
    · have hi' : i < Nm 0 + 1 := hi
      rw [e1]
      by_cases q : i = Nm 0
      · subst q
        dsimp only
        rw [if_pos rfl]
        exact ⟨zcp_to (by omega) a1', a2⟩
      · dsimp only
        rw [if_neg (fun e => q (a5' i (Nm 0) (by omega) c e))]
        exact ⟨zcp_far (by omega) (by omega) (a6 i (by omega)).1, (a6 i (by omega)).2⟩
    · have hp := a5 (Nm 0) c
      rw [zcp_row (by omega) (by omega)]
      dsimp only
      rw [if_neg (by omega)]
      exact ⟨(a7 s hs).1, fun q => ⟨zcp_far (by omega) (by omega) ((a7 s hs).2 q).1, ((a7 s hs).2 q).2⟩⟩
    · rw [zcp_row (by omega) (by omega)]
      exact a8 i hi
  · have c6 : Nm 0 = 6 := by omega
    rw [if_neg c, zsv_6 M Nm c6]
    dsimp only
    obtain ⟨d1, d2, d3⟩ := zdo_0 N
    obtain ⟨p0, p1, p2, p3, p4, p5⟩ := zdo_1 N
    have hpd := zpm_drop a5
    generalize f_X2_dropOldest N = N' at *
    have ps : ∀ i, i < 5 → N' 1 i = N 1 (i + 1) := by
      intro i hi
      rcases (show i = 0 ∨ i = 1 ∨ i = 2 ∨ i = 3 ∨ i = 4 by omega) with rfl | rfl | rfl | rfl | rfl <;> assumption
    rw [d1, p5]
    have e0 : (uN N' 0 0 (5 + 1)) 0 0 = 6 := rfl
    have e1 : (uN N' 0 0 (5 + 1)) 1 = N' 1 := rfl
    refine ⟨⟨?_, a2, ⟨?_, ?_⟩, ⟨?_, ?_⟩, ⟨fun i hi => hpd i hi, fun i j hi hj => ?_⟩, fun i hi => ?_, fun s hs => ?_, fun i hi => ?_, a9⟩, fun k hk => (zcp_row (by omega) hk).trans (zSt_row M hk 5), rfl, rfl⟩
    · exact zcp_far (q := 0) (by omega) (by omega) (zSt_far a1' 5 (by omega))
    · exact e0
    · show 6 ≤ 6
      omega
    · show N' 0 1 = Nm 1
      rw [d2]
      exact a4
    · exact a4'
    · rw [e1]
      intro e
      by_cases qi : i = 5
      · by_cases qj : j = 5
        · omega
        · subst qi
          rw [p5, ps j (by omega)] at e
          have := a5' _ _ (by omega) (by omega) e
          omega
      · by_cases qj : j = 5
        · subst qj
          rw [p5, ps i (by omega)] at e
          have := a5' _ _ (by omega) (by omega) e
          omega
        · rw [ps i (by omega), ps j (by omega)] at e
          have := a5' _ _ (by omega) (by omega) e
          omega
    · have hi' : i < 6 := hi
      rw [e1]
      by_cases q : i = 5
      · subst q
        dsimp only
        rw [p5, if_pos rfl]
        exact ⟨zcp_to (to := 6) (by omega) (zSt_far a1' 5 (by omega)), a2⟩
      · dsimp only
        rw [ps i (by omega), if_neg (fun e => by have := a5' _ _ (by omega) (by omega) e; omega)]
        exact ⟨zcp_far (by omega) (by omega) (zSt_to (a6 (i + 1) (by omega)).1 5 (by omega)), (a6 (i + 1) (by omega)).2⟩
    · have hp := a5 0 (by omega)
      rw [zcp_row (by omega) (by omega), zSt_row M (by omega) 5]
      dsimp only
      rw [if_neg (by omega)]
      exact ⟨(a7 s hs).1, fun q => ⟨zcp_far (by omega) (by omega) (zSt_far ((a7 s hs).2 q).1 5 (by omega)), ((a7 s hs).2 q).2⟩⟩
    · rw [zcp_row (by omega) (by omega), zSt_row M (by omega) 5]
      show M 2 i = nI (N' 2 i) ∧ 33 ≤ N' 2 i ∧ N' 2 i < 127
      rw [d3]
      exact a8 i hi
/-! the checks of the model -/
theorem zin_yes {x lo hi : Int32} (h : zrg x lo hi) : ¬ f_X3_in x lo hi = 0 := by
  unfold f_X3_in
  rw [if_neg h.1, if_neg h.2]
  decide
theorem zin_no {x lo hi : Int32} (h : ¬ zrg x lo hi) : f_X3_in x lo hi = 0 := by
  unfold f_X3_in
  by_cases c : x < lo
  · rw [if_pos c]
  · rw [if_neg c]
    by_cases c2 : hi < x
    · rw [if_pos c2]
    · exact absurd ⟨c, c2⟩ h
theorem zin_mem {x : Int32} : zrg x 0 5 ↔ zmem x := by
  refine ⟨fun h => ?_, fun h => ?_⟩
  · refine zmem_ok h.1 (fun q => h.2 ?_)
    rw [Int32.le_iff_toInt_le] at q
    rw [Int32.lt_iff_toInt_lt]
    have e6 : (6 : Int32).toInt = 6 := by decide
    have e5 : (5 : Int32).toInt = 5 := by decide
    omega
  · obtain ⟨q, hq, rfl⟩ := h
    exact ⟨nI_pos (by omega), (by show ¬ nI 5 < nI q; rw [nI_ltI (by omega) (by omega)]; omega)⟩
theorem zin_set {x : Int32} : zrg x 0 1 ↔ zset x := by
  refine ⟨fun h => ?_, fun h => ?_⟩
  · refine zset_ok h.1 (fun q => h.2 ?_)
    rw [Int32.le_iff_toInt_le] at q
    rw [Int32.lt_iff_toInt_lt]
    have e6 : (2 : Int32).toInt = 2 := by decide
    have e5 : (1 : Int32).toInt = 1 := by decide
    omega
  · obtain ⟨q, hq, rfl⟩ := h
    exact ⟨nI_pos (by omega), (by show ¬ nI 1 < nI q; rw [nI_ltI (by omega) (by omega)]; omega)⟩
theorem zmb_no {x : Int32} (h : ¬ zmem x) : f_X3_isMember x = 0 := zin_no (fun q => h (zin_mem.mp q))
theorem zmb_yes {x : Int32} (h : zmem x) : ¬ f_X3_isMember x = 0 := zin_yes (zin_mem.mpr h)
theorem zmb_lt {x : Int32} (h : zmem x) : x.toNatClampNeg < 6 := by
  obtain ⟨q, hq, rfl⟩ := h
  rw [nI_clamp (by omega)]
  exact hq
theorem zset_lt {x : Int32} (h : zset x) : x.toNatClampNeg < 2 := by
  obtain ⟨q, hq, rfl⟩ := h
  rw [nI_clamp (by omega)]
  exact hq
theorem zrg_int {x lo hi : Int32} (h : zrg x lo hi) : lo.toInt ≤ x.toInt ∧ x.toInt ≤ hi.toInt := by
  obtain ⟨h1, h2⟩ := h
  rw [Int32.lt_iff_toInt_lt] at h1 h2
  omega
theorem zrg_am {x : Int32} (h : zrg x 1 9999) : zam x := zrg_int h
theorem zdeed_no1 {M : BK} {i1 am : Int32} (h : ¬ zmem i1) : f_X3_isDeed M i1 am = (0, uB M 4 0 1) := by
  unfold f_X3_isDeed
  rw [if_pos (zmb_no h)]
  rfl
theorem zdeed_no2 {M : BK} {i1 am : Int32} (h : zmem i1) (h2 : ¬ zrg am 1 9999) : f_X3_isDeed M i1 am = (0, uB M 4 0 2) := by
  unfold f_X3_isDeed
  rw [if_neg (zmb_yes h), if_pos (show f_X3_isAmount am = 0 from zin_no h2)]
  rfl
theorem zdeed_yes {M : BK} {i1 am : Int32} (h : zmem i1) (h2 : zrg am 1 9999) : f_X3_isDeed M i1 am = (1, uB M 4 0 0) := by
  unfold f_X3_isDeed
  rw [if_neg (zmb_yes h), if_neg (show ¬ f_X3_isAmount am = 0 from zin_yes h2)]
  rfl
end ZL
