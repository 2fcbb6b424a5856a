/-! orders are done on both sides -/
section ZRU
theorem zx1 (x : Int32) : ¬ x + 1 = x := by
  intro e
  have h : x + 1 - x = x - x := by rw [e]
  rw [Int32.add_comm, Int32.add_sub_cancel, Int32.sub_self] at h
  exact absurd h (by decide)
/-- refused or not -/
def zrf (B : BK) (r : Int32 × BK) (good : Prop) : Prop := (good ∧ r.2 8 6 = B 8 6) ∨ (¬ good ∧ r.2 8 6 = B 8 6 + 1)
theorem zrf_takeIn {K : Int} {B : BK} (h : zI K B) (hK : K ≤ 2 ^ 29) {mb : Nat} (hm : mb < 6) {am : Int32} (ha : zam am) : zrf B (f_X0_takeIn B mb am) (¬ (f_X0_takeIn B mb am).1 = -1) := by
  obtain ⟨ha1, ha2⟩ := ha
  have hs := zsh_le h hm
  have hs0 := zsh_nn h hm
  have e4 : (B 0 mb).toInt = zv B 0 mb := rfl
  have em : (-1 : Int32).toInt = -1 := by decide
  unfold f_X0_takeIn
  by_cases c : B 0 mb + am ≤ 90000
  · rw [if_pos c]
    left
    dsimp only
    refine ⟨fun e => ?_, ?_⟩
    · have := congrArg Int32.toInt e
      rw [Jvm.Kit.i32_add (by omega) (by omega), em] at this
      omega
    · rw [uB_ne _ _ (by decide), uB_row _ _ _ (by decide)]
  · rw [if_neg c]
    right
    dsimp only
    exact ⟨fun q => q rfl, uB_self _ _ _ _⟩
theorem zrf_giveOut (B : BK) (mb : Nat) (am : Int32) : zrf B (f_X0_giveOut B mb am) ((f_X0_giveOut B mb am).1 = 0) := by
  unfold f_X0_giveOut
  by_cases c : am ≤ f_X0_freeShares B mb
  · rw [if_pos c]
    by_cases c2 : am ≤ B 8 0
    · rw [if_pos c2]
      left
      dsimp only
      refine ⟨rfl, ?_⟩
      rw [uB_ne _ _ (by decide), uB_row _ _ _ (by decide)]
    · rw [if_neg c2]
      right
      dsimp only
      exact ⟨z20, uB_self _ _ _ _⟩
  · rw [if_neg c]
    right
    dsimp only
    exact ⟨z10, uB_self _ _ _ _⟩
theorem zrf_addPledge {K : Int} {B : BK} (h : zI K B) (hK : K ≤ 2 ^ 29) {mb br : Nat} (hm : mb < 6) (hb : br < 6) {am : Int32} (ha : zam am) : zrf B (f_X0_addPledge B mb br am) (¬ (f_X0_addPledge B mb br am).1 = -1) := by
  obtain ⟨ha1, ha2⟩ := ha
  have hs := zsh_le h hm
  have hp := zbI_one h hm hb
  have hp0 := h.2.1 (mb * 6 + br) (by omega)
  have b1 := h.2.2.2.1 mb hm
  have e4 : (B 2 (mb * 6 + br)).toInt = zv B 2 (mb * 6 + br) := rfl
  have em : (-1 : Int32).toInt = -1 := by decide
  unfold f_X0_addPledge
  by_cases c : am ≤ f_X0_freeShares B mb
  · rw [if_pos c]
    left
    dsimp only
    refine ⟨fun e => ?_, ?_⟩
    · rw [uB_self] at e
      have := congrArg Int32.toInt e
      rw [Jvm.Kit.i32_add (by omega) (by omega), em] at this
      omega
    · rw [uB_row _ _ _ (by decide)]
  · rw [if_neg c]
    right
    dsimp only
    exact ⟨fun q => q rfl, uB_self _ _ _ _⟩
theorem zrf_lend (B : BK) (mb : Nat) (am wk : Int32) : zrf B (f_X0_lend B mb am wk) ((f_X0_lend B mb am wk).1 = 0) := by
  unfold f_X0_lend
  by_cases c : f_X0_whyNoLoan B mb am = 0
  · rw [if_pos c]
    left
    dsimp only
    refine ⟨rfl, ?_⟩
    rw [uB_ne _ _ (by decide), uB_row _ _ _ (by decide), uB_row _ _ _ (by decide), uB_row _ _ _ (by decide), uB_row _ _ _ (by decide), uB_ne _ _ (by decide), uB_ne _ _ (by decide)]
  · rw [if_neg c]
    right
    dsimp only
    exact ⟨c, uB_self _ _ _ _⟩
theorem zrf_takeBack {K : Int} {B : BK} (h : zI K B) {mb : Nat} (hm : mb < 6) {am : Int32} (ha : zam am) : zrf B (f_X0_takeBack B mb am) (¬ (f_X0_takeBack B mb am).1 = -1) := by
  obtain ⟨ha1, ha2⟩ := ha
  have b3 := h.2.2.1 mb hm
  have e4 : (B 3 mb).toInt = zv B 3 mb := rfl
  have em : (-1 : Int32).toInt = -1 := by decide
  unfold f_X0_takeBack
  by_cases c : am ≤ B 3 mb
  · rw [if_pos c]
    rw [Int32.le_iff_toInt_le] at c
    left
    dsimp only
    refine ⟨fun e => ?_, ?_⟩
    · rw [uB_row _ _ _ (by decide), uB_self, uB_row _ _ _ (by decide)] at e
      have := congrArg Int32.toInt e
      rw [Jvm.Kit.i32_sub (by omega) (by omega), em] at this
      omega
    · rw [uB_row _ _ _ (by decide), uB_row _ _ _ (by decide), uB_ne _ _ (by decide)]
  · rw [if_neg c]
    right
    dsimp only
    exact ⟨fun q => q rfl, uB_self _ _ _ _⟩
theorem zrf_endWeek {K : Int} {B : BK} (h : zI K B) (hK : K ≤ 2 ^ 29) : (f_X0_endWeek B).2 8 6 = B 8 6 := by
  obtain ⟨g1, g2⟩ := zI_week4 h hK 6 (by omega)
  unfold f_X0_endWeek
  dsimp only
  rw [uB_ne _ _ (by decide), uB_ne _ _ (by decide), g2]
/-- how an order ends on both sides -/
def zDn (K : Int) (B M : BK) (D : Int32 × BK) (M' : BK) : Prop := zcur D.2 M' ∧ zonly M M' ∧ zI (K + 10000) D.2 ∧ ((D.1 = 1 ∧ D.2 8 6 = B 8 6) ∨ (D.1 = 0 ∧ D.2 8 6 = B 8 6 + 1))
theorem zDn.good {K : Int} {B M : BK} {r q : Int32 × BK} {P : Prop} {x y : Int32 × BK} {d : Decidable P} (e : zsim r q M) (g : zI (K + 10000) r.2) (h : zrf B r P) (hx : x = (1, r.2)) (hy : y = (0, r.2)) : zDn K B M (@ite _ P d x y) q.2 := by
  subst hx hy
  rcases h with ⟨h1, h2⟩ | ⟨h1, h2⟩
  · rw [if_pos h1]
    exact ⟨e.2.1, e.2.2, g, Or.inl ⟨rfl, h2⟩⟩
  · rw [if_neg h1]
    exact ⟨e.2.1, e.2.2, g, Or.inr ⟨rfl, h2⟩⟩
theorem zDn.bad {K : Int} {B M : BK} {r q : Int32 × BK} {P : Prop} {x y : Int32 × BK} {d : Decidable P} (e : zsim r q M) (g : zI (K + 10000) r.2) (h : zrf B r (¬ P)) (hx : x = (0, r.2)) (hy : y = (1, r.2)) : zDn K B M (@ite _ P d x y) q.2 := by
  subst hx hy
  rcases h with ⟨h1, h2⟩ | ⟨h1, h2⟩
  · rw [if_neg h1]
    exact ⟨e.2.1, e.2.2, g, Or.inl ⟨rfl, h2⟩⟩
  · rw [if_pos (Classical.not_not.mp h1)]
    exact ⟨e.2.1, e.2.2, g, Or.inr ⟨rfl, h2⟩⟩
theorem zdo_43 {K : Int} {B M : BK} (hc : zcur B M) (hi : zI K B) (hK : K ≤ 2 ^ 29) {s : Nat → Nat} (ho : zOF s M) (c : s 1 = 43) : zDn K B M (f_X2_doOrder s B) (f_X3_does M ((M 4 2).toNatClampNeg % 6) ((M 4 3).toNatClampNeg % 6)) := by
  obtain ⟨o1, o2, o3, o4, o5⟩ := ho
  have ek : ∀ c : Nat, c < 127 → (nI (s 1) = nI c ↔ s 1 = c) := fun c h => nI_eq (by omega) (by omega)
  obtain ⟨m1, m2, m3, m4, m5⟩ := o3 (by omega)
  have ea : (nI (s 4)).toInt = s 4 := nI_toInt (by omega)
  have am : zam (nI (s 4)) := by
    unfold zam
    omega
  have e1 : f_X2_doOrder s B = if (f_X0_takeIn B (s 2) (nI (s 4))).1 = -1 then (0, (f_X0_takeIn B (s 2) (nI (s 4))).2) else (1, (f_X0_takeIn B (s 2) (nI (s 4))).2) := by
    unfold f_X2_doOrder
    rw [if_pos c]
  have e2 : f_X3_does M ((M 4 2).toNatClampNeg % 6) ((M 4 3).toNatClampNeg % 6) = (f_X3_paysIn M (s 2) (nI (s 4))).2 := by
    unfold f_X3_does
    rw [o1, if_pos ((show nI (s 1) = 43 ↔ s 1 = 43 from ek 43 (by omega)).mpr c), m1, m3, nI_clamp (by omega), Nat.mod_eq_of_lt m2]
  rw [e1, e2]
  exact zDn.bad (ze_takeIn hc m2 (nI (s 4))) (zI_takeIn hi hK m2 am) (zrf_takeIn hi hK m2 am) rfl rfl
theorem zdo_45 {K : Int} {B M : BK} (hc : zcur B M) (hi : zI K B) (hK : K ≤ 2 ^ 29) {s : Nat → Nat} (ho : zOF s M) (c : s 1 = 45) : zDn K B M (f_X2_doOrder s B) (f_X3_does M ((M 4 2).toNatClampNeg % 6) ((M 4 3).toNatClampNeg % 6)) := by
  obtain ⟨o1, o2, o3, o4, o5⟩ := ho
  have ek : ∀ c : Nat, c < 127 → (nI (s 1) = nI c ↔ s 1 = c) := fun c h => nI_eq (by omega) (by omega)
  obtain ⟨m1, m2, m3, m4, m5⟩ := o3 (by omega)
  have ea : (nI (s 4)).toInt = s 4 := nI_toInt (by omega)
  have am : zam (nI (s 4)) := by
    unfold zam
    omega
  have e1 : f_X2_doOrder s B = if (f_X0_giveOut B (s 2) (nI (s 4))).1 = 0 then (1, (f_X0_giveOut B (s 2) (nI (s 4))).2) else (0, (f_X0_giveOut B (s 2) (nI (s 4))).2) := by
    unfold f_X2_doOrder
    rw [if_neg (by omega : ¬ s 1 = 43), if_pos c]
  have e2 : f_X3_does M ((M 4 2).toNatClampNeg % 6) ((M 4 3).toNatClampNeg % 6) = (f_X3_paysOut M (s 2) (nI (s 4))).2 := by
    unfold f_X3_does
    rw [o1, if_neg (fun q => by have := (show nI (s 1) = 43 ↔ s 1 = 43 from ek 43 (by omega)).mp q; omega), if_pos ((show nI (s 1) = 45 ↔ s 1 = 45 from ek 45 (by omega)).mpr c), m1, m3, nI_clamp (by omega), Nat.mod_eq_of_lt m2]
  rw [e1, e2]
  exact zDn.good (ze_giveOut hc m2 (nI (s 4))) ((zI_giveOut hi hK m2 am).mono (by omega)) (zrf_giveOut B (s 2) (nI (s 4))) rfl rfl
theorem zdo_98 {K : Int} {B M : BK} (hc : zcur B M) (hi : zI K B) (hK : K ≤ 2 ^ 29) {s : Nat → Nat} (ho : zOF s M) (c : s 1 = 98) : zDn K B M (f_X2_doOrder s B) (f_X3_does M ((M 4 2).toNatClampNeg % 6) ((M 4 3).toNatClampNeg % 6)) := by
  obtain ⟨o1, o2, o3, o4, o5⟩ := ho
  have ek : ∀ c : Nat, c < 127 → (nI (s 1) = nI c ↔ s 1 = c) := fun c h => nI_eq (by omega) (by omega)
  obtain ⟨m1, m2, m3, m4, m5⟩ := o3 (by omega)
  have ea : (nI (s 4)).toInt = s 4 := nI_toInt (by omega)
  have am : zam (nI (s 4)) := by
    unfold zam
    omega
  obtain ⟨w1, w2, w3⟩ := o5 c
  have ew : (nI (s 5)).toInt = s 5 := nI_toInt (by omega)
  have e1 : f_X2_doOrder s B = if (f_X0_lend B (s 2) (nI (s 4)) (nI (s 5))).1 = 0 then (1, (f_X0_lend B (s 2) (nI (s 4)) (nI (s 5))).2) else (0, (f_X0_lend B (s 2) (nI (s 4)) (nI (s 5))).2) := by
    unfold f_X2_doOrder
    rw [if_neg (by omega : ¬ s 1 = 43), if_neg (by omega : ¬ s 1 = 45), if_pos c]
  have e2 : f_X3_does M ((M 4 2).toNatClampNeg % 6) ((M 4 3).toNatClampNeg % 6) = (f_X3_lends M (s 2) (nI (s 4)) (nI (s 5))).2 := by
    unfold f_X3_does
    rw [o1, if_neg (fun q => by have := (show nI (s 1) = 43 ↔ s 1 = 43 from ek 43 (by omega)).mp q; omega), if_neg (fun q => by have := (show nI (s 1) = 45 ↔ s 1 = 45 from ek 45 (by omega)).mp q; omega), if_pos ((show nI (s 1) = 98 ↔ s 1 = 98 from ek 98 (by omega)).mpr c), m1, m3, w1, nI_clamp (by omega), Nat.mod_eq_of_lt m2]
  rw [e1, e2]
  exact zDn.good (ze_lend hc m2 (nI (s 4)) (nI (s 5)) (zr0 hi m2)) (zI_lend hi hK m2 am (wk := nI (s 5)) (by omega)) (zrf_lend B (s 2) (nI (s 4)) (nI (s 5))) rfl rfl
theorem zdo_112 {K : Int} {B M : BK} (hc : zcur B M) (hi : zI K B) (hK : K ≤ 2 ^ 29) {s : Nat → Nat} (ho : zOF s M) (c : s 1 = 112) : zDn K B M (f_X2_doOrder s B) (f_X3_does M ((M 4 2).toNatClampNeg % 6) ((M 4 3).toNatClampNeg % 6)) := by
  obtain ⟨o1, o2, o3, o4, o5⟩ := ho
  have ek : ∀ c : Nat, c < 127 → (nI (s 1) = nI c ↔ s 1 = c) := fun c h => nI_eq (by omega) (by omega)
  obtain ⟨m1, m2, m3, m4, m5⟩ := o3 (by omega)
  have ea : (nI (s 4)).toInt = s 4 := nI_toInt (by omega)
  have am : zam (nI (s 4)) := by
    unfold zam
    omega
  obtain ⟨b1, b2⟩ := o4 c
  have e1 : f_X2_doOrder s B = if (f_X0_addPledge B (s 2) (s 3) (nI (s 4))).1 = -1 then (0, (f_X0_addPledge B (s 2) (s 3) (nI (s 4))).2) else (1, (f_X0_addPledge B (s 2) (s 3) (nI (s 4))).2) := by
    unfold f_X2_doOrder
    rw [if_neg (by omega : ¬ s 1 = 43), if_neg (by omega : ¬ s 1 = 45), if_neg (by omega : ¬ s 1 = 98), if_pos c]
  have e2 : f_X3_does M ((M 4 2).toNatClampNeg % 6) ((M 4 3).toNatClampNeg % 6) = (f_X3_pledges M (s 2) (s 3) (nI (s 4))).2 := by
    unfold f_X3_does
    rw [o1, if_neg (fun q => by have := (show nI (s 1) = 43 ↔ s 1 = 43 from ek 43 (by omega)).mp q; omega), if_neg (fun q => by have := (show nI (s 1) = 45 ↔ s 1 = 45 from ek 45 (by omega)).mp q; omega), if_neg (fun q => by have := (show nI (s 1) = 98 ↔ s 1 = 98 from ek 98 (by omega)).mp q; omega), if_pos ((show nI (s 1) = 112 ↔ s 1 = 112 from ek 112 (by omega)).mpr c), m1, m3, b1, nI_clamp (by omega), nI_clamp (by omega), Nat.mod_eq_of_lt m2, Nat.mod_eq_of_lt b2]
  rw [e1, e2]
  exact zDn.bad (ze_addPledge hc m2 b2 (nI (s 4))) ((zI_addPledge hi hK m2 b2 am).mono (by omega)) (zrf_addPledge hi hK m2 b2 am) rfl rfl
theorem zdo_114 {K : Int} {B M : BK} (hc : zcur B M) (hi : zI K B) (hK : K ≤ 2 ^ 29) {s : Nat → Nat} (ho : zOF s M) (c : s 1 = 114) : zDn K B M (f_X2_doOrder s B) (f_X3_does M ((M 4 2).toNatClampNeg % 6) ((M 4 3).toNatClampNeg % 6)) := by
  obtain ⟨o1, o2, o3, o4, o5⟩ := ho
  have ek : ∀ c : Nat, c < 127 → (nI (s 1) = nI c ↔ s 1 = c) := fun c h => nI_eq (by omega) (by omega)
  obtain ⟨m1, m2, m3, m4, m5⟩ := o3 (by omega)
  have ea : (nI (s 4)).toInt = s 4 := nI_toInt (by omega)
  have am : zam (nI (s 4)) := by
    unfold zam
    omega
  have e1 : f_X2_doOrder s B = if (f_X0_takeBack B (s 2) (nI (s 4))).1 = -1 then (0, (f_X0_takeBack B (s 2) (nI (s 4))).2) else (1, (f_X0_takeBack B (s 2) (nI (s 4))).2) := by
    unfold f_X2_doOrder
    rw [if_neg (by omega : ¬ s 1 = 43), if_neg (by omega : ¬ s 1 = 45), if_neg (by omega : ¬ s 1 = 98), if_neg (by omega : ¬ s 1 = 112), if_pos c]
  have e2 : f_X3_does M ((M 4 2).toNatClampNeg % 6) ((M 4 3).toNatClampNeg % 6) = (f_X3_repays M (s 2) (nI (s 4))).2 := by
    unfold f_X3_does
    rw [o1, if_neg (fun q => by have := (show nI (s 1) = 43 ↔ s 1 = 43 from ek 43 (by omega)).mp q; omega), if_neg (fun q => by have := (show nI (s 1) = 45 ↔ s 1 = 45 from ek 45 (by omega)).mp q; omega), if_neg (fun q => by have := (show nI (s 1) = 98 ↔ s 1 = 98 from ek 98 (by omega)).mp q; omega), if_neg (fun q => by have := (show nI (s 1) = 112 ↔ s 1 = 112 from ek 112 (by omega)).mp q; omega), if_pos ((show nI (s 1) = 114 ↔ s 1 = 114 from ek 114 (by omega)).mpr c), m1, m3, nI_clamp (by omega), Nat.mod_eq_of_lt m2]
  rw [e1, e2]
  exact zDn.bad (ze_takeBack hc m2 (nI (s 4))) ((zI_takeBack hi m2 am).mono (by omega)) (zrf_takeBack hi m2 am) rfl rfl
theorem zdo_119 {K : Int} {B M : BK} (hc : zcur B M) (hi : zI K B) (hK : K ≤ 2 ^ 29) {s : Nat → Nat} (ho : zOF s M) (c : s 1 = 119) (hw : ¬ f_X0_canEndWeek B = 0) (fm sm : Nat) : zDn K B M (f_X2_doOrder s B) (f_X3_does M fm sm) := by
  obtain ⟨o1, o2, o3, o4, o5⟩ := ho
  have ek : ∀ c : Nat, c < 127 → (nI (s 1) = nI c ↔ s 1 = c) := fun c h => nI_eq (by omega) (by omega)
  have e1 : f_X2_doOrder s B = (1, (f_X0_endWeek B).2) := by
    unfold f_X2_doOrder
    rw [if_neg (by omega : ¬ s 1 = 43), if_neg (by omega : ¬ s 1 = 45), if_neg (by omega : ¬ s 1 = 98), if_neg (by omega : ¬ s 1 = 112), if_neg (by omega : ¬ s 1 = 114), if_neg hw]
  have e2 : f_X3_does M fm sm = (f_X3_endsWeek M).2 := by
    unfold f_X3_does
    rw [o1, if_neg (fun q => by have := (show nI (s 1) = 43 ↔ s 1 = 43 from ek 43 (by omega)).mp q; omega), if_neg (fun q => by have := (show nI (s 1) = 45 ↔ s 1 = 45 from ek 45 (by omega)).mp q; omega), if_neg (fun q => by have := (show nI (s 1) = 98 ↔ s 1 = 98 from ek 98 (by omega)).mp q; omega), if_neg (fun q => by have := (show nI (s 1) = 112 ↔ s 1 = 112 from ek 112 (by omega)).mp q; omega), if_neg (fun q => by have := (show nI (s 1) = 114 ↔ s 1 = 114 from ek 114 (by omega)).mp q; omega)]
  rw [e1, e2]
  have a := ze_endWeek hc
  have g := (zI_endWeek hi hK hw).mono (K' := K + 10000) (by omega)
  have w := zrf_endWeek hi hK
  generalize f_X0_endWeek B = r at *
  generalize f_X3_endsWeek M = q at *
  exact ⟨a.2.1, a.2.2, g, Or.inl ⟨rfl, w⟩⟩
/-- an order done on both sides -/
theorem zdo1 {K : Int} {B M : BK} (hc : zcur B M) (hi : zI K B) (hK : K ≤ 2 ^ 29) {s : Nat → Nat} (ho : zOF s M) (hw : s 1 = 119 → ¬ f_X0_canEndWeek B = 0) : zDn K B M (f_X2_doOrder s B) (f_X3_does M ((M 4 2).toNatClampNeg % 6) ((M 4 3).toNatClampNeg % 6)) := by
  rcases ho.2.1 with c | c | c | c | c | c
  · exact zdo_43 hc hi hK ho c
  · exact zdo_45 hc hi hK ho c
  · exact zdo_112 hc hi hK ho c
  · exact zdo_98 hc hi hK ho c
  · exact zdo_114 hc hi hK ho c
  · exact zdo_119 hc hi hK ho c (hw c) _ _
end ZRU
