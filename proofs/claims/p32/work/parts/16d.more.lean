/-! more that the books keep: money, bounds by turns -/
section ZR
def zSH (B : BK) : Int := zS (zv B 0) 6
def zRS (B : BK) : Int := zS (zv B 3) 6
def zind (x : Int) : Int := if 0 < x then 1 else 0
def zLn (B : BK) : Int := zS (fun i => zind (zv B 3 i)) 6
theorem zSH_0 (B : BK) {i : Nat} (x : Int32) (hi : i < 6) : zSH (uB B 0 i x) = zSH B + (x.toInt - zv B 0 i) := by
  unfold zSH
  rw [zS_up (f := zv B 0) (g := zv (uB B 0 i x) 0) (j := i) (fun j hj => zv_ne B x (fun e => hj e.2)) hi, zv_self]
theorem zSH_ne (B : BK) {k : Nat} (i : Nat) (x : Int32) (h : ¬ 0 = k) : zSH (uB B k i x) = zSH B := zS_congr (fun j _ => zv_row B _ _ x h)
theorem zRS_3 (B : BK) {i : Nat} (x : Int32) (hi : i < 6) : zRS (uB B 3 i x) = zRS B + (x.toInt - zv B 3 i) := by
  unfold zRS
  rw [zS_up (f := zv B 3) (g := zv (uB B 3 i x) 3) (j := i) (fun j hj => zv_ne B x (fun e => hj e.2)) hi, zv_self]
theorem zRS_ne (B : BK) {k : Nat} (i : Nat) (x : Int32) (h : ¬ 3 = k) : zRS (uB B k i x) = zRS B := zS_congr (fun j _ => zv_row B _ _ x h)
theorem zLn_3 (B : BK) {i : Nat} (x : Int32) (hi : i < 6) : zLn (uB B 3 i x) = zLn B + (zind x.toInt - zind (zv B 3 i)) := by
  unfold zLn
  rw [zS_up (f := fun j => zind (zv B 3 j)) (g := fun j => zind (zv (uB B 3 i x) 3 j)) (j := i) (fun j hj => by rw [zv_ne B x (fun e => hj e.2)]) hi, zv_self]
theorem zLn_ne (B : BK) {k : Nat} (i : Nat) (x : Int32) (h : ¬ 3 = k) : zLn (uB B k i x) = zLn B := zS_congr (fun j _ => by rw [zv_row B _ _ x h])
theorem zind_01 (x : Int) : 0 ≤ zind x ∧ zind x ≤ 1 := by
  unfold zind
  split <;> omega
theorem zind_1 {x : Int} (h : 0 < x) : zind x = 1 := if_pos h
theorem zind_0 {x : Int} (h : ¬ 0 < x) : zind x = 0 := if_neg h
theorem zLn_nn (B : BK) : 0 ≤ zLn B ∧ zLn B ≤ 6 := by
  have h := fun i => zind_01 (zv B 3 i)
  have h0 := h 0
  have h1 := h 1
  have h2 := h 2
  have h3 := h 3
  have h4 := h 4
  have h5 := h 5
  unfold zLn
  rw [zS6]
  omega
def zR (n : Int) (B : BK) : Prop :=
  zv B 8 0 + zRS B = zSH B + zv B 8 1 ∧ (∀ i, i < 6 → zv B 2 (i * 6 + i) = 0) ∧ (∀ i, i < 6 → zv B 0 i + zv B 8 1 ≤ 90000 + 1000 * n) ∧ zv B 8 1 ≤ 1000 * n ∧
  (1 ≤ zv B 7 1 ∧ zv B 7 1 ≤ 5) ∧ (0 ≤ zv B 8 3 ∧ zv B 8 3 + zLn B ≤ zv B 8 2 ∧ zv B 8 2 ≤ n) ∧ (0 ≤ zv B 8 4 ∧ zv B 8 4 ≤ n) ∧ (0 ≤ zv B 8 5 ∧ zv B 8 5 ≤ 9 * n)
def zQ (n : Int) (B : BK) : Prop := 0 ≤ n ∧ zI (20000 * n) B ∧ zR n B
theorem zR.mono {n n' : Int} {B : BK} (h : zR n B) (hn : n ≤ n') : zR n' B := by
  obtain ⟨h1, h2, h3, h4, h5, h6, h7, h8⟩ := h
  exact ⟨h1, h2, fun i hi => by have := h3 i hi; omega, by omega, h5, ⟨h6.1, h6.2.1, by omega⟩, ⟨h7.1, by omega⟩, ⟨h8.1, by omega⟩⟩
theorem zQ.mono {n n' : Int} {B : BK} (h : zQ n B) (hn : n ≤ n') : zQ n' B := ⟨by have := h.1; omega, h.2.1.mono (by omega), h.2.2.mono hn⟩
/-- places that zR doesn't speak of -/
theorem zR.skip {n : Int} {B : BK} (h : zR n B) {k i : Nat} (x : Int32) (h0 : ¬ 0 = k) (h2 : ¬ 2 = k) (h3 : ¬ 3 = k) (h7 : ¬ (7 = k ∧ 1 = i)) (h8 : 8 = k → 6 ≤ i) : zR n (uB B k i x) := by
  have e8 : ∀ j, j < 6 → zv (uB B k i x) 8 j = zv B 8 j := fun j hj => zv_ne B x (fun e => by have := h8 e.1; omega)
  unfold zR at h ⊢
  rw [zSH_ne B i x h0, zRS_ne B i x h3, zLn_ne B i x h3, e8 0 (by omega), e8 1 (by omega), e8 2 (by omega), e8 3 (by omega), e8 4 (by omega), e8 5 (by omega), zv_ne B (k' := 7) x h7]
  obtain ⟨a1, a2, a3, a4⟩ := h
  exact ⟨a1, fun j hj => by rw [zv_row B _ _ x h2]; exact a2 j hj, fun j hj => by rw [zv_row B _ _ x h0]; exact a3 j hj, a4⟩
theorem zR.ref {n : Int} {B : BK} (h : zR n B) (x : Int32) : zR n (uB B 8 6 x) := h.skip x (by decide) (by decide) (by decide) (by decide) (by omega)
/-- the till's bounds -/
theorem z_till {n K : Int} {B : BK} (h : zR n B) (hI : zI K B) : 0 ≤ zv B 8 0 ∧ zv B 8 0 ≤ K ∧ 0 ≤ zRS B ∧ zRS B ≤ zSH B ∧ zSH B + zv B 8 1 ≤ K ∧ 0 ≤ zv B 8 1 ∧ 0 ≤ zSH B := by
  have h1 := h.1
  have h2 := z_rests_le hI
  have h3 := zsh_tot hI
  have h4 := hI.2.2.2.2.2.2.1.2
  have h5 := hI.2.2.2.2.2.2.2
  have h6 : 0 ≤ zS (zv B 3) 6 := zS_nn (fun i hi => (hI.2.2.1 i hi).1)
  unfold zRS zSH at *
  omega
/-- shares of one, and the till -/
theorem zR_sh {n d : Int} {B : BK} (h : zR n B) {mb : Nat} (hm : mb < 6) {x y : Int32} (hx : x.toInt = zv B 0 mb + d) (hy : y.toInt = zv B 8 0 + d) (hd : d ≤ 0 ∨ x.toInt ≤ 90000) : zR n (uB (uB B 0 mb x) 8 0 y) := by
  obtain ⟨a1, a2, a3, a4, a5, a6, a7, a8⟩ := h
  have e8 : ∀ j, ¬ j = 0 → zv (uB (uB B 0 mb x) 8 0 y) 8 j = zv B 8 j := fun j hj => by rw [zv_ne _ y (fun e => hj e.2), zv_row B _ _ x (by decide)]
  unfold zR
  rw [zSH_ne _ _ y (by decide), zRS_ne _ _ y (by decide), zLn_ne _ _ y (by decide), zSH_0 B x hm, zRS_ne B _ x (by decide), zLn_ne B _ x (by decide), zv_self, e8 1 (by omega), e8 2 (by omega), e8 3 (by omega), e8 4 (by omega), e8 5 (by omega), zv_row _ _ _ y (by decide), zv_row B _ _ x (by decide)]
  refine ⟨by omega, fun j hj => ?_, fun j hj => ?_, a4, a5, a6, a7, a8⟩
  · rw [zv_row _ _ _ y (by decide), zv_row B _ _ x (by decide)]
    exact a2 j hj
  · rw [zv_row _ _ _ y (by decide)]
    have := a3 j hj
    by_cases c : j = mb
    · subst c
      rw [zv_self]
      omega
    · rw [zv_ne B x (fun e => c e.2)]
      exact this
theorem zR_takeIn {n K : Int} {B : BK} (h : zR n B) (hI : zI K B) (hK : K ≤ 2 ^ 29) {mb : Nat} (hm : mb < 6) {am : Int32} (ha : zam am) : zR n (f_X0_takeIn B mb am).2 := by
  obtain ⟨ha1, ha2⟩ := ha
  have hs := zsh_le hI hm
  have hs0 := zsh_nn hI hm
  have ht := z_till h hI
  have e4 : (B 0 mb).toInt = zv B 0 mb := rfl
  have e5 : (B 8 0).toInt = zv B 8 0 := rfl
  unfold f_X0_takeIn
  by_cases c : B 0 mb + am ≤ 90000
  · rw [if_pos c]
    dsimp only
    rw [uB_row B _ _ (by decide : ¬ 8 = 0)]
    have e : (B 0 mb + am).toInt = zv B 0 mb + am.toInt := by rw [Jvm.Kit.i32_add (by omega) (by omega), e4]
    rw [Int32.le_iff_toInt_le] at c
    have e9 : (90000 : Int32).toInt = 90000 := by decide
    exact zR_sh h hm e (by rw [Jvm.Kit.i32_add (by omega) (by omega), e5]) (Or.inr (by omega))
  · rw [if_neg c]
    exact h.ref _
theorem zR_giveOut {n K : Int} {B : BK} (h : zR n B) (hI : zI K B) (hK : K ≤ 2 ^ 29) {mb : Nat} (hm : mb < 6) {am : Int32} (ha : zam am) : zR n (f_X0_giveOut B mb am).2 := by
  obtain ⟨ha1, ha2⟩ := ha
  have hs := zsh_le hI hm
  have hs0 := zsh_nn hI hm
  have ht := z_till h hI
  have e4 : (B 0 mb).toInt = zv B 0 mb := rfl
  have e5 : (B 8 0).toInt = zv B 8 0 := rfl
  unfold f_X0_giveOut
  by_cases c : am ≤ f_X0_freeShares B mb
  · rw [if_pos c]
    by_cases c2 : am ≤ B 8 0
    · rw [if_pos c2]
      dsimp only
      rw [uB_row B _ _ (by decide : ¬ 8 = 0)]
      exact zR_sh (d := -am.toInt) h hm (by rw [Jvm.Kit.i32_sub (by omega) (by omega), e4]; omega) (by rw [Jvm.Kit.i32_sub (by omega) (by omega), e5]; omega) (Or.inl (by omega))
    · rw [if_neg c2]
      exact h.ref _
  · rw [if_neg c]
    exact h.ref _
/-- a pledge for another -/
theorem zR_pl {n : Int} {B : BK} (h : zR n B) {mb br : Nat} (hm : mb < 6) (hb : br < 6) (hne : ¬ mb = br) (x : Int32) : zR n (uB B 2 (mb * 6 + br) x) := by
  obtain ⟨a1, a2, a3, a4⟩ := h
  have e8 : ∀ j, zv (uB B 2 (mb * 6 + br) x) 8 j = zv B 8 j := fun j => zv_row B _ _ x (by decide)
  unfold zR
  rw [zSH_ne B _ x (by decide), zRS_ne B _ x (by decide), zLn_ne B _ x (by decide), e8 0, e8 1, e8 2, e8 3, e8 4, e8 5, zv_row B (k' := 7) _ _ x (by decide)]
  refine ⟨a1, fun j hj => ?_, fun j hj => ?_, a4⟩
  · rw [zv_ne B x (fun e => by omega)]
    exact a2 j hj
  · rw [zv_row B _ _ x (by decide)]
    exact a3 j hj
theorem zR_addPledge {n : Int} {B : BK} (h : zR n B) {mb br : Nat} (hm : mb < 6) (hb : br < 6) (hne : ¬ mb = br) (am : Int32) : zR n (f_X0_addPledge B mb br am).2 := by
  unfold f_X0_addPledge
  exact zif (fun (r : Int32 × BK) => zR n r.2) (fun _ => zR_pl h hm hb hne _) (fun _ => h.ref _)
theorem zR_dropPledge {n : Int} {B : BK} (h : zR n B) {mb br : Nat} (hm : mb < 6) (hb : br < 6) (hne : ¬ mb = br) (am : Int32) : zR n (f_X0_dropPledge B mb br am).2 := by
  unfold f_X0_dropPledge
  exact zif (fun (r : Int32 × BK) => zR n r.2) (fun _ => zif (fun (r : Int32 × BK) => zR n r.2) (fun _ => zR_pl h hm hb hne _) (fun _ => h.ref _)) (fun _ => h.ref _)
end ZR
