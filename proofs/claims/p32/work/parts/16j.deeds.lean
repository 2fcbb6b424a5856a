/-! what a turn's deed tells: shares, pledges -/
section ZDE
theorem zsum_cg {f g : Nat → Int32} : ∀ {n : Nat}, (∀ i, i < n → g i = f i) → zsum g n = zsum f n
  | 0, _ => rfl
  | n + 1, h => by
    show zsum g n + g n = zsum f n + f n
    rw [zsum_cg (fun i hi => h i (by omega)), h n (by omega)]
theorem zsum_ud {f g : Nat → Int32} {i : Nat} {d : Int32} (h : ∀ j, ¬ j = i → g j = f j) (hd : g i = f i + d) : ∀ {n : Nat}, i < n → zsum g n = zsum f n + d
  | 0, hi => absurd hi (Nat.not_lt_zero i)
  | n + 1, hi => by
    show zsum g n + g n = zsum f n + f n + d
    by_cases c : i = n
    · subst c
      rw [zsum_cg (fun j hj => h j (by omega)), hd, Int32.add_assoc]
    · rw [zsum_ud h hd (by omega), h n (fun e => c e.symm), Int32.add_assoc, Int32.add_assoc, Int32.add_comm d]
theorem zas_ud {B C : BK} {i : Nat} {d : Int32} (hi : i < 6) (h : ∀ j, ¬ j = i → C 0 j = B 0 j) (hd : C 0 i = B 0 i + d) : f_X0_allShares C = f_X0_allShares B + d := zsum_ud (f := B 0) (g := C 0) h hd hi
theorem zas_eq {B C : BK} (h : C 0 = B 0) : f_X0_allShares C = f_X0_allShares B := zsum_cg (f := B 0) (g := C 0) (n := 6) (fun j _ => by rw [h])
theorem zar_ud {B C : BK} {i : Nat} {d : Int32} (hi : i < 6) (h : ∀ j, ¬ j = i → C 3 j = B 3 j) (hd : C 3 i = B 3 i + d) : f_X0_allRests C = f_X0_allRests B + d := zsum_ud (f := B 3) (g := C 3) h hd hi
theorem zar_eq {B C : BK} (h : C 3 = B 3) : f_X0_allRests C = f_X0_allRests B := zsum_cg (f := B 3) (g := C 3) (n := 6) (fun j _ => by rw [h])
variable {N : NK} {B X : BK} {Bs : Nat → BK}
theorem zx_payIn {m : Nat} (hm : m < 6) (a : Int32) : f_X2_payIn N B Bs (nI m) a = ((f_X0_takeIn B m a).1, (f_X2_saveState N B Bs).1, (f_X0_takeIn B m a).2, (f_X2_saveState N B Bs).2) := by
  unfold f_X2_payIn
  rw [nI_clamp (by omega)]
theorem zx_payOut {m : Nat} (hm : m < 6) (a : Int32) : f_X2_payOut N B Bs (nI m) a = ((f_X0_giveOut B m a).1, (f_X2_saveState N B Bs).1, (f_X0_giveOut B m a).2, (f_X2_saveState N B Bs).2) := by
  unfold f_X2_payOut
  rw [nI_clamp (by omega)]
theorem zx_repay {m : Nat} (hm : m < 6) (a : Int32) : f_X2_repay N B Bs (nI m) a = ((f_X0_takeBack B m a).1, (f_X2_saveState N B Bs).1, (f_X0_takeBack B m a).2, (f_X2_saveState N B Bs).2) := by
  unfold f_X2_repay
  rw [nI_clamp (by omega)]
theorem zx_pledge {m o : Nat} (hm : m < 6) (ho : o < 6) (a : Int32) : f_X2_pledge N B Bs (nI m) (nI o) a = ((f_X0_addPledge B m o a).1, (f_X2_saveState N B Bs).1, (f_X0_addPledge B m o a).2, (f_X2_saveState N B Bs).2) := by
  unfold f_X2_pledge
  rw [nI_clamp (by omega), nI_clamp (by omega)]
theorem zx_unpledge {m o : Nat} (hm : m < 6) (ho : o < 6) (a : Int32) : f_X2_unpledge N B Bs (nI m) (nI o) a = ((f_X0_dropPledge B m o a).1, (f_X2_saveState N B Bs).1, (f_X0_dropPledge B m o a).2, (f_X2_saveState N B Bs).2) := by
  unfold f_X2_unpledge
  rw [nI_clamp (by omega), nI_clamp (by omega)]
theorem zx_borrow {m : Nat} (hm : m < 6) (a w : Int32) : f_X2_borrow N B Bs (nI m) a w = ((f_X0_lend B m a w).1, (f_X2_saveState N B Bs).1, (f_X0_lend B m a w).2, (f_X2_saveState N B Bs).2) := by
  unfold f_X2_borrow
  rw [nI_clamp (by omega)]
theorem zx_week : f_X2_week N B Bs = ((f_X0_endWeek B).1, (f_X2_saveState N B Bs).1, (f_X0_endWeek B).2, (f_X2_saveState N B Bs).2) := rfl
theorem zx_pass (d : Int32) : f_X2_pass N B Bs d = ((f_X0_addDays B d).1, (f_X2_saveState N B Bs).1, (f_X0_addDays B d).2, (f_X2_saveState N B Bs).2) := rfl
theorem zx_dividend : f_X2_dividend N B Bs = ((f_X0_shareOut B).1, (f_X2_saveState N B Bs).1, (f_X0_shareOut B).2, (f_X2_saveState N B Bs).2) := rfl
theorem zx_set0 (v : Int32) : f_X2_set N B Bs 0 v = (B 7 0, (f_X2_saveState N B Bs).1, uB B 7 0 v, (f_X2_saveState N B Bs).2) := by
  unfold f_X2_set
  rw [show (0 : Int32).toNatClampNeg = 0 from rfl, if_pos rfl]
theorem zx_set1 (v : Int32) : f_X2_set N B Bs 1 v = (B 7 1, (f_X2_saveState N B Bs).1, uB B 7 1 v, (f_X2_saveState N B Bs).2) := by
  unfold f_X2_set
  rw [show (1 : Int32).toNatClampNeg = 1 from rfl, if_neg (by decide)]
theorem zx_goBack : f_X2_goBack N B Bs 0 = (f_X0_loans ((f_X2_saveState N B Bs).2 7), (f_X2_saveState N B Bs).1, (f_X2_saveState N B Bs).2 7, (f_X2_saveState N B Bs).2) := rfl
theorem zam_n {a : Nat} (h1 : 1 ≤ a) (h2 : a < 10000) : zam (nI a) := by
  unfold zam
  rw [nI_toInt (by omega)]
  omega
theorem zf_176 {n : Int} {y : Int32} (h : zQ n B) (hn : n ≤ 100) : zF_acts_176 N B Bs y := by
  have hm := zm_lt y
  have ha := za_bd y
  unfold zF_acts_176
  simp only [zx_payIn hm, (zmo B hm).1, (zct N B).1, (zct N B).2.2.1, (zct N B).2.2.2.2.2.2.2.2.2.1, (zct (f_X2_saveState N B Bs).1 _).1, (zct (f_X2_saveState N B Bs).1 _).2.2.1, (zct (f_X2_saveState N B Bs).1 _).2.2.2.2.2.2.2.2.2.1]
  generalize nI (za y) = a
  generalize zm y = m at *
  unfold f_X0_takeIn
  refine ⟨fun c => ?_, fun c => ?_, fun c => ?_, fun c => ?_, fun c => ?_⟩
  · rw [if_pos c]
  · rw [if_pos c]
    dsimp only
    rw [uB_self, uB_row _ _ _ (by decide)]
  · rw [if_pos c]
    dsimp only
    refine zas_ud hm (fun j hj => ?_) ?_
    · rw [uB_row _ _ _ (by decide), uB_ne _ _ (fun e => hj e.2)]
    · rw [uB_row _ _ _ (by decide), uB_self]
  · rw [if_neg c]
  · rw [if_neg c]
    dsimp only
    rw [uB_self]
theorem zf_272 {n : Int} {y : Int32} (h : zQ n B) (hn : n ≤ 100) : zF_acts_272 N B Bs y := by
  have hm := zm_lt y
  have ha := za_bd y
  unfold zF_acts_272
  simp only [zx_payOut hm, (zmo B hm).2.2.2.2.1, (zct N B).1, (zct N B).2.2.1, (zct N B).2.2.2.2.2.2.2.2.2.1, (zct (f_X2_saveState N B Bs).1 _).1, (zct (f_X2_saveState N B Bs).1 _).2.2.1, (zct (f_X2_saveState N B Bs).1 _).2.2.2.2.2.2.2.2.2.1]
  generalize nI (za y) = a
  generalize zm y = m at *
  unfold f_X0_giveOut
  by_cases c : a ≤ f_X0_freeShares B m
  · by_cases c2 : a ≤ B 8 0
    · simp only [if_pos c, if_pos c2]
      refine ⟨by decide, by decide, by decide, fun q => absurd trivial q, fun q => absurd trivial q, fun _ => ?_, fun _ => ?_⟩
      · rw [uB_self, uB_row _ _ _ (by decide)]
      · refine Eq.trans (zas_ud (B := B) (d := -a) hm (fun j hj => ?_) ?_) (by rw [Int32.sub_eq_add_neg])
        · rw [uB_row _ _ _ (by decide), uB_ne _ _ (fun e => hj e.2)]
        · rw [uB_row _ _ _ (by decide), uB_self, Int32.sub_eq_add_neg]
    · simp only [if_pos c, if_neg c2]
      refine ⟨by decide, by decide, by decide, fun _ => uB_self _ _ _ _, fun _ => uB_ne _ _ (by decide), fun q => absurd q (by decide), fun q => absurd q (by decide)⟩
  · simp only [if_neg c]
    refine ⟨by decide, by decide, by decide, fun _ => uB_self _ _ _ _, fun _ => uB_ne _ _ (by decide), fun q => absurd q (by decide), fun q => absurd q (by decide)⟩
end ZDE
