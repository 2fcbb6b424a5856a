/-! a turn's deed: what it makes of the books, and that it keeps what the law says -/
section ZST
variable {N : NK} {B X : BK} {Bs : Nat → BK}
theorem zsv_all (hpm : zpm N) (hsv : N 0 0 ≤ 6) : zpm (f_X2_saveState N B Bs).1 ∧ 1 ≤ (f_X2_saveState N B Bs).1 0 0 ∧ (f_X2_saveState N B Bs).1 0 0 ≤ 6 ∧ (f_X2_saveState N B Bs).1 0 0 = (if 6 ≤ N 0 0 then (6 : Nat) else N 0 0 + 1) ∧ (f_X2_saveState N B Bs).2 ((f_X2_saveState N B Bs).1 1 ((f_X2_saveState N B Bs).1 0 0 - 1)) = B := by
  unfold f_X2_saveState
  by_cases c : N 0 0 < 6
  · rw [if_pos c, if_neg (by omega)]
    dsimp only
    have e0 : (uN N 0 0 (N 0 0 + 1)) 0 0 = N 0 0 + 1 := rfl
    have e1 : (uN N 0 0 (N 0 0 + 1)) 1 = N 1 := rfl
    rw [e0, e1, Nat.add_sub_cancel, if_pos rfl]
    exact ⟨fun i hi => hpm i hi, by omega, by omega, rfl, rfl⟩
  · rw [if_neg c, if_pos (by omega)]
    dsimp only
    have hd := zpm_drop hpm
    have e5 : (f_X2_dropOldest N) 0 0 = 5 := rfl
    rw [e5]
    generalize f_X2_dropOldest N = M at *
    have e0 : (uN M 0 0 (5 + 1)) 0 0 = 6 := rfl
    have e1 : (uN M 0 0 (5 + 1)) 1 = M 1 := rfl
    rw [e0, e1, if_pos rfl]
    exact ⟨fun i hi => hd i hi, by omega, by omega, rfl, rfl⟩
/-- the books behind the deed -/
def zDd (B S : BK) (xx yy : Int32) : BK :=
  if zu xx 16 < 3 then (f_X0_takeIn B (zm yy) (nI (za yy))).2
  else if zu xx 16 = 3 then (f_X0_giveOut B (zm yy) (nI (za yy))).2
  else if zu xx 16 < 6 then (f_X0_addPledge B (zm yy) (zo yy) (nI (za yy))).2
  else if zu xx 16 = 6 then (f_X0_dropPledge B (zm yy) (zo yy) (nI (za yy))).2
  else if zu xx 16 < 9 then (f_X0_lend B (zm yy) (nI (za yy)) (nI (zw yy))).2
  else if zu xx 16 < 11 then (f_X0_takeBack B (zm yy) (zp B yy)).2
  else if zu xx 16 < 13 then (f_X0_endWeek B).2
  else if zu xx 16 = 13 then (if zcan B 6 = 0 then uB B 7 0 (yy &&& 63) else (f_X0_addDays B 9).2)
  else if zu xx 16 = 14 then (f_X0_shareOut B).2
  else if (yy &&& 3) = 0 then S
  else if (yy &&& 3) = 1 then uB B 7 1 (nI (1 + (zu ((yy : Int32) >>> (2 &&& 31)) 5)))
  else uB B 7 0 (nI (zu ((yy : Int32) >>> (2 &&& 31)) 101))
theorem zsel16 {α β γ : Type} (s : α) (t : γ) (b0 b1 b2 b3 b4 b5 b6 b7 b8 b9 : β) {q : Nat} (hq : q < 16) : (if q = 0 then (s, b0, t) else if q = 1 then (s, b0, t) else if q = 2 then (s, b0, t) else if q = 3 then (s, b1, t) else if q = 4 then (s, b2, t) else if q = 5 then (s, b2, t) else if q = 6 then (s, b3, t) else if q = 7 then (s, b4, t) else if q = 8 then (s, b4, t) else if q = 9 then (s, b5, t) else if q = 10 then (s, b5, t) else if q = 11 then (s, b6, t) else if q = 12 then (s, b6, t) else if q = 13 then (s, b7, t) else if q = 14 then (s, b8, t) else (s, b9, t)) = (s, (if q < 3 then b0 else if q = 3 then b1 else if q < 6 then b2 else if q = 6 then b3 else if q < 9 then b4 else if q < 11 then b5 else if q < 13 then b6 else if q = 13 then b7 else if q = 14 then b8 else b9), t) := by
  rcases (show q = 0 ∨ q = 1 ∨ q = 2 ∨ q = 3 ∨ q = 4 ∨ q = 5 ∨ q = 6 ∨ q = 7 ∨ q = 8 ∨ q = 9 ∨ q = 10 ∨ q = 11 ∨ q = 12 ∨ q = 13 ∨ q = 14 ∨ q = 15 by omega) with rfl | rfl | rfl | rfl | rfl | rfl | rfl | rfl | rfl | rfl | rfl | rfl | rfl | rfl | rfl | rfl <;> rfl
theorem zact (hpm : zpm N) (hsv : N 0 0 ≤ 6) (xx yy : Int32) : f_L_acts N B Bs xx yy = ((f_X2_saveState N B Bs).1, zDd B (Bs 7) xx yy, (f_X2_saveState N B Bs).2) := by
  have hm := zm_lt yy
  have ho := zo_lt yy
  have h7 := zsv7 (B := B) (Bs := Bs) hpm hsv
  have a176 : f_L_acts_176 N B Bs xx yy = ((f_X2_saveState N B Bs).1, (f_X0_takeIn B (zm yy) (nI (za yy))).2, (f_X2_saveState N B Bs).2) := by
    unfold f_L_acts_176
    rw [zx_payIn hm]
  have a272 : f_L_acts_272 N B Bs xx yy = ((f_X2_saveState N B Bs).1, (f_X0_giveOut B (zm yy) (nI (za yy))).2, (f_X2_saveState N B Bs).2) := by
    unfold f_L_acts_272
    rw [zx_payOut hm]
  have a381 : f_L_acts_381 N B Bs xx yy = ((f_X2_saveState N B Bs).1, (f_X0_addPledge B (zm yy) (zo yy) (nI (za yy))).2, (f_X2_saveState N B Bs).2) := by
    unfold f_L_acts_381
    rw [zx_pledge hm ho]
  have a489 : f_L_acts_489 N B Bs xx yy = ((f_X2_saveState N B Bs).1, (f_X0_dropPledge B (zm yy) (zo yy) (nI (za yy))).2, (f_X2_saveState N B Bs).2) := by
    unfold f_L_acts_489
    rw [zx_unpledge hm ho]
  have a595 : f_L_acts_595 N B Bs xx yy = ((f_X2_saveState N B Bs).1, (f_X0_lend B (zm yy) (nI (za yy)) (nI (zw yy))).2, (f_X2_saveState N B Bs).2) := by
    unfold f_L_acts_595
    rw [zx_borrow hm]
  have a775 : f_L_acts_775 N B Bs xx yy = ((f_X2_saveState N B Bs).1, (f_X0_takeBack B (zm yy) (zp B yy)).2, (f_X2_saveState N B Bs).2) := by
    unfold f_L_acts_775
    rw [zx_repay hm]
  have a900 : f_L_acts_900 N B Bs xx yy = ((f_X2_saveState N B Bs).1, (f_X0_endWeek B).2, (f_X2_saveState N B Bs).2) := by
    unfold f_L_acts_900 f_L_ends
    rw [zx_week]
  have a905 : f_L_acts_905 N B Bs xx yy = ((f_X2_saveState N B Bs).1, (if zcan B 6 = 0 then uB B 7 0 (yy &&& 63) else (f_X0_addDays B 9).2), (f_X2_saveState N B Bs).2) := by
    unfold f_L_acts_905
    dsimp only
    rw [z911, zx_set0, zx_pass]
    by_cases c : zcan B 6 = 0
    · rw [if_pos c, if_pos c]
    · rw [if_neg c, if_neg c]
  have a1026 : f_L_acts_1026 N B Bs xx yy = ((f_X2_saveState N B Bs).1, (f_X0_shareOut B).2, (f_X2_saveState N B Bs).2) := by
    unfold f_L_acts_1026 f_L_divides
    dsimp only
    rw [zx_dividend]
  have a1031 : f_L_acts_1031 N B Bs xx yy = ((f_X2_saveState N B Bs).1, (if (yy &&& 3) = 0 then Bs 7 else if (yy &&& 3) = 1 then uB B 7 1 (nI (1 + (zu ((yy : Int32) >>> (2 &&& 31)) 5))) else uB B 7 0 (nI (zu ((yy : Int32) >>> (2 &&& 31)) 101))), (f_X2_saveState N B Bs).2) := by
    unfold f_L_acts_1031
    rw [zx_goBack, zx_set1, zx_set0, h7]
    by_cases c : (yy &&& 3) = 0
    · rw [if_pos c, if_pos c]
    · rw [if_neg c, if_neg c]
      by_cases c2 : (yy &&& 3) = 1
      · rw [if_pos c2, if_pos c2]
      · rw [if_neg c2, if_neg c2]
  have hq := zu_lt xx (n := 16) (by decide) (by decide)
  unfold f_L_acts zDd
  rw [a176, a272, a381, a489, a595, a775, a900, a905, a1026, a1031]
  exact zsel16 _ _ _ _ _ _ _ _ _ _ _ _ hq
theorem zQ_deed {n : Int} {S : BK} (h : zQ n B) (hS : zQ n S) (hn : n ≤ 100) (xx yy : Int32) : zQ (n + 1) (zDd B S xx yy) := by
  have hm := zm_lt yy
  have ho := zo_lt yy
  have hne := zo_ne yy
  have ha := za_bd yy
  have hw := zw_bd yy
  have hzp := zp_bd h yy
  have hcw := zcanw h hn
  have ham := zam_n ha.1 ha.2
  have hw1 : 1 ≤ (nI (zw yy)).toInt ∧ (nI (zw yy)).toInt ≤ 52 := by
    rw [nI_toInt (by omega)]
    omega
  have u1 := zu_lt ((yy : Int32) >>> (2 &&& 31)) (n := 101) (by decide) (by decide)
  have u2 := zu_lt ((yy : Int32) >>> (2 &&& 31)) (n := 5) (by decide) (by decide)
  have h63 := zand63 yy
  obtain ⟨hn0, hI, hR⟩ := id h
  have hK : 20000 * n ≤ 2 ^ 29 := by omega
  have mk : ∀ {C : BK} {K' n' : Int}, zI K' C → K' ≤ 20000 * (n + 1) → zR n' C → n' ≤ n + 1 → zQ (n + 1) C := fun a b c d => ⟨by omega, a.mono b, c.mono d⟩
  have s0 : ∀ v : Int32, 0 ≤ v.toInt → v.toInt ≤ 100 → zQ (n + 1) (uB B 7 0 v) := fun v q1 q2 => mk (zI_fee hI q1 q2) (by omega) (zR_set hR (fun e => absurd e (by decide))) (by omega)
  have s1 : ∀ v : Int32, 1 ≤ v.toInt → v.toInt ≤ 5 → zQ (n + 1) (uB B 7 1 v) := fun v q1 q2 => mk (zI_up hI (by omega) (by omega) (by omega) (by omega)) (by omega) (zR_set hR (fun _ => ⟨q1, q2⟩)) (by omega)
  unfold zDd
  refine zif (zQ (n + 1)) (fun _ => ?_) (fun _ => zif (zQ (n + 1)) (fun _ => ?_) (fun _ => zif (zQ (n + 1)) (fun _ => ?_) (fun _ => zif (zQ (n + 1)) (fun _ => ?_) (fun _ => zif (zQ (n + 1)) (fun _ => ?_) (fun _ => zif (zQ (n + 1)) (fun _ => ?_) (fun _ => zif (zQ (n + 1)) (fun _ => ?_) (fun _ => zif (zQ (n + 1)) (fun _ => zif (zQ (n + 1)) (fun _ => ?_) (fun c => ?_)) (fun _ => zif (zQ (n + 1)) (fun _ => ?_) (fun _ => zif (zQ (n + 1)) (fun _ => ?_) (fun _ => zif (zQ (n + 1)) (fun _ => ?_) (fun _ => ?_)))))))))))
  · exact mk (zI_takeIn hI hK hm ham) (by omega) (zR_takeIn hR hI hK hm ham) (by omega)
  · exact mk (zI_giveOut hI hK hm ham) (by omega) (zR_giveOut hR hI hK hm ham) (by omega)
  · exact mk (zI_addPledge hI hK hm ho ham) (by omega) (zR_addPledge hR hm ho hne _) (by omega)
  · exact mk (zI_dropPledge hI hK hm ho ham) (by omega) (zR_dropPledge hR hm ho hne _) (by omega)
  · exact mk (zI_lend hI hK hm ham hw1) (by omega) (zR_lend hR hI hK (by omega) hm ham) (by omega)
  · exact mk (zI_takeBack hI hm hzp) (by omega) (zR_takeBack hR hI hK hm hzp) (by omega)
  · exact mk (zI_endWeek hI hK hcw) (by omega) (zR_endWeek hR hI hK (by omega)) (by omega)
  · exact s0 _ h63.1 (by omega)
  · refine mk (zI_addDays hI (by decide) (zcan_ok hI (by omega) 6 (by omega) c)) (by omega) (zR_addDays hR (by omega)) (by omega)
  · exact mk (zI_shareOut hI hK) (by omega) (zR_shareOut hR hI hK) (by omega)
  · exact hS.mono (by omega)
  · refine s1 _ ?_ ?_
    · rw [nI_toInt (by omega)]
      omega
    · rw [nI_toInt (by omega)]
      omega
  · refine s0 _ ?_ ?_
    · rw [nI_toInt (by omega)]
      omega
    · rw [nI_toInt (by omega)]
      omega
theorem zQ_new : zQ 0 zB0 := by
  refine ⟨Int.le_refl 0, zI_new, ?_⟩
  refine ⟨rfl, ?_, ?_, by decide, by decide, by decide, by decide, by decide⟩
  · intro i hi
    revert i
    decide
  · intro i hi
    revert i
    decide
/-- the looks but for the count of saved states -/
theorem zlk (N N' : NK) (B : BK) : f_L_looks N B = f_L_looks N' B := by
  have h6 : ∀ n, n ≤ 11 → f_L_looks_6 N B 107 n = f_L_looks_6 N' B 107 n := by
    intro n
    induction n with
    | zero => intro _; rfl
    | succ n ih =>
      intro hn
      unfold f_L_looks_6
      dsimp only
      rw [ih (by omega)]
      have e : f_X2_count N B (nI n) = f_X2_count N' B (nI n) := by
        unfold f_X2_count
        rw [nI_clamp (by omega)]
        rcases (show n = 0 ∨ n = 1 ∨ n = 2 ∨ n = 3 ∨ n = 4 ∨ n = 5 ∨ n = 6 ∨ n = 7 ∨ n = 8 ∨ n = 9 ∨ n = 10 by omega) with rfl | rfl | rfl | rfl | rfl | rfl | rfl | rfl | rfl | rfl | rfl <;> rfl
      rw [e]
  have h33 : ∀ i n, f_L_looks_33 N B i n = f_L_looks_33 N' B i n := by
    intro i n
    induction n with
    | zero => rfl
    | succ n ih =>
      unfold f_L_looks_33
      dsimp only
      rw [ih]
  have h67 : ∀ i n, f_L_looks_67 N B i n = f_L_looks_67 N' B i n := by
    intro i n
    induction n with
    | zero => rfl
    | succ n ih =>
      unfold f_L_looks_67
      dsimp only
      rw [ih]
  unfold f_L_looks
  dsimp only
  rw [h6 11 (by omega), h33, h67]
/-- what holds at the head of turn n -/
def zT (n : Int) (N : NK) (B X : BK) (Bs : Nat → BK) : Prop := zpm N ∧ N 0 0 ≤ 6 ∧ zQ n B ∧ zQ n (Bs 7) ∧ ¬ X 0 0 = 0
theorem zT_act {n : Int} (h : zT n N B X Bs) (hn : n ≤ 99) (xx yy : Int32) : zT (n + 1) (f_L_acts N B Bs xx yy).1 (f_L_acts N B Bs xx yy).2.1 X (f_L_acts N B Bs xx yy).2.2 := by
  obtain ⟨h1, h2, h3, h4, h5⟩ := h
  rw [zact h1 h2]
  have s := zsv_all (B := B) (Bs := Bs) h1 h2
  have s7 := zsv7 (B := B) (Bs := Bs) h1 h2
  refine ⟨s.1, s.2.2.1, zQ_deed h3 h4 (by omega) xx yy, ?_, h5⟩
  dsimp only
  rw [s7]
  exact h4.mono (by omega)
theorem zT_cnt {n : Int} (h : zT n N B X Bs) (xx yy : Int32) : (f_L_acts N B Bs xx yy).1 0 0 = (if 6 ≤ N 0 0 then (6 : Nat) else N 0 0 + 1) := by
  obtain ⟨h1, h2, h3, h4, h5⟩ := h
  rw [zact h1 h2]
  exact (zsv_all (B := B) (Bs := Bs) h1 h2).2.2.2.1
/-- undoing gives the books back -/
theorem zT_undo {n : Int} (h : zT n N B X Bs) (xx yy : Int32) : 1 ≤ (f_L_acts N B Bs xx yy).1 0 0 ∧ (f_X2_undo (f_L_acts N B Bs xx yy).1 (f_L_acts N B Bs xx yy).2.2).1 = nI ((f_L_acts N B Bs xx yy).1 0 0 - 1) ∧ (f_X2_undo (f_L_acts N B Bs xx yy).1 (f_L_acts N B Bs xx yy).2.2).2.2 = B ∧ zT n (f_X2_undo (f_L_acts N B Bs xx yy).1 (f_L_acts N B Bs xx yy).2.2).2.1 B X (f_L_acts N B Bs xx yy).2.2 ∧ (f_L_acts (f_X2_undo (f_L_acts N B Bs xx yy).1 (f_L_acts N B Bs xx yy).2.2).2.1 B (f_L_acts N B Bs xx yy).2.2 xx yy).2.1 = (f_L_acts N B Bs xx yy).2.1 := by
  obtain ⟨h1, h2, h3, h4, h5⟩ := id h
  have s := zsv_all (B := B) (Bs := Bs) h1 h2
  have s7 := zsv7 (B := B) (Bs := Bs) h1 h2
  rw [zact h1 h2]
  dsimp only
  generalize (f_X2_saveState N B Bs).1 = N1 at *
  generalize (f_X2_saveState N B Bs).2 = Bs1 at *
  obtain ⟨s1, s2, s3, s4, s5⟩ := s
  have u1 : f_X2_undo N1 Bs1 = (nI (N1 0 0 - 1), uN N1 0 0 (N1 0 0 - 1), Bs1 (N1 1 (N1 0 0 - 1))) := rfl
  rw [u1, s5]
  dsimp only
  have t : zT n (uN N1 0 0 (N1 0 0 - 1)) B X Bs1 := by
    refine ⟨fun i hi => s1 i hi, ?_, h3, ?_, h5⟩
    · show N1 0 0 - 1 ≤ 6
      omega
    · rw [s7]
      exact h4
  refine ⟨s2, rfl, rfl, t, ?_⟩
  rw [zact t.1 t.2.1]
  dsimp only
  rw [s7]
theorem zT_keep {n : Int} (h : zT n N B X Bs) : zT n N B (f_X2_keep X B Bs 0).2.1 (f_X2_keep X B Bs 0).2.2 := by
  obtain ⟨h1, h2, h3, h4, h5⟩ := h
  refine ⟨h1, h2, h3, ?_, ?_⟩
  · show zQ n B
    exact h3
  · show ¬ (1 : Int32) = 0
    decide
theorem zT_ahead {n : Int} (h : zT n N B X Bs) (hn : n ≤ 100) {mb am : Nat} (hm : mb < 6) : zT n N B (f_L_isAhead X B mb am) Bs := by
  obtain ⟨h1, h2, h3, h4, h5⟩ := h
  have hK : 20000 * n ≤ 2 ^ 29 := by
    have := h3.1
    omega
  refine ⟨h1, h2, h3, h4, ?_⟩
  have e : ∀ (Y : BK) (a : Int32), (f_X2_guarantors Y B (nI mb) a 0).2 0 = Y 0 := fun Y a => by
    rw [zgu0 Y B hm]
    exact (zfew2 h3.2.1 hK hm Y a).2.2.1
  have e1 : ∀ (Y : BK) (a : Int32), (f_X2_guarantors Y B (nI mb) a 1).2 0 = Y 0 := fun Y a => by
    rw [zgu1 Y B hm]
    exact (zfew2 h3.2.1 hK hm Y a).2.2.2
  unfold f_L_isAhead
  rw [e1, e, e]
  exact h5
end ZST
