/-! one order, second part -/
section ZPC
variable {n : Nat} {t : Nat → Nat} {S : Nat → Nat → Nat}
theorem zk5 {k : Nat} (h : k = 43 ∨ k = 45 ∨ k = 112 ∨ k = 98 ∨ k = 114) : k < 127 := by omega
theorem zk98 {k : Nat} (h : k < 127) : nI k = 98 ↔ k = 98 := nI_eq (b := 98) (by omega) (by omega)
theorem zk112 {k : Nat} (h : k < 127) : nI k = 112 ↔ k = 112 := nI_eq (b := 112) (by omega) (by omega)
theorem z153 (hS : ∀ j, S (j + 1) = (f_X1_take (S j) (t j)).2) (hn : n ≤ 60) {M : BK} {N4 : Nat → Nat} (M0 : BK) (N0 : Nat → Nat) (hx : ztx n t M N4) {s : Nat → Nat} (hs : S (N4 2) = s) (h0 : s 0 = 5) (h5 : s 5 = 0)
    (h4 : M 4 4 = nI (s 4)) (h41 : 1 ≤ s 4) (h42 : s 4 ≤ 9999) (hk : M 4 1 = nI (s 1)) (hkd : s 1 = 43 ∨ s 1 = 45 ∨ s 1 = 112 ∨ s 1 = 98 ∨ s 1 = 114) (h2 : M 4 2 = nI (s 2) ∧ s 2 < 6) (h3 : s 1 = 112 → M 4 3 = nI (s 3) ∧ s 3 < 6)
    (hnd : ¬ (48 ≤ zsg n t (N4 2) ∧ zsg n t (N4 2) ≤ 57 ∧ 1 ≤ s 4 * 10 + (zsg n t (N4 2) - 48) ∧ s 4 * 10 + (zsg n t (N4 2) - 48) ≤ 9999)) : zPO n t S (N4 2) M N4 (f_X3_readsOrder_153 M0 N0 M N4) := by
  have hlt := zk5 hkd
  unfold f_X3_readsOrder_153
  dsimp only
  rw [hk, h4]
  by_cases c : s 1 = 98
  · rw [if_pos ((zk98 hlt).mpr c), if_neg (nI_ne0 (by omega) (by omega))]
    rcases ztk hx (c := 47) (by omega) with ⟨z1, z2, z3⟩ | ⟨z1, z3⟩
    · have z3' : f_X3_takesSign M N4 47 = (1, va_up N4 2 (N4 2 + 1)) := z3
      rw [z3']
      dsimp only
      rw [if_neg z10]
      have et : t (N4 2) = 47 := (zsg_y z2).symm.trans z1
      have htk : f_X1_take (S (N4 2)) (t (N4 2)) = (1, va_up s 0 6) := by rw [hs, et]; exact zt5s h0 c (by omega)
      have hS1 : S (N4 2 + 1) = va_up s 0 6 := by rw [hS, htk]
      have hr : znR n t S 5 52 (va_up N4 2 (N4 2 + 1)) 0 (f_X3_readsNumber M (va_up N4 2 (N4 2 + 1)) 52) := znum hS (fld := 5) (st := 6) (kd := 98) (mt := 52) (by omega) (by omega) (by omega)
        (fun s c a1 a2 a3 a4 a5 a6 => zt6d a1 a3 a4 a5 a6) hn M (va_up N4 2 (N4 2 + 1)) (hx.at (by omega)) (by rw [zup_self, hS1, zup_self]) (by rw [zup_self, hS1, zup_ne (by decide)]; exact c) (by rw [zup_self, hS1, zup_ne (by decide)]; exact h5)
      generalize f_X3_readsNumber M (va_up N4 2 (N4 2 + 1)) 52 = res at *
      obtain ⟨v, r1, r2, r3, r4, r5, r6, r7, r8, r9, r10⟩ := hr
      rw [zup_self] at r6 r8 r9
      rw [hS1] at r9
      have r4' : res.2 0 = N4 0 := r4
      have r5' : res.2 1 = N4 1 := r5
      have q0 : (S (res.2 2)) 0 = 6 := by rw [r9]; rfl
      have q1 : (S (res.2 2)) 1 = s 1 := by rw [r9]; rfl
      have q2 : (S (res.2 2)) 2 = s 2 := by rw [r9]; rfl
      have q3 : (S (res.2 2)) 3 = s 3 := by rw [r9]; rfl
      have q4 : (S (res.2 2)) 4 = s 4 := by rw [r9]; rfl
      have q5 : (S (res.2 2)) 5 = v := by rw [r9]; rfl
      have ok := (zokr.one htk (by omega)).tr r8
      have hfl : res.2 2 < n → (t (res.2 2) = 59 → f_X1_isWhole (S (res.2 2)) = 0) → (f_X1_take (S (res.2 2)) (t (res.2 2))).1 = 0 := by
        intro hl h59
        rw [zsg_y hl] at r10
        exact zt6n q0 (by omega) (by rw [q5]; exact r10) h59
      unfold f_X3_readsOrder_205
      rw [uB_self, r1]
      by_cases cv : v = 0
      · rw [if_pos (by rw [cv, nI_0]; exact Int32.le_refl 0)]
        have hw : f_X1_isWhole (S (res.2 2)) = 0 := Classical.not_not.mp (fun z => by have := (zwh_6 q0).mp z; omega)
        exact (zPO.no (M := M) (Nm := res.2) r7 (fun k hk => uB_row _ _ _ hk) (uB_ne _ _ (by decide)) hw (fun hl => hfl hl (fun _ => hw))).up (by omega) ok r4' r5' (fun _ _ => rfl) rfl
      · rw [if_neg (nI_nle (by omega) (by omega))]
        refine ⟨(by show N4 2 ≤ res.2 2; omega), r7, ok, r4', r5', fun k hk => uB_row _ _ _ hk, (show (uB M 4 5 (nI v)) 4 0 = M 4 0 from uB_ne _ _ (by decide)), Or.inr ⟨rfl, (zwh_6 q0).mpr (by omega), ⟨?_, by rw [q1]; omega, fun _ => ⟨?_, by rw [q2]; exact h2.2, ?_, by rw [q4]; exact h41, by rw [q4]; exact h42⟩, fun e => ?_, fun _ => ⟨?_, by rw [q5]; omega, by rw [q5]; exact r3⟩⟩, fun hl h59 => hfl hl (fun e => absurd e h59)⟩⟩
        · show (uB M 4 5 (nI v)) 4 1 = nI ((S (res.2 2)) 1)
          rw [uB_ne _ _ (by decide), q1, hk]
        · show (uB M 4 5 (nI v)) 4 2 = nI ((S (res.2 2)) 2)
          rw [uB_ne _ _ (by decide), q2, h2.1]
        · show (uB M 4 5 (nI v)) 4 4 = nI ((S (res.2 2)) 4)
          rw [uB_ne _ _ (by decide), q4, h4]
        · exfalso
          have e' : (S (res.2 2)) 1 = 112 := e
          omega
        · show (uB M 4 5 (nI v)) 4 5 = nI ((S (res.2 2)) 5)
          rw [uB_self, q5]
    · have z3' : f_X3_takesSign M N4 47 = (0, va_up N4 2 (N4 2)) := z3
      rw [z3', zup_id]
      dsimp only
      rw [if_pos rfl]
      unfold f_X3_readsOrder_205
      rw [uB_self, if_pos (Int32.le_refl 0)]
      have hw : f_X1_isWhole (S (N4 2)) = 0 := Classical.not_not.mp (fun z => by rw [hs] at z; exact ((zwh_5 h0).mp z).2 c)
      refine zPO.no hx.2.1 (fun k hk => uB_row _ _ _ hk) (uB_ne _ _ (by decide)) hw (fun hl => ?_)
      rw [zsg_y hl] at hnd z1
      rw [hs]
      exact zt5n h0 (by omega) hnd (fun q => z1 q.1) (fun _ => by rw [← hs]; exact hw)
  · rw [if_neg (fun q => c ((zk98 hlt).mp q)), if_neg (nI_nle (by omega) (by omega))]
    have hw : ¬ f_X1_isWhole (S (N4 2)) = 0 := by
      rw [hs]
      exact (zwh_5 h0).mpr ⟨by omega, c⟩
    refine ⟨Nat.le_refl _, hx.2.1, zokr.rf _ _ _, rfl, rfl, fun _ _ => rfl, rfl, Or.inr ⟨rfl, hw, ?_, fun hl h59 => ?_⟩⟩
    · dsimp only
      rw [hs]
      exact ⟨hk, by omega, fun _ => ⟨h2.1, h2.2, h4, h41, h42⟩, h3, fun e => absurd e c⟩
    · dsimp only at hl h59 ⊢
      rw [zsg_y hl] at hnd
      rw [hs]
      exact zt5n h0 (by omega) hnd (fun q => c q.2.1) (fun e => absurd e h59)
theorem z129 (hS : ∀ j, S (j + 1) = (f_X1_take (S j) (t j)).2) (hn : n ≤ 60) {M : BK} {N3 : Nat → Nat} (M0 : BK) (N0 : Nat → Nat) (hx : ztx n t M N3) {s : Nat → Nat} (hs : S (N3 2) = s) (h0 : s 0 = 4) (h5 : s 5 = 0) (h4 : s 4 = 0)
    (hk : M 4 1 = nI (s 1)) (hkd : s 1 = 43 ∨ s 1 = 45 ∨ s 1 = 112 ∨ s 1 = 98 ∨ s 1 = 114) (h2 : M 4 2 = nI (s 2) ∧ s 2 < 6) (h3 : s 1 = 112 → M 4 3 = nI (s 3) ∧ s 3 < 6) : zPO n t S (N3 2) M N3 (f_X3_readsOrder_129 M0 N0 M N3) := by
  have hlt := zk5 hkd
  unfold f_X3_readsOrder_129
  dsimp only
  rcases ztk hx (c := 58) (by omega) with ⟨z1, z2, z3⟩ | ⟨z1, z3⟩
  · have z3' : f_X3_takesSign M N3 58 = (1, va_up N3 2 (N3 2 + 1)) := z3
    rw [z3']
    dsimp only
    rw [if_neg z10]
    have et : t (N3 2) = 58 := (zsg_y z2).symm.trans z1
    have htk : f_X1_take (S (N3 2)) (t (N3 2)) = (1, va_up s 0 5) := by rw [hs, et]; exact zt4 h0
    have hS1 : S (N3 2 + 1) = va_up s 0 5 := by rw [hS, htk]
    have hr : znR n t S 4 9999 (va_up N3 2 (N3 2 + 1)) 0 (f_X3_readsNumber M (va_up N3 2 (N3 2 + 1)) 9999) := znum hS (fld := 4) (st := 5) (kd := s 1) (mt := 9999) (by omega) (by omega) (by omega)
      (fun s c a1 a2 a3 a4 a5 a6 => zt5d a1 a3 a4 a5 a6) hn M (va_up N3 2 (N3 2 + 1)) (hx.at (by omega)) (by rw [zup_self, hS1, zup_self]) (by rw [zup_self, hS1, zup_ne (by decide)]) (by rw [zup_self, hS1, zup_ne (by decide)]; exact h4)
    generalize f_X3_readsNumber M (va_up N3 2 (N3 2 + 1)) 9999 = res at *
    obtain ⟨v, r1, r2, r3, r4, r5, r6, r7, r8, r9, r10⟩ := hr
    rw [zup_self] at r6 r8 r9
    rw [hS1] at r9
    have r4' : res.2 0 = N3 0 := r4
    have r5' : res.2 1 = N3 1 := r5
    have q0 : (S (res.2 2)) 0 = 5 := by rw [r9]; rfl
    have q1 : (S (res.2 2)) 1 = s 1 := by rw [r9]; rfl
    have q2 : (S (res.2 2)) 2 = s 2 := by rw [r9]; rfl
    have q3 : (S (res.2 2)) 3 = s 3 := by rw [r9]; rfl
    have q4 : (S (res.2 2)) 4 = v := by rw [r9]; rfl
    have q5 : (S (res.2 2)) 5 = 0 := by rw [r9]; exact h5
    have ok := (zokr.one htk (by omega)).tr r8
    rw [r1]
    by_cases cv : v = 0
    · rw [z153a (by rw [uB_self, cv, nI_0])]
      have hw : f_X1_isWhole (S (res.2 2)) = 0 := Classical.not_not.mp (fun z => by have := (zwh_5 q0).mp z; omega)
      refine (zPO.no (M := M) (Nm := res.2) r7 (fun k hk => uB_row _ _ _ hk) (uB_ne _ _ (by decide)) hw (fun hl => ?_)).up (by omega) ok r4' r5' (fun _ _ => rfl) rfl
      rw [zsg_y hl] at r10
      exact zt5n q0 (by omega) (by rw [q4]; exact r10) (fun q => by omega) (fun _ => hw)
    · refine (z153 hS hn M0 N0 (M := uB M 4 4 (nI v)) (N4 := res.2) ((hx.m4 4 _).nm r5' r7) (s := S (res.2 2)) rfl q0 q5 (by rw [uB_self, q4]) (by omega) (by omega) (by rw [uB_ne _ _ (by decide), q1]; exact hk) (by rw [q1]; exact hkd) (by rw [uB_ne _ _ (by decide), q2]; exact h2) (by rw [uB_ne _ _ (by decide), q1, q3]; exact h3) (by rw [q4]; exact r10)).up (by omega) ok r4' r5' (fun k hk => uB_row _ _ _ hk) (uB_ne _ _ (by decide))
  · have z3' : f_X3_takesSign M N3 58 = (0, va_up N3 2 (N3 2)) := z3
    rw [z3', zup_id]
    dsimp only
    rw [if_pos rfl, z153a (uB_self _ _ _ _)]
    refine zPO.no hx.2.1 (fun k hk => uB_row _ _ _ hk) (uB_ne _ _ (by decide)) (zwh_lo (by rw [hs]; omega)) (fun hl => ?_)
    rw [zsg_y hl] at z1
    rw [hs]
    exact zt4n h0 z1
theorem zrmb {M : BK} {Nm : Nat → Nat} (hx : ztx n t M Nm) (bu : Int32) : (48 ≤ zsg n t (Nm 2) ∧ zsg n t (Nm 2) ≤ 53 ∧ ¬ nI (zsg n t (Nm 2) - 48) = bu ∧ Nm 2 < n ∧ f_X3_readsMember M Nm bu = (nI (zsg n t (Nm 2) - 48), va_up Nm 2 (Nm 2 + 1))) ∨ (¬ (48 ≤ zsg n t (Nm 2) ∧ zsg n t (Nm 2) ≤ 53 ∧ ¬ nI (zsg n t (Nm 2) - 48) = bu) ∧ f_X3_readsMember M Nm bu = (-1, Nm)) := by
  obtain ⟨e1, e2, e3⟩ := zsg_s hx
  have hin := zinN (z := zsg n t (Nm 2)) (a := 48) (b := 53) (by omega) (by omega) (by omega)
  have e0 : va_up Nm 2 (Nm 2 + 0) = Nm := zup_id Nm 2
  unfold f_X3_readsMember
  rw [e1, e0]
  by_cases c : f_X3_in (nI (zsg n t (Nm 2))) 48 53 = 0
  · rw [if_pos c]
    exact Or.inr ⟨fun q => hin.mpr ⟨q.1, q.2.1⟩ c, rfl⟩
  · obtain ⟨d1, d2⟩ := hin.mp c
    rw [if_neg c, znI48 d1 e2, if_neg (zm1 (j := zsg n t (Nm 2) - 48) (by omega))]
    by_cases c2 : nI (zsg n t (Nm 2) - 48) = bu
    · rw [if_pos c2]
      exact Or.inr ⟨fun q => q.2.2 c2, rfl⟩
    · rw [if_neg c2]
      exact Or.inl ⟨d1, d2, c2, by omega, rfl⟩
theorem z66 (hS : ∀ j, S (j + 1) = (f_X1_take (S j) (t j)).2) (hn : n ≤ 60) {M : BK} {N2 : Nat → Nat} (M0 : BK) (N0 : Nat → Nat) (hx : ztx n t M N2) {s : Nat → Nat} (hs : S (N2 2) = s) (h0 : s 0 = 1) (h5 : s 5 = 0) (h4 : s 4 = 0)
    (hk : M 4 1 = nI (s 1)) (hkd : s 1 = 43 ∨ s 1 = 45 ∨ s 1 = 112 ∨ s 1 = 98 ∨ s 1 = 114) : zPO n t S (N2 2) M N2 (f_X3_readsOrder_66 M0 N0 M N2) := by
  have hlt := zk5 hkd
  obtain ⟨_, e2, _⟩ := zsg_s hx
  unfold f_X3_readsOrder_66
  dsimp only
  rcases zrmb hx (-1) with ⟨a1, a2, a3, a4, a5⟩ | ⟨a1, a5⟩
  · rw [a5]
    dsimp only
    rw [uB_self, if_neg a3, uB_ne M (k := 4) (k' := 4) (i := 2) (i' := 1) _ (by decide), hk]
    rw [zsg_y a4] at a1 a2 a3 e2 ⊢
    have htk : f_X1_take (S (N2 2)) (t (N2 2)) = (1, va_up (va_up s 2 (t (N2 2) - 48)) 0 (if s 1 = 112 then 2 else 4)) := by rw [hs]; exact zt1 h0 a1 a2
    have hS1 : S (N2 2 + 1) = va_up (va_up s 2 (t (N2 2) - 48)) 0 (if s 1 = 112 then 2 else 4) := by rw [hS, htk]
    have ok1 := zokr.one htk (by omega)
    have hx1 : ztx n t (uB M 4 2 (nI (t (N2 2) - 48))) (va_up N2 2 (N2 2 + 1)) := (hx.m4 2 _).at (by omega)
    have q1 : (S (N2 2 + 1)) 1 = s 1 := by rw [hS1]; rfl
    have q2 : (S (N2 2 + 1)) 2 = t (N2 2) - 48 := by rw [hS1]; rfl
    have q4 : (S (N2 2 + 1)) 4 = 0 := by rw [hS1]; exact h4
    have q5 : (S (N2 2 + 1)) 5 = 0 := by rw [hS1]; exact h5
    have m1 : (uB M 4 2 (nI (t (N2 2) - 48))) 4 1 = nI (s 1) := by rw [uB_ne _ _ (by decide)]; exact hk
    have m2 : (uB M 4 2 (nI (t (N2 2) - 48))) 4 2 = nI (t (N2 2) - 48) := uB_self _ _ _ _
    have mr : ∀ k, ¬ k = 4 → (uB M 4 2 (nI (t (N2 2) - 48))) k = M k := fun k hk => uB_row _ _ _ hk
    have m0 : (uB M 4 2 (nI (t (N2 2) - 48))) 4 0 = M 4 0 := uB_ne _ _ (by decide)
    generalize uB M 4 2 (nI (t (N2 2) - 48)) = M1 at *
    by_cases c : s 1 = 112
    · rw [if_pos ((zk112 hlt).mpr c)]
      rw [if_pos c] at hS1
      have q0 : (S (N2 2 + 1)) 0 = 2 := by rw [hS1]; rfl
      have ea : (va_up N2 2 (N2 2 + 1)) 2 = N2 2 + 1 := zup_self
      rcases ztk hx1 (c := 62) (by omega) with ⟨z1, z2, z3⟩ | ⟨z1, z3⟩
      · have z3' : f_X3_takesSign M1 (va_up N2 2 (N2 2 + 1)) 62 = (1, va_up (va_up N2 2 (N2 2 + 1)) 2 ((va_up N2 2 (N2 2 + 1)) 2 + 1)) := z3
        rw [z3', zup_up, ea]
        dsimp only
        rw [if_neg z10]
        rw [ea] at z1 z2
        have et : t (N2 2 + 1) = 62 := (zsg_y z2).symm.trans z1
        have htk2 : f_X1_take (S (N2 2 + 1)) (t (N2 2 + 1)) = (1, va_up (S (N2 2 + 1)) 0 3) := by rw [et]; exact zt2 q0
        have hS2 : S (N2 2 + 1 + 1) = va_up (S (N2 2 + 1)) 0 3 := by rw [hS, htk2]
        have ok2 := ok1.tr (zokr.one htk2 (by omega))
        have p0 : (S (N2 2 + 1 + 1)) 0 = 3 := by rw [hS2]; rfl
        have p1 : (S (N2 2 + 1 + 1)) 1 = s 1 := by rw [hS2]; exact q1
        have p2 : (S (N2 2 + 1 + 1)) 2 = t (N2 2) - 48 := by rw [hS2]; exact q2
        have p4 : (S (N2 2 + 1 + 1)) 4 = 0 := by rw [hS2]; exact q4
        have p5 : (S (N2 2 + 1 + 1)) 5 = 0 := by rw [hS2]; exact q5
        have hx2 : ztx n t M1 (va_up N2 2 (N2 2 + 1 + 1)) := ⟨hx1.1, (by rw [zup_self]; omega), hx1.2.2⟩
        have eb : (va_up N2 2 (N2 2 + 1 + 1)) 2 = N2 2 + 1 + 1 := zup_self
        rcases zrmb hx2 (nI (t (N2 2) - 48)) with ⟨b1, b2, b3, b4, b5⟩ | ⟨b1, b5⟩
        · rw [b5]
          dsimp only
          rw [eb] at b1 b2 b3 b4 ⊢
          rw [uB_self, if_neg (zm1 (j := zsg n t (N2 2 + 1 + 1) - 48) (by omega)), zup_up]
          rw [zsg_y b4] at b1 b2 b3 ⊢
          have hne : ¬ t (N2 2 + 1 + 1) - 48 = (S (N2 2 + 1 + 1)) 2 := by
            rw [p2]
            exact fun e => b3 (by rw [e])
          have htk3 : f_X1_take (S (N2 2 + 1 + 1)) (t (N2 2 + 1 + 1)) = (1, va_up (va_up (S (N2 2 + 1 + 1)) 3 (t (N2 2 + 1 + 1) - 48)) 0 4) := zt3 p0 b1 b2 hne
          have hS3 : S (N2 2 + 1 + 1 + 1) = va_up (va_up (S (N2 2 + 1 + 1)) 3 (t (N2 2 + 1 + 1) - 48)) 0 4 := by rw [hS, htk3]
          have ok3 := ok2.tr (zokr.one htk3 (by omega))
          have hx3 : ztx n t (uB M1 4 3 (nI (t (N2 2 + 1 + 1) - 48))) (va_up N2 2 (N2 2 + 1 + 1 + 1)) := ⟨hx1.1, (by rw [zup_self]; omega), (hx1.m4 3 _).2.2⟩
          have ec : (va_up N2 2 (N2 2 + 1 + 1 + 1)) 2 = N2 2 + 1 + 1 + 1 := zup_self
          have g := z129 hS hn M0 N0 hx3 (s := S (N2 2 + 1 + 1 + 1)) (by rw [ec]) (by rw [hS3]; rfl) (by rw [hS3]; exact p5) (by rw [hS3]; exact p4)
            (by rw [uB_ne _ _ (by decide), m1, hS3]; exact congrArg nI p1.symm) (by rw [hS3]; show (S (N2 2 + 1 + 1)) 1 = 43 ∨ (S (N2 2 + 1 + 1)) 1 = 45 ∨ (S (N2 2 + 1 + 1)) 1 = 112 ∨ (S (N2 2 + 1 + 1)) 1 = 98 ∨ (S (N2 2 + 1 + 1)) 1 = 114; rw [p1]; exact hkd)
            (by rw [uB_ne _ _ (by decide), m2, hS3]; show nI (t (N2 2) - 48) = nI ((S (N2 2 + 1 + 1)) 2) ∧ (S (N2 2 + 1 + 1)) 2 < 6; rw [p2]; exact ⟨rfl, by omega⟩)
            (fun _ => by rw [uB_self, hS3]; exact ⟨rfl, (by show t (N2 2 + 1 + 1) - 48 < 6; omega)⟩)
          rw [ec] at g
          exact g.up (by omega) ok3 rfl rfl (fun k hk => (uB_row _ _ _ hk).trans (mr k hk)) ((uB_ne _ _ (by decide)).trans m0)
        · rw [b5]
          dsimp only
          rw [uB_self, if_pos rfl]
          have g : zPO n t S ((va_up N2 2 (N2 2 + 1 + 1)) 2) M (va_up N2 2 (N2 2 + 1 + 1)) (0, uB M1 4 3 (-1), va_up N2 2 (N2 2 + 1 + 1)) := by
            refine zPO.no hx2.2.1 (fun k hk => (uB_row _ _ _ hk).trans (mr k hk)) ((uB_ne _ _ (by decide)).trans m0) (zwh_lo (by rw [eb, p0]; omega)) (fun hl => ?_)
            rw [eb] at hl b1 ⊢
            rw [zsg_y hl] at b1
            refine zt3n p0 (fun q => b1 ⟨q.1, q.2.1, fun e => q.2.2 ?_⟩)
            rw [p2]
            exact (nI_eq (by omega) (by omega)).mp e
          rw [eb] at g
          exact g.up (by omega) ok2 rfl rfl (fun _ _ => rfl) rfl
      · have z3' : f_X3_takesSign M1 (va_up N2 2 (N2 2 + 1)) 62 = (0, va_up (va_up N2 2 (N2 2 + 1)) 2 ((va_up N2 2 (N2 2 + 1)) 2)) := z3
        rw [z3', zup_id]
        dsimp only
        rw [if_pos rfl, uB_self, if_pos rfl]
        have g : zPO n t S ((va_up N2 2 (N2 2 + 1)) 2) M (va_up N2 2 (N2 2 + 1)) (0, uB M1 4 3 (-1), va_up N2 2 (N2 2 + 1)) := by
          refine zPO.no hx1.2.1 (fun k hk => (uB_row _ _ _ hk).trans (mr k hk)) ((uB_ne _ _ (by decide)).trans m0) (zwh_lo (by rw [ea, q0]; omega)) (fun hl => ?_)
          rw [ea] at hl z1 ⊢
          rw [zsg_y hl] at z1
          exact zt2n q0 z1
        rw [ea] at g
        exact g.up (by omega) ok1 rfl rfl (fun _ _ => rfl) rfl
    · rw [if_neg (fun q => c ((zk112 hlt).mp q))]
      rw [if_neg c] at hS1
      have ea : (va_up N2 2 (N2 2 + 1)) 2 = N2 2 + 1 := zup_self
      have g := z129 hS hn M0 N0 hx1 (s := S (N2 2 + 1)) (by rw [ea]) (by rw [hS1]; rfl) q5 q4 (by rw [m1, q1]) (by rw [q1]; exact hkd) (by rw [m2, q2]; exact ⟨rfl, by omega⟩) (fun e => absurd (q1.symm.trans e) c)
      rw [ea] at g
      exact g.up (by omega) ok1 rfl rfl mr m0
  · rw [a5]
    dsimp only
    rw [uB_self, if_pos rfl]
    refine zPO.no hx.2.1 (fun k hk => uB_row _ _ _ hk) (uB_ne _ _ (by decide)) (zwh_lo (by rw [hs]; omega)) (fun hl => ?_)
    rw [zsg_y hl] at a1
    rw [hs]
    exact zt1n h0 (fun q => a1 ⟨q.1, q.2, zm1 (by omega)⟩)
/-- an order, from its first sign -/
theorem zorder (hS : ∀ j, S (j + 1) = (f_X1_take (S j) (t j)).2) (hn : n ≤ 60) {M : BK} {Nm : Nat → Nat} (hx : ztx n t M Nm) (h0 : (S (Nm 2)) 0 = 0) (h4 : (S (Nm 2)) 4 = 0) (h5 : (S (Nm 2)) 5 = 0) : zPO n t S (Nm 2) M Nm (f_X3_readsOrder M Nm) := by
  obtain ⟨e1, e2, e3⟩ := zsg_s hx
  have hx1 := hx.m4 1 (f_X3_sign M Nm)
  have hk : ∀ c, (c = 43 ∨ c = 45 ∨ c = 112 ∨ c = 98 ∨ c = 114) → zsg n t (Nm 2) = c → Nm 2 < n → zPO n t S (Nm 2) M Nm (f_X3_readsOrder_66 M Nm (uB M 4 1 (f_X3_sign M Nm)) (va_up Nm 2 (Nm 2 + 1))) := by
    intro c hc hz hl
    have et : t (Nm 2) = c := (zsg_y hl).symm.trans hz
    have htk : f_X1_take (S (Nm 2)) (t (Nm 2)) = (1, va_up (va_up (S (Nm 2)) 1 c) 0 1) := by rw [et]; exact zt0 h0 hc
    have hS1 : S (Nm 2 + 1) = va_up (va_up (S (Nm 2)) 1 c) 0 1 := by rw [hS, htk]
    have ea : (va_up Nm 2 (Nm 2 + 1)) 2 = Nm 2 + 1 := zup_self
    have g := z66 hS hn M Nm (hx1.at (q := Nm 2 + 1) (by omega)) (s := S (Nm 2 + 1)) (by rw [ea]) (by rw [hS1]; rfl) (by rw [hS1]; exact h5) (by rw [hS1]; exact h4) (by rw [uB_self, e1, hz, hS1]; rfl) (by rw [hS1]; exact hc)
    rw [ea] at g
    exact g.up (by omega) (zokr.one htk (by omega)) rfl rfl (fun k hk => uB_row _ _ _ hk) (uB_ne _ _ (by decide))
  unfold f_X3_readsOrder
  dsimp only
  generalize hM1 : uB M 4 1 (f_X3_sign M Nm) = M1 at *
  have hM11 : M1 4 1 = nI (zsg n t (Nm 2)) := by rw [← hM1, uB_self, e1]
  have hMr : ∀ k, ¬ k = 4 → M1 k = M k := fun k hk => by rw [← hM1]; exact uB_row _ _ _ hk
  have hM0 : M1 4 0 = M 4 0 := by rw [← hM1]; exact uB_ne _ _ (by decide)
  rcases ztk hx1 (c := 119) (by omega) with ⟨z1, z2, z3⟩ | ⟨z1, z3⟩
  · have z3' : f_X3_takesSign M1 Nm 119 = (1, va_up Nm 2 (Nm 2 + 1)) := z3
    rw [z3']
    dsimp only
    rw [if_neg z10]
    have et : t (Nm 2) = 119 := (zsg_y z2).symm.trans z1
    have htk : f_X1_take (S (Nm 2)) (t (Nm 2)) = (1, va_up (va_up (S (Nm 2)) 1 119) 0 7) := by rw [et]; exact zt0w h0
    have hS1 : S (Nm 2 + 1) = va_up (va_up (S (Nm 2)) 1 119) 0 7 := by rw [hS, htk]
    have p0 : (S (Nm 2 + 1)) 0 = 7 := by rw [hS1]; rfl
    have p1 : (S (Nm 2 + 1)) 1 = 119 := by rw [hS1]; rfl
    have ea : (va_up Nm 2 (Nm 2 + 1)) 2 = Nm 2 + 1 := zup_self
    refine ⟨(by show Nm 2 ≤ (va_up Nm 2 (Nm 2 + 1)) 2; rw [ea]; omega), (by show (va_up Nm 2 (Nm 2 + 1)) 2 ≤ n; rw [ea]; omega), ?_, rfl, rfl, hMr, hM0, Or.inr ⟨rfl, ?_, ?_, ?_⟩⟩
    · dsimp only
      rw [ea]
      exact zokr.one htk (by omega)
    · dsimp only
      rw [ea]
      exact zwh_7 p0
    · dsimp only
      rw [ea]
      exact ⟨by rw [hM11, z1, p1], by omega, fun q => absurd p1 q, fun q => by omega, fun q => by omega⟩
    · dsimp only
      rw [ea]
      exact fun _ h => zt7n p0 h
  · have z3' : f_X3_takesSign M1 Nm 119 = (0, va_up Nm 2 (Nm 2)) := z3
    rw [z3', zup_id]
    dsimp only
    rw [if_pos rfl]
    rcases ztk hx1 (c := 43) (by omega) with ⟨y1, y2, y3⟩ | ⟨y1, y3⟩
    · have y3' : f_X3_takesSign M1 Nm 43 = (1, va_up Nm 2 (Nm 2 + 1)) := y3
      rw [y3']
      dsimp only
      rw [if_neg z10]
      exact hk 43 (by omega) y1 y2
    have y3' : f_X3_takesSign M1 Nm 43 = (0, va_up Nm 2 (Nm 2)) := y3
    rw [y3', zup_id]
    dsimp only
    rw [if_pos rfl]
    rcases ztk hx1 (c := 45) (by omega) with ⟨x1, x2, x3⟩ | ⟨x1, x3⟩
    · have x3' : f_X3_takesSign M1 Nm 45 = (1, va_up Nm 2 (Nm 2 + 1)) := x3
      rw [x3']
      dsimp only
      rw [if_neg z10]
      exact hk 45 (by omega) x1 x2
    have x3' : f_X3_takesSign M1 Nm 45 = (0, va_up Nm 2 (Nm 2)) := x3
    rw [x3', zup_id]
    dsimp only
    rw [if_pos rfl]
    rcases ztk hx1 (c := 112) (by omega) with ⟨w1, w2, w3⟩ | ⟨w1, w3⟩
    · have w3' : f_X3_takesSign M1 Nm 112 = (1, va_up Nm 2 (Nm 2 + 1)) := w3
      rw [w3']
      dsimp only
      rw [if_neg z10]
      exact hk 112 (by omega) w1 w2
    have w3' : f_X3_takesSign M1 Nm 112 = (0, va_up Nm 2 (Nm 2)) := w3
    rw [w3', zup_id]
    dsimp only
    rw [if_pos rfl]
    rcases ztk hx1 (c := 98) (by omega) with ⟨v1, v2, v3⟩ | ⟨v1, v3⟩
    · have v3' : f_X3_takesSign M1 Nm 98 = (1, va_up Nm 2 (Nm 2 + 1)) := v3
      rw [v3']
      dsimp only
      rw [if_neg z10]
      exact hk 98 (by omega) v1 v2
    have v3' : f_X3_takesSign M1 Nm 98 = (0, va_up Nm 2 (Nm 2)) := v3
    rw [v3', zup_id]
    dsimp only
    rw [if_pos rfl]
    rcases ztk hx1 (c := 114) (by omega) with ⟨u1, u2, u3⟩ | ⟨u1, u3⟩
    · have u3' : f_X3_takesSign M1 Nm 114 = (1, va_up Nm 2 (Nm 2 + 1)) := u3
      rw [u3']
      dsimp only
      rw [if_neg z10]
      exact hk 114 (by omega) u1 u2
    have u3' : f_X3_takesSign M1 Nm 114 = (0, va_up Nm 2 (Nm 2)) := u3
    rw [u3', zup_id]
    dsimp only
    rw [if_pos rfl]
    refine zPO.no hx.2.1 hMr hM0 (zwh_lo (by omega)) (fun hl => ?_)
    rw [zsg_y hl] at z1 y1 x1 w1 v1 u1
    exact zt0n h0 y1 x1 w1 v1 u1 z1
end ZPC
