/-! worlds of the credit union itself -/
section ZR2
abbrev NK : Type := Nat → Nat → Nat
def uN (N : NK) (k i v : Nat) : NK := fun k' => if k' = k then va_up (N k') i v else N k'
/-- N: row 0: saved states, length of the buffer; row 1: which books each saved place holds; row 2: the buffer's signs. X: row 0 which slots are filled, row 1 what is free -/
def xmE (x : Nat → Nat) (b : Nat → Nat → Nat) (rd : Nat) (N : NK) : List Value := [.ref (b 0 0), .ref (x 1), .int (nI (N 0 0)), .ref (x 2), .ref (x 3), .ref (x 4), .int (nI (N 0 1)), .ref rd, .ref (x 5)]
def xmW (cA : Nat → ClassId) (x : Nat → Nat) (b : Nat → Nat → Nat) (rd : Nat) (X : BK) (N : NK) : va_W := [(x 0, .inr (2, xmE x b rd N)), (x 1, .inl (cA 3, 6, .inr (.inr (.inr (.inr (fun i => some (b (N 1 i) 0))))))), (x 2, .inl (cA 3, 2, .inr (.inr (.inr (.inr (fun i => some (b (7 + i) 0))))))), (x 3, .inl (cA 1, 2, .inl (X 0))), (x 4, .inl (cA 2, 60, .inl (fun j => nI (N 2 j)))), (x 5, .inl (cA 0, 6, .inl (X 1)))]
/-- the other books: 1 to 6 saved ones, 7 and 8 the slots' -/
def otW (cI : ClassId) (b : Nat → Nat → Nat) (Bs : Nat → BK) : va_W := bkW cI (b 1) (Bs 1) ++ (bkW cI (b 2) (Bs 2) ++ (bkW cI (b 3) (Bs 3) ++ (bkW cI (b 4) (Bs 4) ++ (bkW cI (b 5) (Bs 5) ++ (bkW cI (b 6) (Bs 6) ++ (bkW cI (b 7) (Bs 7) ++ bkW cI (b 8) (Bs 8)))))))
theorem z_preVq {D : va_G} {cA : Nat → ClassId} {A : Nat → Prop} {s : State} {H : Heap} {wc : va_W} {b ci q0 : Nat} {q : vw_C} {fs : List Value} {As : List Value} (hK : va_K D vwCl (zTy cA) s) (hP : va_P D vwCl wc H) (hD : va_D A wc) (hc : vwCl[ci]? = some q) (he : wc[q0]? = some (b, .inr (ci, fs))) : PreV s H q.1 b (zPc D cA (.ref b :: As) wc) As :=
  ⟨z_blind, va_recv hK hP hc he, fun U hU hW => ⟨rfl, by rw [hU]; exact hP, va_K.moved hW.alike hK, hD.weaken (fun _ _ _ _ => trivial)⟩⟩
theorem z_updN (N : NK) (k v : Nat) : upd (fun j => nI (N 2 j)) k (nI v) = fun j => nI ((uN N 2 k v) 2 j) := by
  funext j
  by_cases h : j = k
  · subst h
    rw [pk_us]
    show nI v = nI (va_up (N 2) j v j)
    rw [va_up_self]
  · rw [pk_un h]
    show nI (N 2 j) = nI (va_up (N 2) k v j)
    rw [va_up_ne _ _ h]
theorem z_updQ (b : Nat → Nat → Nat) (N : NK) (k v : Nat) : va_up (fun i => some (b (N 1 i) 0)) k (some (b v 0)) = fun i => some (b ((uN N 1 k v) 1 i) 0) := by
  funext j
  by_cases h : j = k
  · subst h
    rw [va_up_self]
    show some (b v 0) = some (b (va_up (N 1) j v j) 0)
    rw [va_up_self]
  · rw [va_up_ne _ _ h]
    show some (b (N 1 j) 0) = some (b (va_up (N 1) k v j) 0)
    rw [va_up_ne _ _ h]
theorem z_narC {n : Nat} (h : n < 65536) : vp_nar .char (nI n) = nI n := by
  unfold vp_nar
  rw [(pk_charN h).1]
theorem ot_get {cI : ClassId} {b : Nat → Nat → Nat} {Bs : Nat → BK} : ∀ k : Nat, 1 ≤ k → k ≤ 8 → (otW cI b Bs)[9 * (k - 1)]? = some (b k 0, .inr (0, bkE (b k) (Bs k)))
  | 0, h, _ => absurd h (by omega)
  | 1, _, _ => rfl
  | 2, _, _ => rfl
  | 3, _, _ => rfl
  | 4, _, _ => rfl
  | 5, _, _ => rfl
  | 6, _, _ => rfl
  | 7, _, _ => rfl
  | 8, _, _ => rfl
  | n + 9, _, h => absurd h (by omega)
theorem ot_split {cI : ClassId} {b : Nat → Nat → Nat} {Bs : Nat → BK} (k : Nat) (h1 : 1 ≤ k) (h2 : k ≤ 8) : ∃ X Z : va_W, otW cI b Bs = X ++ (bkW cI (b k) (Bs k) ++ Z) ∧ ∀ B' : BK, X ++ (bkW cI (b k) B' ++ Z) = otW cI b (fun j => if j = k then B' else Bs j) := by
  have hk : k = 1 ∨ k = 2 ∨ k = 3 ∨ k = 4 ∨ k = 5 ∨ k = 6 ∨ k = 7 ∨ k = 8 := by omega
  rcases hk with rfl | rfl | rfl | rfl | rfl | rfl | rfl | rfl
  · exact ⟨[], bkW cI (b 2) (Bs 2) ++ (bkW cI (b 3) (Bs 3) ++ (bkW cI (b 4) (Bs 4) ++ (bkW cI (b 5) (Bs 5) ++ (bkW cI (b 6) (Bs 6) ++ (bkW cI (b 7) (Bs 7) ++ bkW cI (b 8) (Bs 8)))))), rfl, fun B' => rfl⟩
  · exact ⟨bkW cI (b 1) (Bs 1), bkW cI (b 3) (Bs 3) ++ (bkW cI (b 4) (Bs 4) ++ (bkW cI (b 5) (Bs 5) ++ (bkW cI (b 6) (Bs 6) ++ (bkW cI (b 7) (Bs 7) ++ bkW cI (b 8) (Bs 8))))), rfl, fun B' => rfl⟩
  · exact ⟨bkW cI (b 1) (Bs 1) ++ bkW cI (b 2) (Bs 2), bkW cI (b 4) (Bs 4) ++ (bkW cI (b 5) (Bs 5) ++ (bkW cI (b 6) (Bs 6) ++ (bkW cI (b 7) (Bs 7) ++ bkW cI (b 8) (Bs 8)))), rfl, fun B' => rfl⟩
  · exact ⟨bkW cI (b 1) (Bs 1) ++ (bkW cI (b 2) (Bs 2) ++ bkW cI (b 3) (Bs 3)), bkW cI (b 5) (Bs 5) ++ (bkW cI (b 6) (Bs 6) ++ (bkW cI (b 7) (Bs 7) ++ bkW cI (b 8) (Bs 8))), rfl, fun B' => rfl⟩
  · exact ⟨bkW cI (b 1) (Bs 1) ++ (bkW cI (b 2) (Bs 2) ++ (bkW cI (b 3) (Bs 3) ++ bkW cI (b 4) (Bs 4))), bkW cI (b 6) (Bs 6) ++ (bkW cI (b 7) (Bs 7) ++ bkW cI (b 8) (Bs 8)), rfl, fun B' => rfl⟩
  · exact ⟨bkW cI (b 1) (Bs 1) ++ (bkW cI (b 2) (Bs 2) ++ (bkW cI (b 3) (Bs 3) ++ (bkW cI (b 4) (Bs 4) ++ bkW cI (b 5) (Bs 5)))), bkW cI (b 7) (Bs 7) ++ bkW cI (b 8) (Bs 8), rfl, fun B' => rfl⟩
  · exact ⟨bkW cI (b 1) (Bs 1) ++ (bkW cI (b 2) (Bs 2) ++ (bkW cI (b 3) (Bs 3) ++ (bkW cI (b 4) (Bs 4) ++ (bkW cI (b 5) (Bs 5) ++ bkW cI (b 6) (Bs 6))))), bkW cI (b 8) (Bs 8), rfl, fun B' => rfl⟩
  · exact ⟨bkW cI (b 1) (Bs 1) ++ (bkW cI (b 2) (Bs 2) ++ (bkW cI (b 3) (Bs 3) ++ (bkW cI (b 4) (Bs 4) ++ (bkW cI (b 5) (Bs 5) ++ (bkW cI (b 6) (Bs 6) ++ bkW cI (b 7) (Bs 7)))))), [], rfl, fun B' => by rw [List.append_nil]; rfl⟩
section
variable {p : Program} {l : Launch} {e : Env} {R : Room} {s : State} {m : MethodId} {args : Array Value} {below : List Frame} {meth : Method} {c : Code} {H : Heap} {locs : List Loc} {cells slots : Nat} {Q : State → Prop}
variable {cc : ByteArray} {pc : Nat} {ls : Array Slot} {rest : List Value} {D : va_G} {cA : Nat → ClassId} {A : Nat → Prop} {a : Nat} {ws : va_W} {H0 : Heap}
theorem z_castN (hx : p.tables.exec = Jvm.exec) (hb : c.code = cc) (hK : va_K D vwCl (zTy cA) s) (hP : va_P D vwCl ws H) (hD : va_D A ws) (hS : va_S A H0 H locs) (q0 t0 : Nat) {cI : ClassId} {n j v : Nat} {N : NK} (ha : ws[q0]? = some (a, .inl (cI, n, .inl (fun j => nI (N 2 j))))) (ht : (zTy cA)[t0]? = some (cI, .char)) (hdg : decode cc pc = .ok (.castore, 1)) (hj : j < n) (hn : n < 2 ^ 31) (hv : v < 65536) (w1 : va_W) (hw : ws.set q0 (a, .inl (cI, n, .inl (fun i => nI ((uN N 2 j v) 2 i)))) = w1)
    (kk : ∀ (H1 : Heap) (locs1 : List Loc), va_P D vwCl w1 H1 → va_D A w1 → va_S A H0 H1 locs1 → W p l e R s m args below meth c H1 locs1 cells slots Q (F0 m (pc + 1) ls rest)) : W p l e R s m args below meth c H locs cells slots Q (F0 m pc ls (.int (nI v) :: .int (nI j) :: .ref a :: rest)) := by
  subst hw
  refine va_cast hx hb hK hP hD hS q0 t0 ha ht (vp_in_nI hj hn) hdg ?_
  rw [nI_clamp (by omega), z_narC hv, z_updN]
  exact kk
theorem z_aldq (hx : p.tables.exec = Jvm.exec) (hb : c.code = cc) (hK : va_K D vwCl (zTy cA) s) (hP : va_P D vwCl ws H) (q0 t0 : Nat) {cI : ClassId} {C : String} {n j v : Nat} {f : Nat → Option Nat} (ha : ws[q0]? = some (a, .inl (cI, n, .inr (.inr (.inr (.inr f)))))) (ht : (zTy cA)[t0]? = some (cI, .object C)) (hdg : decode cc pc = .ok (.aaload, 1)) (hj : j < n) (hn : n < 2 ^ 31) (hv : f j = some v)
    (kk : W p l e R s m args below meth c H locs cells slots Q (F0 m (pc + 1) ls (.ref v :: rest))) : W p l e R s m args below meth c H locs cells slots Q (F0 m pc ls (.int (nI j) :: .ref a :: rest)) := by
  refine va_aldq hx hb hK hP q0 t0 ha ht (vp_in_nI hj hn) hdg ?_
  rw [nI_clamp (by omega), hv]
  exact kk
theorem z_aastB (hx : p.tables.exec = Jvm.exec) (hb : c.code = cc) (hK : va_K D vwCl (zTy cA) s) (hP : va_P D vwCl ws H) (hD : va_D A ws) (hS : va_S A H0 H locs) (q0 qk : Nat) {n j v : Nat} {vs : List Value} {b : Nat → Nat → Nat} {N : NK} (ha : ws[q0]? = some (a, .inl (cA 3, n, .inr (.inr (.inr (.inr (fun i => some (b (N 1 i) 0)))))))) (hv : ws[qk]? = some (b v 0, .inr (0, vs))) (hdg : decode cc pc = .ok (.aastore, 1)) (hj : j < n) (hn : n < 2 ^ 31) (w1 : va_W) (hw : ws.set q0 (a, .inl (cA 3, n, .inr (.inr (.inr (.inr (fun i => some (b ((uN N 1 j v) 1 i) 0))))))) = w1)
    (kk : ∀ (H1 : Heap) (locs1 : List Loc), va_P D vwCl w1 H1 → va_D A w1 → va_S A H0 H1 locs1 → W p l e R s m args below meth c H1 locs1 cells slots Q (F0 m (pc + 1) ls rest)) : W p l e R s m args below meth c H locs cells slots Q (F0 m pc ls (.ref (b v 0) :: .int (nI j) :: .ref a :: rest)) := by
  subst hw
  refine va_astq (r := (RX0, TX0, 16)) (ci := 0) hx hb hK hP hD hS q0 3 qk ha rfl hv rfl (vp_in_nI hj hn) hdg ?_
  rw [nI_clamp (by omega), z_updQ]
  exact kk
end
end ZR2
