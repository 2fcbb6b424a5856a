/-! the law's methods: rows -/
section ZVA
theorem zva_no {vs : List (Prop × String)} (h : zva vs) : ∀ E, ¬ zxp vs E := by
  induction vs with
  | nil => exact fun E h => h
  | cons q r ih =>
    intro E h1
    rcases h1 with ⟨h2, _⟩ | ⟨_, h2⟩
    · exact h2 h.1
    · exact ih h.2 E h2
theorem zD_fr {A : Nat → Prop} {w : va_W} (h : va_D A w) : ∀ q, zfr w q → A q := by
  rintro q ⟨k, e, hk⟩
  exact h.2 k (q, e) hk
theorem zrgN {e a b : Nat} (h1 : a ≤ e) (h2 : e ≤ b) (hb : b < 2 ^ 31) : zrg (nI e) (nI a) (nI b) := by
  refine ⟨fun h => ?_, fun h => ?_⟩
  · rw [nI_ltI (by omega) (by omega)] at h
    omega
  · rw [nI_ltI (by omega) (by omega)] at h
    omega
theorem zx_preVq {D : va_G} {cA : Nat → ClassId} {A B : Nat → Prop} {s : State} {H : Heap} {locs : List Loc} {wc : va_W} {b ci q0 : Nat} {q : vw_C} {fs : List Value} {As : List Value} (hK : va_K D vwCl (zTy cA) s) (hP : va_P D vwCl wc H) (hD : va_D B wc) (hO : zOut A s) (hS : va_S A s.heap H locs) (hZ : ∀ q, zfr wc q → A q) (hc : vwCl[ci]? = some q) (he : wc[q0]? = some (b, .inr (ci, fs))) : PreV s H q.1 b (zPx D cA (.ref b :: As) wc) As :=
  ⟨zx_blind, va_recv hK hP hc he, fun U hU hW => ⟨rfl, by rw [hU]; exact hP, va_K.moved hW.alike hK, hD.weaken (fun _ _ _ _ => trivial), hO.mv hS hU hW hZ⟩⟩
end ZVA
section ZVB
variable {p : Program} {l : Launch} {e : Env} {R : Room} {s : State} {m : MethodId} {args : Array Value} {below : List Frame} {meth : Method} {c : Code} {H : Heap} {locs : List Loc} {cells slots : Nat} {Q : State → Prop}
variable {pc : Nat} {ls : Array Slot} {rest st0 st1 : List Value} {D : va_G} {cA : Nat → ClassId} {A : Nat → Prop} {H0 : Heap}
/-- the heap as before: the method stands as before -/
theorem zs_same {T T' : State} {l1 l0 : List Loc} {c1 n1 c0 n0 : Nat} (X' : Stand p l e R s m args below meth c T' l1 c1 n1) (X : Stand p l e R s m args below meth c T l0 c0 n0) (h : T'.heap = T.heap) : Stand p l e R s m args below meth c T' l0 c0 n0 := by
  obtain ⟨q1, q2, q3, q4, q5, q6, q7, q8, q9, q10, q11, q12, q13, q14⟩ := X'
  obtain ⟨a1, a2, a3, a4, a5, a6⟩ := X.same
  obtain ⟨b1, b2, b3, b4, b5, b6⟩ := q14
  have hh : (T'.setVm s.vm).heap = (T.setVm s.vm).heap := h
  exact ⟨q1, q2, q3, q4, q5, q6, q7, q8, q9, q10, q11, q12, q13, b1, by rw [hh]; exact a2, by rw [hh]; exact a3, b4, by rw [hh]; exact a5, by rw [hh]; exact a6⟩
theorem zv_E {rv : Option Value} {aa : Array Value} {V : Prop} {XP : String → Prop} {wc : va_W} {mc ms : Nat} (hr : vx_Run p l e R s m args below meth c H locs cells slots mc ms (F0 m pc ls st0) rest (zV V (zE rv) aa) (zX D wc wc XP) (zfr wc)) (hn : ∀ E, ¬ XP E) (h1 : rv.toList ++ rest = st1)
    (kk : W p l e R s m args below meth c H locs cells slots Q (F0 m (pc + 3) ls st1)) : W p l e R s m args below meth c H locs cells slots Q (F0 m pc ls st0) := by
  subst h1
  intro T hT X
  rcases hr T hT X with ⟨v, st₀, t, T', L, h0, X', hL, e1, e2, ⟨hV, hv, hh⟩, st⟩ | ⟨q, st₀, t, T', L, E, ce, h0, X1, hL, e1, e2, ⟨hx1, _⟩, _⟩
  · cases hv
    have hq : T'.heap = H := by rw [e1, hh, h0]
    obtain ⟨t2, a1, b1⟩ := kk T' hq (zs_same X' X (by rw [hq, hT]))
    exact ⟨t2, st t2 a1, b1⟩
  · exact (hn E hx1).elim
/-- a method of the law that changes nothing -/
theorem zu_E {rv : Option Value} {aa : Array Value} {mc ms : Nat} (hr : va_Run p l e R s m args below meth c H locs cells slots mc ms (F0 m pc ls st0) rest (zE rv aa) (fun _ => False)) (h1 : rv.toList ++ rest = st1)
    (kk : W p l e R s m args below meth c H locs cells slots Q (F0 m (pc + 3) ls st1)) : W p l e R s m args below meth c H locs cells slots Q (F0 m pc ls st0) := by
  subst h1
  intro T hT X
  obtain ⟨v, st₀, t, T', L, h0, X', hL, e1, e2, ⟨hv, hh⟩, st⟩ := hr T hT X
  cases hv
  have hq : T'.heap = H := by rw [e1, hh, h0]
  obtain ⟨t2, a1, b1⟩ := kk T' hq (zs_same X' X (by rw [hq, hT]))
  exact ⟨t2, st t2 a1, b1⟩
theorem zv_M {rv : Option Value} {aa : Array Value} {V : Prop} {XP : String → Prop} {X wc w1 wx Z : va_W} {mc ms : Nat} (hr : vx_Run p l e R s m args below meth c H locs cells slots mc ms (F0 m pc ls st0) rest (zV V (zM D wc w1 rv) aa) (zX D wc wx XP) (zfr wc)) (hn : ∀ E, ¬ XP E) (hP : va_P D vwCl (X ++ (wc ++ Z)) H) (hD : va_D A (X ++ (wc ++ Z))) (hS : va_S A H0 H locs) (hadr : w1.map Prod.fst = wc.map Prod.fst) (h1 : rv.toList ++ rest = st1)
    (kk : ∀ (H1 : Heap) (locs1 : List Loc), va_P D vwCl (X ++ (w1 ++ Z)) H1 → va_D A (X ++ (w1 ++ Z)) → va_S A H0 H1 locs1 → W p l e R s m args below meth c H1 locs1 (cells + mc) (slots + ms) Q (F0 m (pc + 3) ls st1)) : W p l e R s m args below meth c H locs cells slots Q (F0 m pc ls st0) := by
  subst h1
  have hF : ∀ q, zfr wc q → A q := by
    rintro q ⟨j, e', hj⟩
    have hjl := (List.getElem?_eq_some_iff.mp hj).1
    refine hD.2 (X.length + j) (q, e') ?_
    rw [List.getElem?_append_right (by omega), Nat.add_sub_cancel_left, List.getElem?_append_left hjl, hj]
  intro T hT X'
  rcases hr T hT X' with ⟨v, st₀, t, T', L, h0, X1, hL, e1, e2, ⟨hV, hv, hp1, hz, hk⟩, st⟩ | ⟨q, st₀, t, T', L, E, ce, h0, X1, hL, e1, e2, ⟨hx1, _⟩, _⟩
  · cases hv
    rw [h0] at hz hk
    have hj := z_join (H1 := T'.heap) hP hD hadr (by rw [e1]; exact hp1) (fun q h1 h2 => by rw [e1]; exact hk q h1 h2)
    obtain ⟨t2, a1, b1⟩ := kk T'.heap (locs ++ L) hj.1 hj.2
      ⟨Nat.le_trans hS.1 (by rw [e1]; exact hz), fun q h1 h2 => by rw [e1, hk q (Nat.lt_of_lt_of_le h1 hS.1) (fun z => h2 (hF q z))]; exact hS.2.1 q h1 h2, fun q hq => by
        rcases List.mem_append.mp hq with h | h
        · exact hS.2.2 q h
        · exact hF _ (hL q h)⟩ T' rfl X1
    exact ⟨t2, st t2 a1, b1⟩
  · exact (hn E hx1).elim
theorem zu_M {rv : Option Value} {aa : Array Value} {X wc w1 Z : va_W} {mc ms : Nat} (hr : va_Run p l e R s m args below meth c H locs cells slots mc ms (F0 m pc ls st0) rest (zM D wc w1 rv aa) (zfr wc)) (hP : va_P D vwCl (X ++ (wc ++ Z)) H) (hD : va_D A (X ++ (wc ++ Z))) (hS : va_S A H0 H locs) (hadr : w1.map Prod.fst = wc.map Prod.fst) (h1 : rv.toList ++ rest = st1)
    (kk : ∀ (H1 : Heap) (locs1 : List Loc), va_P D vwCl (X ++ (w1 ++ Z)) H1 → va_D A (X ++ (w1 ++ Z)) → va_S A H0 H1 locs1 → W p l e R s m args below meth c H1 locs1 (cells + mc) (slots + ms) Q (F0 m (pc + 3) ls st1)) : W p l e R s m args below meth c H locs cells slots Q (F0 m pc ls st0) := by
  subst h1
  have hF : ∀ q, zfr wc q → A q := by
    rintro q ⟨j, e', hj⟩
    have hjl := (List.getElem?_eq_some_iff.mp hj).1
    refine hD.2 (X.length + j) (q, e') ?_
    rw [List.getElem?_append_right (by omega), Nat.add_sub_cancel_left, List.getElem?_append_left hjl, hj]
  intro T hT X'
  obtain ⟨v, st₀, t, T', L, h0, X1, hL, e1, e2, ⟨hv, hp1, hz, hk⟩, st⟩ := hr T hT X'
  cases hv
  rw [h0] at hz hk
  have hj := z_join (H1 := T'.heap) hP hD hadr (by rw [e1]; exact hp1) (fun q h1 h2 => by rw [e1]; exact hk q h1 h2)
  obtain ⟨t2, a1, b1⟩ := kk T'.heap (locs ++ L) hj.1 hj.2
    ⟨Nat.le_trans hS.1 (by rw [e1]; exact hz), fun q h1 h2 => by rw [e1, hk q (Nat.lt_of_lt_of_le h1 hS.1) (fun z => h2 (hF q z))]; exact hS.2.1 q h1 h2, fun q hq => by
      rcases List.mem_append.mp hq with h | h
      · exact hS.2.2 q h
      · exact hF _ (hL q h)⟩ T' rfl X1
  exact ⟨t2, st t2 a1, b1⟩
end ZVB
/-! a number from 0 to n - 1 -/
section ZVU
theorem zand_hi (x : Int32) : ∃ w : Nat, w < 2 ^ 31 ∧ x &&& 2147483647 = nI w := by
  refine ⟨(x &&& 2147483647).toBitVec.toNat, ?_, ?_⟩
  · have e : (x &&& 2147483647).toBitVec.toNat = x.toBitVec.toNat &&& 2147483647 := by
      rw [Int32.toBitVec_and, BitVec.toNat_and]
      rfl
    rw [e]
    exact Nat.lt_of_le_of_lt Nat.and_le_right (by omega)
  · apply Int32.toBitVec_inj.mp
    show _ = BitVec.ofNat 32 _
    rw [BitVec.ofNat_toNat, BitVec.setWidth_eq]
def zup (v n : Int32) : Int32 := (v &&& 2147483647) - (v &&& 2147483647) / n * n
def zu (v : Int32) (n : Nat) : Nat := (zup v (nI n)).toNatClampNeg
theorem zu_ex (v : Int32) {n : Nat} (h0 : 0 < n) (hn : n < 2 ^ 31) : ∃ w : Nat, w < n ∧ zup v (nI n) = nI w := by
  obtain ⟨w, hw, e⟩ := zand_hi v
  refine ⟨w % n, Nat.mod_lt _ h0, ?_⟩
  unfold zup
  rw [e, pk_rem hw h0 hn]
theorem zu_eq (v : Int32) {n : Nat} (h0 : 0 < n) (hn : n < 2 ^ 31) : zup v (nI n) = nI (zu v n) := by
  obtain ⟨w, hw, e⟩ := zu_ex v h0 hn
  unfold zu
  rw [e, nI_clamp (by omega)]
theorem zu_lt (v : Int32) {n : Nat} (h0 : 0 < n) (hn : n < 2 ^ 31) : zu v n < n := by
  obtain ⟨w, hw, e⟩ := zu_ex v h0 hn
  unfold zu
  rw [e, nI_clamp (by omega)]
  exact hw
theorem zu_ne {n : Nat} (h0 : 0 < n) (hn : n < 2 ^ 31) : ¬ nI n = 0 := fun h => by
  have := (nI_eq (a := n) (b := 0) hn (by omega)).mp h
  omega
end ZVU
