/-! the rows of this claim: worlds, contracts' starts and ends, calls, one row each -/
section ZR
abbrev zTy (cA : Nat → ClassId) : List (ClassId × FieldType) := [(cA 0, .int), (cA 1, .boolean), (cA 2, .char), (cA 3, .object "PledgedLoans$Books")]
/-- the addresses of a world -/
def zfr (w : va_W) : Nat → Prop := fun q => ∃ (k : Nat) (e : va_E), w[k]? = some (q, e)
def zPc (D : va_G) (cA : Nat → ClassId) (av : List Value) (w : va_W) : Array Value → State → Prop := va_Pc av (fun U => va_P D vwCl w U.heap ∧ va_K D vwCl (zTy cA) U ∧ va_D (fun _ => True) w)
/-- an end that changes nothing -/
def zE (rv : Option Value) : Array Value → State → Outcome → State → Prop := fun _ st oc t => oc = .returned rv ∧ t.heap = st.heap
/-- an end that changes its world alone, and makes nothing -/
def zM (D : va_G) (w w' : va_W) (rv : Option Value) : Array Value → State → Outcome → State → Prop := fun _ st oc t => oc = .returned rv ∧ va_P D vwCl w' t.heap ∧ va_F (zfr w) st t
abbrev zrm (f L : Nat) : Room := { frames := f, cells := 0, slots := 0, locals := L }
theorem z_blind {D : va_G} {cA : Nat → ClassId} {av : List Value} {w : va_W} : FrameBlind (zPc D cA av w) := fun a U g mk q => by
  obtain ⟨q0, qP, qK, qD⟩ := q
  exact ⟨q0, qP, va_K.moved (u := U) (U := U.calling g mk a) (Vm.Alike.refl U.vm) qK, qD⟩
theorem z_preV {D : va_G} {cA : Nat → ClassId} {A : Nat → Prop} {s : State} {H : Heap} {wc : va_W} {b ci : Nat} {q : vw_C} {fs : List Value} {As : List Value} (hK : va_K D vwCl (zTy cA) s) (hP : va_P D vwCl wc H) (hD : va_D A wc) (hc : vwCl[ci]? = some q) (he : wc[0]? = some (b, .inr (ci, fs))) : PreV s H q.1 b (zPc D cA (.ref b :: As) wc) As :=
  ⟨z_blind, va_recv hK hP hc he, fun U hU hW => ⟨rfl, by rw [hU]; exact hP, va_K.moved hW.alike hK, hD.weaken (fun _ _ _ _ => trivial)⟩⟩
theorem z_preS {D : va_G} {cA : Nat → ClassId} {A : Nat → Prop} {s : State} {H : Heap} {wc : va_W} {As : List Value} (hK : va_K D vwCl (zTy cA) s) (hP : va_P D vwCl wc H) (hD : va_D A wc) : PreS s H (zPc D cA As wc) As :=
  ⟨z_blind, fun U hU hW => ⟨rfl, by rw [hU]; exact hP, va_K.moved hW.alike hK, hD.weaken (fun _ _ _ _ => trivial)⟩⟩
theorem z_P0 {D : va_G} {H : Heap} : va_P D vwCl [] H := fun k q h => by simp at h
theorem z_D0 {A : Nat → Prop} : va_D A [] := ⟨fun i j p q h => by simp at h, fun k q h => by simp at h⟩
theorem z_Dfr {w : va_W} (h : va_D (fun _ => True) w) : va_D (zfr w) w := ⟨h.1, fun k q hk => ⟨k, q.2, hk⟩⟩
section
variable {p : Program} {l : Launch} {e : Env} {R : Room} {s : State} {m : MethodId} {args : Array Value} {below : List Frame} {meth : Method} {c : Code} {H : Heap} {locs : List Loc} {cells slots : Nat} {Q : State → Prop}
variable {cc : ByteArray} {pc : Nat} {ls : Array Slot} {rest st0 st1 : List Value} {D : va_G} {cA : Nat → ClassId} {A : Nat → Prop} {a : Nat} {ws : va_W} {H0 : Heap}
theorem z_top {x y : Int32} (h : x = y) (k : W p l e R s m args below meth c H locs cells slots Q (F0 m pc ls (.int y :: rest))) : W p l e R s m args below meth c H locs cells slots Q (F0 m pc ls (.int x :: rest)) := h ▸ k
theorem z_topl {x y : Int64} (h : x = y) (k : W p l e R s m args below meth c H locs cells slots Q (F0 m pc ls (.long y :: rest))) : W p l e R s m args below meth c H locs cells slots Q (F0 m pc ls (.long x :: rest)) := h ▸ k
/-- ends that change nothing -/
theorem z_iretE {v r : Int32} {free : Addr → Prop} (hx : p.tables.exec = Jvm.exec) (hb : c.code = cc) (hr : meth.sig.returnType = some .int) (hlocks : meth.locks = false) (hdg : decode cc pc = .ok (.ireturn, 1)) (he : v = r) : W p l e R s m args below meth c s.heap [] cells slots (MQ below (zE (some (.int r))) args s cells slots free) (F0 m pc ls [.int v]) := by
  subst he
  exact W.iret hx hb hr (fun t ht _ => ⟨rfl, ht⟩) (fun q hq => by cases hq) hdg hlocks
theorem z_zretE {v r : Int32} {free : Addr → Prop} (hx : p.tables.exec = Jvm.exec) (hb : c.code = cc) (hr : meth.sig.returnType = some .boolean) (hlocks : meth.locks = false) (hdg : decode cc pc = .ok (.ireturn, 1)) (hn : narrow .boolean (.int v) = .int v) (he : v = r) : W p l e R s m args below meth c s.heap [] cells slots (MQ below (zE (some (.int r))) args s cells slots free) (F0 m pc ls [.int v]) := by
  subst he
  exact W.zret hx hb hr hn (fun t ht _ => ⟨rfl, ht⟩) (fun q hq => by cases hq) hdg hlocks
theorem z_lretE {v r : Int64} {free : Addr → Prop} (hx : p.tables.exec = Jvm.exec) (hb : c.code = cc) (hr : meth.sig.returnType = some .long) (hlocks : meth.locks = false) (hdg : decode cc pc = .ok (.lreturn, 1)) (he : v = r) : W p l e R s m args below meth c s.heap [] cells slots (MQ below (zE (some (.long r))) args s cells slots free) (F0 m pc ls [.long v]) := by
  subst he
  exact W.lret hx hb hr (fun t ht _ => ⟨rfl, ht⟩) (fun q hq => by cases hq) hdg hlocks
theorem z_dretE {v r : UInt64} {free : Addr → Prop} (hx : p.tables.exec = Jvm.exec) (hb : c.code = cc) (hr : meth.sig.returnType = some .double) (hlocks : meth.locks = false) (hdg : decode cc pc = .ok (.dreturn, 1)) (he : v = r) : W p l e R s m args below meth c s.heap [] cells slots (MQ below (zE (some (.double r))) args s cells slots free) (F0 m pc ls [.double v]) := by
  subst he
  exact W.dret hx hb hr (fun t ht _ => ⟨rfl, ht⟩) (fun q hq => by cases hq) hdg hlocks
/-- ends that change the world -/
theorem z_iretM {v r : Int32} {w w1 w' : va_W} (hx : p.tables.exec = Jvm.exec) (hb : c.code = cc) (hr : meth.sig.returnType = some .int) (hlocks : meth.locks = false) (hdg : decode cc pc = .ok (.ireturn, 1)) (hP : va_P D vwCl w1 H) (hS : va_S (zfr w) s.heap H locs) (he : v = r) (hw : w1 = w') : W p l e R s m args below meth c H locs cells slots (MQ below (zM D w w' (some (.int r))) args s cells slots (zfr w)) (F0 m pc ls [.int v]) := by
  subst he hw
  exact W.iret hx hb hr (fun t ht _ => ⟨rfl, by rw [ht]; exact hP, hS.F ht⟩) hS.2.2 hdg hlocks
theorem z_zretM {v r : Int32} {w w1 w' : va_W} (hx : p.tables.exec = Jvm.exec) (hb : c.code = cc) (hr : meth.sig.returnType = some .boolean) (hlocks : meth.locks = false) (hdg : decode cc pc = .ok (.ireturn, 1)) (hP : va_P D vwCl w1 H) (hS : va_S (zfr w) s.heap H locs) (hn : narrow .boolean (.int v) = .int v) (he : v = r) (hw : w1 = w') : W p l e R s m args below meth c H locs cells slots (MQ below (zM D w w' (some (.int r))) args s cells slots (zfr w)) (F0 m pc ls [.int v]) := by
  subst he hw
  exact W.zret hx hb hr hn (fun t ht _ => ⟨rfl, by rw [ht]; exact hP, hS.F ht⟩) hS.2.2 hdg hlocks
theorem z_lretM {v r : Int64} {w w1 w' : va_W} (hx : p.tables.exec = Jvm.exec) (hb : c.code = cc) (hr : meth.sig.returnType = some .long) (hlocks : meth.locks = false) (hdg : decode cc pc = .ok (.lreturn, 1)) (hP : va_P D vwCl w1 H) (hS : va_S (zfr w) s.heap H locs) (he : v = r) (hw : w1 = w') : W p l e R s m args below meth c H locs cells slots (MQ below (zM D w w' (some (.long r))) args s cells slots (zfr w)) (F0 m pc ls [.long v]) := by
  subst he hw
  exact W.lret hx hb hr (fun t ht _ => ⟨rfl, by rw [ht]; exact hP, hS.F ht⟩) hS.2.2 hdg hlocks
theorem z_dretM {v r : UInt64} {w w1 w' : va_W} (hx : p.tables.exec = Jvm.exec) (hb : c.code = cc) (hr : meth.sig.returnType = some .double) (hlocks : meth.locks = false) (hdg : decode cc pc = .ok (.dreturn, 1)) (hP : va_P D vwCl w1 H) (hS : va_S (zfr w) s.heap H locs) (he : v = r) (hw : w1 = w') : W p l e R s m args below meth c H locs cells slots (MQ below (zM D w w' (some (.double r))) args s cells slots (zfr w)) (F0 m pc ls [.double v]) := by
  subst he hw
  exact W.dret hx hb hr (fun t ht _ => ⟨rfl, by rw [ht]; exact hP, hS.F ht⟩) hS.2.2 hdg hlocks
theorem z_vretM {w w1 w' : va_W} (hx : p.tables.exec = Jvm.exec) (hb : c.code = cc) (hr : meth.sig.returnType = none) (hlocks : meth.locks = false) (hdg : decode cc pc = .ok (.return_, 1)) (hP : va_P D vwCl w1 H) (hS : va_S (zfr w) s.heap H locs) (hw : w1 = w') : W p l e R s m args below meth c H locs cells slots (MQ below (zM D w w' none) args s cells slots (zfr w)) (F0 m pc ls []) := by
  subst hw
  exact W.vret hx hb hr (fun t ht _ => ⟨rfl, by rw [ht]; exact hP, hS.F ht⟩) hS.2.2 hdg hlocks
/-- arrays of ints, by a place that is a number -/
theorem z_iald (hx : p.tables.exec = Jvm.exec) (hb : c.code = cc) (hK : va_K D vwCl (zTy cA) s) (hP : va_P D vwCl ws H) (q0 t0 : Nat) {cI : ClassId} {n j : Nat} {f : Nat → Int32} (ha : ws[q0]? = some (a, .inl (cI, n, .inl f))) (ht : (zTy cA)[t0]? = some (cI, .int)) (hdg : decode cc pc = .ok (.iaload, 1)) (hj : j < n) (hn : n < 2 ^ 31)
    (kk : W p l e R s m args below meth c H locs cells slots Q (F0 m (pc + 1) ls (.int (f j) :: rest))) : W p l e R s m args below meth c H locs cells slots Q (F0 m pc ls (.int (nI j) :: .ref a :: rest)) := by
  refine va_iald hx hb hK hP q0 t0 ha ht (vp_in_nI hj hn) hdg ?_
  rw [nI_clamp (by omega)]
  exact kk
theorem z_zald (hx : p.tables.exec = Jvm.exec) (hb : c.code = cc) (hK : va_K D vwCl (zTy cA) s) (hP : va_P D vwCl ws H) (q0 t0 : Nat) {cI : ClassId} {n j : Nat} {f : Nat → Int32} (ha : ws[q0]? = some (a, .inl (cI, n, .inl f))) (ht : (zTy cA)[t0]? = some (cI, .boolean)) (hdg : decode cc pc = .ok (.baload, 1)) (hj : j < n) (hn : n < 2 ^ 31)
    (kk : W p l e R s m args below meth c H locs cells slots Q (F0 m (pc + 1) ls (.int (f j) :: rest))) : W p l e R s m args below meth c H locs cells slots Q (F0 m pc ls (.int (nI j) :: .ref a :: rest)) := by
  refine va_zald hx hb hK hP q0 t0 ha ht (vp_in_nI hj hn) hdg ?_
  rw [nI_clamp (by omega)]
  exact kk
theorem z_cald (hx : p.tables.exec = Jvm.exec) (hb : c.code = cc) (hK : va_K D vwCl (zTy cA) s) (hP : va_P D vwCl ws H) (q0 t0 : Nat) {cI : ClassId} {n j : Nat} {f : Nat → Int32} (ha : ws[q0]? = some (a, .inl (cI, n, .inl f))) (ht : (zTy cA)[t0]? = some (cI, .char)) (hdg : decode cc pc = .ok (.caload, 1)) (hj : j < n) (hn : n < 2 ^ 31)
    (kk : W p l e R s m args below meth c H locs cells slots Q (F0 m (pc + 1) ls (.int (f j) :: rest))) : W p l e R s m args below meth c H locs cells slots Q (F0 m pc ls (.int (nI j) :: .ref a :: rest)) := by
  refine va_cald hx hb hK hP q0 t0 ha ht (vp_in_nI hj hn) hdg ?_
  rw [nI_clamp (by omega)]
  exact kk
theorem z_iast (hx : p.tables.exec = Jvm.exec) (hb : c.code = cc) (hK : va_K D vwCl (zTy cA) s) (hP : va_P D vwCl ws H) (hD : va_D A ws) (hS : va_S A H0 H locs) (q0 t0 : Nat) {cI : ClassId} {n j : Nat} {f : Nat → Int32} (ha : ws[q0]? = some (a, .inl (cI, n, .inl f))) (ht : (zTy cA)[t0]? = some (cI, .int)) (hdg : decode cc pc = .ok (.iastore, 1)) (hj : j < n) (hn : n < 2 ^ 31) {x : Int32} (w1 : va_W) (hw : ws.set q0 (a, .inl (cI, n, .inl (upd f j x))) = w1)
    (kk : ∀ (H1 : Heap) (locs1 : List Loc), va_P D vwCl w1 H1 → va_D A w1 → va_S A H0 H1 locs1 → W p l e R s m args below meth c H1 locs1 cells slots Q (F0 m (pc + 1) ls rest)) : W p l e R s m args below meth c H locs cells slots Q (F0 m pc ls (.int x :: .int (nI j) :: .ref a :: rest)) := by
  subst hw
  refine va_iast hx hb hK hP hD hS q0 t0 ha ht (vp_in_nI hj hn) hdg ?_
  rw [nI_clamp (by omega)]
  exact kk
theorem z_zast (hx : p.tables.exec = Jvm.exec) (hb : c.code = cc) (hK : va_K D vwCl (zTy cA) s) (hP : va_P D vwCl ws H) (hD : va_D A ws) (hS : va_S A H0 H locs) (q0 t0 : Nat) {cI : ClassId} {n j : Nat} {f : Nat → Int32} (ha : ws[q0]? = some (a, .inl (cI, n, .inl f))) (ht : (zTy cA)[t0]? = some (cI, .boolean)) (hdg : decode cc pc = .ok (.bastore, 1)) (hj : j < n) (hn : n < 2 ^ 31) {x : Int32} (hv : vp_nar .boolean x = x) (w1 : va_W) (hw : ws.set q0 (a, .inl (cI, n, .inl (upd f j x))) = w1)
    (kk : ∀ (H1 : Heap) (locs1 : List Loc), va_P D vwCl w1 H1 → va_D A w1 → va_S A H0 H1 locs1 → W p l e R s m args below meth c H1 locs1 cells slots Q (F0 m (pc + 1) ls rest)) : W p l e R s m args below meth c H locs cells slots Q (F0 m pc ls (.int x :: .int (nI j) :: .ref a :: rest)) := by
  subst hw
  refine va_zast hx hb hK hP hD hS q0 t0 ha ht (vp_in_nI hj hn) hdg ?_
  rw [nI_clamp (by omega), hv]
  exact kk
/-- calls that change nothing; rv: what comes back -/
theorem z_E {rv : Option Value} {aa : Array Value} (hr : va_Run p l e R s m args below meth c H locs cells slots 0 0 (F0 m pc ls st0) rest (zE rv aa) (fun _ => False)) (h1 : rv.toList ++ rest = st1)
    (kk : W p l e R s m args below meth c H locs cells slots Q (F0 m (pc + 3) ls st1)) : W p l e R s m args below meth c H locs cells slots Q (F0 m pc ls st0) := by
  subst h1
  intro T hT X
  obtain ⟨v, st₀, t, T', L, h0, X', hL, e1, e2, ⟨hv, hh⟩, st⟩ := hr T hT X
  cases hv
  obtain ⟨t2, a1, b1⟩ := kk T' (by rw [e1, hh, h0]) (Stand.forget X' (fun q h => (hL q h).elim))
  exact ⟨t2, st t2 a1, b1⟩
theorem z_join {X wc w1 Z : va_W} {H1 : Heap} (hP : va_P D vwCl (X ++ (wc ++ Z)) H) (hD : va_D A (X ++ (wc ++ Z))) (hadr : w1.map Prod.fst = wc.map Prod.fst) (hP1 : va_P D vwCl w1 H1) (hk : ∀ q : Nat, q < H.size → ¬ zfr wc q → H1[q]? = H[q]?) : va_P D vwCl (X ++ (w1 ++ Z)) H1 ∧ va_D A (X ++ (w1 ++ Z)) := by
  have hadr' : ∀ (k : Nat), (w1[k]?).map Prod.fst = (wc[k]?).map Prod.fst := fun k => by rw [← List.getElem?_map, ← List.getElem?_map, hadr]
  have hlen : w1.length = wc.length := by have := congrArg List.length hadr; simpa using this
  have hadr2 : ∀ (k : Nat), ((X ++ (w1 ++ Z))[k]?).map Prod.fst = ((X ++ (wc ++ Z))[k]?).map Prod.fst := fun k => by
    rw [← List.getElem?_map, ← List.getElem?_map]; simp [hadr]
  have old : ∀ (k : Nat) (q : Nat × va_E), (X ++ (wc ++ Z))[k]? = some q → (∀ j, X.length + j = k → wc.length ≤ j) → va_at D vwCl q H1 := by
    intro k q hq hn
    refine (hP k q hq).kept (hk q.1 (hP k q hq).lt ?_)
    rintro ⟨j, e', hj⟩
    have hjl := (List.getElem?_eq_some_iff.mp hj).1
    have h2 : (X ++ (wc ++ Z))[X.length + j]? = some (q.1, e') := by
      rw [List.getElem?_append_right (by omega), Nat.add_sub_cancel_left, List.getElem?_append_left hjl, hj]
    have := hD.1 k (X.length + j) q (q.1, e') hq h2 rfl
    have := hn j this.symm
    omega
  refine ⟨fun k q hq => ?_, fun i j p' q' hp hq he => ?_, fun k q hq => ?_⟩
  · rcases Nat.lt_or_ge k X.length with h | h
    · refine old k q ?_ (fun j hj => by omega)
      rw [List.getElem?_append_left h] at hq ⊢
      exact hq
    · obtain ⟨j, rfl⟩ : ∃ j, k = X.length + j := ⟨k - X.length, by omega⟩
      rw [List.getElem?_append_right h, Nat.add_sub_cancel_left] at hq
      rcases Nat.lt_or_ge j w1.length with h2 | h2
      · rw [List.getElem?_append_left h2] at hq
        exact hP1 j q hq
      · refine old (X.length + j) q ?_ (fun i hi => by omega)
        rw [List.getElem?_append_right h, Nat.add_sub_cancel_left, List.getElem?_append_right (by omega), ← hlen]
        rw [List.getElem?_append_right h2] at hq
        exact hq
  · have e1 := hadr2 i
    have e2 := hadr2 j
    rw [hp] at e1
    rw [hq] at e2
    cases hi : (X ++ (wc ++ Z))[i]? with
    | none => rw [hi] at e1; cases e1
    | some x =>
      cases hj : (X ++ (wc ++ Z))[j]? with
      | none => rw [hj] at e2; cases e2
      | some y =>
        rw [hi] at e1; rw [hj] at e2
        have h1 : p'.1 = x.1 := by simpa using e1
        have h2 : q'.1 = y.1 := by simpa using e2
        exact hD.1 i j x y hi hj (by rw [← h1, ← h2, he])
  · have e1 := hadr2 k
    rw [hq] at e1
    cases hi : (X ++ (wc ++ Z))[k]? with
    | none => rw [hi] at e1; cases e1
    | some x =>
      rw [hi] at e1
      have h1 : q.1 = x.1 := by simpa using e1
      rw [h1]
      exact hD.2 k x hi
/-- calls that change a stretch of the world -/
theorem z_M {rv : Option Value} {aa : Array Value} {X wc w1 Z : va_W} (hr : va_Run p l e R s m args below meth c H locs cells slots 0 0 (F0 m pc ls st0) rest (zM D wc w1 rv aa) (zfr wc)) (hP : va_P D vwCl (X ++ (wc ++ Z)) H) (hD : va_D A (X ++ (wc ++ Z))) (hS : va_S A H0 H locs) (hadr : w1.map Prod.fst = wc.map Prod.fst) (h1 : rv.toList ++ rest = st1)
    (kk : ∀ (H1 : Heap) (locs1 : List Loc), va_P D vwCl (X ++ (w1 ++ Z)) H1 → va_D A (X ++ (w1 ++ Z)) → va_S A H0 H1 locs1 → W p l e R s m args below meth c H1 locs1 cells slots Q (F0 m (pc + 3) ls st1)) : W p l e R s m args below meth c H locs cells slots Q (F0 m pc ls st0) := by
  subst h1
  have hF : ∀ q, zfr wc q → A q := by
    rintro q ⟨j, e', hj⟩
    have hjl := (List.getElem?_eq_some_iff.mp hj).1
    refine hD.2 (X.length + j) (q, e') ?_
    rw [List.getElem?_append_right (by omega), Nat.add_sub_cancel_left, List.getElem?_append_left hjl, hj]
  intro T hT X'
  obtain ⟨v, st₀, t, T', L, h0, X1, hL, e1, e2, ⟨hv, hp1, hz, hk⟩, st⟩ := hr T hT X'
  cases hv
  rw [h0] at hz hk
  have hj := z_join (H1 := T'.heap) hP hD hadr (by rw [e1]; exact hp1) (fun q h1 h2 => by rw [e1]; exact hk q h1 h2)
  obtain ⟨t2, a1, b1⟩ := kk T'.heap (locs ++ L) hj.1 hj.2
    ⟨Nat.le_trans hS.1 (by rw [e1]; exact hz), fun q h1 h2 => by rw [e1, hk q (Nat.lt_of_lt_of_le h1 hS.1) (fun z => h2 (hF q z))]; exact hS.2.1 q h1 h2, fun q hq => by
      rcases List.mem_append.mp hq with h | h
      · exact hS.2.2 q h
      · exact hF _ (hL q h)⟩ T' rfl X1
  exact ⟨t2, st t2 a1, b1⟩
end
/-- numbers -/
theorem z_lt6 {x : Int32} (h1 : ¬ x < 0) (h2 : ¬ 6 ≤ x) : ∃ m : Nat, m < 6 ∧ x = nI m := by
  obtain ⟨j, hj, rfl⟩ := nI_of h1
  refine ⟨j, ?_, rfl⟩
  have h3 : ¬ nI 6 ≤ nI j := h2
  rw [nI_leI (by omega) hj] at h3
  omega
def zsum (f : Nat → Int32) : Nat → Int32
  | 0 => 0
  | n + 1 => zsum f n + f n
/-- the books' contents: rows 0 to 7 the arrays, row 8 the numbers -/
abbrev BK : Type := Nat → Nat → Int32
def uB (B : BK) (k i : Nat) (x : Int32) : BK := fun k' => if k' = k then upd (B k') i x else B k'
def bkE (a : Nat → Nat) (B : BK) : List Value := [.ref (a 1), .ref (a 2), .ref (a 3), .ref (a 4), .ref (a 5), .ref (a 6), .ref (a 7), .ref (a 8), .int (B 8 0), .int (B 8 1), .int (B 8 2), .int (B 8 3), .int (B 8 4), .int (B 8 5), .int (B 8 6), .int (B 8 7)]
def bkW (cI : ClassId) (a : Nat → Nat) (B : BK) : va_W := [(a 0, .inr (0, bkE a B)), (a 1, .inl (cI, 6, .inl (B 0))), (a 2, .inl (cI, 6, .inl (B 1))), (a 3, .inl (cI, 36, .inl (B 2))), (a 4, .inl (cI, 6, .inl (B 3))), (a 5, .inl (cI, 6, .inl (B 4))), (a 6, .inl (cI, 6, .inl (B 5))), (a 7, .inl (cI, 6, .inl (B 6))), (a 8, .inl (cI, 2, .inl (B 7)))]
/-- the model's: row 0 s, 1 isKept, 2 text, 3 frees, 4 the numbers thrown order first second amount weeks; N: saved length at; and hash -/
def moE (a : Nat → Nat) (M : BK) (N : Nat → Nat) (h : Int64) : List Value := [.int (M 4 0), .ref (a 1), .int (nI (N 0)), .ref (a 2), .ref (a 3), .int (nI (N 1)), .int (nI (N 2)), .int (M 4 1), .int (M 4 2), .int (M 4 3), .int (M 4 4), .int (M 4 5), .ref (a 4), .long h]
def moW (cA : Nat → ClassId) (a : Nat → Nat) (M : BK) (N : Nat → Nat) (h : Int64) : va_W := [(a 0, .inr (3, moE a M N h)), (a 1, .inl (cA 0, 738, .inl (M 0))), (a 2, .inl (cA 1, 2, .inl (M 1))), (a 3, .inl (cA 0, 60, .inl (M 2))), (a 4, .inl (cA 0, 6, .inl (M 3)))]
/-- the reader: stage kind member borrower amount weeks -/
def rdW (a : Nat) (r : Nat → Nat) : va_W := [(a, .inr (1, [.int (nI (r 0)), .int (nI (r 1)), .int (nI (r 2)), .int (nI (r 3)), .int (nI (r 4)), .int (nI (r 5))]))]
def zmin (x y : Int32) : Int32 := if y < x then y else x
def zmax (x y : Int32) : Int32 := if x < y then y else x
theorem z_nz {x : Int64} (h : 1 ≤ x) : ¬ x = 0 := by
  intro e
  subst e
  exact absurd h (by decide)
theorem z_nz1 {x : Int32} (h : 1 ≤ x) : ¬ x = 0 := by
  intro e
  subst e
  exact absurd h (by decide)
end ZR
