/-! what is thrown: classes, texts; contracts of methods that return or throw -/
section ZT
def zeO : String := "java/lang/IndexOutOfBoundsException"
def zeA : String := "java/lang/IllegalArgumentException"
def zeS : String := "java/lang/IllegalStateException"
def zTx : List (Nat × String) := [(86, "too many weeks ended"), (99, "too many days or share days"), (141, "no snapshot in the slot"), (146, "no saved state"), (210, "no such member"), (213, "both are the same member"), (215, "no such setting"), (217, "out of range")]
/-- what a throw needs of the start -/
def zOut (Z : Nat → Prop) (U : State) : Prop := vx_Zq Bundle.tN "UNASSIGNED_STACK" Bundle.steD Z U U.heap ∧ vx_Zq Bundle.tN "SUPPRESSED_SENTINEL" Bundle.listD Z U U.heap ∧ (∀ q ∈ zTx, ∃ sa, vk_R RX2 q.1 q.2 sa U) ∧ va_Nw (.castable zeO zeO) U ∧ va_Nw (.castable zeA zeA) U ∧ va_Nw (.castable zeS zeS) U ∧ va_Nw (.declares (Bundle.initS "java/lang/RuntimeException")) U ∧ va_Nw (.declares (Bundle.initS "java/lang/Exception")) U ∧ va_Nw (.declares (Bundle.initS Bundle.tN)) U
def zPx (D : va_G) (cA : Nat → ClassId) (av : List Value) (w : va_W) : Array Value → State → Prop := va_Pc av (fun U => va_P D vwCl w U.heap ∧ va_K D vwCl (zTy cA) U ∧ va_D (fun _ => True) w ∧ zOut (zfr w) U)
/-- an end under a condition -/
def zV (V : Prop) (Q : Array Value → State → Outcome → State → Prop) : Array Value → State → Outcome → State → Prop := fun a st oc t => V ∧ Q a st oc t
/-- a throw: of which class, and the world behind it -/
def zX (D : va_G) (w wx : va_W) (XP : String → Prop) : String → State → State → Prop := fun E st t => XP E ∧ va_P D vwCl wx t.heap ∧ va_F (zfr w) st t
abbrev zrx (f L k n : Nat) : Room := { frames := f, cells := k, slots := n, locals := L }
/-- checks one after another: all hold; or the first that fails says what is thrown -/
def zva : List (Prop × String) → Prop
  | [] => True
  | q :: r => q.1 ∧ zva r
def zxp : List (Prop × String) → String → Prop
  | [], _ => False
  | q :: r, E => (¬ q.1 ∧ E = q.2) ∨ (q.1 ∧ zxp r E)
theorem zxp_mid {pre vc suf : List (Prop × String)} {E : String} (hp : zva pre) (h : zxp vc E) : zxp (pre ++ (vc ++ suf)) E := by
  induction pre with
  | nil =>
    show zxp (vc ++ suf) E
    induction vc with
    | nil => exact h.elim
    | cons q r ih =>
      rcases h with h | ⟨h1, h2⟩
      · exact Or.inl h
      · exact Or.inr ⟨h1, ih h2⟩
  | cons q r ih => exact Or.inr ⟨hp.1, ih hp.2⟩
theorem zOut.mv {A Z : Nat → Prop} {s U : State} {H : Heap} {locs : List Loc} (h : zOut A s) (hS : va_S A s.heap H locs) (hU : U.heap = H) (hW : s.WarmedH U.vm) (hZ : ∀ q, Z q → A q) : zOut Z U := by
  obtain ⟨h1, h2, h3, h4, h5, h6, h7, h8, h9⟩ := h
  refine ⟨?_, ?_, ?_, va_Nw.warmC hW h4, va_Nw.warmC hW h5, va_Nw.warmC hW h6, va_Nw.warmD hW h7, va_Nw.warmD hW h8, va_Nw.warmD hW h9⟩
  · rw [hU]
    exact ((h1.kept hS.2.1).moved hW.alike).narrow hZ
  · rw [hU]
    exact ((h2.kept hS.2.1).moved hW.alike).narrow hZ
  · intro q hq
    obtain ⟨sa, hsa⟩ := h3 q hq
    exact ⟨sa, vk_R.warm hW hsa⟩
theorem zOut.nw {A Z : Nat → Prop} {s : State} (h : zOut A s) (hZ : ∀ q, Z q → A q) : zOut Z s := h.mv va_S.rf rfl (State.WarmedH.refl s) hZ
theorem zx_blind {D : va_G} {cA : Nat → ClassId} {av : List Value} {w : va_W} : FrameBlind (zPx D cA av w) := fun a U g mk q => by
  obtain ⟨q0, qP, qK, qD, qO⟩ := q
  exact ⟨q0, qP, va_K.moved (u := U) (U := U.calling g mk a) (Vm.Alike.refl U.vm) qK, qD, qO.mv (U := U.calling g mk a) va_S.rf rfl (State.WarmedH.refl U) (fun _ h => h)⟩
theorem zx_preS {D : va_G} {cA : Nat → ClassId} {A B : Nat → Prop} {s : State} {H : Heap} {locs : List Loc} {wc : va_W} {As : List Value} (hK : va_K D vwCl (zTy cA) s) (hP : va_P D vwCl wc H) (hD : va_D B wc) (hO : zOut A s) (hS : va_S A s.heap H locs) (hZ : ∀ q, zfr wc q → A q) : PreS s H (zPx D cA As wc) As :=
  ⟨zx_blind, fun U hU hW => ⟨rfl, by rw [hU]; exact hP, va_K.moved hW.alike hK, hD.weaken (fun _ _ _ _ => trivial), hO.mv hS hU hW hZ⟩⟩
theorem zfr_0 (q : Nat) : ¬ zfr [] q := by
  rintro ⟨k, e, h⟩
  simp at h
theorem zt_ngO : ∀ w ∈ (vx_atS RX2 212 zeO ["java/lang/RuntimeException", "java/lang/Exception"]).filter (fun w => !goodWord w), w ∈ [Cond.castable zeO zeO, Cond.declares (Bundle.initS "java/lang/RuntimeException"), Cond.declares (Bundle.initS "java/lang/Exception"), Cond.declares (Bundle.initS Bundle.tN)] := by decide +kernel
theorem zt_ngA : ∀ w ∈ (vx_atS RX2 130 zeA ["java/lang/RuntimeException", "java/lang/Exception"]).filter (fun w => !goodWord w), w ∈ [Cond.castable zeA zeA, Cond.declares (Bundle.initS "java/lang/RuntimeException"), Cond.declares (Bundle.initS "java/lang/Exception"), Cond.declares (Bundle.initS Bundle.tN)] := by decide +kernel
theorem zt_ngS : ∀ w ∈ (vx_atS RX2 88 zeS ["java/lang/RuntimeException", "java/lang/Exception"]).filter (fun w => !goodWord w), w ∈ [Cond.castable zeS zeS, Cond.declares (Bundle.initS "java/lang/RuntimeException"), Cond.declares (Bundle.initS "java/lang/Exception"), Cond.declares (Bundle.initS Bundle.tN)] := by decide +kernel
theorem zt_otO : ∀ w ∈ Cond.classLink RX2 208 zeO :: Cond.initialized zeO :: vx_atS RX2 212 zeO ["java/lang/RuntimeException", "java/lang/Exception"], vx_ot w = true := by decide +kernel
theorem zt_otA : ∀ w ∈ Cond.classLink RX2 126 zeA :: Cond.initialized zeA :: vx_atS RX2 130 zeA ["java/lang/RuntimeException", "java/lang/Exception"], vx_ot w = true := by decide +kernel
theorem zt_otS : ∀ w ∈ Cond.classLink RX2 84 zeS :: Cond.initialized zeS :: vx_atS RX2 88 zeS ["java/lang/RuntimeException", "java/lang/Exception"], vx_ot w = true := by decide +kernel
theorem zt_fit : ∀ n ∈ ["java/lang/RuntimeException", "java/lang/Exception"], Bundle.fit n = true := by decide +kernel
section
variable {p : Program} {l : Launch} {e : Env} {R : Room} {s : State} {m : MethodId} {args : Array Value} {below : List Frame} {meth : Method} {c : Code} {H : Heap} {locs : List Loc} {cells slots : Nat} {Q : State → Prop}
variable {cc : ByteArray} {pc : Nat} {ls : Array Slot} {rest st0 st1 : List Value} {D : va_G} {cA : Nat → ClassId} {A : Nat → Prop} {a : Nat} {ws : va_W} {H0 : Heap}
variable {Qc : Array Value → State → Outcome → State → Prop} {XC : String → State → State → Prop}
theorem zx_ret {g : JFrame} {mc ms : Nat} {free : Addr → Prop} {V : Prop} (hV : V) (k : W p l e R s m args below meth c H locs cells slots (MQ below Qc args s mc ms free) g) : W p l e R s m args below meth c H locs cells slots (vx_MQ below (zV V Qc) XC args s mc ms free) g := by
  intro T hT X
  obtain ⟨t, a1, o, b1, b2, b3, b4⟩ := k T hT X
  exact ⟨t, a1, o, b1, b2, Or.inl ⟨⟨hV, b3⟩, b4⟩⟩
/-- a check is called: it throws, and that goes on to the caller; or it returns -/
theorem zx_chk {rv : Option Value} {aa : Array Value} {w : va_W} {V : Prop} {XP XP' : String → Prop} {mc ms mc' ms' : Nat} (hr : vx_Run p l e R s m args below meth c s.heap [] cells slots mc ms (F0 m pc ls st0) rest (zV V (zE rv) aa) (zX D [] [] XP) (zfr [])) (h1 : rv.toList ++ rest = st1)
    (hnt : ∀ x ∈ c.exceptionTable.toList, False) (hlocks : meth.locks = false) (hP : va_P D vwCl w s.heap) (hX : ∀ E, XP E → XP' E) (hc : cells + mc ≤ mc') (hs : slots + ms ≤ ms')
    (kk : V → W p l e R s m args below meth c s.heap [] (cells + mc) (slots + ms) (vx_MQ below Qc (zX D w w XP') args s mc' ms' (zfr w)) (F0 m (pc + 3) ls st1)) :
    W p l e R s m args below meth c s.heap [] cells slots (vx_MQ below Qc (zX D w w XP') args s mc' ms' (zfr w)) (F0 m pc ls st0) := by
  subst h1
  intro T hT X
  rcases hr T hT X with ⟨v, st₀, t, T', L, h0, X', hL, e1, e2, ⟨hV, hv, hh⟩, st⟩ | ⟨q, st₀, t, T', L, E, ce, h0, X', hL, e1, e2, ⟨hx1, hx2, hF⟩, hce, hcv, hcl, st⟩
  · cases hv
    obtain ⟨t2, a1, b1⟩ := kk hV T' (by rw [e1, hh, h0]) (Stand.forget X' (fun q h => (zfr_0 _ (hL q h)).elim))
    exact ⟨t2, st t2 a1, b1⟩
  · have hF1 : s.heap.size ≤ T'.heap.size := by rw [e1, ← h0]; exact hF.1
    have hF2 : ∀ z : Nat, z < s.heap.size → T'.heap[z]? = s.heap[z]? := fun z hz => by rw [e1, ← h0]; exact hF.2 z (by rw [h0]; exact hz) (zfr_0 z)
    have ho := vx_out (p := p) (l := l) (e := e) (R := R) (s := s) (m := m) (args := args) (below := below) (meth := meth) (c := c) (H := T'.heap) (locs := []) (cells := cells + mc) (slots := slots + ms) (ls := ls) (rest := rest) (Qc := Qc) (XC := zX D w w XP') (free := zfr w) (pc := pc) (E := E) (ce := ce) (q := q) (mc := mc') (ms := ms') (fun x hx => (hnt x hx).elim) hlocks (by rw [e1]; exact hce) hcv hcl
      (fun t' ht' _ => ⟨hX E hx1, by rw [ht']; exact hP.kept (fun k z hk => hF2 z.1 (vx_lt hP hk)), by rw [va_F, ht']; exact ⟨hF1, fun z hz _ => hF2 z hz⟩⟩) (fun z hz => nomatch hz) hc hs
    obtain ⟨t2, a1, b1⟩ := ho T' rfl (Stand.forget X' (fun q h => (zfr_0 _ (hL q h)).elim))
    exact ⟨t2, st.trans a1, b1⟩
/-- a throw of the method's own -/
theorem zx_throw {w wx : va_W} {XP : String → Prop} {cls text : String} {ik is ic mc ms : Nat} (hexec : p.tables.exec = Jvm.exec) (hb : c.code = cc) (hl : l.stackTraces = false) (hown : s.vm.findClass RX2 = some m.cls) (hcls : Bundle.fit cls = true)
    (hk : (Cond.classLink RX2 ik cls).before args s = true) (hini : (Cond.initialized cls).before args s = true) (hO : zOut (zfr w) s) (htx : (is, text) ∈ zTx) (hgw : ∀ x ∈ (vx_atS RX2 ic cls ["java/lang/RuntimeException", "java/lang/Exception"]).filter goodWord, x.before args s = true)
    (hng : ∀ x ∈ (vx_atS RX2 ic cls ["java/lang/RuntimeException", "java/lang/Exception"]).filter (fun w => !goodWord w), x ∈ [Cond.castable cls cls, Cond.declares (Bundle.initS "java/lang/RuntimeException"), Cond.declares (Bundle.initS "java/lang/Exception"), Cond.declares (Bundle.initS Bundle.tN)]) (hcast : va_Nw (.castable cls cls) s)
    (hot : ∀ x ∈ Cond.classLink RX2 ik cls :: Cond.initialized cls :: vx_atS RX2 ic cls ["java/lang/RuntimeException", "java/lang/Exception"], vx_ot x = true) (hS : va_S (zfr w) s.heap H locs) (hsize : ls.size = c.maxLocals)
    (d0 : decode cc pc = .ok (.new ik, 3)) (d3 : decode cc (pc + 3) = .ok (.dup, 1)) (d4 : decode cc (pc + 4) = .ok (.ldc is, 2)) (d6 : decode cc (pc + 6) = .ok (.invokespecial ic, 3)) (d9 : decode cc (pc + 9) = .ok (.athrow, 1))
    (hnt : ∀ x ∈ c.exceptionTable.toList, False) (hRf : 5 < R.frames) (hRl : (rest.map fun v => v.category).sum + 82 ≤ R.locals) (hRc : cells + 1 ≤ R.cells) (hRs : slots + 6 ≤ R.slots) (hlocks : meth.locks = false)
    (hP : va_P D vwCl wx H) (hX : XP cls) (hc : cells + 1 ≤ mc) (hs : slots + 6 ≤ ms) :
    W p l e R s m args below meth c H locs cells slots (vx_MQ below Qc (zX D w wx XP) args s mc ms (zfr w)) (F0 m pc ls rest) := by
  obtain ⟨sa, hsa⟩ := hO.2.2.1 _ htx
  refine vx_throwS (A := zfr w) (names := ["java/lang/RuntimeException", "java/lang/Exception"]) (text := text) (sa := sa) hexec hb hl hown hcls zt_fit hk hini hsa (vx_hat hgw hng (vx_c (va_Nw.use rfl hcast) (vx_c (va_Nw.use rfl hO.2.2.2.2.2.2.1) (vx_c (va_Nw.use rfl hO.2.2.2.2.2.2.2.1) (vx_c (va_Nw.use rfl hO.2.2.2.2.2.2.2.2) vx_n))))) hot hO.1 hO.2.1 hS hsize d0 d3 d4 d6 d9 (fun x hx => (hnt x hx).elim) hRf hRl hRc hRs hlocks ?_ hS.2.2 hc hs
  intro t _ h1 h2
  exact ⟨hX, hP.kept (fun k z hk => h2 z.1 (vx_lt hP hk)), ⟨Nat.le_trans hS.1 h1, fun z hz hn => by rw [h2 z (Nat.lt_of_lt_of_le hz hS.1)]; exact hS.2.1 z hz hn⟩⟩
end
/-! what the checks say -/
def zmem (x : Int32) : Prop := ∃ q9 : Nat, q9 < 6 ∧ x = nI q9
def zrg (x lo hi : Int32) : Prop := ¬ x < lo ∧ ¬ hi < x
def zset (x : Int32) : Prop := ∃ q9 : Nat, q9 < 2 ∧ x = nI q9
theorem zmem_no1 {x : Int32} (h : x < 0) : ¬ zmem x := by
  rintro ⟨q, hq, rfl⟩
  exact nI_pos (n := q) (by omega) h
theorem zmem_no2 {x : Int32} (h : 6 ≤ x) : ¬ zmem x := by
  rintro ⟨q, hq, rfl⟩
  exact nI_ge (a := q) (b := 6) hq (by omega) h
theorem zmem_ok {x : Int32} (h1 : ¬ x < 0) (h2 : ¬ 6 ≤ x) : zmem x := z_lt6 h1 h2
theorem zset_no1 {x : Int32} (h : x < 0) : ¬ zset x := by
  rintro ⟨q, hq, rfl⟩
  exact nI_pos (n := q) (by omega) h
theorem zset_no2 {x : Int32} (h : 2 ≤ x) : ¬ zset x := by
  rintro ⟨q, hq, rfl⟩
  exact nI_ge (a := q) (b := 2) hq (by omega) h
theorem zset_ok {x : Int32} (h1 : ¬ x < 0) (h2 : ¬ 2 ≤ x) : zset x := by
  obtain ⟨j, hj, rfl⟩ := nI_of h1
  refine ⟨j, ?_, rfl⟩
  have : ¬ nI 2 ≤ nI j := h2
  rw [nI_leI (by omega) hj] at this
  omega
end ZT
