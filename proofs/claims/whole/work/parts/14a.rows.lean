/-! the law's small methods: rows -/
section ZLW
def ouW (cA : Nat → ClassId) (o : Nat) (f : Nat → Int64) : va_W := [(o, .inl (cA 4, 1, .inr (.inl f)))]
def unW (cA : Nat → ClassId) (x : Nat → Nat) (b : Nat → Nat → Nat) (rd : Nat) (r : Nat → Nat) (X : BK) (N : NK) (B : BK) (Bs : Nat → BK) : va_W := rdW rd r ++ (xmW cA x b rd X N ++ (bkW (cA 0) (b 0) B ++ otW (cA 0) b Bs))
def zPw (D : va_G) (cA : Nat → ClassId) (av : List Value) (w : va_W) : Array Value → State → Prop := va_Pc av (fun U => va_P D vwCl w U.heap ∧ va_K D vwCl (zTy cA) U ∧ va_D (fun _ => True) w ∧ zOut (zfr w) U ∧ va_Nc zeA zeO U ∧ va_Nc zeS zeA U)
theorem zPw_blind {D : va_G} {cA : Nat → ClassId} {av : List Value} {w : va_W} : FrameBlind (zPw D cA av w) := fun a U g mk q => by
  obtain ⟨q0, qP, qK, qD, qO, n1, n2⟩ := q
  exact ⟨q0, qP, va_K.moved (u := U) (U := U.calling g mk a) (Vm.Alike.refl U.vm) qK, qD, qO.mv (U := U.calling g mk a) va_S.rf rfl (State.WarmedH.refl U) (fun _ h => h), va_Nc.moved (u := U) (U := U.calling g mk a) (Vm.Alike.refl U.vm) n1, va_Nc.moved (u := U) (U := U.calling g mk a) (Vm.Alike.refl U.vm) n2⟩
theorem zPw_preS {D : va_G} {cA : Nat → ClassId} {A B : Nat → Prop} {s : State} {H : Heap} {locs : List Loc} {wc : va_W} {As : List Value} (hK : va_K D vwCl (zTy cA) s) (hP : va_P D vwCl wc H) (hD : va_D B wc) (hO : zOut A s) (hn : va_Nc zeA zeO s ∧ va_Nc zeS zeA s) (hS : va_S A s.heap H locs) (hZ : ∀ q, zfr wc q → A q) : PreS s H (zPw D cA As wc) As :=
  ⟨zPw_blind, fun U hU hW => ⟨rfl, by rw [hU]; exact hP, va_K.moved hW.alike hK, hD.weaken (fun _ _ _ _ => trivial), hO.mv hS hU hW hZ, va_Nc.moved hW.alike hn.1, va_Nc.moved hW.alike hn.2⟩⟩
theorem zx_preVq {D : va_G} {cA : Nat → ClassId} {A B : Nat → Prop} {s : State} {H : Heap} {locs : List Loc} {wc : va_W} {b ci q0 : Nat} {q : vw_C} {fs : List Value} {As : List Value} (hK : va_K D vwCl (zTy cA) s) (hP : va_P D vwCl wc H) (hD : va_D B wc) (hO : zOut A s) (hS : va_S A s.heap H locs) (hZ : ∀ q, zfr wc q → A q) (hc : vwCl[ci]? = some q) (he : wc[q0]? = some (b, .inr (ci, fs))) : PreV s H q.1 b (zPx D cA (.ref b :: As) wc) As :=
  ⟨zx_blind, va_recv hK hP hc he, fun U hU hW => ⟨rfl, by rw [hU]; exact hP, va_K.moved hW.alike hK, hD.weaken (fun _ _ _ _ => trivial), hO.mv hS hU hW hZ⟩⟩
/-! a stretch in the middle -/
theorem zmid_at {X wc Z : va_W} {k : Nat} {q : Nat × va_E} (h : wc[k]? = some q) : (X ++ (wc ++ Z))[X.length + k]? = some q := by
  have hk := (List.getElem?_eq_some_iff.mp h).1
  rw [List.getElem?_append_right (by omega), Nat.add_sub_cancel_left, List.getElem?_append_left hk, h]
theorem zmid_P {D : va_G} {X wc Z : va_W} {H : Heap} (h : va_P D vwCl (X ++ (wc ++ Z)) H) : va_P D vwCl wc H := fun k q hq => h _ q (zmid_at hq)
theorem zmid_D {A : Nat → Prop} {X wc Z : va_W} (h : va_D A (X ++ (wc ++ Z))) : va_D A wc := by
  refine ⟨fun i j p q hp hq he => ?_, fun k q hq => h.2 _ q (zmid_at hq)⟩
  have := h.1 _ _ p q (zmid_at hp) (zmid_at hq) he
  omega
theorem zmid_fr {X wc Z : va_W} {q : Nat} (h : zfr wc q) : zfr (X ++ (wc ++ Z)) q := by
  obtain ⟨k, e, hk⟩ := h
  exact ⟨_, e, zmid_at hk⟩
variable {cA : Nat → ClassId} {o : Nat} {f : Nat → Int64} {x : Nat → Nat} {b : Nat → Nat → Nat} {rd : Nat} {r : Nat → Nat} {X : BK} {N : NK} {B : BK} {Bs : Nat → BK}
theorem zun_A : ouW cA o f ++ unW cA x b rd r X N B Bs = (ouW cA o f ++ rdW rd r) ++ ((xmW cA x b rd X N ++ (bkW (cA 0) (b 0) B ++ otW (cA 0) b Bs)) ++ []) := by
  unfold unW
  rw [List.append_nil, List.append_assoc]
theorem zun_B : ouW cA o f ++ unW cA x b rd r X N B Bs = (ouW cA o f ++ rdW rd r) ++ (xmW cA x b rd X N ++ (bkW (cA 0) (b 0) B ++ otW (cA 0) b Bs)) := by
  unfold unW
  rw [List.append_assoc]
theorem zun_C : ouW cA o f ++ unW cA x b rd r X N B Bs = (ouW cA o f ++ rdW rd r) ++ ((xmW cA x b rd X N ++ bkW (cA 0) (b 0) B) ++ otW (cA 0) b Bs) := by
  unfold unW
  rw [List.append_assoc, List.append_assoc]
theorem zun_D : ouW cA o f ++ unW cA x b rd r X N B Bs = ouW cA o f ++ ((rdW rd r ++ (xmW cA x b rd X N ++ (bkW (cA 0) (b 0) B ++ otW (cA 0) b Bs))) ++ []) := by
  unfold unW
  rw [List.append_nil]
/-- how a small method of the law ends: k says which check failed -/
def zW (D : va_G) (w : va_W) (VC : List (Prop × Int32)) (w1 w2 : va_W) : Array Value → State → Outcome → State → Prop := fun _ st oc t => ∃ k : Int32, zTh VC k ∧ oc = .returned (some (.int k)) ∧ va_P D vwCl (if k = 0 then w1 else w2) t.heap ∧ va_F (zfr w) st t
end ZLW
section ZLX
variable {p : Program} {l : Launch} {e : Env} {R : Room} {s : State} {m : MethodId} {args : Array Value} {below : List Frame} {meth : Method} {c : Code} {H : Heap} {locs : List Loc} {cells slots : Nat} {Q : State → Prop}
variable {cc : ByteArray} {pc : Nat} {ls : Array Slot} {rest st0 st1 : List Value} {D : va_G} {cA : Nat → ClassId} {A : Nat → Prop} {a : Nat} {ws : va_W} {H0 : Heap}
theorem zw_ret {w w1 w2 wk : va_W} {VC : List (Prop × Int32)} {k : Int32} {mc ms : Nat} (hx : p.tables.exec = Jvm.exec) (hb : c.code = cc) (hr : meth.sig.returnType = some .int) (hlocks : meth.locks = false) (hdg : decode cc pc = .ok (.ireturn, 1)) (hk : zTh VC k) (hw : wk = if k = 0 then w1 else w2) (hP : va_P D vwCl wk H) (hS : va_S (zfr w) s.heap H locs) (hc : cells ≤ mc) (hs : slots ≤ ms) : W p l e R s m args below meth c H locs cells slots (MQ below (zW D w VC w1 w2) args s mc ms (zfr w)) (F0 m pc ls [.int k]) := by
  refine W.widen (k := mc) (n := ms) hc hs ?_
  exact W.iret hx hb hr (fun t ht _ => ⟨k, hk, rfl, by rw [ht, ← hw]; exact hP, hS.F ht⟩) hS.2.2 hdg hlocks
/-- a call that may throw and is caught here -/
theorem zw_call {rv : Option Value} {aa : Array Value} {V : Prop} {XP : String → Prop} {X wc w1 wx Z : va_W} {mc ms : Nat} (hr : vx_Run p l e R s m args below meth c H locs cells slots mc ms (F0 m pc ls st0) rest (zV V (zM D wc w1 rv) aa) (zX D wc wx XP) (zfr wc)) (hP : va_P D vwCl (X ++ (wc ++ Z)) H) (hD : va_D A (X ++ (wc ++ Z))) (hS : va_S A H0 H locs) (ha1 : w1.map Prod.fst = wc.map Prod.fst) (hax : wx.map Prod.fst = wc.map Prod.fst) (h1 : rv.toList ++ rest = st1)
    (kx : ∀ (E : String) (ce : Cell) (q9 : Addr) (H1 : Heap) (locs1 : List Loc), XP E → va_P D vwCl (X ++ (wx ++ Z)) H1 → va_S A H0 H1 locs1 → H1[q9]? = some ce → ce.vm = .none → s.vm.findClass E = some ce.cls → vx_W p l e R s m args below meth c H1 locs1 (cells + mc) (slots + ms) Q (F0 m pc ls rest) q9)
    (kk : ∀ (H1 : Heap) (locs1 : List Loc), V → va_P D vwCl (X ++ (w1 ++ Z)) H1 → va_D A (X ++ (w1 ++ Z)) → va_S A H0 H1 locs1 → W p l e R s m args below meth c H1 locs1 (cells + mc) (slots + ms) Q (F0 m (pc + 3) ls st1)) : W p l e R s m args below meth c H locs cells slots Q (F0 m pc ls st0) := by
  subst h1
  have hF : ∀ q, zfr wc q → A q := by
    rintro q ⟨j, e', hj⟩
    exact hD.2 _ (q, e') (zmid_at hj)
  have step : ∀ (st₀ t T' : State) (L : List Loc), st₀.heap = H → T'.heap = t.heap → va_F (zfr wc) st₀ t → (∀ q ∈ L, zfr wc q.base) → va_S A H0 T'.heap (locs ++ L) := by
    intro st₀ t T' L h0 e1 hz hL
    obtain ⟨hz, hk⟩ := hz
    rw [h0] at hz hk
    exact ⟨Nat.le_trans hS.1 (by rw [e1]; exact hz), fun q h1 h2 => by rw [e1, hk q (Nat.lt_of_lt_of_le h1 hS.1) (fun z => h2 (hF q z))]; exact hS.2.1 q h1 h2, fun q hq => by
      rcases List.mem_append.mp hq with h | h
      · exact hS.2.2 q h
      · exact hF _ (hL q h)⟩
  intro T hT X'
  rcases hr T hT X' with ⟨v, st₀, t, T', L, h0, X1, hL, e1, e2, ⟨hV, hv, hp1, hf⟩, st⟩ | ⟨q, st₀, t, T', L, E, ce, h0, X1, hL, e1, e2, ⟨hx1, hx2, hf⟩, hce, hcv, hcl, st⟩
  · cases hv
    have hj := z_join (H1 := T'.heap) hP hD ha1 (by rw [e1]; exact hp1) (fun q h1 h2 => by rw [e1]; have := hf.2 q (by rw [h0]; exact h1) h2; rw [h0] at this; exact this)
    obtain ⟨t2, a1, b1⟩ := kk T'.heap (locs ++ L) hV hj.1 hj.2 (step st₀ t T' L h0 e1 hf hL) T' rfl X1
    exact ⟨t2, st t2 a1, b1⟩
  · have hj := z_join (H1 := T'.heap) hP hD hax (by rw [e1]; exact hx2) (fun q h1 h2 => by rw [e1]; have := hf.2 q (by rw [h0]; exact h1) h2; rw [h0] at this; exact this)
    obtain ⟨t2, a1, b1⟩ := kx E ce q T'.heap (locs ++ L) hx1 hj.1 (step st₀ t T' L h0 e1 hf hL) (by rw [e1]; exact hce) hcv hcl T' rfl X1
    exact ⟨t2, st.trans a1, b1⟩
/-- a look that may throw and is caught here -/
theorem zw_look {rv : Option Value} {aa : Array Value} {V : Prop} {XP : String → Prop} {X wc Z : va_W} {mc ms : Nat} (hr : vx_Run p l e R s m args below meth c H locs cells slots mc ms (F0 m pc ls st0) rest (zV V (zE rv) aa) (zX D wc wc XP) (zfr wc)) (hP : va_P D vwCl (X ++ (wc ++ Z)) H) (hD : va_D A (X ++ (wc ++ Z))) (hS : va_S A H0 H locs) (h1 : rv.toList ++ rest = st1)
    (kx : ∀ (E : String) (ce : Cell) (q9 : Addr) (H1 : Heap) (locs1 : List Loc), XP E → va_P D vwCl (X ++ (wc ++ Z)) H1 → va_S A H0 H1 locs1 → H1[q9]? = some ce → ce.vm = .none → s.vm.findClass E = some ce.cls → vx_W p l e R s m args below meth c H1 locs1 (cells + mc) (slots + ms) Q (F0 m pc ls rest) q9)
    (kk : ∀ (locs1 : List Loc), V → va_S A H0 H locs1 → W p l e R s m args below meth c H locs1 (cells + mc) (slots + ms) Q (F0 m (pc + 3) ls st1)) : W p l e R s m args below meth c H locs cells slots Q (F0 m pc ls st0) := by
  subst h1
  have hF : ∀ q, zfr wc q → A q := by
    rintro q ⟨j, e', hj⟩
    exact hD.2 _ (q, e') (zmid_at hj)
  have hL2 : ∀ L : List Loc, (∀ q ∈ L, zfr wc q.base) → ∀ q ∈ locs ++ L, A q.base := by
    intro L hL q hq
    rcases List.mem_append.mp hq with h | h
    · exact hS.2.2 q h
    · exact hF _ (hL q h)
  intro T hT X'
  rcases hr T hT X' with ⟨v, st₀, t, T', L, h0, X1, hL, e1, e2, ⟨hV, hv, hh⟩, st⟩ | ⟨q, st₀, t, T', L, E, ce, h0, X1, hL, e1, e2, ⟨hx1, hx2, hf⟩, hce, hcv, hcl, st⟩
  · cases hv
    obtain ⟨t2, a1, b1⟩ := kk (locs ++ L) hV ⟨hS.1, hS.2.1, hL2 L hL⟩ T' (by rw [e1, hh, h0]) X1
    exact ⟨t2, st t2 a1, b1⟩
  · have hj := z_join (H1 := T'.heap) hP hD rfl (by rw [e1]; exact hx2) (fun q h1 h2 => by rw [e1]; have := hf.2 q (by rw [h0]; exact h1) h2; rw [h0] at this; exact this)
    have hz := hf.1
    have hk := hf.2
    rw [h0] at hz hk
    obtain ⟨t2, a1, b1⟩ := kx E ce q T'.heap (locs ++ L) hx1 hj.1 ⟨Nat.le_trans hS.1 (by rw [e1]; exact hz), fun q h1 h2 => by rw [e1, hk q (Nat.lt_of_lt_of_le h1 hS.1) (fun z => h2 (hF q z))]; exact hS.2.1 q h1 h2, hL2 L hL⟩ (by rw [e1]; exact hce) hcv hcl T' rfl X1
    exact ⟨t2, st.trans a1, b1⟩
theorem zl_spl (hh : List (Nat × Nat × Nat × Nat)) {pre suf : List ExceptionTableEntry} {x : ExceptionTableEntry} (h : c.exceptionTable.toList = tableOf hh) (e : tableOf hh = pre ++ x :: suf) : c.exceptionTable.toList = pre ++ x :: suf := h.trans e
end ZLX
section ZLY
variable {p : Program} {l : Launch} {e : Env} {R : Room} {s : State} {m : MethodId} {args : Array Value} {below : List Frame} {meth : Method} {c : Code} {H : Heap} {locs : List Loc} {cells slots : Nat} {Q : State → Prop}
variable {cc : ByteArray} {pc : Nat} {ls : Array Slot} {rest : List Value} {D : va_G} {cA : Nat → ClassId} {A : Nat → Prop} {H0 : Heap} {o : Nat} {f : Nat → Int64} {U : va_W}
theorem zw_i0 : (0 : Int32).toNatClampNeg = 0 := by decide
theorem zw_in0 : vp_in 0 1 := by
  unfold vp_in
  decide
theorem zw_last (hx : p.tables.exec = Jvm.exec) (hb : c.code = cc) (hK : va_K D vwCl (zTy cA) s) (hP : va_P D vwCl (ouW cA o f ++ U) H) (hD : va_D A (ouW cA o f ++ U)) (hS : va_S A H0 H locs) {v : Int64} (hdg : decode cc pc = .ok (.lastore, 1))
    (kk : ∀ (H1 : Heap) (locs1 : List Loc), va_P D vwCl (ouW cA o (vp_updL f 0 v) ++ U) H1 → va_D A (ouW cA o (vp_updL f 0 v) ++ U) → va_S A H0 H1 locs1 → W p l e R s m args below meth c H1 locs1 cells slots Q (F0 m (pc + 1) ls rest)) : W p l e R s m args below meth c H locs cells slots Q (F0 m pc ls (.long v :: .int 0 :: .ref o :: rest)) := by
  refine va_last hx hb hK hP hD hS 0 4 rfl rfl zw_in0 hdg (fun H1 locs1 hP1 hD1 hS1 => ?_)
  rw [zw_i0] at hP1 hD1
  exact kk H1 locs1 hP1 hD1 hS1
theorem zw_lald (hx : p.tables.exec = Jvm.exec) (hb : c.code = cc) (hK : va_K D vwCl (zTy cA) s) (hP : va_P D vwCl (ouW cA o f ++ U) H) (hdg : decode cc pc = .ok (.laload, 1))
    (kk : W p l e R s m args below meth c H locs cells slots Q (F0 m (pc + 1) ls (.long (f 0) :: rest))) : W p l e R s m args below meth c H locs cells slots Q (F0 m pc ls (.int 0 :: .ref o :: rest)) := by
  refine va_lald hx hb hK hP 0 4 rfl rfl zw_in0 hdg ?_
  rw [zw_i0]
  exact kk
theorem zw_up (f : Nat → Int64) (v : Int64) : vp_updL f 0 v 0 = v := if_pos rfl
end ZLY
