/-! the law: rows -/
section ZLA
variable {p : Program} {l : Launch} {e : Env} {R : Room} {s : State} {m : MethodId} {args : Array Value} {below : List Frame} {meth : Method} {c : Code} {H : Heap} {locs : List Loc} {cells slots : Nat} {Q : State → Prop}
variable {cc : ByteArray} {pc : Nat} {ls : Array Slot} {rest st0 st1 : List Value} {D : va_G} {cA : Nat → ClassId} {A : Nat → Prop} {H0 : Heap}
/-- a number of the script -/
theorem zl_arg (hx : p.tables.exec = Jvm.exec) (hb : c.code = cc) {b L : Nat} {xs : Nat → Int32} (hX : va_X b L xs s H0) (hbl : b < H0.size) (hbA : ¬ A b) (hS : va_S A H0 H locs) {i j : Nat} {jI : Int} (hij : i + j < L) (hL : L ≤ 2048) (h4 : ls[4]? = some (.val (.int (nI i)))) (h0 : ls[0]? = some (.val (.ref b)))
    (d0 : decode cc pc = .ok (.aload_n 0, 1)) (d1 : decode cc (pc + 1) = .ok (.iload 4, 2)) (d3 : decode cc (pc + 3) = .ok (.iconst jI, 1)) (d4 : decode cc (pc + 4) = .ok (.iadd, 1)) (d5 : decode cc (pc + 5) = .ok (.iaload, 1)) (hj : Int32.ofInt jI = nI j)
    (kk : W p l e R s m args below meth c H locs cells slots Q (F0 m (pc + 6) ls (.int (xs (i + j)) :: rest))) : W p l e R s m args below meth c H locs cells slots Q (F0 m pc ls rest) := by
  refine lv_aload_n hx hb d0 rfl h0 ?_
  refine lv_iload hx hb d1 h4 ?_
  refine lv_iconst (v := nI j) hx hb d3 hj ?_
  refine lv_iadd hx hb d4 ?_
  refine z_top (nI_add i j) ?_
  refine va_sld hx hb hX hbl hbA hS (vp_in_nI hij (by omega)) d5 ?_
  refine z_top (congrArg xs (nI_clamp (by omega))) ?_
  exact kk
/-- a small method of the law is called -/
theorem zv_W {VC : List (Prop × Int32)} {aa : Array Value} {w w1 w2 Z : va_W} {mc ms : Nat} (hr : va_Run p l e R s m args below meth c H locs cells slots mc ms (F0 m pc ls st0) rest (zW D w VC w1 w2 aa) (zfr w)) (hP : va_P D vwCl (w ++ Z) H) (hD : va_D A (w ++ Z)) (hS : va_S A H0 H locs) (ha1 : w1.map Prod.fst = w.map Prod.fst) (ha2 : w2.map Prod.fst = w.map Prod.fst)
    (kk : ∀ (k : Int32) (H1 : Heap) (locs1 : List Loc), zTh VC k → va_P D vwCl ((if k = 0 then w1 else w2) ++ Z) H1 → va_D A ((if k = 0 then w1 else w2) ++ Z) → va_S A H0 H1 locs1 → W p l e R s m args below meth c H1 locs1 (cells + mc) (slots + ms) Q (F0 m (pc + 3) ls (.int k :: rest))) : W p l e R s m args below meth c H locs cells slots Q (F0 m pc ls st0) := by
  have hF : ∀ q, zfr w q → A q := by
    rintro q ⟨j, e', hj⟩
    exact hD.2 _ (q, e') (zmid_at (X := []) hj)
  intro T hT X'
  obtain ⟨v, st₀, t, T', L, h0, X1, hL, e1, e2, ⟨k, hk, hv, hp1, hz, hq⟩, st⟩ := hr T hT X'
  cases hv
  rw [h0] at hz hq
  have hadr : (if k = 0 then w1 else w2).map Prod.fst = w.map Prod.fst := by
    by_cases c0 : k = 0
    · rw [if_pos c0]; exact ha1
    · rw [if_neg c0]; exact ha2
  have hj := z_join (X := []) (H1 := T'.heap) hP hD hadr (by rw [e1]; exact hp1) (fun q h1 h2 => by rw [e1]; exact hq q h1 h2)
  obtain ⟨t2, a1, b1⟩ := kk k T'.heap (locs ++ L) hk hj.1 hj.2 ⟨Nat.le_trans hS.1 (by rw [e1]; exact hz), fun q h1 h2 => by rw [e1, hq q (Nat.lt_of_lt_of_le h1 hS.1) (fun z => h2 (hF q z))]; exact hS.2.1 q h1 h2, fun q hq2 => by
    rcases List.mem_append.mp hq2 with h | h
    · exact hS.2.2 q h
    · exact hF _ (hL q h)⟩ T' rfl X1
  exact ⟨t2, st t2 a1, b1⟩
/-- a call of the model -/
theorem zm_M {rv : Option Value} {aa : Array Value} {U wc w1 : va_W} (hr : va_Run p l e R s m args below meth c H locs cells slots 0 0 (F0 m pc ls st0) rest (zM D wc w1 rv aa) (zfr wc)) (hP : va_P D vwCl (U ++ wc) H) (hD : va_D A (U ++ wc)) (hS : va_S A H0 H locs) (hadr : w1.map Prod.fst = wc.map Prod.fst) (h1 : rv.toList ++ rest = st1)
    (kk : ∀ (H1 : Heap) (locs1 : List Loc), va_P D vwCl (U ++ w1) H1 → va_D A (U ++ w1) → va_S A H0 H1 locs1 → W p l e R s m args below meth c H1 locs1 cells slots Q (F0 m (pc + 3) ls st1)) : W p l e R s m args below meth c H locs cells slots Q (F0 m pc ls st0) := by
  have e0 : U ++ wc = U ++ (wc ++ []) := by rw [List.append_nil]
  have e1 : U ++ w1 = U ++ (w1 ++ []) := by rw [List.append_nil]
  rw [e0] at hP hD
  rw [e1] at kk
  exact z_M hr hP hD hS hadr h1 kk
theorem zR_P {U wc : va_W} (hP : va_P D vwCl (U ++ wc) H) : va_P D vwCl wc H := by
  rw [show U ++ wc = U ++ (wc ++ []) by rw [List.append_nil]] at hP
  exact zmid_P hP
theorem zR_D {U wc : va_W} (hD : va_D A (U ++ wc)) : va_D A wc := by
  rw [show U ++ wc = U ++ (wc ++ []) by rw [List.append_nil]] at hD
  exact zmid_D hD
theorem zL_P {w Z : va_W} (hP : va_P D vwCl (w ++ Z) H) : va_P D vwCl w H := zmid_P (X := []) hP
theorem zL_D {w Z : va_W} (hD : va_D A (w ++ Z)) : va_D A w := zmid_D (X := []) hD
theorem zL_fr {w Z : va_W} (hD : va_D A (w ++ Z)) : ∀ q, zfr w q → A q := by
  rintro q ⟨j, e', hj⟩
  exact hD.2 _ (q, e') (zmid_at (X := []) hj)
theorem zW_pos {w1 w2 : va_W} {k : Int32} (h : k = 0) : (if k = 0 then w1 else w2) = w1 := if_pos h
theorem zW_neg {w1 w2 : va_W} {k : Int32} (h : ¬ k = 0) : (if k = 0 then w1 else w2) = w2 := if_neg h
theorem zou_adr {o : Nat} {f g : Nat → Int64} {U V : va_W} (h : U.map Prod.fst = V.map Prod.fst) : (ouW cA o f ++ U).map Prod.fst = (ouW cA o g ++ V).map Prod.fst := by
  rw [List.map_append, List.map_append, h]
  rfl
theorem zun_adr {x : Nat → Nat} {b : Nat → Nat → Nat} {rd : Nat} {r r' : Nat → Nat} {X X' : BK} {N N' : NK} {B B' : BK} {Bs Bs' : Nat → BK} : (unW cA x b rd r X N B Bs).map Prod.fst = (unW cA x b rd r' X' N' B' Bs').map Prod.fst := z_adr2 rdW_adr (z_adr2 xmW_adr (z_adr2 bkW_adr otW_adr))
theorem zlc_eq (x : Int64) : lg_cmp x x = 0 := by
  unfold lg_cmp
  simp
end ZLA
