/-! worlds in another order; rows that are copied -/
section ZR3
def uR (B : BK) (k : Nat) (f : Nat → Int32) : BK := fun k' => if k' = k then f else B k'
def zpick (ws : va_W) (ps : List Nat) : va_W := ps.filterMap (fun i => ws[i]?)
theorem z_vp {cI : ClassId} {n : Nat} {f g : Nat → Int32} (h : ∀ i, i < n → f i = g i) : vp_cell cI (n, .inl f) = vp_cell cI (n, .inl g) := by
  rw [vp_cell_i, vp_cell_i]
  have e : (fun j : Fin n => Value.int (f j.val)) = (fun j : Fin n => Value.int (g j.val)) := by
    funext j
    rw [h j.val j.isLt]
  show ({ cls := cI, slots := Array.ofFn (n := n) (fun j => Value.int (f j.val)), vm := .none } : Cell) = { cls := cI, slots := Array.ofFn (n := n) (fun j => Value.int (g j.val)), vm := .none }
  rw [e]
theorem z_permP {D : va_G} {H : Heap} {ws ws' : va_W} (h : ws.Perm ws') (hP : va_P D vwCl ws H) : va_P D vwCl ws' H := by
  intro k q hk
  obtain ⟨i, hi⟩ := List.getElem?_of_mem (h.mem_iff.mpr (List.mem_of_getElem? hk))
  exact hP i q hi
theorem z_Dn {A : Nat → Prop} {ws : va_W} : va_D A ws ↔ (ws.map Prod.fst).Pairwise (· ≠ ·) ∧ ∀ q ∈ ws, A q.1 := by
  constructor
  · intro h
    refine ⟨?_, fun q hq => ?_⟩
    · rw [List.pairwise_iff_getElem]
      intro i j hi hj hij e
      have hi' : i < ws.length := by simpa using hi
      have hj' : j < ws.length := by simpa using hj
      rw [List.getElem_map, List.getElem_map] at e
      have := h.1 i j ws[i] ws[j] (List.getElem?_eq_getElem hi') (List.getElem?_eq_getElem hj') e
      omega
    · obtain ⟨k, hk⟩ := List.getElem?_of_mem hq
      exact h.2 k q hk
  · rintro ⟨h1, h2⟩
    refine ⟨fun i j p q hp hq e => ?_, fun k q hk => h2 q (List.mem_of_getElem? hk)⟩
    rw [List.pairwise_iff_getElem] at h1
    obtain ⟨hi, ei⟩ := List.getElem?_eq_some_iff.mp hp
    obtain ⟨hj, ej⟩ := List.getElem?_eq_some_iff.mp hq
    have hi' : i < (ws.map Prod.fst).length := by simpa using hi
    have hj' : j < (ws.map Prod.fst).length := by simpa using hj
    rcases Nat.lt_trichotomy i j with h | h | h
    · exact absurd (by rw [List.getElem_map, List.getElem_map, ei, ej]; exact e) (h1 i j hi' hj' h)
    · exact h
    · exact absurd (by rw [List.getElem_map, List.getElem_map, ei, ej]; exact e.symm) (h1 j i hj' hi' h)
theorem z_permD {A : Nat → Prop} {ws ws' : va_W} (h : ws.Perm ws') (hD : va_D A ws) : va_D A ws' := by
  rw [z_Dn] at hD ⊢
  exact ⟨(List.Perm.pairwise_iff (fun h => Ne.symm h) (h.map Prod.fst)).mp hD.1, fun q hq => hD.2 q (h.mem_iff.mpr hq)⟩
theorem z_Pl {D : va_G} {H : Heap} {w1 w2 : va_W} (h : va_P D vwCl (w1 ++ w2) H) : va_P D vwCl w1 H := by
  intro k q hk
  have hl := (List.getElem?_eq_some_iff.mp hk).1
  exact h k q (by rw [List.getElem?_append_left hl]; exact hk)
theorem z_Dl {A : Nat → Prop} {w1 w2 : va_W} (h : va_D A (w1 ++ w2)) : va_D A w1 := by
  refine ⟨fun i j p q hp hq e => ?_, fun k q hk => ?_⟩
  · have hi := (List.getElem?_eq_some_iff.mp hp).1
    have hj := (List.getElem?_eq_some_iff.mp hq).1
    exact h.1 i j p q (by rw [List.getElem?_append_left hi]; exact hp) (by rw [List.getElem?_append_left hj]; exact hq) e
  · have hl := (List.getElem?_eq_some_iff.mp hk).1
    exact h.2 k q (by rw [List.getElem?_append_left hl]; exact hk)
/-- a stretch within the last one, and the middle one, to the front -/
theorem z_perm1 {a b o x k z : va_W} (h : o = x ++ (k ++ z)) : (a ++ (b ++ o)).Perm ((k ++ b) ++ (a ++ (x ++ z))) := by
  subst h
  have h1 : (x ++ (k ++ z)).Perm (k ++ (x ++ z)) := List.perm_append_comm_assoc x k z
  have h2 : (b ++ (x ++ (k ++ z))).Perm (k ++ (b ++ (x ++ z))) := (List.Perm.append_left b h1).trans (List.perm_append_comm_assoc b k _)
  have h3 : (a ++ (b ++ (x ++ (k ++ z)))).Perm (k ++ (a ++ (b ++ (x ++ z)))) := (List.Perm.append_left a h2).trans (List.perm_append_comm_assoc a k _)
  refine h3.trans ?_
  rw [List.append_assoc]
  exact List.Perm.append_left k (List.perm_append_comm_assoc a b _)
theorem z_perm2 {a b o x k z : va_W} (h : o = x ++ (k ++ z)) : (a ++ (b ++ o)).Perm ((b ++ k) ++ (a ++ (x ++ z))) := by
  refine (z_perm1 h).trans ?_
  exact List.Perm.append_right _ List.perm_append_comm
section
variable {p : Program} {l : Launch} {e : Env} {R : Room} {s : State} {m : MethodId} {args : Array Value} {below : List Frame} {meth : Method} {c : Code} {H : Heap} {locs : List Loc} {cells slots : Nat} {Q : State → Prop}
variable {cc : ByteArray} {pc : Nat} {ls : Array Slot} {rest st0 st1 : List Value} {D : va_G} {cA : Nat → ClassId} {A : Nat → Prop} {a : Nat} {H0 : Heap}
theorem z_Mp {rv : Option Value} {aa : Array Value} {ws ws' wc w1 Z : va_W} (hr : va_Run p l e R s m args below meth c H locs cells slots 0 0 (F0 m pc ls st0) rest (zM D wc w1 rv aa) (zfr wc)) (hp : ws.Perm (wc ++ Z)) (hp' : (w1 ++ Z).Perm ws') (hP : va_P D vwCl ws H) (hD : va_D A ws) (hS : va_S A H0 H locs) (hadr : w1.map Prod.fst = wc.map Prod.fst) (h1 : rv.toList ++ rest = st1)
    (kk : ∀ (H1 : Heap) (locs1 : List Loc), va_P D vwCl ws' H1 → va_D A ws' → va_S A H0 H1 locs1 → W p l e R s m args below meth c H1 locs1 cells slots Q (F0 m (pc + 3) ls st1)) : W p l e R s m args below meth c H locs cells slots Q (F0 m pc ls st0) :=
  z_M (X := []) (Z := Z) hr (z_permP hp hP) (z_permD hp hD) hS hadr h1 (fun H1 locs1 h2 h3 h4 => kk H1 locs1 (z_permP hp' h2) (z_permD hp' h3) h4)
end
theorem z_cell2 {D : va_G} {H : Heap} {pa qa n : Nat} {cI : ClassId} {f h : Nat → Int32} (hP : va_P D vwCl [(pa, .inl (cI, n, .inl f)), (qa, .inl (cI, n, .inl h))] H) (e : ∀ i, i < n → h i = f i) : va_P D vwCl [(pa, .inl (cI, n, .inl f)), (qa, .inl (cI, n, .inl f))] H := by
  intro k q hk
  match k, hk with
  | 0, hk => exact hP 0 q hk
  | 1, hk =>
    cases hk
    show H[qa]? = some (vp_cell cI (n, .inl f))
    rw [← z_vp e]
    exact hP 1 _ rfl
  | k + 2, hk => simp at hk
set_option maxHeartbeats 4000000 in
set_option maxRecDepth 100000 in
theorem zc_X0_copyRow (l : Launch) (D : va_G) (cA : Nat → ClassId) (pa qa n : Nat) (f g : Nat → Int32) (hn : n < 2 ^ 31) : Met l yX0_copyRow wsX0_copyRow (zrm 1 40) (zPc D cA [.ref pa, .ref qa] [(pa, .inl (cA 0, n, .inl f)), (qa, .inl (cA 0, n, .inl g))]) (zM D [(pa, .inl (cA 0, n, .inl f)), (qa, .inl (cA 0, n, .inl g))] [(pa, .inl (cA 0, n, .inl f)), (qa, .inl (cA 0, n, .inl f))] none) 0 0 (zfr [(pa, .inl (cA 0, n, .inl f)), (qa, .inl (cA 0, n, .inl g))]) := by
  refine Met.ofW (cc := cX0_copyRow) (maxL := 2) (ret := none) (by decide) rfl ?_
  intro p e s m args below meth c s₁ Bd hml hv
  obtain ⟨rfl, hP, hK, hD0⟩ := hv
  have hx := Bd.exec
  have hb := Bd.bytes
  have hr := Bd.returns
  have hts := atoms_spec (ws := wsX0_copyRow) Bd.pre
  have hown : s.vm.findClass RX0 = some m.cls := findClass_of_methodNamed Bd.named
  have hlocks := Bd.notSynchronized
  have hD := z_Dfr hD0
  have hS : va_S (zfr [(pa, .inl (cA 0, n, .inl f)), (qa, .inl (cA 0, n, .inl g))]) s.heap s.heap [] := va_S.rf
  have hl := lv_entry ([.ref pa, .ref qa]) (n := 2) (Nat.le_of_ble_eq_true rfl)
  rw [lg_entry_eq]
  generalize (lg_sl ([.ref pa, .ref qa]) ++ List.replicate (2 - (lg_sl ([.ref pa, .ref qa])).length) Slot.unset).toArray = ls at hl ⊢
  have hl : lv_has ls 2 [(0, .ref pa), (1, .ref qa)] := hl
  refine lv_aload_n hx hb dX0_copyRow_0 rfl (lv_at hl 0 rfl) ?_
  refine lv_iconst (v := 0) hx hb dX0_copyRow_1 (by decide) ?_
  refine lv_aload_n hx hb dX0_copyRow_2 rfl (lv_at hl 1 rfl) ?_
  refine lv_iconst (v := 0) hx hb dX0_copyRow_3 (by decide) ?_
  refine lv_aload_n hx hb dX0_copyRow_4 rfl (lv_at hl 0 rfl) ?_
  refine va_alen (v := nI n) hx hb hK hP 0 0 rfl rfl rfl dX0_copyRow_5 ?_
  refine lv_aload_n hx hb dX0_copyRow_6 rfl (lv_at hl 1 rfl) ?_
  refine va_alen (v := nI n) hx hb hK hP 1 0 rfl rfl rfl dX0_copyRow_7 ?_
  refine va_mmin hx hb (by rw [hml]; exact hl.1.symm) hown (hts (.methodLink RX0 65 Lib.Math.min.name) (List.mem_of_getElem? (i := 1) rfl)) (hts (.static Lib.Math.min.name) (List.mem_of_getElem? (i := 2) rfl)) (hts (.initialized "java/lang/Math") (List.mem_of_getElem? (i := 3) rfl)) (hts (.code Lib.Math.min.name Lib.Math.min.code 2 (some .int)) (List.mem_of_getElem? (i := 4) rfl)) (Nat.le_of_ble_eq_true rfl) (Nat.le_of_ble_eq_true rfl) (Nat.zero_le _) (Nat.zero_le _) dX0_copyRow_8 ?_
  refine z_top (y := nI n) (by split <;> rfl) ?_
  have hc0 : (nI n).toNatClampNeg = n := nI_clamp hn
  have hc1 : (0 : Int32).toNatClampNeg = 0 := by decide
  refine va_copyi (ty := .int) hx hb (by rw [hml]; exact hl.1.symm) hown (hts (.methodLink RX0 71 arraycopyName) (List.mem_of_getElem? (i := 5) rfl)) (hts (.native arraycopyName) (List.mem_of_getElem? (i := 6) rfl)) (hts (.static arraycopyName) (List.mem_of_getElem? (i := 7) rfl)) (hts (.initialized "java/lang/System") (List.mem_of_getElem? (i := 8) rfl)) hK hP hD hS 0 1 0 0 rfl rfl rfl rfl rfl (by decide) (by decide) (nI_pos hn) (by rw [hc0, hc1]; omega) (by rw [hc0, hc1]; omega) (fun _ _ => rfl) (Nat.le_of_ble_eq_true rfl) (Nat.le_of_ble_eq_true rfl) dX0_copyRow_11 (fun H locs hP9 hD9 hS9 => ?_)
  rw [hc0, hc1] at hP9
  have hP9 : va_P D vwCl [(pa, .inl (cA 0, n, .inl f)), (qa, .inl (cA 0, n, .inl (va_cpy f g 0 0 n)))] H := hP9
  exact z_vretM hx hb hr hlocks dX0_copyRow_14 (z_cell2 hP9 (fun i hi => by rw [pk_cpy_in (by omega) (by omega)]; congr 1; omega)) hS9 rfl

theorem ot_get15 {cA : Nat → ClassId} {x : Nat → Nat} {b : Nat → Nat → Nat} {rd : Nat} {X : BK} {N : NK} {B : BK} {Bs : Nat → BK} : ∀ k : Nat, 1 ≤ k → k ≤ 8 → (xmW cA x b rd X N ++ (bkW (cA 0) (b 0) B ++ otW (cA 0) b Bs))[15 + 9 * (k - 1)]? = some (b k 0, .inr (0, bkE (b k) (Bs k)))
  | 0, h, _ => absurd h (by omega)
  | 1, _, _ => rfl
  | 2, _, _ => rfl
  | 3, _, _ => rfl
  | 4, _, _ => rfl
  | 5, _, _ => rfl
  | 6, _, _ => rfl
  | 7, _, _ => rfl
  | 8, _, _ => rfl
  | n + 9, _, h => absurd h (by omega)
theorem xmW_adr {cA : Nat → ClassId} {x : Nat → Nat} {b : Nat → Nat → Nat} {rd : Nat} {X X' : BK} {N N' : NK} : (xmW cA x b rd X N).map Prod.fst = (xmW cA x b rd X' N').map Prod.fst := rfl
theorem otW_adr {cI : ClassId} {b : Nat → Nat → Nat} {Bs Bs' : Nat → BK} : (otW cI b Bs).map Prod.fst = (otW cI b Bs').map Prod.fst := rfl
/-- the saved places hold six of the other books -/
def zpm (N : NK) : Prop := ∀ i, i < 6 → 1 ≤ N 1 i ∧ N 1 i ≤ 6
theorem zpm_up {N : NK} {k v : Nat} (h : zpm N) (hv : 1 ≤ v ∧ v ≤ 6) : zpm (uN N 1 k v) := by
  intro i hi
  show 1 ≤ va_up (N 1) k v i ∧ va_up (N 1) k v i ≤ 6
  by_cases e : i = k
  · subst e
    rw [va_up_self]
    exact hv
  · rw [va_up_ne _ _ e]
    exact h i hi
end ZR3
