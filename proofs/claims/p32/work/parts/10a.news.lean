/-! new rows; what a constructor leaves -/
section ZN5
def zPn (D : va_G) (cA : Nat → ClassId) (av : List Value) (w : va_W) (sz : Nat) : Array Value → State → Prop := va_Pc av (fun U => U.heap.size = sz ∧ va_P D vwCl w U.heap ∧ va_K D vwCl (zTy cA) U ∧ va_D (fun _ => True) w)
theorem zPn_blind {D : va_G} {cA : Nat → ClassId} {av : List Value} {w : va_W} {sz : Nat} : FrameBlind (zPn D cA av w sz) := fun a U g mk q => by
  obtain ⟨q0, q1, qP, qK, qD⟩ := q
  exact ⟨q0, q1, qP, va_K.moved (u := U) (U := U.calling g mk a) (Vm.Alike.refl U.vm) qK, qD⟩
theorem zPn_pre {D : va_G} {cA : Nat → ClassId} {A : Nat → Prop} {s : State} {H : Heap} {wc : va_W} {As : List Value} (hK : va_K D vwCl (zTy cA) s) (hP : va_P D vwCl wc H) (hD : va_D A wc) : PreS s H (zPn D cA As wc H.size) As :=
  ⟨zPn_blind, fun U hU hW => ⟨rfl, by rw [hU], by rw [hU]; exact hP, va_K.moved hW.alike hK, hD.weaken (fun _ _ _ _ => trivial)⟩⟩
/-- what Union's constructor needs beside -/
def zPq (D : va_G) (cA : Nat → ClassId) (av : List Value) (w : va_W) (sz : Nat) : Array Value → State → Prop := va_Pc av (fun U => U.heap.size = sz ∧ va_P D vwCl w U.heap ∧ va_K D vwCl (zTy cA) U ∧ va_D (fun _ => True) w ∧ va_AO RX0 U ∧ va_Nw (.methodLinkNest RX2 9 yX0_init RX2) U ∧ va_Nw (.methodLinkNest RX2 33 yX1_init RX2) U)
theorem zPq_blind {D : va_G} {cA : Nat → ClassId} {av : List Value} {w : va_W} {sz : Nat} : FrameBlind (zPq D cA av w sz) := fun a U g mk q => by
  obtain ⟨q0, q1, qP, qK, qD, q2, q3, q4⟩ := q
  exact ⟨q0, q1, qP, va_K.moved (u := U) (U := U.calling g mk a) (Vm.Alike.refl U.vm) qK, qD, q2.moved (u := U) (U := U.calling g mk a) (Vm.Alike.refl U.vm), va_Nw.warmM (s := U) (U := U.calling g mk a) (State.WarmedH.refl U) q3, va_Nw.warmM (s := U) (U := U.calling g mk a) (State.WarmedH.refl U) q4⟩
theorem zPq_pre {D : va_G} {cA : Nat → ClassId} {A : Nat → Prop} {s : State} {H : Heap} {wc : va_W} {As : List Value} (hK : va_K D vwCl (zTy cA) s) (hP : va_P D vwCl wc H) (hD : va_D A wc) (h1 : va_AO RX0 s) (h2 : va_Nw (.methodLinkNest RX2 9 yX0_init RX2) s) (h3 : va_Nw (.methodLinkNest RX2 33 yX1_init RX2) s) : PreS s H (zPq D cA As wc H.size) As :=
  ⟨zPq_blind, fun U hU hW => ⟨rfl, by rw [hU], by rw [hU]; exact hP, va_K.moved hW.alike hK, hD.weaken (fun _ _ _ _ => trivial), h1.moved hW.alike, va_Nw.warmM hW h2, va_Nw.warmM hW h3⟩⟩
def zad (L : List Nat) : Nat → Nat := fun i => L.getD i 0
/-- the contents of new books -/
def zB0 : BK := fun k => if k = 7 then upd (upd (fun _ => 0) 0 20) 1 3 else fun _ => 0
def zM0 : BK := fun k => if k = 0 then upd (upd (fun _ => 0) 8 20) 9 3 else fun _ => 0
theorem z_tyI {D : va_G} {cA : Nat → ClassId} {c1 : ClassId} {s : State} (h : va_K D vwCl (zTy cA ++ [(c1, .int)]) s) : c1 = cA 0 := by
  have h0 : s.vm.findClass ("[" ++ (FieldType.int).toString) = some (cA 0) := (h.2 0 _ rfl).2
  have h1 : s.vm.findClass ("[" ++ (FieldType.int).toString) = some c1 := (h.2 4 _ rfl).2
  exact Option.some.inj (h1.symm.trans h0)
theorem z_tyZ {D : va_G} {cA : Nat → ClassId} {c1 : ClassId} {s : State} (h : va_K D vwCl (zTy cA ++ [(c1, .boolean)]) s) : c1 = cA 1 := by
  have h0 : s.vm.findClass ("[" ++ (FieldType.boolean).toString) = some (cA 1) := (h.2 1 _ rfl).2
  have h1 : s.vm.findClass ("[" ++ (FieldType.boolean).toString) = some c1 := (h.2 4 _ rfl).2
  exact Option.some.inj (h1.symm.trans h0)
theorem z_tyC {D : va_G} {cA : Nat → ClassId} {c1 : ClassId} {s : State} (h : va_K D vwCl (zTy cA ++ [(c1, .char)]) s) : c1 = cA 2 := by
  have h0 : s.vm.findClass ("[" ++ (FieldType.char).toString) = some (cA 2) := (h.2 2 _ rfl).2
  have h1 : s.vm.findClass ("[" ++ (FieldType.char).toString) = some c1 := (h.2 4 _ rfl).2
  exact Option.some.inj (h1.symm.trans h0)
theorem z_tyQ {D : va_G} {cA : Nat → ClassId} {c1 : ClassId} {s : State} (h : va_K D vwCl (zTy cA ++ [(c1, .object "PledgedLoans$Books")]) s) : c1 = cA 3 := by
  obtain ⟨k0, m0, -, -, -, h0⟩ := (h.2 3 _ rfl).2
  obtain ⟨k1, m1, -, -, -, h1⟩ := (h.2 4 _ rfl).2
  exact Option.some.inj (h1.symm.trans h0)
section
variable {p : Program} {l : Launch} {e : Env} {R : Room} {s : State} {m : MethodId} {args : Array Value} {below : List Frame} {meth : Method} {c : Code} {H : Heap} {locs : List Loc} {cells slots : Nat} {Q : State → Prop}
variable {cc : ByteArray} {pc : Nat} {ls : Array Slot} {rest : List Value} {D : va_G} {cA : Nat → ClassId} {A : Nat → Prop} {ws : va_W} {H0 : Heap}
theorem z_newI {n : Int32} {N' : Nat} (hx : p.tables.exec = Jvm.exec) (hb : c.code = cc) (harr : (Cond.arrayClass .int).before args s = true) (hK : va_K D vwCl (zTy cA) s) (hP : va_P D vwCl ws H) (hD : va_D A ws) (hS : va_S A H0 H locs) (hA : ∀ q, H0.size ≤ q → A q) (hn : ¬ n < 0) (hN : n.toNatClampNeg = N') (hbytes : N' * componentBytes .int ≤ 536870912) (hcells : cells + 1 ≤ R.cells) (hslots : slots + N' ≤ R.slots) (hdg : decode cc pc = .ok (.newarray .int, 2))
    (kk : ∀ (q : Nat) (H1 : Heap), va_P D vwCl (ws ++ [(q, .inl (cA 0, N', .inl (fun _ => 0)))]) H1 → va_D A (ws ++ [(q, .inl (cA 0, N', .inl (fun _ => 0)))]) → va_S A H0 H1 locs → W p l e R s m args below meth c H1 locs (cells + 1) (slots + N') Q (F0 m (pc + 2) ls (.ref q :: rest))) : W p l e R s m args below meth c H locs cells slots Q (F0 m pc ls (.int n :: rest)) :=
  va_newa (atype := .int) (ty := .int) (a0 := (N', .inl (fun _ => 0))) hx hb harr rfl hK hP hD hS hA (fun _ => rfl) hn hN hbytes hcells hslots hdg (fun q c1 H1 hK1 hP1 hD1 hS1 => by
    obtain rfl := z_tyI hK1
    exact kk q H1 hP1 hD1 hS1)
theorem z_newZ {n : Int32} {N' : Nat} (hx : p.tables.exec = Jvm.exec) (hb : c.code = cc) (harr : (Cond.arrayClass .boolean).before args s = true) (hK : va_K D vwCl (zTy cA) s) (hP : va_P D vwCl ws H) (hD : va_D A ws) (hS : va_S A H0 H locs) (hA : ∀ q, H0.size ≤ q → A q) (hn : ¬ n < 0) (hN : n.toNatClampNeg = N') (hbytes : N' * componentBytes .boolean ≤ 536870912) (hcells : cells + 1 ≤ R.cells) (hslots : slots + N' ≤ R.slots) (hdg : decode cc pc = .ok (.newarray .boolean, 2))
    (kk : ∀ (q : Nat) (H1 : Heap), va_P D vwCl (ws ++ [(q, .inl (cA 1, N', .inl (fun _ => 0)))]) H1 → va_D A (ws ++ [(q, .inl (cA 1, N', .inl (fun _ => 0)))]) → va_S A H0 H1 locs → W p l e R s m args below meth c H1 locs (cells + 1) (slots + N') Q (F0 m (pc + 2) ls (.ref q :: rest))) : W p l e R s m args below meth c H locs cells slots Q (F0 m pc ls (.int n :: rest)) :=
  va_newa (atype := .boolean) (ty := .boolean) (a0 := (N', .inl (fun _ => 0))) hx hb harr rfl hK hP hD hS hA (fun _ => rfl) hn hN hbytes hcells hslots hdg (fun q c1 H1 hK1 hP1 hD1 hS1 => by
    obtain rfl := z_tyZ hK1
    exact kk q H1 hP1 hD1 hS1)
theorem z_newC {n : Int32} {N' : Nat} (hx : p.tables.exec = Jvm.exec) (hb : c.code = cc) (harr : (Cond.arrayClass .char).before args s = true) (hK : va_K D vwCl (zTy cA) s) (hP : va_P D vwCl ws H) (hD : va_D A ws) (hS : va_S A H0 H locs) (hA : ∀ q, H0.size ≤ q → A q) (hn : ¬ n < 0) (hN : n.toNatClampNeg = N') (hbytes : N' * componentBytes .char ≤ 536870912) (hcells : cells + 1 ≤ R.cells) (hslots : slots + N' ≤ R.slots) (hdg : decode cc pc = .ok (.newarray .char, 2))
    (kk : ∀ (q : Nat) (H1 : Heap), va_P D vwCl (ws ++ [(q, .inl (cA 2, N', .inl (fun _ => 0)))]) H1 → va_D A (ws ++ [(q, .inl (cA 2, N', .inl (fun _ => 0)))]) → va_S A H0 H1 locs → W p l e R s m args below meth c H1 locs (cells + 1) (slots + N') Q (F0 m (pc + 2) ls (.ref q :: rest))) : W p l e R s m args below meth c H locs cells slots Q (F0 m pc ls (.int n :: rest)) :=
  va_newa (atype := .char) (ty := .char) (a0 := (N', .inl (fun _ => 0))) hx hb harr rfl hK hP hD hS hA (fun _ => rfl) hn hN hbytes hcells hslots hdg (fun q c1 H1 hK1 hP1 hD1 hS1 => by
    obtain rfl := z_tyC hK1
    exact kk q H1 hP1 hD1 hS1)
theorem z_newQ {own : String} {n : Int32} {N' index : Nat} (hx : p.tables.exec = Jvm.exec) (hb : c.code = cc) (hown : s.vm.findClass own = some m.cls) (hcl : (Cond.classLink own index "PledgedLoans$Books").before args s = true) (hover : va_AO "PledgedLoans$Books" s) (hK : va_K D vwCl (zTy cA) s) (hP : va_P D vwCl ws H) (hD : va_D A ws) (hS : va_S A H0 H locs) (hA : ∀ q, H0.size ≤ q → A q) (hn : ¬ n < 0) (hN : n.toNatClampNeg = N') (hbytes : N' * 4 ≤ 536870912) (hcells : cells + 1 ≤ R.cells) (hslots : slots + N' ≤ R.slots) (hdg : decode cc pc = .ok (.anewarray index, 3))
    (kk : ∀ (q : Nat) (H1 : Heap), va_P D vwCl (ws ++ [(q, .inl (cA 3, N', .inr (.inr (.inr (.inr (fun _ => none))))))]) H1 → va_D A (ws ++ [(q, .inl (cA 3, N', .inr (.inr (.inr (.inr (fun _ => none))))))]) → va_S A H0 H1 locs → W p l e R s m args below meth c H1 locs (cells + 1) (slots + N') Q (F0 m (pc + 3) ls (.ref q :: rest))) : W p l e R s m args below meth c H locs cells slots Q (F0 m pc ls (.int n :: rest)) :=
  va_newq hx hb hown hcl hover hK hP hD hS hA hn hN hbytes hcells hslots hdg (fun q c1 H1 hK1 hP1 hD1 hS1 => by
    obtain rfl := z_tyQ hK1
    exact kk q H1 hP1 hD1 hS1)
end
end ZN5
