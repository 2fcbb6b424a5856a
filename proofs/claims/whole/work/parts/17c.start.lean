/-! the law from its entry -/
section
theorem zstr {s : State} {args : Array Value} {cur k : Nat} {tx : String} (hf : s.vm.findClass RX2 = some cur) (h : (Cond.stringRef RX2 k tx).before args s = true) : ∃ sa, vk_R RX2 k tx sa s := by
  obtain ⟨_, _, _, a, _, _, _, _, _, he⟩ := Cond.stringRef_spec hf h
  exact ⟨a, vk_R.of h he⟩
theorem zarP {s : State} {args : Array Value} {ty : FieldType} (h : (Cond.arrayClass ty).before args s = true) : ∃ c : ClassId, ArrOfT s c ty ∧ s.vm.findClass ("[" ++ ty.toString) = some c := by
  obtain ⟨c, k, comp, h1, h2, h3⟩ := Cond.arrayClass_spec h
  exact ⟨c, fun n z => ⟨fun k h => (by cases h), k, h2, comp, h3⟩, h1⟩
theorem zarQ {s : State} {args : Array Value} {C : String} (h : (Cond.arrayOver (.object C)).before args s = true) : ∃ c : ClassId, ArrOfT s c (.object C) ∧ va_RA s c (.object C) := by
  obtain ⟨comp, c, k, h1, h2, h3, h4, h5⟩ := Cond.arrayOver_spec h
  exact ⟨c, fun n z => ⟨fun k h => (by cases h), k, h3, comp, h4⟩, k, comp, h3, h4, h1, h5⟩
theorem zflag {l : Launch} (h : l.flags = flags0) : l.stackTraces = false := by
  unfold Launch.stackTraces
  rw [h]
  decide +kernel
set_option maxHeartbeats 4000000 in
set_option maxRecDepth 100000 in
theorem whole_start {p : Program} {e : Env} {s : State} {m : MethodId} {below : List Frame} {meth : Method} {c : Code} (l : Launch) (hflags : l.flags = flags0) {b L : Nat} {xs : Nat → Int32} (hL : L ≤ 2048) (C0 : lw_At p s m meth c b L xs) : W p l e room_1 s m #[Value.ref b] below meth c s.heap [] 0 0 (lw_Z below #[Value.ref b] s) (entryFrame m ([Value.ref b] : List Value).toArray 9) := by
  obtain ⟨hx, hb, hr, hml, hown, htT, hX, hbl, hlocks, hgv⟩ := id C0
  have hts : ∀ w ∈ wsL_law, w.before #[.ref b] s = true := fun w h => htT w (wsL_law_in w h)
  have hA : ∀ q : Nat, s.heap.size ≤ q → (fun q : Nat => s.heap.size ≤ q) q := fun _ h => h
  have hg := flat_of_before _ hgv
  obtain ⟨c0, i0, hKn0⟩ := u_known (C := RX0) (T := TX0) (N := 16) (n := 16) htT inX0 (htT (.instantiable RX0 16) (List.mem_of_getElem? (i := 91) (by decide +kernel)))
  obtain ⟨c1, i1, hKn1⟩ := u_known (C := RX1) (T := TX1) (N := 6) (n := 6) htT inX1 (htT (.instantiable RX1 6) (List.mem_of_getElem? (i := 158) (by decide +kernel)))
  obtain ⟨c2, i2, hKn2⟩ := u_known (C := RX2) (T := TX2) (N := 9) (n := 9) htT inX2 (htT (.instantiable RX2 9) (List.mem_of_getElem? (i := 83) (by decide +kernel)))
  obtain ⟨c3, i3, hKn3⟩ := u_known (C := RX3) (T := TX3) (N := 14) (n := 14) htT inX3 (htT (.instantiable RX3 14) (List.mem_of_getElem? (i := 809) (by decide +kernel)))
  obtain ⟨dC, dI, hKc⟩ : ∃ (dC : Nat → ClassId) (dI : Nat → Nat → Nat), ∀ (k : Nat) (q : vw_C), vwCl[k]? = some q → u_Kn s q.1 q.2.1 q.2.2 (dC k) (dI k) := by
    refine ⟨fun k => if k = 0 then c0 else if k = 1 then c1 else if k = 2 then c2 else c3, fun k => if k = 0 then i0 else if k = 1 then i1 else if k = 2 then i2 else i3, ?_⟩
    intro k q hq
    match k, hq with
    | 0, hq => cases hq; exact hKn0
    | 1, hq => cases hq; exact hKn1
    | 2, hq => cases hq; exact hKn2
    | 3, hq => cases hq; exact hKn3
    | k + 4, hq => simp [vwCl] at hq
  obtain ⟨aI, uI, vI⟩ := zarP (ty := .int) (htT (.arrayClass .int) (List.mem_of_getElem? (i := 155) (by decide +kernel)))
  obtain ⟨aZ, uZ, vZ⟩ := zarP (ty := .boolean) (htT (.arrayClass .boolean) (List.mem_of_getElem? (i := 187) (by decide +kernel)))
  obtain ⟨aC, uC, vC⟩ := zarP (ty := .char) (htT (.arrayClass .char) (List.mem_of_getElem? (i := 188) (by decide +kernel)))
  obtain ⟨aJ, uJ, vJ⟩ := zarP (ty := .long) (htT (.arrayClass .long) (List.mem_of_getElem? (i := 1176) (by decide +kernel)))
  obtain ⟨aQ, uQ, vQ⟩ := zarQ (C := "PledgedLoans$Books") (htT (.arrayOver (.object "PledgedLoans$Books")) (List.mem_of_getElem? (i := 156) (by decide +kernel)))
  obtain ⟨cA, hKt⟩ : ∃ cA : Nat → ClassId, ∀ (k : Nat) (q : ClassId × FieldType), (zTy cA)[k]? = some q → ArrOfT s q.1 q.2 ∧ va_RA s q.1 q.2 := by
    refine ⟨fun k => if k = 0 then aI else if k = 1 then aZ else if k = 2 then aC else if k = 3 then aQ else aJ, ?_⟩
    intro k q hq
    match k, hq with
    | 0, hq => cases hq; exact ⟨uI, vI⟩
    | 1, hq => cases hq; exact ⟨uZ, vZ⟩
    | 2, hq => cases hq; exact ⟨uC, vC⟩
    | 3, hq => cases hq; exact ⟨uQ, vQ⟩
    | 4, hq => cases hq; exact ⟨uJ, vJ⟩
    | k + 5, hq => simp at hq
  have hK : va_K (dC, dI) vwCl (zTy cA) s := ⟨hKc, hKt⟩
  have hf2 : s.vm.findClass RX2 = some c2 := hKn2.2.1
  have hZ : ∀ a : Nat, a < s.heap.size → ¬ (fun q : Nat => s.heap.size ≤ q) a := fun a h => Nat.not_le.mpr h
  have hO : zOut (fun q => s.heap.size ≤ q) s := by
    refine ⟨vx_Zqof (htT (.laysStatic "java/lang/Throwable" "UNASSIGNED_STACK" "[Ljava/lang/StackTraceElement;") (List.mem_of_getElem? (i := 500) (by decide +kernel))) (htT (.initialized "java/lang/Throwable") (List.mem_of_getElem? (i := 73) (by decide +kernel))) (hg _ (by decide +kernel)) hZ, vx_Zqof (htT (.laysStatic "java/lang/Throwable" "SUPPRESSED_SENTINEL" "Ljava/util/List;") (List.mem_of_getElem? (i := 502) (by decide +kernel))) (htT (.initialized "java/lang/Throwable") (List.mem_of_getElem? (i := 73) (by decide +kernel))) (hg _ (by decide +kernel)) hZ, ?_, ?_, ?_, ?_, ?_, ?_, ?_⟩
    · intro q hq
      simp only [zTx, List.mem_cons, List.not_mem_nil, or_false] at hq
      rcases hq with rfl | rfl | rfl | rfl | rfl | rfl | rfl | rfl | rfl | rfl
      · exact zstr hf2 (htT (.stringRef RX2 86 "too many weeks ended") (List.mem_of_getElem? (i := 650) (by decide +kernel)))
      · exact zstr hf2 (htT (.stringRef RX2 99 "too many days or share days") (List.mem_of_getElem? (i := 681) (by decide +kernel)))
      · exact zstr hf2 (htT (.stringRef RX2 118 "the buffer is full") (List.mem_of_getElem? (i := 704) (by decide +kernel)))
      · exact zstr hf2 (htT (.stringRef RX2 128 "no orders as a text") (List.mem_of_getElem? (i := 713) (by decide +kernel)))
      · exact zstr hf2 (htT (.stringRef RX2 141 "no snapshot in the slot") (List.mem_of_getElem? (i := 736) (by decide +kernel)))
      · exact zstr hf2 (htT (.stringRef RX2 146 "no saved state") (List.mem_of_getElem? (i := 744) (by decide +kernel)))
      · exact zstr hf2 (htT (.stringRef RX2 210 "no such member") (List.mem_of_getElem? (i := 514) (by decide +kernel)))
      · exact zstr hf2 (htT (.stringRef RX2 213 "both are the same member") (List.mem_of_getElem? (i := 589) (by decide +kernel)))
      · exact zstr hf2 (htT (.stringRef RX2 215 "no such setting") (List.mem_of_getElem? (i := 696) (by decide +kernel)))
      · exact zstr hf2 (htT (.stringRef RX2 217 "out of range") (List.mem_of_getElem? (i := 556) (by decide +kernel)))
    · exact va_Nw.of rfl (htT (.castable "java/lang/IndexOutOfBoundsException" "java/lang/IndexOutOfBoundsException") (List.mem_of_getElem? (i := 475) (by decide +kernel)))
    · exact va_Nw.of rfl (htT (.castable "java/lang/IllegalArgumentException" "java/lang/IllegalArgumentException") (List.mem_of_getElem? (i := 549) (by decide +kernel)))
    · exact va_Nw.of rfl (htT (.castable "java/lang/IllegalStateException" "java/lang/IllegalStateException") (List.mem_of_getElem? (i := 643) (by decide +kernel)))
    · exact va_Nw.of rfl (htT (.declares (Bundle.initS "java/lang/RuntimeException")) (List.mem_of_getElem? (i := 477) (by decide +kernel)))
    · exact va_Nw.of rfl (htT (.declares (Bundle.initS "java/lang/Exception")) (List.mem_of_getElem? (i := 479) (by decide +kernel)))
    · exact va_Nw.of rfl (htT (.declares (Bundle.initS "java/lang/Throwable")) (List.mem_of_getElem? (i := 481) (by decide +kernel)))
  have hn : va_Nc zeA zeO s ∧ va_Nc zeS zeA s := ⟨va_Nc.of (hg (.not (.castable zeA zeO)) (by decide +kernel)), va_Nc.of (hg (.not (.castable zeS zeA)) (by decide +kernel))⟩
  have E : zEv p l s m c b L xs (dC, dI) cA := ⟨hx, hb, hml, hown, hts, hX, hbl, hL, hK, hO, hn, zflag hflags⟩
  have hAO : va_AO RX0 s := va_AO.of (htT (.arrayOver (.object "PledgedLoans$Books")) (List.mem_of_getElem? (i := 156) (by decide +kernel)))
  have hN1 : va_Nw (.methodLinkNest RX2 9 yX0_init RX2) s := va_Nw.of rfl (htT (.methodLinkNest RX2 9 yX0_init RX2) (List.mem_of_getElem? (i := 92) (by decide +kernel)))
  have hN2 : va_Nw (.methodLinkNest RX2 33 yX1_init RX2) s := va_Nw.of rfl (htT (.methodLinkNest RX2 33 yX1_init RX2) (List.mem_of_getElem? (i := 159) (by decide +kernel)))
  have hS : va_S (fun q : Nat => s.heap.size ≤ q) s.heap s.heap [] := va_S.rf
  have hP : va_P (dC, dI) vwCl [] s.heap := fun k q h => by simp at h
  have hD : va_D (fun q : Nat => s.heap.size ≤ q) [] := ⟨fun i j p q h => by simp at h, fun k q h => by simp at h⟩
  have hl := lv_entry ([.ref b]) (n := 9) (Nat.le_of_ble_eq_true rfl)
  rw [lg_entry_eq]
  generalize (lg_sl ([.ref b]) ++ List.replicate (9 - (lg_sl ([.ref b])).length) Slot.unset).toArray = ls at hl ⊢
  have hl : lv_has ls 9 [(0, .ref b)] := hl
  refine va_new (ci := 2) (fs := [.null, .null, .int 0, .null, .null, .null, .int 0, .null, .null]) (C := RX2) (T := TX2) (N := 9) hx hb htT inX2 tyX2 tyX2_ok hown (htT (.classLink RL 8 RX2) (List.mem_of_getElem? (i := 82) (by decide +kernel))) (htT (.instantiable RX2 9) (List.mem_of_getElem? (i := 83) (by decide +kernel))) (htT (.initialized RX2) (List.mem_of_getElem? (i := 69) (by decide +kernel))) hK hP hD hS hA rfl (fun j hj => by rcases (show j = 0 ∨ j = 1 ∨ j = 2 ∨ j = 3 ∨ j = 4 ∨ j = 5 ∨ j = 6 ∨ j = 7 ∨ j = 8 by omega) with rfl | rfl | rfl | rfl | rfl | rfl | rfl | rfl | rfl <;> rfl) (Nat.le_of_ble_eq_true rfl) (Nat.le_of_ble_eq_true rfl) dL_law_0 (fun q1 H hP hD hS => ?_)
  have hP : va_P (dC, dI) vwCl ([(q1, .inr (2, [.null, .null, .int 0, .null, .null, .null, .int 0, .null, .null]))]) H := hP
  have hD : va_D (fun q : Nat => s.heap.size ≤ q) ([(q1, .inr (2, [.null, .null, .int 0, .null, .null, .null, .int 0, .null, .null]))]) := hD
  refine lv_dup hx hb dL_law_3 rfl ?_
  have hPc := hP.sub (ws' := [(q1, .inr (2, [.null, .null, .int 0, .null, .null, .null, .int 0, .null, .null]))]) [0] rfl
  have hDc := hD.sub (ws' := [(q1, .inr (2, [.null, .null, .int 0, .null, .null, .null, .int 0, .null, .null]))]) [0] (by decide) rfl
  have hFc := va_free (wc := [(q1, .inr (2, [.null, .null, .int 0, .null, .null, .null, .int 0, .null, .null]))]) hD hS hA [0] rfl
  refine va_callv (va_runI (As := []) (rest := [.ref q1]) ⟨hx, hb, hml, hown, hts⟩ (zi_X2_init l (dC, dI) cA q1 H.size) (cwI 0 hts gL_law_X2_init rfl rfl rfl (htT (.initialized RX2) (List.mem_of_getElem? (i := 69) (by decide +kernel))) (htT (.methodLink RL 88 yX2_init) (List.mem_of_getElem? (i := 84) (by decide +kernel))) (htT (.instanceMethod yX2_init) (List.mem_of_getElem? (i := 85) (by decide +kernel))) rfl zy_X2_init.2 ⟨(Nat.le_of_ble_eq_true rfl), (Nat.le_of_ble_eq_true rfl)⟩) (zPq_pre hK hPc hDc hAO hN1 hN2) rfl rfl hl.1 rfl (lv_room (Nat.le_of_ble_eq_true rfl)) dL_law_4 ⟨(Nat.le_of_ble_eq_true rfl), (Nat.le_of_ble_eq_true rfl)⟩) hS (fun q _ h => hFc q h) hFc (fun u t H1 locs ht hvm hw hB hz1 hk1 hS => ?_)
  obtain ⟨hP1, hD1⟩ := hB
  rw [ht] at hP1
  obtain ⟨hPj, hDj⟩ := va_join (wr := []) (w1 := unW cA (u.2.2) u.1 u.2.1 (fun _ => 0) (fun _ _ => 0) zN0 zB0 (fun _ => zB0)) hP hD [0] [] rfl rfl (by decide) (by decide) hk1 hFc hP1 hD1
  clear hPc hDc hFc hP1 hD1 hk1 ht hvm hz1 hP hD
  obtain rfl : u.2.2 0 = q1 := hw
  have hP := hPj
  have hD := hDj
  clear hPj hDj
  generalize H1 = H at hP hS ⊢
  have hP : va_P (dC, dI) vwCl (unW cA (u.2.2) u.1 u.2.1 (fun _ => 0) (fun _ _ => 0) zN0 zB0 (fun _ => zB0)) H := hP
  have hD : va_D (fun q : Nat => s.heap.size ≤ q) (unW cA (u.2.2) u.1 u.2.1 (fun _ => 0) (fun _ _ => 0) zN0 zB0 (fun _ => zB0)) := hD
  refine lv_astore_n (lv' := [(1, .ref (u.2.2 0)), (0, .ref b)]) hx hb dL_law_7 rfl hl (by decide) rfl (fun ls hl => ?_)
  refine va_new (ci := 3) (fs := [.int 0, .null, .int 0, .null, .null, .int 0, .int 0, .int 0, .int 0, .int 0, .int 0, .int 0, .null, .long 0]) (C := RX3) (T := TX3) (N := 14) hx hb htT inX3 tyX3 tyX3_ok hown (htT (.classLink RL 89 RX3) (List.mem_of_getElem? (i := 808) (by decide +kernel))) (htT (.instantiable RX3 14) (List.mem_of_getElem? (i := 809) (by decide +kernel))) (htT (.initialized RX3) (List.mem_of_getElem? (i := 72) (by decide +kernel))) hK hP hD hS hA rfl (fun j hj => by rcases (show j = 0 ∨ j = 1 ∨ j = 2 ∨ j = 3 ∨ j = 4 ∨ j = 5 ∨ j = 6 ∨ j = 7 ∨ j = 8 ∨ j = 9 ∨ j = 10 ∨ j = 11 ∨ j = 12 ∨ j = 13 by omega) with rfl | rfl | rfl | rfl | rfl | rfl | rfl | rfl | rfl | rfl | rfl | rfl | rfl | rfl <;> rfl) (Nat.le_of_ble_eq_true rfl) (Nat.le_of_ble_eq_true rfl) dL_law_8 (fun q2 H hP hD hS => ?_)
  have hP : va_P (dC, dI) vwCl (unW cA (u.2.2) u.1 u.2.1 (fun _ => 0) (fun _ _ => 0) zN0 zB0 (fun _ => zB0) ++ [(q2, .inr (3, [.int 0, .null, .int 0, .null, .null, .int 0, .int 0, .int 0, .int 0, .int 0, .int 0, .int 0, .null, .long 0]))]) H := hP
  have hD : va_D (fun q : Nat => s.heap.size ≤ q) (unW cA (u.2.2) u.1 u.2.1 (fun _ => 0) (fun _ _ => 0) zN0 zB0 (fun _ => zB0) ++ [(q2, .inr (3, [.int 0, .null, .int 0, .null, .null, .int 0, .int 0, .int 0, .int 0, .int 0, .int 0, .int 0, .null, .long 0]))]) := hD
  refine lv_dup hx hb dL_law_11 rfl ?_
  have hPc := hP.sub (ws' := [(q2, .inr (3, [.int 0, .null, .int 0, .null, .null, .int 0, .int 0, .int 0, .int 0, .int 0, .int 0, .int 0, .null, .long 0]))]) [88] rfl
  have hDc := hD.sub (ws' := [(q2, .inr (3, [.int 0, .null, .int 0, .null, .null, .int 0, .int 0, .int 0, .int 0, .int 0, .int 0, .int 0, .null, .long 0]))]) [88] (by decide) rfl
  have hFc := va_free (wc := [(q2, .inr (3, [.int 0, .null, .int 0, .null, .null, .int 0, .int 0, .int 0, .int 0, .int 0, .int 0, .int 0, .null, .long 0]))]) hD hS hA [88] rfl
  refine va_callv (va_runI (As := []) (rest := [.ref q2]) ⟨hx, hb, hml, hown, hts⟩ (zi_X3_init l (dC, dI) cA q2 H.size) (cwI 0 hts gL_law_X3_init rfl rfl rfl (htT (.initialized RX3) (List.mem_of_getElem? (i := 72) (by decide +kernel))) (htT (.methodLink RL 91 yX3_init) (List.mem_of_getElem? (i := 810) (by decide +kernel))) (htT (.instanceMethod yX3_init) (List.mem_of_getElem? (i := 811) (by decide +kernel))) rfl zy_X3_init.2 ⟨(Nat.le_of_ble_eq_true rfl), (Nat.le_of_ble_eq_true rfl)⟩) (zPn_pre hK hPc hDc) rfl rfl hl.1 rfl (lv_room (Nat.le_of_ble_eq_true rfl)) dL_law_12 ⟨(Nat.le_of_ble_eq_true rfl), (Nat.le_of_ble_eq_true rfl)⟩) hS (fun q _ h => hFc q h) hFc (fun mo t H1 locs ht hvm hw hB hz1 hk1 hS => ?_)
  obtain ⟨hP1, hD1⟩ := hB
  rw [ht] at hP1
  obtain ⟨hPj, hDj⟩ := va_join (wr := unW cA (u.2.2) u.1 u.2.1 (fun _ => 0) (fun _ _ => 0) zN0 zB0 (fun _ => zB0)) (w1 := moW cA mo zM0 (fun _ => 0) 0) hP hD [88] [0, 1, 2, 3, 4, 5, 6, 7, 8, 9, 10, 11, 12, 13, 14, 15, 16, 17, 18, 19, 20, 21, 22, 23, 24, 25, 26, 27, 28, 29, 30, 31, 32, 33, 34, 35, 36, 37, 38, 39, 40, 41, 42, 43, 44, 45, 46, 47, 48, 49, 50, 51, 52, 53, 54, 55, 56, 57, 58, 59, 60, 61, 62, 63, 64, 65, 66, 67, 68, 69, 70, 71, 72, 73, 74, 75, 76, 77, 78, 79, 80, 81, 82, 83, 84, 85, 86, 87] rfl rfl (by decide) (by decide) hk1 hFc hP1 hD1
  clear hPc hDc hFc hP1 hD1 hk1 ht hvm hz1 hP hD
  obtain rfl : mo 0 = q2 := hw
  have hP := hPj
  have hD := hDj
  clear hPj hDj
  generalize H1 = H at hP hS ⊢
  have hP : va_P (dC, dI) vwCl (unW cA (u.2.2) u.1 u.2.1 (fun _ => 0) (fun _ _ => 0) zN0 zB0 (fun _ => zB0) ++ moW cA mo zM0 (fun _ => 0) 0) H := hP
  have hD : va_D (fun q : Nat => s.heap.size ≤ q) (unW cA (u.2.2) u.1 u.2.1 (fun _ => 0) (fun _ _ => 0) zN0 zB0 (fun _ => zB0) ++ moW cA mo zM0 (fun _ => 0) 0) := hD
  refine lv_astore_n (lv' := [(2, .ref (mo 0)), (1, .ref (u.2.2 0)), (0, .ref b)]) hx hb dL_law_15 rfl hl (by decide) rfl (fun ls hl => ?_)
  refine lv_iconst (v := 1) hx hb dL_law_16 (by decide) ?_
  refine z_newL (N' := 1) hx hb (htT (.arrayClass .long) (List.mem_of_getElem? (i := 1176) (by decide +kernel))) hK hP hD hS hA (by decide) (by decide) (by decide) (Nat.le_of_ble_eq_true rfl) (Nat.le_of_ble_eq_true rfl) dL_law_17 (fun o H hP hD hS => ?_)
  have hP9 := hP.sub (ws' := (ouW cA o (fun _ => 0) ++ unW cA (u.2.2) u.1 u.2.1 (fun _ => 0) (fun _ _ => 0) zN0 zB0 (fun _ => zB0)) ++ moW cA mo zM0 (fun _ => 0) 0) [93, 0, 1, 2, 3, 4, 5, 6, 7, 8, 9, 10, 11, 12, 13, 14, 15, 16, 17, 18, 19, 20, 21, 22, 23, 24, 25, 26, 27, 28, 29, 30, 31, 32, 33, 34, 35, 36, 37, 38, 39, 40, 41, 42, 43, 44, 45, 46, 47, 48, 49, 50, 51, 52, 53, 54, 55, 56, 57, 58, 59, 60, 61, 62, 63, 64, 65, 66, 67, 68, 69, 70, 71, 72, 73, 74, 75, 76, 77, 78, 79, 80, 81, 82, 83, 84, 85, 86, 87, 88, 89, 90, 91, 92] rfl
  have hD9 := hD.sub (ws' := (ouW cA o (fun _ => 0) ++ unW cA (u.2.2) u.1 u.2.1 (fun _ => 0) (fun _ _ => 0) zN0 zB0 (fun _ => zB0)) ++ moW cA mo zM0 (fun _ => 0) 0) [93, 0, 1, 2, 3, 4, 5, 6, 7, 8, 9, 10, 11, 12, 13, 14, 15, 16, 17, 18, 19, 20, 21, 22, 23, 24, 25, 26, 27, 28, 29, 30, 31, 32, 33, 34, 35, 36, 37, 38, 39, 40, 41, 42, 43, 44, 45, 46, 47, 48, 49, 50, 51, 52, 53, 54, 55, 56, 57, 58, 59, 60, 61, 62, 63, 64, 65, 66, 67, 68, 69, 70, 71, 72, 73, 74, 75, 76, 77, 78, 79, 80, 81, 82, 83, 84, 85, 86, 87, 88, 89, 90, 91, 92] (by decide) rfl
  refine lv_astore_n (lv' := [(3, .ref o), (2, .ref (mo 0)), (1, .ref (u.2.2 0)), (0, .ref b)]) hx hb dL_law_19 rfl hl (by decide) rfl (fun ls hl => ?_)
  refine lv_iconst (v := nI (4 * 0)) hx hb dL_law_20 (by decide) ?_
  refine lv_istore (lv' := [(4, .int (nI (4 * 0))), (3, .ref o), (2, .ref (mo 0)), (1, .ref (u.2.2 0)), (0, .ref b)]) hx hb dL_law_21 hl (by decide) rfl (fun ls hl => ?_)
  refine W.widen (k := 94 + 4 * 0) (n := 1722 + 24 * 0) (Nat.le_of_ble_eq_true rfl) (Nat.le_of_ble_eq_true rfl) ?_
  exact zlaw_loop E hr hlocks (L + 1) 0 _ _ _ _ _ _ _ _ _ _ _ ls (by omega) (by omega) (lv_sub hl [4, 3, 2, 1, 0] rfl) hP9 hD9 hS ((zl_new (fun _ => 0) (by unfold zRI; dsimp only; omega) (fun _ => zB0)).mono (by decide))
end
