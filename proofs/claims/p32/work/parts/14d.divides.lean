/-! the law: divides -/
theorem zy_L_divides : yL_divides.cls = RL ∧ yL_divides.cls ≠ "java/lang/invoke/MethodHandle" ∧ yL_divides.cls ≠ "java/lang/invoke/VarHandle" ∧ (parseMethodDescriptor yL_divides.desc).map (fun d => d.parameters.length) = some 1 := by decide +kernel
def f_L_divides_28 (N : NK) (B : BK) (Bs : Nat → BK) (i0 : Int32) (i1 : Int32) : Nat → Int32 × Int32
  | 0 => (i0, i1)
  | n + 1 =>
    let y0_28 : Int32 := (f_L_divides_28 N B Bs i0 i1 n).1
    let y1_28 : Int32 := (f_L_divides_28 N B Bs i0 i1 n).2
    (y0_28 + (f_X2_ifDivided B (nI n)), y1_28 ||| (f_X2_memberOf B (nI n) 5))
def f_L_divides (N : NK) (B : BK) (Bs : Nat → BK) : NK × BK × (Nat → BK) :=
  let y0_28 : Int32 := (f_L_divides_28 N B Bs 0 0 6).1
  let y1_28 : Int32 := (f_L_divides_28 N B Bs 0 0 6).2
  (((f_X2_dividend N B Bs).2.1), ((f_X2_dividend N B Bs).2.2.1), ((f_X2_dividend N B Bs).2.2.2))

def zF_divides (N : NK) (B : BK) (Bs : Nat → BK) : Prop :=
  ((¬ (((f_L_divides_28 N B Bs 0 0 6).2) = 0)) → (((f_X2_dividend N B Bs).1) = ((f_L_divides_28 N B Bs 0 0 6).1))) ∧
  ((¬ (((f_L_divides_28 N B Bs 0 0 6).2) = 0)) → (¬ ((f_X2_count N B 1) < ((f_L_divides_28 N B Bs 0 0 6).1)))) ∧
  ((¬ (((f_L_divides_28 N B Bs 0 0 6).2) = 0)) → ((f_X2_count ((f_X2_dividend N B Bs).2.1) ((f_X2_dividend N B Bs).2.2.1) 1) = ((f_X2_count N B 1) - ((f_L_divides_28 N B Bs 0 0 6).1)))) ∧
  ((¬ (((f_L_divides_28 N B Bs 0 0 6).2) = 0)) → ((f_X2_count ((f_X2_dividend N B Bs).2.1) ((f_X2_dividend N B Bs).2.2.1) 2) = ((f_X2_count N B 2) + ((f_L_divides_28 N B Bs 0 0 6).1)))) ∧
  ((¬ (((f_L_divides_28 N B Bs 0 0 6).2) = 0)) → ((f_X2_memberOf ((f_X2_dividend N B Bs).2.2.1) 0 5) = 0)) ∧
  ((((f_L_divides_28 N B Bs 0 0 6).2) = 0) → (((f_X2_dividend N B Bs).1) = (-1))) ∧
  ((((f_L_divides_28 N B Bs 0 0 6).2) = 0) → (((f_L_divides_28 N B Bs 0 0 6).1) = 0)) ∧
  ((((f_L_divides_28 N B Bs 0 0 6).2) = 0) → ((f_X2_count ((f_X2_dividend N B Bs).2.1) ((f_X2_dividend N B Bs).2.2.1) 9) = ((f_X2_count N B 9) + 1)))
set_option maxHeartbeats 4000000 in
set_option maxRecDepth 100000 in
theorem zc_L_divides (l : Launch) (hfl : l.stackTraces = false) (D : va_G) (cA : Nat → ClassId) (b : Nat → Nat → Nat) (rd : Nat) (x : Nat → Nat) (X : BK) (N : NK) (B : BK) (Bs : Nat → BK) (hpm : zpm N) (hsv2 : N 0 0 ≤ 6) (hF : zF_divides N B Bs) : Met l yL_divides wsL_divides (zrx 8 134 2 12) (zPx D cA [.ref (x 0)] (xmW cA x b rd X N ++ (bkW (cA 0) (b 0) B ++ (otW (cA 0) b Bs)))) (zM D (xmW cA x b rd X N ++ (bkW (cA 0) (b 0) B ++ (otW (cA 0) b Bs))) (xmW cA x b rd X ((f_L_divides N B Bs).1) ++ (bkW (cA 0) (b 0) ((f_L_divides N B Bs).2.1) ++ (otW (cA 0) b ((f_L_divides N B Bs).2.2)))) (some (.int 1))) 2 12 (zfr (xmW cA x b rd X N ++ (bkW (cA 0) (b 0) B ++ (otW (cA 0) b Bs)))) := by
  obtain ⟨hf_104, hf_109, hf_120, hf_132, hf_141, hf_73, hf_77, hf_90⟩ := hF
  refine Met.ofW (cc := cL_divides) (maxL := 7) (ret := (some .boolean)) (by decide) rfl ?_
  intro p e s m args below meth c s₁ Bd hml hv
  obtain ⟨rfl, hP, hK, hD0, hO⟩ := hv
  have hx := Bd.exec
  have hb := Bd.bytes
  have hr := Bd.returns
  have hts := atoms_spec (ws := wsL_divides) Bd.pre
  have hown : s.vm.findClass RL = some m.cls := findClass_of_methodNamed Bd.named
  have hlocks := Bd.notSynchronized
  have hD := z_Dfr hD0
  have hS : va_S (zfr (xmW cA x b rd X N ++ (bkW (cA 0) (b 0) B ++ (otW (cA 0) b Bs)))) s.heap s.heap [] := va_S.rf
  have hl := lv_entry ([.ref (x 0)]) (n := 7) (Nat.le_of_ble_eq_true rfl)
  rw [lg_entry_eq]
  generalize (lg_sl ([.ref (x 0)]) ++ List.replicate (7 - (lg_sl ([.ref (x 0)])).length) Slot.unset).toArray = ls at hl ⊢
  have hl : lv_has ls 7 [(0, .ref (x 0))] := hl
  refine lv_iconst (v := 0) hx hb dL_divides_0 (by decide) ?_
  refine lv_istore_n (lv' := [(1, .int 0), (0, .ref (x 0))]) hx hb dL_divides_1 rfl hl (by decide) rfl (fun ls hl => ?_)
  refine lv_iconst (v := 0) hx hb dL_divides_2 (by decide) ?_
  refine lv_istore_n (lv' := [(2, .int 0), (1, .int 0), (0, .ref (x 0))]) hx hb dL_divides_3 rfl hl (by decide) rfl (fun ls hl => ?_)
  refine lv_aload_n hx hb dL_divides_4 rfl (lv_at hl 2 rfl) ?_
  refine lv_iconst (v := 1) hx hb dL_divides_5 (by decide) ?_
  refine zv_E (vx_runV (As := [.int 1]) (rest := []) ⟨hx, hb, hml, hown, hts⟩ (zk_X2_count l hfl D cA b rd x X N B 1) (cwV 1 hts gL_divides_X2_count rfl rfl rfl zy_X2_count ⟨(Nat.le_of_ble_eq_true rfl), (Nat.le_of_ble_eq_true rfl)⟩) (zx_preVq (A := (zfr (xmW cA x b rd X N ++ (bkW (cA 0) (b 0) B ++ (otW (cA 0) b Bs))))) (ci := 2) (q0 := 0) hK (hP.sub (ws' := xmW cA x b rd X N ++ (bkW (cA 0) (b 0) B)) [0, 1, 2, 3, 4, 5, 6, 7, 8, 9, 10, 11, 12, 13, 14] rfl) (hD.sub (ws' := xmW cA x b rd X N ++ (bkW (cA 0) (b 0) B)) [0, 1, 2, 3, 4, 5, 6, 7, 8, 9, 10, 11, 12, 13, 14] (by decide) rfl) hO hS (zD_fr (hD.sub (ws' := xmW cA x b rd X N ++ (bkW (cA 0) (b 0) B)) [0, 1, 2, 3, 4, 5, 6, 7, 8, 9, 10, 11, 12, 13, 14] (by decide) rfl)) rfl rfl) rfl rfl hl.1 rfl (lv_room (Nat.le_of_ble_eq_true rfl)) dL_divides_6 ⟨Nat.le_of_ble_eq_true rfl, Nat.le_of_ble_eq_true rfl⟩) (zva_no ⟨⟨by decide, by decide⟩, trivial⟩) rfl ?_
  refine lv_istore_n (lv' := [(3, .int (f_X2_count N B 1)), (2, .int 0), (1, .int 0), (0, .ref (x 0))]) hx hb dL_divides_9 rfl hl (by decide) rfl (fun ls hl => ?_)
  refine lv_aload_n hx hb dL_divides_10 rfl (lv_at hl 3 rfl) ?_
  refine lv_iconst (v := 2) hx hb dL_divides_11 (by decide) ?_
  refine zv_E (vx_runV (As := [.int 2]) (rest := []) ⟨hx, hb, hml, hown, hts⟩ (zk_X2_count l hfl D cA b rd x X N B 2) (cwV 1 hts gL_divides_X2_count rfl rfl rfl zy_X2_count ⟨(Nat.le_of_ble_eq_true rfl), (Nat.le_of_ble_eq_true rfl)⟩) (zx_preVq (A := (zfr (xmW cA x b rd X N ++ (bkW (cA 0) (b 0) B ++ (otW (cA 0) b Bs))))) (ci := 2) (q0 := 0) hK (hP.sub (ws' := xmW cA x b rd X N ++ (bkW (cA 0) (b 0) B)) [0, 1, 2, 3, 4, 5, 6, 7, 8, 9, 10, 11, 12, 13, 14] rfl) (hD.sub (ws' := xmW cA x b rd X N ++ (bkW (cA 0) (b 0) B)) [0, 1, 2, 3, 4, 5, 6, 7, 8, 9, 10, 11, 12, 13, 14] (by decide) rfl) hO hS (zD_fr (hD.sub (ws' := xmW cA x b rd X N ++ (bkW (cA 0) (b 0) B)) [0, 1, 2, 3, 4, 5, 6, 7, 8, 9, 10, 11, 12, 13, 14] (by decide) rfl)) rfl rfl) rfl rfl hl.1 rfl (lv_room (Nat.le_of_ble_eq_true rfl)) dL_divides_12 ⟨Nat.le_of_ble_eq_true rfl, Nat.le_of_ble_eq_true rfl⟩) (zva_no ⟨⟨by decide, by decide⟩, trivial⟩) rfl ?_
  refine lv_istore (lv' := [(4, .int (f_X2_count N B 2)), (3, .int (f_X2_count N B 1)), (2, .int 0), (1, .int 0), (0, .ref (x 0))]) hx hb dL_divides_15 hl (by decide) rfl (fun ls hl => ?_)
  refine lv_aload_n hx hb dL_divides_17 rfl (lv_at hl 4 rfl) ?_
  refine lv_bipush (v := 9) hx hb dL_divides_18 (by decide) ?_
  refine zv_E (vx_runV (As := [.int 9]) (rest := []) ⟨hx, hb, hml, hown, hts⟩ (zk_X2_count l hfl D cA b rd x X N B 9) (cwV 1 hts gL_divides_X2_count rfl rfl rfl zy_X2_count ⟨(Nat.le_of_ble_eq_true rfl), (Nat.le_of_ble_eq_true rfl)⟩) (zx_preVq (A := (zfr (xmW cA x b rd X N ++ (bkW (cA 0) (b 0) B ++ (otW (cA 0) b Bs))))) (ci := 2) (q0 := 0) hK (hP.sub (ws' := xmW cA x b rd X N ++ (bkW (cA 0) (b 0) B)) [0, 1, 2, 3, 4, 5, 6, 7, 8, 9, 10, 11, 12, 13, 14] rfl) (hD.sub (ws' := xmW cA x b rd X N ++ (bkW (cA 0) (b 0) B)) [0, 1, 2, 3, 4, 5, 6, 7, 8, 9, 10, 11, 12, 13, 14] (by decide) rfl) hO hS (zD_fr (hD.sub (ws' := xmW cA x b rd X N ++ (bkW (cA 0) (b 0) B)) [0, 1, 2, 3, 4, 5, 6, 7, 8, 9, 10, 11, 12, 13, 14] (by decide) rfl)) rfl rfl) rfl rfl hl.1 rfl (lv_room (Nat.le_of_ble_eq_true rfl)) dL_divides_20 ⟨Nat.le_of_ble_eq_true rfl, Nat.le_of_ble_eq_true rfl⟩) (zva_no ⟨⟨by decide, by decide⟩, trivial⟩) rfl ?_
  refine lv_istore (lv' := [(5, .int (f_X2_count N B 9)), (4, .int (f_X2_count N B 2)), (3, .int (f_X2_count N B 1)), (2, .int 0), (1, .int 0), (0, .ref (x 0))]) hx hb dL_divides_23 hl (by decide) rfl (fun ls hl => ?_)
  refine lv_iconst (v := 0) hx hb dL_divides_25 (by decide) ?_
  refine lv_istore (lv' := [(6, .int 0), (5, .int (f_X2_count N B 9)), (4, .int (f_X2_count N B 2)), (3, .int (f_X2_count N B 1)), (2, .int 0), (1, .int 0), (0, .ref (x 0))]) hx hb dL_divides_26 hl (by decide) rfl (fun ls hl => ?_)
  have loop_28 : ∀ (kk : Nat) (n : Nat) (y0_28 : Int32) (y1_28 : Int32), n ≤ 6 → 6 - n < kk → y0_28 = (f_L_divides_28 N B Bs 0 0 n).1 → y1_28 = (f_L_divides_28 N B Bs 0 0 n).2 → ∀ (H : Heap) (locs : List Loc), va_P D vwCl (xmW cA x b rd X N ++ (bkW (cA 0) (b 0) B ++ (otW (cA 0) b Bs))) H → va_D (zfr (xmW cA x b rd X N ++ (bkW (cA 0) (b 0) B ++ (otW (cA 0) b Bs)))) (xmW cA x b rd X N ++ (bkW (cA 0) (b 0) B ++ (otW (cA 0) b Bs))) → va_S (zfr (xmW cA x b rd X N ++ (bkW (cA 0) (b 0) B ++ (otW (cA 0) b Bs)))) s.heap H locs → ∀ (ls : Array Slot), lv_has ls 7 [(0, .ref (x 0)), (3, .int (f_X2_count N B 1)), (4, .int (f_X2_count N B 2)), (5, .int (f_X2_count N B 9)), (1, .int y0_28), (2, .int y1_28), (6, .int (nI n))] → W p l e (headSpec wsL_divides (zrx 8 134 2 12)).room s m ([.ref (x 0)] : List Value).toArray below meth c H locs 0 0 (MQ below (zM D (xmW cA x b rd X N ++ (bkW (cA 0) (b 0) B ++ (otW (cA 0) b Bs))) (xmW cA x b rd X ((f_L_divides N B Bs).1) ++ (bkW (cA 0) (b 0) ((f_L_divides N B Bs).2.1) ++ (otW (cA 0) b ((f_L_divides N B Bs).2.2)))) (some (.int 1))) ([.ref (x 0)] : List Value).toArray s 2 12 (zfr (xmW cA x b rd X N ++ (bkW (cA 0) (b 0) B ++ (otW (cA 0) b Bs))))) (F0 m 28 ls []) := by
    intro kk
    induction kk with
    | zero => intro n y0_28 y1_28 _ h9; exact absurd h9 (Nat.not_lt_zero _)
    | succ kk ih_28 =>
      intro n y0_28 y1_28 hn_28 hm_28 q_y0_28 q_y1_28 H locs hP hD hS ls hl
      refine lv_iload hx hb dL_divides_28 (lv_at hl 6 rfl) ?_
      refine lv_bipush (v := 6) hx hb dL_divides_30 (by decide) ?_
      refine lv_icmp_ge (tgt := 60) hx hb dL_divides_32 (by decide) (fun c_1 => ?_) (fun c_1 => ?_)
      · have c_1 : 6 ≤ n := (nI_leI (a := 6) (b := n) (by omega) (by omega)).mp c_1
        obtain rfl : n = 6 := by omega
        obtain ⟨z_28, hz_28⟩ : ∃ z9, z9 = f_L_divides_28 N B Bs 0 0 6 := ⟨_, rfl⟩
        rw [← hz_28] at q_y0_28 q_y1_28
        refine lv_aload_n hx hb dL_divides_60 rfl (lv_at hl 0 rfl) ?_
        refine z_M (X := ([] : va_W)) (Z := ([] : va_W)) (va_runV (As := []) (rest := []) ⟨hx, hb, hml, hown, hts⟩ (zc_X2_dividend l D cA b rd x X N B Bs hpm hsv2) (cwV 0 hts gL_divides_X2_dividend rfl rfl rfl zy_X2_dividend ⟨(Nat.le_of_ble_eq_true rfl), (Nat.le_of_ble_eq_true rfl)⟩) (z_preV (ci := 2) hK hP hD rfl rfl) rfl rfl hl.1 rfl (lv_room (Nat.le_of_ble_eq_true rfl)) dL_divides_61 ⟨Nat.le_of_ble_eq_true rfl, Nat.le_of_ble_eq_true rfl⟩) hP hD hS (z_adr2 xmW_adr (z_adr2 bkW_adr otW_adr)) rfl (fun H locs hP9 hD9 hS9 => ?_)
        replace hP : va_P D vwCl (xmW cA x b rd X ((f_X2_dividend N B Bs).2.1) ++ (bkW (cA 0) (b 0) ((f_X2_dividend N B Bs).2.2.1) ++ (otW (cA 0) b ((f_X2_dividend N B Bs).2.2.2)))) H := hP9
        replace hD : va_D _ (xmW cA x b rd X ((f_X2_dividend N B Bs).2.1) ++ (bkW (cA 0) (b 0) ((f_X2_dividend N B Bs).2.2.1) ++ (otW (cA 0) b ((f_X2_dividend N B Bs).2.2.2)))) := hD9
        replace hS := hS9
        clear hP9 hD9 hS9
        refine lv_istore (lv' := [(6, .int ((f_X2_dividend N B Bs).1)), (0, .ref (x 0)), (3, .int (f_X2_count N B 1)), (4, .int (f_X2_count N B 2)), (5, .int (f_X2_count N B 9)), (1, .int y0_28), (2, .int y1_28)]) hx hb dL_divides_64 hl (by decide) rfl (fun ls hl => ?_)
        refine lv_iload_n hx hb dL_divides_66 rfl (lv_at hl 6 rfl) ?_
        have sel_67 : ∀ (ls : Array Slot), lv_has ls 7 [(6, .int ((f_X2_dividend N B Bs).1)), (0, .ref (x 0)), (3, .int (f_X2_count N B 1)), (4, .int (f_X2_count N B 2)), (5, .int (f_X2_count N B 9)), (1, .int y0_28), (2, .int y1_28)] → W p l e (headSpec wsL_divides (zrx 8 134 2 12)).room s m ([.ref (x 0)] : List Value).toArray below meth c H locs 0 0 (MQ below (zM D (xmW cA x b rd X N ++ (bkW (cA 0) (b 0) B ++ (otW (cA 0) b Bs))) (xmW cA x b rd X ((f_L_divides N B Bs).1) ++ (bkW (cA 0) (b 0) ((f_L_divides N B Bs).2.1) ++ (otW (cA 0) b ((f_L_divides N B Bs).2.2)))) (some (.int 1))) ([.ref (x 0)] : List Value).toArray s 2 12 (zfr (xmW cA x b rd X N ++ (bkW (cA 0) (b 0) B ++ (otW (cA 0) b Bs))))) (F0 m 149 ls [.int 1]) := by
          intro ls hl
          refine W.widen (k := 2) (n := 12) (Nat.le_of_ble_eq_true rfl) (Nat.le_of_ble_eq_true rfl) ?_
          exact z_zretM (w1 := xmW cA x b rd X ((f_X2_dividend N B Bs).2.1) ++ (bkW (cA 0) (b 0) ((f_X2_dividend N B Bs).2.2.1) ++ (otW (cA 0) b ((f_X2_dividend N B Bs).2.2.2)))) hx hb hr hlocks dL_divides_149 hP hS rfl rfl (by subst q_y1_28 q_y0_28; first | (simp -proj only [f_L_divides, ← hz_28]; first | done | rfl; done) | rfl)
        refine lv_if_ne (tgt := 101) hx hb dL_divides_67 (by decide) (fun c_2 => ?_) (fun c_2 => ?_)
        · refine lv_iload hx hb dL_divides_101 (lv_at hl 0 rfl) ?_
          refine lv_iload_n hx hb dL_divides_103 rfl (lv_at hl 5 rfl) ?_
          refine lv_icmp_ne (tgt := 148) hx hb dL_divides_104 (by decide) (fun c_3 => by exact absurd (by subst q_y1_28 q_y0_28 hz_28; exact hf_104 c_2) c_3) (fun _ => ?_)
          refine lv_iload_n hx hb dL_divides_107 rfl (lv_at hl 5 rfl) ?_
          refine lv_iload_n hx hb dL_divides_108 rfl (lv_at hl 2 rfl) ?_
          refine lv_icmp_gt (tgt := 148) hx hb dL_divides_109 (by decide) (fun c_4 => by exact absurd c_4 (by subst q_y1_28 q_y0_28 hz_28; exact hf_109 c_2)) (fun _ => ?_)
          refine lv_aload_n hx hb dL_divides_112 rfl (lv_at hl 1 rfl) ?_
          refine lv_iconst (v := 1) hx hb dL_divides_113 (by decide) ?_
          refine zv_E (vx_runV (As := [.int 1]) (rest := []) ⟨hx, hb, hml, hown, hts⟩ (zk_X2_count l hfl D cA b rd x X ((f_X2_dividend N B Bs).2.1) ((f_X2_dividend N B Bs).2.2.1) 1) (cwV 1 hts gL_divides_X2_count rfl rfl rfl zy_X2_count ⟨(Nat.le_of_ble_eq_true rfl), (Nat.le_of_ble_eq_true rfl)⟩) (zx_preVq (A := (zfr (xmW cA x b rd X N ++ (bkW (cA 0) (b 0) B ++ (otW (cA 0) b Bs))))) (ci := 2) (q0 := 0) hK (hP.sub (ws' := xmW cA x b rd X ((f_X2_dividend N B Bs).2.1) ++ (bkW (cA 0) (b 0) ((f_X2_dividend N B Bs).2.2.1))) [0, 1, 2, 3, 4, 5, 6, 7, 8, 9, 10, 11, 12, 13, 14] rfl) (hD.sub (ws' := xmW cA x b rd X ((f_X2_dividend N B Bs).2.1) ++ (bkW (cA 0) (b 0) ((f_X2_dividend N B Bs).2.2.1))) [0, 1, 2, 3, 4, 5, 6, 7, 8, 9, 10, 11, 12, 13, 14] (by decide) rfl) hO hS (zD_fr (hD.sub (ws' := xmW cA x b rd X ((f_X2_dividend N B Bs).2.1) ++ (bkW (cA 0) (b 0) ((f_X2_dividend N B Bs).2.2.1))) [0, 1, 2, 3, 4, 5, 6, 7, 8, 9, 10, 11, 12, 13, 14] (by decide) rfl)) rfl rfl) rfl rfl hl.1 rfl (lv_room (Nat.le_of_ble_eq_true rfl)) dL_divides_114 ⟨Nat.le_of_ble_eq_true rfl, Nat.le_of_ble_eq_true rfl⟩) (zva_no ⟨⟨by decide, by decide⟩, trivial⟩) rfl ?_
          refine lv_iload_n hx hb dL_divides_117 rfl (lv_at hl 2 rfl) ?_
          refine lv_iload_n hx hb dL_divides_118 rfl (lv_at hl 5 rfl) ?_
          refine lv_isub hx hb dL_divides_119 ?_
          refine lv_icmp_ne (tgt := 148) hx hb dL_divides_120 (by decide) (fun c_5 => by exact absurd (by subst q_y1_28 q_y0_28 hz_28; exact hf_120 c_2) c_5) (fun _ => ?_)
          refine lv_aload_n hx hb dL_divides_123 rfl (lv_at hl 1 rfl) ?_
          refine lv_iconst (v := 2) hx hb dL_divides_124 (by decide) ?_
          refine zv_E (vx_runV (As := [.int 2]) (rest := []) ⟨hx, hb, hml, hown, hts⟩ (zk_X2_count l hfl D cA b rd x X ((f_X2_dividend N B Bs).2.1) ((f_X2_dividend N B Bs).2.2.1) 2) (cwV 1 hts gL_divides_X2_count rfl rfl rfl zy_X2_count ⟨(Nat.le_of_ble_eq_true rfl), (Nat.le_of_ble_eq_true rfl)⟩) (zx_preVq (A := (zfr (xmW cA x b rd X N ++ (bkW (cA 0) (b 0) B ++ (otW (cA 0) b Bs))))) (ci := 2) (q0 := 0) hK (hP.sub (ws' := xmW cA x b rd X ((f_X2_dividend N B Bs).2.1) ++ (bkW (cA 0) (b 0) ((f_X2_dividend N B Bs).2.2.1))) [0, 1, 2, 3, 4, 5, 6, 7, 8, 9, 10, 11, 12, 13, 14] rfl) (hD.sub (ws' := xmW cA x b rd X ((f_X2_dividend N B Bs).2.1) ++ (bkW (cA 0) (b 0) ((f_X2_dividend N B Bs).2.2.1))) [0, 1, 2, 3, 4, 5, 6, 7, 8, 9, 10, 11, 12, 13, 14] (by decide) rfl) hO hS (zD_fr (hD.sub (ws' := xmW cA x b rd X ((f_X2_dividend N B Bs).2.1) ++ (bkW (cA 0) (b 0) ((f_X2_dividend N B Bs).2.2.1))) [0, 1, 2, 3, 4, 5, 6, 7, 8, 9, 10, 11, 12, 13, 14] (by decide) rfl)) rfl rfl) rfl rfl hl.1 rfl (lv_room (Nat.le_of_ble_eq_true rfl)) dL_divides_125 ⟨Nat.le_of_ble_eq_true rfl, Nat.le_of_ble_eq_true rfl⟩) (zva_no ⟨⟨by decide, by decide⟩, trivial⟩) rfl ?_
          refine lv_iload hx hb dL_divides_128 (lv_at hl 3 rfl) ?_
          refine lv_iload_n hx hb dL_divides_130 rfl (lv_at hl 5 rfl) ?_
          refine lv_iadd hx hb dL_divides_131 ?_
          refine lv_icmp_ne (tgt := 148) hx hb dL_divides_132 (by decide) (fun c_6 => by exact absurd (by subst q_y1_28 q_y0_28 hz_28; exact hf_132 c_2) c_6) (fun _ => ?_)
          refine lv_aload_n hx hb dL_divides_135 rfl (lv_at hl 1 rfl) ?_
          refine lv_iconst (v := 0) hx hb dL_divides_136 (by decide) ?_
          refine lv_iconst (v := 5) hx hb dL_divides_137 (by decide) ?_
          refine zv_E (vx_runV (As := [.int 0, .int 5]) (rest := []) ⟨hx, hb, hml, hown, hts⟩ (zk_X2_memberOf l hfl D cA b rd x X ((f_X2_dividend N B Bs).2.1) ((f_X2_dividend N B Bs).2.2.1) 0 5) (cwV 2 hts gL_divides_X2_memberOf rfl rfl rfl zy_X2_memberOf ⟨(Nat.le_of_ble_eq_true rfl), (Nat.le_of_ble_eq_true rfl)⟩) (zx_preVq (A := (zfr (xmW cA x b rd X N ++ (bkW (cA 0) (b 0) B ++ (otW (cA 0) b Bs))))) (ci := 2) (q0 := 0) hK (hP.sub (ws' := xmW cA x b rd X ((f_X2_dividend N B Bs).2.1) ++ (bkW (cA 0) (b 0) ((f_X2_dividend N B Bs).2.2.1))) [0, 1, 2, 3, 4, 5, 6, 7, 8, 9, 10, 11, 12, 13, 14] rfl) (hD.sub (ws' := xmW cA x b rd X ((f_X2_dividend N B Bs).2.1) ++ (bkW (cA 0) (b 0) ((f_X2_dividend N B Bs).2.2.1))) [0, 1, 2, 3, 4, 5, 6, 7, 8, 9, 10, 11, 12, 13, 14] (by decide) rfl) hO hS (zD_fr (hD.sub (ws' := xmW cA x b rd X ((f_X2_dividend N B Bs).2.1) ++ (bkW (cA 0) (b 0) ((f_X2_dividend N B Bs).2.2.1))) [0, 1, 2, 3, 4, 5, 6, 7, 8, 9, 10, 11, 12, 13, 14] (by decide) rfl)) rfl rfl) rfl rfl hl.1 rfl (lv_room (Nat.le_of_ble_eq_true rfl)) dL_divides_138 ⟨Nat.le_of_ble_eq_true rfl, Nat.le_of_ble_eq_true rfl⟩) (zva_no ⟨⟨0, by decide, rfl⟩, ⟨by decide, by decide⟩, trivial⟩) rfl ?_
          refine lv_if_ne (tgt := 148) hx hb dL_divides_141 (by decide) (fun c_7 => by exact absurd (by subst q_y1_28 q_y0_28 hz_28; exact hf_141 c_2) c_7) (fun _ => ?_)
          refine lv_iconst (v := 1) hx hb dL_divides_144 (by decide) ?_
          refine lv_goto (tgt := 149) hx hb dL_divides_145 (by decide) ?_
          exact sel_67 ls (lv_sub hl [0, 1, 2, 3, 4, 5, 6] rfl)
        · refine lv_iload hx hb dL_divides_70 (lv_at hl 0 rfl) ?_
          refine lv_iconst (v := (-1)) hx hb dL_divides_72 (by decide) ?_
          refine lv_icmp_ne (tgt := 97) hx hb dL_divides_73 (by decide) (fun c_8 => by exact absurd (by subst q_y1_28 q_y0_28 hz_28; exact hf_73 c_2) c_8) (fun _ => ?_)
          refine lv_iload_n hx hb dL_divides_76 rfl (lv_at hl 5 rfl) ?_
          refine lv_if_ne (tgt := 97) hx hb dL_divides_77 (by decide) (fun c_9 => by exact absurd (by subst q_y1_28 q_y0_28 hz_28; exact hf_77 c_2) c_9) (fun _ => ?_)
          refine lv_aload_n hx hb dL_divides_80 rfl (lv_at hl 1 rfl) ?_
          refine lv_bipush (v := 9) hx hb dL_divides_81 (by decide) ?_
          refine zv_E (vx_runV (As := [.int 9]) (rest := []) ⟨hx, hb, hml, hown, hts⟩ (zk_X2_count l hfl D cA b rd x X ((f_X2_dividend N B Bs).2.1) ((f_X2_dividend N B Bs).2.2.1) 9) (cwV 1 hts gL_divides_X2_count rfl rfl rfl zy_X2_count ⟨(Nat.le_of_ble_eq_true rfl), (Nat.le_of_ble_eq_true rfl)⟩) (zx_preVq (A := (zfr (xmW cA x b rd X N ++ (bkW (cA 0) (b 0) B ++ (otW (cA 0) b Bs))))) (ci := 2) (q0 := 0) hK (hP.sub (ws' := xmW cA x b rd X ((f_X2_dividend N B Bs).2.1) ++ (bkW (cA 0) (b 0) ((f_X2_dividend N B Bs).2.2.1))) [0, 1, 2, 3, 4, 5, 6, 7, 8, 9, 10, 11, 12, 13, 14] rfl) (hD.sub (ws' := xmW cA x b rd X ((f_X2_dividend N B Bs).2.1) ++ (bkW (cA 0) (b 0) ((f_X2_dividend N B Bs).2.2.1))) [0, 1, 2, 3, 4, 5, 6, 7, 8, 9, 10, 11, 12, 13, 14] (by decide) rfl) hO hS (zD_fr (hD.sub (ws' := xmW cA x b rd X ((f_X2_dividend N B Bs).2.1) ++ (bkW (cA 0) (b 0) ((f_X2_dividend N B Bs).2.2.1))) [0, 1, 2, 3, 4, 5, 6, 7, 8, 9, 10, 11, 12, 13, 14] (by decide) rfl)) rfl rfl) rfl rfl hl.1 rfl (lv_room (Nat.le_of_ble_eq_true rfl)) dL_divides_83 ⟨Nat.le_of_ble_eq_true rfl, Nat.le_of_ble_eq_true rfl⟩) (zva_no ⟨⟨by decide, by decide⟩, trivial⟩) rfl ?_
          refine lv_iload hx hb dL_divides_86 (lv_at hl 4 rfl) ?_
          refine lv_iconst (v := 1) hx hb dL_divides_88 (by decide) ?_
          refine lv_iadd hx hb dL_divides_89 ?_
          refine lv_icmp_ne (tgt := 97) hx hb dL_divides_90 (by decide) (fun c_10 => by exact absurd (by subst q_y1_28 q_y0_28 hz_28; exact hf_90 c_2) c_10) (fun _ => ?_)
          refine lv_iconst (v := 1) hx hb dL_divides_93 (by decide) ?_
          refine lv_goto (tgt := 149) hx hb dL_divides_94 (by decide) ?_
          exact sel_67 ls (lv_sub hl [0, 1, 2, 3, 4, 5, 6] rfl)
      · have c_1 : ¬ 6 ≤ n := fun h9 => c_1 ((nI_leI (a := 6) (b := n) (by omega) (by omega)).mpr h9)
        refine lv_iload_n hx hb dL_divides_35 rfl (lv_at hl 4 rfl) ?_
        refine lv_aload_n hx hb dL_divides_36 rfl (lv_at hl 0 rfl) ?_
        refine lv_iload hx hb dL_divides_37 (lv_at hl 6 rfl) ?_
        refine zv_E (vx_runV (As := [.int (nI n)]) (rest := [.int y0_28]) ⟨hx, hb, hml, hown, hts⟩ (zk_X2_ifDivided l hfl D cA b rd x X N B (nI n)) (cwV 1 hts gL_divides_X2_ifDivided rfl rfl rfl zy_X2_ifDivided ⟨(Nat.le_of_ble_eq_true rfl), (Nat.le_of_ble_eq_true rfl)⟩) (zx_preVq (A := (zfr (xmW cA x b rd X N ++ (bkW (cA 0) (b 0) B ++ (otW (cA 0) b Bs))))) (ci := 2) (q0 := 0) hK (hP.sub (ws' := xmW cA x b rd X N ++ (bkW (cA 0) (b 0) B)) [0, 1, 2, 3, 4, 5, 6, 7, 8, 9, 10, 11, 12, 13, 14] rfl) (hD.sub (ws' := xmW cA x b rd X N ++ (bkW (cA 0) (b 0) B)) [0, 1, 2, 3, 4, 5, 6, 7, 8, 9, 10, 11, 12, 13, 14] (by decide) rfl) hO hS (zD_fr (hD.sub (ws' := xmW cA x b rd X N ++ (bkW (cA 0) (b 0) B)) [0, 1, 2, 3, 4, 5, 6, 7, 8, 9, 10, 11, 12, 13, 14] (by decide) rfl)) rfl rfl) rfl rfl hl.1 rfl (lv_room (Nat.le_of_ble_eq_true rfl)) dL_divides_39 ⟨Nat.le_of_ble_eq_true rfl, Nat.le_of_ble_eq_true rfl⟩) (zva_no ⟨⟨n, by omega, rfl⟩, trivial⟩) rfl ?_
        refine lv_iadd hx hb dL_divides_42 ?_
        refine lv_istore_n (lv' := [(1, .int (y0_28 + (f_X2_ifDivided B (nI n)))), (0, .ref (x 0)), (3, .int (f_X2_count N B 1)), (4, .int (f_X2_count N B 2)), (5, .int (f_X2_count N B 9)), (2, .int y1_28), (6, .int (nI n))]) hx hb dL_divides_43 rfl hl (by decide) rfl (fun ls hl => ?_)
        refine lv_iload_n hx hb dL_divides_44 rfl (lv_at hl 5 rfl) ?_
        refine lv_aload_n hx hb dL_divides_45 rfl (lv_at hl 1 rfl) ?_
        refine lv_iload hx hb dL_divides_46 (lv_at hl 6 rfl) ?_
        refine lv_iconst (v := 5) hx hb dL_divides_48 (by decide) ?_
        refine zv_E (vx_runV (As := [.int (nI n), .int 5]) (rest := [.int y1_28]) ⟨hx, hb, hml, hown, hts⟩ (zk_X2_memberOf l hfl D cA b rd x X N B (nI n) 5) (cwV 2 hts gL_divides_X2_memberOf rfl rfl rfl zy_X2_memberOf ⟨(Nat.le_of_ble_eq_true rfl), (Nat.le_of_ble_eq_true rfl)⟩) (zx_preVq (A := (zfr (xmW cA x b rd X N ++ (bkW (cA 0) (b 0) B ++ (otW (cA 0) b Bs))))) (ci := 2) (q0 := 0) hK (hP.sub (ws' := xmW cA x b rd X N ++ (bkW (cA 0) (b 0) B)) [0, 1, 2, 3, 4, 5, 6, 7, 8, 9, 10, 11, 12, 13, 14] rfl) (hD.sub (ws' := xmW cA x b rd X N ++ (bkW (cA 0) (b 0) B)) [0, 1, 2, 3, 4, 5, 6, 7, 8, 9, 10, 11, 12, 13, 14] (by decide) rfl) hO hS (zD_fr (hD.sub (ws' := xmW cA x b rd X N ++ (bkW (cA 0) (b 0) B)) [0, 1, 2, 3, 4, 5, 6, 7, 8, 9, 10, 11, 12, 13, 14] (by decide) rfl)) rfl rfl) rfl rfl hl.1 rfl (lv_room (Nat.le_of_ble_eq_true rfl)) dL_divides_49 ⟨Nat.le_of_ble_eq_true rfl, Nat.le_of_ble_eq_true rfl⟩) (zva_no ⟨⟨n, by omega, rfl⟩, ⟨by decide, by decide⟩, trivial⟩) rfl ?_
        refine lv_ior hx hb dL_divides_52 ?_
        refine lv_istore_n (lv' := [(2, .int (y1_28 ||| (f_X2_memberOf B (nI n) 5))), (1, .int (y0_28 + (f_X2_ifDivided B (nI n)))), (0, .ref (x 0)), (3, .int (f_X2_count N B 1)), (4, .int (f_X2_count N B 2)), (5, .int (f_X2_count N B 9)), (6, .int (nI n))]) hx hb dL_divides_53 rfl hl (by decide) rfl (fun ls hl => ?_)
        refine lv_iinc (v := nI (n + 1)) (lv' := [(6, .int (nI (n + 1))), (2, .int (y1_28 ||| (f_X2_memberOf B (nI n) 5))), (1, .int (y0_28 + (f_X2_ifDivided B (nI n)))), (0, .ref (x 0)), (3, .int (f_X2_count N B 1)), (4, .int (f_X2_count N B 2)), (5, .int (f_X2_count N B 9))]) hx hb dL_divides_54 hl (k := 6) rfl (by rw [show (Int32.ofInt 1) = nI 1 from by decide]; exact nI_add n 1) (by decide) rfl (fun ls hl => ?_)
        refine lv_goto (tgt := 28) hx hb dL_divides_57 (by decide) ?_
        exact ih_28 (n + 1) _ _ (by omega) (by omega) (by subst q_y1_28 q_y0_28; first | (simp -proj only [f_L_divides_28]; first | done | rfl; done) | rfl) (by subst q_y1_28 q_y0_28; first | (simp -proj only [f_L_divides_28]; first | done | rfl; done) | rfl) _ _ hP hD hS ls (lv_sub hl [3, 4, 5, 6, 2, 1, 0] rfl)
  exact loop_28 _ 0 _ _ (by omega) (Nat.lt_succ_self _) rfl rfl _ _ hP hD hS ls (lv_sub hl [6, 3, 2, 1, 5, 4, 0] rfl)

