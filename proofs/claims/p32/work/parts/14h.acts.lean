/-! the law: acts -/
theorem zy_L_acts : yL_acts.cls = RL ∧ yL_acts.cls ≠ "java/lang/invoke/MethodHandle" ∧ yL_acts.cls ≠ "java/lang/invoke/VarHandle" ∧ (parseMethodDescriptor yL_acts.desc).map (fun d => d.parameters.length) = some 3 := by decide +kernel
def f_L_acts_1031 (N : NK) (B : BK) (Bs : Nat → BK) (xx : Int32) (yy : Int32) : NK × BK × (Nat → BK) :=
  if (yy &&& 3) = 0 then
    (((f_X2_goBack N B Bs 0).2.1), ((f_X2_goBack N B Bs 0).2.2.1), ((f_X2_goBack N B Bs 0).2.2.2))
  else
    if (yy &&& 3) = 1 then
      (((f_X2_set N B Bs 1 (nI (1 + (zu ((yy : Int32) >>> (2 &&& 31)) 5)))).2.1), ((f_X2_set N B Bs 1 (nI (1 + (zu ((yy : Int32) >>> (2 &&& 31)) 5)))).2.2.1), ((f_X2_set N B Bs 1 (nI (1 + (zu ((yy : Int32) >>> (2 &&& 31)) 5)))).2.2.2))
    else
      (((f_X2_set N B Bs 0 (nI (zu ((yy : Int32) >>> (2 &&& 31)) 101))).2.1), ((f_X2_set N B Bs 0 (nI (zu ((yy : Int32) >>> (2 &&& 31)) 101))).2.2.1), ((f_X2_set N B Bs 0 (nI (zu ((yy : Int32) >>> (2 &&& 31)) 101))).2.2.2))
def f_L_acts_1026 (N : NK) (B : BK) (Bs : Nat → BK) (xx : Int32) (yy : Int32) : NK × BK × (Nat → BK) :=
  (((f_L_divides N B Bs).1), ((f_L_divides N B Bs).2.1), ((f_L_divides N B Bs).2.2))
def f_L_acts_911 (N : NK) (B : BK) (Bs : Nat → BK) (xx : Int32) (yy : Int32) (i0 : Int32) : Nat → Int32
  | 0 => i0
  | n + 1 =>
    let y0_911 : Int32 := f_L_acts_911 N B Bs xx yy i0 n
    if y0_911 = 0 then (0 : Int32) else if 100000000 < ((f_X2_memberOf B (nI n) 5) + (9 * (f_X2_memberOf B (nI n) 0))) then (0 : Int32) else 1
def f_L_acts_905 (N : NK) (B : BK) (Bs : Nat → BK) (xx : Int32) (yy : Int32) : NK × BK × (Nat → BK) :=
  let y0_911 : Int32 := f_L_acts_911 N B Bs xx yy 1 6
  if y0_911 = 0 then
    (((f_X2_set N B Bs 0 (yy &&& 63)).2.1), ((f_X2_set N B Bs 0 (yy &&& 63)).2.2.1), ((f_X2_set N B Bs 0 (yy &&& 63)).2.2.2))
  else
    (((f_X2_pass N B Bs 9).2.1), ((f_X2_pass N B Bs 9).2.2.1), ((f_X2_pass N B Bs 9).2.2.2))
def f_L_acts_900 (N : NK) (B : BK) (Bs : Nat → BK) (xx : Int32) (yy : Int32) : NK × BK × (Nat → BK) :=
  (((f_L_ends N B Bs).1), ((f_L_ends N B Bs).2.1), ((f_L_ends N B Bs).2.2))
def f_L_acts_775 (N : NK) (B : BK) (Bs : Nat → BK) (xx : Int32) (yy : Int32) : NK × BK × (Nat → BK) :=
  (((f_X2_repay N B Bs (nI (zm yy)) (zp B yy)).2.1), ((f_X2_repay N B Bs (nI (zm yy)) (zp B yy)).2.2.1), ((f_X2_repay N B Bs (nI (zm yy)) (zp B yy)).2.2.2))
def f_L_acts_595 (N : NK) (B : BK) (Bs : Nat → BK) (xx : Int32) (yy : Int32) : NK × BK × (Nat → BK) :=
  (((f_X2_borrow N B Bs (nI (zm yy)) (nI (za yy)) (nI (zw yy))).2.1), ((f_X2_borrow N B Bs (nI (zm yy)) (nI (za yy)) (nI (zw yy))).2.2.1), ((f_X2_borrow N B Bs (nI (zm yy)) (nI (za yy)) (nI (zw yy))).2.2.2))
def f_L_acts_489 (N : NK) (B : BK) (Bs : Nat → BK) (xx : Int32) (yy : Int32) : NK × BK × (Nat → BK) :=
  (((f_X2_unpledge N B Bs (nI (zm yy)) (nI (zo yy)) (nI (za yy))).2.1), ((f_X2_unpledge N B Bs (nI (zm yy)) (nI (zo yy)) (nI (za yy))).2.2.1), ((f_X2_unpledge N B Bs (nI (zm yy)) (nI (zo yy)) (nI (za yy))).2.2.2))
def f_L_acts_381 (N : NK) (B : BK) (Bs : Nat → BK) (xx : Int32) (yy : Int32) : NK × BK × (Nat → BK) :=
  (((f_X2_pledge N B Bs (nI (zm yy)) (nI (zo yy)) (nI (za yy))).2.1), ((f_X2_pledge N B Bs (nI (zm yy)) (nI (zo yy)) (nI (za yy))).2.2.1), ((f_X2_pledge N B Bs (nI (zm yy)) (nI (zo yy)) (nI (za yy))).2.2.2))
def f_L_acts_272 (N : NK) (B : BK) (Bs : Nat → BK) (xx : Int32) (yy : Int32) : NK × BK × (Nat → BK) :=
  (((f_X2_payOut N B Bs (nI (zm yy)) (nI (za yy))).2.1), ((f_X2_payOut N B Bs (nI (zm yy)) (nI (za yy))).2.2.1), ((f_X2_payOut N B Bs (nI (zm yy)) (nI (za yy))).2.2.2))
def f_L_acts_176 (N : NK) (B : BK) (Bs : Nat → BK) (xx : Int32) (yy : Int32) : NK × BK × (Nat → BK) :=
  (((f_X2_payIn N B Bs (nI (zm yy)) (nI (za yy))).2.1), ((f_X2_payIn N B Bs (nI (zm yy)) (nI (za yy))).2.2.1), ((f_X2_payIn N B Bs (nI (zm yy)) (nI (za yy))).2.2.2))
def f_L_acts (N : NK) (B : BK) (Bs : Nat → BK) (xx : Int32) (yy : Int32) : NK × BK × (Nat → BK) :=
  if (zu xx 16) = 0 then
    f_L_acts_176 N B Bs xx yy
  else
  if (zu xx 16) = 1 then
    f_L_acts_176 N B Bs xx yy
  else
  if (zu xx 16) = 2 then
    f_L_acts_176 N B Bs xx yy
  else
  if (zu xx 16) = 3 then
    f_L_acts_272 N B Bs xx yy
  else
  if (zu xx 16) = 4 then
    f_L_acts_381 N B Bs xx yy
  else
  if (zu xx 16) = 5 then
    f_L_acts_381 N B Bs xx yy
  else
  if (zu xx 16) = 6 then
    f_L_acts_489 N B Bs xx yy
  else
  if (zu xx 16) = 7 then
    f_L_acts_595 N B Bs xx yy
  else
  if (zu xx 16) = 8 then
    f_L_acts_595 N B Bs xx yy
  else
  if (zu xx 16) = 9 then
    f_L_acts_775 N B Bs xx yy
  else
  if (zu xx 16) = 10 then
    f_L_acts_775 N B Bs xx yy
  else
  if (zu xx 16) = 11 then
    f_L_acts_900 N B Bs xx yy
  else
  if (zu xx 16) = 12 then
    f_L_acts_900 N B Bs xx yy
  else
  if (zu xx 16) = 13 then
    f_L_acts_905 N B Bs xx yy
  else
  if (zu xx 16) = 14 then
    f_L_acts_1026 N B Bs xx yy
  else
    f_L_acts_1031 N B Bs xx yy

def zF_acts_1031 (X : BK) (N : NK) (B : BK) (Bs : Nat → BK) (yy : Int32) : Prop :=
  ((¬ ((yy &&& 3) = 0)) → (¬ ((yy &&& 3) = 1)) → (zstv 0 (nI (zu ((yy : Int32) >>> (2 &&& 31)) 101)))) ∧
  ((¬ ((yy &&& 3) = 0)) → (¬ ((yy &&& 3) = 1)) → (¬ (((f_X2_set N B Bs 0 (nI (zu ((yy : Int32) >>> (2 &&& 31)) 101))).1) < 0))) ∧
  ((¬ ((yy &&& 3) = 0)) → ((yy &&& 3) = 1) → (zstv 1 (nI (1 + (zu ((yy : Int32) >>> (2 &&& 31)) 5))))) ∧
  ((¬ ((yy &&& 3) = 0)) → ((yy &&& 3) = 1) → (¬ (((f_X2_set N B Bs 1 (nI (1 + (zu ((yy : Int32) >>> (2 &&& 31)) 5)))).1) ≤ 0))) ∧
  (((yy &&& 3) = 0) → (¬ X 0 (0 : Int32).toNatClampNeg = 0)) ∧
  (((yy &&& 3) = 0) → (((f_X2_goBack N B Bs 0).1) = (f_X2_count ((f_X2_goBack N B Bs 0).2.1) ((f_X2_goBack N B Bs 0).2.2.1) 4)))
def zF_acts_1026 (N : NK) (B : BK) (Bs : Nat → BK) : Prop :=
  ((zF_divides N B Bs))
def zF_acts_905 (N : NK) (B : BK) (Bs : Nat → BK) (xx : Int32) (yy : Int32) : Prop :=
  (((f_L_acts_911 N B Bs xx yy 1 6) = 0) → (zstv 0 (yy &&& 63))) ∧
  (((f_L_acts_911 N B Bs xx yy 1 6) = 0) → (¬ (((f_X2_set N B Bs 0 (yy &&& 63)).1) < 0))) ∧
  ((¬ ((f_L_acts_911 N B Bs xx yy 1 6) = 0)) → (¬ f_X0_canAddDays B 9 = 0)) ∧
  ((¬ ((f_L_acts_911 N B Bs xx yy 1 6) = 0)) → (((f_X2_pass N B Bs 9).1) = ((f_X2_count N B 8) + 9))) ∧
  ((¬ ((f_L_acts_911 N B Bs xx yy 1 6) = 0)) → ((f_X2_count ((f_X2_pass N B Bs 9).2.1) ((f_X2_pass N B Bs 9).2.2.1) 8) = ((f_X2_count N B 8) + 9)))
def zF_acts_900 (N : NK) (B : BK) (Bs : Nat → BK) : Prop :=
  ((zF_ends N B Bs))
def zF_acts_775 (N : NK) (B : BK) (Bs : Nat → BK) (yy : Int32) : Prop :=
  ((zrg (zp B yy) 1 9999)) ∧
  (((if ((f_X2_repay N B Bs (nI (zm yy)) (zp B yy)).1) = (-1) then (1 : Int32) else 0) = (if (zp B yy) ≤ (f_X2_memberOf B (nI (zm yy)) 6) then (0 : Int32) else 1))) ∧
  ((¬ (((f_X2_repay N B Bs (nI (zm yy)) (zp B yy)).1) = (-1))) → (((f_X2_repay N B Bs (nI (zm yy)) (zp B yy)).1) = ((f_X2_memberOf B (nI (zm yy)) 6) - (zp B yy)))) ∧
  ((¬ (((f_X2_repay N B Bs (nI (zm yy)) (zp B yy)).1) = (-1))) → ((f_X2_count ((f_X2_repay N B Bs (nI (zm yy)) (zp B yy)).2.1) ((f_X2_repay N B Bs (nI (zm yy)) (zp B yy)).2.2.1) 3) = ((f_X2_count N B 3) - (zp B yy)))) ∧
  ((¬ (((f_X2_repay N B Bs (nI (zm yy)) (zp B yy)).1) = (-1))) → ((f_X2_count ((f_X2_repay N B Bs (nI (zm yy)) (zp B yy)).2.1) ((f_X2_repay N B Bs (nI (zm yy)) (zp B yy)).2.2.1) 0) = ((f_X2_count N B 0) + (zp B yy)))) ∧
  ((¬ (((f_X2_repay N B Bs (nI (zm yy)) (zp B yy)).1) = (-1))) → ((f_X2_memberOf ((f_X2_repay N B Bs (nI (zm yy)) (zp B yy)).2.2.1) (nI (zm yy)) 6) = ((f_X2_repay N B Bs (nI (zm yy)) (zp B yy)).1)))
def zF_acts_595 (N : NK) (B : BK) (Bs : Nat → BK) (yy : Int32) : Prop :=
  ((((f_X2_borrow N B Bs (nI (zm yy)) (nI (za yy)) (nI (zw yy))).1) = (f_X2_whyNot B (nI (zm yy)) (nI (za yy))))) ∧
  (((f_X2_whyNot B (nI (zm yy)) (nI (za yy))) ≤ 0) → ((f_X2_memberOf ((f_X2_borrow N B Bs (nI (zm yy)) (nI (za yy)) (nI (zw yy))).2.2.1) (nI (zm yy)) 6) = (nI (za yy)))) ∧
  (((f_X2_whyNot B (nI (zm yy)) (nI (za yy))) ≤ 0) → (¬ ((nI (zw yy)) < (f_X2_weeksLeft ((f_X2_borrow N B Bs (nI (zm yy)) (nI (za yy)) (nI (zw yy))).2.2.1) (nI (zm yy)) 0)))) ∧
  (((f_X2_whyNot B (nI (zm yy)) (nI (za yy))) ≤ 0) → ((f_X2_count ((f_X2_borrow N B Bs (nI (zm yy)) (nI (za yy)) (nI (zw yy))).2.1) ((f_X2_borrow N B Bs (nI (zm yy)) (nI (za yy)) (nI (zw yy))).2.2.1) 1) = ((f_X2_count N B 1) + (((nI (za yy)) * (f_X2_setting B 0)) / 1000)))) ∧
  (((f_X2_whyNot B (nI (zm yy)) (nI (za yy))) ≤ 0) → ((f_X2_count ((f_X2_borrow N B Bs (nI (zm yy)) (nI (za yy)) (nI (zw yy))).2.1) ((f_X2_borrow N B Bs (nI (zm yy)) (nI (za yy)) (nI (zw yy))).2.2.1) 0) = (((f_X2_count N B 0) - (nI (za yy))) + (((nI (za yy)) * (f_X2_setting B 0)) / 1000)))) ∧
  (((f_X2_whyNot B (nI (zm yy)) (nI (za yy))) ≤ 0) → ((f_X2_count ((f_X2_borrow N B Bs (nI (zm yy)) (nI (za yy)) (nI (zw yy))).2.1) ((f_X2_borrow N B Bs (nI (zm yy)) (nI (za yy)) (nI (zw yy))).2.2.1) 5) = ((f_X2_count N B 5) + 1))) ∧
  (((f_X2_whyNot B (nI (zm yy)) (nI (za yy))) ≤ 0) → ((f_X2_memberOf ((f_X2_borrow N B Bs (nI (zm yy)) (nI (za yy)) (nI (zw yy))).2.2.1) (nI (zm yy)) 9) = 0)) ∧
  ((¬ ((f_X2_whyNot B (nI (zm yy)) (nI (za yy))) ≤ 0)) → ((f_X2_count ((f_X2_borrow N B Bs (nI (zm yy)) (nI (za yy)) (nI (zw yy))).2.1) ((f_X2_borrow N B Bs (nI (zm yy)) (nI (za yy)) (nI (zw yy))).2.2.1) 9) = ((f_X2_count N B 9) + 1))) ∧
  ((¬ ((f_X2_whyNot B (nI (zm yy)) (nI (za yy))) ≤ 0)) → ((f_X2_count ((f_X2_borrow N B Bs (nI (zm yy)) (nI (za yy)) (nI (zw yy))).2.1) ((f_X2_borrow N B Bs (nI (zm yy)) (nI (za yy)) (nI (zw yy))).2.2.1) 3) = (f_X2_count N B 3)))
def zF_acts_489 (N : NK) (B : BK) (Bs : Nat → BK) (yy : Int32) : Prop :=
  ((¬ (nI (zm yy)) = (nI (zo yy)))) ∧
  (((if ((f_X2_unpledge N B Bs (nI (zm yy)) (nI (zo yy)) (nI (za yy))).1) = 1 then (1 : Int32) else 0) = (if (nI (za yy)) ≤ (f_X2_pledged B (nI (zm yy)) (nI (zo yy))) then (0 : Int32) else 1))) ∧
  ((¬ (((f_X2_unpledge N B Bs (nI (zm yy)) (nI (zo yy)) (nI (za yy))).1) < 0))) ∧
  ((¬ (2 < ((f_X2_unpledge N B Bs (nI (zm yy)) (nI (zo yy)) (nI (za yy))).1)))) ∧
  (((f_X2_pledged ((f_X2_unpledge N B Bs (nI (zm yy)) (nI (zo yy)) (nI (za yy))).2.2.1) (nI (zm yy)) (nI (zo yy))) = (if ((f_X2_unpledge N B Bs (nI (zm yy)) (nI (zo yy)) (nI (za yy))).1) = 0 then ((f_X2_pledged B (nI (zm yy)) (nI (zo yy))) - (nI (za yy)) : Int32) else f_X2_pledged B (nI (zm yy)) (nI (zo yy))))) ∧
  ((¬ ((f_X2_memberOf ((f_X2_unpledge N B Bs (nI (zm yy)) (nI (zo yy)) (nI (za yy))).2.2.1) (nI (zo yy)) 3) < (f_X2_memberOf ((f_X2_unpledge N B Bs (nI (zm yy)) (nI (zo yy)) (nI (za yy))).2.2.1) (nI (zo yy)) 6))))
def zF_acts_381 (N : NK) (B : BK) (Bs : Nat → BK) (yy : Int32) : Prop :=
  (((if ((f_X2_pledge N B Bs (nI (zm yy)) (nI (zo yy)) (nI (za yy))).1) = (-1) then (1 : Int32) else 0) = (if (nI (za yy)) ≤ (f_X2_memberOf B (nI (zm yy)) 4) then (0 : Int32) else 1))) ∧
  ((¬ (((f_X2_pledge N B Bs (nI (zm yy)) (nI (zo yy)) (nI (za yy))).1) = (-1))) → (((f_X2_pledge N B Bs (nI (zm yy)) (nI (zo yy)) (nI (za yy))).1) = ((f_X2_pledged B (nI (zm yy)) (nI (zo yy))) + (nI (za yy))))) ∧
  ((¬ (((f_X2_pledge N B Bs (nI (zm yy)) (nI (zo yy)) (nI (za yy))).1) = (-1))) → ((f_X2_pledged ((f_X2_pledge N B Bs (nI (zm yy)) (nI (zo yy)) (nI (za yy))).2.2.1) (nI (zm yy)) (nI (zo yy))) = ((f_X2_pledge N B Bs (nI (zm yy)) (nI (zo yy)) (nI (za yy))).1))) ∧
  ((((f_X2_pledge N B Bs (nI (zm yy)) (nI (zo yy)) (nI (za yy))).1) = (-1)) → ((f_X2_pledged ((f_X2_pledge N B Bs (nI (zm yy)) (nI (zo yy)) (nI (za yy))).2.2.1) (nI (zm yy)) (nI (zo yy))) = (f_X2_pledged B (nI (zm yy)) (nI (zo yy))))) ∧
  ((((f_X2_pledge N B Bs (nI (zm yy)) (nI (zo yy)) (nI (za yy))).1) = (-1)) → ((f_X2_count ((f_X2_pledge N B Bs (nI (zm yy)) (nI (zo yy)) (nI (za yy))).2.1) ((f_X2_pledge N B Bs (nI (zm yy)) (nI (zo yy)) (nI (za yy))).2.2.1) 9) = ((f_X2_count N B 9) + 1)))
def zF_acts_272 (N : NK) (B : BK) (Bs : Nat → BK) (yy : Int32) : Prop :=
  (((if ((f_X2_payOut N B Bs (nI (zm yy)) (nI (za yy))).1) = 1 then (1 : Int32) else 0) = (if (nI (za yy)) ≤ (f_X2_memberOf B (nI (zm yy)) 4) then (0 : Int32) else 1))) ∧
  ((¬ (((f_X2_payOut N B Bs (nI (zm yy)) (nI (za yy))).1) < 0))) ∧
  ((¬ (2 < ((f_X2_payOut N B Bs (nI (zm yy)) (nI (za yy))).1)))) ∧
  ((¬ (((f_X2_payOut N B Bs (nI (zm yy)) (nI (za yy))).1) = 0)) → ((f_X2_count ((f_X2_payOut N B Bs (nI (zm yy)) (nI (za yy))).2.1) ((f_X2_payOut N B Bs (nI (zm yy)) (nI (za yy))).2.2.1) 9) = ((f_X2_count N B 9) + 1))) ∧
  ((¬ (((f_X2_payOut N B Bs (nI (zm yy)) (nI (za yy))).1) = 0)) → ((f_X2_count ((f_X2_payOut N B Bs (nI (zm yy)) (nI (za yy))).2.1) ((f_X2_payOut N B Bs (nI (zm yy)) (nI (za yy))).2.2.1) 0) = (f_X2_count N B 0))) ∧
  ((((f_X2_payOut N B Bs (nI (zm yy)) (nI (za yy))).1) = 0) → ((f_X2_count ((f_X2_payOut N B Bs (nI (zm yy)) (nI (za yy))).2.1) ((f_X2_payOut N B Bs (nI (zm yy)) (nI (za yy))).2.2.1) 0) = ((f_X2_count N B 0) - (nI (za yy))))) ∧
  ((((f_X2_payOut N B Bs (nI (zm yy)) (nI (za yy))).1) = 0) → ((f_X2_count ((f_X2_payOut N B Bs (nI (zm yy)) (nI (za yy))).2.1) ((f_X2_payOut N B Bs (nI (zm yy)) (nI (za yy))).2.2.1) 2) = ((f_X2_count N B 2) - (nI (za yy)))))
def zF_acts_176 (N : NK) (B : BK) (Bs : Nat → BK) (yy : Int32) : Prop :=
  ((((f_X2_memberOf B (nI (zm yy)) 0) + (nI (za yy))) ≤ 90000) → (((f_X2_payIn N B Bs (nI (zm yy)) (nI (za yy))).1) = ((f_X2_memberOf B (nI (zm yy)) 0) + (nI (za yy))))) ∧
  ((((f_X2_memberOf B (nI (zm yy)) 0) + (nI (za yy))) ≤ 90000) → ((f_X2_count ((f_X2_payIn N B Bs (nI (zm yy)) (nI (za yy))).2.1) ((f_X2_payIn N B Bs (nI (zm yy)) (nI (za yy))).2.2.1) 0) = ((f_X2_count N B 0) + (nI (za yy))))) ∧
  ((((f_X2_memberOf B (nI (zm yy)) 0) + (nI (za yy))) ≤ 90000) → ((f_X2_count ((f_X2_payIn N B Bs (nI (zm yy)) (nI (za yy))).2.1) ((f_X2_payIn N B Bs (nI (zm yy)) (nI (za yy))).2.2.1) 2) = ((f_X2_count N B 2) + (nI (za yy))))) ∧
  ((¬ (((f_X2_memberOf B (nI (zm yy)) 0) + (nI (za yy))) ≤ 90000)) → (((f_X2_payIn N B Bs (nI (zm yy)) (nI (za yy))).1) = (-1))) ∧
  ((¬ (((f_X2_memberOf B (nI (zm yy)) 0) + (nI (za yy))) ≤ 90000)) → ((f_X2_count ((f_X2_payIn N B Bs (nI (zm yy)) (nI (za yy))).2.1) ((f_X2_payIn N B Bs (nI (zm yy)) (nI (za yy))).2.2.1) 9) = ((f_X2_count N B 9) + 1)))
def zF_acts (X : BK) (N : NK) (B : BK) (Bs : Nat → BK) (xx : Int32) (yy : Int32) : Prop :=
  zF_acts_1031 X N B Bs yy ∧
  zF_acts_1026 N B Bs ∧
  zF_acts_905 N B Bs xx yy ∧
  zF_acts_900 N B Bs ∧
  zF_acts_775 N B Bs yy ∧
  zF_acts_595 N B Bs yy ∧
  zF_acts_489 N B Bs yy ∧
  zF_acts_381 N B Bs yy ∧
  zF_acts_272 N B Bs yy ∧
  zF_acts_176 N B Bs yy
set_option maxHeartbeats 40000000 in
set_option maxRecDepth 100000 in
theorem zc_L_acts (l : Launch) (hfl : l.stackTraces = false) (D : va_G) (cA : Nat → ClassId) (b : Nat → Nat → Nat) (rd : Nat) (x : Nat → Nat) (X : BK) (N : NK) (B : BK) (Bs : Nat → BK) (xx : Int32) (yy : Int32) (hpm : zpm N) (hsv2 : N 0 0 ≤ 6) (hF : zF_acts X N B Bs xx yy) : Met l yL_acts wsL_acts (zrx 9 163 6 36) (zPx D cA [.ref (x 0), .int xx, .int yy] (xmW cA x b rd X N ++ (bkW (cA 0) (b 0) B ++ (otW (cA 0) b Bs)))) (zM D (xmW cA x b rd X N ++ (bkW (cA 0) (b 0) B ++ (otW (cA 0) b Bs))) (xmW cA x b rd X ((f_L_acts N B Bs xx yy).1) ++ (bkW (cA 0) (b 0) ((f_L_acts N B Bs xx yy).2.1) ++ (otW (cA 0) b ((f_L_acts N B Bs xx yy).2.2)))) (some (.int 1))) 6 36 (zfr (xmW cA x b rd X N ++ (bkW (cA 0) (b 0) B ++ (otW (cA 0) b Bs)))) := by
  obtain ⟨hF_1031, hF_1026, hF_905, hF_900, hF_775, hF_595, hF_489, hF_381, hF_272, hF_176⟩ := hF
  refine Met.ofW (cc := cL_acts) (maxL := 29) (ret := (some .boolean)) (by decide) rfl ?_
  intro p e s m args below meth c s₁ Bd hml hv
  obtain ⟨rfl, hP, hK, hD0, hO⟩ := hv
  have hx := Bd.exec
  have hb := Bd.bytes
  have hr := Bd.returns
  have hts := atoms_spec (ws := wsL_acts) Bd.pre
  have hown : s.vm.findClass RL = some m.cls := findClass_of_methodNamed Bd.named
  have hlocks := Bd.notSynchronized
  have hD := z_Dfr hD0
  have hS : va_S (zfr (xmW cA x b rd X N ++ (bkW (cA 0) (b 0) B ++ (otW (cA 0) b Bs)))) s.heap s.heap [] := va_S.rf
  have hl := lv_entry ([.ref (x 0), .int xx, .int yy]) (n := 29) (Nat.le_of_ble_eq_true rfl)
  rw [lg_entry_eq]
  generalize (lg_sl ([.ref (x 0), .int xx, .int yy]) ++ List.replicate (29 - (lg_sl ([.ref (x 0), .int xx, .int yy])).length) Slot.unset).toArray = ls at hl ⊢
  have hl : lv_has ls 29 [(0, .ref (x 0)), (1, .int xx), (2, .int yy)] := hl
  have hm9 := zm_lt yy; have ho9 := zo_lt yy; have ha9 := za_bd yy; have hw9 := zw_bd yy
  have join_1031 : f_L_acts N B Bs xx yy = f_L_acts_1031 N B Bs xx yy → ∀ (H : Heap) (locs : List Loc), va_P D vwCl (xmW cA x b rd X N ++ (bkW (cA 0) (b 0) B ++ (otW (cA 0) b Bs))) H → va_D (zfr (xmW cA x b rd X N ++ (bkW (cA 0) (b 0) B ++ (otW (cA 0) b Bs)))) (xmW cA x b rd X N ++ (bkW (cA 0) (b 0) B ++ (otW (cA 0) b Bs))) → va_S (zfr (xmW cA x b rd X N ++ (bkW (cA 0) (b 0) B ++ (otW (cA 0) b Bs)))) s.heap H locs → ∀ (ls : Array Slot), lv_has ls 29 [(0, .ref (x 0)), (2, .int yy), (3, .int (nI (zm yy))), (4, .int (nI (zo yy))), (5, .int (nI (za yy))), (6, .int (f_X2_count N B 0)), (7, .int (f_X2_count N B 1)), (8, .int (f_X2_count N B 2)), (9, .int (f_X2_count N B 3)), (10, .int (f_X2_count N B 9)), (11, .int (f_X2_memberOf B (nI (zm yy)) 4))] → W p l e (headSpec wsL_acts (zrx 9 163 6 36)).room s m ([.ref (x 0), .int xx, .int yy] : List Value).toArray below meth c H locs 0 0 (MQ below (zM D (xmW cA x b rd X N ++ (bkW (cA 0) (b 0) B ++ (otW (cA 0) b Bs))) (xmW cA x b rd X ((f_L_acts N B Bs xx yy).1) ++ (bkW (cA 0) (b 0) ((f_L_acts N B Bs xx yy).2.1) ++ (otW (cA 0) b ((f_L_acts N B Bs xx yy).2.2)))) (some (.int 1))) ([.ref (x 0), .int xx, .int yy] : List Value).toArray s 6 36 (zfr (xmW cA x b rd X N ++ (bkW (cA 0) (b 0) B ++ (otW (cA 0) b Bs))))) (F0 m 1031 ls []) := by
    intro hres_1031 H locs hP hD hS ls hl
    obtain ⟨hf_1100, hf_1103, hf_1076, hf_1079, hf_1039, hf_1047⟩ := hF_1031
    refine lv_iload_n hx hb dL_acts_1031 rfl (lv_at hl 1 rfl) ?_
    refine lv_iconst (v := 3) hx hb dL_acts_1032 (by decide) ?_
    refine lv_iand hx hb dL_acts_1033 ?_
    refine lv_if_ne (tgt := 1058) hx hb dL_acts_1034 (by decide) (fun c_1 => ?_) (fun c_1 => ?_)
    · refine lv_iload_n hx hb dL_acts_1058 rfl (lv_at hl 1 rfl) ?_
      refine lv_iconst (v := 3) hx hb dL_acts_1059 (by decide) ?_
      refine lv_iand hx hb dL_acts_1060 ?_
      refine lv_iconst (v := 1) hx hb dL_acts_1061 (by decide) ?_
      refine lv_icmp_ne (tgt := 1090) hx hb dL_acts_1062 (by decide) (fun c_2 => ?_) (fun c_2 => ?_)
      · refine lv_aload_n hx hb dL_acts_1090 rfl (lv_at hl 0 rfl) ?_
        refine lv_iconst (v := 0) hx hb dL_acts_1091 (by decide) ?_
        refine lv_iload_n hx hb dL_acts_1092 rfl (lv_at hl 1 rfl) ?_
        refine lv_iconst (v := 2) hx hb dL_acts_1093 (by decide) ?_
        refine lv_ishr hx hb dL_acts_1094 ?_
        refine lv_bipush (v := 101) hx hb dL_acts_1095 (by decide) ?_
        refine z_E (va_runS (As := [.int ((yy : Int32) >>> (2 &&& 31)), .int 101]) (rest := [.int 0, .ref (x 0)]) ⟨hx, hb, hml, hown, hts⟩ (zc_L_up l D cA ((yy : Int32) >>> (2 &&& 31)) 101 (zu_ne (n := 101) (by decide) (by decide))) (va_cwS 2 hts gL_acts_L_up rfl rfl rfl zy_L_up.2 ⟨(Nat.le_of_ble_eq_true rfl), (Nat.le_of_ble_eq_true rfl)⟩) (z_preS hK z_P0 (z_D0 (A := fun _ => True))) rfl rfl hl.1 rfl (lv_room (Nat.le_of_ble_eq_true rfl)) dL_acts_1097 ⟨Nat.le_of_ble_eq_true rfl, Nat.le_of_ble_eq_true rfl⟩) rfl ?_
        refine z_top (y := nI (zu ((yy : Int32) >>> (2 &&& 31)) 101)) (zu_eq ((yy : Int32) >>> (2 &&& 31)) (n := 101) (by decide) (by decide)) ?_
        have hu_1097 := zu_lt ((yy : Int32) >>> (2 &&& 31)) (n := 101) (by decide) (by decide)
        refine zv_M (X := ([] : va_W)) (Z := ([] : va_W)) (vx_runV (As := [.int 0, .int (nI (zu ((yy : Int32) >>> (2 &&& 31)) 101))]) (rest := []) ⟨hx, hb, hml, hown, hts⟩ (zk_X2_set l hfl D cA b rd x X N B Bs 0 (nI (zu ((yy : Int32) >>> (2 &&& 31)) 101)) hpm hsv2) (cwV 2 hts gL_acts_X2_set rfl rfl rfl zy_X2_set ⟨(Nat.le_of_ble_eq_true rfl), (Nat.le_of_ble_eq_true rfl)⟩) (zx_preVq (A := (zfr (xmW cA x b rd X N ++ (bkW (cA 0) (b 0) B ++ (otW (cA 0) b Bs))))) (ci := 2) (q0 := 0) hK hP hD hO hS (zD_fr hD) rfl rfl) rfl rfl hl.1 rfl (lv_room (Nat.le_of_ble_eq_true rfl)) dL_acts_1100 ⟨Nat.le_of_ble_eq_true rfl, Nat.le_of_ble_eq_true rfl⟩) (zva_no ⟨⟨0, by decide, rfl⟩, (hf_1100 c_1 c_2), trivial⟩) hP hD hS (z_adr2 xmW_adr (z_adr2 bkW_adr otW_adr)) rfl (fun H locs hP9 hD9 hS9 => ?_)
        replace hP : va_P D vwCl (xmW cA x b rd X ((f_X2_set N B Bs 0 (nI (zu ((yy : Int32) >>> (2 &&& 31)) 101))).2.1) ++ (bkW (cA 0) (b 0) ((f_X2_set N B Bs 0 (nI (zu ((yy : Int32) >>> (2 &&& 31)) 101))).2.2.1) ++ (otW (cA 0) b ((f_X2_set N B Bs 0 (nI (zu ((yy : Int32) >>> (2 &&& 31)) 101))).2.2.2)))) H := hP9
        replace hD : va_D _ (xmW cA x b rd X ((f_X2_set N B Bs 0 (nI (zu ((yy : Int32) >>> (2 &&& 31)) 101))).2.1) ++ (bkW (cA 0) (b 0) ((f_X2_set N B Bs 0 (nI (zu ((yy : Int32) >>> (2 &&& 31)) 101))).2.2.1) ++ (otW (cA 0) b ((f_X2_set N B Bs 0 (nI (zu ((yy : Int32) >>> (2 &&& 31)) 101))).2.2.2)))) := hD9
        replace hS := hS9
        clear hP9 hD9 hS9
        refine lv_if_lt (tgt := 1110) hx hb dL_acts_1103 (by decide) (fun c_3 => by exact absurd c_3 (hf_1103 c_1 c_2)) (fun _ => ?_)
        refine lv_iconst (v := 1) hx hb dL_acts_1106 (by decide) ?_
        refine lv_goto (tgt := 1111) hx hb dL_acts_1107 (by decide) ?_
        refine W.widen (k := 6) (n := 36) (Nat.le_of_ble_eq_true rfl) (Nat.le_of_ble_eq_true rfl) ?_
        exact z_zretM (w1 := xmW cA x b rd X ((f_X2_set N B Bs 0 (nI (zu ((yy : Int32) >>> (2 &&& 31)) 101))).2.1) ++ (bkW (cA 0) (b 0) ((f_X2_set N B Bs 0 (nI (zu ((yy : Int32) >>> (2 &&& 31)) 101))).2.2.1) ++ (otW (cA 0) b ((f_X2_set N B Bs 0 (nI (zu ((yy : Int32) >>> (2 &&& 31)) 101))).2.2.2)))) hx hb hr hlocks dL_acts_1111 hP hS rfl rfl (by rw [hres_1031]; simp -proj only [f_L_acts_1031, if_neg c_1, if_neg c_2]; first | done | rfl)
      · refine lv_aload_n hx hb dL_acts_1065 rfl (lv_at hl 0 rfl) ?_
        refine lv_iconst (v := 1) hx hb dL_acts_1066 (by decide) ?_
        refine lv_iconst (v := 1) hx hb dL_acts_1067 (by decide) ?_
        refine lv_iload_n hx hb dL_acts_1068 rfl (lv_at hl 1 rfl) ?_
        refine lv_iconst (v := 2) hx hb dL_acts_1069 (by decide) ?_
        refine lv_ishr hx hb dL_acts_1070 ?_
        refine lv_iconst (v := 5) hx hb dL_acts_1071 (by decide) ?_
        refine z_E (va_runS (As := [.int ((yy : Int32) >>> (2 &&& 31)), .int 5]) (rest := [.int 1, .int 1, .ref (x 0)]) ⟨hx, hb, hml, hown, hts⟩ (zc_L_up l D cA ((yy : Int32) >>> (2 &&& 31)) 5 (zu_ne (n := 5) (by decide) (by decide))) (va_cwS 2 hts gL_acts_L_up rfl rfl rfl zy_L_up.2 ⟨(Nat.le_of_ble_eq_true rfl), (Nat.le_of_ble_eq_true rfl)⟩) (z_preS hK z_P0 (z_D0 (A := fun _ => True))) rfl rfl hl.1 rfl (lv_room (Nat.le_of_ble_eq_true rfl)) dL_acts_1072 ⟨Nat.le_of_ble_eq_true rfl, Nat.le_of_ble_eq_true rfl⟩) rfl ?_
        refine z_top (y := nI (zu ((yy : Int32) >>> (2 &&& 31)) 5)) (zu_eq ((yy : Int32) >>> (2 &&& 31)) (n := 5) (by decide) (by decide)) ?_
        have hu_1072 := zu_lt ((yy : Int32) >>> (2 &&& 31)) (n := 5) (by decide) (by decide)
        refine lv_iadd hx hb dL_acts_1075 ?_
        refine z_top (nI_add 1 (zu ((yy : Int32) >>> (2 &&& 31)) 5)) ?_
        refine zv_M (X := ([] : va_W)) (Z := ([] : va_W)) (vx_runV (As := [.int 1, .int (nI (1 + (zu ((yy : Int32) >>> (2 &&& 31)) 5)))]) (rest := []) ⟨hx, hb, hml, hown, hts⟩ (zk_X2_set l hfl D cA b rd x X N B Bs 1 (nI (1 + (zu ((yy : Int32) >>> (2 &&& 31)) 5))) hpm hsv2) (cwV 2 hts gL_acts_X2_set rfl rfl rfl zy_X2_set ⟨(Nat.le_of_ble_eq_true rfl), (Nat.le_of_ble_eq_true rfl)⟩) (zx_preVq (A := (zfr (xmW cA x b rd X N ++ (bkW (cA 0) (b 0) B ++ (otW (cA 0) b Bs))))) (ci := 2) (q0 := 0) hK hP hD hO hS (zD_fr hD) rfl rfl) rfl rfl hl.1 rfl (lv_room (Nat.le_of_ble_eq_true rfl)) dL_acts_1076 ⟨Nat.le_of_ble_eq_true rfl, Nat.le_of_ble_eq_true rfl⟩) (zva_no ⟨⟨1, by decide, rfl⟩, (hf_1076 c_1 c_2), trivial⟩) hP hD hS (z_adr2 xmW_adr (z_adr2 bkW_adr otW_adr)) rfl (fun H locs hP9 hD9 hS9 => ?_)
        replace hP : va_P D vwCl (xmW cA x b rd X ((f_X2_set N B Bs 1 (nI (1 + (zu ((yy : Int32) >>> (2 &&& 31)) 5)))).2.1) ++ (bkW (cA 0) (b 0) ((f_X2_set N B Bs 1 (nI (1 + (zu ((yy : Int32) >>> (2 &&& 31)) 5)))).2.2.1) ++ (otW (cA 0) b ((f_X2_set N B Bs 1 (nI (1 + (zu ((yy : Int32) >>> (2 &&& 31)) 5)))).2.2.2)))) H := hP9
        replace hD : va_D _ (xmW cA x b rd X ((f_X2_set N B Bs 1 (nI (1 + (zu ((yy : Int32) >>> (2 &&& 31)) 5)))).2.1) ++ (bkW (cA 0) (b 0) ((f_X2_set N B Bs 1 (nI (1 + (zu ((yy : Int32) >>> (2 &&& 31)) 5)))).2.2.1) ++ (otW (cA 0) b ((f_X2_set N B Bs 1 (nI (1 + (zu ((yy : Int32) >>> (2 &&& 31)) 5)))).2.2.2)))) := hD9
        replace hS := hS9
        clear hP9 hD9 hS9
        refine lv_if_le (tgt := 1086) hx hb dL_acts_1079 (by decide) (fun c_4 => by exact absurd c_4 (hf_1079 c_1 c_2)) (fun _ => ?_)
        refine lv_iconst (v := 1) hx hb dL_acts_1082 (by decide) ?_
        refine lv_goto (tgt := 1111) hx hb dL_acts_1083 (by decide) ?_
        refine W.widen (k := 6) (n := 36) (Nat.le_of_ble_eq_true rfl) (Nat.le_of_ble_eq_true rfl) ?_
        exact z_zretM (w1 := xmW cA x b rd X ((f_X2_set N B Bs 1 (nI (1 + (zu ((yy : Int32) >>> (2 &&& 31)) 5)))).2.1) ++ (bkW (cA 0) (b 0) ((f_X2_set N B Bs 1 (nI (1 + (zu ((yy : Int32) >>> (2 &&& 31)) 5)))).2.2.1) ++ (otW (cA 0) b ((f_X2_set N B Bs 1 (nI (1 + (zu ((yy : Int32) >>> (2 &&& 31)) 5)))).2.2.2)))) hx hb hr hlocks dL_acts_1111 hP hS rfl rfl (by rw [hres_1031]; simp -proj only [f_L_acts_1031, if_neg c_1, if_pos c_2]; first | done | rfl)
    · refine lv_aload_n hx hb dL_acts_1037 rfl (lv_at hl 0 rfl) ?_
      refine lv_iconst (v := 0) hx hb dL_acts_1038 (by decide) ?_
      refine zv_M (X := ([] : va_W)) (Z := ([] : va_W)) (vx_runV (As := [.int 0]) (rest := []) ⟨hx, hb, hml, hown, hts⟩ (zk_X2_goBack l hfl D cA b rd x X N B Bs 0 hpm hsv2) (cwV 1 hts gL_acts_X2_goBack rfl rfl rfl zy_X2_goBack ⟨(Nat.le_of_ble_eq_true rfl), (Nat.le_of_ble_eq_true rfl)⟩) (zx_preVq (A := (zfr (xmW cA x b rd X N ++ (bkW (cA 0) (b 0) B ++ (otW (cA 0) b Bs))))) (ci := 2) (q0 := 0) hK hP hD hO hS (zD_fr hD) rfl rfl) rfl rfl hl.1 rfl (lv_room (Nat.le_of_ble_eq_true rfl)) dL_acts_1039 ⟨Nat.le_of_ble_eq_true rfl, Nat.le_of_ble_eq_true rfl⟩) (zva_no ⟨⟨by decide, by decide⟩, (hf_1039 c_1), trivial⟩) hP hD hS (z_adr2 xmW_adr (z_adr2 bkW_adr otW_adr)) rfl (fun H locs hP9 hD9 hS9 => ?_)
      replace hP : va_P D vwCl (xmW cA x b rd X ((f_X2_goBack N B Bs 0).2.1) ++ (bkW (cA 0) (b 0) ((f_X2_goBack N B Bs 0).2.2.1) ++ (otW (cA 0) b ((f_X2_goBack N B Bs 0).2.2.2)))) H := hP9
      replace hD : va_D _ (xmW cA x b rd X ((f_X2_goBack N B Bs 0).2.1) ++ (bkW (cA 0) (b 0) ((f_X2_goBack N B Bs 0).2.2.1) ++ (otW (cA 0) b ((f_X2_goBack N B Bs 0).2.2.2)))) := hD9
      replace hS := hS9
      clear hP9 hD9 hS9
      refine lv_aload_n hx hb dL_acts_1042 rfl (lv_at hl 0 rfl) ?_
      refine lv_iconst (v := 4) hx hb dL_acts_1043 (by decide) ?_
      refine zv_E (vx_runV (As := [.int 4]) (rest := [.int ((f_X2_goBack N B Bs 0).1)]) ⟨hx, hb, hml, hown, hts⟩ (zk_X2_count l hfl D cA b rd x X ((f_X2_goBack N B Bs 0).2.1) ((f_X2_goBack N B Bs 0).2.2.1) 4) (cwV 1 hts gL_acts_X2_count rfl rfl rfl zy_X2_count ⟨(Nat.le_of_ble_eq_true rfl), (Nat.le_of_ble_eq_true rfl)⟩) (zx_preVq (A := (zfr (xmW cA x b rd X N ++ (bkW (cA 0) (b 0) B ++ (otW (cA 0) b Bs))))) (ci := 2) (q0 := 0) hK (hP.sub (ws' := xmW cA x b rd X ((f_X2_goBack N B Bs 0).2.1) ++ (bkW (cA 0) (b 0) ((f_X2_goBack N B Bs 0).2.2.1))) [0, 1, 2, 3, 4, 5, 6, 7, 8, 9, 10, 11, 12, 13, 14] rfl) (hD.sub (ws' := xmW cA x b rd X ((f_X2_goBack N B Bs 0).2.1) ++ (bkW (cA 0) (b 0) ((f_X2_goBack N B Bs 0).2.2.1))) [0, 1, 2, 3, 4, 5, 6, 7, 8, 9, 10, 11, 12, 13, 14] (by decide) rfl) hO hS (zD_fr (hD.sub (ws' := xmW cA x b rd X ((f_X2_goBack N B Bs 0).2.1) ++ (bkW (cA 0) (b 0) ((f_X2_goBack N B Bs 0).2.2.1))) [0, 1, 2, 3, 4, 5, 6, 7, 8, 9, 10, 11, 12, 13, 14] (by decide) rfl)) rfl rfl) rfl rfl hl.1 rfl (lv_room (Nat.le_of_ble_eq_true rfl)) dL_acts_1044 ⟨Nat.le_of_ble_eq_true rfl, Nat.le_of_ble_eq_true rfl⟩) (zva_no ⟨⟨by decide, by decide⟩, trivial⟩) rfl ?_
      refine lv_icmp_ne (tgt := 1054) hx hb dL_acts_1047 (by decide) (fun c_5 => by exact absurd (hf_1047 c_1) c_5) (fun _ => ?_)
      refine lv_iconst (v := 1) hx hb dL_acts_1050 (by decide) ?_
      refine lv_goto (tgt := 1111) hx hb dL_acts_1051 (by decide) ?_
      refine W.widen (k := 6) (n := 36) (Nat.le_of_ble_eq_true rfl) (Nat.le_of_ble_eq_true rfl) ?_
      exact z_zretM (w1 := xmW cA x b rd X ((f_X2_goBack N B Bs 0).2.1) ++ (bkW (cA 0) (b 0) ((f_X2_goBack N B Bs 0).2.2.1) ++ (otW (cA 0) b ((f_X2_goBack N B Bs 0).2.2.2)))) hx hb hr hlocks dL_acts_1111 hP hS rfl rfl (by rw [hres_1031]; simp -proj only [f_L_acts_1031, if_pos c_1]; first | done | rfl)
  have join_1026 : f_L_acts N B Bs xx yy = f_L_acts_1026 N B Bs xx yy → ∀ (H : Heap) (locs : List Loc), va_P D vwCl (xmW cA x b rd X N ++ (bkW (cA 0) (b 0) B ++ (otW (cA 0) b Bs))) H → va_D (zfr (xmW cA x b rd X N ++ (bkW (cA 0) (b 0) B ++ (otW (cA 0) b Bs)))) (xmW cA x b rd X N ++ (bkW (cA 0) (b 0) B ++ (otW (cA 0) b Bs))) → va_S (zfr (xmW cA x b rd X N ++ (bkW (cA 0) (b 0) B ++ (otW (cA 0) b Bs)))) s.heap H locs → ∀ (ls : Array Slot), lv_has ls 29 [(0, .ref (x 0)), (2, .int yy), (3, .int (nI (zm yy))), (4, .int (nI (zo yy))), (5, .int (nI (za yy))), (6, .int (f_X2_count N B 0)), (7, .int (f_X2_count N B 1)), (8, .int (f_X2_count N B 2)), (9, .int (f_X2_count N B 3)), (10, .int (f_X2_count N B 9)), (11, .int (f_X2_memberOf B (nI (zm yy)) 4))] → W p l e (headSpec wsL_acts (zrx 9 163 6 36)).room s m ([.ref (x 0), .int xx, .int yy] : List Value).toArray below meth c H locs 0 0 (MQ below (zM D (xmW cA x b rd X N ++ (bkW (cA 0) (b 0) B ++ (otW (cA 0) b Bs))) (xmW cA x b rd X ((f_L_acts N B Bs xx yy).1) ++ (bkW (cA 0) (b 0) ((f_L_acts N B Bs xx yy).2.1) ++ (otW (cA 0) b ((f_L_acts N B Bs xx yy).2.2)))) (some (.int 1))) ([.ref (x 0), .int xx, .int yy] : List Value).toArray s 6 36 (zfr (xmW cA x b rd X N ++ (bkW (cA 0) (b 0) B ++ (otW (cA 0) b Bs))))) (F0 m 1026 ls []) := by
    intro hres_1026 H locs hP hD hS ls hl
    obtain hf_1027 := hF_1026
    refine lv_aload_n hx hb dL_acts_1026 rfl (lv_at hl 0 rfl) ?_
    refine zu_M (X := ([] : va_W)) (Z := ([] : va_W)) (va_runS (As := [.ref (x 0)]) (rest := []) ⟨hx, hb, hml, hown, hts⟩ (zc_L_divides l hfl D cA b rd x X N B Bs hpm hsv2 (hf_1027)) (va_cwS 1 hts gL_acts_L_divides rfl rfl rfl zy_L_divides.2 ⟨(Nat.le_of_ble_eq_true rfl), (Nat.le_of_ble_eq_true rfl)⟩) (zx_preS (A := (zfr (xmW cA x b rd X N ++ (bkW (cA 0) (b 0) B ++ (otW (cA 0) b Bs))))) hK hP hD hO hS (zD_fr hD)) rfl rfl hl.1 rfl (lv_room (Nat.le_of_ble_eq_true rfl)) dL_acts_1027 ⟨Nat.le_of_ble_eq_true rfl, Nat.le_of_ble_eq_true rfl⟩) hP hD hS (z_adr2 xmW_adr (z_adr2 bkW_adr otW_adr)) rfl (fun H locs hP9 hD9 hS9 => ?_)
    replace hP : va_P D vwCl (xmW cA x b rd X ((f_L_divides N B Bs).1) ++ (bkW (cA 0) (b 0) ((f_L_divides N B Bs).2.1) ++ (otW (cA 0) b ((f_L_divides N B Bs).2.2)))) H := hP9
    replace hD : va_D _ (xmW cA x b rd X ((f_L_divides N B Bs).1) ++ (bkW (cA 0) (b 0) ((f_L_divides N B Bs).2.1) ++ (otW (cA 0) b ((f_L_divides N B Bs).2.2)))) := hD9
    replace hS := hS9
    clear hP9 hD9 hS9
    refine W.widen (k := 6) (n := 36) (Nat.le_of_ble_eq_true rfl) (Nat.le_of_ble_eq_true rfl) ?_
    exact z_zretM (w1 := xmW cA x b rd X ((f_L_divides N B Bs).1) ++ (bkW (cA 0) (b 0) ((f_L_divides N B Bs).2.1) ++ (otW (cA 0) b ((f_L_divides N B Bs).2.2)))) hx hb hr hlocks dL_acts_1030 hP hS rfl rfl (by rw [hres_1026]; first | (simp -proj only [f_L_acts_1026]; first | done | rfl; done) | rfl)
  have join_905 : f_L_acts N B Bs xx yy = f_L_acts_905 N B Bs xx yy → ∀ (H : Heap) (locs : List Loc), va_P D vwCl (xmW cA x b rd X N ++ (bkW (cA 0) (b 0) B ++ (otW (cA 0) b Bs))) H → va_D (zfr (xmW cA x b rd X N ++ (bkW (cA 0) (b 0) B ++ (otW (cA 0) b Bs)))) (xmW cA x b rd X N ++ (bkW (cA 0) (b 0) B ++ (otW (cA 0) b Bs))) → va_S (zfr (xmW cA x b rd X N ++ (bkW (cA 0) (b 0) B ++ (otW (cA 0) b Bs)))) s.heap H locs → ∀ (ls : Array Slot), lv_has ls 29 [(0, .ref (x 0)), (2, .int yy), (3, .int (nI (zm yy))), (4, .int (nI (zo yy))), (5, .int (nI (za yy))), (6, .int (f_X2_count N B 0)), (7, .int (f_X2_count N B 1)), (8, .int (f_X2_count N B 2)), (9, .int (f_X2_count N B 3)), (10, .int (f_X2_count N B 9)), (11, .int (f_X2_memberOf B (nI (zm yy)) 4))] → W p l e (headSpec wsL_acts (zrx 9 163 6 36)).room s m ([.ref (x 0), .int xx, .int yy] : List Value).toArray below meth c H locs 0 0 (MQ below (zM D (xmW cA x b rd X N ++ (bkW (cA 0) (b 0) B ++ (otW (cA 0) b Bs))) (xmW cA x b rd X ((f_L_acts N B Bs xx yy).1) ++ (bkW (cA 0) (b 0) ((f_L_acts N B Bs xx yy).2.1) ++ (otW (cA 0) b ((f_L_acts N B Bs xx yy).2.2)))) (some (.int 1))) ([.ref (x 0), .int xx, .int yy] : List Value).toArray s 6 36 (zfr (xmW cA x b rd X N ++ (bkW (cA 0) (b 0) B ++ (otW (cA 0) b Bs))))) (F0 m 905 ls []) := by
    intro hres_905 H locs hP hD hS ls hl
    obtain ⟨hf_1014, hf_1017, hf_975, hf_983, hf_997⟩ := hF_905
    refine lv_iconst (v := 1) hx hb dL_acts_905 (by decide) ?_
    refine lv_istore (lv' := [(27, .int 1), (0, .ref (x 0)), (2, .int yy), (3, .int (nI (zm yy))), (4, .int (nI (zo yy))), (5, .int (nI (za yy))), (6, .int (f_X2_count N B 0)), (7, .int (f_X2_count N B 1)), (8, .int (f_X2_count N B 2)), (9, .int (f_X2_count N B 3)), (10, .int (f_X2_count N B 9)), (11, .int (f_X2_memberOf B (nI (zm yy)) 4))]) hx hb dL_acts_906 hl (by decide) rfl (fun ls hl => ?_)
    refine lv_iconst (v := 0) hx hb dL_acts_908 (by decide) ?_
    refine lv_istore (lv' := [(28, .int 0), (27, .int 1), (0, .ref (x 0)), (2, .int yy), (3, .int (nI (zm yy))), (4, .int (nI (zo yy))), (5, .int (nI (za yy))), (6, .int (f_X2_count N B 0)), (7, .int (f_X2_count N B 1)), (8, .int (f_X2_count N B 2)), (9, .int (f_X2_count N B 3)), (10, .int (f_X2_count N B 9)), (11, .int (f_X2_memberOf B (nI (zm yy)) 4))]) hx hb dL_acts_909 hl (by decide) rfl (fun ls hl => ?_)
    have loop_911 : ∀ (kk : Nat) (n : Nat) (y0_911 : Int32), n ≤ 6 → 6 - n < kk → y0_911 = f_L_acts_911 N B Bs xx yy 1 n → ∀ (H : Heap) (locs : List Loc), va_P D vwCl (xmW cA x b rd X N ++ (bkW (cA 0) (b 0) B ++ (otW (cA 0) b Bs))) H → va_D (zfr (xmW cA x b rd X N ++ (bkW (cA 0) (b 0) B ++ (otW (cA 0) b Bs)))) (xmW cA x b rd X N ++ (bkW (cA 0) (b 0) B ++ (otW (cA 0) b Bs))) → va_S (zfr (xmW cA x b rd X N ++ (bkW (cA 0) (b 0) B ++ (otW (cA 0) b Bs)))) s.heap H locs → ∀ (ls : Array Slot), lv_has ls 29 [(0, .ref (x 0)), (2, .int yy), (27, .int y0_911), (28, .int (nI n))] → W p l e (headSpec wsL_acts (zrx 9 163 6 36)).room s m ([.ref (x 0), .int xx, .int yy] : List Value).toArray below meth c H locs 0 0 (MQ below (zM D (xmW cA x b rd X N ++ (bkW (cA 0) (b 0) B ++ (otW (cA 0) b Bs))) (xmW cA x b rd X ((f_L_acts N B Bs xx yy).1) ++ (bkW (cA 0) (b 0) ((f_L_acts N B Bs xx yy).2.1) ++ (otW (cA 0) b ((f_L_acts N B Bs xx yy).2.2)))) (some (.int 1))) ([.ref (x 0), .int xx, .int yy] : List Value).toArray s 6 36 (zfr (xmW cA x b rd X N ++ (bkW (cA 0) (b 0) B ++ (otW (cA 0) b Bs))))) (F0 m 911 ls []) := by
      intro kk
      induction kk with
      | zero => intro n y0_911 _ h9; exact absurd h9 (Nat.not_lt_zero _)
      | succ kk ih_911 =>
        intro n y0_911 hn_911 hm_911 q_y0_911 H locs hP hD hS ls hl
        refine lv_iload hx hb dL_acts_911 (lv_at hl 3 rfl) ?_
        refine lv_bipush (v := 6) hx hb dL_acts_913 (by decide) ?_
        refine lv_icmp_ge (tgt := 959) hx hb dL_acts_915 (by decide) (fun c_6 => ?_) (fun c_6 => ?_)
        · have c_6 : 6 ≤ n := (nI_leI (a := 6) (b := n) (by omega) (by omega)).mp c_6
          obtain rfl : n = 6 := by omega
          obtain ⟨z_911, hz_911⟩ : ∃ z9, z9 = f_L_acts_911 N B Bs xx yy 1 6 := ⟨_, rfl⟩
          rw [← hz_911] at q_y0_911
          refine lv_aload_n hx hb dL_acts_959 rfl (lv_at hl 0 rfl) ?_
          refine lv_bipush (v := 8) hx hb dL_acts_960 (by decide) ?_
          refine zv_E (vx_runV (As := [.int 8]) (rest := []) ⟨hx, hb, hml, hown, hts⟩ (zk_X2_count l hfl D cA b rd x X N B 8) (cwV 1 hts gL_acts_X2_count rfl rfl rfl zy_X2_count ⟨(Nat.le_of_ble_eq_true rfl), (Nat.le_of_ble_eq_true rfl)⟩) (zx_preVq (A := (zfr (xmW cA x b rd X N ++ (bkW (cA 0) (b 0) B ++ (otW (cA 0) b Bs))))) (ci := 2) (q0 := 0) hK (hP.sub (ws' := xmW cA x b rd X N ++ (bkW (cA 0) (b 0) B)) [0, 1, 2, 3, 4, 5, 6, 7, 8, 9, 10, 11, 12, 13, 14] rfl) (hD.sub (ws' := xmW cA x b rd X N ++ (bkW (cA 0) (b 0) B)) [0, 1, 2, 3, 4, 5, 6, 7, 8, 9, 10, 11, 12, 13, 14] (by decide) rfl) hO hS (zD_fr (hD.sub (ws' := xmW cA x b rd X N ++ (bkW (cA 0) (b 0) B)) [0, 1, 2, 3, 4, 5, 6, 7, 8, 9, 10, 11, 12, 13, 14] (by decide) rfl)) rfl rfl) rfl rfl hl.1 rfl (lv_room (Nat.le_of_ble_eq_true rfl)) dL_acts_962 ⟨Nat.le_of_ble_eq_true rfl, Nat.le_of_ble_eq_true rfl⟩) (zva_no ⟨⟨by decide, by decide⟩, trivial⟩) rfl ?_
          refine lv_istore (lv' := [(28, .int (f_X2_count N B 8)), (0, .ref (x 0)), (2, .int yy), (27, .int y0_911)]) hx hb dL_acts_965 hl (by decide) rfl (fun ls hl => ?_)
          refine lv_iload hx hb dL_acts_967 (lv_at hl 3 rfl) ?_
          refine lv_if_eq (tgt := 1008) hx hb dL_acts_969 (by decide) (fun c_7 => ?_) (fun c_7 => ?_)
          · refine lv_aload_n hx hb dL_acts_1008 rfl (lv_at hl 1 rfl) ?_
            refine lv_iconst (v := 0) hx hb dL_acts_1009 (by decide) ?_
            refine lv_iload_n hx hb dL_acts_1010 rfl (lv_at hl 2 rfl) ?_
            refine lv_bipush (v := 63) hx hb dL_acts_1011 (by decide) ?_
            refine lv_iand hx hb dL_acts_1013 ?_
            refine zv_M (X := ([] : va_W)) (Z := ([] : va_W)) (vx_runV (As := [.int 0, .int (yy &&& 63)]) (rest := []) ⟨hx, hb, hml, hown, hts⟩ (zk_X2_set l hfl D cA b rd x X N B Bs 0 (yy &&& 63) hpm hsv2) (cwV 2 hts gL_acts_X2_set rfl rfl rfl zy_X2_set ⟨(Nat.le_of_ble_eq_true rfl), (Nat.le_of_ble_eq_true rfl)⟩) (zx_preVq (A := (zfr (xmW cA x b rd X N ++ (bkW (cA 0) (b 0) B ++ (otW (cA 0) b Bs))))) (ci := 2) (q0 := 0) hK hP hD hO hS (zD_fr hD) rfl rfl) rfl rfl hl.1 rfl (lv_room (Nat.le_of_ble_eq_true rfl)) dL_acts_1014 ⟨Nat.le_of_ble_eq_true rfl, Nat.le_of_ble_eq_true rfl⟩) (zva_no ⟨⟨0, by decide, rfl⟩, (by subst q_y0_911 hz_911; exact hf_1014 c_7), trivial⟩) hP hD hS (z_adr2 xmW_adr (z_adr2 bkW_adr otW_adr)) rfl (fun H locs hP9 hD9 hS9 => ?_)
            replace hP : va_P D vwCl (xmW cA x b rd X ((f_X2_set N B Bs 0 (yy &&& 63)).2.1) ++ (bkW (cA 0) (b 0) ((f_X2_set N B Bs 0 (yy &&& 63)).2.2.1) ++ (otW (cA 0) b ((f_X2_set N B Bs 0 (yy &&& 63)).2.2.2)))) H := hP9
            replace hD : va_D _ (xmW cA x b rd X ((f_X2_set N B Bs 0 (yy &&& 63)).2.1) ++ (bkW (cA 0) (b 0) ((f_X2_set N B Bs 0 (yy &&& 63)).2.2.1) ++ (otW (cA 0) b ((f_X2_set N B Bs 0 (yy &&& 63)).2.2.2)))) := hD9
            replace hS := hS9
            clear hP9 hD9 hS9
            refine lv_if_lt (tgt := 1024) hx hb dL_acts_1017 (by decide) (fun c_8 => by exact absurd c_8 (by subst q_y0_911 hz_911; exact hf_1017 c_7)) (fun _ => ?_)
            refine lv_iconst (v := 1) hx hb dL_acts_1020 (by decide) ?_
            refine lv_goto (tgt := 1025) hx hb dL_acts_1021 (by decide) ?_
            refine W.widen (k := 6) (n := 36) (Nat.le_of_ble_eq_true rfl) (Nat.le_of_ble_eq_true rfl) ?_
            exact z_zretM (w1 := xmW cA x b rd X ((f_X2_set N B Bs 0 (yy &&& 63)).2.1) ++ (bkW (cA 0) (b 0) ((f_X2_set N B Bs 0 (yy &&& 63)).2.2.1) ++ (otW (cA 0) b ((f_X2_set N B Bs 0 (yy &&& 63)).2.2.2)))) hx hb hr hlocks dL_acts_1025 hP hS rfl rfl (by subst q_y0_911; rw [hres_905]; simp -proj only [f_L_acts_905, if_pos c_7, ← hz_911]; first | done | rfl)
          · refine lv_aload_n hx hb dL_acts_972 rfl (lv_at hl 1 rfl) ?_
            refine lv_bipush (v := 9) hx hb dL_acts_973 (by decide) ?_
            refine zv_M (X := ([] : va_W)) (Z := ([] : va_W)) (vx_runV (As := [.int 9]) (rest := []) ⟨hx, hb, hml, hown, hts⟩ (zk_X2_pass l hfl D cA b rd x X N B Bs 9 hpm hsv2) (cwV 1 hts gL_acts_X2_pass rfl rfl rfl zy_X2_pass ⟨(Nat.le_of_ble_eq_true rfl), (Nat.le_of_ble_eq_true rfl)⟩) (zx_preVq (A := (zfr (xmW cA x b rd X N ++ (bkW (cA 0) (b 0) B ++ (otW (cA 0) b Bs))))) (ci := 2) (q0 := 0) hK hP hD hO hS (zD_fr hD) rfl rfl) rfl rfl hl.1 rfl (lv_room (Nat.le_of_ble_eq_true rfl)) dL_acts_975 ⟨Nat.le_of_ble_eq_true rfl, Nat.le_of_ble_eq_true rfl⟩) (zva_no ⟨⟨by decide, by decide⟩, (by subst q_y0_911 hz_911; exact hf_975 c_7), trivial⟩) hP hD hS (z_adr2 xmW_adr (z_adr2 bkW_adr otW_adr)) rfl (fun H locs hP9 hD9 hS9 => ?_)
            replace hP : va_P D vwCl (xmW cA x b rd X ((f_X2_pass N B Bs 9).2.1) ++ (bkW (cA 0) (b 0) ((f_X2_pass N B Bs 9).2.2.1) ++ (otW (cA 0) b ((f_X2_pass N B Bs 9).2.2.2)))) H := hP9
            replace hD : va_D _ (xmW cA x b rd X ((f_X2_pass N B Bs 9).2.1) ++ (bkW (cA 0) (b 0) ((f_X2_pass N B Bs 9).2.2.1) ++ (otW (cA 0) b ((f_X2_pass N B Bs 9).2.2.2)))) := hD9
            replace hS := hS9
            clear hP9 hD9 hS9
            refine lv_iload hx hb dL_acts_978 (lv_at hl 0 rfl) ?_
            refine lv_bipush (v := 9) hx hb dL_acts_980 (by decide) ?_
            refine lv_iadd hx hb dL_acts_982 ?_
            refine lv_icmp_ne (tgt := 1004) hx hb dL_acts_983 (by decide) (fun c_9 => by exact absurd (by subst q_y0_911 hz_911; exact hf_983 c_7) c_9) (fun _ => ?_)
            refine lv_aload_n hx hb dL_acts_986 rfl (lv_at hl 1 rfl) ?_
            refine lv_bipush (v := 8) hx hb dL_acts_987 (by decide) ?_
            refine zv_E (vx_runV (As := [.int 8]) (rest := []) ⟨hx, hb, hml, hown, hts⟩ (zk_X2_count l hfl D cA b rd x X ((f_X2_pass N B Bs 9).2.1) ((f_X2_pass N B Bs 9).2.2.1) 8) (cwV 1 hts gL_acts_X2_count rfl rfl rfl zy_X2_count ⟨(Nat.le_of_ble_eq_true rfl), (Nat.le_of_ble_eq_true rfl)⟩) (zx_preVq (A := (zfr (xmW cA x b rd X N ++ (bkW (cA 0) (b 0) B ++ (otW (cA 0) b Bs))))) (ci := 2) (q0 := 0) hK (hP.sub (ws' := xmW cA x b rd X ((f_X2_pass N B Bs 9).2.1) ++ (bkW (cA 0) (b 0) ((f_X2_pass N B Bs 9).2.2.1))) [0, 1, 2, 3, 4, 5, 6, 7, 8, 9, 10, 11, 12, 13, 14] rfl) (hD.sub (ws' := xmW cA x b rd X ((f_X2_pass N B Bs 9).2.1) ++ (bkW (cA 0) (b 0) ((f_X2_pass N B Bs 9).2.2.1))) [0, 1, 2, 3, 4, 5, 6, 7, 8, 9, 10, 11, 12, 13, 14] (by decide) rfl) hO hS (zD_fr (hD.sub (ws' := xmW cA x b rd X ((f_X2_pass N B Bs 9).2.1) ++ (bkW (cA 0) (b 0) ((f_X2_pass N B Bs 9).2.2.1))) [0, 1, 2, 3, 4, 5, 6, 7, 8, 9, 10, 11, 12, 13, 14] (by decide) rfl)) rfl rfl) rfl rfl hl.1 rfl (lv_room (Nat.le_of_ble_eq_true rfl)) dL_acts_989 ⟨Nat.le_of_ble_eq_true rfl, Nat.le_of_ble_eq_true rfl⟩) (zva_no ⟨⟨by decide, by decide⟩, trivial⟩) rfl ?_
            refine lv_iload hx hb dL_acts_992 (lv_at hl 0 rfl) ?_
            refine lv_bipush (v := 9) hx hb dL_acts_994 (by decide) ?_
            refine lv_iadd hx hb dL_acts_996 ?_
            refine lv_icmp_ne (tgt := 1004) hx hb dL_acts_997 (by decide) (fun c_10 => by exact absurd (by subst q_y0_911 hz_911; exact hf_997 c_7) c_10) (fun _ => ?_)
            refine lv_iconst (v := 1) hx hb dL_acts_1000 (by decide) ?_
            refine lv_goto (tgt := 1025) hx hb dL_acts_1001 (by decide) ?_
            refine W.widen (k := 6) (n := 36) (Nat.le_of_ble_eq_true rfl) (Nat.le_of_ble_eq_true rfl) ?_
            exact z_zretM (w1 := xmW cA x b rd X ((f_X2_pass N B Bs 9).2.1) ++ (bkW (cA 0) (b 0) ((f_X2_pass N B Bs 9).2.2.1) ++ (otW (cA 0) b ((f_X2_pass N B Bs 9).2.2.2)))) hx hb hr hlocks dL_acts_1025 hP hS rfl rfl (by subst q_y0_911; rw [hres_905]; simp -proj only [f_L_acts_905, if_neg c_7, ← hz_911]; first | done | rfl)
        · have c_6 : ¬ 6 ≤ n := fun h9 => c_6 ((nI_leI (a := 6) (b := n) (by omega) (by omega)).mpr h9)
          refine lv_iload hx hb dL_acts_918 (lv_at hl 2 rfl) ?_
          have sel_920 : ∀ (ls : Array Slot), lv_has ls 29 [(0, .ref (x 0)), (2, .int yy), (27, .int y0_911), (28, .int (nI n))] → W p l e (headSpec wsL_acts (zrx 9 163 6 36)).room s m ([.ref (x 0), .int xx, .int yy] : List Value).toArray below meth c H locs 0 0 (MQ below (zM D (xmW cA x b rd X N ++ (bkW (cA 0) (b 0) B ++ (otW (cA 0) b Bs))) (xmW cA x b rd X ((f_L_acts N B Bs xx yy).1) ++ (bkW (cA 0) (b 0) ((f_L_acts N B Bs xx yy).2.1) ++ (otW (cA 0) b ((f_L_acts N B Bs xx yy).2.2)))) (some (.int 1))) ([.ref (x 0), .int xx, .int yy] : List Value).toArray s 6 36 (zfr (xmW cA x b rd X N ++ (bkW (cA 0) (b 0) B ++ (otW (cA 0) b Bs))))) (F0 m 951 ls [.int (if y0_911 = 0 then (0 : Int32) else if 100000000 < ((f_X2_memberOf B (nI n) 5) + (9 * (f_X2_memberOf B (nI n) 0))) then (0 : Int32) else 1)]) := by
            intro ls hl
            refine lv_istore (lv' := [(27, .int (if y0_911 = 0 then (0 : Int32) else if 100000000 < ((f_X2_memberOf B (nI n) 5) + (9 * (f_X2_memberOf B (nI n) 0))) then (0 : Int32) else 1)), (0, .ref (x 0)), (2, .int yy), (28, .int (nI n))]) hx hb dL_acts_951 hl (by decide) rfl (fun ls hl => ?_)
            refine lv_iinc (v := nI (n + 1)) (lv' := [(28, .int (nI (n + 1))), (27, .int (if y0_911 = 0 then (0 : Int32) else if 100000000 < ((f_X2_memberOf B (nI n) 5) + (9 * (f_X2_memberOf B (nI n) 0))) then (0 : Int32) else 1)), (0, .ref (x 0)), (2, .int yy)]) hx hb dL_acts_953 hl (k := 3) rfl (by rw [show (Int32.ofInt 1) = nI 1 from by decide]; exact nI_add n 1) (by decide) rfl (fun ls hl => ?_)
            refine lv_goto (tgt := 911) hx hb dL_acts_956 (by decide) ?_
            exact ih_911 (n + 1) _ (by omega) (by omega) (by subst q_y0_911; first | (simp -proj only [f_L_acts_911]; first | done | rfl; done) | rfl) _ _ hP hD hS ls (lv_sub hl [2, 3, 1, 0] rfl)
          refine lv_if_eq (tgt := 950) hx hb dL_acts_920 (by decide) (fun c_11 => ?_) (fun c_11 => ?_)
          · refine lv_iconst (v := 0) hx hb dL_acts_950 (by decide) ?_
            refine z_top (y := if y0_911 = 0 then (0 : Int32) else if 100000000 < ((f_X2_memberOf B (nI n) 5) + (9 * (f_X2_memberOf B (nI n) 0))) then (0 : Int32) else 1) (by rw [if_pos c_11]) ?_; exact sel_920 ls (lv_sub hl [0, 1, 2, 3] rfl)
          · refine lv_aload_n hx hb dL_acts_923 rfl (lv_at hl 0 rfl) ?_
            refine lv_iload hx hb dL_acts_924 (lv_at hl 3 rfl) ?_
            refine lv_iconst (v := 5) hx hb dL_acts_926 (by decide) ?_
            refine zv_E (vx_runV (As := [.int (nI n), .int 5]) (rest := []) ⟨hx, hb, hml, hown, hts⟩ (zk_X2_memberOf l hfl D cA b rd x X N B (nI n) 5) (cwV 2 hts gL_acts_X2_memberOf rfl rfl rfl zy_X2_memberOf ⟨(Nat.le_of_ble_eq_true rfl), (Nat.le_of_ble_eq_true rfl)⟩) (zx_preVq (A := (zfr (xmW cA x b rd X N ++ (bkW (cA 0) (b 0) B ++ (otW (cA 0) b Bs))))) (ci := 2) (q0 := 0) hK (hP.sub (ws' := xmW cA x b rd X N ++ (bkW (cA 0) (b 0) B)) [0, 1, 2, 3, 4, 5, 6, 7, 8, 9, 10, 11, 12, 13, 14] rfl) (hD.sub (ws' := xmW cA x b rd X N ++ (bkW (cA 0) (b 0) B)) [0, 1, 2, 3, 4, 5, 6, 7, 8, 9, 10, 11, 12, 13, 14] (by decide) rfl) hO hS (zD_fr (hD.sub (ws' := xmW cA x b rd X N ++ (bkW (cA 0) (b 0) B)) [0, 1, 2, 3, 4, 5, 6, 7, 8, 9, 10, 11, 12, 13, 14] (by decide) rfl)) rfl rfl) rfl rfl hl.1 rfl (lv_room (Nat.le_of_ble_eq_true rfl)) dL_acts_927 ⟨Nat.le_of_ble_eq_true rfl, Nat.le_of_ble_eq_true rfl⟩) (zva_no ⟨⟨n, by omega, rfl⟩, ⟨by decide, by decide⟩, trivial⟩) rfl ?_
            refine lv_bipush (v := 9) hx hb dL_acts_930 (by decide) ?_
            refine lv_aload_n hx hb dL_acts_932 rfl (lv_at hl 0 rfl) ?_
            refine lv_iload hx hb dL_acts_933 (lv_at hl 3 rfl) ?_
            refine lv_iconst (v := 0) hx hb dL_acts_935 (by decide) ?_
            refine zv_E (vx_runV (As := [.int (nI n), .int 0]) (rest := [.int 9, .int (f_X2_memberOf B (nI n) 5)]) ⟨hx, hb, hml, hown, hts⟩ (zk_X2_memberOf l hfl D cA b rd x X N B (nI n) 0) (cwV 2 hts gL_acts_X2_memberOf rfl rfl rfl zy_X2_memberOf ⟨(Nat.le_of_ble_eq_true rfl), (Nat.le_of_ble_eq_true rfl)⟩) (zx_preVq (A := (zfr (xmW cA x b rd X N ++ (bkW (cA 0) (b 0) B ++ (otW (cA 0) b Bs))))) (ci := 2) (q0 := 0) hK (hP.sub (ws' := xmW cA x b rd X N ++ (bkW (cA 0) (b 0) B)) [0, 1, 2, 3, 4, 5, 6, 7, 8, 9, 10, 11, 12, 13, 14] rfl) (hD.sub (ws' := xmW cA x b rd X N ++ (bkW (cA 0) (b 0) B)) [0, 1, 2, 3, 4, 5, 6, 7, 8, 9, 10, 11, 12, 13, 14] (by decide) rfl) hO hS (zD_fr (hD.sub (ws' := xmW cA x b rd X N ++ (bkW (cA 0) (b 0) B)) [0, 1, 2, 3, 4, 5, 6, 7, 8, 9, 10, 11, 12, 13, 14] (by decide) rfl)) rfl rfl) rfl rfl hl.1 rfl (lv_room (Nat.le_of_ble_eq_true rfl)) dL_acts_936 ⟨Nat.le_of_ble_eq_true rfl, Nat.le_of_ble_eq_true rfl⟩) (zva_no ⟨⟨n, by omega, rfl⟩, ⟨by decide, by decide⟩, trivial⟩) rfl ?_
            refine lv_imul hx hb dL_acts_939 ?_
            refine lv_iadd hx hb dL_acts_940 ?_
            refine lv_ldc hx hb hown (hts (.constant RL 64 (100000000)) (List.mem_of_getElem? (i := 2) rfl)) dL_acts_941 ?_
            have sel_943 : ∀ (ls : Array Slot), lv_has ls 29 [(0, .ref (x 0)), (2, .int yy), (27, .int y0_911), (28, .int (nI n))] → W p l e (headSpec wsL_acts (zrx 9 163 6 36)).room s m ([.ref (x 0), .int xx, .int yy] : List Value).toArray below meth c H locs 0 0 (MQ below (zM D (xmW cA x b rd X N ++ (bkW (cA 0) (b 0) B ++ (otW (cA 0) b Bs))) (xmW cA x b rd X ((f_L_acts N B Bs xx yy).1) ++ (bkW (cA 0) (b 0) ((f_L_acts N B Bs xx yy).2.1) ++ (otW (cA 0) b ((f_L_acts N B Bs xx yy).2.2)))) (some (.int 1))) ([.ref (x 0), .int xx, .int yy] : List Value).toArray s 6 36 (zfr (xmW cA x b rd X N ++ (bkW (cA 0) (b 0) B ++ (otW (cA 0) b Bs))))) (F0 m 951 ls [.int (if 100000000 < ((f_X2_memberOf B (nI n) 5) + (9 * (f_X2_memberOf B (nI n) 0))) then (0 : Int32) else 1)]) := by
              intro ls hl
              refine z_top (y := if y0_911 = 0 then (0 : Int32) else if 100000000 < ((f_X2_memberOf B (nI n) 5) + (9 * (f_X2_memberOf B (nI n) 0))) then (0 : Int32) else 1) (by rw [if_neg c_11]) ?_; exact sel_920 ls (lv_sub hl [0, 1, 2, 3] rfl)
            refine lv_icmp_gt (tgt := 950) hx hb dL_acts_943 (by decide) (fun c_12 => ?_) (fun c_12 => ?_)
            · refine lv_iconst (v := 0) hx hb dL_acts_950 (by decide) ?_
              refine z_top (y := if 100000000 < ((f_X2_memberOf B (nI n) 5) + (9 * (f_X2_memberOf B (nI n) 0))) then (0 : Int32) else 1) (by rw [if_pos c_12]) ?_; exact sel_943 ls (lv_sub hl [0, 1, 2, 3] rfl)
            · refine lv_iconst (v := 1) hx hb dL_acts_946 (by decide) ?_
              refine lv_goto (tgt := 951) hx hb dL_acts_947 (by decide) ?_
              refine z_top (y := if 100000000 < ((f_X2_memberOf B (nI n) 5) + (9 * (f_X2_memberOf B (nI n) 0))) then (0 : Int32) else 1) (by rw [if_neg c_12]) ?_; exact sel_943 ls (lv_sub hl [0, 1, 2, 3] rfl)
    exact loop_911 _ 0 _ (by omega) (Nat.lt_succ_self _) rfl _ _ hP hD hS ls (lv_sub hl [2, 3, 1, 0] rfl)
  have join_900 : f_L_acts N B Bs xx yy = f_L_acts_900 N B Bs xx yy → ∀ (H : Heap) (locs : List Loc), va_P D vwCl (xmW cA x b rd X N ++ (bkW (cA 0) (b 0) B ++ (otW (cA 0) b Bs))) H → va_D (zfr (xmW cA x b rd X N ++ (bkW (cA 0) (b 0) B ++ (otW (cA 0) b Bs)))) (xmW cA x b rd X N ++ (bkW (cA 0) (b 0) B ++ (otW (cA 0) b Bs))) → va_S (zfr (xmW cA x b rd X N ++ (bkW (cA 0) (b 0) B ++ (otW (cA 0) b Bs)))) s.heap H locs → ∀ (ls : Array Slot), lv_has ls 29 [(0, .ref (x 0)), (2, .int yy), (3, .int (nI (zm yy))), (4, .int (nI (zo yy))), (5, .int (nI (za yy))), (6, .int (f_X2_count N B 0)), (7, .int (f_X2_count N B 1)), (8, .int (f_X2_count N B 2)), (9, .int (f_X2_count N B 3)), (10, .int (f_X2_count N B 9)), (11, .int (f_X2_memberOf B (nI (zm yy)) 4))] → W p l e (headSpec wsL_acts (zrx 9 163 6 36)).room s m ([.ref (x 0), .int xx, .int yy] : List Value).toArray below meth c H locs 0 0 (MQ below (zM D (xmW cA x b rd X N ++ (bkW (cA 0) (b 0) B ++ (otW (cA 0) b Bs))) (xmW cA x b rd X ((f_L_acts N B Bs xx yy).1) ++ (bkW (cA 0) (b 0) ((f_L_acts N B Bs xx yy).2.1) ++ (otW (cA 0) b ((f_L_acts N B Bs xx yy).2.2)))) (some (.int 1))) ([.ref (x 0), .int xx, .int yy] : List Value).toArray s 6 36 (zfr (xmW cA x b rd X N ++ (bkW (cA 0) (b 0) B ++ (otW (cA 0) b Bs))))) (F0 m 900 ls []) := by
    intro hres_900 H locs hP hD hS ls hl
    obtain hf_901 := hF_900
    refine lv_aload_n hx hb dL_acts_900 rfl (lv_at hl 0 rfl) ?_
    refine zu_M (X := ([] : va_W)) (Z := ([] : va_W)) (va_runS (As := [.ref (x 0)]) (rest := []) ⟨hx, hb, hml, hown, hts⟩ (zc_L_ends l hfl D cA b rd x X N B Bs hpm hsv2 (hf_901)) (va_cwS 1 hts gL_acts_L_ends rfl rfl rfl zy_L_ends.2 ⟨(Nat.le_of_ble_eq_true rfl), (Nat.le_of_ble_eq_true rfl)⟩) (zx_preS (A := (zfr (xmW cA x b rd X N ++ (bkW (cA 0) (b 0) B ++ (otW (cA 0) b Bs))))) hK hP hD hO hS (zD_fr hD)) rfl rfl hl.1 rfl (lv_room (Nat.le_of_ble_eq_true rfl)) dL_acts_901 ⟨Nat.le_of_ble_eq_true rfl, Nat.le_of_ble_eq_true rfl⟩) hP hD hS (z_adr2 xmW_adr (z_adr2 bkW_adr otW_adr)) rfl (fun H locs hP9 hD9 hS9 => ?_)
    replace hP : va_P D vwCl (xmW cA x b rd X ((f_L_ends N B Bs).1) ++ (bkW (cA 0) (b 0) ((f_L_ends N B Bs).2.1) ++ (otW (cA 0) b ((f_L_ends N B Bs).2.2)))) H := hP9
    replace hD : va_D _ (xmW cA x b rd X ((f_L_ends N B Bs).1) ++ (bkW (cA 0) (b 0) ((f_L_ends N B Bs).2.1) ++ (otW (cA 0) b ((f_L_ends N B Bs).2.2)))) := hD9
    replace hS := hS9
    clear hP9 hD9 hS9
    refine W.widen (k := 6) (n := 36) (Nat.le_of_ble_eq_true rfl) (Nat.le_of_ble_eq_true rfl) ?_
    exact z_zretM (w1 := xmW cA x b rd X ((f_L_ends N B Bs).1) ++ (bkW (cA 0) (b 0) ((f_L_ends N B Bs).2.1) ++ (otW (cA 0) b ((f_L_ends N B Bs).2.2)))) hx hb hr hlocks dL_acts_904 hP hS rfl rfl (by rw [hres_900]; first | (simp -proj only [f_L_acts_900]; first | done | rfl; done) | rfl)
  have join_775 : f_L_acts N B Bs xx yy = f_L_acts_775 N B Bs xx yy → ∀ (H : Heap) (locs : List Loc), va_P D vwCl (xmW cA x b rd X N ++ (bkW (cA 0) (b 0) B ++ (otW (cA 0) b Bs))) H → va_D (zfr (xmW cA x b rd X N ++ (bkW (cA 0) (b 0) B ++ (otW (cA 0) b Bs)))) (xmW cA x b rd X N ++ (bkW (cA 0) (b 0) B ++ (otW (cA 0) b Bs))) → va_S (zfr (xmW cA x b rd X N ++ (bkW (cA 0) (b 0) B ++ (otW (cA 0) b Bs)))) s.heap H locs → ∀ (ls : Array Slot), lv_has ls 29 [(0, .ref (x 0)), (2, .int yy), (3, .int (nI (zm yy))), (4, .int (nI (zo yy))), (5, .int (nI (za yy))), (6, .int (f_X2_count N B 0)), (7, .int (f_X2_count N B 1)), (8, .int (f_X2_count N B 2)), (9, .int (f_X2_count N B 3)), (10, .int (f_X2_count N B 9)), (11, .int (f_X2_memberOf B (nI (zm yy)) 4))] → W p l e (headSpec wsL_acts (zrx 9 163 6 36)).room s m ([.ref (x 0), .int xx, .int yy] : List Value).toArray below meth c H locs 0 0 (MQ below (zM D (xmW cA x b rd X N ++ (bkW (cA 0) (b 0) B ++ (otW (cA 0) b Bs))) (xmW cA x b rd X ((f_L_acts N B Bs xx yy).1) ++ (bkW (cA 0) (b 0) ((f_L_acts N B Bs xx yy).2.1) ++ (otW (cA 0) b ((f_L_acts N B Bs xx yy).2.2)))) (some (.int 1))) ([.ref (x 0), .int xx, .int yy] : List Value).toArray s 6 36 (zfr (xmW cA x b rd X N ++ (bkW (cA 0) (b 0) B ++ (otW (cA 0) b Bs))))) (F0 m 775 ls []) := by
    intro hres_775 H locs hP hD hS ls hl
    obtain ⟨hf_809, hf_837, hf_853, hf_866, hf_879, hf_891⟩ := hF_775
    refine lv_aload_n hx hb dL_acts_775 rfl (lv_at hl 0 rfl) ?_
    refine lv_iload_n hx hb dL_acts_776 rfl (lv_at hl 2 rfl) ?_
    refine lv_bipush (v := 6) hx hb dL_acts_777 (by decide) ?_
    refine zv_E (vx_runV (As := [.int (nI (zm yy)), .int 6]) (rest := []) ⟨hx, hb, hml, hown, hts⟩ (zk_X2_memberOf l hfl D cA b rd x X N B (nI (zm yy)) 6) (cwV 2 hts gL_acts_X2_memberOf rfl rfl rfl zy_X2_memberOf ⟨(Nat.le_of_ble_eq_true rfl), (Nat.le_of_ble_eq_true rfl)⟩) (zx_preVq (A := (zfr (xmW cA x b rd X N ++ (bkW (cA 0) (b 0) B ++ (otW (cA 0) b Bs))))) (ci := 2) (q0 := 0) hK (hP.sub (ws' := xmW cA x b rd X N ++ (bkW (cA 0) (b 0) B)) [0, 1, 2, 3, 4, 5, 6, 7, 8, 9, 10, 11, 12, 13, 14] rfl) (hD.sub (ws' := xmW cA x b rd X N ++ (bkW (cA 0) (b 0) B)) [0, 1, 2, 3, 4, 5, 6, 7, 8, 9, 10, 11, 12, 13, 14] (by decide) rfl) hO hS (zD_fr (hD.sub (ws' := xmW cA x b rd X N ++ (bkW (cA 0) (b 0) B)) [0, 1, 2, 3, 4, 5, 6, 7, 8, 9, 10, 11, 12, 13, 14] (by decide) rfl)) rfl rfl) rfl rfl hl.1 rfl (lv_room (Nat.le_of_ble_eq_true rfl)) dL_acts_779 ⟨Nat.le_of_ble_eq_true rfl, Nat.le_of_ble_eq_true rfl⟩) (zva_no ⟨⟨(zm yy), by omega, rfl⟩, ⟨by decide, by decide⟩, trivial⟩) rfl ?_
    refine lv_istore (lv' := [(24, .int (f_X2_memberOf B (nI (zm yy)) 6)), (0, .ref (x 0)), (2, .int yy), (3, .int (nI (zm yy))), (4, .int (nI (zo yy))), (5, .int (nI (za yy))), (6, .int (f_X2_count N B 0)), (7, .int (f_X2_count N B 1)), (8, .int (f_X2_count N B 2)), (9, .int (f_X2_count N B 3)), (10, .int (f_X2_count N B 9)), (11, .int (f_X2_memberOf B (nI (zm yy)) 4))]) hx hb dL_acts_782 hl (by decide) rfl (fun ls hl => ?_)
    refine lv_iload hx hb dL_acts_784 (lv_at hl 0 rfl) ?_
    have sel_786 : ∀ (ls : Array Slot), lv_has ls 29 [(24, .int (f_X2_memberOf B (nI (zm yy)) 6)), (0, .ref (x 0)), (2, .int yy), (3, .int (nI (zm yy))), (4, .int (nI (zo yy))), (5, .int (nI (za yy))), (6, .int (f_X2_count N B 0)), (7, .int (f_X2_count N B 1)), (8, .int (f_X2_count N B 2)), (9, .int (f_X2_count N B 3)), (10, .int (f_X2_count N B 9)), (11, .int (f_X2_memberOf B (nI (zm yy)) 4))] → W p l e (headSpec wsL_acts (zrx 9 163 6 36)).room s m ([.ref (x 0), .int xx, .int yy] : List Value).toArray below meth c H locs 0 0 (MQ below (zM D (xmW cA x b rd X N ++ (bkW (cA 0) (b 0) B ++ (otW (cA 0) b Bs))) (xmW cA x b rd X ((f_L_acts N B Bs xx yy).1) ++ (bkW (cA 0) (b 0) ((f_L_acts N B Bs xx yy).2.1) ++ (otW (cA 0) b ((f_L_acts N B Bs xx yy).2.2)))) (some (.int 1))) ([.ref (x 0), .int xx, .int yy] : List Value).toArray s 6 36 (zfr (xmW cA x b rd X N ++ (bkW (cA 0) (b 0) B ++ (otW (cA 0) b Bs))))) (F0 m 803 ls [.int (if (f_X2_memberOf B (nI (zm yy)) 6) ≤ 0 then (nI (za yy) : Int32) else if (nI (za yy)) ≤ (f_X2_memberOf B (nI (zm yy)) 6) then (nI (za yy) : Int32) else f_X2_memberOf B (nI (zm yy)) 6)]) := by
      intro ls hl
      refine z_top (y := zp B yy) rfl ?_
      refine lv_istore (lv' := [(25, .int (zp B yy)), (24, .int (f_X2_memberOf B (nI (zm yy)) 6)), (0, .ref (x 0)), (2, .int yy), (3, .int (nI (zm yy))), (4, .int (nI (zo yy))), (5, .int (nI (za yy))), (6, .int (f_X2_count N B 0)), (7, .int (f_X2_count N B 1)), (8, .int (f_X2_count N B 2)), (9, .int (f_X2_count N B 3)), (10, .int (f_X2_count N B 9)), (11, .int (f_X2_memberOf B (nI (zm yy)) 4))]) hx hb dL_acts_803 hl (by decide) rfl (fun ls hl => ?_)
      refine lv_aload_n hx hb dL_acts_805 rfl (lv_at hl 2 rfl) ?_
      refine lv_iload_n hx hb dL_acts_806 rfl (lv_at hl 4 rfl) ?_
      refine lv_iload hx hb dL_acts_807 (lv_at hl 0 rfl) ?_
      refine zv_M (X := ([] : va_W)) (Z := ([] : va_W)) (vx_runV (As := [.int (nI (zm yy)), .int (zp B yy)]) (rest := []) ⟨hx, hb, hml, hown, hts⟩ (zk_X2_repay l hfl D cA b rd x X N B Bs (nI (zm yy)) (zp B yy) hpm hsv2) (cwV 2 hts gL_acts_X2_repay rfl rfl rfl zy_X2_repay ⟨(Nat.le_of_ble_eq_true rfl), (Nat.le_of_ble_eq_true rfl)⟩) (zx_preVq (A := (zfr (xmW cA x b rd X N ++ (bkW (cA 0) (b 0) B ++ (otW (cA 0) b Bs))))) (ci := 2) (q0 := 0) hK hP hD hO hS (zD_fr hD) rfl rfl) rfl rfl hl.1 rfl (lv_room (Nat.le_of_ble_eq_true rfl)) dL_acts_809 ⟨Nat.le_of_ble_eq_true rfl, Nat.le_of_ble_eq_true rfl⟩) (zva_no ⟨⟨(zm yy), by omega, rfl⟩, (hf_809), trivial⟩) hP hD hS (z_adr2 xmW_adr (z_adr2 bkW_adr otW_adr)) rfl (fun H locs hP9 hD9 hS9 => ?_)
      replace hP : va_P D vwCl (xmW cA x b rd X ((f_X2_repay N B Bs (nI (zm yy)) (zp B yy)).2.1) ++ (bkW (cA 0) (b 0) ((f_X2_repay N B Bs (nI (zm yy)) (zp B yy)).2.2.1) ++ (otW (cA 0) b ((f_X2_repay N B Bs (nI (zm yy)) (zp B yy)).2.2.2)))) H := hP9
      replace hD : va_D _ (xmW cA x b rd X ((f_X2_repay N B Bs (nI (zm yy)) (zp B yy)).2.1) ++ (bkW (cA 0) (b 0) ((f_X2_repay N B Bs (nI (zm yy)) (zp B yy)).2.2.1) ++ (otW (cA 0) b ((f_X2_repay N B Bs (nI (zm yy)) (zp B yy)).2.2.2)))) := hD9
      replace hS := hS9
      clear hP9 hD9 hS9
      refine lv_istore (lv' := [(26, .int ((f_X2_repay N B Bs (nI (zm yy)) (zp B yy)).1)), (25, .int (zp B yy)), (24, .int (f_X2_memberOf B (nI (zm yy)) 6)), (0, .ref (x 0)), (2, .int yy), (3, .int (nI (zm yy))), (4, .int (nI (zo yy))), (5, .int (nI (za yy))), (6, .int (f_X2_count N B 0)), (7, .int (f_X2_count N B 1)), (8, .int (f_X2_count N B 2)), (9, .int (f_X2_count N B 3)), (10, .int (f_X2_count N B 9)), (11, .int (f_X2_memberOf B (nI (zm yy)) 4))]) hx hb dL_acts_812 hl (by decide) rfl (fun ls hl => ?_)
      refine lv_iload hx hb dL_acts_814 (lv_at hl 0 rfl) ?_
      refine lv_iconst (v := (-1)) hx hb dL_acts_816 (by decide) ?_
      have sel_817 : ∀ (ls : Array Slot), lv_has ls 29 [(26, .int ((f_X2_repay N B Bs (nI (zm yy)) (zp B yy)).1)), (25, .int (zp B yy)), (24, .int (f_X2_memberOf B (nI (zm yy)) 6)), (0, .ref (x 0)), (2, .int yy), (3, .int (nI (zm yy))), (4, .int (nI (zo yy))), (5, .int (nI (za yy))), (6, .int (f_X2_count N B 0)), (7, .int (f_X2_count N B 1)), (8, .int (f_X2_count N B 2)), (9, .int (f_X2_count N B 3)), (10, .int (f_X2_count N B 9)), (11, .int (f_X2_memberOf B (nI (zm yy)) 4))] → W p l e (headSpec wsL_acts (zrx 9 163 6 36)).room s m ([.ref (x 0), .int xx, .int yy] : List Value).toArray below meth c H locs 2 12 (MQ below (zM D (xmW cA x b rd X N ++ (bkW (cA 0) (b 0) B ++ (otW (cA 0) b Bs))) (xmW cA x b rd X ((f_L_acts N B Bs xx yy).1) ++ (bkW (cA 0) (b 0) ((f_L_acts N B Bs xx yy).2.1) ++ (otW (cA 0) b ((f_L_acts N B Bs xx yy).2.2)))) (some (.int 1))) ([.ref (x 0), .int xx, .int yy] : List Value).toArray s 6 36 (zfr (xmW cA x b rd X N ++ (bkW (cA 0) (b 0) B ++ (otW (cA 0) b Bs))))) (F0 m 825 ls [.int (if ((f_X2_repay N B Bs (nI (zm yy)) (zp B yy)).1) = (-1) then (1 : Int32) else 0)]) := by
        intro ls hl
        refine lv_iload hx hb dL_acts_825 (lv_at hl 1 rfl) ?_
        refine lv_iload hx hb dL_acts_827 (lv_at hl 2 rfl) ?_
        have sel_829 : ∀ (ls : Array Slot), lv_has ls 29 [(26, .int ((f_X2_repay N B Bs (nI (zm yy)) (zp B yy)).1)), (25, .int (zp B yy)), (24, .int (f_X2_memberOf B (nI (zm yy)) 6)), (0, .ref (x 0)), (2, .int yy), (3, .int (nI (zm yy))), (4, .int (nI (zo yy))), (5, .int (nI (za yy))), (6, .int (f_X2_count N B 0)), (7, .int (f_X2_count N B 1)), (8, .int (f_X2_count N B 2)), (9, .int (f_X2_count N B 3)), (10, .int (f_X2_count N B 9)), (11, .int (f_X2_memberOf B (nI (zm yy)) 4))] → W p l e (headSpec wsL_acts (zrx 9 163 6 36)).room s m ([.ref (x 0), .int xx, .int yy] : List Value).toArray below meth c H locs 2 12 (MQ below (zM D (xmW cA x b rd X N ++ (bkW (cA 0) (b 0) B ++ (otW (cA 0) b Bs))) (xmW cA x b rd X ((f_L_acts N B Bs xx yy).1) ++ (bkW (cA 0) (b 0) ((f_L_acts N B Bs xx yy).2.1) ++ (otW (cA 0) b ((f_L_acts N B Bs xx yy).2.2)))) (some (.int 1))) ([.ref (x 0), .int xx, .int yy] : List Value).toArray s 6 36 (zfr (xmW cA x b rd X N ++ (bkW (cA 0) (b 0) B ++ (otW (cA 0) b Bs))))) (F0 m 837 ls [.int (if (zp B yy) ≤ (f_X2_memberOf B (nI (zm yy)) 6) then (0 : Int32) else 1), .int (if ((f_X2_repay N B Bs (nI (zm yy)) (zp B yy)).1) = (-1) then (1 : Int32) else 0)]) := by
          intro ls hl
          refine lv_icmp_ne (tgt := 898) hx hb dL_acts_837 (by decide) (fun c_17 => by exact absurd (hf_837) c_17) (fun _ => ?_)
          refine lv_iload hx hb dL_acts_840 (lv_at hl 0 rfl) ?_
          refine lv_iconst (v := (-1)) hx hb dL_acts_842 (by decide) ?_
          have sel_843 : ∀ (ls : Array Slot), lv_has ls 29 [(26, .int ((f_X2_repay N B Bs (nI (zm yy)) (zp B yy)).1)), (25, .int (zp B yy)), (24, .int (f_X2_memberOf B (nI (zm yy)) 6)), (0, .ref (x 0)), (2, .int yy), (3, .int (nI (zm yy))), (4, .int (nI (zo yy))), (5, .int (nI (za yy))), (6, .int (f_X2_count N B 0)), (7, .int (f_X2_count N B 1)), (8, .int (f_X2_count N B 2)), (9, .int (f_X2_count N B 3)), (10, .int (f_X2_count N B 9)), (11, .int (f_X2_memberOf B (nI (zm yy)) 4))] → W p l e (headSpec wsL_acts (zrx 9 163 6 36)).room s m ([.ref (x 0), .int xx, .int yy] : List Value).toArray below meth c H locs 2 12 (MQ below (zM D (xmW cA x b rd X N ++ (bkW (cA 0) (b 0) B ++ (otW (cA 0) b Bs))) (xmW cA x b rd X ((f_L_acts N B Bs xx yy).1) ++ (bkW (cA 0) (b 0) ((f_L_acts N B Bs xx yy).2.1) ++ (otW (cA 0) b ((f_L_acts N B Bs xx yy).2.2)))) (some (.int 1))) ([.ref (x 0), .int xx, .int yy] : List Value).toArray s 6 36 (zfr (xmW cA x b rd X N ++ (bkW (cA 0) (b 0) B ++ (otW (cA 0) b Bs))))) (F0 m 894 ls []) := by
            intro ls hl
            refine lv_iconst (v := 1) hx hb dL_acts_894 (by decide) ?_
            refine lv_goto (tgt := 899) hx hb dL_acts_895 (by decide) ?_
            refine W.widen (k := 6) (n := 36) (Nat.le_of_ble_eq_true rfl) (Nat.le_of_ble_eq_true rfl) ?_
            exact z_zretM (w1 := xmW cA x b rd X ((f_X2_repay N B Bs (nI (zm yy)) (zp B yy)).2.1) ++ (bkW (cA 0) (b 0) ((f_X2_repay N B Bs (nI (zm yy)) (zp B yy)).2.2.1) ++ (otW (cA 0) b ((f_X2_repay N B Bs (nI (zm yy)) (zp B yy)).2.2.2)))) hx hb hr hlocks dL_acts_899 hP hS rfl rfl (by rw [hres_775]; first | (simp -proj only [f_L_acts_775]; first | done | rfl; done) | rfl)
          refine lv_icmp_eq (tgt := 894) hx hb dL_acts_843 (by decide) (fun c_18 => ?_) (fun c_18 => ?_)
          · exact sel_843 ls (lv_sub hl [0, 1, 2, 3, 4, 5, 6, 7, 8, 9, 10, 11, 12, 13] rfl)
          · refine lv_iload hx hb dL_acts_846 (lv_at hl 0 rfl) ?_
            refine lv_iload hx hb dL_acts_848 (lv_at hl 2 rfl) ?_
            refine lv_iload hx hb dL_acts_850 (lv_at hl 1 rfl) ?_
            refine lv_isub hx hb dL_acts_852 ?_
            refine lv_icmp_ne (tgt := 898) hx hb dL_acts_853 (by decide) (fun c_19 => by exact absurd (hf_853 c_18) c_19) (fun _ => ?_)
            refine lv_aload_n hx hb dL_acts_856 rfl (lv_at hl 3 rfl) ?_
            refine lv_iconst (v := 3) hx hb dL_acts_857 (by decide) ?_
            refine zv_E (vx_runV (As := [.int 3]) (rest := []) ⟨hx, hb, hml, hown, hts⟩ (zk_X2_count l hfl D cA b rd x X ((f_X2_repay N B Bs (nI (zm yy)) (zp B yy)).2.1) ((f_X2_repay N B Bs (nI (zm yy)) (zp B yy)).2.2.1) 3) (cwV 1 hts gL_acts_X2_count rfl rfl rfl zy_X2_count ⟨(Nat.le_of_ble_eq_true rfl), (Nat.le_of_ble_eq_true rfl)⟩) (zx_preVq (A := (zfr (xmW cA x b rd X N ++ (bkW (cA 0) (b 0) B ++ (otW (cA 0) b Bs))))) (ci := 2) (q0 := 0) hK (hP.sub (ws' := xmW cA x b rd X ((f_X2_repay N B Bs (nI (zm yy)) (zp B yy)).2.1) ++ (bkW (cA 0) (b 0) ((f_X2_repay N B Bs (nI (zm yy)) (zp B yy)).2.2.1))) [0, 1, 2, 3, 4, 5, 6, 7, 8, 9, 10, 11, 12, 13, 14] rfl) (hD.sub (ws' := xmW cA x b rd X ((f_X2_repay N B Bs (nI (zm yy)) (zp B yy)).2.1) ++ (bkW (cA 0) (b 0) ((f_X2_repay N B Bs (nI (zm yy)) (zp B yy)).2.2.1))) [0, 1, 2, 3, 4, 5, 6, 7, 8, 9, 10, 11, 12, 13, 14] (by decide) rfl) hO hS (zD_fr (hD.sub (ws' := xmW cA x b rd X ((f_X2_repay N B Bs (nI (zm yy)) (zp B yy)).2.1) ++ (bkW (cA 0) (b 0) ((f_X2_repay N B Bs (nI (zm yy)) (zp B yy)).2.2.1))) [0, 1, 2, 3, 4, 5, 6, 7, 8, 9, 10, 11, 12, 13, 14] (by decide) rfl)) rfl rfl) rfl rfl hl.1 rfl (lv_room (Nat.le_of_ble_eq_true rfl)) dL_acts_858 ⟨Nat.le_of_ble_eq_true rfl, Nat.le_of_ble_eq_true rfl⟩) (zva_no ⟨⟨by decide, by decide⟩, trivial⟩) rfl ?_
            refine lv_iload hx hb dL_acts_861 (lv_at hl 11 rfl) ?_
            refine lv_iload hx hb dL_acts_863 (lv_at hl 1 rfl) ?_
            refine lv_isub hx hb dL_acts_865 ?_
            refine lv_icmp_ne (tgt := 898) hx hb dL_acts_866 (by decide) (fun c_20 => by exact absurd (hf_866 c_18) c_20) (fun _ => ?_)
            refine lv_aload_n hx hb dL_acts_869 rfl (lv_at hl 3 rfl) ?_
            refine lv_iconst (v := 0) hx hb dL_acts_870 (by decide) ?_
            refine zv_E (vx_runV (As := [.int 0]) (rest := []) ⟨hx, hb, hml, hown, hts⟩ (zk_X2_count l hfl D cA b rd x X ((f_X2_repay N B Bs (nI (zm yy)) (zp B yy)).2.1) ((f_X2_repay N B Bs (nI (zm yy)) (zp B yy)).2.2.1) 0) (cwV 1 hts gL_acts_X2_count rfl rfl rfl zy_X2_count ⟨(Nat.le_of_ble_eq_true rfl), (Nat.le_of_ble_eq_true rfl)⟩) (zx_preVq (A := (zfr (xmW cA x b rd X N ++ (bkW (cA 0) (b 0) B ++ (otW (cA 0) b Bs))))) (ci := 2) (q0 := 0) hK (hP.sub (ws' := xmW cA x b rd X ((f_X2_repay N B Bs (nI (zm yy)) (zp B yy)).2.1) ++ (bkW (cA 0) (b 0) ((f_X2_repay N B Bs (nI (zm yy)) (zp B yy)).2.2.1))) [0, 1, 2, 3, 4, 5, 6, 7, 8, 9, 10, 11, 12, 13, 14] rfl) (hD.sub (ws' := xmW cA x b rd X ((f_X2_repay N B Bs (nI (zm yy)) (zp B yy)).2.1) ++ (bkW (cA 0) (b 0) ((f_X2_repay N B Bs (nI (zm yy)) (zp B yy)).2.2.1))) [0, 1, 2, 3, 4, 5, 6, 7, 8, 9, 10, 11, 12, 13, 14] (by decide) rfl) hO hS (zD_fr (hD.sub (ws' := xmW cA x b rd X ((f_X2_repay N B Bs (nI (zm yy)) (zp B yy)).2.1) ++ (bkW (cA 0) (b 0) ((f_X2_repay N B Bs (nI (zm yy)) (zp B yy)).2.2.1))) [0, 1, 2, 3, 4, 5, 6, 7, 8, 9, 10, 11, 12, 13, 14] (by decide) rfl)) rfl rfl) rfl rfl hl.1 rfl (lv_room (Nat.le_of_ble_eq_true rfl)) dL_acts_871 ⟨Nat.le_of_ble_eq_true rfl, Nat.le_of_ble_eq_true rfl⟩) (zva_no ⟨⟨by decide, by decide⟩, trivial⟩) rfl ?_
            refine lv_iload hx hb dL_acts_874 (lv_at hl 8 rfl) ?_
            refine lv_iload hx hb dL_acts_876 (lv_at hl 1 rfl) ?_
            refine lv_iadd hx hb dL_acts_878 ?_
            refine lv_icmp_ne (tgt := 898) hx hb dL_acts_879 (by decide) (fun c_21 => by exact absurd (hf_879 c_18) c_21) (fun _ => ?_)
            refine lv_aload_n hx hb dL_acts_882 rfl (lv_at hl 3 rfl) ?_
            refine lv_iload_n hx hb dL_acts_883 rfl (lv_at hl 5 rfl) ?_
            refine lv_bipush (v := 6) hx hb dL_acts_884 (by decide) ?_
            refine zv_E (vx_runV (As := [.int (nI (zm yy)), .int 6]) (rest := []) ⟨hx, hb, hml, hown, hts⟩ (zk_X2_memberOf l hfl D cA b rd x X ((f_X2_repay N B Bs (nI (zm yy)) (zp B yy)).2.1) ((f_X2_repay N B Bs (nI (zm yy)) (zp B yy)).2.2.1) (nI (zm yy)) 6) (cwV 2 hts gL_acts_X2_memberOf rfl rfl rfl zy_X2_memberOf ⟨(Nat.le_of_ble_eq_true rfl), (Nat.le_of_ble_eq_true rfl)⟩) (zx_preVq (A := (zfr (xmW cA x b rd X N ++ (bkW (cA 0) (b 0) B ++ (otW (cA 0) b Bs))))) (ci := 2) (q0 := 0) hK (hP.sub (ws' := xmW cA x b rd X ((f_X2_repay N B Bs (nI (zm yy)) (zp B yy)).2.1) ++ (bkW (cA 0) (b 0) ((f_X2_repay N B Bs (nI (zm yy)) (zp B yy)).2.2.1))) [0, 1, 2, 3, 4, 5, 6, 7, 8, 9, 10, 11, 12, 13, 14] rfl) (hD.sub (ws' := xmW cA x b rd X ((f_X2_repay N B Bs (nI (zm yy)) (zp B yy)).2.1) ++ (bkW (cA 0) (b 0) ((f_X2_repay N B Bs (nI (zm yy)) (zp B yy)).2.2.1))) [0, 1, 2, 3, 4, 5, 6, 7, 8, 9, 10, 11, 12, 13, 14] (by decide) rfl) hO hS (zD_fr (hD.sub (ws' := xmW cA x b rd X ((f_X2_repay N B Bs (nI (zm yy)) (zp B yy)).2.1) ++ (bkW (cA 0) (b 0) ((f_X2_repay N B Bs (nI (zm yy)) (zp B yy)).2.2.1))) [0, 1, 2, 3, 4, 5, 6, 7, 8, 9, 10, 11, 12, 13, 14] (by decide) rfl)) rfl rfl) rfl rfl hl.1 rfl (lv_room (Nat.le_of_ble_eq_true rfl)) dL_acts_886 ⟨Nat.le_of_ble_eq_true rfl, Nat.le_of_ble_eq_true rfl⟩) (zva_no ⟨⟨(zm yy), by omega, rfl⟩, ⟨by decide, by decide⟩, trivial⟩) rfl ?_
            refine lv_iload hx hb dL_acts_889 (lv_at hl 0 rfl) ?_
            refine lv_icmp_ne (tgt := 898) hx hb dL_acts_891 (by decide) (fun c_22 => by exact absurd (hf_891 c_18) c_22) (fun _ => ?_)
            exact sel_843 ls (lv_sub hl [0, 1, 2, 3, 4, 5, 6, 7, 8, 9, 10, 11, 12, 13] rfl)
        refine lv_icmp_le (tgt := 836) hx hb dL_acts_829 (by decide) (fun c_16 => ?_) (fun c_16 => ?_)
        · refine lv_iconst (v := 0) hx hb dL_acts_836 (by decide) ?_
          refine z_top (y := if (zp B yy) ≤ (f_X2_memberOf B (nI (zm yy)) 6) then (0 : Int32) else 1) (by rw [if_pos c_16]) ?_; exact sel_829 ls (lv_sub hl [0, 1, 2, 3, 4, 5, 6, 7, 8, 9, 10, 11, 12, 13] rfl)
        · refine lv_iconst (v := 1) hx hb dL_acts_832 (by decide) ?_
          refine lv_goto (tgt := 837) hx hb dL_acts_833 (by decide) ?_
          refine z_top (y := if (zp B yy) ≤ (f_X2_memberOf B (nI (zm yy)) 6) then (0 : Int32) else 1) (by rw [if_neg c_16]) ?_; exact sel_829 ls (lv_sub hl [0, 1, 2, 3, 4, 5, 6, 7, 8, 9, 10, 11, 12, 13] rfl)
      refine lv_icmp_ne (tgt := 824) hx hb dL_acts_817 (by decide) (fun c_15 => ?_) (fun c_15 => ?_)
      · refine lv_iconst (v := 0) hx hb dL_acts_824 (by decide) ?_
        refine z_top (y := if ((f_X2_repay N B Bs (nI (zm yy)) (zp B yy)).1) = (-1) then (1 : Int32) else 0) (by rw [if_neg c_15]) ?_; exact sel_817 ls (lv_sub hl [0, 1, 2, 3, 4, 5, 6, 7, 8, 9, 10, 11, 12, 13] rfl)
      · refine lv_iconst (v := 1) hx hb dL_acts_820 (by decide) ?_
        refine lv_goto (tgt := 825) hx hb dL_acts_821 (by decide) ?_
        refine z_top (y := if ((f_X2_repay N B Bs (nI (zm yy)) (zp B yy)).1) = (-1) then (1 : Int32) else 0) (by rw [if_pos c_15]) ?_; exact sel_817 ls (lv_sub hl [0, 1, 2, 3, 4, 5, 6, 7, 8, 9, 10, 11, 12, 13] rfl)
    refine lv_if_le (tgt := 801) hx hb dL_acts_786 (by decide) (fun c_13 => ?_) (fun c_13 => ?_)
    · refine lv_iload hx hb dL_acts_801 (lv_at hl 5 rfl) ?_
      refine z_top (y := if (f_X2_memberOf B (nI (zm yy)) 6) ≤ 0 then (nI (za yy) : Int32) else if (nI (za yy)) ≤ (f_X2_memberOf B (nI (zm yy)) 6) then (nI (za yy) : Int32) else f_X2_memberOf B (nI (zm yy)) 6) (by rw [if_pos c_13]) ?_; exact sel_786 ls (lv_sub hl [0, 1, 2, 3, 4, 5, 6, 7, 8, 9, 10, 11] rfl)
    · refine lv_iload hx hb dL_acts_789 (lv_at hl 5 rfl) ?_
      refine lv_iload hx hb dL_acts_791 (lv_at hl 0 rfl) ?_
      have sel_793 : ∀ (ls : Array Slot), lv_has ls 29 [(24, .int (f_X2_memberOf B (nI (zm yy)) 6)), (0, .ref (x 0)), (2, .int yy), (3, .int (nI (zm yy))), (4, .int (nI (zo yy))), (5, .int (nI (za yy))), (6, .int (f_X2_count N B 0)), (7, .int (f_X2_count N B 1)), (8, .int (f_X2_count N B 2)), (9, .int (f_X2_count N B 3)), (10, .int (f_X2_count N B 9)), (11, .int (f_X2_memberOf B (nI (zm yy)) 4))] → W p l e (headSpec wsL_acts (zrx 9 163 6 36)).room s m ([.ref (x 0), .int xx, .int yy] : List Value).toArray below meth c H locs 0 0 (MQ below (zM D (xmW cA x b rd X N ++ (bkW (cA 0) (b 0) B ++ (otW (cA 0) b Bs))) (xmW cA x b rd X ((f_L_acts N B Bs xx yy).1) ++ (bkW (cA 0) (b 0) ((f_L_acts N B Bs xx yy).2.1) ++ (otW (cA 0) b ((f_L_acts N B Bs xx yy).2.2)))) (some (.int 1))) ([.ref (x 0), .int xx, .int yy] : List Value).toArray s 6 36 (zfr (xmW cA x b rd X N ++ (bkW (cA 0) (b 0) B ++ (otW (cA 0) b Bs))))) (F0 m 803 ls [.int (if (nI (za yy)) ≤ (f_X2_memberOf B (nI (zm yy)) 6) then (nI (za yy) : Int32) else f_X2_memberOf B (nI (zm yy)) 6)]) := by
        intro ls hl
        refine z_top (y := if (f_X2_memberOf B (nI (zm yy)) 6) ≤ 0 then (nI (za yy) : Int32) else if (nI (za yy)) ≤ (f_X2_memberOf B (nI (zm yy)) 6) then (nI (za yy) : Int32) else f_X2_memberOf B (nI (zm yy)) 6) (by rw [if_neg c_13]) ?_; exact sel_786 ls (lv_sub hl [0, 1, 2, 3, 4, 5, 6, 7, 8, 9, 10, 11] rfl)
      refine lv_icmp_le (tgt := 801) hx hb dL_acts_793 (by decide) (fun c_14 => ?_) (fun c_14 => ?_)
      · refine lv_iload hx hb dL_acts_801 (lv_at hl 5 rfl) ?_
        refine z_top (y := if (nI (za yy)) ≤ (f_X2_memberOf B (nI (zm yy)) 6) then (nI (za yy) : Int32) else f_X2_memberOf B (nI (zm yy)) 6) (by rw [if_pos c_14]) ?_; exact sel_793 ls (lv_sub hl [0, 1, 2, 3, 4, 5, 6, 7, 8, 9, 10, 11] rfl)
      · refine lv_iload hx hb dL_acts_796 (lv_at hl 0 rfl) ?_
        refine lv_goto (tgt := 803) hx hb dL_acts_798 (by decide) ?_
        refine z_top (y := if (nI (za yy)) ≤ (f_X2_memberOf B (nI (zm yy)) 6) then (nI (za yy) : Int32) else f_X2_memberOf B (nI (zm yy)) 6) (by rw [if_neg c_14]) ?_; exact sel_793 ls (lv_sub hl [0, 1, 2, 3, 4, 5, 6, 7, 8, 9, 10, 11] rfl)
  have join_595 : f_L_acts N B Bs xx yy = f_L_acts_595 N B Bs xx yy → ∀ (H : Heap) (locs : List Loc), va_P D vwCl (xmW cA x b rd X N ++ (bkW (cA 0) (b 0) B ++ (otW (cA 0) b Bs))) H → va_D (zfr (xmW cA x b rd X N ++ (bkW (cA 0) (b 0) B ++ (otW (cA 0) b Bs)))) (xmW cA x b rd X N ++ (bkW (cA 0) (b 0) B ++ (otW (cA 0) b Bs))) → va_S (zfr (xmW cA x b rd X N ++ (bkW (cA 0) (b 0) B ++ (otW (cA 0) b Bs)))) s.heap H locs → ∀ (ls : Array Slot), lv_has ls 29 [(0, .ref (x 0)), (2, .int yy), (3, .int (nI (zm yy))), (4, .int (nI (zo yy))), (5, .int (nI (za yy))), (6, .int (f_X2_count N B 0)), (7, .int (f_X2_count N B 1)), (8, .int (f_X2_count N B 2)), (9, .int (f_X2_count N B 3)), (10, .int (f_X2_count N B 9)), (11, .int (f_X2_memberOf B (nI (zm yy)) 4))] → W p l e (headSpec wsL_acts (zrx 9 163 6 36)).room s m ([.ref (x 0), .int xx, .int yy] : List Value).toArray below meth c H locs 0 0 (MQ below (zM D (xmW cA x b rd X N ++ (bkW (cA 0) (b 0) B ++ (otW (cA 0) b Bs))) (xmW cA x b rd X ((f_L_acts N B Bs xx yy).1) ++ (bkW (cA 0) (b 0) ((f_L_acts N B Bs xx yy).2.1) ++ (otW (cA 0) b ((f_L_acts N B Bs xx yy).2.2)))) (some (.int 1))) ([.ref (x 0), .int xx, .int yy] : List Value).toArray s 6 36 (zfr (xmW cA x b rd X N ++ (bkW (cA 0) (b 0) B ++ (otW (cA 0) b Bs))))) (F0 m 595 ls []) := by
    intro hres_595 H locs hP hD hS ls hl
    obtain ⟨hf_649, hf_704, hf_715, hf_728, hf_744, hf_756, hf_766, hf_679, hf_689⟩ := hF_595
    refine lv_iconst (v := 1) hx hb dL_acts_595 (by decide) ?_
    refine lv_iload_n hx hb dL_acts_596 rfl (lv_at hl 1 rfl) ?_
    refine lv_bipush (v := 10) hx hb dL_acts_597 (by decide) ?_
    refine lv_ishr hx hb dL_acts_599 ?_
    refine lv_bipush (v := 52) hx hb dL_acts_600 (by decide) ?_
    refine z_E (va_runS (As := [.int ((yy : Int32) >>> (10 &&& 31)), .int 52]) (rest := [.int 1]) ⟨hx, hb, hml, hown, hts⟩ (zc_L_up l D cA ((yy : Int32) >>> (10 &&& 31)) 52 (zu_ne (n := 52) (by decide) (by decide))) (va_cwS 2 hts gL_acts_L_up rfl rfl rfl zy_L_up.2 ⟨(Nat.le_of_ble_eq_true rfl), (Nat.le_of_ble_eq_true rfl)⟩) (z_preS hK z_P0 (z_D0 (A := fun _ => True))) rfl rfl hl.1 rfl (lv_room (Nat.le_of_ble_eq_true rfl)) dL_acts_602 ⟨Nat.le_of_ble_eq_true rfl, Nat.le_of_ble_eq_true rfl⟩) rfl ?_
    refine z_top (y := nI (zu ((yy : Int32) >>> (10 &&& 31)) 52)) (zu_eq ((yy : Int32) >>> (10 &&& 31)) (n := 52) (by decide) (by decide)) ?_
    have hu_602 := zu_lt ((yy : Int32) >>> (10 &&& 31)) (n := 52) (by decide) (by decide)
    refine lv_iadd hx hb dL_acts_605 ?_
    refine z_top (nI_add 1 (zu ((yy : Int32) >>> (10 &&& 31)) 52)) ?_
    refine z_top (y := nI (zw yy)) rfl ?_
    refine lv_istore (lv' := [(19, .int (nI (zw yy))), (0, .ref (x 0)), (2, .int yy), (3, .int (nI (zm yy))), (4, .int (nI (zo yy))), (5, .int (nI (za yy))), (6, .int (f_X2_count N B 0)), (7, .int (f_X2_count N B 1)), (8, .int (f_X2_count N B 2)), (9, .int (f_X2_count N B 3)), (10, .int (f_X2_count N B 9)), (11, .int (f_X2_memberOf B (nI (zm yy)) 4))]) hx hb dL_acts_606 hl (by decide) rfl (fun ls hl => ?_)
    refine lv_aload_n hx hb dL_acts_608 rfl (lv_at hl 1 rfl) ?_
    refine lv_iload_n hx hb dL_acts_609 rfl (lv_at hl 3 rfl) ?_
    refine lv_iload hx hb dL_acts_610 (lv_at hl 5 rfl) ?_
    refine zv_E (vx_runV (As := [.int (nI (zm yy)), .int (nI (za yy))]) (rest := []) ⟨hx, hb, hml, hown, hts⟩ (zk_X2_whyNot l hfl D cA b rd x X N B (nI (zm yy)) (nI (za yy))) (cwV 2 hts gL_acts_X2_whyNot rfl rfl rfl zy_X2_whyNot ⟨(Nat.le_of_ble_eq_true rfl), (Nat.le_of_ble_eq_true rfl)⟩) (zx_preVq (A := (zfr (xmW cA x b rd X N ++ (bkW (cA 0) (b 0) B ++ (otW (cA 0) b Bs))))) (ci := 2) (q0 := 0) hK (hP.sub (ws' := xmW cA x b rd X N ++ (bkW (cA 0) (b 0) B)) [0, 1, 2, 3, 4, 5, 6, 7, 8, 9, 10, 11, 12, 13, 14] rfl) (hD.sub (ws' := xmW cA x b rd X N ++ (bkW (cA 0) (b 0) B)) [0, 1, 2, 3, 4, 5, 6, 7, 8, 9, 10, 11, 12, 13, 14] (by decide) rfl) hO hS (zD_fr (hD.sub (ws' := xmW cA x b rd X N ++ (bkW (cA 0) (b 0) B)) [0, 1, 2, 3, 4, 5, 6, 7, 8, 9, 10, 11, 12, 13, 14] (by decide) rfl)) rfl rfl) rfl rfl hl.1 rfl (lv_room (Nat.le_of_ble_eq_true rfl)) dL_acts_612 ⟨Nat.le_of_ble_eq_true rfl, Nat.le_of_ble_eq_true rfl⟩) (zva_no ⟨⟨(zm yy), by omega, rfl⟩, (zrgN (a := 1) (b := 9999) (by omega) (by omega) (by omega)), trivial⟩) rfl ?_
    refine lv_istore (lv' := [(20, .int (f_X2_whyNot B (nI (zm yy)) (nI (za yy)))), (19, .int (nI (zw yy))), (0, .ref (x 0)), (2, .int yy), (3, .int (nI (zm yy))), (4, .int (nI (zo yy))), (5, .int (nI (za yy))), (6, .int (f_X2_count N B 0)), (7, .int (f_X2_count N B 1)), (8, .int (f_X2_count N B 2)), (9, .int (f_X2_count N B 3)), (10, .int (f_X2_count N B 9)), (11, .int (f_X2_memberOf B (nI (zm yy)) 4))]) hx hb dL_acts_615 hl (by decide) rfl (fun ls hl => ?_)
    refine lv_aload_n hx hb dL_acts_617 rfl (lv_at hl 2 rfl) ?_
    refine lv_iconst (v := 5) hx hb dL_acts_618 (by decide) ?_
    refine zv_E (vx_runV (As := [.int 5]) (rest := []) ⟨hx, hb, hml, hown, hts⟩ (zk_X2_count l hfl D cA b rd x X N B 5) (cwV 1 hts gL_acts_X2_count rfl rfl rfl zy_X2_count ⟨(Nat.le_of_ble_eq_true rfl), (Nat.le_of_ble_eq_true rfl)⟩) (zx_preVq (A := (zfr (xmW cA x b rd X N ++ (bkW (cA 0) (b 0) B ++ (otW (cA 0) b Bs))))) (ci := 2) (q0 := 0) hK (hP.sub (ws' := xmW cA x b rd X N ++ (bkW (cA 0) (b 0) B)) [0, 1, 2, 3, 4, 5, 6, 7, 8, 9, 10, 11, 12, 13, 14] rfl) (hD.sub (ws' := xmW cA x b rd X N ++ (bkW (cA 0) (b 0) B)) [0, 1, 2, 3, 4, 5, 6, 7, 8, 9, 10, 11, 12, 13, 14] (by decide) rfl) hO hS (zD_fr (hD.sub (ws' := xmW cA x b rd X N ++ (bkW (cA 0) (b 0) B)) [0, 1, 2, 3, 4, 5, 6, 7, 8, 9, 10, 11, 12, 13, 14] (by decide) rfl)) rfl rfl) rfl rfl hl.1 rfl (lv_room (Nat.le_of_ble_eq_true rfl)) dL_acts_619 ⟨Nat.le_of_ble_eq_true rfl, Nat.le_of_ble_eq_true rfl⟩) (zva_no ⟨⟨by decide, by decide⟩, trivial⟩) rfl ?_
    refine lv_istore (lv' := [(21, .int (f_X2_count N B 5)), (20, .int (f_X2_whyNot B (nI (zm yy)) (nI (za yy)))), (19, .int (nI (zw yy))), (0, .ref (x 0)), (2, .int yy), (3, .int (nI (zm yy))), (4, .int (nI (zo yy))), (5, .int (nI (za yy))), (6, .int (f_X2_count N B 0)), (7, .int (f_X2_count N B 1)), (8, .int (f_X2_count N B 2)), (9, .int (f_X2_count N B 3)), (10, .int (f_X2_count N B 9)), (11, .int (f_X2_memberOf B (nI (zm yy)) 4))]) hx hb dL_acts_622 hl (by decide) rfl (fun ls hl => ?_)
    refine lv_iload hx hb dL_acts_624 (lv_at hl 7 rfl) ?_
    refine lv_aload_n hx hb dL_acts_626 rfl (lv_at hl 3 rfl) ?_
    refine lv_iconst (v := 0) hx hb dL_acts_627 (by decide) ?_
    refine zv_E (vx_runV (As := [.int 0]) (rest := [.int (nI (za yy))]) ⟨hx, hb, hml, hown, hts⟩ (zk_X2_setting l hfl D cA b rd x X N B 0) (cwV 1 hts gL_acts_X2_setting rfl rfl rfl zy_X2_setting ⟨(Nat.le_of_ble_eq_true rfl), (Nat.le_of_ble_eq_true rfl)⟩) (zx_preVq (A := (zfr (xmW cA x b rd X N ++ (bkW (cA 0) (b 0) B ++ (otW (cA 0) b Bs))))) (ci := 2) (q0 := 0) hK (hP.sub (ws' := xmW cA x b rd X N ++ (bkW (cA 0) (b 0) B)) [0, 1, 2, 3, 4, 5, 6, 7, 8, 9, 10, 11, 12, 13, 14] rfl) (hD.sub (ws' := xmW cA x b rd X N ++ (bkW (cA 0) (b 0) B)) [0, 1, 2, 3, 4, 5, 6, 7, 8, 9, 10, 11, 12, 13, 14] (by decide) rfl) hO hS (zD_fr (hD.sub (ws' := xmW cA x b rd X N ++ (bkW (cA 0) (b 0) B)) [0, 1, 2, 3, 4, 5, 6, 7, 8, 9, 10, 11, 12, 13, 14] (by decide) rfl)) rfl rfl) rfl rfl hl.1 rfl (lv_room (Nat.le_of_ble_eq_true rfl)) dL_acts_628 ⟨Nat.le_of_ble_eq_true rfl, Nat.le_of_ble_eq_true rfl⟩) (zva_no ⟨⟨0, by decide, rfl⟩, trivial⟩) rfl ?_
    refine lv_imul hx hb dL_acts_631 ?_
    refine lv_sipush (v := 1000) hx hb dL_acts_632 (by decide) ?_
    refine lv_idiv hx hb dL_acts_635 (by decide) ?_
    refine lv_istore (lv' := [(22, .int (((nI (za yy)) * (f_X2_setting B 0)) / 1000)), (21, .int (f_X2_count N B 5)), (20, .int (f_X2_whyNot B (nI (zm yy)) (nI (za yy)))), (19, .int (nI (zw yy))), (0, .ref (x 0)), (2, .int yy), (3, .int (nI (zm yy))), (4, .int (nI (zo yy))), (5, .int (nI (za yy))), (6, .int (f_X2_count N B 0)), (7, .int (f_X2_count N B 1)), (8, .int (f_X2_count N B 2)), (9, .int (f_X2_count N B 3)), (10, .int (f_X2_count N B 9)), (11, .int (f_X2_memberOf B (nI (zm yy)) 4))]) hx hb dL_acts_636 hl (by decide) rfl (fun ls hl => ?_)
    refine lv_aload_n hx hb dL_acts_638 rfl (lv_at hl 4 rfl) ?_
    refine lv_iload_n hx hb dL_acts_639 rfl (lv_at hl 6 rfl) ?_
    refine lv_iload hx hb dL_acts_640 (lv_at hl 8 rfl) ?_
    refine lv_iload hx hb dL_acts_642 (lv_at hl 3 rfl) ?_
    refine zv_M (X := ([] : va_W)) (Z := ([] : va_W)) (vx_runV (As := [.int (nI (zm yy)), .int (nI (za yy)), .int (nI (zw yy))]) (rest := []) ⟨hx, hb, hml, hown, hts⟩ (zk_X2_borrow l hfl D cA b rd x X N B Bs (nI (zm yy)) (nI (za yy)) (nI (zw yy)) hpm hsv2) (cwV 3 hts gL_acts_X2_borrow rfl rfl rfl zy_X2_borrow ⟨(Nat.le_of_ble_eq_true rfl), (Nat.le_of_ble_eq_true rfl)⟩) (zx_preVq (A := (zfr (xmW cA x b rd X N ++ (bkW (cA 0) (b 0) B ++ (otW (cA 0) b Bs))))) (ci := 2) (q0 := 0) hK hP hD hO hS (zD_fr hD) rfl rfl) rfl rfl hl.1 rfl (lv_room (Nat.le_of_ble_eq_true rfl)) dL_acts_644 ⟨Nat.le_of_ble_eq_true rfl, Nat.le_of_ble_eq_true rfl⟩) (zva_no ⟨⟨(zm yy), by omega, rfl⟩, (zrgN (a := 1) (b := 9999) (by omega) (by omega) (by omega)), (zrgN (a := 1) (b := 52) (by omega) (by omega) (by omega)), trivial⟩) hP hD hS (z_adr2 xmW_adr (z_adr2 bkW_adr otW_adr)) rfl (fun H locs hP9 hD9 hS9 => ?_)
    replace hP : va_P D vwCl (xmW cA x b rd X ((f_X2_borrow N B Bs (nI (zm yy)) (nI (za yy)) (nI (zw yy))).2.1) ++ (bkW (cA 0) (b 0) ((f_X2_borrow N B Bs (nI (zm yy)) (nI (za yy)) (nI (zw yy))).2.2.1) ++ (otW (cA 0) b ((f_X2_borrow N B Bs (nI (zm yy)) (nI (za yy)) (nI (zw yy))).2.2.2)))) H := hP9
    replace hD : va_D _ (xmW cA x b rd X ((f_X2_borrow N B Bs (nI (zm yy)) (nI (za yy)) (nI (zw yy))).2.1) ++ (bkW (cA 0) (b 0) ((f_X2_borrow N B Bs (nI (zm yy)) (nI (za yy)) (nI (zw yy))).2.2.1) ++ (otW (cA 0) b ((f_X2_borrow N B Bs (nI (zm yy)) (nI (za yy)) (nI (zw yy))).2.2.2)))) := hD9
    replace hS := hS9
    clear hP9 hD9 hS9
    refine lv_iload hx hb dL_acts_647 (lv_at hl 2 rfl) ?_
    refine lv_icmp_ne (tgt := 656) hx hb dL_acts_649 (by decide) (fun c_23 => by exact absurd (hf_649) c_23) (fun _ => ?_)
    refine lv_iconst (v := 1) hx hb dL_acts_652 (by decide) ?_
    refine lv_goto (tgt := 657) hx hb dL_acts_653 (by decide) ?_
    refine lv_istore (lv' := [(23, .int 1), (22, .int (((nI (za yy)) * (f_X2_setting B 0)) / 1000)), (21, .int (f_X2_count N B 5)), (20, .int (f_X2_whyNot B (nI (zm yy)) (nI (za yy)))), (19, .int (nI (zw yy))), (0, .ref (x 0)), (2, .int yy), (3, .int (nI (zm yy))), (4, .int (nI (zo yy))), (5, .int (nI (za yy))), (6, .int (f_X2_count N B 0)), (7, .int (f_X2_count N B 1)), (8, .int (f_X2_count N B 2)), (9, .int (f_X2_count N B 3)), (10, .int (f_X2_count N B 9)), (11, .int (f_X2_memberOf B (nI (zm yy)) 4))]) hx hb dL_acts_657 hl (by decide) rfl (fun ls hl => ?_)
    refine lv_iload hx hb dL_acts_659 (lv_at hl 0 rfl) ?_
    refine lv_if_eq (tgt := 773) hx hb dL_acts_661 (by decide) (fun c_24 => absurd c_24 (by decide)) (fun _ => ?_)
    refine lv_iload hx hb dL_acts_664 (lv_at hl 3 rfl) ?_
    have sel_666 : ∀ (ls : Array Slot), lv_has ls 29 [(23, .int 1), (22, .int (((nI (za yy)) * (f_X2_setting B 0)) / 1000)), (21, .int (f_X2_count N B 5)), (20, .int (f_X2_whyNot B (nI (zm yy)) (nI (za yy)))), (19, .int (nI (zw yy))), (0, .ref (x 0)), (2, .int yy), (3, .int (nI (zm yy))), (4, .int (nI (zo yy))), (5, .int (nI (za yy))), (6, .int (f_X2_count N B 0)), (7, .int (f_X2_count N B 1)), (8, .int (f_X2_count N B 2)), (9, .int (f_X2_count N B 3)), (10, .int (f_X2_count N B 9)), (11, .int (f_X2_memberOf B (nI (zm yy)) 4))] → W p l e (headSpec wsL_acts (zrx 9 163 6 36)).room s m ([.ref (x 0), .int xx, .int yy] : List Value).toArray below meth c H locs 3 18 (MQ below (zM D (xmW cA x b rd X N ++ (bkW (cA 0) (b 0) B ++ (otW (cA 0) b Bs))) (xmW cA x b rd X ((f_L_acts N B Bs xx yy).1) ++ (bkW (cA 0) (b 0) ((f_L_acts N B Bs xx yy).2.1) ++ (otW (cA 0) b ((f_L_acts N B Bs xx yy).2.2)))) (some (.int 1))) ([.ref (x 0), .int xx, .int yy] : List Value).toArray s 6 36 (zfr (xmW cA x b rd X N ++ (bkW (cA 0) (b 0) B ++ (otW (cA 0) b Bs))))) (F0 m 769 ls []) := by
      intro ls hl
      refine lv_iconst (v := 1) hx hb dL_acts_769 (by decide) ?_
      refine lv_goto (tgt := 774) hx hb dL_acts_770 (by decide) ?_
      refine W.widen (k := 6) (n := 36) (Nat.le_of_ble_eq_true rfl) (Nat.le_of_ble_eq_true rfl) ?_
      exact z_zretM (w1 := xmW cA x b rd X ((f_X2_borrow N B Bs (nI (zm yy)) (nI (za yy)) (nI (zw yy))).2.1) ++ (bkW (cA 0) (b 0) ((f_X2_borrow N B Bs (nI (zm yy)) (nI (za yy)) (nI (zw yy))).2.2.1) ++ (otW (cA 0) b ((f_X2_borrow N B Bs (nI (zm yy)) (nI (za yy)) (nI (zw yy))).2.2.2)))) hx hb hr hlocks dL_acts_774 hP hS rfl rfl (by rw [hres_595]; first | (simp -proj only [f_L_acts_595]; first | done | rfl; done) | rfl)
    refine lv_if_le (tgt := 695) hx hb dL_acts_666 (by decide) (fun c_25 => ?_) (fun c_25 => ?_)
    · refine lv_aload_n hx hb dL_acts_695 rfl (lv_at hl 5 rfl) ?_
      refine lv_iload_n hx hb dL_acts_696 rfl (lv_at hl 7 rfl) ?_
      refine lv_bipush (v := 6) hx hb dL_acts_697 (by decide) ?_
      refine zv_E (vx_runV (As := [.int (nI (zm yy)), .int 6]) (rest := []) ⟨hx, hb, hml, hown, hts⟩ (zk_X2_memberOf l hfl D cA b rd x X ((f_X2_borrow N B Bs (nI (zm yy)) (nI (za yy)) (nI (zw yy))).2.1) ((f_X2_borrow N B Bs (nI (zm yy)) (nI (za yy)) (nI (zw yy))).2.2.1) (nI (zm yy)) 6) (cwV 2 hts gL_acts_X2_memberOf rfl rfl rfl zy_X2_memberOf ⟨(Nat.le_of_ble_eq_true rfl), (Nat.le_of_ble_eq_true rfl)⟩) (zx_preVq (A := (zfr (xmW cA x b rd X N ++ (bkW (cA 0) (b 0) B ++ (otW (cA 0) b Bs))))) (ci := 2) (q0 := 0) hK (hP.sub (ws' := xmW cA x b rd X ((f_X2_borrow N B Bs (nI (zm yy)) (nI (za yy)) (nI (zw yy))).2.1) ++ (bkW (cA 0) (b 0) ((f_X2_borrow N B Bs (nI (zm yy)) (nI (za yy)) (nI (zw yy))).2.2.1))) [0, 1, 2, 3, 4, 5, 6, 7, 8, 9, 10, 11, 12, 13, 14] rfl) (hD.sub (ws' := xmW cA x b rd X ((f_X2_borrow N B Bs (nI (zm yy)) (nI (za yy)) (nI (zw yy))).2.1) ++ (bkW (cA 0) (b 0) ((f_X2_borrow N B Bs (nI (zm yy)) (nI (za yy)) (nI (zw yy))).2.2.1))) [0, 1, 2, 3, 4, 5, 6, 7, 8, 9, 10, 11, 12, 13, 14] (by decide) rfl) hO hS (zD_fr (hD.sub (ws' := xmW cA x b rd X ((f_X2_borrow N B Bs (nI (zm yy)) (nI (za yy)) (nI (zw yy))).2.1) ++ (bkW (cA 0) (b 0) ((f_X2_borrow N B Bs (nI (zm yy)) (nI (za yy)) (nI (zw yy))).2.2.1))) [0, 1, 2, 3, 4, 5, 6, 7, 8, 9, 10, 11, 12, 13, 14] (by decide) rfl)) rfl rfl) rfl rfl hl.1 rfl (lv_room (Nat.le_of_ble_eq_true rfl)) dL_acts_699 ⟨Nat.le_of_ble_eq_true rfl, Nat.le_of_ble_eq_true rfl⟩) (zva_no ⟨⟨(zm yy), by omega, rfl⟩, ⟨by decide, by decide⟩, trivial⟩) rfl ?_
      refine lv_iload hx hb dL_acts_702 (lv_at hl 9 rfl) ?_
      refine lv_icmp_ne (tgt := 773) hx hb dL_acts_704 (by decide) (fun c_26 => by exact absurd (hf_704 c_25) c_26) (fun _ => ?_)
      refine lv_aload_n hx hb dL_acts_707 rfl (lv_at hl 5 rfl) ?_
      refine lv_iload_n hx hb dL_acts_708 rfl (lv_at hl 7 rfl) ?_
      refine lv_iconst (v := 0) hx hb dL_acts_709 (by decide) ?_
      refine zv_E (vx_runV (As := [.int (nI (zm yy)), .int 0]) (rest := []) ⟨hx, hb, hml, hown, hts⟩ (zk_X2_weeksLeft l hfl D cA b rd x X ((f_X2_borrow N B Bs (nI (zm yy)) (nI (za yy)) (nI (zw yy))).2.1) ((f_X2_borrow N B Bs (nI (zm yy)) (nI (za yy)) (nI (zw yy))).2.2.1) (nI (zm yy)) 0) (cwV 2 hts gL_acts_X2_weeksLeft rfl rfl rfl zy_X2_weeksLeft ⟨(Nat.le_of_ble_eq_true rfl), (Nat.le_of_ble_eq_true rfl)⟩) (zx_preVq (A := (zfr (xmW cA x b rd X N ++ (bkW (cA 0) (b 0) B ++ (otW (cA 0) b Bs))))) (ci := 2) (q0 := 0) hK (hP.sub (ws' := xmW cA x b rd X ((f_X2_borrow N B Bs (nI (zm yy)) (nI (za yy)) (nI (zw yy))).2.1) ++ (bkW (cA 0) (b 0) ((f_X2_borrow N B Bs (nI (zm yy)) (nI (za yy)) (nI (zw yy))).2.2.1))) [0, 1, 2, 3, 4, 5, 6, 7, 8, 9, 10, 11, 12, 13, 14] rfl) (hD.sub (ws' := xmW cA x b rd X ((f_X2_borrow N B Bs (nI (zm yy)) (nI (za yy)) (nI (zw yy))).2.1) ++ (bkW (cA 0) (b 0) ((f_X2_borrow N B Bs (nI (zm yy)) (nI (za yy)) (nI (zw yy))).2.2.1))) [0, 1, 2, 3, 4, 5, 6, 7, 8, 9, 10, 11, 12, 13, 14] (by decide) rfl) hO hS (zD_fr (hD.sub (ws' := xmW cA x b rd X ((f_X2_borrow N B Bs (nI (zm yy)) (nI (za yy)) (nI (zw yy))).2.1) ++ (bkW (cA 0) (b 0) ((f_X2_borrow N B Bs (nI (zm yy)) (nI (za yy)) (nI (zw yy))).2.2.1))) [0, 1, 2, 3, 4, 5, 6, 7, 8, 9, 10, 11, 12, 13, 14] (by decide) rfl)) rfl rfl) rfl rfl hl.1 rfl (lv_room (Nat.le_of_ble_eq_true rfl)) dL_acts_710 ⟨Nat.le_of_ble_eq_true rfl, Nat.le_of_ble_eq_true rfl⟩) (zva_no ⟨⟨(zm yy), by omega, rfl⟩, ⟨by decide, by decide⟩, trivial⟩) rfl ?_
      refine lv_iload hx hb dL_acts_713 (lv_at hl 4 rfl) ?_
      refine lv_icmp_gt (tgt := 773) hx hb dL_acts_715 (by decide) (fun c_27 => by exact absurd c_27 (hf_715 c_25)) (fun _ => ?_)
      refine lv_aload_n hx hb dL_acts_718 rfl (lv_at hl 5 rfl) ?_
      refine lv_iconst (v := 1) hx hb dL_acts_719 (by decide) ?_
      refine zv_E (vx_runV (As := [.int 1]) (rest := []) ⟨hx, hb, hml, hown, hts⟩ (zk_X2_count l hfl D cA b rd x X ((f_X2_borrow N B Bs (nI (zm yy)) (nI (za yy)) (nI (zw yy))).2.1) ((f_X2_borrow N B Bs (nI (zm yy)) (nI (za yy)) (nI (zw yy))).2.2.1) 1) (cwV 1 hts gL_acts_X2_count rfl rfl rfl zy_X2_count ⟨(Nat.le_of_ble_eq_true rfl), (Nat.le_of_ble_eq_true rfl)⟩) (zx_preVq (A := (zfr (xmW cA x b rd X N ++ (bkW (cA 0) (b 0) B ++ (otW (cA 0) b Bs))))) (ci := 2) (q0 := 0) hK (hP.sub (ws' := xmW cA x b rd X ((f_X2_borrow N B Bs (nI (zm yy)) (nI (za yy)) (nI (zw yy))).2.1) ++ (bkW (cA 0) (b 0) ((f_X2_borrow N B Bs (nI (zm yy)) (nI (za yy)) (nI (zw yy))).2.2.1))) [0, 1, 2, 3, 4, 5, 6, 7, 8, 9, 10, 11, 12, 13, 14] rfl) (hD.sub (ws' := xmW cA x b rd X ((f_X2_borrow N B Bs (nI (zm yy)) (nI (za yy)) (nI (zw yy))).2.1) ++ (bkW (cA 0) (b 0) ((f_X2_borrow N B Bs (nI (zm yy)) (nI (za yy)) (nI (zw yy))).2.2.1))) [0, 1, 2, 3, 4, 5, 6, 7, 8, 9, 10, 11, 12, 13, 14] (by decide) rfl) hO hS (zD_fr (hD.sub (ws' := xmW cA x b rd X ((f_X2_borrow N B Bs (nI (zm yy)) (nI (za yy)) (nI (zw yy))).2.1) ++ (bkW (cA 0) (b 0) ((f_X2_borrow N B Bs (nI (zm yy)) (nI (za yy)) (nI (zw yy))).2.2.1))) [0, 1, 2, 3, 4, 5, 6, 7, 8, 9, 10, 11, 12, 13, 14] (by decide) rfl)) rfl rfl) rfl rfl hl.1 rfl (lv_room (Nat.le_of_ble_eq_true rfl)) dL_acts_720 ⟨Nat.le_of_ble_eq_true rfl, Nat.le_of_ble_eq_true rfl⟩) (zva_no ⟨⟨by decide, by decide⟩, trivial⟩) rfl ?_
      refine lv_iload hx hb dL_acts_723 (lv_at hl 11 rfl) ?_
      refine lv_iload hx hb dL_acts_725 (lv_at hl 1 rfl) ?_
      refine lv_iadd hx hb dL_acts_727 ?_
      refine lv_icmp_ne (tgt := 773) hx hb dL_acts_728 (by decide) (fun c_28 => by exact absurd (hf_728 c_25) c_28) (fun _ => ?_)
      refine lv_aload_n hx hb dL_acts_731 rfl (lv_at hl 5 rfl) ?_
      refine lv_iconst (v := 0) hx hb dL_acts_732 (by decide) ?_
      refine zv_E (vx_runV (As := [.int 0]) (rest := []) ⟨hx, hb, hml, hown, hts⟩ (zk_X2_count l hfl D cA b rd x X ((f_X2_borrow N B Bs (nI (zm yy)) (nI (za yy)) (nI (zw yy))).2.1) ((f_X2_borrow N B Bs (nI (zm yy)) (nI (za yy)) (nI (zw yy))).2.2.1) 0) (cwV 1 hts gL_acts_X2_count rfl rfl rfl zy_X2_count ⟨(Nat.le_of_ble_eq_true rfl), (Nat.le_of_ble_eq_true rfl)⟩) (zx_preVq (A := (zfr (xmW cA x b rd X N ++ (bkW (cA 0) (b 0) B ++ (otW (cA 0) b Bs))))) (ci := 2) (q0 := 0) hK (hP.sub (ws' := xmW cA x b rd X ((f_X2_borrow N B Bs (nI (zm yy)) (nI (za yy)) (nI (zw yy))).2.1) ++ (bkW (cA 0) (b 0) ((f_X2_borrow N B Bs (nI (zm yy)) (nI (za yy)) (nI (zw yy))).2.2.1))) [0, 1, 2, 3, 4, 5, 6, 7, 8, 9, 10, 11, 12, 13, 14] rfl) (hD.sub (ws' := xmW cA x b rd X ((f_X2_borrow N B Bs (nI (zm yy)) (nI (za yy)) (nI (zw yy))).2.1) ++ (bkW (cA 0) (b 0) ((f_X2_borrow N B Bs (nI (zm yy)) (nI (za yy)) (nI (zw yy))).2.2.1))) [0, 1, 2, 3, 4, 5, 6, 7, 8, 9, 10, 11, 12, 13, 14] (by decide) rfl) hO hS (zD_fr (hD.sub (ws' := xmW cA x b rd X ((f_X2_borrow N B Bs (nI (zm yy)) (nI (za yy)) (nI (zw yy))).2.1) ++ (bkW (cA 0) (b 0) ((f_X2_borrow N B Bs (nI (zm yy)) (nI (za yy)) (nI (zw yy))).2.2.1))) [0, 1, 2, 3, 4, 5, 6, 7, 8, 9, 10, 11, 12, 13, 14] (by decide) rfl)) rfl rfl) rfl rfl hl.1 rfl (lv_room (Nat.le_of_ble_eq_true rfl)) dL_acts_733 ⟨Nat.le_of_ble_eq_true rfl, Nat.le_of_ble_eq_true rfl⟩) (zva_no ⟨⟨by decide, by decide⟩, trivial⟩) rfl ?_
      refine lv_iload hx hb dL_acts_736 (lv_at hl 10 rfl) ?_
      refine lv_iload hx hb dL_acts_738 (lv_at hl 9 rfl) ?_
      refine lv_isub hx hb dL_acts_740 ?_
      refine lv_iload hx hb dL_acts_741 (lv_at hl 1 rfl) ?_
      refine lv_iadd hx hb dL_acts_743 ?_
      refine lv_icmp_ne (tgt := 773) hx hb dL_acts_744 (by decide) (fun c_29 => by exact absurd (hf_744 c_25) c_29) (fun _ => ?_)
      refine lv_aload_n hx hb dL_acts_747 rfl (lv_at hl 5 rfl) ?_
      refine lv_iconst (v := 5) hx hb dL_acts_748 (by decide) ?_
      refine zv_E (vx_runV (As := [.int 5]) (rest := []) ⟨hx, hb, hml, hown, hts⟩ (zk_X2_count l hfl D cA b rd x X ((f_X2_borrow N B Bs (nI (zm yy)) (nI (za yy)) (nI (zw yy))).2.1) ((f_X2_borrow N B Bs (nI (zm yy)) (nI (za yy)) (nI (zw yy))).2.2.1) 5) (cwV 1 hts gL_acts_X2_count rfl rfl rfl zy_X2_count ⟨(Nat.le_of_ble_eq_true rfl), (Nat.le_of_ble_eq_true rfl)⟩) (zx_preVq (A := (zfr (xmW cA x b rd X N ++ (bkW (cA 0) (b 0) B ++ (otW (cA 0) b Bs))))) (ci := 2) (q0 := 0) hK (hP.sub (ws' := xmW cA x b rd X ((f_X2_borrow N B Bs (nI (zm yy)) (nI (za yy)) (nI (zw yy))).2.1) ++ (bkW (cA 0) (b 0) ((f_X2_borrow N B Bs (nI (zm yy)) (nI (za yy)) (nI (zw yy))).2.2.1))) [0, 1, 2, 3, 4, 5, 6, 7, 8, 9, 10, 11, 12, 13, 14] rfl) (hD.sub (ws' := xmW cA x b rd X ((f_X2_borrow N B Bs (nI (zm yy)) (nI (za yy)) (nI (zw yy))).2.1) ++ (bkW (cA 0) (b 0) ((f_X2_borrow N B Bs (nI (zm yy)) (nI (za yy)) (nI (zw yy))).2.2.1))) [0, 1, 2, 3, 4, 5, 6, 7, 8, 9, 10, 11, 12, 13, 14] (by decide) rfl) hO hS (zD_fr (hD.sub (ws' := xmW cA x b rd X ((f_X2_borrow N B Bs (nI (zm yy)) (nI (za yy)) (nI (zw yy))).2.1) ++ (bkW (cA 0) (b 0) ((f_X2_borrow N B Bs (nI (zm yy)) (nI (za yy)) (nI (zw yy))).2.2.1))) [0, 1, 2, 3, 4, 5, 6, 7, 8, 9, 10, 11, 12, 13, 14] (by decide) rfl)) rfl rfl) rfl rfl hl.1 rfl (lv_room (Nat.le_of_ble_eq_true rfl)) dL_acts_749 ⟨Nat.le_of_ble_eq_true rfl, Nat.le_of_ble_eq_true rfl⟩) (zva_no ⟨⟨by decide, by decide⟩, trivial⟩) rfl ?_
      refine lv_iload hx hb dL_acts_752 (lv_at hl 2 rfl) ?_
      refine lv_iconst (v := 1) hx hb dL_acts_754 (by decide) ?_
      refine lv_iadd hx hb dL_acts_755 ?_
      refine lv_icmp_ne (tgt := 773) hx hb dL_acts_756 (by decide) (fun c_30 => by exact absurd (hf_756 c_25) c_30) (fun _ => ?_)
      refine lv_aload_n hx hb dL_acts_759 rfl (lv_at hl 5 rfl) ?_
      refine lv_iload_n hx hb dL_acts_760 rfl (lv_at hl 7 rfl) ?_
      refine lv_bipush (v := 9) hx hb dL_acts_761 (by decide) ?_
      refine zv_E (vx_runV (As := [.int (nI (zm yy)), .int 9]) (rest := []) ⟨hx, hb, hml, hown, hts⟩ (zk_X2_memberOf l hfl D cA b rd x X ((f_X2_borrow N B Bs (nI (zm yy)) (nI (za yy)) (nI (zw yy))).2.1) ((f_X2_borrow N B Bs (nI (zm yy)) (nI (za yy)) (nI (zw yy))).2.2.1) (nI (zm yy)) 9) (cwV 2 hts gL_acts_X2_memberOf rfl rfl rfl zy_X2_memberOf ⟨(Nat.le_of_ble_eq_true rfl), (Nat.le_of_ble_eq_true rfl)⟩) (zx_preVq (A := (zfr (xmW cA x b rd X N ++ (bkW (cA 0) (b 0) B ++ (otW (cA 0) b Bs))))) (ci := 2) (q0 := 0) hK (hP.sub (ws' := xmW cA x b rd X ((f_X2_borrow N B Bs (nI (zm yy)) (nI (za yy)) (nI (zw yy))).2.1) ++ (bkW (cA 0) (b 0) ((f_X2_borrow N B Bs (nI (zm yy)) (nI (za yy)) (nI (zw yy))).2.2.1))) [0, 1, 2, 3, 4, 5, 6, 7, 8, 9, 10, 11, 12, 13, 14] rfl) (hD.sub (ws' := xmW cA x b rd X ((f_X2_borrow N B Bs (nI (zm yy)) (nI (za yy)) (nI (zw yy))).2.1) ++ (bkW (cA 0) (b 0) ((f_X2_borrow N B Bs (nI (zm yy)) (nI (za yy)) (nI (zw yy))).2.2.1))) [0, 1, 2, 3, 4, 5, 6, 7, 8, 9, 10, 11, 12, 13, 14] (by decide) rfl) hO hS (zD_fr (hD.sub (ws' := xmW cA x b rd X ((f_X2_borrow N B Bs (nI (zm yy)) (nI (za yy)) (nI (zw yy))).2.1) ++ (bkW (cA 0) (b 0) ((f_X2_borrow N B Bs (nI (zm yy)) (nI (za yy)) (nI (zw yy))).2.2.1))) [0, 1, 2, 3, 4, 5, 6, 7, 8, 9, 10, 11, 12, 13, 14] (by decide) rfl)) rfl rfl) rfl rfl hl.1 rfl (lv_room (Nat.le_of_ble_eq_true rfl)) dL_acts_763 ⟨Nat.le_of_ble_eq_true rfl, Nat.le_of_ble_eq_true rfl⟩) (zva_no ⟨⟨(zm yy), by omega, rfl⟩, ⟨by decide, by decide⟩, trivial⟩) rfl ?_
      refine lv_if_ne (tgt := 773) hx hb dL_acts_766 (by decide) (fun c_31 => by exact absurd (hf_766 c_25) c_31) (fun _ => ?_)
      exact sel_666 ls (lv_sub hl [0, 1, 2, 3, 4, 5, 6, 7, 8, 9, 10, 11, 12, 13, 14, 15] rfl)
    · refine lv_aload_n hx hb dL_acts_669 rfl (lv_at hl 5 rfl) ?_
      refine lv_bipush (v := 9) hx hb dL_acts_670 (by decide) ?_
      refine zv_E (vx_runV (As := [.int 9]) (rest := []) ⟨hx, hb, hml, hown, hts⟩ (zk_X2_count l hfl D cA b rd x X ((f_X2_borrow N B Bs (nI (zm yy)) (nI (za yy)) (nI (zw yy))).2.1) ((f_X2_borrow N B Bs (nI (zm yy)) (nI (za yy)) (nI (zw yy))).2.2.1) 9) (cwV 1 hts gL_acts_X2_count rfl rfl rfl zy_X2_count ⟨(Nat.le_of_ble_eq_true rfl), (Nat.le_of_ble_eq_true rfl)⟩) (zx_preVq (A := (zfr (xmW cA x b rd X N ++ (bkW (cA 0) (b 0) B ++ (otW (cA 0) b Bs))))) (ci := 2) (q0 := 0) hK (hP.sub (ws' := xmW cA x b rd X ((f_X2_borrow N B Bs (nI (zm yy)) (nI (za yy)) (nI (zw yy))).2.1) ++ (bkW (cA 0) (b 0) ((f_X2_borrow N B Bs (nI (zm yy)) (nI (za yy)) (nI (zw yy))).2.2.1))) [0, 1, 2, 3, 4, 5, 6, 7, 8, 9, 10, 11, 12, 13, 14] rfl) (hD.sub (ws' := xmW cA x b rd X ((f_X2_borrow N B Bs (nI (zm yy)) (nI (za yy)) (nI (zw yy))).2.1) ++ (bkW (cA 0) (b 0) ((f_X2_borrow N B Bs (nI (zm yy)) (nI (za yy)) (nI (zw yy))).2.2.1))) [0, 1, 2, 3, 4, 5, 6, 7, 8, 9, 10, 11, 12, 13, 14] (by decide) rfl) hO hS (zD_fr (hD.sub (ws' := xmW cA x b rd X ((f_X2_borrow N B Bs (nI (zm yy)) (nI (za yy)) (nI (zw yy))).2.1) ++ (bkW (cA 0) (b 0) ((f_X2_borrow N B Bs (nI (zm yy)) (nI (za yy)) (nI (zw yy))).2.2.1))) [0, 1, 2, 3, 4, 5, 6, 7, 8, 9, 10, 11, 12, 13, 14] (by decide) rfl)) rfl rfl) rfl rfl hl.1 rfl (lv_room (Nat.le_of_ble_eq_true rfl)) dL_acts_672 ⟨Nat.le_of_ble_eq_true rfl, Nat.le_of_ble_eq_true rfl⟩) (zva_no ⟨⟨by decide, by decide⟩, trivial⟩) rfl ?_
      refine lv_iload hx hb dL_acts_675 (lv_at hl 14 rfl) ?_
      refine lv_iconst (v := 1) hx hb dL_acts_677 (by decide) ?_
      refine lv_iadd hx hb dL_acts_678 ?_
      refine lv_icmp_ne (tgt := 773) hx hb dL_acts_679 (by decide) (fun c_32 => by exact absurd (hf_679 c_25) c_32) (fun _ => ?_)
      refine lv_aload_n hx hb dL_acts_682 rfl (lv_at hl 5 rfl) ?_
      refine lv_iconst (v := 3) hx hb dL_acts_683 (by decide) ?_
      refine zv_E (vx_runV (As := [.int 3]) (rest := []) ⟨hx, hb, hml, hown, hts⟩ (zk_X2_count l hfl D cA b rd x X ((f_X2_borrow N B Bs (nI (zm yy)) (nI (za yy)) (nI (zw yy))).2.1) ((f_X2_borrow N B Bs (nI (zm yy)) (nI (za yy)) (nI (zw yy))).2.2.1) 3) (cwV 1 hts gL_acts_X2_count rfl rfl rfl zy_X2_count ⟨(Nat.le_of_ble_eq_true rfl), (Nat.le_of_ble_eq_true rfl)⟩) (zx_preVq (A := (zfr (xmW cA x b rd X N ++ (bkW (cA 0) (b 0) B ++ (otW (cA 0) b Bs))))) (ci := 2) (q0 := 0) hK (hP.sub (ws' := xmW cA x b rd X ((f_X2_borrow N B Bs (nI (zm yy)) (nI (za yy)) (nI (zw yy))).2.1) ++ (bkW (cA 0) (b 0) ((f_X2_borrow N B Bs (nI (zm yy)) (nI (za yy)) (nI (zw yy))).2.2.1))) [0, 1, 2, 3, 4, 5, 6, 7, 8, 9, 10, 11, 12, 13, 14] rfl) (hD.sub (ws' := xmW cA x b rd X ((f_X2_borrow N B Bs (nI (zm yy)) (nI (za yy)) (nI (zw yy))).2.1) ++ (bkW (cA 0) (b 0) ((f_X2_borrow N B Bs (nI (zm yy)) (nI (za yy)) (nI (zw yy))).2.2.1))) [0, 1, 2, 3, 4, 5, 6, 7, 8, 9, 10, 11, 12, 13, 14] (by decide) rfl) hO hS (zD_fr (hD.sub (ws' := xmW cA x b rd X ((f_X2_borrow N B Bs (nI (zm yy)) (nI (za yy)) (nI (zw yy))).2.1) ++ (bkW (cA 0) (b 0) ((f_X2_borrow N B Bs (nI (zm yy)) (nI (za yy)) (nI (zw yy))).2.2.1))) [0, 1, 2, 3, 4, 5, 6, 7, 8, 9, 10, 11, 12, 13, 14] (by decide) rfl)) rfl rfl) rfl rfl hl.1 rfl (lv_room (Nat.le_of_ble_eq_true rfl)) dL_acts_684 ⟨Nat.le_of_ble_eq_true rfl, Nat.le_of_ble_eq_true rfl⟩) (zva_no ⟨⟨by decide, by decide⟩, trivial⟩) rfl ?_
      refine lv_iload hx hb dL_acts_687 (lv_at hl 13 rfl) ?_
      refine lv_icmp_ne (tgt := 773) hx hb dL_acts_689 (by decide) (fun c_33 => by exact absurd (hf_689 c_25) c_33) (fun _ => ?_)
      refine lv_goto (tgt := 769) hx hb dL_acts_692 (by decide) ?_
      exact sel_666 ls (lv_sub hl [0, 1, 2, 3, 4, 5, 6, 7, 8, 9, 10, 11, 12, 13, 14, 15] rfl)
  have join_489 : f_L_acts N B Bs xx yy = f_L_acts_489 N B Bs xx yy → ∀ (H : Heap) (locs : List Loc), va_P D vwCl (xmW cA x b rd X N ++ (bkW (cA 0) (b 0) B ++ (otW (cA 0) b Bs))) H → va_D (zfr (xmW cA x b rd X N ++ (bkW (cA 0) (b 0) B ++ (otW (cA 0) b Bs)))) (xmW cA x b rd X N ++ (bkW (cA 0) (b 0) B ++ (otW (cA 0) b Bs))) → va_S (zfr (xmW cA x b rd X N ++ (bkW (cA 0) (b 0) B ++ (otW (cA 0) b Bs)))) s.heap H locs → ∀ (ls : Array Slot), lv_has ls 29 [(0, .ref (x 0)), (2, .int yy), (3, .int (nI (zm yy))), (4, .int (nI (zo yy))), (5, .int (nI (za yy))), (6, .int (f_X2_count N B 0)), (7, .int (f_X2_count N B 1)), (8, .int (f_X2_count N B 2)), (9, .int (f_X2_count N B 3)), (10, .int (f_X2_count N B 9)), (11, .int (f_X2_memberOf B (nI (zm yy)) 4))] → W p l e (headSpec wsL_acts (zrx 9 163 6 36)).room s m ([.ref (x 0), .int xx, .int yy] : List Value).toArray below meth c H locs 0 0 (MQ below (zM D (xmW cA x b rd X N ++ (bkW (cA 0) (b 0) B ++ (otW (cA 0) b Bs))) (xmW cA x b rd X ((f_L_acts N B Bs xx yy).1) ++ (bkW (cA 0) (b 0) ((f_L_acts N B Bs xx yy).2.1) ++ (otW (cA 0) b ((f_L_acts N B Bs xx yy).2.2)))) (some (.int 1))) ([.ref (x 0), .int xx, .int yy] : List Value).toArray s 6 36 (zfr (xmW cA x b rd X N ++ (bkW (cA 0) (b 0) B ++ (otW (cA 0) b Bs))))) (F0 m 489 ls []) := by
    intro hres_489 H locs hP hD hS ls hl
    obtain ⟨hf_504, hf_532, hf_537, hf_543, hf_568, hf_586⟩ := hF_489
    refine lv_aload_n hx hb dL_acts_489 rfl (lv_at hl 0 rfl) ?_
    refine lv_iload_n hx hb dL_acts_490 rfl (lv_at hl 2 rfl) ?_
    refine lv_iload hx hb dL_acts_491 (lv_at hl 3 rfl) ?_
    refine zv_E (vx_runV (As := [.int (nI (zm yy)), .int (nI (zo yy))]) (rest := []) ⟨hx, hb, hml, hown, hts⟩ (zk_X2_pledged l hfl D cA b rd x X N B (nI (zm yy)) (nI (zo yy))) (cwV 2 hts gL_acts_X2_pledged rfl rfl rfl zy_X2_pledged ⟨(Nat.le_of_ble_eq_true rfl), (Nat.le_of_ble_eq_true rfl)⟩) (zx_preVq (A := (zfr (xmW cA x b rd X N ++ (bkW (cA 0) (b 0) B ++ (otW (cA 0) b Bs))))) (ci := 2) (q0 := 0) hK (hP.sub (ws' := xmW cA x b rd X N ++ (bkW (cA 0) (b 0) B)) [0, 1, 2, 3, 4, 5, 6, 7, 8, 9, 10, 11, 12, 13, 14] rfl) (hD.sub (ws' := xmW cA x b rd X N ++ (bkW (cA 0) (b 0) B)) [0, 1, 2, 3, 4, 5, 6, 7, 8, 9, 10, 11, 12, 13, 14] (by decide) rfl) hO hS (zD_fr (hD.sub (ws' := xmW cA x b rd X N ++ (bkW (cA 0) (b 0) B)) [0, 1, 2, 3, 4, 5, 6, 7, 8, 9, 10, 11, 12, 13, 14] (by decide) rfl)) rfl rfl) rfl rfl hl.1 rfl (lv_room (Nat.le_of_ble_eq_true rfl)) dL_acts_493 ⟨Nat.le_of_ble_eq_true rfl, Nat.le_of_ble_eq_true rfl⟩) (zva_no ⟨⟨(zm yy), by omega, rfl⟩, ⟨(zo yy), by omega, rfl⟩, trivial⟩) rfl ?_
    refine lv_istore (lv' := [(17, .int (f_X2_pledged B (nI (zm yy)) (nI (zo yy)))), (0, .ref (x 0)), (2, .int yy), (3, .int (nI (zm yy))), (4, .int (nI (zo yy))), (5, .int (nI (za yy))), (6, .int (f_X2_count N B 0)), (7, .int (f_X2_count N B 1)), (8, .int (f_X2_count N B 2)), (9, .int (f_X2_count N B 3)), (10, .int (f_X2_count N B 9)), (11, .int (f_X2_memberOf B (nI (zm yy)) 4))]) hx hb dL_acts_496 hl (by decide) rfl (fun ls hl => ?_)
    refine lv_aload_n hx hb dL_acts_498 rfl (lv_at hl 1 rfl) ?_
    refine lv_iload_n hx hb dL_acts_499 rfl (lv_at hl 3 rfl) ?_
    refine lv_iload hx hb dL_acts_500 (lv_at hl 4 rfl) ?_
    refine lv_iload hx hb dL_acts_502 (lv_at hl 5 rfl) ?_
    refine zv_M (X := ([] : va_W)) (Z := ([] : va_W)) (vx_runV (As := [.int (nI (zm yy)), .int (nI (zo yy)), .int (nI (za yy))]) (rest := []) ⟨hx, hb, hml, hown, hts⟩ (zk_X2_unpledge l hfl D cA b rd x X N B Bs (nI (zm yy)) (nI (zo yy)) (nI (za yy)) hpm hsv2) (cwV 3 hts gL_acts_X2_unpledge rfl rfl rfl zy_X2_unpledge ⟨(Nat.le_of_ble_eq_true rfl), (Nat.le_of_ble_eq_true rfl)⟩) (zx_preVq (A := (zfr (xmW cA x b rd X N ++ (bkW (cA 0) (b 0) B ++ (otW (cA 0) b Bs))))) (ci := 2) (q0 := 0) hK hP hD hO hS (zD_fr hD) rfl rfl) rfl rfl hl.1 rfl (lv_room (Nat.le_of_ble_eq_true rfl)) dL_acts_504 ⟨Nat.le_of_ble_eq_true rfl, Nat.le_of_ble_eq_true rfl⟩) (zva_no ⟨⟨(zm yy), by omega, rfl⟩, ⟨(zo yy), by omega, rfl⟩, (hf_504), (zrgN (a := 1) (b := 9999) (by omega) (by omega) (by omega)), trivial⟩) hP hD hS (z_adr2 xmW_adr (z_adr2 bkW_adr otW_adr)) rfl (fun H locs hP9 hD9 hS9 => ?_)
    replace hP : va_P D vwCl (xmW cA x b rd X ((f_X2_unpledge N B Bs (nI (zm yy)) (nI (zo yy)) (nI (za yy))).2.1) ++ (bkW (cA 0) (b 0) ((f_X2_unpledge N B Bs (nI (zm yy)) (nI (zo yy)) (nI (za yy))).2.2.1) ++ (otW (cA 0) b ((f_X2_unpledge N B Bs (nI (zm yy)) (nI (zo yy)) (nI (za yy))).2.2.2)))) H := hP9
    replace hD : va_D _ (xmW cA x b rd X ((f_X2_unpledge N B Bs (nI (zm yy)) (nI (zo yy)) (nI (za yy))).2.1) ++ (bkW (cA 0) (b 0) ((f_X2_unpledge N B Bs (nI (zm yy)) (nI (zo yy)) (nI (za yy))).2.2.1) ++ (otW (cA 0) b ((f_X2_unpledge N B Bs (nI (zm yy)) (nI (zo yy)) (nI (za yy))).2.2.2)))) := hD9
    replace hS := hS9
    clear hP9 hD9 hS9
    refine lv_istore (lv' := [(18, .int ((f_X2_unpledge N B Bs (nI (zm yy)) (nI (zo yy)) (nI (za yy))).1)), (17, .int (f_X2_pledged B (nI (zm yy)) (nI (zo yy)))), (0, .ref (x 0)), (2, .int yy), (3, .int (nI (zm yy))), (4, .int (nI (zo yy))), (5, .int (nI (za yy))), (6, .int (f_X2_count N B 0)), (7, .int (f_X2_count N B 1)), (8, .int (f_X2_count N B 2)), (9, .int (f_X2_count N B 3)), (10, .int (f_X2_count N B 9)), (11, .int (f_X2_memberOf B (nI (zm yy)) 4))]) hx hb dL_acts_507 hl (by decide) rfl (fun ls hl => ?_)
    refine lv_iload hx hb dL_acts_509 (lv_at hl 0 rfl) ?_
    refine lv_iconst (v := 1) hx hb dL_acts_511 (by decide) ?_
    have sel_512 : ∀ (ls : Array Slot), lv_has ls 29 [(18, .int ((f_X2_unpledge N B Bs (nI (zm yy)) (nI (zo yy)) (nI (za yy))).1)), (17, .int (f_X2_pledged B (nI (zm yy)) (nI (zo yy)))), (0, .ref (x 0)), (2, .int yy), (3, .int (nI (zm yy))), (4, .int (nI (zo yy))), (5, .int (nI (za yy))), (6, .int (f_X2_count N B 0)), (7, .int (f_X2_count N B 1)), (8, .int (f_X2_count N B 2)), (9, .int (f_X2_count N B 3)), (10, .int (f_X2_count N B 9)), (11, .int (f_X2_memberOf B (nI (zm yy)) 4))] → W p l e (headSpec wsL_acts (zrx 9 163 6 36)).room s m ([.ref (x 0), .int xx, .int yy] : List Value).toArray below meth c H locs 4 24 (MQ below (zM D (xmW cA x b rd X N ++ (bkW (cA 0) (b 0) B ++ (otW (cA 0) b Bs))) (xmW cA x b rd X ((f_L_acts N B Bs xx yy).1) ++ (bkW (cA 0) (b 0) ((f_L_acts N B Bs xx yy).2.1) ++ (otW (cA 0) b ((f_L_acts N B Bs xx yy).2.2)))) (some (.int 1))) ([.ref (x 0), .int xx, .int yy] : List Value).toArray s 6 36 (zfr (xmW cA x b rd X N ++ (bkW (cA 0) (b 0) B ++ (otW (cA 0) b Bs))))) (F0 m 520 ls [.int (if ((f_X2_unpledge N B Bs (nI (zm yy)) (nI (zo yy)) (nI (za yy))).1) = 1 then (1 : Int32) else 0)]) := by
      intro ls hl
      refine lv_iload hx hb dL_acts_520 (lv_at hl 6 rfl) ?_
      refine lv_iload hx hb dL_acts_522 (lv_at hl 1 rfl) ?_
      have sel_524 : ∀ (ls : Array Slot), lv_has ls 29 [(18, .int ((f_X2_unpledge N B Bs (nI (zm yy)) (nI (zo yy)) (nI (za yy))).1)), (17, .int (f_X2_pledged B (nI (zm yy)) (nI (zo yy)))), (0, .ref (x 0)), (2, .int yy), (3, .int (nI (zm yy))), (4, .int (nI (zo yy))), (5, .int (nI (za yy))), (6, .int (f_X2_count N B 0)), (7, .int (f_X2_count N B 1)), (8, .int (f_X2_count N B 2)), (9, .int (f_X2_count N B 3)), (10, .int (f_X2_count N B 9)), (11, .int (f_X2_memberOf B (nI (zm yy)) 4))] → W p l e (headSpec wsL_acts (zrx 9 163 6 36)).room s m ([.ref (x 0), .int xx, .int yy] : List Value).toArray below meth c H locs 4 24 (MQ below (zM D (xmW cA x b rd X N ++ (bkW (cA 0) (b 0) B ++ (otW (cA 0) b Bs))) (xmW cA x b rd X ((f_L_acts N B Bs xx yy).1) ++ (bkW (cA 0) (b 0) ((f_L_acts N B Bs xx yy).2.1) ++ (otW (cA 0) b ((f_L_acts N B Bs xx yy).2.2)))) (some (.int 1))) ([.ref (x 0), .int xx, .int yy] : List Value).toArray s 6 36 (zfr (xmW cA x b rd X N ++ (bkW (cA 0) (b 0) B ++ (otW (cA 0) b Bs))))) (F0 m 532 ls [.int (if (nI (za yy)) ≤ (f_X2_pledged B (nI (zm yy)) (nI (zo yy))) then (0 : Int32) else 1), .int (if ((f_X2_unpledge N B Bs (nI (zm yy)) (nI (zo yy)) (nI (za yy))).1) = 1 then (1 : Int32) else 0)]) := by
        intro ls hl
        refine lv_icmp_ne (tgt := 593) hx hb dL_acts_532 (by decide) (fun c_36 => by exact absurd (hf_532) c_36) (fun _ => ?_)
        refine lv_iload hx hb dL_acts_535 (lv_at hl 0 rfl) ?_
        refine lv_if_lt (tgt := 593) hx hb dL_acts_537 (by decide) (fun c_37 => by exact absurd c_37 (hf_537)) (fun _ => ?_)
        refine lv_iload hx hb dL_acts_540 (lv_at hl 0 rfl) ?_
        refine lv_iconst (v := 2) hx hb dL_acts_542 (by decide) ?_
        refine lv_icmp_gt (tgt := 593) hx hb dL_acts_543 (by decide) (fun c_38 => by exact absurd c_38 (hf_543)) (fun _ => ?_)
        refine lv_aload_n hx hb dL_acts_546 rfl (lv_at hl 2 rfl) ?_
        refine lv_iload_n hx hb dL_acts_547 rfl (lv_at hl 4 rfl) ?_
        refine lv_iload hx hb dL_acts_548 (lv_at hl 5 rfl) ?_
        refine zv_E (vx_runV (As := [.int (nI (zm yy)), .int (nI (zo yy))]) (rest := []) ⟨hx, hb, hml, hown, hts⟩ (zk_X2_pledged l hfl D cA b rd x X ((f_X2_unpledge N B Bs (nI (zm yy)) (nI (zo yy)) (nI (za yy))).2.1) ((f_X2_unpledge N B Bs (nI (zm yy)) (nI (zo yy)) (nI (za yy))).2.2.1) (nI (zm yy)) (nI (zo yy))) (cwV 2 hts gL_acts_X2_pledged rfl rfl rfl zy_X2_pledged ⟨(Nat.le_of_ble_eq_true rfl), (Nat.le_of_ble_eq_true rfl)⟩) (zx_preVq (A := (zfr (xmW cA x b rd X N ++ (bkW (cA 0) (b 0) B ++ (otW (cA 0) b Bs))))) (ci := 2) (q0 := 0) hK (hP.sub (ws' := xmW cA x b rd X ((f_X2_unpledge N B Bs (nI (zm yy)) (nI (zo yy)) (nI (za yy))).2.1) ++ (bkW (cA 0) (b 0) ((f_X2_unpledge N B Bs (nI (zm yy)) (nI (zo yy)) (nI (za yy))).2.2.1))) [0, 1, 2, 3, 4, 5, 6, 7, 8, 9, 10, 11, 12, 13, 14] rfl) (hD.sub (ws' := xmW cA x b rd X ((f_X2_unpledge N B Bs (nI (zm yy)) (nI (zo yy)) (nI (za yy))).2.1) ++ (bkW (cA 0) (b 0) ((f_X2_unpledge N B Bs (nI (zm yy)) (nI (zo yy)) (nI (za yy))).2.2.1))) [0, 1, 2, 3, 4, 5, 6, 7, 8, 9, 10, 11, 12, 13, 14] (by decide) rfl) hO hS (zD_fr (hD.sub (ws' := xmW cA x b rd X ((f_X2_unpledge N B Bs (nI (zm yy)) (nI (zo yy)) (nI (za yy))).2.1) ++ (bkW (cA 0) (b 0) ((f_X2_unpledge N B Bs (nI (zm yy)) (nI (zo yy)) (nI (za yy))).2.2.1))) [0, 1, 2, 3, 4, 5, 6, 7, 8, 9, 10, 11, 12, 13, 14] (by decide) rfl)) rfl rfl) rfl rfl hl.1 rfl (lv_room (Nat.le_of_ble_eq_true rfl)) dL_acts_550 ⟨Nat.le_of_ble_eq_true rfl, Nat.le_of_ble_eq_true rfl⟩) (zva_no ⟨⟨(zm yy), by omega, rfl⟩, ⟨(zo yy), by omega, rfl⟩, trivial⟩) rfl ?_
        refine lv_iload hx hb dL_acts_553 (lv_at hl 0 rfl) ?_
        have sel_555 : ∀ (ls : Array Slot), lv_has ls 29 [(18, .int ((f_X2_unpledge N B Bs (nI (zm yy)) (nI (zo yy)) (nI (za yy))).1)), (17, .int (f_X2_pledged B (nI (zm yy)) (nI (zo yy)))), (0, .ref (x 0)), (2, .int yy), (3, .int (nI (zm yy))), (4, .int (nI (zo yy))), (5, .int (nI (za yy))), (6, .int (f_X2_count N B 0)), (7, .int (f_X2_count N B 1)), (8, .int (f_X2_count N B 2)), (9, .int (f_X2_count N B 3)), (10, .int (f_X2_count N B 9)), (11, .int (f_X2_memberOf B (nI (zm yy)) 4))] → W p l e (headSpec wsL_acts (zrx 9 163 6 36)).room s m ([.ref (x 0), .int xx, .int yy] : List Value).toArray below meth c H locs 4 24 (MQ below (zM D (xmW cA x b rd X N ++ (bkW (cA 0) (b 0) B ++ (otW (cA 0) b Bs))) (xmW cA x b rd X ((f_L_acts N B Bs xx yy).1) ++ (bkW (cA 0) (b 0) ((f_L_acts N B Bs xx yy).2.1) ++ (otW (cA 0) b ((f_L_acts N B Bs xx yy).2.2)))) (some (.int 1))) ([.ref (x 0), .int xx, .int yy] : List Value).toArray s 6 36 (zfr (xmW cA x b rd X N ++ (bkW (cA 0) (b 0) B ++ (otW (cA 0) b Bs))))) (F0 m 568 ls [.int (if ((f_X2_unpledge N B Bs (nI (zm yy)) (nI (zo yy)) (nI (za yy))).1) = 0 then ((f_X2_pledged B (nI (zm yy)) (nI (zo yy))) - (nI (za yy)) : Int32) else f_X2_pledged B (nI (zm yy)) (nI (zo yy))), .int (f_X2_pledged ((f_X2_unpledge N B Bs (nI (zm yy)) (nI (zo yy)) (nI (za yy))).2.2.1) (nI (zm yy)) (nI (zo yy)))]) := by
          intro ls hl
          refine lv_icmp_ne (tgt := 593) hx hb dL_acts_568 (by decide) (fun c_40 => by exact absurd (hf_568) c_40) (fun _ => ?_)
          refine lv_aload_n hx hb dL_acts_571 rfl (lv_at hl 2 rfl) ?_
          refine lv_iload hx hb dL_acts_572 (lv_at hl 5 rfl) ?_
          refine lv_iconst (v := 3) hx hb dL_acts_574 (by decide) ?_
          refine zv_E (vx_runV (As := [.int (nI (zo yy)), .int 3]) (rest := []) ⟨hx, hb, hml, hown, hts⟩ (zk_X2_memberOf l hfl D cA b rd x X ((f_X2_unpledge N B Bs (nI (zm yy)) (nI (zo yy)) (nI (za yy))).2.1) ((f_X2_unpledge N B Bs (nI (zm yy)) (nI (zo yy)) (nI (za yy))).2.2.1) (nI (zo yy)) 3) (cwV 2 hts gL_acts_X2_memberOf rfl rfl rfl zy_X2_memberOf ⟨(Nat.le_of_ble_eq_true rfl), (Nat.le_of_ble_eq_true rfl)⟩) (zx_preVq (A := (zfr (xmW cA x b rd X N ++ (bkW (cA 0) (b 0) B ++ (otW (cA 0) b Bs))))) (ci := 2) (q0 := 0) hK (hP.sub (ws' := xmW cA x b rd X ((f_X2_unpledge N B Bs (nI (zm yy)) (nI (zo yy)) (nI (za yy))).2.1) ++ (bkW (cA 0) (b 0) ((f_X2_unpledge N B Bs (nI (zm yy)) (nI (zo yy)) (nI (za yy))).2.2.1))) [0, 1, 2, 3, 4, 5, 6, 7, 8, 9, 10, 11, 12, 13, 14] rfl) (hD.sub (ws' := xmW cA x b rd X ((f_X2_unpledge N B Bs (nI (zm yy)) (nI (zo yy)) (nI (za yy))).2.1) ++ (bkW (cA 0) (b 0) ((f_X2_unpledge N B Bs (nI (zm yy)) (nI (zo yy)) (nI (za yy))).2.2.1))) [0, 1, 2, 3, 4, 5, 6, 7, 8, 9, 10, 11, 12, 13, 14] (by decide) rfl) hO hS (zD_fr (hD.sub (ws' := xmW cA x b rd X ((f_X2_unpledge N B Bs (nI (zm yy)) (nI (zo yy)) (nI (za yy))).2.1) ++ (bkW (cA 0) (b 0) ((f_X2_unpledge N B Bs (nI (zm yy)) (nI (zo yy)) (nI (za yy))).2.2.1))) [0, 1, 2, 3, 4, 5, 6, 7, 8, 9, 10, 11, 12, 13, 14] (by decide) rfl)) rfl rfl) rfl rfl hl.1 rfl (lv_room (Nat.le_of_ble_eq_true rfl)) dL_acts_575 ⟨Nat.le_of_ble_eq_true rfl, Nat.le_of_ble_eq_true rfl⟩) (zva_no ⟨⟨(zo yy), by omega, rfl⟩, ⟨by decide, by decide⟩, trivial⟩) rfl ?_
          refine lv_aload_n hx hb dL_acts_578 rfl (lv_at hl 2 rfl) ?_
          refine lv_iload hx hb dL_acts_579 (lv_at hl 5 rfl) ?_
          refine lv_bipush (v := 6) hx hb dL_acts_581 (by decide) ?_
          refine zv_E (vx_runV (As := [.int (nI (zo yy)), .int 6]) (rest := [.int (f_X2_memberOf ((f_X2_unpledge N B Bs (nI (zm yy)) (nI (zo yy)) (nI (za yy))).2.2.1) (nI (zo yy)) 3)]) ⟨hx, hb, hml, hown, hts⟩ (zk_X2_memberOf l hfl D cA b rd x X ((f_X2_unpledge N B Bs (nI (zm yy)) (nI (zo yy)) (nI (za yy))).2.1) ((f_X2_unpledge N B Bs (nI (zm yy)) (nI (zo yy)) (nI (za yy))).2.2.1) (nI (zo yy)) 6) (cwV 2 hts gL_acts_X2_memberOf rfl rfl rfl zy_X2_memberOf ⟨(Nat.le_of_ble_eq_true rfl), (Nat.le_of_ble_eq_true rfl)⟩) (zx_preVq (A := (zfr (xmW cA x b rd X N ++ (bkW (cA 0) (b 0) B ++ (otW (cA 0) b Bs))))) (ci := 2) (q0 := 0) hK (hP.sub (ws' := xmW cA x b rd X ((f_X2_unpledge N B Bs (nI (zm yy)) (nI (zo yy)) (nI (za yy))).2.1) ++ (bkW (cA 0) (b 0) ((f_X2_unpledge N B Bs (nI (zm yy)) (nI (zo yy)) (nI (za yy))).2.2.1))) [0, 1, 2, 3, 4, 5, 6, 7, 8, 9, 10, 11, 12, 13, 14] rfl) (hD.sub (ws' := xmW cA x b rd X ((f_X2_unpledge N B Bs (nI (zm yy)) (nI (zo yy)) (nI (za yy))).2.1) ++ (bkW (cA 0) (b 0) ((f_X2_unpledge N B Bs (nI (zm yy)) (nI (zo yy)) (nI (za yy))).2.2.1))) [0, 1, 2, 3, 4, 5, 6, 7, 8, 9, 10, 11, 12, 13, 14] (by decide) rfl) hO hS (zD_fr (hD.sub (ws' := xmW cA x b rd X ((f_X2_unpledge N B Bs (nI (zm yy)) (nI (zo yy)) (nI (za yy))).2.1) ++ (bkW (cA 0) (b 0) ((f_X2_unpledge N B Bs (nI (zm yy)) (nI (zo yy)) (nI (za yy))).2.2.1))) [0, 1, 2, 3, 4, 5, 6, 7, 8, 9, 10, 11, 12, 13, 14] (by decide) rfl)) rfl rfl) rfl rfl hl.1 rfl (lv_room (Nat.le_of_ble_eq_true rfl)) dL_acts_583 ⟨Nat.le_of_ble_eq_true rfl, Nat.le_of_ble_eq_true rfl⟩) (zva_no ⟨⟨(zo yy), by omega, rfl⟩, ⟨by decide, by decide⟩, trivial⟩) rfl ?_
          refine lv_icmp_lt (tgt := 593) hx hb dL_acts_586 (by decide) (fun c_41 => by exact absurd c_41 (hf_586)) (fun _ => ?_)
          refine lv_iconst (v := 1) hx hb dL_acts_589 (by decide) ?_
          refine lv_goto (tgt := 594) hx hb dL_acts_590 (by decide) ?_
          refine W.widen (k := 6) (n := 36) (Nat.le_of_ble_eq_true rfl) (Nat.le_of_ble_eq_true rfl) ?_
          exact z_zretM (w1 := xmW cA x b rd X ((f_X2_unpledge N B Bs (nI (zm yy)) (nI (zo yy)) (nI (za yy))).2.1) ++ (bkW (cA 0) (b 0) ((f_X2_unpledge N B Bs (nI (zm yy)) (nI (zo yy)) (nI (za yy))).2.2.1) ++ (otW (cA 0) b ((f_X2_unpledge N B Bs (nI (zm yy)) (nI (zo yy)) (nI (za yy))).2.2.2)))) hx hb hr hlocks dL_acts_594 hP hS rfl rfl (by rw [hres_489]; first | (simp -proj only [f_L_acts_489]; first | done | rfl; done) | rfl)
        refine lv_if_ne (tgt := 566) hx hb dL_acts_555 (by decide) (fun c_39 => ?_) (fun c_39 => ?_)
        · refine lv_iload hx hb dL_acts_566 (lv_at hl 1 rfl) ?_
          refine z_top (y := if ((f_X2_unpledge N B Bs (nI (zm yy)) (nI (zo yy)) (nI (za yy))).1) = 0 then ((f_X2_pledged B (nI (zm yy)) (nI (zo yy))) - (nI (za yy)) : Int32) else f_X2_pledged B (nI (zm yy)) (nI (zo yy))) (by rw [if_neg c_39]) ?_; exact sel_555 ls (lv_sub hl [0, 1, 2, 3, 4, 5, 6, 7, 8, 9, 10, 11, 12] rfl)
        · refine lv_iload hx hb dL_acts_558 (lv_at hl 1 rfl) ?_
          refine lv_iload hx hb dL_acts_560 (lv_at hl 6 rfl) ?_
          refine lv_isub hx hb dL_acts_562 ?_
          refine lv_goto (tgt := 568) hx hb dL_acts_563 (by decide) ?_
          refine z_top (y := if ((f_X2_unpledge N B Bs (nI (zm yy)) (nI (zo yy)) (nI (za yy))).1) = 0 then ((f_X2_pledged B (nI (zm yy)) (nI (zo yy))) - (nI (za yy)) : Int32) else f_X2_pledged B (nI (zm yy)) (nI (zo yy))) (by rw [if_pos c_39]) ?_; exact sel_555 ls (lv_sub hl [0, 1, 2, 3, 4, 5, 6, 7, 8, 9, 10, 11, 12] rfl)
      refine lv_icmp_le (tgt := 531) hx hb dL_acts_524 (by decide) (fun c_35 => ?_) (fun c_35 => ?_)
      · refine lv_iconst (v := 0) hx hb dL_acts_531 (by decide) ?_
        refine z_top (y := if (nI (za yy)) ≤ (f_X2_pledged B (nI (zm yy)) (nI (zo yy))) then (0 : Int32) else 1) (by rw [if_pos c_35]) ?_; exact sel_524 ls (lv_sub hl [0, 1, 2, 3, 4, 5, 6, 7, 8, 9, 10, 11, 12] rfl)
      · refine lv_iconst (v := 1) hx hb dL_acts_527 (by decide) ?_
        refine lv_goto (tgt := 532) hx hb dL_acts_528 (by decide) ?_
        refine z_top (y := if (nI (za yy)) ≤ (f_X2_pledged B (nI (zm yy)) (nI (zo yy))) then (0 : Int32) else 1) (by rw [if_neg c_35]) ?_; exact sel_524 ls (lv_sub hl [0, 1, 2, 3, 4, 5, 6, 7, 8, 9, 10, 11, 12] rfl)
    refine lv_icmp_ne (tgt := 519) hx hb dL_acts_512 (by decide) (fun c_34 => ?_) (fun c_34 => ?_)
    · refine lv_iconst (v := 0) hx hb dL_acts_519 (by decide) ?_
      refine z_top (y := if ((f_X2_unpledge N B Bs (nI (zm yy)) (nI (zo yy)) (nI (za yy))).1) = 1 then (1 : Int32) else 0) (by rw [if_neg c_34]) ?_; exact sel_512 ls (lv_sub hl [0, 1, 2, 3, 4, 5, 6, 7, 8, 9, 10, 11, 12] rfl)
    · refine lv_iconst (v := 1) hx hb dL_acts_515 (by decide) ?_
      refine lv_goto (tgt := 520) hx hb dL_acts_516 (by decide) ?_
      refine z_top (y := if ((f_X2_unpledge N B Bs (nI (zm yy)) (nI (zo yy)) (nI (za yy))).1) = 1 then (1 : Int32) else 0) (by rw [if_pos c_34]) ?_; exact sel_512 ls (lv_sub hl [0, 1, 2, 3, 4, 5, 6, 7, 8, 9, 10, 11, 12] rfl)
  have join_381 : f_L_acts N B Bs xx yy = f_L_acts_381 N B Bs xx yy → ∀ (H : Heap) (locs : List Loc), va_P D vwCl (xmW cA x b rd X N ++ (bkW (cA 0) (b 0) B ++ (otW (cA 0) b Bs))) H → va_D (zfr (xmW cA x b rd X N ++ (bkW (cA 0) (b 0) B ++ (otW (cA 0) b Bs)))) (xmW cA x b rd X N ++ (bkW (cA 0) (b 0) B ++ (otW (cA 0) b Bs))) → va_S (zfr (xmW cA x b rd X N ++ (bkW (cA 0) (b 0) B ++ (otW (cA 0) b Bs)))) s.heap H locs → ∀ (ls : Array Slot), lv_has ls 29 [(0, .ref (x 0)), (2, .int yy), (3, .int (nI (zm yy))), (4, .int (nI (zo yy))), (5, .int (nI (za yy))), (6, .int (f_X2_count N B 0)), (7, .int (f_X2_count N B 1)), (8, .int (f_X2_count N B 2)), (9, .int (f_X2_count N B 3)), (10, .int (f_X2_count N B 9)), (11, .int (f_X2_memberOf B (nI (zm yy)) 4))] → W p l e (headSpec wsL_acts (zrx 9 163 6 36)).room s m ([.ref (x 0), .int xx, .int yy] : List Value).toArray below meth c H locs 0 0 (MQ below (zM D (xmW cA x b rd X N ++ (bkW (cA 0) (b 0) B ++ (otW (cA 0) b Bs))) (xmW cA x b rd X ((f_L_acts N B Bs xx yy).1) ++ (bkW (cA 0) (b 0) ((f_L_acts N B Bs xx yy).2.1) ++ (otW (cA 0) b ((f_L_acts N B Bs xx yy).2.2)))) (some (.int 1))) ([.ref (x 0), .int xx, .int yy] : List Value).toArray s 6 36 (zfr (xmW cA x b rd X N ++ (bkW (cA 0) (b 0) B ++ (otW (cA 0) b Bs))))) (F0 m 381 ls []) := by
    intro hres_381 H locs hP hD hS ls hl
    obtain ⟨hf_424, hf_468, hf_480, hf_442, hf_455⟩ := hF_381
    refine lv_aload_n hx hb dL_acts_381 rfl (lv_at hl 0 rfl) ?_
    refine lv_iload_n hx hb dL_acts_382 rfl (lv_at hl 2 rfl) ?_
    refine lv_iload hx hb dL_acts_383 (lv_at hl 3 rfl) ?_
    refine zv_E (vx_runV (As := [.int (nI (zm yy)), .int (nI (zo yy))]) (rest := []) ⟨hx, hb, hml, hown, hts⟩ (zk_X2_pledged l hfl D cA b rd x X N B (nI (zm yy)) (nI (zo yy))) (cwV 2 hts gL_acts_X2_pledged rfl rfl rfl zy_X2_pledged ⟨(Nat.le_of_ble_eq_true rfl), (Nat.le_of_ble_eq_true rfl)⟩) (zx_preVq (A := (zfr (xmW cA x b rd X N ++ (bkW (cA 0) (b 0) B ++ (otW (cA 0) b Bs))))) (ci := 2) (q0 := 0) hK (hP.sub (ws' := xmW cA x b rd X N ++ (bkW (cA 0) (b 0) B)) [0, 1, 2, 3, 4, 5, 6, 7, 8, 9, 10, 11, 12, 13, 14] rfl) (hD.sub (ws' := xmW cA x b rd X N ++ (bkW (cA 0) (b 0) B)) [0, 1, 2, 3, 4, 5, 6, 7, 8, 9, 10, 11, 12, 13, 14] (by decide) rfl) hO hS (zD_fr (hD.sub (ws' := xmW cA x b rd X N ++ (bkW (cA 0) (b 0) B)) [0, 1, 2, 3, 4, 5, 6, 7, 8, 9, 10, 11, 12, 13, 14] (by decide) rfl)) rfl rfl) rfl rfl hl.1 rfl (lv_room (Nat.le_of_ble_eq_true rfl)) dL_acts_385 ⟨Nat.le_of_ble_eq_true rfl, Nat.le_of_ble_eq_true rfl⟩) (zva_no ⟨⟨(zm yy), by omega, rfl⟩, ⟨(zo yy), by omega, rfl⟩, trivial⟩) rfl ?_
    refine lv_istore (lv' := [(15, .int (f_X2_pledged B (nI (zm yy)) (nI (zo yy)))), (0, .ref (x 0)), (2, .int yy), (3, .int (nI (zm yy))), (4, .int (nI (zo yy))), (5, .int (nI (za yy))), (6, .int (f_X2_count N B 0)), (7, .int (f_X2_count N B 1)), (8, .int (f_X2_count N B 2)), (9, .int (f_X2_count N B 3)), (10, .int (f_X2_count N B 9)), (11, .int (f_X2_memberOf B (nI (zm yy)) 4))]) hx hb dL_acts_388 hl (by decide) rfl (fun ls hl => ?_)
    refine lv_aload_n hx hb dL_acts_390 rfl (lv_at hl 1 rfl) ?_
    refine lv_iload_n hx hb dL_acts_391 rfl (lv_at hl 3 rfl) ?_
    refine lv_iload hx hb dL_acts_392 (lv_at hl 4 rfl) ?_
    refine lv_iload hx hb dL_acts_394 (lv_at hl 5 rfl) ?_
    refine zv_M (X := ([] : va_W)) (Z := ([] : va_W)) (vx_runV (As := [.int (nI (zm yy)), .int (nI (zo yy)), .int (nI (za yy))]) (rest := []) ⟨hx, hb, hml, hown, hts⟩ (zk_X2_pledge l hfl D cA b rd x X N B Bs (nI (zm yy)) (nI (zo yy)) (nI (za yy)) hpm hsv2) (cwV 3 hts gL_acts_X2_pledge rfl rfl rfl zy_X2_pledge ⟨(Nat.le_of_ble_eq_true rfl), (Nat.le_of_ble_eq_true rfl)⟩) (zx_preVq (A := (zfr (xmW cA x b rd X N ++ (bkW (cA 0) (b 0) B ++ (otW (cA 0) b Bs))))) (ci := 2) (q0 := 0) hK hP hD hO hS (zD_fr hD) rfl rfl) rfl rfl hl.1 rfl (lv_room (Nat.le_of_ble_eq_true rfl)) dL_acts_396 ⟨Nat.le_of_ble_eq_true rfl, Nat.le_of_ble_eq_true rfl⟩) (zva_no ⟨⟨(zm yy), by omega, rfl⟩, ⟨(zo yy), by omega, rfl⟩, (hf_504), (zrgN (a := 1) (b := 9999) (by omega) (by omega) (by omega)), trivial⟩) hP hD hS (z_adr2 xmW_adr (z_adr2 bkW_adr otW_adr)) rfl (fun H locs hP9 hD9 hS9 => ?_)
    replace hP : va_P D vwCl (xmW cA x b rd X ((f_X2_pledge N B Bs (nI (zm yy)) (nI (zo yy)) (nI (za yy))).2.1) ++ (bkW (cA 0) (b 0) ((f_X2_pledge N B Bs (nI (zm yy)) (nI (zo yy)) (nI (za yy))).2.2.1) ++ (otW (cA 0) b ((f_X2_pledge N B Bs (nI (zm yy)) (nI (zo yy)) (nI (za yy))).2.2.2)))) H := hP9
    replace hD : va_D _ (xmW cA x b rd X ((f_X2_pledge N B Bs (nI (zm yy)) (nI (zo yy)) (nI (za yy))).2.1) ++ (bkW (cA 0) (b 0) ((f_X2_pledge N B Bs (nI (zm yy)) (nI (zo yy)) (nI (za yy))).2.2.1) ++ (otW (cA 0) b ((f_X2_pledge N B Bs (nI (zm yy)) (nI (zo yy)) (nI (za yy))).2.2.2)))) := hD9
    replace hS := hS9
    clear hP9 hD9 hS9
    refine lv_istore (lv' := [(16, .int ((f_X2_pledge N B Bs (nI (zm yy)) (nI (zo yy)) (nI (za yy))).1)), (15, .int (f_X2_pledged B (nI (zm yy)) (nI (zo yy)))), (0, .ref (x 0)), (2, .int yy), (3, .int (nI (zm yy))), (4, .int (nI (zo yy))), (5, .int (nI (za yy))), (6, .int (f_X2_count N B 0)), (7, .int (f_X2_count N B 1)), (8, .int (f_X2_count N B 2)), (9, .int (f_X2_count N B 3)), (10, .int (f_X2_count N B 9)), (11, .int (f_X2_memberOf B (nI (zm yy)) 4))]) hx hb dL_acts_399 hl (by decide) rfl (fun ls hl => ?_)
    refine lv_iload hx hb dL_acts_401 (lv_at hl 0 rfl) ?_
    refine lv_iconst (v := (-1)) hx hb dL_acts_403 (by decide) ?_
    have sel_404 : ∀ (ls : Array Slot), lv_has ls 29 [(16, .int ((f_X2_pledge N B Bs (nI (zm yy)) (nI (zo yy)) (nI (za yy))).1)), (15, .int (f_X2_pledged B (nI (zm yy)) (nI (zo yy)))), (0, .ref (x 0)), (2, .int yy), (3, .int (nI (zm yy))), (4, .int (nI (zo yy))), (5, .int (nI (za yy))), (6, .int (f_X2_count N B 0)), (7, .int (f_X2_count N B 1)), (8, .int (f_X2_count N B 2)), (9, .int (f_X2_count N B 3)), (10, .int (f_X2_count N B 9)), (11, .int (f_X2_memberOf B (nI (zm yy)) 4))] → W p l e (headSpec wsL_acts (zrx 9 163 6 36)).room s m ([.ref (x 0), .int xx, .int yy] : List Value).toArray below meth c H locs 4 24 (MQ below (zM D (xmW cA x b rd X N ++ (bkW (cA 0) (b 0) B ++ (otW (cA 0) b Bs))) (xmW cA x b rd X ((f_L_acts N B Bs xx yy).1) ++ (bkW (cA 0) (b 0) ((f_L_acts N B Bs xx yy).2.1) ++ (otW (cA 0) b ((f_L_acts N B Bs xx yy).2.2)))) (some (.int 1))) ([.ref (x 0), .int xx, .int yy] : List Value).toArray s 6 36 (zfr (xmW cA x b rd X N ++ (bkW (cA 0) (b 0) B ++ (otW (cA 0) b Bs))))) (F0 m 412 ls [.int (if ((f_X2_pledge N B Bs (nI (zm yy)) (nI (zo yy)) (nI (za yy))).1) = (-1) then (1 : Int32) else 0)]) := by
      intro ls hl
      refine lv_iload hx hb dL_acts_412 (lv_at hl 6 rfl) ?_
      refine lv_iload hx hb dL_acts_414 (lv_at hl 12 rfl) ?_
      have sel_416 : ∀ (ls : Array Slot), lv_has ls 29 [(16, .int ((f_X2_pledge N B Bs (nI (zm yy)) (nI (zo yy)) (nI (za yy))).1)), (15, .int (f_X2_pledged B (nI (zm yy)) (nI (zo yy)))), (0, .ref (x 0)), (2, .int yy), (3, .int (nI (zm yy))), (4, .int (nI (zo yy))), (5, .int (nI (za yy))), (6, .int (f_X2_count N B 0)), (7, .int (f_X2_count N B 1)), (8, .int (f_X2_count N B 2)), (9, .int (f_X2_count N B 3)), (10, .int (f_X2_count N B 9)), (11, .int (f_X2_memberOf B (nI (zm yy)) 4))] → W p l e (headSpec wsL_acts (zrx 9 163 6 36)).room s m ([.ref (x 0), .int xx, .int yy] : List Value).toArray below meth c H locs 4 24 (MQ below (zM D (xmW cA x b rd X N ++ (bkW (cA 0) (b 0) B ++ (otW (cA 0) b Bs))) (xmW cA x b rd X ((f_L_acts N B Bs xx yy).1) ++ (bkW (cA 0) (b 0) ((f_L_acts N B Bs xx yy).2.1) ++ (otW (cA 0) b ((f_L_acts N B Bs xx yy).2.2)))) (some (.int 1))) ([.ref (x 0), .int xx, .int yy] : List Value).toArray s 6 36 (zfr (xmW cA x b rd X N ++ (bkW (cA 0) (b 0) B ++ (otW (cA 0) b Bs))))) (F0 m 424 ls [.int (if (nI (za yy)) ≤ (f_X2_memberOf B (nI (zm yy)) 4) then (0 : Int32) else 1), .int (if ((f_X2_pledge N B Bs (nI (zm yy)) (nI (zo yy)) (nI (za yy))).1) = (-1) then (1 : Int32) else 0)]) := by
        intro ls hl
        refine lv_icmp_ne (tgt := 487) hx hb dL_acts_424 (by decide) (fun c_44 => by exact absurd (hf_424) c_44) (fun _ => ?_)
        refine lv_iload hx hb dL_acts_427 (lv_at hl 0 rfl) ?_
        refine lv_iconst (v := (-1)) hx hb dL_acts_429 (by decide) ?_
        have sel_430 : ∀ (ls : Array Slot), lv_has ls 29 [(16, .int ((f_X2_pledge N B Bs (nI (zm yy)) (nI (zo yy)) (nI (za yy))).1)), (15, .int (f_X2_pledged B (nI (zm yy)) (nI (zo yy)))), (0, .ref (x 0)), (2, .int yy), (3, .int (nI (zm yy))), (4, .int (nI (zo yy))), (5, .int (nI (za yy))), (6, .int (f_X2_count N B 0)), (7, .int (f_X2_count N B 1)), (8, .int (f_X2_count N B 2)), (9, .int (f_X2_count N B 3)), (10, .int (f_X2_count N B 9)), (11, .int (f_X2_memberOf B (nI (zm yy)) 4))] → W p l e (headSpec wsL_acts (zrx 9 163 6 36)).room s m ([.ref (x 0), .int xx, .int yy] : List Value).toArray below meth c H locs 4 24 (MQ below (zM D (xmW cA x b rd X N ++ (bkW (cA 0) (b 0) B ++ (otW (cA 0) b Bs))) (xmW cA x b rd X ((f_L_acts N B Bs xx yy).1) ++ (bkW (cA 0) (b 0) ((f_L_acts N B Bs xx yy).2.1) ++ (otW (cA 0) b ((f_L_acts N B Bs xx yy).2.2)))) (some (.int 1))) ([.ref (x 0), .int xx, .int yy] : List Value).toArray s 6 36 (zfr (xmW cA x b rd X N ++ (bkW (cA 0) (b 0) B ++ (otW (cA 0) b Bs))))) (F0 m 483 ls []) := by
          intro ls hl
          refine lv_iconst (v := 1) hx hb dL_acts_483 (by decide) ?_
          refine lv_goto (tgt := 488) hx hb dL_acts_484 (by decide) ?_
          refine W.widen (k := 6) (n := 36) (Nat.le_of_ble_eq_true rfl) (Nat.le_of_ble_eq_true rfl) ?_
          exact z_zretM (w1 := xmW cA x b rd X ((f_X2_pledge N B Bs (nI (zm yy)) (nI (zo yy)) (nI (za yy))).2.1) ++ (bkW (cA 0) (b 0) ((f_X2_pledge N B Bs (nI (zm yy)) (nI (zo yy)) (nI (za yy))).2.2.1) ++ (otW (cA 0) b ((f_X2_pledge N B Bs (nI (zm yy)) (nI (zo yy)) (nI (za yy))).2.2.2)))) hx hb hr hlocks dL_acts_488 hP hS rfl rfl (by rw [hres_381]; first | (simp -proj only [f_L_acts_381]; first | done | rfl; done) | rfl)
        refine lv_icmp_ne (tgt := 461) hx hb dL_acts_430 (by decide) (fun c_45 => ?_) (fun c_45 => ?_)
        · refine lv_iload hx hb dL_acts_461 (lv_at hl 0 rfl) ?_
          refine lv_iload hx hb dL_acts_463 (lv_at hl 1 rfl) ?_
          refine lv_iload hx hb dL_acts_465 (lv_at hl 6 rfl) ?_
          refine lv_iadd hx hb dL_acts_467 ?_
          refine lv_icmp_ne (tgt := 487) hx hb dL_acts_468 (by decide) (fun c_46 => by exact absurd (hf_468 c_45) c_46) (fun _ => ?_)
          refine lv_aload_n hx hb dL_acts_471 rfl (lv_at hl 2 rfl) ?_
          refine lv_iload_n hx hb dL_acts_472 rfl (lv_at hl 4 rfl) ?_
          refine lv_iload hx hb dL_acts_473 (lv_at hl 5 rfl) ?_
          refine zv_E (vx_runV (As := [.int (nI (zm yy)), .int (nI (zo yy))]) (rest := []) ⟨hx, hb, hml, hown, hts⟩ (zk_X2_pledged l hfl D cA b rd x X ((f_X2_pledge N B Bs (nI (zm yy)) (nI (zo yy)) (nI (za yy))).2.1) ((f_X2_pledge N B Bs (nI (zm yy)) (nI (zo yy)) (nI (za yy))).2.2.1) (nI (zm yy)) (nI (zo yy))) (cwV 2 hts gL_acts_X2_pledged rfl rfl rfl zy_X2_pledged ⟨(Nat.le_of_ble_eq_true rfl), (Nat.le_of_ble_eq_true rfl)⟩) (zx_preVq (A := (zfr (xmW cA x b rd X N ++ (bkW (cA 0) (b 0) B ++ (otW (cA 0) b Bs))))) (ci := 2) (q0 := 0) hK (hP.sub (ws' := xmW cA x b rd X ((f_X2_pledge N B Bs (nI (zm yy)) (nI (zo yy)) (nI (za yy))).2.1) ++ (bkW (cA 0) (b 0) ((f_X2_pledge N B Bs (nI (zm yy)) (nI (zo yy)) (nI (za yy))).2.2.1))) [0, 1, 2, 3, 4, 5, 6, 7, 8, 9, 10, 11, 12, 13, 14] rfl) (hD.sub (ws' := xmW cA x b rd X ((f_X2_pledge N B Bs (nI (zm yy)) (nI (zo yy)) (nI (za yy))).2.1) ++ (bkW (cA 0) (b 0) ((f_X2_pledge N B Bs (nI (zm yy)) (nI (zo yy)) (nI (za yy))).2.2.1))) [0, 1, 2, 3, 4, 5, 6, 7, 8, 9, 10, 11, 12, 13, 14] (by decide) rfl) hO hS (zD_fr (hD.sub (ws' := xmW cA x b rd X ((f_X2_pledge N B Bs (nI (zm yy)) (nI (zo yy)) (nI (za yy))).2.1) ++ (bkW (cA 0) (b 0) ((f_X2_pledge N B Bs (nI (zm yy)) (nI (zo yy)) (nI (za yy))).2.2.1))) [0, 1, 2, 3, 4, 5, 6, 7, 8, 9, 10, 11, 12, 13, 14] (by decide) rfl)) rfl rfl) rfl rfl hl.1 rfl (lv_room (Nat.le_of_ble_eq_true rfl)) dL_acts_475 ⟨Nat.le_of_ble_eq_true rfl, Nat.le_of_ble_eq_true rfl⟩) (zva_no ⟨⟨(zm yy), by omega, rfl⟩, ⟨(zo yy), by omega, rfl⟩, trivial⟩) rfl ?_
          refine lv_iload hx hb dL_acts_478 (lv_at hl 0 rfl) ?_
          refine lv_icmp_ne (tgt := 487) hx hb dL_acts_480 (by decide) (fun c_47 => by exact absurd (hf_480 c_45) c_47) (fun _ => ?_)
          exact sel_430 ls (lv_sub hl [0, 1, 2, 3, 4, 5, 6, 7, 8, 9, 10, 11, 12] rfl)
        · refine lv_aload_n hx hb dL_acts_433 rfl (lv_at hl 2 rfl) ?_
          refine lv_iload_n hx hb dL_acts_434 rfl (lv_at hl 4 rfl) ?_
          refine lv_iload hx hb dL_acts_435 (lv_at hl 5 rfl) ?_
          refine zv_E (vx_runV (As := [.int (nI (zm yy)), .int (nI (zo yy))]) (rest := []) ⟨hx, hb, hml, hown, hts⟩ (zk_X2_pledged l hfl D cA b rd x X ((f_X2_pledge N B Bs (nI (zm yy)) (nI (zo yy)) (nI (za yy))).2.1) ((f_X2_pledge N B Bs (nI (zm yy)) (nI (zo yy)) (nI (za yy))).2.2.1) (nI (zm yy)) (nI (zo yy))) (cwV 2 hts gL_acts_X2_pledged rfl rfl rfl zy_X2_pledged ⟨(Nat.le_of_ble_eq_true rfl), (Nat.le_of_ble_eq_true rfl)⟩) (zx_preVq (A := (zfr (xmW cA x b rd X N ++ (bkW (cA 0) (b 0) B ++ (otW (cA 0) b Bs))))) (ci := 2) (q0 := 0) hK (hP.sub (ws' := xmW cA x b rd X ((f_X2_pledge N B Bs (nI (zm yy)) (nI (zo yy)) (nI (za yy))).2.1) ++ (bkW (cA 0) (b 0) ((f_X2_pledge N B Bs (nI (zm yy)) (nI (zo yy)) (nI (za yy))).2.2.1))) [0, 1, 2, 3, 4, 5, 6, 7, 8, 9, 10, 11, 12, 13, 14] rfl) (hD.sub (ws' := xmW cA x b rd X ((f_X2_pledge N B Bs (nI (zm yy)) (nI (zo yy)) (nI (za yy))).2.1) ++ (bkW (cA 0) (b 0) ((f_X2_pledge N B Bs (nI (zm yy)) (nI (zo yy)) (nI (za yy))).2.2.1))) [0, 1, 2, 3, 4, 5, 6, 7, 8, 9, 10, 11, 12, 13, 14] (by decide) rfl) hO hS (zD_fr (hD.sub (ws' := xmW cA x b rd X ((f_X2_pledge N B Bs (nI (zm yy)) (nI (zo yy)) (nI (za yy))).2.1) ++ (bkW (cA 0) (b 0) ((f_X2_pledge N B Bs (nI (zm yy)) (nI (zo yy)) (nI (za yy))).2.2.1))) [0, 1, 2, 3, 4, 5, 6, 7, 8, 9, 10, 11, 12, 13, 14] (by decide) rfl)) rfl rfl) rfl rfl hl.1 rfl (lv_room (Nat.le_of_ble_eq_true rfl)) dL_acts_437 ⟨Nat.le_of_ble_eq_true rfl, Nat.le_of_ble_eq_true rfl⟩) (zva_no ⟨⟨(zm yy), by omega, rfl⟩, ⟨(zo yy), by omega, rfl⟩, trivial⟩) rfl ?_
          refine lv_iload hx hb dL_acts_440 (lv_at hl 1 rfl) ?_
          refine lv_icmp_ne (tgt := 487) hx hb dL_acts_442 (by decide) (fun c_48 => by exact absurd (hf_442 c_45) c_48) (fun _ => ?_)
          refine lv_aload_n hx hb dL_acts_445 rfl (lv_at hl 2 rfl) ?_
          refine lv_bipush (v := 9) hx hb dL_acts_446 (by decide) ?_
          refine zv_E (vx_runV (As := [.int 9]) (rest := []) ⟨hx, hb, hml, hown, hts⟩ (zk_X2_count l hfl D cA b rd x X ((f_X2_pledge N B Bs (nI (zm yy)) (nI (zo yy)) (nI (za yy))).2.1) ((f_X2_pledge N B Bs (nI (zm yy)) (nI (zo yy)) (nI (za yy))).2.2.1) 9) (cwV 1 hts gL_acts_X2_count rfl rfl rfl zy_X2_count ⟨(Nat.le_of_ble_eq_true rfl), (Nat.le_of_ble_eq_true rfl)⟩) (zx_preVq (A := (zfr (xmW cA x b rd X N ++ (bkW (cA 0) (b 0) B ++ (otW (cA 0) b Bs))))) (ci := 2) (q0 := 0) hK (hP.sub (ws' := xmW cA x b rd X ((f_X2_pledge N B Bs (nI (zm yy)) (nI (zo yy)) (nI (za yy))).2.1) ++ (bkW (cA 0) (b 0) ((f_X2_pledge N B Bs (nI (zm yy)) (nI (zo yy)) (nI (za yy))).2.2.1))) [0, 1, 2, 3, 4, 5, 6, 7, 8, 9, 10, 11, 12, 13, 14] rfl) (hD.sub (ws' := xmW cA x b rd X ((f_X2_pledge N B Bs (nI (zm yy)) (nI (zo yy)) (nI (za yy))).2.1) ++ (bkW (cA 0) (b 0) ((f_X2_pledge N B Bs (nI (zm yy)) (nI (zo yy)) (nI (za yy))).2.2.1))) [0, 1, 2, 3, 4, 5, 6, 7, 8, 9, 10, 11, 12, 13, 14] (by decide) rfl) hO hS (zD_fr (hD.sub (ws' := xmW cA x b rd X ((f_X2_pledge N B Bs (nI (zm yy)) (nI (zo yy)) (nI (za yy))).2.1) ++ (bkW (cA 0) (b 0) ((f_X2_pledge N B Bs (nI (zm yy)) (nI (zo yy)) (nI (za yy))).2.2.1))) [0, 1, 2, 3, 4, 5, 6, 7, 8, 9, 10, 11, 12, 13, 14] (by decide) rfl)) rfl rfl) rfl rfl hl.1 rfl (lv_room (Nat.le_of_ble_eq_true rfl)) dL_acts_448 ⟨Nat.le_of_ble_eq_true rfl, Nat.le_of_ble_eq_true rfl⟩) (zva_no ⟨⟨by decide, by decide⟩, trivial⟩) rfl ?_
          refine lv_iload hx hb dL_acts_451 (lv_at hl 11 rfl) ?_
          refine lv_iconst (v := 1) hx hb dL_acts_453 (by decide) ?_
          refine lv_iadd hx hb dL_acts_454 ?_
          refine lv_icmp_ne (tgt := 487) hx hb dL_acts_455 (by decide) (fun c_49 => by exact absurd (hf_455 c_45) c_49) (fun _ => ?_)
          refine lv_goto (tgt := 483) hx hb dL_acts_458 (by decide) ?_
          exact sel_430 ls (lv_sub hl [0, 1, 2, 3, 4, 5, 6, 7, 8, 9, 10, 11, 12] rfl)
      refine lv_icmp_le (tgt := 423) hx hb dL_acts_416 (by decide) (fun c_43 => ?_) (fun c_43 => ?_)
      · refine lv_iconst (v := 0) hx hb dL_acts_423 (by decide) ?_
        refine z_top (y := if (nI (za yy)) ≤ (f_X2_memberOf B (nI (zm yy)) 4) then (0 : Int32) else 1) (by rw [if_pos c_43]) ?_; exact sel_416 ls (lv_sub hl [0, 1, 2, 3, 4, 5, 6, 7, 8, 9, 10, 11, 12] rfl)
      · refine lv_iconst (v := 1) hx hb dL_acts_419 (by decide) ?_
        refine lv_goto (tgt := 424) hx hb dL_acts_420 (by decide) ?_
        refine z_top (y := if (nI (za yy)) ≤ (f_X2_memberOf B (nI (zm yy)) 4) then (0 : Int32) else 1) (by rw [if_neg c_43]) ?_; exact sel_416 ls (lv_sub hl [0, 1, 2, 3, 4, 5, 6, 7, 8, 9, 10, 11, 12] rfl)
    refine lv_icmp_ne (tgt := 411) hx hb dL_acts_404 (by decide) (fun c_42 => ?_) (fun c_42 => ?_)
    · refine lv_iconst (v := 0) hx hb dL_acts_411 (by decide) ?_
      refine z_top (y := if ((f_X2_pledge N B Bs (nI (zm yy)) (nI (zo yy)) (nI (za yy))).1) = (-1) then (1 : Int32) else 0) (by rw [if_neg c_42]) ?_; exact sel_404 ls (lv_sub hl [0, 1, 2, 3, 4, 5, 6, 7, 8, 9, 10, 11, 12] rfl)
    · refine lv_iconst (v := 1) hx hb dL_acts_407 (by decide) ?_
      refine lv_goto (tgt := 412) hx hb dL_acts_408 (by decide) ?_
      refine z_top (y := if ((f_X2_pledge N B Bs (nI (zm yy)) (nI (zo yy)) (nI (za yy))).1) = (-1) then (1 : Int32) else 0) (by rw [if_pos c_42]) ?_; exact sel_404 ls (lv_sub hl [0, 1, 2, 3, 4, 5, 6, 7, 8, 9, 10, 11, 12] rfl)
  have join_272 : f_L_acts N B Bs xx yy = f_L_acts_272 N B Bs xx yy → ∀ (H : Heap) (locs : List Loc), va_P D vwCl (xmW cA x b rd X N ++ (bkW (cA 0) (b 0) B ++ (otW (cA 0) b Bs))) H → va_D (zfr (xmW cA x b rd X N ++ (bkW (cA 0) (b 0) B ++ (otW (cA 0) b Bs)))) (xmW cA x b rd X N ++ (bkW (cA 0) (b 0) B ++ (otW (cA 0) b Bs))) → va_S (zfr (xmW cA x b rd X N ++ (bkW (cA 0) (b 0) B ++ (otW (cA 0) b Bs)))) s.heap H locs → ∀ (ls : Array Slot), lv_has ls 29 [(0, .ref (x 0)), (2, .int yy), (3, .int (nI (zm yy))), (4, .int (nI (zo yy))), (5, .int (nI (za yy))), (6, .int (f_X2_count N B 0)), (7, .int (f_X2_count N B 1)), (8, .int (f_X2_count N B 2)), (9, .int (f_X2_count N B 3)), (10, .int (f_X2_count N B 9)), (11, .int (f_X2_memberOf B (nI (zm yy)) 4))] → W p l e (headSpec wsL_acts (zrx 9 163 6 36)).room s m ([.ref (x 0), .int xx, .int yy] : List Value).toArray below meth c H locs 0 0 (MQ below (zM D (xmW cA x b rd X N ++ (bkW (cA 0) (b 0) B ++ (otW (cA 0) b Bs))) (xmW cA x b rd X ((f_L_acts N B Bs xx yy).1) ++ (bkW (cA 0) (b 0) ((f_L_acts N B Bs xx yy).2.1) ++ (otW (cA 0) b ((f_L_acts N B Bs xx yy).2.2)))) (some (.int 1))) ([.ref (x 0), .int xx, .int yy] : List Value).toArray s 6 36 (zfr (xmW cA x b rd X N ++ (bkW (cA 0) (b 0) B ++ (otW (cA 0) b Bs))))) (F0 m 272 ls []) := by
    intro hres_272 H locs hP hD hS ls hl
    obtain ⟨hf_304, hf_309, hf_315, hf_362, hf_372, hf_333, hf_346⟩ := hF_272
    refine lv_aload_n hx hb dL_acts_272 rfl (lv_at hl 0 rfl) ?_
    refine lv_iload_n hx hb dL_acts_273 rfl (lv_at hl 2 rfl) ?_
    refine lv_iload hx hb dL_acts_274 (lv_at hl 4 rfl) ?_
    refine zv_M (X := ([] : va_W)) (Z := ([] : va_W)) (vx_runV (As := [.int (nI (zm yy)), .int (nI (za yy))]) (rest := []) ⟨hx, hb, hml, hown, hts⟩ (zk_X2_payOut l hfl D cA b rd x X N B Bs (nI (zm yy)) (nI (za yy)) hpm hsv2) (cwV 2 hts gL_acts_X2_payOut rfl rfl rfl zy_X2_payOut ⟨(Nat.le_of_ble_eq_true rfl), (Nat.le_of_ble_eq_true rfl)⟩) (zx_preVq (A := (zfr (xmW cA x b rd X N ++ (bkW (cA 0) (b 0) B ++ (otW (cA 0) b Bs))))) (ci := 2) (q0 := 0) hK hP hD hO hS (zD_fr hD) rfl rfl) rfl rfl hl.1 rfl (lv_room (Nat.le_of_ble_eq_true rfl)) dL_acts_276 ⟨Nat.le_of_ble_eq_true rfl, Nat.le_of_ble_eq_true rfl⟩) (zva_no ⟨⟨(zm yy), by omega, rfl⟩, (zrgN (a := 1) (b := 9999) (by omega) (by omega) (by omega)), trivial⟩) hP hD hS (z_adr2 xmW_adr (z_adr2 bkW_adr otW_adr)) rfl (fun H locs hP9 hD9 hS9 => ?_)
    replace hP : va_P D vwCl (xmW cA x b rd X ((f_X2_payOut N B Bs (nI (zm yy)) (nI (za yy))).2.1) ++ (bkW (cA 0) (b 0) ((f_X2_payOut N B Bs (nI (zm yy)) (nI (za yy))).2.2.1) ++ (otW (cA 0) b ((f_X2_payOut N B Bs (nI (zm yy)) (nI (za yy))).2.2.2)))) H := hP9
    replace hD : va_D _ (xmW cA x b rd X ((f_X2_payOut N B Bs (nI (zm yy)) (nI (za yy))).2.1) ++ (bkW (cA 0) (b 0) ((f_X2_payOut N B Bs (nI (zm yy)) (nI (za yy))).2.2.1) ++ (otW (cA 0) b ((f_X2_payOut N B Bs (nI (zm yy)) (nI (za yy))).2.2.2)))) := hD9
    replace hS := hS9
    clear hP9 hD9 hS9
    refine lv_istore (lv' := [(14, .int ((f_X2_payOut N B Bs (nI (zm yy)) (nI (za yy))).1)), (0, .ref (x 0)), (2, .int yy), (3, .int (nI (zm yy))), (4, .int (nI (zo yy))), (5, .int (nI (za yy))), (6, .int (f_X2_count N B 0)), (7, .int (f_X2_count N B 1)), (8, .int (f_X2_count N B 2)), (9, .int (f_X2_count N B 3)), (10, .int (f_X2_count N B 9)), (11, .int (f_X2_memberOf B (nI (zm yy)) 4))]) hx hb dL_acts_279 hl (by decide) rfl (fun ls hl => ?_)
    refine lv_iload hx hb dL_acts_281 (lv_at hl 0 rfl) ?_
    refine lv_iconst (v := 1) hx hb dL_acts_283 (by decide) ?_
    have sel_284 : ∀ (ls : Array Slot), lv_has ls 29 [(14, .int ((f_X2_payOut N B Bs (nI (zm yy)) (nI (za yy))).1)), (0, .ref (x 0)), (2, .int yy), (3, .int (nI (zm yy))), (4, .int (nI (zo yy))), (5, .int (nI (za yy))), (6, .int (f_X2_count N B 0)), (7, .int (f_X2_count N B 1)), (8, .int (f_X2_count N B 2)), (9, .int (f_X2_count N B 3)), (10, .int (f_X2_count N B 9)), (11, .int (f_X2_memberOf B (nI (zm yy)) 4))] → W p l e (headSpec wsL_acts (zrx 9 163 6 36)).room s m ([.ref (x 0), .int xx, .int yy] : List Value).toArray below meth c H locs 2 12 (MQ below (zM D (xmW cA x b rd X N ++ (bkW (cA 0) (b 0) B ++ (otW (cA 0) b Bs))) (xmW cA x b rd X ((f_L_acts N B Bs xx yy).1) ++ (bkW (cA 0) (b 0) ((f_L_acts N B Bs xx yy).2.1) ++ (otW (cA 0) b ((f_L_acts N B Bs xx yy).2.2)))) (some (.int 1))) ([.ref (x 0), .int xx, .int yy] : List Value).toArray s 6 36 (zfr (xmW cA x b rd X N ++ (bkW (cA 0) (b 0) B ++ (otW (cA 0) b Bs))))) (F0 m 292 ls [.int (if ((f_X2_payOut N B Bs (nI (zm yy)) (nI (za yy))).1) = 1 then (1 : Int32) else 0)]) := by
      intro ls hl
      refine lv_iload hx hb dL_acts_292 (lv_at hl 5 rfl) ?_
      refine lv_iload hx hb dL_acts_294 (lv_at hl 11 rfl) ?_
      have sel_296 : ∀ (ls : Array Slot), lv_has ls 29 [(14, .int ((f_X2_payOut N B Bs (nI (zm yy)) (nI (za yy))).1)), (0, .ref (x 0)), (2, .int yy), (3, .int (nI (zm yy))), (4, .int (nI (zo yy))), (5, .int (nI (za yy))), (6, .int (f_X2_count N B 0)), (7, .int (f_X2_count N B 1)), (8, .int (f_X2_count N B 2)), (9, .int (f_X2_count N B 3)), (10, .int (f_X2_count N B 9)), (11, .int (f_X2_memberOf B (nI (zm yy)) 4))] → W p l e (headSpec wsL_acts (zrx 9 163 6 36)).room s m ([.ref (x 0), .int xx, .int yy] : List Value).toArray below meth c H locs 2 12 (MQ below (zM D (xmW cA x b rd X N ++ (bkW (cA 0) (b 0) B ++ (otW (cA 0) b Bs))) (xmW cA x b rd X ((f_L_acts N B Bs xx yy).1) ++ (bkW (cA 0) (b 0) ((f_L_acts N B Bs xx yy).2.1) ++ (otW (cA 0) b ((f_L_acts N B Bs xx yy).2.2)))) (some (.int 1))) ([.ref (x 0), .int xx, .int yy] : List Value).toArray s 6 36 (zfr (xmW cA x b rd X N ++ (bkW (cA 0) (b 0) B ++ (otW (cA 0) b Bs))))) (F0 m 304 ls [.int (if (nI (za yy)) ≤ (f_X2_memberOf B (nI (zm yy)) 4) then (0 : Int32) else 1), .int (if ((f_X2_payOut N B Bs (nI (zm yy)) (nI (za yy))).1) = 1 then (1 : Int32) else 0)]) := by
        intro ls hl
        refine lv_icmp_ne (tgt := 379) hx hb dL_acts_304 (by decide) (fun c_52 => by exact absurd (hf_304) c_52) (fun _ => ?_)
        refine lv_iload hx hb dL_acts_307 (lv_at hl 0 rfl) ?_
        refine lv_if_lt (tgt := 379) hx hb dL_acts_309 (by decide) (fun c_53 => by exact absurd c_53 (hf_309)) (fun _ => ?_)
        refine lv_iload hx hb dL_acts_312 (lv_at hl 0 rfl) ?_
        refine lv_iconst (v := 2) hx hb dL_acts_314 (by decide) ?_
        refine lv_icmp_gt (tgt := 379) hx hb dL_acts_315 (by decide) (fun c_54 => by exact absurd c_54 (hf_315)) (fun _ => ?_)
        refine lv_iload hx hb dL_acts_318 (lv_at hl 0 rfl) ?_
        have sel_320 : ∀ (ls : Array Slot), lv_has ls 29 [(14, .int ((f_X2_payOut N B Bs (nI (zm yy)) (nI (za yy))).1)), (0, .ref (x 0)), (2, .int yy), (3, .int (nI (zm yy))), (4, .int (nI (zo yy))), (5, .int (nI (za yy))), (6, .int (f_X2_count N B 0)), (7, .int (f_X2_count N B 1)), (8, .int (f_X2_count N B 2)), (9, .int (f_X2_count N B 3)), (10, .int (f_X2_count N B 9)), (11, .int (f_X2_memberOf B (nI (zm yy)) 4))] → W p l e (headSpec wsL_acts (zrx 9 163 6 36)).room s m ([.ref (x 0), .int xx, .int yy] : List Value).toArray below meth c H locs 2 12 (MQ below (zM D (xmW cA x b rd X N ++ (bkW (cA 0) (b 0) B ++ (otW (cA 0) b Bs))) (xmW cA x b rd X ((f_L_acts N B Bs xx yy).1) ++ (bkW (cA 0) (b 0) ((f_L_acts N B Bs xx yy).2.1) ++ (otW (cA 0) b ((f_L_acts N B Bs xx yy).2.2)))) (some (.int 1))) ([.ref (x 0), .int xx, .int yy] : List Value).toArray s 6 36 (zfr (xmW cA x b rd X N ++ (bkW (cA 0) (b 0) B ++ (otW (cA 0) b Bs))))) (F0 m 375 ls []) := by
          intro ls hl
          refine lv_iconst (v := 1) hx hb dL_acts_375 (by decide) ?_
          refine lv_goto (tgt := 380) hx hb dL_acts_376 (by decide) ?_
          refine W.widen (k := 6) (n := 36) (Nat.le_of_ble_eq_true rfl) (Nat.le_of_ble_eq_true rfl) ?_
          exact z_zretM (w1 := xmW cA x b rd X ((f_X2_payOut N B Bs (nI (zm yy)) (nI (za yy))).2.1) ++ (bkW (cA 0) (b 0) ((f_X2_payOut N B Bs (nI (zm yy)) (nI (za yy))).2.2.1) ++ (otW (cA 0) b ((f_X2_payOut N B Bs (nI (zm yy)) (nI (za yy))).2.2.2)))) hx hb hr hlocks dL_acts_380 hP hS rfl rfl (by rw [hres_272]; first | (simp -proj only [f_L_acts_272]; first | done | rfl; done) | rfl)
        refine lv_if_ne (tgt := 352) hx hb dL_acts_320 (by decide) (fun c_55 => ?_) (fun c_55 => ?_)
        · refine lv_aload_n hx hb dL_acts_352 rfl (lv_at hl 1 rfl) ?_
          refine lv_bipush (v := 9) hx hb dL_acts_353 (by decide) ?_
          refine zv_E (vx_runV (As := [.int 9]) (rest := []) ⟨hx, hb, hml, hown, hts⟩ (zk_X2_count l hfl D cA b rd x X ((f_X2_payOut N B Bs (nI (zm yy)) (nI (za yy))).2.1) ((f_X2_payOut N B Bs (nI (zm yy)) (nI (za yy))).2.2.1) 9) (cwV 1 hts gL_acts_X2_count rfl rfl rfl zy_X2_count ⟨(Nat.le_of_ble_eq_true rfl), (Nat.le_of_ble_eq_true rfl)⟩) (zx_preVq (A := (zfr (xmW cA x b rd X N ++ (bkW (cA 0) (b 0) B ++ (otW (cA 0) b Bs))))) (ci := 2) (q0 := 0) hK (hP.sub (ws' := xmW cA x b rd X ((f_X2_payOut N B Bs (nI (zm yy)) (nI (za yy))).2.1) ++ (bkW (cA 0) (b 0) ((f_X2_payOut N B Bs (nI (zm yy)) (nI (za yy))).2.2.1))) [0, 1, 2, 3, 4, 5, 6, 7, 8, 9, 10, 11, 12, 13, 14] rfl) (hD.sub (ws' := xmW cA x b rd X ((f_X2_payOut N B Bs (nI (zm yy)) (nI (za yy))).2.1) ++ (bkW (cA 0) (b 0) ((f_X2_payOut N B Bs (nI (zm yy)) (nI (za yy))).2.2.1))) [0, 1, 2, 3, 4, 5, 6, 7, 8, 9, 10, 11, 12, 13, 14] (by decide) rfl) hO hS (zD_fr (hD.sub (ws' := xmW cA x b rd X ((f_X2_payOut N B Bs (nI (zm yy)) (nI (za yy))).2.1) ++ (bkW (cA 0) (b 0) ((f_X2_payOut N B Bs (nI (zm yy)) (nI (za yy))).2.2.1))) [0, 1, 2, 3, 4, 5, 6, 7, 8, 9, 10, 11, 12, 13, 14] (by decide) rfl)) rfl rfl) rfl rfl hl.1 rfl (lv_room (Nat.le_of_ble_eq_true rfl)) dL_acts_355 ⟨Nat.le_of_ble_eq_true rfl, Nat.le_of_ble_eq_true rfl⟩) (zva_no ⟨⟨by decide, by decide⟩, trivial⟩) rfl ?_
          refine lv_iload hx hb dL_acts_358 (lv_at hl 10 rfl) ?_
          refine lv_iconst (v := 1) hx hb dL_acts_360 (by decide) ?_
          refine lv_iadd hx hb dL_acts_361 ?_
          refine lv_icmp_ne (tgt := 379) hx hb dL_acts_362 (by decide) (fun c_56 => by exact absurd (hf_362 c_55) c_56) (fun _ => ?_)
          refine lv_aload_n hx hb dL_acts_365 rfl (lv_at hl 1 rfl) ?_
          refine lv_iconst (v := 0) hx hb dL_acts_366 (by decide) ?_
          refine zv_E (vx_runV (As := [.int 0]) (rest := []) ⟨hx, hb, hml, hown, hts⟩ (zk_X2_count l hfl D cA b rd x X ((f_X2_payOut N B Bs (nI (zm yy)) (nI (za yy))).2.1) ((f_X2_payOut N B Bs (nI (zm yy)) (nI (za yy))).2.2.1) 0) (cwV 1 hts gL_acts_X2_count rfl rfl rfl zy_X2_count ⟨(Nat.le_of_ble_eq_true rfl), (Nat.le_of_ble_eq_true rfl)⟩) (zx_preVq (A := (zfr (xmW cA x b rd X N ++ (bkW (cA 0) (b 0) B ++ (otW (cA 0) b Bs))))) (ci := 2) (q0 := 0) hK (hP.sub (ws' := xmW cA x b rd X ((f_X2_payOut N B Bs (nI (zm yy)) (nI (za yy))).2.1) ++ (bkW (cA 0) (b 0) ((f_X2_payOut N B Bs (nI (zm yy)) (nI (za yy))).2.2.1))) [0, 1, 2, 3, 4, 5, 6, 7, 8, 9, 10, 11, 12, 13, 14] rfl) (hD.sub (ws' := xmW cA x b rd X ((f_X2_payOut N B Bs (nI (zm yy)) (nI (za yy))).2.1) ++ (bkW (cA 0) (b 0) ((f_X2_payOut N B Bs (nI (zm yy)) (nI (za yy))).2.2.1))) [0, 1, 2, 3, 4, 5, 6, 7, 8, 9, 10, 11, 12, 13, 14] (by decide) rfl) hO hS (zD_fr (hD.sub (ws' := xmW cA x b rd X ((f_X2_payOut N B Bs (nI (zm yy)) (nI (za yy))).2.1) ++ (bkW (cA 0) (b 0) ((f_X2_payOut N B Bs (nI (zm yy)) (nI (za yy))).2.2.1))) [0, 1, 2, 3, 4, 5, 6, 7, 8, 9, 10, 11, 12, 13, 14] (by decide) rfl)) rfl rfl) rfl rfl hl.1 rfl (lv_room (Nat.le_of_ble_eq_true rfl)) dL_acts_367 ⟨Nat.le_of_ble_eq_true rfl, Nat.le_of_ble_eq_true rfl⟩) (zva_no ⟨⟨by decide, by decide⟩, trivial⟩) rfl ?_
          refine lv_iload hx hb dL_acts_370 (lv_at hl 6 rfl) ?_
          refine lv_icmp_ne (tgt := 379) hx hb dL_acts_372 (by decide) (fun c_57 => by exact absurd (hf_372 c_55) c_57) (fun _ => ?_)
          exact sel_320 ls (lv_sub hl [0, 1, 2, 3, 4, 5, 6, 7, 8, 9, 10, 11] rfl)
        · refine lv_aload_n hx hb dL_acts_323 rfl (lv_at hl 1 rfl) ?_
          refine lv_iconst (v := 0) hx hb dL_acts_324 (by decide) ?_
          refine zv_E (vx_runV (As := [.int 0]) (rest := []) ⟨hx, hb, hml, hown, hts⟩ (zk_X2_count l hfl D cA b rd x X ((f_X2_payOut N B Bs (nI (zm yy)) (nI (za yy))).2.1) ((f_X2_payOut N B Bs (nI (zm yy)) (nI (za yy))).2.2.1) 0) (cwV 1 hts gL_acts_X2_count rfl rfl rfl zy_X2_count ⟨(Nat.le_of_ble_eq_true rfl), (Nat.le_of_ble_eq_true rfl)⟩) (zx_preVq (A := (zfr (xmW cA x b rd X N ++ (bkW (cA 0) (b 0) B ++ (otW (cA 0) b Bs))))) (ci := 2) (q0 := 0) hK (hP.sub (ws' := xmW cA x b rd X ((f_X2_payOut N B Bs (nI (zm yy)) (nI (za yy))).2.1) ++ (bkW (cA 0) (b 0) ((f_X2_payOut N B Bs (nI (zm yy)) (nI (za yy))).2.2.1))) [0, 1, 2, 3, 4, 5, 6, 7, 8, 9, 10, 11, 12, 13, 14] rfl) (hD.sub (ws' := xmW cA x b rd X ((f_X2_payOut N B Bs (nI (zm yy)) (nI (za yy))).2.1) ++ (bkW (cA 0) (b 0) ((f_X2_payOut N B Bs (nI (zm yy)) (nI (za yy))).2.2.1))) [0, 1, 2, 3, 4, 5, 6, 7, 8, 9, 10, 11, 12, 13, 14] (by decide) rfl) hO hS (zD_fr (hD.sub (ws' := xmW cA x b rd X ((f_X2_payOut N B Bs (nI (zm yy)) (nI (za yy))).2.1) ++ (bkW (cA 0) (b 0) ((f_X2_payOut N B Bs (nI (zm yy)) (nI (za yy))).2.2.1))) [0, 1, 2, 3, 4, 5, 6, 7, 8, 9, 10, 11, 12, 13, 14] (by decide) rfl)) rfl rfl) rfl rfl hl.1 rfl (lv_room (Nat.le_of_ble_eq_true rfl)) dL_acts_325 ⟨Nat.le_of_ble_eq_true rfl, Nat.le_of_ble_eq_true rfl⟩) (zva_no ⟨⟨by decide, by decide⟩, trivial⟩) rfl ?_
          refine lv_iload hx hb dL_acts_328 (lv_at hl 6 rfl) ?_
          refine lv_iload hx hb dL_acts_330 (lv_at hl 5 rfl) ?_
          refine lv_isub hx hb dL_acts_332 ?_
          refine lv_icmp_ne (tgt := 379) hx hb dL_acts_333 (by decide) (fun c_58 => by exact absurd (hf_333 c_55) c_58) (fun _ => ?_)
          refine lv_aload_n hx hb dL_acts_336 rfl (lv_at hl 1 rfl) ?_
          refine lv_iconst (v := 2) hx hb dL_acts_337 (by decide) ?_
          refine zv_E (vx_runV (As := [.int 2]) (rest := []) ⟨hx, hb, hml, hown, hts⟩ (zk_X2_count l hfl D cA b rd x X ((f_X2_payOut N B Bs (nI (zm yy)) (nI (za yy))).2.1) ((f_X2_payOut N B Bs (nI (zm yy)) (nI (za yy))).2.2.1) 2) (cwV 1 hts gL_acts_X2_count rfl rfl rfl zy_X2_count ⟨(Nat.le_of_ble_eq_true rfl), (Nat.le_of_ble_eq_true rfl)⟩) (zx_preVq (A := (zfr (xmW cA x b rd X N ++ (bkW (cA 0) (b 0) B ++ (otW (cA 0) b Bs))))) (ci := 2) (q0 := 0) hK (hP.sub (ws' := xmW cA x b rd X ((f_X2_payOut N B Bs (nI (zm yy)) (nI (za yy))).2.1) ++ (bkW (cA 0) (b 0) ((f_X2_payOut N B Bs (nI (zm yy)) (nI (za yy))).2.2.1))) [0, 1, 2, 3, 4, 5, 6, 7, 8, 9, 10, 11, 12, 13, 14] rfl) (hD.sub (ws' := xmW cA x b rd X ((f_X2_payOut N B Bs (nI (zm yy)) (nI (za yy))).2.1) ++ (bkW (cA 0) (b 0) ((f_X2_payOut N B Bs (nI (zm yy)) (nI (za yy))).2.2.1))) [0, 1, 2, 3, 4, 5, 6, 7, 8, 9, 10, 11, 12, 13, 14] (by decide) rfl) hO hS (zD_fr (hD.sub (ws' := xmW cA x b rd X ((f_X2_payOut N B Bs (nI (zm yy)) (nI (za yy))).2.1) ++ (bkW (cA 0) (b 0) ((f_X2_payOut N B Bs (nI (zm yy)) (nI (za yy))).2.2.1))) [0, 1, 2, 3, 4, 5, 6, 7, 8, 9, 10, 11, 12, 13, 14] (by decide) rfl)) rfl rfl) rfl rfl hl.1 rfl (lv_room (Nat.le_of_ble_eq_true rfl)) dL_acts_338 ⟨Nat.le_of_ble_eq_true rfl, Nat.le_of_ble_eq_true rfl⟩) (zva_no ⟨⟨by decide, by decide⟩, trivial⟩) rfl ?_
          refine lv_iload hx hb dL_acts_341 (lv_at hl 8 rfl) ?_
          refine lv_iload hx hb dL_acts_343 (lv_at hl 5 rfl) ?_
          refine lv_isub hx hb dL_acts_345 ?_
          refine lv_icmp_ne (tgt := 379) hx hb dL_acts_346 (by decide) (fun c_59 => by exact absurd (hf_346 c_55) c_59) (fun _ => ?_)
          refine lv_goto (tgt := 375) hx hb dL_acts_349 (by decide) ?_
          exact sel_320 ls (lv_sub hl [0, 1, 2, 3, 4, 5, 6, 7, 8, 9, 10, 11] rfl)
      refine lv_icmp_le (tgt := 303) hx hb dL_acts_296 (by decide) (fun c_51 => ?_) (fun c_51 => ?_)
      · refine lv_iconst (v := 0) hx hb dL_acts_303 (by decide) ?_
        refine z_top (y := if (nI (za yy)) ≤ (f_X2_memberOf B (nI (zm yy)) 4) then (0 : Int32) else 1) (by rw [if_pos c_51]) ?_; exact sel_296 ls (lv_sub hl [0, 1, 2, 3, 4, 5, 6, 7, 8, 9, 10, 11] rfl)
      · refine lv_iconst (v := 1) hx hb dL_acts_299 (by decide) ?_
        refine lv_goto (tgt := 304) hx hb dL_acts_300 (by decide) ?_
        refine z_top (y := if (nI (za yy)) ≤ (f_X2_memberOf B (nI (zm yy)) 4) then (0 : Int32) else 1) (by rw [if_neg c_51]) ?_; exact sel_296 ls (lv_sub hl [0, 1, 2, 3, 4, 5, 6, 7, 8, 9, 10, 11] rfl)
    refine lv_icmp_ne (tgt := 291) hx hb dL_acts_284 (by decide) (fun c_50 => ?_) (fun c_50 => ?_)
    · refine lv_iconst (v := 0) hx hb dL_acts_291 (by decide) ?_
      refine z_top (y := if ((f_X2_payOut N B Bs (nI (zm yy)) (nI (za yy))).1) = 1 then (1 : Int32) else 0) (by rw [if_neg c_50]) ?_; exact sel_284 ls (lv_sub hl [0, 1, 2, 3, 4, 5, 6, 7, 8, 9, 10, 11] rfl)
    · refine lv_iconst (v := 1) hx hb dL_acts_287 (by decide) ?_
      refine lv_goto (tgt := 292) hx hb dL_acts_288 (by decide) ?_
      refine z_top (y := if ((f_X2_payOut N B Bs (nI (zm yy)) (nI (za yy))).1) = 1 then (1 : Int32) else 0) (by rw [if_pos c_50]) ?_; exact sel_284 ls (lv_sub hl [0, 1, 2, 3, 4, 5, 6, 7, 8, 9, 10, 11] rfl)
  have join_176 : f_L_acts N B Bs xx yy = f_L_acts_176 N B Bs xx yy → ∀ (H : Heap) (locs : List Loc), va_P D vwCl (xmW cA x b rd X N ++ (bkW (cA 0) (b 0) B ++ (otW (cA 0) b Bs))) H → va_D (zfr (xmW cA x b rd X N ++ (bkW (cA 0) (b 0) B ++ (otW (cA 0) b Bs)))) (xmW cA x b rd X N ++ (bkW (cA 0) (b 0) B ++ (otW (cA 0) b Bs))) → va_S (zfr (xmW cA x b rd X N ++ (bkW (cA 0) (b 0) B ++ (otW (cA 0) b Bs)))) s.heap H locs → ∀ (ls : Array Slot), lv_has ls 29 [(0, .ref (x 0)), (2, .int yy), (3, .int (nI (zm yy))), (4, .int (nI (zo yy))), (5, .int (nI (za yy))), (6, .int (f_X2_count N B 0)), (7, .int (f_X2_count N B 1)), (8, .int (f_X2_count N B 2)), (9, .int (f_X2_count N B 3)), (10, .int (f_X2_count N B 9)), (11, .int (f_X2_memberOf B (nI (zm yy)) 4))] → W p l e (headSpec wsL_acts (zrx 9 163 6 36)).room s m ([.ref (x 0), .int xx, .int yy] : List Value).toArray below meth c H locs 0 0 (MQ below (zM D (xmW cA x b rd X N ++ (bkW (cA 0) (b 0) B ++ (otW (cA 0) b Bs))) (xmW cA x b rd X ((f_L_acts N B Bs xx yy).1) ++ (bkW (cA 0) (b 0) ((f_L_acts N B Bs xx yy).2.1) ++ (otW (cA 0) b ((f_L_acts N B Bs xx yy).2.2)))) (some (.int 1))) ([.ref (x 0), .int xx, .int yy] : List Value).toArray s 6 36 (zfr (xmW cA x b rd X N ++ (bkW (cA 0) (b 0) B ++ (otW (cA 0) b Bs))))) (F0 m 176 ls []) := by
    intro hres_176 H locs hP hD hS ls hl
    obtain ⟨hf_237, hf_250, hf_263, hf_206, hf_219⟩ := hF_176
    refine lv_aload_n hx hb dL_acts_176 rfl (lv_at hl 0 rfl) ?_
    refine lv_iload_n hx hb dL_acts_177 rfl (lv_at hl 2 rfl) ?_
    refine lv_iconst (v := 0) hx hb dL_acts_178 (by decide) ?_
    refine zv_E (vx_runV (As := [.int (nI (zm yy)), .int 0]) (rest := []) ⟨hx, hb, hml, hown, hts⟩ (zk_X2_memberOf l hfl D cA b rd x X N B (nI (zm yy)) 0) (cwV 2 hts gL_acts_X2_memberOf rfl rfl rfl zy_X2_memberOf ⟨(Nat.le_of_ble_eq_true rfl), (Nat.le_of_ble_eq_true rfl)⟩) (zx_preVq (A := (zfr (xmW cA x b rd X N ++ (bkW (cA 0) (b 0) B ++ (otW (cA 0) b Bs))))) (ci := 2) (q0 := 0) hK (hP.sub (ws' := xmW cA x b rd X N ++ (bkW (cA 0) (b 0) B)) [0, 1, 2, 3, 4, 5, 6, 7, 8, 9, 10, 11, 12, 13, 14] rfl) (hD.sub (ws' := xmW cA x b rd X N ++ (bkW (cA 0) (b 0) B)) [0, 1, 2, 3, 4, 5, 6, 7, 8, 9, 10, 11, 12, 13, 14] (by decide) rfl) hO hS (zD_fr (hD.sub (ws' := xmW cA x b rd X N ++ (bkW (cA 0) (b 0) B)) [0, 1, 2, 3, 4, 5, 6, 7, 8, 9, 10, 11, 12, 13, 14] (by decide) rfl)) rfl rfl) rfl rfl hl.1 rfl (lv_room (Nat.le_of_ble_eq_true rfl)) dL_acts_179 ⟨Nat.le_of_ble_eq_true rfl, Nat.le_of_ble_eq_true rfl⟩) (zva_no ⟨⟨(zm yy), by omega, rfl⟩, ⟨by decide, by decide⟩, trivial⟩) rfl ?_
    refine lv_istore (lv' := [(12, .int (f_X2_memberOf B (nI (zm yy)) 0)), (0, .ref (x 0)), (2, .int yy), (3, .int (nI (zm yy))), (4, .int (nI (zo yy))), (5, .int (nI (za yy))), (6, .int (f_X2_count N B 0)), (7, .int (f_X2_count N B 1)), (8, .int (f_X2_count N B 2)), (9, .int (f_X2_count N B 3)), (10, .int (f_X2_count N B 9)), (11, .int (f_X2_memberOf B (nI (zm yy)) 4))]) hx hb dL_acts_182 hl (by decide) rfl (fun ls hl => ?_)
    refine lv_aload_n hx hb dL_acts_184 rfl (lv_at hl 1 rfl) ?_
    refine lv_iload_n hx hb dL_acts_185 rfl (lv_at hl 3 rfl) ?_
    refine lv_iload hx hb dL_acts_186 (lv_at hl 5 rfl) ?_
    refine zv_M (X := ([] : va_W)) (Z := ([] : va_W)) (vx_runV (As := [.int (nI (zm yy)), .int (nI (za yy))]) (rest := []) ⟨hx, hb, hml, hown, hts⟩ (zk_X2_payIn l hfl D cA b rd x X N B Bs (nI (zm yy)) (nI (za yy)) hpm hsv2) (cwV 2 hts gL_acts_X2_payIn rfl rfl rfl zy_X2_payIn ⟨(Nat.le_of_ble_eq_true rfl), (Nat.le_of_ble_eq_true rfl)⟩) (zx_preVq (A := (zfr (xmW cA x b rd X N ++ (bkW (cA 0) (b 0) B ++ (otW (cA 0) b Bs))))) (ci := 2) (q0 := 0) hK hP hD hO hS (zD_fr hD) rfl rfl) rfl rfl hl.1 rfl (lv_room (Nat.le_of_ble_eq_true rfl)) dL_acts_188 ⟨Nat.le_of_ble_eq_true rfl, Nat.le_of_ble_eq_true rfl⟩) (zva_no ⟨⟨(zm yy), by omega, rfl⟩, (zrgN (a := 1) (b := 9999) (by omega) (by omega) (by omega)), trivial⟩) hP hD hS (z_adr2 xmW_adr (z_adr2 bkW_adr otW_adr)) rfl (fun H locs hP9 hD9 hS9 => ?_)
    replace hP : va_P D vwCl (xmW cA x b rd X ((f_X2_payIn N B Bs (nI (zm yy)) (nI (za yy))).2.1) ++ (bkW (cA 0) (b 0) ((f_X2_payIn N B Bs (nI (zm yy)) (nI (za yy))).2.2.1) ++ (otW (cA 0) b ((f_X2_payIn N B Bs (nI (zm yy)) (nI (za yy))).2.2.2)))) H := hP9
    replace hD : va_D _ (xmW cA x b rd X ((f_X2_payIn N B Bs (nI (zm yy)) (nI (za yy))).2.1) ++ (bkW (cA 0) (b 0) ((f_X2_payIn N B Bs (nI (zm yy)) (nI (za yy))).2.2.1) ++ (otW (cA 0) b ((f_X2_payIn N B Bs (nI (zm yy)) (nI (za yy))).2.2.2)))) := hD9
    replace hS := hS9
    clear hP9 hD9 hS9
    refine lv_istore (lv' := [(13, .int ((f_X2_payIn N B Bs (nI (zm yy)) (nI (za yy))).1)), (12, .int (f_X2_memberOf B (nI (zm yy)) 0)), (0, .ref (x 0)), (2, .int yy), (3, .int (nI (zm yy))), (4, .int (nI (zo yy))), (5, .int (nI (za yy))), (6, .int (f_X2_count N B 0)), (7, .int (f_X2_count N B 1)), (8, .int (f_X2_count N B 2)), (9, .int (f_X2_count N B 3)), (10, .int (f_X2_count N B 9)), (11, .int (f_X2_memberOf B (nI (zm yy)) 4))]) hx hb dL_acts_191 hl (by decide) rfl (fun ls hl => ?_)
    refine lv_iload hx hb dL_acts_193 (lv_at hl 1 rfl) ?_
    refine lv_iload hx hb dL_acts_195 (lv_at hl 6 rfl) ?_
    refine lv_iadd hx hb dL_acts_197 ?_
    refine lv_ldc hx hb hown (hts (.constant RL 37 (90000)) (List.mem_of_getElem? (i := 1) rfl)) dL_acts_198 ?_
    have sel_200 : ∀ (ls : Array Slot), lv_has ls 29 [(13, .int ((f_X2_payIn N B Bs (nI (zm yy)) (nI (za yy))).1)), (12, .int (f_X2_memberOf B (nI (zm yy)) 0)), (0, .ref (x 0)), (2, .int yy), (3, .int (nI (zm yy))), (4, .int (nI (zo yy))), (5, .int (nI (za yy))), (6, .int (f_X2_count N B 0)), (7, .int (f_X2_count N B 1)), (8, .int (f_X2_count N B 2)), (9, .int (f_X2_count N B 3)), (10, .int (f_X2_count N B 9)), (11, .int (f_X2_memberOf B (nI (zm yy)) 4))] → W p l e (headSpec wsL_acts (zrx 9 163 6 36)).room s m ([.ref (x 0), .int xx, .int yy] : List Value).toArray below meth c H locs 2 12 (MQ below (zM D (xmW cA x b rd X N ++ (bkW (cA 0) (b 0) B ++ (otW (cA 0) b Bs))) (xmW cA x b rd X ((f_L_acts N B Bs xx yy).1) ++ (bkW (cA 0) (b 0) ((f_L_acts N B Bs xx yy).2.1) ++ (otW (cA 0) b ((f_L_acts N B Bs xx yy).2.2)))) (some (.int 1))) ([.ref (x 0), .int xx, .int yy] : List Value).toArray s 6 36 (zfr (xmW cA x b rd X N ++ (bkW (cA 0) (b 0) B ++ (otW (cA 0) b Bs))))) (F0 m 271 ls [.int 1]) := by
      intro ls hl
      refine W.widen (k := 6) (n := 36) (Nat.le_of_ble_eq_true rfl) (Nat.le_of_ble_eq_true rfl) ?_
      exact z_zretM (w1 := xmW cA x b rd X ((f_X2_payIn N B Bs (nI (zm yy)) (nI (za yy))).2.1) ++ (bkW (cA 0) (b 0) ((f_X2_payIn N B Bs (nI (zm yy)) (nI (za yy))).2.2.1) ++ (otW (cA 0) b ((f_X2_payIn N B Bs (nI (zm yy)) (nI (za yy))).2.2.2)))) hx hb hr hlocks dL_acts_271 hP hS rfl rfl (by rw [hres_176]; first | (simp -proj only [f_L_acts_176]; first | done | rfl; done) | rfl)
    refine lv_icmp_le (tgt := 230) hx hb dL_acts_200 (by decide) (fun c_60 => ?_) (fun c_60 => ?_)
    · refine lv_iload hx hb dL_acts_230 (lv_at hl 0 rfl) ?_
      refine lv_iload hx hb dL_acts_232 (lv_at hl 1 rfl) ?_
      refine lv_iload hx hb dL_acts_234 (lv_at hl 6 rfl) ?_
      refine lv_iadd hx hb dL_acts_236 ?_
      refine lv_icmp_ne (tgt := 270) hx hb dL_acts_237 (by decide) (fun c_61 => by exact absurd (hf_237 c_60) c_61) (fun _ => ?_)
      refine lv_aload_n hx hb dL_acts_240 rfl (lv_at hl 2 rfl) ?_
      refine lv_iconst (v := 0) hx hb dL_acts_241 (by decide) ?_
      refine zv_E (vx_runV (As := [.int 0]) (rest := []) ⟨hx, hb, hml, hown, hts⟩ (zk_X2_count l hfl D cA b rd x X ((f_X2_payIn N B Bs (nI (zm yy)) (nI (za yy))).2.1) ((f_X2_payIn N B Bs (nI (zm yy)) (nI (za yy))).2.2.1) 0) (cwV 1 hts gL_acts_X2_count rfl rfl rfl zy_X2_count ⟨(Nat.le_of_ble_eq_true rfl), (Nat.le_of_ble_eq_true rfl)⟩) (zx_preVq (A := (zfr (xmW cA x b rd X N ++ (bkW (cA 0) (b 0) B ++ (otW (cA 0) b Bs))))) (ci := 2) (q0 := 0) hK (hP.sub (ws' := xmW cA x b rd X ((f_X2_payIn N B Bs (nI (zm yy)) (nI (za yy))).2.1) ++ (bkW (cA 0) (b 0) ((f_X2_payIn N B Bs (nI (zm yy)) (nI (za yy))).2.2.1))) [0, 1, 2, 3, 4, 5, 6, 7, 8, 9, 10, 11, 12, 13, 14] rfl) (hD.sub (ws' := xmW cA x b rd X ((f_X2_payIn N B Bs (nI (zm yy)) (nI (za yy))).2.1) ++ (bkW (cA 0) (b 0) ((f_X2_payIn N B Bs (nI (zm yy)) (nI (za yy))).2.2.1))) [0, 1, 2, 3, 4, 5, 6, 7, 8, 9, 10, 11, 12, 13, 14] (by decide) rfl) hO hS (zD_fr (hD.sub (ws' := xmW cA x b rd X ((f_X2_payIn N B Bs (nI (zm yy)) (nI (za yy))).2.1) ++ (bkW (cA 0) (b 0) ((f_X2_payIn N B Bs (nI (zm yy)) (nI (za yy))).2.2.1))) [0, 1, 2, 3, 4, 5, 6, 7, 8, 9, 10, 11, 12, 13, 14] (by decide) rfl)) rfl rfl) rfl rfl hl.1 rfl (lv_room (Nat.le_of_ble_eq_true rfl)) dL_acts_242 ⟨Nat.le_of_ble_eq_true rfl, Nat.le_of_ble_eq_true rfl⟩) (zva_no ⟨⟨by decide, by decide⟩, trivial⟩) rfl ?_
      refine lv_iload hx hb dL_acts_245 (lv_at hl 7 rfl) ?_
      refine lv_iload hx hb dL_acts_247 (lv_at hl 6 rfl) ?_
      refine lv_iadd hx hb dL_acts_249 ?_
      refine lv_icmp_ne (tgt := 270) hx hb dL_acts_250 (by decide) (fun c_62 => by exact absurd (hf_250 c_60) c_62) (fun _ => ?_)
      refine lv_aload_n hx hb dL_acts_253 rfl (lv_at hl 2 rfl) ?_
      refine lv_iconst (v := 2) hx hb dL_acts_254 (by decide) ?_
      refine zv_E (vx_runV (As := [.int 2]) (rest := []) ⟨hx, hb, hml, hown, hts⟩ (zk_X2_count l hfl D cA b rd x X ((f_X2_payIn N B Bs (nI (zm yy)) (nI (za yy))).2.1) ((f_X2_payIn N B Bs (nI (zm yy)) (nI (za yy))).2.2.1) 2) (cwV 1 hts gL_acts_X2_count rfl rfl rfl zy_X2_count ⟨(Nat.le_of_ble_eq_true rfl), (Nat.le_of_ble_eq_true rfl)⟩) (zx_preVq (A := (zfr (xmW cA x b rd X N ++ (bkW (cA 0) (b 0) B ++ (otW (cA 0) b Bs))))) (ci := 2) (q0 := 0) hK (hP.sub (ws' := xmW cA x b rd X ((f_X2_payIn N B Bs (nI (zm yy)) (nI (za yy))).2.1) ++ (bkW (cA 0) (b 0) ((f_X2_payIn N B Bs (nI (zm yy)) (nI (za yy))).2.2.1))) [0, 1, 2, 3, 4, 5, 6, 7, 8, 9, 10, 11, 12, 13, 14] rfl) (hD.sub (ws' := xmW cA x b rd X ((f_X2_payIn N B Bs (nI (zm yy)) (nI (za yy))).2.1) ++ (bkW (cA 0) (b 0) ((f_X2_payIn N B Bs (nI (zm yy)) (nI (za yy))).2.2.1))) [0, 1, 2, 3, 4, 5, 6, 7, 8, 9, 10, 11, 12, 13, 14] (by decide) rfl) hO hS (zD_fr (hD.sub (ws' := xmW cA x b rd X ((f_X2_payIn N B Bs (nI (zm yy)) (nI (za yy))).2.1) ++ (bkW (cA 0) (b 0) ((f_X2_payIn N B Bs (nI (zm yy)) (nI (za yy))).2.2.1))) [0, 1, 2, 3, 4, 5, 6, 7, 8, 9, 10, 11, 12, 13, 14] (by decide) rfl)) rfl rfl) rfl rfl hl.1 rfl (lv_room (Nat.le_of_ble_eq_true rfl)) dL_acts_255 ⟨Nat.le_of_ble_eq_true rfl, Nat.le_of_ble_eq_true rfl⟩) (zva_no ⟨⟨by decide, by decide⟩, trivial⟩) rfl ?_
      refine lv_iload hx hb dL_acts_258 (lv_at hl 9 rfl) ?_
      refine lv_iload hx hb dL_acts_260 (lv_at hl 6 rfl) ?_
      refine lv_iadd hx hb dL_acts_262 ?_
      refine lv_icmp_ne (tgt := 270) hx hb dL_acts_263 (by decide) (fun c_63 => by exact absurd (hf_263 c_60) c_63) (fun _ => ?_)
      refine lv_iconst (v := 1) hx hb dL_acts_266 (by decide) ?_
      refine lv_goto (tgt := 271) hx hb dL_acts_267 (by decide) ?_
      exact sel_200 ls (lv_sub hl [0, 1, 2, 3, 4, 5, 6, 7, 8, 9, 10, 11, 12] rfl)
    · refine lv_iload hx hb dL_acts_203 (lv_at hl 0 rfl) ?_
      refine lv_iconst (v := (-1)) hx hb dL_acts_205 (by decide) ?_
      refine lv_icmp_ne (tgt := 226) hx hb dL_acts_206 (by decide) (fun c_64 => by exact absurd (hf_206 c_60) c_64) (fun _ => ?_)
      refine lv_aload_n hx hb dL_acts_209 rfl (lv_at hl 2 rfl) ?_
      refine lv_bipush (v := 9) hx hb dL_acts_210 (by decide) ?_
      refine zv_E (vx_runV (As := [.int 9]) (rest := []) ⟨hx, hb, hml, hown, hts⟩ (zk_X2_count l hfl D cA b rd x X ((f_X2_payIn N B Bs (nI (zm yy)) (nI (za yy))).2.1) ((f_X2_payIn N B Bs (nI (zm yy)) (nI (za yy))).2.2.1) 9) (cwV 1 hts gL_acts_X2_count rfl rfl rfl zy_X2_count ⟨(Nat.le_of_ble_eq_true rfl), (Nat.le_of_ble_eq_true rfl)⟩) (zx_preVq (A := (zfr (xmW cA x b rd X N ++ (bkW (cA 0) (b 0) B ++ (otW (cA 0) b Bs))))) (ci := 2) (q0 := 0) hK (hP.sub (ws' := xmW cA x b rd X ((f_X2_payIn N B Bs (nI (zm yy)) (nI (za yy))).2.1) ++ (bkW (cA 0) (b 0) ((f_X2_payIn N B Bs (nI (zm yy)) (nI (za yy))).2.2.1))) [0, 1, 2, 3, 4, 5, 6, 7, 8, 9, 10, 11, 12, 13, 14] rfl) (hD.sub (ws' := xmW cA x b rd X ((f_X2_payIn N B Bs (nI (zm yy)) (nI (za yy))).2.1) ++ (bkW (cA 0) (b 0) ((f_X2_payIn N B Bs (nI (zm yy)) (nI (za yy))).2.2.1))) [0, 1, 2, 3, 4, 5, 6, 7, 8, 9, 10, 11, 12, 13, 14] (by decide) rfl) hO hS (zD_fr (hD.sub (ws' := xmW cA x b rd X ((f_X2_payIn N B Bs (nI (zm yy)) (nI (za yy))).2.1) ++ (bkW (cA 0) (b 0) ((f_X2_payIn N B Bs (nI (zm yy)) (nI (za yy))).2.2.1))) [0, 1, 2, 3, 4, 5, 6, 7, 8, 9, 10, 11, 12, 13, 14] (by decide) rfl)) rfl rfl) rfl rfl hl.1 rfl (lv_room (Nat.le_of_ble_eq_true rfl)) dL_acts_212 ⟨Nat.le_of_ble_eq_true rfl, Nat.le_of_ble_eq_true rfl⟩) (zva_no ⟨⟨by decide, by decide⟩, trivial⟩) rfl ?_
      refine lv_iload hx hb dL_acts_215 (lv_at hl 11 rfl) ?_
      refine lv_iconst (v := 1) hx hb dL_acts_217 (by decide) ?_
      refine lv_iadd hx hb dL_acts_218 ?_
      refine lv_icmp_ne (tgt := 226) hx hb dL_acts_219 (by decide) (fun c_65 => by exact absurd (hf_219 c_60) c_65) (fun _ => ?_)
      refine lv_iconst (v := 1) hx hb dL_acts_222 (by decide) ?_
      refine lv_goto (tgt := 271) hx hb dL_acts_223 (by decide) ?_
      exact sel_200 ls (lv_sub hl [0, 1, 2, 3, 4, 5, 6, 7, 8, 9, 10, 11, 12] rfl)
  refine lv_iload_n hx hb dL_acts_0 rfl (lv_at hl 2 rfl) ?_
  refine lv_bipush (v := 6) hx hb dL_acts_1 (by decide) ?_
  refine z_E (va_runS (As := [.int yy, .int 6]) (rest := []) ⟨hx, hb, hml, hown, hts⟩ (zc_L_up l D cA yy 6 (zu_ne (n := 6) (by decide) (by decide))) (va_cwS 2 hts gL_acts_L_up rfl rfl rfl zy_L_up.2 ⟨(Nat.le_of_ble_eq_true rfl), (Nat.le_of_ble_eq_true rfl)⟩) (z_preS hK z_P0 (z_D0 (A := fun _ => True))) rfl rfl hl.1 rfl (lv_room (Nat.le_of_ble_eq_true rfl)) dL_acts_3 ⟨Nat.le_of_ble_eq_true rfl, Nat.le_of_ble_eq_true rfl⟩) rfl ?_
  refine z_top (y := nI (zu yy 6)) (zu_eq yy (n := 6) (by decide) (by decide)) ?_
  have hu_3 := zu_lt yy (n := 6) (by decide) (by decide)
  refine z_top (y := nI (zm yy)) rfl ?_
  refine lv_istore_n (lv' := [(3, .int (nI (zm yy))), (0, .ref (x 0)), (1, .int xx), (2, .int yy)]) hx hb dL_acts_6 rfl hl (by decide) rfl (fun ls hl => ?_)
  refine lv_iload_n hx hb dL_acts_7 rfl (lv_at hl 0 rfl) ?_
  refine lv_iconst (v := 1) hx hb dL_acts_8 (by decide) ?_
  refine lv_iadd hx hb dL_acts_9 ?_
  refine z_top (nI_add (zm yy) 1) ?_
  refine lv_iload_n hx hb dL_acts_10 rfl (lv_at hl 3 rfl) ?_
  refine lv_iconst (v := 3) hx hb dL_acts_11 (by decide) ?_
  refine lv_ishr hx hb dL_acts_12 ?_
  refine lv_iconst (v := 5) hx hb dL_acts_13 (by decide) ?_
  refine z_E (va_runS (As := [.int ((yy : Int32) >>> (3 &&& 31)), .int 5]) (rest := [.int (nI ((zm yy) + 1))]) ⟨hx, hb, hml, hown, hts⟩ (zc_L_up l D cA ((yy : Int32) >>> (3 &&& 31)) 5 (zu_ne (n := 5) (by decide) (by decide))) (va_cwS 2 hts gL_acts_L_up rfl rfl rfl zy_L_up.2 ⟨(Nat.le_of_ble_eq_true rfl), (Nat.le_of_ble_eq_true rfl)⟩) (z_preS hK z_P0 (z_D0 (A := fun _ => True))) rfl rfl hl.1 rfl (lv_room (Nat.le_of_ble_eq_true rfl)) dL_acts_14 ⟨Nat.le_of_ble_eq_true rfl, Nat.le_of_ble_eq_true rfl⟩) rfl ?_
  refine z_top (y := nI (zu ((yy : Int32) >>> (3 &&& 31)) 5)) (zu_eq ((yy : Int32) >>> (3 &&& 31)) (n := 5) (by decide) (by decide)) ?_
  have hu_14 := zu_lt ((yy : Int32) >>> (3 &&& 31)) (n := 5) (by decide) (by decide)
  refine lv_iadd hx hb dL_acts_17 ?_
  refine z_top (nI_add ((zm yy) + 1) (zu ((yy : Int32) >>> (3 &&& 31)) 5)) ?_
  refine lv_bipush (v := 6) hx hb dL_acts_18 (by decide) ?_
  refine lv_irem hx hb dL_acts_20 (by decide) ?_
  refine z_top (pk_rem (a := (((zm yy) + 1) + (zu ((yy : Int32) >>> (3 &&& 31)) 5))) (d := 6) (by omega) (by omega) (by omega)) ?_
  refine z_top (y := nI (zo yy)) rfl ?_
  refine lv_istore (lv' := [(4, .int (nI (zo yy))), (3, .int (nI (zm yy))), (0, .ref (x 0)), (1, .int xx), (2, .int yy)]) hx hb dL_acts_21 hl (by decide) rfl (fun ls hl => ?_)
  refine lv_iconst (v := 1) hx hb dL_acts_23 (by decide) ?_
  refine lv_iload_n hx hb dL_acts_24 rfl (lv_at hl 4 rfl) ?_
  refine lv_bipush (v := 6) hx hb dL_acts_25 (by decide) ?_
  refine lv_ishr hx hb dL_acts_27 ?_
  refine lv_iload_n hx hb dL_acts_28 rfl (lv_at hl 4 rfl) ?_
  refine lv_bipush (v := 20) hx hb dL_acts_29 (by decide) ?_
  refine lv_ishr hx hb dL_acts_31 ?_
  refine lv_iconst (v := 1) hx hb dL_acts_32 (by decide) ?_
  refine lv_iand hx hb dL_acts_33 ?_
  have sel_34 : ∀ (ls : Array Slot), lv_has ls 29 [(4, .int (nI (zo yy))), (3, .int (nI (zm yy))), (0, .ref (x 0)), (1, .int xx), (2, .int yy)] → W p l e (headSpec wsL_acts (zrx 9 163 6 36)).room s m ([.ref (x 0), .int xx, .int yy] : List Value).toArray below meth c H locs 0 0 (MQ below (zM D (xmW cA x b rd X N ++ (bkW (cA 0) (b 0) B ++ (otW (cA 0) b Bs))) (xmW cA x b rd X ((f_L_acts N B Bs xx yy).1) ++ (bkW (cA 0) (b 0) ((f_L_acts N B Bs xx yy).2.1) ++ (otW (cA 0) b ((f_L_acts N B Bs xx yy).2.2)))) (some (.int 1))) ([.ref (x 0), .int xx, .int yy] : List Value).toArray s 6 36 (zfr (xmW cA x b rd X N ++ (bkW (cA 0) (b 0) B ++ (otW (cA 0) b Bs))))) (F0 m 46 ls [.int (nI (if (((yy : Int32) >>> (20 &&& 31)) &&& 1) = 0 then (9999 : Nat) else 600)), .int ((yy : Int32) >>> (6 &&& 31)), .int 1]) := by
    intro ls hl
    refine z_E (va_runS (As := [.int ((yy : Int32) >>> (6 &&& 31)), .int (nI (if (((yy : Int32) >>> (20 &&& 31)) &&& 1) = 0 then (9999 : Nat) else 600))]) (rest := [.int 1]) ⟨hx, hb, hml, hown, hts⟩ (zc_L_up l D cA ((yy : Int32) >>> (6 &&& 31)) (nI (if (((yy : Int32) >>> (20 &&& 31)) &&& 1) = 0 then (9999 : Nat) else 600)) (zu_ne (n := if (((yy : Int32) >>> (20 &&& 31)) &&& 1) = 0 then (9999 : Nat) else 600) (by repeat' split <;> omega) (by repeat' split <;> omega))) (va_cwS 2 hts gL_acts_L_up rfl rfl rfl zy_L_up.2 ⟨(Nat.le_of_ble_eq_true rfl), (Nat.le_of_ble_eq_true rfl)⟩) (z_preS hK z_P0 (z_D0 (A := fun _ => True))) rfl rfl hl.1 rfl (lv_room (Nat.le_of_ble_eq_true rfl)) dL_acts_46 ⟨Nat.le_of_ble_eq_true rfl, Nat.le_of_ble_eq_true rfl⟩) rfl ?_
    refine z_top (y := nI (zu ((yy : Int32) >>> (6 &&& 31)) (if (((yy : Int32) >>> (20 &&& 31)) &&& 1) = 0 then (9999 : Nat) else 600))) (zu_eq ((yy : Int32) >>> (6 &&& 31)) (n := if (((yy : Int32) >>> (20 &&& 31)) &&& 1) = 0 then (9999 : Nat) else 600) (by repeat' split <;> omega) (by repeat' split <;> omega)) ?_
    have hu_46 := zu_lt ((yy : Int32) >>> (6 &&& 31)) (n := if (((yy : Int32) >>> (20 &&& 31)) &&& 1) = 0 then (9999 : Nat) else 600) (by repeat' split <;> omega) (by repeat' split <;> omega)
    refine lv_iadd hx hb dL_acts_49 ?_
    refine z_top (nI_add 1 (zu ((yy : Int32) >>> (6 &&& 31)) (if (((yy : Int32) >>> (20 &&& 31)) &&& 1) = 0 then (9999 : Nat) else 600))) ?_
    refine z_top (y := nI (za yy)) rfl ?_
    refine lv_istore (lv' := [(5, .int (nI (za yy))), (4, .int (nI (zo yy))), (3, .int (nI (zm yy))), (0, .ref (x 0)), (1, .int xx), (2, .int yy)]) hx hb dL_acts_50 hl (by decide) rfl (fun ls hl => ?_)
    refine lv_aload_n hx hb dL_acts_52 rfl (lv_at hl 3 rfl) ?_
    refine lv_iconst (v := 0) hx hb dL_acts_53 (by decide) ?_
    refine zv_E (vx_runV (As := [.int 0]) (rest := []) ⟨hx, hb, hml, hown, hts⟩ (zk_X2_count l hfl D cA b rd x X N B 0) (cwV 1 hts gL_acts_X2_count rfl rfl rfl zy_X2_count ⟨(Nat.le_of_ble_eq_true rfl), (Nat.le_of_ble_eq_true rfl)⟩) (zx_preVq (A := (zfr (xmW cA x b rd X N ++ (bkW (cA 0) (b 0) B ++ (otW (cA 0) b Bs))))) (ci := 2) (q0 := 0) hK (hP.sub (ws' := xmW cA x b rd X N ++ (bkW (cA 0) (b 0) B)) [0, 1, 2, 3, 4, 5, 6, 7, 8, 9, 10, 11, 12, 13, 14] rfl) (hD.sub (ws' := xmW cA x b rd X N ++ (bkW (cA 0) (b 0) B)) [0, 1, 2, 3, 4, 5, 6, 7, 8, 9, 10, 11, 12, 13, 14] (by decide) rfl) hO hS (zD_fr (hD.sub (ws' := xmW cA x b rd X N ++ (bkW (cA 0) (b 0) B)) [0, 1, 2, 3, 4, 5, 6, 7, 8, 9, 10, 11, 12, 13, 14] (by decide) rfl)) rfl rfl) rfl rfl hl.1 rfl (lv_room (Nat.le_of_ble_eq_true rfl)) dL_acts_54 ⟨Nat.le_of_ble_eq_true rfl, Nat.le_of_ble_eq_true rfl⟩) (zva_no ⟨⟨by decide, by decide⟩, trivial⟩) rfl ?_
    refine lv_istore (lv' := [(6, .int (f_X2_count N B 0)), (5, .int (nI (za yy))), (4, .int (nI (zo yy))), (3, .int (nI (zm yy))), (0, .ref (x 0)), (1, .int xx), (2, .int yy)]) hx hb dL_acts_57 hl (by decide) rfl (fun ls hl => ?_)
    refine lv_aload_n hx hb dL_acts_59 rfl (lv_at hl 4 rfl) ?_
    refine lv_iconst (v := 1) hx hb dL_acts_60 (by decide) ?_
    refine zv_E (vx_runV (As := [.int 1]) (rest := []) ⟨hx, hb, hml, hown, hts⟩ (zk_X2_count l hfl D cA b rd x X N B 1) (cwV 1 hts gL_acts_X2_count rfl rfl rfl zy_X2_count ⟨(Nat.le_of_ble_eq_true rfl), (Nat.le_of_ble_eq_true rfl)⟩) (zx_preVq (A := (zfr (xmW cA x b rd X N ++ (bkW (cA 0) (b 0) B ++ (otW (cA 0) b Bs))))) (ci := 2) (q0 := 0) hK (hP.sub (ws' := xmW cA x b rd X N ++ (bkW (cA 0) (b 0) B)) [0, 1, 2, 3, 4, 5, 6, 7, 8, 9, 10, 11, 12, 13, 14] rfl) (hD.sub (ws' := xmW cA x b rd X N ++ (bkW (cA 0) (b 0) B)) [0, 1, 2, 3, 4, 5, 6, 7, 8, 9, 10, 11, 12, 13, 14] (by decide) rfl) hO hS (zD_fr (hD.sub (ws' := xmW cA x b rd X N ++ (bkW (cA 0) (b 0) B)) [0, 1, 2, 3, 4, 5, 6, 7, 8, 9, 10, 11, 12, 13, 14] (by decide) rfl)) rfl rfl) rfl rfl hl.1 rfl (lv_room (Nat.le_of_ble_eq_true rfl)) dL_acts_61 ⟨Nat.le_of_ble_eq_true rfl, Nat.le_of_ble_eq_true rfl⟩) (zva_no ⟨⟨by decide, by decide⟩, trivial⟩) rfl ?_
    refine lv_istore (lv' := [(7, .int (f_X2_count N B 1)), (6, .int (f_X2_count N B 0)), (5, .int (nI (za yy))), (4, .int (nI (zo yy))), (3, .int (nI (zm yy))), (0, .ref (x 0)), (1, .int xx), (2, .int yy)]) hx hb dL_acts_64 hl (by decide) rfl (fun ls hl => ?_)
    refine lv_aload_n hx hb dL_acts_66 rfl (lv_at hl 5 rfl) ?_
    refine lv_iconst (v := 2) hx hb dL_acts_67 (by decide) ?_
    refine zv_E (vx_runV (As := [.int 2]) (rest := []) ⟨hx, hb, hml, hown, hts⟩ (zk_X2_count l hfl D cA b rd x X N B 2) (cwV 1 hts gL_acts_X2_count rfl rfl rfl zy_X2_count ⟨(Nat.le_of_ble_eq_true rfl), (Nat.le_of_ble_eq_true rfl)⟩) (zx_preVq (A := (zfr (xmW cA x b rd X N ++ (bkW (cA 0) (b 0) B ++ (otW (cA 0) b Bs))))) (ci := 2) (q0 := 0) hK (hP.sub (ws' := xmW cA x b rd X N ++ (bkW (cA 0) (b 0) B)) [0, 1, 2, 3, 4, 5, 6, 7, 8, 9, 10, 11, 12, 13, 14] rfl) (hD.sub (ws' := xmW cA x b rd X N ++ (bkW (cA 0) (b 0) B)) [0, 1, 2, 3, 4, 5, 6, 7, 8, 9, 10, 11, 12, 13, 14] (by decide) rfl) hO hS (zD_fr (hD.sub (ws' := xmW cA x b rd X N ++ (bkW (cA 0) (b 0) B)) [0, 1, 2, 3, 4, 5, 6, 7, 8, 9, 10, 11, 12, 13, 14] (by decide) rfl)) rfl rfl) rfl rfl hl.1 rfl (lv_room (Nat.le_of_ble_eq_true rfl)) dL_acts_68 ⟨Nat.le_of_ble_eq_true rfl, Nat.le_of_ble_eq_true rfl⟩) (zva_no ⟨⟨by decide, by decide⟩, trivial⟩) rfl ?_
    refine lv_istore (lv' := [(8, .int (f_X2_count N B 2)), (7, .int (f_X2_count N B 1)), (6, .int (f_X2_count N B 0)), (5, .int (nI (za yy))), (4, .int (nI (zo yy))), (3, .int (nI (zm yy))), (0, .ref (x 0)), (1, .int xx), (2, .int yy)]) hx hb dL_acts_71 hl (by decide) rfl (fun ls hl => ?_)
    refine lv_aload_n hx hb dL_acts_73 rfl (lv_at hl 6 rfl) ?_
    refine lv_iconst (v := 3) hx hb dL_acts_74 (by decide) ?_
    refine zv_E (vx_runV (As := [.int 3]) (rest := []) ⟨hx, hb, hml, hown, hts⟩ (zk_X2_count l hfl D cA b rd x X N B 3) (cwV 1 hts gL_acts_X2_count rfl rfl rfl zy_X2_count ⟨(Nat.le_of_ble_eq_true rfl), (Nat.le_of_ble_eq_true rfl)⟩) (zx_preVq (A := (zfr (xmW cA x b rd X N ++ (bkW (cA 0) (b 0) B ++ (otW (cA 0) b Bs))))) (ci := 2) (q0 := 0) hK (hP.sub (ws' := xmW cA x b rd X N ++ (bkW (cA 0) (b 0) B)) [0, 1, 2, 3, 4, 5, 6, 7, 8, 9, 10, 11, 12, 13, 14] rfl) (hD.sub (ws' := xmW cA x b rd X N ++ (bkW (cA 0) (b 0) B)) [0, 1, 2, 3, 4, 5, 6, 7, 8, 9, 10, 11, 12, 13, 14] (by decide) rfl) hO hS (zD_fr (hD.sub (ws' := xmW cA x b rd X N ++ (bkW (cA 0) (b 0) B)) [0, 1, 2, 3, 4, 5, 6, 7, 8, 9, 10, 11, 12, 13, 14] (by decide) rfl)) rfl rfl) rfl rfl hl.1 rfl (lv_room (Nat.le_of_ble_eq_true rfl)) dL_acts_75 ⟨Nat.le_of_ble_eq_true rfl, Nat.le_of_ble_eq_true rfl⟩) (zva_no ⟨⟨by decide, by decide⟩, trivial⟩) rfl ?_
    refine lv_istore (lv' := [(9, .int (f_X2_count N B 3)), (8, .int (f_X2_count N B 2)), (7, .int (f_X2_count N B 1)), (6, .int (f_X2_count N B 0)), (5, .int (nI (za yy))), (4, .int (nI (zo yy))), (3, .int (nI (zm yy))), (0, .ref (x 0)), (1, .int xx), (2, .int yy)]) hx hb dL_acts_78 hl (by decide) rfl (fun ls hl => ?_)
    refine lv_aload_n hx hb dL_acts_80 rfl (lv_at hl 7 rfl) ?_
    refine lv_bipush (v := 9) hx hb dL_acts_81 (by decide) ?_
    refine zv_E (vx_runV (As := [.int 9]) (rest := []) ⟨hx, hb, hml, hown, hts⟩ (zk_X2_count l hfl D cA b rd x X N B 9) (cwV 1 hts gL_acts_X2_count rfl rfl rfl zy_X2_count ⟨(Nat.le_of_ble_eq_true rfl), (Nat.le_of_ble_eq_true rfl)⟩) (zx_preVq (A := (zfr (xmW cA x b rd X N ++ (bkW (cA 0) (b 0) B ++ (otW (cA 0) b Bs))))) (ci := 2) (q0 := 0) hK (hP.sub (ws' := xmW cA x b rd X N ++ (bkW (cA 0) (b 0) B)) [0, 1, 2, 3, 4, 5, 6, 7, 8, 9, 10, 11, 12, 13, 14] rfl) (hD.sub (ws' := xmW cA x b rd X N ++ (bkW (cA 0) (b 0) B)) [0, 1, 2, 3, 4, 5, 6, 7, 8, 9, 10, 11, 12, 13, 14] (by decide) rfl) hO hS (zD_fr (hD.sub (ws' := xmW cA x b rd X N ++ (bkW (cA 0) (b 0) B)) [0, 1, 2, 3, 4, 5, 6, 7, 8, 9, 10, 11, 12, 13, 14] (by decide) rfl)) rfl rfl) rfl rfl hl.1 rfl (lv_room (Nat.le_of_ble_eq_true rfl)) dL_acts_83 ⟨Nat.le_of_ble_eq_true rfl, Nat.le_of_ble_eq_true rfl⟩) (zva_no ⟨⟨by decide, by decide⟩, trivial⟩) rfl ?_
    refine lv_istore (lv' := [(10, .int (f_X2_count N B 9)), (9, .int (f_X2_count N B 3)), (8, .int (f_X2_count N B 2)), (7, .int (f_X2_count N B 1)), (6, .int (f_X2_count N B 0)), (5, .int (nI (za yy))), (4, .int (nI (zo yy))), (3, .int (nI (zm yy))), (0, .ref (x 0)), (1, .int xx), (2, .int yy)]) hx hb dL_acts_86 hl (by decide) rfl (fun ls hl => ?_)
    refine lv_aload_n hx hb dL_acts_88 rfl (lv_at hl 8 rfl) ?_
    refine lv_iload_n hx hb dL_acts_89 rfl (lv_at hl 7 rfl) ?_
    refine lv_iconst (v := 4) hx hb dL_acts_90 (by decide) ?_
    refine zv_E (vx_runV (As := [.int (nI (zm yy)), .int 4]) (rest := []) ⟨hx, hb, hml, hown, hts⟩ (zk_X2_memberOf l hfl D cA b rd x X N B (nI (zm yy)) 4) (cwV 2 hts gL_acts_X2_memberOf rfl rfl rfl zy_X2_memberOf ⟨(Nat.le_of_ble_eq_true rfl), (Nat.le_of_ble_eq_true rfl)⟩) (zx_preVq (A := (zfr (xmW cA x b rd X N ++ (bkW (cA 0) (b 0) B ++ (otW (cA 0) b Bs))))) (ci := 2) (q0 := 0) hK (hP.sub (ws' := xmW cA x b rd X N ++ (bkW (cA 0) (b 0) B)) [0, 1, 2, 3, 4, 5, 6, 7, 8, 9, 10, 11, 12, 13, 14] rfl) (hD.sub (ws' := xmW cA x b rd X N ++ (bkW (cA 0) (b 0) B)) [0, 1, 2, 3, 4, 5, 6, 7, 8, 9, 10, 11, 12, 13, 14] (by decide) rfl) hO hS (zD_fr (hD.sub (ws' := xmW cA x b rd X N ++ (bkW (cA 0) (b 0) B)) [0, 1, 2, 3, 4, 5, 6, 7, 8, 9, 10, 11, 12, 13, 14] (by decide) rfl)) rfl rfl) rfl rfl hl.1 rfl (lv_room (Nat.le_of_ble_eq_true rfl)) dL_acts_91 ⟨Nat.le_of_ble_eq_true rfl, Nat.le_of_ble_eq_true rfl⟩) (zva_no ⟨⟨(zm yy), by omega, rfl⟩, ⟨by decide, by decide⟩, trivial⟩) rfl ?_
    refine lv_istore (lv' := [(11, .int (f_X2_memberOf B (nI (zm yy)) 4)), (10, .int (f_X2_count N B 9)), (9, .int (f_X2_count N B 3)), (8, .int (f_X2_count N B 2)), (7, .int (f_X2_count N B 1)), (6, .int (f_X2_count N B 0)), (5, .int (nI (za yy))), (4, .int (nI (zo yy))), (3, .int (nI (zm yy))), (0, .ref (x 0)), (1, .int xx), (2, .int yy)]) hx hb dL_acts_94 hl (by decide) rfl (fun ls hl => ?_)
    refine lv_iload_n hx hb dL_acts_96 rfl (lv_at hl 10 rfl) ?_
    refine lv_bipush (v := 16) hx hb dL_acts_97 (by decide) ?_
    refine z_E (va_runS (As := [.int xx, .int 16]) (rest := []) ⟨hx, hb, hml, hown, hts⟩ (zc_L_up l D cA xx 16 (zu_ne (n := 16) (by decide) (by decide))) (va_cwS 2 hts gL_acts_L_up rfl rfl rfl zy_L_up.2 ⟨(Nat.le_of_ble_eq_true rfl), (Nat.le_of_ble_eq_true rfl)⟩) (z_preS hK z_P0 (z_D0 (A := fun _ => True))) rfl rfl hl.1 rfl (lv_room (Nat.le_of_ble_eq_true rfl)) dL_acts_99 ⟨Nat.le_of_ble_eq_true rfl, Nat.le_of_ble_eq_true rfl⟩) rfl ?_
    refine z_top (y := nI (zu xx 16)) (zu_eq xx (n := 16) (by decide) (by decide)) ?_
    have hu_99 := zu_lt xx (n := 16) (by decide) (by decide)
    by_cases c_67 : (zu xx 16) = 0
    · refine lv_tableIn (off := 74) (tgt := 176) hx hb dL_acts_102 (by rw [c_67]; decide) (by rw [c_67]; decide) (by rw [c_67]; decide) (by decide) ?_
      exact join_176  (by simp -proj only [f_L_acts, if_pos c_67]; first | done | rfl) _ _ hP hD hS ls (lv_sub hl [9, 11, 8, 7, 6, 5, 4, 3, 2, 1, 0] rfl)
    by_cases c_68 : (zu xx 16) = 1
    · refine lv_tableIn (off := 74) (tgt := 176) hx hb dL_acts_102 (by rw [c_68]; decide) (by rw [c_68]; decide) (by rw [c_68]; decide) (by decide) ?_
      exact join_176  (by simp -proj only [f_L_acts, if_neg c_67, if_pos c_68]; first | done | rfl) _ _ hP hD hS ls (lv_sub hl [9, 11, 8, 7, 6, 5, 4, 3, 2, 1, 0] rfl)
    by_cases c_69 : (zu xx 16) = 2
    · refine lv_tableIn (off := 74) (tgt := 176) hx hb dL_acts_102 (by rw [c_69]; decide) (by rw [c_69]; decide) (by rw [c_69]; decide) (by decide) ?_
      exact join_176  (by simp -proj only [f_L_acts, if_neg c_67, if_neg c_68, if_pos c_69]; first | done | rfl) _ _ hP hD hS ls (lv_sub hl [9, 11, 8, 7, 6, 5, 4, 3, 2, 1, 0] rfl)
    by_cases c_70 : (zu xx 16) = 3
    · refine lv_tableIn (off := 170) (tgt := 272) hx hb dL_acts_102 (by rw [c_70]; decide) (by rw [c_70]; decide) (by rw [c_70]; decide) (by decide) ?_
      exact join_272  (by simp -proj only [f_L_acts, if_neg c_67, if_neg c_68, if_neg c_69, if_pos c_70]; first | done | rfl) _ _ hP hD hS ls (lv_sub hl [9, 11, 8, 7, 6, 5, 4, 3, 2, 1, 0] rfl)
    by_cases c_71 : (zu xx 16) = 4
    · refine lv_tableIn (off := 279) (tgt := 381) hx hb dL_acts_102 (by rw [c_71]; decide) (by rw [c_71]; decide) (by rw [c_71]; decide) (by decide) ?_
      exact join_381  (by simp -proj only [f_L_acts, if_neg c_67, if_neg c_68, if_neg c_69, if_neg c_70, if_pos c_71]; first | done | rfl) _ _ hP hD hS ls (lv_sub hl [9, 11, 8, 7, 6, 5, 4, 3, 2, 1, 0] rfl)
    by_cases c_72 : (zu xx 16) = 5
    · refine lv_tableIn (off := 279) (tgt := 381) hx hb dL_acts_102 (by rw [c_72]; decide) (by rw [c_72]; decide) (by rw [c_72]; decide) (by decide) ?_
      exact join_381  (by simp -proj only [f_L_acts, if_neg c_67, if_neg c_68, if_neg c_69, if_neg c_70, if_neg c_71, if_pos c_72]; first | done | rfl) _ _ hP hD hS ls (lv_sub hl [9, 11, 8, 7, 6, 5, 4, 3, 2, 1, 0] rfl)
    by_cases c_73 : (zu xx 16) = 6
    · refine lv_tableIn (off := 387) (tgt := 489) hx hb dL_acts_102 (by rw [c_73]; decide) (by rw [c_73]; decide) (by rw [c_73]; decide) (by decide) ?_
      exact join_489  (by simp -proj only [f_L_acts, if_neg c_67, if_neg c_68, if_neg c_69, if_neg c_70, if_neg c_71, if_neg c_72, if_pos c_73]; first | done | rfl) _ _ hP hD hS ls (lv_sub hl [9, 11, 8, 7, 6, 5, 4, 3, 2, 1, 0] rfl)
    by_cases c_74 : (zu xx 16) = 7
    · refine lv_tableIn (off := 493) (tgt := 595) hx hb dL_acts_102 (by rw [c_74]; decide) (by rw [c_74]; decide) (by rw [c_74]; decide) (by decide) ?_
      exact join_595  (by simp -proj only [f_L_acts, if_neg c_67, if_neg c_68, if_neg c_69, if_neg c_70, if_neg c_71, if_neg c_72, if_neg c_73, if_pos c_74]; first | done | rfl) _ _ hP hD hS ls (lv_sub hl [9, 11, 8, 7, 6, 5, 4, 3, 2, 1, 0] rfl)
    by_cases c_75 : (zu xx 16) = 8
    · refine lv_tableIn (off := 493) (tgt := 595) hx hb dL_acts_102 (by rw [c_75]; decide) (by rw [c_75]; decide) (by rw [c_75]; decide) (by decide) ?_
      exact join_595  (by simp -proj only [f_L_acts, if_neg c_67, if_neg c_68, if_neg c_69, if_neg c_70, if_neg c_71, if_neg c_72, if_neg c_73, if_neg c_74, if_pos c_75]; first | done | rfl) _ _ hP hD hS ls (lv_sub hl [9, 11, 8, 7, 6, 5, 4, 3, 2, 1, 0] rfl)
    by_cases c_76 : (zu xx 16) = 9
    · refine lv_tableIn (off := 673) (tgt := 775) hx hb dL_acts_102 (by rw [c_76]; decide) (by rw [c_76]; decide) (by rw [c_76]; decide) (by decide) ?_
      exact join_775  (by simp -proj only [f_L_acts, if_neg c_67, if_neg c_68, if_neg c_69, if_neg c_70, if_neg c_71, if_neg c_72, if_neg c_73, if_neg c_74, if_neg c_75, if_pos c_76]; first | done | rfl) _ _ hP hD hS ls (lv_sub hl [9, 11, 8, 7, 6, 5, 4, 3, 2, 1, 0] rfl)
    by_cases c_77 : (zu xx 16) = 10
    · refine lv_tableIn (off := 673) (tgt := 775) hx hb dL_acts_102 (by rw [c_77]; decide) (by rw [c_77]; decide) (by rw [c_77]; decide) (by decide) ?_
      exact join_775  (by simp -proj only [f_L_acts, if_neg c_67, if_neg c_68, if_neg c_69, if_neg c_70, if_neg c_71, if_neg c_72, if_neg c_73, if_neg c_74, if_neg c_75, if_neg c_76, if_pos c_77]; first | done | rfl) _ _ hP hD hS ls (lv_sub hl [9, 11, 8, 7, 6, 5, 4, 3, 2, 1, 0] rfl)
    by_cases c_78 : (zu xx 16) = 11
    · refine lv_tableIn (off := 798) (tgt := 900) hx hb dL_acts_102 (by rw [c_78]; decide) (by rw [c_78]; decide) (by rw [c_78]; decide) (by decide) ?_
      exact join_900  (by simp -proj only [f_L_acts, if_neg c_67, if_neg c_68, if_neg c_69, if_neg c_70, if_neg c_71, if_neg c_72, if_neg c_73, if_neg c_74, if_neg c_75, if_neg c_76, if_neg c_77, if_pos c_78]; first | done | rfl) _ _ hP hD hS ls (lv_sub hl [9, 11, 8, 7, 6, 5, 4, 3, 2, 1, 0] rfl)
    by_cases c_79 : (zu xx 16) = 12
    · refine lv_tableIn (off := 798) (tgt := 900) hx hb dL_acts_102 (by rw [c_79]; decide) (by rw [c_79]; decide) (by rw [c_79]; decide) (by decide) ?_
      exact join_900  (by simp -proj only [f_L_acts, if_neg c_67, if_neg c_68, if_neg c_69, if_neg c_70, if_neg c_71, if_neg c_72, if_neg c_73, if_neg c_74, if_neg c_75, if_neg c_76, if_neg c_77, if_neg c_78, if_pos c_79]; first | done | rfl) _ _ hP hD hS ls (lv_sub hl [9, 11, 8, 7, 6, 5, 4, 3, 2, 1, 0] rfl)
    by_cases c_80 : (zu xx 16) = 13
    · refine lv_tableIn (off := 803) (tgt := 905) hx hb dL_acts_102 (by rw [c_80]; decide) (by rw [c_80]; decide) (by rw [c_80]; decide) (by decide) ?_
      exact join_905  (by simp -proj only [f_L_acts, if_neg c_67, if_neg c_68, if_neg c_69, if_neg c_70, if_neg c_71, if_neg c_72, if_neg c_73, if_neg c_74, if_neg c_75, if_neg c_76, if_neg c_77, if_neg c_78, if_neg c_79, if_pos c_80]; first | done | rfl) _ _ hP hD hS ls (lv_sub hl [9, 11, 8, 7, 6, 5, 4, 3, 2, 1, 0] rfl)
    by_cases c_81 : (zu xx 16) = 14
    · refine lv_tableIn (off := 924) (tgt := 1026) hx hb dL_acts_102 (by rw [c_81]; decide) (by rw [c_81]; decide) (by rw [c_81]; decide) (by decide) ?_
      exact join_1026  (by simp -proj only [f_L_acts, if_neg c_67, if_neg c_68, if_neg c_69, if_neg c_70, if_neg c_71, if_neg c_72, if_neg c_73, if_neg c_74, if_neg c_75, if_neg c_76, if_neg c_77, if_neg c_78, if_neg c_79, if_neg c_80, if_pos c_81]; first | done | rfl) _ _ hP hD hS ls (lv_sub hl [9, 11, 8, 7, 6, 5, 4, 3, 2, 1, 0] rfl)
    refine lv_tableOut (tgt := 1031) hx hb dL_acts_102 (by rw [nI_toInt (by omega)]; omega) (by decide) ?_
    exact join_1031  (by simp -proj only [f_L_acts, if_neg c_67, if_neg c_68, if_neg c_69, if_neg c_70, if_neg c_71, if_neg c_72, if_neg c_73, if_neg c_74, if_neg c_75, if_neg c_76, if_neg c_77, if_neg c_78, if_neg c_79, if_neg c_80, if_neg c_81]; first | done | rfl) _ _ hP hD hS ls (lv_sub hl [9, 11, 8, 7, 6, 5, 4, 3, 2, 1, 0] rfl)
  refine lv_if_ne (tgt := 43) hx hb dL_acts_34 (by decide) (fun c_66 => ?_) (fun c_66 => ?_)
  · refine lv_sipush (v := 600) hx hb dL_acts_43 (by decide) ?_
    refine z_top (y := nI (if (((yy : Int32) >>> (20 &&& 31)) &&& 1) = 0 then (9999 : Nat) else 600)) (by rw [if_neg c_66]) ?_; exact sel_34 ls (lv_sub hl [0, 1, 2, 3, 4] rfl)
  · refine lv_sipush (v := 9999) hx hb dL_acts_37 (by decide) ?_
    refine lv_goto (tgt := 46) hx hb dL_acts_40 (by decide) ?_
    refine z_top (y := nI (if (((yy : Int32) >>> (20 &&& 31)) &&& 1) = 0 then (9999 : Nat) else 600)) (by rw [if_pos c_66]) ?_; exact sel_34 ls (lv_sub hl [0, 1, 2, 3, 4] rfl)

