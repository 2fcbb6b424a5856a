/-! the law: acts, what it does, and the facts -/
theorem zy_L_acts : yL_acts.cls = RL ∧ yL_acts.cls ≠ "java/lang/invoke/MethodHandle" ∧ yL_acts.cls ≠ "java/lang/invoke/VarHandle" ∧ (parseMethodDescriptor yL_acts.desc).map (fun d => d.parameters.length) = some 3 := by decide +kernel
def f_L_acts_1031 (N : NK) (B : BK) (Bs : Nat → BK) (xx : Int32) (yy : Int32) : NK × BK × (Nat → BK) :=
  if (yy &&& 3) = 0 then
    (((f_X2_goBack N B Bs 0).2.1), ((f_X2_goBack N B Bs 0).2.2.1), ((f_X2_goBack N B Bs 0).2.2.2))
  else
    if (yy &&& 3) = 1 then
      (((f_X2_set N B Bs 1 (nI (1 + (zu ((yy : Int32) >>> (2 &&& 31)) 5)))).2.1), ((f_X2_set N B Bs 1 (nI (1 + (zu ((yy : Int32) >>> (2 &&& 31)) 5)))).2.2.1), ((f_X2_set N B Bs 1 (nI (1 + (zu ((yy : Int32) >>> (2 &&& 31)) 5)))).2.2.2))
    else
      (((f_X2_set N B Bs 0 (nI (zu ((yy : Int32) >>> (2 &&& 31)) 101))).2.1), ((f_X2_set N B Bs 0 (nI (zu ((yy : Int32) >>> (2 &&& 31)) 101))).2.2.1), ((f_X2_set N B Bs 0 (nI (zu ((yy : Int32) >>> (2 &&& 31)) 101))).2.2.2))
def f_L_acts_1026 (N : NK) (B : BK) (Bs : Nat → BK) (xx : Int32) (yy : Int32) : NK × BK × (Nat → BK) :=
  (((f_L_divides N B Bs).1), ((f_L_divides N B Bs).2.1), ((f_L_divides N B Bs).2.2))
def f_L_acts_911 (N : NK) (B : BK) (Bs : Nat → BK) (xx : Int32) (yy : Int32) (i0 : Int32) : Nat → Int32
  | 0 => i0
  | n + 1 =>
    let y0_911 : Int32 := f_L_acts_911 N B Bs xx yy i0 n
    if y0_911 = 0 then (0 : Int32) else if 100000000 < ((f_X2_memberOf B (nI n) 5) + (9 * (f_X2_memberOf B (nI n) 0))) then (0 : Int32) else 1
def f_L_acts_905 (N : NK) (B : BK) (Bs : Nat → BK) (xx : Int32) (yy : Int32) : NK × BK × (Nat → BK) :=
  let y0_911 : Int32 := f_L_acts_911 N B Bs xx yy 1 6
  if y0_911 = 0 then
    (((f_X2_set N B Bs 0 (yy &&& 63)).2.1), ((f_X2_set N B Bs 0 (yy &&& 63)).2.2.1), ((f_X2_set N B Bs 0 (yy &&& 63)).2.2.2))
  else
    (((f_X2_pass N B Bs 9).2.1), ((f_X2_pass N B Bs 9).2.2.1), ((f_X2_pass N B Bs 9).2.2.2))
def f_L_acts_900 (N : NK) (B : BK) (Bs : Nat → BK) (xx : Int32) (yy : Int32) : NK × BK × (Nat → BK) :=
  (((f_L_ends N B Bs).1), ((f_L_ends N B Bs).2.1), ((f_L_ends N B Bs).2.2))
def f_L_acts_775 (N : NK) (B : BK) (Bs : Nat → BK) (xx : Int32) (yy : Int32) : NK × BK × (Nat → BK) :=
  (((f_X2_repay N B Bs (nI (zm yy)) (zp B yy)).2.1), ((f_X2_repay N B Bs (nI (zm yy)) (zp B yy)).2.2.1), ((f_X2_repay N B Bs (nI (zm yy)) (zp B yy)).2.2.2))
def f_L_acts_595 (N : NK) (B : BK) (Bs : Nat → BK) (xx : Int32) (yy : Int32) : NK × BK × (Nat → BK) :=
  (((f_X2_borrow N B Bs (nI (zm yy)) (nI (za yy)) (nI (zw yy))).2.1), ((f_X2_borrow N B Bs (nI (zm yy)) (nI (za yy)) (nI (zw yy))).2.2.1), ((f_X2_borrow N B Bs (nI (zm yy)) (nI (za yy)) (nI (zw yy))).2.2.2))
def f_L_acts_489 (N : NK) (B : BK) (Bs : Nat → BK) (xx : Int32) (yy : Int32) : NK × BK × (Nat → BK) :=
  (((f_X2_unpledge N B Bs (nI (zm yy)) (nI (zo yy)) (nI (za yy))).2.1), ((f_X2_unpledge N B Bs (nI (zm yy)) (nI (zo yy)) (nI (za yy))).2.2.1), ((f_X2_unpledge N B Bs (nI (zm yy)) (nI (zo yy)) (nI (za yy))).2.2.2))
def f_L_acts_381 (N : NK) (B : BK) (Bs : Nat → BK) (xx : Int32) (yy : Int32) : NK × BK × (Nat → BK) :=
  (((f_X2_pledge N B Bs (nI (zm yy)) (nI (zo yy)) (nI (za yy))).2.1), ((f_X2_pledge N B Bs (nI (zm yy)) (nI (zo yy)) (nI (za yy))).2.2.1), ((f_X2_pledge N B Bs (nI (zm yy)) (nI (zo yy)) (nI (za yy))).2.2.2))
def f_L_acts_272 (N : NK) (B : BK) (Bs : Nat → BK) (xx : Int32) (yy : Int32) : NK × BK × (Nat → BK) :=
  (((f_X2_payOut N B Bs (nI (zm yy)) (nI (za yy))).2.1), ((f_X2_payOut N B Bs (nI (zm yy)) (nI (za yy))).2.2.1), ((f_X2_payOut N B Bs (nI (zm yy)) (nI (za yy))).2.2.2))
def f_L_acts_176 (N : NK) (B : BK) (Bs : Nat → BK) (xx : Int32) (yy : Int32) : NK × BK × (Nat → BK) :=
  (((f_X2_payIn N B Bs (nI (zm yy)) (nI (za yy))).2.1), ((f_X2_payIn N B Bs (nI (zm yy)) (nI (za yy))).2.2.1), ((f_X2_payIn N B Bs (nI (zm yy)) (nI (za yy))).2.2.2))
def f_L_acts (N : NK) (B : BK) (Bs : Nat → BK) (xx : Int32) (yy : Int32) : NK × BK × (Nat → BK) :=
  if (zu xx 16) = 0 then
    f_L_acts_176 N B Bs xx yy
  else
  if (zu xx 16) = 1 then
    f_L_acts_176 N B Bs xx yy
  else
  if (zu xx 16) = 2 then
    f_L_acts_176 N B Bs xx yy
  else
  if (zu xx 16) = 3 then
    f_L_acts_272 N B Bs xx yy
  else
  if (zu xx 16) = 4 then
    f_L_acts_381 N B Bs xx yy
  else
  if (zu xx 16) = 5 then
    f_L_acts_381 N B Bs xx yy
  else
  if (zu xx 16) = 6 then
    f_L_acts_489 N B Bs xx yy
  else
  if (zu xx 16) = 7 then
    f_L_acts_595 N B Bs xx yy
  else
  if (zu xx 16) = 8 then
    f_L_acts_595 N B Bs xx yy
  else
  if (zu xx 16) = 9 then
    f_L_acts_775 N B Bs xx yy
  else
  if (zu xx 16) = 10 then
    f_L_acts_775 N B Bs xx yy
  else
  if (zu xx 16) = 11 then
    f_L_acts_900 N B Bs xx yy
  else
  if (zu xx 16) = 12 then
    f_L_acts_900 N B Bs xx yy
  else
  if (zu xx 16) = 13 then
    f_L_acts_905 N B Bs xx yy
  else
  if (zu xx 16) = 14 then
    f_L_acts_1026 N B Bs xx yy
  else
    f_L_acts_1031 N B Bs xx yy

def zF_acts_1031 (X : BK) (N : NK) (B : BK) (Bs : Nat → BK) (yy : Int32) : Prop :=
  ((¬ ((yy &&& 3) = 0)) → (¬ ((yy &&& 3) = 1)) → (zstv 0 (nI (zu ((yy : Int32) >>> (2 &&& 31)) 101)))) ∧
  ((¬ ((yy &&& 3) = 0)) → (¬ ((yy &&& 3) = 1)) → (¬ (((f_X2_set N B Bs 0 (nI (zu ((yy : Int32) >>> (2 &&& 31)) 101))).1) < 0))) ∧
  ((¬ ((yy &&& 3) = 0)) → ((yy &&& 3) = 1) → (zstv 1 (nI (1 + (zu ((yy : Int32) >>> (2 &&& 31)) 5))))) ∧
  ((¬ ((yy &&& 3) = 0)) → ((yy &&& 3) = 1) → (¬ (((f_X2_set N B Bs 1 (nI (1 + (zu ((yy : Int32) >>> (2 &&& 31)) 5)))).1) ≤ 0))) ∧
  (((yy &&& 3) = 0) → (¬ X 0 (0 : Int32).toNatClampNeg = 0)) ∧
  (((yy &&& 3) = 0) → (((f_X2_goBack N B Bs 0).1) = (f_X2_count ((f_X2_goBack N B Bs 0).2.1) ((f_X2_goBack N B Bs 0).2.2.1) 4)))
def zF_acts_1026 (N : NK) (B : BK) (Bs : Nat → BK) : Prop :=
  ((zF_divides N B Bs))
def zF_acts_905 (N : NK) (B : BK) (Bs : Nat → BK) (xx : Int32) (yy : Int32) : Prop :=
  (((f_L_acts_911 N B Bs xx yy 1 6) = 0) → (zstv 0 (yy &&& 63))) ∧
  (((f_L_acts_911 N B Bs xx yy 1 6) = 0) → (¬ (((f_X2_set N B Bs 0 (yy &&& 63)).1) < 0))) ∧
  ((¬ ((f_L_acts_911 N B Bs xx yy 1 6) = 0)) → (¬ f_X0_canAddDays B 9 = 0)) ∧
  ((¬ ((f_L_acts_911 N B Bs xx yy 1 6) = 0)) → (((f_X2_pass N B Bs 9).1) = ((f_X2_count N B 8) + 9))) ∧
  ((¬ ((f_L_acts_911 N B Bs xx yy 1 6) = 0)) → ((f_X2_count ((f_X2_pass N B Bs 9).2.1) ((f_X2_pass N B Bs 9).2.2.1) 8) = ((f_X2_count N B 8) + 9)))
def zF_acts_900 (N : NK) (B : BK) (Bs : Nat → BK) : Prop :=
  ((zF_ends N B Bs))
def zF_acts_775 (N : NK) (B : BK) (Bs : Nat → BK) (yy : Int32) : Prop :=
  ((zrg (zp B yy) 1 9999)) ∧
  (((if ((f_X2_repay N B Bs (nI (zm yy)) (zp B yy)).1) = (-1) then (1 : Int32) else 0) = (if (zp B yy) ≤ (f_X2_memberOf B (nI (zm yy)) 6) then (0 : Int32) else 1))) ∧
  ((¬ (((f_X2_repay N B Bs (nI (zm yy)) (zp B yy)).1) = (-1))) → (((f_X2_repay N B Bs (nI (zm yy)) (zp B yy)).1) = ((f_X2_memberOf B (nI (zm yy)) 6) - (zp B yy)))) ∧
  ((¬ (((f_X2_repay N B Bs (nI (zm yy)) (zp B yy)).1) = (-1))) → ((f_X2_count ((f_X2_repay N B Bs (nI (zm yy)) (zp B yy)).2.1) ((f_X2_repay N B Bs (nI (zm yy)) (zp B yy)).2.2.1) 3) = ((f_X2_count N B 3) - (zp B yy)))) ∧
  ((¬ (((f_X2_repay N B Bs (nI (zm yy)) (zp B yy)).1) = (-1))) → ((f_X2_count ((f_X2_repay N B Bs (nI (zm yy)) (zp B yy)).2.1) ((f_X2_repay N B Bs (nI (zm yy)) (zp B yy)).2.2.1) 0) = ((f_X2_count N B 0) + (zp B yy)))) ∧
  ((¬ (((f_X2_repay N B Bs (nI (zm yy)) (zp B yy)).1) = (-1))) → ((f_X2_memberOf ((f_X2_repay N B Bs (nI (zm yy)) (zp B yy)).2.2.1) (nI (zm yy)) 6) = ((f_X2_repay N B Bs (nI (zm yy)) (zp B yy)).1)))
def zF_acts_595 (N : NK) (B : BK) (Bs : Nat → BK) (yy : Int32) : Prop :=
  ((((f_X2_borrow N B Bs (nI (zm yy)) (nI (za yy)) (nI (zw yy))).1) = (f_X2_whyNot B (nI (zm yy)) (nI (za yy))))) ∧
  (((f_X2_whyNot B (nI (zm yy)) (nI (za yy))) ≤ 0) → ((f_X2_memberOf ((f_X2_borrow N B Bs (nI (zm yy)) (nI (za yy)) (nI (zw yy))).2.2.1) (nI (zm yy)) 6) = (nI (za yy)))) ∧
  (((f_X2_whyNot B (nI (zm yy)) (nI (za yy))) ≤ 0) → (¬ ((nI (zw yy)) < (f_X2_weeksLeft ((f_X2_borrow N B Bs (nI (zm yy)) (nI (za yy)) (nI (zw yy))).2.2.1) (nI (zm yy)) 0)))) ∧
  (((f_X2_whyNot B (nI (zm yy)) (nI (za yy))) ≤ 0) → ((f_X2_count ((f_X2_borrow N B Bs (nI (zm yy)) (nI (za yy)) (nI (zw yy))).2.1) ((f_X2_borrow N B Bs (nI (zm yy)) (nI (za yy)) (nI (zw yy))).2.2.1) 1) = ((f_X2_count N B 1) + (((nI (za yy)) * (f_X2_setting B 0)) / 1000)))) ∧
  (((f_X2_whyNot B (nI (zm yy)) (nI (za yy))) ≤ 0) → ((f_X2_count ((f_X2_borrow N B Bs (nI (zm yy)) (nI (za yy)) (nI (zw yy))).2.1) ((f_X2_borrow N B Bs (nI (zm yy)) (nI (za yy)) (nI (zw yy))).2.2.1) 0) = (((f_X2_count N B 0) - (nI (za yy))) + (((nI (za yy)) * (f_X2_setting B 0)) / 1000)))) ∧
  (((f_X2_whyNot B (nI (zm yy)) (nI (za yy))) ≤ 0) → ((f_X2_count ((f_X2_borrow N B Bs (nI (zm yy)) (nI (za yy)) (nI (zw yy))).2.1) ((f_X2_borrow N B Bs (nI (zm yy)) (nI (za yy)) (nI (zw yy))).2.2.1) 5) = ((f_X2_count N B 5) + 1))) ∧
  (((f_X2_whyNot B (nI (zm yy)) (nI (za yy))) ≤ 0) → ((f_X2_memberOf ((f_X2_borrow N B Bs (nI (zm yy)) (nI (za yy)) (nI (zw yy))).2.2.1) (nI (zm yy)) 9) = 0)) ∧
  ((¬ ((f_X2_whyNot B (nI (zm yy)) (nI (za yy))) ≤ 0)) → ((f_X2_count ((f_X2_borrow N B Bs (nI (zm yy)) (nI (za yy)) (nI (zw yy))).2.1) ((f_X2_borrow N B Bs (nI (zm yy)) (nI (za yy)) (nI (zw yy))).2.2.1) 9) = ((f_X2_count N B 9) + 1))) ∧
  ((¬ ((f_X2_whyNot B (nI (zm yy)) (nI (za yy))) ≤ 0)) → ((f_X2_count ((f_X2_borrow N B Bs (nI (zm yy)) (nI (za yy)) (nI (zw yy))).2.1) ((f_X2_borrow N B Bs (nI (zm yy)) (nI (za yy)) (nI (zw yy))).2.2.1) 3) = (f_X2_count N B 3)))
def zF_acts_489 (N : NK) (B : BK) (Bs : Nat → BK) (yy : Int32) : Prop :=
  ((¬ (nI (zm yy)) = (nI (zo yy)))) ∧
  (((if ((f_X2_unpledge N B Bs (nI (zm yy)) (nI (zo yy)) (nI (za yy))).1) = 1 then (1 : Int32) else 0) = (if (nI (za yy)) ≤ (f_X2_pledged B (nI (zm yy)) (nI (zo yy))) then (0 : Int32) else 1))) ∧
  ((¬ (((f_X2_unpledge N B Bs (nI (zm yy)) (nI (zo yy)) (nI (za yy))).1) < 0))) ∧
  ((¬ (2 < ((f_X2_unpledge N B Bs (nI (zm yy)) (nI (zo yy)) (nI (za yy))).1)))) ∧
  (((f_X2_pledged ((f_X2_unpledge N B Bs (nI (zm yy)) (nI (zo yy)) (nI (za yy))).2.2.1) (nI (zm yy)) (nI (zo yy))) = (if ((f_X2_unpledge N B Bs (nI (zm yy)) (nI (zo yy)) (nI (za yy))).1) = 0 then ((f_X2_pledged B (nI (zm yy)) (nI (zo yy))) - (nI (za yy)) : Int32) else f_X2_pledged B (nI (zm yy)) (nI (zo yy))))) ∧
  ((¬ ((f_X2_memberOf ((f_X2_unpledge N B Bs (nI (zm yy)) (nI (zo yy)) (nI (za yy))).2.2.1) (nI (zo yy)) 3) < (f_X2_memberOf ((f_X2_unpledge N B Bs (nI (zm yy)) (nI (zo yy)) (nI (za yy))).2.2.1) (nI (zo yy)) 6))))
def zF_acts_381 (N : NK) (B : BK) (Bs : Nat → BK) (yy : Int32) : Prop :=
  ((¬ (nI (zm yy)) = (nI (zo yy)))) ∧
  (((if ((f_X2_pledge N B Bs (nI (zm yy)) (nI (zo yy)) (nI (za yy))).1) = (-1) then (1 : Int32) else 0) = (if (nI (za yy)) ≤ (f_X2_memberOf B (nI (zm yy)) 4) then (0 : Int32) else 1))) ∧
  ((¬ (((f_X2_pledge N B Bs (nI (zm yy)) (nI (zo yy)) (nI (za yy))).1) = (-1))) → (((f_X2_pledge N B Bs (nI (zm yy)) (nI (zo yy)) (nI (za yy))).1) = ((f_X2_pledged B (nI (zm yy)) (nI (zo yy))) + (nI (za yy))))) ∧
  ((¬ (((f_X2_pledge N B Bs (nI (zm yy)) (nI (zo yy)) (nI (za yy))).1) = (-1))) → ((f_X2_pledged ((f_X2_pledge N B Bs (nI (zm yy)) (nI (zo yy)) (nI (za yy))).2.2.1) (nI (zm yy)) (nI (zo yy))) = ((f_X2_pledge N B Bs (nI (zm yy)) (nI (zo yy)) (nI (za yy))).1))) ∧
  ((((f_X2_pledge N B Bs (nI (zm yy)) (nI (zo yy)) (nI (za yy))).1) = (-1)) → ((f_X2_pledged ((f_X2_pledge N B Bs (nI (zm yy)) (nI (zo yy)) (nI (za yy))).2.2.1) (nI (zm yy)) (nI (zo yy))) = (f_X2_pledged B (nI (zm yy)) (nI (zo yy))))) ∧
  ((((f_X2_pledge N B Bs (nI (zm yy)) (nI (zo yy)) (nI (za yy))).1) = (-1)) → ((f_X2_count ((f_X2_pledge N B Bs (nI (zm yy)) (nI (zo yy)) (nI (za yy))).2.1) ((f_X2_pledge N B Bs (nI (zm yy)) (nI (zo yy)) (nI (za yy))).2.2.1) 9) = ((f_X2_count N B 9) + 1)))
def zF_acts_272 (N : NK) (B : BK) (Bs : Nat → BK) (yy : Int32) : Prop :=
  (((if ((f_X2_payOut N B Bs (nI (zm yy)) (nI (za yy))).1) = 1 then (1 : Int32) else 0) = (if (nI (za yy)) ≤ (f_X2_memberOf B (nI (zm yy)) 4) then (0 : Int32) else 1))) ∧
  ((¬ (((f_X2_payOut N B Bs (nI (zm yy)) (nI (za yy))).1) < 0))) ∧
  ((¬ (2 < ((f_X2_payOut N B Bs (nI (zm yy)) (nI (za yy))).1)))) ∧
  ((¬ (((f_X2_payOut N B Bs (nI (zm yy)) (nI (za yy))).1) = 0)) → ((f_X2_count ((f_X2_payOut N B Bs (nI (zm yy)) (nI (za yy))).2.1) ((f_X2_payOut N B Bs (nI (zm yy)) (nI (za yy))).2.2.1) 9) = ((f_X2_count N B 9) + 1))) ∧
  ((¬ (((f_X2_payOut N B Bs (nI (zm yy)) (nI (za yy))).1) = 0)) → ((f_X2_count ((f_X2_payOut N B Bs (nI (zm yy)) (nI (za yy))).2.1) ((f_X2_payOut N B Bs (nI (zm yy)) (nI (za yy))).2.2.1) 0) = (f_X2_count N B 0))) ∧
  ((((f_X2_payOut N B Bs (nI (zm yy)) (nI (za yy))).1) = 0) → ((f_X2_count ((f_X2_payOut N B Bs (nI (zm yy)) (nI (za yy))).2.1) ((f_X2_payOut N B Bs (nI (zm yy)) (nI (za yy))).2.2.1) 0) = ((f_X2_count N B 0) - (nI (za yy))))) ∧
  ((((f_X2_payOut N B Bs (nI (zm yy)) (nI (za yy))).1) = 0) → ((f_X2_count ((f_X2_payOut N B Bs (nI (zm yy)) (nI (za yy))).2.1) ((f_X2_payOut N B Bs (nI (zm yy)) (nI (za yy))).2.2.1) 2) = ((f_X2_count N B 2) - (nI (za yy)))))
def zF_acts_176 (N : NK) (B : BK) (Bs : Nat → BK) (yy : Int32) : Prop :=
  ((((f_X2_memberOf B (nI (zm yy)) 0) + (nI (za yy))) ≤ 90000) → (((f_X2_payIn N B Bs (nI (zm yy)) (nI (za yy))).1) = ((f_X2_memberOf B (nI (zm yy)) 0) + (nI (za yy))))) ∧
  ((((f_X2_memberOf B (nI (zm yy)) 0) + (nI (za yy))) ≤ 90000) → ((f_X2_count ((f_X2_payIn N B Bs (nI (zm yy)) (nI (za yy))).2.1) ((f_X2_payIn N B Bs (nI (zm yy)) (nI (za yy))).2.2.1) 0) = ((f_X2_count N B 0) + (nI (za yy))))) ∧
  ((((f_X2_memberOf B (nI (zm yy)) 0) + (nI (za yy))) ≤ 90000) → ((f_X2_count ((f_X2_payIn N B Bs (nI (zm yy)) (nI (za yy))).2.1) ((f_X2_payIn N B Bs (nI (zm yy)) (nI (za yy))).2.2.1) 2) = ((f_X2_count N B 2) + (nI (za yy))))) ∧
  ((¬ (((f_X2_memberOf B (nI (zm yy)) 0) + (nI (za yy))) ≤ 90000)) → (((f_X2_payIn N B Bs (nI (zm yy)) (nI (za yy))).1) = (-1))) ∧
  ((¬ (((f_X2_memberOf B (nI (zm yy)) 0) + (nI (za yy))) ≤ 90000)) → ((f_X2_count ((f_X2_payIn N B Bs (nI (zm yy)) (nI (za yy))).2.1) ((f_X2_payIn N B Bs (nI (zm yy)) (nI (za yy))).2.2.1) 9) = ((f_X2_count N B 9) + 1)))
def zF_acts (X : BK) (N : NK) (B : BK) (Bs : Nat → BK) (xx : Int32) (yy : Int32) : Prop :=
  zF_acts_1031 X N B Bs yy ∧
  zF_acts_1026 N B Bs ∧
  zF_acts_905 N B Bs xx yy ∧
  zF_acts_900 N B Bs ∧
  zF_acts_775 N B Bs yy ∧
  zF_acts_595 N B Bs yy ∧
  zF_acts_489 N B Bs yy ∧
  zF_acts_381 N B Bs yy ∧
  zF_acts_272 N B Bs yy ∧
  zF_acts_176 N B Bs yy
