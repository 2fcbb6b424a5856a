/-! the numbers of a turn -/
section ZVT
def zm (y : Int32) : Nat := zu y 6
def zo (y : Int32) : Nat := (zm y + 1 + zu ((y : Int32) >>> (3 &&& 31)) 5) % 6
def za (y : Int32) : Nat := 1 + zu ((y : Int32) >>> (6 &&& 31)) (if (((y : Int32) >>> (20 &&& 31)) &&& 1) = 0 then (9999 : Nat) else 600)
def zw (y : Int32) : Nat := 1 + zu ((y : Int32) >>> (10 &&& 31)) 52
theorem zm_lt (y : Int32) : zm y < 6 := zu_lt y (by decide) (by decide)
theorem zo_lt (y : Int32) : zo y < 6 := Nat.mod_lt _ (by decide)
theorem zo_ne (y : Int32) : ¬ zm y = zo y := by
  have h1 := zm_lt y
  have h2 := zu_lt ((y : Int32) >>> (3 &&& 31)) (n := 5) (by decide) (by decide)
  unfold zo
  omega
theorem za_bd (y : Int32) : 1 ≤ za y ∧ za y < 10000 := by
  have h2 := zu_lt ((y : Int32) >>> (6 &&& 31)) (n := if (((y : Int32) >>> (20 &&& 31)) &&& 1) = 0 then (9999 : Nat) else 600) (by split <;> omega) (by split <;> omega)
  have h3 : (if (((y : Int32) >>> (20 &&& 31)) &&& 1) = 0 then (9999 : Nat) else 600) ≤ 9999 := by split <;> omega
  unfold za
  omega
theorem zw_bd (y : Int32) : 1 ≤ zw y ∧ zw y ≤ 52 := by
  have h2 := zu_lt ((y : Int32) >>> (10 &&& 31)) (n := 52) (by decide) (by decide)
  unfold zw
  omega
def zp (B : BK) (y : Int32) : Int32 := if f_X2_memberOf B (nI (zm y)) 6 ≤ 0 then (nI (za y) : Int32) else if (nI (za y)) ≤ (f_X2_memberOf B (nI (zm y)) 6) then (nI (za y) : Int32) else f_X2_memberOf B (nI (zm y)) 6
end ZVT
