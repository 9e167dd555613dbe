/-! one edge: the model's sum and the class's, edge by edge -/
def loN (u : Int) : Int := if u ≤ 3 then -9 else if u ≤ 6 then -6 else if u ≤ 9 then -3 else 0
def hiN (u : Int) : Int := if 0 ≤ u then 12 else if -3 ≤ u then 9 else if -6 ≤ u then 6 else 3
def rngI (a : Int) : Nat → List Int
  | 0 => []
  | n + 1 => a :: rngI (a + 1) n
def ckE (u1 v1 u2 v2 : Int) : Bool := decide (ps0 0 83160 0 83160 (27720 * u1, 27720 * v1) (27720 * u2, 27720 * v2) = 27720 * edI u1 v1 u2 v2 0 0)
def ckU (u1 : Int) : Bool := (rngI (loN u1) (hiN u1 - loN u1 + 1).toNat).all fun u2 => (rngI (-9) 22).all fun v1 => (rngI (loN v1) (hiN v1 - loN v1 + 1).toNat).all fun v2 => ckE u1 v1 u2 v2
theorem chk_m9 : ckU (-9) = true := by decide +kernel
theorem chk_m8 : ckU (-8) = true := by decide +kernel
theorem chk_m7 : ckU (-7) = true := by decide +kernel
theorem chk_m6 : ckU (-6) = true := by decide +kernel
theorem chk_m5 : ckU (-5) = true := by decide +kernel
theorem chk_m4 : ckU (-4) = true := by decide +kernel
