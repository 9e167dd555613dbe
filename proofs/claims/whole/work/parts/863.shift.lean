/-! the same, moved -/
def shp (s p : Pnt) : Pnt := (p.1 + s.1, p.2 + s.2)
def sco (side : Nat) (s : Pnt) : Int := match side with
  | 0 => s.1
  | 1 => s.1
  | _ => s.2
theorem wi_sh (side : Nat) (b : Int) (s p : Pnt) : wi side (b + sco side s) (shp s p) = wi side b p := by
  match side with
  | 0 => show (p.1 + s.1) - (b + s.1) = p.1 - b; omega
  | 1 => show (b + s.1) - (p.1 + s.1) = b - p.1; omega
  | 2 => show (p.2 + s.2) - (b + s.2) = p.2 - b; omega
  | k + 3 => show (b + s.2) - (p.2 + s.2) = b - p.2; omega
theorem cr_sh (side : Nat) (b : Int) (s p q : Pnt) : cr side (b + sco side s) (shp s p) (shp s q) = shp s (cr side b p q) := by
  have e1 : ∀ x y z : Int, x + z - (y + z) = x - y := fun x y z => by omega
  have e2 : ∀ x y z : Int, x + z + y = x + y + z := fun x y z => by omega
  match side with
  | 0 =>
    show ((b + s.1, (p.2 + s.2) + (((b + s.1) - (p.1 + s.1)) * ((q.2 + s.2) - (p.2 + s.2))).tdiv ((q.1 + s.1) - (p.1 + s.1))) : Pnt) = (b + s.1, p.2 + ((b - p.1) * (q.2 - p.2)).tdiv (q.1 - p.1) + s.2)
    rw [e1, e1, e1, e2]
  | 1 =>
    show ((b + s.1, (p.2 + s.2) + (((b + s.1) - (p.1 + s.1)) * ((q.2 + s.2) - (p.2 + s.2))).tdiv ((q.1 + s.1) - (p.1 + s.1))) : Pnt) = (b + s.1, p.2 + ((b - p.1) * (q.2 - p.2)).tdiv (q.1 - p.1) + s.2)
    rw [e1, e1, e1, e2]
  | 2 =>
    show (((p.1 + s.1) + (((b + s.2) - (p.2 + s.2)) * ((q.1 + s.1) - (p.1 + s.1))).tdiv ((q.2 + s.2) - (p.2 + s.2)), b + s.2) : Pnt) = (p.1 + ((b - p.2) * (q.1 - p.1)).tdiv (q.2 - p.2) + s.1, b + s.2)
    rw [e1, e1, e1, e2]
  | k + 3 =>
    show (((p.1 + s.1) + (((b + s.2) - (p.2 + s.2)) * ((q.1 + s.1) - (p.1 + s.1))).tdiv ((q.2 + s.2) - (p.2 + s.2)), b + s.2) : Pnt) = (p.1 + ((b - p.2) * (q.1 - p.1)).tdiv (q.2 - p.2) + s.1, b + s.2)
    rw [e1, e1, e1, e2]
theorem Psi_sh (side : Nat) (b : Int) (s : Pnt) {f g : Pnt → Pnt → Int} (h : ∀ p q, f (shp s p) (shp s q) = g p q) (p q : Pnt) : Psi side (b + sco side s) f (shp s p) (shp s q) = Psi side b g p q := by
  unfold Psi
  rw [wi_sh, wi_sh, cr_sh, h, h, h]
theorem kap_sh (c0 c1 y t : Int) : kap (c0 + t) (c1 + t) (y + t) = kap c0 c1 y + t := by
  unfold kap
  repeat' split
  all_goals omega
theorem ps0_sh (b0 b1 c0 c1 : Int) (s p q : Pnt) : ps0 (b0 + s.1) (b1 + s.1) (c0 + s.2) (c1 + s.2) (shp s p) (shp s q) = ps0 b0 b1 c0 c1 p q := by
  have h0 : ∀ p q, ph (b1 + s.1) (shp s p) (shp s q) = ph b1 p q := fun p q => by
    show ((p.1 + s.1) + (q.1 + s.1) - 2 * (b1 + s.1)) * ((q.2 + s.2) - (p.2 + s.2)) = (p.1 + q.1 - 2 * b1) * (q.2 - p.2)
    congr 1 <;> omega
  have h3 : ∀ p q, ps3 (b1 + s.1) (c1 + s.2) (shp s p) (shp s q) = ps3 b1 c1 p q := fun p q => Psi_sh 3 c1 s h0 p q
  have h2 : ∀ p q, ps2 (b1 + s.1) (c0 + s.2) (c1 + s.2) (shp s p) (shp s q) = ps2 b1 c0 c1 p q := fun p q => Psi_sh 2 c0 s h3 p q
  have h1 : ∀ p q, ps1 (b1 + s.1) (c0 + s.2) (c1 + s.2) (shp s p) (shp s q) = ps1 b1 c0 c1 p q := fun p q => Psi_sh 1 b1 s h2 p q
  have hc : ∀ p q, chi (b0 + s.1) (b1 + s.1) (c0 + s.2) (c1 + s.2) (shp s p) (shp s q) = chi b0 b1 c0 c1 p q := fun p q => by
    unfold chi
    rw [h1]
    show _ + 2 * ((b1 + s.1) - (b0 + s.1)) * (kap (c0 + s.2) (c1 + s.2) (q.2 + s.2) - kap (c0 + s.2) (c1 + s.2) (p.2 + s.2)) = _
    rw [kap_sh, kap_sh]
    have e1 : (b1 + s.1) - (b0 + s.1) = b1 - b0 := by omega
    have e2 : kap c0 c1 q.2 + s.2 - (kap c0 c1 p.2 + s.2) = kap c0 c1 q.2 - kap c0 c1 p.2 := by omega
    rw [e1, e2]
  exact Psi_sh 0 b0 s hc p q
theorem leI_sh (x1 y1 x2 y2 l b : Int) : leI (x1 - l) (y1 - b) (x2 - l) (y2 - b) 0 0 = leI x1 y1 x2 y2 l b := by
  have e1 : mxI (y1 - b) 0 = mxI y1 b - b := by
    unfold mxI
    repeat' split
    all_goals omega
  have e2 : mnI (y2 - b) (0 + 3) = mnI y2 (b + 3) - b := by
    unfold mnI
    repeat' split
    all_goals omega
  unfold leI
  rw [e1, e2]
  have a1 : x1 - l - 0 = x1 - l := by omega
  have a2 : y2 - b - (y1 - b) = y2 - y1 := by omega
  have a3 : x2 - l - (x1 - l) = x2 - x1 := by omega
  have a4 : mxI y1 b - b - (y1 - b) = mxI y1 b - y1 := by omega
  have a5 : mnI y2 (b + 3) - b - (y1 - b) = mnI y2 (b + 3) - y1 := by omega
  have a6 : mnI y2 (b + 3) - b - (mxI y1 b - b) = mnI y2 (b + 3) - mxI y1 b := by omega
  rw [a1, a2, a3, a4, a5, a6]
  by_cases h : mnI y2 (b + 3) ≤ mxI y1 b
  · rw [if_pos h, if_pos (by omega)]
  · rw [if_neg h, if_neg (by omega)]
theorem edI_sh (x1 y1 x2 y2 l b : Int) : edI (x1 - l) (y1 - b) (x2 - l) (y2 - b) 0 0 = edI x1 y1 x2 y2 l b := by
  unfold edI
  rw [leI_sh, leI_sh]
  by_cases h1 : y1 < y2
  · rw [if_pos h1, if_pos (by omega)]
  · rw [if_neg h1, if_neg (by omega)]
    by_cases h2 : y2 < y1
    · rw [if_pos h2, if_pos (by omega)]
    · rw [if_neg h2, if_neg (by omega)]
/-- the sum over a path in parts is 27720 times that over its edges -/
theorem edge_eq {x1 y1 x2 y2 dx dy : Int} {c r : Nat} (hc : c < 4) (hr : r < 4) (h1 : 0 ≤ x1 + dx ∧ x1 + dx ≤ 12) (h2 : 0 ≤ y1 + dy ∧ y1 + dy ≤ 12) (h3 : 0 ≤ x2 + dx ∧ x2 + dx ≤ 12) (h4 : 0 ≤ y2 + dy ∧ y2 + dy ≤ 12) :
    ps0 (83160 * (c : Int)) (83160 * (c : Int) + 83160) (83160 * (r : Int)) (83160 * (r : Int) + 83160) (27720 * (x1 + dx), 27720 * (y1 + dy)) (27720 * (x2 + dx), 27720 * (y2 + dy)) = 27720 * edI x1 y1 x2 y2 (3 * (c : Int) - dx) (3 * (r : Int) - dy) := by
  have hs := ps0_sh 0 83160 0 83160 (83160 * (c : Int), 83160 * (r : Int)) (27720 * (x1 + dx - 3 * c), 27720 * (y1 + dy - 3 * r)) (27720 * (x2 + dx - 3 * c), 27720 * (y2 + dy - 3 * r))
  have e1 : shp (83160 * (c : Int), 83160 * (r : Int)) (27720 * (x1 + dx - 3 * c), 27720 * (y1 + dy - 3 * r)) = (27720 * (x1 + dx), 27720 * (y1 + dy)) := by
    show ((27720 * (x1 + dx - 3 * c) + 83160 * (c : Int), 27720 * (y1 + dy - 3 * r) + 83160 * (r : Int)) : Pnt) = _
    congr 1 <;> omega
  have e2 : shp (83160 * (c : Int), 83160 * (r : Int)) (27720 * (x2 + dx - 3 * c), 27720 * (y2 + dy - 3 * r)) = (27720 * (x2 + dx), 27720 * (y2 + dy)) := by
    show ((27720 * (x2 + dx - 3 * c) + 83160 * (c : Int), 27720 * (y2 + dy - 3 * r) + 83160 * (r : Int)) : Pnt) = _
    congr 1 <;> omega
  rw [e1, e2] at hs
  have e3 : (0 : Int) + ((83160 * (c : Int), 83160 * (r : Int)) : Pnt).1 = 83160 * (c : Int) := by show (0 : Int) + 83160 * (c : Int) = _; omega
  have e4 : (83160 : Int) + ((83160 * (c : Int), 83160 * (r : Int)) : Pnt).1 = 83160 * (c : Int) + 83160 := by show (83160 : Int) + 83160 * (c : Int) = _; omega
  have e5 : (0 : Int) + ((83160 * (c : Int), 83160 * (r : Int)) : Pnt).2 = 83160 * (r : Int) := by show (0 : Int) + 83160 * (r : Int) = _; omega
  have e6 : (83160 : Int) + ((83160 * (c : Int), 83160 * (r : Int)) : Pnt).2 = 83160 * (r : Int) + 83160 := by show (83160 : Int) + 83160 * (r : Int) = _; omega
  rw [e3, e4, e5, e6] at hs
  rw [hs, chk_all (s := 3 * c) (t := 3 * r) (by omega) (by omega) (by omega) (by omega) (by omega) (by omega)]
  have q1 : x1 + dx - 3 * c = x1 - (3 * (c : Int) - dx) := by omega
  have q2 : y1 + dy - 3 * r = y1 - (3 * (r : Int) - dy) := by omega
  have q3 : x2 + dx - 3 * c = x2 - (3 * (c : Int) - dx) := by omega
  have q4 : y2 + dy - 3 * r = y2 - (3 * (r : Int) - dy) := by omega
  rw [q1, q2, q3, q4, edI_sh]
