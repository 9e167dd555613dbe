/-! geometry in whole numbers: how a path is cut to a dot, side by side -/
abbrev Pnt : Type := Int × Int
/-- how far a place is within a side -/
def wi (side : Nat) (b : Int) (p : Pnt) : Int := match side with
  | 0 => p.1 - b
  | 1 => b - p.1
  | 2 => p.2 - b
  | _ => b - p.2
/-- where the way from p to q crosses a side -/
def cr (side : Nat) (b : Int) (p q : Pnt) : Pnt := match side with
  | 0 => (b, p.2 + ((b - p.1) * (q.2 - p.2)).tdiv (q.1 - p.1))
  | 1 => (b, p.2 + ((b - p.1) * (q.2 - p.2)).tdiv (q.1 - p.1))
  | _ => (p.1 + ((b - p.2) * (q.1 - p.1)).tdiv (q.2 - p.2), b)
/-- what is left of a sum over the edges, told of the edges before a cut -/
def Psi (side : Nat) (b : Int) (f : Pnt → Pnt → Int) (p q : Pnt) : Int :=
  if 0 ≤ wi side b p then
    if 0 ≤ wi side b q then f p q
    else if 0 < wi side b p then f p (cr side b p q) else 0
  else if 0 < wi side b q then f (cr side b p q) q else 0
/-- twice the area between an edge and the upright at b -/
def ph (b : Int) (p q : Pnt) : Int := (p.1 + q.1 - 2 * b) * (q.2 - p.2)
def kap (c0 c1 y : Int) : Int := if y < c0 then c0 else if c1 < y then c1 else y
def ps3 (b c1 : Int) : Pnt → Pnt → Int := Psi 3 c1 (ph b)
def ps2 (b c0 c1 : Int) : Pnt → Pnt → Int := Psi 2 c0 (ps3 b c1)
def ps1 (b1 c0 c1 : Int) : Pnt → Pnt → Int := Psi 1 b1 (ps2 b1 c0 c1)
def chi (b0 b1 c0 c1 : Int) (p q : Pnt) : Int := ps1 b1 c0 c1 p q + 2 * (b1 - b0) * (kap c0 c1 q.2 - kap c0 c1 p.2)
def ps0 (b0 b1 c0 c1 : Int) : Pnt → Pnt → Int := Psi 0 b0 (chi b0 b1 c0 c1)
/-! the same by the class: what an edge has to its left -/
def beI (low high width height band : Int) : Int :=
  if height = 0 ∨ (low ≤ 0 ∧ high ≤ 0) then 0
  else if 0 ≤ low ∧ 0 ≤ high then (27720 * (low + high) * band).tdiv height
  else if width = 0 then 0
  else (27720 * (if high < low then low else high) * (if high < low then low else high)).tdiv (width * height)
def mxI (a b : Int) : Int := if a < b then b else a
def mnI (a b : Int) : Int := if b < a then b else a
def abI (a : Int) : Int := if 0 ≤ a then a else 0 - a
def leI (x1 y1 x2 y2 left bottom : Int) : Int :=
  if mnI y2 (bottom + 3) ≤ mxI y1 bottom then 0
  else
    beI ((x1 - left) * (y2 - y1) + (x2 - x1) * (mxI y1 bottom - y1)) ((x1 - left) * (y2 - y1) + (x2 - x1) * (mnI y2 (bottom + 3) - y1)) (abI (x2 - x1)) (y2 - y1) (mnI y2 (bottom + 3) - mxI y1 bottom)
    - beI ((x1 - left) * (y2 - y1) + (x2 - x1) * (mxI y1 bottom - y1) - 3 * (y2 - y1)) ((x1 - left) * (y2 - y1) + (x2 - x1) * (mnI y2 (bottom + 3) - y1) - 3 * (y2 - y1)) (abI (x2 - x1)) (y2 - y1) (mnI y2 (bottom + 3) - mxI y1 bottom)
def edI (x1 y1 x2 y2 left bottom : Int) : Int := if y1 < y2 then leI x1 y1 x2 y2 left bottom else if y2 < y1 then 0 - leI x2 y2 x1 y1 left bottom else 0
