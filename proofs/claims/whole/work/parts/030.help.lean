/-! helpers of the pure functions: none where an index, a divisor or the fuel fails -/
def nm {α β : Type} (x : α) (k : α → β) : β := k x
theorem nm_u {α β : Type} {x : α} {k : α → β} {o : β} (h : nm x k = o) {v : α} (e : v = x) : k v = o := by subst e; exact h
def gd {α : Type} (b : Bool) (k : Option α) : Option α := match b with
  | true => k
  | false => none
theorem gd_u {α : Type} {b : Bool} {k : Option α} {o : α} (h : gd b k = some o) : b = true ∧ k = some o := by
  cases b with
  | true => exact ⟨rfl, h⟩
  | false => exact absurd h (fun h => nomatch h)
theorem gd_t {α : Type} {b : Bool} (h : b = true) (k : Option α) : gd b k = k := by subst h; rfl
def ib (i : Int32) (n : Nat) : Bool := decide (0 ≤ i.toInt ∧ i.toInt < n)
theorem in_u {i : Int32} {n : Nat} (h : ib i n = true) : vp_in i n := vp_in_iff.mpr (of_decide_eq_true h)
theorem in_k {i : Int32} {n : Nat} (h : 0 ≤ i.toInt ∧ i.toInt < n) : vp_in i n := vp_in_iff.mpr h
def nz (y : Int32) : Bool := decide (¬ y = 0)
theorem nz_u {y : Int32} (h : nz y = true) : ¬ y = 0 := of_decide_eq_true h
def nzl (y : Int64) : Bool := decide (¬ y = 0)
theorem nz_ul {y : Int64} (h : nzl y = true) : ¬ y = 0 := of_decide_eq_true h
def isb (v : Int32) : Bool := decide (v = 0 ∨ v = 1)
theorem isb_u {v : Int32} (h : isb v = true) : narrow .boolean (.int v) = .int v := by
  rcases of_decide_eq_true h with rfl | rfl <;> rfl
theorem br1 {α : Type} {c : Prop} [Decidable c] {a b o : α} (h : (if c then a else b) = o) (hc : c) : a = o := (if_pos hc).symm.trans h
theorem br0 {α : Type} {c : Prop} [Decidable c] {a b o : α} (h : (if c then a else b) = o) (hc : ¬ c) : b = o := (if_neg hc).symm.trans h
theorem nn {α : Type} {o : α} {P : Prop} (h : (none : Option α) = some o) : P := nomatch h
def bd1 {A0 β : Type} (x : Option (A0)) (k : A0 → Option β) : Option β := match x with
  | none => none
  | some a => k a
theorem bd1_u {A0 β : Type} {x : Option (A0)} {k : A0 → Option β} {o : β} (h : bd1 x k = some o) : ∃ a, x = some (a) ∧ k a = some o := by
  cases x with
  | none => exact absurd h (fun h => nomatch h)
  | some y => exact ⟨y, rfl, h⟩
def bd2 {A0 A1 β : Type} (x : Option (A0 × A1)) (k : A0 → A1 → Option β) : Option β := match x with
  | none => none
  | some (a, b) => k a b
theorem bd2_u {A0 A1 β : Type} {x : Option (A0 × A1)} {k : A0 → A1 → Option β} {o : β} (h : bd2 x k = some o) : ∃ a b, x = some (a, b) ∧ k a b = some o := by
  cases x with
  | none => exact absurd h (fun h => nomatch h)
  | some y => exact ⟨y.1, y.2, rfl, h⟩
theorem tp2 {A0 A1 : Type} {a a' : A0} {b b' : A1} (h : some (a, b) = some (a', b')) : a = a' ∧ b = b' := by
  cases h
  exact ⟨rfl, rfl⟩
def bd3 {A0 A1 A2 β : Type} (x : Option (A0 × A1 × A2)) (k : A0 → A1 → A2 → Option β) : Option β := match x with
  | none => none
  | some (a, b, c) => k a b c
theorem bd3_u {A0 A1 A2 β : Type} {x : Option (A0 × A1 × A2)} {k : A0 → A1 → A2 → Option β} {o : β} (h : bd3 x k = some o) : ∃ a b c, x = some (a, b, c) ∧ k a b c = some o := by
  cases x with
  | none => exact absurd h (fun h => nomatch h)
  | some y => exact ⟨y.1, y.2.1, y.2.2, rfl, h⟩
theorem tp3 {A0 A1 A2 : Type} {a a' : A0} {b b' : A1} {c c' : A2} (h : some (a, b, c) = some (a', b', c')) : a = a' ∧ b = b' ∧ c = c' := by
  cases h
  exact ⟨rfl, rfl, rfl⟩
def bd4 {A0 A1 A2 A3 β : Type} (x : Option (A0 × A1 × A2 × A3)) (k : A0 → A1 → A2 → A3 → Option β) : Option β := match x with
  | none => none
  | some (a, b, c, d) => k a b c d
theorem bd4_u {A0 A1 A2 A3 β : Type} {x : Option (A0 × A1 × A2 × A3)} {k : A0 → A1 → A2 → A3 → Option β} {o : β} (h : bd4 x k = some o) : ∃ a b c d, x = some (a, b, c, d) ∧ k a b c d = some o := by
  cases x with
  | none => exact absurd h (fun h => nomatch h)
  | some y => exact ⟨y.1, y.2.1, y.2.2.1, y.2.2.2, rfl, h⟩
theorem tp4 {A0 A1 A2 A3 : Type} {a a' : A0} {b b' : A1} {c c' : A2} {d d' : A3} (h : some (a, b, c, d) = some (a', b', c', d')) : a = a' ∧ b = b' ∧ c = c' ∧ d = d' := by
  cases h
  exact ⟨rfl, rfl, rfl, rfl⟩
def bd5 {A0 A1 A2 A3 A4 β : Type} (x : Option (A0 × A1 × A2 × A3 × A4)) (k : A0 → A1 → A2 → A3 → A4 → Option β) : Option β := match x with
  | none => none
  | some (a, b, c, d, e) => k a b c d e
theorem bd5_u {A0 A1 A2 A3 A4 β : Type} {x : Option (A0 × A1 × A2 × A3 × A4)} {k : A0 → A1 → A2 → A3 → A4 → Option β} {o : β} (h : bd5 x k = some o) : ∃ a b c d e, x = some (a, b, c, d, e) ∧ k a b c d e = some o := by
  cases x with
  | none => exact absurd h (fun h => nomatch h)
  | some y => exact ⟨y.1, y.2.1, y.2.2.1, y.2.2.2.1, y.2.2.2.2, rfl, h⟩
theorem tp5 {A0 A1 A2 A3 A4 : Type} {a a' : A0} {b b' : A1} {c c' : A2} {d d' : A3} {e e' : A4} (h : some (a, b, c, d, e) = some (a', b', c', d', e')) : a = a' ∧ b = b' ∧ c = c' ∧ d = d' ∧ e = e' := by
  cases h
  exact ⟨rfl, rfl, rfl, rfl, rfl⟩
def bd6 {A0 A1 A2 A3 A4 A5 β : Type} (x : Option (A0 × A1 × A2 × A3 × A4 × A5)) (k : A0 → A1 → A2 → A3 → A4 → A5 → Option β) : Option β := match x with
  | none => none
  | some (a, b, c, d, e, f) => k a b c d e f
theorem bd6_u {A0 A1 A2 A3 A4 A5 β : Type} {x : Option (A0 × A1 × A2 × A3 × A4 × A5)} {k : A0 → A1 → A2 → A3 → A4 → A5 → Option β} {o : β} (h : bd6 x k = some o) : ∃ a b c d e f, x = some (a, b, c, d, e, f) ∧ k a b c d e f = some o := by
  cases x with
  | none => exact absurd h (fun h => nomatch h)
  | some y => exact ⟨y.1, y.2.1, y.2.2.1, y.2.2.2.1, y.2.2.2.2.1, y.2.2.2.2.2, rfl, h⟩
theorem tp6 {A0 A1 A2 A3 A4 A5 : Type} {a a' : A0} {b b' : A1} {c c' : A2} {d d' : A3} {e e' : A4} {f f' : A5} (h : some (a, b, c, d, e, f) = some (a', b', c', d', e', f')) : a = a' ∧ b = b' ∧ c = c' ∧ d = d' ∧ e = e' ∧ f = f' := by
  cases h
  exact ⟨rfl, rfl, rfl, rfl, rfl, rfl⟩
def bd7 {A0 A1 A2 A3 A4 A5 A6 β : Type} (x : Option (A0 × A1 × A2 × A3 × A4 × A5 × A6)) (k : A0 → A1 → A2 → A3 → A4 → A5 → A6 → Option β) : Option β := match x with
  | none => none
  | some (a, b, c, d, e, f, g) => k a b c d e f g
theorem bd7_u {A0 A1 A2 A3 A4 A5 A6 β : Type} {x : Option (A0 × A1 × A2 × A3 × A4 × A5 × A6)} {k : A0 → A1 → A2 → A3 → A4 → A5 → A6 → Option β} {o : β} (h : bd7 x k = some o) : ∃ a b c d e f g, x = some (a, b, c, d, e, f, g) ∧ k a b c d e f g = some o := by
  cases x with
  | none => exact absurd h (fun h => nomatch h)
  | some y => exact ⟨y.1, y.2.1, y.2.2.1, y.2.2.2.1, y.2.2.2.2.1, y.2.2.2.2.2.1, y.2.2.2.2.2.2, rfl, h⟩
theorem tp7 {A0 A1 A2 A3 A4 A5 A6 : Type} {a a' : A0} {b b' : A1} {c c' : A2} {d d' : A3} {e e' : A4} {f f' : A5} {g g' : A6} (h : some (a, b, c, d, e, f, g) = some (a', b', c', d', e', f', g')) : a = a' ∧ b = b' ∧ c = c' ∧ d = d' ∧ e = e' ∧ f = f' ∧ g = g' := by
  cases h
  exact ⟨rfl, rfl, rfl, rfl, rfl, rfl, rfl⟩
def bd8 {A0 A1 A2 A3 A4 A5 A6 A7 β : Type} (x : Option (A0 × A1 × A2 × A3 × A4 × A5 × A6 × A7)) (k : A0 → A1 → A2 → A3 → A4 → A5 → A6 → A7 → Option β) : Option β := match x with
  | none => none
  | some (a, b, c, d, e, f, g, h) => k a b c d e f g h
theorem bd8_u {A0 A1 A2 A3 A4 A5 A6 A7 β : Type} {x : Option (A0 × A1 × A2 × A3 × A4 × A5 × A6 × A7)} {k : A0 → A1 → A2 → A3 → A4 → A5 → A6 → A7 → Option β} {o : β} (h : bd8 x k = some o) : ∃ a b c d e f g h, x = some (a, b, c, d, e, f, g, h) ∧ k a b c d e f g h = some o := by
  cases x with
  | none => exact absurd h (fun h => nomatch h)
  | some y => exact ⟨y.1, y.2.1, y.2.2.1, y.2.2.2.1, y.2.2.2.2.1, y.2.2.2.2.2.1, y.2.2.2.2.2.2.1, y.2.2.2.2.2.2.2, rfl, h⟩
theorem tp8 {A0 A1 A2 A3 A4 A5 A6 A7 : Type} {a a' : A0} {b b' : A1} {c c' : A2} {d d' : A3} {e e' : A4} {f f' : A5} {g g' : A6} {h h' : A7} (hh : some (a, b, c, d, e, f, g, h) = some (a', b', c', d', e', f', g', h')) : a = a' ∧ b = b' ∧ c = c' ∧ d = d' ∧ e = e' ∧ f = f' ∧ g = g' ∧ h = h' := by
  cases hh
  exact ⟨rfl, rfl, rfl, rfl, rfl, rfl, rfl, rfl⟩
def bd9 {A0 A1 A2 A3 A4 A5 A6 A7 A8 β : Type} (x : Option (A0 × A1 × A2 × A3 × A4 × A5 × A6 × A7 × A8)) (k : A0 → A1 → A2 → A3 → A4 → A5 → A6 → A7 → A8 → Option β) : Option β := match x with
  | none => none
  | some (a, b, c, d, e, f, g, h, i) => k a b c d e f g h i
theorem bd9_u {A0 A1 A2 A3 A4 A5 A6 A7 A8 β : Type} {x : Option (A0 × A1 × A2 × A3 × A4 × A5 × A6 × A7 × A8)} {k : A0 → A1 → A2 → A3 → A4 → A5 → A6 → A7 → A8 → Option β} {o : β} (h : bd9 x k = some o) : ∃ a b c d e f g h i, x = some (a, b, c, d, e, f, g, h, i) ∧ k a b c d e f g h i = some o := by
  cases x with
  | none => exact absurd h (fun h => nomatch h)
  | some y => exact ⟨y.1, y.2.1, y.2.2.1, y.2.2.2.1, y.2.2.2.2.1, y.2.2.2.2.2.1, y.2.2.2.2.2.2.1, y.2.2.2.2.2.2.2.1, y.2.2.2.2.2.2.2.2, rfl, h⟩
theorem tp9 {A0 A1 A2 A3 A4 A5 A6 A7 A8 : Type} {a a' : A0} {b b' : A1} {c c' : A2} {d d' : A3} {e e' : A4} {f f' : A5} {g g' : A6} {h h' : A7} {i i' : A8} (hh : some (a, b, c, d, e, f, g, h, i) = some (a', b', c', d', e', f', g', h', i')) : a = a' ∧ b = b' ∧ c = c' ∧ d = d' ∧ e = e' ∧ f = f' ∧ g = g' ∧ h = h' ∧ i = i' := by
  cases hh
  exact ⟨rfl, rfl, rfl, rfl, rfl, rfl, rfl, rfl, rfl⟩
def bd10 {A0 A1 A2 A3 A4 A5 A6 A7 A8 A9 β : Type} (x : Option (A0 × A1 × A2 × A3 × A4 × A5 × A6 × A7 × A8 × A9)) (k : A0 → A1 → A2 → A3 → A4 → A5 → A6 → A7 → A8 → A9 → Option β) : Option β := match x with
  | none => none
  | some (x0, x1, x2, x3, x4, x5, x6, x7, x8, x9) => k x0 x1 x2 x3 x4 x5 x6 x7 x8 x9
theorem bd10_u {A0 A1 A2 A3 A4 A5 A6 A7 A8 A9 β : Type} {x : Option (A0 × A1 × A2 × A3 × A4 × A5 × A6 × A7 × A8 × A9)} {k : A0 → A1 → A2 → A3 → A4 → A5 → A6 → A7 → A8 → A9 → Option β} {o : β} (h : bd10 x k = some o) : ∃ x0 x1 x2 x3 x4 x5 x6 x7 x8 x9, x = some (x0, x1, x2, x3, x4, x5, x6, x7, x8, x9) ∧ k x0 x1 x2 x3 x4 x5 x6 x7 x8 x9 = some o := by
  cases x with
  | none => exact absurd h (fun h => nomatch h)
  | some y => exact ⟨y.1, y.2.1, y.2.2.1, y.2.2.2.1, y.2.2.2.2.1, y.2.2.2.2.2.1, y.2.2.2.2.2.2.1, y.2.2.2.2.2.2.2.1, y.2.2.2.2.2.2.2.2.1, y.2.2.2.2.2.2.2.2.2, rfl, h⟩
theorem tp10 {A0 A1 A2 A3 A4 A5 A6 A7 A8 A9 : Type} {x0 x0' : A0} {x1 x1' : A1} {x2 x2' : A2} {x3 x3' : A3} {x4 x4' : A4} {x5 x5' : A5} {x6 x6' : A6} {x7 x7' : A7} {x8 x8' : A8} {x9 x9' : A9} (hh : some (x0, x1, x2, x3, x4, x5, x6, x7, x8, x9) = some (x0', x1', x2', x3', x4', x5', x6', x7', x8', x9')) : x0 = x0' ∧ x1 = x1' ∧ x2 = x2' ∧ x3 = x3' ∧ x4 = x4' ∧ x5 = x5' ∧ x6 = x6' ∧ x7 = x7' ∧ x8 = x8' ∧ x9 = x9' := by
  cases hh
  exact ⟨rfl, rfl, rfl, rfl, rfl, rfl, rfl, rfl, rfl, rfl⟩
def bd11 {A0 A1 A2 A3 A4 A5 A6 A7 A8 A9 A10 β : Type} (x : Option (A0 × A1 × A2 × A3 × A4 × A5 × A6 × A7 × A8 × A9 × A10)) (k : A0 → A1 → A2 → A3 → A4 → A5 → A6 → A7 → A8 → A9 → A10 → Option β) : Option β := match x with
  | none => none
  | some (x0, x1, x2, x3, x4, x5, x6, x7, x8, x9, x10) => k x0 x1 x2 x3 x4 x5 x6 x7 x8 x9 x10
theorem bd11_u {A0 A1 A2 A3 A4 A5 A6 A7 A8 A9 A10 β : Type} {x : Option (A0 × A1 × A2 × A3 × A4 × A5 × A6 × A7 × A8 × A9 × A10)} {k : A0 → A1 → A2 → A3 → A4 → A5 → A6 → A7 → A8 → A9 → A10 → Option β} {o : β} (h : bd11 x k = some o) : ∃ x0 x1 x2 x3 x4 x5 x6 x7 x8 x9 x10, x = some (x0, x1, x2, x3, x4, x5, x6, x7, x8, x9, x10) ∧ k x0 x1 x2 x3 x4 x5 x6 x7 x8 x9 x10 = some o := by
  cases x with
  | none => exact absurd h (fun h => nomatch h)
  | some y => exact ⟨y.1, y.2.1, y.2.2.1, y.2.2.2.1, y.2.2.2.2.1, y.2.2.2.2.2.1, y.2.2.2.2.2.2.1, y.2.2.2.2.2.2.2.1, y.2.2.2.2.2.2.2.2.1, y.2.2.2.2.2.2.2.2.2.1, y.2.2.2.2.2.2.2.2.2.2, rfl, h⟩
theorem tp11 {A0 A1 A2 A3 A4 A5 A6 A7 A8 A9 A10 : Type} {x0 x0' : A0} {x1 x1' : A1} {x2 x2' : A2} {x3 x3' : A3} {x4 x4' : A4} {x5 x5' : A5} {x6 x6' : A6} {x7 x7' : A7} {x8 x8' : A8} {x9 x9' : A9} {x10 x10' : A10} (hh : some (x0, x1, x2, x3, x4, x5, x6, x7, x8, x9, x10) = some (x0', x1', x2', x3', x4', x5', x6', x7', x8', x9', x10')) : x0 = x0' ∧ x1 = x1' ∧ x2 = x2' ∧ x3 = x3' ∧ x4 = x4' ∧ x5 = x5' ∧ x6 = x6' ∧ x7 = x7' ∧ x8 = x8' ∧ x9 = x9' ∧ x10 = x10' := by
  cases hh
  exact ⟨rfl, rfl, rfl, rfl, rfl, rfl, rfl, rfl, rfl, rfl, rfl⟩
def bd12 {A0 A1 A2 A3 A4 A5 A6 A7 A8 A9 A10 A11 β : Type} (x : Option (A0 × A1 × A2 × A3 × A4 × A5 × A6 × A7 × A8 × A9 × A10 × A11)) (k : A0 → A1 → A2 → A3 → A4 → A5 → A6 → A7 → A8 → A9 → A10 → A11 → Option β) : Option β := match x with
  | none => none
  | some (x0, x1, x2, x3, x4, x5, x6, x7, x8, x9, x10, x11) => k x0 x1 x2 x3 x4 x5 x6 x7 x8 x9 x10 x11
theorem bd12_u {A0 A1 A2 A3 A4 A5 A6 A7 A8 A9 A10 A11 β : Type} {x : Option (A0 × A1 × A2 × A3 × A4 × A5 × A6 × A7 × A8 × A9 × A10 × A11)} {k : A0 → A1 → A2 → A3 → A4 → A5 → A6 → A7 → A8 → A9 → A10 → A11 → Option β} {o : β} (h : bd12 x k = some o) : ∃ x0 x1 x2 x3 x4 x5 x6 x7 x8 x9 x10 x11, x = some (x0, x1, x2, x3, x4, x5, x6, x7, x8, x9, x10, x11) ∧ k x0 x1 x2 x3 x4 x5 x6 x7 x8 x9 x10 x11 = some o := by
  cases x with
  | none => exact absurd h (fun h => nomatch h)
  | some y => exact ⟨y.1, y.2.1, y.2.2.1, y.2.2.2.1, y.2.2.2.2.1, y.2.2.2.2.2.1, y.2.2.2.2.2.2.1, y.2.2.2.2.2.2.2.1, y.2.2.2.2.2.2.2.2.1, y.2.2.2.2.2.2.2.2.2.1, y.2.2.2.2.2.2.2.2.2.2.1, y.2.2.2.2.2.2.2.2.2.2.2, rfl, h⟩
theorem tp12 {A0 A1 A2 A3 A4 A5 A6 A7 A8 A9 A10 A11 : Type} {x0 x0' : A0} {x1 x1' : A1} {x2 x2' : A2} {x3 x3' : A3} {x4 x4' : A4} {x5 x5' : A5} {x6 x6' : A6} {x7 x7' : A7} {x8 x8' : A8} {x9 x9' : A9} {x10 x10' : A10} {x11 x11' : A11} (hh : some (x0, x1, x2, x3, x4, x5, x6, x7, x8, x9, x10, x11) = some (x0', x1', x2', x3', x4', x5', x6', x7', x8', x9', x10', x11')) : x0 = x0' ∧ x1 = x1' ∧ x2 = x2' ∧ x3 = x3' ∧ x4 = x4' ∧ x5 = x5' ∧ x6 = x6' ∧ x7 = x7' ∧ x8 = x8' ∧ x9 = x9' ∧ x10 = x10' ∧ x11 = x11' := by
  cases hh
  exact ⟨rfl, rfl, rfl, rfl, rfl, rfl, rfl, rfl, rfl, rfl, rfl, rfl⟩
section LC
variable {p : Program} {l : Launch} {e : Env} {R : Room} {s : State} {m : MethodId} {args : Array Value} {below : List Frame} {meth : Method} {c : Code} {H : Heap} {locs : List Loc} {cells slots : Nat} {Q : State → Prop} {cc : ByteArray} {pc : Nat} {ls : Array Slot} {rest : List Value}
theorem lc_lt (hexec : p.tables.exec = Jvm.exec) (hb : c.code = cc) {x y : Int64} {off : Int} {tgt : Nat} (hdg : decode cc pc = .ok (.lcmp, 1)) (hdg2 : decode cc (pc + 1) = .ok (.ifCond .lt off, 3)) (ht : ((pc + 1 : Nat) : Int) + off = (tgt : Int))
    (kt : x < y → W p l e R s m args below meth c H locs cells slots Q (F0 m tgt ls rest)) (kf : ¬ x < y → W p l e R s m args below meth c H locs cells slots Q (F0 m (pc + 1 + 3) ls rest)) : W p l e R s m args below meth c H locs cells slots Q (F0 m pc ls (.long y :: .long x :: rest)) :=
  W.lcmp hexec hb hdg (lv_if_lt hexec hb hdg2 ht (fun h => kt ((lg_cmp_lt x y).mp h)) (fun h => kf (fun q => h ((lg_cmp_lt x y).mpr q))))
theorem lc_ge (hexec : p.tables.exec = Jvm.exec) (hb : c.code = cc) {x y : Int64} {off : Int} {tgt : Nat} (hdg : decode cc pc = .ok (.lcmp, 1)) (hdg2 : decode cc (pc + 1) = .ok (.ifCond .ge off, 3)) (ht : ((pc + 1 : Nat) : Int) + off = (tgt : Int))
    (kt : y ≤ x → W p l e R s m args below meth c H locs cells slots Q (F0 m tgt ls rest)) (kf : ¬ y ≤ x → W p l e R s m args below meth c H locs cells slots Q (F0 m (pc + 1 + 3) ls rest)) : W p l e R s m args below meth c H locs cells slots Q (F0 m pc ls (.long y :: .long x :: rest)) :=
  W.lcmp hexec hb hdg (lv_if_ge hexec hb hdg2 ht (fun h => kt ((lg_cmp_ge x y).mp h)) (fun h => kf (fun q => h ((lg_cmp_ge x y).mpr q))))
theorem lc_gt (hexec : p.tables.exec = Jvm.exec) (hb : c.code = cc) {x y : Int64} {off : Int} {tgt : Nat} (hdg : decode cc pc = .ok (.lcmp, 1)) (hdg2 : decode cc (pc + 1) = .ok (.ifCond .gt off, 3)) (ht : ((pc + 1 : Nat) : Int) + off = (tgt : Int))
    (kt : y < x → W p l e R s m args below meth c H locs cells slots Q (F0 m tgt ls rest)) (kf : ¬ y < x → W p l e R s m args below meth c H locs cells slots Q (F0 m (pc + 1 + 3) ls rest)) : W p l e R s m args below meth c H locs cells slots Q (F0 m pc ls (.long y :: .long x :: rest)) :=
  W.lcmp hexec hb hdg (lv_if_gt hexec hb hdg2 ht (fun h => kt ((lg_cmp_gt x y).mp h)) (fun h => kf (fun q => h ((lg_cmp_gt x y).mpr q))))
theorem lc_le (hexec : p.tables.exec = Jvm.exec) (hb : c.code = cc) {x y : Int64} {off : Int} {tgt : Nat} (hdg : decode cc pc = .ok (.lcmp, 1)) (hdg2 : decode cc (pc + 1) = .ok (.ifCond .le off, 3)) (ht : ((pc + 1 : Nat) : Int) + off = (tgt : Int))
    (kt : x ≤ y → W p l e R s m args below meth c H locs cells slots Q (F0 m tgt ls rest)) (kf : ¬ x ≤ y → W p l e R s m args below meth c H locs cells slots Q (F0 m (pc + 1 + 3) ls rest)) : W p l e R s m args below meth c H locs cells slots Q (F0 m pc ls (.long y :: .long x :: rest)) :=
  W.lcmp hexec hb hdg (lv_if_le hexec hb hdg2 ht (fun h => kt ((lg_cmp_le x y).mp h)) (fun h => kf (fun q => h ((lg_cmp_le x y).mpr q))))
theorem lc_eq (hexec : p.tables.exec = Jvm.exec) (hb : c.code = cc) {x y : Int64} {off : Int} {tgt : Nat} (hdg : decode cc pc = .ok (.lcmp, 1)) (hdg2 : decode cc (pc + 1) = .ok (.ifCond .eq off, 3)) (ht : ((pc + 1 : Nat) : Int) + off = (tgt : Int))
    (kt : x = y → W p l e R s m args below meth c H locs cells slots Q (F0 m tgt ls rest)) (kf : ¬ x = y → W p l e R s m args below meth c H locs cells slots Q (F0 m (pc + 1 + 3) ls rest)) : W p l e R s m args below meth c H locs cells slots Q (F0 m pc ls (.long y :: .long x :: rest)) :=
  W.lcmp hexec hb hdg (lv_if_eq hexec hb hdg2 ht (fun h => kt ((lg_cmp_eq x y).mp h)) (fun h => kf (fun q => h ((lg_cmp_eq x y).mpr q))))
theorem lc_ne (hexec : p.tables.exec = Jvm.exec) (hb : c.code = cc) {x y : Int64} {off : Int} {tgt : Nat} (hdg : decode cc pc = .ok (.lcmp, 1)) (hdg2 : decode cc (pc + 1) = .ok (.ifCond .ne off, 3)) (ht : ((pc + 1 : Nat) : Int) + off = (tgt : Int))
    (kt : ¬ x = y → W p l e R s m args below meth c H locs cells slots Q (F0 m tgt ls rest)) (kf : x = y → W p l e R s m args below meth c H locs cells slots Q (F0 m (pc + 1 + 3) ls rest)) : W p l e R s m args below meth c H locs cells slots Q (F0 m pc ls (.long y :: .long x :: rest)) :=
  W.lcmp hexec hb hdg (lv_if_ne hexec hb hdg2 ht (fun h => kt (fun q => h ((lg_cmp_eq x y).mpr q))) (fun h => kf ((lg_cmp_eq x y).mp h)))
end LC
