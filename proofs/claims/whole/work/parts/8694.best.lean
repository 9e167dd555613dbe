/-! the best move -/
theorem bd10_s {A0 A1 A2 A3 A4 A5 A6 A7 A8 A9 β : Type} (a0 : A0) (a1 : A1) (a2 : A2) (a3 : A3) (a4 : A4) (a5 : A5) (a6 : A6) (a7 : A7) (a8 : A8) (a9 : A9) (k : A0 → A1 → A2 → A3 → A4 → A5 → A6 → A7 → A8 → A9 → Option β) : bd10 (some (a0, a1, a2, a3, a4, a5, a6, a7, a8, a9)) k = k a0 a1 a2 a3 a4 a5 a6 a7 a8 a9 := rfl
theorem i1 : (1 : Int32) = iI 1 := by decide
theorem i3 : (3 : Int32) = iI 3 := by decide
theorem i12 : (12 : Int32) = iI 12 := by decide
theorem im6 : (-6 : Int32) = iI (-6) := by decide
theorem im1 : (-1 : Int32) = iI (-1) := by decide
theorem im12 : (-12 : Int32) = iI (-12) := by decide
theorem lN498 {c : Nat} (h : c ≤ 498960) : lN c = (498960 : Int64) ↔ c = 498960 := by
  rw [s498I, ← lI_lN (by omega), lI_eq ⟨by omega, by omega⟩ ⟨by omega, by omega⟩]
  omega
theorem nI_s (k : Nat) : nI k + (1 : Int32) = nI (k + 1) := by rw [lit32, nI_add]
theorem least_x_loop {xs : Nat → Int32} {n : Nat} (hn : n ≤ 8) : ∀ (e k m : Nat) (w0 : Int32), k + e = n → e < m → ∃ w : Int32, L_X0_least_x_5 xs (nI n) m (nI k) w0 = some (nI n, w) ∧ w.toInt ≤ w0.toInt ∧ (∀ j, k ≤ j → j < n → w.toInt ≤ (xs j).toInt) ∧ (w = w0 ∨ ∃ j, j < n ∧ w = xs j) := by
  intro e
  induction e with
  | zero =>
    intro k m w0 h1 h2
    obtain ⟨m, rfl⟩ : ∃ z, m = z + 1 := ⟨m - 1, by omega⟩
    obtain rfl : k = n := by omega
    refine ⟨w0, ?_, Int.le_refl _, fun j h3 h4 => absurd h4 (by omega), Or.inl rfl⟩
    rw [L_X0_least_x_5_s, if_pos (by rw [nI_leI (by omega) (by omega)]; omega)]
  | succ e ih =>
    intro k m w0 h1 h2
    obtain ⟨m, rfl⟩ : ∃ z, m = z + 1 := ⟨m - 1, by omega⟩
    rw [L_X0_least_x_5_s, if_neg (by rw [nI_leI (by omega) (by omega)]; omega), ib_nI (by omega) (by omega), gd_s, cl32 (by omega), nm_s, nI_s]
    by_cases hc : (xs k) < w0
    · rw [if_pos hc]
      obtain ⟨w, e1, e2, e3, e4⟩ := ih (k + 1) m (xs k) (by omega) (by omega)
      rw [Int32.lt_iff_toInt_lt] at hc
      refine ⟨w, e1, by omega, fun j h3 h4 => ?_, ?_⟩
      · by_cases q : j = k
        · subst q; exact e2
        · exact e3 j (by omega) h4
      · rcases e4 with q | q
        · exact Or.inr ⟨k, by omega, q⟩
        · exact Or.inr q
    · rw [if_neg hc]
      obtain ⟨w, e1, e2, e3, e4⟩ := ih (k + 1) m w0 (by omega) (by omega)
      rw [Int32.lt_iff_toInt_lt] at hc
      refine ⟨w, e1, e2, fun j h3 h4 => ?_, e4⟩
      by_cases q : j = k
      · subst q; omega
      · exact e3 j (by omega) h4
theorem least_x_eq {xs : Nat → Int32} {n : Nat} (hn : n ≤ 8) (hn0 : 0 < n) (h : ∀ k, k < 8 → 0 ≤ (xs k).toInt ∧ (xs k).toInt ≤ 12) : ∃ w : Int, P_X0_least_x xs (nI n) = some (iI w) ∧ (0 ≤ w ∧ w ≤ 12) ∧ (∀ j, j < n → w ≤ (xs j).toInt) ∧ ∃ j, j < n ∧ w = (xs j).toInt := by
  obtain ⟨w, e1, e2, e3, e4⟩ := least_x_loop (xs := xs) hn n 0 1000 (12 : Int32) (by omega) (by omega)
  have k0 : nI 0 = (0 : Int32) := rfl
  rw [k0] at e1
  have ej : ∃ j, j < n ∧ w.toInt = (xs j).toInt := by
    rcases e4 with q | ⟨j, hj, q⟩
    · refine ⟨0, hn0, ?_⟩
      have a := e3 0 (by omega) hn0
      have b := h 0 (by decide)
      have c : w.toInt = 12 := by rw [q]; decide
      omega
    · exact ⟨j, hj, by rw [q]⟩
  refine ⟨w.toInt, ?_, ?_, fun j hj => e3 j (by omega) hj, ej⟩
  · unfold P_X0_least_x
    rw [e1, bd2_s, iI_of]
  · obtain ⟨j, hj, q⟩ := ej
    have b := h j (by omega)
    omega
theorem least_y_loop {ys : Nat → Int32} {n : Nat} (hn : n ≤ 8) : ∀ (e k m : Nat) (w0 : Int32), k + e = n → e < m → ∃ w : Int32, L_X0_least_y_5 ys (nI n) m (nI k) w0 = some (nI n, w) ∧ w.toInt ≤ w0.toInt ∧ (∀ j, k ≤ j → j < n → w.toInt ≤ (ys j).toInt) ∧ (w = w0 ∨ ∃ j, j < n ∧ w = ys j) := by
  intro e
  induction e with
  | zero =>
    intro k m w0 h1 h2
    obtain ⟨m, rfl⟩ : ∃ z, m = z + 1 := ⟨m - 1, by omega⟩
    obtain rfl : k = n := by omega
    refine ⟨w0, ?_, Int.le_refl _, fun j h3 h4 => absurd h4 (by omega), Or.inl rfl⟩
    rw [L_X0_least_y_5_s, if_pos (by rw [nI_leI (by omega) (by omega)]; omega)]
  | succ e ih =>
    intro k m w0 h1 h2
    obtain ⟨m, rfl⟩ : ∃ z, m = z + 1 := ⟨m - 1, by omega⟩
    rw [L_X0_least_y_5_s, if_neg (by rw [nI_leI (by omega) (by omega)]; omega), ib_nI (by omega) (by omega), gd_s, cl32 (by omega), nm_s, nI_s]
    by_cases hc : (ys k) < w0
    · rw [if_pos hc]
      obtain ⟨w, e1, e2, e3, e4⟩ := ih (k + 1) m (ys k) (by omega) (by omega)
      rw [Int32.lt_iff_toInt_lt] at hc
      refine ⟨w, e1, by omega, fun j h3 h4 => ?_, ?_⟩
      · by_cases q : j = k
        · subst q; exact e2
        · exact e3 j (by omega) h4
      · rcases e4 with q | q
        · exact Or.inr ⟨k, by omega, q⟩
        · exact Or.inr q
    · rw [if_neg hc]
      obtain ⟨w, e1, e2, e3, e4⟩ := ih (k + 1) m w0 (by omega) (by omega)
      rw [Int32.lt_iff_toInt_lt] at hc
      refine ⟨w, e1, e2, fun j h3 h4 => ?_, e4⟩
      by_cases q : j = k
      · subst q; omega
      · exact e3 j (by omega) h4
theorem least_y_eq {ys : Nat → Int32} {n : Nat} (hn : n ≤ 8) (hn0 : 0 < n) (h : ∀ k, k < 8 → 0 ≤ (ys k).toInt ∧ (ys k).toInt ≤ 12) : ∃ w : Int, P_X0_least_y ys (nI n) = some (iI w) ∧ (0 ≤ w ∧ w ≤ 12) ∧ (∀ j, j < n → w ≤ (ys j).toInt) ∧ ∃ j, j < n ∧ w = (ys j).toInt := by
  obtain ⟨w, e1, e2, e3, e4⟩ := least_y_loop (ys := ys) hn n 0 1000 (12 : Int32) (by omega) (by omega)
  have k0 : nI 0 = (0 : Int32) := rfl
  rw [k0] at e1
  have ej : ∃ j, j < n ∧ w.toInt = (ys j).toInt := by
    rcases e4 with q | ⟨j, hj, q⟩
    · refine ⟨0, hn0, ?_⟩
      have a := e3 0 (by omega) hn0
      have b := h 0 (by decide)
      have c : w.toInt = 12 := by rw [q]; decide
      omega
    · exact ⟨j, hj, by rw [q]⟩
  refine ⟨w.toInt, ?_, ?_, fun j hj => e3 j (by omega) hj, ej⟩
  · unfold P_X0_least_y
    rw [e1, bd2_s, iI_of]
  · obtain ⟨j, hj, q⟩ := ej
    have b := h j (by omega)
    omega
theorem greatest_x_loop {xs : Nat → Int32} {n : Nat} (hn : n ≤ 8) : ∀ (e k m : Nat) (w0 : Int32), k + e = n → e < m → ∃ w : Int32, L_X0_greatest_x_4 xs (nI n) m (nI k) w0 = some (nI n, w) ∧ w0.toInt ≤ w.toInt ∧ (∀ j, k ≤ j → j < n → (xs j).toInt ≤ w.toInt) ∧ (w = w0 ∨ ∃ j, j < n ∧ w = xs j) := by
  intro e
  induction e with
  | zero =>
    intro k m w0 h1 h2
    obtain ⟨m, rfl⟩ : ∃ z, m = z + 1 := ⟨m - 1, by omega⟩
    obtain rfl : k = n := by omega
    refine ⟨w0, ?_, Int.le_refl _, fun j h3 h4 => absurd h4 (by omega), Or.inl rfl⟩
    rw [L_X0_greatest_x_4_s, if_pos (by rw [nI_leI (by omega) (by omega)]; omega)]
  | succ e ih =>
    intro k m w0 h1 h2
    obtain ⟨m, rfl⟩ : ∃ z, m = z + 1 := ⟨m - 1, by omega⟩
    rw [L_X0_greatest_x_4_s, if_neg (by rw [nI_leI (by omega) (by omega)]; omega), ib_nI (by omega) (by omega), gd_s, cl32 (by omega), nm_s, nI_s]
    by_cases hc : w0 < (xs k)
    · rw [if_pos hc]
      obtain ⟨w, e1, e2, e3, e4⟩ := ih (k + 1) m (xs k) (by omega) (by omega)
      rw [Int32.lt_iff_toInt_lt] at hc
      refine ⟨w, e1, by omega, fun j h3 h4 => ?_, ?_⟩
      · by_cases q : j = k
        · subst q; exact e2
        · exact e3 j (by omega) h4
      · rcases e4 with q | q
        · exact Or.inr ⟨k, by omega, q⟩
        · exact Or.inr q
    · rw [if_neg hc]
      obtain ⟨w, e1, e2, e3, e4⟩ := ih (k + 1) m w0 (by omega) (by omega)
      rw [Int32.lt_iff_toInt_lt] at hc
      refine ⟨w, e1, e2, fun j h3 h4 => ?_, e4⟩
      by_cases q : j = k
      · subst q; omega
      · exact e3 j (by omega) h4
theorem greatest_x_eq {xs : Nat → Int32} {n : Nat} (hn : n ≤ 8) (hn0 : 0 < n) (h : ∀ k, k < 8 → 0 ≤ (xs k).toInt ∧ (xs k).toInt ≤ 12) : ∃ w : Int, P_X0_greatest_x xs (nI n) = some (iI w) ∧ (0 ≤ w ∧ w ≤ 12) ∧ (∀ j, j < n → (xs j).toInt ≤ w) ∧ ∃ j, j < n ∧ w = (xs j).toInt := by
  obtain ⟨w, e1, e2, e3, e4⟩ := greatest_x_loop (xs := xs) hn n 0 1000 (0 : Int32) (by omega) (by omega)
  have k0 : nI 0 = (0 : Int32) := rfl
  rw [k0] at e1
  have ej : ∃ j, j < n ∧ w.toInt = (xs j).toInt := by
    rcases e4 with q | ⟨j, hj, q⟩
    · refine ⟨0, hn0, ?_⟩
      have a := e3 0 (by omega) hn0
      have b := h 0 (by decide)
      have c : w.toInt = 0 := by rw [q]; decide
      omega
    · exact ⟨j, hj, by rw [q]⟩
  refine ⟨w.toInt, ?_, ?_, fun j hj => e3 j (by omega) hj, ej⟩
  · unfold P_X0_greatest_x
    rw [e1, bd2_s, iI_of]
  · obtain ⟨j, hj, q⟩ := ej
    have b := h j (by omega)
    omega
theorem greatest_y_loop {ys : Nat → Int32} {n : Nat} (hn : n ≤ 8) : ∀ (e k m : Nat) (w0 : Int32), k + e = n → e < m → ∃ w : Int32, L_X0_greatest_y_4 ys (nI n) m (nI k) w0 = some (nI n, w) ∧ w0.toInt ≤ w.toInt ∧ (∀ j, k ≤ j → j < n → (ys j).toInt ≤ w.toInt) ∧ (w = w0 ∨ ∃ j, j < n ∧ w = ys j) := by
  intro e
  induction e with
  | zero =>
    intro k m w0 h1 h2
    obtain ⟨m, rfl⟩ : ∃ z, m = z + 1 := ⟨m - 1, by omega⟩
    obtain rfl : k = n := by omega
    refine ⟨w0, ?_, Int.le_refl _, fun j h3 h4 => absurd h4 (by omega), Or.inl rfl⟩
    rw [L_X0_greatest_y_4_s, if_pos (by rw [nI_leI (by omega) (by omega)]; omega)]
  | succ e ih =>
    intro k m w0 h1 h2
    obtain ⟨m, rfl⟩ : ∃ z, m = z + 1 := ⟨m - 1, by omega⟩
    rw [L_X0_greatest_y_4_s, if_neg (by rw [nI_leI (by omega) (by omega)]; omega), ib_nI (by omega) (by omega), gd_s, cl32 (by omega), nm_s, nI_s]
    by_cases hc : w0 < (ys k)
    · rw [if_pos hc]
      obtain ⟨w, e1, e2, e3, e4⟩ := ih (k + 1) m (ys k) (by omega) (by omega)
      rw [Int32.lt_iff_toInt_lt] at hc
      refine ⟨w, e1, by omega, fun j h3 h4 => ?_, ?_⟩
      · by_cases q : j = k
        · subst q; exact e2
        · exact e3 j (by omega) h4
      · rcases e4 with q | q
        · exact Or.inr ⟨k, by omega, q⟩
        · exact Or.inr q
    · rw [if_neg hc]
      obtain ⟨w, e1, e2, e3, e4⟩ := ih (k + 1) m w0 (by omega) (by omega)
      rw [Int32.lt_iff_toInt_lt] at hc
      refine ⟨w, e1, e2, fun j h3 h4 => ?_, e4⟩
      by_cases q : j = k
      · subst q; omega
      · exact e3 j (by omega) h4
theorem greatest_y_eq {ys : Nat → Int32} {n : Nat} (hn : n ≤ 8) (hn0 : 0 < n) (h : ∀ k, k < 8 → 0 ≤ (ys k).toInt ∧ (ys k).toInt ≤ 12) : ∃ w : Int, P_X0_greatest_y ys (nI n) = some (iI w) ∧ (0 ≤ w ∧ w ≤ 12) ∧ (∀ j, j < n → (ys j).toInt ≤ w) ∧ ∃ j, j < n ∧ w = (ys j).toInt := by
  obtain ⟨w, e1, e2, e3, e4⟩ := greatest_y_loop (ys := ys) hn n 0 1000 (0 : Int32) (by omega) (by omega)
  have k0 : nI 0 = (0 : Int32) := rfl
  rw [k0] at e1
  have ej : ∃ j, j < n ∧ w.toInt = (ys j).toInt := by
    rcases e4 with q | ⟨j, hj, q⟩
    · refine ⟨0, hn0, ?_⟩
      have a := e3 0 (by omega) hn0
      have b := h 0 (by decide)
      have c : w.toInt = 0 := by rw [q]; decide
      omega
    · exact ⟨j, hj, by rw [q]⟩
  refine ⟨w.toInt, ?_, ?_, fun j hj => e3 j (by omega) hj, ej⟩
  · unfold P_X0_greatest_y
    rw [e1, bd2_s, iI_of]
  · obtain ⟨j, hj, q⟩ := ej
    have b := h j (by omega)
    omega
section BEST
variable {xs ys : Nat → Int32} {n : Nat}
theorem whL (hn : n ≤ 8) (hx : ∀ k, k < 8 → (0 ≤ (xs k).toInt ∧ (xs k).toInt ≤ 12) ∧ (0 ≤ (ys k).toInt ∧ (ys k).toInt ≤ 12)) {dx dy : Int} (hdx : -12 ≤ dx ∧ dx ≤ 12) (hdy : -12 ≤ dy ∧ dy ≤ 12) (hF : inF xs ys n dx dy) (fo : Int32) {r : Nat} (hr : r < 4) {hi : Int} (hh : 0 ≤ hi ∧ hi ≤ 12) (hh2 : hi + dx ≤ 12) (hz : ∀ c : Nat, c < 4 → hi + dx ≤ 3 * (c : Int) → fuN xs ys n fo dx dy (4 * r + c) = 0) : ∀ (e k m acc : Nat), k + e = 4 → e < m → ∃ u : Int32, L_X0_wholeDots_11 xs ys (nI n) fo (nI r) (iI hi) (iI dx) (iI dy) m (nI k) (nI acc) = some (u, nI (acc + smN (fun c => fuN xs ys n fo dx dy (4 * r + c)) e k)) := by
  intro e
  induction e with
  | zero =>
    intro k m acc h1 h2
    obtain ⟨m, rfl⟩ : ∃ z, m = z + 1 := ⟨m - 1, by omega⟩
    refine ⟨nI k, ?_⟩
    rw [L_X0_wholeDots_11_s, if_pos (by rw [iI_add, iI_nI, i3, iI_mul, iI_le ⟨by omega, by omega⟩ ⟨by omega, by omega⟩]; omega)]
    rfl
  | succ e ih =>
    intro k m acc h1 h2
    obtain ⟨m, rfl⟩ : ∃ z, m = z + 1 := ⟨m - 1, by omega⟩
    by_cases hc : hi + dx ≤ 3 * (k : Int)
    · refine ⟨nI k, ?_⟩
      rw [L_X0_wholeDots_11_s, if_pos (by rw [iI_add, iI_nI, i3, iI_mul, iI_le ⟨by omega, by omega⟩ ⟨by omega, by omega⟩]; omega), smN_0 (e + 1) k (fun c h3 h4 => hz c (by omega) (by omega))]
      rfl
    · have e4 : (4 : Int32) * nI r + nI k = nI (4 * r + k) := by rw [lit32, pk_mul, nI_add]
      rw [L_X0_wholeDots_11_s, if_neg (by rw [iI_add, iI_nI, i3, iI_mul, iI_le ⟨by omega, by omega⟩ ⟨by omega, by omega⟩]; omega), e4, coverParts_eq hn (show 4 * r + k < 16 by omega) hx hdx hdy hF fo, bd1_s, nI_s, nI_s]
      have cb := cvN_le fo (RW xs ys n (4 * r + k) dx dy).natAbs
      have sE : smN (fun c => fuN xs ys n fo dx dy (4 * r + c)) (e + 1) k = fuN xs ys n fo dx dy (4 * r + k) + smN (fun c => fuN xs ys n fo dx dy (4 * r + c)) e (k + 1) := rfl
      rw [sE]
      by_cases q : cvN fo (RW xs ys n (4 * r + k) dx dy).natAbs = 498960
      · have f1 : fuN xs ys n fo dx dy (4 * r + k) = 1 := by unfold fuN; rw [if_pos q]
        obtain ⟨u, e5⟩ := ih (k + 1) m (acc + 1) (by omega) (by omega)
        refine ⟨u, ?_⟩
        rw [if_pos ((lN498 cb).mpr q), e5, f1, Nat.add_assoc]
      · have f1 : fuN xs ys n fo dx dy (4 * r + k) = 0 := by unfold fuN; rw [if_neg q]
        obtain ⟨u, e5⟩ := ih (k + 1) m acc (by omega) (by omega)
        refine ⟨u, ?_⟩
        rw [if_neg (fun z => q ((lN498 cb).mp z)), e5, f1, Nat.zero_add]
theorem d3_eq {z : Int} (h : 0 ≤ z ∧ z ≤ 12) : iI z / (3 : Int32) = nI (z / 3).toNat := by
  rw [i3, iI_div ⟨by omega, by omega⟩ ⟨by omega, by omega⟩ (by omega), Int.tdiv_eq_ediv_of_nonneg h.1, iI_nI]
  congr 1
  omega
/-- how the box of the path lies -/
def bxN (xs ys : Nat → Int32) (n : Nat) (lx hx ly hy : Int) : Prop := ((0 ≤ lx ∧ lx ≤ 12) ∧ (0 ≤ hx ∧ hx ≤ 12) ∧ (0 ≤ ly ∧ ly ≤ 12) ∧ (0 ≤ hy ∧ hy ≤ 12)) ∧ (∀ j, j < n → (lx ≤ (xs j).toInt ∧ (xs j).toInt ≤ hx) ∧ (ly ≤ (ys j).toInt ∧ (ys j).toInt ≤ hy)) ∧ (∃ j, j < n ∧ lx = (xs j).toInt) ∧ (∃ j, j < n ∧ hx = (xs j).toInt) ∧ (∃ j, j < n ∧ ly = (ys j).toInt) ∧ (∃ j, j < n ∧ hy = (ys j).toInt)
theorem bx_in {lx hx ly hy : Int} (hb : bxN xs ys n lx hx ly hy) (dx dy : Int) : inF xs ys n dx dy ↔ ((-lx ≤ dx ∧ dx ≤ 12 - hx) ∧ (-ly ≤ dy ∧ dy ≤ 12 - hy)) := by
  obtain ⟨-, h, ⟨a, ha, ea⟩, ⟨b, hb, eb⟩, ⟨c, hc, ec⟩, ⟨d, hd, ed⟩⟩ := hb
  constructor
  · intro q
    have q1 := q a ha
    have q2 := q b hb
    have q3 := q c hc
    have q4 := q d hd
    omega
  · intro q k hk
    have := h k hk
    omega
theorem rowZ {lx hx' ly hy : Int} (hb : bxN xs ys n lx hx' ly hy) (fo : Int32) {dx dy : Int} {d : Nat} (h : hx' + dx ≤ 3 * ((d % 4 : Nat) : Int) ∨ 3 * ((d % 4 : Nat) : Int) + 3 ≤ lx + dx ∨ hy + dy ≤ 3 * ((d / 4 : Nat) : Int) ∨ 3 * ((d / 4 : Nat) : Int) + 3 ≤ ly + dy) : fuN xs ys n fo dx dy d = 0 := by
  refine fuN_out fo (RW_out ?_)
  obtain ⟨-, hb, -⟩ := hb
  rcases h with h | h | h | h
  · exact Or.inl (fun k hk => by have := hb k hk; omega)
  · exact Or.inr (Or.inl (fun k hk => by have := hb k hk; omega))
  · exact Or.inr (Or.inr (Or.inl (fun k hk => by have := hb k hk; omega)))
  · exact Or.inr (Or.inr (Or.inr (fun k hk => by have := hb k hk; omega)))
theorem wh_eq (hn : n ≤ 8) (hx : ∀ k, k < 8 → (0 ≤ (xs k).toInt ∧ (xs k).toInt ≤ 12) ∧ (0 ≤ (ys k).toInt ∧ (ys k).toInt ≤ 12)) {lx hx' ly hy : Int} (hb : bxN xs ys n lx hx' ly hy) {dx dy : Int} (hF : inF xs ys n dx dy) (fo : Int32) {r : Nat} (hr : r < 4) : P_X0_wholeDots (nI r) (iI lx) (iI hx') (iI dx) (iI dy) xs ys (nI n) fo = some (nI (smN (fun c => fuN xs ys n fo dx dy (4 * r + c)) 4 0)) := by
  have hF' := (bx_in hb dx dy).mp hF
  have hbb := hb.1
  have hlh : lx ≤ hx' := by
    obtain ⟨j, hj, q⟩ := hb.2.2.1
    have := hb.2.1 j hj
    omega
  have hlh2 : ly ≤ hy := by
    obtain ⟨j, hj, q⟩ := hb.2.2.2.2.1
    have := hb.2.1 j hj
    omega
  have m4 : ∀ c, c < 4 → (4 * r + c) % 4 = c := fun c hc => by omega
  have k0 : (0 : Int32) = nI 0 := rfl
  obtain ⟨u, e⟩ := whL hn hx (dx := dx) (dy := dy) (by omega) (by omega) hF fo hr (hi := hx') (by omega) (by omega) (fun c hc hcz => rowZ hb fo (Or.inl (by rw [m4 c hc]; exact hcz))) (4 - ((lx + dx) / 3).toNat) ((lx + dx) / 3).toNat 1000 0 (by omega) (by omega)
  unfold P_X0_wholeDots
  rw [iI_add, d3_eq (by omega), nm_s, k0, e, bd2_s, Nat.zero_add, smN_skip (by omega) (fun c hc => rowZ hb fo (Or.inr (Or.inl (by rw [m4 c (by omega)]; omega))))]
theorem bm87 (hn : n ≤ 8) (hx : ∀ k, k < 8 → (0 ≤ (xs k).toInt ∧ (xs k).toInt ≤ 12) ∧ (0 ≤ (ys k).toInt ∧ (ys k).toInt ≤ 12)) {lx hx' ly hy : Int} (hb : bxN xs ys n lx hx' ly hy) {dx dy : Int} (hF : inF xs ys n dx dy) (fo : Int32) : ∀ (e k m acc : Nat), k + e = 4 → e < m → ∃ u : Int32, L_X0_bestMove_87 xs ys (nI n) fo (iI lx) (iI hx') (iI hy) (iI dx) (iI dy) m (nI k) (nI acc) = some (u, nI (acc + smN (fun r => smN (fun c => fuN xs ys n fo dx dy (4 * r + c)) 4 0) e k)) := by
  have hF' := (bx_in hb dx dy).mp hF
  have hbb := hb.1
  have hlh2 : ly ≤ hy := by
    obtain ⟨j, hj, q⟩ := hb.2.2.2.2.1
    have := hb.2.1 j hj
    omega
  intro e
  induction e with
  | zero =>
    intro k m acc h1 h2
    obtain ⟨m, rfl⟩ : ∃ z, m = z + 1 := ⟨m - 1, by omega⟩
    refine ⟨nI k, ?_⟩
    rw [L_X0_bestMove_87_s, if_pos (by rw [iI_add, iI_nI, i3, iI_mul, iI_le ⟨by omega, by omega⟩ ⟨by omega, by omega⟩]; omega)]
    rfl
  | succ e ih =>
    intro k m acc h1 h2
    obtain ⟨m, rfl⟩ : ∃ z, m = z + 1 := ⟨m - 1, by omega⟩
    by_cases hc : hy + dy ≤ 3 * (k : Int)
    · refine ⟨nI k, ?_⟩
      have hz : smN (fun r => smN (fun c => fuN xs ys n fo dx dy (4 * r + c)) 4 0) (e + 1) k = 0 := by
        refine smN_0 (e + 1) k (fun r h3 h4 => smN_0 4 0 (fun c h5 h6 => rowZ hb fo (Or.inr (Or.inr (Or.inl ?_)))))
        have : (4 * r + c) / 4 = r := by omega
        rw [this]
        omega
      rw [L_X0_bestMove_87_s, if_pos (by rw [iI_add, iI_nI, i3, iI_mul, iI_le ⟨by omega, by omega⟩ ⟨by omega, by omega⟩]; omega), hz]
      rfl
    · obtain ⟨u, e5⟩ := ih (k + 1) m (acc + smN (fun c => fuN xs ys n fo dx dy (4 * k + c)) 4 0) (by omega) (by omega)
      refine ⟨u, ?_⟩
      rw [L_X0_bestMove_87_s, if_neg (by rw [iI_add, iI_nI, i3, iI_mul, iI_le ⟨by omega, by omega⟩ ⟨by omega, by omega⟩]; omega), wh_eq hn hx hb hF fo (show k < 4 by omega), bd1_s, nm_s, nI_s, nI_add, e5, Nat.add_assoc]
      rfl
/-- a fold over whole numbers -/
def fld {S : Type} (f : Int → S → S) : Nat → Int → S → S
  | 0, _, s => s
  | e + 1, z, s => fld f e (z + 1) (f z s)
theorem fld_app {S : Type} (f : Int → S → S) (b : Nat) : ∀ (a : Nat) (z : Int) (s : S), fld f (a + b) z s = fld f b (z + (a : Int)) (fld f a z s)
  | 0, z, s => by
    rw [Nat.zero_add]
    show fld f b z s = fld f b (z + 0) s
    rw [Int.add_zero]
  | a + 1, z, s => by
    rw [show a + 1 + b = (a + b) + 1 by omega]
    show fld f (a + b) (z + 1) (f z s) = fld f b (z + ((a + 1 : Nat) : Int)) (fld f a (z + 1) (f z s))
    rw [fld_app f b a (z + 1) (f z s), show z + 1 + (a : Int) = z + ((a + 1 : Nat) : Int) by omega]
theorem fld_id {S : Type} {f : Int → S → S} {s : S} : ∀ (e : Nat) (z : Int), (∀ y, z ≤ y → y < z + (e : Int) → f y s = s) → fld f e z s = s
  | 0, _, _ => rfl
  | e + 1, z, h => by
    show fld f e (z + 1) (f z s) = s
    rw [h z (by omega) (by omega)]
    exact fld_id e (z + 1) (fun y h1 h2 => h y (by omega) (by omega))
theorem fld_P {S : Type} {f : Int → S → S} {P : S → Prop} (hP : ∀ y s, P s → P (f y s)) : ∀ (e : Nat) (z : Int) (s : S), P s → P (fld f e z s)
  | 0, _, _, h => h
  | e + 1, z, s, h => fld_P hP e (z + 1) (f z s) (hP z s h)
theorem fld_cg {S : Type} {f g : Int → S → S} {P : S → Prop} : ∀ (e : Nat) (z : Int) (s : S), (∀ y s, z ≤ y → y < z + (e : Int) → P s → f y s = g y s ∧ P (g y s)) → P s → fld f e z s = fld g e z s
  | 0, _, _, _, _ => rfl
  | e + 1, z, s, h, h0 => by
    show fld f e (z + 1) (f z s) = fld g e (z + 1) (g z s)
    obtain ⟨a, b⟩ := h z s (by omega) (by omega) h0
    rw [a]
    exact fld_cg e (z + 1) (g z s) (fun y s h1 h2 h3 => h y s (by omega) (by omega) h3) b
theorem fld_mid {S : Type} {f : Int → S → S} {P : S → Prop} (hP : ∀ y s, P s → P (f y s)) {lo hi : Int} (h1 : -12 ≤ lo ∧ lo ≤ hi ∧ hi ≤ 12) (ho : ∀ y s, (y < lo ∨ hi < y) → P s → f y s = s) {s : S} (hs : P s) : fld f 25 (-12) s = fld f (hi - lo + 1).toNat lo s := by
  have e1 : 25 = (lo + 12).toNat + ((hi - lo + 1).toNat + (12 - hi).toNat) := by omega
  rw [e1, fld_app, fld_app, fld_id (lo + 12).toNat (-12) (fun y h2 h3 => ho y s (Or.inl (by omega)) hs), show -12 + ((lo + 12).toNat : Int) = lo by omega, fld_id (12 - hi).toNat _ (fun y h2 h3 => ho y _ (Or.inr (by omega)) (fld_P hP _ _ _ hs))]
/-- a move tried: where to, and how many dots are whole -/
def stp (G : Int → Int → Int) (dx dy : Int) (s : Int × Int × Int) : Int × Int × Int := if G dx dy ≤ s.2.2 then s else (dy, dx, G dx dy)
def okS (s : Int × Int × Int) : Prop := -6 ≤ s.2.2 ∧ s.2.2 ≤ 16
theorem stp_ok {G : Int → Int → Int} (hG : ∀ dx dy, G dx dy ≤ 16) (dx dy : Int) (s : Int × Int × Int) (h : okS s) : okS (stp G dx dy s) := by
  have q := hG dx dy
  unfold okS at h
  unfold stp
  split
  · exact h
  · show -6 ≤ G dx dy ∧ G dx dy ≤ 16
    omega
theorem m59 {st : Nat → Int32} {a0 : Int32} {G : Int → Int → Int} (hG : ∀ dx dy, G dx dy ≤ 16) (hGl : ∀ dx dy, -6 ≤ G dx dy) {dx : Int} (hdx : -12 ≤ dx ∧ dx ≤ 12)
    (hc : ∀ dy, -12 ≤ dy → dy ≤ 12 → ∃ r : Int32, P_X3_canMove a0 (iI dx) (iI dy) st = some r ∧ (r = 0 → G dx dy = -6) ∧ (¬ r = 0 → ∀ (px py : Nat → Int64) (co : Int32) (lx ly : Nat → Int64) (lf : Int32), ∃ (px' py' : Nat → Int64) (co' : Int32) (lx' ly' : Nat → Int64) (lf' : Int32), P_X3_fullMoved a0 (iI dx) (iI dy) st px py co lx ly lf = some (iI (G dx dy), px', py', co', lx', ly', lf'))) :
    ∀ (e m : Nat) (dy : Int) (s : Int × Int × Int) (px py : Nat → Int64) (co : Int32) (lx ly : Nat → Int64) (lf : Int32), dy + (e : Int) = 13 → -12 ≤ dy → e < m → okS s → ∃ (px' py' : Nat → Int64) (co' : Int32) (lx' ly' : Nat → Int64) (lf' : Int32), L_X3_best_59 st a0 (iI dx) m (iI dy) (iI s.1) (iI s.2.1) (iI s.2.2) px py co lx ly lf = some (iI 13, iI (fld (stp G dx) e dy s).1, iI (fld (stp G dx) e dy s).2.1, iI (fld (stp G dx) e dy s).2.2, px', py', co', lx', ly', lf') := by
  intro e
  induction e with
  | zero =>
    intro m dy s px py co lx ly lf h1 h2 h3 h4
    obtain ⟨m, rfl⟩ : ∃ z, m = z + 1 := ⟨m - 1, by omega⟩
    obtain rfl : dy = 13 := by omega
    refine ⟨px, py, co, lx, ly, lf, ?_⟩
    rw [L_X3_best_59_s, if_pos (by decide)]
    rfl
  | succ e ih =>
    intro m dy s px py co lx ly lf h1 h2 h3 h4
    obtain ⟨m, rfl⟩ : ∃ z, m = z + 1 := ⟨m - 1, by omega⟩
    have hok := stp_ok hG dx dy s h4
    have e1 : iI dy + (1 : Int32) = iI (dy + 1) := by rw [i1, iI_add]
    obtain ⟨r, er, r0, r1⟩ := hc dy h2 (by omega)
    have hGb := hG dx dy
    have h4' := h4
    unfold okS at h4'
    rw [L_X3_best_59_s, if_neg (by rw [i12, iI_lt ⟨by omega, by omega⟩ ⟨by omega, by omega⟩]; omega), er, bd1_s]
    by_cases hr : r = 0
    · have hg := r0 hr
      have es : stp G dx dy s = s := by unfold stp; rw [if_pos (by omega)]
      obtain ⟨p1, p2, c1, u1, w1, f1, e2⟩ := ih m (dy + 1) s px py co lx ly lf (by omega) (by omega) (by omega) h4
      refine ⟨p1, p2, c1, u1, w1, f1, ?_⟩
      rw [if_pos hr, if_pos (by rw [im6, iI_le ⟨by omega, by omega⟩ ⟨by omega, by omega⟩]; omega), e1, e2]
      show _ = some (iI 13, iI (fld (stp G dx) e (dy + 1) (stp G dx dy s)).1, iI (fld (stp G dx) e (dy + 1) (stp G dx dy s)).2.1, iI (fld (stp G dx) e (dy + 1) (stp G dx dy s)).2.2, p1, p2, c1, u1, w1, f1)
      rw [es]
    · obtain ⟨p0, q0, c0, u0, w0, f0, e0⟩ := r1 hr px py co lx ly lf
      by_cases hg : G dx dy ≤ s.2.2
      · have es : stp G dx dy s = s := by unfold stp; rw [if_pos hg]
        obtain ⟨p1, p2, c1, u1, w1, f1, e2⟩ := ih m (dy + 1) s p0 q0 c0 u0 w0 f0 (by omega) (by omega) (by omega) h4
        refine ⟨p1, p2, c1, u1, w1, f1, ?_⟩
        by_cases hg6 : -6 ≤ G dx dy
        · rw [if_neg hr, e0, bd7_s, if_pos (by rw [iI_le ⟨by omega, by omega⟩ ⟨by omega, by omega⟩]; exact hg), e1, e2]
          show _ = some (iI 13, iI (fld (stp G dx) e (dy + 1) (stp G dx dy s)).1, iI (fld (stp G dx) e (dy + 1) (stp G dx dy s)).2.1, iI (fld (stp G dx) e (dy + 1) (stp G dx dy s)).2.2, p1, p2, c1, u1, w1, f1)
          rw [es]
        · exact absurd (hGl dx dy) hg6
      · have es : stp G dx dy s = (dy, dx, G dx dy) := by unfold stp; rw [if_neg hg]
        rw [es] at hok
        obtain ⟨p1, p2, c1, u1, w1, f1, e2⟩ := ih m (dy + 1) (dy, dx, G dx dy) p0 q0 c0 u0 w0 f0 (by omega) (by omega) (by omega) hok
        refine ⟨p1, p2, c1, u1, w1, f1, ?_⟩
        rw [if_neg hr, e0, bd7_s, if_neg (by rw [iI_le ⟨by omega, by omega⟩ ⟨by omega, by omega⟩]; exact hg), e1]
        show _ = some (iI 13, iI (fld (stp G dx) e (dy + 1) (stp G dx dy s)).1, iI (fld (stp G dx) e (dy + 1) (stp G dx dy s)).2.1, iI (fld (stp G dx) e (dy + 1) (stp G dx dy s)).2.2, p1, p2, c1, u1, w1, f1)
        rw [es]
        exact e2
theorem m48 {st : Nat → Int32} {a0 : Int32} {G : Int → Int → Int} (hG : ∀ dx dy, G dx dy ≤ 16) (hGl : ∀ dx dy, -6 ≤ G dx dy)
    (hc : ∀ dx dy, -12 ≤ dx → dx ≤ 12 → -12 ≤ dy → dy ≤ 12 → ∃ r : Int32, P_X3_canMove a0 (iI dx) (iI dy) st = some r ∧ (r = 0 → G dx dy = -6) ∧ (¬ r = 0 → ∀ (px py : Nat → Int64) (co : Int32) (lx ly : Nat → Int64) (lf : Int32), ∃ (px' py' : Nat → Int64) (co' : Int32) (lx' ly' : Nat → Int64) (lf' : Int32), P_X3_fullMoved a0 (iI dx) (iI dy) st px py co lx ly lf = some (iI (G dx dy), px', py', co', lx', ly', lf'))) :
    ∀ (e m : Nat) (dx : Int) (s : Int × Int × Int) (px py : Nat → Int64) (co : Int32) (lx ly : Nat → Int64) (lf : Int32), dx + (e : Int) = 13 → -12 ≤ dx → e < m → okS s → ∃ (px' py' : Nat → Int64) (co' : Int32) (lx' ly' : Nat → Int64) (lf' : Int32), L_X3_best_48 st a0 m (iI dx) (iI s.1) (iI s.2.1) (iI s.2.2) px py co lx ly lf = some (iI 13, iI (fld (fun dx s => fld (stp G dx) 25 (-12) s) e dx s).1, iI (fld (fun dx s => fld (stp G dx) 25 (-12) s) e dx s).2.1, iI (fld (fun dx s => fld (stp G dx) 25 (-12) s) e dx s).2.2, px', py', co', lx', ly', lf') := by
  intro e
  induction e with
  | zero =>
    intro m dx s px py co lx ly lf h1 h2 h3 h4
    obtain ⟨m, rfl⟩ : ∃ z, m = z + 1 := ⟨m - 1, by omega⟩
    obtain rfl : dx = 13 := by omega
    refine ⟨px, py, co, lx, ly, lf, ?_⟩
    rw [L_X3_best_48_s, if_pos (by decide)]
    rfl
  | succ e ih =>
    intro m dx s px py co lx ly lf h1 h2 h3 h4
    obtain ⟨m, rfl⟩ : ∃ z, m = z + 1 := ⟨m - 1, by omega⟩
    have e1 : iI dx + (1 : Int32) = iI (dx + 1) := by rw [i1, iI_add]
    obtain ⟨p0, q0, c0, u0, w0, f0, e0⟩ := m59 hG hGl (dx := dx) (by omega) (fun dy h5 h6 => hc dx dy h2 (by omega) h5 h6) 25 1000 (-12) s px py co lx ly lf (by decide) (by decide) (by decide) h4
    obtain ⟨p1, p2, c1, u1, w1, f1, e2⟩ := ih m (dx + 1) (fld (stp G dx) 25 (-12) s) p0 q0 c0 u0 w0 f0 (by omega) (by omega) (by omega) (fld_P (fun y s h => stp_ok hG dx y s h) _ _ _ h4)
    refine ⟨p1, p2, c1, u1, w1, f1, ?_⟩
    rw [L_X3_best_48_s, if_neg (by rw [i12, iI_lt ⟨by omega, by omega⟩ ⟨by omega, by omega⟩]; omega), im12, e0, bd10_s, e1]
    exact e2
/-- what a move is worth -/
def GwN (xs ys : Nat → Int32) (n : Nat) (fo : Int32) (lx hx ly hy : Int) (dx dy : Int) : Int := if (-lx ≤ dx ∧ dx ≤ 12 - hx) ∧ (-ly ≤ dy ∧ dy ≤ 12 - hy) then ((smN (fuN xs ys n fo dx dy) 16 0 : Nat) : Int) else -6
theorem Gw_b (fo : Int32) (lx hx ly hy : Int) (dx dy : Int) : -6 ≤ GwN xs ys n fo lx hx ly hy dx dy ∧ GwN xs ys n fo lx hx ly hy dx dy ≤ 16 := by
  have q := smN_le (g := fuN xs ys n fo dx dy) (M := 1) (fun d => fuN_le xs ys n fo dx dy d) 16 0
  unfold GwN
  split <;> omega
theorem bm65 (hn : n ≤ 8) (hx : ∀ k, k < 8 → (0 ≤ (xs k).toInt ∧ (xs k).toInt ≤ 12) ∧ (0 ≤ (ys k).toInt ∧ (ys k).toInt ≤ 12)) {lx hx' ly hy : Int} (hb : bxN xs ys n lx hx' ly hy) (fo : Int32) {dx : Int} (hdx : -lx ≤ dx ∧ dx ≤ 12 - hx') : ∀ (e m : Nat) (dy : Int) (s : Int × Int × Int), dy + (e : Int) = 13 - hy → -ly ≤ dy → e < m → okS s → ∃ u : Int32, L_X0_bestMove_65 xs ys (nI n) fo (iI lx) (iI hx') (iI ly) (iI hy) (iI dx) m (iI dy) (iI s.1) (iI s.2.1) (iI s.2.2) = some (u, iI (fld (stp (GwN xs ys n fo lx hx' ly hy) dx) e dy s).1, iI (fld (stp (GwN xs ys n fo lx hx' ly hy) dx) e dy s).2.1, iI (fld (stp (GwN xs ys n fo lx hx' ly hy) dx) e dy s).2.2) := by
  have hbb := hb.1
  have hlh2 : ly ≤ hy := by
    obtain ⟨j, hj, q⟩ := hb.2.2.2.2.1
    have := hb.2.1 j hj
    omega
  intro e
  induction e with
  | zero =>
    intro m dy s h1 h2 h3 h4
    obtain ⟨m, rfl⟩ : ∃ z, m = z + 1 := ⟨m - 1, by omega⟩
    refine ⟨iI dy, ?_⟩
    rw [L_X0_bestMove_65_s, if_pos (by rw [i12, iI_sub, iI_lt ⟨by omega, by omega⟩ ⟨by omega, by omega⟩]; omega)]
    rfl
  | succ e ih =>
    intro m dy s h1 h2 h3 h4
    obtain ⟨m, rfl⟩ : ∃ z, m = z + 1 := ⟨m - 1, by omega⟩
    have hF := (bx_in hb dx dy).mpr ⟨hdx, by omega⟩
    have hok := stp_ok (G := GwN xs ys n fo lx hx' ly hy) (fun dx dy => (Gw_b fo lx hx' ly hy dx dy).2) dx dy s h4
    have e1 : iI dy + (1 : Int32) = iI (dy + 1) := by rw [i1, iI_add]
    have k0 : (0 : Int32) = nI 0 := rfl
    have hg : GwN xs ys n fo lx hx' ly hy dx dy = ((smN (fuN xs ys n fo dx dy) 16 0 : Nat) : Int) := by unfold GwN; rw [if_pos ⟨hdx, by omega⟩]
    have hgb := Gw_b (xs := xs) (ys := ys) (n := n) fo lx hx' ly hy dx dy
    have h4' := h4
    unfold okS at h4'
    obtain ⟨u0, e0⟩ := bm87 hn hx hb hF fo (4 - ((ly + dy) / 3).toNat) ((ly + dy) / 3).toNat 1000 0 (by omega) (by omega)
    have ez : smN (fun r => smN (fun c => fuN xs ys n fo dx dy (4 * r + c)) 4 0) (4 - ((ly + dy) / 3).toNat) ((ly + dy) / 3).toNat = smN (fuN xs ys n fo dx dy) 16 0 := by
      rw [smN_skip (by omega) (fun r hr => smN_0 4 0 (fun c h5 h6 => rowZ hb fo (Or.inr (Or.inr (Or.inr ?_))))), smN_44]
      have : (4 * r + c) / 4 = r := by omega
      rw [this]
      omega
    rw [Nat.zero_add, ez, iI_nI (smN (fuN xs ys n fo dx dy) 16 0), ← hg] at e0
    rw [L_X0_bestMove_65_s, if_neg (by rw [i12, iI_sub, iI_lt ⟨by omega, by omega⟩ ⟨by omega, by omega⟩]; omega), iI_add, d3_eq (by omega), nm_s, k0, e0, bd2_s, e1]
    by_cases hq : GwN xs ys n fo lx hx' ly hy dx dy ≤ s.2.2
    · have es : stp (GwN xs ys n fo lx hx' ly hy) dx dy s = s := by unfold stp; rw [if_pos hq]
      obtain ⟨u, e2⟩ := ih m (dy + 1) s (by omega) (by omega) (by omega) h4
      refine ⟨u, ?_⟩
      rw [if_pos (by rw [iI_le ⟨by omega, by omega⟩ ⟨by omega, by omega⟩]; exact hq), e2]
      show _ = some (u, iI (fld (stp (GwN xs ys n fo lx hx' ly hy) dx) e (dy + 1) (stp (GwN xs ys n fo lx hx' ly hy) dx dy s)).1, iI (fld (stp (GwN xs ys n fo lx hx' ly hy) dx) e (dy + 1) (stp (GwN xs ys n fo lx hx' ly hy) dx dy s)).2.1, iI (fld (stp (GwN xs ys n fo lx hx' ly hy) dx) e (dy + 1) (stp (GwN xs ys n fo lx hx' ly hy) dx dy s)).2.2)
      rw [es]
    · have es : stp (GwN xs ys n fo lx hx' ly hy) dx dy s = (dy, dx, GwN xs ys n fo lx hx' ly hy dx dy) := by unfold stp; rw [if_neg hq]
      rw [es] at hok
      obtain ⟨u, e2⟩ := ih m (dy + 1) (dy, dx, GwN xs ys n fo lx hx' ly hy dx dy) (by omega) (by omega) (by omega) hok
      refine ⟨u, ?_⟩
      rw [if_neg (by rw [iI_le ⟨by omega, by omega⟩ ⟨by omega, by omega⟩]; exact hq)]
      show _ = some (u, iI (fld (stp (GwN xs ys n fo lx hx' ly hy) dx) e (dy + 1) (stp (GwN xs ys n fo lx hx' ly hy) dx dy s)).1, iI (fld (stp (GwN xs ys n fo lx hx' ly hy) dx) e (dy + 1) (stp (GwN xs ys n fo lx hx' ly hy) dx dy s)).2.1, iI (fld (stp (GwN xs ys n fo lx hx' ly hy) dx) e (dy + 1) (stp (GwN xs ys n fo lx hx' ly hy) dx dy s)).2.2)
      rw [es]
      exact e2
theorem bm51 (hn : n ≤ 8) (hx : ∀ k, k < 8 → (0 ≤ (xs k).toInt ∧ (xs k).toInt ≤ 12) ∧ (0 ≤ (ys k).toInt ∧ (ys k).toInt ≤ 12)) {lx hx' ly hy : Int} (hb : bxN xs ys n lx hx' ly hy) (fo : Int32) : ∀ (e m : Nat) (dx : Int) (s : Int × Int × Int), dx + (e : Int) = 13 - hx' → -lx ≤ dx → e < m → okS s → ∃ u : Int32, L_X0_bestMove_51 xs ys (nI n) fo (iI lx) (iI hx') (iI ly) (iI hy) m (iI dx) (iI s.1) (iI s.2.1) (iI s.2.2) = some (u, iI (fld (fun dx s => fld (stp (GwN xs ys n fo lx hx' ly hy) dx) (13 - hy + ly).toNat (-ly) s) e dx s).1, iI (fld (fun dx s => fld (stp (GwN xs ys n fo lx hx' ly hy) dx) (13 - hy + ly).toNat (-ly) s) e dx s).2.1, iI (fld (fun dx s => fld (stp (GwN xs ys n fo lx hx' ly hy) dx) (13 - hy + ly).toNat (-ly) s) e dx s).2.2) := by
  have hbb := hb.1
  have hlh2 : ly ≤ hy := by
    obtain ⟨j, hj, q⟩ := hb.2.2.2.2.1
    have := hb.2.1 j hj
    omega
  intro e
  induction e with
  | zero =>
    intro m dx s h1 h2 h3 h4
    obtain ⟨m, rfl⟩ : ∃ z, m = z + 1 := ⟨m - 1, by omega⟩
    refine ⟨iI dx, ?_⟩
    rw [L_X0_bestMove_51_s, if_pos (by rw [i12, iI_sub, iI_lt ⟨by omega, by omega⟩ ⟨by omega, by omega⟩]; omega)]
    rfl
  | succ e ih =>
    intro m dx s h1 h2 h3 h4
    obtain ⟨m, rfl⟩ : ∃ z, m = z + 1 := ⟨m - 1, by omega⟩
    have e1 : iI dx + (1 : Int32) = iI (dx + 1) := by rw [i1, iI_add]
    obtain ⟨u0, e0⟩ := bm65 hn hx hb fo (dx := dx) (by omega) (13 - hy + ly).toNat 1000 (-ly) s (by omega) (by omega) (by omega) h4
    obtain ⟨u, e2⟩ := ih m (dx + 1) (fld (stp (GwN xs ys n fo lx hx' ly hy) dx) (13 - hy + ly).toNat (-ly) s) (by omega) (by omega) (by omega) (fld_P (fun y s h => stp_ok (fun dx dy => (Gw_b fo lx hx' ly hy dx dy).2) dx y s h) _ _ _ h4)
    refine ⟨u, ?_⟩
    rw [L_X0_bestMove_51_s, if_neg (by rw [i12, iI_sub, iI_lt ⟨by omega, by omega⟩ ⟨by omega, by omega⟩]; omega), iI_neg, nm_s, e0, bd4_s, e1]
    exact e2
theorem fullM {st : Nat → Int32} {i : Nat} (hi : i < 3) (hn : n ≤ 8) (h0 : st i = nI n) {fo : Int32} (h3 : st (3 + i) = fo) (hl : ∀ k, k < 8 → st (6 + 8 * i + k) = xs k ∧ st (30 + 8 * i + k) = ys k) (hx : ∀ k, k < 8 → (0 ≤ (xs k).toInt ∧ (xs k).toInt ≤ 12) ∧ (0 ≤ (ys k).toInt ∧ (ys k).toInt ≤ 12)) {dx dy : Int} (hdx : -12 ≤ dx ∧ dx ≤ 12) (hdy : -12 ≤ dy ∧ dy ≤ 12) (hF : inF xs ys n dx dy) : ∀ (e k m acc : Nat) (px py : Nat → Int64) (co : Int32) (lx ly : Nat → Int64) (lf : Int32), k + e = 16 → e < m → ∃ (px' py' : Nat → Int64) (co' : Int32) (lx' ly' : Nat → Int64) (lf' : Int32), L_X3_fullMoved_6 st (nI i) (iI dx) (iI dy) m (nI k) (nI acc) px py co lx ly lf = some (nI 16, nI (acc + smN (fuN xs ys n fo dx dy) e k), px', py', co', lx', ly', lf') := by
  intro e
  induction e with
  | zero =>
    intro k m acc px py co lx ly lf h1 h2
    obtain ⟨m, rfl⟩ : ∃ z, m = z + 1 := ⟨m - 1, by omega⟩
    obtain rfl : k = 16 := by omega
    refine ⟨px, py, co, lx, ly, lf, ?_⟩
    rw [L_X3_fullMoved_6_s, if_pos (by decide)]
    rfl
  | succ e ih =>
    intro k m acc px py co lx ly lf h1 h2
    obtain ⟨m, rfl⟩ : ∃ z, m = z + 1 := ⟨m - 1, by omega⟩
    obtain ⟨p0, q0, c0, u0, w0, f0, e0⟩ := coverMoved_eq hi hn (show k < 16 by omega) h0 h3 hl hx hdx hdy hF px py lx ly
    have cb := cvN_le fo (RW xs ys n k dx dy).natAbs
    have sE : smN (fuN xs ys n fo dx dy) (e + 1) k = fuN xs ys n fo dx dy k + smN (fuN xs ys n fo dx dy) e (k + 1) := rfl
    have a0 : nI acc + (0 : Int32) = nI acc := by rw [lit32, nI_add, Nat.add_zero]
    rw [sE]
    by_cases q : cvN fo (RW xs ys n k dx dy).natAbs = 498960
    · have f1 : fuN xs ys n fo dx dy k = 1 := by unfold fuN; rw [if_pos q]
      obtain ⟨p1, p2, c1, u1, w1, f2, e2⟩ := ih (k + 1) m (acc + 1) p0 q0 c0 u0 w0 f0 (by omega) (by omega)
      refine ⟨p1, p2, c1, u1, w1, f2, ?_⟩
      rw [L_X3_fullMoved_6_s, if_neg (by rw [lit32, nI_leI (by decide) (by omega)]; omega), e0, bd7_s, if_pos ((lN498 cb).mpr q), nm_s, nI_s, nI_s, e2, f1, Nat.add_assoc]
    · have f1 : fuN xs ys n fo dx dy k = 0 := by unfold fuN; rw [if_neg q]
      obtain ⟨p1, p2, c1, u1, w1, f2, e2⟩ := ih (k + 1) m acc p0 q0 c0 u0 w0 f0 (by omega) (by omega)
      refine ⟨p1, p2, c1, u1, w1, f2, ?_⟩
      rw [L_X3_fullMoved_6_s, if_neg (by rw [lit32, nI_leI (by decide) (by omega)]; omega), e0, bd7_s, if_neg (fun z => q ((lN498 cb).mp z)), nm_s, a0, nI_s, e2, f1, Nat.zero_add]
theorem HE_in (hx : ∀ k, k < 8 → (0 ≤ (xs k).toInt ∧ (xs k).toInt ≤ 12) ∧ (0 ≤ (ys k).toInt ∧ (ys k).toInt ≤ 12)) (hn : n ≤ 8) {dx dy : Int} (hdx : -12 ≤ dx ∧ dx ≤ 12) (hdy : -12 ≤ dy ∧ dy ≤ 12) : (∀ j, j < n → HE xs ys (iI dx) (iI dy) j) ↔ inF xs ys n dx dy := by
  have k0 : (0 : Int32) = nI 0 := rfl
  have k12 : (12 : Int32) = nI 12 := rfl
  have one : ∀ j, j < n → (HE xs ys (iI dx) (iI dy) j ↔ ((0 ≤ (xs j).toInt + dx ∧ (xs j).toInt + dx ≤ 12) ∧ (0 ≤ (ys j).toInt + dy ∧ (ys j).toInt + dy ≤ 12))) := by
    intro j hj
    have b := hx j (by omega)
    have ex : (xs j + iI dx).toInt = (xs j).toInt + dx := by
      rw [← iI_of (xs j), iI_add, iI_toInt ⟨by omega, by omega⟩, iI_of]
    have ey : (ys j + iI dy).toInt = (ys j).toInt + dy := by
      rw [← iI_of (ys j), iI_add, iI_toInt ⟨by omega, by omega⟩, iI_of]
    unfold HE
    rw [k0, k12, rgN 0 12 (by decide) (by decide), rgN 0 12 (by decide) (by decide), ex, ey]
    omega
  exact ⟨fun h k hk => (one k hk).mp (h k hk), fun h k hk => (one k hk).mpr (h k hk)⟩
/-- both searches end at the same move -/
theorem best_same {lx hx ly hy : Int} (hb : bxN xs ys n lx hx ly hy) (fo : Int32) : fld (fun dx s => fld (stp (GwN xs ys n fo lx hx ly hy) dx) 25 (-12) s) 25 (-12) (0, 0, -6) = fld (fun dx s => fld (stp (GwN xs ys n fo lx hx ly hy) dx) (13 - hy + ly).toNat (-ly) s) (13 - hx + lx).toNat (-lx) (0, 0, -1) := by
  have hbb := hb.1
  have hlh : lx ≤ hx := by
    obtain ⟨j, hj, q⟩ := hb.2.2.1
    have := hb.2.1 j hj
    omega
  have hlh2 : ly ≤ hy := by
    obtain ⟨j, hj, q⟩ := hb.2.2.2.2.1
    have := hb.2.1 j hj
    omega
  generalize hG : GwN xs ys n fo lx hx ly hy = G
  have gb : ∀ dx dy, -6 ≤ G dx dy ∧ G dx dy ≤ 16 := fun dx dy => by rw [← hG]; exact Gw_b fo lx hx ly hy dx dy
  have go : ∀ dx dy, ¬ ((-lx ≤ dx ∧ dx ≤ 12 - hx) ∧ (-ly ≤ dy ∧ dy ≤ 12 - hy)) → G dx dy = -6 := fun dx dy h => by rw [← hG]; unfold GwN; rw [if_neg h]
  have gi : ∀ dx dy, ((-lx ≤ dx ∧ dx ≤ 12 - hx) ∧ (-ly ≤ dy ∧ dy ≤ 12 - hy)) → 0 ≤ G dx dy := fun dx dy h => by rw [← hG]; unfold GwN; rw [if_pos h]; omega
  have sk : ∀ dx dy s, ¬ ((-lx ≤ dx ∧ dx ≤ 12 - hx) ∧ (-ly ≤ dy ∧ dy ≤ 12 - hy)) → okS s → stp G dx dy s = s := fun dx dy s h hs => by
    have := go dx dy h
    unfold okS at hs
    unfold stp
    rw [if_pos (by omega)]
  have sP : ∀ dx dy s, okS s → okS (stp G dx dy s) := fun dx dy s h => stp_ok (fun dx dy => (gb dx dy).2) dx dy s h
  have in1 : ∀ dx s, okS s → fld (stp G dx) 25 (-12) s = fld (stp G dx) (13 - hy + ly).toNat (-ly) s := fun dx s hs => by
    rw [fld_mid (f := stp G dx) (P := okS) (fun y s h => sP dx y s h) (lo := -ly) (hi := 12 - hy) (by omega) (fun y s h h' => sk dx y s (by omega) h') hs, show 12 - hy - -ly + 1 = 13 - hy + ly by omega]
  have s6 : okS (0, 0, -6) := by unfold okS; decide
  have s1 : okS (0, 0, -1) := by unfold okS; decide
  rw [fld_mid (P := okS) (fun y s h => fld_P (fun z s h => sP y z s h) _ _ _ h) (lo := -lx) (hi := 12 - hx) (by omega) (fun y s h h' => fld_id _ _ (fun z _ _ => sk y z s (by omega) h')) s6, show 12 - hx - -lx + 1 = 13 - hx + lx by omega]
  rw [fld_cg (f := fun dx s => fld (stp G dx) 25 (-12) s) (g := fun dx s => fld (stp G dx) (13 - hy + ly).toNat (-ly) s) (P := okS) _ _ _ (fun y s _ _ h => ⟨in1 y s h, fld_P (fun z s h => sP y z s h) _ _ _ h⟩) s6]
  obtain ⟨a, ea⟩ : ∃ a, (13 - hx + lx).toNat = a + 1 := ⟨(13 - hx + lx).toNat - 1, by omega⟩
  obtain ⟨b, eb⟩ : ∃ b, (13 - hy + ly).toNat = b + 1 := ⟨(13 - hy + ly).toNat - 1, by omega⟩
  rw [ea]
  show fld _ a (-lx + 1) (fld (stp G (-lx)) (13 - hy + ly).toNat (-ly) (0, 0, -6)) = fld _ a (-lx + 1) (fld (stp G (-lx)) (13 - hy + ly).toNat (-ly) (0, 0, -1))
  have es : fld (stp G (-lx)) (13 - hy + ly).toNat (-ly) (0, 0, -6) = fld (stp G (-lx)) (13 - hy + ly).toNat (-ly) (0, 0, -1) := by
    rw [eb]
    show fld (stp G (-lx)) b (-ly + 1) (stp G (-lx) (-ly) (0, 0, -6)) = fld (stp G (-lx)) b (-ly + 1) (stp G (-lx) (-ly) (0, 0, -1))
    have g0 := gi (-lx) (-ly) (by omega)
    have t6 : stp G (-lx) (-ly) (0, 0, -6) = (-ly, -lx, G (-lx) (-ly)) := by
      unfold stp
      rw [if_neg (by show ¬ G (-lx) (-ly) ≤ -6; omega)]
    have t1 : stp G (-lx) (-ly) (0, 0, -1) = (-ly, -lx, G (-lx) (-ly)) := by
      unfold stp
      rw [if_neg (by show ¬ G (-lx) (-ly) ≤ -1; omega)]
    rw [t6, t1]
  rw [es]
end BEST
theorem pp_best {XS YS : Nat → Nat → Nat → Int32} {SZ FO : Nat → Nat → Int32} {ke : Int32} {st im_ kp : Nat → Int32} (hI : Inv XS YS SZ FO ke st im_ kp) (a0 : Int32) (a1 : Int32) (px : Nat → Int64) (py : Nat → Int64) (co : Int32) (lx : Nat → Int64) (ly : Nat → Int64) (lf : Int32) : ∃ (i : Nat) (r : Int32) (pxM : Nat → Int64) (pyM : Nat → Int64) (coM : Int32) (lxM : Nat → Int64) (lyM : Nat → Int64) (lfM : Int32), i < 3 ∧ (P_X2_within a0 (0 : Int32) (2 : Int32) = some (1 : Int32) → a0.toNatClampNeg = i) ∧ P_X2_best a0 a1 (XS 0 i) (YS 0 i) (SZ 0 i) (FO 0 i) = some r ∧ P_X3_best a0 a1 st px py co lx ly lf = some (r, pxM, pyM, coM, lxM, lyM, lfM) := by
  by_cases hL : (0 : Int32) ≤ a0 ∧ a0 ≤ 2
  · obtain ⟨i, hi, rfl⟩ := layer_of hL
    by_cases hp : (0 : Int32) ≤ a1 ∧ a1 ≤ 2
    · obtain ⟨n, hn, en, en2, e3, hF0⟩ := layI hI hi
      have hx := (hI.1 0 i (by decide) hi).2.2
      obtain ⟨l1, l2, l3⟩ := hI.2.1 i hi
      by_cases hn0 : n = 0
      · subst hn0
        refine ⟨i, (-6), px, py, co, lx, ly, lf, hi, sel_yes hi, ?_, ?_⟩
        · unfold P_X2_best
          rw [P_within_eq, bd1_s, if_neg (nb hL), P_within_eq, bd1_s, if_neg (nb hp), en, if_neg (by decide)]
        · unfold P_X3_best
          rw [P_isLayer_eq, bd1_s, if_neg (nb hL), P_in_eq, bd1_s, if_neg (nb hp), z0, ib_nI (by omega) (by omega), gd_s, cl32 (by omega), e3, if_pos (by decide)]
      · obtain ⟨bl, el, hl1, hl2, hl3⟩ := least_x_eq (xs := XS 0 i) hn (by omega) (fun k hk => (hx k hk).1)
        obtain ⟨bg, eg, hg1, hg2, hg3⟩ := greatest_x_eq (xs := XS 0 i) hn (by omega) (fun k hk => (hx k hk).1)
        obtain ⟨cl, fl, hm1, hm2, hm3⟩ := least_y_eq (ys := YS 0 i) hn (by omega) (fun k hk => (hx k hk).2)
        obtain ⟨cg, fg, ho1, ho2, ho3⟩ := greatest_y_eq (ys := YS 0 i) hn (by omega) (fun k hk => (hx k hk).2)
        have hb : bxN (XS 0 i) (YS 0 i) n bl bg cl cg := ⟨⟨hl1, hg1, hm1, ho1⟩, fun j hj => ⟨⟨hl2 j hj, hg2 j hj⟩, ⟨hm2 j hj, ho2 j hj⟩⟩, hl3, hg3, hm3, ho3⟩
        have s6 : okS (0, 0, -6) := by unfold okS; decide
        have s1 : okS (0, 0, -1) := by unfold okS; decide
        have hlh : bl ≤ bg := by
          obtain ⟨j, hj, q⟩ := hl3
          have := hg2 j hj
          omega
        obtain ⟨u, eC⟩ := bm51 hn hx hb (FO 0 i) (13 - bg + bl).toNat 1000 (-bl) (0, 0, -1) (by omega) (by omega) (by omega) s1
        obtain ⟨p1, p2, c1, u1, w1, f1, eM⟩ := m48 (st := st) (a0 := nI i) (G := GwN (XS 0 i) (YS 0 i) n (FO 0 i) bl bg cl cg) (fun dx dy => (Gw_b _ _ _ _ _ dx dy).2) (fun dx dy => (Gw_b _ _ _ _ _ dx dy).1) (fun dx dy h1 h2 h3 h4 => by
          obtain ⟨r, er, r01, r1⟩ := can_eq st (XS 0 i) (YS 0 i) hi hn e3 l3 (iI dx) (iI dy)
          have hin := (r1.trans (HE_in hx hn ⟨h1, h2⟩ ⟨h3, h4⟩))
          refine ⟨r, er, fun q => ?_, fun q px py co lx ly lf => ?_⟩
          · unfold GwN
            rw [if_neg]
            intro z
            have := hin.mpr ((bx_in hb dx dy).mpr z)
            rw [q] at this
            exact absurd this (by decide)
          · have r1' : r = 1 := by rcases r01 with z | z; exact absurd z q; exact z
            have hF := hin.mp r1'
            obtain ⟨p1, p2, c1, u1, w1, f1, e2⟩ := fullM hi hn e3 l2 l3 hx ⟨h1, h2⟩ ⟨h3, h4⟩ hF 16 0 1000 0 px py co lx ly lf (by decide) (by decide)
            have hg : GwN (XS 0 i) (YS 0 i) n (FO 0 i) bl bg cl cg dx dy = ((smN (fuN (XS 0 i) (YS 0 i) n (FO 0 i) dx dy) 16 0 : Nat) : Int) := by unfold GwN; rw [if_pos ((bx_in hb dx dy).mp hF)]
            refine ⟨p1, p2, c1, u1, w1, f1, ?_⟩
            have e2' : L_X3_fullMoved_6 st (nI i) (iI dx) (iI dy) 1000 (0 : Int32) (0 : Int32) px py co lx ly lf = _ := e2
            unfold P_X3_fullMoved
            rw [e2', bd8_s, Nat.zero_add, iI_nI (smN (fuN (XS 0 i) (YS 0 i) n (FO 0 i) dx dy) 16 0), hg]) 25 1000 (-12) (0, 0, -6) px py co lx ly lf (by decide) (by decide) (by decide) s6
        rw [best_same hb (FO 0 i)] at eM
        generalize fld (fun dx s => fld (stp (GwN (XS 0 i) (YS 0 i) n (FO 0 i) bl bg cl cg) dx) (13 - cg + cl).toNat (-cl) s) (13 - bg + bl).toNat (-bl) (0, 0, -1) = R at eC eM
        have eM' : L_X3_best_48 st (nI i) 1000 (-12 : Int32) (0 : Int32) (0 : Int32) (-6 : Int32) px py co lx ly lf = some (iI 13, iI R.1, iI R.2.1, iI R.2.2, p1, p2, c1, u1, w1, f1) := by
          rw [im12, im6, z32]
          exact eM
        have eC' : L_X0_bestMove_51 (XS 0 i) (YS 0 i) (nI n) (FO 0 i) (iI bl) (iI bg) (iI cl) (iI cg) 1000 (iI (-bl)) (0 : Int32) (0 : Int32) (-1 : Int32) = some (u, iI R.1, iI R.2.1, iI R.2.2) := by
          rw [im1, z32]
          exact eC
        have hbm : ∀ v : Int32, P_X0_bestMove v (XS 0 i) (YS 0 i) (nI n) (FO 0 i) = if v = (2 : Int32) then some (iI R.2.2) else if v = (0 : Int32) then some ((100 : Int32) + iI R.2.1) else some ((100 : Int32) + iI R.1) := by
          intro v
          unfold P_X0_bestMove
          rw [el, bd1_s, eg, bd1_s, fl, bd1_s, fg, bd1_s, iI_neg, nm_s, eC', bd4_s]
        have hsz : (0 : Int32) < nI n := by
          have := (lt32 (n := 0) (x := nI n) (by decide)).mpr (by rw [ti32 (by omega)]; omega)
          exact this
        have h0' : ¬ nI n = (0 : Int32) := by
          intro z
          have := congrArg Int32.toInt z
          rw [ti32 (by omega)] at this
          have z0' : ((0 : Int32)).toInt = 0 := by decide
          omega
        obtain ⟨a, ha, rfl⟩ := layer_of hp
        have i0 : ¬ (0 : Int32) = 2 := by decide
        match a, ha with
        | 0, _ =>
          refine ⟨i, (100 : Int32) + iI R.2.1, p1, p2, c1, u1, w1, f1, hi, sel_yes hi, ?_, ?_⟩
          · unfold P_X2_best
            rw [P_within_eq, bd1_s, if_neg (nb hL), P_within_eq, bd1_s, if_neg (nb hp), en, if_pos hsz, hbm, if_neg (by decide), if_pos (by decide), bd1_s]
          · unfold P_X3_best
            rw [P_isLayer_eq, bd1_s, if_neg (nb hL), P_in_eq, bd1_s, if_neg (nb hp), z0, ib_nI (by omega) (by omega), gd_s, cl32 (by omega), e3, if_neg h0', eM', bd10_s, if_pos (by decide), Int32.add_comm]
        | 1, _ =>
          refine ⟨i, (100 : Int32) + iI R.1, p1, p2, c1, u1, w1, f1, hi, sel_yes hi, ?_, ?_⟩
          · unfold P_X2_best
            rw [P_within_eq, bd1_s, if_neg (nb hL), P_within_eq, bd1_s, if_neg (nb hp), en, if_pos hsz, hbm, if_neg (by decide), if_neg (by decide), bd1_s]
          · unfold P_X3_best
            rw [P_isLayer_eq, bd1_s, if_neg (nb hL), P_in_eq, bd1_s, if_neg (nb hp), z0, ib_nI (by omega) (by omega), gd_s, cl32 (by omega), e3, if_neg h0', eM', bd10_s, if_neg (by decide), if_pos (by decide), Int32.add_comm]
        | 2, _ =>
          refine ⟨i, iI R.2.2, p1, p2, c1, u1, w1, f1, hi, sel_yes hi, ?_, ?_⟩
          · unfold P_X2_best
            rw [P_within_eq, bd1_s, if_neg (nb hL), P_within_eq, bd1_s, if_neg (nb hp), en, if_pos hsz, hbm, if_pos (by decide), bd1_s]
          · unfold P_X3_best
            rw [P_isLayer_eq, bd1_s, if_neg (nb hL), P_in_eq, bd1_s, if_neg (nb hp), z0, ib_nI (by omega) (by omega), gd_s, cl32 (by omega), e3, if_neg h0', eM', bd10_s, if_neg (by decide), if_neg (by decide)]
    · refine ⟨i, (-2), px, py, co, lx, ly, lf, hi, sel_yes hi, ?_, ?_⟩
      · unfold P_X2_best
        rw [P_within_eq, bd1_s, if_neg (nb hL), P_within_eq, bd1_s, if_pos (pb hp)]
      · unfold P_X3_best
        rw [P_isLayer_eq, bd1_s, if_neg (nb hL), P_in_eq, bd1_s, if_pos (pb hp)]
  · refine ⟨0, (-1), px, py, co, lx, ly, lf, by decide, sel_no hL, ?_, ?_⟩
    · unfold P_X2_best
      rw [P_within_eq, bd1_s, if_pos (pb hL)]
    · unfold P_X3_best
      rw [P_isLayer_eq, bd1_s, if_pos (pb hL)]
