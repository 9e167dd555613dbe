/-! the class's raw of a dot -/
theorem z32 : (0 : Int32) = iI 0 := by decide
theorem be_eq {low high width height band : Int} (h1 : -1000 ≤ low ∧ low ≤ 1000) (h2 : -1000 ≤ high ∧ high ≤ 1000) (h3 : 0 ≤ width ∧ width ≤ 12) (h4 : 0 ≤ height ∧ height ≤ 12) (h5 : 0 ≤ band ∧ band ≤ 3) : P_X0_beforeEdge (iI low) (iI high) (iI width) (iI height) (iI band) = some (lI (beI low high width height band)) := by
  have q27 : (27720 : Int64) = lI 27720 := by decide
  have rl : r32 low := ⟨by omega, by omega⟩
  have rg : r32 high := ⟨by omega, by omega⟩
  have rw_ : r32 width := ⟨by omega, by omega⟩
  have rh : r32 height := ⟨by omega, by omega⟩
  have rb : r32 band := ⟨by omega, by omega⟩
  have r0 : r32 0 := ⟨by omega, by omega⟩
  have hwh := mulB (a := width) (b := height) (A := 12) (B := 12) (by decide) (by decide) (by omega) (by omega) (by omega) (by omega)
  have sq : ∀ g : Int, -1000 ≤ g → g ≤ 1000 → ¬ width = 0 → ¬ height = 0 → gd (nzl ((iI width * iI height).toInt64)) (some ((27720 : Int64) * (iI g).toInt64 * (iI g).toInt64 / (iI width * iI height).toInt64)) = some (lI ((27720 * g * g).tdiv (width * height))) := by
    intro g g1 g2 hw hh
    have hpos : 0 < width * height := Int.mul_pos (by omega) (by omega)
    have hg := mulB (a := 27720 * g) (b := g) (A := 27720000) (B := 1000) (by decide) (by decide) (by omega) (by omega) (by omega) (by omega)
    have hnz : nzl (lI (width * height)) = true := decide_eq_true (fun q => by
      rw [z64, lI_eq ⟨by omega, by omega⟩ ⟨by omega, by omega⟩] at q
      omega)
    rw [iI_mul, iI_l ⟨by omega, by omega⟩, hnz, gd_s, q27, iI_l ⟨by omega, by omega⟩, lI_mul, lI_mul, lI_div (by omega) ⟨by omega, by omega⟩ (by omega)]
  have fo : 0 ≤ low + high → ¬ height = 0 → gd (nzl ((iI height).toInt64)) (some ((27720 : Int64) * (iI low + iI high).toInt64 * (iI band).toInt64 / (iI height).toInt64)) = some (lI ((27720 * (low + high) * band).tdiv height)) := by
    intro _ hh
    have hg := mulB (a := 27720 * (low + high)) (b := band) (A := 55440000) (B := 3) (by decide) (by decide) (by omega) (by omega) (by omega) (by omega)
    have hnz : nzl (lI height) = true := decide_eq_true (fun q => by
      rw [z64, lI_eq ⟨by omega, by omega⟩ ⟨by omega, by omega⟩] at q
      omega)
    rw [iI_add, iI_l (a := low + high) ⟨by omega, by omega⟩, iI_l rh, iI_l rb, hnz, gd_s, q27, lI_mul, lI_mul, lI_div (by omega) ⟨by omega, by omega⟩ (by omega)]
  have B0 : (height = 0 ∨ (low ≤ 0 ∧ high ≤ 0)) → beI low high width height band = 0 := fun h => by unfold beI; rw [if_pos h]
  have B1 : ¬ (height = 0 ∨ (low ≤ 0 ∧ high ≤ 0)) → (0 ≤ low ∧ 0 ≤ high) → beI low high width height band = (27720 * (low + high) * band).tdiv height := fun h h' => by unfold beI; rw [if_neg h, if_pos h']
  have B2 : ¬ (height = 0 ∨ (low ≤ 0 ∧ high ≤ 0)) → ¬ (0 ≤ low ∧ 0 ≤ high) → width = 0 → beI low high width height band = 0 := fun h h' h'' => by unfold beI; rw [if_neg h, if_neg h', if_pos h'']
  have B3 : ¬ (height = 0 ∨ (low ≤ 0 ∧ high ≤ 0)) → ¬ (0 ≤ low ∧ 0 ≤ high) → ¬ width = 0 → high < low → beI low high width height band = (27720 * low * low).tdiv (width * height) := fun h h' h'' h3 => by unfold beI; rw [if_neg h, if_neg h', if_neg h'', if_pos h3]
  have B4 : ¬ (height = 0 ∨ (low ≤ 0 ∧ high ≤ 0)) → ¬ (0 ≤ low ∧ 0 ≤ high) → ¬ width = 0 → ¬ high < low → beI low high width height band = (27720 * high * high).tdiv (width * height) := fun h h' h'' h3 => by unfold beI; rw [if_neg h, if_neg h', if_neg h'', if_neg h3]
  unfold P_X0_beforeEdge
  rw [z32]
  by_cases hh : height = 0
  · rw [if_pos (by rw [hh]), B0 (Or.inl hh)]; rfl
  · rw [if_neg (by rw [iI_eq rh r0]; exact hh)]
    by_cases hl : 0 < low
    · rw [if_pos (by rw [iI_lt r0 rl]; exact hl), if_neg (by rw [iI_lt rl r0]; omega)]
      by_cases hg : high < 0
      · rw [if_pos (by rw [iI_lt rg r0]; exact hg)]
        by_cases hw : width = 0
        · rw [if_pos (by rw [hw]), B2 (by omega) (by omega) hw]; rfl
        · rw [if_neg (by rw [iI_eq rw_ r0]; exact hw), if_neg (by rw [iI_le rl rg]; omega), B3 (by omega) (by omega) hw (by omega)]
          exact sq low (by omega) (by omega) hw hh
      · rw [if_neg (by rw [iI_lt rg r0]; exact hg), B1 (by omega) (by omega)]
        exact fo (by omega) hh
    · rw [if_neg (by rw [iI_lt r0 rl]; exact hl)]
      by_cases hg : 0 < high
      · rw [if_pos (by rw [iI_lt r0 rg]; exact hg)]
        by_cases hl0 : low < 0
        · rw [if_pos (by rw [iI_lt rl r0]; exact hl0)]
          by_cases hw : width = 0
          · rw [if_pos (by rw [hw]), B2 (by omega) (by omega) hw]; rfl
          · rw [if_neg (by rw [iI_eq rw_ r0]; exact hw), if_pos (by rw [iI_le rl rg]; omega), B4 (by omega) (by omega) hw (by omega)]
            exact sq high (by omega) (by omega) hw hh
        · rw [if_neg (by rw [iI_lt rl r0]; exact hl0), if_neg (by rw [iI_lt rg r0]; omega), B1 (by omega) (by omega)]
          exact fo (by omega) hh
      · rw [if_neg (by rw [iI_lt r0 rg]; exact hg), B0 (Or.inr ⟨by omega, by omega⟩)]; rfl
theorem le_eq {x1 y1 x2 y2 l b : Int} (h1 : 0 ≤ x1 ∧ x1 ≤ 12) (h2 : 0 ≤ y1 ∧ y1 ≤ 12) (h3 : 0 ≤ x2 ∧ x2 ≤ 12) (h4 : 0 ≤ y2 ∧ y2 ≤ 12) (hl : -24 ≤ l ∧ l ≤ 24) (hb : -24 ≤ b ∧ b ≤ 24) (hy : y1 < y2) : P_X0_leftOfEdge (iI x1) (iI y1) (iI x2) (iI y2) (iI l) (iI b) = some (lI (leI x1 y1 x2 y2 l b)) := by
  have s3 : (3 : Int32) = iI 3 := by decide
  have e1 : (if iI y1 < iI b then iI b else iI y1) = iI (mxI y1 b) := by
    unfold mxI
    by_cases h : y1 < b
    · rw [if_pos h, if_pos (by rw [iI_lt ⟨by omega, by omega⟩ ⟨by omega, by omega⟩]; exact h)]
    · rw [if_neg h, if_neg (by rw [iI_lt ⟨by omega, by omega⟩ ⟨by omega, by omega⟩]; exact h)]
  have e2 : (if iI (b + 3) < iI y2 then iI (b + 3) else iI y2) = iI (mnI y2 (b + 3)) := by
    unfold mnI
    by_cases h : b + 3 < y2
    · rw [if_pos h, if_pos (by rw [iI_lt ⟨by omega, by omega⟩ ⟨by omega, by omega⟩]; exact h)]
    · rw [if_neg h, if_neg (by rw [iI_lt ⟨by omega, by omega⟩ ⟨by omega, by omega⟩]; exact h)]
  have e9 : (if 0 ≤ iI (x2 - x1) then iI (x2 - x1) else 0 - iI (x2 - x1)) = iI (abI (x2 - x1)) := by
    unfold abI
    rw [z32]
    by_cases h : 0 ≤ x2 - x1
    · rw [if_pos h, if_pos (by rw [iI_le ⟨by omega, by omega⟩ ⟨by omega, by omega⟩]; exact h)]
    · rw [if_neg h, if_neg (by rw [iI_le ⟨by omega, by omega⟩ ⟨by omega, by omega⟩]; exact h), iI_sub]
  have m1 : mxI y1 b = y1 ∧ b ≤ y1 ∨ mxI y1 b = b ∧ y1 ≤ b := by
    unfold mxI
    split
    · right; omega
    · left; omega
  have m2 : mnI y2 (b + 3) = y2 ∧ y2 ≤ b + 3 ∨ mnI y2 (b + 3) = b + 3 ∧ b + 3 ≤ y2 := by
    unfold mnI
    split
    · right; omega
    · left; omega
  unfold P_X0_leftOfEdge leI
  rw [s3, iI_add, e1, e2, nm_s, nm_s]
  by_cases hc : mnI y2 (b + 3) ≤ mxI y1 b
  · rw [if_neg (by rw [iI_lt ⟨by omega, by omega⟩ ⟨by omega, by omega⟩]; omega), if_pos hc]; rfl
  · rw [if_pos (by rw [iI_lt ⟨by omega, by omega⟩ ⟨by omega, by omega⟩]; omega), if_neg hc]
    have a0 : 0 ≤ abI (x2 - x1) ∧ abI (x2 - x1) ≤ 12 := by
      unfold abI
      split <;> omega
    have b1 := mulB (a := x1 - l) (b := y2 - y1) (A := 36) (B := 12) (by decide) (by decide) (by omega) (by omega) (by omega) (by omega)
    have b2 := mulB (a := x2 - x1) (b := mxI y1 b - y1) (A := 12) (B := 12) (by decide) (by decide) (by omega) (by omega) (by omega) (by omega)
    have b3 := mulB (a := x2 - x1) (b := mnI y2 (b + 3) - y1) (A := 12) (B := 12) (by decide) (by decide) (by omega) (by omega) (by omega) (by omega)
    rw [iI_sub x2 x1, iI_sub y2 y1, nm_s, nm_s, iI_sub x1 l, iI_sub (mxI y1 b) y1, iI_sub (mnI y2 (b + 3)) y1, iI_mul, iI_mul, iI_mul, iI_add, iI_add, nm_s, nm_s, iI_mul, nm_s, e9, nm_s, iI_sub (mnI y2 (b + 3)) (mxI y1 b), iI_sub, iI_sub]
    rw [be_eq (by omega) (by omega) a0 (by omega) (by omega), bd1_s, be_eq (by omega) (by omega) a0 (by omega) (by omega), bd1_s, lI_sub]
theorem raw_step {xs ys : Nat → Int32} {n : Nat} (hn : n ≤ 8) (hx : ∀ k, k < 8 → (0 ≤ (xs k).toInt ∧ (xs k).toInt ≤ 12) ∧ (0 ≤ (ys k).toInt ∧ (ys k).toInt ≤ 12)) {l b : Int} (hl : -24 ≤ l ∧ l ≤ 24) (hb : -24 ≤ b ∧ b ≤ 24) {k : Nat} (hk : k < n) (m : Nat) (acc : Int) :
    L_X0_rawParts_24 xs ys (nI n) (iI l) (iI b) (m + 1) (nI k) (lI acc) = L_X0_rawParts_24 xs ys (nI n) (iI l) (iI b) m (nI (k + 1)) (lI (acc + edP l b ((xs k).toInt, (ys k).toInt) ((xs ((k + 1) % n)).toInt, (ys ((k + 1) % n)).toInt))) := by
  have e1 : nI k + (1 : Int32) = nI (k + 1) := by rw [lit32, nI_add]
  have e0 : (0 : Int32).toNatClampNeg = 0 := by decide
  have hk8 := hx k (by omega)
  have cmp : ∀ j, j < 8 → ((ys j ≤ ys k) ↔ (ys j).toInt ≤ (ys k).toInt) := fun j _ => Int32.le_iff_toInt_le
  have cmp' : ∀ j, j < 8 → ((ys k ≤ ys j) ↔ (ys k).toInt ≤ (ys j).toInt) := fun j _ => Int32.le_iff_toInt_le
  have lf1 : ∀ j, j < 8 → (ys k).toInt < (ys j).toInt → P_X0_leftOfEdge (xs k) (ys k) (xs j) (ys j) (iI l) (iI b) = some (lI (leI (xs k).toInt (ys k).toInt (xs j).toInt (ys j).toInt l b)) := fun j hj h => by
    have := hx j hj
    have q := le_eq (x1 := (xs k).toInt) (y1 := (ys k).toInt) (x2 := (xs j).toInt) (y2 := (ys j).toInt) hk8.1 hk8.2 this.1 this.2 hl hb h
    rw [iI_of, iI_of, iI_of, iI_of] at q
    exact q
  have lf2 : ∀ j, j < 8 → (ys j).toInt < (ys k).toInt → P_X0_leftOfEdge (xs j) (ys j) (xs k) (ys k) (iI l) (iI b) = some (lI (leI (xs j).toInt (ys j).toInt (xs k).toInt (ys k).toInt l b)) := fun j hj h => by
    have := hx j hj
    have q := le_eq (x1 := (xs j).toInt) (y1 := (ys j).toInt) (x2 := (xs k).toInt) (y2 := (ys k).toInt) this.1 this.2 hk8.1 hk8.2 hl hb h
    rw [iI_of, iI_of, iI_of, iI_of] at q
    exact q
  rw [L_X0_rawParts_24_s, if_neg (by rw [nI_leI (by omega) (by omega)]; omega), e1]
  unfold edP edI
  by_cases hl2 : n ≤ k + 1
  · have hm : (k + 1) % n = 0 := by
      have : k + 1 = n := by omega
      rw [this, Nat.mod_self]
    rw [if_pos (by rw [nI_leI (by omega) (by omega)]; exact hl2), ib_nI (by omega) (by omega), gd_s, e0, cl32 (by omega), hm]
    by_cases c1 : (ys 0).toInt ≤ (ys k).toInt
    · rw [if_pos ((cmp 0 (by decide)).mpr c1), gd_s]
      by_cases c2 : (ys k).toInt ≤ (ys 0).toInt
      · rw [if_pos ((cmp' 0 (by decide)).mpr c2), if_neg (by omega), if_neg (by omega), Int.add_zero]
      · rw [if_neg (fun z => c2 ((cmp' 0 (by decide)).mp z)), gd_s, gd_s, lf2 0 (by decide) (by omega), bd1_s, nm_s, if_neg (by omega), if_pos (by omega), lI_sub]
        congr 2
        dsimp only
        omega
    · rw [if_neg (fun z => c1 ((cmp 0 (by decide)).mp z)), gd_s, gd_s, lf1 0 (by decide) (by omega), bd1_s, nm_s, if_pos (by omega), lI_add]
  · have hm : (k + 1) % n = k + 1 := Nat.mod_eq_of_lt (by omega)
    rw [if_neg (by rw [nI_leI (by omega) (by omega)]; exact hl2), nm_s, ib_nI (by omega) (by omega), ib_nI (by omega) (by omega), gd_s, gd_s, cl32 (by omega), cl32 (by omega), hm]
    by_cases c1 : (ys (k + 1)).toInt ≤ (ys k).toInt
    · rw [if_pos ((cmp (k + 1) (by omega)).mpr c1), gd_s, gd_s]
      by_cases c2 : (ys k).toInt ≤ (ys (k + 1)).toInt
      · rw [if_pos ((cmp' (k + 1) (by omega)).mpr c2), if_neg (by omega), if_neg (by omega), Int.add_zero]
      · rw [if_neg (fun z => c2 ((cmp' (k + 1) (by omega)).mp z)), gd_s, gd_s, gd_s, gd_s, lf2 (k + 1) (by omega) (by omega), bd1_s, nm_s, if_neg (by omega), if_pos (by omega), lI_sub]
        congr 2
        dsimp only
        omega
    · rw [if_neg (fun z => c1 ((cmp (k + 1) (by omega)).mp z)), gd_s, gd_s, gd_s, gd_s, lf1 (k + 1) (by omega) (by omega), bd1_s, nm_s, if_pos (by omega), lI_add]
theorem raw_loop {xs ys : Nat → Int32} {n : Nat} (hn : n ≤ 8) (hx : ∀ k, k < 8 → (0 ≤ (xs k).toInt ∧ (xs k).toInt ≤ 12) ∧ (0 ≤ (ys k).toInt ∧ (ys k).toInt ≤ 12)) {l b : Int} (hl : -24 ≤ l ∧ l ≤ 24) (hb : -24 ≤ b ∧ b ≤ 24) {a : Pnt} (ha : (ptl xs ys n)[0]? = some a) :
    ∀ (suf : List Pnt) (p : Pnt) (k m : Nat) (acc : Int), (∀ j q, (p :: suf)[j]? = some q → (ptl xs ys n)[k + j]? = some q) → k + suf.length + 1 = n → suf.length + 1 < m → L_X0_rawParts_24 xs ys (nI n) (iI l) (iI b) m (nI k) (lI acc) = some (nI n, lI (acc + psum (edP l b) p (suf ++ [a]))) := by
  have at_ : ∀ j p, (ptl xs ys n)[j]? = some p → j < n → p = ((xs j).toInt, (ys j).toInt) := by
    intro j p hp hj
    have : (ptl xs ys n)[j]? = some ((xs j).toInt, (ys j).toInt) := by simp [ptl, hj]
    rw [this] at hp
    exact (Option.some.inj hp).symm
  intro suf
  induction suf with
  | nil =>
    intro p k m acc h1 h2 h3
    simp only [List.length_nil] at h2 h3
    obtain ⟨m, rfl⟩ : ∃ z, m = z + 2 := ⟨m - 2, by omega⟩
    have e3 : k + 1 = n := by omega
    have ep := at_ k p (h1 0 p rfl) (by omega)
    have ea := at_ 0 a ha (by omega)
    rw [raw_step hn hx hl hb (by omega), L_X0_rawParts_24_s, if_pos (by rw [nI_leI (by omega) (by omega)]; omega), e3, Nat.mod_self, ← ep, ← ea]
    show _ = some (nI n, lI (acc + (edP l b p a + 0)))
    rw [Int.add_zero]
  | cons q suf ih =>
    intro p k m acc h1 h2 h3
    simp only [List.length_cons] at h2 h3
    obtain ⟨m, rfl⟩ : ∃ z, m = z + 1 := ⟨m - 1, by omega⟩
    have hk1 : (k + 1) % n = k + 1 := Nat.mod_eq_of_lt (by omega)
    have ep := at_ k p (h1 0 p rfl) (by omega)
    have eq := at_ (k + 1) q (h1 1 q rfl) (by omega)
    rw [raw_step hn hx hl hb (by omega), hk1, ← ep, ← eq, ih q (k + 1) m (acc + edP l b p q) (fun j z hz => by
      have := h1 (j + 1) z hz
      rw [show k + 1 + j = k + (j + 1) by omega]
      exact this) (by omega) (by omega), Int.add_assoc]
    rfl
theorem rawParts_eq {xs ys : Nat → Int32} {n d : Nat} (hn : n ≤ 8) (hd : d < 16) (hx : ∀ k, k < 8 → (0 ≤ (xs k).toInt ∧ (xs k).toInt ≤ 12) ∧ (0 ≤ (ys k).toInt ∧ (ys k).toInt ≤ 12)) {dx dy : Int} (hdx : -12 ≤ dx ∧ dx ≤ 12) (hdy : -12 ≤ dy ∧ dy ≤ 12) : P_X0_rawParts (nI d) (iI dx) (iI dy) xs ys (nI n) = some (lI (RW xs ys n d dx dy)) := by
  have s3 : (3 : Int32) = iI 3 := by decide
  have hv1 : (3 : Int32) * (nI d - nI d / (4 : Int32) * (4 : Int32)) - iI dx = iI (3 * ((d % 4 : Nat) : Int) - dx) := by
    rw [lit32 4, pk_rem (by omega) (by decide) (by decide), iI_nI, s3, iI_mul, iI_sub]
  have hv2 : (3 : Int32) * (nI d / (4 : Int32)) - iI dy = iI (3 * ((d / 4 : Nat) : Int) - dy) := by
    rw [lit32 4, pk_div (by omega) (by decide) (by decide), iI_nI, s3, iI_mul, iI_sub]
  have q0 : (0 : Int32) = nI 0 := rfl
  unfold P_X0_rawParts RW
  rw [hv1, nm_s, hv2, nm_s, z64, q0]
  cases hp : ptl xs ys n with
  | nil =>
    have hn0 : n = 0 := by
      have : (ptl xs ys n).length = n := by simp [ptl]
      rw [hp] at this
      exact this.symm
    subst hn0
    rw [show (1000 : Nat) = 999 + 1 from rfl, L_X0_rawParts_24_s, if_pos (by decide), bd2_s]
    rfl
  | cons a t =>
    have hlen : t.length + 1 = n := by
      have : (ptl xs ys n).length = n := by simp [ptl]
      rw [hp] at this
      exact this
    have := raw_loop hn hx (l := 3 * ((d % 4 : Nat) : Int) - dx) (b := 3 * ((d / 4 : Nat) : Int) - dy) (by omega) (by omega) (a := a) (by rw [hp]; rfl) t a 0 1000 0 (fun j q h => by rw [hp, Nat.zero_add]; exact h) (by omega) (by omega)
    rw [this, bd2_s, Int.zero_add]
    rfl
