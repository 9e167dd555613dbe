/-! numbers: Int32 and Int64 as images of Int -/
def iI (z : Int) : Int32 := Int32.ofInt z
def lI (z : Int) : Int64 := Int64.ofInt z
/-- in the range of an int, of a long -/
def r32 (z : Int) : Prop := -2147483648 ≤ z ∧ z < 2147483648
def r64 (z : Int) : Prop := -9223372036854775808 ≤ z ∧ z < 9223372036854775808
theorem iI_add (a b : Int) : iI a + iI b = iI (a + b) := (Int32.ofInt_add a b).symm
theorem iI_sub (a b : Int) : iI a - iI b = iI (a - b) := (Int32.ofInt_sub a b).symm
theorem iI_mul (a b : Int) : iI a * iI b = iI (a * b) := (Int32.ofInt_mul a b).symm
theorem iI_neg (a : Int) : -iI a = iI (-a) := (Int32.ofInt_neg a).symm
theorem lI_add (a b : Int) : lI a + lI b = lI (a + b) := (Int64.ofInt_add a b).symm
theorem lI_sub (a b : Int) : lI a - lI b = lI (a - b) := (Int64.ofInt_sub a b).symm
theorem lI_mul (a b : Int) : lI a * lI b = lI (a * b) := (Int64.ofInt_mul a b).symm
theorem lI_neg (a : Int) : -lI a = lI (-a) := (Int64.ofInt_neg a).symm
theorem iI_toInt {z : Int} (h : r32 z) : (iI z).toInt = z := Int32.toInt_ofInt_of_le (by have := h.1; omega) (by have := h.2; omega)
theorem lI_toInt {z : Int} (h : r64 z) : (lI z).toInt = z := Int64.toInt_ofInt_of_le (by have := h.1; omega) (by have := h.2; omega)
theorem iI_of (x : Int32) : iI x.toInt = x := Int32.ofInt_toInt x
theorem lI_of (x : Int64) : lI x.toInt = x := Int64.ofInt_toInt x
theorem iI_lt {a b : Int} (ha : r32 a) (hb : r32 b) : iI a < iI b ↔ a < b := by rw [Int32.lt_iff_toInt_lt, iI_toInt ha, iI_toInt hb]
theorem iI_le {a b : Int} (ha : r32 a) (hb : r32 b) : iI a ≤ iI b ↔ a ≤ b := by rw [Int32.le_iff_toInt_le, iI_toInt ha, iI_toInt hb]
theorem iI_eq {a b : Int} (ha : r32 a) (hb : r32 b) : iI a = iI b ↔ a = b := by rw [← Int32.toInt_inj, iI_toInt ha, iI_toInt hb]
theorem lI_lt {a b : Int} (ha : r64 a) (hb : r64 b) : lI a < lI b ↔ a < b := by rw [Int64.lt_iff_toInt_lt, lI_toInt ha, lI_toInt hb]
theorem lI_le {a b : Int} (ha : r64 a) (hb : r64 b) : lI a ≤ lI b ↔ a ≤ b := by rw [Int64.le_iff_toInt_le, lI_toInt ha, lI_toInt hb]
theorem lI_eq {a b : Int} (ha : r64 a) (hb : r64 b) : lI a = lI b ↔ a = b := by rw [← Int64.toInt_inj, lI_toInt ha, lI_toInt hb]
theorem iI_l {a : Int} (ha : r32 a) : (iI a).toInt64 = lI a := by
  rw [← Int64.toInt_inj, Int32.toInt_toInt64, iI_toInt ha, lI_toInt ⟨by have := ha.1; omega, by have := ha.2; omega⟩]
theorem tdiv_r {a b n : Int} (h1 : -n ≤ a) (h2 : a ≤ n) : -n ≤ a.tdiv b ∧ a.tdiv b ≤ n := by
  have h3 : (a.tdiv b).natAbs ≤ a.natAbs := by
    rw [Int.natAbs_tdiv]
    exact Nat.div_le_self _ _
  omega
theorem iI_div {a b : Int} (ha : -2147483647 ≤ a ∧ a ≤ 2147483647) (hb : r32 b) (h1 : b ≠ -1) : iI a / iI b = iI (a.tdiv b) := by
  have hr := tdiv_r (b := b) (n := 2147483647) ha.1 ha.2
  have hb1 : iI b ≠ -1 := fun h => h1 (by
    have := congrArg Int32.toInt h
    rw [iI_toInt hb] at this
    exact this)
  rw [← Int32.toInt_inj, Int32.toInt_div_of_ne_right _ _ hb1, iI_toInt ⟨by omega, by omega⟩, iI_toInt hb, iI_toInt ⟨by omega, by omega⟩]
theorem lI_div {a b : Int} (ha : -9223372036854775807 ≤ a ∧ a ≤ 9223372036854775807) (hb : r64 b) (h1 : b ≠ -1) : lI a / lI b = lI (a.tdiv b) := by
  have hr := tdiv_r (b := b) (n := 9223372036854775807) ha.1 ha.2
  have hb1 : lI b ≠ -1 := fun h => h1 (by
    have := congrArg Int64.toInt h
    rw [lI_toInt hb] at this
    exact this)
  rw [← Int64.toInt_inj, Int64.toInt_div_of_ne_right _ _ hb1, lI_toInt ⟨by omega, by omega⟩, lI_toInt hb, lI_toInt ⟨by omega, by omega⟩]
theorem iI_rem {a b : Int} (ha : -2147483647 ≤ a ∧ a ≤ 2147483647) (hb : r32 b) (h1 : b ≠ -1) : iI a - iI a / iI b * iI b = iI (a.tmod b) := by
  rw [iI_div ha hb h1, iI_mul, iI_sub, Int.tmod_def, Int.mul_comm]
theorem lI_rem {a b : Int} (ha : -9223372036854775807 ≤ a ∧ a ≤ 9223372036854775807) (hb : r64 b) (h1 : b ≠ -1) : lI a - lI a / lI b * lI b = lI (a.tmod b) := by
  rw [lI_div ha hb h1, lI_mul, lI_sub, Int.tmod_def, Int.mul_comm]
theorem fa_lit0 (n : Nat) : (OfNat.ofNat n : Int32) = Int32.ofNat n := rfl
theorem iI_lit (n : Nat) : (OfNat.ofNat n : Int32) = iI (OfNat.ofNat n : Int) := by
  rw [fa_lit0]
  exact Int32.ofInt_eq_ofNat.symm
theorem iI_clamp {a : Int} (h0 : 0 ≤ a) (h1 : a < 2147483648) : (iI a).toNatClampNeg = a.toNat := by
  have h : ((iI a).toInt).toNat = a.toNat := by rw [iI_toInt ⟨by omega, h1⟩]
  exact h
theorem iI_nI (n : Nat) : nI n = iI (n : Int) := Int32.ofInt_eq_ofNat.symm
theorem ib_iI {a : Int} {n : Nat} (h : r32 a) (h0 : 0 ≤ a) (h1 : a < n) : ib (iI a) n = true := by
  unfold ib
  rw [iI_toInt h]
  exact decide_eq_true ⟨h0, h1⟩
