/-! how the pure functions are worked out -/
theorem bd1_s {α β : Type} (a : α) (k : α → Option β) : bd1 (some a) k = k a := rfl
theorem bd2_s {α β γ : Type} (a : α) (b : β) (k : α → β → Option γ) : bd2 (some (a, b)) k = k a b := rfl
theorem bd3_s {α β γ δ : Type} (a : α) (b : β) (c : γ) (k : α → β → γ → Option δ) : bd3 (some (a, b, c)) k = k a b c := rfl
theorem bd4_s {α β γ δ ε : Type} (a : α) (b : β) (c : γ) (d : δ) (k : α → β → γ → δ → Option ε) : bd4 (some (a, b, c, d)) k = k a b c d := rfl
theorem nm_s {α β : Type} (x : α) (k : α → β) : nm x k = k x := rfl
theorem gd_s {α : Type} (k : Option α) : gd true k = k := rfl
/-- a truth as an int -/
def bv (c : Prop) [Decidable c] : Int32 := if c then 1 else 0
theorem bv_0 {c : Prop} [Decidable c] : (bv c = 0) ↔ ¬ c := by
  unfold bv
  by_cases h : c
  · rw [if_pos h]
    exact ⟨fun q => absurd q (by decide), fun q => absurd h q⟩
  · rw [if_neg h]
    exact ⟨fun _ => h, fun _ => rfl⟩
theorem isb_bv {c : Prop} [Decidable c] : isb (bv c) = true := by
  unfold bv
  by_cases h : c
  · rw [if_pos h]; rfl
  · rw [if_neg h]; rfl
theorem nlt32 {a b : Int32} : (¬ a < b) ↔ b ≤ a := by
  rw [Int32.lt_iff_toInt_lt, Int32.le_iff_toInt_le]
  omega
theorem P_within_eq (a b c : Int32) : P_X2_within a b c = some (bv (b ≤ a ∧ a ≤ c)) := by
  unfold P_X2_within bv
  by_cases h1 : a < b
  · rw [if_pos h1, if_neg (fun q => (nlt32.mpr q.1) h1)]
  · rw [if_neg h1]
    by_cases h2 : c < a
    · rw [if_pos h2, if_neg (fun q => (nlt32.mpr q.2) h2)]
    · rw [if_neg h2, if_pos ⟨nlt32.mp h1, nlt32.mp h2⟩]
theorem P_in_eq (a b c : Int32) : P_X3_in a b c = some (bv (b ≤ a ∧ a ≤ c)) := by
  unfold P_X3_in bv
  by_cases h1 : a < b
  · rw [if_pos h1, if_neg (fun q => (nlt32.mpr q.1) h1)]
  · rw [if_neg h1]
    by_cases h2 : c < a
    · rw [if_pos h2, if_neg (fun q => (nlt32.mpr q.2) h2)]
    · rw [if_neg h2, if_pos ⟨nlt32.mp h1, nlt32.mp h2⟩]
theorem P_inField_eq (a : Int32) : P_X2_inField a = some (bv (0 ≤ a ∧ a ≤ 12)) := by
  unfold P_X2_inField
  rw [P_within_eq, bd1_s, isb_bv, gd_s]
theorem P_isDot2_eq (a : Int32) : P_X2_isDot a = some (bv (0 ≤ a ∧ a ≤ 15)) := by
  unfold P_X2_isDot
  rw [P_within_eq, bd1_s, isb_bv, gd_s]
theorem P_isDot3_eq (a : Int32) : P_X3_isDot a = some (bv (0 ≤ a ∧ a ≤ 15)) := by
  unfold P_X3_isDot
  rw [P_in_eq, bd1_s, isb_bv, gd_s]
theorem P_isPart_eq (a : Int32) : P_X3_isPart a = some (bv (0 ≤ a ∧ a ≤ 1)) := by
  unfold P_X3_isPart
  rw [P_in_eq, bd1_s, isb_bv, gd_s]
theorem P_isLayer_eq (a : Int32) : P_X3_isLayer a = some (bv (0 ≤ a ∧ a ≤ 2)) := by
  unfold P_X3_isLayer
  rw [P_in_eq, bd1_s, isb_bv, gd_s]
theorem P_isHere_eq (a b : Int32) : P_X3_isHere a b = some (bv ((0 ≤ a ∧ a ≤ 12) ∧ (0 ≤ b ∧ b ≤ 12))) := by
  unfold P_X3_isHere
  rw [P_in_eq, bd1_s]
  by_cases h1 : (0 : Int32) ≤ a ∧ a ≤ 12
  · rw [if_neg (fun q => (bv_0.mp q) h1), P_in_eq, bd1_s]
    by_cases h2 : (0 : Int32) ≤ b ∧ b ≤ 12
    · rw [if_neg (fun q => (bv_0.mp q) h2), bv, if_pos ⟨h1, h2⟩]
    · rw [if_pos (bv_0.mpr h2), bv, if_neg (fun q => h2 q.2)]
  · rw [if_pos (bv_0.mpr h1), bv, if_neg (fun q => h1 q.1)]
theorem P_has_eq (a sz : Int32) : P_X0_has a sz = some (bv (0 ≤ a ∧ a < sz)) := by
  unfold P_X0_has bv
  by_cases h1 : a < 0
  · rw [if_pos h1, if_neg (fun q => (nlt32.mpr q.1) h1)]
  · rw [if_neg h1]
    by_cases h2 : sz ≤ a
    · rw [if_pos h2, if_neg (fun q => (nlt32.mpr h2) q.2)]
    · rw [if_neg h2, if_pos ⟨nlt32.mp h1, by
        rw [Int32.le_iff_toInt_le] at h2
        rw [Int32.lt_iff_toInt_lt]
        omega⟩]
/-- small numbers -/
theorem lit32 (n : Nat) : (OfNat.ofNat n : Int32) = nI (OfNat.ofNat n : Nat) := rfl
theorem cl32 {n : Nat} (h : n < 2147483648) : (nI n).toNatClampNeg = n := nI_clamp h
theorem ti32 {n : Nat} (h : n < 2147483648) : (nI n).toInt = (n : Int) := nI_toInt h
theorem ib_nI {n N : Nat} (h : n < N) (h2 : n < 2147483648) : ib (nI n) N = true := by
  unfold ib
  rw [ti32 h2]
  exact decide_eq_true ⟨by omega, by omega⟩
theorem of32 {x : Int32} {N : Nat} (h0 : 0 ≤ x.toInt) (h1 : x.toInt ≤ N) : ∃ n : Nat, n ≤ N ∧ x = nI n := by
  refine ⟨x.toInt.toNat, by omega, ?_⟩
  rw [← Int32.toInt_inj, ti32 (by have := Int32.toInt_lt x; omega)]
  omega
theorem le32 {n : Nat} {x : Int32} (hn : n < 2147483648) : nI n ≤ x ↔ (n : Int) ≤ x.toInt := by rw [Int32.le_iff_toInt_le, ti32 hn]
theorem le32' {n : Nat} {x : Int32} (hn : n < 2147483648) : x ≤ nI n ↔ x.toInt ≤ n := by rw [Int32.le_iff_toInt_le, ti32 hn]
theorem lt32 {n : Nat} {x : Int32} (hn : n < 2147483648) : nI n < x ↔ (n : Int) < x.toInt := by rw [Int32.lt_iff_toInt_lt, ti32 hn]
theorem lt32' {n : Nat} {x : Int32} (hn : n < 2147483648) : x < nI n ↔ x.toInt < n := by rw [Int32.lt_iff_toInt_lt, ti32 hn]
theorem layer_of {a : Int32} (h : (0 : Int32) ≤ a ∧ a ≤ 2) : ∃ i : Nat, i < 3 ∧ a = nI i := by
  obtain ⟨h0, h1⟩ := h
  rw [lit32, le32 (by decide)] at h0
  rw [lit32, le32' (by decide)] at h1
  obtain ⟨n, hn, e⟩ := of32 (N := 2) (by omega) (by omega)
  exact ⟨n, by omega, e⟩
theorem layer_in {i : Nat} (h : i < 3) : (0 : Int32) ≤ nI i ∧ nI i ≤ 2 := by
  rw [lit32, lit32, nI_leI (by decide) (by omega), nI_leI (by omega) (by decide)]
  omega
/-- no such layer: number 0 stands in for it -/
theorem sel_no {a : Int32} (h : ¬ ((0 : Int32) ≤ a ∧ a ≤ 2)) {i : Nat} : P_X2_within a (0 : Int32) (2 : Int32) = some (1 : Int32) → a.toNatClampNeg = i := by
  intro q
  rw [P_within_eq] at q
  exact absurd (Option.some.inj q) (by rw [bv_0.mpr h]; decide)
theorem sel_yes {i : Nat} (h : i < 3) : P_X2_within (nI i) (0 : Int32) (2 : Int32) = some (1 : Int32) → (nI i).toNatClampNeg = i := fun _ => cl32 (by omega)
theorem up2_same {α : Type} (G : Nat → Nat → α) (s i : Nat) : up2 G s i (G s i) = G := by
  funext s' i'
  unfold up2
  by_cases h : s' = s
  · rw [if_pos h]
    by_cases h2 : i' = i
    · rw [if_pos h2, h, h2]
    · rw [if_neg h2]
  · rw [if_neg h]
theorem up2_at {α : Type} (G : Nat → Nat → α) (s i : Nat) (v : α) : up2 G s i v s i = v := by simp [up2]
theorem up2_ni {α : Type} (G : Nat → Nat → α) {s i i' : Nat} (v : α) (h : i' ≠ i) : up2 G s i v s i' = G s i' := by simp [up2, h]
theorem up2_ns {α : Type} (G : Nat → Nat → α) {s i s' : Nat} (i' : Nat) (v : α) (h : s' ≠ s) : up2 G s i v s' i' = G s' i' := by simp [up2, h]
theorem Inv_up {XS YS : Nat → Nat → Nat → Int32} {SZ FO : Nat → Nat → Int32} {ke : Int32} {st im_ kp st' : Nat → Int32} (hI : Inv XS YS SZ FO ke st im_ kp) {i : Nat} (hi : i < 3) {xs' ys' : Nat → Int32} {sz' fo' : Int32} (hok : okL xs' ys' sz' fo') (hnew : Lay st' xs' ys' sz' fo' i)
    (hold : ∀ i', i' < 3 → i' ≠ i → st' i' = st i' ∧ st' (3 + i') = st (3 + i') ∧ ∀ k, k < 8 → st' (6 + 8 * i' + k) = st (6 + 8 * i' + k) ∧ st' (30 + 8 * i' + k) = st (30 + 8 * i' + k)) :
    Inv (up2 XS 0 i xs') (up2 YS 0 i ys') (up2 SZ 0 i sz') (up2 FO 0 i fo') ke st' im_ kp := by
  obtain ⟨h1, h2, h3, h4⟩ := hI
  refine ⟨fun s j hs hj => ?_, fun j hj => ?_, fun s j hs hj => ?_, h4⟩
  · by_cases e : s = 0
    · subst e
      by_cases e2 : j = i
      · subst e2
        rw [up2_at, up2_at, up2_at, up2_at]; exact hok
      · rw [up2_ni _ _ e2, up2_ni _ _ e2, up2_ni _ _ e2, up2_ni _ _ e2]; exact h1 0 j hs hj
    · rw [up2_ns _ _ _ e, up2_ns _ _ _ e, up2_ns _ _ _ e, up2_ns _ _ _ e]; exact h1 s j hs hj
  · by_cases e2 : j = i
    · subst e2
      rw [up2_at, up2_at, up2_at, up2_at]; exact hnew
    · rw [up2_ni _ _ e2, up2_ni _ _ e2, up2_ni _ _ e2, up2_ni _ _ e2]
      obtain ⟨a, b, c⟩ := h2 j hj
      obtain ⟨a', b', c'⟩ := hold j hj e2
      exact ⟨a'.trans a, b'.trans b, fun k hk => ⟨(c' k hk).1.trans (c k hk).1, (c' k hk).2.trans (c k hk).2⟩⟩
  · rw [up2_ns _ _ _ (by omega), up2_ns _ _ _ (by omega), up2_ns _ _ _ (by omega), up2_ns _ _ _ (by omega)]
    exact h3 s j hs hj
theorem nb {c : Prop} [Decidable c] (h : c) : ¬ bv c = 0 := fun q => bv_0.mp q h
theorem pb {c : Prop} [Decidable c] (h : ¬ c) : bv c = 0 := bv_0.mpr h
theorem z0 (i : Nat) : (0 : Int32) + nI i = nI i := by rw [lit32, nI_add, Nat.zero_add]
theorem z3 (i : Nat) : (3 : Int32) + nI i = nI (3 + i) := by rw [lit32, nI_add]
theorem z6 (i : Nat) : (6 : Int32) + nI i = nI (6 + i) := by rw [lit32, nI_add]
theorem z30 (i : Nat) : (30 : Int32) + nI i = nI (30 + i) := by rw [lit32, nI_add]
theorem P_place_eq (i n : Nat) : P_X3_place (nI i) (nI n) = some (nI (8 * i + n)) := by
  unfold P_X3_place
  rw [lit32, pk_mul, nI_add]
theorem P_isPoint_eq {i : Nat} (hi : i < 3) (a : Int32) {st : Nat → Int32} {n : Nat} (hn : n ≤ 8) (h : st i = nI n) : P_X3_isPoint (nI i) a st = some (bv (0 ≤ a ∧ a < nI n)) := by
  unfold P_X3_isPoint
  rw [z0, ib_nI (by omega) (by omega), gd_s, P_in_eq, bd1_s, isb_bv, gd_s, cl32 (by omega), h]
  have e : (nI n - 1).toInt = (n : Int) - 1 := by
    rw [lit32, pk_sub_toInt (by omega) (by omega)]
    rfl
  have q : ((0 : Int32) ≤ a ∧ a ≤ nI n - 1) ↔ ((0 : Int32) ≤ a ∧ a < nI n) := by
    rw [Int32.le_iff_toInt_le (x := a) (y := nI n - 1), e, lt32' (by omega)]
    constructor
    · rintro ⟨x, y⟩; exact ⟨x, by omega⟩
    · rintro ⟨x, y⟩; exact ⟨x, by omega⟩
  unfold bv
  by_cases c : (0 : Int32) ≤ a ∧ a < nI n
  · rw [if_pos c, if_pos (q.mpr c)]
  · rw [if_neg c, if_neg (fun z => c (q.mp z))]
theorem point_of {a : Int32} {n : Nat} (hn : n ≤ 8) (h : (0 : Int32) ≤ a ∧ a < nI n) : ∃ k : Nat, k < n ∧ a = nI k := by
  obtain ⟨h0, h1⟩ := h
  rw [lit32, le32 (by decide)] at h0
  rw [lt32' (by omega)] at h1
  obtain ⟨k, hk, e⟩ := of32 (x := a) (N := 8) (by omega) (by omega)
  refine ⟨k, ?_, e⟩
  rw [e, ti32 (by omega)] at h1
  omega
theorem here12 {a : Int32} (h : (0 : Int32) ≤ a ∧ a ≤ 12) : 0 ≤ a.toInt ∧ a.toInt ≤ 12 := by
  obtain ⟨h0, h1⟩ := h
  rw [lit32, le32 (by decide)] at h0
  rw [lit32, le32' (by decide)] at h1
  omega
