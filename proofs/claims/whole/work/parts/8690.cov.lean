/-! covers -/
def cvN (fo : Int32) (a : Nat) : Nat := if fo = 0 then (if 498960 < a then 498960 else a) else (if a % 997920 ≤ 498960 then a % 997920 else 997920 - a % 997920)
theorem cvN_le (fo : Int32) (a : Nat) : cvN fo a ≤ 498960 := by
  unfold cvN
  have := Nat.mod_lt a (show 0 < 997920 by decide)
  repeat' split
  all_goals omega
theorem RW_bnd {xs ys : Nat → Int32} {n d : Nat} (hn : n ≤ 8) (hd : d < 16) (hx : ∀ k, k < 8 → (0 ≤ (xs k).toInt ∧ (xs k).toInt ≤ 12) ∧ (0 ≤ (ys k).toInt ∧ (ys k).toInt ≤ 12)) {dx dy : Int} (hdx : -12 ≤ dx ∧ dx ≤ 12) (hdy : -12 ≤ dy ∧ dy ≤ 12) (hF : inF xs ys n dx dy) : -1200000000 ≤ RW xs ys n d dx dy ∧ RW xs ys n d dx dy ≤ 1200000000 := by
  refine (rawOf_eq (st := fun j => if j = 0 then nI n else if j < 14 then xs (j - 6) else ys (j - 30)) (i := 0) (by decide) hn hd rfl (fun k hk => ?_) hx hdx hdy hF (fun _ => 0) (fun _ => 0) (fun _ => 0) (fun _ => 0)).2
  show (if 6 + 8 * 0 + k = 0 then nI n else if 6 + 8 * 0 + k < 14 then xs (6 + 8 * 0 + k - 6) else ys (6 + 8 * 0 + k - 30)) = xs k ∧ (if 30 + 8 * 0 + k = 0 then nI n else if 30 + 8 * 0 + k < 14 then xs (30 + 8 * 0 + k - 6) else ys (30 + 8 * 0 + k - 30)) = ys k
  rw [if_neg (by omega), if_pos (by omega), if_neg (by omega), if_neg (by omega)]
  constructor
  · congr 1; omega
  · congr 1; omega
theorem s498 : (498960 : Int64) = lN 498960 := rfl
theorem s997 : (997920 : Int64) = lN 997920 := rfl
theorem coverParts_eq {xs ys : Nat → Int32} {n d : Nat} (hn : n ≤ 8) (hd : d < 16) (hx : ∀ k, k < 8 → (0 ≤ (xs k).toInt ∧ (xs k).toInt ≤ 12) ∧ (0 ≤ (ys k).toInt ∧ (ys k).toInt ≤ 12)) {dx dy : Int} (hdx : -12 ≤ dx ∧ dx ≤ 12) (hdy : -12 ≤ dy ∧ dy ≤ 12) (hF : inF xs ys n dx dy) (fo : Int32) : P_X0_coverParts (nI d) (iI dx) (iI dy) xs ys (nI n) fo = some (lN (cvN fo (RW xs ys n d dx dy).natAbs)) := by
  have hb := RW_bnd hn hd hx hdx hdy hF
  unfold P_X0_coverParts cvN
  rw [rawParts_eq hn hd hx hdx hdy, bd1_s, abs_1 (by omega), nm_s]
  generalize hA : (RW xs ys n d dx dy).natAbs = A
  have hA2 : A ≤ 1200000000 := by omega
  by_cases hf : fo = 0
  · rw [if_pos hf, if_pos hf, s498]
    by_cases h : 498960 < A
    · rw [if_pos h, if_pos (by rw [pk_lLT (by decide) (by omega)]; exact h)]
    · rw [if_neg h, if_neg (by rw [pk_lLT (by decide) (by omega)]; exact h)]
  · have hm := Nat.mod_lt A (show 0 < 997920 by decide)
    rw [if_neg hf, if_neg hf, s498, s997, pk_lRem (by omega) (by decide) (by decide), nm_s]
    by_cases h : A % 997920 ≤ 498960
    · rw [if_pos h, if_pos (by rw [pk_lLE (by omega) (by decide)]; exact h)]
    · rw [if_neg h, if_neg (by rw [pk_lLE (by omega) (by decide)]; exact h), lN_sub (by omega)]
theorem coverMoved_eq {st xs ys : Nat → Int32} {i n d : Nat} (hi : i < 3) (hn : n ≤ 8) (hd : d < 16) (h0 : st i = nI n) {fo : Int32} (h3 : st (3 + i) = fo) (hl : ∀ k, k < 8 → st (6 + 8 * i + k) = xs k ∧ st (30 + 8 * i + k) = ys k) (hx : ∀ k, k < 8 → (0 ≤ (xs k).toInt ∧ (xs k).toInt ≤ 12) ∧ (0 ≤ (ys k).toInt ∧ (ys k).toInt ≤ 12)) {dx dy : Int} (hdx : -12 ≤ dx ∧ dx ≤ 12) (hdy : -12 ≤ dy ∧ dy ≤ 12) (hF : inF xs ys n dx dy) (px py lx ly : Nat → Int64) :
    ∃ (px' py' : Nat → Int64) (co' : Int32) (lx' ly' : Nat → Int64) (lf' : Int32), P_X3_coverMoved (nI i) (nI d) (iI dx) (iI dy) st px py lx ly = some (lN (cvN fo (RW xs ys n d dx dy).natAbs), px', py', co', lx', ly', lf') := by
  obtain ⟨⟨p1, p2, c1, u1, w1, f1, e⟩, hb⟩ := rawOf_eq hi hn hd h0 hl hx hdx hdy hF px py lx ly
  refine ⟨p1, p2, c1, u1, w1, f1, ?_⟩
  unfold P_X3_coverMoved cvN
  rw [e, bd7_s, plain_eq (by omega), bd1_s, z3, ib_nI (by omega) (by omega), gd_s, cl32 (by omega), h3]
  generalize hA : (RW xs ys n d dx dy).natAbs = A
  have hA2 : A ≤ 1200000000 := by omega
  by_cases hf : fo = 0
  · rw [if_pos hf, if_pos hf, s498]
    by_cases h : 498960 < A
    · rw [if_pos h, if_neg (by rw [pk_lLE (by omega) (by decide)]; omega)]
    · rw [if_neg h, if_pos (by rw [pk_lLE (by omega) (by decide)]; omega)]
  · have hm := Nat.mod_lt A (show 0 < 997920 by decide)
    rw [if_neg hf, if_neg hf, s498, s997, pk_lRem (by omega) (by decide) (by decide), nm_s]
    by_cases h : A % 997920 ≤ 498960
    · rw [if_pos h, if_pos (by rw [pk_lLE (by omega) (by decide)]; exact h)]
    · rw [if_neg h, if_neg (by rw [pk_lLE (by omega) (by decide)]; exact h), lN_sub (by omega)]
section COV
variable {XS YS : Nat → Nat → Nat → Int32} {SZ FO : Nat → Nat → Int32} {ke : Int32} {st im_ kp : Nat → Int32}
/-- raw and cover of a dot by a layer -/
def RLy (XS YS : Nat → Nat → Nat → Int32) (SZ : Nat → Nat → Int32) (i d : Nat) : Int := RW (XS 0 i) (YS 0 i) (SZ 0 i).toInt.toNat d 0 0
def CLy (XS YS : Nat → Nat → Nat → Int32) (SZ FO : Nat → Nat → Int32) (i d : Nat) : Nat := cvN (FO 0 i) (RLy XS YS SZ i d).natAbs
theorem CL_le (i d : Nat) : CLy XS YS SZ FO i d ≤ 498960 := cvN_le _ _
theorem layI (hI : Inv XS YS SZ FO ke st im_ kp) {i : Nat} (hi : i < 3) : ∃ n : Nat, n ≤ 8 ∧ SZ 0 i = nI n ∧ (SZ 0 i).toInt.toNat = n ∧ st i = nI n ∧ inF (XS 0 i) (YS 0 i) n 0 0 := by
  obtain ⟨hsz, hfo, hxy⟩ := hI.1 0 i (by decide) hi
  obtain ⟨n, hn, en⟩ := of32 (N := 8) hsz.1 hsz.2
  refine ⟨n, hn, en, ?_, (hI.2.1 i hi).1.trans en, fun k hk => ?_⟩
  · rw [en, ti32 (by omega)]; omega
  · have := hxy k (by omega)
    omega
theorem rawC (hI : Inv XS YS SZ FO ke st im_ kp) {i d : Nat} (hi : i < 3) (hd : d < 16) : P_X0_rawParts (nI d) (0 : Int32) (0 : Int32) (XS 0 i) (YS 0 i) (SZ 0 i) = some (lI (RLy XS YS SZ i d)) := by
  obtain ⟨n, hn, en, en2, -, -⟩ := layI hI hi
  unfold RLy
  rw [en2, en, z32]
  exact rawParts_eq hn hd (hI.1 0 i (by decide) hi).2.2 (by omega) (by omega)
theorem rawM (hI : Inv XS YS SZ FO ke st im_ kp) {i d : Nat} (hi : i < 3) (hd : d < 16) (px py lx ly : Nat → Int64) : ∃ (px' py' : Nat → Int64) (co' : Int32) (lx' ly' : Nat → Int64) (lf' : Int32), P_X3_rawOf (nI i) (nI d) (0 : Int32) (0 : Int32) st px py lx ly = some (lI (RLy XS YS SZ i d), px', py', co', lx', ly', lf') := by
  obtain ⟨n, hn, en, en2, e3, hF⟩ := layI hI hi
  unfold RLy
  rw [en2, z32]
  exact (rawOf_eq hi hn hd e3 (hI.2.1 i hi).2.2 (hI.1 0 i (by decide) hi).2.2 (by omega) (by omega) hF px py lx ly).1
theorem RL_b (hI : Inv XS YS SZ FO ke st im_ kp) {i d : Nat} (hi : i < 3) (hd : d < 16) : -1200000000 ≤ RLy XS YS SZ i d ∧ RLy XS YS SZ i d ≤ 1200000000 := by
  obtain ⟨n, hn, en, en2, e3, hF⟩ := layI hI hi
  unfold RLy
  rw [en2]
  exact RW_bnd hn hd (hI.1 0 i (by decide) hi).2.2 (by omega) (by omega) hF
theorem covC (hI : Inv XS YS SZ FO ke st im_ kp) {i d : Nat} (hi : i < 3) (hd : d < 16) : P_X0_coverParts (nI d) (0 : Int32) (0 : Int32) (XS 0 i) (YS 0 i) (SZ 0 i) (FO 0 i) = some (lN (CLy XS YS SZ FO i d)) := by
  obtain ⟨n, hn, en, en2, e3, hF⟩ := layI hI hi
  unfold CLy RLy
  rw [en2, en, z32]
  exact coverParts_eq hn hd (hI.1 0 i (by decide) hi).2.2 (by omega) (by omega) hF (FO 0 i)
theorem covM (hI : Inv XS YS SZ FO ke st im_ kp) {i d : Nat} (hi : i < 3) (hd : d < 16) (px py lx ly : Nat → Int64) : ∃ (px' py' : Nat → Int64) (co' : Int32) (lx' ly' : Nat → Int64) (lf' : Int32), P_X3_coverOf (nI i) (nI d) st px py lx ly = some (lN (CLy XS YS SZ FO i d), px', py', co', lx', ly', lf') := by
  obtain ⟨n, hn, en, en2, e3, hF⟩ := layI hI hi
  obtain ⟨p1, p2, c1, u1, w1, f1, e⟩ := coverMoved_eq hi hn hd e3 (hI.2.1 i hi).2.1 (hI.2.1 i hi).2.2 (hI.1 0 i (by decide) hi).2.2 (dx := 0) (dy := 0) (by omega) (by omega) hF px py lx ly
  refine ⟨p1, p2, c1, u1, w1, f1, ?_⟩
  unfold P_X3_coverOf CLy RLy
  rw [en2, z32, e, bd7_s]
end COV
theorem dot_of {a : Int32} (h : (0 : Int32) ≤ a ∧ a ≤ 15) : ∃ d : Nat, d < 16 ∧ a = nI d := by
  have q := (rgN (a := a) 0 15 (by decide) (by decide)).mp h
  obtain ⟨n, hn, e⟩ := of32 (x := a) (N := 15) (by omega) (by omega)
  exact ⟨n, by omega, e⟩
theorem pp_raw {XS YS : Nat → Nat → Nat → Int32} {SZ FO : Nat → Nat → Int32} {ke : Int32} {st im_ kp : Nat → Int32} (hI : Inv XS YS SZ FO ke st im_ kp) (a0 : Int32) (a1 : Int32) (a2 : Int32) (px : Nat → Int64) (py : Nat → Int64) (co : Int32) (lx : Nat → Int64) (ly : Nat → Int64) (lf : Int32) : ∃ (i : Nat) (r : Int64) (pxM : Nat → Int64) (pyM : Nat → Int64) (coM : Int32) (lxM : Nat → Int64) (lyM : Nat → Int64) (lfM : Int32), i < 3 ∧ (P_X2_within a0 (0 : Int32) (2 : Int32) = some (1 : Int32) → a0.toNatClampNeg = i) ∧ P_X2_raw a0 a1 a2 (XS 0 i) (YS 0 i) (SZ 0 i) = some r ∧ P_X3_raw a0 a1 a2 st px py co lx ly lf = some (r, pxM, pyM, coM, lxM, lyM, lfM) := by
  by_cases hL : (0 : Int32) ≤ a0 ∧ a0 ≤ 2
  · obtain ⟨i, hi, rfl⟩ := layer_of hL
    by_cases hd : (0 : Int32) ≤ a1 ∧ a1 ≤ 15
    · obtain ⟨d, hd16, rfl⟩ := dot_of hd
      by_cases hp : (0 : Int32) ≤ a2 ∧ a2 ≤ 1
      · obtain ⟨p1, p2, c1, u1, w1, f1, e⟩ := rawM hI hi hd16 px py lx ly
        have hb := RL_b hI hi hd16
        refine ⟨i, tv (RLy XS YS SZ i d) 498960 a2, p1, p2, c1, u1, w1, f1, hi, sel_yes hi, ?_, ?_⟩
        · unfold P_X2_raw
          rw [P_within_eq, bd1_s, if_neg (nb hL), P_isDot2_eq, bd1_s, if_neg (nb hd), P_within_eq, bd1_s, if_neg (nb hp), rawC hI hi hd16, bd1_s, s498, low_eq (by omega) (by decide) (by decide), bd1_s]
        · unfold P_X3_raw
          rw [P_isLayer_eq, bd1_s, if_neg (nb hL), P_isDot3_eq, bd1_s, if_neg (nb hd), P_isPart_eq, bd1_s, if_neg (nb hp), e, bd7_s, s498, told_eq (by omega) (by decide) (by decide), bd1_s]
      · refine ⟨i, (-1000000000000000002), px, py, co, lx, ly, lf, hi, sel_yes hi, ?_, ?_⟩
        · unfold P_X2_raw
          rw [P_within_eq, bd1_s, if_neg (nb hL), P_isDot2_eq, bd1_s, if_neg (nb hd), P_within_eq, bd1_s, if_pos (pb hp)]
        · unfold P_X3_raw
          rw [P_isLayer_eq, bd1_s, if_neg (nb hL), P_isDot3_eq, bd1_s, if_neg (nb hd), P_isPart_eq, bd1_s, if_pos (pb hp)]
    · refine ⟨i, (-1000000000000000001), px, py, co, lx, ly, lf, hi, sel_yes hi, ?_, ?_⟩
      · unfold P_X2_raw
        rw [P_within_eq, bd1_s, if_neg (nb hL), P_isDot2_eq, bd1_s, if_pos (pb hd)]
      · unfold P_X3_raw
        rw [P_isLayer_eq, bd1_s, if_neg (nb hL), P_isDot3_eq, bd1_s, if_pos (pb hd)]
  · refine ⟨0, (-1000000000000000001), px, py, co, lx, ly, lf, by decide, sel_no hL, ?_, ?_⟩
    · unfold P_X2_raw
      rw [P_within_eq, bd1_s, if_pos (pb hL)]
    · unfold P_X3_raw
      rw [P_isLayer_eq, bd1_s, if_pos (pb hL)]
theorem pp_cover {XS YS : Nat → Nat → Nat → Int32} {SZ FO : Nat → Nat → Int32} {ke : Int32} {st im_ kp : Nat → Int32} (hI : Inv XS YS SZ FO ke st im_ kp) (a0 : Int32) (a1 : Int32) (a2 : Int32) (px : Nat → Int64) (py : Nat → Int64) (co : Int32) (lx : Nat → Int64) (ly : Nat → Int64) (lf : Int32) : ∃ (i : Nat) (r : Int64) (pxM : Nat → Int64) (pyM : Nat → Int64) (coM : Int32) (lxM : Nat → Int64) (lyM : Nat → Int64) (lfM : Int32), i < 3 ∧ (P_X2_within a0 (0 : Int32) (2 : Int32) = some (1 : Int32) → a0.toNatClampNeg = i) ∧ P_X2_cover a0 a1 a2 (XS 0 i) (YS 0 i) (SZ 0 i) (FO 0 i) = some r ∧ P_X3_cover a0 a1 a2 st px py co lx ly lf = some (r, pxM, pyM, coM, lxM, lyM, lfM) := by
  by_cases hL : (0 : Int32) ≤ a0 ∧ a0 ≤ 2
  · obtain ⟨i, hi, rfl⟩ := layer_of hL
    by_cases hd : (0 : Int32) ≤ a1 ∧ a1 ≤ 15
    · obtain ⟨d, hd16, rfl⟩ := dot_of hd
      by_cases hp : (0 : Int32) ≤ a2 ∧ a2 ≤ 1
      · obtain ⟨p1, p2, c1, u1, w1, f1, e⟩ := covM hI hi hd16 px py lx ly
        have hb := CL_le (XS := XS) (YS := YS) (SZ := SZ) (FO := FO) i d
        have hlN : lN (CLy XS YS SZ FO i d) = lI ((CLy XS YS SZ FO i d : Nat) : Int) := (lI_lN (by omega)).symm
        refine ⟨i, tv ((CLy XS YS SZ FO i d : Nat) : Int) 498960 a2, p1, p2, c1, u1, w1, f1, hi, sel_yes hi, ?_, ?_⟩
        · unfold P_X2_cover
          rw [P_within_eq, bd1_s, if_neg (nb hL), P_isDot2_eq, bd1_s, if_neg (nb hd), P_within_eq, bd1_s, if_neg (nb hp), covC hI hi hd16, bd1_s, s498, hlN, low_eq (by omega) (by decide) (by decide), bd1_s]
        · unfold P_X3_cover
          rw [P_isLayer_eq, bd1_s, if_neg (nb hL), P_isDot3_eq, bd1_s, if_neg (nb hd), P_isPart_eq, bd1_s, if_neg (nb hp), e, bd7_s, s498, hlN, told_eq (by omega) (by decide) (by decide), bd1_s]
      · refine ⟨i, (-2), px, py, co, lx, ly, lf, hi, sel_yes hi, ?_, ?_⟩
        · unfold P_X2_cover
          rw [P_within_eq, bd1_s, if_neg (nb hL), P_isDot2_eq, bd1_s, if_neg (nb hd), P_within_eq, bd1_s, if_pos (pb hp)]
        · unfold P_X3_cover
          rw [P_isLayer_eq, bd1_s, if_neg (nb hL), P_isDot3_eq, bd1_s, if_neg (nb hd), P_isPart_eq, bd1_s, if_pos (pb hp)]
    · refine ⟨i, (-1), px, py, co, lx, ly, lf, hi, sel_yes hi, ?_, ?_⟩
      · unfold P_X2_cover
        rw [P_within_eq, bd1_s, if_neg (nb hL), P_isDot2_eq, bd1_s, if_pos (pb hd)]
      · unfold P_X3_cover
        rw [P_isLayer_eq, bd1_s, if_neg (nb hL), P_isDot3_eq, bd1_s, if_pos (pb hd)]
  · refine ⟨0, (-1), px, py, co, lx, ly, lf, by decide, sel_no hL, ?_, ?_⟩
    · unfold P_X2_cover
      rw [P_within_eq, bd1_s, if_pos (pb hL)]
    · unfold P_X3_cover
      rw [P_isLayer_eq, bd1_s, if_pos (pb hL)]
/-- the sum of what is raw, from dot k on -/
def sumR (f : Nat → Int) : Nat → Nat → Int
  | _, 0 => 0
  | k, e + 1 => f k + sumR f (k + 1) e
theorem sumR_b {f : Nat → Int} (h : ∀ k, k < 16 → -1200000000 ≤ f k ∧ f k ≤ 1200000000) : ∀ (e k : Nat), k + e ≤ 16 → -(1200000000 * (e : Int)) ≤ sumR f k e ∧ sumR f k e ≤ 1200000000 * (e : Int)
  | 0, _, _ => by simp [sumR]
  | e + 1, k, hk => by
    have h1 := h k (by omega)
    have h2 := sumR_b h e (k + 1) (by omega)
    show -(1200000000 * ((e + 1 : Nat) : Int)) ≤ f k + sumR f (k + 1) e ∧ f k + sumR f (k + 1) e ≤ 1200000000 * ((e + 1 : Nat) : Int)
    omega
theorem bd8_s {A0 A1 A2 A3 A4 A5 A6 A7 β : Type} (a0 : A0) (a1 : A1) (a2 : A2) (a3 : A3) (a4 : A4) (a5 : A5) (a6 : A6) (a7 : A7) (k : A0 → A1 → A2 → A3 → A4 → A5 → A6 → A7 → Option β) : bd8 (some (a0, a1, a2, a3, a4, a5, a6, a7)) k = k a0 a1 a2 a3 a4 a5 a6 a7 := rfl
theorem areaC {xs ys : Nat → Int32} {sz : Int32} {f : Nat → Int} (h : ∀ d, d < 16 → P_X0_rawParts (nI d) (0 : Int32) (0 : Int32) xs ys sz = some (lI (f d))) : ∀ (e k m : Nat) (acc : Int), k + e = 16 → e < m → L_X2_area_36 xs ys sz m (nI k) (lI acc) = some (nI 16, lI (acc + sumR f k e)) := by
  intro e
  induction e with
  | zero =>
    intro k m acc h1 h2
    obtain ⟨m, rfl⟩ : ∃ z, m = z + 1 := ⟨m - 1, by omega⟩
    obtain rfl : k = 16 := by omega
    rw [L_X2_area_36_s, if_pos (by decide)]
    show _ = some (nI 16, lI (acc + 0))
    rw [Int.add_zero]
  | succ e ih =>
    intro k m acc h1 h2
    obtain ⟨m, rfl⟩ : ∃ z, m = z + 1 := ⟨m - 1, by omega⟩
    have e1 : nI k + (1 : Int32) = nI (k + 1) := by rw [lit32, nI_add]
    rw [L_X2_area_36_s, if_neg (by rw [lit32, nI_leI (by decide) (by omega)]; omega), h k (by omega), bd1_s, nm_s, e1, lI_add, ih (k + 1) m (acc + f k) (by omega) (by omega), Int.add_assoc]
    rfl
theorem areaM {st : Nat → Int32} {a : Int32} {f : Nat → Int} (h : ∀ d, d < 16 → ∀ px py lx ly : Nat → Int64, ∃ (px' py' : Nat → Int64) (co' : Int32) (lx' ly' : Nat → Int64) (lf' : Int32), P_X3_rawOf a (nI d) (0 : Int32) (0 : Int32) st px py lx ly = some (lI (f d), px', py', co', lx', ly', lf')) : ∀ (e k m : Nat) (acc : Int) (px py : Nat → Int64) (co : Int32) (lx ly : Nat → Int64) (lf : Int32), k + e = 16 → e < m → ∃ (px' py' : Nat → Int64) (co' : Int32) (lx' ly' : Nat → Int64) (lf' : Int32), L_X3_area_27 st a m (nI k) (lI acc) px py co lx ly lf = some (nI 16, lI (acc + sumR f k e), px', py', co', lx', ly', lf') := by
  intro e
  induction e with
  | zero =>
    intro k m acc px py co lx ly lf h1 h2
    obtain ⟨m, rfl⟩ : ∃ z, m = z + 1 := ⟨m - 1, by omega⟩
    obtain rfl : k = 16 := by omega
    refine ⟨px, py, co, lx, ly, lf, ?_⟩
    rw [L_X3_area_27_s, if_pos (by decide)]
    show _ = some (nI 16, lI (acc + 0), px, py, co, lx, ly, lf)
    rw [Int.add_zero]
  | succ e ih =>
    intro k m acc px py co lx ly lf h1 h2
    obtain ⟨m, rfl⟩ : ∃ z, m = z + 1 := ⟨m - 1, by omega⟩
    have e1 : nI k + (1 : Int32) = nI (k + 1) := by rw [lit32, nI_add]
    obtain ⟨p1, p2, c1, u1, w1, f1, e2⟩ := h k (by omega) px py lx ly
    obtain ⟨p3, p4, c3, u3, w3, f3, e3⟩ := ih (k + 1) m (acc + f k) p1 p2 c1 u1 w1 f1 (by omega) (by omega)
    refine ⟨p3, p4, c3, u3, w3, f3, ?_⟩
    rw [L_X3_area_27_s, if_neg (by rw [lit32, nI_leI (by decide) (by omega)]; omega), e2, bd7_s, nm_s, e1, lI_add, e3, Int.add_assoc]
    rfl
theorem pp_area {XS YS : Nat → Nat → Nat → Int32} {SZ FO : Nat → Nat → Int32} {ke : Int32} {st im_ kp : Nat → Int32} (hI : Inv XS YS SZ FO ke st im_ kp) (a0 : Int32) (a1 : Int32) (px : Nat → Int64) (py : Nat → Int64) (co : Int32) (lx : Nat → Int64) (ly : Nat → Int64) (lf : Int32) : ∃ (i : Nat) (r : Int64) (pxM : Nat → Int64) (pyM : Nat → Int64) (coM : Int32) (lxM : Nat → Int64) (lyM : Nat → Int64) (lfM : Int32), i < 3 ∧ (P_X2_within a0 (0 : Int32) (2 : Int32) = some (1 : Int32) → a0.toNatClampNeg = i) ∧ P_X2_area a0 a1 (XS 0 i) (YS 0 i) (SZ 0 i) = some r ∧ P_X3_area a0 a1 st px py co lx ly lf = some (r, pxM, pyM, coM, lxM, lyM, lfM) := by
  by_cases hL : (0 : Int32) ≤ a0 ∧ a0 ≤ 2
  · obtain ⟨i, hi, rfl⟩ := layer_of hL
    by_cases hp : (0 : Int32) ≤ a1 ∧ a1 ≤ 1
    · have q0 : (0 : Int32) = nI 0 := rfl
      have hb := sumR_b (f := RLy XS YS SZ i) (fun k hk => RL_b hI hi hk) 16 0 (by decide)
      have eC := areaC (f := RLy XS YS SZ i) (fun d hd => rawC hI hi hd) 16 0 1000 0 (by decide) (by decide)
      obtain ⟨p1, p2, c1, u1, w1, f1, e⟩ := areaM (a := nI i) (f := RLy XS YS SZ i) (fun d hd px py lx ly => rawM hI hi hd px py lx ly) 16 0 1000 0 px py co lx ly lf (by decide) (by decide)
      rw [Int.zero_add] at eC e
      have s9 : (9 : Int64) = lI 9 := by decide
      have s55 : (55440 : Int64) = lN 55440 := rfl
      refine ⟨i, tv (sumR (RLy XS YS SZ i) 0 16) 55440 a1, p1, p2, c1, u1, w1, f1, hi, sel_yes hi, ?_, ?_⟩
      · unfold P_X2_area
        rw [P_within_eq, bd1_s, if_neg (nb hL), P_within_eq, bd1_s, if_neg (nb hp), q0, z64, eC, bd2_s, s55, low_eq (by omega) (by decide) (by decide), bd1_s]
      · unfold P_X3_area
        rw [P_isLayer_eq, bd1_s, if_neg (nb hL), P_isPart_eq, bd1_s, if_neg (nb hp), q0, z64, e, bd8_s, s9, lI_mul, s498, told_eq (by omega) (by decide) (by decide), bd1_s, tv_9 (by omega)]
    · refine ⟨i, (-1000000000000000002), px, py, co, lx, ly, lf, hi, sel_yes hi, ?_, ?_⟩
      · unfold P_X2_area
        rw [P_within_eq, bd1_s, if_neg (nb hL), P_within_eq, bd1_s, if_pos (pb hp)]
      · unfold P_X3_area
        rw [P_isLayer_eq, bd1_s, if_neg (nb hL), P_isPart_eq, bd1_s, if_pos (pb hp)]
  · refine ⟨0, (-1000000000000000001), px, py, co, lx, ly, lf, by decide, sel_no hL, ?_, ?_⟩
    · unfold P_X2_area
      rw [P_within_eq, bd1_s, if_pos (pb hL)]
    · unfold P_X3_area
      rw [P_isLayer_eq, bd1_s, if_pos (pb hL)]
