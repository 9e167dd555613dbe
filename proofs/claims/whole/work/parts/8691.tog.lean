/-! the three layers together; enough and the same -/
theorem mul_in {a b M N : Int} (ha : 0 ≤ a ∧ a ≤ M) (hb : 0 ≤ b ∧ b ≤ N) : 0 ≤ a * b ∧ a * b ≤ M * N :=
  ⟨Int.mul_nonneg ha.1 hb.1, Int.mul_le_mul ha.2 hb.2 hb.1 (Int.le_trans ha.1 ha.2)⟩
theorem s498I : (498960 : Int64) = lI 498960 := by decide
theorem sWI : (124221621275136000 : Int64) = lI 124221621275136000 := by decide
theorem s1I : (1 : Int64) = lI 1 := by decide
section TOG
variable {XS YS : Nat → Nat → Nat → Int32} {SZ FO : Nat → Nat → Int32} {ke : Int32} {st im_ kp : Nat → Int32}
/-- how much of a dot stays open -/
def OPy (XS YS : Nat → Nat → Nat → Int32) (SZ FO : Nat → Nat → Int32) (d : Nat) : Int := (498960 - (CLy XS YS SZ FO 0 d : Int)) * (498960 - (CLy XS YS SZ FO 1 d : Int)) * (498960 - (CLy XS YS SZ FO 2 d : Int))
theorem OP_b (d : Nat) : 0 ≤ OPy XS YS SZ FO d ∧ OPy XS YS SZ FO d ≤ 124221621275136000 := by
  have h0 := CL_le (XS := XS) (YS := YS) (SZ := SZ) (FO := FO) 0 d
  have h1 := CL_le (XS := XS) (YS := YS) (SZ := SZ) (FO := FO) 1 d
  have h2 := CL_le (XS := XS) (YS := YS) (SZ := SZ) (FO := FO) 2 d
  have q := mul_in (mul_in (a := 498960 - (CLy XS YS SZ FO 0 d : Int)) (b := 498960 - (CLy XS YS SZ FO 1 d : Int)) (M := 498960) (N := 498960) ⟨by omega, by omega⟩ ⟨by omega, by omega⟩) (b := 498960 - (CLy XS YS SZ FO 2 d : Int)) (N := 498960) ⟨by omega, by omega⟩
  exact ⟨q.1, Int.le_trans q.2 (by decide)⟩
theorem CL_lI (i d : Nat) : lN (CLy XS YS SZ FO i d) = lI ((CLy XS YS SZ FO i d : Nat) : Int) := by
  have h0 := CL_le (XS := XS) (YS := YS) (SZ := SZ) (FO := FO) i d
  exact (lI_lN (by omega)).symm
theorem togC (hI : Inv XS YS SZ FO ke st im_ kp) {d : Nat} (hd : d < 16) : P_X1_togetherParts (nI d) (XS 0 0) (YS 0 0) (SZ 0 0) (FO 0 0) (XS 0 1) (YS 0 1) (SZ 0 1) (FO 0 1) (XS 0 2) (YS 0 2) (SZ 0 2) (FO 0 2) = some (lI (124221621275136000 - OPy XS YS SZ FO d)) := by
  unfold P_X1_togetherParts OPy
  rw [covC hI (show 0 < 3 by decide) hd, bd1_s, nm_s, covC hI (show 1 < 3 by decide) hd, bd1_s, nm_s, covC hI (show 2 < 3 by decide) hd, bd1_s, nm_s, CL_lI, CL_lI, CL_lI, s498I, s1I, sWI, lI_sub, lI_sub, lI_sub, lI_mul, lI_mul, lI_mul, lI_sub, Int.one_mul]
theorem openM (hI : Inv XS YS SZ FO ke st im_ kp) {d : Nat} (hd : d < 16) (px py : Nat → Int64) (co : Int32) (lx ly : Nat → Int64) (lf : Int32) : ∃ (px' py' : Nat → Int64) (co' : Int32) (lx' ly' : Nat → Int64) (lf' : Int32), P_X3_openOf (nI d) st px py co lx ly lf = some (lI (OPy XS YS SZ FO d), px', py', co', lx', ly', lf') := by
  obtain ⟨p0, q0, c0, u0, w0, f0, e0⟩ := covM hI (show 0 < 3 by decide) hd px py lx ly
  obtain ⟨p1, q1, c1, u1, w1, f1, e1⟩ := covM hI (show 1 < 3 by decide) hd p0 q0 u0 w0
  obtain ⟨p2, q2, c2, u2, w2, f2, e2⟩ := covM hI (show 2 < 3 by decide) hd p1 q1 u1 w1
  refine ⟨p2, q2, c2, u2, w2, f2, ?_⟩
  have k0 : (0 : Int32) = nI 0 := rfl
  have k1 : nI 0 + (1 : Int32) = nI 1 := by decide
  have k2 : nI 1 + (1 : Int32) = nI 2 := by decide
  have k3 : nI 2 + (1 : Int32) = nI 3 := by decide
  unfold P_X3_openOf OPy
  rw [show (1000 : Nat) = 996 + 1 + 1 + 1 + 1 from rfl, L_X3_openOf_5_s, if_neg (by decide), k0, e0, bd7_s, nm_s, k1, L_X3_openOf_5_s, if_neg (by decide), e1, bd7_s, nm_s, k2, L_X3_openOf_5_s, if_neg (by decide), e2, bd7_s, nm_s, k3, L_X3_openOf_5_s, if_pos (by decide), bd8_s, CL_lI, CL_lI, CL_lI, s498I, s1I, lI_sub, lI_sub, lI_sub, lI_mul, lI_mul, lI_mul, Int.one_mul]
theorem enLoop (hI : Inv XS YS SZ FO ke st im_ kp) {i : Nat} (hi : i < 3) (a1 a2 : Int32) : ∀ (e k m m' : Nat) (acc : Int32) (px py : Nat → Int64) (co : Int32) (lx ly : Nat → Int64) (lf : Int32), k + e = 16 → e < m → e < m' → ∃ (v : Int32) (px' py' : Nat → Int64) (co' : Int32) (lx' ly' : Nat → Int64) (lf' : Int32), L_X2_enough_45 (XS 0 i) (YS 0 i) (SZ 0 i) (FO 0 i) a1 a2 m (nI k) acc = some (nI 16, v) ∧ L_X3_enough_37 st (nI i) a1 a2 m' (nI k) acc px py co lx ly lf = some (nI 16, v, px', py', co', lx', ly', lf') := by
  intro e
  induction e with
  | zero =>
    intro k m m' acc px py co lx ly lf h1 h2 h3
    obtain ⟨m, rfl⟩ : ∃ z, m = z + 1 := ⟨m - 1, by omega⟩
    obtain ⟨m', rfl⟩ : ∃ z, m' = z + 1 := ⟨m' - 1, by omega⟩
    obtain rfl : k = 16 := by omega
    refine ⟨acc, px, py, co, lx, ly, lf, ?_, ?_⟩
    · rw [L_X2_enough_45_s, if_pos (by decide)]
    · rw [L_X3_enough_37_s, if_pos (by decide)]
  | succ e ih =>
    intro k m m' acc px py co lx ly lf h1 h2 h3
    obtain ⟨m, rfl⟩ : ∃ z, m = z + 1 := ⟨m - 1, by omega⟩
    obtain ⟨m', rfl⟩ : ∃ z, m' = z + 1 := ⟨m' - 1, by omega⟩
    have e1 : nI k + (1 : Int32) = nI (k + 1) := by rw [lit32, nI_add]
    obtain ⟨p1, p2, c1, u1, w1, f1, e2⟩ := covM hI hi (show k < 16 by omega) px py lx ly
    by_cases hc : lN (CLy XS YS SZ FO i k) * a2.toInt64 < (498960 : Int64) * a1.toInt64
    · obtain ⟨v, p3, p4, c3, u3, w3, f3, e3, e4⟩ := ih (k + 1) m m' acc p1 p2 c1 u1 w1 f1 (by omega) (by omega) (by omega)
      refine ⟨v, p3, p4, c3, u3, w3, f3, ?_, ?_⟩
      · rw [L_X2_enough_45_s, if_neg (by rw [lit32, nI_leI (by decide) (by omega)]; omega), covC hI hi (show k < 16 by omega), bd1_s, if_pos hc, e1]
        exact e3
      · rw [L_X3_enough_37_s, if_neg (by rw [lit32, nI_leI (by decide) (by omega)]; omega), e2, bd7_s, if_pos (by rw [Int64.mul_comm a1.toInt64]; exact hc), nm_s, e1, Int32.or_zero]
        exact e4
    · obtain ⟨v, p3, p4, c3, u3, w3, f3, e3, e4⟩ := ih (k + 1) m m' (acc ||| ((1 : Int32) <<< (nI k &&& 31))) p1 p2 c1 u1 w1 f1 (by omega) (by omega) (by omega)
      refine ⟨v, p3, p4, c3, u3, w3, f3, ?_, ?_⟩
      · rw [L_X2_enough_45_s, if_neg (by rw [lit32, nI_leI (by decide) (by omega)]; omega), covC hI hi (show k < 16 by omega), bd1_s, if_neg hc, nm_s, e1]
        exact e3
      · rw [L_X3_enough_37_s, if_neg (by rw [lit32, nI_leI (by decide) (by omega)]; omega), e2, bd7_s, if_neg (by rw [Int64.mul_comm a1.toInt64]; exact hc), nm_s, e1]
        exact e4
theorem saLoop (hI : Inv XS YS SZ FO ke st im_ kp) {i j : Nat} (hi : i < 3) (hj : j < 3) : ∀ (e k m m' : Nat) (acc : Int32) (px py : Nat → Int64) (co : Int32) (lx ly : Nat → Int64) (lf : Int32), k + e = 16 → e < m → e < m' → ∃ (v : Int32) (px' py' : Nat → Int64) (co' : Int32) (lx' ly' : Nat → Int64) (lf' : Int32), L_X2_same_36 (XS 0 i) (YS 0 i) (SZ 0 i) (FO 0 i) (XS 0 j) (YS 0 j) (SZ 0 j) (FO 0 j) m (nI k) acc = some (nI 16, v) ∧ L_X3_same_21 st (nI i) (nI j) m' (nI k) acc px py co lx ly lf = some (nI 16, v, px', py', co', lx', ly', lf') := by
  intro e
  induction e with
  | zero =>
    intro k m m' acc px py co lx ly lf h1 h2 h3
    obtain ⟨m, rfl⟩ : ∃ z, m = z + 1 := ⟨m - 1, by omega⟩
    obtain ⟨m', rfl⟩ : ∃ z, m' = z + 1 := ⟨m' - 1, by omega⟩
    obtain rfl : k = 16 := by omega
    refine ⟨acc, px, py, co, lx, ly, lf, ?_, ?_⟩
    · rw [L_X2_same_36_s, if_pos (by decide)]
    · rw [L_X3_same_21_s, if_pos (by decide)]
  | succ e ih =>
    intro k m m' acc px py co lx ly lf h1 h2 h3
    obtain ⟨m, rfl⟩ : ∃ z, m = z + 1 := ⟨m - 1, by omega⟩
    obtain ⟨m', rfl⟩ : ∃ z, m' = z + 1 := ⟨m' - 1, by omega⟩
    have e1 : nI k + (1 : Int32) = nI (k + 1) := by rw [lit32, nI_add]
    obtain ⟨p0, q0, c0, u0, w0, f0, e0⟩ := covM hI hi (show k < 16 by omega) px py lx ly
    obtain ⟨p1, p2, c1, u1, w1, f1, e2⟩ := covM hI hj (show k < 16 by omega) p0 q0 u0 w0
    by_cases hc : lN (CLy XS YS SZ FO i k) = lN (CLy XS YS SZ FO j k)
    · obtain ⟨v, p3, p4, c3, u3, w3, f3, e3, e4⟩ := ih (k + 1) m m' (acc ||| ((1 : Int32) <<< (nI k &&& 31))) p1 p2 c1 u1 w1 f1 (by omega) (by omega) (by omega)
      refine ⟨v, p3, p4, c3, u3, w3, f3, ?_, ?_⟩
      · rw [L_X2_same_36_s, if_neg (by rw [lit32, nI_leI (by decide) (by omega)]; omega), covC hI hi (show k < 16 by omega), bd1_s, covC hI hj (show k < 16 by omega), bd1_s, if_pos hc, nm_s, e1]
        exact e3
      · rw [L_X3_same_21_s, if_neg (by rw [lit32, nI_leI (by decide) (by omega)]; omega), e0, bd7_s, e2, bd7_s, if_pos hc, nm_s, e1]
        exact e4
    · obtain ⟨v, p3, p4, c3, u3, w3, f3, e3, e4⟩ := ih (k + 1) m m' acc p1 p2 c1 u1 w1 f1 (by omega) (by omega) (by omega)
      refine ⟨v, p3, p4, c3, u3, w3, f3, ?_, ?_⟩
      · rw [L_X2_same_36_s, if_neg (by rw [lit32, nI_leI (by decide) (by omega)]; omega), covC hI hi (show k < 16 by omega), bd1_s, covC hI hj (show k < 16 by omega), bd1_s, if_neg hc, e1]
        exact e3
      · rw [L_X3_same_21_s, if_neg (by rw [lit32, nI_leI (by decide) (by omega)]; omega), e0, bd7_s, e2, bd7_s, if_neg hc, nm_s, e1, Int32.or_zero]
        exact e4
end TOG
theorem pp_together {XS YS : Nat → Nat → Nat → Int32} {SZ FO : Nat → Nat → Int32} {ke : Int32} {st im_ kp : Nat → Int32} (hI : Inv XS YS SZ FO ke st im_ kp) (a0 : Int32) (a1 : Int32) (px : Nat → Int64) (py : Nat → Int64) (co : Int32) (lx : Nat → Int64) (ly : Nat → Int64) (lf : Int32) : ∃ (r : Int64) (pxM : Nat → Int64) (pyM : Nat → Int64) (coM : Int32) (lxM : Nat → Int64) (lyM : Nat → Int64) (lfM : Int32), P_X2_together a0 a1 (XS 0 0) (YS 0 0) (SZ 0 0) (FO 0 0) (XS 0 1) (YS 0 1) (SZ 0 1) (FO 0 1) (XS 0 2) (YS 0 2) (SZ 0 2) (FO 0 2) = some r ∧ P_X3_together a0 a1 st px py co lx ly lf = some (r, pxM, pyM, coM, lxM, lyM, lfM) := by
  by_cases hd : (0 : Int32) ≤ a0 ∧ a0 ≤ 15
  · obtain ⟨d, hd16, rfl⟩ := dot_of hd
    by_cases hp : (0 : Int32) ≤ a1 ∧ a1 ≤ 1
    · obtain ⟨p1, p2, c1, u1, w1, f1, e⟩ := openM hI hd16 px py co lx ly lf
      have hb := OP_b (XS := XS) (YS := YS) (SZ := SZ) (FO := FO) d
      have sWN : (lI 124221621275136000 : Int64) = lN 124221621275136000 := by decide
      refine ⟨tv (124221621275136000 - OPy XS YS SZ FO d) 124221621275136000 a1, p1, p2, c1, u1, w1, f1, ?_, ?_⟩
      · unfold P_X2_together
        rw [P_isDot2_eq, bd1_s, if_neg (nb hd), P_within_eq, bd1_s, if_neg (nb hp), togC hI hd16, bd1_s, sWI, sWN, low_eq (by omega) (by decide) (by decide), bd1_s]
      · unfold P_X3_together P_X3_whole
        rw [P_isDot3_eq, bd1_s, if_neg (nb hd), P_isPart_eq, bd1_s, if_neg (nb hp), bd1_s, e, bd7_s, bd1_s, sWI, lI_sub, sWN, told_eq (by omega) (by decide) (by decide), bd1_s]
    · refine ⟨(-2), px, py, co, lx, ly, lf, ?_, ?_⟩
      · unfold P_X2_together
        rw [P_isDot2_eq, bd1_s, if_neg (nb hd), P_within_eq, bd1_s, if_pos (pb hp)]
      · unfold P_X3_together
        rw [P_isDot3_eq, bd1_s, if_neg (nb hd), P_isPart_eq, bd1_s, if_pos (pb hp)]
  · refine ⟨(-1), px, py, co, lx, ly, lf, ?_, ?_⟩
    · unfold P_X2_together
      rw [P_isDot2_eq, bd1_s, if_pos (pb hd)]
    · unfold P_X3_together
      rw [P_isDot3_eq, bd1_s, if_pos (pb hd)]
theorem pp_enough {XS YS : Nat → Nat → Nat → Int32} {SZ FO : Nat → Nat → Int32} {ke : Int32} {st im_ kp : Nat → Int32} (hI : Inv XS YS SZ FO ke st im_ kp) (a0 : Int32) (a1 : Int32) (a2 : Int32) (px : Nat → Int64) (py : Nat → Int64) (co : Int32) (lx : Nat → Int64) (ly : Nat → Int64) (lf : Int32) : ∃ (i : Nat) (r : Int32) (pxM : Nat → Int64) (pyM : Nat → Int64) (coM : Int32) (lxM : Nat → Int64) (lyM : Nat → Int64) (lfM : Int32), i < 3 ∧ (P_X2_within a0 (0 : Int32) (2 : Int32) = some (1 : Int32) → a0.toNatClampNeg = i) ∧ P_X2_enough a0 a1 a2 (XS 0 i) (YS 0 i) (SZ 0 i) (FO 0 i) = some r ∧ P_X3_enough a0 a1 a2 st px py co lx ly lf = some (r, pxM, pyM, coM, lxM, lyM, lfM) := by
  by_cases hL : (0 : Int32) ≤ a0 ∧ a0 ≤ 2
  · obtain ⟨i, hi, rfl⟩ := layer_of hL
    by_cases hp : (1 : Int32) ≤ a2 ∧ a2 ≤ 99
    · by_cases hq : (0 : Int32) ≤ a1 ∧ a1 ≤ a2
      · obtain ⟨v, p3, p4, c3, u3, w3, f3, e3, e4⟩ := enLoop hI hi a1 a2 16 0 1000 1000 0 px py co lx ly lf (by decide) (by decide) (by decide)
        have k0 : nI 0 = (0 : Int32) := rfl
        rw [k0] at e3 e4
        refine ⟨i, v, p3, p4, c3, u3, w3, f3, hi, sel_yes hi, ?_, ?_⟩
        · unfold P_X2_enough
          rw [P_within_eq, bd1_s, if_neg (nb hL), P_within_eq, bd1_s, if_neg (nb hp), P_within_eq, bd1_s, if_neg (nb hq), e3, bd2_s]
        · unfold P_X3_enough
          rw [P_isLayer_eq, bd1_s, if_neg (nb hL), P_in_eq, bd1_s, if_neg (nb hp), P_in_eq, bd1_s, if_neg (nb hq), e4, bd8_s]
      · refine ⟨i, (-2), px, py, co, lx, ly, lf, hi, sel_yes hi, ?_, ?_⟩
        · unfold P_X2_enough
          rw [P_within_eq, bd1_s, if_neg (nb hL), P_within_eq, bd1_s, if_neg (nb hp), P_within_eq, bd1_s, if_pos (pb hq)]
        · unfold P_X3_enough
          rw [P_isLayer_eq, bd1_s, if_neg (nb hL), P_in_eq, bd1_s, if_neg (nb hp), P_in_eq, bd1_s, if_pos (pb hq)]
    · refine ⟨i, (-2), px, py, co, lx, ly, lf, hi, sel_yes hi, ?_, ?_⟩
      · unfold P_X2_enough
        rw [P_within_eq, bd1_s, if_neg (nb hL), P_within_eq, bd1_s, if_pos (pb hp)]
      · unfold P_X3_enough
        rw [P_isLayer_eq, bd1_s, if_neg (nb hL), P_in_eq, bd1_s, if_pos (pb hp)]
  · refine ⟨0, (-1), px, py, co, lx, ly, lf, by decide, sel_no hL, ?_, ?_⟩
    · unfold P_X2_enough
      rw [P_within_eq, bd1_s, if_pos (pb hL)]
    · unfold P_X3_enough
      rw [P_isLayer_eq, bd1_s, if_pos (pb hL)]
theorem pp_same {XS YS : Nat → Nat → Nat → Int32} {SZ FO : Nat → Nat → Int32} {ke : Int32} {st im_ kp : Nat → Int32} (hI : Inv XS YS SZ FO ke st im_ kp) (a0 : Int32) (a1 : Int32) (px : Nat → Int64) (py : Nat → Int64) (co : Int32) (lx : Nat → Int64) (ly : Nat → Int64) (lf : Int32) : ∃ (i : Nat) (j : Nat) (r : Int32) (pxM : Nat → Int64) (pyM : Nat → Int64) (coM : Int32) (lxM : Nat → Int64) (lyM : Nat → Int64) (lfM : Int32), i < 3 ∧ (P_X2_within a0 (0 : Int32) (2 : Int32) = some (1 : Int32) → a0.toNatClampNeg = i) ∧ j < 3 ∧ (P_X2_within a1 (0 : Int32) (2 : Int32) = some (1 : Int32) → a1.toNatClampNeg = j) ∧ P_X2_same a0 a1 (XS 0 i) (YS 0 i) (SZ 0 i) (FO 0 i) (XS 0 j) (YS 0 j) (SZ 0 j) (FO 0 j) = some r ∧ P_X3_same a0 a1 st px py co lx ly lf = some (r, pxM, pyM, coM, lxM, lyM, lfM) := by
  by_cases hL : (0 : Int32) ≤ a0 ∧ a0 ≤ 2
  · obtain ⟨i, hi, rfl⟩ := layer_of hL
    by_cases hM : (0 : Int32) ≤ a1 ∧ a1 ≤ 2
    · obtain ⟨j, hj, rfl⟩ := layer_of hM
      obtain ⟨v, p3, p4, c3, u3, w3, f3, e3, e4⟩ := saLoop hI hi hj 16 0 1000 1000 0 px py co lx ly lf (by decide) (by decide) (by decide)
      have k0 : nI 0 = (0 : Int32) := rfl
      rw [k0] at e3 e4
      refine ⟨i, j, v, p3, p4, c3, u3, w3, f3, hi, sel_yes hi, hj, sel_yes hj, ?_, ?_⟩
      · unfold P_X2_same
        rw [P_within_eq, bd1_s, if_neg (nb hL), P_within_eq, bd1_s, if_neg (nb hM), e3, bd2_s]
      · unfold P_X3_same
        rw [P_isLayer_eq, bd1_s, if_neg (nb hL), P_isLayer_eq, bd1_s, if_neg (nb hM), e4, bd8_s]
    · refine ⟨i, 0, (-1), px, py, co, lx, ly, lf, hi, sel_yes hi, by decide, sel_no hM, ?_, ?_⟩
      · unfold P_X2_same
        rw [P_within_eq, bd1_s, if_neg (nb hL), P_within_eq, bd1_s, if_pos (pb hM)]
      · unfold P_X3_same
        rw [P_isLayer_eq, bd1_s, if_neg (nb hL), P_isLayer_eq, bd1_s, if_pos (pb hM)]
  · have hj : ∃ j : Nat, j < 3 ∧ (P_X2_within a1 (0 : Int32) (2 : Int32) = some (1 : Int32) → a1.toNatClampNeg = j) := by
      by_cases hM : (0 : Int32) ≤ a1 ∧ a1 ≤ 2
      · obtain ⟨j, hj, rfl⟩ := layer_of hM
        exact ⟨j, hj, sel_yes hj⟩
      · exact ⟨0, by decide, sel_no hM⟩
    obtain ⟨j, hj, sj⟩ := hj
    refine ⟨0, j, (-1), px, py, co, lx, ly, lf, by decide, sel_no hL, hj, sj, ?_, ?_⟩
    · unfold P_X2_same
      rw [P_within_eq, bd1_s, if_pos (pb hL), P_within_eq, bd1_s]
      exact ite_self _
    · unfold P_X3_same
      rw [P_isLayer_eq, bd1_s, if_pos (pb hL)]
