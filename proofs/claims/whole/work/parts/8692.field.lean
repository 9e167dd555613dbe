/-! what is most, least, wholly and not at all covered -/
def mstN (f : Nat → Int64) : Nat → Nat → Nat → Nat
  | 0, _, a => a
  | e + 1, k, a => mstN f e (k + 1) (if f a ≤ f k then a else k)
def lstN (f : Nat → Int64) : Nat → Nat → Nat → Nat
  | 0, _, a => a
  | e + 1, k, a => lstN f e (k + 1) (if f k ≤ f a then a else k)
def cntN (f : Nat → Int64) (v : Int64) : Nat → Nat → Int32 → Int32
  | 0, _, c => c
  | e + 1, k, c => cntN f v e (k + 1) (c + (if f k = v then (1 : Int32) else (0 : Int32)))
theorem mst_same (f : Nat → Int64) (e k : Nat) : mstN f (e + 1) k k = mstN f e (k + 1) k := by
  conv => lhs; unfold mstN
  rw [ite_self]
theorem lst_same (f : Nat → Int64) (e k : Nat) : lstN f (e + 1) k k = lstN f e (k + 1) k := by
  conv => lhs; unfold lstN
  rw [ite_self]
theorem bd11_s {A0 A1 A2 A3 A4 A5 A6 A7 A8 A9 A10 β : Type} (a0 : A0) (a1 : A1) (a2 : A2) (a3 : A3) (a4 : A4) (a5 : A5) (a6 : A6) (a7 : A7) (a8 : A8) (a9 : A9) (a10 : A10) (k : A0 → A1 → A2 → A3 → A4 → A5 → A6 → A7 → A8 → A9 → A10 → Option β) : bd11 (some (a0, a1, a2, a3, a4, a5, a6, a7, a8, a9, a10)) k = k a0 a1 a2 a3 a4 a5 a6 a7 a8 a9 a10 := rfl
theorem fieldM {st : Nat → Int32} {f : Nat → Int64} (h : ∀ d, d < 16 → ∀ (px py : Nat → Int64) (co : Int32) (lx ly : Nat → Int64) (lf : Int32), ∃ (px' py' : Nat → Int64) (co' : Int32) (lx' ly' : Nat → Int64) (lf' : Int32), P_X3_openOf (nI d) st px py co lx ly lf = some (f d, px', py', co', lx', ly', lf')) : ∀ (e k m : Nat) (c4 c5 : Int32) (a6 a7 : Nat) (px py : Nat → Int64) (co : Int32) (lx ly : Nat → Int64) (lf : Int32), k + e = 16 → e < m → a6 < 16 → a7 < 16 → ∃ (px' py' : Nat → Int64) (co' : Int32) (lx' ly' : Nat → Int64) (lf' : Int32), L_X3_field_25 st m (nI k) c4 c5 (nI a6) (nI a7) px py co lx ly lf = some (nI 16, cntN f 124221621275136000 e k c4, cntN f 0 e k c5, nI (lstN f e k a6), nI (mstN f e k a7), px', py', co', lx', ly', lf') := by
  intro e
  induction e with
  | zero =>
    intro k m c4 c5 a6 a7 px py co lx ly lf h1 h2 h6 h7
    obtain ⟨m, rfl⟩ : ∃ z, m = z + 1 := ⟨m - 1, by omega⟩
    obtain rfl : k = 16 := by omega
    refine ⟨px, py, co, lx, ly, lf, ?_⟩
    rw [L_X3_field_25_s, if_pos (by decide)]
    rfl
  | succ e ih =>
    intro k m c4 c5 a6 a7 px py co lx ly lf h1 h2 h6 h7
    obtain ⟨m, rfl⟩ : ∃ z, m = z + 1 := ⟨m - 1, by omega⟩
    have e1 : nI k + (1 : Int32) = nI (k + 1) := by rw [lit32, nI_add]
    obtain ⟨p1, p2, d1, u1, w1, g1, eK⟩ := h k (by omega) px py co lx ly lf
    obtain ⟨p3, p4, d3, u3, w3, g3, e7⟩ := h a7 h7 p1 p2 d1 u1 w1 g1
    obtain ⟨p5, p6, d5, u5, w5, g5, e6⟩ := h a6 h6 p3 p4 d3 u3 w3 g3
    obtain ⟨p7, p8, d7, u7, w7, g7, e8⟩ := ih (k + 1) m (c4 + (if f k = 124221621275136000 then (1 : Int32) else (0 : Int32))) (c5 + (if f k = 0 then (1 : Int32) else (0 : Int32))) (if f k ≤ f a6 then a6 else k) (if f a7 ≤ f k then a7 else k) p5 p6 d5 u5 w5 g5 (by omega) (by omega) (by split <;> omega) (by split <;> omega)
    refine ⟨p7, p8, d7, u7, w7, g7, ?_⟩
    refine Eq.trans ?_ e8
    rw [L_X3_field_25_s, if_neg (by rw [lit32, nI_leI (by decide) (by omega)]; omega), eK, bd7_s, e7, bd7_s]
    by_cases q1 : f a7 ≤ f k
    all_goals by_cases q2 : f k ≤ f a6
    all_goals by_cases q3 : f k = 0
    all_goals by_cases q4 : f k = 124221621275136000
    all_goals first | simp only [if_pos q1] | simp only [if_neg q1]
    all_goals rw [e6, bd7_s]
    all_goals first | simp only [if_pos q2] | simp only [if_neg q2]
    all_goals first | simp only [if_pos q3] | simp only [if_neg q3]
    all_goals simp only [nm_s, P_X3_whole, bd1_s]
    all_goals first | simp only [if_pos q4] | simp only [if_neg q4]
    all_goals simp only [e1]
theorem dotsC {x0 y0 : Nat → Int32} {s0 f0 : Int32} {x1 y1 : Nat → Int32} {s1 f1 : Int32} {x2 y2 : Nat → Int32} {s2 f2 : Int32} {f g : Nat → Int64} {a v : Int64} (hg : ∀ d, d < 16 → P_X1_togetherParts (nI d) x0 y0 s0 f0 x1 y1 s1 f1 x2 y2 s2 f2 = some (g d)) (hq : ∀ d, d < 16 → (g d = a ↔ f d = v)) : ∀ (e k m : Nat) (c : Int32), k + e = 16 → e < m → L_X1_dotsWithTogether_5 x0 y0 s0 f0 x1 y1 s1 f1 x2 y2 s2 f2 a m (nI k) c = some (nI 16, cntN f v e k c) := by
  intro e
  induction e with
  | zero =>
    intro k m c h1 h2
    obtain ⟨m, rfl⟩ : ∃ z, m = z + 1 := ⟨m - 1, by omega⟩
    obtain rfl : k = 16 := by omega
    rw [L_X1_dotsWithTogether_5_s, if_pos (by decide)]
    rfl
  | succ e ih =>
    intro k m c h1 h2
    obtain ⟨m, rfl⟩ : ∃ z, m = z + 1 := ⟨m - 1, by omega⟩
    have e1 : nI k + (1 : Int32) = nI (k + 1) := by rw [lit32, nI_add]
    rw [L_X1_dotsWithTogether_5_s, if_neg (by rw [lit32, nI_leI (by decide) (by omega)]; omega), hg k (by omega), bd1_s, e1]
    by_cases q : f k = v
    · rw [if_pos ((hq k (by omega)).mpr q), ih (k + 1) m (c + 1) (by omega) (by omega)]
      conv => rhs; unfold cntN
      rw [if_pos q]
    · rw [if_neg (fun z => q ((hq k (by omega)).mp z)), ih (k + 1) m c (by omega) (by omega)]
      conv => rhs; unfold cntN
      rw [if_neg q, Int32.add_zero]
theorem mostC {x0 y0 : Nat → Int32} {s0 f0 : Int32} {x1 y1 : Nat → Int32} {s1 f1 : Int32} {x2 y2 : Nat → Int32} {s2 f2 : Int32} {f g : Nat → Int64} (hg : ∀ d, d < 16 → P_X1_togetherParts (nI d) x0 y0 s0 f0 x1 y1 s1 f1 x2 y2 s2 f2 = some (g d)) (hq : ∀ d d', d < 16 → d' < 16 → (g d ≤ g d' ↔ f d' ≤ f d)) : ∀ (e k m a : Nat), k + e = 16 → e < m → a < 16 → L_X1_mostCoveredDot_11 x0 y0 s0 f0 x1 y1 s1 f1 x2 y2 s2 f2 m (nI k) (g a) (nI a) = some (nI 16, g (mstN f e k a), nI (mstN f e k a)) := by
  intro e
  induction e with
  | zero =>
    intro k m a h1 h2 h3
    obtain ⟨m, rfl⟩ : ∃ z, m = z + 1 := ⟨m - 1, by omega⟩
    obtain rfl : k = 16 := by omega
    rw [L_X1_mostCoveredDot_11_s, if_pos (by decide)]
    rfl
  | succ e ih =>
    intro k m a h1 h2 h3
    obtain ⟨m, rfl⟩ : ∃ z, m = z + 1 := ⟨m - 1, by omega⟩
    have e1 : nI k + (1 : Int32) = nI (k + 1) := by rw [lit32, nI_add]
    rw [L_X1_mostCoveredDot_11_s, if_neg (by rw [lit32, nI_leI (by decide) (by omega)]; omega), hg k (by omega), bd1_s, e1]
    by_cases q : f a ≤ f k
    · rw [if_pos ((hq k a (by omega) h3).mpr q), ih (k + 1) m a (by omega) (by omega) h3]
      conv => rhs; unfold mstN
      rw [if_pos q]
    · rw [if_neg (fun z => q ((hq k a (by omega) h3).mp z)), ih (k + 1) m k (by omega) (by omega) (by omega)]
      conv => rhs; unfold mstN
      rw [if_neg q]
theorem leastC {x0 y0 : Nat → Int32} {s0 f0 : Int32} {x1 y1 : Nat → Int32} {s1 f1 : Int32} {x2 y2 : Nat → Int32} {s2 f2 : Int32} {f g : Nat → Int64} (hg : ∀ d, d < 16 → P_X1_togetherParts (nI d) x0 y0 s0 f0 x1 y1 s1 f1 x2 y2 s2 f2 = some (g d)) (hq : ∀ d d', d < 16 → d' < 16 → (g d ≤ g d' ↔ f d' ≤ f d)) : ∀ (e k m a : Nat), k + e = 16 → e < m → a < 16 → L_X1_leastCoveredDot_11 x0 y0 s0 f0 x1 y1 s1 f1 x2 y2 s2 f2 m (nI k) (g a) (nI a) = some (nI 16, g (lstN f e k a), nI (lstN f e k a)) := by
  intro e
  induction e with
  | zero =>
    intro k m a h1 h2 h3
    obtain ⟨m, rfl⟩ : ∃ z, m = z + 1 := ⟨m - 1, by omega⟩
    obtain rfl : k = 16 := by omega
    rw [L_X1_leastCoveredDot_11_s, if_pos (by decide)]
    rfl
  | succ e ih =>
    intro k m a h1 h2 h3
    obtain ⟨m, rfl⟩ : ∃ z, m = z + 1 := ⟨m - 1, by omega⟩
    have e1 : nI k + (1 : Int32) = nI (k + 1) := by rw [lit32, nI_add]
    rw [L_X1_leastCoveredDot_11_s, if_neg (by rw [lit32, nI_leI (by decide) (by omega)]; omega), hg k (by omega), bd1_s, e1]
    by_cases q : f k ≤ f a
    · rw [if_pos ((hq a k h3 (by omega)).mpr q), ih (k + 1) m a (by omega) (by omega) h3]
      conv => rhs; unfold lstN
      rw [if_pos q]
    · rw [if_neg (fun z => q ((hq a k h3 (by omega)).mp z)), ih (k + 1) m k (by omega) (by omega) (by omega)]
      conv => rhs; unfold lstN
      rw [if_neg q]
theorem pp_field {XS YS : Nat → Nat → Nat → Int32} {SZ FO : Nat → Nat → Int32} {ke : Int32} {st im_ kp : Nat → Int32} (hI : Inv XS YS SZ FO ke st im_ kp) (a0 : Int32) (px : Nat → Int64) (py : Nat → Int64) (co : Int32) (lx : Nat → Int64) (ly : Nat → Int64) (lf : Int32) : ∃ (r : Int32) (pxM : Nat → Int64) (pyM : Nat → Int64) (coM : Int32) (lxM : Nat → Int64) (lyM : Nat → Int64) (lfM : Int32), P_X2_field a0 (XS 0 0) (YS 0 0) (SZ 0 0) (FO 0 0) (XS 0 1) (YS 0 1) (SZ 0 1) (FO 0 1) (XS 0 2) (YS 0 2) (SZ 0 2) (FO 0 2) = some r ∧ P_X3_field a0 st px py co lx ly lf = some (r, pxM, pyM, coM, lxM, lyM, lfM) := by
  have k0 : (0 : Int32) = nI 0 := rfl
  have k1 : (1 : Int32) = nI 1 := rfl
  obtain ⟨p1, p2, d1, u1, w1, g1, e⟩ := fieldM (f := fun d => lI (OPy XS YS SZ FO d)) (fun d hd px py co lx ly lf => openM hI hd px py co lx ly lf) 16 0 1000 0 0 0 0 px py co lx ly lf (by decide) (by decide) (by decide) (by decide)
  have hq : ∀ d d', d < 16 → d' < 16 → (lI (124221621275136000 - OPy XS YS SZ FO d) ≤ lI (124221621275136000 - OPy XS YS SZ FO d') ↔ lI (OPy XS YS SZ FO d') ≤ lI (OPy XS YS SZ FO d)) := by
    intro d d' _ _
    have b1 := OP_b (XS := XS) (YS := YS) (SZ := SZ) (FO := FO) d
    have b2 := OP_b (XS := XS) (YS := YS) (SZ := SZ) (FO := FO) d'
    rw [lI_le ⟨by omega, by omega⟩ ⟨by omega, by omega⟩, lI_le ⟨by omega, by omega⟩ ⟨by omega, by omega⟩]
    omega
  have hW : ∀ d, d < 16 → (lI (124221621275136000 - OPy XS YS SZ FO d) = (124221621275136000 : Int64) ↔ lI (OPy XS YS SZ FO d) = (0 : Int64)) := by
    intro d _
    have b1 := OP_b (XS := XS) (YS := YS) (SZ := SZ) (FO := FO) d
    rw [sWI, z64, lI_eq ⟨by omega, by omega⟩ ⟨by omega, by omega⟩, lI_eq ⟨by omega, by omega⟩ ⟨by omega, by omega⟩]
    omega
  have hN : ∀ d, d < 16 → (lI (124221621275136000 - OPy XS YS SZ FO d) = (0 : Int64) ↔ lI (OPy XS YS SZ FO d) = (124221621275136000 : Int64)) := by
    intro d _
    have b1 := OP_b (XS := XS) (YS := YS) (SZ := SZ) (FO := FO) d
    rw [sWI, z64, lI_eq ⟨by omega, by omega⟩ ⟨by omega, by omega⟩, lI_eq ⟨by omega, by omega⟩ ⟨by omega, by omega⟩]
    omega
  have eM := mostC (f := fun d => lI (OPy XS YS SZ FO d)) (g := fun d => lI (124221621275136000 - OPy XS YS SZ FO d)) (fun d hd => togC hI hd) hq 15 1 1000 0 (by decide) (by decide) (by decide)
  have eL := leastC (f := fun d => lI (OPy XS YS SZ FO d)) (g := fun d => lI (124221621275136000 - OPy XS YS SZ FO d)) (fun d hd => togC hI hd) hq 15 1 1000 0 (by decide) (by decide) (by decide)
  have eF := dotsC (f := fun d => lI (OPy XS YS SZ FO d)) (g := fun d => lI (124221621275136000 - OPy XS YS SZ FO d)) (fun d hd => togC hI hd) hW 16 0 1000 0 (by decide) (by decide)
  have eN := dotsC (f := fun d => lI (OPy XS YS SZ FO d)) (g := fun d => lI (124221621275136000 - OPy XS YS SZ FO d)) (fun d hd => togC hI hd) hN 16 0 1000 0 (by decide) (by decide)
  have mm : mstN (fun d => lI (OPy XS YS SZ FO d)) 16 0 0 = mstN (fun d => lI (OPy XS YS SZ FO d)) 15 1 0 := mst_same _ 15 0
  have ll : lstN (fun d => lI (OPy XS YS SZ FO d)) 16 0 0 = lstN (fun d => lI (OPy XS YS SZ FO d)) 15 1 0 := lst_same _ 15 0
  rw [mm, ll] at e
  have e' : L_X3_field_25 st 1000 (0 : Int32) (0 : Int32) (0 : Int32) (0 : Int32) (0 : Int32) px py co lx ly lf = _ := e
  have eM' : L_X1_mostCoveredDot_11 (XS 0 0) (YS 0 0) (SZ 0 0) (FO 0 0) (XS 0 1) (YS 0 1) (SZ 0 1) (FO 0 1) (XS 0 2) (YS 0 2) (SZ 0 2) (FO 0 2) 1000 (1 : Int32) (lI (124221621275136000 - OPy XS YS SZ FO 0)) (0 : Int32) = _ := eM
  have eL' : L_X1_leastCoveredDot_11 (XS 0 0) (YS 0 0) (SZ 0 0) (FO 0 0) (XS 0 1) (YS 0 1) (SZ 0 1) (FO 0 1) (XS 0 2) (YS 0 2) (SZ 0 2) (FO 0 2) 1000 (1 : Int32) (lI (124221621275136000 - OPy XS YS SZ FO 0)) (0 : Int32) = _ := eL
  have eT : P_X1_togetherParts (0 : Int32) (XS 0 0) (YS 0 0) (SZ 0 0) (FO 0 0) (XS 0 1) (YS 0 1) (SZ 0 1) (FO 0 1) (XS 0 2) (YS 0 2) (SZ 0 2) (FO 0 2) = _ := togC hI (show 0 < 16 by decide)
  have eF' : L_X1_dotsWithTogether_5 (XS 0 0) (YS 0 0) (SZ 0 0) (FO 0 0) (XS 0 1) (YS 0 1) (SZ 0 1) (FO 0 1) (XS 0 2) (YS 0 2) (SZ 0 2) (FO 0 2) (124221621275136000 : Int64) 1000 (0 : Int32) (0 : Int32) = _ := eF
  have eN' : L_X1_dotsWithTogether_5 (XS 0 0) (YS 0 0) (SZ 0 0) (FO 0 0) (XS 0 1) (YS 0 1) (SZ 0 1) (FO 0 1) (XS 0 2) (YS 0 2) (SZ 0 2) (FO 0 2) (0 : Int64) 1000 (0 : Int32) (0 : Int32) = _ := eN
  by_cases h0 : a0 = 0
  · subst h0
    refine ⟨nI (mstN (fun d => lI (OPy XS YS SZ FO d)) 15 1 0), p1, p2, d1, u1, w1, g1, ?_, ?_⟩
    rotate_left
    · unfold P_X3_field
      rw [P_in_eq, bd1_s, if_neg (nb (by decide)), e', bd11_s, if_pos rfl]
    · unfold P_X2_field P_X1_mostCoveredDot
      rw [if_pos rfl, eT, bd1_s, eM', bd3_s, bd1_s]
  · by_cases h1 : a0 = 1
    · subst h1
      refine ⟨nI (lstN (fun d => lI (OPy XS YS SZ FO d)) 15 1 0), p1, p2, d1, u1, w1, g1, ?_, ?_⟩
      rotate_left
      · unfold P_X3_field
        rw [P_in_eq, bd1_s, if_neg (nb (by decide)), e', bd11_s, if_neg h0, if_pos rfl]
      · unfold P_X2_field P_X1_leastCoveredDot
        rw [if_neg h0, if_pos rfl, eT, bd1_s, eL', bd3_s, bd1_s]
    · by_cases h2 : a0 = 2
      · subst h2
        refine ⟨cntN (fun d => lI (OPy XS YS SZ FO d)) 0 16 0 0, p1, p2, d1, u1, w1, g1, ?_, ?_⟩
        rotate_left
        · unfold P_X3_field
          rw [P_in_eq, bd1_s, if_neg (nb (by decide)), e', bd11_s, if_neg h0, if_neg h1, if_pos rfl]
        · unfold P_X2_field P_X1_dotsWithTogether
          rw [if_neg h0, if_neg h1, if_pos rfl, eF', bd2_s, bd1_s]
      · by_cases h3 : a0 = 3
        · subst h3
          refine ⟨cntN (fun d => lI (OPy XS YS SZ FO d)) 124221621275136000 16 0 0, p1, p2, d1, u1, w1, g1, ?_, ?_⟩
          rotate_left
          · unfold P_X3_field
            rw [P_in_eq, bd1_s, if_neg (nb (by decide)), e', bd11_s, if_neg h0, if_neg h1, if_neg h2]
          · unfold P_X2_field P_X1_dotsWithTogether
            rw [if_neg h0, if_neg h1, if_neg h2, if_pos rfl, eN', bd2_s, bd1_s]
        · have hn : ¬ ((0 : Int32) ≤ a0 ∧ a0 ≤ 3) := by
            intro h
            have q := (rgN (a := a0) 0 3 (by decide) (by decide)).mp h
            obtain ⟨n, hn, en⟩ := of32 (x := a0) (N := 3) (by omega) (by omega)
            subst en
            match n, hn with
            | 0, _ => exact h0 rfl
            | 1, _ => exact h1 rfl
            | 2, _ => exact h2 rfl
            | 3, _ => exact h3 rfl
          refine ⟨(-2), px, py, co, lx, ly, lf, ?_, ?_⟩
          · unfold P_X2_field
            rw [if_neg h0, if_neg h1, if_neg h2, if_neg h3]
          · unfold P_X3_field
            rw [P_in_eq, bd1_s, if_pos (pb hn)]
