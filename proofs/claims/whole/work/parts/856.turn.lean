theorem swap_eq (xs ys : Nat → Int32) {a b : Nat} (ha : a < 8) (hb : b < 8) : P_X0_swap (nI a) (nI b) xs ys = some (upd (upd xs a (xs b)) b (xs a), upd (upd ys a (ys b)) b (ys a)) := by
  unfold P_X0_swap
  rw [ib_nI (by omega) (by omega), ib_nI (by omega) (by omega), cl32 (by omega), cl32 (by omega)]
  rfl
theorem rev_loop : ∀ (d a t m : Nat) (xs ys : Nat → Int32), t ≤ 8 → a ≤ 8 → t ≤ a + d → d < m → ∃ (u v : Int32) (xs' ys' : Nat → Int32), L_X0_reverse_7 m (nI a) (iI ((t : Int) - 1)) xs ys = some (u, v, xs', ys') ∧ (∀ j, a ≤ j → j < t → xs' j = xs (a + t - 1 - j) ∧ ys' j = ys (a + t - 1 - j)) ∧ (∀ j, j < a ∨ t ≤ j → xs' j = xs j ∧ ys' j = ys j) := by
  intro d
  induction d using Nat.strongRecOn with
  | ind d ih =>
    intro a t m xs ys ht ha h1 h2
    obtain ⟨m, rfl⟩ : ∃ z, m = z + 1 := ⟨m - 1, by omega⟩
    rw [L_X0_reverse_7_s, iI_nI a]
    by_cases hc : t ≤ a + 1
    · rw [if_pos (by rw [iI_le ⟨by omega, by omega⟩ ⟨by omega, by omega⟩]; omega)]
      refine ⟨_, _, xs, ys, rfl, fun j h3 h4 => ?_, fun j _ => ⟨rfl, rfl⟩⟩
      have e : a + t - 1 - j = j := by omega
      rw [e]
      exact ⟨rfl, rfl⟩
    · rw [if_neg (by rw [iI_le ⟨by omega, by omega⟩ ⟨by omega, by omega⟩]; omega)]
      have e1 : iI ((t : Int) - 1) = nI (t - 1) := by rw [iI_nI]; congr 1; omega
      have e2 : iI ((t : Int) - 1) + (-1 : Int32) = iI (((t - 1 : Nat) : Int) - 1) := by
        have q : (-1 : Int32) = iI (-1) := by decide
        rw [q, iI_add]; congr 1; omega
      rw [e2, e1, ← iI_nI a, swap_eq xs ys (by omega) (by omega), bd2_s, lit32, nI_add]
      obtain ⟨u, v, xs', ys', e, g1, g2⟩ := ih (d - 2) (by omega) (a + 1) (t - 1) m (upd (upd xs a (xs (t - 1))) (t - 1) (xs a)) (upd (upd ys a (ys (t - 1))) (t - 1) (ys a)) (by omega) (by omega) (by omega) (by omega)
      refine ⟨u, v, xs', ys', e, fun j h3 h4 => ?_, fun j h3 => ?_⟩
      · by_cases q1 : j = a
        · obtain ⟨x, y⟩ := g2 j (by omega)
          have e : a + t - 1 - j = t - 1 := by omega
          rw [x, y, e]
          constructor
          · rw [pk_un (by omega), q1, pk_us]
          · rw [pk_un (by omega), q1, pk_us]
        · by_cases q2 : j = t - 1
          · obtain ⟨x, y⟩ := g2 j (by omega)
            rw [x, y, q2, pk_us, pk_us]
            have e : a + t - 1 - (t - 1) = a := by omega
            rw [e]; exact ⟨rfl, rfl⟩
          · obtain ⟨x, y⟩ := g1 j (by omega) (by omega)
            have e : a + 1 + (t - 1) - 1 - j = a + t - 1 - j := by omega
            rw [e] at x y
            rw [x, y, pk_un (by omega), pk_un (by omega), pk_un (by omega), pk_un (by omega)]
            exact ⟨rfl, rfl⟩
      · obtain ⟨x, y⟩ := g2 j (by omega)
        rw [x, y, pk_un (by omega), pk_un (by omega), pk_un (by omega), pk_un (by omega)]
        exact ⟨rfl, rfl⟩
theorem rev_eq (xs ys : Nat → Int32) {a t : Nat} (ht : t ≤ 8) (ha : a ≤ 8) : ∃ xs' ys' : Nat → Int32, P_X0_reverse (nI a) (nI t) xs ys = some (xs', ys') ∧ (∀ j, a ≤ j → j < t → xs' j = xs (a + t - 1 - j) ∧ ys' j = ys (a + t - 1 - j)) ∧ (∀ j, j < a ∨ t ≤ j → xs' j = xs j ∧ ys' j = ys j) := by
  obtain ⟨u, v, xs', ys', e, g1, g2⟩ := rev_loop 8 a t 1000 xs ys ht ha (by omega) (by omega)
  refine ⟨xs', ys', ?_, g1, g2⟩
  unfold P_X0_reverse
  have q : nI t - (1 : Int32) = iI ((t : Int) - 1) := by
    have q1 : (1 : Int32) = iI 1 := by decide
    rw [q1, iI_nI, iI_sub]
  rw [nm_s, q, e, bd4_s]
theorem start_eq (xs ys : Nat → Int32) {k n : Nat} (hn : n ≤ 8) (hk : k < n) : ∃ xs' ys' : Nat → Int32, P_X0_startAt (nI k) xs ys (nI n) = some (xs', ys') ∧ (∀ j, j < n → xs' j = xs ((j + k) % n) ∧ ys' j = ys ((j + k) % n)) ∧ (∀ j, n ≤ j → xs' j = xs j ∧ ys' j = ys j) := by
  obtain ⟨x1, y1, e1, a1, b1⟩ := rev_eq xs ys (a := 0) (t := k) (by omega) (by omega)
  obtain ⟨x2, y2, e2, a2, b2⟩ := rev_eq x1 y1 (a := k) (t := n) (by omega) (by omega)
  obtain ⟨x3, y3, e3, a3, b3⟩ := rev_eq x2 y2 (a := 0) (t := n) (by omega) (by omega)
  refine ⟨x3, y3, ?_, fun j hj => ?_, fun j hj => ?_⟩
  · unfold P_X0_startAt
    have q : (0 : Int32) = nI 0 := rfl
    rw [q, e1, bd2_s, e2, bd2_s, e3, bd2_s]
  · rw [(a3 j (Nat.zero_le j) hj).1, (a3 j (Nat.zero_le j) hj).2]
    by_cases hc : j + k < n
    · have em : (j + k) % n = j + k := Nat.mod_eq_of_lt hc
      rw [em]
      obtain ⟨u, v⟩ := a2 (0 + n - 1 - j) (by omega) (by omega)
      rw [u, v]
      have ee : k + n - 1 - (0 + n - 1 - j) = j + k := by omega
      rw [ee]
      exact b1 (j + k) (by omega)
    · have em : (j + k) % n = j + k - n := by rw [Nat.mod_eq_sub_mod (by omega), Nat.mod_eq_of_lt (by omega)]
      rw [em]
      obtain ⟨u, v⟩ := b2 (0 + n - 1 - j) (by omega)
      rw [u, v]
      obtain ⟨u, v⟩ := a1 (0 + n - 1 - j) (by omega) (by omega)
      rw [u, v]
      have ee : 0 + k - 1 - (0 + n - 1 - j) = j + k - n := by omega
      rw [ee]
      exact ⟨rfl, rfl⟩
  · rw [(b3 j (by omega)).1, (b3 j (by omega)).2, (b2 j (by omega)).1, (b2 j (by omega)).2]
    exact b1 j (by omega)
theorem aside_loop (st : Nat → Int32) (i n : Nat) (hi : i < 3) (hn : n ≤ 8) (h0 : st i = nI n) : ∀ (d k m : Nat) (wx wy : Nat → Int32), k + d = n → d < m → ∃ wx' wy' : Nat → Int32, L_X3_putAside_2 st (nI i) m (nI k) wx wy = some (nI n, wx', wy') ∧ (∀ j, k ≤ j → j < n → wx' j = st (6 + 8 * i + j) ∧ wy' j = st (30 + 8 * i + j)) ∧ (∀ j, j < k → wx' j = wx j ∧ wy' j = wy j) := by
  intro d
  induction d with
  | zero =>
    intro k m wx wy h1 h2
    obtain ⟨m, rfl⟩ : ∃ z, m = z + 1 := ⟨m - 1, by omega⟩
    obtain rfl : k = n := by omega
    refine ⟨wx, wy, ?_, fun j h3 h4 => absurd h4 (by omega), fun j _ => ⟨rfl, rfl⟩⟩
    rw [L_X3_putAside_2_s, z0, ib_nI (by omega) (by omega), gd_s, cl32 (by omega), h0, if_pos (by rw [nI_leI (by omega) (by omega)]; omega)]
  | succ d ih =>
    intro k m wx wy h1 h2
    obtain ⟨m, rfl⟩ : ∃ z, m = z + 1 := ⟨m - 1, by omega⟩
    obtain ⟨wx', wy', e, g1, g2⟩ := ih (k + 1) m (upd wx k (st (6 + (8 * i + k)))) (upd wy k (st (30 + (8 * i + k)))) (by omega) (by omega)
    refine ⟨wx', wy', ?_, fun j h3 h4 => ?_, fun j h3 => ?_⟩
    · rw [L_X3_putAside_2_s, z0, ib_nI (by omega) (by omega), gd_s, cl32 (by omega), h0, if_neg (by rw [nI_leI (by omega) (by omega)]; omega), P_place_eq, bd1_s, z6, ib_nI (by omega) (by omega), gd_s, ib_nI (by omega) (by omega), gd_s, bd1_s, z30, ib_nI (by omega) (by omega), gd_s, gd_s, cl32 (by omega), cl32 (by omega), cl32 (by omega), lit32, nI_add]
      exact e
    · by_cases q : j = k
      · subst q
        obtain ⟨x, y⟩ := g2 j (by omega)
        rw [x, y, pk_us, pk_us, Nat.add_assoc, Nat.add_assoc]
        exact ⟨rfl, rfl⟩
      · exact g1 j (by omega) h4
    · obtain ⟨x, y⟩ := g2 j (by omega)
      exact ⟨x.trans (pk_un (by omega)), y.trans (pk_un (by omega))⟩
theorem aside_eq (st : Nat → Int32) {i n : Nat} (hi : i < 3) (hn : n ≤ 8) (h0 : st i = nI n) (wx wy : Nat → Int32) : ∃ wx' wy' : Nat → Int32, P_X3_putAside (nI i) st wx wy = some (wx', wy') ∧ ∀ j, j < n → wx' j = st (6 + 8 * i + j) ∧ wy' j = st (30 + 8 * i + j) := by
  obtain ⟨wx', wy', e, g1, -⟩ := aside_loop st i n hi hn h0 n 0 1000 wx wy (by omega) (by omega)
  refine ⟨wx', wy', ?_, fun j hj => g1 j (Nat.zero_le j) hj⟩
  unfold P_X3_putAside
  have q : (0 : Int32) = nI 0 := rfl
  rw [q, e, bd3_s]
theorem layFrom_eq {i k w : Nat} (hi : i < 3) (hk : k < 8) (hw : w < 8) (st wx wy : Nat → Int32) : P_X3_layFrom (nI i) (nI k) (nI w) st wx wy = some (upd (upd st (6 + (8 * i + k)) (wx w)) (30 + (8 * i + k)) (wy w)) := by
  unfold P_X3_layFrom
  rw [P_place_eq, bd1_s, ib_nI (by omega) (by omega), gd_s, z6, ib_nI (by omega) (by omega), gd_s, bd1_s, gd_s, z30, ib_nI (by omega) (by omega), gd_s, cl32 (by omega), cl32 (by omega), cl32 (by omega)]
theorem back_loop (i n : Nat) (hi : i < 3) (hn : n ≤ 8) (wx wy : Nat → Int32) : ∀ (d k m : Nat) (st : Nat → Int32), k + d = n → d < m → ∃ st' : Nat → Int32, L_X3_back_25 (nI i) wx wy (nI n) m (nI k) st = some (nI n, st') ∧ (∀ j, k ≤ j → j < n → st' (6 + 8 * i + j) = wx (n - 1 - j) ∧ st' (30 + 8 * i + j) = wy (n - 1 - j)) ∧ (∀ q, (∀ j, k ≤ j → j < n → q ≠ 6 + 8 * i + j ∧ q ≠ 30 + 8 * i + j) → st' q = st q) := by
  intro d
  induction d with
  | zero =>
    intro k m st h1 h2
    obtain ⟨m, rfl⟩ : ∃ z, m = z + 1 := ⟨m - 1, by omega⟩
    obtain rfl : k = n := by omega
    refine ⟨st, ?_, fun j h3 h4 => absurd h4 (by omega), fun j _ => rfl⟩
    rw [L_X3_back_25_s, if_pos (by rw [nI_leI (by omega) (by omega)]; omega)]
  | succ d ih =>
    intro k m st h1 h2
    obtain ⟨m, rfl⟩ : ∃ z, m = z + 1 := ⟨m - 1, by omega⟩
    have hw : n - 1 - k < 8 := by omega
    have ew : nI n - (1 : Int32) - nI k = nI (n - 1 - k) := by rw [lit32, pk_sub (by omega), pk_sub (by omega)]
    obtain ⟨st', e, g1, g2⟩ := ih (k + 1) m (upd (upd st (6 + (8 * i + k)) (wx (n - 1 - k))) (30 + (8 * i + k)) (wy (n - 1 - k))) (by omega) (by omega)
    refine ⟨st', ?_, fun j h3 h4 => ?_, fun q h3 => ?_⟩
    · rw [L_X3_back_25_s, if_neg (by rw [nI_leI (by omega) (by omega)]; omega), ew, layFrom_eq hi (by omega) hw, bd1_s, lit32, nI_add]
      exact e
    · by_cases q : j = k
      · subst q
        have x := g2 (6 + 8 * i + j) (fun z _ _ => by omega)
        have y := g2 (30 + 8 * i + j) (fun z _ _ => by omega)
        rw [Nat.add_assoc 6, Nat.add_assoc 30] at *
        rw [pk_un (by omega), pk_us] at x
        rw [pk_us] at y
        exact ⟨x, y⟩
      · exact g1 j (by omega) h4
    · have h6 := h3 k (Nat.le_refl k) (by omega)
      exact (g2 q (fun j h4 h5 => h3 j (by omega) h5)).trans ((pk_un (by omega)).trans (pk_un (by omega)))
theorem begin_loop (i n : Nat) (hi : i < 3) (hn : n ≤ 8) (b : Nat) (hb : b < n) (wx wy : Nat → Int32) : ∀ (d k m : Nat) (st : Nat → Int32), k + d = n → d < m → ∃ st' : Nat → Int32, L_X3_begin_35 (nI i) (nI b) wx wy (nI n) m (nI k) st = some (nI n, st') ∧ (∀ j, k ≤ j → j < n → st' (6 + 8 * i + j) = wx ((j + b) % n) ∧ st' (30 + 8 * i + j) = wy ((j + b) % n)) ∧ (∀ q, (∀ j, k ≤ j → j < n → q ≠ 6 + 8 * i + j ∧ q ≠ 30 + 8 * i + j) → st' q = st q) := by
  intro d
  induction d with
  | zero =>
    intro k m st h1 h2
    obtain ⟨m, rfl⟩ : ∃ z, m = z + 1 := ⟨m - 1, by omega⟩
    obtain rfl : k = n := by omega
    refine ⟨st, ?_, fun j h3 h4 => absurd h4 (by omega), fun j _ => rfl⟩
    rw [L_X3_begin_35_s, if_pos (by rw [nI_leI (by omega) (by omega)]; omega)]
  | succ d ih =>
    intro k m st h1 h2
    obtain ⟨m, rfl⟩ : ∃ z, m = z + 1 := ⟨m - 1, by omega⟩
    have hw : (k + b) % n < 8 := Nat.lt_of_lt_of_le (Nat.mod_lt _ (by omega)) hn
    have hnz : nz (nI n) = true := decide_eq_true (nI_ne0 (by omega) (by omega))
    have ew : (nI k + nI b) - (nI k + nI b) / nI n * nI n = nI ((k + b) % n) := by rw [nI_add, pk_rem (by omega) (by omega) (by omega)]
    obtain ⟨st', e, g1, g2⟩ := ih (k + 1) m (upd (upd st (6 + (8 * i + k)) (wx ((k + b) % n))) (30 + (8 * i + k)) (wy ((k + b) % n))) (by omega) (by omega)
    refine ⟨st', ?_, fun j h3 h4 => ?_, fun q h3 => ?_⟩
    · rw [L_X3_begin_35_s, if_neg (by rw [nI_leI (by omega) (by omega)]; omega), hnz, gd_s, ew, layFrom_eq hi (by omega) hw, bd1_s, lit32, nI_add]
      exact e
    · by_cases q : j = k
      · subst q
        have x := g2 (6 + 8 * i + j) (fun z _ _ => by omega)
        have y := g2 (30 + 8 * i + j) (fun z _ _ => by omega)
        rw [Nat.add_assoc 6, Nat.add_assoc 30] at *
        rw [pk_un (by omega), pk_us] at x
        rw [pk_us] at y
        exact ⟨x, y⟩
      · exact g1 j (by omega) h4
    · have h6 := h3 k (Nat.le_refl k) (by omega)
      exact (g2 q (fun j h4 h5 => h3 j (by omega) h5)).trans ((pk_un (by omega)).trans (pk_un (by omega)))
theorem pp_back {XS YS : Nat → Nat → Nat → Int32} {SZ FO : Nat → Nat → Int32} {ke : Int32} {st im_ kp : Nat → Int32} (hI : Inv XS YS SZ FO ke st im_ kp) (a0 : Int32) (wx : Nat → Int32) (wy : Nat → Int32) : ∃ (i : Nat) (r : Int32) (xsN : Nat → Int32) (ysN : Nat → Int32) (stM : Nat → Int32) (wxM : Nat → Int32) (wyM : Nat → Int32), i < 3 ∧ (P_X2_within a0 (0 : Int32) (2 : Int32) = some (1 : Int32) → a0.toNatClampNeg = i) ∧ P_X2_back a0 (XS 0 i) (YS 0 i) (SZ 0 i) = some (r, xsN, ysN) ∧ P_X3_back a0 st wx wy = some (r, stM, wxM, wyM) ∧ Inv (up2 XS 0 i xsN) (up2 YS 0 i ysN) SZ FO ke stM im_ kp := by
  by_cases hL : (0 : Int32) ≤ a0 ∧ a0 ≤ 2
  · obtain ⟨i, hi, rfl⟩ := layer_of hL
    obtain ⟨hsz, hfo, hxy⟩ := hI.1 0 i (by decide) hi
    obtain ⟨n, hn, en⟩ := of32 (N := 8) hsz.1 hsz.2
    obtain ⟨l1, l2, l3⟩ := hI.2.1 i hi
    rw [en] at l1
    obtain ⟨wx', wy', ea, ga⟩ := aside_eq st hi hn l1 wx wy
    obtain ⟨xs', ys', ex, g1', g2'⟩ := rev_eq (XS 0 i) (YS 0 i) (a := 0) (t := n) hn (by omega)
    obtain ⟨st', es, g3, g4⟩ := back_loop i n hi hn wx' wy' n 0 1000 st (by omega) (by omega)
    have g1 : ∀ j, j < n → xs' j = XS 0 i (n - 1 - j) ∧ ys' j = YS 0 i (n - 1 - j) := fun j hj => by
      have e : 0 + n - 1 - j = n - 1 - j := by omega
      rw [← e]; exact g1' j (Nat.zero_le j) hj
    have g2 : ∀ j, n ≤ j → xs' j = XS 0 i j ∧ ys' j = YS 0 i j := fun j hj => g2' j (by omega)
    have PHI : ∀ k, k < n → n - 1 - k < 8 := fun k hk => by omega
    have PHN : ∀ k, k < n → n - 1 - k < n := fun k hk => by omega
    have q0 : (0 : Int32) = nI 0 := rfl
    · refine ⟨i, nI n, xs', ys', st', wx', wy', hi, sel_yes hi, ?_, ?_, ?_⟩
      · unfold P_X2_back
        rw [P_within_eq, bd1_s, if_neg (nb hL), en, q0, ex, bd2_s]
      · unfold P_X3_back
        rw [P_isLayer_eq, bd1_s, if_neg (nb hL), ea, bd2_s, z0, ib_nI (by omega) (by omega), gd_s, nm_s, cl32 (by omega), l1, q0, es, bd2_s]
      · have key := Inv_up (st' := st') (xs' := xs') (ys' := ys') (sz' := SZ 0 i) (fo' := FO 0 i) hI hi ?_ ?_ ?_
        · rw [up2_same, up2_same] at key; exact key
        · refine ⟨hsz, hfo, fun k hk => ?_⟩
          by_cases hkn : k < n
          · rw [(g1 k hkn).1, (g1 k hkn).2]
            exact hxy _ (PHI k hkn)
          · rw [(g2 k (by omega)).1, (g2 k (by omega)).2]
            exact hxy k hk
        · refine ⟨(g4 i (fun j _ _ => by omega)).trans (l1.trans en.symm), (g4 (3 + i) (fun j _ _ => by omega)).trans l2, fun k hk => ?_⟩
          by_cases hkn : k < n
          · have hp := PHI k hkn
            have hp2 := PHN k hkn
            rw [(g1 k hkn).1, (g1 k hkn).2, (g3 k (Nat.zero_le k) hkn).1, (g3 k (Nat.zero_le k) hkn).2, (ga _ hp2).1, (ga _ hp2).2]
            exact l3 _ hp
          · rw [(g2 k (by omega)).1, (g2 k (by omega)).2, g4 (6 + 8 * i + k) (fun j _ _ => by omega), g4 (30 + 8 * i + k) (fun j _ _ => by omega)]
            exact l3 k hk
        · intro i' hi' hne
          refine ⟨g4 _ (fun j _ _ => by omega), g4 _ (fun j _ _ => by omega), fun k hk => ⟨g4 _ (fun j _ _ => by omega), g4 _ (fun j _ _ => by omega)⟩⟩
  · refine ⟨0, -1, XS 0 0, YS 0 0, st, wx, wy, by decide, sel_no hL, ?_, ?_, ?_⟩
    · unfold P_X2_back
      rw [P_within_eq, bd1_s, if_pos (pb hL)]
    · unfold P_X3_back
      rw [P_isLayer_eq, bd1_s, if_pos (pb hL)]
    · rw [up2_same, up2_same]; exact hI
theorem pp_begin {XS YS : Nat → Nat → Nat → Int32} {SZ FO : Nat → Nat → Int32} {ke : Int32} {st im_ kp : Nat → Int32} (hI : Inv XS YS SZ FO ke st im_ kp) (a0 : Int32) (a1 : Int32) (wx : Nat → Int32) (wy : Nat → Int32) : ∃ (i : Nat) (r : Int32) (xsN : Nat → Int32) (ysN : Nat → Int32) (stM : Nat → Int32) (wxM : Nat → Int32) (wyM : Nat → Int32), i < 3 ∧ (P_X2_within a0 (0 : Int32) (2 : Int32) = some (1 : Int32) → a0.toNatClampNeg = i) ∧ P_X2_begin a0 a1 (XS 0 i) (YS 0 i) (SZ 0 i) = some (r, xsN, ysN) ∧ P_X3_begin a0 a1 st wx wy = some (r, stM, wxM, wyM) ∧ Inv (up2 XS 0 i xsN) (up2 YS 0 i ysN) SZ FO ke stM im_ kp := by
  by_cases hL : (0 : Int32) ≤ a0 ∧ a0 ≤ 2
  · obtain ⟨i, hi, rfl⟩ := layer_of hL
    obtain ⟨hsz, hfo, hxy⟩ := hI.1 0 i (by decide) hi
    obtain ⟨n, hn, en⟩ := of32 (N := 8) hsz.1 hsz.2
    obtain ⟨l1, l2, l3⟩ := hI.2.1 i hi
    rw [en] at l1
    by_cases hk : (0 : Int32) ≤ a1 ∧ a1 < nI n
    · obtain ⟨b, hbn, rfl⟩ := point_of hn hk
      obtain ⟨wx', wy', ea, ga⟩ := aside_eq st hi hn l1 wx wy
      obtain ⟨xs', ys', ex, g1, g2⟩ := start_eq (XS 0 i) (YS 0 i) hn hbn
      obtain ⟨st', es, g3, g4⟩ := begin_loop i n hi hn b hbn wx' wy' n 0 1000 st (by omega) (by omega)
      have PHN : ∀ k, k < n → (k + b) % n < n := fun k hk => Nat.mod_lt _ (by omega)
      have PHI : ∀ k, k < n → (k + b) % n < 8 := fun k hk => Nat.lt_of_lt_of_le (PHN k hk) hn
      have q0 : (0 : Int32) = nI 0 := rfl
      refine ⟨i, nI n, xs', ys', st', wx', wy', hi, sel_yes hi, ?_, ?_, ?_⟩
      · unfold P_X2_begin
        rw [P_within_eq, bd1_s, if_neg (nb hL), en, P_has_eq, bd1_s, if_neg (nb hk), ex, bd2_s]
      · unfold P_X3_begin
        rw [P_isLayer_eq, bd1_s, if_neg (nb hL), P_isPoint_eq hi _ hn l1, bd1_s, if_neg (nb hk), ea, bd2_s, z0, ib_nI (by omega) (by omega), gd_s, nm_s, cl32 (by omega), l1, q0, es, bd2_s]
      · have key := Inv_up (st' := st') (xs' := xs') (ys' := ys') (sz' := SZ 0 i) (fo' := FO 0 i) hI hi ?_ ?_ ?_
        · rw [up2_same, up2_same] at key; exact key
        · refine ⟨hsz, hfo, fun k hk => ?_⟩
          by_cases hkn : k < n
          · rw [(g1 k hkn).1, (g1 k hkn).2]
            exact hxy _ (PHI k hkn)
          · rw [(g2 k (by omega)).1, (g2 k (by omega)).2]
            exact hxy k hk
        · refine ⟨(g4 i (fun j _ _ => by omega)).trans (l1.trans en.symm), (g4 (3 + i) (fun j _ _ => by omega)).trans l2, fun k hk => ?_⟩
          by_cases hkn : k < n
          · have hp := PHI k hkn
            have hp2 := PHN k hkn
            rw [(g1 k hkn).1, (g1 k hkn).2, (g3 k (Nat.zero_le k) hkn).1, (g3 k (Nat.zero_le k) hkn).2, (ga _ hp2).1, (ga _ hp2).2]
            exact l3 _ hp
          · rw [(g2 k (by omega)).1, (g2 k (by omega)).2, g4 (6 + 8 * i + k) (fun j _ _ => by omega), g4 (30 + 8 * i + k) (fun j _ _ => by omega)]
            exact l3 k hk
        · intro i' hi' hne
          refine ⟨g4 _ (fun j _ _ => by omega), g4 _ (fun j _ _ => by omega), fun k hk => ⟨g4 _ (fun j _ _ => by omega), g4 _ (fun j _ _ => by omega)⟩⟩
    · refine ⟨i, -1, XS 0 i, YS 0 i, st, wx, wy, hi, sel_yes hi, ?_, ?_, ?_⟩
      · unfold P_X2_begin
        rw [P_within_eq, bd1_s, if_neg (nb hL), en, P_has_eq, bd1_s, if_pos (pb hk)]
      · unfold P_X3_begin
        rw [P_isLayer_eq, bd1_s, if_neg (nb hL), P_isPoint_eq hi _ hn l1, bd1_s, if_pos (pb hk)]
      · rw [up2_same, up2_same]; exact hI
  · refine ⟨0, -1, XS 0 0, YS 0 0, st, wx, wy, by decide, sel_no hL, ?_, ?_, ?_⟩
    · unfold P_X2_begin
      rw [P_within_eq, bd1_s, if_pos (pb hL)]
    · unfold P_X3_begin
      rw [P_isLayer_eq, bd1_s, if_pos (pb hL)]
    · rw [up2_same, up2_same]; exact hI
