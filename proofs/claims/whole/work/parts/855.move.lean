/-- a point, moved, lies in the field -/
def HE (xs ys : Nat → Int32) (a b : Int32) (j : Nat) : Prop := ((0 : Int32) ≤ xs j + a ∧ xs j + a ≤ 12) ∧ ((0 : Int32) ≤ ys j + b ∧ ys j + b ≤ 12)
theorem stays_loop (xs ys : Nat → Int32) (n : Nat) (hn : n ≤ 8) (a b : Int32) : ∀ (d k m : Nat), k + d = n → d < m → ∃ r : Int32, L_X0_staysInField_2 xs ys (nI n) a b m (nI k) = some r ∧ (r = 0 ∨ r = 1) ∧ (r = 1 ↔ ∀ j, k ≤ j → j < n → HE xs ys a b j) := by
  intro d
  induction d with
  | zero =>
    intro k m h1 h2
    obtain ⟨m, rfl⟩ : ∃ z, m = z + 1 := ⟨m - 1, by omega⟩
    refine ⟨1, ?_, Or.inr rfl, fun _ j h3 h4 => absurd h4 (by omega), fun _ => rfl⟩
    rw [L_X0_staysInField_2_s, if_pos (by rw [nI_leI (by omega) (by omega)]; omega)]
  | succ d ih =>
    intro k m h1 h2
    obtain ⟨m, rfl⟩ : ∃ z, m = z + 1 := ⟨m - 1, by omega⟩
    rw [L_X0_staysInField_2_s, if_neg (by rw [nI_leI (by omega) (by omega)]; omega), ib_nI (by omega) (by omega), gd_s, cl32 (by omega), P_inField_eq, bd1_s]
    by_cases hx : (0 : Int32) ≤ xs k + a ∧ xs k + a ≤ 12
    · rw [if_neg (nb hx), gd_s, P_inField_eq, bd1_s]
      by_cases hy : (0 : Int32) ≤ ys k + b ∧ ys k + b ≤ 12
      · rw [if_neg (nb hy), lit32, nI_add]
        obtain ⟨r, e, h01, hr⟩ := ih (k + 1) m (by omega) (by omega)
        refine ⟨r, e, h01, hr.trans ⟨fun h j h3 h4 => ?_, fun h j h3 h4 => h j (by omega) h4⟩⟩
        by_cases q : j = k
        · subst q; exact ⟨hx, hy⟩
        · exact h j (by omega) h4
      · rw [if_pos (pb hy)]
        exact ⟨0, rfl, Or.inl rfl, fun q => absurd q (by decide), fun h => absurd (h k (Nat.le_refl k) (by omega)).2 hy⟩
    · rw [if_pos (pb hx)]
      exact ⟨0, rfl, Or.inl rfl, fun q => absurd q (by decide), fun h => absurd (h k (Nat.le_refl k) (by omega)).1 hx⟩
theorem stays_eq (xs ys : Nat → Int32) {n : Nat} (hn : n ≤ 8) (a b : Int32) : ∃ r : Int32, P_X0_staysInField a b xs ys (nI n) = some r ∧ (r = 0 ∨ r = 1) ∧ (r = 1 ↔ ∀ j, j < n → HE xs ys a b j) := by
  obtain ⟨r, e, h01, hr⟩ := stays_loop xs ys n hn a b n 0 1000 (by omega) (by omega)
  refine ⟨r, ?_, h01, hr.trans ⟨fun h j hj => h j (Nat.zero_le j) hj, fun h j _ hj => h j hj⟩⟩
  unfold P_X0_staysInField
  exact e
theorem can_loop (st xs ys : Nat → Int32) (i n : Nat) (hi : i < 3) (hn : n ≤ 8) (h0 : st i = nI n) (hl : ∀ k, k < 8 → st (6 + 8 * i + k) = xs k ∧ st (30 + 8 * i + k) = ys k) (a b : Int32) : ∀ (d k m : Nat) (c : Int32), (c = 0 ∨ c = 1) → k + d = n → d < m → ∃ r : Int32, L_X3_canMove_6 st (nI i) a b m (nI k) c = some (nI n, r) ∧ (r = 0 ∨ r = 1) ∧ (r = 1 ↔ (c = 1 ∧ ∀ j, k ≤ j → j < n → HE xs ys a b j)) := by
  intro d
  induction d with
  | zero =>
    intro k m c hc h1 h2
    obtain ⟨m, rfl⟩ : ∃ z, m = z + 1 := ⟨m - 1, by omega⟩
    obtain rfl : k = n := by omega
    refine ⟨c, ?_, hc, fun q => ⟨q, fun j h3 h4 => absurd h4 (by omega)⟩, fun q => q.1⟩
    rw [L_X3_canMove_6_s, z0, ib_nI (by omega) (by omega), gd_s, cl32 (by omega), h0, if_pos (by rw [nI_leI (by omega) (by omega)]; omega)]
  | succ d ih =>
    intro k m c hc h1 h2
    obtain ⟨m, rfl⟩ : ∃ z, m = z + 1 := ⟨m - 1, by omega⟩
    have e6 : st (6 + (8 * i + k)) = xs k := by rw [← Nat.add_assoc]; exact (hl k (by omega)).1
    have e30 : st (30 + (8 * i + k)) = ys k := by rw [← Nat.add_assoc]; exact (hl k (by omega)).2
    rw [L_X3_canMove_6_s, z0, ib_nI (by omega) (by omega), gd_s, cl32 (by omega), h0, if_neg (by rw [nI_leI (by omega) (by omega)]; omega)]
    rcases hc with rfl | rfl
    · rw [if_pos rfl]
      obtain ⟨r, e, h01, hr⟩ := ih (k + 1) m 0 (Or.inl rfl) (by omega) (by omega)
      have e1 : nI k + (1 : Int32) = nI (k + 1) := by rw [lit32, nI_add]
      rw [e1]
      exact ⟨r, e, h01, hr.trans ⟨fun q => absurd q.1 (by decide), fun q => absurd q.1 (by decide)⟩⟩
    · rw [if_neg (by decide), P_place_eq, bd1_s, z6, ib_nI (by omega) (by omega), gd_s, bd1_s, z30, ib_nI (by omega) (by omega), gd_s, cl32 (by omega), cl32 (by omega), e6, e30, P_isHere_eq, bd1_s]
      have e1 : nI k + (1 : Int32) = nI (k + 1) := by rw [lit32, nI_add]
      rw [e1]
      by_cases hh : ((0 : Int32) ≤ xs k + a ∧ xs k + a ≤ 12) ∧ ((0 : Int32) ≤ ys k + b ∧ ys k + b ≤ 12)
      · rw [if_neg (nb hh)]
        obtain ⟨r, e, h01, hr⟩ := ih (k + 1) m 1 (Or.inr rfl) (by omega) (by omega)
        refine ⟨r, e, h01, hr.trans ⟨fun q => ⟨rfl, fun j h3 h4 => ?_⟩, fun q => ⟨rfl, fun j h3 h4 => q.2 j (by omega) h4⟩⟩⟩
        by_cases z : j = k
        · subst z; exact hh
        · exact q.2 j (by omega) h4
      · rw [if_pos (pb hh)]
        obtain ⟨r, e, h01, hr⟩ := ih (k + 1) m 0 (Or.inl rfl) (by omega) (by omega)
        exact ⟨r, e, h01, hr.trans ⟨fun q => absurd q.1 (by decide), fun q => absurd (q.2 k (Nat.le_refl k) (by omega)) hh⟩⟩
theorem isb_01 {r : Int32} (h : r = 0 ∨ r = 1) : isb r = true := decide_eq_true h
theorem can_eq (st xs ys : Nat → Int32) {i n : Nat} (hi : i < 3) (hn : n ≤ 8) (h0 : st i = nI n) (hl : ∀ k, k < 8 → st (6 + 8 * i + k) = xs k ∧ st (30 + 8 * i + k) = ys k) (a b : Int32) : ∃ r : Int32, P_X3_canMove (nI i) a b st = some r ∧ (r = 0 ∨ r = 1) ∧ (r = 1 ↔ ∀ j, j < n → HE xs ys a b j) := by
  obtain ⟨r, e, h01, hr⟩ := can_loop st xs ys i n hi hn h0 hl a b n 0 1000 1 (Or.inr rfl) (by omega) (by omega)
  refine ⟨r, ?_, h01, hr.trans ⟨fun h j hj => h.2 j (Nat.zero_le j) hj, fun h => ⟨rfl, fun j _ hj => h j hj⟩⟩⟩
  unfold P_X3_canMove
  have q : (0 : Int32) = nI 0 := rfl
  rw [q, e, bd2_s, isb_01 h01, gd_s]
theorem shift_loop (n : Nat) (hn : n ≤ 8) (a b : Int32) : ∀ (d k m : Nat) (xs ys : Nat → Int32), k + d = n → d < m → ∃ xs' ys' : Nat → Int32, L_X0_shift_2 (nI n) a b m (nI k) xs ys = some (nI n, xs', ys') ∧ (∀ j, k ≤ j → j < n → xs' j = xs j + a ∧ ys' j = ys j + b) ∧ (∀ j, j < k ∨ n ≤ j → xs' j = xs j ∧ ys' j = ys j) := by
  intro d
  induction d with
  | zero =>
    intro k m xs ys h1 h2
    obtain ⟨m, rfl⟩ : ∃ z, m = z + 1 := ⟨m - 1, by omega⟩
    obtain rfl : k = n := by omega
    refine ⟨xs, ys, ?_, fun j h3 h4 => absurd h4 (by omega), fun j _ => ⟨rfl, rfl⟩⟩
    rw [L_X0_shift_2_s, if_pos (by rw [nI_leI (by omega) (by omega)]; omega)]
  | succ d ih =>
    intro k m xs ys h1 h2
    obtain ⟨m, rfl⟩ : ∃ z, m = z + 1 := ⟨m - 1, by omega⟩
    obtain ⟨xs', ys', e, g1, g2⟩ := ih (k + 1) m (upd xs k (xs k + a)) (upd ys k (ys k + b)) (by omega) (by omega)
    refine ⟨xs', ys', ?_, fun j h3 h4 => ?_, fun j h3 => ?_⟩
    · rw [L_X0_shift_2_s, if_neg (by rw [nI_leI (by omega) (by omega)]; omega), ib_nI (by omega) (by omega), gd_s, gd_s, gd_s, gd_s, cl32 (by omega), lit32, nI_add]
      exact e
    · by_cases q : j = k
      · subst q
        obtain ⟨x, y⟩ := g2 j (by omega)
        exact ⟨x.trans pk_us, y.trans pk_us⟩
      · obtain ⟨x, y⟩ := g1 j (by omega) h4
        rw [pk_un q] at x
        rw [pk_un q] at y
        exact ⟨x, y⟩
    · obtain ⟨x, y⟩ := g2 j (by omega)
      exact ⟨x.trans (pk_un (by omega)), y.trans (pk_un (by omega))⟩
theorem move_loop (i n : Nat) (hi : i < 3) (hn : n ≤ 8) (a b : Int32) : ∀ (d k m : Nat) (st : Nat → Int32), st i = nI n → k + d = n → d < m → ∃ st' : Nat → Int32, L_X3_move_50 (nI i) a b m (nI k) st = some (nI n, st') ∧ (∀ j, k ≤ j → j < n → st' (6 + 8 * i + j) = st (6 + 8 * i + j) + a ∧ st' (30 + 8 * i + j) = st (30 + 8 * i + j) + b) ∧ (∀ q, (∀ j, k ≤ j → j < n → q ≠ 6 + 8 * i + j ∧ q ≠ 30 + 8 * i + j) → st' q = st q) := by
  intro d
  induction d with
  | zero =>
    intro k m st h0 h1 h2
    obtain ⟨m, rfl⟩ : ∃ z, m = z + 1 := ⟨m - 1, by omega⟩
    obtain rfl : k = n := by omega
    refine ⟨st, ?_, fun j h3 h4 => absurd h4 (by omega), fun j _ => rfl⟩
    rw [L_X3_move_50_s, z0, ib_nI (by omega) (by omega), gd_s, cl32 (by omega), h0, if_pos (by rw [nI_leI (by omega) (by omega)]; omega)]
  | succ d ih =>
    intro k m st h0 h1 h2
    obtain ⟨m, rfl⟩ : ∃ z, m = z + 1 := ⟨m - 1, by omega⟩
    obtain ⟨st', e, g1, g2⟩ := ih (k + 1) m (upd (upd st (6 + (8 * i + k)) (st (6 + (8 * i + k)) + a)) (30 + (8 * i + k)) (st (30 + (8 * i + k)) + b)) (by rw [pk_un (by omega), pk_un (by omega)]; exact h0) (by omega) (by omega)
    refine ⟨st', ?_, fun j h3 h4 => ?_, fun q h3 => ?_⟩
    · rw [L_X3_move_50_s, z0, ib_nI (by omega) (by omega), gd_s, cl32 (by omega), h0, if_neg (by rw [nI_leI (by omega) (by omega)]; omega), P_place_eq, bd1_s, z6, ib_nI (by omega) (by omega), gd_s, gd_s, bd1_s, z30, ib_nI (by omega) (by omega), gd_s, gd_s, cl32 (by omega), cl32 (by omega), pk_un (by omega), lit32, nI_add]
      exact e
    · by_cases q : j = k
      · subst q
        have x := g2 (6 + 8 * i + j) (fun z _ _ => by omega)
        have y := g2 (30 + 8 * i + j) (fun z _ _ => by omega)
        rw [Nat.add_assoc 6, Nat.add_assoc 30] at *
        rw [pk_un (by omega), pk_us] at x
        rw [pk_us] at y
        exact ⟨x, y⟩
      · obtain ⟨x, y⟩ := g1 j (by omega) h4
        rw [pk_un (by omega), pk_un (by omega)] at x
        rw [pk_un (by omega), pk_un (by omega)] at y
        exact ⟨x, y⟩
    · have h6 := h3 k (Nat.le_refl k) (by omega)
      exact (g2 q (fun j h4 h5 => h3 j (by omega) h5)).trans ((pk_un (by omega)).trans (pk_un (by omega)))
theorem pp_move {XS YS : Nat → Nat → Nat → Int32} {SZ FO : Nat → Nat → Int32} {ke : Int32} {st im_ kp : Nat → Int32} (hI : Inv XS YS SZ FO ke st im_ kp) (a0 : Int32) (a1 : Int32) (a2 : Int32) : ∃ (i : Nat) (r : Int32) (xsN : Nat → Int32) (ysN : Nat → Int32) (stM : Nat → Int32), i < 3 ∧ (P_X2_within a0 (0 : Int32) (2 : Int32) = some (1 : Int32) → a0.toNatClampNeg = i) ∧ P_X2_move a0 a1 a2 (XS 0 i) (YS 0 i) (SZ 0 i) = some (r, xsN, ysN) ∧ P_X3_move a0 a1 a2 st = some (r, stM) ∧ Inv (up2 XS 0 i xsN) (up2 YS 0 i ysN) SZ FO ke stM im_ kp := by
  by_cases hL : (0 : Int32) ≤ a0 ∧ a0 ≤ 2
  · obtain ⟨i, hi, rfl⟩ := layer_of hL
    obtain ⟨hsz, hfo, hxy⟩ := hI.1 0 i (by decide) hi
    obtain ⟨n, hn, en⟩ := of32 (N := 8) hsz.1 hsz.2
    obtain ⟨l1, l2, l3⟩ := hI.2.1 i hi
    rw [en] at l1
    by_cases hx : (-12 : Int32) ≤ a1 ∧ a1 ≤ 12
    · by_cases hy : (-12 : Int32) ≤ a2 ∧ a2 ≤ 12
      · obtain ⟨r1, e1, h01, hr1⟩ := stays_eq (XS 0 i) (YS 0 i) hn a1 a2
        obtain ⟨r2, e2, h02, hr2⟩ := can_eq st (XS 0 i) (YS 0 i) hi hn l1 l3 a1 a2
        by_cases hh : ∀ j, j < n → HE (XS 0 i) (YS 0 i) a1 a2 j
        · have f1 := hr1.mpr hh
          have f2 := hr2.mpr hh
          obtain ⟨xs', ys', e3, g1, g2⟩ := shift_loop n hn a1 a2 n 0 1000 (XS 0 i) (YS 0 i) (by omega) (by omega)
          obtain ⟨st', e4, g3, g4⟩ := move_loop i n hi hn a1 a2 n 0 1000 st l1 (by omega) (by omega)
          have q0 : (0 : Int32) = nI 0 := rfl
          have hsi : st' i = nI n := (g4 i (fun j _ _ => by omega)).trans l1
          refine ⟨i, nI n, xs', ys', st', hi, sel_yes hi, ?_, ?_, ?_⟩
          · unfold P_X2_move
            rw [P_within_eq, bd1_s, if_neg (nb hL), P_within_eq, bd1_s, if_neg (nb hx), P_within_eq, bd1_s, if_neg (nb hy), en, e1, bd1_s, f1, if_neg (by decide)]
            unfold P_X0_shift
            rw [q0, e3, bd3_s, bd2_s]
          · unfold P_X3_move
            rw [P_isLayer_eq, bd1_s, if_neg (nb hL), P_in_eq, bd1_s, if_neg (nb hx), P_in_eq, bd1_s, if_neg (nb hy), e2, bd1_s, f2, if_neg (by decide), z0, ib_nI (by omega) (by omega)]
            rw [q0, e4, bd2_s, gd_s, cl32 (by omega), hsi]
          · have key := Inv_up (st' := st') (xs' := xs') (ys' := ys') (sz' := SZ 0 i) (fo' := FO 0 i) hI hi ?_ ?_ ?_
            · rw [up2_same, up2_same] at key; exact key
            · refine ⟨hsz, hfo, fun k hk => ?_⟩
              by_cases hkn : k < n
              · rw [(g1 k (Nat.zero_le k) hkn).1, (g1 k (Nat.zero_le k) hkn).2]
                exact ⟨here12 (hh k hkn).1, here12 (hh k hkn).2⟩
              · rw [(g2 k (by omega)).1, (g2 k (by omega)).2]
                exact hxy k hk
            · refine ⟨hsi.trans en.symm, (g4 (3 + i) (fun j _ _ => by omega)).trans l2, fun k hk => ?_⟩
              by_cases hkn : k < n
              · rw [(g1 k (Nat.zero_le k) hkn).1, (g1 k (Nat.zero_le k) hkn).2, (g3 k (Nat.zero_le k) hkn).1, (g3 k (Nat.zero_le k) hkn).2, (l3 k hk).1, (l3 k hk).2]
                exact ⟨rfl, rfl⟩
              · rw [(g2 k (by omega)).1, (g2 k (by omega)).2, g4 (6 + 8 * i + k) (fun j _ _ => by omega), g4 (30 + 8 * i + k) (fun j _ _ => by omega)]
                exact l3 k hk
            · intro i' hi' hne
              refine ⟨g4 _ (fun j _ _ => by omega), g4 _ (fun j _ _ => by omega), fun k hk => ⟨g4 _ (fun j _ _ => by omega), g4 _ (fun j _ _ => by omega)⟩⟩
        · have f1 : r1 = 0 := h01.elim id (fun q => absurd (hr1.mp q) hh)
          have f2 : r2 = 0 := h02.elim id (fun q => absurd (hr2.mp q) hh)
          refine ⟨i, -5, XS 0 i, YS 0 i, st, hi, sel_yes hi, ?_, ?_, ?_⟩
          · unfold P_X2_move
            rw [P_within_eq, bd1_s, if_neg (nb hL), P_within_eq, bd1_s, if_neg (nb hx), P_within_eq, bd1_s, if_neg (nb hy), en, e1, bd1_s, if_pos f1]
          · unfold P_X3_move
            rw [P_isLayer_eq, bd1_s, if_neg (nb hL), P_in_eq, bd1_s, if_neg (nb hx), P_in_eq, bd1_s, if_neg (nb hy), e2, bd1_s, if_pos f2]
          · rw [up2_same, up2_same]; exact hI
      · refine ⟨i, -2, XS 0 i, YS 0 i, st, hi, sel_yes hi, ?_, ?_, ?_⟩
        · unfold P_X2_move
          rw [P_within_eq, bd1_s, if_neg (nb hL), P_within_eq, bd1_s, if_neg (nb hx), P_within_eq, bd1_s, if_pos (pb hy)]
        · unfold P_X3_move
          rw [P_isLayer_eq, bd1_s, if_neg (nb hL), P_in_eq, bd1_s, if_neg (nb hx), P_in_eq, bd1_s, if_pos (pb hy)]
        · rw [up2_same, up2_same]; exact hI
    · refine ⟨i, -2, XS 0 i, YS 0 i, st, hi, sel_yes hi, ?_, ?_, ?_⟩
      · unfold P_X2_move
        rw [P_within_eq, bd1_s, if_neg (nb hL), P_within_eq, bd1_s, if_pos (pb hx)]
      · unfold P_X3_move
        rw [P_isLayer_eq, bd1_s, if_neg (nb hL), P_in_eq, bd1_s, if_pos (pb hx)]
      · rw [up2_same, up2_same]; exact hI
  · refine ⟨0, -1, XS 0 0, YS 0 0, st, by decide, sel_no hL, ?_, ?_, ?_⟩
    · unfold P_X2_move
      rw [P_within_eq, bd1_s, if_pos (pb hL)]
    · unfold P_X3_move
      rw [P_isLayer_eq, bd1_s, if_pos (pb hL)]
    · rw [up2_same, up2_same]; exact hI
