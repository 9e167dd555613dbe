theorem rgN {a : Int32} (lo hi : Nat) (h1 : lo < 2147483648) (h2 : hi < 2147483648) : (nI lo ≤ a ∧ a ≤ nI hi) ↔ ((lo : Int) ≤ a.toInt ∧ a.toInt ≤ hi) := by rw [le32 h1, le32' h2]
theorem eqN {a : Int32} (n : Nat) (h : n < 2147483648) : a = nI n ↔ a.toInt = n := by rw [← Int32.toInt_inj, ti32 h]
theorem sub10 (a : Int32) : a - 10 + 10 = a := by
  have e : (10 : Int32) = iI 10 := by decide
  rw [e, ← iI_of a, iI_sub, iI_add, Int.sub_add_cancel]
theorem pp_count {XS YS : Nat → Nat → Nat → Int32} {SZ FO : Nat → Nat → Int32} {ke : Int32} {st im_ kp : Nat → Int32} (hI : Inv XS YS SZ FO ke st im_ kp) (a0 : Int32) : ∃ (i : Nat) (j : Nat) (r : Int32), i < 3 ∧ (P_X2_within a0 (0 : Int32) (2 : Int32) = some (1 : Int32) → a0.toNatClampNeg = i) ∧ j < 3 ∧ (P_X2_within (a0 - (10 : Int32)) (0 : Int32) (2 : Int32) = some (1 : Int32) → (a0 - (10 : Int32)).toNatClampNeg = j) ∧ P_X2_count a0 ke (SZ 0 0) (SZ 0 1) (SZ 0 2) (SZ 0 i) (FO 0 j) = some r ∧ P_X3_count a0 st kp = some r := by
  have hL0 : ((0 : Int32) ≤ a0 ∧ a0 ≤ 2) ↔ (0 ≤ a0.toInt ∧ a0.toInt ≤ 2) := rgN 0 2 (by decide) (by decide)
  have hL1 : ((10 : Int32) ≤ a0 ∧ a0 ≤ 12) ↔ (10 ≤ a0.toInt ∧ a0.toInt ≤ 12) := rgN 10 12 (by decide) (by decide)
  have h3 : a0 = 3 ↔ a0.toInt = 3 := eqN 3 (by decide)
  have h4 : a0 = 4 ↔ a0.toInt = 4 := eqN 4 (by decide)
  have hs10 : ¬ ((10 : Int32) ≤ a0 ∧ a0 ≤ 12) → ¬ ((0 : Int32) ≤ a0 - 10 ∧ a0 - 10 ≤ 2) := by
    intro h q
    obtain ⟨j, hj, e⟩ := layer_of q
    have e2 : a0 = nI (j + 10) := by rw [← sub10 a0, e, lit32, nI_add]
    apply h
    rw [hL1, e2, ti32 (by omega)]
    omega
  by_cases c1 : (0 : Int32) ≤ a0 ∧ a0 ≤ 2
  · have c1' := hL0.mp c1
    have n3 : ¬ a0 = 3 := by rw [h3]; omega
    have n4 : ¬ a0 = 4 := by rw [h4]; omega
    have n10 : ¬ ((10 : Int32) ≤ a0 ∧ a0 ≤ 12) := by rw [hL1]; omega
    obtain ⟨i, hi, rfl⟩ := layer_of c1
    refine ⟨i, 0, SZ 0 i, hi, sel_yes hi, by decide, sel_no (hs10 n10), ?_, ?_⟩
    · unfold P_X2_count
      rw [if_neg n3, if_neg n4, P_within_eq, bd1_s, if_neg (nb c1)]
    · unfold P_X3_count
      rw [P_in_eq, bd1_s, if_pos (pb n10), P_in_eq, bd1_s, if_neg (nb c1), z0, ib_nI (by omega) (by omega), gd_s, cl32 (by omega), (hI.2.1 i hi).1]
  · have c1' : ¬ (0 ≤ a0.toInt ∧ a0.toInt ≤ 2) := fun q => c1 (hL0.mpr q)
    by_cases c2 : (10 : Int32) ≤ a0 ∧ a0 ≤ 12
    · have c2' := hL1.mp c2
      have n3 : ¬ a0 = 3 := by rw [h3]; omega
      have n4 : ¬ a0 = 4 := by rw [h4]; omega
      obtain ⟨n, hn, rfl⟩ := of32 (x := a0) (N := 12) (by omega) (by omega)
      rw [ti32 (by omega)] at c2'
      obtain ⟨j, rfl⟩ : ∃ j, n = 10 + j := ⟨n - 10, by omega⟩
      have ej : nI (10 + j) - 10 = nI j := by
        rw [lit32, pk_sub (by omega)]
        congr 1
        omega
      have e3 : (3 : Int32) + nI (10 + j) - 10 = nI (3 + j) := by
        rw [lit32, lit32, nI_add, pk_sub (by omega)]
        congr 1
        omega
      refine ⟨0, j, FO 0 j, by decide, sel_no c1, by omega, ?_, ?_, ?_⟩
      · rw [ej]; exact sel_yes (by omega)
      · unfold P_X2_count
        rw [if_neg n3, if_neg n4, P_within_eq, bd1_s, if_pos (pb c1), ej, P_within_eq, bd1_s, if_neg (nb (layer_in (by omega)))]
      · unfold P_X3_count
        rw [P_in_eq, bd1_s, if_neg (nb c2), e3, ib_nI (by omega) (by omega), gd_s, cl32 (by omega), (hI.2.1 j (by omega)).2.1]
    · by_cases c3 : a0 = 3
      · refine ⟨0, 0, SZ 0 0 + SZ 0 1 + SZ 0 2, by decide, sel_no c1, by decide, sel_no (hs10 c2), ?_, ?_⟩
        · unfold P_X2_count
          rw [if_pos c3]
          unfold P_X1_pointsOfAll
          rw [nm_s, nm_s, nm_s, bd1_s]
          have e : (0 : Int32) + SZ 0 0 = SZ 0 0 := by
            have q : (0 : Int32) = iI 0 := by decide
            rw [q, ← iI_of (SZ 0 0), iI_add, Int.zero_add]
          rw [e]
        · unfold P_X3_count
          rw [P_in_eq, bd1_s, if_pos (pb c2), P_in_eq, bd1_s, if_pos (pb c1), if_pos c3]
          have e0 : (0 : Int32).toNatClampNeg = 0 := by decide
          have e1 : (1 : Int32).toNatClampNeg = 1 := by decide
          have e2 : (2 : Int32).toNatClampNeg = 2 := by decide
          rw [e0, e1, e2, (hI.2.1 0 (by decide)).1, (hI.2.1 1 (by decide)).1, (hI.2.1 2 (by decide)).1]
      · by_cases c4 : a0 = 4
        · refine ⟨0, 0, ke, by decide, sel_no c1, by decide, sel_no (hs10 c2), ?_, ?_⟩
          · unfold P_X2_count
            rw [if_neg c3, if_pos c4]
          · unfold P_X3_count
            rw [P_in_eq, bd1_s, if_pos (pb c2), P_in_eq, bd1_s, if_pos (pb c1), if_neg c3, if_pos c4]
            have e0 : (0 : Int32).toNatClampNeg = 0 := by decide
            have e1 : (1 : Int32).toNatClampNeg = 1 := by decide
            obtain ⟨k0, k1, ek⟩ := hI.2.2.2
            rw [e0, e1, ek]
            rcases k0 with q0 | q0 <;> rcases k1 with q1 | q1 <;> rw [q0, q1] <;> decide
        · refine ⟨0, 0, -2, by decide, sel_no c1, by decide, sel_no (hs10 c2), ?_, ?_⟩
          · unfold P_X2_count
            rw [if_neg c3, if_neg c4, P_within_eq, bd1_s, if_pos (pb c1), P_within_eq, bd1_s, if_pos (pb (hs10 c2))]
          · unfold P_X3_count
            rw [P_in_eq, bd1_s, if_pos (pb c2), P_in_eq, bd1_s, if_pos (pb c1), if_neg c3, if_neg c4]
theorem cp_loop (xs9 ys9 : Nat → Int32) : ∀ (d k n : Nat) (xs ys : Nat → Int32), k + d = 8 → d < n → ∃ xs' ys' : Nat → Int32, L_X0_copyFrom_2 xs9 ys9 n (nI k) xs ys = some (nI 8, xs', ys') ∧ (∀ j, k ≤ j → j < 8 → xs' j = xs9 j ∧ ys' j = ys9 j) ∧ (∀ j, j < k → xs' j = xs j ∧ ys' j = ys j) := by
  intro d
  induction d with
  | zero =>
    intro k n xs ys h1 h2
    obtain ⟨n, rfl⟩ : ∃ z, n = z + 1 := ⟨n - 1, by omega⟩
    obtain rfl : k = 8 := by omega
    refine ⟨xs, ys, ?_, fun j h3 h4 => absurd h4 (by omega), fun j _ => ⟨rfl, rfl⟩⟩
    rw [L_X0_copyFrom_2_s, if_pos (by decide)]
  | succ d ih =>
    intro k n xs ys h1 h2
    obtain ⟨n, rfl⟩ : ∃ z, n = z + 1 := ⟨n - 1, by omega⟩
    obtain ⟨xs', ys', e, g1, g2⟩ := ih (k + 1) n (upd xs k (xs9 k)) (upd ys k (ys9 k)) (by omega) (by omega)
    refine ⟨xs', ys', ?_, fun j h3 h4 => ?_, fun j h3 => ?_⟩
    · rw [L_X0_copyFrom_2_s, if_neg (by rw [lit32, nI_leI (by decide) (by omega)]; omega), ib_nI (by omega) (by omega), gd_s, gd_s, gd_s, gd_s, cl32 (by omega), lit32, nI_add]
      exact e
    · by_cases q : j = k
      · subst q
        obtain ⟨a, b⟩ := g2 j (by omega)
        exact ⟨a.trans pk_us, b.trans pk_us⟩
      · exact g1 j (by omega) h4
    · obtain ⟨a, b⟩ := g2 j (by omega)
      exact ⟨a.trans (pk_un (by omega)), b.trans (pk_un (by omega))⟩
theorem cp_layer (xs ys xs9 ys9 : Nat → Int32) (sz9 fo9 : Int32) : ∃ xs' ys' : Nat → Int32, P_X0_copyFrom xs ys xs9 ys9 sz9 fo9 = some (xs', ys', sz9, fo9) ∧ ∀ j, j < 8 → xs' j = xs9 j ∧ ys' j = ys9 j := by
  obtain ⟨xs', ys', e, g1, -⟩ := cp_loop xs9 ys9 8 0 1000 xs ys (by decide) (by decide)
  refine ⟨xs', ys', ?_, fun j hj => g1 j (Nat.zero_le j) hj⟩
  unfold P_X0_copyFrom
  have q : (0 : Int32) = nI 0 := rfl
  rw [q, e, bd3_s]
theorem cp_scene (x0 y0 x1 y1 x2 y2 u0 w0 u1 w1 u2 w2 : Nat → Int32) (s0 f0 s1 f1 s2 f2 : Int32) : ∃ a0 b0 a1 b1 a2 b2 : Nat → Int32, P_X1_copyFrom x0 y0 x1 y1 x2 y2 u0 w0 s0 f0 u1 w1 s1 f1 u2 w2 s2 f2 = some (a0, b0, s0, f0, a1, b1, s1, f1, a2, b2, s2, f2) ∧ (∀ j, j < 8 → a0 j = u0 j ∧ b0 j = w0 j) ∧ (∀ j, j < 8 → a1 j = u1 j ∧ b1 j = w1 j) ∧ (∀ j, j < 8 → a2 j = u2 j ∧ b2 j = w2 j) := by
  obtain ⟨a0, b0, e0, g0⟩ := cp_layer x0 y0 u0 w0 s0 f0
  obtain ⟨a1, b1, e1, g1⟩ := cp_layer x1 y1 u1 w1 s1 f1
  obtain ⟨a2, b2, e2, g2⟩ := cp_layer x2 y2 u2 w2 s2 f2
  refine ⟨a0, b0, a1, b1, a2, b2, ?_, g0, g1, g2⟩
  unfold P_X1_copyFrom
  rw [e0, bd4_s, e1, bd4_s, e2, bd4_s]
theorem im_loop (st : Nat → Int32) (i : Nat) (hi : i < 2) : ∀ (d k n : Nat) (im : Nat → Int32), k + d = 54 → d < n → ∃ im' : Nat → Int32, L_X3_image_14 st (nI i) n (nI k) im = some (nI 54, im') ∧ (∀ j, k ≤ j → j < 54 → im' (54 * i + j) = st j) ∧ (∀ q, q < 54 * i + k ∨ 54 * i + 54 ≤ q → im' q = im q) := by
  intro d
  induction d with
  | zero =>
    intro k n im h1 h2
    obtain ⟨n, rfl⟩ : ∃ z, n = z + 1 := ⟨n - 1, by omega⟩
    obtain rfl : k = 54 := by omega
    refine ⟨im, ?_, fun j h3 h4 => absurd h4 (by omega), fun j _ => rfl⟩
    rw [L_X3_image_14_s, if_pos (by decide)]
  | succ d ih =>
    intro k n im h1 h2
    obtain ⟨n, rfl⟩ : ∃ z, n = z + 1 := ⟨n - 1, by omega⟩
    obtain ⟨im', e, g1, g2⟩ := ih (k + 1) n (upd im (54 * i + k) (st k)) (by omega) (by omega)
    refine ⟨im', ?_, fun j h3 h4 => ?_, fun q h3 => ?_⟩
    · rw [L_X3_image_14_s, if_neg (by rw [lit32, nI_leI (by decide) (by omega)]; omega), ib_nI (by omega) (by omega), gd_s, lit32, pk_mul, nI_add, ib_nI (by omega) (by omega), gd_s, cl32 (by omega), cl32 (by omega), lit32, nI_add]
      exact e
    · by_cases q : j = k
      · subst q
        exact (g2 _ (by omega)).trans pk_us
      · exact g1 j (by omega) h4
    · exact (g2 q (by omega)).trans (pk_un (by omega))
theorem re_loop (im : Nat → Int32) (i : Nat) (hi : i < 2) : ∀ (d k n : Nat) (st : Nat → Int32), k + d = 54 → d < n → ∃ st' : Nat → Int32, L_X3_restore_26 im (nI i) n (nI k) st = some (nI 54, st') ∧ (∀ j, k ≤ j → j < 54 → st' j = im (54 * i + j)) ∧ (∀ q, q < k → st' q = st q) := by
  intro d
  induction d with
  | zero =>
    intro k n st h1 h2
    obtain ⟨n, rfl⟩ : ∃ z, n = z + 1 := ⟨n - 1, by omega⟩
    obtain rfl : k = 54 := by omega
    refine ⟨st, ?_, fun j h3 h4 => absurd h4 (by omega), fun j _ => rfl⟩
    rw [L_X3_restore_26_s, if_pos (by decide)]
  | succ d ih =>
    intro k n st h1 h2
    obtain ⟨n, rfl⟩ : ∃ z, n = z + 1 := ⟨n - 1, by omega⟩
    obtain ⟨st', e, g1, g2⟩ := ih (k + 1) n (upd st k (im (54 * i + k))) (by omega) (by omega)
    refine ⟨st', ?_, fun j h3 h4 => ?_, fun q h3 => ?_⟩
    · rw [L_X3_restore_26_s, if_neg (by rw [lit32, nI_leI (by decide) (by omega)]; omega), lit32, pk_mul, nI_add, ib_nI (by omega) (by omega), gd_s, ib_nI (by omega) (by omega), gd_s, cl32 (by omega), cl32 (by omega), lit32, nI_add]
      exact e
    · by_cases q : j = k
      · subst q
        exact (g2 _ (by omega)).trans pk_us
      · exact g1 j (by omega) h4
    · exact (g2 q (by omega)).trans (pk_un (by omega))
theorem up3_at {α : Type} (G : Nat → Nat → α) (s : Nat) (a b c : α) : up2 (up2 (up2 G s 0 a) s 1 b) s 2 c s 0 = a ∧ up2 (up2 (up2 G s 0 a) s 1 b) s 2 c s 1 = b ∧ up2 (up2 (up2 G s 0 a) s 1 b) s 2 c s 2 = c := by simp [up2]
theorem up3_ns {α : Type} (G : Nat → Nat → α) (s : Nat) (a b c : α) {s' : Nat} (h : s' ≠ s) (i : Nat) : up2 (up2 (up2 G s 0 a) s 1 b) s 2 c s' i = G s' i := by simp [up2, h]
theorem okL_eq {xs ys xs' ys' : Nat → Int32} {sz fo : Int32} (h : okL xs ys sz fo) (e : ∀ j, j < 8 → xs' j = xs j ∧ ys' j = ys j) : okL xs' ys' sz fo := ⟨h.1, h.2.1, fun k hk => by rw [(e k hk).1, (e k hk).2]; exact h.2.2 k hk⟩
theorem Lay_eq {g g' xs ys xs' ys' : Nat → Int32} {sz fo : Int32} {i : Nat} (hi : i < 3) (h : Lay g xs ys sz fo i) (e : ∀ j, j < 8 → xs' j = xs j ∧ ys' j = ys j) (eg : ∀ j, j < 54 → g' j = g j) : Lay g' xs' ys' sz fo i :=
  ⟨(eg i (by omega)).trans h.1, (eg (3 + i) (by omega)).trans h.2.1, fun k hk => ⟨by rw [eg _ (by omega), (h.2.2 k hk).1, (e k hk).1], by rw [eg _ (by omega), (h.2.2 k hk).2, (e k hk).2]⟩⟩
theorem ib2_of {a : Int32} (h : ib a 2 = true) : (0 : Int32) ≤ a ∧ a ≤ 1 := by
  have q := of_decide_eq_true h
  have e := (rgN (a := a) 0 1 (by decide) (by decide)).mpr ⟨q.1, by omega⟩
  exact e
theorem img_of {a : Int32} (h : (0 : Int32) ≤ a ∧ a ≤ 1) : ∃ i : Nat, i < 2 ∧ a = nI i := by
  rcases in01.mp h with rfl | rfl
  · exact ⟨0, by decide, rfl⟩
  · exact ⟨1, by decide, rfl⟩
theorem bd12_s {A0 A1 A2 A3 A4 A5 A6 A7 A8 A9 A10 A11 β : Type} (a0 : A0) (a1 : A1) (a2 : A2) (a3 : A3) (a4 : A4) (a5 : A5) (a6 : A6) (a7 : A7) (a8 : A8) (a9 : A9) (a10 : A10) (a11 : A11) (k : A0 → A1 → A2 → A3 → A4 → A5 → A6 → A7 → A8 → A9 → A10 → A11 → Option β) : bd12 (some (a0, a1, a2, a3, a4, a5, a6, a7, a8, a9, a10, a11)) k = k a0 a1 a2 a3 a4 a5 a6 a7 a8 a9 a10 a11 := rfl
theorem pp_image {XS YS : Nat → Nat → Nat → Int32} {SZ FO : Nat → Nat → Int32} {ke : Int32} {st im_ kp : Nat → Int32} (hI : Inv XS YS SZ FO ke st im_ kp) (a0 : Int32) : ∃ (i : Nat) (r : Int32) (keN : Int32) (xs09N : Nat → Int32) (ys09N : Nat → Int32) (sz09N : Int32) (fo09N : Int32) (xs19N : Nat → Int32) (ys19N : Nat → Int32) (sz19N : Int32) (fo19N : Int32) (xs29N : Nat → Int32) (ys29N : Nat → Int32) (sz29N : Int32) (fo29N : Int32) (im_M : Nat → Int32) (kpM : Nat → Int32), i < 2 ∧ (ib a0 2 = true → a0.toNatClampNeg = i) ∧ P_X2_image a0 ke (XS 0 0) (YS 0 0) (SZ 0 0) (FO 0 0) (XS 0 1) (YS 0 1) (SZ 0 1) (FO 0 1) (XS 0 2) (YS 0 2) (SZ 0 2) (FO 0 2) (XS (i + 1) 0) (YS (i + 1) 0) (SZ (i + 1) 0) (FO (i + 1) 0) (XS (i + 1) 1) (YS (i + 1) 1) (SZ (i + 1) 1) (FO (i + 1) 1) (XS (i + 1) 2) (YS (i + 1) 2) (SZ (i + 1) 2) (FO (i + 1) 2) = some (r, keN, xs09N, ys09N, sz09N, fo09N, xs19N, ys19N, sz19N, fo19N, xs29N, ys29N, sz29N, fo29N) ∧ P_X3_image a0 st im_ kp = some (r, im_M, kpM) ∧ Inv (up2 (up2 (up2 XS (i + 1) 0 xs09N) (i + 1) 1 xs19N) (i + 1) 2 xs29N) (up2 (up2 (up2 YS (i + 1) 0 ys09N) (i + 1) 1 ys19N) (i + 1) 2 ys29N) (up2 (up2 (up2 SZ (i + 1) 0 sz09N) (i + 1) 1 sz19N) (i + 1) 2 sz29N) (up2 (up2 (up2 FO (i + 1) 0 fo09N) (i + 1) 1 fo19N) (i + 1) 2 fo29N) keN st im_M kpM := by
  by_cases hL : (0 : Int32) ≤ a0 ∧ a0 ≤ 1
  · obtain ⟨i, hi, rfl⟩ := img_of hL
    obtain ⟨x0, y0, x1, y1, x2, y2, e, g0, g1, g2⟩ := cp_scene (XS (i + 1) 0) (YS (i + 1) 0) (XS (i + 1) 1) (YS (i + 1) 1) (XS (i + 1) 2) (YS (i + 1) 2) (XS 0 0) (YS 0 0) (XS 0 1) (YS 0 1) (XS 0 2) (YS 0 2) (SZ 0 0) (FO 0 0) (SZ 0 1) (FO 0 1) (SZ 0 2) (FO 0 2)
    obtain ⟨im', em, m1, m2⟩ := im_loop st i hi 54 0 1000 im_ (by decide) (by decide)
    refine ⟨i, 1, ke ||| ((1 : Int32) <<< (nI i &&& 31)), x0, y0, SZ 0 0, FO 0 0, x1, y1, SZ 0 1, FO 0 1, x2, y2, SZ 0 2, FO 0 2, im', upd kp i 1, hi, fun _ => cl32 (by omega), ?_, ?_, ?_⟩
    · unfold P_X2_image
      rw [P_within_eq, bd1_s, if_neg (nb hL), ib_nI (by omega) (by omega), gd_s, e, bd12_s, nm_s]
    · unfold P_X3_image
      have q : (0 : Int32) = nI 0 := rfl
      rw [P_in_eq, bd1_s, if_neg (nb hL), q, em, bd2_s, ib_nI (by omega) (by omega), gd_s, cl32 (by omega)]
      rfl
    · obtain ⟨h1, h2, h3, k0, k1, ek⟩ := hI
      refine ⟨fun s j hs hj => ?_, fun j hj => ?_, fun s j hs hj => ?_, ?_⟩
      · by_cases c : s = i + 1
        · subst c
          rcases lt3 hj with rfl | rfl | rfl
          · rw [(up3_at _ _ _ _ _).1, (up3_at _ _ _ _ _).1, (up3_at _ _ _ _ _).1, (up3_at _ _ _ _ _).1]
            exact okL_eq (h1 0 0 (by decide) (by decide)) g0
          · rw [(up3_at _ _ _ _ _).2.1, (up3_at _ _ _ _ _).2.1, (up3_at _ _ _ _ _).2.1, (up3_at _ _ _ _ _).2.1]
            exact okL_eq (h1 0 1 (by decide) (by decide)) g1
          · rw [(up3_at _ _ _ _ _).2.2, (up3_at _ _ _ _ _).2.2, (up3_at _ _ _ _ _).2.2, (up3_at _ _ _ _ _).2.2]
            exact okL_eq (h1 0 2 (by decide) (by decide)) g2
        · rw [up3_ns _ _ _ _ _ c, up3_ns _ _ _ _ _ c, up3_ns _ _ _ _ _ c, up3_ns _ _ _ _ _ c]
          exact h1 s j hs hj
      · have c : (0 : Nat) ≠ i + 1 := by omega
        rw [up3_ns _ _ _ _ _ c, up3_ns _ _ _ _ _ c, up3_ns _ _ _ _ _ c, up3_ns _ _ _ _ _ c]
        exact h2 j hj
      · by_cases c : s = i
        · subst c
          have eg : ∀ j, j < 54 → (fun j => im' (54 * s + j)) j = st j := fun j hj => m1 j (Nat.zero_le j) hj
          rcases lt3 hj with rfl | rfl | rfl
          · rw [(up3_at _ _ _ _ _).1, (up3_at _ _ _ _ _).1, (up3_at _ _ _ _ _).1, (up3_at _ _ _ _ _).1]
            exact Lay_eq (by decide) (h2 0 (by decide)) g0 eg
          · rw [(up3_at _ _ _ _ _).2.1, (up3_at _ _ _ _ _).2.1, (up3_at _ _ _ _ _).2.1, (up3_at _ _ _ _ _).2.1]
            exact Lay_eq (by decide) (h2 1 (by decide)) g1 eg
          · rw [(up3_at _ _ _ _ _).2.2, (up3_at _ _ _ _ _).2.2, (up3_at _ _ _ _ _).2.2, (up3_at _ _ _ _ _).2.2]
            exact Lay_eq (by decide) (h2 2 (by decide)) g2 eg
        · have c2 : s + 1 ≠ i + 1 := by omega
          rw [up3_ns _ _ _ _ _ c2, up3_ns _ _ _ _ _ c2, up3_ns _ _ _ _ _ c2, up3_ns _ _ _ _ _ c2]
          exact Lay_eq hj (h3 s j hs hj) (fun _ _ => ⟨rfl, rfl⟩) (fun j hj => m2 _ (by omega))
      · rw [ek]
        rcases (show i = 0 ∨ i = 1 by omega) with rfl | rfl <;> rcases k0 with q0 | q0 <;> rcases k1 with q1 | q1 <;> simp only [upd, q0, q1] <;> decide
  · refine ⟨0, -2, ke, XS 1 0, YS 1 0, SZ 1 0, FO 1 0, XS 1 1, YS 1 1, SZ 1 1, FO 1 1, XS 1 2, YS 1 2, SZ 1 2, FO 1 2, im_, kp, by decide, fun q => absurd (ib2_of q) hL, ?_, ?_, ?_⟩
    · unfold P_X2_image
      rw [P_within_eq, bd1_s, if_pos (pb hL)]
    · unfold P_X3_image
      rw [P_in_eq, bd1_s, if_pos (pb hL)]
    · have e1 : ∀ {α : Type} (G : Nat → Nat → α), up2 (up2 (up2 G (0 + 1) 0 (G 1 0)) (0 + 1) 1 (G 1 1)) (0 + 1) 2 (G 1 2) = G := by
        intro α G
        rw [up2_same G 1 0, up2_same G 1 1, up2_same G 1 2]
      rw [e1, e1, e1, e1]; exact hI
theorem pp_restore {XS YS : Nat → Nat → Nat → Int32} {SZ FO : Nat → Nat → Int32} {ke : Int32} {st im_ kp : Nat → Int32} (hI : Inv XS YS SZ FO ke st im_ kp) (a0 : Int32) : ∃ (i : Nat) (r : Int32) (xs0N : Nat → Int32) (ys0N : Nat → Int32) (sz0N : Int32) (fo0N : Int32) (xs1N : Nat → Int32) (ys1N : Nat → Int32) (sz1N : Int32) (fo1N : Int32) (xs2N : Nat → Int32) (ys2N : Nat → Int32) (sz2N : Int32) (fo2N : Int32) (stM : Nat → Int32), i < 2 ∧ (ib a0 2 = true → a0.toNatClampNeg = i) ∧ P_X2_restore a0 ke (XS 0 0) (YS 0 0) (SZ 0 0) (FO 0 0) (XS 0 1) (YS 0 1) (SZ 0 1) (FO 0 1) (XS 0 2) (YS 0 2) (SZ 0 2) (FO 0 2) (XS (i + 1) 0) (YS (i + 1) 0) (SZ (i + 1) 0) (FO (i + 1) 0) (XS (i + 1) 1) (YS (i + 1) 1) (SZ (i + 1) 1) (FO (i + 1) 1) (XS (i + 1) 2) (YS (i + 1) 2) (SZ (i + 1) 2) (FO (i + 1) 2) = some (r, xs0N, ys0N, sz0N, fo0N, xs1N, ys1N, sz1N, fo1N, xs2N, ys2N, sz2N, fo2N) ∧ P_X3_restore a0 st im_ kp = some (r, stM) ∧ Inv (up2 (up2 (up2 XS 0 0 xs0N) 0 1 xs1N) 0 2 xs2N) (up2 (up2 (up2 YS 0 0 ys0N) 0 1 ys1N) 0 2 ys2N) (up2 (up2 (up2 SZ 0 0 sz0N) 0 1 sz1N) 0 2 sz2N) (up2 (up2 (up2 FO 0 0 fo0N) 0 1 fo1N) 0 2 fo2N) ke stM im_ kp := by
  by_cases hL : (0 : Int32) ≤ a0 ∧ a0 ≤ 1
  · obtain ⟨i, hi, rfl⟩ := img_of hL
    have hkk : (((ke >>> (nI i &&& 31)) &&& (1 : Int32)) = (0 : Int32)) ↔ kp i = 0 := by
      obtain ⟨h1, h2, h3, k0, k1, ek⟩ := hI
      rw [ek]
      rcases (show i = 0 ∨ i = 1 by omega) with rfl | rfl <;> rcases k0 with q0 | q0 <;> rcases k1 with q1 | q1 <;> rw [q0, q1] <;> decide
    by_cases hkp : kp i = 0
    · refine ⟨i, -3, XS 0 0, YS 0 0, SZ 0 0, FO 0 0, XS 0 1, YS 0 1, SZ 0 1, FO 0 1, XS 0 2, YS 0 2, SZ 0 2, FO 0 2, st, hi, fun _ => cl32 (by omega), ?_, ?_, ?_⟩
      · unfold P_X2_restore
        rw [P_within_eq, bd1_s, if_neg (nb hL), if_pos (hkk.mpr hkp)]
      · unfold P_X3_restore
        rw [P_in_eq, bd1_s, if_neg (nb hL), ib_nI (by omega) (by omega), gd_s, cl32 (by omega), if_pos hkp]
      · rw [up2_same, up2_same, up2_same, up2_same, up2_same, up2_same, up2_same, up2_same, up2_same, up2_same, up2_same, up2_same]; exact hI
    · obtain ⟨x0, y0, x1, y1, x2, y2, e, g0, g1, g2⟩ := cp_scene (XS 0 0) (YS 0 0) (XS 0 1) (YS 0 1) (XS 0 2) (YS 0 2) (XS (i + 1) 0) (YS (i + 1) 0) (XS (i + 1) 1) (YS (i + 1) 1) (XS (i + 1) 2) (YS (i + 1) 2) (SZ (i + 1) 0) (FO (i + 1) 0) (SZ (i + 1) 1) (FO (i + 1) 1) (SZ (i + 1) 2) (FO (i + 1) 2)
      obtain ⟨st', em, m1, m2⟩ := re_loop im_ i hi 54 0 1000 st (by decide) (by decide)
      refine ⟨i, 1, x0, y0, SZ (i + 1) 0, FO (i + 1) 0, x1, y1, SZ (i + 1) 1, FO (i + 1) 1, x2, y2, SZ (i + 1) 2, FO (i + 1) 2, st', hi, fun _ => cl32 (by omega), ?_, ?_, ?_⟩
      · unfold P_X2_restore
        rw [P_within_eq, bd1_s, if_neg (nb hL), if_neg (fun q => hkp (hkk.mp q)), ib_nI (by omega) (by omega), gd_s, e, bd12_s]
      · unfold P_X3_restore
        have q : (0 : Int32) = nI 0 := rfl
        rw [P_in_eq, bd1_s, if_neg (nb hL), ib_nI (by omega) (by omega), gd_s, cl32 (by omega), if_neg hkp, q, em, bd2_s]
      · obtain ⟨h1, h2, h3, k0, k1, ek⟩ := hI
        refine ⟨fun s j hs hj => ?_, fun j hj => ?_, fun s j hs hj => ?_, k0, k1, ek⟩
        · by_cases c : s = 0
          · subst c
            rcases lt3 hj with rfl | rfl | rfl
            · rw [(up3_at _ _ _ _ _).1, (up3_at _ _ _ _ _).1, (up3_at _ _ _ _ _).1, (up3_at _ _ _ _ _).1]
              exact okL_eq (h1 (i + 1) 0 (by omega) (by decide)) g0
            · rw [(up3_at _ _ _ _ _).2.1, (up3_at _ _ _ _ _).2.1, (up3_at _ _ _ _ _).2.1, (up3_at _ _ _ _ _).2.1]
              exact okL_eq (h1 (i + 1) 1 (by omega) (by decide)) g1
            · rw [(up3_at _ _ _ _ _).2.2, (up3_at _ _ _ _ _).2.2, (up3_at _ _ _ _ _).2.2, (up3_at _ _ _ _ _).2.2]
              exact okL_eq (h1 (i + 1) 2 (by omega) (by decide)) g2
          · rw [up3_ns _ _ _ _ _ c, up3_ns _ _ _ _ _ c, up3_ns _ _ _ _ _ c, up3_ns _ _ _ _ _ c]
            exact h1 s j hs hj
        · have eg : ∀ j, j < 54 → st' j = (fun j => im_ (54 * i + j)) j := fun j hj => m1 j (Nat.zero_le j) hj
          rcases lt3 hj with rfl | rfl | rfl
          · rw [(up3_at _ _ _ _ _).1, (up3_at _ _ _ _ _).1, (up3_at _ _ _ _ _).1, (up3_at _ _ _ _ _).1]
            exact Lay_eq (by decide) (h3 i 0 hi (by decide)) g0 eg
          · rw [(up3_at _ _ _ _ _).2.1, (up3_at _ _ _ _ _).2.1, (up3_at _ _ _ _ _).2.1, (up3_at _ _ _ _ _).2.1]
            exact Lay_eq (by decide) (h3 i 1 hi (by decide)) g1 eg
          · rw [(up3_at _ _ _ _ _).2.2, (up3_at _ _ _ _ _).2.2, (up3_at _ _ _ _ _).2.2, (up3_at _ _ _ _ _).2.2]
            exact Lay_eq (by decide) (h3 i 2 hi (by decide)) g2 eg
        · have c : s + 1 ≠ 0 := by omega
          rw [up3_ns _ _ _ _ _ c, up3_ns _ _ _ _ _ c, up3_ns _ _ _ _ _ c, up3_ns _ _ _ _ _ c]
          exact h3 s j hs hj
  · refine ⟨0, -2, XS 0 0, YS 0 0, SZ 0 0, FO 0 0, XS 0 1, YS 0 1, SZ 0 1, FO 0 1, XS 0 2, YS 0 2, SZ 0 2, FO 0 2, st, by decide, fun q => absurd (ib2_of q) hL, ?_, ?_, ?_⟩
    · unfold P_X2_restore
      rw [P_within_eq, bd1_s, if_pos (pb hL)]
    · unfold P_X3_restore
      rw [P_in_eq, bd1_s, if_pos (pb hL)]
    · rw [up2_same, up2_same, up2_same, up2_same, up2_same, up2_same, up2_same, up2_same, up2_same, up2_same, up2_same, up2_same]; exact hI
