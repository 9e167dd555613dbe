theorem pp_point {XS YS : Nat → Nat → Nat → Int32} {SZ FO : Nat → Nat → Int32} {ke : Int32} {st im_ kp : Nat → Int32} (hI : Inv XS YS SZ FO ke st im_ kp) (a0 : Int32) (a1 : Int32) (a2 : Int32) : ∃ (i : Nat) (r : Int32) (xsN : Nat → Int32) (ysN : Nat → Int32) (szN : Int32) (stM : Nat → Int32), i < 3 ∧ (P_X2_within a0 (0 : Int32) (2 : Int32) = some (1 : Int32) → a0.toNatClampNeg = i) ∧ P_X2_point a0 a1 a2 (XS 0 i) (YS 0 i) (SZ 0 i) = some (r, xsN, ysN, szN) ∧ P_X3_point a0 a1 a2 st = some (r, stM) ∧ Inv (up2 XS 0 i xsN) (up2 YS 0 i ysN) (up2 SZ 0 i szN) FO ke stM im_ kp := by
  by_cases hL : (0 : Int32) ≤ a0 ∧ a0 ≤ 2
  · obtain ⟨i, hi, rfl⟩ := layer_of hL
    obtain ⟨hsz, hfo, hxy⟩ := hI.1 0 i (by decide) hi
    obtain ⟨n, hn, en⟩ := of32 (N := 8) hsz.1 hsz.2
    obtain ⟨l1, l2, l3⟩ := hI.2.1 i hi
    rw [en] at l1
    by_cases hx : (0 : Int32) ≤ a1 ∧ a1 ≤ 12
    · by_cases hy : (0 : Int32) ≤ a2 ∧ a2 ≤ 12
      · by_cases h8 : n = 8
        · refine ⟨i, -4, XS 0 i, YS 0 i, SZ 0 i, st, hi, sel_yes hi, ?_, ?_, ?_⟩
          · unfold P_X2_point
            rw [P_within_eq, bd1_s, if_neg (nb hL), P_inField_eq, bd1_s, if_neg (nb hx), P_inField_eq, bd1_s, if_neg (nb hy), en, if_neg (by rw [lit32, nI_ltI (by omega) (by decide)]; omega)]
          · unfold P_X3_point
            rw [P_isLayer_eq, bd1_s, if_neg (nb hL), P_isHere_eq, bd1_s, if_neg (nb ⟨hx, hy⟩), z0, ib_nI (by omega) (by omega), gd_s, nm_s, cl32 (by omega), l1, if_pos (by rw [h8]; rfl)]
          · rw [up2_same, up2_same, up2_same]; exact hI
        · refine ⟨i, nI n, upd (XS 0 i) n a1, upd (YS 0 i) n a2, nI n + 1, upd (upd (upd st (6 + (8 * i + n)) a1) (30 + (8 * i + n)) a2) i (nI n + 1), hi, sel_yes hi, ?_, ?_, ?_⟩
          · unfold P_X2_point
            rw [P_within_eq, bd1_s, if_neg (nb hL), P_inField_eq, bd1_s, if_neg (nb hx), P_inField_eq, bd1_s, if_neg (nb hy), en, if_pos (by rw [lit32, nI_ltI (by omega) (by decide)]; omega)]
            unfold P_X0_add
            rw [ib_nI (by omega) (by omega), gd_s, gd_s, nm_s, cl32 (by omega), bd4_s]
          · unfold P_X3_point
            rw [P_isLayer_eq, bd1_s, if_neg (nb hL), P_isHere_eq, bd1_s, if_neg (nb ⟨hx, hy⟩), z0, ib_nI (by omega) (by omega), gd_s, nm_s, cl32 (by omega), l1, if_neg (by rw [lit32, nI_eq (by omega) (by decide)]; exact h8), P_place_eq, bd1_s, z6, ib_nI (by omega) (by omega), gd_s, bd1_s, z30, ib_nI (by omega) (by omega), gd_s, gd_s, gd_s, cl32 (by omega), cl32 (by omega), pk_un (by omega), pk_un (by omega), l1]
          · have hn8 : n < 8 := by omega
            have key := Inv_up (st' := upd (upd (upd st (6 + (8 * i + n)) a1) (30 + (8 * i + n)) a2) i (nI n + 1)) (xs' := upd (XS 0 i) n a1) (ys' := upd (YS 0 i) n a2) (sz' := nI n + 1) (fo' := FO 0 i) hI hi ?_ ?_ ?_
            · rw [up2_same] at key; exact key
            · refine ⟨?_, hfo, fun k hk => ?_⟩
              · rw [lit32, nI_add, ti32 (by omega)]; omega
              · have h1 := hxy k hk
                have g1 := here12 hx
                have g2 := here12 hy
                simp only [upd]
                split
                · exact ⟨g1, g2⟩
                · exact h1
            · refine ⟨?_, ?_, fun k hk => ⟨?_, ?_⟩⟩
              · exact pk_us
              · simp only [upd]; repeat' split
                all_goals first | exact l2 | (exfalso; omega)
              · simp only [upd]; repeat' split
                all_goals first | rfl | (exfalso; omega) | exact (l3 k hk).1
              · simp only [upd]; repeat' split
                all_goals first | rfl | (exfalso; omega) | exact (l3 k hk).2
            · intro i' hi' hne
              refine ⟨?_, ?_, fun k hk => ⟨?_, ?_⟩⟩
              all_goals
                simp only [upd]; repeat' split
                all_goals first | rfl | (exfalso; omega)
      · refine ⟨i, -2, XS 0 i, YS 0 i, SZ 0 i, st, hi, sel_yes hi, ?_, ?_, ?_⟩
        · unfold P_X2_point
          rw [P_within_eq, bd1_s, if_neg (nb hL), P_inField_eq, bd1_s, if_neg (nb hx), P_inField_eq, bd1_s, if_pos (pb hy)]
        · unfold P_X3_point
          rw [P_isLayer_eq, bd1_s, if_neg (nb hL), P_isHere_eq, bd1_s, if_pos (pb (fun q => hy q.2))]
        · rw [up2_same, up2_same, up2_same]; exact hI
    · refine ⟨i, -2, XS 0 i, YS 0 i, SZ 0 i, st, hi, sel_yes hi, ?_, ?_, ?_⟩
      · unfold P_X2_point
        rw [P_within_eq, bd1_s, if_neg (nb hL), P_inField_eq, bd1_s, if_pos (pb hx)]
      · unfold P_X3_point
        rw [P_isLayer_eq, bd1_s, if_neg (nb hL), P_isHere_eq, bd1_s, if_pos (pb (fun q => hx q.1))]
      · rw [up2_same, up2_same, up2_same]; exact hI
  · refine ⟨0, -1, XS 0 0, YS 0 0, SZ 0 0, st, by decide, sel_no hL, ?_, ?_, ?_⟩
    · unfold P_X2_point
      rw [P_within_eq, bd1_s, if_pos (pb hL)]
    · unfold P_X3_point
      rw [P_isLayer_eq, bd1_s, if_pos (pb hL)]
    · rw [up2_same, up2_same, up2_same]; exact hI
theorem pp_pop {XS YS : Nat → Nat → Nat → Int32} {SZ FO : Nat → Nat → Int32} {ke : Int32} {st im_ kp : Nat → Int32} (hI : Inv XS YS SZ FO ke st im_ kp) (a0 : Int32) : ∃ (i : Nat) (r : Int32) (szN : Int32) (stM : Nat → Int32), i < 3 ∧ (P_X2_within a0 (0 : Int32) (2 : Int32) = some (1 : Int32) → a0.toNatClampNeg = i) ∧ P_X2_pop a0 (SZ 0 i) = some (r, szN) ∧ P_X3_pop a0 st = some (r, stM) ∧ Inv XS YS (up2 SZ 0 i szN) FO ke stM im_ kp := by
  by_cases hL : (0 : Int32) ≤ a0 ∧ a0 ≤ 2
  · obtain ⟨i, hi, rfl⟩ := layer_of hL
    obtain ⟨hsz, hfo, hxy⟩ := hI.1 0 i (by decide) hi
    obtain ⟨n, hn, en⟩ := of32 (N := 8) hsz.1 hsz.2
    obtain ⟨l1, l2, l3⟩ := hI.2.1 i hi
    rw [en] at l1
    by_cases h0 : n = 0
    · refine ⟨i, -3, SZ 0 i, st, hi, sel_yes hi, ?_, ?_, ?_⟩
      · unfold P_X2_pop
        rw [P_within_eq, bd1_s, if_neg (nb hL), en, if_neg (by rw [lit32, nI_ltI (by decide) (by omega)]; omega)]
      · unfold P_X3_pop
        rw [P_isLayer_eq, bd1_s, if_neg (nb hL), z0, ib_nI (by omega) (by omega), gd_s, cl32 (by omega), l1, if_pos (by rw [h0]; rfl)]
      · rw [up2_same]; exact hI
    · have e1 : nI n - 1 = nI (n - 1) := by rw [lit32]; exact pk_sub (by omega)
      refine ⟨i, nI (n - 1), nI (n - 1), upd st i (nI (n - 1)), hi, sel_yes hi, ?_, ?_, ?_⟩
      · unfold P_X2_pop
        rw [P_within_eq, bd1_s, if_neg (nb hL), en, if_pos (by rw [lit32, nI_ltI (by decide) (by omega)]; omega), nm_s, e1]
      · unfold P_X3_pop
        rw [P_isLayer_eq, bd1_s, if_neg (nb hL), z0, ib_nI (by omega) (by omega), gd_s, cl32 (by omega), l1, if_neg (by rw [lit32, nI_eq (by omega) (by decide)]; exact h0), gd_s, gd_s, gd_s, pk_us, e1]
      · have key := Inv_up (st' := upd st i (nI (n - 1))) (xs' := XS 0 i) (ys' := YS 0 i) (sz' := nI (n - 1)) (fo' := FO 0 i) hI hi ?_ ?_ ?_
        · rw [up2_same, up2_same, up2_same] at key; exact key
        · refine ⟨?_, hfo, hxy⟩
          rw [ti32 (by omega)]; omega
        · refine ⟨?_, ?_, fun k hk => ⟨?_, ?_⟩⟩
          · exact pk_us
          · simp only [upd]; repeat' split
            all_goals first | exact l2 | (exfalso; omega)
          · simp only [upd]; repeat' split
            all_goals first | (exfalso; omega) | exact (l3 k hk).1
          · simp only [upd]; repeat' split
            all_goals first | (exfalso; omega) | exact (l3 k hk).2
        · intro i' hi' hne
          refine ⟨?_, ?_, fun k hk => ⟨?_, ?_⟩⟩
          all_goals
            simp only [upd]; repeat' split
            all_goals first | rfl | (exfalso; omega)
  · refine ⟨0, -1, SZ 0 0, st, by decide, sel_no hL, ?_, ?_, ?_⟩
    · unfold P_X2_pop
      rw [P_within_eq, bd1_s, if_pos (pb hL)]
    · unfold P_X3_pop
      rw [P_isLayer_eq, bd1_s, if_pos (pb hL)]
    · rw [up2_same]; exact hI
