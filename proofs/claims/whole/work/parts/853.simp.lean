theorem in01 {a : Int32} : ((0 : Int32) ≤ a ∧ a ≤ 1) ↔ (a = 0 ∨ a = 1) := by
  have e0 : (0 : Int32).toInt = 0 := by decide
  have e1 : (1 : Int32).toInt = 1 := by decide
  rw [Int32.le_iff_toInt_le, Int32.le_iff_toInt_le, ← Int32.toInt_inj, ← Int32.toInt_inj, e0, e1]
  omega
theorem pp_set {XS YS : Nat → Nat → Nat → Int32} {SZ FO : Nat → Nat → Int32} {ke : Int32} {st im_ kp : Nat → Int32} (hI : Inv XS YS SZ FO ke st im_ kp) (a0 : Int32) (a1 : Int32) (a2 : Int32) (a3 : Int32) : ∃ (i : Nat) (r : Int32) (xsN : Nat → Int32) (ysN : Nat → Int32) (stM : Nat → Int32), i < 3 ∧ (P_X2_within a0 (0 : Int32) (2 : Int32) = some (1 : Int32) → a0.toNatClampNeg = i) ∧ P_X2_set a0 a1 a2 a3 (XS 0 i) (YS 0 i) (SZ 0 i) = some (r, xsN, ysN) ∧ P_X3_set a0 a1 a2 a3 st = some (r, stM) ∧ Inv (up2 XS 0 i xsN) (up2 YS 0 i ysN) SZ FO ke stM im_ kp := by
  by_cases hL : (0 : Int32) ≤ a0 ∧ a0 ≤ 2
  · obtain ⟨i, hi, rfl⟩ := layer_of hL
    obtain ⟨hsz, hfo, hxy⟩ := hI.1 0 i (by decide) hi
    obtain ⟨n, hn, en⟩ := of32 (N := 8) hsz.1 hsz.2
    obtain ⟨l1, l2, l3⟩ := hI.2.1 i hi
    rw [en] at l1
    by_cases hk : (0 : Int32) ≤ a1 ∧ a1 < nI n
    · obtain ⟨k, hkn, rfl⟩ := point_of hn hk
      by_cases hx : (0 : Int32) ≤ a2 ∧ a2 ≤ 12
      · by_cases hy : (0 : Int32) ≤ a3 ∧ a3 ≤ 12
        · have e6 : st (6 + (8 * i + k)) = XS 0 i k := by rw [← Nat.add_assoc]; exact (l3 k (by omega)).1
          have e30 : st (30 + (8 * i + k)) = YS 0 i k := by rw [← Nat.add_assoc]; exact (l3 k (by omega)).2
          refine ⟨i, 13 * XS 0 i k + YS 0 i k, upd (XS 0 i) k a2, upd (YS 0 i) k a3, upd (upd st (6 + (8 * i + k)) a2) (30 + (8 * i + k)) a3, hi, sel_yes hi, ?_, ?_, ?_⟩
          · unfold P_X2_set
            rw [P_within_eq, bd1_s, if_neg (nb hL), en, P_has_eq, bd1_s, if_neg (nb hk), P_inField_eq, bd1_s, if_neg (nb hx), P_inField_eq, bd1_s, if_neg (nb hy), ib_nI (by omega) (by omega), gd_s, gd_s, nm_s, gd_s, gd_s, cl32 (by omega)]
          · unfold P_X3_set
            rw [P_isLayer_eq, bd1_s, if_neg (nb hL), P_isPoint_eq hi _ hn l1, bd1_s, if_neg (nb hk), P_isHere_eq, bd1_s, if_neg (nb ⟨hx, hy⟩), P_place_eq, bd1_s, z6, ib_nI (by omega) (by omega), gd_s, z30, ib_nI (by omega) (by omega), gd_s, nm_s, gd_s, gd_s, cl32 (by omega), cl32 (by omega), e6, e30]
          · have hk8 : k < 8 := by omega
            have key := Inv_up (st' := upd (upd st (6 + (8 * i + k)) a2) (30 + (8 * i + k)) a3) (xs' := upd (XS 0 i) k a2) (ys' := upd (YS 0 i) k a3) (sz' := SZ 0 i) (fo' := FO 0 i) hI hi ?_ ?_ ?_
            · rw [up2_same, up2_same] at key; exact key
            · refine ⟨hsz, hfo, fun k' hk' => ?_⟩
              have h1 := hxy k' hk'
              have g1 := here12 hx
              have g2 := here12 hy
              simp only [upd]
              split
              · exact ⟨g1, g2⟩
              · exact h1
            · refine ⟨?_, ?_, fun k' hk' => ⟨?_, ?_⟩⟩
              · rw [pk_un (by omega), pk_un (by omega), l1, en]
              · rw [pk_un (by omega), pk_un (by omega), l2]
              · simp only [upd]; repeat' split
                all_goals first | rfl | (exfalso; omega) | exact (l3 k' hk').1
              · simp only [upd]; repeat' split
                all_goals first | rfl | (exfalso; omega) | exact (l3 k' hk').2
            · intro i' hi' hne
              refine ⟨?_, ?_, fun k' hk' => ⟨?_, ?_⟩⟩
              all_goals rw [pk_un (by omega), pk_un (by omega)]
        · refine ⟨i, -2, XS 0 i, YS 0 i, st, hi, sel_yes hi, ?_, ?_, ?_⟩
          · unfold P_X2_set
            rw [P_within_eq, bd1_s, if_neg (nb hL), en, P_has_eq, bd1_s, if_neg (nb hk), P_inField_eq, bd1_s, if_neg (nb hx), P_inField_eq, bd1_s, if_pos (pb hy)]
          · unfold P_X3_set
            rw [P_isLayer_eq, bd1_s, if_neg (nb hL), P_isPoint_eq hi _ hn l1, bd1_s, if_neg (nb hk), P_isHere_eq, bd1_s, if_pos (pb (fun q => hy q.2))]
          · rw [up2_same, up2_same]; exact hI
      · refine ⟨i, -2, XS 0 i, YS 0 i, st, hi, sel_yes hi, ?_, ?_, ?_⟩
        · unfold P_X2_set
          rw [P_within_eq, bd1_s, if_neg (nb hL), en, P_has_eq, bd1_s, if_neg (nb hk), P_inField_eq, bd1_s, if_pos (pb hx)]
        · unfold P_X3_set
          rw [P_isLayer_eq, bd1_s, if_neg (nb hL), P_isPoint_eq hi _ hn l1, bd1_s, if_neg (nb hk), P_isHere_eq, bd1_s, if_pos (pb (fun q => hx q.1))]
        · rw [up2_same, up2_same]; exact hI
    · refine ⟨i, -1, XS 0 i, YS 0 i, st, hi, sel_yes hi, ?_, ?_, ?_⟩
      · unfold P_X2_set
        rw [P_within_eq, bd1_s, if_neg (nb hL), en, P_has_eq, bd1_s, if_pos (pb hk)]
      · unfold P_X3_set
        rw [P_isLayer_eq, bd1_s, if_neg (nb hL), P_isPoint_eq hi _ hn l1, bd1_s, if_pos (pb hk)]
      · rw [up2_same, up2_same]; exact hI
  · refine ⟨0, -1, XS 0 0, YS 0 0, st, by decide, sel_no hL, ?_, ?_, ?_⟩
    · unfold P_X2_set
      rw [P_within_eq, bd1_s, if_pos (pb hL)]
    · unfold P_X3_set
      rw [P_isLayer_eq, bd1_s, if_pos (pb hL)]
    · rw [up2_same, up2_same]; exact hI
theorem pp_rule {XS YS : Nat → Nat → Nat → Int32} {SZ FO : Nat → Nat → Int32} {ke : Int32} {st im_ kp : Nat → Int32} (hI : Inv XS YS SZ FO ke st im_ kp) (a0 : Int32) (a1 : Int32) : ∃ (i : Nat) (r : Int32) (foN : Int32) (stM : Nat → Int32), i < 3 ∧ (P_X2_within a0 (0 : Int32) (2 : Int32) = some (1 : Int32) → a0.toNatClampNeg = i) ∧ P_X2_rule a0 a1 (FO 0 i) = some (r, foN) ∧ P_X3_rule a0 a1 st = some (r, stM) ∧ Inv XS YS SZ (up2 FO 0 i foN) ke stM im_ kp := by
  by_cases hL : (0 : Int32) ≤ a0 ∧ a0 ≤ 2
  · obtain ⟨i, hi, rfl⟩ := layer_of hL
    obtain ⟨hsz, hfo, hxy⟩ := hI.1 0 i (by decide) hi
    obtain ⟨n, hn, en⟩ := of32 (N := 8) hsz.1 hsz.2
    obtain ⟨l1, l2, l3⟩ := hI.2.1 i hi
    rw [en] at l1
    by_cases hv : (0 : Int32) ≤ a1 ∧ a1 ≤ 1
    · refine ⟨i, FO 0 i, a1, upd st (3 + i) a1, hi, sel_yes hi, ?_, ?_, ?_⟩
      · unfold P_X2_rule
        rw [P_within_eq, bd1_s, if_neg (nb hL), P_within_eq, bd1_s, if_neg (nb hv)]
      · unfold P_X3_rule
        rw [P_isLayer_eq, bd1_s, if_neg (nb hL), P_in_eq, bd1_s, if_neg (nb hv), z3, ib_nI (by omega) (by omega), gd_s, nm_s, gd_s, cl32 (by omega), l2]
      · have key := Inv_up (st' := upd st (3 + i) a1) (xs' := XS 0 i) (ys' := YS 0 i) (sz' := SZ 0 i) (fo' := a1) hI hi ?_ ?_ ?_
        · rw [up2_same, up2_same, up2_same] at key; exact key
        · exact ⟨hsz, in01.mp hv, hxy⟩
        · refine ⟨?_, pk_us, fun k hk => ⟨?_, ?_⟩⟩
          · rw [pk_un (by omega), l1, en]
          · rw [pk_un (by omega)]; exact (l3 k hk).1
          · rw [pk_un (by omega)]; exact (l3 k hk).2
        · intro i' hi' hne
          refine ⟨?_, ?_, fun k' hk' => ⟨?_, ?_⟩⟩
          all_goals rw [pk_un (by omega)]
    · refine ⟨i, -2, FO 0 i, st, hi, sel_yes hi, ?_, ?_, ?_⟩
      · unfold P_X2_rule
        rw [P_within_eq, bd1_s, if_neg (nb hL), P_within_eq, bd1_s, if_pos (pb hv)]
      · unfold P_X3_rule
        rw [P_isLayer_eq, bd1_s, if_neg (nb hL), P_in_eq, bd1_s, if_pos (pb hv)]
      · rw [up2_same]; exact hI
  · refine ⟨0, -1, FO 0 0, st, by decide, sel_no hL, ?_, ?_, ?_⟩
    · unfold P_X2_rule
      rw [P_within_eq, bd1_s, if_pos (pb hL)]
    · unfold P_X3_rule
      rw [P_isLayer_eq, bd1_s, if_pos (pb hL)]
    · rw [up2_same]; exact hI
theorem pp_at {XS YS : Nat → Nat → Nat → Int32} {SZ FO : Nat → Nat → Int32} {ke : Int32} {st im_ kp : Nat → Int32} (hI : Inv XS YS SZ FO ke st im_ kp) (a0 : Int32) (a1 : Int32) (a2 : Int32) : ∃ (i : Nat) (r : Int32), i < 3 ∧ (P_X2_within a0 (0 : Int32) (2 : Int32) = some (1 : Int32) → a0.toNatClampNeg = i) ∧ P_X2_at a0 a1 a2 (XS 0 i) (YS 0 i) (SZ 0 i) = some r ∧ P_X3_at a0 a1 a2 st = some r := by
  by_cases hL : (0 : Int32) ≤ a0 ∧ a0 ≤ 2
  · obtain ⟨i, hi, rfl⟩ := layer_of hL
    obtain ⟨hsz, hfo, hxy⟩ := hI.1 0 i (by decide) hi
    obtain ⟨n, hn, en⟩ := of32 (N := 8) hsz.1 hsz.2
    obtain ⟨l1, l2, l3⟩ := hI.2.1 i hi
    rw [en] at l1
    by_cases hk : (0 : Int32) ≤ a1 ∧ a1 < nI n
    · obtain ⟨k, hkn, rfl⟩ := point_of hn hk
      have e6 : st (6 + (8 * i + k)) = XS 0 i k := by rw [← Nat.add_assoc]; exact (l3 k (by omega)).1
      have e30 : st (30 + (8 * i + k)) = YS 0 i k := by rw [← Nat.add_assoc]; exact (l3 k (by omega)).2
      by_cases h0 : a2 = 0
      · refine ⟨i, XS 0 i k, hi, sel_yes hi, ?_, ?_⟩
        · unfold P_X2_at
          rw [P_within_eq, bd1_s, if_neg (nb hL), en, P_has_eq, bd1_s, if_neg (nb hk), P_within_eq, bd1_s, if_neg (nb (in01.mpr (Or.inl h0))), if_pos h0, ib_nI (by omega) (by omega), gd_s, cl32 (by omega)]
        · unfold P_X3_at
          rw [P_isLayer_eq, bd1_s, if_neg (nb hL), P_isPoint_eq hi _ hn l1, bd1_s, if_neg (nb hk), if_pos h0, P_place_eq, bd1_s, z6, ib_nI (by omega) (by omega), gd_s, cl32 (by omega), e6]
      · by_cases h1 : a2 = 1
        · refine ⟨i, YS 0 i k, hi, sel_yes hi, ?_, ?_⟩
          · unfold P_X2_at
            rw [P_within_eq, bd1_s, if_neg (nb hL), en, P_has_eq, bd1_s, if_neg (nb hk), P_within_eq, bd1_s, if_neg (nb (in01.mpr (Or.inr h1))), if_neg h0, ib_nI (by omega) (by omega), gd_s, cl32 (by omega)]
          · unfold P_X3_at
            rw [P_isLayer_eq, bd1_s, if_neg (nb hL), P_isPoint_eq hi _ hn l1, bd1_s, if_neg (nb hk), if_neg h0, if_pos h1, P_place_eq, bd1_s, z30, ib_nI (by omega) (by omega), gd_s, cl32 (by omega), e30]
        · refine ⟨i, -2, hi, sel_yes hi, ?_, ?_⟩
          · unfold P_X2_at
            rw [P_within_eq, bd1_s, if_neg (nb hL), en, P_has_eq, bd1_s, if_neg (nb hk), P_within_eq, bd1_s, if_pos (pb (fun q => (in01.mp q).elim h0 h1))]
          · unfold P_X3_at
            rw [P_isLayer_eq, bd1_s, if_neg (nb hL), P_isPoint_eq hi _ hn l1, bd1_s, if_neg (nb hk), if_neg h0, if_neg h1]
    · refine ⟨i, -1, hi, sel_yes hi, ?_, ?_⟩
      · unfold P_X2_at
        rw [P_within_eq, bd1_s, if_neg (nb hL), en, P_has_eq, bd1_s, if_pos (pb hk)]
      · unfold P_X3_at
        rw [P_isLayer_eq, bd1_s, if_neg (nb hL), P_isPoint_eq hi _ hn l1, bd1_s, if_pos (pb hk)]
  · refine ⟨0, -1, by decide, sel_no hL, ?_, ?_⟩
    · unfold P_X2_at
      rw [P_within_eq, bd1_s, if_pos (pb hL)]
    · unfold P_X3_at
      rw [P_isLayer_eq, bd1_s, if_pos (pb hL)]
