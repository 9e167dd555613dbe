section LOOP
variable {p : Program} {l : Launch} {e : Env} {s : State} {m : MethodId} {below : List Frame} {meth : Method} {c : Code} {dC : Nat → ClassId} {dI : Nat → Nat → Nat} {b L : Nat} {xs : Nat → Int32}
variable {hd im hm : Nat} {sA lA mA : Nat → Nat} {oA xA yA : Nat → Nat → Nat} {cI cL cS cZ cJ : ClassId} {F : Nat → Nat → Option Nat} {gi : Nat → Option Nat}
set_option maxHeartbeats 4000000 in
set_option maxRecDepth 100000 in
theorem law_loop (C0 : lw_At p s m meth c b L xs) (hL : L ≤ 2560) (hk : kD sA oA F gi) (hN : nw s) (hK : va_K (dC, dI) vwCl (tA cI cL cS cZ cJ) s) :
    ∀ (n i : Nat) (x3 : Int32) (XS : Nat → Nat → Nat → Int32) (YS : Nat → Nat → Nat → Int32) (SZ : Nat → Nat → Int32) (FO : Nat → Nat → Int32) (ke : Int32) (st : Nat → Int32) (im_ : Nat → Int32) (kp : Nat → Int32) (wx : Nat → Int32) (wy : Nat → Int32) (px : Nat → Int64) (py : Nat → Int64) (co : Int32) (lx : Nat → Int64) (ly : Nat → Int64) (lf : Int32) (H : Heap) (locs : List Loc) (ls : Array Slot), i ≤ L → L + 6 ≤ i + n → x3 = nI i → Inv XS YS SZ FO ke st im_ kp → va_P (dC, dI) vwCl ((wD hd im sA lA oA xA yA cI cL cS F gi XS YS SZ FO ke) ++ (wM hm mA cI cZ cJ st im_ kp wx wy px py co lx ly lf)) H → va_D (fun q : Nat => s.heap.size ≤ q) ((wD hd im sA lA oA xA yA cI cL cS F gi XS YS SZ FO ke) ++ (wM hm mA cI cZ cJ st im_ kp wx wy px py co lx ly lf)) → va_S (fun q : Nat => s.heap.size ≤ q) s.heap H locs → lv_has ls 4 [(0, .ref b), (1, .ref hd), (2, .ref hm), (3, .int x3)] → W p l e room_1 s m #[Value.ref b] below meth c H locs 600000 7302250 (lw_Z below #[Value.ref b] s) (F0 m 18 ls []) := by
  obtain ⟨hx, hb, hr, hml, hown, hts, hX, hbl, hlocks, hgv⟩ := id C0
  have hbA : ¬ (fun q : Nat => s.heap.size ≤ q) b := Nat.not_le.mpr hbl
  intro n
  induction n with
  | zero =>
    intro i x3 XS YS SZ FO ke st im_ kp wx wy px py co lx ly lf H locs ls h1 h2
    exact absurd h2 (by omega)
  | succ n ih =>
    intro i x3 XS YS SZ FO ke st im_ kp wx wy px py co lx ly lf H locs ls hi hin ex3 hI hP hD hS hl
    refine lv_iload_n hx hb dL_law_18 rfl (lv_at hl 3 rfl) ?_
    refine lv_aload_n hx hb dL_law_19 rfl (lv_at hl 0 rfl) ?_
    refine va_slen hx hb hX hbl hbA hS dL_law_20 ?_
    refine lv_iconst (v := 5) hx hb dL_law_21 (by decide) ?_
    refine lv_isub hx hb dL_law_22 ?_
    have e5 : (Int32.ofNat L - 5).toInt = (L : Int) - 5 := by
      have := pk_sub_toInt (a := L) (b := 5) (by omega) (by decide)
      exact this
    have e3 : x3.toInt = (i : Int) := by rw [ex3, nI_toInt (by omega)]
    refine lv_icmp_gt (tgt := 781) hx hb dL_law_23 (by decide) (fun c_1 => ?_) (fun c_1 => ?_)
    · refine lv_iconst (v := 1) hx hb dL_law_781 (by decide) ?_
      refine va_forget (fun q hq => hS.2.2 q hq) ?_
      exact lw_ret hx hb hr hlocks dL_law_782
    · rw [Int32.lt_iff_toInt_lt, e5, e3] at c_1
      have hlt : i + 5 ≤ L := by omega
      have hq : ∀ d : Nat, d < 5 → vp_in (nI (i + d)) L := fun d hd => vp_in_nI (by omega) (by omega)
      have h_0 : vp_in x3 L := by rw [ex3]; exact hq 0 (by decide)
      have h_1 : vp_in (x3 + (1 : Int32)) L := by rw [ex3, lit32, nI_add]; exact hq 1 (by decide)
      have h_2 : vp_in (x3 + (2 : Int32)) L := by rw [ex3, lit32, nI_add]; exact hq 2 (by decide)
      have h_3 : vp_in (x3 + (3 : Int32)) L := by rw [ex3, lit32, nI_add]; exact hq 3 (by decide)
      have h_4 : vp_in (x3 + (4 : Int32)) L := by rw [ex3, lit32, nI_add]; exact hq 4 (by decide)
      have kt : ∀ (XS : Nat → Nat → Nat → Int32) (YS : Nat → Nat → Nat → Int32) (SZ : Nat → Nat → Int32) (FO : Nat → Nat → Int32) (ke : Int32) (st : Nat → Int32) (im_ : Nat → Int32) (kp : Nat → Int32) (wx : Nat → Int32) (wy : Nat → Int32) (px : Nat → Int64) (py : Nat → Int64) (co : Int32) (lx : Nat → Int64) (ly : Nat → Int64) (lf : Int32) (H : Heap) (locs : List Loc), Inv XS YS SZ FO ke st im_ kp → va_P (dC, dI) vwCl ((wD hd im sA lA oA xA yA cI cL cS F gi XS YS SZ FO ke) ++ (wM hm mA cI cZ cJ st im_ kp wx wy px py co lx ly lf)) H → va_D (fun q : Nat => s.heap.size ≤ q) ((wD hd im sA lA oA xA yA cI cL cS F gi XS YS SZ FO ke) ++ (wM hm mA cI cZ cJ st im_ kp wx wy px py co lx ly lf)) → va_S (fun q : Nat => s.heap.size ≤ q) s.heap H locs → W p l e room_1 s m #[Value.ref b] below meth c H locs 600000 7302250 (lw_Z below #[Value.ref b] s) (F0 m 775 ls []) := by
        intro XS YS SZ FO ke st im_ kp wx wy px py co lx ly lf H locs hI hP hD hS
        refine lv_iinc (v := x3 + (5 : Int32)) (lv' := [(3, .int (x3 + (5 : Int32))), (0, .ref b), (1, .ref hd), (2, .ref hm)]) hx hb dL_law_775 hl (k := 3) rfl rfl (by decide) rfl (fun ls hl => ?_)
        refine lv_goto (tgt := 18) hx hb dL_law_778 (by decide) ?_
        exact ih (i + 5) (x3 + (5 : Int32)) XS YS SZ FO ke st im_ kp wx wy px py co lx ly lf H locs ls hlt (by omega) (by rw [ex3, lit32, nI_add]) hI hP hD hS (lv_sub hl [1, 2, 3, 0] rfl)
      refine lv_aload_n hx hb dL_law_26 rfl (lv_at hl 0 rfl) ?_
      refine lv_iload_n hx hb dL_law_27 rfl (lv_at hl 3 rfl) ?_
      refine va_sld hx hb hX hbl hbA hS h_0 dL_law_28 ?_
      refine lv_bipush (v := 31) hx hb dL_law_29 (by decide) ?_
      refine lv_iand hx hb dL_law_31 ?_
      refine lv_topi (fun vv evv => ?_)
      by_cases q_0 : vv = (0 : Int32)
      · refine lv_tableIn (off := 92) (tgt := 124) hx hb dL_law_32 (by rw [q_0]; decide) (by rw [q_0]; decide) (by rw [q_0]; rfl) (by decide) ?_
        exact law_point C0 hI h_1 h_2 h_3 hk hN hK hP hD hS hl kt
      by_cases q_1 : vv = (1 : Int32)
      · refine lv_tableIn (off := 135) (tgt := 167) hx hb dL_law_32 (by rw [q_1]; decide) (by rw [q_1]; decide) (by rw [q_1]; rfl) (by decide) ?_
        exact law_pop C0 hI h_1 hk hN hK hP hD hS hl kt
      by_cases q_2 : vv = (2 : Int32)
      · refine lv_tableIn (off := 158) (tgt := 190) hx hb dL_law_32 (by rw [q_2]; decide) (by rw [q_2]; decide) (by rw [q_2]; rfl) (by decide) ?_
        exact law_set C0 hI h_1 h_2 h_3 h_4 hk hN hK hP hD hS hl kt
      by_cases q_3 : vv = (3 : Int32)
      · refine lv_tableIn (off := 211) (tgt := 243) hx hb dL_law_32 (by rw [q_3]; decide) (by rw [q_3]; decide) (by rw [q_3]; rfl) (by decide) ?_
        exact law_rule C0 hI h_1 h_2 hk hN hK hP hD hS hl kt
      by_cases q_4 : vv = (4 : Int32)
      · refine lv_tableIn (off := 244) (tgt := 276) hx hb dL_law_32 (by rw [q_4]; decide) (by rw [q_4]; decide) (by rw [q_4]; rfl) (by decide) ?_
        exact law_move C0 hI h_1 h_2 h_3 hk hN hK hP hD hS hl kt
      by_cases q_5 : vv = (5 : Int32)
      · refine lv_tableIn (off := 287) (tgt := 319) hx hb dL_law_32 (by rw [q_5]; decide) (by rw [q_5]; decide) (by rw [q_5]; rfl) (by decide) ?_
        exact law_back C0 hI h_1 hk hN hK hP hD hS hl kt
      by_cases q_6 : vv = (6 : Int32)
      · refine lv_tableIn (off := 310) (tgt := 342) hx hb dL_law_32 (by rw [q_6]; decide) (by rw [q_6]; decide) (by rw [q_6]; rfl) (by decide) ?_
        exact law_begin C0 hI h_1 h_2 hk hN hK hP hD hS hl kt
      by_cases q_7 : vv = (7 : Int32)
      · refine lv_tableIn (off := 343) (tgt := 375) hx hb dL_law_32 (by rw [q_7]; decide) (by rw [q_7]; decide) (by rw [q_7]; rfl) (by decide) ?_
        exact law_at C0 hI h_1 h_2 h_3 hk hN hK hP hD hS hl kt
      by_cases q_8 : vv = (8 : Int32)
      · refine lv_tableIn (off := 386) (tgt := 418) hx hb dL_law_32 (by rw [q_8]; decide) (by rw [q_8]; decide) (by rw [q_8]; rfl) (by decide) ?_
        exact law_raw C0 hI h_1 h_2 h_3 hk hN hK hP hD hS hl kt
      by_cases q_9 : vv = (9 : Int32)
      · refine lv_tableIn (off := 430) (tgt := 462) hx hb dL_law_32 (by rw [q_9]; decide) (by rw [q_9]; decide) (by rw [q_9]; rfl) (by decide) ?_
        exact law_cover C0 hI h_1 h_2 h_3 hk hN hK hP hD hS hl kt
      by_cases q_10 : vv = (10 : Int32)
      · refine lv_tableIn (off := 474) (tgt := 506) hx hb dL_law_32 (by rw [q_10]; decide) (by rw [q_10]; decide) (by rw [q_10]; rfl) (by decide) ?_
        exact law_together C0 hI h_1 h_2 hk hN hK hP hD hS hl kt
      by_cases q_11 : vv = (11 : Int32)
      · refine lv_tableIn (off := 508) (tgt := 540) hx hb dL_law_32 (by rw [q_11]; decide) (by rw [q_11]; decide) (by rw [q_11]; rfl) (by decide) ?_
        exact law_area C0 hI h_1 h_2 hk hN hK hP hD hS hl kt
      by_cases q_12 : vv = (12 : Int32)
      · refine lv_tableIn (off := 542) (tgt := 574) hx hb dL_law_32 (by rw [q_12]; decide) (by rw [q_12]; decide) (by rw [q_12]; rfl) (by decide) ?_
        exact law_enough C0 hI h_1 h_2 h_3 hk hN hK hP hD hS hl kt
      by_cases q_13 : vv = (13 : Int32)
      · refine lv_tableIn (off := 585) (tgt := 617) hx hb dL_law_32 (by rw [q_13]; decide) (by rw [q_13]; decide) (by rw [q_13]; rfl) (by decide) ?_
        exact law_field C0 hI h_1 hk hN hK hP hD hS hl kt
      by_cases q_14 : vv = (14 : Int32)
      · refine lv_tableIn (off := 608) (tgt := 640) hx hb dL_law_32 (by rw [q_14]; decide) (by rw [q_14]; decide) (by rw [q_14]; rfl) (by decide) ?_
        exact law_best C0 hI h_1 h_2 hk hN hK hP hD hS hl kt
      by_cases q_15 : vv = (15 : Int32)
      · refine lv_tableIn (off := 641) (tgt := 673) hx hb dL_law_32 (by rw [q_15]; decide) (by rw [q_15]; decide) (by rw [q_15]; rfl) (by decide) ?_
        exact law_same C0 hI h_1 h_2 hk hN hK hP hD hS hl kt
      by_cases q_16 : vv = (16 : Int32)
      · refine lv_tableIn (off := 674) (tgt := 706) hx hb dL_law_32 (by rw [q_16]; decide) (by rw [q_16]; decide) (by rw [q_16]; rfl) (by decide) ?_
        exact law_image C0 hI h_1 hk hN hK hP hD hS hl kt
      by_cases q_17 : vv = (17 : Int32)
      · refine lv_tableIn (off := 697) (tgt := 729) hx hb dL_law_32 (by rw [q_17]; decide) (by rw [q_17]; decide) (by rw [q_17]; rfl) (by decide) ?_
        exact law_restore C0 hI h_1 hk hN hK hP hD hS hl kt
      by_cases q_18 : vv = (18 : Int32)
      · refine lv_tableIn (off := 720) (tgt := 752) hx hb dL_law_32 (by rw [q_18]; decide) (by rw [q_18]; decide) (by rw [q_18]; rfl) (by decide) ?_
        exact law_count C0 hI h_1 hk hN hK hP hD hS hl kt
      have t_0 := lv_neT q_0 (a := 0) (by decide)
      have t_1 := lv_neT q_1 (a := 1) (by decide)
      have t_2 := lv_neT q_2 (a := 2) (by decide)
      have t_3 := lv_neT q_3 (a := 3) (by decide)
      have t_4 := lv_neT q_4 (a := 4) (by decide)
      have t_5 := lv_neT q_5 (a := 5) (by decide)
      have t_6 := lv_neT q_6 (a := 6) (by decide)
      have t_7 := lv_neT q_7 (a := 7) (by decide)
      have t_8 := lv_neT q_8 (a := 8) (by decide)
      have t_9 := lv_neT q_9 (a := 9) (by decide)
      have t_10 := lv_neT q_10 (a := 10) (by decide)
      have t_11 := lv_neT q_11 (a := 11) (by decide)
      have t_12 := lv_neT q_12 (a := 12) (by decide)
      have t_13 := lv_neT q_13 (a := 13) (by decide)
      have t_14 := lv_neT q_14 (a := 14) (by decide)
      have t_15 := lv_neT q_15 (a := 15) (by decide)
      have t_16 := lv_neT q_16 (a := 16) (by decide)
      have t_17 := lv_neT q_17 (a := 17) (by decide)
      have t_18 := lv_neT q_18 (a := 18) (by decide)
      refine lv_tableOut (tgt := 775) hx hb dL_law_32 (by omega) (by decide) ?_
      exact kt XS YS SZ FO ke st im_ kp wx wy px py co lx ly lf H locs hI hP hD hS
end LOOP
