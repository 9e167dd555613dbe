section LAW2
variable {p : Program} {l : Launch} {e : Env} {s : State} {m : MethodId} {below : List Frame} {meth : Method} {c : Code} {dC : Nat → ClassId} {dI : Nat → Nat → Nat} {b L : Nat} {xs : Nat → Int32}
variable {hd im hm : Nat} {sA lA mA : Nat → Nat} {oA xA yA : Nat → Nat → Nat} {cI cL cS cZ cJ : ClassId} {F : Nat → Nat → Option Nat} {gi : Nat → Option Nat}
set_option maxHeartbeats 4000000 in
set_option maxRecDepth 100000 in
theorem law_together (C0 : lw_At p s m meth c b L xs) {XS : Nat → Nat → Nat → Int32} {YS : Nat → Nat → Nat → Int32} {SZ : Nat → Nat → Int32} {FO : Nat → Nat → Int32} {ke : Int32} {st : Nat → Int32} {im_ : Nat → Int32} {kp : Nat → Int32} {wx : Nat → Int32} {wy : Nat → Int32} {px : Nat → Int64} {py : Nat → Int64} {co : Int32} {lx : Nat → Int64} {ly : Nat → Int64} {lf : Int32} {H : Heap} {locs : List Loc} {ls : Array Slot} {x3 : Int32} (hI : Inv XS YS SZ FO ke st im_ kp) (h_1 : vp_in (x3 + (1 : Int32)) L) (h_2 : vp_in (x3 + (2 : Int32)) L) (hk : kD sA oA F gi) (hN : nw s) (hK : va_K (dC, dI) vwCl (tA cI cL cS cZ cJ) s) (hP : va_P (dC, dI) vwCl ((wD hd im sA lA oA xA yA cI cL cS F gi XS YS SZ FO ke) ++ (wM hm mA cI cZ cJ st im_ kp wx wy px py co lx ly lf)) H) (hD : va_D (fun q : Nat => s.heap.size ≤ q) ((wD hd im sA lA oA xA yA cI cL cS F gi XS YS SZ FO ke) ++ (wM hm mA cI cZ cJ st im_ kp wx wy px py co lx ly lf))) (hS : va_S (fun q : Nat => s.heap.size ≤ q) s.heap H locs) (hl : lv_has ls 4 [(0, .ref b), (1, .ref hd), (2, .ref hm), (3, .int x3)]) (kont : ∀ (XS : Nat → Nat → Nat → Int32) (YS : Nat → Nat → Nat → Int32) (SZ : Nat → Nat → Int32) (FO : Nat → Nat → Int32) (ke : Int32) (st : Nat → Int32) (im_ : Nat → Int32) (kp : Nat → Int32) (wx : Nat → Int32) (wy : Nat → Int32) (px : Nat → Int64) (py : Nat → Int64) (co : Int32) (lx : Nat → Int64) (ly : Nat → Int64) (lf : Int32) (H : Heap) (locs : List Loc), Inv XS YS SZ FO ke st im_ kp → va_P (dC, dI) vwCl ((wD hd im sA lA oA xA yA cI cL cS F gi XS YS SZ FO ke) ++ (wM hm mA cI cZ cJ st im_ kp wx wy px py co lx ly lf)) H → va_D (fun q : Nat => s.heap.size ≤ q) ((wD hd im sA lA oA xA yA cI cL cS F gi XS YS SZ FO ke) ++ (wM hm mA cI cZ cJ st im_ kp wx wy px py co lx ly lf)) → va_S (fun q : Nat => s.heap.size ≤ q) s.heap H locs → W p l e room_1 s m #[Value.ref b] below meth c H locs 600000 7302250 (lw_Z below #[Value.ref b] s) (F0 m 775 ls [])) : W p l e room_1 s m #[Value.ref b] below meth c H locs 600000 7302250 (lw_Z below #[Value.ref b] s) (F0 m 506 ls []) := by
  obtain ⟨hx, hb, hr, hml, hown, hts, hX, hbl, hlocks, hgv⟩ := C0
  have hA : ∀ q : Nat, s.heap.size ≤ q → (fun q : Nat => s.heap.size ≤ q) q := fun _ h => h
  have hbA : ¬ (fun q : Nat => s.heap.size ≤ q) b := Nat.not_le.mpr hbl
  have hts := fun w h => hts w (wsL_law_in w h)
  obtain ⟨r, pxM, pyM, coM, lxM, lyM, lfM, hp_0, hp_1⟩ := pp_together hI (xs (x3 + (1 : Int32)).toNatClampNeg) (xs (x3 + (2 : Int32)).toNatClampNeg) px py co lx ly lf
  refine lv_aload_n hx hb dL_law_506 rfl (lv_at hl 1 rfl) ?_
  refine lv_aload_n hx hb dL_law_507 rfl (lv_at hl 0 rfl) ?_
  refine lv_iload_n hx hb dL_law_508 rfl (lv_at hl 3 rfl) ?_
  refine lv_iconst (v := 1) hx hb dL_law_509 (by decide) ?_
  refine lv_iadd hx hb dL_law_510 ?_
  refine va_sld hx hb hX hbl hbA hS h_1 dL_law_511 ?_
  refine lv_aload_n hx hb dL_law_512 rfl (lv_at hl 0 rfl) ?_
  refine lv_iload_n hx hb dL_law_513 rfl (lv_at hl 3 rfl) ?_
  refine lv_iconst (v := 2) hx hb dL_law_514 (by decide) ?_
  refine lv_iadd hx hb dL_law_515 ?_
  refine va_sld hx hb hX hbl hbA hS h_2 dL_law_516 ?_
  have hKc := hK.sub (tys' := tD cI cL cS) [0, 1, 2] rfl
  have hPc := hP.sub (ws' := (wD hd im sA lA oA xA yA cI cL cS F gi XS YS SZ FO ke)) [0, 1, 2, 3, 4, 5, 6, 7, 8, 9, 10, 11, 12, 13, 14, 15, 16, 17, 18, 19, 20, 21, 22, 23, 24, 25, 26, 27, 28, 29, 30, 31, 32, 33, 34] rfl
  refine vp_callSl (W.runV (As := [.int (xs (x3 + (1 : Int32)).toNatClampNeg), .int (xs (x3 + (2 : Int32)).toNatClampNeg)]) (rest := []) ⟨hx, hb, hml, hown, hts⟩ (C_X2_together (F := F) (gi := gi) l dC dI (xs (x3 + (1 : Int32)).toNatClampNeg) (xs (x3 + (2 : Int32)).toNatClampNeg) hk r hp_0) (cwV 2 hts gL_law_X2_together rfl rfl rfl (by decide +kernel) ⟨Nat.le_of_ble_eq_true rfl, Nat.le_of_ble_eq_true rfl⟩) ⟨fun a U g mk q => ⟨q.1, q.2.1, va_K.moved (u := U) (U := U.calling g mk a) (Vm.Alike.refl U.vm) q.2.2.1, nw_same rfl q.2.2.2⟩, va_recv hKc hPc (ci := 2) (q0 := 0) rfl rfl, fun U hU hW => ⟨rfl, by rw [hU]; exact hPc, va_K.moved hW.alike hKc, hN.warm hW⟩⟩ rfl rfl hl.1 rfl (lv_room (Nat.le_of_ble_eq_true rfl)) dL_law_517 ⟨Nat.le_of_ble_eq_true rfl, Nat.le_of_ble_eq_true rfl⟩) (fun r_ qr_ => ?_)
  obtain rfl := qr_.symm
  refine lv_aload_n hx hb dL_law_520 rfl (lv_at hl 2 rfl) ?_
  refine lv_aload_n hx hb dL_law_521 rfl (lv_at hl 0 rfl) ?_
  refine lv_iload_n hx hb dL_law_522 rfl (lv_at hl 3 rfl) ?_
  refine lv_iconst (v := 1) hx hb dL_law_523 (by decide) ?_
  refine lv_iadd hx hb dL_law_524 ?_
  refine va_sld hx hb hX hbl hbA hS h_1 dL_law_525 ?_
  refine lv_aload_n hx hb dL_law_526 rfl (lv_at hl 0 rfl) ?_
  refine lv_iload_n hx hb dL_law_527 rfl (lv_at hl 3 rfl) ?_
  refine lv_iconst (v := 2) hx hb dL_law_528 (by decide) ?_
  refine lv_iadd hx hb dL_law_529 ?_
  refine va_sld hx hb hX hbl hbA hS h_2 dL_law_530 ?_
  have hKc := hK.sub (tys' := [(cI, .int), (cZ, .boolean), (cJ, .long)]) [1, 3, 4] rfl
  have hPc := hP.sub (ws' := (wM hm mA cI cZ cJ st im_ kp wx wy px py co lx ly lf)) [35, 36, 37, 38, 39, 40, 41, 42, 43, 44] rfl
  have hDc := hD.sub (ws' := (wM hm mA cI cZ cJ st im_ kp wx wy px py co lx ly lf)) [35, 36, 37, 38, 39, 40, 41, 42, 43, 44] (by decide) rfl
  have hFc := va_free (wc := (wM hm mA cI cZ cJ st im_ kp wx wy px py co lx ly lf)) hD hS hA [35, 36, 37, 38, 39, 40, 41, 42, 43, 44] rfl
  refine va_calll (va_runV (As := [.int (xs (x3 + (1 : Int32)).toNatClampNeg), .int (xs (x3 + (2 : Int32)).toNatClampNeg)]) (rest := [.long r]) ⟨hx, hb, hml, hown, hts⟩ (c_X3_together l dC dI hm (mA 0) (mA 1) (mA 2) (mA 3) (mA 4) (mA 5) (mA 6) (mA 7) (mA 8) cI cZ cJ H.size st im_ kp wx wy px py co lx ly lf (xs (x3 + (1 : Int32)).toNatClampNeg) (xs (x3 + (2 : Int32)).toNatClampNeg) r pxM pyM coM lxM lyM lfM hp_1) (cwV 2 hts gL_law_X3_together rfl rfl rfl (by decide +kernel) ⟨Nat.le_of_ble_eq_true rfl, Nat.le_of_ble_eq_true rfl⟩) ⟨fun a U g mk q => ⟨q.1, q.2.1, q.2.2.1, va_K.moved (u := U) (U := U.calling g mk a) (Vm.Alike.refl U.vm) q.2.2.2.1, q.2.2.2.2⟩, va_recv hKc hPc (ci := 3) (q0 := 0) rfl rfl, fun U hU hW => ⟨rfl, by rw [hU], by rw [hU]; exact hPc, va_K.moved hW.alike hKc, hDc.weaken (fun _ _ _ _ => trivial)⟩⟩ rfl rfl hl.1 rfl (lv_room (Nat.le_of_ble_eq_true rfl)) dL_law_531 ⟨Nat.le_of_ble_eq_true rfl, Nat.le_of_ble_eq_true rfl⟩) hS (fun q _ h => hFc q h) hFc (fun r_ _ t H1 locs ht hvm hw hB hz1 hk1 hS => ?_)
  obtain ⟨hP1, hK1, hD1⟩ := hB
  rw [ht] at hP1
  obtain rfl := hw.symm
  obtain ⟨hP, hD⟩ := va_join (wr := (wD hd im sA lA oA xA yA cI cL cS F gi XS YS SZ FO ke)) (w1 := (wM hm mA cI cZ cJ st im_ kp wx wy pxM pyM coM lxM lyM lfM)) hP hD [35, 36, 37, 38, 39, 40, 41, 42, 43, 44] [0, 1, 2, 3, 4, 5, 6, 7, 8, 9, 10, 11, 12, 13, 14, 15, 16, 17, 18, 19, 20, 21, 22, 23, 24, 25, 26, 27, 28, 29, 30, 31, 32, 33, 34] rfl rfl (by decide) (by decide) hk1 hFc hP1 hD1
  clear hP1 hK1 hD1 hk1 hFc
  generalize H1 = H at hP hS ⊢
  refine lc_eq (tgt := 775) hx hb dL_law_534 dL_law_535 (by decide) (fun c_1 => ?_) (fun c_1 => absurd rfl c_1)
  exact kont _ _ _ _ _ _ _ _ _ _ _ _ _ _ _ _ _ _ hI hP hD hS
set_option maxHeartbeats 4000000 in
set_option maxRecDepth 100000 in
theorem law_area (C0 : lw_At p s m meth c b L xs) {XS : Nat → Nat → Nat → Int32} {YS : Nat → Nat → Nat → Int32} {SZ : Nat → Nat → Int32} {FO : Nat → Nat → Int32} {ke : Int32} {st : Nat → Int32} {im_ : Nat → Int32} {kp : Nat → Int32} {wx : Nat → Int32} {wy : Nat → Int32} {px : Nat → Int64} {py : Nat → Int64} {co : Int32} {lx : Nat → Int64} {ly : Nat → Int64} {lf : Int32} {H : Heap} {locs : List Loc} {ls : Array Slot} {x3 : Int32} (hI : Inv XS YS SZ FO ke st im_ kp) (h_1 : vp_in (x3 + (1 : Int32)) L) (h_2 : vp_in (x3 + (2 : Int32)) L) (hk : kD sA oA F gi) (hN : nw s) (hK : va_K (dC, dI) vwCl (tA cI cL cS cZ cJ) s) (hP : va_P (dC, dI) vwCl ((wD hd im sA lA oA xA yA cI cL cS F gi XS YS SZ FO ke) ++ (wM hm mA cI cZ cJ st im_ kp wx wy px py co lx ly lf)) H) (hD : va_D (fun q : Nat => s.heap.size ≤ q) ((wD hd im sA lA oA xA yA cI cL cS F gi XS YS SZ FO ke) ++ (wM hm mA cI cZ cJ st im_ kp wx wy px py co lx ly lf))) (hS : va_S (fun q : Nat => s.heap.size ≤ q) s.heap H locs) (hl : lv_has ls 4 [(0, .ref b), (1, .ref hd), (2, .ref hm), (3, .int x3)]) (kont : ∀ (XS : Nat → Nat → Nat → Int32) (YS : Nat → Nat → Nat → Int32) (SZ : Nat → Nat → Int32) (FO : Nat → Nat → Int32) (ke : Int32) (st : Nat → Int32) (im_ : Nat → Int32) (kp : Nat → Int32) (wx : Nat → Int32) (wy : Nat → Int32) (px : Nat → Int64) (py : Nat → Int64) (co : Int32) (lx : Nat → Int64) (ly : Nat → Int64) (lf : Int32) (H : Heap) (locs : List Loc), Inv XS YS SZ FO ke st im_ kp → va_P (dC, dI) vwCl ((wD hd im sA lA oA xA yA cI cL cS F gi XS YS SZ FO ke) ++ (wM hm mA cI cZ cJ st im_ kp wx wy px py co lx ly lf)) H → va_D (fun q : Nat => s.heap.size ≤ q) ((wD hd im sA lA oA xA yA cI cL cS F gi XS YS SZ FO ke) ++ (wM hm mA cI cZ cJ st im_ kp wx wy px py co lx ly lf)) → va_S (fun q : Nat => s.heap.size ≤ q) s.heap H locs → W p l e room_1 s m #[Value.ref b] below meth c H locs 600000 7302250 (lw_Z below #[Value.ref b] s) (F0 m 775 ls [])) : W p l e room_1 s m #[Value.ref b] below meth c H locs 600000 7302250 (lw_Z below #[Value.ref b] s) (F0 m 540 ls []) := by
  obtain ⟨hx, hb, hr, hml, hown, hts, hX, hbl, hlocks, hgv⟩ := C0
  have hA : ∀ q : Nat, s.heap.size ≤ q → (fun q : Nat => s.heap.size ≤ q) q := fun _ h => h
  have hbA : ¬ (fun q : Nat => s.heap.size ≤ q) b := Nat.not_le.mpr hbl
  have hts := fun w h => hts w (wsL_law_in w h)
  obtain ⟨i, r, pxM, pyM, coM, lxM, lyM, lfM, hp_0, hp_1, hp_2, hp_3⟩ := pp_area hI (xs (x3 + (1 : Int32)).toNatClampNeg) (xs (x3 + (2 : Int32)).toNatClampNeg) px py co lx ly lf
  refine lv_aload_n hx hb dL_law_540 rfl (lv_at hl 1 rfl) ?_
  refine lv_aload_n hx hb dL_law_541 rfl (lv_at hl 0 rfl) ?_
  refine lv_iload_n hx hb dL_law_542 rfl (lv_at hl 3 rfl) ?_
  refine lv_iconst (v := 1) hx hb dL_law_543 (by decide) ?_
  refine lv_iadd hx hb dL_law_544 ?_
  refine va_sld hx hb hX hbl hbA hS h_1 dL_law_545 ?_
  refine lv_aload_n hx hb dL_law_546 rfl (lv_at hl 0 rfl) ?_
  refine lv_iload_n hx hb dL_law_547 rfl (lv_at hl 3 rfl) ?_
  refine lv_iconst (v := 2) hx hb dL_law_548 (by decide) ?_
  refine lv_iadd hx hb dL_law_549 ?_
  refine va_sld hx hb hX hbl hbA hS h_2 dL_law_550 ?_
  have hKc := hK.sub (tys' := tD cI cL cS) [0, 1, 2] rfl
  have hPc := hP.sub (ws' := (wD hd im sA lA oA xA yA cI cL cS F gi XS YS SZ FO ke)) [0, 1, 2, 3, 4, 5, 6, 7, 8, 9, 10, 11, 12, 13, 14, 15, 16, 17, 18, 19, 20, 21, 22, 23, 24, 25, 26, 27, 28, 29, 30, 31, 32, 33, 34] rfl
  refine vp_callSl (W.runV (As := [.int (xs (x3 + (1 : Int32)).toNatClampNeg), .int (xs (x3 + (2 : Int32)).toNatClampNeg)]) (rest := []) ⟨hx, hb, hml, hown, hts⟩ (C_X2_area (F := F) (gi := gi) l dC dI (xs (x3 + (1 : Int32)).toNatClampNeg) (xs (x3 + (2 : Int32)).toNatClampNeg) i hp_0 hp_1 hk r hp_2) (cwV 2 hts gL_law_X2_area rfl rfl rfl (by decide +kernel) ⟨Nat.le_of_ble_eq_true rfl, Nat.le_of_ble_eq_true rfl⟩) ⟨fun a U g mk q => ⟨q.1, q.2.1, va_K.moved (u := U) (U := U.calling g mk a) (Vm.Alike.refl U.vm) q.2.2.1, nw_same rfl q.2.2.2⟩, va_recv hKc hPc (ci := 2) (q0 := 0) rfl rfl, fun U hU hW => ⟨rfl, by rw [hU]; exact hPc, va_K.moved hW.alike hKc, hN.warm hW⟩⟩ rfl rfl hl.1 rfl (lv_room (Nat.le_of_ble_eq_true rfl)) dL_law_551 ⟨Nat.le_of_ble_eq_true rfl, Nat.le_of_ble_eq_true rfl⟩) (fun r_ qr_ => ?_)
  obtain rfl := qr_.symm
  refine lv_aload_n hx hb dL_law_554 rfl (lv_at hl 2 rfl) ?_
  refine lv_aload_n hx hb dL_law_555 rfl (lv_at hl 0 rfl) ?_
  refine lv_iload_n hx hb dL_law_556 rfl (lv_at hl 3 rfl) ?_
  refine lv_iconst (v := 1) hx hb dL_law_557 (by decide) ?_
  refine lv_iadd hx hb dL_law_558 ?_
  refine va_sld hx hb hX hbl hbA hS h_1 dL_law_559 ?_
  refine lv_aload_n hx hb dL_law_560 rfl (lv_at hl 0 rfl) ?_
  refine lv_iload_n hx hb dL_law_561 rfl (lv_at hl 3 rfl) ?_
  refine lv_iconst (v := 2) hx hb dL_law_562 (by decide) ?_
  refine lv_iadd hx hb dL_law_563 ?_
  refine va_sld hx hb hX hbl hbA hS h_2 dL_law_564 ?_
  have hKc := hK.sub (tys' := [(cI, .int), (cZ, .boolean), (cJ, .long)]) [1, 3, 4] rfl
  have hPc := hP.sub (ws' := (wM hm mA cI cZ cJ st im_ kp wx wy px py co lx ly lf)) [35, 36, 37, 38, 39, 40, 41, 42, 43, 44] rfl
  have hDc := hD.sub (ws' := (wM hm mA cI cZ cJ st im_ kp wx wy px py co lx ly lf)) [35, 36, 37, 38, 39, 40, 41, 42, 43, 44] (by decide) rfl
  have hFc := va_free (wc := (wM hm mA cI cZ cJ st im_ kp wx wy px py co lx ly lf)) hD hS hA [35, 36, 37, 38, 39, 40, 41, 42, 43, 44] rfl
  refine va_calll (va_runV (As := [.int (xs (x3 + (1 : Int32)).toNatClampNeg), .int (xs (x3 + (2 : Int32)).toNatClampNeg)]) (rest := [.long r]) ⟨hx, hb, hml, hown, hts⟩ (c_X3_area l dC dI hm (mA 0) (mA 1) (mA 2) (mA 3) (mA 4) (mA 5) (mA 6) (mA 7) (mA 8) cI cZ cJ H.size st im_ kp wx wy px py co lx ly lf (xs (x3 + (1 : Int32)).toNatClampNeg) (xs (x3 + (2 : Int32)).toNatClampNeg) r pxM pyM coM lxM lyM lfM hp_3) (cwV 2 hts gL_law_X3_area rfl rfl rfl (by decide +kernel) ⟨Nat.le_of_ble_eq_true rfl, Nat.le_of_ble_eq_true rfl⟩) ⟨fun a U g mk q => ⟨q.1, q.2.1, q.2.2.1, va_K.moved (u := U) (U := U.calling g mk a) (Vm.Alike.refl U.vm) q.2.2.2.1, q.2.2.2.2⟩, va_recv hKc hPc (ci := 3) (q0 := 0) rfl rfl, fun U hU hW => ⟨rfl, by rw [hU], by rw [hU]; exact hPc, va_K.moved hW.alike hKc, hDc.weaken (fun _ _ _ _ => trivial)⟩⟩ rfl rfl hl.1 rfl (lv_room (Nat.le_of_ble_eq_true rfl)) dL_law_565 ⟨Nat.le_of_ble_eq_true rfl, Nat.le_of_ble_eq_true rfl⟩) hS (fun q _ h => hFc q h) hFc (fun r_ _ t H1 locs ht hvm hw hB hz1 hk1 hS => ?_)
  obtain ⟨hP1, hK1, hD1⟩ := hB
  rw [ht] at hP1
  obtain rfl := hw.symm
  obtain ⟨hP, hD⟩ := va_join (wr := (wD hd im sA lA oA xA yA cI cL cS F gi XS YS SZ FO ke)) (w1 := (wM hm mA cI cZ cJ st im_ kp wx wy pxM pyM coM lxM lyM lfM)) hP hD [35, 36, 37, 38, 39, 40, 41, 42, 43, 44] [0, 1, 2, 3, 4, 5, 6, 7, 8, 9, 10, 11, 12, 13, 14, 15, 16, 17, 18, 19, 20, 21, 22, 23, 24, 25, 26, 27, 28, 29, 30, 31, 32, 33, 34] rfl rfl (by decide) (by decide) hk1 hFc hP1 hD1
  clear hP1 hK1 hD1 hk1 hFc
  generalize H1 = H at hP hS ⊢
  refine lc_eq (tgt := 775) hx hb dL_law_568 dL_law_569 (by decide) (fun c_1 => ?_) (fun c_1 => absurd rfl c_1)
  exact kont _ _ _ _ _ _ _ _ _ _ _ _ _ _ _ _ _ _ hI hP hD hS
set_option maxHeartbeats 4000000 in
set_option maxRecDepth 100000 in
theorem law_enough (C0 : lw_At p s m meth c b L xs) {XS : Nat → Nat → Nat → Int32} {YS : Nat → Nat → Nat → Int32} {SZ : Nat → Nat → Int32} {FO : Nat → Nat → Int32} {ke : Int32} {st : Nat → Int32} {im_ : Nat → Int32} {kp : Nat → Int32} {wx : Nat → Int32} {wy : Nat → Int32} {px : Nat → Int64} {py : Nat → Int64} {co : Int32} {lx : Nat → Int64} {ly : Nat → Int64} {lf : Int32} {H : Heap} {locs : List Loc} {ls : Array Slot} {x3 : Int32} (hI : Inv XS YS SZ FO ke st im_ kp) (h_1 : vp_in (x3 + (1 : Int32)) L) (h_2 : vp_in (x3 + (2 : Int32)) L) (h_3 : vp_in (x3 + (3 : Int32)) L) (hk : kD sA oA F gi) (hN : nw s) (hK : va_K (dC, dI) vwCl (tA cI cL cS cZ cJ) s) (hP : va_P (dC, dI) vwCl ((wD hd im sA lA oA xA yA cI cL cS F gi XS YS SZ FO ke) ++ (wM hm mA cI cZ cJ st im_ kp wx wy px py co lx ly lf)) H) (hD : va_D (fun q : Nat => s.heap.size ≤ q) ((wD hd im sA lA oA xA yA cI cL cS F gi XS YS SZ FO ke) ++ (wM hm mA cI cZ cJ st im_ kp wx wy px py co lx ly lf))) (hS : va_S (fun q : Nat => s.heap.size ≤ q) s.heap H locs) (hl : lv_has ls 4 [(0, .ref b), (1, .ref hd), (2, .ref hm), (3, .int x3)]) (kont : ∀ (XS : Nat → Nat → Nat → Int32) (YS : Nat → Nat → Nat → Int32) (SZ : Nat → Nat → Int32) (FO : Nat → Nat → Int32) (ke : Int32) (st : Nat → Int32) (im_ : Nat → Int32) (kp : Nat → Int32) (wx : Nat → Int32) (wy : Nat → Int32) (px : Nat → Int64) (py : Nat → Int64) (co : Int32) (lx : Nat → Int64) (ly : Nat → Int64) (lf : Int32) (H : Heap) (locs : List Loc), Inv XS YS SZ FO ke st im_ kp → va_P (dC, dI) vwCl ((wD hd im sA lA oA xA yA cI cL cS F gi XS YS SZ FO ke) ++ (wM hm mA cI cZ cJ st im_ kp wx wy px py co lx ly lf)) H → va_D (fun q : Nat => s.heap.size ≤ q) ((wD hd im sA lA oA xA yA cI cL cS F gi XS YS SZ FO ke) ++ (wM hm mA cI cZ cJ st im_ kp wx wy px py co lx ly lf)) → va_S (fun q : Nat => s.heap.size ≤ q) s.heap H locs → W p l e room_1 s m #[Value.ref b] below meth c H locs 600000 7302250 (lw_Z below #[Value.ref b] s) (F0 m 775 ls [])) : W p l e room_1 s m #[Value.ref b] below meth c H locs 600000 7302250 (lw_Z below #[Value.ref b] s) (F0 m 574 ls []) := by
  obtain ⟨hx, hb, hr, hml, hown, hts, hX, hbl, hlocks, hgv⟩ := C0
  have hA : ∀ q : Nat, s.heap.size ≤ q → (fun q : Nat => s.heap.size ≤ q) q := fun _ h => h
  have hbA : ¬ (fun q : Nat => s.heap.size ≤ q) b := Nat.not_le.mpr hbl
  have hts := fun w h => hts w (wsL_law_in w h)
  obtain ⟨i, r, pxM, pyM, coM, lxM, lyM, lfM, hp_0, hp_1, hp_2, hp_3⟩ := pp_enough hI (xs (x3 + (1 : Int32)).toNatClampNeg) (xs (x3 + (2 : Int32)).toNatClampNeg) (xs (x3 + (3 : Int32)).toNatClampNeg) px py co lx ly lf
  refine lv_aload_n hx hb dL_law_574 rfl (lv_at hl 1 rfl) ?_
  refine lv_aload_n hx hb dL_law_575 rfl (lv_at hl 0 rfl) ?_
  refine lv_iload_n hx hb dL_law_576 rfl (lv_at hl 3 rfl) ?_
  refine lv_iconst (v := 1) hx hb dL_law_577 (by decide) ?_
  refine lv_iadd hx hb dL_law_578 ?_
  refine va_sld hx hb hX hbl hbA hS h_1 dL_law_579 ?_
  refine lv_aload_n hx hb dL_law_580 rfl (lv_at hl 0 rfl) ?_
  refine lv_iload_n hx hb dL_law_581 rfl (lv_at hl 3 rfl) ?_
  refine lv_iconst (v := 2) hx hb dL_law_582 (by decide) ?_
  refine lv_iadd hx hb dL_law_583 ?_
  refine va_sld hx hb hX hbl hbA hS h_2 dL_law_584 ?_
  refine lv_aload_n hx hb dL_law_585 rfl (lv_at hl 0 rfl) ?_
  refine lv_iload_n hx hb dL_law_586 rfl (lv_at hl 3 rfl) ?_
  refine lv_iconst (v := 3) hx hb dL_law_587 (by decide) ?_
  refine lv_iadd hx hb dL_law_588 ?_
  refine va_sld hx hb hX hbl hbA hS h_3 dL_law_589 ?_
  have hKc := hK.sub (tys' := tD cI cL cS) [0, 1, 2] rfl
  have hPc := hP.sub (ws' := (wD hd im sA lA oA xA yA cI cL cS F gi XS YS SZ FO ke)) [0, 1, 2, 3, 4, 5, 6, 7, 8, 9, 10, 11, 12, 13, 14, 15, 16, 17, 18, 19, 20, 21, 22, 23, 24, 25, 26, 27, 28, 29, 30, 31, 32, 33, 34] rfl
  refine vp_callSi (W.runV (As := [.int (xs (x3 + (1 : Int32)).toNatClampNeg), .int (xs (x3 + (2 : Int32)).toNatClampNeg), .int (xs (x3 + (3 : Int32)).toNatClampNeg)]) (rest := []) ⟨hx, hb, hml, hown, hts⟩ (C_X2_enough (F := F) (gi := gi) l dC dI (xs (x3 + (1 : Int32)).toNatClampNeg) (xs (x3 + (2 : Int32)).toNatClampNeg) (xs (x3 + (3 : Int32)).toNatClampNeg) i hp_0 hp_1 hk r hp_2) (cwV 3 hts gL_law_X2_enough rfl rfl rfl (by decide +kernel) ⟨Nat.le_of_ble_eq_true rfl, Nat.le_of_ble_eq_true rfl⟩) ⟨fun a U g mk q => ⟨q.1, q.2.1, va_K.moved (u := U) (U := U.calling g mk a) (Vm.Alike.refl U.vm) q.2.2.1, nw_same rfl q.2.2.2⟩, va_recv hKc hPc (ci := 2) (q0 := 0) rfl rfl, fun U hU hW => ⟨rfl, by rw [hU]; exact hPc, va_K.moved hW.alike hKc, hN.warm hW⟩⟩ rfl rfl hl.1 rfl (lv_room (Nat.le_of_ble_eq_true rfl)) dL_law_590 ⟨Nat.le_of_ble_eq_true rfl, Nat.le_of_ble_eq_true rfl⟩) (fun r_ qr_ => ?_)
  obtain rfl := qr_.symm
  refine lv_aload_n hx hb dL_law_593 rfl (lv_at hl 2 rfl) ?_
  refine lv_aload_n hx hb dL_law_594 rfl (lv_at hl 0 rfl) ?_
  refine lv_iload_n hx hb dL_law_595 rfl (lv_at hl 3 rfl) ?_
  refine lv_iconst (v := 1) hx hb dL_law_596 (by decide) ?_
  refine lv_iadd hx hb dL_law_597 ?_
  refine va_sld hx hb hX hbl hbA hS h_1 dL_law_598 ?_
  refine lv_aload_n hx hb dL_law_599 rfl (lv_at hl 0 rfl) ?_
  refine lv_iload_n hx hb dL_law_600 rfl (lv_at hl 3 rfl) ?_
  refine lv_iconst (v := 2) hx hb dL_law_601 (by decide) ?_
  refine lv_iadd hx hb dL_law_602 ?_
  refine va_sld hx hb hX hbl hbA hS h_2 dL_law_603 ?_
  refine lv_aload_n hx hb dL_law_604 rfl (lv_at hl 0 rfl) ?_
  refine lv_iload_n hx hb dL_law_605 rfl (lv_at hl 3 rfl) ?_
  refine lv_iconst (v := 3) hx hb dL_law_606 (by decide) ?_
  refine lv_iadd hx hb dL_law_607 ?_
  refine va_sld hx hb hX hbl hbA hS h_3 dL_law_608 ?_
  have hKc := hK.sub (tys' := [(cI, .int), (cZ, .boolean), (cJ, .long)]) [1, 3, 4] rfl
  have hPc := hP.sub (ws' := (wM hm mA cI cZ cJ st im_ kp wx wy px py co lx ly lf)) [35, 36, 37, 38, 39, 40, 41, 42, 43, 44] rfl
  have hDc := hD.sub (ws' := (wM hm mA cI cZ cJ st im_ kp wx wy px py co lx ly lf)) [35, 36, 37, 38, 39, 40, 41, 42, 43, 44] (by decide) rfl
  have hFc := va_free (wc := (wM hm mA cI cZ cJ st im_ kp wx wy px py co lx ly lf)) hD hS hA [35, 36, 37, 38, 39, 40, 41, 42, 43, 44] rfl
  refine va_calli (va_runV (As := [.int (xs (x3 + (1 : Int32)).toNatClampNeg), .int (xs (x3 + (2 : Int32)).toNatClampNeg), .int (xs (x3 + (3 : Int32)).toNatClampNeg)]) (rest := [.int r]) ⟨hx, hb, hml, hown, hts⟩ (c_X3_enough l dC dI hm (mA 0) (mA 1) (mA 2) (mA 3) (mA 4) (mA 5) (mA 6) (mA 7) (mA 8) cI cZ cJ H.size st im_ kp wx wy px py co lx ly lf (xs (x3 + (1 : Int32)).toNatClampNeg) (xs (x3 + (2 : Int32)).toNatClampNeg) (xs (x3 + (3 : Int32)).toNatClampNeg) r pxM pyM coM lxM lyM lfM hp_3) (cwV 3 hts gL_law_X3_enough rfl rfl rfl (by decide +kernel) ⟨Nat.le_of_ble_eq_true rfl, Nat.le_of_ble_eq_true rfl⟩) ⟨fun a U g mk q => ⟨q.1, q.2.1, q.2.2.1, va_K.moved (u := U) (U := U.calling g mk a) (Vm.Alike.refl U.vm) q.2.2.2.1, q.2.2.2.2⟩, va_recv hKc hPc (ci := 3) (q0 := 0) rfl rfl, fun U hU hW => ⟨rfl, by rw [hU], by rw [hU]; exact hPc, va_K.moved hW.alike hKc, hDc.weaken (fun _ _ _ _ => trivial)⟩⟩ rfl rfl hl.1 rfl (lv_room (Nat.le_of_ble_eq_true rfl)) dL_law_609 ⟨Nat.le_of_ble_eq_true rfl, Nat.le_of_ble_eq_true rfl⟩) hS (fun q _ h => hFc q h) hFc (fun r_ _ t H1 locs ht hvm hw hB hz1 hk1 hS => ?_)
  obtain ⟨hP1, hK1, hD1⟩ := hB
  rw [ht] at hP1
  obtain rfl := hw.symm
  obtain ⟨hP, hD⟩ := va_join (wr := (wD hd im sA lA oA xA yA cI cL cS F gi XS YS SZ FO ke)) (w1 := (wM hm mA cI cZ cJ st im_ kp wx wy pxM pyM coM lxM lyM lfM)) hP hD [35, 36, 37, 38, 39, 40, 41, 42, 43, 44] [0, 1, 2, 3, 4, 5, 6, 7, 8, 9, 10, 11, 12, 13, 14, 15, 16, 17, 18, 19, 20, 21, 22, 23, 24, 25, 26, 27, 28, 29, 30, 31, 32, 33, 34] rfl rfl (by decide) (by decide) hk1 hFc hP1 hD1
  clear hP1 hK1 hD1 hk1 hFc
  generalize H1 = H at hP hS ⊢
  refine lv_icmp_eq (tgt := 775) hx hb dL_law_612 (by decide) (fun c_1 => ?_) (fun c_1 => absurd rfl c_1)
  exact kont _ _ _ _ _ _ _ _ _ _ _ _ _ _ _ _ _ _ hI hP hD hS
set_option maxHeartbeats 4000000 in
set_option maxRecDepth 100000 in
theorem law_field (C0 : lw_At p s m meth c b L xs) {XS : Nat → Nat → Nat → Int32} {YS : Nat → Nat → Nat → Int32} {SZ : Nat → Nat → Int32} {FO : Nat → Nat → Int32} {ke : Int32} {st : Nat → Int32} {im_ : Nat → Int32} {kp : Nat → Int32} {wx : Nat → Int32} {wy : Nat → Int32} {px : Nat → Int64} {py : Nat → Int64} {co : Int32} {lx : Nat → Int64} {ly : Nat → Int64} {lf : Int32} {H : Heap} {locs : List Loc} {ls : Array Slot} {x3 : Int32} (hI : Inv XS YS SZ FO ke st im_ kp) (h_1 : vp_in (x3 + (1 : Int32)) L) (hk : kD sA oA F gi) (hN : nw s) (hK : va_K (dC, dI) vwCl (tA cI cL cS cZ cJ) s) (hP : va_P (dC, dI) vwCl ((wD hd im sA lA oA xA yA cI cL cS F gi XS YS SZ FO ke) ++ (wM hm mA cI cZ cJ st im_ kp wx wy px py co lx ly lf)) H) (hD : va_D (fun q : Nat => s.heap.size ≤ q) ((wD hd im sA lA oA xA yA cI cL cS F gi XS YS SZ FO ke) ++ (wM hm mA cI cZ cJ st im_ kp wx wy px py co lx ly lf))) (hS : va_S (fun q : Nat => s.heap.size ≤ q) s.heap H locs) (hl : lv_has ls 4 [(0, .ref b), (1, .ref hd), (2, .ref hm), (3, .int x3)]) (kont : ∀ (XS : Nat → Nat → Nat → Int32) (YS : Nat → Nat → Nat → Int32) (SZ : Nat → Nat → Int32) (FO : Nat → Nat → Int32) (ke : Int32) (st : Nat → Int32) (im_ : Nat → Int32) (kp : Nat → Int32) (wx : Nat → Int32) (wy : Nat → Int32) (px : Nat → Int64) (py : Nat → Int64) (co : Int32) (lx : Nat → Int64) (ly : Nat → Int64) (lf : Int32) (H : Heap) (locs : List Loc), Inv XS YS SZ FO ke st im_ kp → va_P (dC, dI) vwCl ((wD hd im sA lA oA xA yA cI cL cS F gi XS YS SZ FO ke) ++ (wM hm mA cI cZ cJ st im_ kp wx wy px py co lx ly lf)) H → va_D (fun q : Nat => s.heap.size ≤ q) ((wD hd im sA lA oA xA yA cI cL cS F gi XS YS SZ FO ke) ++ (wM hm mA cI cZ cJ st im_ kp wx wy px py co lx ly lf)) → va_S (fun q : Nat => s.heap.size ≤ q) s.heap H locs → W p l e room_1 s m #[Value.ref b] below meth c H locs 600000 7302250 (lw_Z below #[Value.ref b] s) (F0 m 775 ls [])) : W p l e room_1 s m #[Value.ref b] below meth c H locs 600000 7302250 (lw_Z below #[Value.ref b] s) (F0 m 617 ls []) := by
  obtain ⟨hx, hb, hr, hml, hown, hts, hX, hbl, hlocks, hgv⟩ := C0
  have hA : ∀ q : Nat, s.heap.size ≤ q → (fun q : Nat => s.heap.size ≤ q) q := fun _ h => h
  have hbA : ¬ (fun q : Nat => s.heap.size ≤ q) b := Nat.not_le.mpr hbl
  have hts := fun w h => hts w (wsL_law_in w h)
  obtain ⟨r, pxM, pyM, coM, lxM, lyM, lfM, hp_0, hp_1⟩ := pp_field hI (xs (x3 + (1 : Int32)).toNatClampNeg) px py co lx ly lf
  refine lv_aload_n hx hb dL_law_617 rfl (lv_at hl 1 rfl) ?_
  refine lv_aload_n hx hb dL_law_618 rfl (lv_at hl 0 rfl) ?_
  refine lv_iload_n hx hb dL_law_619 rfl (lv_at hl 3 rfl) ?_
  refine lv_iconst (v := 1) hx hb dL_law_620 (by decide) ?_
  refine lv_iadd hx hb dL_law_621 ?_
  refine va_sld hx hb hX hbl hbA hS h_1 dL_law_622 ?_
  have hKc := hK.sub (tys' := tD cI cL cS) [0, 1, 2] rfl
  have hPc := hP.sub (ws' := (wD hd im sA lA oA xA yA cI cL cS F gi XS YS SZ FO ke)) [0, 1, 2, 3, 4, 5, 6, 7, 8, 9, 10, 11, 12, 13, 14, 15, 16, 17, 18, 19, 20, 21, 22, 23, 24, 25, 26, 27, 28, 29, 30, 31, 32, 33, 34] rfl
  refine vp_callSi (W.runV (As := [.int (xs (x3 + (1 : Int32)).toNatClampNeg)]) (rest := []) ⟨hx, hb, hml, hown, hts⟩ (C_X2_field (F := F) (gi := gi) l dC dI (xs (x3 + (1 : Int32)).toNatClampNeg) hk r hp_0) (cwV 1 hts gL_law_X2_field rfl rfl rfl (by decide +kernel) ⟨Nat.le_of_ble_eq_true rfl, Nat.le_of_ble_eq_true rfl⟩) ⟨fun a U g mk q => ⟨q.1, q.2.1, va_K.moved (u := U) (U := U.calling g mk a) (Vm.Alike.refl U.vm) q.2.2.1, nw_same rfl q.2.2.2⟩, va_recv hKc hPc (ci := 2) (q0 := 0) rfl rfl, fun U hU hW => ⟨rfl, by rw [hU]; exact hPc, va_K.moved hW.alike hKc, hN.warm hW⟩⟩ rfl rfl hl.1 rfl (lv_room (Nat.le_of_ble_eq_true rfl)) dL_law_623 ⟨Nat.le_of_ble_eq_true rfl, Nat.le_of_ble_eq_true rfl⟩) (fun r_ qr_ => ?_)
  obtain rfl := qr_.symm
  refine lv_aload_n hx hb dL_law_626 rfl (lv_at hl 2 rfl) ?_
  refine lv_aload_n hx hb dL_law_627 rfl (lv_at hl 0 rfl) ?_
  refine lv_iload_n hx hb dL_law_628 rfl (lv_at hl 3 rfl) ?_
  refine lv_iconst (v := 1) hx hb dL_law_629 (by decide) ?_
  refine lv_iadd hx hb dL_law_630 ?_
  refine va_sld hx hb hX hbl hbA hS h_1 dL_law_631 ?_
  have hKc := hK.sub (tys' := [(cI, .int), (cZ, .boolean), (cJ, .long)]) [1, 3, 4] rfl
  have hPc := hP.sub (ws' := (wM hm mA cI cZ cJ st im_ kp wx wy px py co lx ly lf)) [35, 36, 37, 38, 39, 40, 41, 42, 43, 44] rfl
  have hDc := hD.sub (ws' := (wM hm mA cI cZ cJ st im_ kp wx wy px py co lx ly lf)) [35, 36, 37, 38, 39, 40, 41, 42, 43, 44] (by decide) rfl
  have hFc := va_free (wc := (wM hm mA cI cZ cJ st im_ kp wx wy px py co lx ly lf)) hD hS hA [35, 36, 37, 38, 39, 40, 41, 42, 43, 44] rfl
  refine va_calli (va_runV (As := [.int (xs (x3 + (1 : Int32)).toNatClampNeg)]) (rest := [.int r]) ⟨hx, hb, hml, hown, hts⟩ (c_X3_field l dC dI hm (mA 0) (mA 1) (mA 2) (mA 3) (mA 4) (mA 5) (mA 6) (mA 7) (mA 8) cI cZ cJ H.size st im_ kp wx wy px py co lx ly lf (xs (x3 + (1 : Int32)).toNatClampNeg) r pxM pyM coM lxM lyM lfM hp_1) (cwV 1 hts gL_law_X3_field rfl rfl rfl (by decide +kernel) ⟨Nat.le_of_ble_eq_true rfl, Nat.le_of_ble_eq_true rfl⟩) ⟨fun a U g mk q => ⟨q.1, q.2.1, q.2.2.1, va_K.moved (u := U) (U := U.calling g mk a) (Vm.Alike.refl U.vm) q.2.2.2.1, q.2.2.2.2⟩, va_recv hKc hPc (ci := 3) (q0 := 0) rfl rfl, fun U hU hW => ⟨rfl, by rw [hU], by rw [hU]; exact hPc, va_K.moved hW.alike hKc, hDc.weaken (fun _ _ _ _ => trivial)⟩⟩ rfl rfl hl.1 rfl (lv_room (Nat.le_of_ble_eq_true rfl)) dL_law_632 ⟨Nat.le_of_ble_eq_true rfl, Nat.le_of_ble_eq_true rfl⟩) hS (fun q _ h => hFc q h) hFc (fun r_ _ t H1 locs ht hvm hw hB hz1 hk1 hS => ?_)
  obtain ⟨hP1, hK1, hD1⟩ := hB
  rw [ht] at hP1
  obtain rfl := hw.symm
  obtain ⟨hP, hD⟩ := va_join (wr := (wD hd im sA lA oA xA yA cI cL cS F gi XS YS SZ FO ke)) (w1 := (wM hm mA cI cZ cJ st im_ kp wx wy pxM pyM coM lxM lyM lfM)) hP hD [35, 36, 37, 38, 39, 40, 41, 42, 43, 44] [0, 1, 2, 3, 4, 5, 6, 7, 8, 9, 10, 11, 12, 13, 14, 15, 16, 17, 18, 19, 20, 21, 22, 23, 24, 25, 26, 27, 28, 29, 30, 31, 32, 33, 34] rfl rfl (by decide) (by decide) hk1 hFc hP1 hD1
  clear hP1 hK1 hD1 hk1 hFc
  generalize H1 = H at hP hS ⊢
  refine lv_icmp_eq (tgt := 775) hx hb dL_law_635 (by decide) (fun c_1 => ?_) (fun c_1 => absurd rfl c_1)
  exact kont _ _ _ _ _ _ _ _ _ _ _ _ _ _ _ _ _ _ hI hP hD hS
set_option maxHeartbeats 4000000 in
set_option maxRecDepth 100000 in
theorem law_best (C0 : lw_At p s m meth c b L xs) {XS : Nat → Nat → Nat → Int32} {YS : Nat → Nat → Nat → Int32} {SZ : Nat → Nat → Int32} {FO : Nat → Nat → Int32} {ke : Int32} {st : Nat → Int32} {im_ : Nat → Int32} {kp : Nat → Int32} {wx : Nat → Int32} {wy : Nat → Int32} {px : Nat → Int64} {py : Nat → Int64} {co : Int32} {lx : Nat → Int64} {ly : Nat → Int64} {lf : Int32} {H : Heap} {locs : List Loc} {ls : Array Slot} {x3 : Int32} (hI : Inv XS YS SZ FO ke st im_ kp) (h_1 : vp_in (x3 + (1 : Int32)) L) (h_2 : vp_in (x3 + (2 : Int32)) L) (hk : kD sA oA F gi) (hN : nw s) (hK : va_K (dC, dI) vwCl (tA cI cL cS cZ cJ) s) (hP : va_P (dC, dI) vwCl ((wD hd im sA lA oA xA yA cI cL cS F gi XS YS SZ FO ke) ++ (wM hm mA cI cZ cJ st im_ kp wx wy px py co lx ly lf)) H) (hD : va_D (fun q : Nat => s.heap.size ≤ q) ((wD hd im sA lA oA xA yA cI cL cS F gi XS YS SZ FO ke) ++ (wM hm mA cI cZ cJ st im_ kp wx wy px py co lx ly lf))) (hS : va_S (fun q : Nat => s.heap.size ≤ q) s.heap H locs) (hl : lv_has ls 4 [(0, .ref b), (1, .ref hd), (2, .ref hm), (3, .int x3)]) (kont : ∀ (XS : Nat → Nat → Nat → Int32) (YS : Nat → Nat → Nat → Int32) (SZ : Nat → Nat → Int32) (FO : Nat → Nat → Int32) (ke : Int32) (st : Nat → Int32) (im_ : Nat → Int32) (kp : Nat → Int32) (wx : Nat → Int32) (wy : Nat → Int32) (px : Nat → Int64) (py : Nat → Int64) (co : Int32) (lx : Nat → Int64) (ly : Nat → Int64) (lf : Int32) (H : Heap) (locs : List Loc), Inv XS YS SZ FO ke st im_ kp → va_P (dC, dI) vwCl ((wD hd im sA lA oA xA yA cI cL cS F gi XS YS SZ FO ke) ++ (wM hm mA cI cZ cJ st im_ kp wx wy px py co lx ly lf)) H → va_D (fun q : Nat => s.heap.size ≤ q) ((wD hd im sA lA oA xA yA cI cL cS F gi XS YS SZ FO ke) ++ (wM hm mA cI cZ cJ st im_ kp wx wy px py co lx ly lf)) → va_S (fun q : Nat => s.heap.size ≤ q) s.heap H locs → W p l e room_1 s m #[Value.ref b] below meth c H locs 600000 7302250 (lw_Z below #[Value.ref b] s) (F0 m 775 ls [])) : W p l e room_1 s m #[Value.ref b] below meth c H locs 600000 7302250 (lw_Z below #[Value.ref b] s) (F0 m 640 ls []) := by
  obtain ⟨hx, hb, hr, hml, hown, hts, hX, hbl, hlocks, hgv⟩ := C0
  have hA : ∀ q : Nat, s.heap.size ≤ q → (fun q : Nat => s.heap.size ≤ q) q := fun _ h => h
  have hbA : ¬ (fun q : Nat => s.heap.size ≤ q) b := Nat.not_le.mpr hbl
  have hts := fun w h => hts w (wsL_law_in w h)
  obtain ⟨i, r, pxM, pyM, coM, lxM, lyM, lfM, hp_0, hp_1, hp_2, hp_3⟩ := pp_best hI (xs (x3 + (1 : Int32)).toNatClampNeg) (xs (x3 + (2 : Int32)).toNatClampNeg) px py co lx ly lf
  refine lv_aload_n hx hb dL_law_640 rfl (lv_at hl 1 rfl) ?_
  refine lv_aload_n hx hb dL_law_641 rfl (lv_at hl 0 rfl) ?_
  refine lv_iload_n hx hb dL_law_642 rfl (lv_at hl 3 rfl) ?_
  refine lv_iconst (v := 1) hx hb dL_law_643 (by decide) ?_
  refine lv_iadd hx hb dL_law_644 ?_
  refine va_sld hx hb hX hbl hbA hS h_1 dL_law_645 ?_
  refine lv_aload_n hx hb dL_law_646 rfl (lv_at hl 0 rfl) ?_
  refine lv_iload_n hx hb dL_law_647 rfl (lv_at hl 3 rfl) ?_
  refine lv_iconst (v := 2) hx hb dL_law_648 (by decide) ?_
  refine lv_iadd hx hb dL_law_649 ?_
  refine va_sld hx hb hX hbl hbA hS h_2 dL_law_650 ?_
  have hKc := hK.sub (tys' := tD cI cL cS) [0, 1, 2] rfl
  have hPc := hP.sub (ws' := (wD hd im sA lA oA xA yA cI cL cS F gi XS YS SZ FO ke)) [0, 1, 2, 3, 4, 5, 6, 7, 8, 9, 10, 11, 12, 13, 14, 15, 16, 17, 18, 19, 20, 21, 22, 23, 24, 25, 26, 27, 28, 29, 30, 31, 32, 33, 34] rfl
  refine vp_callSi (W.runV (As := [.int (xs (x3 + (1 : Int32)).toNatClampNeg), .int (xs (x3 + (2 : Int32)).toNatClampNeg)]) (rest := []) ⟨hx, hb, hml, hown, hts⟩ (C_X2_best (F := F) (gi := gi) l dC dI (xs (x3 + (1 : Int32)).toNatClampNeg) (xs (x3 + (2 : Int32)).toNatClampNeg) i hp_0 hp_1 hk r hp_2) (cwV 2 hts gL_law_X2_best rfl rfl rfl (by decide +kernel) ⟨Nat.le_of_ble_eq_true rfl, Nat.le_of_ble_eq_true rfl⟩) ⟨fun a U g mk q => ⟨q.1, q.2.1, va_K.moved (u := U) (U := U.calling g mk a) (Vm.Alike.refl U.vm) q.2.2.1, nw_same rfl q.2.2.2⟩, va_recv hKc hPc (ci := 2) (q0 := 0) rfl rfl, fun U hU hW => ⟨rfl, by rw [hU]; exact hPc, va_K.moved hW.alike hKc, hN.warm hW⟩⟩ rfl rfl hl.1 rfl (lv_room (Nat.le_of_ble_eq_true rfl)) dL_law_651 ⟨Nat.le_of_ble_eq_true rfl, Nat.le_of_ble_eq_true rfl⟩) (fun r_ qr_ => ?_)
  obtain rfl := qr_.symm
  refine lv_aload_n hx hb dL_law_654 rfl (lv_at hl 2 rfl) ?_
  refine lv_aload_n hx hb dL_law_655 rfl (lv_at hl 0 rfl) ?_
  refine lv_iload_n hx hb dL_law_656 rfl (lv_at hl 3 rfl) ?_
  refine lv_iconst (v := 1) hx hb dL_law_657 (by decide) ?_
  refine lv_iadd hx hb dL_law_658 ?_
  refine va_sld hx hb hX hbl hbA hS h_1 dL_law_659 ?_
  refine lv_aload_n hx hb dL_law_660 rfl (lv_at hl 0 rfl) ?_
  refine lv_iload_n hx hb dL_law_661 rfl (lv_at hl 3 rfl) ?_
  refine lv_iconst (v := 2) hx hb dL_law_662 (by decide) ?_
  refine lv_iadd hx hb dL_law_663 ?_
  refine va_sld hx hb hX hbl hbA hS h_2 dL_law_664 ?_
  have hKc := hK.sub (tys' := [(cI, .int), (cZ, .boolean), (cJ, .long)]) [1, 3, 4] rfl
  have hPc := hP.sub (ws' := (wM hm mA cI cZ cJ st im_ kp wx wy px py co lx ly lf)) [35, 36, 37, 38, 39, 40, 41, 42, 43, 44] rfl
  have hDc := hD.sub (ws' := (wM hm mA cI cZ cJ st im_ kp wx wy px py co lx ly lf)) [35, 36, 37, 38, 39, 40, 41, 42, 43, 44] (by decide) rfl
  have hFc := va_free (wc := (wM hm mA cI cZ cJ st im_ kp wx wy px py co lx ly lf)) hD hS hA [35, 36, 37, 38, 39, 40, 41, 42, 43, 44] rfl
  refine va_calli (va_runV (As := [.int (xs (x3 + (1 : Int32)).toNatClampNeg), .int (xs (x3 + (2 : Int32)).toNatClampNeg)]) (rest := [.int r]) ⟨hx, hb, hml, hown, hts⟩ (c_X3_best l dC dI hm (mA 0) (mA 1) (mA 2) (mA 3) (mA 4) (mA 5) (mA 6) (mA 7) (mA 8) cI cZ cJ H.size st im_ kp wx wy px py co lx ly lf (xs (x3 + (1 : Int32)).toNatClampNeg) (xs (x3 + (2 : Int32)).toNatClampNeg) r pxM pyM coM lxM lyM lfM hp_3) (cwV 2 hts gL_law_X3_best rfl rfl rfl (by decide +kernel) ⟨Nat.le_of_ble_eq_true rfl, Nat.le_of_ble_eq_true rfl⟩) ⟨fun a U g mk q => ⟨q.1, q.2.1, q.2.2.1, va_K.moved (u := U) (U := U.calling g mk a) (Vm.Alike.refl U.vm) q.2.2.2.1, q.2.2.2.2⟩, va_recv hKc hPc (ci := 3) (q0 := 0) rfl rfl, fun U hU hW => ⟨rfl, by rw [hU], by rw [hU]; exact hPc, va_K.moved hW.alike hKc, hDc.weaken (fun _ _ _ _ => trivial)⟩⟩ rfl rfl hl.1 rfl (lv_room (Nat.le_of_ble_eq_true rfl)) dL_law_665 ⟨Nat.le_of_ble_eq_true rfl, Nat.le_of_ble_eq_true rfl⟩) hS (fun q _ h => hFc q h) hFc (fun r_ _ t H1 locs ht hvm hw hB hz1 hk1 hS => ?_)
  obtain ⟨hP1, hK1, hD1⟩ := hB
  rw [ht] at hP1
  obtain rfl := hw.symm
  obtain ⟨hP, hD⟩ := va_join (wr := (wD hd im sA lA oA xA yA cI cL cS F gi XS YS SZ FO ke)) (w1 := (wM hm mA cI cZ cJ st im_ kp wx wy pxM pyM coM lxM lyM lfM)) hP hD [35, 36, 37, 38, 39, 40, 41, 42, 43, 44] [0, 1, 2, 3, 4, 5, 6, 7, 8, 9, 10, 11, 12, 13, 14, 15, 16, 17, 18, 19, 20, 21, 22, 23, 24, 25, 26, 27, 28, 29, 30, 31, 32, 33, 34] rfl rfl (by decide) (by decide) hk1 hFc hP1 hD1
  clear hP1 hK1 hD1 hk1 hFc
  generalize H1 = H at hP hS ⊢
  refine lv_icmp_eq (tgt := 775) hx hb dL_law_668 (by decide) (fun c_1 => ?_) (fun c_1 => absurd rfl c_1)
  exact kont _ _ _ _ _ _ _ _ _ _ _ _ _ _ _ _ _ _ hI hP hD hS
end LAW2
