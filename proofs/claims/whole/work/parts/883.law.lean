section LAW3
variable {p : Program} {l : Launch} {e : Env} {s : State} {m : MethodId} {below : List Frame} {meth : Method} {c : Code} {dC : Nat → ClassId} {dI : Nat → Nat → Nat} {b L : Nat} {xs : Nat → Int32}
variable {hd im hm : Nat} {sA lA mA : Nat → Nat} {oA xA yA : Nat → Nat → Nat} {cI cL cS cZ cJ : ClassId} {F : Nat → Nat → Option Nat} {gi : Nat → Option Nat}
set_option maxHeartbeats 4000000 in
set_option maxRecDepth 100000 in
theorem law_same (C0 : lw_At p s m meth c b L xs) {XS : Nat → Nat → Nat → Int32} {YS : Nat → Nat → Nat → Int32} {SZ : Nat → Nat → Int32} {FO : Nat → Nat → Int32} {ke : Int32} {st : Nat → Int32} {im_ : Nat → Int32} {kp : Nat → Int32} {wx : Nat → Int32} {wy : Nat → Int32} {px : Nat → Int64} {py : Nat → Int64} {co : Int32} {lx : Nat → Int64} {ly : Nat → Int64} {lf : Int32} {H : Heap} {locs : List Loc} {ls : Array Slot} {x3 : Int32} (hI : Inv XS YS SZ FO ke st im_ kp) (h_1 : vp_in (x3 + (1 : Int32)) L) (h_2 : vp_in (x3 + (2 : Int32)) L) (hk : kD sA oA F gi) (hN : nw s) (hK : va_K (dC, dI) vwCl (tA cI cL cS cZ cJ) s) (hP : va_P (dC, dI) vwCl ((wD hd im sA lA oA xA yA cI cL cS F gi XS YS SZ FO ke) ++ (wM hm mA cI cZ cJ st im_ kp wx wy px py co lx ly lf)) H) (hD : va_D (fun q : Nat => s.heap.size ≤ q) ((wD hd im sA lA oA xA yA cI cL cS F gi XS YS SZ FO ke) ++ (wM hm mA cI cZ cJ st im_ kp wx wy px py co lx ly lf))) (hS : va_S (fun q : Nat => s.heap.size ≤ q) s.heap H locs) (hl : lv_has ls 4 [(0, .ref b), (1, .ref hd), (2, .ref hm), (3, .int x3)]) (kont : ∀ (XS : Nat → Nat → Nat → Int32) (YS : Nat → Nat → Nat → Int32) (SZ : Nat → Nat → Int32) (FO : Nat → Nat → Int32) (ke : Int32) (st : Nat → Int32) (im_ : Nat → Int32) (kp : Nat → Int32) (wx : Nat → Int32) (wy : Nat → Int32) (px : Nat → Int64) (py : Nat → Int64) (co : Int32) (lx : Nat → Int64) (ly : Nat → Int64) (lf : Int32) (H : Heap) (locs : List Loc), Inv XS YS SZ FO ke st im_ kp → va_P (dC, dI) vwCl ((wD hd im sA lA oA xA yA cI cL cS F gi XS YS SZ FO ke) ++ (wM hm mA cI cZ cJ st im_ kp wx wy px py co lx ly lf)) H → va_D (fun q : Nat => s.heap.size ≤ q) ((wD hd im sA lA oA xA yA cI cL cS F gi XS YS SZ FO ke) ++ (wM hm mA cI cZ cJ st im_ kp wx wy px py co lx ly lf)) → va_S (fun q : Nat => s.heap.size ≤ q) s.heap H locs → W p l e room_1 s m #[Value.ref b] below meth c H locs 600000 7302250 (lw_Z below #[Value.ref b] s) (F0 m 775 ls [])) : W p l e room_1 s m #[Value.ref b] below meth c H locs 600000 7302250 (lw_Z below #[Value.ref b] s) (F0 m 673 ls []) := by
  obtain ⟨hx, hb, hr, hml, hown, hts, hX, hbl, hlocks, hgv⟩ := C0
  have hA : ∀ q : Nat, s.heap.size ≤ q → (fun q : Nat => s.heap.size ≤ q) q := fun _ h => h
  have hbA : ¬ (fun q : Nat => s.heap.size ≤ q) b := Nat.not_le.mpr hbl
  have hts := fun w h => hts w (wsL_law_in w h)
  obtain ⟨i, j, r, pxM, pyM, coM, lxM, lyM, lfM, hp_0, hp_1, hp_2, hp_3, hp_4, hp_5⟩ := pp_same hI (xs (x3 + (1 : Int32)).toNatClampNeg) (xs (x3 + (2 : Int32)).toNatClampNeg) px py co lx ly lf
  refine lv_aload_n hx hb dL_law_673 rfl (lv_at hl 1 rfl) ?_
  refine lv_aload_n hx hb dL_law_674 rfl (lv_at hl 0 rfl) ?_
  refine lv_iload_n hx hb dL_law_675 rfl (lv_at hl 3 rfl) ?_
  refine lv_iconst (v := 1) hx hb dL_law_676 (by decide) ?_
  refine lv_iadd hx hb dL_law_677 ?_
  refine va_sld hx hb hX hbl hbA hS h_1 dL_law_678 ?_
  refine lv_aload_n hx hb dL_law_679 rfl (lv_at hl 0 rfl) ?_
  refine lv_iload_n hx hb dL_law_680 rfl (lv_at hl 3 rfl) ?_
  refine lv_iconst (v := 2) hx hb dL_law_681 (by decide) ?_
  refine lv_iadd hx hb dL_law_682 ?_
  refine va_sld hx hb hX hbl hbA hS h_2 dL_law_683 ?_
  have hKc := hK.sub (tys' := tD cI cL cS) [0, 1, 2] rfl
  have hPc := hP.sub (ws' := (wD hd im sA lA oA xA yA cI cL cS F gi XS YS SZ FO ke)) [0, 1, 2, 3, 4, 5, 6, 7, 8, 9, 10, 11, 12, 13, 14, 15, 16, 17, 18, 19, 20, 21, 22, 23, 24, 25, 26, 27, 28, 29, 30, 31, 32, 33, 34] rfl
  refine vp_callSi (W.runV (As := [.int (xs (x3 + (1 : Int32)).toNatClampNeg), .int (xs (x3 + (2 : Int32)).toNatClampNeg)]) (rest := []) ⟨hx, hb, hml, hown, hts⟩ (C_X2_same (F := F) (gi := gi) l dC dI (xs (x3 + (1 : Int32)).toNatClampNeg) (xs (x3 + (2 : Int32)).toNatClampNeg) i hp_0 hp_1 j hp_2 hp_3 hk r hp_4) (cwV 2 hts gL_law_X2_same rfl rfl rfl (by decide +kernel) ⟨Nat.le_of_ble_eq_true rfl, Nat.le_of_ble_eq_true rfl⟩) ⟨fun a U g mk q => ⟨q.1, q.2.1, va_K.moved (u := U) (U := U.calling g mk a) (Vm.Alike.refl U.vm) q.2.2.1, nw_same rfl q.2.2.2⟩, va_recv hKc hPc (ci := 2) (q0 := 0) rfl rfl, fun U hU hW => ⟨rfl, by rw [hU]; exact hPc, va_K.moved hW.alike hKc, hN.warm hW⟩⟩ rfl rfl hl.1 rfl (lv_room (Nat.le_of_ble_eq_true rfl)) dL_law_684 ⟨Nat.le_of_ble_eq_true rfl, Nat.le_of_ble_eq_true rfl⟩) (fun r_ qr_ => ?_)
  obtain rfl := qr_.symm
  refine lv_aload_n hx hb dL_law_687 rfl (lv_at hl 2 rfl) ?_
  refine lv_aload_n hx hb dL_law_688 rfl (lv_at hl 0 rfl) ?_
  refine lv_iload_n hx hb dL_law_689 rfl (lv_at hl 3 rfl) ?_
  refine lv_iconst (v := 1) hx hb dL_law_690 (by decide) ?_
  refine lv_iadd hx hb dL_law_691 ?_
  refine va_sld hx hb hX hbl hbA hS h_1 dL_law_692 ?_
  refine lv_aload_n hx hb dL_law_693 rfl (lv_at hl 0 rfl) ?_
  refine lv_iload_n hx hb dL_law_694 rfl (lv_at hl 3 rfl) ?_
  refine lv_iconst (v := 2) hx hb dL_law_695 (by decide) ?_
  refine lv_iadd hx hb dL_law_696 ?_
  refine va_sld hx hb hX hbl hbA hS h_2 dL_law_697 ?_
  have hKc := hK.sub (tys' := [(cI, .int), (cZ, .boolean), (cJ, .long)]) [1, 3, 4] rfl
  have hPc := hP.sub (ws' := (wM hm mA cI cZ cJ st im_ kp wx wy px py co lx ly lf)) [35, 36, 37, 38, 39, 40, 41, 42, 43, 44] rfl
  have hDc := hD.sub (ws' := (wM hm mA cI cZ cJ st im_ kp wx wy px py co lx ly lf)) [35, 36, 37, 38, 39, 40, 41, 42, 43, 44] (by decide) rfl
  have hFc := va_free (wc := (wM hm mA cI cZ cJ st im_ kp wx wy px py co lx ly lf)) hD hS hA [35, 36, 37, 38, 39, 40, 41, 42, 43, 44] rfl
  refine va_calli (va_runV (As := [.int (xs (x3 + (1 : Int32)).toNatClampNeg), .int (xs (x3 + (2 : Int32)).toNatClampNeg)]) (rest := [.int r]) ⟨hx, hb, hml, hown, hts⟩ (c_X3_same l dC dI hm (mA 0) (mA 1) (mA 2) (mA 3) (mA 4) (mA 5) (mA 6) (mA 7) (mA 8) cI cZ cJ H.size st im_ kp wx wy px py co lx ly lf (xs (x3 + (1 : Int32)).toNatClampNeg) (xs (x3 + (2 : Int32)).toNatClampNeg) r pxM pyM coM lxM lyM lfM hp_5) (cwV 2 hts gL_law_X3_same rfl rfl rfl (by decide +kernel) ⟨Nat.le_of_ble_eq_true rfl, Nat.le_of_ble_eq_true rfl⟩) ⟨fun a U g mk q => ⟨q.1, q.2.1, q.2.2.1, va_K.moved (u := U) (U := U.calling g mk a) (Vm.Alike.refl U.vm) q.2.2.2.1, q.2.2.2.2⟩, va_recv hKc hPc (ci := 3) (q0 := 0) rfl rfl, fun U hU hW => ⟨rfl, by rw [hU], by rw [hU]; exact hPc, va_K.moved hW.alike hKc, hDc.weaken (fun _ _ _ _ => trivial)⟩⟩ rfl rfl hl.1 rfl (lv_room (Nat.le_of_ble_eq_true rfl)) dL_law_698 ⟨Nat.le_of_ble_eq_true rfl, Nat.le_of_ble_eq_true rfl⟩) hS (fun q _ h => hFc q h) hFc (fun r_ _ t H1 locs ht hvm hw hB hz1 hk1 hS => ?_)
  obtain ⟨hP1, hK1, hD1⟩ := hB
  rw [ht] at hP1
  obtain rfl := hw.symm
  obtain ⟨hP, hD⟩ := va_join (wr := (wD hd im sA lA oA xA yA cI cL cS F gi XS YS SZ FO ke)) (w1 := (wM hm mA cI cZ cJ st im_ kp wx wy pxM pyM coM lxM lyM lfM)) hP hD [35, 36, 37, 38, 39, 40, 41, 42, 43, 44] [0, 1, 2, 3, 4, 5, 6, 7, 8, 9, 10, 11, 12, 13, 14, 15, 16, 17, 18, 19, 20, 21, 22, 23, 24, 25, 26, 27, 28, 29, 30, 31, 32, 33, 34] rfl rfl (by decide) (by decide) hk1 hFc hP1 hD1
  clear hP1 hK1 hD1 hk1 hFc
  generalize H1 = H at hP hS ⊢
  refine lv_icmp_eq (tgt := 775) hx hb dL_law_701 (by decide) (fun c_1 => ?_) (fun c_1 => absurd rfl c_1)
  exact kont _ _ _ _ _ _ _ _ _ _ _ _ _ _ _ _ _ _ hI hP hD hS
set_option maxHeartbeats 4000000 in
set_option maxRecDepth 100000 in
theorem law_image (C0 : lw_At p s m meth c b L xs) {XS : Nat → Nat → Nat → Int32} {YS : Nat → Nat → Nat → Int32} {SZ : Nat → Nat → Int32} {FO : Nat → Nat → Int32} {ke : Int32} {st : Nat → Int32} {im_ : Nat → Int32} {kp : Nat → Int32} {wx : Nat → Int32} {wy : Nat → Int32} {px : Nat → Int64} {py : Nat → Int64} {co : Int32} {lx : Nat → Int64} {ly : Nat → Int64} {lf : Int32} {H : Heap} {locs : List Loc} {ls : Array Slot} {x3 : Int32} (hI : Inv XS YS SZ FO ke st im_ kp) (h_1 : vp_in (x3 + (1 : Int32)) L) (hk : kD sA oA F gi) (hN : nw s) (hK : va_K (dC, dI) vwCl (tA cI cL cS cZ cJ) s) (hP : va_P (dC, dI) vwCl ((wD hd im sA lA oA xA yA cI cL cS F gi XS YS SZ FO ke) ++ (wM hm mA cI cZ cJ st im_ kp wx wy px py co lx ly lf)) H) (hD : va_D (fun q : Nat => s.heap.size ≤ q) ((wD hd im sA lA oA xA yA cI cL cS F gi XS YS SZ FO ke) ++ (wM hm mA cI cZ cJ st im_ kp wx wy px py co lx ly lf))) (hS : va_S (fun q : Nat => s.heap.size ≤ q) s.heap H locs) (hl : lv_has ls 4 [(0, .ref b), (1, .ref hd), (2, .ref hm), (3, .int x3)]) (kont : ∀ (XS : Nat → Nat → Nat → Int32) (YS : Nat → Nat → Nat → Int32) (SZ : Nat → Nat → Int32) (FO : Nat → Nat → Int32) (ke : Int32) (st : Nat → Int32) (im_ : Nat → Int32) (kp : Nat → Int32) (wx : Nat → Int32) (wy : Nat → Int32) (px : Nat → Int64) (py : Nat → Int64) (co : Int32) (lx : Nat → Int64) (ly : Nat → Int64) (lf : Int32) (H : Heap) (locs : List Loc), Inv XS YS SZ FO ke st im_ kp → va_P (dC, dI) vwCl ((wD hd im sA lA oA xA yA cI cL cS F gi XS YS SZ FO ke) ++ (wM hm mA cI cZ cJ st im_ kp wx wy px py co lx ly lf)) H → va_D (fun q : Nat => s.heap.size ≤ q) ((wD hd im sA lA oA xA yA cI cL cS F gi XS YS SZ FO ke) ++ (wM hm mA cI cZ cJ st im_ kp wx wy px py co lx ly lf)) → va_S (fun q : Nat => s.heap.size ≤ q) s.heap H locs → W p l e room_1 s m #[Value.ref b] below meth c H locs 600000 7302250 (lw_Z below #[Value.ref b] s) (F0 m 775 ls [])) : W p l e room_1 s m #[Value.ref b] below meth c H locs 600000 7302250 (lw_Z below #[Value.ref b] s) (F0 m 706 ls []) := by
  obtain ⟨hx, hb, hr, hml, hown, hts, hX, hbl, hlocks, hgv⟩ := C0
  have hA : ∀ q : Nat, s.heap.size ≤ q → (fun q : Nat => s.heap.size ≤ q) q := fun _ h => h
  have hbA : ¬ (fun q : Nat => s.heap.size ≤ q) b := Nat.not_le.mpr hbl
  have hts := fun w h => hts w (wsL_law_in w h)
  obtain ⟨i, r, keN, xs09N, ys09N, sz09N, fo09N, xs19N, ys19N, sz19N, fo19N, xs29N, ys29N, sz29N, fo29N, im_M, kpM, hp_0, hp_1, hp_2, hp_3, hp_4⟩ := pp_image hI (xs (x3 + (1 : Int32)).toNatClampNeg)
  refine lv_aload_n hx hb dL_law_706 rfl (lv_at hl 1 rfl) ?_
  refine lv_aload_n hx hb dL_law_707 rfl (lv_at hl 0 rfl) ?_
  refine lv_iload_n hx hb dL_law_708 rfl (lv_at hl 3 rfl) ?_
  refine lv_iconst (v := 1) hx hb dL_law_709 (by decide) ?_
  refine lv_iadd hx hb dL_law_710 ?_
  refine va_sld hx hb hX hbl hbA hS h_1 dL_law_711 ?_
  have hKc := hK.sub (tys' := tD cI cL cS) [0, 1, 2] rfl
  have hPc := hP.sub (ws' := (wD hd im sA lA oA xA yA cI cL cS F gi XS YS SZ FO ke)) [0, 1, 2, 3, 4, 5, 6, 7, 8, 9, 10, 11, 12, 13, 14, 15, 16, 17, 18, 19, 20, 21, 22, 23, 24, 25, 26, 27, 28, 29, 30, 31, 32, 33, 34] rfl
  have hDc := hD.sub (ws' := (wD hd im sA lA oA xA yA cI cL cS F gi XS YS SZ FO ke)) [0, 1, 2, 3, 4, 5, 6, 7, 8, 9, 10, 11, 12, 13, 14, 15, 16, 17, 18, 19, 20, 21, 22, 23, 24, 25, 26, 27, 28, 29, 30, 31, 32, 33, 34] (by decide) rfl
  have hFc := va_free (wc := (wD hd im sA lA oA xA yA cI cL cS F gi XS YS SZ FO ke)) hD hS hA [0, 1, 2, 3, 4, 5, 6, 7, 8, 9, 10, 11, 12, 13, 14, 15, 16, 17, 18, 19, 20, 21, 22, 23, 24, 25, 26, 27, 28, 29, 30, 31, 32, 33, 34] rfl
  refine va_calli (va_runV (As := [.int (xs (x3 + (1 : Int32)).toNatClampNeg)]) (rest := []) ⟨hx, hb, hml, hown, hts⟩ (C_X2_image (F := F) (gi := gi) l dC dI H.size (xs (x3 + (1 : Int32)).toNatClampNeg) i hp_0 hp_1 hk r keN xs09N ys09N sz09N fo09N xs19N ys19N sz19N fo19N xs29N ys29N sz29N fo29N hp_2) (cwV 1 hts gL_law_X2_image rfl rfl rfl (by decide +kernel) ⟨Nat.le_of_ble_eq_true rfl, Nat.le_of_ble_eq_true rfl⟩) ⟨fun a U g mk q => ⟨q.1, q.2.1, q.2.2.1, va_K.moved (u := U) (U := U.calling g mk a) (Vm.Alike.refl U.vm) q.2.2.2.1, q.2.2.2.2.1, nw_same rfl q.2.2.2.2.2⟩, va_recv hKc hPc (ci := 2) (q0 := 0) rfl rfl, fun U hU hW => ⟨rfl, by rw [hU], by rw [hU]; exact hPc, va_K.moved hW.alike hKc, hDc.weaken (fun _ _ _ _ => trivial), hN.warm hW⟩⟩ rfl rfl hl.1 rfl (lv_room (Nat.le_of_ble_eq_true rfl)) dL_law_712 ⟨Nat.le_of_ble_eq_true rfl, Nat.le_of_ble_eq_true rfl⟩) hS (fun q _ h => hFc q h) hFc (fun r_ _ t H1 locs ht hvm hw hB hz1 hk1 hS => ?_)
  obtain ⟨hP1, hD1⟩ := hB
  rw [ht] at hP1
  obtain rfl := hw.symm
  obtain ⟨hP, hD⟩ := va_join (wr := (wM hm mA cI cZ cJ st im_ kp wx wy px py co lx ly lf)) (w1 := (wD hd im sA lA oA xA yA cI cL cS F gi (up2 (up2 (up2 XS (i + 1) 0 xs09N) (i + 1) 1 xs19N) (i + 1) 2 xs29N) (up2 (up2 (up2 YS (i + 1) 0 ys09N) (i + 1) 1 ys19N) (i + 1) 2 ys29N) (up2 (up2 (up2 SZ (i + 1) 0 sz09N) (i + 1) 1 sz19N) (i + 1) 2 sz29N) (up2 (up2 (up2 FO (i + 1) 0 fo09N) (i + 1) 1 fo19N) (i + 1) 2 fo29N) keN)) hP hD [0, 1, 2, 3, 4, 5, 6, 7, 8, 9, 10, 11, 12, 13, 14, 15, 16, 17, 18, 19, 20, 21, 22, 23, 24, 25, 26, 27, 28, 29, 30, 31, 32, 33, 34] [35, 36, 37, 38, 39, 40, 41, 42, 43, 44] rfl rfl (by decide) (by decide) hk1 hFc hP1 hD1
  clear hP1 hD1 hk1 hFc hPc hDc
  generalize H1 = H at hP hS ⊢
  have hP := hP.sub (ws' := (wD hd im sA lA oA xA yA cI cL cS F gi (up2 (up2 (up2 XS (i + 1) 0 xs09N) (i + 1) 1 xs19N) (i + 1) 2 xs29N) (up2 (up2 (up2 YS (i + 1) 0 ys09N) (i + 1) 1 ys19N) (i + 1) 2 ys29N) (up2 (up2 (up2 SZ (i + 1) 0 sz09N) (i + 1) 1 sz19N) (i + 1) 2 sz29N) (up2 (up2 (up2 FO (i + 1) 0 fo09N) (i + 1) 1 fo19N) (i + 1) 2 fo29N) keN) ++ (wM hm mA cI cZ cJ st im_ kp wx wy px py co lx ly lf)) [10, 11, 12, 13, 14, 15, 16, 17, 18, 19, 20, 21, 22, 23, 24, 25, 26, 27, 28, 29, 30, 31, 32, 33, 34, 35, 36, 37, 38, 39, 40, 41, 42, 43, 44, 0, 1, 2, 3, 4, 5, 6, 7, 8, 9] rfl
  have hD := hD.sub (ws' := (wD hd im sA lA oA xA yA cI cL cS F gi (up2 (up2 (up2 XS (i + 1) 0 xs09N) (i + 1) 1 xs19N) (i + 1) 2 xs29N) (up2 (up2 (up2 YS (i + 1) 0 ys09N) (i + 1) 1 ys19N) (i + 1) 2 ys29N) (up2 (up2 (up2 SZ (i + 1) 0 sz09N) (i + 1) 1 sz19N) (i + 1) 2 sz29N) (up2 (up2 (up2 FO (i + 1) 0 fo09N) (i + 1) 1 fo19N) (i + 1) 2 fo29N) keN) ++ (wM hm mA cI cZ cJ st im_ kp wx wy px py co lx ly lf)) [10, 11, 12, 13, 14, 15, 16, 17, 18, 19, 20, 21, 22, 23, 24, 25, 26, 27, 28, 29, 30, 31, 32, 33, 34, 35, 36, 37, 38, 39, 40, 41, 42, 43, 44, 0, 1, 2, 3, 4, 5, 6, 7, 8, 9] (by decide) rfl
  refine lv_aload_n hx hb dL_law_715 rfl (lv_at hl 2 rfl) ?_
  refine lv_aload_n hx hb dL_law_716 rfl (lv_at hl 0 rfl) ?_
  refine lv_iload_n hx hb dL_law_717 rfl (lv_at hl 3 rfl) ?_
  refine lv_iconst (v := 1) hx hb dL_law_718 (by decide) ?_
  refine lv_iadd hx hb dL_law_719 ?_
  refine va_sld hx hb hX hbl hbA hS h_1 dL_law_720 ?_
  have hKc := hK.sub (tys' := [(cI, .int), (cZ, .boolean), (cJ, .long)]) [1, 3, 4] rfl
  have hPc := hP.sub (ws' := (wM hm mA cI cZ cJ st im_ kp wx wy px py co lx ly lf)) [35, 36, 37, 38, 39, 40, 41, 42, 43, 44] rfl
  have hDc := hD.sub (ws' := (wM hm mA cI cZ cJ st im_ kp wx wy px py co lx ly lf)) [35, 36, 37, 38, 39, 40, 41, 42, 43, 44] (by decide) rfl
  have hFc := va_free (wc := (wM hm mA cI cZ cJ st im_ kp wx wy px py co lx ly lf)) hD hS hA [35, 36, 37, 38, 39, 40, 41, 42, 43, 44] rfl
  refine va_calli (va_runV (As := [.int (xs (x3 + (1 : Int32)).toNatClampNeg)]) (rest := [.int r]) ⟨hx, hb, hml, hown, hts⟩ (c_X3_image l dC dI hm (mA 0) (mA 1) (mA 2) (mA 3) (mA 4) (mA 5) (mA 6) (mA 7) (mA 8) cI cZ cJ H.size st im_ kp wx wy px py co lx ly lf (xs (x3 + (1 : Int32)).toNatClampNeg) r im_M kpM hp_3) (cwV 1 hts gL_law_X3_image rfl rfl rfl (by decide +kernel) ⟨Nat.le_of_ble_eq_true rfl, Nat.le_of_ble_eq_true rfl⟩) ⟨fun a U g mk q => ⟨q.1, q.2.1, q.2.2.1, va_K.moved (u := U) (U := U.calling g mk a) (Vm.Alike.refl U.vm) q.2.2.2.1, q.2.2.2.2⟩, va_recv hKc hPc (ci := 3) (q0 := 0) rfl rfl, fun U hU hW => ⟨rfl, by rw [hU], by rw [hU]; exact hPc, va_K.moved hW.alike hKc, hDc.weaken (fun _ _ _ _ => trivial)⟩⟩ rfl rfl hl.1 rfl (lv_room (Nat.le_of_ble_eq_true rfl)) dL_law_721 ⟨Nat.le_of_ble_eq_true rfl, Nat.le_of_ble_eq_true rfl⟩) hS (fun q _ h => hFc q h) hFc (fun r_ _ t H1 locs ht hvm hw hB hz1 hk1 hS => ?_)
  obtain ⟨hP1, hK1, hD1⟩ := hB
  rw [ht] at hP1
  obtain rfl := hw.symm
  obtain ⟨hP, hD⟩ := va_join (wr := (wD hd im sA lA oA xA yA cI cL cS F gi (up2 (up2 (up2 XS (i + 1) 0 xs09N) (i + 1) 1 xs19N) (i + 1) 2 xs29N) (up2 (up2 (up2 YS (i + 1) 0 ys09N) (i + 1) 1 ys19N) (i + 1) 2 ys29N) (up2 (up2 (up2 SZ (i + 1) 0 sz09N) (i + 1) 1 sz19N) (i + 1) 2 sz29N) (up2 (up2 (up2 FO (i + 1) 0 fo09N) (i + 1) 1 fo19N) (i + 1) 2 fo29N) keN)) (w1 := (wM hm mA cI cZ cJ st im_M kpM wx wy px py co lx ly lf)) hP hD [35, 36, 37, 38, 39, 40, 41, 42, 43, 44] [0, 1, 2, 3, 4, 5, 6, 7, 8, 9, 10, 11, 12, 13, 14, 15, 16, 17, 18, 19, 20, 21, 22, 23, 24, 25, 26, 27, 28, 29, 30, 31, 32, 33, 34] rfl rfl (by decide) (by decide) hk1 hFc hP1 hD1
  clear hP1 hK1 hD1 hk1 hFc
  generalize H1 = H at hP hS ⊢
  refine lv_icmp_eq (tgt := 775) hx hb dL_law_724 (by decide) (fun c_1 => ?_) (fun c_1 => absurd rfl c_1)
  exact kont _ _ _ _ _ _ _ _ _ _ _ _ _ _ _ _ _ _ hp_4 hP hD hS
set_option maxHeartbeats 4000000 in
set_option maxRecDepth 100000 in
theorem law_restore (C0 : lw_At p s m meth c b L xs) {XS : Nat → Nat → Nat → Int32} {YS : Nat → Nat → Nat → Int32} {SZ : Nat → Nat → Int32} {FO : Nat → Nat → Int32} {ke : Int32} {st : Nat → Int32} {im_ : Nat → Int32} {kp : Nat → Int32} {wx : Nat → Int32} {wy : Nat → Int32} {px : Nat → Int64} {py : Nat → Int64} {co : Int32} {lx : Nat → Int64} {ly : Nat → Int64} {lf : Int32} {H : Heap} {locs : List Loc} {ls : Array Slot} {x3 : Int32} (hI : Inv XS YS SZ FO ke st im_ kp) (h_1 : vp_in (x3 + (1 : Int32)) L) (hk : kD sA oA F gi) (hN : nw s) (hK : va_K (dC, dI) vwCl (tA cI cL cS cZ cJ) s) (hP : va_P (dC, dI) vwCl ((wD hd im sA lA oA xA yA cI cL cS F gi XS YS SZ FO ke) ++ (wM hm mA cI cZ cJ st im_ kp wx wy px py co lx ly lf)) H) (hD : va_D (fun q : Nat => s.heap.size ≤ q) ((wD hd im sA lA oA xA yA cI cL cS F gi XS YS SZ FO ke) ++ (wM hm mA cI cZ cJ st im_ kp wx wy px py co lx ly lf))) (hS : va_S (fun q : Nat => s.heap.size ≤ q) s.heap H locs) (hl : lv_has ls 4 [(0, .ref b), (1, .ref hd), (2, .ref hm), (3, .int x3)]) (kont : ∀ (XS : Nat → Nat → Nat → Int32) (YS : Nat → Nat → Nat → Int32) (SZ : Nat → Nat → Int32) (FO : Nat → Nat → Int32) (ke : Int32) (st : Nat → Int32) (im_ : Nat → Int32) (kp : Nat → Int32) (wx : Nat → Int32) (wy : Nat → Int32) (px : Nat → Int64) (py : Nat → Int64) (co : Int32) (lx : Nat → Int64) (ly : Nat → Int64) (lf : Int32) (H : Heap) (locs : List Loc), Inv XS YS SZ FO ke st im_ kp → va_P (dC, dI) vwCl ((wD hd im sA lA oA xA yA cI cL cS F gi XS YS SZ FO ke) ++ (wM hm mA cI cZ cJ st im_ kp wx wy px py co lx ly lf)) H → va_D (fun q : Nat => s.heap.size ≤ q) ((wD hd im sA lA oA xA yA cI cL cS F gi XS YS SZ FO ke) ++ (wM hm mA cI cZ cJ st im_ kp wx wy px py co lx ly lf)) → va_S (fun q : Nat => s.heap.size ≤ q) s.heap H locs → W p l e room_1 s m #[Value.ref b] below meth c H locs 600000 7302250 (lw_Z below #[Value.ref b] s) (F0 m 775 ls [])) : W p l e room_1 s m #[Value.ref b] below meth c H locs 600000 7302250 (lw_Z below #[Value.ref b] s) (F0 m 729 ls []) := by
  obtain ⟨hx, hb, hr, hml, hown, hts, hX, hbl, hlocks, hgv⟩ := C0
  have hA : ∀ q : Nat, s.heap.size ≤ q → (fun q : Nat => s.heap.size ≤ q) q := fun _ h => h
  have hbA : ¬ (fun q : Nat => s.heap.size ≤ q) b := Nat.not_le.mpr hbl
  have hts := fun w h => hts w (wsL_law_in w h)
  obtain ⟨i, r, xs0N, ys0N, sz0N, fo0N, xs1N, ys1N, sz1N, fo1N, xs2N, ys2N, sz2N, fo2N, stM, hp_0, hp_1, hp_2, hp_3, hp_4⟩ := pp_restore hI (xs (x3 + (1 : Int32)).toNatClampNeg)
  refine lv_aload_n hx hb dL_law_729 rfl (lv_at hl 1 rfl) ?_
  refine lv_aload_n hx hb dL_law_730 rfl (lv_at hl 0 rfl) ?_
  refine lv_iload_n hx hb dL_law_731 rfl (lv_at hl 3 rfl) ?_
  refine lv_iconst (v := 1) hx hb dL_law_732 (by decide) ?_
  refine lv_iadd hx hb dL_law_733 ?_
  refine va_sld hx hb hX hbl hbA hS h_1 dL_law_734 ?_
  have hKc := hK.sub (tys' := tD cI cL cS) [0, 1, 2] rfl
  have hPc := hP.sub (ws' := (wD hd im sA lA oA xA yA cI cL cS F gi XS YS SZ FO ke)) [0, 1, 2, 3, 4, 5, 6, 7, 8, 9, 10, 11, 12, 13, 14, 15, 16, 17, 18, 19, 20, 21, 22, 23, 24, 25, 26, 27, 28, 29, 30, 31, 32, 33, 34] rfl
  have hDc := hD.sub (ws' := (wD hd im sA lA oA xA yA cI cL cS F gi XS YS SZ FO ke)) [0, 1, 2, 3, 4, 5, 6, 7, 8, 9, 10, 11, 12, 13, 14, 15, 16, 17, 18, 19, 20, 21, 22, 23, 24, 25, 26, 27, 28, 29, 30, 31, 32, 33, 34] (by decide) rfl
  have hFc := va_free (wc := (wD hd im sA lA oA xA yA cI cL cS F gi XS YS SZ FO ke)) hD hS hA [0, 1, 2, 3, 4, 5, 6, 7, 8, 9, 10, 11, 12, 13, 14, 15, 16, 17, 18, 19, 20, 21, 22, 23, 24, 25, 26, 27, 28, 29, 30, 31, 32, 33, 34] rfl
  refine va_calli (va_runV (As := [.int (xs (x3 + (1 : Int32)).toNatClampNeg)]) (rest := []) ⟨hx, hb, hml, hown, hts⟩ (C_X2_restore (F := F) (gi := gi) l dC dI H.size (xs (x3 + (1 : Int32)).toNatClampNeg) i hp_0 hp_1 hk r xs0N ys0N sz0N fo0N xs1N ys1N sz1N fo1N xs2N ys2N sz2N fo2N hp_2) (cwV 1 hts gL_law_X2_restore rfl rfl rfl (by decide +kernel) ⟨Nat.le_of_ble_eq_true rfl, Nat.le_of_ble_eq_true rfl⟩) ⟨fun a U g mk q => ⟨q.1, q.2.1, q.2.2.1, va_K.moved (u := U) (U := U.calling g mk a) (Vm.Alike.refl U.vm) q.2.2.2.1, q.2.2.2.2.1, nw_same rfl q.2.2.2.2.2⟩, va_recv hKc hPc (ci := 2) (q0 := 0) rfl rfl, fun U hU hW => ⟨rfl, by rw [hU], by rw [hU]; exact hPc, va_K.moved hW.alike hKc, hDc.weaken (fun _ _ _ _ => trivial), hN.warm hW⟩⟩ rfl rfl hl.1 rfl (lv_room (Nat.le_of_ble_eq_true rfl)) dL_law_735 ⟨Nat.le_of_ble_eq_true rfl, Nat.le_of_ble_eq_true rfl⟩) hS (fun q _ h => hFc q h) hFc (fun r_ _ t H1 locs ht hvm hw hB hz1 hk1 hS => ?_)
  obtain ⟨hP1, hD1⟩ := hB
  rw [ht] at hP1
  obtain rfl := hw.symm
  obtain ⟨hP, hD⟩ := va_join (wr := (wM hm mA cI cZ cJ st im_ kp wx wy px py co lx ly lf)) (w1 := (wD hd im sA lA oA xA yA cI cL cS F gi (up2 (up2 (up2 XS 0 0 xs0N) 0 1 xs1N) 0 2 xs2N) (up2 (up2 (up2 YS 0 0 ys0N) 0 1 ys1N) 0 2 ys2N) (up2 (up2 (up2 SZ 0 0 sz0N) 0 1 sz1N) 0 2 sz2N) (up2 (up2 (up2 FO 0 0 fo0N) 0 1 fo1N) 0 2 fo2N) ke)) hP hD [0, 1, 2, 3, 4, 5, 6, 7, 8, 9, 10, 11, 12, 13, 14, 15, 16, 17, 18, 19, 20, 21, 22, 23, 24, 25, 26, 27, 28, 29, 30, 31, 32, 33, 34] [35, 36, 37, 38, 39, 40, 41, 42, 43, 44] rfl rfl (by decide) (by decide) hk1 hFc hP1 hD1
  clear hP1 hD1 hk1 hFc hPc hDc
  generalize H1 = H at hP hS ⊢
  have hP := hP.sub (ws' := (wD hd im sA lA oA xA yA cI cL cS F gi (up2 (up2 (up2 XS 0 0 xs0N) 0 1 xs1N) 0 2 xs2N) (up2 (up2 (up2 YS 0 0 ys0N) 0 1 ys1N) 0 2 ys2N) (up2 (up2 (up2 SZ 0 0 sz0N) 0 1 sz1N) 0 2 sz2N) (up2 (up2 (up2 FO 0 0 fo0N) 0 1 fo1N) 0 2 fo2N) ke) ++ (wM hm mA cI cZ cJ st im_ kp wx wy px py co lx ly lf)) [10, 11, 12, 13, 14, 15, 16, 17, 18, 19, 20, 21, 22, 23, 24, 25, 26, 27, 28, 29, 30, 31, 32, 33, 34, 35, 36, 37, 38, 39, 40, 41, 42, 43, 44, 0, 1, 2, 3, 4, 5, 6, 7, 8, 9] rfl
  have hD := hD.sub (ws' := (wD hd im sA lA oA xA yA cI cL cS F gi (up2 (up2 (up2 XS 0 0 xs0N) 0 1 xs1N) 0 2 xs2N) (up2 (up2 (up2 YS 0 0 ys0N) 0 1 ys1N) 0 2 ys2N) (up2 (up2 (up2 SZ 0 0 sz0N) 0 1 sz1N) 0 2 sz2N) (up2 (up2 (up2 FO 0 0 fo0N) 0 1 fo1N) 0 2 fo2N) ke) ++ (wM hm mA cI cZ cJ st im_ kp wx wy px py co lx ly lf)) [10, 11, 12, 13, 14, 15, 16, 17, 18, 19, 20, 21, 22, 23, 24, 25, 26, 27, 28, 29, 30, 31, 32, 33, 34, 35, 36, 37, 38, 39, 40, 41, 42, 43, 44, 0, 1, 2, 3, 4, 5, 6, 7, 8, 9] (by decide) rfl
  refine lv_aload_n hx hb dL_law_738 rfl (lv_at hl 2 rfl) ?_
  refine lv_aload_n hx hb dL_law_739 rfl (lv_at hl 0 rfl) ?_
  refine lv_iload_n hx hb dL_law_740 rfl (lv_at hl 3 rfl) ?_
  refine lv_iconst (v := 1) hx hb dL_law_741 (by decide) ?_
  refine lv_iadd hx hb dL_law_742 ?_
  refine va_sld hx hb hX hbl hbA hS h_1 dL_law_743 ?_
  have hKc := hK.sub (tys' := [(cI, .int), (cZ, .boolean), (cJ, .long)]) [1, 3, 4] rfl
  have hPc := hP.sub (ws' := (wM hm mA cI cZ cJ st im_ kp wx wy px py co lx ly lf)) [35, 36, 37, 38, 39, 40, 41, 42, 43, 44] rfl
  have hDc := hD.sub (ws' := (wM hm mA cI cZ cJ st im_ kp wx wy px py co lx ly lf)) [35, 36, 37, 38, 39, 40, 41, 42, 43, 44] (by decide) rfl
  have hFc := va_free (wc := (wM hm mA cI cZ cJ st im_ kp wx wy px py co lx ly lf)) hD hS hA [35, 36, 37, 38, 39, 40, 41, 42, 43, 44] rfl
  refine va_calli (va_runV (As := [.int (xs (x3 + (1 : Int32)).toNatClampNeg)]) (rest := [.int r]) ⟨hx, hb, hml, hown, hts⟩ (c_X3_restore l dC dI hm (mA 0) (mA 1) (mA 2) (mA 3) (mA 4) (mA 5) (mA 6) (mA 7) (mA 8) cI cZ cJ H.size st im_ kp wx wy px py co lx ly lf (xs (x3 + (1 : Int32)).toNatClampNeg) r stM hp_3) (cwV 1 hts gL_law_X3_restore rfl rfl rfl (by decide +kernel) ⟨Nat.le_of_ble_eq_true rfl, Nat.le_of_ble_eq_true rfl⟩) ⟨fun a U g mk q => ⟨q.1, q.2.1, q.2.2.1, va_K.moved (u := U) (U := U.calling g mk a) (Vm.Alike.refl U.vm) q.2.2.2.1, q.2.2.2.2⟩, va_recv hKc hPc (ci := 3) (q0 := 0) rfl rfl, fun U hU hW => ⟨rfl, by rw [hU], by rw [hU]; exact hPc, va_K.moved hW.alike hKc, hDc.weaken (fun _ _ _ _ => trivial)⟩⟩ rfl rfl hl.1 rfl (lv_room (Nat.le_of_ble_eq_true rfl)) dL_law_744 ⟨Nat.le_of_ble_eq_true rfl, Nat.le_of_ble_eq_true rfl⟩) hS (fun q _ h => hFc q h) hFc (fun r_ _ t H1 locs ht hvm hw hB hz1 hk1 hS => ?_)
  obtain ⟨hP1, hK1, hD1⟩ := hB
  rw [ht] at hP1
  obtain rfl := hw.symm
  obtain ⟨hP, hD⟩ := va_join (wr := (wD hd im sA lA oA xA yA cI cL cS F gi (up2 (up2 (up2 XS 0 0 xs0N) 0 1 xs1N) 0 2 xs2N) (up2 (up2 (up2 YS 0 0 ys0N) 0 1 ys1N) 0 2 ys2N) (up2 (up2 (up2 SZ 0 0 sz0N) 0 1 sz1N) 0 2 sz2N) (up2 (up2 (up2 FO 0 0 fo0N) 0 1 fo1N) 0 2 fo2N) ke)) (w1 := (wM hm mA cI cZ cJ stM im_ kp wx wy px py co lx ly lf)) hP hD [35, 36, 37, 38, 39, 40, 41, 42, 43, 44] [0, 1, 2, 3, 4, 5, 6, 7, 8, 9, 10, 11, 12, 13, 14, 15, 16, 17, 18, 19, 20, 21, 22, 23, 24, 25, 26, 27, 28, 29, 30, 31, 32, 33, 34] rfl rfl (by decide) (by decide) hk1 hFc hP1 hD1
  clear hP1 hK1 hD1 hk1 hFc
  generalize H1 = H at hP hS ⊢
  refine lv_icmp_eq (tgt := 775) hx hb dL_law_747 (by decide) (fun c_1 => ?_) (fun c_1 => absurd rfl c_1)
  exact kont _ _ _ _ _ _ _ _ _ _ _ _ _ _ _ _ _ _ hp_4 hP hD hS
set_option maxHeartbeats 4000000 in
set_option maxRecDepth 100000 in
theorem law_count (C0 : lw_At p s m meth c b L xs) {XS : Nat → Nat → Nat → Int32} {YS : Nat → Nat → Nat → Int32} {SZ : Nat → Nat → Int32} {FO : Nat → Nat → Int32} {ke : Int32} {st : Nat → Int32} {im_ : Nat → Int32} {kp : Nat → Int32} {wx : Nat → Int32} {wy : Nat → Int32} {px : Nat → Int64} {py : Nat → Int64} {co : Int32} {lx : Nat → Int64} {ly : Nat → Int64} {lf : Int32} {H : Heap} {locs : List Loc} {ls : Array Slot} {x3 : Int32} (hI : Inv XS YS SZ FO ke st im_ kp) (h_1 : vp_in (x3 + (1 : Int32)) L) (hk : kD sA oA F gi) (hN : nw s) (hK : va_K (dC, dI) vwCl (tA cI cL cS cZ cJ) s) (hP : va_P (dC, dI) vwCl ((wD hd im sA lA oA xA yA cI cL cS F gi XS YS SZ FO ke) ++ (wM hm mA cI cZ cJ st im_ kp wx wy px py co lx ly lf)) H) (hD : va_D (fun q : Nat => s.heap.size ≤ q) ((wD hd im sA lA oA xA yA cI cL cS F gi XS YS SZ FO ke) ++ (wM hm mA cI cZ cJ st im_ kp wx wy px py co lx ly lf))) (hS : va_S (fun q : Nat => s.heap.size ≤ q) s.heap H locs) (hl : lv_has ls 4 [(0, .ref b), (1, .ref hd), (2, .ref hm), (3, .int x3)]) (kont : ∀ (XS : Nat → Nat → Nat → Int32) (YS : Nat → Nat → Nat → Int32) (SZ : Nat → Nat → Int32) (FO : Nat → Nat → Int32) (ke : Int32) (st : Nat → Int32) (im_ : Nat → Int32) (kp : Nat → Int32) (wx : Nat → Int32) (wy : Nat → Int32) (px : Nat → Int64) (py : Nat → Int64) (co : Int32) (lx : Nat → Int64) (ly : Nat → Int64) (lf : Int32) (H : Heap) (locs : List Loc), Inv XS YS SZ FO ke st im_ kp → va_P (dC, dI) vwCl ((wD hd im sA lA oA xA yA cI cL cS F gi XS YS SZ FO ke) ++ (wM hm mA cI cZ cJ st im_ kp wx wy px py co lx ly lf)) H → va_D (fun q : Nat => s.heap.size ≤ q) ((wD hd im sA lA oA xA yA cI cL cS F gi XS YS SZ FO ke) ++ (wM hm mA cI cZ cJ st im_ kp wx wy px py co lx ly lf)) → va_S (fun q : Nat => s.heap.size ≤ q) s.heap H locs → W p l e room_1 s m #[Value.ref b] below meth c H locs 600000 7302250 (lw_Z below #[Value.ref b] s) (F0 m 775 ls [])) : W p l e room_1 s m #[Value.ref b] below meth c H locs 600000 7302250 (lw_Z below #[Value.ref b] s) (F0 m 752 ls []) := by
  obtain ⟨hx, hb, hr, hml, hown, hts, hX, hbl, hlocks, hgv⟩ := C0
  have hA : ∀ q : Nat, s.heap.size ≤ q → (fun q : Nat => s.heap.size ≤ q) q := fun _ h => h
  have hbA : ¬ (fun q : Nat => s.heap.size ≤ q) b := Nat.not_le.mpr hbl
  have hts := fun w h => hts w (wsL_law_in w h)
  obtain ⟨i, j, r, hp_0, hp_1, hp_2, hp_3, hp_4, hp_5⟩ := pp_count hI (xs (x3 + (1 : Int32)).toNatClampNeg)
  refine lv_aload_n hx hb dL_law_752 rfl (lv_at hl 1 rfl) ?_
  refine lv_aload_n hx hb dL_law_753 rfl (lv_at hl 0 rfl) ?_
  refine lv_iload_n hx hb dL_law_754 rfl (lv_at hl 3 rfl) ?_
  refine lv_iconst (v := 1) hx hb dL_law_755 (by decide) ?_
  refine lv_iadd hx hb dL_law_756 ?_
  refine va_sld hx hb hX hbl hbA hS h_1 dL_law_757 ?_
  have hKc := hK.sub (tys' := tD cI cL cS) [0, 1, 2] rfl
  have hPc := hP.sub (ws' := (wD hd im sA lA oA xA yA cI cL cS F gi XS YS SZ FO ke)) [0, 1, 2, 3, 4, 5, 6, 7, 8, 9, 10, 11, 12, 13, 14, 15, 16, 17, 18, 19, 20, 21, 22, 23, 24, 25, 26, 27, 28, 29, 30, 31, 32, 33, 34] rfl
  refine vp_callSi (W.runV (As := [.int (xs (x3 + (1 : Int32)).toNatClampNeg)]) (rest := []) ⟨hx, hb, hml, hown, hts⟩ (C_X2_count (F := F) (gi := gi) l dC dI (xs (x3 + (1 : Int32)).toNatClampNeg) i hp_0 hp_1 j hp_2 hp_3 hk r hp_4) (cwV 1 hts gL_law_X2_count rfl rfl rfl (by decide +kernel) ⟨Nat.le_of_ble_eq_true rfl, Nat.le_of_ble_eq_true rfl⟩) ⟨fun a U g mk q => ⟨q.1, q.2.1, va_K.moved (u := U) (U := U.calling g mk a) (Vm.Alike.refl U.vm) q.2.2.1, nw_same rfl q.2.2.2⟩, va_recv hKc hPc (ci := 2) (q0 := 0) rfl rfl, fun U hU hW => ⟨rfl, by rw [hU]; exact hPc, va_K.moved hW.alike hKc, hN.warm hW⟩⟩ rfl rfl hl.1 rfl (lv_room (Nat.le_of_ble_eq_true rfl)) dL_law_758 ⟨Nat.le_of_ble_eq_true rfl, Nat.le_of_ble_eq_true rfl⟩) (fun r_ qr_ => ?_)
  obtain rfl := qr_.symm
  refine lv_aload_n hx hb dL_law_761 rfl (lv_at hl 2 rfl) ?_
  refine lv_aload_n hx hb dL_law_762 rfl (lv_at hl 0 rfl) ?_
  refine lv_iload_n hx hb dL_law_763 rfl (lv_at hl 3 rfl) ?_
  refine lv_iconst (v := 1) hx hb dL_law_764 (by decide) ?_
  refine lv_iadd hx hb dL_law_765 ?_
  refine va_sld hx hb hX hbl hbA hS h_1 dL_law_766 ?_
  have hKc := hK.sub (tys' := [(cI, .int), (cZ, .boolean), (cJ, .long)]) [1, 3, 4] rfl
  have hPc := hP.sub (ws' := (wM hm mA cI cZ cJ st im_ kp wx wy px py co lx ly lf)) [35, 36, 37, 38, 39, 40, 41, 42, 43, 44] rfl
  refine vp_callSi (W.runV (As := [.int (xs (x3 + (1 : Int32)).toNatClampNeg)]) (rest := [.int r]) ⟨hx, hb, hml, hown, hts⟩ (c_X3_count l dC dI hm (mA 0) (mA 1) (mA 2) (mA 3) (mA 4) (mA 5) (mA 6) (mA 7) (mA 8) cI cZ cJ st im_ kp wx wy px py co lx ly lf (xs (x3 + (1 : Int32)).toNatClampNeg) r hp_5) (cwV 1 hts gL_law_X3_count rfl rfl rfl (by decide +kernel) ⟨Nat.le_of_ble_eq_true rfl, Nat.le_of_ble_eq_true rfl⟩) ⟨fun a U g mk q => ⟨q.1, q.2.1, va_K.moved (u := U) (U := U.calling g mk a) (Vm.Alike.refl U.vm) q.2.2⟩, va_recv hKc hPc (ci := 3) (q0 := 0) rfl rfl, fun U hU hW => ⟨rfl, by rw [hU]; exact hPc, va_K.moved hW.alike hKc⟩⟩ rfl rfl hl.1 rfl (lv_room (Nat.le_of_ble_eq_true rfl)) dL_law_767 ⟨Nat.le_of_ble_eq_true rfl, Nat.le_of_ble_eq_true rfl⟩) (fun r_ qr_ => ?_)
  obtain rfl := qr_.symm
  refine lv_icmp_eq (tgt := 775) hx hb dL_law_770 (by decide) (fun c_1 => ?_) (fun c_1 => absurd rfl c_1)
  exact kont _ _ _ _ _ _ _ _ _ _ _ _ _ _ _ _ _ _ hI hP hD hS
end LAW3
