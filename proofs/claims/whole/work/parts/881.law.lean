section LAW1
variable {p : Program} {l : Launch} {e : Env} {s : State} {m : MethodId} {below : List Frame} {meth : Method} {c : Code} {dC : Nat → ClassId} {dI : Nat → Nat → Nat} {b L : Nat} {xs : Nat → Int32}
variable {hd im hm : Nat} {sA lA mA : Nat → Nat} {oA xA yA : Nat → Nat → Nat} {cI cL cS cZ cJ : ClassId} {F : Nat → Nat → Option Nat} {gi : Nat → Option Nat}
set_option maxHeartbeats 4000000 in
set_option maxRecDepth 100000 in
theorem law_back (C0 : lw_At p s m meth c b L xs) {XS : Nat → Nat → Nat → Int32} {YS : Nat → Nat → Nat → Int32} {SZ : Nat → Nat → Int32} {FO : Nat → Nat → Int32} {ke : Int32} {st : Nat → Int32} {im_ : Nat → Int32} {kp : Nat → Int32} {wx : Nat → Int32} {wy : Nat → Int32} {px : Nat → Int64} {py : Nat → Int64} {co : Int32} {lx : Nat → Int64} {ly : Nat → Int64} {lf : Int32} {H : Heap} {locs : List Loc} {ls : Array Slot} {x3 : Int32} (hI : Inv XS YS SZ FO ke st im_ kp) (h_1 : vp_in (x3 + (1 : Int32)) L) (hk : kD sA oA F gi) (hN : nw s) (hK : va_K (dC, dI) vwCl (tA cI cL cS cZ cJ) s) (hP : va_P (dC, dI) vwCl ((wD hd im sA lA oA xA yA cI cL cS F gi XS YS SZ FO ke) ++ (wM hm mA cI cZ cJ st im_ kp wx wy px py co lx ly lf)) H) (hD : va_D (fun q : Nat => s.heap.size ≤ q) ((wD hd im sA lA oA xA yA cI cL cS F gi XS YS SZ FO ke) ++ (wM hm mA cI cZ cJ st im_ kp wx wy px py co lx ly lf))) (hS : va_S (fun q : Nat => s.heap.size ≤ q) s.heap H locs) (hl : lv_has ls 4 [(0, .ref b), (1, .ref hd), (2, .ref hm), (3, .int x3)]) (kont : ∀ (XS : Nat → Nat → Nat → Int32) (YS : Nat → Nat → Nat → Int32) (SZ : Nat → Nat → Int32) (FO : Nat → Nat → Int32) (ke : Int32) (st : Nat → Int32) (im_ : Nat → Int32) (kp : Nat → Int32) (wx : Nat → Int32) (wy : Nat → Int32) (px : Nat → Int64) (py : Nat → Int64) (co : Int32) (lx : Nat → Int64) (ly : Nat → Int64) (lf : Int32) (H : Heap) (locs : List Loc), Inv XS YS SZ FO ke st im_ kp → va_P (dC, dI) vwCl ((wD hd im sA lA oA xA yA cI cL cS F gi XS YS SZ FO ke) ++ (wM hm mA cI cZ cJ st im_ kp wx wy px py co lx ly lf)) H → va_D (fun q : Nat => s.heap.size ≤ q) ((wD hd im sA lA oA xA yA cI cL cS F gi XS YS SZ FO ke) ++ (wM hm mA cI cZ cJ st im_ kp wx wy px py co lx ly lf)) → va_S (fun q : Nat => s.heap.size ≤ q) s.heap H locs → W p l e room_1 s m #[Value.ref b] below meth c H locs 600000 7302250 (lw_Z below #[Value.ref b] s) (F0 m 775 ls [])) : W p l e room_1 s m #[Value.ref b] below meth c H locs 600000 7302250 (lw_Z below #[Value.ref b] s) (F0 m 319 ls []) := by
  obtain ⟨hx, hb, hr, hml, hown, hts, hX, hbl, hlocks, hgv⟩ := C0
  have hA : ∀ q : Nat, s.heap.size ≤ q → (fun q : Nat => s.heap.size ≤ q) q := fun _ h => h
  have hbA : ¬ (fun q : Nat => s.heap.size ≤ q) b := Nat.not_le.mpr hbl
  have hts := fun w h => hts w (wsL_law_in w h)
  obtain ⟨i, r, xsN, ysN, stM, wxM, wyM, hp_0, hp_1, hp_2, hp_3, hp_4⟩ := pp_back hI (xs (x3 + (1 : Int32)).toNatClampNeg) wx wy
  refine lv_aload_n hx hb dL_law_319 rfl (lv_at hl 1 rfl) ?_
  refine lv_aload_n hx hb dL_law_320 rfl (lv_at hl 0 rfl) ?_
  refine lv_iload_n hx hb dL_law_321 rfl (lv_at hl 3 rfl) ?_
  refine lv_iconst (v := 1) hx hb dL_law_322 (by decide) ?_
  refine lv_iadd hx hb dL_law_323 ?_
  refine va_sld hx hb hX hbl hbA hS h_1 dL_law_324 ?_
  have hKc := hK.sub (tys' := tD cI cL cS) [0, 1, 2] rfl
  have hPc := hP.sub (ws' := (wD hd im sA lA oA xA yA cI cL cS F gi XS YS SZ FO ke)) [0, 1, 2, 3, 4, 5, 6, 7, 8, 9, 10, 11, 12, 13, 14, 15, 16, 17, 18, 19, 20, 21, 22, 23, 24, 25, 26, 27, 28, 29, 30, 31, 32, 33, 34] rfl
  have hDc := hD.sub (ws' := (wD hd im sA lA oA xA yA cI cL cS F gi XS YS SZ FO ke)) [0, 1, 2, 3, 4, 5, 6, 7, 8, 9, 10, 11, 12, 13, 14, 15, 16, 17, 18, 19, 20, 21, 22, 23, 24, 25, 26, 27, 28, 29, 30, 31, 32, 33, 34] (by decide) rfl
  have hFc := va_free (wc := (wD hd im sA lA oA xA yA cI cL cS F gi XS YS SZ FO ke)) hD hS hA [0, 1, 2, 3, 4, 5, 6, 7, 8, 9, 10, 11, 12, 13, 14, 15, 16, 17, 18, 19, 20, 21, 22, 23, 24, 25, 26, 27, 28, 29, 30, 31, 32, 33, 34] rfl
  refine va_calli (va_runV (As := [.int (xs (x3 + (1 : Int32)).toNatClampNeg)]) (rest := []) ⟨hx, hb, hml, hown, hts⟩ (C_X2_back (F := F) (gi := gi) l dC dI H.size (xs (x3 + (1 : Int32)).toNatClampNeg) i hp_0 hp_1 hk r xsN ysN hp_2) (cwV 1 hts gL_law_X2_back rfl rfl rfl (by decide +kernel) ⟨Nat.le_of_ble_eq_true rfl, Nat.le_of_ble_eq_true rfl⟩) ⟨fun a U g mk q => ⟨q.1, q.2.1, q.2.2.1, va_K.moved (u := U) (U := U.calling g mk a) (Vm.Alike.refl U.vm) q.2.2.2.1, q.2.2.2.2.1, nw_same rfl q.2.2.2.2.2⟩, va_recv hKc hPc (ci := 2) (q0 := 0) rfl rfl, fun U hU hW => ⟨rfl, by rw [hU], by rw [hU]; exact hPc, va_K.moved hW.alike hKc, hDc.weaken (fun _ _ _ _ => trivial), hN.warm hW⟩⟩ rfl rfl hl.1 rfl (lv_room (Nat.le_of_ble_eq_true rfl)) dL_law_325 ⟨Nat.le_of_ble_eq_true rfl, Nat.le_of_ble_eq_true rfl⟩) hS (fun q _ h => hFc q h) hFc (fun r_ _ t H1 locs ht hvm hw hB hz1 hk1 hS => ?_)
  obtain ⟨hP1, hD1⟩ := hB
  rw [ht] at hP1
  obtain rfl := hw.symm
  obtain ⟨hP, hD⟩ := va_join (wr := (wM hm mA cI cZ cJ st im_ kp wx wy px py co lx ly lf)) (w1 := (wD hd im sA lA oA xA yA cI cL cS F gi (up2 XS 0 i xsN) (up2 YS 0 i ysN) SZ FO ke)) hP hD [0, 1, 2, 3, 4, 5, 6, 7, 8, 9, 10, 11, 12, 13, 14, 15, 16, 17, 18, 19, 20, 21, 22, 23, 24, 25, 26, 27, 28, 29, 30, 31, 32, 33, 34] [35, 36, 37, 38, 39, 40, 41, 42, 43, 44] rfl rfl (by decide) (by decide) hk1 hFc hP1 hD1
  clear hP1 hD1 hk1 hFc hPc hDc
  generalize H1 = H at hP hS ⊢
  have hP := hP.sub (ws' := (wD hd im sA lA oA xA yA cI cL cS F gi (up2 XS 0 i xsN) (up2 YS 0 i ysN) SZ FO ke) ++ (wM hm mA cI cZ cJ st im_ kp wx wy px py co lx ly lf)) [10, 11, 12, 13, 14, 15, 16, 17, 18, 19, 20, 21, 22, 23, 24, 25, 26, 27, 28, 29, 30, 31, 32, 33, 34, 35, 36, 37, 38, 39, 40, 41, 42, 43, 44, 0, 1, 2, 3, 4, 5, 6, 7, 8, 9] rfl
  have hD := hD.sub (ws' := (wD hd im sA lA oA xA yA cI cL cS F gi (up2 XS 0 i xsN) (up2 YS 0 i ysN) SZ FO ke) ++ (wM hm mA cI cZ cJ st im_ kp wx wy px py co lx ly lf)) [10, 11, 12, 13, 14, 15, 16, 17, 18, 19, 20, 21, 22, 23, 24, 25, 26, 27, 28, 29, 30, 31, 32, 33, 34, 35, 36, 37, 38, 39, 40, 41, 42, 43, 44, 0, 1, 2, 3, 4, 5, 6, 7, 8, 9] (by decide) rfl
  refine lv_aload_n hx hb dL_law_328 rfl (lv_at hl 2 rfl) ?_
  refine lv_aload_n hx hb dL_law_329 rfl (lv_at hl 0 rfl) ?_
  refine lv_iload_n hx hb dL_law_330 rfl (lv_at hl 3 rfl) ?_
  refine lv_iconst (v := 1) hx hb dL_law_331 (by decide) ?_
  refine lv_iadd hx hb dL_law_332 ?_
  refine va_sld hx hb hX hbl hbA hS h_1 dL_law_333 ?_
  have hKc := hK.sub (tys' := [(cI, .int), (cZ, .boolean), (cJ, .long)]) [1, 3, 4] rfl
  have hPc := hP.sub (ws' := (wM hm mA cI cZ cJ st im_ kp wx wy px py co lx ly lf)) [35, 36, 37, 38, 39, 40, 41, 42, 43, 44] rfl
  have hDc := hD.sub (ws' := (wM hm mA cI cZ cJ st im_ kp wx wy px py co lx ly lf)) [35, 36, 37, 38, 39, 40, 41, 42, 43, 44] (by decide) rfl
  have hFc := va_free (wc := (wM hm mA cI cZ cJ st im_ kp wx wy px py co lx ly lf)) hD hS hA [35, 36, 37, 38, 39, 40, 41, 42, 43, 44] rfl
  refine va_calli (va_runV (As := [.int (xs (x3 + (1 : Int32)).toNatClampNeg)]) (rest := [.int r]) ⟨hx, hb, hml, hown, hts⟩ (c_X3_back l dC dI hm (mA 0) (mA 1) (mA 2) (mA 3) (mA 4) (mA 5) (mA 6) (mA 7) (mA 8) cI cZ cJ H.size st im_ kp wx wy px py co lx ly lf (xs (x3 + (1 : Int32)).toNatClampNeg) r stM wxM wyM hp_3) (cwV 1 hts gL_law_X3_back rfl rfl rfl (by decide +kernel) ⟨Nat.le_of_ble_eq_true rfl, Nat.le_of_ble_eq_true rfl⟩) ⟨fun a U g mk q => ⟨q.1, q.2.1, q.2.2.1, va_K.moved (u := U) (U := U.calling g mk a) (Vm.Alike.refl U.vm) q.2.2.2.1, q.2.2.2.2⟩, va_recv hKc hPc (ci := 3) (q0 := 0) rfl rfl, fun U hU hW => ⟨rfl, by rw [hU], by rw [hU]; exact hPc, va_K.moved hW.alike hKc, hDc.weaken (fun _ _ _ _ => trivial)⟩⟩ rfl rfl hl.1 rfl (lv_room (Nat.le_of_ble_eq_true rfl)) dL_law_334 ⟨Nat.le_of_ble_eq_true rfl, Nat.le_of_ble_eq_true rfl⟩) hS (fun q _ h => hFc q h) hFc (fun r_ _ t H1 locs ht hvm hw hB hz1 hk1 hS => ?_)
  obtain ⟨hP1, hK1, hD1⟩ := hB
  rw [ht] at hP1
  obtain rfl := hw.symm
  obtain ⟨hP, hD⟩ := va_join (wr := (wD hd im sA lA oA xA yA cI cL cS F gi (up2 XS 0 i xsN) (up2 YS 0 i ysN) SZ FO ke)) (w1 := (wM hm mA cI cZ cJ stM im_ kp wxM wyM px py co lx ly lf)) hP hD [35, 36, 37, 38, 39, 40, 41, 42, 43, 44] [0, 1, 2, 3, 4, 5, 6, 7, 8, 9, 10, 11, 12, 13, 14, 15, 16, 17, 18, 19, 20, 21, 22, 23, 24, 25, 26, 27, 28, 29, 30, 31, 32, 33, 34] rfl rfl (by decide) (by decide) hk1 hFc hP1 hD1
  clear hP1 hK1 hD1 hk1 hFc
  generalize H1 = H at hP hS ⊢
  refine lv_icmp_eq (tgt := 775) hx hb dL_law_337 (by decide) (fun c_1 => ?_) (fun c_1 => absurd rfl c_1)
  exact kont _ _ _ _ _ _ _ _ _ _ _ _ _ _ _ _ _ _ hp_4 hP hD hS
set_option maxHeartbeats 4000000 in
set_option maxRecDepth 100000 in
theorem law_begin (C0 : lw_At p s m meth c b L xs) {XS : Nat → Nat → Nat → Int32} {YS : Nat → Nat → Nat → Int32} {SZ : Nat → Nat → Int32} {FO : Nat → Nat → Int32} {ke : Int32} {st : Nat → Int32} {im_ : Nat → Int32} {kp : Nat → Int32} {wx : Nat → Int32} {wy : Nat → Int32} {px : Nat → Int64} {py : Nat → Int64} {co : Int32} {lx : Nat → Int64} {ly : Nat → Int64} {lf : Int32} {H : Heap} {locs : List Loc} {ls : Array Slot} {x3 : Int32} (hI : Inv XS YS SZ FO ke st im_ kp) (h_1 : vp_in (x3 + (1 : Int32)) L) (h_2 : vp_in (x3 + (2 : Int32)) L) (hk : kD sA oA F gi) (hN : nw s) (hK : va_K (dC, dI) vwCl (tA cI cL cS cZ cJ) s) (hP : va_P (dC, dI) vwCl ((wD hd im sA lA oA xA yA cI cL cS F gi XS YS SZ FO ke) ++ (wM hm mA cI cZ cJ st im_ kp wx wy px py co lx ly lf)) H) (hD : va_D (fun q : Nat => s.heap.size ≤ q) ((wD hd im sA lA oA xA yA cI cL cS F gi XS YS SZ FO ke) ++ (wM hm mA cI cZ cJ st im_ kp wx wy px py co lx ly lf))) (hS : va_S (fun q : Nat => s.heap.size ≤ q) s.heap H locs) (hl : lv_has ls 4 [(0, .ref b), (1, .ref hd), (2, .ref hm), (3, .int x3)]) (kont : ∀ (XS : Nat → Nat → Nat → Int32) (YS : Nat → Nat → Nat → Int32) (SZ : Nat → Nat → Int32) (FO : Nat → Nat → Int32) (ke : Int32) (st : Nat → Int32) (im_ : Nat → Int32) (kp : Nat → Int32) (wx : Nat → Int32) (wy : Nat → Int32) (px : Nat → Int64) (py : Nat → Int64) (co : Int32) (lx : Nat → Int64) (ly : Nat → Int64) (lf : Int32) (H : Heap) (locs : List Loc), Inv XS YS SZ FO ke st im_ kp → va_P (dC, dI) vwCl ((wD hd im sA lA oA xA yA cI cL cS F gi XS YS SZ FO ke) ++ (wM hm mA cI cZ cJ st im_ kp wx wy px py co lx ly lf)) H → va_D (fun q : Nat => s.heap.size ≤ q) ((wD hd im sA lA oA xA yA cI cL cS F gi XS YS SZ FO ke) ++ (wM hm mA cI cZ cJ st im_ kp wx wy px py co lx ly lf)) → va_S (fun q : Nat => s.heap.size ≤ q) s.heap H locs → W p l e room_1 s m #[Value.ref b] below meth c H locs 600000 7302250 (lw_Z below #[Value.ref b] s) (F0 m 775 ls [])) : W p l e room_1 s m #[Value.ref b] below meth c H locs 600000 7302250 (lw_Z below #[Value.ref b] s) (F0 m 342 ls []) := by
  obtain ⟨hx, hb, hr, hml, hown, hts, hX, hbl, hlocks, hgv⟩ := C0
  have hA : ∀ q : Nat, s.heap.size ≤ q → (fun q : Nat => s.heap.size ≤ q) q := fun _ h => h
  have hbA : ¬ (fun q : Nat => s.heap.size ≤ q) b := Nat.not_le.mpr hbl
  have hts := fun w h => hts w (wsL_law_in w h)
  obtain ⟨i, r, xsN, ysN, stM, wxM, wyM, hp_0, hp_1, hp_2, hp_3, hp_4⟩ := pp_begin hI (xs (x3 + (1 : Int32)).toNatClampNeg) (xs (x3 + (2 : Int32)).toNatClampNeg) wx wy
  refine lv_aload_n hx hb dL_law_342 rfl (lv_at hl 1 rfl) ?_
  refine lv_aload_n hx hb dL_law_343 rfl (lv_at hl 0 rfl) ?_
  refine lv_iload_n hx hb dL_law_344 rfl (lv_at hl 3 rfl) ?_
  refine lv_iconst (v := 1) hx hb dL_law_345 (by decide) ?_
  refine lv_iadd hx hb dL_law_346 ?_
  refine va_sld hx hb hX hbl hbA hS h_1 dL_law_347 ?_
  refine lv_aload_n hx hb dL_law_348 rfl (lv_at hl 0 rfl) ?_
  refine lv_iload_n hx hb dL_law_349 rfl (lv_at hl 3 rfl) ?_
  refine lv_iconst (v := 2) hx hb dL_law_350 (by decide) ?_
  refine lv_iadd hx hb dL_law_351 ?_
  refine va_sld hx hb hX hbl hbA hS h_2 dL_law_352 ?_
  have hKc := hK.sub (tys' := tD cI cL cS) [0, 1, 2] rfl
  have hPc := hP.sub (ws' := (wD hd im sA lA oA xA yA cI cL cS F gi XS YS SZ FO ke)) [0, 1, 2, 3, 4, 5, 6, 7, 8, 9, 10, 11, 12, 13, 14, 15, 16, 17, 18, 19, 20, 21, 22, 23, 24, 25, 26, 27, 28, 29, 30, 31, 32, 33, 34] rfl
  have hDc := hD.sub (ws' := (wD hd im sA lA oA xA yA cI cL cS F gi XS YS SZ FO ke)) [0, 1, 2, 3, 4, 5, 6, 7, 8, 9, 10, 11, 12, 13, 14, 15, 16, 17, 18, 19, 20, 21, 22, 23, 24, 25, 26, 27, 28, 29, 30, 31, 32, 33, 34] (by decide) rfl
  have hFc := va_free (wc := (wD hd im sA lA oA xA yA cI cL cS F gi XS YS SZ FO ke)) hD hS hA [0, 1, 2, 3, 4, 5, 6, 7, 8, 9, 10, 11, 12, 13, 14, 15, 16, 17, 18, 19, 20, 21, 22, 23, 24, 25, 26, 27, 28, 29, 30, 31, 32, 33, 34] rfl
  refine va_calli (va_runV (As := [.int (xs (x3 + (1 : Int32)).toNatClampNeg), .int (xs (x3 + (2 : Int32)).toNatClampNeg)]) (rest := []) ⟨hx, hb, hml, hown, hts⟩ (C_X2_begin (F := F) (gi := gi) l dC dI H.size (xs (x3 + (1 : Int32)).toNatClampNeg) (xs (x3 + (2 : Int32)).toNatClampNeg) i hp_0 hp_1 hk r xsN ysN hp_2) (cwV 2 hts gL_law_X2_begin rfl rfl rfl (by decide +kernel) ⟨Nat.le_of_ble_eq_true rfl, Nat.le_of_ble_eq_true rfl⟩) ⟨fun a U g mk q => ⟨q.1, q.2.1, q.2.2.1, va_K.moved (u := U) (U := U.calling g mk a) (Vm.Alike.refl U.vm) q.2.2.2.1, q.2.2.2.2.1, nw_same rfl q.2.2.2.2.2⟩, va_recv hKc hPc (ci := 2) (q0 := 0) rfl rfl, fun U hU hW => ⟨rfl, by rw [hU], by rw [hU]; exact hPc, va_K.moved hW.alike hKc, hDc.weaken (fun _ _ _ _ => trivial), hN.warm hW⟩⟩ rfl rfl hl.1 rfl (lv_room (Nat.le_of_ble_eq_true rfl)) dL_law_353 ⟨Nat.le_of_ble_eq_true rfl, Nat.le_of_ble_eq_true rfl⟩) hS (fun q _ h => hFc q h) hFc (fun r_ _ t H1 locs ht hvm hw hB hz1 hk1 hS => ?_)
  obtain ⟨hP1, hD1⟩ := hB
  rw [ht] at hP1
  obtain rfl := hw.symm
  obtain ⟨hP, hD⟩ := va_join (wr := (wM hm mA cI cZ cJ st im_ kp wx wy px py co lx ly lf)) (w1 := (wD hd im sA lA oA xA yA cI cL cS F gi (up2 XS 0 i xsN) (up2 YS 0 i ysN) SZ FO ke)) hP hD [0, 1, 2, 3, 4, 5, 6, 7, 8, 9, 10, 11, 12, 13, 14, 15, 16, 17, 18, 19, 20, 21, 22, 23, 24, 25, 26, 27, 28, 29, 30, 31, 32, 33, 34] [35, 36, 37, 38, 39, 40, 41, 42, 43, 44] rfl rfl (by decide) (by decide) hk1 hFc hP1 hD1
  clear hP1 hD1 hk1 hFc hPc hDc
  generalize H1 = H at hP hS ⊢
  have hP := hP.sub (ws' := (wD hd im sA lA oA xA yA cI cL cS F gi (up2 XS 0 i xsN) (up2 YS 0 i ysN) SZ FO ke) ++ (wM hm mA cI cZ cJ st im_ kp wx wy px py co lx ly lf)) [10, 11, 12, 13, 14, 15, 16, 17, 18, 19, 20, 21, 22, 23, 24, 25, 26, 27, 28, 29, 30, 31, 32, 33, 34, 35, 36, 37, 38, 39, 40, 41, 42, 43, 44, 0, 1, 2, 3, 4, 5, 6, 7, 8, 9] rfl
  have hD := hD.sub (ws' := (wD hd im sA lA oA xA yA cI cL cS F gi (up2 XS 0 i xsN) (up2 YS 0 i ysN) SZ FO ke) ++ (wM hm mA cI cZ cJ st im_ kp wx wy px py co lx ly lf)) [10, 11, 12, 13, 14, 15, 16, 17, 18, 19, 20, 21, 22, 23, 24, 25, 26, 27, 28, 29, 30, 31, 32, 33, 34, 35, 36, 37, 38, 39, 40, 41, 42, 43, 44, 0, 1, 2, 3, 4, 5, 6, 7, 8, 9] (by decide) rfl
  refine lv_aload_n hx hb dL_law_356 rfl (lv_at hl 2 rfl) ?_
  refine lv_aload_n hx hb dL_law_357 rfl (lv_at hl 0 rfl) ?_
  refine lv_iload_n hx hb dL_law_358 rfl (lv_at hl 3 rfl) ?_
  refine lv_iconst (v := 1) hx hb dL_law_359 (by decide) ?_
  refine lv_iadd hx hb dL_law_360 ?_
  refine va_sld hx hb hX hbl hbA hS h_1 dL_law_361 ?_
  refine lv_aload_n hx hb dL_law_362 rfl (lv_at hl 0 rfl) ?_
  refine lv_iload_n hx hb dL_law_363 rfl (lv_at hl 3 rfl) ?_
  refine lv_iconst (v := 2) hx hb dL_law_364 (by decide) ?_
  refine lv_iadd hx hb dL_law_365 ?_
  refine va_sld hx hb hX hbl hbA hS h_2 dL_law_366 ?_
  have hKc := hK.sub (tys' := [(cI, .int), (cZ, .boolean), (cJ, .long)]) [1, 3, 4] rfl
  have hPc := hP.sub (ws' := (wM hm mA cI cZ cJ st im_ kp wx wy px py co lx ly lf)) [35, 36, 37, 38, 39, 40, 41, 42, 43, 44] rfl
  have hDc := hD.sub (ws' := (wM hm mA cI cZ cJ st im_ kp wx wy px py co lx ly lf)) [35, 36, 37, 38, 39, 40, 41, 42, 43, 44] (by decide) rfl
  have hFc := va_free (wc := (wM hm mA cI cZ cJ st im_ kp wx wy px py co lx ly lf)) hD hS hA [35, 36, 37, 38, 39, 40, 41, 42, 43, 44] rfl
  refine va_calli (va_runV (As := [.int (xs (x3 + (1 : Int32)).toNatClampNeg), .int (xs (x3 + (2 : Int32)).toNatClampNeg)]) (rest := [.int r]) ⟨hx, hb, hml, hown, hts⟩ (c_X3_begin l dC dI hm (mA 0) (mA 1) (mA 2) (mA 3) (mA 4) (mA 5) (mA 6) (mA 7) (mA 8) cI cZ cJ H.size st im_ kp wx wy px py co lx ly lf (xs (x3 + (1 : Int32)).toNatClampNeg) (xs (x3 + (2 : Int32)).toNatClampNeg) r stM wxM wyM hp_3) (cwV 2 hts gL_law_X3_begin rfl rfl rfl (by decide +kernel) ⟨Nat.le_of_ble_eq_true rfl, Nat.le_of_ble_eq_true rfl⟩) ⟨fun a U g mk q => ⟨q.1, q.2.1, q.2.2.1, va_K.moved (u := U) (U := U.calling g mk a) (Vm.Alike.refl U.vm) q.2.2.2.1, q.2.2.2.2⟩, va_recv hKc hPc (ci := 3) (q0 := 0) rfl rfl, fun U hU hW => ⟨rfl, by rw [hU], by rw [hU]; exact hPc, va_K.moved hW.alike hKc, hDc.weaken (fun _ _ _ _ => trivial)⟩⟩ rfl rfl hl.1 rfl (lv_room (Nat.le_of_ble_eq_true rfl)) dL_law_367 ⟨Nat.le_of_ble_eq_true rfl, Nat.le_of_ble_eq_true rfl⟩) hS (fun q _ h => hFc q h) hFc (fun r_ _ t H1 locs ht hvm hw hB hz1 hk1 hS => ?_)
  obtain ⟨hP1, hK1, hD1⟩ := hB
  rw [ht] at hP1
  obtain rfl := hw.symm
  obtain ⟨hP, hD⟩ := va_join (wr := (wD hd im sA lA oA xA yA cI cL cS F gi (up2 XS 0 i xsN) (up2 YS 0 i ysN) SZ FO ke)) (w1 := (wM hm mA cI cZ cJ stM im_ kp wxM wyM px py co lx ly lf)) hP hD [35, 36, 37, 38, 39, 40, 41, 42, 43, 44] [0, 1, 2, 3, 4, 5, 6, 7, 8, 9, 10, 11, 12, 13, 14, 15, 16, 17, 18, 19, 20, 21, 22, 23, 24, 25, 26, 27, 28, 29, 30, 31, 32, 33, 34] rfl rfl (by decide) (by decide) hk1 hFc hP1 hD1
  clear hP1 hK1 hD1 hk1 hFc
  generalize H1 = H at hP hS ⊢
  refine lv_icmp_eq (tgt := 775) hx hb dL_law_370 (by decide) (fun c_1 => ?_) (fun c_1 => absurd rfl c_1)
  exact kont _ _ _ _ _ _ _ _ _ _ _ _ _ _ _ _ _ _ hp_4 hP hD hS
set_option maxHeartbeats 4000000 in
set_option maxRecDepth 100000 in
theorem law_at (C0 : lw_At p s m meth c b L xs) {XS : Nat → Nat → Nat → Int32} {YS : Nat → Nat → Nat → Int32} {SZ : Nat → Nat → Int32} {FO : Nat → Nat → Int32} {ke : Int32} {st : Nat → Int32} {im_ : Nat → Int32} {kp : Nat → Int32} {wx : Nat → Int32} {wy : Nat → Int32} {px : Nat → Int64} {py : Nat → Int64} {co : Int32} {lx : Nat → Int64} {ly : Nat → Int64} {lf : Int32} {H : Heap} {locs : List Loc} {ls : Array Slot} {x3 : Int32} (hI : Inv XS YS SZ FO ke st im_ kp) (h_1 : vp_in (x3 + (1 : Int32)) L) (h_2 : vp_in (x3 + (2 : Int32)) L) (h_3 : vp_in (x3 + (3 : Int32)) L) (hk : kD sA oA F gi) (hN : nw s) (hK : va_K (dC, dI) vwCl (tA cI cL cS cZ cJ) s) (hP : va_P (dC, dI) vwCl ((wD hd im sA lA oA xA yA cI cL cS F gi XS YS SZ FO ke) ++ (wM hm mA cI cZ cJ st im_ kp wx wy px py co lx ly lf)) H) (hD : va_D (fun q : Nat => s.heap.size ≤ q) ((wD hd im sA lA oA xA yA cI cL cS F gi XS YS SZ FO ke) ++ (wM hm mA cI cZ cJ st im_ kp wx wy px py co lx ly lf))) (hS : va_S (fun q : Nat => s.heap.size ≤ q) s.heap H locs) (hl : lv_has ls 4 [(0, .ref b), (1, .ref hd), (2, .ref hm), (3, .int x3)]) (kont : ∀ (XS : Nat → Nat → Nat → Int32) (YS : Nat → Nat → Nat → Int32) (SZ : Nat → Nat → Int32) (FO : Nat → Nat → Int32) (ke : Int32) (st : Nat → Int32) (im_ : Nat → Int32) (kp : Nat → Int32) (wx : Nat → Int32) (wy : Nat → Int32) (px : Nat → Int64) (py : Nat → Int64) (co : Int32) (lx : Nat → Int64) (ly : Nat → Int64) (lf : Int32) (H : Heap) (locs : List Loc), Inv XS YS SZ FO ke st im_ kp → va_P (dC, dI) vwCl ((wD hd im sA lA oA xA yA cI cL cS F gi XS YS SZ FO ke) ++ (wM hm mA cI cZ cJ st im_ kp wx wy px py co lx ly lf)) H → va_D (fun q : Nat => s.heap.size ≤ q) ((wD hd im sA lA oA xA yA cI cL cS F gi XS YS SZ FO ke) ++ (wM hm mA cI cZ cJ st im_ kp wx wy px py co lx ly lf)) → va_S (fun q : Nat => s.heap.size ≤ q) s.heap H locs → W p l e room_1 s m #[Value.ref b] below meth c H locs 600000 7302250 (lw_Z below #[Value.ref b] s) (F0 m 775 ls [])) : W p l e room_1 s m #[Value.ref b] below meth c H locs 600000 7302250 (lw_Z below #[Value.ref b] s) (F0 m 375 ls []) := by
  obtain ⟨hx, hb, hr, hml, hown, hts, hX, hbl, hlocks, hgv⟩ := C0
  have hA : ∀ q : Nat, s.heap.size ≤ q → (fun q : Nat => s.heap.size ≤ q) q := fun _ h => h
  have hbA : ¬ (fun q : Nat => s.heap.size ≤ q) b := Nat.not_le.mpr hbl
  have hts := fun w h => hts w (wsL_law_in w h)
  obtain ⟨i, r, hp_0, hp_1, hp_2, hp_3⟩ := pp_at hI (xs (x3 + (1 : Int32)).toNatClampNeg) (xs (x3 + (2 : Int32)).toNatClampNeg) (xs (x3 + (3 : Int32)).toNatClampNeg)
  refine lv_aload_n hx hb dL_law_375 rfl (lv_at hl 1 rfl) ?_
  refine lv_aload_n hx hb dL_law_376 rfl (lv_at hl 0 rfl) ?_
  refine lv_iload_n hx hb dL_law_377 rfl (lv_at hl 3 rfl) ?_
  refine lv_iconst (v := 1) hx hb dL_law_378 (by decide) ?_
  refine lv_iadd hx hb dL_law_379 ?_
  refine va_sld hx hb hX hbl hbA hS h_1 dL_law_380 ?_
  refine lv_aload_n hx hb dL_law_381 rfl (lv_at hl 0 rfl) ?_
  refine lv_iload_n hx hb dL_law_382 rfl (lv_at hl 3 rfl) ?_
  refine lv_iconst (v := 2) hx hb dL_law_383 (by decide) ?_
  refine lv_iadd hx hb dL_law_384 ?_
  refine va_sld hx hb hX hbl hbA hS h_2 dL_law_385 ?_
  refine lv_aload_n hx hb dL_law_386 rfl (lv_at hl 0 rfl) ?_
  refine lv_iload_n hx hb dL_law_387 rfl (lv_at hl 3 rfl) ?_
  refine lv_iconst (v := 3) hx hb dL_law_388 (by decide) ?_
  refine lv_iadd hx hb dL_law_389 ?_
  refine va_sld hx hb hX hbl hbA hS h_3 dL_law_390 ?_
  have hKc := hK.sub (tys' := tD cI cL cS) [0, 1, 2] rfl
  have hPc := hP.sub (ws' := (wD hd im sA lA oA xA yA cI cL cS F gi XS YS SZ FO ke)) [0, 1, 2, 3, 4, 5, 6, 7, 8, 9, 10, 11, 12, 13, 14, 15, 16, 17, 18, 19, 20, 21, 22, 23, 24, 25, 26, 27, 28, 29, 30, 31, 32, 33, 34] rfl
  refine vp_callSi (W.runV (As := [.int (xs (x3 + (1 : Int32)).toNatClampNeg), .int (xs (x3 + (2 : Int32)).toNatClampNeg), .int (xs (x3 + (3 : Int32)).toNatClampNeg)]) (rest := []) ⟨hx, hb, hml, hown, hts⟩ (C_X2_at (F := F) (gi := gi) l dC dI (xs (x3 + (1 : Int32)).toNatClampNeg) (xs (x3 + (2 : Int32)).toNatClampNeg) (xs (x3 + (3 : Int32)).toNatClampNeg) i hp_0 hp_1 hk r hp_2) (cwV 3 hts gL_law_X2_at rfl rfl rfl (by decide +kernel) ⟨Nat.le_of_ble_eq_true rfl, Nat.le_of_ble_eq_true rfl⟩) ⟨fun a U g mk q => ⟨q.1, q.2.1, va_K.moved (u := U) (U := U.calling g mk a) (Vm.Alike.refl U.vm) q.2.2.1, nw_same rfl q.2.2.2⟩, va_recv hKc hPc (ci := 2) (q0 := 0) rfl rfl, fun U hU hW => ⟨rfl, by rw [hU]; exact hPc, va_K.moved hW.alike hKc, hN.warm hW⟩⟩ rfl rfl hl.1 rfl (lv_room (Nat.le_of_ble_eq_true rfl)) dL_law_391 ⟨Nat.le_of_ble_eq_true rfl, Nat.le_of_ble_eq_true rfl⟩) (fun r_ qr_ => ?_)
  obtain rfl := qr_.symm
  refine lv_aload_n hx hb dL_law_394 rfl (lv_at hl 2 rfl) ?_
  refine lv_aload_n hx hb dL_law_395 rfl (lv_at hl 0 rfl) ?_
  refine lv_iload_n hx hb dL_law_396 rfl (lv_at hl 3 rfl) ?_
  refine lv_iconst (v := 1) hx hb dL_law_397 (by decide) ?_
  refine lv_iadd hx hb dL_law_398 ?_
  refine va_sld hx hb hX hbl hbA hS h_1 dL_law_399 ?_
  refine lv_aload_n hx hb dL_law_400 rfl (lv_at hl 0 rfl) ?_
  refine lv_iload_n hx hb dL_law_401 rfl (lv_at hl 3 rfl) ?_
  refine lv_iconst (v := 2) hx hb dL_law_402 (by decide) ?_
  refine lv_iadd hx hb dL_law_403 ?_
  refine va_sld hx hb hX hbl hbA hS h_2 dL_law_404 ?_
  refine lv_aload_n hx hb dL_law_405 rfl (lv_at hl 0 rfl) ?_
  refine lv_iload_n hx hb dL_law_406 rfl (lv_at hl 3 rfl) ?_
  refine lv_iconst (v := 3) hx hb dL_law_407 (by decide) ?_
  refine lv_iadd hx hb dL_law_408 ?_
  refine va_sld hx hb hX hbl hbA hS h_3 dL_law_409 ?_
  have hKc := hK.sub (tys' := [(cI, .int), (cZ, .boolean), (cJ, .long)]) [1, 3, 4] rfl
  have hPc := hP.sub (ws' := (wM hm mA cI cZ cJ st im_ kp wx wy px py co lx ly lf)) [35, 36, 37, 38, 39, 40, 41, 42, 43, 44] rfl
  refine vp_callSi (W.runV (As := [.int (xs (x3 + (1 : Int32)).toNatClampNeg), .int (xs (x3 + (2 : Int32)).toNatClampNeg), .int (xs (x3 + (3 : Int32)).toNatClampNeg)]) (rest := [.int r]) ⟨hx, hb, hml, hown, hts⟩ (c_X3_at l dC dI hm (mA 0) (mA 1) (mA 2) (mA 3) (mA 4) (mA 5) (mA 6) (mA 7) (mA 8) cI cZ cJ st im_ kp wx wy px py co lx ly lf (xs (x3 + (1 : Int32)).toNatClampNeg) (xs (x3 + (2 : Int32)).toNatClampNeg) (xs (x3 + (3 : Int32)).toNatClampNeg) r hp_3) (cwV 3 hts gL_law_X3_at rfl rfl rfl (by decide +kernel) ⟨Nat.le_of_ble_eq_true rfl, Nat.le_of_ble_eq_true rfl⟩) ⟨fun a U g mk q => ⟨q.1, q.2.1, va_K.moved (u := U) (U := U.calling g mk a) (Vm.Alike.refl U.vm) q.2.2⟩, va_recv hKc hPc (ci := 3) (q0 := 0) rfl rfl, fun U hU hW => ⟨rfl, by rw [hU]; exact hPc, va_K.moved hW.alike hKc⟩⟩ rfl rfl hl.1 rfl (lv_room (Nat.le_of_ble_eq_true rfl)) dL_law_410 ⟨Nat.le_of_ble_eq_true rfl, Nat.le_of_ble_eq_true rfl⟩) (fun r_ qr_ => ?_)
  obtain rfl := qr_.symm
  refine lv_icmp_eq (tgt := 775) hx hb dL_law_413 (by decide) (fun c_1 => ?_) (fun c_1 => absurd rfl c_1)
  exact kont _ _ _ _ _ _ _ _ _ _ _ _ _ _ _ _ _ _ hI hP hD hS
set_option maxHeartbeats 4000000 in
set_option maxRecDepth 100000 in
theorem law_raw (C0 : lw_At p s m meth c b L xs) {XS : Nat → Nat → Nat → Int32} {YS : Nat → Nat → Nat → Int32} {SZ : Nat → Nat → Int32} {FO : Nat → Nat → Int32} {ke : Int32} {st : Nat → Int32} {im_ : Nat → Int32} {kp : Nat → Int32} {wx : Nat → Int32} {wy : Nat → Int32} {px : Nat → Int64} {py : Nat → Int64} {co : Int32} {lx : Nat → Int64} {ly : Nat → Int64} {lf : Int32} {H : Heap} {locs : List Loc} {ls : Array Slot} {x3 : Int32} (hI : Inv XS YS SZ FO ke st im_ kp) (h_1 : vp_in (x3 + (1 : Int32)) L) (h_2 : vp_in (x3 + (2 : Int32)) L) (h_3 : vp_in (x3 + (3 : Int32)) L) (hk : kD sA oA F gi) (hN : nw s) (hK : va_K (dC, dI) vwCl (tA cI cL cS cZ cJ) s) (hP : va_P (dC, dI) vwCl ((wD hd im sA lA oA xA yA cI cL cS F gi XS YS SZ FO ke) ++ (wM hm mA cI cZ cJ st im_ kp wx wy px py co lx ly lf)) H) (hD : va_D (fun q : Nat => s.heap.size ≤ q) ((wD hd im sA lA oA xA yA cI cL cS F gi XS YS SZ FO ke) ++ (wM hm mA cI cZ cJ st im_ kp wx wy px py co lx ly lf))) (hS : va_S (fun q : Nat => s.heap.size ≤ q) s.heap H locs) (hl : lv_has ls 4 [(0, .ref b), (1, .ref hd), (2, .ref hm), (3, .int x3)]) (kont : ∀ (XS : Nat → Nat → Nat → Int32) (YS : Nat → Nat → Nat → Int32) (SZ : Nat → Nat → Int32) (FO : Nat → Nat → Int32) (ke : Int32) (st : Nat → Int32) (im_ : Nat → Int32) (kp : Nat → Int32) (wx : Nat → Int32) (wy : Nat → Int32) (px : Nat → Int64) (py : Nat → Int64) (co : Int32) (lx : Nat → Int64) (ly : Nat → Int64) (lf : Int32) (H : Heap) (locs : List Loc), Inv XS YS SZ FO ke st im_ kp → va_P (dC, dI) vwCl ((wD hd im sA lA oA xA yA cI cL cS F gi XS YS SZ FO ke) ++ (wM hm mA cI cZ cJ st im_ kp wx wy px py co lx ly lf)) H → va_D (fun q : Nat => s.heap.size ≤ q) ((wD hd im sA lA oA xA yA cI cL cS F gi XS YS SZ FO ke) ++ (wM hm mA cI cZ cJ st im_ kp wx wy px py co lx ly lf)) → va_S (fun q : Nat => s.heap.size ≤ q) s.heap H locs → W p l e room_1 s m #[Value.ref b] below meth c H locs 600000 7302250 (lw_Z below #[Value.ref b] s) (F0 m 775 ls [])) : W p l e room_1 s m #[Value.ref b] below meth c H locs 600000 7302250 (lw_Z below #[Value.ref b] s) (F0 m 418 ls []) := by
  obtain ⟨hx, hb, hr, hml, hown, hts, hX, hbl, hlocks, hgv⟩ := C0
  have hA : ∀ q : Nat, s.heap.size ≤ q → (fun q : Nat => s.heap.size ≤ q) q := fun _ h => h
  have hbA : ¬ (fun q : Nat => s.heap.size ≤ q) b := Nat.not_le.mpr hbl
  have hts := fun w h => hts w (wsL_law_in w h)
  obtain ⟨i, r, pxM, pyM, coM, lxM, lyM, lfM, hp_0, hp_1, hp_2, hp_3⟩ := pp_raw hI (xs (x3 + (1 : Int32)).toNatClampNeg) (xs (x3 + (2 : Int32)).toNatClampNeg) (xs (x3 + (3 : Int32)).toNatClampNeg) px py co lx ly lf
  refine lv_aload_n hx hb dL_law_418 rfl (lv_at hl 1 rfl) ?_
  refine lv_aload_n hx hb dL_law_419 rfl (lv_at hl 0 rfl) ?_
  refine lv_iload_n hx hb dL_law_420 rfl (lv_at hl 3 rfl) ?_
  refine lv_iconst (v := 1) hx hb dL_law_421 (by decide) ?_
  refine lv_iadd hx hb dL_law_422 ?_
  refine va_sld hx hb hX hbl hbA hS h_1 dL_law_423 ?_
  refine lv_aload_n hx hb dL_law_424 rfl (lv_at hl 0 rfl) ?_
  refine lv_iload_n hx hb dL_law_425 rfl (lv_at hl 3 rfl) ?_
  refine lv_iconst (v := 2) hx hb dL_law_426 (by decide) ?_
  refine lv_iadd hx hb dL_law_427 ?_
  refine va_sld hx hb hX hbl hbA hS h_2 dL_law_428 ?_
  refine lv_aload_n hx hb dL_law_429 rfl (lv_at hl 0 rfl) ?_
  refine lv_iload_n hx hb dL_law_430 rfl (lv_at hl 3 rfl) ?_
  refine lv_iconst (v := 3) hx hb dL_law_431 (by decide) ?_
  refine lv_iadd hx hb dL_law_432 ?_
  refine va_sld hx hb hX hbl hbA hS h_3 dL_law_433 ?_
  have hKc := hK.sub (tys' := tD cI cL cS) [0, 1, 2] rfl
  have hPc := hP.sub (ws' := (wD hd im sA lA oA xA yA cI cL cS F gi XS YS SZ FO ke)) [0, 1, 2, 3, 4, 5, 6, 7, 8, 9, 10, 11, 12, 13, 14, 15, 16, 17, 18, 19, 20, 21, 22, 23, 24, 25, 26, 27, 28, 29, 30, 31, 32, 33, 34] rfl
  refine vp_callSl (W.runV (As := [.int (xs (x3 + (1 : Int32)).toNatClampNeg), .int (xs (x3 + (2 : Int32)).toNatClampNeg), .int (xs (x3 + (3 : Int32)).toNatClampNeg)]) (rest := []) ⟨hx, hb, hml, hown, hts⟩ (C_X2_raw (F := F) (gi := gi) l dC dI (xs (x3 + (1 : Int32)).toNatClampNeg) (xs (x3 + (2 : Int32)).toNatClampNeg) (xs (x3 + (3 : Int32)).toNatClampNeg) i hp_0 hp_1 hk r hp_2) (cwV 3 hts gL_law_X2_raw rfl rfl rfl (by decide +kernel) ⟨Nat.le_of_ble_eq_true rfl, Nat.le_of_ble_eq_true rfl⟩) ⟨fun a U g mk q => ⟨q.1, q.2.1, va_K.moved (u := U) (U := U.calling g mk a) (Vm.Alike.refl U.vm) q.2.2.1, nw_same rfl q.2.2.2⟩, va_recv hKc hPc (ci := 2) (q0 := 0) rfl rfl, fun U hU hW => ⟨rfl, by rw [hU]; exact hPc, va_K.moved hW.alike hKc, hN.warm hW⟩⟩ rfl rfl hl.1 rfl (lv_room (Nat.le_of_ble_eq_true rfl)) dL_law_434 ⟨Nat.le_of_ble_eq_true rfl, Nat.le_of_ble_eq_true rfl⟩) (fun r_ qr_ => ?_)
  obtain rfl := qr_.symm
  refine lv_aload_n hx hb dL_law_437 rfl (lv_at hl 2 rfl) ?_
  refine lv_aload_n hx hb dL_law_438 rfl (lv_at hl 0 rfl) ?_
  refine lv_iload_n hx hb dL_law_439 rfl (lv_at hl 3 rfl) ?_
  refine lv_iconst (v := 1) hx hb dL_law_440 (by decide) ?_
  refine lv_iadd hx hb dL_law_441 ?_
  refine va_sld hx hb hX hbl hbA hS h_1 dL_law_442 ?_
  refine lv_aload_n hx hb dL_law_443 rfl (lv_at hl 0 rfl) ?_
  refine lv_iload_n hx hb dL_law_444 rfl (lv_at hl 3 rfl) ?_
  refine lv_iconst (v := 2) hx hb dL_law_445 (by decide) ?_
  refine lv_iadd hx hb dL_law_446 ?_
  refine va_sld hx hb hX hbl hbA hS h_2 dL_law_447 ?_
  refine lv_aload_n hx hb dL_law_448 rfl (lv_at hl 0 rfl) ?_
  refine lv_iload_n hx hb dL_law_449 rfl (lv_at hl 3 rfl) ?_
  refine lv_iconst (v := 3) hx hb dL_law_450 (by decide) ?_
  refine lv_iadd hx hb dL_law_451 ?_
  refine va_sld hx hb hX hbl hbA hS h_3 dL_law_452 ?_
  have hKc := hK.sub (tys' := [(cI, .int), (cZ, .boolean), (cJ, .long)]) [1, 3, 4] rfl
  have hPc := hP.sub (ws' := (wM hm mA cI cZ cJ st im_ kp wx wy px py co lx ly lf)) [35, 36, 37, 38, 39, 40, 41, 42, 43, 44] rfl
  have hDc := hD.sub (ws' := (wM hm mA cI cZ cJ st im_ kp wx wy px py co lx ly lf)) [35, 36, 37, 38, 39, 40, 41, 42, 43, 44] (by decide) rfl
  have hFc := va_free (wc := (wM hm mA cI cZ cJ st im_ kp wx wy px py co lx ly lf)) hD hS hA [35, 36, 37, 38, 39, 40, 41, 42, 43, 44] rfl
  refine va_calll (va_runV (As := [.int (xs (x3 + (1 : Int32)).toNatClampNeg), .int (xs (x3 + (2 : Int32)).toNatClampNeg), .int (xs (x3 + (3 : Int32)).toNatClampNeg)]) (rest := [.long r]) ⟨hx, hb, hml, hown, hts⟩ (c_X3_raw l dC dI hm (mA 0) (mA 1) (mA 2) (mA 3) (mA 4) (mA 5) (mA 6) (mA 7) (mA 8) cI cZ cJ H.size st im_ kp wx wy px py co lx ly lf (xs (x3 + (1 : Int32)).toNatClampNeg) (xs (x3 + (2 : Int32)).toNatClampNeg) (xs (x3 + (3 : Int32)).toNatClampNeg) r pxM pyM coM lxM lyM lfM hp_3) (cwV 3 hts gL_law_X3_raw rfl rfl rfl (by decide +kernel) ⟨Nat.le_of_ble_eq_true rfl, Nat.le_of_ble_eq_true rfl⟩) ⟨fun a U g mk q => ⟨q.1, q.2.1, q.2.2.1, va_K.moved (u := U) (U := U.calling g mk a) (Vm.Alike.refl U.vm) q.2.2.2.1, q.2.2.2.2⟩, va_recv hKc hPc (ci := 3) (q0 := 0) rfl rfl, fun U hU hW => ⟨rfl, by rw [hU], by rw [hU]; exact hPc, va_K.moved hW.alike hKc, hDc.weaken (fun _ _ _ _ => trivial)⟩⟩ rfl rfl hl.1 rfl (lv_room (Nat.le_of_ble_eq_true rfl)) dL_law_453 ⟨Nat.le_of_ble_eq_true rfl, Nat.le_of_ble_eq_true rfl⟩) hS (fun q _ h => hFc q h) hFc (fun r_ _ t H1 locs ht hvm hw hB hz1 hk1 hS => ?_)
  obtain ⟨hP1, hK1, hD1⟩ := hB
  rw [ht] at hP1
  obtain rfl := hw.symm
  obtain ⟨hP, hD⟩ := va_join (wr := (wD hd im sA lA oA xA yA cI cL cS F gi XS YS SZ FO ke)) (w1 := (wM hm mA cI cZ cJ st im_ kp wx wy pxM pyM coM lxM lyM lfM)) hP hD [35, 36, 37, 38, 39, 40, 41, 42, 43, 44] [0, 1, 2, 3, 4, 5, 6, 7, 8, 9, 10, 11, 12, 13, 14, 15, 16, 17, 18, 19, 20, 21, 22, 23, 24, 25, 26, 27, 28, 29, 30, 31, 32, 33, 34] rfl rfl (by decide) (by decide) hk1 hFc hP1 hD1
  clear hP1 hK1 hD1 hk1 hFc
  generalize H1 = H at hP hS ⊢
  refine lc_eq (tgt := 775) hx hb dL_law_456 dL_law_457 (by decide) (fun c_1 => ?_) (fun c_1 => absurd rfl c_1)
  exact kont _ _ _ _ _ _ _ _ _ _ _ _ _ _ _ _ _ _ hI hP hD hS
set_option maxHeartbeats 4000000 in
set_option maxRecDepth 100000 in
theorem law_cover (C0 : lw_At p s m meth c b L xs) {XS : Nat → Nat → Nat → Int32} {YS : Nat → Nat → Nat → Int32} {SZ : Nat → Nat → Int32} {FO : Nat → Nat → Int32} {ke : Int32} {st : Nat → Int32} {im_ : Nat → Int32} {kp : Nat → Int32} {wx : Nat → Int32} {wy : Nat → Int32} {px : Nat → Int64} {py : Nat → Int64} {co : Int32} {lx : Nat → Int64} {ly : Nat → Int64} {lf : Int32} {H : Heap} {locs : List Loc} {ls : Array Slot} {x3 : Int32} (hI : Inv XS YS SZ FO ke st im_ kp) (h_1 : vp_in (x3 + (1 : Int32)) L) (h_2 : vp_in (x3 + (2 : Int32)) L) (h_3 : vp_in (x3 + (3 : Int32)) L) (hk : kD sA oA F gi) (hN : nw s) (hK : va_K (dC, dI) vwCl (tA cI cL cS cZ cJ) s) (hP : va_P (dC, dI) vwCl ((wD hd im sA lA oA xA yA cI cL cS F gi XS YS SZ FO ke) ++ (wM hm mA cI cZ cJ st im_ kp wx wy px py co lx ly lf)) H) (hD : va_D (fun q : Nat => s.heap.size ≤ q) ((wD hd im sA lA oA xA yA cI cL cS F gi XS YS SZ FO ke) ++ (wM hm mA cI cZ cJ st im_ kp wx wy px py co lx ly lf))) (hS : va_S (fun q : Nat => s.heap.size ≤ q) s.heap H locs) (hl : lv_has ls 4 [(0, .ref b), (1, .ref hd), (2, .ref hm), (3, .int x3)]) (kont : ∀ (XS : Nat → Nat → Nat → Int32) (YS : Nat → Nat → Nat → Int32) (SZ : Nat → Nat → Int32) (FO : Nat → Nat → Int32) (ke : Int32) (st : Nat → Int32) (im_ : Nat → Int32) (kp : Nat → Int32) (wx : Nat → Int32) (wy : Nat → Int32) (px : Nat → Int64) (py : Nat → Int64) (co : Int32) (lx : Nat → Int64) (ly : Nat → Int64) (lf : Int32) (H : Heap) (locs : List Loc), Inv XS YS SZ FO ke st im_ kp → va_P (dC, dI) vwCl ((wD hd im sA lA oA xA yA cI cL cS F gi XS YS SZ FO ke) ++ (wM hm mA cI cZ cJ st im_ kp wx wy px py co lx ly lf)) H → va_D (fun q : Nat => s.heap.size ≤ q) ((wD hd im sA lA oA xA yA cI cL cS F gi XS YS SZ FO ke) ++ (wM hm mA cI cZ cJ st im_ kp wx wy px py co lx ly lf)) → va_S (fun q : Nat => s.heap.size ≤ q) s.heap H locs → W p l e room_1 s m #[Value.ref b] below meth c H locs 600000 7302250 (lw_Z below #[Value.ref b] s) (F0 m 775 ls [])) : W p l e room_1 s m #[Value.ref b] below meth c H locs 600000 7302250 (lw_Z below #[Value.ref b] s) (F0 m 462 ls []) := by
  obtain ⟨hx, hb, hr, hml, hown, hts, hX, hbl, hlocks, hgv⟩ := C0
  have hA : ∀ q : Nat, s.heap.size ≤ q → (fun q : Nat => s.heap.size ≤ q) q := fun _ h => h
  have hbA : ¬ (fun q : Nat => s.heap.size ≤ q) b := Nat.not_le.mpr hbl
  have hts := fun w h => hts w (wsL_law_in w h)
  obtain ⟨i, r, pxM, pyM, coM, lxM, lyM, lfM, hp_0, hp_1, hp_2, hp_3⟩ := pp_cover hI (xs (x3 + (1 : Int32)).toNatClampNeg) (xs (x3 + (2 : Int32)).toNatClampNeg) (xs (x3 + (3 : Int32)).toNatClampNeg) px py co lx ly lf
  refine lv_aload_n hx hb dL_law_462 rfl (lv_at hl 1 rfl) ?_
  refine lv_aload_n hx hb dL_law_463 rfl (lv_at hl 0 rfl) ?_
  refine lv_iload_n hx hb dL_law_464 rfl (lv_at hl 3 rfl) ?_
  refine lv_iconst (v := 1) hx hb dL_law_465 (by decide) ?_
  refine lv_iadd hx hb dL_law_466 ?_
  refine va_sld hx hb hX hbl hbA hS h_1 dL_law_467 ?_
  refine lv_aload_n hx hb dL_law_468 rfl (lv_at hl 0 rfl) ?_
  refine lv_iload_n hx hb dL_law_469 rfl (lv_at hl 3 rfl) ?_
  refine lv_iconst (v := 2) hx hb dL_law_470 (by decide) ?_
  refine lv_iadd hx hb dL_law_471 ?_
  refine va_sld hx hb hX hbl hbA hS h_2 dL_law_472 ?_
  refine lv_aload_n hx hb dL_law_473 rfl (lv_at hl 0 rfl) ?_
  refine lv_iload_n hx hb dL_law_474 rfl (lv_at hl 3 rfl) ?_
  refine lv_iconst (v := 3) hx hb dL_law_475 (by decide) ?_
  refine lv_iadd hx hb dL_law_476 ?_
  refine va_sld hx hb hX hbl hbA hS h_3 dL_law_477 ?_
  have hKc := hK.sub (tys' := tD cI cL cS) [0, 1, 2] rfl
  have hPc := hP.sub (ws' := (wD hd im sA lA oA xA yA cI cL cS F gi XS YS SZ FO ke)) [0, 1, 2, 3, 4, 5, 6, 7, 8, 9, 10, 11, 12, 13, 14, 15, 16, 17, 18, 19, 20, 21, 22, 23, 24, 25, 26, 27, 28, 29, 30, 31, 32, 33, 34] rfl
  refine vp_callSl (W.runV (As := [.int (xs (x3 + (1 : Int32)).toNatClampNeg), .int (xs (x3 + (2 : Int32)).toNatClampNeg), .int (xs (x3 + (3 : Int32)).toNatClampNeg)]) (rest := []) ⟨hx, hb, hml, hown, hts⟩ (C_X2_cover (F := F) (gi := gi) l dC dI (xs (x3 + (1 : Int32)).toNatClampNeg) (xs (x3 + (2 : Int32)).toNatClampNeg) (xs (x3 + (3 : Int32)).toNatClampNeg) i hp_0 hp_1 hk r hp_2) (cwV 3 hts gL_law_X2_cover rfl rfl rfl (by decide +kernel) ⟨Nat.le_of_ble_eq_true rfl, Nat.le_of_ble_eq_true rfl⟩) ⟨fun a U g mk q => ⟨q.1, q.2.1, va_K.moved (u := U) (U := U.calling g mk a) (Vm.Alike.refl U.vm) q.2.2.1, nw_same rfl q.2.2.2⟩, va_recv hKc hPc (ci := 2) (q0 := 0) rfl rfl, fun U hU hW => ⟨rfl, by rw [hU]; exact hPc, va_K.moved hW.alike hKc, hN.warm hW⟩⟩ rfl rfl hl.1 rfl (lv_room (Nat.le_of_ble_eq_true rfl)) dL_law_478 ⟨Nat.le_of_ble_eq_true rfl, Nat.le_of_ble_eq_true rfl⟩) (fun r_ qr_ => ?_)
  obtain rfl := qr_.symm
  refine lv_aload_n hx hb dL_law_481 rfl (lv_at hl 2 rfl) ?_
  refine lv_aload_n hx hb dL_law_482 rfl (lv_at hl 0 rfl) ?_
  refine lv_iload_n hx hb dL_law_483 rfl (lv_at hl 3 rfl) ?_
  refine lv_iconst (v := 1) hx hb dL_law_484 (by decide) ?_
  refine lv_iadd hx hb dL_law_485 ?_
  refine va_sld hx hb hX hbl hbA hS h_1 dL_law_486 ?_
  refine lv_aload_n hx hb dL_law_487 rfl (lv_at hl 0 rfl) ?_
  refine lv_iload_n hx hb dL_law_488 rfl (lv_at hl 3 rfl) ?_
  refine lv_iconst (v := 2) hx hb dL_law_489 (by decide) ?_
  refine lv_iadd hx hb dL_law_490 ?_
  refine va_sld hx hb hX hbl hbA hS h_2 dL_law_491 ?_
  refine lv_aload_n hx hb dL_law_492 rfl (lv_at hl 0 rfl) ?_
  refine lv_iload_n hx hb dL_law_493 rfl (lv_at hl 3 rfl) ?_
  refine lv_iconst (v := 3) hx hb dL_law_494 (by decide) ?_
  refine lv_iadd hx hb dL_law_495 ?_
  refine va_sld hx hb hX hbl hbA hS h_3 dL_law_496 ?_
  have hKc := hK.sub (tys' := [(cI, .int), (cZ, .boolean), (cJ, .long)]) [1, 3, 4] rfl
  have hPc := hP.sub (ws' := (wM hm mA cI cZ cJ st im_ kp wx wy px py co lx ly lf)) [35, 36, 37, 38, 39, 40, 41, 42, 43, 44] rfl
  have hDc := hD.sub (ws' := (wM hm mA cI cZ cJ st im_ kp wx wy px py co lx ly lf)) [35, 36, 37, 38, 39, 40, 41, 42, 43, 44] (by decide) rfl
  have hFc := va_free (wc := (wM hm mA cI cZ cJ st im_ kp wx wy px py co lx ly lf)) hD hS hA [35, 36, 37, 38, 39, 40, 41, 42, 43, 44] rfl
  refine va_calll (va_runV (As := [.int (xs (x3 + (1 : Int32)).toNatClampNeg), .int (xs (x3 + (2 : Int32)).toNatClampNeg), .int (xs (x3 + (3 : Int32)).toNatClampNeg)]) (rest := [.long r]) ⟨hx, hb, hml, hown, hts⟩ (c_X3_cover l dC dI hm (mA 0) (mA 1) (mA 2) (mA 3) (mA 4) (mA 5) (mA 6) (mA 7) (mA 8) cI cZ cJ H.size st im_ kp wx wy px py co lx ly lf (xs (x3 + (1 : Int32)).toNatClampNeg) (xs (x3 + (2 : Int32)).toNatClampNeg) (xs (x3 + (3 : Int32)).toNatClampNeg) r pxM pyM coM lxM lyM lfM hp_3) (cwV 3 hts gL_law_X3_cover rfl rfl rfl (by decide +kernel) ⟨Nat.le_of_ble_eq_true rfl, Nat.le_of_ble_eq_true rfl⟩) ⟨fun a U g mk q => ⟨q.1, q.2.1, q.2.2.1, va_K.moved (u := U) (U := U.calling g mk a) (Vm.Alike.refl U.vm) q.2.2.2.1, q.2.2.2.2⟩, va_recv hKc hPc (ci := 3) (q0 := 0) rfl rfl, fun U hU hW => ⟨rfl, by rw [hU], by rw [hU]; exact hPc, va_K.moved hW.alike hKc, hDc.weaken (fun _ _ _ _ => trivial)⟩⟩ rfl rfl hl.1 rfl (lv_room (Nat.le_of_ble_eq_true rfl)) dL_law_497 ⟨Nat.le_of_ble_eq_true rfl, Nat.le_of_ble_eq_true rfl⟩) hS (fun q _ h => hFc q h) hFc (fun r_ _ t H1 locs ht hvm hw hB hz1 hk1 hS => ?_)
  obtain ⟨hP1, hK1, hD1⟩ := hB
  rw [ht] at hP1
  obtain rfl := hw.symm
  obtain ⟨hP, hD⟩ := va_join (wr := (wD hd im sA lA oA xA yA cI cL cS F gi XS YS SZ FO ke)) (w1 := (wM hm mA cI cZ cJ st im_ kp wx wy pxM pyM coM lxM lyM lfM)) hP hD [35, 36, 37, 38, 39, 40, 41, 42, 43, 44] [0, 1, 2, 3, 4, 5, 6, 7, 8, 9, 10, 11, 12, 13, 14, 15, 16, 17, 18, 19, 20, 21, 22, 23, 24, 25, 26, 27, 28, 29, 30, 31, 32, 33, 34] rfl rfl (by decide) (by decide) hk1 hFc hP1 hD1
  clear hP1 hK1 hD1 hk1 hFc
  generalize H1 = H at hP hS ⊢
  refine lc_eq (tgt := 775) hx hb dL_law_500 dL_law_501 (by decide) (fun c_1 => ?_) (fun c_1 => absurd rfl c_1)
  exact kont _ _ _ _ _ _ _ _ _ _ _ _ _ _ _ _ _ _ hI hP hD hS
end LAW1
