def P_X2_raw (a0 : Int32) (a1 : Int32) (a2 : Int32) (xs : Nat → Int32) (ys : Nat → Int32) (sz : Int32) : Option (Int64) :=
  bd1 (P_X2_within a0 (0 : Int32) (2 : Int32)) (fun r_1 =>
  if r_1 = (0 : Int32) then
    some (-1000000000000000001 : Int64)
  else
    bd1 (P_X2_isDot a1) (fun r_3 =>
    if r_3 = (0 : Int32) then
      some (-1000000000000000001 : Int64)
    else
      bd1 (P_X2_within a2 (0 : Int32) (1 : Int32)) (fun r_5 =>
      if r_5 = (0 : Int32) then
        some (-1000000000000000002 : Int64)
      else
        bd1 (P_X0_rawParts a1 (0 : Int32) (0 : Int32) xs ys sz) (fun r_7 =>
        bd1 (P_X2_lowestTerms r_7 (498960 : Int64) a2) (fun r_8 =>
        some r_8)))))

def rm_X2_raw : Room := { frames := 3, cells := 0, slots := 0, locals := 87 }

set_option maxHeartbeats 4000000 in
set_option maxRecDepth 100000 in
theorem c_X2_raw (l : Launch) (dC : Nat → ClassId) (dI : Nat → Nat → Nat) (h0 sc im lr la xa ya : Nat) (cI cL : ClassId) (ke : Int32) (f : Nat → Option Nat) (xs : Nat → Int32) (ys : Nat → Int32) (sz : Int32) (fo : Int32) (a0 : Int32) (a1 : Int32) (a2 : Int32) (r0 : Int64) (hs1 : P_X2_within a0 (0 : Int32) (2 : Int32) = some (1 : Int32) → f a0.toNatClampNeg = some la) (hF : P_X2_raw a0 a1 a2 xs ys sz = some r0) : Met l yX2_raw wsX2_raw rm_X2_raw (va_Pc [.ref h0, .int a0, .int a1, .int a2] (fun U => va_P (dC, dI) vwCl [(h0, .inr (2, [.ref sc, .ref im, .int ke])), (sc, .inr (1, [.ref lr])), (lr, .inl (cL, 3, .inr (.inr (.inr (.inr f))))), (la, .inr (0, [.ref xa, .ref ya, .int sz, .int fo])), (xa, .inl (cI, 8, .inl xs)), (ya, .inl (cI, 8, .inl ys))] U.heap ∧ va_K (dC, dI) vwCl [(cI, .int), (cL, .object RX0)] U ∧ nw U)) (vp_Sl (fun x => x = r0)) 0 0 (fun _ => False) := by
  refine Met.ofW (cc := cX2_raw) (maxL := 5) (ret := (some .long)) (by decide) rfl ?_
  intro p e s m args below meth c s₁ B hml hv
  change W p l e rm_X2_raw s m args below meth c s.heap [] 0 0 _ _
  obtain ⟨hv, hP, hK, hN⟩ := hv
  have hx := B.exec
  have hb := B.bytes
  have hr := B.returns
  have hts := atoms_spec (ws := wsX2_raw) B.pre
  have hown : s.vm.findClass RX2 = some m.cls := findClass_of_methodNamed B.named
  have hlocks := B.notSynchronized
  have hN_RX0_25 := hN.1
  have hN_RX1_18 := hN.2.1
  have hN_RX1_26 := hN.2.2.1
  have hN_RX2_32 := hN.2.2.2.1
  have hN_RX2_44 := hN.2.2.2.2.1
  have hN_RX2_48 := hN.2.2.2.2.2.1
  have hN_RX2_55 := hN.2.2.2.2.2.2
  generalize hQ : MQ below (vp_Sl (fun x => x = r0)) args s 0 0 (fun _ => False) = Q
  have hl := lv_entry ([.ref h0, .int a0, .int a1, .int a2]) (n := 5) (Nat.le_of_ble_eq_true rfl)
  have hE : entryFrame m args 5 = F0 m 0 ((lg_sl ([.ref h0, .int a0, .int a1, .int a2]) ++ List.replicate (5 - (lg_sl ([.ref h0, .int a0, .int a1, .int a2])).length) Slot.unset).toArray) [] := by rw [hv]; exact lg_entry_eq m _ 5
  rw [hE]
  generalize (lg_sl ([.ref h0, .int a0, .int a1, .int a2]) ++ List.replicate (5 - (lg_sl ([.ref h0, .int a0, .int a1, .int a2])).length) Slot.unset).toArray = ls at hl ⊢
  have hl : lv_has ls 5 [(0, .ref h0), (1, .int a0), (2, .int a1), (3, .int a2)] := hl
  unfold P_X2_raw at hF
  refine lv_aload_n hx hb dX2_raw_0 rfl (lv_at hl 0 rfl) ?_
  refine va_get (D := (dC, dI)) (ci := 2) (v := .ref sc) (C := RX2) (T := TX2) (N := 3) hx hb hts (by decide +kernel) hown hK hP 0 rfl rfl 0 (by decide) (hts (.fieldLink RX2 12 "DotCover" "now" "LDotCover$Scene;") (by decide +kernel)) (fun _ h9 => h9) rfl dX2_raw_1 ?_
  refine lv_iload_n hx hb dX2_raw_4 rfl (lv_at hl 1 rfl) ?_
  obtain ⟨r_1, hr_1, hF⟩ := bd1_u hF
  have hPc := hP.sub (ws' := [(sc, .inr (1, [.ref lr])), (lr, .inl (cL, 3, .inr (.inr (.inr (.inr f)))))]) [1, 2] rfl
  have hKc := hK.sub (tys' := [(cL, .object RX0)]) [1] rfl
  by_cases c_2 : r_1 = (0 : Int32)
  · have hF := br1 hF c_2
    refine va_csq (W.runV (As := [.int a0]) (rest := []) ⟨hx, hb, hml, hown, hts⟩ (c_X1_layerOf_out l dC dI sc lr cL f a0 (c_2 ▸ hr_1)) (cwV 1 hts gX2_raw_X1_layerOf rfl rfl rfl (by decide +kernel) ⟨Nat.le_of_ble_eq_true rfl, Nat.le_of_ble_eq_true rfl⟩) ⟨fun a U g mk q => ⟨q.1, q.2.1, va_K.moved (u := U) (U := U.calling g mk a) (Vm.Alike.refl U.vm) q.2.2.1, nw_same rfl q.2.2.2⟩, va_recv hKc hPc (ci := 1) (q0 := 0) rfl rfl, fun U hU hW => ⟨rfl, by rw [hU]; exact hPc, va_K.moved hW.alike hKc, hN.warm hW⟩⟩ rfl rfl hl.1 rfl (lv_room (Nat.le_of_ble_eq_true rfl)) dX2_raw_5 ⟨Nat.le_of_ble_eq_true rfl, Nat.le_of_ble_eq_true rfl⟩) (fun r_ hr_ => ?_)
    obtain rfl := hr_
    change W _ _ _ _ _ _ _ _ _ _ _ _ _ _ _ (F0 m 8 ls [.null])
    refine lv_astoreN (lv' := [(4, .null), (0, .ref h0), (1, .int a0), (2, .int a1), (3, .int a2)]) hx hb dX2_raw_8 hl (by decide) rfl (fun ls hl => ?_)
    refine lv_aloadN hx hb dX2_raw_10 (lv_at hl 0 rfl) ?_
    refine lv_ifnullN (tgt := 22) hx hb dX2_raw_12 (by decide) ?_
    refine lv_ldc2 (v := -1000000000000000001) hx hb hown (hts (.constantLong RX2 76 (-1000000000000000001)) (by decide +kernel)) dX2_raw_22 ?_
    rw [← hQ]
    exact W.lret (v := (-1000000000000000001 : Int64)) hx hb hr (fun t ht hW => ⟨_, rfl, Option.some.inj hF, ht⟩) (fun _ h => by cases h) dX2_raw_25
  · have hF := br0 hF c_2
    have hw1 := within_1 hr_1 c_2
    refine va_csq (W.runV (As := [.int a0]) (rest := []) ⟨hx, hb, hml, hown, hts⟩ (c_X1_layerOf_in l dC dI sc lr cL f a0 la hw1 (hs1 hw1)) (cwV 1 hts gX2_raw_X1_layerOf rfl rfl rfl (by decide +kernel) ⟨Nat.le_of_ble_eq_true rfl, Nat.le_of_ble_eq_true rfl⟩) ⟨fun a U g mk q => ⟨q.1, q.2.1, va_K.moved (u := U) (U := U.calling g mk a) (Vm.Alike.refl U.vm) q.2.2.1, nw_same rfl q.2.2.2⟩, va_recv hKc hPc (ci := 1) (q0 := 0) rfl rfl, fun U hU hW => ⟨rfl, by rw [hU]; exact hPc, va_K.moved hW.alike hKc, hN.warm hW⟩⟩ rfl rfl hl.1 rfl (lv_room (Nat.le_of_ble_eq_true rfl)) dX2_raw_5 ⟨Nat.le_of_ble_eq_true rfl, Nat.le_of_ble_eq_true rfl⟩) (fun r_ hr_ => ?_)
    obtain rfl := hr_
    change W _ _ _ _ _ _ _ _ _ _ _ _ _ _ _ (F0 m 8 ls [.ref la])
    refine lv_astore (lv' := [(4, .ref la), (0, .ref h0), (1, .int a0), (2, .int a1), (3, .int a2)]) hx hb dX2_raw_8 hl (by decide) rfl (fun ls hl => ?_)
    refine lv_aload hx hb dX2_raw_10 (lv_at hl 0 rfl) ?_
    refine lv_ifnull hx hb dX2_raw_12 ?_
    refine lv_iload_n hx hb dX2_raw_15 rfl (lv_at hl 3 rfl) ?_
    obtain ⟨r_3, hr_3, hF⟩ := bd1_u hF
    refine vp_callSi (W.runS (As := [.int a1]) (rest := []) ⟨hx, hb, hml, hown, hts⟩ (c_X2_isDot l a1 r_3 hr_3) (va_cwS 1 hts gX2_raw_X2_isDot rfl rfl rfl (by decide +kernel) ⟨Nat.le_of_ble_eq_true rfl, Nat.le_of_ble_eq_true rfl⟩) preEq rfl rfl hl.1 rfl (lv_room (Nat.le_of_ble_eq_true rfl)) dX2_raw_16 ⟨Nat.le_of_ble_eq_true rfl, Nat.le_of_ble_eq_true rfl⟩) (fun r_3' qr_3 => ?_)
    obtain rfl := qr_3.symm
    refine lv_if_ne (tgt := 26) hx hb dX2_raw_19 (by decide) (fun c_4 => ?_) (fun c_4 => ?_)
    · have hF := br0 hF c_4
      refine lv_iload_n hx hb dX2_raw_26 rfl (lv_at hl 4 rfl) ?_
      refine lv_iconst (v := 0) hx hb dX2_raw_27 (by decide) ?_
      refine lv_iconst (v := 1) hx hb dX2_raw_28 (by decide) ?_
      obtain ⟨r_5, hr_5, hF⟩ := bd1_u hF
      refine vp_callSi (W.runS (As := [.int a2, .int (0 : Int32), .int (1 : Int32)]) (rest := []) ⟨hx, hb, hml, hown, hts⟩ (c_X2_within l a2 (0 : Int32) (1 : Int32) r_5 hr_5) (va_cwS 3 hts gX2_raw_X2_within rfl rfl rfl (by decide +kernel) ⟨Nat.le_of_ble_eq_true rfl, Nat.le_of_ble_eq_true rfl⟩) preEq rfl rfl hl.1 rfl (lv_room (Nat.le_of_ble_eq_true rfl)) dX2_raw_29 ⟨Nat.le_of_ble_eq_true rfl, Nat.le_of_ble_eq_true rfl⟩) (fun r_5' qr_5 => ?_)
      obtain rfl := qr_5.symm
      refine lv_if_ne (tgt := 39) hx hb dX2_raw_32 (by decide) (fun c_6 => ?_) (fun c_6 => ?_)
      · have hF := br0 hF c_6
        refine lv_aload hx hb dX2_raw_39 (lv_at hl 0 rfl) ?_
        refine lv_iload_n hx hb dX2_raw_41 rfl (lv_at hl 3 rfl) ?_
        refine lv_iconst (v := 0) hx hb dX2_raw_42 (by decide) ?_
        refine lv_iconst (v := 0) hx hb dX2_raw_43 (by decide) ?_
        obtain ⟨r_7, hr_7, hF⟩ := bd1_u hF
        have hPc := hP.sub (ws' := [(la, .inr (0, [.ref xa, .ref ya, .int sz, .int fo])), (xa, .inl (cI, 8, .inl xs)), (ya, .inl (cI, 8, .inl ys))]) [3, 4, 5] rfl
        have hKc := hK.sub (tys' := [(cI, .int)]) [0] rfl
        refine vp_callSl (W.runV (As := [.int a1, .int (0 : Int32), .int (0 : Int32)]) (rest := []) ⟨hx, hb, hml, hown, hts⟩ (c_X0_rawParts l dC dI la xa ya cI xs ys sz fo a1 (0 : Int32) (0 : Int32) r_7 hr_7) (cwV 3 hts gX2_raw_X0_rawParts rfl rfl rfl (by decide +kernel) ⟨Nat.le_of_ble_eq_true rfl, Nat.le_of_ble_eq_true rfl⟩) ⟨fun a U g mk q => ⟨q.1, q.2.1, va_K.moved (u := U) (U := U.calling g mk a) (Vm.Alike.refl U.vm) q.2.2⟩, va_recv hKc hPc (ci := 0) (q0 := 0) rfl rfl, fun U hU hW => ⟨rfl, by rw [hU]; exact hPc, va_K.moved hW.alike hKc⟩⟩ rfl rfl hl.1 rfl (lv_room (Nat.le_of_ble_eq_true rfl)) dX2_raw_44 ⟨Nat.le_of_ble_eq_true rfl, Nat.le_of_ble_eq_true rfl⟩) (fun r_7' qr_7 => ?_)
        obtain rfl := qr_7.symm
        refine lv_ldc2 (v := 498960) hx hb hown (hts (.constantLong RX2 84 (498960)) (by decide +kernel)) dX2_raw_47 ?_
        refine lv_iload_n hx hb dX2_raw_50 rfl (lv_at hl 4 rfl) ?_
        obtain ⟨r_8, hr_8, hF⟩ := bd1_u hF
        refine vp_callSl (W.runS (As := [.long r_7, .long (498960 : Int64), .int a2]) (rest := []) ⟨hx, hb, hml, hown, hts⟩ (c_X2_lowestTerms l r_7 (498960 : Int64) a2 r_8 hr_8) (va_cwS 3 hts gX2_raw_X2_lowestTerms rfl rfl rfl (by decide +kernel) ⟨Nat.le_of_ble_eq_true rfl, Nat.le_of_ble_eq_true rfl⟩) preEq rfl rfl hl.1 rfl (lv_room (Nat.le_of_ble_eq_true rfl)) dX2_raw_51 ⟨Nat.le_of_ble_eq_true rfl, Nat.le_of_ble_eq_true rfl⟩) (fun r_8' qr_8 => ?_)
        obtain rfl := qr_8.symm
        rw [← hQ]
        exact W.lret (v := r_8) hx hb hr (fun t ht hW => ⟨_, rfl, Option.some.inj hF, ht⟩) (fun _ h => by cases h) dX2_raw_54
      · have hF := br1 hF c_6
        refine lv_ldc2 (v := -1000000000000000002) hx hb hown (hts (.constantLong RX2 78 (-1000000000000000002)) (by decide +kernel)) dX2_raw_35 ?_
        rw [← hQ]
        exact W.lret (v := (-1000000000000000002 : Int64)) hx hb hr (fun t ht hW => ⟨_, rfl, Option.some.inj hF, ht⟩) (fun _ h => by cases h) dX2_raw_38
    · have hF := br1 hF c_4
      refine lv_ldc2 (v := -1000000000000000001) hx hb hown (hts (.constantLong RX2 76 (-1000000000000000001)) (by decide +kernel)) dX2_raw_22 ?_
      rw [← hQ]
      exact W.lret (v := (-1000000000000000001 : Int64)) hx hb hr (fun t ht hW => ⟨_, rfl, Option.some.inj hF, ht⟩) (fun _ h => by cases h) dX2_raw_25

def P_X2_cover (a0 : Int32) (a1 : Int32) (a2 : Int32) (xs : Nat → Int32) (ys : Nat → Int32) (sz : Int32) (fo : Int32) : Option (Int64) :=
  bd1 (P_X2_within a0 (0 : Int32) (2 : Int32)) (fun r_1 =>
  if r_1 = (0 : Int32) then
    some (-1 : Int64)
  else
    bd1 (P_X2_isDot a1) (fun r_3 =>
    if r_3 = (0 : Int32) then
      some (-1 : Int64)
    else
      bd1 (P_X2_within a2 (0 : Int32) (1 : Int32)) (fun r_5 =>
      if r_5 = (0 : Int32) then
        some (-2 : Int64)
      else
        bd1 (P_X0_coverParts a1 (0 : Int32) (0 : Int32) xs ys sz fo) (fun r_7 =>
        bd1 (P_X2_lowestTerms r_7 (498960 : Int64) a2) (fun r_8 =>
        some r_8)))))

def rm_X2_cover : Room := { frames := 4, cells := 0, slots := 0, locals := 114 }

set_option maxHeartbeats 4000000 in
set_option maxRecDepth 100000 in
theorem c_X2_cover (l : Launch) (dC : Nat → ClassId) (dI : Nat → Nat → Nat) (h0 sc im lr la xa ya : Nat) (cI cL : ClassId) (ke : Int32) (f : Nat → Option Nat) (xs : Nat → Int32) (ys : Nat → Int32) (sz : Int32) (fo : Int32) (a0 : Int32) (a1 : Int32) (a2 : Int32) (r0 : Int64) (hs1 : P_X2_within a0 (0 : Int32) (2 : Int32) = some (1 : Int32) → f a0.toNatClampNeg = some la) (hF : P_X2_cover a0 a1 a2 xs ys sz fo = some r0) : Met l yX2_cover wsX2_cover rm_X2_cover (va_Pc [.ref h0, .int a0, .int a1, .int a2] (fun U => va_P (dC, dI) vwCl [(h0, .inr (2, [.ref sc, .ref im, .int ke])), (sc, .inr (1, [.ref lr])), (lr, .inl (cL, 3, .inr (.inr (.inr (.inr f))))), (la, .inr (0, [.ref xa, .ref ya, .int sz, .int fo])), (xa, .inl (cI, 8, .inl xs)), (ya, .inl (cI, 8, .inl ys))] U.heap ∧ va_K (dC, dI) vwCl [(cI, .int), (cL, .object RX0)] U ∧ nw U)) (vp_Sl (fun x => x = r0)) 0 0 (fun _ => False) := by
  refine Met.ofW (cc := cX2_cover) (maxL := 5) (ret := (some .long)) (by decide) rfl ?_
  intro p e s m args below meth c s₁ B hml hv
  change W p l e rm_X2_cover s m args below meth c s.heap [] 0 0 _ _
  obtain ⟨hv, hP, hK, hN⟩ := hv
  have hx := B.exec
  have hb := B.bytes
  have hr := B.returns
  have hts := atoms_spec (ws := wsX2_cover) B.pre
  have hown : s.vm.findClass RX2 = some m.cls := findClass_of_methodNamed B.named
  have hlocks := B.notSynchronized
  have hN_RX0_25 := hN.1
  have hN_RX1_18 := hN.2.1
  have hN_RX1_26 := hN.2.2.1
  have hN_RX2_32 := hN.2.2.2.1
  have hN_RX2_44 := hN.2.2.2.2.1
  have hN_RX2_48 := hN.2.2.2.2.2.1
  have hN_RX2_55 := hN.2.2.2.2.2.2
  generalize hQ : MQ below (vp_Sl (fun x => x = r0)) args s 0 0 (fun _ => False) = Q
  have hl := lv_entry ([.ref h0, .int a0, .int a1, .int a2]) (n := 5) (Nat.le_of_ble_eq_true rfl)
  have hE : entryFrame m args 5 = F0 m 0 ((lg_sl ([.ref h0, .int a0, .int a1, .int a2]) ++ List.replicate (5 - (lg_sl ([.ref h0, .int a0, .int a1, .int a2])).length) Slot.unset).toArray) [] := by rw [hv]; exact lg_entry_eq m _ 5
  rw [hE]
  generalize (lg_sl ([.ref h0, .int a0, .int a1, .int a2]) ++ List.replicate (5 - (lg_sl ([.ref h0, .int a0, .int a1, .int a2])).length) Slot.unset).toArray = ls at hl ⊢
  have hl : lv_has ls 5 [(0, .ref h0), (1, .int a0), (2, .int a1), (3, .int a2)] := hl
  unfold P_X2_cover at hF
  refine lv_aload_n hx hb dX2_cover_0 rfl (lv_at hl 0 rfl) ?_
  refine va_get (D := (dC, dI)) (ci := 2) (v := .ref sc) (C := RX2) (T := TX2) (N := 3) hx hb hts (by decide +kernel) hown hK hP 0 rfl rfl 0 (by decide) (hts (.fieldLink RX2 12 "DotCover" "now" "LDotCover$Scene;") (by decide +kernel)) (fun _ h9 => h9) rfl dX2_cover_1 ?_
  refine lv_iload_n hx hb dX2_cover_4 rfl (lv_at hl 1 rfl) ?_
  obtain ⟨r_1, hr_1, hF⟩ := bd1_u hF
  have hPc := hP.sub (ws' := [(sc, .inr (1, [.ref lr])), (lr, .inl (cL, 3, .inr (.inr (.inr (.inr f)))))]) [1, 2] rfl
  have hKc := hK.sub (tys' := [(cL, .object RX0)]) [1] rfl
  by_cases c_2 : r_1 = (0 : Int32)
  · have hF := br1 hF c_2
    refine va_csq (W.runV (As := [.int a0]) (rest := []) ⟨hx, hb, hml, hown, hts⟩ (c_X1_layerOf_out l dC dI sc lr cL f a0 (c_2 ▸ hr_1)) (cwV 1 hts gX2_cover_X1_layerOf rfl rfl rfl (by decide +kernel) ⟨Nat.le_of_ble_eq_true rfl, Nat.le_of_ble_eq_true rfl⟩) ⟨fun a U g mk q => ⟨q.1, q.2.1, va_K.moved (u := U) (U := U.calling g mk a) (Vm.Alike.refl U.vm) q.2.2.1, nw_same rfl q.2.2.2⟩, va_recv hKc hPc (ci := 1) (q0 := 0) rfl rfl, fun U hU hW => ⟨rfl, by rw [hU]; exact hPc, va_K.moved hW.alike hKc, hN.warm hW⟩⟩ rfl rfl hl.1 rfl (lv_room (Nat.le_of_ble_eq_true rfl)) dX2_cover_5 ⟨Nat.le_of_ble_eq_true rfl, Nat.le_of_ble_eq_true rfl⟩) (fun r_ hr_ => ?_)
    obtain rfl := hr_
    change W _ _ _ _ _ _ _ _ _ _ _ _ _ _ _ (F0 m 8 ls [.null])
    refine lv_astoreN (lv' := [(4, .null), (0, .ref h0), (1, .int a0), (2, .int a1), (3, .int a2)]) hx hb dX2_cover_8 hl (by decide) rfl (fun ls hl => ?_)
    refine lv_aloadN hx hb dX2_cover_10 (lv_at hl 0 rfl) ?_
    refine lv_ifnullN (tgt := 22) hx hb dX2_cover_12 (by decide) ?_
    refine lv_ldc2 (v := -1) hx hb hown (hts (.constantLong RX2 90 (-1)) (by decide +kernel)) dX2_cover_22 ?_
    rw [← hQ]
    exact W.lret (v := (-1 : Int64)) hx hb hr (fun t ht hW => ⟨_, rfl, Option.some.inj hF, ht⟩) (fun _ h => by cases h) dX2_cover_25
  · have hF := br0 hF c_2
    have hw1 := within_1 hr_1 c_2
    refine va_csq (W.runV (As := [.int a0]) (rest := []) ⟨hx, hb, hml, hown, hts⟩ (c_X1_layerOf_in l dC dI sc lr cL f a0 la hw1 (hs1 hw1)) (cwV 1 hts gX2_cover_X1_layerOf rfl rfl rfl (by decide +kernel) ⟨Nat.le_of_ble_eq_true rfl, Nat.le_of_ble_eq_true rfl⟩) ⟨fun a U g mk q => ⟨q.1, q.2.1, va_K.moved (u := U) (U := U.calling g mk a) (Vm.Alike.refl U.vm) q.2.2.1, nw_same rfl q.2.2.2⟩, va_recv hKc hPc (ci := 1) (q0 := 0) rfl rfl, fun U hU hW => ⟨rfl, by rw [hU]; exact hPc, va_K.moved hW.alike hKc, hN.warm hW⟩⟩ rfl rfl hl.1 rfl (lv_room (Nat.le_of_ble_eq_true rfl)) dX2_cover_5 ⟨Nat.le_of_ble_eq_true rfl, Nat.le_of_ble_eq_true rfl⟩) (fun r_ hr_ => ?_)
    obtain rfl := hr_
    change W _ _ _ _ _ _ _ _ _ _ _ _ _ _ _ (F0 m 8 ls [.ref la])
    refine lv_astore (lv' := [(4, .ref la), (0, .ref h0), (1, .int a0), (2, .int a1), (3, .int a2)]) hx hb dX2_cover_8 hl (by decide) rfl (fun ls hl => ?_)
    refine lv_aload hx hb dX2_cover_10 (lv_at hl 0 rfl) ?_
    refine lv_ifnull hx hb dX2_cover_12 ?_
    refine lv_iload_n hx hb dX2_cover_15 rfl (lv_at hl 3 rfl) ?_
    obtain ⟨r_3, hr_3, hF⟩ := bd1_u hF
    refine vp_callSi (W.runS (As := [.int a1]) (rest := []) ⟨hx, hb, hml, hown, hts⟩ (c_X2_isDot l a1 r_3 hr_3) (va_cwS 1 hts gX2_cover_X2_isDot rfl rfl rfl (by decide +kernel) ⟨Nat.le_of_ble_eq_true rfl, Nat.le_of_ble_eq_true rfl⟩) preEq rfl rfl hl.1 rfl (lv_room (Nat.le_of_ble_eq_true rfl)) dX2_cover_16 ⟨Nat.le_of_ble_eq_true rfl, Nat.le_of_ble_eq_true rfl⟩) (fun r_3' qr_3 => ?_)
    obtain rfl := qr_3.symm
    refine lv_if_ne (tgt := 26) hx hb dX2_cover_19 (by decide) (fun c_4 => ?_) (fun c_4 => ?_)
    · have hF := br0 hF c_4
      refine lv_iload_n hx hb dX2_cover_26 rfl (lv_at hl 4 rfl) ?_
      refine lv_iconst (v := 0) hx hb dX2_cover_27 (by decide) ?_
      refine lv_iconst (v := 1) hx hb dX2_cover_28 (by decide) ?_
      obtain ⟨r_5, hr_5, hF⟩ := bd1_u hF
      refine vp_callSi (W.runS (As := [.int a2, .int (0 : Int32), .int (1 : Int32)]) (rest := []) ⟨hx, hb, hml, hown, hts⟩ (c_X2_within l a2 (0 : Int32) (1 : Int32) r_5 hr_5) (va_cwS 3 hts gX2_cover_X2_within rfl rfl rfl (by decide +kernel) ⟨Nat.le_of_ble_eq_true rfl, Nat.le_of_ble_eq_true rfl⟩) preEq rfl rfl hl.1 rfl (lv_room (Nat.le_of_ble_eq_true rfl)) dX2_cover_29 ⟨Nat.le_of_ble_eq_true rfl, Nat.le_of_ble_eq_true rfl⟩) (fun r_5' qr_5 => ?_)
      obtain rfl := qr_5.symm
      refine lv_if_ne (tgt := 39) hx hb dX2_cover_32 (by decide) (fun c_6 => ?_) (fun c_6 => ?_)
      · have hF := br0 hF c_6
        refine lv_aload hx hb dX2_cover_39 (lv_at hl 0 rfl) ?_
        refine lv_iload_n hx hb dX2_cover_41 rfl (lv_at hl 3 rfl) ?_
        refine lv_iconst (v := 0) hx hb dX2_cover_42 (by decide) ?_
        refine lv_iconst (v := 0) hx hb dX2_cover_43 (by decide) ?_
        obtain ⟨r_7, hr_7, hF⟩ := bd1_u hF
        have hPc := hP.sub (ws' := [(la, .inr (0, [.ref xa, .ref ya, .int sz, .int fo])), (xa, .inl (cI, 8, .inl xs)), (ya, .inl (cI, 8, .inl ys))]) [3, 4, 5] rfl
        have hKc := hK.sub (tys' := [(cI, .int)]) [0] rfl
        refine vp_callSl (W.runV (As := [.int a1, .int (0 : Int32), .int (0 : Int32)]) (rest := []) ⟨hx, hb, hml, hown, hts⟩ (c_X0_coverParts l dC dI la xa ya cI xs ys sz fo a1 (0 : Int32) (0 : Int32) r_7 hr_7) (cwV 3 hts gX2_cover_X0_coverParts rfl rfl rfl (by decide +kernel) ⟨Nat.le_of_ble_eq_true rfl, Nat.le_of_ble_eq_true rfl⟩) ⟨fun a U g mk q => ⟨q.1, q.2.1, va_K.moved (u := U) (U := U.calling g mk a) (Vm.Alike.refl U.vm) q.2.2⟩, va_recv hKc hPc (ci := 0) (q0 := 0) rfl rfl, fun U hU hW => ⟨rfl, by rw [hU]; exact hPc, va_K.moved hW.alike hKc⟩⟩ rfl rfl hl.1 rfl (lv_room (Nat.le_of_ble_eq_true rfl)) dX2_cover_44 ⟨Nat.le_of_ble_eq_true rfl, Nat.le_of_ble_eq_true rfl⟩) (fun r_7' qr_7 => ?_)
        obtain rfl := qr_7.symm
        refine lv_ldc2 (v := 498960) hx hb hown (hts (.constantLong RX2 84 (498960)) (by decide +kernel)) dX2_cover_47 ?_
        refine lv_iload_n hx hb dX2_cover_50 rfl (lv_at hl 4 rfl) ?_
        obtain ⟨r_8, hr_8, hF⟩ := bd1_u hF
        refine vp_callSl (W.runS (As := [.long r_7, .long (498960 : Int64), .int a2]) (rest := []) ⟨hx, hb, hml, hown, hts⟩ (c_X2_lowestTerms l r_7 (498960 : Int64) a2 r_8 hr_8) (va_cwS 3 hts gX2_cover_X2_lowestTerms rfl rfl rfl (by decide +kernel) ⟨Nat.le_of_ble_eq_true rfl, Nat.le_of_ble_eq_true rfl⟩) preEq rfl rfl hl.1 rfl (lv_room (Nat.le_of_ble_eq_true rfl)) dX2_cover_51 ⟨Nat.le_of_ble_eq_true rfl, Nat.le_of_ble_eq_true rfl⟩) (fun r_8' qr_8 => ?_)
        obtain rfl := qr_8.symm
        rw [← hQ]
        exact W.lret (v := r_8) hx hb hr (fun t ht hW => ⟨_, rfl, Option.some.inj hF, ht⟩) (fun _ h => by cases h) dX2_cover_54
      · have hF := br1 hF c_6
        refine lv_ldc2 (v := -2) hx hb hown (hts (.constantLong RX2 92 (-2)) (by decide +kernel)) dX2_cover_35 ?_
        rw [← hQ]
        exact W.lret (v := (-2 : Int64)) hx hb hr (fun t ht hW => ⟨_, rfl, Option.some.inj hF, ht⟩) (fun _ h => by cases h) dX2_cover_38
    · have hF := br1 hF c_4
      refine lv_ldc2 (v := -1) hx hb hown (hts (.constantLong RX2 90 (-1)) (by decide +kernel)) dX2_cover_22 ?_
      rw [← hQ]
      exact W.lret (v := (-1 : Int64)) hx hb hr (fun t ht hW => ⟨_, rfl, Option.some.inj hF, ht⟩) (fun _ h => by cases h) dX2_cover_25

def L_X2_area_36 (xs : Nat → Int32) (ys : Nat → Int32) (sz : Int32) : Nat → Int32 → Int64 → Option (Int32 × Int64)
  | 0, _, _ => none
  | n + 1, k_5, k_6 =>
    if (16 : Int32) ≤ k_5 then
      some (k_5, k_6)
    else
      bd1 (P_X0_rawParts k_5 (0 : Int32) (0 : Int32) xs ys sz) (fun r_10 =>
      nm (k_6 + r_10) (fun v_11 =>
      L_X2_area_36 xs ys sz n (k_5 + (1 : Int32)) v_11))
theorem L_X2_area_36_s (xs : Nat → Int32) (ys : Nat → Int32) (sz : Int32) (n : Nat) (k_5 : Int32) (k_6 : Int64) : L_X2_area_36 xs ys sz (n + 1) k_5 k_6 =
    (if (16 : Int32) ≤ k_5 then
      some (k_5, k_6)
    else
      bd1 (P_X0_rawParts k_5 (0 : Int32) (0 : Int32) xs ys sz) (fun r_10 =>
      nm (k_6 + r_10) (fun v_11 =>
      L_X2_area_36 xs ys sz n (k_5 + (1 : Int32)) v_11))) := rfl

def P_X2_area (a0 : Int32) (a1 : Int32) (xs : Nat → Int32) (ys : Nat → Int32) (sz : Int32) : Option (Int64) :=
  bd1 (P_X2_within a0 (0 : Int32) (2 : Int32)) (fun r_1 =>
  if r_1 = (0 : Int32) then
    some (-1000000000000000001 : Int64)
  else
    bd1 (P_X2_within a1 (0 : Int32) (1 : Int32)) (fun r_3 =>
    if r_3 = (0 : Int32) then
      some (-1000000000000000002 : Int64)
    else
      bd2 (L_X2_area_36 xs ys sz 1000 (0 : Int32) (0 : Int64)) (fun o_7 o_8 =>
      bd1 (P_X2_lowestTerms o_8 (55440 : Int64) a1) (fun r_12 =>
      some r_12))))

def rm_X2_area : Room := { frames := 3, cells := 0, slots := 0, locals := 87 }

set_option maxHeartbeats 4000000 in
set_option maxRecDepth 100000 in
theorem c_X2_area (l : Launch) (dC : Nat → ClassId) (dI : Nat → Nat → Nat) (h0 sc im lr la xa ya : Nat) (cI cL : ClassId) (ke : Int32) (f : Nat → Option Nat) (xs : Nat → Int32) (ys : Nat → Int32) (sz : Int32) (fo : Int32) (a0 : Int32) (a1 : Int32) (r0 : Int64) (hs1 : P_X2_within a0 (0 : Int32) (2 : Int32) = some (1 : Int32) → f a0.toNatClampNeg = some la) (hF : P_X2_area a0 a1 xs ys sz = some r0) : Met l yX2_area wsX2_area rm_X2_area (va_Pc [.ref h0, .int a0, .int a1] (fun U => va_P (dC, dI) vwCl [(h0, .inr (2, [.ref sc, .ref im, .int ke])), (sc, .inr (1, [.ref lr])), (lr, .inl (cL, 3, .inr (.inr (.inr (.inr f))))), (la, .inr (0, [.ref xa, .ref ya, .int sz, .int fo])), (xa, .inl (cI, 8, .inl xs)), (ya, .inl (cI, 8, .inl ys))] U.heap ∧ va_K (dC, dI) vwCl [(cI, .int), (cL, .object RX0)] U ∧ nw U)) (vp_Sl (fun x => x = r0)) 0 0 (fun _ => False) := by
  refine Met.ofW (cc := cX2_area) (maxL := 7) (ret := (some .long)) (by decide) rfl ?_
  intro p e s m args below meth c s₁ B hml hv
  change W p l e rm_X2_area s m args below meth c s.heap [] 0 0 _ _
  obtain ⟨hv, hP, hK, hN⟩ := hv
  have hx := B.exec
  have hb := B.bytes
  have hr := B.returns
  have hts := atoms_spec (ws := wsX2_area) B.pre
  have hown : s.vm.findClass RX2 = some m.cls := findClass_of_methodNamed B.named
  have hlocks := B.notSynchronized
  have hN_RX0_25 := hN.1
  have hN_RX1_18 := hN.2.1
  have hN_RX1_26 := hN.2.2.1
  have hN_RX2_32 := hN.2.2.2.1
  have hN_RX2_44 := hN.2.2.2.2.1
  have hN_RX2_48 := hN.2.2.2.2.2.1
  have hN_RX2_55 := hN.2.2.2.2.2.2
  generalize hQ : MQ below (vp_Sl (fun x => x = r0)) args s 0 0 (fun _ => False) = Q
  have hl := lv_entry ([.ref h0, .int a0, .int a1]) (n := 7) (Nat.le_of_ble_eq_true rfl)
  have hE : entryFrame m args 7 = F0 m 0 ((lg_sl ([.ref h0, .int a0, .int a1]) ++ List.replicate (7 - (lg_sl ([.ref h0, .int a0, .int a1])).length) Slot.unset).toArray) [] := by rw [hv]; exact lg_entry_eq m _ 7
  rw [hE]
  generalize (lg_sl ([.ref h0, .int a0, .int a1]) ++ List.replicate (7 - (lg_sl ([.ref h0, .int a0, .int a1])).length) Slot.unset).toArray = ls at hl ⊢
  have hl : lv_has ls 7 [(0, .ref h0), (1, .int a0), (2, .int a1)] := hl
  unfold P_X2_area at hF
  refine lv_aload_n hx hb dX2_area_0 rfl (lv_at hl 0 rfl) ?_
  refine va_get (D := (dC, dI)) (ci := 2) (v := .ref sc) (C := RX2) (T := TX2) (N := 3) hx hb hts (by decide +kernel) hown hK hP 0 rfl rfl 0 (by decide) (hts (.fieldLink RX2 12 "DotCover" "now" "LDotCover$Scene;") (by decide +kernel)) (fun _ h9 => h9) rfl dX2_area_1 ?_
  refine lv_iload_n hx hb dX2_area_4 rfl (lv_at hl 1 rfl) ?_
  obtain ⟨r_1, hr_1, hF⟩ := bd1_u hF
  have hPc := hP.sub (ws' := [(sc, .inr (1, [.ref lr])), (lr, .inl (cL, 3, .inr (.inr (.inr (.inr f)))))]) [1, 2] rfl
  have hKc := hK.sub (tys' := [(cL, .object RX0)]) [1] rfl
  by_cases c_2 : r_1 = (0 : Int32)
  · have hF := br1 hF c_2
    refine va_csq (W.runV (As := [.int a0]) (rest := []) ⟨hx, hb, hml, hown, hts⟩ (c_X1_layerOf_out l dC dI sc lr cL f a0 (c_2 ▸ hr_1)) (cwV 1 hts gX2_area_X1_layerOf rfl rfl rfl (by decide +kernel) ⟨Nat.le_of_ble_eq_true rfl, Nat.le_of_ble_eq_true rfl⟩) ⟨fun a U g mk q => ⟨q.1, q.2.1, va_K.moved (u := U) (U := U.calling g mk a) (Vm.Alike.refl U.vm) q.2.2.1, nw_same rfl q.2.2.2⟩, va_recv hKc hPc (ci := 1) (q0 := 0) rfl rfl, fun U hU hW => ⟨rfl, by rw [hU]; exact hPc, va_K.moved hW.alike hKc, hN.warm hW⟩⟩ rfl rfl hl.1 rfl (lv_room (Nat.le_of_ble_eq_true rfl)) dX2_area_5 ⟨Nat.le_of_ble_eq_true rfl, Nat.le_of_ble_eq_true rfl⟩) (fun r_ hr_ => ?_)
    obtain rfl := hr_
    change W _ _ _ _ _ _ _ _ _ _ _ _ _ _ _ (F0 m 8 ls [.null])
    refine lv_astore_nN (lv' := [(3, .null), (0, .ref h0), (1, .int a0), (2, .int a1)]) hx hb dX2_area_8 rfl hl (by decide) rfl (fun ls hl => ?_)
    refine lv_aload_nN hx hb dX2_area_9 rfl (lv_at hl 0 rfl) ?_
    refine lv_ifnonnullN hx hb dX2_area_10 ?_
    refine lv_ldc2 (v := -1000000000000000001) hx hb hown (hts (.constantLong RX2 76 (-1000000000000000001)) (by decide +kernel)) dX2_area_13 ?_
    rw [← hQ]
    exact W.lret (v := (-1000000000000000001 : Int64)) hx hb hr (fun t ht hW => ⟨_, rfl, Option.some.inj hF, ht⟩) (fun _ h => by cases h) dX2_area_16
  · have hF := br0 hF c_2
    have hw1 := within_1 hr_1 c_2
    refine va_csq (W.runV (As := [.int a0]) (rest := []) ⟨hx, hb, hml, hown, hts⟩ (c_X1_layerOf_in l dC dI sc lr cL f a0 la hw1 (hs1 hw1)) (cwV 1 hts gX2_area_X1_layerOf rfl rfl rfl (by decide +kernel) ⟨Nat.le_of_ble_eq_true rfl, Nat.le_of_ble_eq_true rfl⟩) ⟨fun a U g mk q => ⟨q.1, q.2.1, va_K.moved (u := U) (U := U.calling g mk a) (Vm.Alike.refl U.vm) q.2.2.1, nw_same rfl q.2.2.2⟩, va_recv hKc hPc (ci := 1) (q0 := 0) rfl rfl, fun U hU hW => ⟨rfl, by rw [hU]; exact hPc, va_K.moved hW.alike hKc, hN.warm hW⟩⟩ rfl rfl hl.1 rfl (lv_room (Nat.le_of_ble_eq_true rfl)) dX2_area_5 ⟨Nat.le_of_ble_eq_true rfl, Nat.le_of_ble_eq_true rfl⟩) (fun r_ hr_ => ?_)
    obtain rfl := hr_
    change W _ _ _ _ _ _ _ _ _ _ _ _ _ _ _ (F0 m 8 ls [.ref la])
    refine lv_astore_n (lv' := [(3, .ref la), (0, .ref h0), (1, .int a0), (2, .int a1)]) hx hb dX2_area_8 rfl hl (by decide) rfl (fun ls hl => ?_)
    refine lv_aload_n hx hb dX2_area_9 rfl (lv_at hl 0 rfl) ?_
    refine lv_ifnonnull (tgt := 17) hx hb dX2_area_10 (by decide) ?_
    refine lv_iload_n hx hb dX2_area_17 rfl (lv_at hl 3 rfl) ?_
    refine lv_iconst (v := 0) hx hb dX2_area_18 (by decide) ?_
    refine lv_iconst (v := 1) hx hb dX2_area_19 (by decide) ?_
    obtain ⟨r_3, hr_3, hF⟩ := bd1_u hF
    refine vp_callSi (W.runS (As := [.int a1, .int (0 : Int32), .int (1 : Int32)]) (rest := []) ⟨hx, hb, hml, hown, hts⟩ (c_X2_within l a1 (0 : Int32) (1 : Int32) r_3 hr_3) (va_cwS 3 hts gX2_area_X2_within rfl rfl rfl (by decide +kernel) ⟨Nat.le_of_ble_eq_true rfl, Nat.le_of_ble_eq_true rfl⟩) preEq rfl rfl hl.1 rfl (lv_room (Nat.le_of_ble_eq_true rfl)) dX2_area_20 ⟨Nat.le_of_ble_eq_true rfl, Nat.le_of_ble_eq_true rfl⟩) (fun r_3' qr_3 => ?_)
    obtain rfl := qr_3.symm
    refine lv_if_ne (tgt := 30) hx hb dX2_area_23 (by decide) (fun c_4 => ?_) (fun c_4 => ?_)
    · have hF := br0 hF c_4
      refine lv_lconst (v := 0) hx hb dX2_area_30 (by decide) ?_
      refine lv_lstore (lv' := [(4, .long (0 : Int64)), (3, .ref la), (0, .ref h0), (1, .int a0), (2, .int a1)]) hx hb dX2_area_31 hl (by decide) rfl (fun ls hl => ?_)
      refine lv_iconst (v := 0) hx hb dX2_area_33 (by decide) ?_
      refine lv_istore (lv' := [(6, .int (0 : Int32)), (4, .long (0 : Int64)), (3, .ref la), (0, .ref h0), (1, .int a0), (2, .int a1)]) hx hb dX2_area_34 hl (by decide) rfl (fun ls hl => ?_)
      obtain ⟨o_7, o_8, hL_36, hF⟩ := bd2_u hF
      have lp_36 : ∀ (n : Nat) (k_5 : Int32) (k_6 : Int64) (o_7 : Int32) (o_8 : Int64) (ls : Array Slot), L_X2_area_36 xs ys sz n k_5 k_6 = some (o_7, o_8) → lv_has ls 7 [(6, .int k_5), (4, .long k_6), (3, .ref la), (0, .ref h0), (1, .int a0), (2, .int a1)] → (∀ (ls : Array Slot), lv_has ls 7 [(6, .int o_7), (4, .long o_8), (3, .ref la), (0, .ref h0), (1, .int a0), (2, .int a1)] → W p l e rm_X2_area s m args below meth c s.heap [] 0 0 Q (F0 m 62 ls [])) → W p l e rm_X2_area s m args below meth c s.heap [] 0 0 Q (F0 m 36 ls []) := by
        intro n
        induction n with
        | zero =>
          intro k_5 k_6 o_7 o_8 ls hF
          exact nn ((rfl : L_X2_area_36 xs ys sz 0 k_5 k_6 = none).symm.trans hF)
        | succ n ih_36 =>
          intro k_5 k_6 o_7 o_8 ls hF hl kx_36
          have hF := (L_X2_area_36_s xs ys sz n k_5 k_6).symm.trans hF
          refine lv_iload hx hb dX2_area_36 (lv_at hl 0 rfl) ?_
          refine lv_bipush (v := 16) hx hb dX2_area_38 (by decide) ?_
          refine lv_icmp_ge (tgt := 62) hx hb dX2_area_40 (by decide) (fun c_9 => ?_) (fun c_9 => ?_)
          · have hF := br1 hF c_9
            obtain ⟨rfl, rfl⟩ := tp2 hF
            exact kx_36 ls hl
          · have hF := br0 hF c_9
            refine lv_lload hx hb dX2_area_43 (lv_at hl 1 rfl) ?_
            refine lv_aload_n hx hb dX2_area_45 rfl (lv_at hl 2 rfl) ?_
            refine lv_iload hx hb dX2_area_46 (lv_at hl 0 rfl) ?_
            refine lv_iconst (v := 0) hx hb dX2_area_48 (by decide) ?_
            refine lv_iconst (v := 0) hx hb dX2_area_49 (by decide) ?_
            obtain ⟨r_10, hr_10, hF⟩ := bd1_u hF
            have hPc := hP.sub (ws' := [(la, .inr (0, [.ref xa, .ref ya, .int sz, .int fo])), (xa, .inl (cI, 8, .inl xs)), (ya, .inl (cI, 8, .inl ys))]) [3, 4, 5] rfl
            have hKc := hK.sub (tys' := [(cI, .int)]) [0] rfl
            refine vp_callSl (W.runV (As := [.int k_5, .int (0 : Int32), .int (0 : Int32)]) (rest := [.long k_6]) ⟨hx, hb, hml, hown, hts⟩ (c_X0_rawParts l dC dI la xa ya cI xs ys sz fo k_5 (0 : Int32) (0 : Int32) r_10 hr_10) (cwV 3 hts gX2_area_X0_rawParts rfl rfl rfl (by decide +kernel) ⟨Nat.le_of_ble_eq_true rfl, Nat.le_of_ble_eq_true rfl⟩) ⟨fun a U g mk q => ⟨q.1, q.2.1, va_K.moved (u := U) (U := U.calling g mk a) (Vm.Alike.refl U.vm) q.2.2⟩, va_recv hKc hPc (ci := 0) (q0 := 0) rfl rfl, fun U hU hW => ⟨rfl, by rw [hU]; exact hPc, va_K.moved hW.alike hKc⟩⟩ rfl rfl hl.1 rfl (lv_room (Nat.le_of_ble_eq_true rfl)) dX2_area_50 ⟨Nat.le_of_ble_eq_true rfl, Nat.le_of_ble_eq_true rfl⟩) (fun r_10' qr_10 => ?_)
            obtain rfl := qr_10.symm
            refine lv_ladd hx hb dX2_area_53 ?_
            refine lv_topl (fun v_11 ev_11 => ?_)
            have hF := nm_u hF ev_11
            refine lv_lstore (lv' := [(4, .long v_11), (6, .int k_5), (3, .ref la), (0, .ref h0), (1, .int a0), (2, .int a1)]) hx hb dX2_area_54 hl (by decide) rfl (fun ls hl => ?_)
            refine lv_iinc (v := (k_5 + (1 : Int32))) (lv' := [(6, .int (k_5 + (1 : Int32))), (4, .long v_11), (3, .ref la), (0, .ref h0), (1, .int a0), (2, .int a1)]) hx hb dX2_area_56 hl (k := 1) rfl rfl (by decide) rfl (fun ls hl => ?_)
            refine lv_goto (tgt := 36) hx hb dX2_area_59 (by decide) ?_
            exact ih_36 _ _ _ _ ls hF hl kx_36
      refine lp_36 1000 (0 : Int32) (0 : Int64) o_7 o_8 ls hL_36 hl (fun ls hl => ?_)
      refine lv_lload hx hb dX2_area_62 (lv_at hl 1 rfl) ?_
      refine lv_ldc2 (v := 55440) hx hb hown (hts (.constantLong RX2 103 (55440)) (by decide +kernel)) dX2_area_64 ?_
      refine lv_iload_n hx hb dX2_area_67 rfl (lv_at hl 5 rfl) ?_
      obtain ⟨r_12, hr_12, hF⟩ := bd1_u hF
      refine vp_callSl (W.runS (As := [.long o_8, .long (55440 : Int64), .int a1]) (rest := []) ⟨hx, hb, hml, hown, hts⟩ (c_X2_lowestTerms l o_8 (55440 : Int64) a1 r_12 hr_12) (va_cwS 3 hts gX2_area_X2_lowestTerms rfl rfl rfl (by decide +kernel) ⟨Nat.le_of_ble_eq_true rfl, Nat.le_of_ble_eq_true rfl⟩) preEq rfl rfl hl.1 rfl (lv_room (Nat.le_of_ble_eq_true rfl)) dX2_area_68 ⟨Nat.le_of_ble_eq_true rfl, Nat.le_of_ble_eq_true rfl⟩) (fun r_12' qr_12 => ?_)
      obtain rfl := qr_12.symm
      rw [← hQ]
      exact W.lret (v := r_12) hx hb hr (fun t ht hW => ⟨_, rfl, Option.some.inj hF, ht⟩) (fun _ h => by cases h) dX2_area_71
    · have hF := br1 hF c_4
      refine lv_ldc2 (v := -1000000000000000002) hx hb hown (hts (.constantLong RX2 78 (-1000000000000000002)) (by decide +kernel)) dX2_area_26 ?_
      rw [← hQ]
      exact W.lret (v := (-1000000000000000002 : Int64)) hx hb hr (fun t ht hW => ⟨_, rfl, Option.some.inj hF, ht⟩) (fun _ h => by cases h) dX2_area_29

def L_X2_enough_45 (xs : Nat → Int32) (ys : Nat → Int32) (sz : Int32) (fo : Int32) (a1 : Int32) (a2 : Int32) : Nat → Int32 → Int32 → Option (Int32 × Int32)
  | 0, _, _ => none
  | n + 1, k_7, k_8 =>
    if (16 : Int32) ≤ k_7 then
      some (k_7, k_8)
    else
      bd1 (P_X0_coverParts k_7 (0 : Int32) (0 : Int32) xs ys sz fo) (fun r_12 =>
      if (r_12 * a2.toInt64) < ((498960 : Int64) * a1.toInt64) then
        L_X2_enough_45 xs ys sz fo a1 a2 n (k_7 + (1 : Int32)) k_8
      else
        nm (k_8 ||| ((1 : Int32) <<< (k_7 &&& 31))) (fun v_14 =>
        L_X2_enough_45 xs ys sz fo a1 a2 n (k_7 + (1 : Int32)) v_14))
theorem L_X2_enough_45_s (xs : Nat → Int32) (ys : Nat → Int32) (sz : Int32) (fo : Int32) (a1 : Int32) (a2 : Int32) (n : Nat) (k_7 : Int32) (k_8 : Int32) : L_X2_enough_45 xs ys sz fo a1 a2 (n + 1) k_7 k_8 =
    (if (16 : Int32) ≤ k_7 then
      some (k_7, k_8)
    else
      bd1 (P_X0_coverParts k_7 (0 : Int32) (0 : Int32) xs ys sz fo) (fun r_12 =>
      if (r_12 * a2.toInt64) < ((498960 : Int64) * a1.toInt64) then
        L_X2_enough_45 xs ys sz fo a1 a2 n (k_7 + (1 : Int32)) k_8
      else
        nm (k_8 ||| ((1 : Int32) <<< (k_7 &&& 31))) (fun v_14 =>
        L_X2_enough_45 xs ys sz fo a1 a2 n (k_7 + (1 : Int32)) v_14))) := rfl

def P_X2_enough (a0 : Int32) (a1 : Int32) (a2 : Int32) (xs : Nat → Int32) (ys : Nat → Int32) (sz : Int32) (fo : Int32) : Option (Int32) :=
  bd1 (P_X2_within a0 (0 : Int32) (2 : Int32)) (fun r_1 =>
  if r_1 = (0 : Int32) then
    some (-1 : Int32)
  else
    bd1 (P_X2_within a2 (1 : Int32) (99 : Int32)) (fun r_3 =>
    if r_3 = (0 : Int32) then
      some (-2 : Int32)
    else
      bd1 (P_X2_within a1 (0 : Int32) a2) (fun r_5 =>
      if r_5 = (0 : Int32) then
        some (-2 : Int32)
      else
        bd2 (L_X2_enough_45 xs ys sz fo a1 a2 1000 (0 : Int32) (0 : Int32)) (fun o_9 o_10 =>
        some o_10))))

def rm_X2_enough : Room := { frames := 4, cells := 0, slots := 0, locals := 114 }

set_option maxHeartbeats 4000000 in
set_option maxRecDepth 100000 in
theorem c_X2_enough (l : Launch) (dC : Nat → ClassId) (dI : Nat → Nat → Nat) (h0 sc im lr la xa ya : Nat) (cI cL : ClassId) (ke : Int32) (f : Nat → Option Nat) (xs : Nat → Int32) (ys : Nat → Int32) (sz : Int32) (fo : Int32) (a0 : Int32) (a1 : Int32) (a2 : Int32) (r0 : Int32) (hs1 : P_X2_within a0 (0 : Int32) (2 : Int32) = some (1 : Int32) → f a0.toNatClampNeg = some la) (hF : P_X2_enough a0 a1 a2 xs ys sz fo = some r0) : Met l yX2_enough wsX2_enough rm_X2_enough (va_Pc [.ref h0, .int a0, .int a1, .int a2] (fun U => va_P (dC, dI) vwCl [(h0, .inr (2, [.ref sc, .ref im, .int ke])), (sc, .inr (1, [.ref lr])), (lr, .inl (cL, 3, .inr (.inr (.inr (.inr f))))), (la, .inr (0, [.ref xa, .ref ya, .int sz, .int fo])), (xa, .inl (cI, 8, .inl xs)), (ya, .inl (cI, 8, .inl ys))] U.heap ∧ va_K (dC, dI) vwCl [(cI, .int), (cL, .object RX0)] U ∧ nw U)) (vp_Si (fun x => x = r0)) 0 0 (fun _ => False) := by
  refine Met.ofW (cc := cX2_enough) (maxL := 7) (ret := (some .int)) (by decide) rfl ?_
  intro p e s m args below meth c s₁ B hml hv
  change W p l e rm_X2_enough s m args below meth c s.heap [] 0 0 _ _
  obtain ⟨hv, hP, hK, hN⟩ := hv
  have hx := B.exec
  have hb := B.bytes
  have hr := B.returns
  have hts := atoms_spec (ws := wsX2_enough) B.pre
  have hown : s.vm.findClass RX2 = some m.cls := findClass_of_methodNamed B.named
  have hlocks := B.notSynchronized
  have hN_RX0_25 := hN.1
  have hN_RX1_18 := hN.2.1
  have hN_RX1_26 := hN.2.2.1
  have hN_RX2_32 := hN.2.2.2.1
  have hN_RX2_44 := hN.2.2.2.2.1
  have hN_RX2_48 := hN.2.2.2.2.2.1
  have hN_RX2_55 := hN.2.2.2.2.2.2
  generalize hQ : MQ below (vp_Si (fun x => x = r0)) args s 0 0 (fun _ => False) = Q
  have hl := lv_entry ([.ref h0, .int a0, .int a1, .int a2]) (n := 7) (Nat.le_of_ble_eq_true rfl)
  have hE : entryFrame m args 7 = F0 m 0 ((lg_sl ([.ref h0, .int a0, .int a1, .int a2]) ++ List.replicate (7 - (lg_sl ([.ref h0, .int a0, .int a1, .int a2])).length) Slot.unset).toArray) [] := by rw [hv]; exact lg_entry_eq m _ 7
  rw [hE]
  generalize (lg_sl ([.ref h0, .int a0, .int a1, .int a2]) ++ List.replicate (7 - (lg_sl ([.ref h0, .int a0, .int a1, .int a2])).length) Slot.unset).toArray = ls at hl ⊢
  have hl : lv_has ls 7 [(0, .ref h0), (1, .int a0), (2, .int a1), (3, .int a2)] := hl
  unfold P_X2_enough at hF
  refine lv_aload_n hx hb dX2_enough_0 rfl (lv_at hl 0 rfl) ?_
  refine va_get (D := (dC, dI)) (ci := 2) (v := .ref sc) (C := RX2) (T := TX2) (N := 3) hx hb hts (by decide +kernel) hown hK hP 0 rfl rfl 0 (by decide) (hts (.fieldLink RX2 12 "DotCover" "now" "LDotCover$Scene;") (by decide +kernel)) (fun _ h9 => h9) rfl dX2_enough_1 ?_
  refine lv_iload_n hx hb dX2_enough_4 rfl (lv_at hl 1 rfl) ?_
  obtain ⟨r_1, hr_1, hF⟩ := bd1_u hF
  have hPc := hP.sub (ws' := [(sc, .inr (1, [.ref lr])), (lr, .inl (cL, 3, .inr (.inr (.inr (.inr f)))))]) [1, 2] rfl
  have hKc := hK.sub (tys' := [(cL, .object RX0)]) [1] rfl
  by_cases c_2 : r_1 = (0 : Int32)
  · have hF := br1 hF c_2
    refine va_csq (W.runV (As := [.int a0]) (rest := []) ⟨hx, hb, hml, hown, hts⟩ (c_X1_layerOf_out l dC dI sc lr cL f a0 (c_2 ▸ hr_1)) (cwV 1 hts gX2_enough_X1_layerOf rfl rfl rfl (by decide +kernel) ⟨Nat.le_of_ble_eq_true rfl, Nat.le_of_ble_eq_true rfl⟩) ⟨fun a U g mk q => ⟨q.1, q.2.1, va_K.moved (u := U) (U := U.calling g mk a) (Vm.Alike.refl U.vm) q.2.2.1, nw_same rfl q.2.2.2⟩, va_recv hKc hPc (ci := 1) (q0 := 0) rfl rfl, fun U hU hW => ⟨rfl, by rw [hU]; exact hPc, va_K.moved hW.alike hKc, hN.warm hW⟩⟩ rfl rfl hl.1 rfl (lv_room (Nat.le_of_ble_eq_true rfl)) dX2_enough_5 ⟨Nat.le_of_ble_eq_true rfl, Nat.le_of_ble_eq_true rfl⟩) (fun r_ hr_ => ?_)
    obtain rfl := hr_
    change W _ _ _ _ _ _ _ _ _ _ _ _ _ _ _ (F0 m 8 ls [.null])
    refine lv_astoreN (lv' := [(4, .null), (0, .ref h0), (1, .int a0), (2, .int a1), (3, .int a2)]) hx hb dX2_enough_8 hl (by decide) rfl (fun ls hl => ?_)
    refine lv_aloadN hx hb dX2_enough_10 (lv_at hl 0 rfl) ?_
    refine lv_ifnonnullN hx hb dX2_enough_12 ?_
    refine lv_iconst (v := -1) hx hb dX2_enough_15 (by decide) ?_
    rw [← hQ]
    exact W.iret (v := (-1 : Int32)) hx hb hr (fun t ht hW => ⟨_, rfl, Option.some.inj hF, ht⟩) (fun _ h => by cases h) dX2_enough_16
  · have hF := br0 hF c_2
    have hw1 := within_1 hr_1 c_2
    refine va_csq (W.runV (As := [.int a0]) (rest := []) ⟨hx, hb, hml, hown, hts⟩ (c_X1_layerOf_in l dC dI sc lr cL f a0 la hw1 (hs1 hw1)) (cwV 1 hts gX2_enough_X1_layerOf rfl rfl rfl (by decide +kernel) ⟨Nat.le_of_ble_eq_true rfl, Nat.le_of_ble_eq_true rfl⟩) ⟨fun a U g mk q => ⟨q.1, q.2.1, va_K.moved (u := U) (U := U.calling g mk a) (Vm.Alike.refl U.vm) q.2.2.1, nw_same rfl q.2.2.2⟩, va_recv hKc hPc (ci := 1) (q0 := 0) rfl rfl, fun U hU hW => ⟨rfl, by rw [hU]; exact hPc, va_K.moved hW.alike hKc, hN.warm hW⟩⟩ rfl rfl hl.1 rfl (lv_room (Nat.le_of_ble_eq_true rfl)) dX2_enough_5 ⟨Nat.le_of_ble_eq_true rfl, Nat.le_of_ble_eq_true rfl⟩) (fun r_ hr_ => ?_)
    obtain rfl := hr_
    change W _ _ _ _ _ _ _ _ _ _ _ _ _ _ _ (F0 m 8 ls [.ref la])
    refine lv_astore (lv' := [(4, .ref la), (0, .ref h0), (1, .int a0), (2, .int a1), (3, .int a2)]) hx hb dX2_enough_8 hl (by decide) rfl (fun ls hl => ?_)
    refine lv_aload hx hb dX2_enough_10 (lv_at hl 0 rfl) ?_
    refine lv_ifnonnull (tgt := 17) hx hb dX2_enough_12 (by decide) ?_
    refine lv_iload_n hx hb dX2_enough_17 rfl (lv_at hl 4 rfl) ?_
    refine lv_iconst (v := 1) hx hb dX2_enough_18 (by decide) ?_
    refine lv_bipush (v := 99) hx hb dX2_enough_19 (by decide) ?_
    obtain ⟨r_3, hr_3, hF⟩ := bd1_u hF
    refine vp_callSi (W.runS (As := [.int a2, .int (1 : Int32), .int (99 : Int32)]) (rest := []) ⟨hx, hb, hml, hown, hts⟩ (c_X2_within l a2 (1 : Int32) (99 : Int32) r_3 hr_3) (va_cwS 3 hts gX2_enough_X2_within rfl rfl rfl (by decide +kernel) ⟨Nat.le_of_ble_eq_true rfl, Nat.le_of_ble_eq_true rfl⟩) preEq rfl rfl hl.1 rfl (lv_room (Nat.le_of_ble_eq_true rfl)) dX2_enough_21 ⟨Nat.le_of_ble_eq_true rfl, Nat.le_of_ble_eq_true rfl⟩) (fun r_3' qr_3 => ?_)
    obtain rfl := qr_3.symm
    refine lv_if_eq (tgt := 36) hx hb dX2_enough_24 (by decide) (fun c_4 => ?_) (fun c_4 => ?_)
    · have hF := br1 hF c_4
      refine lv_bipush (v := -2) hx hb dX2_enough_36 (by decide) ?_
      rw [← hQ]
      exact W.iret (v := (-2 : Int32)) hx hb hr (fun t ht hW => ⟨_, rfl, Option.some.inj hF, ht⟩) (fun _ h => by cases h) dX2_enough_38
    · have hF := br0 hF c_4
      refine lv_iload_n hx hb dX2_enough_27 rfl (lv_at hl 3 rfl) ?_
      refine lv_iconst (v := 0) hx hb dX2_enough_28 (by decide) ?_
      refine lv_iload_n hx hb dX2_enough_29 rfl (lv_at hl 4 rfl) ?_
      obtain ⟨r_5, hr_5, hF⟩ := bd1_u hF
      refine vp_callSi (W.runS (As := [.int a1, .int (0 : Int32), .int a2]) (rest := []) ⟨hx, hb, hml, hown, hts⟩ (c_X2_within l a1 (0 : Int32) a2 r_5 hr_5) (va_cwS 3 hts gX2_enough_X2_within rfl rfl rfl (by decide +kernel) ⟨Nat.le_of_ble_eq_true rfl, Nat.le_of_ble_eq_true rfl⟩) preEq rfl rfl hl.1 rfl (lv_room (Nat.le_of_ble_eq_true rfl)) dX2_enough_30 ⟨Nat.le_of_ble_eq_true rfl, Nat.le_of_ble_eq_true rfl⟩) (fun r_5' qr_5 => ?_)
      obtain rfl := qr_5.symm
      refine lv_if_ne (tgt := 39) hx hb dX2_enough_33 (by decide) (fun c_6 => ?_) (fun c_6 => ?_)
      · have hF := br0 hF c_6
        refine lv_iconst (v := 0) hx hb dX2_enough_39 (by decide) ?_
        refine lv_istore (lv' := [(5, .int (0 : Int32)), (4, .ref la), (0, .ref h0), (1, .int a0), (2, .int a1), (3, .int a2)]) hx hb dX2_enough_40 hl (by decide) rfl (fun ls hl => ?_)
        refine lv_iconst (v := 0) hx hb dX2_enough_42 (by decide) ?_
        refine lv_istore (lv' := [(6, .int (0 : Int32)), (5, .int (0 : Int32)), (4, .ref la), (0, .ref h0), (1, .int a0), (2, .int a1), (3, .int a2)]) hx hb dX2_enough_43 hl (by decide) rfl (fun ls hl => ?_)
        obtain ⟨o_9, o_10, hL_45, hF⟩ := bd2_u hF
        have lp_45 : ∀ (n : Nat) (k_7 : Int32) (k_8 : Int32) (o_9 : Int32) (o_10 : Int32) (ls : Array Slot), L_X2_enough_45 xs ys sz fo a1 a2 n k_7 k_8 = some (o_9, o_10) → lv_has ls 7 [(6, .int k_7), (5, .int k_8), (4, .ref la), (0, .ref h0), (1, .int a0), (2, .int a1), (3, .int a2)] → (∀ (ls : Array Slot), lv_has ls 7 [(6, .int o_9), (5, .int o_10), (4, .ref la), (0, .ref h0), (1, .int a0), (2, .int a1), (3, .int a2)] → W p l e rm_X2_enough s m args below meth c s.heap [] 0 0 Q (F0 m 89 ls [])) → W p l e rm_X2_enough s m args below meth c s.heap [] 0 0 Q (F0 m 45 ls []) := by
          intro n
          induction n with
          | zero =>
            intro k_7 k_8 o_9 o_10 ls hF
            exact nn ((rfl : L_X2_enough_45 xs ys sz fo a1 a2 0 k_7 k_8 = none).symm.trans hF)
          | succ n ih_45 =>
            intro k_7 k_8 o_9 o_10 ls hF hl kx_45
            have hF := (L_X2_enough_45_s xs ys sz fo a1 a2 n k_7 k_8).symm.trans hF
            refine lv_iload hx hb dX2_enough_45 (lv_at hl 0 rfl) ?_
            refine lv_bipush (v := 16) hx hb dX2_enough_47 (by decide) ?_
            refine lv_icmp_ge (tgt := 89) hx hb dX2_enough_49 (by decide) (fun c_11 => ?_) (fun c_11 => ?_)
            · have hF := br1 hF c_11
              obtain ⟨rfl, rfl⟩ := tp2 hF
              exact kx_45 ls hl
            · have hF := br0 hF c_11
              refine lv_aload hx hb dX2_enough_52 (lv_at hl 2 rfl) ?_
              refine lv_iload hx hb dX2_enough_54 (lv_at hl 0 rfl) ?_
              refine lv_iconst (v := 0) hx hb dX2_enough_56 (by decide) ?_
              refine lv_iconst (v := 0) hx hb dX2_enough_57 (by decide) ?_
              obtain ⟨r_12, hr_12, hF⟩ := bd1_u hF
              have hPc := hP.sub (ws' := [(la, .inr (0, [.ref xa, .ref ya, .int sz, .int fo])), (xa, .inl (cI, 8, .inl xs)), (ya, .inl (cI, 8, .inl ys))]) [3, 4, 5] rfl
              have hKc := hK.sub (tys' := [(cI, .int)]) [0] rfl
              refine vp_callSl (W.runV (As := [.int k_7, .int (0 : Int32), .int (0 : Int32)]) (rest := []) ⟨hx, hb, hml, hown, hts⟩ (c_X0_coverParts l dC dI la xa ya cI xs ys sz fo k_7 (0 : Int32) (0 : Int32) r_12 hr_12) (cwV 3 hts gX2_enough_X0_coverParts rfl rfl rfl (by decide +kernel) ⟨Nat.le_of_ble_eq_true rfl, Nat.le_of_ble_eq_true rfl⟩) ⟨fun a U g mk q => ⟨q.1, q.2.1, va_K.moved (u := U) (U := U.calling g mk a) (Vm.Alike.refl U.vm) q.2.2⟩, va_recv hKc hPc (ci := 0) (q0 := 0) rfl rfl, fun U hU hW => ⟨rfl, by rw [hU]; exact hPc, va_K.moved hW.alike hKc⟩⟩ rfl rfl hl.1 rfl (lv_room (Nat.le_of_ble_eq_true rfl)) dX2_enough_58 ⟨Nat.le_of_ble_eq_true rfl, Nat.le_of_ble_eq_true rfl⟩) (fun r_12' qr_12 => ?_)
              obtain rfl := qr_12.symm
              refine lv_iload_n hx hb dX2_enough_61 rfl (lv_at hl 6 rfl) ?_
              refine lv_i2l (v := a2.toInt64) hx hb dX2_enough_62 rfl ?_
              refine lv_lmul hx hb dX2_enough_63 ?_
              refine lv_ldc2 (v := 498960) hx hb hown (hts (.constantLong RX2 84 (498960)) (by decide +kernel)) dX2_enough_64 ?_
              refine lv_iload_n hx hb dX2_enough_67 rfl (lv_at hl 5 rfl) ?_
              refine lv_i2l (v := a1.toInt64) hx hb dX2_enough_68 rfl ?_
              refine lv_lmul hx hb dX2_enough_69 ?_
              refine lc_lt (tgt := 83) hx hb dX2_enough_70 dX2_enough_71 (by decide) (fun c_13 => ?_) (fun c_13 => ?_)
              · have hF := br1 hF c_13
                refine lv_iinc (v := (k_7 + (1 : Int32))) (lv' := [(6, .int (k_7 + (1 : Int32))), (5, .int k_8), (4, .ref la), (0, .ref h0), (1, .int a0), (2, .int a1), (3, .int a2)]) hx hb dX2_enough_83 hl (k := 0) rfl rfl (by decide) rfl (fun ls hl => ?_)
                refine lv_goto (tgt := 45) hx hb dX2_enough_86 (by decide) ?_
                exact ih_45 _ _ _ _ ls hF hl kx_45
              · have hF := br0 hF c_13
                refine lv_iload hx hb dX2_enough_74 (lv_at hl 1 rfl) ?_
                refine lv_iconst (v := 1) hx hb dX2_enough_76 (by decide) ?_
                refine lv_iload hx hb dX2_enough_77 (lv_at hl 0 rfl) ?_
                refine lv_ishl hx hb dX2_enough_79 ?_
                refine lv_ior hx hb dX2_enough_80 ?_
                refine lv_topi (fun v_14 ev_14 => ?_)
                have hF := nm_u hF ev_14
                refine lv_istore (lv' := [(5, .int v_14), (6, .int k_7), (4, .ref la), (0, .ref h0), (1, .int a0), (2, .int a1), (3, .int a2)]) hx hb dX2_enough_81 hl (by decide) rfl (fun ls hl => ?_)
                refine lv_iinc (v := (k_7 + (1 : Int32))) (lv' := [(6, .int (k_7 + (1 : Int32))), (5, .int v_14), (4, .ref la), (0, .ref h0), (1, .int a0), (2, .int a1), (3, .int a2)]) hx hb dX2_enough_83 hl (k := 1) rfl rfl (by decide) rfl (fun ls hl => ?_)
                refine lv_goto (tgt := 45) hx hb dX2_enough_86 (by decide) ?_
                exact ih_45 _ _ _ _ ls hF hl kx_45
        refine lp_45 1000 (0 : Int32) (0 : Int32) o_9 o_10 ls hL_45 hl (fun ls hl => ?_)
        refine lv_iload hx hb dX2_enough_89 (lv_at hl 1 rfl) ?_
        rw [← hQ]
        exact W.iret (v := o_10) hx hb hr (fun t ht hW => ⟨_, rfl, Option.some.inj hF, ht⟩) (fun _ h => by cases h) dX2_enough_91
      · have hF := br1 hF c_6
        refine lv_bipush (v := -2) hx hb dX2_enough_36 (by decide) ?_
        rw [← hQ]
        exact W.iret (v := (-2 : Int32)) hx hb hr (fun t ht hW => ⟨_, rfl, Option.some.inj hF, ht⟩) (fun _ h => by cases h) dX2_enough_38

def P_X2_best (a0 : Int32) (a1 : Int32) (xs : Nat → Int32) (ys : Nat → Int32) (sz : Int32) (fo : Int32) : Option (Int32) :=
  bd1 (P_X2_within a0 (0 : Int32) (2 : Int32)) (fun r_1 =>
  if r_1 = (0 : Int32) then
    some (-1 : Int32)
  else
    bd1 (P_X2_within a1 (0 : Int32) (2 : Int32)) (fun r_3 =>
    if r_3 = (0 : Int32) then
      some (-2 : Int32)
    else
      if (0 : Int32) < sz then
        bd1 (P_X0_bestMove a1 xs ys sz fo) (fun r_6 =>
        some r_6)
      else
        some (-6 : Int32)))

def rm_X2_best : Room := { frames := 6, cells := 0, slots := 0, locals := 173 }

set_option maxHeartbeats 4000000 in
set_option maxRecDepth 100000 in
theorem c_X2_best (l : Launch) (dC : Nat → ClassId) (dI : Nat → Nat → Nat) (h0 sc im lr la xa ya : Nat) (cI cL : ClassId) (ke : Int32) (f : Nat → Option Nat) (xs : Nat → Int32) (ys : Nat → Int32) (sz : Int32) (fo : Int32) (a0 : Int32) (a1 : Int32) (r0 : Int32) (hs1 : P_X2_within a0 (0 : Int32) (2 : Int32) = some (1 : Int32) → f a0.toNatClampNeg = some la) (hF : P_X2_best a0 a1 xs ys sz fo = some r0) : Met l yX2_best wsX2_best rm_X2_best (va_Pc [.ref h0, .int a0, .int a1] (fun U => va_P (dC, dI) vwCl [(h0, .inr (2, [.ref sc, .ref im, .int ke])), (sc, .inr (1, [.ref lr])), (lr, .inl (cL, 3, .inr (.inr (.inr (.inr f))))), (la, .inr (0, [.ref xa, .ref ya, .int sz, .int fo])), (xa, .inl (cI, 8, .inl xs)), (ya, .inl (cI, 8, .inl ys))] U.heap ∧ va_K (dC, dI) vwCl [(cI, .int), (cL, .object RX0)] U ∧ nw U)) (vp_Si (fun x => x = r0)) 0 0 (fun _ => False) := by
  refine Met.ofW (cc := cX2_best) (maxL := 4) (ret := (some .int)) (by decide) rfl ?_
  intro p e s m args below meth c s₁ B hml hv
  change W p l e rm_X2_best s m args below meth c s.heap [] 0 0 _ _
  obtain ⟨hv, hP, hK, hN⟩ := hv
  have hx := B.exec
  have hb := B.bytes
  have hr := B.returns
  have hts := atoms_spec (ws := wsX2_best) B.pre
  have hown : s.vm.findClass RX2 = some m.cls := findClass_of_methodNamed B.named
  have hlocks := B.notSynchronized
  have hN_RX0_25 := hN.1
  have hN_RX1_18 := hN.2.1
  have hN_RX1_26 := hN.2.2.1
  have hN_RX2_32 := hN.2.2.2.1
  have hN_RX2_44 := hN.2.2.2.2.1
  have hN_RX2_48 := hN.2.2.2.2.2.1
  have hN_RX2_55 := hN.2.2.2.2.2.2
  generalize hQ : MQ below (vp_Si (fun x => x = r0)) args s 0 0 (fun _ => False) = Q
  have hl := lv_entry ([.ref h0, .int a0, .int a1]) (n := 4) (Nat.le_of_ble_eq_true rfl)
  have hE : entryFrame m args 4 = F0 m 0 ((lg_sl ([.ref h0, .int a0, .int a1]) ++ List.replicate (4 - (lg_sl ([.ref h0, .int a0, .int a1])).length) Slot.unset).toArray) [] := by rw [hv]; exact lg_entry_eq m _ 4
  rw [hE]
  generalize (lg_sl ([.ref h0, .int a0, .int a1]) ++ List.replicate (4 - (lg_sl ([.ref h0, .int a0, .int a1])).length) Slot.unset).toArray = ls at hl ⊢
  have hl : lv_has ls 4 [(0, .ref h0), (1, .int a0), (2, .int a1)] := hl
  unfold P_X2_best at hF
  refine lv_aload_n hx hb dX2_best_0 rfl (lv_at hl 0 rfl) ?_
  refine va_get (D := (dC, dI)) (ci := 2) (v := .ref sc) (C := RX2) (T := TX2) (N := 3) hx hb hts (by decide +kernel) hown hK hP 0 rfl rfl 0 (by decide) (hts (.fieldLink RX2 12 "DotCover" "now" "LDotCover$Scene;") (by decide +kernel)) (fun _ h9 => h9) rfl dX2_best_1 ?_
  refine lv_iload_n hx hb dX2_best_4 rfl (lv_at hl 1 rfl) ?_
  obtain ⟨r_1, hr_1, hF⟩ := bd1_u hF
  have hPc := hP.sub (ws' := [(sc, .inr (1, [.ref lr])), (lr, .inl (cL, 3, .inr (.inr (.inr (.inr f)))))]) [1, 2] rfl
  have hKc := hK.sub (tys' := [(cL, .object RX0)]) [1] rfl
  by_cases c_2 : r_1 = (0 : Int32)
  · have hF := br1 hF c_2
    refine va_csq (W.runV (As := [.int a0]) (rest := []) ⟨hx, hb, hml, hown, hts⟩ (c_X1_layerOf_out l dC dI sc lr cL f a0 (c_2 ▸ hr_1)) (cwV 1 hts gX2_best_X1_layerOf rfl rfl rfl (by decide +kernel) ⟨Nat.le_of_ble_eq_true rfl, Nat.le_of_ble_eq_true rfl⟩) ⟨fun a U g mk q => ⟨q.1, q.2.1, va_K.moved (u := U) (U := U.calling g mk a) (Vm.Alike.refl U.vm) q.2.2.1, nw_same rfl q.2.2.2⟩, va_recv hKc hPc (ci := 1) (q0 := 0) rfl rfl, fun U hU hW => ⟨rfl, by rw [hU]; exact hPc, va_K.moved hW.alike hKc, hN.warm hW⟩⟩ rfl rfl hl.1 rfl (lv_room (Nat.le_of_ble_eq_true rfl)) dX2_best_5 ⟨Nat.le_of_ble_eq_true rfl, Nat.le_of_ble_eq_true rfl⟩) (fun r_ hr_ => ?_)
    obtain rfl := hr_
    change W _ _ _ _ _ _ _ _ _ _ _ _ _ _ _ (F0 m 8 ls [.null])
    refine lv_astore_nN (lv' := [(3, .null), (0, .ref h0), (1, .int a0), (2, .int a1)]) hx hb dX2_best_8 rfl hl (by decide) rfl (fun ls hl => ?_)
    refine lv_aload_nN hx hb dX2_best_9 rfl (lv_at hl 0 rfl) ?_
    refine lv_ifnonnullN hx hb dX2_best_10 ?_
    refine lv_iconst (v := -1) hx hb dX2_best_13 (by decide) ?_
    rw [← hQ]
    exact W.iret (v := (-1 : Int32)) hx hb hr (fun t ht hW => ⟨_, rfl, Option.some.inj hF, ht⟩) (fun _ h => by cases h) dX2_best_14
  · have hF := br0 hF c_2
    have hw1 := within_1 hr_1 c_2
    refine va_csq (W.runV (As := [.int a0]) (rest := []) ⟨hx, hb, hml, hown, hts⟩ (c_X1_layerOf_in l dC dI sc lr cL f a0 la hw1 (hs1 hw1)) (cwV 1 hts gX2_best_X1_layerOf rfl rfl rfl (by decide +kernel) ⟨Nat.le_of_ble_eq_true rfl, Nat.le_of_ble_eq_true rfl⟩) ⟨fun a U g mk q => ⟨q.1, q.2.1, va_K.moved (u := U) (U := U.calling g mk a) (Vm.Alike.refl U.vm) q.2.2.1, nw_same rfl q.2.2.2⟩, va_recv hKc hPc (ci := 1) (q0 := 0) rfl rfl, fun U hU hW => ⟨rfl, by rw [hU]; exact hPc, va_K.moved hW.alike hKc, hN.warm hW⟩⟩ rfl rfl hl.1 rfl (lv_room (Nat.le_of_ble_eq_true rfl)) dX2_best_5 ⟨Nat.le_of_ble_eq_true rfl, Nat.le_of_ble_eq_true rfl⟩) (fun r_ hr_ => ?_)
    obtain rfl := hr_
    change W _ _ _ _ _ _ _ _ _ _ _ _ _ _ _ (F0 m 8 ls [.ref la])
    refine lv_astore_n (lv' := [(3, .ref la), (0, .ref h0), (1, .int a0), (2, .int a1)]) hx hb dX2_best_8 rfl hl (by decide) rfl (fun ls hl => ?_)
    refine lv_aload_n hx hb dX2_best_9 rfl (lv_at hl 0 rfl) ?_
    refine lv_ifnonnull (tgt := 15) hx hb dX2_best_10 (by decide) ?_
    refine lv_iload_n hx hb dX2_best_15 rfl (lv_at hl 3 rfl) ?_
    refine lv_iconst (v := 0) hx hb dX2_best_16 (by decide) ?_
    refine lv_iconst (v := 2) hx hb dX2_best_17 (by decide) ?_
    obtain ⟨r_3, hr_3, hF⟩ := bd1_u hF
    refine vp_callSi (W.runS (As := [.int a1, .int (0 : Int32), .int (2 : Int32)]) (rest := []) ⟨hx, hb, hml, hown, hts⟩ (c_X2_within l a1 (0 : Int32) (2 : Int32) r_3 hr_3) (va_cwS 3 hts gX2_best_X2_within rfl rfl rfl (by decide +kernel) ⟨Nat.le_of_ble_eq_true rfl, Nat.le_of_ble_eq_true rfl⟩) preEq rfl rfl hl.1 rfl (lv_room (Nat.le_of_ble_eq_true rfl)) dX2_best_18 ⟨Nat.le_of_ble_eq_true rfl, Nat.le_of_ble_eq_true rfl⟩) (fun r_3' qr_3 => ?_)
    obtain rfl := qr_3.symm
    refine lv_if_ne (tgt := 27) hx hb dX2_best_21 (by decide) (fun c_4 => ?_) (fun c_4 => ?_)
    · have hF := br0 hF c_4
      refine lv_aload_n hx hb dX2_best_27 rfl (lv_at hl 0 rfl) ?_
      refine va_getN (D := (dC, dI)) (ci := 0) (v := .int sz) (C := RX0) (T := TX0) (N := 4) hx hb hts (by decide +kernel) hown hK hP 3 rfl rfl 2 (by decide) (va_Nw.use rfl hN_RX2_32) (fun _ h9 => h9) rfl dX2_best_28 ?_
      refine lv_if_gt (tgt := 37) hx hb dX2_best_31 (by decide) (fun c_5 => ?_) (fun c_5 => ?_)
      · have hF := br1 hF c_5
        refine lv_aload_n hx hb dX2_best_37 rfl (lv_at hl 0 rfl) ?_
        refine lv_iload_n hx hb dX2_best_38 rfl (lv_at hl 3 rfl) ?_
        obtain ⟨r_6, hr_6, hF⟩ := bd1_u hF
        have hPc := hP.sub (ws' := [(la, .inr (0, [.ref xa, .ref ya, .int sz, .int fo])), (xa, .inl (cI, 8, .inl xs)), (ya, .inl (cI, 8, .inl ys))]) [3, 4, 5] rfl
        have hKc := hK.sub (tys' := [(cI, .int)]) [0] rfl
        refine vp_callSi (W.runV (As := [.int a1]) (rest := []) ⟨hx, hb, hml, hown, hts⟩ (c_X0_bestMove l dC dI la xa ya cI xs ys sz fo a1 r_6 hr_6) (cwV 1 hts gX2_best_X0_bestMove rfl rfl rfl (by decide +kernel) ⟨Nat.le_of_ble_eq_true rfl, Nat.le_of_ble_eq_true rfl⟩) ⟨fun a U g mk q => ⟨q.1, q.2.1, va_K.moved (u := U) (U := U.calling g mk a) (Vm.Alike.refl U.vm) q.2.2⟩, va_recv hKc hPc (ci := 0) (q0 := 0) rfl rfl, fun U hU hW => ⟨rfl, by rw [hU]; exact hPc, va_K.moved hW.alike hKc⟩⟩ rfl rfl hl.1 rfl (lv_room (Nat.le_of_ble_eq_true rfl)) dX2_best_39 ⟨Nat.le_of_ble_eq_true rfl, Nat.le_of_ble_eq_true rfl⟩) (fun r_6' qr_6 => ?_)
        obtain rfl := qr_6.symm
        rw [← hQ]
        exact W.iret (v := r_6) hx hb hr (fun t ht hW => ⟨_, rfl, Option.some.inj hF, ht⟩) (fun _ h => by cases h) dX2_best_42
      · have hF := br0 hF c_5
        refine lv_bipush (v := -6) hx hb dX2_best_34 (by decide) ?_
        rw [← hQ]
        exact W.iret (v := (-6 : Int32)) hx hb hr (fun t ht hW => ⟨_, rfl, Option.some.inj hF, ht⟩) (fun _ h => by cases h) dX2_best_36
    · have hF := br1 hF c_4
      refine lv_bipush (v := -2) hx hb dX2_best_24 (by decide) ?_
      rw [← hQ]
      exact W.iret (v := (-2 : Int32)) hx hb hr (fun t ht hW => ⟨_, rfl, Option.some.inj hF, ht⟩) (fun _ h => by cases h) dX2_best_26

def L_X2_same_36 (xs : Nat → Int32) (ys : Nat → Int32) (sz : Int32) (fo : Int32) (xsb : Nat → Int32) (ysb : Nat → Int32) (szb : Int32) (fob : Int32) : Nat → Int32 → Int32 → Option (Int32 × Int32)
  | 0, _, _ => none
  | n + 1, k_7, k_8 =>
    if (16 : Int32) ≤ k_7 then
      some (k_7, k_8)
    else
      bd1 (P_X0_coverParts k_7 (0 : Int32) (0 : Int32) xs ys sz fo) (fun r_12 =>
      bd1 (P_X0_coverParts k_7 (0 : Int32) (0 : Int32) xsb ysb szb fob) (fun r_13 =>
      if r_12 = r_13 then
        nm (k_8 ||| ((1 : Int32) <<< (k_7 &&& 31))) (fun v_15 =>
        L_X2_same_36 xs ys sz fo xsb ysb szb fob n (k_7 + (1 : Int32)) v_15)
      else
        L_X2_same_36 xs ys sz fo xsb ysb szb fob n (k_7 + (1 : Int32)) k_8))
theorem L_X2_same_36_s (xs : Nat → Int32) (ys : Nat → Int32) (sz : Int32) (fo : Int32) (xsb : Nat → Int32) (ysb : Nat → Int32) (szb : Int32) (fob : Int32) (n : Nat) (k_7 : Int32) (k_8 : Int32) : L_X2_same_36 xs ys sz fo xsb ysb szb fob (n + 1) k_7 k_8 =
    (if (16 : Int32) ≤ k_7 then
      some (k_7, k_8)
    else
      bd1 (P_X0_coverParts k_7 (0 : Int32) (0 : Int32) xs ys sz fo) (fun r_12 =>
      bd1 (P_X0_coverParts k_7 (0 : Int32) (0 : Int32) xsb ysb szb fob) (fun r_13 =>
      if r_12 = r_13 then
        nm (k_8 ||| ((1 : Int32) <<< (k_7 &&& 31))) (fun v_15 =>
        L_X2_same_36 xs ys sz fo xsb ysb szb fob n (k_7 + (1 : Int32)) v_15)
      else
        L_X2_same_36 xs ys sz fo xsb ysb szb fob n (k_7 + (1 : Int32)) k_8))) := rfl

def P_X2_same (a0 : Int32) (a1 : Int32) (xs : Nat → Int32) (ys : Nat → Int32) (sz : Int32) (fo : Int32) (xsb : Nat → Int32) (ysb : Nat → Int32) (szb : Int32) (fob : Int32) : Option (Int32) :=
  bd1 (P_X2_within a0 (0 : Int32) (2 : Int32)) (fun r_1 =>
  if r_1 = (0 : Int32) then
    bd1 (P_X2_within a1 (0 : Int32) (2 : Int32)) (fun r_3 =>
    if r_3 = (0 : Int32) then
      some (-1 : Int32)
    else
      some (-1 : Int32))
  else
    bd1 (P_X2_within a1 (0 : Int32) (2 : Int32)) (fun r_5 =>
    if r_5 = (0 : Int32) then
      some (-1 : Int32)
    else
      bd2 (L_X2_same_36 xs ys sz fo xsb ysb szb fob 1000 (0 : Int32) (0 : Int32)) (fun o_9 o_10 =>
      some o_10)))

def rm_X2_same : Room := { frames := 4, cells := 0, slots := 0, locals := 114 }

set_option maxHeartbeats 4000000 in
set_option maxRecDepth 100000 in
theorem c_X2_same (l : Launch) (dC : Nat → ClassId) (dI : Nat → Nat → Nat) (h0 sc im lr la xa ya lb xab yab : Nat) (cI cL : ClassId) (ke : Int32) (f : Nat → Option Nat) (xs : Nat → Int32) (ys : Nat → Int32) (sz : Int32) (fo : Int32) (xsb : Nat → Int32) (ysb : Nat → Int32) (szb : Int32) (fob : Int32) (a0 : Int32) (a1 : Int32) (r0 : Int32) (hs1 : P_X2_within a0 (0 : Int32) (2 : Int32) = some (1 : Int32) → f a0.toNatClampNeg = some la) (hs2 : P_X2_within a1 (0 : Int32) (2 : Int32) = some (1 : Int32) → f a1.toNatClampNeg = some lb) (hF : P_X2_same a0 a1 xs ys sz fo xsb ysb szb fob = some r0) : Met l yX2_same wsX2_same rm_X2_same (va_Pc [.ref h0, .int a0, .int a1] (fun U => va_P (dC, dI) vwCl [(h0, .inr (2, [.ref sc, .ref im, .int ke])), (sc, .inr (1, [.ref lr])), (lr, .inl (cL, 3, .inr (.inr (.inr (.inr f))))), (la, .inr (0, [.ref xa, .ref ya, .int sz, .int fo])), (xa, .inl (cI, 8, .inl xs)), (ya, .inl (cI, 8, .inl ys)), (lb, .inr (0, [.ref xab, .ref yab, .int szb, .int fob])), (xab, .inl (cI, 8, .inl xsb)), (yab, .inl (cI, 8, .inl ysb))] U.heap ∧ va_K (dC, dI) vwCl [(cI, .int), (cL, .object RX0)] U ∧ nw U)) (vp_Si (fun x => x = r0)) 0 0 (fun _ => False) := by
  refine Met.ofW (cc := cX2_same) (maxL := 7) (ret := (some .int)) (by decide) rfl ?_
  intro p e s m args below meth c s₁ B hml hv
  change W p l e rm_X2_same s m args below meth c s.heap [] 0 0 _ _
  obtain ⟨hv, hP, hK, hN⟩ := hv
  have hx := B.exec
  have hb := B.bytes
  have hr := B.returns
  have hts := atoms_spec (ws := wsX2_same) B.pre
  have hown : s.vm.findClass RX2 = some m.cls := findClass_of_methodNamed B.named
  have hlocks := B.notSynchronized
  have hN_RX0_25 := hN.1
  have hN_RX1_18 := hN.2.1
  have hN_RX1_26 := hN.2.2.1
  have hN_RX2_32 := hN.2.2.2.1
  have hN_RX2_44 := hN.2.2.2.2.1
  have hN_RX2_48 := hN.2.2.2.2.2.1
  have hN_RX2_55 := hN.2.2.2.2.2.2
  generalize hQ : MQ below (vp_Si (fun x => x = r0)) args s 0 0 (fun _ => False) = Q
  have hl := lv_entry ([.ref h0, .int a0, .int a1]) (n := 7) (Nat.le_of_ble_eq_true rfl)
  have hE : entryFrame m args 7 = F0 m 0 ((lg_sl ([.ref h0, .int a0, .int a1]) ++ List.replicate (7 - (lg_sl ([.ref h0, .int a0, .int a1])).length) Slot.unset).toArray) [] := by rw [hv]; exact lg_entry_eq m _ 7
  rw [hE]
  generalize (lg_sl ([.ref h0, .int a0, .int a1]) ++ List.replicate (7 - (lg_sl ([.ref h0, .int a0, .int a1])).length) Slot.unset).toArray = ls at hl ⊢
  have hl : lv_has ls 7 [(0, .ref h0), (1, .int a0), (2, .int a1)] := hl
  unfold P_X2_same at hF
  refine lv_aload_n hx hb dX2_same_0 rfl (lv_at hl 0 rfl) ?_
  refine va_get (D := (dC, dI)) (ci := 2) (v := .ref sc) (C := RX2) (T := TX2) (N := 3) hx hb hts (by decide +kernel) hown hK hP 0 rfl rfl 0 (by decide) (hts (.fieldLink RX2 12 "DotCover" "now" "LDotCover$Scene;") (by decide +kernel)) (fun _ h9 => h9) rfl dX2_same_1 ?_
  refine lv_iload_n hx hb dX2_same_4 rfl (lv_at hl 1 rfl) ?_
  obtain ⟨r_1, hr_1, hF⟩ := bd1_u hF
  have hPc := hP.sub (ws' := [(sc, .inr (1, [.ref lr])), (lr, .inl (cL, 3, .inr (.inr (.inr (.inr f)))))]) [1, 2] rfl
  have hKc := hK.sub (tys' := [(cL, .object RX0)]) [1] rfl
  by_cases c_2 : r_1 = (0 : Int32)
  · have hF := br1 hF c_2
    refine va_csq (W.runV (As := [.int a0]) (rest := []) ⟨hx, hb, hml, hown, hts⟩ (c_X1_layerOf_out l dC dI sc lr cL f a0 (c_2 ▸ hr_1)) (cwV 1 hts gX2_same_X1_layerOf rfl rfl rfl (by decide +kernel) ⟨Nat.le_of_ble_eq_true rfl, Nat.le_of_ble_eq_true rfl⟩) ⟨fun a U g mk q => ⟨q.1, q.2.1, va_K.moved (u := U) (U := U.calling g mk a) (Vm.Alike.refl U.vm) q.2.2.1, nw_same rfl q.2.2.2⟩, va_recv hKc hPc (ci := 1) (q0 := 0) rfl rfl, fun U hU hW => ⟨rfl, by rw [hU]; exact hPc, va_K.moved hW.alike hKc, hN.warm hW⟩⟩ rfl rfl hl.1 rfl (lv_room (Nat.le_of_ble_eq_true rfl)) dX2_same_5 ⟨Nat.le_of_ble_eq_true rfl, Nat.le_of_ble_eq_true rfl⟩) (fun r_ hr_ => ?_)
    obtain rfl := hr_
    change W _ _ _ _ _ _ _ _ _ _ _ _ _ _ _ (F0 m 8 ls [.null])
    refine lv_astore_nN (lv' := [(3, .null), (0, .ref h0), (1, .int a0), (2, .int a1)]) hx hb dX2_same_8 rfl hl (by decide) rfl (fun ls hl => ?_)
    refine lv_aload_n hx hb dX2_same_9 rfl (lv_at hl 1 rfl) ?_
    refine va_get (D := (dC, dI)) (ci := 2) (v := .ref sc) (C := RX2) (T := TX2) (N := 3) hx hb hts (by decide +kernel) hown hK hP 0 rfl rfl 0 (by decide) (hts (.fieldLink RX2 12 "DotCover" "now" "LDotCover$Scene;") (by decide +kernel)) (fun _ h9 => h9) rfl dX2_same_10 ?_
    refine lv_iload_n hx hb dX2_same_13 rfl (lv_at hl 3 rfl) ?_
    obtain ⟨r_3, hr_3, hF⟩ := bd1_u hF
    have hPc := hP.sub (ws' := [(sc, .inr (1, [.ref lr])), (lr, .inl (cL, 3, .inr (.inr (.inr (.inr f)))))]) [1, 2] rfl
    have hKc := hK.sub (tys' := [(cL, .object RX0)]) [1] rfl
    by_cases c_4 : r_3 = (0 : Int32)
    · have hF := br1 hF c_4
      refine va_csq (W.runV (As := [.int a1]) (rest := []) ⟨hx, hb, hml, hown, hts⟩ (c_X1_layerOf_out l dC dI sc lr cL f a1 (c_4 ▸ hr_3)) (cwV 1 hts gX2_same_X1_layerOf rfl rfl rfl (by decide +kernel) ⟨Nat.le_of_ble_eq_true rfl, Nat.le_of_ble_eq_true rfl⟩) ⟨fun a U g mk q => ⟨q.1, q.2.1, va_K.moved (u := U) (U := U.calling g mk a) (Vm.Alike.refl U.vm) q.2.2.1, nw_same rfl q.2.2.2⟩, va_recv hKc hPc (ci := 1) (q0 := 0) rfl rfl, fun U hU hW => ⟨rfl, by rw [hU]; exact hPc, va_K.moved hW.alike hKc, hN.warm hW⟩⟩ rfl rfl hl.1 rfl (lv_room (Nat.le_of_ble_eq_true rfl)) dX2_same_14 ⟨Nat.le_of_ble_eq_true rfl, Nat.le_of_ble_eq_true rfl⟩) (fun r_ hr_ => ?_)
      obtain rfl := hr_
      change W _ _ _ _ _ _ _ _ _ _ _ _ _ _ _ (F0 m 17 ls [.null])
      refine lv_astoreN (lv' := [(4, .null), (3, .null), (0, .ref h0), (1, .int a0), (2, .int a1)]) hx hb dX2_same_17 hl (by decide) rfl (fun ls hl => ?_)
      refine lv_aload_nN hx hb dX2_same_19 rfl (lv_at hl 1 rfl) ?_
      refine lv_ifnullN (tgt := 28) hx hb dX2_same_20 (by decide) ?_
      refine lv_iconst (v := -1) hx hb dX2_same_28 (by decide) ?_
      rw [← hQ]
      exact W.iret (v := (-1 : Int32)) hx hb hr (fun t ht hW => ⟨_, rfl, Option.some.inj hF, ht⟩) (fun _ h => by cases h) dX2_same_29
    · have hF := br0 hF c_4
      have hw1 := within_1 hr_3 c_4
      refine va_csq (W.runV (As := [.int a1]) (rest := []) ⟨hx, hb, hml, hown, hts⟩ (c_X1_layerOf_in l dC dI sc lr cL f a1 lb hw1 (hs2 hw1)) (cwV 1 hts gX2_same_X1_layerOf rfl rfl rfl (by decide +kernel) ⟨Nat.le_of_ble_eq_true rfl, Nat.le_of_ble_eq_true rfl⟩) ⟨fun a U g mk q => ⟨q.1, q.2.1, va_K.moved (u := U) (U := U.calling g mk a) (Vm.Alike.refl U.vm) q.2.2.1, nw_same rfl q.2.2.2⟩, va_recv hKc hPc (ci := 1) (q0 := 0) rfl rfl, fun U hU hW => ⟨rfl, by rw [hU]; exact hPc, va_K.moved hW.alike hKc, hN.warm hW⟩⟩ rfl rfl hl.1 rfl (lv_room (Nat.le_of_ble_eq_true rfl)) dX2_same_14 ⟨Nat.le_of_ble_eq_true rfl, Nat.le_of_ble_eq_true rfl⟩) (fun r_ hr_ => ?_)
      obtain rfl := hr_
      change W _ _ _ _ _ _ _ _ _ _ _ _ _ _ _ (F0 m 17 ls [.ref lb])
      refine lv_astore (lv' := [(4, .ref lb), (3, .null), (0, .ref h0), (1, .int a0), (2, .int a1)]) hx hb dX2_same_17 hl (by decide) rfl (fun ls hl => ?_)
      refine lv_aload_nN hx hb dX2_same_19 rfl (lv_at hl 1 rfl) ?_
      refine lv_ifnullN (tgt := 28) hx hb dX2_same_20 (by decide) ?_
      refine lv_iconst (v := -1) hx hb dX2_same_28 (by decide) ?_
      rw [← hQ]
      exact W.iret (v := (-1 : Int32)) hx hb hr (fun t ht hW => ⟨_, rfl, Option.some.inj hF, ht⟩) (fun _ h => by cases h) dX2_same_29
  · have hF := br0 hF c_2
    have hw1 := within_1 hr_1 c_2
    refine va_csq (W.runV (As := [.int a0]) (rest := []) ⟨hx, hb, hml, hown, hts⟩ (c_X1_layerOf_in l dC dI sc lr cL f a0 la hw1 (hs1 hw1)) (cwV 1 hts gX2_same_X1_layerOf rfl rfl rfl (by decide +kernel) ⟨Nat.le_of_ble_eq_true rfl, Nat.le_of_ble_eq_true rfl⟩) ⟨fun a U g mk q => ⟨q.1, q.2.1, va_K.moved (u := U) (U := U.calling g mk a) (Vm.Alike.refl U.vm) q.2.2.1, nw_same rfl q.2.2.2⟩, va_recv hKc hPc (ci := 1) (q0 := 0) rfl rfl, fun U hU hW => ⟨rfl, by rw [hU]; exact hPc, va_K.moved hW.alike hKc, hN.warm hW⟩⟩ rfl rfl hl.1 rfl (lv_room (Nat.le_of_ble_eq_true rfl)) dX2_same_5 ⟨Nat.le_of_ble_eq_true rfl, Nat.le_of_ble_eq_true rfl⟩) (fun r_ hr_ => ?_)
    obtain rfl := hr_
    change W _ _ _ _ _ _ _ _ _ _ _ _ _ _ _ (F0 m 8 ls [.ref la])
    refine lv_astore_n (lv' := [(3, .ref la), (0, .ref h0), (1, .int a0), (2, .int a1)]) hx hb dX2_same_8 rfl hl (by decide) rfl (fun ls hl => ?_)
    refine lv_aload_n hx hb dX2_same_9 rfl (lv_at hl 1 rfl) ?_
    refine va_get (D := (dC, dI)) (ci := 2) (v := .ref sc) (C := RX2) (T := TX2) (N := 3) hx hb hts (by decide +kernel) hown hK hP 0 rfl rfl 0 (by decide) (hts (.fieldLink RX2 12 "DotCover" "now" "LDotCover$Scene;") (by decide +kernel)) (fun _ h9 => h9) rfl dX2_same_10 ?_
    refine lv_iload_n hx hb dX2_same_13 rfl (lv_at hl 3 rfl) ?_
    obtain ⟨r_5, hr_5, hF⟩ := bd1_u hF
    have hPc := hP.sub (ws' := [(sc, .inr (1, [.ref lr])), (lr, .inl (cL, 3, .inr (.inr (.inr (.inr f)))))]) [1, 2] rfl
    have hKc := hK.sub (tys' := [(cL, .object RX0)]) [1] rfl
    by_cases c_6 : r_5 = (0 : Int32)
    · have hF := br1 hF c_6
      refine va_csq (W.runV (As := [.int a1]) (rest := []) ⟨hx, hb, hml, hown, hts⟩ (c_X1_layerOf_out l dC dI sc lr cL f a1 (c_6 ▸ hr_5)) (cwV 1 hts gX2_same_X1_layerOf rfl rfl rfl (by decide +kernel) ⟨Nat.le_of_ble_eq_true rfl, Nat.le_of_ble_eq_true rfl⟩) ⟨fun a U g mk q => ⟨q.1, q.2.1, va_K.moved (u := U) (U := U.calling g mk a) (Vm.Alike.refl U.vm) q.2.2.1, nw_same rfl q.2.2.2⟩, va_recv hKc hPc (ci := 1) (q0 := 0) rfl rfl, fun U hU hW => ⟨rfl, by rw [hU]; exact hPc, va_K.moved hW.alike hKc, hN.warm hW⟩⟩ rfl rfl hl.1 rfl (lv_room (Nat.le_of_ble_eq_true rfl)) dX2_same_14 ⟨Nat.le_of_ble_eq_true rfl, Nat.le_of_ble_eq_true rfl⟩) (fun r_ hr_ => ?_)
      obtain rfl := hr_
      change W _ _ _ _ _ _ _ _ _ _ _ _ _ _ _ (F0 m 17 ls [.null])
      refine lv_astoreN (lv' := [(4, .null), (3, .ref la), (0, .ref h0), (1, .int a0), (2, .int a1)]) hx hb dX2_same_17 hl (by decide) rfl (fun ls hl => ?_)
      refine lv_aload_n hx hb dX2_same_19 rfl (lv_at hl 1 rfl) ?_
      refine lv_ifnull hx hb dX2_same_20 ?_
      refine lv_aloadN hx hb dX2_same_23 (lv_at hl 0 rfl) ?_
      refine lv_ifnonnullN hx hb dX2_same_25 ?_
      refine lv_iconst (v := -1) hx hb dX2_same_28 (by decide) ?_
      rw [← hQ]
      exact W.iret (v := (-1 : Int32)) hx hb hr (fun t ht hW => ⟨_, rfl, Option.some.inj hF, ht⟩) (fun _ h => by cases h) dX2_same_29
    · have hF := br0 hF c_6
      have hw1 := within_1 hr_5 c_6
      refine va_csq (W.runV (As := [.int a1]) (rest := []) ⟨hx, hb, hml, hown, hts⟩ (c_X1_layerOf_in l dC dI sc lr cL f a1 lb hw1 (hs2 hw1)) (cwV 1 hts gX2_same_X1_layerOf rfl rfl rfl (by decide +kernel) ⟨Nat.le_of_ble_eq_true rfl, Nat.le_of_ble_eq_true rfl⟩) ⟨fun a U g mk q => ⟨q.1, q.2.1, va_K.moved (u := U) (U := U.calling g mk a) (Vm.Alike.refl U.vm) q.2.2.1, nw_same rfl q.2.2.2⟩, va_recv hKc hPc (ci := 1) (q0 := 0) rfl rfl, fun U hU hW => ⟨rfl, by rw [hU]; exact hPc, va_K.moved hW.alike hKc, hN.warm hW⟩⟩ rfl rfl hl.1 rfl (lv_room (Nat.le_of_ble_eq_true rfl)) dX2_same_14 ⟨Nat.le_of_ble_eq_true rfl, Nat.le_of_ble_eq_true rfl⟩) (fun r_ hr_ => ?_)
      obtain rfl := hr_
      change W _ _ _ _ _ _ _ _ _ _ _ _ _ _ _ (F0 m 17 ls [.ref lb])
      refine lv_astore (lv' := [(4, .ref lb), (3, .ref la), (0, .ref h0), (1, .int a0), (2, .int a1)]) hx hb dX2_same_17 hl (by decide) rfl (fun ls hl => ?_)
      refine lv_aload_n hx hb dX2_same_19 rfl (lv_at hl 1 rfl) ?_
      refine lv_ifnull hx hb dX2_same_20 ?_
      refine lv_aload hx hb dX2_same_23 (lv_at hl 0 rfl) ?_
      refine lv_ifnonnull (tgt := 30) hx hb dX2_same_25 (by decide) ?_
      refine lv_iconst (v := 0) hx hb dX2_same_30 (by decide) ?_
      refine lv_istore (lv' := [(5, .int (0 : Int32)), (4, .ref lb), (3, .ref la), (0, .ref h0), (1, .int a0), (2, .int a1)]) hx hb dX2_same_31 hl (by decide) rfl (fun ls hl => ?_)
      refine lv_iconst (v := 0) hx hb dX2_same_33 (by decide) ?_
      refine lv_istore (lv' := [(6, .int (0 : Int32)), (5, .int (0 : Int32)), (4, .ref lb), (3, .ref la), (0, .ref h0), (1, .int a0), (2, .int a1)]) hx hb dX2_same_34 hl (by decide) rfl (fun ls hl => ?_)
      obtain ⟨o_9, o_10, hL_36, hF⟩ := bd2_u hF
      have lp_36 : ∀ (n : Nat) (k_7 : Int32) (k_8 : Int32) (o_9 : Int32) (o_10 : Int32) (ls : Array Slot), L_X2_same_36 xs ys sz fo xsb ysb szb fob n k_7 k_8 = some (o_9, o_10) → lv_has ls 7 [(6, .int k_7), (5, .int k_8), (4, .ref lb), (3, .ref la), (0, .ref h0), (1, .int a0), (2, .int a1)] → (∀ (ls : Array Slot), lv_has ls 7 [(6, .int o_9), (5, .int o_10), (4, .ref lb), (3, .ref la), (0, .ref h0), (1, .int a0), (2, .int a1)] → W p l e rm_X2_same s m args below meth c s.heap [] 0 0 Q (F0 m 79 ls [])) → W p l e rm_X2_same s m args below meth c s.heap [] 0 0 Q (F0 m 36 ls []) := by
        intro n
        induction n with
        | zero =>
          intro k_7 k_8 o_9 o_10 ls hF
          exact nn ((rfl : L_X2_same_36 xs ys sz fo xsb ysb szb fob 0 k_7 k_8 = none).symm.trans hF)
        | succ n ih_36 =>
          intro k_7 k_8 o_9 o_10 ls hF hl kx_36
          have hF := (L_X2_same_36_s xs ys sz fo xsb ysb szb fob n k_7 k_8).symm.trans hF
          refine lv_iload hx hb dX2_same_36 (lv_at hl 0 rfl) ?_
          refine lv_bipush (v := 16) hx hb dX2_same_38 (by decide) ?_
          refine lv_icmp_ge (tgt := 79) hx hb dX2_same_40 (by decide) (fun c_11 => ?_) (fun c_11 => ?_)
          · have hF := br1 hF c_11
            obtain ⟨rfl, rfl⟩ := tp2 hF
            exact kx_36 ls hl
          · have hF := br0 hF c_11
            refine lv_aload_n hx hb dX2_same_43 rfl (lv_at hl 3 rfl) ?_
            refine lv_iload hx hb dX2_same_44 (lv_at hl 0 rfl) ?_
            refine lv_iconst (v := 0) hx hb dX2_same_46 (by decide) ?_
            refine lv_iconst (v := 0) hx hb dX2_same_47 (by decide) ?_
            obtain ⟨r_12, hr_12, hF⟩ := bd1_u hF
            have hPc := hP.sub (ws' := [(la, .inr (0, [.ref xa, .ref ya, .int sz, .int fo])), (xa, .inl (cI, 8, .inl xs)), (ya, .inl (cI, 8, .inl ys))]) [3, 4, 5] rfl
            have hKc := hK.sub (tys' := [(cI, .int)]) [0] rfl
            refine vp_callSl (W.runV (As := [.int k_7, .int (0 : Int32), .int (0 : Int32)]) (rest := []) ⟨hx, hb, hml, hown, hts⟩ (c_X0_coverParts l dC dI la xa ya cI xs ys sz fo k_7 (0 : Int32) (0 : Int32) r_12 hr_12) (cwV 3 hts gX2_same_X0_coverParts rfl rfl rfl (by decide +kernel) ⟨Nat.le_of_ble_eq_true rfl, Nat.le_of_ble_eq_true rfl⟩) ⟨fun a U g mk q => ⟨q.1, q.2.1, va_K.moved (u := U) (U := U.calling g mk a) (Vm.Alike.refl U.vm) q.2.2⟩, va_recv hKc hPc (ci := 0) (q0 := 0) rfl rfl, fun U hU hW => ⟨rfl, by rw [hU]; exact hPc, va_K.moved hW.alike hKc⟩⟩ rfl rfl hl.1 rfl (lv_room (Nat.le_of_ble_eq_true rfl)) dX2_same_48 ⟨Nat.le_of_ble_eq_true rfl, Nat.le_of_ble_eq_true rfl⟩) (fun r_12' qr_12 => ?_)
            obtain rfl := qr_12.symm
            refine lv_aload hx hb dX2_same_51 (lv_at hl 2 rfl) ?_
            refine lv_iload hx hb dX2_same_53 (lv_at hl 0 rfl) ?_
            refine lv_iconst (v := 0) hx hb dX2_same_55 (by decide) ?_
            refine lv_iconst (v := 0) hx hb dX2_same_56 (by decide) ?_
            obtain ⟨r_13, hr_13, hF⟩ := bd1_u hF
            have hPc := hP.sub (ws' := [(lb, .inr (0, [.ref xab, .ref yab, .int szb, .int fob])), (xab, .inl (cI, 8, .inl xsb)), (yab, .inl (cI, 8, .inl ysb))]) [6, 7, 8] rfl
            have hKc := hK.sub (tys' := [(cI, .int)]) [0] rfl
            refine vp_callSl (W.runV (As := [.int k_7, .int (0 : Int32), .int (0 : Int32)]) (rest := [.long r_12]) ⟨hx, hb, hml, hown, hts⟩ (c_X0_coverParts l dC dI lb xab yab cI xsb ysb szb fob k_7 (0 : Int32) (0 : Int32) r_13 hr_13) (cwV 3 hts gX2_same_X0_coverParts rfl rfl rfl (by decide +kernel) ⟨Nat.le_of_ble_eq_true rfl, Nat.le_of_ble_eq_true rfl⟩) ⟨fun a U g mk q => ⟨q.1, q.2.1, va_K.moved (u := U) (U := U.calling g mk a) (Vm.Alike.refl U.vm) q.2.2⟩, va_recv hKc hPc (ci := 0) (q0 := 0) rfl rfl, fun U hU hW => ⟨rfl, by rw [hU]; exact hPc, va_K.moved hW.alike hKc⟩⟩ rfl rfl hl.1 rfl (lv_room (Nat.le_of_ble_eq_true rfl)) dX2_same_57 ⟨Nat.le_of_ble_eq_true rfl, Nat.le_of_ble_eq_true rfl⟩) (fun r_13' qr_13 => ?_)
            obtain rfl := qr_13.symm
            refine lc_ne (tgt := 73) hx hb dX2_same_60 dX2_same_61 (by decide) (fun c_14 => ?_) (fun c_14 => ?_)
            · have hF := br0 hF c_14
              refine lv_iinc (v := (k_7 + (1 : Int32))) (lv' := [(6, .int (k_7 + (1 : Int32))), (5, .int k_8), (4, .ref lb), (3, .ref la), (0, .ref h0), (1, .int a0), (2, .int a1)]) hx hb dX2_same_73 hl (k := 0) rfl rfl (by decide) rfl (fun ls hl => ?_)
              refine lv_goto (tgt := 36) hx hb dX2_same_76 (by decide) ?_
              exact ih_36 _ _ _ _ ls hF hl kx_36
            · have hF := br1 hF c_14
              refine lv_iload hx hb dX2_same_64 (lv_at hl 1 rfl) ?_
              refine lv_iconst (v := 1) hx hb dX2_same_66 (by decide) ?_
              refine lv_iload hx hb dX2_same_67 (lv_at hl 0 rfl) ?_
              refine lv_ishl hx hb dX2_same_69 ?_
              refine lv_ior hx hb dX2_same_70 ?_
              refine lv_topi (fun v_15 ev_15 => ?_)
              have hF := nm_u hF ev_15
              refine lv_istore (lv' := [(5, .int v_15), (6, .int k_7), (4, .ref lb), (3, .ref la), (0, .ref h0), (1, .int a0), (2, .int a1)]) hx hb dX2_same_71 hl (by decide) rfl (fun ls hl => ?_)
              refine lv_iinc (v := (k_7 + (1 : Int32))) (lv' := [(6, .int (k_7 + (1 : Int32))), (5, .int v_15), (4, .ref lb), (3, .ref la), (0, .ref h0), (1, .int a0), (2, .int a1)]) hx hb dX2_same_73 hl (k := 1) rfl rfl (by decide) rfl (fun ls hl => ?_)
              refine lv_goto (tgt := 36) hx hb dX2_same_76 (by decide) ?_
              exact ih_36 _ _ _ _ ls hF hl kx_36
      refine lp_36 1000 (0 : Int32) (0 : Int32) o_9 o_10 ls hL_36 hl (fun ls hl => ?_)
      refine lv_iload hx hb dX2_same_79 (lv_at hl 1 rfl) ?_
      rw [← hQ]
      exact W.iret (v := o_10) hx hb hr (fun t ht hW => ⟨_, rfl, Option.some.inj hF, ht⟩) (fun _ h => by cases h) dX2_same_81

def P_X2_together (a0 : Int32) (a1 : Int32) (xs0 : Nat → Int32) (ys0 : Nat → Int32) (sz0 : Int32) (fo0 : Int32) (xs1 : Nat → Int32) (ys1 : Nat → Int32) (sz1 : Int32) (fo1 : Int32) (xs2 : Nat → Int32) (ys2 : Nat → Int32) (sz2 : Int32) (fo2 : Int32) : Option (Int64) :=
  bd1 (P_X2_isDot a0) (fun r_1 =>
  if r_1 = (0 : Int32) then
    some (-1 : Int64)
  else
    bd1 (P_X2_within a1 (0 : Int32) (1 : Int32)) (fun r_3 =>
    if r_3 = (0 : Int32) then
      some (-2 : Int64)
    else
      bd1 (P_X1_togetherParts a0 xs0 ys0 sz0 fo0 xs1 ys1 sz1 fo1 xs2 ys2 sz2 fo2) (fun r_5 =>
      bd1 (P_X2_lowestTerms r_5 (124221621275136000 : Int64) a1) (fun r_6 =>
      some r_6))))

def rm_X2_together : Room := { frames := 5, cells := 0, slots := 0, locals := 138 }

set_option maxHeartbeats 4000000 in
set_option maxRecDepth 100000 in
theorem c_X2_together (l : Launch) (dC : Nat → ClassId) (dI : Nat → Nat → Nat) (h0 sc im lr la0 xa0 ya0 la1 xa1 ya1 la2 xa2 ya2 : Nat) (cI cL : ClassId) (ke : Int32) (f : Nat → Option Nat) (xs0 : Nat → Int32) (ys0 : Nat → Int32) (sz0 : Int32) (fo0 : Int32) (xs1 : Nat → Int32) (ys1 : Nat → Int32) (sz1 : Int32) (fo1 : Int32) (xs2 : Nat → Int32) (ys2 : Nat → Int32) (sz2 : Int32) (fo2 : Int32) (a0 : Int32) (a1 : Int32) (r0 : Int64) (hf0 : f 0 = some la0) (hf1 : f 1 = some la1) (hf2 : f 2 = some la2) (hF : P_X2_together a0 a1 xs0 ys0 sz0 fo0 xs1 ys1 sz1 fo1 xs2 ys2 sz2 fo2 = some r0) : Met l yX2_together wsX2_together rm_X2_together (va_Pc [.ref h0, .int a0, .int a1] (fun U => va_P (dC, dI) vwCl [(h0, .inr (2, [.ref sc, .ref im, .int ke])), (sc, .inr (1, [.ref lr])), (lr, .inl (cL, 3, .inr (.inr (.inr (.inr f))))), (la0, .inr (0, [.ref xa0, .ref ya0, .int sz0, .int fo0])), (xa0, .inl (cI, 8, .inl xs0)), (ya0, .inl (cI, 8, .inl ys0)), (la1, .inr (0, [.ref xa1, .ref ya1, .int sz1, .int fo1])), (xa1, .inl (cI, 8, .inl xs1)), (ya1, .inl (cI, 8, .inl ys1)), (la2, .inr (0, [.ref xa2, .ref ya2, .int sz2, .int fo2])), (xa2, .inl (cI, 8, .inl xs2)), (ya2, .inl (cI, 8, .inl ys2))] U.heap ∧ va_K (dC, dI) vwCl [(cI, .int), (cL, .object RX0)] U)) (vp_Sl (fun x => x = r0)) 0 0 (fun _ => False) := by
  refine Met.ofW (cc := cX2_together) (maxL := 3) (ret := (some .long)) (by decide) rfl ?_
  intro p e s m args below meth c s₁ B hml hv
  change W p l e rm_X2_together s m args below meth c s.heap [] 0 0 _ _
  obtain ⟨hv, hP, hK⟩ := hv
  have hx := B.exec
  have hb := B.bytes
  have hr := B.returns
  have hts := atoms_spec (ws := wsX2_together) B.pre
  have hown : s.vm.findClass RX2 = some m.cls := findClass_of_methodNamed B.named
  have hlocks := B.notSynchronized
  generalize hQ : MQ below (vp_Sl (fun x => x = r0)) args s 0 0 (fun _ => False) = Q
  have hl := lv_entry ([.ref h0, .int a0, .int a1]) (n := 3) (Nat.le_of_ble_eq_true rfl)
  have hE : entryFrame m args 3 = F0 m 0 ((lg_sl ([.ref h0, .int a0, .int a1]) ++ List.replicate (3 - (lg_sl ([.ref h0, .int a0, .int a1])).length) Slot.unset).toArray) [] := by rw [hv]; exact lg_entry_eq m _ 3
  rw [hE]
  generalize (lg_sl ([.ref h0, .int a0, .int a1]) ++ List.replicate (3 - (lg_sl ([.ref h0, .int a0, .int a1])).length) Slot.unset).toArray = ls at hl ⊢
  have hl : lv_has ls 3 [(0, .ref h0), (1, .int a0), (2, .int a1)] := hl
  unfold P_X2_together at hF
  refine lv_iload_n hx hb dX2_together_0 rfl (lv_at hl 1 rfl) ?_
  obtain ⟨r_1, hr_1, hF⟩ := bd1_u hF
  refine vp_callSi (W.runS (As := [.int a0]) (rest := []) ⟨hx, hb, hml, hown, hts⟩ (c_X2_isDot l a0 r_1 hr_1) (va_cwS 1 hts gX2_together_X2_isDot rfl rfl rfl (by decide +kernel) ⟨Nat.le_of_ble_eq_true rfl, Nat.le_of_ble_eq_true rfl⟩) preEq rfl rfl hl.1 rfl (lv_room (Nat.le_of_ble_eq_true rfl)) dX2_together_1 ⟨Nat.le_of_ble_eq_true rfl, Nat.le_of_ble_eq_true rfl⟩) (fun r_1' qr_1 => ?_)
  obtain rfl := qr_1.symm
  refine lv_if_ne (tgt := 11) hx hb dX2_together_4 (by decide) (fun c_2 => ?_) (fun c_2 => ?_)
  · have hF := br0 hF c_2
    refine lv_iload_n hx hb dX2_together_11 rfl (lv_at hl 2 rfl) ?_
    refine lv_iconst (v := 0) hx hb dX2_together_12 (by decide) ?_
    refine lv_iconst (v := 1) hx hb dX2_together_13 (by decide) ?_
    obtain ⟨r_3, hr_3, hF⟩ := bd1_u hF
    refine vp_callSi (W.runS (As := [.int a1, .int (0 : Int32), .int (1 : Int32)]) (rest := []) ⟨hx, hb, hml, hown, hts⟩ (c_X2_within l a1 (0 : Int32) (1 : Int32) r_3 hr_3) (va_cwS 3 hts gX2_together_X2_within rfl rfl rfl (by decide +kernel) ⟨Nat.le_of_ble_eq_true rfl, Nat.le_of_ble_eq_true rfl⟩) preEq rfl rfl hl.1 rfl (lv_room (Nat.le_of_ble_eq_true rfl)) dX2_together_14 ⟨Nat.le_of_ble_eq_true rfl, Nat.le_of_ble_eq_true rfl⟩) (fun r_3' qr_3 => ?_)
    obtain rfl := qr_3.symm
    refine lv_if_ne (tgt := 24) hx hb dX2_together_17 (by decide) (fun c_4 => ?_) (fun c_4 => ?_)
    · have hF := br0 hF c_4
      refine lv_aload_n hx hb dX2_together_24 rfl (lv_at hl 0 rfl) ?_
      refine va_get (D := (dC, dI)) (ci := 2) (v := .ref sc) (C := RX2) (T := TX2) (N := 3) hx hb hts (by decide +kernel) hown hK hP 0 rfl rfl 0 (by decide) (hts (.fieldLink RX2 12 "DotCover" "now" "LDotCover$Scene;") (by decide +kernel)) (fun _ h9 => h9) rfl dX2_together_25 ?_
      refine lv_iload_n hx hb dX2_together_28 rfl (lv_at hl 1 rfl) ?_
      obtain ⟨r_5, hr_5, hF⟩ := bd1_u hF
      have hPc := hP.sub (ws' := [(sc, .inr (1, [.ref lr])), (lr, .inl (cL, 3, .inr (.inr (.inr (.inr f))))), (la0, .inr (0, [.ref xa0, .ref ya0, .int sz0, .int fo0])), (xa0, .inl (cI, 8, .inl xs0)), (ya0, .inl (cI, 8, .inl ys0)), (la1, .inr (0, [.ref xa1, .ref ya1, .int sz1, .int fo1])), (xa1, .inl (cI, 8, .inl xs1)), (ya1, .inl (cI, 8, .inl ys1)), (la2, .inr (0, [.ref xa2, .ref ya2, .int sz2, .int fo2])), (xa2, .inl (cI, 8, .inl xs2)), (ya2, .inl (cI, 8, .inl ys2))]) [1, 2, 3, 4, 5, 6, 7, 8, 9, 10, 11] rfl
      have hKc := hK.sub (tys' := [(cI, .int), (cL, .object RX0)]) [0, 1] rfl
      refine vp_callSl (W.runV (As := [.int a0]) (rest := []) ⟨hx, hb, hml, hown, hts⟩ (c_X1_togetherParts l dC dI sc lr la0 xa0 ya0 la1 xa1 ya1 la2 xa2 ya2 cI cL f xs0 ys0 sz0 fo0 xs1 ys1 sz1 fo1 xs2 ys2 sz2 fo2 a0 r_5 hf0 hf1 hf2 hr_5) (cwV 1 hts gX2_together_X1_togetherParts rfl rfl rfl (by decide +kernel) ⟨Nat.le_of_ble_eq_true rfl, Nat.le_of_ble_eq_true rfl⟩) ⟨fun a U g mk q => ⟨q.1, q.2.1, va_K.moved (u := U) (U := U.calling g mk a) (Vm.Alike.refl U.vm) q.2.2⟩, va_recv hKc hPc (ci := 1) (q0 := 0) rfl rfl, fun U hU hW => ⟨rfl, by rw [hU]; exact hPc, va_K.moved hW.alike hKc⟩⟩ rfl rfl hl.1 rfl (lv_room (Nat.le_of_ble_eq_true rfl)) dX2_together_29 ⟨Nat.le_of_ble_eq_true rfl, Nat.le_of_ble_eq_true rfl⟩) (fun r_5' qr_5 => ?_)
      obtain rfl := qr_5.symm
      refine lv_ldc2 (v := 124221621275136000) hx hb hown (hts (.constantLong RX2 101 (124221621275136000)) (by decide +kernel)) dX2_together_32 ?_
      refine lv_iload_n hx hb dX2_together_35 rfl (lv_at hl 2 rfl) ?_
      obtain ⟨r_6, hr_6, hF⟩ := bd1_u hF
      refine vp_callSl (W.runS (As := [.long r_5, .long (124221621275136000 : Int64), .int a1]) (rest := []) ⟨hx, hb, hml, hown, hts⟩ (c_X2_lowestTerms l r_5 (124221621275136000 : Int64) a1 r_6 hr_6) (va_cwS 3 hts gX2_together_X2_lowestTerms rfl rfl rfl (by decide +kernel) ⟨Nat.le_of_ble_eq_true rfl, Nat.le_of_ble_eq_true rfl⟩) preEq rfl rfl hl.1 rfl (lv_room (Nat.le_of_ble_eq_true rfl)) dX2_together_36 ⟨Nat.le_of_ble_eq_true rfl, Nat.le_of_ble_eq_true rfl⟩) (fun r_6' qr_6 => ?_)
      obtain rfl := qr_6.symm
      rw [← hQ]
      exact W.lret (v := r_6) hx hb hr (fun t ht hW => ⟨_, rfl, Option.some.inj hF, ht⟩) (fun _ h => by cases h) dX2_together_39
    · have hF := br1 hF c_4
      refine lv_ldc2 (v := -2) hx hb hown (hts (.constantLong RX2 92 (-2)) (by decide +kernel)) dX2_together_20 ?_
      rw [← hQ]
      exact W.lret (v := (-2 : Int64)) hx hb hr (fun t ht hW => ⟨_, rfl, Option.some.inj hF, ht⟩) (fun _ h => by cases h) dX2_together_23
  · have hF := br1 hF c_2
    refine lv_ldc2 (v := -1) hx hb hown (hts (.constantLong RX2 90 (-1)) (by decide +kernel)) dX2_together_7 ?_
    rw [← hQ]
    exact W.lret (v := (-1 : Int64)) hx hb hr (fun t ht hW => ⟨_, rfl, Option.some.inj hF, ht⟩) (fun _ h => by cases h) dX2_together_10

def P_X2_field (a0 : Int32) (xs0 : Nat → Int32) (ys0 : Nat → Int32) (sz0 : Int32) (fo0 : Int32) (xs1 : Nat → Int32) (ys1 : Nat → Int32) (sz1 : Int32) (fo1 : Int32) (xs2 : Nat → Int32) (ys2 : Nat → Int32) (sz2 : Int32) (fo2 : Int32) : Option (Int32) :=
  if a0 = (0 : Int32) then
    bd1 (P_X1_mostCoveredDot xs0 ys0 sz0 fo0 xs1 ys1 sz1 fo1 xs2 ys2 sz2 fo2) (fun r_2 =>
    some r_2)
  else if a0 = (1 : Int32) then
    bd1 (P_X1_leastCoveredDot xs0 ys0 sz0 fo0 xs1 ys1 sz1 fo1 xs2 ys2 sz2 fo2) (fun r_4 =>
    some r_4)
  else if a0 = (2 : Int32) then
    bd1 (P_X1_dotsWithTogether (124221621275136000 : Int64) xs0 ys0 sz0 fo0 xs1 ys1 sz1 fo1 xs2 ys2 sz2 fo2) (fun r_6 =>
    some r_6)
  else if a0 = (3 : Int32) then
    bd1 (P_X1_dotsWithTogether (0 : Int64) xs0 ys0 sz0 fo0 xs1 ys1 sz1 fo1 xs2 ys2 sz2 fo2) (fun r_8 =>
    some r_8)
  else
    some (-2 : Int32)

def rm_X2_field : Room := { frames := 6, cells := 0, slots := 0, locals := 164 }

set_option maxHeartbeats 4000000 in
set_option maxRecDepth 100000 in
theorem c_X2_field (l : Launch) (dC : Nat → ClassId) (dI : Nat → Nat → Nat) (h0 sc im lr la0 xa0 ya0 la1 xa1 ya1 la2 xa2 ya2 : Nat) (cI cL : ClassId) (ke : Int32) (f : Nat → Option Nat) (xs0 : Nat → Int32) (ys0 : Nat → Int32) (sz0 : Int32) (fo0 : Int32) (xs1 : Nat → Int32) (ys1 : Nat → Int32) (sz1 : Int32) (fo1 : Int32) (xs2 : Nat → Int32) (ys2 : Nat → Int32) (sz2 : Int32) (fo2 : Int32) (a0 : Int32) (r0 : Int32) (hf0 : f 0 = some la0) (hf1 : f 1 = some la1) (hf2 : f 2 = some la2) (hF : P_X2_field a0 xs0 ys0 sz0 fo0 xs1 ys1 sz1 fo1 xs2 ys2 sz2 fo2 = some r0) : Met l yX2_field wsX2_field rm_X2_field (va_Pc [.ref h0, .int a0] (fun U => va_P (dC, dI) vwCl [(h0, .inr (2, [.ref sc, .ref im, .int ke])), (sc, .inr (1, [.ref lr])), (lr, .inl (cL, 3, .inr (.inr (.inr (.inr f))))), (la0, .inr (0, [.ref xa0, .ref ya0, .int sz0, .int fo0])), (xa0, .inl (cI, 8, .inl xs0)), (ya0, .inl (cI, 8, .inl ys0)), (la1, .inr (0, [.ref xa1, .ref ya1, .int sz1, .int fo1])), (xa1, .inl (cI, 8, .inl xs1)), (ya1, .inl (cI, 8, .inl ys1)), (la2, .inr (0, [.ref xa2, .ref ya2, .int sz2, .int fo2])), (xa2, .inl (cI, 8, .inl xs2)), (ya2, .inl (cI, 8, .inl ys2))] U.heap ∧ va_K (dC, dI) vwCl [(cI, .int), (cL, .object RX0)] U)) (vp_Si (fun x => x = r0)) 0 0 (fun _ => False) := by
  refine Met.ofW (cc := cX2_field) (maxL := 2) (ret := (some .int)) (by decide) rfl ?_
  intro p e s m args below meth c s₁ B hml hv
  change W p l e rm_X2_field s m args below meth c s.heap [] 0 0 _ _
  obtain ⟨hv, hP, hK⟩ := hv
  have hx := B.exec
  have hb := B.bytes
  have hr := B.returns
  have hts := atoms_spec (ws := wsX2_field) B.pre
  have hown : s.vm.findClass RX2 = some m.cls := findClass_of_methodNamed B.named
  have hlocks := B.notSynchronized
  generalize hQ : MQ below (vp_Si (fun x => x = r0)) args s 0 0 (fun _ => False) = Q
  have hl := lv_entry ([.ref h0, .int a0]) (n := 2) (Nat.le_of_ble_eq_true rfl)
  have hE : entryFrame m args 2 = F0 m 0 ((lg_sl ([.ref h0, .int a0]) ++ List.replicate (2 - (lg_sl ([.ref h0, .int a0])).length) Slot.unset).toArray) [] := by rw [hv]; exact lg_entry_eq m _ 2
  rw [hE]
  generalize (lg_sl ([.ref h0, .int a0]) ++ List.replicate (2 - (lg_sl ([.ref h0, .int a0])).length) Slot.unset).toArray = ls at hl ⊢
  have hl : lv_has ls 2 [(0, .ref h0), (1, .int a0)] := hl
  unfold P_X2_field at hF
  refine lv_iload_n hx hb dX2_field_0 rfl (lv_at hl 1 rfl) ?_
  by_cases c_1 : a0 = (0 : Int32)
  · have hF := br1 hF c_1
    refine lv_tableIn (off := 31) (tgt := 32) hx hb dX2_field_1 (by rw [c_1]; decide) (by rw [c_1]; decide) (by rw [c_1]; rfl) (by decide) ?_
    refine lv_aload_n hx hb dX2_field_32 rfl (lv_at hl 0 rfl) ?_
    refine va_get (D := (dC, dI)) (ci := 2) (v := .ref sc) (C := RX2) (T := TX2) (N := 3) hx hb hts (by decide +kernel) hown hK hP 0 rfl rfl 0 (by decide) (hts (.fieldLink RX2 12 "DotCover" "now" "LDotCover$Scene;") (by decide +kernel)) (fun _ h9 => h9) rfl dX2_field_33 ?_
    obtain ⟨r_2, hr_2, hF⟩ := bd1_u hF
    have hPc := hP.sub (ws' := [(sc, .inr (1, [.ref lr])), (lr, .inl (cL, 3, .inr (.inr (.inr (.inr f))))), (la0, .inr (0, [.ref xa0, .ref ya0, .int sz0, .int fo0])), (xa0, .inl (cI, 8, .inl xs0)), (ya0, .inl (cI, 8, .inl ys0)), (la1, .inr (0, [.ref xa1, .ref ya1, .int sz1, .int fo1])), (xa1, .inl (cI, 8, .inl xs1)), (ya1, .inl (cI, 8, .inl ys1)), (la2, .inr (0, [.ref xa2, .ref ya2, .int sz2, .int fo2])), (xa2, .inl (cI, 8, .inl xs2)), (ya2, .inl (cI, 8, .inl ys2))]) [1, 2, 3, 4, 5, 6, 7, 8, 9, 10, 11] rfl
    have hKc := hK.sub (tys' := [(cI, .int), (cL, .object RX0)]) [0, 1] rfl
    refine vp_callSi (W.runV (As := []) (rest := []) ⟨hx, hb, hml, hown, hts⟩ (c_X1_mostCoveredDot l dC dI sc lr la0 xa0 ya0 la1 xa1 ya1 la2 xa2 ya2 cI cL f xs0 ys0 sz0 fo0 xs1 ys1 sz1 fo1 xs2 ys2 sz2 fo2 r_2 hf0 hf1 hf2 hr_2) (cwV 0 hts gX2_field_X1_mostCoveredDot rfl rfl rfl (by decide +kernel) ⟨Nat.le_of_ble_eq_true rfl, Nat.le_of_ble_eq_true rfl⟩) ⟨fun a U g mk q => ⟨q.1, q.2.1, va_K.moved (u := U) (U := U.calling g mk a) (Vm.Alike.refl U.vm) q.2.2⟩, va_recv hKc hPc (ci := 1) (q0 := 0) rfl rfl, fun U hU hW => ⟨rfl, by rw [hU]; exact hPc, va_K.moved hW.alike hKc⟩⟩ rfl rfl hl.1 rfl (lv_room (Nat.le_of_ble_eq_true rfl)) dX2_field_36 ⟨Nat.le_of_ble_eq_true rfl, Nat.le_of_ble_eq_true rfl⟩) (fun r_2' qr_2 => ?_)
    obtain rfl := qr_2.symm
    rw [← hQ]
    exact W.iret (v := r_2) hx hb hr (fun t ht hW => ⟨_, rfl, Option.some.inj hF, ht⟩) (fun _ h => by cases h) dX2_field_39
  · have hF := br0 hF c_1
    by_cases c_3 : a0 = (1 : Int32)
    · have hF := br1 hF c_3
      refine lv_tableIn (off := 39) (tgt := 40) hx hb dX2_field_1 (by rw [c_3]; decide) (by rw [c_3]; decide) (by rw [c_3]; rfl) (by decide) ?_
      refine lv_aload_n hx hb dX2_field_40 rfl (lv_at hl 0 rfl) ?_
      refine va_get (D := (dC, dI)) (ci := 2) (v := .ref sc) (C := RX2) (T := TX2) (N := 3) hx hb hts (by decide +kernel) hown hK hP 0 rfl rfl 0 (by decide) (hts (.fieldLink RX2 12 "DotCover" "now" "LDotCover$Scene;") (by decide +kernel)) (fun _ h9 => h9) rfl dX2_field_41 ?_
      obtain ⟨r_4, hr_4, hF⟩ := bd1_u hF
      have hPc := hP.sub (ws' := [(sc, .inr (1, [.ref lr])), (lr, .inl (cL, 3, .inr (.inr (.inr (.inr f))))), (la0, .inr (0, [.ref xa0, .ref ya0, .int sz0, .int fo0])), (xa0, .inl (cI, 8, .inl xs0)), (ya0, .inl (cI, 8, .inl ys0)), (la1, .inr (0, [.ref xa1, .ref ya1, .int sz1, .int fo1])), (xa1, .inl (cI, 8, .inl xs1)), (ya1, .inl (cI, 8, .inl ys1)), (la2, .inr (0, [.ref xa2, .ref ya2, .int sz2, .int fo2])), (xa2, .inl (cI, 8, .inl xs2)), (ya2, .inl (cI, 8, .inl ys2))]) [1, 2, 3, 4, 5, 6, 7, 8, 9, 10, 11] rfl
      have hKc := hK.sub (tys' := [(cI, .int), (cL, .object RX0)]) [0, 1] rfl
      refine vp_callSi (W.runV (As := []) (rest := []) ⟨hx, hb, hml, hown, hts⟩ (c_X1_leastCoveredDot l dC dI sc lr la0 xa0 ya0 la1 xa1 ya1 la2 xa2 ya2 cI cL f xs0 ys0 sz0 fo0 xs1 ys1 sz1 fo1 xs2 ys2 sz2 fo2 r_4 hf0 hf1 hf2 hr_4) (cwV 0 hts gX2_field_X1_leastCoveredDot rfl rfl rfl (by decide +kernel) ⟨Nat.le_of_ble_eq_true rfl, Nat.le_of_ble_eq_true rfl⟩) ⟨fun a U g mk q => ⟨q.1, q.2.1, va_K.moved (u := U) (U := U.calling g mk a) (Vm.Alike.refl U.vm) q.2.2⟩, va_recv hKc hPc (ci := 1) (q0 := 0) rfl rfl, fun U hU hW => ⟨rfl, by rw [hU]; exact hPc, va_K.moved hW.alike hKc⟩⟩ rfl rfl hl.1 rfl (lv_room (Nat.le_of_ble_eq_true rfl)) dX2_field_44 ⟨Nat.le_of_ble_eq_true rfl, Nat.le_of_ble_eq_true rfl⟩) (fun r_4' qr_4 => ?_)
      obtain rfl := qr_4.symm
      rw [← hQ]
      exact W.iret (v := r_4) hx hb hr (fun t ht hW => ⟨_, rfl, Option.some.inj hF, ht⟩) (fun _ h => by cases h) dX2_field_47
    · have hF := br0 hF c_3
      by_cases c_5 : a0 = (2 : Int32)
      · have hF := br1 hF c_5
        refine lv_tableIn (off := 47) (tgt := 48) hx hb dX2_field_1 (by rw [c_5]; decide) (by rw [c_5]; decide) (by rw [c_5]; rfl) (by decide) ?_
        refine lv_aload_n hx hb dX2_field_48 rfl (lv_at hl 0 rfl) ?_
        refine va_get (D := (dC, dI)) (ci := 2) (v := .ref sc) (C := RX2) (T := TX2) (N := 3) hx hb hts (by decide +kernel) hown hK hP 0 rfl rfl 0 (by decide) (hts (.fieldLink RX2 12 "DotCover" "now" "LDotCover$Scene;") (by decide +kernel)) (fun _ h9 => h9) rfl dX2_field_49 ?_
        refine lv_ldc2 (v := 124221621275136000) hx hb hown (hts (.constantLong RX2 101 (124221621275136000)) (by decide +kernel)) dX2_field_52 ?_
        obtain ⟨r_6, hr_6, hF⟩ := bd1_u hF
        have hPc := hP.sub (ws' := [(sc, .inr (1, [.ref lr])), (lr, .inl (cL, 3, .inr (.inr (.inr (.inr f))))), (la0, .inr (0, [.ref xa0, .ref ya0, .int sz0, .int fo0])), (xa0, .inl (cI, 8, .inl xs0)), (ya0, .inl (cI, 8, .inl ys0)), (la1, .inr (0, [.ref xa1, .ref ya1, .int sz1, .int fo1])), (xa1, .inl (cI, 8, .inl xs1)), (ya1, .inl (cI, 8, .inl ys1)), (la2, .inr (0, [.ref xa2, .ref ya2, .int sz2, .int fo2])), (xa2, .inl (cI, 8, .inl xs2)), (ya2, .inl (cI, 8, .inl ys2))]) [1, 2, 3, 4, 5, 6, 7, 8, 9, 10, 11] rfl
        have hKc := hK.sub (tys' := [(cI, .int), (cL, .object RX0)]) [0, 1] rfl
        refine vp_callSi (W.runV (As := [.long (124221621275136000 : Int64)]) (rest := []) ⟨hx, hb, hml, hown, hts⟩ (c_X1_dotsWithTogether l dC dI sc lr la0 xa0 ya0 la1 xa1 ya1 la2 xa2 ya2 cI cL f xs0 ys0 sz0 fo0 xs1 ys1 sz1 fo1 xs2 ys2 sz2 fo2 (124221621275136000 : Int64) r_6 hf0 hf1 hf2 hr_6) (cwV 1 hts gX2_field_X1_dotsWithTogether rfl rfl rfl (by decide +kernel) ⟨Nat.le_of_ble_eq_true rfl, Nat.le_of_ble_eq_true rfl⟩) ⟨fun a U g mk q => ⟨q.1, q.2.1, va_K.moved (u := U) (U := U.calling g mk a) (Vm.Alike.refl U.vm) q.2.2⟩, va_recv hKc hPc (ci := 1) (q0 := 0) rfl rfl, fun U hU hW => ⟨rfl, by rw [hU]; exact hPc, va_K.moved hW.alike hKc⟩⟩ rfl rfl hl.1 rfl (lv_room (Nat.le_of_ble_eq_true rfl)) dX2_field_55 ⟨Nat.le_of_ble_eq_true rfl, Nat.le_of_ble_eq_true rfl⟩) (fun r_6' qr_6 => ?_)
        obtain rfl := qr_6.symm
        rw [← hQ]
        exact W.iret (v := r_6) hx hb hr (fun t ht hW => ⟨_, rfl, Option.some.inj hF, ht⟩) (fun _ h => by cases h) dX2_field_58
      · have hF := br0 hF c_5
        by_cases c_7 : a0 = (3 : Int32)
        · have hF := br1 hF c_7
          refine lv_tableIn (off := 58) (tgt := 59) hx hb dX2_field_1 (by rw [c_7]; decide) (by rw [c_7]; decide) (by rw [c_7]; rfl) (by decide) ?_
          refine lv_aload_n hx hb dX2_field_59 rfl (lv_at hl 0 rfl) ?_
          refine va_get (D := (dC, dI)) (ci := 2) (v := .ref sc) (C := RX2) (T := TX2) (N := 3) hx hb hts (by decide +kernel) hown hK hP 0 rfl rfl 0 (by decide) (hts (.fieldLink RX2 12 "DotCover" "now" "LDotCover$Scene;") (by decide +kernel)) (fun _ h9 => h9) rfl dX2_field_60 ?_
          refine lv_lconst (v := 0) hx hb dX2_field_63 (by decide) ?_
          obtain ⟨r_8, hr_8, hF⟩ := bd1_u hF
          have hPc := hP.sub (ws' := [(sc, .inr (1, [.ref lr])), (lr, .inl (cL, 3, .inr (.inr (.inr (.inr f))))), (la0, .inr (0, [.ref xa0, .ref ya0, .int sz0, .int fo0])), (xa0, .inl (cI, 8, .inl xs0)), (ya0, .inl (cI, 8, .inl ys0)), (la1, .inr (0, [.ref xa1, .ref ya1, .int sz1, .int fo1])), (xa1, .inl (cI, 8, .inl xs1)), (ya1, .inl (cI, 8, .inl ys1)), (la2, .inr (0, [.ref xa2, .ref ya2, .int sz2, .int fo2])), (xa2, .inl (cI, 8, .inl xs2)), (ya2, .inl (cI, 8, .inl ys2))]) [1, 2, 3, 4, 5, 6, 7, 8, 9, 10, 11] rfl
          have hKc := hK.sub (tys' := [(cI, .int), (cL, .object RX0)]) [0, 1] rfl
          refine vp_callSi (W.runV (As := [.long (0 : Int64)]) (rest := []) ⟨hx, hb, hml, hown, hts⟩ (c_X1_dotsWithTogether l dC dI sc lr la0 xa0 ya0 la1 xa1 ya1 la2 xa2 ya2 cI cL f xs0 ys0 sz0 fo0 xs1 ys1 sz1 fo1 xs2 ys2 sz2 fo2 (0 : Int64) r_8 hf0 hf1 hf2 hr_8) (cwV 1 hts gX2_field_X1_dotsWithTogether rfl rfl rfl (by decide +kernel) ⟨Nat.le_of_ble_eq_true rfl, Nat.le_of_ble_eq_true rfl⟩) ⟨fun a U g mk q => ⟨q.1, q.2.1, va_K.moved (u := U) (U := U.calling g mk a) (Vm.Alike.refl U.vm) q.2.2⟩, va_recv hKc hPc (ci := 1) (q0 := 0) rfl rfl, fun U hU hW => ⟨rfl, by rw [hU]; exact hPc, va_K.moved hW.alike hKc⟩⟩ rfl rfl hl.1 rfl (lv_room (Nat.le_of_ble_eq_true rfl)) dX2_field_64 ⟨Nat.le_of_ble_eq_true rfl, Nat.le_of_ble_eq_true rfl⟩) (fun r_8' qr_8 => ?_)
          obtain rfl := qr_8.symm
          rw [← hQ]
          exact W.iret (v := r_8) hx hb hr (fun t ht hW => ⟨_, rfl, Option.some.inj hF, ht⟩) (fun _ h => by cases h) dX2_field_67
        · have hF := br0 hF c_7
          have tc_1 := lv_neT c_1 (a := 0) (by decide)
          have tc_3 := lv_neT c_3 (a := 1) (by decide)
          have tc_5 := lv_neT c_5 (a := 2) (by decide)
          have tc_7 := lv_neT c_7 (a := 3) (by decide)
          refine lv_tableOut (tgt := 68) hx hb dX2_field_1 (by omega) (by decide) ?_
          refine lv_bipush (v := -2) hx hb dX2_field_68 (by decide) ?_
          rw [← hQ]
          exact W.iret (v := (-2 : Int32)) hx hb hr (fun t ht hW => ⟨_, rfl, Option.some.inj hF, ht⟩) (fun _ h => by cases h) dX2_field_70

