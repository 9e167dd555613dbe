def P_X2_point (a0 : Int32) (a1 : Int32) (a2 : Int32) (xs : Nat → Int32) (ys : Nat → Int32) (sz : Int32) : Option (Int32 × (Nat → Int32) × (Nat → Int32) × Int32) :=
  bd1 (P_X2_within a0 (0 : Int32) (2 : Int32)) (fun r_1 =>
  if r_1 = (0 : Int32) then
    some ((-1 : Int32), xs, ys, sz)
  else
    bd1 (P_X2_inField a1) (fun r_3 =>
    if r_3 = (0 : Int32) then
      some ((-2 : Int32), xs, ys, sz)
    else
      bd1 (P_X2_inField a2) (fun r_5 =>
      if r_5 = (0 : Int32) then
        some ((-2 : Int32), xs, ys, sz)
      else
        if sz < (8 : Int32) then
          bd4 (P_X0_add a1 a2 xs ys sz) (fun r_8 xs_9 ys_10 sz_11 =>
          some (r_8, xs_9, ys_10, sz_11))
        else
          some ((-4 : Int32), xs, ys, sz))))

def rm_X2_point : Room := { frames := 2, cells := 0, slots := 0, locals := 43 }

set_option maxHeartbeats 4000000 in
set_option maxRecDepth 100000 in
theorem c_X2_point (l : Launch) (dC : Nat → ClassId) (dI : Nat → Nat → Nat) (h0 sc im lr la xa ya : Nat) (cI cL : ClassId) (hsz0 : Nat) (ke : Int32) (f : Nat → Option Nat) (xs : Nat → Int32) (ys : Nat → Int32) (sz : Int32) (fo : Int32) (a0 : Int32) (a1 : Int32) (a2 : Int32) (r0 : Int32) (xsN : Nat → Int32) (ysN : Nat → Int32) (szN : Int32) (hs1 : P_X2_within a0 (0 : Int32) (2 : Int32) = some (1 : Int32) → f a0.toNatClampNeg = some la) (hF : P_X2_point a0 a1 a2 xs ys sz = some (r0, xsN, ysN, szN)) : Met l yX2_point wsX2_point rm_X2_point (va_Pc [.ref h0, .int a0, .int a1, .int a2] (fun U => U.heap.size = hsz0 ∧ va_P (dC, dI) vwCl [(h0, .inr (2, [.ref sc, .ref im, .int ke])), (sc, .inr (1, [.ref lr])), (lr, .inl (cL, 3, .inr (.inr (.inr (.inr f))))), (la, .inr (0, [.ref xa, .ref ya, .int sz, .int fo])), (xa, .inl (cI, 8, .inl xs)), (ya, .inl (cI, 8, .inl ys))] U.heap ∧ va_K (dC, dI) vwCl [(cI, .int), (cL, .object RX0)] U ∧ va_D (fun _ => True) [(h0, .inr (2, [.ref sc, .ref im, .int ke])), (sc, .inr (1, [.ref lr])), (lr, .inl (cL, 3, .inr (.inr (.inr (.inr f))))), (la, .inr (0, [.ref xa, .ref ya, .int sz, .int fo])), (xa, .inl (cI, 8, .inl xs)), (ya, .inl (cI, 8, .inl ys))] ∧ nw U)) (va_Qi (fun (r : Int32) (_ : Unit) => r = r0) (fun _ t => va_P (dC, dI) vwCl [(h0, .inr (2, [.ref sc, .ref im, .int ke])), (sc, .inr (1, [.ref lr])), (lr, .inl (cL, 3, .inr (.inr (.inr (.inr f))))), (la, .inr (0, [.ref xa, .ref ya, .int szN, .int fo])), (xa, .inl (cI, 8, .inl xsN)), (ya, .inl (cI, 8, .inl ysN))] t.heap ∧ va_K (dC, dI) vwCl [(cI, .int), (cL, .object RX0)] t ∧ va_D (va_A [(h0, .inr (2, [.ref sc, .ref im, .int ke])), (sc, .inr (1, [.ref lr])), (lr, .inl (cL, 3, .inr (.inr (.inr (.inr f))))), (la, .inr (0, [.ref xa, .ref ya, .int sz, .int fo])), (xa, .inl (cI, 8, .inl xs)), (ya, .inl (cI, 8, .inl ys))] hsz0) [(h0, .inr (2, [.ref sc, .ref im, .int ke])), (sc, .inr (1, [.ref lr])), (lr, .inl (cL, 3, .inr (.inr (.inr (.inr f))))), (la, .inr (0, [.ref xa, .ref ya, .int szN, .int fo])), (xa, .inl (cI, 8, .inl xsN)), (ya, .inl (cI, 8, .inl ysN))]) (va_A [(h0, .inr (2, [.ref sc, .ref im, .int ke])), (sc, .inr (1, [.ref lr])), (lr, .inl (cL, 3, .inr (.inr (.inr (.inr f))))), (la, .inr (0, [.ref xa, .ref ya, .int sz, .int fo])), (xa, .inl (cI, 8, .inl xs)), (ya, .inl (cI, 8, .inl ys))] hsz0)) 0 0 (va_A [(h0, .inr (2, [.ref sc, .ref im, .int ke])), (sc, .inr (1, [.ref lr])), (lr, .inl (cL, 3, .inr (.inr (.inr (.inr f))))), (la, .inr (0, [.ref xa, .ref ya, .int sz, .int fo])), (xa, .inl (cI, 8, .inl xs)), (ya, .inl (cI, 8, .inl ys))] hsz0) := by
  refine Met.ofW (cc := cX2_point) (maxL := 5) (ret := (some .int)) (by decide) rfl ?_
  intro p e s m args below meth c s₁ B hml hv
  change W p l e rm_X2_point s m args below meth c s.heap [] 0 0 _ _
  obtain ⟨hv, hsz, hP, hK, hD0, hN⟩ := hv
  have hx := B.exec
  have hb := B.bytes
  have hr := B.returns
  have hts := atoms_spec (ws := wsX2_point) B.pre
  have hown : s.vm.findClass RX2 = some m.cls := findClass_of_methodNamed B.named
  have hlocks := B.notSynchronized
  have hN_RX0_25 := hN.1
  have hN_RX1_18 := hN.2.1
  have hN_RX1_26 := hN.2.2.1
  have hN_RX2_32 := hN.2.2.2.1
  have hN_RX2_44 := hN.2.2.2.2.1
  have hN_RX2_48 := hN.2.2.2.2.2.1
  have hN_RX2_55 := hN.2.2.2.2.2.2
  subst hsz
  have hD := hD0.self (sz := s.heap.size)
  generalize hAe : va_A [(h0, .inr (2, [.ref sc, .ref im, .int ke])), (sc, .inr (1, [.ref lr])), (lr, .inl (cL, 3, .inr (.inr (.inr (.inr f))))), (la, .inr (0, [.ref xa, .ref ya, .int sz, .int fo])), (xa, .inl (cI, 8, .inl xs)), (ya, .inl (cI, 8, .inl ys))] s.heap.size = A at hD ⊢
  have hA : ∀ q : Nat, s.heap.size ≤ q → A q := fun q h => by rw [← hAe]; exact Or.inr h
  have hS : va_S A s.heap s.heap [] := va_S.rf
  generalize hQ : MQ below (va_Qi (fun (r : Int32) (_ : Unit) => r = r0) (fun _ t => va_P (dC, dI) vwCl [(h0, .inr (2, [.ref sc, .ref im, .int ke])), (sc, .inr (1, [.ref lr])), (lr, .inl (cL, 3, .inr (.inr (.inr (.inr f))))), (la, .inr (0, [.ref xa, .ref ya, .int szN, .int fo])), (xa, .inl (cI, 8, .inl xsN)), (ya, .inl (cI, 8, .inl ysN))] t.heap ∧ va_K (dC, dI) vwCl [(cI, .int), (cL, .object RX0)] t ∧ va_D A [(h0, .inr (2, [.ref sc, .ref im, .int ke])), (sc, .inr (1, [.ref lr])), (lr, .inl (cL, 3, .inr (.inr (.inr (.inr f))))), (la, .inr (0, [.ref xa, .ref ya, .int szN, .int fo])), (xa, .inl (cI, 8, .inl xsN)), (ya, .inl (cI, 8, .inl ysN))]) A) args s 0 0 A = Q
  have hl := lv_entry ([.ref h0, .int a0, .int a1, .int a2]) (n := 5) (Nat.le_of_ble_eq_true rfl)
  have hE : entryFrame m args 5 = F0 m 0 ((lg_sl ([.ref h0, .int a0, .int a1, .int a2]) ++ List.replicate (5 - (lg_sl ([.ref h0, .int a0, .int a1, .int a2])).length) Slot.unset).toArray) [] := by rw [hv]; exact lg_entry_eq m _ 5
  rw [hE]
  generalize (lg_sl ([.ref h0, .int a0, .int a1, .int a2]) ++ List.replicate (5 - (lg_sl ([.ref h0, .int a0, .int a1, .int a2])).length) Slot.unset).toArray = ls at hl ⊢
  have hl : lv_has ls 5 [(0, .ref h0), (1, .int a0), (2, .int a1), (3, .int a2)] := hl
  unfold P_X2_point at hF
  refine lv_aload_n hx hb dX2_point_0 rfl (lv_at hl 0 rfl) ?_
  refine va_get (D := (dC, dI)) (ci := 2) (v := .ref sc) (C := RX2) (T := TX2) (N := 3) hx hb hts (by decide +kernel) hown hK hP 0 rfl rfl 0 (by decide) (hts (.fieldLink RX2 12 "DotCover" "now" "LDotCover$Scene;") (by decide +kernel)) (fun _ h9 => h9) rfl dX2_point_1 ?_
  refine lv_iload_n hx hb dX2_point_4 rfl (lv_at hl 1 rfl) ?_
  obtain ⟨r_1, hr_1, hF⟩ := bd1_u hF
  have hPc := hP.sub (ws' := [(sc, .inr (1, [.ref lr])), (lr, .inl (cL, 3, .inr (.inr (.inr (.inr f)))))]) [1, 2] rfl
  have hKc := hK.sub (tys' := [(cL, .object RX0)]) [1] rfl
  by_cases c_2 : r_1 = (0 : Int32)
  · have hF := br1 hF c_2
    refine va_csq (W.runV (As := [.int a0]) (rest := []) ⟨hx, hb, hml, hown, hts⟩ (c_X1_layerOf_out l dC dI sc lr cL f a0 (c_2 ▸ hr_1)) (cwV 1 hts gX2_point_X1_layerOf rfl rfl rfl (by decide +kernel) ⟨Nat.le_of_ble_eq_true rfl, Nat.le_of_ble_eq_true rfl⟩) ⟨fun a U g mk q => ⟨q.1, q.2.1, va_K.moved (u := U) (U := U.calling g mk a) (Vm.Alike.refl U.vm) q.2.2.1, nw_same rfl q.2.2.2⟩, va_recv hKc hPc (ci := 1) (q0 := 0) rfl rfl, fun U hU hW => ⟨rfl, by rw [hU]; exact hPc, va_K.moved hW.alike hKc, hN.warm hW⟩⟩ rfl rfl hl.1 rfl (lv_room (Nat.le_of_ble_eq_true rfl)) dX2_point_5 ⟨Nat.le_of_ble_eq_true rfl, Nat.le_of_ble_eq_true rfl⟩) (fun r_ hr_ => ?_)
    obtain rfl := hr_
    change W _ _ _ _ _ _ _ _ _ _ _ _ _ _ _ (F0 m 8 ls [.null])
    refine lv_astoreN (lv' := [(4, .null), (0, .ref h0), (1, .int a0), (2, .int a1), (3, .int a2)]) hx hb dX2_point_8 hl (by decide) rfl (fun ls hl => ?_)
    refine lv_aloadN hx hb dX2_point_10 (lv_at hl 0 rfl) ?_
    refine lv_ifnonnullN hx hb dX2_point_12 ?_
    refine lv_iconst (v := -1) hx hb dX2_point_15 (by decide) ?_
    obtain ⟨e0, rfl, rfl, rfl⟩ := tp4 hF
    rw [← hQ]
    exact W.iret (v := (-1 : Int32)) hx hb hr (fun t ht hW => ⟨⟨_, (), rfl, e0, by rw [ht]; exact hP, va_K.moved hW.alike hK, hD⟩, hS.F ht⟩) hS.2.2 dX2_point_16
  · have hF := br0 hF c_2
    have hw1 := within_1 hr_1 c_2
    refine va_csq (W.runV (As := [.int a0]) (rest := []) ⟨hx, hb, hml, hown, hts⟩ (c_X1_layerOf_in l dC dI sc lr cL f a0 la hw1 (hs1 hw1)) (cwV 1 hts gX2_point_X1_layerOf rfl rfl rfl (by decide +kernel) ⟨Nat.le_of_ble_eq_true rfl, Nat.le_of_ble_eq_true rfl⟩) ⟨fun a U g mk q => ⟨q.1, q.2.1, va_K.moved (u := U) (U := U.calling g mk a) (Vm.Alike.refl U.vm) q.2.2.1, nw_same rfl q.2.2.2⟩, va_recv hKc hPc (ci := 1) (q0 := 0) rfl rfl, fun U hU hW => ⟨rfl, by rw [hU]; exact hPc, va_K.moved hW.alike hKc, hN.warm hW⟩⟩ rfl rfl hl.1 rfl (lv_room (Nat.le_of_ble_eq_true rfl)) dX2_point_5 ⟨Nat.le_of_ble_eq_true rfl, Nat.le_of_ble_eq_true rfl⟩) (fun r_ hr_ => ?_)
    obtain rfl := hr_
    change W _ _ _ _ _ _ _ _ _ _ _ _ _ _ _ (F0 m 8 ls [.ref la])
    refine lv_astore (lv' := [(4, .ref la), (0, .ref h0), (1, .int a0), (2, .int a1), (3, .int a2)]) hx hb dX2_point_8 hl (by decide) rfl (fun ls hl => ?_)
    refine lv_aload hx hb dX2_point_10 (lv_at hl 0 rfl) ?_
    refine lv_ifnonnull (tgt := 17) hx hb dX2_point_12 (by decide) ?_
    refine lv_iload_n hx hb dX2_point_17 rfl (lv_at hl 3 rfl) ?_
    obtain ⟨r_3, hr_3, hF⟩ := bd1_u hF
    refine vp_callSi (W.runS (As := [.int a1]) (rest := []) ⟨hx, hb, hml, hown, hts⟩ (c_X2_inField l a1 r_3 hr_3) (va_cwS 1 hts gX2_point_X2_inField rfl rfl rfl (by decide +kernel) ⟨Nat.le_of_ble_eq_true rfl, Nat.le_of_ble_eq_true rfl⟩) preEq rfl rfl hl.1 rfl (lv_room (Nat.le_of_ble_eq_true rfl)) dX2_point_18 ⟨Nat.le_of_ble_eq_true rfl, Nat.le_of_ble_eq_true rfl⟩) (fun r_3' qr_3 => ?_)
    obtain rfl := qr_3.symm
    refine lv_if_eq (tgt := 31) hx hb dX2_point_21 (by decide) (fun c_4 => ?_) (fun c_4 => ?_)
    · have hF := br1 hF c_4
      refine lv_bipush (v := -2) hx hb dX2_point_31 (by decide) ?_
      obtain ⟨e0, rfl, rfl, rfl⟩ := tp4 hF
      rw [← hQ]
      exact W.iret (v := (-2 : Int32)) hx hb hr (fun t ht hW => ⟨⟨_, (), rfl, e0, by rw [ht]; exact hP, va_K.moved hW.alike hK, hD⟩, hS.F ht⟩) hS.2.2 dX2_point_33
    · have hF := br0 hF c_4
      refine lv_iload_n hx hb dX2_point_24 rfl (lv_at hl 4 rfl) ?_
      obtain ⟨r_5, hr_5, hF⟩ := bd1_u hF
      refine vp_callSi (W.runS (As := [.int a2]) (rest := []) ⟨hx, hb, hml, hown, hts⟩ (c_X2_inField l a2 r_5 hr_5) (va_cwS 1 hts gX2_point_X2_inField rfl rfl rfl (by decide +kernel) ⟨Nat.le_of_ble_eq_true rfl, Nat.le_of_ble_eq_true rfl⟩) preEq rfl rfl hl.1 rfl (lv_room (Nat.le_of_ble_eq_true rfl)) dX2_point_25 ⟨Nat.le_of_ble_eq_true rfl, Nat.le_of_ble_eq_true rfl⟩) (fun r_5' qr_5 => ?_)
      obtain rfl := qr_5.symm
      refine lv_if_ne (tgt := 34) hx hb dX2_point_28 (by decide) (fun c_6 => ?_) (fun c_6 => ?_)
      · have hF := br0 hF c_6
        refine lv_aload hx hb dX2_point_34 (lv_at hl 0 rfl) ?_
        refine va_getN (D := (dC, dI)) (ci := 0) (v := .int sz) (C := RX0) (T := TX0) (N := 4) hx hb hts (by decide +kernel) hown hK hP 3 rfl rfl 2 (by decide) (va_Nw.use rfl hN_RX2_32) (fun _ h9 => h9) rfl dX2_point_36 ?_
        refine lv_bipush (v := 8) hx hb dX2_point_39 (by decide) ?_
        refine lv_icmp_lt (tgt := 47) hx hb dX2_point_41 (by decide) (fun c_7 => ?_) (fun c_7 => ?_)
        · have hF := br1 hF c_7
          refine lv_aload hx hb dX2_point_47 (lv_at hl 0 rfl) ?_
          refine lv_iload_n hx hb dX2_point_49 rfl (lv_at hl 3 rfl) ?_
          refine lv_iload_n hx hb dX2_point_50 rfl (lv_at hl 4 rfl) ?_
          obtain ⟨r_8, xs_9, ys_10, sz_11, hr_11, hF⟩ := bd4_u hF
          have hPc := hP.sub (ws' := [(la, .inr (0, [.ref xa, .ref ya, .int sz, .int fo])), (xa, .inl (cI, 8, .inl xs)), (ya, .inl (cI, 8, .inl ys))]) [3, 4, 5] rfl
          have hKc := hK.sub (tys' := [(cI, .int)]) [0] rfl
          have hDc := hD.sub (ws' := [(la, .inr (0, [.ref xa, .ref ya, .int sz, .int fo])), (xa, .inl (cI, 8, .inl xs)), (ya, .inl (cI, 8, .inl ys))]) [3, 4, 5] (by decide) rfl
          have hFc := va_free (wc := [(la, .inr (0, [.ref xa, .ref ya, .int sz, .int fo])), (xa, .inl (cI, 8, .inl xs)), (ya, .inl (cI, 8, .inl ys))]) hD hS hA [3, 4, 5] rfl
          refine va_calli (va_runV (As := [.int a1, .int a2]) (rest := []) ⟨hx, hb, hml, hown, hts⟩ (c_X0_add l dC dI la xa ya cI s.heap.size xs ys sz fo a1 a2 r_8 xs_9 ys_10 sz_11 hr_11) (cwV 2 hts gX2_point_X0_add rfl rfl rfl (by decide +kernel) ⟨Nat.le_of_ble_eq_true rfl, Nat.le_of_ble_eq_true rfl⟩) ⟨fun a U g mk q => ⟨q.1, q.2.1, q.2.2.1, va_K.moved (u := U) (U := U.calling g mk a) (Vm.Alike.refl U.vm) q.2.2.2.1, q.2.2.2.2⟩, va_recv hKc hPc (ci := 0) (q0 := 0) rfl rfl, fun U hU hW => ⟨rfl, by rw [hU], by rw [hU]; exact hPc, va_K.moved hW.alike hKc, hDc.weaken (fun _ _ _ _ => trivial)⟩⟩ rfl rfl hl.1 rfl (lv_room (Nat.le_of_ble_eq_true rfl)) dX2_point_51 ⟨Nat.le_of_ble_eq_true rfl, Nat.le_of_ble_eq_true rfl⟩) hS (fun q _ h => hFc q h) hFc (fun r_8' _ t H1 locs ht hvm hw hB hz1 hk1 hS => ?_)
          obtain ⟨hP1, hK1, hD1⟩ := hB
          rw [ht] at hP1
          obtain rfl := hw.symm
          obtain ⟨hP, hD⟩ := va_join (wr := [(h0, .inr (2, [.ref sc, .ref im, .int ke])), (sc, .inr (1, [.ref lr])), (lr, .inl (cL, 3, .inr (.inr (.inr (.inr f)))))]) (w1 := [(la, .inr (0, [.ref xa, .ref ya, .int sz_11, .int fo])), (xa, .inl (cI, 8, .inl xs_9)), (ya, .inl (cI, 8, .inl ys_10))]) hP hD [3, 4, 5] [0, 1, 2] rfl rfl (by decide) (by decide) hk1 hFc hP1 hD1
          clear hP1 hK1 hD1 hk1 hFc
          generalize H1 = H at hP hS ⊢
          have hP : va_P (dC, dI) vwCl [(h0, .inr (2, [.ref sc, .ref im, .int ke])), (sc, .inr (1, [.ref lr])), (lr, .inl (cL, 3, .inr (.inr (.inr (.inr f))))), (la, .inr (0, [.ref xa, .ref ya, .int sz_11, .int fo])), (xa, .inl (cI, 8, .inl xs_9)), (ya, .inl (cI, 8, .inl ys_10))] H := hP
          have hD : va_D A [(h0, .inr (2, [.ref sc, .ref im, .int ke])), (sc, .inr (1, [.ref lr])), (lr, .inl (cL, 3, .inr (.inr (.inr (.inr f))))), (la, .inr (0, [.ref xa, .ref ya, .int sz_11, .int fo])), (xa, .inl (cI, 8, .inl xs_9)), (ya, .inl (cI, 8, .inl ys_10))] := hD
          obtain ⟨e0, rfl, rfl, rfl⟩ := tp4 hF
          rw [← hQ]
          exact W.iret (v := r_8) hx hb hr (fun t ht hW => ⟨⟨_, (), rfl, e0, by rw [ht]; exact hP, va_K.moved hW.alike hK, hD⟩, hS.F ht⟩) hS.2.2 dX2_point_54
        · have hF := br0 hF c_7
          refine lv_bipush (v := -4) hx hb dX2_point_44 (by decide) ?_
          obtain ⟨e0, rfl, rfl, rfl⟩ := tp4 hF
          rw [← hQ]
          exact W.iret (v := (-4 : Int32)) hx hb hr (fun t ht hW => ⟨⟨_, (), rfl, e0, by rw [ht]; exact hP, va_K.moved hW.alike hK, hD⟩, hS.F ht⟩) hS.2.2 dX2_point_46
      · have hF := br1 hF c_6
        refine lv_bipush (v := -2) hx hb dX2_point_31 (by decide) ?_
        obtain ⟨e0, rfl, rfl, rfl⟩ := tp4 hF
        rw [← hQ]
        exact W.iret (v := (-2 : Int32)) hx hb hr (fun t ht hW => ⟨⟨_, (), rfl, e0, by rw [ht]; exact hP, va_K.moved hW.alike hK, hD⟩, hS.F ht⟩) hS.2.2 dX2_point_33

def P_X2_pop (a0 : Int32) (sz : Int32) : Option (Int32 × Int32) :=
  bd1 (P_X2_within a0 (0 : Int32) (2 : Int32)) (fun r_1 =>
  if r_1 = (0 : Int32) then
    some ((-1 : Int32), sz)
  else
    if (0 : Int32) < sz then
      nm (sz - (1 : Int32)) (fun v_4 =>
      some (v_4, v_4))
    else
      some ((-3 : Int32), sz))

def rm_X2_pop : Room := { frames := 2, cells := 0, slots := 0, locals := 43 }

set_option maxHeartbeats 4000000 in
set_option maxRecDepth 100000 in
theorem c_X2_pop (l : Launch) (dC : Nat → ClassId) (dI : Nat → Nat → Nat) (h0 sc im lr la xa ya : Nat) (cI cL : ClassId) (hsz0 : Nat) (ke : Int32) (f : Nat → Option Nat) (xs : Nat → Int32) (ys : Nat → Int32) (sz : Int32) (fo : Int32) (a0 : Int32) (r0 : Int32) (szN : Int32) (hs1 : P_X2_within a0 (0 : Int32) (2 : Int32) = some (1 : Int32) → f a0.toNatClampNeg = some la) (hF : P_X2_pop a0 sz = some (r0, szN)) : Met l yX2_pop wsX2_pop rm_X2_pop (va_Pc [.ref h0, .int a0] (fun U => U.heap.size = hsz0 ∧ va_P (dC, dI) vwCl [(h0, .inr (2, [.ref sc, .ref im, .int ke])), (sc, .inr (1, [.ref lr])), (lr, .inl (cL, 3, .inr (.inr (.inr (.inr f))))), (la, .inr (0, [.ref xa, .ref ya, .int sz, .int fo])), (xa, .inl (cI, 8, .inl xs)), (ya, .inl (cI, 8, .inl ys))] U.heap ∧ va_K (dC, dI) vwCl [(cI, .int), (cL, .object RX0)] U ∧ va_D (fun _ => True) [(h0, .inr (2, [.ref sc, .ref im, .int ke])), (sc, .inr (1, [.ref lr])), (lr, .inl (cL, 3, .inr (.inr (.inr (.inr f))))), (la, .inr (0, [.ref xa, .ref ya, .int sz, .int fo])), (xa, .inl (cI, 8, .inl xs)), (ya, .inl (cI, 8, .inl ys))] ∧ nw U)) (va_Qi (fun (r : Int32) (_ : Unit) => r = r0) (fun _ t => va_P (dC, dI) vwCl [(h0, .inr (2, [.ref sc, .ref im, .int ke])), (sc, .inr (1, [.ref lr])), (lr, .inl (cL, 3, .inr (.inr (.inr (.inr f))))), (la, .inr (0, [.ref xa, .ref ya, .int szN, .int fo])), (xa, .inl (cI, 8, .inl xs)), (ya, .inl (cI, 8, .inl ys))] t.heap ∧ va_K (dC, dI) vwCl [(cI, .int), (cL, .object RX0)] t ∧ va_D (va_A [(h0, .inr (2, [.ref sc, .ref im, .int ke])), (sc, .inr (1, [.ref lr])), (lr, .inl (cL, 3, .inr (.inr (.inr (.inr f))))), (la, .inr (0, [.ref xa, .ref ya, .int sz, .int fo])), (xa, .inl (cI, 8, .inl xs)), (ya, .inl (cI, 8, .inl ys))] hsz0) [(h0, .inr (2, [.ref sc, .ref im, .int ke])), (sc, .inr (1, [.ref lr])), (lr, .inl (cL, 3, .inr (.inr (.inr (.inr f))))), (la, .inr (0, [.ref xa, .ref ya, .int szN, .int fo])), (xa, .inl (cI, 8, .inl xs)), (ya, .inl (cI, 8, .inl ys))]) (va_A [(h0, .inr (2, [.ref sc, .ref im, .int ke])), (sc, .inr (1, [.ref lr])), (lr, .inl (cL, 3, .inr (.inr (.inr (.inr f))))), (la, .inr (0, [.ref xa, .ref ya, .int sz, .int fo])), (xa, .inl (cI, 8, .inl xs)), (ya, .inl (cI, 8, .inl ys))] hsz0)) 0 0 (va_A [(h0, .inr (2, [.ref sc, .ref im, .int ke])), (sc, .inr (1, [.ref lr])), (lr, .inl (cL, 3, .inr (.inr (.inr (.inr f))))), (la, .inr (0, [.ref xa, .ref ya, .int sz, .int fo])), (xa, .inl (cI, 8, .inl xs)), (ya, .inl (cI, 8, .inl ys))] hsz0) := by
  refine Met.ofW (cc := cX2_pop) (maxL := 3) (ret := (some .int)) (by decide) rfl ?_
  intro p e s m args below meth c s₁ B hml hv
  change W p l e rm_X2_pop s m args below meth c s.heap [] 0 0 _ _
  obtain ⟨hv, hsz, hP, hK, hD0, hN⟩ := hv
  have hx := B.exec
  have hb := B.bytes
  have hr := B.returns
  have hts := atoms_spec (ws := wsX2_pop) B.pre
  have hown : s.vm.findClass RX2 = some m.cls := findClass_of_methodNamed B.named
  have hlocks := B.notSynchronized
  have hN_RX0_25 := hN.1
  have hN_RX1_18 := hN.2.1
  have hN_RX1_26 := hN.2.2.1
  have hN_RX2_32 := hN.2.2.2.1
  have hN_RX2_44 := hN.2.2.2.2.1
  have hN_RX2_48 := hN.2.2.2.2.2.1
  have hN_RX2_55 := hN.2.2.2.2.2.2
  subst hsz
  have hD := hD0.self (sz := s.heap.size)
  generalize hAe : va_A [(h0, .inr (2, [.ref sc, .ref im, .int ke])), (sc, .inr (1, [.ref lr])), (lr, .inl (cL, 3, .inr (.inr (.inr (.inr f))))), (la, .inr (0, [.ref xa, .ref ya, .int sz, .int fo])), (xa, .inl (cI, 8, .inl xs)), (ya, .inl (cI, 8, .inl ys))] s.heap.size = A at hD ⊢
  have hA : ∀ q : Nat, s.heap.size ≤ q → A q := fun q h => by rw [← hAe]; exact Or.inr h
  have hS : va_S A s.heap s.heap [] := va_S.rf
  generalize hQ : MQ below (va_Qi (fun (r : Int32) (_ : Unit) => r = r0) (fun _ t => va_P (dC, dI) vwCl [(h0, .inr (2, [.ref sc, .ref im, .int ke])), (sc, .inr (1, [.ref lr])), (lr, .inl (cL, 3, .inr (.inr (.inr (.inr f))))), (la, .inr (0, [.ref xa, .ref ya, .int szN, .int fo])), (xa, .inl (cI, 8, .inl xs)), (ya, .inl (cI, 8, .inl ys))] t.heap ∧ va_K (dC, dI) vwCl [(cI, .int), (cL, .object RX0)] t ∧ va_D A [(h0, .inr (2, [.ref sc, .ref im, .int ke])), (sc, .inr (1, [.ref lr])), (lr, .inl (cL, 3, .inr (.inr (.inr (.inr f))))), (la, .inr (0, [.ref xa, .ref ya, .int szN, .int fo])), (xa, .inl (cI, 8, .inl xs)), (ya, .inl (cI, 8, .inl ys))]) A) args s 0 0 A = Q
  have hl := lv_entry ([.ref h0, .int a0]) (n := 3) (Nat.le_of_ble_eq_true rfl)
  have hE : entryFrame m args 3 = F0 m 0 ((lg_sl ([.ref h0, .int a0]) ++ List.replicate (3 - (lg_sl ([.ref h0, .int a0])).length) Slot.unset).toArray) [] := by rw [hv]; exact lg_entry_eq m _ 3
  rw [hE]
  generalize (lg_sl ([.ref h0, .int a0]) ++ List.replicate (3 - (lg_sl ([.ref h0, .int a0])).length) Slot.unset).toArray = ls at hl ⊢
  have hl : lv_has ls 3 [(0, .ref h0), (1, .int a0)] := hl
  unfold P_X2_pop at hF
  refine lv_aload_n hx hb dX2_pop_0 rfl (lv_at hl 0 rfl) ?_
  refine va_get (D := (dC, dI)) (ci := 2) (v := .ref sc) (C := RX2) (T := TX2) (N := 3) hx hb hts (by decide +kernel) hown hK hP 0 rfl rfl 0 (by decide) (hts (.fieldLink RX2 12 "DotCover" "now" "LDotCover$Scene;") (by decide +kernel)) (fun _ h9 => h9) rfl dX2_pop_1 ?_
  refine lv_iload_n hx hb dX2_pop_4 rfl (lv_at hl 1 rfl) ?_
  obtain ⟨r_1, hr_1, hF⟩ := bd1_u hF
  have hPc := hP.sub (ws' := [(sc, .inr (1, [.ref lr])), (lr, .inl (cL, 3, .inr (.inr (.inr (.inr f)))))]) [1, 2] rfl
  have hKc := hK.sub (tys' := [(cL, .object RX0)]) [1] rfl
  by_cases c_2 : r_1 = (0 : Int32)
  · have hF := br1 hF c_2
    refine va_csq (W.runV (As := [.int a0]) (rest := []) ⟨hx, hb, hml, hown, hts⟩ (c_X1_layerOf_out l dC dI sc lr cL f a0 (c_2 ▸ hr_1)) (cwV 1 hts gX2_pop_X1_layerOf rfl rfl rfl (by decide +kernel) ⟨Nat.le_of_ble_eq_true rfl, Nat.le_of_ble_eq_true rfl⟩) ⟨fun a U g mk q => ⟨q.1, q.2.1, va_K.moved (u := U) (U := U.calling g mk a) (Vm.Alike.refl U.vm) q.2.2.1, nw_same rfl q.2.2.2⟩, va_recv hKc hPc (ci := 1) (q0 := 0) rfl rfl, fun U hU hW => ⟨rfl, by rw [hU]; exact hPc, va_K.moved hW.alike hKc, hN.warm hW⟩⟩ rfl rfl hl.1 rfl (lv_room (Nat.le_of_ble_eq_true rfl)) dX2_pop_5 ⟨Nat.le_of_ble_eq_true rfl, Nat.le_of_ble_eq_true rfl⟩) (fun r_ hr_ => ?_)
    obtain rfl := hr_
    change W _ _ _ _ _ _ _ _ _ _ _ _ _ _ _ (F0 m 8 ls [.null])
    refine lv_astore_nN (lv' := [(2, .null), (0, .ref h0), (1, .int a0)]) hx hb dX2_pop_8 rfl hl (by decide) rfl (fun ls hl => ?_)
    refine lv_aload_nN hx hb dX2_pop_9 rfl (lv_at hl 0 rfl) ?_
    refine lv_ifnonnullN hx hb dX2_pop_10 ?_
    refine lv_iconst (v := -1) hx hb dX2_pop_13 (by decide) ?_
    obtain ⟨e0, rfl⟩ := tp2 hF
    rw [← hQ]
    exact W.iret (v := (-1 : Int32)) hx hb hr (fun t ht hW => ⟨⟨_, (), rfl, e0, by rw [ht]; exact hP, va_K.moved hW.alike hK, hD⟩, hS.F ht⟩) hS.2.2 dX2_pop_14
  · have hF := br0 hF c_2
    have hw1 := within_1 hr_1 c_2
    refine va_csq (W.runV (As := [.int a0]) (rest := []) ⟨hx, hb, hml, hown, hts⟩ (c_X1_layerOf_in l dC dI sc lr cL f a0 la hw1 (hs1 hw1)) (cwV 1 hts gX2_pop_X1_layerOf rfl rfl rfl (by decide +kernel) ⟨Nat.le_of_ble_eq_true rfl, Nat.le_of_ble_eq_true rfl⟩) ⟨fun a U g mk q => ⟨q.1, q.2.1, va_K.moved (u := U) (U := U.calling g mk a) (Vm.Alike.refl U.vm) q.2.2.1, nw_same rfl q.2.2.2⟩, va_recv hKc hPc (ci := 1) (q0 := 0) rfl rfl, fun U hU hW => ⟨rfl, by rw [hU]; exact hPc, va_K.moved hW.alike hKc, hN.warm hW⟩⟩ rfl rfl hl.1 rfl (lv_room (Nat.le_of_ble_eq_true rfl)) dX2_pop_5 ⟨Nat.le_of_ble_eq_true rfl, Nat.le_of_ble_eq_true rfl⟩) (fun r_ hr_ => ?_)
    obtain rfl := hr_
    change W _ _ _ _ _ _ _ _ _ _ _ _ _ _ _ (F0 m 8 ls [.ref la])
    refine lv_astore_n (lv' := [(2, .ref la), (0, .ref h0), (1, .int a0)]) hx hb dX2_pop_8 rfl hl (by decide) rfl (fun ls hl => ?_)
    refine lv_aload_n hx hb dX2_pop_9 rfl (lv_at hl 0 rfl) ?_
    refine lv_ifnonnull (tgt := 15) hx hb dX2_pop_10 (by decide) ?_
    refine lv_aload_n hx hb dX2_pop_15 rfl (lv_at hl 0 rfl) ?_
    refine va_getN (D := (dC, dI)) (ci := 0) (v := .int sz) (C := RX0) (T := TX0) (N := 4) hx hb hts (by decide +kernel) hown hK hP 3 rfl rfl 2 (by decide) (va_Nw.use rfl hN_RX2_32) (fun _ h9 => h9) rfl dX2_pop_16 ?_
    refine lv_if_gt (tgt := 25) hx hb dX2_pop_19 (by decide) (fun c_3 => ?_) (fun c_3 => ?_)
    · have hF := br1 hF c_3
      refine lv_aload_n hx hb dX2_pop_25 rfl (lv_at hl 0 rfl) ?_
      refine lv_dup hx hb dX2_pop_26 rfl ?_
      refine va_getN (D := (dC, dI)) (ci := 0) (v := .int sz) (C := RX0) (T := TX0) (N := 4) hx hb hts (by decide +kernel) hown hK hP 3 rfl rfl 2 (by decide) (va_Nw.use rfl hN_RX2_32) (fun _ h9 => h9) rfl dX2_pop_27 ?_
      refine lv_iconst (v := 1) hx hb dX2_pop_30 (by decide) ?_
      refine lv_isub hx hb dX2_pop_31 ?_
      refine lv_topi (fun v_4 ev_4 => ?_)
      have hF := nm_u hF ev_4
      refine va_putN (D := (dC, dI)) (ci := 0) (v := .int v_4) (ty := .int) (C := RX0) (T := TX0) (N := 4) hx hb hts (by decide +kernel) tyX0 tyX0_ok nmX0 hown hK hP hD hS 3 rfl rfl 2 (by decide) (va_Nw.use rfl hN_RX2_32) (fun _ h9 => h9) rfl (by decide +kernel) rfl rfl (Nat.le_of_ble_eq_true rfl) dX2_pop_32 (fun H locs hP hD hS => ?_)
      have hP : va_P (dC, dI) vwCl [(h0, .inr (2, [.ref sc, .ref im, .int ke])), (sc, .inr (1, [.ref lr])), (lr, .inl (cL, 3, .inr (.inr (.inr (.inr f))))), (la, .inr (0, [.ref xa, .ref ya, .int v_4, .int fo])), (xa, .inl (cI, 8, .inl xs)), (ya, .inl (cI, 8, .inl ys))] H := hP
      have hD : va_D A [(h0, .inr (2, [.ref sc, .ref im, .int ke])), (sc, .inr (1, [.ref lr])), (lr, .inl (cL, 3, .inr (.inr (.inr (.inr f))))), (la, .inr (0, [.ref xa, .ref ya, .int v_4, .int fo])), (xa, .inl (cI, 8, .inl xs)), (ya, .inl (cI, 8, .inl ys))] := hD
      refine lv_aload_n hx hb dX2_pop_35 rfl (lv_at hl 0 rfl) ?_
      refine va_getN (D := (dC, dI)) (ci := 0) (v := .int v_4) (C := RX0) (T := TX0) (N := 4) hx hb hts (by decide +kernel) hown hK hP 3 rfl rfl 2 (by decide) (va_Nw.use rfl hN_RX2_32) (fun _ h9 => h9) rfl dX2_pop_36 ?_
      obtain ⟨e0, rfl⟩ := tp2 hF
      rw [← hQ]
      exact W.iret (v := v_4) hx hb hr (fun t ht hW => ⟨⟨_, (), rfl, e0, by rw [ht]; exact hP, va_K.moved hW.alike hK, hD⟩, hS.F ht⟩) hS.2.2 dX2_pop_39
    · have hF := br0 hF c_3
      refine lv_bipush (v := -3) hx hb dX2_pop_22 (by decide) ?_
      obtain ⟨e0, rfl⟩ := tp2 hF
      rw [← hQ]
      exact W.iret (v := (-3 : Int32)) hx hb hr (fun t ht hW => ⟨⟨_, (), rfl, e0, by rw [ht]; exact hP, va_K.moved hW.alike hK, hD⟩, hS.F ht⟩) hS.2.2 dX2_pop_24

def P_X2_set (a0 : Int32) (a1 : Int32) (a2 : Int32) (a3 : Int32) (xs : Nat → Int32) (ys : Nat → Int32) (sz : Int32) : Option (Int32 × (Nat → Int32) × (Nat → Int32)) :=
  bd1 (P_X2_within a0 (0 : Int32) (2 : Int32)) (fun r_1 =>
  if r_1 = (0 : Int32) then
    some ((-1 : Int32), xs, ys)
  else
    bd1 (P_X0_has a1 sz) (fun r_3 =>
    if r_3 = (0 : Int32) then
      some ((-1 : Int32), xs, ys)
    else
      bd1 (P_X2_inField a2) (fun r_5 =>
      if r_5 = (0 : Int32) then
        some ((-2 : Int32), xs, ys)
      else
        bd1 (P_X2_inField a3) (fun r_7 =>
        if r_7 = (0 : Int32) then
          some ((-2 : Int32), xs, ys)
        else
          gd (ib a1 8) (
          gd (ib a1 8) (
          nm (((13 : Int32) * (xs a1.toNatClampNeg)) + (ys a1.toNatClampNeg)) (fun v_9 =>
          gd (ib a1 8) (
          gd (ib a1 8) (
          some (v_9, (upd xs a1.toNatClampNeg a2), (upd ys a1.toNatClampNeg a3)))))))))))

def rm_X2_set : Room := { frames := 2, cells := 0, slots := 0, locals := 43 }

set_option maxHeartbeats 4000000 in
set_option maxRecDepth 100000 in
theorem c_X2_set (l : Launch) (dC : Nat → ClassId) (dI : Nat → Nat → Nat) (h0 sc im lr la xa ya : Nat) (cI cL : ClassId) (hsz0 : Nat) (ke : Int32) (f : Nat → Option Nat) (xs : Nat → Int32) (ys : Nat → Int32) (sz : Int32) (fo : Int32) (a0 : Int32) (a1 : Int32) (a2 : Int32) (a3 : Int32) (r0 : Int32) (xsN : Nat → Int32) (ysN : Nat → Int32) (hs1 : P_X2_within a0 (0 : Int32) (2 : Int32) = some (1 : Int32) → f a0.toNatClampNeg = some la) (hF : P_X2_set a0 a1 a2 a3 xs ys sz = some (r0, xsN, ysN)) : Met l yX2_set wsX2_set rm_X2_set (va_Pc [.ref h0, .int a0, .int a1, .int a2, .int a3] (fun U => U.heap.size = hsz0 ∧ va_P (dC, dI) vwCl [(h0, .inr (2, [.ref sc, .ref im, .int ke])), (sc, .inr (1, [.ref lr])), (lr, .inl (cL, 3, .inr (.inr (.inr (.inr f))))), (la, .inr (0, [.ref xa, .ref ya, .int sz, .int fo])), (xa, .inl (cI, 8, .inl xs)), (ya, .inl (cI, 8, .inl ys))] U.heap ∧ va_K (dC, dI) vwCl [(cI, .int), (cL, .object RX0)] U ∧ va_D (fun _ => True) [(h0, .inr (2, [.ref sc, .ref im, .int ke])), (sc, .inr (1, [.ref lr])), (lr, .inl (cL, 3, .inr (.inr (.inr (.inr f))))), (la, .inr (0, [.ref xa, .ref ya, .int sz, .int fo])), (xa, .inl (cI, 8, .inl xs)), (ya, .inl (cI, 8, .inl ys))] ∧ nw U)) (va_Qi (fun (r : Int32) (_ : Unit) => r = r0) (fun _ t => va_P (dC, dI) vwCl [(h0, .inr (2, [.ref sc, .ref im, .int ke])), (sc, .inr (1, [.ref lr])), (lr, .inl (cL, 3, .inr (.inr (.inr (.inr f))))), (la, .inr (0, [.ref xa, .ref ya, .int sz, .int fo])), (xa, .inl (cI, 8, .inl xsN)), (ya, .inl (cI, 8, .inl ysN))] t.heap ∧ va_K (dC, dI) vwCl [(cI, .int), (cL, .object RX0)] t ∧ va_D (va_A [(h0, .inr (2, [.ref sc, .ref im, .int ke])), (sc, .inr (1, [.ref lr])), (lr, .inl (cL, 3, .inr (.inr (.inr (.inr f))))), (la, .inr (0, [.ref xa, .ref ya, .int sz, .int fo])), (xa, .inl (cI, 8, .inl xs)), (ya, .inl (cI, 8, .inl ys))] hsz0) [(h0, .inr (2, [.ref sc, .ref im, .int ke])), (sc, .inr (1, [.ref lr])), (lr, .inl (cL, 3, .inr (.inr (.inr (.inr f))))), (la, .inr (0, [.ref xa, .ref ya, .int sz, .int fo])), (xa, .inl (cI, 8, .inl xsN)), (ya, .inl (cI, 8, .inl ysN))]) (va_A [(h0, .inr (2, [.ref sc, .ref im, .int ke])), (sc, .inr (1, [.ref lr])), (lr, .inl (cL, 3, .inr (.inr (.inr (.inr f))))), (la, .inr (0, [.ref xa, .ref ya, .int sz, .int fo])), (xa, .inl (cI, 8, .inl xs)), (ya, .inl (cI, 8, .inl ys))] hsz0)) 0 0 (va_A [(h0, .inr (2, [.ref sc, .ref im, .int ke])), (sc, .inr (1, [.ref lr])), (lr, .inl (cL, 3, .inr (.inr (.inr (.inr f))))), (la, .inr (0, [.ref xa, .ref ya, .int sz, .int fo])), (xa, .inl (cI, 8, .inl xs)), (ya, .inl (cI, 8, .inl ys))] hsz0) := by
  refine Met.ofW (cc := cX2_set) (maxL := 7) (ret := (some .int)) (by decide) rfl ?_
  intro p e s m args below meth c s₁ B hml hv
  change W p l e rm_X2_set s m args below meth c s.heap [] 0 0 _ _
  obtain ⟨hv, hsz, hP, hK, hD0, hN⟩ := hv
  have hx := B.exec
  have hb := B.bytes
  have hr := B.returns
  have hts := atoms_spec (ws := wsX2_set) B.pre
  have hown : s.vm.findClass RX2 = some m.cls := findClass_of_methodNamed B.named
  have hlocks := B.notSynchronized
  have hN_RX0_25 := hN.1
  have hN_RX1_18 := hN.2.1
  have hN_RX1_26 := hN.2.2.1
  have hN_RX2_32 := hN.2.2.2.1
  have hN_RX2_44 := hN.2.2.2.2.1
  have hN_RX2_48 := hN.2.2.2.2.2.1
  have hN_RX2_55 := hN.2.2.2.2.2.2
  subst hsz
  have hD := hD0.self (sz := s.heap.size)
  generalize hAe : va_A [(h0, .inr (2, [.ref sc, .ref im, .int ke])), (sc, .inr (1, [.ref lr])), (lr, .inl (cL, 3, .inr (.inr (.inr (.inr f))))), (la, .inr (0, [.ref xa, .ref ya, .int sz, .int fo])), (xa, .inl (cI, 8, .inl xs)), (ya, .inl (cI, 8, .inl ys))] s.heap.size = A at hD ⊢
  have hA : ∀ q : Nat, s.heap.size ≤ q → A q := fun q h => by rw [← hAe]; exact Or.inr h
  have hS : va_S A s.heap s.heap [] := va_S.rf
  generalize hQ : MQ below (va_Qi (fun (r : Int32) (_ : Unit) => r = r0) (fun _ t => va_P (dC, dI) vwCl [(h0, .inr (2, [.ref sc, .ref im, .int ke])), (sc, .inr (1, [.ref lr])), (lr, .inl (cL, 3, .inr (.inr (.inr (.inr f))))), (la, .inr (0, [.ref xa, .ref ya, .int sz, .int fo])), (xa, .inl (cI, 8, .inl xsN)), (ya, .inl (cI, 8, .inl ysN))] t.heap ∧ va_K (dC, dI) vwCl [(cI, .int), (cL, .object RX0)] t ∧ va_D A [(h0, .inr (2, [.ref sc, .ref im, .int ke])), (sc, .inr (1, [.ref lr])), (lr, .inl (cL, 3, .inr (.inr (.inr (.inr f))))), (la, .inr (0, [.ref xa, .ref ya, .int sz, .int fo])), (xa, .inl (cI, 8, .inl xsN)), (ya, .inl (cI, 8, .inl ysN))]) A) args s 0 0 A = Q
  have hl := lv_entry ([.ref h0, .int a0, .int a1, .int a2, .int a3]) (n := 7) (Nat.le_of_ble_eq_true rfl)
  have hE : entryFrame m args 7 = F0 m 0 ((lg_sl ([.ref h0, .int a0, .int a1, .int a2, .int a3]) ++ List.replicate (7 - (lg_sl ([.ref h0, .int a0, .int a1, .int a2, .int a3])).length) Slot.unset).toArray) [] := by rw [hv]; exact lg_entry_eq m _ 7
  rw [hE]
  generalize (lg_sl ([.ref h0, .int a0, .int a1, .int a2, .int a3]) ++ List.replicate (7 - (lg_sl ([.ref h0, .int a0, .int a1, .int a2, .int a3])).length) Slot.unset).toArray = ls at hl ⊢
  have hl : lv_has ls 7 [(0, .ref h0), (1, .int a0), (2, .int a1), (3, .int a2), (4, .int a3)] := hl
  unfold P_X2_set at hF
  refine lv_aload_n hx hb dX2_set_0 rfl (lv_at hl 0 rfl) ?_
  refine va_get (D := (dC, dI)) (ci := 2) (v := .ref sc) (C := RX2) (T := TX2) (N := 3) hx hb hts (by decide +kernel) hown hK hP 0 rfl rfl 0 (by decide) (hts (.fieldLink RX2 12 "DotCover" "now" "LDotCover$Scene;") (by decide +kernel)) (fun _ h9 => h9) rfl dX2_set_1 ?_
  refine lv_iload_n hx hb dX2_set_4 rfl (lv_at hl 1 rfl) ?_
  obtain ⟨r_1, hr_1, hF⟩ := bd1_u hF
  have hPc := hP.sub (ws' := [(sc, .inr (1, [.ref lr])), (lr, .inl (cL, 3, .inr (.inr (.inr (.inr f)))))]) [1, 2] rfl
  have hKc := hK.sub (tys' := [(cL, .object RX0)]) [1] rfl
  by_cases c_2 : r_1 = (0 : Int32)
  · have hF := br1 hF c_2
    refine va_csq (W.runV (As := [.int a0]) (rest := []) ⟨hx, hb, hml, hown, hts⟩ (c_X1_layerOf_out l dC dI sc lr cL f a0 (c_2 ▸ hr_1)) (cwV 1 hts gX2_set_X1_layerOf rfl rfl rfl (by decide +kernel) ⟨Nat.le_of_ble_eq_true rfl, Nat.le_of_ble_eq_true rfl⟩) ⟨fun a U g mk q => ⟨q.1, q.2.1, va_K.moved (u := U) (U := U.calling g mk a) (Vm.Alike.refl U.vm) q.2.2.1, nw_same rfl q.2.2.2⟩, va_recv hKc hPc (ci := 1) (q0 := 0) rfl rfl, fun U hU hW => ⟨rfl, by rw [hU]; exact hPc, va_K.moved hW.alike hKc, hN.warm hW⟩⟩ rfl rfl hl.1 rfl (lv_room (Nat.le_of_ble_eq_true rfl)) dX2_set_5 ⟨Nat.le_of_ble_eq_true rfl, Nat.le_of_ble_eq_true rfl⟩) (fun r_ hr_ => ?_)
    obtain rfl := hr_
    change W _ _ _ _ _ _ _ _ _ _ _ _ _ _ _ (F0 m 8 ls [.null])
    refine lv_astoreN (lv' := [(5, .null), (0, .ref h0), (1, .int a0), (2, .int a1), (3, .int a2), (4, .int a3)]) hx hb dX2_set_8 hl (by decide) rfl (fun ls hl => ?_)
    refine lv_aloadN hx hb dX2_set_10 (lv_at hl 0 rfl) ?_
    refine lv_ifnullN (tgt := 24) hx hb dX2_set_12 (by decide) ?_
    refine lv_iconst (v := -1) hx hb dX2_set_24 (by decide) ?_
    obtain ⟨e0, rfl, rfl⟩ := tp3 hF
    rw [← hQ]
    exact W.iret (v := (-1 : Int32)) hx hb hr (fun t ht hW => ⟨⟨_, (), rfl, e0, by rw [ht]; exact hP, va_K.moved hW.alike hK, hD⟩, hS.F ht⟩) hS.2.2 dX2_set_25
  · have hF := br0 hF c_2
    have hw1 := within_1 hr_1 c_2
    refine va_csq (W.runV (As := [.int a0]) (rest := []) ⟨hx, hb, hml, hown, hts⟩ (c_X1_layerOf_in l dC dI sc lr cL f a0 la hw1 (hs1 hw1)) (cwV 1 hts gX2_set_X1_layerOf rfl rfl rfl (by decide +kernel) ⟨Nat.le_of_ble_eq_true rfl, Nat.le_of_ble_eq_true rfl⟩) ⟨fun a U g mk q => ⟨q.1, q.2.1, va_K.moved (u := U) (U := U.calling g mk a) (Vm.Alike.refl U.vm) q.2.2.1, nw_same rfl q.2.2.2⟩, va_recv hKc hPc (ci := 1) (q0 := 0) rfl rfl, fun U hU hW => ⟨rfl, by rw [hU]; exact hPc, va_K.moved hW.alike hKc, hN.warm hW⟩⟩ rfl rfl hl.1 rfl (lv_room (Nat.le_of_ble_eq_true rfl)) dX2_set_5 ⟨Nat.le_of_ble_eq_true rfl, Nat.le_of_ble_eq_true rfl⟩) (fun r_ hr_ => ?_)
    obtain rfl := hr_
    change W _ _ _ _ _ _ _ _ _ _ _ _ _ _ _ (F0 m 8 ls [.ref la])
    refine lv_astore (lv' := [(5, .ref la), (0, .ref h0), (1, .int a0), (2, .int a1), (3, .int a2), (4, .int a3)]) hx hb dX2_set_8 hl (by decide) rfl (fun ls hl => ?_)
    refine lv_aload hx hb dX2_set_10 (lv_at hl 0 rfl) ?_
    refine lv_ifnull hx hb dX2_set_12 ?_
    refine lv_aload hx hb dX2_set_15 (lv_at hl 0 rfl) ?_
    refine lv_iload_n hx hb dX2_set_17 rfl (lv_at hl 3 rfl) ?_
    obtain ⟨r_3, hr_3, hF⟩ := bd1_u hF
    have hPc := hP.sub (ws' := [(la, .inr (0, [.ref xa, .ref ya, .int sz, .int fo])), (xa, .inl (cI, 8, .inl xs)), (ya, .inl (cI, 8, .inl ys))]) [3, 4, 5] rfl
    have hKc := hK.sub (tys' := [(cI, .int)]) [0] rfl
    refine vp_callSi (W.runV (As := [.int a1]) (rest := []) ⟨hx, hb, hml, hown, hts⟩ (c_X0_has l dC dI la xa ya cI xs ys sz fo a1 r_3 hr_3) (cwV 1 hts gX2_set_X0_has rfl rfl rfl (by decide +kernel) ⟨Nat.le_of_ble_eq_true rfl, Nat.le_of_ble_eq_true rfl⟩) ⟨fun a U g mk q => ⟨q.1, q.2.1, va_K.moved (u := U) (U := U.calling g mk a) (Vm.Alike.refl U.vm) q.2.2⟩, va_recv hKc hPc (ci := 0) (q0 := 0) rfl rfl, fun U hU hW => ⟨rfl, by rw [hU]; exact hPc, va_K.moved hW.alike hKc⟩⟩ rfl rfl hl.1 rfl (lv_room (Nat.le_of_ble_eq_true rfl)) dX2_set_18 ⟨Nat.le_of_ble_eq_true rfl, Nat.le_of_ble_eq_true rfl⟩) (fun r_3' qr_3 => ?_)
    obtain rfl := qr_3.symm
    refine lv_if_ne (tgt := 26) hx hb dX2_set_21 (by decide) (fun c_4 => ?_) (fun c_4 => ?_)
    · have hF := br0 hF c_4
      refine lv_iload_n hx hb dX2_set_26 rfl (lv_at hl 4 rfl) ?_
      obtain ⟨r_5, hr_5, hF⟩ := bd1_u hF
      refine vp_callSi (W.runS (As := [.int a2]) (rest := []) ⟨hx, hb, hml, hown, hts⟩ (c_X2_inField l a2 r_5 hr_5) (va_cwS 1 hts gX2_set_X2_inField rfl rfl rfl (by decide +kernel) ⟨Nat.le_of_ble_eq_true rfl, Nat.le_of_ble_eq_true rfl⟩) preEq rfl rfl hl.1 rfl (lv_room (Nat.le_of_ble_eq_true rfl)) dX2_set_27 ⟨Nat.le_of_ble_eq_true rfl, Nat.le_of_ble_eq_true rfl⟩) (fun r_5' qr_5 => ?_)
      obtain rfl := qr_5.symm
      refine lv_if_eq (tgt := 41) hx hb dX2_set_30 (by decide) (fun c_6 => ?_) (fun c_6 => ?_)
      · have hF := br1 hF c_6
        refine lv_bipush (v := -2) hx hb dX2_set_41 (by decide) ?_
        obtain ⟨e0, rfl, rfl⟩ := tp3 hF
        rw [← hQ]
        exact W.iret (v := (-2 : Int32)) hx hb hr (fun t ht hW => ⟨⟨_, (), rfl, e0, by rw [ht]; exact hP, va_K.moved hW.alike hK, hD⟩, hS.F ht⟩) hS.2.2 dX2_set_43
      · have hF := br0 hF c_6
        refine lv_iload hx hb dX2_set_33 (lv_at hl 5 rfl) ?_
        obtain ⟨r_7, hr_7, hF⟩ := bd1_u hF
        refine vp_callSi (W.runS (As := [.int a3]) (rest := []) ⟨hx, hb, hml, hown, hts⟩ (c_X2_inField l a3 r_7 hr_7) (va_cwS 1 hts gX2_set_X2_inField rfl rfl rfl (by decide +kernel) ⟨Nat.le_of_ble_eq_true rfl, Nat.le_of_ble_eq_true rfl⟩) preEq rfl rfl hl.1 rfl (lv_room (Nat.le_of_ble_eq_true rfl)) dX2_set_35 ⟨Nat.le_of_ble_eq_true rfl, Nat.le_of_ble_eq_true rfl⟩) (fun r_7' qr_7 => ?_)
        obtain rfl := qr_7.symm
        refine lv_if_ne (tgt := 44) hx hb dX2_set_38 (by decide) (fun c_8 => ?_) (fun c_8 => ?_)
        · have hF := br0 hF c_8
          refine lv_bipush (v := 13) hx hb dX2_set_44 (by decide) ?_
          refine lv_aload hx hb dX2_set_46 (lv_at hl 0 rfl) ?_
          refine va_getN (D := (dC, dI)) (ci := 0) (v := .ref xa) (C := RX0) (T := TX0) (N := 4) hx hb hts (by decide +kernel) hown hK hP 3 rfl rfl 0 (by decide) (va_Nw.use rfl hN_RX2_44) (fun _ h9 => h9) rfl dX2_set_48 ?_
          refine lv_iload_n hx hb dX2_set_51 rfl (lv_at hl 3 rfl) ?_
          obtain ⟨hi_52, hF⟩ := gd_u hF
          refine va_iald hx hb hK hP 4 0 rfl rfl (in_u hi_52) dX2_set_52 ?_
          refine lv_imul hx hb dX2_set_53 ?_
          refine lv_aload hx hb dX2_set_54 (lv_at hl 0 rfl) ?_
          refine va_getN (D := (dC, dI)) (ci := 0) (v := .ref ya) (C := RX0) (T := TX0) (N := 4) hx hb hts (by decide +kernel) hown hK hP 3 rfl rfl 1 (by decide) (va_Nw.use rfl hN_RX2_48) (fun _ h9 => h9) rfl dX2_set_56 ?_
          refine lv_iload_n hx hb dX2_set_59 rfl (lv_at hl 3 rfl) ?_
          obtain ⟨hi_60, hF⟩ := gd_u hF
          refine va_iald hx hb hK hP 5 0 rfl rfl (in_u hi_60) dX2_set_60 ?_
          refine lv_iadd hx hb dX2_set_61 ?_
          refine lv_topi (fun v_9 ev_9 => ?_)
          have hF := nm_u hF ev_9
          refine lv_istore (lv' := [(6, .int v_9), (5, .ref la), (0, .ref h0), (1, .int a0), (2, .int a1), (3, .int a2), (4, .int a3)]) hx hb dX2_set_62 hl (by decide) rfl (fun ls hl => ?_)
          refine lv_aload hx hb dX2_set_64 (lv_at hl 1 rfl) ?_
          refine va_getN (D := (dC, dI)) (ci := 0) (v := .ref xa) (C := RX0) (T := TX0) (N := 4) hx hb hts (by decide +kernel) hown hK hP 3 rfl rfl 0 (by decide) (va_Nw.use rfl hN_RX2_44) (fun _ h9 => h9) rfl dX2_set_66 ?_
          refine lv_iload_n hx hb dX2_set_69 rfl (lv_at hl 4 rfl) ?_
          refine lv_iload_n hx hb dX2_set_70 rfl (lv_at hl 5 rfl) ?_
          obtain ⟨hi_71, hF⟩ := gd_u hF
          refine va_iast hx hb hK hP hD hS 4 0 rfl rfl (in_u hi_71) dX2_set_71 (fun H locs hP hD hS => ?_)
          have hP : va_P (dC, dI) vwCl [(h0, .inr (2, [.ref sc, .ref im, .int ke])), (sc, .inr (1, [.ref lr])), (lr, .inl (cL, 3, .inr (.inr (.inr (.inr f))))), (la, .inr (0, [.ref xa, .ref ya, .int sz, .int fo])), (xa, .inl (cI, 8, .inl (upd xs a1.toNatClampNeg a2))), (ya, .inl (cI, 8, .inl ys))] H := hP
          have hD : va_D A [(h0, .inr (2, [.ref sc, .ref im, .int ke])), (sc, .inr (1, [.ref lr])), (lr, .inl (cL, 3, .inr (.inr (.inr (.inr f))))), (la, .inr (0, [.ref xa, .ref ya, .int sz, .int fo])), (xa, .inl (cI, 8, .inl (upd xs a1.toNatClampNeg a2))), (ya, .inl (cI, 8, .inl ys))] := hD
          refine lv_aload hx hb dX2_set_72 (lv_at hl 1 rfl) ?_
          refine va_getN (D := (dC, dI)) (ci := 0) (v := .ref ya) (C := RX0) (T := TX0) (N := 4) hx hb hts (by decide +kernel) hown hK hP 3 rfl rfl 1 (by decide) (va_Nw.use rfl hN_RX2_48) (fun _ h9 => h9) rfl dX2_set_74 ?_
          refine lv_iload_n hx hb dX2_set_77 rfl (lv_at hl 4 rfl) ?_
          refine lv_iload hx hb dX2_set_78 (lv_at hl 6 rfl) ?_
          obtain ⟨hi_80, hF⟩ := gd_u hF
          refine va_iast hx hb hK hP hD hS 5 0 rfl rfl (in_u hi_80) dX2_set_80 (fun H locs hP hD hS => ?_)
          have hP : va_P (dC, dI) vwCl [(h0, .inr (2, [.ref sc, .ref im, .int ke])), (sc, .inr (1, [.ref lr])), (lr, .inl (cL, 3, .inr (.inr (.inr (.inr f))))), (la, .inr (0, [.ref xa, .ref ya, .int sz, .int fo])), (xa, .inl (cI, 8, .inl (upd xs a1.toNatClampNeg a2))), (ya, .inl (cI, 8, .inl (upd ys a1.toNatClampNeg a3)))] H := hP
          have hD : va_D A [(h0, .inr (2, [.ref sc, .ref im, .int ke])), (sc, .inr (1, [.ref lr])), (lr, .inl (cL, 3, .inr (.inr (.inr (.inr f))))), (la, .inr (0, [.ref xa, .ref ya, .int sz, .int fo])), (xa, .inl (cI, 8, .inl (upd xs a1.toNatClampNeg a2))), (ya, .inl (cI, 8, .inl (upd ys a1.toNatClampNeg a3)))] := hD
          refine lv_iload hx hb dX2_set_81 (lv_at hl 0 rfl) ?_
          obtain ⟨e0, rfl, rfl⟩ := tp3 hF
          rw [← hQ]
          exact W.iret (v := v_9) hx hb hr (fun t ht hW => ⟨⟨_, (), rfl, e0, by rw [ht]; exact hP, va_K.moved hW.alike hK, hD⟩, hS.F ht⟩) hS.2.2 dX2_set_83
        · have hF := br1 hF c_8
          refine lv_bipush (v := -2) hx hb dX2_set_41 (by decide) ?_
          obtain ⟨e0, rfl, rfl⟩ := tp3 hF
          rw [← hQ]
          exact W.iret (v := (-2 : Int32)) hx hb hr (fun t ht hW => ⟨⟨_, (), rfl, e0, by rw [ht]; exact hP, va_K.moved hW.alike hK, hD⟩, hS.F ht⟩) hS.2.2 dX2_set_43
    · have hF := br1 hF c_4
      refine lv_iconst (v := -1) hx hb dX2_set_24 (by decide) ?_
      obtain ⟨e0, rfl, rfl⟩ := tp3 hF
      rw [← hQ]
      exact W.iret (v := (-1 : Int32)) hx hb hr (fun t ht hW => ⟨⟨_, (), rfl, e0, by rw [ht]; exact hP, va_K.moved hW.alike hK, hD⟩, hS.F ht⟩) hS.2.2 dX2_set_25

def P_X2_rule (a0 : Int32) (a1 : Int32) (fo : Int32) : Option (Int32 × Int32) :=
  bd1 (P_X2_within a0 (0 : Int32) (2 : Int32)) (fun r_1 =>
  if r_1 = (0 : Int32) then
    some ((-1 : Int32), fo)
  else
    bd1 (P_X2_within a1 (0 : Int32) (1 : Int32)) (fun r_3 =>
    if r_3 = (0 : Int32) then
      some ((-2 : Int32), fo)
    else
      some (fo, a1)))

def rm_X2_rule : Room := { frames := 2, cells := 0, slots := 0, locals := 43 }

set_option maxHeartbeats 4000000 in
set_option maxRecDepth 100000 in
theorem c_X2_rule (l : Launch) (dC : Nat → ClassId) (dI : Nat → Nat → Nat) (h0 sc im lr la xa ya : Nat) (cI cL : ClassId) (hsz0 : Nat) (ke : Int32) (f : Nat → Option Nat) (xs : Nat → Int32) (ys : Nat → Int32) (sz : Int32) (fo : Int32) (a0 : Int32) (a1 : Int32) (r0 : Int32) (foN : Int32) (hs1 : P_X2_within a0 (0 : Int32) (2 : Int32) = some (1 : Int32) → f a0.toNatClampNeg = some la) (hF : P_X2_rule a0 a1 fo = some (r0, foN)) : Met l yX2_rule wsX2_rule rm_X2_rule (va_Pc [.ref h0, .int a0, .int a1] (fun U => U.heap.size = hsz0 ∧ va_P (dC, dI) vwCl [(h0, .inr (2, [.ref sc, .ref im, .int ke])), (sc, .inr (1, [.ref lr])), (lr, .inl (cL, 3, .inr (.inr (.inr (.inr f))))), (la, .inr (0, [.ref xa, .ref ya, .int sz, .int fo])), (xa, .inl (cI, 8, .inl xs)), (ya, .inl (cI, 8, .inl ys))] U.heap ∧ va_K (dC, dI) vwCl [(cI, .int), (cL, .object RX0)] U ∧ va_D (fun _ => True) [(h0, .inr (2, [.ref sc, .ref im, .int ke])), (sc, .inr (1, [.ref lr])), (lr, .inl (cL, 3, .inr (.inr (.inr (.inr f))))), (la, .inr (0, [.ref xa, .ref ya, .int sz, .int fo])), (xa, .inl (cI, 8, .inl xs)), (ya, .inl (cI, 8, .inl ys))] ∧ nw U)) (va_Qi (fun (r : Int32) (_ : Unit) => r = r0) (fun _ t => va_P (dC, dI) vwCl [(h0, .inr (2, [.ref sc, .ref im, .int ke])), (sc, .inr (1, [.ref lr])), (lr, .inl (cL, 3, .inr (.inr (.inr (.inr f))))), (la, .inr (0, [.ref xa, .ref ya, .int sz, .int foN])), (xa, .inl (cI, 8, .inl xs)), (ya, .inl (cI, 8, .inl ys))] t.heap ∧ va_K (dC, dI) vwCl [(cI, .int), (cL, .object RX0)] t ∧ va_D (va_A [(h0, .inr (2, [.ref sc, .ref im, .int ke])), (sc, .inr (1, [.ref lr])), (lr, .inl (cL, 3, .inr (.inr (.inr (.inr f))))), (la, .inr (0, [.ref xa, .ref ya, .int sz, .int fo])), (xa, .inl (cI, 8, .inl xs)), (ya, .inl (cI, 8, .inl ys))] hsz0) [(h0, .inr (2, [.ref sc, .ref im, .int ke])), (sc, .inr (1, [.ref lr])), (lr, .inl (cL, 3, .inr (.inr (.inr (.inr f))))), (la, .inr (0, [.ref xa, .ref ya, .int sz, .int foN])), (xa, .inl (cI, 8, .inl xs)), (ya, .inl (cI, 8, .inl ys))]) (va_A [(h0, .inr (2, [.ref sc, .ref im, .int ke])), (sc, .inr (1, [.ref lr])), (lr, .inl (cL, 3, .inr (.inr (.inr (.inr f))))), (la, .inr (0, [.ref xa, .ref ya, .int sz, .int fo])), (xa, .inl (cI, 8, .inl xs)), (ya, .inl (cI, 8, .inl ys))] hsz0)) 0 0 (va_A [(h0, .inr (2, [.ref sc, .ref im, .int ke])), (sc, .inr (1, [.ref lr])), (lr, .inl (cL, 3, .inr (.inr (.inr (.inr f))))), (la, .inr (0, [.ref xa, .ref ya, .int sz, .int fo])), (xa, .inl (cI, 8, .inl xs)), (ya, .inl (cI, 8, .inl ys))] hsz0) := by
  refine Met.ofW (cc := cX2_rule) (maxL := 5) (ret := (some .int)) (by decide) rfl ?_
  intro p e s m args below meth c s₁ B hml hv
  change W p l e rm_X2_rule s m args below meth c s.heap [] 0 0 _ _
  obtain ⟨hv, hsz, hP, hK, hD0, hN⟩ := hv
  have hx := B.exec
  have hb := B.bytes
  have hr := B.returns
  have hts := atoms_spec (ws := wsX2_rule) B.pre
  have hown : s.vm.findClass RX2 = some m.cls := findClass_of_methodNamed B.named
  have hlocks := B.notSynchronized
  have hN_RX0_25 := hN.1
  have hN_RX1_18 := hN.2.1
  have hN_RX1_26 := hN.2.2.1
  have hN_RX2_32 := hN.2.2.2.1
  have hN_RX2_44 := hN.2.2.2.2.1
  have hN_RX2_48 := hN.2.2.2.2.2.1
  have hN_RX2_55 := hN.2.2.2.2.2.2
  subst hsz
  have hD := hD0.self (sz := s.heap.size)
  generalize hAe : va_A [(h0, .inr (2, [.ref sc, .ref im, .int ke])), (sc, .inr (1, [.ref lr])), (lr, .inl (cL, 3, .inr (.inr (.inr (.inr f))))), (la, .inr (0, [.ref xa, .ref ya, .int sz, .int fo])), (xa, .inl (cI, 8, .inl xs)), (ya, .inl (cI, 8, .inl ys))] s.heap.size = A at hD ⊢
  have hA : ∀ q : Nat, s.heap.size ≤ q → A q := fun q h => by rw [← hAe]; exact Or.inr h
  have hS : va_S A s.heap s.heap [] := va_S.rf
  generalize hQ : MQ below (va_Qi (fun (r : Int32) (_ : Unit) => r = r0) (fun _ t => va_P (dC, dI) vwCl [(h0, .inr (2, [.ref sc, .ref im, .int ke])), (sc, .inr (1, [.ref lr])), (lr, .inl (cL, 3, .inr (.inr (.inr (.inr f))))), (la, .inr (0, [.ref xa, .ref ya, .int sz, .int foN])), (xa, .inl (cI, 8, .inl xs)), (ya, .inl (cI, 8, .inl ys))] t.heap ∧ va_K (dC, dI) vwCl [(cI, .int), (cL, .object RX0)] t ∧ va_D A [(h0, .inr (2, [.ref sc, .ref im, .int ke])), (sc, .inr (1, [.ref lr])), (lr, .inl (cL, 3, .inr (.inr (.inr (.inr f))))), (la, .inr (0, [.ref xa, .ref ya, .int sz, .int foN])), (xa, .inl (cI, 8, .inl xs)), (ya, .inl (cI, 8, .inl ys))]) A) args s 0 0 A = Q
  have hl := lv_entry ([.ref h0, .int a0, .int a1]) (n := 5) (Nat.le_of_ble_eq_true rfl)
  have hE : entryFrame m args 5 = F0 m 0 ((lg_sl ([.ref h0, .int a0, .int a1]) ++ List.replicate (5 - (lg_sl ([.ref h0, .int a0, .int a1])).length) Slot.unset).toArray) [] := by rw [hv]; exact lg_entry_eq m _ 5
  rw [hE]
  generalize (lg_sl ([.ref h0, .int a0, .int a1]) ++ List.replicate (5 - (lg_sl ([.ref h0, .int a0, .int a1])).length) Slot.unset).toArray = ls at hl ⊢
  have hl : lv_has ls 5 [(0, .ref h0), (1, .int a0), (2, .int a1)] := hl
  unfold P_X2_rule at hF
  refine lv_aload_n hx hb dX2_rule_0 rfl (lv_at hl 0 rfl) ?_
  refine va_get (D := (dC, dI)) (ci := 2) (v := .ref sc) (C := RX2) (T := TX2) (N := 3) hx hb hts (by decide +kernel) hown hK hP 0 rfl rfl 0 (by decide) (hts (.fieldLink RX2 12 "DotCover" "now" "LDotCover$Scene;") (by decide +kernel)) (fun _ h9 => h9) rfl dX2_rule_1 ?_
  refine lv_iload_n hx hb dX2_rule_4 rfl (lv_at hl 1 rfl) ?_
  obtain ⟨r_1, hr_1, hF⟩ := bd1_u hF
  have hPc := hP.sub (ws' := [(sc, .inr (1, [.ref lr])), (lr, .inl (cL, 3, .inr (.inr (.inr (.inr f)))))]) [1, 2] rfl
  have hKc := hK.sub (tys' := [(cL, .object RX0)]) [1] rfl
  by_cases c_2 : r_1 = (0 : Int32)
  · have hF := br1 hF c_2
    refine va_csq (W.runV (As := [.int a0]) (rest := []) ⟨hx, hb, hml, hown, hts⟩ (c_X1_layerOf_out l dC dI sc lr cL f a0 (c_2 ▸ hr_1)) (cwV 1 hts gX2_rule_X1_layerOf rfl rfl rfl (by decide +kernel) ⟨Nat.le_of_ble_eq_true rfl, Nat.le_of_ble_eq_true rfl⟩) ⟨fun a U g mk q => ⟨q.1, q.2.1, va_K.moved (u := U) (U := U.calling g mk a) (Vm.Alike.refl U.vm) q.2.2.1, nw_same rfl q.2.2.2⟩, va_recv hKc hPc (ci := 1) (q0 := 0) rfl rfl, fun U hU hW => ⟨rfl, by rw [hU]; exact hPc, va_K.moved hW.alike hKc, hN.warm hW⟩⟩ rfl rfl hl.1 rfl (lv_room (Nat.le_of_ble_eq_true rfl)) dX2_rule_5 ⟨Nat.le_of_ble_eq_true rfl, Nat.le_of_ble_eq_true rfl⟩) (fun r_ hr_ => ?_)
    obtain rfl := hr_
    change W _ _ _ _ _ _ _ _ _ _ _ _ _ _ _ (F0 m 8 ls [.null])
    refine lv_astore_nN (lv' := [(3, .null), (0, .ref h0), (1, .int a0), (2, .int a1)]) hx hb dX2_rule_8 rfl hl (by decide) rfl (fun ls hl => ?_)
    refine lv_aload_nN hx hb dX2_rule_9 rfl (lv_at hl 0 rfl) ?_
    refine lv_ifnonnullN hx hb dX2_rule_10 ?_
    refine lv_iconst (v := -1) hx hb dX2_rule_13 (by decide) ?_
    obtain ⟨e0, rfl⟩ := tp2 hF
    rw [← hQ]
    exact W.iret (v := (-1 : Int32)) hx hb hr (fun t ht hW => ⟨⟨_, (), rfl, e0, by rw [ht]; exact hP, va_K.moved hW.alike hK, hD⟩, hS.F ht⟩) hS.2.2 dX2_rule_14
  · have hF := br0 hF c_2
    have hw1 := within_1 hr_1 c_2
    refine va_csq (W.runV (As := [.int a0]) (rest := []) ⟨hx, hb, hml, hown, hts⟩ (c_X1_layerOf_in l dC dI sc lr cL f a0 la hw1 (hs1 hw1)) (cwV 1 hts gX2_rule_X1_layerOf rfl rfl rfl (by decide +kernel) ⟨Nat.le_of_ble_eq_true rfl, Nat.le_of_ble_eq_true rfl⟩) ⟨fun a U g mk q => ⟨q.1, q.2.1, va_K.moved (u := U) (U := U.calling g mk a) (Vm.Alike.refl U.vm) q.2.2.1, nw_same rfl q.2.2.2⟩, va_recv hKc hPc (ci := 1) (q0 := 0) rfl rfl, fun U hU hW => ⟨rfl, by rw [hU]; exact hPc, va_K.moved hW.alike hKc, hN.warm hW⟩⟩ rfl rfl hl.1 rfl (lv_room (Nat.le_of_ble_eq_true rfl)) dX2_rule_5 ⟨Nat.le_of_ble_eq_true rfl, Nat.le_of_ble_eq_true rfl⟩) (fun r_ hr_ => ?_)
    obtain rfl := hr_
    change W _ _ _ _ _ _ _ _ _ _ _ _ _ _ _ (F0 m 8 ls [.ref la])
    refine lv_astore_n (lv' := [(3, .ref la), (0, .ref h0), (1, .int a0), (2, .int a1)]) hx hb dX2_rule_8 rfl hl (by decide) rfl (fun ls hl => ?_)
    refine lv_aload_n hx hb dX2_rule_9 rfl (lv_at hl 0 rfl) ?_
    refine lv_ifnonnull (tgt := 15) hx hb dX2_rule_10 (by decide) ?_
    refine lv_iload_n hx hb dX2_rule_15 rfl (lv_at hl 3 rfl) ?_
    refine lv_iconst (v := 0) hx hb dX2_rule_16 (by decide) ?_
    refine lv_iconst (v := 1) hx hb dX2_rule_17 (by decide) ?_
    obtain ⟨r_3, hr_3, hF⟩ := bd1_u hF
    refine vp_callSi (W.runS (As := [.int a1, .int (0 : Int32), .int (1 : Int32)]) (rest := []) ⟨hx, hb, hml, hown, hts⟩ (c_X2_within l a1 (0 : Int32) (1 : Int32) r_3 hr_3) (va_cwS 3 hts gX2_rule_X2_within rfl rfl rfl (by decide +kernel) ⟨Nat.le_of_ble_eq_true rfl, Nat.le_of_ble_eq_true rfl⟩) preEq rfl rfl hl.1 rfl (lv_room (Nat.le_of_ble_eq_true rfl)) dX2_rule_18 ⟨Nat.le_of_ble_eq_true rfl, Nat.le_of_ble_eq_true rfl⟩) (fun r_3' qr_3 => ?_)
    obtain rfl := qr_3.symm
    refine lv_if_ne (tgt := 27) hx hb dX2_rule_21 (by decide) (fun c_4 => ?_) (fun c_4 => ?_)
    · have hF := br0 hF c_4
      refine lv_aload_n hx hb dX2_rule_27 rfl (lv_at hl 0 rfl) ?_
      refine va_getN (D := (dC, dI)) (ci := 0) (v := .int fo) (C := RX0) (T := TX0) (N := 4) hx hb hts (by decide +kernel) hown hK hP 3 rfl rfl 3 (by decide) (va_Nw.use rfl hN_RX2_55) (fun _ h9 => h9) rfl dX2_rule_28 ?_
      refine lv_istore (lv' := [(4, .int fo), (3, .ref la), (0, .ref h0), (1, .int a0), (2, .int a1)]) hx hb dX2_rule_31 hl (by decide) rfl (fun ls hl => ?_)
      refine lv_aload_n hx hb dX2_rule_33 rfl (lv_at hl 1 rfl) ?_
      refine lv_iload_n hx hb dX2_rule_34 rfl (lv_at hl 4 rfl) ?_
      refine va_putN (D := (dC, dI)) (ci := 0) (v := .int a1) (ty := .int) (C := RX0) (T := TX0) (N := 4) hx hb hts (by decide +kernel) tyX0 tyX0_ok nmX0 hown hK hP hD hS 3 rfl rfl 3 (by decide) (va_Nw.use rfl hN_RX2_55) (fun _ h9 => h9) rfl (by decide +kernel) rfl rfl (Nat.le_of_ble_eq_true rfl) dX2_rule_35 (fun H locs hP hD hS => ?_)
      have hP : va_P (dC, dI) vwCl [(h0, .inr (2, [.ref sc, .ref im, .int ke])), (sc, .inr (1, [.ref lr])), (lr, .inl (cL, 3, .inr (.inr (.inr (.inr f))))), (la, .inr (0, [.ref xa, .ref ya, .int sz, .int a1])), (xa, .inl (cI, 8, .inl xs)), (ya, .inl (cI, 8, .inl ys))] H := hP
      have hD : va_D A [(h0, .inr (2, [.ref sc, .ref im, .int ke])), (sc, .inr (1, [.ref lr])), (lr, .inl (cL, 3, .inr (.inr (.inr (.inr f))))), (la, .inr (0, [.ref xa, .ref ya, .int sz, .int a1])), (xa, .inl (cI, 8, .inl xs)), (ya, .inl (cI, 8, .inl ys))] := hD
      refine lv_iload hx hb dX2_rule_38 (lv_at hl 0 rfl) ?_
      obtain ⟨e0, rfl⟩ := tp2 hF
      rw [← hQ]
      exact W.iret (v := fo) hx hb hr (fun t ht hW => ⟨⟨_, (), rfl, e0, by rw [ht]; exact hP, va_K.moved hW.alike hK, hD⟩, hS.F ht⟩) hS.2.2 dX2_rule_40
    · have hF := br1 hF c_4
      refine lv_bipush (v := -2) hx hb dX2_rule_24 (by decide) ?_
      obtain ⟨e0, rfl⟩ := tp2 hF
      rw [← hQ]
      exact W.iret (v := (-2 : Int32)) hx hb hr (fun t ht hW => ⟨⟨_, (), rfl, e0, by rw [ht]; exact hP, va_K.moved hW.alike hK, hD⟩, hS.F ht⟩) hS.2.2 dX2_rule_26

def P_X2_move (a0 : Int32) (a1 : Int32) (a2 : Int32) (xs : Nat → Int32) (ys : Nat → Int32) (sz : Int32) : Option (Int32 × (Nat → Int32) × (Nat → Int32)) :=
  bd1 (P_X2_within a0 (0 : Int32) (2 : Int32)) (fun r_1 =>
  if r_1 = (0 : Int32) then
    some ((-1 : Int32), xs, ys)
  else
    bd1 (P_X2_within a1 (-12 : Int32) (12 : Int32)) (fun r_3 =>
    if r_3 = (0 : Int32) then
      some ((-2 : Int32), xs, ys)
    else
      bd1 (P_X2_within a2 (-12 : Int32) (12 : Int32)) (fun r_5 =>
      if r_5 = (0 : Int32) then
        some ((-2 : Int32), xs, ys)
      else
        bd1 (P_X0_staysInField a1 a2 xs ys sz) (fun r_7 =>
        if r_7 = (0 : Int32) then
          some ((-5 : Int32), xs, ys)
        else
          bd2 (P_X0_shift a1 a2 xs ys sz) (fun xs_9 ys_10 =>
          some (sz, xs_9, ys_10))))))

def rm_X2_move : Room := { frames := 3, cells := 0, slots := 0, locals := 65 }

set_option maxHeartbeats 4000000 in
set_option maxRecDepth 100000 in
theorem c_X2_move (l : Launch) (dC : Nat → ClassId) (dI : Nat → Nat → Nat) (h0 sc im lr la xa ya : Nat) (cI cL : ClassId) (hsz0 : Nat) (ke : Int32) (f : Nat → Option Nat) (xs : Nat → Int32) (ys : Nat → Int32) (sz : Int32) (fo : Int32) (a0 : Int32) (a1 : Int32) (a2 : Int32) (r0 : Int32) (xsN : Nat → Int32) (ysN : Nat → Int32) (hs1 : P_X2_within a0 (0 : Int32) (2 : Int32) = some (1 : Int32) → f a0.toNatClampNeg = some la) (hF : P_X2_move a0 a1 a2 xs ys sz = some (r0, xsN, ysN)) : Met l yX2_move wsX2_move rm_X2_move (va_Pc [.ref h0, .int a0, .int a1, .int a2] (fun U => U.heap.size = hsz0 ∧ va_P (dC, dI) vwCl [(h0, .inr (2, [.ref sc, .ref im, .int ke])), (sc, .inr (1, [.ref lr])), (lr, .inl (cL, 3, .inr (.inr (.inr (.inr f))))), (la, .inr (0, [.ref xa, .ref ya, .int sz, .int fo])), (xa, .inl (cI, 8, .inl xs)), (ya, .inl (cI, 8, .inl ys))] U.heap ∧ va_K (dC, dI) vwCl [(cI, .int), (cL, .object RX0)] U ∧ va_D (fun _ => True) [(h0, .inr (2, [.ref sc, .ref im, .int ke])), (sc, .inr (1, [.ref lr])), (lr, .inl (cL, 3, .inr (.inr (.inr (.inr f))))), (la, .inr (0, [.ref xa, .ref ya, .int sz, .int fo])), (xa, .inl (cI, 8, .inl xs)), (ya, .inl (cI, 8, .inl ys))] ∧ nw U)) (va_Qi (fun (r : Int32) (_ : Unit) => r = r0) (fun _ t => va_P (dC, dI) vwCl [(h0, .inr (2, [.ref sc, .ref im, .int ke])), (sc, .inr (1, [.ref lr])), (lr, .inl (cL, 3, .inr (.inr (.inr (.inr f))))), (la, .inr (0, [.ref xa, .ref ya, .int sz, .int fo])), (xa, .inl (cI, 8, .inl xsN)), (ya, .inl (cI, 8, .inl ysN))] t.heap ∧ va_K (dC, dI) vwCl [(cI, .int), (cL, .object RX0)] t ∧ va_D (va_A [(h0, .inr (2, [.ref sc, .ref im, .int ke])), (sc, .inr (1, [.ref lr])), (lr, .inl (cL, 3, .inr (.inr (.inr (.inr f))))), (la, .inr (0, [.ref xa, .ref ya, .int sz, .int fo])), (xa, .inl (cI, 8, .inl xs)), (ya, .inl (cI, 8, .inl ys))] hsz0) [(h0, .inr (2, [.ref sc, .ref im, .int ke])), (sc, .inr (1, [.ref lr])), (lr, .inl (cL, 3, .inr (.inr (.inr (.inr f))))), (la, .inr (0, [.ref xa, .ref ya, .int sz, .int fo])), (xa, .inl (cI, 8, .inl xsN)), (ya, .inl (cI, 8, .inl ysN))]) (va_A [(h0, .inr (2, [.ref sc, .ref im, .int ke])), (sc, .inr (1, [.ref lr])), (lr, .inl (cL, 3, .inr (.inr (.inr (.inr f))))), (la, .inr (0, [.ref xa, .ref ya, .int sz, .int fo])), (xa, .inl (cI, 8, .inl xs)), (ya, .inl (cI, 8, .inl ys))] hsz0)) 0 0 (va_A [(h0, .inr (2, [.ref sc, .ref im, .int ke])), (sc, .inr (1, [.ref lr])), (lr, .inl (cL, 3, .inr (.inr (.inr (.inr f))))), (la, .inr (0, [.ref xa, .ref ya, .int sz, .int fo])), (xa, .inl (cI, 8, .inl xs)), (ya, .inl (cI, 8, .inl ys))] hsz0) := by
  refine Met.ofW (cc := cX2_move) (maxL := 5) (ret := (some .int)) (by decide) rfl ?_
  intro p e s m args below meth c s₁ B hml hv
  change W p l e rm_X2_move s m args below meth c s.heap [] 0 0 _ _
  obtain ⟨hv, hsz, hP, hK, hD0, hN⟩ := hv
  have hx := B.exec
  have hb := B.bytes
  have hr := B.returns
  have hts := atoms_spec (ws := wsX2_move) B.pre
  have hown : s.vm.findClass RX2 = some m.cls := findClass_of_methodNamed B.named
  have hlocks := B.notSynchronized
  have hN_RX0_25 := hN.1
  have hN_RX1_18 := hN.2.1
  have hN_RX1_26 := hN.2.2.1
  have hN_RX2_32 := hN.2.2.2.1
  have hN_RX2_44 := hN.2.2.2.2.1
  have hN_RX2_48 := hN.2.2.2.2.2.1
  have hN_RX2_55 := hN.2.2.2.2.2.2
  subst hsz
  have hD := hD0.self (sz := s.heap.size)
  generalize hAe : va_A [(h0, .inr (2, [.ref sc, .ref im, .int ke])), (sc, .inr (1, [.ref lr])), (lr, .inl (cL, 3, .inr (.inr (.inr (.inr f))))), (la, .inr (0, [.ref xa, .ref ya, .int sz, .int fo])), (xa, .inl (cI, 8, .inl xs)), (ya, .inl (cI, 8, .inl ys))] s.heap.size = A at hD ⊢
  have hA : ∀ q : Nat, s.heap.size ≤ q → A q := fun q h => by rw [← hAe]; exact Or.inr h
  have hS : va_S A s.heap s.heap [] := va_S.rf
  generalize hQ : MQ below (va_Qi (fun (r : Int32) (_ : Unit) => r = r0) (fun _ t => va_P (dC, dI) vwCl [(h0, .inr (2, [.ref sc, .ref im, .int ke])), (sc, .inr (1, [.ref lr])), (lr, .inl (cL, 3, .inr (.inr (.inr (.inr f))))), (la, .inr (0, [.ref xa, .ref ya, .int sz, .int fo])), (xa, .inl (cI, 8, .inl xsN)), (ya, .inl (cI, 8, .inl ysN))] t.heap ∧ va_K (dC, dI) vwCl [(cI, .int), (cL, .object RX0)] t ∧ va_D A [(h0, .inr (2, [.ref sc, .ref im, .int ke])), (sc, .inr (1, [.ref lr])), (lr, .inl (cL, 3, .inr (.inr (.inr (.inr f))))), (la, .inr (0, [.ref xa, .ref ya, .int sz, .int fo])), (xa, .inl (cI, 8, .inl xsN)), (ya, .inl (cI, 8, .inl ysN))]) A) args s 0 0 A = Q
  have hl := lv_entry ([.ref h0, .int a0, .int a1, .int a2]) (n := 5) (Nat.le_of_ble_eq_true rfl)
  have hE : entryFrame m args 5 = F0 m 0 ((lg_sl ([.ref h0, .int a0, .int a1, .int a2]) ++ List.replicate (5 - (lg_sl ([.ref h0, .int a0, .int a1, .int a2])).length) Slot.unset).toArray) [] := by rw [hv]; exact lg_entry_eq m _ 5
  rw [hE]
  generalize (lg_sl ([.ref h0, .int a0, .int a1, .int a2]) ++ List.replicate (5 - (lg_sl ([.ref h0, .int a0, .int a1, .int a2])).length) Slot.unset).toArray = ls at hl ⊢
  have hl : lv_has ls 5 [(0, .ref h0), (1, .int a0), (2, .int a1), (3, .int a2)] := hl
  unfold P_X2_move at hF
  refine lv_aload_n hx hb dX2_move_0 rfl (lv_at hl 0 rfl) ?_
  refine va_get (D := (dC, dI)) (ci := 2) (v := .ref sc) (C := RX2) (T := TX2) (N := 3) hx hb hts (by decide +kernel) hown hK hP 0 rfl rfl 0 (by decide) (hts (.fieldLink RX2 12 "DotCover" "now" "LDotCover$Scene;") (by decide +kernel)) (fun _ h9 => h9) rfl dX2_move_1 ?_
  refine lv_iload_n hx hb dX2_move_4 rfl (lv_at hl 1 rfl) ?_
  obtain ⟨r_1, hr_1, hF⟩ := bd1_u hF
  have hPc := hP.sub (ws' := [(sc, .inr (1, [.ref lr])), (lr, .inl (cL, 3, .inr (.inr (.inr (.inr f)))))]) [1, 2] rfl
  have hKc := hK.sub (tys' := [(cL, .object RX0)]) [1] rfl
  by_cases c_2 : r_1 = (0 : Int32)
  · have hF := br1 hF c_2
    refine va_csq (W.runV (As := [.int a0]) (rest := []) ⟨hx, hb, hml, hown, hts⟩ (c_X1_layerOf_out l dC dI sc lr cL f a0 (c_2 ▸ hr_1)) (cwV 1 hts gX2_move_X1_layerOf rfl rfl rfl (by decide +kernel) ⟨Nat.le_of_ble_eq_true rfl, Nat.le_of_ble_eq_true rfl⟩) ⟨fun a U g mk q => ⟨q.1, q.2.1, va_K.moved (u := U) (U := U.calling g mk a) (Vm.Alike.refl U.vm) q.2.2.1, nw_same rfl q.2.2.2⟩, va_recv hKc hPc (ci := 1) (q0 := 0) rfl rfl, fun U hU hW => ⟨rfl, by rw [hU]; exact hPc, va_K.moved hW.alike hKc, hN.warm hW⟩⟩ rfl rfl hl.1 rfl (lv_room (Nat.le_of_ble_eq_true rfl)) dX2_move_5 ⟨Nat.le_of_ble_eq_true rfl, Nat.le_of_ble_eq_true rfl⟩) (fun r_ hr_ => ?_)
    obtain rfl := hr_
    change W _ _ _ _ _ _ _ _ _ _ _ _ _ _ _ (F0 m 8 ls [.null])
    refine lv_astoreN (lv' := [(4, .null), (0, .ref h0), (1, .int a0), (2, .int a1), (3, .int a2)]) hx hb dX2_move_8 hl (by decide) rfl (fun ls hl => ?_)
    refine lv_aloadN hx hb dX2_move_10 (lv_at hl 0 rfl) ?_
    refine lv_ifnonnullN hx hb dX2_move_12 ?_
    refine lv_iconst (v := -1) hx hb dX2_move_15 (by decide) ?_
    obtain ⟨e0, rfl, rfl⟩ := tp3 hF
    rw [← hQ]
    exact W.iret (v := (-1 : Int32)) hx hb hr (fun t ht hW => ⟨⟨_, (), rfl, e0, by rw [ht]; exact hP, va_K.moved hW.alike hK, hD⟩, hS.F ht⟩) hS.2.2 dX2_move_16
  · have hF := br0 hF c_2
    have hw1 := within_1 hr_1 c_2
    refine va_csq (W.runV (As := [.int a0]) (rest := []) ⟨hx, hb, hml, hown, hts⟩ (c_X1_layerOf_in l dC dI sc lr cL f a0 la hw1 (hs1 hw1)) (cwV 1 hts gX2_move_X1_layerOf rfl rfl rfl (by decide +kernel) ⟨Nat.le_of_ble_eq_true rfl, Nat.le_of_ble_eq_true rfl⟩) ⟨fun a U g mk q => ⟨q.1, q.2.1, va_K.moved (u := U) (U := U.calling g mk a) (Vm.Alike.refl U.vm) q.2.2.1, nw_same rfl q.2.2.2⟩, va_recv hKc hPc (ci := 1) (q0 := 0) rfl rfl, fun U hU hW => ⟨rfl, by rw [hU]; exact hPc, va_K.moved hW.alike hKc, hN.warm hW⟩⟩ rfl rfl hl.1 rfl (lv_room (Nat.le_of_ble_eq_true rfl)) dX2_move_5 ⟨Nat.le_of_ble_eq_true rfl, Nat.le_of_ble_eq_true rfl⟩) (fun r_ hr_ => ?_)
    obtain rfl := hr_
    change W _ _ _ _ _ _ _ _ _ _ _ _ _ _ _ (F0 m 8 ls [.ref la])
    refine lv_astore (lv' := [(4, .ref la), (0, .ref h0), (1, .int a0), (2, .int a1), (3, .int a2)]) hx hb dX2_move_8 hl (by decide) rfl (fun ls hl => ?_)
    refine lv_aload hx hb dX2_move_10 (lv_at hl 0 rfl) ?_
    refine lv_ifnonnull (tgt := 17) hx hb dX2_move_12 (by decide) ?_
    refine lv_iload_n hx hb dX2_move_17 rfl (lv_at hl 3 rfl) ?_
    refine lv_bipush (v := -12) hx hb dX2_move_18 (by decide) ?_
    refine lv_bipush (v := 12) hx hb dX2_move_20 (by decide) ?_
    obtain ⟨r_3, hr_3, hF⟩ := bd1_u hF
    refine vp_callSi (W.runS (As := [.int a1, .int (-12 : Int32), .int (12 : Int32)]) (rest := []) ⟨hx, hb, hml, hown, hts⟩ (c_X2_within l a1 (-12 : Int32) (12 : Int32) r_3 hr_3) (va_cwS 3 hts gX2_move_X2_within rfl rfl rfl (by decide +kernel) ⟨Nat.le_of_ble_eq_true rfl, Nat.le_of_ble_eq_true rfl⟩) preEq rfl rfl hl.1 rfl (lv_room (Nat.le_of_ble_eq_true rfl)) dX2_move_22 ⟨Nat.le_of_ble_eq_true rfl, Nat.le_of_ble_eq_true rfl⟩) (fun r_3' qr_3 => ?_)
    obtain rfl := qr_3.symm
    refine lv_if_eq (tgt := 39) hx hb dX2_move_25 (by decide) (fun c_4 => ?_) (fun c_4 => ?_)
    · have hF := br1 hF c_4
      refine lv_bipush (v := -2) hx hb dX2_move_39 (by decide) ?_
      obtain ⟨e0, rfl, rfl⟩ := tp3 hF
      rw [← hQ]
      exact W.iret (v := (-2 : Int32)) hx hb hr (fun t ht hW => ⟨⟨_, (), rfl, e0, by rw [ht]; exact hP, va_K.moved hW.alike hK, hD⟩, hS.F ht⟩) hS.2.2 dX2_move_41
    · have hF := br0 hF c_4
      refine lv_iload_n hx hb dX2_move_28 rfl (lv_at hl 4 rfl) ?_
      refine lv_bipush (v := -12) hx hb dX2_move_29 (by decide) ?_
      refine lv_bipush (v := 12) hx hb dX2_move_31 (by decide) ?_
      obtain ⟨r_5, hr_5, hF⟩ := bd1_u hF
      refine vp_callSi (W.runS (As := [.int a2, .int (-12 : Int32), .int (12 : Int32)]) (rest := []) ⟨hx, hb, hml, hown, hts⟩ (c_X2_within l a2 (-12 : Int32) (12 : Int32) r_5 hr_5) (va_cwS 3 hts gX2_move_X2_within rfl rfl rfl (by decide +kernel) ⟨Nat.le_of_ble_eq_true rfl, Nat.le_of_ble_eq_true rfl⟩) preEq rfl rfl hl.1 rfl (lv_room (Nat.le_of_ble_eq_true rfl)) dX2_move_33 ⟨Nat.le_of_ble_eq_true rfl, Nat.le_of_ble_eq_true rfl⟩) (fun r_5' qr_5 => ?_)
      obtain rfl := qr_5.symm
      refine lv_if_ne (tgt := 42) hx hb dX2_move_36 (by decide) (fun c_6 => ?_) (fun c_6 => ?_)
      · have hF := br0 hF c_6
        refine lv_aload hx hb dX2_move_42 (lv_at hl 0 rfl) ?_
        refine lv_iload_n hx hb dX2_move_44 rfl (lv_at hl 3 rfl) ?_
        refine lv_iload_n hx hb dX2_move_45 rfl (lv_at hl 4 rfl) ?_
        obtain ⟨r_7, hr_7, hF⟩ := bd1_u hF
        have hPc := hP.sub (ws' := [(la, .inr (0, [.ref xa, .ref ya, .int sz, .int fo])), (xa, .inl (cI, 8, .inl xs)), (ya, .inl (cI, 8, .inl ys))]) [3, 4, 5] rfl
        have hKc := hK.sub (tys' := [(cI, .int)]) [0] rfl
        refine vp_callSi (W.runV (As := [.int a1, .int a2]) (rest := []) ⟨hx, hb, hml, hown, hts⟩ (c_X0_staysInField l dC dI la xa ya cI xs ys sz fo a1 a2 r_7 hr_7) (cwV 2 hts gX2_move_X0_staysInField rfl rfl rfl (by decide +kernel) ⟨Nat.le_of_ble_eq_true rfl, Nat.le_of_ble_eq_true rfl⟩) ⟨fun a U g mk q => ⟨q.1, q.2.1, va_K.moved (u := U) (U := U.calling g mk a) (Vm.Alike.refl U.vm) q.2.2.1, nw_same rfl q.2.2.2⟩, va_recv hKc hPc (ci := 0) (q0 := 0) rfl rfl, fun U hU hW => ⟨rfl, by rw [hU]; exact hPc, va_K.moved hW.alike hKc, hN.warm hW⟩⟩ rfl rfl hl.1 rfl (lv_room (Nat.le_of_ble_eq_true rfl)) dX2_move_46 ⟨Nat.le_of_ble_eq_true rfl, Nat.le_of_ble_eq_true rfl⟩) (fun r_7' qr_7 => ?_)
        obtain rfl := qr_7.symm
        refine lv_if_ne (tgt := 55) hx hb dX2_move_49 (by decide) (fun c_8 => ?_) (fun c_8 => ?_)
        · have hF := br0 hF c_8
          refine lv_aload hx hb dX2_move_55 (lv_at hl 0 rfl) ?_
          refine lv_iload_n hx hb dX2_move_57 rfl (lv_at hl 3 rfl) ?_
          refine lv_iload_n hx hb dX2_move_58 rfl (lv_at hl 4 rfl) ?_
          obtain ⟨xs_9, ys_10, hr_10, hF⟩ := bd2_u hF
          have hPc := hP.sub (ws' := [(la, .inr (0, [.ref xa, .ref ya, .int sz, .int fo])), (xa, .inl (cI, 8, .inl xs)), (ya, .inl (cI, 8, .inl ys))]) [3, 4, 5] rfl
          have hKc := hK.sub (tys' := [(cI, .int)]) [0] rfl
          have hDc := hD.sub (ws' := [(la, .inr (0, [.ref xa, .ref ya, .int sz, .int fo])), (xa, .inl (cI, 8, .inl xs)), (ya, .inl (cI, 8, .inl ys))]) [3, 4, 5] (by decide) rfl
          have hFc := va_free (wc := [(la, .inr (0, [.ref xa, .ref ya, .int sz, .int fo])), (xa, .inl (cI, 8, .inl xs)), (ya, .inl (cI, 8, .inl ys))]) hD hS hA [3, 4, 5] rfl
          refine va_callv (va_runV (As := [.int a1, .int a2]) (rest := []) ⟨hx, hb, hml, hown, hts⟩ (c_X0_shift l dC dI la xa ya cI s.heap.size xs ys sz fo a1 a2 xs_9 ys_10 hr_10) (cwV 2 hts gX2_move_X0_shift rfl rfl rfl (by decide +kernel) ⟨Nat.le_of_ble_eq_true rfl, Nat.le_of_ble_eq_true rfl⟩) ⟨fun a U g mk q => ⟨q.1, q.2.1, q.2.2.1, va_K.moved (u := U) (U := U.calling g mk a) (Vm.Alike.refl U.vm) q.2.2.2.1, q.2.2.2.2⟩, va_recv hKc hPc (ci := 0) (q0 := 0) rfl rfl, fun U hU hW => ⟨rfl, by rw [hU], by rw [hU]; exact hPc, va_K.moved hW.alike hKc, hDc.weaken (fun _ _ _ _ => trivial)⟩⟩ rfl rfl hl.1 rfl (lv_room (Nat.le_of_ble_eq_true rfl)) dX2_move_59 ⟨Nat.le_of_ble_eq_true rfl, Nat.le_of_ble_eq_true rfl⟩) hS (fun q _ h => hFc q h) hFc (fun _ t H1 locs ht hvm hw hB hz1 hk1 hS => ?_)
          obtain ⟨hP1, hK1, hD1⟩ := hB
          rw [ht] at hP1
          obtain ⟨hP, hD⟩ := va_join (wr := [(h0, .inr (2, [.ref sc, .ref im, .int ke])), (sc, .inr (1, [.ref lr])), (lr, .inl (cL, 3, .inr (.inr (.inr (.inr f)))))]) (w1 := [(la, .inr (0, [.ref xa, .ref ya, .int sz, .int fo])), (xa, .inl (cI, 8, .inl xs_9)), (ya, .inl (cI, 8, .inl ys_10))]) hP hD [3, 4, 5] [0, 1, 2] rfl rfl (by decide) (by decide) hk1 hFc hP1 hD1
          clear hP1 hK1 hD1 hk1 hFc
          generalize H1 = H at hP hS ⊢
          have hP : va_P (dC, dI) vwCl [(h0, .inr (2, [.ref sc, .ref im, .int ke])), (sc, .inr (1, [.ref lr])), (lr, .inl (cL, 3, .inr (.inr (.inr (.inr f))))), (la, .inr (0, [.ref xa, .ref ya, .int sz, .int fo])), (xa, .inl (cI, 8, .inl xs_9)), (ya, .inl (cI, 8, .inl ys_10))] H := hP
          have hD : va_D A [(h0, .inr (2, [.ref sc, .ref im, .int ke])), (sc, .inr (1, [.ref lr])), (lr, .inl (cL, 3, .inr (.inr (.inr (.inr f))))), (la, .inr (0, [.ref xa, .ref ya, .int sz, .int fo])), (xa, .inl (cI, 8, .inl xs_9)), (ya, .inl (cI, 8, .inl ys_10))] := hD
          refine lv_aload hx hb dX2_move_62 (lv_at hl 0 rfl) ?_
          refine va_getN (D := (dC, dI)) (ci := 0) (v := .int sz) (C := RX0) (T := TX0) (N := 4) hx hb hts (by decide +kernel) hown hK hP 3 rfl rfl 2 (by decide) (va_Nw.use rfl hN_RX2_32) (fun _ h9 => h9) rfl dX2_move_64 ?_
          obtain ⟨e0, rfl, rfl⟩ := tp3 hF
          rw [← hQ]
          exact W.iret (v := sz) hx hb hr (fun t ht hW => ⟨⟨_, (), rfl, e0, by rw [ht]; exact hP, va_K.moved hW.alike hK, hD⟩, hS.F ht⟩) hS.2.2 dX2_move_67
        · have hF := br1 hF c_8
          refine lv_bipush (v := -5) hx hb dX2_move_52 (by decide) ?_
          obtain ⟨e0, rfl, rfl⟩ := tp3 hF
          rw [← hQ]
          exact W.iret (v := (-5 : Int32)) hx hb hr (fun t ht hW => ⟨⟨_, (), rfl, e0, by rw [ht]; exact hP, va_K.moved hW.alike hK, hD⟩, hS.F ht⟩) hS.2.2 dX2_move_54
      · have hF := br1 hF c_6
        refine lv_bipush (v := -2) hx hb dX2_move_39 (by decide) ?_
        obtain ⟨e0, rfl, rfl⟩ := tp3 hF
        rw [← hQ]
        exact W.iret (v := (-2 : Int32)) hx hb hr (fun t ht hW => ⟨⟨_, (), rfl, e0, by rw [ht]; exact hP, va_K.moved hW.alike hK, hD⟩, hS.F ht⟩) hS.2.2 dX2_move_41

def P_X2_back (a0 : Int32) (xs : Nat → Int32) (ys : Nat → Int32) (sz : Int32) : Option (Int32 × (Nat → Int32) × (Nat → Int32)) :=
  bd1 (P_X2_within a0 (0 : Int32) (2 : Int32)) (fun r_1 =>
  if r_1 = (0 : Int32) then
    some ((-1 : Int32), xs, ys)
  else
    bd2 (P_X0_reverse (0 : Int32) sz xs ys) (fun xs_3 ys_4 =>
    some (sz, xs_3, ys_4)))

def rm_X2_back : Room := { frames := 2, cells := 0, slots := 0, locals := 48 }

set_option maxHeartbeats 4000000 in
set_option maxRecDepth 100000 in
theorem c_X2_back (l : Launch) (dC : Nat → ClassId) (dI : Nat → Nat → Nat) (h0 sc im lr la xa ya : Nat) (cI cL : ClassId) (hsz0 : Nat) (ke : Int32) (f : Nat → Option Nat) (xs : Nat → Int32) (ys : Nat → Int32) (sz : Int32) (fo : Int32) (a0 : Int32) (r0 : Int32) (xsN : Nat → Int32) (ysN : Nat → Int32) (hs1 : P_X2_within a0 (0 : Int32) (2 : Int32) = some (1 : Int32) → f a0.toNatClampNeg = some la) (hF : P_X2_back a0 xs ys sz = some (r0, xsN, ysN)) : Met l yX2_back wsX2_back rm_X2_back (va_Pc [.ref h0, .int a0] (fun U => U.heap.size = hsz0 ∧ va_P (dC, dI) vwCl [(h0, .inr (2, [.ref sc, .ref im, .int ke])), (sc, .inr (1, [.ref lr])), (lr, .inl (cL, 3, .inr (.inr (.inr (.inr f))))), (la, .inr (0, [.ref xa, .ref ya, .int sz, .int fo])), (xa, .inl (cI, 8, .inl xs)), (ya, .inl (cI, 8, .inl ys))] U.heap ∧ va_K (dC, dI) vwCl [(cI, .int), (cL, .object RX0)] U ∧ va_D (fun _ => True) [(h0, .inr (2, [.ref sc, .ref im, .int ke])), (sc, .inr (1, [.ref lr])), (lr, .inl (cL, 3, .inr (.inr (.inr (.inr f))))), (la, .inr (0, [.ref xa, .ref ya, .int sz, .int fo])), (xa, .inl (cI, 8, .inl xs)), (ya, .inl (cI, 8, .inl ys))] ∧ nw U)) (va_Qi (fun (r : Int32) (_ : Unit) => r = r0) (fun _ t => va_P (dC, dI) vwCl [(h0, .inr (2, [.ref sc, .ref im, .int ke])), (sc, .inr (1, [.ref lr])), (lr, .inl (cL, 3, .inr (.inr (.inr (.inr f))))), (la, .inr (0, [.ref xa, .ref ya, .int sz, .int fo])), (xa, .inl (cI, 8, .inl xsN)), (ya, .inl (cI, 8, .inl ysN))] t.heap ∧ va_K (dC, dI) vwCl [(cI, .int), (cL, .object RX0)] t ∧ va_D (va_A [(h0, .inr (2, [.ref sc, .ref im, .int ke])), (sc, .inr (1, [.ref lr])), (lr, .inl (cL, 3, .inr (.inr (.inr (.inr f))))), (la, .inr (0, [.ref xa, .ref ya, .int sz, .int fo])), (xa, .inl (cI, 8, .inl xs)), (ya, .inl (cI, 8, .inl ys))] hsz0) [(h0, .inr (2, [.ref sc, .ref im, .int ke])), (sc, .inr (1, [.ref lr])), (lr, .inl (cL, 3, .inr (.inr (.inr (.inr f))))), (la, .inr (0, [.ref xa, .ref ya, .int sz, .int fo])), (xa, .inl (cI, 8, .inl xsN)), (ya, .inl (cI, 8, .inl ysN))]) (va_A [(h0, .inr (2, [.ref sc, .ref im, .int ke])), (sc, .inr (1, [.ref lr])), (lr, .inl (cL, 3, .inr (.inr (.inr (.inr f))))), (la, .inr (0, [.ref xa, .ref ya, .int sz, .int fo])), (xa, .inl (cI, 8, .inl xs)), (ya, .inl (cI, 8, .inl ys))] hsz0)) 0 0 (va_A [(h0, .inr (2, [.ref sc, .ref im, .int ke])), (sc, .inr (1, [.ref lr])), (lr, .inl (cL, 3, .inr (.inr (.inr (.inr f))))), (la, .inr (0, [.ref xa, .ref ya, .int sz, .int fo])), (xa, .inl (cI, 8, .inl xs)), (ya, .inl (cI, 8, .inl ys))] hsz0) := by
  refine Met.ofW (cc := cX2_back) (maxL := 3) (ret := (some .int)) (by decide) rfl ?_
  intro p e s m args below meth c s₁ B hml hv
  change W p l e rm_X2_back s m args below meth c s.heap [] 0 0 _ _
  obtain ⟨hv, hsz, hP, hK, hD0, hN⟩ := hv
  have hx := B.exec
  have hb := B.bytes
  have hr := B.returns
  have hts := atoms_spec (ws := wsX2_back) B.pre
  have hown : s.vm.findClass RX2 = some m.cls := findClass_of_methodNamed B.named
  have hlocks := B.notSynchronized
  have hN_RX0_25 := hN.1
  have hN_RX1_18 := hN.2.1
  have hN_RX1_26 := hN.2.2.1
  have hN_RX2_32 := hN.2.2.2.1
  have hN_RX2_44 := hN.2.2.2.2.1
  have hN_RX2_48 := hN.2.2.2.2.2.1
  have hN_RX2_55 := hN.2.2.2.2.2.2
  subst hsz
  have hD := hD0.self (sz := s.heap.size)
  generalize hAe : va_A [(h0, .inr (2, [.ref sc, .ref im, .int ke])), (sc, .inr (1, [.ref lr])), (lr, .inl (cL, 3, .inr (.inr (.inr (.inr f))))), (la, .inr (0, [.ref xa, .ref ya, .int sz, .int fo])), (xa, .inl (cI, 8, .inl xs)), (ya, .inl (cI, 8, .inl ys))] s.heap.size = A at hD ⊢
  have hA : ∀ q : Nat, s.heap.size ≤ q → A q := fun q h => by rw [← hAe]; exact Or.inr h
  have hS : va_S A s.heap s.heap [] := va_S.rf
  generalize hQ : MQ below (va_Qi (fun (r : Int32) (_ : Unit) => r = r0) (fun _ t => va_P (dC, dI) vwCl [(h0, .inr (2, [.ref sc, .ref im, .int ke])), (sc, .inr (1, [.ref lr])), (lr, .inl (cL, 3, .inr (.inr (.inr (.inr f))))), (la, .inr (0, [.ref xa, .ref ya, .int sz, .int fo])), (xa, .inl (cI, 8, .inl xsN)), (ya, .inl (cI, 8, .inl ysN))] t.heap ∧ va_K (dC, dI) vwCl [(cI, .int), (cL, .object RX0)] t ∧ va_D A [(h0, .inr (2, [.ref sc, .ref im, .int ke])), (sc, .inr (1, [.ref lr])), (lr, .inl (cL, 3, .inr (.inr (.inr (.inr f))))), (la, .inr (0, [.ref xa, .ref ya, .int sz, .int fo])), (xa, .inl (cI, 8, .inl xsN)), (ya, .inl (cI, 8, .inl ysN))]) A) args s 0 0 A = Q
  have hl := lv_entry ([.ref h0, .int a0]) (n := 3) (Nat.le_of_ble_eq_true rfl)
  have hE : entryFrame m args 3 = F0 m 0 ((lg_sl ([.ref h0, .int a0]) ++ List.replicate (3 - (lg_sl ([.ref h0, .int a0])).length) Slot.unset).toArray) [] := by rw [hv]; exact lg_entry_eq m _ 3
  rw [hE]
  generalize (lg_sl ([.ref h0, .int a0]) ++ List.replicate (3 - (lg_sl ([.ref h0, .int a0])).length) Slot.unset).toArray = ls at hl ⊢
  have hl : lv_has ls 3 [(0, .ref h0), (1, .int a0)] := hl
  unfold P_X2_back at hF
  refine lv_aload_n hx hb dX2_back_0 rfl (lv_at hl 0 rfl) ?_
  refine va_get (D := (dC, dI)) (ci := 2) (v := .ref sc) (C := RX2) (T := TX2) (N := 3) hx hb hts (by decide +kernel) hown hK hP 0 rfl rfl 0 (by decide) (hts (.fieldLink RX2 12 "DotCover" "now" "LDotCover$Scene;") (by decide +kernel)) (fun _ h9 => h9) rfl dX2_back_1 ?_
  refine lv_iload_n hx hb dX2_back_4 rfl (lv_at hl 1 rfl) ?_
  obtain ⟨r_1, hr_1, hF⟩ := bd1_u hF
  have hPc := hP.sub (ws' := [(sc, .inr (1, [.ref lr])), (lr, .inl (cL, 3, .inr (.inr (.inr (.inr f)))))]) [1, 2] rfl
  have hKc := hK.sub (tys' := [(cL, .object RX0)]) [1] rfl
  by_cases c_2 : r_1 = (0 : Int32)
  · have hF := br1 hF c_2
    refine va_csq (W.runV (As := [.int a0]) (rest := []) ⟨hx, hb, hml, hown, hts⟩ (c_X1_layerOf_out l dC dI sc lr cL f a0 (c_2 ▸ hr_1)) (cwV 1 hts gX2_back_X1_layerOf rfl rfl rfl (by decide +kernel) ⟨Nat.le_of_ble_eq_true rfl, Nat.le_of_ble_eq_true rfl⟩) ⟨fun a U g mk q => ⟨q.1, q.2.1, va_K.moved (u := U) (U := U.calling g mk a) (Vm.Alike.refl U.vm) q.2.2.1, nw_same rfl q.2.2.2⟩, va_recv hKc hPc (ci := 1) (q0 := 0) rfl rfl, fun U hU hW => ⟨rfl, by rw [hU]; exact hPc, va_K.moved hW.alike hKc, hN.warm hW⟩⟩ rfl rfl hl.1 rfl (lv_room (Nat.le_of_ble_eq_true rfl)) dX2_back_5 ⟨Nat.le_of_ble_eq_true rfl, Nat.le_of_ble_eq_true rfl⟩) (fun r_ hr_ => ?_)
    obtain rfl := hr_
    change W _ _ _ _ _ _ _ _ _ _ _ _ _ _ _ (F0 m 8 ls [.null])
    refine lv_astore_nN (lv' := [(2, .null), (0, .ref h0), (1, .int a0)]) hx hb dX2_back_8 rfl hl (by decide) rfl (fun ls hl => ?_)
    refine lv_aload_nN hx hb dX2_back_9 rfl (lv_at hl 0 rfl) ?_
    refine lv_ifnonnullN hx hb dX2_back_10 ?_
    refine lv_iconst (v := -1) hx hb dX2_back_13 (by decide) ?_
    obtain ⟨e0, rfl, rfl⟩ := tp3 hF
    rw [← hQ]
    exact W.iret (v := (-1 : Int32)) hx hb hr (fun t ht hW => ⟨⟨_, (), rfl, e0, by rw [ht]; exact hP, va_K.moved hW.alike hK, hD⟩, hS.F ht⟩) hS.2.2 dX2_back_14
  · have hF := br0 hF c_2
    have hw1 := within_1 hr_1 c_2
    refine va_csq (W.runV (As := [.int a0]) (rest := []) ⟨hx, hb, hml, hown, hts⟩ (c_X1_layerOf_in l dC dI sc lr cL f a0 la hw1 (hs1 hw1)) (cwV 1 hts gX2_back_X1_layerOf rfl rfl rfl (by decide +kernel) ⟨Nat.le_of_ble_eq_true rfl, Nat.le_of_ble_eq_true rfl⟩) ⟨fun a U g mk q => ⟨q.1, q.2.1, va_K.moved (u := U) (U := U.calling g mk a) (Vm.Alike.refl U.vm) q.2.2.1, nw_same rfl q.2.2.2⟩, va_recv hKc hPc (ci := 1) (q0 := 0) rfl rfl, fun U hU hW => ⟨rfl, by rw [hU]; exact hPc, va_K.moved hW.alike hKc, hN.warm hW⟩⟩ rfl rfl hl.1 rfl (lv_room (Nat.le_of_ble_eq_true rfl)) dX2_back_5 ⟨Nat.le_of_ble_eq_true rfl, Nat.le_of_ble_eq_true rfl⟩) (fun r_ hr_ => ?_)
    obtain rfl := hr_
    change W _ _ _ _ _ _ _ _ _ _ _ _ _ _ _ (F0 m 8 ls [.ref la])
    refine lv_astore_n (lv' := [(2, .ref la), (0, .ref h0), (1, .int a0)]) hx hb dX2_back_8 rfl hl (by decide) rfl (fun ls hl => ?_)
    refine lv_aload_n hx hb dX2_back_9 rfl (lv_at hl 0 rfl) ?_
    refine lv_ifnonnull (tgt := 15) hx hb dX2_back_10 (by decide) ?_
    refine lv_aload_n hx hb dX2_back_15 rfl (lv_at hl 0 rfl) ?_
    refine lv_iconst (v := 0) hx hb dX2_back_16 (by decide) ?_
    refine lv_aload_n hx hb dX2_back_17 rfl (lv_at hl 0 rfl) ?_
    refine va_getN (D := (dC, dI)) (ci := 0) (v := .int sz) (C := RX0) (T := TX0) (N := 4) hx hb hts (by decide +kernel) hown hK hP 3 rfl rfl 2 (by decide) (va_Nw.use rfl hN_RX2_32) (fun _ h9 => h9) rfl dX2_back_18 ?_
    obtain ⟨xs_3, ys_4, hr_4, hF⟩ := bd2_u hF
    have hPc := hP.sub (ws' := [(la, .inr (0, [.ref xa, .ref ya, .int sz, .int fo])), (xa, .inl (cI, 8, .inl xs)), (ya, .inl (cI, 8, .inl ys))]) [3, 4, 5] rfl
    have hKc := hK.sub (tys' := [(cI, .int)]) [0] rfl
    have hDc := hD.sub (ws' := [(la, .inr (0, [.ref xa, .ref ya, .int sz, .int fo])), (xa, .inl (cI, 8, .inl xs)), (ya, .inl (cI, 8, .inl ys))]) [3, 4, 5] (by decide) rfl
    have hFc := va_free (wc := [(la, .inr (0, [.ref xa, .ref ya, .int sz, .int fo])), (xa, .inl (cI, 8, .inl xs)), (ya, .inl (cI, 8, .inl ys))]) hD hS hA [3, 4, 5] rfl
    refine va_callv (va_runV (As := [.int (0 : Int32), .int sz]) (rest := []) ⟨hx, hb, hml, hown, hts⟩ (c_X0_reverse l dC dI la xa ya cI s.heap.size xs ys sz fo (0 : Int32) sz xs_3 ys_4 hr_4) (cwV 2 hts gX2_back_X0_reverse rfl rfl rfl (by decide +kernel) ⟨Nat.le_of_ble_eq_true rfl, Nat.le_of_ble_eq_true rfl⟩) ⟨fun a U g mk q => ⟨q.1, q.2.1, q.2.2.1, va_K.moved (u := U) (U := U.calling g mk a) (Vm.Alike.refl U.vm) q.2.2.2.1, q.2.2.2.2⟩, va_recv hKc hPc (ci := 0) (q0 := 0) rfl rfl, fun U hU hW => ⟨rfl, by rw [hU], by rw [hU]; exact hPc, va_K.moved hW.alike hKc, hDc.weaken (fun _ _ _ _ => trivial)⟩⟩ rfl rfl hl.1 rfl (lv_room (Nat.le_of_ble_eq_true rfl)) dX2_back_21 ⟨Nat.le_of_ble_eq_true rfl, Nat.le_of_ble_eq_true rfl⟩) hS (fun q _ h => hFc q h) hFc (fun _ t H1 locs ht hvm hw hB hz1 hk1 hS => ?_)
    obtain ⟨hP1, hK1, hD1⟩ := hB
    rw [ht] at hP1
    obtain ⟨hP, hD⟩ := va_join (wr := [(h0, .inr (2, [.ref sc, .ref im, .int ke])), (sc, .inr (1, [.ref lr])), (lr, .inl (cL, 3, .inr (.inr (.inr (.inr f)))))]) (w1 := [(la, .inr (0, [.ref xa, .ref ya, .int sz, .int fo])), (xa, .inl (cI, 8, .inl xs_3)), (ya, .inl (cI, 8, .inl ys_4))]) hP hD [3, 4, 5] [0, 1, 2] rfl rfl (by decide) (by decide) hk1 hFc hP1 hD1
    clear hP1 hK1 hD1 hk1 hFc
    generalize H1 = H at hP hS ⊢
    have hP : va_P (dC, dI) vwCl [(h0, .inr (2, [.ref sc, .ref im, .int ke])), (sc, .inr (1, [.ref lr])), (lr, .inl (cL, 3, .inr (.inr (.inr (.inr f))))), (la, .inr (0, [.ref xa, .ref ya, .int sz, .int fo])), (xa, .inl (cI, 8, .inl xs_3)), (ya, .inl (cI, 8, .inl ys_4))] H := hP
    have hD : va_D A [(h0, .inr (2, [.ref sc, .ref im, .int ke])), (sc, .inr (1, [.ref lr])), (lr, .inl (cL, 3, .inr (.inr (.inr (.inr f))))), (la, .inr (0, [.ref xa, .ref ya, .int sz, .int fo])), (xa, .inl (cI, 8, .inl xs_3)), (ya, .inl (cI, 8, .inl ys_4))] := hD
    refine lv_aload_n hx hb dX2_back_24 rfl (lv_at hl 0 rfl) ?_
    refine va_getN (D := (dC, dI)) (ci := 0) (v := .int sz) (C := RX0) (T := TX0) (N := 4) hx hb hts (by decide +kernel) hown hK hP 3 rfl rfl 2 (by decide) (va_Nw.use rfl hN_RX2_32) (fun _ h9 => h9) rfl dX2_back_25 ?_
    obtain ⟨e0, rfl, rfl⟩ := tp3 hF
    rw [← hQ]
    exact W.iret (v := sz) hx hb hr (fun t ht hW => ⟨⟨_, (), rfl, e0, by rw [ht]; exact hP, va_K.moved hW.alike hK, hD⟩, hS.F ht⟩) hS.2.2 dX2_back_28

def P_X2_begin (a0 : Int32) (a1 : Int32) (xs : Nat → Int32) (ys : Nat → Int32) (sz : Int32) : Option (Int32 × (Nat → Int32) × (Nat → Int32)) :=
  bd1 (P_X2_within a0 (0 : Int32) (2 : Int32)) (fun r_1 =>
  if r_1 = (0 : Int32) then
    some ((-1 : Int32), xs, ys)
  else
    bd1 (P_X0_has a1 sz) (fun r_3 =>
    if r_3 = (0 : Int32) then
      some ((-1 : Int32), xs, ys)
    else
      bd2 (P_X0_startAt a1 xs ys sz) (fun xs_5 ys_6 =>
      some (sz, xs_5, ys_6))))

def rm_X2_begin : Room := { frames := 3, cells := 0, slots := 0, locals := 69 }

set_option maxHeartbeats 4000000 in
set_option maxRecDepth 100000 in
theorem c_X2_begin (l : Launch) (dC : Nat → ClassId) (dI : Nat → Nat → Nat) (h0 sc im lr la xa ya : Nat) (cI cL : ClassId) (hsz0 : Nat) (ke : Int32) (f : Nat → Option Nat) (xs : Nat → Int32) (ys : Nat → Int32) (sz : Int32) (fo : Int32) (a0 : Int32) (a1 : Int32) (r0 : Int32) (xsN : Nat → Int32) (ysN : Nat → Int32) (hs1 : P_X2_within a0 (0 : Int32) (2 : Int32) = some (1 : Int32) → f a0.toNatClampNeg = some la) (hF : P_X2_begin a0 a1 xs ys sz = some (r0, xsN, ysN)) : Met l yX2_begin wsX2_begin rm_X2_begin (va_Pc [.ref h0, .int a0, .int a1] (fun U => U.heap.size = hsz0 ∧ va_P (dC, dI) vwCl [(h0, .inr (2, [.ref sc, .ref im, .int ke])), (sc, .inr (1, [.ref lr])), (lr, .inl (cL, 3, .inr (.inr (.inr (.inr f))))), (la, .inr (0, [.ref xa, .ref ya, .int sz, .int fo])), (xa, .inl (cI, 8, .inl xs)), (ya, .inl (cI, 8, .inl ys))] U.heap ∧ va_K (dC, dI) vwCl [(cI, .int), (cL, .object RX0)] U ∧ va_D (fun _ => True) [(h0, .inr (2, [.ref sc, .ref im, .int ke])), (sc, .inr (1, [.ref lr])), (lr, .inl (cL, 3, .inr (.inr (.inr (.inr f))))), (la, .inr (0, [.ref xa, .ref ya, .int sz, .int fo])), (xa, .inl (cI, 8, .inl xs)), (ya, .inl (cI, 8, .inl ys))] ∧ nw U)) (va_Qi (fun (r : Int32) (_ : Unit) => r = r0) (fun _ t => va_P (dC, dI) vwCl [(h0, .inr (2, [.ref sc, .ref im, .int ke])), (sc, .inr (1, [.ref lr])), (lr, .inl (cL, 3, .inr (.inr (.inr (.inr f))))), (la, .inr (0, [.ref xa, .ref ya, .int sz, .int fo])), (xa, .inl (cI, 8, .inl xsN)), (ya, .inl (cI, 8, .inl ysN))] t.heap ∧ va_K (dC, dI) vwCl [(cI, .int), (cL, .object RX0)] t ∧ va_D (va_A [(h0, .inr (2, [.ref sc, .ref im, .int ke])), (sc, .inr (1, [.ref lr])), (lr, .inl (cL, 3, .inr (.inr (.inr (.inr f))))), (la, .inr (0, [.ref xa, .ref ya, .int sz, .int fo])), (xa, .inl (cI, 8, .inl xs)), (ya, .inl (cI, 8, .inl ys))] hsz0) [(h0, .inr (2, [.ref sc, .ref im, .int ke])), (sc, .inr (1, [.ref lr])), (lr, .inl (cL, 3, .inr (.inr (.inr (.inr f))))), (la, .inr (0, [.ref xa, .ref ya, .int sz, .int fo])), (xa, .inl (cI, 8, .inl xsN)), (ya, .inl (cI, 8, .inl ysN))]) (va_A [(h0, .inr (2, [.ref sc, .ref im, .int ke])), (sc, .inr (1, [.ref lr])), (lr, .inl (cL, 3, .inr (.inr (.inr (.inr f))))), (la, .inr (0, [.ref xa, .ref ya, .int sz, .int fo])), (xa, .inl (cI, 8, .inl xs)), (ya, .inl (cI, 8, .inl ys))] hsz0)) 0 0 (va_A [(h0, .inr (2, [.ref sc, .ref im, .int ke])), (sc, .inr (1, [.ref lr])), (lr, .inl (cL, 3, .inr (.inr (.inr (.inr f))))), (la, .inr (0, [.ref xa, .ref ya, .int sz, .int fo])), (xa, .inl (cI, 8, .inl xs)), (ya, .inl (cI, 8, .inl ys))] hsz0) := by
  refine Met.ofW (cc := cX2_begin) (maxL := 4) (ret := (some .int)) (by decide) rfl ?_
  intro p e s m args below meth c s₁ B hml hv
  change W p l e rm_X2_begin s m args below meth c s.heap [] 0 0 _ _
  obtain ⟨hv, hsz, hP, hK, hD0, hN⟩ := hv
  have hx := B.exec
  have hb := B.bytes
  have hr := B.returns
  have hts := atoms_spec (ws := wsX2_begin) B.pre
  have hown : s.vm.findClass RX2 = some m.cls := findClass_of_methodNamed B.named
  have hlocks := B.notSynchronized
  have hN_RX0_25 := hN.1
  have hN_RX1_18 := hN.2.1
  have hN_RX1_26 := hN.2.2.1
  have hN_RX2_32 := hN.2.2.2.1
  have hN_RX2_44 := hN.2.2.2.2.1
  have hN_RX2_48 := hN.2.2.2.2.2.1
  have hN_RX2_55 := hN.2.2.2.2.2.2
  subst hsz
  have hD := hD0.self (sz := s.heap.size)
  generalize hAe : va_A [(h0, .inr (2, [.ref sc, .ref im, .int ke])), (sc, .inr (1, [.ref lr])), (lr, .inl (cL, 3, .inr (.inr (.inr (.inr f))))), (la, .inr (0, [.ref xa, .ref ya, .int sz, .int fo])), (xa, .inl (cI, 8, .inl xs)), (ya, .inl (cI, 8, .inl ys))] s.heap.size = A at hD ⊢
  have hA : ∀ q : Nat, s.heap.size ≤ q → A q := fun q h => by rw [← hAe]; exact Or.inr h
  have hS : va_S A s.heap s.heap [] := va_S.rf
  generalize hQ : MQ below (va_Qi (fun (r : Int32) (_ : Unit) => r = r0) (fun _ t => va_P (dC, dI) vwCl [(h0, .inr (2, [.ref sc, .ref im, .int ke])), (sc, .inr (1, [.ref lr])), (lr, .inl (cL, 3, .inr (.inr (.inr (.inr f))))), (la, .inr (0, [.ref xa, .ref ya, .int sz, .int fo])), (xa, .inl (cI, 8, .inl xsN)), (ya, .inl (cI, 8, .inl ysN))] t.heap ∧ va_K (dC, dI) vwCl [(cI, .int), (cL, .object RX0)] t ∧ va_D A [(h0, .inr (2, [.ref sc, .ref im, .int ke])), (sc, .inr (1, [.ref lr])), (lr, .inl (cL, 3, .inr (.inr (.inr (.inr f))))), (la, .inr (0, [.ref xa, .ref ya, .int sz, .int fo])), (xa, .inl (cI, 8, .inl xsN)), (ya, .inl (cI, 8, .inl ysN))]) A) args s 0 0 A = Q
  have hl := lv_entry ([.ref h0, .int a0, .int a1]) (n := 4) (Nat.le_of_ble_eq_true rfl)
  have hE : entryFrame m args 4 = F0 m 0 ((lg_sl ([.ref h0, .int a0, .int a1]) ++ List.replicate (4 - (lg_sl ([.ref h0, .int a0, .int a1])).length) Slot.unset).toArray) [] := by rw [hv]; exact lg_entry_eq m _ 4
  rw [hE]
  generalize (lg_sl ([.ref h0, .int a0, .int a1]) ++ List.replicate (4 - (lg_sl ([.ref h0, .int a0, .int a1])).length) Slot.unset).toArray = ls at hl ⊢
  have hl : lv_has ls 4 [(0, .ref h0), (1, .int a0), (2, .int a1)] := hl
  unfold P_X2_begin at hF
  refine lv_aload_n hx hb dX2_begin_0 rfl (lv_at hl 0 rfl) ?_
  refine va_get (D := (dC, dI)) (ci := 2) (v := .ref sc) (C := RX2) (T := TX2) (N := 3) hx hb hts (by decide +kernel) hown hK hP 0 rfl rfl 0 (by decide) (hts (.fieldLink RX2 12 "DotCover" "now" "LDotCover$Scene;") (by decide +kernel)) (fun _ h9 => h9) rfl dX2_begin_1 ?_
  refine lv_iload_n hx hb dX2_begin_4 rfl (lv_at hl 1 rfl) ?_
  obtain ⟨r_1, hr_1, hF⟩ := bd1_u hF
  have hPc := hP.sub (ws' := [(sc, .inr (1, [.ref lr])), (lr, .inl (cL, 3, .inr (.inr (.inr (.inr f)))))]) [1, 2] rfl
  have hKc := hK.sub (tys' := [(cL, .object RX0)]) [1] rfl
  by_cases c_2 : r_1 = (0 : Int32)
  · have hF := br1 hF c_2
    refine va_csq (W.runV (As := [.int a0]) (rest := []) ⟨hx, hb, hml, hown, hts⟩ (c_X1_layerOf_out l dC dI sc lr cL f a0 (c_2 ▸ hr_1)) (cwV 1 hts gX2_begin_X1_layerOf rfl rfl rfl (by decide +kernel) ⟨Nat.le_of_ble_eq_true rfl, Nat.le_of_ble_eq_true rfl⟩) ⟨fun a U g mk q => ⟨q.1, q.2.1, va_K.moved (u := U) (U := U.calling g mk a) (Vm.Alike.refl U.vm) q.2.2.1, nw_same rfl q.2.2.2⟩, va_recv hKc hPc (ci := 1) (q0 := 0) rfl rfl, fun U hU hW => ⟨rfl, by rw [hU]; exact hPc, va_K.moved hW.alike hKc, hN.warm hW⟩⟩ rfl rfl hl.1 rfl (lv_room (Nat.le_of_ble_eq_true rfl)) dX2_begin_5 ⟨Nat.le_of_ble_eq_true rfl, Nat.le_of_ble_eq_true rfl⟩) (fun r_ hr_ => ?_)
    obtain rfl := hr_
    change W _ _ _ _ _ _ _ _ _ _ _ _ _ _ _ (F0 m 8 ls [.null])
    refine lv_astore_nN (lv' := [(3, .null), (0, .ref h0), (1, .int a0), (2, .int a1)]) hx hb dX2_begin_8 rfl hl (by decide) rfl (fun ls hl => ?_)
    refine lv_aload_nN hx hb dX2_begin_9 rfl (lv_at hl 0 rfl) ?_
    refine lv_ifnullN (tgt := 21) hx hb dX2_begin_10 (by decide) ?_
    refine lv_iconst (v := -1) hx hb dX2_begin_21 (by decide) ?_
    obtain ⟨e0, rfl, rfl⟩ := tp3 hF
    rw [← hQ]
    exact W.iret (v := (-1 : Int32)) hx hb hr (fun t ht hW => ⟨⟨_, (), rfl, e0, by rw [ht]; exact hP, va_K.moved hW.alike hK, hD⟩, hS.F ht⟩) hS.2.2 dX2_begin_22
  · have hF := br0 hF c_2
    have hw1 := within_1 hr_1 c_2
    refine va_csq (W.runV (As := [.int a0]) (rest := []) ⟨hx, hb, hml, hown, hts⟩ (c_X1_layerOf_in l dC dI sc lr cL f a0 la hw1 (hs1 hw1)) (cwV 1 hts gX2_begin_X1_layerOf rfl rfl rfl (by decide +kernel) ⟨Nat.le_of_ble_eq_true rfl, Nat.le_of_ble_eq_true rfl⟩) ⟨fun a U g mk q => ⟨q.1, q.2.1, va_K.moved (u := U) (U := U.calling g mk a) (Vm.Alike.refl U.vm) q.2.2.1, nw_same rfl q.2.2.2⟩, va_recv hKc hPc (ci := 1) (q0 := 0) rfl rfl, fun U hU hW => ⟨rfl, by rw [hU]; exact hPc, va_K.moved hW.alike hKc, hN.warm hW⟩⟩ rfl rfl hl.1 rfl (lv_room (Nat.le_of_ble_eq_true rfl)) dX2_begin_5 ⟨Nat.le_of_ble_eq_true rfl, Nat.le_of_ble_eq_true rfl⟩) (fun r_ hr_ => ?_)
    obtain rfl := hr_
    change W _ _ _ _ _ _ _ _ _ _ _ _ _ _ _ (F0 m 8 ls [.ref la])
    refine lv_astore_n (lv' := [(3, .ref la), (0, .ref h0), (1, .int a0), (2, .int a1)]) hx hb dX2_begin_8 rfl hl (by decide) rfl (fun ls hl => ?_)
    refine lv_aload_n hx hb dX2_begin_9 rfl (lv_at hl 0 rfl) ?_
    refine lv_ifnull hx hb dX2_begin_10 ?_
    refine lv_aload_n hx hb dX2_begin_13 rfl (lv_at hl 0 rfl) ?_
    refine lv_iload_n hx hb dX2_begin_14 rfl (lv_at hl 3 rfl) ?_
    obtain ⟨r_3, hr_3, hF⟩ := bd1_u hF
    have hPc := hP.sub (ws' := [(la, .inr (0, [.ref xa, .ref ya, .int sz, .int fo])), (xa, .inl (cI, 8, .inl xs)), (ya, .inl (cI, 8, .inl ys))]) [3, 4, 5] rfl
    have hKc := hK.sub (tys' := [(cI, .int)]) [0] rfl
    refine vp_callSi (W.runV (As := [.int a1]) (rest := []) ⟨hx, hb, hml, hown, hts⟩ (c_X0_has l dC dI la xa ya cI xs ys sz fo a1 r_3 hr_3) (cwV 1 hts gX2_begin_X0_has rfl rfl rfl (by decide +kernel) ⟨Nat.le_of_ble_eq_true rfl, Nat.le_of_ble_eq_true rfl⟩) ⟨fun a U g mk q => ⟨q.1, q.2.1, va_K.moved (u := U) (U := U.calling g mk a) (Vm.Alike.refl U.vm) q.2.2⟩, va_recv hKc hPc (ci := 0) (q0 := 0) rfl rfl, fun U hU hW => ⟨rfl, by rw [hU]; exact hPc, va_K.moved hW.alike hKc⟩⟩ rfl rfl hl.1 rfl (lv_room (Nat.le_of_ble_eq_true rfl)) dX2_begin_15 ⟨Nat.le_of_ble_eq_true rfl, Nat.le_of_ble_eq_true rfl⟩) (fun r_3' qr_3 => ?_)
    obtain rfl := qr_3.symm
    refine lv_if_ne (tgt := 23) hx hb dX2_begin_18 (by decide) (fun c_4 => ?_) (fun c_4 => ?_)
    · have hF := br0 hF c_4
      refine lv_aload_n hx hb dX2_begin_23 rfl (lv_at hl 0 rfl) ?_
      refine lv_iload_n hx hb dX2_begin_24 rfl (lv_at hl 3 rfl) ?_
      obtain ⟨xs_5, ys_6, hr_6, hF⟩ := bd2_u hF
      have hPc := hP.sub (ws' := [(la, .inr (0, [.ref xa, .ref ya, .int sz, .int fo])), (xa, .inl (cI, 8, .inl xs)), (ya, .inl (cI, 8, .inl ys))]) [3, 4, 5] rfl
      have hKc := hK.sub (tys' := [(cI, .int)]) [0] rfl
      have hDc := hD.sub (ws' := [(la, .inr (0, [.ref xa, .ref ya, .int sz, .int fo])), (xa, .inl (cI, 8, .inl xs)), (ya, .inl (cI, 8, .inl ys))]) [3, 4, 5] (by decide) rfl
      have hFc := va_free (wc := [(la, .inr (0, [.ref xa, .ref ya, .int sz, .int fo])), (xa, .inl (cI, 8, .inl xs)), (ya, .inl (cI, 8, .inl ys))]) hD hS hA [3, 4, 5] rfl
      refine va_callv (va_runV (As := [.int a1]) (rest := []) ⟨hx, hb, hml, hown, hts⟩ (c_X0_startAt l dC dI la xa ya cI s.heap.size xs ys sz fo a1 xs_5 ys_6 hr_6) (cwV 1 hts gX2_begin_X0_startAt rfl rfl rfl (by decide +kernel) ⟨Nat.le_of_ble_eq_true rfl, Nat.le_of_ble_eq_true rfl⟩) ⟨fun a U g mk q => ⟨q.1, q.2.1, q.2.2.1, va_K.moved (u := U) (U := U.calling g mk a) (Vm.Alike.refl U.vm) q.2.2.2.1, q.2.2.2.2⟩, va_recv hKc hPc (ci := 0) (q0 := 0) rfl rfl, fun U hU hW => ⟨rfl, by rw [hU], by rw [hU]; exact hPc, va_K.moved hW.alike hKc, hDc.weaken (fun _ _ _ _ => trivial)⟩⟩ rfl rfl hl.1 rfl (lv_room (Nat.le_of_ble_eq_true rfl)) dX2_begin_25 ⟨Nat.le_of_ble_eq_true rfl, Nat.le_of_ble_eq_true rfl⟩) hS (fun q _ h => hFc q h) hFc (fun _ t H1 locs ht hvm hw hB hz1 hk1 hS => ?_)
      obtain ⟨hP1, hK1, hD1⟩ := hB
      rw [ht] at hP1
      obtain ⟨hP, hD⟩ := va_join (wr := [(h0, .inr (2, [.ref sc, .ref im, .int ke])), (sc, .inr (1, [.ref lr])), (lr, .inl (cL, 3, .inr (.inr (.inr (.inr f)))))]) (w1 := [(la, .inr (0, [.ref xa, .ref ya, .int sz, .int fo])), (xa, .inl (cI, 8, .inl xs_5)), (ya, .inl (cI, 8, .inl ys_6))]) hP hD [3, 4, 5] [0, 1, 2] rfl rfl (by decide) (by decide) hk1 hFc hP1 hD1
      clear hP1 hK1 hD1 hk1 hFc
      generalize H1 = H at hP hS ⊢
      have hP : va_P (dC, dI) vwCl [(h0, .inr (2, [.ref sc, .ref im, .int ke])), (sc, .inr (1, [.ref lr])), (lr, .inl (cL, 3, .inr (.inr (.inr (.inr f))))), (la, .inr (0, [.ref xa, .ref ya, .int sz, .int fo])), (xa, .inl (cI, 8, .inl xs_5)), (ya, .inl (cI, 8, .inl ys_6))] H := hP
      have hD : va_D A [(h0, .inr (2, [.ref sc, .ref im, .int ke])), (sc, .inr (1, [.ref lr])), (lr, .inl (cL, 3, .inr (.inr (.inr (.inr f))))), (la, .inr (0, [.ref xa, .ref ya, .int sz, .int fo])), (xa, .inl (cI, 8, .inl xs_5)), (ya, .inl (cI, 8, .inl ys_6))] := hD
      refine lv_aload_n hx hb dX2_begin_28 rfl (lv_at hl 0 rfl) ?_
      refine va_getN (D := (dC, dI)) (ci := 0) (v := .int sz) (C := RX0) (T := TX0) (N := 4) hx hb hts (by decide +kernel) hown hK hP 3 rfl rfl 2 (by decide) (va_Nw.use rfl hN_RX2_32) (fun _ h9 => h9) rfl dX2_begin_29 ?_
      obtain ⟨e0, rfl, rfl⟩ := tp3 hF
      rw [← hQ]
      exact W.iret (v := sz) hx hb hr (fun t ht hW => ⟨⟨_, (), rfl, e0, by rw [ht]; exact hP, va_K.moved hW.alike hK, hD⟩, hS.F ht⟩) hS.2.2 dX2_begin_32
    · have hF := br1 hF c_4
      refine lv_iconst (v := -1) hx hb dX2_begin_21 (by decide) ?_
      obtain ⟨e0, rfl, rfl⟩ := tp3 hF
      rw [← hQ]
      exact W.iret (v := (-1 : Int32)) hx hb hr (fun t ht hW => ⟨⟨_, (), rfl, e0, by rw [ht]; exact hP, va_K.moved hW.alike hK, hD⟩, hS.F ht⟩) hS.2.2 dX2_begin_22

def P_X2_at (a0 : Int32) (a1 : Int32) (a2 : Int32) (xs : Nat → Int32) (ys : Nat → Int32) (sz : Int32) : Option (Int32) :=
  bd1 (P_X2_within a0 (0 : Int32) (2 : Int32)) (fun r_1 =>
  if r_1 = (0 : Int32) then
    some (-1 : Int32)
  else
    bd1 (P_X0_has a1 sz) (fun r_3 =>
    if r_3 = (0 : Int32) then
      some (-1 : Int32)
    else
      bd1 (P_X2_within a2 (0 : Int32) (1 : Int32)) (fun r_5 =>
      if r_5 = (0 : Int32) then
        some (-2 : Int32)
      else
        if a2 = (0 : Int32) then
          gd (ib a1 8) (
          some (xs a1.toNatClampNeg))
        else
          gd (ib a1 8) (
          some (ys a1.toNatClampNeg)))))

def rm_X2_at : Room := { frames := 2, cells := 0, slots := 0, locals := 43 }

set_option maxHeartbeats 4000000 in
set_option maxRecDepth 100000 in
theorem c_X2_at (l : Launch) (dC : Nat → ClassId) (dI : Nat → Nat → Nat) (h0 sc im lr la xa ya : Nat) (cI cL : ClassId) (ke : Int32) (f : Nat → Option Nat) (xs : Nat → Int32) (ys : Nat → Int32) (sz : Int32) (fo : Int32) (a0 : Int32) (a1 : Int32) (a2 : Int32) (r0 : Int32) (hs1 : P_X2_within a0 (0 : Int32) (2 : Int32) = some (1 : Int32) → f a0.toNatClampNeg = some la) (hF : P_X2_at a0 a1 a2 xs ys sz = some r0) : Met l yX2_at wsX2_at rm_X2_at (va_Pc [.ref h0, .int a0, .int a1, .int a2] (fun U => va_P (dC, dI) vwCl [(h0, .inr (2, [.ref sc, .ref im, .int ke])), (sc, .inr (1, [.ref lr])), (lr, .inl (cL, 3, .inr (.inr (.inr (.inr f))))), (la, .inr (0, [.ref xa, .ref ya, .int sz, .int fo])), (xa, .inl (cI, 8, .inl xs)), (ya, .inl (cI, 8, .inl ys))] U.heap ∧ va_K (dC, dI) vwCl [(cI, .int), (cL, .object RX0)] U ∧ nw U)) (vp_Si (fun x => x = r0)) 0 0 (fun _ => False) := by
  refine Met.ofW (cc := cX2_at) (maxL := 5) (ret := (some .int)) (by decide) rfl ?_
  intro p e s m args below meth c s₁ B hml hv
  change W p l e rm_X2_at s m args below meth c s.heap [] 0 0 _ _
  obtain ⟨hv, hP, hK, hN⟩ := hv
  have hx := B.exec
  have hb := B.bytes
  have hr := B.returns
  have hts := atoms_spec (ws := wsX2_at) B.pre
  have hown : s.vm.findClass RX2 = some m.cls := findClass_of_methodNamed B.named
  have hlocks := B.notSynchronized
  have hN_RX0_25 := hN.1
  have hN_RX1_18 := hN.2.1
  have hN_RX1_26 := hN.2.2.1
  have hN_RX2_32 := hN.2.2.2.1
  have hN_RX2_44 := hN.2.2.2.2.1
  have hN_RX2_48 := hN.2.2.2.2.2.1
  have hN_RX2_55 := hN.2.2.2.2.2.2
  generalize hQ : MQ below (vp_Si (fun x => x = r0)) args s 0 0 (fun _ => False) = Q
  have hl := lv_entry ([.ref h0, .int a0, .int a1, .int a2]) (n := 5) (Nat.le_of_ble_eq_true rfl)
  have hE : entryFrame m args 5 = F0 m 0 ((lg_sl ([.ref h0, .int a0, .int a1, .int a2]) ++ List.replicate (5 - (lg_sl ([.ref h0, .int a0, .int a1, .int a2])).length) Slot.unset).toArray) [] := by rw [hv]; exact lg_entry_eq m _ 5
  rw [hE]
  generalize (lg_sl ([.ref h0, .int a0, .int a1, .int a2]) ++ List.replicate (5 - (lg_sl ([.ref h0, .int a0, .int a1, .int a2])).length) Slot.unset).toArray = ls at hl ⊢
  have hl : lv_has ls 5 [(0, .ref h0), (1, .int a0), (2, .int a1), (3, .int a2)] := hl
  unfold P_X2_at at hF
  refine lv_aload_n hx hb dX2_at_0 rfl (lv_at hl 0 rfl) ?_
  refine va_get (D := (dC, dI)) (ci := 2) (v := .ref sc) (C := RX2) (T := TX2) (N := 3) hx hb hts (by decide +kernel) hown hK hP 0 rfl rfl 0 (by decide) (hts (.fieldLink RX2 12 "DotCover" "now" "LDotCover$Scene;") (by decide +kernel)) (fun _ h9 => h9) rfl dX2_at_1 ?_
  refine lv_iload_n hx hb dX2_at_4 rfl (lv_at hl 1 rfl) ?_
  obtain ⟨r_1, hr_1, hF⟩ := bd1_u hF
  have hPc := hP.sub (ws' := [(sc, .inr (1, [.ref lr])), (lr, .inl (cL, 3, .inr (.inr (.inr (.inr f)))))]) [1, 2] rfl
  have hKc := hK.sub (tys' := [(cL, .object RX0)]) [1] rfl
  by_cases c_2 : r_1 = (0 : Int32)
  · have hF := br1 hF c_2
    refine va_csq (W.runV (As := [.int a0]) (rest := []) ⟨hx, hb, hml, hown, hts⟩ (c_X1_layerOf_out l dC dI sc lr cL f a0 (c_2 ▸ hr_1)) (cwV 1 hts gX2_at_X1_layerOf rfl rfl rfl (by decide +kernel) ⟨Nat.le_of_ble_eq_true rfl, Nat.le_of_ble_eq_true rfl⟩) ⟨fun a U g mk q => ⟨q.1, q.2.1, va_K.moved (u := U) (U := U.calling g mk a) (Vm.Alike.refl U.vm) q.2.2.1, nw_same rfl q.2.2.2⟩, va_recv hKc hPc (ci := 1) (q0 := 0) rfl rfl, fun U hU hW => ⟨rfl, by rw [hU]; exact hPc, va_K.moved hW.alike hKc, hN.warm hW⟩⟩ rfl rfl hl.1 rfl (lv_room (Nat.le_of_ble_eq_true rfl)) dX2_at_5 ⟨Nat.le_of_ble_eq_true rfl, Nat.le_of_ble_eq_true rfl⟩) (fun r_ hr_ => ?_)
    obtain rfl := hr_
    change W _ _ _ _ _ _ _ _ _ _ _ _ _ _ _ (F0 m 8 ls [.null])
    refine lv_astoreN (lv' := [(4, .null), (0, .ref h0), (1, .int a0), (2, .int a1), (3, .int a2)]) hx hb dX2_at_8 hl (by decide) rfl (fun ls hl => ?_)
    refine lv_aloadN hx hb dX2_at_10 (lv_at hl 0 rfl) ?_
    refine lv_ifnullN (tgt := 24) hx hb dX2_at_12 (by decide) ?_
    refine lv_iconst (v := -1) hx hb dX2_at_24 (by decide) ?_
    rw [← hQ]
    exact W.iret (v := (-1 : Int32)) hx hb hr (fun t ht hW => ⟨_, rfl, Option.some.inj hF, ht⟩) (fun _ h => by cases h) dX2_at_25
  · have hF := br0 hF c_2
    have hw1 := within_1 hr_1 c_2
    refine va_csq (W.runV (As := [.int a0]) (rest := []) ⟨hx, hb, hml, hown, hts⟩ (c_X1_layerOf_in l dC dI sc lr cL f a0 la hw1 (hs1 hw1)) (cwV 1 hts gX2_at_X1_layerOf rfl rfl rfl (by decide +kernel) ⟨Nat.le_of_ble_eq_true rfl, Nat.le_of_ble_eq_true rfl⟩) ⟨fun a U g mk q => ⟨q.1, q.2.1, va_K.moved (u := U) (U := U.calling g mk a) (Vm.Alike.refl U.vm) q.2.2.1, nw_same rfl q.2.2.2⟩, va_recv hKc hPc (ci := 1) (q0 := 0) rfl rfl, fun U hU hW => ⟨rfl, by rw [hU]; exact hPc, va_K.moved hW.alike hKc, hN.warm hW⟩⟩ rfl rfl hl.1 rfl (lv_room (Nat.le_of_ble_eq_true rfl)) dX2_at_5 ⟨Nat.le_of_ble_eq_true rfl, Nat.le_of_ble_eq_true rfl⟩) (fun r_ hr_ => ?_)
    obtain rfl := hr_
    change W _ _ _ _ _ _ _ _ _ _ _ _ _ _ _ (F0 m 8 ls [.ref la])
    refine lv_astore (lv' := [(4, .ref la), (0, .ref h0), (1, .int a0), (2, .int a1), (3, .int a2)]) hx hb dX2_at_8 hl (by decide) rfl (fun ls hl => ?_)
    refine lv_aload hx hb dX2_at_10 (lv_at hl 0 rfl) ?_
    refine lv_ifnull hx hb dX2_at_12 ?_
    refine lv_aload hx hb dX2_at_15 (lv_at hl 0 rfl) ?_
    refine lv_iload_n hx hb dX2_at_17 rfl (lv_at hl 3 rfl) ?_
    obtain ⟨r_3, hr_3, hF⟩ := bd1_u hF
    have hPc := hP.sub (ws' := [(la, .inr (0, [.ref xa, .ref ya, .int sz, .int fo])), (xa, .inl (cI, 8, .inl xs)), (ya, .inl (cI, 8, .inl ys))]) [3, 4, 5] rfl
    have hKc := hK.sub (tys' := [(cI, .int)]) [0] rfl
    refine vp_callSi (W.runV (As := [.int a1]) (rest := []) ⟨hx, hb, hml, hown, hts⟩ (c_X0_has l dC dI la xa ya cI xs ys sz fo a1 r_3 hr_3) (cwV 1 hts gX2_at_X0_has rfl rfl rfl (by decide +kernel) ⟨Nat.le_of_ble_eq_true rfl, Nat.le_of_ble_eq_true rfl⟩) ⟨fun a U g mk q => ⟨q.1, q.2.1, va_K.moved (u := U) (U := U.calling g mk a) (Vm.Alike.refl U.vm) q.2.2⟩, va_recv hKc hPc (ci := 0) (q0 := 0) rfl rfl, fun U hU hW => ⟨rfl, by rw [hU]; exact hPc, va_K.moved hW.alike hKc⟩⟩ rfl rfl hl.1 rfl (lv_room (Nat.le_of_ble_eq_true rfl)) dX2_at_18 ⟨Nat.le_of_ble_eq_true rfl, Nat.le_of_ble_eq_true rfl⟩) (fun r_3' qr_3 => ?_)
    obtain rfl := qr_3.symm
    refine lv_if_ne (tgt := 26) hx hb dX2_at_21 (by decide) (fun c_4 => ?_) (fun c_4 => ?_)
    · have hF := br0 hF c_4
      refine lv_iload_n hx hb dX2_at_26 rfl (lv_at hl 4 rfl) ?_
      refine lv_iconst (v := 0) hx hb dX2_at_27 (by decide) ?_
      refine lv_iconst (v := 1) hx hb dX2_at_28 (by decide) ?_
      obtain ⟨r_5, hr_5, hF⟩ := bd1_u hF
      refine vp_callSi (W.runS (As := [.int a2, .int (0 : Int32), .int (1 : Int32)]) (rest := []) ⟨hx, hb, hml, hown, hts⟩ (c_X2_within l a2 (0 : Int32) (1 : Int32) r_5 hr_5) (va_cwS 3 hts gX2_at_X2_within rfl rfl rfl (by decide +kernel) ⟨Nat.le_of_ble_eq_true rfl, Nat.le_of_ble_eq_true rfl⟩) preEq rfl rfl hl.1 rfl (lv_room (Nat.le_of_ble_eq_true rfl)) dX2_at_29 ⟨Nat.le_of_ble_eq_true rfl, Nat.le_of_ble_eq_true rfl⟩) (fun r_5' qr_5 => ?_)
      obtain rfl := qr_5.symm
      refine lv_if_ne (tgt := 38) hx hb dX2_at_32 (by decide) (fun c_6 => ?_) (fun c_6 => ?_)
      · have hF := br0 hF c_6
        refine lv_iload_n hx hb dX2_at_38 rfl (lv_at hl 4 rfl) ?_
        refine lv_if_ne (tgt := 52) hx hb dX2_at_39 (by decide) (fun c_7 => ?_) (fun c_7 => ?_)
        · have hF := br0 hF c_7
          refine lv_aload hx hb dX2_at_52 (lv_at hl 0 rfl) ?_
          refine va_getN (D := (dC, dI)) (ci := 0) (v := .ref ya) (C := RX0) (T := TX0) (N := 4) hx hb hts (by decide +kernel) hown hK hP 3 rfl rfl 1 (by decide) (va_Nw.use rfl hN_RX2_48) (fun _ h9 => h9) rfl dX2_at_54 ?_
          refine lv_iload_n hx hb dX2_at_57 rfl (lv_at hl 3 rfl) ?_
          obtain ⟨hi_58, hF⟩ := gd_u hF
          refine va_iald hx hb hK hP 5 0 rfl rfl (in_u hi_58) dX2_at_58 ?_
          rw [← hQ]
          exact W.iret (v := (ys a1.toNatClampNeg)) hx hb hr (fun t ht hW => ⟨_, rfl, Option.some.inj hF, ht⟩) (fun _ h => by cases h) dX2_at_59
        · have hF := br1 hF c_7
          refine lv_aload hx hb dX2_at_42 (lv_at hl 0 rfl) ?_
          refine va_getN (D := (dC, dI)) (ci := 0) (v := .ref xa) (C := RX0) (T := TX0) (N := 4) hx hb hts (by decide +kernel) hown hK hP 3 rfl rfl 0 (by decide) (va_Nw.use rfl hN_RX2_44) (fun _ h9 => h9) rfl dX2_at_44 ?_
          refine lv_iload_n hx hb dX2_at_47 rfl (lv_at hl 3 rfl) ?_
          obtain ⟨hi_48, hF⟩ := gd_u hF
          refine va_iald hx hb hK hP 4 0 rfl rfl (in_u hi_48) dX2_at_48 ?_
          refine lv_goto (tgt := 59) hx hb dX2_at_49 (by decide) ?_
          rw [← hQ]
          exact W.iret (v := (xs a1.toNatClampNeg)) hx hb hr (fun t ht hW => ⟨_, rfl, Option.some.inj hF, ht⟩) (fun _ h => by cases h) dX2_at_59
      · have hF := br1 hF c_6
        refine lv_bipush (v := -2) hx hb dX2_at_35 (by decide) ?_
        rw [← hQ]
        exact W.iret (v := (-2 : Int32)) hx hb hr (fun t ht hW => ⟨_, rfl, Option.some.inj hF, ht⟩) (fun _ h => by cases h) dX2_at_37
    · have hF := br1 hF c_4
      refine lv_iconst (v := -1) hx hb dX2_at_24 (by decide) ?_
      rw [← hQ]
      exact W.iret (v := (-1 : Int32)) hx hb hr (fun t ht hW => ⟨_, rfl, Option.some.inj hF, ht⟩) (fun _ h => by cases h) dX2_at_25

