def P_X3_raw (a0 : Int32) (a1 : Int32) (a2 : Int32) (st : Nat → Int32) (px : Nat → Int64) (py : Nat → Int64) (co : Int32) (lx : Nat → Int64) (ly : Nat → Int64) (lf : Int32) : Option (Int64 × (Nat → Int64) × (Nat → Int64) × Int32 × (Nat → Int64) × (Nat → Int64) × Int32) :=
  bd1 (P_X3_isLayer a0) (fun r_1 =>
  if r_1 = (0 : Int32) then
    some ((-1000000000000000001 : Int64), px, py, co, lx, ly, lf)
  else
    bd1 (P_X3_isDot a1) (fun r_3 =>
    if r_3 = (0 : Int32) then
      some ((-1000000000000000001 : Int64), px, py, co, lx, ly, lf)
    else
      bd1 (P_X3_isPart a2) (fun r_5 =>
      if r_5 = (0 : Int32) then
        some ((-1000000000000000002 : Int64), px, py, co, lx, ly, lf)
      else
        bd7 (P_X3_rawOf a0 a1 (0 : Int32) (0 : Int32) st px py lx ly) (fun r_7 px_8 py_9 co_10 lx_11 ly_12 lf_13 =>
        bd1 (P_X3_told r_7 (498960 : Int64) a2) (fun r_14 =>
        some (r_14, px_8, py_9, co_10, lx_11, ly_12, lf_13))))))

def rm_X3_raw : Room := { frames := 4, cells := 0, slots := 0, locals := 106 }

set_option maxHeartbeats 4000000 in
set_option maxRecDepth 100000 in
theorem c_X3_raw (l : Launch) (dC : Nat → ClassId) (dI : Nat → Nat → Nat) (h0 ast aim akp awx awy apx apy alx aly : Nat) (cI cZ cJ : ClassId) (hsz0 : Nat) (st : Nat → Int32) (im : Nat → Int32) (kp : Nat → Int32) (wx : Nat → Int32) (wy : Nat → Int32) (px : Nat → Int64) (py : Nat → Int64) (co : Int32) (lx : Nat → Int64) (ly : Nat → Int64) (lf : Int32) (a0 : Int32) (a1 : Int32) (a2 : Int32) (r0 : Int64) (pxN : Nat → Int64) (pyN : Nat → Int64) (coN : Int32) (lxN : Nat → Int64) (lyN : Nat → Int64) (lfN : Int32) (hF : P_X3_raw a0 a1 a2 st px py co lx ly lf = some (r0, pxN, pyN, coN, lxN, lyN, lfN)) : Met l yX3_raw wsX3_raw rm_X3_raw (va_Pc [.ref h0, .int a0, .int a1, .int a2] (fun U => U.heap.size = hsz0 ∧ va_P (dC, dI) vwCl [(h0, .inr (3, [.ref ast, .ref aim, .ref akp, .ref awx, .ref awy, .ref apx, .ref apy, .int co, .ref alx, .ref aly, .int lf])), (ast, .inl (cI, 54, .inl st)), (aim, .inl (cI, 108, .inl im)), (akp, .inl (cZ, 2, .inl kp)), (awx, .inl (cI, 8, .inl wx)), (awy, .inl (cI, 8, .inl wy)), (apx, .inl (cJ, 300, .inr (.inl px))), (apy, .inl (cJ, 300, .inr (.inl py))), (alx, .inl (cJ, 300, .inr (.inl lx))), (aly, .inl (cJ, 300, .inr (.inl ly)))] U.heap ∧ va_K (dC, dI) vwCl [(cI, .int), (cZ, .boolean), (cJ, .long)] U ∧ va_D (fun _ => True) [(h0, .inr (3, [.ref ast, .ref aim, .ref akp, .ref awx, .ref awy, .ref apx, .ref apy, .int co, .ref alx, .ref aly, .int lf])), (ast, .inl (cI, 54, .inl st)), (aim, .inl (cI, 108, .inl im)), (akp, .inl (cZ, 2, .inl kp)), (awx, .inl (cI, 8, .inl wx)), (awy, .inl (cI, 8, .inl wy)), (apx, .inl (cJ, 300, .inr (.inl px))), (apy, .inl (cJ, 300, .inr (.inl py))), (alx, .inl (cJ, 300, .inr (.inl lx))), (aly, .inl (cJ, 300, .inr (.inl ly)))])) (va_Ql (fun (r : Int64) (_ : Unit) => r = r0) (fun _ t => va_P (dC, dI) vwCl [(h0, .inr (3, [.ref ast, .ref aim, .ref akp, .ref awx, .ref awy, .ref apx, .ref apy, .int coN, .ref alx, .ref aly, .int lfN])), (ast, .inl (cI, 54, .inl st)), (aim, .inl (cI, 108, .inl im)), (akp, .inl (cZ, 2, .inl kp)), (awx, .inl (cI, 8, .inl wx)), (awy, .inl (cI, 8, .inl wy)), (apx, .inl (cJ, 300, .inr (.inl pxN))), (apy, .inl (cJ, 300, .inr (.inl pyN))), (alx, .inl (cJ, 300, .inr (.inl lxN))), (aly, .inl (cJ, 300, .inr (.inl lyN)))] t.heap ∧ va_K (dC, dI) vwCl [(cI, .int), (cZ, .boolean), (cJ, .long)] t ∧ va_D (va_A [(h0, .inr (3, [.ref ast, .ref aim, .ref akp, .ref awx, .ref awy, .ref apx, .ref apy, .int co, .ref alx, .ref aly, .int lf])), (ast, .inl (cI, 54, .inl st)), (aim, .inl (cI, 108, .inl im)), (akp, .inl (cZ, 2, .inl kp)), (awx, .inl (cI, 8, .inl wx)), (awy, .inl (cI, 8, .inl wy)), (apx, .inl (cJ, 300, .inr (.inl px))), (apy, .inl (cJ, 300, .inr (.inl py))), (alx, .inl (cJ, 300, .inr (.inl lx))), (aly, .inl (cJ, 300, .inr (.inl ly)))] hsz0) [(h0, .inr (3, [.ref ast, .ref aim, .ref akp, .ref awx, .ref awy, .ref apx, .ref apy, .int coN, .ref alx, .ref aly, .int lfN])), (ast, .inl (cI, 54, .inl st)), (aim, .inl (cI, 108, .inl im)), (akp, .inl (cZ, 2, .inl kp)), (awx, .inl (cI, 8, .inl wx)), (awy, .inl (cI, 8, .inl wy)), (apx, .inl (cJ, 300, .inr (.inl pxN))), (apy, .inl (cJ, 300, .inr (.inl pyN))), (alx, .inl (cJ, 300, .inr (.inl lxN))), (aly, .inl (cJ, 300, .inr (.inl lyN)))]) (va_A [(h0, .inr (3, [.ref ast, .ref aim, .ref akp, .ref awx, .ref awy, .ref apx, .ref apy, .int co, .ref alx, .ref aly, .int lf])), (ast, .inl (cI, 54, .inl st)), (aim, .inl (cI, 108, .inl im)), (akp, .inl (cZ, 2, .inl kp)), (awx, .inl (cI, 8, .inl wx)), (awy, .inl (cI, 8, .inl wy)), (apx, .inl (cJ, 300, .inr (.inl px))), (apy, .inl (cJ, 300, .inr (.inl py))), (alx, .inl (cJ, 300, .inr (.inl lx))), (aly, .inl (cJ, 300, .inr (.inl ly)))] hsz0)) 0 0 (va_A [(h0, .inr (3, [.ref ast, .ref aim, .ref akp, .ref awx, .ref awy, .ref apx, .ref apy, .int co, .ref alx, .ref aly, .int lf])), (ast, .inl (cI, 54, .inl st)), (aim, .inl (cI, 108, .inl im)), (akp, .inl (cZ, 2, .inl kp)), (awx, .inl (cI, 8, .inl wx)), (awy, .inl (cI, 8, .inl wy)), (apx, .inl (cJ, 300, .inr (.inl px))), (apy, .inl (cJ, 300, .inr (.inl py))), (alx, .inl (cJ, 300, .inr (.inl lx))), (aly, .inl (cJ, 300, .inr (.inl ly)))] hsz0) := by
  refine Met.ofW (cc := cX3_raw) (maxL := 4) (ret := (some .long)) (by decide) rfl ?_
  intro p e s m args below meth c s₁ B hml hv
  change W p l e rm_X3_raw s m args below meth c s.heap [] 0 0 _ _
  obtain ⟨hv, hsz, hP, hK, hD0⟩ := hv
  have hx := B.exec
  have hb := B.bytes
  have hr := B.returns
  have hts := atoms_spec (ws := wsX3_raw) B.pre
  have hown : s.vm.findClass RX3 = some m.cls := findClass_of_methodNamed B.named
  have hlocks := B.notSynchronized
  subst hsz
  have hD := hD0.self (sz := s.heap.size)
  generalize hAe : va_A [(h0, .inr (3, [.ref ast, .ref aim, .ref akp, .ref awx, .ref awy, .ref apx, .ref apy, .int co, .ref alx, .ref aly, .int lf])), (ast, .inl (cI, 54, .inl st)), (aim, .inl (cI, 108, .inl im)), (akp, .inl (cZ, 2, .inl kp)), (awx, .inl (cI, 8, .inl wx)), (awy, .inl (cI, 8, .inl wy)), (apx, .inl (cJ, 300, .inr (.inl px))), (apy, .inl (cJ, 300, .inr (.inl py))), (alx, .inl (cJ, 300, .inr (.inl lx))), (aly, .inl (cJ, 300, .inr (.inl ly)))] s.heap.size = A at hD ⊢
  have hA : ∀ q : Nat, s.heap.size ≤ q → A q := fun q h => by rw [← hAe]; exact Or.inr h
  have hS : va_S A s.heap s.heap [] := va_S.rf
  generalize hQ : MQ below (va_Ql (fun (r : Int64) (_ : Unit) => r = r0) (fun _ t => va_P (dC, dI) vwCl [(h0, .inr (3, [.ref ast, .ref aim, .ref akp, .ref awx, .ref awy, .ref apx, .ref apy, .int coN, .ref alx, .ref aly, .int lfN])), (ast, .inl (cI, 54, .inl st)), (aim, .inl (cI, 108, .inl im)), (akp, .inl (cZ, 2, .inl kp)), (awx, .inl (cI, 8, .inl wx)), (awy, .inl (cI, 8, .inl wy)), (apx, .inl (cJ, 300, .inr (.inl pxN))), (apy, .inl (cJ, 300, .inr (.inl pyN))), (alx, .inl (cJ, 300, .inr (.inl lxN))), (aly, .inl (cJ, 300, .inr (.inl lyN)))] t.heap ∧ va_K (dC, dI) vwCl [(cI, .int), (cZ, .boolean), (cJ, .long)] t ∧ va_D A [(h0, .inr (3, [.ref ast, .ref aim, .ref akp, .ref awx, .ref awy, .ref apx, .ref apy, .int coN, .ref alx, .ref aly, .int lfN])), (ast, .inl (cI, 54, .inl st)), (aim, .inl (cI, 108, .inl im)), (akp, .inl (cZ, 2, .inl kp)), (awx, .inl (cI, 8, .inl wx)), (awy, .inl (cI, 8, .inl wy)), (apx, .inl (cJ, 300, .inr (.inl pxN))), (apy, .inl (cJ, 300, .inr (.inl pyN))), (alx, .inl (cJ, 300, .inr (.inl lxN))), (aly, .inl (cJ, 300, .inr (.inl lyN)))]) A) args s 0 0 A = Q
  have hl := lv_entry ([.ref h0, .int a0, .int a1, .int a2]) (n := 4) (Nat.le_of_ble_eq_true rfl)
  have hE : entryFrame m args 4 = F0 m 0 ((lg_sl ([.ref h0, .int a0, .int a1, .int a2]) ++ List.replicate (4 - (lg_sl ([.ref h0, .int a0, .int a1, .int a2])).length) Slot.unset).toArray) [] := by rw [hv]; exact lg_entry_eq m _ 4
  rw [hE]
  generalize (lg_sl ([.ref h0, .int a0, .int a1, .int a2]) ++ List.replicate (4 - (lg_sl ([.ref h0, .int a0, .int a1, .int a2])).length) Slot.unset).toArray = ls at hl ⊢
  have hl : lv_has ls 4 [(0, .ref h0), (1, .int a0), (2, .int a1), (3, .int a2)] := hl
  unfold P_X3_raw at hF
  refine lv_iload_n hx hb dX3_raw_0 rfl (lv_at hl 1 rfl) ?_
  obtain ⟨r_1, hr_1, hF⟩ := bd1_u hF
  refine vp_callSi (W.runS (As := [.int a0]) (rest := []) ⟨hx, hb, hml, hown, hts⟩ (c_X3_isLayer l a0 r_1 hr_1) (va_cwS 1 hts gX3_raw_X3_isLayer rfl rfl rfl (by decide +kernel) ⟨Nat.le_of_ble_eq_true rfl, Nat.le_of_ble_eq_true rfl⟩) preEq rfl rfl hl.1 rfl (lv_room (Nat.le_of_ble_eq_true rfl)) dX3_raw_1 ⟨Nat.le_of_ble_eq_true rfl, Nat.le_of_ble_eq_true rfl⟩) (fun r_1' qr_1 => ?_)
  obtain rfl := qr_1.symm
  refine lv_if_eq (tgt := 14) hx hb dX3_raw_4 (by decide) (fun c_2 => ?_) (fun c_2 => ?_)
  · have hF := br1 hF c_2
    refine lv_ldc2 (v := -1000000000000000001) hx hb hown (hts (.constantLong RX3 125 (-1000000000000000001)) (by decide +kernel)) dX3_raw_14 ?_
    obtain ⟨e0, rfl, rfl, rfl, rfl, rfl, rfl⟩ := tp7 hF
    rw [← hQ]
    exact W.lret (v := (-1000000000000000001 : Int64)) hx hb hr (fun t ht hW => ⟨⟨_, (), rfl, e0, by rw [ht]; exact hP, va_K.moved hW.alike hK, hD⟩, hS.F ht⟩) hS.2.2 dX3_raw_17
  · have hF := br0 hF c_2
    refine lv_iload_n hx hb dX3_raw_7 rfl (lv_at hl 2 rfl) ?_
    obtain ⟨r_3, hr_3, hF⟩ := bd1_u hF
    refine vp_callSi (W.runS (As := [.int a1]) (rest := []) ⟨hx, hb, hml, hown, hts⟩ (c_X3_isDot l a1 r_3 hr_3) (va_cwS 1 hts gX3_raw_X3_isDot rfl rfl rfl (by decide +kernel) ⟨Nat.le_of_ble_eq_true rfl, Nat.le_of_ble_eq_true rfl⟩) preEq rfl rfl hl.1 rfl (lv_room (Nat.le_of_ble_eq_true rfl)) dX3_raw_8 ⟨Nat.le_of_ble_eq_true rfl, Nat.le_of_ble_eq_true rfl⟩) (fun r_3' qr_3 => ?_)
    obtain rfl := qr_3.symm
    refine lv_if_ne (tgt := 18) hx hb dX3_raw_11 (by decide) (fun c_4 => ?_) (fun c_4 => ?_)
    · have hF := br0 hF c_4
      refine lv_iload_n hx hb dX3_raw_18 rfl (lv_at hl 3 rfl) ?_
      obtain ⟨r_5, hr_5, hF⟩ := bd1_u hF
      refine vp_callSi (W.runS (As := [.int a2]) (rest := []) ⟨hx, hb, hml, hown, hts⟩ (c_X3_isPart l a2 r_5 hr_5) (va_cwS 1 hts gX3_raw_X3_isPart rfl rfl rfl (by decide +kernel) ⟨Nat.le_of_ble_eq_true rfl, Nat.le_of_ble_eq_true rfl⟩) preEq rfl rfl hl.1 rfl (lv_room (Nat.le_of_ble_eq_true rfl)) dX3_raw_19 ⟨Nat.le_of_ble_eq_true rfl, Nat.le_of_ble_eq_true rfl⟩) (fun r_5' qr_5 => ?_)
      obtain rfl := qr_5.symm
      refine lv_if_eq (tgt := 43) hx hb dX3_raw_22 (by decide) (fun c_6 => ?_) (fun c_6 => ?_)
      · have hF := br1 hF c_6
        refine lv_ldc2 (v := -1000000000000000002) hx hb hown (hts (.constantLong RX3 134 (-1000000000000000002)) (by decide +kernel)) dX3_raw_43 ?_
        obtain ⟨e0, rfl, rfl, rfl, rfl, rfl, rfl⟩ := tp7 hF
        rw [← hQ]
        exact W.lret (v := (-1000000000000000002 : Int64)) hx hb hr (fun t ht hW => ⟨⟨_, (), rfl, e0, by rw [ht]; exact hP, va_K.moved hW.alike hK, hD⟩, hS.F ht⟩) hS.2.2 dX3_raw_46
      · have hF := br0 hF c_6
        refine lv_aload_n hx hb dX3_raw_25 rfl (lv_at hl 0 rfl) ?_
        refine lv_iload_n hx hb dX3_raw_26 rfl (lv_at hl 1 rfl) ?_
        refine lv_iload_n hx hb dX3_raw_27 rfl (lv_at hl 2 rfl) ?_
        refine lv_iconst (v := 0) hx hb dX3_raw_28 (by decide) ?_
        refine lv_iconst (v := 0) hx hb dX3_raw_29 (by decide) ?_
        obtain ⟨r_7, px_8, py_9, co_10, lx_11, ly_12, lf_13, hr_13, hF⟩ := bd7_u hF
        have hPc := hP.sub (ws' := [(h0, .inr (3, [.ref ast, .ref aim, .ref akp, .ref awx, .ref awy, .ref apx, .ref apy, .int co, .ref alx, .ref aly, .int lf])), (ast, .inl (cI, 54, .inl st)), (aim, .inl (cI, 108, .inl im)), (akp, .inl (cZ, 2, .inl kp)), (awx, .inl (cI, 8, .inl wx)), (awy, .inl (cI, 8, .inl wy)), (apx, .inl (cJ, 300, .inr (.inl px))), (apy, .inl (cJ, 300, .inr (.inl py))), (alx, .inl (cJ, 300, .inr (.inl lx))), (aly, .inl (cJ, 300, .inr (.inl ly)))]) [0, 1, 2, 3, 4, 5, 6, 7, 8, 9] rfl
        have hKc := hK.sub (tys' := [(cI, .int), (cZ, .boolean), (cJ, .long)]) [0, 1, 2] rfl
        have hDc := hD.sub (ws' := [(h0, .inr (3, [.ref ast, .ref aim, .ref akp, .ref awx, .ref awy, .ref apx, .ref apy, .int co, .ref alx, .ref aly, .int lf])), (ast, .inl (cI, 54, .inl st)), (aim, .inl (cI, 108, .inl im)), (akp, .inl (cZ, 2, .inl kp)), (awx, .inl (cI, 8, .inl wx)), (awy, .inl (cI, 8, .inl wy)), (apx, .inl (cJ, 300, .inr (.inl px))), (apy, .inl (cJ, 300, .inr (.inl py))), (alx, .inl (cJ, 300, .inr (.inl lx))), (aly, .inl (cJ, 300, .inr (.inl ly)))]) [0, 1, 2, 3, 4, 5, 6, 7, 8, 9] (by decide) rfl
        have hFc := va_free (wc := [(h0, .inr (3, [.ref ast, .ref aim, .ref akp, .ref awx, .ref awy, .ref apx, .ref apy, .int co, .ref alx, .ref aly, .int lf])), (ast, .inl (cI, 54, .inl st)), (aim, .inl (cI, 108, .inl im)), (akp, .inl (cZ, 2, .inl kp)), (awx, .inl (cI, 8, .inl wx)), (awy, .inl (cI, 8, .inl wy)), (apx, .inl (cJ, 300, .inr (.inl px))), (apy, .inl (cJ, 300, .inr (.inl py))), (alx, .inl (cJ, 300, .inr (.inl lx))), (aly, .inl (cJ, 300, .inr (.inl ly)))]) hD hS hA [0, 1, 2, 3, 4, 5, 6, 7, 8, 9] rfl
        refine va_calll (va_runV (As := [.int a0, .int a1, .int (0 : Int32), .int (0 : Int32)]) (rest := []) ⟨hx, hb, hml, hown, hts⟩ (c_X3_rawOf l dC dI h0 ast aim akp awx awy apx apy alx aly cI cZ cJ s.heap.size st im kp wx wy px py co lx ly lf a0 a1 (0 : Int32) (0 : Int32) r_7 px_8 py_9 co_10 lx_11 ly_12 lf_13 hr_13) (cwV 4 hts gX3_raw_X3_rawOf rfl rfl rfl (by decide +kernel) ⟨Nat.le_of_ble_eq_true rfl, Nat.le_of_ble_eq_true rfl⟩) ⟨fun a U g mk q => ⟨q.1, q.2.1, q.2.2.1, va_K.moved (u := U) (U := U.calling g mk a) (Vm.Alike.refl U.vm) q.2.2.2.1, q.2.2.2.2⟩, va_recv hKc hPc (ci := 3) (q0 := 0) rfl rfl, fun U hU hW => ⟨rfl, by rw [hU], by rw [hU]; exact hPc, va_K.moved hW.alike hKc, hDc.weaken (fun _ _ _ _ => trivial)⟩⟩ rfl rfl hl.1 rfl (lv_room (Nat.le_of_ble_eq_true rfl)) dX3_raw_30 ⟨Nat.le_of_ble_eq_true rfl, Nat.le_of_ble_eq_true rfl⟩) hS (fun q _ h => hFc q h) hFc (fun r_7' _ t H1 locs ht hvm hw hB hz1 hk1 hS => ?_)
        obtain ⟨hP1, hK1, hD1⟩ := hB
        rw [ht] at hP1
        obtain rfl := hw.symm
        obtain ⟨hP, hD⟩ := va_join (wr := []) (w1 := [(h0, .inr (3, [.ref ast, .ref aim, .ref akp, .ref awx, .ref awy, .ref apx, .ref apy, .int co_10, .ref alx, .ref aly, .int lf_13])), (ast, .inl (cI, 54, .inl st)), (aim, .inl (cI, 108, .inl im)), (akp, .inl (cZ, 2, .inl kp)), (awx, .inl (cI, 8, .inl wx)), (awy, .inl (cI, 8, .inl wy)), (apx, .inl (cJ, 300, .inr (.inl px_8))), (apy, .inl (cJ, 300, .inr (.inl py_9))), (alx, .inl (cJ, 300, .inr (.inl lx_11))), (aly, .inl (cJ, 300, .inr (.inl ly_12)))]) hP hD [0, 1, 2, 3, 4, 5, 6, 7, 8, 9] [] rfl rfl (by decide) (by decide) hk1 hFc hP1 hD1
        clear hP1 hK1 hD1 hk1 hFc
        generalize H1 = H at hP hS ⊢
        have hP : va_P (dC, dI) vwCl [(h0, .inr (3, [.ref ast, .ref aim, .ref akp, .ref awx, .ref awy, .ref apx, .ref apy, .int co_10, .ref alx, .ref aly, .int lf_13])), (ast, .inl (cI, 54, .inl st)), (aim, .inl (cI, 108, .inl im)), (akp, .inl (cZ, 2, .inl kp)), (awx, .inl (cI, 8, .inl wx)), (awy, .inl (cI, 8, .inl wy)), (apx, .inl (cJ, 300, .inr (.inl px_8))), (apy, .inl (cJ, 300, .inr (.inl py_9))), (alx, .inl (cJ, 300, .inr (.inl lx_11))), (aly, .inl (cJ, 300, .inr (.inl ly_12)))] H := hP
        have hD : va_D A [(h0, .inr (3, [.ref ast, .ref aim, .ref akp, .ref awx, .ref awy, .ref apx, .ref apy, .int co_10, .ref alx, .ref aly, .int lf_13])), (ast, .inl (cI, 54, .inl st)), (aim, .inl (cI, 108, .inl im)), (akp, .inl (cZ, 2, .inl kp)), (awx, .inl (cI, 8, .inl wx)), (awy, .inl (cI, 8, .inl wy)), (apx, .inl (cJ, 300, .inr (.inl px_8))), (apy, .inl (cJ, 300, .inr (.inl py_9))), (alx, .inl (cJ, 300, .inr (.inl lx_11))), (aly, .inl (cJ, 300, .inr (.inl ly_12)))] := hD
        refine lv_ldc2 (v := 498960) hx hb hown (hts (.constantLong RX3 111 (498960)) (by decide +kernel)) dX3_raw_33 ?_
        refine lv_iload_n hx hb dX3_raw_36 rfl (lv_at hl 3 rfl) ?_
        obtain ⟨r_14, hr_14, hF⟩ := bd1_u hF
        refine vp_callSl (W.runS (As := [.long r_7, .long (498960 : Int64), .int a2]) (rest := []) ⟨hx, hb, hml, hown, hts⟩ (c_X3_told l r_7 (498960 : Int64) a2 r_14 hr_14) (va_cwS 3 hts gX3_raw_X3_told rfl rfl rfl (by decide +kernel) ⟨Nat.le_of_ble_eq_true rfl, Nat.le_of_ble_eq_true rfl⟩) preEq rfl rfl hl.1 rfl (lv_room (Nat.le_of_ble_eq_true rfl)) dX3_raw_37 ⟨Nat.le_of_ble_eq_true rfl, Nat.le_of_ble_eq_true rfl⟩) (fun r_14' qr_14 => ?_)
        obtain rfl := qr_14.symm
        refine lv_goto (tgt := 46) hx hb dX3_raw_40 (by decide) ?_
        obtain ⟨e0, rfl, rfl, rfl, rfl, rfl, rfl⟩ := tp7 hF
        rw [← hQ]
        exact W.lret (v := r_14) hx hb hr (fun t ht hW => ⟨⟨_, (), rfl, e0, by rw [ht]; exact hP, va_K.moved hW.alike hK, hD⟩, hS.F ht⟩) hS.2.2 dX3_raw_46
    · have hF := br1 hF c_4
      refine lv_ldc2 (v := -1000000000000000001) hx hb hown (hts (.constantLong RX3 125 (-1000000000000000001)) (by decide +kernel)) dX3_raw_14 ?_
      obtain ⟨e0, rfl, rfl, rfl, rfl, rfl, rfl⟩ := tp7 hF
      rw [← hQ]
      exact W.lret (v := (-1000000000000000001 : Int64)) hx hb hr (fun t ht hW => ⟨⟨_, (), rfl, e0, by rw [ht]; exact hP, va_K.moved hW.alike hK, hD⟩, hS.F ht⟩) hS.2.2 dX3_raw_17

def P_X3_cover (a0 : Int32) (a1 : Int32) (a2 : Int32) (st : Nat → Int32) (px : Nat → Int64) (py : Nat → Int64) (co : Int32) (lx : Nat → Int64) (ly : Nat → Int64) (lf : Int32) : Option (Int64 × (Nat → Int64) × (Nat → Int64) × Int32 × (Nat → Int64) × (Nat → Int64) × Int32) :=
  bd1 (P_X3_isLayer a0) (fun r_1 =>
  if r_1 = (0 : Int32) then
    some ((-1 : Int64), px, py, co, lx, ly, lf)
  else
    bd1 (P_X3_isDot a1) (fun r_3 =>
    if r_3 = (0 : Int32) then
      some ((-1 : Int64), px, py, co, lx, ly, lf)
    else
      bd1 (P_X3_isPart a2) (fun r_5 =>
      if r_5 = (0 : Int32) then
        some ((-2 : Int64), px, py, co, lx, ly, lf)
      else
        bd7 (P_X3_coverOf a0 a1 st px py lx ly) (fun r_7 px_8 py_9 co_10 lx_11 ly_12 lf_13 =>
        bd1 (P_X3_told r_7 (498960 : Int64) a2) (fun r_14 =>
        some (r_14, px_8, py_9, co_10, lx_11, ly_12, lf_13))))))

def rm_X3_cover : Room := { frames := 6, cells := 0, slots := 0, locals := 156 }

set_option maxHeartbeats 4000000 in
set_option maxRecDepth 100000 in
theorem c_X3_cover (l : Launch) (dC : Nat → ClassId) (dI : Nat → Nat → Nat) (h0 ast aim akp awx awy apx apy alx aly : Nat) (cI cZ cJ : ClassId) (hsz0 : Nat) (st : Nat → Int32) (im : Nat → Int32) (kp : Nat → Int32) (wx : Nat → Int32) (wy : Nat → Int32) (px : Nat → Int64) (py : Nat → Int64) (co : Int32) (lx : Nat → Int64) (ly : Nat → Int64) (lf : Int32) (a0 : Int32) (a1 : Int32) (a2 : Int32) (r0 : Int64) (pxN : Nat → Int64) (pyN : Nat → Int64) (coN : Int32) (lxN : Nat → Int64) (lyN : Nat → Int64) (lfN : Int32) (hF : P_X3_cover a0 a1 a2 st px py co lx ly lf = some (r0, pxN, pyN, coN, lxN, lyN, lfN)) : Met l yX3_cover wsX3_cover rm_X3_cover (va_Pc [.ref h0, .int a0, .int a1, .int a2] (fun U => U.heap.size = hsz0 ∧ va_P (dC, dI) vwCl [(h0, .inr (3, [.ref ast, .ref aim, .ref akp, .ref awx, .ref awy, .ref apx, .ref apy, .int co, .ref alx, .ref aly, .int lf])), (ast, .inl (cI, 54, .inl st)), (aim, .inl (cI, 108, .inl im)), (akp, .inl (cZ, 2, .inl kp)), (awx, .inl (cI, 8, .inl wx)), (awy, .inl (cI, 8, .inl wy)), (apx, .inl (cJ, 300, .inr (.inl px))), (apy, .inl (cJ, 300, .inr (.inl py))), (alx, .inl (cJ, 300, .inr (.inl lx))), (aly, .inl (cJ, 300, .inr (.inl ly)))] U.heap ∧ va_K (dC, dI) vwCl [(cI, .int), (cZ, .boolean), (cJ, .long)] U ∧ va_D (fun _ => True) [(h0, .inr (3, [.ref ast, .ref aim, .ref akp, .ref awx, .ref awy, .ref apx, .ref apy, .int co, .ref alx, .ref aly, .int lf])), (ast, .inl (cI, 54, .inl st)), (aim, .inl (cI, 108, .inl im)), (akp, .inl (cZ, 2, .inl kp)), (awx, .inl (cI, 8, .inl wx)), (awy, .inl (cI, 8, .inl wy)), (apx, .inl (cJ, 300, .inr (.inl px))), (apy, .inl (cJ, 300, .inr (.inl py))), (alx, .inl (cJ, 300, .inr (.inl lx))), (aly, .inl (cJ, 300, .inr (.inl ly)))])) (va_Ql (fun (r : Int64) (_ : Unit) => r = r0) (fun _ t => va_P (dC, dI) vwCl [(h0, .inr (3, [.ref ast, .ref aim, .ref akp, .ref awx, .ref awy, .ref apx, .ref apy, .int coN, .ref alx, .ref aly, .int lfN])), (ast, .inl (cI, 54, .inl st)), (aim, .inl (cI, 108, .inl im)), (akp, .inl (cZ, 2, .inl kp)), (awx, .inl (cI, 8, .inl wx)), (awy, .inl (cI, 8, .inl wy)), (apx, .inl (cJ, 300, .inr (.inl pxN))), (apy, .inl (cJ, 300, .inr (.inl pyN))), (alx, .inl (cJ, 300, .inr (.inl lxN))), (aly, .inl (cJ, 300, .inr (.inl lyN)))] t.heap ∧ va_K (dC, dI) vwCl [(cI, .int), (cZ, .boolean), (cJ, .long)] t ∧ va_D (va_A [(h0, .inr (3, [.ref ast, .ref aim, .ref akp, .ref awx, .ref awy, .ref apx, .ref apy, .int co, .ref alx, .ref aly, .int lf])), (ast, .inl (cI, 54, .inl st)), (aim, .inl (cI, 108, .inl im)), (akp, .inl (cZ, 2, .inl kp)), (awx, .inl (cI, 8, .inl wx)), (awy, .inl (cI, 8, .inl wy)), (apx, .inl (cJ, 300, .inr (.inl px))), (apy, .inl (cJ, 300, .inr (.inl py))), (alx, .inl (cJ, 300, .inr (.inl lx))), (aly, .inl (cJ, 300, .inr (.inl ly)))] hsz0) [(h0, .inr (3, [.ref ast, .ref aim, .ref akp, .ref awx, .ref awy, .ref apx, .ref apy, .int coN, .ref alx, .ref aly, .int lfN])), (ast, .inl (cI, 54, .inl st)), (aim, .inl (cI, 108, .inl im)), (akp, .inl (cZ, 2, .inl kp)), (awx, .inl (cI, 8, .inl wx)), (awy, .inl (cI, 8, .inl wy)), (apx, .inl (cJ, 300, .inr (.inl pxN))), (apy, .inl (cJ, 300, .inr (.inl pyN))), (alx, .inl (cJ, 300, .inr (.inl lxN))), (aly, .inl (cJ, 300, .inr (.inl lyN)))]) (va_A [(h0, .inr (3, [.ref ast, .ref aim, .ref akp, .ref awx, .ref awy, .ref apx, .ref apy, .int co, .ref alx, .ref aly, .int lf])), (ast, .inl (cI, 54, .inl st)), (aim, .inl (cI, 108, .inl im)), (akp, .inl (cZ, 2, .inl kp)), (awx, .inl (cI, 8, .inl wx)), (awy, .inl (cI, 8, .inl wy)), (apx, .inl (cJ, 300, .inr (.inl px))), (apy, .inl (cJ, 300, .inr (.inl py))), (alx, .inl (cJ, 300, .inr (.inl lx))), (aly, .inl (cJ, 300, .inr (.inl ly)))] hsz0)) 0 0 (va_A [(h0, .inr (3, [.ref ast, .ref aim, .ref akp, .ref awx, .ref awy, .ref apx, .ref apy, .int co, .ref alx, .ref aly, .int lf])), (ast, .inl (cI, 54, .inl st)), (aim, .inl (cI, 108, .inl im)), (akp, .inl (cZ, 2, .inl kp)), (awx, .inl (cI, 8, .inl wx)), (awy, .inl (cI, 8, .inl wy)), (apx, .inl (cJ, 300, .inr (.inl px))), (apy, .inl (cJ, 300, .inr (.inl py))), (alx, .inl (cJ, 300, .inr (.inl lx))), (aly, .inl (cJ, 300, .inr (.inl ly)))] hsz0) := by
  refine Met.ofW (cc := cX3_cover) (maxL := 4) (ret := (some .long)) (by decide) rfl ?_
  intro p e s m args below meth c s₁ B hml hv
  change W p l e rm_X3_cover s m args below meth c s.heap [] 0 0 _ _
  obtain ⟨hv, hsz, hP, hK, hD0⟩ := hv
  have hx := B.exec
  have hb := B.bytes
  have hr := B.returns
  have hts := atoms_spec (ws := wsX3_cover) B.pre
  have hown : s.vm.findClass RX3 = some m.cls := findClass_of_methodNamed B.named
  have hlocks := B.notSynchronized
  subst hsz
  have hD := hD0.self (sz := s.heap.size)
  generalize hAe : va_A [(h0, .inr (3, [.ref ast, .ref aim, .ref akp, .ref awx, .ref awy, .ref apx, .ref apy, .int co, .ref alx, .ref aly, .int lf])), (ast, .inl (cI, 54, .inl st)), (aim, .inl (cI, 108, .inl im)), (akp, .inl (cZ, 2, .inl kp)), (awx, .inl (cI, 8, .inl wx)), (awy, .inl (cI, 8, .inl wy)), (apx, .inl (cJ, 300, .inr (.inl px))), (apy, .inl (cJ, 300, .inr (.inl py))), (alx, .inl (cJ, 300, .inr (.inl lx))), (aly, .inl (cJ, 300, .inr (.inl ly)))] s.heap.size = A at hD ⊢
  have hA : ∀ q : Nat, s.heap.size ≤ q → A q := fun q h => by rw [← hAe]; exact Or.inr h
  have hS : va_S A s.heap s.heap [] := va_S.rf
  generalize hQ : MQ below (va_Ql (fun (r : Int64) (_ : Unit) => r = r0) (fun _ t => va_P (dC, dI) vwCl [(h0, .inr (3, [.ref ast, .ref aim, .ref akp, .ref awx, .ref awy, .ref apx, .ref apy, .int coN, .ref alx, .ref aly, .int lfN])), (ast, .inl (cI, 54, .inl st)), (aim, .inl (cI, 108, .inl im)), (akp, .inl (cZ, 2, .inl kp)), (awx, .inl (cI, 8, .inl wx)), (awy, .inl (cI, 8, .inl wy)), (apx, .inl (cJ, 300, .inr (.inl pxN))), (apy, .inl (cJ, 300, .inr (.inl pyN))), (alx, .inl (cJ, 300, .inr (.inl lxN))), (aly, .inl (cJ, 300, .inr (.inl lyN)))] t.heap ∧ va_K (dC, dI) vwCl [(cI, .int), (cZ, .boolean), (cJ, .long)] t ∧ va_D A [(h0, .inr (3, [.ref ast, .ref aim, .ref akp, .ref awx, .ref awy, .ref apx, .ref apy, .int coN, .ref alx, .ref aly, .int lfN])), (ast, .inl (cI, 54, .inl st)), (aim, .inl (cI, 108, .inl im)), (akp, .inl (cZ, 2, .inl kp)), (awx, .inl (cI, 8, .inl wx)), (awy, .inl (cI, 8, .inl wy)), (apx, .inl (cJ, 300, .inr (.inl pxN))), (apy, .inl (cJ, 300, .inr (.inl pyN))), (alx, .inl (cJ, 300, .inr (.inl lxN))), (aly, .inl (cJ, 300, .inr (.inl lyN)))]) A) args s 0 0 A = Q
  have hl := lv_entry ([.ref h0, .int a0, .int a1, .int a2]) (n := 4) (Nat.le_of_ble_eq_true rfl)
  have hE : entryFrame m args 4 = F0 m 0 ((lg_sl ([.ref h0, .int a0, .int a1, .int a2]) ++ List.replicate (4 - (lg_sl ([.ref h0, .int a0, .int a1, .int a2])).length) Slot.unset).toArray) [] := by rw [hv]; exact lg_entry_eq m _ 4
  rw [hE]
  generalize (lg_sl ([.ref h0, .int a0, .int a1, .int a2]) ++ List.replicate (4 - (lg_sl ([.ref h0, .int a0, .int a1, .int a2])).length) Slot.unset).toArray = ls at hl ⊢
  have hl : lv_has ls 4 [(0, .ref h0), (1, .int a0), (2, .int a1), (3, .int a2)] := hl
  unfold P_X3_cover at hF
  refine lv_iload_n hx hb dX3_cover_0 rfl (lv_at hl 1 rfl) ?_
  obtain ⟨r_1, hr_1, hF⟩ := bd1_u hF
  refine vp_callSi (W.runS (As := [.int a0]) (rest := []) ⟨hx, hb, hml, hown, hts⟩ (c_X3_isLayer l a0 r_1 hr_1) (va_cwS 1 hts gX3_cover_X3_isLayer rfl rfl rfl (by decide +kernel) ⟨Nat.le_of_ble_eq_true rfl, Nat.le_of_ble_eq_true rfl⟩) preEq rfl rfl hl.1 rfl (lv_room (Nat.le_of_ble_eq_true rfl)) dX3_cover_1 ⟨Nat.le_of_ble_eq_true rfl, Nat.le_of_ble_eq_true rfl⟩) (fun r_1' qr_1 => ?_)
  obtain rfl := qr_1.symm
  refine lv_if_eq (tgt := 14) hx hb dX3_cover_4 (by decide) (fun c_2 => ?_) (fun c_2 => ?_)
  · have hF := br1 hF c_2
    refine lv_ldc2 (v := -1) hx hb hown (hts (.constantLong RX3 136 (-1)) (by decide +kernel)) dX3_cover_14 ?_
    obtain ⟨e0, rfl, rfl, rfl, rfl, rfl, rfl⟩ := tp7 hF
    rw [← hQ]
    exact W.lret (v := (-1 : Int64)) hx hb hr (fun t ht hW => ⟨⟨_, (), rfl, e0, by rw [ht]; exact hP, va_K.moved hW.alike hK, hD⟩, hS.F ht⟩) hS.2.2 dX3_cover_17
  · have hF := br0 hF c_2
    refine lv_iload_n hx hb dX3_cover_7 rfl (lv_at hl 2 rfl) ?_
    obtain ⟨r_3, hr_3, hF⟩ := bd1_u hF
    refine vp_callSi (W.runS (As := [.int a1]) (rest := []) ⟨hx, hb, hml, hown, hts⟩ (c_X3_isDot l a1 r_3 hr_3) (va_cwS 1 hts gX3_cover_X3_isDot rfl rfl rfl (by decide +kernel) ⟨Nat.le_of_ble_eq_true rfl, Nat.le_of_ble_eq_true rfl⟩) preEq rfl rfl hl.1 rfl (lv_room (Nat.le_of_ble_eq_true rfl)) dX3_cover_8 ⟨Nat.le_of_ble_eq_true rfl, Nat.le_of_ble_eq_true rfl⟩) (fun r_3' qr_3 => ?_)
    obtain rfl := qr_3.symm
    refine lv_if_ne (tgt := 18) hx hb dX3_cover_11 (by decide) (fun c_4 => ?_) (fun c_4 => ?_)
    · have hF := br0 hF c_4
      refine lv_iload_n hx hb dX3_cover_18 rfl (lv_at hl 3 rfl) ?_
      obtain ⟨r_5, hr_5, hF⟩ := bd1_u hF
      refine vp_callSi (W.runS (As := [.int a2]) (rest := []) ⟨hx, hb, hml, hown, hts⟩ (c_X3_isPart l a2 r_5 hr_5) (va_cwS 1 hts gX3_cover_X3_isPart rfl rfl rfl (by decide +kernel) ⟨Nat.le_of_ble_eq_true rfl, Nat.le_of_ble_eq_true rfl⟩) preEq rfl rfl hl.1 rfl (lv_room (Nat.le_of_ble_eq_true rfl)) dX3_cover_19 ⟨Nat.le_of_ble_eq_true rfl, Nat.le_of_ble_eq_true rfl⟩) (fun r_5' qr_5 => ?_)
      obtain rfl := qr_5.symm
      refine lv_if_eq (tgt := 41) hx hb dX3_cover_22 (by decide) (fun c_6 => ?_) (fun c_6 => ?_)
      · have hF := br1 hF c_6
        refine lv_ldc2 (v := -2) hx hb hown (hts (.constantLong RX3 142 (-2)) (by decide +kernel)) dX3_cover_41 ?_
        obtain ⟨e0, rfl, rfl, rfl, rfl, rfl, rfl⟩ := tp7 hF
        rw [← hQ]
        exact W.lret (v := (-2 : Int64)) hx hb hr (fun t ht hW => ⟨⟨_, (), rfl, e0, by rw [ht]; exact hP, va_K.moved hW.alike hK, hD⟩, hS.F ht⟩) hS.2.2 dX3_cover_44
      · have hF := br0 hF c_6
        refine lv_aload_n hx hb dX3_cover_25 rfl (lv_at hl 0 rfl) ?_
        refine lv_iload_n hx hb dX3_cover_26 rfl (lv_at hl 1 rfl) ?_
        refine lv_iload_n hx hb dX3_cover_27 rfl (lv_at hl 2 rfl) ?_
        obtain ⟨r_7, px_8, py_9, co_10, lx_11, ly_12, lf_13, hr_13, hF⟩ := bd7_u hF
        have hPc := hP.sub (ws' := [(h0, .inr (3, [.ref ast, .ref aim, .ref akp, .ref awx, .ref awy, .ref apx, .ref apy, .int co, .ref alx, .ref aly, .int lf])), (ast, .inl (cI, 54, .inl st)), (aim, .inl (cI, 108, .inl im)), (akp, .inl (cZ, 2, .inl kp)), (awx, .inl (cI, 8, .inl wx)), (awy, .inl (cI, 8, .inl wy)), (apx, .inl (cJ, 300, .inr (.inl px))), (apy, .inl (cJ, 300, .inr (.inl py))), (alx, .inl (cJ, 300, .inr (.inl lx))), (aly, .inl (cJ, 300, .inr (.inl ly)))]) [0, 1, 2, 3, 4, 5, 6, 7, 8, 9] rfl
        have hKc := hK.sub (tys' := [(cI, .int), (cZ, .boolean), (cJ, .long)]) [0, 1, 2] rfl
        have hDc := hD.sub (ws' := [(h0, .inr (3, [.ref ast, .ref aim, .ref akp, .ref awx, .ref awy, .ref apx, .ref apy, .int co, .ref alx, .ref aly, .int lf])), (ast, .inl (cI, 54, .inl st)), (aim, .inl (cI, 108, .inl im)), (akp, .inl (cZ, 2, .inl kp)), (awx, .inl (cI, 8, .inl wx)), (awy, .inl (cI, 8, .inl wy)), (apx, .inl (cJ, 300, .inr (.inl px))), (apy, .inl (cJ, 300, .inr (.inl py))), (alx, .inl (cJ, 300, .inr (.inl lx))), (aly, .inl (cJ, 300, .inr (.inl ly)))]) [0, 1, 2, 3, 4, 5, 6, 7, 8, 9] (by decide) rfl
        have hFc := va_free (wc := [(h0, .inr (3, [.ref ast, .ref aim, .ref akp, .ref awx, .ref awy, .ref apx, .ref apy, .int co, .ref alx, .ref aly, .int lf])), (ast, .inl (cI, 54, .inl st)), (aim, .inl (cI, 108, .inl im)), (akp, .inl (cZ, 2, .inl kp)), (awx, .inl (cI, 8, .inl wx)), (awy, .inl (cI, 8, .inl wy)), (apx, .inl (cJ, 300, .inr (.inl px))), (apy, .inl (cJ, 300, .inr (.inl py))), (alx, .inl (cJ, 300, .inr (.inl lx))), (aly, .inl (cJ, 300, .inr (.inl ly)))]) hD hS hA [0, 1, 2, 3, 4, 5, 6, 7, 8, 9] rfl
        refine va_calll (va_runV (As := [.int a0, .int a1]) (rest := []) ⟨hx, hb, hml, hown, hts⟩ (c_X3_coverOf l dC dI h0 ast aim akp awx awy apx apy alx aly cI cZ cJ s.heap.size st im kp wx wy px py co lx ly lf a0 a1 r_7 px_8 py_9 co_10 lx_11 ly_12 lf_13 hr_13) (cwV 2 hts gX3_cover_X3_coverOf rfl rfl rfl (by decide +kernel) ⟨Nat.le_of_ble_eq_true rfl, Nat.le_of_ble_eq_true rfl⟩) ⟨fun a U g mk q => ⟨q.1, q.2.1, q.2.2.1, va_K.moved (u := U) (U := U.calling g mk a) (Vm.Alike.refl U.vm) q.2.2.2.1, q.2.2.2.2⟩, va_recv hKc hPc (ci := 3) (q0 := 0) rfl rfl, fun U hU hW => ⟨rfl, by rw [hU], by rw [hU]; exact hPc, va_K.moved hW.alike hKc, hDc.weaken (fun _ _ _ _ => trivial)⟩⟩ rfl rfl hl.1 rfl (lv_room (Nat.le_of_ble_eq_true rfl)) dX3_cover_28 ⟨Nat.le_of_ble_eq_true rfl, Nat.le_of_ble_eq_true rfl⟩) hS (fun q _ h => hFc q h) hFc (fun r_7' _ t H1 locs ht hvm hw hB hz1 hk1 hS => ?_)
        obtain ⟨hP1, hK1, hD1⟩ := hB
        rw [ht] at hP1
        obtain rfl := hw.symm
        obtain ⟨hP, hD⟩ := va_join (wr := []) (w1 := [(h0, .inr (3, [.ref ast, .ref aim, .ref akp, .ref awx, .ref awy, .ref apx, .ref apy, .int co_10, .ref alx, .ref aly, .int lf_13])), (ast, .inl (cI, 54, .inl st)), (aim, .inl (cI, 108, .inl im)), (akp, .inl (cZ, 2, .inl kp)), (awx, .inl (cI, 8, .inl wx)), (awy, .inl (cI, 8, .inl wy)), (apx, .inl (cJ, 300, .inr (.inl px_8))), (apy, .inl (cJ, 300, .inr (.inl py_9))), (alx, .inl (cJ, 300, .inr (.inl lx_11))), (aly, .inl (cJ, 300, .inr (.inl ly_12)))]) hP hD [0, 1, 2, 3, 4, 5, 6, 7, 8, 9] [] rfl rfl (by decide) (by decide) hk1 hFc hP1 hD1
        clear hP1 hK1 hD1 hk1 hFc
        generalize H1 = H at hP hS ⊢
        have hP : va_P (dC, dI) vwCl [(h0, .inr (3, [.ref ast, .ref aim, .ref akp, .ref awx, .ref awy, .ref apx, .ref apy, .int co_10, .ref alx, .ref aly, .int lf_13])), (ast, .inl (cI, 54, .inl st)), (aim, .inl (cI, 108, .inl im)), (akp, .inl (cZ, 2, .inl kp)), (awx, .inl (cI, 8, .inl wx)), (awy, .inl (cI, 8, .inl wy)), (apx, .inl (cJ, 300, .inr (.inl px_8))), (apy, .inl (cJ, 300, .inr (.inl py_9))), (alx, .inl (cJ, 300, .inr (.inl lx_11))), (aly, .inl (cJ, 300, .inr (.inl ly_12)))] H := hP
        have hD : va_D A [(h0, .inr (3, [.ref ast, .ref aim, .ref akp, .ref awx, .ref awy, .ref apx, .ref apy, .int co_10, .ref alx, .ref aly, .int lf_13])), (ast, .inl (cI, 54, .inl st)), (aim, .inl (cI, 108, .inl im)), (akp, .inl (cZ, 2, .inl kp)), (awx, .inl (cI, 8, .inl wx)), (awy, .inl (cI, 8, .inl wy)), (apx, .inl (cJ, 300, .inr (.inl px_8))), (apy, .inl (cJ, 300, .inr (.inl py_9))), (alx, .inl (cJ, 300, .inr (.inl lx_11))), (aly, .inl (cJ, 300, .inr (.inl ly_12)))] := hD
        refine lv_ldc2 (v := 498960) hx hb hown (hts (.constantLong RX3 111 (498960)) (by decide +kernel)) dX3_cover_31 ?_
        refine lv_iload_n hx hb dX3_cover_34 rfl (lv_at hl 3 rfl) ?_
        obtain ⟨r_14, hr_14, hF⟩ := bd1_u hF
        refine vp_callSl (W.runS (As := [.long r_7, .long (498960 : Int64), .int a2]) (rest := []) ⟨hx, hb, hml, hown, hts⟩ (c_X3_told l r_7 (498960 : Int64) a2 r_14 hr_14) (va_cwS 3 hts gX3_cover_X3_told rfl rfl rfl (by decide +kernel) ⟨Nat.le_of_ble_eq_true rfl, Nat.le_of_ble_eq_true rfl⟩) preEq rfl rfl hl.1 rfl (lv_room (Nat.le_of_ble_eq_true rfl)) dX3_cover_35 ⟨Nat.le_of_ble_eq_true rfl, Nat.le_of_ble_eq_true rfl⟩) (fun r_14' qr_14 => ?_)
        obtain rfl := qr_14.symm
        refine lv_goto (tgt := 44) hx hb dX3_cover_38 (by decide) ?_
        obtain ⟨e0, rfl, rfl, rfl, rfl, rfl, rfl⟩ := tp7 hF
        rw [← hQ]
        exact W.lret (v := r_14) hx hb hr (fun t ht hW => ⟨⟨_, (), rfl, e0, by rw [ht]; exact hP, va_K.moved hW.alike hK, hD⟩, hS.F ht⟩) hS.2.2 dX3_cover_44
    · have hF := br1 hF c_4
      refine lv_ldc2 (v := -1) hx hb hown (hts (.constantLong RX3 136 (-1)) (by decide +kernel)) dX3_cover_14 ?_
      obtain ⟨e0, rfl, rfl, rfl, rfl, rfl, rfl⟩ := tp7 hF
      rw [← hQ]
      exact W.lret (v := (-1 : Int64)) hx hb hr (fun t ht hW => ⟨⟨_, (), rfl, e0, by rw [ht]; exact hP, va_K.moved hW.alike hK, hD⟩, hS.F ht⟩) hS.2.2 dX3_cover_17

def L_X3_openOf_5 (st : Nat → Int32) (a0 : Int32) : Nat → Int32 → Int64 → (Nat → Int64) → (Nat → Int64) → Int32 → (Nat → Int64) → (Nat → Int64) → Int32 → Option (Int32 × Int64 × (Nat → Int64) × (Nat → Int64) × Int32 × (Nat → Int64) × (Nat → Int64) × Int32)
  | 0, _, _, _, _, _, _, _, _ => none
  | n + 1, k_1, k_2, px_3, py_4, co_5, lx_6, ly_7, lf_8 =>
    if (3 : Int32) ≤ k_1 then
      some (k_1, k_2, px_3, py_4, co_5, lx_6, ly_7, lf_8)
    else
      bd7 (P_X3_coverOf k_1 a0 st px_3 py_4 lx_6 ly_7) (fun r_18 px_19 py_20 co_21 lx_22 ly_23 lf_24 =>
      nm (k_2 * ((498960 : Int64) - r_18)) (fun v_25 =>
      L_X3_openOf_5 st a0 n (k_1 + (1 : Int32)) v_25 px_19 py_20 co_21 lx_22 ly_23 lf_24))
theorem L_X3_openOf_5_s (st : Nat → Int32) (a0 : Int32) (n : Nat) (k_1 : Int32) (k_2 : Int64) (px_3 : Nat → Int64) (py_4 : Nat → Int64) (co_5 : Int32) (lx_6 : Nat → Int64) (ly_7 : Nat → Int64) (lf_8 : Int32) : L_X3_openOf_5 st a0 (n + 1) k_1 k_2 px_3 py_4 co_5 lx_6 ly_7 lf_8 =
    (if (3 : Int32) ≤ k_1 then
      some (k_1, k_2, px_3, py_4, co_5, lx_6, ly_7, lf_8)
    else
      bd7 (P_X3_coverOf k_1 a0 st px_3 py_4 lx_6 ly_7) (fun r_18 px_19 py_20 co_21 lx_22 ly_23 lf_24 =>
      nm (k_2 * ((498960 : Int64) - r_18)) (fun v_25 =>
      L_X3_openOf_5 st a0 n (k_1 + (1 : Int32)) v_25 px_19 py_20 co_21 lx_22 ly_23 lf_24))) := rfl

def P_X3_openOf (a0 : Int32) (st : Nat → Int32) (px : Nat → Int64) (py : Nat → Int64) (co : Int32) (lx : Nat → Int64) (ly : Nat → Int64) (lf : Int32) : Option (Int64 × (Nat → Int64) × (Nat → Int64) × Int32 × (Nat → Int64) × (Nat → Int64) × Int32) :=
  bd8 (L_X3_openOf_5 st a0 1000 (0 : Int32) (1 : Int64) px py co lx ly lf) (fun o_9 o_10 o_11 o_12 o_13 o_14 o_15 o_16 =>
  some (o_10, o_11, o_12, o_13, o_14, o_15, o_16))

def rm_X3_openOf : Room := { frames := 6, cells := 0, slots := 0, locals := 156 }

set_option maxHeartbeats 4000000 in
set_option maxRecDepth 100000 in
theorem c_X3_openOf (l : Launch) (dC : Nat → ClassId) (dI : Nat → Nat → Nat) (h0 ast aim akp awx awy apx apy alx aly : Nat) (cI cZ cJ : ClassId) (hsz0 : Nat) (st : Nat → Int32) (im : Nat → Int32) (kp : Nat → Int32) (wx : Nat → Int32) (wy : Nat → Int32) (px : Nat → Int64) (py : Nat → Int64) (co : Int32) (lx : Nat → Int64) (ly : Nat → Int64) (lf : Int32) (a0 : Int32) (r0 : Int64) (pxN : Nat → Int64) (pyN : Nat → Int64) (coN : Int32) (lxN : Nat → Int64) (lyN : Nat → Int64) (lfN : Int32) (hF : P_X3_openOf a0 st px py co lx ly lf = some (r0, pxN, pyN, coN, lxN, lyN, lfN)) : Met l yX3_openOf wsX3_openOf rm_X3_openOf (va_Pc [.ref h0, .int a0] (fun U => U.heap.size = hsz0 ∧ va_P (dC, dI) vwCl [(h0, .inr (3, [.ref ast, .ref aim, .ref akp, .ref awx, .ref awy, .ref apx, .ref apy, .int co, .ref alx, .ref aly, .int lf])), (ast, .inl (cI, 54, .inl st)), (aim, .inl (cI, 108, .inl im)), (akp, .inl (cZ, 2, .inl kp)), (awx, .inl (cI, 8, .inl wx)), (awy, .inl (cI, 8, .inl wy)), (apx, .inl (cJ, 300, .inr (.inl px))), (apy, .inl (cJ, 300, .inr (.inl py))), (alx, .inl (cJ, 300, .inr (.inl lx))), (aly, .inl (cJ, 300, .inr (.inl ly)))] U.heap ∧ va_K (dC, dI) vwCl [(cI, .int), (cZ, .boolean), (cJ, .long)] U ∧ va_D (fun _ => True) [(h0, .inr (3, [.ref ast, .ref aim, .ref akp, .ref awx, .ref awy, .ref apx, .ref apy, .int co, .ref alx, .ref aly, .int lf])), (ast, .inl (cI, 54, .inl st)), (aim, .inl (cI, 108, .inl im)), (akp, .inl (cZ, 2, .inl kp)), (awx, .inl (cI, 8, .inl wx)), (awy, .inl (cI, 8, .inl wy)), (apx, .inl (cJ, 300, .inr (.inl px))), (apy, .inl (cJ, 300, .inr (.inl py))), (alx, .inl (cJ, 300, .inr (.inl lx))), (aly, .inl (cJ, 300, .inr (.inl ly)))])) (va_Ql (fun (r : Int64) (_ : Unit) => r = r0) (fun _ t => va_P (dC, dI) vwCl [(h0, .inr (3, [.ref ast, .ref aim, .ref akp, .ref awx, .ref awy, .ref apx, .ref apy, .int coN, .ref alx, .ref aly, .int lfN])), (ast, .inl (cI, 54, .inl st)), (aim, .inl (cI, 108, .inl im)), (akp, .inl (cZ, 2, .inl kp)), (awx, .inl (cI, 8, .inl wx)), (awy, .inl (cI, 8, .inl wy)), (apx, .inl (cJ, 300, .inr (.inl pxN))), (apy, .inl (cJ, 300, .inr (.inl pyN))), (alx, .inl (cJ, 300, .inr (.inl lxN))), (aly, .inl (cJ, 300, .inr (.inl lyN)))] t.heap ∧ va_K (dC, dI) vwCl [(cI, .int), (cZ, .boolean), (cJ, .long)] t ∧ va_D (va_A [(h0, .inr (3, [.ref ast, .ref aim, .ref akp, .ref awx, .ref awy, .ref apx, .ref apy, .int co, .ref alx, .ref aly, .int lf])), (ast, .inl (cI, 54, .inl st)), (aim, .inl (cI, 108, .inl im)), (akp, .inl (cZ, 2, .inl kp)), (awx, .inl (cI, 8, .inl wx)), (awy, .inl (cI, 8, .inl wy)), (apx, .inl (cJ, 300, .inr (.inl px))), (apy, .inl (cJ, 300, .inr (.inl py))), (alx, .inl (cJ, 300, .inr (.inl lx))), (aly, .inl (cJ, 300, .inr (.inl ly)))] hsz0) [(h0, .inr (3, [.ref ast, .ref aim, .ref akp, .ref awx, .ref awy, .ref apx, .ref apy, .int coN, .ref alx, .ref aly, .int lfN])), (ast, .inl (cI, 54, .inl st)), (aim, .inl (cI, 108, .inl im)), (akp, .inl (cZ, 2, .inl kp)), (awx, .inl (cI, 8, .inl wx)), (awy, .inl (cI, 8, .inl wy)), (apx, .inl (cJ, 300, .inr (.inl pxN))), (apy, .inl (cJ, 300, .inr (.inl pyN))), (alx, .inl (cJ, 300, .inr (.inl lxN))), (aly, .inl (cJ, 300, .inr (.inl lyN)))]) (va_A [(h0, .inr (3, [.ref ast, .ref aim, .ref akp, .ref awx, .ref awy, .ref apx, .ref apy, .int co, .ref alx, .ref aly, .int lf])), (ast, .inl (cI, 54, .inl st)), (aim, .inl (cI, 108, .inl im)), (akp, .inl (cZ, 2, .inl kp)), (awx, .inl (cI, 8, .inl wx)), (awy, .inl (cI, 8, .inl wy)), (apx, .inl (cJ, 300, .inr (.inl px))), (apy, .inl (cJ, 300, .inr (.inl py))), (alx, .inl (cJ, 300, .inr (.inl lx))), (aly, .inl (cJ, 300, .inr (.inl ly)))] hsz0)) 0 0 (va_A [(h0, .inr (3, [.ref ast, .ref aim, .ref akp, .ref awx, .ref awy, .ref apx, .ref apy, .int co, .ref alx, .ref aly, .int lf])), (ast, .inl (cI, 54, .inl st)), (aim, .inl (cI, 108, .inl im)), (akp, .inl (cZ, 2, .inl kp)), (awx, .inl (cI, 8, .inl wx)), (awy, .inl (cI, 8, .inl wy)), (apx, .inl (cJ, 300, .inr (.inl px))), (apy, .inl (cJ, 300, .inr (.inl py))), (alx, .inl (cJ, 300, .inr (.inl lx))), (aly, .inl (cJ, 300, .inr (.inl ly)))] hsz0) := by
  refine Met.ofW (cc := cX3_openOf) (maxL := 5) (ret := (some .long)) (by decide) rfl ?_
  intro p e s m args below meth c s₁ B hml hv
  change W p l e rm_X3_openOf s m args below meth c s.heap [] 0 0 _ _
  obtain ⟨hv, hsz, hP, hK, hD0⟩ := hv
  have hx := B.exec
  have hb := B.bytes
  have hr := B.returns
  have hts := atoms_spec (ws := wsX3_openOf) B.pre
  have hown : s.vm.findClass RX3 = some m.cls := findClass_of_methodNamed B.named
  have hlocks := B.notSynchronized
  subst hsz
  have hD := hD0.self (sz := s.heap.size)
  generalize hAe : va_A [(h0, .inr (3, [.ref ast, .ref aim, .ref akp, .ref awx, .ref awy, .ref apx, .ref apy, .int co, .ref alx, .ref aly, .int lf])), (ast, .inl (cI, 54, .inl st)), (aim, .inl (cI, 108, .inl im)), (akp, .inl (cZ, 2, .inl kp)), (awx, .inl (cI, 8, .inl wx)), (awy, .inl (cI, 8, .inl wy)), (apx, .inl (cJ, 300, .inr (.inl px))), (apy, .inl (cJ, 300, .inr (.inl py))), (alx, .inl (cJ, 300, .inr (.inl lx))), (aly, .inl (cJ, 300, .inr (.inl ly)))] s.heap.size = A at hD ⊢
  have hA : ∀ q : Nat, s.heap.size ≤ q → A q := fun q h => by rw [← hAe]; exact Or.inr h
  have hS : va_S A s.heap s.heap [] := va_S.rf
  generalize hQ : MQ below (va_Ql (fun (r : Int64) (_ : Unit) => r = r0) (fun _ t => va_P (dC, dI) vwCl [(h0, .inr (3, [.ref ast, .ref aim, .ref akp, .ref awx, .ref awy, .ref apx, .ref apy, .int coN, .ref alx, .ref aly, .int lfN])), (ast, .inl (cI, 54, .inl st)), (aim, .inl (cI, 108, .inl im)), (akp, .inl (cZ, 2, .inl kp)), (awx, .inl (cI, 8, .inl wx)), (awy, .inl (cI, 8, .inl wy)), (apx, .inl (cJ, 300, .inr (.inl pxN))), (apy, .inl (cJ, 300, .inr (.inl pyN))), (alx, .inl (cJ, 300, .inr (.inl lxN))), (aly, .inl (cJ, 300, .inr (.inl lyN)))] t.heap ∧ va_K (dC, dI) vwCl [(cI, .int), (cZ, .boolean), (cJ, .long)] t ∧ va_D A [(h0, .inr (3, [.ref ast, .ref aim, .ref akp, .ref awx, .ref awy, .ref apx, .ref apy, .int coN, .ref alx, .ref aly, .int lfN])), (ast, .inl (cI, 54, .inl st)), (aim, .inl (cI, 108, .inl im)), (akp, .inl (cZ, 2, .inl kp)), (awx, .inl (cI, 8, .inl wx)), (awy, .inl (cI, 8, .inl wy)), (apx, .inl (cJ, 300, .inr (.inl pxN))), (apy, .inl (cJ, 300, .inr (.inl pyN))), (alx, .inl (cJ, 300, .inr (.inl lxN))), (aly, .inl (cJ, 300, .inr (.inl lyN)))]) A) args s 0 0 A = Q
  have hl := lv_entry ([.ref h0, .int a0]) (n := 5) (Nat.le_of_ble_eq_true rfl)
  have hE : entryFrame m args 5 = F0 m 0 ((lg_sl ([.ref h0, .int a0]) ++ List.replicate (5 - (lg_sl ([.ref h0, .int a0])).length) Slot.unset).toArray) [] := by rw [hv]; exact lg_entry_eq m _ 5
  rw [hE]
  generalize (lg_sl ([.ref h0, .int a0]) ++ List.replicate (5 - (lg_sl ([.ref h0, .int a0])).length) Slot.unset).toArray = ls at hl ⊢
  have hl : lv_has ls 5 [(0, .ref h0), (1, .int a0)] := hl
  unfold P_X3_openOf at hF
  refine lv_lconst (v := 1) hx hb dX3_openOf_0 (by decide) ?_
  refine lv_lstore_n (lv' := [(2, .long (1 : Int64)), (0, .ref h0), (1, .int a0)]) hx hb dX3_openOf_1 rfl hl (by decide) rfl (fun ls hl => ?_)
  refine lv_iconst (v := 0) hx hb dX3_openOf_2 (by decide) ?_
  refine lv_istore (lv' := [(4, .int (0 : Int32)), (2, .long (1 : Int64)), (0, .ref h0), (1, .int a0)]) hx hb dX3_openOf_3 hl (by decide) rfl (fun ls hl => ?_)
  obtain ⟨o_9, o_10, o_11, o_12, o_13, o_14, o_15, o_16, hL_5, hF⟩ := bd8_u hF
  have lp_5 : ∀ (n : Nat) (k_1 : Int32) (k_2 : Int64) (px_3 : Nat → Int64) (py_4 : Nat → Int64) (co_5 : Int32) (lx_6 : Nat → Int64) (ly_7 : Nat → Int64) (lf_8 : Int32) (o_9 : Int32) (o_10 : Int64) (o_11 : Nat → Int64) (o_12 : Nat → Int64) (o_13 : Int32) (o_14 : Nat → Int64) (o_15 : Nat → Int64) (o_16 : Int32) (H : Heap) (locs : List Loc) (ls : Array Slot), L_X3_openOf_5 st a0 n k_1 k_2 px_3 py_4 co_5 lx_6 ly_7 lf_8 = some (o_9, o_10, o_11, o_12, o_13, o_14, o_15, o_16) → va_P (dC, dI) vwCl [(h0, .inr (3, [.ref ast, .ref aim, .ref akp, .ref awx, .ref awy, .ref apx, .ref apy, .int co_5, .ref alx, .ref aly, .int lf_8])), (ast, .inl (cI, 54, .inl st)), (aim, .inl (cI, 108, .inl im)), (akp, .inl (cZ, 2, .inl kp)), (awx, .inl (cI, 8, .inl wx)), (awy, .inl (cI, 8, .inl wy)), (apx, .inl (cJ, 300, .inr (.inl px_3))), (apy, .inl (cJ, 300, .inr (.inl py_4))), (alx, .inl (cJ, 300, .inr (.inl lx_6))), (aly, .inl (cJ, 300, .inr (.inl ly_7)))] H → va_D A [(h0, .inr (3, [.ref ast, .ref aim, .ref akp, .ref awx, .ref awy, .ref apx, .ref apy, .int co_5, .ref alx, .ref aly, .int lf_8])), (ast, .inl (cI, 54, .inl st)), (aim, .inl (cI, 108, .inl im)), (akp, .inl (cZ, 2, .inl kp)), (awx, .inl (cI, 8, .inl wx)), (awy, .inl (cI, 8, .inl wy)), (apx, .inl (cJ, 300, .inr (.inl px_3))), (apy, .inl (cJ, 300, .inr (.inl py_4))), (alx, .inl (cJ, 300, .inr (.inl lx_6))), (aly, .inl (cJ, 300, .inr (.inl ly_7)))] → va_S A s.heap H locs → lv_has ls 5 [(4, .int k_1), (2, .long k_2), (0, .ref h0), (1, .int a0)] → (∀ (H : Heap) (locs : List Loc) (ls : Array Slot), va_P (dC, dI) vwCl [(h0, .inr (3, [.ref ast, .ref aim, .ref akp, .ref awx, .ref awy, .ref apx, .ref apy, .int o_13, .ref alx, .ref aly, .int o_16])), (ast, .inl (cI, 54, .inl st)), (aim, .inl (cI, 108, .inl im)), (akp, .inl (cZ, 2, .inl kp)), (awx, .inl (cI, 8, .inl wx)), (awy, .inl (cI, 8, .inl wy)), (apx, .inl (cJ, 300, .inr (.inl o_11))), (apy, .inl (cJ, 300, .inr (.inl o_12))), (alx, .inl (cJ, 300, .inr (.inl o_14))), (aly, .inl (cJ, 300, .inr (.inl o_15)))] H → va_D A [(h0, .inr (3, [.ref ast, .ref aim, .ref akp, .ref awx, .ref awy, .ref apx, .ref apy, .int o_13, .ref alx, .ref aly, .int o_16])), (ast, .inl (cI, 54, .inl st)), (aim, .inl (cI, 108, .inl im)), (akp, .inl (cZ, 2, .inl kp)), (awx, .inl (cI, 8, .inl wx)), (awy, .inl (cI, 8, .inl wy)), (apx, .inl (cJ, 300, .inr (.inl o_11))), (apy, .inl (cJ, 300, .inr (.inl o_12))), (alx, .inl (cJ, 300, .inr (.inl o_14))), (aly, .inl (cJ, 300, .inr (.inl o_15)))] → va_S A s.heap H locs → lv_has ls 5 [(4, .int o_9), (2, .long o_10), (0, .ref h0), (1, .int a0)] → W p l e rm_X3_openOf s m args below meth c H locs 0 0 Q (F0 m 31 ls [])) → W p l e rm_X3_openOf s m args below meth c H locs 0 0 Q (F0 m 5 ls []) := by
    intro n
    induction n with
    | zero =>
      intro k_1 k_2 px_3 py_4 co_5 lx_6 ly_7 lf_8 o_9 o_10 o_11 o_12 o_13 o_14 o_15 o_16 H locs ls hF
      exact nn ((rfl : L_X3_openOf_5 st a0 0 k_1 k_2 px_3 py_4 co_5 lx_6 ly_7 lf_8 = none).symm.trans hF)
    | succ n ih_5 =>
      intro k_1 k_2 px_3 py_4 co_5 lx_6 ly_7 lf_8 o_9 o_10 o_11 o_12 o_13 o_14 o_15 o_16 H locs ls hF hP hD hS hl kx_5
      have hF := (L_X3_openOf_5_s st a0 n k_1 k_2 px_3 py_4 co_5 lx_6 ly_7 lf_8).symm.trans hF
      refine lv_iload hx hb dX3_openOf_5 (lv_at hl 0 rfl) ?_
      refine lv_iconst (v := 3) hx hb dX3_openOf_7 (by decide) ?_
      refine lv_icmp_ge (tgt := 31) hx hb dX3_openOf_8 (by decide) (fun c_17 => ?_) (fun c_17 => ?_)
      · have hF := br1 hF c_17
        obtain ⟨rfl, rfl, rfl, rfl, rfl, rfl, rfl, rfl⟩ := tp8 hF
        exact kx_5 _ _ ls hP hD hS hl
      · have hF := br0 hF c_17
        refine lv_lload_n hx hb dX3_openOf_11 rfl (lv_at hl 1 rfl) ?_
        refine lv_ldc2 (v := 498960) hx hb hown (hts (.constantLong RX3 111 (498960)) (by decide +kernel)) dX3_openOf_12 ?_
        refine lv_aload_n hx hb dX3_openOf_15 rfl (lv_at hl 2 rfl) ?_
        refine lv_iload hx hb dX3_openOf_16 (lv_at hl 0 rfl) ?_
        refine lv_iload_n hx hb dX3_openOf_18 rfl (lv_at hl 3 rfl) ?_
        obtain ⟨r_18, px_19, py_20, co_21, lx_22, ly_23, lf_24, hr_24, hF⟩ := bd7_u hF
        have hPc := hP.sub (ws' := [(h0, .inr (3, [.ref ast, .ref aim, .ref akp, .ref awx, .ref awy, .ref apx, .ref apy, .int co_5, .ref alx, .ref aly, .int lf_8])), (ast, .inl (cI, 54, .inl st)), (aim, .inl (cI, 108, .inl im)), (akp, .inl (cZ, 2, .inl kp)), (awx, .inl (cI, 8, .inl wx)), (awy, .inl (cI, 8, .inl wy)), (apx, .inl (cJ, 300, .inr (.inl px_3))), (apy, .inl (cJ, 300, .inr (.inl py_4))), (alx, .inl (cJ, 300, .inr (.inl lx_6))), (aly, .inl (cJ, 300, .inr (.inl ly_7)))]) [0, 1, 2, 3, 4, 5, 6, 7, 8, 9] rfl
        have hKc := hK.sub (tys' := [(cI, .int), (cZ, .boolean), (cJ, .long)]) [0, 1, 2] rfl
        have hDc := hD.sub (ws' := [(h0, .inr (3, [.ref ast, .ref aim, .ref akp, .ref awx, .ref awy, .ref apx, .ref apy, .int co_5, .ref alx, .ref aly, .int lf_8])), (ast, .inl (cI, 54, .inl st)), (aim, .inl (cI, 108, .inl im)), (akp, .inl (cZ, 2, .inl kp)), (awx, .inl (cI, 8, .inl wx)), (awy, .inl (cI, 8, .inl wy)), (apx, .inl (cJ, 300, .inr (.inl px_3))), (apy, .inl (cJ, 300, .inr (.inl py_4))), (alx, .inl (cJ, 300, .inr (.inl lx_6))), (aly, .inl (cJ, 300, .inr (.inl ly_7)))]) [0, 1, 2, 3, 4, 5, 6, 7, 8, 9] (by decide) rfl
        have hFc := va_free (wc := [(h0, .inr (3, [.ref ast, .ref aim, .ref akp, .ref awx, .ref awy, .ref apx, .ref apy, .int co_5, .ref alx, .ref aly, .int lf_8])), (ast, .inl (cI, 54, .inl st)), (aim, .inl (cI, 108, .inl im)), (akp, .inl (cZ, 2, .inl kp)), (awx, .inl (cI, 8, .inl wx)), (awy, .inl (cI, 8, .inl wy)), (apx, .inl (cJ, 300, .inr (.inl px_3))), (apy, .inl (cJ, 300, .inr (.inl py_4))), (alx, .inl (cJ, 300, .inr (.inl lx_6))), (aly, .inl (cJ, 300, .inr (.inl ly_7)))]) hD hS hA [0, 1, 2, 3, 4, 5, 6, 7, 8, 9] rfl
        refine va_calll (va_runV (As := [.int k_1, .int a0]) (rest := [.long (498960 : Int64), .long k_2]) ⟨hx, hb, hml, hown, hts⟩ (c_X3_coverOf l dC dI h0 ast aim akp awx awy apx apy alx aly cI cZ cJ H.size st im kp wx wy px_3 py_4 co_5 lx_6 ly_7 lf_8 k_1 a0 r_18 px_19 py_20 co_21 lx_22 ly_23 lf_24 hr_24) (cwV 2 hts gX3_openOf_X3_coverOf rfl rfl rfl (by decide +kernel) ⟨Nat.le_of_ble_eq_true rfl, Nat.le_of_ble_eq_true rfl⟩) ⟨fun a U g mk q => ⟨q.1, q.2.1, q.2.2.1, va_K.moved (u := U) (U := U.calling g mk a) (Vm.Alike.refl U.vm) q.2.2.2.1, q.2.2.2.2⟩, va_recv hKc hPc (ci := 3) (q0 := 0) rfl rfl, fun U hU hW => ⟨rfl, by rw [hU], by rw [hU]; exact hPc, va_K.moved hW.alike hKc, hDc.weaken (fun _ _ _ _ => trivial)⟩⟩ rfl rfl hl.1 rfl (lv_room (Nat.le_of_ble_eq_true rfl)) dX3_openOf_19 ⟨Nat.le_of_ble_eq_true rfl, Nat.le_of_ble_eq_true rfl⟩) hS (fun q _ h => hFc q h) hFc (fun r_18' _ t H1 locs ht hvm hw hB hz1 hk1 hS => ?_)
        obtain ⟨hP1, hK1, hD1⟩ := hB
        rw [ht] at hP1
        obtain rfl := hw.symm
        obtain ⟨hP, hD⟩ := va_join (wr := []) (w1 := [(h0, .inr (3, [.ref ast, .ref aim, .ref akp, .ref awx, .ref awy, .ref apx, .ref apy, .int co_21, .ref alx, .ref aly, .int lf_24])), (ast, .inl (cI, 54, .inl st)), (aim, .inl (cI, 108, .inl im)), (akp, .inl (cZ, 2, .inl kp)), (awx, .inl (cI, 8, .inl wx)), (awy, .inl (cI, 8, .inl wy)), (apx, .inl (cJ, 300, .inr (.inl px_19))), (apy, .inl (cJ, 300, .inr (.inl py_20))), (alx, .inl (cJ, 300, .inr (.inl lx_22))), (aly, .inl (cJ, 300, .inr (.inl ly_23)))]) hP hD [0, 1, 2, 3, 4, 5, 6, 7, 8, 9] [] rfl rfl (by decide) (by decide) hk1 hFc hP1 hD1
        clear hP1 hK1 hD1 hk1 hFc
        generalize H1 = H at hP hS ⊢
        have hP : va_P (dC, dI) vwCl [(h0, .inr (3, [.ref ast, .ref aim, .ref akp, .ref awx, .ref awy, .ref apx, .ref apy, .int co_21, .ref alx, .ref aly, .int lf_24])), (ast, .inl (cI, 54, .inl st)), (aim, .inl (cI, 108, .inl im)), (akp, .inl (cZ, 2, .inl kp)), (awx, .inl (cI, 8, .inl wx)), (awy, .inl (cI, 8, .inl wy)), (apx, .inl (cJ, 300, .inr (.inl px_19))), (apy, .inl (cJ, 300, .inr (.inl py_20))), (alx, .inl (cJ, 300, .inr (.inl lx_22))), (aly, .inl (cJ, 300, .inr (.inl ly_23)))] H := hP
        have hD : va_D A [(h0, .inr (3, [.ref ast, .ref aim, .ref akp, .ref awx, .ref awy, .ref apx, .ref apy, .int co_21, .ref alx, .ref aly, .int lf_24])), (ast, .inl (cI, 54, .inl st)), (aim, .inl (cI, 108, .inl im)), (akp, .inl (cZ, 2, .inl kp)), (awx, .inl (cI, 8, .inl wx)), (awy, .inl (cI, 8, .inl wy)), (apx, .inl (cJ, 300, .inr (.inl px_19))), (apy, .inl (cJ, 300, .inr (.inl py_20))), (alx, .inl (cJ, 300, .inr (.inl lx_22))), (aly, .inl (cJ, 300, .inr (.inl ly_23)))] := hD
        refine lv_lsub hx hb dX3_openOf_22 ?_
        refine lv_lmul hx hb dX3_openOf_23 ?_
        refine lv_topl (fun v_25 ev_25 => ?_)
        have hF := nm_u hF ev_25
        refine lv_lstore_n (lv' := [(2, .long v_25), (4, .int k_1), (0, .ref h0), (1, .int a0)]) hx hb dX3_openOf_24 rfl hl (by decide) rfl (fun ls hl => ?_)
        refine lv_iinc (v := (k_1 + (1 : Int32))) (lv' := [(4, .int (k_1 + (1 : Int32))), (2, .long v_25), (0, .ref h0), (1, .int a0)]) hx hb dX3_openOf_25 hl (k := 1) rfl rfl (by decide) rfl (fun ls hl => ?_)
        refine lv_goto (tgt := 5) hx hb dX3_openOf_28 (by decide) ?_
        exact ih_5 _ _ _ _ _ _ _ _ _ _ _ _ _ _ _ _ _ _ ls hF hP hD hS hl kx_5
  refine lp_5 1000 (0 : Int32) (1 : Int64) px py co lx ly lf o_9 o_10 o_11 o_12 o_13 o_14 o_15 o_16 _ _ ls hL_5 hP hD hS hl (fun H locs ls hP hD hS hl => ?_)
  refine lv_lload_n hx hb dX3_openOf_31 rfl (lv_at hl 1 rfl) ?_
  obtain ⟨e0, rfl, rfl, rfl, rfl, rfl, rfl⟩ := tp7 hF
  rw [← hQ]
  exact W.lret (v := o_10) hx hb hr (fun t ht hW => ⟨⟨_, (), rfl, e0, by rw [ht]; exact hP, va_K.moved hW.alike hK, hD⟩, hS.F ht⟩) hS.2.2 dX3_openOf_32

def P_X3_together (a0 : Int32) (a1 : Int32) (st : Nat → Int32) (px : Nat → Int64) (py : Nat → Int64) (co : Int32) (lx : Nat → Int64) (ly : Nat → Int64) (lf : Int32) : Option (Int64 × (Nat → Int64) × (Nat → Int64) × Int32 × (Nat → Int64) × (Nat → Int64) × Int32) :=
  bd1 (P_X3_isDot a0) (fun r_1 =>
  if r_1 = (0 : Int32) then
    some ((-1 : Int64), px, py, co, lx, ly, lf)
  else
    bd1 (P_X3_isPart a1) (fun r_3 =>
    if r_3 = (0 : Int32) then
      some ((-2 : Int64), px, py, co, lx, ly, lf)
    else
      bd1 (P_X3_whole) (fun r_5 =>
      bd7 (P_X3_openOf a0 st px py co lx ly lf) (fun r_6 px_7 py_8 co_9 lx_10 ly_11 lf_12 =>
      bd1 (P_X3_whole) (fun r_13 =>
      bd1 (P_X3_told (r_5 - r_6) r_13 a1) (fun r_14 =>
      some (r_14, px_7, py_8, co_9, lx_10, ly_11, lf_12)))))))

def rm_X3_together : Room := { frames := 7, cells := 0, slots := 0, locals := 180 }

set_option maxHeartbeats 4000000 in
set_option maxRecDepth 100000 in
theorem c_X3_together (l : Launch) (dC : Nat → ClassId) (dI : Nat → Nat → Nat) (h0 ast aim akp awx awy apx apy alx aly : Nat) (cI cZ cJ : ClassId) (hsz0 : Nat) (st : Nat → Int32) (im : Nat → Int32) (kp : Nat → Int32) (wx : Nat → Int32) (wy : Nat → Int32) (px : Nat → Int64) (py : Nat → Int64) (co : Int32) (lx : Nat → Int64) (ly : Nat → Int64) (lf : Int32) (a0 : Int32) (a1 : Int32) (r0 : Int64) (pxN : Nat → Int64) (pyN : Nat → Int64) (coN : Int32) (lxN : Nat → Int64) (lyN : Nat → Int64) (lfN : Int32) (hF : P_X3_together a0 a1 st px py co lx ly lf = some (r0, pxN, pyN, coN, lxN, lyN, lfN)) : Met l yX3_together wsX3_together rm_X3_together (va_Pc [.ref h0, .int a0, .int a1] (fun U => U.heap.size = hsz0 ∧ va_P (dC, dI) vwCl [(h0, .inr (3, [.ref ast, .ref aim, .ref akp, .ref awx, .ref awy, .ref apx, .ref apy, .int co, .ref alx, .ref aly, .int lf])), (ast, .inl (cI, 54, .inl st)), (aim, .inl (cI, 108, .inl im)), (akp, .inl (cZ, 2, .inl kp)), (awx, .inl (cI, 8, .inl wx)), (awy, .inl (cI, 8, .inl wy)), (apx, .inl (cJ, 300, .inr (.inl px))), (apy, .inl (cJ, 300, .inr (.inl py))), (alx, .inl (cJ, 300, .inr (.inl lx))), (aly, .inl (cJ, 300, .inr (.inl ly)))] U.heap ∧ va_K (dC, dI) vwCl [(cI, .int), (cZ, .boolean), (cJ, .long)] U ∧ va_D (fun _ => True) [(h0, .inr (3, [.ref ast, .ref aim, .ref akp, .ref awx, .ref awy, .ref apx, .ref apy, .int co, .ref alx, .ref aly, .int lf])), (ast, .inl (cI, 54, .inl st)), (aim, .inl (cI, 108, .inl im)), (akp, .inl (cZ, 2, .inl kp)), (awx, .inl (cI, 8, .inl wx)), (awy, .inl (cI, 8, .inl wy)), (apx, .inl (cJ, 300, .inr (.inl px))), (apy, .inl (cJ, 300, .inr (.inl py))), (alx, .inl (cJ, 300, .inr (.inl lx))), (aly, .inl (cJ, 300, .inr (.inl ly)))])) (va_Ql (fun (r : Int64) (_ : Unit) => r = r0) (fun _ t => va_P (dC, dI) vwCl [(h0, .inr (3, [.ref ast, .ref aim, .ref akp, .ref awx, .ref awy, .ref apx, .ref apy, .int coN, .ref alx, .ref aly, .int lfN])), (ast, .inl (cI, 54, .inl st)), (aim, .inl (cI, 108, .inl im)), (akp, .inl (cZ, 2, .inl kp)), (awx, .inl (cI, 8, .inl wx)), (awy, .inl (cI, 8, .inl wy)), (apx, .inl (cJ, 300, .inr (.inl pxN))), (apy, .inl (cJ, 300, .inr (.inl pyN))), (alx, .inl (cJ, 300, .inr (.inl lxN))), (aly, .inl (cJ, 300, .inr (.inl lyN)))] t.heap ∧ va_K (dC, dI) vwCl [(cI, .int), (cZ, .boolean), (cJ, .long)] t ∧ va_D (va_A [(h0, .inr (3, [.ref ast, .ref aim, .ref akp, .ref awx, .ref awy, .ref apx, .ref apy, .int co, .ref alx, .ref aly, .int lf])), (ast, .inl (cI, 54, .inl st)), (aim, .inl (cI, 108, .inl im)), (akp, .inl (cZ, 2, .inl kp)), (awx, .inl (cI, 8, .inl wx)), (awy, .inl (cI, 8, .inl wy)), (apx, .inl (cJ, 300, .inr (.inl px))), (apy, .inl (cJ, 300, .inr (.inl py))), (alx, .inl (cJ, 300, .inr (.inl lx))), (aly, .inl (cJ, 300, .inr (.inl ly)))] hsz0) [(h0, .inr (3, [.ref ast, .ref aim, .ref akp, .ref awx, .ref awy, .ref apx, .ref apy, .int coN, .ref alx, .ref aly, .int lfN])), (ast, .inl (cI, 54, .inl st)), (aim, .inl (cI, 108, .inl im)), (akp, .inl (cZ, 2, .inl kp)), (awx, .inl (cI, 8, .inl wx)), (awy, .inl (cI, 8, .inl wy)), (apx, .inl (cJ, 300, .inr (.inl pxN))), (apy, .inl (cJ, 300, .inr (.inl pyN))), (alx, .inl (cJ, 300, .inr (.inl lxN))), (aly, .inl (cJ, 300, .inr (.inl lyN)))]) (va_A [(h0, .inr (3, [.ref ast, .ref aim, .ref akp, .ref awx, .ref awy, .ref apx, .ref apy, .int co, .ref alx, .ref aly, .int lf])), (ast, .inl (cI, 54, .inl st)), (aim, .inl (cI, 108, .inl im)), (akp, .inl (cZ, 2, .inl kp)), (awx, .inl (cI, 8, .inl wx)), (awy, .inl (cI, 8, .inl wy)), (apx, .inl (cJ, 300, .inr (.inl px))), (apy, .inl (cJ, 300, .inr (.inl py))), (alx, .inl (cJ, 300, .inr (.inl lx))), (aly, .inl (cJ, 300, .inr (.inl ly)))] hsz0)) 0 0 (va_A [(h0, .inr (3, [.ref ast, .ref aim, .ref akp, .ref awx, .ref awy, .ref apx, .ref apy, .int co, .ref alx, .ref aly, .int lf])), (ast, .inl (cI, 54, .inl st)), (aim, .inl (cI, 108, .inl im)), (akp, .inl (cZ, 2, .inl kp)), (awx, .inl (cI, 8, .inl wx)), (awy, .inl (cI, 8, .inl wy)), (apx, .inl (cJ, 300, .inr (.inl px))), (apy, .inl (cJ, 300, .inr (.inl py))), (alx, .inl (cJ, 300, .inr (.inl lx))), (aly, .inl (cJ, 300, .inr (.inl ly)))] hsz0) := by
  refine Met.ofW (cc := cX3_together) (maxL := 3) (ret := (some .long)) (by decide) rfl ?_
  intro p e s m args below meth c s₁ B hml hv
  change W p l e rm_X3_together s m args below meth c s.heap [] 0 0 _ _
  obtain ⟨hv, hsz, hP, hK, hD0⟩ := hv
  have hx := B.exec
  have hb := B.bytes
  have hr := B.returns
  have hts := atoms_spec (ws := wsX3_together) B.pre
  have hown : s.vm.findClass RX3 = some m.cls := findClass_of_methodNamed B.named
  have hlocks := B.notSynchronized
  subst hsz
  have hD := hD0.self (sz := s.heap.size)
  generalize hAe : va_A [(h0, .inr (3, [.ref ast, .ref aim, .ref akp, .ref awx, .ref awy, .ref apx, .ref apy, .int co, .ref alx, .ref aly, .int lf])), (ast, .inl (cI, 54, .inl st)), (aim, .inl (cI, 108, .inl im)), (akp, .inl (cZ, 2, .inl kp)), (awx, .inl (cI, 8, .inl wx)), (awy, .inl (cI, 8, .inl wy)), (apx, .inl (cJ, 300, .inr (.inl px))), (apy, .inl (cJ, 300, .inr (.inl py))), (alx, .inl (cJ, 300, .inr (.inl lx))), (aly, .inl (cJ, 300, .inr (.inl ly)))] s.heap.size = A at hD ⊢
  have hA : ∀ q : Nat, s.heap.size ≤ q → A q := fun q h => by rw [← hAe]; exact Or.inr h
  have hS : va_S A s.heap s.heap [] := va_S.rf
  generalize hQ : MQ below (va_Ql (fun (r : Int64) (_ : Unit) => r = r0) (fun _ t => va_P (dC, dI) vwCl [(h0, .inr (3, [.ref ast, .ref aim, .ref akp, .ref awx, .ref awy, .ref apx, .ref apy, .int coN, .ref alx, .ref aly, .int lfN])), (ast, .inl (cI, 54, .inl st)), (aim, .inl (cI, 108, .inl im)), (akp, .inl (cZ, 2, .inl kp)), (awx, .inl (cI, 8, .inl wx)), (awy, .inl (cI, 8, .inl wy)), (apx, .inl (cJ, 300, .inr (.inl pxN))), (apy, .inl (cJ, 300, .inr (.inl pyN))), (alx, .inl (cJ, 300, .inr (.inl lxN))), (aly, .inl (cJ, 300, .inr (.inl lyN)))] t.heap ∧ va_K (dC, dI) vwCl [(cI, .int), (cZ, .boolean), (cJ, .long)] t ∧ va_D A [(h0, .inr (3, [.ref ast, .ref aim, .ref akp, .ref awx, .ref awy, .ref apx, .ref apy, .int coN, .ref alx, .ref aly, .int lfN])), (ast, .inl (cI, 54, .inl st)), (aim, .inl (cI, 108, .inl im)), (akp, .inl (cZ, 2, .inl kp)), (awx, .inl (cI, 8, .inl wx)), (awy, .inl (cI, 8, .inl wy)), (apx, .inl (cJ, 300, .inr (.inl pxN))), (apy, .inl (cJ, 300, .inr (.inl pyN))), (alx, .inl (cJ, 300, .inr (.inl lxN))), (aly, .inl (cJ, 300, .inr (.inl lyN)))]) A) args s 0 0 A = Q
  have hl := lv_entry ([.ref h0, .int a0, .int a1]) (n := 3) (Nat.le_of_ble_eq_true rfl)
  have hE : entryFrame m args 3 = F0 m 0 ((lg_sl ([.ref h0, .int a0, .int a1]) ++ List.replicate (3 - (lg_sl ([.ref h0, .int a0, .int a1])).length) Slot.unset).toArray) [] := by rw [hv]; exact lg_entry_eq m _ 3
  rw [hE]
  generalize (lg_sl ([.ref h0, .int a0, .int a1]) ++ List.replicate (3 - (lg_sl ([.ref h0, .int a0, .int a1])).length) Slot.unset).toArray = ls at hl ⊢
  have hl : lv_has ls 3 [(0, .ref h0), (1, .int a0), (2, .int a1)] := hl
  unfold P_X3_together at hF
  refine lv_iload_n hx hb dX3_together_0 rfl (lv_at hl 1 rfl) ?_
  obtain ⟨r_1, hr_1, hF⟩ := bd1_u hF
  refine vp_callSi (W.runS (As := [.int a0]) (rest := []) ⟨hx, hb, hml, hown, hts⟩ (c_X3_isDot l a0 r_1 hr_1) (va_cwS 1 hts gX3_together_X3_isDot rfl rfl rfl (by decide +kernel) ⟨Nat.le_of_ble_eq_true rfl, Nat.le_of_ble_eq_true rfl⟩) preEq rfl rfl hl.1 rfl (lv_room (Nat.le_of_ble_eq_true rfl)) dX3_together_1 ⟨Nat.le_of_ble_eq_true rfl, Nat.le_of_ble_eq_true rfl⟩) (fun r_1' qr_1 => ?_)
  obtain rfl := qr_1.symm
  refine lv_if_ne (tgt := 11) hx hb dX3_together_4 (by decide) (fun c_2 => ?_) (fun c_2 => ?_)
  · have hF := br0 hF c_2
    refine lv_iload_n hx hb dX3_together_11 rfl (lv_at hl 2 rfl) ?_
    obtain ⟨r_3, hr_3, hF⟩ := bd1_u hF
    refine vp_callSi (W.runS (As := [.int a1]) (rest := []) ⟨hx, hb, hml, hown, hts⟩ (c_X3_isPart l a1 r_3 hr_3) (va_cwS 1 hts gX3_together_X3_isPart rfl rfl rfl (by decide +kernel) ⟨Nat.le_of_ble_eq_true rfl, Nat.le_of_ble_eq_true rfl⟩) preEq rfl rfl hl.1 rfl (lv_room (Nat.le_of_ble_eq_true rfl)) dX3_together_12 ⟨Nat.le_of_ble_eq_true rfl, Nat.le_of_ble_eq_true rfl⟩) (fun r_3' qr_3 => ?_)
    obtain rfl := qr_3.symm
    refine lv_if_eq (tgt := 37) hx hb dX3_together_15 (by decide) (fun c_4 => ?_) (fun c_4 => ?_)
    · have hF := br1 hF c_4
      refine lv_ldc2 (v := -2) hx hb hown (hts (.constantLong RX3 142 (-2)) (by decide +kernel)) dX3_together_37 ?_
      obtain ⟨e0, rfl, rfl, rfl, rfl, rfl, rfl⟩ := tp7 hF
      rw [← hQ]
      exact W.lret (v := (-2 : Int64)) hx hb hr (fun t ht hW => ⟨⟨_, (), rfl, e0, by rw [ht]; exact hP, va_K.moved hW.alike hK, hD⟩, hS.F ht⟩) hS.2.2 dX3_together_40
    · have hF := br0 hF c_4
      obtain ⟨r_5, hr_5, hF⟩ := bd1_u hF
      refine vp_callSl (W.runS (As := []) (rest := []) ⟨hx, hb, hml, hown, hts⟩ (c_X3_whole l r_5 hr_5) (va_cwS 0 hts gX3_together_X3_whole rfl rfl rfl (by decide +kernel) ⟨Nat.le_of_ble_eq_true rfl, Nat.le_of_ble_eq_true rfl⟩) preEq rfl rfl hl.1 rfl (lv_room (Nat.le_of_ble_eq_true rfl)) dX3_together_18 ⟨Nat.le_of_ble_eq_true rfl, Nat.le_of_ble_eq_true rfl⟩) (fun r_5' qr_5 => ?_)
      obtain rfl := qr_5.symm
      refine lv_aload_n hx hb dX3_together_21 rfl (lv_at hl 0 rfl) ?_
      refine lv_iload_n hx hb dX3_together_22 rfl (lv_at hl 1 rfl) ?_
      obtain ⟨r_6, px_7, py_8, co_9, lx_10, ly_11, lf_12, hr_12, hF⟩ := bd7_u hF
      have hPc := hP.sub (ws' := [(h0, .inr (3, [.ref ast, .ref aim, .ref akp, .ref awx, .ref awy, .ref apx, .ref apy, .int co, .ref alx, .ref aly, .int lf])), (ast, .inl (cI, 54, .inl st)), (aim, .inl (cI, 108, .inl im)), (akp, .inl (cZ, 2, .inl kp)), (awx, .inl (cI, 8, .inl wx)), (awy, .inl (cI, 8, .inl wy)), (apx, .inl (cJ, 300, .inr (.inl px))), (apy, .inl (cJ, 300, .inr (.inl py))), (alx, .inl (cJ, 300, .inr (.inl lx))), (aly, .inl (cJ, 300, .inr (.inl ly)))]) [0, 1, 2, 3, 4, 5, 6, 7, 8, 9] rfl
      have hKc := hK.sub (tys' := [(cI, .int), (cZ, .boolean), (cJ, .long)]) [0, 1, 2] rfl
      have hDc := hD.sub (ws' := [(h0, .inr (3, [.ref ast, .ref aim, .ref akp, .ref awx, .ref awy, .ref apx, .ref apy, .int co, .ref alx, .ref aly, .int lf])), (ast, .inl (cI, 54, .inl st)), (aim, .inl (cI, 108, .inl im)), (akp, .inl (cZ, 2, .inl kp)), (awx, .inl (cI, 8, .inl wx)), (awy, .inl (cI, 8, .inl wy)), (apx, .inl (cJ, 300, .inr (.inl px))), (apy, .inl (cJ, 300, .inr (.inl py))), (alx, .inl (cJ, 300, .inr (.inl lx))), (aly, .inl (cJ, 300, .inr (.inl ly)))]) [0, 1, 2, 3, 4, 5, 6, 7, 8, 9] (by decide) rfl
      have hFc := va_free (wc := [(h0, .inr (3, [.ref ast, .ref aim, .ref akp, .ref awx, .ref awy, .ref apx, .ref apy, .int co, .ref alx, .ref aly, .int lf])), (ast, .inl (cI, 54, .inl st)), (aim, .inl (cI, 108, .inl im)), (akp, .inl (cZ, 2, .inl kp)), (awx, .inl (cI, 8, .inl wx)), (awy, .inl (cI, 8, .inl wy)), (apx, .inl (cJ, 300, .inr (.inl px))), (apy, .inl (cJ, 300, .inr (.inl py))), (alx, .inl (cJ, 300, .inr (.inl lx))), (aly, .inl (cJ, 300, .inr (.inl ly)))]) hD hS hA [0, 1, 2, 3, 4, 5, 6, 7, 8, 9] rfl
      refine va_calll (va_runV (As := [.int a0]) (rest := [.long r_5]) ⟨hx, hb, hml, hown, hts⟩ (c_X3_openOf l dC dI h0 ast aim akp awx awy apx apy alx aly cI cZ cJ s.heap.size st im kp wx wy px py co lx ly lf a0 r_6 px_7 py_8 co_9 lx_10 ly_11 lf_12 hr_12) (cwV 1 hts gX3_together_X3_openOf rfl rfl rfl (by decide +kernel) ⟨Nat.le_of_ble_eq_true rfl, Nat.le_of_ble_eq_true rfl⟩) ⟨fun a U g mk q => ⟨q.1, q.2.1, q.2.2.1, va_K.moved (u := U) (U := U.calling g mk a) (Vm.Alike.refl U.vm) q.2.2.2.1, q.2.2.2.2⟩, va_recv hKc hPc (ci := 3) (q0 := 0) rfl rfl, fun U hU hW => ⟨rfl, by rw [hU], by rw [hU]; exact hPc, va_K.moved hW.alike hKc, hDc.weaken (fun _ _ _ _ => trivial)⟩⟩ rfl rfl hl.1 rfl (lv_room (Nat.le_of_ble_eq_true rfl)) dX3_together_23 ⟨Nat.le_of_ble_eq_true rfl, Nat.le_of_ble_eq_true rfl⟩) hS (fun q _ h => hFc q h) hFc (fun r_6' _ t H1 locs ht hvm hw hB hz1 hk1 hS => ?_)
      obtain ⟨hP1, hK1, hD1⟩ := hB
      rw [ht] at hP1
      obtain rfl := hw.symm
      obtain ⟨hP, hD⟩ := va_join (wr := []) (w1 := [(h0, .inr (3, [.ref ast, .ref aim, .ref akp, .ref awx, .ref awy, .ref apx, .ref apy, .int co_9, .ref alx, .ref aly, .int lf_12])), (ast, .inl (cI, 54, .inl st)), (aim, .inl (cI, 108, .inl im)), (akp, .inl (cZ, 2, .inl kp)), (awx, .inl (cI, 8, .inl wx)), (awy, .inl (cI, 8, .inl wy)), (apx, .inl (cJ, 300, .inr (.inl px_7))), (apy, .inl (cJ, 300, .inr (.inl py_8))), (alx, .inl (cJ, 300, .inr (.inl lx_10))), (aly, .inl (cJ, 300, .inr (.inl ly_11)))]) hP hD [0, 1, 2, 3, 4, 5, 6, 7, 8, 9] [] rfl rfl (by decide) (by decide) hk1 hFc hP1 hD1
      clear hP1 hK1 hD1 hk1 hFc
      generalize H1 = H at hP hS ⊢
      have hP : va_P (dC, dI) vwCl [(h0, .inr (3, [.ref ast, .ref aim, .ref akp, .ref awx, .ref awy, .ref apx, .ref apy, .int co_9, .ref alx, .ref aly, .int lf_12])), (ast, .inl (cI, 54, .inl st)), (aim, .inl (cI, 108, .inl im)), (akp, .inl (cZ, 2, .inl kp)), (awx, .inl (cI, 8, .inl wx)), (awy, .inl (cI, 8, .inl wy)), (apx, .inl (cJ, 300, .inr (.inl px_7))), (apy, .inl (cJ, 300, .inr (.inl py_8))), (alx, .inl (cJ, 300, .inr (.inl lx_10))), (aly, .inl (cJ, 300, .inr (.inl ly_11)))] H := hP
      have hD : va_D A [(h0, .inr (3, [.ref ast, .ref aim, .ref akp, .ref awx, .ref awy, .ref apx, .ref apy, .int co_9, .ref alx, .ref aly, .int lf_12])), (ast, .inl (cI, 54, .inl st)), (aim, .inl (cI, 108, .inl im)), (akp, .inl (cZ, 2, .inl kp)), (awx, .inl (cI, 8, .inl wx)), (awy, .inl (cI, 8, .inl wy)), (apx, .inl (cJ, 300, .inr (.inl px_7))), (apy, .inl (cJ, 300, .inr (.inl py_8))), (alx, .inl (cJ, 300, .inr (.inl lx_10))), (aly, .inl (cJ, 300, .inr (.inl ly_11)))] := hD
      refine lv_lsub hx hb dX3_together_26 ?_
      obtain ⟨r_13, hr_13, hF⟩ := bd1_u hF
      refine vp_callSl (W.runS (As := []) (rest := [.long (r_5 - r_6)]) ⟨hx, hb, hml, hown, hts⟩ (c_X3_whole l r_13 hr_13) (va_cwS 0 hts gX3_together_X3_whole rfl rfl rfl (by decide +kernel) ⟨Nat.le_of_ble_eq_true rfl, Nat.le_of_ble_eq_true rfl⟩) preEq rfl rfl hl.1 rfl (lv_room (Nat.le_of_ble_eq_true rfl)) dX3_together_27 ⟨Nat.le_of_ble_eq_true rfl, Nat.le_of_ble_eq_true rfl⟩) (fun r_13' qr_13 => ?_)
      obtain rfl := qr_13.symm
      refine lv_iload_n hx hb dX3_together_30 rfl (lv_at hl 2 rfl) ?_
      obtain ⟨r_14, hr_14, hF⟩ := bd1_u hF
      refine vp_callSl (W.runS (As := [.long (r_5 - r_6), .long r_13, .int a1]) (rest := []) ⟨hx, hb, hml, hown, hts⟩ (c_X3_told l (r_5 - r_6) r_13 a1 r_14 hr_14) (va_cwS 3 hts gX3_together_X3_told rfl rfl rfl (by decide +kernel) ⟨Nat.le_of_ble_eq_true rfl, Nat.le_of_ble_eq_true rfl⟩) preEq rfl rfl hl.1 rfl (lv_room (Nat.le_of_ble_eq_true rfl)) dX3_together_31 ⟨Nat.le_of_ble_eq_true rfl, Nat.le_of_ble_eq_true rfl⟩) (fun r_14' qr_14 => ?_)
      obtain rfl := qr_14.symm
      refine lv_goto (tgt := 40) hx hb dX3_together_34 (by decide) ?_
      obtain ⟨e0, rfl, rfl, rfl, rfl, rfl, rfl⟩ := tp7 hF
      rw [← hQ]
      exact W.lret (v := r_14) hx hb hr (fun t ht hW => ⟨⟨_, (), rfl, e0, by rw [ht]; exact hP, va_K.moved hW.alike hK, hD⟩, hS.F ht⟩) hS.2.2 dX3_together_40
  · have hF := br1 hF c_2
    refine lv_ldc2 (v := -1) hx hb hown (hts (.constantLong RX3 136 (-1)) (by decide +kernel)) dX3_together_7 ?_
    obtain ⟨e0, rfl, rfl, rfl, rfl, rfl, rfl⟩ := tp7 hF
    rw [← hQ]
    exact W.lret (v := (-1 : Int64)) hx hb hr (fun t ht hW => ⟨⟨_, (), rfl, e0, by rw [ht]; exact hP, va_K.moved hW.alike hK, hD⟩, hS.F ht⟩) hS.2.2 dX3_together_10

def L_X3_area_27 (st : Nat → Int32) (a0 : Int32) : Nat → Int32 → Int64 → (Nat → Int64) → (Nat → Int64) → Int32 → (Nat → Int64) → (Nat → Int64) → Int32 → Option (Int32 × Int64 × (Nat → Int64) × (Nat → Int64) × Int32 × (Nat → Int64) × (Nat → Int64) × Int32)
  | 0, _, _, _, _, _, _, _, _ => none
  | n + 1, k_5, k_6, px_7, py_8, co_9, lx_10, ly_11, lf_12 =>
    if (16 : Int32) ≤ k_5 then
      some (k_5, k_6, px_7, py_8, co_9, lx_10, ly_11, lf_12)
    else
      bd7 (P_X3_rawOf a0 k_5 (0 : Int32) (0 : Int32) st px_7 py_8 lx_10 ly_11) (fun r_22 px_23 py_24 co_25 lx_26 ly_27 lf_28 =>
      nm (k_6 + r_22) (fun v_29 =>
      L_X3_area_27 st a0 n (k_5 + (1 : Int32)) v_29 px_23 py_24 co_25 lx_26 ly_27 lf_28))
theorem L_X3_area_27_s (st : Nat → Int32) (a0 : Int32) (n : Nat) (k_5 : Int32) (k_6 : Int64) (px_7 : Nat → Int64) (py_8 : Nat → Int64) (co_9 : Int32) (lx_10 : Nat → Int64) (ly_11 : Nat → Int64) (lf_12 : Int32) : L_X3_area_27 st a0 (n + 1) k_5 k_6 px_7 py_8 co_9 lx_10 ly_11 lf_12 =
    (if (16 : Int32) ≤ k_5 then
      some (k_5, k_6, px_7, py_8, co_9, lx_10, ly_11, lf_12)
    else
      bd7 (P_X3_rawOf a0 k_5 (0 : Int32) (0 : Int32) st px_7 py_8 lx_10 ly_11) (fun r_22 px_23 py_24 co_25 lx_26 ly_27 lf_28 =>
      nm (k_6 + r_22) (fun v_29 =>
      L_X3_area_27 st a0 n (k_5 + (1 : Int32)) v_29 px_23 py_24 co_25 lx_26 ly_27 lf_28))) := rfl

def P_X3_area (a0 : Int32) (a1 : Int32) (st : Nat → Int32) (px : Nat → Int64) (py : Nat → Int64) (co : Int32) (lx : Nat → Int64) (ly : Nat → Int64) (lf : Int32) : Option (Int64 × (Nat → Int64) × (Nat → Int64) × Int32 × (Nat → Int64) × (Nat → Int64) × Int32) :=
  bd1 (P_X3_isLayer a0) (fun r_1 =>
  if r_1 = (0 : Int32) then
    some ((-1000000000000000001 : Int64), px, py, co, lx, ly, lf)
  else
    bd1 (P_X3_isPart a1) (fun r_3 =>
    if r_3 = (0 : Int32) then
      some ((-1000000000000000002 : Int64), px, py, co, lx, ly, lf)
    else
      bd8 (L_X3_area_27 st a0 1000 (0 : Int32) (0 : Int64) px py co lx ly lf) (fun o_13 o_14 o_15 o_16 o_17 o_18 o_19 o_20 =>
      bd1 (P_X3_told ((9 : Int64) * o_14) (498960 : Int64) a1) (fun r_30 =>
      some (r_30, o_15, o_16, o_17, o_18, o_19, o_20)))))

def rm_X3_area : Room := { frames := 4, cells := 0, slots := 0, locals := 106 }

set_option maxHeartbeats 4000000 in
set_option maxRecDepth 100000 in
theorem c_X3_area (l : Launch) (dC : Nat → ClassId) (dI : Nat → Nat → Nat) (h0 ast aim akp awx awy apx apy alx aly : Nat) (cI cZ cJ : ClassId) (hsz0 : Nat) (st : Nat → Int32) (im : Nat → Int32) (kp : Nat → Int32) (wx : Nat → Int32) (wy : Nat → Int32) (px : Nat → Int64) (py : Nat → Int64) (co : Int32) (lx : Nat → Int64) (ly : Nat → Int64) (lf : Int32) (a0 : Int32) (a1 : Int32) (r0 : Int64) (pxN : Nat → Int64) (pyN : Nat → Int64) (coN : Int32) (lxN : Nat → Int64) (lyN : Nat → Int64) (lfN : Int32) (hF : P_X3_area a0 a1 st px py co lx ly lf = some (r0, pxN, pyN, coN, lxN, lyN, lfN)) : Met l yX3_area wsX3_area rm_X3_area (va_Pc [.ref h0, .int a0, .int a1] (fun U => U.heap.size = hsz0 ∧ va_P (dC, dI) vwCl [(h0, .inr (3, [.ref ast, .ref aim, .ref akp, .ref awx, .ref awy, .ref apx, .ref apy, .int co, .ref alx, .ref aly, .int lf])), (ast, .inl (cI, 54, .inl st)), (aim, .inl (cI, 108, .inl im)), (akp, .inl (cZ, 2, .inl kp)), (awx, .inl (cI, 8, .inl wx)), (awy, .inl (cI, 8, .inl wy)), (apx, .inl (cJ, 300, .inr (.inl px))), (apy, .inl (cJ, 300, .inr (.inl py))), (alx, .inl (cJ, 300, .inr (.inl lx))), (aly, .inl (cJ, 300, .inr (.inl ly)))] U.heap ∧ va_K (dC, dI) vwCl [(cI, .int), (cZ, .boolean), (cJ, .long)] U ∧ va_D (fun _ => True) [(h0, .inr (3, [.ref ast, .ref aim, .ref akp, .ref awx, .ref awy, .ref apx, .ref apy, .int co, .ref alx, .ref aly, .int lf])), (ast, .inl (cI, 54, .inl st)), (aim, .inl (cI, 108, .inl im)), (akp, .inl (cZ, 2, .inl kp)), (awx, .inl (cI, 8, .inl wx)), (awy, .inl (cI, 8, .inl wy)), (apx, .inl (cJ, 300, .inr (.inl px))), (apy, .inl (cJ, 300, .inr (.inl py))), (alx, .inl (cJ, 300, .inr (.inl lx))), (aly, .inl (cJ, 300, .inr (.inl ly)))])) (va_Ql (fun (r : Int64) (_ : Unit) => r = r0) (fun _ t => va_P (dC, dI) vwCl [(h0, .inr (3, [.ref ast, .ref aim, .ref akp, .ref awx, .ref awy, .ref apx, .ref apy, .int coN, .ref alx, .ref aly, .int lfN])), (ast, .inl (cI, 54, .inl st)), (aim, .inl (cI, 108, .inl im)), (akp, .inl (cZ, 2, .inl kp)), (awx, .inl (cI, 8, .inl wx)), (awy, .inl (cI, 8, .inl wy)), (apx, .inl (cJ, 300, .inr (.inl pxN))), (apy, .inl (cJ, 300, .inr (.inl pyN))), (alx, .inl (cJ, 300, .inr (.inl lxN))), (aly, .inl (cJ, 300, .inr (.inl lyN)))] t.heap ∧ va_K (dC, dI) vwCl [(cI, .int), (cZ, .boolean), (cJ, .long)] t ∧ va_D (va_A [(h0, .inr (3, [.ref ast, .ref aim, .ref akp, .ref awx, .ref awy, .ref apx, .ref apy, .int co, .ref alx, .ref aly, .int lf])), (ast, .inl (cI, 54, .inl st)), (aim, .inl (cI, 108, .inl im)), (akp, .inl (cZ, 2, .inl kp)), (awx, .inl (cI, 8, .inl wx)), (awy, .inl (cI, 8, .inl wy)), (apx, .inl (cJ, 300, .inr (.inl px))), (apy, .inl (cJ, 300, .inr (.inl py))), (alx, .inl (cJ, 300, .inr (.inl lx))), (aly, .inl (cJ, 300, .inr (.inl ly)))] hsz0) [(h0, .inr (3, [.ref ast, .ref aim, .ref akp, .ref awx, .ref awy, .ref apx, .ref apy, .int coN, .ref alx, .ref aly, .int lfN])), (ast, .inl (cI, 54, .inl st)), (aim, .inl (cI, 108, .inl im)), (akp, .inl (cZ, 2, .inl kp)), (awx, .inl (cI, 8, .inl wx)), (awy, .inl (cI, 8, .inl wy)), (apx, .inl (cJ, 300, .inr (.inl pxN))), (apy, .inl (cJ, 300, .inr (.inl pyN))), (alx, .inl (cJ, 300, .inr (.inl lxN))), (aly, .inl (cJ, 300, .inr (.inl lyN)))]) (va_A [(h0, .inr (3, [.ref ast, .ref aim, .ref akp, .ref awx, .ref awy, .ref apx, .ref apy, .int co, .ref alx, .ref aly, .int lf])), (ast, .inl (cI, 54, .inl st)), (aim, .inl (cI, 108, .inl im)), (akp, .inl (cZ, 2, .inl kp)), (awx, .inl (cI, 8, .inl wx)), (awy, .inl (cI, 8, .inl wy)), (apx, .inl (cJ, 300, .inr (.inl px))), (apy, .inl (cJ, 300, .inr (.inl py))), (alx, .inl (cJ, 300, .inr (.inl lx))), (aly, .inl (cJ, 300, .inr (.inl ly)))] hsz0)) 0 0 (va_A [(h0, .inr (3, [.ref ast, .ref aim, .ref akp, .ref awx, .ref awy, .ref apx, .ref apy, .int co, .ref alx, .ref aly, .int lf])), (ast, .inl (cI, 54, .inl st)), (aim, .inl (cI, 108, .inl im)), (akp, .inl (cZ, 2, .inl kp)), (awx, .inl (cI, 8, .inl wx)), (awy, .inl (cI, 8, .inl wy)), (apx, .inl (cJ, 300, .inr (.inl px))), (apy, .inl (cJ, 300, .inr (.inl py))), (alx, .inl (cJ, 300, .inr (.inl lx))), (aly, .inl (cJ, 300, .inr (.inl ly)))] hsz0) := by
  refine Met.ofW (cc := cX3_area) (maxL := 6) (ret := (some .long)) (by decide) rfl ?_
  intro p e s m args below meth c s₁ B hml hv
  change W p l e rm_X3_area s m args below meth c s.heap [] 0 0 _ _
  obtain ⟨hv, hsz, hP, hK, hD0⟩ := hv
  have hx := B.exec
  have hb := B.bytes
  have hr := B.returns
  have hts := atoms_spec (ws := wsX3_area) B.pre
  have hown : s.vm.findClass RX3 = some m.cls := findClass_of_methodNamed B.named
  have hlocks := B.notSynchronized
  subst hsz
  have hD := hD0.self (sz := s.heap.size)
  generalize hAe : va_A [(h0, .inr (3, [.ref ast, .ref aim, .ref akp, .ref awx, .ref awy, .ref apx, .ref apy, .int co, .ref alx, .ref aly, .int lf])), (ast, .inl (cI, 54, .inl st)), (aim, .inl (cI, 108, .inl im)), (akp, .inl (cZ, 2, .inl kp)), (awx, .inl (cI, 8, .inl wx)), (awy, .inl (cI, 8, .inl wy)), (apx, .inl (cJ, 300, .inr (.inl px))), (apy, .inl (cJ, 300, .inr (.inl py))), (alx, .inl (cJ, 300, .inr (.inl lx))), (aly, .inl (cJ, 300, .inr (.inl ly)))] s.heap.size = A at hD ⊢
  have hA : ∀ q : Nat, s.heap.size ≤ q → A q := fun q h => by rw [← hAe]; exact Or.inr h
  have hS : va_S A s.heap s.heap [] := va_S.rf
  generalize hQ : MQ below (va_Ql (fun (r : Int64) (_ : Unit) => r = r0) (fun _ t => va_P (dC, dI) vwCl [(h0, .inr (3, [.ref ast, .ref aim, .ref akp, .ref awx, .ref awy, .ref apx, .ref apy, .int coN, .ref alx, .ref aly, .int lfN])), (ast, .inl (cI, 54, .inl st)), (aim, .inl (cI, 108, .inl im)), (akp, .inl (cZ, 2, .inl kp)), (awx, .inl (cI, 8, .inl wx)), (awy, .inl (cI, 8, .inl wy)), (apx, .inl (cJ, 300, .inr (.inl pxN))), (apy, .inl (cJ, 300, .inr (.inl pyN))), (alx, .inl (cJ, 300, .inr (.inl lxN))), (aly, .inl (cJ, 300, .inr (.inl lyN)))] t.heap ∧ va_K (dC, dI) vwCl [(cI, .int), (cZ, .boolean), (cJ, .long)] t ∧ va_D A [(h0, .inr (3, [.ref ast, .ref aim, .ref akp, .ref awx, .ref awy, .ref apx, .ref apy, .int coN, .ref alx, .ref aly, .int lfN])), (ast, .inl (cI, 54, .inl st)), (aim, .inl (cI, 108, .inl im)), (akp, .inl (cZ, 2, .inl kp)), (awx, .inl (cI, 8, .inl wx)), (awy, .inl (cI, 8, .inl wy)), (apx, .inl (cJ, 300, .inr (.inl pxN))), (apy, .inl (cJ, 300, .inr (.inl pyN))), (alx, .inl (cJ, 300, .inr (.inl lxN))), (aly, .inl (cJ, 300, .inr (.inl lyN)))]) A) args s 0 0 A = Q
  have hl := lv_entry ([.ref h0, .int a0, .int a1]) (n := 6) (Nat.le_of_ble_eq_true rfl)
  have hE : entryFrame m args 6 = F0 m 0 ((lg_sl ([.ref h0, .int a0, .int a1]) ++ List.replicate (6 - (lg_sl ([.ref h0, .int a0, .int a1])).length) Slot.unset).toArray) [] := by rw [hv]; exact lg_entry_eq m _ 6
  rw [hE]
  generalize (lg_sl ([.ref h0, .int a0, .int a1]) ++ List.replicate (6 - (lg_sl ([.ref h0, .int a0, .int a1])).length) Slot.unset).toArray = ls at hl ⊢
  have hl : lv_has ls 6 [(0, .ref h0), (1, .int a0), (2, .int a1)] := hl
  unfold P_X3_area at hF
  refine lv_iload_n hx hb dX3_area_0 rfl (lv_at hl 1 rfl) ?_
  obtain ⟨r_1, hr_1, hF⟩ := bd1_u hF
  refine vp_callSi (W.runS (As := [.int a0]) (rest := []) ⟨hx, hb, hml, hown, hts⟩ (c_X3_isLayer l a0 r_1 hr_1) (va_cwS 1 hts gX3_area_X3_isLayer rfl rfl rfl (by decide +kernel) ⟨Nat.le_of_ble_eq_true rfl, Nat.le_of_ble_eq_true rfl⟩) preEq rfl rfl hl.1 rfl (lv_room (Nat.le_of_ble_eq_true rfl)) dX3_area_1 ⟨Nat.le_of_ble_eq_true rfl, Nat.le_of_ble_eq_true rfl⟩) (fun r_1' qr_1 => ?_)
  obtain rfl := qr_1.symm
  refine lv_if_ne (tgt := 11) hx hb dX3_area_4 (by decide) (fun c_2 => ?_) (fun c_2 => ?_)
  · have hF := br0 hF c_2
    refine lv_iload_n hx hb dX3_area_11 rfl (lv_at hl 2 rfl) ?_
    obtain ⟨r_3, hr_3, hF⟩ := bd1_u hF
    refine vp_callSi (W.runS (As := [.int a1]) (rest := []) ⟨hx, hb, hml, hown, hts⟩ (c_X3_isPart l a1 r_3 hr_3) (va_cwS 1 hts gX3_area_X3_isPart rfl rfl rfl (by decide +kernel) ⟨Nat.le_of_ble_eq_true rfl, Nat.le_of_ble_eq_true rfl⟩) preEq rfl rfl hl.1 rfl (lv_room (Nat.le_of_ble_eq_true rfl)) dX3_area_12 ⟨Nat.le_of_ble_eq_true rfl, Nat.le_of_ble_eq_true rfl⟩) (fun r_3' qr_3 => ?_)
    obtain rfl := qr_3.symm
    refine lv_if_ne (tgt := 22) hx hb dX3_area_15 (by decide) (fun c_4 => ?_) (fun c_4 => ?_)
    · have hF := br0 hF c_4
      refine lv_lconst (v := 0) hx hb dX3_area_22 (by decide) ?_
      refine lv_lstore_n (lv' := [(3, .long (0 : Int64)), (0, .ref h0), (1, .int a0), (2, .int a1)]) hx hb dX3_area_23 rfl hl (by decide) rfl (fun ls hl => ?_)
      refine lv_iconst (v := 0) hx hb dX3_area_24 (by decide) ?_
      refine lv_istore (lv' := [(5, .int (0 : Int32)), (3, .long (0 : Int64)), (0, .ref h0), (1, .int a0), (2, .int a1)]) hx hb dX3_area_25 hl (by decide) rfl (fun ls hl => ?_)
      obtain ⟨o_13, o_14, o_15, o_16, o_17, o_18, o_19, o_20, hL_27, hF⟩ := bd8_u hF
      have lp_27 : ∀ (n : Nat) (k_5 : Int32) (k_6 : Int64) (px_7 : Nat → Int64) (py_8 : Nat → Int64) (co_9 : Int32) (lx_10 : Nat → Int64) (ly_11 : Nat → Int64) (lf_12 : Int32) (o_13 : Int32) (o_14 : Int64) (o_15 : Nat → Int64) (o_16 : Nat → Int64) (o_17 : Int32) (o_18 : Nat → Int64) (o_19 : Nat → Int64) (o_20 : Int32) (H : Heap) (locs : List Loc) (ls : Array Slot), L_X3_area_27 st a0 n k_5 k_6 px_7 py_8 co_9 lx_10 ly_11 lf_12 = some (o_13, o_14, o_15, o_16, o_17, o_18, o_19, o_20) → va_P (dC, dI) vwCl [(h0, .inr (3, [.ref ast, .ref aim, .ref akp, .ref awx, .ref awy, .ref apx, .ref apy, .int co_9, .ref alx, .ref aly, .int lf_12])), (ast, .inl (cI, 54, .inl st)), (aim, .inl (cI, 108, .inl im)), (akp, .inl (cZ, 2, .inl kp)), (awx, .inl (cI, 8, .inl wx)), (awy, .inl (cI, 8, .inl wy)), (apx, .inl (cJ, 300, .inr (.inl px_7))), (apy, .inl (cJ, 300, .inr (.inl py_8))), (alx, .inl (cJ, 300, .inr (.inl lx_10))), (aly, .inl (cJ, 300, .inr (.inl ly_11)))] H → va_D A [(h0, .inr (3, [.ref ast, .ref aim, .ref akp, .ref awx, .ref awy, .ref apx, .ref apy, .int co_9, .ref alx, .ref aly, .int lf_12])), (ast, .inl (cI, 54, .inl st)), (aim, .inl (cI, 108, .inl im)), (akp, .inl (cZ, 2, .inl kp)), (awx, .inl (cI, 8, .inl wx)), (awy, .inl (cI, 8, .inl wy)), (apx, .inl (cJ, 300, .inr (.inl px_7))), (apy, .inl (cJ, 300, .inr (.inl py_8))), (alx, .inl (cJ, 300, .inr (.inl lx_10))), (aly, .inl (cJ, 300, .inr (.inl ly_11)))] → va_S A s.heap H locs → lv_has ls 6 [(5, .int k_5), (3, .long k_6), (0, .ref h0), (1, .int a0), (2, .int a1)] → (∀ (H : Heap) (locs : List Loc) (ls : Array Slot), va_P (dC, dI) vwCl [(h0, .inr (3, [.ref ast, .ref aim, .ref akp, .ref awx, .ref awy, .ref apx, .ref apy, .int o_17, .ref alx, .ref aly, .int o_20])), (ast, .inl (cI, 54, .inl st)), (aim, .inl (cI, 108, .inl im)), (akp, .inl (cZ, 2, .inl kp)), (awx, .inl (cI, 8, .inl wx)), (awy, .inl (cI, 8, .inl wy)), (apx, .inl (cJ, 300, .inr (.inl o_15))), (apy, .inl (cJ, 300, .inr (.inl o_16))), (alx, .inl (cJ, 300, .inr (.inl o_18))), (aly, .inl (cJ, 300, .inr (.inl o_19)))] H → va_D A [(h0, .inr (3, [.ref ast, .ref aim, .ref akp, .ref awx, .ref awy, .ref apx, .ref apy, .int o_17, .ref alx, .ref aly, .int o_20])), (ast, .inl (cI, 54, .inl st)), (aim, .inl (cI, 108, .inl im)), (akp, .inl (cZ, 2, .inl kp)), (awx, .inl (cI, 8, .inl wx)), (awy, .inl (cI, 8, .inl wy)), (apx, .inl (cJ, 300, .inr (.inl o_15))), (apy, .inl (cJ, 300, .inr (.inl o_16))), (alx, .inl (cJ, 300, .inr (.inl o_18))), (aly, .inl (cJ, 300, .inr (.inl o_19)))] → va_S A s.heap H locs → lv_has ls 6 [(5, .int o_13), (3, .long o_14), (0, .ref h0), (1, .int a0), (2, .int a1)] → W p l e rm_X3_area s m args below meth c H locs 0 0 Q (F0 m 52 ls [])) → W p l e rm_X3_area s m args below meth c H locs 0 0 Q (F0 m 27 ls []) := by
        intro n
        induction n with
        | zero =>
          intro k_5 k_6 px_7 py_8 co_9 lx_10 ly_11 lf_12 o_13 o_14 o_15 o_16 o_17 o_18 o_19 o_20 H locs ls hF
          exact nn ((rfl : L_X3_area_27 st a0 0 k_5 k_6 px_7 py_8 co_9 lx_10 ly_11 lf_12 = none).symm.trans hF)
        | succ n ih_27 =>
          intro k_5 k_6 px_7 py_8 co_9 lx_10 ly_11 lf_12 o_13 o_14 o_15 o_16 o_17 o_18 o_19 o_20 H locs ls hF hP hD hS hl kx_27
          have hF := (L_X3_area_27_s st a0 n k_5 k_6 px_7 py_8 co_9 lx_10 ly_11 lf_12).symm.trans hF
          refine lv_iload hx hb dX3_area_27 (lv_at hl 0 rfl) ?_
          refine lv_bipush (v := 16) hx hb dX3_area_29 (by decide) ?_
          refine lv_icmp_ge (tgt := 52) hx hb dX3_area_31 (by decide) (fun c_21 => ?_) (fun c_21 => ?_)
          · have hF := br1 hF c_21
            obtain ⟨rfl, rfl, rfl, rfl, rfl, rfl, rfl, rfl⟩ := tp8 hF
            exact kx_27 _ _ ls hP hD hS hl
          · have hF := br0 hF c_21
            refine lv_lload_n hx hb dX3_area_34 rfl (lv_at hl 1 rfl) ?_
            refine lv_aload_n hx hb dX3_area_35 rfl (lv_at hl 2 rfl) ?_
            refine lv_iload_n hx hb dX3_area_36 rfl (lv_at hl 3 rfl) ?_
            refine lv_iload hx hb dX3_area_37 (lv_at hl 0 rfl) ?_
            refine lv_iconst (v := 0) hx hb dX3_area_39 (by decide) ?_
            refine lv_iconst (v := 0) hx hb dX3_area_40 (by decide) ?_
            obtain ⟨r_22, px_23, py_24, co_25, lx_26, ly_27, lf_28, hr_28, hF⟩ := bd7_u hF
            have hPc := hP.sub (ws' := [(h0, .inr (3, [.ref ast, .ref aim, .ref akp, .ref awx, .ref awy, .ref apx, .ref apy, .int co_9, .ref alx, .ref aly, .int lf_12])), (ast, .inl (cI, 54, .inl st)), (aim, .inl (cI, 108, .inl im)), (akp, .inl (cZ, 2, .inl kp)), (awx, .inl (cI, 8, .inl wx)), (awy, .inl (cI, 8, .inl wy)), (apx, .inl (cJ, 300, .inr (.inl px_7))), (apy, .inl (cJ, 300, .inr (.inl py_8))), (alx, .inl (cJ, 300, .inr (.inl lx_10))), (aly, .inl (cJ, 300, .inr (.inl ly_11)))]) [0, 1, 2, 3, 4, 5, 6, 7, 8, 9] rfl
            have hKc := hK.sub (tys' := [(cI, .int), (cZ, .boolean), (cJ, .long)]) [0, 1, 2] rfl
            have hDc := hD.sub (ws' := [(h0, .inr (3, [.ref ast, .ref aim, .ref akp, .ref awx, .ref awy, .ref apx, .ref apy, .int co_9, .ref alx, .ref aly, .int lf_12])), (ast, .inl (cI, 54, .inl st)), (aim, .inl (cI, 108, .inl im)), (akp, .inl (cZ, 2, .inl kp)), (awx, .inl (cI, 8, .inl wx)), (awy, .inl (cI, 8, .inl wy)), (apx, .inl (cJ, 300, .inr (.inl px_7))), (apy, .inl (cJ, 300, .inr (.inl py_8))), (alx, .inl (cJ, 300, .inr (.inl lx_10))), (aly, .inl (cJ, 300, .inr (.inl ly_11)))]) [0, 1, 2, 3, 4, 5, 6, 7, 8, 9] (by decide) rfl
            have hFc := va_free (wc := [(h0, .inr (3, [.ref ast, .ref aim, .ref akp, .ref awx, .ref awy, .ref apx, .ref apy, .int co_9, .ref alx, .ref aly, .int lf_12])), (ast, .inl (cI, 54, .inl st)), (aim, .inl (cI, 108, .inl im)), (akp, .inl (cZ, 2, .inl kp)), (awx, .inl (cI, 8, .inl wx)), (awy, .inl (cI, 8, .inl wy)), (apx, .inl (cJ, 300, .inr (.inl px_7))), (apy, .inl (cJ, 300, .inr (.inl py_8))), (alx, .inl (cJ, 300, .inr (.inl lx_10))), (aly, .inl (cJ, 300, .inr (.inl ly_11)))]) hD hS hA [0, 1, 2, 3, 4, 5, 6, 7, 8, 9] rfl
            refine va_calll (va_runV (As := [.int a0, .int k_5, .int (0 : Int32), .int (0 : Int32)]) (rest := [.long k_6]) ⟨hx, hb, hml, hown, hts⟩ (c_X3_rawOf l dC dI h0 ast aim akp awx awy apx apy alx aly cI cZ cJ H.size st im kp wx wy px_7 py_8 co_9 lx_10 ly_11 lf_12 a0 k_5 (0 : Int32) (0 : Int32) r_22 px_23 py_24 co_25 lx_26 ly_27 lf_28 hr_28) (cwV 4 hts gX3_area_X3_rawOf rfl rfl rfl (by decide +kernel) ⟨Nat.le_of_ble_eq_true rfl, Nat.le_of_ble_eq_true rfl⟩) ⟨fun a U g mk q => ⟨q.1, q.2.1, q.2.2.1, va_K.moved (u := U) (U := U.calling g mk a) (Vm.Alike.refl U.vm) q.2.2.2.1, q.2.2.2.2⟩, va_recv hKc hPc (ci := 3) (q0 := 0) rfl rfl, fun U hU hW => ⟨rfl, by rw [hU], by rw [hU]; exact hPc, va_K.moved hW.alike hKc, hDc.weaken (fun _ _ _ _ => trivial)⟩⟩ rfl rfl hl.1 rfl (lv_room (Nat.le_of_ble_eq_true rfl)) dX3_area_41 ⟨Nat.le_of_ble_eq_true rfl, Nat.le_of_ble_eq_true rfl⟩) hS (fun q _ h => hFc q h) hFc (fun r_22' _ t H1 locs ht hvm hw hB hz1 hk1 hS => ?_)
            obtain ⟨hP1, hK1, hD1⟩ := hB
            rw [ht] at hP1
            obtain rfl := hw.symm
            obtain ⟨hP, hD⟩ := va_join (wr := []) (w1 := [(h0, .inr (3, [.ref ast, .ref aim, .ref akp, .ref awx, .ref awy, .ref apx, .ref apy, .int co_25, .ref alx, .ref aly, .int lf_28])), (ast, .inl (cI, 54, .inl st)), (aim, .inl (cI, 108, .inl im)), (akp, .inl (cZ, 2, .inl kp)), (awx, .inl (cI, 8, .inl wx)), (awy, .inl (cI, 8, .inl wy)), (apx, .inl (cJ, 300, .inr (.inl px_23))), (apy, .inl (cJ, 300, .inr (.inl py_24))), (alx, .inl (cJ, 300, .inr (.inl lx_26))), (aly, .inl (cJ, 300, .inr (.inl ly_27)))]) hP hD [0, 1, 2, 3, 4, 5, 6, 7, 8, 9] [] rfl rfl (by decide) (by decide) hk1 hFc hP1 hD1
            clear hP1 hK1 hD1 hk1 hFc
            generalize H1 = H at hP hS ⊢
            have hP : va_P (dC, dI) vwCl [(h0, .inr (3, [.ref ast, .ref aim, .ref akp, .ref awx, .ref awy, .ref apx, .ref apy, .int co_25, .ref alx, .ref aly, .int lf_28])), (ast, .inl (cI, 54, .inl st)), (aim, .inl (cI, 108, .inl im)), (akp, .inl (cZ, 2, .inl kp)), (awx, .inl (cI, 8, .inl wx)), (awy, .inl (cI, 8, .inl wy)), (apx, .inl (cJ, 300, .inr (.inl px_23))), (apy, .inl (cJ, 300, .inr (.inl py_24))), (alx, .inl (cJ, 300, .inr (.inl lx_26))), (aly, .inl (cJ, 300, .inr (.inl ly_27)))] H := hP
            have hD : va_D A [(h0, .inr (3, [.ref ast, .ref aim, .ref akp, .ref awx, .ref awy, .ref apx, .ref apy, .int co_25, .ref alx, .ref aly, .int lf_28])), (ast, .inl (cI, 54, .inl st)), (aim, .inl (cI, 108, .inl im)), (akp, .inl (cZ, 2, .inl kp)), (awx, .inl (cI, 8, .inl wx)), (awy, .inl (cI, 8, .inl wy)), (apx, .inl (cJ, 300, .inr (.inl px_23))), (apy, .inl (cJ, 300, .inr (.inl py_24))), (alx, .inl (cJ, 300, .inr (.inl lx_26))), (aly, .inl (cJ, 300, .inr (.inl ly_27)))] := hD
            refine lv_ladd hx hb dX3_area_44 ?_
            refine lv_topl (fun v_29 ev_29 => ?_)
            have hF := nm_u hF ev_29
            refine lv_lstore_n (lv' := [(3, .long v_29), (5, .int k_5), (0, .ref h0), (1, .int a0), (2, .int a1)]) hx hb dX3_area_45 rfl hl (by decide) rfl (fun ls hl => ?_)
            refine lv_iinc (v := (k_5 + (1 : Int32))) (lv' := [(5, .int (k_5 + (1 : Int32))), (3, .long v_29), (0, .ref h0), (1, .int a0), (2, .int a1)]) hx hb dX3_area_46 hl (k := 1) rfl rfl (by decide) rfl (fun ls hl => ?_)
            refine lv_goto (tgt := 27) hx hb dX3_area_49 (by decide) ?_
            exact ih_27 _ _ _ _ _ _ _ _ _ _ _ _ _ _ _ _ _ _ ls hF hP hD hS hl kx_27
      refine lp_27 1000 (0 : Int32) (0 : Int64) px py co lx ly lf o_13 o_14 o_15 o_16 o_17 o_18 o_19 o_20 _ _ ls hL_27 hP hD hS hl (fun H locs ls hP hD hS hl => ?_)
      refine lv_ldc2 (v := 9) hx hb hown (hts (.constantLong RX3 153 (9)) (by decide +kernel)) dX3_area_52 ?_
      refine lv_lload_n hx hb dX3_area_55 rfl (lv_at hl 1 rfl) ?_
      refine lv_lmul hx hb dX3_area_56 ?_
      refine lv_ldc2 (v := 498960) hx hb hown (hts (.constantLong RX3 111 (498960)) (by decide +kernel)) dX3_area_57 ?_
      refine lv_iload_n hx hb dX3_area_60 rfl (lv_at hl 4 rfl) ?_
      obtain ⟨r_30, hr_30, hF⟩ := bd1_u hF
      refine vp_callSl (W.runS (As := [.long ((9 : Int64) * o_14), .long (498960 : Int64), .int a1]) (rest := []) ⟨hx, hb, hml, hown, hts⟩ (c_X3_told l ((9 : Int64) * o_14) (498960 : Int64) a1 r_30 hr_30) (va_cwS 3 hts gX3_area_X3_told rfl rfl rfl (by decide +kernel) ⟨Nat.le_of_ble_eq_true rfl, Nat.le_of_ble_eq_true rfl⟩) preEq rfl rfl hl.1 rfl (lv_room (Nat.le_of_ble_eq_true rfl)) dX3_area_61 ⟨Nat.le_of_ble_eq_true rfl, Nat.le_of_ble_eq_true rfl⟩) (fun r_30' qr_30 => ?_)
      obtain rfl := qr_30.symm
      obtain ⟨e0, rfl, rfl, rfl, rfl, rfl, rfl⟩ := tp7 hF
      rw [← hQ]
      exact W.lret (v := r_30) hx hb hr (fun t ht hW => ⟨⟨_, (), rfl, e0, by rw [ht]; exact hP, va_K.moved hW.alike hK, hD⟩, hS.F ht⟩) hS.2.2 dX3_area_64
    · have hF := br1 hF c_4
      refine lv_ldc2 (v := -1000000000000000002) hx hb hown (hts (.constantLong RX3 134 (-1000000000000000002)) (by decide +kernel)) dX3_area_18 ?_
      obtain ⟨e0, rfl, rfl, rfl, rfl, rfl, rfl⟩ := tp7 hF
      rw [← hQ]
      exact W.lret (v := (-1000000000000000002 : Int64)) hx hb hr (fun t ht hW => ⟨⟨_, (), rfl, e0, by rw [ht]; exact hP, va_K.moved hW.alike hK, hD⟩, hS.F ht⟩) hS.2.2 dX3_area_21
  · have hF := br1 hF c_2
    refine lv_ldc2 (v := -1000000000000000001) hx hb hown (hts (.constantLong RX3 125 (-1000000000000000001)) (by decide +kernel)) dX3_area_7 ?_
    obtain ⟨e0, rfl, rfl, rfl, rfl, rfl, rfl⟩ := tp7 hF
    rw [← hQ]
    exact W.lret (v := (-1000000000000000001 : Int64)) hx hb hr (fun t ht hW => ⟨⟨_, (), rfl, e0, by rw [ht]; exact hP, va_K.moved hW.alike hK, hD⟩, hS.F ht⟩) hS.2.2 dX3_area_10

def L_X3_enough_37 (st : Nat → Int32) (a0 : Int32) (a1 : Int32) (a2 : Int32) : Nat → Int32 → Int32 → (Nat → Int64) → (Nat → Int64) → Int32 → (Nat → Int64) → (Nat → Int64) → Int32 → Option (Int32 × Int32 × (Nat → Int64) × (Nat → Int64) × Int32 × (Nat → Int64) × (Nat → Int64) × Int32)
  | 0, _, _, _, _, _, _, _, _ => none
  | n + 1, k_7, k_8, px_9, py_10, co_11, lx_12, ly_13, lf_14 =>
    if (16 : Int32) ≤ k_7 then
      some (k_7, k_8, px_9, py_10, co_11, lx_12, ly_13, lf_14)
    else
      bd7 (P_X3_coverOf a0 k_7 st px_9 py_10 lx_12 ly_13) (fun r_24 px_25 py_26 co_27 lx_28 ly_29 lf_30 =>
      if (r_24 * a2.toInt64) < (a1.toInt64 * (498960 : Int64)) then
        nm (k_8 ||| (0 : Int32)) (fun v_32 =>
        L_X3_enough_37 st a0 a1 a2 n (k_7 + (1 : Int32)) v_32 px_25 py_26 co_27 lx_28 ly_29 lf_30)
      else
        nm (k_8 ||| ((1 : Int32) <<< (k_7 &&& 31))) (fun v_33 =>
        L_X3_enough_37 st a0 a1 a2 n (k_7 + (1 : Int32)) v_33 px_25 py_26 co_27 lx_28 ly_29 lf_30))
theorem L_X3_enough_37_s (st : Nat → Int32) (a0 : Int32) (a1 : Int32) (a2 : Int32) (n : Nat) (k_7 : Int32) (k_8 : Int32) (px_9 : Nat → Int64) (py_10 : Nat → Int64) (co_11 : Int32) (lx_12 : Nat → Int64) (ly_13 : Nat → Int64) (lf_14 : Int32) : L_X3_enough_37 st a0 a1 a2 (n + 1) k_7 k_8 px_9 py_10 co_11 lx_12 ly_13 lf_14 =
    (if (16 : Int32) ≤ k_7 then
      some (k_7, k_8, px_9, py_10, co_11, lx_12, ly_13, lf_14)
    else
      bd7 (P_X3_coverOf a0 k_7 st px_9 py_10 lx_12 ly_13) (fun r_24 px_25 py_26 co_27 lx_28 ly_29 lf_30 =>
      if (r_24 * a2.toInt64) < (a1.toInt64 * (498960 : Int64)) then
        nm (k_8 ||| (0 : Int32)) (fun v_32 =>
        L_X3_enough_37 st a0 a1 a2 n (k_7 + (1 : Int32)) v_32 px_25 py_26 co_27 lx_28 ly_29 lf_30)
      else
        nm (k_8 ||| ((1 : Int32) <<< (k_7 &&& 31))) (fun v_33 =>
        L_X3_enough_37 st a0 a1 a2 n (k_7 + (1 : Int32)) v_33 px_25 py_26 co_27 lx_28 ly_29 lf_30))) := rfl

def P_X3_enough (a0 : Int32) (a1 : Int32) (a2 : Int32) (st : Nat → Int32) (px : Nat → Int64) (py : Nat → Int64) (co : Int32) (lx : Nat → Int64) (ly : Nat → Int64) (lf : Int32) : Option (Int32 × (Nat → Int64) × (Nat → Int64) × Int32 × (Nat → Int64) × (Nat → Int64) × Int32) :=
  bd1 (P_X3_isLayer a0) (fun r_1 =>
  if r_1 = (0 : Int32) then
    some ((-1 : Int32), px, py, co, lx, ly, lf)
  else
    bd1 (P_X3_in a2 (1 : Int32) (99 : Int32)) (fun r_3 =>
    if r_3 = (0 : Int32) then
      some ((-2 : Int32), px, py, co, lx, ly, lf)
    else
      bd1 (P_X3_in a1 (0 : Int32) a2) (fun r_5 =>
      if r_5 = (0 : Int32) then
        some ((-2 : Int32), px, py, co, lx, ly, lf)
      else
        bd8 (L_X3_enough_37 st a0 a1 a2 1000 (0 : Int32) (0 : Int32) px py co lx ly lf) (fun o_15 o_16 o_17 o_18 o_19 o_20 o_21 o_22 =>
        some (o_16, o_17, o_18, o_19, o_20, o_21, o_22)))))

def rm_X3_enough : Room := { frames := 6, cells := 0, slots := 0, locals := 156 }

set_option maxHeartbeats 4000000 in
set_option maxRecDepth 100000 in
theorem c_X3_enough (l : Launch) (dC : Nat → ClassId) (dI : Nat → Nat → Nat) (h0 ast aim akp awx awy apx apy alx aly : Nat) (cI cZ cJ : ClassId) (hsz0 : Nat) (st : Nat → Int32) (im : Nat → Int32) (kp : Nat → Int32) (wx : Nat → Int32) (wy : Nat → Int32) (px : Nat → Int64) (py : Nat → Int64) (co : Int32) (lx : Nat → Int64) (ly : Nat → Int64) (lf : Int32) (a0 : Int32) (a1 : Int32) (a2 : Int32) (r0 : Int32) (pxN : Nat → Int64) (pyN : Nat → Int64) (coN : Int32) (lxN : Nat → Int64) (lyN : Nat → Int64) (lfN : Int32) (hF : P_X3_enough a0 a1 a2 st px py co lx ly lf = some (r0, pxN, pyN, coN, lxN, lyN, lfN)) : Met l yX3_enough wsX3_enough rm_X3_enough (va_Pc [.ref h0, .int a0, .int a1, .int a2] (fun U => U.heap.size = hsz0 ∧ va_P (dC, dI) vwCl [(h0, .inr (3, [.ref ast, .ref aim, .ref akp, .ref awx, .ref awy, .ref apx, .ref apy, .int co, .ref alx, .ref aly, .int lf])), (ast, .inl (cI, 54, .inl st)), (aim, .inl (cI, 108, .inl im)), (akp, .inl (cZ, 2, .inl kp)), (awx, .inl (cI, 8, .inl wx)), (awy, .inl (cI, 8, .inl wy)), (apx, .inl (cJ, 300, .inr (.inl px))), (apy, .inl (cJ, 300, .inr (.inl py))), (alx, .inl (cJ, 300, .inr (.inl lx))), (aly, .inl (cJ, 300, .inr (.inl ly)))] U.heap ∧ va_K (dC, dI) vwCl [(cI, .int), (cZ, .boolean), (cJ, .long)] U ∧ va_D (fun _ => True) [(h0, .inr (3, [.ref ast, .ref aim, .ref akp, .ref awx, .ref awy, .ref apx, .ref apy, .int co, .ref alx, .ref aly, .int lf])), (ast, .inl (cI, 54, .inl st)), (aim, .inl (cI, 108, .inl im)), (akp, .inl (cZ, 2, .inl kp)), (awx, .inl (cI, 8, .inl wx)), (awy, .inl (cI, 8, .inl wy)), (apx, .inl (cJ, 300, .inr (.inl px))), (apy, .inl (cJ, 300, .inr (.inl py))), (alx, .inl (cJ, 300, .inr (.inl lx))), (aly, .inl (cJ, 300, .inr (.inl ly)))])) (va_Qi (fun (r : Int32) (_ : Unit) => r = r0) (fun _ t => va_P (dC, dI) vwCl [(h0, .inr (3, [.ref ast, .ref aim, .ref akp, .ref awx, .ref awy, .ref apx, .ref apy, .int coN, .ref alx, .ref aly, .int lfN])), (ast, .inl (cI, 54, .inl st)), (aim, .inl (cI, 108, .inl im)), (akp, .inl (cZ, 2, .inl kp)), (awx, .inl (cI, 8, .inl wx)), (awy, .inl (cI, 8, .inl wy)), (apx, .inl (cJ, 300, .inr (.inl pxN))), (apy, .inl (cJ, 300, .inr (.inl pyN))), (alx, .inl (cJ, 300, .inr (.inl lxN))), (aly, .inl (cJ, 300, .inr (.inl lyN)))] t.heap ∧ va_K (dC, dI) vwCl [(cI, .int), (cZ, .boolean), (cJ, .long)] t ∧ va_D (va_A [(h0, .inr (3, [.ref ast, .ref aim, .ref akp, .ref awx, .ref awy, .ref apx, .ref apy, .int co, .ref alx, .ref aly, .int lf])), (ast, .inl (cI, 54, .inl st)), (aim, .inl (cI, 108, .inl im)), (akp, .inl (cZ, 2, .inl kp)), (awx, .inl (cI, 8, .inl wx)), (awy, .inl (cI, 8, .inl wy)), (apx, .inl (cJ, 300, .inr (.inl px))), (apy, .inl (cJ, 300, .inr (.inl py))), (alx, .inl (cJ, 300, .inr (.inl lx))), (aly, .inl (cJ, 300, .inr (.inl ly)))] hsz0) [(h0, .inr (3, [.ref ast, .ref aim, .ref akp, .ref awx, .ref awy, .ref apx, .ref apy, .int coN, .ref alx, .ref aly, .int lfN])), (ast, .inl (cI, 54, .inl st)), (aim, .inl (cI, 108, .inl im)), (akp, .inl (cZ, 2, .inl kp)), (awx, .inl (cI, 8, .inl wx)), (awy, .inl (cI, 8, .inl wy)), (apx, .inl (cJ, 300, .inr (.inl pxN))), (apy, .inl (cJ, 300, .inr (.inl pyN))), (alx, .inl (cJ, 300, .inr (.inl lxN))), (aly, .inl (cJ, 300, .inr (.inl lyN)))]) (va_A [(h0, .inr (3, [.ref ast, .ref aim, .ref akp, .ref awx, .ref awy, .ref apx, .ref apy, .int co, .ref alx, .ref aly, .int lf])), (ast, .inl (cI, 54, .inl st)), (aim, .inl (cI, 108, .inl im)), (akp, .inl (cZ, 2, .inl kp)), (awx, .inl (cI, 8, .inl wx)), (awy, .inl (cI, 8, .inl wy)), (apx, .inl (cJ, 300, .inr (.inl px))), (apy, .inl (cJ, 300, .inr (.inl py))), (alx, .inl (cJ, 300, .inr (.inl lx))), (aly, .inl (cJ, 300, .inr (.inl ly)))] hsz0)) 0 0 (va_A [(h0, .inr (3, [.ref ast, .ref aim, .ref akp, .ref awx, .ref awy, .ref apx, .ref apy, .int co, .ref alx, .ref aly, .int lf])), (ast, .inl (cI, 54, .inl st)), (aim, .inl (cI, 108, .inl im)), (akp, .inl (cZ, 2, .inl kp)), (awx, .inl (cI, 8, .inl wx)), (awy, .inl (cI, 8, .inl wy)), (apx, .inl (cJ, 300, .inr (.inl px))), (apy, .inl (cJ, 300, .inr (.inl py))), (alx, .inl (cJ, 300, .inr (.inl lx))), (aly, .inl (cJ, 300, .inr (.inl ly)))] hsz0) := by
  refine Met.ofW (cc := cX3_enough) (maxL := 6) (ret := (some .int)) (by decide) rfl ?_
  intro p e s m args below meth c s₁ B hml hv
  change W p l e rm_X3_enough s m args below meth c s.heap [] 0 0 _ _
  obtain ⟨hv, hsz, hP, hK, hD0⟩ := hv
  have hx := B.exec
  have hb := B.bytes
  have hr := B.returns
  have hts := atoms_spec (ws := wsX3_enough) B.pre
  have hown : s.vm.findClass RX3 = some m.cls := findClass_of_methodNamed B.named
  have hlocks := B.notSynchronized
  subst hsz
  have hD := hD0.self (sz := s.heap.size)
  generalize hAe : va_A [(h0, .inr (3, [.ref ast, .ref aim, .ref akp, .ref awx, .ref awy, .ref apx, .ref apy, .int co, .ref alx, .ref aly, .int lf])), (ast, .inl (cI, 54, .inl st)), (aim, .inl (cI, 108, .inl im)), (akp, .inl (cZ, 2, .inl kp)), (awx, .inl (cI, 8, .inl wx)), (awy, .inl (cI, 8, .inl wy)), (apx, .inl (cJ, 300, .inr (.inl px))), (apy, .inl (cJ, 300, .inr (.inl py))), (alx, .inl (cJ, 300, .inr (.inl lx))), (aly, .inl (cJ, 300, .inr (.inl ly)))] s.heap.size = A at hD ⊢
  have hA : ∀ q : Nat, s.heap.size ≤ q → A q := fun q h => by rw [← hAe]; exact Or.inr h
  have hS : va_S A s.heap s.heap [] := va_S.rf
  generalize hQ : MQ below (va_Qi (fun (r : Int32) (_ : Unit) => r = r0) (fun _ t => va_P (dC, dI) vwCl [(h0, .inr (3, [.ref ast, .ref aim, .ref akp, .ref awx, .ref awy, .ref apx, .ref apy, .int coN, .ref alx, .ref aly, .int lfN])), (ast, .inl (cI, 54, .inl st)), (aim, .inl (cI, 108, .inl im)), (akp, .inl (cZ, 2, .inl kp)), (awx, .inl (cI, 8, .inl wx)), (awy, .inl (cI, 8, .inl wy)), (apx, .inl (cJ, 300, .inr (.inl pxN))), (apy, .inl (cJ, 300, .inr (.inl pyN))), (alx, .inl (cJ, 300, .inr (.inl lxN))), (aly, .inl (cJ, 300, .inr (.inl lyN)))] t.heap ∧ va_K (dC, dI) vwCl [(cI, .int), (cZ, .boolean), (cJ, .long)] t ∧ va_D A [(h0, .inr (3, [.ref ast, .ref aim, .ref akp, .ref awx, .ref awy, .ref apx, .ref apy, .int coN, .ref alx, .ref aly, .int lfN])), (ast, .inl (cI, 54, .inl st)), (aim, .inl (cI, 108, .inl im)), (akp, .inl (cZ, 2, .inl kp)), (awx, .inl (cI, 8, .inl wx)), (awy, .inl (cI, 8, .inl wy)), (apx, .inl (cJ, 300, .inr (.inl pxN))), (apy, .inl (cJ, 300, .inr (.inl pyN))), (alx, .inl (cJ, 300, .inr (.inl lxN))), (aly, .inl (cJ, 300, .inr (.inl lyN)))]) A) args s 0 0 A = Q
  have hl := lv_entry ([.ref h0, .int a0, .int a1, .int a2]) (n := 6) (Nat.le_of_ble_eq_true rfl)
  have hE : entryFrame m args 6 = F0 m 0 ((lg_sl ([.ref h0, .int a0, .int a1, .int a2]) ++ List.replicate (6 - (lg_sl ([.ref h0, .int a0, .int a1, .int a2])).length) Slot.unset).toArray) [] := by rw [hv]; exact lg_entry_eq m _ 6
  rw [hE]
  generalize (lg_sl ([.ref h0, .int a0, .int a1, .int a2]) ++ List.replicate (6 - (lg_sl ([.ref h0, .int a0, .int a1, .int a2])).length) Slot.unset).toArray = ls at hl ⊢
  have hl : lv_has ls 6 [(0, .ref h0), (1, .int a0), (2, .int a1), (3, .int a2)] := hl
  unfold P_X3_enough at hF
  refine lv_iload_n hx hb dX3_enough_0 rfl (lv_at hl 1 rfl) ?_
  obtain ⟨r_1, hr_1, hF⟩ := bd1_u hF
  refine vp_callSi (W.runS (As := [.int a0]) (rest := []) ⟨hx, hb, hml, hown, hts⟩ (c_X3_isLayer l a0 r_1 hr_1) (va_cwS 1 hts gX3_enough_X3_isLayer rfl rfl rfl (by decide +kernel) ⟨Nat.le_of_ble_eq_true rfl, Nat.le_of_ble_eq_true rfl⟩) preEq rfl rfl hl.1 rfl (lv_room (Nat.le_of_ble_eq_true rfl)) dX3_enough_1 ⟨Nat.le_of_ble_eq_true rfl, Nat.le_of_ble_eq_true rfl⟩) (fun r_1' qr_1 => ?_)
  obtain rfl := qr_1.symm
  refine lv_if_ne (tgt := 9) hx hb dX3_enough_4 (by decide) (fun c_2 => ?_) (fun c_2 => ?_)
  · have hF := br0 hF c_2
    refine lv_iload_n hx hb dX3_enough_9 rfl (lv_at hl 3 rfl) ?_
    refine lv_iconst (v := 1) hx hb dX3_enough_10 (by decide) ?_
    refine lv_bipush (v := 99) hx hb dX3_enough_11 (by decide) ?_
    obtain ⟨r_3, hr_3, hF⟩ := bd1_u hF
    refine vp_callSi (W.runS (As := [.int a2, .int (1 : Int32), .int (99 : Int32)]) (rest := []) ⟨hx, hb, hml, hown, hts⟩ (c_X3_in l a2 (1 : Int32) (99 : Int32) r_3 hr_3) (va_cwS 3 hts gX3_enough_X3_in rfl rfl rfl (by decide +kernel) ⟨Nat.le_of_ble_eq_true rfl, Nat.le_of_ble_eq_true rfl⟩) preEq rfl rfl hl.1 rfl (lv_room (Nat.le_of_ble_eq_true rfl)) dX3_enough_13 ⟨Nat.le_of_ble_eq_true rfl, Nat.le_of_ble_eq_true rfl⟩) (fun r_3' qr_3 => ?_)
    obtain rfl := qr_3.symm
    refine lv_if_eq (tgt := 28) hx hb dX3_enough_16 (by decide) (fun c_4 => ?_) (fun c_4 => ?_)
    · have hF := br1 hF c_4
      refine lv_bipush (v := -2) hx hb dX3_enough_28 (by decide) ?_
      obtain ⟨e0, rfl, rfl, rfl, rfl, rfl, rfl⟩ := tp7 hF
      rw [← hQ]
      exact W.iret (v := (-2 : Int32)) hx hb hr (fun t ht hW => ⟨⟨_, (), rfl, e0, by rw [ht]; exact hP, va_K.moved hW.alike hK, hD⟩, hS.F ht⟩) hS.2.2 dX3_enough_30
    · have hF := br0 hF c_4
      refine lv_iload_n hx hb dX3_enough_19 rfl (lv_at hl 2 rfl) ?_
      refine lv_iconst (v := 0) hx hb dX3_enough_20 (by decide) ?_
      refine lv_iload_n hx hb dX3_enough_21 rfl (lv_at hl 3 rfl) ?_
      obtain ⟨r_5, hr_5, hF⟩ := bd1_u hF
      refine vp_callSi (W.runS (As := [.int a1, .int (0 : Int32), .int a2]) (rest := []) ⟨hx, hb, hml, hown, hts⟩ (c_X3_in l a1 (0 : Int32) a2 r_5 hr_5) (va_cwS 3 hts gX3_enough_X3_in rfl rfl rfl (by decide +kernel) ⟨Nat.le_of_ble_eq_true rfl, Nat.le_of_ble_eq_true rfl⟩) preEq rfl rfl hl.1 rfl (lv_room (Nat.le_of_ble_eq_true rfl)) dX3_enough_22 ⟨Nat.le_of_ble_eq_true rfl, Nat.le_of_ble_eq_true rfl⟩) (fun r_5' qr_5 => ?_)
      obtain rfl := qr_5.symm
      refine lv_if_ne (tgt := 31) hx hb dX3_enough_25 (by decide) (fun c_6 => ?_) (fun c_6 => ?_)
      · have hF := br0 hF c_6
        refine lv_iconst (v := 0) hx hb dX3_enough_31 (by decide) ?_
        refine lv_istore (lv' := [(4, .int (0 : Int32)), (0, .ref h0), (1, .int a0), (2, .int a1), (3, .int a2)]) hx hb dX3_enough_32 hl (by decide) rfl (fun ls hl => ?_)
        refine lv_iconst (v := 0) hx hb dX3_enough_34 (by decide) ?_
        refine lv_istore (lv' := [(5, .int (0 : Int32)), (4, .int (0 : Int32)), (0, .ref h0), (1, .int a0), (2, .int a1), (3, .int a2)]) hx hb dX3_enough_35 hl (by decide) rfl (fun ls hl => ?_)
        obtain ⟨o_15, o_16, o_17, o_18, o_19, o_20, o_21, o_22, hL_37, hF⟩ := bd8_u hF
        have lp_37 : ∀ (n : Nat) (k_7 : Int32) (k_8 : Int32) (px_9 : Nat → Int64) (py_10 : Nat → Int64) (co_11 : Int32) (lx_12 : Nat → Int64) (ly_13 : Nat → Int64) (lf_14 : Int32) (o_15 : Int32) (o_16 : Int32) (o_17 : Nat → Int64) (o_18 : Nat → Int64) (o_19 : Int32) (o_20 : Nat → Int64) (o_21 : Nat → Int64) (o_22 : Int32) (H : Heap) (locs : List Loc) (ls : Array Slot), L_X3_enough_37 st a0 a1 a2 n k_7 k_8 px_9 py_10 co_11 lx_12 ly_13 lf_14 = some (o_15, o_16, o_17, o_18, o_19, o_20, o_21, o_22) → va_P (dC, dI) vwCl [(h0, .inr (3, [.ref ast, .ref aim, .ref akp, .ref awx, .ref awy, .ref apx, .ref apy, .int co_11, .ref alx, .ref aly, .int lf_14])), (ast, .inl (cI, 54, .inl st)), (aim, .inl (cI, 108, .inl im)), (akp, .inl (cZ, 2, .inl kp)), (awx, .inl (cI, 8, .inl wx)), (awy, .inl (cI, 8, .inl wy)), (apx, .inl (cJ, 300, .inr (.inl px_9))), (apy, .inl (cJ, 300, .inr (.inl py_10))), (alx, .inl (cJ, 300, .inr (.inl lx_12))), (aly, .inl (cJ, 300, .inr (.inl ly_13)))] H → va_D A [(h0, .inr (3, [.ref ast, .ref aim, .ref akp, .ref awx, .ref awy, .ref apx, .ref apy, .int co_11, .ref alx, .ref aly, .int lf_14])), (ast, .inl (cI, 54, .inl st)), (aim, .inl (cI, 108, .inl im)), (akp, .inl (cZ, 2, .inl kp)), (awx, .inl (cI, 8, .inl wx)), (awy, .inl (cI, 8, .inl wy)), (apx, .inl (cJ, 300, .inr (.inl px_9))), (apy, .inl (cJ, 300, .inr (.inl py_10))), (alx, .inl (cJ, 300, .inr (.inl lx_12))), (aly, .inl (cJ, 300, .inr (.inl ly_13)))] → va_S A s.heap H locs → lv_has ls 6 [(5, .int k_7), (4, .int k_8), (0, .ref h0), (1, .int a0), (2, .int a1), (3, .int a2)] → (∀ (H : Heap) (locs : List Loc) (ls : Array Slot), va_P (dC, dI) vwCl [(h0, .inr (3, [.ref ast, .ref aim, .ref akp, .ref awx, .ref awy, .ref apx, .ref apy, .int o_19, .ref alx, .ref aly, .int o_22])), (ast, .inl (cI, 54, .inl st)), (aim, .inl (cI, 108, .inl im)), (akp, .inl (cZ, 2, .inl kp)), (awx, .inl (cI, 8, .inl wx)), (awy, .inl (cI, 8, .inl wy)), (apx, .inl (cJ, 300, .inr (.inl o_17))), (apy, .inl (cJ, 300, .inr (.inl o_18))), (alx, .inl (cJ, 300, .inr (.inl o_20))), (aly, .inl (cJ, 300, .inr (.inl o_21)))] H → va_D A [(h0, .inr (3, [.ref ast, .ref aim, .ref akp, .ref awx, .ref awy, .ref apx, .ref apy, .int o_19, .ref alx, .ref aly, .int o_22])), (ast, .inl (cI, 54, .inl st)), (aim, .inl (cI, 108, .inl im)), (akp, .inl (cZ, 2, .inl kp)), (awx, .inl (cI, 8, .inl wx)), (awy, .inl (cI, 8, .inl wy)), (apx, .inl (cJ, 300, .inr (.inl o_17))), (apy, .inl (cJ, 300, .inr (.inl o_18))), (alx, .inl (cJ, 300, .inr (.inl o_20))), (aly, .inl (cJ, 300, .inr (.inl o_21)))] → va_S A s.heap H locs → lv_has ls 6 [(5, .int o_15), (4, .int o_16), (0, .ref h0), (1, .int a0), (2, .int a1), (3, .int a2)] → W p l e rm_X3_enough s m args below meth c H locs 0 0 Q (F0 m 83 ls [])) → W p l e rm_X3_enough s m args below meth c H locs 0 0 Q (F0 m 37 ls []) := by
          intro n
          induction n with
          | zero =>
            intro k_7 k_8 px_9 py_10 co_11 lx_12 ly_13 lf_14 o_15 o_16 o_17 o_18 o_19 o_20 o_21 o_22 H locs ls hF
            exact nn ((rfl : L_X3_enough_37 st a0 a1 a2 0 k_7 k_8 px_9 py_10 co_11 lx_12 ly_13 lf_14 = none).symm.trans hF)
          | succ n ih_37 =>
            intro k_7 k_8 px_9 py_10 co_11 lx_12 ly_13 lf_14 o_15 o_16 o_17 o_18 o_19 o_20 o_21 o_22 H locs ls hF hP hD hS hl kx_37
            have hF := (L_X3_enough_37_s st a0 a1 a2 n k_7 k_8 px_9 py_10 co_11 lx_12 ly_13 lf_14).symm.trans hF
            refine lv_iload hx hb dX3_enough_37 (lv_at hl 0 rfl) ?_
            refine lv_bipush (v := 16) hx hb dX3_enough_39 (by decide) ?_
            refine lv_icmp_ge (tgt := 83) hx hb dX3_enough_41 (by decide) (fun c_23 => ?_) (fun c_23 => ?_)
            · have hF := br1 hF c_23
              obtain ⟨rfl, rfl, rfl, rfl, rfl, rfl, rfl, rfl⟩ := tp8 hF
              exact kx_37 _ _ ls hP hD hS hl
            · have hF := br0 hF c_23
              refine lv_iload hx hb dX3_enough_44 (lv_at hl 1 rfl) ?_
              refine lv_aload_n hx hb dX3_enough_46 rfl (lv_at hl 2 rfl) ?_
              refine lv_iload_n hx hb dX3_enough_47 rfl (lv_at hl 3 rfl) ?_
              refine lv_iload hx hb dX3_enough_48 (lv_at hl 0 rfl) ?_
              obtain ⟨r_24, px_25, py_26, co_27, lx_28, ly_29, lf_30, hr_30, hF⟩ := bd7_u hF
              have hPc := hP.sub (ws' := [(h0, .inr (3, [.ref ast, .ref aim, .ref akp, .ref awx, .ref awy, .ref apx, .ref apy, .int co_11, .ref alx, .ref aly, .int lf_14])), (ast, .inl (cI, 54, .inl st)), (aim, .inl (cI, 108, .inl im)), (akp, .inl (cZ, 2, .inl kp)), (awx, .inl (cI, 8, .inl wx)), (awy, .inl (cI, 8, .inl wy)), (apx, .inl (cJ, 300, .inr (.inl px_9))), (apy, .inl (cJ, 300, .inr (.inl py_10))), (alx, .inl (cJ, 300, .inr (.inl lx_12))), (aly, .inl (cJ, 300, .inr (.inl ly_13)))]) [0, 1, 2, 3, 4, 5, 6, 7, 8, 9] rfl
              have hKc := hK.sub (tys' := [(cI, .int), (cZ, .boolean), (cJ, .long)]) [0, 1, 2] rfl
              have hDc := hD.sub (ws' := [(h0, .inr (3, [.ref ast, .ref aim, .ref akp, .ref awx, .ref awy, .ref apx, .ref apy, .int co_11, .ref alx, .ref aly, .int lf_14])), (ast, .inl (cI, 54, .inl st)), (aim, .inl (cI, 108, .inl im)), (akp, .inl (cZ, 2, .inl kp)), (awx, .inl (cI, 8, .inl wx)), (awy, .inl (cI, 8, .inl wy)), (apx, .inl (cJ, 300, .inr (.inl px_9))), (apy, .inl (cJ, 300, .inr (.inl py_10))), (alx, .inl (cJ, 300, .inr (.inl lx_12))), (aly, .inl (cJ, 300, .inr (.inl ly_13)))]) [0, 1, 2, 3, 4, 5, 6, 7, 8, 9] (by decide) rfl
              have hFc := va_free (wc := [(h0, .inr (3, [.ref ast, .ref aim, .ref akp, .ref awx, .ref awy, .ref apx, .ref apy, .int co_11, .ref alx, .ref aly, .int lf_14])), (ast, .inl (cI, 54, .inl st)), (aim, .inl (cI, 108, .inl im)), (akp, .inl (cZ, 2, .inl kp)), (awx, .inl (cI, 8, .inl wx)), (awy, .inl (cI, 8, .inl wy)), (apx, .inl (cJ, 300, .inr (.inl px_9))), (apy, .inl (cJ, 300, .inr (.inl py_10))), (alx, .inl (cJ, 300, .inr (.inl lx_12))), (aly, .inl (cJ, 300, .inr (.inl ly_13)))]) hD hS hA [0, 1, 2, 3, 4, 5, 6, 7, 8, 9] rfl
              refine va_calll (va_runV (As := [.int a0, .int k_7]) (rest := [.int k_8]) ⟨hx, hb, hml, hown, hts⟩ (c_X3_coverOf l dC dI h0 ast aim akp awx awy apx apy alx aly cI cZ cJ H.size st im kp wx wy px_9 py_10 co_11 lx_12 ly_13 lf_14 a0 k_7 r_24 px_25 py_26 co_27 lx_28 ly_29 lf_30 hr_30) (cwV 2 hts gX3_enough_X3_coverOf rfl rfl rfl (by decide +kernel) ⟨Nat.le_of_ble_eq_true rfl, Nat.le_of_ble_eq_true rfl⟩) ⟨fun a U g mk q => ⟨q.1, q.2.1, q.2.2.1, va_K.moved (u := U) (U := U.calling g mk a) (Vm.Alike.refl U.vm) q.2.2.2.1, q.2.2.2.2⟩, va_recv hKc hPc (ci := 3) (q0 := 0) rfl rfl, fun U hU hW => ⟨rfl, by rw [hU], by rw [hU]; exact hPc, va_K.moved hW.alike hKc, hDc.weaken (fun _ _ _ _ => trivial)⟩⟩ rfl rfl hl.1 rfl (lv_room (Nat.le_of_ble_eq_true rfl)) dX3_enough_50 ⟨Nat.le_of_ble_eq_true rfl, Nat.le_of_ble_eq_true rfl⟩) hS (fun q _ h => hFc q h) hFc (fun r_24' _ t H1 locs ht hvm hw hB hz1 hk1 hS => ?_)
              obtain ⟨hP1, hK1, hD1⟩ := hB
              rw [ht] at hP1
              obtain rfl := hw.symm
              obtain ⟨hP, hD⟩ := va_join (wr := []) (w1 := [(h0, .inr (3, [.ref ast, .ref aim, .ref akp, .ref awx, .ref awy, .ref apx, .ref apy, .int co_27, .ref alx, .ref aly, .int lf_30])), (ast, .inl (cI, 54, .inl st)), (aim, .inl (cI, 108, .inl im)), (akp, .inl (cZ, 2, .inl kp)), (awx, .inl (cI, 8, .inl wx)), (awy, .inl (cI, 8, .inl wy)), (apx, .inl (cJ, 300, .inr (.inl px_25))), (apy, .inl (cJ, 300, .inr (.inl py_26))), (alx, .inl (cJ, 300, .inr (.inl lx_28))), (aly, .inl (cJ, 300, .inr (.inl ly_29)))]) hP hD [0, 1, 2, 3, 4, 5, 6, 7, 8, 9] [] rfl rfl (by decide) (by decide) hk1 hFc hP1 hD1
              clear hP1 hK1 hD1 hk1 hFc
              generalize H1 = H at hP hS ⊢
              have hP : va_P (dC, dI) vwCl [(h0, .inr (3, [.ref ast, .ref aim, .ref akp, .ref awx, .ref awy, .ref apx, .ref apy, .int co_27, .ref alx, .ref aly, .int lf_30])), (ast, .inl (cI, 54, .inl st)), (aim, .inl (cI, 108, .inl im)), (akp, .inl (cZ, 2, .inl kp)), (awx, .inl (cI, 8, .inl wx)), (awy, .inl (cI, 8, .inl wy)), (apx, .inl (cJ, 300, .inr (.inl px_25))), (apy, .inl (cJ, 300, .inr (.inl py_26))), (alx, .inl (cJ, 300, .inr (.inl lx_28))), (aly, .inl (cJ, 300, .inr (.inl ly_29)))] H := hP
              have hD : va_D A [(h0, .inr (3, [.ref ast, .ref aim, .ref akp, .ref awx, .ref awy, .ref apx, .ref apy, .int co_27, .ref alx, .ref aly, .int lf_30])), (ast, .inl (cI, 54, .inl st)), (aim, .inl (cI, 108, .inl im)), (akp, .inl (cZ, 2, .inl kp)), (awx, .inl (cI, 8, .inl wx)), (awy, .inl (cI, 8, .inl wy)), (apx, .inl (cJ, 300, .inr (.inl px_25))), (apy, .inl (cJ, 300, .inr (.inl py_26))), (alx, .inl (cJ, 300, .inr (.inl lx_28))), (aly, .inl (cJ, 300, .inr (.inl ly_29)))] := hD
              refine lv_iload_n hx hb dX3_enough_53 rfl (lv_at hl 5 rfl) ?_
              refine lv_i2l (v := a2.toInt64) hx hb dX3_enough_54 rfl ?_
              refine lv_lmul hx hb dX3_enough_55 ?_
              refine lv_iload_n hx hb dX3_enough_56 rfl (lv_at hl 4 rfl) ?_
              refine lv_i2l (v := a1.toInt64) hx hb dX3_enough_57 rfl ?_
              refine lv_ldc2 (v := 498960) hx hb hown (hts (.constantLong RX3 111 (498960)) (by decide +kernel)) dX3_enough_58 ?_
              refine lv_lmul hx hb dX3_enough_61 ?_
              refine lc_lt (tgt := 73) hx hb dX3_enough_62 dX3_enough_63 (by decide) (fun c_31 => ?_) (fun c_31 => ?_)
              · have hF := br1 hF c_31
                refine lv_iconst (v := 0) hx hb dX3_enough_73 (by decide) ?_
                refine lv_ior hx hb dX3_enough_74 ?_
                refine lv_topi (fun v_32 ev_32 => ?_)
                have hF := nm_u hF ev_32
                refine lv_istore (lv' := [(4, .int v_32), (5, .int k_7), (0, .ref h0), (1, .int a0), (2, .int a1), (3, .int a2)]) hx hb dX3_enough_75 hl (by decide) rfl (fun ls hl => ?_)
                refine lv_iinc (v := (k_7 + (1 : Int32))) (lv' := [(5, .int (k_7 + (1 : Int32))), (4, .int v_32), (0, .ref h0), (1, .int a0), (2, .int a1), (3, .int a2)]) hx hb dX3_enough_77 hl (k := 1) rfl rfl (by decide) rfl (fun ls hl => ?_)
                refine lv_goto (tgt := 37) hx hb dX3_enough_80 (by decide) ?_
                exact ih_37 _ _ _ _ _ _ _ _ _ _ _ _ _ _ _ _ _ _ ls hF hP hD hS hl kx_37
              · have hF := br0 hF c_31
                refine lv_iconst (v := 1) hx hb dX3_enough_66 (by decide) ?_
                refine lv_iload hx hb dX3_enough_67 (lv_at hl 0 rfl) ?_
                refine lv_ishl hx hb dX3_enough_69 ?_
                refine lv_goto (tgt := 74) hx hb dX3_enough_70 (by decide) ?_
                refine lv_ior hx hb dX3_enough_74 ?_
                refine lv_topi (fun v_33 ev_33 => ?_)
                have hF := nm_u hF ev_33
                refine lv_istore (lv' := [(4, .int v_33), (5, .int k_7), (0, .ref h0), (1, .int a0), (2, .int a1), (3, .int a2)]) hx hb dX3_enough_75 hl (by decide) rfl (fun ls hl => ?_)
                refine lv_iinc (v := (k_7 + (1 : Int32))) (lv' := [(5, .int (k_7 + (1 : Int32))), (4, .int v_33), (0, .ref h0), (1, .int a0), (2, .int a1), (3, .int a2)]) hx hb dX3_enough_77 hl (k := 1) rfl rfl (by decide) rfl (fun ls hl => ?_)
                refine lv_goto (tgt := 37) hx hb dX3_enough_80 (by decide) ?_
                exact ih_37 _ _ _ _ _ _ _ _ _ _ _ _ _ _ _ _ _ _ ls hF hP hD hS hl kx_37
        refine lp_37 1000 (0 : Int32) (0 : Int32) px py co lx ly lf o_15 o_16 o_17 o_18 o_19 o_20 o_21 o_22 _ _ ls hL_37 hP hD hS hl (fun H locs ls hP hD hS hl => ?_)
        refine lv_iload hx hb dX3_enough_83 (lv_at hl 1 rfl) ?_
        obtain ⟨e0, rfl, rfl, rfl, rfl, rfl, rfl⟩ := tp7 hF
        rw [← hQ]
        exact W.iret (v := o_16) hx hb hr (fun t ht hW => ⟨⟨_, (), rfl, e0, by rw [ht]; exact hP, va_K.moved hW.alike hK, hD⟩, hS.F ht⟩) hS.2.2 dX3_enough_85
      · have hF := br1 hF c_6
        refine lv_bipush (v := -2) hx hb dX3_enough_28 (by decide) ?_
        obtain ⟨e0, rfl, rfl, rfl, rfl, rfl, rfl⟩ := tp7 hF
        rw [← hQ]
        exact W.iret (v := (-2 : Int32)) hx hb hr (fun t ht hW => ⟨⟨_, (), rfl, e0, by rw [ht]; exact hP, va_K.moved hW.alike hK, hD⟩, hS.F ht⟩) hS.2.2 dX3_enough_30
  · have hF := br1 hF c_2
    refine lv_iconst (v := -1) hx hb dX3_enough_7 (by decide) ?_
    obtain ⟨e0, rfl, rfl, rfl, rfl, rfl, rfl⟩ := tp7 hF
    rw [← hQ]
    exact W.iret (v := (-1 : Int32)) hx hb hr (fun t ht hW => ⟨⟨_, (), rfl, e0, by rw [ht]; exact hP, va_K.moved hW.alike hK, hD⟩, hS.F ht⟩) hS.2.2 dX3_enough_8

