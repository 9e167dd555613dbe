def L_X3_putAside_2 (st : Nat → Int32) (a0 : Int32) : Nat → Int32 → (Nat → Int32) → (Nat → Int32) → Option (Int32 × (Nat → Int32) × (Nat → Int32))
  | 0, _, _, _ => none
  | n + 1, k_1, wx_2, wy_3 =>
    gd (ib ((0 : Int32) + a0) 54) (
    if (st ((0 : Int32) + a0).toNatClampNeg) ≤ k_1 then
      some (k_1, wx_2, wy_3)
    else
      bd1 (P_X3_place a0 k_1) (fun r_8 =>
      gd (ib ((6 : Int32) + r_8) 54) (
      gd (ib k_1 8) (
      bd1 (P_X3_place a0 k_1) (fun r_9 =>
      gd (ib ((30 : Int32) + r_9) 54) (
      gd (ib k_1 8) (
      L_X3_putAside_2 st a0 n (k_1 + (1 : Int32)) (upd wx_2 k_1.toNatClampNeg (st ((6 : Int32) + r_8).toNatClampNeg)) (upd wy_3 k_1.toNatClampNeg (st ((30 : Int32) + r_9).toNatClampNeg)))))))))
theorem L_X3_putAside_2_s (st : Nat → Int32) (a0 : Int32) (n : Nat) (k_1 : Int32) (wx_2 : Nat → Int32) (wy_3 : Nat → Int32) : L_X3_putAside_2 st a0 (n + 1) k_1 wx_2 wy_3 =
    (gd (ib ((0 : Int32) + a0) 54) (
    if (st ((0 : Int32) + a0).toNatClampNeg) ≤ k_1 then
      some (k_1, wx_2, wy_3)
    else
      bd1 (P_X3_place a0 k_1) (fun r_8 =>
      gd (ib ((6 : Int32) + r_8) 54) (
      gd (ib k_1 8) (
      bd1 (P_X3_place a0 k_1) (fun r_9 =>
      gd (ib ((30 : Int32) + r_9) 54) (
      gd (ib k_1 8) (
      L_X3_putAside_2 st a0 n (k_1 + (1 : Int32)) (upd wx_2 k_1.toNatClampNeg (st ((6 : Int32) + r_8).toNatClampNeg)) (upd wy_3 k_1.toNatClampNeg (st ((30 : Int32) + r_9).toNatClampNeg)))))))))) := rfl

def P_X3_putAside (a0 : Int32) (st : Nat → Int32) (wx : Nat → Int32) (wy : Nat → Int32) : Option ((Nat → Int32) × (Nat → Int32)) :=
  bd3 (L_X3_putAside_2 st a0 1000 (0 : Int32) wx wy) (fun o_4 o_5 o_6 =>
  some (o_5, o_6))

def rm_X3_putAside : Room := { frames := 1, cells := 0, slots := 0, locals := 21 }

set_option maxHeartbeats 4000000 in
set_option maxRecDepth 100000 in
theorem c_X3_putAside (l : Launch) (dC : Nat → ClassId) (dI : Nat → Nat → Nat) (h0 ast aim akp awx awy apx apy alx aly : Nat) (cI cZ cJ : ClassId) (hsz0 : Nat) (st : Nat → Int32) (im : Nat → Int32) (kp : Nat → Int32) (wx : Nat → Int32) (wy : Nat → Int32) (px : Nat → Int64) (py : Nat → Int64) (co : Int32) (lx : Nat → Int64) (ly : Nat → Int64) (lf : Int32) (a0 : Int32) (wxN : Nat → Int32) (wyN : Nat → Int32) (hF : P_X3_putAside a0 st wx wy = some (wxN, wyN)) : Met l yX3_putAside wsX3_putAside rm_X3_putAside (va_Pc [.ref h0, .int a0] (fun U => U.heap.size = hsz0 ∧ va_P (dC, dI) vwCl [(h0, .inr (3, [.ref ast, .ref aim, .ref akp, .ref awx, .ref awy, .ref apx, .ref apy, .int co, .ref alx, .ref aly, .int lf])), (ast, .inl (cI, 54, .inl st)), (aim, .inl (cI, 108, .inl im)), (akp, .inl (cZ, 2, .inl kp)), (awx, .inl (cI, 8, .inl wx)), (awy, .inl (cI, 8, .inl wy)), (apx, .inl (cJ, 300, .inr (.inl px))), (apy, .inl (cJ, 300, .inr (.inl py))), (alx, .inl (cJ, 300, .inr (.inl lx))), (aly, .inl (cJ, 300, .inr (.inl ly)))] U.heap ∧ va_K (dC, dI) vwCl [(cI, .int), (cZ, .boolean), (cJ, .long)] U ∧ va_D (fun _ => True) [(h0, .inr (3, [.ref ast, .ref aim, .ref akp, .ref awx, .ref awy, .ref apx, .ref apy, .int co, .ref alx, .ref aly, .int lf])), (ast, .inl (cI, 54, .inl st)), (aim, .inl (cI, 108, .inl im)), (akp, .inl (cZ, 2, .inl kp)), (awx, .inl (cI, 8, .inl wx)), (awy, .inl (cI, 8, .inl wy)), (apx, .inl (cJ, 300, .inr (.inl px))), (apy, .inl (cJ, 300, .inr (.inl py))), (alx, .inl (cJ, 300, .inr (.inl lx))), (aly, .inl (cJ, 300, .inr (.inl ly)))])) (va_Qv (fun (_ : Unit) => True) (fun _ t => va_P (dC, dI) vwCl [(h0, .inr (3, [.ref ast, .ref aim, .ref akp, .ref awx, .ref awy, .ref apx, .ref apy, .int co, .ref alx, .ref aly, .int lf])), (ast, .inl (cI, 54, .inl st)), (aim, .inl (cI, 108, .inl im)), (akp, .inl (cZ, 2, .inl kp)), (awx, .inl (cI, 8, .inl wxN)), (awy, .inl (cI, 8, .inl wyN)), (apx, .inl (cJ, 300, .inr (.inl px))), (apy, .inl (cJ, 300, .inr (.inl py))), (alx, .inl (cJ, 300, .inr (.inl lx))), (aly, .inl (cJ, 300, .inr (.inl ly)))] t.heap ∧ va_K (dC, dI) vwCl [(cI, .int), (cZ, .boolean), (cJ, .long)] t ∧ va_D (va_A [(h0, .inr (3, [.ref ast, .ref aim, .ref akp, .ref awx, .ref awy, .ref apx, .ref apy, .int co, .ref alx, .ref aly, .int lf])), (ast, .inl (cI, 54, .inl st)), (aim, .inl (cI, 108, .inl im)), (akp, .inl (cZ, 2, .inl kp)), (awx, .inl (cI, 8, .inl wx)), (awy, .inl (cI, 8, .inl wy)), (apx, .inl (cJ, 300, .inr (.inl px))), (apy, .inl (cJ, 300, .inr (.inl py))), (alx, .inl (cJ, 300, .inr (.inl lx))), (aly, .inl (cJ, 300, .inr (.inl ly)))] hsz0) [(h0, .inr (3, [.ref ast, .ref aim, .ref akp, .ref awx, .ref awy, .ref apx, .ref apy, .int co, .ref alx, .ref aly, .int lf])), (ast, .inl (cI, 54, .inl st)), (aim, .inl (cI, 108, .inl im)), (akp, .inl (cZ, 2, .inl kp)), (awx, .inl (cI, 8, .inl wxN)), (awy, .inl (cI, 8, .inl wyN)), (apx, .inl (cJ, 300, .inr (.inl px))), (apy, .inl (cJ, 300, .inr (.inl py))), (alx, .inl (cJ, 300, .inr (.inl lx))), (aly, .inl (cJ, 300, .inr (.inl ly)))]) (va_A [(h0, .inr (3, [.ref ast, .ref aim, .ref akp, .ref awx, .ref awy, .ref apx, .ref apy, .int co, .ref alx, .ref aly, .int lf])), (ast, .inl (cI, 54, .inl st)), (aim, .inl (cI, 108, .inl im)), (akp, .inl (cZ, 2, .inl kp)), (awx, .inl (cI, 8, .inl wx)), (awy, .inl (cI, 8, .inl wy)), (apx, .inl (cJ, 300, .inr (.inl px))), (apy, .inl (cJ, 300, .inr (.inl py))), (alx, .inl (cJ, 300, .inr (.inl lx))), (aly, .inl (cJ, 300, .inr (.inl ly)))] hsz0)) 0 0 (va_A [(h0, .inr (3, [.ref ast, .ref aim, .ref akp, .ref awx, .ref awy, .ref apx, .ref apy, .int co, .ref alx, .ref aly, .int lf])), (ast, .inl (cI, 54, .inl st)), (aim, .inl (cI, 108, .inl im)), (akp, .inl (cZ, 2, .inl kp)), (awx, .inl (cI, 8, .inl wx)), (awy, .inl (cI, 8, .inl wy)), (apx, .inl (cJ, 300, .inr (.inl px))), (apy, .inl (cJ, 300, .inr (.inl py))), (alx, .inl (cJ, 300, .inr (.inl lx))), (aly, .inl (cJ, 300, .inr (.inl ly)))] hsz0) := by
  refine Met.ofW (cc := cX3_putAside) (maxL := 3) (ret := none) (by decide) rfl ?_
  intro p e s m args below meth c s₁ B hml hv
  change W p l e rm_X3_putAside s m args below meth c s.heap [] 0 0 _ _
  obtain ⟨hv, hsz, hP, hK, hD0⟩ := hv
  have hx := B.exec
  have hb := B.bytes
  have hr := B.returns
  have hts := atoms_spec (ws := wsX3_putAside) B.pre
  have hown : s.vm.findClass RX3 = some m.cls := findClass_of_methodNamed B.named
  have hlocks := B.notSynchronized
  subst hsz
  have hD := hD0.self (sz := s.heap.size)
  generalize hAe : va_A [(h0, .inr (3, [.ref ast, .ref aim, .ref akp, .ref awx, .ref awy, .ref apx, .ref apy, .int co, .ref alx, .ref aly, .int lf])), (ast, .inl (cI, 54, .inl st)), (aim, .inl (cI, 108, .inl im)), (akp, .inl (cZ, 2, .inl kp)), (awx, .inl (cI, 8, .inl wx)), (awy, .inl (cI, 8, .inl wy)), (apx, .inl (cJ, 300, .inr (.inl px))), (apy, .inl (cJ, 300, .inr (.inl py))), (alx, .inl (cJ, 300, .inr (.inl lx))), (aly, .inl (cJ, 300, .inr (.inl ly)))] s.heap.size = A at hD ⊢
  have hA : ∀ q : Nat, s.heap.size ≤ q → A q := fun q h => by rw [← hAe]; exact Or.inr h
  have hS : va_S A s.heap s.heap [] := va_S.rf
  generalize hQ : MQ below (va_Qv (fun (_ : Unit) => True) (fun _ t => va_P (dC, dI) vwCl [(h0, .inr (3, [.ref ast, .ref aim, .ref akp, .ref awx, .ref awy, .ref apx, .ref apy, .int co, .ref alx, .ref aly, .int lf])), (ast, .inl (cI, 54, .inl st)), (aim, .inl (cI, 108, .inl im)), (akp, .inl (cZ, 2, .inl kp)), (awx, .inl (cI, 8, .inl wxN)), (awy, .inl (cI, 8, .inl wyN)), (apx, .inl (cJ, 300, .inr (.inl px))), (apy, .inl (cJ, 300, .inr (.inl py))), (alx, .inl (cJ, 300, .inr (.inl lx))), (aly, .inl (cJ, 300, .inr (.inl ly)))] t.heap ∧ va_K (dC, dI) vwCl [(cI, .int), (cZ, .boolean), (cJ, .long)] t ∧ va_D A [(h0, .inr (3, [.ref ast, .ref aim, .ref akp, .ref awx, .ref awy, .ref apx, .ref apy, .int co, .ref alx, .ref aly, .int lf])), (ast, .inl (cI, 54, .inl st)), (aim, .inl (cI, 108, .inl im)), (akp, .inl (cZ, 2, .inl kp)), (awx, .inl (cI, 8, .inl wxN)), (awy, .inl (cI, 8, .inl wyN)), (apx, .inl (cJ, 300, .inr (.inl px))), (apy, .inl (cJ, 300, .inr (.inl py))), (alx, .inl (cJ, 300, .inr (.inl lx))), (aly, .inl (cJ, 300, .inr (.inl ly)))]) A) args s 0 0 A = Q
  have hl := lv_entry ([.ref h0, .int a0]) (n := 3) (Nat.le_of_ble_eq_true rfl)
  have hE : entryFrame m args 3 = F0 m 0 ((lg_sl ([.ref h0, .int a0]) ++ List.replicate (3 - (lg_sl ([.ref h0, .int a0])).length) Slot.unset).toArray) [] := by rw [hv]; exact lg_entry_eq m _ 3
  rw [hE]
  generalize (lg_sl ([.ref h0, .int a0]) ++ List.replicate (3 - (lg_sl ([.ref h0, .int a0])).length) Slot.unset).toArray = ls at hl ⊢
  have hl : lv_has ls 3 [(0, .ref h0), (1, .int a0)] := hl
  unfold P_X3_putAside at hF
  refine lv_iconst (v := 0) hx hb dX3_putAside_0 (by decide) ?_
  refine lv_istore_n (lv' := [(2, .int (0 : Int32)), (0, .ref h0), (1, .int a0)]) hx hb dX3_putAside_1 rfl hl (by decide) rfl (fun ls hl => ?_)
  obtain ⟨o_4, o_5, o_6, hL_2, hF⟩ := bd3_u hF
  have lp_2 : ∀ (n : Nat) (k_1 : Int32) (wx_2 : Nat → Int32) (wy_3 : Nat → Int32) (o_4 : Int32) (o_5 : Nat → Int32) (o_6 : Nat → Int32) (H : Heap) (locs : List Loc) (ls : Array Slot), L_X3_putAside_2 st a0 n k_1 wx_2 wy_3 = some (o_4, o_5, o_6) → va_P (dC, dI) vwCl [(h0, .inr (3, [.ref ast, .ref aim, .ref akp, .ref awx, .ref awy, .ref apx, .ref apy, .int co, .ref alx, .ref aly, .int lf])), (ast, .inl (cI, 54, .inl st)), (aim, .inl (cI, 108, .inl im)), (akp, .inl (cZ, 2, .inl kp)), (awx, .inl (cI, 8, .inl wx_2)), (awy, .inl (cI, 8, .inl wy_3)), (apx, .inl (cJ, 300, .inr (.inl px))), (apy, .inl (cJ, 300, .inr (.inl py))), (alx, .inl (cJ, 300, .inr (.inl lx))), (aly, .inl (cJ, 300, .inr (.inl ly)))] H → va_D A [(h0, .inr (3, [.ref ast, .ref aim, .ref akp, .ref awx, .ref awy, .ref apx, .ref apy, .int co, .ref alx, .ref aly, .int lf])), (ast, .inl (cI, 54, .inl st)), (aim, .inl (cI, 108, .inl im)), (akp, .inl (cZ, 2, .inl kp)), (awx, .inl (cI, 8, .inl wx_2)), (awy, .inl (cI, 8, .inl wy_3)), (apx, .inl (cJ, 300, .inr (.inl px))), (apy, .inl (cJ, 300, .inr (.inl py))), (alx, .inl (cJ, 300, .inr (.inl lx))), (aly, .inl (cJ, 300, .inr (.inl ly)))] → va_S A s.heap H locs → lv_has ls 3 [(2, .int k_1), (0, .ref h0), (1, .int a0)] → (∀ (H : Heap) (locs : List Loc) (ls : Array Slot), va_P (dC, dI) vwCl [(h0, .inr (3, [.ref ast, .ref aim, .ref akp, .ref awx, .ref awy, .ref apx, .ref apy, .int co, .ref alx, .ref aly, .int lf])), (ast, .inl (cI, 54, .inl st)), (aim, .inl (cI, 108, .inl im)), (akp, .inl (cZ, 2, .inl kp)), (awx, .inl (cI, 8, .inl o_5)), (awy, .inl (cI, 8, .inl o_6)), (apx, .inl (cJ, 300, .inr (.inl px))), (apy, .inl (cJ, 300, .inr (.inl py))), (alx, .inl (cJ, 300, .inr (.inl lx))), (aly, .inl (cJ, 300, .inr (.inl ly)))] H → va_D A [(h0, .inr (3, [.ref ast, .ref aim, .ref akp, .ref awx, .ref awy, .ref apx, .ref apy, .int co, .ref alx, .ref aly, .int lf])), (ast, .inl (cI, 54, .inl st)), (aim, .inl (cI, 108, .inl im)), (akp, .inl (cZ, 2, .inl kp)), (awx, .inl (cI, 8, .inl o_5)), (awy, .inl (cI, 8, .inl o_6)), (apx, .inl (cJ, 300, .inr (.inl px))), (apy, .inl (cJ, 300, .inr (.inl py))), (alx, .inl (cJ, 300, .inr (.inl lx))), (aly, .inl (cJ, 300, .inr (.inl ly)))] → va_S A s.heap H locs → lv_has ls 3 [(2, .int o_4), (0, .ref h0), (1, .int a0)] → W p l e rm_X3_putAside s m args below meth c H locs 0 0 Q (F0 m 58 ls [])) → W p l e rm_X3_putAside s m args below meth c H locs 0 0 Q (F0 m 2 ls []) := by
    intro n
    induction n with
    | zero =>
      intro k_1 wx_2 wy_3 o_4 o_5 o_6 H locs ls hF
      exact nn ((rfl : L_X3_putAside_2 st a0 0 k_1 wx_2 wy_3 = none).symm.trans hF)
    | succ n ih_2 =>
      intro k_1 wx_2 wy_3 o_4 o_5 o_6 H locs ls hF hP hD hS hl kx_2
      have hF := (L_X3_putAside_2_s st a0 n k_1 wx_2 wy_3).symm.trans hF
      refine lv_iload_n hx hb dX3_putAside_2 rfl (lv_at hl 0 rfl) ?_
      refine lv_aload_n hx hb dX3_putAside_3 rfl (lv_at hl 1 rfl) ?_
      refine va_get (D := (dC, dI)) (ci := 3) (v := .ref ast) (C := RX3) (T := TX3) (N := 11) hx hb hts (by decide +kernel) hown hK hP 0 rfl rfl 0 (by decide) (hts (.fieldLink RX3 7 "DotCoverModel" "state" "[I") (by decide +kernel)) (fun _ h9 => h9) rfl dX3_putAside_4 ?_
      refine lv_iconst (v := 0) hx hb dX3_putAside_7 (by decide) ?_
      refine lv_iload_n hx hb dX3_putAside_8 rfl (lv_at hl 2 rfl) ?_
      refine lv_iadd hx hb dX3_putAside_9 ?_
      obtain ⟨hi_10, hF⟩ := gd_u hF
      refine va_iald hx hb hK hP 1 0 rfl rfl (in_u hi_10) dX3_putAside_10 ?_
      refine lv_icmp_ge (tgt := 58) hx hb dX3_putAside_11 (by decide) (fun c_7 => ?_) (fun c_7 => ?_)
      · have hF := br1 hF c_7
        obtain ⟨rfl, rfl, rfl⟩ := tp3 hF
        exact kx_2 _ _ ls hP hD hS hl
      · have hF := br0 hF c_7
        refine lv_aload_n hx hb dX3_putAside_14 rfl (lv_at hl 1 rfl) ?_
        refine va_get (D := (dC, dI)) (ci := 3) (v := .ref awx) (C := RX3) (T := TX3) (N := 11) hx hb hts (by decide +kernel) hown hK hP 0 rfl rfl 3 (by decide) (hts (.fieldLink RX3 20 "DotCoverModel" "wasX" "[I") (by decide +kernel)) (fun _ h9 => h9) rfl dX3_putAside_15 ?_
        refine lv_iload_n hx hb dX3_putAside_18 rfl (lv_at hl 0 rfl) ?_
        refine lv_aload_n hx hb dX3_putAside_19 rfl (lv_at hl 1 rfl) ?_
        refine va_get (D := (dC, dI)) (ci := 3) (v := .ref ast) (C := RX3) (T := TX3) (N := 11) hx hb hts (by decide +kernel) hown hK hP 0 rfl rfl 0 (by decide) (hts (.fieldLink RX3 7 "DotCoverModel" "state" "[I") (by decide +kernel)) (fun _ h9 => h9) rfl dX3_putAside_20 ?_
        refine lv_bipush (v := 6) hx hb dX3_putAside_23 (by decide) ?_
        refine lv_iload_n hx hb dX3_putAside_25 rfl (lv_at hl 2 rfl) ?_
        refine lv_iload_n hx hb dX3_putAside_26 rfl (lv_at hl 0 rfl) ?_
        obtain ⟨r_8, hr_8, hF⟩ := bd1_u hF
        refine vp_callSi (W.runS (As := [.int a0, .int k_1]) (rest := [.int (6 : Int32), .ref ast, .int k_1, .ref awx]) ⟨hx, hb, hml, hown, hts⟩ (c_X3_place l a0 k_1 r_8 hr_8) (va_cwS 2 hts gX3_putAside_X3_place rfl rfl rfl (by decide +kernel) ⟨Nat.le_of_ble_eq_true rfl, Nat.le_of_ble_eq_true rfl⟩) preEq rfl rfl hl.1 rfl (lv_room (Nat.le_of_ble_eq_true rfl)) dX3_putAside_27 ⟨Nat.le_of_ble_eq_true rfl, Nat.le_of_ble_eq_true rfl⟩) (fun r_8' qr_8 => ?_)
        obtain rfl := qr_8.symm
        refine lv_iadd hx hb dX3_putAside_30 ?_
        obtain ⟨hi_31, hF⟩ := gd_u hF
        refine va_iald hx hb hK hP 1 0 rfl rfl (in_u hi_31) dX3_putAside_31 ?_
        obtain ⟨hi_32, hF⟩ := gd_u hF
        refine va_iast hx hb hK hP hD hS 4 0 rfl rfl (in_u hi_32) dX3_putAside_32 (fun H locs hP hD hS => ?_)
        have hP : va_P (dC, dI) vwCl [(h0, .inr (3, [.ref ast, .ref aim, .ref akp, .ref awx, .ref awy, .ref apx, .ref apy, .int co, .ref alx, .ref aly, .int lf])), (ast, .inl (cI, 54, .inl st)), (aim, .inl (cI, 108, .inl im)), (akp, .inl (cZ, 2, .inl kp)), (awx, .inl (cI, 8, .inl (upd wx_2 k_1.toNatClampNeg (st ((6 : Int32) + r_8).toNatClampNeg)))), (awy, .inl (cI, 8, .inl wy_3)), (apx, .inl (cJ, 300, .inr (.inl px))), (apy, .inl (cJ, 300, .inr (.inl py))), (alx, .inl (cJ, 300, .inr (.inl lx))), (aly, .inl (cJ, 300, .inr (.inl ly)))] H := hP
        have hD : va_D A [(h0, .inr (3, [.ref ast, .ref aim, .ref akp, .ref awx, .ref awy, .ref apx, .ref apy, .int co, .ref alx, .ref aly, .int lf])), (ast, .inl (cI, 54, .inl st)), (aim, .inl (cI, 108, .inl im)), (akp, .inl (cZ, 2, .inl kp)), (awx, .inl (cI, 8, .inl (upd wx_2 k_1.toNatClampNeg (st ((6 : Int32) + r_8).toNatClampNeg)))), (awy, .inl (cI, 8, .inl wy_3)), (apx, .inl (cJ, 300, .inr (.inl px))), (apy, .inl (cJ, 300, .inr (.inl py))), (alx, .inl (cJ, 300, .inr (.inl lx))), (aly, .inl (cJ, 300, .inr (.inl ly)))] := hD
        refine lv_aload_n hx hb dX3_putAside_33 rfl (lv_at hl 1 rfl) ?_
        refine va_get (D := (dC, dI)) (ci := 3) (v := .ref awy) (C := RX3) (T := TX3) (N := 11) hx hb hts (by decide +kernel) hown hK hP 0 rfl rfl 4 (by decide) (hts (.fieldLink RX3 23 "DotCoverModel" "wasY" "[I") (by decide +kernel)) (fun _ h9 => h9) rfl dX3_putAside_34 ?_
        refine lv_iload_n hx hb dX3_putAside_37 rfl (lv_at hl 0 rfl) ?_
        refine lv_aload_n hx hb dX3_putAside_38 rfl (lv_at hl 1 rfl) ?_
        refine va_get (D := (dC, dI)) (ci := 3) (v := .ref ast) (C := RX3) (T := TX3) (N := 11) hx hb hts (by decide +kernel) hown hK hP 0 rfl rfl 0 (by decide) (hts (.fieldLink RX3 7 "DotCoverModel" "state" "[I") (by decide +kernel)) (fun _ h9 => h9) rfl dX3_putAside_39 ?_
        refine lv_bipush (v := 30) hx hb dX3_putAside_42 (by decide) ?_
        refine lv_iload_n hx hb dX3_putAside_44 rfl (lv_at hl 2 rfl) ?_
        refine lv_iload_n hx hb dX3_putAside_45 rfl (lv_at hl 0 rfl) ?_
        obtain ⟨r_9, hr_9, hF⟩ := bd1_u hF
        refine vp_callSi (W.runS (As := [.int a0, .int k_1]) (rest := [.int (30 : Int32), .ref ast, .int k_1, .ref awy]) ⟨hx, hb, hml, hown, hts⟩ (c_X3_place l a0 k_1 r_9 hr_9) (va_cwS 2 hts gX3_putAside_X3_place rfl rfl rfl (by decide +kernel) ⟨Nat.le_of_ble_eq_true rfl, Nat.le_of_ble_eq_true rfl⟩) preEq rfl rfl hl.1 rfl (lv_room (Nat.le_of_ble_eq_true rfl)) dX3_putAside_46 ⟨Nat.le_of_ble_eq_true rfl, Nat.le_of_ble_eq_true rfl⟩) (fun r_9' qr_9 => ?_)
        obtain rfl := qr_9.symm
        refine lv_iadd hx hb dX3_putAside_49 ?_
        obtain ⟨hi_50, hF⟩ := gd_u hF
        refine va_iald hx hb hK hP 1 0 rfl rfl (in_u hi_50) dX3_putAside_50 ?_
        obtain ⟨hi_51, hF⟩ := gd_u hF
        refine va_iast hx hb hK hP hD hS 5 0 rfl rfl (in_u hi_51) dX3_putAside_51 (fun H locs hP hD hS => ?_)
        have hP : va_P (dC, dI) vwCl [(h0, .inr (3, [.ref ast, .ref aim, .ref akp, .ref awx, .ref awy, .ref apx, .ref apy, .int co, .ref alx, .ref aly, .int lf])), (ast, .inl (cI, 54, .inl st)), (aim, .inl (cI, 108, .inl im)), (akp, .inl (cZ, 2, .inl kp)), (awx, .inl (cI, 8, .inl (upd wx_2 k_1.toNatClampNeg (st ((6 : Int32) + r_8).toNatClampNeg)))), (awy, .inl (cI, 8, .inl (upd wy_3 k_1.toNatClampNeg (st ((30 : Int32) + r_9).toNatClampNeg)))), (apx, .inl (cJ, 300, .inr (.inl px))), (apy, .inl (cJ, 300, .inr (.inl py))), (alx, .inl (cJ, 300, .inr (.inl lx))), (aly, .inl (cJ, 300, .inr (.inl ly)))] H := hP
        have hD : va_D A [(h0, .inr (3, [.ref ast, .ref aim, .ref akp, .ref awx, .ref awy, .ref apx, .ref apy, .int co, .ref alx, .ref aly, .int lf])), (ast, .inl (cI, 54, .inl st)), (aim, .inl (cI, 108, .inl im)), (akp, .inl (cZ, 2, .inl kp)), (awx, .inl (cI, 8, .inl (upd wx_2 k_1.toNatClampNeg (st ((6 : Int32) + r_8).toNatClampNeg)))), (awy, .inl (cI, 8, .inl (upd wy_3 k_1.toNatClampNeg (st ((30 : Int32) + r_9).toNatClampNeg)))), (apx, .inl (cJ, 300, .inr (.inl px))), (apy, .inl (cJ, 300, .inr (.inl py))), (alx, .inl (cJ, 300, .inr (.inl lx))), (aly, .inl (cJ, 300, .inr (.inl ly)))] := hD
        refine lv_iinc (v := (k_1 + (1 : Int32))) (lv' := [(2, .int (k_1 + (1 : Int32))), (0, .ref h0), (1, .int a0)]) hx hb dX3_putAside_52 hl (k := 0) rfl rfl (by decide) rfl (fun ls hl => ?_)
        refine lv_goto (tgt := 2) hx hb dX3_putAside_55 (by decide) ?_
        exact ih_2 _ _ _ _ _ _ _ _ ls hF hP hD hS hl kx_2
  refine lp_2 1000 (0 : Int32) wx wy o_4 o_5 o_6 _ _ ls hL_2 hP hD hS hl (fun H locs ls hP hD hS hl => ?_)
  obtain ⟨rfl, rfl⟩ := tp2 hF
  rw [← hQ]
  exact W.vret hx hb hr (fun t ht hW => ⟨⟨(), rfl, trivial, by rw [ht]; exact hP, va_K.moved hW.alike hK, hD⟩, hS.F ht⟩) hS.2.2 dX3_putAside_58

def P_X3_layFrom (a0 : Int32) (a1 : Int32) (a2 : Int32) (st : Nat → Int32) (wx : Nat → Int32) (wy : Nat → Int32) : Option ((Nat → Int32)) :=
  bd1 (P_X3_place a0 a1) (fun r_1 =>
  gd (ib a2 8) (
  gd (ib ((6 : Int32) + r_1) 54) (
  bd1 (P_X3_place a0 a1) (fun r_2 =>
  gd (ib a2 8) (
  gd (ib ((30 : Int32) + r_2) 54) (
  some (upd (upd st ((6 : Int32) + r_1).toNatClampNeg (wx a2.toNatClampNeg)) ((30 : Int32) + r_2).toNatClampNeg (wy a2.toNatClampNeg))))))))

def rm_X3_layFrom : Room := { frames := 1, cells := 0, slots := 0, locals := 21 }

set_option maxHeartbeats 4000000 in
set_option maxRecDepth 100000 in
theorem c_X3_layFrom (l : Launch) (dC : Nat → ClassId) (dI : Nat → Nat → Nat) (h0 ast aim akp awx awy apx apy alx aly : Nat) (cI cZ cJ : ClassId) (hsz0 : Nat) (st : Nat → Int32) (im : Nat → Int32) (kp : Nat → Int32) (wx : Nat → Int32) (wy : Nat → Int32) (px : Nat → Int64) (py : Nat → Int64) (co : Int32) (lx : Nat → Int64) (ly : Nat → Int64) (lf : Int32) (a0 : Int32) (a1 : Int32) (a2 : Int32) (stN : Nat → Int32) (hF : P_X3_layFrom a0 a1 a2 st wx wy = some stN) : Met l yX3_layFrom wsX3_layFrom rm_X3_layFrom (va_Pc [.ref h0, .int a0, .int a1, .int a2] (fun U => U.heap.size = hsz0 ∧ va_P (dC, dI) vwCl [(h0, .inr (3, [.ref ast, .ref aim, .ref akp, .ref awx, .ref awy, .ref apx, .ref apy, .int co, .ref alx, .ref aly, .int lf])), (ast, .inl (cI, 54, .inl st)), (aim, .inl (cI, 108, .inl im)), (akp, .inl (cZ, 2, .inl kp)), (awx, .inl (cI, 8, .inl wx)), (awy, .inl (cI, 8, .inl wy)), (apx, .inl (cJ, 300, .inr (.inl px))), (apy, .inl (cJ, 300, .inr (.inl py))), (alx, .inl (cJ, 300, .inr (.inl lx))), (aly, .inl (cJ, 300, .inr (.inl ly)))] U.heap ∧ va_K (dC, dI) vwCl [(cI, .int), (cZ, .boolean), (cJ, .long)] U ∧ va_D (fun _ => True) [(h0, .inr (3, [.ref ast, .ref aim, .ref akp, .ref awx, .ref awy, .ref apx, .ref apy, .int co, .ref alx, .ref aly, .int lf])), (ast, .inl (cI, 54, .inl st)), (aim, .inl (cI, 108, .inl im)), (akp, .inl (cZ, 2, .inl kp)), (awx, .inl (cI, 8, .inl wx)), (awy, .inl (cI, 8, .inl wy)), (apx, .inl (cJ, 300, .inr (.inl px))), (apy, .inl (cJ, 300, .inr (.inl py))), (alx, .inl (cJ, 300, .inr (.inl lx))), (aly, .inl (cJ, 300, .inr (.inl ly)))])) (va_Qv (fun (_ : Unit) => True) (fun _ t => va_P (dC, dI) vwCl [(h0, .inr (3, [.ref ast, .ref aim, .ref akp, .ref awx, .ref awy, .ref apx, .ref apy, .int co, .ref alx, .ref aly, .int lf])), (ast, .inl (cI, 54, .inl stN)), (aim, .inl (cI, 108, .inl im)), (akp, .inl (cZ, 2, .inl kp)), (awx, .inl (cI, 8, .inl wx)), (awy, .inl (cI, 8, .inl wy)), (apx, .inl (cJ, 300, .inr (.inl px))), (apy, .inl (cJ, 300, .inr (.inl py))), (alx, .inl (cJ, 300, .inr (.inl lx))), (aly, .inl (cJ, 300, .inr (.inl ly)))] t.heap ∧ va_K (dC, dI) vwCl [(cI, .int), (cZ, .boolean), (cJ, .long)] t ∧ va_D (va_A [(h0, .inr (3, [.ref ast, .ref aim, .ref akp, .ref awx, .ref awy, .ref apx, .ref apy, .int co, .ref alx, .ref aly, .int lf])), (ast, .inl (cI, 54, .inl st)), (aim, .inl (cI, 108, .inl im)), (akp, .inl (cZ, 2, .inl kp)), (awx, .inl (cI, 8, .inl wx)), (awy, .inl (cI, 8, .inl wy)), (apx, .inl (cJ, 300, .inr (.inl px))), (apy, .inl (cJ, 300, .inr (.inl py))), (alx, .inl (cJ, 300, .inr (.inl lx))), (aly, .inl (cJ, 300, .inr (.inl ly)))] hsz0) [(h0, .inr (3, [.ref ast, .ref aim, .ref akp, .ref awx, .ref awy, .ref apx, .ref apy, .int co, .ref alx, .ref aly, .int lf])), (ast, .inl (cI, 54, .inl stN)), (aim, .inl (cI, 108, .inl im)), (akp, .inl (cZ, 2, .inl kp)), (awx, .inl (cI, 8, .inl wx)), (awy, .inl (cI, 8, .inl wy)), (apx, .inl (cJ, 300, .inr (.inl px))), (apy, .inl (cJ, 300, .inr (.inl py))), (alx, .inl (cJ, 300, .inr (.inl lx))), (aly, .inl (cJ, 300, .inr (.inl ly)))]) (va_A [(h0, .inr (3, [.ref ast, .ref aim, .ref akp, .ref awx, .ref awy, .ref apx, .ref apy, .int co, .ref alx, .ref aly, .int lf])), (ast, .inl (cI, 54, .inl st)), (aim, .inl (cI, 108, .inl im)), (akp, .inl (cZ, 2, .inl kp)), (awx, .inl (cI, 8, .inl wx)), (awy, .inl (cI, 8, .inl wy)), (apx, .inl (cJ, 300, .inr (.inl px))), (apy, .inl (cJ, 300, .inr (.inl py))), (alx, .inl (cJ, 300, .inr (.inl lx))), (aly, .inl (cJ, 300, .inr (.inl ly)))] hsz0)) 0 0 (va_A [(h0, .inr (3, [.ref ast, .ref aim, .ref akp, .ref awx, .ref awy, .ref apx, .ref apy, .int co, .ref alx, .ref aly, .int lf])), (ast, .inl (cI, 54, .inl st)), (aim, .inl (cI, 108, .inl im)), (akp, .inl (cZ, 2, .inl kp)), (awx, .inl (cI, 8, .inl wx)), (awy, .inl (cI, 8, .inl wy)), (apx, .inl (cJ, 300, .inr (.inl px))), (apy, .inl (cJ, 300, .inr (.inl py))), (alx, .inl (cJ, 300, .inr (.inl lx))), (aly, .inl (cJ, 300, .inr (.inl ly)))] hsz0) := by
  refine Met.ofW (cc := cX3_layFrom) (maxL := 4) (ret := none) (by decide) rfl ?_
  intro p e s m args below meth c s₁ B hml hv
  change W p l e rm_X3_layFrom s m args below meth c s.heap [] 0 0 _ _
  obtain ⟨hv, hsz, hP, hK, hD0⟩ := hv
  have hx := B.exec
  have hb := B.bytes
  have hr := B.returns
  have hts := atoms_spec (ws := wsX3_layFrom) B.pre
  have hown : s.vm.findClass RX3 = some m.cls := findClass_of_methodNamed B.named
  have hlocks := B.notSynchronized
  subst hsz
  have hD := hD0.self (sz := s.heap.size)
  generalize hAe : va_A [(h0, .inr (3, [.ref ast, .ref aim, .ref akp, .ref awx, .ref awy, .ref apx, .ref apy, .int co, .ref alx, .ref aly, .int lf])), (ast, .inl (cI, 54, .inl st)), (aim, .inl (cI, 108, .inl im)), (akp, .inl (cZ, 2, .inl kp)), (awx, .inl (cI, 8, .inl wx)), (awy, .inl (cI, 8, .inl wy)), (apx, .inl (cJ, 300, .inr (.inl px))), (apy, .inl (cJ, 300, .inr (.inl py))), (alx, .inl (cJ, 300, .inr (.inl lx))), (aly, .inl (cJ, 300, .inr (.inl ly)))] s.heap.size = A at hD ⊢
  have hA : ∀ q : Nat, s.heap.size ≤ q → A q := fun q h => by rw [← hAe]; exact Or.inr h
  have hS : va_S A s.heap s.heap [] := va_S.rf
  generalize hQ : MQ below (va_Qv (fun (_ : Unit) => True) (fun _ t => va_P (dC, dI) vwCl [(h0, .inr (3, [.ref ast, .ref aim, .ref akp, .ref awx, .ref awy, .ref apx, .ref apy, .int co, .ref alx, .ref aly, .int lf])), (ast, .inl (cI, 54, .inl stN)), (aim, .inl (cI, 108, .inl im)), (akp, .inl (cZ, 2, .inl kp)), (awx, .inl (cI, 8, .inl wx)), (awy, .inl (cI, 8, .inl wy)), (apx, .inl (cJ, 300, .inr (.inl px))), (apy, .inl (cJ, 300, .inr (.inl py))), (alx, .inl (cJ, 300, .inr (.inl lx))), (aly, .inl (cJ, 300, .inr (.inl ly)))] t.heap ∧ va_K (dC, dI) vwCl [(cI, .int), (cZ, .boolean), (cJ, .long)] t ∧ va_D A [(h0, .inr (3, [.ref ast, .ref aim, .ref akp, .ref awx, .ref awy, .ref apx, .ref apy, .int co, .ref alx, .ref aly, .int lf])), (ast, .inl (cI, 54, .inl stN)), (aim, .inl (cI, 108, .inl im)), (akp, .inl (cZ, 2, .inl kp)), (awx, .inl (cI, 8, .inl wx)), (awy, .inl (cI, 8, .inl wy)), (apx, .inl (cJ, 300, .inr (.inl px))), (apy, .inl (cJ, 300, .inr (.inl py))), (alx, .inl (cJ, 300, .inr (.inl lx))), (aly, .inl (cJ, 300, .inr (.inl ly)))]) A) args s 0 0 A = Q
  have hl := lv_entry ([.ref h0, .int a0, .int a1, .int a2]) (n := 4) (Nat.le_of_ble_eq_true rfl)
  have hE : entryFrame m args 4 = F0 m 0 ((lg_sl ([.ref h0, .int a0, .int a1, .int a2]) ++ List.replicate (4 - (lg_sl ([.ref h0, .int a0, .int a1, .int a2])).length) Slot.unset).toArray) [] := by rw [hv]; exact lg_entry_eq m _ 4
  rw [hE]
  generalize (lg_sl ([.ref h0, .int a0, .int a1, .int a2]) ++ List.replicate (4 - (lg_sl ([.ref h0, .int a0, .int a1, .int a2])).length) Slot.unset).toArray = ls at hl ⊢
  have hl : lv_has ls 4 [(0, .ref h0), (1, .int a0), (2, .int a1), (3, .int a2)] := hl
  unfold P_X3_layFrom at hF
  refine lv_aload_n hx hb dX3_layFrom_0 rfl (lv_at hl 0 rfl) ?_
  refine va_get (D := (dC, dI)) (ci := 3) (v := .ref ast) (C := RX3) (T := TX3) (N := 11) hx hb hts (by decide +kernel) hown hK hP 0 rfl rfl 0 (by decide) (hts (.fieldLink RX3 7 "DotCoverModel" "state" "[I") (by decide +kernel)) (fun _ h9 => h9) rfl dX3_layFrom_1 ?_
  refine lv_bipush (v := 6) hx hb dX3_layFrom_4 (by decide) ?_
  refine lv_iload_n hx hb dX3_layFrom_6 rfl (lv_at hl 1 rfl) ?_
  refine lv_iload_n hx hb dX3_layFrom_7 rfl (lv_at hl 2 rfl) ?_
  obtain ⟨r_1, hr_1, hF⟩ := bd1_u hF
  refine vp_callSi (W.runS (As := [.int a0, .int a1]) (rest := [.int (6 : Int32), .ref ast]) ⟨hx, hb, hml, hown, hts⟩ (c_X3_place l a0 a1 r_1 hr_1) (va_cwS 2 hts gX3_layFrom_X3_place rfl rfl rfl (by decide +kernel) ⟨Nat.le_of_ble_eq_true rfl, Nat.le_of_ble_eq_true rfl⟩) preEq rfl rfl hl.1 rfl (lv_room (Nat.le_of_ble_eq_true rfl)) dX3_layFrom_8 ⟨Nat.le_of_ble_eq_true rfl, Nat.le_of_ble_eq_true rfl⟩) (fun r_1' qr_1 => ?_)
  obtain rfl := qr_1.symm
  refine lv_iadd hx hb dX3_layFrom_11 ?_
  refine lv_aload_n hx hb dX3_layFrom_12 rfl (lv_at hl 0 rfl) ?_
  refine va_get (D := (dC, dI)) (ci := 3) (v := .ref awx) (C := RX3) (T := TX3) (N := 11) hx hb hts (by decide +kernel) hown hK hP 0 rfl rfl 3 (by decide) (hts (.fieldLink RX3 20 "DotCoverModel" "wasX" "[I") (by decide +kernel)) (fun _ h9 => h9) rfl dX3_layFrom_13 ?_
  refine lv_iload_n hx hb dX3_layFrom_16 rfl (lv_at hl 3 rfl) ?_
  obtain ⟨hi_17, hF⟩ := gd_u hF
  refine va_iald hx hb hK hP 4 0 rfl rfl (in_u hi_17) dX3_layFrom_17 ?_
  obtain ⟨hi_18, hF⟩ := gd_u hF
  refine va_iast hx hb hK hP hD hS 1 0 rfl rfl (in_u hi_18) dX3_layFrom_18 (fun H locs hP hD hS => ?_)
  have hP : va_P (dC, dI) vwCl [(h0, .inr (3, [.ref ast, .ref aim, .ref akp, .ref awx, .ref awy, .ref apx, .ref apy, .int co, .ref alx, .ref aly, .int lf])), (ast, .inl (cI, 54, .inl (upd st ((6 : Int32) + r_1).toNatClampNeg (wx a2.toNatClampNeg)))), (aim, .inl (cI, 108, .inl im)), (akp, .inl (cZ, 2, .inl kp)), (awx, .inl (cI, 8, .inl wx)), (awy, .inl (cI, 8, .inl wy)), (apx, .inl (cJ, 300, .inr (.inl px))), (apy, .inl (cJ, 300, .inr (.inl py))), (alx, .inl (cJ, 300, .inr (.inl lx))), (aly, .inl (cJ, 300, .inr (.inl ly)))] H := hP
  have hD : va_D A [(h0, .inr (3, [.ref ast, .ref aim, .ref akp, .ref awx, .ref awy, .ref apx, .ref apy, .int co, .ref alx, .ref aly, .int lf])), (ast, .inl (cI, 54, .inl (upd st ((6 : Int32) + r_1).toNatClampNeg (wx a2.toNatClampNeg)))), (aim, .inl (cI, 108, .inl im)), (akp, .inl (cZ, 2, .inl kp)), (awx, .inl (cI, 8, .inl wx)), (awy, .inl (cI, 8, .inl wy)), (apx, .inl (cJ, 300, .inr (.inl px))), (apy, .inl (cJ, 300, .inr (.inl py))), (alx, .inl (cJ, 300, .inr (.inl lx))), (aly, .inl (cJ, 300, .inr (.inl ly)))] := hD
  refine lv_aload_n hx hb dX3_layFrom_19 rfl (lv_at hl 0 rfl) ?_
  refine va_get (D := (dC, dI)) (ci := 3) (v := .ref ast) (C := RX3) (T := TX3) (N := 11) hx hb hts (by decide +kernel) hown hK hP 0 rfl rfl 0 (by decide) (hts (.fieldLink RX3 7 "DotCoverModel" "state" "[I") (by decide +kernel)) (fun _ h9 => h9) rfl dX3_layFrom_20 ?_
  refine lv_bipush (v := 30) hx hb dX3_layFrom_23 (by decide) ?_
  refine lv_iload_n hx hb dX3_layFrom_25 rfl (lv_at hl 1 rfl) ?_
  refine lv_iload_n hx hb dX3_layFrom_26 rfl (lv_at hl 2 rfl) ?_
  obtain ⟨r_2, hr_2, hF⟩ := bd1_u hF
  refine vp_callSi (W.runS (As := [.int a0, .int a1]) (rest := [.int (30 : Int32), .ref ast]) ⟨hx, hb, hml, hown, hts⟩ (c_X3_place l a0 a1 r_2 hr_2) (va_cwS 2 hts gX3_layFrom_X3_place rfl rfl rfl (by decide +kernel) ⟨Nat.le_of_ble_eq_true rfl, Nat.le_of_ble_eq_true rfl⟩) preEq rfl rfl hl.1 rfl (lv_room (Nat.le_of_ble_eq_true rfl)) dX3_layFrom_27 ⟨Nat.le_of_ble_eq_true rfl, Nat.le_of_ble_eq_true rfl⟩) (fun r_2' qr_2 => ?_)
  obtain rfl := qr_2.symm
  refine lv_iadd hx hb dX3_layFrom_30 ?_
  refine lv_aload_n hx hb dX3_layFrom_31 rfl (lv_at hl 0 rfl) ?_
  refine va_get (D := (dC, dI)) (ci := 3) (v := .ref awy) (C := RX3) (T := TX3) (N := 11) hx hb hts (by decide +kernel) hown hK hP 0 rfl rfl 4 (by decide) (hts (.fieldLink RX3 23 "DotCoverModel" "wasY" "[I") (by decide +kernel)) (fun _ h9 => h9) rfl dX3_layFrom_32 ?_
  refine lv_iload_n hx hb dX3_layFrom_35 rfl (lv_at hl 3 rfl) ?_
  obtain ⟨hi_36, hF⟩ := gd_u hF
  refine va_iald hx hb hK hP 5 0 rfl rfl (in_u hi_36) dX3_layFrom_36 ?_
  obtain ⟨hi_37, hF⟩ := gd_u hF
  refine va_iast hx hb hK hP hD hS 1 0 rfl rfl (in_u hi_37) dX3_layFrom_37 (fun H locs hP hD hS => ?_)
  have hP : va_P (dC, dI) vwCl [(h0, .inr (3, [.ref ast, .ref aim, .ref akp, .ref awx, .ref awy, .ref apx, .ref apy, .int co, .ref alx, .ref aly, .int lf])), (ast, .inl (cI, 54, .inl (upd (upd st ((6 : Int32) + r_1).toNatClampNeg (wx a2.toNatClampNeg)) ((30 : Int32) + r_2).toNatClampNeg (wy a2.toNatClampNeg)))), (aim, .inl (cI, 108, .inl im)), (akp, .inl (cZ, 2, .inl kp)), (awx, .inl (cI, 8, .inl wx)), (awy, .inl (cI, 8, .inl wy)), (apx, .inl (cJ, 300, .inr (.inl px))), (apy, .inl (cJ, 300, .inr (.inl py))), (alx, .inl (cJ, 300, .inr (.inl lx))), (aly, .inl (cJ, 300, .inr (.inl ly)))] H := hP
  have hD : va_D A [(h0, .inr (3, [.ref ast, .ref aim, .ref akp, .ref awx, .ref awy, .ref apx, .ref apy, .int co, .ref alx, .ref aly, .int lf])), (ast, .inl (cI, 54, .inl (upd (upd st ((6 : Int32) + r_1).toNatClampNeg (wx a2.toNatClampNeg)) ((30 : Int32) + r_2).toNatClampNeg (wy a2.toNatClampNeg)))), (aim, .inl (cI, 108, .inl im)), (akp, .inl (cZ, 2, .inl kp)), (awx, .inl (cI, 8, .inl wx)), (awy, .inl (cI, 8, .inl wy)), (apx, .inl (cJ, 300, .inr (.inl px))), (apy, .inl (cJ, 300, .inr (.inl py))), (alx, .inl (cJ, 300, .inr (.inl lx))), (aly, .inl (cJ, 300, .inr (.inl ly)))] := hD
  obtain rfl := Option.some.inj hF
  rw [← hQ]
  exact W.vret hx hb hr (fun t ht hW => ⟨⟨(), rfl, trivial, by rw [ht]; exact hP, va_K.moved hW.alike hK, hD⟩, hS.F ht⟩) hS.2.2 dX3_layFrom_38

def L_X3_back_25 (a0 : Int32) (wx_3 : Nat → Int32) (wy_4 : Nat → Int32) (v_5 : Int32) : Nat → Int32 → (Nat → Int32) → Option (Int32 × (Nat → Int32))
  | 0, _, _ => none
  | n + 1, k_6, st_7 =>
    if v_5 ≤ k_6 then
      some (k_6, st_7)
    else
      bd1 (P_X3_layFrom a0 k_6 ((v_5 - (1 : Int32)) - k_6) st_7 wx_3 wy_4) (fun st_11 =>
      L_X3_back_25 a0 wx_3 wy_4 v_5 n (k_6 + (1 : Int32)) st_11)
theorem L_X3_back_25_s (a0 : Int32) (wx_3 : Nat → Int32) (wy_4 : Nat → Int32) (v_5 : Int32) (n : Nat) (k_6 : Int32) (st_7 : Nat → Int32) : L_X3_back_25 a0 wx_3 wy_4 v_5 (n + 1) k_6 st_7 =
    (if v_5 ≤ k_6 then
      some (k_6, st_7)
    else
      bd1 (P_X3_layFrom a0 k_6 ((v_5 - (1 : Int32)) - k_6) st_7 wx_3 wy_4) (fun st_11 =>
      L_X3_back_25 a0 wx_3 wy_4 v_5 n (k_6 + (1 : Int32)) st_11)) := rfl

def P_X3_back (a0 : Int32) (st : Nat → Int32) (wx : Nat → Int32) (wy : Nat → Int32) : Option (Int32 × (Nat → Int32) × (Nat → Int32) × (Nat → Int32)) :=
  bd1 (P_X3_isLayer a0) (fun r_1 =>
  if r_1 = (0 : Int32) then
    some ((-1 : Int32), st, wx, wy)
  else
    bd2 (P_X3_putAside a0 st wx wy) (fun wx_3 wy_4 =>
    gd (ib ((0 : Int32) + a0) 54) (
    nm (st ((0 : Int32) + a0).toNatClampNeg) (fun v_5 =>
    bd2 (L_X3_back_25 a0 wx_3 wy_4 v_5 1000 (0 : Int32) st) (fun o_8 o_9 =>
    some (v_5, o_9, wx_3, wy_4))))))

def rm_X3_back : Room := { frames := 2, cells := 0, slots := 0, locals := 44 }

set_option maxHeartbeats 4000000 in
set_option maxRecDepth 100000 in
theorem c_X3_back (l : Launch) (dC : Nat → ClassId) (dI : Nat → Nat → Nat) (h0 ast aim akp awx awy apx apy alx aly : Nat) (cI cZ cJ : ClassId) (hsz0 : Nat) (st : Nat → Int32) (im : Nat → Int32) (kp : Nat → Int32) (wx : Nat → Int32) (wy : Nat → Int32) (px : Nat → Int64) (py : Nat → Int64) (co : Int32) (lx : Nat → Int64) (ly : Nat → Int64) (lf : Int32) (a0 : Int32) (r0 : Int32) (stN : Nat → Int32) (wxN : Nat → Int32) (wyN : Nat → Int32) (hF : P_X3_back a0 st wx wy = some (r0, stN, wxN, wyN)) : Met l yX3_back wsX3_back rm_X3_back (va_Pc [.ref h0, .int a0] (fun U => U.heap.size = hsz0 ∧ va_P (dC, dI) vwCl [(h0, .inr (3, [.ref ast, .ref aim, .ref akp, .ref awx, .ref awy, .ref apx, .ref apy, .int co, .ref alx, .ref aly, .int lf])), (ast, .inl (cI, 54, .inl st)), (aim, .inl (cI, 108, .inl im)), (akp, .inl (cZ, 2, .inl kp)), (awx, .inl (cI, 8, .inl wx)), (awy, .inl (cI, 8, .inl wy)), (apx, .inl (cJ, 300, .inr (.inl px))), (apy, .inl (cJ, 300, .inr (.inl py))), (alx, .inl (cJ, 300, .inr (.inl lx))), (aly, .inl (cJ, 300, .inr (.inl ly)))] U.heap ∧ va_K (dC, dI) vwCl [(cI, .int), (cZ, .boolean), (cJ, .long)] U ∧ va_D (fun _ => True) [(h0, .inr (3, [.ref ast, .ref aim, .ref akp, .ref awx, .ref awy, .ref apx, .ref apy, .int co, .ref alx, .ref aly, .int lf])), (ast, .inl (cI, 54, .inl st)), (aim, .inl (cI, 108, .inl im)), (akp, .inl (cZ, 2, .inl kp)), (awx, .inl (cI, 8, .inl wx)), (awy, .inl (cI, 8, .inl wy)), (apx, .inl (cJ, 300, .inr (.inl px))), (apy, .inl (cJ, 300, .inr (.inl py))), (alx, .inl (cJ, 300, .inr (.inl lx))), (aly, .inl (cJ, 300, .inr (.inl ly)))])) (va_Qi (fun (r : Int32) (_ : Unit) => r = r0) (fun _ t => va_P (dC, dI) vwCl [(h0, .inr (3, [.ref ast, .ref aim, .ref akp, .ref awx, .ref awy, .ref apx, .ref apy, .int co, .ref alx, .ref aly, .int lf])), (ast, .inl (cI, 54, .inl stN)), (aim, .inl (cI, 108, .inl im)), (akp, .inl (cZ, 2, .inl kp)), (awx, .inl (cI, 8, .inl wxN)), (awy, .inl (cI, 8, .inl wyN)), (apx, .inl (cJ, 300, .inr (.inl px))), (apy, .inl (cJ, 300, .inr (.inl py))), (alx, .inl (cJ, 300, .inr (.inl lx))), (aly, .inl (cJ, 300, .inr (.inl ly)))] t.heap ∧ va_K (dC, dI) vwCl [(cI, .int), (cZ, .boolean), (cJ, .long)] t ∧ va_D (va_A [(h0, .inr (3, [.ref ast, .ref aim, .ref akp, .ref awx, .ref awy, .ref apx, .ref apy, .int co, .ref alx, .ref aly, .int lf])), (ast, .inl (cI, 54, .inl st)), (aim, .inl (cI, 108, .inl im)), (akp, .inl (cZ, 2, .inl kp)), (awx, .inl (cI, 8, .inl wx)), (awy, .inl (cI, 8, .inl wy)), (apx, .inl (cJ, 300, .inr (.inl px))), (apy, .inl (cJ, 300, .inr (.inl py))), (alx, .inl (cJ, 300, .inr (.inl lx))), (aly, .inl (cJ, 300, .inr (.inl ly)))] hsz0) [(h0, .inr (3, [.ref ast, .ref aim, .ref akp, .ref awx, .ref awy, .ref apx, .ref apy, .int co, .ref alx, .ref aly, .int lf])), (ast, .inl (cI, 54, .inl stN)), (aim, .inl (cI, 108, .inl im)), (akp, .inl (cZ, 2, .inl kp)), (awx, .inl (cI, 8, .inl wxN)), (awy, .inl (cI, 8, .inl wyN)), (apx, .inl (cJ, 300, .inr (.inl px))), (apy, .inl (cJ, 300, .inr (.inl py))), (alx, .inl (cJ, 300, .inr (.inl lx))), (aly, .inl (cJ, 300, .inr (.inl ly)))]) (va_A [(h0, .inr (3, [.ref ast, .ref aim, .ref akp, .ref awx, .ref awy, .ref apx, .ref apy, .int co, .ref alx, .ref aly, .int lf])), (ast, .inl (cI, 54, .inl st)), (aim, .inl (cI, 108, .inl im)), (akp, .inl (cZ, 2, .inl kp)), (awx, .inl (cI, 8, .inl wx)), (awy, .inl (cI, 8, .inl wy)), (apx, .inl (cJ, 300, .inr (.inl px))), (apy, .inl (cJ, 300, .inr (.inl py))), (alx, .inl (cJ, 300, .inr (.inl lx))), (aly, .inl (cJ, 300, .inr (.inl ly)))] hsz0)) 0 0 (va_A [(h0, .inr (3, [.ref ast, .ref aim, .ref akp, .ref awx, .ref awy, .ref apx, .ref apy, .int co, .ref alx, .ref aly, .int lf])), (ast, .inl (cI, 54, .inl st)), (aim, .inl (cI, 108, .inl im)), (akp, .inl (cZ, 2, .inl kp)), (awx, .inl (cI, 8, .inl wx)), (awy, .inl (cI, 8, .inl wy)), (apx, .inl (cJ, 300, .inr (.inl px))), (apy, .inl (cJ, 300, .inr (.inl py))), (alx, .inl (cJ, 300, .inr (.inl lx))), (aly, .inl (cJ, 300, .inr (.inl ly)))] hsz0) := by
  refine Met.ofW (cc := cX3_back) (maxL := 4) (ret := (some .int)) (by decide) rfl ?_
  intro p e s m args below meth c s₁ B hml hv
  change W p l e rm_X3_back s m args below meth c s.heap [] 0 0 _ _
  obtain ⟨hv, hsz, hP, hK, hD0⟩ := hv
  have hx := B.exec
  have hb := B.bytes
  have hr := B.returns
  have hts := atoms_spec (ws := wsX3_back) B.pre
  have hown : s.vm.findClass RX3 = some m.cls := findClass_of_methodNamed B.named
  have hlocks := B.notSynchronized
  subst hsz
  have hD := hD0.self (sz := s.heap.size)
  generalize hAe : va_A [(h0, .inr (3, [.ref ast, .ref aim, .ref akp, .ref awx, .ref awy, .ref apx, .ref apy, .int co, .ref alx, .ref aly, .int lf])), (ast, .inl (cI, 54, .inl st)), (aim, .inl (cI, 108, .inl im)), (akp, .inl (cZ, 2, .inl kp)), (awx, .inl (cI, 8, .inl wx)), (awy, .inl (cI, 8, .inl wy)), (apx, .inl (cJ, 300, .inr (.inl px))), (apy, .inl (cJ, 300, .inr (.inl py))), (alx, .inl (cJ, 300, .inr (.inl lx))), (aly, .inl (cJ, 300, .inr (.inl ly)))] s.heap.size = A at hD ⊢
  have hA : ∀ q : Nat, s.heap.size ≤ q → A q := fun q h => by rw [← hAe]; exact Or.inr h
  have hS : va_S A s.heap s.heap [] := va_S.rf
  generalize hQ : MQ below (va_Qi (fun (r : Int32) (_ : Unit) => r = r0) (fun _ t => va_P (dC, dI) vwCl [(h0, .inr (3, [.ref ast, .ref aim, .ref akp, .ref awx, .ref awy, .ref apx, .ref apy, .int co, .ref alx, .ref aly, .int lf])), (ast, .inl (cI, 54, .inl stN)), (aim, .inl (cI, 108, .inl im)), (akp, .inl (cZ, 2, .inl kp)), (awx, .inl (cI, 8, .inl wxN)), (awy, .inl (cI, 8, .inl wyN)), (apx, .inl (cJ, 300, .inr (.inl px))), (apy, .inl (cJ, 300, .inr (.inl py))), (alx, .inl (cJ, 300, .inr (.inl lx))), (aly, .inl (cJ, 300, .inr (.inl ly)))] t.heap ∧ va_K (dC, dI) vwCl [(cI, .int), (cZ, .boolean), (cJ, .long)] t ∧ va_D A [(h0, .inr (3, [.ref ast, .ref aim, .ref akp, .ref awx, .ref awy, .ref apx, .ref apy, .int co, .ref alx, .ref aly, .int lf])), (ast, .inl (cI, 54, .inl stN)), (aim, .inl (cI, 108, .inl im)), (akp, .inl (cZ, 2, .inl kp)), (awx, .inl (cI, 8, .inl wxN)), (awy, .inl (cI, 8, .inl wyN)), (apx, .inl (cJ, 300, .inr (.inl px))), (apy, .inl (cJ, 300, .inr (.inl py))), (alx, .inl (cJ, 300, .inr (.inl lx))), (aly, .inl (cJ, 300, .inr (.inl ly)))]) A) args s 0 0 A = Q
  have hl := lv_entry ([.ref h0, .int a0]) (n := 4) (Nat.le_of_ble_eq_true rfl)
  have hE : entryFrame m args 4 = F0 m 0 ((lg_sl ([.ref h0, .int a0]) ++ List.replicate (4 - (lg_sl ([.ref h0, .int a0])).length) Slot.unset).toArray) [] := by rw [hv]; exact lg_entry_eq m _ 4
  rw [hE]
  generalize (lg_sl ([.ref h0, .int a0]) ++ List.replicate (4 - (lg_sl ([.ref h0, .int a0])).length) Slot.unset).toArray = ls at hl ⊢
  have hl : lv_has ls 4 [(0, .ref h0), (1, .int a0)] := hl
  unfold P_X3_back at hF
  refine lv_iload_n hx hb dX3_back_0 rfl (lv_at hl 1 rfl) ?_
  obtain ⟨r_1, hr_1, hF⟩ := bd1_u hF
  refine vp_callSi (W.runS (As := [.int a0]) (rest := []) ⟨hx, hb, hml, hown, hts⟩ (c_X3_isLayer l a0 r_1 hr_1) (va_cwS 1 hts gX3_back_X3_isLayer rfl rfl rfl (by decide +kernel) ⟨Nat.le_of_ble_eq_true rfl, Nat.le_of_ble_eq_true rfl⟩) preEq rfl rfl hl.1 rfl (lv_room (Nat.le_of_ble_eq_true rfl)) dX3_back_1 ⟨Nat.le_of_ble_eq_true rfl, Nat.le_of_ble_eq_true rfl⟩) (fun r_1' qr_1 => ?_)
  obtain rfl := qr_1.symm
  refine lv_if_ne (tgt := 9) hx hb dX3_back_4 (by decide) (fun c_2 => ?_) (fun c_2 => ?_)
  · have hF := br0 hF c_2
    refine lv_aload_n hx hb dX3_back_9 rfl (lv_at hl 0 rfl) ?_
    refine lv_iload_n hx hb dX3_back_10 rfl (lv_at hl 1 rfl) ?_
    obtain ⟨wx_3, wy_4, hr_4, hF⟩ := bd2_u hF
    have hPc := hP.sub (ws' := [(h0, .inr (3, [.ref ast, .ref aim, .ref akp, .ref awx, .ref awy, .ref apx, .ref apy, .int co, .ref alx, .ref aly, .int lf])), (ast, .inl (cI, 54, .inl st)), (aim, .inl (cI, 108, .inl im)), (akp, .inl (cZ, 2, .inl kp)), (awx, .inl (cI, 8, .inl wx)), (awy, .inl (cI, 8, .inl wy)), (apx, .inl (cJ, 300, .inr (.inl px))), (apy, .inl (cJ, 300, .inr (.inl py))), (alx, .inl (cJ, 300, .inr (.inl lx))), (aly, .inl (cJ, 300, .inr (.inl ly)))]) [0, 1, 2, 3, 4, 5, 6, 7, 8, 9] rfl
    have hKc := hK.sub (tys' := [(cI, .int), (cZ, .boolean), (cJ, .long)]) [0, 1, 2] rfl
    have hDc := hD.sub (ws' := [(h0, .inr (3, [.ref ast, .ref aim, .ref akp, .ref awx, .ref awy, .ref apx, .ref apy, .int co, .ref alx, .ref aly, .int lf])), (ast, .inl (cI, 54, .inl st)), (aim, .inl (cI, 108, .inl im)), (akp, .inl (cZ, 2, .inl kp)), (awx, .inl (cI, 8, .inl wx)), (awy, .inl (cI, 8, .inl wy)), (apx, .inl (cJ, 300, .inr (.inl px))), (apy, .inl (cJ, 300, .inr (.inl py))), (alx, .inl (cJ, 300, .inr (.inl lx))), (aly, .inl (cJ, 300, .inr (.inl ly)))]) [0, 1, 2, 3, 4, 5, 6, 7, 8, 9] (by decide) rfl
    have hFc := va_free (wc := [(h0, .inr (3, [.ref ast, .ref aim, .ref akp, .ref awx, .ref awy, .ref apx, .ref apy, .int co, .ref alx, .ref aly, .int lf])), (ast, .inl (cI, 54, .inl st)), (aim, .inl (cI, 108, .inl im)), (akp, .inl (cZ, 2, .inl kp)), (awx, .inl (cI, 8, .inl wx)), (awy, .inl (cI, 8, .inl wy)), (apx, .inl (cJ, 300, .inr (.inl px))), (apy, .inl (cJ, 300, .inr (.inl py))), (alx, .inl (cJ, 300, .inr (.inl lx))), (aly, .inl (cJ, 300, .inr (.inl ly)))]) hD hS hA [0, 1, 2, 3, 4, 5, 6, 7, 8, 9] rfl
    refine va_callv (va_runV (As := [.int a0]) (rest := []) ⟨hx, hb, hml, hown, hts⟩ (c_X3_putAside l dC dI h0 ast aim akp awx awy apx apy alx aly cI cZ cJ s.heap.size st im kp wx wy px py co lx ly lf a0 wx_3 wy_4 hr_4) (cwV 1 hts gX3_back_X3_putAside rfl rfl rfl (by decide +kernel) ⟨Nat.le_of_ble_eq_true rfl, Nat.le_of_ble_eq_true rfl⟩) ⟨fun a U g mk q => ⟨q.1, q.2.1, q.2.2.1, va_K.moved (u := U) (U := U.calling g mk a) (Vm.Alike.refl U.vm) q.2.2.2.1, q.2.2.2.2⟩, va_recv hKc hPc (ci := 3) (q0 := 0) rfl rfl, fun U hU hW => ⟨rfl, by rw [hU], by rw [hU]; exact hPc, va_K.moved hW.alike hKc, hDc.weaken (fun _ _ _ _ => trivial)⟩⟩ rfl rfl hl.1 rfl (lv_room (Nat.le_of_ble_eq_true rfl)) dX3_back_11 ⟨Nat.le_of_ble_eq_true rfl, Nat.le_of_ble_eq_true rfl⟩) hS (fun q _ h => hFc q h) hFc (fun _ t H1 locs ht hvm hw hB hz1 hk1 hS => ?_)
    obtain ⟨hP1, hK1, hD1⟩ := hB
    rw [ht] at hP1
    obtain ⟨hP, hD⟩ := va_join (wr := []) (w1 := [(h0, .inr (3, [.ref ast, .ref aim, .ref akp, .ref awx, .ref awy, .ref apx, .ref apy, .int co, .ref alx, .ref aly, .int lf])), (ast, .inl (cI, 54, .inl st)), (aim, .inl (cI, 108, .inl im)), (akp, .inl (cZ, 2, .inl kp)), (awx, .inl (cI, 8, .inl wx_3)), (awy, .inl (cI, 8, .inl wy_4)), (apx, .inl (cJ, 300, .inr (.inl px))), (apy, .inl (cJ, 300, .inr (.inl py))), (alx, .inl (cJ, 300, .inr (.inl lx))), (aly, .inl (cJ, 300, .inr (.inl ly)))]) hP hD [0, 1, 2, 3, 4, 5, 6, 7, 8, 9] [] rfl rfl (by decide) (by decide) hk1 hFc hP1 hD1
    clear hP1 hK1 hD1 hk1 hFc
    generalize H1 = H at hP hS ⊢
    have hP : va_P (dC, dI) vwCl [(h0, .inr (3, [.ref ast, .ref aim, .ref akp, .ref awx, .ref awy, .ref apx, .ref apy, .int co, .ref alx, .ref aly, .int lf])), (ast, .inl (cI, 54, .inl st)), (aim, .inl (cI, 108, .inl im)), (akp, .inl (cZ, 2, .inl kp)), (awx, .inl (cI, 8, .inl wx_3)), (awy, .inl (cI, 8, .inl wy_4)), (apx, .inl (cJ, 300, .inr (.inl px))), (apy, .inl (cJ, 300, .inr (.inl py))), (alx, .inl (cJ, 300, .inr (.inl lx))), (aly, .inl (cJ, 300, .inr (.inl ly)))] H := hP
    have hD : va_D A [(h0, .inr (3, [.ref ast, .ref aim, .ref akp, .ref awx, .ref awy, .ref apx, .ref apy, .int co, .ref alx, .ref aly, .int lf])), (ast, .inl (cI, 54, .inl st)), (aim, .inl (cI, 108, .inl im)), (akp, .inl (cZ, 2, .inl kp)), (awx, .inl (cI, 8, .inl wx_3)), (awy, .inl (cI, 8, .inl wy_4)), (apx, .inl (cJ, 300, .inr (.inl px))), (apy, .inl (cJ, 300, .inr (.inl py))), (alx, .inl (cJ, 300, .inr (.inl lx))), (aly, .inl (cJ, 300, .inr (.inl ly)))] := hD
    refine lv_aload_n hx hb dX3_back_14 rfl (lv_at hl 0 rfl) ?_
    refine va_get (D := (dC, dI)) (ci := 3) (v := .ref ast) (C := RX3) (T := TX3) (N := 11) hx hb hts (by decide +kernel) hown hK hP 0 rfl rfl 0 (by decide) (hts (.fieldLink RX3 7 "DotCoverModel" "state" "[I") (by decide +kernel)) (fun _ h9 => h9) rfl dX3_back_15 ?_
    refine lv_iconst (v := 0) hx hb dX3_back_18 (by decide) ?_
    refine lv_iload_n hx hb dX3_back_19 rfl (lv_at hl 1 rfl) ?_
    refine lv_iadd hx hb dX3_back_20 ?_
    obtain ⟨hi_21, hF⟩ := gd_u hF
    refine va_iald hx hb hK hP 1 0 rfl rfl (in_u hi_21) dX3_back_21 ?_
    refine lv_topi (fun v_5 ev_5 => ?_)
    have hF := nm_u hF ev_5
    refine lv_istore_n (lv' := [(2, .int v_5), (0, .ref h0), (1, .int a0)]) hx hb dX3_back_22 rfl hl (by decide) rfl (fun ls hl => ?_)
    refine lv_iconst (v := 0) hx hb dX3_back_23 (by decide) ?_
    refine lv_istore_n (lv' := [(3, .int (0 : Int32)), (2, .int v_5), (0, .ref h0), (1, .int a0)]) hx hb dX3_back_24 rfl hl (by decide) rfl (fun ls hl => ?_)
    obtain ⟨o_8, o_9, hL_25, hF⟩ := bd2_u hF
    have lp_25 : ∀ (n : Nat) (k_6 : Int32) (st_7 : Nat → Int32) (o_8 : Int32) (o_9 : Nat → Int32) (H : Heap) (locs : List Loc) (ls : Array Slot), L_X3_back_25 a0 wx_3 wy_4 v_5 n k_6 st_7 = some (o_8, o_9) → va_P (dC, dI) vwCl [(h0, .inr (3, [.ref ast, .ref aim, .ref akp, .ref awx, .ref awy, .ref apx, .ref apy, .int co, .ref alx, .ref aly, .int lf])), (ast, .inl (cI, 54, .inl st_7)), (aim, .inl (cI, 108, .inl im)), (akp, .inl (cZ, 2, .inl kp)), (awx, .inl (cI, 8, .inl wx_3)), (awy, .inl (cI, 8, .inl wy_4)), (apx, .inl (cJ, 300, .inr (.inl px))), (apy, .inl (cJ, 300, .inr (.inl py))), (alx, .inl (cJ, 300, .inr (.inl lx))), (aly, .inl (cJ, 300, .inr (.inl ly)))] H → va_D A [(h0, .inr (3, [.ref ast, .ref aim, .ref akp, .ref awx, .ref awy, .ref apx, .ref apy, .int co, .ref alx, .ref aly, .int lf])), (ast, .inl (cI, 54, .inl st_7)), (aim, .inl (cI, 108, .inl im)), (akp, .inl (cZ, 2, .inl kp)), (awx, .inl (cI, 8, .inl wx_3)), (awy, .inl (cI, 8, .inl wy_4)), (apx, .inl (cJ, 300, .inr (.inl px))), (apy, .inl (cJ, 300, .inr (.inl py))), (alx, .inl (cJ, 300, .inr (.inl lx))), (aly, .inl (cJ, 300, .inr (.inl ly)))] → va_S A s.heap H locs → lv_has ls 4 [(3, .int k_6), (2, .int v_5), (0, .ref h0), (1, .int a0)] → (∀ (H : Heap) (locs : List Loc) (ls : Array Slot), va_P (dC, dI) vwCl [(h0, .inr (3, [.ref ast, .ref aim, .ref akp, .ref awx, .ref awy, .ref apx, .ref apy, .int co, .ref alx, .ref aly, .int lf])), (ast, .inl (cI, 54, .inl o_9)), (aim, .inl (cI, 108, .inl im)), (akp, .inl (cZ, 2, .inl kp)), (awx, .inl (cI, 8, .inl wx_3)), (awy, .inl (cI, 8, .inl wy_4)), (apx, .inl (cJ, 300, .inr (.inl px))), (apy, .inl (cJ, 300, .inr (.inl py))), (alx, .inl (cJ, 300, .inr (.inl lx))), (aly, .inl (cJ, 300, .inr (.inl ly)))] H → va_D A [(h0, .inr (3, [.ref ast, .ref aim, .ref akp, .ref awx, .ref awy, .ref apx, .ref apy, .int co, .ref alx, .ref aly, .int lf])), (ast, .inl (cI, 54, .inl o_9)), (aim, .inl (cI, 108, .inl im)), (akp, .inl (cZ, 2, .inl kp)), (awx, .inl (cI, 8, .inl wx_3)), (awy, .inl (cI, 8, .inl wy_4)), (apx, .inl (cJ, 300, .inr (.inl px))), (apy, .inl (cJ, 300, .inr (.inl py))), (alx, .inl (cJ, 300, .inr (.inl lx))), (aly, .inl (cJ, 300, .inr (.inl ly)))] → va_S A s.heap H locs → lv_has ls 4 [(3, .int o_8), (2, .int v_5), (0, .ref h0), (1, .int a0)] → W p l e rm_X3_back s m args below meth c H locs 0 0 Q (F0 m 47 ls [])) → W p l e rm_X3_back s m args below meth c H locs 0 0 Q (F0 m 25 ls []) := by
      intro n
      induction n with
      | zero =>
        intro k_6 st_7 o_8 o_9 H locs ls hF
        exact nn ((rfl : L_X3_back_25 a0 wx_3 wy_4 v_5 0 k_6 st_7 = none).symm.trans hF)
      | succ n ih_25 =>
        intro k_6 st_7 o_8 o_9 H locs ls hF hP hD hS hl kx_25
        have hF := (L_X3_back_25_s a0 wx_3 wy_4 v_5 n k_6 st_7).symm.trans hF
        refine lv_iload_n hx hb dX3_back_25 rfl (lv_at hl 0 rfl) ?_
        refine lv_iload_n hx hb dX3_back_26 rfl (lv_at hl 1 rfl) ?_
        refine lv_icmp_ge (tgt := 47) hx hb dX3_back_27 (by decide) (fun c_10 => ?_) (fun c_10 => ?_)
        · have hF := br1 hF c_10
          obtain ⟨rfl, rfl⟩ := tp2 hF
          exact kx_25 _ _ ls hP hD hS hl
        · have hF := br0 hF c_10
          refine lv_aload_n hx hb dX3_back_30 rfl (lv_at hl 2 rfl) ?_
          refine lv_iload_n hx hb dX3_back_31 rfl (lv_at hl 3 rfl) ?_
          refine lv_iload_n hx hb dX3_back_32 rfl (lv_at hl 0 rfl) ?_
          refine lv_iload_n hx hb dX3_back_33 rfl (lv_at hl 1 rfl) ?_
          refine lv_iconst (v := 1) hx hb dX3_back_34 (by decide) ?_
          refine lv_isub hx hb dX3_back_35 ?_
          refine lv_iload_n hx hb dX3_back_36 rfl (lv_at hl 0 rfl) ?_
          refine lv_isub hx hb dX3_back_37 ?_
          obtain ⟨st_11, hr_11, hF⟩ := bd1_u hF
          have hPc := hP.sub (ws' := [(h0, .inr (3, [.ref ast, .ref aim, .ref akp, .ref awx, .ref awy, .ref apx, .ref apy, .int co, .ref alx, .ref aly, .int lf])), (ast, .inl (cI, 54, .inl st_7)), (aim, .inl (cI, 108, .inl im)), (akp, .inl (cZ, 2, .inl kp)), (awx, .inl (cI, 8, .inl wx_3)), (awy, .inl (cI, 8, .inl wy_4)), (apx, .inl (cJ, 300, .inr (.inl px))), (apy, .inl (cJ, 300, .inr (.inl py))), (alx, .inl (cJ, 300, .inr (.inl lx))), (aly, .inl (cJ, 300, .inr (.inl ly)))]) [0, 1, 2, 3, 4, 5, 6, 7, 8, 9] rfl
          have hKc := hK.sub (tys' := [(cI, .int), (cZ, .boolean), (cJ, .long)]) [0, 1, 2] rfl
          have hDc := hD.sub (ws' := [(h0, .inr (3, [.ref ast, .ref aim, .ref akp, .ref awx, .ref awy, .ref apx, .ref apy, .int co, .ref alx, .ref aly, .int lf])), (ast, .inl (cI, 54, .inl st_7)), (aim, .inl (cI, 108, .inl im)), (akp, .inl (cZ, 2, .inl kp)), (awx, .inl (cI, 8, .inl wx_3)), (awy, .inl (cI, 8, .inl wy_4)), (apx, .inl (cJ, 300, .inr (.inl px))), (apy, .inl (cJ, 300, .inr (.inl py))), (alx, .inl (cJ, 300, .inr (.inl lx))), (aly, .inl (cJ, 300, .inr (.inl ly)))]) [0, 1, 2, 3, 4, 5, 6, 7, 8, 9] (by decide) rfl
          have hFc := va_free (wc := [(h0, .inr (3, [.ref ast, .ref aim, .ref akp, .ref awx, .ref awy, .ref apx, .ref apy, .int co, .ref alx, .ref aly, .int lf])), (ast, .inl (cI, 54, .inl st_7)), (aim, .inl (cI, 108, .inl im)), (akp, .inl (cZ, 2, .inl kp)), (awx, .inl (cI, 8, .inl wx_3)), (awy, .inl (cI, 8, .inl wy_4)), (apx, .inl (cJ, 300, .inr (.inl px))), (apy, .inl (cJ, 300, .inr (.inl py))), (alx, .inl (cJ, 300, .inr (.inl lx))), (aly, .inl (cJ, 300, .inr (.inl ly)))]) hD hS hA [0, 1, 2, 3, 4, 5, 6, 7, 8, 9] rfl
          refine va_callv (va_runV (As := [.int a0, .int k_6, .int ((v_5 - (1 : Int32)) - k_6)]) (rest := []) ⟨hx, hb, hml, hown, hts⟩ (c_X3_layFrom l dC dI h0 ast aim akp awx awy apx apy alx aly cI cZ cJ H.size st_7 im kp wx_3 wy_4 px py co lx ly lf a0 k_6 ((v_5 - (1 : Int32)) - k_6) st_11 hr_11) (cwV 3 hts gX3_back_X3_layFrom rfl rfl rfl (by decide +kernel) ⟨Nat.le_of_ble_eq_true rfl, Nat.le_of_ble_eq_true rfl⟩) ⟨fun a U g mk q => ⟨q.1, q.2.1, q.2.2.1, va_K.moved (u := U) (U := U.calling g mk a) (Vm.Alike.refl U.vm) q.2.2.2.1, q.2.2.2.2⟩, va_recv hKc hPc (ci := 3) (q0 := 0) rfl rfl, fun U hU hW => ⟨rfl, by rw [hU], by rw [hU]; exact hPc, va_K.moved hW.alike hKc, hDc.weaken (fun _ _ _ _ => trivial)⟩⟩ rfl rfl hl.1 rfl (lv_room (Nat.le_of_ble_eq_true rfl)) dX3_back_38 ⟨Nat.le_of_ble_eq_true rfl, Nat.le_of_ble_eq_true rfl⟩) hS (fun q _ h => hFc q h) hFc (fun _ t H1 locs ht hvm hw hB hz1 hk1 hS => ?_)
          obtain ⟨hP1, hK1, hD1⟩ := hB
          rw [ht] at hP1
          obtain ⟨hP, hD⟩ := va_join (wr := []) (w1 := [(h0, .inr (3, [.ref ast, .ref aim, .ref akp, .ref awx, .ref awy, .ref apx, .ref apy, .int co, .ref alx, .ref aly, .int lf])), (ast, .inl (cI, 54, .inl st_11)), (aim, .inl (cI, 108, .inl im)), (akp, .inl (cZ, 2, .inl kp)), (awx, .inl (cI, 8, .inl wx_3)), (awy, .inl (cI, 8, .inl wy_4)), (apx, .inl (cJ, 300, .inr (.inl px))), (apy, .inl (cJ, 300, .inr (.inl py))), (alx, .inl (cJ, 300, .inr (.inl lx))), (aly, .inl (cJ, 300, .inr (.inl ly)))]) hP hD [0, 1, 2, 3, 4, 5, 6, 7, 8, 9] [] rfl rfl (by decide) (by decide) hk1 hFc hP1 hD1
          clear hP1 hK1 hD1 hk1 hFc
          generalize H1 = H at hP hS ⊢
          have hP : va_P (dC, dI) vwCl [(h0, .inr (3, [.ref ast, .ref aim, .ref akp, .ref awx, .ref awy, .ref apx, .ref apy, .int co, .ref alx, .ref aly, .int lf])), (ast, .inl (cI, 54, .inl st_11)), (aim, .inl (cI, 108, .inl im)), (akp, .inl (cZ, 2, .inl kp)), (awx, .inl (cI, 8, .inl wx_3)), (awy, .inl (cI, 8, .inl wy_4)), (apx, .inl (cJ, 300, .inr (.inl px))), (apy, .inl (cJ, 300, .inr (.inl py))), (alx, .inl (cJ, 300, .inr (.inl lx))), (aly, .inl (cJ, 300, .inr (.inl ly)))] H := hP
          have hD : va_D A [(h0, .inr (3, [.ref ast, .ref aim, .ref akp, .ref awx, .ref awy, .ref apx, .ref apy, .int co, .ref alx, .ref aly, .int lf])), (ast, .inl (cI, 54, .inl st_11)), (aim, .inl (cI, 108, .inl im)), (akp, .inl (cZ, 2, .inl kp)), (awx, .inl (cI, 8, .inl wx_3)), (awy, .inl (cI, 8, .inl wy_4)), (apx, .inl (cJ, 300, .inr (.inl px))), (apy, .inl (cJ, 300, .inr (.inl py))), (alx, .inl (cJ, 300, .inr (.inl lx))), (aly, .inl (cJ, 300, .inr (.inl ly)))] := hD
          refine lv_iinc (v := (k_6 + (1 : Int32))) (lv' := [(3, .int (k_6 + (1 : Int32))), (2, .int v_5), (0, .ref h0), (1, .int a0)]) hx hb dX3_back_41 hl (k := 0) rfl rfl (by decide) rfl (fun ls hl => ?_)
          refine lv_goto (tgt := 25) hx hb dX3_back_44 (by decide) ?_
          exact ih_25 _ _ _ _ _ _ ls hF hP hD hS hl kx_25
    refine lp_25 1000 (0 : Int32) st o_8 o_9 _ _ ls hL_25 hP hD hS hl (fun H locs ls hP hD hS hl => ?_)
    refine lv_iload_n hx hb dX3_back_47 rfl (lv_at hl 1 rfl) ?_
    obtain ⟨e0, rfl, rfl, rfl⟩ := tp4 hF
    rw [← hQ]
    exact W.iret (v := v_5) hx hb hr (fun t ht hW => ⟨⟨_, (), rfl, e0, by rw [ht]; exact hP, va_K.moved hW.alike hK, hD⟩, hS.F ht⟩) hS.2.2 dX3_back_48
  · have hF := br1 hF c_2
    refine lv_iconst (v := -1) hx hb dX3_back_7 (by decide) ?_
    obtain ⟨e0, rfl, rfl, rfl⟩ := tp4 hF
    rw [← hQ]
    exact W.iret (v := (-1 : Int32)) hx hb hr (fun t ht hW => ⟨⟨_, (), rfl, e0, by rw [ht]; exact hP, va_K.moved hW.alike hK, hD⟩, hS.F ht⟩) hS.2.2 dX3_back_8

def L_X3_begin_35 (a0 : Int32) (a1 : Int32) (wx_5 : Nat → Int32) (wy_6 : Nat → Int32) (v_7 : Int32) : Nat → Int32 → (Nat → Int32) → Option (Int32 × (Nat → Int32))
  | 0, _, _ => none
  | n + 1, k_8, st_9 =>
    if v_7 ≤ k_8 then
      some (k_8, st_9)
    else
      gd (nz v_7) (
      bd1 (P_X3_layFrom a0 k_8 ((k_8 + a1) - (k_8 + a1) / v_7 * v_7) st_9 wx_5 wy_6) (fun st_13 =>
      L_X3_begin_35 a0 a1 wx_5 wy_6 v_7 n (k_8 + (1 : Int32)) st_13))
theorem L_X3_begin_35_s (a0 : Int32) (a1 : Int32) (wx_5 : Nat → Int32) (wy_6 : Nat → Int32) (v_7 : Int32) (n : Nat) (k_8 : Int32) (st_9 : Nat → Int32) : L_X3_begin_35 a0 a1 wx_5 wy_6 v_7 (n + 1) k_8 st_9 =
    (if v_7 ≤ k_8 then
      some (k_8, st_9)
    else
      gd (nz v_7) (
      bd1 (P_X3_layFrom a0 k_8 ((k_8 + a1) - (k_8 + a1) / v_7 * v_7) st_9 wx_5 wy_6) (fun st_13 =>
      L_X3_begin_35 a0 a1 wx_5 wy_6 v_7 n (k_8 + (1 : Int32)) st_13))) := rfl

def P_X3_begin (a0 : Int32) (a1 : Int32) (st : Nat → Int32) (wx : Nat → Int32) (wy : Nat → Int32) : Option (Int32 × (Nat → Int32) × (Nat → Int32) × (Nat → Int32)) :=
  bd1 (P_X3_isLayer a0) (fun r_1 =>
  if r_1 = (0 : Int32) then
    some ((-1 : Int32), st, wx, wy)
  else
    bd1 (P_X3_isPoint a0 a1 st) (fun r_3 =>
    if r_3 = (0 : Int32) then
      some ((-1 : Int32), st, wx, wy)
    else
      bd2 (P_X3_putAside a0 st wx wy) (fun wx_5 wy_6 =>
      gd (ib ((0 : Int32) + a0) 54) (
      nm (st ((0 : Int32) + a0).toNatClampNeg) (fun v_7 =>
      bd2 (L_X3_begin_35 a0 a1 wx_5 wy_6 v_7 1000 (0 : Int32) st) (fun o_10 o_11 =>
      some (v_7, o_11, wx_5, wy_6)))))))

def rm_X3_begin : Room := { frames := 2, cells := 0, slots := 0, locals := 44 }

set_option maxHeartbeats 4000000 in
set_option maxRecDepth 100000 in
theorem c_X3_begin (l : Launch) (dC : Nat → ClassId) (dI : Nat → Nat → Nat) (h0 ast aim akp awx awy apx apy alx aly : Nat) (cI cZ cJ : ClassId) (hsz0 : Nat) (st : Nat → Int32) (im : Nat → Int32) (kp : Nat → Int32) (wx : Nat → Int32) (wy : Nat → Int32) (px : Nat → Int64) (py : Nat → Int64) (co : Int32) (lx : Nat → Int64) (ly : Nat → Int64) (lf : Int32) (a0 : Int32) (a1 : Int32) (r0 : Int32) (stN : Nat → Int32) (wxN : Nat → Int32) (wyN : Nat → Int32) (hF : P_X3_begin a0 a1 st wx wy = some (r0, stN, wxN, wyN)) : Met l yX3_begin wsX3_begin rm_X3_begin (va_Pc [.ref h0, .int a0, .int a1] (fun U => U.heap.size = hsz0 ∧ va_P (dC, dI) vwCl [(h0, .inr (3, [.ref ast, .ref aim, .ref akp, .ref awx, .ref awy, .ref apx, .ref apy, .int co, .ref alx, .ref aly, .int lf])), (ast, .inl (cI, 54, .inl st)), (aim, .inl (cI, 108, .inl im)), (akp, .inl (cZ, 2, .inl kp)), (awx, .inl (cI, 8, .inl wx)), (awy, .inl (cI, 8, .inl wy)), (apx, .inl (cJ, 300, .inr (.inl px))), (apy, .inl (cJ, 300, .inr (.inl py))), (alx, .inl (cJ, 300, .inr (.inl lx))), (aly, .inl (cJ, 300, .inr (.inl ly)))] U.heap ∧ va_K (dC, dI) vwCl [(cI, .int), (cZ, .boolean), (cJ, .long)] U ∧ va_D (fun _ => True) [(h0, .inr (3, [.ref ast, .ref aim, .ref akp, .ref awx, .ref awy, .ref apx, .ref apy, .int co, .ref alx, .ref aly, .int lf])), (ast, .inl (cI, 54, .inl st)), (aim, .inl (cI, 108, .inl im)), (akp, .inl (cZ, 2, .inl kp)), (awx, .inl (cI, 8, .inl wx)), (awy, .inl (cI, 8, .inl wy)), (apx, .inl (cJ, 300, .inr (.inl px))), (apy, .inl (cJ, 300, .inr (.inl py))), (alx, .inl (cJ, 300, .inr (.inl lx))), (aly, .inl (cJ, 300, .inr (.inl ly)))])) (va_Qi (fun (r : Int32) (_ : Unit) => r = r0) (fun _ t => va_P (dC, dI) vwCl [(h0, .inr (3, [.ref ast, .ref aim, .ref akp, .ref awx, .ref awy, .ref apx, .ref apy, .int co, .ref alx, .ref aly, .int lf])), (ast, .inl (cI, 54, .inl stN)), (aim, .inl (cI, 108, .inl im)), (akp, .inl (cZ, 2, .inl kp)), (awx, .inl (cI, 8, .inl wxN)), (awy, .inl (cI, 8, .inl wyN)), (apx, .inl (cJ, 300, .inr (.inl px))), (apy, .inl (cJ, 300, .inr (.inl py))), (alx, .inl (cJ, 300, .inr (.inl lx))), (aly, .inl (cJ, 300, .inr (.inl ly)))] t.heap ∧ va_K (dC, dI) vwCl [(cI, .int), (cZ, .boolean), (cJ, .long)] t ∧ va_D (va_A [(h0, .inr (3, [.ref ast, .ref aim, .ref akp, .ref awx, .ref awy, .ref apx, .ref apy, .int co, .ref alx, .ref aly, .int lf])), (ast, .inl (cI, 54, .inl st)), (aim, .inl (cI, 108, .inl im)), (akp, .inl (cZ, 2, .inl kp)), (awx, .inl (cI, 8, .inl wx)), (awy, .inl (cI, 8, .inl wy)), (apx, .inl (cJ, 300, .inr (.inl px))), (apy, .inl (cJ, 300, .inr (.inl py))), (alx, .inl (cJ, 300, .inr (.inl lx))), (aly, .inl (cJ, 300, .inr (.inl ly)))] hsz0) [(h0, .inr (3, [.ref ast, .ref aim, .ref akp, .ref awx, .ref awy, .ref apx, .ref apy, .int co, .ref alx, .ref aly, .int lf])), (ast, .inl (cI, 54, .inl stN)), (aim, .inl (cI, 108, .inl im)), (akp, .inl (cZ, 2, .inl kp)), (awx, .inl (cI, 8, .inl wxN)), (awy, .inl (cI, 8, .inl wyN)), (apx, .inl (cJ, 300, .inr (.inl px))), (apy, .inl (cJ, 300, .inr (.inl py))), (alx, .inl (cJ, 300, .inr (.inl lx))), (aly, .inl (cJ, 300, .inr (.inl ly)))]) (va_A [(h0, .inr (3, [.ref ast, .ref aim, .ref akp, .ref awx, .ref awy, .ref apx, .ref apy, .int co, .ref alx, .ref aly, .int lf])), (ast, .inl (cI, 54, .inl st)), (aim, .inl (cI, 108, .inl im)), (akp, .inl (cZ, 2, .inl kp)), (awx, .inl (cI, 8, .inl wx)), (awy, .inl (cI, 8, .inl wy)), (apx, .inl (cJ, 300, .inr (.inl px))), (apy, .inl (cJ, 300, .inr (.inl py))), (alx, .inl (cJ, 300, .inr (.inl lx))), (aly, .inl (cJ, 300, .inr (.inl ly)))] hsz0)) 0 0 (va_A [(h0, .inr (3, [.ref ast, .ref aim, .ref akp, .ref awx, .ref awy, .ref apx, .ref apy, .int co, .ref alx, .ref aly, .int lf])), (ast, .inl (cI, 54, .inl st)), (aim, .inl (cI, 108, .inl im)), (akp, .inl (cZ, 2, .inl kp)), (awx, .inl (cI, 8, .inl wx)), (awy, .inl (cI, 8, .inl wy)), (apx, .inl (cJ, 300, .inr (.inl px))), (apy, .inl (cJ, 300, .inr (.inl py))), (alx, .inl (cJ, 300, .inr (.inl lx))), (aly, .inl (cJ, 300, .inr (.inl ly)))] hsz0) := by
  refine Met.ofW (cc := cX3_begin) (maxL := 5) (ret := (some .int)) (by decide) rfl ?_
  intro p e s m args below meth c s₁ B hml hv
  change W p l e rm_X3_begin s m args below meth c s.heap [] 0 0 _ _
  obtain ⟨hv, hsz, hP, hK, hD0⟩ := hv
  have hx := B.exec
  have hb := B.bytes
  have hr := B.returns
  have hts := atoms_spec (ws := wsX3_begin) B.pre
  have hown : s.vm.findClass RX3 = some m.cls := findClass_of_methodNamed B.named
  have hlocks := B.notSynchronized
  subst hsz
  have hD := hD0.self (sz := s.heap.size)
  generalize hAe : va_A [(h0, .inr (3, [.ref ast, .ref aim, .ref akp, .ref awx, .ref awy, .ref apx, .ref apy, .int co, .ref alx, .ref aly, .int lf])), (ast, .inl (cI, 54, .inl st)), (aim, .inl (cI, 108, .inl im)), (akp, .inl (cZ, 2, .inl kp)), (awx, .inl (cI, 8, .inl wx)), (awy, .inl (cI, 8, .inl wy)), (apx, .inl (cJ, 300, .inr (.inl px))), (apy, .inl (cJ, 300, .inr (.inl py))), (alx, .inl (cJ, 300, .inr (.inl lx))), (aly, .inl (cJ, 300, .inr (.inl ly)))] s.heap.size = A at hD ⊢
  have hA : ∀ q : Nat, s.heap.size ≤ q → A q := fun q h => by rw [← hAe]; exact Or.inr h
  have hS : va_S A s.heap s.heap [] := va_S.rf
  generalize hQ : MQ below (va_Qi (fun (r : Int32) (_ : Unit) => r = r0) (fun _ t => va_P (dC, dI) vwCl [(h0, .inr (3, [.ref ast, .ref aim, .ref akp, .ref awx, .ref awy, .ref apx, .ref apy, .int co, .ref alx, .ref aly, .int lf])), (ast, .inl (cI, 54, .inl stN)), (aim, .inl (cI, 108, .inl im)), (akp, .inl (cZ, 2, .inl kp)), (awx, .inl (cI, 8, .inl wxN)), (awy, .inl (cI, 8, .inl wyN)), (apx, .inl (cJ, 300, .inr (.inl px))), (apy, .inl (cJ, 300, .inr (.inl py))), (alx, .inl (cJ, 300, .inr (.inl lx))), (aly, .inl (cJ, 300, .inr (.inl ly)))] t.heap ∧ va_K (dC, dI) vwCl [(cI, .int), (cZ, .boolean), (cJ, .long)] t ∧ va_D A [(h0, .inr (3, [.ref ast, .ref aim, .ref akp, .ref awx, .ref awy, .ref apx, .ref apy, .int co, .ref alx, .ref aly, .int lf])), (ast, .inl (cI, 54, .inl stN)), (aim, .inl (cI, 108, .inl im)), (akp, .inl (cZ, 2, .inl kp)), (awx, .inl (cI, 8, .inl wxN)), (awy, .inl (cI, 8, .inl wyN)), (apx, .inl (cJ, 300, .inr (.inl px))), (apy, .inl (cJ, 300, .inr (.inl py))), (alx, .inl (cJ, 300, .inr (.inl lx))), (aly, .inl (cJ, 300, .inr (.inl ly)))]) A) args s 0 0 A = Q
  have hl := lv_entry ([.ref h0, .int a0, .int a1]) (n := 5) (Nat.le_of_ble_eq_true rfl)
  have hE : entryFrame m args 5 = F0 m 0 ((lg_sl ([.ref h0, .int a0, .int a1]) ++ List.replicate (5 - (lg_sl ([.ref h0, .int a0, .int a1])).length) Slot.unset).toArray) [] := by rw [hv]; exact lg_entry_eq m _ 5
  rw [hE]
  generalize (lg_sl ([.ref h0, .int a0, .int a1]) ++ List.replicate (5 - (lg_sl ([.ref h0, .int a0, .int a1])).length) Slot.unset).toArray = ls at hl ⊢
  have hl : lv_has ls 5 [(0, .ref h0), (1, .int a0), (2, .int a1)] := hl
  unfold P_X3_begin at hF
  refine lv_iload_n hx hb dX3_begin_0 rfl (lv_at hl 1 rfl) ?_
  obtain ⟨r_1, hr_1, hF⟩ := bd1_u hF
  refine vp_callSi (W.runS (As := [.int a0]) (rest := []) ⟨hx, hb, hml, hown, hts⟩ (c_X3_isLayer l a0 r_1 hr_1) (va_cwS 1 hts gX3_begin_X3_isLayer rfl rfl rfl (by decide +kernel) ⟨Nat.le_of_ble_eq_true rfl, Nat.le_of_ble_eq_true rfl⟩) preEq rfl rfl hl.1 rfl (lv_room (Nat.le_of_ble_eq_true rfl)) dX3_begin_1 ⟨Nat.le_of_ble_eq_true rfl, Nat.le_of_ble_eq_true rfl⟩) (fun r_1' qr_1 => ?_)
  obtain rfl := qr_1.symm
  refine lv_if_eq (tgt := 16) hx hb dX3_begin_4 (by decide) (fun c_2 => ?_) (fun c_2 => ?_)
  · have hF := br1 hF c_2
    refine lv_iconst (v := -1) hx hb dX3_begin_16 (by decide) ?_
    obtain ⟨e0, rfl, rfl, rfl⟩ := tp4 hF
    rw [← hQ]
    exact W.iret (v := (-1 : Int32)) hx hb hr (fun t ht hW => ⟨⟨_, (), rfl, e0, by rw [ht]; exact hP, va_K.moved hW.alike hK, hD⟩, hS.F ht⟩) hS.2.2 dX3_begin_17
  · have hF := br0 hF c_2
    refine lv_aload_n hx hb dX3_begin_7 rfl (lv_at hl 0 rfl) ?_
    refine lv_iload_n hx hb dX3_begin_8 rfl (lv_at hl 1 rfl) ?_
    refine lv_iload_n hx hb dX3_begin_9 rfl (lv_at hl 2 rfl) ?_
    obtain ⟨r_3, hr_3, hF⟩ := bd1_u hF
    have hPc := hP.sub (ws' := [(h0, .inr (3, [.ref ast, .ref aim, .ref akp, .ref awx, .ref awy, .ref apx, .ref apy, .int co, .ref alx, .ref aly, .int lf])), (ast, .inl (cI, 54, .inl st)), (aim, .inl (cI, 108, .inl im)), (akp, .inl (cZ, 2, .inl kp)), (awx, .inl (cI, 8, .inl wx)), (awy, .inl (cI, 8, .inl wy)), (apx, .inl (cJ, 300, .inr (.inl px))), (apy, .inl (cJ, 300, .inr (.inl py))), (alx, .inl (cJ, 300, .inr (.inl lx))), (aly, .inl (cJ, 300, .inr (.inl ly)))]) [0, 1, 2, 3, 4, 5, 6, 7, 8, 9] rfl
    have hKc := hK.sub (tys' := [(cI, .int), (cZ, .boolean), (cJ, .long)]) [0, 1, 2] rfl
    refine vp_callSi (W.runV (As := [.int a0, .int a1]) (rest := []) ⟨hx, hb, hml, hown, hts⟩ (c_X3_isPoint l dC dI h0 ast aim akp awx awy apx apy alx aly cI cZ cJ st im kp wx wy px py co lx ly lf a0 a1 r_3 hr_3) (cwV 2 hts gX3_begin_X3_isPoint rfl rfl rfl (by decide +kernel) ⟨Nat.le_of_ble_eq_true rfl, Nat.le_of_ble_eq_true rfl⟩) ⟨fun a U g mk q => ⟨q.1, q.2.1, va_K.moved (u := U) (U := U.calling g mk a) (Vm.Alike.refl U.vm) q.2.2⟩, va_recv hKc hPc (ci := 3) (q0 := 0) rfl rfl, fun U hU hW => ⟨rfl, by rw [hU]; exact hPc, va_K.moved hW.alike hKc⟩⟩ rfl rfl hl.1 rfl (lv_room (Nat.le_of_ble_eq_true rfl)) dX3_begin_10 ⟨Nat.le_of_ble_eq_true rfl, Nat.le_of_ble_eq_true rfl⟩) (fun r_3' qr_3 => ?_)
    obtain rfl := qr_3.symm
    refine lv_if_ne (tgt := 18) hx hb dX3_begin_13 (by decide) (fun c_4 => ?_) (fun c_4 => ?_)
    · have hF := br0 hF c_4
      refine lv_aload_n hx hb dX3_begin_18 rfl (lv_at hl 0 rfl) ?_
      refine lv_iload_n hx hb dX3_begin_19 rfl (lv_at hl 1 rfl) ?_
      obtain ⟨wx_5, wy_6, hr_6, hF⟩ := bd2_u hF
      have hPc := hP.sub (ws' := [(h0, .inr (3, [.ref ast, .ref aim, .ref akp, .ref awx, .ref awy, .ref apx, .ref apy, .int co, .ref alx, .ref aly, .int lf])), (ast, .inl (cI, 54, .inl st)), (aim, .inl (cI, 108, .inl im)), (akp, .inl (cZ, 2, .inl kp)), (awx, .inl (cI, 8, .inl wx)), (awy, .inl (cI, 8, .inl wy)), (apx, .inl (cJ, 300, .inr (.inl px))), (apy, .inl (cJ, 300, .inr (.inl py))), (alx, .inl (cJ, 300, .inr (.inl lx))), (aly, .inl (cJ, 300, .inr (.inl ly)))]) [0, 1, 2, 3, 4, 5, 6, 7, 8, 9] rfl
      have hKc := hK.sub (tys' := [(cI, .int), (cZ, .boolean), (cJ, .long)]) [0, 1, 2] rfl
      have hDc := hD.sub (ws' := [(h0, .inr (3, [.ref ast, .ref aim, .ref akp, .ref awx, .ref awy, .ref apx, .ref apy, .int co, .ref alx, .ref aly, .int lf])), (ast, .inl (cI, 54, .inl st)), (aim, .inl (cI, 108, .inl im)), (akp, .inl (cZ, 2, .inl kp)), (awx, .inl (cI, 8, .inl wx)), (awy, .inl (cI, 8, .inl wy)), (apx, .inl (cJ, 300, .inr (.inl px))), (apy, .inl (cJ, 300, .inr (.inl py))), (alx, .inl (cJ, 300, .inr (.inl lx))), (aly, .inl (cJ, 300, .inr (.inl ly)))]) [0, 1, 2, 3, 4, 5, 6, 7, 8, 9] (by decide) rfl
      have hFc := va_free (wc := [(h0, .inr (3, [.ref ast, .ref aim, .ref akp, .ref awx, .ref awy, .ref apx, .ref apy, .int co, .ref alx, .ref aly, .int lf])), (ast, .inl (cI, 54, .inl st)), (aim, .inl (cI, 108, .inl im)), (akp, .inl (cZ, 2, .inl kp)), (awx, .inl (cI, 8, .inl wx)), (awy, .inl (cI, 8, .inl wy)), (apx, .inl (cJ, 300, .inr (.inl px))), (apy, .inl (cJ, 300, .inr (.inl py))), (alx, .inl (cJ, 300, .inr (.inl lx))), (aly, .inl (cJ, 300, .inr (.inl ly)))]) hD hS hA [0, 1, 2, 3, 4, 5, 6, 7, 8, 9] rfl
      refine va_callv (va_runV (As := [.int a0]) (rest := []) ⟨hx, hb, hml, hown, hts⟩ (c_X3_putAside l dC dI h0 ast aim akp awx awy apx apy alx aly cI cZ cJ s.heap.size st im kp wx wy px py co lx ly lf a0 wx_5 wy_6 hr_6) (cwV 1 hts gX3_begin_X3_putAside rfl rfl rfl (by decide +kernel) ⟨Nat.le_of_ble_eq_true rfl, Nat.le_of_ble_eq_true rfl⟩) ⟨fun a U g mk q => ⟨q.1, q.2.1, q.2.2.1, va_K.moved (u := U) (U := U.calling g mk a) (Vm.Alike.refl U.vm) q.2.2.2.1, q.2.2.2.2⟩, va_recv hKc hPc (ci := 3) (q0 := 0) rfl rfl, fun U hU hW => ⟨rfl, by rw [hU], by rw [hU]; exact hPc, va_K.moved hW.alike hKc, hDc.weaken (fun _ _ _ _ => trivial)⟩⟩ rfl rfl hl.1 rfl (lv_room (Nat.le_of_ble_eq_true rfl)) dX3_begin_20 ⟨Nat.le_of_ble_eq_true rfl, Nat.le_of_ble_eq_true rfl⟩) hS (fun q _ h => hFc q h) hFc (fun _ t H1 locs ht hvm hw hB hz1 hk1 hS => ?_)
      obtain ⟨hP1, hK1, hD1⟩ := hB
      rw [ht] at hP1
      obtain ⟨hP, hD⟩ := va_join (wr := []) (w1 := [(h0, .inr (3, [.ref ast, .ref aim, .ref akp, .ref awx, .ref awy, .ref apx, .ref apy, .int co, .ref alx, .ref aly, .int lf])), (ast, .inl (cI, 54, .inl st)), (aim, .inl (cI, 108, .inl im)), (akp, .inl (cZ, 2, .inl kp)), (awx, .inl (cI, 8, .inl wx_5)), (awy, .inl (cI, 8, .inl wy_6)), (apx, .inl (cJ, 300, .inr (.inl px))), (apy, .inl (cJ, 300, .inr (.inl py))), (alx, .inl (cJ, 300, .inr (.inl lx))), (aly, .inl (cJ, 300, .inr (.inl ly)))]) hP hD [0, 1, 2, 3, 4, 5, 6, 7, 8, 9] [] rfl rfl (by decide) (by decide) hk1 hFc hP1 hD1
      clear hP1 hK1 hD1 hk1 hFc
      generalize H1 = H at hP hS ⊢
      have hP : va_P (dC, dI) vwCl [(h0, .inr (3, [.ref ast, .ref aim, .ref akp, .ref awx, .ref awy, .ref apx, .ref apy, .int co, .ref alx, .ref aly, .int lf])), (ast, .inl (cI, 54, .inl st)), (aim, .inl (cI, 108, .inl im)), (akp, .inl (cZ, 2, .inl kp)), (awx, .inl (cI, 8, .inl wx_5)), (awy, .inl (cI, 8, .inl wy_6)), (apx, .inl (cJ, 300, .inr (.inl px))), (apy, .inl (cJ, 300, .inr (.inl py))), (alx, .inl (cJ, 300, .inr (.inl lx))), (aly, .inl (cJ, 300, .inr (.inl ly)))] H := hP
      have hD : va_D A [(h0, .inr (3, [.ref ast, .ref aim, .ref akp, .ref awx, .ref awy, .ref apx, .ref apy, .int co, .ref alx, .ref aly, .int lf])), (ast, .inl (cI, 54, .inl st)), (aim, .inl (cI, 108, .inl im)), (akp, .inl (cZ, 2, .inl kp)), (awx, .inl (cI, 8, .inl wx_5)), (awy, .inl (cI, 8, .inl wy_6)), (apx, .inl (cJ, 300, .inr (.inl px))), (apy, .inl (cJ, 300, .inr (.inl py))), (alx, .inl (cJ, 300, .inr (.inl lx))), (aly, .inl (cJ, 300, .inr (.inl ly)))] := hD
      refine lv_aload_n hx hb dX3_begin_23 rfl (lv_at hl 0 rfl) ?_
      refine va_get (D := (dC, dI)) (ci := 3) (v := .ref ast) (C := RX3) (T := TX3) (N := 11) hx hb hts (by decide +kernel) hown hK hP 0 rfl rfl 0 (by decide) (hts (.fieldLink RX3 7 "DotCoverModel" "state" "[I") (by decide +kernel)) (fun _ h9 => h9) rfl dX3_begin_24 ?_
      refine lv_iconst (v := 0) hx hb dX3_begin_27 (by decide) ?_
      refine lv_iload_n hx hb dX3_begin_28 rfl (lv_at hl 1 rfl) ?_
      refine lv_iadd hx hb dX3_begin_29 ?_
      obtain ⟨hi_30, hF⟩ := gd_u hF
      refine va_iald hx hb hK hP 1 0 rfl rfl (in_u hi_30) dX3_begin_30 ?_
      refine lv_topi (fun v_7 ev_7 => ?_)
      have hF := nm_u hF ev_7
      refine lv_istore_n (lv' := [(3, .int v_7), (0, .ref h0), (1, .int a0), (2, .int a1)]) hx hb dX3_begin_31 rfl hl (by decide) rfl (fun ls hl => ?_)
      refine lv_iconst (v := 0) hx hb dX3_begin_32 (by decide) ?_
      refine lv_istore (lv' := [(4, .int (0 : Int32)), (3, .int v_7), (0, .ref h0), (1, .int a0), (2, .int a1)]) hx hb dX3_begin_33 hl (by decide) rfl (fun ls hl => ?_)
      obtain ⟨o_10, o_11, hL_35, hF⟩ := bd2_u hF
      have lp_35 : ∀ (n : Nat) (k_8 : Int32) (st_9 : Nat → Int32) (o_10 : Int32) (o_11 : Nat → Int32) (H : Heap) (locs : List Loc) (ls : Array Slot), L_X3_begin_35 a0 a1 wx_5 wy_6 v_7 n k_8 st_9 = some (o_10, o_11) → va_P (dC, dI) vwCl [(h0, .inr (3, [.ref ast, .ref aim, .ref akp, .ref awx, .ref awy, .ref apx, .ref apy, .int co, .ref alx, .ref aly, .int lf])), (ast, .inl (cI, 54, .inl st_9)), (aim, .inl (cI, 108, .inl im)), (akp, .inl (cZ, 2, .inl kp)), (awx, .inl (cI, 8, .inl wx_5)), (awy, .inl (cI, 8, .inl wy_6)), (apx, .inl (cJ, 300, .inr (.inl px))), (apy, .inl (cJ, 300, .inr (.inl py))), (alx, .inl (cJ, 300, .inr (.inl lx))), (aly, .inl (cJ, 300, .inr (.inl ly)))] H → va_D A [(h0, .inr (3, [.ref ast, .ref aim, .ref akp, .ref awx, .ref awy, .ref apx, .ref apy, .int co, .ref alx, .ref aly, .int lf])), (ast, .inl (cI, 54, .inl st_9)), (aim, .inl (cI, 108, .inl im)), (akp, .inl (cZ, 2, .inl kp)), (awx, .inl (cI, 8, .inl wx_5)), (awy, .inl (cI, 8, .inl wy_6)), (apx, .inl (cJ, 300, .inr (.inl px))), (apy, .inl (cJ, 300, .inr (.inl py))), (alx, .inl (cJ, 300, .inr (.inl lx))), (aly, .inl (cJ, 300, .inr (.inl ly)))] → va_S A s.heap H locs → lv_has ls 5 [(4, .int k_8), (3, .int v_7), (0, .ref h0), (1, .int a0), (2, .int a1)] → (∀ (H : Heap) (locs : List Loc) (ls : Array Slot), va_P (dC, dI) vwCl [(h0, .inr (3, [.ref ast, .ref aim, .ref akp, .ref awx, .ref awy, .ref apx, .ref apy, .int co, .ref alx, .ref aly, .int lf])), (ast, .inl (cI, 54, .inl o_11)), (aim, .inl (cI, 108, .inl im)), (akp, .inl (cZ, 2, .inl kp)), (awx, .inl (cI, 8, .inl wx_5)), (awy, .inl (cI, 8, .inl wy_6)), (apx, .inl (cJ, 300, .inr (.inl px))), (apy, .inl (cJ, 300, .inr (.inl py))), (alx, .inl (cJ, 300, .inr (.inl lx))), (aly, .inl (cJ, 300, .inr (.inl ly)))] H → va_D A [(h0, .inr (3, [.ref ast, .ref aim, .ref akp, .ref awx, .ref awy, .ref apx, .ref apy, .int co, .ref alx, .ref aly, .int lf])), (ast, .inl (cI, 54, .inl o_11)), (aim, .inl (cI, 108, .inl im)), (akp, .inl (cZ, 2, .inl kp)), (awx, .inl (cI, 8, .inl wx_5)), (awy, .inl (cI, 8, .inl wy_6)), (apx, .inl (cJ, 300, .inr (.inl px))), (apy, .inl (cJ, 300, .inr (.inl py))), (alx, .inl (cJ, 300, .inr (.inl lx))), (aly, .inl (cJ, 300, .inr (.inl ly)))] → va_S A s.heap H locs → lv_has ls 5 [(4, .int o_10), (3, .int v_7), (0, .ref h0), (1, .int a0), (2, .int a1)] → W p l e rm_X3_begin s m args below meth c H locs 0 0 Q (F0 m 60 ls [])) → W p l e rm_X3_begin s m args below meth c H locs 0 0 Q (F0 m 35 ls []) := by
        intro n
        induction n with
        | zero =>
          intro k_8 st_9 o_10 o_11 H locs ls hF
          exact nn ((rfl : L_X3_begin_35 a0 a1 wx_5 wy_6 v_7 0 k_8 st_9 = none).symm.trans hF)
        | succ n ih_35 =>
          intro k_8 st_9 o_10 o_11 H locs ls hF hP hD hS hl kx_35
          have hF := (L_X3_begin_35_s a0 a1 wx_5 wy_6 v_7 n k_8 st_9).symm.trans hF
          refine lv_iload hx hb dX3_begin_35 (lv_at hl 0 rfl) ?_
          refine lv_iload_n hx hb dX3_begin_37 rfl (lv_at hl 1 rfl) ?_
          refine lv_icmp_ge (tgt := 60) hx hb dX3_begin_38 (by decide) (fun c_12 => ?_) (fun c_12 => ?_)
          · have hF := br1 hF c_12
            obtain ⟨rfl, rfl⟩ := tp2 hF
            exact kx_35 _ _ ls hP hD hS hl
          · have hF := br0 hF c_12
            refine lv_aload_n hx hb dX3_begin_41 rfl (lv_at hl 2 rfl) ?_
            refine lv_iload_n hx hb dX3_begin_42 rfl (lv_at hl 3 rfl) ?_
            refine lv_iload hx hb dX3_begin_43 (lv_at hl 0 rfl) ?_
            refine lv_iload hx hb dX3_begin_45 (lv_at hl 0 rfl) ?_
            refine lv_iload_n hx hb dX3_begin_47 rfl (lv_at hl 4 rfl) ?_
            refine lv_iadd hx hb dX3_begin_48 ?_
            refine lv_iload_n hx hb dX3_begin_49 rfl (lv_at hl 1 rfl) ?_
            obtain ⟨hz_50, hF⟩ := gd_u hF
            refine lv_irem hx hb dX3_begin_50 (nz_u hz_50) ?_
            obtain ⟨st_13, hr_13, hF⟩ := bd1_u hF
            have hPc := hP.sub (ws' := [(h0, .inr (3, [.ref ast, .ref aim, .ref akp, .ref awx, .ref awy, .ref apx, .ref apy, .int co, .ref alx, .ref aly, .int lf])), (ast, .inl (cI, 54, .inl st_9)), (aim, .inl (cI, 108, .inl im)), (akp, .inl (cZ, 2, .inl kp)), (awx, .inl (cI, 8, .inl wx_5)), (awy, .inl (cI, 8, .inl wy_6)), (apx, .inl (cJ, 300, .inr (.inl px))), (apy, .inl (cJ, 300, .inr (.inl py))), (alx, .inl (cJ, 300, .inr (.inl lx))), (aly, .inl (cJ, 300, .inr (.inl ly)))]) [0, 1, 2, 3, 4, 5, 6, 7, 8, 9] rfl
            have hKc := hK.sub (tys' := [(cI, .int), (cZ, .boolean), (cJ, .long)]) [0, 1, 2] rfl
            have hDc := hD.sub (ws' := [(h0, .inr (3, [.ref ast, .ref aim, .ref akp, .ref awx, .ref awy, .ref apx, .ref apy, .int co, .ref alx, .ref aly, .int lf])), (ast, .inl (cI, 54, .inl st_9)), (aim, .inl (cI, 108, .inl im)), (akp, .inl (cZ, 2, .inl kp)), (awx, .inl (cI, 8, .inl wx_5)), (awy, .inl (cI, 8, .inl wy_6)), (apx, .inl (cJ, 300, .inr (.inl px))), (apy, .inl (cJ, 300, .inr (.inl py))), (alx, .inl (cJ, 300, .inr (.inl lx))), (aly, .inl (cJ, 300, .inr (.inl ly)))]) [0, 1, 2, 3, 4, 5, 6, 7, 8, 9] (by decide) rfl
            have hFc := va_free (wc := [(h0, .inr (3, [.ref ast, .ref aim, .ref akp, .ref awx, .ref awy, .ref apx, .ref apy, .int co, .ref alx, .ref aly, .int lf])), (ast, .inl (cI, 54, .inl st_9)), (aim, .inl (cI, 108, .inl im)), (akp, .inl (cZ, 2, .inl kp)), (awx, .inl (cI, 8, .inl wx_5)), (awy, .inl (cI, 8, .inl wy_6)), (apx, .inl (cJ, 300, .inr (.inl px))), (apy, .inl (cJ, 300, .inr (.inl py))), (alx, .inl (cJ, 300, .inr (.inl lx))), (aly, .inl (cJ, 300, .inr (.inl ly)))]) hD hS hA [0, 1, 2, 3, 4, 5, 6, 7, 8, 9] rfl
            refine va_callv (va_runV (As := [.int a0, .int k_8, .int ((k_8 + a1) - (k_8 + a1) / v_7 * v_7)]) (rest := []) ⟨hx, hb, hml, hown, hts⟩ (c_X3_layFrom l dC dI h0 ast aim akp awx awy apx apy alx aly cI cZ cJ H.size st_9 im kp wx_5 wy_6 px py co lx ly lf a0 k_8 ((k_8 + a1) - (k_8 + a1) / v_7 * v_7) st_13 hr_13) (cwV 3 hts gX3_begin_X3_layFrom rfl rfl rfl (by decide +kernel) ⟨Nat.le_of_ble_eq_true rfl, Nat.le_of_ble_eq_true rfl⟩) ⟨fun a U g mk q => ⟨q.1, q.2.1, q.2.2.1, va_K.moved (u := U) (U := U.calling g mk a) (Vm.Alike.refl U.vm) q.2.2.2.1, q.2.2.2.2⟩, va_recv hKc hPc (ci := 3) (q0 := 0) rfl rfl, fun U hU hW => ⟨rfl, by rw [hU], by rw [hU]; exact hPc, va_K.moved hW.alike hKc, hDc.weaken (fun _ _ _ _ => trivial)⟩⟩ rfl rfl hl.1 rfl (lv_room (Nat.le_of_ble_eq_true rfl)) dX3_begin_51 ⟨Nat.le_of_ble_eq_true rfl, Nat.le_of_ble_eq_true rfl⟩) hS (fun q _ h => hFc q h) hFc (fun _ t H1 locs ht hvm hw hB hz1 hk1 hS => ?_)
            obtain ⟨hP1, hK1, hD1⟩ := hB
            rw [ht] at hP1
            obtain ⟨hP, hD⟩ := va_join (wr := []) (w1 := [(h0, .inr (3, [.ref ast, .ref aim, .ref akp, .ref awx, .ref awy, .ref apx, .ref apy, .int co, .ref alx, .ref aly, .int lf])), (ast, .inl (cI, 54, .inl st_13)), (aim, .inl (cI, 108, .inl im)), (akp, .inl (cZ, 2, .inl kp)), (awx, .inl (cI, 8, .inl wx_5)), (awy, .inl (cI, 8, .inl wy_6)), (apx, .inl (cJ, 300, .inr (.inl px))), (apy, .inl (cJ, 300, .inr (.inl py))), (alx, .inl (cJ, 300, .inr (.inl lx))), (aly, .inl (cJ, 300, .inr (.inl ly)))]) hP hD [0, 1, 2, 3, 4, 5, 6, 7, 8, 9] [] rfl rfl (by decide) (by decide) hk1 hFc hP1 hD1
            clear hP1 hK1 hD1 hk1 hFc
            generalize H1 = H at hP hS ⊢
            have hP : va_P (dC, dI) vwCl [(h0, .inr (3, [.ref ast, .ref aim, .ref akp, .ref awx, .ref awy, .ref apx, .ref apy, .int co, .ref alx, .ref aly, .int lf])), (ast, .inl (cI, 54, .inl st_13)), (aim, .inl (cI, 108, .inl im)), (akp, .inl (cZ, 2, .inl kp)), (awx, .inl (cI, 8, .inl wx_5)), (awy, .inl (cI, 8, .inl wy_6)), (apx, .inl (cJ, 300, .inr (.inl px))), (apy, .inl (cJ, 300, .inr (.inl py))), (alx, .inl (cJ, 300, .inr (.inl lx))), (aly, .inl (cJ, 300, .inr (.inl ly)))] H := hP
            have hD : va_D A [(h0, .inr (3, [.ref ast, .ref aim, .ref akp, .ref awx, .ref awy, .ref apx, .ref apy, .int co, .ref alx, .ref aly, .int lf])), (ast, .inl (cI, 54, .inl st_13)), (aim, .inl (cI, 108, .inl im)), (akp, .inl (cZ, 2, .inl kp)), (awx, .inl (cI, 8, .inl wx_5)), (awy, .inl (cI, 8, .inl wy_6)), (apx, .inl (cJ, 300, .inr (.inl px))), (apy, .inl (cJ, 300, .inr (.inl py))), (alx, .inl (cJ, 300, .inr (.inl lx))), (aly, .inl (cJ, 300, .inr (.inl ly)))] := hD
            refine lv_iinc (v := (k_8 + (1 : Int32))) (lv' := [(4, .int (k_8 + (1 : Int32))), (3, .int v_7), (0, .ref h0), (1, .int a0), (2, .int a1)]) hx hb dX3_begin_54 hl (k := 0) rfl rfl (by decide) rfl (fun ls hl => ?_)
            refine lv_goto (tgt := 35) hx hb dX3_begin_57 (by decide) ?_
            exact ih_35 _ _ _ _ _ _ ls hF hP hD hS hl kx_35
      refine lp_35 1000 (0 : Int32) st o_10 o_11 _ _ ls hL_35 hP hD hS hl (fun H locs ls hP hD hS hl => ?_)
      refine lv_iload_n hx hb dX3_begin_60 rfl (lv_at hl 1 rfl) ?_
      obtain ⟨e0, rfl, rfl, rfl⟩ := tp4 hF
      rw [← hQ]
      exact W.iret (v := v_7) hx hb hr (fun t ht hW => ⟨⟨_, (), rfl, e0, by rw [ht]; exact hP, va_K.moved hW.alike hK, hD⟩, hS.F ht⟩) hS.2.2 dX3_begin_61
    · have hF := br1 hF c_4
      refine lv_iconst (v := -1) hx hb dX3_begin_16 (by decide) ?_
      obtain ⟨e0, rfl, rfl, rfl⟩ := tp4 hF
      rw [← hQ]
      exact W.iret (v := (-1 : Int32)) hx hb hr (fun t ht hW => ⟨⟨_, (), rfl, e0, by rw [ht]; exact hP, va_K.moved hW.alike hK, hD⟩, hS.F ht⟩) hS.2.2 dX3_begin_17

def P_X3_at (a0 : Int32) (a1 : Int32) (a2 : Int32) (st : Nat → Int32) : Option (Int32) :=
  bd1 (P_X3_isLayer a0) (fun r_1 =>
  if r_1 = (0 : Int32) then
    some (-1 : Int32)
  else
    bd1 (P_X3_isPoint a0 a1 st) (fun r_3 =>
    if r_3 = (0 : Int32) then
      some (-1 : Int32)
    else
      if a2 = (0 : Int32) then
        bd1 (P_X3_place a0 a1) (fun r_8 =>
        gd (ib ((6 : Int32) + r_8) 54) (
        some (st ((6 : Int32) + r_8).toNatClampNeg)))
      else
        if a2 = (1 : Int32) then
          bd1 (P_X3_place a0 a1) (fun r_7 =>
          gd (ib ((30 : Int32) + r_7) 54) (
          some (st ((30 : Int32) + r_7).toNatClampNeg)))
        else
          some (-2 : Int32)))

def rm_X3_at : Room := { frames := 2, cells := 0, slots := 0, locals := 44 }

set_option maxHeartbeats 4000000 in
set_option maxRecDepth 100000 in
theorem c_X3_at (l : Launch) (dC : Nat → ClassId) (dI : Nat → Nat → Nat) (h0 ast aim akp awx awy apx apy alx aly : Nat) (cI cZ cJ : ClassId) (st : Nat → Int32) (im : Nat → Int32) (kp : Nat → Int32) (wx : Nat → Int32) (wy : Nat → Int32) (px : Nat → Int64) (py : Nat → Int64) (co : Int32) (lx : Nat → Int64) (ly : Nat → Int64) (lf : Int32) (a0 : Int32) (a1 : Int32) (a2 : Int32) (r0 : Int32) (hF : P_X3_at a0 a1 a2 st = some r0) : Met l yX3_at wsX3_at rm_X3_at (va_Pc [.ref h0, .int a0, .int a1, .int a2] (fun U => va_P (dC, dI) vwCl [(h0, .inr (3, [.ref ast, .ref aim, .ref akp, .ref awx, .ref awy, .ref apx, .ref apy, .int co, .ref alx, .ref aly, .int lf])), (ast, .inl (cI, 54, .inl st)), (aim, .inl (cI, 108, .inl im)), (akp, .inl (cZ, 2, .inl kp)), (awx, .inl (cI, 8, .inl wx)), (awy, .inl (cI, 8, .inl wy)), (apx, .inl (cJ, 300, .inr (.inl px))), (apy, .inl (cJ, 300, .inr (.inl py))), (alx, .inl (cJ, 300, .inr (.inl lx))), (aly, .inl (cJ, 300, .inr (.inl ly)))] U.heap ∧ va_K (dC, dI) vwCl [(cI, .int), (cZ, .boolean), (cJ, .long)] U)) (vp_Si (fun x => x = r0)) 0 0 (fun _ => False) := by
  refine Met.ofW (cc := cX3_at) (maxL := 4) (ret := (some .int)) (by decide) rfl ?_
  intro p e s m args below meth c s₁ B hml hv
  change W p l e rm_X3_at s m args below meth c s.heap [] 0 0 _ _
  obtain ⟨hv, hP, hK⟩ := hv
  have hx := B.exec
  have hb := B.bytes
  have hr := B.returns
  have hts := atoms_spec (ws := wsX3_at) B.pre
  have hown : s.vm.findClass RX3 = some m.cls := findClass_of_methodNamed B.named
  have hlocks := B.notSynchronized
  generalize hQ : MQ below (vp_Si (fun x => x = r0)) args s 0 0 (fun _ => False) = Q
  have hl := lv_entry ([.ref h0, .int a0, .int a1, .int a2]) (n := 4) (Nat.le_of_ble_eq_true rfl)
  have hE : entryFrame m args 4 = F0 m 0 ((lg_sl ([.ref h0, .int a0, .int a1, .int a2]) ++ List.replicate (4 - (lg_sl ([.ref h0, .int a0, .int a1, .int a2])).length) Slot.unset).toArray) [] := by rw [hv]; exact lg_entry_eq m _ 4
  rw [hE]
  generalize (lg_sl ([.ref h0, .int a0, .int a1, .int a2]) ++ List.replicate (4 - (lg_sl ([.ref h0, .int a0, .int a1, .int a2])).length) Slot.unset).toArray = ls at hl ⊢
  have hl : lv_has ls 4 [(0, .ref h0), (1, .int a0), (2, .int a1), (3, .int a2)] := hl
  unfold P_X3_at at hF
  refine lv_iload_n hx hb dX3_at_0 rfl (lv_at hl 1 rfl) ?_
  obtain ⟨r_1, hr_1, hF⟩ := bd1_u hF
  refine vp_callSi (W.runS (As := [.int a0]) (rest := []) ⟨hx, hb, hml, hown, hts⟩ (c_X3_isLayer l a0 r_1 hr_1) (va_cwS 1 hts gX3_at_X3_isLayer rfl rfl rfl (by decide +kernel) ⟨Nat.le_of_ble_eq_true rfl, Nat.le_of_ble_eq_true rfl⟩) preEq rfl rfl hl.1 rfl (lv_room (Nat.le_of_ble_eq_true rfl)) dX3_at_1 ⟨Nat.le_of_ble_eq_true rfl, Nat.le_of_ble_eq_true rfl⟩) (fun r_1' qr_1 => ?_)
  obtain rfl := qr_1.symm
  refine lv_if_eq (tgt := 16) hx hb dX3_at_4 (by decide) (fun c_2 => ?_) (fun c_2 => ?_)
  · have hF := br1 hF c_2
    refine lv_iconst (v := -1) hx hb dX3_at_16 (by decide) ?_
    rw [← hQ]
    exact W.iret (v := (-1 : Int32)) hx hb hr (fun t ht hW => ⟨_, rfl, Option.some.inj hF, ht⟩) (fun _ h => by cases h) dX3_at_17
  · have hF := br0 hF c_2
    refine lv_aload_n hx hb dX3_at_7 rfl (lv_at hl 0 rfl) ?_
    refine lv_iload_n hx hb dX3_at_8 rfl (lv_at hl 1 rfl) ?_
    refine lv_iload_n hx hb dX3_at_9 rfl (lv_at hl 2 rfl) ?_
    obtain ⟨r_3, hr_3, hF⟩ := bd1_u hF
    have hPc := hP.sub (ws' := [(h0, .inr (3, [.ref ast, .ref aim, .ref akp, .ref awx, .ref awy, .ref apx, .ref apy, .int co, .ref alx, .ref aly, .int lf])), (ast, .inl (cI, 54, .inl st)), (aim, .inl (cI, 108, .inl im)), (akp, .inl (cZ, 2, .inl kp)), (awx, .inl (cI, 8, .inl wx)), (awy, .inl (cI, 8, .inl wy)), (apx, .inl (cJ, 300, .inr (.inl px))), (apy, .inl (cJ, 300, .inr (.inl py))), (alx, .inl (cJ, 300, .inr (.inl lx))), (aly, .inl (cJ, 300, .inr (.inl ly)))]) [0, 1, 2, 3, 4, 5, 6, 7, 8, 9] rfl
    have hKc := hK.sub (tys' := [(cI, .int), (cZ, .boolean), (cJ, .long)]) [0, 1, 2] rfl
    refine vp_callSi (W.runV (As := [.int a0, .int a1]) (rest := []) ⟨hx, hb, hml, hown, hts⟩ (c_X3_isPoint l dC dI h0 ast aim akp awx awy apx apy alx aly cI cZ cJ st im kp wx wy px py co lx ly lf a0 a1 r_3 hr_3) (cwV 2 hts gX3_at_X3_isPoint rfl rfl rfl (by decide +kernel) ⟨Nat.le_of_ble_eq_true rfl, Nat.le_of_ble_eq_true rfl⟩) ⟨fun a U g mk q => ⟨q.1, q.2.1, va_K.moved (u := U) (U := U.calling g mk a) (Vm.Alike.refl U.vm) q.2.2⟩, va_recv hKc hPc (ci := 3) (q0 := 0) rfl rfl, fun U hU hW => ⟨rfl, by rw [hU]; exact hPc, va_K.moved hW.alike hKc⟩⟩ rfl rfl hl.1 rfl (lv_room (Nat.le_of_ble_eq_true rfl)) dX3_at_10 ⟨Nat.le_of_ble_eq_true rfl, Nat.le_of_ble_eq_true rfl⟩) (fun r_3' qr_3 => ?_)
    obtain rfl := qr_3.symm
    refine lv_if_ne (tgt := 18) hx hb dX3_at_13 (by decide) (fun c_4 => ?_) (fun c_4 => ?_)
    · have hF := br0 hF c_4
      refine lv_iload_n hx hb dX3_at_18 rfl (lv_at hl 3 rfl) ?_
      refine lv_if_ne (tgt := 38) hx hb dX3_at_19 (by decide) (fun c_5 => ?_) (fun c_5 => ?_)
      · have hF := br0 hF c_5
        refine lv_iload_n hx hb dX3_at_38 rfl (lv_at hl 3 rfl) ?_
        refine lv_iconst (v := 1) hx hb dX3_at_39 (by decide) ?_
        refine lv_icmp_ne (tgt := 59) hx hb dX3_at_40 (by decide) (fun c_6 => ?_) (fun c_6 => ?_)
        · have hF := br0 hF c_6
          refine lv_bipush (v := -2) hx hb dX3_at_59 (by decide) ?_
          rw [← hQ]
          exact W.iret (v := (-2 : Int32)) hx hb hr (fun t ht hW => ⟨_, rfl, Option.some.inj hF, ht⟩) (fun _ h => by cases h) dX3_at_61
        · have hF := br1 hF c_6
          refine lv_aload_n hx hb dX3_at_43 rfl (lv_at hl 0 rfl) ?_
          refine va_get (D := (dC, dI)) (ci := 3) (v := .ref ast) (C := RX3) (T := TX3) (N := 11) hx hb hts (by decide +kernel) hown hK hP 0 rfl rfl 0 (by decide) (hts (.fieldLink RX3 7 "DotCoverModel" "state" "[I") (by decide +kernel)) (fun _ h9 => h9) rfl dX3_at_44 ?_
          refine lv_bipush (v := 30) hx hb dX3_at_47 (by decide) ?_
          refine lv_iload_n hx hb dX3_at_49 rfl (lv_at hl 1 rfl) ?_
          refine lv_iload_n hx hb dX3_at_50 rfl (lv_at hl 2 rfl) ?_
          obtain ⟨r_7, hr_7, hF⟩ := bd1_u hF
          refine vp_callSi (W.runS (As := [.int a0, .int a1]) (rest := [.int (30 : Int32), .ref ast]) ⟨hx, hb, hml, hown, hts⟩ (c_X3_place l a0 a1 r_7 hr_7) (va_cwS 2 hts gX3_at_X3_place rfl rfl rfl (by decide +kernel) ⟨Nat.le_of_ble_eq_true rfl, Nat.le_of_ble_eq_true rfl⟩) preEq rfl rfl hl.1 rfl (lv_room (Nat.le_of_ble_eq_true rfl)) dX3_at_51 ⟨Nat.le_of_ble_eq_true rfl, Nat.le_of_ble_eq_true rfl⟩) (fun r_7' qr_7 => ?_)
          obtain rfl := qr_7.symm
          refine lv_iadd hx hb dX3_at_54 ?_
          obtain ⟨hi_55, hF⟩ := gd_u hF
          refine va_iald hx hb hK hP 1 0 rfl rfl (in_u hi_55) dX3_at_55 ?_
          refine lv_goto (tgt := 61) hx hb dX3_at_56 (by decide) ?_
          rw [← hQ]
          exact W.iret (v := (st ((30 : Int32) + r_7).toNatClampNeg)) hx hb hr (fun t ht hW => ⟨_, rfl, Option.some.inj hF, ht⟩) (fun _ h => by cases h) dX3_at_61
      · have hF := br1 hF c_5
        refine lv_aload_n hx hb dX3_at_22 rfl (lv_at hl 0 rfl) ?_
        refine va_get (D := (dC, dI)) (ci := 3) (v := .ref ast) (C := RX3) (T := TX3) (N := 11) hx hb hts (by decide +kernel) hown hK hP 0 rfl rfl 0 (by decide) (hts (.fieldLink RX3 7 "DotCoverModel" "state" "[I") (by decide +kernel)) (fun _ h9 => h9) rfl dX3_at_23 ?_
        refine lv_bipush (v := 6) hx hb dX3_at_26 (by decide) ?_
        refine lv_iload_n hx hb dX3_at_28 rfl (lv_at hl 1 rfl) ?_
        refine lv_iload_n hx hb dX3_at_29 rfl (lv_at hl 2 rfl) ?_
        obtain ⟨r_8, hr_8, hF⟩ := bd1_u hF
        refine vp_callSi (W.runS (As := [.int a0, .int a1]) (rest := [.int (6 : Int32), .ref ast]) ⟨hx, hb, hml, hown, hts⟩ (c_X3_place l a0 a1 r_8 hr_8) (va_cwS 2 hts gX3_at_X3_place rfl rfl rfl (by decide +kernel) ⟨Nat.le_of_ble_eq_true rfl, Nat.le_of_ble_eq_true rfl⟩) preEq rfl rfl hl.1 rfl (lv_room (Nat.le_of_ble_eq_true rfl)) dX3_at_30 ⟨Nat.le_of_ble_eq_true rfl, Nat.le_of_ble_eq_true rfl⟩) (fun r_8' qr_8 => ?_)
        obtain rfl := qr_8.symm
        refine lv_iadd hx hb dX3_at_33 ?_
        obtain ⟨hi_34, hF⟩ := gd_u hF
        refine va_iald hx hb hK hP 1 0 rfl rfl (in_u hi_34) dX3_at_34 ?_
        refine lv_goto (tgt := 61) hx hb dX3_at_35 (by decide) ?_
        rw [← hQ]
        exact W.iret (v := (st ((6 : Int32) + r_8).toNatClampNeg)) hx hb hr (fun t ht hW => ⟨_, rfl, Option.some.inj hF, ht⟩) (fun _ h => by cases h) dX3_at_61
    · have hF := br1 hF c_4
      refine lv_iconst (v := -1) hx hb dX3_at_16 (by decide) ?_
      rw [← hQ]
      exact W.iret (v := (-1 : Int32)) hx hb hr (fun t ht hW => ⟨_, rfl, Option.some.inj hF, ht⟩) (fun _ h => by cases h) dX3_at_17

def L_X3_layPath_15 (st : Nat → Int32) (a0 : Int32) (a1 : Int32) (a2 : Int32) (v_1 : Int32) : Nat → Int32 → (Nat → Int64) → (Nat → Int64) → Option (Int32 × (Nat → Int64) × (Nat → Int64))
  | 0, _, _, _ => none
  | n + 1, k_2, px_3, py_4 =>
    if v_1 ≤ k_2 then
      some (k_2, px_3, py_4)
    else
      bd1 (P_X3_place a0 k_2) (fun r_9 =>
      gd (ib ((6 : Int32) + r_9) 54) (
      gd (ib k_2 300) (
      bd1 (P_X3_place a0 k_2) (fun r_10 =>
      gd (ib ((30 : Int32) + r_10) 54) (
      gd (ib k_2 300) (
      L_X3_layPath_15 st a0 a1 a2 v_1 n (k_2 + (1 : Int32)) (vp_updL px_3 k_2.toNatClampNeg ((27720 : Int64) * ((st ((6 : Int32) + r_9).toNatClampNeg) + a1).toInt64)) (vp_updL py_4 k_2.toNatClampNeg ((27720 : Int64) * ((st ((30 : Int32) + r_10).toNatClampNeg) + a2).toInt64))))))))
theorem L_X3_layPath_15_s (st : Nat → Int32) (a0 : Int32) (a1 : Int32) (a2 : Int32) (v_1 : Int32) (n : Nat) (k_2 : Int32) (px_3 : Nat → Int64) (py_4 : Nat → Int64) : L_X3_layPath_15 st a0 a1 a2 v_1 (n + 1) k_2 px_3 py_4 =
    (if v_1 ≤ k_2 then
      some (k_2, px_3, py_4)
    else
      bd1 (P_X3_place a0 k_2) (fun r_9 =>
      gd (ib ((6 : Int32) + r_9) 54) (
      gd (ib k_2 300) (
      bd1 (P_X3_place a0 k_2) (fun r_10 =>
      gd (ib ((30 : Int32) + r_10) 54) (
      gd (ib k_2 300) (
      L_X3_layPath_15 st a0 a1 a2 v_1 n (k_2 + (1 : Int32)) (vp_updL px_3 k_2.toNatClampNeg ((27720 : Int64) * ((st ((6 : Int32) + r_9).toNatClampNeg) + a1).toInt64)) (vp_updL py_4 k_2.toNatClampNeg ((27720 : Int64) * ((st ((30 : Int32) + r_10).toNatClampNeg) + a2).toInt64))))))))) := rfl

def P_X3_layPath (a0 : Int32) (a1 : Int32) (a2 : Int32) (st : Nat → Int32) (px : Nat → Int64) (py : Nat → Int64) : Option ((Nat → Int64) × (Nat → Int64) × Int32) :=
  gd (ib ((0 : Int32) + a0) 54) (
  nm (st ((0 : Int32) + a0).toNatClampNeg) (fun v_1 =>
  bd3 (L_X3_layPath_15 st a0 a1 a2 v_1 1000 (0 : Int32) px py) (fun o_5 o_6 o_7 =>
  some (o_6, o_7, v_1))))

def rm_X3_layPath : Room := { frames := 1, cells := 0, slots := 0, locals := 21 }

set_option maxHeartbeats 4000000 in
set_option maxRecDepth 100000 in
theorem c_X3_layPath (l : Launch) (dC : Nat → ClassId) (dI : Nat → Nat → Nat) (h0 ast aim akp awx awy apx apy alx aly : Nat) (cI cZ cJ : ClassId) (hsz0 : Nat) (st : Nat → Int32) (im : Nat → Int32) (kp : Nat → Int32) (wx : Nat → Int32) (wy : Nat → Int32) (px : Nat → Int64) (py : Nat → Int64) (co : Int32) (lx : Nat → Int64) (ly : Nat → Int64) (lf : Int32) (a0 : Int32) (a1 : Int32) (a2 : Int32) (pxN : Nat → Int64) (pyN : Nat → Int64) (coN : Int32) (hF : P_X3_layPath a0 a1 a2 st px py = some (pxN, pyN, coN)) : Met l yX3_layPath wsX3_layPath rm_X3_layPath (va_Pc [.ref h0, .int a0, .int a1, .int a2] (fun U => U.heap.size = hsz0 ∧ va_P (dC, dI) vwCl [(h0, .inr (3, [.ref ast, .ref aim, .ref akp, .ref awx, .ref awy, .ref apx, .ref apy, .int co, .ref alx, .ref aly, .int lf])), (ast, .inl (cI, 54, .inl st)), (aim, .inl (cI, 108, .inl im)), (akp, .inl (cZ, 2, .inl kp)), (awx, .inl (cI, 8, .inl wx)), (awy, .inl (cI, 8, .inl wy)), (apx, .inl (cJ, 300, .inr (.inl px))), (apy, .inl (cJ, 300, .inr (.inl py))), (alx, .inl (cJ, 300, .inr (.inl lx))), (aly, .inl (cJ, 300, .inr (.inl ly)))] U.heap ∧ va_K (dC, dI) vwCl [(cI, .int), (cZ, .boolean), (cJ, .long)] U ∧ va_D (fun _ => True) [(h0, .inr (3, [.ref ast, .ref aim, .ref akp, .ref awx, .ref awy, .ref apx, .ref apy, .int co, .ref alx, .ref aly, .int lf])), (ast, .inl (cI, 54, .inl st)), (aim, .inl (cI, 108, .inl im)), (akp, .inl (cZ, 2, .inl kp)), (awx, .inl (cI, 8, .inl wx)), (awy, .inl (cI, 8, .inl wy)), (apx, .inl (cJ, 300, .inr (.inl px))), (apy, .inl (cJ, 300, .inr (.inl py))), (alx, .inl (cJ, 300, .inr (.inl lx))), (aly, .inl (cJ, 300, .inr (.inl ly)))])) (va_Qv (fun (_ : Unit) => True) (fun _ t => va_P (dC, dI) vwCl [(h0, .inr (3, [.ref ast, .ref aim, .ref akp, .ref awx, .ref awy, .ref apx, .ref apy, .int coN, .ref alx, .ref aly, .int lf])), (ast, .inl (cI, 54, .inl st)), (aim, .inl (cI, 108, .inl im)), (akp, .inl (cZ, 2, .inl kp)), (awx, .inl (cI, 8, .inl wx)), (awy, .inl (cI, 8, .inl wy)), (apx, .inl (cJ, 300, .inr (.inl pxN))), (apy, .inl (cJ, 300, .inr (.inl pyN))), (alx, .inl (cJ, 300, .inr (.inl lx))), (aly, .inl (cJ, 300, .inr (.inl ly)))] t.heap ∧ va_K (dC, dI) vwCl [(cI, .int), (cZ, .boolean), (cJ, .long)] t ∧ va_D (va_A [(h0, .inr (3, [.ref ast, .ref aim, .ref akp, .ref awx, .ref awy, .ref apx, .ref apy, .int co, .ref alx, .ref aly, .int lf])), (ast, .inl (cI, 54, .inl st)), (aim, .inl (cI, 108, .inl im)), (akp, .inl (cZ, 2, .inl kp)), (awx, .inl (cI, 8, .inl wx)), (awy, .inl (cI, 8, .inl wy)), (apx, .inl (cJ, 300, .inr (.inl px))), (apy, .inl (cJ, 300, .inr (.inl py))), (alx, .inl (cJ, 300, .inr (.inl lx))), (aly, .inl (cJ, 300, .inr (.inl ly)))] hsz0) [(h0, .inr (3, [.ref ast, .ref aim, .ref akp, .ref awx, .ref awy, .ref apx, .ref apy, .int coN, .ref alx, .ref aly, .int lf])), (ast, .inl (cI, 54, .inl st)), (aim, .inl (cI, 108, .inl im)), (akp, .inl (cZ, 2, .inl kp)), (awx, .inl (cI, 8, .inl wx)), (awy, .inl (cI, 8, .inl wy)), (apx, .inl (cJ, 300, .inr (.inl pxN))), (apy, .inl (cJ, 300, .inr (.inl pyN))), (alx, .inl (cJ, 300, .inr (.inl lx))), (aly, .inl (cJ, 300, .inr (.inl ly)))]) (va_A [(h0, .inr (3, [.ref ast, .ref aim, .ref akp, .ref awx, .ref awy, .ref apx, .ref apy, .int co, .ref alx, .ref aly, .int lf])), (ast, .inl (cI, 54, .inl st)), (aim, .inl (cI, 108, .inl im)), (akp, .inl (cZ, 2, .inl kp)), (awx, .inl (cI, 8, .inl wx)), (awy, .inl (cI, 8, .inl wy)), (apx, .inl (cJ, 300, .inr (.inl px))), (apy, .inl (cJ, 300, .inr (.inl py))), (alx, .inl (cJ, 300, .inr (.inl lx))), (aly, .inl (cJ, 300, .inr (.inl ly)))] hsz0)) 0 0 (va_A [(h0, .inr (3, [.ref ast, .ref aim, .ref akp, .ref awx, .ref awy, .ref apx, .ref apy, .int co, .ref alx, .ref aly, .int lf])), (ast, .inl (cI, 54, .inl st)), (aim, .inl (cI, 108, .inl im)), (akp, .inl (cZ, 2, .inl kp)), (awx, .inl (cI, 8, .inl wx)), (awy, .inl (cI, 8, .inl wy)), (apx, .inl (cJ, 300, .inr (.inl px))), (apy, .inl (cJ, 300, .inr (.inl py))), (alx, .inl (cJ, 300, .inr (.inl lx))), (aly, .inl (cJ, 300, .inr (.inl ly)))] hsz0) := by
  refine Met.ofW (cc := cX3_layPath) (maxL := 5) (ret := none) (by decide) rfl ?_
  intro p e s m args below meth c s₁ B hml hv
  change W p l e rm_X3_layPath s m args below meth c s.heap [] 0 0 _ _
  obtain ⟨hv, hsz, hP, hK, hD0⟩ := hv
  have hx := B.exec
  have hb := B.bytes
  have hr := B.returns
  have hts := atoms_spec (ws := wsX3_layPath) B.pre
  have hown : s.vm.findClass RX3 = some m.cls := findClass_of_methodNamed B.named
  have hlocks := B.notSynchronized
  subst hsz
  have hD := hD0.self (sz := s.heap.size)
  generalize hAe : va_A [(h0, .inr (3, [.ref ast, .ref aim, .ref akp, .ref awx, .ref awy, .ref apx, .ref apy, .int co, .ref alx, .ref aly, .int lf])), (ast, .inl (cI, 54, .inl st)), (aim, .inl (cI, 108, .inl im)), (akp, .inl (cZ, 2, .inl kp)), (awx, .inl (cI, 8, .inl wx)), (awy, .inl (cI, 8, .inl wy)), (apx, .inl (cJ, 300, .inr (.inl px))), (apy, .inl (cJ, 300, .inr (.inl py))), (alx, .inl (cJ, 300, .inr (.inl lx))), (aly, .inl (cJ, 300, .inr (.inl ly)))] s.heap.size = A at hD ⊢
  have hA : ∀ q : Nat, s.heap.size ≤ q → A q := fun q h => by rw [← hAe]; exact Or.inr h
  have hS : va_S A s.heap s.heap [] := va_S.rf
  generalize hQ : MQ below (va_Qv (fun (_ : Unit) => True) (fun _ t => va_P (dC, dI) vwCl [(h0, .inr (3, [.ref ast, .ref aim, .ref akp, .ref awx, .ref awy, .ref apx, .ref apy, .int coN, .ref alx, .ref aly, .int lf])), (ast, .inl (cI, 54, .inl st)), (aim, .inl (cI, 108, .inl im)), (akp, .inl (cZ, 2, .inl kp)), (awx, .inl (cI, 8, .inl wx)), (awy, .inl (cI, 8, .inl wy)), (apx, .inl (cJ, 300, .inr (.inl pxN))), (apy, .inl (cJ, 300, .inr (.inl pyN))), (alx, .inl (cJ, 300, .inr (.inl lx))), (aly, .inl (cJ, 300, .inr (.inl ly)))] t.heap ∧ va_K (dC, dI) vwCl [(cI, .int), (cZ, .boolean), (cJ, .long)] t ∧ va_D A [(h0, .inr (3, [.ref ast, .ref aim, .ref akp, .ref awx, .ref awy, .ref apx, .ref apy, .int coN, .ref alx, .ref aly, .int lf])), (ast, .inl (cI, 54, .inl st)), (aim, .inl (cI, 108, .inl im)), (akp, .inl (cZ, 2, .inl kp)), (awx, .inl (cI, 8, .inl wx)), (awy, .inl (cI, 8, .inl wy)), (apx, .inl (cJ, 300, .inr (.inl pxN))), (apy, .inl (cJ, 300, .inr (.inl pyN))), (alx, .inl (cJ, 300, .inr (.inl lx))), (aly, .inl (cJ, 300, .inr (.inl ly)))]) A) args s 0 0 A = Q
  have hl := lv_entry ([.ref h0, .int a0, .int a1, .int a2]) (n := 5) (Nat.le_of_ble_eq_true rfl)
  have hE : entryFrame m args 5 = F0 m 0 ((lg_sl ([.ref h0, .int a0, .int a1, .int a2]) ++ List.replicate (5 - (lg_sl ([.ref h0, .int a0, .int a1, .int a2])).length) Slot.unset).toArray) [] := by rw [hv]; exact lg_entry_eq m _ 5
  rw [hE]
  generalize (lg_sl ([.ref h0, .int a0, .int a1, .int a2]) ++ List.replicate (5 - (lg_sl ([.ref h0, .int a0, .int a1, .int a2])).length) Slot.unset).toArray = ls at hl ⊢
  have hl : lv_has ls 5 [(0, .ref h0), (1, .int a0), (2, .int a1), (3, .int a2)] := hl
  unfold P_X3_layPath at hF
  refine lv_aload_n hx hb dX3_layPath_0 rfl (lv_at hl 0 rfl) ?_
  refine lv_aload_n hx hb dX3_layPath_1 rfl (lv_at hl 0 rfl) ?_
  refine va_get (D := (dC, dI)) (ci := 3) (v := .ref ast) (C := RX3) (T := TX3) (N := 11) hx hb hts (by decide +kernel) hown hK hP 0 rfl rfl 0 (by decide) (hts (.fieldLink RX3 7 "DotCoverModel" "state" "[I") (by decide +kernel)) (fun _ h9 => h9) rfl dX3_layPath_2 ?_
  refine lv_iconst (v := 0) hx hb dX3_layPath_5 (by decide) ?_
  refine lv_iload_n hx hb dX3_layPath_6 rfl (lv_at hl 1 rfl) ?_
  refine lv_iadd hx hb dX3_layPath_7 ?_
  obtain ⟨hi_8, hF⟩ := gd_u hF
  refine va_iald hx hb hK hP 1 0 rfl rfl (in_u hi_8) dX3_layPath_8 ?_
  refine lv_topi (fun v_1 ev_1 => ?_)
  have hF := nm_u hF ev_1
  refine va_put (D := (dC, dI)) (ci := 3) (v := .int v_1) (ty := .int) (C := RX3) (T := TX3) (N := 11) hx hb hts (by decide +kernel) tyX3 tyX3_ok nmX3 hown hK hP hD hS 0 rfl rfl 7 (by decide) (hts (.fieldLink RX3 69 "DotCoverModel" "corners" "I") (by decide +kernel)) (fun _ h9 => h9) rfl (by decide +kernel) rfl rfl (Nat.le_of_ble_eq_true rfl) dX3_layPath_9 (fun H locs hP hD hS => ?_)
  have hP : va_P (dC, dI) vwCl [(h0, .inr (3, [.ref ast, .ref aim, .ref akp, .ref awx, .ref awy, .ref apx, .ref apy, .int v_1, .ref alx, .ref aly, .int lf])), (ast, .inl (cI, 54, .inl st)), (aim, .inl (cI, 108, .inl im)), (akp, .inl (cZ, 2, .inl kp)), (awx, .inl (cI, 8, .inl wx)), (awy, .inl (cI, 8, .inl wy)), (apx, .inl (cJ, 300, .inr (.inl px))), (apy, .inl (cJ, 300, .inr (.inl py))), (alx, .inl (cJ, 300, .inr (.inl lx))), (aly, .inl (cJ, 300, .inr (.inl ly)))] H := hP
  have hD : va_D A [(h0, .inr (3, [.ref ast, .ref aim, .ref akp, .ref awx, .ref awy, .ref apx, .ref apy, .int v_1, .ref alx, .ref aly, .int lf])), (ast, .inl (cI, 54, .inl st)), (aim, .inl (cI, 108, .inl im)), (akp, .inl (cZ, 2, .inl kp)), (awx, .inl (cI, 8, .inl wx)), (awy, .inl (cI, 8, .inl wy)), (apx, .inl (cJ, 300, .inr (.inl px))), (apy, .inl (cJ, 300, .inr (.inl py))), (alx, .inl (cJ, 300, .inr (.inl lx))), (aly, .inl (cJ, 300, .inr (.inl ly)))] := hD
  refine lv_iconst (v := 0) hx hb dX3_layPath_12 (by decide) ?_
  refine lv_istore (lv' := [(4, .int (0 : Int32)), (0, .ref h0), (1, .int a0), (2, .int a1), (3, .int a2)]) hx hb dX3_layPath_13 hl (by decide) rfl (fun ls hl => ?_)
  obtain ⟨o_5, o_6, o_7, hL_15, hF⟩ := bd3_u hF
  have lp_15 : ∀ (n : Nat) (k_2 : Int32) (px_3 : Nat → Int64) (py_4 : Nat → Int64) (o_5 : Int32) (o_6 : Nat → Int64) (o_7 : Nat → Int64) (H : Heap) (locs : List Loc) (ls : Array Slot), L_X3_layPath_15 st a0 a1 a2 v_1 n k_2 px_3 py_4 = some (o_5, o_6, o_7) → va_P (dC, dI) vwCl [(h0, .inr (3, [.ref ast, .ref aim, .ref akp, .ref awx, .ref awy, .ref apx, .ref apy, .int v_1, .ref alx, .ref aly, .int lf])), (ast, .inl (cI, 54, .inl st)), (aim, .inl (cI, 108, .inl im)), (akp, .inl (cZ, 2, .inl kp)), (awx, .inl (cI, 8, .inl wx)), (awy, .inl (cI, 8, .inl wy)), (apx, .inl (cJ, 300, .inr (.inl px_3))), (apy, .inl (cJ, 300, .inr (.inl py_4))), (alx, .inl (cJ, 300, .inr (.inl lx))), (aly, .inl (cJ, 300, .inr (.inl ly)))] H → va_D A [(h0, .inr (3, [.ref ast, .ref aim, .ref akp, .ref awx, .ref awy, .ref apx, .ref apy, .int v_1, .ref alx, .ref aly, .int lf])), (ast, .inl (cI, 54, .inl st)), (aim, .inl (cI, 108, .inl im)), (akp, .inl (cZ, 2, .inl kp)), (awx, .inl (cI, 8, .inl wx)), (awy, .inl (cI, 8, .inl wy)), (apx, .inl (cJ, 300, .inr (.inl px_3))), (apy, .inl (cJ, 300, .inr (.inl py_4))), (alx, .inl (cJ, 300, .inr (.inl lx))), (aly, .inl (cJ, 300, .inr (.inl ly)))] → va_S A s.heap H locs → lv_has ls 5 [(4, .int k_2), (0, .ref h0), (1, .int a0), (2, .int a1), (3, .int a2)] → (∀ (H : Heap) (locs : List Loc) (ls : Array Slot), va_P (dC, dI) vwCl [(h0, .inr (3, [.ref ast, .ref aim, .ref akp, .ref awx, .ref awy, .ref apx, .ref apy, .int v_1, .ref alx, .ref aly, .int lf])), (ast, .inl (cI, 54, .inl st)), (aim, .inl (cI, 108, .inl im)), (akp, .inl (cZ, 2, .inl kp)), (awx, .inl (cI, 8, .inl wx)), (awy, .inl (cI, 8, .inl wy)), (apx, .inl (cJ, 300, .inr (.inl o_6))), (apy, .inl (cJ, 300, .inr (.inl o_7))), (alx, .inl (cJ, 300, .inr (.inl lx))), (aly, .inl (cJ, 300, .inr (.inl ly)))] H → va_D A [(h0, .inr (3, [.ref ast, .ref aim, .ref akp, .ref awx, .ref awy, .ref apx, .ref apy, .int v_1, .ref alx, .ref aly, .int lf])), (ast, .inl (cI, 54, .inl st)), (aim, .inl (cI, 108, .inl im)), (akp, .inl (cZ, 2, .inl kp)), (awx, .inl (cI, 8, .inl wx)), (awy, .inl (cI, 8, .inl wy)), (apx, .inl (cJ, 300, .inr (.inl o_6))), (apy, .inl (cJ, 300, .inr (.inl o_7))), (alx, .inl (cJ, 300, .inr (.inl lx))), (aly, .inl (cJ, 300, .inr (.inl ly)))] → va_S A s.heap H locs → lv_has ls 5 [(4, .int o_5), (0, .ref h0), (1, .int a0), (2, .int a1), (3, .int a2)] → W p l e rm_X3_layPath s m args below meth c H locs 0 0 Q (F0 m 86 ls [])) → W p l e rm_X3_layPath s m args below meth c H locs 0 0 Q (F0 m 15 ls []) := by
    intro n
    induction n with
    | zero =>
      intro k_2 px_3 py_4 o_5 o_6 o_7 H locs ls hF
      exact nn ((rfl : L_X3_layPath_15 st a0 a1 a2 v_1 0 k_2 px_3 py_4 = none).symm.trans hF)
    | succ n ih_15 =>
      intro k_2 px_3 py_4 o_5 o_6 o_7 H locs ls hF hP hD hS hl kx_15
      have hF := (L_X3_layPath_15_s st a0 a1 a2 v_1 n k_2 px_3 py_4).symm.trans hF
      refine lv_iload hx hb dX3_layPath_15 (lv_at hl 0 rfl) ?_
      refine lv_aload_n hx hb dX3_layPath_17 rfl (lv_at hl 1 rfl) ?_
      refine va_get (D := (dC, dI)) (ci := 3) (v := .int v_1) (C := RX3) (T := TX3) (N := 11) hx hb hts (by decide +kernel) hown hK hP 0 rfl rfl 7 (by decide) (hts (.fieldLink RX3 69 "DotCoverModel" "corners" "I") (by decide +kernel)) (fun _ h9 => h9) rfl dX3_layPath_18 ?_
      refine lv_icmp_ge (tgt := 86) hx hb dX3_layPath_21 (by decide) (fun c_8 => ?_) (fun c_8 => ?_)
      · have hF := br1 hF c_8
        obtain ⟨rfl, rfl, rfl⟩ := tp3 hF
        exact kx_15 _ _ ls hP hD hS hl
      · have hF := br0 hF c_8
        refine lv_aload_n hx hb dX3_layPath_24 rfl (lv_at hl 1 rfl) ?_
        refine va_get (D := (dC, dI)) (ci := 3) (v := .ref apx) (C := RX3) (T := TX3) (N := 11) hx hb hts (by decide +kernel) hown hK hP 0 rfl rfl 5 (by decide) (hts (.fieldLink RX3 26 "DotCoverModel" "px" "[J") (by decide +kernel)) (fun _ h9 => h9) rfl dX3_layPath_25 ?_
        refine lv_iload hx hb dX3_layPath_28 (lv_at hl 0 rfl) ?_
        refine lv_ldc2 (v := 27720) hx hb hown (hts (.constantLong RX3 73 (27720)) (by decide +kernel)) dX3_layPath_30 ?_
        refine lv_aload_n hx hb dX3_layPath_33 rfl (lv_at hl 1 rfl) ?_
        refine va_get (D := (dC, dI)) (ci := 3) (v := .ref ast) (C := RX3) (T := TX3) (N := 11) hx hb hts (by decide +kernel) hown hK hP 0 rfl rfl 0 (by decide) (hts (.fieldLink RX3 7 "DotCoverModel" "state" "[I") (by decide +kernel)) (fun _ h9 => h9) rfl dX3_layPath_34 ?_
        refine lv_bipush (v := 6) hx hb dX3_layPath_37 (by decide) ?_
        refine lv_iload_n hx hb dX3_layPath_39 rfl (lv_at hl 2 rfl) ?_
        refine lv_iload hx hb dX3_layPath_40 (lv_at hl 0 rfl) ?_
        obtain ⟨r_9, hr_9, hF⟩ := bd1_u hF
        refine vp_callSi (W.runS (As := [.int a0, .int k_2]) (rest := [.int (6 : Int32), .ref ast, .long (27720 : Int64), .int k_2, .ref apx]) ⟨hx, hb, hml, hown, hts⟩ (c_X3_place l a0 k_2 r_9 hr_9) (va_cwS 2 hts gX3_layPath_X3_place rfl rfl rfl (by decide +kernel) ⟨Nat.le_of_ble_eq_true rfl, Nat.le_of_ble_eq_true rfl⟩) preEq rfl rfl hl.1 rfl (lv_room (Nat.le_of_ble_eq_true rfl)) dX3_layPath_42 ⟨Nat.le_of_ble_eq_true rfl, Nat.le_of_ble_eq_true rfl⟩) (fun r_9' qr_9 => ?_)
        obtain rfl := qr_9.symm
        refine lv_iadd hx hb dX3_layPath_45 ?_
        obtain ⟨hi_46, hF⟩ := gd_u hF
        refine va_iald hx hb hK hP 1 0 rfl rfl (in_u hi_46) dX3_layPath_46 ?_
        refine lv_iload_n hx hb dX3_layPath_47 rfl (lv_at hl 3 rfl) ?_
        refine lv_iadd hx hb dX3_layPath_48 ?_
        refine lv_i2l (v := ((st ((6 : Int32) + r_9).toNatClampNeg) + a1).toInt64) hx hb dX3_layPath_49 rfl ?_
        refine lv_lmul hx hb dX3_layPath_50 ?_
        obtain ⟨hi_51, hF⟩ := gd_u hF
        refine va_last hx hb hK hP hD hS 6 2 rfl rfl (in_u hi_51) dX3_layPath_51 (fun H locs hP hD hS => ?_)
        have hP : va_P (dC, dI) vwCl [(h0, .inr (3, [.ref ast, .ref aim, .ref akp, .ref awx, .ref awy, .ref apx, .ref apy, .int v_1, .ref alx, .ref aly, .int lf])), (ast, .inl (cI, 54, .inl st)), (aim, .inl (cI, 108, .inl im)), (akp, .inl (cZ, 2, .inl kp)), (awx, .inl (cI, 8, .inl wx)), (awy, .inl (cI, 8, .inl wy)), (apx, .inl (cJ, 300, .inr (.inl (vp_updL px_3 k_2.toNatClampNeg ((27720 : Int64) * ((st ((6 : Int32) + r_9).toNatClampNeg) + a1).toInt64))))), (apy, .inl (cJ, 300, .inr (.inl py_4))), (alx, .inl (cJ, 300, .inr (.inl lx))), (aly, .inl (cJ, 300, .inr (.inl ly)))] H := hP
        have hD : va_D A [(h0, .inr (3, [.ref ast, .ref aim, .ref akp, .ref awx, .ref awy, .ref apx, .ref apy, .int v_1, .ref alx, .ref aly, .int lf])), (ast, .inl (cI, 54, .inl st)), (aim, .inl (cI, 108, .inl im)), (akp, .inl (cZ, 2, .inl kp)), (awx, .inl (cI, 8, .inl wx)), (awy, .inl (cI, 8, .inl wy)), (apx, .inl (cJ, 300, .inr (.inl (vp_updL px_3 k_2.toNatClampNeg ((27720 : Int64) * ((st ((6 : Int32) + r_9).toNatClampNeg) + a1).toInt64))))), (apy, .inl (cJ, 300, .inr (.inl py_4))), (alx, .inl (cJ, 300, .inr (.inl lx))), (aly, .inl (cJ, 300, .inr (.inl ly)))] := hD
        refine lv_aload_n hx hb dX3_layPath_52 rfl (lv_at hl 1 rfl) ?_
        refine va_get (D := (dC, dI)) (ci := 3) (v := .ref apy) (C := RX3) (T := TX3) (N := 11) hx hb hts (by decide +kernel) hown hK hP 0 rfl rfl 6 (by decide) (hts (.fieldLink RX3 30 "DotCoverModel" "py" "[J") (by decide +kernel)) (fun _ h9 => h9) rfl dX3_layPath_53 ?_
        refine lv_iload hx hb dX3_layPath_56 (lv_at hl 0 rfl) ?_
        refine lv_ldc2 (v := 27720) hx hb hown (hts (.constantLong RX3 73 (27720)) (by decide +kernel)) dX3_layPath_58 ?_
        refine lv_aload_n hx hb dX3_layPath_61 rfl (lv_at hl 1 rfl) ?_
        refine va_get (D := (dC, dI)) (ci := 3) (v := .ref ast) (C := RX3) (T := TX3) (N := 11) hx hb hts (by decide +kernel) hown hK hP 0 rfl rfl 0 (by decide) (hts (.fieldLink RX3 7 "DotCoverModel" "state" "[I") (by decide +kernel)) (fun _ h9 => h9) rfl dX3_layPath_62 ?_
        refine lv_bipush (v := 30) hx hb dX3_layPath_65 (by decide) ?_
        refine lv_iload_n hx hb dX3_layPath_67 rfl (lv_at hl 2 rfl) ?_
        refine lv_iload hx hb dX3_layPath_68 (lv_at hl 0 rfl) ?_
        obtain ⟨r_10, hr_10, hF⟩ := bd1_u hF
        refine vp_callSi (W.runS (As := [.int a0, .int k_2]) (rest := [.int (30 : Int32), .ref ast, .long (27720 : Int64), .int k_2, .ref apy]) ⟨hx, hb, hml, hown, hts⟩ (c_X3_place l a0 k_2 r_10 hr_10) (va_cwS 2 hts gX3_layPath_X3_place rfl rfl rfl (by decide +kernel) ⟨Nat.le_of_ble_eq_true rfl, Nat.le_of_ble_eq_true rfl⟩) preEq rfl rfl hl.1 rfl (lv_room (Nat.le_of_ble_eq_true rfl)) dX3_layPath_70 ⟨Nat.le_of_ble_eq_true rfl, Nat.le_of_ble_eq_true rfl⟩) (fun r_10' qr_10 => ?_)
        obtain rfl := qr_10.symm
        refine lv_iadd hx hb dX3_layPath_73 ?_
        obtain ⟨hi_74, hF⟩ := gd_u hF
        refine va_iald hx hb hK hP 1 0 rfl rfl (in_u hi_74) dX3_layPath_74 ?_
        refine lv_iload_n hx hb dX3_layPath_75 rfl (lv_at hl 4 rfl) ?_
        refine lv_iadd hx hb dX3_layPath_76 ?_
        refine lv_i2l (v := ((st ((30 : Int32) + r_10).toNatClampNeg) + a2).toInt64) hx hb dX3_layPath_77 rfl ?_
        refine lv_lmul hx hb dX3_layPath_78 ?_
        obtain ⟨hi_79, hF⟩ := gd_u hF
        refine va_last hx hb hK hP hD hS 7 2 rfl rfl (in_u hi_79) dX3_layPath_79 (fun H locs hP hD hS => ?_)
        have hP : va_P (dC, dI) vwCl [(h0, .inr (3, [.ref ast, .ref aim, .ref akp, .ref awx, .ref awy, .ref apx, .ref apy, .int v_1, .ref alx, .ref aly, .int lf])), (ast, .inl (cI, 54, .inl st)), (aim, .inl (cI, 108, .inl im)), (akp, .inl (cZ, 2, .inl kp)), (awx, .inl (cI, 8, .inl wx)), (awy, .inl (cI, 8, .inl wy)), (apx, .inl (cJ, 300, .inr (.inl (vp_updL px_3 k_2.toNatClampNeg ((27720 : Int64) * ((st ((6 : Int32) + r_9).toNatClampNeg) + a1).toInt64))))), (apy, .inl (cJ, 300, .inr (.inl (vp_updL py_4 k_2.toNatClampNeg ((27720 : Int64) * ((st ((30 : Int32) + r_10).toNatClampNeg) + a2).toInt64))))), (alx, .inl (cJ, 300, .inr (.inl lx))), (aly, .inl (cJ, 300, .inr (.inl ly)))] H := hP
        have hD : va_D A [(h0, .inr (3, [.ref ast, .ref aim, .ref akp, .ref awx, .ref awy, .ref apx, .ref apy, .int v_1, .ref alx, .ref aly, .int lf])), (ast, .inl (cI, 54, .inl st)), (aim, .inl (cI, 108, .inl im)), (akp, .inl (cZ, 2, .inl kp)), (awx, .inl (cI, 8, .inl wx)), (awy, .inl (cI, 8, .inl wy)), (apx, .inl (cJ, 300, .inr (.inl (vp_updL px_3 k_2.toNatClampNeg ((27720 : Int64) * ((st ((6 : Int32) + r_9).toNatClampNeg) + a1).toInt64))))), (apy, .inl (cJ, 300, .inr (.inl (vp_updL py_4 k_2.toNatClampNeg ((27720 : Int64) * ((st ((30 : Int32) + r_10).toNatClampNeg) + a2).toInt64))))), (alx, .inl (cJ, 300, .inr (.inl lx))), (aly, .inl (cJ, 300, .inr (.inl ly)))] := hD
        refine lv_iinc (v := (k_2 + (1 : Int32))) (lv' := [(4, .int (k_2 + (1 : Int32))), (0, .ref h0), (1, .int a0), (2, .int a1), (3, .int a2)]) hx hb dX3_layPath_80 hl (k := 0) rfl rfl (by decide) rfl (fun ls hl => ?_)
        refine lv_goto (tgt := 15) hx hb dX3_layPath_83 (by decide) ?_
        exact ih_15 _ _ _ _ _ _ _ _ ls hF hP hD hS hl kx_15
  refine lp_15 1000 (0 : Int32) px py o_5 o_6 o_7 _ _ ls hL_15 hP hD hS hl (fun H locs ls hP hD hS hl => ?_)
  obtain ⟨rfl, rfl, rfl⟩ := tp3 hF
  rw [← hQ]
  exact W.vret hx hb hr (fun t ht hW => ⟨⟨(), rfl, trivial, by rw [ht]; exact hP, va_K.moved hW.alike hK, hD⟩, hS.F ht⟩) hS.2.2 dX3_layPath_86

def P_X3_leave (a0 : Int64) (a1 : Int64) (lx : Nat → Int64) (ly : Nat → Int64) (lf : Int32) : Option ((Nat → Int64) × (Nat → Int64) × Int32) :=
  gd (ib lf 300) (
  gd (ib lf 300) (
  nm (lf + (1 : Int32)) (fun v_1 =>
  some ((vp_updL lx lf.toNatClampNeg a0), (vp_updL ly lf.toNatClampNeg a1), v_1))))

def rm_X3_leave : Room := { frames := 0, cells := 0, slots := 0, locals := 0 }

set_option maxHeartbeats 4000000 in
set_option maxRecDepth 100000 in
theorem c_X3_leave (l : Launch) (dC : Nat → ClassId) (dI : Nat → Nat → Nat) (h0 ast aim akp awx awy apx apy alx aly : Nat) (cI cZ cJ : ClassId) (hsz0 : Nat) (st : Nat → Int32) (im : Nat → Int32) (kp : Nat → Int32) (wx : Nat → Int32) (wy : Nat → Int32) (px : Nat → Int64) (py : Nat → Int64) (co : Int32) (lx : Nat → Int64) (ly : Nat → Int64) (lf : Int32) (a0 : Int64) (a1 : Int64) (lxN : Nat → Int64) (lyN : Nat → Int64) (lfN : Int32) (hF : P_X3_leave a0 a1 lx ly lf = some (lxN, lyN, lfN)) : Met l yX3_leave wsX3_leave rm_X3_leave (va_Pc [.ref h0, .long a0, .long a1] (fun U => U.heap.size = hsz0 ∧ va_P (dC, dI) vwCl [(h0, .inr (3, [.ref ast, .ref aim, .ref akp, .ref awx, .ref awy, .ref apx, .ref apy, .int co, .ref alx, .ref aly, .int lf])), (ast, .inl (cI, 54, .inl st)), (aim, .inl (cI, 108, .inl im)), (akp, .inl (cZ, 2, .inl kp)), (awx, .inl (cI, 8, .inl wx)), (awy, .inl (cI, 8, .inl wy)), (apx, .inl (cJ, 300, .inr (.inl px))), (apy, .inl (cJ, 300, .inr (.inl py))), (alx, .inl (cJ, 300, .inr (.inl lx))), (aly, .inl (cJ, 300, .inr (.inl ly)))] U.heap ∧ va_K (dC, dI) vwCl [(cI, .int), (cZ, .boolean), (cJ, .long)] U ∧ va_D (fun _ => True) [(h0, .inr (3, [.ref ast, .ref aim, .ref akp, .ref awx, .ref awy, .ref apx, .ref apy, .int co, .ref alx, .ref aly, .int lf])), (ast, .inl (cI, 54, .inl st)), (aim, .inl (cI, 108, .inl im)), (akp, .inl (cZ, 2, .inl kp)), (awx, .inl (cI, 8, .inl wx)), (awy, .inl (cI, 8, .inl wy)), (apx, .inl (cJ, 300, .inr (.inl px))), (apy, .inl (cJ, 300, .inr (.inl py))), (alx, .inl (cJ, 300, .inr (.inl lx))), (aly, .inl (cJ, 300, .inr (.inl ly)))])) (va_Qv (fun (_ : Unit) => True) (fun _ t => va_P (dC, dI) vwCl [(h0, .inr (3, [.ref ast, .ref aim, .ref akp, .ref awx, .ref awy, .ref apx, .ref apy, .int co, .ref alx, .ref aly, .int lfN])), (ast, .inl (cI, 54, .inl st)), (aim, .inl (cI, 108, .inl im)), (akp, .inl (cZ, 2, .inl kp)), (awx, .inl (cI, 8, .inl wx)), (awy, .inl (cI, 8, .inl wy)), (apx, .inl (cJ, 300, .inr (.inl px))), (apy, .inl (cJ, 300, .inr (.inl py))), (alx, .inl (cJ, 300, .inr (.inl lxN))), (aly, .inl (cJ, 300, .inr (.inl lyN)))] t.heap ∧ va_K (dC, dI) vwCl [(cI, .int), (cZ, .boolean), (cJ, .long)] t ∧ va_D (va_A [(h0, .inr (3, [.ref ast, .ref aim, .ref akp, .ref awx, .ref awy, .ref apx, .ref apy, .int co, .ref alx, .ref aly, .int lf])), (ast, .inl (cI, 54, .inl st)), (aim, .inl (cI, 108, .inl im)), (akp, .inl (cZ, 2, .inl kp)), (awx, .inl (cI, 8, .inl wx)), (awy, .inl (cI, 8, .inl wy)), (apx, .inl (cJ, 300, .inr (.inl px))), (apy, .inl (cJ, 300, .inr (.inl py))), (alx, .inl (cJ, 300, .inr (.inl lx))), (aly, .inl (cJ, 300, .inr (.inl ly)))] hsz0) [(h0, .inr (3, [.ref ast, .ref aim, .ref akp, .ref awx, .ref awy, .ref apx, .ref apy, .int co, .ref alx, .ref aly, .int lfN])), (ast, .inl (cI, 54, .inl st)), (aim, .inl (cI, 108, .inl im)), (akp, .inl (cZ, 2, .inl kp)), (awx, .inl (cI, 8, .inl wx)), (awy, .inl (cI, 8, .inl wy)), (apx, .inl (cJ, 300, .inr (.inl px))), (apy, .inl (cJ, 300, .inr (.inl py))), (alx, .inl (cJ, 300, .inr (.inl lxN))), (aly, .inl (cJ, 300, .inr (.inl lyN)))]) (va_A [(h0, .inr (3, [.ref ast, .ref aim, .ref akp, .ref awx, .ref awy, .ref apx, .ref apy, .int co, .ref alx, .ref aly, .int lf])), (ast, .inl (cI, 54, .inl st)), (aim, .inl (cI, 108, .inl im)), (akp, .inl (cZ, 2, .inl kp)), (awx, .inl (cI, 8, .inl wx)), (awy, .inl (cI, 8, .inl wy)), (apx, .inl (cJ, 300, .inr (.inl px))), (apy, .inl (cJ, 300, .inr (.inl py))), (alx, .inl (cJ, 300, .inr (.inl lx))), (aly, .inl (cJ, 300, .inr (.inl ly)))] hsz0)) 0 0 (va_A [(h0, .inr (3, [.ref ast, .ref aim, .ref akp, .ref awx, .ref awy, .ref apx, .ref apy, .int co, .ref alx, .ref aly, .int lf])), (ast, .inl (cI, 54, .inl st)), (aim, .inl (cI, 108, .inl im)), (akp, .inl (cZ, 2, .inl kp)), (awx, .inl (cI, 8, .inl wx)), (awy, .inl (cI, 8, .inl wy)), (apx, .inl (cJ, 300, .inr (.inl px))), (apy, .inl (cJ, 300, .inr (.inl py))), (alx, .inl (cJ, 300, .inr (.inl lx))), (aly, .inl (cJ, 300, .inr (.inl ly)))] hsz0) := by
  refine Met.ofW (cc := cX3_leave) (maxL := 5) (ret := none) (by decide) rfl ?_
  intro p e s m args below meth c s₁ B hml hv
  change W p l e rm_X3_leave s m args below meth c s.heap [] 0 0 _ _
  obtain ⟨hv, hsz, hP, hK, hD0⟩ := hv
  have hx := B.exec
  have hb := B.bytes
  have hr := B.returns
  have hts := atoms_spec (ws := wsX3_leave) B.pre
  have hown : s.vm.findClass RX3 = some m.cls := findClass_of_methodNamed B.named
  have hlocks := B.notSynchronized
  subst hsz
  have hD := hD0.self (sz := s.heap.size)
  generalize hAe : va_A [(h0, .inr (3, [.ref ast, .ref aim, .ref akp, .ref awx, .ref awy, .ref apx, .ref apy, .int co, .ref alx, .ref aly, .int lf])), (ast, .inl (cI, 54, .inl st)), (aim, .inl (cI, 108, .inl im)), (akp, .inl (cZ, 2, .inl kp)), (awx, .inl (cI, 8, .inl wx)), (awy, .inl (cI, 8, .inl wy)), (apx, .inl (cJ, 300, .inr (.inl px))), (apy, .inl (cJ, 300, .inr (.inl py))), (alx, .inl (cJ, 300, .inr (.inl lx))), (aly, .inl (cJ, 300, .inr (.inl ly)))] s.heap.size = A at hD ⊢
  have hA : ∀ q : Nat, s.heap.size ≤ q → A q := fun q h => by rw [← hAe]; exact Or.inr h
  have hS : va_S A s.heap s.heap [] := va_S.rf
  generalize hQ : MQ below (va_Qv (fun (_ : Unit) => True) (fun _ t => va_P (dC, dI) vwCl [(h0, .inr (3, [.ref ast, .ref aim, .ref akp, .ref awx, .ref awy, .ref apx, .ref apy, .int co, .ref alx, .ref aly, .int lfN])), (ast, .inl (cI, 54, .inl st)), (aim, .inl (cI, 108, .inl im)), (akp, .inl (cZ, 2, .inl kp)), (awx, .inl (cI, 8, .inl wx)), (awy, .inl (cI, 8, .inl wy)), (apx, .inl (cJ, 300, .inr (.inl px))), (apy, .inl (cJ, 300, .inr (.inl py))), (alx, .inl (cJ, 300, .inr (.inl lxN))), (aly, .inl (cJ, 300, .inr (.inl lyN)))] t.heap ∧ va_K (dC, dI) vwCl [(cI, .int), (cZ, .boolean), (cJ, .long)] t ∧ va_D A [(h0, .inr (3, [.ref ast, .ref aim, .ref akp, .ref awx, .ref awy, .ref apx, .ref apy, .int co, .ref alx, .ref aly, .int lfN])), (ast, .inl (cI, 54, .inl st)), (aim, .inl (cI, 108, .inl im)), (akp, .inl (cZ, 2, .inl kp)), (awx, .inl (cI, 8, .inl wx)), (awy, .inl (cI, 8, .inl wy)), (apx, .inl (cJ, 300, .inr (.inl px))), (apy, .inl (cJ, 300, .inr (.inl py))), (alx, .inl (cJ, 300, .inr (.inl lxN))), (aly, .inl (cJ, 300, .inr (.inl lyN)))]) A) args s 0 0 A = Q
  have hl := lv_entry ([.ref h0, .long a0, .long a1]) (n := 5) (Nat.le_of_ble_eq_true rfl)
  have hE : entryFrame m args 5 = F0 m 0 ((lg_sl ([.ref h0, .long a0, .long a1]) ++ List.replicate (5 - (lg_sl ([.ref h0, .long a0, .long a1])).length) Slot.unset).toArray) [] := by rw [hv]; exact lg_entry_eq m _ 5
  rw [hE]
  generalize (lg_sl ([.ref h0, .long a0, .long a1]) ++ List.replicate (5 - (lg_sl ([.ref h0, .long a0, .long a1])).length) Slot.unset).toArray = ls at hl ⊢
  have hl : lv_has ls 5 [(0, .ref h0), (1, .long a0), (3, .long a1)] := hl
  unfold P_X3_leave at hF
  refine lv_aload_n hx hb dX3_leave_0 rfl (lv_at hl 0 rfl) ?_
  refine va_get (D := (dC, dI)) (ci := 3) (v := .ref alx) (C := RX3) (T := TX3) (N := 11) hx hb hts (by decide +kernel) hown hK hP 0 rfl rfl 8 (by decide) (hts (.fieldLink RX3 33 "DotCoverModel" "leftX" "[J") (by decide +kernel)) (fun _ h9 => h9) rfl dX3_leave_1 ?_
  refine lv_aload_n hx hb dX3_leave_4 rfl (lv_at hl 0 rfl) ?_
  refine va_get (D := (dC, dI)) (ci := 3) (v := .int lf) (C := RX3) (T := TX3) (N := 11) hx hb hts (by decide +kernel) hown hK hP 0 rfl rfl 10 (by decide) (hts (.fieldLink RX3 75 "DotCoverModel" "left" "I") (by decide +kernel)) (fun _ h9 => h9) rfl dX3_leave_5 ?_
  refine lv_lload_n hx hb dX3_leave_8 rfl (lv_at hl 1 rfl) ?_
  obtain ⟨hi_9, hF⟩ := gd_u hF
  refine va_last hx hb hK hP hD hS 8 2 rfl rfl (in_u hi_9) dX3_leave_9 (fun H locs hP hD hS => ?_)
  have hP : va_P (dC, dI) vwCl [(h0, .inr (3, [.ref ast, .ref aim, .ref akp, .ref awx, .ref awy, .ref apx, .ref apy, .int co, .ref alx, .ref aly, .int lf])), (ast, .inl (cI, 54, .inl st)), (aim, .inl (cI, 108, .inl im)), (akp, .inl (cZ, 2, .inl kp)), (awx, .inl (cI, 8, .inl wx)), (awy, .inl (cI, 8, .inl wy)), (apx, .inl (cJ, 300, .inr (.inl px))), (apy, .inl (cJ, 300, .inr (.inl py))), (alx, .inl (cJ, 300, .inr (.inl (vp_updL lx lf.toNatClampNeg a0)))), (aly, .inl (cJ, 300, .inr (.inl ly)))] H := hP
  have hD : va_D A [(h0, .inr (3, [.ref ast, .ref aim, .ref akp, .ref awx, .ref awy, .ref apx, .ref apy, .int co, .ref alx, .ref aly, .int lf])), (ast, .inl (cI, 54, .inl st)), (aim, .inl (cI, 108, .inl im)), (akp, .inl (cZ, 2, .inl kp)), (awx, .inl (cI, 8, .inl wx)), (awy, .inl (cI, 8, .inl wy)), (apx, .inl (cJ, 300, .inr (.inl px))), (apy, .inl (cJ, 300, .inr (.inl py))), (alx, .inl (cJ, 300, .inr (.inl (vp_updL lx lf.toNatClampNeg a0)))), (aly, .inl (cJ, 300, .inr (.inl ly)))] := hD
  refine lv_aload_n hx hb dX3_leave_10 rfl (lv_at hl 0 rfl) ?_
  refine va_get (D := (dC, dI)) (ci := 3) (v := .ref aly) (C := RX3) (T := TX3) (N := 11) hx hb hts (by decide +kernel) hown hK hP 0 rfl rfl 9 (by decide) (hts (.fieldLink RX3 36 "DotCoverModel" "leftY" "[J") (by decide +kernel)) (fun _ h9 => h9) rfl dX3_leave_11 ?_
  refine lv_aload_n hx hb dX3_leave_14 rfl (lv_at hl 0 rfl) ?_
  refine va_get (D := (dC, dI)) (ci := 3) (v := .int lf) (C := RX3) (T := TX3) (N := 11) hx hb hts (by decide +kernel) hown hK hP 0 rfl rfl 10 (by decide) (hts (.fieldLink RX3 75 "DotCoverModel" "left" "I") (by decide +kernel)) (fun _ h9 => h9) rfl dX3_leave_15 ?_
  refine lv_lload_n hx hb dX3_leave_18 rfl (lv_at hl 2 rfl) ?_
  obtain ⟨hi_19, hF⟩ := gd_u hF
  refine va_last hx hb hK hP hD hS 9 2 rfl rfl (in_u hi_19) dX3_leave_19 (fun H locs hP hD hS => ?_)
  have hP : va_P (dC, dI) vwCl [(h0, .inr (3, [.ref ast, .ref aim, .ref akp, .ref awx, .ref awy, .ref apx, .ref apy, .int co, .ref alx, .ref aly, .int lf])), (ast, .inl (cI, 54, .inl st)), (aim, .inl (cI, 108, .inl im)), (akp, .inl (cZ, 2, .inl kp)), (awx, .inl (cI, 8, .inl wx)), (awy, .inl (cI, 8, .inl wy)), (apx, .inl (cJ, 300, .inr (.inl px))), (apy, .inl (cJ, 300, .inr (.inl py))), (alx, .inl (cJ, 300, .inr (.inl (vp_updL lx lf.toNatClampNeg a0)))), (aly, .inl (cJ, 300, .inr (.inl (vp_updL ly lf.toNatClampNeg a1))))] H := hP
  have hD : va_D A [(h0, .inr (3, [.ref ast, .ref aim, .ref akp, .ref awx, .ref awy, .ref apx, .ref apy, .int co, .ref alx, .ref aly, .int lf])), (ast, .inl (cI, 54, .inl st)), (aim, .inl (cI, 108, .inl im)), (akp, .inl (cZ, 2, .inl kp)), (awx, .inl (cI, 8, .inl wx)), (awy, .inl (cI, 8, .inl wy)), (apx, .inl (cJ, 300, .inr (.inl px))), (apy, .inl (cJ, 300, .inr (.inl py))), (alx, .inl (cJ, 300, .inr (.inl (vp_updL lx lf.toNatClampNeg a0)))), (aly, .inl (cJ, 300, .inr (.inl (vp_updL ly lf.toNatClampNeg a1))))] := hD
  refine lv_aload_n hx hb dX3_leave_20 rfl (lv_at hl 0 rfl) ?_
  refine lv_dup hx hb dX3_leave_21 rfl ?_
  refine va_get (D := (dC, dI)) (ci := 3) (v := .int lf) (C := RX3) (T := TX3) (N := 11) hx hb hts (by decide +kernel) hown hK hP 0 rfl rfl 10 (by decide) (hts (.fieldLink RX3 75 "DotCoverModel" "left" "I") (by decide +kernel)) (fun _ h9 => h9) rfl dX3_leave_22 ?_
  refine lv_iconst (v := 1) hx hb dX3_leave_25 (by decide) ?_
  refine lv_iadd hx hb dX3_leave_26 ?_
  refine lv_topi (fun v_1 ev_1 => ?_)
  have hF := nm_u hF ev_1
  refine va_put (D := (dC, dI)) (ci := 3) (v := .int v_1) (ty := .int) (C := RX3) (T := TX3) (N := 11) hx hb hts (by decide +kernel) tyX3 tyX3_ok nmX3 hown hK hP hD hS 0 rfl rfl 10 (by decide) (hts (.fieldLink RX3 75 "DotCoverModel" "left" "I") (by decide +kernel)) (fun _ h9 => h9) rfl (by decide +kernel) rfl rfl (Nat.le_of_ble_eq_true rfl) dX3_leave_27 (fun H locs hP hD hS => ?_)
  have hP : va_P (dC, dI) vwCl [(h0, .inr (3, [.ref ast, .ref aim, .ref akp, .ref awx, .ref awy, .ref apx, .ref apy, .int co, .ref alx, .ref aly, .int v_1])), (ast, .inl (cI, 54, .inl st)), (aim, .inl (cI, 108, .inl im)), (akp, .inl (cZ, 2, .inl kp)), (awx, .inl (cI, 8, .inl wx)), (awy, .inl (cI, 8, .inl wy)), (apx, .inl (cJ, 300, .inr (.inl px))), (apy, .inl (cJ, 300, .inr (.inl py))), (alx, .inl (cJ, 300, .inr (.inl (vp_updL lx lf.toNatClampNeg a0)))), (aly, .inl (cJ, 300, .inr (.inl (vp_updL ly lf.toNatClampNeg a1))))] H := hP
  have hD : va_D A [(h0, .inr (3, [.ref ast, .ref aim, .ref akp, .ref awx, .ref awy, .ref apx, .ref apy, .int co, .ref alx, .ref aly, .int v_1])), (ast, .inl (cI, 54, .inl st)), (aim, .inl (cI, 108, .inl im)), (akp, .inl (cZ, 2, .inl kp)), (awx, .inl (cI, 8, .inl wx)), (awy, .inl (cI, 8, .inl wy)), (apx, .inl (cJ, 300, .inr (.inl px))), (apy, .inl (cJ, 300, .inr (.inl py))), (alx, .inl (cJ, 300, .inr (.inl (vp_updL lx lf.toNatClampNeg a0)))), (aly, .inl (cJ, 300, .inr (.inl (vp_updL ly lf.toNatClampNeg a1))))] := hD
  obtain ⟨rfl, rfl, rfl⟩ := tp3 hF
  rw [← hQ]
  exact W.vret hx hb hr (fun t ht hW => ⟨⟨(), rfl, trivial, by rw [ht]; exact hP, va_K.moved hW.alike hK, hD⟩, hS.F ht⟩) hS.2.2 dX3_leave_30

def P_X3_within (a0 : Int32) (a1 : Int32) (a2 : Int64) (px : Nat → Int64) (py : Nat → Int64) : Option (Int64) :=
  if a1 = (0 : Int32) then
    gd (ib a0 300) (
    some ((px a0.toNatClampNeg) - a2))
  else if a1 = (1 : Int32) then
    gd (ib a0 300) (
    some (a2 - (px a0.toNatClampNeg)))
  else if a1 = (2 : Int32) then
    gd (ib a0 300) (
    some ((py a0.toNatClampNeg) - a2))
  else
    gd (ib a0 300) (
    some (a2 - (py a0.toNatClampNeg)))

def rm_X3_within : Room := { frames := 0, cells := 0, slots := 0, locals := 0 }

set_option maxHeartbeats 4000000 in
set_option maxRecDepth 100000 in
theorem c_X3_within (l : Launch) (dC : Nat → ClassId) (dI : Nat → Nat → Nat) (h0 ast aim akp awx awy apx apy alx aly : Nat) (cI cZ cJ : ClassId) (st : Nat → Int32) (im : Nat → Int32) (kp : Nat → Int32) (wx : Nat → Int32) (wy : Nat → Int32) (px : Nat → Int64) (py : Nat → Int64) (co : Int32) (lx : Nat → Int64) (ly : Nat → Int64) (lf : Int32) (a0 : Int32) (a1 : Int32) (a2 : Int64) (r0 : Int64) (hF : P_X3_within a0 a1 a2 px py = some r0) : Met l yX3_within wsX3_within rm_X3_within (va_Pc [.ref h0, .int a0, .int a1, .long a2] (fun U => va_P (dC, dI) vwCl [(h0, .inr (3, [.ref ast, .ref aim, .ref akp, .ref awx, .ref awy, .ref apx, .ref apy, .int co, .ref alx, .ref aly, .int lf])), (ast, .inl (cI, 54, .inl st)), (aim, .inl (cI, 108, .inl im)), (akp, .inl (cZ, 2, .inl kp)), (awx, .inl (cI, 8, .inl wx)), (awy, .inl (cI, 8, .inl wy)), (apx, .inl (cJ, 300, .inr (.inl px))), (apy, .inl (cJ, 300, .inr (.inl py))), (alx, .inl (cJ, 300, .inr (.inl lx))), (aly, .inl (cJ, 300, .inr (.inl ly)))] U.heap ∧ va_K (dC, dI) vwCl [(cI, .int), (cZ, .boolean), (cJ, .long)] U)) (vp_Sl (fun x => x = r0)) 0 0 (fun _ => False) := by
  refine Met.ofW (cc := cX3_within) (maxL := 5) (ret := (some .long)) (by decide) rfl ?_
  intro p e s m args below meth c s₁ B hml hv
  change W p l e rm_X3_within s m args below meth c s.heap [] 0 0 _ _
  obtain ⟨hv, hP, hK⟩ := hv
  have hx := B.exec
  have hb := B.bytes
  have hr := B.returns
  have hts := atoms_spec (ws := wsX3_within) B.pre
  have hown : s.vm.findClass RX3 = some m.cls := findClass_of_methodNamed B.named
  have hlocks := B.notSynchronized
  generalize hQ : MQ below (vp_Sl (fun x => x = r0)) args s 0 0 (fun _ => False) = Q
  have hl := lv_entry ([.ref h0, .int a0, .int a1, .long a2]) (n := 5) (Nat.le_of_ble_eq_true rfl)
  have hE : entryFrame m args 5 = F0 m 0 ((lg_sl ([.ref h0, .int a0, .int a1, .long a2]) ++ List.replicate (5 - (lg_sl ([.ref h0, .int a0, .int a1, .long a2])).length) Slot.unset).toArray) [] := by rw [hv]; exact lg_entry_eq m _ 5
  rw [hE]
  generalize (lg_sl ([.ref h0, .int a0, .int a1, .long a2]) ++ List.replicate (5 - (lg_sl ([.ref h0, .int a0, .int a1, .long a2])).length) Slot.unset).toArray = ls at hl ⊢
  have hl : lv_has ls 5 [(0, .ref h0), (1, .int a0), (2, .int a1), (3, .long a2)] := hl
  unfold P_X3_within at hF
  refine lv_iload_n hx hb dX3_within_0 rfl (lv_at hl 2 rfl) ?_
  by_cases c_1 : a1 = (0 : Int32)
  · have hF := br1 hF c_1
    refine lv_tableIn (off := 27) (tgt := 28) hx hb dX3_within_1 (by rw [c_1]; decide) (by rw [c_1]; decide) (by rw [c_1]; rfl) (by decide) ?_
    refine lv_aload_n hx hb dX3_within_28 rfl (lv_at hl 0 rfl) ?_
    refine va_get (D := (dC, dI)) (ci := 3) (v := .ref apx) (C := RX3) (T := TX3) (N := 11) hx hb hts (by decide +kernel) hown hK hP 0 rfl rfl 5 (by decide) (hts (.fieldLink RX3 26 "DotCoverModel" "px" "[J") (by decide +kernel)) (fun _ h9 => h9) rfl dX3_within_29 ?_
    refine lv_iload_n hx hb dX3_within_32 rfl (lv_at hl 1 rfl) ?_
    obtain ⟨hi_33, hF⟩ := gd_u hF
    refine va_lald hx hb hK hP 6 2 rfl rfl (in_u hi_33) dX3_within_33 ?_
    refine lv_lload_n hx hb dX3_within_34 rfl (lv_at hl 3 rfl) ?_
    refine lv_lsub hx hb dX3_within_35 ?_
    rw [← hQ]
    exact W.lret (v := ((px a0.toNatClampNeg) - a2)) hx hb hr (fun t ht hW => ⟨_, rfl, Option.some.inj hF, ht⟩) (fun _ h => by cases h) dX3_within_36
  · have hF := br0 hF c_1
    by_cases c_2 : a1 = (1 : Int32)
    · have hF := br1 hF c_2
      refine lv_tableIn (off := 36) (tgt := 37) hx hb dX3_within_1 (by rw [c_2]; decide) (by rw [c_2]; decide) (by rw [c_2]; rfl) (by decide) ?_
      refine lv_lload_n hx hb dX3_within_37 rfl (lv_at hl 3 rfl) ?_
      refine lv_aload_n hx hb dX3_within_38 rfl (lv_at hl 0 rfl) ?_
      refine va_get (D := (dC, dI)) (ci := 3) (v := .ref apx) (C := RX3) (T := TX3) (N := 11) hx hb hts (by decide +kernel) hown hK hP 0 rfl rfl 5 (by decide) (hts (.fieldLink RX3 26 "DotCoverModel" "px" "[J") (by decide +kernel)) (fun _ h9 => h9) rfl dX3_within_39 ?_
      refine lv_iload_n hx hb dX3_within_42 rfl (lv_at hl 1 rfl) ?_
      obtain ⟨hi_43, hF⟩ := gd_u hF
      refine va_lald hx hb hK hP 6 2 rfl rfl (in_u hi_43) dX3_within_43 ?_
      refine lv_lsub hx hb dX3_within_44 ?_
      rw [← hQ]
      exact W.lret (v := (a2 - (px a0.toNatClampNeg))) hx hb hr (fun t ht hW => ⟨_, rfl, Option.some.inj hF, ht⟩) (fun _ h => by cases h) dX3_within_45
    · have hF := br0 hF c_2
      by_cases c_3 : a1 = (2 : Int32)
      · have hF := br1 hF c_3
        refine lv_tableIn (off := 45) (tgt := 46) hx hb dX3_within_1 (by rw [c_3]; decide) (by rw [c_3]; decide) (by rw [c_3]; rfl) (by decide) ?_
        refine lv_aload_n hx hb dX3_within_46 rfl (lv_at hl 0 rfl) ?_
        refine va_get (D := (dC, dI)) (ci := 3) (v := .ref apy) (C := RX3) (T := TX3) (N := 11) hx hb hts (by decide +kernel) hown hK hP 0 rfl rfl 6 (by decide) (hts (.fieldLink RX3 30 "DotCoverModel" "py" "[J") (by decide +kernel)) (fun _ h9 => h9) rfl dX3_within_47 ?_
        refine lv_iload_n hx hb dX3_within_50 rfl (lv_at hl 1 rfl) ?_
        obtain ⟨hi_51, hF⟩ := gd_u hF
        refine va_lald hx hb hK hP 7 2 rfl rfl (in_u hi_51) dX3_within_51 ?_
        refine lv_lload_n hx hb dX3_within_52 rfl (lv_at hl 3 rfl) ?_
        refine lv_lsub hx hb dX3_within_53 ?_
        rw [← hQ]
        exact W.lret (v := ((py a0.toNatClampNeg) - a2)) hx hb hr (fun t ht hW => ⟨_, rfl, Option.some.inj hF, ht⟩) (fun _ h => by cases h) dX3_within_54
      · have hF := br0 hF c_3
        have tc_1 := lv_neT c_1 (a := 0) (by decide)
        have tc_2 := lv_neT c_2 (a := 1) (by decide)
        have tc_3 := lv_neT c_3 (a := 2) (by decide)
        refine lv_tableOut (tgt := 55) hx hb dX3_within_1 (by omega) (by decide) ?_
        refine lv_lload_n hx hb dX3_within_55 rfl (lv_at hl 3 rfl) ?_
        refine lv_aload_n hx hb dX3_within_56 rfl (lv_at hl 0 rfl) ?_
        refine va_get (D := (dC, dI)) (ci := 3) (v := .ref apy) (C := RX3) (T := TX3) (N := 11) hx hb hts (by decide +kernel) hown hK hP 0 rfl rfl 6 (by decide) (hts (.fieldLink RX3 30 "DotCoverModel" "py" "[J") (by decide +kernel)) (fun _ h9 => h9) rfl dX3_within_57 ?_
        refine lv_iload_n hx hb dX3_within_60 rfl (lv_at hl 1 rfl) ?_
        obtain ⟨hi_61, hF⟩ := gd_u hF
        refine va_lald hx hb hK hP 7 2 rfl rfl (in_u hi_61) dX3_within_61 ?_
        refine lv_lsub hx hb dX3_within_62 ?_
        rw [← hQ]
        exact W.lret (v := (a2 - (py a0.toNatClampNeg))) hx hb hr (fun t ht hW => ⟨_, rfl, Option.some.inj hF, ht⟩) (fun _ h => by cases h) dX3_within_63

def P_X3_leaveCrossing (a0 : Int32) (a1 : Int32) (a2 : Int32) (a3 : Int64) (px : Nat → Int64) (py : Nat → Int64) (lx : Nat → Int64) (ly : Nat → Int64) (lf : Int32) : Option ((Nat → Int64) × (Nat → Int64) × Int32) :=
  if (2 : Int32) ≤ a2 then
    gd (ib a0 300) (
    gd (ib a0 300) (
    gd (ib a1 300) (
    gd (ib a0 300) (
    gd (ib a1 300) (
    gd (ib a0 300) (
    gd (nzl ((py a1.toNatClampNeg) - (py a0.toNatClampNeg))) (
    bd3 (P_X3_leave ((px a0.toNatClampNeg) + (((a3 - (py a0.toNatClampNeg)) * ((px a1.toNatClampNeg) - (px a0.toNatClampNeg))) / ((py a1.toNatClampNeg) - (py a0.toNatClampNeg)))) a3 lx ly lf) (fun lx_2 ly_3 lf_4 =>
    some (lx_2, ly_3, lf_4)))))))))
  else
    gd (ib a0 300) (
    gd (ib a0 300) (
    gd (ib a1 300) (
    gd (ib a0 300) (
    gd (ib a1 300) (
    gd (ib a0 300) (
    gd (nzl ((px a1.toNatClampNeg) - (px a0.toNatClampNeg))) (
    bd3 (P_X3_leave a3 ((py a0.toNatClampNeg) + (((a3 - (px a0.toNatClampNeg)) * ((py a1.toNatClampNeg) - (py a0.toNatClampNeg))) / ((px a1.toNatClampNeg) - (px a0.toNatClampNeg)))) lx ly lf) (fun lx_5 ly_6 lf_7 =>
    some (lx_5, ly_6, lf_7)))))))))

def rm_X3_leaveCrossing : Room := { frames := 1, cells := 0, slots := 0, locals := 24 }

set_option maxHeartbeats 4000000 in
set_option maxRecDepth 100000 in
theorem c_X3_leaveCrossing (l : Launch) (dC : Nat → ClassId) (dI : Nat → Nat → Nat) (h0 ast aim akp awx awy apx apy alx aly : Nat) (cI cZ cJ : ClassId) (hsz0 : Nat) (st : Nat → Int32) (im : Nat → Int32) (kp : Nat → Int32) (wx : Nat → Int32) (wy : Nat → Int32) (px : Nat → Int64) (py : Nat → Int64) (co : Int32) (lx : Nat → Int64) (ly : Nat → Int64) (lf : Int32) (a0 : Int32) (a1 : Int32) (a2 : Int32) (a3 : Int64) (lxN : Nat → Int64) (lyN : Nat → Int64) (lfN : Int32) (hF : P_X3_leaveCrossing a0 a1 a2 a3 px py lx ly lf = some (lxN, lyN, lfN)) : Met l yX3_leaveCrossing wsX3_leaveCrossing rm_X3_leaveCrossing (va_Pc [.ref h0, .int a0, .int a1, .int a2, .long a3] (fun U => U.heap.size = hsz0 ∧ va_P (dC, dI) vwCl [(h0, .inr (3, [.ref ast, .ref aim, .ref akp, .ref awx, .ref awy, .ref apx, .ref apy, .int co, .ref alx, .ref aly, .int lf])), (ast, .inl (cI, 54, .inl st)), (aim, .inl (cI, 108, .inl im)), (akp, .inl (cZ, 2, .inl kp)), (awx, .inl (cI, 8, .inl wx)), (awy, .inl (cI, 8, .inl wy)), (apx, .inl (cJ, 300, .inr (.inl px))), (apy, .inl (cJ, 300, .inr (.inl py))), (alx, .inl (cJ, 300, .inr (.inl lx))), (aly, .inl (cJ, 300, .inr (.inl ly)))] U.heap ∧ va_K (dC, dI) vwCl [(cI, .int), (cZ, .boolean), (cJ, .long)] U ∧ va_D (fun _ => True) [(h0, .inr (3, [.ref ast, .ref aim, .ref akp, .ref awx, .ref awy, .ref apx, .ref apy, .int co, .ref alx, .ref aly, .int lf])), (ast, .inl (cI, 54, .inl st)), (aim, .inl (cI, 108, .inl im)), (akp, .inl (cZ, 2, .inl kp)), (awx, .inl (cI, 8, .inl wx)), (awy, .inl (cI, 8, .inl wy)), (apx, .inl (cJ, 300, .inr (.inl px))), (apy, .inl (cJ, 300, .inr (.inl py))), (alx, .inl (cJ, 300, .inr (.inl lx))), (aly, .inl (cJ, 300, .inr (.inl ly)))])) (va_Qv (fun (_ : Unit) => True) (fun _ t => va_P (dC, dI) vwCl [(h0, .inr (3, [.ref ast, .ref aim, .ref akp, .ref awx, .ref awy, .ref apx, .ref apy, .int co, .ref alx, .ref aly, .int lfN])), (ast, .inl (cI, 54, .inl st)), (aim, .inl (cI, 108, .inl im)), (akp, .inl (cZ, 2, .inl kp)), (awx, .inl (cI, 8, .inl wx)), (awy, .inl (cI, 8, .inl wy)), (apx, .inl (cJ, 300, .inr (.inl px))), (apy, .inl (cJ, 300, .inr (.inl py))), (alx, .inl (cJ, 300, .inr (.inl lxN))), (aly, .inl (cJ, 300, .inr (.inl lyN)))] t.heap ∧ va_K (dC, dI) vwCl [(cI, .int), (cZ, .boolean), (cJ, .long)] t ∧ va_D (va_A [(h0, .inr (3, [.ref ast, .ref aim, .ref akp, .ref awx, .ref awy, .ref apx, .ref apy, .int co, .ref alx, .ref aly, .int lf])), (ast, .inl (cI, 54, .inl st)), (aim, .inl (cI, 108, .inl im)), (akp, .inl (cZ, 2, .inl kp)), (awx, .inl (cI, 8, .inl wx)), (awy, .inl (cI, 8, .inl wy)), (apx, .inl (cJ, 300, .inr (.inl px))), (apy, .inl (cJ, 300, .inr (.inl py))), (alx, .inl (cJ, 300, .inr (.inl lx))), (aly, .inl (cJ, 300, .inr (.inl ly)))] hsz0) [(h0, .inr (3, [.ref ast, .ref aim, .ref akp, .ref awx, .ref awy, .ref apx, .ref apy, .int co, .ref alx, .ref aly, .int lfN])), (ast, .inl (cI, 54, .inl st)), (aim, .inl (cI, 108, .inl im)), (akp, .inl (cZ, 2, .inl kp)), (awx, .inl (cI, 8, .inl wx)), (awy, .inl (cI, 8, .inl wy)), (apx, .inl (cJ, 300, .inr (.inl px))), (apy, .inl (cJ, 300, .inr (.inl py))), (alx, .inl (cJ, 300, .inr (.inl lxN))), (aly, .inl (cJ, 300, .inr (.inl lyN)))]) (va_A [(h0, .inr (3, [.ref ast, .ref aim, .ref akp, .ref awx, .ref awy, .ref apx, .ref apy, .int co, .ref alx, .ref aly, .int lf])), (ast, .inl (cI, 54, .inl st)), (aim, .inl (cI, 108, .inl im)), (akp, .inl (cZ, 2, .inl kp)), (awx, .inl (cI, 8, .inl wx)), (awy, .inl (cI, 8, .inl wy)), (apx, .inl (cJ, 300, .inr (.inl px))), (apy, .inl (cJ, 300, .inr (.inl py))), (alx, .inl (cJ, 300, .inr (.inl lx))), (aly, .inl (cJ, 300, .inr (.inl ly)))] hsz0)) 0 0 (va_A [(h0, .inr (3, [.ref ast, .ref aim, .ref akp, .ref awx, .ref awy, .ref apx, .ref apy, .int co, .ref alx, .ref aly, .int lf])), (ast, .inl (cI, 54, .inl st)), (aim, .inl (cI, 108, .inl im)), (akp, .inl (cZ, 2, .inl kp)), (awx, .inl (cI, 8, .inl wx)), (awy, .inl (cI, 8, .inl wy)), (apx, .inl (cJ, 300, .inr (.inl px))), (apy, .inl (cJ, 300, .inr (.inl py))), (alx, .inl (cJ, 300, .inr (.inl lx))), (aly, .inl (cJ, 300, .inr (.inl ly)))] hsz0) := by
  refine Met.ofW (cc := cX3_leaveCrossing) (maxL := 6) (ret := none) (by decide) rfl ?_
  intro p e s m args below meth c s₁ B hml hv
  change W p l e rm_X3_leaveCrossing s m args below meth c s.heap [] 0 0 _ _
  obtain ⟨hv, hsz, hP, hK, hD0⟩ := hv
  have hx := B.exec
  have hb := B.bytes
  have hr := B.returns
  have hts := atoms_spec (ws := wsX3_leaveCrossing) B.pre
  have hown : s.vm.findClass RX3 = some m.cls := findClass_of_methodNamed B.named
  have hlocks := B.notSynchronized
  subst hsz
  have hD := hD0.self (sz := s.heap.size)
  generalize hAe : va_A [(h0, .inr (3, [.ref ast, .ref aim, .ref akp, .ref awx, .ref awy, .ref apx, .ref apy, .int co, .ref alx, .ref aly, .int lf])), (ast, .inl (cI, 54, .inl st)), (aim, .inl (cI, 108, .inl im)), (akp, .inl (cZ, 2, .inl kp)), (awx, .inl (cI, 8, .inl wx)), (awy, .inl (cI, 8, .inl wy)), (apx, .inl (cJ, 300, .inr (.inl px))), (apy, .inl (cJ, 300, .inr (.inl py))), (alx, .inl (cJ, 300, .inr (.inl lx))), (aly, .inl (cJ, 300, .inr (.inl ly)))] s.heap.size = A at hD ⊢
  have hA : ∀ q : Nat, s.heap.size ≤ q → A q := fun q h => by rw [← hAe]; exact Or.inr h
  have hS : va_S A s.heap s.heap [] := va_S.rf
  generalize hQ : MQ below (va_Qv (fun (_ : Unit) => True) (fun _ t => va_P (dC, dI) vwCl [(h0, .inr (3, [.ref ast, .ref aim, .ref akp, .ref awx, .ref awy, .ref apx, .ref apy, .int co, .ref alx, .ref aly, .int lfN])), (ast, .inl (cI, 54, .inl st)), (aim, .inl (cI, 108, .inl im)), (akp, .inl (cZ, 2, .inl kp)), (awx, .inl (cI, 8, .inl wx)), (awy, .inl (cI, 8, .inl wy)), (apx, .inl (cJ, 300, .inr (.inl px))), (apy, .inl (cJ, 300, .inr (.inl py))), (alx, .inl (cJ, 300, .inr (.inl lxN))), (aly, .inl (cJ, 300, .inr (.inl lyN)))] t.heap ∧ va_K (dC, dI) vwCl [(cI, .int), (cZ, .boolean), (cJ, .long)] t ∧ va_D A [(h0, .inr (3, [.ref ast, .ref aim, .ref akp, .ref awx, .ref awy, .ref apx, .ref apy, .int co, .ref alx, .ref aly, .int lfN])), (ast, .inl (cI, 54, .inl st)), (aim, .inl (cI, 108, .inl im)), (akp, .inl (cZ, 2, .inl kp)), (awx, .inl (cI, 8, .inl wx)), (awy, .inl (cI, 8, .inl wy)), (apx, .inl (cJ, 300, .inr (.inl px))), (apy, .inl (cJ, 300, .inr (.inl py))), (alx, .inl (cJ, 300, .inr (.inl lxN))), (aly, .inl (cJ, 300, .inr (.inl lyN)))]) A) args s 0 0 A = Q
  have hl := lv_entry ([.ref h0, .int a0, .int a1, .int a2, .long a3]) (n := 6) (Nat.le_of_ble_eq_true rfl)
  have hE : entryFrame m args 6 = F0 m 0 ((lg_sl ([.ref h0, .int a0, .int a1, .int a2, .long a3]) ++ List.replicate (6 - (lg_sl ([.ref h0, .int a0, .int a1, .int a2, .long a3])).length) Slot.unset).toArray) [] := by rw [hv]; exact lg_entry_eq m _ 6
  rw [hE]
  generalize (lg_sl ([.ref h0, .int a0, .int a1, .int a2, .long a3]) ++ List.replicate (6 - (lg_sl ([.ref h0, .int a0, .int a1, .int a2, .long a3])).length) Slot.unset).toArray = ls at hl ⊢
  have hl : lv_has ls 6 [(0, .ref h0), (1, .int a0), (2, .int a1), (3, .int a2), (4, .long a3)] := hl
  unfold P_X3_leaveCrossing at hF
  refine lv_iload_n hx hb dX3_leaveCrossing_0 rfl (lv_at hl 3 rfl) ?_
  refine lv_iconst (v := 2) hx hb dX3_leaveCrossing_1 (by decide) ?_
  refine lv_icmp_ge (tgt := 58) hx hb dX3_leaveCrossing_2 (by decide) (fun c_1 => ?_) (fun c_1 => ?_)
  · have hF := br1 hF c_1
    refine lv_aload_n hx hb dX3_leaveCrossing_58 rfl (lv_at hl 0 rfl) ?_
    refine lv_aload_n hx hb dX3_leaveCrossing_59 rfl (lv_at hl 0 rfl) ?_
    refine va_get (D := (dC, dI)) (ci := 3) (v := .ref apx) (C := RX3) (T := TX3) (N := 11) hx hb hts (by decide +kernel) hown hK hP 0 rfl rfl 5 (by decide) (hts (.fieldLink RX3 26 "DotCoverModel" "px" "[J") (by decide +kernel)) (fun _ h9 => h9) rfl dX3_leaveCrossing_60 ?_
    refine lv_iload_n hx hb dX3_leaveCrossing_63 rfl (lv_at hl 1 rfl) ?_
    obtain ⟨hi_64, hF⟩ := gd_u hF
    refine va_lald hx hb hK hP 6 2 rfl rfl (in_u hi_64) dX3_leaveCrossing_64 ?_
    refine lv_lload hx hb dX3_leaveCrossing_65 (lv_at hl 4 rfl) ?_
    refine lv_aload_n hx hb dX3_leaveCrossing_67 rfl (lv_at hl 0 rfl) ?_
    refine va_get (D := (dC, dI)) (ci := 3) (v := .ref apy) (C := RX3) (T := TX3) (N := 11) hx hb hts (by decide +kernel) hown hK hP 0 rfl rfl 6 (by decide) (hts (.fieldLink RX3 30 "DotCoverModel" "py" "[J") (by decide +kernel)) (fun _ h9 => h9) rfl dX3_leaveCrossing_68 ?_
    refine lv_iload_n hx hb dX3_leaveCrossing_71 rfl (lv_at hl 1 rfl) ?_
    obtain ⟨hi_72, hF⟩ := gd_u hF
    refine va_lald hx hb hK hP 7 2 rfl rfl (in_u hi_72) dX3_leaveCrossing_72 ?_
    refine lv_lsub hx hb dX3_leaveCrossing_73 ?_
    refine lv_aload_n hx hb dX3_leaveCrossing_74 rfl (lv_at hl 0 rfl) ?_
    refine va_get (D := (dC, dI)) (ci := 3) (v := .ref apx) (C := RX3) (T := TX3) (N := 11) hx hb hts (by decide +kernel) hown hK hP 0 rfl rfl 5 (by decide) (hts (.fieldLink RX3 26 "DotCoverModel" "px" "[J") (by decide +kernel)) (fun _ h9 => h9) rfl dX3_leaveCrossing_75 ?_
    refine lv_iload_n hx hb dX3_leaveCrossing_78 rfl (lv_at hl 2 rfl) ?_
    obtain ⟨hi_79, hF⟩ := gd_u hF
    refine va_lald hx hb hK hP 6 2 rfl rfl (in_u hi_79) dX3_leaveCrossing_79 ?_
    refine lv_aload_n hx hb dX3_leaveCrossing_80 rfl (lv_at hl 0 rfl) ?_
    refine va_get (D := (dC, dI)) (ci := 3) (v := .ref apx) (C := RX3) (T := TX3) (N := 11) hx hb hts (by decide +kernel) hown hK hP 0 rfl rfl 5 (by decide) (hts (.fieldLink RX3 26 "DotCoverModel" "px" "[J") (by decide +kernel)) (fun _ h9 => h9) rfl dX3_leaveCrossing_81 ?_
    refine lv_iload_n hx hb dX3_leaveCrossing_84 rfl (lv_at hl 1 rfl) ?_
    obtain ⟨hi_85, hF⟩ := gd_u hF
    refine va_lald hx hb hK hP 6 2 rfl rfl (in_u hi_85) dX3_leaveCrossing_85 ?_
    refine lv_lsub hx hb dX3_leaveCrossing_86 ?_
    refine lv_lmul hx hb dX3_leaveCrossing_87 ?_
    refine lv_aload_n hx hb dX3_leaveCrossing_88 rfl (lv_at hl 0 rfl) ?_
    refine va_get (D := (dC, dI)) (ci := 3) (v := .ref apy) (C := RX3) (T := TX3) (N := 11) hx hb hts (by decide +kernel) hown hK hP 0 rfl rfl 6 (by decide) (hts (.fieldLink RX3 30 "DotCoverModel" "py" "[J") (by decide +kernel)) (fun _ h9 => h9) rfl dX3_leaveCrossing_89 ?_
    refine lv_iload_n hx hb dX3_leaveCrossing_92 rfl (lv_at hl 2 rfl) ?_
    obtain ⟨hi_93, hF⟩ := gd_u hF
    refine va_lald hx hb hK hP 7 2 rfl rfl (in_u hi_93) dX3_leaveCrossing_93 ?_
    refine lv_aload_n hx hb dX3_leaveCrossing_94 rfl (lv_at hl 0 rfl) ?_
    refine va_get (D := (dC, dI)) (ci := 3) (v := .ref apy) (C := RX3) (T := TX3) (N := 11) hx hb hts (by decide +kernel) hown hK hP 0 rfl rfl 6 (by decide) (hts (.fieldLink RX3 30 "DotCoverModel" "py" "[J") (by decide +kernel)) (fun _ h9 => h9) rfl dX3_leaveCrossing_95 ?_
    refine lv_iload_n hx hb dX3_leaveCrossing_98 rfl (lv_at hl 1 rfl) ?_
    obtain ⟨hi_99, hF⟩ := gd_u hF
    refine va_lald hx hb hK hP 7 2 rfl rfl (in_u hi_99) dX3_leaveCrossing_99 ?_
    refine lv_lsub hx hb dX3_leaveCrossing_100 ?_
    obtain ⟨hz_101, hF⟩ := gd_u hF
    refine lv_ldiv hx hb dX3_leaveCrossing_101 (nz_ul hz_101) ?_
    refine lv_ladd hx hb dX3_leaveCrossing_102 ?_
    refine lv_lload hx hb dX3_leaveCrossing_103 (lv_at hl 4 rfl) ?_
    obtain ⟨lx_2, ly_3, lf_4, hr_4, hF⟩ := bd3_u hF
    have hPc := hP.sub (ws' := [(h0, .inr (3, [.ref ast, .ref aim, .ref akp, .ref awx, .ref awy, .ref apx, .ref apy, .int co, .ref alx, .ref aly, .int lf])), (ast, .inl (cI, 54, .inl st)), (aim, .inl (cI, 108, .inl im)), (akp, .inl (cZ, 2, .inl kp)), (awx, .inl (cI, 8, .inl wx)), (awy, .inl (cI, 8, .inl wy)), (apx, .inl (cJ, 300, .inr (.inl px))), (apy, .inl (cJ, 300, .inr (.inl py))), (alx, .inl (cJ, 300, .inr (.inl lx))), (aly, .inl (cJ, 300, .inr (.inl ly)))]) [0, 1, 2, 3, 4, 5, 6, 7, 8, 9] rfl
    have hKc := hK.sub (tys' := [(cI, .int), (cZ, .boolean), (cJ, .long)]) [0, 1, 2] rfl
    have hDc := hD.sub (ws' := [(h0, .inr (3, [.ref ast, .ref aim, .ref akp, .ref awx, .ref awy, .ref apx, .ref apy, .int co, .ref alx, .ref aly, .int lf])), (ast, .inl (cI, 54, .inl st)), (aim, .inl (cI, 108, .inl im)), (akp, .inl (cZ, 2, .inl kp)), (awx, .inl (cI, 8, .inl wx)), (awy, .inl (cI, 8, .inl wy)), (apx, .inl (cJ, 300, .inr (.inl px))), (apy, .inl (cJ, 300, .inr (.inl py))), (alx, .inl (cJ, 300, .inr (.inl lx))), (aly, .inl (cJ, 300, .inr (.inl ly)))]) [0, 1, 2, 3, 4, 5, 6, 7, 8, 9] (by decide) rfl
    have hFc := va_free (wc := [(h0, .inr (3, [.ref ast, .ref aim, .ref akp, .ref awx, .ref awy, .ref apx, .ref apy, .int co, .ref alx, .ref aly, .int lf])), (ast, .inl (cI, 54, .inl st)), (aim, .inl (cI, 108, .inl im)), (akp, .inl (cZ, 2, .inl kp)), (awx, .inl (cI, 8, .inl wx)), (awy, .inl (cI, 8, .inl wy)), (apx, .inl (cJ, 300, .inr (.inl px))), (apy, .inl (cJ, 300, .inr (.inl py))), (alx, .inl (cJ, 300, .inr (.inl lx))), (aly, .inl (cJ, 300, .inr (.inl ly)))]) hD hS hA [0, 1, 2, 3, 4, 5, 6, 7, 8, 9] rfl
    refine va_callv (va_runV (As := [.long ((px a0.toNatClampNeg) + (((a3 - (py a0.toNatClampNeg)) * ((px a1.toNatClampNeg) - (px a0.toNatClampNeg))) / ((py a1.toNatClampNeg) - (py a0.toNatClampNeg)))), .long a3]) (rest := []) ⟨hx, hb, hml, hown, hts⟩ (c_X3_leave l dC dI h0 ast aim akp awx awy apx apy alx aly cI cZ cJ s.heap.size st im kp wx wy px py co lx ly lf ((px a0.toNatClampNeg) + (((a3 - (py a0.toNatClampNeg)) * ((px a1.toNatClampNeg) - (px a0.toNatClampNeg))) / ((py a1.toNatClampNeg) - (py a0.toNatClampNeg)))) a3 lx_2 ly_3 lf_4 hr_4) (cwV 2 hts gX3_leaveCrossing_X3_leave rfl rfl rfl (by decide +kernel) ⟨Nat.le_of_ble_eq_true rfl, Nat.le_of_ble_eq_true rfl⟩) ⟨fun a U g mk q => ⟨q.1, q.2.1, q.2.2.1, va_K.moved (u := U) (U := U.calling g mk a) (Vm.Alike.refl U.vm) q.2.2.2.1, q.2.2.2.2⟩, va_recv hKc hPc (ci := 3) (q0 := 0) rfl rfl, fun U hU hW => ⟨rfl, by rw [hU], by rw [hU]; exact hPc, va_K.moved hW.alike hKc, hDc.weaken (fun _ _ _ _ => trivial)⟩⟩ rfl rfl hl.1 rfl (lv_room (Nat.le_of_ble_eq_true rfl)) dX3_leaveCrossing_105 ⟨Nat.le_of_ble_eq_true rfl, Nat.le_of_ble_eq_true rfl⟩) hS (fun q _ h => hFc q h) hFc (fun _ t H1 locs ht hvm hw hB hz1 hk1 hS => ?_)
    obtain ⟨hP1, hK1, hD1⟩ := hB
    rw [ht] at hP1
    obtain ⟨hP, hD⟩ := va_join (wr := []) (w1 := [(h0, .inr (3, [.ref ast, .ref aim, .ref akp, .ref awx, .ref awy, .ref apx, .ref apy, .int co, .ref alx, .ref aly, .int lf_4])), (ast, .inl (cI, 54, .inl st)), (aim, .inl (cI, 108, .inl im)), (akp, .inl (cZ, 2, .inl kp)), (awx, .inl (cI, 8, .inl wx)), (awy, .inl (cI, 8, .inl wy)), (apx, .inl (cJ, 300, .inr (.inl px))), (apy, .inl (cJ, 300, .inr (.inl py))), (alx, .inl (cJ, 300, .inr (.inl lx_2))), (aly, .inl (cJ, 300, .inr (.inl ly_3)))]) hP hD [0, 1, 2, 3, 4, 5, 6, 7, 8, 9] [] rfl rfl (by decide) (by decide) hk1 hFc hP1 hD1
    clear hP1 hK1 hD1 hk1 hFc
    generalize H1 = H at hP hS ⊢
    have hP : va_P (dC, dI) vwCl [(h0, .inr (3, [.ref ast, .ref aim, .ref akp, .ref awx, .ref awy, .ref apx, .ref apy, .int co, .ref alx, .ref aly, .int lf_4])), (ast, .inl (cI, 54, .inl st)), (aim, .inl (cI, 108, .inl im)), (akp, .inl (cZ, 2, .inl kp)), (awx, .inl (cI, 8, .inl wx)), (awy, .inl (cI, 8, .inl wy)), (apx, .inl (cJ, 300, .inr (.inl px))), (apy, .inl (cJ, 300, .inr (.inl py))), (alx, .inl (cJ, 300, .inr (.inl lx_2))), (aly, .inl (cJ, 300, .inr (.inl ly_3)))] H := hP
    have hD : va_D A [(h0, .inr (3, [.ref ast, .ref aim, .ref akp, .ref awx, .ref awy, .ref apx, .ref apy, .int co, .ref alx, .ref aly, .int lf_4])), (ast, .inl (cI, 54, .inl st)), (aim, .inl (cI, 108, .inl im)), (akp, .inl (cZ, 2, .inl kp)), (awx, .inl (cI, 8, .inl wx)), (awy, .inl (cI, 8, .inl wy)), (apx, .inl (cJ, 300, .inr (.inl px))), (apy, .inl (cJ, 300, .inr (.inl py))), (alx, .inl (cJ, 300, .inr (.inl lx_2))), (aly, .inl (cJ, 300, .inr (.inl ly_3)))] := hD
    obtain ⟨rfl, rfl, rfl⟩ := tp3 hF
    rw [← hQ]
    exact W.vret hx hb hr (fun t ht hW => ⟨⟨(), rfl, trivial, by rw [ht]; exact hP, va_K.moved hW.alike hK, hD⟩, hS.F ht⟩) hS.2.2 dX3_leaveCrossing_108
  · have hF := br0 hF c_1
    refine lv_aload_n hx hb dX3_leaveCrossing_5 rfl (lv_at hl 0 rfl) ?_
    refine lv_lload hx hb dX3_leaveCrossing_6 (lv_at hl 4 rfl) ?_
    refine lv_aload_n hx hb dX3_leaveCrossing_8 rfl (lv_at hl 0 rfl) ?_
    refine va_get (D := (dC, dI)) (ci := 3) (v := .ref apy) (C := RX3) (T := TX3) (N := 11) hx hb hts (by decide +kernel) hown hK hP 0 rfl rfl 6 (by decide) (hts (.fieldLink RX3 30 "DotCoverModel" "py" "[J") (by decide +kernel)) (fun _ h9 => h9) rfl dX3_leaveCrossing_9 ?_
    refine lv_iload_n hx hb dX3_leaveCrossing_12 rfl (lv_at hl 1 rfl) ?_
    obtain ⟨hi_13, hF⟩ := gd_u hF
    refine va_lald hx hb hK hP 7 2 rfl rfl (in_u hi_13) dX3_leaveCrossing_13 ?_
    refine lv_lload hx hb dX3_leaveCrossing_14 (lv_at hl 4 rfl) ?_
    refine lv_aload_n hx hb dX3_leaveCrossing_16 rfl (lv_at hl 0 rfl) ?_
    refine va_get (D := (dC, dI)) (ci := 3) (v := .ref apx) (C := RX3) (T := TX3) (N := 11) hx hb hts (by decide +kernel) hown hK hP 0 rfl rfl 5 (by decide) (hts (.fieldLink RX3 26 "DotCoverModel" "px" "[J") (by decide +kernel)) (fun _ h9 => h9) rfl dX3_leaveCrossing_17 ?_
    refine lv_iload_n hx hb dX3_leaveCrossing_20 rfl (lv_at hl 1 rfl) ?_
    obtain ⟨hi_21, hF⟩ := gd_u hF
    refine va_lald hx hb hK hP 6 2 rfl rfl (in_u hi_21) dX3_leaveCrossing_21 ?_
    refine lv_lsub hx hb dX3_leaveCrossing_22 ?_
    refine lv_aload_n hx hb dX3_leaveCrossing_23 rfl (lv_at hl 0 rfl) ?_
    refine va_get (D := (dC, dI)) (ci := 3) (v := .ref apy) (C := RX3) (T := TX3) (N := 11) hx hb hts (by decide +kernel) hown hK hP 0 rfl rfl 6 (by decide) (hts (.fieldLink RX3 30 "DotCoverModel" "py" "[J") (by decide +kernel)) (fun _ h9 => h9) rfl dX3_leaveCrossing_24 ?_
    refine lv_iload_n hx hb dX3_leaveCrossing_27 rfl (lv_at hl 2 rfl) ?_
    obtain ⟨hi_28, hF⟩ := gd_u hF
    refine va_lald hx hb hK hP 7 2 rfl rfl (in_u hi_28) dX3_leaveCrossing_28 ?_
    refine lv_aload_n hx hb dX3_leaveCrossing_29 rfl (lv_at hl 0 rfl) ?_
    refine va_get (D := (dC, dI)) (ci := 3) (v := .ref apy) (C := RX3) (T := TX3) (N := 11) hx hb hts (by decide +kernel) hown hK hP 0 rfl rfl 6 (by decide) (hts (.fieldLink RX3 30 "DotCoverModel" "py" "[J") (by decide +kernel)) (fun _ h9 => h9) rfl dX3_leaveCrossing_30 ?_
    refine lv_iload_n hx hb dX3_leaveCrossing_33 rfl (lv_at hl 1 rfl) ?_
    obtain ⟨hi_34, hF⟩ := gd_u hF
    refine va_lald hx hb hK hP 7 2 rfl rfl (in_u hi_34) dX3_leaveCrossing_34 ?_
    refine lv_lsub hx hb dX3_leaveCrossing_35 ?_
    refine lv_lmul hx hb dX3_leaveCrossing_36 ?_
    refine lv_aload_n hx hb dX3_leaveCrossing_37 rfl (lv_at hl 0 rfl) ?_
    refine va_get (D := (dC, dI)) (ci := 3) (v := .ref apx) (C := RX3) (T := TX3) (N := 11) hx hb hts (by decide +kernel) hown hK hP 0 rfl rfl 5 (by decide) (hts (.fieldLink RX3 26 "DotCoverModel" "px" "[J") (by decide +kernel)) (fun _ h9 => h9) rfl dX3_leaveCrossing_38 ?_
    refine lv_iload_n hx hb dX3_leaveCrossing_41 rfl (lv_at hl 2 rfl) ?_
    obtain ⟨hi_42, hF⟩ := gd_u hF
    refine va_lald hx hb hK hP 6 2 rfl rfl (in_u hi_42) dX3_leaveCrossing_42 ?_
    refine lv_aload_n hx hb dX3_leaveCrossing_43 rfl (lv_at hl 0 rfl) ?_
    refine va_get (D := (dC, dI)) (ci := 3) (v := .ref apx) (C := RX3) (T := TX3) (N := 11) hx hb hts (by decide +kernel) hown hK hP 0 rfl rfl 5 (by decide) (hts (.fieldLink RX3 26 "DotCoverModel" "px" "[J") (by decide +kernel)) (fun _ h9 => h9) rfl dX3_leaveCrossing_44 ?_
    refine lv_iload_n hx hb dX3_leaveCrossing_47 rfl (lv_at hl 1 rfl) ?_
    obtain ⟨hi_48, hF⟩ := gd_u hF
    refine va_lald hx hb hK hP 6 2 rfl rfl (in_u hi_48) dX3_leaveCrossing_48 ?_
    refine lv_lsub hx hb dX3_leaveCrossing_49 ?_
    obtain ⟨hz_50, hF⟩ := gd_u hF
    refine lv_ldiv hx hb dX3_leaveCrossing_50 (nz_ul hz_50) ?_
    refine lv_ladd hx hb dX3_leaveCrossing_51 ?_
    obtain ⟨lx_5, ly_6, lf_7, hr_7, hF⟩ := bd3_u hF
    have hPc := hP.sub (ws' := [(h0, .inr (3, [.ref ast, .ref aim, .ref akp, .ref awx, .ref awy, .ref apx, .ref apy, .int co, .ref alx, .ref aly, .int lf])), (ast, .inl (cI, 54, .inl st)), (aim, .inl (cI, 108, .inl im)), (akp, .inl (cZ, 2, .inl kp)), (awx, .inl (cI, 8, .inl wx)), (awy, .inl (cI, 8, .inl wy)), (apx, .inl (cJ, 300, .inr (.inl px))), (apy, .inl (cJ, 300, .inr (.inl py))), (alx, .inl (cJ, 300, .inr (.inl lx))), (aly, .inl (cJ, 300, .inr (.inl ly)))]) [0, 1, 2, 3, 4, 5, 6, 7, 8, 9] rfl
    have hKc := hK.sub (tys' := [(cI, .int), (cZ, .boolean), (cJ, .long)]) [0, 1, 2] rfl
    have hDc := hD.sub (ws' := [(h0, .inr (3, [.ref ast, .ref aim, .ref akp, .ref awx, .ref awy, .ref apx, .ref apy, .int co, .ref alx, .ref aly, .int lf])), (ast, .inl (cI, 54, .inl st)), (aim, .inl (cI, 108, .inl im)), (akp, .inl (cZ, 2, .inl kp)), (awx, .inl (cI, 8, .inl wx)), (awy, .inl (cI, 8, .inl wy)), (apx, .inl (cJ, 300, .inr (.inl px))), (apy, .inl (cJ, 300, .inr (.inl py))), (alx, .inl (cJ, 300, .inr (.inl lx))), (aly, .inl (cJ, 300, .inr (.inl ly)))]) [0, 1, 2, 3, 4, 5, 6, 7, 8, 9] (by decide) rfl
    have hFc := va_free (wc := [(h0, .inr (3, [.ref ast, .ref aim, .ref akp, .ref awx, .ref awy, .ref apx, .ref apy, .int co, .ref alx, .ref aly, .int lf])), (ast, .inl (cI, 54, .inl st)), (aim, .inl (cI, 108, .inl im)), (akp, .inl (cZ, 2, .inl kp)), (awx, .inl (cI, 8, .inl wx)), (awy, .inl (cI, 8, .inl wy)), (apx, .inl (cJ, 300, .inr (.inl px))), (apy, .inl (cJ, 300, .inr (.inl py))), (alx, .inl (cJ, 300, .inr (.inl lx))), (aly, .inl (cJ, 300, .inr (.inl ly)))]) hD hS hA [0, 1, 2, 3, 4, 5, 6, 7, 8, 9] rfl
    refine va_callv (va_runV (As := [.long a3, .long ((py a0.toNatClampNeg) + (((a3 - (px a0.toNatClampNeg)) * ((py a1.toNatClampNeg) - (py a0.toNatClampNeg))) / ((px a1.toNatClampNeg) - (px a0.toNatClampNeg))))]) (rest := []) ⟨hx, hb, hml, hown, hts⟩ (c_X3_leave l dC dI h0 ast aim akp awx awy apx apy alx aly cI cZ cJ s.heap.size st im kp wx wy px py co lx ly lf a3 ((py a0.toNatClampNeg) + (((a3 - (px a0.toNatClampNeg)) * ((py a1.toNatClampNeg) - (py a0.toNatClampNeg))) / ((px a1.toNatClampNeg) - (px a0.toNatClampNeg)))) lx_5 ly_6 lf_7 hr_7) (cwV 2 hts gX3_leaveCrossing_X3_leave rfl rfl rfl (by decide +kernel) ⟨Nat.le_of_ble_eq_true rfl, Nat.le_of_ble_eq_true rfl⟩) ⟨fun a U g mk q => ⟨q.1, q.2.1, q.2.2.1, va_K.moved (u := U) (U := U.calling g mk a) (Vm.Alike.refl U.vm) q.2.2.2.1, q.2.2.2.2⟩, va_recv hKc hPc (ci := 3) (q0 := 0) rfl rfl, fun U hU hW => ⟨rfl, by rw [hU], by rw [hU]; exact hPc, va_K.moved hW.alike hKc, hDc.weaken (fun _ _ _ _ => trivial)⟩⟩ rfl rfl hl.1 rfl (lv_room (Nat.le_of_ble_eq_true rfl)) dX3_leaveCrossing_52 ⟨Nat.le_of_ble_eq_true rfl, Nat.le_of_ble_eq_true rfl⟩) hS (fun q _ h => hFc q h) hFc (fun _ t H1 locs ht hvm hw hB hz1 hk1 hS => ?_)
    obtain ⟨hP1, hK1, hD1⟩ := hB
    rw [ht] at hP1
    obtain ⟨hP, hD⟩ := va_join (wr := []) (w1 := [(h0, .inr (3, [.ref ast, .ref aim, .ref akp, .ref awx, .ref awy, .ref apx, .ref apy, .int co, .ref alx, .ref aly, .int lf_7])), (ast, .inl (cI, 54, .inl st)), (aim, .inl (cI, 108, .inl im)), (akp, .inl (cZ, 2, .inl kp)), (awx, .inl (cI, 8, .inl wx)), (awy, .inl (cI, 8, .inl wy)), (apx, .inl (cJ, 300, .inr (.inl px))), (apy, .inl (cJ, 300, .inr (.inl py))), (alx, .inl (cJ, 300, .inr (.inl lx_5))), (aly, .inl (cJ, 300, .inr (.inl ly_6)))]) hP hD [0, 1, 2, 3, 4, 5, 6, 7, 8, 9] [] rfl rfl (by decide) (by decide) hk1 hFc hP1 hD1
    clear hP1 hK1 hD1 hk1 hFc
    generalize H1 = H at hP hS ⊢
    have hP : va_P (dC, dI) vwCl [(h0, .inr (3, [.ref ast, .ref aim, .ref akp, .ref awx, .ref awy, .ref apx, .ref apy, .int co, .ref alx, .ref aly, .int lf_7])), (ast, .inl (cI, 54, .inl st)), (aim, .inl (cI, 108, .inl im)), (akp, .inl (cZ, 2, .inl kp)), (awx, .inl (cI, 8, .inl wx)), (awy, .inl (cI, 8, .inl wy)), (apx, .inl (cJ, 300, .inr (.inl px))), (apy, .inl (cJ, 300, .inr (.inl py))), (alx, .inl (cJ, 300, .inr (.inl lx_5))), (aly, .inl (cJ, 300, .inr (.inl ly_6)))] H := hP
    have hD : va_D A [(h0, .inr (3, [.ref ast, .ref aim, .ref akp, .ref awx, .ref awy, .ref apx, .ref apy, .int co, .ref alx, .ref aly, .int lf_7])), (ast, .inl (cI, 54, .inl st)), (aim, .inl (cI, 108, .inl im)), (akp, .inl (cZ, 2, .inl kp)), (awx, .inl (cI, 8, .inl wx)), (awy, .inl (cI, 8, .inl wy)), (apx, .inl (cJ, 300, .inr (.inl px))), (apy, .inl (cJ, 300, .inr (.inl py))), (alx, .inl (cJ, 300, .inr (.inl lx_5))), (aly, .inl (cJ, 300, .inr (.inl ly_6)))] := hD
    refine lv_goto (tgt := 108) hx hb dX3_leaveCrossing_55 (by decide) ?_
    obtain ⟨rfl, rfl, rfl⟩ := tp3 hF
    rw [← hQ]
    exact W.vret hx hb hr (fun t ht hW => ⟨⟨(), rfl, trivial, by rw [ht]; exact hP, va_K.moved hW.alike hK, hD⟩, hS.F ht⟩) hS.2.2 dX3_leaveCrossing_108

