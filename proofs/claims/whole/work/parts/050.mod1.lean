def P_X3_isPoint (a0 : Int32) (a1 : Int32) (st : Nat → Int32) : Option (Int32) :=
  gd (ib ((0 : Int32) + a0) 54) (
  bd1 (P_X3_in a1 (0 : Int32) ((st ((0 : Int32) + a0).toNatClampNeg) - (1 : Int32))) (fun r_1 =>
  gd (isb r_1) (some r_1)))

def rm_X3_isPoint : Room := { frames := 1, cells := 0, slots := 0, locals := 22 }

set_option maxHeartbeats 4000000 in
set_option maxRecDepth 100000 in
theorem c_X3_isPoint (l : Launch) (dC : Nat → ClassId) (dI : Nat → Nat → Nat) (h0 ast aim akp awx awy apx apy alx aly : Nat) (cI cZ cJ : ClassId) (st : Nat → Int32) (im : Nat → Int32) (kp : Nat → Int32) (wx : Nat → Int32) (wy : Nat → Int32) (px : Nat → Int64) (py : Nat → Int64) (co : Int32) (lx : Nat → Int64) (ly : Nat → Int64) (lf : Int32) (a0 : Int32) (a1 : Int32) (r0 : Int32) (hF : P_X3_isPoint a0 a1 st = some r0) : Met l yX3_isPoint wsX3_isPoint rm_X3_isPoint (va_Pc [.ref h0, .int a0, .int a1] (fun U => va_P (dC, dI) vwCl [(h0, .inr (3, [.ref ast, .ref aim, .ref akp, .ref awx, .ref awy, .ref apx, .ref apy, .int co, .ref alx, .ref aly, .int lf])), (ast, .inl (cI, 54, .inl st)), (aim, .inl (cI, 108, .inl im)), (akp, .inl (cZ, 2, .inl kp)), (awx, .inl (cI, 8, .inl wx)), (awy, .inl (cI, 8, .inl wy)), (apx, .inl (cJ, 300, .inr (.inl px))), (apy, .inl (cJ, 300, .inr (.inl py))), (alx, .inl (cJ, 300, .inr (.inl lx))), (aly, .inl (cJ, 300, .inr (.inl ly)))] U.heap ∧ va_K (dC, dI) vwCl [(cI, .int), (cZ, .boolean), (cJ, .long)] U)) (vp_Si (fun x => x = r0)) 0 0 (fun _ => False) := by
  refine Met.ofW (cc := cX3_isPoint) (maxL := 3) (ret := (some .boolean)) (by decide) rfl ?_
  intro p e s m args below meth c s₁ B hml hv
  change W p l e rm_X3_isPoint s m args below meth c s.heap [] 0 0 _ _
  obtain ⟨hv, hP, hK⟩ := hv
  have hx := B.exec
  have hb := B.bytes
  have hr := B.returns
  have hts := atoms_spec (ws := wsX3_isPoint) B.pre
  have hown : s.vm.findClass RX3 = some m.cls := findClass_of_methodNamed B.named
  have hlocks := B.notSynchronized
  generalize hQ : MQ below (vp_Si (fun x => x = r0)) args s 0 0 (fun _ => False) = Q
  have hl := lv_entry ([.ref h0, .int a0, .int a1]) (n := 3) (Nat.le_of_ble_eq_true rfl)
  have hE : entryFrame m args 3 = F0 m 0 ((lg_sl ([.ref h0, .int a0, .int a1]) ++ List.replicate (3 - (lg_sl ([.ref h0, .int a0, .int a1])).length) Slot.unset).toArray) [] := by rw [hv]; exact lg_entry_eq m _ 3
  rw [hE]
  generalize (lg_sl ([.ref h0, .int a0, .int a1]) ++ List.replicate (3 - (lg_sl ([.ref h0, .int a0, .int a1])).length) Slot.unset).toArray = ls at hl ⊢
  have hl : lv_has ls 3 [(0, .ref h0), (1, .int a0), (2, .int a1)] := hl
  unfold P_X3_isPoint at hF
  refine lv_iload_n hx hb dX3_isPoint_0 rfl (lv_at hl 2 rfl) ?_
  refine lv_iconst (v := 0) hx hb dX3_isPoint_1 (by decide) ?_
  refine lv_aload_n hx hb dX3_isPoint_2 rfl (lv_at hl 0 rfl) ?_
  refine va_get (D := (dC, dI)) (ci := 3) (v := .ref ast) (C := RX3) (T := TX3) (N := 11) hx hb hts (by decide +kernel) hown hK hP 0 rfl rfl 0 (by decide) (hts (.fieldLink RX3 7 "DotCoverModel" "state" "[I") (by decide +kernel)) (fun _ h9 => h9) rfl dX3_isPoint_3 ?_
  refine lv_iconst (v := 0) hx hb dX3_isPoint_6 (by decide) ?_
  refine lv_iload_n hx hb dX3_isPoint_7 rfl (lv_at hl 1 rfl) ?_
  refine lv_iadd hx hb dX3_isPoint_8 ?_
  obtain ⟨hi_9, hF⟩ := gd_u hF
  refine va_iald hx hb hK hP 1 0 rfl rfl (in_u hi_9) dX3_isPoint_9 ?_
  refine lv_iconst (v := 1) hx hb dX3_isPoint_10 (by decide) ?_
  refine lv_isub hx hb dX3_isPoint_11 ?_
  obtain ⟨r_1, hr_1, hF⟩ := bd1_u hF
  refine vp_callSi (W.runS (As := [.int a1, .int (0 : Int32), .int ((st ((0 : Int32) + a0).toNatClampNeg) - (1 : Int32))]) (rest := []) ⟨hx, hb, hml, hown, hts⟩ (c_X3_in l a1 (0 : Int32) ((st ((0 : Int32) + a0).toNatClampNeg) - (1 : Int32)) r_1 hr_1) (va_cwS 3 hts gX3_isPoint_X3_in rfl rfl rfl (by decide +kernel) ⟨Nat.le_of_ble_eq_true rfl, Nat.le_of_ble_eq_true rfl⟩) preEq rfl rfl hl.1 rfl (lv_room (Nat.le_of_ble_eq_true rfl)) dX3_isPoint_12 ⟨Nat.le_of_ble_eq_true rfl, Nat.le_of_ble_eq_true rfl⟩) (fun r_1' qr_1 => ?_)
  obtain rfl := qr_1.symm
  obtain ⟨hB_, hF⟩ := gd_u hF
  rw [← hQ]
  exact W.zret (ty := .boolean) (v := r_1) hx hb hr (isb_u hB_) (fun t ht hW => ⟨_, rfl, Option.some.inj hF, ht⟩) (fun _ h => by cases h) dX3_isPoint_15

def P_X3_point (a0 : Int32) (a1 : Int32) (a2 : Int32) (st : Nat → Int32) : Option (Int32 × (Nat → Int32)) :=
  bd1 (P_X3_isLayer a0) (fun r_1 =>
  if r_1 = (0 : Int32) then
    some ((-1 : Int32), st)
  else
    bd1 (P_X3_isHere a1 a2) (fun r_3 =>
    if r_3 = (0 : Int32) then
      some ((-2 : Int32), st)
    else
      gd (ib ((0 : Int32) + a0) 54) (
      nm (st ((0 : Int32) + a0).toNatClampNeg) (fun v_5 =>
      if v_5 = (8 : Int32) then
        some ((-4 : Int32), st)
      else
        bd1 (P_X3_place a0 v_5) (fun r_7 =>
        gd (ib ((6 : Int32) + r_7) 54) (
        bd1 (P_X3_place a0 v_5) (fun r_8 =>
        gd (ib ((30 : Int32) + r_8) 54) (
        gd (ib ((0 : Int32) + a0) 54) (
        gd (ib ((0 : Int32) + a0) 54) (
        some (v_5, (upd (upd (upd st ((6 : Int32) + r_7).toNatClampNeg a1) ((30 : Int32) + r_8).toNatClampNeg a2) ((0 : Int32) + a0).toNatClampNeg (((upd (upd st ((6 : Int32) + r_7).toNatClampNeg a1) ((30 : Int32) + r_8).toNatClampNeg a2) ((0 : Int32) + a0).toNatClampNeg) + (1 : Int32))))))))))))))

def rm_X3_point : Room := { frames := 2, cells := 0, slots := 0, locals := 43 }

set_option maxHeartbeats 4000000 in
set_option maxRecDepth 100000 in
theorem c_X3_point (l : Launch) (dC : Nat → ClassId) (dI : Nat → Nat → Nat) (h0 ast aim akp awx awy apx apy alx aly : Nat) (cI cZ cJ : ClassId) (hsz0 : Nat) (st : Nat → Int32) (im : Nat → Int32) (kp : Nat → Int32) (wx : Nat → Int32) (wy : Nat → Int32) (px : Nat → Int64) (py : Nat → Int64) (co : Int32) (lx : Nat → Int64) (ly : Nat → Int64) (lf : Int32) (a0 : Int32) (a1 : Int32) (a2 : Int32) (r0 : Int32) (stN : Nat → Int32) (hF : P_X3_point a0 a1 a2 st = some (r0, stN)) : Met l yX3_point wsX3_point rm_X3_point (va_Pc [.ref h0, .int a0, .int a1, .int a2] (fun U => U.heap.size = hsz0 ∧ va_P (dC, dI) vwCl [(h0, .inr (3, [.ref ast, .ref aim, .ref akp, .ref awx, .ref awy, .ref apx, .ref apy, .int co, .ref alx, .ref aly, .int lf])), (ast, .inl (cI, 54, .inl st)), (aim, .inl (cI, 108, .inl im)), (akp, .inl (cZ, 2, .inl kp)), (awx, .inl (cI, 8, .inl wx)), (awy, .inl (cI, 8, .inl wy)), (apx, .inl (cJ, 300, .inr (.inl px))), (apy, .inl (cJ, 300, .inr (.inl py))), (alx, .inl (cJ, 300, .inr (.inl lx))), (aly, .inl (cJ, 300, .inr (.inl ly)))] U.heap ∧ va_K (dC, dI) vwCl [(cI, .int), (cZ, .boolean), (cJ, .long)] U ∧ va_D (fun _ => True) [(h0, .inr (3, [.ref ast, .ref aim, .ref akp, .ref awx, .ref awy, .ref apx, .ref apy, .int co, .ref alx, .ref aly, .int lf])), (ast, .inl (cI, 54, .inl st)), (aim, .inl (cI, 108, .inl im)), (akp, .inl (cZ, 2, .inl kp)), (awx, .inl (cI, 8, .inl wx)), (awy, .inl (cI, 8, .inl wy)), (apx, .inl (cJ, 300, .inr (.inl px))), (apy, .inl (cJ, 300, .inr (.inl py))), (alx, .inl (cJ, 300, .inr (.inl lx))), (aly, .inl (cJ, 300, .inr (.inl ly)))])) (va_Qi (fun (r : Int32) (_ : Unit) => r = r0) (fun _ t => va_P (dC, dI) vwCl [(h0, .inr (3, [.ref ast, .ref aim, .ref akp, .ref awx, .ref awy, .ref apx, .ref apy, .int co, .ref alx, .ref aly, .int lf])), (ast, .inl (cI, 54, .inl stN)), (aim, .inl (cI, 108, .inl im)), (akp, .inl (cZ, 2, .inl kp)), (awx, .inl (cI, 8, .inl wx)), (awy, .inl (cI, 8, .inl wy)), (apx, .inl (cJ, 300, .inr (.inl px))), (apy, .inl (cJ, 300, .inr (.inl py))), (alx, .inl (cJ, 300, .inr (.inl lx))), (aly, .inl (cJ, 300, .inr (.inl ly)))] t.heap ∧ va_K (dC, dI) vwCl [(cI, .int), (cZ, .boolean), (cJ, .long)] t ∧ va_D (va_A [(h0, .inr (3, [.ref ast, .ref aim, .ref akp, .ref awx, .ref awy, .ref apx, .ref apy, .int co, .ref alx, .ref aly, .int lf])), (ast, .inl (cI, 54, .inl st)), (aim, .inl (cI, 108, .inl im)), (akp, .inl (cZ, 2, .inl kp)), (awx, .inl (cI, 8, .inl wx)), (awy, .inl (cI, 8, .inl wy)), (apx, .inl (cJ, 300, .inr (.inl px))), (apy, .inl (cJ, 300, .inr (.inl py))), (alx, .inl (cJ, 300, .inr (.inl lx))), (aly, .inl (cJ, 300, .inr (.inl ly)))] hsz0) [(h0, .inr (3, [.ref ast, .ref aim, .ref akp, .ref awx, .ref awy, .ref apx, .ref apy, .int co, .ref alx, .ref aly, .int lf])), (ast, .inl (cI, 54, .inl stN)), (aim, .inl (cI, 108, .inl im)), (akp, .inl (cZ, 2, .inl kp)), (awx, .inl (cI, 8, .inl wx)), (awy, .inl (cI, 8, .inl wy)), (apx, .inl (cJ, 300, .inr (.inl px))), (apy, .inl (cJ, 300, .inr (.inl py))), (alx, .inl (cJ, 300, .inr (.inl lx))), (aly, .inl (cJ, 300, .inr (.inl ly)))]) (va_A [(h0, .inr (3, [.ref ast, .ref aim, .ref akp, .ref awx, .ref awy, .ref apx, .ref apy, .int co, .ref alx, .ref aly, .int lf])), (ast, .inl (cI, 54, .inl st)), (aim, .inl (cI, 108, .inl im)), (akp, .inl (cZ, 2, .inl kp)), (awx, .inl (cI, 8, .inl wx)), (awy, .inl (cI, 8, .inl wy)), (apx, .inl (cJ, 300, .inr (.inl px))), (apy, .inl (cJ, 300, .inr (.inl py))), (alx, .inl (cJ, 300, .inr (.inl lx))), (aly, .inl (cJ, 300, .inr (.inl ly)))] hsz0)) 0 0 (va_A [(h0, .inr (3, [.ref ast, .ref aim, .ref akp, .ref awx, .ref awy, .ref apx, .ref apy, .int co, .ref alx, .ref aly, .int lf])), (ast, .inl (cI, 54, .inl st)), (aim, .inl (cI, 108, .inl im)), (akp, .inl (cZ, 2, .inl kp)), (awx, .inl (cI, 8, .inl wx)), (awy, .inl (cI, 8, .inl wy)), (apx, .inl (cJ, 300, .inr (.inl px))), (apy, .inl (cJ, 300, .inr (.inl py))), (alx, .inl (cJ, 300, .inr (.inl lx))), (aly, .inl (cJ, 300, .inr (.inl ly)))] hsz0) := by
  refine Met.ofW (cc := cX3_point) (maxL := 5) (ret := (some .int)) (by decide) rfl ?_
  intro p e s m args below meth c s₁ B hml hv
  change W p l e rm_X3_point s m args below meth c s.heap [] 0 0 _ _
  obtain ⟨hv, hsz, hP, hK, hD0⟩ := hv
  have hx := B.exec
  have hb := B.bytes
  have hr := B.returns
  have hts := atoms_spec (ws := wsX3_point) B.pre
  have hown : s.vm.findClass RX3 = some m.cls := findClass_of_methodNamed B.named
  have hlocks := B.notSynchronized
  subst hsz
  have hD := hD0.self (sz := s.heap.size)
  generalize hAe : va_A [(h0, .inr (3, [.ref ast, .ref aim, .ref akp, .ref awx, .ref awy, .ref apx, .ref apy, .int co, .ref alx, .ref aly, .int lf])), (ast, .inl (cI, 54, .inl st)), (aim, .inl (cI, 108, .inl im)), (akp, .inl (cZ, 2, .inl kp)), (awx, .inl (cI, 8, .inl wx)), (awy, .inl (cI, 8, .inl wy)), (apx, .inl (cJ, 300, .inr (.inl px))), (apy, .inl (cJ, 300, .inr (.inl py))), (alx, .inl (cJ, 300, .inr (.inl lx))), (aly, .inl (cJ, 300, .inr (.inl ly)))] s.heap.size = A at hD ⊢
  have hA : ∀ q : Nat, s.heap.size ≤ q → A q := fun q h => by rw [← hAe]; exact Or.inr h
  have hS : va_S A s.heap s.heap [] := va_S.rf
  generalize hQ : MQ below (va_Qi (fun (r : Int32) (_ : Unit) => r = r0) (fun _ t => va_P (dC, dI) vwCl [(h0, .inr (3, [.ref ast, .ref aim, .ref akp, .ref awx, .ref awy, .ref apx, .ref apy, .int co, .ref alx, .ref aly, .int lf])), (ast, .inl (cI, 54, .inl stN)), (aim, .inl (cI, 108, .inl im)), (akp, .inl (cZ, 2, .inl kp)), (awx, .inl (cI, 8, .inl wx)), (awy, .inl (cI, 8, .inl wy)), (apx, .inl (cJ, 300, .inr (.inl px))), (apy, .inl (cJ, 300, .inr (.inl py))), (alx, .inl (cJ, 300, .inr (.inl lx))), (aly, .inl (cJ, 300, .inr (.inl ly)))] t.heap ∧ va_K (dC, dI) vwCl [(cI, .int), (cZ, .boolean), (cJ, .long)] t ∧ va_D A [(h0, .inr (3, [.ref ast, .ref aim, .ref akp, .ref awx, .ref awy, .ref apx, .ref apy, .int co, .ref alx, .ref aly, .int lf])), (ast, .inl (cI, 54, .inl stN)), (aim, .inl (cI, 108, .inl im)), (akp, .inl (cZ, 2, .inl kp)), (awx, .inl (cI, 8, .inl wx)), (awy, .inl (cI, 8, .inl wy)), (apx, .inl (cJ, 300, .inr (.inl px))), (apy, .inl (cJ, 300, .inr (.inl py))), (alx, .inl (cJ, 300, .inr (.inl lx))), (aly, .inl (cJ, 300, .inr (.inl ly)))]) A) args s 0 0 A = Q
  have hl := lv_entry ([.ref h0, .int a0, .int a1, .int a2]) (n := 5) (Nat.le_of_ble_eq_true rfl)
  have hE : entryFrame m args 5 = F0 m 0 ((lg_sl ([.ref h0, .int a0, .int a1, .int a2]) ++ List.replicate (5 - (lg_sl ([.ref h0, .int a0, .int a1, .int a2])).length) Slot.unset).toArray) [] := by rw [hv]; exact lg_entry_eq m _ 5
  rw [hE]
  generalize (lg_sl ([.ref h0, .int a0, .int a1, .int a2]) ++ List.replicate (5 - (lg_sl ([.ref h0, .int a0, .int a1, .int a2])).length) Slot.unset).toArray = ls at hl ⊢
  have hl : lv_has ls 5 [(0, .ref h0), (1, .int a0), (2, .int a1), (3, .int a2)] := hl
  unfold P_X3_point at hF
  refine lv_iload_n hx hb dX3_point_0 rfl (lv_at hl 1 rfl) ?_
  obtain ⟨r_1, hr_1, hF⟩ := bd1_u hF
  refine vp_callSi (W.runS (As := [.int a0]) (rest := []) ⟨hx, hb, hml, hown, hts⟩ (c_X3_isLayer l a0 r_1 hr_1) (va_cwS 1 hts gX3_point_X3_isLayer rfl rfl rfl (by decide +kernel) ⟨Nat.le_of_ble_eq_true rfl, Nat.le_of_ble_eq_true rfl⟩) preEq rfl rfl hl.1 rfl (lv_room (Nat.le_of_ble_eq_true rfl)) dX3_point_1 ⟨Nat.le_of_ble_eq_true rfl, Nat.le_of_ble_eq_true rfl⟩) (fun r_1' qr_1 => ?_)
  obtain rfl := qr_1.symm
  refine lv_if_ne (tgt := 9) hx hb dX3_point_4 (by decide) (fun c_2 => ?_) (fun c_2 => ?_)
  · have hF := br0 hF c_2
    refine lv_iload_n hx hb dX3_point_9 rfl (lv_at hl 2 rfl) ?_
    refine lv_iload_n hx hb dX3_point_10 rfl (lv_at hl 3 rfl) ?_
    obtain ⟨r_3, hr_3, hF⟩ := bd1_u hF
    refine vp_callSi (W.runS (As := [.int a1, .int a2]) (rest := []) ⟨hx, hb, hml, hown, hts⟩ (c_X3_isHere l a1 a2 r_3 hr_3) (va_cwS 2 hts gX3_point_X3_isHere rfl rfl rfl (by decide +kernel) ⟨Nat.le_of_ble_eq_true rfl, Nat.le_of_ble_eq_true rfl⟩) preEq rfl rfl hl.1 rfl (lv_room (Nat.le_of_ble_eq_true rfl)) dX3_point_11 ⟨Nat.le_of_ble_eq_true rfl, Nat.le_of_ble_eq_true rfl⟩) (fun r_3' qr_3 => ?_)
    obtain rfl := qr_3.symm
    refine lv_if_ne (tgt := 20) hx hb dX3_point_14 (by decide) (fun c_4 => ?_) (fun c_4 => ?_)
    · have hF := br0 hF c_4
      refine lv_aload_n hx hb dX3_point_20 rfl (lv_at hl 0 rfl) ?_
      refine va_get (D := (dC, dI)) (ci := 3) (v := .ref ast) (C := RX3) (T := TX3) (N := 11) hx hb hts (by decide +kernel) hown hK hP 0 rfl rfl 0 (by decide) (hts (.fieldLink RX3 7 "DotCoverModel" "state" "[I") (by decide +kernel)) (fun _ h9 => h9) rfl dX3_point_21 ?_
      refine lv_iconst (v := 0) hx hb dX3_point_24 (by decide) ?_
      refine lv_iload_n hx hb dX3_point_25 rfl (lv_at hl 1 rfl) ?_
      refine lv_iadd hx hb dX3_point_26 ?_
      obtain ⟨hi_27, hF⟩ := gd_u hF
      refine va_iald hx hb hK hP 1 0 rfl rfl (in_u hi_27) dX3_point_27 ?_
      refine lv_topi (fun v_5 ev_5 => ?_)
      have hF := nm_u hF ev_5
      refine lv_istore (lv' := [(4, .int v_5), (0, .ref h0), (1, .int a0), (2, .int a1), (3, .int a2)]) hx hb dX3_point_28 hl (by decide) rfl (fun ls hl => ?_)
      refine lv_iload hx hb dX3_point_30 (lv_at hl 0 rfl) ?_
      refine lv_bipush (v := 8) hx hb dX3_point_32 (by decide) ?_
      refine lv_icmp_ne (tgt := 40) hx hb dX3_point_34 (by decide) (fun c_6 => ?_) (fun c_6 => ?_)
      · have hF := br0 hF c_6
        refine lv_aload_n hx hb dX3_point_40 rfl (lv_at hl 1 rfl) ?_
        refine va_get (D := (dC, dI)) (ci := 3) (v := .ref ast) (C := RX3) (T := TX3) (N := 11) hx hb hts (by decide +kernel) hown hK hP 0 rfl rfl 0 (by decide) (hts (.fieldLink RX3 7 "DotCoverModel" "state" "[I") (by decide +kernel)) (fun _ h9 => h9) rfl dX3_point_41 ?_
        refine lv_bipush (v := 6) hx hb dX3_point_44 (by decide) ?_
        refine lv_iload_n hx hb dX3_point_46 rfl (lv_at hl 2 rfl) ?_
        refine lv_iload hx hb dX3_point_47 (lv_at hl 0 rfl) ?_
        obtain ⟨r_7, hr_7, hF⟩ := bd1_u hF
        refine vp_callSi (W.runS (As := [.int a0, .int v_5]) (rest := [.int (6 : Int32), .ref ast]) ⟨hx, hb, hml, hown, hts⟩ (c_X3_place l a0 v_5 r_7 hr_7) (va_cwS 2 hts gX3_point_X3_place rfl rfl rfl (by decide +kernel) ⟨Nat.le_of_ble_eq_true rfl, Nat.le_of_ble_eq_true rfl⟩) preEq rfl rfl hl.1 rfl (lv_room (Nat.le_of_ble_eq_true rfl)) dX3_point_49 ⟨Nat.le_of_ble_eq_true rfl, Nat.le_of_ble_eq_true rfl⟩) (fun r_7' qr_7 => ?_)
        obtain rfl := qr_7.symm
        refine lv_iadd hx hb dX3_point_52 ?_
        refine lv_iload_n hx hb dX3_point_53 rfl (lv_at hl 3 rfl) ?_
        obtain ⟨hi_54, hF⟩ := gd_u hF
        refine va_iast hx hb hK hP hD hS 1 0 rfl rfl (in_u hi_54) dX3_point_54 (fun H locs hP hD hS => ?_)
        have hP : va_P (dC, dI) vwCl [(h0, .inr (3, [.ref ast, .ref aim, .ref akp, .ref awx, .ref awy, .ref apx, .ref apy, .int co, .ref alx, .ref aly, .int lf])), (ast, .inl (cI, 54, .inl (upd st ((6 : Int32) + r_7).toNatClampNeg a1))), (aim, .inl (cI, 108, .inl im)), (akp, .inl (cZ, 2, .inl kp)), (awx, .inl (cI, 8, .inl wx)), (awy, .inl (cI, 8, .inl wy)), (apx, .inl (cJ, 300, .inr (.inl px))), (apy, .inl (cJ, 300, .inr (.inl py))), (alx, .inl (cJ, 300, .inr (.inl lx))), (aly, .inl (cJ, 300, .inr (.inl ly)))] H := hP
        have hD : va_D A [(h0, .inr (3, [.ref ast, .ref aim, .ref akp, .ref awx, .ref awy, .ref apx, .ref apy, .int co, .ref alx, .ref aly, .int lf])), (ast, .inl (cI, 54, .inl (upd st ((6 : Int32) + r_7).toNatClampNeg a1))), (aim, .inl (cI, 108, .inl im)), (akp, .inl (cZ, 2, .inl kp)), (awx, .inl (cI, 8, .inl wx)), (awy, .inl (cI, 8, .inl wy)), (apx, .inl (cJ, 300, .inr (.inl px))), (apy, .inl (cJ, 300, .inr (.inl py))), (alx, .inl (cJ, 300, .inr (.inl lx))), (aly, .inl (cJ, 300, .inr (.inl ly)))] := hD
        refine lv_aload_n hx hb dX3_point_55 rfl (lv_at hl 1 rfl) ?_
        refine va_get (D := (dC, dI)) (ci := 3) (v := .ref ast) (C := RX3) (T := TX3) (N := 11) hx hb hts (by decide +kernel) hown hK hP 0 rfl rfl 0 (by decide) (hts (.fieldLink RX3 7 "DotCoverModel" "state" "[I") (by decide +kernel)) (fun _ h9 => h9) rfl dX3_point_56 ?_
        refine lv_bipush (v := 30) hx hb dX3_point_59 (by decide) ?_
        refine lv_iload_n hx hb dX3_point_61 rfl (lv_at hl 2 rfl) ?_
        refine lv_iload hx hb dX3_point_62 (lv_at hl 0 rfl) ?_
        obtain ⟨r_8, hr_8, hF⟩ := bd1_u hF
        refine vp_callSi (W.runS (As := [.int a0, .int v_5]) (rest := [.int (30 : Int32), .ref ast]) ⟨hx, hb, hml, hown, hts⟩ (c_X3_place l a0 v_5 r_8 hr_8) (va_cwS 2 hts gX3_point_X3_place rfl rfl rfl (by decide +kernel) ⟨Nat.le_of_ble_eq_true rfl, Nat.le_of_ble_eq_true rfl⟩) preEq rfl rfl hl.1 rfl (lv_room (Nat.le_of_ble_eq_true rfl)) dX3_point_64 ⟨Nat.le_of_ble_eq_true rfl, Nat.le_of_ble_eq_true rfl⟩) (fun r_8' qr_8 => ?_)
        obtain rfl := qr_8.symm
        refine lv_iadd hx hb dX3_point_67 ?_
        refine lv_iload_n hx hb dX3_point_68 rfl (lv_at hl 4 rfl) ?_
        obtain ⟨hi_69, hF⟩ := gd_u hF
        refine va_iast hx hb hK hP hD hS 1 0 rfl rfl (in_u hi_69) dX3_point_69 (fun H locs hP hD hS => ?_)
        have hP : va_P (dC, dI) vwCl [(h0, .inr (3, [.ref ast, .ref aim, .ref akp, .ref awx, .ref awy, .ref apx, .ref apy, .int co, .ref alx, .ref aly, .int lf])), (ast, .inl (cI, 54, .inl (upd (upd st ((6 : Int32) + r_7).toNatClampNeg a1) ((30 : Int32) + r_8).toNatClampNeg a2))), (aim, .inl (cI, 108, .inl im)), (akp, .inl (cZ, 2, .inl kp)), (awx, .inl (cI, 8, .inl wx)), (awy, .inl (cI, 8, .inl wy)), (apx, .inl (cJ, 300, .inr (.inl px))), (apy, .inl (cJ, 300, .inr (.inl py))), (alx, .inl (cJ, 300, .inr (.inl lx))), (aly, .inl (cJ, 300, .inr (.inl ly)))] H := hP
        have hD : va_D A [(h0, .inr (3, [.ref ast, .ref aim, .ref akp, .ref awx, .ref awy, .ref apx, .ref apy, .int co, .ref alx, .ref aly, .int lf])), (ast, .inl (cI, 54, .inl (upd (upd st ((6 : Int32) + r_7).toNatClampNeg a1) ((30 : Int32) + r_8).toNatClampNeg a2))), (aim, .inl (cI, 108, .inl im)), (akp, .inl (cZ, 2, .inl kp)), (awx, .inl (cI, 8, .inl wx)), (awy, .inl (cI, 8, .inl wy)), (apx, .inl (cJ, 300, .inr (.inl px))), (apy, .inl (cJ, 300, .inr (.inl py))), (alx, .inl (cJ, 300, .inr (.inl lx))), (aly, .inl (cJ, 300, .inr (.inl ly)))] := hD
        refine lv_aload_n hx hb dX3_point_70 rfl (lv_at hl 1 rfl) ?_
        refine va_get (D := (dC, dI)) (ci := 3) (v := .ref ast) (C := RX3) (T := TX3) (N := 11) hx hb hts (by decide +kernel) hown hK hP 0 rfl rfl 0 (by decide) (hts (.fieldLink RX3 7 "DotCoverModel" "state" "[I") (by decide +kernel)) (fun _ h9 => h9) rfl dX3_point_71 ?_
        refine lv_iconst (v := 0) hx hb dX3_point_74 (by decide) ?_
        refine lv_iload_n hx hb dX3_point_75 rfl (lv_at hl 2 rfl) ?_
        refine lv_iadd hx hb dX3_point_76 ?_
        refine lv_dup2_11 hx hb dX3_point_77 rfl rfl ?_
        obtain ⟨hi_78, hF⟩ := gd_u hF
        refine va_iald hx hb hK hP 1 0 rfl rfl (in_u hi_78) dX3_point_78 ?_
        refine lv_iconst (v := 1) hx hb dX3_point_79 (by decide) ?_
        refine lv_iadd hx hb dX3_point_80 ?_
        obtain ⟨hi_81, hF⟩ := gd_u hF
        refine va_iast hx hb hK hP hD hS 1 0 rfl rfl (in_u hi_81) dX3_point_81 (fun H locs hP hD hS => ?_)
        have hP : va_P (dC, dI) vwCl [(h0, .inr (3, [.ref ast, .ref aim, .ref akp, .ref awx, .ref awy, .ref apx, .ref apy, .int co, .ref alx, .ref aly, .int lf])), (ast, .inl (cI, 54, .inl (upd (upd (upd st ((6 : Int32) + r_7).toNatClampNeg a1) ((30 : Int32) + r_8).toNatClampNeg a2) ((0 : Int32) + a0).toNatClampNeg (((upd (upd st ((6 : Int32) + r_7).toNatClampNeg a1) ((30 : Int32) + r_8).toNatClampNeg a2) ((0 : Int32) + a0).toNatClampNeg) + (1 : Int32))))), (aim, .inl (cI, 108, .inl im)), (akp, .inl (cZ, 2, .inl kp)), (awx, .inl (cI, 8, .inl wx)), (awy, .inl (cI, 8, .inl wy)), (apx, .inl (cJ, 300, .inr (.inl px))), (apy, .inl (cJ, 300, .inr (.inl py))), (alx, .inl (cJ, 300, .inr (.inl lx))), (aly, .inl (cJ, 300, .inr (.inl ly)))] H := hP
        have hD : va_D A [(h0, .inr (3, [.ref ast, .ref aim, .ref akp, .ref awx, .ref awy, .ref apx, .ref apy, .int co, .ref alx, .ref aly, .int lf])), (ast, .inl (cI, 54, .inl (upd (upd (upd st ((6 : Int32) + r_7).toNatClampNeg a1) ((30 : Int32) + r_8).toNatClampNeg a2) ((0 : Int32) + a0).toNatClampNeg (((upd (upd st ((6 : Int32) + r_7).toNatClampNeg a1) ((30 : Int32) + r_8).toNatClampNeg a2) ((0 : Int32) + a0).toNatClampNeg) + (1 : Int32))))), (aim, .inl (cI, 108, .inl im)), (akp, .inl (cZ, 2, .inl kp)), (awx, .inl (cI, 8, .inl wx)), (awy, .inl (cI, 8, .inl wy)), (apx, .inl (cJ, 300, .inr (.inl px))), (apy, .inl (cJ, 300, .inr (.inl py))), (alx, .inl (cJ, 300, .inr (.inl lx))), (aly, .inl (cJ, 300, .inr (.inl ly)))] := hD
        refine lv_iload hx hb dX3_point_82 (lv_at hl 0 rfl) ?_
        obtain ⟨e0, rfl⟩ := tp2 hF
        rw [← hQ]
        exact W.iret (v := v_5) hx hb hr (fun t ht hW => ⟨⟨_, (), rfl, e0, by rw [ht]; exact hP, va_K.moved hW.alike hK, hD⟩, hS.F ht⟩) hS.2.2 dX3_point_84
      · have hF := br1 hF c_6
        refine lv_bipush (v := -4) hx hb dX3_point_37 (by decide) ?_
        obtain ⟨e0, rfl⟩ := tp2 hF
        rw [← hQ]
        exact W.iret (v := (-4 : Int32)) hx hb hr (fun t ht hW => ⟨⟨_, (), rfl, e0, by rw [ht]; exact hP, va_K.moved hW.alike hK, hD⟩, hS.F ht⟩) hS.2.2 dX3_point_39
    · have hF := br1 hF c_4
      refine lv_bipush (v := -2) hx hb dX3_point_17 (by decide) ?_
      obtain ⟨e0, rfl⟩ := tp2 hF
      rw [← hQ]
      exact W.iret (v := (-2 : Int32)) hx hb hr (fun t ht hW => ⟨⟨_, (), rfl, e0, by rw [ht]; exact hP, va_K.moved hW.alike hK, hD⟩, hS.F ht⟩) hS.2.2 dX3_point_19
  · have hF := br1 hF c_2
    refine lv_iconst (v := -1) hx hb dX3_point_7 (by decide) ?_
    obtain ⟨e0, rfl⟩ := tp2 hF
    rw [← hQ]
    exact W.iret (v := (-1 : Int32)) hx hb hr (fun t ht hW => ⟨⟨_, (), rfl, e0, by rw [ht]; exact hP, va_K.moved hW.alike hK, hD⟩, hS.F ht⟩) hS.2.2 dX3_point_8

def P_X3_pop (a0 : Int32) (st : Nat → Int32) : Option (Int32 × (Nat → Int32)) :=
  bd1 (P_X3_isLayer a0) (fun r_1 =>
  if r_1 = (0 : Int32) then
    some ((-1 : Int32), st)
  else
    gd (ib ((0 : Int32) + a0) 54) (
    if (st ((0 : Int32) + a0).toNatClampNeg) = (0 : Int32) then
      some ((-3 : Int32), st)
    else
      gd (ib ((0 : Int32) + a0) 54) (
      gd (ib ((0 : Int32) + a0) 54) (
      gd (ib ((0 : Int32) + a0) 54) (
      some (((upd st ((0 : Int32) + a0).toNatClampNeg ((st ((0 : Int32) + a0).toNatClampNeg) - (1 : Int32))) ((0 : Int32) + a0).toNatClampNeg), (upd st ((0 : Int32) + a0).toNatClampNeg ((st ((0 : Int32) + a0).toNatClampNeg) - (1 : Int32)))))))))

def rm_X3_pop : Room := { frames := 2, cells := 0, slots := 0, locals := 42 }

set_option maxHeartbeats 4000000 in
set_option maxRecDepth 100000 in
theorem c_X3_pop (l : Launch) (dC : Nat → ClassId) (dI : Nat → Nat → Nat) (h0 ast aim akp awx awy apx apy alx aly : Nat) (cI cZ cJ : ClassId) (hsz0 : Nat) (st : Nat → Int32) (im : Nat → Int32) (kp : Nat → Int32) (wx : Nat → Int32) (wy : Nat → Int32) (px : Nat → Int64) (py : Nat → Int64) (co : Int32) (lx : Nat → Int64) (ly : Nat → Int64) (lf : Int32) (a0 : Int32) (r0 : Int32) (stN : Nat → Int32) (hF : P_X3_pop a0 st = some (r0, stN)) : Met l yX3_pop wsX3_pop rm_X3_pop (va_Pc [.ref h0, .int a0] (fun U => U.heap.size = hsz0 ∧ va_P (dC, dI) vwCl [(h0, .inr (3, [.ref ast, .ref aim, .ref akp, .ref awx, .ref awy, .ref apx, .ref apy, .int co, .ref alx, .ref aly, .int lf])), (ast, .inl (cI, 54, .inl st)), (aim, .inl (cI, 108, .inl im)), (akp, .inl (cZ, 2, .inl kp)), (awx, .inl (cI, 8, .inl wx)), (awy, .inl (cI, 8, .inl wy)), (apx, .inl (cJ, 300, .inr (.inl px))), (apy, .inl (cJ, 300, .inr (.inl py))), (alx, .inl (cJ, 300, .inr (.inl lx))), (aly, .inl (cJ, 300, .inr (.inl ly)))] U.heap ∧ va_K (dC, dI) vwCl [(cI, .int), (cZ, .boolean), (cJ, .long)] U ∧ va_D (fun _ => True) [(h0, .inr (3, [.ref ast, .ref aim, .ref akp, .ref awx, .ref awy, .ref apx, .ref apy, .int co, .ref alx, .ref aly, .int lf])), (ast, .inl (cI, 54, .inl st)), (aim, .inl (cI, 108, .inl im)), (akp, .inl (cZ, 2, .inl kp)), (awx, .inl (cI, 8, .inl wx)), (awy, .inl (cI, 8, .inl wy)), (apx, .inl (cJ, 300, .inr (.inl px))), (apy, .inl (cJ, 300, .inr (.inl py))), (alx, .inl (cJ, 300, .inr (.inl lx))), (aly, .inl (cJ, 300, .inr (.inl ly)))])) (va_Qi (fun (r : Int32) (_ : Unit) => r = r0) (fun _ t => va_P (dC, dI) vwCl [(h0, .inr (3, [.ref ast, .ref aim, .ref akp, .ref awx, .ref awy, .ref apx, .ref apy, .int co, .ref alx, .ref aly, .int lf])), (ast, .inl (cI, 54, .inl stN)), (aim, .inl (cI, 108, .inl im)), (akp, .inl (cZ, 2, .inl kp)), (awx, .inl (cI, 8, .inl wx)), (awy, .inl (cI, 8, .inl wy)), (apx, .inl (cJ, 300, .inr (.inl px))), (apy, .inl (cJ, 300, .inr (.inl py))), (alx, .inl (cJ, 300, .inr (.inl lx))), (aly, .inl (cJ, 300, .inr (.inl ly)))] t.heap ∧ va_K (dC, dI) vwCl [(cI, .int), (cZ, .boolean), (cJ, .long)] t ∧ va_D (va_A [(h0, .inr (3, [.ref ast, .ref aim, .ref akp, .ref awx, .ref awy, .ref apx, .ref apy, .int co, .ref alx, .ref aly, .int lf])), (ast, .inl (cI, 54, .inl st)), (aim, .inl (cI, 108, .inl im)), (akp, .inl (cZ, 2, .inl kp)), (awx, .inl (cI, 8, .inl wx)), (awy, .inl (cI, 8, .inl wy)), (apx, .inl (cJ, 300, .inr (.inl px))), (apy, .inl (cJ, 300, .inr (.inl py))), (alx, .inl (cJ, 300, .inr (.inl lx))), (aly, .inl (cJ, 300, .inr (.inl ly)))] hsz0) [(h0, .inr (3, [.ref ast, .ref aim, .ref akp, .ref awx, .ref awy, .ref apx, .ref apy, .int co, .ref alx, .ref aly, .int lf])), (ast, .inl (cI, 54, .inl stN)), (aim, .inl (cI, 108, .inl im)), (akp, .inl (cZ, 2, .inl kp)), (awx, .inl (cI, 8, .inl wx)), (awy, .inl (cI, 8, .inl wy)), (apx, .inl (cJ, 300, .inr (.inl px))), (apy, .inl (cJ, 300, .inr (.inl py))), (alx, .inl (cJ, 300, .inr (.inl lx))), (aly, .inl (cJ, 300, .inr (.inl ly)))]) (va_A [(h0, .inr (3, [.ref ast, .ref aim, .ref akp, .ref awx, .ref awy, .ref apx, .ref apy, .int co, .ref alx, .ref aly, .int lf])), (ast, .inl (cI, 54, .inl st)), (aim, .inl (cI, 108, .inl im)), (akp, .inl (cZ, 2, .inl kp)), (awx, .inl (cI, 8, .inl wx)), (awy, .inl (cI, 8, .inl wy)), (apx, .inl (cJ, 300, .inr (.inl px))), (apy, .inl (cJ, 300, .inr (.inl py))), (alx, .inl (cJ, 300, .inr (.inl lx))), (aly, .inl (cJ, 300, .inr (.inl ly)))] hsz0)) 0 0 (va_A [(h0, .inr (3, [.ref ast, .ref aim, .ref akp, .ref awx, .ref awy, .ref apx, .ref apy, .int co, .ref alx, .ref aly, .int lf])), (ast, .inl (cI, 54, .inl st)), (aim, .inl (cI, 108, .inl im)), (akp, .inl (cZ, 2, .inl kp)), (awx, .inl (cI, 8, .inl wx)), (awy, .inl (cI, 8, .inl wy)), (apx, .inl (cJ, 300, .inr (.inl px))), (apy, .inl (cJ, 300, .inr (.inl py))), (alx, .inl (cJ, 300, .inr (.inl lx))), (aly, .inl (cJ, 300, .inr (.inl ly)))] hsz0) := by
  refine Met.ofW (cc := cX3_pop) (maxL := 2) (ret := (some .int)) (by decide) rfl ?_
  intro p e s m args below meth c s₁ B hml hv
  change W p l e rm_X3_pop s m args below meth c s.heap [] 0 0 _ _
  obtain ⟨hv, hsz, hP, hK, hD0⟩ := hv
  have hx := B.exec
  have hb := B.bytes
  have hr := B.returns
  have hts := atoms_spec (ws := wsX3_pop) B.pre
  have hown : s.vm.findClass RX3 = some m.cls := findClass_of_methodNamed B.named
  have hlocks := B.notSynchronized
  subst hsz
  have hD := hD0.self (sz := s.heap.size)
  generalize hAe : va_A [(h0, .inr (3, [.ref ast, .ref aim, .ref akp, .ref awx, .ref awy, .ref apx, .ref apy, .int co, .ref alx, .ref aly, .int lf])), (ast, .inl (cI, 54, .inl st)), (aim, .inl (cI, 108, .inl im)), (akp, .inl (cZ, 2, .inl kp)), (awx, .inl (cI, 8, .inl wx)), (awy, .inl (cI, 8, .inl wy)), (apx, .inl (cJ, 300, .inr (.inl px))), (apy, .inl (cJ, 300, .inr (.inl py))), (alx, .inl (cJ, 300, .inr (.inl lx))), (aly, .inl (cJ, 300, .inr (.inl ly)))] s.heap.size = A at hD ⊢
  have hA : ∀ q : Nat, s.heap.size ≤ q → A q := fun q h => by rw [← hAe]; exact Or.inr h
  have hS : va_S A s.heap s.heap [] := va_S.rf
  generalize hQ : MQ below (va_Qi (fun (r : Int32) (_ : Unit) => r = r0) (fun _ t => va_P (dC, dI) vwCl [(h0, .inr (3, [.ref ast, .ref aim, .ref akp, .ref awx, .ref awy, .ref apx, .ref apy, .int co, .ref alx, .ref aly, .int lf])), (ast, .inl (cI, 54, .inl stN)), (aim, .inl (cI, 108, .inl im)), (akp, .inl (cZ, 2, .inl kp)), (awx, .inl (cI, 8, .inl wx)), (awy, .inl (cI, 8, .inl wy)), (apx, .inl (cJ, 300, .inr (.inl px))), (apy, .inl (cJ, 300, .inr (.inl py))), (alx, .inl (cJ, 300, .inr (.inl lx))), (aly, .inl (cJ, 300, .inr (.inl ly)))] t.heap ∧ va_K (dC, dI) vwCl [(cI, .int), (cZ, .boolean), (cJ, .long)] t ∧ va_D A [(h0, .inr (3, [.ref ast, .ref aim, .ref akp, .ref awx, .ref awy, .ref apx, .ref apy, .int co, .ref alx, .ref aly, .int lf])), (ast, .inl (cI, 54, .inl stN)), (aim, .inl (cI, 108, .inl im)), (akp, .inl (cZ, 2, .inl kp)), (awx, .inl (cI, 8, .inl wx)), (awy, .inl (cI, 8, .inl wy)), (apx, .inl (cJ, 300, .inr (.inl px))), (apy, .inl (cJ, 300, .inr (.inl py))), (alx, .inl (cJ, 300, .inr (.inl lx))), (aly, .inl (cJ, 300, .inr (.inl ly)))]) A) args s 0 0 A = Q
  have hl := lv_entry ([.ref h0, .int a0]) (n := 2) (Nat.le_of_ble_eq_true rfl)
  have hE : entryFrame m args 2 = F0 m 0 ((lg_sl ([.ref h0, .int a0]) ++ List.replicate (2 - (lg_sl ([.ref h0, .int a0])).length) Slot.unset).toArray) [] := by rw [hv]; exact lg_entry_eq m _ 2
  rw [hE]
  generalize (lg_sl ([.ref h0, .int a0]) ++ List.replicate (2 - (lg_sl ([.ref h0, .int a0])).length) Slot.unset).toArray = ls at hl ⊢
  have hl : lv_has ls 2 [(0, .ref h0), (1, .int a0)] := hl
  unfold P_X3_pop at hF
  refine lv_iload_n hx hb dX3_pop_0 rfl (lv_at hl 1 rfl) ?_
  obtain ⟨r_1, hr_1, hF⟩ := bd1_u hF
  refine vp_callSi (W.runS (As := [.int a0]) (rest := []) ⟨hx, hb, hml, hown, hts⟩ (c_X3_isLayer l a0 r_1 hr_1) (va_cwS 1 hts gX3_pop_X3_isLayer rfl rfl rfl (by decide +kernel) ⟨Nat.le_of_ble_eq_true rfl, Nat.le_of_ble_eq_true rfl⟩) preEq rfl rfl hl.1 rfl (lv_room (Nat.le_of_ble_eq_true rfl)) dX3_pop_1 ⟨Nat.le_of_ble_eq_true rfl, Nat.le_of_ble_eq_true rfl⟩) (fun r_1' qr_1 => ?_)
  obtain rfl := qr_1.symm
  refine lv_if_ne (tgt := 9) hx hb dX3_pop_4 (by decide) (fun c_2 => ?_) (fun c_2 => ?_)
  · have hF := br0 hF c_2
    refine lv_aload_n hx hb dX3_pop_9 rfl (lv_at hl 0 rfl) ?_
    refine va_get (D := (dC, dI)) (ci := 3) (v := .ref ast) (C := RX3) (T := TX3) (N := 11) hx hb hts (by decide +kernel) hown hK hP 0 rfl rfl 0 (by decide) (hts (.fieldLink RX3 7 "DotCoverModel" "state" "[I") (by decide +kernel)) (fun _ h9 => h9) rfl dX3_pop_10 ?_
    refine lv_iconst (v := 0) hx hb dX3_pop_13 (by decide) ?_
    refine lv_iload_n hx hb dX3_pop_14 rfl (lv_at hl 1 rfl) ?_
    refine lv_iadd hx hb dX3_pop_15 ?_
    obtain ⟨hi_16, hF⟩ := gd_u hF
    refine va_iald hx hb hK hP 1 0 rfl rfl (in_u hi_16) dX3_pop_16 ?_
    refine lv_if_ne (tgt := 23) hx hb dX3_pop_17 (by decide) (fun c_3 => ?_) (fun c_3 => ?_)
    · have hF := br0 hF c_3
      refine lv_aload_n hx hb dX3_pop_23 rfl (lv_at hl 0 rfl) ?_
      refine va_get (D := (dC, dI)) (ci := 3) (v := .ref ast) (C := RX3) (T := TX3) (N := 11) hx hb hts (by decide +kernel) hown hK hP 0 rfl rfl 0 (by decide) (hts (.fieldLink RX3 7 "DotCoverModel" "state" "[I") (by decide +kernel)) (fun _ h9 => h9) rfl dX3_pop_24 ?_
      refine lv_iconst (v := 0) hx hb dX3_pop_27 (by decide) ?_
      refine lv_iload_n hx hb dX3_pop_28 rfl (lv_at hl 1 rfl) ?_
      refine lv_iadd hx hb dX3_pop_29 ?_
      refine lv_dup2_11 hx hb dX3_pop_30 rfl rfl ?_
      obtain ⟨hi_31, hF⟩ := gd_u hF
      refine va_iald hx hb hK hP 1 0 rfl rfl (in_u hi_31) dX3_pop_31 ?_
      refine lv_iconst (v := 1) hx hb dX3_pop_32 (by decide) ?_
      refine lv_isub hx hb dX3_pop_33 ?_
      obtain ⟨hi_34, hF⟩ := gd_u hF
      refine va_iast hx hb hK hP hD hS 1 0 rfl rfl (in_u hi_34) dX3_pop_34 (fun H locs hP hD hS => ?_)
      have hP : va_P (dC, dI) vwCl [(h0, .inr (3, [.ref ast, .ref aim, .ref akp, .ref awx, .ref awy, .ref apx, .ref apy, .int co, .ref alx, .ref aly, .int lf])), (ast, .inl (cI, 54, .inl (upd st ((0 : Int32) + a0).toNatClampNeg ((st ((0 : Int32) + a0).toNatClampNeg) - (1 : Int32))))), (aim, .inl (cI, 108, .inl im)), (akp, .inl (cZ, 2, .inl kp)), (awx, .inl (cI, 8, .inl wx)), (awy, .inl (cI, 8, .inl wy)), (apx, .inl (cJ, 300, .inr (.inl px))), (apy, .inl (cJ, 300, .inr (.inl py))), (alx, .inl (cJ, 300, .inr (.inl lx))), (aly, .inl (cJ, 300, .inr (.inl ly)))] H := hP
      have hD : va_D A [(h0, .inr (3, [.ref ast, .ref aim, .ref akp, .ref awx, .ref awy, .ref apx, .ref apy, .int co, .ref alx, .ref aly, .int lf])), (ast, .inl (cI, 54, .inl (upd st ((0 : Int32) + a0).toNatClampNeg ((st ((0 : Int32) + a0).toNatClampNeg) - (1 : Int32))))), (aim, .inl (cI, 108, .inl im)), (akp, .inl (cZ, 2, .inl kp)), (awx, .inl (cI, 8, .inl wx)), (awy, .inl (cI, 8, .inl wy)), (apx, .inl (cJ, 300, .inr (.inl px))), (apy, .inl (cJ, 300, .inr (.inl py))), (alx, .inl (cJ, 300, .inr (.inl lx))), (aly, .inl (cJ, 300, .inr (.inl ly)))] := hD
      refine lv_aload_n hx hb dX3_pop_35 rfl (lv_at hl 0 rfl) ?_
      refine va_get (D := (dC, dI)) (ci := 3) (v := .ref ast) (C := RX3) (T := TX3) (N := 11) hx hb hts (by decide +kernel) hown hK hP 0 rfl rfl 0 (by decide) (hts (.fieldLink RX3 7 "DotCoverModel" "state" "[I") (by decide +kernel)) (fun _ h9 => h9) rfl dX3_pop_36 ?_
      refine lv_iconst (v := 0) hx hb dX3_pop_39 (by decide) ?_
      refine lv_iload_n hx hb dX3_pop_40 rfl (lv_at hl 1 rfl) ?_
      refine lv_iadd hx hb dX3_pop_41 ?_
      obtain ⟨hi_42, hF⟩ := gd_u hF
      refine va_iald hx hb hK hP 1 0 rfl rfl (in_u hi_42) dX3_pop_42 ?_
      obtain ⟨e0, rfl⟩ := tp2 hF
      rw [← hQ]
      exact W.iret (v := ((upd st ((0 : Int32) + a0).toNatClampNeg ((st ((0 : Int32) + a0).toNatClampNeg) - (1 : Int32))) ((0 : Int32) + a0).toNatClampNeg)) hx hb hr (fun t ht hW => ⟨⟨_, (), rfl, e0, by rw [ht]; exact hP, va_K.moved hW.alike hK, hD⟩, hS.F ht⟩) hS.2.2 dX3_pop_43
    · have hF := br1 hF c_3
      refine lv_bipush (v := -3) hx hb dX3_pop_20 (by decide) ?_
      obtain ⟨e0, rfl⟩ := tp2 hF
      rw [← hQ]
      exact W.iret (v := (-3 : Int32)) hx hb hr (fun t ht hW => ⟨⟨_, (), rfl, e0, by rw [ht]; exact hP, va_K.moved hW.alike hK, hD⟩, hS.F ht⟩) hS.2.2 dX3_pop_22
  · have hF := br1 hF c_2
    refine lv_iconst (v := -1) hx hb dX3_pop_7 (by decide) ?_
    obtain ⟨e0, rfl⟩ := tp2 hF
    rw [← hQ]
    exact W.iret (v := (-1 : Int32)) hx hb hr (fun t ht hW => ⟨⟨_, (), rfl, e0, by rw [ht]; exact hP, va_K.moved hW.alike hK, hD⟩, hS.F ht⟩) hS.2.2 dX3_pop_8

def P_X3_set (a0 : Int32) (a1 : Int32) (a2 : Int32) (a3 : Int32) (st : Nat → Int32) : Option (Int32 × (Nat → Int32)) :=
  bd1 (P_X3_isLayer a0) (fun r_1 =>
  if r_1 = (0 : Int32) then
    some ((-1 : Int32), st)
  else
    bd1 (P_X3_isPoint a0 a1 st) (fun r_3 =>
    if r_3 = (0 : Int32) then
      some ((-1 : Int32), st)
    else
      bd1 (P_X3_isHere a2 a3) (fun r_5 =>
      if r_5 = (0 : Int32) then
        some ((-2 : Int32), st)
      else
        bd1 (P_X3_place a0 a1) (fun r_7 =>
        gd (ib ((6 : Int32) + r_7) 54) (
        gd (ib ((30 : Int32) + r_7) 54) (
        nm (((13 : Int32) * (st ((6 : Int32) + r_7).toNatClampNeg)) + (st ((30 : Int32) + r_7).toNatClampNeg)) (fun v_8 =>
        gd (ib ((6 : Int32) + r_7) 54) (
        gd (ib ((30 : Int32) + r_7) 54) (
        some (v_8, (upd (upd st ((6 : Int32) + r_7).toNatClampNeg a2) ((30 : Int32) + r_7).toNatClampNeg a3)))))))))))

def rm_X3_set : Room := { frames := 2, cells := 0, slots := 0, locals := 44 }

set_option maxHeartbeats 4000000 in
set_option maxRecDepth 100000 in
theorem c_X3_set (l : Launch) (dC : Nat → ClassId) (dI : Nat → Nat → Nat) (h0 ast aim akp awx awy apx apy alx aly : Nat) (cI cZ cJ : ClassId) (hsz0 : Nat) (st : Nat → Int32) (im : Nat → Int32) (kp : Nat → Int32) (wx : Nat → Int32) (wy : Nat → Int32) (px : Nat → Int64) (py : Nat → Int64) (co : Int32) (lx : Nat → Int64) (ly : Nat → Int64) (lf : Int32) (a0 : Int32) (a1 : Int32) (a2 : Int32) (a3 : Int32) (r0 : Int32) (stN : Nat → Int32) (hF : P_X3_set a0 a1 a2 a3 st = some (r0, stN)) : Met l yX3_set wsX3_set rm_X3_set (va_Pc [.ref h0, .int a0, .int a1, .int a2, .int a3] (fun U => U.heap.size = hsz0 ∧ va_P (dC, dI) vwCl [(h0, .inr (3, [.ref ast, .ref aim, .ref akp, .ref awx, .ref awy, .ref apx, .ref apy, .int co, .ref alx, .ref aly, .int lf])), (ast, .inl (cI, 54, .inl st)), (aim, .inl (cI, 108, .inl im)), (akp, .inl (cZ, 2, .inl kp)), (awx, .inl (cI, 8, .inl wx)), (awy, .inl (cI, 8, .inl wy)), (apx, .inl (cJ, 300, .inr (.inl px))), (apy, .inl (cJ, 300, .inr (.inl py))), (alx, .inl (cJ, 300, .inr (.inl lx))), (aly, .inl (cJ, 300, .inr (.inl ly)))] U.heap ∧ va_K (dC, dI) vwCl [(cI, .int), (cZ, .boolean), (cJ, .long)] U ∧ va_D (fun _ => True) [(h0, .inr (3, [.ref ast, .ref aim, .ref akp, .ref awx, .ref awy, .ref apx, .ref apy, .int co, .ref alx, .ref aly, .int lf])), (ast, .inl (cI, 54, .inl st)), (aim, .inl (cI, 108, .inl im)), (akp, .inl (cZ, 2, .inl kp)), (awx, .inl (cI, 8, .inl wx)), (awy, .inl (cI, 8, .inl wy)), (apx, .inl (cJ, 300, .inr (.inl px))), (apy, .inl (cJ, 300, .inr (.inl py))), (alx, .inl (cJ, 300, .inr (.inl lx))), (aly, .inl (cJ, 300, .inr (.inl ly)))])) (va_Qi (fun (r : Int32) (_ : Unit) => r = r0) (fun _ t => va_P (dC, dI) vwCl [(h0, .inr (3, [.ref ast, .ref aim, .ref akp, .ref awx, .ref awy, .ref apx, .ref apy, .int co, .ref alx, .ref aly, .int lf])), (ast, .inl (cI, 54, .inl stN)), (aim, .inl (cI, 108, .inl im)), (akp, .inl (cZ, 2, .inl kp)), (awx, .inl (cI, 8, .inl wx)), (awy, .inl (cI, 8, .inl wy)), (apx, .inl (cJ, 300, .inr (.inl px))), (apy, .inl (cJ, 300, .inr (.inl py))), (alx, .inl (cJ, 300, .inr (.inl lx))), (aly, .inl (cJ, 300, .inr (.inl ly)))] t.heap ∧ va_K (dC, dI) vwCl [(cI, .int), (cZ, .boolean), (cJ, .long)] t ∧ va_D (va_A [(h0, .inr (3, [.ref ast, .ref aim, .ref akp, .ref awx, .ref awy, .ref apx, .ref apy, .int co, .ref alx, .ref aly, .int lf])), (ast, .inl (cI, 54, .inl st)), (aim, .inl (cI, 108, .inl im)), (akp, .inl (cZ, 2, .inl kp)), (awx, .inl (cI, 8, .inl wx)), (awy, .inl (cI, 8, .inl wy)), (apx, .inl (cJ, 300, .inr (.inl px))), (apy, .inl (cJ, 300, .inr (.inl py))), (alx, .inl (cJ, 300, .inr (.inl lx))), (aly, .inl (cJ, 300, .inr (.inl ly)))] hsz0) [(h0, .inr (3, [.ref ast, .ref aim, .ref akp, .ref awx, .ref awy, .ref apx, .ref apy, .int co, .ref alx, .ref aly, .int lf])), (ast, .inl (cI, 54, .inl stN)), (aim, .inl (cI, 108, .inl im)), (akp, .inl (cZ, 2, .inl kp)), (awx, .inl (cI, 8, .inl wx)), (awy, .inl (cI, 8, .inl wy)), (apx, .inl (cJ, 300, .inr (.inl px))), (apy, .inl (cJ, 300, .inr (.inl py))), (alx, .inl (cJ, 300, .inr (.inl lx))), (aly, .inl (cJ, 300, .inr (.inl ly)))]) (va_A [(h0, .inr (3, [.ref ast, .ref aim, .ref akp, .ref awx, .ref awy, .ref apx, .ref apy, .int co, .ref alx, .ref aly, .int lf])), (ast, .inl (cI, 54, .inl st)), (aim, .inl (cI, 108, .inl im)), (akp, .inl (cZ, 2, .inl kp)), (awx, .inl (cI, 8, .inl wx)), (awy, .inl (cI, 8, .inl wy)), (apx, .inl (cJ, 300, .inr (.inl px))), (apy, .inl (cJ, 300, .inr (.inl py))), (alx, .inl (cJ, 300, .inr (.inl lx))), (aly, .inl (cJ, 300, .inr (.inl ly)))] hsz0)) 0 0 (va_A [(h0, .inr (3, [.ref ast, .ref aim, .ref akp, .ref awx, .ref awy, .ref apx, .ref apy, .int co, .ref alx, .ref aly, .int lf])), (ast, .inl (cI, 54, .inl st)), (aim, .inl (cI, 108, .inl im)), (akp, .inl (cZ, 2, .inl kp)), (awx, .inl (cI, 8, .inl wx)), (awy, .inl (cI, 8, .inl wy)), (apx, .inl (cJ, 300, .inr (.inl px))), (apy, .inl (cJ, 300, .inr (.inl py))), (alx, .inl (cJ, 300, .inr (.inl lx))), (aly, .inl (cJ, 300, .inr (.inl ly)))] hsz0) := by
  refine Met.ofW (cc := cX3_set) (maxL := 7) (ret := (some .int)) (by decide) rfl ?_
  intro p e s m args below meth c s₁ B hml hv
  change W p l e rm_X3_set s m args below meth c s.heap [] 0 0 _ _
  obtain ⟨hv, hsz, hP, hK, hD0⟩ := hv
  have hx := B.exec
  have hb := B.bytes
  have hr := B.returns
  have hts := atoms_spec (ws := wsX3_set) B.pre
  have hown : s.vm.findClass RX3 = some m.cls := findClass_of_methodNamed B.named
  have hlocks := B.notSynchronized
  subst hsz
  have hD := hD0.self (sz := s.heap.size)
  generalize hAe : va_A [(h0, .inr (3, [.ref ast, .ref aim, .ref akp, .ref awx, .ref awy, .ref apx, .ref apy, .int co, .ref alx, .ref aly, .int lf])), (ast, .inl (cI, 54, .inl st)), (aim, .inl (cI, 108, .inl im)), (akp, .inl (cZ, 2, .inl kp)), (awx, .inl (cI, 8, .inl wx)), (awy, .inl (cI, 8, .inl wy)), (apx, .inl (cJ, 300, .inr (.inl px))), (apy, .inl (cJ, 300, .inr (.inl py))), (alx, .inl (cJ, 300, .inr (.inl lx))), (aly, .inl (cJ, 300, .inr (.inl ly)))] s.heap.size = A at hD ⊢
  have hA : ∀ q : Nat, s.heap.size ≤ q → A q := fun q h => by rw [← hAe]; exact Or.inr h
  have hS : va_S A s.heap s.heap [] := va_S.rf
  generalize hQ : MQ below (va_Qi (fun (r : Int32) (_ : Unit) => r = r0) (fun _ t => va_P (dC, dI) vwCl [(h0, .inr (3, [.ref ast, .ref aim, .ref akp, .ref awx, .ref awy, .ref apx, .ref apy, .int co, .ref alx, .ref aly, .int lf])), (ast, .inl (cI, 54, .inl stN)), (aim, .inl (cI, 108, .inl im)), (akp, .inl (cZ, 2, .inl kp)), (awx, .inl (cI, 8, .inl wx)), (awy, .inl (cI, 8, .inl wy)), (apx, .inl (cJ, 300, .inr (.inl px))), (apy, .inl (cJ, 300, .inr (.inl py))), (alx, .inl (cJ, 300, .inr (.inl lx))), (aly, .inl (cJ, 300, .inr (.inl ly)))] t.heap ∧ va_K (dC, dI) vwCl [(cI, .int), (cZ, .boolean), (cJ, .long)] t ∧ va_D A [(h0, .inr (3, [.ref ast, .ref aim, .ref akp, .ref awx, .ref awy, .ref apx, .ref apy, .int co, .ref alx, .ref aly, .int lf])), (ast, .inl (cI, 54, .inl stN)), (aim, .inl (cI, 108, .inl im)), (akp, .inl (cZ, 2, .inl kp)), (awx, .inl (cI, 8, .inl wx)), (awy, .inl (cI, 8, .inl wy)), (apx, .inl (cJ, 300, .inr (.inl px))), (apy, .inl (cJ, 300, .inr (.inl py))), (alx, .inl (cJ, 300, .inr (.inl lx))), (aly, .inl (cJ, 300, .inr (.inl ly)))]) A) args s 0 0 A = Q
  have hl := lv_entry ([.ref h0, .int a0, .int a1, .int a2, .int a3]) (n := 7) (Nat.le_of_ble_eq_true rfl)
  have hE : entryFrame m args 7 = F0 m 0 ((lg_sl ([.ref h0, .int a0, .int a1, .int a2, .int a3]) ++ List.replicate (7 - (lg_sl ([.ref h0, .int a0, .int a1, .int a2, .int a3])).length) Slot.unset).toArray) [] := by rw [hv]; exact lg_entry_eq m _ 7
  rw [hE]
  generalize (lg_sl ([.ref h0, .int a0, .int a1, .int a2, .int a3]) ++ List.replicate (7 - (lg_sl ([.ref h0, .int a0, .int a1, .int a2, .int a3])).length) Slot.unset).toArray = ls at hl ⊢
  have hl : lv_has ls 7 [(0, .ref h0), (1, .int a0), (2, .int a1), (3, .int a2), (4, .int a3)] := hl
  unfold P_X3_set at hF
  refine lv_iload_n hx hb dX3_set_0 rfl (lv_at hl 1 rfl) ?_
  obtain ⟨r_1, hr_1, hF⟩ := bd1_u hF
  refine vp_callSi (W.runS (As := [.int a0]) (rest := []) ⟨hx, hb, hml, hown, hts⟩ (c_X3_isLayer l a0 r_1 hr_1) (va_cwS 1 hts gX3_set_X3_isLayer rfl rfl rfl (by decide +kernel) ⟨Nat.le_of_ble_eq_true rfl, Nat.le_of_ble_eq_true rfl⟩) preEq rfl rfl hl.1 rfl (lv_room (Nat.le_of_ble_eq_true rfl)) dX3_set_1 ⟨Nat.le_of_ble_eq_true rfl, Nat.le_of_ble_eq_true rfl⟩) (fun r_1' qr_1 => ?_)
  obtain rfl := qr_1.symm
  refine lv_if_eq (tgt := 16) hx hb dX3_set_4 (by decide) (fun c_2 => ?_) (fun c_2 => ?_)
  · have hF := br1 hF c_2
    refine lv_iconst (v := -1) hx hb dX3_set_16 (by decide) ?_
    obtain ⟨e0, rfl⟩ := tp2 hF
    rw [← hQ]
    exact W.iret (v := (-1 : Int32)) hx hb hr (fun t ht hW => ⟨⟨_, (), rfl, e0, by rw [ht]; exact hP, va_K.moved hW.alike hK, hD⟩, hS.F ht⟩) hS.2.2 dX3_set_17
  · have hF := br0 hF c_2
    refine lv_aload_n hx hb dX3_set_7 rfl (lv_at hl 0 rfl) ?_
    refine lv_iload_n hx hb dX3_set_8 rfl (lv_at hl 1 rfl) ?_
    refine lv_iload_n hx hb dX3_set_9 rfl (lv_at hl 2 rfl) ?_
    obtain ⟨r_3, hr_3, hF⟩ := bd1_u hF
    have hPc := hP.sub (ws' := [(h0, .inr (3, [.ref ast, .ref aim, .ref akp, .ref awx, .ref awy, .ref apx, .ref apy, .int co, .ref alx, .ref aly, .int lf])), (ast, .inl (cI, 54, .inl st)), (aim, .inl (cI, 108, .inl im)), (akp, .inl (cZ, 2, .inl kp)), (awx, .inl (cI, 8, .inl wx)), (awy, .inl (cI, 8, .inl wy)), (apx, .inl (cJ, 300, .inr (.inl px))), (apy, .inl (cJ, 300, .inr (.inl py))), (alx, .inl (cJ, 300, .inr (.inl lx))), (aly, .inl (cJ, 300, .inr (.inl ly)))]) [0, 1, 2, 3, 4, 5, 6, 7, 8, 9] rfl
    have hKc := hK.sub (tys' := [(cI, .int), (cZ, .boolean), (cJ, .long)]) [0, 1, 2] rfl
    refine vp_callSi (W.runV (As := [.int a0, .int a1]) (rest := []) ⟨hx, hb, hml, hown, hts⟩ (c_X3_isPoint l dC dI h0 ast aim akp awx awy apx apy alx aly cI cZ cJ st im kp wx wy px py co lx ly lf a0 a1 r_3 hr_3) (cwV 2 hts gX3_set_X3_isPoint rfl rfl rfl (by decide +kernel) ⟨Nat.le_of_ble_eq_true rfl, Nat.le_of_ble_eq_true rfl⟩) ⟨fun a U g mk q => ⟨q.1, q.2.1, va_K.moved (u := U) (U := U.calling g mk a) (Vm.Alike.refl U.vm) q.2.2⟩, va_recv hKc hPc (ci := 3) (q0 := 0) rfl rfl, fun U hU hW => ⟨rfl, by rw [hU]; exact hPc, va_K.moved hW.alike hKc⟩⟩ rfl rfl hl.1 rfl (lv_room (Nat.le_of_ble_eq_true rfl)) dX3_set_10 ⟨Nat.le_of_ble_eq_true rfl, Nat.le_of_ble_eq_true rfl⟩) (fun r_3' qr_3 => ?_)
    obtain rfl := qr_3.symm
    refine lv_if_ne (tgt := 18) hx hb dX3_set_13 (by decide) (fun c_4 => ?_) (fun c_4 => ?_)
    · have hF := br0 hF c_4
      refine lv_iload_n hx hb dX3_set_18 rfl (lv_at hl 3 rfl) ?_
      refine lv_iload hx hb dX3_set_19 (lv_at hl 4 rfl) ?_
      obtain ⟨r_5, hr_5, hF⟩ := bd1_u hF
      refine vp_callSi (W.runS (As := [.int a2, .int a3]) (rest := []) ⟨hx, hb, hml, hown, hts⟩ (c_X3_isHere l a2 a3 r_5 hr_5) (va_cwS 2 hts gX3_set_X3_isHere rfl rfl rfl (by decide +kernel) ⟨Nat.le_of_ble_eq_true rfl, Nat.le_of_ble_eq_true rfl⟩) preEq rfl rfl hl.1 rfl (lv_room (Nat.le_of_ble_eq_true rfl)) dX3_set_21 ⟨Nat.le_of_ble_eq_true rfl, Nat.le_of_ble_eq_true rfl⟩) (fun r_5' qr_5 => ?_)
      obtain rfl := qr_5.symm
      refine lv_if_ne (tgt := 30) hx hb dX3_set_24 (by decide) (fun c_6 => ?_) (fun c_6 => ?_)
      · have hF := br0 hF c_6
        refine lv_iload_n hx hb dX3_set_30 rfl (lv_at hl 1 rfl) ?_
        refine lv_iload_n hx hb dX3_set_31 rfl (lv_at hl 2 rfl) ?_
        obtain ⟨r_7, hr_7, hF⟩ := bd1_u hF
        refine vp_callSi (W.runS (As := [.int a0, .int a1]) (rest := []) ⟨hx, hb, hml, hown, hts⟩ (c_X3_place l a0 a1 r_7 hr_7) (va_cwS 2 hts gX3_set_X3_place rfl rfl rfl (by decide +kernel) ⟨Nat.le_of_ble_eq_true rfl, Nat.le_of_ble_eq_true rfl⟩) preEq rfl rfl hl.1 rfl (lv_room (Nat.le_of_ble_eq_true rfl)) dX3_set_32 ⟨Nat.le_of_ble_eq_true rfl, Nat.le_of_ble_eq_true rfl⟩) (fun r_7' qr_7 => ?_)
        obtain rfl := qr_7.symm
        refine lv_istore (lv' := [(5, .int r_7), (0, .ref h0), (1, .int a0), (2, .int a1), (3, .int a2), (4, .int a3)]) hx hb dX3_set_35 hl (by decide) rfl (fun ls hl => ?_)
        refine lv_bipush (v := 13) hx hb dX3_set_37 (by decide) ?_
        refine lv_aload_n hx hb dX3_set_39 rfl (lv_at hl 1 rfl) ?_
        refine va_get (D := (dC, dI)) (ci := 3) (v := .ref ast) (C := RX3) (T := TX3) (N := 11) hx hb hts (by decide +kernel) hown hK hP 0 rfl rfl 0 (by decide) (hts (.fieldLink RX3 7 "DotCoverModel" "state" "[I") (by decide +kernel)) (fun _ h9 => h9) rfl dX3_set_40 ?_
        refine lv_bipush (v := 6) hx hb dX3_set_43 (by decide) ?_
        refine lv_iload hx hb dX3_set_45 (lv_at hl 0 rfl) ?_
        refine lv_iadd hx hb dX3_set_47 ?_
        obtain ⟨hi_48, hF⟩ := gd_u hF
        refine va_iald hx hb hK hP 1 0 rfl rfl (in_u hi_48) dX3_set_48 ?_
        refine lv_imul hx hb dX3_set_49 ?_
        refine lv_aload_n hx hb dX3_set_50 rfl (lv_at hl 1 rfl) ?_
        refine va_get (D := (dC, dI)) (ci := 3) (v := .ref ast) (C := RX3) (T := TX3) (N := 11) hx hb hts (by decide +kernel) hown hK hP 0 rfl rfl 0 (by decide) (hts (.fieldLink RX3 7 "DotCoverModel" "state" "[I") (by decide +kernel)) (fun _ h9 => h9) rfl dX3_set_51 ?_
        refine lv_bipush (v := 30) hx hb dX3_set_54 (by decide) ?_
        refine lv_iload hx hb dX3_set_56 (lv_at hl 0 rfl) ?_
        refine lv_iadd hx hb dX3_set_58 ?_
        obtain ⟨hi_59, hF⟩ := gd_u hF
        refine va_iald hx hb hK hP 1 0 rfl rfl (in_u hi_59) dX3_set_59 ?_
        refine lv_iadd hx hb dX3_set_60 ?_
        refine lv_topi (fun v_8 ev_8 => ?_)
        have hF := nm_u hF ev_8
        refine lv_istore (lv' := [(6, .int v_8), (5, .int r_7), (0, .ref h0), (1, .int a0), (2, .int a1), (3, .int a2), (4, .int a3)]) hx hb dX3_set_61 hl (by decide) rfl (fun ls hl => ?_)
        refine lv_aload_n hx hb dX3_set_63 rfl (lv_at hl 2 rfl) ?_
        refine va_get (D := (dC, dI)) (ci := 3) (v := .ref ast) (C := RX3) (T := TX3) (N := 11) hx hb hts (by decide +kernel) hown hK hP 0 rfl rfl 0 (by decide) (hts (.fieldLink RX3 7 "DotCoverModel" "state" "[I") (by decide +kernel)) (fun _ h9 => h9) rfl dX3_set_64 ?_
        refine lv_bipush (v := 6) hx hb dX3_set_67 (by decide) ?_
        refine lv_iload hx hb dX3_set_69 (lv_at hl 1 rfl) ?_
        refine lv_iadd hx hb dX3_set_71 ?_
        refine lv_iload_n hx hb dX3_set_72 rfl (lv_at hl 5 rfl) ?_
        obtain ⟨hi_73, hF⟩ := gd_u hF
        refine va_iast hx hb hK hP hD hS 1 0 rfl rfl (in_u hi_73) dX3_set_73 (fun H locs hP hD hS => ?_)
        have hP : va_P (dC, dI) vwCl [(h0, .inr (3, [.ref ast, .ref aim, .ref akp, .ref awx, .ref awy, .ref apx, .ref apy, .int co, .ref alx, .ref aly, .int lf])), (ast, .inl (cI, 54, .inl (upd st ((6 : Int32) + r_7).toNatClampNeg a2))), (aim, .inl (cI, 108, .inl im)), (akp, .inl (cZ, 2, .inl kp)), (awx, .inl (cI, 8, .inl wx)), (awy, .inl (cI, 8, .inl wy)), (apx, .inl (cJ, 300, .inr (.inl px))), (apy, .inl (cJ, 300, .inr (.inl py))), (alx, .inl (cJ, 300, .inr (.inl lx))), (aly, .inl (cJ, 300, .inr (.inl ly)))] H := hP
        have hD : va_D A [(h0, .inr (3, [.ref ast, .ref aim, .ref akp, .ref awx, .ref awy, .ref apx, .ref apy, .int co, .ref alx, .ref aly, .int lf])), (ast, .inl (cI, 54, .inl (upd st ((6 : Int32) + r_7).toNatClampNeg a2))), (aim, .inl (cI, 108, .inl im)), (akp, .inl (cZ, 2, .inl kp)), (awx, .inl (cI, 8, .inl wx)), (awy, .inl (cI, 8, .inl wy)), (apx, .inl (cJ, 300, .inr (.inl px))), (apy, .inl (cJ, 300, .inr (.inl py))), (alx, .inl (cJ, 300, .inr (.inl lx))), (aly, .inl (cJ, 300, .inr (.inl ly)))] := hD
        refine lv_aload_n hx hb dX3_set_74 rfl (lv_at hl 2 rfl) ?_
        refine va_get (D := (dC, dI)) (ci := 3) (v := .ref ast) (C := RX3) (T := TX3) (N := 11) hx hb hts (by decide +kernel) hown hK hP 0 rfl rfl 0 (by decide) (hts (.fieldLink RX3 7 "DotCoverModel" "state" "[I") (by decide +kernel)) (fun _ h9 => h9) rfl dX3_set_75 ?_
        refine lv_bipush (v := 30) hx hb dX3_set_78 (by decide) ?_
        refine lv_iload hx hb dX3_set_80 (lv_at hl 1 rfl) ?_
        refine lv_iadd hx hb dX3_set_82 ?_
        refine lv_iload hx hb dX3_set_83 (lv_at hl 6 rfl) ?_
        obtain ⟨hi_85, hF⟩ := gd_u hF
        refine va_iast hx hb hK hP hD hS 1 0 rfl rfl (in_u hi_85) dX3_set_85 (fun H locs hP hD hS => ?_)
        have hP : va_P (dC, dI) vwCl [(h0, .inr (3, [.ref ast, .ref aim, .ref akp, .ref awx, .ref awy, .ref apx, .ref apy, .int co, .ref alx, .ref aly, .int lf])), (ast, .inl (cI, 54, .inl (upd (upd st ((6 : Int32) + r_7).toNatClampNeg a2) ((30 : Int32) + r_7).toNatClampNeg a3))), (aim, .inl (cI, 108, .inl im)), (akp, .inl (cZ, 2, .inl kp)), (awx, .inl (cI, 8, .inl wx)), (awy, .inl (cI, 8, .inl wy)), (apx, .inl (cJ, 300, .inr (.inl px))), (apy, .inl (cJ, 300, .inr (.inl py))), (alx, .inl (cJ, 300, .inr (.inl lx))), (aly, .inl (cJ, 300, .inr (.inl ly)))] H := hP
        have hD : va_D A [(h0, .inr (3, [.ref ast, .ref aim, .ref akp, .ref awx, .ref awy, .ref apx, .ref apy, .int co, .ref alx, .ref aly, .int lf])), (ast, .inl (cI, 54, .inl (upd (upd st ((6 : Int32) + r_7).toNatClampNeg a2) ((30 : Int32) + r_7).toNatClampNeg a3))), (aim, .inl (cI, 108, .inl im)), (akp, .inl (cZ, 2, .inl kp)), (awx, .inl (cI, 8, .inl wx)), (awy, .inl (cI, 8, .inl wy)), (apx, .inl (cJ, 300, .inr (.inl px))), (apy, .inl (cJ, 300, .inr (.inl py))), (alx, .inl (cJ, 300, .inr (.inl lx))), (aly, .inl (cJ, 300, .inr (.inl ly)))] := hD
        refine lv_iload hx hb dX3_set_86 (lv_at hl 0 rfl) ?_
        obtain ⟨e0, rfl⟩ := tp2 hF
        rw [← hQ]
        exact W.iret (v := v_8) hx hb hr (fun t ht hW => ⟨⟨_, (), rfl, e0, by rw [ht]; exact hP, va_K.moved hW.alike hK, hD⟩, hS.F ht⟩) hS.2.2 dX3_set_88
      · have hF := br1 hF c_6
        refine lv_bipush (v := -2) hx hb dX3_set_27 (by decide) ?_
        obtain ⟨e0, rfl⟩ := tp2 hF
        rw [← hQ]
        exact W.iret (v := (-2 : Int32)) hx hb hr (fun t ht hW => ⟨⟨_, (), rfl, e0, by rw [ht]; exact hP, va_K.moved hW.alike hK, hD⟩, hS.F ht⟩) hS.2.2 dX3_set_29
    · have hF := br1 hF c_4
      refine lv_iconst (v := -1) hx hb dX3_set_16 (by decide) ?_
      obtain ⟨e0, rfl⟩ := tp2 hF
      rw [← hQ]
      exact W.iret (v := (-1 : Int32)) hx hb hr (fun t ht hW => ⟨⟨_, (), rfl, e0, by rw [ht]; exact hP, va_K.moved hW.alike hK, hD⟩, hS.F ht⟩) hS.2.2 dX3_set_17

def P_X3_rule (a0 : Int32) (a1 : Int32) (st : Nat → Int32) : Option (Int32 × (Nat → Int32)) :=
  bd1 (P_X3_isLayer a0) (fun r_1 =>
  if r_1 = (0 : Int32) then
    some ((-1 : Int32), st)
  else
    bd1 (P_X3_in a1 (0 : Int32) (1 : Int32)) (fun r_3 =>
    if r_3 = (0 : Int32) then
      some ((-2 : Int32), st)
    else
      gd (ib ((3 : Int32) + a0) 54) (
      nm (st ((3 : Int32) + a0).toNatClampNeg) (fun v_5 =>
      gd (ib ((3 : Int32) + a0) 54) (
      some (v_5, (upd st ((3 : Int32) + a0).toNatClampNeg a1)))))))

def rm_X3_rule : Room := { frames := 2, cells := 0, slots := 0, locals := 42 }

set_option maxHeartbeats 4000000 in
set_option maxRecDepth 100000 in
theorem c_X3_rule (l : Launch) (dC : Nat → ClassId) (dI : Nat → Nat → Nat) (h0 ast aim akp awx awy apx apy alx aly : Nat) (cI cZ cJ : ClassId) (hsz0 : Nat) (st : Nat → Int32) (im : Nat → Int32) (kp : Nat → Int32) (wx : Nat → Int32) (wy : Nat → Int32) (px : Nat → Int64) (py : Nat → Int64) (co : Int32) (lx : Nat → Int64) (ly : Nat → Int64) (lf : Int32) (a0 : Int32) (a1 : Int32) (r0 : Int32) (stN : Nat → Int32) (hF : P_X3_rule a0 a1 st = some (r0, stN)) : Met l yX3_rule wsX3_rule rm_X3_rule (va_Pc [.ref h0, .int a0, .int a1] (fun U => U.heap.size = hsz0 ∧ va_P (dC, dI) vwCl [(h0, .inr (3, [.ref ast, .ref aim, .ref akp, .ref awx, .ref awy, .ref apx, .ref apy, .int co, .ref alx, .ref aly, .int lf])), (ast, .inl (cI, 54, .inl st)), (aim, .inl (cI, 108, .inl im)), (akp, .inl (cZ, 2, .inl kp)), (awx, .inl (cI, 8, .inl wx)), (awy, .inl (cI, 8, .inl wy)), (apx, .inl (cJ, 300, .inr (.inl px))), (apy, .inl (cJ, 300, .inr (.inl py))), (alx, .inl (cJ, 300, .inr (.inl lx))), (aly, .inl (cJ, 300, .inr (.inl ly)))] U.heap ∧ va_K (dC, dI) vwCl [(cI, .int), (cZ, .boolean), (cJ, .long)] U ∧ va_D (fun _ => True) [(h0, .inr (3, [.ref ast, .ref aim, .ref akp, .ref awx, .ref awy, .ref apx, .ref apy, .int co, .ref alx, .ref aly, .int lf])), (ast, .inl (cI, 54, .inl st)), (aim, .inl (cI, 108, .inl im)), (akp, .inl (cZ, 2, .inl kp)), (awx, .inl (cI, 8, .inl wx)), (awy, .inl (cI, 8, .inl wy)), (apx, .inl (cJ, 300, .inr (.inl px))), (apy, .inl (cJ, 300, .inr (.inl py))), (alx, .inl (cJ, 300, .inr (.inl lx))), (aly, .inl (cJ, 300, .inr (.inl ly)))])) (va_Qi (fun (r : Int32) (_ : Unit) => r = r0) (fun _ t => va_P (dC, dI) vwCl [(h0, .inr (3, [.ref ast, .ref aim, .ref akp, .ref awx, .ref awy, .ref apx, .ref apy, .int co, .ref alx, .ref aly, .int lf])), (ast, .inl (cI, 54, .inl stN)), (aim, .inl (cI, 108, .inl im)), (akp, .inl (cZ, 2, .inl kp)), (awx, .inl (cI, 8, .inl wx)), (awy, .inl (cI, 8, .inl wy)), (apx, .inl (cJ, 300, .inr (.inl px))), (apy, .inl (cJ, 300, .inr (.inl py))), (alx, .inl (cJ, 300, .inr (.inl lx))), (aly, .inl (cJ, 300, .inr (.inl ly)))] t.heap ∧ va_K (dC, dI) vwCl [(cI, .int), (cZ, .boolean), (cJ, .long)] t ∧ va_D (va_A [(h0, .inr (3, [.ref ast, .ref aim, .ref akp, .ref awx, .ref awy, .ref apx, .ref apy, .int co, .ref alx, .ref aly, .int lf])), (ast, .inl (cI, 54, .inl st)), (aim, .inl (cI, 108, .inl im)), (akp, .inl (cZ, 2, .inl kp)), (awx, .inl (cI, 8, .inl wx)), (awy, .inl (cI, 8, .inl wy)), (apx, .inl (cJ, 300, .inr (.inl px))), (apy, .inl (cJ, 300, .inr (.inl py))), (alx, .inl (cJ, 300, .inr (.inl lx))), (aly, .inl (cJ, 300, .inr (.inl ly)))] hsz0) [(h0, .inr (3, [.ref ast, .ref aim, .ref akp, .ref awx, .ref awy, .ref apx, .ref apy, .int co, .ref alx, .ref aly, .int lf])), (ast, .inl (cI, 54, .inl stN)), (aim, .inl (cI, 108, .inl im)), (akp, .inl (cZ, 2, .inl kp)), (awx, .inl (cI, 8, .inl wx)), (awy, .inl (cI, 8, .inl wy)), (apx, .inl (cJ, 300, .inr (.inl px))), (apy, .inl (cJ, 300, .inr (.inl py))), (alx, .inl (cJ, 300, .inr (.inl lx))), (aly, .inl (cJ, 300, .inr (.inl ly)))]) (va_A [(h0, .inr (3, [.ref ast, .ref aim, .ref akp, .ref awx, .ref awy, .ref apx, .ref apy, .int co, .ref alx, .ref aly, .int lf])), (ast, .inl (cI, 54, .inl st)), (aim, .inl (cI, 108, .inl im)), (akp, .inl (cZ, 2, .inl kp)), (awx, .inl (cI, 8, .inl wx)), (awy, .inl (cI, 8, .inl wy)), (apx, .inl (cJ, 300, .inr (.inl px))), (apy, .inl (cJ, 300, .inr (.inl py))), (alx, .inl (cJ, 300, .inr (.inl lx))), (aly, .inl (cJ, 300, .inr (.inl ly)))] hsz0)) 0 0 (va_A [(h0, .inr (3, [.ref ast, .ref aim, .ref akp, .ref awx, .ref awy, .ref apx, .ref apy, .int co, .ref alx, .ref aly, .int lf])), (ast, .inl (cI, 54, .inl st)), (aim, .inl (cI, 108, .inl im)), (akp, .inl (cZ, 2, .inl kp)), (awx, .inl (cI, 8, .inl wx)), (awy, .inl (cI, 8, .inl wy)), (apx, .inl (cJ, 300, .inr (.inl px))), (apy, .inl (cJ, 300, .inr (.inl py))), (alx, .inl (cJ, 300, .inr (.inl lx))), (aly, .inl (cJ, 300, .inr (.inl ly)))] hsz0) := by
  refine Met.ofW (cc := cX3_rule) (maxL := 4) (ret := (some .int)) (by decide) rfl ?_
  intro p e s m args below meth c s₁ B hml hv
  change W p l e rm_X3_rule s m args below meth c s.heap [] 0 0 _ _
  obtain ⟨hv, hsz, hP, hK, hD0⟩ := hv
  have hx := B.exec
  have hb := B.bytes
  have hr := B.returns
  have hts := atoms_spec (ws := wsX3_rule) B.pre
  have hown : s.vm.findClass RX3 = some m.cls := findClass_of_methodNamed B.named
  have hlocks := B.notSynchronized
  subst hsz
  have hD := hD0.self (sz := s.heap.size)
  generalize hAe : va_A [(h0, .inr (3, [.ref ast, .ref aim, .ref akp, .ref awx, .ref awy, .ref apx, .ref apy, .int co, .ref alx, .ref aly, .int lf])), (ast, .inl (cI, 54, .inl st)), (aim, .inl (cI, 108, .inl im)), (akp, .inl (cZ, 2, .inl kp)), (awx, .inl (cI, 8, .inl wx)), (awy, .inl (cI, 8, .inl wy)), (apx, .inl (cJ, 300, .inr (.inl px))), (apy, .inl (cJ, 300, .inr (.inl py))), (alx, .inl (cJ, 300, .inr (.inl lx))), (aly, .inl (cJ, 300, .inr (.inl ly)))] s.heap.size = A at hD ⊢
  have hA : ∀ q : Nat, s.heap.size ≤ q → A q := fun q h => by rw [← hAe]; exact Or.inr h
  have hS : va_S A s.heap s.heap [] := va_S.rf
  generalize hQ : MQ below (va_Qi (fun (r : Int32) (_ : Unit) => r = r0) (fun _ t => va_P (dC, dI) vwCl [(h0, .inr (3, [.ref ast, .ref aim, .ref akp, .ref awx, .ref awy, .ref apx, .ref apy, .int co, .ref alx, .ref aly, .int lf])), (ast, .inl (cI, 54, .inl stN)), (aim, .inl (cI, 108, .inl im)), (akp, .inl (cZ, 2, .inl kp)), (awx, .inl (cI, 8, .inl wx)), (awy, .inl (cI, 8, .inl wy)), (apx, .inl (cJ, 300, .inr (.inl px))), (apy, .inl (cJ, 300, .inr (.inl py))), (alx, .inl (cJ, 300, .inr (.inl lx))), (aly, .inl (cJ, 300, .inr (.inl ly)))] t.heap ∧ va_K (dC, dI) vwCl [(cI, .int), (cZ, .boolean), (cJ, .long)] t ∧ va_D A [(h0, .inr (3, [.ref ast, .ref aim, .ref akp, .ref awx, .ref awy, .ref apx, .ref apy, .int co, .ref alx, .ref aly, .int lf])), (ast, .inl (cI, 54, .inl stN)), (aim, .inl (cI, 108, .inl im)), (akp, .inl (cZ, 2, .inl kp)), (awx, .inl (cI, 8, .inl wx)), (awy, .inl (cI, 8, .inl wy)), (apx, .inl (cJ, 300, .inr (.inl px))), (apy, .inl (cJ, 300, .inr (.inl py))), (alx, .inl (cJ, 300, .inr (.inl lx))), (aly, .inl (cJ, 300, .inr (.inl ly)))]) A) args s 0 0 A = Q
  have hl := lv_entry ([.ref h0, .int a0, .int a1]) (n := 4) (Nat.le_of_ble_eq_true rfl)
  have hE : entryFrame m args 4 = F0 m 0 ((lg_sl ([.ref h0, .int a0, .int a1]) ++ List.replicate (4 - (lg_sl ([.ref h0, .int a0, .int a1])).length) Slot.unset).toArray) [] := by rw [hv]; exact lg_entry_eq m _ 4
  rw [hE]
  generalize (lg_sl ([.ref h0, .int a0, .int a1]) ++ List.replicate (4 - (lg_sl ([.ref h0, .int a0, .int a1])).length) Slot.unset).toArray = ls at hl ⊢
  have hl : lv_has ls 4 [(0, .ref h0), (1, .int a0), (2, .int a1)] := hl
  unfold P_X3_rule at hF
  refine lv_iload_n hx hb dX3_rule_0 rfl (lv_at hl 1 rfl) ?_
  obtain ⟨r_1, hr_1, hF⟩ := bd1_u hF
  refine vp_callSi (W.runS (As := [.int a0]) (rest := []) ⟨hx, hb, hml, hown, hts⟩ (c_X3_isLayer l a0 r_1 hr_1) (va_cwS 1 hts gX3_rule_X3_isLayer rfl rfl rfl (by decide +kernel) ⟨Nat.le_of_ble_eq_true rfl, Nat.le_of_ble_eq_true rfl⟩) preEq rfl rfl hl.1 rfl (lv_room (Nat.le_of_ble_eq_true rfl)) dX3_rule_1 ⟨Nat.le_of_ble_eq_true rfl, Nat.le_of_ble_eq_true rfl⟩) (fun r_1' qr_1 => ?_)
  obtain rfl := qr_1.symm
  refine lv_if_ne (tgt := 9) hx hb dX3_rule_4 (by decide) (fun c_2 => ?_) (fun c_2 => ?_)
  · have hF := br0 hF c_2
    refine lv_iload_n hx hb dX3_rule_9 rfl (lv_at hl 2 rfl) ?_
    refine lv_iconst (v := 0) hx hb dX3_rule_10 (by decide) ?_
    refine lv_iconst (v := 1) hx hb dX3_rule_11 (by decide) ?_
    obtain ⟨r_3, hr_3, hF⟩ := bd1_u hF
    refine vp_callSi (W.runS (As := [.int a1, .int (0 : Int32), .int (1 : Int32)]) (rest := []) ⟨hx, hb, hml, hown, hts⟩ (c_X3_in l a1 (0 : Int32) (1 : Int32) r_3 hr_3) (va_cwS 3 hts gX3_rule_X3_in rfl rfl rfl (by decide +kernel) ⟨Nat.le_of_ble_eq_true rfl, Nat.le_of_ble_eq_true rfl⟩) preEq rfl rfl hl.1 rfl (lv_room (Nat.le_of_ble_eq_true rfl)) dX3_rule_12 ⟨Nat.le_of_ble_eq_true rfl, Nat.le_of_ble_eq_true rfl⟩) (fun r_3' qr_3 => ?_)
    obtain rfl := qr_3.symm
    refine lv_if_ne (tgt := 21) hx hb dX3_rule_15 (by decide) (fun c_4 => ?_) (fun c_4 => ?_)
    · have hF := br0 hF c_4
      refine lv_aload_n hx hb dX3_rule_21 rfl (lv_at hl 0 rfl) ?_
      refine va_get (D := (dC, dI)) (ci := 3) (v := .ref ast) (C := RX3) (T := TX3) (N := 11) hx hb hts (by decide +kernel) hown hK hP 0 rfl rfl 0 (by decide) (hts (.fieldLink RX3 7 "DotCoverModel" "state" "[I") (by decide +kernel)) (fun _ h9 => h9) rfl dX3_rule_22 ?_
      refine lv_iconst (v := 3) hx hb dX3_rule_25 (by decide) ?_
      refine lv_iload_n hx hb dX3_rule_26 rfl (lv_at hl 1 rfl) ?_
      refine lv_iadd hx hb dX3_rule_27 ?_
      obtain ⟨hi_28, hF⟩ := gd_u hF
      refine va_iald hx hb hK hP 1 0 rfl rfl (in_u hi_28) dX3_rule_28 ?_
      refine lv_topi (fun v_5 ev_5 => ?_)
      have hF := nm_u hF ev_5
      refine lv_istore_n (lv' := [(3, .int v_5), (0, .ref h0), (1, .int a0), (2, .int a1)]) hx hb dX3_rule_29 rfl hl (by decide) rfl (fun ls hl => ?_)
      refine lv_aload_n hx hb dX3_rule_30 rfl (lv_at hl 1 rfl) ?_
      refine va_get (D := (dC, dI)) (ci := 3) (v := .ref ast) (C := RX3) (T := TX3) (N := 11) hx hb hts (by decide +kernel) hown hK hP 0 rfl rfl 0 (by decide) (hts (.fieldLink RX3 7 "DotCoverModel" "state" "[I") (by decide +kernel)) (fun _ h9 => h9) rfl dX3_rule_31 ?_
      refine lv_iconst (v := 3) hx hb dX3_rule_34 (by decide) ?_
      refine lv_iload_n hx hb dX3_rule_35 rfl (lv_at hl 2 rfl) ?_
      refine lv_iadd hx hb dX3_rule_36 ?_
      refine lv_iload_n hx hb dX3_rule_37 rfl (lv_at hl 3 rfl) ?_
      obtain ⟨hi_38, hF⟩ := gd_u hF
      refine va_iast hx hb hK hP hD hS 1 0 rfl rfl (in_u hi_38) dX3_rule_38 (fun H locs hP hD hS => ?_)
      have hP : va_P (dC, dI) vwCl [(h0, .inr (3, [.ref ast, .ref aim, .ref akp, .ref awx, .ref awy, .ref apx, .ref apy, .int co, .ref alx, .ref aly, .int lf])), (ast, .inl (cI, 54, .inl (upd st ((3 : Int32) + a0).toNatClampNeg a1))), (aim, .inl (cI, 108, .inl im)), (akp, .inl (cZ, 2, .inl kp)), (awx, .inl (cI, 8, .inl wx)), (awy, .inl (cI, 8, .inl wy)), (apx, .inl (cJ, 300, .inr (.inl px))), (apy, .inl (cJ, 300, .inr (.inl py))), (alx, .inl (cJ, 300, .inr (.inl lx))), (aly, .inl (cJ, 300, .inr (.inl ly)))] H := hP
      have hD : va_D A [(h0, .inr (3, [.ref ast, .ref aim, .ref akp, .ref awx, .ref awy, .ref apx, .ref apy, .int co, .ref alx, .ref aly, .int lf])), (ast, .inl (cI, 54, .inl (upd st ((3 : Int32) + a0).toNatClampNeg a1))), (aim, .inl (cI, 108, .inl im)), (akp, .inl (cZ, 2, .inl kp)), (awx, .inl (cI, 8, .inl wx)), (awy, .inl (cI, 8, .inl wy)), (apx, .inl (cJ, 300, .inr (.inl px))), (apy, .inl (cJ, 300, .inr (.inl py))), (alx, .inl (cJ, 300, .inr (.inl lx))), (aly, .inl (cJ, 300, .inr (.inl ly)))] := hD
      refine lv_iload_n hx hb dX3_rule_39 rfl (lv_at hl 0 rfl) ?_
      obtain ⟨e0, rfl⟩ := tp2 hF
      rw [← hQ]
      exact W.iret (v := v_5) hx hb hr (fun t ht hW => ⟨⟨_, (), rfl, e0, by rw [ht]; exact hP, va_K.moved hW.alike hK, hD⟩, hS.F ht⟩) hS.2.2 dX3_rule_40
    · have hF := br1 hF c_4
      refine lv_bipush (v := -2) hx hb dX3_rule_18 (by decide) ?_
      obtain ⟨e0, rfl⟩ := tp2 hF
      rw [← hQ]
      exact W.iret (v := (-2 : Int32)) hx hb hr (fun t ht hW => ⟨⟨_, (), rfl, e0, by rw [ht]; exact hP, va_K.moved hW.alike hK, hD⟩, hS.F ht⟩) hS.2.2 dX3_rule_20
  · have hF := br1 hF c_2
    refine lv_iconst (v := -1) hx hb dX3_rule_7 (by decide) ?_
    obtain ⟨e0, rfl⟩ := tp2 hF
    rw [← hQ]
    exact W.iret (v := (-1 : Int32)) hx hb hr (fun t ht hW => ⟨⟨_, (), rfl, e0, by rw [ht]; exact hP, va_K.moved hW.alike hK, hD⟩, hS.F ht⟩) hS.2.2 dX3_rule_8

def L_X3_canMove_6 (st : Nat → Int32) (a0 : Int32) (a1 : Int32) (a2 : Int32) : Nat → Int32 → Int32 → Option (Int32 × Int32)
  | 0, _, _ => none
  | n + 1, k_1, k_2 =>
    gd (ib ((0 : Int32) + a0) 54) (
    if (st ((0 : Int32) + a0).toNatClampNeg) ≤ k_1 then
      some (k_1, k_2)
    else
      if k_2 = (0 : Int32) then
        L_X3_canMove_6 st a0 a1 a2 n (k_1 + (1 : Int32)) (0 : Int32)
      else
        bd1 (P_X3_place a0 k_1) (fun r_7 =>
        gd (ib ((6 : Int32) + r_7) 54) (
        bd1 (P_X3_place a0 k_1) (fun r_8 =>
        gd (ib ((30 : Int32) + r_8) 54) (
        bd1 (P_X3_isHere ((st ((6 : Int32) + r_7).toNatClampNeg) + a1) ((st ((30 : Int32) + r_8).toNatClampNeg) + a2)) (fun r_9 =>
        if r_9 = (0 : Int32) then
          L_X3_canMove_6 st a0 a1 a2 n (k_1 + (1 : Int32)) (0 : Int32)
        else
          L_X3_canMove_6 st a0 a1 a2 n (k_1 + (1 : Int32)) (1 : Int32)))))))
theorem L_X3_canMove_6_s (st : Nat → Int32) (a0 : Int32) (a1 : Int32) (a2 : Int32) (n : Nat) (k_1 : Int32) (k_2 : Int32) : L_X3_canMove_6 st a0 a1 a2 (n + 1) k_1 k_2 =
    (gd (ib ((0 : Int32) + a0) 54) (
    if (st ((0 : Int32) + a0).toNatClampNeg) ≤ k_1 then
      some (k_1, k_2)
    else
      if k_2 = (0 : Int32) then
        L_X3_canMove_6 st a0 a1 a2 n (k_1 + (1 : Int32)) (0 : Int32)
      else
        bd1 (P_X3_place a0 k_1) (fun r_7 =>
        gd (ib ((6 : Int32) + r_7) 54) (
        bd1 (P_X3_place a0 k_1) (fun r_8 =>
        gd (ib ((30 : Int32) + r_8) 54) (
        bd1 (P_X3_isHere ((st ((6 : Int32) + r_7).toNatClampNeg) + a1) ((st ((30 : Int32) + r_8).toNatClampNeg) + a2)) (fun r_9 =>
        if r_9 = (0 : Int32) then
          L_X3_canMove_6 st a0 a1 a2 n (k_1 + (1 : Int32)) (0 : Int32)
        else
          L_X3_canMove_6 st a0 a1 a2 n (k_1 + (1 : Int32)) (1 : Int32)))))))) := rfl

def P_X3_canMove (a0 : Int32) (a1 : Int32) (a2 : Int32) (st : Nat → Int32) : Option (Int32) :=
  bd2 (L_X3_canMove_6 st a0 a1 a2 1000 (0 : Int32) (1 : Int32)) (fun o_3 o_4 =>
  gd (isb o_4) (some o_4))

def rm_X3_canMove : Room := { frames := 2, cells := 0, slots := 0, locals := 43 }

set_option maxHeartbeats 4000000 in
set_option maxRecDepth 100000 in
theorem c_X3_canMove (l : Launch) (dC : Nat → ClassId) (dI : Nat → Nat → Nat) (h0 ast aim akp awx awy apx apy alx aly : Nat) (cI cZ cJ : ClassId) (st : Nat → Int32) (im : Nat → Int32) (kp : Nat → Int32) (wx : Nat → Int32) (wy : Nat → Int32) (px : Nat → Int64) (py : Nat → Int64) (co : Int32) (lx : Nat → Int64) (ly : Nat → Int64) (lf : Int32) (a0 : Int32) (a1 : Int32) (a2 : Int32) (r0 : Int32) (hF : P_X3_canMove a0 a1 a2 st = some r0) : Met l yX3_canMove wsX3_canMove rm_X3_canMove (va_Pc [.ref h0, .int a0, .int a1, .int a2] (fun U => va_P (dC, dI) vwCl [(h0, .inr (3, [.ref ast, .ref aim, .ref akp, .ref awx, .ref awy, .ref apx, .ref apy, .int co, .ref alx, .ref aly, .int lf])), (ast, .inl (cI, 54, .inl st)), (aim, .inl (cI, 108, .inl im)), (akp, .inl (cZ, 2, .inl kp)), (awx, .inl (cI, 8, .inl wx)), (awy, .inl (cI, 8, .inl wy)), (apx, .inl (cJ, 300, .inr (.inl px))), (apy, .inl (cJ, 300, .inr (.inl py))), (alx, .inl (cJ, 300, .inr (.inl lx))), (aly, .inl (cJ, 300, .inr (.inl ly)))] U.heap ∧ va_K (dC, dI) vwCl [(cI, .int), (cZ, .boolean), (cJ, .long)] U)) (vp_Si (fun x => x = r0)) 0 0 (fun _ => False) := by
  refine Met.ofW (cc := cX3_canMove) (maxL := 6) (ret := (some .boolean)) (by decide) rfl ?_
  intro p e s m args below meth c s₁ B hml hv
  change W p l e rm_X3_canMove s m args below meth c s.heap [] 0 0 _ _
  obtain ⟨hv, hP, hK⟩ := hv
  have hx := B.exec
  have hb := B.bytes
  have hr := B.returns
  have hts := atoms_spec (ws := wsX3_canMove) B.pre
  have hown : s.vm.findClass RX3 = some m.cls := findClass_of_methodNamed B.named
  have hlocks := B.notSynchronized
  generalize hQ : MQ below (vp_Si (fun x => x = r0)) args s 0 0 (fun _ => False) = Q
  have hl := lv_entry ([.ref h0, .int a0, .int a1, .int a2]) (n := 6) (Nat.le_of_ble_eq_true rfl)
  have hE : entryFrame m args 6 = F0 m 0 ((lg_sl ([.ref h0, .int a0, .int a1, .int a2]) ++ List.replicate (6 - (lg_sl ([.ref h0, .int a0, .int a1, .int a2])).length) Slot.unset).toArray) [] := by rw [hv]; exact lg_entry_eq m _ 6
  rw [hE]
  generalize (lg_sl ([.ref h0, .int a0, .int a1, .int a2]) ++ List.replicate (6 - (lg_sl ([.ref h0, .int a0, .int a1, .int a2])).length) Slot.unset).toArray = ls at hl ⊢
  have hl : lv_has ls 6 [(0, .ref h0), (1, .int a0), (2, .int a1), (3, .int a2)] := hl
  unfold P_X3_canMove at hF
  refine lv_iconst (v := 1) hx hb dX3_canMove_0 (by decide) ?_
  refine lv_istore (lv' := [(4, .int (1 : Int32)), (0, .ref h0), (1, .int a0), (2, .int a1), (3, .int a2)]) hx hb dX3_canMove_1 hl (by decide) rfl (fun ls hl => ?_)
  refine lv_iconst (v := 0) hx hb dX3_canMove_3 (by decide) ?_
  refine lv_istore (lv' := [(5, .int (0 : Int32)), (4, .int (1 : Int32)), (0, .ref h0), (1, .int a0), (2, .int a1), (3, .int a2)]) hx hb dX3_canMove_4 hl (by decide) rfl (fun ls hl => ?_)
  obtain ⟨o_3, o_4, hL_6, hF⟩ := bd2_u hF
  have lp_6 : ∀ (n : Nat) (k_1 : Int32) (k_2 : Int32) (o_3 : Int32) (o_4 : Int32) (ls : Array Slot), L_X3_canMove_6 st a0 a1 a2 n k_1 k_2 = some (o_3, o_4) → lv_has ls 6 [(5, .int k_1), (4, .int k_2), (0, .ref h0), (1, .int a0), (2, .int a1), (3, .int a2)] → (∀ (ls : Array Slot), lv_has ls 6 [(5, .int o_3), (4, .int o_4), (0, .ref h0), (1, .int a0), (2, .int a1), (3, .int a2)] → W p l e rm_X3_canMove s m args below meth c s.heap [] 0 0 Q (F0 m 75 ls [])) → W p l e rm_X3_canMove s m args below meth c s.heap [] 0 0 Q (F0 m 6 ls []) := by
    intro n
    induction n with
    | zero =>
      intro k_1 k_2 o_3 o_4 ls hF
      exact nn ((rfl : L_X3_canMove_6 st a0 a1 a2 0 k_1 k_2 = none).symm.trans hF)
    | succ n ih_6 =>
      intro k_1 k_2 o_3 o_4 ls hF hl kx_6
      have hF := (L_X3_canMove_6_s st a0 a1 a2 n k_1 k_2).symm.trans hF
      refine lv_iload hx hb dX3_canMove_6 (lv_at hl 0 rfl) ?_
      refine lv_aload_n hx hb dX3_canMove_8 rfl (lv_at hl 2 rfl) ?_
      refine va_get (D := (dC, dI)) (ci := 3) (v := .ref ast) (C := RX3) (T := TX3) (N := 11) hx hb hts (by decide +kernel) hown hK hP 0 rfl rfl 0 (by decide) (hts (.fieldLink RX3 7 "DotCoverModel" "state" "[I") (by decide +kernel)) (fun _ h9 => h9) rfl dX3_canMove_9 ?_
      refine lv_iconst (v := 0) hx hb dX3_canMove_12 (by decide) ?_
      refine lv_iload_n hx hb dX3_canMove_13 rfl (lv_at hl 3 rfl) ?_
      refine lv_iadd hx hb dX3_canMove_14 ?_
      obtain ⟨hi_15, hF⟩ := gd_u hF
      refine va_iald hx hb hK hP 1 0 rfl rfl (in_u hi_15) dX3_canMove_15 ?_
      refine lv_icmp_ge (tgt := 75) hx hb dX3_canMove_16 (by decide) (fun c_5 => ?_) (fun c_5 => ?_)
      · have hF := br1 hF c_5
        obtain ⟨rfl, rfl⟩ := tp2 hF
        exact kx_6 ls hl
      · have hF := br0 hF c_5
        refine lv_iload hx hb dX3_canMove_19 (lv_at hl 1 rfl) ?_
        refine lv_if_eq (tgt := 66) hx hb dX3_canMove_21 (by decide) (fun c_6 => ?_) (fun c_6 => ?_)
        · have hF := br1 hF c_6
          refine lv_iconst (v := 0) hx hb dX3_canMove_66 (by decide) ?_
          refine lv_istore (lv' := [(4, .int (0 : Int32)), (5, .int k_1), (0, .ref h0), (1, .int a0), (2, .int a1), (3, .int a2)]) hx hb dX3_canMove_67 hl (by decide) rfl (fun ls hl => ?_)
          refine lv_iinc (v := (k_1 + (1 : Int32))) (lv' := [(5, .int (k_1 + (1 : Int32))), (4, .int (0 : Int32)), (0, .ref h0), (1, .int a0), (2, .int a1), (3, .int a2)]) hx hb dX3_canMove_69 hl (k := 1) rfl rfl (by decide) rfl (fun ls hl => ?_)
          refine lv_goto (tgt := 6) hx hb dX3_canMove_72 (by decide) ?_
          exact ih_6 _ _ _ _ ls hF hl kx_6
        · have hF := br0 hF c_6
          refine lv_aload_n hx hb dX3_canMove_24 rfl (lv_at hl 2 rfl) ?_
          refine va_get (D := (dC, dI)) (ci := 3) (v := .ref ast) (C := RX3) (T := TX3) (N := 11) hx hb hts (by decide +kernel) hown hK hP 0 rfl rfl 0 (by decide) (hts (.fieldLink RX3 7 "DotCoverModel" "state" "[I") (by decide +kernel)) (fun _ h9 => h9) rfl dX3_canMove_25 ?_
          refine lv_bipush (v := 6) hx hb dX3_canMove_28 (by decide) ?_
          refine lv_iload_n hx hb dX3_canMove_30 rfl (lv_at hl 3 rfl) ?_
          refine lv_iload hx hb dX3_canMove_31 (lv_at hl 0 rfl) ?_
          obtain ⟨r_7, hr_7, hF⟩ := bd1_u hF
          refine vp_callSi (W.runS (As := [.int a0, .int k_1]) (rest := [.int (6 : Int32), .ref ast]) ⟨hx, hb, hml, hown, hts⟩ (c_X3_place l a0 k_1 r_7 hr_7) (va_cwS 2 hts gX3_canMove_X3_place rfl rfl rfl (by decide +kernel) ⟨Nat.le_of_ble_eq_true rfl, Nat.le_of_ble_eq_true rfl⟩) preEq rfl rfl hl.1 rfl (lv_room (Nat.le_of_ble_eq_true rfl)) dX3_canMove_33 ⟨Nat.le_of_ble_eq_true rfl, Nat.le_of_ble_eq_true rfl⟩) (fun r_7' qr_7 => ?_)
          obtain rfl := qr_7.symm
          refine lv_iadd hx hb dX3_canMove_36 ?_
          obtain ⟨hi_37, hF⟩ := gd_u hF
          refine va_iald hx hb hK hP 1 0 rfl rfl (in_u hi_37) dX3_canMove_37 ?_
          refine lv_iload_n hx hb dX3_canMove_38 rfl (lv_at hl 4 rfl) ?_
          refine lv_iadd hx hb dX3_canMove_39 ?_
          refine lv_aload_n hx hb dX3_canMove_40 rfl (lv_at hl 2 rfl) ?_
          refine va_get (D := (dC, dI)) (ci := 3) (v := .ref ast) (C := RX3) (T := TX3) (N := 11) hx hb hts (by decide +kernel) hown hK hP 0 rfl rfl 0 (by decide) (hts (.fieldLink RX3 7 "DotCoverModel" "state" "[I") (by decide +kernel)) (fun _ h9 => h9) rfl dX3_canMove_41 ?_
          refine lv_bipush (v := 30) hx hb dX3_canMove_44 (by decide) ?_
          refine lv_iload_n hx hb dX3_canMove_46 rfl (lv_at hl 3 rfl) ?_
          refine lv_iload hx hb dX3_canMove_47 (lv_at hl 0 rfl) ?_
          obtain ⟨r_8, hr_8, hF⟩ := bd1_u hF
          refine vp_callSi (W.runS (As := [.int a0, .int k_1]) (rest := [.int (30 : Int32), .ref ast, .int ((st ((6 : Int32) + r_7).toNatClampNeg) + a1)]) ⟨hx, hb, hml, hown, hts⟩ (c_X3_place l a0 k_1 r_8 hr_8) (va_cwS 2 hts gX3_canMove_X3_place rfl rfl rfl (by decide +kernel) ⟨Nat.le_of_ble_eq_true rfl, Nat.le_of_ble_eq_true rfl⟩) preEq rfl rfl hl.1 rfl (lv_room (Nat.le_of_ble_eq_true rfl)) dX3_canMove_49 ⟨Nat.le_of_ble_eq_true rfl, Nat.le_of_ble_eq_true rfl⟩) (fun r_8' qr_8 => ?_)
          obtain rfl := qr_8.symm
          refine lv_iadd hx hb dX3_canMove_52 ?_
          obtain ⟨hi_53, hF⟩ := gd_u hF
          refine va_iald hx hb hK hP 1 0 rfl rfl (in_u hi_53) dX3_canMove_53 ?_
          refine lv_iload_n hx hb dX3_canMove_54 rfl (lv_at hl 5 rfl) ?_
          refine lv_iadd hx hb dX3_canMove_55 ?_
          obtain ⟨r_9, hr_9, hF⟩ := bd1_u hF
          refine vp_callSi (W.runS (As := [.int ((st ((6 : Int32) + r_7).toNatClampNeg) + a1), .int ((st ((30 : Int32) + r_8).toNatClampNeg) + a2)]) (rest := []) ⟨hx, hb, hml, hown, hts⟩ (c_X3_isHere l ((st ((6 : Int32) + r_7).toNatClampNeg) + a1) ((st ((30 : Int32) + r_8).toNatClampNeg) + a2) r_9 hr_9) (va_cwS 2 hts gX3_canMove_X3_isHere rfl rfl rfl (by decide +kernel) ⟨Nat.le_of_ble_eq_true rfl, Nat.le_of_ble_eq_true rfl⟩) preEq rfl rfl hl.1 rfl (lv_room (Nat.le_of_ble_eq_true rfl)) dX3_canMove_56 ⟨Nat.le_of_ble_eq_true rfl, Nat.le_of_ble_eq_true rfl⟩) (fun r_9' qr_9 => ?_)
          obtain rfl := qr_9.symm
          refine lv_if_eq (tgt := 66) hx hb dX3_canMove_59 (by decide) (fun c_10 => ?_) (fun c_10 => ?_)
          · have hF := br1 hF c_10
            refine lv_iconst (v := 0) hx hb dX3_canMove_66 (by decide) ?_
            refine lv_istore (lv' := [(4, .int (0 : Int32)), (5, .int k_1), (0, .ref h0), (1, .int a0), (2, .int a1), (3, .int a2)]) hx hb dX3_canMove_67 hl (by decide) rfl (fun ls hl => ?_)
            refine lv_iinc (v := (k_1 + (1 : Int32))) (lv' := [(5, .int (k_1 + (1 : Int32))), (4, .int (0 : Int32)), (0, .ref h0), (1, .int a0), (2, .int a1), (3, .int a2)]) hx hb dX3_canMove_69 hl (k := 1) rfl rfl (by decide) rfl (fun ls hl => ?_)
            refine lv_goto (tgt := 6) hx hb dX3_canMove_72 (by decide) ?_
            exact ih_6 _ _ _ _ ls hF hl kx_6
          · have hF := br0 hF c_10
            refine lv_iconst (v := 1) hx hb dX3_canMove_62 (by decide) ?_
            refine lv_goto (tgt := 67) hx hb dX3_canMove_63 (by decide) ?_
            refine lv_istore (lv' := [(4, .int (1 : Int32)), (5, .int k_1), (0, .ref h0), (1, .int a0), (2, .int a1), (3, .int a2)]) hx hb dX3_canMove_67 hl (by decide) rfl (fun ls hl => ?_)
            refine lv_iinc (v := (k_1 + (1 : Int32))) (lv' := [(5, .int (k_1 + (1 : Int32))), (4, .int (1 : Int32)), (0, .ref h0), (1, .int a0), (2, .int a1), (3, .int a2)]) hx hb dX3_canMove_69 hl (k := 1) rfl rfl (by decide) rfl (fun ls hl => ?_)
            refine lv_goto (tgt := 6) hx hb dX3_canMove_72 (by decide) ?_
            exact ih_6 _ _ _ _ ls hF hl kx_6
  refine lp_6 1000 (0 : Int32) (1 : Int32) o_3 o_4 ls hL_6 hl (fun ls hl => ?_)
  refine lv_iload hx hb dX3_canMove_75 (lv_at hl 1 rfl) ?_
  obtain ⟨hB_, hF⟩ := gd_u hF
  rw [← hQ]
  exact W.zret (ty := .boolean) (v := o_4) hx hb hr (isb_u hB_) (fun t ht hW => ⟨_, rfl, Option.some.inj hF, ht⟩) (fun _ h => by cases h) dX3_canMove_77

def L_X3_move_50 (a0 : Int32) (a1 : Int32) (a2 : Int32) : Nat → Int32 → (Nat → Int32) → Option (Int32 × (Nat → Int32))
  | 0, _, _ => none
  | n + 1, k_9, st_10 =>
    gd (ib ((0 : Int32) + a0) 54) (
    if (st_10 ((0 : Int32) + a0).toNatClampNeg) ≤ k_9 then
      some (k_9, st_10)
    else
      bd1 (P_X3_place a0 k_9) (fun r_14 =>
      gd (ib ((6 : Int32) + r_14) 54) (
      gd (ib ((6 : Int32) + r_14) 54) (
      bd1 (P_X3_place a0 k_9) (fun r_15 =>
      gd (ib ((30 : Int32) + r_15) 54) (
      gd (ib ((30 : Int32) + r_15) 54) (
      L_X3_move_50 a0 a1 a2 n (k_9 + (1 : Int32)) (upd (upd st_10 ((6 : Int32) + r_14).toNatClampNeg ((st_10 ((6 : Int32) + r_14).toNatClampNeg) + a1)) ((30 : Int32) + r_15).toNatClampNeg (((upd st_10 ((6 : Int32) + r_14).toNatClampNeg ((st_10 ((6 : Int32) + r_14).toNatClampNeg) + a1)) ((30 : Int32) + r_15).toNatClampNeg) + a2)))))))))
theorem L_X3_move_50_s (a0 : Int32) (a1 : Int32) (a2 : Int32) (n : Nat) (k_9 : Int32) (st_10 : Nat → Int32) : L_X3_move_50 a0 a1 a2 (n + 1) k_9 st_10 =
    (gd (ib ((0 : Int32) + a0) 54) (
    if (st_10 ((0 : Int32) + a0).toNatClampNeg) ≤ k_9 then
      some (k_9, st_10)
    else
      bd1 (P_X3_place a0 k_9) (fun r_14 =>
      gd (ib ((6 : Int32) + r_14) 54) (
      gd (ib ((6 : Int32) + r_14) 54) (
      bd1 (P_X3_place a0 k_9) (fun r_15 =>
      gd (ib ((30 : Int32) + r_15) 54) (
      gd (ib ((30 : Int32) + r_15) 54) (
      L_X3_move_50 a0 a1 a2 n (k_9 + (1 : Int32)) (upd (upd st_10 ((6 : Int32) + r_14).toNatClampNeg ((st_10 ((6 : Int32) + r_14).toNatClampNeg) + a1)) ((30 : Int32) + r_15).toNatClampNeg (((upd st_10 ((6 : Int32) + r_14).toNatClampNeg ((st_10 ((6 : Int32) + r_14).toNatClampNeg) + a1)) ((30 : Int32) + r_15).toNatClampNeg) + a2)))))))))) := rfl

def P_X3_move (a0 : Int32) (a1 : Int32) (a2 : Int32) (st : Nat → Int32) : Option (Int32 × (Nat → Int32)) :=
  bd1 (P_X3_isLayer a0) (fun r_1 =>
  if r_1 = (0 : Int32) then
    some ((-1 : Int32), st)
  else
    bd1 (P_X3_in a1 (-12 : Int32) (12 : Int32)) (fun r_3 =>
    if r_3 = (0 : Int32) then
      some ((-2 : Int32), st)
    else
      bd1 (P_X3_in a2 (-12 : Int32) (12 : Int32)) (fun r_5 =>
      if r_5 = (0 : Int32) then
        some ((-2 : Int32), st)
      else
        bd1 (P_X3_canMove a0 a1 a2 st) (fun r_7 =>
        if r_7 = (0 : Int32) then
          some ((-5 : Int32), st)
        else
          bd2 (L_X3_move_50 a0 a1 a2 1000 (0 : Int32) st) (fun o_11 o_12 =>
          gd (ib ((0 : Int32) + a0) 54) (
          some ((o_12 ((0 : Int32) + a0).toNatClampNeg), o_12)))))))

def rm_X3_move : Room := { frames := 3, cells := 0, slots := 0, locals := 68 }

set_option maxHeartbeats 4000000 in
set_option maxRecDepth 100000 in
theorem c_X3_move (l : Launch) (dC : Nat → ClassId) (dI : Nat → Nat → Nat) (h0 ast aim akp awx awy apx apy alx aly : Nat) (cI cZ cJ : ClassId) (hsz0 : Nat) (st : Nat → Int32) (im : Nat → Int32) (kp : Nat → Int32) (wx : Nat → Int32) (wy : Nat → Int32) (px : Nat → Int64) (py : Nat → Int64) (co : Int32) (lx : Nat → Int64) (ly : Nat → Int64) (lf : Int32) (a0 : Int32) (a1 : Int32) (a2 : Int32) (r0 : Int32) (stN : Nat → Int32) (hF : P_X3_move a0 a1 a2 st = some (r0, stN)) : Met l yX3_move wsX3_move rm_X3_move (va_Pc [.ref h0, .int a0, .int a1, .int a2] (fun U => U.heap.size = hsz0 ∧ va_P (dC, dI) vwCl [(h0, .inr (3, [.ref ast, .ref aim, .ref akp, .ref awx, .ref awy, .ref apx, .ref apy, .int co, .ref alx, .ref aly, .int lf])), (ast, .inl (cI, 54, .inl st)), (aim, .inl (cI, 108, .inl im)), (akp, .inl (cZ, 2, .inl kp)), (awx, .inl (cI, 8, .inl wx)), (awy, .inl (cI, 8, .inl wy)), (apx, .inl (cJ, 300, .inr (.inl px))), (apy, .inl (cJ, 300, .inr (.inl py))), (alx, .inl (cJ, 300, .inr (.inl lx))), (aly, .inl (cJ, 300, .inr (.inl ly)))] U.heap ∧ va_K (dC, dI) vwCl [(cI, .int), (cZ, .boolean), (cJ, .long)] U ∧ va_D (fun _ => True) [(h0, .inr (3, [.ref ast, .ref aim, .ref akp, .ref awx, .ref awy, .ref apx, .ref apy, .int co, .ref alx, .ref aly, .int lf])), (ast, .inl (cI, 54, .inl st)), (aim, .inl (cI, 108, .inl im)), (akp, .inl (cZ, 2, .inl kp)), (awx, .inl (cI, 8, .inl wx)), (awy, .inl (cI, 8, .inl wy)), (apx, .inl (cJ, 300, .inr (.inl px))), (apy, .inl (cJ, 300, .inr (.inl py))), (alx, .inl (cJ, 300, .inr (.inl lx))), (aly, .inl (cJ, 300, .inr (.inl ly)))])) (va_Qi (fun (r : Int32) (_ : Unit) => r = r0) (fun _ t => va_P (dC, dI) vwCl [(h0, .inr (3, [.ref ast, .ref aim, .ref akp, .ref awx, .ref awy, .ref apx, .ref apy, .int co, .ref alx, .ref aly, .int lf])), (ast, .inl (cI, 54, .inl stN)), (aim, .inl (cI, 108, .inl im)), (akp, .inl (cZ, 2, .inl kp)), (awx, .inl (cI, 8, .inl wx)), (awy, .inl (cI, 8, .inl wy)), (apx, .inl (cJ, 300, .inr (.inl px))), (apy, .inl (cJ, 300, .inr (.inl py))), (alx, .inl (cJ, 300, .inr (.inl lx))), (aly, .inl (cJ, 300, .inr (.inl ly)))] t.heap ∧ va_K (dC, dI) vwCl [(cI, .int), (cZ, .boolean), (cJ, .long)] t ∧ va_D (va_A [(h0, .inr (3, [.ref ast, .ref aim, .ref akp, .ref awx, .ref awy, .ref apx, .ref apy, .int co, .ref alx, .ref aly, .int lf])), (ast, .inl (cI, 54, .inl st)), (aim, .inl (cI, 108, .inl im)), (akp, .inl (cZ, 2, .inl kp)), (awx, .inl (cI, 8, .inl wx)), (awy, .inl (cI, 8, .inl wy)), (apx, .inl (cJ, 300, .inr (.inl px))), (apy, .inl (cJ, 300, .inr (.inl py))), (alx, .inl (cJ, 300, .inr (.inl lx))), (aly, .inl (cJ, 300, .inr (.inl ly)))] hsz0) [(h0, .inr (3, [.ref ast, .ref aim, .ref akp, .ref awx, .ref awy, .ref apx, .ref apy, .int co, .ref alx, .ref aly, .int lf])), (ast, .inl (cI, 54, .inl stN)), (aim, .inl (cI, 108, .inl im)), (akp, .inl (cZ, 2, .inl kp)), (awx, .inl (cI, 8, .inl wx)), (awy, .inl (cI, 8, .inl wy)), (apx, .inl (cJ, 300, .inr (.inl px))), (apy, .inl (cJ, 300, .inr (.inl py))), (alx, .inl (cJ, 300, .inr (.inl lx))), (aly, .inl (cJ, 300, .inr (.inl ly)))]) (va_A [(h0, .inr (3, [.ref ast, .ref aim, .ref akp, .ref awx, .ref awy, .ref apx, .ref apy, .int co, .ref alx, .ref aly, .int lf])), (ast, .inl (cI, 54, .inl st)), (aim, .inl (cI, 108, .inl im)), (akp, .inl (cZ, 2, .inl kp)), (awx, .inl (cI, 8, .inl wx)), (awy, .inl (cI, 8, .inl wy)), (apx, .inl (cJ, 300, .inr (.inl px))), (apy, .inl (cJ, 300, .inr (.inl py))), (alx, .inl (cJ, 300, .inr (.inl lx))), (aly, .inl (cJ, 300, .inr (.inl ly)))] hsz0)) 0 0 (va_A [(h0, .inr (3, [.ref ast, .ref aim, .ref akp, .ref awx, .ref awy, .ref apx, .ref apy, .int co, .ref alx, .ref aly, .int lf])), (ast, .inl (cI, 54, .inl st)), (aim, .inl (cI, 108, .inl im)), (akp, .inl (cZ, 2, .inl kp)), (awx, .inl (cI, 8, .inl wx)), (awy, .inl (cI, 8, .inl wy)), (apx, .inl (cJ, 300, .inr (.inl px))), (apy, .inl (cJ, 300, .inr (.inl py))), (alx, .inl (cJ, 300, .inr (.inl lx))), (aly, .inl (cJ, 300, .inr (.inl ly)))] hsz0) := by
  refine Met.ofW (cc := cX3_move) (maxL := 5) (ret := (some .int)) (by decide) rfl ?_
  intro p e s m args below meth c s₁ B hml hv
  change W p l e rm_X3_move s m args below meth c s.heap [] 0 0 _ _
  obtain ⟨hv, hsz, hP, hK, hD0⟩ := hv
  have hx := B.exec
  have hb := B.bytes
  have hr := B.returns
  have hts := atoms_spec (ws := wsX3_move) B.pre
  have hown : s.vm.findClass RX3 = some m.cls := findClass_of_methodNamed B.named
  have hlocks := B.notSynchronized
  subst hsz
  have hD := hD0.self (sz := s.heap.size)
  generalize hAe : va_A [(h0, .inr (3, [.ref ast, .ref aim, .ref akp, .ref awx, .ref awy, .ref apx, .ref apy, .int co, .ref alx, .ref aly, .int lf])), (ast, .inl (cI, 54, .inl st)), (aim, .inl (cI, 108, .inl im)), (akp, .inl (cZ, 2, .inl kp)), (awx, .inl (cI, 8, .inl wx)), (awy, .inl (cI, 8, .inl wy)), (apx, .inl (cJ, 300, .inr (.inl px))), (apy, .inl (cJ, 300, .inr (.inl py))), (alx, .inl (cJ, 300, .inr (.inl lx))), (aly, .inl (cJ, 300, .inr (.inl ly)))] s.heap.size = A at hD ⊢
  have hA : ∀ q : Nat, s.heap.size ≤ q → A q := fun q h => by rw [← hAe]; exact Or.inr h
  have hS : va_S A s.heap s.heap [] := va_S.rf
  generalize hQ : MQ below (va_Qi (fun (r : Int32) (_ : Unit) => r = r0) (fun _ t => va_P (dC, dI) vwCl [(h0, .inr (3, [.ref ast, .ref aim, .ref akp, .ref awx, .ref awy, .ref apx, .ref apy, .int co, .ref alx, .ref aly, .int lf])), (ast, .inl (cI, 54, .inl stN)), (aim, .inl (cI, 108, .inl im)), (akp, .inl (cZ, 2, .inl kp)), (awx, .inl (cI, 8, .inl wx)), (awy, .inl (cI, 8, .inl wy)), (apx, .inl (cJ, 300, .inr (.inl px))), (apy, .inl (cJ, 300, .inr (.inl py))), (alx, .inl (cJ, 300, .inr (.inl lx))), (aly, .inl (cJ, 300, .inr (.inl ly)))] t.heap ∧ va_K (dC, dI) vwCl [(cI, .int), (cZ, .boolean), (cJ, .long)] t ∧ va_D A [(h0, .inr (3, [.ref ast, .ref aim, .ref akp, .ref awx, .ref awy, .ref apx, .ref apy, .int co, .ref alx, .ref aly, .int lf])), (ast, .inl (cI, 54, .inl stN)), (aim, .inl (cI, 108, .inl im)), (akp, .inl (cZ, 2, .inl kp)), (awx, .inl (cI, 8, .inl wx)), (awy, .inl (cI, 8, .inl wy)), (apx, .inl (cJ, 300, .inr (.inl px))), (apy, .inl (cJ, 300, .inr (.inl py))), (alx, .inl (cJ, 300, .inr (.inl lx))), (aly, .inl (cJ, 300, .inr (.inl ly)))]) A) args s 0 0 A = Q
  have hl := lv_entry ([.ref h0, .int a0, .int a1, .int a2]) (n := 5) (Nat.le_of_ble_eq_true rfl)
  have hE : entryFrame m args 5 = F0 m 0 ((lg_sl ([.ref h0, .int a0, .int a1, .int a2]) ++ List.replicate (5 - (lg_sl ([.ref h0, .int a0, .int a1, .int a2])).length) Slot.unset).toArray) [] := by rw [hv]; exact lg_entry_eq m _ 5
  rw [hE]
  generalize (lg_sl ([.ref h0, .int a0, .int a1, .int a2]) ++ List.replicate (5 - (lg_sl ([.ref h0, .int a0, .int a1, .int a2])).length) Slot.unset).toArray = ls at hl ⊢
  have hl : lv_has ls 5 [(0, .ref h0), (1, .int a0), (2, .int a1), (3, .int a2)] := hl
  unfold P_X3_move at hF
  refine lv_iload_n hx hb dX3_move_0 rfl (lv_at hl 1 rfl) ?_
  obtain ⟨r_1, hr_1, hF⟩ := bd1_u hF
  refine vp_callSi (W.runS (As := [.int a0]) (rest := []) ⟨hx, hb, hml, hown, hts⟩ (c_X3_isLayer l a0 r_1 hr_1) (va_cwS 1 hts gX3_move_X3_isLayer rfl rfl rfl (by decide +kernel) ⟨Nat.le_of_ble_eq_true rfl, Nat.le_of_ble_eq_true rfl⟩) preEq rfl rfl hl.1 rfl (lv_room (Nat.le_of_ble_eq_true rfl)) dX3_move_1 ⟨Nat.le_of_ble_eq_true rfl, Nat.le_of_ble_eq_true rfl⟩) (fun r_1' qr_1 => ?_)
  obtain rfl := qr_1.symm
  refine lv_if_ne (tgt := 9) hx hb dX3_move_4 (by decide) (fun c_2 => ?_) (fun c_2 => ?_)
  · have hF := br0 hF c_2
    refine lv_iload_n hx hb dX3_move_9 rfl (lv_at hl 2 rfl) ?_
    refine lv_bipush (v := -12) hx hb dX3_move_10 (by decide) ?_
    refine lv_bipush (v := 12) hx hb dX3_move_12 (by decide) ?_
    obtain ⟨r_3, hr_3, hF⟩ := bd1_u hF
    refine vp_callSi (W.runS (As := [.int a1, .int (-12 : Int32), .int (12 : Int32)]) (rest := []) ⟨hx, hb, hml, hown, hts⟩ (c_X3_in l a1 (-12 : Int32) (12 : Int32) r_3 hr_3) (va_cwS 3 hts gX3_move_X3_in rfl rfl rfl (by decide +kernel) ⟨Nat.le_of_ble_eq_true rfl, Nat.le_of_ble_eq_true rfl⟩) preEq rfl rfl hl.1 rfl (lv_room (Nat.le_of_ble_eq_true rfl)) dX3_move_14 ⟨Nat.le_of_ble_eq_true rfl, Nat.le_of_ble_eq_true rfl⟩) (fun r_3' qr_3 => ?_)
    obtain rfl := qr_3.symm
    refine lv_if_eq (tgt := 31) hx hb dX3_move_17 (by decide) (fun c_4 => ?_) (fun c_4 => ?_)
    · have hF := br1 hF c_4
      refine lv_bipush (v := -2) hx hb dX3_move_31 (by decide) ?_
      obtain ⟨e0, rfl⟩ := tp2 hF
      rw [← hQ]
      exact W.iret (v := (-2 : Int32)) hx hb hr (fun t ht hW => ⟨⟨_, (), rfl, e0, by rw [ht]; exact hP, va_K.moved hW.alike hK, hD⟩, hS.F ht⟩) hS.2.2 dX3_move_33
    · have hF := br0 hF c_4
      refine lv_iload_n hx hb dX3_move_20 rfl (lv_at hl 3 rfl) ?_
      refine lv_bipush (v := -12) hx hb dX3_move_21 (by decide) ?_
      refine lv_bipush (v := 12) hx hb dX3_move_23 (by decide) ?_
      obtain ⟨r_5, hr_5, hF⟩ := bd1_u hF
      refine vp_callSi (W.runS (As := [.int a2, .int (-12 : Int32), .int (12 : Int32)]) (rest := []) ⟨hx, hb, hml, hown, hts⟩ (c_X3_in l a2 (-12 : Int32) (12 : Int32) r_5 hr_5) (va_cwS 3 hts gX3_move_X3_in rfl rfl rfl (by decide +kernel) ⟨Nat.le_of_ble_eq_true rfl, Nat.le_of_ble_eq_true rfl⟩) preEq rfl rfl hl.1 rfl (lv_room (Nat.le_of_ble_eq_true rfl)) dX3_move_25 ⟨Nat.le_of_ble_eq_true rfl, Nat.le_of_ble_eq_true rfl⟩) (fun r_5' qr_5 => ?_)
      obtain rfl := qr_5.symm
      refine lv_if_ne (tgt := 34) hx hb dX3_move_28 (by decide) (fun c_6 => ?_) (fun c_6 => ?_)
      · have hF := br0 hF c_6
        refine lv_aload_n hx hb dX3_move_34 rfl (lv_at hl 0 rfl) ?_
        refine lv_iload_n hx hb dX3_move_35 rfl (lv_at hl 1 rfl) ?_
        refine lv_iload_n hx hb dX3_move_36 rfl (lv_at hl 2 rfl) ?_
        refine lv_iload_n hx hb dX3_move_37 rfl (lv_at hl 3 rfl) ?_
        obtain ⟨r_7, hr_7, hF⟩ := bd1_u hF
        have hPc := hP.sub (ws' := [(h0, .inr (3, [.ref ast, .ref aim, .ref akp, .ref awx, .ref awy, .ref apx, .ref apy, .int co, .ref alx, .ref aly, .int lf])), (ast, .inl (cI, 54, .inl st)), (aim, .inl (cI, 108, .inl im)), (akp, .inl (cZ, 2, .inl kp)), (awx, .inl (cI, 8, .inl wx)), (awy, .inl (cI, 8, .inl wy)), (apx, .inl (cJ, 300, .inr (.inl px))), (apy, .inl (cJ, 300, .inr (.inl py))), (alx, .inl (cJ, 300, .inr (.inl lx))), (aly, .inl (cJ, 300, .inr (.inl ly)))]) [0, 1, 2, 3, 4, 5, 6, 7, 8, 9] rfl
        have hKc := hK.sub (tys' := [(cI, .int), (cZ, .boolean), (cJ, .long)]) [0, 1, 2] rfl
        refine vp_callSi (W.runV (As := [.int a0, .int a1, .int a2]) (rest := []) ⟨hx, hb, hml, hown, hts⟩ (c_X3_canMove l dC dI h0 ast aim akp awx awy apx apy alx aly cI cZ cJ st im kp wx wy px py co lx ly lf a0 a1 a2 r_7 hr_7) (cwV 3 hts gX3_move_X3_canMove rfl rfl rfl (by decide +kernel) ⟨Nat.le_of_ble_eq_true rfl, Nat.le_of_ble_eq_true rfl⟩) ⟨fun a U g mk q => ⟨q.1, q.2.1, va_K.moved (u := U) (U := U.calling g mk a) (Vm.Alike.refl U.vm) q.2.2⟩, va_recv hKc hPc (ci := 3) (q0 := 0) rfl rfl, fun U hU hW => ⟨rfl, by rw [hU]; exact hPc, va_K.moved hW.alike hKc⟩⟩ rfl rfl hl.1 rfl (lv_room (Nat.le_of_ble_eq_true rfl)) dX3_move_38 ⟨Nat.le_of_ble_eq_true rfl, Nat.le_of_ble_eq_true rfl⟩) (fun r_7' qr_7 => ?_)
        obtain rfl := qr_7.symm
        refine lv_if_ne (tgt := 47) hx hb dX3_move_41 (by decide) (fun c_8 => ?_) (fun c_8 => ?_)
        · have hF := br0 hF c_8
          refine lv_iconst (v := 0) hx hb dX3_move_47 (by decide) ?_
          refine lv_istore (lv' := [(4, .int (0 : Int32)), (0, .ref h0), (1, .int a0), (2, .int a1), (3, .int a2)]) hx hb dX3_move_48 hl (by decide) rfl (fun ls hl => ?_)
          obtain ⟨o_11, o_12, hL_50, hF⟩ := bd2_u hF
          have lp_50 : ∀ (n : Nat) (k_9 : Int32) (st_10 : Nat → Int32) (o_11 : Int32) (o_12 : Nat → Int32) (H : Heap) (locs : List Loc) (ls : Array Slot), L_X3_move_50 a0 a1 a2 n k_9 st_10 = some (o_11, o_12) → va_P (dC, dI) vwCl [(h0, .inr (3, [.ref ast, .ref aim, .ref akp, .ref awx, .ref awy, .ref apx, .ref apy, .int co, .ref alx, .ref aly, .int lf])), (ast, .inl (cI, 54, .inl st_10)), (aim, .inl (cI, 108, .inl im)), (akp, .inl (cZ, 2, .inl kp)), (awx, .inl (cI, 8, .inl wx)), (awy, .inl (cI, 8, .inl wy)), (apx, .inl (cJ, 300, .inr (.inl px))), (apy, .inl (cJ, 300, .inr (.inl py))), (alx, .inl (cJ, 300, .inr (.inl lx))), (aly, .inl (cJ, 300, .inr (.inl ly)))] H → va_D A [(h0, .inr (3, [.ref ast, .ref aim, .ref akp, .ref awx, .ref awy, .ref apx, .ref apy, .int co, .ref alx, .ref aly, .int lf])), (ast, .inl (cI, 54, .inl st_10)), (aim, .inl (cI, 108, .inl im)), (akp, .inl (cZ, 2, .inl kp)), (awx, .inl (cI, 8, .inl wx)), (awy, .inl (cI, 8, .inl wy)), (apx, .inl (cJ, 300, .inr (.inl px))), (apy, .inl (cJ, 300, .inr (.inl py))), (alx, .inl (cJ, 300, .inr (.inl lx))), (aly, .inl (cJ, 300, .inr (.inl ly)))] → va_S A s.heap H locs → lv_has ls 5 [(4, .int k_9), (0, .ref h0), (1, .int a0), (2, .int a1), (3, .int a2)] → (∀ (H : Heap) (locs : List Loc) (ls : Array Slot), va_P (dC, dI) vwCl [(h0, .inr (3, [.ref ast, .ref aim, .ref akp, .ref awx, .ref awy, .ref apx, .ref apy, .int co, .ref alx, .ref aly, .int lf])), (ast, .inl (cI, 54, .inl o_12)), (aim, .inl (cI, 108, .inl im)), (akp, .inl (cZ, 2, .inl kp)), (awx, .inl (cI, 8, .inl wx)), (awy, .inl (cI, 8, .inl wy)), (apx, .inl (cJ, 300, .inr (.inl px))), (apy, .inl (cJ, 300, .inr (.inl py))), (alx, .inl (cJ, 300, .inr (.inl lx))), (aly, .inl (cJ, 300, .inr (.inl ly)))] H → va_D A [(h0, .inr (3, [.ref ast, .ref aim, .ref akp, .ref awx, .ref awy, .ref apx, .ref apy, .int co, .ref alx, .ref aly, .int lf])), (ast, .inl (cI, 54, .inl o_12)), (aim, .inl (cI, 108, .inl im)), (akp, .inl (cZ, 2, .inl kp)), (awx, .inl (cI, 8, .inl wx)), (awy, .inl (cI, 8, .inl wy)), (apx, .inl (cJ, 300, .inr (.inl px))), (apy, .inl (cJ, 300, .inr (.inl py))), (alx, .inl (cJ, 300, .inr (.inl lx))), (aly, .inl (cJ, 300, .inr (.inl ly)))] → va_S A s.heap H locs → lv_has ls 5 [(4, .int o_11), (0, .ref h0), (1, .int a0), (2, .int a1), (3, .int a2)] → W p l e rm_X3_move s m args below meth c H locs 0 0 Q (F0 m 105 ls [])) → W p l e rm_X3_move s m args below meth c H locs 0 0 Q (F0 m 50 ls []) := by
            intro n
            induction n with
            | zero =>
              intro k_9 st_10 o_11 o_12 H locs ls hF
              exact nn ((rfl : L_X3_move_50 a0 a1 a2 0 k_9 st_10 = none).symm.trans hF)
            | succ n ih_50 =>
              intro k_9 st_10 o_11 o_12 H locs ls hF hP hD hS hl kx_50
              have hF := (L_X3_move_50_s a0 a1 a2 n k_9 st_10).symm.trans hF
              refine lv_iload hx hb dX3_move_50 (lv_at hl 0 rfl) ?_
              refine lv_aload_n hx hb dX3_move_52 rfl (lv_at hl 1 rfl) ?_
              refine va_get (D := (dC, dI)) (ci := 3) (v := .ref ast) (C := RX3) (T := TX3) (N := 11) hx hb hts (by decide +kernel) hown hK hP 0 rfl rfl 0 (by decide) (hts (.fieldLink RX3 7 "DotCoverModel" "state" "[I") (by decide +kernel)) (fun _ h9 => h9) rfl dX3_move_53 ?_
              refine lv_iconst (v := 0) hx hb dX3_move_56 (by decide) ?_
              refine lv_iload_n hx hb dX3_move_57 rfl (lv_at hl 2 rfl) ?_
              refine lv_iadd hx hb dX3_move_58 ?_
              obtain ⟨hi_59, hF⟩ := gd_u hF
              refine va_iald hx hb hK hP 1 0 rfl rfl (in_u hi_59) dX3_move_59 ?_
              refine lv_icmp_ge (tgt := 105) hx hb dX3_move_60 (by decide) (fun c_13 => ?_) (fun c_13 => ?_)
              · have hF := br1 hF c_13
                obtain ⟨rfl, rfl⟩ := tp2 hF
                exact kx_50 _ _ ls hP hD hS hl
              · have hF := br0 hF c_13
                refine lv_aload_n hx hb dX3_move_63 rfl (lv_at hl 1 rfl) ?_
                refine va_get (D := (dC, dI)) (ci := 3) (v := .ref ast) (C := RX3) (T := TX3) (N := 11) hx hb hts (by decide +kernel) hown hK hP 0 rfl rfl 0 (by decide) (hts (.fieldLink RX3 7 "DotCoverModel" "state" "[I") (by decide +kernel)) (fun _ h9 => h9) rfl dX3_move_64 ?_
                refine lv_bipush (v := 6) hx hb dX3_move_67 (by decide) ?_
                refine lv_iload_n hx hb dX3_move_69 rfl (lv_at hl 2 rfl) ?_
                refine lv_iload hx hb dX3_move_70 (lv_at hl 0 rfl) ?_
                obtain ⟨r_14, hr_14, hF⟩ := bd1_u hF
                refine vp_callSi (W.runS (As := [.int a0, .int k_9]) (rest := [.int (6 : Int32), .ref ast]) ⟨hx, hb, hml, hown, hts⟩ (c_X3_place l a0 k_9 r_14 hr_14) (va_cwS 2 hts gX3_move_X3_place rfl rfl rfl (by decide +kernel) ⟨Nat.le_of_ble_eq_true rfl, Nat.le_of_ble_eq_true rfl⟩) preEq rfl rfl hl.1 rfl (lv_room (Nat.le_of_ble_eq_true rfl)) dX3_move_72 ⟨Nat.le_of_ble_eq_true rfl, Nat.le_of_ble_eq_true rfl⟩) (fun r_14' qr_14 => ?_)
                obtain rfl := qr_14.symm
                refine lv_iadd hx hb dX3_move_75 ?_
                refine lv_dup2_11 hx hb dX3_move_76 rfl rfl ?_
                obtain ⟨hi_77, hF⟩ := gd_u hF
                refine va_iald hx hb hK hP 1 0 rfl rfl (in_u hi_77) dX3_move_77 ?_
                refine lv_iload_n hx hb dX3_move_78 rfl (lv_at hl 3 rfl) ?_
                refine lv_iadd hx hb dX3_move_79 ?_
                obtain ⟨hi_80, hF⟩ := gd_u hF
                refine va_iast hx hb hK hP hD hS 1 0 rfl rfl (in_u hi_80) dX3_move_80 (fun H locs hP hD hS => ?_)
                have hP : va_P (dC, dI) vwCl [(h0, .inr (3, [.ref ast, .ref aim, .ref akp, .ref awx, .ref awy, .ref apx, .ref apy, .int co, .ref alx, .ref aly, .int lf])), (ast, .inl (cI, 54, .inl (upd st_10 ((6 : Int32) + r_14).toNatClampNeg ((st_10 ((6 : Int32) + r_14).toNatClampNeg) + a1)))), (aim, .inl (cI, 108, .inl im)), (akp, .inl (cZ, 2, .inl kp)), (awx, .inl (cI, 8, .inl wx)), (awy, .inl (cI, 8, .inl wy)), (apx, .inl (cJ, 300, .inr (.inl px))), (apy, .inl (cJ, 300, .inr (.inl py))), (alx, .inl (cJ, 300, .inr (.inl lx))), (aly, .inl (cJ, 300, .inr (.inl ly)))] H := hP
                have hD : va_D A [(h0, .inr (3, [.ref ast, .ref aim, .ref akp, .ref awx, .ref awy, .ref apx, .ref apy, .int co, .ref alx, .ref aly, .int lf])), (ast, .inl (cI, 54, .inl (upd st_10 ((6 : Int32) + r_14).toNatClampNeg ((st_10 ((6 : Int32) + r_14).toNatClampNeg) + a1)))), (aim, .inl (cI, 108, .inl im)), (akp, .inl (cZ, 2, .inl kp)), (awx, .inl (cI, 8, .inl wx)), (awy, .inl (cI, 8, .inl wy)), (apx, .inl (cJ, 300, .inr (.inl px))), (apy, .inl (cJ, 300, .inr (.inl py))), (alx, .inl (cJ, 300, .inr (.inl lx))), (aly, .inl (cJ, 300, .inr (.inl ly)))] := hD
                refine lv_aload_n hx hb dX3_move_81 rfl (lv_at hl 1 rfl) ?_
                refine va_get (D := (dC, dI)) (ci := 3) (v := .ref ast) (C := RX3) (T := TX3) (N := 11) hx hb hts (by decide +kernel) hown hK hP 0 rfl rfl 0 (by decide) (hts (.fieldLink RX3 7 "DotCoverModel" "state" "[I") (by decide +kernel)) (fun _ h9 => h9) rfl dX3_move_82 ?_
                refine lv_bipush (v := 30) hx hb dX3_move_85 (by decide) ?_
                refine lv_iload_n hx hb dX3_move_87 rfl (lv_at hl 2 rfl) ?_
                refine lv_iload hx hb dX3_move_88 (lv_at hl 0 rfl) ?_
                obtain ⟨r_15, hr_15, hF⟩ := bd1_u hF
                refine vp_callSi (W.runS (As := [.int a0, .int k_9]) (rest := [.int (30 : Int32), .ref ast]) ⟨hx, hb, hml, hown, hts⟩ (c_X3_place l a0 k_9 r_15 hr_15) (va_cwS 2 hts gX3_move_X3_place rfl rfl rfl (by decide +kernel) ⟨Nat.le_of_ble_eq_true rfl, Nat.le_of_ble_eq_true rfl⟩) preEq rfl rfl hl.1 rfl (lv_room (Nat.le_of_ble_eq_true rfl)) dX3_move_90 ⟨Nat.le_of_ble_eq_true rfl, Nat.le_of_ble_eq_true rfl⟩) (fun r_15' qr_15 => ?_)
                obtain rfl := qr_15.symm
                refine lv_iadd hx hb dX3_move_93 ?_
                refine lv_dup2_11 hx hb dX3_move_94 rfl rfl ?_
                obtain ⟨hi_95, hF⟩ := gd_u hF
                refine va_iald hx hb hK hP 1 0 rfl rfl (in_u hi_95) dX3_move_95 ?_
                refine lv_iload_n hx hb dX3_move_96 rfl (lv_at hl 4 rfl) ?_
                refine lv_iadd hx hb dX3_move_97 ?_
                obtain ⟨hi_98, hF⟩ := gd_u hF
                refine va_iast hx hb hK hP hD hS 1 0 rfl rfl (in_u hi_98) dX3_move_98 (fun H locs hP hD hS => ?_)
                have hP : va_P (dC, dI) vwCl [(h0, .inr (3, [.ref ast, .ref aim, .ref akp, .ref awx, .ref awy, .ref apx, .ref apy, .int co, .ref alx, .ref aly, .int lf])), (ast, .inl (cI, 54, .inl (upd (upd st_10 ((6 : Int32) + r_14).toNatClampNeg ((st_10 ((6 : Int32) + r_14).toNatClampNeg) + a1)) ((30 : Int32) + r_15).toNatClampNeg (((upd st_10 ((6 : Int32) + r_14).toNatClampNeg ((st_10 ((6 : Int32) + r_14).toNatClampNeg) + a1)) ((30 : Int32) + r_15).toNatClampNeg) + a2)))), (aim, .inl (cI, 108, .inl im)), (akp, .inl (cZ, 2, .inl kp)), (awx, .inl (cI, 8, .inl wx)), (awy, .inl (cI, 8, .inl wy)), (apx, .inl (cJ, 300, .inr (.inl px))), (apy, .inl (cJ, 300, .inr (.inl py))), (alx, .inl (cJ, 300, .inr (.inl lx))), (aly, .inl (cJ, 300, .inr (.inl ly)))] H := hP
                have hD : va_D A [(h0, .inr (3, [.ref ast, .ref aim, .ref akp, .ref awx, .ref awy, .ref apx, .ref apy, .int co, .ref alx, .ref aly, .int lf])), (ast, .inl (cI, 54, .inl (upd (upd st_10 ((6 : Int32) + r_14).toNatClampNeg ((st_10 ((6 : Int32) + r_14).toNatClampNeg) + a1)) ((30 : Int32) + r_15).toNatClampNeg (((upd st_10 ((6 : Int32) + r_14).toNatClampNeg ((st_10 ((6 : Int32) + r_14).toNatClampNeg) + a1)) ((30 : Int32) + r_15).toNatClampNeg) + a2)))), (aim, .inl (cI, 108, .inl im)), (akp, .inl (cZ, 2, .inl kp)), (awx, .inl (cI, 8, .inl wx)), (awy, .inl (cI, 8, .inl wy)), (apx, .inl (cJ, 300, .inr (.inl px))), (apy, .inl (cJ, 300, .inr (.inl py))), (alx, .inl (cJ, 300, .inr (.inl lx))), (aly, .inl (cJ, 300, .inr (.inl ly)))] := hD
                refine lv_iinc (v := (k_9 + (1 : Int32))) (lv' := [(4, .int (k_9 + (1 : Int32))), (0, .ref h0), (1, .int a0), (2, .int a1), (3, .int a2)]) hx hb dX3_move_99 hl (k := 0) rfl rfl (by decide) rfl (fun ls hl => ?_)
                refine lv_goto (tgt := 50) hx hb dX3_move_102 (by decide) ?_
                exact ih_50 _ _ _ _ _ _ ls hF hP hD hS hl kx_50
          refine lp_50 1000 (0 : Int32) st o_11 o_12 _ _ ls hL_50 hP hD hS hl (fun H locs ls hP hD hS hl => ?_)
          refine lv_aload_n hx hb dX3_move_105 rfl (lv_at hl 1 rfl) ?_
          refine va_get (D := (dC, dI)) (ci := 3) (v := .ref ast) (C := RX3) (T := TX3) (N := 11) hx hb hts (by decide +kernel) hown hK hP 0 rfl rfl 0 (by decide) (hts (.fieldLink RX3 7 "DotCoverModel" "state" "[I") (by decide +kernel)) (fun _ h9 => h9) rfl dX3_move_106 ?_
          refine lv_iconst (v := 0) hx hb dX3_move_109 (by decide) ?_
          refine lv_iload_n hx hb dX3_move_110 rfl (lv_at hl 2 rfl) ?_
          refine lv_iadd hx hb dX3_move_111 ?_
          obtain ⟨hi_112, hF⟩ := gd_u hF
          refine va_iald hx hb hK hP 1 0 rfl rfl (in_u hi_112) dX3_move_112 ?_
          obtain ⟨e0, rfl⟩ := tp2 hF
          rw [← hQ]
          exact W.iret (v := (o_12 ((0 : Int32) + a0).toNatClampNeg)) hx hb hr (fun t ht hW => ⟨⟨_, (), rfl, e0, by rw [ht]; exact hP, va_K.moved hW.alike hK, hD⟩, hS.F ht⟩) hS.2.2 dX3_move_113
        · have hF := br1 hF c_8
          refine lv_bipush (v := -5) hx hb dX3_move_44 (by decide) ?_
          obtain ⟨e0, rfl⟩ := tp2 hF
          rw [← hQ]
          exact W.iret (v := (-5 : Int32)) hx hb hr (fun t ht hW => ⟨⟨_, (), rfl, e0, by rw [ht]; exact hP, va_K.moved hW.alike hK, hD⟩, hS.F ht⟩) hS.2.2 dX3_move_46
      · have hF := br1 hF c_6
        refine lv_bipush (v := -2) hx hb dX3_move_31 (by decide) ?_
        obtain ⟨e0, rfl⟩ := tp2 hF
        rw [← hQ]
        exact W.iret (v := (-2 : Int32)) hx hb hr (fun t ht hW => ⟨⟨_, (), rfl, e0, by rw [ht]; exact hP, va_K.moved hW.alike hK, hD⟩, hS.F ht⟩) hS.2.2 dX3_move_33
  · have hF := br1 hF c_2
    refine lv_iconst (v := -1) hx hb dX3_move_7 (by decide) ?_
    obtain ⟨e0, rfl⟩ := tp2 hF
    rw [← hQ]
    exact W.iret (v := (-1 : Int32)) hx hb hr (fun t ht hW => ⟨⟨_, (), rfl, e0, by rw [ht]; exact hP, va_K.moved hW.alike hK, hD⟩, hS.F ht⟩) hS.2.2 dX3_move_8

