def L_X3_cutSide_8 (px : Nat → Int64) (py : Nat → Int64) (co : Int32) (a0 : Int32) (a1 : Int64) : Nat → Int32 → (Nat → Int64) → (Nat → Int64) → Int32 → Option (Int32 × (Nat → Int64) × (Nat → Int64) × Int32)
  | 0, _, _, _, _ => none
  | n + 1, k_1, lx_2, ly_3, lf_4 =>
    if co ≤ k_1 then
      some (k_1, lx_2, ly_3, lf_4)
    else
      gd (nz co) (
      nm ((k_1 + (1 : Int32)) - (k_1 + (1 : Int32)) / co * co) (fun v_10 =>
      bd1 (P_X3_within k_1 a0 a1 px py) (fun r_11 =>
      bd1 (P_X3_within v_10 a0 a1 px py) (fun r_12 =>
      if r_11 < (0 : Int64) then
        if (0 : Int64) ≤ r_11 then
          if r_11 ≤ (0 : Int64) then
            L_X3_cutSide_8 px py co a0 a1 n (k_1 + (1 : Int32)) lx_2 ly_3 lf_4
          else
            if (0 : Int64) ≤ r_12 then
              L_X3_cutSide_8 px py co a0 a1 n (k_1 + (1 : Int32)) lx_2 ly_3 lf_4
            else
              bd3 (P_X3_leaveCrossing k_1 v_10 a0 a1 px py lx_2 ly_3 lf_4) (fun lx_17 ly_18 lf_19 =>
              L_X3_cutSide_8 px py co a0 a1 n (k_1 + (1 : Int32)) lx_17 ly_18 lf_19)
        else
          if (0 : Int64) < r_12 then
            bd3 (P_X3_leaveCrossing k_1 v_10 a0 a1 px py lx_2 ly_3 lf_4) (fun lx_21 ly_22 lf_23 =>
            L_X3_cutSide_8 px py co a0 a1 n (k_1 + (1 : Int32)) lx_21 ly_22 lf_23)
          else
            if r_11 ≤ (0 : Int64) then
              L_X3_cutSide_8 px py co a0 a1 n (k_1 + (1 : Int32)) lx_2 ly_3 lf_4
            else
              if (0 : Int64) ≤ r_12 then
                L_X3_cutSide_8 px py co a0 a1 n (k_1 + (1 : Int32)) lx_2 ly_3 lf_4
              else
                bd3 (P_X3_leaveCrossing k_1 v_10 a0 a1 px py lx_2 ly_3 lf_4) (fun lx_26 ly_27 lf_28 =>
                L_X3_cutSide_8 px py co a0 a1 n (k_1 + (1 : Int32)) lx_26 ly_27 lf_28)
      else
        gd (ib k_1 300) (
        gd (ib k_1 300) (
        bd3 (P_X3_leave (px k_1.toNatClampNeg) (py k_1.toNatClampNeg) lx_2 ly_3 lf_4) (fun lx_29 ly_30 lf_31 =>
        if (0 : Int64) ≤ r_11 then
          if r_11 ≤ (0 : Int64) then
            L_X3_cutSide_8 px py co a0 a1 n (k_1 + (1 : Int32)) lx_29 ly_30 lf_31
          else
            if (0 : Int64) ≤ r_12 then
              L_X3_cutSide_8 px py co a0 a1 n (k_1 + (1 : Int32)) lx_29 ly_30 lf_31
            else
              bd3 (P_X3_leaveCrossing k_1 v_10 a0 a1 px py lx_29 ly_30 lf_31) (fun lx_35 ly_36 lf_37 =>
              L_X3_cutSide_8 px py co a0 a1 n (k_1 + (1 : Int32)) lx_35 ly_36 lf_37)
        else
          if (0 : Int64) < r_12 then
            bd3 (P_X3_leaveCrossing k_1 v_10 a0 a1 px py lx_29 ly_30 lf_31) (fun lx_39 ly_40 lf_41 =>
            L_X3_cutSide_8 px py co a0 a1 n (k_1 + (1 : Int32)) lx_39 ly_40 lf_41)
          else
            if r_11 ≤ (0 : Int64) then
              L_X3_cutSide_8 px py co a0 a1 n (k_1 + (1 : Int32)) lx_29 ly_30 lf_31
            else
              if (0 : Int64) ≤ r_12 then
                L_X3_cutSide_8 px py co a0 a1 n (k_1 + (1 : Int32)) lx_29 ly_30 lf_31
              else
                bd3 (P_X3_leaveCrossing k_1 v_10 a0 a1 px py lx_29 ly_30 lf_31) (fun lx_44 ly_45 lf_46 =>
                L_X3_cutSide_8 px py co a0 a1 n (k_1 + (1 : Int32)) lx_44 ly_45 lf_46))))))))
theorem L_X3_cutSide_8_s (px : Nat → Int64) (py : Nat → Int64) (co : Int32) (a0 : Int32) (a1 : Int64) (n : Nat) (k_1 : Int32) (lx_2 : Nat → Int64) (ly_3 : Nat → Int64) (lf_4 : Int32) : L_X3_cutSide_8 px py co a0 a1 (n + 1) k_1 lx_2 ly_3 lf_4 =
    (if co ≤ k_1 then
      some (k_1, lx_2, ly_3, lf_4)
    else
      gd (nz co) (
      nm ((k_1 + (1 : Int32)) - (k_1 + (1 : Int32)) / co * co) (fun v_10 =>
      bd1 (P_X3_within k_1 a0 a1 px py) (fun r_11 =>
      bd1 (P_X3_within v_10 a0 a1 px py) (fun r_12 =>
      if r_11 < (0 : Int64) then
        if (0 : Int64) ≤ r_11 then
          if r_11 ≤ (0 : Int64) then
            L_X3_cutSide_8 px py co a0 a1 n (k_1 + (1 : Int32)) lx_2 ly_3 lf_4
          else
            if (0 : Int64) ≤ r_12 then
              L_X3_cutSide_8 px py co a0 a1 n (k_1 + (1 : Int32)) lx_2 ly_3 lf_4
            else
              bd3 (P_X3_leaveCrossing k_1 v_10 a0 a1 px py lx_2 ly_3 lf_4) (fun lx_17 ly_18 lf_19 =>
              L_X3_cutSide_8 px py co a0 a1 n (k_1 + (1 : Int32)) lx_17 ly_18 lf_19)
        else
          if (0 : Int64) < r_12 then
            bd3 (P_X3_leaveCrossing k_1 v_10 a0 a1 px py lx_2 ly_3 lf_4) (fun lx_21 ly_22 lf_23 =>
            L_X3_cutSide_8 px py co a0 a1 n (k_1 + (1 : Int32)) lx_21 ly_22 lf_23)
          else
            if r_11 ≤ (0 : Int64) then
              L_X3_cutSide_8 px py co a0 a1 n (k_1 + (1 : Int32)) lx_2 ly_3 lf_4
            else
              if (0 : Int64) ≤ r_12 then
                L_X3_cutSide_8 px py co a0 a1 n (k_1 + (1 : Int32)) lx_2 ly_3 lf_4
              else
                bd3 (P_X3_leaveCrossing k_1 v_10 a0 a1 px py lx_2 ly_3 lf_4) (fun lx_26 ly_27 lf_28 =>
                L_X3_cutSide_8 px py co a0 a1 n (k_1 + (1 : Int32)) lx_26 ly_27 lf_28)
      else
        gd (ib k_1 300) (
        gd (ib k_1 300) (
        bd3 (P_X3_leave (px k_1.toNatClampNeg) (py k_1.toNatClampNeg) lx_2 ly_3 lf_4) (fun lx_29 ly_30 lf_31 =>
        if (0 : Int64) ≤ r_11 then
          if r_11 ≤ (0 : Int64) then
            L_X3_cutSide_8 px py co a0 a1 n (k_1 + (1 : Int32)) lx_29 ly_30 lf_31
          else
            if (0 : Int64) ≤ r_12 then
              L_X3_cutSide_8 px py co a0 a1 n (k_1 + (1 : Int32)) lx_29 ly_30 lf_31
            else
              bd3 (P_X3_leaveCrossing k_1 v_10 a0 a1 px py lx_29 ly_30 lf_31) (fun lx_35 ly_36 lf_37 =>
              L_X3_cutSide_8 px py co a0 a1 n (k_1 + (1 : Int32)) lx_35 ly_36 lf_37)
        else
          if (0 : Int64) < r_12 then
            bd3 (P_X3_leaveCrossing k_1 v_10 a0 a1 px py lx_29 ly_30 lf_31) (fun lx_39 ly_40 lf_41 =>
            L_X3_cutSide_8 px py co a0 a1 n (k_1 + (1 : Int32)) lx_39 ly_40 lf_41)
          else
            if r_11 ≤ (0 : Int64) then
              L_X3_cutSide_8 px py co a0 a1 n (k_1 + (1 : Int32)) lx_29 ly_30 lf_31
            else
              if (0 : Int64) ≤ r_12 then
                L_X3_cutSide_8 px py co a0 a1 n (k_1 + (1 : Int32)) lx_29 ly_30 lf_31
              else
                bd3 (P_X3_leaveCrossing k_1 v_10 a0 a1 px py lx_29 ly_30 lf_31) (fun lx_44 ly_45 lf_46 =>
                L_X3_cutSide_8 px py co a0 a1 n (k_1 + (1 : Int32)) lx_44 ly_45 lf_46))))))))) := rfl

def L_X3_cutSide_120 (o_6 : Nat → Int64) (o_7 : Nat → Int64) (o_8 : Int32) : Nat → Int32 → (Nat → Int64) → (Nat → Int64) → Option (Int32 × (Nat → Int64) × (Nat → Int64))
  | 0, _, _, _ => none
  | n + 1, k_47, px_48, py_49 =>
    if o_8 ≤ k_47 then
      some (k_47, px_48, py_49)
    else
      gd (ib k_47 300) (
      gd (ib k_47 300) (
      gd (ib k_47 300) (
      gd (ib k_47 300) (
      L_X3_cutSide_120 o_6 o_7 o_8 n (k_47 + (1 : Int32)) (vp_updL px_48 k_47.toNatClampNeg (o_6 k_47.toNatClampNeg)) (vp_updL py_49 k_47.toNatClampNeg (o_7 k_47.toNatClampNeg))))))
theorem L_X3_cutSide_120_s (o_6 : Nat → Int64) (o_7 : Nat → Int64) (o_8 : Int32) (n : Nat) (k_47 : Int32) (px_48 : Nat → Int64) (py_49 : Nat → Int64) : L_X3_cutSide_120 o_6 o_7 o_8 (n + 1) k_47 px_48 py_49 =
    (if o_8 ≤ k_47 then
      some (k_47, px_48, py_49)
    else
      gd (ib k_47 300) (
      gd (ib k_47 300) (
      gd (ib k_47 300) (
      gd (ib k_47 300) (
      L_X3_cutSide_120 o_6 o_7 o_8 n (k_47 + (1 : Int32)) (vp_updL px_48 k_47.toNatClampNeg (o_6 k_47.toNatClampNeg)) (vp_updL py_49 k_47.toNatClampNeg (o_7 k_47.toNatClampNeg))))))) := rfl

def P_X3_cutSide (a0 : Int32) (a1 : Int64) (px : Nat → Int64) (py : Nat → Int64) (co : Int32) (lx : Nat → Int64) (ly : Nat → Int64) : Option ((Nat → Int64) × (Nat → Int64) × Int32 × (Nat → Int64) × (Nat → Int64) × Int32) :=
  bd4 (L_X3_cutSide_8 px py co a0 a1 1000 (0 : Int32) lx ly (0 : Int32)) (fun o_5 o_6 o_7 o_8 =>
  bd3 (L_X3_cutSide_120 o_6 o_7 o_8 1000 (0 : Int32) px py) (fun o_50 o_51 o_52 =>
  some (o_51, o_52, o_8, o_6, o_7, o_8)))

def rm_X3_cutSide : Room := { frames := 2, cells := 0, slots := 0, locals := 49 }

set_option maxHeartbeats 4000000 in
set_option maxRecDepth 100000 in
theorem c_X3_cutSide (l : Launch) (dC : Nat → ClassId) (dI : Nat → Nat → Nat) (h0 ast aim akp awx awy apx apy alx aly : Nat) (cI cZ cJ : ClassId) (hsz0 : Nat) (st : Nat → Int32) (im : Nat → Int32) (kp : Nat → Int32) (wx : Nat → Int32) (wy : Nat → Int32) (px : Nat → Int64) (py : Nat → Int64) (co : Int32) (lx : Nat → Int64) (ly : Nat → Int64) (lf : Int32) (a0 : Int32) (a1 : Int64) (pxN : Nat → Int64) (pyN : Nat → Int64) (coN : Int32) (lxN : Nat → Int64) (lyN : Nat → Int64) (lfN : Int32) (hF : P_X3_cutSide a0 a1 px py co lx ly = some (pxN, pyN, coN, lxN, lyN, lfN)) : Met l yX3_cutSide wsX3_cutSide rm_X3_cutSide (va_Pc [.ref h0, .int a0, .long a1] (fun U => U.heap.size = hsz0 ∧ va_P (dC, dI) vwCl [(h0, .inr (3, [.ref ast, .ref aim, .ref akp, .ref awx, .ref awy, .ref apx, .ref apy, .int co, .ref alx, .ref aly, .int lf])), (ast, .inl (cI, 54, .inl st)), (aim, .inl (cI, 108, .inl im)), (akp, .inl (cZ, 2, .inl kp)), (awx, .inl (cI, 8, .inl wx)), (awy, .inl (cI, 8, .inl wy)), (apx, .inl (cJ, 300, .inr (.inl px))), (apy, .inl (cJ, 300, .inr (.inl py))), (alx, .inl (cJ, 300, .inr (.inl lx))), (aly, .inl (cJ, 300, .inr (.inl ly)))] U.heap ∧ va_K (dC, dI) vwCl [(cI, .int), (cZ, .boolean), (cJ, .long)] U ∧ va_D (fun _ => True) [(h0, .inr (3, [.ref ast, .ref aim, .ref akp, .ref awx, .ref awy, .ref apx, .ref apy, .int co, .ref alx, .ref aly, .int lf])), (ast, .inl (cI, 54, .inl st)), (aim, .inl (cI, 108, .inl im)), (akp, .inl (cZ, 2, .inl kp)), (awx, .inl (cI, 8, .inl wx)), (awy, .inl (cI, 8, .inl wy)), (apx, .inl (cJ, 300, .inr (.inl px))), (apy, .inl (cJ, 300, .inr (.inl py))), (alx, .inl (cJ, 300, .inr (.inl lx))), (aly, .inl (cJ, 300, .inr (.inl ly)))])) (va_Qv (fun (_ : Unit) => True) (fun _ t => va_P (dC, dI) vwCl [(h0, .inr (3, [.ref ast, .ref aim, .ref akp, .ref awx, .ref awy, .ref apx, .ref apy, .int coN, .ref alx, .ref aly, .int lfN])), (ast, .inl (cI, 54, .inl st)), (aim, .inl (cI, 108, .inl im)), (akp, .inl (cZ, 2, .inl kp)), (awx, .inl (cI, 8, .inl wx)), (awy, .inl (cI, 8, .inl wy)), (apx, .inl (cJ, 300, .inr (.inl pxN))), (apy, .inl (cJ, 300, .inr (.inl pyN))), (alx, .inl (cJ, 300, .inr (.inl lxN))), (aly, .inl (cJ, 300, .inr (.inl lyN)))] t.heap ∧ va_K (dC, dI) vwCl [(cI, .int), (cZ, .boolean), (cJ, .long)] t ∧ va_D (va_A [(h0, .inr (3, [.ref ast, .ref aim, .ref akp, .ref awx, .ref awy, .ref apx, .ref apy, .int co, .ref alx, .ref aly, .int lf])), (ast, .inl (cI, 54, .inl st)), (aim, .inl (cI, 108, .inl im)), (akp, .inl (cZ, 2, .inl kp)), (awx, .inl (cI, 8, .inl wx)), (awy, .inl (cI, 8, .inl wy)), (apx, .inl (cJ, 300, .inr (.inl px))), (apy, .inl (cJ, 300, .inr (.inl py))), (alx, .inl (cJ, 300, .inr (.inl lx))), (aly, .inl (cJ, 300, .inr (.inl ly)))] hsz0) [(h0, .inr (3, [.ref ast, .ref aim, .ref akp, .ref awx, .ref awy, .ref apx, .ref apy, .int coN, .ref alx, .ref aly, .int lfN])), (ast, .inl (cI, 54, .inl st)), (aim, .inl (cI, 108, .inl im)), (akp, .inl (cZ, 2, .inl kp)), (awx, .inl (cI, 8, .inl wx)), (awy, .inl (cI, 8, .inl wy)), (apx, .inl (cJ, 300, .inr (.inl pxN))), (apy, .inl (cJ, 300, .inr (.inl pyN))), (alx, .inl (cJ, 300, .inr (.inl lxN))), (aly, .inl (cJ, 300, .inr (.inl lyN)))]) (va_A [(h0, .inr (3, [.ref ast, .ref aim, .ref akp, .ref awx, .ref awy, .ref apx, .ref apy, .int co, .ref alx, .ref aly, .int lf])), (ast, .inl (cI, 54, .inl st)), (aim, .inl (cI, 108, .inl im)), (akp, .inl (cZ, 2, .inl kp)), (awx, .inl (cI, 8, .inl wx)), (awy, .inl (cI, 8, .inl wy)), (apx, .inl (cJ, 300, .inr (.inl px))), (apy, .inl (cJ, 300, .inr (.inl py))), (alx, .inl (cJ, 300, .inr (.inl lx))), (aly, .inl (cJ, 300, .inr (.inl ly)))] hsz0)) 0 0 (va_A [(h0, .inr (3, [.ref ast, .ref aim, .ref akp, .ref awx, .ref awy, .ref apx, .ref apy, .int co, .ref alx, .ref aly, .int lf])), (ast, .inl (cI, 54, .inl st)), (aim, .inl (cI, 108, .inl im)), (akp, .inl (cZ, 2, .inl kp)), (awx, .inl (cI, 8, .inl wx)), (awy, .inl (cI, 8, .inl wy)), (apx, .inl (cJ, 300, .inr (.inl px))), (apy, .inl (cJ, 300, .inr (.inl py))), (alx, .inl (cJ, 300, .inr (.inl lx))), (aly, .inl (cJ, 300, .inr (.inl ly)))] hsz0) := by
  refine Met.ofW (cc := cX3_cutSide) (maxL := 10) (ret := none) (by decide) rfl ?_
  intro p e s m args below meth c s₁ B hml hv
  change W p l e rm_X3_cutSide s m args below meth c s.heap [] 0 0 _ _
  obtain ⟨hv, hsz, hP, hK, hD0⟩ := hv
  have hx := B.exec
  have hb := B.bytes
  have hr := B.returns
  have hts := atoms_spec (ws := wsX3_cutSide) B.pre
  have hown : s.vm.findClass RX3 = some m.cls := findClass_of_methodNamed B.named
  have hlocks := B.notSynchronized
  subst hsz
  have hD := hD0.self (sz := s.heap.size)
  generalize hAe : va_A [(h0, .inr (3, [.ref ast, .ref aim, .ref akp, .ref awx, .ref awy, .ref apx, .ref apy, .int co, .ref alx, .ref aly, .int lf])), (ast, .inl (cI, 54, .inl st)), (aim, .inl (cI, 108, .inl im)), (akp, .inl (cZ, 2, .inl kp)), (awx, .inl (cI, 8, .inl wx)), (awy, .inl (cI, 8, .inl wy)), (apx, .inl (cJ, 300, .inr (.inl px))), (apy, .inl (cJ, 300, .inr (.inl py))), (alx, .inl (cJ, 300, .inr (.inl lx))), (aly, .inl (cJ, 300, .inr (.inl ly)))] s.heap.size = A at hD ⊢
  have hA : ∀ q : Nat, s.heap.size ≤ q → A q := fun q h => by rw [← hAe]; exact Or.inr h
  have hS : va_S A s.heap s.heap [] := va_S.rf
  generalize hQ : MQ below (va_Qv (fun (_ : Unit) => True) (fun _ t => va_P (dC, dI) vwCl [(h0, .inr (3, [.ref ast, .ref aim, .ref akp, .ref awx, .ref awy, .ref apx, .ref apy, .int coN, .ref alx, .ref aly, .int lfN])), (ast, .inl (cI, 54, .inl st)), (aim, .inl (cI, 108, .inl im)), (akp, .inl (cZ, 2, .inl kp)), (awx, .inl (cI, 8, .inl wx)), (awy, .inl (cI, 8, .inl wy)), (apx, .inl (cJ, 300, .inr (.inl pxN))), (apy, .inl (cJ, 300, .inr (.inl pyN))), (alx, .inl (cJ, 300, .inr (.inl lxN))), (aly, .inl (cJ, 300, .inr (.inl lyN)))] t.heap ∧ va_K (dC, dI) vwCl [(cI, .int), (cZ, .boolean), (cJ, .long)] t ∧ va_D A [(h0, .inr (3, [.ref ast, .ref aim, .ref akp, .ref awx, .ref awy, .ref apx, .ref apy, .int coN, .ref alx, .ref aly, .int lfN])), (ast, .inl (cI, 54, .inl st)), (aim, .inl (cI, 108, .inl im)), (akp, .inl (cZ, 2, .inl kp)), (awx, .inl (cI, 8, .inl wx)), (awy, .inl (cI, 8, .inl wy)), (apx, .inl (cJ, 300, .inr (.inl pxN))), (apy, .inl (cJ, 300, .inr (.inl pyN))), (alx, .inl (cJ, 300, .inr (.inl lxN))), (aly, .inl (cJ, 300, .inr (.inl lyN)))]) A) args s 0 0 A = Q
  have hl := lv_entry ([.ref h0, .int a0, .long a1]) (n := 10) (Nat.le_of_ble_eq_true rfl)
  have hE : entryFrame m args 10 = F0 m 0 ((lg_sl ([.ref h0, .int a0, .long a1]) ++ List.replicate (10 - (lg_sl ([.ref h0, .int a0, .long a1])).length) Slot.unset).toArray) [] := by rw [hv]; exact lg_entry_eq m _ 10
  rw [hE]
  generalize (lg_sl ([.ref h0, .int a0, .long a1]) ++ List.replicate (10 - (lg_sl ([.ref h0, .int a0, .long a1])).length) Slot.unset).toArray = ls at hl ⊢
  have hl : lv_has ls 10 [(0, .ref h0), (1, .int a0), (2, .long a1)] := hl
  unfold P_X3_cutSide at hF
  refine lv_aload_n hx hb dX3_cutSide_0 rfl (lv_at hl 0 rfl) ?_
  refine lv_iconst (v := 0) hx hb dX3_cutSide_1 (by decide) ?_
  refine va_put (D := (dC, dI)) (ci := 3) (v := .int (0 : Int32)) (ty := .int) (C := RX3) (T := TX3) (N := 11) hx hb hts (by decide +kernel) tyX3 tyX3_ok nmX3 hown hK hP hD hS 0 rfl rfl 10 (by decide) (hts (.fieldLink RX3 75 "DotCoverModel" "left" "I") (by decide +kernel)) (fun _ h9 => h9) rfl (by decide +kernel) rfl rfl (Nat.le_of_ble_eq_true rfl) dX3_cutSide_2 (fun H locs hP hD hS => ?_)
  have hP : va_P (dC, dI) vwCl [(h0, .inr (3, [.ref ast, .ref aim, .ref akp, .ref awx, .ref awy, .ref apx, .ref apy, .int co, .ref alx, .ref aly, .int (0 : Int32)])), (ast, .inl (cI, 54, .inl st)), (aim, .inl (cI, 108, .inl im)), (akp, .inl (cZ, 2, .inl kp)), (awx, .inl (cI, 8, .inl wx)), (awy, .inl (cI, 8, .inl wy)), (apx, .inl (cJ, 300, .inr (.inl px))), (apy, .inl (cJ, 300, .inr (.inl py))), (alx, .inl (cJ, 300, .inr (.inl lx))), (aly, .inl (cJ, 300, .inr (.inl ly)))] H := hP
  have hD : va_D A [(h0, .inr (3, [.ref ast, .ref aim, .ref akp, .ref awx, .ref awy, .ref apx, .ref apy, .int co, .ref alx, .ref aly, .int (0 : Int32)])), (ast, .inl (cI, 54, .inl st)), (aim, .inl (cI, 108, .inl im)), (akp, .inl (cZ, 2, .inl kp)), (awx, .inl (cI, 8, .inl wx)), (awy, .inl (cI, 8, .inl wy)), (apx, .inl (cJ, 300, .inr (.inl px))), (apy, .inl (cJ, 300, .inr (.inl py))), (alx, .inl (cJ, 300, .inr (.inl lx))), (aly, .inl (cJ, 300, .inr (.inl ly)))] := hD
  refine lv_iconst (v := 0) hx hb dX3_cutSide_5 (by decide) ?_
  refine lv_istore (lv' := [(4, .int (0 : Int32)), (0, .ref h0), (1, .int a0), (2, .long a1)]) hx hb dX3_cutSide_6 hl (by decide) rfl (fun ls hl => ?_)
  obtain ⟨o_5, o_6, o_7, o_8, hL_8, hF⟩ := bd4_u hF
  have lp_8 : ∀ (n : Nat) (k_1 : Int32) (lx_2 : Nat → Int64) (ly_3 : Nat → Int64) (lf_4 : Int32) (o_5 : Int32) (o_6 : Nat → Int64) (o_7 : Nat → Int64) (o_8 : Int32) (H : Heap) (locs : List Loc) (ls : Array Slot), L_X3_cutSide_8 px py co a0 a1 n k_1 lx_2 ly_3 lf_4 = some (o_5, o_6, o_7, o_8) → va_P (dC, dI) vwCl [(h0, .inr (3, [.ref ast, .ref aim, .ref akp, .ref awx, .ref awy, .ref apx, .ref apy, .int co, .ref alx, .ref aly, .int lf_4])), (ast, .inl (cI, 54, .inl st)), (aim, .inl (cI, 108, .inl im)), (akp, .inl (cZ, 2, .inl kp)), (awx, .inl (cI, 8, .inl wx)), (awy, .inl (cI, 8, .inl wy)), (apx, .inl (cJ, 300, .inr (.inl px))), (apy, .inl (cJ, 300, .inr (.inl py))), (alx, .inl (cJ, 300, .inr (.inl lx_2))), (aly, .inl (cJ, 300, .inr (.inl ly_3)))] H → va_D A [(h0, .inr (3, [.ref ast, .ref aim, .ref akp, .ref awx, .ref awy, .ref apx, .ref apy, .int co, .ref alx, .ref aly, .int lf_4])), (ast, .inl (cI, 54, .inl st)), (aim, .inl (cI, 108, .inl im)), (akp, .inl (cZ, 2, .inl kp)), (awx, .inl (cI, 8, .inl wx)), (awy, .inl (cI, 8, .inl wy)), (apx, .inl (cJ, 300, .inr (.inl px))), (apy, .inl (cJ, 300, .inr (.inl py))), (alx, .inl (cJ, 300, .inr (.inl lx_2))), (aly, .inl (cJ, 300, .inr (.inl ly_3)))] → va_S A s.heap H locs → lv_has ls 10 [(4, .int k_1), (0, .ref h0), (1, .int a0), (2, .long a1)] → (∀ (H : Heap) (locs : List Loc) (ls : Array Slot), va_P (dC, dI) vwCl [(h0, .inr (3, [.ref ast, .ref aim, .ref akp, .ref awx, .ref awy, .ref apx, .ref apy, .int co, .ref alx, .ref aly, .int o_8])), (ast, .inl (cI, 54, .inl st)), (aim, .inl (cI, 108, .inl im)), (akp, .inl (cZ, 2, .inl kp)), (awx, .inl (cI, 8, .inl wx)), (awy, .inl (cI, 8, .inl wy)), (apx, .inl (cJ, 300, .inr (.inl px))), (apy, .inl (cJ, 300, .inr (.inl py))), (alx, .inl (cJ, 300, .inr (.inl o_6))), (aly, .inl (cJ, 300, .inr (.inl o_7)))] H → va_D A [(h0, .inr (3, [.ref ast, .ref aim, .ref akp, .ref awx, .ref awy, .ref apx, .ref apy, .int co, .ref alx, .ref aly, .int o_8])), (ast, .inl (cI, 54, .inl st)), (aim, .inl (cI, 108, .inl im)), (akp, .inl (cZ, 2, .inl kp)), (awx, .inl (cI, 8, .inl wx)), (awy, .inl (cI, 8, .inl wy)), (apx, .inl (cJ, 300, .inr (.inl px))), (apy, .inl (cJ, 300, .inr (.inl py))), (alx, .inl (cJ, 300, .inr (.inl o_6))), (aly, .inl (cJ, 300, .inr (.inl o_7)))] → va_S A s.heap H locs → lv_has ls 10 [(4, .int o_5), (0, .ref h0), (1, .int a0), (2, .long a1)] → W p l e rm_X3_cutSide s m args below meth c H locs 0 0 Q (F0 m 117 ls [])) → W p l e rm_X3_cutSide s m args below meth c H locs 0 0 Q (F0 m 8 ls []) := by
    intro n
    induction n with
    | zero =>
      intro k_1 lx_2 ly_3 lf_4 o_5 o_6 o_7 o_8 H locs ls hF
      exact nn ((rfl : L_X3_cutSide_8 px py co a0 a1 0 k_1 lx_2 ly_3 lf_4 = none).symm.trans hF)
    | succ n ih_8 =>
      intro k_1 lx_2 ly_3 lf_4 o_5 o_6 o_7 o_8 H locs ls hF hP hD hS hl kx_8
      have hF := (L_X3_cutSide_8_s px py co a0 a1 n k_1 lx_2 ly_3 lf_4).symm.trans hF
      refine lv_iload hx hb dX3_cutSide_8 (lv_at hl 0 rfl) ?_
      refine lv_aload_n hx hb dX3_cutSide_10 rfl (lv_at hl 1 rfl) ?_
      refine va_get (D := (dC, dI)) (ci := 3) (v := .int co) (C := RX3) (T := TX3) (N := 11) hx hb hts (by decide +kernel) hown hK hP 0 rfl rfl 7 (by decide) (hts (.fieldLink RX3 69 "DotCoverModel" "corners" "I") (by decide +kernel)) (fun _ h9 => h9) rfl dX3_cutSide_11 ?_
      refine lv_icmp_ge (tgt := 117) hx hb dX3_cutSide_14 (by decide) (fun c_9 => ?_) (fun c_9 => ?_)
      · have hF := br1 hF c_9
        obtain ⟨rfl, rfl, rfl, rfl⟩ := tp4 hF
        exact kx_8 _ _ ls hP hD hS hl
      · have hF := br0 hF c_9
        refine lv_iload hx hb dX3_cutSide_17 (lv_at hl 0 rfl) ?_
        refine lv_iconst (v := 1) hx hb dX3_cutSide_19 (by decide) ?_
        refine lv_iadd hx hb dX3_cutSide_20 ?_
        refine lv_aload_n hx hb dX3_cutSide_21 rfl (lv_at hl 1 rfl) ?_
        refine va_get (D := (dC, dI)) (ci := 3) (v := .int co) (C := RX3) (T := TX3) (N := 11) hx hb hts (by decide +kernel) hown hK hP 0 rfl rfl 7 (by decide) (hts (.fieldLink RX3 69 "DotCoverModel" "corners" "I") (by decide +kernel)) (fun _ h9 => h9) rfl dX3_cutSide_22 ?_
        obtain ⟨hz_25, hF⟩ := gd_u hF
        refine lv_irem hx hb dX3_cutSide_25 (nz_u hz_25) ?_
        refine lv_topi (fun v_10 ev_10 => ?_)
        have hF := nm_u hF ev_10
        refine lv_istore (lv' := [(5, .int v_10), (4, .int k_1), (0, .ref h0), (1, .int a0), (2, .long a1)]) hx hb dX3_cutSide_26 hl (by decide) rfl (fun ls hl => ?_)
        refine lv_aload_n hx hb dX3_cutSide_28 rfl (lv_at hl 2 rfl) ?_
        refine lv_iload hx hb dX3_cutSide_29 (lv_at hl 1 rfl) ?_
        refine lv_iload_n hx hb dX3_cutSide_31 rfl (lv_at hl 3 rfl) ?_
        refine lv_lload_n hx hb dX3_cutSide_32 rfl (lv_at hl 4 rfl) ?_
        obtain ⟨r_11, hr_11, hF⟩ := bd1_u hF
        have hPc := hP.sub (ws' := [(h0, .inr (3, [.ref ast, .ref aim, .ref akp, .ref awx, .ref awy, .ref apx, .ref apy, .int co, .ref alx, .ref aly, .int lf_4])), (ast, .inl (cI, 54, .inl st)), (aim, .inl (cI, 108, .inl im)), (akp, .inl (cZ, 2, .inl kp)), (awx, .inl (cI, 8, .inl wx)), (awy, .inl (cI, 8, .inl wy)), (apx, .inl (cJ, 300, .inr (.inl px))), (apy, .inl (cJ, 300, .inr (.inl py))), (alx, .inl (cJ, 300, .inr (.inl lx_2))), (aly, .inl (cJ, 300, .inr (.inl ly_3)))]) [0, 1, 2, 3, 4, 5, 6, 7, 8, 9] rfl
        have hKc := hK.sub (tys' := [(cI, .int), (cZ, .boolean), (cJ, .long)]) [0, 1, 2] rfl
        refine vp_callSl (W.runV (As := [.int k_1, .int a0, .long a1]) (rest := []) ⟨hx, hb, hml, hown, hts⟩ (c_X3_within l dC dI h0 ast aim akp awx awy apx apy alx aly cI cZ cJ st im kp wx wy px py co lx_2 ly_3 lf_4 k_1 a0 a1 r_11 hr_11) (cwV 3 hts gX3_cutSide_X3_within rfl rfl rfl (by decide +kernel) ⟨Nat.le_of_ble_eq_true rfl, Nat.le_of_ble_eq_true rfl⟩) ⟨fun a U g mk q => ⟨q.1, q.2.1, va_K.moved (u := U) (U := U.calling g mk a) (Vm.Alike.refl U.vm) q.2.2⟩, va_recv hKc hPc (ci := 3) (q0 := 0) rfl rfl, fun U hU hW => ⟨rfl, by rw [hU]; exact hPc, va_K.moved hW.alike hKc⟩⟩ rfl rfl hl.1 rfl (lv_room (Nat.le_of_ble_eq_true rfl)) dX3_cutSide_33 ⟨Nat.le_of_ble_eq_true rfl, Nat.le_of_ble_eq_true rfl⟩) (fun r_11' qr_11 => ?_)
        obtain rfl := qr_11.symm
        refine lv_lstore (lv' := [(6, .long r_11), (5, .int v_10), (4, .int k_1), (0, .ref h0), (1, .int a0), (2, .long a1)]) hx hb dX3_cutSide_36 hl (by decide) rfl (fun ls hl => ?_)
        refine lv_aload_n hx hb dX3_cutSide_38 rfl (lv_at hl 3 rfl) ?_
        refine lv_iload hx hb dX3_cutSide_39 (lv_at hl 1 rfl) ?_
        refine lv_iload_n hx hb dX3_cutSide_41 rfl (lv_at hl 4 rfl) ?_
        refine lv_lload_n hx hb dX3_cutSide_42 rfl (lv_at hl 5 rfl) ?_
        obtain ⟨r_12, hr_12, hF⟩ := bd1_u hF
        have hPc := hP.sub (ws' := [(h0, .inr (3, [.ref ast, .ref aim, .ref akp, .ref awx, .ref awy, .ref apx, .ref apy, .int co, .ref alx, .ref aly, .int lf_4])), (ast, .inl (cI, 54, .inl st)), (aim, .inl (cI, 108, .inl im)), (akp, .inl (cZ, 2, .inl kp)), (awx, .inl (cI, 8, .inl wx)), (awy, .inl (cI, 8, .inl wy)), (apx, .inl (cJ, 300, .inr (.inl px))), (apy, .inl (cJ, 300, .inr (.inl py))), (alx, .inl (cJ, 300, .inr (.inl lx_2))), (aly, .inl (cJ, 300, .inr (.inl ly_3)))]) [0, 1, 2, 3, 4, 5, 6, 7, 8, 9] rfl
        have hKc := hK.sub (tys' := [(cI, .int), (cZ, .boolean), (cJ, .long)]) [0, 1, 2] rfl
        refine vp_callSl (W.runV (As := [.int v_10, .int a0, .long a1]) (rest := []) ⟨hx, hb, hml, hown, hts⟩ (c_X3_within l dC dI h0 ast aim akp awx awy apx apy alx aly cI cZ cJ st im kp wx wy px py co lx_2 ly_3 lf_4 v_10 a0 a1 r_12 hr_12) (cwV 3 hts gX3_cutSide_X3_within rfl rfl rfl (by decide +kernel) ⟨Nat.le_of_ble_eq_true rfl, Nat.le_of_ble_eq_true rfl⟩) ⟨fun a U g mk q => ⟨q.1, q.2.1, va_K.moved (u := U) (U := U.calling g mk a) (Vm.Alike.refl U.vm) q.2.2⟩, va_recv hKc hPc (ci := 3) (q0 := 0) rfl rfl, fun U hU hW => ⟨rfl, by rw [hU]; exact hPc, va_K.moved hW.alike hKc⟩⟩ rfl rfl hl.1 rfl (lv_room (Nat.le_of_ble_eq_true rfl)) dX3_cutSide_43 ⟨Nat.le_of_ble_eq_true rfl, Nat.le_of_ble_eq_true rfl⟩) (fun r_12' qr_12 => ?_)
        obtain rfl := qr_12.symm
        refine lv_lstore (lv' := [(8, .long r_12), (6, .long r_11), (5, .int v_10), (4, .int k_1), (0, .ref h0), (1, .int a0), (2, .long a1)]) hx hb dX3_cutSide_46 hl (by decide) rfl (fun ls hl => ?_)
        refine lv_lload hx hb dX3_cutSide_48 (lv_at hl 1 rfl) ?_
        refine lv_lconst (v := 0) hx hb dX3_cutSide_50 (by decide) ?_
        refine lc_lt (tgt := 73) hx hb dX3_cutSide_51 dX3_cutSide_52 (by decide) (fun c_13 => ?_) (fun c_13 => ?_)
        · have hF := br1 hF c_13
          refine lv_lload hx hb dX3_cutSide_73 (lv_at hl 1 rfl) ?_
          refine lv_lconst (v := 0) hx hb dX3_cutSide_75 (by decide) ?_
          refine lc_ge (tgt := 87) hx hb dX3_cutSide_76 dX3_cutSide_77 (by decide) (fun c_14 => ?_) (fun c_14 => ?_)
          · have hF := br1 hF c_14
            refine lv_lload hx hb dX3_cutSide_87 (lv_at hl 1 rfl) ?_
            refine lv_lconst (v := 0) hx hb dX3_cutSide_89 (by decide) ?_
            refine lc_le (tgt := 111) hx hb dX3_cutSide_90 dX3_cutSide_91 (by decide) (fun c_15 => ?_) (fun c_15 => ?_)
            · have hF := br1 hF c_15
              refine lv_iinc (v := (k_1 + (1 : Int32))) (lv' := [(4, .int (k_1 + (1 : Int32))), (8, .long r_12), (6, .long r_11), (5, .int v_10), (0, .ref h0), (1, .int a0), (2, .long a1)]) hx hb dX3_cutSide_111 hl (k := 3) rfl rfl (by decide) rfl (fun ls hl => ?_)
              refine lv_goto (tgt := 8) hx hb dX3_cutSide_114 (by decide) ?_
              exact ih_8 _ _ _ _ _ _ _ _ _ _ ls hF hP hD hS (lv_sub hl [0, 4, 5, 6] rfl) kx_8
            · have hF := br0 hF c_15
              refine lv_lload hx hb dX3_cutSide_94 (lv_at hl 0 rfl) ?_
              refine lv_lconst (v := 0) hx hb dX3_cutSide_96 (by decide) ?_
              refine lc_ge (tgt := 111) hx hb dX3_cutSide_97 dX3_cutSide_98 (by decide) (fun c_16 => ?_) (fun c_16 => ?_)
              · have hF := br1 hF c_16
                refine lv_iinc (v := (k_1 + (1 : Int32))) (lv' := [(4, .int (k_1 + (1 : Int32))), (8, .long r_12), (6, .long r_11), (5, .int v_10), (0, .ref h0), (1, .int a0), (2, .long a1)]) hx hb dX3_cutSide_111 hl (k := 3) rfl rfl (by decide) rfl (fun ls hl => ?_)
                refine lv_goto (tgt := 8) hx hb dX3_cutSide_114 (by decide) ?_
                exact ih_8 _ _ _ _ _ _ _ _ _ _ ls hF hP hD hS (lv_sub hl [0, 4, 5, 6] rfl) kx_8
              · have hF := br0 hF c_16
                refine lv_aload_n hx hb dX3_cutSide_101 rfl (lv_at hl 4 rfl) ?_
                refine lv_iload hx hb dX3_cutSide_102 (lv_at hl 3 rfl) ?_
                refine lv_iload hx hb dX3_cutSide_104 (lv_at hl 2 rfl) ?_
                refine lv_iload_n hx hb dX3_cutSide_106 rfl (lv_at hl 5 rfl) ?_
                refine lv_lload_n hx hb dX3_cutSide_107 rfl (lv_at hl 6 rfl) ?_
                obtain ⟨lx_17, ly_18, lf_19, hr_19, hF⟩ := bd3_u hF
                have hPc := hP.sub (ws' := [(h0, .inr (3, [.ref ast, .ref aim, .ref akp, .ref awx, .ref awy, .ref apx, .ref apy, .int co, .ref alx, .ref aly, .int lf_4])), (ast, .inl (cI, 54, .inl st)), (aim, .inl (cI, 108, .inl im)), (akp, .inl (cZ, 2, .inl kp)), (awx, .inl (cI, 8, .inl wx)), (awy, .inl (cI, 8, .inl wy)), (apx, .inl (cJ, 300, .inr (.inl px))), (apy, .inl (cJ, 300, .inr (.inl py))), (alx, .inl (cJ, 300, .inr (.inl lx_2))), (aly, .inl (cJ, 300, .inr (.inl ly_3)))]) [0, 1, 2, 3, 4, 5, 6, 7, 8, 9] rfl
                have hKc := hK.sub (tys' := [(cI, .int), (cZ, .boolean), (cJ, .long)]) [0, 1, 2] rfl
                have hDc := hD.sub (ws' := [(h0, .inr (3, [.ref ast, .ref aim, .ref akp, .ref awx, .ref awy, .ref apx, .ref apy, .int co, .ref alx, .ref aly, .int lf_4])), (ast, .inl (cI, 54, .inl st)), (aim, .inl (cI, 108, .inl im)), (akp, .inl (cZ, 2, .inl kp)), (awx, .inl (cI, 8, .inl wx)), (awy, .inl (cI, 8, .inl wy)), (apx, .inl (cJ, 300, .inr (.inl px))), (apy, .inl (cJ, 300, .inr (.inl py))), (alx, .inl (cJ, 300, .inr (.inl lx_2))), (aly, .inl (cJ, 300, .inr (.inl ly_3)))]) [0, 1, 2, 3, 4, 5, 6, 7, 8, 9] (by decide) rfl
                have hFc := va_free (wc := [(h0, .inr (3, [.ref ast, .ref aim, .ref akp, .ref awx, .ref awy, .ref apx, .ref apy, .int co, .ref alx, .ref aly, .int lf_4])), (ast, .inl (cI, 54, .inl st)), (aim, .inl (cI, 108, .inl im)), (akp, .inl (cZ, 2, .inl kp)), (awx, .inl (cI, 8, .inl wx)), (awy, .inl (cI, 8, .inl wy)), (apx, .inl (cJ, 300, .inr (.inl px))), (apy, .inl (cJ, 300, .inr (.inl py))), (alx, .inl (cJ, 300, .inr (.inl lx_2))), (aly, .inl (cJ, 300, .inr (.inl ly_3)))]) hD hS hA [0, 1, 2, 3, 4, 5, 6, 7, 8, 9] rfl
                refine va_callv (va_runV (As := [.int k_1, .int v_10, .int a0, .long a1]) (rest := []) ⟨hx, hb, hml, hown, hts⟩ (c_X3_leaveCrossing l dC dI h0 ast aim akp awx awy apx apy alx aly cI cZ cJ H.size st im kp wx wy px py co lx_2 ly_3 lf_4 k_1 v_10 a0 a1 lx_17 ly_18 lf_19 hr_19) (cwV 4 hts gX3_cutSide_X3_leaveCrossing rfl rfl rfl (by decide +kernel) ⟨Nat.le_of_ble_eq_true rfl, Nat.le_of_ble_eq_true rfl⟩) ⟨fun a U g mk q => ⟨q.1, q.2.1, q.2.2.1, va_K.moved (u := U) (U := U.calling g mk a) (Vm.Alike.refl U.vm) q.2.2.2.1, q.2.2.2.2⟩, va_recv hKc hPc (ci := 3) (q0 := 0) rfl rfl, fun U hU hW => ⟨rfl, by rw [hU], by rw [hU]; exact hPc, va_K.moved hW.alike hKc, hDc.weaken (fun _ _ _ _ => trivial)⟩⟩ rfl rfl hl.1 rfl (lv_room (Nat.le_of_ble_eq_true rfl)) dX3_cutSide_108 ⟨Nat.le_of_ble_eq_true rfl, Nat.le_of_ble_eq_true rfl⟩) hS (fun q _ h => hFc q h) hFc (fun _ t H1 locs ht hvm hw hB hz1 hk1 hS => ?_)
                obtain ⟨hP1, hK1, hD1⟩ := hB
                rw [ht] at hP1
                obtain ⟨hP, hD⟩ := va_join (wr := []) (w1 := [(h0, .inr (3, [.ref ast, .ref aim, .ref akp, .ref awx, .ref awy, .ref apx, .ref apy, .int co, .ref alx, .ref aly, .int lf_19])), (ast, .inl (cI, 54, .inl st)), (aim, .inl (cI, 108, .inl im)), (akp, .inl (cZ, 2, .inl kp)), (awx, .inl (cI, 8, .inl wx)), (awy, .inl (cI, 8, .inl wy)), (apx, .inl (cJ, 300, .inr (.inl px))), (apy, .inl (cJ, 300, .inr (.inl py))), (alx, .inl (cJ, 300, .inr (.inl lx_17))), (aly, .inl (cJ, 300, .inr (.inl ly_18)))]) hP hD [0, 1, 2, 3, 4, 5, 6, 7, 8, 9] [] rfl rfl (by decide) (by decide) hk1 hFc hP1 hD1
                clear hP1 hK1 hD1 hk1 hFc
                generalize H1 = H at hP hS ⊢
                have hP : va_P (dC, dI) vwCl [(h0, .inr (3, [.ref ast, .ref aim, .ref akp, .ref awx, .ref awy, .ref apx, .ref apy, .int co, .ref alx, .ref aly, .int lf_19])), (ast, .inl (cI, 54, .inl st)), (aim, .inl (cI, 108, .inl im)), (akp, .inl (cZ, 2, .inl kp)), (awx, .inl (cI, 8, .inl wx)), (awy, .inl (cI, 8, .inl wy)), (apx, .inl (cJ, 300, .inr (.inl px))), (apy, .inl (cJ, 300, .inr (.inl py))), (alx, .inl (cJ, 300, .inr (.inl lx_17))), (aly, .inl (cJ, 300, .inr (.inl ly_18)))] H := hP
                have hD : va_D A [(h0, .inr (3, [.ref ast, .ref aim, .ref akp, .ref awx, .ref awy, .ref apx, .ref apy, .int co, .ref alx, .ref aly, .int lf_19])), (ast, .inl (cI, 54, .inl st)), (aim, .inl (cI, 108, .inl im)), (akp, .inl (cZ, 2, .inl kp)), (awx, .inl (cI, 8, .inl wx)), (awy, .inl (cI, 8, .inl wy)), (apx, .inl (cJ, 300, .inr (.inl px))), (apy, .inl (cJ, 300, .inr (.inl py))), (alx, .inl (cJ, 300, .inr (.inl lx_17))), (aly, .inl (cJ, 300, .inr (.inl ly_18)))] := hD
                refine lv_iinc (v := (k_1 + (1 : Int32))) (lv' := [(4, .int (k_1 + (1 : Int32))), (8, .long r_12), (6, .long r_11), (5, .int v_10), (0, .ref h0), (1, .int a0), (2, .long a1)]) hx hb dX3_cutSide_111 hl (k := 3) rfl rfl (by decide) rfl (fun ls hl => ?_)
                refine lv_goto (tgt := 8) hx hb dX3_cutSide_114 (by decide) ?_
                exact ih_8 _ _ _ _ _ _ _ _ _ _ ls hF hP hD hS (lv_sub hl [0, 4, 5, 6] rfl) kx_8
          · have hF := br0 hF c_14
            refine lv_lload hx hb dX3_cutSide_80 (lv_at hl 0 rfl) ?_
            refine lv_lconst (v := 0) hx hb dX3_cutSide_82 (by decide) ?_
            refine lc_gt (tgt := 101) hx hb dX3_cutSide_83 dX3_cutSide_84 (by decide) (fun c_20 => ?_) (fun c_20 => ?_)
            · have hF := br1 hF c_20
              refine lv_aload_n hx hb dX3_cutSide_101 rfl (lv_at hl 4 rfl) ?_
              refine lv_iload hx hb dX3_cutSide_102 (lv_at hl 3 rfl) ?_
              refine lv_iload hx hb dX3_cutSide_104 (lv_at hl 2 rfl) ?_
              refine lv_iload_n hx hb dX3_cutSide_106 rfl (lv_at hl 5 rfl) ?_
              refine lv_lload_n hx hb dX3_cutSide_107 rfl (lv_at hl 6 rfl) ?_
              obtain ⟨lx_21, ly_22, lf_23, hr_23, hF⟩ := bd3_u hF
              have hPc := hP.sub (ws' := [(h0, .inr (3, [.ref ast, .ref aim, .ref akp, .ref awx, .ref awy, .ref apx, .ref apy, .int co, .ref alx, .ref aly, .int lf_4])), (ast, .inl (cI, 54, .inl st)), (aim, .inl (cI, 108, .inl im)), (akp, .inl (cZ, 2, .inl kp)), (awx, .inl (cI, 8, .inl wx)), (awy, .inl (cI, 8, .inl wy)), (apx, .inl (cJ, 300, .inr (.inl px))), (apy, .inl (cJ, 300, .inr (.inl py))), (alx, .inl (cJ, 300, .inr (.inl lx_2))), (aly, .inl (cJ, 300, .inr (.inl ly_3)))]) [0, 1, 2, 3, 4, 5, 6, 7, 8, 9] rfl
              have hKc := hK.sub (tys' := [(cI, .int), (cZ, .boolean), (cJ, .long)]) [0, 1, 2] rfl
              have hDc := hD.sub (ws' := [(h0, .inr (3, [.ref ast, .ref aim, .ref akp, .ref awx, .ref awy, .ref apx, .ref apy, .int co, .ref alx, .ref aly, .int lf_4])), (ast, .inl (cI, 54, .inl st)), (aim, .inl (cI, 108, .inl im)), (akp, .inl (cZ, 2, .inl kp)), (awx, .inl (cI, 8, .inl wx)), (awy, .inl (cI, 8, .inl wy)), (apx, .inl (cJ, 300, .inr (.inl px))), (apy, .inl (cJ, 300, .inr (.inl py))), (alx, .inl (cJ, 300, .inr (.inl lx_2))), (aly, .inl (cJ, 300, .inr (.inl ly_3)))]) [0, 1, 2, 3, 4, 5, 6, 7, 8, 9] (by decide) rfl
              have hFc := va_free (wc := [(h0, .inr (3, [.ref ast, .ref aim, .ref akp, .ref awx, .ref awy, .ref apx, .ref apy, .int co, .ref alx, .ref aly, .int lf_4])), (ast, .inl (cI, 54, .inl st)), (aim, .inl (cI, 108, .inl im)), (akp, .inl (cZ, 2, .inl kp)), (awx, .inl (cI, 8, .inl wx)), (awy, .inl (cI, 8, .inl wy)), (apx, .inl (cJ, 300, .inr (.inl px))), (apy, .inl (cJ, 300, .inr (.inl py))), (alx, .inl (cJ, 300, .inr (.inl lx_2))), (aly, .inl (cJ, 300, .inr (.inl ly_3)))]) hD hS hA [0, 1, 2, 3, 4, 5, 6, 7, 8, 9] rfl
              refine va_callv (va_runV (As := [.int k_1, .int v_10, .int a0, .long a1]) (rest := []) ⟨hx, hb, hml, hown, hts⟩ (c_X3_leaveCrossing l dC dI h0 ast aim akp awx awy apx apy alx aly cI cZ cJ H.size st im kp wx wy px py co lx_2 ly_3 lf_4 k_1 v_10 a0 a1 lx_21 ly_22 lf_23 hr_23) (cwV 4 hts gX3_cutSide_X3_leaveCrossing rfl rfl rfl (by decide +kernel) ⟨Nat.le_of_ble_eq_true rfl, Nat.le_of_ble_eq_true rfl⟩) ⟨fun a U g mk q => ⟨q.1, q.2.1, q.2.2.1, va_K.moved (u := U) (U := U.calling g mk a) (Vm.Alike.refl U.vm) q.2.2.2.1, q.2.2.2.2⟩, va_recv hKc hPc (ci := 3) (q0 := 0) rfl rfl, fun U hU hW => ⟨rfl, by rw [hU], by rw [hU]; exact hPc, va_K.moved hW.alike hKc, hDc.weaken (fun _ _ _ _ => trivial)⟩⟩ rfl rfl hl.1 rfl (lv_room (Nat.le_of_ble_eq_true rfl)) dX3_cutSide_108 ⟨Nat.le_of_ble_eq_true rfl, Nat.le_of_ble_eq_true rfl⟩) hS (fun q _ h => hFc q h) hFc (fun _ t H1 locs ht hvm hw hB hz1 hk1 hS => ?_)
              obtain ⟨hP1, hK1, hD1⟩ := hB
              rw [ht] at hP1
              obtain ⟨hP, hD⟩ := va_join (wr := []) (w1 := [(h0, .inr (3, [.ref ast, .ref aim, .ref akp, .ref awx, .ref awy, .ref apx, .ref apy, .int co, .ref alx, .ref aly, .int lf_23])), (ast, .inl (cI, 54, .inl st)), (aim, .inl (cI, 108, .inl im)), (akp, .inl (cZ, 2, .inl kp)), (awx, .inl (cI, 8, .inl wx)), (awy, .inl (cI, 8, .inl wy)), (apx, .inl (cJ, 300, .inr (.inl px))), (apy, .inl (cJ, 300, .inr (.inl py))), (alx, .inl (cJ, 300, .inr (.inl lx_21))), (aly, .inl (cJ, 300, .inr (.inl ly_22)))]) hP hD [0, 1, 2, 3, 4, 5, 6, 7, 8, 9] [] rfl rfl (by decide) (by decide) hk1 hFc hP1 hD1
              clear hP1 hK1 hD1 hk1 hFc
              generalize H1 = H at hP hS ⊢
              have hP : va_P (dC, dI) vwCl [(h0, .inr (3, [.ref ast, .ref aim, .ref akp, .ref awx, .ref awy, .ref apx, .ref apy, .int co, .ref alx, .ref aly, .int lf_23])), (ast, .inl (cI, 54, .inl st)), (aim, .inl (cI, 108, .inl im)), (akp, .inl (cZ, 2, .inl kp)), (awx, .inl (cI, 8, .inl wx)), (awy, .inl (cI, 8, .inl wy)), (apx, .inl (cJ, 300, .inr (.inl px))), (apy, .inl (cJ, 300, .inr (.inl py))), (alx, .inl (cJ, 300, .inr (.inl lx_21))), (aly, .inl (cJ, 300, .inr (.inl ly_22)))] H := hP
              have hD : va_D A [(h0, .inr (3, [.ref ast, .ref aim, .ref akp, .ref awx, .ref awy, .ref apx, .ref apy, .int co, .ref alx, .ref aly, .int lf_23])), (ast, .inl (cI, 54, .inl st)), (aim, .inl (cI, 108, .inl im)), (akp, .inl (cZ, 2, .inl kp)), (awx, .inl (cI, 8, .inl wx)), (awy, .inl (cI, 8, .inl wy)), (apx, .inl (cJ, 300, .inr (.inl px))), (apy, .inl (cJ, 300, .inr (.inl py))), (alx, .inl (cJ, 300, .inr (.inl lx_21))), (aly, .inl (cJ, 300, .inr (.inl ly_22)))] := hD
              refine lv_iinc (v := (k_1 + (1 : Int32))) (lv' := [(4, .int (k_1 + (1 : Int32))), (8, .long r_12), (6, .long r_11), (5, .int v_10), (0, .ref h0), (1, .int a0), (2, .long a1)]) hx hb dX3_cutSide_111 hl (k := 3) rfl rfl (by decide) rfl (fun ls hl => ?_)
              refine lv_goto (tgt := 8) hx hb dX3_cutSide_114 (by decide) ?_
              exact ih_8 _ _ _ _ _ _ _ _ _ _ ls hF hP hD hS (lv_sub hl [0, 4, 5, 6] rfl) kx_8
            · have hF := br0 hF c_20
              refine lv_lload hx hb dX3_cutSide_87 (lv_at hl 1 rfl) ?_
              refine lv_lconst (v := 0) hx hb dX3_cutSide_89 (by decide) ?_
              refine lc_le (tgt := 111) hx hb dX3_cutSide_90 dX3_cutSide_91 (by decide) (fun c_24 => ?_) (fun c_24 => ?_)
              · have hF := br1 hF c_24
                refine lv_iinc (v := (k_1 + (1 : Int32))) (lv' := [(4, .int (k_1 + (1 : Int32))), (8, .long r_12), (6, .long r_11), (5, .int v_10), (0, .ref h0), (1, .int a0), (2, .long a1)]) hx hb dX3_cutSide_111 hl (k := 3) rfl rfl (by decide) rfl (fun ls hl => ?_)
                refine lv_goto (tgt := 8) hx hb dX3_cutSide_114 (by decide) ?_
                exact ih_8 _ _ _ _ _ _ _ _ _ _ ls hF hP hD hS (lv_sub hl [0, 4, 5, 6] rfl) kx_8
              · have hF := br0 hF c_24
                refine lv_lload hx hb dX3_cutSide_94 (lv_at hl 0 rfl) ?_
                refine lv_lconst (v := 0) hx hb dX3_cutSide_96 (by decide) ?_
                refine lc_ge (tgt := 111) hx hb dX3_cutSide_97 dX3_cutSide_98 (by decide) (fun c_25 => ?_) (fun c_25 => ?_)
                · have hF := br1 hF c_25
                  refine lv_iinc (v := (k_1 + (1 : Int32))) (lv' := [(4, .int (k_1 + (1 : Int32))), (8, .long r_12), (6, .long r_11), (5, .int v_10), (0, .ref h0), (1, .int a0), (2, .long a1)]) hx hb dX3_cutSide_111 hl (k := 3) rfl rfl (by decide) rfl (fun ls hl => ?_)
                  refine lv_goto (tgt := 8) hx hb dX3_cutSide_114 (by decide) ?_
                  exact ih_8 _ _ _ _ _ _ _ _ _ _ ls hF hP hD hS (lv_sub hl [0, 4, 5, 6] rfl) kx_8
                · have hF := br0 hF c_25
                  refine lv_aload_n hx hb dX3_cutSide_101 rfl (lv_at hl 4 rfl) ?_
                  refine lv_iload hx hb dX3_cutSide_102 (lv_at hl 3 rfl) ?_
                  refine lv_iload hx hb dX3_cutSide_104 (lv_at hl 2 rfl) ?_
                  refine lv_iload_n hx hb dX3_cutSide_106 rfl (lv_at hl 5 rfl) ?_
                  refine lv_lload_n hx hb dX3_cutSide_107 rfl (lv_at hl 6 rfl) ?_
                  obtain ⟨lx_26, ly_27, lf_28, hr_28, hF⟩ := bd3_u hF
                  have hPc := hP.sub (ws' := [(h0, .inr (3, [.ref ast, .ref aim, .ref akp, .ref awx, .ref awy, .ref apx, .ref apy, .int co, .ref alx, .ref aly, .int lf_4])), (ast, .inl (cI, 54, .inl st)), (aim, .inl (cI, 108, .inl im)), (akp, .inl (cZ, 2, .inl kp)), (awx, .inl (cI, 8, .inl wx)), (awy, .inl (cI, 8, .inl wy)), (apx, .inl (cJ, 300, .inr (.inl px))), (apy, .inl (cJ, 300, .inr (.inl py))), (alx, .inl (cJ, 300, .inr (.inl lx_2))), (aly, .inl (cJ, 300, .inr (.inl ly_3)))]) [0, 1, 2, 3, 4, 5, 6, 7, 8, 9] rfl
                  have hKc := hK.sub (tys' := [(cI, .int), (cZ, .boolean), (cJ, .long)]) [0, 1, 2] rfl
                  have hDc := hD.sub (ws' := [(h0, .inr (3, [.ref ast, .ref aim, .ref akp, .ref awx, .ref awy, .ref apx, .ref apy, .int co, .ref alx, .ref aly, .int lf_4])), (ast, .inl (cI, 54, .inl st)), (aim, .inl (cI, 108, .inl im)), (akp, .inl (cZ, 2, .inl kp)), (awx, .inl (cI, 8, .inl wx)), (awy, .inl (cI, 8, .inl wy)), (apx, .inl (cJ, 300, .inr (.inl px))), (apy, .inl (cJ, 300, .inr (.inl py))), (alx, .inl (cJ, 300, .inr (.inl lx_2))), (aly, .inl (cJ, 300, .inr (.inl ly_3)))]) [0, 1, 2, 3, 4, 5, 6, 7, 8, 9] (by decide) rfl
                  have hFc := va_free (wc := [(h0, .inr (3, [.ref ast, .ref aim, .ref akp, .ref awx, .ref awy, .ref apx, .ref apy, .int co, .ref alx, .ref aly, .int lf_4])), (ast, .inl (cI, 54, .inl st)), (aim, .inl (cI, 108, .inl im)), (akp, .inl (cZ, 2, .inl kp)), (awx, .inl (cI, 8, .inl wx)), (awy, .inl (cI, 8, .inl wy)), (apx, .inl (cJ, 300, .inr (.inl px))), (apy, .inl (cJ, 300, .inr (.inl py))), (alx, .inl (cJ, 300, .inr (.inl lx_2))), (aly, .inl (cJ, 300, .inr (.inl ly_3)))]) hD hS hA [0, 1, 2, 3, 4, 5, 6, 7, 8, 9] rfl
                  refine va_callv (va_runV (As := [.int k_1, .int v_10, .int a0, .long a1]) (rest := []) ⟨hx, hb, hml, hown, hts⟩ (c_X3_leaveCrossing l dC dI h0 ast aim akp awx awy apx apy alx aly cI cZ cJ H.size st im kp wx wy px py co lx_2 ly_3 lf_4 k_1 v_10 a0 a1 lx_26 ly_27 lf_28 hr_28) (cwV 4 hts gX3_cutSide_X3_leaveCrossing rfl rfl rfl (by decide +kernel) ⟨Nat.le_of_ble_eq_true rfl, Nat.le_of_ble_eq_true rfl⟩) ⟨fun a U g mk q => ⟨q.1, q.2.1, q.2.2.1, va_K.moved (u := U) (U := U.calling g mk a) (Vm.Alike.refl U.vm) q.2.2.2.1, q.2.2.2.2⟩, va_recv hKc hPc (ci := 3) (q0 := 0) rfl rfl, fun U hU hW => ⟨rfl, by rw [hU], by rw [hU]; exact hPc, va_K.moved hW.alike hKc, hDc.weaken (fun _ _ _ _ => trivial)⟩⟩ rfl rfl hl.1 rfl (lv_room (Nat.le_of_ble_eq_true rfl)) dX3_cutSide_108 ⟨Nat.le_of_ble_eq_true rfl, Nat.le_of_ble_eq_true rfl⟩) hS (fun q _ h => hFc q h) hFc (fun _ t H1 locs ht hvm hw hB hz1 hk1 hS => ?_)
                  obtain ⟨hP1, hK1, hD1⟩ := hB
                  rw [ht] at hP1
                  obtain ⟨hP, hD⟩ := va_join (wr := []) (w1 := [(h0, .inr (3, [.ref ast, .ref aim, .ref akp, .ref awx, .ref awy, .ref apx, .ref apy, .int co, .ref alx, .ref aly, .int lf_28])), (ast, .inl (cI, 54, .inl st)), (aim, .inl (cI, 108, .inl im)), (akp, .inl (cZ, 2, .inl kp)), (awx, .inl (cI, 8, .inl wx)), (awy, .inl (cI, 8, .inl wy)), (apx, .inl (cJ, 300, .inr (.inl px))), (apy, .inl (cJ, 300, .inr (.inl py))), (alx, .inl (cJ, 300, .inr (.inl lx_26))), (aly, .inl (cJ, 300, .inr (.inl ly_27)))]) hP hD [0, 1, 2, 3, 4, 5, 6, 7, 8, 9] [] rfl rfl (by decide) (by decide) hk1 hFc hP1 hD1
                  clear hP1 hK1 hD1 hk1 hFc
                  generalize H1 = H at hP hS ⊢
                  have hP : va_P (dC, dI) vwCl [(h0, .inr (3, [.ref ast, .ref aim, .ref akp, .ref awx, .ref awy, .ref apx, .ref apy, .int co, .ref alx, .ref aly, .int lf_28])), (ast, .inl (cI, 54, .inl st)), (aim, .inl (cI, 108, .inl im)), (akp, .inl (cZ, 2, .inl kp)), (awx, .inl (cI, 8, .inl wx)), (awy, .inl (cI, 8, .inl wy)), (apx, .inl (cJ, 300, .inr (.inl px))), (apy, .inl (cJ, 300, .inr (.inl py))), (alx, .inl (cJ, 300, .inr (.inl lx_26))), (aly, .inl (cJ, 300, .inr (.inl ly_27)))] H := hP
                  have hD : va_D A [(h0, .inr (3, [.ref ast, .ref aim, .ref akp, .ref awx, .ref awy, .ref apx, .ref apy, .int co, .ref alx, .ref aly, .int lf_28])), (ast, .inl (cI, 54, .inl st)), (aim, .inl (cI, 108, .inl im)), (akp, .inl (cZ, 2, .inl kp)), (awx, .inl (cI, 8, .inl wx)), (awy, .inl (cI, 8, .inl wy)), (apx, .inl (cJ, 300, .inr (.inl px))), (apy, .inl (cJ, 300, .inr (.inl py))), (alx, .inl (cJ, 300, .inr (.inl lx_26))), (aly, .inl (cJ, 300, .inr (.inl ly_27)))] := hD
                  refine lv_iinc (v := (k_1 + (1 : Int32))) (lv' := [(4, .int (k_1 + (1 : Int32))), (8, .long r_12), (6, .long r_11), (5, .int v_10), (0, .ref h0), (1, .int a0), (2, .long a1)]) hx hb dX3_cutSide_111 hl (k := 3) rfl rfl (by decide) rfl (fun ls hl => ?_)
                  refine lv_goto (tgt := 8) hx hb dX3_cutSide_114 (by decide) ?_
                  exact ih_8 _ _ _ _ _ _ _ _ _ _ ls hF hP hD hS (lv_sub hl [0, 4, 5, 6] rfl) kx_8
        · have hF := br0 hF c_13
          refine lv_aload_n hx hb dX3_cutSide_55 rfl (lv_at hl 4 rfl) ?_
          refine lv_aload_n hx hb dX3_cutSide_56 rfl (lv_at hl 4 rfl) ?_
          refine va_get (D := (dC, dI)) (ci := 3) (v := .ref apx) (C := RX3) (T := TX3) (N := 11) hx hb hts (by decide +kernel) hown hK hP 0 rfl rfl 5 (by decide) (hts (.fieldLink RX3 26 "DotCoverModel" "px" "[J") (by decide +kernel)) (fun _ h9 => h9) rfl dX3_cutSide_57 ?_
          refine lv_iload hx hb dX3_cutSide_60 (lv_at hl 3 rfl) ?_
          obtain ⟨hi_62, hF⟩ := gd_u hF
          refine va_lald hx hb hK hP 6 2 rfl rfl (in_u hi_62) dX3_cutSide_62 ?_
          refine lv_aload_n hx hb dX3_cutSide_63 rfl (lv_at hl 4 rfl) ?_
          refine va_get (D := (dC, dI)) (ci := 3) (v := .ref apy) (C := RX3) (T := TX3) (N := 11) hx hb hts (by decide +kernel) hown hK hP 0 rfl rfl 6 (by decide) (hts (.fieldLink RX3 30 "DotCoverModel" "py" "[J") (by decide +kernel)) (fun _ h9 => h9) rfl dX3_cutSide_64 ?_
          refine lv_iload hx hb dX3_cutSide_67 (lv_at hl 3 rfl) ?_
          obtain ⟨hi_69, hF⟩ := gd_u hF
          refine va_lald hx hb hK hP 7 2 rfl rfl (in_u hi_69) dX3_cutSide_69 ?_
          obtain ⟨lx_29, ly_30, lf_31, hr_31, hF⟩ := bd3_u hF
          have hPc := hP.sub (ws' := [(h0, .inr (3, [.ref ast, .ref aim, .ref akp, .ref awx, .ref awy, .ref apx, .ref apy, .int co, .ref alx, .ref aly, .int lf_4])), (ast, .inl (cI, 54, .inl st)), (aim, .inl (cI, 108, .inl im)), (akp, .inl (cZ, 2, .inl kp)), (awx, .inl (cI, 8, .inl wx)), (awy, .inl (cI, 8, .inl wy)), (apx, .inl (cJ, 300, .inr (.inl px))), (apy, .inl (cJ, 300, .inr (.inl py))), (alx, .inl (cJ, 300, .inr (.inl lx_2))), (aly, .inl (cJ, 300, .inr (.inl ly_3)))]) [0, 1, 2, 3, 4, 5, 6, 7, 8, 9] rfl
          have hKc := hK.sub (tys' := [(cI, .int), (cZ, .boolean), (cJ, .long)]) [0, 1, 2] rfl
          have hDc := hD.sub (ws' := [(h0, .inr (3, [.ref ast, .ref aim, .ref akp, .ref awx, .ref awy, .ref apx, .ref apy, .int co, .ref alx, .ref aly, .int lf_4])), (ast, .inl (cI, 54, .inl st)), (aim, .inl (cI, 108, .inl im)), (akp, .inl (cZ, 2, .inl kp)), (awx, .inl (cI, 8, .inl wx)), (awy, .inl (cI, 8, .inl wy)), (apx, .inl (cJ, 300, .inr (.inl px))), (apy, .inl (cJ, 300, .inr (.inl py))), (alx, .inl (cJ, 300, .inr (.inl lx_2))), (aly, .inl (cJ, 300, .inr (.inl ly_3)))]) [0, 1, 2, 3, 4, 5, 6, 7, 8, 9] (by decide) rfl
          have hFc := va_free (wc := [(h0, .inr (3, [.ref ast, .ref aim, .ref akp, .ref awx, .ref awy, .ref apx, .ref apy, .int co, .ref alx, .ref aly, .int lf_4])), (ast, .inl (cI, 54, .inl st)), (aim, .inl (cI, 108, .inl im)), (akp, .inl (cZ, 2, .inl kp)), (awx, .inl (cI, 8, .inl wx)), (awy, .inl (cI, 8, .inl wy)), (apx, .inl (cJ, 300, .inr (.inl px))), (apy, .inl (cJ, 300, .inr (.inl py))), (alx, .inl (cJ, 300, .inr (.inl lx_2))), (aly, .inl (cJ, 300, .inr (.inl ly_3)))]) hD hS hA [0, 1, 2, 3, 4, 5, 6, 7, 8, 9] rfl
          refine va_callv (va_runV (As := [.long (px k_1.toNatClampNeg), .long (py k_1.toNatClampNeg)]) (rest := []) ⟨hx, hb, hml, hown, hts⟩ (c_X3_leave l dC dI h0 ast aim akp awx awy apx apy alx aly cI cZ cJ H.size st im kp wx wy px py co lx_2 ly_3 lf_4 (px k_1.toNatClampNeg) (py k_1.toNatClampNeg) lx_29 ly_30 lf_31 hr_31) (cwV 2 hts gX3_cutSide_X3_leave rfl rfl rfl (by decide +kernel) ⟨Nat.le_of_ble_eq_true rfl, Nat.le_of_ble_eq_true rfl⟩) ⟨fun a U g mk q => ⟨q.1, q.2.1, q.2.2.1, va_K.moved (u := U) (U := U.calling g mk a) (Vm.Alike.refl U.vm) q.2.2.2.1, q.2.2.2.2⟩, va_recv hKc hPc (ci := 3) (q0 := 0) rfl rfl, fun U hU hW => ⟨rfl, by rw [hU], by rw [hU]; exact hPc, va_K.moved hW.alike hKc, hDc.weaken (fun _ _ _ _ => trivial)⟩⟩ rfl rfl hl.1 rfl (lv_room (Nat.le_of_ble_eq_true rfl)) dX3_cutSide_70 ⟨Nat.le_of_ble_eq_true rfl, Nat.le_of_ble_eq_true rfl⟩) hS (fun q _ h => hFc q h) hFc (fun _ t H1 locs ht hvm hw hB hz1 hk1 hS => ?_)
          obtain ⟨hP1, hK1, hD1⟩ := hB
          rw [ht] at hP1
          obtain ⟨hP, hD⟩ := va_join (wr := []) (w1 := [(h0, .inr (3, [.ref ast, .ref aim, .ref akp, .ref awx, .ref awy, .ref apx, .ref apy, .int co, .ref alx, .ref aly, .int lf_31])), (ast, .inl (cI, 54, .inl st)), (aim, .inl (cI, 108, .inl im)), (akp, .inl (cZ, 2, .inl kp)), (awx, .inl (cI, 8, .inl wx)), (awy, .inl (cI, 8, .inl wy)), (apx, .inl (cJ, 300, .inr (.inl px))), (apy, .inl (cJ, 300, .inr (.inl py))), (alx, .inl (cJ, 300, .inr (.inl lx_29))), (aly, .inl (cJ, 300, .inr (.inl ly_30)))]) hP hD [0, 1, 2, 3, 4, 5, 6, 7, 8, 9] [] rfl rfl (by decide) (by decide) hk1 hFc hP1 hD1
          clear hP1 hK1 hD1 hk1 hFc
          generalize H1 = H at hP hS ⊢
          have hP : va_P (dC, dI) vwCl [(h0, .inr (3, [.ref ast, .ref aim, .ref akp, .ref awx, .ref awy, .ref apx, .ref apy, .int co, .ref alx, .ref aly, .int lf_31])), (ast, .inl (cI, 54, .inl st)), (aim, .inl (cI, 108, .inl im)), (akp, .inl (cZ, 2, .inl kp)), (awx, .inl (cI, 8, .inl wx)), (awy, .inl (cI, 8, .inl wy)), (apx, .inl (cJ, 300, .inr (.inl px))), (apy, .inl (cJ, 300, .inr (.inl py))), (alx, .inl (cJ, 300, .inr (.inl lx_29))), (aly, .inl (cJ, 300, .inr (.inl ly_30)))] H := hP
          have hD : va_D A [(h0, .inr (3, [.ref ast, .ref aim, .ref akp, .ref awx, .ref awy, .ref apx, .ref apy, .int co, .ref alx, .ref aly, .int lf_31])), (ast, .inl (cI, 54, .inl st)), (aim, .inl (cI, 108, .inl im)), (akp, .inl (cZ, 2, .inl kp)), (awx, .inl (cI, 8, .inl wx)), (awy, .inl (cI, 8, .inl wy)), (apx, .inl (cJ, 300, .inr (.inl px))), (apy, .inl (cJ, 300, .inr (.inl py))), (alx, .inl (cJ, 300, .inr (.inl lx_29))), (aly, .inl (cJ, 300, .inr (.inl ly_30)))] := hD
          refine lv_lload hx hb dX3_cutSide_73 (lv_at hl 1 rfl) ?_
          refine lv_lconst (v := 0) hx hb dX3_cutSide_75 (by decide) ?_
          refine lc_ge (tgt := 87) hx hb dX3_cutSide_76 dX3_cutSide_77 (by decide) (fun c_32 => ?_) (fun c_32 => ?_)
          · have hF := br1 hF c_32
            refine lv_lload hx hb dX3_cutSide_87 (lv_at hl 1 rfl) ?_
            refine lv_lconst (v := 0) hx hb dX3_cutSide_89 (by decide) ?_
            refine lc_le (tgt := 111) hx hb dX3_cutSide_90 dX3_cutSide_91 (by decide) (fun c_33 => ?_) (fun c_33 => ?_)
            · have hF := br1 hF c_33
              refine lv_iinc (v := (k_1 + (1 : Int32))) (lv' := [(4, .int (k_1 + (1 : Int32))), (8, .long r_12), (6, .long r_11), (5, .int v_10), (0, .ref h0), (1, .int a0), (2, .long a1)]) hx hb dX3_cutSide_111 hl (k := 3) rfl rfl (by decide) rfl (fun ls hl => ?_)
              refine lv_goto (tgt := 8) hx hb dX3_cutSide_114 (by decide) ?_
              exact ih_8 _ _ _ _ _ _ _ _ _ _ ls hF hP hD hS (lv_sub hl [0, 4, 5, 6] rfl) kx_8
            · have hF := br0 hF c_33
              refine lv_lload hx hb dX3_cutSide_94 (lv_at hl 0 rfl) ?_
              refine lv_lconst (v := 0) hx hb dX3_cutSide_96 (by decide) ?_
              refine lc_ge (tgt := 111) hx hb dX3_cutSide_97 dX3_cutSide_98 (by decide) (fun c_34 => ?_) (fun c_34 => ?_)
              · have hF := br1 hF c_34
                refine lv_iinc (v := (k_1 + (1 : Int32))) (lv' := [(4, .int (k_1 + (1 : Int32))), (8, .long r_12), (6, .long r_11), (5, .int v_10), (0, .ref h0), (1, .int a0), (2, .long a1)]) hx hb dX3_cutSide_111 hl (k := 3) rfl rfl (by decide) rfl (fun ls hl => ?_)
                refine lv_goto (tgt := 8) hx hb dX3_cutSide_114 (by decide) ?_
                exact ih_8 _ _ _ _ _ _ _ _ _ _ ls hF hP hD hS (lv_sub hl [0, 4, 5, 6] rfl) kx_8
              · have hF := br0 hF c_34
                refine lv_aload_n hx hb dX3_cutSide_101 rfl (lv_at hl 4 rfl) ?_
                refine lv_iload hx hb dX3_cutSide_102 (lv_at hl 3 rfl) ?_
                refine lv_iload hx hb dX3_cutSide_104 (lv_at hl 2 rfl) ?_
                refine lv_iload_n hx hb dX3_cutSide_106 rfl (lv_at hl 5 rfl) ?_
                refine lv_lload_n hx hb dX3_cutSide_107 rfl (lv_at hl 6 rfl) ?_
                obtain ⟨lx_35, ly_36, lf_37, hr_37, hF⟩ := bd3_u hF
                have hPc := hP.sub (ws' := [(h0, .inr (3, [.ref ast, .ref aim, .ref akp, .ref awx, .ref awy, .ref apx, .ref apy, .int co, .ref alx, .ref aly, .int lf_31])), (ast, .inl (cI, 54, .inl st)), (aim, .inl (cI, 108, .inl im)), (akp, .inl (cZ, 2, .inl kp)), (awx, .inl (cI, 8, .inl wx)), (awy, .inl (cI, 8, .inl wy)), (apx, .inl (cJ, 300, .inr (.inl px))), (apy, .inl (cJ, 300, .inr (.inl py))), (alx, .inl (cJ, 300, .inr (.inl lx_29))), (aly, .inl (cJ, 300, .inr (.inl ly_30)))]) [0, 1, 2, 3, 4, 5, 6, 7, 8, 9] rfl
                have hKc := hK.sub (tys' := [(cI, .int), (cZ, .boolean), (cJ, .long)]) [0, 1, 2] rfl
                have hDc := hD.sub (ws' := [(h0, .inr (3, [.ref ast, .ref aim, .ref akp, .ref awx, .ref awy, .ref apx, .ref apy, .int co, .ref alx, .ref aly, .int lf_31])), (ast, .inl (cI, 54, .inl st)), (aim, .inl (cI, 108, .inl im)), (akp, .inl (cZ, 2, .inl kp)), (awx, .inl (cI, 8, .inl wx)), (awy, .inl (cI, 8, .inl wy)), (apx, .inl (cJ, 300, .inr (.inl px))), (apy, .inl (cJ, 300, .inr (.inl py))), (alx, .inl (cJ, 300, .inr (.inl lx_29))), (aly, .inl (cJ, 300, .inr (.inl ly_30)))]) [0, 1, 2, 3, 4, 5, 6, 7, 8, 9] (by decide) rfl
                have hFc := va_free (wc := [(h0, .inr (3, [.ref ast, .ref aim, .ref akp, .ref awx, .ref awy, .ref apx, .ref apy, .int co, .ref alx, .ref aly, .int lf_31])), (ast, .inl (cI, 54, .inl st)), (aim, .inl (cI, 108, .inl im)), (akp, .inl (cZ, 2, .inl kp)), (awx, .inl (cI, 8, .inl wx)), (awy, .inl (cI, 8, .inl wy)), (apx, .inl (cJ, 300, .inr (.inl px))), (apy, .inl (cJ, 300, .inr (.inl py))), (alx, .inl (cJ, 300, .inr (.inl lx_29))), (aly, .inl (cJ, 300, .inr (.inl ly_30)))]) hD hS hA [0, 1, 2, 3, 4, 5, 6, 7, 8, 9] rfl
                refine va_callv (va_runV (As := [.int k_1, .int v_10, .int a0, .long a1]) (rest := []) ⟨hx, hb, hml, hown, hts⟩ (c_X3_leaveCrossing l dC dI h0 ast aim akp awx awy apx apy alx aly cI cZ cJ H.size st im kp wx wy px py co lx_29 ly_30 lf_31 k_1 v_10 a0 a1 lx_35 ly_36 lf_37 hr_37) (cwV 4 hts gX3_cutSide_X3_leaveCrossing rfl rfl rfl (by decide +kernel) ⟨Nat.le_of_ble_eq_true rfl, Nat.le_of_ble_eq_true rfl⟩) ⟨fun a U g mk q => ⟨q.1, q.2.1, q.2.2.1, va_K.moved (u := U) (U := U.calling g mk a) (Vm.Alike.refl U.vm) q.2.2.2.1, q.2.2.2.2⟩, va_recv hKc hPc (ci := 3) (q0 := 0) rfl rfl, fun U hU hW => ⟨rfl, by rw [hU], by rw [hU]; exact hPc, va_K.moved hW.alike hKc, hDc.weaken (fun _ _ _ _ => trivial)⟩⟩ rfl rfl hl.1 rfl (lv_room (Nat.le_of_ble_eq_true rfl)) dX3_cutSide_108 ⟨Nat.le_of_ble_eq_true rfl, Nat.le_of_ble_eq_true rfl⟩) hS (fun q _ h => hFc q h) hFc (fun _ t H1 locs ht hvm hw hB hz1 hk1 hS => ?_)
                obtain ⟨hP1, hK1, hD1⟩ := hB
                rw [ht] at hP1
                obtain ⟨hP, hD⟩ := va_join (wr := []) (w1 := [(h0, .inr (3, [.ref ast, .ref aim, .ref akp, .ref awx, .ref awy, .ref apx, .ref apy, .int co, .ref alx, .ref aly, .int lf_37])), (ast, .inl (cI, 54, .inl st)), (aim, .inl (cI, 108, .inl im)), (akp, .inl (cZ, 2, .inl kp)), (awx, .inl (cI, 8, .inl wx)), (awy, .inl (cI, 8, .inl wy)), (apx, .inl (cJ, 300, .inr (.inl px))), (apy, .inl (cJ, 300, .inr (.inl py))), (alx, .inl (cJ, 300, .inr (.inl lx_35))), (aly, .inl (cJ, 300, .inr (.inl ly_36)))]) hP hD [0, 1, 2, 3, 4, 5, 6, 7, 8, 9] [] rfl rfl (by decide) (by decide) hk1 hFc hP1 hD1
                clear hP1 hK1 hD1 hk1 hFc
                generalize H1 = H at hP hS ⊢
                have hP : va_P (dC, dI) vwCl [(h0, .inr (3, [.ref ast, .ref aim, .ref akp, .ref awx, .ref awy, .ref apx, .ref apy, .int co, .ref alx, .ref aly, .int lf_37])), (ast, .inl (cI, 54, .inl st)), (aim, .inl (cI, 108, .inl im)), (akp, .inl (cZ, 2, .inl kp)), (awx, .inl (cI, 8, .inl wx)), (awy, .inl (cI, 8, .inl wy)), (apx, .inl (cJ, 300, .inr (.inl px))), (apy, .inl (cJ, 300, .inr (.inl py))), (alx, .inl (cJ, 300, .inr (.inl lx_35))), (aly, .inl (cJ, 300, .inr (.inl ly_36)))] H := hP
                have hD : va_D A [(h0, .inr (3, [.ref ast, .ref aim, .ref akp, .ref awx, .ref awy, .ref apx, .ref apy, .int co, .ref alx, .ref aly, .int lf_37])), (ast, .inl (cI, 54, .inl st)), (aim, .inl (cI, 108, .inl im)), (akp, .inl (cZ, 2, .inl kp)), (awx, .inl (cI, 8, .inl wx)), (awy, .inl (cI, 8, .inl wy)), (apx, .inl (cJ, 300, .inr (.inl px))), (apy, .inl (cJ, 300, .inr (.inl py))), (alx, .inl (cJ, 300, .inr (.inl lx_35))), (aly, .inl (cJ, 300, .inr (.inl ly_36)))] := hD
                refine lv_iinc (v := (k_1 + (1 : Int32))) (lv' := [(4, .int (k_1 + (1 : Int32))), (8, .long r_12), (6, .long r_11), (5, .int v_10), (0, .ref h0), (1, .int a0), (2, .long a1)]) hx hb dX3_cutSide_111 hl (k := 3) rfl rfl (by decide) rfl (fun ls hl => ?_)
                refine lv_goto (tgt := 8) hx hb dX3_cutSide_114 (by decide) ?_
                exact ih_8 _ _ _ _ _ _ _ _ _ _ ls hF hP hD hS (lv_sub hl [0, 4, 5, 6] rfl) kx_8
          · have hF := br0 hF c_32
            refine lv_lload hx hb dX3_cutSide_80 (lv_at hl 0 rfl) ?_
            refine lv_lconst (v := 0) hx hb dX3_cutSide_82 (by decide) ?_
            refine lc_gt (tgt := 101) hx hb dX3_cutSide_83 dX3_cutSide_84 (by decide) (fun c_38 => ?_) (fun c_38 => ?_)
            · have hF := br1 hF c_38
              refine lv_aload_n hx hb dX3_cutSide_101 rfl (lv_at hl 4 rfl) ?_
              refine lv_iload hx hb dX3_cutSide_102 (lv_at hl 3 rfl) ?_
              refine lv_iload hx hb dX3_cutSide_104 (lv_at hl 2 rfl) ?_
              refine lv_iload_n hx hb dX3_cutSide_106 rfl (lv_at hl 5 rfl) ?_
              refine lv_lload_n hx hb dX3_cutSide_107 rfl (lv_at hl 6 rfl) ?_
              obtain ⟨lx_39, ly_40, lf_41, hr_41, hF⟩ := bd3_u hF
              have hPc := hP.sub (ws' := [(h0, .inr (3, [.ref ast, .ref aim, .ref akp, .ref awx, .ref awy, .ref apx, .ref apy, .int co, .ref alx, .ref aly, .int lf_31])), (ast, .inl (cI, 54, .inl st)), (aim, .inl (cI, 108, .inl im)), (akp, .inl (cZ, 2, .inl kp)), (awx, .inl (cI, 8, .inl wx)), (awy, .inl (cI, 8, .inl wy)), (apx, .inl (cJ, 300, .inr (.inl px))), (apy, .inl (cJ, 300, .inr (.inl py))), (alx, .inl (cJ, 300, .inr (.inl lx_29))), (aly, .inl (cJ, 300, .inr (.inl ly_30)))]) [0, 1, 2, 3, 4, 5, 6, 7, 8, 9] rfl
              have hKc := hK.sub (tys' := [(cI, .int), (cZ, .boolean), (cJ, .long)]) [0, 1, 2] rfl
              have hDc := hD.sub (ws' := [(h0, .inr (3, [.ref ast, .ref aim, .ref akp, .ref awx, .ref awy, .ref apx, .ref apy, .int co, .ref alx, .ref aly, .int lf_31])), (ast, .inl (cI, 54, .inl st)), (aim, .inl (cI, 108, .inl im)), (akp, .inl (cZ, 2, .inl kp)), (awx, .inl (cI, 8, .inl wx)), (awy, .inl (cI, 8, .inl wy)), (apx, .inl (cJ, 300, .inr (.inl px))), (apy, .inl (cJ, 300, .inr (.inl py))), (alx, .inl (cJ, 300, .inr (.inl lx_29))), (aly, .inl (cJ, 300, .inr (.inl ly_30)))]) [0, 1, 2, 3, 4, 5, 6, 7, 8, 9] (by decide) rfl
              have hFc := va_free (wc := [(h0, .inr (3, [.ref ast, .ref aim, .ref akp, .ref awx, .ref awy, .ref apx, .ref apy, .int co, .ref alx, .ref aly, .int lf_31])), (ast, .inl (cI, 54, .inl st)), (aim, .inl (cI, 108, .inl im)), (akp, .inl (cZ, 2, .inl kp)), (awx, .inl (cI, 8, .inl wx)), (awy, .inl (cI, 8, .inl wy)), (apx, .inl (cJ, 300, .inr (.inl px))), (apy, .inl (cJ, 300, .inr (.inl py))), (alx, .inl (cJ, 300, .inr (.inl lx_29))), (aly, .inl (cJ, 300, .inr (.inl ly_30)))]) hD hS hA [0, 1, 2, 3, 4, 5, 6, 7, 8, 9] rfl
              refine va_callv (va_runV (As := [.int k_1, .int v_10, .int a0, .long a1]) (rest := []) ⟨hx, hb, hml, hown, hts⟩ (c_X3_leaveCrossing l dC dI h0 ast aim akp awx awy apx apy alx aly cI cZ cJ H.size st im kp wx wy px py co lx_29 ly_30 lf_31 k_1 v_10 a0 a1 lx_39 ly_40 lf_41 hr_41) (cwV 4 hts gX3_cutSide_X3_leaveCrossing rfl rfl rfl (by decide +kernel) ⟨Nat.le_of_ble_eq_true rfl, Nat.le_of_ble_eq_true rfl⟩) ⟨fun a U g mk q => ⟨q.1, q.2.1, q.2.2.1, va_K.moved (u := U) (U := U.calling g mk a) (Vm.Alike.refl U.vm) q.2.2.2.1, q.2.2.2.2⟩, va_recv hKc hPc (ci := 3) (q0 := 0) rfl rfl, fun U hU hW => ⟨rfl, by rw [hU], by rw [hU]; exact hPc, va_K.moved hW.alike hKc, hDc.weaken (fun _ _ _ _ => trivial)⟩⟩ rfl rfl hl.1 rfl (lv_room (Nat.le_of_ble_eq_true rfl)) dX3_cutSide_108 ⟨Nat.le_of_ble_eq_true rfl, Nat.le_of_ble_eq_true rfl⟩) hS (fun q _ h => hFc q h) hFc (fun _ t H1 locs ht hvm hw hB hz1 hk1 hS => ?_)
              obtain ⟨hP1, hK1, hD1⟩ := hB
              rw [ht] at hP1
              obtain ⟨hP, hD⟩ := va_join (wr := []) (w1 := [(h0, .inr (3, [.ref ast, .ref aim, .ref akp, .ref awx, .ref awy, .ref apx, .ref apy, .int co, .ref alx, .ref aly, .int lf_41])), (ast, .inl (cI, 54, .inl st)), (aim, .inl (cI, 108, .inl im)), (akp, .inl (cZ, 2, .inl kp)), (awx, .inl (cI, 8, .inl wx)), (awy, .inl (cI, 8, .inl wy)), (apx, .inl (cJ, 300, .inr (.inl px))), (apy, .inl (cJ, 300, .inr (.inl py))), (alx, .inl (cJ, 300, .inr (.inl lx_39))), (aly, .inl (cJ, 300, .inr (.inl ly_40)))]) hP hD [0, 1, 2, 3, 4, 5, 6, 7, 8, 9] [] rfl rfl (by decide) (by decide) hk1 hFc hP1 hD1
              clear hP1 hK1 hD1 hk1 hFc
              generalize H1 = H at hP hS ⊢
              have hP : va_P (dC, dI) vwCl [(h0, .inr (3, [.ref ast, .ref aim, .ref akp, .ref awx, .ref awy, .ref apx, .ref apy, .int co, .ref alx, .ref aly, .int lf_41])), (ast, .inl (cI, 54, .inl st)), (aim, .inl (cI, 108, .inl im)), (akp, .inl (cZ, 2, .inl kp)), (awx, .inl (cI, 8, .inl wx)), (awy, .inl (cI, 8, .inl wy)), (apx, .inl (cJ, 300, .inr (.inl px))), (apy, .inl (cJ, 300, .inr (.inl py))), (alx, .inl (cJ, 300, .inr (.inl lx_39))), (aly, .inl (cJ, 300, .inr (.inl ly_40)))] H := hP
              have hD : va_D A [(h0, .inr (3, [.ref ast, .ref aim, .ref akp, .ref awx, .ref awy, .ref apx, .ref apy, .int co, .ref alx, .ref aly, .int lf_41])), (ast, .inl (cI, 54, .inl st)), (aim, .inl (cI, 108, .inl im)), (akp, .inl (cZ, 2, .inl kp)), (awx, .inl (cI, 8, .inl wx)), (awy, .inl (cI, 8, .inl wy)), (apx, .inl (cJ, 300, .inr (.inl px))), (apy, .inl (cJ, 300, .inr (.inl py))), (alx, .inl (cJ, 300, .inr (.inl lx_39))), (aly, .inl (cJ, 300, .inr (.inl ly_40)))] := hD
              refine lv_iinc (v := (k_1 + (1 : Int32))) (lv' := [(4, .int (k_1 + (1 : Int32))), (8, .long r_12), (6, .long r_11), (5, .int v_10), (0, .ref h0), (1, .int a0), (2, .long a1)]) hx hb dX3_cutSide_111 hl (k := 3) rfl rfl (by decide) rfl (fun ls hl => ?_)
              refine lv_goto (tgt := 8) hx hb dX3_cutSide_114 (by decide) ?_
              exact ih_8 _ _ _ _ _ _ _ _ _ _ ls hF hP hD hS (lv_sub hl [0, 4, 5, 6] rfl) kx_8
            · have hF := br0 hF c_38
              refine lv_lload hx hb dX3_cutSide_87 (lv_at hl 1 rfl) ?_
              refine lv_lconst (v := 0) hx hb dX3_cutSide_89 (by decide) ?_
              refine lc_le (tgt := 111) hx hb dX3_cutSide_90 dX3_cutSide_91 (by decide) (fun c_42 => ?_) (fun c_42 => ?_)
              · have hF := br1 hF c_42
                refine lv_iinc (v := (k_1 + (1 : Int32))) (lv' := [(4, .int (k_1 + (1 : Int32))), (8, .long r_12), (6, .long r_11), (5, .int v_10), (0, .ref h0), (1, .int a0), (2, .long a1)]) hx hb dX3_cutSide_111 hl (k := 3) rfl rfl (by decide) rfl (fun ls hl => ?_)
                refine lv_goto (tgt := 8) hx hb dX3_cutSide_114 (by decide) ?_
                exact ih_8 _ _ _ _ _ _ _ _ _ _ ls hF hP hD hS (lv_sub hl [0, 4, 5, 6] rfl) kx_8
              · have hF := br0 hF c_42
                refine lv_lload hx hb dX3_cutSide_94 (lv_at hl 0 rfl) ?_
                refine lv_lconst (v := 0) hx hb dX3_cutSide_96 (by decide) ?_
                refine lc_ge (tgt := 111) hx hb dX3_cutSide_97 dX3_cutSide_98 (by decide) (fun c_43 => ?_) (fun c_43 => ?_)
                · have hF := br1 hF c_43
                  refine lv_iinc (v := (k_1 + (1 : Int32))) (lv' := [(4, .int (k_1 + (1 : Int32))), (8, .long r_12), (6, .long r_11), (5, .int v_10), (0, .ref h0), (1, .int a0), (2, .long a1)]) hx hb dX3_cutSide_111 hl (k := 3) rfl rfl (by decide) rfl (fun ls hl => ?_)
                  refine lv_goto (tgt := 8) hx hb dX3_cutSide_114 (by decide) ?_
                  exact ih_8 _ _ _ _ _ _ _ _ _ _ ls hF hP hD hS (lv_sub hl [0, 4, 5, 6] rfl) kx_8
                · have hF := br0 hF c_43
                  refine lv_aload_n hx hb dX3_cutSide_101 rfl (lv_at hl 4 rfl) ?_
                  refine lv_iload hx hb dX3_cutSide_102 (lv_at hl 3 rfl) ?_
                  refine lv_iload hx hb dX3_cutSide_104 (lv_at hl 2 rfl) ?_
                  refine lv_iload_n hx hb dX3_cutSide_106 rfl (lv_at hl 5 rfl) ?_
                  refine lv_lload_n hx hb dX3_cutSide_107 rfl (lv_at hl 6 rfl) ?_
                  obtain ⟨lx_44, ly_45, lf_46, hr_46, hF⟩ := bd3_u hF
                  have hPc := hP.sub (ws' := [(h0, .inr (3, [.ref ast, .ref aim, .ref akp, .ref awx, .ref awy, .ref apx, .ref apy, .int co, .ref alx, .ref aly, .int lf_31])), (ast, .inl (cI, 54, .inl st)), (aim, .inl (cI, 108, .inl im)), (akp, .inl (cZ, 2, .inl kp)), (awx, .inl (cI, 8, .inl wx)), (awy, .inl (cI, 8, .inl wy)), (apx, .inl (cJ, 300, .inr (.inl px))), (apy, .inl (cJ, 300, .inr (.inl py))), (alx, .inl (cJ, 300, .inr (.inl lx_29))), (aly, .inl (cJ, 300, .inr (.inl ly_30)))]) [0, 1, 2, 3, 4, 5, 6, 7, 8, 9] rfl
                  have hKc := hK.sub (tys' := [(cI, .int), (cZ, .boolean), (cJ, .long)]) [0, 1, 2] rfl
                  have hDc := hD.sub (ws' := [(h0, .inr (3, [.ref ast, .ref aim, .ref akp, .ref awx, .ref awy, .ref apx, .ref apy, .int co, .ref alx, .ref aly, .int lf_31])), (ast, .inl (cI, 54, .inl st)), (aim, .inl (cI, 108, .inl im)), (akp, .inl (cZ, 2, .inl kp)), (awx, .inl (cI, 8, .inl wx)), (awy, .inl (cI, 8, .inl wy)), (apx, .inl (cJ, 300, .inr (.inl px))), (apy, .inl (cJ, 300, .inr (.inl py))), (alx, .inl (cJ, 300, .inr (.inl lx_29))), (aly, .inl (cJ, 300, .inr (.inl ly_30)))]) [0, 1, 2, 3, 4, 5, 6, 7, 8, 9] (by decide) rfl
                  have hFc := va_free (wc := [(h0, .inr (3, [.ref ast, .ref aim, .ref akp, .ref awx, .ref awy, .ref apx, .ref apy, .int co, .ref alx, .ref aly, .int lf_31])), (ast, .inl (cI, 54, .inl st)), (aim, .inl (cI, 108, .inl im)), (akp, .inl (cZ, 2, .inl kp)), (awx, .inl (cI, 8, .inl wx)), (awy, .inl (cI, 8, .inl wy)), (apx, .inl (cJ, 300, .inr (.inl px))), (apy, .inl (cJ, 300, .inr (.inl py))), (alx, .inl (cJ, 300, .inr (.inl lx_29))), (aly, .inl (cJ, 300, .inr (.inl ly_30)))]) hD hS hA [0, 1, 2, 3, 4, 5, 6, 7, 8, 9] rfl
                  refine va_callv (va_runV (As := [.int k_1, .int v_10, .int a0, .long a1]) (rest := []) ⟨hx, hb, hml, hown, hts⟩ (c_X3_leaveCrossing l dC dI h0 ast aim akp awx awy apx apy alx aly cI cZ cJ H.size st im kp wx wy px py co lx_29 ly_30 lf_31 k_1 v_10 a0 a1 lx_44 ly_45 lf_46 hr_46) (cwV 4 hts gX3_cutSide_X3_leaveCrossing rfl rfl rfl (by decide +kernel) ⟨Nat.le_of_ble_eq_true rfl, Nat.le_of_ble_eq_true rfl⟩) ⟨fun a U g mk q => ⟨q.1, q.2.1, q.2.2.1, va_K.moved (u := U) (U := U.calling g mk a) (Vm.Alike.refl U.vm) q.2.2.2.1, q.2.2.2.2⟩, va_recv hKc hPc (ci := 3) (q0 := 0) rfl rfl, fun U hU hW => ⟨rfl, by rw [hU], by rw [hU]; exact hPc, va_K.moved hW.alike hKc, hDc.weaken (fun _ _ _ _ => trivial)⟩⟩ rfl rfl hl.1 rfl (lv_room (Nat.le_of_ble_eq_true rfl)) dX3_cutSide_108 ⟨Nat.le_of_ble_eq_true rfl, Nat.le_of_ble_eq_true rfl⟩) hS (fun q _ h => hFc q h) hFc (fun _ t H1 locs ht hvm hw hB hz1 hk1 hS => ?_)
                  obtain ⟨hP1, hK1, hD1⟩ := hB
                  rw [ht] at hP1
                  obtain ⟨hP, hD⟩ := va_join (wr := []) (w1 := [(h0, .inr (3, [.ref ast, .ref aim, .ref akp, .ref awx, .ref awy, .ref apx, .ref apy, .int co, .ref alx, .ref aly, .int lf_46])), (ast, .inl (cI, 54, .inl st)), (aim, .inl (cI, 108, .inl im)), (akp, .inl (cZ, 2, .inl kp)), (awx, .inl (cI, 8, .inl wx)), (awy, .inl (cI, 8, .inl wy)), (apx, .inl (cJ, 300, .inr (.inl px))), (apy, .inl (cJ, 300, .inr (.inl py))), (alx, .inl (cJ, 300, .inr (.inl lx_44))), (aly, .inl (cJ, 300, .inr (.inl ly_45)))]) hP hD [0, 1, 2, 3, 4, 5, 6, 7, 8, 9] [] rfl rfl (by decide) (by decide) hk1 hFc hP1 hD1
                  clear hP1 hK1 hD1 hk1 hFc
                  generalize H1 = H at hP hS ⊢
                  have hP : va_P (dC, dI) vwCl [(h0, .inr (3, [.ref ast, .ref aim, .ref akp, .ref awx, .ref awy, .ref apx, .ref apy, .int co, .ref alx, .ref aly, .int lf_46])), (ast, .inl (cI, 54, .inl st)), (aim, .inl (cI, 108, .inl im)), (akp, .inl (cZ, 2, .inl kp)), (awx, .inl (cI, 8, .inl wx)), (awy, .inl (cI, 8, .inl wy)), (apx, .inl (cJ, 300, .inr (.inl px))), (apy, .inl (cJ, 300, .inr (.inl py))), (alx, .inl (cJ, 300, .inr (.inl lx_44))), (aly, .inl (cJ, 300, .inr (.inl ly_45)))] H := hP
                  have hD : va_D A [(h0, .inr (3, [.ref ast, .ref aim, .ref akp, .ref awx, .ref awy, .ref apx, .ref apy, .int co, .ref alx, .ref aly, .int lf_46])), (ast, .inl (cI, 54, .inl st)), (aim, .inl (cI, 108, .inl im)), (akp, .inl (cZ, 2, .inl kp)), (awx, .inl (cI, 8, .inl wx)), (awy, .inl (cI, 8, .inl wy)), (apx, .inl (cJ, 300, .inr (.inl px))), (apy, .inl (cJ, 300, .inr (.inl py))), (alx, .inl (cJ, 300, .inr (.inl lx_44))), (aly, .inl (cJ, 300, .inr (.inl ly_45)))] := hD
                  refine lv_iinc (v := (k_1 + (1 : Int32))) (lv' := [(4, .int (k_1 + (1 : Int32))), (8, .long r_12), (6, .long r_11), (5, .int v_10), (0, .ref h0), (1, .int a0), (2, .long a1)]) hx hb dX3_cutSide_111 hl (k := 3) rfl rfl (by decide) rfl (fun ls hl => ?_)
                  refine lv_goto (tgt := 8) hx hb dX3_cutSide_114 (by decide) ?_
                  exact ih_8 _ _ _ _ _ _ _ _ _ _ ls hF hP hD hS (lv_sub hl [0, 4, 5, 6] rfl) kx_8
  refine lp_8 1000 (0 : Int32) lx ly (0 : Int32) o_5 o_6 o_7 o_8 _ _ ls hL_8 hP hD hS hl (fun H locs ls hP hD hS hl => ?_)
  refine lv_iconst (v := 0) hx hb dX3_cutSide_117 (by decide) ?_
  refine lv_istore (lv' := [(4, .int (0 : Int32)), (0, .ref h0), (1, .int a0), (2, .long a1)]) hx hb dX3_cutSide_118 hl (by decide) rfl (fun ls hl => ?_)
  obtain ⟨o_50, o_51, o_52, hL_120, hF⟩ := bd3_u hF
  have lp_120 : ∀ (n : Nat) (k_47 : Int32) (px_48 : Nat → Int64) (py_49 : Nat → Int64) (o_50 : Int32) (o_51 : Nat → Int64) (o_52 : Nat → Int64) (H : Heap) (locs : List Loc) (ls : Array Slot), L_X3_cutSide_120 o_6 o_7 o_8 n k_47 px_48 py_49 = some (o_50, o_51, o_52) → va_P (dC, dI) vwCl [(h0, .inr (3, [.ref ast, .ref aim, .ref akp, .ref awx, .ref awy, .ref apx, .ref apy, .int co, .ref alx, .ref aly, .int o_8])), (ast, .inl (cI, 54, .inl st)), (aim, .inl (cI, 108, .inl im)), (akp, .inl (cZ, 2, .inl kp)), (awx, .inl (cI, 8, .inl wx)), (awy, .inl (cI, 8, .inl wy)), (apx, .inl (cJ, 300, .inr (.inl px_48))), (apy, .inl (cJ, 300, .inr (.inl py_49))), (alx, .inl (cJ, 300, .inr (.inl o_6))), (aly, .inl (cJ, 300, .inr (.inl o_7)))] H → va_D A [(h0, .inr (3, [.ref ast, .ref aim, .ref akp, .ref awx, .ref awy, .ref apx, .ref apy, .int co, .ref alx, .ref aly, .int o_8])), (ast, .inl (cI, 54, .inl st)), (aim, .inl (cI, 108, .inl im)), (akp, .inl (cZ, 2, .inl kp)), (awx, .inl (cI, 8, .inl wx)), (awy, .inl (cI, 8, .inl wy)), (apx, .inl (cJ, 300, .inr (.inl px_48))), (apy, .inl (cJ, 300, .inr (.inl py_49))), (alx, .inl (cJ, 300, .inr (.inl o_6))), (aly, .inl (cJ, 300, .inr (.inl o_7)))] → va_S A s.heap H locs → lv_has ls 10 [(4, .int k_47), (0, .ref h0), (1, .int a0), (2, .long a1)] → (∀ (H : Heap) (locs : List Loc) (ls : Array Slot), va_P (dC, dI) vwCl [(h0, .inr (3, [.ref ast, .ref aim, .ref akp, .ref awx, .ref awy, .ref apx, .ref apy, .int co, .ref alx, .ref aly, .int o_8])), (ast, .inl (cI, 54, .inl st)), (aim, .inl (cI, 108, .inl im)), (akp, .inl (cZ, 2, .inl kp)), (awx, .inl (cI, 8, .inl wx)), (awy, .inl (cI, 8, .inl wy)), (apx, .inl (cJ, 300, .inr (.inl o_51))), (apy, .inl (cJ, 300, .inr (.inl o_52))), (alx, .inl (cJ, 300, .inr (.inl o_6))), (aly, .inl (cJ, 300, .inr (.inl o_7)))] H → va_D A [(h0, .inr (3, [.ref ast, .ref aim, .ref akp, .ref awx, .ref awy, .ref apx, .ref apy, .int co, .ref alx, .ref aly, .int o_8])), (ast, .inl (cI, 54, .inl st)), (aim, .inl (cI, 108, .inl im)), (akp, .inl (cZ, 2, .inl kp)), (awx, .inl (cI, 8, .inl wx)), (awy, .inl (cI, 8, .inl wy)), (apx, .inl (cJ, 300, .inr (.inl o_51))), (apy, .inl (cJ, 300, .inr (.inl o_52))), (alx, .inl (cJ, 300, .inr (.inl o_6))), (aly, .inl (cJ, 300, .inr (.inl o_7)))] → va_S A s.heap H locs → lv_has ls 10 [(4, .int o_50), (0, .ref h0), (1, .int a0), (2, .long a1)] → W p l e rm_X3_cutSide s m args below meth c H locs 0 0 Q (F0 m 163 ls [])) → W p l e rm_X3_cutSide s m args below meth c H locs 0 0 Q (F0 m 120 ls []) := by
    intro n
    induction n with
    | zero =>
      intro k_47 px_48 py_49 o_50 o_51 o_52 H locs ls hF
      exact nn ((rfl : L_X3_cutSide_120 o_6 o_7 o_8 0 k_47 px_48 py_49 = none).symm.trans hF)
    | succ n ih_120 =>
      intro k_47 px_48 py_49 o_50 o_51 o_52 H locs ls hF hP hD hS hl kx_120
      have hF := (L_X3_cutSide_120_s o_6 o_7 o_8 n k_47 px_48 py_49).symm.trans hF
      refine lv_iload hx hb dX3_cutSide_120 (lv_at hl 0 rfl) ?_
      refine lv_aload_n hx hb dX3_cutSide_122 rfl (lv_at hl 1 rfl) ?_
      refine va_get (D := (dC, dI)) (ci := 3) (v := .int o_8) (C := RX3) (T := TX3) (N := 11) hx hb hts (by decide +kernel) hown hK hP 0 rfl rfl 10 (by decide) (hts (.fieldLink RX3 75 "DotCoverModel" "left" "I") (by decide +kernel)) (fun _ h9 => h9) rfl dX3_cutSide_123 ?_
      refine lv_icmp_ge (tgt := 163) hx hb dX3_cutSide_126 (by decide) (fun c_53 => ?_) (fun c_53 => ?_)
      · have hF := br1 hF c_53
        obtain ⟨rfl, rfl, rfl⟩ := tp3 hF
        exact kx_120 _ _ ls hP hD hS hl
      · have hF := br0 hF c_53
        refine lv_aload_n hx hb dX3_cutSide_129 rfl (lv_at hl 1 rfl) ?_
        refine va_get (D := (dC, dI)) (ci := 3) (v := .ref apx) (C := RX3) (T := TX3) (N := 11) hx hb hts (by decide +kernel) hown hK hP 0 rfl rfl 5 (by decide) (hts (.fieldLink RX3 26 "DotCoverModel" "px" "[J") (by decide +kernel)) (fun _ h9 => h9) rfl dX3_cutSide_130 ?_
        refine lv_iload hx hb dX3_cutSide_133 (lv_at hl 0 rfl) ?_
        refine lv_aload_n hx hb dX3_cutSide_135 rfl (lv_at hl 1 rfl) ?_
        refine va_get (D := (dC, dI)) (ci := 3) (v := .ref alx) (C := RX3) (T := TX3) (N := 11) hx hb hts (by decide +kernel) hown hK hP 0 rfl rfl 8 (by decide) (hts (.fieldLink RX3 33 "DotCoverModel" "leftX" "[J") (by decide +kernel)) (fun _ h9 => h9) rfl dX3_cutSide_136 ?_
        refine lv_iload hx hb dX3_cutSide_139 (lv_at hl 0 rfl) ?_
        obtain ⟨hi_141, hF⟩ := gd_u hF
        refine va_lald hx hb hK hP 8 2 rfl rfl (in_u hi_141) dX3_cutSide_141 ?_
        obtain ⟨hi_142, hF⟩ := gd_u hF
        refine va_last hx hb hK hP hD hS 6 2 rfl rfl (in_u hi_142) dX3_cutSide_142 (fun H locs hP hD hS => ?_)
        have hP : va_P (dC, dI) vwCl [(h0, .inr (3, [.ref ast, .ref aim, .ref akp, .ref awx, .ref awy, .ref apx, .ref apy, .int co, .ref alx, .ref aly, .int o_8])), (ast, .inl (cI, 54, .inl st)), (aim, .inl (cI, 108, .inl im)), (akp, .inl (cZ, 2, .inl kp)), (awx, .inl (cI, 8, .inl wx)), (awy, .inl (cI, 8, .inl wy)), (apx, .inl (cJ, 300, .inr (.inl (vp_updL px_48 k_47.toNatClampNeg (o_6 k_47.toNatClampNeg))))), (apy, .inl (cJ, 300, .inr (.inl py_49))), (alx, .inl (cJ, 300, .inr (.inl o_6))), (aly, .inl (cJ, 300, .inr (.inl o_7)))] H := hP
        have hD : va_D A [(h0, .inr (3, [.ref ast, .ref aim, .ref akp, .ref awx, .ref awy, .ref apx, .ref apy, .int co, .ref alx, .ref aly, .int o_8])), (ast, .inl (cI, 54, .inl st)), (aim, .inl (cI, 108, .inl im)), (akp, .inl (cZ, 2, .inl kp)), (awx, .inl (cI, 8, .inl wx)), (awy, .inl (cI, 8, .inl wy)), (apx, .inl (cJ, 300, .inr (.inl (vp_updL px_48 k_47.toNatClampNeg (o_6 k_47.toNatClampNeg))))), (apy, .inl (cJ, 300, .inr (.inl py_49))), (alx, .inl (cJ, 300, .inr (.inl o_6))), (aly, .inl (cJ, 300, .inr (.inl o_7)))] := hD
        refine lv_aload_n hx hb dX3_cutSide_143 rfl (lv_at hl 1 rfl) ?_
        refine va_get (D := (dC, dI)) (ci := 3) (v := .ref apy) (C := RX3) (T := TX3) (N := 11) hx hb hts (by decide +kernel) hown hK hP 0 rfl rfl 6 (by decide) (hts (.fieldLink RX3 30 "DotCoverModel" "py" "[J") (by decide +kernel)) (fun _ h9 => h9) rfl dX3_cutSide_144 ?_
        refine lv_iload hx hb dX3_cutSide_147 (lv_at hl 0 rfl) ?_
        refine lv_aload_n hx hb dX3_cutSide_149 rfl (lv_at hl 1 rfl) ?_
        refine va_get (D := (dC, dI)) (ci := 3) (v := .ref aly) (C := RX3) (T := TX3) (N := 11) hx hb hts (by decide +kernel) hown hK hP 0 rfl rfl 9 (by decide) (hts (.fieldLink RX3 36 "DotCoverModel" "leftY" "[J") (by decide +kernel)) (fun _ h9 => h9) rfl dX3_cutSide_150 ?_
        refine lv_iload hx hb dX3_cutSide_153 (lv_at hl 0 rfl) ?_
        obtain ⟨hi_155, hF⟩ := gd_u hF
        refine va_lald hx hb hK hP 9 2 rfl rfl (in_u hi_155) dX3_cutSide_155 ?_
        obtain ⟨hi_156, hF⟩ := gd_u hF
        refine va_last hx hb hK hP hD hS 7 2 rfl rfl (in_u hi_156) dX3_cutSide_156 (fun H locs hP hD hS => ?_)
        have hP : va_P (dC, dI) vwCl [(h0, .inr (3, [.ref ast, .ref aim, .ref akp, .ref awx, .ref awy, .ref apx, .ref apy, .int co, .ref alx, .ref aly, .int o_8])), (ast, .inl (cI, 54, .inl st)), (aim, .inl (cI, 108, .inl im)), (akp, .inl (cZ, 2, .inl kp)), (awx, .inl (cI, 8, .inl wx)), (awy, .inl (cI, 8, .inl wy)), (apx, .inl (cJ, 300, .inr (.inl (vp_updL px_48 k_47.toNatClampNeg (o_6 k_47.toNatClampNeg))))), (apy, .inl (cJ, 300, .inr (.inl (vp_updL py_49 k_47.toNatClampNeg (o_7 k_47.toNatClampNeg))))), (alx, .inl (cJ, 300, .inr (.inl o_6))), (aly, .inl (cJ, 300, .inr (.inl o_7)))] H := hP
        have hD : va_D A [(h0, .inr (3, [.ref ast, .ref aim, .ref akp, .ref awx, .ref awy, .ref apx, .ref apy, .int co, .ref alx, .ref aly, .int o_8])), (ast, .inl (cI, 54, .inl st)), (aim, .inl (cI, 108, .inl im)), (akp, .inl (cZ, 2, .inl kp)), (awx, .inl (cI, 8, .inl wx)), (awy, .inl (cI, 8, .inl wy)), (apx, .inl (cJ, 300, .inr (.inl (vp_updL px_48 k_47.toNatClampNeg (o_6 k_47.toNatClampNeg))))), (apy, .inl (cJ, 300, .inr (.inl (vp_updL py_49 k_47.toNatClampNeg (o_7 k_47.toNatClampNeg))))), (alx, .inl (cJ, 300, .inr (.inl o_6))), (aly, .inl (cJ, 300, .inr (.inl o_7)))] := hD
        refine lv_iinc (v := (k_47 + (1 : Int32))) (lv' := [(4, .int (k_47 + (1 : Int32))), (0, .ref h0), (1, .int a0), (2, .long a1)]) hx hb dX3_cutSide_157 hl (k := 0) rfl rfl (by decide) rfl (fun ls hl => ?_)
        refine lv_goto (tgt := 120) hx hb dX3_cutSide_160 (by decide) ?_
        exact ih_120 _ _ _ _ _ _ _ _ ls hF hP hD hS hl kx_120
  refine lp_120 1000 (0 : Int32) px py o_50 o_51 o_52 _ _ ls hL_120 hP hD hS hl (fun H locs ls hP hD hS hl => ?_)
  refine lv_aload_n hx hb dX3_cutSide_163 rfl (lv_at hl 1 rfl) ?_
  refine lv_aload_n hx hb dX3_cutSide_164 rfl (lv_at hl 1 rfl) ?_
  refine va_get (D := (dC, dI)) (ci := 3) (v := .int o_8) (C := RX3) (T := TX3) (N := 11) hx hb hts (by decide +kernel) hown hK hP 0 rfl rfl 10 (by decide) (hts (.fieldLink RX3 75 "DotCoverModel" "left" "I") (by decide +kernel)) (fun _ h9 => h9) rfl dX3_cutSide_165 ?_
  refine va_put (D := (dC, dI)) (ci := 3) (v := .int o_8) (ty := .int) (C := RX3) (T := TX3) (N := 11) hx hb hts (by decide +kernel) tyX3 tyX3_ok nmX3 hown hK hP hD hS 0 rfl rfl 7 (by decide) (hts (.fieldLink RX3 69 "DotCoverModel" "corners" "I") (by decide +kernel)) (fun _ h9 => h9) rfl (by decide +kernel) rfl rfl (Nat.le_of_ble_eq_true rfl) dX3_cutSide_168 (fun H locs hP hD hS => ?_)
  have hP : va_P (dC, dI) vwCl [(h0, .inr (3, [.ref ast, .ref aim, .ref akp, .ref awx, .ref awy, .ref apx, .ref apy, .int o_8, .ref alx, .ref aly, .int o_8])), (ast, .inl (cI, 54, .inl st)), (aim, .inl (cI, 108, .inl im)), (akp, .inl (cZ, 2, .inl kp)), (awx, .inl (cI, 8, .inl wx)), (awy, .inl (cI, 8, .inl wy)), (apx, .inl (cJ, 300, .inr (.inl o_51))), (apy, .inl (cJ, 300, .inr (.inl o_52))), (alx, .inl (cJ, 300, .inr (.inl o_6))), (aly, .inl (cJ, 300, .inr (.inl o_7)))] H := hP
  have hD : va_D A [(h0, .inr (3, [.ref ast, .ref aim, .ref akp, .ref awx, .ref awy, .ref apx, .ref apy, .int o_8, .ref alx, .ref aly, .int o_8])), (ast, .inl (cI, 54, .inl st)), (aim, .inl (cI, 108, .inl im)), (akp, .inl (cZ, 2, .inl kp)), (awx, .inl (cI, 8, .inl wx)), (awy, .inl (cI, 8, .inl wy)), (apx, .inl (cJ, 300, .inr (.inl o_51))), (apy, .inl (cJ, 300, .inr (.inl o_52))), (alx, .inl (cJ, 300, .inr (.inl o_6))), (aly, .inl (cJ, 300, .inr (.inl o_7)))] := hD
  obtain ⟨rfl, rfl, rfl, rfl, rfl, rfl⟩ := tp6 hF
  rw [← hQ]
  exact W.vret hx hb hr (fun t ht hW => ⟨⟨(), rfl, trivial, by rw [ht]; exact hP, va_K.moved hW.alike hK, hD⟩, hS.F ht⟩) hS.2.2 dX3_cutSide_171

def L_X3_twiceArea_4 (px : Nat → Int64) (py : Nat → Int64) (co : Int32) : Nat → Int32 → Int64 → Option (Int32 × Int64)
  | 0, _, _ => none
  | n + 1, k_1, k_2 =>
    if co ≤ k_1 then
      some (k_1, k_2)
    else
      gd (nz co) (
      nm ((k_1 + (1 : Int32)) - (k_1 + (1 : Int32)) / co * co) (fun v_6 =>
      gd (ib k_1 300) (
      gd (ib v_6 300) (
      gd (ib v_6 300) (
      gd (ib k_1 300) (
      nm (k_2 + ((((px k_1.toNatClampNeg) - (px (0 : Int32).toNatClampNeg)) * ((py v_6.toNatClampNeg) - (py (0 : Int32).toNatClampNeg))) - (((px v_6.toNatClampNeg) - (px (0 : Int32).toNatClampNeg)) * ((py k_1.toNatClampNeg) - (py (0 : Int32).toNatClampNeg))))) (fun v_7 =>
      L_X3_twiceArea_4 px py co n (k_1 + (1 : Int32)) v_7)))))))
theorem L_X3_twiceArea_4_s (px : Nat → Int64) (py : Nat → Int64) (co : Int32) (n : Nat) (k_1 : Int32) (k_2 : Int64) : L_X3_twiceArea_4 px py co (n + 1) k_1 k_2 =
    (if co ≤ k_1 then
      some (k_1, k_2)
    else
      gd (nz co) (
      nm ((k_1 + (1 : Int32)) - (k_1 + (1 : Int32)) / co * co) (fun v_6 =>
      gd (ib k_1 300) (
      gd (ib v_6 300) (
      gd (ib v_6 300) (
      gd (ib k_1 300) (
      nm (k_2 + ((((px k_1.toNatClampNeg) - (px (0 : Int32).toNatClampNeg)) * ((py v_6.toNatClampNeg) - (py (0 : Int32).toNatClampNeg))) - (((px v_6.toNatClampNeg) - (px (0 : Int32).toNatClampNeg)) * ((py k_1.toNatClampNeg) - (py (0 : Int32).toNatClampNeg))))) (fun v_7 =>
      L_X3_twiceArea_4 px py co n (k_1 + (1 : Int32)) v_7)))))))) := rfl

def P_X3_twiceArea (px : Nat → Int64) (py : Nat → Int64) (co : Int32) : Option (Int64) :=
  bd2 (L_X3_twiceArea_4 px py co 1000 (0 : Int32) (0 : Int64)) (fun o_3 o_4 =>
  some o_4)

def rm_X3_twiceArea : Room := { frames := 0, cells := 0, slots := 0, locals := 0 }

set_option maxHeartbeats 4000000 in
set_option maxRecDepth 100000 in
theorem c_X3_twiceArea (l : Launch) (dC : Nat → ClassId) (dI : Nat → Nat → Nat) (h0 ast aim akp awx awy apx apy alx aly : Nat) (cI cZ cJ : ClassId) (st : Nat → Int32) (im : Nat → Int32) (kp : Nat → Int32) (wx : Nat → Int32) (wy : Nat → Int32) (px : Nat → Int64) (py : Nat → Int64) (co : Int32) (lx : Nat → Int64) (ly : Nat → Int64) (lf : Int32) (r0 : Int64) (hF : P_X3_twiceArea px py co = some r0) : Met l yX3_twiceArea wsX3_twiceArea rm_X3_twiceArea (va_Pc [.ref h0] (fun U => va_P (dC, dI) vwCl [(h0, .inr (3, [.ref ast, .ref aim, .ref akp, .ref awx, .ref awy, .ref apx, .ref apy, .int co, .ref alx, .ref aly, .int lf])), (ast, .inl (cI, 54, .inl st)), (aim, .inl (cI, 108, .inl im)), (akp, .inl (cZ, 2, .inl kp)), (awx, .inl (cI, 8, .inl wx)), (awy, .inl (cI, 8, .inl wy)), (apx, .inl (cJ, 300, .inr (.inl px))), (apy, .inl (cJ, 300, .inr (.inl py))), (alx, .inl (cJ, 300, .inr (.inl lx))), (aly, .inl (cJ, 300, .inr (.inl ly)))] U.heap ∧ va_K (dC, dI) vwCl [(cI, .int), (cZ, .boolean), (cJ, .long)] U)) (vp_Sl (fun x => x = r0)) 0 0 (fun _ => False) := by
  refine Met.ofW (cc := cX3_twiceArea) (maxL := 5) (ret := (some .long)) (by decide) rfl ?_
  intro p e s m args below meth c s₁ B hml hv
  change W p l e rm_X3_twiceArea s m args below meth c s.heap [] 0 0 _ _
  obtain ⟨hv, hP, hK⟩ := hv
  have hx := B.exec
  have hb := B.bytes
  have hr := B.returns
  have hts := atoms_spec (ws := wsX3_twiceArea) B.pre
  have hown : s.vm.findClass RX3 = some m.cls := findClass_of_methodNamed B.named
  have hlocks := B.notSynchronized
  generalize hQ : MQ below (vp_Sl (fun x => x = r0)) args s 0 0 (fun _ => False) = Q
  have hl := lv_entry ([.ref h0]) (n := 5) (Nat.le_of_ble_eq_true rfl)
  have hE : entryFrame m args 5 = F0 m 0 ((lg_sl ([.ref h0]) ++ List.replicate (5 - (lg_sl ([.ref h0])).length) Slot.unset).toArray) [] := by rw [hv]; exact lg_entry_eq m _ 5
  rw [hE]
  generalize (lg_sl ([.ref h0]) ++ List.replicate (5 - (lg_sl ([.ref h0])).length) Slot.unset).toArray = ls at hl ⊢
  have hl : lv_has ls 5 [(0, .ref h0)] := hl
  unfold P_X3_twiceArea at hF
  refine lv_lconst (v := 0) hx hb dX3_twiceArea_0 (by decide) ?_
  refine lv_lstore_n (lv' := [(1, .long (0 : Int64)), (0, .ref h0)]) hx hb dX3_twiceArea_1 rfl hl (by decide) rfl (fun ls hl => ?_)
  refine lv_iconst (v := 0) hx hb dX3_twiceArea_2 (by decide) ?_
  refine lv_istore_n (lv' := [(3, .int (0 : Int32)), (1, .long (0 : Int64)), (0, .ref h0)]) hx hb dX3_twiceArea_3 rfl hl (by decide) rfl (fun ls hl => ?_)
  obtain ⟨o_3, o_4, hL_4, hF⟩ := bd2_u hF
  have lp_4 : ∀ (n : Nat) (k_1 : Int32) (k_2 : Int64) (o_3 : Int32) (o_4 : Int64) (ls : Array Slot), L_X3_twiceArea_4 px py co n k_1 k_2 = some (o_3, o_4) → lv_has ls 5 [(3, .int k_1), (1, .long k_2), (0, .ref h0)] → (∀ (ls : Array Slot), lv_has ls 5 [(3, .int o_3), (1, .long o_4), (0, .ref h0)] → W p l e rm_X3_twiceArea s m args below meth c s.heap [] 0 0 Q (F0 m 88 ls [])) → W p l e rm_X3_twiceArea s m args below meth c s.heap [] 0 0 Q (F0 m 4 ls []) := by
    intro n
    induction n with
    | zero =>
      intro k_1 k_2 o_3 o_4 ls hF
      exact nn ((rfl : L_X3_twiceArea_4 px py co 0 k_1 k_2 = none).symm.trans hF)
    | succ n ih_4 =>
      intro k_1 k_2 o_3 o_4 ls hF hl kx_4
      have hF := (L_X3_twiceArea_4_s px py co n k_1 k_2).symm.trans hF
      refine lv_iload_n hx hb dX3_twiceArea_4 rfl (lv_at hl 0 rfl) ?_
      refine lv_aload_n hx hb dX3_twiceArea_5 rfl (lv_at hl 2 rfl) ?_
      refine va_get (D := (dC, dI)) (ci := 3) (v := .int co) (C := RX3) (T := TX3) (N := 11) hx hb hts (by decide +kernel) hown hK hP 0 rfl rfl 7 (by decide) (hts (.fieldLink RX3 69 "DotCoverModel" "corners" "I") (by decide +kernel)) (fun _ h9 => h9) rfl dX3_twiceArea_6 ?_
      refine lv_icmp_ge (tgt := 88) hx hb dX3_twiceArea_9 (by decide) (fun c_5 => ?_) (fun c_5 => ?_)
      · have hF := br1 hF c_5
        obtain ⟨rfl, rfl⟩ := tp2 hF
        exact kx_4 ls hl
      · have hF := br0 hF c_5
        refine lv_iload_n hx hb dX3_twiceArea_12 rfl (lv_at hl 0 rfl) ?_
        refine lv_iconst (v := 1) hx hb dX3_twiceArea_13 (by decide) ?_
        refine lv_iadd hx hb dX3_twiceArea_14 ?_
        refine lv_aload_n hx hb dX3_twiceArea_15 rfl (lv_at hl 2 rfl) ?_
        refine va_get (D := (dC, dI)) (ci := 3) (v := .int co) (C := RX3) (T := TX3) (N := 11) hx hb hts (by decide +kernel) hown hK hP 0 rfl rfl 7 (by decide) (hts (.fieldLink RX3 69 "DotCoverModel" "corners" "I") (by decide +kernel)) (fun _ h9 => h9) rfl dX3_twiceArea_16 ?_
        obtain ⟨hz_19, hF⟩ := gd_u hF
        refine lv_irem hx hb dX3_twiceArea_19 (nz_u hz_19) ?_
        refine lv_topi (fun v_6 ev_6 => ?_)
        have hF := nm_u hF ev_6
        refine lv_istore (lv' := [(4, .int v_6), (3, .int k_1), (1, .long k_2), (0, .ref h0)]) hx hb dX3_twiceArea_20 hl (by decide) rfl (fun ls hl => ?_)
        refine lv_lload_n hx hb dX3_twiceArea_22 rfl (lv_at hl 2 rfl) ?_
        refine lv_aload_n hx hb dX3_twiceArea_23 rfl (lv_at hl 3 rfl) ?_
        refine va_get (D := (dC, dI)) (ci := 3) (v := .ref apx) (C := RX3) (T := TX3) (N := 11) hx hb hts (by decide +kernel) hown hK hP 0 rfl rfl 5 (by decide) (hts (.fieldLink RX3 26 "DotCoverModel" "px" "[J") (by decide +kernel)) (fun _ h9 => h9) rfl dX3_twiceArea_24 ?_
        refine lv_iload_n hx hb dX3_twiceArea_27 rfl (lv_at hl 1 rfl) ?_
        obtain ⟨hi_28, hF⟩ := gd_u hF
        refine va_lald hx hb hK hP 6 2 rfl rfl (in_u hi_28) dX3_twiceArea_28 ?_
        refine lv_aload_n hx hb dX3_twiceArea_29 rfl (lv_at hl 3 rfl) ?_
        refine va_get (D := (dC, dI)) (ci := 3) (v := .ref apx) (C := RX3) (T := TX3) (N := 11) hx hb hts (by decide +kernel) hown hK hP 0 rfl rfl 5 (by decide) (hts (.fieldLink RX3 26 "DotCoverModel" "px" "[J") (by decide +kernel)) (fun _ h9 => h9) rfl dX3_twiceArea_30 ?_
        refine lv_iconst (v := 0) hx hb dX3_twiceArea_33 (by decide) ?_
        refine va_lald hx hb hK hP 6 2 rfl rfl (in_k (by decide)) dX3_twiceArea_34 ?_
        refine lv_lsub hx hb dX3_twiceArea_35 ?_
        refine lv_aload_n hx hb dX3_twiceArea_36 rfl (lv_at hl 3 rfl) ?_
        refine va_get (D := (dC, dI)) (ci := 3) (v := .ref apy) (C := RX3) (T := TX3) (N := 11) hx hb hts (by decide +kernel) hown hK hP 0 rfl rfl 6 (by decide) (hts (.fieldLink RX3 30 "DotCoverModel" "py" "[J") (by decide +kernel)) (fun _ h9 => h9) rfl dX3_twiceArea_37 ?_
        refine lv_iload hx hb dX3_twiceArea_40 (lv_at hl 0 rfl) ?_
        obtain ⟨hi_42, hF⟩ := gd_u hF
        refine va_lald hx hb hK hP 7 2 rfl rfl (in_u hi_42) dX3_twiceArea_42 ?_
        refine lv_aload_n hx hb dX3_twiceArea_43 rfl (lv_at hl 3 rfl) ?_
        refine va_get (D := (dC, dI)) (ci := 3) (v := .ref apy) (C := RX3) (T := TX3) (N := 11) hx hb hts (by decide +kernel) hown hK hP 0 rfl rfl 6 (by decide) (hts (.fieldLink RX3 30 "DotCoverModel" "py" "[J") (by decide +kernel)) (fun _ h9 => h9) rfl dX3_twiceArea_44 ?_
        refine lv_iconst (v := 0) hx hb dX3_twiceArea_47 (by decide) ?_
        refine va_lald hx hb hK hP 7 2 rfl rfl (in_k (by decide)) dX3_twiceArea_48 ?_
        refine lv_lsub hx hb dX3_twiceArea_49 ?_
        refine lv_lmul hx hb dX3_twiceArea_50 ?_
        refine lv_aload_n hx hb dX3_twiceArea_51 rfl (lv_at hl 3 rfl) ?_
        refine va_get (D := (dC, dI)) (ci := 3) (v := .ref apx) (C := RX3) (T := TX3) (N := 11) hx hb hts (by decide +kernel) hown hK hP 0 rfl rfl 5 (by decide) (hts (.fieldLink RX3 26 "DotCoverModel" "px" "[J") (by decide +kernel)) (fun _ h9 => h9) rfl dX3_twiceArea_52 ?_
        refine lv_iload hx hb dX3_twiceArea_55 (lv_at hl 0 rfl) ?_
        obtain ⟨hi_57, hF⟩ := gd_u hF
        refine va_lald hx hb hK hP 6 2 rfl rfl (in_u hi_57) dX3_twiceArea_57 ?_
        refine lv_aload_n hx hb dX3_twiceArea_58 rfl (lv_at hl 3 rfl) ?_
        refine va_get (D := (dC, dI)) (ci := 3) (v := .ref apx) (C := RX3) (T := TX3) (N := 11) hx hb hts (by decide +kernel) hown hK hP 0 rfl rfl 5 (by decide) (hts (.fieldLink RX3 26 "DotCoverModel" "px" "[J") (by decide +kernel)) (fun _ h9 => h9) rfl dX3_twiceArea_59 ?_
        refine lv_iconst (v := 0) hx hb dX3_twiceArea_62 (by decide) ?_
        refine va_lald hx hb hK hP 6 2 rfl rfl (in_k (by decide)) dX3_twiceArea_63 ?_
        refine lv_lsub hx hb dX3_twiceArea_64 ?_
        refine lv_aload_n hx hb dX3_twiceArea_65 rfl (lv_at hl 3 rfl) ?_
        refine va_get (D := (dC, dI)) (ci := 3) (v := .ref apy) (C := RX3) (T := TX3) (N := 11) hx hb hts (by decide +kernel) hown hK hP 0 rfl rfl 6 (by decide) (hts (.fieldLink RX3 30 "DotCoverModel" "py" "[J") (by decide +kernel)) (fun _ h9 => h9) rfl dX3_twiceArea_66 ?_
        refine lv_iload_n hx hb dX3_twiceArea_69 rfl (lv_at hl 1 rfl) ?_
        obtain ⟨hi_70, hF⟩ := gd_u hF
        refine va_lald hx hb hK hP 7 2 rfl rfl (in_u hi_70) dX3_twiceArea_70 ?_
        refine lv_aload_n hx hb dX3_twiceArea_71 rfl (lv_at hl 3 rfl) ?_
        refine va_get (D := (dC, dI)) (ci := 3) (v := .ref apy) (C := RX3) (T := TX3) (N := 11) hx hb hts (by decide +kernel) hown hK hP 0 rfl rfl 6 (by decide) (hts (.fieldLink RX3 30 "DotCoverModel" "py" "[J") (by decide +kernel)) (fun _ h9 => h9) rfl dX3_twiceArea_72 ?_
        refine lv_iconst (v := 0) hx hb dX3_twiceArea_75 (by decide) ?_
        refine va_lald hx hb hK hP 7 2 rfl rfl (in_k (by decide)) dX3_twiceArea_76 ?_
        refine lv_lsub hx hb dX3_twiceArea_77 ?_
        refine lv_lmul hx hb dX3_twiceArea_78 ?_
        refine lv_lsub hx hb dX3_twiceArea_79 ?_
        refine lv_ladd hx hb dX3_twiceArea_80 ?_
        refine lv_topl (fun v_7 ev_7 => ?_)
        have hF := nm_u hF ev_7
        refine lv_lstore_n (lv' := [(1, .long v_7), (4, .int v_6), (3, .int k_1), (0, .ref h0)]) hx hb dX3_twiceArea_81 rfl hl (by decide) rfl (fun ls hl => ?_)
        refine lv_iinc (v := (k_1 + (1 : Int32))) (lv' := [(3, .int (k_1 + (1 : Int32))), (1, .long v_7), (4, .int v_6), (0, .ref h0)]) hx hb dX3_twiceArea_82 hl (k := 2) rfl rfl (by decide) rfl (fun ls hl => ?_)
        refine lv_goto (tgt := 4) hx hb dX3_twiceArea_85 (by decide) ?_
        exact ih_4 _ _ _ _ ls hF (lv_sub hl [0, 1, 3] rfl) kx_4
  refine lp_4 1000 (0 : Int32) (0 : Int64) o_3 o_4 ls hL_4 hl (fun ls hl => ?_)
  refine lv_lload_n hx hb dX3_twiceArea_88 rfl (lv_at hl 1 rfl) ?_
  rw [← hQ]
  exact W.lret (v := o_4) hx hb hr (fun t ht hW => ⟨_, rfl, Option.some.inj hF, ht⟩) (fun _ h => by cases h) dX3_twiceArea_89

def P_X3_rawOf (a0 : Int32) (a1 : Int32) (a2 : Int32) (a3 : Int32) (st : Nat → Int32) (px : Nat → Int64) (py : Nat → Int64) (lx : Nat → Int64) (ly : Nat → Int64) : Option (Int64 × (Nat → Int64) × (Nat → Int64) × Int32 × (Nat → Int64) × (Nat → Int64) × Int32) :=
  bd3 (P_X3_layPath a0 a2 a3 st px py) (fun px_1 py_2 co_3 =>
  nm ((83160 : Int64) * (a1 - a1 / (4 : Int32) * (4 : Int32)).toInt64) (fun v_4 =>
  nm ((83160 : Int64) * (a1 / (4 : Int32)).toInt64) (fun v_5 =>
  bd6 (P_X3_cutSide (0 : Int32) v_4 px_1 py_2 co_3 lx ly) (fun px_6 py_7 co_8 lx_9 ly_10 lf_11 =>
  bd6 (P_X3_cutSide (1 : Int32) (v_4 + (83160 : Int64)) px_6 py_7 co_8 lx_9 ly_10) (fun px_12 py_13 co_14 lx_15 ly_16 lf_17 =>
  bd6 (P_X3_cutSide (2 : Int32) v_5 px_12 py_13 co_14 lx_15 ly_16) (fun px_18 py_19 co_20 lx_21 ly_22 lf_23 =>
  bd6 (P_X3_cutSide (3 : Int32) (v_5 + (83160 : Int64)) px_18 py_19 co_20 lx_21 ly_22) (fun px_24 py_25 co_26 lx_27 ly_28 lf_29 =>
  bd1 (P_X3_twiceArea px_24 py_25 co_26) (fun r_30 =>
  some ((r_30 / (27720 : Int64)), px_24, py_25, co_26, lx_27, ly_28, lf_29)))))))))

def rm_X3_rawOf : Room := { frames := 3, cells := 0, slots := 0, locals := 78 }

set_option maxHeartbeats 4000000 in
set_option maxRecDepth 100000 in
theorem c_X3_rawOf (l : Launch) (dC : Nat → ClassId) (dI : Nat → Nat → Nat) (h0 ast aim akp awx awy apx apy alx aly : Nat) (cI cZ cJ : ClassId) (hsz0 : Nat) (st : Nat → Int32) (im : Nat → Int32) (kp : Nat → Int32) (wx : Nat → Int32) (wy : Nat → Int32) (px : Nat → Int64) (py : Nat → Int64) (co : Int32) (lx : Nat → Int64) (ly : Nat → Int64) (lf : Int32) (a0 : Int32) (a1 : Int32) (a2 : Int32) (a3 : Int32) (r0 : Int64) (pxN : Nat → Int64) (pyN : Nat → Int64) (coN : Int32) (lxN : Nat → Int64) (lyN : Nat → Int64) (lfN : Int32) (hF : P_X3_rawOf a0 a1 a2 a3 st px py lx ly = some (r0, pxN, pyN, coN, lxN, lyN, lfN)) : Met l yX3_rawOf wsX3_rawOf rm_X3_rawOf (va_Pc [.ref h0, .int a0, .int a1, .int a2, .int a3] (fun U => U.heap.size = hsz0 ∧ va_P (dC, dI) vwCl [(h0, .inr (3, [.ref ast, .ref aim, .ref akp, .ref awx, .ref awy, .ref apx, .ref apy, .int co, .ref alx, .ref aly, .int lf])), (ast, .inl (cI, 54, .inl st)), (aim, .inl (cI, 108, .inl im)), (akp, .inl (cZ, 2, .inl kp)), (awx, .inl (cI, 8, .inl wx)), (awy, .inl (cI, 8, .inl wy)), (apx, .inl (cJ, 300, .inr (.inl px))), (apy, .inl (cJ, 300, .inr (.inl py))), (alx, .inl (cJ, 300, .inr (.inl lx))), (aly, .inl (cJ, 300, .inr (.inl ly)))] U.heap ∧ va_K (dC, dI) vwCl [(cI, .int), (cZ, .boolean), (cJ, .long)] U ∧ va_D (fun _ => True) [(h0, .inr (3, [.ref ast, .ref aim, .ref akp, .ref awx, .ref awy, .ref apx, .ref apy, .int co, .ref alx, .ref aly, .int lf])), (ast, .inl (cI, 54, .inl st)), (aim, .inl (cI, 108, .inl im)), (akp, .inl (cZ, 2, .inl kp)), (awx, .inl (cI, 8, .inl wx)), (awy, .inl (cI, 8, .inl wy)), (apx, .inl (cJ, 300, .inr (.inl px))), (apy, .inl (cJ, 300, .inr (.inl py))), (alx, .inl (cJ, 300, .inr (.inl lx))), (aly, .inl (cJ, 300, .inr (.inl ly)))])) (va_Ql (fun (r : Int64) (_ : Unit) => r = r0) (fun _ t => va_P (dC, dI) vwCl [(h0, .inr (3, [.ref ast, .ref aim, .ref akp, .ref awx, .ref awy, .ref apx, .ref apy, .int coN, .ref alx, .ref aly, .int lfN])), (ast, .inl (cI, 54, .inl st)), (aim, .inl (cI, 108, .inl im)), (akp, .inl (cZ, 2, .inl kp)), (awx, .inl (cI, 8, .inl wx)), (awy, .inl (cI, 8, .inl wy)), (apx, .inl (cJ, 300, .inr (.inl pxN))), (apy, .inl (cJ, 300, .inr (.inl pyN))), (alx, .inl (cJ, 300, .inr (.inl lxN))), (aly, .inl (cJ, 300, .inr (.inl lyN)))] t.heap ∧ va_K (dC, dI) vwCl [(cI, .int), (cZ, .boolean), (cJ, .long)] t ∧ va_D (va_A [(h0, .inr (3, [.ref ast, .ref aim, .ref akp, .ref awx, .ref awy, .ref apx, .ref apy, .int co, .ref alx, .ref aly, .int lf])), (ast, .inl (cI, 54, .inl st)), (aim, .inl (cI, 108, .inl im)), (akp, .inl (cZ, 2, .inl kp)), (awx, .inl (cI, 8, .inl wx)), (awy, .inl (cI, 8, .inl wy)), (apx, .inl (cJ, 300, .inr (.inl px))), (apy, .inl (cJ, 300, .inr (.inl py))), (alx, .inl (cJ, 300, .inr (.inl lx))), (aly, .inl (cJ, 300, .inr (.inl ly)))] hsz0) [(h0, .inr (3, [.ref ast, .ref aim, .ref akp, .ref awx, .ref awy, .ref apx, .ref apy, .int coN, .ref alx, .ref aly, .int lfN])), (ast, .inl (cI, 54, .inl st)), (aim, .inl (cI, 108, .inl im)), (akp, .inl (cZ, 2, .inl kp)), (awx, .inl (cI, 8, .inl wx)), (awy, .inl (cI, 8, .inl wy)), (apx, .inl (cJ, 300, .inr (.inl pxN))), (apy, .inl (cJ, 300, .inr (.inl pyN))), (alx, .inl (cJ, 300, .inr (.inl lxN))), (aly, .inl (cJ, 300, .inr (.inl lyN)))]) (va_A [(h0, .inr (3, [.ref ast, .ref aim, .ref akp, .ref awx, .ref awy, .ref apx, .ref apy, .int co, .ref alx, .ref aly, .int lf])), (ast, .inl (cI, 54, .inl st)), (aim, .inl (cI, 108, .inl im)), (akp, .inl (cZ, 2, .inl kp)), (awx, .inl (cI, 8, .inl wx)), (awy, .inl (cI, 8, .inl wy)), (apx, .inl (cJ, 300, .inr (.inl px))), (apy, .inl (cJ, 300, .inr (.inl py))), (alx, .inl (cJ, 300, .inr (.inl lx))), (aly, .inl (cJ, 300, .inr (.inl ly)))] hsz0)) 0 0 (va_A [(h0, .inr (3, [.ref ast, .ref aim, .ref akp, .ref awx, .ref awy, .ref apx, .ref apy, .int co, .ref alx, .ref aly, .int lf])), (ast, .inl (cI, 54, .inl st)), (aim, .inl (cI, 108, .inl im)), (akp, .inl (cZ, 2, .inl kp)), (awx, .inl (cI, 8, .inl wx)), (awy, .inl (cI, 8, .inl wy)), (apx, .inl (cJ, 300, .inr (.inl px))), (apy, .inl (cJ, 300, .inr (.inl py))), (alx, .inl (cJ, 300, .inr (.inl lx))), (aly, .inl (cJ, 300, .inr (.inl ly)))] hsz0) := by
  refine Met.ofW (cc := cX3_rawOf) (maxL := 9) (ret := (some .long)) (by decide) rfl ?_
  intro p e s m args below meth c s₁ B hml hv
  change W p l e rm_X3_rawOf s m args below meth c s.heap [] 0 0 _ _
  obtain ⟨hv, hsz, hP, hK, hD0⟩ := hv
  have hx := B.exec
  have hb := B.bytes
  have hr := B.returns
  have hts := atoms_spec (ws := wsX3_rawOf) B.pre
  have hown : s.vm.findClass RX3 = some m.cls := findClass_of_methodNamed B.named
  have hlocks := B.notSynchronized
  subst hsz
  have hD := hD0.self (sz := s.heap.size)
  generalize hAe : va_A [(h0, .inr (3, [.ref ast, .ref aim, .ref akp, .ref awx, .ref awy, .ref apx, .ref apy, .int co, .ref alx, .ref aly, .int lf])), (ast, .inl (cI, 54, .inl st)), (aim, .inl (cI, 108, .inl im)), (akp, .inl (cZ, 2, .inl kp)), (awx, .inl (cI, 8, .inl wx)), (awy, .inl (cI, 8, .inl wy)), (apx, .inl (cJ, 300, .inr (.inl px))), (apy, .inl (cJ, 300, .inr (.inl py))), (alx, .inl (cJ, 300, .inr (.inl lx))), (aly, .inl (cJ, 300, .inr (.inl ly)))] s.heap.size = A at hD ⊢
  have hA : ∀ q : Nat, s.heap.size ≤ q → A q := fun q h => by rw [← hAe]; exact Or.inr h
  have hS : va_S A s.heap s.heap [] := va_S.rf
  generalize hQ : MQ below (va_Ql (fun (r : Int64) (_ : Unit) => r = r0) (fun _ t => va_P (dC, dI) vwCl [(h0, .inr (3, [.ref ast, .ref aim, .ref akp, .ref awx, .ref awy, .ref apx, .ref apy, .int coN, .ref alx, .ref aly, .int lfN])), (ast, .inl (cI, 54, .inl st)), (aim, .inl (cI, 108, .inl im)), (akp, .inl (cZ, 2, .inl kp)), (awx, .inl (cI, 8, .inl wx)), (awy, .inl (cI, 8, .inl wy)), (apx, .inl (cJ, 300, .inr (.inl pxN))), (apy, .inl (cJ, 300, .inr (.inl pyN))), (alx, .inl (cJ, 300, .inr (.inl lxN))), (aly, .inl (cJ, 300, .inr (.inl lyN)))] t.heap ∧ va_K (dC, dI) vwCl [(cI, .int), (cZ, .boolean), (cJ, .long)] t ∧ va_D A [(h0, .inr (3, [.ref ast, .ref aim, .ref akp, .ref awx, .ref awy, .ref apx, .ref apy, .int coN, .ref alx, .ref aly, .int lfN])), (ast, .inl (cI, 54, .inl st)), (aim, .inl (cI, 108, .inl im)), (akp, .inl (cZ, 2, .inl kp)), (awx, .inl (cI, 8, .inl wx)), (awy, .inl (cI, 8, .inl wy)), (apx, .inl (cJ, 300, .inr (.inl pxN))), (apy, .inl (cJ, 300, .inr (.inl pyN))), (alx, .inl (cJ, 300, .inr (.inl lxN))), (aly, .inl (cJ, 300, .inr (.inl lyN)))]) A) args s 0 0 A = Q
  have hl := lv_entry ([.ref h0, .int a0, .int a1, .int a2, .int a3]) (n := 9) (Nat.le_of_ble_eq_true rfl)
  have hE : entryFrame m args 9 = F0 m 0 ((lg_sl ([.ref h0, .int a0, .int a1, .int a2, .int a3]) ++ List.replicate (9 - (lg_sl ([.ref h0, .int a0, .int a1, .int a2, .int a3])).length) Slot.unset).toArray) [] := by rw [hv]; exact lg_entry_eq m _ 9
  rw [hE]
  generalize (lg_sl ([.ref h0, .int a0, .int a1, .int a2, .int a3]) ++ List.replicate (9 - (lg_sl ([.ref h0, .int a0, .int a1, .int a2, .int a3])).length) Slot.unset).toArray = ls at hl ⊢
  have hl : lv_has ls 9 [(0, .ref h0), (1, .int a0), (2, .int a1), (3, .int a2), (4, .int a3)] := hl
  unfold P_X3_rawOf at hF
  refine lv_aload_n hx hb dX3_rawOf_0 rfl (lv_at hl 0 rfl) ?_
  refine lv_iload_n hx hb dX3_rawOf_1 rfl (lv_at hl 1 rfl) ?_
  refine lv_iload_n hx hb dX3_rawOf_2 rfl (lv_at hl 3 rfl) ?_
  refine lv_iload hx hb dX3_rawOf_3 (lv_at hl 4 rfl) ?_
  obtain ⟨px_1, py_2, co_3, hr_3, hF⟩ := bd3_u hF
  have hPc := hP.sub (ws' := [(h0, .inr (3, [.ref ast, .ref aim, .ref akp, .ref awx, .ref awy, .ref apx, .ref apy, .int co, .ref alx, .ref aly, .int lf])), (ast, .inl (cI, 54, .inl st)), (aim, .inl (cI, 108, .inl im)), (akp, .inl (cZ, 2, .inl kp)), (awx, .inl (cI, 8, .inl wx)), (awy, .inl (cI, 8, .inl wy)), (apx, .inl (cJ, 300, .inr (.inl px))), (apy, .inl (cJ, 300, .inr (.inl py))), (alx, .inl (cJ, 300, .inr (.inl lx))), (aly, .inl (cJ, 300, .inr (.inl ly)))]) [0, 1, 2, 3, 4, 5, 6, 7, 8, 9] rfl
  have hKc := hK.sub (tys' := [(cI, .int), (cZ, .boolean), (cJ, .long)]) [0, 1, 2] rfl
  have hDc := hD.sub (ws' := [(h0, .inr (3, [.ref ast, .ref aim, .ref akp, .ref awx, .ref awy, .ref apx, .ref apy, .int co, .ref alx, .ref aly, .int lf])), (ast, .inl (cI, 54, .inl st)), (aim, .inl (cI, 108, .inl im)), (akp, .inl (cZ, 2, .inl kp)), (awx, .inl (cI, 8, .inl wx)), (awy, .inl (cI, 8, .inl wy)), (apx, .inl (cJ, 300, .inr (.inl px))), (apy, .inl (cJ, 300, .inr (.inl py))), (alx, .inl (cJ, 300, .inr (.inl lx))), (aly, .inl (cJ, 300, .inr (.inl ly)))]) [0, 1, 2, 3, 4, 5, 6, 7, 8, 9] (by decide) rfl
  have hFc := va_free (wc := [(h0, .inr (3, [.ref ast, .ref aim, .ref akp, .ref awx, .ref awy, .ref apx, .ref apy, .int co, .ref alx, .ref aly, .int lf])), (ast, .inl (cI, 54, .inl st)), (aim, .inl (cI, 108, .inl im)), (akp, .inl (cZ, 2, .inl kp)), (awx, .inl (cI, 8, .inl wx)), (awy, .inl (cI, 8, .inl wy)), (apx, .inl (cJ, 300, .inr (.inl px))), (apy, .inl (cJ, 300, .inr (.inl py))), (alx, .inl (cJ, 300, .inr (.inl lx))), (aly, .inl (cJ, 300, .inr (.inl ly)))]) hD hS hA [0, 1, 2, 3, 4, 5, 6, 7, 8, 9] rfl
  refine va_callv (va_runV (As := [.int a0, .int a2, .int a3]) (rest := []) ⟨hx, hb, hml, hown, hts⟩ (c_X3_layPath l dC dI h0 ast aim akp awx awy apx apy alx aly cI cZ cJ s.heap.size st im kp wx wy px py co lx ly lf a0 a2 a3 px_1 py_2 co_3 hr_3) (cwV 3 hts gX3_rawOf_X3_layPath rfl rfl rfl (by decide +kernel) ⟨Nat.le_of_ble_eq_true rfl, Nat.le_of_ble_eq_true rfl⟩) ⟨fun a U g mk q => ⟨q.1, q.2.1, q.2.2.1, va_K.moved (u := U) (U := U.calling g mk a) (Vm.Alike.refl U.vm) q.2.2.2.1, q.2.2.2.2⟩, va_recv hKc hPc (ci := 3) (q0 := 0) rfl rfl, fun U hU hW => ⟨rfl, by rw [hU], by rw [hU]; exact hPc, va_K.moved hW.alike hKc, hDc.weaken (fun _ _ _ _ => trivial)⟩⟩ rfl rfl hl.1 rfl (lv_room (Nat.le_of_ble_eq_true rfl)) dX3_rawOf_5 ⟨Nat.le_of_ble_eq_true rfl, Nat.le_of_ble_eq_true rfl⟩) hS (fun q _ h => hFc q h) hFc (fun _ t H1 locs ht hvm hw hB hz1 hk1 hS => ?_)
  obtain ⟨hP1, hK1, hD1⟩ := hB
  rw [ht] at hP1
  obtain ⟨hP, hD⟩ := va_join (wr := []) (w1 := [(h0, .inr (3, [.ref ast, .ref aim, .ref akp, .ref awx, .ref awy, .ref apx, .ref apy, .int co_3, .ref alx, .ref aly, .int lf])), (ast, .inl (cI, 54, .inl st)), (aim, .inl (cI, 108, .inl im)), (akp, .inl (cZ, 2, .inl kp)), (awx, .inl (cI, 8, .inl wx)), (awy, .inl (cI, 8, .inl wy)), (apx, .inl (cJ, 300, .inr (.inl px_1))), (apy, .inl (cJ, 300, .inr (.inl py_2))), (alx, .inl (cJ, 300, .inr (.inl lx))), (aly, .inl (cJ, 300, .inr (.inl ly)))]) hP hD [0, 1, 2, 3, 4, 5, 6, 7, 8, 9] [] rfl rfl (by decide) (by decide) hk1 hFc hP1 hD1
  clear hP1 hK1 hD1 hk1 hFc
  generalize H1 = H at hP hS ⊢
  have hP : va_P (dC, dI) vwCl [(h0, .inr (3, [.ref ast, .ref aim, .ref akp, .ref awx, .ref awy, .ref apx, .ref apy, .int co_3, .ref alx, .ref aly, .int lf])), (ast, .inl (cI, 54, .inl st)), (aim, .inl (cI, 108, .inl im)), (akp, .inl (cZ, 2, .inl kp)), (awx, .inl (cI, 8, .inl wx)), (awy, .inl (cI, 8, .inl wy)), (apx, .inl (cJ, 300, .inr (.inl px_1))), (apy, .inl (cJ, 300, .inr (.inl py_2))), (alx, .inl (cJ, 300, .inr (.inl lx))), (aly, .inl (cJ, 300, .inr (.inl ly)))] H := hP
  have hD : va_D A [(h0, .inr (3, [.ref ast, .ref aim, .ref akp, .ref awx, .ref awy, .ref apx, .ref apy, .int co_3, .ref alx, .ref aly, .int lf])), (ast, .inl (cI, 54, .inl st)), (aim, .inl (cI, 108, .inl im)), (akp, .inl (cZ, 2, .inl kp)), (awx, .inl (cI, 8, .inl wx)), (awy, .inl (cI, 8, .inl wy)), (apx, .inl (cJ, 300, .inr (.inl px_1))), (apy, .inl (cJ, 300, .inr (.inl py_2))), (alx, .inl (cJ, 300, .inr (.inl lx))), (aly, .inl (cJ, 300, .inr (.inl ly)))] := hD
  refine lv_ldc2 (v := 83160) hx hb hown (hts (.constantLong RX3 93 (83160)) (by decide +kernel)) dX3_rawOf_8 ?_
  refine lv_iload_n hx hb dX3_rawOf_11 rfl (lv_at hl 2 rfl) ?_
  refine lv_iconst (v := 4) hx hb dX3_rawOf_12 (by decide) ?_
  refine lv_irem hx hb dX3_rawOf_13 (by decide) ?_
  refine lv_i2l (v := (a1 - a1 / (4 : Int32) * (4 : Int32)).toInt64) hx hb dX3_rawOf_14 rfl ?_
  refine lv_lmul hx hb dX3_rawOf_15 ?_
  refine lv_topl (fun v_4 ev_4 => ?_)
  have hF := nm_u hF ev_4
  refine lv_lstore (lv' := [(5, .long v_4), (0, .ref h0), (1, .int a0), (2, .int a1), (3, .int a2), (4, .int a3)]) hx hb dX3_rawOf_16 hl (by decide) rfl (fun ls hl => ?_)
  refine lv_ldc2 (v := 83160) hx hb hown (hts (.constantLong RX3 93 (83160)) (by decide +kernel)) dX3_rawOf_18 ?_
  refine lv_iload_n hx hb dX3_rawOf_21 rfl (lv_at hl 3 rfl) ?_
  refine lv_iconst (v := 4) hx hb dX3_rawOf_22 (by decide) ?_
  refine lv_idiv hx hb dX3_rawOf_23 (by decide) ?_
  refine lv_i2l (v := (a1 / (4 : Int32)).toInt64) hx hb dX3_rawOf_24 rfl ?_
  refine lv_lmul hx hb dX3_rawOf_25 ?_
  refine lv_topl (fun v_5 ev_5 => ?_)
  have hF := nm_u hF ev_5
  refine lv_lstore (lv' := [(7, .long v_5), (5, .long v_4), (0, .ref h0), (1, .int a0), (2, .int a1), (3, .int a2), (4, .int a3)]) hx hb dX3_rawOf_26 hl (by decide) rfl (fun ls hl => ?_)
  refine lv_aload_n hx hb dX3_rawOf_28 rfl (lv_at hl 2 rfl) ?_
  refine lv_iconst (v := 0) hx hb dX3_rawOf_29 (by decide) ?_
  refine lv_lload hx hb dX3_rawOf_30 (lv_at hl 1 rfl) ?_
  obtain ⟨px_6, py_7, co_8, lx_9, ly_10, lf_11, hr_11, hF⟩ := bd6_u hF
  have hPc := hP.sub (ws' := [(h0, .inr (3, [.ref ast, .ref aim, .ref akp, .ref awx, .ref awy, .ref apx, .ref apy, .int co_3, .ref alx, .ref aly, .int lf])), (ast, .inl (cI, 54, .inl st)), (aim, .inl (cI, 108, .inl im)), (akp, .inl (cZ, 2, .inl kp)), (awx, .inl (cI, 8, .inl wx)), (awy, .inl (cI, 8, .inl wy)), (apx, .inl (cJ, 300, .inr (.inl px_1))), (apy, .inl (cJ, 300, .inr (.inl py_2))), (alx, .inl (cJ, 300, .inr (.inl lx))), (aly, .inl (cJ, 300, .inr (.inl ly)))]) [0, 1, 2, 3, 4, 5, 6, 7, 8, 9] rfl
  have hKc := hK.sub (tys' := [(cI, .int), (cZ, .boolean), (cJ, .long)]) [0, 1, 2] rfl
  have hDc := hD.sub (ws' := [(h0, .inr (3, [.ref ast, .ref aim, .ref akp, .ref awx, .ref awy, .ref apx, .ref apy, .int co_3, .ref alx, .ref aly, .int lf])), (ast, .inl (cI, 54, .inl st)), (aim, .inl (cI, 108, .inl im)), (akp, .inl (cZ, 2, .inl kp)), (awx, .inl (cI, 8, .inl wx)), (awy, .inl (cI, 8, .inl wy)), (apx, .inl (cJ, 300, .inr (.inl px_1))), (apy, .inl (cJ, 300, .inr (.inl py_2))), (alx, .inl (cJ, 300, .inr (.inl lx))), (aly, .inl (cJ, 300, .inr (.inl ly)))]) [0, 1, 2, 3, 4, 5, 6, 7, 8, 9] (by decide) rfl
  have hFc := va_free (wc := [(h0, .inr (3, [.ref ast, .ref aim, .ref akp, .ref awx, .ref awy, .ref apx, .ref apy, .int co_3, .ref alx, .ref aly, .int lf])), (ast, .inl (cI, 54, .inl st)), (aim, .inl (cI, 108, .inl im)), (akp, .inl (cZ, 2, .inl kp)), (awx, .inl (cI, 8, .inl wx)), (awy, .inl (cI, 8, .inl wy)), (apx, .inl (cJ, 300, .inr (.inl px_1))), (apy, .inl (cJ, 300, .inr (.inl py_2))), (alx, .inl (cJ, 300, .inr (.inl lx))), (aly, .inl (cJ, 300, .inr (.inl ly)))]) hD hS hA [0, 1, 2, 3, 4, 5, 6, 7, 8, 9] rfl
  refine va_callv (va_runV (As := [.int (0 : Int32), .long v_4]) (rest := []) ⟨hx, hb, hml, hown, hts⟩ (c_X3_cutSide l dC dI h0 ast aim akp awx awy apx apy alx aly cI cZ cJ H.size st im kp wx wy px_1 py_2 co_3 lx ly lf (0 : Int32) v_4 px_6 py_7 co_8 lx_9 ly_10 lf_11 hr_11) (cwV 2 hts gX3_rawOf_X3_cutSide rfl rfl rfl (by decide +kernel) ⟨Nat.le_of_ble_eq_true rfl, Nat.le_of_ble_eq_true rfl⟩) ⟨fun a U g mk q => ⟨q.1, q.2.1, q.2.2.1, va_K.moved (u := U) (U := U.calling g mk a) (Vm.Alike.refl U.vm) q.2.2.2.1, q.2.2.2.2⟩, va_recv hKc hPc (ci := 3) (q0 := 0) rfl rfl, fun U hU hW => ⟨rfl, by rw [hU], by rw [hU]; exact hPc, va_K.moved hW.alike hKc, hDc.weaken (fun _ _ _ _ => trivial)⟩⟩ rfl rfl hl.1 rfl (lv_room (Nat.le_of_ble_eq_true rfl)) dX3_rawOf_32 ⟨Nat.le_of_ble_eq_true rfl, Nat.le_of_ble_eq_true rfl⟩) hS (fun q _ h => hFc q h) hFc (fun _ t H1 locs ht hvm hw hB hz1 hk1 hS => ?_)
  obtain ⟨hP1, hK1, hD1⟩ := hB
  rw [ht] at hP1
  obtain ⟨hP, hD⟩ := va_join (wr := []) (w1 := [(h0, .inr (3, [.ref ast, .ref aim, .ref akp, .ref awx, .ref awy, .ref apx, .ref apy, .int co_8, .ref alx, .ref aly, .int lf_11])), (ast, .inl (cI, 54, .inl st)), (aim, .inl (cI, 108, .inl im)), (akp, .inl (cZ, 2, .inl kp)), (awx, .inl (cI, 8, .inl wx)), (awy, .inl (cI, 8, .inl wy)), (apx, .inl (cJ, 300, .inr (.inl px_6))), (apy, .inl (cJ, 300, .inr (.inl py_7))), (alx, .inl (cJ, 300, .inr (.inl lx_9))), (aly, .inl (cJ, 300, .inr (.inl ly_10)))]) hP hD [0, 1, 2, 3, 4, 5, 6, 7, 8, 9] [] rfl rfl (by decide) (by decide) hk1 hFc hP1 hD1
  clear hP1 hK1 hD1 hk1 hFc
  generalize H1 = H at hP hS ⊢
  have hP : va_P (dC, dI) vwCl [(h0, .inr (3, [.ref ast, .ref aim, .ref akp, .ref awx, .ref awy, .ref apx, .ref apy, .int co_8, .ref alx, .ref aly, .int lf_11])), (ast, .inl (cI, 54, .inl st)), (aim, .inl (cI, 108, .inl im)), (akp, .inl (cZ, 2, .inl kp)), (awx, .inl (cI, 8, .inl wx)), (awy, .inl (cI, 8, .inl wy)), (apx, .inl (cJ, 300, .inr (.inl px_6))), (apy, .inl (cJ, 300, .inr (.inl py_7))), (alx, .inl (cJ, 300, .inr (.inl lx_9))), (aly, .inl (cJ, 300, .inr (.inl ly_10)))] H := hP
  have hD : va_D A [(h0, .inr (3, [.ref ast, .ref aim, .ref akp, .ref awx, .ref awy, .ref apx, .ref apy, .int co_8, .ref alx, .ref aly, .int lf_11])), (ast, .inl (cI, 54, .inl st)), (aim, .inl (cI, 108, .inl im)), (akp, .inl (cZ, 2, .inl kp)), (awx, .inl (cI, 8, .inl wx)), (awy, .inl (cI, 8, .inl wy)), (apx, .inl (cJ, 300, .inr (.inl px_6))), (apy, .inl (cJ, 300, .inr (.inl py_7))), (alx, .inl (cJ, 300, .inr (.inl lx_9))), (aly, .inl (cJ, 300, .inr (.inl ly_10)))] := hD
  refine lv_aload_n hx hb dX3_rawOf_35 rfl (lv_at hl 2 rfl) ?_
  refine lv_iconst (v := 1) hx hb dX3_rawOf_36 (by decide) ?_
  refine lv_lload hx hb dX3_rawOf_37 (lv_at hl 1 rfl) ?_
  refine lv_ldc2 (v := 83160) hx hb hown (hts (.constantLong RX3 93 (83160)) (by decide +kernel)) dX3_rawOf_39 ?_
  refine lv_ladd hx hb dX3_rawOf_42 ?_
  obtain ⟨px_12, py_13, co_14, lx_15, ly_16, lf_17, hr_17, hF⟩ := bd6_u hF
  have hPc := hP.sub (ws' := [(h0, .inr (3, [.ref ast, .ref aim, .ref akp, .ref awx, .ref awy, .ref apx, .ref apy, .int co_8, .ref alx, .ref aly, .int lf_11])), (ast, .inl (cI, 54, .inl st)), (aim, .inl (cI, 108, .inl im)), (akp, .inl (cZ, 2, .inl kp)), (awx, .inl (cI, 8, .inl wx)), (awy, .inl (cI, 8, .inl wy)), (apx, .inl (cJ, 300, .inr (.inl px_6))), (apy, .inl (cJ, 300, .inr (.inl py_7))), (alx, .inl (cJ, 300, .inr (.inl lx_9))), (aly, .inl (cJ, 300, .inr (.inl ly_10)))]) [0, 1, 2, 3, 4, 5, 6, 7, 8, 9] rfl
  have hKc := hK.sub (tys' := [(cI, .int), (cZ, .boolean), (cJ, .long)]) [0, 1, 2] rfl
  have hDc := hD.sub (ws' := [(h0, .inr (3, [.ref ast, .ref aim, .ref akp, .ref awx, .ref awy, .ref apx, .ref apy, .int co_8, .ref alx, .ref aly, .int lf_11])), (ast, .inl (cI, 54, .inl st)), (aim, .inl (cI, 108, .inl im)), (akp, .inl (cZ, 2, .inl kp)), (awx, .inl (cI, 8, .inl wx)), (awy, .inl (cI, 8, .inl wy)), (apx, .inl (cJ, 300, .inr (.inl px_6))), (apy, .inl (cJ, 300, .inr (.inl py_7))), (alx, .inl (cJ, 300, .inr (.inl lx_9))), (aly, .inl (cJ, 300, .inr (.inl ly_10)))]) [0, 1, 2, 3, 4, 5, 6, 7, 8, 9] (by decide) rfl
  have hFc := va_free (wc := [(h0, .inr (3, [.ref ast, .ref aim, .ref akp, .ref awx, .ref awy, .ref apx, .ref apy, .int co_8, .ref alx, .ref aly, .int lf_11])), (ast, .inl (cI, 54, .inl st)), (aim, .inl (cI, 108, .inl im)), (akp, .inl (cZ, 2, .inl kp)), (awx, .inl (cI, 8, .inl wx)), (awy, .inl (cI, 8, .inl wy)), (apx, .inl (cJ, 300, .inr (.inl px_6))), (apy, .inl (cJ, 300, .inr (.inl py_7))), (alx, .inl (cJ, 300, .inr (.inl lx_9))), (aly, .inl (cJ, 300, .inr (.inl ly_10)))]) hD hS hA [0, 1, 2, 3, 4, 5, 6, 7, 8, 9] rfl
  refine va_callv (va_runV (As := [.int (1 : Int32), .long (v_4 + (83160 : Int64))]) (rest := []) ⟨hx, hb, hml, hown, hts⟩ (c_X3_cutSide l dC dI h0 ast aim akp awx awy apx apy alx aly cI cZ cJ H.size st im kp wx wy px_6 py_7 co_8 lx_9 ly_10 lf_11 (1 : Int32) (v_4 + (83160 : Int64)) px_12 py_13 co_14 lx_15 ly_16 lf_17 hr_17) (cwV 2 hts gX3_rawOf_X3_cutSide rfl rfl rfl (by decide +kernel) ⟨Nat.le_of_ble_eq_true rfl, Nat.le_of_ble_eq_true rfl⟩) ⟨fun a U g mk q => ⟨q.1, q.2.1, q.2.2.1, va_K.moved (u := U) (U := U.calling g mk a) (Vm.Alike.refl U.vm) q.2.2.2.1, q.2.2.2.2⟩, va_recv hKc hPc (ci := 3) (q0 := 0) rfl rfl, fun U hU hW => ⟨rfl, by rw [hU], by rw [hU]; exact hPc, va_K.moved hW.alike hKc, hDc.weaken (fun _ _ _ _ => trivial)⟩⟩ rfl rfl hl.1 rfl (lv_room (Nat.le_of_ble_eq_true rfl)) dX3_rawOf_43 ⟨Nat.le_of_ble_eq_true rfl, Nat.le_of_ble_eq_true rfl⟩) hS (fun q _ h => hFc q h) hFc (fun _ t H1 locs ht hvm hw hB hz1 hk1 hS => ?_)
  obtain ⟨hP1, hK1, hD1⟩ := hB
  rw [ht] at hP1
  obtain ⟨hP, hD⟩ := va_join (wr := []) (w1 := [(h0, .inr (3, [.ref ast, .ref aim, .ref akp, .ref awx, .ref awy, .ref apx, .ref apy, .int co_14, .ref alx, .ref aly, .int lf_17])), (ast, .inl (cI, 54, .inl st)), (aim, .inl (cI, 108, .inl im)), (akp, .inl (cZ, 2, .inl kp)), (awx, .inl (cI, 8, .inl wx)), (awy, .inl (cI, 8, .inl wy)), (apx, .inl (cJ, 300, .inr (.inl px_12))), (apy, .inl (cJ, 300, .inr (.inl py_13))), (alx, .inl (cJ, 300, .inr (.inl lx_15))), (aly, .inl (cJ, 300, .inr (.inl ly_16)))]) hP hD [0, 1, 2, 3, 4, 5, 6, 7, 8, 9] [] rfl rfl (by decide) (by decide) hk1 hFc hP1 hD1
  clear hP1 hK1 hD1 hk1 hFc
  generalize H1 = H at hP hS ⊢
  have hP : va_P (dC, dI) vwCl [(h0, .inr (3, [.ref ast, .ref aim, .ref akp, .ref awx, .ref awy, .ref apx, .ref apy, .int co_14, .ref alx, .ref aly, .int lf_17])), (ast, .inl (cI, 54, .inl st)), (aim, .inl (cI, 108, .inl im)), (akp, .inl (cZ, 2, .inl kp)), (awx, .inl (cI, 8, .inl wx)), (awy, .inl (cI, 8, .inl wy)), (apx, .inl (cJ, 300, .inr (.inl px_12))), (apy, .inl (cJ, 300, .inr (.inl py_13))), (alx, .inl (cJ, 300, .inr (.inl lx_15))), (aly, .inl (cJ, 300, .inr (.inl ly_16)))] H := hP
  have hD : va_D A [(h0, .inr (3, [.ref ast, .ref aim, .ref akp, .ref awx, .ref awy, .ref apx, .ref apy, .int co_14, .ref alx, .ref aly, .int lf_17])), (ast, .inl (cI, 54, .inl st)), (aim, .inl (cI, 108, .inl im)), (akp, .inl (cZ, 2, .inl kp)), (awx, .inl (cI, 8, .inl wx)), (awy, .inl (cI, 8, .inl wy)), (apx, .inl (cJ, 300, .inr (.inl px_12))), (apy, .inl (cJ, 300, .inr (.inl py_13))), (alx, .inl (cJ, 300, .inr (.inl lx_15))), (aly, .inl (cJ, 300, .inr (.inl ly_16)))] := hD
  refine lv_aload_n hx hb dX3_rawOf_46 rfl (lv_at hl 2 rfl) ?_
  refine lv_iconst (v := 2) hx hb dX3_rawOf_47 (by decide) ?_
  refine lv_lload hx hb dX3_rawOf_48 (lv_at hl 0 rfl) ?_
  obtain ⟨px_18, py_19, co_20, lx_21, ly_22, lf_23, hr_23, hF⟩ := bd6_u hF
  have hPc := hP.sub (ws' := [(h0, .inr (3, [.ref ast, .ref aim, .ref akp, .ref awx, .ref awy, .ref apx, .ref apy, .int co_14, .ref alx, .ref aly, .int lf_17])), (ast, .inl (cI, 54, .inl st)), (aim, .inl (cI, 108, .inl im)), (akp, .inl (cZ, 2, .inl kp)), (awx, .inl (cI, 8, .inl wx)), (awy, .inl (cI, 8, .inl wy)), (apx, .inl (cJ, 300, .inr (.inl px_12))), (apy, .inl (cJ, 300, .inr (.inl py_13))), (alx, .inl (cJ, 300, .inr (.inl lx_15))), (aly, .inl (cJ, 300, .inr (.inl ly_16)))]) [0, 1, 2, 3, 4, 5, 6, 7, 8, 9] rfl
  have hKc := hK.sub (tys' := [(cI, .int), (cZ, .boolean), (cJ, .long)]) [0, 1, 2] rfl
  have hDc := hD.sub (ws' := [(h0, .inr (3, [.ref ast, .ref aim, .ref akp, .ref awx, .ref awy, .ref apx, .ref apy, .int co_14, .ref alx, .ref aly, .int lf_17])), (ast, .inl (cI, 54, .inl st)), (aim, .inl (cI, 108, .inl im)), (akp, .inl (cZ, 2, .inl kp)), (awx, .inl (cI, 8, .inl wx)), (awy, .inl (cI, 8, .inl wy)), (apx, .inl (cJ, 300, .inr (.inl px_12))), (apy, .inl (cJ, 300, .inr (.inl py_13))), (alx, .inl (cJ, 300, .inr (.inl lx_15))), (aly, .inl (cJ, 300, .inr (.inl ly_16)))]) [0, 1, 2, 3, 4, 5, 6, 7, 8, 9] (by decide) rfl
  have hFc := va_free (wc := [(h0, .inr (3, [.ref ast, .ref aim, .ref akp, .ref awx, .ref awy, .ref apx, .ref apy, .int co_14, .ref alx, .ref aly, .int lf_17])), (ast, .inl (cI, 54, .inl st)), (aim, .inl (cI, 108, .inl im)), (akp, .inl (cZ, 2, .inl kp)), (awx, .inl (cI, 8, .inl wx)), (awy, .inl (cI, 8, .inl wy)), (apx, .inl (cJ, 300, .inr (.inl px_12))), (apy, .inl (cJ, 300, .inr (.inl py_13))), (alx, .inl (cJ, 300, .inr (.inl lx_15))), (aly, .inl (cJ, 300, .inr (.inl ly_16)))]) hD hS hA [0, 1, 2, 3, 4, 5, 6, 7, 8, 9] rfl
  refine va_callv (va_runV (As := [.int (2 : Int32), .long v_5]) (rest := []) ⟨hx, hb, hml, hown, hts⟩ (c_X3_cutSide l dC dI h0 ast aim akp awx awy apx apy alx aly cI cZ cJ H.size st im kp wx wy px_12 py_13 co_14 lx_15 ly_16 lf_17 (2 : Int32) v_5 px_18 py_19 co_20 lx_21 ly_22 lf_23 hr_23) (cwV 2 hts gX3_rawOf_X3_cutSide rfl rfl rfl (by decide +kernel) ⟨Nat.le_of_ble_eq_true rfl, Nat.le_of_ble_eq_true rfl⟩) ⟨fun a U g mk q => ⟨q.1, q.2.1, q.2.2.1, va_K.moved (u := U) (U := U.calling g mk a) (Vm.Alike.refl U.vm) q.2.2.2.1, q.2.2.2.2⟩, va_recv hKc hPc (ci := 3) (q0 := 0) rfl rfl, fun U hU hW => ⟨rfl, by rw [hU], by rw [hU]; exact hPc, va_K.moved hW.alike hKc, hDc.weaken (fun _ _ _ _ => trivial)⟩⟩ rfl rfl hl.1 rfl (lv_room (Nat.le_of_ble_eq_true rfl)) dX3_rawOf_50 ⟨Nat.le_of_ble_eq_true rfl, Nat.le_of_ble_eq_true rfl⟩) hS (fun q _ h => hFc q h) hFc (fun _ t H1 locs ht hvm hw hB hz1 hk1 hS => ?_)
  obtain ⟨hP1, hK1, hD1⟩ := hB
  rw [ht] at hP1
  obtain ⟨hP, hD⟩ := va_join (wr := []) (w1 := [(h0, .inr (3, [.ref ast, .ref aim, .ref akp, .ref awx, .ref awy, .ref apx, .ref apy, .int co_20, .ref alx, .ref aly, .int lf_23])), (ast, .inl (cI, 54, .inl st)), (aim, .inl (cI, 108, .inl im)), (akp, .inl (cZ, 2, .inl kp)), (awx, .inl (cI, 8, .inl wx)), (awy, .inl (cI, 8, .inl wy)), (apx, .inl (cJ, 300, .inr (.inl px_18))), (apy, .inl (cJ, 300, .inr (.inl py_19))), (alx, .inl (cJ, 300, .inr (.inl lx_21))), (aly, .inl (cJ, 300, .inr (.inl ly_22)))]) hP hD [0, 1, 2, 3, 4, 5, 6, 7, 8, 9] [] rfl rfl (by decide) (by decide) hk1 hFc hP1 hD1
  clear hP1 hK1 hD1 hk1 hFc
  generalize H1 = H at hP hS ⊢
  have hP : va_P (dC, dI) vwCl [(h0, .inr (3, [.ref ast, .ref aim, .ref akp, .ref awx, .ref awy, .ref apx, .ref apy, .int co_20, .ref alx, .ref aly, .int lf_23])), (ast, .inl (cI, 54, .inl st)), (aim, .inl (cI, 108, .inl im)), (akp, .inl (cZ, 2, .inl kp)), (awx, .inl (cI, 8, .inl wx)), (awy, .inl (cI, 8, .inl wy)), (apx, .inl (cJ, 300, .inr (.inl px_18))), (apy, .inl (cJ, 300, .inr (.inl py_19))), (alx, .inl (cJ, 300, .inr (.inl lx_21))), (aly, .inl (cJ, 300, .inr (.inl ly_22)))] H := hP
  have hD : va_D A [(h0, .inr (3, [.ref ast, .ref aim, .ref akp, .ref awx, .ref awy, .ref apx, .ref apy, .int co_20, .ref alx, .ref aly, .int lf_23])), (ast, .inl (cI, 54, .inl st)), (aim, .inl (cI, 108, .inl im)), (akp, .inl (cZ, 2, .inl kp)), (awx, .inl (cI, 8, .inl wx)), (awy, .inl (cI, 8, .inl wy)), (apx, .inl (cJ, 300, .inr (.inl px_18))), (apy, .inl (cJ, 300, .inr (.inl py_19))), (alx, .inl (cJ, 300, .inr (.inl lx_21))), (aly, .inl (cJ, 300, .inr (.inl ly_22)))] := hD
  refine lv_aload_n hx hb dX3_rawOf_53 rfl (lv_at hl 2 rfl) ?_
  refine lv_iconst (v := 3) hx hb dX3_rawOf_54 (by decide) ?_
  refine lv_lload hx hb dX3_rawOf_55 (lv_at hl 0 rfl) ?_
  refine lv_ldc2 (v := 83160) hx hb hown (hts (.constantLong RX3 93 (83160)) (by decide +kernel)) dX3_rawOf_57 ?_
  refine lv_ladd hx hb dX3_rawOf_60 ?_
  obtain ⟨px_24, py_25, co_26, lx_27, ly_28, lf_29, hr_29, hF⟩ := bd6_u hF
  have hPc := hP.sub (ws' := [(h0, .inr (3, [.ref ast, .ref aim, .ref akp, .ref awx, .ref awy, .ref apx, .ref apy, .int co_20, .ref alx, .ref aly, .int lf_23])), (ast, .inl (cI, 54, .inl st)), (aim, .inl (cI, 108, .inl im)), (akp, .inl (cZ, 2, .inl kp)), (awx, .inl (cI, 8, .inl wx)), (awy, .inl (cI, 8, .inl wy)), (apx, .inl (cJ, 300, .inr (.inl px_18))), (apy, .inl (cJ, 300, .inr (.inl py_19))), (alx, .inl (cJ, 300, .inr (.inl lx_21))), (aly, .inl (cJ, 300, .inr (.inl ly_22)))]) [0, 1, 2, 3, 4, 5, 6, 7, 8, 9] rfl
  have hKc := hK.sub (tys' := [(cI, .int), (cZ, .boolean), (cJ, .long)]) [0, 1, 2] rfl
  have hDc := hD.sub (ws' := [(h0, .inr (3, [.ref ast, .ref aim, .ref akp, .ref awx, .ref awy, .ref apx, .ref apy, .int co_20, .ref alx, .ref aly, .int lf_23])), (ast, .inl (cI, 54, .inl st)), (aim, .inl (cI, 108, .inl im)), (akp, .inl (cZ, 2, .inl kp)), (awx, .inl (cI, 8, .inl wx)), (awy, .inl (cI, 8, .inl wy)), (apx, .inl (cJ, 300, .inr (.inl px_18))), (apy, .inl (cJ, 300, .inr (.inl py_19))), (alx, .inl (cJ, 300, .inr (.inl lx_21))), (aly, .inl (cJ, 300, .inr (.inl ly_22)))]) [0, 1, 2, 3, 4, 5, 6, 7, 8, 9] (by decide) rfl
  have hFc := va_free (wc := [(h0, .inr (3, [.ref ast, .ref aim, .ref akp, .ref awx, .ref awy, .ref apx, .ref apy, .int co_20, .ref alx, .ref aly, .int lf_23])), (ast, .inl (cI, 54, .inl st)), (aim, .inl (cI, 108, .inl im)), (akp, .inl (cZ, 2, .inl kp)), (awx, .inl (cI, 8, .inl wx)), (awy, .inl (cI, 8, .inl wy)), (apx, .inl (cJ, 300, .inr (.inl px_18))), (apy, .inl (cJ, 300, .inr (.inl py_19))), (alx, .inl (cJ, 300, .inr (.inl lx_21))), (aly, .inl (cJ, 300, .inr (.inl ly_22)))]) hD hS hA [0, 1, 2, 3, 4, 5, 6, 7, 8, 9] rfl
  refine va_callv (va_runV (As := [.int (3 : Int32), .long (v_5 + (83160 : Int64))]) (rest := []) ⟨hx, hb, hml, hown, hts⟩ (c_X3_cutSide l dC dI h0 ast aim akp awx awy apx apy alx aly cI cZ cJ H.size st im kp wx wy px_18 py_19 co_20 lx_21 ly_22 lf_23 (3 : Int32) (v_5 + (83160 : Int64)) px_24 py_25 co_26 lx_27 ly_28 lf_29 hr_29) (cwV 2 hts gX3_rawOf_X3_cutSide rfl rfl rfl (by decide +kernel) ⟨Nat.le_of_ble_eq_true rfl, Nat.le_of_ble_eq_true rfl⟩) ⟨fun a U g mk q => ⟨q.1, q.2.1, q.2.2.1, va_K.moved (u := U) (U := U.calling g mk a) (Vm.Alike.refl U.vm) q.2.2.2.1, q.2.2.2.2⟩, va_recv hKc hPc (ci := 3) (q0 := 0) rfl rfl, fun U hU hW => ⟨rfl, by rw [hU], by rw [hU]; exact hPc, va_K.moved hW.alike hKc, hDc.weaken (fun _ _ _ _ => trivial)⟩⟩ rfl rfl hl.1 rfl (lv_room (Nat.le_of_ble_eq_true rfl)) dX3_rawOf_61 ⟨Nat.le_of_ble_eq_true rfl, Nat.le_of_ble_eq_true rfl⟩) hS (fun q _ h => hFc q h) hFc (fun _ t H1 locs ht hvm hw hB hz1 hk1 hS => ?_)
  obtain ⟨hP1, hK1, hD1⟩ := hB
  rw [ht] at hP1
  obtain ⟨hP, hD⟩ := va_join (wr := []) (w1 := [(h0, .inr (3, [.ref ast, .ref aim, .ref akp, .ref awx, .ref awy, .ref apx, .ref apy, .int co_26, .ref alx, .ref aly, .int lf_29])), (ast, .inl (cI, 54, .inl st)), (aim, .inl (cI, 108, .inl im)), (akp, .inl (cZ, 2, .inl kp)), (awx, .inl (cI, 8, .inl wx)), (awy, .inl (cI, 8, .inl wy)), (apx, .inl (cJ, 300, .inr (.inl px_24))), (apy, .inl (cJ, 300, .inr (.inl py_25))), (alx, .inl (cJ, 300, .inr (.inl lx_27))), (aly, .inl (cJ, 300, .inr (.inl ly_28)))]) hP hD [0, 1, 2, 3, 4, 5, 6, 7, 8, 9] [] rfl rfl (by decide) (by decide) hk1 hFc hP1 hD1
  clear hP1 hK1 hD1 hk1 hFc
  generalize H1 = H at hP hS ⊢
  have hP : va_P (dC, dI) vwCl [(h0, .inr (3, [.ref ast, .ref aim, .ref akp, .ref awx, .ref awy, .ref apx, .ref apy, .int co_26, .ref alx, .ref aly, .int lf_29])), (ast, .inl (cI, 54, .inl st)), (aim, .inl (cI, 108, .inl im)), (akp, .inl (cZ, 2, .inl kp)), (awx, .inl (cI, 8, .inl wx)), (awy, .inl (cI, 8, .inl wy)), (apx, .inl (cJ, 300, .inr (.inl px_24))), (apy, .inl (cJ, 300, .inr (.inl py_25))), (alx, .inl (cJ, 300, .inr (.inl lx_27))), (aly, .inl (cJ, 300, .inr (.inl ly_28)))] H := hP
  have hD : va_D A [(h0, .inr (3, [.ref ast, .ref aim, .ref akp, .ref awx, .ref awy, .ref apx, .ref apy, .int co_26, .ref alx, .ref aly, .int lf_29])), (ast, .inl (cI, 54, .inl st)), (aim, .inl (cI, 108, .inl im)), (akp, .inl (cZ, 2, .inl kp)), (awx, .inl (cI, 8, .inl wx)), (awy, .inl (cI, 8, .inl wy)), (apx, .inl (cJ, 300, .inr (.inl px_24))), (apy, .inl (cJ, 300, .inr (.inl py_25))), (alx, .inl (cJ, 300, .inr (.inl lx_27))), (aly, .inl (cJ, 300, .inr (.inl ly_28)))] := hD
  refine lv_aload_n hx hb dX3_rawOf_64 rfl (lv_at hl 2 rfl) ?_
  obtain ⟨r_30, hr_30, hF⟩ := bd1_u hF
  have hPc := hP.sub (ws' := [(h0, .inr (3, [.ref ast, .ref aim, .ref akp, .ref awx, .ref awy, .ref apx, .ref apy, .int co_26, .ref alx, .ref aly, .int lf_29])), (ast, .inl (cI, 54, .inl st)), (aim, .inl (cI, 108, .inl im)), (akp, .inl (cZ, 2, .inl kp)), (awx, .inl (cI, 8, .inl wx)), (awy, .inl (cI, 8, .inl wy)), (apx, .inl (cJ, 300, .inr (.inl px_24))), (apy, .inl (cJ, 300, .inr (.inl py_25))), (alx, .inl (cJ, 300, .inr (.inl lx_27))), (aly, .inl (cJ, 300, .inr (.inl ly_28)))]) [0, 1, 2, 3, 4, 5, 6, 7, 8, 9] rfl
  have hKc := hK.sub (tys' := [(cI, .int), (cZ, .boolean), (cJ, .long)]) [0, 1, 2] rfl
  refine vp_callSl (W.runV (As := []) (rest := []) ⟨hx, hb, hml, hown, hts⟩ (c_X3_twiceArea l dC dI h0 ast aim akp awx awy apx apy alx aly cI cZ cJ st im kp wx wy px_24 py_25 co_26 lx_27 ly_28 lf_29 r_30 hr_30) (cwV 0 hts gX3_rawOf_X3_twiceArea rfl rfl rfl (by decide +kernel) ⟨Nat.le_of_ble_eq_true rfl, Nat.le_of_ble_eq_true rfl⟩) ⟨fun a U g mk q => ⟨q.1, q.2.1, va_K.moved (u := U) (U := U.calling g mk a) (Vm.Alike.refl U.vm) q.2.2⟩, va_recv hKc hPc (ci := 3) (q0 := 0) rfl rfl, fun U hU hW => ⟨rfl, by rw [hU]; exact hPc, va_K.moved hW.alike hKc⟩⟩ rfl rfl hl.1 rfl (lv_room (Nat.le_of_ble_eq_true rfl)) dX3_rawOf_65 ⟨Nat.le_of_ble_eq_true rfl, Nat.le_of_ble_eq_true rfl⟩) (fun r_30' qr_30 => ?_)
  obtain rfl := qr_30.symm
  refine lv_ldc2 (v := 27720) hx hb hown (hts (.constantLong RX3 73 (27720)) (by decide +kernel)) dX3_rawOf_68 ?_
  refine lv_ldiv hx hb dX3_rawOf_71 (by decide) ?_
  obtain ⟨e0, rfl, rfl, rfl, rfl, rfl, rfl⟩ := tp7 hF
  rw [← hQ]
  exact W.lret (v := (r_30 / (27720 : Int64))) hx hb hr (fun t ht hW => ⟨⟨_, (), rfl, e0, by rw [ht]; exact hP, va_K.moved hW.alike hK, hD⟩, hS.F ht⟩) hS.2.2 dX3_rawOf_72

def P_X3_coverMoved (a0 : Int32) (a1 : Int32) (a2 : Int32) (a3 : Int32) (st : Nat → Int32) (px : Nat → Int64) (py : Nat → Int64) (lx : Nat → Int64) (ly : Nat → Int64) : Option (Int64 × (Nat → Int64) × (Nat → Int64) × Int32 × (Nat → Int64) × (Nat → Int64) × Int32) :=
  bd7 (P_X3_rawOf a0 a1 a2 a3 st px py lx ly) (fun r_1 px_2 py_3 co_4 lx_5 ly_6 lf_7 =>
  bd1 (P_X3_plain r_1) (fun r_8 =>
  gd (ib ((3 : Int32) + a0) 54) (
  if (st ((3 : Int32) + a0).toNatClampNeg) = (0 : Int32) then
    if r_8 ≤ (498960 : Int64) then
      some (r_8, px_2, py_3, co_4, lx_5, ly_6, lf_7)
    else
      some ((498960 : Int64), px_2, py_3, co_4, lx_5, ly_6, lf_7)
  else
    nm (r_8 - r_8 / (997920 : Int64) * (997920 : Int64)) (fun v_10 =>
    if v_10 ≤ (498960 : Int64) then
      some (v_10, px_2, py_3, co_4, lx_5, ly_6, lf_7)
    else
      some (((997920 : Int64) - v_10), px_2, py_3, co_4, lx_5, ly_6, lf_7)))))

def rm_X3_coverMoved : Room := { frames := 4, cells := 0, slots := 0, locals := 106 }

set_option maxHeartbeats 4000000 in
set_option maxRecDepth 100000 in
theorem c_X3_coverMoved (l : Launch) (dC : Nat → ClassId) (dI : Nat → Nat → Nat) (h0 ast aim akp awx awy apx apy alx aly : Nat) (cI cZ cJ : ClassId) (hsz0 : Nat) (st : Nat → Int32) (im : Nat → Int32) (kp : Nat → Int32) (wx : Nat → Int32) (wy : Nat → Int32) (px : Nat → Int64) (py : Nat → Int64) (co : Int32) (lx : Nat → Int64) (ly : Nat → Int64) (lf : Int32) (a0 : Int32) (a1 : Int32) (a2 : Int32) (a3 : Int32) (r0 : Int64) (pxN : Nat → Int64) (pyN : Nat → Int64) (coN : Int32) (lxN : Nat → Int64) (lyN : Nat → Int64) (lfN : Int32) (hF : P_X3_coverMoved a0 a1 a2 a3 st px py lx ly = some (r0, pxN, pyN, coN, lxN, lyN, lfN)) : Met l yX3_coverMoved wsX3_coverMoved rm_X3_coverMoved (va_Pc [.ref h0, .int a0, .int a1, .int a2, .int a3] (fun U => U.heap.size = hsz0 ∧ va_P (dC, dI) vwCl [(h0, .inr (3, [.ref ast, .ref aim, .ref akp, .ref awx, .ref awy, .ref apx, .ref apy, .int co, .ref alx, .ref aly, .int lf])), (ast, .inl (cI, 54, .inl st)), (aim, .inl (cI, 108, .inl im)), (akp, .inl (cZ, 2, .inl kp)), (awx, .inl (cI, 8, .inl wx)), (awy, .inl (cI, 8, .inl wy)), (apx, .inl (cJ, 300, .inr (.inl px))), (apy, .inl (cJ, 300, .inr (.inl py))), (alx, .inl (cJ, 300, .inr (.inl lx))), (aly, .inl (cJ, 300, .inr (.inl ly)))] U.heap ∧ va_K (dC, dI) vwCl [(cI, .int), (cZ, .boolean), (cJ, .long)] U ∧ va_D (fun _ => True) [(h0, .inr (3, [.ref ast, .ref aim, .ref akp, .ref awx, .ref awy, .ref apx, .ref apy, .int co, .ref alx, .ref aly, .int lf])), (ast, .inl (cI, 54, .inl st)), (aim, .inl (cI, 108, .inl im)), (akp, .inl (cZ, 2, .inl kp)), (awx, .inl (cI, 8, .inl wx)), (awy, .inl (cI, 8, .inl wy)), (apx, .inl (cJ, 300, .inr (.inl px))), (apy, .inl (cJ, 300, .inr (.inl py))), (alx, .inl (cJ, 300, .inr (.inl lx))), (aly, .inl (cJ, 300, .inr (.inl ly)))])) (va_Ql (fun (r : Int64) (_ : Unit) => r = r0) (fun _ t => va_P (dC, dI) vwCl [(h0, .inr (3, [.ref ast, .ref aim, .ref akp, .ref awx, .ref awy, .ref apx, .ref apy, .int coN, .ref alx, .ref aly, .int lfN])), (ast, .inl (cI, 54, .inl st)), (aim, .inl (cI, 108, .inl im)), (akp, .inl (cZ, 2, .inl kp)), (awx, .inl (cI, 8, .inl wx)), (awy, .inl (cI, 8, .inl wy)), (apx, .inl (cJ, 300, .inr (.inl pxN))), (apy, .inl (cJ, 300, .inr (.inl pyN))), (alx, .inl (cJ, 300, .inr (.inl lxN))), (aly, .inl (cJ, 300, .inr (.inl lyN)))] t.heap ∧ va_K (dC, dI) vwCl [(cI, .int), (cZ, .boolean), (cJ, .long)] t ∧ va_D (va_A [(h0, .inr (3, [.ref ast, .ref aim, .ref akp, .ref awx, .ref awy, .ref apx, .ref apy, .int co, .ref alx, .ref aly, .int lf])), (ast, .inl (cI, 54, .inl st)), (aim, .inl (cI, 108, .inl im)), (akp, .inl (cZ, 2, .inl kp)), (awx, .inl (cI, 8, .inl wx)), (awy, .inl (cI, 8, .inl wy)), (apx, .inl (cJ, 300, .inr (.inl px))), (apy, .inl (cJ, 300, .inr (.inl py))), (alx, .inl (cJ, 300, .inr (.inl lx))), (aly, .inl (cJ, 300, .inr (.inl ly)))] hsz0) [(h0, .inr (3, [.ref ast, .ref aim, .ref akp, .ref awx, .ref awy, .ref apx, .ref apy, .int coN, .ref alx, .ref aly, .int lfN])), (ast, .inl (cI, 54, .inl st)), (aim, .inl (cI, 108, .inl im)), (akp, .inl (cZ, 2, .inl kp)), (awx, .inl (cI, 8, .inl wx)), (awy, .inl (cI, 8, .inl wy)), (apx, .inl (cJ, 300, .inr (.inl pxN))), (apy, .inl (cJ, 300, .inr (.inl pyN))), (alx, .inl (cJ, 300, .inr (.inl lxN))), (aly, .inl (cJ, 300, .inr (.inl lyN)))]) (va_A [(h0, .inr (3, [.ref ast, .ref aim, .ref akp, .ref awx, .ref awy, .ref apx, .ref apy, .int co, .ref alx, .ref aly, .int lf])), (ast, .inl (cI, 54, .inl st)), (aim, .inl (cI, 108, .inl im)), (akp, .inl (cZ, 2, .inl kp)), (awx, .inl (cI, 8, .inl wx)), (awy, .inl (cI, 8, .inl wy)), (apx, .inl (cJ, 300, .inr (.inl px))), (apy, .inl (cJ, 300, .inr (.inl py))), (alx, .inl (cJ, 300, .inr (.inl lx))), (aly, .inl (cJ, 300, .inr (.inl ly)))] hsz0)) 0 0 (va_A [(h0, .inr (3, [.ref ast, .ref aim, .ref akp, .ref awx, .ref awy, .ref apx, .ref apy, .int co, .ref alx, .ref aly, .int lf])), (ast, .inl (cI, 54, .inl st)), (aim, .inl (cI, 108, .inl im)), (akp, .inl (cZ, 2, .inl kp)), (awx, .inl (cI, 8, .inl wx)), (awy, .inl (cI, 8, .inl wy)), (apx, .inl (cJ, 300, .inr (.inl px))), (apy, .inl (cJ, 300, .inr (.inl py))), (alx, .inl (cJ, 300, .inr (.inl lx))), (aly, .inl (cJ, 300, .inr (.inl ly)))] hsz0) := by
  refine Met.ofW (cc := cX3_coverMoved) (maxL := 9) (ret := (some .long)) (by decide) rfl ?_
  intro p e s m args below meth c s₁ B hml hv
  change W p l e rm_X3_coverMoved s m args below meth c s.heap [] 0 0 _ _
  obtain ⟨hv, hsz, hP, hK, hD0⟩ := hv
  have hx := B.exec
  have hb := B.bytes
  have hr := B.returns
  have hts := atoms_spec (ws := wsX3_coverMoved) B.pre
  have hown : s.vm.findClass RX3 = some m.cls := findClass_of_methodNamed B.named
  have hlocks := B.notSynchronized
  subst hsz
  have hD := hD0.self (sz := s.heap.size)
  generalize hAe : va_A [(h0, .inr (3, [.ref ast, .ref aim, .ref akp, .ref awx, .ref awy, .ref apx, .ref apy, .int co, .ref alx, .ref aly, .int lf])), (ast, .inl (cI, 54, .inl st)), (aim, .inl (cI, 108, .inl im)), (akp, .inl (cZ, 2, .inl kp)), (awx, .inl (cI, 8, .inl wx)), (awy, .inl (cI, 8, .inl wy)), (apx, .inl (cJ, 300, .inr (.inl px))), (apy, .inl (cJ, 300, .inr (.inl py))), (alx, .inl (cJ, 300, .inr (.inl lx))), (aly, .inl (cJ, 300, .inr (.inl ly)))] s.heap.size = A at hD ⊢
  have hA : ∀ q : Nat, s.heap.size ≤ q → A q := fun q h => by rw [← hAe]; exact Or.inr h
  have hS : va_S A s.heap s.heap [] := va_S.rf
  generalize hQ : MQ below (va_Ql (fun (r : Int64) (_ : Unit) => r = r0) (fun _ t => va_P (dC, dI) vwCl [(h0, .inr (3, [.ref ast, .ref aim, .ref akp, .ref awx, .ref awy, .ref apx, .ref apy, .int coN, .ref alx, .ref aly, .int lfN])), (ast, .inl (cI, 54, .inl st)), (aim, .inl (cI, 108, .inl im)), (akp, .inl (cZ, 2, .inl kp)), (awx, .inl (cI, 8, .inl wx)), (awy, .inl (cI, 8, .inl wy)), (apx, .inl (cJ, 300, .inr (.inl pxN))), (apy, .inl (cJ, 300, .inr (.inl pyN))), (alx, .inl (cJ, 300, .inr (.inl lxN))), (aly, .inl (cJ, 300, .inr (.inl lyN)))] t.heap ∧ va_K (dC, dI) vwCl [(cI, .int), (cZ, .boolean), (cJ, .long)] t ∧ va_D A [(h0, .inr (3, [.ref ast, .ref aim, .ref akp, .ref awx, .ref awy, .ref apx, .ref apy, .int coN, .ref alx, .ref aly, .int lfN])), (ast, .inl (cI, 54, .inl st)), (aim, .inl (cI, 108, .inl im)), (akp, .inl (cZ, 2, .inl kp)), (awx, .inl (cI, 8, .inl wx)), (awy, .inl (cI, 8, .inl wy)), (apx, .inl (cJ, 300, .inr (.inl pxN))), (apy, .inl (cJ, 300, .inr (.inl pyN))), (alx, .inl (cJ, 300, .inr (.inl lxN))), (aly, .inl (cJ, 300, .inr (.inl lyN)))]) A) args s 0 0 A = Q
  have hl := lv_entry ([.ref h0, .int a0, .int a1, .int a2, .int a3]) (n := 9) (Nat.le_of_ble_eq_true rfl)
  have hE : entryFrame m args 9 = F0 m 0 ((lg_sl ([.ref h0, .int a0, .int a1, .int a2, .int a3]) ++ List.replicate (9 - (lg_sl ([.ref h0, .int a0, .int a1, .int a2, .int a3])).length) Slot.unset).toArray) [] := by rw [hv]; exact lg_entry_eq m _ 9
  rw [hE]
  generalize (lg_sl ([.ref h0, .int a0, .int a1, .int a2, .int a3]) ++ List.replicate (9 - (lg_sl ([.ref h0, .int a0, .int a1, .int a2, .int a3])).length) Slot.unset).toArray = ls at hl ⊢
  have hl : lv_has ls 9 [(0, .ref h0), (1, .int a0), (2, .int a1), (3, .int a2), (4, .int a3)] := hl
  unfold P_X3_coverMoved at hF
  refine lv_aload_n hx hb dX3_coverMoved_0 rfl (lv_at hl 0 rfl) ?_
  refine lv_iload_n hx hb dX3_coverMoved_1 rfl (lv_at hl 1 rfl) ?_
  refine lv_iload_n hx hb dX3_coverMoved_2 rfl (lv_at hl 2 rfl) ?_
  refine lv_iload_n hx hb dX3_coverMoved_3 rfl (lv_at hl 3 rfl) ?_
  refine lv_iload hx hb dX3_coverMoved_4 (lv_at hl 4 rfl) ?_
  obtain ⟨r_1, px_2, py_3, co_4, lx_5, ly_6, lf_7, hr_7, hF⟩ := bd7_u hF
  have hPc := hP.sub (ws' := [(h0, .inr (3, [.ref ast, .ref aim, .ref akp, .ref awx, .ref awy, .ref apx, .ref apy, .int co, .ref alx, .ref aly, .int lf])), (ast, .inl (cI, 54, .inl st)), (aim, .inl (cI, 108, .inl im)), (akp, .inl (cZ, 2, .inl kp)), (awx, .inl (cI, 8, .inl wx)), (awy, .inl (cI, 8, .inl wy)), (apx, .inl (cJ, 300, .inr (.inl px))), (apy, .inl (cJ, 300, .inr (.inl py))), (alx, .inl (cJ, 300, .inr (.inl lx))), (aly, .inl (cJ, 300, .inr (.inl ly)))]) [0, 1, 2, 3, 4, 5, 6, 7, 8, 9] rfl
  have hKc := hK.sub (tys' := [(cI, .int), (cZ, .boolean), (cJ, .long)]) [0, 1, 2] rfl
  have hDc := hD.sub (ws' := [(h0, .inr (3, [.ref ast, .ref aim, .ref akp, .ref awx, .ref awy, .ref apx, .ref apy, .int co, .ref alx, .ref aly, .int lf])), (ast, .inl (cI, 54, .inl st)), (aim, .inl (cI, 108, .inl im)), (akp, .inl (cZ, 2, .inl kp)), (awx, .inl (cI, 8, .inl wx)), (awy, .inl (cI, 8, .inl wy)), (apx, .inl (cJ, 300, .inr (.inl px))), (apy, .inl (cJ, 300, .inr (.inl py))), (alx, .inl (cJ, 300, .inr (.inl lx))), (aly, .inl (cJ, 300, .inr (.inl ly)))]) [0, 1, 2, 3, 4, 5, 6, 7, 8, 9] (by decide) rfl
  have hFc := va_free (wc := [(h0, .inr (3, [.ref ast, .ref aim, .ref akp, .ref awx, .ref awy, .ref apx, .ref apy, .int co, .ref alx, .ref aly, .int lf])), (ast, .inl (cI, 54, .inl st)), (aim, .inl (cI, 108, .inl im)), (akp, .inl (cZ, 2, .inl kp)), (awx, .inl (cI, 8, .inl wx)), (awy, .inl (cI, 8, .inl wy)), (apx, .inl (cJ, 300, .inr (.inl px))), (apy, .inl (cJ, 300, .inr (.inl py))), (alx, .inl (cJ, 300, .inr (.inl lx))), (aly, .inl (cJ, 300, .inr (.inl ly)))]) hD hS hA [0, 1, 2, 3, 4, 5, 6, 7, 8, 9] rfl
  refine va_calll (va_runV (As := [.int a0, .int a1, .int a2, .int a3]) (rest := []) ⟨hx, hb, hml, hown, hts⟩ (c_X3_rawOf l dC dI h0 ast aim akp awx awy apx apy alx aly cI cZ cJ s.heap.size st im kp wx wy px py co lx ly lf a0 a1 a2 a3 r_1 px_2 py_3 co_4 lx_5 ly_6 lf_7 hr_7) (cwV 4 hts gX3_coverMoved_X3_rawOf rfl rfl rfl (by decide +kernel) ⟨Nat.le_of_ble_eq_true rfl, Nat.le_of_ble_eq_true rfl⟩) ⟨fun a U g mk q => ⟨q.1, q.2.1, q.2.2.1, va_K.moved (u := U) (U := U.calling g mk a) (Vm.Alike.refl U.vm) q.2.2.2.1, q.2.2.2.2⟩, va_recv hKc hPc (ci := 3) (q0 := 0) rfl rfl, fun U hU hW => ⟨rfl, by rw [hU], by rw [hU]; exact hPc, va_K.moved hW.alike hKc, hDc.weaken (fun _ _ _ _ => trivial)⟩⟩ rfl rfl hl.1 rfl (lv_room (Nat.le_of_ble_eq_true rfl)) dX3_coverMoved_6 ⟨Nat.le_of_ble_eq_true rfl, Nat.le_of_ble_eq_true rfl⟩) hS (fun q _ h => hFc q h) hFc (fun r_1' _ t H1 locs ht hvm hw hB hz1 hk1 hS => ?_)
  obtain ⟨hP1, hK1, hD1⟩ := hB
  rw [ht] at hP1
  obtain rfl := hw.symm
  obtain ⟨hP, hD⟩ := va_join (wr := []) (w1 := [(h0, .inr (3, [.ref ast, .ref aim, .ref akp, .ref awx, .ref awy, .ref apx, .ref apy, .int co_4, .ref alx, .ref aly, .int lf_7])), (ast, .inl (cI, 54, .inl st)), (aim, .inl (cI, 108, .inl im)), (akp, .inl (cZ, 2, .inl kp)), (awx, .inl (cI, 8, .inl wx)), (awy, .inl (cI, 8, .inl wy)), (apx, .inl (cJ, 300, .inr (.inl px_2))), (apy, .inl (cJ, 300, .inr (.inl py_3))), (alx, .inl (cJ, 300, .inr (.inl lx_5))), (aly, .inl (cJ, 300, .inr (.inl ly_6)))]) hP hD [0, 1, 2, 3, 4, 5, 6, 7, 8, 9] [] rfl rfl (by decide) (by decide) hk1 hFc hP1 hD1
  clear hP1 hK1 hD1 hk1 hFc
  generalize H1 = H at hP hS ⊢
  have hP : va_P (dC, dI) vwCl [(h0, .inr (3, [.ref ast, .ref aim, .ref akp, .ref awx, .ref awy, .ref apx, .ref apy, .int co_4, .ref alx, .ref aly, .int lf_7])), (ast, .inl (cI, 54, .inl st)), (aim, .inl (cI, 108, .inl im)), (akp, .inl (cZ, 2, .inl kp)), (awx, .inl (cI, 8, .inl wx)), (awy, .inl (cI, 8, .inl wy)), (apx, .inl (cJ, 300, .inr (.inl px_2))), (apy, .inl (cJ, 300, .inr (.inl py_3))), (alx, .inl (cJ, 300, .inr (.inl lx_5))), (aly, .inl (cJ, 300, .inr (.inl ly_6)))] H := hP
  have hD : va_D A [(h0, .inr (3, [.ref ast, .ref aim, .ref akp, .ref awx, .ref awy, .ref apx, .ref apy, .int co_4, .ref alx, .ref aly, .int lf_7])), (ast, .inl (cI, 54, .inl st)), (aim, .inl (cI, 108, .inl im)), (akp, .inl (cZ, 2, .inl kp)), (awx, .inl (cI, 8, .inl wx)), (awy, .inl (cI, 8, .inl wy)), (apx, .inl (cJ, 300, .inr (.inl px_2))), (apy, .inl (cJ, 300, .inr (.inl py_3))), (alx, .inl (cJ, 300, .inr (.inl lx_5))), (aly, .inl (cJ, 300, .inr (.inl ly_6)))] := hD
  obtain ⟨r_8, hr_8, hF⟩ := bd1_u hF
  refine vp_callSl (W.runS (As := [.long r_1]) (rest := []) ⟨hx, hb, hml, hown, hts⟩ (c_X3_plain l r_1 r_8 hr_8) (va_cwS 1 hts gX3_coverMoved_X3_plain rfl rfl rfl (by decide +kernel) ⟨Nat.le_of_ble_eq_true rfl, Nat.le_of_ble_eq_true rfl⟩) preEq rfl rfl hl.1 rfl (lv_room (Nat.le_of_ble_eq_true rfl)) dX3_coverMoved_9 ⟨Nat.le_of_ble_eq_true rfl, Nat.le_of_ble_eq_true rfl⟩) (fun r_8' qr_8 => ?_)
  obtain rfl := qr_8.symm
  refine lv_lstore (lv' := [(5, .long r_8), (0, .ref h0), (1, .int a0), (2, .int a1), (3, .int a2), (4, .int a3)]) hx hb dX3_coverMoved_12 hl (by decide) rfl (fun ls hl => ?_)
  refine lv_aload_n hx hb dX3_coverMoved_14 rfl (lv_at hl 1 rfl) ?_
  refine va_get (D := (dC, dI)) (ci := 3) (v := .ref ast) (C := RX3) (T := TX3) (N := 11) hx hb hts (by decide +kernel) hown hK hP 0 rfl rfl 0 (by decide) (hts (.fieldLink RX3 7 "DotCoverModel" "state" "[I") (by decide +kernel)) (fun _ h9 => h9) rfl dX3_coverMoved_15 ?_
  refine lv_iconst (v := 3) hx hb dX3_coverMoved_18 (by decide) ?_
  refine lv_iload_n hx hb dX3_coverMoved_19 rfl (lv_at hl 2 rfl) ?_
  refine lv_iadd hx hb dX3_coverMoved_20 ?_
  obtain ⟨hi_21, hF⟩ := gd_u hF
  refine va_iald hx hb hK hP 1 0 rfl rfl (in_u hi_21) dX3_coverMoved_21 ?_
  refine lv_if_ne (tgt := 43) hx hb dX3_coverMoved_22 (by decide) (fun c_9 => ?_) (fun c_9 => ?_)
  · have hF := br0 hF c_9
    refine lv_lload hx hb dX3_coverMoved_43 (lv_at hl 0 rfl) ?_
    refine lv_ldc2 (v := 997920) hx hb hown (hts (.constantLong RX3 113 (997920)) (by decide +kernel)) dX3_coverMoved_45 ?_
    refine lv_lrem hx hb dX3_coverMoved_48 (by decide) ?_
    refine lv_topl (fun v_10 ev_10 => ?_)
    have hF := nm_u hF ev_10
    refine lv_lstore (lv' := [(7, .long v_10), (5, .long r_8), (0, .ref h0), (1, .int a0), (2, .int a1), (3, .int a2), (4, .int a3)]) hx hb dX3_coverMoved_49 hl (by decide) rfl (fun ls hl => ?_)
    refine lv_lload hx hb dX3_coverMoved_51 (lv_at hl 0 rfl) ?_
    refine lv_ldc2 (v := 498960) hx hb hown (hts (.constantLong RX3 111 (498960)) (by decide +kernel)) dX3_coverMoved_53 ?_
    refine lc_le (tgt := 69) hx hb dX3_coverMoved_56 dX3_coverMoved_57 (by decide) (fun c_11 => ?_) (fun c_11 => ?_)
    · have hF := br1 hF c_11
      refine lv_lload hx hb dX3_coverMoved_69 (lv_at hl 0 rfl) ?_
      obtain ⟨e0, rfl, rfl, rfl, rfl, rfl, rfl⟩ := tp7 hF
      rw [← hQ]
      exact W.lret (v := v_10) hx hb hr (fun t ht hW => ⟨⟨_, (), rfl, e0, by rw [ht]; exact hP, va_K.moved hW.alike hK, hD⟩, hS.F ht⟩) hS.2.2 dX3_coverMoved_71
    · have hF := br0 hF c_11
      refine lv_ldc2 (v := 997920) hx hb hown (hts (.constantLong RX3 113 (997920)) (by decide +kernel)) dX3_coverMoved_60 ?_
      refine lv_lload hx hb dX3_coverMoved_63 (lv_at hl 0 rfl) ?_
      refine lv_lsub hx hb dX3_coverMoved_65 ?_
      refine lv_goto (tgt := 71) hx hb dX3_coverMoved_66 (by decide) ?_
      obtain ⟨e0, rfl, rfl, rfl, rfl, rfl, rfl⟩ := tp7 hF
      rw [← hQ]
      exact W.lret (v := ((997920 : Int64) - v_10)) hx hb hr (fun t ht hW => ⟨⟨_, (), rfl, e0, by rw [ht]; exact hP, va_K.moved hW.alike hK, hD⟩, hS.F ht⟩) hS.2.2 dX3_coverMoved_71
  · have hF := br1 hF c_9
    refine lv_lload hx hb dX3_coverMoved_25 (lv_at hl 0 rfl) ?_
    refine lv_ldc2 (v := 498960) hx hb hown (hts (.constantLong RX3 111 (498960)) (by decide +kernel)) dX3_coverMoved_27 ?_
    refine lc_le (tgt := 40) hx hb dX3_coverMoved_30 dX3_coverMoved_31 (by decide) (fun c_12 => ?_) (fun c_12 => ?_)
    · have hF := br1 hF c_12
      refine lv_lload hx hb dX3_coverMoved_40 (lv_at hl 0 rfl) ?_
      obtain ⟨e0, rfl, rfl, rfl, rfl, rfl, rfl⟩ := tp7 hF
      rw [← hQ]
      exact W.lret (v := r_8) hx hb hr (fun t ht hW => ⟨⟨_, (), rfl, e0, by rw [ht]; exact hP, va_K.moved hW.alike hK, hD⟩, hS.F ht⟩) hS.2.2 dX3_coverMoved_42
    · have hF := br0 hF c_12
      refine lv_ldc2 (v := 498960) hx hb hown (hts (.constantLong RX3 111 (498960)) (by decide +kernel)) dX3_coverMoved_34 ?_
      refine lv_goto (tgt := 42) hx hb dX3_coverMoved_37 (by decide) ?_
      obtain ⟨e0, rfl, rfl, rfl, rfl, rfl, rfl⟩ := tp7 hF
      rw [← hQ]
      exact W.lret (v := (498960 : Int64)) hx hb hr (fun t ht hW => ⟨⟨_, (), rfl, e0, by rw [ht]; exact hP, va_K.moved hW.alike hK, hD⟩, hS.F ht⟩) hS.2.2 dX3_coverMoved_42

def P_X3_coverOf (a0 : Int32) (a1 : Int32) (st : Nat → Int32) (px : Nat → Int64) (py : Nat → Int64) (lx : Nat → Int64) (ly : Nat → Int64) : Option (Int64 × (Nat → Int64) × (Nat → Int64) × Int32 × (Nat → Int64) × (Nat → Int64) × Int32) :=
  bd7 (P_X3_coverMoved a0 a1 (0 : Int32) (0 : Int32) st px py lx ly) (fun r_1 px_2 py_3 co_4 lx_5 ly_6 lf_7 =>
  some (r_1, px_2, py_3, co_4, lx_5, ly_6, lf_7))

def rm_X3_coverOf : Room := { frames := 5, cells := 0, slots := 0, locals := 134 }

set_option maxHeartbeats 4000000 in
set_option maxRecDepth 100000 in
theorem c_X3_coverOf (l : Launch) (dC : Nat → ClassId) (dI : Nat → Nat → Nat) (h0 ast aim akp awx awy apx apy alx aly : Nat) (cI cZ cJ : ClassId) (hsz0 : Nat) (st : Nat → Int32) (im : Nat → Int32) (kp : Nat → Int32) (wx : Nat → Int32) (wy : Nat → Int32) (px : Nat → Int64) (py : Nat → Int64) (co : Int32) (lx : Nat → Int64) (ly : Nat → Int64) (lf : Int32) (a0 : Int32) (a1 : Int32) (r0 : Int64) (pxN : Nat → Int64) (pyN : Nat → Int64) (coN : Int32) (lxN : Nat → Int64) (lyN : Nat → Int64) (lfN : Int32) (hF : P_X3_coverOf a0 a1 st px py lx ly = some (r0, pxN, pyN, coN, lxN, lyN, lfN)) : Met l yX3_coverOf wsX3_coverOf rm_X3_coverOf (va_Pc [.ref h0, .int a0, .int a1] (fun U => U.heap.size = hsz0 ∧ va_P (dC, dI) vwCl [(h0, .inr (3, [.ref ast, .ref aim, .ref akp, .ref awx, .ref awy, .ref apx, .ref apy, .int co, .ref alx, .ref aly, .int lf])), (ast, .inl (cI, 54, .inl st)), (aim, .inl (cI, 108, .inl im)), (akp, .inl (cZ, 2, .inl kp)), (awx, .inl (cI, 8, .inl wx)), (awy, .inl (cI, 8, .inl wy)), (apx, .inl (cJ, 300, .inr (.inl px))), (apy, .inl (cJ, 300, .inr (.inl py))), (alx, .inl (cJ, 300, .inr (.inl lx))), (aly, .inl (cJ, 300, .inr (.inl ly)))] U.heap ∧ va_K (dC, dI) vwCl [(cI, .int), (cZ, .boolean), (cJ, .long)] U ∧ va_D (fun _ => True) [(h0, .inr (3, [.ref ast, .ref aim, .ref akp, .ref awx, .ref awy, .ref apx, .ref apy, .int co, .ref alx, .ref aly, .int lf])), (ast, .inl (cI, 54, .inl st)), (aim, .inl (cI, 108, .inl im)), (akp, .inl (cZ, 2, .inl kp)), (awx, .inl (cI, 8, .inl wx)), (awy, .inl (cI, 8, .inl wy)), (apx, .inl (cJ, 300, .inr (.inl px))), (apy, .inl (cJ, 300, .inr (.inl py))), (alx, .inl (cJ, 300, .inr (.inl lx))), (aly, .inl (cJ, 300, .inr (.inl ly)))])) (va_Ql (fun (r : Int64) (_ : Unit) => r = r0) (fun _ t => va_P (dC, dI) vwCl [(h0, .inr (3, [.ref ast, .ref aim, .ref akp, .ref awx, .ref awy, .ref apx, .ref apy, .int coN, .ref alx, .ref aly, .int lfN])), (ast, .inl (cI, 54, .inl st)), (aim, .inl (cI, 108, .inl im)), (akp, .inl (cZ, 2, .inl kp)), (awx, .inl (cI, 8, .inl wx)), (awy, .inl (cI, 8, .inl wy)), (apx, .inl (cJ, 300, .inr (.inl pxN))), (apy, .inl (cJ, 300, .inr (.inl pyN))), (alx, .inl (cJ, 300, .inr (.inl lxN))), (aly, .inl (cJ, 300, .inr (.inl lyN)))] t.heap ∧ va_K (dC, dI) vwCl [(cI, .int), (cZ, .boolean), (cJ, .long)] t ∧ va_D (va_A [(h0, .inr (3, [.ref ast, .ref aim, .ref akp, .ref awx, .ref awy, .ref apx, .ref apy, .int co, .ref alx, .ref aly, .int lf])), (ast, .inl (cI, 54, .inl st)), (aim, .inl (cI, 108, .inl im)), (akp, .inl (cZ, 2, .inl kp)), (awx, .inl (cI, 8, .inl wx)), (awy, .inl (cI, 8, .inl wy)), (apx, .inl (cJ, 300, .inr (.inl px))), (apy, .inl (cJ, 300, .inr (.inl py))), (alx, .inl (cJ, 300, .inr (.inl lx))), (aly, .inl (cJ, 300, .inr (.inl ly)))] hsz0) [(h0, .inr (3, [.ref ast, .ref aim, .ref akp, .ref awx, .ref awy, .ref apx, .ref apy, .int coN, .ref alx, .ref aly, .int lfN])), (ast, .inl (cI, 54, .inl st)), (aim, .inl (cI, 108, .inl im)), (akp, .inl (cZ, 2, .inl kp)), (awx, .inl (cI, 8, .inl wx)), (awy, .inl (cI, 8, .inl wy)), (apx, .inl (cJ, 300, .inr (.inl pxN))), (apy, .inl (cJ, 300, .inr (.inl pyN))), (alx, .inl (cJ, 300, .inr (.inl lxN))), (aly, .inl (cJ, 300, .inr (.inl lyN)))]) (va_A [(h0, .inr (3, [.ref ast, .ref aim, .ref akp, .ref awx, .ref awy, .ref apx, .ref apy, .int co, .ref alx, .ref aly, .int lf])), (ast, .inl (cI, 54, .inl st)), (aim, .inl (cI, 108, .inl im)), (akp, .inl (cZ, 2, .inl kp)), (awx, .inl (cI, 8, .inl wx)), (awy, .inl (cI, 8, .inl wy)), (apx, .inl (cJ, 300, .inr (.inl px))), (apy, .inl (cJ, 300, .inr (.inl py))), (alx, .inl (cJ, 300, .inr (.inl lx))), (aly, .inl (cJ, 300, .inr (.inl ly)))] hsz0)) 0 0 (va_A [(h0, .inr (3, [.ref ast, .ref aim, .ref akp, .ref awx, .ref awy, .ref apx, .ref apy, .int co, .ref alx, .ref aly, .int lf])), (ast, .inl (cI, 54, .inl st)), (aim, .inl (cI, 108, .inl im)), (akp, .inl (cZ, 2, .inl kp)), (awx, .inl (cI, 8, .inl wx)), (awy, .inl (cI, 8, .inl wy)), (apx, .inl (cJ, 300, .inr (.inl px))), (apy, .inl (cJ, 300, .inr (.inl py))), (alx, .inl (cJ, 300, .inr (.inl lx))), (aly, .inl (cJ, 300, .inr (.inl ly)))] hsz0) := by
  refine Met.ofW (cc := cX3_coverOf) (maxL := 3) (ret := (some .long)) (by decide) rfl ?_
  intro p e s m args below meth c s₁ B hml hv
  change W p l e rm_X3_coverOf s m args below meth c s.heap [] 0 0 _ _
  obtain ⟨hv, hsz, hP, hK, hD0⟩ := hv
  have hx := B.exec
  have hb := B.bytes
  have hr := B.returns
  have hts := atoms_spec (ws := wsX3_coverOf) B.pre
  have hown : s.vm.findClass RX3 = some m.cls := findClass_of_methodNamed B.named
  have hlocks := B.notSynchronized
  subst hsz
  have hD := hD0.self (sz := s.heap.size)
  generalize hAe : va_A [(h0, .inr (3, [.ref ast, .ref aim, .ref akp, .ref awx, .ref awy, .ref apx, .ref apy, .int co, .ref alx, .ref aly, .int lf])), (ast, .inl (cI, 54, .inl st)), (aim, .inl (cI, 108, .inl im)), (akp, .inl (cZ, 2, .inl kp)), (awx, .inl (cI, 8, .inl wx)), (awy, .inl (cI, 8, .inl wy)), (apx, .inl (cJ, 300, .inr (.inl px))), (apy, .inl (cJ, 300, .inr (.inl py))), (alx, .inl (cJ, 300, .inr (.inl lx))), (aly, .inl (cJ, 300, .inr (.inl ly)))] s.heap.size = A at hD ⊢
  have hA : ∀ q : Nat, s.heap.size ≤ q → A q := fun q h => by rw [← hAe]; exact Or.inr h
  have hS : va_S A s.heap s.heap [] := va_S.rf
  generalize hQ : MQ below (va_Ql (fun (r : Int64) (_ : Unit) => r = r0) (fun _ t => va_P (dC, dI) vwCl [(h0, .inr (3, [.ref ast, .ref aim, .ref akp, .ref awx, .ref awy, .ref apx, .ref apy, .int coN, .ref alx, .ref aly, .int lfN])), (ast, .inl (cI, 54, .inl st)), (aim, .inl (cI, 108, .inl im)), (akp, .inl (cZ, 2, .inl kp)), (awx, .inl (cI, 8, .inl wx)), (awy, .inl (cI, 8, .inl wy)), (apx, .inl (cJ, 300, .inr (.inl pxN))), (apy, .inl (cJ, 300, .inr (.inl pyN))), (alx, .inl (cJ, 300, .inr (.inl lxN))), (aly, .inl (cJ, 300, .inr (.inl lyN)))] t.heap ∧ va_K (dC, dI) vwCl [(cI, .int), (cZ, .boolean), (cJ, .long)] t ∧ va_D A [(h0, .inr (3, [.ref ast, .ref aim, .ref akp, .ref awx, .ref awy, .ref apx, .ref apy, .int coN, .ref alx, .ref aly, .int lfN])), (ast, .inl (cI, 54, .inl st)), (aim, .inl (cI, 108, .inl im)), (akp, .inl (cZ, 2, .inl kp)), (awx, .inl (cI, 8, .inl wx)), (awy, .inl (cI, 8, .inl wy)), (apx, .inl (cJ, 300, .inr (.inl pxN))), (apy, .inl (cJ, 300, .inr (.inl pyN))), (alx, .inl (cJ, 300, .inr (.inl lxN))), (aly, .inl (cJ, 300, .inr (.inl lyN)))]) A) args s 0 0 A = Q
  have hl := lv_entry ([.ref h0, .int a0, .int a1]) (n := 3) (Nat.le_of_ble_eq_true rfl)
  have hE : entryFrame m args 3 = F0 m 0 ((lg_sl ([.ref h0, .int a0, .int a1]) ++ List.replicate (3 - (lg_sl ([.ref h0, .int a0, .int a1])).length) Slot.unset).toArray) [] := by rw [hv]; exact lg_entry_eq m _ 3
  rw [hE]
  generalize (lg_sl ([.ref h0, .int a0, .int a1]) ++ List.replicate (3 - (lg_sl ([.ref h0, .int a0, .int a1])).length) Slot.unset).toArray = ls at hl ⊢
  have hl : lv_has ls 3 [(0, .ref h0), (1, .int a0), (2, .int a1)] := hl
  unfold P_X3_coverOf at hF
  refine lv_aload_n hx hb dX3_coverOf_0 rfl (lv_at hl 0 rfl) ?_
  refine lv_iload_n hx hb dX3_coverOf_1 rfl (lv_at hl 1 rfl) ?_
  refine lv_iload_n hx hb dX3_coverOf_2 rfl (lv_at hl 2 rfl) ?_
  refine lv_iconst (v := 0) hx hb dX3_coverOf_3 (by decide) ?_
  refine lv_iconst (v := 0) hx hb dX3_coverOf_4 (by decide) ?_
  obtain ⟨r_1, px_2, py_3, co_4, lx_5, ly_6, lf_7, hr_7, hF⟩ := bd7_u hF
  have hPc := hP.sub (ws' := [(h0, .inr (3, [.ref ast, .ref aim, .ref akp, .ref awx, .ref awy, .ref apx, .ref apy, .int co, .ref alx, .ref aly, .int lf])), (ast, .inl (cI, 54, .inl st)), (aim, .inl (cI, 108, .inl im)), (akp, .inl (cZ, 2, .inl kp)), (awx, .inl (cI, 8, .inl wx)), (awy, .inl (cI, 8, .inl wy)), (apx, .inl (cJ, 300, .inr (.inl px))), (apy, .inl (cJ, 300, .inr (.inl py))), (alx, .inl (cJ, 300, .inr (.inl lx))), (aly, .inl (cJ, 300, .inr (.inl ly)))]) [0, 1, 2, 3, 4, 5, 6, 7, 8, 9] rfl
  have hKc := hK.sub (tys' := [(cI, .int), (cZ, .boolean), (cJ, .long)]) [0, 1, 2] rfl
  have hDc := hD.sub (ws' := [(h0, .inr (3, [.ref ast, .ref aim, .ref akp, .ref awx, .ref awy, .ref apx, .ref apy, .int co, .ref alx, .ref aly, .int lf])), (ast, .inl (cI, 54, .inl st)), (aim, .inl (cI, 108, .inl im)), (akp, .inl (cZ, 2, .inl kp)), (awx, .inl (cI, 8, .inl wx)), (awy, .inl (cI, 8, .inl wy)), (apx, .inl (cJ, 300, .inr (.inl px))), (apy, .inl (cJ, 300, .inr (.inl py))), (alx, .inl (cJ, 300, .inr (.inl lx))), (aly, .inl (cJ, 300, .inr (.inl ly)))]) [0, 1, 2, 3, 4, 5, 6, 7, 8, 9] (by decide) rfl
  have hFc := va_free (wc := [(h0, .inr (3, [.ref ast, .ref aim, .ref akp, .ref awx, .ref awy, .ref apx, .ref apy, .int co, .ref alx, .ref aly, .int lf])), (ast, .inl (cI, 54, .inl st)), (aim, .inl (cI, 108, .inl im)), (akp, .inl (cZ, 2, .inl kp)), (awx, .inl (cI, 8, .inl wx)), (awy, .inl (cI, 8, .inl wy)), (apx, .inl (cJ, 300, .inr (.inl px))), (apy, .inl (cJ, 300, .inr (.inl py))), (alx, .inl (cJ, 300, .inr (.inl lx))), (aly, .inl (cJ, 300, .inr (.inl ly)))]) hD hS hA [0, 1, 2, 3, 4, 5, 6, 7, 8, 9] rfl
  refine va_calll (va_runV (As := [.int a0, .int a1, .int (0 : Int32), .int (0 : Int32)]) (rest := []) ⟨hx, hb, hml, hown, hts⟩ (c_X3_coverMoved l dC dI h0 ast aim akp awx awy apx apy alx aly cI cZ cJ s.heap.size st im kp wx wy px py co lx ly lf a0 a1 (0 : Int32) (0 : Int32) r_1 px_2 py_3 co_4 lx_5 ly_6 lf_7 hr_7) (cwV 4 hts gX3_coverOf_X3_coverMoved rfl rfl rfl (by decide +kernel) ⟨Nat.le_of_ble_eq_true rfl, Nat.le_of_ble_eq_true rfl⟩) ⟨fun a U g mk q => ⟨q.1, q.2.1, q.2.2.1, va_K.moved (u := U) (U := U.calling g mk a) (Vm.Alike.refl U.vm) q.2.2.2.1, q.2.2.2.2⟩, va_recv hKc hPc (ci := 3) (q0 := 0) rfl rfl, fun U hU hW => ⟨rfl, by rw [hU], by rw [hU]; exact hPc, va_K.moved hW.alike hKc, hDc.weaken (fun _ _ _ _ => trivial)⟩⟩ rfl rfl hl.1 rfl (lv_room (Nat.le_of_ble_eq_true rfl)) dX3_coverOf_5 ⟨Nat.le_of_ble_eq_true rfl, Nat.le_of_ble_eq_true rfl⟩) hS (fun q _ h => hFc q h) hFc (fun r_1' _ t H1 locs ht hvm hw hB hz1 hk1 hS => ?_)
  obtain ⟨hP1, hK1, hD1⟩ := hB
  rw [ht] at hP1
  obtain rfl := hw.symm
  obtain ⟨hP, hD⟩ := va_join (wr := []) (w1 := [(h0, .inr (3, [.ref ast, .ref aim, .ref akp, .ref awx, .ref awy, .ref apx, .ref apy, .int co_4, .ref alx, .ref aly, .int lf_7])), (ast, .inl (cI, 54, .inl st)), (aim, .inl (cI, 108, .inl im)), (akp, .inl (cZ, 2, .inl kp)), (awx, .inl (cI, 8, .inl wx)), (awy, .inl (cI, 8, .inl wy)), (apx, .inl (cJ, 300, .inr (.inl px_2))), (apy, .inl (cJ, 300, .inr (.inl py_3))), (alx, .inl (cJ, 300, .inr (.inl lx_5))), (aly, .inl (cJ, 300, .inr (.inl ly_6)))]) hP hD [0, 1, 2, 3, 4, 5, 6, 7, 8, 9] [] rfl rfl (by decide) (by decide) hk1 hFc hP1 hD1
  clear hP1 hK1 hD1 hk1 hFc
  generalize H1 = H at hP hS ⊢
  have hP : va_P (dC, dI) vwCl [(h0, .inr (3, [.ref ast, .ref aim, .ref akp, .ref awx, .ref awy, .ref apx, .ref apy, .int co_4, .ref alx, .ref aly, .int lf_7])), (ast, .inl (cI, 54, .inl st)), (aim, .inl (cI, 108, .inl im)), (akp, .inl (cZ, 2, .inl kp)), (awx, .inl (cI, 8, .inl wx)), (awy, .inl (cI, 8, .inl wy)), (apx, .inl (cJ, 300, .inr (.inl px_2))), (apy, .inl (cJ, 300, .inr (.inl py_3))), (alx, .inl (cJ, 300, .inr (.inl lx_5))), (aly, .inl (cJ, 300, .inr (.inl ly_6)))] H := hP
  have hD : va_D A [(h0, .inr (3, [.ref ast, .ref aim, .ref akp, .ref awx, .ref awy, .ref apx, .ref apy, .int co_4, .ref alx, .ref aly, .int lf_7])), (ast, .inl (cI, 54, .inl st)), (aim, .inl (cI, 108, .inl im)), (akp, .inl (cZ, 2, .inl kp)), (awx, .inl (cI, 8, .inl wx)), (awy, .inl (cI, 8, .inl wy)), (apx, .inl (cJ, 300, .inr (.inl px_2))), (apy, .inl (cJ, 300, .inr (.inl py_3))), (alx, .inl (cJ, 300, .inr (.inl lx_5))), (aly, .inl (cJ, 300, .inr (.inl ly_6)))] := hD
  obtain ⟨e0, rfl, rfl, rfl, rfl, rfl, rfl⟩ := tp7 hF
  rw [← hQ]
  exact W.lret (v := r_1) hx hb hr (fun t ht hW => ⟨⟨_, (), rfl, e0, by rw [ht]; exact hP, va_K.moved hW.alike hK, hD⟩, hS.F ht⟩) hS.2.2 dX3_coverOf_8

