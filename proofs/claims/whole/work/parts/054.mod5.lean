def L_X3_field_25 (st : Nat → Int32) : Nat → Int32 → Int32 → Int32 → Int32 → Int32 → (Nat → Int64) → (Nat → Int64) → Int32 → (Nat → Int64) → (Nat → Int64) → Int32 → Option (Int32 × Int32 × Int32 × Int32 × Int32 × (Nat → Int64) × (Nat → Int64) × Int32 × (Nat → Int64) × (Nat → Int64) × Int32)
  | 0, _, _, _, _, _, _, _, _, _, _, _ => none
  | n + 1, k_3, k_4, k_5, k_6, k_7, px_8, py_9, co_10, lx_11, ly_12, lf_13 =>
    if (16 : Int32) ≤ k_3 then
      some (k_3, k_4, k_5, k_6, k_7, px_8, py_9, co_10, lx_11, ly_12, lf_13)
    else
      bd7 (P_X3_openOf k_3 st px_8 py_9 co_10 lx_11 ly_12 lf_13) (fun r_26 px_27 py_28 co_29 lx_30 ly_31 lf_32 =>
      bd7 (P_X3_openOf k_7 st px_27 py_28 co_29 lx_30 ly_31 lf_32) (fun r_33 px_34 py_35 co_36 lx_37 ly_38 lf_39 =>
      if r_33 ≤ r_26 then
        bd7 (P_X3_openOf k_6 st px_34 py_35 co_36 lx_37 ly_38 lf_39) (fun r_41 px_42 py_43 co_44 lx_45 ly_46 lf_47 =>
        if r_26 ≤ r_41 then
          if r_26 = (0 : Int64) then
            nm (k_5 + (1 : Int32)) (fun v_55 =>
            bd1 (P_X3_whole) (fun r_56 =>
            if r_26 = r_56 then
              nm (k_4 + (1 : Int32)) (fun v_59 =>
              L_X3_field_25 st n (k_3 + (1 : Int32)) v_59 v_55 k_6 k_7 px_42 py_43 co_44 lx_45 ly_46 lf_47)
            else
              nm (k_4 + (0 : Int32)) (fun v_58 =>
              L_X3_field_25 st n (k_3 + (1 : Int32)) v_58 v_55 k_6 k_7 px_42 py_43 co_44 lx_45 ly_46 lf_47)))
          else
            nm (k_5 + (0 : Int32)) (fun v_50 =>
            bd1 (P_X3_whole) (fun r_51 =>
            if r_26 = r_51 then
              nm (k_4 + (1 : Int32)) (fun v_54 =>
              L_X3_field_25 st n (k_3 + (1 : Int32)) v_54 v_50 k_6 k_7 px_42 py_43 co_44 lx_45 ly_46 lf_47)
            else
              nm (k_4 + (0 : Int32)) (fun v_53 =>
              L_X3_field_25 st n (k_3 + (1 : Int32)) v_53 v_50 k_6 k_7 px_42 py_43 co_44 lx_45 ly_46 lf_47)))
        else
          if r_26 = (0 : Int64) then
            nm (k_5 + (1 : Int32)) (fun v_66 =>
            bd1 (P_X3_whole) (fun r_67 =>
            if r_26 = r_67 then
              nm (k_4 + (1 : Int32)) (fun v_70 =>
              L_X3_field_25 st n (k_3 + (1 : Int32)) v_70 v_66 k_3 k_7 px_42 py_43 co_44 lx_45 ly_46 lf_47)
            else
              nm (k_4 + (0 : Int32)) (fun v_69 =>
              L_X3_field_25 st n (k_3 + (1 : Int32)) v_69 v_66 k_3 k_7 px_42 py_43 co_44 lx_45 ly_46 lf_47)))
          else
            nm (k_5 + (0 : Int32)) (fun v_61 =>
            bd1 (P_X3_whole) (fun r_62 =>
            if r_26 = r_62 then
              nm (k_4 + (1 : Int32)) (fun v_65 =>
              L_X3_field_25 st n (k_3 + (1 : Int32)) v_65 v_61 k_3 k_7 px_42 py_43 co_44 lx_45 ly_46 lf_47)
            else
              nm (k_4 + (0 : Int32)) (fun v_64 =>
              L_X3_field_25 st n (k_3 + (1 : Int32)) v_64 v_61 k_3 k_7 px_42 py_43 co_44 lx_45 ly_46 lf_47))))
      else
        bd7 (P_X3_openOf k_6 st px_34 py_35 co_36 lx_37 ly_38 lf_39) (fun r_71 px_72 py_73 co_74 lx_75 ly_76 lf_77 =>
        if r_26 ≤ r_71 then
          if r_26 = (0 : Int64) then
            nm (k_5 + (1 : Int32)) (fun v_85 =>
            bd1 (P_X3_whole) (fun r_86 =>
            if r_26 = r_86 then
              nm (k_4 + (1 : Int32)) (fun v_89 =>
              L_X3_field_25 st n (k_3 + (1 : Int32)) v_89 v_85 k_6 k_3 px_72 py_73 co_74 lx_75 ly_76 lf_77)
            else
              nm (k_4 + (0 : Int32)) (fun v_88 =>
              L_X3_field_25 st n (k_3 + (1 : Int32)) v_88 v_85 k_6 k_3 px_72 py_73 co_74 lx_75 ly_76 lf_77)))
          else
            nm (k_5 + (0 : Int32)) (fun v_80 =>
            bd1 (P_X3_whole) (fun r_81 =>
            if r_26 = r_81 then
              nm (k_4 + (1 : Int32)) (fun v_84 =>
              L_X3_field_25 st n (k_3 + (1 : Int32)) v_84 v_80 k_6 k_3 px_72 py_73 co_74 lx_75 ly_76 lf_77)
            else
              nm (k_4 + (0 : Int32)) (fun v_83 =>
              L_X3_field_25 st n (k_3 + (1 : Int32)) v_83 v_80 k_6 k_3 px_72 py_73 co_74 lx_75 ly_76 lf_77)))
        else
          if r_26 = (0 : Int64) then
            nm (k_5 + (1 : Int32)) (fun v_96 =>
            bd1 (P_X3_whole) (fun r_97 =>
            if r_26 = r_97 then
              nm (k_4 + (1 : Int32)) (fun v_100 =>
              L_X3_field_25 st n (k_3 + (1 : Int32)) v_100 v_96 k_3 k_3 px_72 py_73 co_74 lx_75 ly_76 lf_77)
            else
              nm (k_4 + (0 : Int32)) (fun v_99 =>
              L_X3_field_25 st n (k_3 + (1 : Int32)) v_99 v_96 k_3 k_3 px_72 py_73 co_74 lx_75 ly_76 lf_77)))
          else
            nm (k_5 + (0 : Int32)) (fun v_91 =>
            bd1 (P_X3_whole) (fun r_92 =>
            if r_26 = r_92 then
              nm (k_4 + (1 : Int32)) (fun v_95 =>
              L_X3_field_25 st n (k_3 + (1 : Int32)) v_95 v_91 k_3 k_3 px_72 py_73 co_74 lx_75 ly_76 lf_77)
            else
              nm (k_4 + (0 : Int32)) (fun v_94 =>
              L_X3_field_25 st n (k_3 + (1 : Int32)) v_94 v_91 k_3 k_3 px_72 py_73 co_74 lx_75 ly_76 lf_77))))))
theorem L_X3_field_25_s (st : Nat → Int32) (n : Nat) (k_3 : Int32) (k_4 : Int32) (k_5 : Int32) (k_6 : Int32) (k_7 : Int32) (px_8 : Nat → Int64) (py_9 : Nat → Int64) (co_10 : Int32) (lx_11 : Nat → Int64) (ly_12 : Nat → Int64) (lf_13 : Int32) : L_X3_field_25 st (n + 1) k_3 k_4 k_5 k_6 k_7 px_8 py_9 co_10 lx_11 ly_12 lf_13 =
    (if (16 : Int32) ≤ k_3 then
      some (k_3, k_4, k_5, k_6, k_7, px_8, py_9, co_10, lx_11, ly_12, lf_13)
    else
      bd7 (P_X3_openOf k_3 st px_8 py_9 co_10 lx_11 ly_12 lf_13) (fun r_26 px_27 py_28 co_29 lx_30 ly_31 lf_32 =>
      bd7 (P_X3_openOf k_7 st px_27 py_28 co_29 lx_30 ly_31 lf_32) (fun r_33 px_34 py_35 co_36 lx_37 ly_38 lf_39 =>
      if r_33 ≤ r_26 then
        bd7 (P_X3_openOf k_6 st px_34 py_35 co_36 lx_37 ly_38 lf_39) (fun r_41 px_42 py_43 co_44 lx_45 ly_46 lf_47 =>
        if r_26 ≤ r_41 then
          if r_26 = (0 : Int64) then
            nm (k_5 + (1 : Int32)) (fun v_55 =>
            bd1 (P_X3_whole) (fun r_56 =>
            if r_26 = r_56 then
              nm (k_4 + (1 : Int32)) (fun v_59 =>
              L_X3_field_25 st n (k_3 + (1 : Int32)) v_59 v_55 k_6 k_7 px_42 py_43 co_44 lx_45 ly_46 lf_47)
            else
              nm (k_4 + (0 : Int32)) (fun v_58 =>
              L_X3_field_25 st n (k_3 + (1 : Int32)) v_58 v_55 k_6 k_7 px_42 py_43 co_44 lx_45 ly_46 lf_47)))
          else
            nm (k_5 + (0 : Int32)) (fun v_50 =>
            bd1 (P_X3_whole) (fun r_51 =>
            if r_26 = r_51 then
              nm (k_4 + (1 : Int32)) (fun v_54 =>
              L_X3_field_25 st n (k_3 + (1 : Int32)) v_54 v_50 k_6 k_7 px_42 py_43 co_44 lx_45 ly_46 lf_47)
            else
              nm (k_4 + (0 : Int32)) (fun v_53 =>
              L_X3_field_25 st n (k_3 + (1 : Int32)) v_53 v_50 k_6 k_7 px_42 py_43 co_44 lx_45 ly_46 lf_47)))
        else
          if r_26 = (0 : Int64) then
            nm (k_5 + (1 : Int32)) (fun v_66 =>
            bd1 (P_X3_whole) (fun r_67 =>
            if r_26 = r_67 then
              nm (k_4 + (1 : Int32)) (fun v_70 =>
              L_X3_field_25 st n (k_3 + (1 : Int32)) v_70 v_66 k_3 k_7 px_42 py_43 co_44 lx_45 ly_46 lf_47)
            else
              nm (k_4 + (0 : Int32)) (fun v_69 =>
              L_X3_field_25 st n (k_3 + (1 : Int32)) v_69 v_66 k_3 k_7 px_42 py_43 co_44 lx_45 ly_46 lf_47)))
          else
            nm (k_5 + (0 : Int32)) (fun v_61 =>
            bd1 (P_X3_whole) (fun r_62 =>
            if r_26 = r_62 then
              nm (k_4 + (1 : Int32)) (fun v_65 =>
              L_X3_field_25 st n (k_3 + (1 : Int32)) v_65 v_61 k_3 k_7 px_42 py_43 co_44 lx_45 ly_46 lf_47)
            else
              nm (k_4 + (0 : Int32)) (fun v_64 =>
              L_X3_field_25 st n (k_3 + (1 : Int32)) v_64 v_61 k_3 k_7 px_42 py_43 co_44 lx_45 ly_46 lf_47))))
      else
        bd7 (P_X3_openOf k_6 st px_34 py_35 co_36 lx_37 ly_38 lf_39) (fun r_71 px_72 py_73 co_74 lx_75 ly_76 lf_77 =>
        if r_26 ≤ r_71 then
          if r_26 = (0 : Int64) then
            nm (k_5 + (1 : Int32)) (fun v_85 =>
            bd1 (P_X3_whole) (fun r_86 =>
            if r_26 = r_86 then
              nm (k_4 + (1 : Int32)) (fun v_89 =>
              L_X3_field_25 st n (k_3 + (1 : Int32)) v_89 v_85 k_6 k_3 px_72 py_73 co_74 lx_75 ly_76 lf_77)
            else
              nm (k_4 + (0 : Int32)) (fun v_88 =>
              L_X3_field_25 st n (k_3 + (1 : Int32)) v_88 v_85 k_6 k_3 px_72 py_73 co_74 lx_75 ly_76 lf_77)))
          else
            nm (k_5 + (0 : Int32)) (fun v_80 =>
            bd1 (P_X3_whole) (fun r_81 =>
            if r_26 = r_81 then
              nm (k_4 + (1 : Int32)) (fun v_84 =>
              L_X3_field_25 st n (k_3 + (1 : Int32)) v_84 v_80 k_6 k_3 px_72 py_73 co_74 lx_75 ly_76 lf_77)
            else
              nm (k_4 + (0 : Int32)) (fun v_83 =>
              L_X3_field_25 st n (k_3 + (1 : Int32)) v_83 v_80 k_6 k_3 px_72 py_73 co_74 lx_75 ly_76 lf_77)))
        else
          if r_26 = (0 : Int64) then
            nm (k_5 + (1 : Int32)) (fun v_96 =>
            bd1 (P_X3_whole) (fun r_97 =>
            if r_26 = r_97 then
              nm (k_4 + (1 : Int32)) (fun v_100 =>
              L_X3_field_25 st n (k_3 + (1 : Int32)) v_100 v_96 k_3 k_3 px_72 py_73 co_74 lx_75 ly_76 lf_77)
            else
              nm (k_4 + (0 : Int32)) (fun v_99 =>
              L_X3_field_25 st n (k_3 + (1 : Int32)) v_99 v_96 k_3 k_3 px_72 py_73 co_74 lx_75 ly_76 lf_77)))
          else
            nm (k_5 + (0 : Int32)) (fun v_91 =>
            bd1 (P_X3_whole) (fun r_92 =>
            if r_26 = r_92 then
              nm (k_4 + (1 : Int32)) (fun v_95 =>
              L_X3_field_25 st n (k_3 + (1 : Int32)) v_95 v_91 k_3 k_3 px_72 py_73 co_74 lx_75 ly_76 lf_77)
            else
              nm (k_4 + (0 : Int32)) (fun v_94 =>
              L_X3_field_25 st n (k_3 + (1 : Int32)) v_94 v_91 k_3 k_3 px_72 py_73 co_74 lx_75 ly_76 lf_77))))))) := rfl

def P_X3_field (a0 : Int32) (st : Nat → Int32) (px : Nat → Int64) (py : Nat → Int64) (co : Int32) (lx : Nat → Int64) (ly : Nat → Int64) (lf : Int32) : Option (Int32 × (Nat → Int64) × (Nat → Int64) × Int32 × (Nat → Int64) × (Nat → Int64) × Int32) :=
  bd1 (P_X3_in a0 (0 : Int32) (3 : Int32)) (fun r_1 =>
  if r_1 = (0 : Int32) then
    some ((-2 : Int32), px, py, co, lx, ly, lf)
  else
    bd11 (L_X3_field_25 st 1000 (0 : Int32) (0 : Int32) (0 : Int32) (0 : Int32) (0 : Int32) px py co lx ly lf) (fun o_14 o_15 o_16 o_17 o_18 o_19 o_20 o_21 o_22 o_23 o_24 =>
    if a0 = (0 : Int32) then
      some (o_18, o_19, o_20, o_21, o_22, o_23, o_24)
    else
      if a0 = (1 : Int32) then
        some (o_17, o_19, o_20, o_21, o_22, o_23, o_24)
      else
        if a0 = (2 : Int32) then
          some (o_16, o_19, o_20, o_21, o_22, o_23, o_24)
        else
          some (o_15, o_19, o_20, o_21, o_22, o_23, o_24)))

def rm_X3_field : Room := { frames := 7, cells := 0, slots := 0, locals := 180 }

set_option maxHeartbeats 4000000 in
set_option maxRecDepth 100000 in
theorem c_X3_field (l : Launch) (dC : Nat → ClassId) (dI : Nat → Nat → Nat) (h0 ast aim akp awx awy apx apy alx aly : Nat) (cI cZ cJ : ClassId) (hsz0 : Nat) (st : Nat → Int32) (im : Nat → Int32) (kp : Nat → Int32) (wx : Nat → Int32) (wy : Nat → Int32) (px : Nat → Int64) (py : Nat → Int64) (co : Int32) (lx : Nat → Int64) (ly : Nat → Int64) (lf : Int32) (a0 : Int32) (r0 : Int32) (pxN : Nat → Int64) (pyN : Nat → Int64) (coN : Int32) (lxN : Nat → Int64) (lyN : Nat → Int64) (lfN : Int32) (hF : P_X3_field a0 st px py co lx ly lf = some (r0, pxN, pyN, coN, lxN, lyN, lfN)) : Met l yX3_field wsX3_field rm_X3_field (va_Pc [.ref h0, .int a0] (fun U => U.heap.size = hsz0 ∧ va_P (dC, dI) vwCl [(h0, .inr (3, [.ref ast, .ref aim, .ref akp, .ref awx, .ref awy, .ref apx, .ref apy, .int co, .ref alx, .ref aly, .int lf])), (ast, .inl (cI, 54, .inl st)), (aim, .inl (cI, 108, .inl im)), (akp, .inl (cZ, 2, .inl kp)), (awx, .inl (cI, 8, .inl wx)), (awy, .inl (cI, 8, .inl wy)), (apx, .inl (cJ, 300, .inr (.inl px))), (apy, .inl (cJ, 300, .inr (.inl py))), (alx, .inl (cJ, 300, .inr (.inl lx))), (aly, .inl (cJ, 300, .inr (.inl ly)))] U.heap ∧ va_K (dC, dI) vwCl [(cI, .int), (cZ, .boolean), (cJ, .long)] U ∧ va_D (fun _ => True) [(h0, .inr (3, [.ref ast, .ref aim, .ref akp, .ref awx, .ref awy, .ref apx, .ref apy, .int co, .ref alx, .ref aly, .int lf])), (ast, .inl (cI, 54, .inl st)), (aim, .inl (cI, 108, .inl im)), (akp, .inl (cZ, 2, .inl kp)), (awx, .inl (cI, 8, .inl wx)), (awy, .inl (cI, 8, .inl wy)), (apx, .inl (cJ, 300, .inr (.inl px))), (apy, .inl (cJ, 300, .inr (.inl py))), (alx, .inl (cJ, 300, .inr (.inl lx))), (aly, .inl (cJ, 300, .inr (.inl ly)))])) (va_Qi (fun (r : Int32) (_ : Unit) => r = r0) (fun _ t => va_P (dC, dI) vwCl [(h0, .inr (3, [.ref ast, .ref aim, .ref akp, .ref awx, .ref awy, .ref apx, .ref apy, .int coN, .ref alx, .ref aly, .int lfN])), (ast, .inl (cI, 54, .inl st)), (aim, .inl (cI, 108, .inl im)), (akp, .inl (cZ, 2, .inl kp)), (awx, .inl (cI, 8, .inl wx)), (awy, .inl (cI, 8, .inl wy)), (apx, .inl (cJ, 300, .inr (.inl pxN))), (apy, .inl (cJ, 300, .inr (.inl pyN))), (alx, .inl (cJ, 300, .inr (.inl lxN))), (aly, .inl (cJ, 300, .inr (.inl lyN)))] t.heap ∧ va_K (dC, dI) vwCl [(cI, .int), (cZ, .boolean), (cJ, .long)] t ∧ va_D (va_A [(h0, .inr (3, [.ref ast, .ref aim, .ref akp, .ref awx, .ref awy, .ref apx, .ref apy, .int co, .ref alx, .ref aly, .int lf])), (ast, .inl (cI, 54, .inl st)), (aim, .inl (cI, 108, .inl im)), (akp, .inl (cZ, 2, .inl kp)), (awx, .inl (cI, 8, .inl wx)), (awy, .inl (cI, 8, .inl wy)), (apx, .inl (cJ, 300, .inr (.inl px))), (apy, .inl (cJ, 300, .inr (.inl py))), (alx, .inl (cJ, 300, .inr (.inl lx))), (aly, .inl (cJ, 300, .inr (.inl ly)))] hsz0) [(h0, .inr (3, [.ref ast, .ref aim, .ref akp, .ref awx, .ref awy, .ref apx, .ref apy, .int coN, .ref alx, .ref aly, .int lfN])), (ast, .inl (cI, 54, .inl st)), (aim, .inl (cI, 108, .inl im)), (akp, .inl (cZ, 2, .inl kp)), (awx, .inl (cI, 8, .inl wx)), (awy, .inl (cI, 8, .inl wy)), (apx, .inl (cJ, 300, .inr (.inl pxN))), (apy, .inl (cJ, 300, .inr (.inl pyN))), (alx, .inl (cJ, 300, .inr (.inl lxN))), (aly, .inl (cJ, 300, .inr (.inl lyN)))]) (va_A [(h0, .inr (3, [.ref ast, .ref aim, .ref akp, .ref awx, .ref awy, .ref apx, .ref apy, .int co, .ref alx, .ref aly, .int lf])), (ast, .inl (cI, 54, .inl st)), (aim, .inl (cI, 108, .inl im)), (akp, .inl (cZ, 2, .inl kp)), (awx, .inl (cI, 8, .inl wx)), (awy, .inl (cI, 8, .inl wy)), (apx, .inl (cJ, 300, .inr (.inl px))), (apy, .inl (cJ, 300, .inr (.inl py))), (alx, .inl (cJ, 300, .inr (.inl lx))), (aly, .inl (cJ, 300, .inr (.inl ly)))] hsz0)) 0 0 (va_A [(h0, .inr (3, [.ref ast, .ref aim, .ref akp, .ref awx, .ref awy, .ref apx, .ref apy, .int co, .ref alx, .ref aly, .int lf])), (ast, .inl (cI, 54, .inl st)), (aim, .inl (cI, 108, .inl im)), (akp, .inl (cZ, 2, .inl kp)), (awx, .inl (cI, 8, .inl wx)), (awy, .inl (cI, 8, .inl wy)), (apx, .inl (cJ, 300, .inr (.inl px))), (apy, .inl (cJ, 300, .inr (.inl py))), (alx, .inl (cJ, 300, .inr (.inl lx))), (aly, .inl (cJ, 300, .inr (.inl ly)))] hsz0) := by
  refine Met.ofW (cc := cX3_field) (maxL := 9) (ret := (some .int)) (by decide) rfl ?_
  intro p e s m args below meth c s₁ B hml hv
  change W p l e rm_X3_field s m args below meth c s.heap [] 0 0 _ _
  obtain ⟨hv, hsz, hP, hK, hD0⟩ := hv
  have hx := B.exec
  have hb := B.bytes
  have hr := B.returns
  have hts := atoms_spec (ws := wsX3_field) B.pre
  have hown : s.vm.findClass RX3 = some m.cls := findClass_of_methodNamed B.named
  have hlocks := B.notSynchronized
  subst hsz
  have hD := hD0.self (sz := s.heap.size)
  generalize hAe : va_A [(h0, .inr (3, [.ref ast, .ref aim, .ref akp, .ref awx, .ref awy, .ref apx, .ref apy, .int co, .ref alx, .ref aly, .int lf])), (ast, .inl (cI, 54, .inl st)), (aim, .inl (cI, 108, .inl im)), (akp, .inl (cZ, 2, .inl kp)), (awx, .inl (cI, 8, .inl wx)), (awy, .inl (cI, 8, .inl wy)), (apx, .inl (cJ, 300, .inr (.inl px))), (apy, .inl (cJ, 300, .inr (.inl py))), (alx, .inl (cJ, 300, .inr (.inl lx))), (aly, .inl (cJ, 300, .inr (.inl ly)))] s.heap.size = A at hD ⊢
  have hA : ∀ q : Nat, s.heap.size ≤ q → A q := fun q h => by rw [← hAe]; exact Or.inr h
  have hS : va_S A s.heap s.heap [] := va_S.rf
  generalize hQ : MQ below (va_Qi (fun (r : Int32) (_ : Unit) => r = r0) (fun _ t => va_P (dC, dI) vwCl [(h0, .inr (3, [.ref ast, .ref aim, .ref akp, .ref awx, .ref awy, .ref apx, .ref apy, .int coN, .ref alx, .ref aly, .int lfN])), (ast, .inl (cI, 54, .inl st)), (aim, .inl (cI, 108, .inl im)), (akp, .inl (cZ, 2, .inl kp)), (awx, .inl (cI, 8, .inl wx)), (awy, .inl (cI, 8, .inl wy)), (apx, .inl (cJ, 300, .inr (.inl pxN))), (apy, .inl (cJ, 300, .inr (.inl pyN))), (alx, .inl (cJ, 300, .inr (.inl lxN))), (aly, .inl (cJ, 300, .inr (.inl lyN)))] t.heap ∧ va_K (dC, dI) vwCl [(cI, .int), (cZ, .boolean), (cJ, .long)] t ∧ va_D A [(h0, .inr (3, [.ref ast, .ref aim, .ref akp, .ref awx, .ref awy, .ref apx, .ref apy, .int coN, .ref alx, .ref aly, .int lfN])), (ast, .inl (cI, 54, .inl st)), (aim, .inl (cI, 108, .inl im)), (akp, .inl (cZ, 2, .inl kp)), (awx, .inl (cI, 8, .inl wx)), (awy, .inl (cI, 8, .inl wy)), (apx, .inl (cJ, 300, .inr (.inl pxN))), (apy, .inl (cJ, 300, .inr (.inl pyN))), (alx, .inl (cJ, 300, .inr (.inl lxN))), (aly, .inl (cJ, 300, .inr (.inl lyN)))]) A) args s 0 0 A = Q
  have hl := lv_entry ([.ref h0, .int a0]) (n := 9) (Nat.le_of_ble_eq_true rfl)
  have hE : entryFrame m args 9 = F0 m 0 ((lg_sl ([.ref h0, .int a0]) ++ List.replicate (9 - (lg_sl ([.ref h0, .int a0])).length) Slot.unset).toArray) [] := by rw [hv]; exact lg_entry_eq m _ 9
  rw [hE]
  generalize (lg_sl ([.ref h0, .int a0]) ++ List.replicate (9 - (lg_sl ([.ref h0, .int a0])).length) Slot.unset).toArray = ls at hl ⊢
  have hl : lv_has ls 9 [(0, .ref h0), (1, .int a0)] := hl
  unfold P_X3_field at hF
  refine lv_iload_n hx hb dX3_field_0 rfl (lv_at hl 1 rfl) ?_
  refine lv_iconst (v := 0) hx hb dX3_field_1 (by decide) ?_
  refine lv_iconst (v := 3) hx hb dX3_field_2 (by decide) ?_
  obtain ⟨r_1, hr_1, hF⟩ := bd1_u hF
  refine vp_callSi (W.runS (As := [.int a0, .int (0 : Int32), .int (3 : Int32)]) (rest := []) ⟨hx, hb, hml, hown, hts⟩ (c_X3_in l a0 (0 : Int32) (3 : Int32) r_1 hr_1) (va_cwS 3 hts gX3_field_X3_in rfl rfl rfl (by decide +kernel) ⟨Nat.le_of_ble_eq_true rfl, Nat.le_of_ble_eq_true rfl⟩) preEq rfl rfl hl.1 rfl (lv_room (Nat.le_of_ble_eq_true rfl)) dX3_field_3 ⟨Nat.le_of_ble_eq_true rfl, Nat.le_of_ble_eq_true rfl⟩) (fun r_1' qr_1 => ?_)
  obtain rfl := qr_1.symm
  refine lv_if_ne (tgt := 12) hx hb dX3_field_6 (by decide) (fun c_2 => ?_) (fun c_2 => ?_)
  · have hF := br0 hF c_2
    refine lv_iconst (v := 0) hx hb dX3_field_12 (by decide) ?_
    refine lv_istore_n (lv' := [(2, .int (0 : Int32)), (0, .ref h0), (1, .int a0)]) hx hb dX3_field_13 rfl hl (by decide) rfl (fun ls hl => ?_)
    refine lv_iconst (v := 0) hx hb dX3_field_14 (by decide) ?_
    refine lv_istore_n (lv' := [(3, .int (0 : Int32)), (2, .int (0 : Int32)), (0, .ref h0), (1, .int a0)]) hx hb dX3_field_15 rfl hl (by decide) rfl (fun ls hl => ?_)
    refine lv_iconst (v := 0) hx hb dX3_field_16 (by decide) ?_
    refine lv_istore (lv' := [(4, .int (0 : Int32)), (3, .int (0 : Int32)), (2, .int (0 : Int32)), (0, .ref h0), (1, .int a0)]) hx hb dX3_field_17 hl (by decide) rfl (fun ls hl => ?_)
    refine lv_iconst (v := 0) hx hb dX3_field_19 (by decide) ?_
    refine lv_istore (lv' := [(5, .int (0 : Int32)), (4, .int (0 : Int32)), (3, .int (0 : Int32)), (2, .int (0 : Int32)), (0, .ref h0), (1, .int a0)]) hx hb dX3_field_20 hl (by decide) rfl (fun ls hl => ?_)
    refine lv_iconst (v := 0) hx hb dX3_field_22 (by decide) ?_
    refine lv_istore (lv' := [(6, .int (0 : Int32)), (5, .int (0 : Int32)), (4, .int (0 : Int32)), (3, .int (0 : Int32)), (2, .int (0 : Int32)), (0, .ref h0), (1, .int a0)]) hx hb dX3_field_23 hl (by decide) rfl (fun ls hl => ?_)
    obtain ⟨o_14, o_15, o_16, o_17, o_18, o_19, o_20, o_21, o_22, o_23, o_24, hL_25, hF⟩ := bd11_u hF
    have lp_25 : ∀ (n : Nat) (k_3 : Int32) (k_4 : Int32) (k_5 : Int32) (k_6 : Int32) (k_7 : Int32) (px_8 : Nat → Int64) (py_9 : Nat → Int64) (co_10 : Int32) (lx_11 : Nat → Int64) (ly_12 : Nat → Int64) (lf_13 : Int32) (o_14 : Int32) (o_15 : Int32) (o_16 : Int32) (o_17 : Int32) (o_18 : Int32) (o_19 : Nat → Int64) (o_20 : Nat → Int64) (o_21 : Int32) (o_22 : Nat → Int64) (o_23 : Nat → Int64) (o_24 : Int32) (H : Heap) (locs : List Loc) (ls : Array Slot), L_X3_field_25 st n k_3 k_4 k_5 k_6 k_7 px_8 py_9 co_10 lx_11 ly_12 lf_13 = some (o_14, o_15, o_16, o_17, o_18, o_19, o_20, o_21, o_22, o_23, o_24) → va_P (dC, dI) vwCl [(h0, .inr (3, [.ref ast, .ref aim, .ref akp, .ref awx, .ref awy, .ref apx, .ref apy, .int co_10, .ref alx, .ref aly, .int lf_13])), (ast, .inl (cI, 54, .inl st)), (aim, .inl (cI, 108, .inl im)), (akp, .inl (cZ, 2, .inl kp)), (awx, .inl (cI, 8, .inl wx)), (awy, .inl (cI, 8, .inl wy)), (apx, .inl (cJ, 300, .inr (.inl px_8))), (apy, .inl (cJ, 300, .inr (.inl py_9))), (alx, .inl (cJ, 300, .inr (.inl lx_11))), (aly, .inl (cJ, 300, .inr (.inl ly_12)))] H → va_D A [(h0, .inr (3, [.ref ast, .ref aim, .ref akp, .ref awx, .ref awy, .ref apx, .ref apy, .int co_10, .ref alx, .ref aly, .int lf_13])), (ast, .inl (cI, 54, .inl st)), (aim, .inl (cI, 108, .inl im)), (akp, .inl (cZ, 2, .inl kp)), (awx, .inl (cI, 8, .inl wx)), (awy, .inl (cI, 8, .inl wy)), (apx, .inl (cJ, 300, .inr (.inl px_8))), (apy, .inl (cJ, 300, .inr (.inl py_9))), (alx, .inl (cJ, 300, .inr (.inl lx_11))), (aly, .inl (cJ, 300, .inr (.inl ly_12)))] → va_S A s.heap H locs → lv_has ls 9 [(6, .int k_3), (5, .int k_4), (4, .int k_5), (3, .int k_6), (2, .int k_7), (0, .ref h0), (1, .int a0)] → (∀ (H : Heap) (locs : List Loc) (ls : Array Slot), va_P (dC, dI) vwCl [(h0, .inr (3, [.ref ast, .ref aim, .ref akp, .ref awx, .ref awy, .ref apx, .ref apy, .int o_21, .ref alx, .ref aly, .int o_24])), (ast, .inl (cI, 54, .inl st)), (aim, .inl (cI, 108, .inl im)), (akp, .inl (cZ, 2, .inl kp)), (awx, .inl (cI, 8, .inl wx)), (awy, .inl (cI, 8, .inl wy)), (apx, .inl (cJ, 300, .inr (.inl o_19))), (apy, .inl (cJ, 300, .inr (.inl o_20))), (alx, .inl (cJ, 300, .inr (.inl o_22))), (aly, .inl (cJ, 300, .inr (.inl o_23)))] H → va_D A [(h0, .inr (3, [.ref ast, .ref aim, .ref akp, .ref awx, .ref awy, .ref apx, .ref apy, .int o_21, .ref alx, .ref aly, .int o_24])), (ast, .inl (cI, 54, .inl st)), (aim, .inl (cI, 108, .inl im)), (akp, .inl (cZ, 2, .inl kp)), (awx, .inl (cI, 8, .inl wx)), (awy, .inl (cI, 8, .inl wy)), (apx, .inl (cJ, 300, .inr (.inl o_19))), (apy, .inl (cJ, 300, .inr (.inl o_20))), (alx, .inl (cJ, 300, .inr (.inl o_22))), (aly, .inl (cJ, 300, .inr (.inl o_23)))] → va_S A s.heap H locs → lv_has ls 9 [(6, .int o_14), (5, .int o_15), (4, .int o_16), (3, .int o_17), (2, .int o_18), (0, .ref h0), (1, .int a0)] → W p l e rm_X3_field s m args below meth c H locs 0 0 Q (F0 m 118 ls [])) → W p l e rm_X3_field s m args below meth c H locs 0 0 Q (F0 m 25 ls []) := by
      intro n
      induction n with
      | zero =>
        intro k_3 k_4 k_5 k_6 k_7 px_8 py_9 co_10 lx_11 ly_12 lf_13 o_14 o_15 o_16 o_17 o_18 o_19 o_20 o_21 o_22 o_23 o_24 H locs ls hF
        exact nn ((rfl : L_X3_field_25 st 0 k_3 k_4 k_5 k_6 k_7 px_8 py_9 co_10 lx_11 ly_12 lf_13 = none).symm.trans hF)
      | succ n ih_25 =>
        intro k_3 k_4 k_5 k_6 k_7 px_8 py_9 co_10 lx_11 ly_12 lf_13 o_14 o_15 o_16 o_17 o_18 o_19 o_20 o_21 o_22 o_23 o_24 H locs ls hF hP hD hS hl kx_25
        have hF := (L_X3_field_25_s st n k_3 k_4 k_5 k_6 k_7 px_8 py_9 co_10 lx_11 ly_12 lf_13).symm.trans hF
        refine lv_iload hx hb dX3_field_25 (lv_at hl 0 rfl) ?_
        refine lv_bipush (v := 16) hx hb dX3_field_27 (by decide) ?_
        refine lv_icmp_ge (tgt := 118) hx hb dX3_field_29 (by decide) (fun c_25 => ?_) (fun c_25 => ?_)
        · have hF := br1 hF c_25
          obtain ⟨rfl, rfl, rfl, rfl, rfl, rfl, rfl, rfl, rfl, rfl, rfl⟩ := tp11 hF
          exact kx_25 _ _ ls hP hD hS hl
        · have hF := br0 hF c_25
          refine lv_aload_n hx hb dX3_field_32 rfl (lv_at hl 5 rfl) ?_
          refine lv_iload hx hb dX3_field_33 (lv_at hl 0 rfl) ?_
          obtain ⟨r_26, px_27, py_28, co_29, lx_30, ly_31, lf_32, hr_32, hF⟩ := bd7_u hF
          have hPc := hP.sub (ws' := [(h0, .inr (3, [.ref ast, .ref aim, .ref akp, .ref awx, .ref awy, .ref apx, .ref apy, .int co_10, .ref alx, .ref aly, .int lf_13])), (ast, .inl (cI, 54, .inl st)), (aim, .inl (cI, 108, .inl im)), (akp, .inl (cZ, 2, .inl kp)), (awx, .inl (cI, 8, .inl wx)), (awy, .inl (cI, 8, .inl wy)), (apx, .inl (cJ, 300, .inr (.inl px_8))), (apy, .inl (cJ, 300, .inr (.inl py_9))), (alx, .inl (cJ, 300, .inr (.inl lx_11))), (aly, .inl (cJ, 300, .inr (.inl ly_12)))]) [0, 1, 2, 3, 4, 5, 6, 7, 8, 9] rfl
          have hKc := hK.sub (tys' := [(cI, .int), (cZ, .boolean), (cJ, .long)]) [0, 1, 2] rfl
          have hDc := hD.sub (ws' := [(h0, .inr (3, [.ref ast, .ref aim, .ref akp, .ref awx, .ref awy, .ref apx, .ref apy, .int co_10, .ref alx, .ref aly, .int lf_13])), (ast, .inl (cI, 54, .inl st)), (aim, .inl (cI, 108, .inl im)), (akp, .inl (cZ, 2, .inl kp)), (awx, .inl (cI, 8, .inl wx)), (awy, .inl (cI, 8, .inl wy)), (apx, .inl (cJ, 300, .inr (.inl px_8))), (apy, .inl (cJ, 300, .inr (.inl py_9))), (alx, .inl (cJ, 300, .inr (.inl lx_11))), (aly, .inl (cJ, 300, .inr (.inl ly_12)))]) [0, 1, 2, 3, 4, 5, 6, 7, 8, 9] (by decide) rfl
          have hFc := va_free (wc := [(h0, .inr (3, [.ref ast, .ref aim, .ref akp, .ref awx, .ref awy, .ref apx, .ref apy, .int co_10, .ref alx, .ref aly, .int lf_13])), (ast, .inl (cI, 54, .inl st)), (aim, .inl (cI, 108, .inl im)), (akp, .inl (cZ, 2, .inl kp)), (awx, .inl (cI, 8, .inl wx)), (awy, .inl (cI, 8, .inl wy)), (apx, .inl (cJ, 300, .inr (.inl px_8))), (apy, .inl (cJ, 300, .inr (.inl py_9))), (alx, .inl (cJ, 300, .inr (.inl lx_11))), (aly, .inl (cJ, 300, .inr (.inl ly_12)))]) hD hS hA [0, 1, 2, 3, 4, 5, 6, 7, 8, 9] rfl
          refine va_calll (va_runV (As := [.int k_3]) (rest := []) ⟨hx, hb, hml, hown, hts⟩ (c_X3_openOf l dC dI h0 ast aim akp awx awy apx apy alx aly cI cZ cJ H.size st im kp wx wy px_8 py_9 co_10 lx_11 ly_12 lf_13 k_3 r_26 px_27 py_28 co_29 lx_30 ly_31 lf_32 hr_32) (cwV 1 hts gX3_field_X3_openOf rfl rfl rfl (by decide +kernel) ⟨Nat.le_of_ble_eq_true rfl, Nat.le_of_ble_eq_true rfl⟩) ⟨fun a U g mk q => ⟨q.1, q.2.1, q.2.2.1, va_K.moved (u := U) (U := U.calling g mk a) (Vm.Alike.refl U.vm) q.2.2.2.1, q.2.2.2.2⟩, va_recv hKc hPc (ci := 3) (q0 := 0) rfl rfl, fun U hU hW => ⟨rfl, by rw [hU], by rw [hU]; exact hPc, va_K.moved hW.alike hKc, hDc.weaken (fun _ _ _ _ => trivial)⟩⟩ rfl rfl hl.1 rfl (lv_room (Nat.le_of_ble_eq_true rfl)) dX3_field_35 ⟨Nat.le_of_ble_eq_true rfl, Nat.le_of_ble_eq_true rfl⟩) hS (fun q _ h => hFc q h) hFc (fun r_26' _ t H1 locs ht hvm hw hB hz1 hk1 hS => ?_)
          obtain ⟨hP1, hK1, hD1⟩ := hB
          rw [ht] at hP1
          obtain rfl := hw.symm
          obtain ⟨hP, hD⟩ := va_join (wr := []) (w1 := [(h0, .inr (3, [.ref ast, .ref aim, .ref akp, .ref awx, .ref awy, .ref apx, .ref apy, .int co_29, .ref alx, .ref aly, .int lf_32])), (ast, .inl (cI, 54, .inl st)), (aim, .inl (cI, 108, .inl im)), (akp, .inl (cZ, 2, .inl kp)), (awx, .inl (cI, 8, .inl wx)), (awy, .inl (cI, 8, .inl wy)), (apx, .inl (cJ, 300, .inr (.inl px_27))), (apy, .inl (cJ, 300, .inr (.inl py_28))), (alx, .inl (cJ, 300, .inr (.inl lx_30))), (aly, .inl (cJ, 300, .inr (.inl ly_31)))]) hP hD [0, 1, 2, 3, 4, 5, 6, 7, 8, 9] [] rfl rfl (by decide) (by decide) hk1 hFc hP1 hD1
          clear hP1 hK1 hD1 hk1 hFc
          generalize H1 = H at hP hS ⊢
          have hP : va_P (dC, dI) vwCl [(h0, .inr (3, [.ref ast, .ref aim, .ref akp, .ref awx, .ref awy, .ref apx, .ref apy, .int co_29, .ref alx, .ref aly, .int lf_32])), (ast, .inl (cI, 54, .inl st)), (aim, .inl (cI, 108, .inl im)), (akp, .inl (cZ, 2, .inl kp)), (awx, .inl (cI, 8, .inl wx)), (awy, .inl (cI, 8, .inl wy)), (apx, .inl (cJ, 300, .inr (.inl px_27))), (apy, .inl (cJ, 300, .inr (.inl py_28))), (alx, .inl (cJ, 300, .inr (.inl lx_30))), (aly, .inl (cJ, 300, .inr (.inl ly_31)))] H := hP
          have hD : va_D A [(h0, .inr (3, [.ref ast, .ref aim, .ref akp, .ref awx, .ref awy, .ref apx, .ref apy, .int co_29, .ref alx, .ref aly, .int lf_32])), (ast, .inl (cI, 54, .inl st)), (aim, .inl (cI, 108, .inl im)), (akp, .inl (cZ, 2, .inl kp)), (awx, .inl (cI, 8, .inl wx)), (awy, .inl (cI, 8, .inl wy)), (apx, .inl (cJ, 300, .inr (.inl px_27))), (apy, .inl (cJ, 300, .inr (.inl py_28))), (alx, .inl (cJ, 300, .inr (.inl lx_30))), (aly, .inl (cJ, 300, .inr (.inl ly_31)))] := hD
          refine lv_lstore (lv' := [(7, .long r_26), (6, .int k_3), (5, .int k_4), (4, .int k_5), (3, .int k_6), (2, .int k_7), (0, .ref h0), (1, .int a0)]) hx hb dX3_field_38 hl (by decide) rfl (fun ls hl => ?_)
          refine lv_lload hx hb dX3_field_40 (lv_at hl 0 rfl) ?_
          refine lv_aload_n hx hb dX3_field_42 rfl (lv_at hl 6 rfl) ?_
          refine lv_iload_n hx hb dX3_field_43 rfl (lv_at hl 5 rfl) ?_
          obtain ⟨r_33, px_34, py_35, co_36, lx_37, ly_38, lf_39, hr_39, hF⟩ := bd7_u hF
          have hPc := hP.sub (ws' := [(h0, .inr (3, [.ref ast, .ref aim, .ref akp, .ref awx, .ref awy, .ref apx, .ref apy, .int co_29, .ref alx, .ref aly, .int lf_32])), (ast, .inl (cI, 54, .inl st)), (aim, .inl (cI, 108, .inl im)), (akp, .inl (cZ, 2, .inl kp)), (awx, .inl (cI, 8, .inl wx)), (awy, .inl (cI, 8, .inl wy)), (apx, .inl (cJ, 300, .inr (.inl px_27))), (apy, .inl (cJ, 300, .inr (.inl py_28))), (alx, .inl (cJ, 300, .inr (.inl lx_30))), (aly, .inl (cJ, 300, .inr (.inl ly_31)))]) [0, 1, 2, 3, 4, 5, 6, 7, 8, 9] rfl
          have hKc := hK.sub (tys' := [(cI, .int), (cZ, .boolean), (cJ, .long)]) [0, 1, 2] rfl
          have hDc := hD.sub (ws' := [(h0, .inr (3, [.ref ast, .ref aim, .ref akp, .ref awx, .ref awy, .ref apx, .ref apy, .int co_29, .ref alx, .ref aly, .int lf_32])), (ast, .inl (cI, 54, .inl st)), (aim, .inl (cI, 108, .inl im)), (akp, .inl (cZ, 2, .inl kp)), (awx, .inl (cI, 8, .inl wx)), (awy, .inl (cI, 8, .inl wy)), (apx, .inl (cJ, 300, .inr (.inl px_27))), (apy, .inl (cJ, 300, .inr (.inl py_28))), (alx, .inl (cJ, 300, .inr (.inl lx_30))), (aly, .inl (cJ, 300, .inr (.inl ly_31)))]) [0, 1, 2, 3, 4, 5, 6, 7, 8, 9] (by decide) rfl
          have hFc := va_free (wc := [(h0, .inr (3, [.ref ast, .ref aim, .ref akp, .ref awx, .ref awy, .ref apx, .ref apy, .int co_29, .ref alx, .ref aly, .int lf_32])), (ast, .inl (cI, 54, .inl st)), (aim, .inl (cI, 108, .inl im)), (akp, .inl (cZ, 2, .inl kp)), (awx, .inl (cI, 8, .inl wx)), (awy, .inl (cI, 8, .inl wy)), (apx, .inl (cJ, 300, .inr (.inl px_27))), (apy, .inl (cJ, 300, .inr (.inl py_28))), (alx, .inl (cJ, 300, .inr (.inl lx_30))), (aly, .inl (cJ, 300, .inr (.inl ly_31)))]) hD hS hA [0, 1, 2, 3, 4, 5, 6, 7, 8, 9] rfl
          refine va_calll (va_runV (As := [.int k_7]) (rest := [.long r_26]) ⟨hx, hb, hml, hown, hts⟩ (c_X3_openOf l dC dI h0 ast aim akp awx awy apx apy alx aly cI cZ cJ H.size st im kp wx wy px_27 py_28 co_29 lx_30 ly_31 lf_32 k_7 r_33 px_34 py_35 co_36 lx_37 ly_38 lf_39 hr_39) (cwV 1 hts gX3_field_X3_openOf rfl rfl rfl (by decide +kernel) ⟨Nat.le_of_ble_eq_true rfl, Nat.le_of_ble_eq_true rfl⟩) ⟨fun a U g mk q => ⟨q.1, q.2.1, q.2.2.1, va_K.moved (u := U) (U := U.calling g mk a) (Vm.Alike.refl U.vm) q.2.2.2.1, q.2.2.2.2⟩, va_recv hKc hPc (ci := 3) (q0 := 0) rfl rfl, fun U hU hW => ⟨rfl, by rw [hU], by rw [hU]; exact hPc, va_K.moved hW.alike hKc, hDc.weaken (fun _ _ _ _ => trivial)⟩⟩ rfl rfl hl.1 rfl (lv_room (Nat.le_of_ble_eq_true rfl)) dX3_field_44 ⟨Nat.le_of_ble_eq_true rfl, Nat.le_of_ble_eq_true rfl⟩) hS (fun q _ h => hFc q h) hFc (fun r_33' _ t H1 locs ht hvm hw hB hz1 hk1 hS => ?_)
          obtain ⟨hP1, hK1, hD1⟩ := hB
          rw [ht] at hP1
          obtain rfl := hw.symm
          obtain ⟨hP, hD⟩ := va_join (wr := []) (w1 := [(h0, .inr (3, [.ref ast, .ref aim, .ref akp, .ref awx, .ref awy, .ref apx, .ref apy, .int co_36, .ref alx, .ref aly, .int lf_39])), (ast, .inl (cI, 54, .inl st)), (aim, .inl (cI, 108, .inl im)), (akp, .inl (cZ, 2, .inl kp)), (awx, .inl (cI, 8, .inl wx)), (awy, .inl (cI, 8, .inl wy)), (apx, .inl (cJ, 300, .inr (.inl px_34))), (apy, .inl (cJ, 300, .inr (.inl py_35))), (alx, .inl (cJ, 300, .inr (.inl lx_37))), (aly, .inl (cJ, 300, .inr (.inl ly_38)))]) hP hD [0, 1, 2, 3, 4, 5, 6, 7, 8, 9] [] rfl rfl (by decide) (by decide) hk1 hFc hP1 hD1
          clear hP1 hK1 hD1 hk1 hFc
          generalize H1 = H at hP hS ⊢
          have hP : va_P (dC, dI) vwCl [(h0, .inr (3, [.ref ast, .ref aim, .ref akp, .ref awx, .ref awy, .ref apx, .ref apy, .int co_36, .ref alx, .ref aly, .int lf_39])), (ast, .inl (cI, 54, .inl st)), (aim, .inl (cI, 108, .inl im)), (akp, .inl (cZ, 2, .inl kp)), (awx, .inl (cI, 8, .inl wx)), (awy, .inl (cI, 8, .inl wy)), (apx, .inl (cJ, 300, .inr (.inl px_34))), (apy, .inl (cJ, 300, .inr (.inl py_35))), (alx, .inl (cJ, 300, .inr (.inl lx_37))), (aly, .inl (cJ, 300, .inr (.inl ly_38)))] H := hP
          have hD : va_D A [(h0, .inr (3, [.ref ast, .ref aim, .ref akp, .ref awx, .ref awy, .ref apx, .ref apy, .int co_36, .ref alx, .ref aly, .int lf_39])), (ast, .inl (cI, 54, .inl st)), (aim, .inl (cI, 108, .inl im)), (akp, .inl (cZ, 2, .inl kp)), (awx, .inl (cI, 8, .inl wx)), (awy, .inl (cI, 8, .inl wy)), (apx, .inl (cJ, 300, .inr (.inl px_34))), (apy, .inl (cJ, 300, .inr (.inl py_35))), (alx, .inl (cJ, 300, .inr (.inl lx_37))), (aly, .inl (cJ, 300, .inr (.inl ly_38)))] := hD
          refine lc_ge (tgt := 56) hx hb dX3_field_47 dX3_field_48 (by decide) (fun c_40 => ?_) (fun c_40 => ?_)
          · have hF := br1 hF c_40
            refine lv_iload_n hx hb dX3_field_56 rfl (lv_at hl 5 rfl) ?_
            refine lv_istore_n (lv' := [(2, .int k_7), (7, .long r_26), (6, .int k_3), (5, .int k_4), (4, .int k_5), (3, .int k_6), (0, .ref h0), (1, .int a0)]) hx hb dX3_field_57 rfl hl (by decide) rfl (fun ls hl => ?_)
            refine lv_lload hx hb dX3_field_58 (lv_at hl 1 rfl) ?_
            refine lv_aload_n hx hb dX3_field_60 rfl (lv_at hl 6 rfl) ?_
            refine lv_iload_n hx hb dX3_field_61 rfl (lv_at hl 5 rfl) ?_
            obtain ⟨r_41, px_42, py_43, co_44, lx_45, ly_46, lf_47, hr_47, hF⟩ := bd7_u hF
            have hPc := hP.sub (ws' := [(h0, .inr (3, [.ref ast, .ref aim, .ref akp, .ref awx, .ref awy, .ref apx, .ref apy, .int co_36, .ref alx, .ref aly, .int lf_39])), (ast, .inl (cI, 54, .inl st)), (aim, .inl (cI, 108, .inl im)), (akp, .inl (cZ, 2, .inl kp)), (awx, .inl (cI, 8, .inl wx)), (awy, .inl (cI, 8, .inl wy)), (apx, .inl (cJ, 300, .inr (.inl px_34))), (apy, .inl (cJ, 300, .inr (.inl py_35))), (alx, .inl (cJ, 300, .inr (.inl lx_37))), (aly, .inl (cJ, 300, .inr (.inl ly_38)))]) [0, 1, 2, 3, 4, 5, 6, 7, 8, 9] rfl
            have hKc := hK.sub (tys' := [(cI, .int), (cZ, .boolean), (cJ, .long)]) [0, 1, 2] rfl
            have hDc := hD.sub (ws' := [(h0, .inr (3, [.ref ast, .ref aim, .ref akp, .ref awx, .ref awy, .ref apx, .ref apy, .int co_36, .ref alx, .ref aly, .int lf_39])), (ast, .inl (cI, 54, .inl st)), (aim, .inl (cI, 108, .inl im)), (akp, .inl (cZ, 2, .inl kp)), (awx, .inl (cI, 8, .inl wx)), (awy, .inl (cI, 8, .inl wy)), (apx, .inl (cJ, 300, .inr (.inl px_34))), (apy, .inl (cJ, 300, .inr (.inl py_35))), (alx, .inl (cJ, 300, .inr (.inl lx_37))), (aly, .inl (cJ, 300, .inr (.inl ly_38)))]) [0, 1, 2, 3, 4, 5, 6, 7, 8, 9] (by decide) rfl
            have hFc := va_free (wc := [(h0, .inr (3, [.ref ast, .ref aim, .ref akp, .ref awx, .ref awy, .ref apx, .ref apy, .int co_36, .ref alx, .ref aly, .int lf_39])), (ast, .inl (cI, 54, .inl st)), (aim, .inl (cI, 108, .inl im)), (akp, .inl (cZ, 2, .inl kp)), (awx, .inl (cI, 8, .inl wx)), (awy, .inl (cI, 8, .inl wy)), (apx, .inl (cJ, 300, .inr (.inl px_34))), (apy, .inl (cJ, 300, .inr (.inl py_35))), (alx, .inl (cJ, 300, .inr (.inl lx_37))), (aly, .inl (cJ, 300, .inr (.inl ly_38)))]) hD hS hA [0, 1, 2, 3, 4, 5, 6, 7, 8, 9] rfl
            refine va_calll (va_runV (As := [.int k_6]) (rest := [.long r_26]) ⟨hx, hb, hml, hown, hts⟩ (c_X3_openOf l dC dI h0 ast aim akp awx awy apx apy alx aly cI cZ cJ H.size st im kp wx wy px_34 py_35 co_36 lx_37 ly_38 lf_39 k_6 r_41 px_42 py_43 co_44 lx_45 ly_46 lf_47 hr_47) (cwV 1 hts gX3_field_X3_openOf rfl rfl rfl (by decide +kernel) ⟨Nat.le_of_ble_eq_true rfl, Nat.le_of_ble_eq_true rfl⟩) ⟨fun a U g mk q => ⟨q.1, q.2.1, q.2.2.1, va_K.moved (u := U) (U := U.calling g mk a) (Vm.Alike.refl U.vm) q.2.2.2.1, q.2.2.2.2⟩, va_recv hKc hPc (ci := 3) (q0 := 0) rfl rfl, fun U hU hW => ⟨rfl, by rw [hU], by rw [hU]; exact hPc, va_K.moved hW.alike hKc, hDc.weaken (fun _ _ _ _ => trivial)⟩⟩ rfl rfl hl.1 rfl (lv_room (Nat.le_of_ble_eq_true rfl)) dX3_field_62 ⟨Nat.le_of_ble_eq_true rfl, Nat.le_of_ble_eq_true rfl⟩) hS (fun q _ h => hFc q h) hFc (fun r_41' _ t H1 locs ht hvm hw hB hz1 hk1 hS => ?_)
            obtain ⟨hP1, hK1, hD1⟩ := hB
            rw [ht] at hP1
            obtain rfl := hw.symm
            obtain ⟨hP, hD⟩ := va_join (wr := []) (w1 := [(h0, .inr (3, [.ref ast, .ref aim, .ref akp, .ref awx, .ref awy, .ref apx, .ref apy, .int co_44, .ref alx, .ref aly, .int lf_47])), (ast, .inl (cI, 54, .inl st)), (aim, .inl (cI, 108, .inl im)), (akp, .inl (cZ, 2, .inl kp)), (awx, .inl (cI, 8, .inl wx)), (awy, .inl (cI, 8, .inl wy)), (apx, .inl (cJ, 300, .inr (.inl px_42))), (apy, .inl (cJ, 300, .inr (.inl py_43))), (alx, .inl (cJ, 300, .inr (.inl lx_45))), (aly, .inl (cJ, 300, .inr (.inl ly_46)))]) hP hD [0, 1, 2, 3, 4, 5, 6, 7, 8, 9] [] rfl rfl (by decide) (by decide) hk1 hFc hP1 hD1
            clear hP1 hK1 hD1 hk1 hFc
            generalize H1 = H at hP hS ⊢
            have hP : va_P (dC, dI) vwCl [(h0, .inr (3, [.ref ast, .ref aim, .ref akp, .ref awx, .ref awy, .ref apx, .ref apy, .int co_44, .ref alx, .ref aly, .int lf_47])), (ast, .inl (cI, 54, .inl st)), (aim, .inl (cI, 108, .inl im)), (akp, .inl (cZ, 2, .inl kp)), (awx, .inl (cI, 8, .inl wx)), (awy, .inl (cI, 8, .inl wy)), (apx, .inl (cJ, 300, .inr (.inl px_42))), (apy, .inl (cJ, 300, .inr (.inl py_43))), (alx, .inl (cJ, 300, .inr (.inl lx_45))), (aly, .inl (cJ, 300, .inr (.inl ly_46)))] H := hP
            have hD : va_D A [(h0, .inr (3, [.ref ast, .ref aim, .ref akp, .ref awx, .ref awy, .ref apx, .ref apy, .int co_44, .ref alx, .ref aly, .int lf_47])), (ast, .inl (cI, 54, .inl st)), (aim, .inl (cI, 108, .inl im)), (akp, .inl (cZ, 2, .inl kp)), (awx, .inl (cI, 8, .inl wx)), (awy, .inl (cI, 8, .inl wy)), (apx, .inl (cJ, 300, .inr (.inl px_42))), (apy, .inl (cJ, 300, .inr (.inl py_43))), (alx, .inl (cJ, 300, .inr (.inl lx_45))), (aly, .inl (cJ, 300, .inr (.inl ly_46)))] := hD
            refine lc_le (tgt := 74) hx hb dX3_field_65 dX3_field_66 (by decide) (fun c_48 => ?_) (fun c_48 => ?_)
            · have hF := br1 hF c_48
              refine lv_iload_n hx hb dX3_field_74 rfl (lv_at hl 5 rfl) ?_
              refine lv_istore_n (lv' := [(3, .int k_6), (2, .int k_7), (7, .long r_26), (6, .int k_3), (5, .int k_4), (4, .int k_5), (0, .ref h0), (1, .int a0)]) hx hb dX3_field_75 rfl hl (by decide) rfl (fun ls hl => ?_)
              refine lv_iload hx hb dX3_field_76 (lv_at hl 5 rfl) ?_
              refine lv_lload hx hb dX3_field_78 (lv_at hl 2 rfl) ?_
              refine lv_lconst (v := 0) hx hb dX3_field_80 (by decide) ?_
              refine lc_ne (tgt := 89) hx hb dX3_field_81 dX3_field_82 (by decide) (fun c_49 => ?_) (fun c_49 => ?_)
              · have hF := br0 hF c_49
                refine lv_iconst (v := 0) hx hb dX3_field_89 (by decide) ?_
                refine lv_iadd hx hb dX3_field_90 ?_
                refine lv_topi (fun v_50 ev_50 => ?_)
                have hF := nm_u hF ev_50
                refine lv_istore (lv' := [(4, .int v_50), (3, .int k_6), (2, .int k_7), (7, .long r_26), (6, .int k_3), (5, .int k_4), (0, .ref h0), (1, .int a0)]) hx hb dX3_field_91 hl (by decide) rfl (fun ls hl => ?_)
                refine lv_iload hx hb dX3_field_93 (lv_at hl 5 rfl) ?_
                refine lv_lload hx hb dX3_field_95 (lv_at hl 3 rfl) ?_
                obtain ⟨r_51, hr_51, hF⟩ := bd1_u hF
                refine vp_callSl (W.runS (As := []) (rest := [.long r_26, .int k_4]) ⟨hx, hb, hml, hown, hts⟩ (c_X3_whole l r_51 hr_51) (va_cwS 0 hts gX3_field_X3_whole rfl rfl rfl (by decide +kernel) ⟨Nat.le_of_ble_eq_true rfl, Nat.le_of_ble_eq_true rfl⟩) preEq rfl rfl hl.1 rfl (lv_room (Nat.le_of_ble_eq_true rfl)) dX3_field_97 ⟨Nat.le_of_ble_eq_true rfl, Nat.le_of_ble_eq_true rfl⟩) (fun r_51' qr_51 => ?_)
                obtain rfl := qr_51.symm
                refine lc_ne (tgt := 108) hx hb dX3_field_100 dX3_field_101 (by decide) (fun c_52 => ?_) (fun c_52 => ?_)
                · have hF := br0 hF c_52
                  refine lv_iconst (v := 0) hx hb dX3_field_108 (by decide) ?_
                  refine lv_iadd hx hb dX3_field_109 ?_
                  refine lv_topi (fun v_53 ev_53 => ?_)
                  have hF := nm_u hF ev_53
                  refine lv_istore (lv' := [(5, .int v_53), (4, .int v_50), (3, .int k_6), (2, .int k_7), (7, .long r_26), (6, .int k_3), (0, .ref h0), (1, .int a0)]) hx hb dX3_field_110 hl (by decide) rfl (fun ls hl => ?_)
                  refine lv_iinc (v := (k_3 + (1 : Int32))) (lv' := [(6, .int (k_3 + (1 : Int32))), (5, .int v_53), (4, .int v_50), (3, .int k_6), (2, .int k_7), (7, .long r_26), (0, .ref h0), (1, .int a0)]) hx hb dX3_field_112 hl (k := 5) rfl rfl (by decide) rfl (fun ls hl => ?_)
                  refine lv_goto (tgt := 25) hx hb dX3_field_115 (by decide) ?_
                  exact ih_25 _ _ _ _ _ _ _ _ _ _ _ _ _ _ _ _ _ _ _ _ _ _ _ _ ls hF hP hD hS (lv_sub hl [0, 1, 2, 3, 4, 6, 7] rfl) kx_25
                · have hF := br1 hF c_52
                  refine lv_iconst (v := 1) hx hb dX3_field_104 (by decide) ?_
                  refine lv_goto (tgt := 109) hx hb dX3_field_105 (by decide) ?_
                  refine lv_iadd hx hb dX3_field_109 ?_
                  refine lv_topi (fun v_54 ev_54 => ?_)
                  have hF := nm_u hF ev_54
                  refine lv_istore (lv' := [(5, .int v_54), (4, .int v_50), (3, .int k_6), (2, .int k_7), (7, .long r_26), (6, .int k_3), (0, .ref h0), (1, .int a0)]) hx hb dX3_field_110 hl (by decide) rfl (fun ls hl => ?_)
                  refine lv_iinc (v := (k_3 + (1 : Int32))) (lv' := [(6, .int (k_3 + (1 : Int32))), (5, .int v_54), (4, .int v_50), (3, .int k_6), (2, .int k_7), (7, .long r_26), (0, .ref h0), (1, .int a0)]) hx hb dX3_field_112 hl (k := 5) rfl rfl (by decide) rfl (fun ls hl => ?_)
                  refine lv_goto (tgt := 25) hx hb dX3_field_115 (by decide) ?_
                  exact ih_25 _ _ _ _ _ _ _ _ _ _ _ _ _ _ _ _ _ _ _ _ _ _ _ _ ls hF hP hD hS (lv_sub hl [0, 1, 2, 3, 4, 6, 7] rfl) kx_25
              · have hF := br1 hF c_49
                refine lv_iconst (v := 1) hx hb dX3_field_85 (by decide) ?_
                refine lv_goto (tgt := 90) hx hb dX3_field_86 (by decide) ?_
                refine lv_iadd hx hb dX3_field_90 ?_
                refine lv_topi (fun v_55 ev_55 => ?_)
                have hF := nm_u hF ev_55
                refine lv_istore (lv' := [(4, .int v_55), (3, .int k_6), (2, .int k_7), (7, .long r_26), (6, .int k_3), (5, .int k_4), (0, .ref h0), (1, .int a0)]) hx hb dX3_field_91 hl (by decide) rfl (fun ls hl => ?_)
                refine lv_iload hx hb dX3_field_93 (lv_at hl 5 rfl) ?_
                refine lv_lload hx hb dX3_field_95 (lv_at hl 3 rfl) ?_
                obtain ⟨r_56, hr_56, hF⟩ := bd1_u hF
                refine vp_callSl (W.runS (As := []) (rest := [.long r_26, .int k_4]) ⟨hx, hb, hml, hown, hts⟩ (c_X3_whole l r_56 hr_56) (va_cwS 0 hts gX3_field_X3_whole rfl rfl rfl (by decide +kernel) ⟨Nat.le_of_ble_eq_true rfl, Nat.le_of_ble_eq_true rfl⟩) preEq rfl rfl hl.1 rfl (lv_room (Nat.le_of_ble_eq_true rfl)) dX3_field_97 ⟨Nat.le_of_ble_eq_true rfl, Nat.le_of_ble_eq_true rfl⟩) (fun r_56' qr_56 => ?_)
                obtain rfl := qr_56.symm
                refine lc_ne (tgt := 108) hx hb dX3_field_100 dX3_field_101 (by decide) (fun c_57 => ?_) (fun c_57 => ?_)
                · have hF := br0 hF c_57
                  refine lv_iconst (v := 0) hx hb dX3_field_108 (by decide) ?_
                  refine lv_iadd hx hb dX3_field_109 ?_
                  refine lv_topi (fun v_58 ev_58 => ?_)
                  have hF := nm_u hF ev_58
                  refine lv_istore (lv' := [(5, .int v_58), (4, .int v_55), (3, .int k_6), (2, .int k_7), (7, .long r_26), (6, .int k_3), (0, .ref h0), (1, .int a0)]) hx hb dX3_field_110 hl (by decide) rfl (fun ls hl => ?_)
                  refine lv_iinc (v := (k_3 + (1 : Int32))) (lv' := [(6, .int (k_3 + (1 : Int32))), (5, .int v_58), (4, .int v_55), (3, .int k_6), (2, .int k_7), (7, .long r_26), (0, .ref h0), (1, .int a0)]) hx hb dX3_field_112 hl (k := 5) rfl rfl (by decide) rfl (fun ls hl => ?_)
                  refine lv_goto (tgt := 25) hx hb dX3_field_115 (by decide) ?_
                  exact ih_25 _ _ _ _ _ _ _ _ _ _ _ _ _ _ _ _ _ _ _ _ _ _ _ _ ls hF hP hD hS (lv_sub hl [0, 1, 2, 3, 4, 6, 7] rfl) kx_25
                · have hF := br1 hF c_57
                  refine lv_iconst (v := 1) hx hb dX3_field_104 (by decide) ?_
                  refine lv_goto (tgt := 109) hx hb dX3_field_105 (by decide) ?_
                  refine lv_iadd hx hb dX3_field_109 ?_
                  refine lv_topi (fun v_59 ev_59 => ?_)
                  have hF := nm_u hF ev_59
                  refine lv_istore (lv' := [(5, .int v_59), (4, .int v_55), (3, .int k_6), (2, .int k_7), (7, .long r_26), (6, .int k_3), (0, .ref h0), (1, .int a0)]) hx hb dX3_field_110 hl (by decide) rfl (fun ls hl => ?_)
                  refine lv_iinc (v := (k_3 + (1 : Int32))) (lv' := [(6, .int (k_3 + (1 : Int32))), (5, .int v_59), (4, .int v_55), (3, .int k_6), (2, .int k_7), (7, .long r_26), (0, .ref h0), (1, .int a0)]) hx hb dX3_field_112 hl (k := 5) rfl rfl (by decide) rfl (fun ls hl => ?_)
                  refine lv_goto (tgt := 25) hx hb dX3_field_115 (by decide) ?_
                  exact ih_25 _ _ _ _ _ _ _ _ _ _ _ _ _ _ _ _ _ _ _ _ _ _ _ _ ls hF hP hD hS (lv_sub hl [0, 1, 2, 3, 4, 6, 7] rfl) kx_25
            · have hF := br0 hF c_48
              refine lv_iload hx hb dX3_field_69 (lv_at hl 2 rfl) ?_
              refine lv_goto (tgt := 75) hx hb dX3_field_71 (by decide) ?_
              refine lv_istore_n (lv' := [(3, .int k_3), (2, .int k_7), (7, .long r_26), (6, .int k_3), (5, .int k_4), (4, .int k_5), (0, .ref h0), (1, .int a0)]) hx hb dX3_field_75 rfl hl (by decide) rfl (fun ls hl => ?_)
              refine lv_iload hx hb dX3_field_76 (lv_at hl 5 rfl) ?_
              refine lv_lload hx hb dX3_field_78 (lv_at hl 2 rfl) ?_
              refine lv_lconst (v := 0) hx hb dX3_field_80 (by decide) ?_
              refine lc_ne (tgt := 89) hx hb dX3_field_81 dX3_field_82 (by decide) (fun c_60 => ?_) (fun c_60 => ?_)
              · have hF := br0 hF c_60
                refine lv_iconst (v := 0) hx hb dX3_field_89 (by decide) ?_
                refine lv_iadd hx hb dX3_field_90 ?_
                refine lv_topi (fun v_61 ev_61 => ?_)
                have hF := nm_u hF ev_61
                refine lv_istore (lv' := [(4, .int v_61), (3, .int k_3), (2, .int k_7), (7, .long r_26), (6, .int k_3), (5, .int k_4), (0, .ref h0), (1, .int a0)]) hx hb dX3_field_91 hl (by decide) rfl (fun ls hl => ?_)
                refine lv_iload hx hb dX3_field_93 (lv_at hl 5 rfl) ?_
                refine lv_lload hx hb dX3_field_95 (lv_at hl 3 rfl) ?_
                obtain ⟨r_62, hr_62, hF⟩ := bd1_u hF
                refine vp_callSl (W.runS (As := []) (rest := [.long r_26, .int k_4]) ⟨hx, hb, hml, hown, hts⟩ (c_X3_whole l r_62 hr_62) (va_cwS 0 hts gX3_field_X3_whole rfl rfl rfl (by decide +kernel) ⟨Nat.le_of_ble_eq_true rfl, Nat.le_of_ble_eq_true rfl⟩) preEq rfl rfl hl.1 rfl (lv_room (Nat.le_of_ble_eq_true rfl)) dX3_field_97 ⟨Nat.le_of_ble_eq_true rfl, Nat.le_of_ble_eq_true rfl⟩) (fun r_62' qr_62 => ?_)
                obtain rfl := qr_62.symm
                refine lc_ne (tgt := 108) hx hb dX3_field_100 dX3_field_101 (by decide) (fun c_63 => ?_) (fun c_63 => ?_)
                · have hF := br0 hF c_63
                  refine lv_iconst (v := 0) hx hb dX3_field_108 (by decide) ?_
                  refine lv_iadd hx hb dX3_field_109 ?_
                  refine lv_topi (fun v_64 ev_64 => ?_)
                  have hF := nm_u hF ev_64
                  refine lv_istore (lv' := [(5, .int v_64), (4, .int v_61), (3, .int k_3), (2, .int k_7), (7, .long r_26), (6, .int k_3), (0, .ref h0), (1, .int a0)]) hx hb dX3_field_110 hl (by decide) rfl (fun ls hl => ?_)
                  refine lv_iinc (v := (k_3 + (1 : Int32))) (lv' := [(6, .int (k_3 + (1 : Int32))), (5, .int v_64), (4, .int v_61), (3, .int k_3), (2, .int k_7), (7, .long r_26), (0, .ref h0), (1, .int a0)]) hx hb dX3_field_112 hl (k := 5) rfl rfl (by decide) rfl (fun ls hl => ?_)
                  refine lv_goto (tgt := 25) hx hb dX3_field_115 (by decide) ?_
                  exact ih_25 _ _ _ _ _ _ _ _ _ _ _ _ _ _ _ _ _ _ _ _ _ _ _ _ ls hF hP hD hS (lv_sub hl [0, 1, 2, 3, 4, 6, 7] rfl) kx_25
                · have hF := br1 hF c_63
                  refine lv_iconst (v := 1) hx hb dX3_field_104 (by decide) ?_
                  refine lv_goto (tgt := 109) hx hb dX3_field_105 (by decide) ?_
                  refine lv_iadd hx hb dX3_field_109 ?_
                  refine lv_topi (fun v_65 ev_65 => ?_)
                  have hF := nm_u hF ev_65
                  refine lv_istore (lv' := [(5, .int v_65), (4, .int v_61), (3, .int k_3), (2, .int k_7), (7, .long r_26), (6, .int k_3), (0, .ref h0), (1, .int a0)]) hx hb dX3_field_110 hl (by decide) rfl (fun ls hl => ?_)
                  refine lv_iinc (v := (k_3 + (1 : Int32))) (lv' := [(6, .int (k_3 + (1 : Int32))), (5, .int v_65), (4, .int v_61), (3, .int k_3), (2, .int k_7), (7, .long r_26), (0, .ref h0), (1, .int a0)]) hx hb dX3_field_112 hl (k := 5) rfl rfl (by decide) rfl (fun ls hl => ?_)
                  refine lv_goto (tgt := 25) hx hb dX3_field_115 (by decide) ?_
                  exact ih_25 _ _ _ _ _ _ _ _ _ _ _ _ _ _ _ _ _ _ _ _ _ _ _ _ ls hF hP hD hS (lv_sub hl [0, 1, 2, 3, 4, 6, 7] rfl) kx_25
              · have hF := br1 hF c_60
                refine lv_iconst (v := 1) hx hb dX3_field_85 (by decide) ?_
                refine lv_goto (tgt := 90) hx hb dX3_field_86 (by decide) ?_
                refine lv_iadd hx hb dX3_field_90 ?_
                refine lv_topi (fun v_66 ev_66 => ?_)
                have hF := nm_u hF ev_66
                refine lv_istore (lv' := [(4, .int v_66), (3, .int k_3), (2, .int k_7), (7, .long r_26), (6, .int k_3), (5, .int k_4), (0, .ref h0), (1, .int a0)]) hx hb dX3_field_91 hl (by decide) rfl (fun ls hl => ?_)
                refine lv_iload hx hb dX3_field_93 (lv_at hl 5 rfl) ?_
                refine lv_lload hx hb dX3_field_95 (lv_at hl 3 rfl) ?_
                obtain ⟨r_67, hr_67, hF⟩ := bd1_u hF
                refine vp_callSl (W.runS (As := []) (rest := [.long r_26, .int k_4]) ⟨hx, hb, hml, hown, hts⟩ (c_X3_whole l r_67 hr_67) (va_cwS 0 hts gX3_field_X3_whole rfl rfl rfl (by decide +kernel) ⟨Nat.le_of_ble_eq_true rfl, Nat.le_of_ble_eq_true rfl⟩) preEq rfl rfl hl.1 rfl (lv_room (Nat.le_of_ble_eq_true rfl)) dX3_field_97 ⟨Nat.le_of_ble_eq_true rfl, Nat.le_of_ble_eq_true rfl⟩) (fun r_67' qr_67 => ?_)
                obtain rfl := qr_67.symm
                refine lc_ne (tgt := 108) hx hb dX3_field_100 dX3_field_101 (by decide) (fun c_68 => ?_) (fun c_68 => ?_)
                · have hF := br0 hF c_68
                  refine lv_iconst (v := 0) hx hb dX3_field_108 (by decide) ?_
                  refine lv_iadd hx hb dX3_field_109 ?_
                  refine lv_topi (fun v_69 ev_69 => ?_)
                  have hF := nm_u hF ev_69
                  refine lv_istore (lv' := [(5, .int v_69), (4, .int v_66), (3, .int k_3), (2, .int k_7), (7, .long r_26), (6, .int k_3), (0, .ref h0), (1, .int a0)]) hx hb dX3_field_110 hl (by decide) rfl (fun ls hl => ?_)
                  refine lv_iinc (v := (k_3 + (1 : Int32))) (lv' := [(6, .int (k_3 + (1 : Int32))), (5, .int v_69), (4, .int v_66), (3, .int k_3), (2, .int k_7), (7, .long r_26), (0, .ref h0), (1, .int a0)]) hx hb dX3_field_112 hl (k := 5) rfl rfl (by decide) rfl (fun ls hl => ?_)
                  refine lv_goto (tgt := 25) hx hb dX3_field_115 (by decide) ?_
                  exact ih_25 _ _ _ _ _ _ _ _ _ _ _ _ _ _ _ _ _ _ _ _ _ _ _ _ ls hF hP hD hS (lv_sub hl [0, 1, 2, 3, 4, 6, 7] rfl) kx_25
                · have hF := br1 hF c_68
                  refine lv_iconst (v := 1) hx hb dX3_field_104 (by decide) ?_
                  refine lv_goto (tgt := 109) hx hb dX3_field_105 (by decide) ?_
                  refine lv_iadd hx hb dX3_field_109 ?_
                  refine lv_topi (fun v_70 ev_70 => ?_)
                  have hF := nm_u hF ev_70
                  refine lv_istore (lv' := [(5, .int v_70), (4, .int v_66), (3, .int k_3), (2, .int k_7), (7, .long r_26), (6, .int k_3), (0, .ref h0), (1, .int a0)]) hx hb dX3_field_110 hl (by decide) rfl (fun ls hl => ?_)
                  refine lv_iinc (v := (k_3 + (1 : Int32))) (lv' := [(6, .int (k_3 + (1 : Int32))), (5, .int v_70), (4, .int v_66), (3, .int k_3), (2, .int k_7), (7, .long r_26), (0, .ref h0), (1, .int a0)]) hx hb dX3_field_112 hl (k := 5) rfl rfl (by decide) rfl (fun ls hl => ?_)
                  refine lv_goto (tgt := 25) hx hb dX3_field_115 (by decide) ?_
                  exact ih_25 _ _ _ _ _ _ _ _ _ _ _ _ _ _ _ _ _ _ _ _ _ _ _ _ ls hF hP hD hS (lv_sub hl [0, 1, 2, 3, 4, 6, 7] rfl) kx_25
          · have hF := br0 hF c_40
            refine lv_iload hx hb dX3_field_51 (lv_at hl 1 rfl) ?_
            refine lv_goto (tgt := 57) hx hb dX3_field_53 (by decide) ?_
            refine lv_istore_n (lv' := [(2, .int k_3), (7, .long r_26), (6, .int k_3), (5, .int k_4), (4, .int k_5), (3, .int k_6), (0, .ref h0), (1, .int a0)]) hx hb dX3_field_57 rfl hl (by decide) rfl (fun ls hl => ?_)
            refine lv_lload hx hb dX3_field_58 (lv_at hl 1 rfl) ?_
            refine lv_aload_n hx hb dX3_field_60 rfl (lv_at hl 6 rfl) ?_
            refine lv_iload_n hx hb dX3_field_61 rfl (lv_at hl 5 rfl) ?_
            obtain ⟨r_71, px_72, py_73, co_74, lx_75, ly_76, lf_77, hr_77, hF⟩ := bd7_u hF
            have hPc := hP.sub (ws' := [(h0, .inr (3, [.ref ast, .ref aim, .ref akp, .ref awx, .ref awy, .ref apx, .ref apy, .int co_36, .ref alx, .ref aly, .int lf_39])), (ast, .inl (cI, 54, .inl st)), (aim, .inl (cI, 108, .inl im)), (akp, .inl (cZ, 2, .inl kp)), (awx, .inl (cI, 8, .inl wx)), (awy, .inl (cI, 8, .inl wy)), (apx, .inl (cJ, 300, .inr (.inl px_34))), (apy, .inl (cJ, 300, .inr (.inl py_35))), (alx, .inl (cJ, 300, .inr (.inl lx_37))), (aly, .inl (cJ, 300, .inr (.inl ly_38)))]) [0, 1, 2, 3, 4, 5, 6, 7, 8, 9] rfl
            have hKc := hK.sub (tys' := [(cI, .int), (cZ, .boolean), (cJ, .long)]) [0, 1, 2] rfl
            have hDc := hD.sub (ws' := [(h0, .inr (3, [.ref ast, .ref aim, .ref akp, .ref awx, .ref awy, .ref apx, .ref apy, .int co_36, .ref alx, .ref aly, .int lf_39])), (ast, .inl (cI, 54, .inl st)), (aim, .inl (cI, 108, .inl im)), (akp, .inl (cZ, 2, .inl kp)), (awx, .inl (cI, 8, .inl wx)), (awy, .inl (cI, 8, .inl wy)), (apx, .inl (cJ, 300, .inr (.inl px_34))), (apy, .inl (cJ, 300, .inr (.inl py_35))), (alx, .inl (cJ, 300, .inr (.inl lx_37))), (aly, .inl (cJ, 300, .inr (.inl ly_38)))]) [0, 1, 2, 3, 4, 5, 6, 7, 8, 9] (by decide) rfl
            have hFc := va_free (wc := [(h0, .inr (3, [.ref ast, .ref aim, .ref akp, .ref awx, .ref awy, .ref apx, .ref apy, .int co_36, .ref alx, .ref aly, .int lf_39])), (ast, .inl (cI, 54, .inl st)), (aim, .inl (cI, 108, .inl im)), (akp, .inl (cZ, 2, .inl kp)), (awx, .inl (cI, 8, .inl wx)), (awy, .inl (cI, 8, .inl wy)), (apx, .inl (cJ, 300, .inr (.inl px_34))), (apy, .inl (cJ, 300, .inr (.inl py_35))), (alx, .inl (cJ, 300, .inr (.inl lx_37))), (aly, .inl (cJ, 300, .inr (.inl ly_38)))]) hD hS hA [0, 1, 2, 3, 4, 5, 6, 7, 8, 9] rfl
            refine va_calll (va_runV (As := [.int k_6]) (rest := [.long r_26]) ⟨hx, hb, hml, hown, hts⟩ (c_X3_openOf l dC dI h0 ast aim akp awx awy apx apy alx aly cI cZ cJ H.size st im kp wx wy px_34 py_35 co_36 lx_37 ly_38 lf_39 k_6 r_71 px_72 py_73 co_74 lx_75 ly_76 lf_77 hr_77) (cwV 1 hts gX3_field_X3_openOf rfl rfl rfl (by decide +kernel) ⟨Nat.le_of_ble_eq_true rfl, Nat.le_of_ble_eq_true rfl⟩) ⟨fun a U g mk q => ⟨q.1, q.2.1, q.2.2.1, va_K.moved (u := U) (U := U.calling g mk a) (Vm.Alike.refl U.vm) q.2.2.2.1, q.2.2.2.2⟩, va_recv hKc hPc (ci := 3) (q0 := 0) rfl rfl, fun U hU hW => ⟨rfl, by rw [hU], by rw [hU]; exact hPc, va_K.moved hW.alike hKc, hDc.weaken (fun _ _ _ _ => trivial)⟩⟩ rfl rfl hl.1 rfl (lv_room (Nat.le_of_ble_eq_true rfl)) dX3_field_62 ⟨Nat.le_of_ble_eq_true rfl, Nat.le_of_ble_eq_true rfl⟩) hS (fun q _ h => hFc q h) hFc (fun r_71' _ t H1 locs ht hvm hw hB hz1 hk1 hS => ?_)
            obtain ⟨hP1, hK1, hD1⟩ := hB
            rw [ht] at hP1
            obtain rfl := hw.symm
            obtain ⟨hP, hD⟩ := va_join (wr := []) (w1 := [(h0, .inr (3, [.ref ast, .ref aim, .ref akp, .ref awx, .ref awy, .ref apx, .ref apy, .int co_74, .ref alx, .ref aly, .int lf_77])), (ast, .inl (cI, 54, .inl st)), (aim, .inl (cI, 108, .inl im)), (akp, .inl (cZ, 2, .inl kp)), (awx, .inl (cI, 8, .inl wx)), (awy, .inl (cI, 8, .inl wy)), (apx, .inl (cJ, 300, .inr (.inl px_72))), (apy, .inl (cJ, 300, .inr (.inl py_73))), (alx, .inl (cJ, 300, .inr (.inl lx_75))), (aly, .inl (cJ, 300, .inr (.inl ly_76)))]) hP hD [0, 1, 2, 3, 4, 5, 6, 7, 8, 9] [] rfl rfl (by decide) (by decide) hk1 hFc hP1 hD1
            clear hP1 hK1 hD1 hk1 hFc
            generalize H1 = H at hP hS ⊢
            have hP : va_P (dC, dI) vwCl [(h0, .inr (3, [.ref ast, .ref aim, .ref akp, .ref awx, .ref awy, .ref apx, .ref apy, .int co_74, .ref alx, .ref aly, .int lf_77])), (ast, .inl (cI, 54, .inl st)), (aim, .inl (cI, 108, .inl im)), (akp, .inl (cZ, 2, .inl kp)), (awx, .inl (cI, 8, .inl wx)), (awy, .inl (cI, 8, .inl wy)), (apx, .inl (cJ, 300, .inr (.inl px_72))), (apy, .inl (cJ, 300, .inr (.inl py_73))), (alx, .inl (cJ, 300, .inr (.inl lx_75))), (aly, .inl (cJ, 300, .inr (.inl ly_76)))] H := hP
            have hD : va_D A [(h0, .inr (3, [.ref ast, .ref aim, .ref akp, .ref awx, .ref awy, .ref apx, .ref apy, .int co_74, .ref alx, .ref aly, .int lf_77])), (ast, .inl (cI, 54, .inl st)), (aim, .inl (cI, 108, .inl im)), (akp, .inl (cZ, 2, .inl kp)), (awx, .inl (cI, 8, .inl wx)), (awy, .inl (cI, 8, .inl wy)), (apx, .inl (cJ, 300, .inr (.inl px_72))), (apy, .inl (cJ, 300, .inr (.inl py_73))), (alx, .inl (cJ, 300, .inr (.inl lx_75))), (aly, .inl (cJ, 300, .inr (.inl ly_76)))] := hD
            refine lc_le (tgt := 74) hx hb dX3_field_65 dX3_field_66 (by decide) (fun c_78 => ?_) (fun c_78 => ?_)
            · have hF := br1 hF c_78
              refine lv_iload_n hx hb dX3_field_74 rfl (lv_at hl 5 rfl) ?_
              refine lv_istore_n (lv' := [(3, .int k_6), (2, .int k_3), (7, .long r_26), (6, .int k_3), (5, .int k_4), (4, .int k_5), (0, .ref h0), (1, .int a0)]) hx hb dX3_field_75 rfl hl (by decide) rfl (fun ls hl => ?_)
              refine lv_iload hx hb dX3_field_76 (lv_at hl 5 rfl) ?_
              refine lv_lload hx hb dX3_field_78 (lv_at hl 2 rfl) ?_
              refine lv_lconst (v := 0) hx hb dX3_field_80 (by decide) ?_
              refine lc_ne (tgt := 89) hx hb dX3_field_81 dX3_field_82 (by decide) (fun c_79 => ?_) (fun c_79 => ?_)
              · have hF := br0 hF c_79
                refine lv_iconst (v := 0) hx hb dX3_field_89 (by decide) ?_
                refine lv_iadd hx hb dX3_field_90 ?_
                refine lv_topi (fun v_80 ev_80 => ?_)
                have hF := nm_u hF ev_80
                refine lv_istore (lv' := [(4, .int v_80), (3, .int k_6), (2, .int k_3), (7, .long r_26), (6, .int k_3), (5, .int k_4), (0, .ref h0), (1, .int a0)]) hx hb dX3_field_91 hl (by decide) rfl (fun ls hl => ?_)
                refine lv_iload hx hb dX3_field_93 (lv_at hl 5 rfl) ?_
                refine lv_lload hx hb dX3_field_95 (lv_at hl 3 rfl) ?_
                obtain ⟨r_81, hr_81, hF⟩ := bd1_u hF
                refine vp_callSl (W.runS (As := []) (rest := [.long r_26, .int k_4]) ⟨hx, hb, hml, hown, hts⟩ (c_X3_whole l r_81 hr_81) (va_cwS 0 hts gX3_field_X3_whole rfl rfl rfl (by decide +kernel) ⟨Nat.le_of_ble_eq_true rfl, Nat.le_of_ble_eq_true rfl⟩) preEq rfl rfl hl.1 rfl (lv_room (Nat.le_of_ble_eq_true rfl)) dX3_field_97 ⟨Nat.le_of_ble_eq_true rfl, Nat.le_of_ble_eq_true rfl⟩) (fun r_81' qr_81 => ?_)
                obtain rfl := qr_81.symm
                refine lc_ne (tgt := 108) hx hb dX3_field_100 dX3_field_101 (by decide) (fun c_82 => ?_) (fun c_82 => ?_)
                · have hF := br0 hF c_82
                  refine lv_iconst (v := 0) hx hb dX3_field_108 (by decide) ?_
                  refine lv_iadd hx hb dX3_field_109 ?_
                  refine lv_topi (fun v_83 ev_83 => ?_)
                  have hF := nm_u hF ev_83
                  refine lv_istore (lv' := [(5, .int v_83), (4, .int v_80), (3, .int k_6), (2, .int k_3), (7, .long r_26), (6, .int k_3), (0, .ref h0), (1, .int a0)]) hx hb dX3_field_110 hl (by decide) rfl (fun ls hl => ?_)
                  refine lv_iinc (v := (k_3 + (1 : Int32))) (lv' := [(6, .int (k_3 + (1 : Int32))), (5, .int v_83), (4, .int v_80), (3, .int k_6), (2, .int k_3), (7, .long r_26), (0, .ref h0), (1, .int a0)]) hx hb dX3_field_112 hl (k := 5) rfl rfl (by decide) rfl (fun ls hl => ?_)
                  refine lv_goto (tgt := 25) hx hb dX3_field_115 (by decide) ?_
                  exact ih_25 _ _ _ _ _ _ _ _ _ _ _ _ _ _ _ _ _ _ _ _ _ _ _ _ ls hF hP hD hS (lv_sub hl [0, 1, 2, 3, 4, 6, 7] rfl) kx_25
                · have hF := br1 hF c_82
                  refine lv_iconst (v := 1) hx hb dX3_field_104 (by decide) ?_
                  refine lv_goto (tgt := 109) hx hb dX3_field_105 (by decide) ?_
                  refine lv_iadd hx hb dX3_field_109 ?_
                  refine lv_topi (fun v_84 ev_84 => ?_)
                  have hF := nm_u hF ev_84
                  refine lv_istore (lv' := [(5, .int v_84), (4, .int v_80), (3, .int k_6), (2, .int k_3), (7, .long r_26), (6, .int k_3), (0, .ref h0), (1, .int a0)]) hx hb dX3_field_110 hl (by decide) rfl (fun ls hl => ?_)
                  refine lv_iinc (v := (k_3 + (1 : Int32))) (lv' := [(6, .int (k_3 + (1 : Int32))), (5, .int v_84), (4, .int v_80), (3, .int k_6), (2, .int k_3), (7, .long r_26), (0, .ref h0), (1, .int a0)]) hx hb dX3_field_112 hl (k := 5) rfl rfl (by decide) rfl (fun ls hl => ?_)
                  refine lv_goto (tgt := 25) hx hb dX3_field_115 (by decide) ?_
                  exact ih_25 _ _ _ _ _ _ _ _ _ _ _ _ _ _ _ _ _ _ _ _ _ _ _ _ ls hF hP hD hS (lv_sub hl [0, 1, 2, 3, 4, 6, 7] rfl) kx_25
              · have hF := br1 hF c_79
                refine lv_iconst (v := 1) hx hb dX3_field_85 (by decide) ?_
                refine lv_goto (tgt := 90) hx hb dX3_field_86 (by decide) ?_
                refine lv_iadd hx hb dX3_field_90 ?_
                refine lv_topi (fun v_85 ev_85 => ?_)
                have hF := nm_u hF ev_85
                refine lv_istore (lv' := [(4, .int v_85), (3, .int k_6), (2, .int k_3), (7, .long r_26), (6, .int k_3), (5, .int k_4), (0, .ref h0), (1, .int a0)]) hx hb dX3_field_91 hl (by decide) rfl (fun ls hl => ?_)
                refine lv_iload hx hb dX3_field_93 (lv_at hl 5 rfl) ?_
                refine lv_lload hx hb dX3_field_95 (lv_at hl 3 rfl) ?_
                obtain ⟨r_86, hr_86, hF⟩ := bd1_u hF
                refine vp_callSl (W.runS (As := []) (rest := [.long r_26, .int k_4]) ⟨hx, hb, hml, hown, hts⟩ (c_X3_whole l r_86 hr_86) (va_cwS 0 hts gX3_field_X3_whole rfl rfl rfl (by decide +kernel) ⟨Nat.le_of_ble_eq_true rfl, Nat.le_of_ble_eq_true rfl⟩) preEq rfl rfl hl.1 rfl (lv_room (Nat.le_of_ble_eq_true rfl)) dX3_field_97 ⟨Nat.le_of_ble_eq_true rfl, Nat.le_of_ble_eq_true rfl⟩) (fun r_86' qr_86 => ?_)
                obtain rfl := qr_86.symm
                refine lc_ne (tgt := 108) hx hb dX3_field_100 dX3_field_101 (by decide) (fun c_87 => ?_) (fun c_87 => ?_)
                · have hF := br0 hF c_87
                  refine lv_iconst (v := 0) hx hb dX3_field_108 (by decide) ?_
                  refine lv_iadd hx hb dX3_field_109 ?_
                  refine lv_topi (fun v_88 ev_88 => ?_)
                  have hF := nm_u hF ev_88
                  refine lv_istore (lv' := [(5, .int v_88), (4, .int v_85), (3, .int k_6), (2, .int k_3), (7, .long r_26), (6, .int k_3), (0, .ref h0), (1, .int a0)]) hx hb dX3_field_110 hl (by decide) rfl (fun ls hl => ?_)
                  refine lv_iinc (v := (k_3 + (1 : Int32))) (lv' := [(6, .int (k_3 + (1 : Int32))), (5, .int v_88), (4, .int v_85), (3, .int k_6), (2, .int k_3), (7, .long r_26), (0, .ref h0), (1, .int a0)]) hx hb dX3_field_112 hl (k := 5) rfl rfl (by decide) rfl (fun ls hl => ?_)
                  refine lv_goto (tgt := 25) hx hb dX3_field_115 (by decide) ?_
                  exact ih_25 _ _ _ _ _ _ _ _ _ _ _ _ _ _ _ _ _ _ _ _ _ _ _ _ ls hF hP hD hS (lv_sub hl [0, 1, 2, 3, 4, 6, 7] rfl) kx_25
                · have hF := br1 hF c_87
                  refine lv_iconst (v := 1) hx hb dX3_field_104 (by decide) ?_
                  refine lv_goto (tgt := 109) hx hb dX3_field_105 (by decide) ?_
                  refine lv_iadd hx hb dX3_field_109 ?_
                  refine lv_topi (fun v_89 ev_89 => ?_)
                  have hF := nm_u hF ev_89
                  refine lv_istore (lv' := [(5, .int v_89), (4, .int v_85), (3, .int k_6), (2, .int k_3), (7, .long r_26), (6, .int k_3), (0, .ref h0), (1, .int a0)]) hx hb dX3_field_110 hl (by decide) rfl (fun ls hl => ?_)
                  refine lv_iinc (v := (k_3 + (1 : Int32))) (lv' := [(6, .int (k_3 + (1 : Int32))), (5, .int v_89), (4, .int v_85), (3, .int k_6), (2, .int k_3), (7, .long r_26), (0, .ref h0), (1, .int a0)]) hx hb dX3_field_112 hl (k := 5) rfl rfl (by decide) rfl (fun ls hl => ?_)
                  refine lv_goto (tgt := 25) hx hb dX3_field_115 (by decide) ?_
                  exact ih_25 _ _ _ _ _ _ _ _ _ _ _ _ _ _ _ _ _ _ _ _ _ _ _ _ ls hF hP hD hS (lv_sub hl [0, 1, 2, 3, 4, 6, 7] rfl) kx_25
            · have hF := br0 hF c_78
              refine lv_iload hx hb dX3_field_69 (lv_at hl 2 rfl) ?_
              refine lv_goto (tgt := 75) hx hb dX3_field_71 (by decide) ?_
              refine lv_istore_n (lv' := [(3, .int k_3), (2, .int k_3), (7, .long r_26), (6, .int k_3), (5, .int k_4), (4, .int k_5), (0, .ref h0), (1, .int a0)]) hx hb dX3_field_75 rfl hl (by decide) rfl (fun ls hl => ?_)
              refine lv_iload hx hb dX3_field_76 (lv_at hl 5 rfl) ?_
              refine lv_lload hx hb dX3_field_78 (lv_at hl 2 rfl) ?_
              refine lv_lconst (v := 0) hx hb dX3_field_80 (by decide) ?_
              refine lc_ne (tgt := 89) hx hb dX3_field_81 dX3_field_82 (by decide) (fun c_90 => ?_) (fun c_90 => ?_)
              · have hF := br0 hF c_90
                refine lv_iconst (v := 0) hx hb dX3_field_89 (by decide) ?_
                refine lv_iadd hx hb dX3_field_90 ?_
                refine lv_topi (fun v_91 ev_91 => ?_)
                have hF := nm_u hF ev_91
                refine lv_istore (lv' := [(4, .int v_91), (3, .int k_3), (2, .int k_3), (7, .long r_26), (6, .int k_3), (5, .int k_4), (0, .ref h0), (1, .int a0)]) hx hb dX3_field_91 hl (by decide) rfl (fun ls hl => ?_)
                refine lv_iload hx hb dX3_field_93 (lv_at hl 5 rfl) ?_
                refine lv_lload hx hb dX3_field_95 (lv_at hl 3 rfl) ?_
                obtain ⟨r_92, hr_92, hF⟩ := bd1_u hF
                refine vp_callSl (W.runS (As := []) (rest := [.long r_26, .int k_4]) ⟨hx, hb, hml, hown, hts⟩ (c_X3_whole l r_92 hr_92) (va_cwS 0 hts gX3_field_X3_whole rfl rfl rfl (by decide +kernel) ⟨Nat.le_of_ble_eq_true rfl, Nat.le_of_ble_eq_true rfl⟩) preEq rfl rfl hl.1 rfl (lv_room (Nat.le_of_ble_eq_true rfl)) dX3_field_97 ⟨Nat.le_of_ble_eq_true rfl, Nat.le_of_ble_eq_true rfl⟩) (fun r_92' qr_92 => ?_)
                obtain rfl := qr_92.symm
                refine lc_ne (tgt := 108) hx hb dX3_field_100 dX3_field_101 (by decide) (fun c_93 => ?_) (fun c_93 => ?_)
                · have hF := br0 hF c_93
                  refine lv_iconst (v := 0) hx hb dX3_field_108 (by decide) ?_
                  refine lv_iadd hx hb dX3_field_109 ?_
                  refine lv_topi (fun v_94 ev_94 => ?_)
                  have hF := nm_u hF ev_94
                  refine lv_istore (lv' := [(5, .int v_94), (4, .int v_91), (3, .int k_3), (2, .int k_3), (7, .long r_26), (6, .int k_3), (0, .ref h0), (1, .int a0)]) hx hb dX3_field_110 hl (by decide) rfl (fun ls hl => ?_)
                  refine lv_iinc (v := (k_3 + (1 : Int32))) (lv' := [(6, .int (k_3 + (1 : Int32))), (5, .int v_94), (4, .int v_91), (3, .int k_3), (2, .int k_3), (7, .long r_26), (0, .ref h0), (1, .int a0)]) hx hb dX3_field_112 hl (k := 5) rfl rfl (by decide) rfl (fun ls hl => ?_)
                  refine lv_goto (tgt := 25) hx hb dX3_field_115 (by decide) ?_
                  exact ih_25 _ _ _ _ _ _ _ _ _ _ _ _ _ _ _ _ _ _ _ _ _ _ _ _ ls hF hP hD hS (lv_sub hl [0, 1, 2, 3, 4, 6, 7] rfl) kx_25
                · have hF := br1 hF c_93
                  refine lv_iconst (v := 1) hx hb dX3_field_104 (by decide) ?_
                  refine lv_goto (tgt := 109) hx hb dX3_field_105 (by decide) ?_
                  refine lv_iadd hx hb dX3_field_109 ?_
                  refine lv_topi (fun v_95 ev_95 => ?_)
                  have hF := nm_u hF ev_95
                  refine lv_istore (lv' := [(5, .int v_95), (4, .int v_91), (3, .int k_3), (2, .int k_3), (7, .long r_26), (6, .int k_3), (0, .ref h0), (1, .int a0)]) hx hb dX3_field_110 hl (by decide) rfl (fun ls hl => ?_)
                  refine lv_iinc (v := (k_3 + (1 : Int32))) (lv' := [(6, .int (k_3 + (1 : Int32))), (5, .int v_95), (4, .int v_91), (3, .int k_3), (2, .int k_3), (7, .long r_26), (0, .ref h0), (1, .int a0)]) hx hb dX3_field_112 hl (k := 5) rfl rfl (by decide) rfl (fun ls hl => ?_)
                  refine lv_goto (tgt := 25) hx hb dX3_field_115 (by decide) ?_
                  exact ih_25 _ _ _ _ _ _ _ _ _ _ _ _ _ _ _ _ _ _ _ _ _ _ _ _ ls hF hP hD hS (lv_sub hl [0, 1, 2, 3, 4, 6, 7] rfl) kx_25
              · have hF := br1 hF c_90
                refine lv_iconst (v := 1) hx hb dX3_field_85 (by decide) ?_
                refine lv_goto (tgt := 90) hx hb dX3_field_86 (by decide) ?_
                refine lv_iadd hx hb dX3_field_90 ?_
                refine lv_topi (fun v_96 ev_96 => ?_)
                have hF := nm_u hF ev_96
                refine lv_istore (lv' := [(4, .int v_96), (3, .int k_3), (2, .int k_3), (7, .long r_26), (6, .int k_3), (5, .int k_4), (0, .ref h0), (1, .int a0)]) hx hb dX3_field_91 hl (by decide) rfl (fun ls hl => ?_)
                refine lv_iload hx hb dX3_field_93 (lv_at hl 5 rfl) ?_
                refine lv_lload hx hb dX3_field_95 (lv_at hl 3 rfl) ?_
                obtain ⟨r_97, hr_97, hF⟩ := bd1_u hF
                refine vp_callSl (W.runS (As := []) (rest := [.long r_26, .int k_4]) ⟨hx, hb, hml, hown, hts⟩ (c_X3_whole l r_97 hr_97) (va_cwS 0 hts gX3_field_X3_whole rfl rfl rfl (by decide +kernel) ⟨Nat.le_of_ble_eq_true rfl, Nat.le_of_ble_eq_true rfl⟩) preEq rfl rfl hl.1 rfl (lv_room (Nat.le_of_ble_eq_true rfl)) dX3_field_97 ⟨Nat.le_of_ble_eq_true rfl, Nat.le_of_ble_eq_true rfl⟩) (fun r_97' qr_97 => ?_)
                obtain rfl := qr_97.symm
                refine lc_ne (tgt := 108) hx hb dX3_field_100 dX3_field_101 (by decide) (fun c_98 => ?_) (fun c_98 => ?_)
                · have hF := br0 hF c_98
                  refine lv_iconst (v := 0) hx hb dX3_field_108 (by decide) ?_
                  refine lv_iadd hx hb dX3_field_109 ?_
                  refine lv_topi (fun v_99 ev_99 => ?_)
                  have hF := nm_u hF ev_99
                  refine lv_istore (lv' := [(5, .int v_99), (4, .int v_96), (3, .int k_3), (2, .int k_3), (7, .long r_26), (6, .int k_3), (0, .ref h0), (1, .int a0)]) hx hb dX3_field_110 hl (by decide) rfl (fun ls hl => ?_)
                  refine lv_iinc (v := (k_3 + (1 : Int32))) (lv' := [(6, .int (k_3 + (1 : Int32))), (5, .int v_99), (4, .int v_96), (3, .int k_3), (2, .int k_3), (7, .long r_26), (0, .ref h0), (1, .int a0)]) hx hb dX3_field_112 hl (k := 5) rfl rfl (by decide) rfl (fun ls hl => ?_)
                  refine lv_goto (tgt := 25) hx hb dX3_field_115 (by decide) ?_
                  exact ih_25 _ _ _ _ _ _ _ _ _ _ _ _ _ _ _ _ _ _ _ _ _ _ _ _ ls hF hP hD hS (lv_sub hl [0, 1, 2, 3, 4, 6, 7] rfl) kx_25
                · have hF := br1 hF c_98
                  refine lv_iconst (v := 1) hx hb dX3_field_104 (by decide) ?_
                  refine lv_goto (tgt := 109) hx hb dX3_field_105 (by decide) ?_
                  refine lv_iadd hx hb dX3_field_109 ?_
                  refine lv_topi (fun v_100 ev_100 => ?_)
                  have hF := nm_u hF ev_100
                  refine lv_istore (lv' := [(5, .int v_100), (4, .int v_96), (3, .int k_3), (2, .int k_3), (7, .long r_26), (6, .int k_3), (0, .ref h0), (1, .int a0)]) hx hb dX3_field_110 hl (by decide) rfl (fun ls hl => ?_)
                  refine lv_iinc (v := (k_3 + (1 : Int32))) (lv' := [(6, .int (k_3 + (1 : Int32))), (5, .int v_100), (4, .int v_96), (3, .int k_3), (2, .int k_3), (7, .long r_26), (0, .ref h0), (1, .int a0)]) hx hb dX3_field_112 hl (k := 5) rfl rfl (by decide) rfl (fun ls hl => ?_)
                  refine lv_goto (tgt := 25) hx hb dX3_field_115 (by decide) ?_
                  exact ih_25 _ _ _ _ _ _ _ _ _ _ _ _ _ _ _ _ _ _ _ _ _ _ _ _ ls hF hP hD hS (lv_sub hl [0, 1, 2, 3, 4, 6, 7] rfl) kx_25
    refine lp_25 1000 (0 : Int32) (0 : Int32) (0 : Int32) (0 : Int32) (0 : Int32) px py co lx ly lf o_14 o_15 o_16 o_17 o_18 o_19 o_20 o_21 o_22 o_23 o_24 _ _ ls hL_25 hP hD hS hl (fun H locs ls hP hD hS hl => ?_)
    refine lv_iload_n hx hb dX3_field_118 rfl (lv_at hl 6 rfl) ?_
    refine lv_if_ne (tgt := 126) hx hb dX3_field_119 (by decide) (fun c_101 => ?_) (fun c_101 => ?_)
    · have hF := br0 hF c_101
      refine lv_iload_n hx hb dX3_field_126 rfl (lv_at hl 6 rfl) ?_
      refine lv_iconst (v := 1) hx hb dX3_field_127 (by decide) ?_
      refine lv_icmp_ne (tgt := 135) hx hb dX3_field_128 (by decide) (fun c_102 => ?_) (fun c_102 => ?_)
      · have hF := br0 hF c_102
        refine lv_iload_n hx hb dX3_field_135 rfl (lv_at hl 6 rfl) ?_
        refine lv_iconst (v := 2) hx hb dX3_field_136 (by decide) ?_
        refine lv_icmp_ne (tgt := 145) hx hb dX3_field_137 (by decide) (fun c_103 => ?_) (fun c_103 => ?_)
        · have hF := br0 hF c_103
          refine lv_iload hx hb dX3_field_145 (lv_at hl 1 rfl) ?_
          obtain ⟨e0, rfl, rfl, rfl, rfl, rfl, rfl⟩ := tp7 hF
          rw [← hQ]
          exact W.iret (v := o_15) hx hb hr (fun t ht hW => ⟨⟨_, (), rfl, e0, by rw [ht]; exact hP, va_K.moved hW.alike hK, hD⟩, hS.F ht⟩) hS.2.2 dX3_field_147
        · have hF := br1 hF c_103
          refine lv_iload hx hb dX3_field_140 (lv_at hl 2 rfl) ?_
          refine lv_goto (tgt := 147) hx hb dX3_field_142 (by decide) ?_
          obtain ⟨e0, rfl, rfl, rfl, rfl, rfl, rfl⟩ := tp7 hF
          rw [← hQ]
          exact W.iret (v := o_16) hx hb hr (fun t ht hW => ⟨⟨_, (), rfl, e0, by rw [ht]; exact hP, va_K.moved hW.alike hK, hD⟩, hS.F ht⟩) hS.2.2 dX3_field_147
      · have hF := br1 hF c_102
        refine lv_iload_n hx hb dX3_field_131 rfl (lv_at hl 3 rfl) ?_
        refine lv_goto (tgt := 147) hx hb dX3_field_132 (by decide) ?_
        obtain ⟨e0, rfl, rfl, rfl, rfl, rfl, rfl⟩ := tp7 hF
        rw [← hQ]
        exact W.iret (v := o_17) hx hb hr (fun t ht hW => ⟨⟨_, (), rfl, e0, by rw [ht]; exact hP, va_K.moved hW.alike hK, hD⟩, hS.F ht⟩) hS.2.2 dX3_field_147
    · have hF := br1 hF c_101
      refine lv_iload_n hx hb dX3_field_122 rfl (lv_at hl 4 rfl) ?_
      refine lv_goto (tgt := 147) hx hb dX3_field_123 (by decide) ?_
      obtain ⟨e0, rfl, rfl, rfl, rfl, rfl, rfl⟩ := tp7 hF
      rw [← hQ]
      exact W.iret (v := o_18) hx hb hr (fun t ht hW => ⟨⟨_, (), rfl, e0, by rw [ht]; exact hP, va_K.moved hW.alike hK, hD⟩, hS.F ht⟩) hS.2.2 dX3_field_147
  · have hF := br1 hF c_2
    refine lv_bipush (v := -2) hx hb dX3_field_9 (by decide) ?_
    obtain ⟨e0, rfl, rfl, rfl, rfl, rfl, rfl⟩ := tp7 hF
    rw [← hQ]
    exact W.iret (v := (-2 : Int32)) hx hb hr (fun t ht hW => ⟨⟨_, (), rfl, e0, by rw [ht]; exact hP, va_K.moved hW.alike hK, hD⟩, hS.F ht⟩) hS.2.2 dX3_field_11

def L_X3_fullMoved_6 (st : Nat → Int32) (a0 : Int32) (a1 : Int32) (a2 : Int32) : Nat → Int32 → Int32 → (Nat → Int64) → (Nat → Int64) → Int32 → (Nat → Int64) → (Nat → Int64) → Int32 → Option (Int32 × Int32 × (Nat → Int64) × (Nat → Int64) × Int32 × (Nat → Int64) × (Nat → Int64) × Int32)
  | 0, _, _, _, _, _, _, _, _ => none
  | n + 1, k_1, k_2, px_3, py_4, co_5, lx_6, ly_7, lf_8 =>
    if (16 : Int32) ≤ k_1 then
      some (k_1, k_2, px_3, py_4, co_5, lx_6, ly_7, lf_8)
    else
      bd7 (P_X3_coverMoved a0 k_1 a1 a2 st px_3 py_4 lx_6 ly_7) (fun r_18 px_19 py_20 co_21 lx_22 ly_23 lf_24 =>
      if r_18 = (498960 : Int64) then
        nm (k_2 + (1 : Int32)) (fun v_27 =>
        L_X3_fullMoved_6 st a0 a1 a2 n (k_1 + (1 : Int32)) v_27 px_19 py_20 co_21 lx_22 ly_23 lf_24)
      else
        nm (k_2 + (0 : Int32)) (fun v_26 =>
        L_X3_fullMoved_6 st a0 a1 a2 n (k_1 + (1 : Int32)) v_26 px_19 py_20 co_21 lx_22 ly_23 lf_24))
theorem L_X3_fullMoved_6_s (st : Nat → Int32) (a0 : Int32) (a1 : Int32) (a2 : Int32) (n : Nat) (k_1 : Int32) (k_2 : Int32) (px_3 : Nat → Int64) (py_4 : Nat → Int64) (co_5 : Int32) (lx_6 : Nat → Int64) (ly_7 : Nat → Int64) (lf_8 : Int32) : L_X3_fullMoved_6 st a0 a1 a2 (n + 1) k_1 k_2 px_3 py_4 co_5 lx_6 ly_7 lf_8 =
    (if (16 : Int32) ≤ k_1 then
      some (k_1, k_2, px_3, py_4, co_5, lx_6, ly_7, lf_8)
    else
      bd7 (P_X3_coverMoved a0 k_1 a1 a2 st px_3 py_4 lx_6 ly_7) (fun r_18 px_19 py_20 co_21 lx_22 ly_23 lf_24 =>
      if r_18 = (498960 : Int64) then
        nm (k_2 + (1 : Int32)) (fun v_27 =>
        L_X3_fullMoved_6 st a0 a1 a2 n (k_1 + (1 : Int32)) v_27 px_19 py_20 co_21 lx_22 ly_23 lf_24)
      else
        nm (k_2 + (0 : Int32)) (fun v_26 =>
        L_X3_fullMoved_6 st a0 a1 a2 n (k_1 + (1 : Int32)) v_26 px_19 py_20 co_21 lx_22 ly_23 lf_24))) := rfl

def P_X3_fullMoved (a0 : Int32) (a1 : Int32) (a2 : Int32) (st : Nat → Int32) (px : Nat → Int64) (py : Nat → Int64) (co : Int32) (lx : Nat → Int64) (ly : Nat → Int64) (lf : Int32) : Option (Int32 × (Nat → Int64) × (Nat → Int64) × Int32 × (Nat → Int64) × (Nat → Int64) × Int32) :=
  bd8 (L_X3_fullMoved_6 st a0 a1 a2 1000 (0 : Int32) (0 : Int32) px py co lx ly lf) (fun o_9 o_10 o_11 o_12 o_13 o_14 o_15 o_16 =>
  some (o_10, o_11, o_12, o_13, o_14, o_15, o_16))

def rm_X3_fullMoved : Room := { frames := 5, cells := 0, slots := 0, locals := 134 }

set_option maxHeartbeats 4000000 in
set_option maxRecDepth 100000 in
theorem c_X3_fullMoved (l : Launch) (dC : Nat → ClassId) (dI : Nat → Nat → Nat) (h0 ast aim akp awx awy apx apy alx aly : Nat) (cI cZ cJ : ClassId) (hsz0 : Nat) (st : Nat → Int32) (im : Nat → Int32) (kp : Nat → Int32) (wx : Nat → Int32) (wy : Nat → Int32) (px : Nat → Int64) (py : Nat → Int64) (co : Int32) (lx : Nat → Int64) (ly : Nat → Int64) (lf : Int32) (a0 : Int32) (a1 : Int32) (a2 : Int32) (r0 : Int32) (pxN : Nat → Int64) (pyN : Nat → Int64) (coN : Int32) (lxN : Nat → Int64) (lyN : Nat → Int64) (lfN : Int32) (hF : P_X3_fullMoved a0 a1 a2 st px py co lx ly lf = some (r0, pxN, pyN, coN, lxN, lyN, lfN)) : Met l yX3_fullMoved wsX3_fullMoved rm_X3_fullMoved (va_Pc [.ref h0, .int a0, .int a1, .int a2] (fun U => U.heap.size = hsz0 ∧ va_P (dC, dI) vwCl [(h0, .inr (3, [.ref ast, .ref aim, .ref akp, .ref awx, .ref awy, .ref apx, .ref apy, .int co, .ref alx, .ref aly, .int lf])), (ast, .inl (cI, 54, .inl st)), (aim, .inl (cI, 108, .inl im)), (akp, .inl (cZ, 2, .inl kp)), (awx, .inl (cI, 8, .inl wx)), (awy, .inl (cI, 8, .inl wy)), (apx, .inl (cJ, 300, .inr (.inl px))), (apy, .inl (cJ, 300, .inr (.inl py))), (alx, .inl (cJ, 300, .inr (.inl lx))), (aly, .inl (cJ, 300, .inr (.inl ly)))] U.heap ∧ va_K (dC, dI) vwCl [(cI, .int), (cZ, .boolean), (cJ, .long)] U ∧ va_D (fun _ => True) [(h0, .inr (3, [.ref ast, .ref aim, .ref akp, .ref awx, .ref awy, .ref apx, .ref apy, .int co, .ref alx, .ref aly, .int lf])), (ast, .inl (cI, 54, .inl st)), (aim, .inl (cI, 108, .inl im)), (akp, .inl (cZ, 2, .inl kp)), (awx, .inl (cI, 8, .inl wx)), (awy, .inl (cI, 8, .inl wy)), (apx, .inl (cJ, 300, .inr (.inl px))), (apy, .inl (cJ, 300, .inr (.inl py))), (alx, .inl (cJ, 300, .inr (.inl lx))), (aly, .inl (cJ, 300, .inr (.inl ly)))])) (va_Qi (fun (r : Int32) (_ : Unit) => r = r0) (fun _ t => va_P (dC, dI) vwCl [(h0, .inr (3, [.ref ast, .ref aim, .ref akp, .ref awx, .ref awy, .ref apx, .ref apy, .int coN, .ref alx, .ref aly, .int lfN])), (ast, .inl (cI, 54, .inl st)), (aim, .inl (cI, 108, .inl im)), (akp, .inl (cZ, 2, .inl kp)), (awx, .inl (cI, 8, .inl wx)), (awy, .inl (cI, 8, .inl wy)), (apx, .inl (cJ, 300, .inr (.inl pxN))), (apy, .inl (cJ, 300, .inr (.inl pyN))), (alx, .inl (cJ, 300, .inr (.inl lxN))), (aly, .inl (cJ, 300, .inr (.inl lyN)))] t.heap ∧ va_K (dC, dI) vwCl [(cI, .int), (cZ, .boolean), (cJ, .long)] t ∧ va_D (va_A [(h0, .inr (3, [.ref ast, .ref aim, .ref akp, .ref awx, .ref awy, .ref apx, .ref apy, .int co, .ref alx, .ref aly, .int lf])), (ast, .inl (cI, 54, .inl st)), (aim, .inl (cI, 108, .inl im)), (akp, .inl (cZ, 2, .inl kp)), (awx, .inl (cI, 8, .inl wx)), (awy, .inl (cI, 8, .inl wy)), (apx, .inl (cJ, 300, .inr (.inl px))), (apy, .inl (cJ, 300, .inr (.inl py))), (alx, .inl (cJ, 300, .inr (.inl lx))), (aly, .inl (cJ, 300, .inr (.inl ly)))] hsz0) [(h0, .inr (3, [.ref ast, .ref aim, .ref akp, .ref awx, .ref awy, .ref apx, .ref apy, .int coN, .ref alx, .ref aly, .int lfN])), (ast, .inl (cI, 54, .inl st)), (aim, .inl (cI, 108, .inl im)), (akp, .inl (cZ, 2, .inl kp)), (awx, .inl (cI, 8, .inl wx)), (awy, .inl (cI, 8, .inl wy)), (apx, .inl (cJ, 300, .inr (.inl pxN))), (apy, .inl (cJ, 300, .inr (.inl pyN))), (alx, .inl (cJ, 300, .inr (.inl lxN))), (aly, .inl (cJ, 300, .inr (.inl lyN)))]) (va_A [(h0, .inr (3, [.ref ast, .ref aim, .ref akp, .ref awx, .ref awy, .ref apx, .ref apy, .int co, .ref alx, .ref aly, .int lf])), (ast, .inl (cI, 54, .inl st)), (aim, .inl (cI, 108, .inl im)), (akp, .inl (cZ, 2, .inl kp)), (awx, .inl (cI, 8, .inl wx)), (awy, .inl (cI, 8, .inl wy)), (apx, .inl (cJ, 300, .inr (.inl px))), (apy, .inl (cJ, 300, .inr (.inl py))), (alx, .inl (cJ, 300, .inr (.inl lx))), (aly, .inl (cJ, 300, .inr (.inl ly)))] hsz0)) 0 0 (va_A [(h0, .inr (3, [.ref ast, .ref aim, .ref akp, .ref awx, .ref awy, .ref apx, .ref apy, .int co, .ref alx, .ref aly, .int lf])), (ast, .inl (cI, 54, .inl st)), (aim, .inl (cI, 108, .inl im)), (akp, .inl (cZ, 2, .inl kp)), (awx, .inl (cI, 8, .inl wx)), (awy, .inl (cI, 8, .inl wy)), (apx, .inl (cJ, 300, .inr (.inl px))), (apy, .inl (cJ, 300, .inr (.inl py))), (alx, .inl (cJ, 300, .inr (.inl lx))), (aly, .inl (cJ, 300, .inr (.inl ly)))] hsz0) := by
  refine Met.ofW (cc := cX3_fullMoved) (maxL := 6) (ret := (some .int)) (by decide) rfl ?_
  intro p e s m args below meth c s₁ B hml hv
  change W p l e rm_X3_fullMoved s m args below meth c s.heap [] 0 0 _ _
  obtain ⟨hv, hsz, hP, hK, hD0⟩ := hv
  have hx := B.exec
  have hb := B.bytes
  have hr := B.returns
  have hts := atoms_spec (ws := wsX3_fullMoved) B.pre
  have hown : s.vm.findClass RX3 = some m.cls := findClass_of_methodNamed B.named
  have hlocks := B.notSynchronized
  subst hsz
  have hD := hD0.self (sz := s.heap.size)
  generalize hAe : va_A [(h0, .inr (3, [.ref ast, .ref aim, .ref akp, .ref awx, .ref awy, .ref apx, .ref apy, .int co, .ref alx, .ref aly, .int lf])), (ast, .inl (cI, 54, .inl st)), (aim, .inl (cI, 108, .inl im)), (akp, .inl (cZ, 2, .inl kp)), (awx, .inl (cI, 8, .inl wx)), (awy, .inl (cI, 8, .inl wy)), (apx, .inl (cJ, 300, .inr (.inl px))), (apy, .inl (cJ, 300, .inr (.inl py))), (alx, .inl (cJ, 300, .inr (.inl lx))), (aly, .inl (cJ, 300, .inr (.inl ly)))] s.heap.size = A at hD ⊢
  have hA : ∀ q : Nat, s.heap.size ≤ q → A q := fun q h => by rw [← hAe]; exact Or.inr h
  have hS : va_S A s.heap s.heap [] := va_S.rf
  generalize hQ : MQ below (va_Qi (fun (r : Int32) (_ : Unit) => r = r0) (fun _ t => va_P (dC, dI) vwCl [(h0, .inr (3, [.ref ast, .ref aim, .ref akp, .ref awx, .ref awy, .ref apx, .ref apy, .int coN, .ref alx, .ref aly, .int lfN])), (ast, .inl (cI, 54, .inl st)), (aim, .inl (cI, 108, .inl im)), (akp, .inl (cZ, 2, .inl kp)), (awx, .inl (cI, 8, .inl wx)), (awy, .inl (cI, 8, .inl wy)), (apx, .inl (cJ, 300, .inr (.inl pxN))), (apy, .inl (cJ, 300, .inr (.inl pyN))), (alx, .inl (cJ, 300, .inr (.inl lxN))), (aly, .inl (cJ, 300, .inr (.inl lyN)))] t.heap ∧ va_K (dC, dI) vwCl [(cI, .int), (cZ, .boolean), (cJ, .long)] t ∧ va_D A [(h0, .inr (3, [.ref ast, .ref aim, .ref akp, .ref awx, .ref awy, .ref apx, .ref apy, .int coN, .ref alx, .ref aly, .int lfN])), (ast, .inl (cI, 54, .inl st)), (aim, .inl (cI, 108, .inl im)), (akp, .inl (cZ, 2, .inl kp)), (awx, .inl (cI, 8, .inl wx)), (awy, .inl (cI, 8, .inl wy)), (apx, .inl (cJ, 300, .inr (.inl pxN))), (apy, .inl (cJ, 300, .inr (.inl pyN))), (alx, .inl (cJ, 300, .inr (.inl lxN))), (aly, .inl (cJ, 300, .inr (.inl lyN)))]) A) args s 0 0 A = Q
  have hl := lv_entry ([.ref h0, .int a0, .int a1, .int a2]) (n := 6) (Nat.le_of_ble_eq_true rfl)
  have hE : entryFrame m args 6 = F0 m 0 ((lg_sl ([.ref h0, .int a0, .int a1, .int a2]) ++ List.replicate (6 - (lg_sl ([.ref h0, .int a0, .int a1, .int a2])).length) Slot.unset).toArray) [] := by rw [hv]; exact lg_entry_eq m _ 6
  rw [hE]
  generalize (lg_sl ([.ref h0, .int a0, .int a1, .int a2]) ++ List.replicate (6 - (lg_sl ([.ref h0, .int a0, .int a1, .int a2])).length) Slot.unset).toArray = ls at hl ⊢
  have hl : lv_has ls 6 [(0, .ref h0), (1, .int a0), (2, .int a1), (3, .int a2)] := hl
  unfold P_X3_fullMoved at hF
  refine lv_iconst (v := 0) hx hb dX3_fullMoved_0 (by decide) ?_
  refine lv_istore (lv' := [(4, .int (0 : Int32)), (0, .ref h0), (1, .int a0), (2, .int a1), (3, .int a2)]) hx hb dX3_fullMoved_1 hl (by decide) rfl (fun ls hl => ?_)
  refine lv_iconst (v := 0) hx hb dX3_fullMoved_3 (by decide) ?_
  refine lv_istore (lv' := [(5, .int (0 : Int32)), (4, .int (0 : Int32)), (0, .ref h0), (1, .int a0), (2, .int a1), (3, .int a2)]) hx hb dX3_fullMoved_4 hl (by decide) rfl (fun ls hl => ?_)
  obtain ⟨o_9, o_10, o_11, o_12, o_13, o_14, o_15, o_16, hL_6, hF⟩ := bd8_u hF
  have lp_6 : ∀ (n : Nat) (k_1 : Int32) (k_2 : Int32) (px_3 : Nat → Int64) (py_4 : Nat → Int64) (co_5 : Int32) (lx_6 : Nat → Int64) (ly_7 : Nat → Int64) (lf_8 : Int32) (o_9 : Int32) (o_10 : Int32) (o_11 : Nat → Int64) (o_12 : Nat → Int64) (o_13 : Int32) (o_14 : Nat → Int64) (o_15 : Nat → Int64) (o_16 : Int32) (H : Heap) (locs : List Loc) (ls : Array Slot), L_X3_fullMoved_6 st a0 a1 a2 n k_1 k_2 px_3 py_4 co_5 lx_6 ly_7 lf_8 = some (o_9, o_10, o_11, o_12, o_13, o_14, o_15, o_16) → va_P (dC, dI) vwCl [(h0, .inr (3, [.ref ast, .ref aim, .ref akp, .ref awx, .ref awy, .ref apx, .ref apy, .int co_5, .ref alx, .ref aly, .int lf_8])), (ast, .inl (cI, 54, .inl st)), (aim, .inl (cI, 108, .inl im)), (akp, .inl (cZ, 2, .inl kp)), (awx, .inl (cI, 8, .inl wx)), (awy, .inl (cI, 8, .inl wy)), (apx, .inl (cJ, 300, .inr (.inl px_3))), (apy, .inl (cJ, 300, .inr (.inl py_4))), (alx, .inl (cJ, 300, .inr (.inl lx_6))), (aly, .inl (cJ, 300, .inr (.inl ly_7)))] H → va_D A [(h0, .inr (3, [.ref ast, .ref aim, .ref akp, .ref awx, .ref awy, .ref apx, .ref apy, .int co_5, .ref alx, .ref aly, .int lf_8])), (ast, .inl (cI, 54, .inl st)), (aim, .inl (cI, 108, .inl im)), (akp, .inl (cZ, 2, .inl kp)), (awx, .inl (cI, 8, .inl wx)), (awy, .inl (cI, 8, .inl wy)), (apx, .inl (cJ, 300, .inr (.inl px_3))), (apy, .inl (cJ, 300, .inr (.inl py_4))), (alx, .inl (cJ, 300, .inr (.inl lx_6))), (aly, .inl (cJ, 300, .inr (.inl ly_7)))] → va_S A s.heap H locs → lv_has ls 6 [(5, .int k_1), (4, .int k_2), (0, .ref h0), (1, .int a0), (2, .int a1), (3, .int a2)] → (∀ (H : Heap) (locs : List Loc) (ls : Array Slot), va_P (dC, dI) vwCl [(h0, .inr (3, [.ref ast, .ref aim, .ref akp, .ref awx, .ref awy, .ref apx, .ref apy, .int o_13, .ref alx, .ref aly, .int o_16])), (ast, .inl (cI, 54, .inl st)), (aim, .inl (cI, 108, .inl im)), (akp, .inl (cZ, 2, .inl kp)), (awx, .inl (cI, 8, .inl wx)), (awy, .inl (cI, 8, .inl wy)), (apx, .inl (cJ, 300, .inr (.inl o_11))), (apy, .inl (cJ, 300, .inr (.inl o_12))), (alx, .inl (cJ, 300, .inr (.inl o_14))), (aly, .inl (cJ, 300, .inr (.inl o_15)))] H → va_D A [(h0, .inr (3, [.ref ast, .ref aim, .ref akp, .ref awx, .ref awy, .ref apx, .ref apy, .int o_13, .ref alx, .ref aly, .int o_16])), (ast, .inl (cI, 54, .inl st)), (aim, .inl (cI, 108, .inl im)), (akp, .inl (cZ, 2, .inl kp)), (awx, .inl (cI, 8, .inl wx)), (awy, .inl (cI, 8, .inl wy)), (apx, .inl (cJ, 300, .inr (.inl o_11))), (apy, .inl (cJ, 300, .inr (.inl o_12))), (alx, .inl (cJ, 300, .inr (.inl o_14))), (aly, .inl (cJ, 300, .inr (.inl o_15)))] → va_S A s.heap H locs → lv_has ls 6 [(5, .int o_9), (4, .int o_10), (0, .ref h0), (1, .int a0), (2, .int a1), (3, .int a2)] → W p l e rm_X3_fullMoved s m args below meth c H locs 0 0 Q (F0 m 45 ls [])) → W p l e rm_X3_fullMoved s m args below meth c H locs 0 0 Q (F0 m 6 ls []) := by
    intro n
    induction n with
    | zero =>
      intro k_1 k_2 px_3 py_4 co_5 lx_6 ly_7 lf_8 o_9 o_10 o_11 o_12 o_13 o_14 o_15 o_16 H locs ls hF
      exact nn ((rfl : L_X3_fullMoved_6 st a0 a1 a2 0 k_1 k_2 px_3 py_4 co_5 lx_6 ly_7 lf_8 = none).symm.trans hF)
    | succ n ih_6 =>
      intro k_1 k_2 px_3 py_4 co_5 lx_6 ly_7 lf_8 o_9 o_10 o_11 o_12 o_13 o_14 o_15 o_16 H locs ls hF hP hD hS hl kx_6
      have hF := (L_X3_fullMoved_6_s st a0 a1 a2 n k_1 k_2 px_3 py_4 co_5 lx_6 ly_7 lf_8).symm.trans hF
      refine lv_iload hx hb dX3_fullMoved_6 (lv_at hl 0 rfl) ?_
      refine lv_bipush (v := 16) hx hb dX3_fullMoved_8 (by decide) ?_
      refine lv_icmp_ge (tgt := 45) hx hb dX3_fullMoved_10 (by decide) (fun c_17 => ?_) (fun c_17 => ?_)
      · have hF := br1 hF c_17
        obtain ⟨rfl, rfl, rfl, rfl, rfl, rfl, rfl, rfl⟩ := tp8 hF
        exact kx_6 _ _ ls hP hD hS hl
      · have hF := br0 hF c_17
        refine lv_iload hx hb dX3_fullMoved_13 (lv_at hl 1 rfl) ?_
        refine lv_aload_n hx hb dX3_fullMoved_15 rfl (lv_at hl 2 rfl) ?_
        refine lv_iload_n hx hb dX3_fullMoved_16 rfl (lv_at hl 3 rfl) ?_
        refine lv_iload hx hb dX3_fullMoved_17 (lv_at hl 0 rfl) ?_
        refine lv_iload_n hx hb dX3_fullMoved_19 rfl (lv_at hl 4 rfl) ?_
        refine lv_iload_n hx hb dX3_fullMoved_20 rfl (lv_at hl 5 rfl) ?_
        obtain ⟨r_18, px_19, py_20, co_21, lx_22, ly_23, lf_24, hr_24, hF⟩ := bd7_u hF
        have hPc := hP.sub (ws' := [(h0, .inr (3, [.ref ast, .ref aim, .ref akp, .ref awx, .ref awy, .ref apx, .ref apy, .int co_5, .ref alx, .ref aly, .int lf_8])), (ast, .inl (cI, 54, .inl st)), (aim, .inl (cI, 108, .inl im)), (akp, .inl (cZ, 2, .inl kp)), (awx, .inl (cI, 8, .inl wx)), (awy, .inl (cI, 8, .inl wy)), (apx, .inl (cJ, 300, .inr (.inl px_3))), (apy, .inl (cJ, 300, .inr (.inl py_4))), (alx, .inl (cJ, 300, .inr (.inl lx_6))), (aly, .inl (cJ, 300, .inr (.inl ly_7)))]) [0, 1, 2, 3, 4, 5, 6, 7, 8, 9] rfl
        have hKc := hK.sub (tys' := [(cI, .int), (cZ, .boolean), (cJ, .long)]) [0, 1, 2] rfl
        have hDc := hD.sub (ws' := [(h0, .inr (3, [.ref ast, .ref aim, .ref akp, .ref awx, .ref awy, .ref apx, .ref apy, .int co_5, .ref alx, .ref aly, .int lf_8])), (ast, .inl (cI, 54, .inl st)), (aim, .inl (cI, 108, .inl im)), (akp, .inl (cZ, 2, .inl kp)), (awx, .inl (cI, 8, .inl wx)), (awy, .inl (cI, 8, .inl wy)), (apx, .inl (cJ, 300, .inr (.inl px_3))), (apy, .inl (cJ, 300, .inr (.inl py_4))), (alx, .inl (cJ, 300, .inr (.inl lx_6))), (aly, .inl (cJ, 300, .inr (.inl ly_7)))]) [0, 1, 2, 3, 4, 5, 6, 7, 8, 9] (by decide) rfl
        have hFc := va_free (wc := [(h0, .inr (3, [.ref ast, .ref aim, .ref akp, .ref awx, .ref awy, .ref apx, .ref apy, .int co_5, .ref alx, .ref aly, .int lf_8])), (ast, .inl (cI, 54, .inl st)), (aim, .inl (cI, 108, .inl im)), (akp, .inl (cZ, 2, .inl kp)), (awx, .inl (cI, 8, .inl wx)), (awy, .inl (cI, 8, .inl wy)), (apx, .inl (cJ, 300, .inr (.inl px_3))), (apy, .inl (cJ, 300, .inr (.inl py_4))), (alx, .inl (cJ, 300, .inr (.inl lx_6))), (aly, .inl (cJ, 300, .inr (.inl ly_7)))]) hD hS hA [0, 1, 2, 3, 4, 5, 6, 7, 8, 9] rfl
        refine va_calll (va_runV (As := [.int a0, .int k_1, .int a1, .int a2]) (rest := [.int k_2]) ⟨hx, hb, hml, hown, hts⟩ (c_X3_coverMoved l dC dI h0 ast aim akp awx awy apx apy alx aly cI cZ cJ H.size st im kp wx wy px_3 py_4 co_5 lx_6 ly_7 lf_8 a0 k_1 a1 a2 r_18 px_19 py_20 co_21 lx_22 ly_23 lf_24 hr_24) (cwV 4 hts gX3_fullMoved_X3_coverMoved rfl rfl rfl (by decide +kernel) ⟨Nat.le_of_ble_eq_true rfl, Nat.le_of_ble_eq_true rfl⟩) ⟨fun a U g mk q => ⟨q.1, q.2.1, q.2.2.1, va_K.moved (u := U) (U := U.calling g mk a) (Vm.Alike.refl U.vm) q.2.2.2.1, q.2.2.2.2⟩, va_recv hKc hPc (ci := 3) (q0 := 0) rfl rfl, fun U hU hW => ⟨rfl, by rw [hU], by rw [hU]; exact hPc, va_K.moved hW.alike hKc, hDc.weaken (fun _ _ _ _ => trivial)⟩⟩ rfl rfl hl.1 rfl (lv_room (Nat.le_of_ble_eq_true rfl)) dX3_fullMoved_21 ⟨Nat.le_of_ble_eq_true rfl, Nat.le_of_ble_eq_true rfl⟩) hS (fun q _ h => hFc q h) hFc (fun r_18' _ t H1 locs ht hvm hw hB hz1 hk1 hS => ?_)
        obtain ⟨hP1, hK1, hD1⟩ := hB
        rw [ht] at hP1
        obtain rfl := hw.symm
        obtain ⟨hP, hD⟩ := va_join (wr := []) (w1 := [(h0, .inr (3, [.ref ast, .ref aim, .ref akp, .ref awx, .ref awy, .ref apx, .ref apy, .int co_21, .ref alx, .ref aly, .int lf_24])), (ast, .inl (cI, 54, .inl st)), (aim, .inl (cI, 108, .inl im)), (akp, .inl (cZ, 2, .inl kp)), (awx, .inl (cI, 8, .inl wx)), (awy, .inl (cI, 8, .inl wy)), (apx, .inl (cJ, 300, .inr (.inl px_19))), (apy, .inl (cJ, 300, .inr (.inl py_20))), (alx, .inl (cJ, 300, .inr (.inl lx_22))), (aly, .inl (cJ, 300, .inr (.inl ly_23)))]) hP hD [0, 1, 2, 3, 4, 5, 6, 7, 8, 9] [] rfl rfl (by decide) (by decide) hk1 hFc hP1 hD1
        clear hP1 hK1 hD1 hk1 hFc
        generalize H1 = H at hP hS ⊢
        have hP : va_P (dC, dI) vwCl [(h0, .inr (3, [.ref ast, .ref aim, .ref akp, .ref awx, .ref awy, .ref apx, .ref apy, .int co_21, .ref alx, .ref aly, .int lf_24])), (ast, .inl (cI, 54, .inl st)), (aim, .inl (cI, 108, .inl im)), (akp, .inl (cZ, 2, .inl kp)), (awx, .inl (cI, 8, .inl wx)), (awy, .inl (cI, 8, .inl wy)), (apx, .inl (cJ, 300, .inr (.inl px_19))), (apy, .inl (cJ, 300, .inr (.inl py_20))), (alx, .inl (cJ, 300, .inr (.inl lx_22))), (aly, .inl (cJ, 300, .inr (.inl ly_23)))] H := hP
        have hD : va_D A [(h0, .inr (3, [.ref ast, .ref aim, .ref akp, .ref awx, .ref awy, .ref apx, .ref apy, .int co_21, .ref alx, .ref aly, .int lf_24])), (ast, .inl (cI, 54, .inl st)), (aim, .inl (cI, 108, .inl im)), (akp, .inl (cZ, 2, .inl kp)), (awx, .inl (cI, 8, .inl wx)), (awy, .inl (cI, 8, .inl wy)), (apx, .inl (cJ, 300, .inr (.inl px_19))), (apy, .inl (cJ, 300, .inr (.inl py_20))), (alx, .inl (cJ, 300, .inr (.inl lx_22))), (aly, .inl (cJ, 300, .inr (.inl ly_23)))] := hD
        refine lv_ldc2 (v := 498960) hx hb hown (hts (.constantLong RX3 111 (498960)) (by decide +kernel)) dX3_fullMoved_24 ?_
        refine lc_ne (tgt := 35) hx hb dX3_fullMoved_27 dX3_fullMoved_28 (by decide) (fun c_25 => ?_) (fun c_25 => ?_)
        · have hF := br0 hF c_25
          refine lv_iconst (v := 0) hx hb dX3_fullMoved_35 (by decide) ?_
          refine lv_iadd hx hb dX3_fullMoved_36 ?_
          refine lv_topi (fun v_26 ev_26 => ?_)
          have hF := nm_u hF ev_26
          refine lv_istore (lv' := [(4, .int v_26), (5, .int k_1), (0, .ref h0), (1, .int a0), (2, .int a1), (3, .int a2)]) hx hb dX3_fullMoved_37 hl (by decide) rfl (fun ls hl => ?_)
          refine lv_iinc (v := (k_1 + (1 : Int32))) (lv' := [(5, .int (k_1 + (1 : Int32))), (4, .int v_26), (0, .ref h0), (1, .int a0), (2, .int a1), (3, .int a2)]) hx hb dX3_fullMoved_39 hl (k := 1) rfl rfl (by decide) rfl (fun ls hl => ?_)
          refine lv_goto (tgt := 6) hx hb dX3_fullMoved_42 (by decide) ?_
          exact ih_6 _ _ _ _ _ _ _ _ _ _ _ _ _ _ _ _ _ _ ls hF hP hD hS hl kx_6
        · have hF := br1 hF c_25
          refine lv_iconst (v := 1) hx hb dX3_fullMoved_31 (by decide) ?_
          refine lv_goto (tgt := 36) hx hb dX3_fullMoved_32 (by decide) ?_
          refine lv_iadd hx hb dX3_fullMoved_36 ?_
          refine lv_topi (fun v_27 ev_27 => ?_)
          have hF := nm_u hF ev_27
          refine lv_istore (lv' := [(4, .int v_27), (5, .int k_1), (0, .ref h0), (1, .int a0), (2, .int a1), (3, .int a2)]) hx hb dX3_fullMoved_37 hl (by decide) rfl (fun ls hl => ?_)
          refine lv_iinc (v := (k_1 + (1 : Int32))) (lv' := [(5, .int (k_1 + (1 : Int32))), (4, .int v_27), (0, .ref h0), (1, .int a0), (2, .int a1), (3, .int a2)]) hx hb dX3_fullMoved_39 hl (k := 1) rfl rfl (by decide) rfl (fun ls hl => ?_)
          refine lv_goto (tgt := 6) hx hb dX3_fullMoved_42 (by decide) ?_
          exact ih_6 _ _ _ _ _ _ _ _ _ _ _ _ _ _ _ _ _ _ ls hF hP hD hS hl kx_6
  refine lp_6 1000 (0 : Int32) (0 : Int32) px py co lx ly lf o_9 o_10 o_11 o_12 o_13 o_14 o_15 o_16 _ _ ls hL_6 hP hD hS hl (fun H locs ls hP hD hS hl => ?_)
  refine lv_iload hx hb dX3_fullMoved_45 (lv_at hl 1 rfl) ?_
  obtain ⟨e0, rfl, rfl, rfl, rfl, rfl, rfl⟩ := tp7 hF
  rw [← hQ]
  exact W.iret (v := o_10) hx hb hr (fun t ht hW => ⟨⟨_, (), rfl, e0, by rw [ht]; exact hP, va_K.moved hW.alike hK, hD⟩, hS.F ht⟩) hS.2.2 dX3_fullMoved_47

def L_X3_best_59 (st : Nat → Int32) (a0 : Int32) (k_6 : Int32) : Nat → Int32 → Int32 → Int32 → Int32 → (Nat → Int64) → (Nat → Int64) → Int32 → (Nat → Int64) → (Nat → Int64) → Int32 → Option (Int32 × Int32 × Int32 × Int32 × (Nat → Int64) × (Nat → Int64) × Int32 × (Nat → Int64) × (Nat → Int64) × Int32)
  | 0, _, _, _, _, _, _, _, _, _, _ => none
  | n + 1, k_27, k_28, k_29, k_30, px_31, py_32, co_33, lx_34, ly_35, lf_36 =>
    if (12 : Int32) < k_27 then
      some (k_27, k_28, k_29, k_30, px_31, py_32, co_33, lx_34, ly_35, lf_36)
    else
      bd1 (P_X3_canMove a0 k_6 k_27 st) (fun r_48 =>
      if r_48 = (0 : Int32) then
        if (-6 : Int32) ≤ k_30 then
          L_X3_best_59 st a0 k_6 n (k_27 + (1 : Int32)) k_28 k_29 k_30 px_31 py_32 co_33 lx_34 ly_35 lf_36
        else
          L_X3_best_59 st a0 k_6 n (k_27 + (1 : Int32)) k_27 k_6 (-6 : Int32) px_31 py_32 co_33 lx_34 ly_35 lf_36
      else
        bd7 (P_X3_fullMoved a0 k_6 k_27 st px_31 py_32 co_33 lx_34 ly_35 lf_36) (fun r_51 px_52 py_53 co_54 lx_55 ly_56 lf_57 =>
        if r_51 ≤ k_30 then
          L_X3_best_59 st a0 k_6 n (k_27 + (1 : Int32)) k_28 k_29 k_30 px_52 py_53 co_54 lx_55 ly_56 lf_57
        else
          L_X3_best_59 st a0 k_6 n (k_27 + (1 : Int32)) k_27 k_6 r_51 px_52 py_53 co_54 lx_55 ly_56 lf_57))
theorem L_X3_best_59_s (st : Nat → Int32) (a0 : Int32) (k_6 : Int32) (n : Nat) (k_27 : Int32) (k_28 : Int32) (k_29 : Int32) (k_30 : Int32) (px_31 : Nat → Int64) (py_32 : Nat → Int64) (co_33 : Int32) (lx_34 : Nat → Int64) (ly_35 : Nat → Int64) (lf_36 : Int32) : L_X3_best_59 st a0 k_6 (n + 1) k_27 k_28 k_29 k_30 px_31 py_32 co_33 lx_34 ly_35 lf_36 =
    (if (12 : Int32) < k_27 then
      some (k_27, k_28, k_29, k_30, px_31, py_32, co_33, lx_34, ly_35, lf_36)
    else
      bd1 (P_X3_canMove a0 k_6 k_27 st) (fun r_48 =>
      if r_48 = (0 : Int32) then
        if (-6 : Int32) ≤ k_30 then
          L_X3_best_59 st a0 k_6 n (k_27 + (1 : Int32)) k_28 k_29 k_30 px_31 py_32 co_33 lx_34 ly_35 lf_36
        else
          L_X3_best_59 st a0 k_6 n (k_27 + (1 : Int32)) k_27 k_6 (-6 : Int32) px_31 py_32 co_33 lx_34 ly_35 lf_36
      else
        bd7 (P_X3_fullMoved a0 k_6 k_27 st px_31 py_32 co_33 lx_34 ly_35 lf_36) (fun r_51 px_52 py_53 co_54 lx_55 ly_56 lf_57 =>
        if r_51 ≤ k_30 then
          L_X3_best_59 st a0 k_6 n (k_27 + (1 : Int32)) k_28 k_29 k_30 px_52 py_53 co_54 lx_55 ly_56 lf_57
        else
          L_X3_best_59 st a0 k_6 n (k_27 + (1 : Int32)) k_27 k_6 r_51 px_52 py_53 co_54 lx_55 ly_56 lf_57))) := rfl

def L_X3_best_48 (st : Nat → Int32) (a0 : Int32) : Nat → Int32 → Int32 → Int32 → Int32 → (Nat → Int64) → (Nat → Int64) → Int32 → (Nat → Int64) → (Nat → Int64) → Int32 → Option (Int32 × Int32 × Int32 × Int32 × (Nat → Int64) × (Nat → Int64) × Int32 × (Nat → Int64) × (Nat → Int64) × Int32)
  | 0, _, _, _, _, _, _, _, _, _, _ => none
  | n + 1, k_6, k_7, k_8, k_9, px_10, py_11, co_12, lx_13, ly_14, lf_15 =>
    if (12 : Int32) < k_6 then
      some (k_6, k_7, k_8, k_9, px_10, py_11, co_12, lx_13, ly_14, lf_15)
    else
      bd10 (L_X3_best_59 st a0 k_6 1000 (-12 : Int32) k_7 k_8 k_9 px_10 py_11 co_12 lx_13 ly_14 lf_15) (fun o_37 o_38 o_39 o_40 o_41 o_42 o_43 o_44 o_45 o_46 =>
      L_X3_best_48 st a0 n (k_6 + (1 : Int32)) o_38 o_39 o_40 o_41 o_42 o_43 o_44 o_45 o_46)
theorem L_X3_best_48_s (st : Nat → Int32) (a0 : Int32) (n : Nat) (k_6 : Int32) (k_7 : Int32) (k_8 : Int32) (k_9 : Int32) (px_10 : Nat → Int64) (py_11 : Nat → Int64) (co_12 : Int32) (lx_13 : Nat → Int64) (ly_14 : Nat → Int64) (lf_15 : Int32) : L_X3_best_48 st a0 (n + 1) k_6 k_7 k_8 k_9 px_10 py_11 co_12 lx_13 ly_14 lf_15 =
    (if (12 : Int32) < k_6 then
      some (k_6, k_7, k_8, k_9, px_10, py_11, co_12, lx_13, ly_14, lf_15)
    else
      bd10 (L_X3_best_59 st a0 k_6 1000 (-12 : Int32) k_7 k_8 k_9 px_10 py_11 co_12 lx_13 ly_14 lf_15) (fun o_37 o_38 o_39 o_40 o_41 o_42 o_43 o_44 o_45 o_46 =>
      L_X3_best_48 st a0 n (k_6 + (1 : Int32)) o_38 o_39 o_40 o_41 o_42 o_43 o_44 o_45 o_46)) := rfl

def P_X3_best (a0 : Int32) (a1 : Int32) (st : Nat → Int32) (px : Nat → Int64) (py : Nat → Int64) (co : Int32) (lx : Nat → Int64) (ly : Nat → Int64) (lf : Int32) : Option (Int32 × (Nat → Int64) × (Nat → Int64) × Int32 × (Nat → Int64) × (Nat → Int64) × Int32) :=
  bd1 (P_X3_isLayer a0) (fun r_1 =>
  if r_1 = (0 : Int32) then
    some ((-1 : Int32), px, py, co, lx, ly, lf)
  else
    bd1 (P_X3_in a1 (0 : Int32) (2 : Int32)) (fun r_3 =>
    if r_3 = (0 : Int32) then
      some ((-2 : Int32), px, py, co, lx, ly, lf)
    else
      gd (ib ((0 : Int32) + a0) 54) (
      if (st ((0 : Int32) + a0).toNatClampNeg) = (0 : Int32) then
        some ((-6 : Int32), px, py, co, lx, ly, lf)
      else
        bd10 (L_X3_best_48 st a0 1000 (-12 : Int32) (0 : Int32) (0 : Int32) (-6 : Int32) px py co lx ly lf) (fun o_16 o_17 o_18 o_19 o_20 o_21 o_22 o_23 o_24 o_25 =>
        if a1 = (0 : Int32) then
          some ((o_18 + (100 : Int32)), o_20, o_21, o_22, o_23, o_24, o_25)
        else
          if a1 = (1 : Int32) then
            some ((o_17 + (100 : Int32)), o_20, o_21, o_22, o_23, o_24, o_25)
          else
            some (o_19, o_20, o_21, o_22, o_23, o_24, o_25)))))

def rm_X3_best : Room := { frames := 6, cells := 0, slots := 0, locals := 159 }

set_option maxHeartbeats 4000000 in
set_option maxRecDepth 100000 in
theorem c_X3_best (l : Launch) (dC : Nat → ClassId) (dI : Nat → Nat → Nat) (h0 ast aim akp awx awy apx apy alx aly : Nat) (cI cZ cJ : ClassId) (hsz0 : Nat) (st : Nat → Int32) (im : Nat → Int32) (kp : Nat → Int32) (wx : Nat → Int32) (wy : Nat → Int32) (px : Nat → Int64) (py : Nat → Int64) (co : Int32) (lx : Nat → Int64) (ly : Nat → Int64) (lf : Int32) (a0 : Int32) (a1 : Int32) (r0 : Int32) (pxN : Nat → Int64) (pyN : Nat → Int64) (coN : Int32) (lxN : Nat → Int64) (lyN : Nat → Int64) (lfN : Int32) (hF : P_X3_best a0 a1 st px py co lx ly lf = some (r0, pxN, pyN, coN, lxN, lyN, lfN)) : Met l yX3_best wsX3_best rm_X3_best (va_Pc [.ref h0, .int a0, .int a1] (fun U => U.heap.size = hsz0 ∧ va_P (dC, dI) vwCl [(h0, .inr (3, [.ref ast, .ref aim, .ref akp, .ref awx, .ref awy, .ref apx, .ref apy, .int co, .ref alx, .ref aly, .int lf])), (ast, .inl (cI, 54, .inl st)), (aim, .inl (cI, 108, .inl im)), (akp, .inl (cZ, 2, .inl kp)), (awx, .inl (cI, 8, .inl wx)), (awy, .inl (cI, 8, .inl wy)), (apx, .inl (cJ, 300, .inr (.inl px))), (apy, .inl (cJ, 300, .inr (.inl py))), (alx, .inl (cJ, 300, .inr (.inl lx))), (aly, .inl (cJ, 300, .inr (.inl ly)))] U.heap ∧ va_K (dC, dI) vwCl [(cI, .int), (cZ, .boolean), (cJ, .long)] U ∧ va_D (fun _ => True) [(h0, .inr (3, [.ref ast, .ref aim, .ref akp, .ref awx, .ref awy, .ref apx, .ref apy, .int co, .ref alx, .ref aly, .int lf])), (ast, .inl (cI, 54, .inl st)), (aim, .inl (cI, 108, .inl im)), (akp, .inl (cZ, 2, .inl kp)), (awx, .inl (cI, 8, .inl wx)), (awy, .inl (cI, 8, .inl wy)), (apx, .inl (cJ, 300, .inr (.inl px))), (apy, .inl (cJ, 300, .inr (.inl py))), (alx, .inl (cJ, 300, .inr (.inl lx))), (aly, .inl (cJ, 300, .inr (.inl ly)))])) (va_Qi (fun (r : Int32) (_ : Unit) => r = r0) (fun _ t => va_P (dC, dI) vwCl [(h0, .inr (3, [.ref ast, .ref aim, .ref akp, .ref awx, .ref awy, .ref apx, .ref apy, .int coN, .ref alx, .ref aly, .int lfN])), (ast, .inl (cI, 54, .inl st)), (aim, .inl (cI, 108, .inl im)), (akp, .inl (cZ, 2, .inl kp)), (awx, .inl (cI, 8, .inl wx)), (awy, .inl (cI, 8, .inl wy)), (apx, .inl (cJ, 300, .inr (.inl pxN))), (apy, .inl (cJ, 300, .inr (.inl pyN))), (alx, .inl (cJ, 300, .inr (.inl lxN))), (aly, .inl (cJ, 300, .inr (.inl lyN)))] t.heap ∧ va_K (dC, dI) vwCl [(cI, .int), (cZ, .boolean), (cJ, .long)] t ∧ va_D (va_A [(h0, .inr (3, [.ref ast, .ref aim, .ref akp, .ref awx, .ref awy, .ref apx, .ref apy, .int co, .ref alx, .ref aly, .int lf])), (ast, .inl (cI, 54, .inl st)), (aim, .inl (cI, 108, .inl im)), (akp, .inl (cZ, 2, .inl kp)), (awx, .inl (cI, 8, .inl wx)), (awy, .inl (cI, 8, .inl wy)), (apx, .inl (cJ, 300, .inr (.inl px))), (apy, .inl (cJ, 300, .inr (.inl py))), (alx, .inl (cJ, 300, .inr (.inl lx))), (aly, .inl (cJ, 300, .inr (.inl ly)))] hsz0) [(h0, .inr (3, [.ref ast, .ref aim, .ref akp, .ref awx, .ref awy, .ref apx, .ref apy, .int coN, .ref alx, .ref aly, .int lfN])), (ast, .inl (cI, 54, .inl st)), (aim, .inl (cI, 108, .inl im)), (akp, .inl (cZ, 2, .inl kp)), (awx, .inl (cI, 8, .inl wx)), (awy, .inl (cI, 8, .inl wy)), (apx, .inl (cJ, 300, .inr (.inl pxN))), (apy, .inl (cJ, 300, .inr (.inl pyN))), (alx, .inl (cJ, 300, .inr (.inl lxN))), (aly, .inl (cJ, 300, .inr (.inl lyN)))]) (va_A [(h0, .inr (3, [.ref ast, .ref aim, .ref akp, .ref awx, .ref awy, .ref apx, .ref apy, .int co, .ref alx, .ref aly, .int lf])), (ast, .inl (cI, 54, .inl st)), (aim, .inl (cI, 108, .inl im)), (akp, .inl (cZ, 2, .inl kp)), (awx, .inl (cI, 8, .inl wx)), (awy, .inl (cI, 8, .inl wy)), (apx, .inl (cJ, 300, .inr (.inl px))), (apy, .inl (cJ, 300, .inr (.inl py))), (alx, .inl (cJ, 300, .inr (.inl lx))), (aly, .inl (cJ, 300, .inr (.inl ly)))] hsz0)) 0 0 (va_A [(h0, .inr (3, [.ref ast, .ref aim, .ref akp, .ref awx, .ref awy, .ref apx, .ref apy, .int co, .ref alx, .ref aly, .int lf])), (ast, .inl (cI, 54, .inl st)), (aim, .inl (cI, 108, .inl im)), (akp, .inl (cZ, 2, .inl kp)), (awx, .inl (cI, 8, .inl wx)), (awy, .inl (cI, 8, .inl wy)), (apx, .inl (cJ, 300, .inr (.inl px))), (apy, .inl (cJ, 300, .inr (.inl py))), (alx, .inl (cJ, 300, .inr (.inl lx))), (aly, .inl (cJ, 300, .inr (.inl ly)))] hsz0) := by
  refine Met.ofW (cc := cX3_best) (maxL := 9) (ret := (some .int)) (by decide) rfl ?_
  intro p e s m args below meth c s₁ B hml hv
  change W p l e rm_X3_best s m args below meth c s.heap [] 0 0 _ _
  obtain ⟨hv, hsz, hP, hK, hD0⟩ := hv
  have hx := B.exec
  have hb := B.bytes
  have hr := B.returns
  have hts := atoms_spec (ws := wsX3_best) B.pre
  have hown : s.vm.findClass RX3 = some m.cls := findClass_of_methodNamed B.named
  have hlocks := B.notSynchronized
  subst hsz
  have hD := hD0.self (sz := s.heap.size)
  generalize hAe : va_A [(h0, .inr (3, [.ref ast, .ref aim, .ref akp, .ref awx, .ref awy, .ref apx, .ref apy, .int co, .ref alx, .ref aly, .int lf])), (ast, .inl (cI, 54, .inl st)), (aim, .inl (cI, 108, .inl im)), (akp, .inl (cZ, 2, .inl kp)), (awx, .inl (cI, 8, .inl wx)), (awy, .inl (cI, 8, .inl wy)), (apx, .inl (cJ, 300, .inr (.inl px))), (apy, .inl (cJ, 300, .inr (.inl py))), (alx, .inl (cJ, 300, .inr (.inl lx))), (aly, .inl (cJ, 300, .inr (.inl ly)))] s.heap.size = A at hD ⊢
  have hA : ∀ q : Nat, s.heap.size ≤ q → A q := fun q h => by rw [← hAe]; exact Or.inr h
  have hS : va_S A s.heap s.heap [] := va_S.rf
  generalize hQ : MQ below (va_Qi (fun (r : Int32) (_ : Unit) => r = r0) (fun _ t => va_P (dC, dI) vwCl [(h0, .inr (3, [.ref ast, .ref aim, .ref akp, .ref awx, .ref awy, .ref apx, .ref apy, .int coN, .ref alx, .ref aly, .int lfN])), (ast, .inl (cI, 54, .inl st)), (aim, .inl (cI, 108, .inl im)), (akp, .inl (cZ, 2, .inl kp)), (awx, .inl (cI, 8, .inl wx)), (awy, .inl (cI, 8, .inl wy)), (apx, .inl (cJ, 300, .inr (.inl pxN))), (apy, .inl (cJ, 300, .inr (.inl pyN))), (alx, .inl (cJ, 300, .inr (.inl lxN))), (aly, .inl (cJ, 300, .inr (.inl lyN)))] t.heap ∧ va_K (dC, dI) vwCl [(cI, .int), (cZ, .boolean), (cJ, .long)] t ∧ va_D A [(h0, .inr (3, [.ref ast, .ref aim, .ref akp, .ref awx, .ref awy, .ref apx, .ref apy, .int coN, .ref alx, .ref aly, .int lfN])), (ast, .inl (cI, 54, .inl st)), (aim, .inl (cI, 108, .inl im)), (akp, .inl (cZ, 2, .inl kp)), (awx, .inl (cI, 8, .inl wx)), (awy, .inl (cI, 8, .inl wy)), (apx, .inl (cJ, 300, .inr (.inl pxN))), (apy, .inl (cJ, 300, .inr (.inl pyN))), (alx, .inl (cJ, 300, .inr (.inl lxN))), (aly, .inl (cJ, 300, .inr (.inl lyN)))]) A) args s 0 0 A = Q
  have hl := lv_entry ([.ref h0, .int a0, .int a1]) (n := 9) (Nat.le_of_ble_eq_true rfl)
  have hE : entryFrame m args 9 = F0 m 0 ((lg_sl ([.ref h0, .int a0, .int a1]) ++ List.replicate (9 - (lg_sl ([.ref h0, .int a0, .int a1])).length) Slot.unset).toArray) [] := by rw [hv]; exact lg_entry_eq m _ 9
  rw [hE]
  generalize (lg_sl ([.ref h0, .int a0, .int a1]) ++ List.replicate (9 - (lg_sl ([.ref h0, .int a0, .int a1])).length) Slot.unset).toArray = ls at hl ⊢
  have hl : lv_has ls 9 [(0, .ref h0), (1, .int a0), (2, .int a1)] := hl
  unfold P_X3_best at hF
  refine lv_iload_n hx hb dX3_best_0 rfl (lv_at hl 1 rfl) ?_
  obtain ⟨r_1, hr_1, hF⟩ := bd1_u hF
  refine vp_callSi (W.runS (As := [.int a0]) (rest := []) ⟨hx, hb, hml, hown, hts⟩ (c_X3_isLayer l a0 r_1 hr_1) (va_cwS 1 hts gX3_best_X3_isLayer rfl rfl rfl (by decide +kernel) ⟨Nat.le_of_ble_eq_true rfl, Nat.le_of_ble_eq_true rfl⟩) preEq rfl rfl hl.1 rfl (lv_room (Nat.le_of_ble_eq_true rfl)) dX3_best_1 ⟨Nat.le_of_ble_eq_true rfl, Nat.le_of_ble_eq_true rfl⟩) (fun r_1' qr_1 => ?_)
  obtain rfl := qr_1.symm
  refine lv_if_ne (tgt := 9) hx hb dX3_best_4 (by decide) (fun c_2 => ?_) (fun c_2 => ?_)
  · have hF := br0 hF c_2
    refine lv_iload_n hx hb dX3_best_9 rfl (lv_at hl 2 rfl) ?_
    refine lv_iconst (v := 0) hx hb dX3_best_10 (by decide) ?_
    refine lv_iconst (v := 2) hx hb dX3_best_11 (by decide) ?_
    obtain ⟨r_3, hr_3, hF⟩ := bd1_u hF
    refine vp_callSi (W.runS (As := [.int a1, .int (0 : Int32), .int (2 : Int32)]) (rest := []) ⟨hx, hb, hml, hown, hts⟩ (c_X3_in l a1 (0 : Int32) (2 : Int32) r_3 hr_3) (va_cwS 3 hts gX3_best_X3_in rfl rfl rfl (by decide +kernel) ⟨Nat.le_of_ble_eq_true rfl, Nat.le_of_ble_eq_true rfl⟩) preEq rfl rfl hl.1 rfl (lv_room (Nat.le_of_ble_eq_true rfl)) dX3_best_12 ⟨Nat.le_of_ble_eq_true rfl, Nat.le_of_ble_eq_true rfl⟩) (fun r_3' qr_3 => ?_)
    obtain rfl := qr_3.symm
    refine lv_if_ne (tgt := 21) hx hb dX3_best_15 (by decide) (fun c_4 => ?_) (fun c_4 => ?_)
    · have hF := br0 hF c_4
      refine lv_aload_n hx hb dX3_best_21 rfl (lv_at hl 0 rfl) ?_
      refine va_get (D := (dC, dI)) (ci := 3) (v := .ref ast) (C := RX3) (T := TX3) (N := 11) hx hb hts (by decide +kernel) hown hK hP 0 rfl rfl 0 (by decide) (hts (.fieldLink RX3 7 "DotCoverModel" "state" "[I") (by decide +kernel)) (fun _ h9 => h9) rfl dX3_best_22 ?_
      refine lv_iconst (v := 0) hx hb dX3_best_25 (by decide) ?_
      refine lv_iload_n hx hb dX3_best_26 rfl (lv_at hl 1 rfl) ?_
      refine lv_iadd hx hb dX3_best_27 ?_
      obtain ⟨hi_28, hF⟩ := gd_u hF
      refine va_iald hx hb hK hP 1 0 rfl rfl (in_u hi_28) dX3_best_28 ?_
      refine lv_if_ne (tgt := 35) hx hb dX3_best_29 (by decide) (fun c_5 => ?_) (fun c_5 => ?_)
      · have hF := br0 hF c_5
        refine lv_bipush (v := -6) hx hb dX3_best_35 (by decide) ?_
        refine lv_istore_n (lv' := [(3, .int (-6 : Int32)), (0, .ref h0), (1, .int a0), (2, .int a1)]) hx hb dX3_best_37 rfl hl (by decide) rfl (fun ls hl => ?_)
        refine lv_iconst (v := 0) hx hb dX3_best_38 (by decide) ?_
        refine lv_istore (lv' := [(4, .int (0 : Int32)), (3, .int (-6 : Int32)), (0, .ref h0), (1, .int a0), (2, .int a1)]) hx hb dX3_best_39 hl (by decide) rfl (fun ls hl => ?_)
        refine lv_iconst (v := 0) hx hb dX3_best_41 (by decide) ?_
        refine lv_istore (lv' := [(5, .int (0 : Int32)), (4, .int (0 : Int32)), (3, .int (-6 : Int32)), (0, .ref h0), (1, .int a0), (2, .int a1)]) hx hb dX3_best_42 hl (by decide) rfl (fun ls hl => ?_)
        refine lv_bipush (v := -12) hx hb dX3_best_44 (by decide) ?_
        refine lv_istore (lv' := [(6, .int (-12 : Int32)), (5, .int (0 : Int32)), (4, .int (0 : Int32)), (3, .int (-6 : Int32)), (0, .ref h0), (1, .int a0), (2, .int a1)]) hx hb dX3_best_46 hl (by decide) rfl (fun ls hl => ?_)
        obtain ⟨o_16, o_17, o_18, o_19, o_20, o_21, o_22, o_23, o_24, o_25, hL_48, hF⟩ := bd10_u hF
        have lp_48 : ∀ (n : Nat) (k_6 : Int32) (k_7 : Int32) (k_8 : Int32) (k_9 : Int32) (px_10 : Nat → Int64) (py_11 : Nat → Int64) (co_12 : Int32) (lx_13 : Nat → Int64) (ly_14 : Nat → Int64) (lf_15 : Int32) (o_16 : Int32) (o_17 : Int32) (o_18 : Int32) (o_19 : Int32) (o_20 : Nat → Int64) (o_21 : Nat → Int64) (o_22 : Int32) (o_23 : Nat → Int64) (o_24 : Nat → Int64) (o_25 : Int32) (H : Heap) (locs : List Loc) (ls : Array Slot), L_X3_best_48 st a0 n k_6 k_7 k_8 k_9 px_10 py_11 co_12 lx_13 ly_14 lf_15 = some (o_16, o_17, o_18, o_19, o_20, o_21, o_22, o_23, o_24, o_25) → va_P (dC, dI) vwCl [(h0, .inr (3, [.ref ast, .ref aim, .ref akp, .ref awx, .ref awy, .ref apx, .ref apy, .int co_12, .ref alx, .ref aly, .int lf_15])), (ast, .inl (cI, 54, .inl st)), (aim, .inl (cI, 108, .inl im)), (akp, .inl (cZ, 2, .inl kp)), (awx, .inl (cI, 8, .inl wx)), (awy, .inl (cI, 8, .inl wy)), (apx, .inl (cJ, 300, .inr (.inl px_10))), (apy, .inl (cJ, 300, .inr (.inl py_11))), (alx, .inl (cJ, 300, .inr (.inl lx_13))), (aly, .inl (cJ, 300, .inr (.inl ly_14)))] H → va_D A [(h0, .inr (3, [.ref ast, .ref aim, .ref akp, .ref awx, .ref awy, .ref apx, .ref apy, .int co_12, .ref alx, .ref aly, .int lf_15])), (ast, .inl (cI, 54, .inl st)), (aim, .inl (cI, 108, .inl im)), (akp, .inl (cZ, 2, .inl kp)), (awx, .inl (cI, 8, .inl wx)), (awy, .inl (cI, 8, .inl wy)), (apx, .inl (cJ, 300, .inr (.inl px_10))), (apy, .inl (cJ, 300, .inr (.inl py_11))), (alx, .inl (cJ, 300, .inr (.inl lx_13))), (aly, .inl (cJ, 300, .inr (.inl ly_14)))] → va_S A s.heap H locs → lv_has ls 9 [(6, .int k_6), (5, .int k_7), (4, .int k_8), (3, .int k_9), (0, .ref h0), (1, .int a0), (2, .int a1)] → (∀ (H : Heap) (locs : List Loc) (ls : Array Slot), va_P (dC, dI) vwCl [(h0, .inr (3, [.ref ast, .ref aim, .ref akp, .ref awx, .ref awy, .ref apx, .ref apy, .int o_22, .ref alx, .ref aly, .int o_25])), (ast, .inl (cI, 54, .inl st)), (aim, .inl (cI, 108, .inl im)), (akp, .inl (cZ, 2, .inl kp)), (awx, .inl (cI, 8, .inl wx)), (awy, .inl (cI, 8, .inl wy)), (apx, .inl (cJ, 300, .inr (.inl o_20))), (apy, .inl (cJ, 300, .inr (.inl o_21))), (alx, .inl (cJ, 300, .inr (.inl o_23))), (aly, .inl (cJ, 300, .inr (.inl o_24)))] H → va_D A [(h0, .inr (3, [.ref ast, .ref aim, .ref akp, .ref awx, .ref awy, .ref apx, .ref apy, .int o_22, .ref alx, .ref aly, .int o_25])), (ast, .inl (cI, 54, .inl st)), (aim, .inl (cI, 108, .inl im)), (akp, .inl (cZ, 2, .inl kp)), (awx, .inl (cI, 8, .inl wx)), (awy, .inl (cI, 8, .inl wy)), (apx, .inl (cJ, 300, .inr (.inl o_20))), (apy, .inl (cJ, 300, .inr (.inl o_21))), (alx, .inl (cJ, 300, .inr (.inl o_23))), (aly, .inl (cJ, 300, .inr (.inl o_24)))] → va_S A s.heap H locs → lv_has ls 9 [(6, .int o_16), (5, .int o_17), (4, .int o_18), (3, .int o_19), (0, .ref h0), (1, .int a0), (2, .int a1)] → W p l e rm_X3_best s m args below meth c H locs 0 0 Q (F0 m 123 ls [])) → W p l e rm_X3_best s m args below meth c H locs 0 0 Q (F0 m 48 ls []) := by
          intro n
          induction n with
          | zero =>
            intro k_6 k_7 k_8 k_9 px_10 py_11 co_12 lx_13 ly_14 lf_15 o_16 o_17 o_18 o_19 o_20 o_21 o_22 o_23 o_24 o_25 H locs ls hF
            exact nn ((rfl : L_X3_best_48 st a0 0 k_6 k_7 k_8 k_9 px_10 py_11 co_12 lx_13 ly_14 lf_15 = none).symm.trans hF)
          | succ n ih_48 =>
            intro k_6 k_7 k_8 k_9 px_10 py_11 co_12 lx_13 ly_14 lf_15 o_16 o_17 o_18 o_19 o_20 o_21 o_22 o_23 o_24 o_25 H locs ls hF hP hD hS hl kx_48
            have hF := (L_X3_best_48_s st a0 n k_6 k_7 k_8 k_9 px_10 py_11 co_12 lx_13 ly_14 lf_15).symm.trans hF
            refine lv_iload hx hb dX3_best_48 (lv_at hl 0 rfl) ?_
            refine lv_bipush (v := 12) hx hb dX3_best_50 (by decide) ?_
            refine lv_icmp_gt (tgt := 123) hx hb dX3_best_52 (by decide) (fun c_26 => ?_) (fun c_26 => ?_)
            · have hF := br1 hF c_26
              obtain ⟨rfl, rfl, rfl, rfl, rfl, rfl, rfl, rfl, rfl, rfl⟩ := tp10 hF
              exact kx_48 _ _ ls hP hD hS hl
            · have hF := br0 hF c_26
              refine lv_bipush (v := -12) hx hb dX3_best_55 (by decide) ?_
              refine lv_istore (lv' := [(7, .int (-12 : Int32)), (6, .int k_6), (5, .int k_7), (4, .int k_8), (3, .int k_9), (0, .ref h0), (1, .int a0), (2, .int a1)]) hx hb dX3_best_57 hl (by decide) rfl (fun ls hl => ?_)
              obtain ⟨o_37, o_38, o_39, o_40, o_41, o_42, o_43, o_44, o_45, o_46, hL_59, hF⟩ := bd10_u hF
              have lp_59 : ∀ (n : Nat) (k_27 : Int32) (k_28 : Int32) (k_29 : Int32) (k_30 : Int32) (px_31 : Nat → Int64) (py_32 : Nat → Int64) (co_33 : Int32) (lx_34 : Nat → Int64) (ly_35 : Nat → Int64) (lf_36 : Int32) (o_37 : Int32) (o_38 : Int32) (o_39 : Int32) (o_40 : Int32) (o_41 : Nat → Int64) (o_42 : Nat → Int64) (o_43 : Int32) (o_44 : Nat → Int64) (o_45 : Nat → Int64) (o_46 : Int32) (H : Heap) (locs : List Loc) (ls : Array Slot), L_X3_best_59 st a0 k_6 n k_27 k_28 k_29 k_30 px_31 py_32 co_33 lx_34 ly_35 lf_36 = some (o_37, o_38, o_39, o_40, o_41, o_42, o_43, o_44, o_45, o_46) → va_P (dC, dI) vwCl [(h0, .inr (3, [.ref ast, .ref aim, .ref akp, .ref awx, .ref awy, .ref apx, .ref apy, .int co_33, .ref alx, .ref aly, .int lf_36])), (ast, .inl (cI, 54, .inl st)), (aim, .inl (cI, 108, .inl im)), (akp, .inl (cZ, 2, .inl kp)), (awx, .inl (cI, 8, .inl wx)), (awy, .inl (cI, 8, .inl wy)), (apx, .inl (cJ, 300, .inr (.inl px_31))), (apy, .inl (cJ, 300, .inr (.inl py_32))), (alx, .inl (cJ, 300, .inr (.inl lx_34))), (aly, .inl (cJ, 300, .inr (.inl ly_35)))] H → va_D A [(h0, .inr (3, [.ref ast, .ref aim, .ref akp, .ref awx, .ref awy, .ref apx, .ref apy, .int co_33, .ref alx, .ref aly, .int lf_36])), (ast, .inl (cI, 54, .inl st)), (aim, .inl (cI, 108, .inl im)), (akp, .inl (cZ, 2, .inl kp)), (awx, .inl (cI, 8, .inl wx)), (awy, .inl (cI, 8, .inl wy)), (apx, .inl (cJ, 300, .inr (.inl px_31))), (apy, .inl (cJ, 300, .inr (.inl py_32))), (alx, .inl (cJ, 300, .inr (.inl lx_34))), (aly, .inl (cJ, 300, .inr (.inl ly_35)))] → va_S A s.heap H locs → lv_has ls 9 [(7, .int k_27), (6, .int k_6), (5, .int k_28), (4, .int k_29), (3, .int k_30), (0, .ref h0), (1, .int a0), (2, .int a1)] → (∀ (H : Heap) (locs : List Loc) (ls : Array Slot), va_P (dC, dI) vwCl [(h0, .inr (3, [.ref ast, .ref aim, .ref akp, .ref awx, .ref awy, .ref apx, .ref apy, .int o_43, .ref alx, .ref aly, .int o_46])), (ast, .inl (cI, 54, .inl st)), (aim, .inl (cI, 108, .inl im)), (akp, .inl (cZ, 2, .inl kp)), (awx, .inl (cI, 8, .inl wx)), (awy, .inl (cI, 8, .inl wy)), (apx, .inl (cJ, 300, .inr (.inl o_41))), (apy, .inl (cJ, 300, .inr (.inl o_42))), (alx, .inl (cJ, 300, .inr (.inl o_44))), (aly, .inl (cJ, 300, .inr (.inl o_45)))] H → va_D A [(h0, .inr (3, [.ref ast, .ref aim, .ref akp, .ref awx, .ref awy, .ref apx, .ref apy, .int o_43, .ref alx, .ref aly, .int o_46])), (ast, .inl (cI, 54, .inl st)), (aim, .inl (cI, 108, .inl im)), (akp, .inl (cZ, 2, .inl kp)), (awx, .inl (cI, 8, .inl wx)), (awy, .inl (cI, 8, .inl wy)), (apx, .inl (cJ, 300, .inr (.inl o_41))), (apy, .inl (cJ, 300, .inr (.inl o_42))), (alx, .inl (cJ, 300, .inr (.inl o_44))), (aly, .inl (cJ, 300, .inr (.inl o_45)))] → va_S A s.heap H locs → lv_has ls 9 [(7, .int o_37), (6, .int k_6), (5, .int o_38), (4, .int o_39), (3, .int o_40), (0, .ref h0), (1, .int a0), (2, .int a1)] → W p l e rm_X3_best s m args below meth c H locs 0 0 Q (F0 m 117 ls [])) → W p l e rm_X3_best s m args below meth c H locs 0 0 Q (F0 m 59 ls []) := by
                intro n
                induction n with
                | zero =>
                  intro k_27 k_28 k_29 k_30 px_31 py_32 co_33 lx_34 ly_35 lf_36 o_37 o_38 o_39 o_40 o_41 o_42 o_43 o_44 o_45 o_46 H locs ls hF
                  exact nn ((rfl : L_X3_best_59 st a0 k_6 0 k_27 k_28 k_29 k_30 px_31 py_32 co_33 lx_34 ly_35 lf_36 = none).symm.trans hF)
                | succ n ih_59 =>
                  intro k_27 k_28 k_29 k_30 px_31 py_32 co_33 lx_34 ly_35 lf_36 o_37 o_38 o_39 o_40 o_41 o_42 o_43 o_44 o_45 o_46 H locs ls hF hP hD hS hl kx_59
                  have hF := (L_X3_best_59_s st a0 k_6 n k_27 k_28 k_29 k_30 px_31 py_32 co_33 lx_34 ly_35 lf_36).symm.trans hF
                  refine lv_iload hx hb dX3_best_59 (lv_at hl 0 rfl) ?_
                  refine lv_bipush (v := 12) hx hb dX3_best_61 (by decide) ?_
                  refine lv_icmp_gt (tgt := 117) hx hb dX3_best_63 (by decide) (fun c_47 => ?_) (fun c_47 => ?_)
                  · have hF := br1 hF c_47
                    obtain ⟨rfl, rfl, rfl, rfl, rfl, rfl, rfl, rfl, rfl, rfl⟩ := tp10 hF
                    exact kx_59 _ _ ls hP hD hS hl
                  · have hF := br0 hF c_47
                    refine lv_aload_n hx hb dX3_best_66 rfl (lv_at hl 5 rfl) ?_
                    refine lv_iload_n hx hb dX3_best_67 rfl (lv_at hl 6 rfl) ?_
                    refine lv_iload hx hb dX3_best_68 (lv_at hl 1 rfl) ?_
                    refine lv_iload hx hb dX3_best_70 (lv_at hl 0 rfl) ?_
                    obtain ⟨r_48, hr_48, hF⟩ := bd1_u hF
                    have hPc := hP.sub (ws' := [(h0, .inr (3, [.ref ast, .ref aim, .ref akp, .ref awx, .ref awy, .ref apx, .ref apy, .int co_33, .ref alx, .ref aly, .int lf_36])), (ast, .inl (cI, 54, .inl st)), (aim, .inl (cI, 108, .inl im)), (akp, .inl (cZ, 2, .inl kp)), (awx, .inl (cI, 8, .inl wx)), (awy, .inl (cI, 8, .inl wy)), (apx, .inl (cJ, 300, .inr (.inl px_31))), (apy, .inl (cJ, 300, .inr (.inl py_32))), (alx, .inl (cJ, 300, .inr (.inl lx_34))), (aly, .inl (cJ, 300, .inr (.inl ly_35)))]) [0, 1, 2, 3, 4, 5, 6, 7, 8, 9] rfl
                    have hKc := hK.sub (tys' := [(cI, .int), (cZ, .boolean), (cJ, .long)]) [0, 1, 2] rfl
                    refine vp_callSi (W.runV (As := [.int a0, .int k_6, .int k_27]) (rest := []) ⟨hx, hb, hml, hown, hts⟩ (c_X3_canMove l dC dI h0 ast aim akp awx awy apx apy alx aly cI cZ cJ st im kp wx wy px_31 py_32 co_33 lx_34 ly_35 lf_36 a0 k_6 k_27 r_48 hr_48) (cwV 3 hts gX3_best_X3_canMove rfl rfl rfl (by decide +kernel) ⟨Nat.le_of_ble_eq_true rfl, Nat.le_of_ble_eq_true rfl⟩) ⟨fun a U g mk q => ⟨q.1, q.2.1, va_K.moved (u := U) (U := U.calling g mk a) (Vm.Alike.refl U.vm) q.2.2⟩, va_recv hKc hPc (ci := 3) (q0 := 0) rfl rfl, fun U hU hW => ⟨rfl, by rw [hU]; exact hPc, va_K.moved hW.alike hKc⟩⟩ rfl rfl hl.1 rfl (lv_room (Nat.le_of_ble_eq_true rfl)) dX3_best_72 ⟨Nat.le_of_ble_eq_true rfl, Nat.le_of_ble_eq_true rfl⟩) (fun r_48' qr_48 => ?_)
                    obtain rfl := qr_48.symm
                    refine lv_if_eq (tgt := 90) hx hb dX3_best_75 (by decide) (fun c_49 => ?_) (fun c_49 => ?_)
                    · have hF := br1 hF c_49
                      refine lv_bipush (v := -6) hx hb dX3_best_90 (by decide) ?_
                      refine lv_istore (lv' := [(8, .int (-6 : Int32)), (7, .int k_27), (6, .int k_6), (5, .int k_28), (4, .int k_29), (3, .int k_30), (0, .ref h0), (1, .int a0), (2, .int a1)]) hx hb dX3_best_92 hl (by decide) rfl (fun ls hl => ?_)
                      refine lv_iload hx hb dX3_best_94 (lv_at hl 0 rfl) ?_
                      refine lv_iload_n hx hb dX3_best_96 rfl (lv_at hl 5 rfl) ?_
                      refine lv_icmp_le (tgt := 111) hx hb dX3_best_97 (by decide) (fun c_50 => ?_) (fun c_50 => ?_)
                      · have hF := br1 hF c_50
                        refine lv_iinc (v := (k_27 + (1 : Int32))) (lv' := [(7, .int (k_27 + (1 : Int32))), (8, .int (-6 : Int32)), (6, .int k_6), (5, .int k_28), (4, .int k_29), (3, .int k_30), (0, .ref h0), (1, .int a0), (2, .int a1)]) hx hb dX3_best_111 hl (k := 1) rfl rfl (by decide) rfl (fun ls hl => ?_)
                        refine lv_goto (tgt := 59) hx hb dX3_best_114 (by decide) ?_
                        exact ih_59 _ _ _ _ _ _ _ _ _ _ _ _ _ _ _ _ _ _ _ _ _ _ ls hF hP hD hS (lv_sub hl [0, 2, 3, 4, 5, 6, 7, 8] rfl) kx_59
                      · have hF := br0 hF c_50
                        refine lv_iload hx hb dX3_best_100 (lv_at hl 0 rfl) ?_
                        refine lv_istore_n (lv' := [(3, .int (-6 : Int32)), (8, .int (-6 : Int32)), (7, .int k_27), (6, .int k_6), (5, .int k_28), (4, .int k_29), (0, .ref h0), (1, .int a0), (2, .int a1)]) hx hb dX3_best_102 rfl hl (by decide) rfl (fun ls hl => ?_)
                        refine lv_iload hx hb dX3_best_103 (lv_at hl 3 rfl) ?_
                        refine lv_istore (lv' := [(4, .int k_6), (3, .int (-6 : Int32)), (8, .int (-6 : Int32)), (7, .int k_27), (6, .int k_6), (5, .int k_28), (0, .ref h0), (1, .int a0), (2, .int a1)]) hx hb dX3_best_105 hl (by decide) rfl (fun ls hl => ?_)
                        refine lv_iload hx hb dX3_best_107 (lv_at hl 3 rfl) ?_
                        refine lv_istore (lv' := [(5, .int k_27), (4, .int k_6), (3, .int (-6 : Int32)), (8, .int (-6 : Int32)), (7, .int k_27), (6, .int k_6), (0, .ref h0), (1, .int a0), (2, .int a1)]) hx hb dX3_best_109 hl (by decide) rfl (fun ls hl => ?_)
                        refine lv_iinc (v := (k_27 + (1 : Int32))) (lv' := [(7, .int (k_27 + (1 : Int32))), (5, .int k_27), (4, .int k_6), (3, .int (-6 : Int32)), (8, .int (-6 : Int32)), (6, .int k_6), (0, .ref h0), (1, .int a0), (2, .int a1)]) hx hb dX3_best_111 hl (k := 4) rfl rfl (by decide) rfl (fun ls hl => ?_)
                        refine lv_goto (tgt := 59) hx hb dX3_best_114 (by decide) ?_
                        exact ih_59 _ _ _ _ _ _ _ _ _ _ _ _ _ _ _ _ _ _ _ _ _ _ ls hF hP hD hS (lv_sub hl [0, 5, 1, 2, 3, 6, 7, 8] rfl) kx_59
                    · have hF := br0 hF c_49
                      refine lv_aload_n hx hb dX3_best_78 rfl (lv_at hl 5 rfl) ?_
                      refine lv_iload_n hx hb dX3_best_79 rfl (lv_at hl 6 rfl) ?_
                      refine lv_iload hx hb dX3_best_80 (lv_at hl 1 rfl) ?_
                      refine lv_iload hx hb dX3_best_82 (lv_at hl 0 rfl) ?_
                      obtain ⟨r_51, px_52, py_53, co_54, lx_55, ly_56, lf_57, hr_57, hF⟩ := bd7_u hF
                      have hPc := hP.sub (ws' := [(h0, .inr (3, [.ref ast, .ref aim, .ref akp, .ref awx, .ref awy, .ref apx, .ref apy, .int co_33, .ref alx, .ref aly, .int lf_36])), (ast, .inl (cI, 54, .inl st)), (aim, .inl (cI, 108, .inl im)), (akp, .inl (cZ, 2, .inl kp)), (awx, .inl (cI, 8, .inl wx)), (awy, .inl (cI, 8, .inl wy)), (apx, .inl (cJ, 300, .inr (.inl px_31))), (apy, .inl (cJ, 300, .inr (.inl py_32))), (alx, .inl (cJ, 300, .inr (.inl lx_34))), (aly, .inl (cJ, 300, .inr (.inl ly_35)))]) [0, 1, 2, 3, 4, 5, 6, 7, 8, 9] rfl
                      have hKc := hK.sub (tys' := [(cI, .int), (cZ, .boolean), (cJ, .long)]) [0, 1, 2] rfl
                      have hDc := hD.sub (ws' := [(h0, .inr (3, [.ref ast, .ref aim, .ref akp, .ref awx, .ref awy, .ref apx, .ref apy, .int co_33, .ref alx, .ref aly, .int lf_36])), (ast, .inl (cI, 54, .inl st)), (aim, .inl (cI, 108, .inl im)), (akp, .inl (cZ, 2, .inl kp)), (awx, .inl (cI, 8, .inl wx)), (awy, .inl (cI, 8, .inl wy)), (apx, .inl (cJ, 300, .inr (.inl px_31))), (apy, .inl (cJ, 300, .inr (.inl py_32))), (alx, .inl (cJ, 300, .inr (.inl lx_34))), (aly, .inl (cJ, 300, .inr (.inl ly_35)))]) [0, 1, 2, 3, 4, 5, 6, 7, 8, 9] (by decide) rfl
                      have hFc := va_free (wc := [(h0, .inr (3, [.ref ast, .ref aim, .ref akp, .ref awx, .ref awy, .ref apx, .ref apy, .int co_33, .ref alx, .ref aly, .int lf_36])), (ast, .inl (cI, 54, .inl st)), (aim, .inl (cI, 108, .inl im)), (akp, .inl (cZ, 2, .inl kp)), (awx, .inl (cI, 8, .inl wx)), (awy, .inl (cI, 8, .inl wy)), (apx, .inl (cJ, 300, .inr (.inl px_31))), (apy, .inl (cJ, 300, .inr (.inl py_32))), (alx, .inl (cJ, 300, .inr (.inl lx_34))), (aly, .inl (cJ, 300, .inr (.inl ly_35)))]) hD hS hA [0, 1, 2, 3, 4, 5, 6, 7, 8, 9] rfl
                      refine va_calli (va_runV (As := [.int a0, .int k_6, .int k_27]) (rest := []) ⟨hx, hb, hml, hown, hts⟩ (c_X3_fullMoved l dC dI h0 ast aim akp awx awy apx apy alx aly cI cZ cJ H.size st im kp wx wy px_31 py_32 co_33 lx_34 ly_35 lf_36 a0 k_6 k_27 r_51 px_52 py_53 co_54 lx_55 ly_56 lf_57 hr_57) (cwV 3 hts gX3_best_X3_fullMoved rfl rfl rfl (by decide +kernel) ⟨Nat.le_of_ble_eq_true rfl, Nat.le_of_ble_eq_true rfl⟩) ⟨fun a U g mk q => ⟨q.1, q.2.1, q.2.2.1, va_K.moved (u := U) (U := U.calling g mk a) (Vm.Alike.refl U.vm) q.2.2.2.1, q.2.2.2.2⟩, va_recv hKc hPc (ci := 3) (q0 := 0) rfl rfl, fun U hU hW => ⟨rfl, by rw [hU], by rw [hU]; exact hPc, va_K.moved hW.alike hKc, hDc.weaken (fun _ _ _ _ => trivial)⟩⟩ rfl rfl hl.1 rfl (lv_room (Nat.le_of_ble_eq_true rfl)) dX3_best_84 ⟨Nat.le_of_ble_eq_true rfl, Nat.le_of_ble_eq_true rfl⟩) hS (fun q _ h => hFc q h) hFc (fun r_51' _ t H1 locs ht hvm hw hB hz1 hk1 hS => ?_)
                      obtain ⟨hP1, hK1, hD1⟩ := hB
                      rw [ht] at hP1
                      obtain rfl := hw.symm
                      obtain ⟨hP, hD⟩ := va_join (wr := []) (w1 := [(h0, .inr (3, [.ref ast, .ref aim, .ref akp, .ref awx, .ref awy, .ref apx, .ref apy, .int co_54, .ref alx, .ref aly, .int lf_57])), (ast, .inl (cI, 54, .inl st)), (aim, .inl (cI, 108, .inl im)), (akp, .inl (cZ, 2, .inl kp)), (awx, .inl (cI, 8, .inl wx)), (awy, .inl (cI, 8, .inl wy)), (apx, .inl (cJ, 300, .inr (.inl px_52))), (apy, .inl (cJ, 300, .inr (.inl py_53))), (alx, .inl (cJ, 300, .inr (.inl lx_55))), (aly, .inl (cJ, 300, .inr (.inl ly_56)))]) hP hD [0, 1, 2, 3, 4, 5, 6, 7, 8, 9] [] rfl rfl (by decide) (by decide) hk1 hFc hP1 hD1
                      clear hP1 hK1 hD1 hk1 hFc
                      generalize H1 = H at hP hS ⊢
                      have hP : va_P (dC, dI) vwCl [(h0, .inr (3, [.ref ast, .ref aim, .ref akp, .ref awx, .ref awy, .ref apx, .ref apy, .int co_54, .ref alx, .ref aly, .int lf_57])), (ast, .inl (cI, 54, .inl st)), (aim, .inl (cI, 108, .inl im)), (akp, .inl (cZ, 2, .inl kp)), (awx, .inl (cI, 8, .inl wx)), (awy, .inl (cI, 8, .inl wy)), (apx, .inl (cJ, 300, .inr (.inl px_52))), (apy, .inl (cJ, 300, .inr (.inl py_53))), (alx, .inl (cJ, 300, .inr (.inl lx_55))), (aly, .inl (cJ, 300, .inr (.inl ly_56)))] H := hP
                      have hD : va_D A [(h0, .inr (3, [.ref ast, .ref aim, .ref akp, .ref awx, .ref awy, .ref apx, .ref apy, .int co_54, .ref alx, .ref aly, .int lf_57])), (ast, .inl (cI, 54, .inl st)), (aim, .inl (cI, 108, .inl im)), (akp, .inl (cZ, 2, .inl kp)), (awx, .inl (cI, 8, .inl wx)), (awy, .inl (cI, 8, .inl wy)), (apx, .inl (cJ, 300, .inr (.inl px_52))), (apy, .inl (cJ, 300, .inr (.inl py_53))), (alx, .inl (cJ, 300, .inr (.inl lx_55))), (aly, .inl (cJ, 300, .inr (.inl ly_56)))] := hD
                      refine lv_goto (tgt := 92) hx hb dX3_best_87 (by decide) ?_
                      refine lv_istore (lv' := [(8, .int r_51), (7, .int k_27), (6, .int k_6), (5, .int k_28), (4, .int k_29), (3, .int k_30), (0, .ref h0), (1, .int a0), (2, .int a1)]) hx hb dX3_best_92 hl (by decide) rfl (fun ls hl => ?_)
                      refine lv_iload hx hb dX3_best_94 (lv_at hl 0 rfl) ?_
                      refine lv_iload_n hx hb dX3_best_96 rfl (lv_at hl 5 rfl) ?_
                      refine lv_icmp_le (tgt := 111) hx hb dX3_best_97 (by decide) (fun c_58 => ?_) (fun c_58 => ?_)
                      · have hF := br1 hF c_58
                        refine lv_iinc (v := (k_27 + (1 : Int32))) (lv' := [(7, .int (k_27 + (1 : Int32))), (8, .int r_51), (6, .int k_6), (5, .int k_28), (4, .int k_29), (3, .int k_30), (0, .ref h0), (1, .int a0), (2, .int a1)]) hx hb dX3_best_111 hl (k := 1) rfl rfl (by decide) rfl (fun ls hl => ?_)
                        refine lv_goto (tgt := 59) hx hb dX3_best_114 (by decide) ?_
                        exact ih_59 _ _ _ _ _ _ _ _ _ _ _ _ _ _ _ _ _ _ _ _ _ _ ls hF hP hD hS (lv_sub hl [0, 2, 3, 4, 5, 6, 7, 8] rfl) kx_59
                      · have hF := br0 hF c_58
                        refine lv_iload hx hb dX3_best_100 (lv_at hl 0 rfl) ?_
                        refine lv_istore_n (lv' := [(3, .int r_51), (8, .int r_51), (7, .int k_27), (6, .int k_6), (5, .int k_28), (4, .int k_29), (0, .ref h0), (1, .int a0), (2, .int a1)]) hx hb dX3_best_102 rfl hl (by decide) rfl (fun ls hl => ?_)
                        refine lv_iload hx hb dX3_best_103 (lv_at hl 3 rfl) ?_
                        refine lv_istore (lv' := [(4, .int k_6), (3, .int r_51), (8, .int r_51), (7, .int k_27), (6, .int k_6), (5, .int k_28), (0, .ref h0), (1, .int a0), (2, .int a1)]) hx hb dX3_best_105 hl (by decide) rfl (fun ls hl => ?_)
                        refine lv_iload hx hb dX3_best_107 (lv_at hl 3 rfl) ?_
                        refine lv_istore (lv' := [(5, .int k_27), (4, .int k_6), (3, .int r_51), (8, .int r_51), (7, .int k_27), (6, .int k_6), (0, .ref h0), (1, .int a0), (2, .int a1)]) hx hb dX3_best_109 hl (by decide) rfl (fun ls hl => ?_)
                        refine lv_iinc (v := (k_27 + (1 : Int32))) (lv' := [(7, .int (k_27 + (1 : Int32))), (5, .int k_27), (4, .int k_6), (3, .int r_51), (8, .int r_51), (6, .int k_6), (0, .ref h0), (1, .int a0), (2, .int a1)]) hx hb dX3_best_111 hl (k := 4) rfl rfl (by decide) rfl (fun ls hl => ?_)
                        refine lv_goto (tgt := 59) hx hb dX3_best_114 (by decide) ?_
                        exact ih_59 _ _ _ _ _ _ _ _ _ _ _ _ _ _ _ _ _ _ _ _ _ _ ls hF hP hD hS (lv_sub hl [0, 5, 1, 2, 3, 6, 7, 8] rfl) kx_59
              refine lp_59 1000 (-12 : Int32) k_7 k_8 k_9 px_10 py_11 co_12 lx_13 ly_14 lf_15 o_37 o_38 o_39 o_40 o_41 o_42 o_43 o_44 o_45 o_46 _ _ ls hL_59 hP hD hS hl (fun H locs ls hP hD hS hl => ?_)
              refine lv_iinc (v := (k_6 + (1 : Int32))) (lv' := [(6, .int (k_6 + (1 : Int32))), (7, .int o_37), (5, .int o_38), (4, .int o_39), (3, .int o_40), (0, .ref h0), (1, .int a0), (2, .int a1)]) hx hb dX3_best_117 hl (k := 1) rfl rfl (by decide) rfl (fun ls hl => ?_)
              refine lv_goto (tgt := 48) hx hb dX3_best_120 (by decide) ?_
              exact ih_48 _ _ _ _ _ _ _ _ _ _ _ _ _ _ _ _ _ _ _ _ _ _ ls hF hP hD hS (lv_sub hl [0, 2, 3, 4, 5, 6, 7] rfl) kx_48
        refine lp_48 1000 (-12 : Int32) (0 : Int32) (0 : Int32) (-6 : Int32) px py co lx ly lf o_16 o_17 o_18 o_19 o_20 o_21 o_22 o_23 o_24 o_25 _ _ ls hL_48 hP hD hS hl (fun H locs ls hP hD hS hl => ?_)
        refine lv_iload_n hx hb dX3_best_123 rfl (lv_at hl 6 rfl) ?_
        refine lv_if_ne (tgt := 135) hx hb dX3_best_124 (by decide) (fun c_59 => ?_) (fun c_59 => ?_)
        · have hF := br0 hF c_59
          refine lv_iload_n hx hb dX3_best_135 rfl (lv_at hl 6 rfl) ?_
          refine lv_iconst (v := 1) hx hb dX3_best_136 (by decide) ?_
          refine lv_icmp_ne (tgt := 148) hx hb dX3_best_137 (by decide) (fun c_60 => ?_) (fun c_60 => ?_)
          · have hF := br0 hF c_60
            refine lv_iload_n hx hb dX3_best_148 rfl (lv_at hl 3 rfl) ?_
            obtain ⟨e0, rfl, rfl, rfl, rfl, rfl, rfl⟩ := tp7 hF
            rw [← hQ]
            exact W.iret (v := o_19) hx hb hr (fun t ht hW => ⟨⟨_, (), rfl, e0, by rw [ht]; exact hP, va_K.moved hW.alike hK, hD⟩, hS.F ht⟩) hS.2.2 dX3_best_149
          · have hF := br1 hF c_60
            refine lv_iload hx hb dX3_best_140 (lv_at hl 1 rfl) ?_
            refine lv_bipush (v := 100) hx hb dX3_best_142 (by decide) ?_
            refine lv_iadd hx hb dX3_best_144 ?_
            refine lv_goto (tgt := 149) hx hb dX3_best_145 (by decide) ?_
            obtain ⟨e0, rfl, rfl, rfl, rfl, rfl, rfl⟩ := tp7 hF
            rw [← hQ]
            exact W.iret (v := (o_17 + (100 : Int32))) hx hb hr (fun t ht hW => ⟨⟨_, (), rfl, e0, by rw [ht]; exact hP, va_K.moved hW.alike hK, hD⟩, hS.F ht⟩) hS.2.2 dX3_best_149
        · have hF := br1 hF c_59
          refine lv_iload hx hb dX3_best_127 (lv_at hl 2 rfl) ?_
          refine lv_bipush (v := 100) hx hb dX3_best_129 (by decide) ?_
          refine lv_iadd hx hb dX3_best_131 ?_
          refine lv_goto (tgt := 149) hx hb dX3_best_132 (by decide) ?_
          obtain ⟨e0, rfl, rfl, rfl, rfl, rfl, rfl⟩ := tp7 hF
          rw [← hQ]
          exact W.iret (v := (o_18 + (100 : Int32))) hx hb hr (fun t ht hW => ⟨⟨_, (), rfl, e0, by rw [ht]; exact hP, va_K.moved hW.alike hK, hD⟩, hS.F ht⟩) hS.2.2 dX3_best_149
      · have hF := br1 hF c_5
        refine lv_bipush (v := -6) hx hb dX3_best_32 (by decide) ?_
        obtain ⟨e0, rfl, rfl, rfl, rfl, rfl, rfl⟩ := tp7 hF
        rw [← hQ]
        exact W.iret (v := (-6 : Int32)) hx hb hr (fun t ht hW => ⟨⟨_, (), rfl, e0, by rw [ht]; exact hP, va_K.moved hW.alike hK, hD⟩, hS.F ht⟩) hS.2.2 dX3_best_34
    · have hF := br1 hF c_4
      refine lv_bipush (v := -2) hx hb dX3_best_18 (by decide) ?_
      obtain ⟨e0, rfl, rfl, rfl, rfl, rfl, rfl⟩ := tp7 hF
      rw [← hQ]
      exact W.iret (v := (-2 : Int32)) hx hb hr (fun t ht hW => ⟨⟨_, (), rfl, e0, by rw [ht]; exact hP, va_K.moved hW.alike hK, hD⟩, hS.F ht⟩) hS.2.2 dX3_best_20
  · have hF := br1 hF c_2
    refine lv_iconst (v := -1) hx hb dX3_best_7 (by decide) ?_
    obtain ⟨e0, rfl, rfl, rfl, rfl, rfl, rfl⟩ := tp7 hF
    rw [← hQ]
    exact W.iret (v := (-1 : Int32)) hx hb hr (fun t ht hW => ⟨⟨_, (), rfl, e0, by rw [ht]; exact hP, va_K.moved hW.alike hK, hD⟩, hS.F ht⟩) hS.2.2 dX3_best_8

def L_X3_same_21 (st : Nat → Int32) (a0 : Int32) (a1 : Int32) : Nat → Int32 → Int32 → (Nat → Int64) → (Nat → Int64) → Int32 → (Nat → Int64) → (Nat → Int64) → Int32 → Option (Int32 × Int32 × (Nat → Int64) × (Nat → Int64) × Int32 × (Nat → Int64) × (Nat → Int64) × Int32)
  | 0, _, _, _, _, _, _, _, _ => none
  | n + 1, k_5, k_6, px_7, py_8, co_9, lx_10, ly_11, lf_12 =>
    if (16 : Int32) ≤ k_5 then
      some (k_5, k_6, px_7, py_8, co_9, lx_10, ly_11, lf_12)
    else
      bd7 (P_X3_coverOf a0 k_5 st px_7 py_8 lx_10 ly_11) (fun r_22 px_23 py_24 co_25 lx_26 ly_27 lf_28 =>
      bd7 (P_X3_coverOf a1 k_5 st px_23 py_24 lx_26 ly_27) (fun r_29 px_30 py_31 co_32 lx_33 ly_34 lf_35 =>
      if r_22 = r_29 then
        nm (k_6 ||| ((1 : Int32) <<< (k_5 &&& 31))) (fun v_38 =>
        L_X3_same_21 st a0 a1 n (k_5 + (1 : Int32)) v_38 px_30 py_31 co_32 lx_33 ly_34 lf_35)
      else
        nm (k_6 ||| (0 : Int32)) (fun v_37 =>
        L_X3_same_21 st a0 a1 n (k_5 + (1 : Int32)) v_37 px_30 py_31 co_32 lx_33 ly_34 lf_35)))
theorem L_X3_same_21_s (st : Nat → Int32) (a0 : Int32) (a1 : Int32) (n : Nat) (k_5 : Int32) (k_6 : Int32) (px_7 : Nat → Int64) (py_8 : Nat → Int64) (co_9 : Int32) (lx_10 : Nat → Int64) (ly_11 : Nat → Int64) (lf_12 : Int32) : L_X3_same_21 st a0 a1 (n + 1) k_5 k_6 px_7 py_8 co_9 lx_10 ly_11 lf_12 =
    (if (16 : Int32) ≤ k_5 then
      some (k_5, k_6, px_7, py_8, co_9, lx_10, ly_11, lf_12)
    else
      bd7 (P_X3_coverOf a0 k_5 st px_7 py_8 lx_10 ly_11) (fun r_22 px_23 py_24 co_25 lx_26 ly_27 lf_28 =>
      bd7 (P_X3_coverOf a1 k_5 st px_23 py_24 lx_26 ly_27) (fun r_29 px_30 py_31 co_32 lx_33 ly_34 lf_35 =>
      if r_22 = r_29 then
        nm (k_6 ||| ((1 : Int32) <<< (k_5 &&& 31))) (fun v_38 =>
        L_X3_same_21 st a0 a1 n (k_5 + (1 : Int32)) v_38 px_30 py_31 co_32 lx_33 ly_34 lf_35)
      else
        nm (k_6 ||| (0 : Int32)) (fun v_37 =>
        L_X3_same_21 st a0 a1 n (k_5 + (1 : Int32)) v_37 px_30 py_31 co_32 lx_33 ly_34 lf_35)))) := rfl

def P_X3_same (a0 : Int32) (a1 : Int32) (st : Nat → Int32) (px : Nat → Int64) (py : Nat → Int64) (co : Int32) (lx : Nat → Int64) (ly : Nat → Int64) (lf : Int32) : Option (Int32 × (Nat → Int64) × (Nat → Int64) × Int32 × (Nat → Int64) × (Nat → Int64) × Int32) :=
  bd1 (P_X3_isLayer a0) (fun r_1 =>
  if r_1 = (0 : Int32) then
    some ((-1 : Int32), px, py, co, lx, ly, lf)
  else
    bd1 (P_X3_isLayer a1) (fun r_3 =>
    if r_3 = (0 : Int32) then
      some ((-1 : Int32), px, py, co, lx, ly, lf)
    else
      bd8 (L_X3_same_21 st a0 a1 1000 (0 : Int32) (0 : Int32) px py co lx ly lf) (fun o_13 o_14 o_15 o_16 o_17 o_18 o_19 o_20 =>
      some (o_14, o_15, o_16, o_17, o_18, o_19, o_20))))

def rm_X3_same : Room := { frames := 6, cells := 0, slots := 0, locals := 156 }

set_option maxHeartbeats 4000000 in
set_option maxRecDepth 100000 in
theorem c_X3_same (l : Launch) (dC : Nat → ClassId) (dI : Nat → Nat → Nat) (h0 ast aim akp awx awy apx apy alx aly : Nat) (cI cZ cJ : ClassId) (hsz0 : Nat) (st : Nat → Int32) (im : Nat → Int32) (kp : Nat → Int32) (wx : Nat → Int32) (wy : Nat → Int32) (px : Nat → Int64) (py : Nat → Int64) (co : Int32) (lx : Nat → Int64) (ly : Nat → Int64) (lf : Int32) (a0 : Int32) (a1 : Int32) (r0 : Int32) (pxN : Nat → Int64) (pyN : Nat → Int64) (coN : Int32) (lxN : Nat → Int64) (lyN : Nat → Int64) (lfN : Int32) (hF : P_X3_same a0 a1 st px py co lx ly lf = some (r0, pxN, pyN, coN, lxN, lyN, lfN)) : Met l yX3_same wsX3_same rm_X3_same (va_Pc [.ref h0, .int a0, .int a1] (fun U => U.heap.size = hsz0 ∧ va_P (dC, dI) vwCl [(h0, .inr (3, [.ref ast, .ref aim, .ref akp, .ref awx, .ref awy, .ref apx, .ref apy, .int co, .ref alx, .ref aly, .int lf])), (ast, .inl (cI, 54, .inl st)), (aim, .inl (cI, 108, .inl im)), (akp, .inl (cZ, 2, .inl kp)), (awx, .inl (cI, 8, .inl wx)), (awy, .inl (cI, 8, .inl wy)), (apx, .inl (cJ, 300, .inr (.inl px))), (apy, .inl (cJ, 300, .inr (.inl py))), (alx, .inl (cJ, 300, .inr (.inl lx))), (aly, .inl (cJ, 300, .inr (.inl ly)))] U.heap ∧ va_K (dC, dI) vwCl [(cI, .int), (cZ, .boolean), (cJ, .long)] U ∧ va_D (fun _ => True) [(h0, .inr (3, [.ref ast, .ref aim, .ref akp, .ref awx, .ref awy, .ref apx, .ref apy, .int co, .ref alx, .ref aly, .int lf])), (ast, .inl (cI, 54, .inl st)), (aim, .inl (cI, 108, .inl im)), (akp, .inl (cZ, 2, .inl kp)), (awx, .inl (cI, 8, .inl wx)), (awy, .inl (cI, 8, .inl wy)), (apx, .inl (cJ, 300, .inr (.inl px))), (apy, .inl (cJ, 300, .inr (.inl py))), (alx, .inl (cJ, 300, .inr (.inl lx))), (aly, .inl (cJ, 300, .inr (.inl ly)))])) (va_Qi (fun (r : Int32) (_ : Unit) => r = r0) (fun _ t => va_P (dC, dI) vwCl [(h0, .inr (3, [.ref ast, .ref aim, .ref akp, .ref awx, .ref awy, .ref apx, .ref apy, .int coN, .ref alx, .ref aly, .int lfN])), (ast, .inl (cI, 54, .inl st)), (aim, .inl (cI, 108, .inl im)), (akp, .inl (cZ, 2, .inl kp)), (awx, .inl (cI, 8, .inl wx)), (awy, .inl (cI, 8, .inl wy)), (apx, .inl (cJ, 300, .inr (.inl pxN))), (apy, .inl (cJ, 300, .inr (.inl pyN))), (alx, .inl (cJ, 300, .inr (.inl lxN))), (aly, .inl (cJ, 300, .inr (.inl lyN)))] t.heap ∧ va_K (dC, dI) vwCl [(cI, .int), (cZ, .boolean), (cJ, .long)] t ∧ va_D (va_A [(h0, .inr (3, [.ref ast, .ref aim, .ref akp, .ref awx, .ref awy, .ref apx, .ref apy, .int co, .ref alx, .ref aly, .int lf])), (ast, .inl (cI, 54, .inl st)), (aim, .inl (cI, 108, .inl im)), (akp, .inl (cZ, 2, .inl kp)), (awx, .inl (cI, 8, .inl wx)), (awy, .inl (cI, 8, .inl wy)), (apx, .inl (cJ, 300, .inr (.inl px))), (apy, .inl (cJ, 300, .inr (.inl py))), (alx, .inl (cJ, 300, .inr (.inl lx))), (aly, .inl (cJ, 300, .inr (.inl ly)))] hsz0) [(h0, .inr (3, [.ref ast, .ref aim, .ref akp, .ref awx, .ref awy, .ref apx, .ref apy, .int coN, .ref alx, .ref aly, .int lfN])), (ast, .inl (cI, 54, .inl st)), (aim, .inl (cI, 108, .inl im)), (akp, .inl (cZ, 2, .inl kp)), (awx, .inl (cI, 8, .inl wx)), (awy, .inl (cI, 8, .inl wy)), (apx, .inl (cJ, 300, .inr (.inl pxN))), (apy, .inl (cJ, 300, .inr (.inl pyN))), (alx, .inl (cJ, 300, .inr (.inl lxN))), (aly, .inl (cJ, 300, .inr (.inl lyN)))]) (va_A [(h0, .inr (3, [.ref ast, .ref aim, .ref akp, .ref awx, .ref awy, .ref apx, .ref apy, .int co, .ref alx, .ref aly, .int lf])), (ast, .inl (cI, 54, .inl st)), (aim, .inl (cI, 108, .inl im)), (akp, .inl (cZ, 2, .inl kp)), (awx, .inl (cI, 8, .inl wx)), (awy, .inl (cI, 8, .inl wy)), (apx, .inl (cJ, 300, .inr (.inl px))), (apy, .inl (cJ, 300, .inr (.inl py))), (alx, .inl (cJ, 300, .inr (.inl lx))), (aly, .inl (cJ, 300, .inr (.inl ly)))] hsz0)) 0 0 (va_A [(h0, .inr (3, [.ref ast, .ref aim, .ref akp, .ref awx, .ref awy, .ref apx, .ref apy, .int co, .ref alx, .ref aly, .int lf])), (ast, .inl (cI, 54, .inl st)), (aim, .inl (cI, 108, .inl im)), (akp, .inl (cZ, 2, .inl kp)), (awx, .inl (cI, 8, .inl wx)), (awy, .inl (cI, 8, .inl wy)), (apx, .inl (cJ, 300, .inr (.inl px))), (apy, .inl (cJ, 300, .inr (.inl py))), (alx, .inl (cJ, 300, .inr (.inl lx))), (aly, .inl (cJ, 300, .inr (.inl ly)))] hsz0) := by
  refine Met.ofW (cc := cX3_same) (maxL := 5) (ret := (some .int)) (by decide) rfl ?_
  intro p e s m args below meth c s₁ B hml hv
  change W p l e rm_X3_same s m args below meth c s.heap [] 0 0 _ _
  obtain ⟨hv, hsz, hP, hK, hD0⟩ := hv
  have hx := B.exec
  have hb := B.bytes
  have hr := B.returns
  have hts := atoms_spec (ws := wsX3_same) B.pre
  have hown : s.vm.findClass RX3 = some m.cls := findClass_of_methodNamed B.named
  have hlocks := B.notSynchronized
  subst hsz
  have hD := hD0.self (sz := s.heap.size)
  generalize hAe : va_A [(h0, .inr (3, [.ref ast, .ref aim, .ref akp, .ref awx, .ref awy, .ref apx, .ref apy, .int co, .ref alx, .ref aly, .int lf])), (ast, .inl (cI, 54, .inl st)), (aim, .inl (cI, 108, .inl im)), (akp, .inl (cZ, 2, .inl kp)), (awx, .inl (cI, 8, .inl wx)), (awy, .inl (cI, 8, .inl wy)), (apx, .inl (cJ, 300, .inr (.inl px))), (apy, .inl (cJ, 300, .inr (.inl py))), (alx, .inl (cJ, 300, .inr (.inl lx))), (aly, .inl (cJ, 300, .inr (.inl ly)))] s.heap.size = A at hD ⊢
  have hA : ∀ q : Nat, s.heap.size ≤ q → A q := fun q h => by rw [← hAe]; exact Or.inr h
  have hS : va_S A s.heap s.heap [] := va_S.rf
  generalize hQ : MQ below (va_Qi (fun (r : Int32) (_ : Unit) => r = r0) (fun _ t => va_P (dC, dI) vwCl [(h0, .inr (3, [.ref ast, .ref aim, .ref akp, .ref awx, .ref awy, .ref apx, .ref apy, .int coN, .ref alx, .ref aly, .int lfN])), (ast, .inl (cI, 54, .inl st)), (aim, .inl (cI, 108, .inl im)), (akp, .inl (cZ, 2, .inl kp)), (awx, .inl (cI, 8, .inl wx)), (awy, .inl (cI, 8, .inl wy)), (apx, .inl (cJ, 300, .inr (.inl pxN))), (apy, .inl (cJ, 300, .inr (.inl pyN))), (alx, .inl (cJ, 300, .inr (.inl lxN))), (aly, .inl (cJ, 300, .inr (.inl lyN)))] t.heap ∧ va_K (dC, dI) vwCl [(cI, .int), (cZ, .boolean), (cJ, .long)] t ∧ va_D A [(h0, .inr (3, [.ref ast, .ref aim, .ref akp, .ref awx, .ref awy, .ref apx, .ref apy, .int coN, .ref alx, .ref aly, .int lfN])), (ast, .inl (cI, 54, .inl st)), (aim, .inl (cI, 108, .inl im)), (akp, .inl (cZ, 2, .inl kp)), (awx, .inl (cI, 8, .inl wx)), (awy, .inl (cI, 8, .inl wy)), (apx, .inl (cJ, 300, .inr (.inl pxN))), (apy, .inl (cJ, 300, .inr (.inl pyN))), (alx, .inl (cJ, 300, .inr (.inl lxN))), (aly, .inl (cJ, 300, .inr (.inl lyN)))]) A) args s 0 0 A = Q
  have hl := lv_entry ([.ref h0, .int a0, .int a1]) (n := 5) (Nat.le_of_ble_eq_true rfl)
  have hE : entryFrame m args 5 = F0 m 0 ((lg_sl ([.ref h0, .int a0, .int a1]) ++ List.replicate (5 - (lg_sl ([.ref h0, .int a0, .int a1])).length) Slot.unset).toArray) [] := by rw [hv]; exact lg_entry_eq m _ 5
  rw [hE]
  generalize (lg_sl ([.ref h0, .int a0, .int a1]) ++ List.replicate (5 - (lg_sl ([.ref h0, .int a0, .int a1])).length) Slot.unset).toArray = ls at hl ⊢
  have hl : lv_has ls 5 [(0, .ref h0), (1, .int a0), (2, .int a1)] := hl
  unfold P_X3_same at hF
  refine lv_iload_n hx hb dX3_same_0 rfl (lv_at hl 1 rfl) ?_
  obtain ⟨r_1, hr_1, hF⟩ := bd1_u hF
  refine vp_callSi (W.runS (As := [.int a0]) (rest := []) ⟨hx, hb, hml, hown, hts⟩ (c_X3_isLayer l a0 r_1 hr_1) (va_cwS 1 hts gX3_same_X3_isLayer rfl rfl rfl (by decide +kernel) ⟨Nat.le_of_ble_eq_true rfl, Nat.le_of_ble_eq_true rfl⟩) preEq rfl rfl hl.1 rfl (lv_room (Nat.le_of_ble_eq_true rfl)) dX3_same_1 ⟨Nat.le_of_ble_eq_true rfl, Nat.le_of_ble_eq_true rfl⟩) (fun r_1' qr_1 => ?_)
  obtain rfl := qr_1.symm
  refine lv_if_eq (tgt := 14) hx hb dX3_same_4 (by decide) (fun c_2 => ?_) (fun c_2 => ?_)
  · have hF := br1 hF c_2
    refine lv_iconst (v := -1) hx hb dX3_same_14 (by decide) ?_
    obtain ⟨e0, rfl, rfl, rfl, rfl, rfl, rfl⟩ := tp7 hF
    rw [← hQ]
    exact W.iret (v := (-1 : Int32)) hx hb hr (fun t ht hW => ⟨⟨_, (), rfl, e0, by rw [ht]; exact hP, va_K.moved hW.alike hK, hD⟩, hS.F ht⟩) hS.2.2 dX3_same_15
  · have hF := br0 hF c_2
    refine lv_iload_n hx hb dX3_same_7 rfl (lv_at hl 2 rfl) ?_
    obtain ⟨r_3, hr_3, hF⟩ := bd1_u hF
    refine vp_callSi (W.runS (As := [.int a1]) (rest := []) ⟨hx, hb, hml, hown, hts⟩ (c_X3_isLayer l a1 r_3 hr_3) (va_cwS 1 hts gX3_same_X3_isLayer rfl rfl rfl (by decide +kernel) ⟨Nat.le_of_ble_eq_true rfl, Nat.le_of_ble_eq_true rfl⟩) preEq rfl rfl hl.1 rfl (lv_room (Nat.le_of_ble_eq_true rfl)) dX3_same_8 ⟨Nat.le_of_ble_eq_true rfl, Nat.le_of_ble_eq_true rfl⟩) (fun r_3' qr_3 => ?_)
    obtain rfl := qr_3.symm
    refine lv_if_ne (tgt := 16) hx hb dX3_same_11 (by decide) (fun c_4 => ?_) (fun c_4 => ?_)
    · have hF := br0 hF c_4
      refine lv_iconst (v := 0) hx hb dX3_same_16 (by decide) ?_
      refine lv_istore_n (lv' := [(3, .int (0 : Int32)), (0, .ref h0), (1, .int a0), (2, .int a1)]) hx hb dX3_same_17 rfl hl (by decide) rfl (fun ls hl => ?_)
      refine lv_iconst (v := 0) hx hb dX3_same_18 (by decide) ?_
      refine lv_istore (lv' := [(4, .int (0 : Int32)), (3, .int (0 : Int32)), (0, .ref h0), (1, .int a0), (2, .int a1)]) hx hb dX3_same_19 hl (by decide) rfl (fun ls hl => ?_)
      obtain ⟨o_13, o_14, o_15, o_16, o_17, o_18, o_19, o_20, hL_21, hF⟩ := bd8_u hF
      have lp_21 : ∀ (n : Nat) (k_5 : Int32) (k_6 : Int32) (px_7 : Nat → Int64) (py_8 : Nat → Int64) (co_9 : Int32) (lx_10 : Nat → Int64) (ly_11 : Nat → Int64) (lf_12 : Int32) (o_13 : Int32) (o_14 : Int32) (o_15 : Nat → Int64) (o_16 : Nat → Int64) (o_17 : Int32) (o_18 : Nat → Int64) (o_19 : Nat → Int64) (o_20 : Int32) (H : Heap) (locs : List Loc) (ls : Array Slot), L_X3_same_21 st a0 a1 n k_5 k_6 px_7 py_8 co_9 lx_10 ly_11 lf_12 = some (o_13, o_14, o_15, o_16, o_17, o_18, o_19, o_20) → va_P (dC, dI) vwCl [(h0, .inr (3, [.ref ast, .ref aim, .ref akp, .ref awx, .ref awy, .ref apx, .ref apy, .int co_9, .ref alx, .ref aly, .int lf_12])), (ast, .inl (cI, 54, .inl st)), (aim, .inl (cI, 108, .inl im)), (akp, .inl (cZ, 2, .inl kp)), (awx, .inl (cI, 8, .inl wx)), (awy, .inl (cI, 8, .inl wy)), (apx, .inl (cJ, 300, .inr (.inl px_7))), (apy, .inl (cJ, 300, .inr (.inl py_8))), (alx, .inl (cJ, 300, .inr (.inl lx_10))), (aly, .inl (cJ, 300, .inr (.inl ly_11)))] H → va_D A [(h0, .inr (3, [.ref ast, .ref aim, .ref akp, .ref awx, .ref awy, .ref apx, .ref apy, .int co_9, .ref alx, .ref aly, .int lf_12])), (ast, .inl (cI, 54, .inl st)), (aim, .inl (cI, 108, .inl im)), (akp, .inl (cZ, 2, .inl kp)), (awx, .inl (cI, 8, .inl wx)), (awy, .inl (cI, 8, .inl wy)), (apx, .inl (cJ, 300, .inr (.inl px_7))), (apy, .inl (cJ, 300, .inr (.inl py_8))), (alx, .inl (cJ, 300, .inr (.inl lx_10))), (aly, .inl (cJ, 300, .inr (.inl ly_11)))] → va_S A s.heap H locs → lv_has ls 5 [(4, .int k_5), (3, .int k_6), (0, .ref h0), (1, .int a0), (2, .int a1)] → (∀ (H : Heap) (locs : List Loc) (ls : Array Slot), va_P (dC, dI) vwCl [(h0, .inr (3, [.ref ast, .ref aim, .ref akp, .ref awx, .ref awy, .ref apx, .ref apy, .int o_17, .ref alx, .ref aly, .int o_20])), (ast, .inl (cI, 54, .inl st)), (aim, .inl (cI, 108, .inl im)), (akp, .inl (cZ, 2, .inl kp)), (awx, .inl (cI, 8, .inl wx)), (awy, .inl (cI, 8, .inl wy)), (apx, .inl (cJ, 300, .inr (.inl o_15))), (apy, .inl (cJ, 300, .inr (.inl o_16))), (alx, .inl (cJ, 300, .inr (.inl o_18))), (aly, .inl (cJ, 300, .inr (.inl o_19)))] H → va_D A [(h0, .inr (3, [.ref ast, .ref aim, .ref akp, .ref awx, .ref awy, .ref apx, .ref apy, .int o_17, .ref alx, .ref aly, .int o_20])), (ast, .inl (cI, 54, .inl st)), (aim, .inl (cI, 108, .inl im)), (akp, .inl (cZ, 2, .inl kp)), (awx, .inl (cI, 8, .inl wx)), (awy, .inl (cI, 8, .inl wy)), (apx, .inl (cJ, 300, .inr (.inl o_15))), (apy, .inl (cJ, 300, .inr (.inl o_16))), (alx, .inl (cJ, 300, .inr (.inl o_18))), (aly, .inl (cJ, 300, .inr (.inl o_19)))] → va_S A s.heap H locs → lv_has ls 5 [(4, .int o_13), (3, .int o_14), (0, .ref h0), (1, .int a0), (2, .int a1)] → W p l e rm_X3_same s m args below meth c H locs 0 0 Q (F0 m 63 ls [])) → W p l e rm_X3_same s m args below meth c H locs 0 0 Q (F0 m 21 ls []) := by
        intro n
        induction n with
        | zero =>
          intro k_5 k_6 px_7 py_8 co_9 lx_10 ly_11 lf_12 o_13 o_14 o_15 o_16 o_17 o_18 o_19 o_20 H locs ls hF
          exact nn ((rfl : L_X3_same_21 st a0 a1 0 k_5 k_6 px_7 py_8 co_9 lx_10 ly_11 lf_12 = none).symm.trans hF)
        | succ n ih_21 =>
          intro k_5 k_6 px_7 py_8 co_9 lx_10 ly_11 lf_12 o_13 o_14 o_15 o_16 o_17 o_18 o_19 o_20 H locs ls hF hP hD hS hl kx_21
          have hF := (L_X3_same_21_s st a0 a1 n k_5 k_6 px_7 py_8 co_9 lx_10 ly_11 lf_12).symm.trans hF
          refine lv_iload hx hb dX3_same_21 (lv_at hl 0 rfl) ?_
          refine lv_bipush (v := 16) hx hb dX3_same_23 (by decide) ?_
          refine lv_icmp_ge (tgt := 63) hx hb dX3_same_25 (by decide) (fun c_21 => ?_) (fun c_21 => ?_)
          · have hF := br1 hF c_21
            obtain ⟨rfl, rfl, rfl, rfl, rfl, rfl, rfl, rfl⟩ := tp8 hF
            exact kx_21 _ _ ls hP hD hS hl
          · have hF := br0 hF c_21
            refine lv_iload_n hx hb dX3_same_28 rfl (lv_at hl 1 rfl) ?_
            refine lv_aload_n hx hb dX3_same_29 rfl (lv_at hl 2 rfl) ?_
            refine lv_iload_n hx hb dX3_same_30 rfl (lv_at hl 3 rfl) ?_
            refine lv_iload hx hb dX3_same_31 (lv_at hl 0 rfl) ?_
            obtain ⟨r_22, px_23, py_24, co_25, lx_26, ly_27, lf_28, hr_28, hF⟩ := bd7_u hF
            have hPc := hP.sub (ws' := [(h0, .inr (3, [.ref ast, .ref aim, .ref akp, .ref awx, .ref awy, .ref apx, .ref apy, .int co_9, .ref alx, .ref aly, .int lf_12])), (ast, .inl (cI, 54, .inl st)), (aim, .inl (cI, 108, .inl im)), (akp, .inl (cZ, 2, .inl kp)), (awx, .inl (cI, 8, .inl wx)), (awy, .inl (cI, 8, .inl wy)), (apx, .inl (cJ, 300, .inr (.inl px_7))), (apy, .inl (cJ, 300, .inr (.inl py_8))), (alx, .inl (cJ, 300, .inr (.inl lx_10))), (aly, .inl (cJ, 300, .inr (.inl ly_11)))]) [0, 1, 2, 3, 4, 5, 6, 7, 8, 9] rfl
            have hKc := hK.sub (tys' := [(cI, .int), (cZ, .boolean), (cJ, .long)]) [0, 1, 2] rfl
            have hDc := hD.sub (ws' := [(h0, .inr (3, [.ref ast, .ref aim, .ref akp, .ref awx, .ref awy, .ref apx, .ref apy, .int co_9, .ref alx, .ref aly, .int lf_12])), (ast, .inl (cI, 54, .inl st)), (aim, .inl (cI, 108, .inl im)), (akp, .inl (cZ, 2, .inl kp)), (awx, .inl (cI, 8, .inl wx)), (awy, .inl (cI, 8, .inl wy)), (apx, .inl (cJ, 300, .inr (.inl px_7))), (apy, .inl (cJ, 300, .inr (.inl py_8))), (alx, .inl (cJ, 300, .inr (.inl lx_10))), (aly, .inl (cJ, 300, .inr (.inl ly_11)))]) [0, 1, 2, 3, 4, 5, 6, 7, 8, 9] (by decide) rfl
            have hFc := va_free (wc := [(h0, .inr (3, [.ref ast, .ref aim, .ref akp, .ref awx, .ref awy, .ref apx, .ref apy, .int co_9, .ref alx, .ref aly, .int lf_12])), (ast, .inl (cI, 54, .inl st)), (aim, .inl (cI, 108, .inl im)), (akp, .inl (cZ, 2, .inl kp)), (awx, .inl (cI, 8, .inl wx)), (awy, .inl (cI, 8, .inl wy)), (apx, .inl (cJ, 300, .inr (.inl px_7))), (apy, .inl (cJ, 300, .inr (.inl py_8))), (alx, .inl (cJ, 300, .inr (.inl lx_10))), (aly, .inl (cJ, 300, .inr (.inl ly_11)))]) hD hS hA [0, 1, 2, 3, 4, 5, 6, 7, 8, 9] rfl
            refine va_calll (va_runV (As := [.int a0, .int k_5]) (rest := [.int k_6]) ⟨hx, hb, hml, hown, hts⟩ (c_X3_coverOf l dC dI h0 ast aim akp awx awy apx apy alx aly cI cZ cJ H.size st im kp wx wy px_7 py_8 co_9 lx_10 ly_11 lf_12 a0 k_5 r_22 px_23 py_24 co_25 lx_26 ly_27 lf_28 hr_28) (cwV 2 hts gX3_same_X3_coverOf rfl rfl rfl (by decide +kernel) ⟨Nat.le_of_ble_eq_true rfl, Nat.le_of_ble_eq_true rfl⟩) ⟨fun a U g mk q => ⟨q.1, q.2.1, q.2.2.1, va_K.moved (u := U) (U := U.calling g mk a) (Vm.Alike.refl U.vm) q.2.2.2.1, q.2.2.2.2⟩, va_recv hKc hPc (ci := 3) (q0 := 0) rfl rfl, fun U hU hW => ⟨rfl, by rw [hU], by rw [hU]; exact hPc, va_K.moved hW.alike hKc, hDc.weaken (fun _ _ _ _ => trivial)⟩⟩ rfl rfl hl.1 rfl (lv_room (Nat.le_of_ble_eq_true rfl)) dX3_same_33 ⟨Nat.le_of_ble_eq_true rfl, Nat.le_of_ble_eq_true rfl⟩) hS (fun q _ h => hFc q h) hFc (fun r_22' _ t H1 locs ht hvm hw hB hz1 hk1 hS => ?_)
            obtain ⟨hP1, hK1, hD1⟩ := hB
            rw [ht] at hP1
            obtain rfl := hw.symm
            obtain ⟨hP, hD⟩ := va_join (wr := []) (w1 := [(h0, .inr (3, [.ref ast, .ref aim, .ref akp, .ref awx, .ref awy, .ref apx, .ref apy, .int co_25, .ref alx, .ref aly, .int lf_28])), (ast, .inl (cI, 54, .inl st)), (aim, .inl (cI, 108, .inl im)), (akp, .inl (cZ, 2, .inl kp)), (awx, .inl (cI, 8, .inl wx)), (awy, .inl (cI, 8, .inl wy)), (apx, .inl (cJ, 300, .inr (.inl px_23))), (apy, .inl (cJ, 300, .inr (.inl py_24))), (alx, .inl (cJ, 300, .inr (.inl lx_26))), (aly, .inl (cJ, 300, .inr (.inl ly_27)))]) hP hD [0, 1, 2, 3, 4, 5, 6, 7, 8, 9] [] rfl rfl (by decide) (by decide) hk1 hFc hP1 hD1
            clear hP1 hK1 hD1 hk1 hFc
            generalize H1 = H at hP hS ⊢
            have hP : va_P (dC, dI) vwCl [(h0, .inr (3, [.ref ast, .ref aim, .ref akp, .ref awx, .ref awy, .ref apx, .ref apy, .int co_25, .ref alx, .ref aly, .int lf_28])), (ast, .inl (cI, 54, .inl st)), (aim, .inl (cI, 108, .inl im)), (akp, .inl (cZ, 2, .inl kp)), (awx, .inl (cI, 8, .inl wx)), (awy, .inl (cI, 8, .inl wy)), (apx, .inl (cJ, 300, .inr (.inl px_23))), (apy, .inl (cJ, 300, .inr (.inl py_24))), (alx, .inl (cJ, 300, .inr (.inl lx_26))), (aly, .inl (cJ, 300, .inr (.inl ly_27)))] H := hP
            have hD : va_D A [(h0, .inr (3, [.ref ast, .ref aim, .ref akp, .ref awx, .ref awy, .ref apx, .ref apy, .int co_25, .ref alx, .ref aly, .int lf_28])), (ast, .inl (cI, 54, .inl st)), (aim, .inl (cI, 108, .inl im)), (akp, .inl (cZ, 2, .inl kp)), (awx, .inl (cI, 8, .inl wx)), (awy, .inl (cI, 8, .inl wy)), (apx, .inl (cJ, 300, .inr (.inl px_23))), (apy, .inl (cJ, 300, .inr (.inl py_24))), (alx, .inl (cJ, 300, .inr (.inl lx_26))), (aly, .inl (cJ, 300, .inr (.inl ly_27)))] := hD
            refine lv_aload_n hx hb dX3_same_36 rfl (lv_at hl 2 rfl) ?_
            refine lv_iload_n hx hb dX3_same_37 rfl (lv_at hl 4 rfl) ?_
            refine lv_iload hx hb dX3_same_38 (lv_at hl 0 rfl) ?_
            obtain ⟨r_29, px_30, py_31, co_32, lx_33, ly_34, lf_35, hr_35, hF⟩ := bd7_u hF
            have hPc := hP.sub (ws' := [(h0, .inr (3, [.ref ast, .ref aim, .ref akp, .ref awx, .ref awy, .ref apx, .ref apy, .int co_25, .ref alx, .ref aly, .int lf_28])), (ast, .inl (cI, 54, .inl st)), (aim, .inl (cI, 108, .inl im)), (akp, .inl (cZ, 2, .inl kp)), (awx, .inl (cI, 8, .inl wx)), (awy, .inl (cI, 8, .inl wy)), (apx, .inl (cJ, 300, .inr (.inl px_23))), (apy, .inl (cJ, 300, .inr (.inl py_24))), (alx, .inl (cJ, 300, .inr (.inl lx_26))), (aly, .inl (cJ, 300, .inr (.inl ly_27)))]) [0, 1, 2, 3, 4, 5, 6, 7, 8, 9] rfl
            have hKc := hK.sub (tys' := [(cI, .int), (cZ, .boolean), (cJ, .long)]) [0, 1, 2] rfl
            have hDc := hD.sub (ws' := [(h0, .inr (3, [.ref ast, .ref aim, .ref akp, .ref awx, .ref awy, .ref apx, .ref apy, .int co_25, .ref alx, .ref aly, .int lf_28])), (ast, .inl (cI, 54, .inl st)), (aim, .inl (cI, 108, .inl im)), (akp, .inl (cZ, 2, .inl kp)), (awx, .inl (cI, 8, .inl wx)), (awy, .inl (cI, 8, .inl wy)), (apx, .inl (cJ, 300, .inr (.inl px_23))), (apy, .inl (cJ, 300, .inr (.inl py_24))), (alx, .inl (cJ, 300, .inr (.inl lx_26))), (aly, .inl (cJ, 300, .inr (.inl ly_27)))]) [0, 1, 2, 3, 4, 5, 6, 7, 8, 9] (by decide) rfl
            have hFc := va_free (wc := [(h0, .inr (3, [.ref ast, .ref aim, .ref akp, .ref awx, .ref awy, .ref apx, .ref apy, .int co_25, .ref alx, .ref aly, .int lf_28])), (ast, .inl (cI, 54, .inl st)), (aim, .inl (cI, 108, .inl im)), (akp, .inl (cZ, 2, .inl kp)), (awx, .inl (cI, 8, .inl wx)), (awy, .inl (cI, 8, .inl wy)), (apx, .inl (cJ, 300, .inr (.inl px_23))), (apy, .inl (cJ, 300, .inr (.inl py_24))), (alx, .inl (cJ, 300, .inr (.inl lx_26))), (aly, .inl (cJ, 300, .inr (.inl ly_27)))]) hD hS hA [0, 1, 2, 3, 4, 5, 6, 7, 8, 9] rfl
            refine va_calll (va_runV (As := [.int a1, .int k_5]) (rest := [.long r_22, .int k_6]) ⟨hx, hb, hml, hown, hts⟩ (c_X3_coverOf l dC dI h0 ast aim akp awx awy apx apy alx aly cI cZ cJ H.size st im kp wx wy px_23 py_24 co_25 lx_26 ly_27 lf_28 a1 k_5 r_29 px_30 py_31 co_32 lx_33 ly_34 lf_35 hr_35) (cwV 2 hts gX3_same_X3_coverOf rfl rfl rfl (by decide +kernel) ⟨Nat.le_of_ble_eq_true rfl, Nat.le_of_ble_eq_true rfl⟩) ⟨fun a U g mk q => ⟨q.1, q.2.1, q.2.2.1, va_K.moved (u := U) (U := U.calling g mk a) (Vm.Alike.refl U.vm) q.2.2.2.1, q.2.2.2.2⟩, va_recv hKc hPc (ci := 3) (q0 := 0) rfl rfl, fun U hU hW => ⟨rfl, by rw [hU], by rw [hU]; exact hPc, va_K.moved hW.alike hKc, hDc.weaken (fun _ _ _ _ => trivial)⟩⟩ rfl rfl hl.1 rfl (lv_room (Nat.le_of_ble_eq_true rfl)) dX3_same_40 ⟨Nat.le_of_ble_eq_true rfl, Nat.le_of_ble_eq_true rfl⟩) hS (fun q _ h => hFc q h) hFc (fun r_29' _ t H1 locs ht hvm hw hB hz1 hk1 hS => ?_)
            obtain ⟨hP1, hK1, hD1⟩ := hB
            rw [ht] at hP1
            obtain rfl := hw.symm
            obtain ⟨hP, hD⟩ := va_join (wr := []) (w1 := [(h0, .inr (3, [.ref ast, .ref aim, .ref akp, .ref awx, .ref awy, .ref apx, .ref apy, .int co_32, .ref alx, .ref aly, .int lf_35])), (ast, .inl (cI, 54, .inl st)), (aim, .inl (cI, 108, .inl im)), (akp, .inl (cZ, 2, .inl kp)), (awx, .inl (cI, 8, .inl wx)), (awy, .inl (cI, 8, .inl wy)), (apx, .inl (cJ, 300, .inr (.inl px_30))), (apy, .inl (cJ, 300, .inr (.inl py_31))), (alx, .inl (cJ, 300, .inr (.inl lx_33))), (aly, .inl (cJ, 300, .inr (.inl ly_34)))]) hP hD [0, 1, 2, 3, 4, 5, 6, 7, 8, 9] [] rfl rfl (by decide) (by decide) hk1 hFc hP1 hD1
            clear hP1 hK1 hD1 hk1 hFc
            generalize H1 = H at hP hS ⊢
            have hP : va_P (dC, dI) vwCl [(h0, .inr (3, [.ref ast, .ref aim, .ref akp, .ref awx, .ref awy, .ref apx, .ref apy, .int co_32, .ref alx, .ref aly, .int lf_35])), (ast, .inl (cI, 54, .inl st)), (aim, .inl (cI, 108, .inl im)), (akp, .inl (cZ, 2, .inl kp)), (awx, .inl (cI, 8, .inl wx)), (awy, .inl (cI, 8, .inl wy)), (apx, .inl (cJ, 300, .inr (.inl px_30))), (apy, .inl (cJ, 300, .inr (.inl py_31))), (alx, .inl (cJ, 300, .inr (.inl lx_33))), (aly, .inl (cJ, 300, .inr (.inl ly_34)))] H := hP
            have hD : va_D A [(h0, .inr (3, [.ref ast, .ref aim, .ref akp, .ref awx, .ref awy, .ref apx, .ref apy, .int co_32, .ref alx, .ref aly, .int lf_35])), (ast, .inl (cI, 54, .inl st)), (aim, .inl (cI, 108, .inl im)), (akp, .inl (cZ, 2, .inl kp)), (awx, .inl (cI, 8, .inl wx)), (awy, .inl (cI, 8, .inl wy)), (apx, .inl (cJ, 300, .inr (.inl px_30))), (apy, .inl (cJ, 300, .inr (.inl py_31))), (alx, .inl (cJ, 300, .inr (.inl lx_33))), (aly, .inl (cJ, 300, .inr (.inl ly_34)))] := hD
            refine lc_ne (tgt := 54) hx hb dX3_same_43 dX3_same_44 (by decide) (fun c_36 => ?_) (fun c_36 => ?_)
            · have hF := br0 hF c_36
              refine lv_iconst (v := 0) hx hb dX3_same_54 (by decide) ?_
              refine lv_ior hx hb dX3_same_55 ?_
              refine lv_topi (fun v_37 ev_37 => ?_)
              have hF := nm_u hF ev_37
              refine lv_istore_n (lv' := [(3, .int v_37), (4, .int k_5), (0, .ref h0), (1, .int a0), (2, .int a1)]) hx hb dX3_same_56 rfl hl (by decide) rfl (fun ls hl => ?_)
              refine lv_iinc (v := (k_5 + (1 : Int32))) (lv' := [(4, .int (k_5 + (1 : Int32))), (3, .int v_37), (0, .ref h0), (1, .int a0), (2, .int a1)]) hx hb dX3_same_57 hl (k := 1) rfl rfl (by decide) rfl (fun ls hl => ?_)
              refine lv_goto (tgt := 21) hx hb dX3_same_60 (by decide) ?_
              exact ih_21 _ _ _ _ _ _ _ _ _ _ _ _ _ _ _ _ _ _ ls hF hP hD hS hl kx_21
            · have hF := br1 hF c_36
              refine lv_iconst (v := 1) hx hb dX3_same_47 (by decide) ?_
              refine lv_iload hx hb dX3_same_48 (lv_at hl 0 rfl) ?_
              refine lv_ishl hx hb dX3_same_50 ?_
              refine lv_goto (tgt := 55) hx hb dX3_same_51 (by decide) ?_
              refine lv_ior hx hb dX3_same_55 ?_
              refine lv_topi (fun v_38 ev_38 => ?_)
              have hF := nm_u hF ev_38
              refine lv_istore_n (lv' := [(3, .int v_38), (4, .int k_5), (0, .ref h0), (1, .int a0), (2, .int a1)]) hx hb dX3_same_56 rfl hl (by decide) rfl (fun ls hl => ?_)
              refine lv_iinc (v := (k_5 + (1 : Int32))) (lv' := [(4, .int (k_5 + (1 : Int32))), (3, .int v_38), (0, .ref h0), (1, .int a0), (2, .int a1)]) hx hb dX3_same_57 hl (k := 1) rfl rfl (by decide) rfl (fun ls hl => ?_)
              refine lv_goto (tgt := 21) hx hb dX3_same_60 (by decide) ?_
              exact ih_21 _ _ _ _ _ _ _ _ _ _ _ _ _ _ _ _ _ _ ls hF hP hD hS hl kx_21
      refine lp_21 1000 (0 : Int32) (0 : Int32) px py co lx ly lf o_13 o_14 o_15 o_16 o_17 o_18 o_19 o_20 _ _ ls hL_21 hP hD hS hl (fun H locs ls hP hD hS hl => ?_)
      refine lv_iload_n hx hb dX3_same_63 rfl (lv_at hl 1 rfl) ?_
      obtain ⟨e0, rfl, rfl, rfl, rfl, rfl, rfl⟩ := tp7 hF
      rw [← hQ]
      exact W.iret (v := o_14) hx hb hr (fun t ht hW => ⟨⟨_, (), rfl, e0, by rw [ht]; exact hP, va_K.moved hW.alike hK, hD⟩, hS.F ht⟩) hS.2.2 dX3_same_64
    · have hF := br1 hF c_4
      refine lv_iconst (v := -1) hx hb dX3_same_14 (by decide) ?_
      obtain ⟨e0, rfl, rfl, rfl, rfl, rfl, rfl⟩ := tp7 hF
      rw [← hQ]
      exact W.iret (v := (-1 : Int32)) hx hb hr (fun t ht hW => ⟨⟨_, (), rfl, e0, by rw [ht]; exact hP, va_K.moved hW.alike hK, hD⟩, hS.F ht⟩) hS.2.2 dX3_same_15

def L_X3_image_14 (st : Nat → Int32) (a0 : Int32) : Nat → Int32 → (Nat → Int32) → Option (Int32 × (Nat → Int32))
  | 0, _, _ => none
  | n + 1, k_3, im_4 =>
    if (54 : Int32) ≤ k_3 then
      some (k_3, im_4)
    else
      gd (ib k_3 54) (
      gd (ib (((54 : Int32) * a0) + k_3) 108) (
      L_X3_image_14 st a0 n (k_3 + (1 : Int32)) (upd im_4 (((54 : Int32) * a0) + k_3).toNatClampNeg (st k_3.toNatClampNeg))))
theorem L_X3_image_14_s (st : Nat → Int32) (a0 : Int32) (n : Nat) (k_3 : Int32) (im_4 : Nat → Int32) : L_X3_image_14 st a0 (n + 1) k_3 im_4 =
    (if (54 : Int32) ≤ k_3 then
      some (k_3, im_4)
    else
      gd (ib k_3 54) (
      gd (ib (((54 : Int32) * a0) + k_3) 108) (
      L_X3_image_14 st a0 n (k_3 + (1 : Int32)) (upd im_4 (((54 : Int32) * a0) + k_3).toNatClampNeg (st k_3.toNatClampNeg))))) := rfl

def P_X3_image (a0 : Int32) (st : Nat → Int32) (im : Nat → Int32) (kp : Nat → Int32) : Option (Int32 × (Nat → Int32) × (Nat → Int32)) :=
  bd1 (P_X3_in a0 (0 : Int32) (1 : Int32)) (fun r_1 =>
  if r_1 = (0 : Int32) then
    some ((-2 : Int32), im, kp)
  else
    bd2 (L_X3_image_14 st a0 1000 (0 : Int32) im) (fun o_5 o_6 =>
    gd (ib a0 2) (
    some ((1 : Int32), o_6, (upd kp a0.toNatClampNeg (vp_nar .boolean (1 : Int32)))))))

def rm_X3_image : Room := { frames := 1, cells := 0, slots := 0, locals := 22 }

set_option maxHeartbeats 4000000 in
set_option maxRecDepth 100000 in
theorem c_X3_image (l : Launch) (dC : Nat → ClassId) (dI : Nat → Nat → Nat) (h0 ast aim akp awx awy apx apy alx aly : Nat) (cI cZ cJ : ClassId) (hsz0 : Nat) (st : Nat → Int32) (im : Nat → Int32) (kp : Nat → Int32) (wx : Nat → Int32) (wy : Nat → Int32) (px : Nat → Int64) (py : Nat → Int64) (co : Int32) (lx : Nat → Int64) (ly : Nat → Int64) (lf : Int32) (a0 : Int32) (r0 : Int32) (imN : Nat → Int32) (kpN : Nat → Int32) (hF : P_X3_image a0 st im kp = some (r0, imN, kpN)) : Met l yX3_image wsX3_image rm_X3_image (va_Pc [.ref h0, .int a0] (fun U => U.heap.size = hsz0 ∧ va_P (dC, dI) vwCl [(h0, .inr (3, [.ref ast, .ref aim, .ref akp, .ref awx, .ref awy, .ref apx, .ref apy, .int co, .ref alx, .ref aly, .int lf])), (ast, .inl (cI, 54, .inl st)), (aim, .inl (cI, 108, .inl im)), (akp, .inl (cZ, 2, .inl kp)), (awx, .inl (cI, 8, .inl wx)), (awy, .inl (cI, 8, .inl wy)), (apx, .inl (cJ, 300, .inr (.inl px))), (apy, .inl (cJ, 300, .inr (.inl py))), (alx, .inl (cJ, 300, .inr (.inl lx))), (aly, .inl (cJ, 300, .inr (.inl ly)))] U.heap ∧ va_K (dC, dI) vwCl [(cI, .int), (cZ, .boolean), (cJ, .long)] U ∧ va_D (fun _ => True) [(h0, .inr (3, [.ref ast, .ref aim, .ref akp, .ref awx, .ref awy, .ref apx, .ref apy, .int co, .ref alx, .ref aly, .int lf])), (ast, .inl (cI, 54, .inl st)), (aim, .inl (cI, 108, .inl im)), (akp, .inl (cZ, 2, .inl kp)), (awx, .inl (cI, 8, .inl wx)), (awy, .inl (cI, 8, .inl wy)), (apx, .inl (cJ, 300, .inr (.inl px))), (apy, .inl (cJ, 300, .inr (.inl py))), (alx, .inl (cJ, 300, .inr (.inl lx))), (aly, .inl (cJ, 300, .inr (.inl ly)))])) (va_Qi (fun (r : Int32) (_ : Unit) => r = r0) (fun _ t => va_P (dC, dI) vwCl [(h0, .inr (3, [.ref ast, .ref aim, .ref akp, .ref awx, .ref awy, .ref apx, .ref apy, .int co, .ref alx, .ref aly, .int lf])), (ast, .inl (cI, 54, .inl st)), (aim, .inl (cI, 108, .inl imN)), (akp, .inl (cZ, 2, .inl kpN)), (awx, .inl (cI, 8, .inl wx)), (awy, .inl (cI, 8, .inl wy)), (apx, .inl (cJ, 300, .inr (.inl px))), (apy, .inl (cJ, 300, .inr (.inl py))), (alx, .inl (cJ, 300, .inr (.inl lx))), (aly, .inl (cJ, 300, .inr (.inl ly)))] t.heap ∧ va_K (dC, dI) vwCl [(cI, .int), (cZ, .boolean), (cJ, .long)] t ∧ va_D (va_A [(h0, .inr (3, [.ref ast, .ref aim, .ref akp, .ref awx, .ref awy, .ref apx, .ref apy, .int co, .ref alx, .ref aly, .int lf])), (ast, .inl (cI, 54, .inl st)), (aim, .inl (cI, 108, .inl im)), (akp, .inl (cZ, 2, .inl kp)), (awx, .inl (cI, 8, .inl wx)), (awy, .inl (cI, 8, .inl wy)), (apx, .inl (cJ, 300, .inr (.inl px))), (apy, .inl (cJ, 300, .inr (.inl py))), (alx, .inl (cJ, 300, .inr (.inl lx))), (aly, .inl (cJ, 300, .inr (.inl ly)))] hsz0) [(h0, .inr (3, [.ref ast, .ref aim, .ref akp, .ref awx, .ref awy, .ref apx, .ref apy, .int co, .ref alx, .ref aly, .int lf])), (ast, .inl (cI, 54, .inl st)), (aim, .inl (cI, 108, .inl imN)), (akp, .inl (cZ, 2, .inl kpN)), (awx, .inl (cI, 8, .inl wx)), (awy, .inl (cI, 8, .inl wy)), (apx, .inl (cJ, 300, .inr (.inl px))), (apy, .inl (cJ, 300, .inr (.inl py))), (alx, .inl (cJ, 300, .inr (.inl lx))), (aly, .inl (cJ, 300, .inr (.inl ly)))]) (va_A [(h0, .inr (3, [.ref ast, .ref aim, .ref akp, .ref awx, .ref awy, .ref apx, .ref apy, .int co, .ref alx, .ref aly, .int lf])), (ast, .inl (cI, 54, .inl st)), (aim, .inl (cI, 108, .inl im)), (akp, .inl (cZ, 2, .inl kp)), (awx, .inl (cI, 8, .inl wx)), (awy, .inl (cI, 8, .inl wy)), (apx, .inl (cJ, 300, .inr (.inl px))), (apy, .inl (cJ, 300, .inr (.inl py))), (alx, .inl (cJ, 300, .inr (.inl lx))), (aly, .inl (cJ, 300, .inr (.inl ly)))] hsz0)) 0 0 (va_A [(h0, .inr (3, [.ref ast, .ref aim, .ref akp, .ref awx, .ref awy, .ref apx, .ref apy, .int co, .ref alx, .ref aly, .int lf])), (ast, .inl (cI, 54, .inl st)), (aim, .inl (cI, 108, .inl im)), (akp, .inl (cZ, 2, .inl kp)), (awx, .inl (cI, 8, .inl wx)), (awy, .inl (cI, 8, .inl wy)), (apx, .inl (cJ, 300, .inr (.inl px))), (apy, .inl (cJ, 300, .inr (.inl py))), (alx, .inl (cJ, 300, .inr (.inl lx))), (aly, .inl (cJ, 300, .inr (.inl ly)))] hsz0) := by
  refine Met.ofW (cc := cX3_image) (maxL := 3) (ret := (some .int)) (by decide) rfl ?_
  intro p e s m args below meth c s₁ B hml hv
  change W p l e rm_X3_image s m args below meth c s.heap [] 0 0 _ _
  obtain ⟨hv, hsz, hP, hK, hD0⟩ := hv
  have hx := B.exec
  have hb := B.bytes
  have hr := B.returns
  have hts := atoms_spec (ws := wsX3_image) B.pre
  have hown : s.vm.findClass RX3 = some m.cls := findClass_of_methodNamed B.named
  have hlocks := B.notSynchronized
  subst hsz
  have hD := hD0.self (sz := s.heap.size)
  generalize hAe : va_A [(h0, .inr (3, [.ref ast, .ref aim, .ref akp, .ref awx, .ref awy, .ref apx, .ref apy, .int co, .ref alx, .ref aly, .int lf])), (ast, .inl (cI, 54, .inl st)), (aim, .inl (cI, 108, .inl im)), (akp, .inl (cZ, 2, .inl kp)), (awx, .inl (cI, 8, .inl wx)), (awy, .inl (cI, 8, .inl wy)), (apx, .inl (cJ, 300, .inr (.inl px))), (apy, .inl (cJ, 300, .inr (.inl py))), (alx, .inl (cJ, 300, .inr (.inl lx))), (aly, .inl (cJ, 300, .inr (.inl ly)))] s.heap.size = A at hD ⊢
  have hA : ∀ q : Nat, s.heap.size ≤ q → A q := fun q h => by rw [← hAe]; exact Or.inr h
  have hS : va_S A s.heap s.heap [] := va_S.rf
  generalize hQ : MQ below (va_Qi (fun (r : Int32) (_ : Unit) => r = r0) (fun _ t => va_P (dC, dI) vwCl [(h0, .inr (3, [.ref ast, .ref aim, .ref akp, .ref awx, .ref awy, .ref apx, .ref apy, .int co, .ref alx, .ref aly, .int lf])), (ast, .inl (cI, 54, .inl st)), (aim, .inl (cI, 108, .inl imN)), (akp, .inl (cZ, 2, .inl kpN)), (awx, .inl (cI, 8, .inl wx)), (awy, .inl (cI, 8, .inl wy)), (apx, .inl (cJ, 300, .inr (.inl px))), (apy, .inl (cJ, 300, .inr (.inl py))), (alx, .inl (cJ, 300, .inr (.inl lx))), (aly, .inl (cJ, 300, .inr (.inl ly)))] t.heap ∧ va_K (dC, dI) vwCl [(cI, .int), (cZ, .boolean), (cJ, .long)] t ∧ va_D A [(h0, .inr (3, [.ref ast, .ref aim, .ref akp, .ref awx, .ref awy, .ref apx, .ref apy, .int co, .ref alx, .ref aly, .int lf])), (ast, .inl (cI, 54, .inl st)), (aim, .inl (cI, 108, .inl imN)), (akp, .inl (cZ, 2, .inl kpN)), (awx, .inl (cI, 8, .inl wx)), (awy, .inl (cI, 8, .inl wy)), (apx, .inl (cJ, 300, .inr (.inl px))), (apy, .inl (cJ, 300, .inr (.inl py))), (alx, .inl (cJ, 300, .inr (.inl lx))), (aly, .inl (cJ, 300, .inr (.inl ly)))]) A) args s 0 0 A = Q
  have hl := lv_entry ([.ref h0, .int a0]) (n := 3) (Nat.le_of_ble_eq_true rfl)
  have hE : entryFrame m args 3 = F0 m 0 ((lg_sl ([.ref h0, .int a0]) ++ List.replicate (3 - (lg_sl ([.ref h0, .int a0])).length) Slot.unset).toArray) [] := by rw [hv]; exact lg_entry_eq m _ 3
  rw [hE]
  generalize (lg_sl ([.ref h0, .int a0]) ++ List.replicate (3 - (lg_sl ([.ref h0, .int a0])).length) Slot.unset).toArray = ls at hl ⊢
  have hl : lv_has ls 3 [(0, .ref h0), (1, .int a0)] := hl
  unfold P_X3_image at hF
  refine lv_iload_n hx hb dX3_image_0 rfl (lv_at hl 1 rfl) ?_
  refine lv_iconst (v := 0) hx hb dX3_image_1 (by decide) ?_
  refine lv_iconst (v := 1) hx hb dX3_image_2 (by decide) ?_
  obtain ⟨r_1, hr_1, hF⟩ := bd1_u hF
  refine vp_callSi (W.runS (As := [.int a0, .int (0 : Int32), .int (1 : Int32)]) (rest := []) ⟨hx, hb, hml, hown, hts⟩ (c_X3_in l a0 (0 : Int32) (1 : Int32) r_1 hr_1) (va_cwS 3 hts gX3_image_X3_in rfl rfl rfl (by decide +kernel) ⟨Nat.le_of_ble_eq_true rfl, Nat.le_of_ble_eq_true rfl⟩) preEq rfl rfl hl.1 rfl (lv_room (Nat.le_of_ble_eq_true rfl)) dX3_image_3 ⟨Nat.le_of_ble_eq_true rfl, Nat.le_of_ble_eq_true rfl⟩) (fun r_1' qr_1 => ?_)
  obtain rfl := qr_1.symm
  refine lv_if_ne (tgt := 12) hx hb dX3_image_6 (by decide) (fun c_2 => ?_) (fun c_2 => ?_)
  · have hF := br0 hF c_2
    refine lv_iconst (v := 0) hx hb dX3_image_12 (by decide) ?_
    refine lv_istore_n (lv' := [(2, .int (0 : Int32)), (0, .ref h0), (1, .int a0)]) hx hb dX3_image_13 rfl hl (by decide) rfl (fun ls hl => ?_)
    obtain ⟨o_5, o_6, hL_14, hF⟩ := bd2_u hF
    have lp_14 : ∀ (n : Nat) (k_3 : Int32) (im_4 : Nat → Int32) (o_5 : Int32) (o_6 : Nat → Int32) (H : Heap) (locs : List Loc) (ls : Array Slot), L_X3_image_14 st a0 n k_3 im_4 = some (o_5, o_6) → va_P (dC, dI) vwCl [(h0, .inr (3, [.ref ast, .ref aim, .ref akp, .ref awx, .ref awy, .ref apx, .ref apy, .int co, .ref alx, .ref aly, .int lf])), (ast, .inl (cI, 54, .inl st)), (aim, .inl (cI, 108, .inl im_4)), (akp, .inl (cZ, 2, .inl kp)), (awx, .inl (cI, 8, .inl wx)), (awy, .inl (cI, 8, .inl wy)), (apx, .inl (cJ, 300, .inr (.inl px))), (apy, .inl (cJ, 300, .inr (.inl py))), (alx, .inl (cJ, 300, .inr (.inl lx))), (aly, .inl (cJ, 300, .inr (.inl ly)))] H → va_D A [(h0, .inr (3, [.ref ast, .ref aim, .ref akp, .ref awx, .ref awy, .ref apx, .ref apy, .int co, .ref alx, .ref aly, .int lf])), (ast, .inl (cI, 54, .inl st)), (aim, .inl (cI, 108, .inl im_4)), (akp, .inl (cZ, 2, .inl kp)), (awx, .inl (cI, 8, .inl wx)), (awy, .inl (cI, 8, .inl wy)), (apx, .inl (cJ, 300, .inr (.inl px))), (apy, .inl (cJ, 300, .inr (.inl py))), (alx, .inl (cJ, 300, .inr (.inl lx))), (aly, .inl (cJ, 300, .inr (.inl ly)))] → va_S A s.heap H locs → lv_has ls 3 [(2, .int k_3), (0, .ref h0), (1, .int a0)] → (∀ (H : Heap) (locs : List Loc) (ls : Array Slot), va_P (dC, dI) vwCl [(h0, .inr (3, [.ref ast, .ref aim, .ref akp, .ref awx, .ref awy, .ref apx, .ref apy, .int co, .ref alx, .ref aly, .int lf])), (ast, .inl (cI, 54, .inl st)), (aim, .inl (cI, 108, .inl o_6)), (akp, .inl (cZ, 2, .inl kp)), (awx, .inl (cI, 8, .inl wx)), (awy, .inl (cI, 8, .inl wy)), (apx, .inl (cJ, 300, .inr (.inl px))), (apy, .inl (cJ, 300, .inr (.inl py))), (alx, .inl (cJ, 300, .inr (.inl lx))), (aly, .inl (cJ, 300, .inr (.inl ly)))] H → va_D A [(h0, .inr (3, [.ref ast, .ref aim, .ref akp, .ref awx, .ref awy, .ref apx, .ref apy, .int co, .ref alx, .ref aly, .int lf])), (ast, .inl (cI, 54, .inl st)), (aim, .inl (cI, 108, .inl o_6)), (akp, .inl (cZ, 2, .inl kp)), (awx, .inl (cI, 8, .inl wx)), (awy, .inl (cI, 8, .inl wy)), (apx, .inl (cJ, 300, .inr (.inl px))), (apy, .inl (cJ, 300, .inr (.inl py))), (alx, .inl (cJ, 300, .inr (.inl lx))), (aly, .inl (cJ, 300, .inr (.inl ly)))] → va_S A s.heap H locs → lv_has ls 3 [(2, .int o_5), (0, .ref h0), (1, .int a0)] → W p l e rm_X3_image s m args below meth c H locs 0 0 Q (F0 m 43 ls [])) → W p l e rm_X3_image s m args below meth c H locs 0 0 Q (F0 m 14 ls []) := by
      intro n
      induction n with
      | zero =>
        intro k_3 im_4 o_5 o_6 H locs ls hF
        exact nn ((rfl : L_X3_image_14 st a0 0 k_3 im_4 = none).symm.trans hF)
      | succ n ih_14 =>
        intro k_3 im_4 o_5 o_6 H locs ls hF hP hD hS hl kx_14
        have hF := (L_X3_image_14_s st a0 n k_3 im_4).symm.trans hF
        refine lv_iload_n hx hb dX3_image_14 rfl (lv_at hl 0 rfl) ?_
        refine lv_bipush (v := 54) hx hb dX3_image_15 (by decide) ?_
        refine lv_icmp_ge (tgt := 43) hx hb dX3_image_17 (by decide) (fun c_7 => ?_) (fun c_7 => ?_)
        · have hF := br1 hF c_7
          obtain ⟨rfl, rfl⟩ := tp2 hF
          exact kx_14 _ _ ls hP hD hS hl
        · have hF := br0 hF c_7
          refine lv_aload_n hx hb dX3_image_20 rfl (lv_at hl 1 rfl) ?_
          refine va_get (D := (dC, dI)) (ci := 3) (v := .ref aim) (C := RX3) (T := TX3) (N := 11) hx hb hts (by decide +kernel) hown hK hP 0 rfl rfl 1 (by decide) (hts (.fieldLink RX3 13 "DotCoverModel" "images" "[I") (by decide +kernel)) (fun _ h9 => h9) rfl dX3_image_21 ?_
          refine lv_bipush (v := 54) hx hb dX3_image_24 (by decide) ?_
          refine lv_iload_n hx hb dX3_image_26 rfl (lv_at hl 2 rfl) ?_
          refine lv_imul hx hb dX3_image_27 ?_
          refine lv_iload_n hx hb dX3_image_28 rfl (lv_at hl 0 rfl) ?_
          refine lv_iadd hx hb dX3_image_29 ?_
          refine lv_aload_n hx hb dX3_image_30 rfl (lv_at hl 1 rfl) ?_
          refine va_get (D := (dC, dI)) (ci := 3) (v := .ref ast) (C := RX3) (T := TX3) (N := 11) hx hb hts (by decide +kernel) hown hK hP 0 rfl rfl 0 (by decide) (hts (.fieldLink RX3 7 "DotCoverModel" "state" "[I") (by decide +kernel)) (fun _ h9 => h9) rfl dX3_image_31 ?_
          refine lv_iload_n hx hb dX3_image_34 rfl (lv_at hl 0 rfl) ?_
          obtain ⟨hi_35, hF⟩ := gd_u hF
          refine va_iald hx hb hK hP 1 0 rfl rfl (in_u hi_35) dX3_image_35 ?_
          obtain ⟨hi_36, hF⟩ := gd_u hF
          refine va_iast hx hb hK hP hD hS 2 0 rfl rfl (in_u hi_36) dX3_image_36 (fun H locs hP hD hS => ?_)
          have hP : va_P (dC, dI) vwCl [(h0, .inr (3, [.ref ast, .ref aim, .ref akp, .ref awx, .ref awy, .ref apx, .ref apy, .int co, .ref alx, .ref aly, .int lf])), (ast, .inl (cI, 54, .inl st)), (aim, .inl (cI, 108, .inl (upd im_4 (((54 : Int32) * a0) + k_3).toNatClampNeg (st k_3.toNatClampNeg)))), (akp, .inl (cZ, 2, .inl kp)), (awx, .inl (cI, 8, .inl wx)), (awy, .inl (cI, 8, .inl wy)), (apx, .inl (cJ, 300, .inr (.inl px))), (apy, .inl (cJ, 300, .inr (.inl py))), (alx, .inl (cJ, 300, .inr (.inl lx))), (aly, .inl (cJ, 300, .inr (.inl ly)))] H := hP
          have hD : va_D A [(h0, .inr (3, [.ref ast, .ref aim, .ref akp, .ref awx, .ref awy, .ref apx, .ref apy, .int co, .ref alx, .ref aly, .int lf])), (ast, .inl (cI, 54, .inl st)), (aim, .inl (cI, 108, .inl (upd im_4 (((54 : Int32) * a0) + k_3).toNatClampNeg (st k_3.toNatClampNeg)))), (akp, .inl (cZ, 2, .inl kp)), (awx, .inl (cI, 8, .inl wx)), (awy, .inl (cI, 8, .inl wy)), (apx, .inl (cJ, 300, .inr (.inl px))), (apy, .inl (cJ, 300, .inr (.inl py))), (alx, .inl (cJ, 300, .inr (.inl lx))), (aly, .inl (cJ, 300, .inr (.inl ly)))] := hD
          refine lv_iinc (v := (k_3 + (1 : Int32))) (lv' := [(2, .int (k_3 + (1 : Int32))), (0, .ref h0), (1, .int a0)]) hx hb dX3_image_37 hl (k := 0) rfl rfl (by decide) rfl (fun ls hl => ?_)
          refine lv_goto (tgt := 14) hx hb dX3_image_40 (by decide) ?_
          exact ih_14 _ _ _ _ _ _ ls hF hP hD hS hl kx_14
    refine lp_14 1000 (0 : Int32) im o_5 o_6 _ _ ls hL_14 hP hD hS hl (fun H locs ls hP hD hS hl => ?_)
    refine lv_aload_n hx hb dX3_image_43 rfl (lv_at hl 1 rfl) ?_
    refine va_get (D := (dC, dI)) (ci := 3) (v := .ref akp) (C := RX3) (T := TX3) (N := 11) hx hb hts (by decide +kernel) hown hK hP 0 rfl rfl 2 (by decide) (hts (.fieldLink RX3 16 "DotCoverModel" "isKept" "[Z") (by decide +kernel)) (fun _ h9 => h9) rfl dX3_image_44 ?_
    refine lv_iload_n hx hb dX3_image_47 rfl (lv_at hl 2 rfl) ?_
    refine lv_iconst (v := 1) hx hb dX3_image_48 (by decide) ?_
    obtain ⟨hi_49, hF⟩ := gd_u hF
    refine va_zast hx hb hK hP hD hS 3 1 rfl rfl (in_u hi_49) dX3_image_49 (fun H locs hP hD hS => ?_)
    have hP : va_P (dC, dI) vwCl [(h0, .inr (3, [.ref ast, .ref aim, .ref akp, .ref awx, .ref awy, .ref apx, .ref apy, .int co, .ref alx, .ref aly, .int lf])), (ast, .inl (cI, 54, .inl st)), (aim, .inl (cI, 108, .inl o_6)), (akp, .inl (cZ, 2, .inl (upd kp a0.toNatClampNeg (vp_nar .boolean (1 : Int32))))), (awx, .inl (cI, 8, .inl wx)), (awy, .inl (cI, 8, .inl wy)), (apx, .inl (cJ, 300, .inr (.inl px))), (apy, .inl (cJ, 300, .inr (.inl py))), (alx, .inl (cJ, 300, .inr (.inl lx))), (aly, .inl (cJ, 300, .inr (.inl ly)))] H := hP
    have hD : va_D A [(h0, .inr (3, [.ref ast, .ref aim, .ref akp, .ref awx, .ref awy, .ref apx, .ref apy, .int co, .ref alx, .ref aly, .int lf])), (ast, .inl (cI, 54, .inl st)), (aim, .inl (cI, 108, .inl o_6)), (akp, .inl (cZ, 2, .inl (upd kp a0.toNatClampNeg (vp_nar .boolean (1 : Int32))))), (awx, .inl (cI, 8, .inl wx)), (awy, .inl (cI, 8, .inl wy)), (apx, .inl (cJ, 300, .inr (.inl px))), (apy, .inl (cJ, 300, .inr (.inl py))), (alx, .inl (cJ, 300, .inr (.inl lx))), (aly, .inl (cJ, 300, .inr (.inl ly)))] := hD
    refine lv_iconst (v := 1) hx hb dX3_image_50 (by decide) ?_
    obtain ⟨e0, rfl, rfl⟩ := tp3 hF
    rw [← hQ]
    exact W.iret (v := (1 : Int32)) hx hb hr (fun t ht hW => ⟨⟨_, (), rfl, e0, by rw [ht]; exact hP, va_K.moved hW.alike hK, hD⟩, hS.F ht⟩) hS.2.2 dX3_image_51
  · have hF := br1 hF c_2
    refine lv_bipush (v := -2) hx hb dX3_image_9 (by decide) ?_
    obtain ⟨e0, rfl, rfl⟩ := tp3 hF
    rw [← hQ]
    exact W.iret (v := (-2 : Int32)) hx hb hr (fun t ht hW => ⟨⟨_, (), rfl, e0, by rw [ht]; exact hP, va_K.moved hW.alike hK, hD⟩, hS.F ht⟩) hS.2.2 dX3_image_11

def L_X3_restore_26 (im : Nat → Int32) (a0 : Int32) : Nat → Int32 → (Nat → Int32) → Option (Int32 × (Nat → Int32))
  | 0, _, _ => none
  | n + 1, k_4, st_5 =>
    if (54 : Int32) ≤ k_4 then
      some (k_4, st_5)
    else
      gd (ib (((54 : Int32) * a0) + k_4) 108) (
      gd (ib k_4 54) (
      L_X3_restore_26 im a0 n (k_4 + (1 : Int32)) (upd st_5 k_4.toNatClampNeg (im (((54 : Int32) * a0) + k_4).toNatClampNeg))))
theorem L_X3_restore_26_s (im : Nat → Int32) (a0 : Int32) (n : Nat) (k_4 : Int32) (st_5 : Nat → Int32) : L_X3_restore_26 im a0 (n + 1) k_4 st_5 =
    (if (54 : Int32) ≤ k_4 then
      some (k_4, st_5)
    else
      gd (ib (((54 : Int32) * a0) + k_4) 108) (
      gd (ib k_4 54) (
      L_X3_restore_26 im a0 n (k_4 + (1 : Int32)) (upd st_5 k_4.toNatClampNeg (im (((54 : Int32) * a0) + k_4).toNatClampNeg))))) := rfl

def P_X3_restore (a0 : Int32) (st : Nat → Int32) (im : Nat → Int32) (kp : Nat → Int32) : Option (Int32 × (Nat → Int32)) :=
  bd1 (P_X3_in a0 (0 : Int32) (1 : Int32)) (fun r_1 =>
  if r_1 = (0 : Int32) then
    some ((-2 : Int32), st)
  else
    gd (ib a0 2) (
    if (kp a0.toNatClampNeg) = (0 : Int32) then
      some ((-3 : Int32), st)
    else
      bd2 (L_X3_restore_26 im a0 1000 (0 : Int32) st) (fun o_6 o_7 =>
      some ((1 : Int32), o_7))))

def rm_X3_restore : Room := { frames := 1, cells := 0, slots := 0, locals := 22 }

set_option maxHeartbeats 4000000 in
set_option maxRecDepth 100000 in
theorem c_X3_restore (l : Launch) (dC : Nat → ClassId) (dI : Nat → Nat → Nat) (h0 ast aim akp awx awy apx apy alx aly : Nat) (cI cZ cJ : ClassId) (hsz0 : Nat) (st : Nat → Int32) (im : Nat → Int32) (kp : Nat → Int32) (wx : Nat → Int32) (wy : Nat → Int32) (px : Nat → Int64) (py : Nat → Int64) (co : Int32) (lx : Nat → Int64) (ly : Nat → Int64) (lf : Int32) (a0 : Int32) (r0 : Int32) (stN : Nat → Int32) (hF : P_X3_restore a0 st im kp = some (r0, stN)) : Met l yX3_restore wsX3_restore rm_X3_restore (va_Pc [.ref h0, .int a0] (fun U => U.heap.size = hsz0 ∧ va_P (dC, dI) vwCl [(h0, .inr (3, [.ref ast, .ref aim, .ref akp, .ref awx, .ref awy, .ref apx, .ref apy, .int co, .ref alx, .ref aly, .int lf])), (ast, .inl (cI, 54, .inl st)), (aim, .inl (cI, 108, .inl im)), (akp, .inl (cZ, 2, .inl kp)), (awx, .inl (cI, 8, .inl wx)), (awy, .inl (cI, 8, .inl wy)), (apx, .inl (cJ, 300, .inr (.inl px))), (apy, .inl (cJ, 300, .inr (.inl py))), (alx, .inl (cJ, 300, .inr (.inl lx))), (aly, .inl (cJ, 300, .inr (.inl ly)))] U.heap ∧ va_K (dC, dI) vwCl [(cI, .int), (cZ, .boolean), (cJ, .long)] U ∧ va_D (fun _ => True) [(h0, .inr (3, [.ref ast, .ref aim, .ref akp, .ref awx, .ref awy, .ref apx, .ref apy, .int co, .ref alx, .ref aly, .int lf])), (ast, .inl (cI, 54, .inl st)), (aim, .inl (cI, 108, .inl im)), (akp, .inl (cZ, 2, .inl kp)), (awx, .inl (cI, 8, .inl wx)), (awy, .inl (cI, 8, .inl wy)), (apx, .inl (cJ, 300, .inr (.inl px))), (apy, .inl (cJ, 300, .inr (.inl py))), (alx, .inl (cJ, 300, .inr (.inl lx))), (aly, .inl (cJ, 300, .inr (.inl ly)))])) (va_Qi (fun (r : Int32) (_ : Unit) => r = r0) (fun _ t => va_P (dC, dI) vwCl [(h0, .inr (3, [.ref ast, .ref aim, .ref akp, .ref awx, .ref awy, .ref apx, .ref apy, .int co, .ref alx, .ref aly, .int lf])), (ast, .inl (cI, 54, .inl stN)), (aim, .inl (cI, 108, .inl im)), (akp, .inl (cZ, 2, .inl kp)), (awx, .inl (cI, 8, .inl wx)), (awy, .inl (cI, 8, .inl wy)), (apx, .inl (cJ, 300, .inr (.inl px))), (apy, .inl (cJ, 300, .inr (.inl py))), (alx, .inl (cJ, 300, .inr (.inl lx))), (aly, .inl (cJ, 300, .inr (.inl ly)))] t.heap ∧ va_K (dC, dI) vwCl [(cI, .int), (cZ, .boolean), (cJ, .long)] t ∧ va_D (va_A [(h0, .inr (3, [.ref ast, .ref aim, .ref akp, .ref awx, .ref awy, .ref apx, .ref apy, .int co, .ref alx, .ref aly, .int lf])), (ast, .inl (cI, 54, .inl st)), (aim, .inl (cI, 108, .inl im)), (akp, .inl (cZ, 2, .inl kp)), (awx, .inl (cI, 8, .inl wx)), (awy, .inl (cI, 8, .inl wy)), (apx, .inl (cJ, 300, .inr (.inl px))), (apy, .inl (cJ, 300, .inr (.inl py))), (alx, .inl (cJ, 300, .inr (.inl lx))), (aly, .inl (cJ, 300, .inr (.inl ly)))] hsz0) [(h0, .inr (3, [.ref ast, .ref aim, .ref akp, .ref awx, .ref awy, .ref apx, .ref apy, .int co, .ref alx, .ref aly, .int lf])), (ast, .inl (cI, 54, .inl stN)), (aim, .inl (cI, 108, .inl im)), (akp, .inl (cZ, 2, .inl kp)), (awx, .inl (cI, 8, .inl wx)), (awy, .inl (cI, 8, .inl wy)), (apx, .inl (cJ, 300, .inr (.inl px))), (apy, .inl (cJ, 300, .inr (.inl py))), (alx, .inl (cJ, 300, .inr (.inl lx))), (aly, .inl (cJ, 300, .inr (.inl ly)))]) (va_A [(h0, .inr (3, [.ref ast, .ref aim, .ref akp, .ref awx, .ref awy, .ref apx, .ref apy, .int co, .ref alx, .ref aly, .int lf])), (ast, .inl (cI, 54, .inl st)), (aim, .inl (cI, 108, .inl im)), (akp, .inl (cZ, 2, .inl kp)), (awx, .inl (cI, 8, .inl wx)), (awy, .inl (cI, 8, .inl wy)), (apx, .inl (cJ, 300, .inr (.inl px))), (apy, .inl (cJ, 300, .inr (.inl py))), (alx, .inl (cJ, 300, .inr (.inl lx))), (aly, .inl (cJ, 300, .inr (.inl ly)))] hsz0)) 0 0 (va_A [(h0, .inr (3, [.ref ast, .ref aim, .ref akp, .ref awx, .ref awy, .ref apx, .ref apy, .int co, .ref alx, .ref aly, .int lf])), (ast, .inl (cI, 54, .inl st)), (aim, .inl (cI, 108, .inl im)), (akp, .inl (cZ, 2, .inl kp)), (awx, .inl (cI, 8, .inl wx)), (awy, .inl (cI, 8, .inl wy)), (apx, .inl (cJ, 300, .inr (.inl px))), (apy, .inl (cJ, 300, .inr (.inl py))), (alx, .inl (cJ, 300, .inr (.inl lx))), (aly, .inl (cJ, 300, .inr (.inl ly)))] hsz0) := by
  refine Met.ofW (cc := cX3_restore) (maxL := 3) (ret := (some .int)) (by decide) rfl ?_
  intro p e s m args below meth c s₁ B hml hv
  change W p l e rm_X3_restore s m args below meth c s.heap [] 0 0 _ _
  obtain ⟨hv, hsz, hP, hK, hD0⟩ := hv
  have hx := B.exec
  have hb := B.bytes
  have hr := B.returns
  have hts := atoms_spec (ws := wsX3_restore) B.pre
  have hown : s.vm.findClass RX3 = some m.cls := findClass_of_methodNamed B.named
  have hlocks := B.notSynchronized
  subst hsz
  have hD := hD0.self (sz := s.heap.size)
  generalize hAe : va_A [(h0, .inr (3, [.ref ast, .ref aim, .ref akp, .ref awx, .ref awy, .ref apx, .ref apy, .int co, .ref alx, .ref aly, .int lf])), (ast, .inl (cI, 54, .inl st)), (aim, .inl (cI, 108, .inl im)), (akp, .inl (cZ, 2, .inl kp)), (awx, .inl (cI, 8, .inl wx)), (awy, .inl (cI, 8, .inl wy)), (apx, .inl (cJ, 300, .inr (.inl px))), (apy, .inl (cJ, 300, .inr (.inl py))), (alx, .inl (cJ, 300, .inr (.inl lx))), (aly, .inl (cJ, 300, .inr (.inl ly)))] s.heap.size = A at hD ⊢
  have hA : ∀ q : Nat, s.heap.size ≤ q → A q := fun q h => by rw [← hAe]; exact Or.inr h
  have hS : va_S A s.heap s.heap [] := va_S.rf
  generalize hQ : MQ below (va_Qi (fun (r : Int32) (_ : Unit) => r = r0) (fun _ t => va_P (dC, dI) vwCl [(h0, .inr (3, [.ref ast, .ref aim, .ref akp, .ref awx, .ref awy, .ref apx, .ref apy, .int co, .ref alx, .ref aly, .int lf])), (ast, .inl (cI, 54, .inl stN)), (aim, .inl (cI, 108, .inl im)), (akp, .inl (cZ, 2, .inl kp)), (awx, .inl (cI, 8, .inl wx)), (awy, .inl (cI, 8, .inl wy)), (apx, .inl (cJ, 300, .inr (.inl px))), (apy, .inl (cJ, 300, .inr (.inl py))), (alx, .inl (cJ, 300, .inr (.inl lx))), (aly, .inl (cJ, 300, .inr (.inl ly)))] t.heap ∧ va_K (dC, dI) vwCl [(cI, .int), (cZ, .boolean), (cJ, .long)] t ∧ va_D A [(h0, .inr (3, [.ref ast, .ref aim, .ref akp, .ref awx, .ref awy, .ref apx, .ref apy, .int co, .ref alx, .ref aly, .int lf])), (ast, .inl (cI, 54, .inl stN)), (aim, .inl (cI, 108, .inl im)), (akp, .inl (cZ, 2, .inl kp)), (awx, .inl (cI, 8, .inl wx)), (awy, .inl (cI, 8, .inl wy)), (apx, .inl (cJ, 300, .inr (.inl px))), (apy, .inl (cJ, 300, .inr (.inl py))), (alx, .inl (cJ, 300, .inr (.inl lx))), (aly, .inl (cJ, 300, .inr (.inl ly)))]) A) args s 0 0 A = Q
  have hl := lv_entry ([.ref h0, .int a0]) (n := 3) (Nat.le_of_ble_eq_true rfl)
  have hE : entryFrame m args 3 = F0 m 0 ((lg_sl ([.ref h0, .int a0]) ++ List.replicate (3 - (lg_sl ([.ref h0, .int a0])).length) Slot.unset).toArray) [] := by rw [hv]; exact lg_entry_eq m _ 3
  rw [hE]
  generalize (lg_sl ([.ref h0, .int a0]) ++ List.replicate (3 - (lg_sl ([.ref h0, .int a0])).length) Slot.unset).toArray = ls at hl ⊢
  have hl : lv_has ls 3 [(0, .ref h0), (1, .int a0)] := hl
  unfold P_X3_restore at hF
  refine lv_iload_n hx hb dX3_restore_0 rfl (lv_at hl 1 rfl) ?_
  refine lv_iconst (v := 0) hx hb dX3_restore_1 (by decide) ?_
  refine lv_iconst (v := 1) hx hb dX3_restore_2 (by decide) ?_
  obtain ⟨r_1, hr_1, hF⟩ := bd1_u hF
  refine vp_callSi (W.runS (As := [.int a0, .int (0 : Int32), .int (1 : Int32)]) (rest := []) ⟨hx, hb, hml, hown, hts⟩ (c_X3_in l a0 (0 : Int32) (1 : Int32) r_1 hr_1) (va_cwS 3 hts gX3_restore_X3_in rfl rfl rfl (by decide +kernel) ⟨Nat.le_of_ble_eq_true rfl, Nat.le_of_ble_eq_true rfl⟩) preEq rfl rfl hl.1 rfl (lv_room (Nat.le_of_ble_eq_true rfl)) dX3_restore_3 ⟨Nat.le_of_ble_eq_true rfl, Nat.le_of_ble_eq_true rfl⟩) (fun r_1' qr_1 => ?_)
  obtain rfl := qr_1.symm
  refine lv_if_ne (tgt := 12) hx hb dX3_restore_6 (by decide) (fun c_2 => ?_) (fun c_2 => ?_)
  · have hF := br0 hF c_2
    refine lv_aload_n hx hb dX3_restore_12 rfl (lv_at hl 0 rfl) ?_
    refine va_get (D := (dC, dI)) (ci := 3) (v := .ref akp) (C := RX3) (T := TX3) (N := 11) hx hb hts (by decide +kernel) hown hK hP 0 rfl rfl 2 (by decide) (hts (.fieldLink RX3 16 "DotCoverModel" "isKept" "[Z") (by decide +kernel)) (fun _ h9 => h9) rfl dX3_restore_13 ?_
    refine lv_iload_n hx hb dX3_restore_16 rfl (lv_at hl 1 rfl) ?_
    obtain ⟨hi_17, hF⟩ := gd_u hF
    refine va_zald hx hb hK hP 3 1 rfl rfl (in_u hi_17) dX3_restore_17 ?_
    refine lv_if_ne (tgt := 24) hx hb dX3_restore_18 (by decide) (fun c_3 => ?_) (fun c_3 => ?_)
    · have hF := br0 hF c_3
      refine lv_iconst (v := 0) hx hb dX3_restore_24 (by decide) ?_
      refine lv_istore_n (lv' := [(2, .int (0 : Int32)), (0, .ref h0), (1, .int a0)]) hx hb dX3_restore_25 rfl hl (by decide) rfl (fun ls hl => ?_)
      obtain ⟨o_6, o_7, hL_26, hF⟩ := bd2_u hF
      have lp_26 : ∀ (n : Nat) (k_4 : Int32) (st_5 : Nat → Int32) (o_6 : Int32) (o_7 : Nat → Int32) (H : Heap) (locs : List Loc) (ls : Array Slot), L_X3_restore_26 im a0 n k_4 st_5 = some (o_6, o_7) → va_P (dC, dI) vwCl [(h0, .inr (3, [.ref ast, .ref aim, .ref akp, .ref awx, .ref awy, .ref apx, .ref apy, .int co, .ref alx, .ref aly, .int lf])), (ast, .inl (cI, 54, .inl st_5)), (aim, .inl (cI, 108, .inl im)), (akp, .inl (cZ, 2, .inl kp)), (awx, .inl (cI, 8, .inl wx)), (awy, .inl (cI, 8, .inl wy)), (apx, .inl (cJ, 300, .inr (.inl px))), (apy, .inl (cJ, 300, .inr (.inl py))), (alx, .inl (cJ, 300, .inr (.inl lx))), (aly, .inl (cJ, 300, .inr (.inl ly)))] H → va_D A [(h0, .inr (3, [.ref ast, .ref aim, .ref akp, .ref awx, .ref awy, .ref apx, .ref apy, .int co, .ref alx, .ref aly, .int lf])), (ast, .inl (cI, 54, .inl st_5)), (aim, .inl (cI, 108, .inl im)), (akp, .inl (cZ, 2, .inl kp)), (awx, .inl (cI, 8, .inl wx)), (awy, .inl (cI, 8, .inl wy)), (apx, .inl (cJ, 300, .inr (.inl px))), (apy, .inl (cJ, 300, .inr (.inl py))), (alx, .inl (cJ, 300, .inr (.inl lx))), (aly, .inl (cJ, 300, .inr (.inl ly)))] → va_S A s.heap H locs → lv_has ls 3 [(2, .int k_4), (0, .ref h0), (1, .int a0)] → (∀ (H : Heap) (locs : List Loc) (ls : Array Slot), va_P (dC, dI) vwCl [(h0, .inr (3, [.ref ast, .ref aim, .ref akp, .ref awx, .ref awy, .ref apx, .ref apy, .int co, .ref alx, .ref aly, .int lf])), (ast, .inl (cI, 54, .inl o_7)), (aim, .inl (cI, 108, .inl im)), (akp, .inl (cZ, 2, .inl kp)), (awx, .inl (cI, 8, .inl wx)), (awy, .inl (cI, 8, .inl wy)), (apx, .inl (cJ, 300, .inr (.inl px))), (apy, .inl (cJ, 300, .inr (.inl py))), (alx, .inl (cJ, 300, .inr (.inl lx))), (aly, .inl (cJ, 300, .inr (.inl ly)))] H → va_D A [(h0, .inr (3, [.ref ast, .ref aim, .ref akp, .ref awx, .ref awy, .ref apx, .ref apy, .int co, .ref alx, .ref aly, .int lf])), (ast, .inl (cI, 54, .inl o_7)), (aim, .inl (cI, 108, .inl im)), (akp, .inl (cZ, 2, .inl kp)), (awx, .inl (cI, 8, .inl wx)), (awy, .inl (cI, 8, .inl wy)), (apx, .inl (cJ, 300, .inr (.inl px))), (apy, .inl (cJ, 300, .inr (.inl py))), (alx, .inl (cJ, 300, .inr (.inl lx))), (aly, .inl (cJ, 300, .inr (.inl ly)))] → va_S A s.heap H locs → lv_has ls 3 [(2, .int o_6), (0, .ref h0), (1, .int a0)] → W p l e rm_X3_restore s m args below meth c H locs 0 0 Q (F0 m 55 ls [])) → W p l e rm_X3_restore s m args below meth c H locs 0 0 Q (F0 m 26 ls []) := by
        intro n
        induction n with
        | zero =>
          intro k_4 st_5 o_6 o_7 H locs ls hF
          exact nn ((rfl : L_X3_restore_26 im a0 0 k_4 st_5 = none).symm.trans hF)
        | succ n ih_26 =>
          intro k_4 st_5 o_6 o_7 H locs ls hF hP hD hS hl kx_26
          have hF := (L_X3_restore_26_s im a0 n k_4 st_5).symm.trans hF
          refine lv_iload_n hx hb dX3_restore_26 rfl (lv_at hl 0 rfl) ?_
          refine lv_bipush (v := 54) hx hb dX3_restore_27 (by decide) ?_
          refine lv_icmp_ge (tgt := 55) hx hb dX3_restore_29 (by decide) (fun c_8 => ?_) (fun c_8 => ?_)
          · have hF := br1 hF c_8
            obtain ⟨rfl, rfl⟩ := tp2 hF
            exact kx_26 _ _ ls hP hD hS hl
          · have hF := br0 hF c_8
            refine lv_aload_n hx hb dX3_restore_32 rfl (lv_at hl 1 rfl) ?_
            refine va_get (D := (dC, dI)) (ci := 3) (v := .ref ast) (C := RX3) (T := TX3) (N := 11) hx hb hts (by decide +kernel) hown hK hP 0 rfl rfl 0 (by decide) (hts (.fieldLink RX3 7 "DotCoverModel" "state" "[I") (by decide +kernel)) (fun _ h9 => h9) rfl dX3_restore_33 ?_
            refine lv_iload_n hx hb dX3_restore_36 rfl (lv_at hl 0 rfl) ?_
            refine lv_aload_n hx hb dX3_restore_37 rfl (lv_at hl 1 rfl) ?_
            refine va_get (D := (dC, dI)) (ci := 3) (v := .ref aim) (C := RX3) (T := TX3) (N := 11) hx hb hts (by decide +kernel) hown hK hP 0 rfl rfl 1 (by decide) (hts (.fieldLink RX3 13 "DotCoverModel" "images" "[I") (by decide +kernel)) (fun _ h9 => h9) rfl dX3_restore_38 ?_
            refine lv_bipush (v := 54) hx hb dX3_restore_41 (by decide) ?_
            refine lv_iload_n hx hb dX3_restore_43 rfl (lv_at hl 2 rfl) ?_
            refine lv_imul hx hb dX3_restore_44 ?_
            refine lv_iload_n hx hb dX3_restore_45 rfl (lv_at hl 0 rfl) ?_
            refine lv_iadd hx hb dX3_restore_46 ?_
            obtain ⟨hi_47, hF⟩ := gd_u hF
            refine va_iald hx hb hK hP 2 0 rfl rfl (in_u hi_47) dX3_restore_47 ?_
            obtain ⟨hi_48, hF⟩ := gd_u hF
            refine va_iast hx hb hK hP hD hS 1 0 rfl rfl (in_u hi_48) dX3_restore_48 (fun H locs hP hD hS => ?_)
            have hP : va_P (dC, dI) vwCl [(h0, .inr (3, [.ref ast, .ref aim, .ref akp, .ref awx, .ref awy, .ref apx, .ref apy, .int co, .ref alx, .ref aly, .int lf])), (ast, .inl (cI, 54, .inl (upd st_5 k_4.toNatClampNeg (im (((54 : Int32) * a0) + k_4).toNatClampNeg)))), (aim, .inl (cI, 108, .inl im)), (akp, .inl (cZ, 2, .inl kp)), (awx, .inl (cI, 8, .inl wx)), (awy, .inl (cI, 8, .inl wy)), (apx, .inl (cJ, 300, .inr (.inl px))), (apy, .inl (cJ, 300, .inr (.inl py))), (alx, .inl (cJ, 300, .inr (.inl lx))), (aly, .inl (cJ, 300, .inr (.inl ly)))] H := hP
            have hD : va_D A [(h0, .inr (3, [.ref ast, .ref aim, .ref akp, .ref awx, .ref awy, .ref apx, .ref apy, .int co, .ref alx, .ref aly, .int lf])), (ast, .inl (cI, 54, .inl (upd st_5 k_4.toNatClampNeg (im (((54 : Int32) * a0) + k_4).toNatClampNeg)))), (aim, .inl (cI, 108, .inl im)), (akp, .inl (cZ, 2, .inl kp)), (awx, .inl (cI, 8, .inl wx)), (awy, .inl (cI, 8, .inl wy)), (apx, .inl (cJ, 300, .inr (.inl px))), (apy, .inl (cJ, 300, .inr (.inl py))), (alx, .inl (cJ, 300, .inr (.inl lx))), (aly, .inl (cJ, 300, .inr (.inl ly)))] := hD
            refine lv_iinc (v := (k_4 + (1 : Int32))) (lv' := [(2, .int (k_4 + (1 : Int32))), (0, .ref h0), (1, .int a0)]) hx hb dX3_restore_49 hl (k := 0) rfl rfl (by decide) rfl (fun ls hl => ?_)
            refine lv_goto (tgt := 26) hx hb dX3_restore_52 (by decide) ?_
            exact ih_26 _ _ _ _ _ _ ls hF hP hD hS hl kx_26
      refine lp_26 1000 (0 : Int32) st o_6 o_7 _ _ ls hL_26 hP hD hS hl (fun H locs ls hP hD hS hl => ?_)
      refine lv_iconst (v := 1) hx hb dX3_restore_55 (by decide) ?_
      obtain ⟨e0, rfl⟩ := tp2 hF
      rw [← hQ]
      exact W.iret (v := (1 : Int32)) hx hb hr (fun t ht hW => ⟨⟨_, (), rfl, e0, by rw [ht]; exact hP, va_K.moved hW.alike hK, hD⟩, hS.F ht⟩) hS.2.2 dX3_restore_56
    · have hF := br1 hF c_3
      refine lv_bipush (v := -3) hx hb dX3_restore_21 (by decide) ?_
      obtain ⟨e0, rfl⟩ := tp2 hF
      rw [← hQ]
      exact W.iret (v := (-3 : Int32)) hx hb hr (fun t ht hW => ⟨⟨_, (), rfl, e0, by rw [ht]; exact hP, va_K.moved hW.alike hK, hD⟩, hS.F ht⟩) hS.2.2 dX3_restore_23
  · have hF := br1 hF c_2
    refine lv_bipush (v := -2) hx hb dX3_restore_9 (by decide) ?_
    obtain ⟨e0, rfl⟩ := tp2 hF
    rw [← hQ]
    exact W.iret (v := (-2 : Int32)) hx hb hr (fun t ht hW => ⟨⟨_, (), rfl, e0, by rw [ht]; exact hP, va_K.moved hW.alike hK, hD⟩, hS.F ht⟩) hS.2.2 dX3_restore_11

def P_X3_count (a0 : Int32) (st : Nat → Int32) (kp : Nat → Int32) : Option (Int32) :=
  bd1 (P_X3_in a0 (10 : Int32) (12 : Int32)) (fun r_1 =>
  if r_1 = (0 : Int32) then
    bd1 (P_X3_in a0 (0 : Int32) (2 : Int32)) (fun r_3 =>
    if r_3 = (0 : Int32) then
      if a0 = (3 : Int32) then
        some (((st (0 : Int32).toNatClampNeg) + (st (1 : Int32).toNatClampNeg)) + (st (2 : Int32).toNatClampNeg))
      else
        if a0 = (4 : Int32) then
          if (kp (0 : Int32).toNatClampNeg) = (0 : Int32) then
            if (kp (1 : Int32).toNatClampNeg) = (0 : Int32) then
              some ((0 : Int32) + (0 : Int32))
            else
              some ((0 : Int32) + (2 : Int32))
          else
            if (kp (1 : Int32).toNatClampNeg) = (0 : Int32) then
              some ((1 : Int32) + (0 : Int32))
            else
              some ((1 : Int32) + (2 : Int32))
        else
          some (-2 : Int32)
    else
      gd (ib ((0 : Int32) + a0) 54) (
      some (st ((0 : Int32) + a0).toNatClampNeg)))
  else
    gd (ib (((3 : Int32) + a0) - (10 : Int32)) 54) (
    some (st (((3 : Int32) + a0) - (10 : Int32)).toNatClampNeg)))

def rm_X3_count : Room := { frames := 1, cells := 0, slots := 0, locals := 22 }

set_option maxHeartbeats 4000000 in
set_option maxRecDepth 100000 in
theorem c_X3_count (l : Launch) (dC : Nat → ClassId) (dI : Nat → Nat → Nat) (h0 ast aim akp awx awy apx apy alx aly : Nat) (cI cZ cJ : ClassId) (st : Nat → Int32) (im : Nat → Int32) (kp : Nat → Int32) (wx : Nat → Int32) (wy : Nat → Int32) (px : Nat → Int64) (py : Nat → Int64) (co : Int32) (lx : Nat → Int64) (ly : Nat → Int64) (lf : Int32) (a0 : Int32) (r0 : Int32) (hF : P_X3_count a0 st kp = some r0) : Met l yX3_count wsX3_count rm_X3_count (va_Pc [.ref h0, .int a0] (fun U => va_P (dC, dI) vwCl [(h0, .inr (3, [.ref ast, .ref aim, .ref akp, .ref awx, .ref awy, .ref apx, .ref apy, .int co, .ref alx, .ref aly, .int lf])), (ast, .inl (cI, 54, .inl st)), (aim, .inl (cI, 108, .inl im)), (akp, .inl (cZ, 2, .inl kp)), (awx, .inl (cI, 8, .inl wx)), (awy, .inl (cI, 8, .inl wy)), (apx, .inl (cJ, 300, .inr (.inl px))), (apy, .inl (cJ, 300, .inr (.inl py))), (alx, .inl (cJ, 300, .inr (.inl lx))), (aly, .inl (cJ, 300, .inr (.inl ly)))] U.heap ∧ va_K (dC, dI) vwCl [(cI, .int), (cZ, .boolean), (cJ, .long)] U)) (vp_Si (fun x => x = r0)) 0 0 (fun _ => False) := by
  refine Met.ofW (cc := cX3_count) (maxL := 2) (ret := (some .int)) (by decide) rfl ?_
  intro p e s m args below meth c s₁ B hml hv
  change W p l e rm_X3_count s m args below meth c s.heap [] 0 0 _ _
  obtain ⟨hv, hP, hK⟩ := hv
  have hx := B.exec
  have hb := B.bytes
  have hr := B.returns
  have hts := atoms_spec (ws := wsX3_count) B.pre
  have hown : s.vm.findClass RX3 = some m.cls := findClass_of_methodNamed B.named
  have hlocks := B.notSynchronized
  generalize hQ : MQ below (vp_Si (fun x => x = r0)) args s 0 0 (fun _ => False) = Q
  have hl := lv_entry ([.ref h0, .int a0]) (n := 2) (Nat.le_of_ble_eq_true rfl)
  have hE : entryFrame m args 2 = F0 m 0 ((lg_sl ([.ref h0, .int a0]) ++ List.replicate (2 - (lg_sl ([.ref h0, .int a0])).length) Slot.unset).toArray) [] := by rw [hv]; exact lg_entry_eq m _ 2
  rw [hE]
  generalize (lg_sl ([.ref h0, .int a0]) ++ List.replicate (2 - (lg_sl ([.ref h0, .int a0])).length) Slot.unset).toArray = ls at hl ⊢
  have hl : lv_has ls 2 [(0, .ref h0), (1, .int a0)] := hl
  unfold P_X3_count at hF
  refine lv_iload_n hx hb dX3_count_0 rfl (lv_at hl 1 rfl) ?_
  refine lv_bipush (v := 10) hx hb dX3_count_1 (by decide) ?_
  refine lv_bipush (v := 12) hx hb dX3_count_3 (by decide) ?_
  obtain ⟨r_1, hr_1, hF⟩ := bd1_u hF
  refine vp_callSi (W.runS (As := [.int a0, .int (10 : Int32), .int (12 : Int32)]) (rest := []) ⟨hx, hb, hml, hown, hts⟩ (c_X3_in l a0 (10 : Int32) (12 : Int32) r_1 hr_1) (va_cwS 3 hts gX3_count_X3_in rfl rfl rfl (by decide +kernel) ⟨Nat.le_of_ble_eq_true rfl, Nat.le_of_ble_eq_true rfl⟩) preEq rfl rfl hl.1 rfl (lv_room (Nat.le_of_ble_eq_true rfl)) dX3_count_5 ⟨Nat.le_of_ble_eq_true rfl, Nat.le_of_ble_eq_true rfl⟩) (fun r_1' qr_1 => ?_)
  obtain rfl := qr_1.symm
  refine lv_if_eq (tgt := 23) hx hb dX3_count_8 (by decide) (fun c_2 => ?_) (fun c_2 => ?_)
  · have hF := br1 hF c_2
    refine lv_iload_n hx hb dX3_count_23 rfl (lv_at hl 1 rfl) ?_
    refine lv_iconst (v := 0) hx hb dX3_count_24 (by decide) ?_
    refine lv_iconst (v := 2) hx hb dX3_count_25 (by decide) ?_
    obtain ⟨r_3, hr_3, hF⟩ := bd1_u hF
    refine vp_callSi (W.runS (As := [.int a0, .int (0 : Int32), .int (2 : Int32)]) (rest := []) ⟨hx, hb, hml, hown, hts⟩ (c_X3_in l a0 (0 : Int32) (2 : Int32) r_3 hr_3) (va_cwS 3 hts gX3_count_X3_in rfl rfl rfl (by decide +kernel) ⟨Nat.le_of_ble_eq_true rfl, Nat.le_of_ble_eq_true rfl⟩) preEq rfl rfl hl.1 rfl (lv_room (Nat.le_of_ble_eq_true rfl)) dX3_count_26 ⟨Nat.le_of_ble_eq_true rfl, Nat.le_of_ble_eq_true rfl⟩) (fun r_3' qr_3 => ?_)
    obtain rfl := qr_3.symm
    refine lv_if_eq (tgt := 41) hx hb dX3_count_29 (by decide) (fun c_4 => ?_) (fun c_4 => ?_)
    · have hF := br1 hF c_4
      refine lv_iload_n hx hb dX3_count_41 rfl (lv_at hl 1 rfl) ?_
      refine lv_iconst (v := 3) hx hb dX3_count_42 (by decide) ?_
      refine lv_icmp_ne (tgt := 67) hx hb dX3_count_43 (by decide) (fun c_5 => ?_) (fun c_5 => ?_)
      · have hF := br0 hF c_5
        refine lv_iload_n hx hb dX3_count_67 rfl (lv_at hl 1 rfl) ?_
        refine lv_iconst (v := 4) hx hb dX3_count_68 (by decide) ?_
        refine lv_icmp_ne (tgt := 104) hx hb dX3_count_69 (by decide) (fun c_6 => ?_) (fun c_6 => ?_)
        · have hF := br0 hF c_6
          refine lv_bipush (v := -2) hx hb dX3_count_104 (by decide) ?_
          rw [← hQ]
          exact W.iret (v := (-2 : Int32)) hx hb hr (fun t ht hW => ⟨_, rfl, Option.some.inj hF, ht⟩) (fun _ h => by cases h) dX3_count_106
        · have hF := br1 hF c_6
          refine lv_aload_n hx hb dX3_count_72 rfl (lv_at hl 0 rfl) ?_
          refine va_get (D := (dC, dI)) (ci := 3) (v := .ref akp) (C := RX3) (T := TX3) (N := 11) hx hb hts (by decide +kernel) hown hK hP 0 rfl rfl 2 (by decide) (hts (.fieldLink RX3 16 "DotCoverModel" "isKept" "[Z") (by decide +kernel)) (fun _ h9 => h9) rfl dX3_count_73 ?_
          refine lv_iconst (v := 0) hx hb dX3_count_76 (by decide) ?_
          refine va_zald hx hb hK hP 3 1 rfl rfl (in_k (by decide)) dX3_count_77 ?_
          refine lv_if_eq (tgt := 85) hx hb dX3_count_78 (by decide) (fun c_7 => ?_) (fun c_7 => ?_)
          · have hF := br1 hF c_7
            refine lv_iconst (v := 0) hx hb dX3_count_85 (by decide) ?_
            refine lv_aload_n hx hb dX3_count_86 rfl (lv_at hl 0 rfl) ?_
            refine va_get (D := (dC, dI)) (ci := 3) (v := .ref akp) (C := RX3) (T := TX3) (N := 11) hx hb hts (by decide +kernel) hown hK hP 0 rfl rfl 2 (by decide) (hts (.fieldLink RX3 16 "DotCoverModel" "isKept" "[Z") (by decide +kernel)) (fun _ h9 => h9) rfl dX3_count_87 ?_
            refine lv_iconst (v := 1) hx hb dX3_count_90 (by decide) ?_
            refine va_zald hx hb hK hP 3 1 rfl rfl (in_k (by decide)) dX3_count_91 ?_
            refine lv_if_eq (tgt := 99) hx hb dX3_count_92 (by decide) (fun c_8 => ?_) (fun c_8 => ?_)
            · have hF := br1 hF c_8
              refine lv_iconst (v := 0) hx hb dX3_count_99 (by decide) ?_
              refine lv_iadd hx hb dX3_count_100 ?_
              refine lv_goto (tgt := 106) hx hb dX3_count_101 (by decide) ?_
              rw [← hQ]
              exact W.iret (v := ((0 : Int32) + (0 : Int32))) hx hb hr (fun t ht hW => ⟨_, rfl, Option.some.inj hF, ht⟩) (fun _ h => by cases h) dX3_count_106
            · have hF := br0 hF c_8
              refine lv_iconst (v := 2) hx hb dX3_count_95 (by decide) ?_
              refine lv_goto (tgt := 100) hx hb dX3_count_96 (by decide) ?_
              refine lv_iadd hx hb dX3_count_100 ?_
              refine lv_goto (tgt := 106) hx hb dX3_count_101 (by decide) ?_
              rw [← hQ]
              exact W.iret (v := ((0 : Int32) + (2 : Int32))) hx hb hr (fun t ht hW => ⟨_, rfl, Option.some.inj hF, ht⟩) (fun _ h => by cases h) dX3_count_106
          · have hF := br0 hF c_7
            refine lv_iconst (v := 1) hx hb dX3_count_81 (by decide) ?_
            refine lv_goto (tgt := 86) hx hb dX3_count_82 (by decide) ?_
            refine lv_aload_n hx hb dX3_count_86 rfl (lv_at hl 0 rfl) ?_
            refine va_get (D := (dC, dI)) (ci := 3) (v := .ref akp) (C := RX3) (T := TX3) (N := 11) hx hb hts (by decide +kernel) hown hK hP 0 rfl rfl 2 (by decide) (hts (.fieldLink RX3 16 "DotCoverModel" "isKept" "[Z") (by decide +kernel)) (fun _ h9 => h9) rfl dX3_count_87 ?_
            refine lv_iconst (v := 1) hx hb dX3_count_90 (by decide) ?_
            refine va_zald hx hb hK hP 3 1 rfl rfl (in_k (by decide)) dX3_count_91 ?_
            refine lv_if_eq (tgt := 99) hx hb dX3_count_92 (by decide) (fun c_9 => ?_) (fun c_9 => ?_)
            · have hF := br1 hF c_9
              refine lv_iconst (v := 0) hx hb dX3_count_99 (by decide) ?_
              refine lv_iadd hx hb dX3_count_100 ?_
              refine lv_goto (tgt := 106) hx hb dX3_count_101 (by decide) ?_
              rw [← hQ]
              exact W.iret (v := ((1 : Int32) + (0 : Int32))) hx hb hr (fun t ht hW => ⟨_, rfl, Option.some.inj hF, ht⟩) (fun _ h => by cases h) dX3_count_106
            · have hF := br0 hF c_9
              refine lv_iconst (v := 2) hx hb dX3_count_95 (by decide) ?_
              refine lv_goto (tgt := 100) hx hb dX3_count_96 (by decide) ?_
              refine lv_iadd hx hb dX3_count_100 ?_
              refine lv_goto (tgt := 106) hx hb dX3_count_101 (by decide) ?_
              rw [← hQ]
              exact W.iret (v := ((1 : Int32) + (2 : Int32))) hx hb hr (fun t ht hW => ⟨_, rfl, Option.some.inj hF, ht⟩) (fun _ h => by cases h) dX3_count_106
      · have hF := br1 hF c_5
        refine lv_aload_n hx hb dX3_count_46 rfl (lv_at hl 0 rfl) ?_
        refine va_get (D := (dC, dI)) (ci := 3) (v := .ref ast) (C := RX3) (T := TX3) (N := 11) hx hb hts (by decide +kernel) hown hK hP 0 rfl rfl 0 (by decide) (hts (.fieldLink RX3 7 "DotCoverModel" "state" "[I") (by decide +kernel)) (fun _ h9 => h9) rfl dX3_count_47 ?_
        refine lv_iconst (v := 0) hx hb dX3_count_50 (by decide) ?_
        refine va_iald hx hb hK hP 1 0 rfl rfl (in_k (by decide)) dX3_count_51 ?_
        refine lv_aload_n hx hb dX3_count_52 rfl (lv_at hl 0 rfl) ?_
        refine va_get (D := (dC, dI)) (ci := 3) (v := .ref ast) (C := RX3) (T := TX3) (N := 11) hx hb hts (by decide +kernel) hown hK hP 0 rfl rfl 0 (by decide) (hts (.fieldLink RX3 7 "DotCoverModel" "state" "[I") (by decide +kernel)) (fun _ h9 => h9) rfl dX3_count_53 ?_
        refine lv_iconst (v := 1) hx hb dX3_count_56 (by decide) ?_
        refine va_iald hx hb hK hP 1 0 rfl rfl (in_k (by decide)) dX3_count_57 ?_
        refine lv_iadd hx hb dX3_count_58 ?_
        refine lv_aload_n hx hb dX3_count_59 rfl (lv_at hl 0 rfl) ?_
        refine va_get (D := (dC, dI)) (ci := 3) (v := .ref ast) (C := RX3) (T := TX3) (N := 11) hx hb hts (by decide +kernel) hown hK hP 0 rfl rfl 0 (by decide) (hts (.fieldLink RX3 7 "DotCoverModel" "state" "[I") (by decide +kernel)) (fun _ h9 => h9) rfl dX3_count_60 ?_
        refine lv_iconst (v := 2) hx hb dX3_count_63 (by decide) ?_
        refine va_iald hx hb hK hP 1 0 rfl rfl (in_k (by decide)) dX3_count_64 ?_
        refine lv_iadd hx hb dX3_count_65 ?_
        rw [← hQ]
        exact W.iret (v := (((st (0 : Int32).toNatClampNeg) + (st (1 : Int32).toNatClampNeg)) + (st (2 : Int32).toNatClampNeg))) hx hb hr (fun t ht hW => ⟨_, rfl, Option.some.inj hF, ht⟩) (fun _ h => by cases h) dX3_count_66
    · have hF := br0 hF c_4
      refine lv_aload_n hx hb dX3_count_32 rfl (lv_at hl 0 rfl) ?_
      refine va_get (D := (dC, dI)) (ci := 3) (v := .ref ast) (C := RX3) (T := TX3) (N := 11) hx hb hts (by decide +kernel) hown hK hP 0 rfl rfl 0 (by decide) (hts (.fieldLink RX3 7 "DotCoverModel" "state" "[I") (by decide +kernel)) (fun _ h9 => h9) rfl dX3_count_33 ?_
      refine lv_iconst (v := 0) hx hb dX3_count_36 (by decide) ?_
      refine lv_iload_n hx hb dX3_count_37 rfl (lv_at hl 1 rfl) ?_
      refine lv_iadd hx hb dX3_count_38 ?_
      obtain ⟨hi_39, hF⟩ := gd_u hF
      refine va_iald hx hb hK hP 1 0 rfl rfl (in_u hi_39) dX3_count_39 ?_
      rw [← hQ]
      exact W.iret (v := (st ((0 : Int32) + a0).toNatClampNeg)) hx hb hr (fun t ht hW => ⟨_, rfl, Option.some.inj hF, ht⟩) (fun _ h => by cases h) dX3_count_40
  · have hF := br0 hF c_2
    refine lv_aload_n hx hb dX3_count_11 rfl (lv_at hl 0 rfl) ?_
    refine va_get (D := (dC, dI)) (ci := 3) (v := .ref ast) (C := RX3) (T := TX3) (N := 11) hx hb hts (by decide +kernel) hown hK hP 0 rfl rfl 0 (by decide) (hts (.fieldLink RX3 7 "DotCoverModel" "state" "[I") (by decide +kernel)) (fun _ h9 => h9) rfl dX3_count_12 ?_
    refine lv_iconst (v := 3) hx hb dX3_count_15 (by decide) ?_
    refine lv_iload_n hx hb dX3_count_16 rfl (lv_at hl 1 rfl) ?_
    refine lv_iadd hx hb dX3_count_17 ?_
    refine lv_bipush (v := 10) hx hb dX3_count_18 (by decide) ?_
    refine lv_isub hx hb dX3_count_20 ?_
    obtain ⟨hi_21, hF⟩ := gd_u hF
    refine va_iald hx hb hK hP 1 0 rfl rfl (in_u hi_21) dX3_count_21 ?_
    rw [← hQ]
    exact W.iret (v := (st (((3 : Int32) + a0) - (10 : Int32)).toNatClampNeg)) hx hb hr (fun t ht hW => ⟨_, rfl, Option.some.inj hF, ht⟩) (fun _ h => by cases h) dX3_count_22

