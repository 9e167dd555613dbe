def L_X0_copyFrom_2 (xs9 : Nat → Int32) (ys9 : Nat → Int32) : Nat → Int32 → (Nat → Int32) → (Nat → Int32) → Option (Int32 × (Nat → Int32) × (Nat → Int32))
  | 0, _, _, _ => none
  | n + 1, k_1, xs_2, ys_3 =>
    if (8 : Int32) ≤ k_1 then
      some (k_1, xs_2, ys_3)
    else
      gd (ib k_1 8) (
      gd (ib k_1 8) (
      gd (ib k_1 8) (
      gd (ib k_1 8) (
      L_X0_copyFrom_2 xs9 ys9 n (k_1 + (1 : Int32)) (upd xs_2 k_1.toNatClampNeg (xs9 k_1.toNatClampNeg)) (upd ys_3 k_1.toNatClampNeg (ys9 k_1.toNatClampNeg))))))
theorem L_X0_copyFrom_2_s (xs9 : Nat → Int32) (ys9 : Nat → Int32) (n : Nat) (k_1 : Int32) (xs_2 : Nat → Int32) (ys_3 : Nat → Int32) : L_X0_copyFrom_2 xs9 ys9 (n + 1) k_1 xs_2 ys_3 =
    (if (8 : Int32) ≤ k_1 then
      some (k_1, xs_2, ys_3)
    else
      gd (ib k_1 8) (
      gd (ib k_1 8) (
      gd (ib k_1 8) (
      gd (ib k_1 8) (
      L_X0_copyFrom_2 xs9 ys9 n (k_1 + (1 : Int32)) (upd xs_2 k_1.toNatClampNeg (xs9 k_1.toNatClampNeg)) (upd ys_3 k_1.toNatClampNeg (ys9 k_1.toNatClampNeg))))))) := rfl

def P_X0_copyFrom (xs : Nat → Int32) (ys : Nat → Int32) (xs9 : Nat → Int32) (ys9 : Nat → Int32) (sz9 : Int32) (fo9 : Int32) : Option ((Nat → Int32) × (Nat → Int32) × Int32 × Int32) :=
  bd3 (L_X0_copyFrom_2 xs9 ys9 1000 (0 : Int32) xs ys) (fun o_4 o_5 o_6 =>
  some (o_5, o_6, sz9, fo9))

def rm_X0_copyFrom : Room := { frames := 0, cells := 0, slots := 0, locals := 0 }

set_option maxHeartbeats 4000000 in
set_option maxRecDepth 100000 in
theorem c_X0_copyFrom (l : Launch) (dC : Nat → ClassId) (dI : Nat → Nat → Nat) (h0 xa ya h9 xa9 ya9 : Nat) (cI : ClassId) (hsz0 : Nat) (xs : Nat → Int32) (ys : Nat → Int32) (sz : Int32) (fo : Int32) (xs9 : Nat → Int32) (ys9 : Nat → Int32) (sz9 : Int32) (fo9 : Int32) (xsN : Nat → Int32) (ysN : Nat → Int32) (szN : Int32) (foN : Int32) (hF : P_X0_copyFrom xs ys xs9 ys9 sz9 fo9 = some (xsN, ysN, szN, foN)) : Met l yX0_copyFrom wsX0_copyFrom rm_X0_copyFrom (va_Pc [.ref h0, .ref h9] (fun U => U.heap.size = hsz0 ∧ va_P (dC, dI) vwCl [(h0, .inr (0, [.ref xa, .ref ya, .int sz, .int fo])), (xa, .inl (cI, 8, .inl xs)), (ya, .inl (cI, 8, .inl ys)), (h9, .inr (0, [.ref xa9, .ref ya9, .int sz9, .int fo9])), (xa9, .inl (cI, 8, .inl xs9)), (ya9, .inl (cI, 8, .inl ys9))] U.heap ∧ va_K (dC, dI) vwCl [(cI, .int)] U ∧ va_D (fun _ => True) [(h0, .inr (0, [.ref xa, .ref ya, .int sz, .int fo])), (xa, .inl (cI, 8, .inl xs)), (ya, .inl (cI, 8, .inl ys)), (h9, .inr (0, [.ref xa9, .ref ya9, .int sz9, .int fo9])), (xa9, .inl (cI, 8, .inl xs9)), (ya9, .inl (cI, 8, .inl ys9))])) (va_Qv (fun (_ : Unit) => True) (fun _ t => va_P (dC, dI) vwCl [(h0, .inr (0, [.ref xa, .ref ya, .int szN, .int foN])), (xa, .inl (cI, 8, .inl xsN)), (ya, .inl (cI, 8, .inl ysN)), (h9, .inr (0, [.ref xa9, .ref ya9, .int sz9, .int fo9])), (xa9, .inl (cI, 8, .inl xs9)), (ya9, .inl (cI, 8, .inl ys9))] t.heap ∧ va_K (dC, dI) vwCl [(cI, .int)] t ∧ va_D (va_A [(h0, .inr (0, [.ref xa, .ref ya, .int sz, .int fo])), (xa, .inl (cI, 8, .inl xs)), (ya, .inl (cI, 8, .inl ys)), (h9, .inr (0, [.ref xa9, .ref ya9, .int sz9, .int fo9])), (xa9, .inl (cI, 8, .inl xs9)), (ya9, .inl (cI, 8, .inl ys9))] hsz0) [(h0, .inr (0, [.ref xa, .ref ya, .int szN, .int foN])), (xa, .inl (cI, 8, .inl xsN)), (ya, .inl (cI, 8, .inl ysN)), (h9, .inr (0, [.ref xa9, .ref ya9, .int sz9, .int fo9])), (xa9, .inl (cI, 8, .inl xs9)), (ya9, .inl (cI, 8, .inl ys9))]) (va_A [(h0, .inr (0, [.ref xa, .ref ya, .int sz, .int fo])), (xa, .inl (cI, 8, .inl xs)), (ya, .inl (cI, 8, .inl ys)), (h9, .inr (0, [.ref xa9, .ref ya9, .int sz9, .int fo9])), (xa9, .inl (cI, 8, .inl xs9)), (ya9, .inl (cI, 8, .inl ys9))] hsz0)) 0 0 (va_A [(h0, .inr (0, [.ref xa, .ref ya, .int sz, .int fo])), (xa, .inl (cI, 8, .inl xs)), (ya, .inl (cI, 8, .inl ys)), (h9, .inr (0, [.ref xa9, .ref ya9, .int sz9, .int fo9])), (xa9, .inl (cI, 8, .inl xs9)), (ya9, .inl (cI, 8, .inl ys9))] hsz0) := by
  refine Met.ofW (cc := cX0_copyFrom) (maxL := 3) (ret := none) (by decide) rfl ?_
  intro p e s m args below meth c s₁ B hml hv
  change W p l e rm_X0_copyFrom s m args below meth c s.heap [] 0 0 _ _
  obtain ⟨hv, hsz, hP, hK, hD0⟩ := hv
  have hx := B.exec
  have hb := B.bytes
  have hr := B.returns
  have hts := atoms_spec (ws := wsX0_copyFrom) B.pre
  have hown : s.vm.findClass RX0 = some m.cls := findClass_of_methodNamed B.named
  have hlocks := B.notSynchronized
  subst hsz
  have hD := hD0.self (sz := s.heap.size)
  generalize hAe : va_A [(h0, .inr (0, [.ref xa, .ref ya, .int sz, .int fo])), (xa, .inl (cI, 8, .inl xs)), (ya, .inl (cI, 8, .inl ys)), (h9, .inr (0, [.ref xa9, .ref ya9, .int sz9, .int fo9])), (xa9, .inl (cI, 8, .inl xs9)), (ya9, .inl (cI, 8, .inl ys9))] s.heap.size = A at hD ⊢
  have hA : ∀ q : Nat, s.heap.size ≤ q → A q := fun q h => by rw [← hAe]; exact Or.inr h
  have hS : va_S A s.heap s.heap [] := va_S.rf
  generalize hQ : MQ below (va_Qv (fun (_ : Unit) => True) (fun _ t => va_P (dC, dI) vwCl [(h0, .inr (0, [.ref xa, .ref ya, .int szN, .int foN])), (xa, .inl (cI, 8, .inl xsN)), (ya, .inl (cI, 8, .inl ysN)), (h9, .inr (0, [.ref xa9, .ref ya9, .int sz9, .int fo9])), (xa9, .inl (cI, 8, .inl xs9)), (ya9, .inl (cI, 8, .inl ys9))] t.heap ∧ va_K (dC, dI) vwCl [(cI, .int)] t ∧ va_D A [(h0, .inr (0, [.ref xa, .ref ya, .int szN, .int foN])), (xa, .inl (cI, 8, .inl xsN)), (ya, .inl (cI, 8, .inl ysN)), (h9, .inr (0, [.ref xa9, .ref ya9, .int sz9, .int fo9])), (xa9, .inl (cI, 8, .inl xs9)), (ya9, .inl (cI, 8, .inl ys9))]) A) args s 0 0 A = Q
  have hl := lv_entry ([.ref h0, .ref h9]) (n := 3) (Nat.le_of_ble_eq_true rfl)
  have hE : entryFrame m args 3 = F0 m 0 ((lg_sl ([.ref h0, .ref h9]) ++ List.replicate (3 - (lg_sl ([.ref h0, .ref h9])).length) Slot.unset).toArray) [] := by rw [hv]; exact lg_entry_eq m _ 3
  rw [hE]
  generalize (lg_sl ([.ref h0, .ref h9]) ++ List.replicate (3 - (lg_sl ([.ref h0, .ref h9])).length) Slot.unset).toArray = ls at hl ⊢
  have hl : lv_has ls 3 [(0, .ref h0), (1, .ref h9)] := hl
  unfold P_X0_copyFrom at hF
  refine lv_iconst (v := 0) hx hb dX0_copyFrom_0 (by decide) ?_
  refine lv_istore_n (lv' := [(2, .int (0 : Int32)), (0, .ref h0), (1, .ref h9)]) hx hb dX0_copyFrom_1 rfl hl (by decide) rfl (fun ls hl => ?_)
  obtain ⟨o_4, o_5, o_6, hL_2, hF⟩ := bd3_u hF
  have lp_2 : ∀ (n : Nat) (k_1 : Int32) (xs_2 : Nat → Int32) (ys_3 : Nat → Int32) (o_4 : Int32) (o_5 : Nat → Int32) (o_6 : Nat → Int32) (H : Heap) (locs : List Loc) (ls : Array Slot), L_X0_copyFrom_2 xs9 ys9 n k_1 xs_2 ys_3 = some (o_4, o_5, o_6) → va_P (dC, dI) vwCl [(h0, .inr (0, [.ref xa, .ref ya, .int sz, .int fo])), (xa, .inl (cI, 8, .inl xs_2)), (ya, .inl (cI, 8, .inl ys_3)), (h9, .inr (0, [.ref xa9, .ref ya9, .int sz9, .int fo9])), (xa9, .inl (cI, 8, .inl xs9)), (ya9, .inl (cI, 8, .inl ys9))] H → va_D A [(h0, .inr (0, [.ref xa, .ref ya, .int sz, .int fo])), (xa, .inl (cI, 8, .inl xs_2)), (ya, .inl (cI, 8, .inl ys_3)), (h9, .inr (0, [.ref xa9, .ref ya9, .int sz9, .int fo9])), (xa9, .inl (cI, 8, .inl xs9)), (ya9, .inl (cI, 8, .inl ys9))] → va_S A s.heap H locs → lv_has ls 3 [(2, .int k_1), (0, .ref h0), (1, .ref h9)] → (∀ (H : Heap) (locs : List Loc) (ls : Array Slot), va_P (dC, dI) vwCl [(h0, .inr (0, [.ref xa, .ref ya, .int sz, .int fo])), (xa, .inl (cI, 8, .inl o_5)), (ya, .inl (cI, 8, .inl o_6)), (h9, .inr (0, [.ref xa9, .ref ya9, .int sz9, .int fo9])), (xa9, .inl (cI, 8, .inl xs9)), (ya9, .inl (cI, 8, .inl ys9))] H → va_D A [(h0, .inr (0, [.ref xa, .ref ya, .int sz, .int fo])), (xa, .inl (cI, 8, .inl o_5)), (ya, .inl (cI, 8, .inl o_6)), (h9, .inr (0, [.ref xa9, .ref ya9, .int sz9, .int fo9])), (xa9, .inl (cI, 8, .inl xs9)), (ya9, .inl (cI, 8, .inl ys9))] → va_S A s.heap H locs → lv_has ls 3 [(2, .int o_4), (0, .ref h0), (1, .ref h9)] → W p l e rm_X0_copyFrom s m args below meth c H locs 0 0 Q (F0 m 38 ls [])) → W p l e rm_X0_copyFrom s m args below meth c H locs 0 0 Q (F0 m 2 ls []) := by
    intro n
    induction n with
    | zero =>
      intro k_1 xs_2 ys_3 o_4 o_5 o_6 H locs ls hF
      exact nn ((rfl : L_X0_copyFrom_2 xs9 ys9 0 k_1 xs_2 ys_3 = none).symm.trans hF)
    | succ n ih_2 =>
      intro k_1 xs_2 ys_3 o_4 o_5 o_6 H locs ls hF hP hD hS hl kx_2
      have hF := (L_X0_copyFrom_2_s xs9 ys9 n k_1 xs_2 ys_3).symm.trans hF
      refine lv_iload_n hx hb dX0_copyFrom_2 rfl (lv_at hl 0 rfl) ?_
      refine lv_bipush (v := 8) hx hb dX0_copyFrom_3 (by decide) ?_
      refine lv_icmp_ge (tgt := 38) hx hb dX0_copyFrom_5 (by decide) (fun c_7 => ?_) (fun c_7 => ?_)
      · have hF := br1 hF c_7
        obtain ⟨rfl, rfl, rfl⟩ := tp3 hF
        exact kx_2 _ _ ls hP hD hS hl
      · have hF := br0 hF c_7
        refine lv_aload_n hx hb dX0_copyFrom_8 rfl (lv_at hl 1 rfl) ?_
        refine va_get (D := (dC, dI)) (ci := 0) (v := .ref xa) (C := RX0) (T := TX0) (N := 4) hx hb hts (by decide +kernel) hown hK hP 0 rfl rfl 0 (by decide) (hts (.fieldLink RX0 9 "DotCover$Layer" "xs" "[I") (by decide +kernel)) (fun _ h9 => h9) rfl dX0_copyFrom_9 ?_
        refine lv_iload_n hx hb dX0_copyFrom_12 rfl (lv_at hl 0 rfl) ?_
        refine lv_aload_n hx hb dX0_copyFrom_13 rfl (lv_at hl 2 rfl) ?_
        refine va_get (D := (dC, dI)) (ci := 0) (v := .ref xa9) (C := RX0) (T := TX0) (N := 4) hx hb hts (by decide +kernel) hown hK hP 3 rfl rfl 0 (by decide) (hts (.fieldLink RX0 9 "DotCover$Layer" "xs" "[I") (by decide +kernel)) (fun _ h9 => h9) rfl dX0_copyFrom_14 ?_
        refine lv_iload_n hx hb dX0_copyFrom_17 rfl (lv_at hl 0 rfl) ?_
        obtain ⟨hi_18, hF⟩ := gd_u hF
        refine va_iald hx hb hK hP 4 0 rfl rfl (in_u hi_18) dX0_copyFrom_18 ?_
        obtain ⟨hi_19, hF⟩ := gd_u hF
        refine va_iast hx hb hK hP hD hS 1 0 rfl rfl (in_u hi_19) dX0_copyFrom_19 (fun H locs hP hD hS => ?_)
        have hP : va_P (dC, dI) vwCl [(h0, .inr (0, [.ref xa, .ref ya, .int sz, .int fo])), (xa, .inl (cI, 8, .inl (upd xs_2 k_1.toNatClampNeg (xs9 k_1.toNatClampNeg)))), (ya, .inl (cI, 8, .inl ys_3)), (h9, .inr (0, [.ref xa9, .ref ya9, .int sz9, .int fo9])), (xa9, .inl (cI, 8, .inl xs9)), (ya9, .inl (cI, 8, .inl ys9))] H := hP
        have hD : va_D A [(h0, .inr (0, [.ref xa, .ref ya, .int sz, .int fo])), (xa, .inl (cI, 8, .inl (upd xs_2 k_1.toNatClampNeg (xs9 k_1.toNatClampNeg)))), (ya, .inl (cI, 8, .inl ys_3)), (h9, .inr (0, [.ref xa9, .ref ya9, .int sz9, .int fo9])), (xa9, .inl (cI, 8, .inl xs9)), (ya9, .inl (cI, 8, .inl ys9))] := hD
        refine lv_aload_n hx hb dX0_copyFrom_20 rfl (lv_at hl 1 rfl) ?_
        refine va_get (D := (dC, dI)) (ci := 0) (v := .ref ya) (C := RX0) (T := TX0) (N := 4) hx hb hts (by decide +kernel) hown hK hP 0 rfl rfl 1 (by decide) (hts (.fieldLink RX0 15 "DotCover$Layer" "ys" "[I") (by decide +kernel)) (fun _ h9 => h9) rfl dX0_copyFrom_21 ?_
        refine lv_iload_n hx hb dX0_copyFrom_24 rfl (lv_at hl 0 rfl) ?_
        refine lv_aload_n hx hb dX0_copyFrom_25 rfl (lv_at hl 2 rfl) ?_
        refine va_get (D := (dC, dI)) (ci := 0) (v := .ref ya9) (C := RX0) (T := TX0) (N := 4) hx hb hts (by decide +kernel) hown hK hP 3 rfl rfl 1 (by decide) (hts (.fieldLink RX0 15 "DotCover$Layer" "ys" "[I") (by decide +kernel)) (fun _ h9 => h9) rfl dX0_copyFrom_26 ?_
        refine lv_iload_n hx hb dX0_copyFrom_29 rfl (lv_at hl 0 rfl) ?_
        obtain ⟨hi_30, hF⟩ := gd_u hF
        refine va_iald hx hb hK hP 5 0 rfl rfl (in_u hi_30) dX0_copyFrom_30 ?_
        obtain ⟨hi_31, hF⟩ := gd_u hF
        refine va_iast hx hb hK hP hD hS 2 0 rfl rfl (in_u hi_31) dX0_copyFrom_31 (fun H locs hP hD hS => ?_)
        have hP : va_P (dC, dI) vwCl [(h0, .inr (0, [.ref xa, .ref ya, .int sz, .int fo])), (xa, .inl (cI, 8, .inl (upd xs_2 k_1.toNatClampNeg (xs9 k_1.toNatClampNeg)))), (ya, .inl (cI, 8, .inl (upd ys_3 k_1.toNatClampNeg (ys9 k_1.toNatClampNeg)))), (h9, .inr (0, [.ref xa9, .ref ya9, .int sz9, .int fo9])), (xa9, .inl (cI, 8, .inl xs9)), (ya9, .inl (cI, 8, .inl ys9))] H := hP
        have hD : va_D A [(h0, .inr (0, [.ref xa, .ref ya, .int sz, .int fo])), (xa, .inl (cI, 8, .inl (upd xs_2 k_1.toNatClampNeg (xs9 k_1.toNatClampNeg)))), (ya, .inl (cI, 8, .inl (upd ys_3 k_1.toNatClampNeg (ys9 k_1.toNatClampNeg)))), (h9, .inr (0, [.ref xa9, .ref ya9, .int sz9, .int fo9])), (xa9, .inl (cI, 8, .inl xs9)), (ya9, .inl (cI, 8, .inl ys9))] := hD
        refine lv_iinc (v := (k_1 + (1 : Int32))) (lv' := [(2, .int (k_1 + (1 : Int32))), (0, .ref h0), (1, .ref h9)]) hx hb dX0_copyFrom_32 hl (k := 0) rfl rfl (by decide) rfl (fun ls hl => ?_)
        refine lv_goto (tgt := 2) hx hb dX0_copyFrom_35 (by decide) ?_
        exact ih_2 _ _ _ _ _ _ _ _ ls hF hP hD hS hl kx_2
  refine lp_2 1000 (0 : Int32) xs ys o_4 o_5 o_6 _ _ ls hL_2 hP hD hS hl (fun H locs ls hP hD hS hl => ?_)
  refine lv_aload_n hx hb dX0_copyFrom_38 rfl (lv_at hl 1 rfl) ?_
  refine lv_aload_n hx hb dX0_copyFrom_39 rfl (lv_at hl 2 rfl) ?_
  refine va_get (D := (dC, dI)) (ci := 0) (v := .int sz9) (C := RX0) (T := TX0) (N := 4) hx hb hts (by decide +kernel) hown hK hP 3 rfl rfl 2 (by decide) (hts (.fieldLink RX0 18 "DotCover$Layer" "size" "I") (by decide +kernel)) (fun _ h9 => h9) rfl dX0_copyFrom_40 ?_
  refine va_put (D := (dC, dI)) (ci := 0) (v := .int sz9) (ty := .int) (C := RX0) (T := TX0) (N := 4) hx hb hts (by decide +kernel) tyX0 tyX0_ok nmX0 hown hK hP hD hS 0 rfl rfl 2 (by decide) (hts (.fieldLink RX0 18 "DotCover$Layer" "size" "I") (by decide +kernel)) (fun _ h9 => h9) rfl (by decide +kernel) rfl rfl (Nat.le_of_ble_eq_true rfl) dX0_copyFrom_43 (fun H locs hP hD hS => ?_)
  have hP : va_P (dC, dI) vwCl [(h0, .inr (0, [.ref xa, .ref ya, .int sz9, .int fo])), (xa, .inl (cI, 8, .inl o_5)), (ya, .inl (cI, 8, .inl o_6)), (h9, .inr (0, [.ref xa9, .ref ya9, .int sz9, .int fo9])), (xa9, .inl (cI, 8, .inl xs9)), (ya9, .inl (cI, 8, .inl ys9))] H := hP
  have hD : va_D A [(h0, .inr (0, [.ref xa, .ref ya, .int sz9, .int fo])), (xa, .inl (cI, 8, .inl o_5)), (ya, .inl (cI, 8, .inl o_6)), (h9, .inr (0, [.ref xa9, .ref ya9, .int sz9, .int fo9])), (xa9, .inl (cI, 8, .inl xs9)), (ya9, .inl (cI, 8, .inl ys9))] := hD
  refine lv_aload_n hx hb dX0_copyFrom_46 rfl (lv_at hl 1 rfl) ?_
  refine lv_aload_n hx hb dX0_copyFrom_47 rfl (lv_at hl 2 rfl) ?_
  refine va_get (D := (dC, dI)) (ci := 0) (v := .int fo9) (C := RX0) (T := TX0) (N := 4) hx hb hts (by decide +kernel) hown hK hP 3 rfl rfl 3 (by decide) (hts (.fieldLink RX0 22 "DotCover$Layer" "folding" "I") (by decide +kernel)) (fun _ h9 => h9) rfl dX0_copyFrom_48 ?_
  refine va_put (D := (dC, dI)) (ci := 0) (v := .int fo9) (ty := .int) (C := RX0) (T := TX0) (N := 4) hx hb hts (by decide +kernel) tyX0 tyX0_ok nmX0 hown hK hP hD hS 0 rfl rfl 3 (by decide) (hts (.fieldLink RX0 22 "DotCover$Layer" "folding" "I") (by decide +kernel)) (fun _ h9 => h9) rfl (by decide +kernel) rfl rfl (Nat.le_of_ble_eq_true rfl) dX0_copyFrom_51 (fun H locs hP hD hS => ?_)
  have hP : va_P (dC, dI) vwCl [(h0, .inr (0, [.ref xa, .ref ya, .int sz9, .int fo9])), (xa, .inl (cI, 8, .inl o_5)), (ya, .inl (cI, 8, .inl o_6)), (h9, .inr (0, [.ref xa9, .ref ya9, .int sz9, .int fo9])), (xa9, .inl (cI, 8, .inl xs9)), (ya9, .inl (cI, 8, .inl ys9))] H := hP
  have hD : va_D A [(h0, .inr (0, [.ref xa, .ref ya, .int sz9, .int fo9])), (xa, .inl (cI, 8, .inl o_5)), (ya, .inl (cI, 8, .inl o_6)), (h9, .inr (0, [.ref xa9, .ref ya9, .int sz9, .int fo9])), (xa9, .inl (cI, 8, .inl xs9)), (ya9, .inl (cI, 8, .inl ys9))] := hD
  obtain ⟨rfl, rfl, rfl, rfl⟩ := tp4 hF
  rw [← hQ]
  exact W.vret hx hb hr (fun t ht hW => ⟨⟨(), rfl, trivial, by rw [ht]; exact hP, va_K.moved hW.alike hK, hD⟩, hS.F ht⟩) hS.2.2 dX0_copyFrom_54

def L_X0_staysInField_2 (xs : Nat → Int32) (ys : Nat → Int32) (sz : Int32) (a0 : Int32) (a1 : Int32) : Nat → Int32 → Option (Int32)
  | 0, _ => none
  | n + 1, k_1 =>
    if sz ≤ k_1 then
      some (1 : Int32)
    else
      gd (ib k_1 8) (
      bd1 (P_X2_inField ((xs k_1.toNatClampNeg) + a0)) (fun r_3 =>
      if r_3 = (0 : Int32) then
        some (0 : Int32)
      else
        gd (ib k_1 8) (
        bd1 (P_X2_inField ((ys k_1.toNatClampNeg) + a1)) (fun r_5 =>
        if r_5 = (0 : Int32) then
          some (0 : Int32)
        else
          L_X0_staysInField_2 xs ys sz a0 a1 n (k_1 + (1 : Int32))))))
theorem L_X0_staysInField_2_s (xs : Nat → Int32) (ys : Nat → Int32) (sz : Int32) (a0 : Int32) (a1 : Int32) (n : Nat) (k_1 : Int32) : L_X0_staysInField_2 xs ys sz a0 a1 (n + 1) k_1 =
    (if sz ≤ k_1 then
      some (1 : Int32)
    else
      gd (ib k_1 8) (
      bd1 (P_X2_inField ((xs k_1.toNatClampNeg) + a0)) (fun r_3 =>
      if r_3 = (0 : Int32) then
        some (0 : Int32)
      else
        gd (ib k_1 8) (
        bd1 (P_X2_inField ((ys k_1.toNatClampNeg) + a1)) (fun r_5 =>
        if r_5 = (0 : Int32) then
          some (0 : Int32)
        else
          L_X0_staysInField_2 xs ys sz a0 a1 n (k_1 + (1 : Int32))))))) := rfl

def P_X0_staysInField (a0 : Int32) (a1 : Int32) (xs : Nat → Int32) (ys : Nat → Int32) (sz : Int32) : Option (Int32) :=
  L_X0_staysInField_2 xs ys sz a0 a1 1000 (0 : Int32)

def rm_X0_staysInField : Room := { frames := 2, cells := 0, slots := 0, locals := 42 }

set_option maxHeartbeats 4000000 in
set_option maxRecDepth 100000 in
theorem c_X0_staysInField (l : Launch) (dC : Nat → ClassId) (dI : Nat → Nat → Nat) (h0 xa ya : Nat) (cI : ClassId) (xs : Nat → Int32) (ys : Nat → Int32) (sz : Int32) (fo : Int32) (a0 : Int32) (a1 : Int32) (r0 : Int32) (hF : P_X0_staysInField a0 a1 xs ys sz = some r0) : Met l yX0_staysInField wsX0_staysInField rm_X0_staysInField (va_Pc [.ref h0, .int a0, .int a1] (fun U => va_P (dC, dI) vwCl [(h0, .inr (0, [.ref xa, .ref ya, .int sz, .int fo])), (xa, .inl (cI, 8, .inl xs)), (ya, .inl (cI, 8, .inl ys))] U.heap ∧ va_K (dC, dI) vwCl [(cI, .int)] U ∧ nw U)) (vp_Si (fun x => x = r0)) 0 0 (fun _ => False) := by
  refine Met.ofW (cc := cX0_staysInField) (maxL := 4) (ret := (some .boolean)) (by decide) rfl ?_
  intro p e s m args below meth c s₁ B hml hv
  change W p l e rm_X0_staysInField s m args below meth c s.heap [] 0 0 _ _
  obtain ⟨hv, hP, hK, hN⟩ := hv
  have hx := B.exec
  have hb := B.bytes
  have hr := B.returns
  have hts := atoms_spec (ws := wsX0_staysInField) B.pre
  have hown : s.vm.findClass RX0 = some m.cls := findClass_of_methodNamed B.named
  have hlocks := B.notSynchronized
  have hN_RX0_25 := hN.1
  have hN_RX1_18 := hN.2.1
  have hN_RX1_26 := hN.2.2.1
  have hN_RX2_32 := hN.2.2.2.1
  have hN_RX2_44 := hN.2.2.2.2.1
  have hN_RX2_48 := hN.2.2.2.2.2.1
  have hN_RX2_55 := hN.2.2.2.2.2.2
  generalize hQ : MQ below (vp_Si (fun x => x = r0)) args s 0 0 (fun _ => False) = Q
  have hl := lv_entry ([.ref h0, .int a0, .int a1]) (n := 4) (Nat.le_of_ble_eq_true rfl)
  have hE : entryFrame m args 4 = F0 m 0 ((lg_sl ([.ref h0, .int a0, .int a1]) ++ List.replicate (4 - (lg_sl ([.ref h0, .int a0, .int a1])).length) Slot.unset).toArray) [] := by rw [hv]; exact lg_entry_eq m _ 4
  rw [hE]
  generalize (lg_sl ([.ref h0, .int a0, .int a1]) ++ List.replicate (4 - (lg_sl ([.ref h0, .int a0, .int a1])).length) Slot.unset).toArray = ls at hl ⊢
  have hl : lv_has ls 4 [(0, .ref h0), (1, .int a0), (2, .int a1)] := hl
  unfold P_X0_staysInField at hF
  refine lv_iconst (v := 0) hx hb dX0_staysInField_0 (by decide) ?_
  refine lv_istore_n (lv' := [(3, .int (0 : Int32)), (0, .ref h0), (1, .int a0), (2, .int a1)]) hx hb dX0_staysInField_1 rfl hl (by decide) rfl (fun ls hl => ?_)
  have lp_2 : ∀ (n : Nat) (k_1 : Int32) (ls : Array Slot), L_X0_staysInField_2 xs ys sz a0 a1 n k_1 = some r0 → lv_has ls 4 [(3, .int k_1), (0, .ref h0), (1, .int a0), (2, .int a1)] → W p l e rm_X0_staysInField s m args below meth c s.heap [] 0 0 Q (F0 m 2 ls []) := by
    intro n
    induction n with
    | zero =>
      intro k_1 ls hF
      exact nn ((rfl : L_X0_staysInField_2 xs ys sz a0 a1 0 k_1 = none).symm.trans hF)
    | succ n ih_2 =>
      intro k_1 ls hF hl
      have hF := (L_X0_staysInField_2_s xs ys sz a0 a1 n k_1).symm.trans hF
      refine lv_iload_n hx hb dX0_staysInField_2 rfl (lv_at hl 0 rfl) ?_
      refine lv_aload_n hx hb dX0_staysInField_3 rfl (lv_at hl 1 rfl) ?_
      refine va_get (D := (dC, dI)) (ci := 0) (v := .int sz) (C := RX0) (T := TX0) (N := 4) hx hb hts (by decide +kernel) hown hK hP 0 rfl rfl 2 (by decide) (hts (.fieldLink RX0 18 "DotCover$Layer" "size" "I") (by decide +kernel)) (fun _ h9 => h9) rfl dX0_staysInField_4 ?_
      refine lv_icmp_ge (tgt := 46) hx hb dX0_staysInField_7 (by decide) (fun c_2 => ?_) (fun c_2 => ?_)
      · have hF := br1 hF c_2
        refine lv_iconst (v := 1) hx hb dX0_staysInField_46 (by decide) ?_
        rw [← hQ]
        exact W.zret (ty := .boolean) (v := (1 : Int32)) hx hb hr rfl (fun t ht hW => ⟨_, rfl, Option.some.inj hF, ht⟩) (fun _ h => by cases h) dX0_staysInField_47
      · have hF := br0 hF c_2
        refine lv_aload_n hx hb dX0_staysInField_10 rfl (lv_at hl 1 rfl) ?_
        refine va_get (D := (dC, dI)) (ci := 0) (v := .ref xa) (C := RX0) (T := TX0) (N := 4) hx hb hts (by decide +kernel) hown hK hP 0 rfl rfl 0 (by decide) (hts (.fieldLink RX0 9 "DotCover$Layer" "xs" "[I") (by decide +kernel)) (fun _ h9 => h9) rfl dX0_staysInField_11 ?_
        refine lv_iload_n hx hb dX0_staysInField_14 rfl (lv_at hl 0 rfl) ?_
        obtain ⟨hi_15, hF⟩ := gd_u hF
        refine va_iald hx hb hK hP 1 0 rfl rfl (in_u hi_15) dX0_staysInField_15 ?_
        refine lv_iload_n hx hb dX0_staysInField_16 rfl (lv_at hl 2 rfl) ?_
        refine lv_iadd hx hb dX0_staysInField_17 ?_
        obtain ⟨r_3, hr_3, hF⟩ := bd1_u hF
        refine vp_callSi ((va_runSN (As := [.int ((xs k_1.toNatClampNeg) + a0)]) (rest := []) ⟨hx, hb, hml, hown, hts⟩ (c_X2_inField l ((xs k_1.toNatClampNeg) + a0) r_3 hr_3) ⟨va_cnB 1 hts gX0_staysInField_X2_inField_n25 rfl rfl rfl hN_RX0_25 (hts (.initialized RX2) (by decide +kernel)) (by decide +kernel) ⟨Nat.le_of_ble_eq_true rfl, Nat.le_of_ble_eq_true rfl⟩, hts (.static yX2_inField) (by decide +kernel), trivial⟩ preEq rfl rfl hl.1 rfl (lv_room (Nat.le_of_ble_eq_true rfl)) dX0_staysInField_18 ⟨Nat.le_of_ble_eq_true rfl, Nat.le_of_ble_eq_true rfl⟩)).run (fun r_3' qr_3 => ?_)
        obtain rfl := qr_3.symm
        refine lv_if_eq (tgt := 38) hx hb dX0_staysInField_21 (by decide) (fun c_4 => ?_) (fun c_4 => ?_)
        · have hF := br1 hF c_4
          refine lv_iconst (v := 0) hx hb dX0_staysInField_38 (by decide) ?_
          rw [← hQ]
          exact W.zret (ty := .boolean) (v := (0 : Int32)) hx hb hr rfl (fun t ht hW => ⟨_, rfl, Option.some.inj hF, ht⟩) (fun _ h => by cases h) dX0_staysInField_39
        · have hF := br0 hF c_4
          refine lv_aload_n hx hb dX0_staysInField_24 rfl (lv_at hl 1 rfl) ?_
          refine va_get (D := (dC, dI)) (ci := 0) (v := .ref ya) (C := RX0) (T := TX0) (N := 4) hx hb hts (by decide +kernel) hown hK hP 0 rfl rfl 1 (by decide) (hts (.fieldLink RX0 15 "DotCover$Layer" "ys" "[I") (by decide +kernel)) (fun _ h9 => h9) rfl dX0_staysInField_25 ?_
          refine lv_iload_n hx hb dX0_staysInField_28 rfl (lv_at hl 0 rfl) ?_
          obtain ⟨hi_29, hF⟩ := gd_u hF
          refine va_iald hx hb hK hP 2 0 rfl rfl (in_u hi_29) dX0_staysInField_29 ?_
          refine lv_iload_n hx hb dX0_staysInField_30 rfl (lv_at hl 3 rfl) ?_
          refine lv_iadd hx hb dX0_staysInField_31 ?_
          obtain ⟨r_5, hr_5, hF⟩ := bd1_u hF
          refine vp_callSi ((va_runSN (As := [.int ((ys k_1.toNatClampNeg) + a1)]) (rest := []) ⟨hx, hb, hml, hown, hts⟩ (c_X2_inField l ((ys k_1.toNatClampNeg) + a1) r_5 hr_5) ⟨va_cnB 1 hts gX0_staysInField_X2_inField_n25 rfl rfl rfl hN_RX0_25 (hts (.initialized RX2) (by decide +kernel)) (by decide +kernel) ⟨Nat.le_of_ble_eq_true rfl, Nat.le_of_ble_eq_true rfl⟩, hts (.static yX2_inField) (by decide +kernel), trivial⟩ preEq rfl rfl hl.1 rfl (lv_room (Nat.le_of_ble_eq_true rfl)) dX0_staysInField_32 ⟨Nat.le_of_ble_eq_true rfl, Nat.le_of_ble_eq_true rfl⟩)).run (fun r_5' qr_5 => ?_)
          obtain rfl := qr_5.symm
          refine lv_if_ne (tgt := 40) hx hb dX0_staysInField_35 (by decide) (fun c_6 => ?_) (fun c_6 => ?_)
          · have hF := br0 hF c_6
            refine lv_iinc (v := (k_1 + (1 : Int32))) (lv' := [(3, .int (k_1 + (1 : Int32))), (0, .ref h0), (1, .int a0), (2, .int a1)]) hx hb dX0_staysInField_40 hl (k := 0) rfl rfl (by decide) rfl (fun ls hl => ?_)
            refine lv_goto (tgt := 2) hx hb dX0_staysInField_43 (by decide) ?_
            exact ih_2 _ ls hF hl
          · have hF := br1 hF c_6
            refine lv_iconst (v := 0) hx hb dX0_staysInField_38 (by decide) ?_
            rw [← hQ]
            exact W.zret (ty := .boolean) (v := (0 : Int32)) hx hb hr rfl (fun t ht hW => ⟨_, rfl, Option.some.inj hF, ht⟩) (fun _ h => by cases h) dX0_staysInField_39
  exact lp_2 1000 (0 : Int32) ls hF hl

def L_X0_bestMove_87 (xs : Nat → Int32) (ys : Nat → Int32) (sz : Int32) (fo : Int32) (r_1 : Int32) (r_2 : Int32) (r_4 : Int32) (k_6 : Int32) (k_16 : Int32) : Nat → Int32 → Int32 → Option (Int32 × Int32)
  | 0, _, _ => none
  | n + 1, k_26, k_27 =>
    if (r_4 + k_16) ≤ ((3 : Int32) * k_26) then
      some (k_26, k_27)
    else
      bd1 (P_X0_wholeDots k_26 r_1 r_2 k_6 k_16 xs ys sz fo) (fun r_31 =>
      nm (k_27 + r_31) (fun v_32 =>
      L_X0_bestMove_87 xs ys sz fo r_1 r_2 r_4 k_6 k_16 n (k_26 + (1 : Int32)) v_32))
theorem L_X0_bestMove_87_s (xs : Nat → Int32) (ys : Nat → Int32) (sz : Int32) (fo : Int32) (r_1 : Int32) (r_2 : Int32) (r_4 : Int32) (k_6 : Int32) (k_16 : Int32) (n : Nat) (k_26 : Int32) (k_27 : Int32) : L_X0_bestMove_87 xs ys sz fo r_1 r_2 r_4 k_6 k_16 (n + 1) k_26 k_27 =
    (if (r_4 + k_16) ≤ ((3 : Int32) * k_26) then
      some (k_26, k_27)
    else
      bd1 (P_X0_wholeDots k_26 r_1 r_2 k_6 k_16 xs ys sz fo) (fun r_31 =>
      nm (k_27 + r_31) (fun v_32 =>
      L_X0_bestMove_87 xs ys sz fo r_1 r_2 r_4 k_6 k_16 n (k_26 + (1 : Int32)) v_32))) := rfl

def L_X0_bestMove_65 (xs : Nat → Int32) (ys : Nat → Int32) (sz : Int32) (fo : Int32) (r_1 : Int32) (r_2 : Int32) (r_3 : Int32) (r_4 : Int32) (k_6 : Int32) : Nat → Int32 → Int32 → Int32 → Int32 → Option (Int32 × Int32 × Int32 × Int32)
  | 0, _, _, _, _ => none
  | n + 1, k_16, k_17, k_18, k_19 =>
    if ((12 : Int32) - r_4) < k_16 then
      some (k_16, k_17, k_18, k_19)
    else
      nm ((r_3 + k_16) / (3 : Int32)) (fun v_25 =>
      bd2 (L_X0_bestMove_87 xs ys sz fo r_1 r_2 r_4 k_6 k_16 1000 v_25 (0 : Int32)) (fun o_28 o_29 =>
      if o_29 ≤ k_19 then
        L_X0_bestMove_65 xs ys sz fo r_1 r_2 r_3 r_4 k_6 n (k_16 + (1 : Int32)) k_17 k_18 k_19
      else
        L_X0_bestMove_65 xs ys sz fo r_1 r_2 r_3 r_4 k_6 n (k_16 + (1 : Int32)) k_16 k_6 o_29))
theorem L_X0_bestMove_65_s (xs : Nat → Int32) (ys : Nat → Int32) (sz : Int32) (fo : Int32) (r_1 : Int32) (r_2 : Int32) (r_3 : Int32) (r_4 : Int32) (k_6 : Int32) (n : Nat) (k_16 : Int32) (k_17 : Int32) (k_18 : Int32) (k_19 : Int32) : L_X0_bestMove_65 xs ys sz fo r_1 r_2 r_3 r_4 k_6 (n + 1) k_16 k_17 k_18 k_19 =
    (if ((12 : Int32) - r_4) < k_16 then
      some (k_16, k_17, k_18, k_19)
    else
      nm ((r_3 + k_16) / (3 : Int32)) (fun v_25 =>
      bd2 (L_X0_bestMove_87 xs ys sz fo r_1 r_2 r_4 k_6 k_16 1000 v_25 (0 : Int32)) (fun o_28 o_29 =>
      if o_29 ≤ k_19 then
        L_X0_bestMove_65 xs ys sz fo r_1 r_2 r_3 r_4 k_6 n (k_16 + (1 : Int32)) k_17 k_18 k_19
      else
        L_X0_bestMove_65 xs ys sz fo r_1 r_2 r_3 r_4 k_6 n (k_16 + (1 : Int32)) k_16 k_6 o_29))) := rfl

def L_X0_bestMove_51 (xs : Nat → Int32) (ys : Nat → Int32) (sz : Int32) (fo : Int32) (r_1 : Int32) (r_2 : Int32) (r_3 : Int32) (r_4 : Int32) : Nat → Int32 → Int32 → Int32 → Int32 → Option (Int32 × Int32 × Int32 × Int32)
  | 0, _, _, _, _ => none
  | n + 1, k_6, k_7, k_8, k_9 =>
    if ((12 : Int32) - r_2) < k_6 then
      some (k_6, k_7, k_8, k_9)
    else
      nm (-r_3) (fun v_15 =>
      bd4 (L_X0_bestMove_65 xs ys sz fo r_1 r_2 r_3 r_4 k_6 1000 v_15 k_7 k_8 k_9) (fun o_20 o_21 o_22 o_23 =>
      L_X0_bestMove_51 xs ys sz fo r_1 r_2 r_3 r_4 n (k_6 + (1 : Int32)) o_21 o_22 o_23))
theorem L_X0_bestMove_51_s (xs : Nat → Int32) (ys : Nat → Int32) (sz : Int32) (fo : Int32) (r_1 : Int32) (r_2 : Int32) (r_3 : Int32) (r_4 : Int32) (n : Nat) (k_6 : Int32) (k_7 : Int32) (k_8 : Int32) (k_9 : Int32) : L_X0_bestMove_51 xs ys sz fo r_1 r_2 r_3 r_4 (n + 1) k_6 k_7 k_8 k_9 =
    (if ((12 : Int32) - r_2) < k_6 then
      some (k_6, k_7, k_8, k_9)
    else
      nm (-r_3) (fun v_15 =>
      bd4 (L_X0_bestMove_65 xs ys sz fo r_1 r_2 r_3 r_4 k_6 1000 v_15 k_7 k_8 k_9) (fun o_20 o_21 o_22 o_23 =>
      L_X0_bestMove_51 xs ys sz fo r_1 r_2 r_3 r_4 n (k_6 + (1 : Int32)) o_21 o_22 o_23))) := rfl

def P_X0_bestMove (a0 : Int32) (xs : Nat → Int32) (ys : Nat → Int32) (sz : Int32) (fo : Int32) : Option (Int32) :=
  bd1 (P_X0_least_x xs sz) (fun r_1 =>
  bd1 (P_X0_greatest_x xs sz) (fun r_2 =>
  bd1 (P_X0_least_y ys sz) (fun r_3 =>
  bd1 (P_X0_greatest_y ys sz) (fun r_4 =>
  nm (-r_1) (fun v_5 =>
  bd4 (L_X0_bestMove_51 xs ys sz fo r_1 r_2 r_3 r_4 1000 v_5 (0 : Int32) (0 : Int32) (-1 : Int32)) (fun o_10 o_11 o_12 o_13 =>
  if a0 = (2 : Int32) then
    some o_13
  else
    if a0 = (0 : Int32) then
      some ((100 : Int32) + o_12)
    else
      some ((100 : Int32) + o_11)))))))

def rm_X0_bestMove : Room := { frames := 5, cells := 0, slots := 0, locals := 141 }

set_option maxHeartbeats 4000000 in
set_option maxRecDepth 100000 in
theorem c_X0_bestMove (l : Launch) (dC : Nat → ClassId) (dI : Nat → Nat → Nat) (h0 xa ya : Nat) (cI : ClassId) (xs : Nat → Int32) (ys : Nat → Int32) (sz : Int32) (fo : Int32) (a0 : Int32) (r0 : Int32) (hF : P_X0_bestMove a0 xs ys sz fo = some r0) : Met l yX0_bestMove wsX0_bestMove rm_X0_bestMove (va_Pc [.ref h0, .int a0] (fun U => va_P (dC, dI) vwCl [(h0, .inr (0, [.ref xa, .ref ya, .int sz, .int fo])), (xa, .inl (cI, 8, .inl xs)), (ya, .inl (cI, 8, .inl ys))] U.heap ∧ va_K (dC, dI) vwCl [(cI, .int)] U)) (vp_Si (fun x => x = r0)) 0 0 (fun _ => False) := by
  refine Met.ofW (cc := cX0_bestMove) (maxL := 13) (ret := (some .int)) (by decide) rfl ?_
  intro p e s m args below meth c s₁ B hml hv
  change W p l e rm_X0_bestMove s m args below meth c s.heap [] 0 0 _ _
  obtain ⟨hv, hP, hK⟩ := hv
  have hx := B.exec
  have hb := B.bytes
  have hr := B.returns
  have hts := atoms_spec (ws := wsX0_bestMove) B.pre
  have hown : s.vm.findClass RX0 = some m.cls := findClass_of_methodNamed B.named
  have hlocks := B.notSynchronized
  generalize hQ : MQ below (vp_Si (fun x => x = r0)) args s 0 0 (fun _ => False) = Q
  have hl := lv_entry ([.ref h0, .int a0]) (n := 13) (Nat.le_of_ble_eq_true rfl)
  have hE : entryFrame m args 13 = F0 m 0 ((lg_sl ([.ref h0, .int a0]) ++ List.replicate (13 - (lg_sl ([.ref h0, .int a0])).length) Slot.unset).toArray) [] := by rw [hv]; exact lg_entry_eq m _ 13
  rw [hE]
  generalize (lg_sl ([.ref h0, .int a0]) ++ List.replicate (13 - (lg_sl ([.ref h0, .int a0])).length) Slot.unset).toArray = ls at hl ⊢
  have hl : lv_has ls 13 [(0, .ref h0), (1, .int a0)] := hl
  unfold P_X0_bestMove at hF
  refine lv_aload_n hx hb dX0_bestMove_0 rfl (lv_at hl 0 rfl) ?_
  refine lv_aload_n hx hb dX0_bestMove_1 rfl (lv_at hl 0 rfl) ?_
  refine va_get (D := (dC, dI)) (ci := 0) (v := .ref xa) (C := RX0) (T := TX0) (N := 4) hx hb hts (by decide +kernel) hown hK hP 0 rfl rfl 0 (by decide) (hts (.fieldLink RX0 9 "DotCover$Layer" "xs" "[I") (by decide +kernel)) (fun _ h9 => h9) rfl dX0_bestMove_2 ?_
  obtain ⟨r_1, hr_1, hF⟩ := bd1_u hF
  have hPc := hP.sub (ws' := [(h0, .inr (0, [.ref xa, .ref ya, .int sz, .int fo])), (xa, .inl (cI, 8, .inl xs)), (ya, .inl (cI, 8, .inl ys))]) [0, 1, 2] rfl
  have hKc := hK.sub (tys' := [(cI, .int)]) [0] rfl
  refine vp_callSi (W.runV (As := [.ref xa]) (rest := []) ⟨hx, hb, hml, hown, hts⟩ (c_X0_least_x l dC dI h0 xa ya cI xs ys sz fo r_1 hr_1) (cwV 1 hts gX0_bestMove_X0_least rfl rfl rfl (by decide +kernel) ⟨Nat.le_of_ble_eq_true rfl, Nat.le_of_ble_eq_true rfl⟩) ⟨fun a U g mk q => ⟨q.1, q.2.1, va_K.moved (u := U) (U := U.calling g mk a) (Vm.Alike.refl U.vm) q.2.2⟩, va_recv hKc hPc (ci := 0) (q0 := 0) rfl rfl, fun U hU hW => ⟨rfl, by rw [hU]; exact hPc, va_K.moved hW.alike hKc⟩⟩ rfl rfl hl.1 rfl (lv_room (Nat.le_of_ble_eq_true rfl)) dX0_bestMove_5 ⟨Nat.le_of_ble_eq_true rfl, Nat.le_of_ble_eq_true rfl⟩) (fun r_1' qr_1 => ?_)
  obtain rfl := qr_1.symm
  refine lv_istore_n (lv' := [(2, .int r_1), (0, .ref h0), (1, .int a0)]) hx hb dX0_bestMove_8 rfl hl (by decide) rfl (fun ls hl => ?_)
  refine lv_aload_n hx hb dX0_bestMove_9 rfl (lv_at hl 1 rfl) ?_
  refine lv_aload_n hx hb dX0_bestMove_10 rfl (lv_at hl 1 rfl) ?_
  refine va_get (D := (dC, dI)) (ci := 0) (v := .ref xa) (C := RX0) (T := TX0) (N := 4) hx hb hts (by decide +kernel) hown hK hP 0 rfl rfl 0 (by decide) (hts (.fieldLink RX0 9 "DotCover$Layer" "xs" "[I") (by decide +kernel)) (fun _ h9 => h9) rfl dX0_bestMove_11 ?_
  obtain ⟨r_2, hr_2, hF⟩ := bd1_u hF
  have hPc := hP.sub (ws' := [(h0, .inr (0, [.ref xa, .ref ya, .int sz, .int fo])), (xa, .inl (cI, 8, .inl xs)), (ya, .inl (cI, 8, .inl ys))]) [0, 1, 2] rfl
  have hKc := hK.sub (tys' := [(cI, .int)]) [0] rfl
  refine vp_callSi (W.runV (As := [.ref xa]) (rest := []) ⟨hx, hb, hml, hown, hts⟩ (c_X0_greatest_x l dC dI h0 xa ya cI xs ys sz fo r_2 hr_2) (cwV 1 hts gX0_bestMove_X0_greatest rfl rfl rfl (by decide +kernel) ⟨Nat.le_of_ble_eq_true rfl, Nat.le_of_ble_eq_true rfl⟩) ⟨fun a U g mk q => ⟨q.1, q.2.1, va_K.moved (u := U) (U := U.calling g mk a) (Vm.Alike.refl U.vm) q.2.2⟩, va_recv hKc hPc (ci := 0) (q0 := 0) rfl rfl, fun U hU hW => ⟨rfl, by rw [hU]; exact hPc, va_K.moved hW.alike hKc⟩⟩ rfl rfl hl.1 rfl (lv_room (Nat.le_of_ble_eq_true rfl)) dX0_bestMove_14 ⟨Nat.le_of_ble_eq_true rfl, Nat.le_of_ble_eq_true rfl⟩) (fun r_2' qr_2 => ?_)
  obtain rfl := qr_2.symm
  refine lv_istore_n (lv' := [(3, .int r_2), (2, .int r_1), (0, .ref h0), (1, .int a0)]) hx hb dX0_bestMove_17 rfl hl (by decide) rfl (fun ls hl => ?_)
  refine lv_aload_n hx hb dX0_bestMove_18 rfl (lv_at hl 2 rfl) ?_
  refine lv_aload_n hx hb dX0_bestMove_19 rfl (lv_at hl 2 rfl) ?_
  refine va_get (D := (dC, dI)) (ci := 0) (v := .ref ya) (C := RX0) (T := TX0) (N := 4) hx hb hts (by decide +kernel) hown hK hP 0 rfl rfl 1 (by decide) (hts (.fieldLink RX0 15 "DotCover$Layer" "ys" "[I") (by decide +kernel)) (fun _ h9 => h9) rfl dX0_bestMove_20 ?_
  obtain ⟨r_3, hr_3, hF⟩ := bd1_u hF
  have hPc := hP.sub (ws' := [(h0, .inr (0, [.ref xa, .ref ya, .int sz, .int fo])), (xa, .inl (cI, 8, .inl xs)), (ya, .inl (cI, 8, .inl ys))]) [0, 1, 2] rfl
  have hKc := hK.sub (tys' := [(cI, .int)]) [0] rfl
  refine vp_callSi (W.runV (As := [.ref ya]) (rest := []) ⟨hx, hb, hml, hown, hts⟩ (c_X0_least_y l dC dI h0 xa ya cI xs ys sz fo r_3 hr_3) (cwV 1 hts gX0_bestMove_X0_least rfl rfl rfl (by decide +kernel) ⟨Nat.le_of_ble_eq_true rfl, Nat.le_of_ble_eq_true rfl⟩) ⟨fun a U g mk q => ⟨q.1, q.2.1, va_K.moved (u := U) (U := U.calling g mk a) (Vm.Alike.refl U.vm) q.2.2⟩, va_recv hKc hPc (ci := 0) (q0 := 0) rfl rfl, fun U hU hW => ⟨rfl, by rw [hU]; exact hPc, va_K.moved hW.alike hKc⟩⟩ rfl rfl hl.1 rfl (lv_room (Nat.le_of_ble_eq_true rfl)) dX0_bestMove_23 ⟨Nat.le_of_ble_eq_true rfl, Nat.le_of_ble_eq_true rfl⟩) (fun r_3' qr_3 => ?_)
  obtain rfl := qr_3.symm
  refine lv_istore (lv' := [(4, .int r_3), (3, .int r_2), (2, .int r_1), (0, .ref h0), (1, .int a0)]) hx hb dX0_bestMove_26 hl (by decide) rfl (fun ls hl => ?_)
  refine lv_aload_n hx hb dX0_bestMove_28 rfl (lv_at hl 3 rfl) ?_
  refine lv_aload_n hx hb dX0_bestMove_29 rfl (lv_at hl 3 rfl) ?_
  refine va_get (D := (dC, dI)) (ci := 0) (v := .ref ya) (C := RX0) (T := TX0) (N := 4) hx hb hts (by decide +kernel) hown hK hP 0 rfl rfl 1 (by decide) (hts (.fieldLink RX0 15 "DotCover$Layer" "ys" "[I") (by decide +kernel)) (fun _ h9 => h9) rfl dX0_bestMove_30 ?_
  obtain ⟨r_4, hr_4, hF⟩ := bd1_u hF
  have hPc := hP.sub (ws' := [(h0, .inr (0, [.ref xa, .ref ya, .int sz, .int fo])), (xa, .inl (cI, 8, .inl xs)), (ya, .inl (cI, 8, .inl ys))]) [0, 1, 2] rfl
  have hKc := hK.sub (tys' := [(cI, .int)]) [0] rfl
  refine vp_callSi (W.runV (As := [.ref ya]) (rest := []) ⟨hx, hb, hml, hown, hts⟩ (c_X0_greatest_y l dC dI h0 xa ya cI xs ys sz fo r_4 hr_4) (cwV 1 hts gX0_bestMove_X0_greatest rfl rfl rfl (by decide +kernel) ⟨Nat.le_of_ble_eq_true rfl, Nat.le_of_ble_eq_true rfl⟩) ⟨fun a U g mk q => ⟨q.1, q.2.1, va_K.moved (u := U) (U := U.calling g mk a) (Vm.Alike.refl U.vm) q.2.2⟩, va_recv hKc hPc (ci := 0) (q0 := 0) rfl rfl, fun U hU hW => ⟨rfl, by rw [hU]; exact hPc, va_K.moved hW.alike hKc⟩⟩ rfl rfl hl.1 rfl (lv_room (Nat.le_of_ble_eq_true rfl)) dX0_bestMove_33 ⟨Nat.le_of_ble_eq_true rfl, Nat.le_of_ble_eq_true rfl⟩) (fun r_4' qr_4 => ?_)
  obtain rfl := qr_4.symm
  refine lv_istore (lv' := [(5, .int r_4), (4, .int r_3), (3, .int r_2), (2, .int r_1), (0, .ref h0), (1, .int a0)]) hx hb dX0_bestMove_36 hl (by decide) rfl (fun ls hl => ?_)
  refine lv_iconst (v := -1) hx hb dX0_bestMove_38 (by decide) ?_
  refine lv_istore (lv' := [(6, .int (-1 : Int32)), (5, .int r_4), (4, .int r_3), (3, .int r_2), (2, .int r_1), (0, .ref h0), (1, .int a0)]) hx hb dX0_bestMove_39 hl (by decide) rfl (fun ls hl => ?_)
  refine lv_iconst (v := 0) hx hb dX0_bestMove_41 (by decide) ?_
  refine lv_istore (lv' := [(7, .int (0 : Int32)), (6, .int (-1 : Int32)), (5, .int r_4), (4, .int r_3), (3, .int r_2), (2, .int r_1), (0, .ref h0), (1, .int a0)]) hx hb dX0_bestMove_42 hl (by decide) rfl (fun ls hl => ?_)
  refine lv_iconst (v := 0) hx hb dX0_bestMove_44 (by decide) ?_
  refine lv_istore (lv' := [(8, .int (0 : Int32)), (7, .int (0 : Int32)), (6, .int (-1 : Int32)), (5, .int r_4), (4, .int r_3), (3, .int r_2), (2, .int r_1), (0, .ref h0), (1, .int a0)]) hx hb dX0_bestMove_45 hl (by decide) rfl (fun ls hl => ?_)
  refine lv_iload_n hx hb dX0_bestMove_47 rfl (lv_at hl 6 rfl) ?_
  refine lv_ineg hx hb dX0_bestMove_48 ?_
  refine lv_topi (fun v_5 ev_5 => ?_)
  have hF := nm_u hF ev_5
  refine lv_istore (lv' := [(9, .int v_5), (8, .int (0 : Int32)), (7, .int (0 : Int32)), (6, .int (-1 : Int32)), (5, .int r_4), (4, .int r_3), (3, .int r_2), (2, .int r_1), (0, .ref h0), (1, .int a0)]) hx hb dX0_bestMove_49 hl (by decide) rfl (fun ls hl => ?_)
  obtain ⟨o_10, o_11, o_12, o_13, hL_51, hF⟩ := bd4_u hF
  have lp_51 : ∀ (n : Nat) (k_6 : Int32) (k_7 : Int32) (k_8 : Int32) (k_9 : Int32) (o_10 : Int32) (o_11 : Int32) (o_12 : Int32) (o_13 : Int32) (ls : Array Slot), L_X0_bestMove_51 xs ys sz fo r_1 r_2 r_3 r_4 n k_6 k_7 k_8 k_9 = some (o_10, o_11, o_12, o_13) → lv_has ls 13 [(9, .int k_6), (8, .int k_7), (7, .int k_8), (6, .int k_9), (5, .int r_4), (4, .int r_3), (3, .int r_2), (2, .int r_1), (0, .ref h0), (1, .int a0)] → (∀ (ls : Array Slot), lv_has ls 13 [(9, .int o_10), (8, .int o_11), (7, .int o_12), (6, .int o_13), (5, .int r_4), (4, .int r_3), (3, .int r_2), (2, .int r_1), (0, .ref h0), (1, .int a0)] → W p l e rm_X0_bestMove s m args below meth c s.heap [] 0 0 Q (F0 m 153 ls [])) → W p l e rm_X0_bestMove s m args below meth c s.heap [] 0 0 Q (F0 m 51 ls []) := by
    intro n
    induction n with
    | zero =>
      intro k_6 k_7 k_8 k_9 o_10 o_11 o_12 o_13 ls hF
      exact nn ((rfl : L_X0_bestMove_51 xs ys sz fo r_1 r_2 r_3 r_4 0 k_6 k_7 k_8 k_9 = none).symm.trans hF)
    | succ n ih_51 =>
      intro k_6 k_7 k_8 k_9 o_10 o_11 o_12 o_13 ls hF hl kx_51
      have hF := (L_X0_bestMove_51_s xs ys sz fo r_1 r_2 r_3 r_4 n k_6 k_7 k_8 k_9).symm.trans hF
      refine lv_iload hx hb dX0_bestMove_51 (lv_at hl 0 rfl) ?_
      refine lv_bipush (v := 12) hx hb dX0_bestMove_53 (by decide) ?_
      refine lv_iload_n hx hb dX0_bestMove_55 rfl (lv_at hl 6 rfl) ?_
      refine lv_isub hx hb dX0_bestMove_56 ?_
      refine lv_icmp_gt (tgt := 153) hx hb dX0_bestMove_57 (by decide) (fun c_14 => ?_) (fun c_14 => ?_)
      · have hF := br1 hF c_14
        obtain ⟨rfl, rfl, rfl, rfl⟩ := tp4 hF
        exact kx_51 ls hl
      · have hF := br0 hF c_14
        refine lv_iload hx hb dX0_bestMove_60 (lv_at hl 5 rfl) ?_
        refine lv_ineg hx hb dX0_bestMove_62 ?_
        refine lv_topi (fun v_15 ev_15 => ?_)
        have hF := nm_u hF ev_15
        refine lv_istore (lv' := [(10, .int v_15), (9, .int k_6), (8, .int k_7), (7, .int k_8), (6, .int k_9), (5, .int r_4), (4, .int r_3), (3, .int r_2), (2, .int r_1), (0, .ref h0), (1, .int a0)]) hx hb dX0_bestMove_63 hl (by decide) rfl (fun ls hl => ?_)
        obtain ⟨o_20, o_21, o_22, o_23, hL_65, hF⟩ := bd4_u hF
        have lp_65 : ∀ (n : Nat) (k_16 : Int32) (k_17 : Int32) (k_18 : Int32) (k_19 : Int32) (o_20 : Int32) (o_21 : Int32) (o_22 : Int32) (o_23 : Int32) (ls : Array Slot), L_X0_bestMove_65 xs ys sz fo r_1 r_2 r_3 r_4 k_6 n k_16 k_17 k_18 k_19 = some (o_20, o_21, o_22, o_23) → lv_has ls 13 [(10, .int k_16), (9, .int k_6), (8, .int k_17), (7, .int k_18), (6, .int k_19), (5, .int r_4), (4, .int r_3), (3, .int r_2), (2, .int r_1), (0, .ref h0), (1, .int a0)] → (∀ (ls : Array Slot), lv_has ls 13 [(10, .int o_20), (9, .int k_6), (8, .int o_21), (7, .int o_22), (6, .int o_23), (5, .int r_4), (4, .int r_3), (3, .int r_2), (2, .int r_1), (0, .ref h0), (1, .int a0)] → W p l e rm_X0_bestMove s m args below meth c s.heap [] 0 0 Q (F0 m 147 ls [])) → W p l e rm_X0_bestMove s m args below meth c s.heap [] 0 0 Q (F0 m 65 ls []) := by
          intro n
          induction n with
          | zero =>
            intro k_16 k_17 k_18 k_19 o_20 o_21 o_22 o_23 ls hF
            exact nn ((rfl : L_X0_bestMove_65 xs ys sz fo r_1 r_2 r_3 r_4 k_6 0 k_16 k_17 k_18 k_19 = none).symm.trans hF)
          | succ n ih_65 =>
            intro k_16 k_17 k_18 k_19 o_20 o_21 o_22 o_23 ls hF hl kx_65
            have hF := (L_X0_bestMove_65_s xs ys sz fo r_1 r_2 r_3 r_4 k_6 n k_16 k_17 k_18 k_19).symm.trans hF
            refine lv_iload hx hb dX0_bestMove_65 (lv_at hl 0 rfl) ?_
            refine lv_bipush (v := 12) hx hb dX0_bestMove_67 (by decide) ?_
            refine lv_iload hx hb dX0_bestMove_69 (lv_at hl 5 rfl) ?_
            refine lv_isub hx hb dX0_bestMove_71 ?_
            refine lv_icmp_gt (tgt := 147) hx hb dX0_bestMove_72 (by decide) (fun c_24 => ?_) (fun c_24 => ?_)
            · have hF := br1 hF c_24
              obtain ⟨rfl, rfl, rfl, rfl⟩ := tp4 hF
              exact kx_65 ls hl
            · have hF := br0 hF c_24
              refine lv_iconst (v := 0) hx hb dX0_bestMove_75 (by decide) ?_
              refine lv_istore (lv' := [(11, .int (0 : Int32)), (10, .int k_16), (9, .int k_6), (8, .int k_17), (7, .int k_18), (6, .int k_19), (5, .int r_4), (4, .int r_3), (3, .int r_2), (2, .int r_1), (0, .ref h0), (1, .int a0)]) hx hb dX0_bestMove_76 hl (by decide) rfl (fun ls hl => ?_)
              refine lv_iload hx hb dX0_bestMove_78 (lv_at hl 7 rfl) ?_
              refine lv_iload hx hb dX0_bestMove_80 (lv_at hl 1 rfl) ?_
              refine lv_iadd hx hb dX0_bestMove_82 ?_
              refine lv_iconst (v := 3) hx hb dX0_bestMove_83 (by decide) ?_
              refine lv_idiv hx hb dX0_bestMove_84 (by decide) ?_
              refine lv_topi (fun v_25 ev_25 => ?_)
              have hF := nm_u hF ev_25
              refine lv_istore (lv' := [(12, .int v_25), (11, .int (0 : Int32)), (10, .int k_16), (9, .int k_6), (8, .int k_17), (7, .int k_18), (6, .int k_19), (5, .int r_4), (4, .int r_3), (3, .int r_2), (2, .int r_1), (0, .ref h0), (1, .int a0)]) hx hb dX0_bestMove_85 hl (by decide) rfl (fun ls hl => ?_)
              obtain ⟨o_28, o_29, hL_87, hF⟩ := bd2_u hF
              have lp_87 : ∀ (n : Nat) (k_26 : Int32) (k_27 : Int32) (o_28 : Int32) (o_29 : Int32) (ls : Array Slot), L_X0_bestMove_87 xs ys sz fo r_1 r_2 r_4 k_6 k_16 n k_26 k_27 = some (o_28, o_29) → lv_has ls 13 [(12, .int k_26), (11, .int k_27), (10, .int k_16), (9, .int k_6), (8, .int k_17), (7, .int k_18), (6, .int k_19), (5, .int r_4), (4, .int r_3), (3, .int r_2), (2, .int r_1), (0, .ref h0), (1, .int a0)] → (∀ (ls : Array Slot), lv_has ls 13 [(12, .int o_28), (11, .int o_29), (10, .int k_16), (9, .int k_6), (8, .int k_17), (7, .int k_18), (6, .int k_19), (5, .int r_4), (4, .int r_3), (3, .int r_2), (2, .int r_1), (0, .ref h0), (1, .int a0)] → W p l e rm_X0_bestMove s m args below meth c s.heap [] 0 0 Q (F0 m 122 ls [])) → W p l e rm_X0_bestMove s m args below meth c s.heap [] 0 0 Q (F0 m 87 ls []) := by
                intro n
                induction n with
                | zero =>
                  intro k_26 k_27 o_28 o_29 ls hF
                  exact nn ((rfl : L_X0_bestMove_87 xs ys sz fo r_1 r_2 r_4 k_6 k_16 0 k_26 k_27 = none).symm.trans hF)
                | succ n ih_87 =>
                  intro k_26 k_27 o_28 o_29 ls hF hl kx_87
                  have hF := (L_X0_bestMove_87_s xs ys sz fo r_1 r_2 r_4 k_6 k_16 n k_26 k_27).symm.trans hF
                  refine lv_iconst (v := 3) hx hb dX0_bestMove_87 (by decide) ?_
                  refine lv_iload hx hb dX0_bestMove_88 (lv_at hl 0 rfl) ?_
                  refine lv_imul hx hb dX0_bestMove_90 ?_
                  refine lv_iload hx hb dX0_bestMove_91 (lv_at hl 7 rfl) ?_
                  refine lv_iload hx hb dX0_bestMove_93 (lv_at hl 2 rfl) ?_
                  refine lv_iadd hx hb dX0_bestMove_95 ?_
                  refine lv_icmp_ge (tgt := 122) hx hb dX0_bestMove_96 (by decide) (fun c_30 => ?_) (fun c_30 => ?_)
                  · have hF := br1 hF c_30
                    obtain ⟨rfl, rfl⟩ := tp2 hF
                    exact kx_87 ls hl
                  · have hF := br0 hF c_30
                    refine lv_iload hx hb dX0_bestMove_99 (lv_at hl 1 rfl) ?_
                    refine lv_aload_n hx hb dX0_bestMove_101 rfl (lv_at hl 11 rfl) ?_
                    refine lv_iload hx hb dX0_bestMove_102 (lv_at hl 0 rfl) ?_
                    refine lv_iload_n hx hb dX0_bestMove_104 rfl (lv_at hl 10 rfl) ?_
                    refine lv_iload_n hx hb dX0_bestMove_105 rfl (lv_at hl 9 rfl) ?_
                    refine lv_iload hx hb dX0_bestMove_106 (lv_at hl 3 rfl) ?_
                    refine lv_iload hx hb dX0_bestMove_108 (lv_at hl 2 rfl) ?_
                    obtain ⟨r_31, hr_31, hF⟩ := bd1_u hF
                    have hPc := hP.sub (ws' := [(h0, .inr (0, [.ref xa, .ref ya, .int sz, .int fo])), (xa, .inl (cI, 8, .inl xs)), (ya, .inl (cI, 8, .inl ys))]) [0, 1, 2] rfl
                    have hKc := hK.sub (tys' := [(cI, .int)]) [0] rfl
                    refine vp_callSi (W.runV (As := [.int k_26, .int r_1, .int r_2, .int k_6, .int k_16]) (rest := [.int k_27]) ⟨hx, hb, hml, hown, hts⟩ (c_X0_wholeDots l dC dI h0 xa ya cI xs ys sz fo k_26 r_1 r_2 k_6 k_16 r_31 hr_31) (cwV 5 hts gX0_bestMove_X0_wholeDots rfl rfl rfl (by decide +kernel) ⟨Nat.le_of_ble_eq_true rfl, Nat.le_of_ble_eq_true rfl⟩) ⟨fun a U g mk q => ⟨q.1, q.2.1, va_K.moved (u := U) (U := U.calling g mk a) (Vm.Alike.refl U.vm) q.2.2⟩, va_recv hKc hPc (ci := 0) (q0 := 0) rfl rfl, fun U hU hW => ⟨rfl, by rw [hU]; exact hPc, va_K.moved hW.alike hKc⟩⟩ rfl rfl hl.1 rfl (lv_room (Nat.le_of_ble_eq_true rfl)) dX0_bestMove_110 ⟨Nat.le_of_ble_eq_true rfl, Nat.le_of_ble_eq_true rfl⟩) (fun r_31' qr_31 => ?_)
                    obtain rfl := qr_31.symm
                    refine lv_iadd hx hb dX0_bestMove_113 ?_
                    refine lv_topi (fun v_32 ev_32 => ?_)
                    have hF := nm_u hF ev_32
                    refine lv_istore (lv' := [(11, .int v_32), (12, .int k_26), (10, .int k_16), (9, .int k_6), (8, .int k_17), (7, .int k_18), (6, .int k_19), (5, .int r_4), (4, .int r_3), (3, .int r_2), (2, .int r_1), (0, .ref h0), (1, .int a0)]) hx hb dX0_bestMove_114 hl (by decide) rfl (fun ls hl => ?_)
                    refine lv_iinc (v := (k_26 + (1 : Int32))) (lv' := [(12, .int (k_26 + (1 : Int32))), (11, .int v_32), (10, .int k_16), (9, .int k_6), (8, .int k_17), (7, .int k_18), (6, .int k_19), (5, .int r_4), (4, .int r_3), (3, .int r_2), (2, .int r_1), (0, .ref h0), (1, .int a0)]) hx hb dX0_bestMove_116 hl (k := 1) rfl rfl (by decide) rfl (fun ls hl => ?_)
                    refine lv_goto (tgt := 87) hx hb dX0_bestMove_119 (by decide) ?_
                    exact ih_87 _ _ _ _ ls hF hl kx_87
              refine lp_87 1000 v_25 (0 : Int32) o_28 o_29 ls hL_87 hl (fun ls hl => ?_)
              refine lv_iload hx hb dX0_bestMove_122 (lv_at hl 1 rfl) ?_
              refine lv_iload hx hb dX0_bestMove_124 (lv_at hl 6 rfl) ?_
              refine lv_icmp_le (tgt := 141) hx hb dX0_bestMove_126 (by decide) (fun c_33 => ?_) (fun c_33 => ?_)
              · have hF := br1 hF c_33
                refine lv_iinc (v := (k_16 + (1 : Int32))) (lv' := [(10, .int (k_16 + (1 : Int32))), (12, .int o_28), (11, .int o_29), (9, .int k_6), (8, .int k_17), (7, .int k_18), (6, .int k_19), (5, .int r_4), (4, .int r_3), (3, .int r_2), (2, .int r_1), (0, .ref h0), (1, .int a0)]) hx hb dX0_bestMove_141 hl (k := 2) rfl rfl (by decide) rfl (fun ls hl => ?_)
                refine lv_goto (tgt := 65) hx hb dX0_bestMove_144 (by decide) ?_
                exact ih_65 _ _ _ _ _ _ _ _ ls hF (lv_sub hl [0, 3, 4, 5, 6, 7, 8, 9, 10, 11, 12] rfl) kx_65
              · have hF := br0 hF c_33
                refine lv_iload hx hb dX0_bestMove_129 (lv_at hl 1 rfl) ?_
                refine lv_istore (lv' := [(6, .int o_29), (12, .int o_28), (11, .int o_29), (10, .int k_16), (9, .int k_6), (8, .int k_17), (7, .int k_18), (5, .int r_4), (4, .int r_3), (3, .int r_2), (2, .int r_1), (0, .ref h0), (1, .int a0)]) hx hb dX0_bestMove_131 hl (by decide) rfl (fun ls hl => ?_)
                refine lv_iload hx hb dX0_bestMove_133 (lv_at hl 4 rfl) ?_
                refine lv_istore (lv' := [(7, .int k_6), (6, .int o_29), (12, .int o_28), (11, .int o_29), (10, .int k_16), (9, .int k_6), (8, .int k_17), (5, .int r_4), (4, .int r_3), (3, .int r_2), (2, .int r_1), (0, .ref h0), (1, .int a0)]) hx hb dX0_bestMove_135 hl (by decide) rfl (fun ls hl => ?_)
                refine lv_iload hx hb dX0_bestMove_137 (lv_at hl 4 rfl) ?_
                refine lv_istore (lv' := [(8, .int k_16), (7, .int k_6), (6, .int o_29), (12, .int o_28), (11, .int o_29), (10, .int k_16), (9, .int k_6), (5, .int r_4), (4, .int r_3), (3, .int r_2), (2, .int r_1), (0, .ref h0), (1, .int a0)]) hx hb dX0_bestMove_139 hl (by decide) rfl (fun ls hl => ?_)
                refine lv_iinc (v := (k_16 + (1 : Int32))) (lv' := [(10, .int (k_16 + (1 : Int32))), (8, .int k_16), (7, .int k_6), (6, .int o_29), (12, .int o_28), (11, .int o_29), (9, .int k_6), (5, .int r_4), (4, .int r_3), (3, .int r_2), (2, .int r_1), (0, .ref h0), (1, .int a0)]) hx hb dX0_bestMove_141 hl (k := 5) rfl rfl (by decide) rfl (fun ls hl => ?_)
                refine lv_goto (tgt := 65) hx hb dX0_bestMove_144 (by decide) ?_
                exact ih_65 _ _ _ _ _ _ _ _ ls hF (lv_sub hl [0, 6, 1, 2, 3, 7, 8, 9, 10, 11, 12] rfl) kx_65
        refine lp_65 1000 v_15 k_7 k_8 k_9 o_20 o_21 o_22 o_23 ls hL_65 hl (fun ls hl => ?_)
        refine lv_iinc (v := (k_6 + (1 : Int32))) (lv' := [(9, .int (k_6 + (1 : Int32))), (10, .int o_20), (8, .int o_21), (7, .int o_22), (6, .int o_23), (5, .int r_4), (4, .int r_3), (3, .int r_2), (2, .int r_1), (0, .ref h0), (1, .int a0)]) hx hb dX0_bestMove_147 hl (k := 1) rfl rfl (by decide) rfl (fun ls hl => ?_)
        refine lv_goto (tgt := 51) hx hb dX0_bestMove_150 (by decide) ?_
        exact ih_51 _ _ _ _ _ _ _ _ ls hF (lv_sub hl [0, 2, 3, 4, 5, 6, 7, 8, 9, 10] rfl) kx_51
  refine lp_51 1000 v_5 (0 : Int32) (0 : Int32) (-1 : Int32) o_10 o_11 o_12 o_13 ls hL_51 hl (fun ls hl => ?_)
  refine lv_iload_n hx hb dX0_bestMove_153 rfl (lv_at hl 9 rfl) ?_
  refine lv_iconst (v := 2) hx hb dX0_bestMove_154 (by decide) ?_
  refine lv_icmp_ne (tgt := 161) hx hb dX0_bestMove_155 (by decide) (fun c_34 => ?_) (fun c_34 => ?_)
  · have hF := br0 hF c_34
    refine lv_bipush (v := 100) hx hb dX0_bestMove_161 (by decide) ?_
    refine lv_iload_n hx hb dX0_bestMove_163 rfl (lv_at hl 9 rfl) ?_
    refine lv_if_ne (tgt := 172) hx hb dX0_bestMove_164 (by decide) (fun c_35 => ?_) (fun c_35 => ?_)
    · have hF := br0 hF c_35
      refine lv_iload hx hb dX0_bestMove_172 (lv_at hl 1 rfl) ?_
      refine lv_iadd hx hb dX0_bestMove_174 ?_
      rw [← hQ]
      exact W.iret (v := ((100 : Int32) + o_11)) hx hb hr (fun t ht hW => ⟨_, rfl, Option.some.inj hF, ht⟩) (fun _ h => by cases h) dX0_bestMove_175
    · have hF := br1 hF c_35
      refine lv_iload hx hb dX0_bestMove_167 (lv_at hl 2 rfl) ?_
      refine lv_goto (tgt := 174) hx hb dX0_bestMove_169 (by decide) ?_
      refine lv_iadd hx hb dX0_bestMove_174 ?_
      rw [← hQ]
      exact W.iret (v := ((100 : Int32) + o_12)) hx hb hr (fun t ht hW => ⟨_, rfl, Option.some.inj hF, ht⟩) (fun _ h => by cases h) dX0_bestMove_175
  · have hF := br1 hF c_34
    refine lv_iload hx hb dX0_bestMove_158 (lv_at hl 3 rfl) ?_
    rw [← hQ]
    exact W.iret (v := o_13) hx hb hr (fun t ht hW => ⟨_, rfl, Option.some.inj hF, ht⟩) (fun _ h => by cases h) dX0_bestMove_160

