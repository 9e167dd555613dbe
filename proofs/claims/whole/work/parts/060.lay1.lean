def P_X0_has (a0 : Int32) (sz : Int32) : Option (Int32) :=
  if a0 < (0 : Int32) then
    some (0 : Int32)
  else
    if sz ≤ a0 then
      some (0 : Int32)
    else
      some (1 : Int32)

def rm_X0_has : Room := { frames := 0, cells := 0, slots := 0, locals := 0 }

set_option maxHeartbeats 4000000 in
set_option maxRecDepth 100000 in
theorem c_X0_has (l : Launch) (dC : Nat → ClassId) (dI : Nat → Nat → Nat) (h0 xa ya : Nat) (cI : ClassId) (xs : Nat → Int32) (ys : Nat → Int32) (sz : Int32) (fo : Int32) (a0 : Int32) (r0 : Int32) (hF : P_X0_has a0 sz = some r0) : Met l yX0_has wsX0_has rm_X0_has (va_Pc [.ref h0, .int a0] (fun U => va_P (dC, dI) vwCl [(h0, .inr (0, [.ref xa, .ref ya, .int sz, .int fo])), (xa, .inl (cI, 8, .inl xs)), (ya, .inl (cI, 8, .inl ys))] U.heap ∧ va_K (dC, dI) vwCl [(cI, .int)] U)) (vp_Si (fun x => x = r0)) 0 0 (fun _ => False) := by
  refine Met.ofW (cc := cX0_has) (maxL := 2) (ret := (some .boolean)) (by decide) rfl ?_
  intro p e s m args below meth c s₁ B hml hv
  change W p l e rm_X0_has s m args below meth c s.heap [] 0 0 _ _
  obtain ⟨hv, hP, hK⟩ := hv
  have hx := B.exec
  have hb := B.bytes
  have hr := B.returns
  have hts := atoms_spec (ws := wsX0_has) B.pre
  have hown : s.vm.findClass RX0 = some m.cls := findClass_of_methodNamed B.named
  have hlocks := B.notSynchronized
  generalize hQ : MQ below (vp_Si (fun x => x = r0)) args s 0 0 (fun _ => False) = Q
  have hl := lv_entry ([.ref h0, .int a0]) (n := 2) (Nat.le_of_ble_eq_true rfl)
  have hE : entryFrame m args 2 = F0 m 0 ((lg_sl ([.ref h0, .int a0]) ++ List.replicate (2 - (lg_sl ([.ref h0, .int a0])).length) Slot.unset).toArray) [] := by rw [hv]; exact lg_entry_eq m _ 2
  rw [hE]
  generalize (lg_sl ([.ref h0, .int a0]) ++ List.replicate (2 - (lg_sl ([.ref h0, .int a0])).length) Slot.unset).toArray = ls at hl ⊢
  have hl : lv_has ls 2 [(0, .ref h0), (1, .int a0)] := hl
  unfold P_X0_has at hF
  refine lv_iload_n hx hb dX0_has_0 rfl (lv_at hl 1 rfl) ?_
  refine lv_if_lt (tgt := 16) hx hb dX0_has_1 (by decide) (fun c_1 => ?_) (fun c_1 => ?_)
  · have hF := br1 hF c_1
    refine lv_iconst (v := 0) hx hb dX0_has_16 (by decide) ?_
    rw [← hQ]
    exact W.zret (ty := .boolean) (v := (0 : Int32)) hx hb hr rfl (fun t ht hW => ⟨_, rfl, Option.some.inj hF, ht⟩) (fun _ h => by cases h) dX0_has_17
  · have hF := br0 hF c_1
    refine lv_iload_n hx hb dX0_has_4 rfl (lv_at hl 1 rfl) ?_
    refine lv_aload_n hx hb dX0_has_5 rfl (lv_at hl 0 rfl) ?_
    refine va_get (D := (dC, dI)) (ci := 0) (v := .int sz) (C := RX0) (T := TX0) (N := 4) hx hb hts (by decide +kernel) hown hK hP 0 rfl rfl 2 (by decide) (hts (.fieldLink RX0 18 "DotCover$Layer" "size" "I") (by decide +kernel)) (fun _ h9 => h9) rfl dX0_has_6 ?_
    refine lv_icmp_ge (tgt := 16) hx hb dX0_has_9 (by decide) (fun c_2 => ?_) (fun c_2 => ?_)
    · have hF := br1 hF c_2
      refine lv_iconst (v := 0) hx hb dX0_has_16 (by decide) ?_
      rw [← hQ]
      exact W.zret (ty := .boolean) (v := (0 : Int32)) hx hb hr rfl (fun t ht hW => ⟨_, rfl, Option.some.inj hF, ht⟩) (fun _ h => by cases h) dX0_has_17
    · have hF := br0 hF c_2
      refine lv_iconst (v := 1) hx hb dX0_has_12 (by decide) ?_
      refine lv_goto (tgt := 17) hx hb dX0_has_13 (by decide) ?_
      rw [← hQ]
      exact W.zret (ty := .boolean) (v := (1 : Int32)) hx hb hr rfl (fun t ht hW => ⟨_, rfl, Option.some.inj hF, ht⟩) (fun _ h => by cases h) dX0_has_17

def P_X0_add (a0 : Int32) (a1 : Int32) (xs : Nat → Int32) (ys : Nat → Int32) (sz : Int32) : Option (Int32 × (Nat → Int32) × (Nat → Int32) × Int32) :=
  gd (ib sz 8) (
  gd (ib sz 8) (
  nm (sz + (1 : Int32)) (fun v_1 =>
  some (sz, (upd xs sz.toNatClampNeg a0), (upd ys sz.toNatClampNeg a1), v_1))))

def rm_X0_add : Room := { frames := 0, cells := 0, slots := 0, locals := 0 }

set_option maxHeartbeats 4000000 in
set_option maxRecDepth 100000 in
theorem c_X0_add (l : Launch) (dC : Nat → ClassId) (dI : Nat → Nat → Nat) (h0 xa ya : Nat) (cI : ClassId) (hsz0 : Nat) (xs : Nat → Int32) (ys : Nat → Int32) (sz : Int32) (fo : Int32) (a0 : Int32) (a1 : Int32) (r0 : Int32) (xsN : Nat → Int32) (ysN : Nat → Int32) (szN : Int32) (hF : P_X0_add a0 a1 xs ys sz = some (r0, xsN, ysN, szN)) : Met l yX0_add wsX0_add rm_X0_add (va_Pc [.ref h0, .int a0, .int a1] (fun U => U.heap.size = hsz0 ∧ va_P (dC, dI) vwCl [(h0, .inr (0, [.ref xa, .ref ya, .int sz, .int fo])), (xa, .inl (cI, 8, .inl xs)), (ya, .inl (cI, 8, .inl ys))] U.heap ∧ va_K (dC, dI) vwCl [(cI, .int)] U ∧ va_D (fun _ => True) [(h0, .inr (0, [.ref xa, .ref ya, .int sz, .int fo])), (xa, .inl (cI, 8, .inl xs)), (ya, .inl (cI, 8, .inl ys))])) (va_Qi (fun (r : Int32) (_ : Unit) => r = r0) (fun _ t => va_P (dC, dI) vwCl [(h0, .inr (0, [.ref xa, .ref ya, .int szN, .int fo])), (xa, .inl (cI, 8, .inl xsN)), (ya, .inl (cI, 8, .inl ysN))] t.heap ∧ va_K (dC, dI) vwCl [(cI, .int)] t ∧ va_D (va_A [(h0, .inr (0, [.ref xa, .ref ya, .int sz, .int fo])), (xa, .inl (cI, 8, .inl xs)), (ya, .inl (cI, 8, .inl ys))] hsz0) [(h0, .inr (0, [.ref xa, .ref ya, .int szN, .int fo])), (xa, .inl (cI, 8, .inl xsN)), (ya, .inl (cI, 8, .inl ysN))]) (va_A [(h0, .inr (0, [.ref xa, .ref ya, .int sz, .int fo])), (xa, .inl (cI, 8, .inl xs)), (ya, .inl (cI, 8, .inl ys))] hsz0)) 0 0 (va_A [(h0, .inr (0, [.ref xa, .ref ya, .int sz, .int fo])), (xa, .inl (cI, 8, .inl xs)), (ya, .inl (cI, 8, .inl ys))] hsz0) := by
  refine Met.ofW (cc := cX0_add) (maxL := 4) (ret := (some .int)) (by decide) rfl ?_
  intro p e s m args below meth c s₁ B hml hv
  change W p l e rm_X0_add s m args below meth c s.heap [] 0 0 _ _
  obtain ⟨hv, hsz, hP, hK, hD0⟩ := hv
  have hx := B.exec
  have hb := B.bytes
  have hr := B.returns
  have hts := atoms_spec (ws := wsX0_add) B.pre
  have hown : s.vm.findClass RX0 = some m.cls := findClass_of_methodNamed B.named
  have hlocks := B.notSynchronized
  subst hsz
  have hD := hD0.self (sz := s.heap.size)
  generalize hAe : va_A [(h0, .inr (0, [.ref xa, .ref ya, .int sz, .int fo])), (xa, .inl (cI, 8, .inl xs)), (ya, .inl (cI, 8, .inl ys))] s.heap.size = A at hD ⊢
  have hA : ∀ q : Nat, s.heap.size ≤ q → A q := fun q h => by rw [← hAe]; exact Or.inr h
  have hS : va_S A s.heap s.heap [] := va_S.rf
  generalize hQ : MQ below (va_Qi (fun (r : Int32) (_ : Unit) => r = r0) (fun _ t => va_P (dC, dI) vwCl [(h0, .inr (0, [.ref xa, .ref ya, .int szN, .int fo])), (xa, .inl (cI, 8, .inl xsN)), (ya, .inl (cI, 8, .inl ysN))] t.heap ∧ va_K (dC, dI) vwCl [(cI, .int)] t ∧ va_D A [(h0, .inr (0, [.ref xa, .ref ya, .int szN, .int fo])), (xa, .inl (cI, 8, .inl xsN)), (ya, .inl (cI, 8, .inl ysN))]) A) args s 0 0 A = Q
  have hl := lv_entry ([.ref h0, .int a0, .int a1]) (n := 4) (Nat.le_of_ble_eq_true rfl)
  have hE : entryFrame m args 4 = F0 m 0 ((lg_sl ([.ref h0, .int a0, .int a1]) ++ List.replicate (4 - (lg_sl ([.ref h0, .int a0, .int a1])).length) Slot.unset).toArray) [] := by rw [hv]; exact lg_entry_eq m _ 4
  rw [hE]
  generalize (lg_sl ([.ref h0, .int a0, .int a1]) ++ List.replicate (4 - (lg_sl ([.ref h0, .int a0, .int a1])).length) Slot.unset).toArray = ls at hl ⊢
  have hl : lv_has ls 4 [(0, .ref h0), (1, .int a0), (2, .int a1)] := hl
  unfold P_X0_add at hF
  refine lv_aload_n hx hb dX0_add_0 rfl (lv_at hl 0 rfl) ?_
  refine va_get (D := (dC, dI)) (ci := 0) (v := .int sz) (C := RX0) (T := TX0) (N := 4) hx hb hts (by decide +kernel) hown hK hP 0 rfl rfl 2 (by decide) (hts (.fieldLink RX0 18 "DotCover$Layer" "size" "I") (by decide +kernel)) (fun _ h9 => h9) rfl dX0_add_1 ?_
  refine lv_istore_n (lv' := [(3, .int sz), (0, .ref h0), (1, .int a0), (2, .int a1)]) hx hb dX0_add_4 rfl hl (by decide) rfl (fun ls hl => ?_)
  refine lv_aload_n hx hb dX0_add_5 rfl (lv_at hl 1 rfl) ?_
  refine va_get (D := (dC, dI)) (ci := 0) (v := .ref xa) (C := RX0) (T := TX0) (N := 4) hx hb hts (by decide +kernel) hown hK hP 0 rfl rfl 0 (by decide) (hts (.fieldLink RX0 9 "DotCover$Layer" "xs" "[I") (by decide +kernel)) (fun _ h9 => h9) rfl dX0_add_6 ?_
  refine lv_iload_n hx hb dX0_add_9 rfl (lv_at hl 0 rfl) ?_
  refine lv_iload_n hx hb dX0_add_10 rfl (lv_at hl 2 rfl) ?_
  obtain ⟨hi_11, hF⟩ := gd_u hF
  refine va_iast hx hb hK hP hD hS 1 0 rfl rfl (in_u hi_11) dX0_add_11 (fun H locs hP hD hS => ?_)
  have hP : va_P (dC, dI) vwCl [(h0, .inr (0, [.ref xa, .ref ya, .int sz, .int fo])), (xa, .inl (cI, 8, .inl (upd xs sz.toNatClampNeg a0))), (ya, .inl (cI, 8, .inl ys))] H := hP
  have hD : va_D A [(h0, .inr (0, [.ref xa, .ref ya, .int sz, .int fo])), (xa, .inl (cI, 8, .inl (upd xs sz.toNatClampNeg a0))), (ya, .inl (cI, 8, .inl ys))] := hD
  refine lv_aload_n hx hb dX0_add_12 rfl (lv_at hl 1 rfl) ?_
  refine va_get (D := (dC, dI)) (ci := 0) (v := .ref ya) (C := RX0) (T := TX0) (N := 4) hx hb hts (by decide +kernel) hown hK hP 0 rfl rfl 1 (by decide) (hts (.fieldLink RX0 15 "DotCover$Layer" "ys" "[I") (by decide +kernel)) (fun _ h9 => h9) rfl dX0_add_13 ?_
  refine lv_iload_n hx hb dX0_add_16 rfl (lv_at hl 0 rfl) ?_
  refine lv_iload_n hx hb dX0_add_17 rfl (lv_at hl 3 rfl) ?_
  obtain ⟨hi_18, hF⟩ := gd_u hF
  refine va_iast hx hb hK hP hD hS 2 0 rfl rfl (in_u hi_18) dX0_add_18 (fun H locs hP hD hS => ?_)
  have hP : va_P (dC, dI) vwCl [(h0, .inr (0, [.ref xa, .ref ya, .int sz, .int fo])), (xa, .inl (cI, 8, .inl (upd xs sz.toNatClampNeg a0))), (ya, .inl (cI, 8, .inl (upd ys sz.toNatClampNeg a1)))] H := hP
  have hD : va_D A [(h0, .inr (0, [.ref xa, .ref ya, .int sz, .int fo])), (xa, .inl (cI, 8, .inl (upd xs sz.toNatClampNeg a0))), (ya, .inl (cI, 8, .inl (upd ys sz.toNatClampNeg a1)))] := hD
  refine lv_aload_n hx hb dX0_add_19 rfl (lv_at hl 1 rfl) ?_
  refine lv_dup hx hb dX0_add_20 rfl ?_
  refine va_get (D := (dC, dI)) (ci := 0) (v := .int sz) (C := RX0) (T := TX0) (N := 4) hx hb hts (by decide +kernel) hown hK hP 0 rfl rfl 2 (by decide) (hts (.fieldLink RX0 18 "DotCover$Layer" "size" "I") (by decide +kernel)) (fun _ h9 => h9) rfl dX0_add_21 ?_
  refine lv_iconst (v := 1) hx hb dX0_add_24 (by decide) ?_
  refine lv_iadd hx hb dX0_add_25 ?_
  refine lv_topi (fun v_1 ev_1 => ?_)
  have hF := nm_u hF ev_1
  refine va_put (D := (dC, dI)) (ci := 0) (v := .int v_1) (ty := .int) (C := RX0) (T := TX0) (N := 4) hx hb hts (by decide +kernel) tyX0 tyX0_ok nmX0 hown hK hP hD hS 0 rfl rfl 2 (by decide) (hts (.fieldLink RX0 18 "DotCover$Layer" "size" "I") (by decide +kernel)) (fun _ h9 => h9) rfl (by decide +kernel) rfl rfl (Nat.le_of_ble_eq_true rfl) dX0_add_26 (fun H locs hP hD hS => ?_)
  have hP : va_P (dC, dI) vwCl [(h0, .inr (0, [.ref xa, .ref ya, .int v_1, .int fo])), (xa, .inl (cI, 8, .inl (upd xs sz.toNatClampNeg a0))), (ya, .inl (cI, 8, .inl (upd ys sz.toNatClampNeg a1)))] H := hP
  have hD : va_D A [(h0, .inr (0, [.ref xa, .ref ya, .int v_1, .int fo])), (xa, .inl (cI, 8, .inl (upd xs sz.toNatClampNeg a0))), (ya, .inl (cI, 8, .inl (upd ys sz.toNatClampNeg a1)))] := hD
  refine lv_iload_n hx hb dX0_add_29 rfl (lv_at hl 0 rfl) ?_
  obtain ⟨e0, rfl, rfl, rfl⟩ := tp4 hF
  rw [← hQ]
  exact W.iret (v := sz) hx hb hr (fun t ht hW => ⟨⟨_, (), rfl, e0, by rw [ht]; exact hP, va_K.moved hW.alike hK, hD⟩, hS.F ht⟩) hS.2.2 dX0_add_30

def L_X0_shift_2 (sz : Int32) (a0 : Int32) (a1 : Int32) : Nat → Int32 → (Nat → Int32) → (Nat → Int32) → Option (Int32 × (Nat → Int32) × (Nat → Int32))
  | 0, _, _, _ => none
  | n + 1, k_1, xs_2, ys_3 =>
    if sz ≤ k_1 then
      some (k_1, xs_2, ys_3)
    else
      gd (ib k_1 8) (
      gd (ib k_1 8) (
      gd (ib k_1 8) (
      gd (ib k_1 8) (
      L_X0_shift_2 sz a0 a1 n (k_1 + (1 : Int32)) (upd xs_2 k_1.toNatClampNeg ((xs_2 k_1.toNatClampNeg) + a0)) (upd ys_3 k_1.toNatClampNeg ((ys_3 k_1.toNatClampNeg) + a1))))))
theorem L_X0_shift_2_s (sz : Int32) (a0 : Int32) (a1 : Int32) (n : Nat) (k_1 : Int32) (xs_2 : Nat → Int32) (ys_3 : Nat → Int32) : L_X0_shift_2 sz a0 a1 (n + 1) k_1 xs_2 ys_3 =
    (if sz ≤ k_1 then
      some (k_1, xs_2, ys_3)
    else
      gd (ib k_1 8) (
      gd (ib k_1 8) (
      gd (ib k_1 8) (
      gd (ib k_1 8) (
      L_X0_shift_2 sz a0 a1 n (k_1 + (1 : Int32)) (upd xs_2 k_1.toNatClampNeg ((xs_2 k_1.toNatClampNeg) + a0)) (upd ys_3 k_1.toNatClampNeg ((ys_3 k_1.toNatClampNeg) + a1))))))) := rfl

def P_X0_shift (a0 : Int32) (a1 : Int32) (xs : Nat → Int32) (ys : Nat → Int32) (sz : Int32) : Option ((Nat → Int32) × (Nat → Int32)) :=
  bd3 (L_X0_shift_2 sz a0 a1 1000 (0 : Int32) xs ys) (fun o_4 o_5 o_6 =>
  some (o_5, o_6))

def rm_X0_shift : Room := { frames := 0, cells := 0, slots := 0, locals := 0 }

set_option maxHeartbeats 4000000 in
set_option maxRecDepth 100000 in
theorem c_X0_shift (l : Launch) (dC : Nat → ClassId) (dI : Nat → Nat → Nat) (h0 xa ya : Nat) (cI : ClassId) (hsz0 : Nat) (xs : Nat → Int32) (ys : Nat → Int32) (sz : Int32) (fo : Int32) (a0 : Int32) (a1 : Int32) (xsN : Nat → Int32) (ysN : Nat → Int32) (hF : P_X0_shift a0 a1 xs ys sz = some (xsN, ysN)) : Met l yX0_shift wsX0_shift rm_X0_shift (va_Pc [.ref h0, .int a0, .int a1] (fun U => U.heap.size = hsz0 ∧ va_P (dC, dI) vwCl [(h0, .inr (0, [.ref xa, .ref ya, .int sz, .int fo])), (xa, .inl (cI, 8, .inl xs)), (ya, .inl (cI, 8, .inl ys))] U.heap ∧ va_K (dC, dI) vwCl [(cI, .int)] U ∧ va_D (fun _ => True) [(h0, .inr (0, [.ref xa, .ref ya, .int sz, .int fo])), (xa, .inl (cI, 8, .inl xs)), (ya, .inl (cI, 8, .inl ys))])) (va_Qv (fun (_ : Unit) => True) (fun _ t => va_P (dC, dI) vwCl [(h0, .inr (0, [.ref xa, .ref ya, .int sz, .int fo])), (xa, .inl (cI, 8, .inl xsN)), (ya, .inl (cI, 8, .inl ysN))] t.heap ∧ va_K (dC, dI) vwCl [(cI, .int)] t ∧ va_D (va_A [(h0, .inr (0, [.ref xa, .ref ya, .int sz, .int fo])), (xa, .inl (cI, 8, .inl xs)), (ya, .inl (cI, 8, .inl ys))] hsz0) [(h0, .inr (0, [.ref xa, .ref ya, .int sz, .int fo])), (xa, .inl (cI, 8, .inl xsN)), (ya, .inl (cI, 8, .inl ysN))]) (va_A [(h0, .inr (0, [.ref xa, .ref ya, .int sz, .int fo])), (xa, .inl (cI, 8, .inl xs)), (ya, .inl (cI, 8, .inl ys))] hsz0)) 0 0 (va_A [(h0, .inr (0, [.ref xa, .ref ya, .int sz, .int fo])), (xa, .inl (cI, 8, .inl xs)), (ya, .inl (cI, 8, .inl ys))] hsz0) := by
  refine Met.ofW (cc := cX0_shift) (maxL := 4) (ret := none) (by decide) rfl ?_
  intro p e s m args below meth c s₁ B hml hv
  change W p l e rm_X0_shift s m args below meth c s.heap [] 0 0 _ _
  obtain ⟨hv, hsz, hP, hK, hD0⟩ := hv
  have hx := B.exec
  have hb := B.bytes
  have hr := B.returns
  have hts := atoms_spec (ws := wsX0_shift) B.pre
  have hown : s.vm.findClass RX0 = some m.cls := findClass_of_methodNamed B.named
  have hlocks := B.notSynchronized
  subst hsz
  have hD := hD0.self (sz := s.heap.size)
  generalize hAe : va_A [(h0, .inr (0, [.ref xa, .ref ya, .int sz, .int fo])), (xa, .inl (cI, 8, .inl xs)), (ya, .inl (cI, 8, .inl ys))] s.heap.size = A at hD ⊢
  have hA : ∀ q : Nat, s.heap.size ≤ q → A q := fun q h => by rw [← hAe]; exact Or.inr h
  have hS : va_S A s.heap s.heap [] := va_S.rf
  generalize hQ : MQ below (va_Qv (fun (_ : Unit) => True) (fun _ t => va_P (dC, dI) vwCl [(h0, .inr (0, [.ref xa, .ref ya, .int sz, .int fo])), (xa, .inl (cI, 8, .inl xsN)), (ya, .inl (cI, 8, .inl ysN))] t.heap ∧ va_K (dC, dI) vwCl [(cI, .int)] t ∧ va_D A [(h0, .inr (0, [.ref xa, .ref ya, .int sz, .int fo])), (xa, .inl (cI, 8, .inl xsN)), (ya, .inl (cI, 8, .inl ysN))]) A) args s 0 0 A = Q
  have hl := lv_entry ([.ref h0, .int a0, .int a1]) (n := 4) (Nat.le_of_ble_eq_true rfl)
  have hE : entryFrame m args 4 = F0 m 0 ((lg_sl ([.ref h0, .int a0, .int a1]) ++ List.replicate (4 - (lg_sl ([.ref h0, .int a0, .int a1])).length) Slot.unset).toArray) [] := by rw [hv]; exact lg_entry_eq m _ 4
  rw [hE]
  generalize (lg_sl ([.ref h0, .int a0, .int a1]) ++ List.replicate (4 - (lg_sl ([.ref h0, .int a0, .int a1])).length) Slot.unset).toArray = ls at hl ⊢
  have hl : lv_has ls 4 [(0, .ref h0), (1, .int a0), (2, .int a1)] := hl
  unfold P_X0_shift at hF
  refine lv_iconst (v := 0) hx hb dX0_shift_0 (by decide) ?_
  refine lv_istore_n (lv' := [(3, .int (0 : Int32)), (0, .ref h0), (1, .int a0), (2, .int a1)]) hx hb dX0_shift_1 rfl hl (by decide) rfl (fun ls hl => ?_)
  obtain ⟨o_4, o_5, o_6, hL_2, hF⟩ := bd3_u hF
  have lp_2 : ∀ (n : Nat) (k_1 : Int32) (xs_2 : Nat → Int32) (ys_3 : Nat → Int32) (o_4 : Int32) (o_5 : Nat → Int32) (o_6 : Nat → Int32) (H : Heap) (locs : List Loc) (ls : Array Slot), L_X0_shift_2 sz a0 a1 n k_1 xs_2 ys_3 = some (o_4, o_5, o_6) → va_P (dC, dI) vwCl [(h0, .inr (0, [.ref xa, .ref ya, .int sz, .int fo])), (xa, .inl (cI, 8, .inl xs_2)), (ya, .inl (cI, 8, .inl ys_3))] H → va_D A [(h0, .inr (0, [.ref xa, .ref ya, .int sz, .int fo])), (xa, .inl (cI, 8, .inl xs_2)), (ya, .inl (cI, 8, .inl ys_3))] → va_S A s.heap H locs → lv_has ls 4 [(3, .int k_1), (0, .ref h0), (1, .int a0), (2, .int a1)] → (∀ (H : Heap) (locs : List Loc) (ls : Array Slot), va_P (dC, dI) vwCl [(h0, .inr (0, [.ref xa, .ref ya, .int sz, .int fo])), (xa, .inl (cI, 8, .inl o_5)), (ya, .inl (cI, 8, .inl o_6))] H → va_D A [(h0, .inr (0, [.ref xa, .ref ya, .int sz, .int fo])), (xa, .inl (cI, 8, .inl o_5)), (ya, .inl (cI, 8, .inl o_6))] → va_S A s.heap H locs → lv_has ls 4 [(3, .int o_4), (0, .ref h0), (1, .int a0), (2, .int a1)] → W p l e rm_X0_shift s m args below meth c H locs 0 0 Q (F0 m 36 ls [])) → W p l e rm_X0_shift s m args below meth c H locs 0 0 Q (F0 m 2 ls []) := by
    intro n
    induction n with
    | zero =>
      intro k_1 xs_2 ys_3 o_4 o_5 o_6 H locs ls hF
      exact nn ((rfl : L_X0_shift_2 sz a0 a1 0 k_1 xs_2 ys_3 = none).symm.trans hF)
    | succ n ih_2 =>
      intro k_1 xs_2 ys_3 o_4 o_5 o_6 H locs ls hF hP hD hS hl kx_2
      have hF := (L_X0_shift_2_s sz a0 a1 n k_1 xs_2 ys_3).symm.trans hF
      refine lv_iload_n hx hb dX0_shift_2 rfl (lv_at hl 0 rfl) ?_
      refine lv_aload_n hx hb dX0_shift_3 rfl (lv_at hl 1 rfl) ?_
      refine va_get (D := (dC, dI)) (ci := 0) (v := .int sz) (C := RX0) (T := TX0) (N := 4) hx hb hts (by decide +kernel) hown hK hP 0 rfl rfl 2 (by decide) (hts (.fieldLink RX0 18 "DotCover$Layer" "size" "I") (by decide +kernel)) (fun _ h9 => h9) rfl dX0_shift_4 ?_
      refine lv_icmp_ge (tgt := 36) hx hb dX0_shift_7 (by decide) (fun c_7 => ?_) (fun c_7 => ?_)
      · have hF := br1 hF c_7
        obtain ⟨rfl, rfl, rfl⟩ := tp3 hF
        exact kx_2 _ _ ls hP hD hS hl
      · have hF := br0 hF c_7
        refine lv_aload_n hx hb dX0_shift_10 rfl (lv_at hl 1 rfl) ?_
        refine va_get (D := (dC, dI)) (ci := 0) (v := .ref xa) (C := RX0) (T := TX0) (N := 4) hx hb hts (by decide +kernel) hown hK hP 0 rfl rfl 0 (by decide) (hts (.fieldLink RX0 9 "DotCover$Layer" "xs" "[I") (by decide +kernel)) (fun _ h9 => h9) rfl dX0_shift_11 ?_
        refine lv_iload_n hx hb dX0_shift_14 rfl (lv_at hl 0 rfl) ?_
        refine lv_dup2_11 hx hb dX0_shift_15 rfl rfl ?_
        obtain ⟨hi_16, hF⟩ := gd_u hF
        refine va_iald hx hb hK hP 1 0 rfl rfl (in_u hi_16) dX0_shift_16 ?_
        refine lv_iload_n hx hb dX0_shift_17 rfl (lv_at hl 2 rfl) ?_
        refine lv_iadd hx hb dX0_shift_18 ?_
        obtain ⟨hi_19, hF⟩ := gd_u hF
        refine va_iast hx hb hK hP hD hS 1 0 rfl rfl (in_u hi_19) dX0_shift_19 (fun H locs hP hD hS => ?_)
        have hP : va_P (dC, dI) vwCl [(h0, .inr (0, [.ref xa, .ref ya, .int sz, .int fo])), (xa, .inl (cI, 8, .inl (upd xs_2 k_1.toNatClampNeg ((xs_2 k_1.toNatClampNeg) + a0)))), (ya, .inl (cI, 8, .inl ys_3))] H := hP
        have hD : va_D A [(h0, .inr (0, [.ref xa, .ref ya, .int sz, .int fo])), (xa, .inl (cI, 8, .inl (upd xs_2 k_1.toNatClampNeg ((xs_2 k_1.toNatClampNeg) + a0)))), (ya, .inl (cI, 8, .inl ys_3))] := hD
        refine lv_aload_n hx hb dX0_shift_20 rfl (lv_at hl 1 rfl) ?_
        refine va_get (D := (dC, dI)) (ci := 0) (v := .ref ya) (C := RX0) (T := TX0) (N := 4) hx hb hts (by decide +kernel) hown hK hP 0 rfl rfl 1 (by decide) (hts (.fieldLink RX0 15 "DotCover$Layer" "ys" "[I") (by decide +kernel)) (fun _ h9 => h9) rfl dX0_shift_21 ?_
        refine lv_iload_n hx hb dX0_shift_24 rfl (lv_at hl 0 rfl) ?_
        refine lv_dup2_11 hx hb dX0_shift_25 rfl rfl ?_
        obtain ⟨hi_26, hF⟩ := gd_u hF
        refine va_iald hx hb hK hP 2 0 rfl rfl (in_u hi_26) dX0_shift_26 ?_
        refine lv_iload_n hx hb dX0_shift_27 rfl (lv_at hl 3 rfl) ?_
        refine lv_iadd hx hb dX0_shift_28 ?_
        obtain ⟨hi_29, hF⟩ := gd_u hF
        refine va_iast hx hb hK hP hD hS 2 0 rfl rfl (in_u hi_29) dX0_shift_29 (fun H locs hP hD hS => ?_)
        have hP : va_P (dC, dI) vwCl [(h0, .inr (0, [.ref xa, .ref ya, .int sz, .int fo])), (xa, .inl (cI, 8, .inl (upd xs_2 k_1.toNatClampNeg ((xs_2 k_1.toNatClampNeg) + a0)))), (ya, .inl (cI, 8, .inl (upd ys_3 k_1.toNatClampNeg ((ys_3 k_1.toNatClampNeg) + a1))))] H := hP
        have hD : va_D A [(h0, .inr (0, [.ref xa, .ref ya, .int sz, .int fo])), (xa, .inl (cI, 8, .inl (upd xs_2 k_1.toNatClampNeg ((xs_2 k_1.toNatClampNeg) + a0)))), (ya, .inl (cI, 8, .inl (upd ys_3 k_1.toNatClampNeg ((ys_3 k_1.toNatClampNeg) + a1))))] := hD
        refine lv_iinc (v := (k_1 + (1 : Int32))) (lv' := [(3, .int (k_1 + (1 : Int32))), (0, .ref h0), (1, .int a0), (2, .int a1)]) hx hb dX0_shift_30 hl (k := 0) rfl rfl (by decide) rfl (fun ls hl => ?_)
        refine lv_goto (tgt := 2) hx hb dX0_shift_33 (by decide) ?_
        exact ih_2 _ _ _ _ _ _ _ _ ls hF hP hD hS hl kx_2
  refine lp_2 1000 (0 : Int32) xs ys o_4 o_5 o_6 _ _ ls hL_2 hP hD hS hl (fun H locs ls hP hD hS hl => ?_)
  obtain ⟨rfl, rfl⟩ := tp2 hF
  rw [← hQ]
  exact W.vret hx hb hr (fun t ht hW => ⟨⟨(), rfl, trivial, by rw [ht]; exact hP, va_K.moved hW.alike hK, hD⟩, hS.F ht⟩) hS.2.2 dX0_shift_36

def P_X0_swap (a0 : Int32) (a1 : Int32) (xs : Nat → Int32) (ys : Nat → Int32) : Option ((Nat → Int32) × (Nat → Int32)) :=
  gd (ib a0 8) (
  nm (xs a0.toNatClampNeg) (fun v_1 =>
  gd (ib a0 8) (
  nm (ys a0.toNatClampNeg) (fun v_2 =>
  gd (ib a1 8) (
  gd (ib a0 8) (
  gd (ib a1 8) (
  gd (ib a0 8) (
  gd (ib a1 8) (
  gd (ib a1 8) (
  some ((upd (upd xs a0.toNatClampNeg (xs a1.toNatClampNeg)) a1.toNatClampNeg v_1), (upd (upd ys a0.toNatClampNeg (ys a1.toNatClampNeg)) a1.toNatClampNeg v_2))))))))))))

def rm_X0_swap : Room := { frames := 0, cells := 0, slots := 0, locals := 0 }

set_option maxHeartbeats 4000000 in
set_option maxRecDepth 100000 in
theorem c_X0_swap (l : Launch) (dC : Nat → ClassId) (dI : Nat → Nat → Nat) (h0 xa ya : Nat) (cI : ClassId) (hsz0 : Nat) (xs : Nat → Int32) (ys : Nat → Int32) (sz : Int32) (fo : Int32) (a0 : Int32) (a1 : Int32) (xsN : Nat → Int32) (ysN : Nat → Int32) (hF : P_X0_swap a0 a1 xs ys = some (xsN, ysN)) : Met l yX0_swap wsX0_swap rm_X0_swap (va_Pc [.ref h0, .int a0, .int a1] (fun U => U.heap.size = hsz0 ∧ va_P (dC, dI) vwCl [(h0, .inr (0, [.ref xa, .ref ya, .int sz, .int fo])), (xa, .inl (cI, 8, .inl xs)), (ya, .inl (cI, 8, .inl ys))] U.heap ∧ va_K (dC, dI) vwCl [(cI, .int)] U ∧ va_D (fun _ => True) [(h0, .inr (0, [.ref xa, .ref ya, .int sz, .int fo])), (xa, .inl (cI, 8, .inl xs)), (ya, .inl (cI, 8, .inl ys))])) (va_Qv (fun (_ : Unit) => True) (fun _ t => va_P (dC, dI) vwCl [(h0, .inr (0, [.ref xa, .ref ya, .int sz, .int fo])), (xa, .inl (cI, 8, .inl xsN)), (ya, .inl (cI, 8, .inl ysN))] t.heap ∧ va_K (dC, dI) vwCl [(cI, .int)] t ∧ va_D (va_A [(h0, .inr (0, [.ref xa, .ref ya, .int sz, .int fo])), (xa, .inl (cI, 8, .inl xs)), (ya, .inl (cI, 8, .inl ys))] hsz0) [(h0, .inr (0, [.ref xa, .ref ya, .int sz, .int fo])), (xa, .inl (cI, 8, .inl xsN)), (ya, .inl (cI, 8, .inl ysN))]) (va_A [(h0, .inr (0, [.ref xa, .ref ya, .int sz, .int fo])), (xa, .inl (cI, 8, .inl xs)), (ya, .inl (cI, 8, .inl ys))] hsz0)) 0 0 (va_A [(h0, .inr (0, [.ref xa, .ref ya, .int sz, .int fo])), (xa, .inl (cI, 8, .inl xs)), (ya, .inl (cI, 8, .inl ys))] hsz0) := by
  refine Met.ofW (cc := cX0_swap) (maxL := 5) (ret := none) (by decide) rfl ?_
  intro p e s m args below meth c s₁ B hml hv
  change W p l e rm_X0_swap s m args below meth c s.heap [] 0 0 _ _
  obtain ⟨hv, hsz, hP, hK, hD0⟩ := hv
  have hx := B.exec
  have hb := B.bytes
  have hr := B.returns
  have hts := atoms_spec (ws := wsX0_swap) B.pre
  have hown : s.vm.findClass RX0 = some m.cls := findClass_of_methodNamed B.named
  have hlocks := B.notSynchronized
  subst hsz
  have hD := hD0.self (sz := s.heap.size)
  generalize hAe : va_A [(h0, .inr (0, [.ref xa, .ref ya, .int sz, .int fo])), (xa, .inl (cI, 8, .inl xs)), (ya, .inl (cI, 8, .inl ys))] s.heap.size = A at hD ⊢
  have hA : ∀ q : Nat, s.heap.size ≤ q → A q := fun q h => by rw [← hAe]; exact Or.inr h
  have hS : va_S A s.heap s.heap [] := va_S.rf
  generalize hQ : MQ below (va_Qv (fun (_ : Unit) => True) (fun _ t => va_P (dC, dI) vwCl [(h0, .inr (0, [.ref xa, .ref ya, .int sz, .int fo])), (xa, .inl (cI, 8, .inl xsN)), (ya, .inl (cI, 8, .inl ysN))] t.heap ∧ va_K (dC, dI) vwCl [(cI, .int)] t ∧ va_D A [(h0, .inr (0, [.ref xa, .ref ya, .int sz, .int fo])), (xa, .inl (cI, 8, .inl xsN)), (ya, .inl (cI, 8, .inl ysN))]) A) args s 0 0 A = Q
  have hl := lv_entry ([.ref h0, .int a0, .int a1]) (n := 5) (Nat.le_of_ble_eq_true rfl)
  have hE : entryFrame m args 5 = F0 m 0 ((lg_sl ([.ref h0, .int a0, .int a1]) ++ List.replicate (5 - (lg_sl ([.ref h0, .int a0, .int a1])).length) Slot.unset).toArray) [] := by rw [hv]; exact lg_entry_eq m _ 5
  rw [hE]
  generalize (lg_sl ([.ref h0, .int a0, .int a1]) ++ List.replicate (5 - (lg_sl ([.ref h0, .int a0, .int a1])).length) Slot.unset).toArray = ls at hl ⊢
  have hl : lv_has ls 5 [(0, .ref h0), (1, .int a0), (2, .int a1)] := hl
  unfold P_X0_swap at hF
  refine lv_aload_n hx hb dX0_swap_0 rfl (lv_at hl 0 rfl) ?_
  refine va_get (D := (dC, dI)) (ci := 0) (v := .ref xa) (C := RX0) (T := TX0) (N := 4) hx hb hts (by decide +kernel) hown hK hP 0 rfl rfl 0 (by decide) (hts (.fieldLink RX0 9 "DotCover$Layer" "xs" "[I") (by decide +kernel)) (fun _ h9 => h9) rfl dX0_swap_1 ?_
  refine lv_iload_n hx hb dX0_swap_4 rfl (lv_at hl 1 rfl) ?_
  obtain ⟨hi_5, hF⟩ := gd_u hF
  refine va_iald hx hb hK hP 1 0 rfl rfl (in_u hi_5) dX0_swap_5 ?_
  refine lv_topi (fun v_1 ev_1 => ?_)
  have hF := nm_u hF ev_1
  refine lv_istore_n (lv' := [(3, .int v_1), (0, .ref h0), (1, .int a0), (2, .int a1)]) hx hb dX0_swap_6 rfl hl (by decide) rfl (fun ls hl => ?_)
  refine lv_aload_n hx hb dX0_swap_7 rfl (lv_at hl 1 rfl) ?_
  refine va_get (D := (dC, dI)) (ci := 0) (v := .ref ya) (C := RX0) (T := TX0) (N := 4) hx hb hts (by decide +kernel) hown hK hP 0 rfl rfl 1 (by decide) (hts (.fieldLink RX0 15 "DotCover$Layer" "ys" "[I") (by decide +kernel)) (fun _ h9 => h9) rfl dX0_swap_8 ?_
  refine lv_iload_n hx hb dX0_swap_11 rfl (lv_at hl 2 rfl) ?_
  obtain ⟨hi_12, hF⟩ := gd_u hF
  refine va_iald hx hb hK hP 2 0 rfl rfl (in_u hi_12) dX0_swap_12 ?_
  refine lv_topi (fun v_2 ev_2 => ?_)
  have hF := nm_u hF ev_2
  refine lv_istore (lv' := [(4, .int v_2), (3, .int v_1), (0, .ref h0), (1, .int a0), (2, .int a1)]) hx hb dX0_swap_13 hl (by decide) rfl (fun ls hl => ?_)
  refine lv_aload_n hx hb dX0_swap_15 rfl (lv_at hl 2 rfl) ?_
  refine va_get (D := (dC, dI)) (ci := 0) (v := .ref xa) (C := RX0) (T := TX0) (N := 4) hx hb hts (by decide +kernel) hown hK hP 0 rfl rfl 0 (by decide) (hts (.fieldLink RX0 9 "DotCover$Layer" "xs" "[I") (by decide +kernel)) (fun _ h9 => h9) rfl dX0_swap_16 ?_
  refine lv_iload_n hx hb dX0_swap_19 rfl (lv_at hl 3 rfl) ?_
  refine lv_aload_n hx hb dX0_swap_20 rfl (lv_at hl 2 rfl) ?_
  refine va_get (D := (dC, dI)) (ci := 0) (v := .ref xa) (C := RX0) (T := TX0) (N := 4) hx hb hts (by decide +kernel) hown hK hP 0 rfl rfl 0 (by decide) (hts (.fieldLink RX0 9 "DotCover$Layer" "xs" "[I") (by decide +kernel)) (fun _ h9 => h9) rfl dX0_swap_21 ?_
  refine lv_iload_n hx hb dX0_swap_24 rfl (lv_at hl 4 rfl) ?_
  obtain ⟨hi_25, hF⟩ := gd_u hF
  refine va_iald hx hb hK hP 1 0 rfl rfl (in_u hi_25) dX0_swap_25 ?_
  obtain ⟨hi_26, hF⟩ := gd_u hF
  refine va_iast hx hb hK hP hD hS 1 0 rfl rfl (in_u hi_26) dX0_swap_26 (fun H locs hP hD hS => ?_)
  have hP : va_P (dC, dI) vwCl [(h0, .inr (0, [.ref xa, .ref ya, .int sz, .int fo])), (xa, .inl (cI, 8, .inl (upd xs a0.toNatClampNeg (xs a1.toNatClampNeg)))), (ya, .inl (cI, 8, .inl ys))] H := hP
  have hD : va_D A [(h0, .inr (0, [.ref xa, .ref ya, .int sz, .int fo])), (xa, .inl (cI, 8, .inl (upd xs a0.toNatClampNeg (xs a1.toNatClampNeg)))), (ya, .inl (cI, 8, .inl ys))] := hD
  refine lv_aload_n hx hb dX0_swap_27 rfl (lv_at hl 2 rfl) ?_
  refine va_get (D := (dC, dI)) (ci := 0) (v := .ref ya) (C := RX0) (T := TX0) (N := 4) hx hb hts (by decide +kernel) hown hK hP 0 rfl rfl 1 (by decide) (hts (.fieldLink RX0 15 "DotCover$Layer" "ys" "[I") (by decide +kernel)) (fun _ h9 => h9) rfl dX0_swap_28 ?_
  refine lv_iload_n hx hb dX0_swap_31 rfl (lv_at hl 3 rfl) ?_
  refine lv_aload_n hx hb dX0_swap_32 rfl (lv_at hl 2 rfl) ?_
  refine va_get (D := (dC, dI)) (ci := 0) (v := .ref ya) (C := RX0) (T := TX0) (N := 4) hx hb hts (by decide +kernel) hown hK hP 0 rfl rfl 1 (by decide) (hts (.fieldLink RX0 15 "DotCover$Layer" "ys" "[I") (by decide +kernel)) (fun _ h9 => h9) rfl dX0_swap_33 ?_
  refine lv_iload_n hx hb dX0_swap_36 rfl (lv_at hl 4 rfl) ?_
  obtain ⟨hi_37, hF⟩ := gd_u hF
  refine va_iald hx hb hK hP 2 0 rfl rfl (in_u hi_37) dX0_swap_37 ?_
  obtain ⟨hi_38, hF⟩ := gd_u hF
  refine va_iast hx hb hK hP hD hS 2 0 rfl rfl (in_u hi_38) dX0_swap_38 (fun H locs hP hD hS => ?_)
  have hP : va_P (dC, dI) vwCl [(h0, .inr (0, [.ref xa, .ref ya, .int sz, .int fo])), (xa, .inl (cI, 8, .inl (upd xs a0.toNatClampNeg (xs a1.toNatClampNeg)))), (ya, .inl (cI, 8, .inl (upd ys a0.toNatClampNeg (ys a1.toNatClampNeg))))] H := hP
  have hD : va_D A [(h0, .inr (0, [.ref xa, .ref ya, .int sz, .int fo])), (xa, .inl (cI, 8, .inl (upd xs a0.toNatClampNeg (xs a1.toNatClampNeg)))), (ya, .inl (cI, 8, .inl (upd ys a0.toNatClampNeg (ys a1.toNatClampNeg))))] := hD
  refine lv_aload_n hx hb dX0_swap_39 rfl (lv_at hl 2 rfl) ?_
  refine va_get (D := (dC, dI)) (ci := 0) (v := .ref xa) (C := RX0) (T := TX0) (N := 4) hx hb hts (by decide +kernel) hown hK hP 0 rfl rfl 0 (by decide) (hts (.fieldLink RX0 9 "DotCover$Layer" "xs" "[I") (by decide +kernel)) (fun _ h9 => h9) rfl dX0_swap_40 ?_
  refine lv_iload_n hx hb dX0_swap_43 rfl (lv_at hl 4 rfl) ?_
  refine lv_iload_n hx hb dX0_swap_44 rfl (lv_at hl 1 rfl) ?_
  obtain ⟨hi_45, hF⟩ := gd_u hF
  refine va_iast hx hb hK hP hD hS 1 0 rfl rfl (in_u hi_45) dX0_swap_45 (fun H locs hP hD hS => ?_)
  have hP : va_P (dC, dI) vwCl [(h0, .inr (0, [.ref xa, .ref ya, .int sz, .int fo])), (xa, .inl (cI, 8, .inl (upd (upd xs a0.toNatClampNeg (xs a1.toNatClampNeg)) a1.toNatClampNeg v_1))), (ya, .inl (cI, 8, .inl (upd ys a0.toNatClampNeg (ys a1.toNatClampNeg))))] H := hP
  have hD : va_D A [(h0, .inr (0, [.ref xa, .ref ya, .int sz, .int fo])), (xa, .inl (cI, 8, .inl (upd (upd xs a0.toNatClampNeg (xs a1.toNatClampNeg)) a1.toNatClampNeg v_1))), (ya, .inl (cI, 8, .inl (upd ys a0.toNatClampNeg (ys a1.toNatClampNeg))))] := hD
  refine lv_aload_n hx hb dX0_swap_46 rfl (lv_at hl 2 rfl) ?_
  refine va_get (D := (dC, dI)) (ci := 0) (v := .ref ya) (C := RX0) (T := TX0) (N := 4) hx hb hts (by decide +kernel) hown hK hP 0 rfl rfl 1 (by decide) (hts (.fieldLink RX0 15 "DotCover$Layer" "ys" "[I") (by decide +kernel)) (fun _ h9 => h9) rfl dX0_swap_47 ?_
  refine lv_iload_n hx hb dX0_swap_50 rfl (lv_at hl 4 rfl) ?_
  refine lv_iload hx hb dX0_swap_51 (lv_at hl 0 rfl) ?_
  obtain ⟨hi_53, hF⟩ := gd_u hF
  refine va_iast hx hb hK hP hD hS 2 0 rfl rfl (in_u hi_53) dX0_swap_53 (fun H locs hP hD hS => ?_)
  have hP : va_P (dC, dI) vwCl [(h0, .inr (0, [.ref xa, .ref ya, .int sz, .int fo])), (xa, .inl (cI, 8, .inl (upd (upd xs a0.toNatClampNeg (xs a1.toNatClampNeg)) a1.toNatClampNeg v_1))), (ya, .inl (cI, 8, .inl (upd (upd ys a0.toNatClampNeg (ys a1.toNatClampNeg)) a1.toNatClampNeg v_2)))] H := hP
  have hD : va_D A [(h0, .inr (0, [.ref xa, .ref ya, .int sz, .int fo])), (xa, .inl (cI, 8, .inl (upd (upd xs a0.toNatClampNeg (xs a1.toNatClampNeg)) a1.toNatClampNeg v_1))), (ya, .inl (cI, 8, .inl (upd (upd ys a0.toNatClampNeg (ys a1.toNatClampNeg)) a1.toNatClampNeg v_2)))] := hD
  obtain ⟨rfl, rfl⟩ := tp2 hF
  rw [← hQ]
  exact W.vret hx hb hr (fun t ht hW => ⟨⟨(), rfl, trivial, by rw [ht]; exact hP, va_K.moved hW.alike hK, hD⟩, hS.F ht⟩) hS.2.2 dX0_swap_54

def L_X0_reverse_7 : Nat → Int32 → Int32 → (Nat → Int32) → (Nat → Int32) → Option (Int32 × Int32 × (Nat → Int32) × (Nat → Int32))
  | 0, _, _, _, _ => none
  | n + 1, k_2, k_3, xs_4, ys_5 =>
    if k_3 ≤ k_2 then
      some (k_2, k_3, xs_4, ys_5)
    else
      bd2 (P_X0_swap k_2 k_3 xs_4 ys_5) (fun xs_11 ys_12 =>
      L_X0_reverse_7 n (k_2 + (1 : Int32)) (k_3 + (-1 : Int32)) xs_11 ys_12)
theorem L_X0_reverse_7_s (n : Nat) (k_2 : Int32) (k_3 : Int32) (xs_4 : Nat → Int32) (ys_5 : Nat → Int32) : L_X0_reverse_7 (n + 1) k_2 k_3 xs_4 ys_5 =
    (if k_3 ≤ k_2 then
      some (k_2, k_3, xs_4, ys_5)
    else
      bd2 (P_X0_swap k_2 k_3 xs_4 ys_5) (fun xs_11 ys_12 =>
      L_X0_reverse_7 n (k_2 + (1 : Int32)) (k_3 + (-1 : Int32)) xs_11 ys_12)) := rfl

def P_X0_reverse (a0 : Int32) (a1 : Int32) (xs : Nat → Int32) (ys : Nat → Int32) : Option ((Nat → Int32) × (Nat → Int32)) :=
  nm (a1 - (1 : Int32)) (fun v_1 =>
  bd4 (L_X0_reverse_7 1000 a0 v_1 xs ys) (fun o_6 o_7 o_8 o_9 =>
  some (o_8, o_9)))

def rm_X0_reverse : Room := { frames := 1, cells := 0, slots := 0, locals := 24 }

set_option maxHeartbeats 4000000 in
set_option maxRecDepth 100000 in
theorem c_X0_reverse (l : Launch) (dC : Nat → ClassId) (dI : Nat → Nat → Nat) (h0 xa ya : Nat) (cI : ClassId) (hsz0 : Nat) (xs : Nat → Int32) (ys : Nat → Int32) (sz : Int32) (fo : Int32) (a0 : Int32) (a1 : Int32) (xsN : Nat → Int32) (ysN : Nat → Int32) (hF : P_X0_reverse a0 a1 xs ys = some (xsN, ysN)) : Met l yX0_reverse wsX0_reverse rm_X0_reverse (va_Pc [.ref h0, .int a0, .int a1] (fun U => U.heap.size = hsz0 ∧ va_P (dC, dI) vwCl [(h0, .inr (0, [.ref xa, .ref ya, .int sz, .int fo])), (xa, .inl (cI, 8, .inl xs)), (ya, .inl (cI, 8, .inl ys))] U.heap ∧ va_K (dC, dI) vwCl [(cI, .int)] U ∧ va_D (fun _ => True) [(h0, .inr (0, [.ref xa, .ref ya, .int sz, .int fo])), (xa, .inl (cI, 8, .inl xs)), (ya, .inl (cI, 8, .inl ys))])) (va_Qv (fun (_ : Unit) => True) (fun _ t => va_P (dC, dI) vwCl [(h0, .inr (0, [.ref xa, .ref ya, .int sz, .int fo])), (xa, .inl (cI, 8, .inl xsN)), (ya, .inl (cI, 8, .inl ysN))] t.heap ∧ va_K (dC, dI) vwCl [(cI, .int)] t ∧ va_D (va_A [(h0, .inr (0, [.ref xa, .ref ya, .int sz, .int fo])), (xa, .inl (cI, 8, .inl xs)), (ya, .inl (cI, 8, .inl ys))] hsz0) [(h0, .inr (0, [.ref xa, .ref ya, .int sz, .int fo])), (xa, .inl (cI, 8, .inl xsN)), (ya, .inl (cI, 8, .inl ysN))]) (va_A [(h0, .inr (0, [.ref xa, .ref ya, .int sz, .int fo])), (xa, .inl (cI, 8, .inl xs)), (ya, .inl (cI, 8, .inl ys))] hsz0)) 0 0 (va_A [(h0, .inr (0, [.ref xa, .ref ya, .int sz, .int fo])), (xa, .inl (cI, 8, .inl xs)), (ya, .inl (cI, 8, .inl ys))] hsz0) := by
  refine Met.ofW (cc := cX0_reverse) (maxL := 5) (ret := none) (by decide) rfl ?_
  intro p e s m args below meth c s₁ B hml hv
  change W p l e rm_X0_reverse s m args below meth c s.heap [] 0 0 _ _
  obtain ⟨hv, hsz, hP, hK, hD0⟩ := hv
  have hx := B.exec
  have hb := B.bytes
  have hr := B.returns
  have hts := atoms_spec (ws := wsX0_reverse) B.pre
  have hown : s.vm.findClass RX0 = some m.cls := findClass_of_methodNamed B.named
  have hlocks := B.notSynchronized
  subst hsz
  have hD := hD0.self (sz := s.heap.size)
  generalize hAe : va_A [(h0, .inr (0, [.ref xa, .ref ya, .int sz, .int fo])), (xa, .inl (cI, 8, .inl xs)), (ya, .inl (cI, 8, .inl ys))] s.heap.size = A at hD ⊢
  have hA : ∀ q : Nat, s.heap.size ≤ q → A q := fun q h => by rw [← hAe]; exact Or.inr h
  have hS : va_S A s.heap s.heap [] := va_S.rf
  generalize hQ : MQ below (va_Qv (fun (_ : Unit) => True) (fun _ t => va_P (dC, dI) vwCl [(h0, .inr (0, [.ref xa, .ref ya, .int sz, .int fo])), (xa, .inl (cI, 8, .inl xsN)), (ya, .inl (cI, 8, .inl ysN))] t.heap ∧ va_K (dC, dI) vwCl [(cI, .int)] t ∧ va_D A [(h0, .inr (0, [.ref xa, .ref ya, .int sz, .int fo])), (xa, .inl (cI, 8, .inl xsN)), (ya, .inl (cI, 8, .inl ysN))]) A) args s 0 0 A = Q
  have hl := lv_entry ([.ref h0, .int a0, .int a1]) (n := 5) (Nat.le_of_ble_eq_true rfl)
  have hE : entryFrame m args 5 = F0 m 0 ((lg_sl ([.ref h0, .int a0, .int a1]) ++ List.replicate (5 - (lg_sl ([.ref h0, .int a0, .int a1])).length) Slot.unset).toArray) [] := by rw [hv]; exact lg_entry_eq m _ 5
  rw [hE]
  generalize (lg_sl ([.ref h0, .int a0, .int a1]) ++ List.replicate (5 - (lg_sl ([.ref h0, .int a0, .int a1])).length) Slot.unset).toArray = ls at hl ⊢
  have hl : lv_has ls 5 [(0, .ref h0), (1, .int a0), (2, .int a1)] := hl
  unfold P_X0_reverse at hF
  refine lv_iload_n hx hb dX0_reverse_0 rfl (lv_at hl 2 rfl) ?_
  refine lv_iconst (v := 1) hx hb dX0_reverse_1 (by decide) ?_
  refine lv_isub hx hb dX0_reverse_2 ?_
  refine lv_topi (fun v_1 ev_1 => ?_)
  have hF := nm_u hF ev_1
  refine lv_istore_n (lv' := [(3, .int v_1), (0, .ref h0), (1, .int a0), (2, .int a1)]) hx hb dX0_reverse_3 rfl hl (by decide) rfl (fun ls hl => ?_)
  refine lv_iload_n hx hb dX0_reverse_4 rfl (lv_at hl 2 rfl) ?_
  refine lv_istore (lv' := [(4, .int a0), (3, .int v_1), (0, .ref h0), (1, .int a0), (2, .int a1)]) hx hb dX0_reverse_5 hl (by decide) rfl (fun ls hl => ?_)
  obtain ⟨o_6, o_7, o_8, o_9, hL_7, hF⟩ := bd4_u hF
  have lp_7 : ∀ (n : Nat) (k_2 : Int32) (k_3 : Int32) (xs_4 : Nat → Int32) (ys_5 : Nat → Int32) (o_6 : Int32) (o_7 : Int32) (o_8 : Nat → Int32) (o_9 : Nat → Int32) (H : Heap) (locs : List Loc) (ls : Array Slot), L_X0_reverse_7 n k_2 k_3 xs_4 ys_5 = some (o_6, o_7, o_8, o_9) → va_P (dC, dI) vwCl [(h0, .inr (0, [.ref xa, .ref ya, .int sz, .int fo])), (xa, .inl (cI, 8, .inl xs_4)), (ya, .inl (cI, 8, .inl ys_5))] H → va_D A [(h0, .inr (0, [.ref xa, .ref ya, .int sz, .int fo])), (xa, .inl (cI, 8, .inl xs_4)), (ya, .inl (cI, 8, .inl ys_5))] → va_S A s.heap H locs → lv_has ls 5 [(4, .int k_2), (3, .int k_3), (0, .ref h0), (1, .int a0), (2, .int a1)] → (∀ (H : Heap) (locs : List Loc) (ls : Array Slot), va_P (dC, dI) vwCl [(h0, .inr (0, [.ref xa, .ref ya, .int sz, .int fo])), (xa, .inl (cI, 8, .inl o_8)), (ya, .inl (cI, 8, .inl o_9))] H → va_D A [(h0, .inr (0, [.ref xa, .ref ya, .int sz, .int fo])), (xa, .inl (cI, 8, .inl o_8)), (ya, .inl (cI, 8, .inl o_9))] → va_S A s.heap H locs → lv_has ls 5 [(4, .int o_6), (3, .int o_7), (0, .ref h0), (1, .int a0), (2, .int a1)] → W p l e rm_X0_reverse s m args below meth c H locs 0 0 Q (F0 m 29 ls [])) → W p l e rm_X0_reverse s m args below meth c H locs 0 0 Q (F0 m 7 ls []) := by
    intro n
    induction n with
    | zero =>
      intro k_2 k_3 xs_4 ys_5 o_6 o_7 o_8 o_9 H locs ls hF
      exact nn ((rfl : L_X0_reverse_7 0 k_2 k_3 xs_4 ys_5 = none).symm.trans hF)
    | succ n ih_7 =>
      intro k_2 k_3 xs_4 ys_5 o_6 o_7 o_8 o_9 H locs ls hF hP hD hS hl kx_7
      have hF := (L_X0_reverse_7_s n k_2 k_3 xs_4 ys_5).symm.trans hF
      refine lv_iload hx hb dX0_reverse_7 (lv_at hl 0 rfl) ?_
      refine lv_iload_n hx hb dX0_reverse_9 rfl (lv_at hl 1 rfl) ?_
      refine lv_icmp_ge (tgt := 29) hx hb dX0_reverse_10 (by decide) (fun c_10 => ?_) (fun c_10 => ?_)
      · have hF := br1 hF c_10
        obtain ⟨rfl, rfl, rfl, rfl⟩ := tp4 hF
        exact kx_7 _ _ ls hP hD hS hl
      · have hF := br0 hF c_10
        refine lv_aload_n hx hb dX0_reverse_13 rfl (lv_at hl 2 rfl) ?_
        refine lv_iload hx hb dX0_reverse_14 (lv_at hl 0 rfl) ?_
        refine lv_iload_n hx hb dX0_reverse_16 rfl (lv_at hl 1 rfl) ?_
        obtain ⟨xs_11, ys_12, hr_12, hF⟩ := bd2_u hF
        have hPc := hP.sub (ws' := [(h0, .inr (0, [.ref xa, .ref ya, .int sz, .int fo])), (xa, .inl (cI, 8, .inl xs_4)), (ya, .inl (cI, 8, .inl ys_5))]) [0, 1, 2] rfl
        have hKc := hK.sub (tys' := [(cI, .int)]) [0] rfl
        have hDc := hD.sub (ws' := [(h0, .inr (0, [.ref xa, .ref ya, .int sz, .int fo])), (xa, .inl (cI, 8, .inl xs_4)), (ya, .inl (cI, 8, .inl ys_5))]) [0, 1, 2] (by decide) rfl
        have hFc := va_free (wc := [(h0, .inr (0, [.ref xa, .ref ya, .int sz, .int fo])), (xa, .inl (cI, 8, .inl xs_4)), (ya, .inl (cI, 8, .inl ys_5))]) hD hS hA [0, 1, 2] rfl
        refine va_callv (va_runV (As := [.int k_2, .int k_3]) (rest := []) ⟨hx, hb, hml, hown, hts⟩ (c_X0_swap l dC dI h0 xa ya cI H.size xs_4 ys_5 sz fo k_2 k_3 xs_11 ys_12 hr_12) (cwV 2 hts gX0_reverse_X0_swap rfl rfl rfl (by decide +kernel) ⟨Nat.le_of_ble_eq_true rfl, Nat.le_of_ble_eq_true rfl⟩) ⟨fun a U g mk q => ⟨q.1, q.2.1, q.2.2.1, va_K.moved (u := U) (U := U.calling g mk a) (Vm.Alike.refl U.vm) q.2.2.2.1, q.2.2.2.2⟩, va_recv hKc hPc (ci := 0) (q0 := 0) rfl rfl, fun U hU hW => ⟨rfl, by rw [hU], by rw [hU]; exact hPc, va_K.moved hW.alike hKc, hDc.weaken (fun _ _ _ _ => trivial)⟩⟩ rfl rfl hl.1 rfl (lv_room (Nat.le_of_ble_eq_true rfl)) dX0_reverse_17 ⟨Nat.le_of_ble_eq_true rfl, Nat.le_of_ble_eq_true rfl⟩) hS (fun q _ h => hFc q h) hFc (fun _ t H1 locs ht hvm hw hB hz1 hk1 hS => ?_)
        obtain ⟨hP1, hK1, hD1⟩ := hB
        rw [ht] at hP1
        obtain ⟨hP, hD⟩ := va_join (wr := []) (w1 := [(h0, .inr (0, [.ref xa, .ref ya, .int sz, .int fo])), (xa, .inl (cI, 8, .inl xs_11)), (ya, .inl (cI, 8, .inl ys_12))]) hP hD [0, 1, 2] [] rfl rfl (by decide) (by decide) hk1 hFc hP1 hD1
        clear hP1 hK1 hD1 hk1 hFc
        generalize H1 = H at hP hS ⊢
        have hP : va_P (dC, dI) vwCl [(h0, .inr (0, [.ref xa, .ref ya, .int sz, .int fo])), (xa, .inl (cI, 8, .inl xs_11)), (ya, .inl (cI, 8, .inl ys_12))] H := hP
        have hD : va_D A [(h0, .inr (0, [.ref xa, .ref ya, .int sz, .int fo])), (xa, .inl (cI, 8, .inl xs_11)), (ya, .inl (cI, 8, .inl ys_12))] := hD
        refine lv_iinc (v := (k_3 + (-1 : Int32))) (lv' := [(3, .int (k_3 + (-1 : Int32))), (4, .int k_2), (0, .ref h0), (1, .int a0), (2, .int a1)]) hx hb dX0_reverse_20 hl (k := 1) rfl rfl (by decide) rfl (fun ls hl => ?_)
        refine lv_iinc (v := (k_2 + (1 : Int32))) (lv' := [(4, .int (k_2 + (1 : Int32))), (3, .int (k_3 + (-1 : Int32))), (0, .ref h0), (1, .int a0), (2, .int a1)]) hx hb dX0_reverse_23 hl (k := 1) rfl rfl (by decide) rfl (fun ls hl => ?_)
        refine lv_goto (tgt := 7) hx hb dX0_reverse_26 (by decide) ?_
        exact ih_7 _ _ _ _ _ _ _ _ _ _ ls hF hP hD hS hl kx_7
  refine lp_7 1000 a0 v_1 xs ys o_6 o_7 o_8 o_9 _ _ ls hL_7 hP hD hS hl (fun H locs ls hP hD hS hl => ?_)
  obtain ⟨rfl, rfl⟩ := tp2 hF
  rw [← hQ]
  exact W.vret hx hb hr (fun t ht hW => ⟨⟨(), rfl, trivial, by rw [ht]; exact hP, va_K.moved hW.alike hK, hD⟩, hS.F ht⟩) hS.2.2 dX0_reverse_29

def P_X0_startAt (a0 : Int32) (xs : Nat → Int32) (ys : Nat → Int32) (sz : Int32) : Option ((Nat → Int32) × (Nat → Int32)) :=
  bd2 (P_X0_reverse (0 : Int32) a0 xs ys) (fun xs_1 ys_2 =>
  bd2 (P_X0_reverse a0 sz xs_1 ys_2) (fun xs_3 ys_4 =>
  bd2 (P_X0_reverse (0 : Int32) sz xs_3 ys_4) (fun xs_5 ys_6 =>
  some (xs_5, ys_6))))

def rm_X0_startAt : Room := { frames := 2, cells := 0, slots := 0, locals := 48 }

set_option maxHeartbeats 4000000 in
set_option maxRecDepth 100000 in
theorem c_X0_startAt (l : Launch) (dC : Nat → ClassId) (dI : Nat → Nat → Nat) (h0 xa ya : Nat) (cI : ClassId) (hsz0 : Nat) (xs : Nat → Int32) (ys : Nat → Int32) (sz : Int32) (fo : Int32) (a0 : Int32) (xsN : Nat → Int32) (ysN : Nat → Int32) (hF : P_X0_startAt a0 xs ys sz = some (xsN, ysN)) : Met l yX0_startAt wsX0_startAt rm_X0_startAt (va_Pc [.ref h0, .int a0] (fun U => U.heap.size = hsz0 ∧ va_P (dC, dI) vwCl [(h0, .inr (0, [.ref xa, .ref ya, .int sz, .int fo])), (xa, .inl (cI, 8, .inl xs)), (ya, .inl (cI, 8, .inl ys))] U.heap ∧ va_K (dC, dI) vwCl [(cI, .int)] U ∧ va_D (fun _ => True) [(h0, .inr (0, [.ref xa, .ref ya, .int sz, .int fo])), (xa, .inl (cI, 8, .inl xs)), (ya, .inl (cI, 8, .inl ys))])) (va_Qv (fun (_ : Unit) => True) (fun _ t => va_P (dC, dI) vwCl [(h0, .inr (0, [.ref xa, .ref ya, .int sz, .int fo])), (xa, .inl (cI, 8, .inl xsN)), (ya, .inl (cI, 8, .inl ysN))] t.heap ∧ va_K (dC, dI) vwCl [(cI, .int)] t ∧ va_D (va_A [(h0, .inr (0, [.ref xa, .ref ya, .int sz, .int fo])), (xa, .inl (cI, 8, .inl xs)), (ya, .inl (cI, 8, .inl ys))] hsz0) [(h0, .inr (0, [.ref xa, .ref ya, .int sz, .int fo])), (xa, .inl (cI, 8, .inl xsN)), (ya, .inl (cI, 8, .inl ysN))]) (va_A [(h0, .inr (0, [.ref xa, .ref ya, .int sz, .int fo])), (xa, .inl (cI, 8, .inl xs)), (ya, .inl (cI, 8, .inl ys))] hsz0)) 0 0 (va_A [(h0, .inr (0, [.ref xa, .ref ya, .int sz, .int fo])), (xa, .inl (cI, 8, .inl xs)), (ya, .inl (cI, 8, .inl ys))] hsz0) := by
  refine Met.ofW (cc := cX0_startAt) (maxL := 2) (ret := none) (by decide) rfl ?_
  intro p e s m args below meth c s₁ B hml hv
  change W p l e rm_X0_startAt s m args below meth c s.heap [] 0 0 _ _
  obtain ⟨hv, hsz, hP, hK, hD0⟩ := hv
  have hx := B.exec
  have hb := B.bytes
  have hr := B.returns
  have hts := atoms_spec (ws := wsX0_startAt) B.pre
  have hown : s.vm.findClass RX0 = some m.cls := findClass_of_methodNamed B.named
  have hlocks := B.notSynchronized
  subst hsz
  have hD := hD0.self (sz := s.heap.size)
  generalize hAe : va_A [(h0, .inr (0, [.ref xa, .ref ya, .int sz, .int fo])), (xa, .inl (cI, 8, .inl xs)), (ya, .inl (cI, 8, .inl ys))] s.heap.size = A at hD ⊢
  have hA : ∀ q : Nat, s.heap.size ≤ q → A q := fun q h => by rw [← hAe]; exact Or.inr h
  have hS : va_S A s.heap s.heap [] := va_S.rf
  generalize hQ : MQ below (va_Qv (fun (_ : Unit) => True) (fun _ t => va_P (dC, dI) vwCl [(h0, .inr (0, [.ref xa, .ref ya, .int sz, .int fo])), (xa, .inl (cI, 8, .inl xsN)), (ya, .inl (cI, 8, .inl ysN))] t.heap ∧ va_K (dC, dI) vwCl [(cI, .int)] t ∧ va_D A [(h0, .inr (0, [.ref xa, .ref ya, .int sz, .int fo])), (xa, .inl (cI, 8, .inl xsN)), (ya, .inl (cI, 8, .inl ysN))]) A) args s 0 0 A = Q
  have hl := lv_entry ([.ref h0, .int a0]) (n := 2) (Nat.le_of_ble_eq_true rfl)
  have hE : entryFrame m args 2 = F0 m 0 ((lg_sl ([.ref h0, .int a0]) ++ List.replicate (2 - (lg_sl ([.ref h0, .int a0])).length) Slot.unset).toArray) [] := by rw [hv]; exact lg_entry_eq m _ 2
  rw [hE]
  generalize (lg_sl ([.ref h0, .int a0]) ++ List.replicate (2 - (lg_sl ([.ref h0, .int a0])).length) Slot.unset).toArray = ls at hl ⊢
  have hl : lv_has ls 2 [(0, .ref h0), (1, .int a0)] := hl
  unfold P_X0_startAt at hF
  refine lv_aload_n hx hb dX0_startAt_0 rfl (lv_at hl 0 rfl) ?_
  refine lv_iconst (v := 0) hx hb dX0_startAt_1 (by decide) ?_
  refine lv_iload_n hx hb dX0_startAt_2 rfl (lv_at hl 1 rfl) ?_
  obtain ⟨xs_1, ys_2, hr_2, hF⟩ := bd2_u hF
  have hPc := hP.sub (ws' := [(h0, .inr (0, [.ref xa, .ref ya, .int sz, .int fo])), (xa, .inl (cI, 8, .inl xs)), (ya, .inl (cI, 8, .inl ys))]) [0, 1, 2] rfl
  have hKc := hK.sub (tys' := [(cI, .int)]) [0] rfl
  have hDc := hD.sub (ws' := [(h0, .inr (0, [.ref xa, .ref ya, .int sz, .int fo])), (xa, .inl (cI, 8, .inl xs)), (ya, .inl (cI, 8, .inl ys))]) [0, 1, 2] (by decide) rfl
  have hFc := va_free (wc := [(h0, .inr (0, [.ref xa, .ref ya, .int sz, .int fo])), (xa, .inl (cI, 8, .inl xs)), (ya, .inl (cI, 8, .inl ys))]) hD hS hA [0, 1, 2] rfl
  refine va_callv (va_runV (As := [.int (0 : Int32), .int a0]) (rest := []) ⟨hx, hb, hml, hown, hts⟩ (c_X0_reverse l dC dI h0 xa ya cI s.heap.size xs ys sz fo (0 : Int32) a0 xs_1 ys_2 hr_2) (cwV 2 hts gX0_startAt_X0_reverse rfl rfl rfl (by decide +kernel) ⟨Nat.le_of_ble_eq_true rfl, Nat.le_of_ble_eq_true rfl⟩) ⟨fun a U g mk q => ⟨q.1, q.2.1, q.2.2.1, va_K.moved (u := U) (U := U.calling g mk a) (Vm.Alike.refl U.vm) q.2.2.2.1, q.2.2.2.2⟩, va_recv hKc hPc (ci := 0) (q0 := 0) rfl rfl, fun U hU hW => ⟨rfl, by rw [hU], by rw [hU]; exact hPc, va_K.moved hW.alike hKc, hDc.weaken (fun _ _ _ _ => trivial)⟩⟩ rfl rfl hl.1 rfl (lv_room (Nat.le_of_ble_eq_true rfl)) dX0_startAt_3 ⟨Nat.le_of_ble_eq_true rfl, Nat.le_of_ble_eq_true rfl⟩) hS (fun q _ h => hFc q h) hFc (fun _ t H1 locs ht hvm hw hB hz1 hk1 hS => ?_)
  obtain ⟨hP1, hK1, hD1⟩ := hB
  rw [ht] at hP1
  obtain ⟨hP, hD⟩ := va_join (wr := []) (w1 := [(h0, .inr (0, [.ref xa, .ref ya, .int sz, .int fo])), (xa, .inl (cI, 8, .inl xs_1)), (ya, .inl (cI, 8, .inl ys_2))]) hP hD [0, 1, 2] [] rfl rfl (by decide) (by decide) hk1 hFc hP1 hD1
  clear hP1 hK1 hD1 hk1 hFc
  generalize H1 = H at hP hS ⊢
  have hP : va_P (dC, dI) vwCl [(h0, .inr (0, [.ref xa, .ref ya, .int sz, .int fo])), (xa, .inl (cI, 8, .inl xs_1)), (ya, .inl (cI, 8, .inl ys_2))] H := hP
  have hD : va_D A [(h0, .inr (0, [.ref xa, .ref ya, .int sz, .int fo])), (xa, .inl (cI, 8, .inl xs_1)), (ya, .inl (cI, 8, .inl ys_2))] := hD
  refine lv_aload_n hx hb dX0_startAt_6 rfl (lv_at hl 0 rfl) ?_
  refine lv_iload_n hx hb dX0_startAt_7 rfl (lv_at hl 1 rfl) ?_
  refine lv_aload_n hx hb dX0_startAt_8 rfl (lv_at hl 0 rfl) ?_
  refine va_get (D := (dC, dI)) (ci := 0) (v := .int sz) (C := RX0) (T := TX0) (N := 4) hx hb hts (by decide +kernel) hown hK hP 0 rfl rfl 2 (by decide) (hts (.fieldLink RX0 18 "DotCover$Layer" "size" "I") (by decide +kernel)) (fun _ h9 => h9) rfl dX0_startAt_9 ?_
  obtain ⟨xs_3, ys_4, hr_4, hF⟩ := bd2_u hF
  have hPc := hP.sub (ws' := [(h0, .inr (0, [.ref xa, .ref ya, .int sz, .int fo])), (xa, .inl (cI, 8, .inl xs_1)), (ya, .inl (cI, 8, .inl ys_2))]) [0, 1, 2] rfl
  have hKc := hK.sub (tys' := [(cI, .int)]) [0] rfl
  have hDc := hD.sub (ws' := [(h0, .inr (0, [.ref xa, .ref ya, .int sz, .int fo])), (xa, .inl (cI, 8, .inl xs_1)), (ya, .inl (cI, 8, .inl ys_2))]) [0, 1, 2] (by decide) rfl
  have hFc := va_free (wc := [(h0, .inr (0, [.ref xa, .ref ya, .int sz, .int fo])), (xa, .inl (cI, 8, .inl xs_1)), (ya, .inl (cI, 8, .inl ys_2))]) hD hS hA [0, 1, 2] rfl
  refine va_callv (va_runV (As := [.int a0, .int sz]) (rest := []) ⟨hx, hb, hml, hown, hts⟩ (c_X0_reverse l dC dI h0 xa ya cI H.size xs_1 ys_2 sz fo a0 sz xs_3 ys_4 hr_4) (cwV 2 hts gX0_startAt_X0_reverse rfl rfl rfl (by decide +kernel) ⟨Nat.le_of_ble_eq_true rfl, Nat.le_of_ble_eq_true rfl⟩) ⟨fun a U g mk q => ⟨q.1, q.2.1, q.2.2.1, va_K.moved (u := U) (U := U.calling g mk a) (Vm.Alike.refl U.vm) q.2.2.2.1, q.2.2.2.2⟩, va_recv hKc hPc (ci := 0) (q0 := 0) rfl rfl, fun U hU hW => ⟨rfl, by rw [hU], by rw [hU]; exact hPc, va_K.moved hW.alike hKc, hDc.weaken (fun _ _ _ _ => trivial)⟩⟩ rfl rfl hl.1 rfl (lv_room (Nat.le_of_ble_eq_true rfl)) dX0_startAt_12 ⟨Nat.le_of_ble_eq_true rfl, Nat.le_of_ble_eq_true rfl⟩) hS (fun q _ h => hFc q h) hFc (fun _ t H1 locs ht hvm hw hB hz1 hk1 hS => ?_)
  obtain ⟨hP1, hK1, hD1⟩ := hB
  rw [ht] at hP1
  obtain ⟨hP, hD⟩ := va_join (wr := []) (w1 := [(h0, .inr (0, [.ref xa, .ref ya, .int sz, .int fo])), (xa, .inl (cI, 8, .inl xs_3)), (ya, .inl (cI, 8, .inl ys_4))]) hP hD [0, 1, 2] [] rfl rfl (by decide) (by decide) hk1 hFc hP1 hD1
  clear hP1 hK1 hD1 hk1 hFc
  generalize H1 = H at hP hS ⊢
  have hP : va_P (dC, dI) vwCl [(h0, .inr (0, [.ref xa, .ref ya, .int sz, .int fo])), (xa, .inl (cI, 8, .inl xs_3)), (ya, .inl (cI, 8, .inl ys_4))] H := hP
  have hD : va_D A [(h0, .inr (0, [.ref xa, .ref ya, .int sz, .int fo])), (xa, .inl (cI, 8, .inl xs_3)), (ya, .inl (cI, 8, .inl ys_4))] := hD
  refine lv_aload_n hx hb dX0_startAt_15 rfl (lv_at hl 0 rfl) ?_
  refine lv_iconst (v := 0) hx hb dX0_startAt_16 (by decide) ?_
  refine lv_aload_n hx hb dX0_startAt_17 rfl (lv_at hl 0 rfl) ?_
  refine va_get (D := (dC, dI)) (ci := 0) (v := .int sz) (C := RX0) (T := TX0) (N := 4) hx hb hts (by decide +kernel) hown hK hP 0 rfl rfl 2 (by decide) (hts (.fieldLink RX0 18 "DotCover$Layer" "size" "I") (by decide +kernel)) (fun _ h9 => h9) rfl dX0_startAt_18 ?_
  obtain ⟨xs_5, ys_6, hr_6, hF⟩ := bd2_u hF
  have hPc := hP.sub (ws' := [(h0, .inr (0, [.ref xa, .ref ya, .int sz, .int fo])), (xa, .inl (cI, 8, .inl xs_3)), (ya, .inl (cI, 8, .inl ys_4))]) [0, 1, 2] rfl
  have hKc := hK.sub (tys' := [(cI, .int)]) [0] rfl
  have hDc := hD.sub (ws' := [(h0, .inr (0, [.ref xa, .ref ya, .int sz, .int fo])), (xa, .inl (cI, 8, .inl xs_3)), (ya, .inl (cI, 8, .inl ys_4))]) [0, 1, 2] (by decide) rfl
  have hFc := va_free (wc := [(h0, .inr (0, [.ref xa, .ref ya, .int sz, .int fo])), (xa, .inl (cI, 8, .inl xs_3)), (ya, .inl (cI, 8, .inl ys_4))]) hD hS hA [0, 1, 2] rfl
  refine va_callv (va_runV (As := [.int (0 : Int32), .int sz]) (rest := []) ⟨hx, hb, hml, hown, hts⟩ (c_X0_reverse l dC dI h0 xa ya cI H.size xs_3 ys_4 sz fo (0 : Int32) sz xs_5 ys_6 hr_6) (cwV 2 hts gX0_startAt_X0_reverse rfl rfl rfl (by decide +kernel) ⟨Nat.le_of_ble_eq_true rfl, Nat.le_of_ble_eq_true rfl⟩) ⟨fun a U g mk q => ⟨q.1, q.2.1, q.2.2.1, va_K.moved (u := U) (U := U.calling g mk a) (Vm.Alike.refl U.vm) q.2.2.2.1, q.2.2.2.2⟩, va_recv hKc hPc (ci := 0) (q0 := 0) rfl rfl, fun U hU hW => ⟨rfl, by rw [hU], by rw [hU]; exact hPc, va_K.moved hW.alike hKc, hDc.weaken (fun _ _ _ _ => trivial)⟩⟩ rfl rfl hl.1 rfl (lv_room (Nat.le_of_ble_eq_true rfl)) dX0_startAt_21 ⟨Nat.le_of_ble_eq_true rfl, Nat.le_of_ble_eq_true rfl⟩) hS (fun q _ h => hFc q h) hFc (fun _ t H1 locs ht hvm hw hB hz1 hk1 hS => ?_)
  obtain ⟨hP1, hK1, hD1⟩ := hB
  rw [ht] at hP1
  obtain ⟨hP, hD⟩ := va_join (wr := []) (w1 := [(h0, .inr (0, [.ref xa, .ref ya, .int sz, .int fo])), (xa, .inl (cI, 8, .inl xs_5)), (ya, .inl (cI, 8, .inl ys_6))]) hP hD [0, 1, 2] [] rfl rfl (by decide) (by decide) hk1 hFc hP1 hD1
  clear hP1 hK1 hD1 hk1 hFc
  generalize H1 = H at hP hS ⊢
  have hP : va_P (dC, dI) vwCl [(h0, .inr (0, [.ref xa, .ref ya, .int sz, .int fo])), (xa, .inl (cI, 8, .inl xs_5)), (ya, .inl (cI, 8, .inl ys_6))] H := hP
  have hD : va_D A [(h0, .inr (0, [.ref xa, .ref ya, .int sz, .int fo])), (xa, .inl (cI, 8, .inl xs_5)), (ya, .inl (cI, 8, .inl ys_6))] := hD
  obtain ⟨rfl, rfl⟩ := tp2 hF
  rw [← hQ]
  exact W.vret hx hb hr (fun t ht hW => ⟨⟨(), rfl, trivial, by rw [ht]; exact hP, va_K.moved hW.alike hK, hD⟩, hS.F ht⟩) hS.2.2 dX0_startAt_24

def L_X0_rawParts_24 (xs : Nat → Int32) (ys : Nat → Int32) (sz : Int32) (v_1 : Int32) (v_2 : Int32) : Nat → Int32 → Int64 → Option (Int32 × Int64)
  | 0, _, _ => none
  | n + 1, k_3, k_4 =>
    if sz ≤ k_3 then
      some (k_3, k_4)
    else
      if sz ≤ (k_3 + (1 : Int32)) then
        gd (ib k_3 8) (
        if (ys (0 : Int32).toNatClampNeg) ≤ (ys k_3.toNatClampNeg) then
          gd (ib k_3 8) (
          if (ys k_3.toNatClampNeg) ≤ (ys (0 : Int32).toNatClampNeg) then
            L_X0_rawParts_24 xs ys sz v_1 v_2 n (k_3 + (1 : Int32)) k_4
          else
            gd (ib k_3 8) (
            gd (ib k_3 8) (
            bd1 (P_X0_leftOfEdge (xs (0 : Int32).toNatClampNeg) (ys (0 : Int32).toNatClampNeg) (xs k_3.toNatClampNeg) (ys k_3.toNatClampNeg) v_1 v_2) (fun r_11 =>
            nm (k_4 - r_11) (fun v_12 =>
            L_X0_rawParts_24 xs ys sz v_1 v_2 n (k_3 + (1 : Int32)) v_12)))))
        else
          gd (ib k_3 8) (
          gd (ib k_3 8) (
          bd1 (P_X0_leftOfEdge (xs k_3.toNatClampNeg) (ys k_3.toNatClampNeg) (xs (0 : Int32).toNatClampNeg) (ys (0 : Int32).toNatClampNeg) v_1 v_2) (fun r_13 =>
          nm (k_4 + r_13) (fun v_14 =>
          L_X0_rawParts_24 xs ys sz v_1 v_2 n (k_3 + (1 : Int32)) v_14)))))
      else
        nm (k_3 + (1 : Int32)) (fun v_15 =>
        gd (ib k_3 8) (
        gd (ib v_15 8) (
        if (ys v_15.toNatClampNeg) ≤ (ys k_3.toNatClampNeg) then
          gd (ib k_3 8) (
          gd (ib v_15 8) (
          if (ys k_3.toNatClampNeg) ≤ (ys v_15.toNatClampNeg) then
            L_X0_rawParts_24 xs ys sz v_1 v_2 n (k_3 + (1 : Int32)) k_4
          else
            gd (ib v_15 8) (
            gd (ib v_15 8) (
            gd (ib k_3 8) (
            gd (ib k_3 8) (
            bd1 (P_X0_leftOfEdge (xs v_15.toNatClampNeg) (ys v_15.toNatClampNeg) (xs k_3.toNatClampNeg) (ys k_3.toNatClampNeg) v_1 v_2) (fun r_18 =>
            nm (k_4 - r_18) (fun v_19 =>
            L_X0_rawParts_24 xs ys sz v_1 v_2 n (k_3 + (1 : Int32)) v_19))))))))
        else
          gd (ib k_3 8) (
          gd (ib k_3 8) (
          gd (ib v_15 8) (
          gd (ib v_15 8) (
          bd1 (P_X0_leftOfEdge (xs k_3.toNatClampNeg) (ys k_3.toNatClampNeg) (xs v_15.toNatClampNeg) (ys v_15.toNatClampNeg) v_1 v_2) (fun r_20 =>
          nm (k_4 + r_20) (fun v_21 =>
          L_X0_rawParts_24 xs ys sz v_1 v_2 n (k_3 + (1 : Int32)) v_21)))))))))
theorem L_X0_rawParts_24_s (xs : Nat → Int32) (ys : Nat → Int32) (sz : Int32) (v_1 : Int32) (v_2 : Int32) (n : Nat) (k_3 : Int32) (k_4 : Int64) : L_X0_rawParts_24 xs ys sz v_1 v_2 (n + 1) k_3 k_4 =
    (if sz ≤ k_3 then
      some (k_3, k_4)
    else
      if sz ≤ (k_3 + (1 : Int32)) then
        gd (ib k_3 8) (
        if (ys (0 : Int32).toNatClampNeg) ≤ (ys k_3.toNatClampNeg) then
          gd (ib k_3 8) (
          if (ys k_3.toNatClampNeg) ≤ (ys (0 : Int32).toNatClampNeg) then
            L_X0_rawParts_24 xs ys sz v_1 v_2 n (k_3 + (1 : Int32)) k_4
          else
            gd (ib k_3 8) (
            gd (ib k_3 8) (
            bd1 (P_X0_leftOfEdge (xs (0 : Int32).toNatClampNeg) (ys (0 : Int32).toNatClampNeg) (xs k_3.toNatClampNeg) (ys k_3.toNatClampNeg) v_1 v_2) (fun r_11 =>
            nm (k_4 - r_11) (fun v_12 =>
            L_X0_rawParts_24 xs ys sz v_1 v_2 n (k_3 + (1 : Int32)) v_12)))))
        else
          gd (ib k_3 8) (
          gd (ib k_3 8) (
          bd1 (P_X0_leftOfEdge (xs k_3.toNatClampNeg) (ys k_3.toNatClampNeg) (xs (0 : Int32).toNatClampNeg) (ys (0 : Int32).toNatClampNeg) v_1 v_2) (fun r_13 =>
          nm (k_4 + r_13) (fun v_14 =>
          L_X0_rawParts_24 xs ys sz v_1 v_2 n (k_3 + (1 : Int32)) v_14)))))
      else
        nm (k_3 + (1 : Int32)) (fun v_15 =>
        gd (ib k_3 8) (
        gd (ib v_15 8) (
        if (ys v_15.toNatClampNeg) ≤ (ys k_3.toNatClampNeg) then
          gd (ib k_3 8) (
          gd (ib v_15 8) (
          if (ys k_3.toNatClampNeg) ≤ (ys v_15.toNatClampNeg) then
            L_X0_rawParts_24 xs ys sz v_1 v_2 n (k_3 + (1 : Int32)) k_4
          else
            gd (ib v_15 8) (
            gd (ib v_15 8) (
            gd (ib k_3 8) (
            gd (ib k_3 8) (
            bd1 (P_X0_leftOfEdge (xs v_15.toNatClampNeg) (ys v_15.toNatClampNeg) (xs k_3.toNatClampNeg) (ys k_3.toNatClampNeg) v_1 v_2) (fun r_18 =>
            nm (k_4 - r_18) (fun v_19 =>
            L_X0_rawParts_24 xs ys sz v_1 v_2 n (k_3 + (1 : Int32)) v_19))))))))
        else
          gd (ib k_3 8) (
          gd (ib k_3 8) (
          gd (ib v_15 8) (
          gd (ib v_15 8) (
          bd1 (P_X0_leftOfEdge (xs k_3.toNatClampNeg) (ys k_3.toNatClampNeg) (xs v_15.toNatClampNeg) (ys v_15.toNatClampNeg) v_1 v_2) (fun r_20 =>
          nm (k_4 + r_20) (fun v_21 =>
          L_X0_rawParts_24 xs ys sz v_1 v_2 n (k_3 + (1 : Int32)) v_21)))))))))) := rfl

def P_X0_rawParts (a0 : Int32) (a1 : Int32) (a2 : Int32) (xs : Nat → Int32) (ys : Nat → Int32) (sz : Int32) : Option (Int64) :=
  nm (((3 : Int32) * (a0 - a0 / (4 : Int32) * (4 : Int32))) - a1) (fun v_1 =>
  nm (((3 : Int32) * (a0 / (4 : Int32))) - a2) (fun v_2 =>
  bd2 (L_X0_rawParts_24 xs ys sz v_1 v_2 1000 (0 : Int32) (0 : Int64)) (fun o_5 o_6 =>
  some o_6)))

def rm_X0_rawParts : Room := { frames := 2, cells := 0, slots := 0, locals := 58 }

set_option maxHeartbeats 4000000 in
set_option maxRecDepth 100000 in
theorem c_X0_rawParts (l : Launch) (dC : Nat → ClassId) (dI : Nat → Nat → Nat) (h0 xa ya : Nat) (cI : ClassId) (xs : Nat → Int32) (ys : Nat → Int32) (sz : Int32) (fo : Int32) (a0 : Int32) (a1 : Int32) (a2 : Int32) (r0 : Int64) (hF : P_X0_rawParts a0 a1 a2 xs ys sz = some r0) : Met l yX0_rawParts wsX0_rawParts rm_X0_rawParts (va_Pc [.ref h0, .int a0, .int a1, .int a2] (fun U => va_P (dC, dI) vwCl [(h0, .inr (0, [.ref xa, .ref ya, .int sz, .int fo])), (xa, .inl (cI, 8, .inl xs)), (ya, .inl (cI, 8, .inl ys))] U.heap ∧ va_K (dC, dI) vwCl [(cI, .int)] U)) (vp_Sl (fun x => x = r0)) 0 0 (fun _ => False) := by
  refine Met.ofW (cc := cX0_rawParts) (maxL := 10) (ret := (some .long)) (by decide) rfl ?_
  intro p e s m args below meth c s₁ B hml hv
  change W p l e rm_X0_rawParts s m args below meth c s.heap [] 0 0 _ _
  obtain ⟨hv, hP, hK⟩ := hv
  have hx := B.exec
  have hb := B.bytes
  have hr := B.returns
  have hts := atoms_spec (ws := wsX0_rawParts) B.pre
  have hown : s.vm.findClass RX0 = some m.cls := findClass_of_methodNamed B.named
  have hlocks := B.notSynchronized
  generalize hQ : MQ below (vp_Sl (fun x => x = r0)) args s 0 0 (fun _ => False) = Q
  have hl := lv_entry ([.ref h0, .int a0, .int a1, .int a2]) (n := 10) (Nat.le_of_ble_eq_true rfl)
  have hE : entryFrame m args 10 = F0 m 0 ((lg_sl ([.ref h0, .int a0, .int a1, .int a2]) ++ List.replicate (10 - (lg_sl ([.ref h0, .int a0, .int a1, .int a2])).length) Slot.unset).toArray) [] := by rw [hv]; exact lg_entry_eq m _ 10
  rw [hE]
  generalize (lg_sl ([.ref h0, .int a0, .int a1, .int a2]) ++ List.replicate (10 - (lg_sl ([.ref h0, .int a0, .int a1, .int a2])).length) Slot.unset).toArray = ls at hl ⊢
  have hl : lv_has ls 10 [(0, .ref h0), (1, .int a0), (2, .int a1), (3, .int a2)] := hl
  unfold P_X0_rawParts at hF
  refine lv_iconst (v := 3) hx hb dX0_rawParts_0 (by decide) ?_
  refine lv_iload_n hx hb dX0_rawParts_1 rfl (lv_at hl 1 rfl) ?_
  refine lv_iconst (v := 4) hx hb dX0_rawParts_2 (by decide) ?_
  refine lv_irem hx hb dX0_rawParts_3 (by decide) ?_
  refine lv_imul hx hb dX0_rawParts_4 ?_
  refine lv_iload_n hx hb dX0_rawParts_5 rfl (lv_at hl 2 rfl) ?_
  refine lv_isub hx hb dX0_rawParts_6 ?_
  refine lv_topi (fun v_1 ev_1 => ?_)
  have hF := nm_u hF ev_1
  refine lv_istore (lv' := [(4, .int v_1), (0, .ref h0), (1, .int a0), (2, .int a1), (3, .int a2)]) hx hb dX0_rawParts_7 hl (by decide) rfl (fun ls hl => ?_)
  refine lv_iconst (v := 3) hx hb dX0_rawParts_9 (by decide) ?_
  refine lv_iload_n hx hb dX0_rawParts_10 rfl (lv_at hl 2 rfl) ?_
  refine lv_iconst (v := 4) hx hb dX0_rawParts_11 (by decide) ?_
  refine lv_idiv hx hb dX0_rawParts_12 (by decide) ?_
  refine lv_imul hx hb dX0_rawParts_13 ?_
  refine lv_iload_n hx hb dX0_rawParts_14 rfl (lv_at hl 4 rfl) ?_
  refine lv_isub hx hb dX0_rawParts_15 ?_
  refine lv_topi (fun v_2 ev_2 => ?_)
  have hF := nm_u hF ev_2
  refine lv_istore (lv' := [(5, .int v_2), (4, .int v_1), (0, .ref h0), (1, .int a0), (2, .int a1), (3, .int a2)]) hx hb dX0_rawParts_16 hl (by decide) rfl (fun ls hl => ?_)
  refine lv_lconst (v := 0) hx hb dX0_rawParts_18 (by decide) ?_
  refine lv_lstore (lv' := [(6, .long (0 : Int64)), (5, .int v_2), (4, .int v_1), (0, .ref h0), (1, .int a0), (2, .int a1), (3, .int a2)]) hx hb dX0_rawParts_19 hl (by decide) rfl (fun ls hl => ?_)
  refine lv_iconst (v := 0) hx hb dX0_rawParts_21 (by decide) ?_
  refine lv_istore (lv' := [(8, .int (0 : Int32)), (6, .long (0 : Int64)), (5, .int v_2), (4, .int v_1), (0, .ref h0), (1, .int a0), (2, .int a1), (3, .int a2)]) hx hb dX0_rawParts_22 hl (by decide) rfl (fun ls hl => ?_)
  obtain ⟨o_5, o_6, hL_24, hF⟩ := bd2_u hF
  have lp_24 : ∀ (n : Nat) (k_3 : Int32) (k_4 : Int64) (o_5 : Int32) (o_6 : Int64) (ls : Array Slot), L_X0_rawParts_24 xs ys sz v_1 v_2 n k_3 k_4 = some (o_5, o_6) → lv_has ls 10 [(8, .int k_3), (6, .long k_4), (5, .int v_2), (4, .int v_1), (0, .ref h0), (1, .int a0), (2, .int a1), (3, .int a2)] → (∀ (ls : Array Slot), lv_has ls 10 [(8, .int o_5), (6, .long o_6), (5, .int v_2), (4, .int v_1), (0, .ref h0), (1, .int a0), (2, .int a1), (3, .int a2)] → W p l e rm_X0_rawParts s m args below meth c s.heap [] 0 0 Q (F0 m 177 ls [])) → W p l e rm_X0_rawParts s m args below meth c s.heap [] 0 0 Q (F0 m 24 ls []) := by
    intro n
    induction n with
    | zero =>
      intro k_3 k_4 o_5 o_6 ls hF
      exact nn ((rfl : L_X0_rawParts_24 xs ys sz v_1 v_2 0 k_3 k_4 = none).symm.trans hF)
    | succ n ih_24 =>
      intro k_3 k_4 o_5 o_6 ls hF hl kx_24
      have hF := (L_X0_rawParts_24_s xs ys sz v_1 v_2 n k_3 k_4).symm.trans hF
      refine lv_iload hx hb dX0_rawParts_24 (lv_at hl 0 rfl) ?_
      refine lv_aload_n hx hb dX0_rawParts_26 rfl (lv_at hl 4 rfl) ?_
      refine va_get (D := (dC, dI)) (ci := 0) (v := .int sz) (C := RX0) (T := TX0) (N := 4) hx hb hts (by decide +kernel) hown hK hP 0 rfl rfl 2 (by decide) (hts (.fieldLink RX0 18 "DotCover$Layer" "size" "I") (by decide +kernel)) (fun _ h9 => h9) rfl dX0_rawParts_27 ?_
      refine lv_icmp_ge (tgt := 177) hx hb dX0_rawParts_30 (by decide) (fun c_7 => ?_) (fun c_7 => ?_)
      · have hF := br1 hF c_7
        obtain ⟨rfl, rfl⟩ := tp2 hF
        exact kx_24 ls hl
      · have hF := br0 hF c_7
        refine lv_iload hx hb dX0_rawParts_33 (lv_at hl 0 rfl) ?_
        refine lv_iconst (v := 1) hx hb dX0_rawParts_35 (by decide) ?_
        refine lv_iadd hx hb dX0_rawParts_36 ?_
        refine lv_aload_n hx hb dX0_rawParts_37 rfl (lv_at hl 4 rfl) ?_
        refine va_get (D := (dC, dI)) (ci := 0) (v := .int sz) (C := RX0) (T := TX0) (N := 4) hx hb hts (by decide +kernel) hown hK hP 0 rfl rfl 2 (by decide) (hts (.fieldLink RX0 18 "DotCover$Layer" "size" "I") (by decide +kernel)) (fun _ h9 => h9) rfl dX0_rawParts_38 ?_
        refine lv_icmp_ge (tgt := 51) hx hb dX0_rawParts_41 (by decide) (fun c_8 => ?_) (fun c_8 => ?_)
        · have hF := br1 hF c_8
          refine lv_iconst (v := 0) hx hb dX0_rawParts_51 (by decide) ?_
          refine lv_istore (lv' := [(9, .int (0 : Int32)), (8, .int k_3), (6, .long k_4), (5, .int v_2), (4, .int v_1), (0, .ref h0), (1, .int a0), (2, .int a1), (3, .int a2)]) hx hb dX0_rawParts_52 hl (by decide) rfl (fun ls hl => ?_)
          refine lv_aload_n hx hb dX0_rawParts_54 rfl (lv_at hl 5 rfl) ?_
          refine va_get (D := (dC, dI)) (ci := 0) (v := .ref ya) (C := RX0) (T := TX0) (N := 4) hx hb hts (by decide +kernel) hown hK hP 0 rfl rfl 1 (by decide) (hts (.fieldLink RX0 15 "DotCover$Layer" "ys" "[I") (by decide +kernel)) (fun _ h9 => h9) rfl dX0_rawParts_55 ?_
          refine lv_iload hx hb dX0_rawParts_58 (lv_at hl 1 rfl) ?_
          obtain ⟨hi_60, hF⟩ := gd_u hF
          refine va_iald hx hb hK hP 2 0 rfl rfl (in_u hi_60) dX0_rawParts_60 ?_
          refine lv_aload_n hx hb dX0_rawParts_61 rfl (lv_at hl 5 rfl) ?_
          refine va_get (D := (dC, dI)) (ci := 0) (v := .ref ya) (C := RX0) (T := TX0) (N := 4) hx hb hts (by decide +kernel) hown hK hP 0 rfl rfl 1 (by decide) (hts (.fieldLink RX0 15 "DotCover$Layer" "ys" "[I") (by decide +kernel)) (fun _ h9 => h9) rfl dX0_rawParts_62 ?_
          refine lv_iload hx hb dX0_rawParts_65 (lv_at hl 0 rfl) ?_
          refine va_iald hx hb hK hP 2 0 rfl rfl (in_k (by decide)) dX0_rawParts_67 ?_
          refine lv_icmp_ge (tgt := 114) hx hb dX0_rawParts_68 (by decide) (fun c_9 => ?_) (fun c_9 => ?_)
          · have hF := br1 hF c_9
            refine lv_aload_n hx hb dX0_rawParts_114 rfl (lv_at hl 5 rfl) ?_
            refine va_get (D := (dC, dI)) (ci := 0) (v := .ref ya) (C := RX0) (T := TX0) (N := 4) hx hb hts (by decide +kernel) hown hK hP 0 rfl rfl 1 (by decide) (hts (.fieldLink RX0 15 "DotCover$Layer" "ys" "[I") (by decide +kernel)) (fun _ h9 => h9) rfl dX0_rawParts_115 ?_
            refine lv_iload hx hb dX0_rawParts_118 (lv_at hl 1 rfl) ?_
            obtain ⟨hi_120, hF⟩ := gd_u hF
            refine va_iald hx hb hK hP 2 0 rfl rfl (in_u hi_120) dX0_rawParts_120 ?_
            refine lv_aload_n hx hb dX0_rawParts_121 rfl (lv_at hl 5 rfl) ?_
            refine va_get (D := (dC, dI)) (ci := 0) (v := .ref ya) (C := RX0) (T := TX0) (N := 4) hx hb hts (by decide +kernel) hown hK hP 0 rfl rfl 1 (by decide) (hts (.fieldLink RX0 15 "DotCover$Layer" "ys" "[I") (by decide +kernel)) (fun _ h9 => h9) rfl dX0_rawParts_122 ?_
            refine lv_iload hx hb dX0_rawParts_125 (lv_at hl 0 rfl) ?_
            refine va_iald hx hb hK hP 2 0 rfl rfl (in_k (by decide)) dX0_rawParts_127 ?_
            refine lv_icmp_le (tgt := 171) hx hb dX0_rawParts_128 (by decide) (fun c_10 => ?_) (fun c_10 => ?_)
            · have hF := br1 hF c_10
              refine lv_iinc (v := (k_3 + (1 : Int32))) (lv' := [(8, .int (k_3 + (1 : Int32))), (9, .int (0 : Int32)), (6, .long k_4), (5, .int v_2), (4, .int v_1), (0, .ref h0), (1, .int a0), (2, .int a1), (3, .int a2)]) hx hb dX0_rawParts_171 hl (k := 1) rfl rfl (by decide) rfl (fun ls hl => ?_)
              refine lv_goto (tgt := 24) hx hb dX0_rawParts_174 (by decide) ?_
              exact ih_24 _ _ _ _ ls hF (lv_sub hl [0, 2, 3, 4, 5, 6, 7, 8] rfl) kx_24
            · have hF := br0 hF c_10
              refine lv_lload hx hb dX0_rawParts_131 (lv_at hl 2 rfl) ?_
              refine lv_aload_n hx hb dX0_rawParts_133 rfl (lv_at hl 5 rfl) ?_
              refine va_get (D := (dC, dI)) (ci := 0) (v := .ref xa) (C := RX0) (T := TX0) (N := 4) hx hb hts (by decide +kernel) hown hK hP 0 rfl rfl 0 (by decide) (hts (.fieldLink RX0 9 "DotCover$Layer" "xs" "[I") (by decide +kernel)) (fun _ h9 => h9) rfl dX0_rawParts_134 ?_
              refine lv_iload hx hb dX0_rawParts_137 (lv_at hl 0 rfl) ?_
              refine va_iald hx hb hK hP 1 0 rfl rfl (in_k (by decide)) dX0_rawParts_139 ?_
              refine lv_aload_n hx hb dX0_rawParts_140 rfl (lv_at hl 5 rfl) ?_
              refine va_get (D := (dC, dI)) (ci := 0) (v := .ref ya) (C := RX0) (T := TX0) (N := 4) hx hb hts (by decide +kernel) hown hK hP 0 rfl rfl 1 (by decide) (hts (.fieldLink RX0 15 "DotCover$Layer" "ys" "[I") (by decide +kernel)) (fun _ h9 => h9) rfl dX0_rawParts_141 ?_
              refine lv_iload hx hb dX0_rawParts_144 (lv_at hl 0 rfl) ?_
              refine va_iald hx hb hK hP 2 0 rfl rfl (in_k (by decide)) dX0_rawParts_146 ?_
              refine lv_aload_n hx hb dX0_rawParts_147 rfl (lv_at hl 5 rfl) ?_
              refine va_get (D := (dC, dI)) (ci := 0) (v := .ref xa) (C := RX0) (T := TX0) (N := 4) hx hb hts (by decide +kernel) hown hK hP 0 rfl rfl 0 (by decide) (hts (.fieldLink RX0 9 "DotCover$Layer" "xs" "[I") (by decide +kernel)) (fun _ h9 => h9) rfl dX0_rawParts_148 ?_
              refine lv_iload hx hb dX0_rawParts_151 (lv_at hl 1 rfl) ?_
              obtain ⟨hi_153, hF⟩ := gd_u hF
              refine va_iald hx hb hK hP 1 0 rfl rfl (in_u hi_153) dX0_rawParts_153 ?_
              refine lv_aload_n hx hb dX0_rawParts_154 rfl (lv_at hl 5 rfl) ?_
              refine va_get (D := (dC, dI)) (ci := 0) (v := .ref ya) (C := RX0) (T := TX0) (N := 4) hx hb hts (by decide +kernel) hown hK hP 0 rfl rfl 1 (by decide) (hts (.fieldLink RX0 15 "DotCover$Layer" "ys" "[I") (by decide +kernel)) (fun _ h9 => h9) rfl dX0_rawParts_155 ?_
              refine lv_iload hx hb dX0_rawParts_158 (lv_at hl 1 rfl) ?_
              obtain ⟨hi_160, hF⟩ := gd_u hF
              refine va_iald hx hb hK hP 2 0 rfl rfl (in_u hi_160) dX0_rawParts_160 ?_
              refine lv_iload hx hb dX0_rawParts_161 (lv_at hl 4 rfl) ?_
              refine lv_iload hx hb dX0_rawParts_163 (lv_at hl 3 rfl) ?_
              obtain ⟨r_11, hr_11, hF⟩ := bd1_u hF
              refine vp_callSl (W.runS (As := [.int (xs (0 : Int32).toNatClampNeg), .int (ys (0 : Int32).toNatClampNeg), .int (xs k_3.toNatClampNeg), .int (ys k_3.toNatClampNeg), .int v_1, .int v_2]) (rest := [.long k_4]) ⟨hx, hb, hml, hown, hts⟩ (c_X0_leftOfEdge l (xs (0 : Int32).toNatClampNeg) (ys (0 : Int32).toNatClampNeg) (xs k_3.toNatClampNeg) (ys k_3.toNatClampNeg) v_1 v_2 r_11 hr_11) (va_cwS 6 hts gX0_rawParts_X0_leftOfEdge rfl rfl rfl (by decide +kernel) ⟨Nat.le_of_ble_eq_true rfl, Nat.le_of_ble_eq_true rfl⟩) preEq rfl rfl hl.1 rfl (lv_room (Nat.le_of_ble_eq_true rfl)) dX0_rawParts_165 ⟨Nat.le_of_ble_eq_true rfl, Nat.le_of_ble_eq_true rfl⟩) (fun r_11' qr_11 => ?_)
              obtain rfl := qr_11.symm
              refine lv_lsub hx hb dX0_rawParts_168 ?_
              refine lv_topl (fun v_12 ev_12 => ?_)
              have hF := nm_u hF ev_12
              refine lv_lstore (lv' := [(6, .long v_12), (9, .int (0 : Int32)), (8, .int k_3), (5, .int v_2), (4, .int v_1), (0, .ref h0), (1, .int a0), (2, .int a1), (3, .int a2)]) hx hb dX0_rawParts_169 hl (by decide) rfl (fun ls hl => ?_)
              refine lv_iinc (v := (k_3 + (1 : Int32))) (lv' := [(8, .int (k_3 + (1 : Int32))), (6, .long v_12), (9, .int (0 : Int32)), (5, .int v_2), (4, .int v_1), (0, .ref h0), (1, .int a0), (2, .int a1), (3, .int a2)]) hx hb dX0_rawParts_171 hl (k := 2) rfl rfl (by decide) rfl (fun ls hl => ?_)
              refine lv_goto (tgt := 24) hx hb dX0_rawParts_174 (by decide) ?_
              exact ih_24 _ _ _ _ ls hF (lv_sub hl [0, 1, 3, 4, 5, 6, 7, 8] rfl) kx_24
          · have hF := br0 hF c_9
            refine lv_lload hx hb dX0_rawParts_71 (lv_at hl 2 rfl) ?_
            refine lv_aload_n hx hb dX0_rawParts_73 rfl (lv_at hl 5 rfl) ?_
            refine va_get (D := (dC, dI)) (ci := 0) (v := .ref xa) (C := RX0) (T := TX0) (N := 4) hx hb hts (by decide +kernel) hown hK hP 0 rfl rfl 0 (by decide) (hts (.fieldLink RX0 9 "DotCover$Layer" "xs" "[I") (by decide +kernel)) (fun _ h9 => h9) rfl dX0_rawParts_74 ?_
            refine lv_iload hx hb dX0_rawParts_77 (lv_at hl 1 rfl) ?_
            obtain ⟨hi_79, hF⟩ := gd_u hF
            refine va_iald hx hb hK hP 1 0 rfl rfl (in_u hi_79) dX0_rawParts_79 ?_
            refine lv_aload_n hx hb dX0_rawParts_80 rfl (lv_at hl 5 rfl) ?_
            refine va_get (D := (dC, dI)) (ci := 0) (v := .ref ya) (C := RX0) (T := TX0) (N := 4) hx hb hts (by decide +kernel) hown hK hP 0 rfl rfl 1 (by decide) (hts (.fieldLink RX0 15 "DotCover$Layer" "ys" "[I") (by decide +kernel)) (fun _ h9 => h9) rfl dX0_rawParts_81 ?_
            refine lv_iload hx hb dX0_rawParts_84 (lv_at hl 1 rfl) ?_
            obtain ⟨hi_86, hF⟩ := gd_u hF
            refine va_iald hx hb hK hP 2 0 rfl rfl (in_u hi_86) dX0_rawParts_86 ?_
            refine lv_aload_n hx hb dX0_rawParts_87 rfl (lv_at hl 5 rfl) ?_
            refine va_get (D := (dC, dI)) (ci := 0) (v := .ref xa) (C := RX0) (T := TX0) (N := 4) hx hb hts (by decide +kernel) hown hK hP 0 rfl rfl 0 (by decide) (hts (.fieldLink RX0 9 "DotCover$Layer" "xs" "[I") (by decide +kernel)) (fun _ h9 => h9) rfl dX0_rawParts_88 ?_
            refine lv_iload hx hb dX0_rawParts_91 (lv_at hl 0 rfl) ?_
            refine va_iald hx hb hK hP 1 0 rfl rfl (in_k (by decide)) dX0_rawParts_93 ?_
            refine lv_aload_n hx hb dX0_rawParts_94 rfl (lv_at hl 5 rfl) ?_
            refine va_get (D := (dC, dI)) (ci := 0) (v := .ref ya) (C := RX0) (T := TX0) (N := 4) hx hb hts (by decide +kernel) hown hK hP 0 rfl rfl 1 (by decide) (hts (.fieldLink RX0 15 "DotCover$Layer" "ys" "[I") (by decide +kernel)) (fun _ h9 => h9) rfl dX0_rawParts_95 ?_
            refine lv_iload hx hb dX0_rawParts_98 (lv_at hl 0 rfl) ?_
            refine va_iald hx hb hK hP 2 0 rfl rfl (in_k (by decide)) dX0_rawParts_100 ?_
            refine lv_iload hx hb dX0_rawParts_101 (lv_at hl 4 rfl) ?_
            refine lv_iload hx hb dX0_rawParts_103 (lv_at hl 3 rfl) ?_
            obtain ⟨r_13, hr_13, hF⟩ := bd1_u hF
            refine vp_callSl (W.runS (As := [.int (xs k_3.toNatClampNeg), .int (ys k_3.toNatClampNeg), .int (xs (0 : Int32).toNatClampNeg), .int (ys (0 : Int32).toNatClampNeg), .int v_1, .int v_2]) (rest := [.long k_4]) ⟨hx, hb, hml, hown, hts⟩ (c_X0_leftOfEdge l (xs k_3.toNatClampNeg) (ys k_3.toNatClampNeg) (xs (0 : Int32).toNatClampNeg) (ys (0 : Int32).toNatClampNeg) v_1 v_2 r_13 hr_13) (va_cwS 6 hts gX0_rawParts_X0_leftOfEdge rfl rfl rfl (by decide +kernel) ⟨Nat.le_of_ble_eq_true rfl, Nat.le_of_ble_eq_true rfl⟩) preEq rfl rfl hl.1 rfl (lv_room (Nat.le_of_ble_eq_true rfl)) dX0_rawParts_105 ⟨Nat.le_of_ble_eq_true rfl, Nat.le_of_ble_eq_true rfl⟩) (fun r_13' qr_13 => ?_)
            obtain rfl := qr_13.symm
            refine lv_ladd hx hb dX0_rawParts_108 ?_
            refine lv_topl (fun v_14 ev_14 => ?_)
            have hF := nm_u hF ev_14
            refine lv_lstore (lv' := [(6, .long v_14), (9, .int (0 : Int32)), (8, .int k_3), (5, .int v_2), (4, .int v_1), (0, .ref h0), (1, .int a0), (2, .int a1), (3, .int a2)]) hx hb dX0_rawParts_109 hl (by decide) rfl (fun ls hl => ?_)
            refine lv_goto (tgt := 171) hx hb dX0_rawParts_111 (by decide) ?_
            refine lv_iinc (v := (k_3 + (1 : Int32))) (lv' := [(8, .int (k_3 + (1 : Int32))), (6, .long v_14), (9, .int (0 : Int32)), (5, .int v_2), (4, .int v_1), (0, .ref h0), (1, .int a0), (2, .int a1), (3, .int a2)]) hx hb dX0_rawParts_171 hl (k := 2) rfl rfl (by decide) rfl (fun ls hl => ?_)
            refine lv_goto (tgt := 24) hx hb dX0_rawParts_174 (by decide) ?_
            exact ih_24 _ _ _ _ ls hF (lv_sub hl [0, 1, 3, 4, 5, 6, 7, 8] rfl) kx_24
        · have hF := br0 hF c_8
          refine lv_iload hx hb dX0_rawParts_44 (lv_at hl 0 rfl) ?_
          refine lv_iconst (v := 1) hx hb dX0_rawParts_46 (by decide) ?_
          refine lv_iadd hx hb dX0_rawParts_47 ?_
          refine lv_goto (tgt := 52) hx hb dX0_rawParts_48 (by decide) ?_
          refine lv_topi (fun v_15 ev_15 => ?_)
          have hF := nm_u hF ev_15
          refine lv_istore (lv' := [(9, .int v_15), (8, .int k_3), (6, .long k_4), (5, .int v_2), (4, .int v_1), (0, .ref h0), (1, .int a0), (2, .int a1), (3, .int a2)]) hx hb dX0_rawParts_52 hl (by decide) rfl (fun ls hl => ?_)
          refine lv_aload_n hx hb dX0_rawParts_54 rfl (lv_at hl 5 rfl) ?_
          refine va_get (D := (dC, dI)) (ci := 0) (v := .ref ya) (C := RX0) (T := TX0) (N := 4) hx hb hts (by decide +kernel) hown hK hP 0 rfl rfl 1 (by decide) (hts (.fieldLink RX0 15 "DotCover$Layer" "ys" "[I") (by decide +kernel)) (fun _ h9 => h9) rfl dX0_rawParts_55 ?_
          refine lv_iload hx hb dX0_rawParts_58 (lv_at hl 1 rfl) ?_
          obtain ⟨hi_60, hF⟩ := gd_u hF
          refine va_iald hx hb hK hP 2 0 rfl rfl (in_u hi_60) dX0_rawParts_60 ?_
          refine lv_aload_n hx hb dX0_rawParts_61 rfl (lv_at hl 5 rfl) ?_
          refine va_get (D := (dC, dI)) (ci := 0) (v := .ref ya) (C := RX0) (T := TX0) (N := 4) hx hb hts (by decide +kernel) hown hK hP 0 rfl rfl 1 (by decide) (hts (.fieldLink RX0 15 "DotCover$Layer" "ys" "[I") (by decide +kernel)) (fun _ h9 => h9) rfl dX0_rawParts_62 ?_
          refine lv_iload hx hb dX0_rawParts_65 (lv_at hl 0 rfl) ?_
          obtain ⟨hi_67, hF⟩ := gd_u hF
          refine va_iald hx hb hK hP 2 0 rfl rfl (in_u hi_67) dX0_rawParts_67 ?_
          refine lv_icmp_ge (tgt := 114) hx hb dX0_rawParts_68 (by decide) (fun c_16 => ?_) (fun c_16 => ?_)
          · have hF := br1 hF c_16
            refine lv_aload_n hx hb dX0_rawParts_114 rfl (lv_at hl 5 rfl) ?_
            refine va_get (D := (dC, dI)) (ci := 0) (v := .ref ya) (C := RX0) (T := TX0) (N := 4) hx hb hts (by decide +kernel) hown hK hP 0 rfl rfl 1 (by decide) (hts (.fieldLink RX0 15 "DotCover$Layer" "ys" "[I") (by decide +kernel)) (fun _ h9 => h9) rfl dX0_rawParts_115 ?_
            refine lv_iload hx hb dX0_rawParts_118 (lv_at hl 1 rfl) ?_
            obtain ⟨hi_120, hF⟩ := gd_u hF
            refine va_iald hx hb hK hP 2 0 rfl rfl (in_u hi_120) dX0_rawParts_120 ?_
            refine lv_aload_n hx hb dX0_rawParts_121 rfl (lv_at hl 5 rfl) ?_
            refine va_get (D := (dC, dI)) (ci := 0) (v := .ref ya) (C := RX0) (T := TX0) (N := 4) hx hb hts (by decide +kernel) hown hK hP 0 rfl rfl 1 (by decide) (hts (.fieldLink RX0 15 "DotCover$Layer" "ys" "[I") (by decide +kernel)) (fun _ h9 => h9) rfl dX0_rawParts_122 ?_
            refine lv_iload hx hb dX0_rawParts_125 (lv_at hl 0 rfl) ?_
            obtain ⟨hi_127, hF⟩ := gd_u hF
            refine va_iald hx hb hK hP 2 0 rfl rfl (in_u hi_127) dX0_rawParts_127 ?_
            refine lv_icmp_le (tgt := 171) hx hb dX0_rawParts_128 (by decide) (fun c_17 => ?_) (fun c_17 => ?_)
            · have hF := br1 hF c_17
              refine lv_iinc (v := (k_3 + (1 : Int32))) (lv' := [(8, .int (k_3 + (1 : Int32))), (9, .int v_15), (6, .long k_4), (5, .int v_2), (4, .int v_1), (0, .ref h0), (1, .int a0), (2, .int a1), (3, .int a2)]) hx hb dX0_rawParts_171 hl (k := 1) rfl rfl (by decide) rfl (fun ls hl => ?_)
              refine lv_goto (tgt := 24) hx hb dX0_rawParts_174 (by decide) ?_
              exact ih_24 _ _ _ _ ls hF (lv_sub hl [0, 2, 3, 4, 5, 6, 7, 8] rfl) kx_24
            · have hF := br0 hF c_17
              refine lv_lload hx hb dX0_rawParts_131 (lv_at hl 2 rfl) ?_
              refine lv_aload_n hx hb dX0_rawParts_133 rfl (lv_at hl 5 rfl) ?_
              refine va_get (D := (dC, dI)) (ci := 0) (v := .ref xa) (C := RX0) (T := TX0) (N := 4) hx hb hts (by decide +kernel) hown hK hP 0 rfl rfl 0 (by decide) (hts (.fieldLink RX0 9 "DotCover$Layer" "xs" "[I") (by decide +kernel)) (fun _ h9 => h9) rfl dX0_rawParts_134 ?_
              refine lv_iload hx hb dX0_rawParts_137 (lv_at hl 0 rfl) ?_
              obtain ⟨hi_139, hF⟩ := gd_u hF
              refine va_iald hx hb hK hP 1 0 rfl rfl (in_u hi_139) dX0_rawParts_139 ?_
              refine lv_aload_n hx hb dX0_rawParts_140 rfl (lv_at hl 5 rfl) ?_
              refine va_get (D := (dC, dI)) (ci := 0) (v := .ref ya) (C := RX0) (T := TX0) (N := 4) hx hb hts (by decide +kernel) hown hK hP 0 rfl rfl 1 (by decide) (hts (.fieldLink RX0 15 "DotCover$Layer" "ys" "[I") (by decide +kernel)) (fun _ h9 => h9) rfl dX0_rawParts_141 ?_
              refine lv_iload hx hb dX0_rawParts_144 (lv_at hl 0 rfl) ?_
              obtain ⟨hi_146, hF⟩ := gd_u hF
              refine va_iald hx hb hK hP 2 0 rfl rfl (in_u hi_146) dX0_rawParts_146 ?_
              refine lv_aload_n hx hb dX0_rawParts_147 rfl (lv_at hl 5 rfl) ?_
              refine va_get (D := (dC, dI)) (ci := 0) (v := .ref xa) (C := RX0) (T := TX0) (N := 4) hx hb hts (by decide +kernel) hown hK hP 0 rfl rfl 0 (by decide) (hts (.fieldLink RX0 9 "DotCover$Layer" "xs" "[I") (by decide +kernel)) (fun _ h9 => h9) rfl dX0_rawParts_148 ?_
              refine lv_iload hx hb dX0_rawParts_151 (lv_at hl 1 rfl) ?_
              obtain ⟨hi_153, hF⟩ := gd_u hF
              refine va_iald hx hb hK hP 1 0 rfl rfl (in_u hi_153) dX0_rawParts_153 ?_
              refine lv_aload_n hx hb dX0_rawParts_154 rfl (lv_at hl 5 rfl) ?_
              refine va_get (D := (dC, dI)) (ci := 0) (v := .ref ya) (C := RX0) (T := TX0) (N := 4) hx hb hts (by decide +kernel) hown hK hP 0 rfl rfl 1 (by decide) (hts (.fieldLink RX0 15 "DotCover$Layer" "ys" "[I") (by decide +kernel)) (fun _ h9 => h9) rfl dX0_rawParts_155 ?_
              refine lv_iload hx hb dX0_rawParts_158 (lv_at hl 1 rfl) ?_
              obtain ⟨hi_160, hF⟩ := gd_u hF
              refine va_iald hx hb hK hP 2 0 rfl rfl (in_u hi_160) dX0_rawParts_160 ?_
              refine lv_iload hx hb dX0_rawParts_161 (lv_at hl 4 rfl) ?_
              refine lv_iload hx hb dX0_rawParts_163 (lv_at hl 3 rfl) ?_
              obtain ⟨r_18, hr_18, hF⟩ := bd1_u hF
              refine vp_callSl (W.runS (As := [.int (xs v_15.toNatClampNeg), .int (ys v_15.toNatClampNeg), .int (xs k_3.toNatClampNeg), .int (ys k_3.toNatClampNeg), .int v_1, .int v_2]) (rest := [.long k_4]) ⟨hx, hb, hml, hown, hts⟩ (c_X0_leftOfEdge l (xs v_15.toNatClampNeg) (ys v_15.toNatClampNeg) (xs k_3.toNatClampNeg) (ys k_3.toNatClampNeg) v_1 v_2 r_18 hr_18) (va_cwS 6 hts gX0_rawParts_X0_leftOfEdge rfl rfl rfl (by decide +kernel) ⟨Nat.le_of_ble_eq_true rfl, Nat.le_of_ble_eq_true rfl⟩) preEq rfl rfl hl.1 rfl (lv_room (Nat.le_of_ble_eq_true rfl)) dX0_rawParts_165 ⟨Nat.le_of_ble_eq_true rfl, Nat.le_of_ble_eq_true rfl⟩) (fun r_18' qr_18 => ?_)
              obtain rfl := qr_18.symm
              refine lv_lsub hx hb dX0_rawParts_168 ?_
              refine lv_topl (fun v_19 ev_19 => ?_)
              have hF := nm_u hF ev_19
              refine lv_lstore (lv' := [(6, .long v_19), (9, .int v_15), (8, .int k_3), (5, .int v_2), (4, .int v_1), (0, .ref h0), (1, .int a0), (2, .int a1), (3, .int a2)]) hx hb dX0_rawParts_169 hl (by decide) rfl (fun ls hl => ?_)
              refine lv_iinc (v := (k_3 + (1 : Int32))) (lv' := [(8, .int (k_3 + (1 : Int32))), (6, .long v_19), (9, .int v_15), (5, .int v_2), (4, .int v_1), (0, .ref h0), (1, .int a0), (2, .int a1), (3, .int a2)]) hx hb dX0_rawParts_171 hl (k := 2) rfl rfl (by decide) rfl (fun ls hl => ?_)
              refine lv_goto (tgt := 24) hx hb dX0_rawParts_174 (by decide) ?_
              exact ih_24 _ _ _ _ ls hF (lv_sub hl [0, 1, 3, 4, 5, 6, 7, 8] rfl) kx_24
          · have hF := br0 hF c_16
            refine lv_lload hx hb dX0_rawParts_71 (lv_at hl 2 rfl) ?_
            refine lv_aload_n hx hb dX0_rawParts_73 rfl (lv_at hl 5 rfl) ?_
            refine va_get (D := (dC, dI)) (ci := 0) (v := .ref xa) (C := RX0) (T := TX0) (N := 4) hx hb hts (by decide +kernel) hown hK hP 0 rfl rfl 0 (by decide) (hts (.fieldLink RX0 9 "DotCover$Layer" "xs" "[I") (by decide +kernel)) (fun _ h9 => h9) rfl dX0_rawParts_74 ?_
            refine lv_iload hx hb dX0_rawParts_77 (lv_at hl 1 rfl) ?_
            obtain ⟨hi_79, hF⟩ := gd_u hF
            refine va_iald hx hb hK hP 1 0 rfl rfl (in_u hi_79) dX0_rawParts_79 ?_
            refine lv_aload_n hx hb dX0_rawParts_80 rfl (lv_at hl 5 rfl) ?_
            refine va_get (D := (dC, dI)) (ci := 0) (v := .ref ya) (C := RX0) (T := TX0) (N := 4) hx hb hts (by decide +kernel) hown hK hP 0 rfl rfl 1 (by decide) (hts (.fieldLink RX0 15 "DotCover$Layer" "ys" "[I") (by decide +kernel)) (fun _ h9 => h9) rfl dX0_rawParts_81 ?_
            refine lv_iload hx hb dX0_rawParts_84 (lv_at hl 1 rfl) ?_
            obtain ⟨hi_86, hF⟩ := gd_u hF
            refine va_iald hx hb hK hP 2 0 rfl rfl (in_u hi_86) dX0_rawParts_86 ?_
            refine lv_aload_n hx hb dX0_rawParts_87 rfl (lv_at hl 5 rfl) ?_
            refine va_get (D := (dC, dI)) (ci := 0) (v := .ref xa) (C := RX0) (T := TX0) (N := 4) hx hb hts (by decide +kernel) hown hK hP 0 rfl rfl 0 (by decide) (hts (.fieldLink RX0 9 "DotCover$Layer" "xs" "[I") (by decide +kernel)) (fun _ h9 => h9) rfl dX0_rawParts_88 ?_
            refine lv_iload hx hb dX0_rawParts_91 (lv_at hl 0 rfl) ?_
            obtain ⟨hi_93, hF⟩ := gd_u hF
            refine va_iald hx hb hK hP 1 0 rfl rfl (in_u hi_93) dX0_rawParts_93 ?_
            refine lv_aload_n hx hb dX0_rawParts_94 rfl (lv_at hl 5 rfl) ?_
            refine va_get (D := (dC, dI)) (ci := 0) (v := .ref ya) (C := RX0) (T := TX0) (N := 4) hx hb hts (by decide +kernel) hown hK hP 0 rfl rfl 1 (by decide) (hts (.fieldLink RX0 15 "DotCover$Layer" "ys" "[I") (by decide +kernel)) (fun _ h9 => h9) rfl dX0_rawParts_95 ?_
            refine lv_iload hx hb dX0_rawParts_98 (lv_at hl 0 rfl) ?_
            obtain ⟨hi_100, hF⟩ := gd_u hF
            refine va_iald hx hb hK hP 2 0 rfl rfl (in_u hi_100) dX0_rawParts_100 ?_
            refine lv_iload hx hb dX0_rawParts_101 (lv_at hl 4 rfl) ?_
            refine lv_iload hx hb dX0_rawParts_103 (lv_at hl 3 rfl) ?_
            obtain ⟨r_20, hr_20, hF⟩ := bd1_u hF
            refine vp_callSl (W.runS (As := [.int (xs k_3.toNatClampNeg), .int (ys k_3.toNatClampNeg), .int (xs v_15.toNatClampNeg), .int (ys v_15.toNatClampNeg), .int v_1, .int v_2]) (rest := [.long k_4]) ⟨hx, hb, hml, hown, hts⟩ (c_X0_leftOfEdge l (xs k_3.toNatClampNeg) (ys k_3.toNatClampNeg) (xs v_15.toNatClampNeg) (ys v_15.toNatClampNeg) v_1 v_2 r_20 hr_20) (va_cwS 6 hts gX0_rawParts_X0_leftOfEdge rfl rfl rfl (by decide +kernel) ⟨Nat.le_of_ble_eq_true rfl, Nat.le_of_ble_eq_true rfl⟩) preEq rfl rfl hl.1 rfl (lv_room (Nat.le_of_ble_eq_true rfl)) dX0_rawParts_105 ⟨Nat.le_of_ble_eq_true rfl, Nat.le_of_ble_eq_true rfl⟩) (fun r_20' qr_20 => ?_)
            obtain rfl := qr_20.symm
            refine lv_ladd hx hb dX0_rawParts_108 ?_
            refine lv_topl (fun v_21 ev_21 => ?_)
            have hF := nm_u hF ev_21
            refine lv_lstore (lv' := [(6, .long v_21), (9, .int v_15), (8, .int k_3), (5, .int v_2), (4, .int v_1), (0, .ref h0), (1, .int a0), (2, .int a1), (3, .int a2)]) hx hb dX0_rawParts_109 hl (by decide) rfl (fun ls hl => ?_)
            refine lv_goto (tgt := 171) hx hb dX0_rawParts_111 (by decide) ?_
            refine lv_iinc (v := (k_3 + (1 : Int32))) (lv' := [(8, .int (k_3 + (1 : Int32))), (6, .long v_21), (9, .int v_15), (5, .int v_2), (4, .int v_1), (0, .ref h0), (1, .int a0), (2, .int a1), (3, .int a2)]) hx hb dX0_rawParts_171 hl (k := 2) rfl rfl (by decide) rfl (fun ls hl => ?_)
            refine lv_goto (tgt := 24) hx hb dX0_rawParts_174 (by decide) ?_
            exact ih_24 _ _ _ _ ls hF (lv_sub hl [0, 1, 3, 4, 5, 6, 7, 8] rfl) kx_24
  refine lp_24 1000 (0 : Int32) (0 : Int64) o_5 o_6 ls hL_24 hl (fun ls hl => ?_)
  refine lv_lload hx hb dX0_rawParts_177 (lv_at hl 1 rfl) ?_
  rw [← hQ]
  exact W.lret (v := o_6) hx hb hr (fun t ht hW => ⟨_, rfl, Option.some.inj hF, ht⟩) (fun _ h => by cases h) dX0_rawParts_179

def P_X0_coverParts (a0 : Int32) (a1 : Int32) (a2 : Int32) (xs : Nat → Int32) (ys : Nat → Int32) (sz : Int32) (fo : Int32) : Option (Int64) :=
  bd1 (P_X0_rawParts a0 a1 a2 xs ys sz) (fun r_1 =>
  nm (if 0 < r_1 then r_1 else -r_1) (fun v_2 =>
  if fo = (0 : Int32) then
    some (if (498960 : Int64) < v_2 then (498960 : Int64) else v_2)
  else
    nm (v_2 - v_2 / (997920 : Int64) * (997920 : Int64)) (fun v_4 =>
    if v_4 ≤ (498960 : Int64) then
      some v_4
    else
      some ((997920 : Int64) - v_4))))

def rm_X0_coverParts : Room := { frames := 3, cells := 0, slots := 0, locals := 87 }

set_option maxHeartbeats 4000000 in
set_option maxRecDepth 100000 in
theorem c_X0_coverParts (l : Launch) (dC : Nat → ClassId) (dI : Nat → Nat → Nat) (h0 xa ya : Nat) (cI : ClassId) (xs : Nat → Int32) (ys : Nat → Int32) (sz : Int32) (fo : Int32) (a0 : Int32) (a1 : Int32) (a2 : Int32) (r0 : Int64) (hF : P_X0_coverParts a0 a1 a2 xs ys sz fo = some r0) : Met l yX0_coverParts wsX0_coverParts rm_X0_coverParts (va_Pc [.ref h0, .int a0, .int a1, .int a2] (fun U => va_P (dC, dI) vwCl [(h0, .inr (0, [.ref xa, .ref ya, .int sz, .int fo])), (xa, .inl (cI, 8, .inl xs)), (ya, .inl (cI, 8, .inl ys))] U.heap ∧ va_K (dC, dI) vwCl [(cI, .int)] U)) (vp_Sl (fun x => x = r0)) 0 0 (fun _ => False) := by
  refine Met.ofW (cc := cX0_coverParts) (maxL := 8) (ret := (some .long)) (by decide) rfl ?_
  intro p e s m args below meth c s₁ B hml hv
  change W p l e rm_X0_coverParts s m args below meth c s.heap [] 0 0 _ _
  obtain ⟨hv, hP, hK⟩ := hv
  have hx := B.exec
  have hb := B.bytes
  have hr := B.returns
  have hts := atoms_spec (ws := wsX0_coverParts) B.pre
  have hown : s.vm.findClass RX0 = some m.cls := findClass_of_methodNamed B.named
  have hlocks := B.notSynchronized
  generalize hQ : MQ below (vp_Sl (fun x => x = r0)) args s 0 0 (fun _ => False) = Q
  have hl := lv_entry ([.ref h0, .int a0, .int a1, .int a2]) (n := 8) (Nat.le_of_ble_eq_true rfl)
  have hE : entryFrame m args 8 = F0 m 0 ((lg_sl ([.ref h0, .int a0, .int a1, .int a2]) ++ List.replicate (8 - (lg_sl ([.ref h0, .int a0, .int a1, .int a2])).length) Slot.unset).toArray) [] := by rw [hv]; exact lg_entry_eq m _ 8
  rw [hE]
  generalize (lg_sl ([.ref h0, .int a0, .int a1, .int a2]) ++ List.replicate (8 - (lg_sl ([.ref h0, .int a0, .int a1, .int a2])).length) Slot.unset).toArray = ls at hl ⊢
  have hl : lv_has ls 8 [(0, .ref h0), (1, .int a0), (2, .int a1), (3, .int a2)] := hl
  unfold P_X0_coverParts at hF
  refine lv_aload_n hx hb dX0_coverParts_0 rfl (lv_at hl 0 rfl) ?_
  refine lv_iload_n hx hb dX0_coverParts_1 rfl (lv_at hl 1 rfl) ?_
  refine lv_iload_n hx hb dX0_coverParts_2 rfl (lv_at hl 2 rfl) ?_
  refine lv_iload_n hx hb dX0_coverParts_3 rfl (lv_at hl 3 rfl) ?_
  obtain ⟨r_1, hr_1, hF⟩ := bd1_u hF
  have hPc := hP.sub (ws' := [(h0, .inr (0, [.ref xa, .ref ya, .int sz, .int fo])), (xa, .inl (cI, 8, .inl xs)), (ya, .inl (cI, 8, .inl ys))]) [0, 1, 2] rfl
  have hKc := hK.sub (tys' := [(cI, .int)]) [0] rfl
  refine vp_callSl (W.runV (As := [.int a0, .int a1, .int a2]) (rest := []) ⟨hx, hb, hml, hown, hts⟩ (c_X0_rawParts l dC dI h0 xa ya cI xs ys sz fo a0 a1 a2 r_1 hr_1) (cwV 3 hts gX0_coverParts_X0_rawParts rfl rfl rfl (by decide +kernel) ⟨Nat.le_of_ble_eq_true rfl, Nat.le_of_ble_eq_true rfl⟩) ⟨fun a U g mk q => ⟨q.1, q.2.1, va_K.moved (u := U) (U := U.calling g mk a) (Vm.Alike.refl U.vm) q.2.2⟩, va_recv hKc hPc (ci := 0) (q0 := 0) rfl rfl, fun U hU hW => ⟨rfl, by rw [hU]; exact hPc, va_K.moved hW.alike hKc⟩⟩ rfl rfl hl.1 rfl (lv_room (Nat.le_of_ble_eq_true rfl)) dX0_coverParts_4 ⟨Nat.le_of_ble_eq_true rfl, Nat.le_of_ble_eq_true rfl⟩) (fun r_1' qr_1 => ?_)
  obtain rfl := qr_1.symm
  refine va_mabs_long hx hb (hml.trans hl.1.symm) hown (hts (.methodLink RX0 65 Lib.MathLoose.abs_long.x) (by decide +kernel)) (hts (.static Lib.MathLoose.abs_long.x) (by decide +kernel)) (hts (.initialized "java/lang/Math") (by decide +kernel)) (hts (.code Lib.MathLoose.abs_long.x Lib.MathLoose.abs_long.code 2 (some .long)) (by decide +kernel)) (Nat.le_of_ble_eq_true rfl) (Nat.le_of_ble_eq_true rfl) (Nat.zero_le _) (Nat.zero_le _) dX0_coverParts_7 ?_
  refine lv_topl (fun v_2 ev_2 => ?_)
  have hF := nm_u hF ev_2
  refine lv_lstore (lv' := [(4, .long v_2), (0, .ref h0), (1, .int a0), (2, .int a1), (3, .int a2)]) hx hb dX0_coverParts_10 hl (by decide) rfl (fun ls hl => ?_)
  refine lv_aload_n hx hb dX0_coverParts_12 rfl (lv_at hl 1 rfl) ?_
  refine va_get (D := (dC, dI)) (ci := 0) (v := .int fo) (C := RX0) (T := TX0) (N := 4) hx hb hts (by decide +kernel) hown hK hP 0 rfl rfl 3 (by decide) (hts (.fieldLink RX0 22 "DotCover$Layer" "folding" "I") (by decide +kernel)) (fun _ h9 => h9) rfl dX0_coverParts_13 ?_
  refine lv_if_ne (tgt := 28) hx hb dX0_coverParts_16 (by decide) (fun c_3 => ?_) (fun c_3 => ?_)
  · have hF := br0 hF c_3
    refine lv_lload hx hb dX0_coverParts_28 (lv_at hl 0 rfl) ?_
    refine lv_ldc2 (v := 997920) hx hb hown (hts (.constantLong RX0 72 (997920)) (by decide +kernel)) dX0_coverParts_30 ?_
    refine lv_lrem hx hb dX0_coverParts_33 (by decide) ?_
    refine lv_topl (fun v_4 ev_4 => ?_)
    have hF := nm_u hF ev_4
    refine lv_lstore (lv' := [(6, .long v_4), (4, .long v_2), (0, .ref h0), (1, .int a0), (2, .int a1), (3, .int a2)]) hx hb dX0_coverParts_34 hl (by decide) rfl (fun ls hl => ?_)
    refine lv_lload hx hb dX0_coverParts_36 (lv_at hl 0 rfl) ?_
    refine lv_ldc2 (v := 498960) hx hb hown (hts (.constantLong RX0 60 (498960)) (by decide +kernel)) dX0_coverParts_38 ?_
    refine lc_le (tgt := 54) hx hb dX0_coverParts_41 dX0_coverParts_42 (by decide) (fun c_5 => ?_) (fun c_5 => ?_)
    · have hF := br1 hF c_5
      refine lv_lload hx hb dX0_coverParts_54 (lv_at hl 0 rfl) ?_
      rw [← hQ]
      exact W.lret (v := v_4) hx hb hr (fun t ht hW => ⟨_, rfl, Option.some.inj hF, ht⟩) (fun _ h => by cases h) dX0_coverParts_56
    · have hF := br0 hF c_5
      refine lv_ldc2 (v := 997920) hx hb hown (hts (.constantLong RX0 72 (997920)) (by decide +kernel)) dX0_coverParts_45 ?_
      refine lv_lload hx hb dX0_coverParts_48 (lv_at hl 0 rfl) ?_
      refine lv_lsub hx hb dX0_coverParts_50 ?_
      refine lv_goto (tgt := 56) hx hb dX0_coverParts_51 (by decide) ?_
      rw [← hQ]
      exact W.lret (v := ((997920 : Int64) - v_4)) hx hb hr (fun t ht hW => ⟨_, rfl, Option.some.inj hF, ht⟩) (fun _ h => by cases h) dX0_coverParts_56
  · have hF := br1 hF c_3
    refine lv_lload hx hb dX0_coverParts_19 (lv_at hl 0 rfl) ?_
    refine lv_ldc2 (v := 498960) hx hb hown (hts (.constantLong RX0 60 (498960)) (by decide +kernel)) dX0_coverParts_21 ?_
    refine va_mmin_long hx hb (hml.trans hl.1.symm) hown (hts (.methodLink RX0 69 Lib.MathLoose.min_long.x) (by decide +kernel)) (hts (.static Lib.MathLoose.min_long.x) (by decide +kernel)) (hts (.initialized "java/lang/Math") (by decide +kernel)) (hts (.code Lib.MathLoose.min_long.x Lib.MathLoose.min_long.code 4 (some .long)) (by decide +kernel)) (Nat.le_of_ble_eq_true rfl) (Nat.le_of_ble_eq_true rfl) (Nat.zero_le _) (Nat.zero_le _) dX0_coverParts_24 ?_
    rw [← hQ]
    exact W.lret (v := (if (498960 : Int64) < v_2 then (498960 : Int64) else v_2)) hx hb hr (fun t ht hW => ⟨_, rfl, Option.some.inj hF, ht⟩) (fun _ h => by cases h) dX0_coverParts_27

def L_X0_wholeDots_11 (xs : Nat → Int32) (ys : Nat → Int32) (sz : Int32) (fo : Int32) (a0 : Int32) (a2 : Int32) (a3 : Int32) (a4 : Int32) : Nat → Int32 → Int32 → Option (Int32 × Int32)
  | 0, _, _ => none
  | n + 1, k_2, k_3 =>
    if (a2 + a3) ≤ ((3 : Int32) * k_2) then
      some (k_2, k_3)
    else
      bd1 (P_X0_coverParts (((4 : Int32) * a0) + k_2) a3 a4 xs ys sz fo) (fun r_7 =>
      if r_7 = (498960 : Int64) then
        L_X0_wholeDots_11 xs ys sz fo a0 a2 a3 a4 n (k_2 + (1 : Int32)) (k_3 + (1 : Int32))
      else
        L_X0_wholeDots_11 xs ys sz fo a0 a2 a3 a4 n (k_2 + (1 : Int32)) k_3)
theorem L_X0_wholeDots_11_s (xs : Nat → Int32) (ys : Nat → Int32) (sz : Int32) (fo : Int32) (a0 : Int32) (a2 : Int32) (a3 : Int32) (a4 : Int32) (n : Nat) (k_2 : Int32) (k_3 : Int32) : L_X0_wholeDots_11 xs ys sz fo a0 a2 a3 a4 (n + 1) k_2 k_3 =
    (if (a2 + a3) ≤ ((3 : Int32) * k_2) then
      some (k_2, k_3)
    else
      bd1 (P_X0_coverParts (((4 : Int32) * a0) + k_2) a3 a4 xs ys sz fo) (fun r_7 =>
      if r_7 = (498960 : Int64) then
        L_X0_wholeDots_11 xs ys sz fo a0 a2 a3 a4 n (k_2 + (1 : Int32)) (k_3 + (1 : Int32))
      else
        L_X0_wholeDots_11 xs ys sz fo a0 a2 a3 a4 n (k_2 + (1 : Int32)) k_3)) := rfl

def P_X0_wholeDots (a0 : Int32) (a1 : Int32) (a2 : Int32) (a3 : Int32) (a4 : Int32) (xs : Nat → Int32) (ys : Nat → Int32) (sz : Int32) (fo : Int32) : Option (Int32) :=
  nm ((a1 + a3) / (3 : Int32)) (fun v_1 =>
  bd2 (L_X0_wholeDots_11 xs ys sz fo a0 a2 a3 a4 1000 v_1 (0 : Int32)) (fun o_4 o_5 =>
  some o_5))

def rm_X0_wholeDots : Room := { frames := 4, cells := 0, slots := 0, locals := 114 }

set_option maxHeartbeats 4000000 in
set_option maxRecDepth 100000 in
theorem c_X0_wholeDots (l : Launch) (dC : Nat → ClassId) (dI : Nat → Nat → Nat) (h0 xa ya : Nat) (cI : ClassId) (xs : Nat → Int32) (ys : Nat → Int32) (sz : Int32) (fo : Int32) (a0 : Int32) (a1 : Int32) (a2 : Int32) (a3 : Int32) (a4 : Int32) (r0 : Int32) (hF : P_X0_wholeDots a0 a1 a2 a3 a4 xs ys sz fo = some r0) : Met l yX0_wholeDots wsX0_wholeDots rm_X0_wholeDots (va_Pc [.ref h0, .int a0, .int a1, .int a2, .int a3, .int a4] (fun U => va_P (dC, dI) vwCl [(h0, .inr (0, [.ref xa, .ref ya, .int sz, .int fo])), (xa, .inl (cI, 8, .inl xs)), (ya, .inl (cI, 8, .inl ys))] U.heap ∧ va_K (dC, dI) vwCl [(cI, .int)] U)) (vp_Si (fun x => x = r0)) 0 0 (fun _ => False) := by
  refine Met.ofW (cc := cX0_wholeDots) (maxL := 8) (ret := (some .int)) (by decide) rfl ?_
  intro p e s m args below meth c s₁ B hml hv
  change W p l e rm_X0_wholeDots s m args below meth c s.heap [] 0 0 _ _
  obtain ⟨hv, hP, hK⟩ := hv
  have hx := B.exec
  have hb := B.bytes
  have hr := B.returns
  have hts := atoms_spec (ws := wsX0_wholeDots) B.pre
  have hown : s.vm.findClass RX0 = some m.cls := findClass_of_methodNamed B.named
  have hlocks := B.notSynchronized
  generalize hQ : MQ below (vp_Si (fun x => x = r0)) args s 0 0 (fun _ => False) = Q
  have hl := lv_entry ([.ref h0, .int a0, .int a1, .int a2, .int a3, .int a4]) (n := 8) (Nat.le_of_ble_eq_true rfl)
  have hE : entryFrame m args 8 = F0 m 0 ((lg_sl ([.ref h0, .int a0, .int a1, .int a2, .int a3, .int a4]) ++ List.replicate (8 - (lg_sl ([.ref h0, .int a0, .int a1, .int a2, .int a3, .int a4])).length) Slot.unset).toArray) [] := by rw [hv]; exact lg_entry_eq m _ 8
  rw [hE]
  generalize (lg_sl ([.ref h0, .int a0, .int a1, .int a2, .int a3, .int a4]) ++ List.replicate (8 - (lg_sl ([.ref h0, .int a0, .int a1, .int a2, .int a3, .int a4])).length) Slot.unset).toArray = ls at hl ⊢
  have hl : lv_has ls 8 [(0, .ref h0), (1, .int a0), (2, .int a1), (3, .int a2), (4, .int a3), (5, .int a4)] := hl
  unfold P_X0_wholeDots at hF
  refine lv_iconst (v := 0) hx hb dX0_wholeDots_0 (by decide) ?_
  refine lv_istore (lv' := [(6, .int (0 : Int32)), (0, .ref h0), (1, .int a0), (2, .int a1), (3, .int a2), (4, .int a3), (5, .int a4)]) hx hb dX0_wholeDots_1 hl (by decide) rfl (fun ls hl => ?_)
  refine lv_iload_n hx hb dX0_wholeDots_3 rfl (lv_at hl 3 rfl) ?_
  refine lv_iload hx hb dX0_wholeDots_4 (lv_at hl 5 rfl) ?_
  refine lv_iadd hx hb dX0_wholeDots_6 ?_
  refine lv_iconst (v := 3) hx hb dX0_wholeDots_7 (by decide) ?_
  refine lv_idiv hx hb dX0_wholeDots_8 (by decide) ?_
  refine lv_topi (fun v_1 ev_1 => ?_)
  have hF := nm_u hF ev_1
  refine lv_istore (lv' := [(7, .int v_1), (6, .int (0 : Int32)), (0, .ref h0), (1, .int a0), (2, .int a1), (3, .int a2), (4, .int a3), (5, .int a4)]) hx hb dX0_wholeDots_9 hl (by decide) rfl (fun ls hl => ?_)
  obtain ⟨o_4, o_5, hL_11, hF⟩ := bd2_u hF
  have lp_11 : ∀ (n : Nat) (k_2 : Int32) (k_3 : Int32) (o_4 : Int32) (o_5 : Int32) (ls : Array Slot), L_X0_wholeDots_11 xs ys sz fo a0 a2 a3 a4 n k_2 k_3 = some (o_4, o_5) → lv_has ls 8 [(7, .int k_2), (6, .int k_3), (0, .ref h0), (1, .int a0), (2, .int a1), (3, .int a2), (4, .int a3), (5, .int a4)] → (∀ (ls : Array Slot), lv_has ls 8 [(7, .int o_4), (6, .int o_5), (0, .ref h0), (1, .int a0), (2, .int a1), (3, .int a2), (4, .int a3), (5, .int a4)] → W p l e rm_X0_wholeDots s m args below meth c s.heap [] 0 0 Q (F0 m 52 ls [])) → W p l e rm_X0_wholeDots s m args below meth c s.heap [] 0 0 Q (F0 m 11 ls []) := by
    intro n
    induction n with
    | zero =>
      intro k_2 k_3 o_4 o_5 ls hF
      exact nn ((rfl : L_X0_wholeDots_11 xs ys sz fo a0 a2 a3 a4 0 k_2 k_3 = none).symm.trans hF)
    | succ n ih_11 =>
      intro k_2 k_3 o_4 o_5 ls hF hl kx_11
      have hF := (L_X0_wholeDots_11_s xs ys sz fo a0 a2 a3 a4 n k_2 k_3).symm.trans hF
      refine lv_iconst (v := 3) hx hb dX0_wholeDots_11 (by decide) ?_
      refine lv_iload hx hb dX0_wholeDots_12 (lv_at hl 0 rfl) ?_
      refine lv_imul hx hb dX0_wholeDots_14 ?_
      refine lv_iload_n hx hb dX0_wholeDots_15 rfl (lv_at hl 5 rfl) ?_
      refine lv_iload hx hb dX0_wholeDots_16 (lv_at hl 6 rfl) ?_
      refine lv_iadd hx hb dX0_wholeDots_18 ?_
      refine lv_icmp_ge (tgt := 52) hx hb dX0_wholeDots_19 (by decide) (fun c_6 => ?_) (fun c_6 => ?_)
      · have hF := br1 hF c_6
        obtain ⟨rfl, rfl⟩ := tp2 hF
        exact kx_11 ls hl
      · have hF := br0 hF c_6
        refine lv_aload_n hx hb dX0_wholeDots_22 rfl (lv_at hl 2 rfl) ?_
        refine lv_iconst (v := 4) hx hb dX0_wholeDots_23 (by decide) ?_
        refine lv_iload_n hx hb dX0_wholeDots_24 rfl (lv_at hl 3 rfl) ?_
        refine lv_imul hx hb dX0_wholeDots_25 ?_
        refine lv_iload hx hb dX0_wholeDots_26 (lv_at hl 0 rfl) ?_
        refine lv_iadd hx hb dX0_wholeDots_28 ?_
        refine lv_iload hx hb dX0_wholeDots_29 (lv_at hl 6 rfl) ?_
        refine lv_iload hx hb dX0_wholeDots_31 (lv_at hl 7 rfl) ?_
        obtain ⟨r_7, hr_7, hF⟩ := bd1_u hF
        have hPc := hP.sub (ws' := [(h0, .inr (0, [.ref xa, .ref ya, .int sz, .int fo])), (xa, .inl (cI, 8, .inl xs)), (ya, .inl (cI, 8, .inl ys))]) [0, 1, 2] rfl
        have hKc := hK.sub (tys' := [(cI, .int)]) [0] rfl
        refine vp_callSl (W.runV (As := [.int (((4 : Int32) * a0) + k_2), .int a3, .int a4]) (rest := []) ⟨hx, hb, hml, hown, hts⟩ (c_X0_coverParts l dC dI h0 xa ya cI xs ys sz fo (((4 : Int32) * a0) + k_2) a3 a4 r_7 hr_7) (cwV 3 hts gX0_wholeDots_X0_coverParts rfl rfl rfl (by decide +kernel) ⟨Nat.le_of_ble_eq_true rfl, Nat.le_of_ble_eq_true rfl⟩) ⟨fun a U g mk q => ⟨q.1, q.2.1, va_K.moved (u := U) (U := U.calling g mk a) (Vm.Alike.refl U.vm) q.2.2⟩, va_recv hKc hPc (ci := 0) (q0 := 0) rfl rfl, fun U hU hW => ⟨rfl, by rw [hU]; exact hPc, va_K.moved hW.alike hKc⟩⟩ rfl rfl hl.1 rfl (lv_room (Nat.le_of_ble_eq_true rfl)) dX0_wholeDots_33 ⟨Nat.le_of_ble_eq_true rfl, Nat.le_of_ble_eq_true rfl⟩) (fun r_7' qr_7 => ?_)
        obtain rfl := qr_7.symm
        refine lv_ldc2 (v := 498960) hx hb hown (hts (.constantLong RX0 60 (498960)) (by decide +kernel)) dX0_wholeDots_36 ?_
        refine lc_ne (tgt := 46) hx hb dX0_wholeDots_39 dX0_wholeDots_40 (by decide) (fun c_8 => ?_) (fun c_8 => ?_)
        · have hF := br0 hF c_8
          refine lv_iinc (v := (k_2 + (1 : Int32))) (lv' := [(7, .int (k_2 + (1 : Int32))), (6, .int k_3), (0, .ref h0), (1, .int a0), (2, .int a1), (3, .int a2), (4, .int a3), (5, .int a4)]) hx hb dX0_wholeDots_46 hl (k := 0) rfl rfl (by decide) rfl (fun ls hl => ?_)
          refine lv_goto (tgt := 11) hx hb dX0_wholeDots_49 (by decide) ?_
          exact ih_11 _ _ _ _ ls hF hl kx_11
        · have hF := br1 hF c_8
          refine lv_iinc (v := (k_3 + (1 : Int32))) (lv' := [(6, .int (k_3 + (1 : Int32))), (7, .int k_2), (0, .ref h0), (1, .int a0), (2, .int a1), (3, .int a2), (4, .int a3), (5, .int a4)]) hx hb dX0_wholeDots_43 hl (k := 1) rfl rfl (by decide) rfl (fun ls hl => ?_)
          refine lv_iinc (v := (k_2 + (1 : Int32))) (lv' := [(7, .int (k_2 + (1 : Int32))), (6, .int (k_3 + (1 : Int32))), (0, .ref h0), (1, .int a0), (2, .int a1), (3, .int a2), (4, .int a3), (5, .int a4)]) hx hb dX0_wholeDots_46 hl (k := 1) rfl rfl (by decide) rfl (fun ls hl => ?_)
          refine lv_goto (tgt := 11) hx hb dX0_wholeDots_49 (by decide) ?_
          exact ih_11 _ _ _ _ ls hF hl kx_11
  refine lp_11 1000 v_1 (0 : Int32) o_4 o_5 ls hL_11 hl (fun ls hl => ?_)
  refine lv_iload hx hb dX0_wholeDots_52 (lv_at hl 1 rfl) ?_
  rw [← hQ]
  exact W.iret (v := o_5) hx hb hr (fun t ht hW => ⟨_, rfl, Option.some.inj hF, ht⟩) (fun _ h => by cases h) dX0_wholeDots_54

def L_X0_least_x_5 (xs : Nat → Int32) (sz : Int32) : Nat → Int32 → Int32 → Option (Int32 × Int32)
  | 0, _, _ => none
  | n + 1, k_1, k_2 =>
    if sz ≤ k_1 then
      some (k_1, k_2)
    else
      gd (ib k_1 8) (
      nm (if (xs k_1.toNatClampNeg) < k_2 then (xs k_1.toNatClampNeg) else k_2) (fun v_6 =>
      L_X0_least_x_5 xs sz n (k_1 + (1 : Int32)) v_6))
theorem L_X0_least_x_5_s (xs : Nat → Int32) (sz : Int32) (n : Nat) (k_1 : Int32) (k_2 : Int32) : L_X0_least_x_5 xs sz (n + 1) k_1 k_2 =
    (if sz ≤ k_1 then
      some (k_1, k_2)
    else
      gd (ib k_1 8) (
      nm (if (xs k_1.toNatClampNeg) < k_2 then (xs k_1.toNatClampNeg) else k_2) (fun v_6 =>
      L_X0_least_x_5 xs sz n (k_1 + (1 : Int32)) v_6))) := rfl

def P_X0_least_x (xs : Nat → Int32) (sz : Int32) : Option (Int32) :=
  bd2 (L_X0_least_x_5 xs sz 1000 (0 : Int32) (12 : Int32)) (fun o_3 o_4 =>
  some o_4)

def rm_X0_least_x : Room := { frames := 1, cells := 0, slots := 0, locals := 23 }

set_option maxHeartbeats 4000000 in
set_option maxRecDepth 100000 in
theorem c_X0_least_x (l : Launch) (dC : Nat → ClassId) (dI : Nat → Nat → Nat) (h0 xa ya : Nat) (cI : ClassId) (xs : Nat → Int32) (ys : Nat → Int32) (sz : Int32) (fo : Int32) (r0 : Int32) (hF : P_X0_least_x xs sz = some r0) : Met l yX0_least wsX0_least rm_X0_least_x (va_Pc [.ref h0, .ref xa] (fun U => va_P (dC, dI) vwCl [(h0, .inr (0, [.ref xa, .ref ya, .int sz, .int fo])), (xa, .inl (cI, 8, .inl xs)), (ya, .inl (cI, 8, .inl ys))] U.heap ∧ va_K (dC, dI) vwCl [(cI, .int)] U)) (vp_Si (fun x => x = r0)) 0 0 (fun _ => False) := by
  refine Met.ofW (cc := cX0_least) (maxL := 4) (ret := (some .int)) (by decide) rfl ?_
  intro p e s m args below meth c s₁ B hml hv
  change W p l e rm_X0_least_x s m args below meth c s.heap [] 0 0 _ _
  obtain ⟨hv, hP, hK⟩ := hv
  have hx := B.exec
  have hb := B.bytes
  have hr := B.returns
  have hts := atoms_spec (ws := wsX0_least) B.pre
  have hown : s.vm.findClass RX0 = some m.cls := findClass_of_methodNamed B.named
  have hlocks := B.notSynchronized
  generalize hQ : MQ below (vp_Si (fun x => x = r0)) args s 0 0 (fun _ => False) = Q
  have hl := lv_entry ([.ref h0, .ref xa]) (n := 4) (Nat.le_of_ble_eq_true rfl)
  have hE : entryFrame m args 4 = F0 m 0 ((lg_sl ([.ref h0, .ref xa]) ++ List.replicate (4 - (lg_sl ([.ref h0, .ref xa])).length) Slot.unset).toArray) [] := by rw [hv]; exact lg_entry_eq m _ 4
  rw [hE]
  generalize (lg_sl ([.ref h0, .ref xa]) ++ List.replicate (4 - (lg_sl ([.ref h0, .ref xa])).length) Slot.unset).toArray = ls at hl ⊢
  have hl : lv_has ls 4 [(0, .ref h0), (1, .ref xa)] := hl
  unfold P_X0_least_x at hF
  refine lv_bipush (v := 12) hx hb dX0_least_0 (by decide) ?_
  refine lv_istore_n (lv' := [(2, .int (12 : Int32)), (0, .ref h0), (1, .ref xa)]) hx hb dX0_least_2 rfl hl (by decide) rfl (fun ls hl => ?_)
  refine lv_iconst (v := 0) hx hb dX0_least_3 (by decide) ?_
  refine lv_istore_n (lv' := [(3, .int (0 : Int32)), (2, .int (12 : Int32)), (0, .ref h0), (1, .ref xa)]) hx hb dX0_least_4 rfl hl (by decide) rfl (fun ls hl => ?_)
  obtain ⟨o_3, o_4, hL_5, hF⟩ := bd2_u hF
  have lp_5 : ∀ (n : Nat) (k_1 : Int32) (k_2 : Int32) (o_3 : Int32) (o_4 : Int32) (ls : Array Slot), L_X0_least_x_5 xs sz n k_1 k_2 = some (o_3, o_4) → lv_has ls 4 [(3, .int k_1), (2, .int k_2), (0, .ref h0), (1, .ref xa)] → (∀ (ls : Array Slot), lv_has ls 4 [(3, .int o_3), (2, .int o_4), (0, .ref h0), (1, .ref xa)] → W p l e rm_X0_least_x s m args below meth c s.heap [] 0 0 Q (F0 m 27 ls [])) → W p l e rm_X0_least_x s m args below meth c s.heap [] 0 0 Q (F0 m 5 ls []) := by
    intro n
    induction n with
    | zero =>
      intro k_1 k_2 o_3 o_4 ls hF
      exact nn ((rfl : L_X0_least_x_5 xs sz 0 k_1 k_2 = none).symm.trans hF)
    | succ n ih_5 =>
      intro k_1 k_2 o_3 o_4 ls hF hl kx_5
      have hF := (L_X0_least_x_5_s xs sz n k_1 k_2).symm.trans hF
      refine lv_iload_n hx hb dX0_least_5 rfl (lv_at hl 0 rfl) ?_
      refine lv_aload_n hx hb dX0_least_6 rfl (lv_at hl 2 rfl) ?_
      refine va_get (D := (dC, dI)) (ci := 0) (v := .int sz) (C := RX0) (T := TX0) (N := 4) hx hb hts (by decide +kernel) hown hK hP 0 rfl rfl 2 (by decide) (hts (.fieldLink RX0 18 "DotCover$Layer" "size" "I") (by decide +kernel)) (fun _ h9 => h9) rfl dX0_least_7 ?_
      refine lv_icmp_ge (tgt := 27) hx hb dX0_least_10 (by decide) (fun c_5 => ?_) (fun c_5 => ?_)
      · have hF := br1 hF c_5
        obtain ⟨rfl, rfl⟩ := tp2 hF
        exact kx_5 ls hl
      · have hF := br0 hF c_5
        refine lv_iload_n hx hb dX0_least_13 rfl (lv_at hl 1 rfl) ?_
        refine lv_aload_n hx hb dX0_least_14 rfl (lv_at hl 3 rfl) ?_
        refine lv_iload_n hx hb dX0_least_15 rfl (lv_at hl 0 rfl) ?_
        obtain ⟨hi_16, hF⟩ := gd_u hF
        refine va_iald hx hb hK hP 1 0 rfl rfl (in_u hi_16) dX0_least_16 ?_
        refine va_mmin hx hb (hml.trans hl.1.symm) hown (hts (.methodLink RX0 47 Lib.Math.min.name) (by decide +kernel)) (hts (.static Lib.Math.min.name) (by decide +kernel)) (hts (.initialized "java/lang/Math") (by decide +kernel)) (hts (.code Lib.Math.min.name Lib.Math.min.code 2 (some .int)) (by decide +kernel)) (Nat.le_of_ble_eq_true rfl) (Nat.le_of_ble_eq_true rfl) (Nat.zero_le _) (Nat.zero_le _) dX0_least_17 ?_
        refine lv_topi (fun v_6 ev_6 => ?_)
        have hF := nm_u hF ev_6
        refine lv_istore_n (lv' := [(2, .int v_6), (3, .int k_1), (0, .ref h0), (1, .ref xa)]) hx hb dX0_least_20 rfl hl (by decide) rfl (fun ls hl => ?_)
        refine lv_iinc (v := (k_1 + (1 : Int32))) (lv' := [(3, .int (k_1 + (1 : Int32))), (2, .int v_6), (0, .ref h0), (1, .ref xa)]) hx hb dX0_least_21 hl (k := 1) rfl rfl (by decide) rfl (fun ls hl => ?_)
        refine lv_goto (tgt := 5) hx hb dX0_least_24 (by decide) ?_
        exact ih_5 _ _ _ _ ls hF hl kx_5
  refine lp_5 1000 (0 : Int32) (12 : Int32) o_3 o_4 ls hL_5 hl (fun ls hl => ?_)
  refine lv_iload_n hx hb dX0_least_27 rfl (lv_at hl 1 rfl) ?_
  rw [← hQ]
  exact W.iret (v := o_4) hx hb hr (fun t ht hW => ⟨_, rfl, Option.some.inj hF, ht⟩) (fun _ h => by cases h) dX0_least_28

def L_X0_least_y_5 (ys : Nat → Int32) (sz : Int32) : Nat → Int32 → Int32 → Option (Int32 × Int32)
  | 0, _, _ => none
  | n + 1, k_1, k_2 =>
    if sz ≤ k_1 then
      some (k_1, k_2)
    else
      gd (ib k_1 8) (
      nm (if (ys k_1.toNatClampNeg) < k_2 then (ys k_1.toNatClampNeg) else k_2) (fun v_6 =>
      L_X0_least_y_5 ys sz n (k_1 + (1 : Int32)) v_6))
theorem L_X0_least_y_5_s (ys : Nat → Int32) (sz : Int32) (n : Nat) (k_1 : Int32) (k_2 : Int32) : L_X0_least_y_5 ys sz (n + 1) k_1 k_2 =
    (if sz ≤ k_1 then
      some (k_1, k_2)
    else
      gd (ib k_1 8) (
      nm (if (ys k_1.toNatClampNeg) < k_2 then (ys k_1.toNatClampNeg) else k_2) (fun v_6 =>
      L_X0_least_y_5 ys sz n (k_1 + (1 : Int32)) v_6))) := rfl

def P_X0_least_y (ys : Nat → Int32) (sz : Int32) : Option (Int32) :=
  bd2 (L_X0_least_y_5 ys sz 1000 (0 : Int32) (12 : Int32)) (fun o_3 o_4 =>
  some o_4)

def rm_X0_least_y : Room := { frames := 1, cells := 0, slots := 0, locals := 23 }

set_option maxHeartbeats 4000000 in
set_option maxRecDepth 100000 in
theorem c_X0_least_y (l : Launch) (dC : Nat → ClassId) (dI : Nat → Nat → Nat) (h0 xa ya : Nat) (cI : ClassId) (xs : Nat → Int32) (ys : Nat → Int32) (sz : Int32) (fo : Int32) (r0 : Int32) (hF : P_X0_least_y ys sz = some r0) : Met l yX0_least wsX0_least rm_X0_least_y (va_Pc [.ref h0, .ref ya] (fun U => va_P (dC, dI) vwCl [(h0, .inr (0, [.ref xa, .ref ya, .int sz, .int fo])), (xa, .inl (cI, 8, .inl xs)), (ya, .inl (cI, 8, .inl ys))] U.heap ∧ va_K (dC, dI) vwCl [(cI, .int)] U)) (vp_Si (fun x => x = r0)) 0 0 (fun _ => False) := by
  refine Met.ofW (cc := cX0_least) (maxL := 4) (ret := (some .int)) (by decide) rfl ?_
  intro p e s m args below meth c s₁ B hml hv
  change W p l e rm_X0_least_y s m args below meth c s.heap [] 0 0 _ _
  obtain ⟨hv, hP, hK⟩ := hv
  have hx := B.exec
  have hb := B.bytes
  have hr := B.returns
  have hts := atoms_spec (ws := wsX0_least) B.pre
  have hown : s.vm.findClass RX0 = some m.cls := findClass_of_methodNamed B.named
  have hlocks := B.notSynchronized
  generalize hQ : MQ below (vp_Si (fun x => x = r0)) args s 0 0 (fun _ => False) = Q
  have hl := lv_entry ([.ref h0, .ref ya]) (n := 4) (Nat.le_of_ble_eq_true rfl)
  have hE : entryFrame m args 4 = F0 m 0 ((lg_sl ([.ref h0, .ref ya]) ++ List.replicate (4 - (lg_sl ([.ref h0, .ref ya])).length) Slot.unset).toArray) [] := by rw [hv]; exact lg_entry_eq m _ 4
  rw [hE]
  generalize (lg_sl ([.ref h0, .ref ya]) ++ List.replicate (4 - (lg_sl ([.ref h0, .ref ya])).length) Slot.unset).toArray = ls at hl ⊢
  have hl : lv_has ls 4 [(0, .ref h0), (1, .ref ya)] := hl
  unfold P_X0_least_y at hF
  refine lv_bipush (v := 12) hx hb dX0_least_0 (by decide) ?_
  refine lv_istore_n (lv' := [(2, .int (12 : Int32)), (0, .ref h0), (1, .ref ya)]) hx hb dX0_least_2 rfl hl (by decide) rfl (fun ls hl => ?_)
  refine lv_iconst (v := 0) hx hb dX0_least_3 (by decide) ?_
  refine lv_istore_n (lv' := [(3, .int (0 : Int32)), (2, .int (12 : Int32)), (0, .ref h0), (1, .ref ya)]) hx hb dX0_least_4 rfl hl (by decide) rfl (fun ls hl => ?_)
  obtain ⟨o_3, o_4, hL_5, hF⟩ := bd2_u hF
  have lp_5 : ∀ (n : Nat) (k_1 : Int32) (k_2 : Int32) (o_3 : Int32) (o_4 : Int32) (ls : Array Slot), L_X0_least_y_5 ys sz n k_1 k_2 = some (o_3, o_4) → lv_has ls 4 [(3, .int k_1), (2, .int k_2), (0, .ref h0), (1, .ref ya)] → (∀ (ls : Array Slot), lv_has ls 4 [(3, .int o_3), (2, .int o_4), (0, .ref h0), (1, .ref ya)] → W p l e rm_X0_least_y s m args below meth c s.heap [] 0 0 Q (F0 m 27 ls [])) → W p l e rm_X0_least_y s m args below meth c s.heap [] 0 0 Q (F0 m 5 ls []) := by
    intro n
    induction n with
    | zero =>
      intro k_1 k_2 o_3 o_4 ls hF
      exact nn ((rfl : L_X0_least_y_5 ys sz 0 k_1 k_2 = none).symm.trans hF)
    | succ n ih_5 =>
      intro k_1 k_2 o_3 o_4 ls hF hl kx_5
      have hF := (L_X0_least_y_5_s ys sz n k_1 k_2).symm.trans hF
      refine lv_iload_n hx hb dX0_least_5 rfl (lv_at hl 0 rfl) ?_
      refine lv_aload_n hx hb dX0_least_6 rfl (lv_at hl 2 rfl) ?_
      refine va_get (D := (dC, dI)) (ci := 0) (v := .int sz) (C := RX0) (T := TX0) (N := 4) hx hb hts (by decide +kernel) hown hK hP 0 rfl rfl 2 (by decide) (hts (.fieldLink RX0 18 "DotCover$Layer" "size" "I") (by decide +kernel)) (fun _ h9 => h9) rfl dX0_least_7 ?_
      refine lv_icmp_ge (tgt := 27) hx hb dX0_least_10 (by decide) (fun c_5 => ?_) (fun c_5 => ?_)
      · have hF := br1 hF c_5
        obtain ⟨rfl, rfl⟩ := tp2 hF
        exact kx_5 ls hl
      · have hF := br0 hF c_5
        refine lv_iload_n hx hb dX0_least_13 rfl (lv_at hl 1 rfl) ?_
        refine lv_aload_n hx hb dX0_least_14 rfl (lv_at hl 3 rfl) ?_
        refine lv_iload_n hx hb dX0_least_15 rfl (lv_at hl 0 rfl) ?_
        obtain ⟨hi_16, hF⟩ := gd_u hF
        refine va_iald hx hb hK hP 2 0 rfl rfl (in_u hi_16) dX0_least_16 ?_
        refine va_mmin hx hb (hml.trans hl.1.symm) hown (hts (.methodLink RX0 47 Lib.Math.min.name) (by decide +kernel)) (hts (.static Lib.Math.min.name) (by decide +kernel)) (hts (.initialized "java/lang/Math") (by decide +kernel)) (hts (.code Lib.Math.min.name Lib.Math.min.code 2 (some .int)) (by decide +kernel)) (Nat.le_of_ble_eq_true rfl) (Nat.le_of_ble_eq_true rfl) (Nat.zero_le _) (Nat.zero_le _) dX0_least_17 ?_
        refine lv_topi (fun v_6 ev_6 => ?_)
        have hF := nm_u hF ev_6
        refine lv_istore_n (lv' := [(2, .int v_6), (3, .int k_1), (0, .ref h0), (1, .ref ya)]) hx hb dX0_least_20 rfl hl (by decide) rfl (fun ls hl => ?_)
        refine lv_iinc (v := (k_1 + (1 : Int32))) (lv' := [(3, .int (k_1 + (1 : Int32))), (2, .int v_6), (0, .ref h0), (1, .ref ya)]) hx hb dX0_least_21 hl (k := 1) rfl rfl (by decide) rfl (fun ls hl => ?_)
        refine lv_goto (tgt := 5) hx hb dX0_least_24 (by decide) ?_
        exact ih_5 _ _ _ _ ls hF hl kx_5
  refine lp_5 1000 (0 : Int32) (12 : Int32) o_3 o_4 ls hL_5 hl (fun ls hl => ?_)
  refine lv_iload_n hx hb dX0_least_27 rfl (lv_at hl 1 rfl) ?_
  rw [← hQ]
  exact W.iret (v := o_4) hx hb hr (fun t ht hW => ⟨_, rfl, Option.some.inj hF, ht⟩) (fun _ h => by cases h) dX0_least_28

def L_X0_greatest_x_4 (xs : Nat → Int32) (sz : Int32) : Nat → Int32 → Int32 → Option (Int32 × Int32)
  | 0, _, _ => none
  | n + 1, k_1, k_2 =>
    if sz ≤ k_1 then
      some (k_1, k_2)
    else
      gd (ib k_1 8) (
      nm (if k_2 < (xs k_1.toNatClampNeg) then (xs k_1.toNatClampNeg) else k_2) (fun v_6 =>
      L_X0_greatest_x_4 xs sz n (k_1 + (1 : Int32)) v_6))
theorem L_X0_greatest_x_4_s (xs : Nat → Int32) (sz : Int32) (n : Nat) (k_1 : Int32) (k_2 : Int32) : L_X0_greatest_x_4 xs sz (n + 1) k_1 k_2 =
    (if sz ≤ k_1 then
      some (k_1, k_2)
    else
      gd (ib k_1 8) (
      nm (if k_2 < (xs k_1.toNatClampNeg) then (xs k_1.toNatClampNeg) else k_2) (fun v_6 =>
      L_X0_greatest_x_4 xs sz n (k_1 + (1 : Int32)) v_6))) := rfl

def P_X0_greatest_x (xs : Nat → Int32) (sz : Int32) : Option (Int32) :=
  bd2 (L_X0_greatest_x_4 xs sz 1000 (0 : Int32) (0 : Int32)) (fun o_3 o_4 =>
  some o_4)

def rm_X0_greatest_x : Room := { frames := 1, cells := 0, slots := 0, locals := 23 }

set_option maxHeartbeats 4000000 in
set_option maxRecDepth 100000 in
theorem c_X0_greatest_x (l : Launch) (dC : Nat → ClassId) (dI : Nat → Nat → Nat) (h0 xa ya : Nat) (cI : ClassId) (xs : Nat → Int32) (ys : Nat → Int32) (sz : Int32) (fo : Int32) (r0 : Int32) (hF : P_X0_greatest_x xs sz = some r0) : Met l yX0_greatest wsX0_greatest rm_X0_greatest_x (va_Pc [.ref h0, .ref xa] (fun U => va_P (dC, dI) vwCl [(h0, .inr (0, [.ref xa, .ref ya, .int sz, .int fo])), (xa, .inl (cI, 8, .inl xs)), (ya, .inl (cI, 8, .inl ys))] U.heap ∧ va_K (dC, dI) vwCl [(cI, .int)] U)) (vp_Si (fun x => x = r0)) 0 0 (fun _ => False) := by
  refine Met.ofW (cc := cX0_greatest) (maxL := 4) (ret := (some .int)) (by decide) rfl ?_
  intro p e s m args below meth c s₁ B hml hv
  change W p l e rm_X0_greatest_x s m args below meth c s.heap [] 0 0 _ _
  obtain ⟨hv, hP, hK⟩ := hv
  have hx := B.exec
  have hb := B.bytes
  have hr := B.returns
  have hts := atoms_spec (ws := wsX0_greatest) B.pre
  have hown : s.vm.findClass RX0 = some m.cls := findClass_of_methodNamed B.named
  have hlocks := B.notSynchronized
  generalize hQ : MQ below (vp_Si (fun x => x = r0)) args s 0 0 (fun _ => False) = Q
  have hl := lv_entry ([.ref h0, .ref xa]) (n := 4) (Nat.le_of_ble_eq_true rfl)
  have hE : entryFrame m args 4 = F0 m 0 ((lg_sl ([.ref h0, .ref xa]) ++ List.replicate (4 - (lg_sl ([.ref h0, .ref xa])).length) Slot.unset).toArray) [] := by rw [hv]; exact lg_entry_eq m _ 4
  rw [hE]
  generalize (lg_sl ([.ref h0, .ref xa]) ++ List.replicate (4 - (lg_sl ([.ref h0, .ref xa])).length) Slot.unset).toArray = ls at hl ⊢
  have hl : lv_has ls 4 [(0, .ref h0), (1, .ref xa)] := hl
  unfold P_X0_greatest_x at hF
  refine lv_iconst (v := 0) hx hb dX0_greatest_0 (by decide) ?_
  refine lv_istore_n (lv' := [(2, .int (0 : Int32)), (0, .ref h0), (1, .ref xa)]) hx hb dX0_greatest_1 rfl hl (by decide) rfl (fun ls hl => ?_)
  refine lv_iconst (v := 0) hx hb dX0_greatest_2 (by decide) ?_
  refine lv_istore_n (lv' := [(3, .int (0 : Int32)), (2, .int (0 : Int32)), (0, .ref h0), (1, .ref xa)]) hx hb dX0_greatest_3 rfl hl (by decide) rfl (fun ls hl => ?_)
  obtain ⟨o_3, o_4, hL_4, hF⟩ := bd2_u hF
  have lp_4 : ∀ (n : Nat) (k_1 : Int32) (k_2 : Int32) (o_3 : Int32) (o_4 : Int32) (ls : Array Slot), L_X0_greatest_x_4 xs sz n k_1 k_2 = some (o_3, o_4) → lv_has ls 4 [(3, .int k_1), (2, .int k_2), (0, .ref h0), (1, .ref xa)] → (∀ (ls : Array Slot), lv_has ls 4 [(3, .int o_3), (2, .int o_4), (0, .ref h0), (1, .ref xa)] → W p l e rm_X0_greatest_x s m args below meth c s.heap [] 0 0 Q (F0 m 26 ls [])) → W p l e rm_X0_greatest_x s m args below meth c s.heap [] 0 0 Q (F0 m 4 ls []) := by
    intro n
    induction n with
    | zero =>
      intro k_1 k_2 o_3 o_4 ls hF
      exact nn ((rfl : L_X0_greatest_x_4 xs sz 0 k_1 k_2 = none).symm.trans hF)
    | succ n ih_4 =>
      intro k_1 k_2 o_3 o_4 ls hF hl kx_4
      have hF := (L_X0_greatest_x_4_s xs sz n k_1 k_2).symm.trans hF
      refine lv_iload_n hx hb dX0_greatest_4 rfl (lv_at hl 0 rfl) ?_
      refine lv_aload_n hx hb dX0_greatest_5 rfl (lv_at hl 2 rfl) ?_
      refine va_get (D := (dC, dI)) (ci := 0) (v := .int sz) (C := RX0) (T := TX0) (N := 4) hx hb hts (by decide +kernel) hown hK hP 0 rfl rfl 2 (by decide) (hts (.fieldLink RX0 18 "DotCover$Layer" "size" "I") (by decide +kernel)) (fun _ h9 => h9) rfl dX0_greatest_6 ?_
      refine lv_icmp_ge (tgt := 26) hx hb dX0_greatest_9 (by decide) (fun c_5 => ?_) (fun c_5 => ?_)
      · have hF := br1 hF c_5
        obtain ⟨rfl, rfl⟩ := tp2 hF
        exact kx_4 ls hl
      · have hF := br0 hF c_5
        refine lv_iload_n hx hb dX0_greatest_12 rfl (lv_at hl 1 rfl) ?_
        refine lv_aload_n hx hb dX0_greatest_13 rfl (lv_at hl 3 rfl) ?_
        refine lv_iload_n hx hb dX0_greatest_14 rfl (lv_at hl 0 rfl) ?_
        obtain ⟨hi_15, hF⟩ := gd_u hF
        refine va_iald hx hb hK hP 1 0 rfl rfl (in_u hi_15) dX0_greatest_15 ?_
        refine va_mmax hx hb (hml.trans hl.1.symm) hown (hts (.methodLink RX0 53 Lib.Math.max.name) (by decide +kernel)) (hts (.static Lib.Math.max.name) (by decide +kernel)) (hts (.initialized "java/lang/Math") (by decide +kernel)) (hts (.code Lib.Math.max.name Lib.Math.max.code 2 (some .int)) (by decide +kernel)) (Nat.le_of_ble_eq_true rfl) (Nat.le_of_ble_eq_true rfl) (Nat.zero_le _) (Nat.zero_le _) dX0_greatest_16 ?_
        refine lv_topi (fun v_6 ev_6 => ?_)
        have hF := nm_u hF ev_6
        refine lv_istore_n (lv' := [(2, .int v_6), (3, .int k_1), (0, .ref h0), (1, .ref xa)]) hx hb dX0_greatest_19 rfl hl (by decide) rfl (fun ls hl => ?_)
        refine lv_iinc (v := (k_1 + (1 : Int32))) (lv' := [(3, .int (k_1 + (1 : Int32))), (2, .int v_6), (0, .ref h0), (1, .ref xa)]) hx hb dX0_greatest_20 hl (k := 1) rfl rfl (by decide) rfl (fun ls hl => ?_)
        refine lv_goto (tgt := 4) hx hb dX0_greatest_23 (by decide) ?_
        exact ih_4 _ _ _ _ ls hF hl kx_4
  refine lp_4 1000 (0 : Int32) (0 : Int32) o_3 o_4 ls hL_4 hl (fun ls hl => ?_)
  refine lv_iload_n hx hb dX0_greatest_26 rfl (lv_at hl 1 rfl) ?_
  rw [← hQ]
  exact W.iret (v := o_4) hx hb hr (fun t ht hW => ⟨_, rfl, Option.some.inj hF, ht⟩) (fun _ h => by cases h) dX0_greatest_27

def L_X0_greatest_y_4 (ys : Nat → Int32) (sz : Int32) : Nat → Int32 → Int32 → Option (Int32 × Int32)
  | 0, _, _ => none
  | n + 1, k_1, k_2 =>
    if sz ≤ k_1 then
      some (k_1, k_2)
    else
      gd (ib k_1 8) (
      nm (if k_2 < (ys k_1.toNatClampNeg) then (ys k_1.toNatClampNeg) else k_2) (fun v_6 =>
      L_X0_greatest_y_4 ys sz n (k_1 + (1 : Int32)) v_6))
theorem L_X0_greatest_y_4_s (ys : Nat → Int32) (sz : Int32) (n : Nat) (k_1 : Int32) (k_2 : Int32) : L_X0_greatest_y_4 ys sz (n + 1) k_1 k_2 =
    (if sz ≤ k_1 then
      some (k_1, k_2)
    else
      gd (ib k_1 8) (
      nm (if k_2 < (ys k_1.toNatClampNeg) then (ys k_1.toNatClampNeg) else k_2) (fun v_6 =>
      L_X0_greatest_y_4 ys sz n (k_1 + (1 : Int32)) v_6))) := rfl

def P_X0_greatest_y (ys : Nat → Int32) (sz : Int32) : Option (Int32) :=
  bd2 (L_X0_greatest_y_4 ys sz 1000 (0 : Int32) (0 : Int32)) (fun o_3 o_4 =>
  some o_4)

def rm_X0_greatest_y : Room := { frames := 1, cells := 0, slots := 0, locals := 23 }

set_option maxHeartbeats 4000000 in
set_option maxRecDepth 100000 in
theorem c_X0_greatest_y (l : Launch) (dC : Nat → ClassId) (dI : Nat → Nat → Nat) (h0 xa ya : Nat) (cI : ClassId) (xs : Nat → Int32) (ys : Nat → Int32) (sz : Int32) (fo : Int32) (r0 : Int32) (hF : P_X0_greatest_y ys sz = some r0) : Met l yX0_greatest wsX0_greatest rm_X0_greatest_y (va_Pc [.ref h0, .ref ya] (fun U => va_P (dC, dI) vwCl [(h0, .inr (0, [.ref xa, .ref ya, .int sz, .int fo])), (xa, .inl (cI, 8, .inl xs)), (ya, .inl (cI, 8, .inl ys))] U.heap ∧ va_K (dC, dI) vwCl [(cI, .int)] U)) (vp_Si (fun x => x = r0)) 0 0 (fun _ => False) := by
  refine Met.ofW (cc := cX0_greatest) (maxL := 4) (ret := (some .int)) (by decide) rfl ?_
  intro p e s m args below meth c s₁ B hml hv
  change W p l e rm_X0_greatest_y s m args below meth c s.heap [] 0 0 _ _
  obtain ⟨hv, hP, hK⟩ := hv
  have hx := B.exec
  have hb := B.bytes
  have hr := B.returns
  have hts := atoms_spec (ws := wsX0_greatest) B.pre
  have hown : s.vm.findClass RX0 = some m.cls := findClass_of_methodNamed B.named
  have hlocks := B.notSynchronized
  generalize hQ : MQ below (vp_Si (fun x => x = r0)) args s 0 0 (fun _ => False) = Q
  have hl := lv_entry ([.ref h0, .ref ya]) (n := 4) (Nat.le_of_ble_eq_true rfl)
  have hE : entryFrame m args 4 = F0 m 0 ((lg_sl ([.ref h0, .ref ya]) ++ List.replicate (4 - (lg_sl ([.ref h0, .ref ya])).length) Slot.unset).toArray) [] := by rw [hv]; exact lg_entry_eq m _ 4
  rw [hE]
  generalize (lg_sl ([.ref h0, .ref ya]) ++ List.replicate (4 - (lg_sl ([.ref h0, .ref ya])).length) Slot.unset).toArray = ls at hl ⊢
  have hl : lv_has ls 4 [(0, .ref h0), (1, .ref ya)] := hl
  unfold P_X0_greatest_y at hF
  refine lv_iconst (v := 0) hx hb dX0_greatest_0 (by decide) ?_
  refine lv_istore_n (lv' := [(2, .int (0 : Int32)), (0, .ref h0), (1, .ref ya)]) hx hb dX0_greatest_1 rfl hl (by decide) rfl (fun ls hl => ?_)
  refine lv_iconst (v := 0) hx hb dX0_greatest_2 (by decide) ?_
  refine lv_istore_n (lv' := [(3, .int (0 : Int32)), (2, .int (0 : Int32)), (0, .ref h0), (1, .ref ya)]) hx hb dX0_greatest_3 rfl hl (by decide) rfl (fun ls hl => ?_)
  obtain ⟨o_3, o_4, hL_4, hF⟩ := bd2_u hF
  have lp_4 : ∀ (n : Nat) (k_1 : Int32) (k_2 : Int32) (o_3 : Int32) (o_4 : Int32) (ls : Array Slot), L_X0_greatest_y_4 ys sz n k_1 k_2 = some (o_3, o_4) → lv_has ls 4 [(3, .int k_1), (2, .int k_2), (0, .ref h0), (1, .ref ya)] → (∀ (ls : Array Slot), lv_has ls 4 [(3, .int o_3), (2, .int o_4), (0, .ref h0), (1, .ref ya)] → W p l e rm_X0_greatest_y s m args below meth c s.heap [] 0 0 Q (F0 m 26 ls [])) → W p l e rm_X0_greatest_y s m args below meth c s.heap [] 0 0 Q (F0 m 4 ls []) := by
    intro n
    induction n with
    | zero =>
      intro k_1 k_2 o_3 o_4 ls hF
      exact nn ((rfl : L_X0_greatest_y_4 ys sz 0 k_1 k_2 = none).symm.trans hF)
    | succ n ih_4 =>
      intro k_1 k_2 o_3 o_4 ls hF hl kx_4
      have hF := (L_X0_greatest_y_4_s ys sz n k_1 k_2).symm.trans hF
      refine lv_iload_n hx hb dX0_greatest_4 rfl (lv_at hl 0 rfl) ?_
      refine lv_aload_n hx hb dX0_greatest_5 rfl (lv_at hl 2 rfl) ?_
      refine va_get (D := (dC, dI)) (ci := 0) (v := .int sz) (C := RX0) (T := TX0) (N := 4) hx hb hts (by decide +kernel) hown hK hP 0 rfl rfl 2 (by decide) (hts (.fieldLink RX0 18 "DotCover$Layer" "size" "I") (by decide +kernel)) (fun _ h9 => h9) rfl dX0_greatest_6 ?_
      refine lv_icmp_ge (tgt := 26) hx hb dX0_greatest_9 (by decide) (fun c_5 => ?_) (fun c_5 => ?_)
      · have hF := br1 hF c_5
        obtain ⟨rfl, rfl⟩ := tp2 hF
        exact kx_4 ls hl
      · have hF := br0 hF c_5
        refine lv_iload_n hx hb dX0_greatest_12 rfl (lv_at hl 1 rfl) ?_
        refine lv_aload_n hx hb dX0_greatest_13 rfl (lv_at hl 3 rfl) ?_
        refine lv_iload_n hx hb dX0_greatest_14 rfl (lv_at hl 0 rfl) ?_
        obtain ⟨hi_15, hF⟩ := gd_u hF
        refine va_iald hx hb hK hP 2 0 rfl rfl (in_u hi_15) dX0_greatest_15 ?_
        refine va_mmax hx hb (hml.trans hl.1.symm) hown (hts (.methodLink RX0 53 Lib.Math.max.name) (by decide +kernel)) (hts (.static Lib.Math.max.name) (by decide +kernel)) (hts (.initialized "java/lang/Math") (by decide +kernel)) (hts (.code Lib.Math.max.name Lib.Math.max.code 2 (some .int)) (by decide +kernel)) (Nat.le_of_ble_eq_true rfl) (Nat.le_of_ble_eq_true rfl) (Nat.zero_le _) (Nat.zero_le _) dX0_greatest_16 ?_
        refine lv_topi (fun v_6 ev_6 => ?_)
        have hF := nm_u hF ev_6
        refine lv_istore_n (lv' := [(2, .int v_6), (3, .int k_1), (0, .ref h0), (1, .ref ya)]) hx hb dX0_greatest_19 rfl hl (by decide) rfl (fun ls hl => ?_)
        refine lv_iinc (v := (k_1 + (1 : Int32))) (lv' := [(3, .int (k_1 + (1 : Int32))), (2, .int v_6), (0, .ref h0), (1, .ref ya)]) hx hb dX0_greatest_20 hl (k := 1) rfl rfl (by decide) rfl (fun ls hl => ?_)
        refine lv_goto (tgt := 4) hx hb dX0_greatest_23 (by decide) ?_
        exact ih_4 _ _ _ _ ls hF hl kx_4
  refine lp_4 1000 (0 : Int32) (0 : Int32) o_3 o_4 ls hL_4 hl (fun ls hl => ?_)
  refine lv_iload_n hx hb dX0_greatest_26 rfl (lv_at hl 1 rfl) ?_
  rw [← hQ]
  exact W.iret (v := o_4) hx hb hr (fun t ht hW => ⟨_, rfl, Option.some.inj hF, ht⟩) (fun _ h => by cases h) dX0_greatest_27

