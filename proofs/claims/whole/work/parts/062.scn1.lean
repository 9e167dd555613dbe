theorem within_01 {a b c w : Int32} (h : P_X2_within a b c = some w) : w = 0 ∨ w = 1 := by
  unfold P_X2_within at h
  split at h
  · exact Or.inl (Option.some.inj h).symm
  · split at h
    · exact Or.inl (Option.some.inj h).symm
    · exact Or.inr (Option.some.inj h).symm
theorem within_1 {a b c w : Int32} (h : P_X2_within a b c = some w) (h0 : ¬ w = 0) : P_X2_within a b c = some 1 := by
  rcases within_01 h with q | q
  · exact absurd q h0
  · rw [h, q]
theorem within_in {a : Int32} (h : P_X2_within a 0 2 = some 1) : vp_in a 3 := by
  unfold P_X2_within at h
  split at h
  · exact absurd (Option.some.inj h) (by decide)
  · split at h
    · exact absurd (Option.some.inj h) (by decide)
    · rename_i h1 h2
      refine in_k ?_
      rw [Int32.lt_iff_toInt_lt] at h1 h2
      have e0 : (0 : Int32).toInt = 0 := by decide
      have e2 : (2 : Int32).toInt = 2 := by decide
      omega
def rm_X1_layerOf : Room := { frames := 1, cells := 0, slots := 0, locals := 22 }
set_option maxHeartbeats 4000000 in
set_option maxRecDepth 100000 in
theorem c_X1_layerOf_in (l : Launch) (dC : Nat → ClassId) (dI : Nat → Nat → Nat) (h0 lr : Nat) (cL : ClassId) (f : Nat → Option Nat) (a0 : Int32) (la : Nat) (hw : P_X2_within a0 (0 : Int32) (2 : Int32) = some (1 : Int32)) (hf : f a0.toNatClampNeg = some la) : Met l yX1_layerOf wsX1_layerOf rm_X1_layerOf (va_Pc [.ref h0, .int a0] (fun U => va_P (dC, dI) vwCl [(h0, .inr (1, [.ref lr])), (lr, .inl (cL, 3, .inr (.inr (.inr (.inr f)))))] U.heap ∧ va_K (dC, dI) vwCl [(cL, .object RX0)] U ∧ nw U)) (va_Sq (fun r => r = some la)) 0 0 (fun _ => False) := by
  refine Met.ofW (cc := cX1_layerOf) (maxL := 2) (ret := (some (.object "DotCover$Layer"))) (by decide) rfl ?_
  intro p e s m args below meth c s₁ B hml hv
  change W p l e rm_X1_layerOf s m args below meth c s.heap [] 0 0 _ _
  obtain ⟨hv, hP, hK, hN⟩ := hv
  have hx := B.exec
  have hb := B.bytes
  have hr := B.returns
  have hts := atoms_spec (ws := wsX1_layerOf) B.pre
  have hown : s.vm.findClass RX1 = some m.cls := findClass_of_methodNamed B.named
  have hlocks := B.notSynchronized
  have hN_RX1_18 : va_Nw (.methodLinkNest RX1 18 yX2_within "DotCover") s := by
    unfold nw at hN
    simp only [hN]
  have hl := lv_entry ([.ref h0, .int a0]) (n := 2) (Nat.le_of_ble_eq_true rfl)
  have hE : entryFrame m args 2 = F0 m 0 ((lg_sl ([.ref h0, .int a0]) ++ List.replicate (2 - (lg_sl ([.ref h0, .int a0])).length) Slot.unset).toArray) [] := by rw [hv]; exact lg_entry_eq m _ 2
  rw [hE]
  generalize (lg_sl ([.ref h0, .int a0]) ++ List.replicate (2 - (lg_sl ([.ref h0, .int a0])).length) Slot.unset).toArray = ls at hl ⊢
  have hl : lv_has ls 2 [(0, .ref h0), (1, .int a0)] := hl
  refine lv_iload_n hx hb dX1_layerOf_0 rfl (lv_at hl 1 rfl) ?_
  refine lv_iconst (v := 0) hx hb dX1_layerOf_1 (by decide) ?_
  refine lv_iconst (v := 2) hx hb dX1_layerOf_2 (by decide) ?_
  refine vp_callSi (va_runSN (As := [.int a0, .int (0 : Int32), .int (2 : Int32)]) (rest := []) ⟨hx, hb, hml, hown, hts⟩ (c_X2_within l a0 (0 : Int32) (2 : Int32) (1 : Int32) hw) ⟨va_cnB 3 hts gX1_layerOf_X2_within_n18 rfl rfl rfl hN_RX1_18 (hts (.initialized RX2) (by decide +kernel)) (by decide +kernel) ⟨Nat.le_of_ble_eq_true rfl, Nat.le_of_ble_eq_true rfl⟩, hts (.static yX2_within) (by decide +kernel), trivial⟩ preEq rfl rfl hl.1 rfl (lv_room (Nat.le_of_ble_eq_true rfl)) dX1_layerOf_3 ⟨Nat.le_of_ble_eq_true rfl, Nat.le_of_ble_eq_true rfl⟩).run (fun r_1' qr_1 => ?_)
  obtain rfl := qr_1.symm
  refine lv_if_eq (tgt := 18) hx hb dX1_layerOf_6 (by decide) (fun c_2 => ?_) (fun c_2 => ?_)
  · exact absurd c_2 (by decide)
  · refine lv_aload_n hx hb dX1_layerOf_9 rfl (lv_at hl 0 rfl) ?_
    refine va_get (D := (dC, dI)) (ci := 1) (v := .ref lr) (C := RX1) (T := TX1) (N := 1) hx hb hts (by decide +kernel) hown hK hP 0 rfl rfl 0 (by decide) (hts (.fieldLink RX1 11 "DotCover$Scene" "layers" "[LDotCover$Layer;") (by decide +kernel)) (fun _ h9 => h9) rfl dX1_layerOf_10 ?_
    refine lv_iload_n hx hb dX1_layerOf_13 rfl (lv_at hl 1 rfl) ?_
    refine va_aldq hx hb hK hP 1 0 rfl rfl (within_in hw) dX1_layerOf_14 ?_
    rw [hf]
    refine lv_goto (tgt := 19) hx hb dX1_layerOf_15 (by decide) ?_
    exact W.aret (v := .ref la) hx hb hr (Or.inl ⟨_, rfl⟩) (Or.inr ⟨_, rfl⟩) (fun t ht hW => ⟨some la, rfl, rfl, ht⟩) (fun _ h => by cases h) dX1_layerOf_19
set_option maxHeartbeats 4000000 in
set_option maxRecDepth 100000 in
theorem c_X1_layerOf_out (l : Launch) (dC : Nat → ClassId) (dI : Nat → Nat → Nat) (h0 lr : Nat) (cL : ClassId) (f : Nat → Option Nat) (a0 : Int32) (hw : P_X2_within a0 (0 : Int32) (2 : Int32) = some (0 : Int32)) : Met l yX1_layerOf wsX1_layerOf rm_X1_layerOf (va_Pc [.ref h0, .int a0] (fun U => va_P (dC, dI) vwCl [(h0, .inr (1, [.ref lr])), (lr, .inl (cL, 3, .inr (.inr (.inr (.inr f)))))] U.heap ∧ va_K (dC, dI) vwCl [(cL, .object RX0)] U ∧ nw U)) (va_Sq (fun r => r = none)) 0 0 (fun _ => False) := by
  refine Met.ofW (cc := cX1_layerOf) (maxL := 2) (ret := (some (.object "DotCover$Layer"))) (by decide) rfl ?_
  intro p e s m args below meth c s₁ B hml hv
  change W p l e rm_X1_layerOf s m args below meth c s.heap [] 0 0 _ _
  obtain ⟨hv, hP, hK, hN⟩ := hv
  have hx := B.exec
  have hb := B.bytes
  have hr := B.returns
  have hts := atoms_spec (ws := wsX1_layerOf) B.pre
  have hown : s.vm.findClass RX1 = some m.cls := findClass_of_methodNamed B.named
  have hlocks := B.notSynchronized
  have hN_RX1_18 : va_Nw (.methodLinkNest RX1 18 yX2_within "DotCover") s := by
    unfold nw at hN
    simp only [hN]
  have hl := lv_entry ([.ref h0, .int a0]) (n := 2) (Nat.le_of_ble_eq_true rfl)
  have hE : entryFrame m args 2 = F0 m 0 ((lg_sl ([.ref h0, .int a0]) ++ List.replicate (2 - (lg_sl ([.ref h0, .int a0])).length) Slot.unset).toArray) [] := by rw [hv]; exact lg_entry_eq m _ 2
  rw [hE]
  generalize (lg_sl ([.ref h0, .int a0]) ++ List.replicate (2 - (lg_sl ([.ref h0, .int a0])).length) Slot.unset).toArray = ls at hl ⊢
  have hl : lv_has ls 2 [(0, .ref h0), (1, .int a0)] := hl
  refine lv_iload_n hx hb dX1_layerOf_0 rfl (lv_at hl 1 rfl) ?_
  refine lv_iconst (v := 0) hx hb dX1_layerOf_1 (by decide) ?_
  refine lv_iconst (v := 2) hx hb dX1_layerOf_2 (by decide) ?_
  refine vp_callSi (va_runSN (As := [.int a0, .int (0 : Int32), .int (2 : Int32)]) (rest := []) ⟨hx, hb, hml, hown, hts⟩ (c_X2_within l a0 (0 : Int32) (2 : Int32) (0 : Int32) hw) ⟨va_cnB 3 hts gX1_layerOf_X2_within_n18 rfl rfl rfl hN_RX1_18 (hts (.initialized RX2) (by decide +kernel)) (by decide +kernel) ⟨Nat.le_of_ble_eq_true rfl, Nat.le_of_ble_eq_true rfl⟩, hts (.static yX2_within) (by decide +kernel), trivial⟩ preEq rfl rfl hl.1 rfl (lv_room (Nat.le_of_ble_eq_true rfl)) dX1_layerOf_3 ⟨Nat.le_of_ble_eq_true rfl, Nat.le_of_ble_eq_true rfl⟩).run (fun r_1' qr_1 => ?_)
  obtain rfl := qr_1.symm
  refine lv_if_eq (tgt := 18) hx hb dX1_layerOf_6 (by decide) (fun c_2 => ?_) (fun c_2 => ?_)
  · refine lv_null hx hb dX1_layerOf_18 ?_
    exact W.aret (v := .null) hx hb hr (Or.inl ⟨_, rfl⟩) (Or.inl rfl) (fun t ht hW => ⟨none, rfl, rfl, ht⟩) (fun _ h => by cases h) dX1_layerOf_19
  · exact absurd rfl c_2
def P_X1_copyFrom (xs0 : Nat → Int32) (ys0 : Nat → Int32) (xs1 : Nat → Int32) (ys1 : Nat → Int32) (xs2 : Nat → Int32) (ys2 : Nat → Int32) (xs09 : Nat → Int32) (ys09 : Nat → Int32) (sz09 : Int32) (fo09 : Int32) (xs19 : Nat → Int32) (ys19 : Nat → Int32) (sz19 : Int32) (fo19 : Int32) (xs29 : Nat → Int32) (ys29 : Nat → Int32) (sz29 : Int32) (fo29 : Int32) : Option ((Nat → Int32) × (Nat → Int32) × Int32 × Int32 × (Nat → Int32) × (Nat → Int32) × Int32 × Int32 × (Nat → Int32) × (Nat → Int32) × Int32 × Int32) :=
  bd4 (P_X0_copyFrom xs0 ys0 xs09 ys09 sz09 fo09) (fun xs_2 ys_3 sz_4 fo_5 =>
  bd4 (P_X0_copyFrom xs1 ys1 xs19 ys19 sz19 fo19) (fun xs_7 ys_8 sz_9 fo_10 =>
  bd4 (P_X0_copyFrom xs2 ys2 xs29 ys29 sz29 fo29) (fun xs_12 ys_13 sz_14 fo_15 =>
  some (xs_2, ys_3, sz_4, fo_5, xs_7, ys_8, sz_9, fo_10, xs_12, ys_13, sz_14, fo_15))))

def rm_X1_copyFrom : Room := { frames := 1, cells := 0, slots := 0, locals := 22 }

set_option maxHeartbeats 4000000 in
set_option maxRecDepth 100000 in
theorem c_X1_copyFrom (l : Launch) (dC : Nat → ClassId) (dI : Nat → Nat → Nat) (h0 lr la0 xa0 ya0 la1 xa1 ya1 la2 xa2 ya2 s9 lr9 la09 xa09 ya09 la19 xa19 ya19 la29 xa29 ya29 : Nat) (cI cL : ClassId) (hsz0 : Nat) (f : Nat → Option Nat) (xs0 : Nat → Int32) (ys0 : Nat → Int32) (sz0 : Int32) (fo0 : Int32) (xs1 : Nat → Int32) (ys1 : Nat → Int32) (sz1 : Int32) (fo1 : Int32) (xs2 : Nat → Int32) (ys2 : Nat → Int32) (sz2 : Int32) (fo2 : Int32) (f9 : Nat → Option Nat) (xs09 : Nat → Int32) (ys09 : Nat → Int32) (sz09 : Int32) (fo09 : Int32) (xs19 : Nat → Int32) (ys19 : Nat → Int32) (sz19 : Int32) (fo19 : Int32) (xs29 : Nat → Int32) (ys29 : Nat → Int32) (sz29 : Int32) (fo29 : Int32) (xs0N : Nat → Int32) (ys0N : Nat → Int32) (sz0N : Int32) (fo0N : Int32) (xs1N : Nat → Int32) (ys1N : Nat → Int32) (sz1N : Int32) (fo1N : Int32) (xs2N : Nat → Int32) (ys2N : Nat → Int32) (sz2N : Int32) (fo2N : Int32) (hf0 : f 0 = some la0) (hf1 : f 1 = some la1) (hf2 : f 2 = some la2) (hf09 : f9 0 = some la09) (hf19 : f9 1 = some la19) (hf29 : f9 2 = some la29) (hF : P_X1_copyFrom xs0 ys0 xs1 ys1 xs2 ys2 xs09 ys09 sz09 fo09 xs19 ys19 sz19 fo19 xs29 ys29 sz29 fo29 = some (xs0N, ys0N, sz0N, fo0N, xs1N, ys1N, sz1N, fo1N, xs2N, ys2N, sz2N, fo2N)) : Met l yX1_copyFrom wsX1_copyFrom rm_X1_copyFrom (va_Pc [.ref h0, .ref s9] (fun U => U.heap.size = hsz0 ∧ va_P (dC, dI) vwCl [(h0, .inr (1, [.ref lr])), (lr, .inl (cL, 3, .inr (.inr (.inr (.inr f))))), (la0, .inr (0, [.ref xa0, .ref ya0, .int sz0, .int fo0])), (xa0, .inl (cI, 8, .inl xs0)), (ya0, .inl (cI, 8, .inl ys0)), (la1, .inr (0, [.ref xa1, .ref ya1, .int sz1, .int fo1])), (xa1, .inl (cI, 8, .inl xs1)), (ya1, .inl (cI, 8, .inl ys1)), (la2, .inr (0, [.ref xa2, .ref ya2, .int sz2, .int fo2])), (xa2, .inl (cI, 8, .inl xs2)), (ya2, .inl (cI, 8, .inl ys2)), (s9, .inr (1, [.ref lr9])), (lr9, .inl (cL, 3, .inr (.inr (.inr (.inr f9))))), (la09, .inr (0, [.ref xa09, .ref ya09, .int sz09, .int fo09])), (xa09, .inl (cI, 8, .inl xs09)), (ya09, .inl (cI, 8, .inl ys09)), (la19, .inr (0, [.ref xa19, .ref ya19, .int sz19, .int fo19])), (xa19, .inl (cI, 8, .inl xs19)), (ya19, .inl (cI, 8, .inl ys19)), (la29, .inr (0, [.ref xa29, .ref ya29, .int sz29, .int fo29])), (xa29, .inl (cI, 8, .inl xs29)), (ya29, .inl (cI, 8, .inl ys29))] U.heap ∧ va_K (dC, dI) vwCl [(cI, .int), (cL, .object RX0)] U ∧ va_D (fun _ => True) [(h0, .inr (1, [.ref lr])), (lr, .inl (cL, 3, .inr (.inr (.inr (.inr f))))), (la0, .inr (0, [.ref xa0, .ref ya0, .int sz0, .int fo0])), (xa0, .inl (cI, 8, .inl xs0)), (ya0, .inl (cI, 8, .inl ys0)), (la1, .inr (0, [.ref xa1, .ref ya1, .int sz1, .int fo1])), (xa1, .inl (cI, 8, .inl xs1)), (ya1, .inl (cI, 8, .inl ys1)), (la2, .inr (0, [.ref xa2, .ref ya2, .int sz2, .int fo2])), (xa2, .inl (cI, 8, .inl xs2)), (ya2, .inl (cI, 8, .inl ys2)), (s9, .inr (1, [.ref lr9])), (lr9, .inl (cL, 3, .inr (.inr (.inr (.inr f9))))), (la09, .inr (0, [.ref xa09, .ref ya09, .int sz09, .int fo09])), (xa09, .inl (cI, 8, .inl xs09)), (ya09, .inl (cI, 8, .inl ys09)), (la19, .inr (0, [.ref xa19, .ref ya19, .int sz19, .int fo19])), (xa19, .inl (cI, 8, .inl xs19)), (ya19, .inl (cI, 8, .inl ys19)), (la29, .inr (0, [.ref xa29, .ref ya29, .int sz29, .int fo29])), (xa29, .inl (cI, 8, .inl xs29)), (ya29, .inl (cI, 8, .inl ys29))])) (va_Qv (fun (_ : Unit) => True) (fun _ t => va_P (dC, dI) vwCl [(h0, .inr (1, [.ref lr])), (lr, .inl (cL, 3, .inr (.inr (.inr (.inr f))))), (la0, .inr (0, [.ref xa0, .ref ya0, .int sz0N, .int fo0N])), (xa0, .inl (cI, 8, .inl xs0N)), (ya0, .inl (cI, 8, .inl ys0N)), (la1, .inr (0, [.ref xa1, .ref ya1, .int sz1N, .int fo1N])), (xa1, .inl (cI, 8, .inl xs1N)), (ya1, .inl (cI, 8, .inl ys1N)), (la2, .inr (0, [.ref xa2, .ref ya2, .int sz2N, .int fo2N])), (xa2, .inl (cI, 8, .inl xs2N)), (ya2, .inl (cI, 8, .inl ys2N)), (s9, .inr (1, [.ref lr9])), (lr9, .inl (cL, 3, .inr (.inr (.inr (.inr f9))))), (la09, .inr (0, [.ref xa09, .ref ya09, .int sz09, .int fo09])), (xa09, .inl (cI, 8, .inl xs09)), (ya09, .inl (cI, 8, .inl ys09)), (la19, .inr (0, [.ref xa19, .ref ya19, .int sz19, .int fo19])), (xa19, .inl (cI, 8, .inl xs19)), (ya19, .inl (cI, 8, .inl ys19)), (la29, .inr (0, [.ref xa29, .ref ya29, .int sz29, .int fo29])), (xa29, .inl (cI, 8, .inl xs29)), (ya29, .inl (cI, 8, .inl ys29))] t.heap ∧ va_K (dC, dI) vwCl [(cI, .int), (cL, .object RX0)] t ∧ va_D (va_A [(h0, .inr (1, [.ref lr])), (lr, .inl (cL, 3, .inr (.inr (.inr (.inr f))))), (la0, .inr (0, [.ref xa0, .ref ya0, .int sz0, .int fo0])), (xa0, .inl (cI, 8, .inl xs0)), (ya0, .inl (cI, 8, .inl ys0)), (la1, .inr (0, [.ref xa1, .ref ya1, .int sz1, .int fo1])), (xa1, .inl (cI, 8, .inl xs1)), (ya1, .inl (cI, 8, .inl ys1)), (la2, .inr (0, [.ref xa2, .ref ya2, .int sz2, .int fo2])), (xa2, .inl (cI, 8, .inl xs2)), (ya2, .inl (cI, 8, .inl ys2)), (s9, .inr (1, [.ref lr9])), (lr9, .inl (cL, 3, .inr (.inr (.inr (.inr f9))))), (la09, .inr (0, [.ref xa09, .ref ya09, .int sz09, .int fo09])), (xa09, .inl (cI, 8, .inl xs09)), (ya09, .inl (cI, 8, .inl ys09)), (la19, .inr (0, [.ref xa19, .ref ya19, .int sz19, .int fo19])), (xa19, .inl (cI, 8, .inl xs19)), (ya19, .inl (cI, 8, .inl ys19)), (la29, .inr (0, [.ref xa29, .ref ya29, .int sz29, .int fo29])), (xa29, .inl (cI, 8, .inl xs29)), (ya29, .inl (cI, 8, .inl ys29))] hsz0) [(h0, .inr (1, [.ref lr])), (lr, .inl (cL, 3, .inr (.inr (.inr (.inr f))))), (la0, .inr (0, [.ref xa0, .ref ya0, .int sz0N, .int fo0N])), (xa0, .inl (cI, 8, .inl xs0N)), (ya0, .inl (cI, 8, .inl ys0N)), (la1, .inr (0, [.ref xa1, .ref ya1, .int sz1N, .int fo1N])), (xa1, .inl (cI, 8, .inl xs1N)), (ya1, .inl (cI, 8, .inl ys1N)), (la2, .inr (0, [.ref xa2, .ref ya2, .int sz2N, .int fo2N])), (xa2, .inl (cI, 8, .inl xs2N)), (ya2, .inl (cI, 8, .inl ys2N)), (s9, .inr (1, [.ref lr9])), (lr9, .inl (cL, 3, .inr (.inr (.inr (.inr f9))))), (la09, .inr (0, [.ref xa09, .ref ya09, .int sz09, .int fo09])), (xa09, .inl (cI, 8, .inl xs09)), (ya09, .inl (cI, 8, .inl ys09)), (la19, .inr (0, [.ref xa19, .ref ya19, .int sz19, .int fo19])), (xa19, .inl (cI, 8, .inl xs19)), (ya19, .inl (cI, 8, .inl ys19)), (la29, .inr (0, [.ref xa29, .ref ya29, .int sz29, .int fo29])), (xa29, .inl (cI, 8, .inl xs29)), (ya29, .inl (cI, 8, .inl ys29))]) (va_A [(h0, .inr (1, [.ref lr])), (lr, .inl (cL, 3, .inr (.inr (.inr (.inr f))))), (la0, .inr (0, [.ref xa0, .ref ya0, .int sz0, .int fo0])), (xa0, .inl (cI, 8, .inl xs0)), (ya0, .inl (cI, 8, .inl ys0)), (la1, .inr (0, [.ref xa1, .ref ya1, .int sz1, .int fo1])), (xa1, .inl (cI, 8, .inl xs1)), (ya1, .inl (cI, 8, .inl ys1)), (la2, .inr (0, [.ref xa2, .ref ya2, .int sz2, .int fo2])), (xa2, .inl (cI, 8, .inl xs2)), (ya2, .inl (cI, 8, .inl ys2)), (s9, .inr (1, [.ref lr9])), (lr9, .inl (cL, 3, .inr (.inr (.inr (.inr f9))))), (la09, .inr (0, [.ref xa09, .ref ya09, .int sz09, .int fo09])), (xa09, .inl (cI, 8, .inl xs09)), (ya09, .inl (cI, 8, .inl ys09)), (la19, .inr (0, [.ref xa19, .ref ya19, .int sz19, .int fo19])), (xa19, .inl (cI, 8, .inl xs19)), (ya19, .inl (cI, 8, .inl ys19)), (la29, .inr (0, [.ref xa29, .ref ya29, .int sz29, .int fo29])), (xa29, .inl (cI, 8, .inl xs29)), (ya29, .inl (cI, 8, .inl ys29))] hsz0)) 0 0 (va_A [(h0, .inr (1, [.ref lr])), (lr, .inl (cL, 3, .inr (.inr (.inr (.inr f))))), (la0, .inr (0, [.ref xa0, .ref ya0, .int sz0, .int fo0])), (xa0, .inl (cI, 8, .inl xs0)), (ya0, .inl (cI, 8, .inl ys0)), (la1, .inr (0, [.ref xa1, .ref ya1, .int sz1, .int fo1])), (xa1, .inl (cI, 8, .inl xs1)), (ya1, .inl (cI, 8, .inl ys1)), (la2, .inr (0, [.ref xa2, .ref ya2, .int sz2, .int fo2])), (xa2, .inl (cI, 8, .inl xs2)), (ya2, .inl (cI, 8, .inl ys2)), (s9, .inr (1, [.ref lr9])), (lr9, .inl (cL, 3, .inr (.inr (.inr (.inr f9))))), (la09, .inr (0, [.ref xa09, .ref ya09, .int sz09, .int fo09])), (xa09, .inl (cI, 8, .inl xs09)), (ya09, .inl (cI, 8, .inl ys09)), (la19, .inr (0, [.ref xa19, .ref ya19, .int sz19, .int fo19])), (xa19, .inl (cI, 8, .inl xs19)), (ya19, .inl (cI, 8, .inl ys19)), (la29, .inr (0, [.ref xa29, .ref ya29, .int sz29, .int fo29])), (xa29, .inl (cI, 8, .inl xs29)), (ya29, .inl (cI, 8, .inl ys29))] hsz0) := by
  refine Met.ofW (cc := cX1_copyFrom) (maxL := 3) (ret := none) (by decide) rfl ?_
  intro p e s m args below meth c s₁ B hml hv
  change W p l e rm_X1_copyFrom s m args below meth c s.heap [] 0 0 _ _
  obtain ⟨hv, hsz, hP, hK, hD0⟩ := hv
  have hx := B.exec
  have hb := B.bytes
  have hr := B.returns
  have hts := atoms_spec (ws := wsX1_copyFrom) B.pre
  have hown : s.vm.findClass RX1 = some m.cls := findClass_of_methodNamed B.named
  have hlocks := B.notSynchronized
  subst hsz
  have hD := hD0.self (sz := s.heap.size)
  generalize hAe : va_A [(h0, .inr (1, [.ref lr])), (lr, .inl (cL, 3, .inr (.inr (.inr (.inr f))))), (la0, .inr (0, [.ref xa0, .ref ya0, .int sz0, .int fo0])), (xa0, .inl (cI, 8, .inl xs0)), (ya0, .inl (cI, 8, .inl ys0)), (la1, .inr (0, [.ref xa1, .ref ya1, .int sz1, .int fo1])), (xa1, .inl (cI, 8, .inl xs1)), (ya1, .inl (cI, 8, .inl ys1)), (la2, .inr (0, [.ref xa2, .ref ya2, .int sz2, .int fo2])), (xa2, .inl (cI, 8, .inl xs2)), (ya2, .inl (cI, 8, .inl ys2)), (s9, .inr (1, [.ref lr9])), (lr9, .inl (cL, 3, .inr (.inr (.inr (.inr f9))))), (la09, .inr (0, [.ref xa09, .ref ya09, .int sz09, .int fo09])), (xa09, .inl (cI, 8, .inl xs09)), (ya09, .inl (cI, 8, .inl ys09)), (la19, .inr (0, [.ref xa19, .ref ya19, .int sz19, .int fo19])), (xa19, .inl (cI, 8, .inl xs19)), (ya19, .inl (cI, 8, .inl ys19)), (la29, .inr (0, [.ref xa29, .ref ya29, .int sz29, .int fo29])), (xa29, .inl (cI, 8, .inl xs29)), (ya29, .inl (cI, 8, .inl ys29))] s.heap.size = A at hD ⊢
  have hA : ∀ q : Nat, s.heap.size ≤ q → A q := fun q h => by rw [← hAe]; exact Or.inr h
  have hS : va_S A s.heap s.heap [] := va_S.rf
  generalize hQ : MQ below (va_Qv (fun (_ : Unit) => True) (fun _ t => va_P (dC, dI) vwCl [(h0, .inr (1, [.ref lr])), (lr, .inl (cL, 3, .inr (.inr (.inr (.inr f))))), (la0, .inr (0, [.ref xa0, .ref ya0, .int sz0N, .int fo0N])), (xa0, .inl (cI, 8, .inl xs0N)), (ya0, .inl (cI, 8, .inl ys0N)), (la1, .inr (0, [.ref xa1, .ref ya1, .int sz1N, .int fo1N])), (xa1, .inl (cI, 8, .inl xs1N)), (ya1, .inl (cI, 8, .inl ys1N)), (la2, .inr (0, [.ref xa2, .ref ya2, .int sz2N, .int fo2N])), (xa2, .inl (cI, 8, .inl xs2N)), (ya2, .inl (cI, 8, .inl ys2N)), (s9, .inr (1, [.ref lr9])), (lr9, .inl (cL, 3, .inr (.inr (.inr (.inr f9))))), (la09, .inr (0, [.ref xa09, .ref ya09, .int sz09, .int fo09])), (xa09, .inl (cI, 8, .inl xs09)), (ya09, .inl (cI, 8, .inl ys09)), (la19, .inr (0, [.ref xa19, .ref ya19, .int sz19, .int fo19])), (xa19, .inl (cI, 8, .inl xs19)), (ya19, .inl (cI, 8, .inl ys19)), (la29, .inr (0, [.ref xa29, .ref ya29, .int sz29, .int fo29])), (xa29, .inl (cI, 8, .inl xs29)), (ya29, .inl (cI, 8, .inl ys29))] t.heap ∧ va_K (dC, dI) vwCl [(cI, .int), (cL, .object RX0)] t ∧ va_D A [(h0, .inr (1, [.ref lr])), (lr, .inl (cL, 3, .inr (.inr (.inr (.inr f))))), (la0, .inr (0, [.ref xa0, .ref ya0, .int sz0N, .int fo0N])), (xa0, .inl (cI, 8, .inl xs0N)), (ya0, .inl (cI, 8, .inl ys0N)), (la1, .inr (0, [.ref xa1, .ref ya1, .int sz1N, .int fo1N])), (xa1, .inl (cI, 8, .inl xs1N)), (ya1, .inl (cI, 8, .inl ys1N)), (la2, .inr (0, [.ref xa2, .ref ya2, .int sz2N, .int fo2N])), (xa2, .inl (cI, 8, .inl xs2N)), (ya2, .inl (cI, 8, .inl ys2N)), (s9, .inr (1, [.ref lr9])), (lr9, .inl (cL, 3, .inr (.inr (.inr (.inr f9))))), (la09, .inr (0, [.ref xa09, .ref ya09, .int sz09, .int fo09])), (xa09, .inl (cI, 8, .inl xs09)), (ya09, .inl (cI, 8, .inl ys09)), (la19, .inr (0, [.ref xa19, .ref ya19, .int sz19, .int fo19])), (xa19, .inl (cI, 8, .inl xs19)), (ya19, .inl (cI, 8, .inl ys19)), (la29, .inr (0, [.ref xa29, .ref ya29, .int sz29, .int fo29])), (xa29, .inl (cI, 8, .inl xs29)), (ya29, .inl (cI, 8, .inl ys29))]) A) args s 0 0 A = Q
  have hl := lv_entry ([.ref h0, .ref s9]) (n := 3) (Nat.le_of_ble_eq_true rfl)
  have hE : entryFrame m args 3 = F0 m 0 ((lg_sl ([.ref h0, .ref s9]) ++ List.replicate (3 - (lg_sl ([.ref h0, .ref s9])).length) Slot.unset).toArray) [] := by rw [hv]; exact lg_entry_eq m _ 3
  rw [hE]
  generalize (lg_sl ([.ref h0, .ref s9]) ++ List.replicate (3 - (lg_sl ([.ref h0, .ref s9])).length) Slot.unset).toArray = ls at hl ⊢
  have hl : lv_has ls 3 [(0, .ref h0), (1, .ref s9)] := hl
  unfold P_X1_copyFrom at hF
  refine lv_iconst (v := 0) hx hb dX1_copyFrom_0 (by decide) ?_
  refine lv_istore_n (lv' := [(2, .int (0 : Int32)), (0, .ref h0), (1, .ref s9)]) hx hb dX1_copyFrom_1 rfl hl (by decide) rfl (fun ls hl => ?_)
  refine lv_iload_n hx hb dX1_copyFrom_2 rfl (lv_at hl 0 rfl) ?_
  refine lv_iconst (v := 3) hx hb dX1_copyFrom_3 (by decide) ?_
  refine lv_icmp_ge (tgt := 28) hx hb dX1_copyFrom_4 (by decide) (fun c_1 => absurd c_1 (by decide)) (fun c_1 => ?_)
  refine lv_aload_n hx hb dX1_copyFrom_7 rfl (lv_at hl 1 rfl) ?_
  refine va_get (D := (dC, dI)) (ci := 1) (v := .ref lr) (C := RX1) (T := TX1) (N := 1) hx hb hts (by decide +kernel) hown hK hP 0 rfl rfl 0 (by decide) (hts (.fieldLink RX1 11 "DotCover$Scene" "layers" "[LDotCover$Layer;") (by decide +kernel)) (fun _ h9 => h9) rfl dX1_copyFrom_8 ?_
  refine lv_iload_n hx hb dX1_copyFrom_11 rfl (lv_at hl 0 rfl) ?_
  refine va_aldq hx hb hK hP 1 1 rfl rfl (in_k (by decide)) dX1_copyFrom_12 ?_
  rw [show f ((0 : Int32)).toNatClampNeg = some la0 from hf0]
  refine lv_aload_n hx hb dX1_copyFrom_13 rfl (lv_at hl 2 rfl) ?_
  refine va_get (D := (dC, dI)) (ci := 1) (v := .ref lr9) (C := RX1) (T := TX1) (N := 1) hx hb hts (by decide +kernel) hown hK hP 11 rfl rfl 0 (by decide) (hts (.fieldLink RX1 11 "DotCover$Scene" "layers" "[LDotCover$Layer;") (by decide +kernel)) (fun _ h9 => h9) rfl dX1_copyFrom_14 ?_
  refine lv_iload_n hx hb dX1_copyFrom_17 rfl (lv_at hl 0 rfl) ?_
  refine va_aldq hx hb hK hP 12 1 rfl rfl (in_k (by decide)) dX1_copyFrom_18 ?_
  rw [show f9 ((0 : Int32)).toNatClampNeg = some la09 from hf09]
  obtain ⟨xs_2, ys_3, sz_4, fo_5, hr_5, hF⟩ := bd4_u hF
  have hPc := hP.sub (ws' := [(la0, .inr (0, [.ref xa0, .ref ya0, .int sz0, .int fo0])), (xa0, .inl (cI, 8, .inl xs0)), (ya0, .inl (cI, 8, .inl ys0)), (la09, .inr (0, [.ref xa09, .ref ya09, .int sz09, .int fo09])), (xa09, .inl (cI, 8, .inl xs09)), (ya09, .inl (cI, 8, .inl ys09))]) [2, 3, 4, 13, 14, 15] rfl
  have hKc := hK.sub (tys' := [(cI, .int)]) [0] rfl
  have hDc := hD.sub (ws' := [(la0, .inr (0, [.ref xa0, .ref ya0, .int sz0, .int fo0])), (xa0, .inl (cI, 8, .inl xs0)), (ya0, .inl (cI, 8, .inl ys0)), (la09, .inr (0, [.ref xa09, .ref ya09, .int sz09, .int fo09])), (xa09, .inl (cI, 8, .inl xs09)), (ya09, .inl (cI, 8, .inl ys09))]) [2, 3, 4, 13, 14, 15] (by decide) rfl
  have hFc := va_free (wc := [(la0, .inr (0, [.ref xa0, .ref ya0, .int sz0, .int fo0])), (xa0, .inl (cI, 8, .inl xs0)), (ya0, .inl (cI, 8, .inl ys0)), (la09, .inr (0, [.ref xa09, .ref ya09, .int sz09, .int fo09])), (xa09, .inl (cI, 8, .inl xs09)), (ya09, .inl (cI, 8, .inl ys09))]) hD hS hA [2, 3, 4, 13, 14, 15] rfl
  refine va_callv (va_runV (As := [.ref la09]) (rest := []) ⟨hx, hb, hml, hown, hts⟩ (c_X0_copyFrom l dC dI la0 xa0 ya0 la09 xa09 ya09 cI s.heap.size xs0 ys0 sz0 fo0 xs09 ys09 sz09 fo09 xs_2 ys_3 sz_4 fo_5 hr_5) (cwV 1 hts gX1_copyFrom_X0_copyFrom rfl rfl rfl (by decide +kernel) ⟨Nat.le_of_ble_eq_true rfl, Nat.le_of_ble_eq_true rfl⟩) ⟨fun a U g mk q => ⟨q.1, q.2.1, q.2.2.1, va_K.moved (u := U) (U := U.calling g mk a) (Vm.Alike.refl U.vm) q.2.2.2.1, q.2.2.2.2⟩, va_recv hKc hPc (ci := 0) (q0 := 0) rfl rfl, fun U hU hW => ⟨rfl, by rw [hU], by rw [hU]; exact hPc, va_K.moved hW.alike hKc, hDc.weaken (fun _ _ _ _ => trivial)⟩⟩ rfl rfl hl.1 rfl (lv_room (Nat.le_of_ble_eq_true rfl)) dX1_copyFrom_19 ⟨Nat.le_of_ble_eq_true rfl, Nat.le_of_ble_eq_true rfl⟩) hS (fun q _ h => hFc q h) hFc (fun _ t H1 locs ht hvm hw hB hz1 hk1 hS => ?_)
  obtain ⟨hP1, hK1, hD1⟩ := hB
  rw [ht] at hP1
  obtain ⟨hP, hD⟩ := va_join (wr := [(h0, .inr (1, [.ref lr])), (lr, .inl (cL, 3, .inr (.inr (.inr (.inr f))))), (la1, .inr (0, [.ref xa1, .ref ya1, .int sz1, .int fo1])), (xa1, .inl (cI, 8, .inl xs1)), (ya1, .inl (cI, 8, .inl ys1)), (la2, .inr (0, [.ref xa2, .ref ya2, .int sz2, .int fo2])), (xa2, .inl (cI, 8, .inl xs2)), (ya2, .inl (cI, 8, .inl ys2)), (s9, .inr (1, [.ref lr9])), (lr9, .inl (cL, 3, .inr (.inr (.inr (.inr f9))))), (la19, .inr (0, [.ref xa19, .ref ya19, .int sz19, .int fo19])), (xa19, .inl (cI, 8, .inl xs19)), (ya19, .inl (cI, 8, .inl ys19)), (la29, .inr (0, [.ref xa29, .ref ya29, .int sz29, .int fo29])), (xa29, .inl (cI, 8, .inl xs29)), (ya29, .inl (cI, 8, .inl ys29))]) (w1 := [(la0, .inr (0, [.ref xa0, .ref ya0, .int sz_4, .int fo_5])), (xa0, .inl (cI, 8, .inl xs_2)), (ya0, .inl (cI, 8, .inl ys_3)), (la09, .inr (0, [.ref xa09, .ref ya09, .int sz09, .int fo09])), (xa09, .inl (cI, 8, .inl xs09)), (ya09, .inl (cI, 8, .inl ys09))]) hP hD [2, 3, 4, 13, 14, 15] [0, 1, 5, 6, 7, 8, 9, 10, 11, 12, 16, 17, 18, 19, 20, 21] rfl rfl (by decide) (by decide) hk1 hFc hP1 hD1
  clear hP1 hK1 hD1 hk1 hFc
  generalize H1 = H at hP hS ⊢
  have hP : va_P (dC, dI) vwCl [(h0, .inr (1, [.ref lr])), (lr, .inl (cL, 3, .inr (.inr (.inr (.inr f))))), (la1, .inr (0, [.ref xa1, .ref ya1, .int sz1, .int fo1])), (xa1, .inl (cI, 8, .inl xs1)), (ya1, .inl (cI, 8, .inl ys1)), (la2, .inr (0, [.ref xa2, .ref ya2, .int sz2, .int fo2])), (xa2, .inl (cI, 8, .inl xs2)), (ya2, .inl (cI, 8, .inl ys2)), (s9, .inr (1, [.ref lr9])), (lr9, .inl (cL, 3, .inr (.inr (.inr (.inr f9))))), (la19, .inr (0, [.ref xa19, .ref ya19, .int sz19, .int fo19])), (xa19, .inl (cI, 8, .inl xs19)), (ya19, .inl (cI, 8, .inl ys19)), (la29, .inr (0, [.ref xa29, .ref ya29, .int sz29, .int fo29])), (xa29, .inl (cI, 8, .inl xs29)), (ya29, .inl (cI, 8, .inl ys29)), (la0, .inr (0, [.ref xa0, .ref ya0, .int sz_4, .int fo_5])), (xa0, .inl (cI, 8, .inl xs_2)), (ya0, .inl (cI, 8, .inl ys_3)), (la09, .inr (0, [.ref xa09, .ref ya09, .int sz09, .int fo09])), (xa09, .inl (cI, 8, .inl xs09)), (ya09, .inl (cI, 8, .inl ys09))] H := hP
  have hD : va_D A [(h0, .inr (1, [.ref lr])), (lr, .inl (cL, 3, .inr (.inr (.inr (.inr f))))), (la1, .inr (0, [.ref xa1, .ref ya1, .int sz1, .int fo1])), (xa1, .inl (cI, 8, .inl xs1)), (ya1, .inl (cI, 8, .inl ys1)), (la2, .inr (0, [.ref xa2, .ref ya2, .int sz2, .int fo2])), (xa2, .inl (cI, 8, .inl xs2)), (ya2, .inl (cI, 8, .inl ys2)), (s9, .inr (1, [.ref lr9])), (lr9, .inl (cL, 3, .inr (.inr (.inr (.inr f9))))), (la19, .inr (0, [.ref xa19, .ref ya19, .int sz19, .int fo19])), (xa19, .inl (cI, 8, .inl xs19)), (ya19, .inl (cI, 8, .inl ys19)), (la29, .inr (0, [.ref xa29, .ref ya29, .int sz29, .int fo29])), (xa29, .inl (cI, 8, .inl xs29)), (ya29, .inl (cI, 8, .inl ys29)), (la0, .inr (0, [.ref xa0, .ref ya0, .int sz_4, .int fo_5])), (xa0, .inl (cI, 8, .inl xs_2)), (ya0, .inl (cI, 8, .inl ys_3)), (la09, .inr (0, [.ref xa09, .ref ya09, .int sz09, .int fo09])), (xa09, .inl (cI, 8, .inl xs09)), (ya09, .inl (cI, 8, .inl ys09))] := hD
  refine lv_iinc (v := (1 : Int32)) (lv' := [(2, .int (1 : Int32)), (0, .ref h0), (1, .ref s9)]) hx hb dX1_copyFrom_22 hl (k := 0) rfl (by decide) (by decide) rfl (fun ls hl => ?_)
  refine lv_goto (tgt := 2) hx hb dX1_copyFrom_25 (by decide) ?_
  refine lv_iload_n hx hb dX1_copyFrom_2 rfl (lv_at hl 0 rfl) ?_
  refine lv_iconst (v := 3) hx hb dX1_copyFrom_3 (by decide) ?_
  refine lv_icmp_ge (tgt := 28) hx hb dX1_copyFrom_4 (by decide) (fun c_6 => absurd c_6 (by decide)) (fun c_6 => ?_)
  refine lv_aload_n hx hb dX1_copyFrom_7 rfl (lv_at hl 1 rfl) ?_
  refine va_get (D := (dC, dI)) (ci := 1) (v := .ref lr) (C := RX1) (T := TX1) (N := 1) hx hb hts (by decide +kernel) hown hK hP 0 rfl rfl 0 (by decide) (hts (.fieldLink RX1 11 "DotCover$Scene" "layers" "[LDotCover$Layer;") (by decide +kernel)) (fun _ h9 => h9) rfl dX1_copyFrom_8 ?_
  refine lv_iload_n hx hb dX1_copyFrom_11 rfl (lv_at hl 0 rfl) ?_
  refine va_aldq hx hb hK hP 1 1 rfl rfl (in_k (by decide)) dX1_copyFrom_12 ?_
  rw [show f ((1 : Int32)).toNatClampNeg = some la1 from hf1]
  refine lv_aload_n hx hb dX1_copyFrom_13 rfl (lv_at hl 2 rfl) ?_
  refine va_get (D := (dC, dI)) (ci := 1) (v := .ref lr9) (C := RX1) (T := TX1) (N := 1) hx hb hts (by decide +kernel) hown hK hP 8 rfl rfl 0 (by decide) (hts (.fieldLink RX1 11 "DotCover$Scene" "layers" "[LDotCover$Layer;") (by decide +kernel)) (fun _ h9 => h9) rfl dX1_copyFrom_14 ?_
  refine lv_iload_n hx hb dX1_copyFrom_17 rfl (lv_at hl 0 rfl) ?_
  refine va_aldq hx hb hK hP 9 1 rfl rfl (in_k (by decide)) dX1_copyFrom_18 ?_
  rw [show f9 ((1 : Int32)).toNatClampNeg = some la19 from hf19]
  obtain ⟨xs_7, ys_8, sz_9, fo_10, hr_10, hF⟩ := bd4_u hF
  have hPc := hP.sub (ws' := [(la1, .inr (0, [.ref xa1, .ref ya1, .int sz1, .int fo1])), (xa1, .inl (cI, 8, .inl xs1)), (ya1, .inl (cI, 8, .inl ys1)), (la19, .inr (0, [.ref xa19, .ref ya19, .int sz19, .int fo19])), (xa19, .inl (cI, 8, .inl xs19)), (ya19, .inl (cI, 8, .inl ys19))]) [2, 3, 4, 10, 11, 12] rfl
  have hKc := hK.sub (tys' := [(cI, .int)]) [0] rfl
  have hDc := hD.sub (ws' := [(la1, .inr (0, [.ref xa1, .ref ya1, .int sz1, .int fo1])), (xa1, .inl (cI, 8, .inl xs1)), (ya1, .inl (cI, 8, .inl ys1)), (la19, .inr (0, [.ref xa19, .ref ya19, .int sz19, .int fo19])), (xa19, .inl (cI, 8, .inl xs19)), (ya19, .inl (cI, 8, .inl ys19))]) [2, 3, 4, 10, 11, 12] (by decide) rfl
  have hFc := va_free (wc := [(la1, .inr (0, [.ref xa1, .ref ya1, .int sz1, .int fo1])), (xa1, .inl (cI, 8, .inl xs1)), (ya1, .inl (cI, 8, .inl ys1)), (la19, .inr (0, [.ref xa19, .ref ya19, .int sz19, .int fo19])), (xa19, .inl (cI, 8, .inl xs19)), (ya19, .inl (cI, 8, .inl ys19))]) hD hS hA [2, 3, 4, 10, 11, 12] rfl
  refine va_callv (va_runV (As := [.ref la19]) (rest := []) ⟨hx, hb, hml, hown, hts⟩ (c_X0_copyFrom l dC dI la1 xa1 ya1 la19 xa19 ya19 cI H.size xs1 ys1 sz1 fo1 xs19 ys19 sz19 fo19 xs_7 ys_8 sz_9 fo_10 hr_10) (cwV 1 hts gX1_copyFrom_X0_copyFrom rfl rfl rfl (by decide +kernel) ⟨Nat.le_of_ble_eq_true rfl, Nat.le_of_ble_eq_true rfl⟩) ⟨fun a U g mk q => ⟨q.1, q.2.1, q.2.2.1, va_K.moved (u := U) (U := U.calling g mk a) (Vm.Alike.refl U.vm) q.2.2.2.1, q.2.2.2.2⟩, va_recv hKc hPc (ci := 0) (q0 := 0) rfl rfl, fun U hU hW => ⟨rfl, by rw [hU], by rw [hU]; exact hPc, va_K.moved hW.alike hKc, hDc.weaken (fun _ _ _ _ => trivial)⟩⟩ rfl rfl hl.1 rfl (lv_room (Nat.le_of_ble_eq_true rfl)) dX1_copyFrom_19 ⟨Nat.le_of_ble_eq_true rfl, Nat.le_of_ble_eq_true rfl⟩) hS (fun q _ h => hFc q h) hFc (fun _ t H1 locs ht hvm hw hB hz1 hk1 hS => ?_)
  obtain ⟨hP1, hK1, hD1⟩ := hB
  rw [ht] at hP1
  obtain ⟨hP, hD⟩ := va_join (wr := [(h0, .inr (1, [.ref lr])), (lr, .inl (cL, 3, .inr (.inr (.inr (.inr f))))), (la2, .inr (0, [.ref xa2, .ref ya2, .int sz2, .int fo2])), (xa2, .inl (cI, 8, .inl xs2)), (ya2, .inl (cI, 8, .inl ys2)), (s9, .inr (1, [.ref lr9])), (lr9, .inl (cL, 3, .inr (.inr (.inr (.inr f9))))), (la29, .inr (0, [.ref xa29, .ref ya29, .int sz29, .int fo29])), (xa29, .inl (cI, 8, .inl xs29)), (ya29, .inl (cI, 8, .inl ys29)), (la0, .inr (0, [.ref xa0, .ref ya0, .int sz_4, .int fo_5])), (xa0, .inl (cI, 8, .inl xs_2)), (ya0, .inl (cI, 8, .inl ys_3)), (la09, .inr (0, [.ref xa09, .ref ya09, .int sz09, .int fo09])), (xa09, .inl (cI, 8, .inl xs09)), (ya09, .inl (cI, 8, .inl ys09))]) (w1 := [(la1, .inr (0, [.ref xa1, .ref ya1, .int sz_9, .int fo_10])), (xa1, .inl (cI, 8, .inl xs_7)), (ya1, .inl (cI, 8, .inl ys_8)), (la19, .inr (0, [.ref xa19, .ref ya19, .int sz19, .int fo19])), (xa19, .inl (cI, 8, .inl xs19)), (ya19, .inl (cI, 8, .inl ys19))]) hP hD [2, 3, 4, 10, 11, 12] [0, 1, 5, 6, 7, 8, 9, 13, 14, 15, 16, 17, 18, 19, 20, 21] rfl rfl (by decide) (by decide) hk1 hFc hP1 hD1
  clear hP1 hK1 hD1 hk1 hFc
  generalize H1 = H at hP hS ⊢
  have hP : va_P (dC, dI) vwCl [(h0, .inr (1, [.ref lr])), (lr, .inl (cL, 3, .inr (.inr (.inr (.inr f))))), (la2, .inr (0, [.ref xa2, .ref ya2, .int sz2, .int fo2])), (xa2, .inl (cI, 8, .inl xs2)), (ya2, .inl (cI, 8, .inl ys2)), (s9, .inr (1, [.ref lr9])), (lr9, .inl (cL, 3, .inr (.inr (.inr (.inr f9))))), (la29, .inr (0, [.ref xa29, .ref ya29, .int sz29, .int fo29])), (xa29, .inl (cI, 8, .inl xs29)), (ya29, .inl (cI, 8, .inl ys29)), (la0, .inr (0, [.ref xa0, .ref ya0, .int sz_4, .int fo_5])), (xa0, .inl (cI, 8, .inl xs_2)), (ya0, .inl (cI, 8, .inl ys_3)), (la09, .inr (0, [.ref xa09, .ref ya09, .int sz09, .int fo09])), (xa09, .inl (cI, 8, .inl xs09)), (ya09, .inl (cI, 8, .inl ys09)), (la1, .inr (0, [.ref xa1, .ref ya1, .int sz_9, .int fo_10])), (xa1, .inl (cI, 8, .inl xs_7)), (ya1, .inl (cI, 8, .inl ys_8)), (la19, .inr (0, [.ref xa19, .ref ya19, .int sz19, .int fo19])), (xa19, .inl (cI, 8, .inl xs19)), (ya19, .inl (cI, 8, .inl ys19))] H := hP
  have hD : va_D A [(h0, .inr (1, [.ref lr])), (lr, .inl (cL, 3, .inr (.inr (.inr (.inr f))))), (la2, .inr (0, [.ref xa2, .ref ya2, .int sz2, .int fo2])), (xa2, .inl (cI, 8, .inl xs2)), (ya2, .inl (cI, 8, .inl ys2)), (s9, .inr (1, [.ref lr9])), (lr9, .inl (cL, 3, .inr (.inr (.inr (.inr f9))))), (la29, .inr (0, [.ref xa29, .ref ya29, .int sz29, .int fo29])), (xa29, .inl (cI, 8, .inl xs29)), (ya29, .inl (cI, 8, .inl ys29)), (la0, .inr (0, [.ref xa0, .ref ya0, .int sz_4, .int fo_5])), (xa0, .inl (cI, 8, .inl xs_2)), (ya0, .inl (cI, 8, .inl ys_3)), (la09, .inr (0, [.ref xa09, .ref ya09, .int sz09, .int fo09])), (xa09, .inl (cI, 8, .inl xs09)), (ya09, .inl (cI, 8, .inl ys09)), (la1, .inr (0, [.ref xa1, .ref ya1, .int sz_9, .int fo_10])), (xa1, .inl (cI, 8, .inl xs_7)), (ya1, .inl (cI, 8, .inl ys_8)), (la19, .inr (0, [.ref xa19, .ref ya19, .int sz19, .int fo19])), (xa19, .inl (cI, 8, .inl xs19)), (ya19, .inl (cI, 8, .inl ys19))] := hD
  refine lv_iinc (v := (2 : Int32)) (lv' := [(2, .int (2 : Int32)), (0, .ref h0), (1, .ref s9)]) hx hb dX1_copyFrom_22 hl (k := 0) rfl (by decide) (by decide) rfl (fun ls hl => ?_)
  refine lv_goto (tgt := 2) hx hb dX1_copyFrom_25 (by decide) ?_
  refine lv_iload_n hx hb dX1_copyFrom_2 rfl (lv_at hl 0 rfl) ?_
  refine lv_iconst (v := 3) hx hb dX1_copyFrom_3 (by decide) ?_
  refine lv_icmp_ge (tgt := 28) hx hb dX1_copyFrom_4 (by decide) (fun c_11 => absurd c_11 (by decide)) (fun c_11 => ?_)
  refine lv_aload_n hx hb dX1_copyFrom_7 rfl (lv_at hl 1 rfl) ?_
  refine va_get (D := (dC, dI)) (ci := 1) (v := .ref lr) (C := RX1) (T := TX1) (N := 1) hx hb hts (by decide +kernel) hown hK hP 0 rfl rfl 0 (by decide) (hts (.fieldLink RX1 11 "DotCover$Scene" "layers" "[LDotCover$Layer;") (by decide +kernel)) (fun _ h9 => h9) rfl dX1_copyFrom_8 ?_
  refine lv_iload_n hx hb dX1_copyFrom_11 rfl (lv_at hl 0 rfl) ?_
  refine va_aldq hx hb hK hP 1 1 rfl rfl (in_k (by decide)) dX1_copyFrom_12 ?_
  rw [show f ((2 : Int32)).toNatClampNeg = some la2 from hf2]
  refine lv_aload_n hx hb dX1_copyFrom_13 rfl (lv_at hl 2 rfl) ?_
  refine va_get (D := (dC, dI)) (ci := 1) (v := .ref lr9) (C := RX1) (T := TX1) (N := 1) hx hb hts (by decide +kernel) hown hK hP 5 rfl rfl 0 (by decide) (hts (.fieldLink RX1 11 "DotCover$Scene" "layers" "[LDotCover$Layer;") (by decide +kernel)) (fun _ h9 => h9) rfl dX1_copyFrom_14 ?_
  refine lv_iload_n hx hb dX1_copyFrom_17 rfl (lv_at hl 0 rfl) ?_
  refine va_aldq hx hb hK hP 6 1 rfl rfl (in_k (by decide)) dX1_copyFrom_18 ?_
  rw [show f9 ((2 : Int32)).toNatClampNeg = some la29 from hf29]
  obtain ⟨xs_12, ys_13, sz_14, fo_15, hr_15, hF⟩ := bd4_u hF
  have hPc := hP.sub (ws' := [(la2, .inr (0, [.ref xa2, .ref ya2, .int sz2, .int fo2])), (xa2, .inl (cI, 8, .inl xs2)), (ya2, .inl (cI, 8, .inl ys2)), (la29, .inr (0, [.ref xa29, .ref ya29, .int sz29, .int fo29])), (xa29, .inl (cI, 8, .inl xs29)), (ya29, .inl (cI, 8, .inl ys29))]) [2, 3, 4, 7, 8, 9] rfl
  have hKc := hK.sub (tys' := [(cI, .int)]) [0] rfl
  have hDc := hD.sub (ws' := [(la2, .inr (0, [.ref xa2, .ref ya2, .int sz2, .int fo2])), (xa2, .inl (cI, 8, .inl xs2)), (ya2, .inl (cI, 8, .inl ys2)), (la29, .inr (0, [.ref xa29, .ref ya29, .int sz29, .int fo29])), (xa29, .inl (cI, 8, .inl xs29)), (ya29, .inl (cI, 8, .inl ys29))]) [2, 3, 4, 7, 8, 9] (by decide) rfl
  have hFc := va_free (wc := [(la2, .inr (0, [.ref xa2, .ref ya2, .int sz2, .int fo2])), (xa2, .inl (cI, 8, .inl xs2)), (ya2, .inl (cI, 8, .inl ys2)), (la29, .inr (0, [.ref xa29, .ref ya29, .int sz29, .int fo29])), (xa29, .inl (cI, 8, .inl xs29)), (ya29, .inl (cI, 8, .inl ys29))]) hD hS hA [2, 3, 4, 7, 8, 9] rfl
  refine va_callv (va_runV (As := [.ref la29]) (rest := []) ⟨hx, hb, hml, hown, hts⟩ (c_X0_copyFrom l dC dI la2 xa2 ya2 la29 xa29 ya29 cI H.size xs2 ys2 sz2 fo2 xs29 ys29 sz29 fo29 xs_12 ys_13 sz_14 fo_15 hr_15) (cwV 1 hts gX1_copyFrom_X0_copyFrom rfl rfl rfl (by decide +kernel) ⟨Nat.le_of_ble_eq_true rfl, Nat.le_of_ble_eq_true rfl⟩) ⟨fun a U g mk q => ⟨q.1, q.2.1, q.2.2.1, va_K.moved (u := U) (U := U.calling g mk a) (Vm.Alike.refl U.vm) q.2.2.2.1, q.2.2.2.2⟩, va_recv hKc hPc (ci := 0) (q0 := 0) rfl rfl, fun U hU hW => ⟨rfl, by rw [hU], by rw [hU]; exact hPc, va_K.moved hW.alike hKc, hDc.weaken (fun _ _ _ _ => trivial)⟩⟩ rfl rfl hl.1 rfl (lv_room (Nat.le_of_ble_eq_true rfl)) dX1_copyFrom_19 ⟨Nat.le_of_ble_eq_true rfl, Nat.le_of_ble_eq_true rfl⟩) hS (fun q _ h => hFc q h) hFc (fun _ t H1 locs ht hvm hw hB hz1 hk1 hS => ?_)
  obtain ⟨hP1, hK1, hD1⟩ := hB
  rw [ht] at hP1
  obtain ⟨hP, hD⟩ := va_join (wr := [(h0, .inr (1, [.ref lr])), (lr, .inl (cL, 3, .inr (.inr (.inr (.inr f))))), (s9, .inr (1, [.ref lr9])), (lr9, .inl (cL, 3, .inr (.inr (.inr (.inr f9))))), (la0, .inr (0, [.ref xa0, .ref ya0, .int sz_4, .int fo_5])), (xa0, .inl (cI, 8, .inl xs_2)), (ya0, .inl (cI, 8, .inl ys_3)), (la09, .inr (0, [.ref xa09, .ref ya09, .int sz09, .int fo09])), (xa09, .inl (cI, 8, .inl xs09)), (ya09, .inl (cI, 8, .inl ys09)), (la1, .inr (0, [.ref xa1, .ref ya1, .int sz_9, .int fo_10])), (xa1, .inl (cI, 8, .inl xs_7)), (ya1, .inl (cI, 8, .inl ys_8)), (la19, .inr (0, [.ref xa19, .ref ya19, .int sz19, .int fo19])), (xa19, .inl (cI, 8, .inl xs19)), (ya19, .inl (cI, 8, .inl ys19))]) (w1 := [(la2, .inr (0, [.ref xa2, .ref ya2, .int sz_14, .int fo_15])), (xa2, .inl (cI, 8, .inl xs_12)), (ya2, .inl (cI, 8, .inl ys_13)), (la29, .inr (0, [.ref xa29, .ref ya29, .int sz29, .int fo29])), (xa29, .inl (cI, 8, .inl xs29)), (ya29, .inl (cI, 8, .inl ys29))]) hP hD [2, 3, 4, 7, 8, 9] [0, 1, 5, 6, 10, 11, 12, 13, 14, 15, 16, 17, 18, 19, 20, 21] rfl rfl (by decide) (by decide) hk1 hFc hP1 hD1
  clear hP1 hK1 hD1 hk1 hFc
  generalize H1 = H at hP hS ⊢
  have hP : va_P (dC, dI) vwCl [(h0, .inr (1, [.ref lr])), (lr, .inl (cL, 3, .inr (.inr (.inr (.inr f))))), (s9, .inr (1, [.ref lr9])), (lr9, .inl (cL, 3, .inr (.inr (.inr (.inr f9))))), (la0, .inr (0, [.ref xa0, .ref ya0, .int sz_4, .int fo_5])), (xa0, .inl (cI, 8, .inl xs_2)), (ya0, .inl (cI, 8, .inl ys_3)), (la09, .inr (0, [.ref xa09, .ref ya09, .int sz09, .int fo09])), (xa09, .inl (cI, 8, .inl xs09)), (ya09, .inl (cI, 8, .inl ys09)), (la1, .inr (0, [.ref xa1, .ref ya1, .int sz_9, .int fo_10])), (xa1, .inl (cI, 8, .inl xs_7)), (ya1, .inl (cI, 8, .inl ys_8)), (la19, .inr (0, [.ref xa19, .ref ya19, .int sz19, .int fo19])), (xa19, .inl (cI, 8, .inl xs19)), (ya19, .inl (cI, 8, .inl ys19)), (la2, .inr (0, [.ref xa2, .ref ya2, .int sz_14, .int fo_15])), (xa2, .inl (cI, 8, .inl xs_12)), (ya2, .inl (cI, 8, .inl ys_13)), (la29, .inr (0, [.ref xa29, .ref ya29, .int sz29, .int fo29])), (xa29, .inl (cI, 8, .inl xs29)), (ya29, .inl (cI, 8, .inl ys29))] H := hP
  have hD : va_D A [(h0, .inr (1, [.ref lr])), (lr, .inl (cL, 3, .inr (.inr (.inr (.inr f))))), (s9, .inr (1, [.ref lr9])), (lr9, .inl (cL, 3, .inr (.inr (.inr (.inr f9))))), (la0, .inr (0, [.ref xa0, .ref ya0, .int sz_4, .int fo_5])), (xa0, .inl (cI, 8, .inl xs_2)), (ya0, .inl (cI, 8, .inl ys_3)), (la09, .inr (0, [.ref xa09, .ref ya09, .int sz09, .int fo09])), (xa09, .inl (cI, 8, .inl xs09)), (ya09, .inl (cI, 8, .inl ys09)), (la1, .inr (0, [.ref xa1, .ref ya1, .int sz_9, .int fo_10])), (xa1, .inl (cI, 8, .inl xs_7)), (ya1, .inl (cI, 8, .inl ys_8)), (la19, .inr (0, [.ref xa19, .ref ya19, .int sz19, .int fo19])), (xa19, .inl (cI, 8, .inl xs19)), (ya19, .inl (cI, 8, .inl ys19)), (la2, .inr (0, [.ref xa2, .ref ya2, .int sz_14, .int fo_15])), (xa2, .inl (cI, 8, .inl xs_12)), (ya2, .inl (cI, 8, .inl ys_13)), (la29, .inr (0, [.ref xa29, .ref ya29, .int sz29, .int fo29])), (xa29, .inl (cI, 8, .inl xs29)), (ya29, .inl (cI, 8, .inl ys29))] := hD
  refine lv_iinc (v := (3 : Int32)) (lv' := [(2, .int (3 : Int32)), (0, .ref h0), (1, .ref s9)]) hx hb dX1_copyFrom_22 hl (k := 0) rfl (by decide) (by decide) rfl (fun ls hl => ?_)
  refine lv_goto (tgt := 2) hx hb dX1_copyFrom_25 (by decide) ?_
  refine lv_iload_n hx hb dX1_copyFrom_2 rfl (lv_at hl 0 rfl) ?_
  refine lv_iconst (v := 3) hx hb dX1_copyFrom_3 (by decide) ?_
  refine lv_icmp_ge (tgt := 28) hx hb dX1_copyFrom_4 (by decide) (fun c_16 => ?_) (fun c_16 => absurd (by decide) c_16)
  obtain ⟨rfl, rfl, rfl, rfl, rfl, rfl, rfl, rfl, rfl, rfl, rfl, rfl⟩ := tp12 hF
  have hP := hP.sub (ws' := [(h0, .inr (1, [.ref lr])), (lr, .inl (cL, 3, .inr (.inr (.inr (.inr f))))), (la0, .inr (0, [.ref xa0, .ref ya0, .int sz_4, .int fo_5])), (xa0, .inl (cI, 8, .inl xs_2)), (ya0, .inl (cI, 8, .inl ys_3)), (la1, .inr (0, [.ref xa1, .ref ya1, .int sz_9, .int fo_10])), (xa1, .inl (cI, 8, .inl xs_7)), (ya1, .inl (cI, 8, .inl ys_8)), (la2, .inr (0, [.ref xa2, .ref ya2, .int sz_14, .int fo_15])), (xa2, .inl (cI, 8, .inl xs_12)), (ya2, .inl (cI, 8, .inl ys_13)), (s9, .inr (1, [.ref lr9])), (lr9, .inl (cL, 3, .inr (.inr (.inr (.inr f9))))), (la09, .inr (0, [.ref xa09, .ref ya09, .int sz09, .int fo09])), (xa09, .inl (cI, 8, .inl xs09)), (ya09, .inl (cI, 8, .inl ys09)), (la19, .inr (0, [.ref xa19, .ref ya19, .int sz19, .int fo19])), (xa19, .inl (cI, 8, .inl xs19)), (ya19, .inl (cI, 8, .inl ys19)), (la29, .inr (0, [.ref xa29, .ref ya29, .int sz29, .int fo29])), (xa29, .inl (cI, 8, .inl xs29)), (ya29, .inl (cI, 8, .inl ys29))]) [0, 1, 4, 5, 6, 10, 11, 12, 16, 17, 18, 2, 3, 7, 8, 9, 13, 14, 15, 19, 20, 21] rfl
  have hD := hD.sub (ws' := [(h0, .inr (1, [.ref lr])), (lr, .inl (cL, 3, .inr (.inr (.inr (.inr f))))), (la0, .inr (0, [.ref xa0, .ref ya0, .int sz_4, .int fo_5])), (xa0, .inl (cI, 8, .inl xs_2)), (ya0, .inl (cI, 8, .inl ys_3)), (la1, .inr (0, [.ref xa1, .ref ya1, .int sz_9, .int fo_10])), (xa1, .inl (cI, 8, .inl xs_7)), (ya1, .inl (cI, 8, .inl ys_8)), (la2, .inr (0, [.ref xa2, .ref ya2, .int sz_14, .int fo_15])), (xa2, .inl (cI, 8, .inl xs_12)), (ya2, .inl (cI, 8, .inl ys_13)), (s9, .inr (1, [.ref lr9])), (lr9, .inl (cL, 3, .inr (.inr (.inr (.inr f9))))), (la09, .inr (0, [.ref xa09, .ref ya09, .int sz09, .int fo09])), (xa09, .inl (cI, 8, .inl xs09)), (ya09, .inl (cI, 8, .inl ys09)), (la19, .inr (0, [.ref xa19, .ref ya19, .int sz19, .int fo19])), (xa19, .inl (cI, 8, .inl xs19)), (ya19, .inl (cI, 8, .inl ys19)), (la29, .inr (0, [.ref xa29, .ref ya29, .int sz29, .int fo29])), (xa29, .inl (cI, 8, .inl xs29)), (ya29, .inl (cI, 8, .inl ys29))]) [0, 1, 4, 5, 6, 10, 11, 12, 16, 17, 18, 2, 3, 7, 8, 9, 13, 14, 15, 19, 20, 21] (by decide) rfl
  rw [← hQ]
  exact W.vret hx hb hr (fun t ht hW => ⟨⟨(), rfl, trivial, by rw [ht]; exact hP, va_K.moved hW.alike hK, hD⟩, hS.F ht⟩) hS.2.2 dX1_copyFrom_28

def P_X1_pointsOfAll (sz0 : Int32) (sz1 : Int32) (sz2 : Int32) : Option (Int32) :=
  nm ((0 : Int32) + sz0) (fun v_2 =>
  nm (v_2 + sz1) (fun v_4 =>
  nm (v_4 + sz2) (fun v_6 =>
  some v_6)))

def rm_X1_pointsOfAll : Room := { frames := 0, cells := 0, slots := 0, locals := 0 }

set_option maxHeartbeats 4000000 in
set_option maxRecDepth 100000 in
theorem c_X1_pointsOfAll (l : Launch) (dC : Nat → ClassId) (dI : Nat → Nat → Nat) (h0 lr la0 xa0 ya0 la1 xa1 ya1 la2 xa2 ya2 : Nat) (cI cL : ClassId) (f : Nat → Option Nat) (xs0 : Nat → Int32) (ys0 : Nat → Int32) (sz0 : Int32) (fo0 : Int32) (xs1 : Nat → Int32) (ys1 : Nat → Int32) (sz1 : Int32) (fo1 : Int32) (xs2 : Nat → Int32) (ys2 : Nat → Int32) (sz2 : Int32) (fo2 : Int32) (r0 : Int32) (hf0 : f 0 = some la0) (hf1 : f 1 = some la1) (hf2 : f 2 = some la2) (hF : P_X1_pointsOfAll sz0 sz1 sz2 = some r0) : Met l yX1_pointsOfAll wsX1_pointsOfAll rm_X1_pointsOfAll (va_Pc [.ref h0] (fun U => va_P (dC, dI) vwCl [(h0, .inr (1, [.ref lr])), (lr, .inl (cL, 3, .inr (.inr (.inr (.inr f))))), (la0, .inr (0, [.ref xa0, .ref ya0, .int sz0, .int fo0])), (xa0, .inl (cI, 8, .inl xs0)), (ya0, .inl (cI, 8, .inl ys0)), (la1, .inr (0, [.ref xa1, .ref ya1, .int sz1, .int fo1])), (xa1, .inl (cI, 8, .inl xs1)), (ya1, .inl (cI, 8, .inl ys1)), (la2, .inr (0, [.ref xa2, .ref ya2, .int sz2, .int fo2])), (xa2, .inl (cI, 8, .inl xs2)), (ya2, .inl (cI, 8, .inl ys2))] U.heap ∧ va_K (dC, dI) vwCl [(cI, .int), (cL, .object RX0)] U ∧ nw U)) (vp_Si (fun x => x = r0)) 0 0 (fun _ => False) := by
  refine Met.ofW (cc := cX1_pointsOfAll) (maxL := 3) (ret := (some .int)) (by decide) rfl ?_
  intro p e s m args below meth c s₁ B hml hv
  change W p l e rm_X1_pointsOfAll s m args below meth c s.heap [] 0 0 _ _
  obtain ⟨hv, hP, hK, hN⟩ := hv
  have hx := B.exec
  have hb := B.bytes
  have hr := B.returns
  have hts := atoms_spec (ws := wsX1_pointsOfAll) B.pre
  have hown : s.vm.findClass RX1 = some m.cls := findClass_of_methodNamed B.named
  have hlocks := B.notSynchronized
  have hN_RX0_25 := hN.1
  have hN_RX1_18 := hN.2.1
  have hN_RX1_26 := hN.2.2.1
  have hN_RX2_32 := hN.2.2.2.1
  have hN_RX2_44 := hN.2.2.2.2.1
  have hN_RX2_48 := hN.2.2.2.2.2.1
  have hN_RX2_55 := hN.2.2.2.2.2.2
  generalize hQ : MQ below (vp_Si (fun x => x = r0)) args s 0 0 (fun _ => False) = Q
  have hl := lv_entry ([.ref h0]) (n := 3) (Nat.le_of_ble_eq_true rfl)
  have hE : entryFrame m args 3 = F0 m 0 ((lg_sl ([.ref h0]) ++ List.replicate (3 - (lg_sl ([.ref h0])).length) Slot.unset).toArray) [] := by rw [hv]; exact lg_entry_eq m _ 3
  rw [hE]
  generalize (lg_sl ([.ref h0]) ++ List.replicate (3 - (lg_sl ([.ref h0])).length) Slot.unset).toArray = ls at hl ⊢
  have hl : lv_has ls 3 [(0, .ref h0)] := hl
  unfold P_X1_pointsOfAll at hF
  refine lv_iconst (v := 0) hx hb dX1_pointsOfAll_0 (by decide) ?_
  refine lv_istore_n (lv' := [(1, .int (0 : Int32)), (0, .ref h0)]) hx hb dX1_pointsOfAll_1 rfl hl (by decide) rfl (fun ls hl => ?_)
  refine lv_iconst (v := 0) hx hb dX1_pointsOfAll_2 (by decide) ?_
  refine lv_istore_n (lv' := [(2, .int (0 : Int32)), (1, .int (0 : Int32)), (0, .ref h0)]) hx hb dX1_pointsOfAll_3 rfl hl (by decide) rfl (fun ls hl => ?_)
  refine lv_iload_n hx hb dX1_pointsOfAll_4 rfl (lv_at hl 0 rfl) ?_
  refine lv_iconst (v := 3) hx hb dX1_pointsOfAll_5 (by decide) ?_
  refine lv_icmp_ge (tgt := 27) hx hb dX1_pointsOfAll_6 (by decide) (fun c_1 => absurd c_1 (by decide)) (fun c_1 => ?_)
  refine lv_iload_n hx hb dX1_pointsOfAll_9 rfl (lv_at hl 1 rfl) ?_
  refine lv_aload_n hx hb dX1_pointsOfAll_10 rfl (lv_at hl 2 rfl) ?_
  refine va_get (D := (dC, dI)) (ci := 1) (v := .ref lr) (C := RX1) (T := TX1) (N := 1) hx hb hts (by decide +kernel) hown hK hP 0 rfl rfl 0 (by decide) (hts (.fieldLink RX1 11 "DotCover$Scene" "layers" "[LDotCover$Layer;") (by decide +kernel)) (fun _ h9 => h9) rfl dX1_pointsOfAll_11 ?_
  refine lv_iload_n hx hb dX1_pointsOfAll_14 rfl (lv_at hl 0 rfl) ?_
  refine va_aldq hx hb hK hP 1 1 rfl rfl (in_k (by decide)) dX1_pointsOfAll_15 ?_
  rw [show f ((0 : Int32)).toNatClampNeg = some la0 from hf0]
  refine va_getN (D := (dC, dI)) (ci := 0) (v := .int sz0) (C := RX0) (T := TX0) (N := 4) hx hb hts (by decide +kernel) hown hK hP 2 rfl rfl 2 (by decide) (va_Nw.use rfl hN_RX1_26) (fun _ h9 => h9) rfl dX1_pointsOfAll_16 ?_
  refine lv_iadd hx hb dX1_pointsOfAll_19 ?_
  refine lv_topi (fun v_2 ev_2 => ?_)
  have hF := nm_u hF ev_2
  refine lv_istore_n (lv' := [(1, .int v_2), (2, .int (0 : Int32)), (0, .ref h0)]) hx hb dX1_pointsOfAll_20 rfl hl (by decide) rfl (fun ls hl => ?_)
  refine lv_iinc (v := (1 : Int32)) (lv' := [(2, .int (1 : Int32)), (1, .int v_2), (0, .ref h0)]) hx hb dX1_pointsOfAll_21 hl (k := 1) rfl (by decide) (by decide) rfl (fun ls hl => ?_)
  refine lv_goto (tgt := 4) hx hb dX1_pointsOfAll_24 (by decide) ?_
  refine lv_iload_n hx hb dX1_pointsOfAll_4 rfl (lv_at hl 0 rfl) ?_
  refine lv_iconst (v := 3) hx hb dX1_pointsOfAll_5 (by decide) ?_
  refine lv_icmp_ge (tgt := 27) hx hb dX1_pointsOfAll_6 (by decide) (fun c_3 => absurd c_3 (by decide)) (fun c_3 => ?_)
  refine lv_iload_n hx hb dX1_pointsOfAll_9 rfl (lv_at hl 1 rfl) ?_
  refine lv_aload_n hx hb dX1_pointsOfAll_10 rfl (lv_at hl 2 rfl) ?_
  refine va_get (D := (dC, dI)) (ci := 1) (v := .ref lr) (C := RX1) (T := TX1) (N := 1) hx hb hts (by decide +kernel) hown hK hP 0 rfl rfl 0 (by decide) (hts (.fieldLink RX1 11 "DotCover$Scene" "layers" "[LDotCover$Layer;") (by decide +kernel)) (fun _ h9 => h9) rfl dX1_pointsOfAll_11 ?_
  refine lv_iload_n hx hb dX1_pointsOfAll_14 rfl (lv_at hl 0 rfl) ?_
  refine va_aldq hx hb hK hP 1 1 rfl rfl (in_k (by decide)) dX1_pointsOfAll_15 ?_
  rw [show f ((1 : Int32)).toNatClampNeg = some la1 from hf1]
  refine va_getN (D := (dC, dI)) (ci := 0) (v := .int sz1) (C := RX0) (T := TX0) (N := 4) hx hb hts (by decide +kernel) hown hK hP 5 rfl rfl 2 (by decide) (va_Nw.use rfl hN_RX1_26) (fun _ h9 => h9) rfl dX1_pointsOfAll_16 ?_
  refine lv_iadd hx hb dX1_pointsOfAll_19 ?_
  refine lv_topi (fun v_4 ev_4 => ?_)
  have hF := nm_u hF ev_4
  refine lv_istore_n (lv' := [(1, .int v_4), (2, .int (1 : Int32)), (0, .ref h0)]) hx hb dX1_pointsOfAll_20 rfl hl (by decide) rfl (fun ls hl => ?_)
  refine lv_iinc (v := (2 : Int32)) (lv' := [(2, .int (2 : Int32)), (1, .int v_4), (0, .ref h0)]) hx hb dX1_pointsOfAll_21 hl (k := 1) rfl (by decide) (by decide) rfl (fun ls hl => ?_)
  refine lv_goto (tgt := 4) hx hb dX1_pointsOfAll_24 (by decide) ?_
  refine lv_iload_n hx hb dX1_pointsOfAll_4 rfl (lv_at hl 0 rfl) ?_
  refine lv_iconst (v := 3) hx hb dX1_pointsOfAll_5 (by decide) ?_
  refine lv_icmp_ge (tgt := 27) hx hb dX1_pointsOfAll_6 (by decide) (fun c_5 => absurd c_5 (by decide)) (fun c_5 => ?_)
  refine lv_iload_n hx hb dX1_pointsOfAll_9 rfl (lv_at hl 1 rfl) ?_
  refine lv_aload_n hx hb dX1_pointsOfAll_10 rfl (lv_at hl 2 rfl) ?_
  refine va_get (D := (dC, dI)) (ci := 1) (v := .ref lr) (C := RX1) (T := TX1) (N := 1) hx hb hts (by decide +kernel) hown hK hP 0 rfl rfl 0 (by decide) (hts (.fieldLink RX1 11 "DotCover$Scene" "layers" "[LDotCover$Layer;") (by decide +kernel)) (fun _ h9 => h9) rfl dX1_pointsOfAll_11 ?_
  refine lv_iload_n hx hb dX1_pointsOfAll_14 rfl (lv_at hl 0 rfl) ?_
  refine va_aldq hx hb hK hP 1 1 rfl rfl (in_k (by decide)) dX1_pointsOfAll_15 ?_
  rw [show f ((2 : Int32)).toNatClampNeg = some la2 from hf2]
  refine va_getN (D := (dC, dI)) (ci := 0) (v := .int sz2) (C := RX0) (T := TX0) (N := 4) hx hb hts (by decide +kernel) hown hK hP 8 rfl rfl 2 (by decide) (va_Nw.use rfl hN_RX1_26) (fun _ h9 => h9) rfl dX1_pointsOfAll_16 ?_
  refine lv_iadd hx hb dX1_pointsOfAll_19 ?_
  refine lv_topi (fun v_6 ev_6 => ?_)
  have hF := nm_u hF ev_6
  refine lv_istore_n (lv' := [(1, .int v_6), (2, .int (2 : Int32)), (0, .ref h0)]) hx hb dX1_pointsOfAll_20 rfl hl (by decide) rfl (fun ls hl => ?_)
  refine lv_iinc (v := (3 : Int32)) (lv' := [(2, .int (3 : Int32)), (1, .int v_6), (0, .ref h0)]) hx hb dX1_pointsOfAll_21 hl (k := 1) rfl (by decide) (by decide) rfl (fun ls hl => ?_)
  refine lv_goto (tgt := 4) hx hb dX1_pointsOfAll_24 (by decide) ?_
  refine lv_iload_n hx hb dX1_pointsOfAll_4 rfl (lv_at hl 0 rfl) ?_
  refine lv_iconst (v := 3) hx hb dX1_pointsOfAll_5 (by decide) ?_
  refine lv_icmp_ge (tgt := 27) hx hb dX1_pointsOfAll_6 (by decide) (fun c_7 => ?_) (fun c_7 => absurd (by decide) c_7)
  refine lv_iload_n hx hb dX1_pointsOfAll_27 rfl (lv_at hl 1 rfl) ?_
  rw [← hQ]
  exact W.iret (v := v_6) hx hb hr (fun t ht hW => ⟨_, rfl, Option.some.inj hF, ht⟩) (fun _ h => by cases h) dX1_pointsOfAll_28

def P_X1_togetherParts (a0 : Int32) (xs0 : Nat → Int32) (ys0 : Nat → Int32) (sz0 : Int32) (fo0 : Int32) (xs1 : Nat → Int32) (ys1 : Nat → Int32) (sz1 : Int32) (fo1 : Int32) (xs2 : Nat → Int32) (ys2 : Nat → Int32) (sz2 : Int32) (fo2 : Int32) : Option (Int64) :=
  bd1 (P_X0_coverParts a0 (0 : Int32) (0 : Int32) xs0 ys0 sz0 fo0) (fun r_2 =>
  nm ((1 : Int64) * ((498960 : Int64) - r_2)) (fun v_3 =>
  bd1 (P_X0_coverParts a0 (0 : Int32) (0 : Int32) xs1 ys1 sz1 fo1) (fun r_5 =>
  nm (v_3 * ((498960 : Int64) - r_5)) (fun v_6 =>
  bd1 (P_X0_coverParts a0 (0 : Int32) (0 : Int32) xs2 ys2 sz2 fo2) (fun r_8 =>
  nm (v_6 * ((498960 : Int64) - r_8)) (fun v_9 =>
  some ((124221621275136000 : Int64) - v_9)))))))

def rm_X1_togetherParts : Room := { frames := 4, cells := 0, slots := 0, locals := 114 }

set_option maxHeartbeats 4000000 in
set_option maxRecDepth 100000 in
theorem c_X1_togetherParts (l : Launch) (dC : Nat → ClassId) (dI : Nat → Nat → Nat) (h0 lr la0 xa0 ya0 la1 xa1 ya1 la2 xa2 ya2 : Nat) (cI cL : ClassId) (f : Nat → Option Nat) (xs0 : Nat → Int32) (ys0 : Nat → Int32) (sz0 : Int32) (fo0 : Int32) (xs1 : Nat → Int32) (ys1 : Nat → Int32) (sz1 : Int32) (fo1 : Int32) (xs2 : Nat → Int32) (ys2 : Nat → Int32) (sz2 : Int32) (fo2 : Int32) (a0 : Int32) (r0 : Int64) (hf0 : f 0 = some la0) (hf1 : f 1 = some la1) (hf2 : f 2 = some la2) (hF : P_X1_togetherParts a0 xs0 ys0 sz0 fo0 xs1 ys1 sz1 fo1 xs2 ys2 sz2 fo2 = some r0) : Met l yX1_togetherParts wsX1_togetherParts rm_X1_togetherParts (va_Pc [.ref h0, .int a0] (fun U => va_P (dC, dI) vwCl [(h0, .inr (1, [.ref lr])), (lr, .inl (cL, 3, .inr (.inr (.inr (.inr f))))), (la0, .inr (0, [.ref xa0, .ref ya0, .int sz0, .int fo0])), (xa0, .inl (cI, 8, .inl xs0)), (ya0, .inl (cI, 8, .inl ys0)), (la1, .inr (0, [.ref xa1, .ref ya1, .int sz1, .int fo1])), (xa1, .inl (cI, 8, .inl xs1)), (ya1, .inl (cI, 8, .inl ys1)), (la2, .inr (0, [.ref xa2, .ref ya2, .int sz2, .int fo2])), (xa2, .inl (cI, 8, .inl xs2)), (ya2, .inl (cI, 8, .inl ys2))] U.heap ∧ va_K (dC, dI) vwCl [(cI, .int), (cL, .object RX0)] U)) (vp_Sl (fun x => x = r0)) 0 0 (fun _ => False) := by
  refine Met.ofW (cc := cX1_togetherParts) (maxL := 5) (ret := (some .long)) (by decide) rfl ?_
  intro p e s m args below meth c s₁ B hml hv
  change W p l e rm_X1_togetherParts s m args below meth c s.heap [] 0 0 _ _
  obtain ⟨hv, hP, hK⟩ := hv
  have hx := B.exec
  have hb := B.bytes
  have hr := B.returns
  have hts := atoms_spec (ws := wsX1_togetherParts) B.pre
  have hown : s.vm.findClass RX1 = some m.cls := findClass_of_methodNamed B.named
  have hlocks := B.notSynchronized
  generalize hQ : MQ below (vp_Sl (fun x => x = r0)) args s 0 0 (fun _ => False) = Q
  have hl := lv_entry ([.ref h0, .int a0]) (n := 5) (Nat.le_of_ble_eq_true rfl)
  have hE : entryFrame m args 5 = F0 m 0 ((lg_sl ([.ref h0, .int a0]) ++ List.replicate (5 - (lg_sl ([.ref h0, .int a0])).length) Slot.unset).toArray) [] := by rw [hv]; exact lg_entry_eq m _ 5
  rw [hE]
  generalize (lg_sl ([.ref h0, .int a0]) ++ List.replicate (5 - (lg_sl ([.ref h0, .int a0])).length) Slot.unset).toArray = ls at hl ⊢
  have hl : lv_has ls 5 [(0, .ref h0), (1, .int a0)] := hl
  unfold P_X1_togetherParts at hF
  refine lv_lconst (v := 1) hx hb dX1_togetherParts_0 (by decide) ?_
  refine lv_lstore_n (lv' := [(2, .long (1 : Int64)), (0, .ref h0), (1, .int a0)]) hx hb dX1_togetherParts_1 rfl hl (by decide) rfl (fun ls hl => ?_)
  refine lv_iconst (v := 0) hx hb dX1_togetherParts_2 (by decide) ?_
  refine lv_istore (lv' := [(4, .int (0 : Int32)), (2, .long (1 : Int64)), (0, .ref h0), (1, .int a0)]) hx hb dX1_togetherParts_3 hl (by decide) rfl (fun ls hl => ?_)
  refine lv_iload hx hb dX1_togetherParts_5 (lv_at hl 0 rfl) ?_
  refine lv_iconst (v := 3) hx hb dX1_togetherParts_7 (by decide) ?_
  refine lv_icmp_ge (tgt := 37) hx hb dX1_togetherParts_8 (by decide) (fun c_1 => absurd c_1 (by decide)) (fun c_1 => ?_)
  refine lv_lload_n hx hb dX1_togetherParts_11 rfl (lv_at hl 1 rfl) ?_
  refine lv_ldc2 (v := 498960) hx hb hown (hts (.constantLong RX1 30 (498960)) (by decide +kernel)) dX1_togetherParts_12 ?_
  refine lv_aload_n hx hb dX1_togetherParts_15 rfl (lv_at hl 2 rfl) ?_
  refine va_get (D := (dC, dI)) (ci := 1) (v := .ref lr) (C := RX1) (T := TX1) (N := 1) hx hb hts (by decide +kernel) hown hK hP 0 rfl rfl 0 (by decide) (hts (.fieldLink RX1 11 "DotCover$Scene" "layers" "[LDotCover$Layer;") (by decide +kernel)) (fun _ h9 => h9) rfl dX1_togetherParts_16 ?_
  refine lv_iload hx hb dX1_togetherParts_19 (lv_at hl 0 rfl) ?_
  refine va_aldq hx hb hK hP 1 1 rfl rfl (in_k (by decide)) dX1_togetherParts_21 ?_
  rw [show f ((0 : Int32)).toNatClampNeg = some la0 from hf0]
  refine lv_iload_n hx hb dX1_togetherParts_22 rfl (lv_at hl 3 rfl) ?_
  refine lv_iconst (v := 0) hx hb dX1_togetherParts_23 (by decide) ?_
  refine lv_iconst (v := 0) hx hb dX1_togetherParts_24 (by decide) ?_
  obtain ⟨r_2, hr_2, hF⟩ := bd1_u hF
  have hPc := hP.sub (ws' := [(la0, .inr (0, [.ref xa0, .ref ya0, .int sz0, .int fo0])), (xa0, .inl (cI, 8, .inl xs0)), (ya0, .inl (cI, 8, .inl ys0))]) [2, 3, 4] rfl
  have hKc := hK.sub (tys' := [(cI, .int)]) [0] rfl
  refine vp_callSl (W.runV (As := [.int a0, .int (0 : Int32), .int (0 : Int32)]) (rest := [.long (498960 : Int64), .long (1 : Int64)]) ⟨hx, hb, hml, hown, hts⟩ (c_X0_coverParts l dC dI la0 xa0 ya0 cI xs0 ys0 sz0 fo0 a0 (0 : Int32) (0 : Int32) r_2 hr_2) (cwV 3 hts gX1_togetherParts_X0_coverParts rfl rfl rfl (by decide +kernel) ⟨Nat.le_of_ble_eq_true rfl, Nat.le_of_ble_eq_true rfl⟩) ⟨fun a U g mk q => ⟨q.1, q.2.1, va_K.moved (u := U) (U := U.calling g mk a) (Vm.Alike.refl U.vm) q.2.2⟩, va_recv hKc hPc (ci := 0) (q0 := 0) rfl rfl, fun U hU hW => ⟨rfl, by rw [hU]; exact hPc, va_K.moved hW.alike hKc⟩⟩ rfl rfl hl.1 rfl (lv_room (Nat.le_of_ble_eq_true rfl)) dX1_togetherParts_25 ⟨Nat.le_of_ble_eq_true rfl, Nat.le_of_ble_eq_true rfl⟩) (fun r_2' qr_2 => ?_)
  obtain rfl := qr_2.symm
  refine lv_lsub hx hb dX1_togetherParts_28 ?_
  refine lv_lmul hx hb dX1_togetherParts_29 ?_
  refine lv_topl (fun v_3 ev_3 => ?_)
  have hF := nm_u hF ev_3
  refine lv_lstore_n (lv' := [(2, .long v_3), (4, .int (0 : Int32)), (0, .ref h0), (1, .int a0)]) hx hb dX1_togetherParts_30 rfl hl (by decide) rfl (fun ls hl => ?_)
  refine lv_iinc (v := (1 : Int32)) (lv' := [(4, .int (1 : Int32)), (2, .long v_3), (0, .ref h0), (1, .int a0)]) hx hb dX1_togetherParts_31 hl (k := 1) rfl (by decide) (by decide) rfl (fun ls hl => ?_)
  refine lv_goto (tgt := 5) hx hb dX1_togetherParts_34 (by decide) ?_
  refine lv_iload hx hb dX1_togetherParts_5 (lv_at hl 0 rfl) ?_
  refine lv_iconst (v := 3) hx hb dX1_togetherParts_7 (by decide) ?_
  refine lv_icmp_ge (tgt := 37) hx hb dX1_togetherParts_8 (by decide) (fun c_4 => absurd c_4 (by decide)) (fun c_4 => ?_)
  refine lv_lload_n hx hb dX1_togetherParts_11 rfl (lv_at hl 1 rfl) ?_
  refine lv_ldc2 (v := 498960) hx hb hown (hts (.constantLong RX1 30 (498960)) (by decide +kernel)) dX1_togetherParts_12 ?_
  refine lv_aload_n hx hb dX1_togetherParts_15 rfl (lv_at hl 2 rfl) ?_
  refine va_get (D := (dC, dI)) (ci := 1) (v := .ref lr) (C := RX1) (T := TX1) (N := 1) hx hb hts (by decide +kernel) hown hK hP 0 rfl rfl 0 (by decide) (hts (.fieldLink RX1 11 "DotCover$Scene" "layers" "[LDotCover$Layer;") (by decide +kernel)) (fun _ h9 => h9) rfl dX1_togetherParts_16 ?_
  refine lv_iload hx hb dX1_togetherParts_19 (lv_at hl 0 rfl) ?_
  refine va_aldq hx hb hK hP 1 1 rfl rfl (in_k (by decide)) dX1_togetherParts_21 ?_
  rw [show f ((1 : Int32)).toNatClampNeg = some la1 from hf1]
  refine lv_iload_n hx hb dX1_togetherParts_22 rfl (lv_at hl 3 rfl) ?_
  refine lv_iconst (v := 0) hx hb dX1_togetherParts_23 (by decide) ?_
  refine lv_iconst (v := 0) hx hb dX1_togetherParts_24 (by decide) ?_
  obtain ⟨r_5, hr_5, hF⟩ := bd1_u hF
  have hPc := hP.sub (ws' := [(la1, .inr (0, [.ref xa1, .ref ya1, .int sz1, .int fo1])), (xa1, .inl (cI, 8, .inl xs1)), (ya1, .inl (cI, 8, .inl ys1))]) [5, 6, 7] rfl
  have hKc := hK.sub (tys' := [(cI, .int)]) [0] rfl
  refine vp_callSl (W.runV (As := [.int a0, .int (0 : Int32), .int (0 : Int32)]) (rest := [.long (498960 : Int64), .long v_3]) ⟨hx, hb, hml, hown, hts⟩ (c_X0_coverParts l dC dI la1 xa1 ya1 cI xs1 ys1 sz1 fo1 a0 (0 : Int32) (0 : Int32) r_5 hr_5) (cwV 3 hts gX1_togetherParts_X0_coverParts rfl rfl rfl (by decide +kernel) ⟨Nat.le_of_ble_eq_true rfl, Nat.le_of_ble_eq_true rfl⟩) ⟨fun a U g mk q => ⟨q.1, q.2.1, va_K.moved (u := U) (U := U.calling g mk a) (Vm.Alike.refl U.vm) q.2.2⟩, va_recv hKc hPc (ci := 0) (q0 := 0) rfl rfl, fun U hU hW => ⟨rfl, by rw [hU]; exact hPc, va_K.moved hW.alike hKc⟩⟩ rfl rfl hl.1 rfl (lv_room (Nat.le_of_ble_eq_true rfl)) dX1_togetherParts_25 ⟨Nat.le_of_ble_eq_true rfl, Nat.le_of_ble_eq_true rfl⟩) (fun r_5' qr_5 => ?_)
  obtain rfl := qr_5.symm
  refine lv_lsub hx hb dX1_togetherParts_28 ?_
  refine lv_lmul hx hb dX1_togetherParts_29 ?_
  refine lv_topl (fun v_6 ev_6 => ?_)
  have hF := nm_u hF ev_6
  refine lv_lstore_n (lv' := [(2, .long v_6), (4, .int (1 : Int32)), (0, .ref h0), (1, .int a0)]) hx hb dX1_togetherParts_30 rfl hl (by decide) rfl (fun ls hl => ?_)
  refine lv_iinc (v := (2 : Int32)) (lv' := [(4, .int (2 : Int32)), (2, .long v_6), (0, .ref h0), (1, .int a0)]) hx hb dX1_togetherParts_31 hl (k := 1) rfl (by decide) (by decide) rfl (fun ls hl => ?_)
  refine lv_goto (tgt := 5) hx hb dX1_togetherParts_34 (by decide) ?_
  refine lv_iload hx hb dX1_togetherParts_5 (lv_at hl 0 rfl) ?_
  refine lv_iconst (v := 3) hx hb dX1_togetherParts_7 (by decide) ?_
  refine lv_icmp_ge (tgt := 37) hx hb dX1_togetherParts_8 (by decide) (fun c_7 => absurd c_7 (by decide)) (fun c_7 => ?_)
  refine lv_lload_n hx hb dX1_togetherParts_11 rfl (lv_at hl 1 rfl) ?_
  refine lv_ldc2 (v := 498960) hx hb hown (hts (.constantLong RX1 30 (498960)) (by decide +kernel)) dX1_togetherParts_12 ?_
  refine lv_aload_n hx hb dX1_togetherParts_15 rfl (lv_at hl 2 rfl) ?_
  refine va_get (D := (dC, dI)) (ci := 1) (v := .ref lr) (C := RX1) (T := TX1) (N := 1) hx hb hts (by decide +kernel) hown hK hP 0 rfl rfl 0 (by decide) (hts (.fieldLink RX1 11 "DotCover$Scene" "layers" "[LDotCover$Layer;") (by decide +kernel)) (fun _ h9 => h9) rfl dX1_togetherParts_16 ?_
  refine lv_iload hx hb dX1_togetherParts_19 (lv_at hl 0 rfl) ?_
  refine va_aldq hx hb hK hP 1 1 rfl rfl (in_k (by decide)) dX1_togetherParts_21 ?_
  rw [show f ((2 : Int32)).toNatClampNeg = some la2 from hf2]
  refine lv_iload_n hx hb dX1_togetherParts_22 rfl (lv_at hl 3 rfl) ?_
  refine lv_iconst (v := 0) hx hb dX1_togetherParts_23 (by decide) ?_
  refine lv_iconst (v := 0) hx hb dX1_togetherParts_24 (by decide) ?_
  obtain ⟨r_8, hr_8, hF⟩ := bd1_u hF
  have hPc := hP.sub (ws' := [(la2, .inr (0, [.ref xa2, .ref ya2, .int sz2, .int fo2])), (xa2, .inl (cI, 8, .inl xs2)), (ya2, .inl (cI, 8, .inl ys2))]) [8, 9, 10] rfl
  have hKc := hK.sub (tys' := [(cI, .int)]) [0] rfl
  refine vp_callSl (W.runV (As := [.int a0, .int (0 : Int32), .int (0 : Int32)]) (rest := [.long (498960 : Int64), .long v_6]) ⟨hx, hb, hml, hown, hts⟩ (c_X0_coverParts l dC dI la2 xa2 ya2 cI xs2 ys2 sz2 fo2 a0 (0 : Int32) (0 : Int32) r_8 hr_8) (cwV 3 hts gX1_togetherParts_X0_coverParts rfl rfl rfl (by decide +kernel) ⟨Nat.le_of_ble_eq_true rfl, Nat.le_of_ble_eq_true rfl⟩) ⟨fun a U g mk q => ⟨q.1, q.2.1, va_K.moved (u := U) (U := U.calling g mk a) (Vm.Alike.refl U.vm) q.2.2⟩, va_recv hKc hPc (ci := 0) (q0 := 0) rfl rfl, fun U hU hW => ⟨rfl, by rw [hU]; exact hPc, va_K.moved hW.alike hKc⟩⟩ rfl rfl hl.1 rfl (lv_room (Nat.le_of_ble_eq_true rfl)) dX1_togetherParts_25 ⟨Nat.le_of_ble_eq_true rfl, Nat.le_of_ble_eq_true rfl⟩) (fun r_8' qr_8 => ?_)
  obtain rfl := qr_8.symm
  refine lv_lsub hx hb dX1_togetherParts_28 ?_
  refine lv_lmul hx hb dX1_togetherParts_29 ?_
  refine lv_topl (fun v_9 ev_9 => ?_)
  have hF := nm_u hF ev_9
  refine lv_lstore_n (lv' := [(2, .long v_9), (4, .int (2 : Int32)), (0, .ref h0), (1, .int a0)]) hx hb dX1_togetherParts_30 rfl hl (by decide) rfl (fun ls hl => ?_)
  refine lv_iinc (v := (3 : Int32)) (lv' := [(4, .int (3 : Int32)), (2, .long v_9), (0, .ref h0), (1, .int a0)]) hx hb dX1_togetherParts_31 hl (k := 1) rfl (by decide) (by decide) rfl (fun ls hl => ?_)
  refine lv_goto (tgt := 5) hx hb dX1_togetherParts_34 (by decide) ?_
  refine lv_iload hx hb dX1_togetherParts_5 (lv_at hl 0 rfl) ?_
  refine lv_iconst (v := 3) hx hb dX1_togetherParts_7 (by decide) ?_
  refine lv_icmp_ge (tgt := 37) hx hb dX1_togetherParts_8 (by decide) (fun c_10 => ?_) (fun c_10 => absurd (by decide) c_10)
  refine lv_ldc2 (v := 124221621275136000) hx hb hown (hts (.constantLong RX1 36 (124221621275136000)) (by decide +kernel)) dX1_togetherParts_37 ?_
  refine lv_lload_n hx hb dX1_togetherParts_40 rfl (lv_at hl 1 rfl) ?_
  refine lv_lsub hx hb dX1_togetherParts_41 ?_
  rw [← hQ]
  exact W.lret (v := ((124221621275136000 : Int64) - v_9)) hx hb hr (fun t ht hW => ⟨_, rfl, Option.some.inj hF, ht⟩) (fun _ h => by cases h) dX1_togetherParts_42

def L_X1_mostCoveredDot_11 (xs0 : Nat → Int32) (ys0 : Nat → Int32) (sz0 : Int32) (fo0 : Int32) (xs1 : Nat → Int32) (ys1 : Nat → Int32) (sz1 : Int32) (fo1 : Int32) (xs2 : Nat → Int32) (ys2 : Nat → Int32) (sz2 : Int32) (fo2 : Int32) : Nat → Int32 → Int64 → Int32 → Option (Int32 × Int64 × Int32)
  | 0, _, _, _ => none
  | n + 1, k_2, k_3, k_4 =>
    if (16 : Int32) ≤ k_2 then
      some (k_2, k_3, k_4)
    else
      bd1 (P_X1_togetherParts k_2 xs0 ys0 sz0 fo0 xs1 ys1 sz1 fo1 xs2 ys2 sz2 fo2) (fun r_9 =>
      if r_9 ≤ k_3 then
        L_X1_mostCoveredDot_11 xs0 ys0 sz0 fo0 xs1 ys1 sz1 fo1 xs2 ys2 sz2 fo2 n (k_2 + (1 : Int32)) k_3 k_4
      else
        L_X1_mostCoveredDot_11 xs0 ys0 sz0 fo0 xs1 ys1 sz1 fo1 xs2 ys2 sz2 fo2 n (k_2 + (1 : Int32)) r_9 k_2)
theorem L_X1_mostCoveredDot_11_s (xs0 : Nat → Int32) (ys0 : Nat → Int32) (sz0 : Int32) (fo0 : Int32) (xs1 : Nat → Int32) (ys1 : Nat → Int32) (sz1 : Int32) (fo1 : Int32) (xs2 : Nat → Int32) (ys2 : Nat → Int32) (sz2 : Int32) (fo2 : Int32) (n : Nat) (k_2 : Int32) (k_3 : Int64) (k_4 : Int32) : L_X1_mostCoveredDot_11 xs0 ys0 sz0 fo0 xs1 ys1 sz1 fo1 xs2 ys2 sz2 fo2 (n + 1) k_2 k_3 k_4 =
    (if (16 : Int32) ≤ k_2 then
      some (k_2, k_3, k_4)
    else
      bd1 (P_X1_togetherParts k_2 xs0 ys0 sz0 fo0 xs1 ys1 sz1 fo1 xs2 ys2 sz2 fo2) (fun r_9 =>
      if r_9 ≤ k_3 then
        L_X1_mostCoveredDot_11 xs0 ys0 sz0 fo0 xs1 ys1 sz1 fo1 xs2 ys2 sz2 fo2 n (k_2 + (1 : Int32)) k_3 k_4
      else
        L_X1_mostCoveredDot_11 xs0 ys0 sz0 fo0 xs1 ys1 sz1 fo1 xs2 ys2 sz2 fo2 n (k_2 + (1 : Int32)) r_9 k_2)) := rfl

def P_X1_mostCoveredDot (xs0 : Nat → Int32) (ys0 : Nat → Int32) (sz0 : Int32) (fo0 : Int32) (xs1 : Nat → Int32) (ys1 : Nat → Int32) (sz1 : Int32) (fo1 : Int32) (xs2 : Nat → Int32) (ys2 : Nat → Int32) (sz2 : Int32) (fo2 : Int32) : Option (Int32) :=
  bd1 (P_X1_togetherParts (0 : Int32) xs0 ys0 sz0 fo0 xs1 ys1 sz1 fo1 xs2 ys2 sz2 fo2) (fun r_1 =>
  bd3 (L_X1_mostCoveredDot_11 xs0 ys0 sz0 fo0 xs1 ys1 sz1 fo1 xs2 ys2 sz2 fo2 1000 (1 : Int32) r_1 (0 : Int32)) (fun o_5 o_6 o_7 =>
  some o_7))

def rm_X1_mostCoveredDot : Room := { frames := 5, cells := 0, slots := 0, locals := 138 }

set_option maxHeartbeats 4000000 in
set_option maxRecDepth 100000 in
theorem c_X1_mostCoveredDot (l : Launch) (dC : Nat → ClassId) (dI : Nat → Nat → Nat) (h0 lr la0 xa0 ya0 la1 xa1 ya1 la2 xa2 ya2 : Nat) (cI cL : ClassId) (f : Nat → Option Nat) (xs0 : Nat → Int32) (ys0 : Nat → Int32) (sz0 : Int32) (fo0 : Int32) (xs1 : Nat → Int32) (ys1 : Nat → Int32) (sz1 : Int32) (fo1 : Int32) (xs2 : Nat → Int32) (ys2 : Nat → Int32) (sz2 : Int32) (fo2 : Int32) (r0 : Int32) (hf0 : f 0 = some la0) (hf1 : f 1 = some la1) (hf2 : f 2 = some la2) (hF : P_X1_mostCoveredDot xs0 ys0 sz0 fo0 xs1 ys1 sz1 fo1 xs2 ys2 sz2 fo2 = some r0) : Met l yX1_mostCoveredDot wsX1_mostCoveredDot rm_X1_mostCoveredDot (va_Pc [.ref h0] (fun U => va_P (dC, dI) vwCl [(h0, .inr (1, [.ref lr])), (lr, .inl (cL, 3, .inr (.inr (.inr (.inr f))))), (la0, .inr (0, [.ref xa0, .ref ya0, .int sz0, .int fo0])), (xa0, .inl (cI, 8, .inl xs0)), (ya0, .inl (cI, 8, .inl ys0)), (la1, .inr (0, [.ref xa1, .ref ya1, .int sz1, .int fo1])), (xa1, .inl (cI, 8, .inl xs1)), (ya1, .inl (cI, 8, .inl ys1)), (la2, .inr (0, [.ref xa2, .ref ya2, .int sz2, .int fo2])), (xa2, .inl (cI, 8, .inl xs2)), (ya2, .inl (cI, 8, .inl ys2))] U.heap ∧ va_K (dC, dI) vwCl [(cI, .int), (cL, .object RX0)] U)) (vp_Si (fun x => x = r0)) 0 0 (fun _ => False) := by
  refine Met.ofW (cc := cX1_mostCoveredDot) (maxL := 7) (ret := (some .int)) (by decide) rfl ?_
  intro p e s m args below meth c s₁ B hml hv
  change W p l e rm_X1_mostCoveredDot s m args below meth c s.heap [] 0 0 _ _
  obtain ⟨hv, hP, hK⟩ := hv
  have hx := B.exec
  have hb := B.bytes
  have hr := B.returns
  have hts := atoms_spec (ws := wsX1_mostCoveredDot) B.pre
  have hown : s.vm.findClass RX1 = some m.cls := findClass_of_methodNamed B.named
  have hlocks := B.notSynchronized
  generalize hQ : MQ below (vp_Si (fun x => x = r0)) args s 0 0 (fun _ => False) = Q
  have hl := lv_entry ([.ref h0]) (n := 7) (Nat.le_of_ble_eq_true rfl)
  have hE : entryFrame m args 7 = F0 m 0 ((lg_sl ([.ref h0]) ++ List.replicate (7 - (lg_sl ([.ref h0])).length) Slot.unset).toArray) [] := by rw [hv]; exact lg_entry_eq m _ 7
  rw [hE]
  generalize (lg_sl ([.ref h0]) ++ List.replicate (7 - (lg_sl ([.ref h0])).length) Slot.unset).toArray = ls at hl ⊢
  have hl : lv_has ls 7 [(0, .ref h0)] := hl
  unfold P_X1_mostCoveredDot at hF
  refine lv_iconst (v := 0) hx hb dX1_mostCoveredDot_0 (by decide) ?_
  refine lv_istore_n (lv' := [(1, .int (0 : Int32)), (0, .ref h0)]) hx hb dX1_mostCoveredDot_1 rfl hl (by decide) rfl (fun ls hl => ?_)
  refine lv_aload_n hx hb dX1_mostCoveredDot_2 rfl (lv_at hl 1 rfl) ?_
  refine lv_iconst (v := 0) hx hb dX1_mostCoveredDot_3 (by decide) ?_
  obtain ⟨r_1, hr_1, hF⟩ := bd1_u hF
  have hPc := hP.sub (ws' := [(h0, .inr (1, [.ref lr])), (lr, .inl (cL, 3, .inr (.inr (.inr (.inr f))))), (la0, .inr (0, [.ref xa0, .ref ya0, .int sz0, .int fo0])), (xa0, .inl (cI, 8, .inl xs0)), (ya0, .inl (cI, 8, .inl ys0)), (la1, .inr (0, [.ref xa1, .ref ya1, .int sz1, .int fo1])), (xa1, .inl (cI, 8, .inl xs1)), (ya1, .inl (cI, 8, .inl ys1)), (la2, .inr (0, [.ref xa2, .ref ya2, .int sz2, .int fo2])), (xa2, .inl (cI, 8, .inl xs2)), (ya2, .inl (cI, 8, .inl ys2))]) [0, 1, 2, 3, 4, 5, 6, 7, 8, 9, 10] rfl
  have hKc := hK.sub (tys' := [(cI, .int), (cL, .object RX0)]) [0, 1] rfl
  refine vp_callSl (W.runV (As := [.int (0 : Int32)]) (rest := []) ⟨hx, hb, hml, hown, hts⟩ (c_X1_togetherParts l dC dI h0 lr la0 xa0 ya0 la1 xa1 ya1 la2 xa2 ya2 cI cL f xs0 ys0 sz0 fo0 xs1 ys1 sz1 fo1 xs2 ys2 sz2 fo2 (0 : Int32) r_1 hf0 hf1 hf2 hr_1) (cwV 1 hts gX1_mostCoveredDot_X1_togetherParts rfl rfl rfl (by decide +kernel) ⟨Nat.le_of_ble_eq_true rfl, Nat.le_of_ble_eq_true rfl⟩) ⟨fun a U g mk q => ⟨q.1, q.2.1, va_K.moved (u := U) (U := U.calling g mk a) (Vm.Alike.refl U.vm) q.2.2⟩, va_recv hKc hPc (ci := 1) (q0 := 0) rfl rfl, fun U hU hW => ⟨rfl, by rw [hU]; exact hPc, va_K.moved hW.alike hKc⟩⟩ rfl rfl hl.1 rfl (lv_room (Nat.le_of_ble_eq_true rfl)) dX1_mostCoveredDot_4 ⟨Nat.le_of_ble_eq_true rfl, Nat.le_of_ble_eq_true rfl⟩) (fun r_1' qr_1 => ?_)
  obtain rfl := qr_1.symm
  refine lv_lstore_n (lv' := [(2, .long r_1), (1, .int (0 : Int32)), (0, .ref h0)]) hx hb dX1_mostCoveredDot_7 rfl hl (by decide) rfl (fun ls hl => ?_)
  refine lv_iconst (v := 1) hx hb dX1_mostCoveredDot_8 (by decide) ?_
  refine lv_istore (lv' := [(4, .int (1 : Int32)), (2, .long r_1), (1, .int (0 : Int32)), (0, .ref h0)]) hx hb dX1_mostCoveredDot_9 hl (by decide) rfl (fun ls hl => ?_)
  obtain ⟨o_5, o_6, o_7, hL_11, hF⟩ := bd3_u hF
  have lp_11 : ∀ (n : Nat) (k_2 : Int32) (k_3 : Int64) (k_4 : Int32) (o_5 : Int32) (o_6 : Int64) (o_7 : Int32) (ls : Array Slot), L_X1_mostCoveredDot_11 xs0 ys0 sz0 fo0 xs1 ys1 sz1 fo1 xs2 ys2 sz2 fo2 n k_2 k_3 k_4 = some (o_5, o_6, o_7) → lv_has ls 7 [(4, .int k_2), (2, .long k_3), (1, .int k_4), (0, .ref h0)] → (∀ (ls : Array Slot), lv_has ls 7 [(4, .int o_5), (2, .long o_6), (1, .int o_7), (0, .ref h0)] → W p l e rm_X1_mostCoveredDot s m args below meth c s.heap [] 0 0 Q (F0 m 45 ls [])) → W p l e rm_X1_mostCoveredDot s m args below meth c s.heap [] 0 0 Q (F0 m 11 ls []) := by
    intro n
    induction n with
    | zero =>
      intro k_2 k_3 k_4 o_5 o_6 o_7 ls hF
      exact nn ((rfl : L_X1_mostCoveredDot_11 xs0 ys0 sz0 fo0 xs1 ys1 sz1 fo1 xs2 ys2 sz2 fo2 0 k_2 k_3 k_4 = none).symm.trans hF)
    | succ n ih_11 =>
      intro k_2 k_3 k_4 o_5 o_6 o_7 ls hF hl kx_11
      have hF := (L_X1_mostCoveredDot_11_s xs0 ys0 sz0 fo0 xs1 ys1 sz1 fo1 xs2 ys2 sz2 fo2 n k_2 k_3 k_4).symm.trans hF
      refine lv_iload hx hb dX1_mostCoveredDot_11 (lv_at hl 0 rfl) ?_
      refine lv_bipush (v := 16) hx hb dX1_mostCoveredDot_13 (by decide) ?_
      refine lv_icmp_ge (tgt := 45) hx hb dX1_mostCoveredDot_15 (by decide) (fun c_8 => ?_) (fun c_8 => ?_)
      · have hF := br1 hF c_8
        obtain ⟨rfl, rfl, rfl⟩ := tp3 hF
        exact kx_11 ls hl
      · have hF := br0 hF c_8
        refine lv_aload_n hx hb dX1_mostCoveredDot_18 rfl (lv_at hl 3 rfl) ?_
        refine lv_iload hx hb dX1_mostCoveredDot_19 (lv_at hl 0 rfl) ?_
        obtain ⟨r_9, hr_9, hF⟩ := bd1_u hF
        have hPc := hP.sub (ws' := [(h0, .inr (1, [.ref lr])), (lr, .inl (cL, 3, .inr (.inr (.inr (.inr f))))), (la0, .inr (0, [.ref xa0, .ref ya0, .int sz0, .int fo0])), (xa0, .inl (cI, 8, .inl xs0)), (ya0, .inl (cI, 8, .inl ys0)), (la1, .inr (0, [.ref xa1, .ref ya1, .int sz1, .int fo1])), (xa1, .inl (cI, 8, .inl xs1)), (ya1, .inl (cI, 8, .inl ys1)), (la2, .inr (0, [.ref xa2, .ref ya2, .int sz2, .int fo2])), (xa2, .inl (cI, 8, .inl xs2)), (ya2, .inl (cI, 8, .inl ys2))]) [0, 1, 2, 3, 4, 5, 6, 7, 8, 9, 10] rfl
        have hKc := hK.sub (tys' := [(cI, .int), (cL, .object RX0)]) [0, 1] rfl
        refine vp_callSl (W.runV (As := [.int k_2]) (rest := []) ⟨hx, hb, hml, hown, hts⟩ (c_X1_togetherParts l dC dI h0 lr la0 xa0 ya0 la1 xa1 ya1 la2 xa2 ya2 cI cL f xs0 ys0 sz0 fo0 xs1 ys1 sz1 fo1 xs2 ys2 sz2 fo2 k_2 r_9 hf0 hf1 hf2 hr_9) (cwV 1 hts gX1_mostCoveredDot_X1_togetherParts rfl rfl rfl (by decide +kernel) ⟨Nat.le_of_ble_eq_true rfl, Nat.le_of_ble_eq_true rfl⟩) ⟨fun a U g mk q => ⟨q.1, q.2.1, va_K.moved (u := U) (U := U.calling g mk a) (Vm.Alike.refl U.vm) q.2.2⟩, va_recv hKc hPc (ci := 1) (q0 := 0) rfl rfl, fun U hU hW => ⟨rfl, by rw [hU]; exact hPc, va_K.moved hW.alike hKc⟩⟩ rfl rfl hl.1 rfl (lv_room (Nat.le_of_ble_eq_true rfl)) dX1_mostCoveredDot_21 ⟨Nat.le_of_ble_eq_true rfl, Nat.le_of_ble_eq_true rfl⟩) (fun r_9' qr_9 => ?_)
        obtain rfl := qr_9.symm
        refine lv_lstore (lv' := [(5, .long r_9), (4, .int k_2), (2, .long k_3), (1, .int k_4), (0, .ref h0)]) hx hb dX1_mostCoveredDot_24 hl (by decide) rfl (fun ls hl => ?_)
        refine lv_lload hx hb dX1_mostCoveredDot_26 (lv_at hl 0 rfl) ?_
        refine lv_lload_n hx hb dX1_mostCoveredDot_28 rfl (lv_at hl 2 rfl) ?_
        refine lc_le (tgt := 39) hx hb dX1_mostCoveredDot_29 dX1_mostCoveredDot_30 (by decide) (fun c_10 => ?_) (fun c_10 => ?_)
        · have hF := br1 hF c_10
          refine lv_iinc (v := (k_2 + (1 : Int32))) (lv' := [(4, .int (k_2 + (1 : Int32))), (5, .long r_9), (2, .long k_3), (1, .int k_4), (0, .ref h0)]) hx hb dX1_mostCoveredDot_39 hl (k := 1) rfl rfl (by decide) rfl (fun ls hl => ?_)
          refine lv_goto (tgt := 11) hx hb dX1_mostCoveredDot_42 (by decide) ?_
          exact ih_11 _ _ _ _ _ _ ls hF (lv_sub hl [0, 2, 3, 4] rfl) kx_11
        · have hF := br0 hF c_10
          refine lv_lload hx hb dX1_mostCoveredDot_33 (lv_at hl 0 rfl) ?_
          refine lv_lstore_n (lv' := [(2, .long r_9), (5, .long r_9), (4, .int k_2), (1, .int k_4), (0, .ref h0)]) hx hb dX1_mostCoveredDot_35 rfl hl (by decide) rfl (fun ls hl => ?_)
          refine lv_iload hx hb dX1_mostCoveredDot_36 (lv_at hl 2 rfl) ?_
          refine lv_istore_n (lv' := [(1, .int k_2), (2, .long r_9), (5, .long r_9), (4, .int k_2), (0, .ref h0)]) hx hb dX1_mostCoveredDot_38 rfl hl (by decide) rfl (fun ls hl => ?_)
          refine lv_iinc (v := (k_2 + (1 : Int32))) (lv' := [(4, .int (k_2 + (1 : Int32))), (1, .int k_2), (2, .long r_9), (5, .long r_9), (0, .ref h0)]) hx hb dX1_mostCoveredDot_39 hl (k := 3) rfl rfl (by decide) rfl (fun ls hl => ?_)
          refine lv_goto (tgt := 11) hx hb dX1_mostCoveredDot_42 (by decide) ?_
          exact ih_11 _ _ _ _ _ _ ls hF (lv_sub hl [0, 2, 1, 4] rfl) kx_11
  refine lp_11 1000 (1 : Int32) r_1 (0 : Int32) o_5 o_6 o_7 ls hL_11 hl (fun ls hl => ?_)
  refine lv_iload_n hx hb dX1_mostCoveredDot_45 rfl (lv_at hl 2 rfl) ?_
  rw [← hQ]
  exact W.iret (v := o_7) hx hb hr (fun t ht hW => ⟨_, rfl, Option.some.inj hF, ht⟩) (fun _ h => by cases h) dX1_mostCoveredDot_46

def L_X1_leastCoveredDot_11 (xs0 : Nat → Int32) (ys0 : Nat → Int32) (sz0 : Int32) (fo0 : Int32) (xs1 : Nat → Int32) (ys1 : Nat → Int32) (sz1 : Int32) (fo1 : Int32) (xs2 : Nat → Int32) (ys2 : Nat → Int32) (sz2 : Int32) (fo2 : Int32) : Nat → Int32 → Int64 → Int32 → Option (Int32 × Int64 × Int32)
  | 0, _, _, _ => none
  | n + 1, k_2, k_3, k_4 =>
    if (16 : Int32) ≤ k_2 then
      some (k_2, k_3, k_4)
    else
      bd1 (P_X1_togetherParts k_2 xs0 ys0 sz0 fo0 xs1 ys1 sz1 fo1 xs2 ys2 sz2 fo2) (fun r_9 =>
      if k_3 ≤ r_9 then
        L_X1_leastCoveredDot_11 xs0 ys0 sz0 fo0 xs1 ys1 sz1 fo1 xs2 ys2 sz2 fo2 n (k_2 + (1 : Int32)) k_3 k_4
      else
        L_X1_leastCoveredDot_11 xs0 ys0 sz0 fo0 xs1 ys1 sz1 fo1 xs2 ys2 sz2 fo2 n (k_2 + (1 : Int32)) r_9 k_2)
theorem L_X1_leastCoveredDot_11_s (xs0 : Nat → Int32) (ys0 : Nat → Int32) (sz0 : Int32) (fo0 : Int32) (xs1 : Nat → Int32) (ys1 : Nat → Int32) (sz1 : Int32) (fo1 : Int32) (xs2 : Nat → Int32) (ys2 : Nat → Int32) (sz2 : Int32) (fo2 : Int32) (n : Nat) (k_2 : Int32) (k_3 : Int64) (k_4 : Int32) : L_X1_leastCoveredDot_11 xs0 ys0 sz0 fo0 xs1 ys1 sz1 fo1 xs2 ys2 sz2 fo2 (n + 1) k_2 k_3 k_4 =
    (if (16 : Int32) ≤ k_2 then
      some (k_2, k_3, k_4)
    else
      bd1 (P_X1_togetherParts k_2 xs0 ys0 sz0 fo0 xs1 ys1 sz1 fo1 xs2 ys2 sz2 fo2) (fun r_9 =>
      if k_3 ≤ r_9 then
        L_X1_leastCoveredDot_11 xs0 ys0 sz0 fo0 xs1 ys1 sz1 fo1 xs2 ys2 sz2 fo2 n (k_2 + (1 : Int32)) k_3 k_4
      else
        L_X1_leastCoveredDot_11 xs0 ys0 sz0 fo0 xs1 ys1 sz1 fo1 xs2 ys2 sz2 fo2 n (k_2 + (1 : Int32)) r_9 k_2)) := rfl

def P_X1_leastCoveredDot (xs0 : Nat → Int32) (ys0 : Nat → Int32) (sz0 : Int32) (fo0 : Int32) (xs1 : Nat → Int32) (ys1 : Nat → Int32) (sz1 : Int32) (fo1 : Int32) (xs2 : Nat → Int32) (ys2 : Nat → Int32) (sz2 : Int32) (fo2 : Int32) : Option (Int32) :=
  bd1 (P_X1_togetherParts (0 : Int32) xs0 ys0 sz0 fo0 xs1 ys1 sz1 fo1 xs2 ys2 sz2 fo2) (fun r_1 =>
  bd3 (L_X1_leastCoveredDot_11 xs0 ys0 sz0 fo0 xs1 ys1 sz1 fo1 xs2 ys2 sz2 fo2 1000 (1 : Int32) r_1 (0 : Int32)) (fun o_5 o_6 o_7 =>
  some o_7))

def rm_X1_leastCoveredDot : Room := { frames := 5, cells := 0, slots := 0, locals := 138 }

set_option maxHeartbeats 4000000 in
set_option maxRecDepth 100000 in
theorem c_X1_leastCoveredDot (l : Launch) (dC : Nat → ClassId) (dI : Nat → Nat → Nat) (h0 lr la0 xa0 ya0 la1 xa1 ya1 la2 xa2 ya2 : Nat) (cI cL : ClassId) (f : Nat → Option Nat) (xs0 : Nat → Int32) (ys0 : Nat → Int32) (sz0 : Int32) (fo0 : Int32) (xs1 : Nat → Int32) (ys1 : Nat → Int32) (sz1 : Int32) (fo1 : Int32) (xs2 : Nat → Int32) (ys2 : Nat → Int32) (sz2 : Int32) (fo2 : Int32) (r0 : Int32) (hf0 : f 0 = some la0) (hf1 : f 1 = some la1) (hf2 : f 2 = some la2) (hF : P_X1_leastCoveredDot xs0 ys0 sz0 fo0 xs1 ys1 sz1 fo1 xs2 ys2 sz2 fo2 = some r0) : Met l yX1_leastCoveredDot wsX1_leastCoveredDot rm_X1_leastCoveredDot (va_Pc [.ref h0] (fun U => va_P (dC, dI) vwCl [(h0, .inr (1, [.ref lr])), (lr, .inl (cL, 3, .inr (.inr (.inr (.inr f))))), (la0, .inr (0, [.ref xa0, .ref ya0, .int sz0, .int fo0])), (xa0, .inl (cI, 8, .inl xs0)), (ya0, .inl (cI, 8, .inl ys0)), (la1, .inr (0, [.ref xa1, .ref ya1, .int sz1, .int fo1])), (xa1, .inl (cI, 8, .inl xs1)), (ya1, .inl (cI, 8, .inl ys1)), (la2, .inr (0, [.ref xa2, .ref ya2, .int sz2, .int fo2])), (xa2, .inl (cI, 8, .inl xs2)), (ya2, .inl (cI, 8, .inl ys2))] U.heap ∧ va_K (dC, dI) vwCl [(cI, .int), (cL, .object RX0)] U)) (vp_Si (fun x => x = r0)) 0 0 (fun _ => False) := by
  refine Met.ofW (cc := cX1_leastCoveredDot) (maxL := 7) (ret := (some .int)) (by decide) rfl ?_
  intro p e s m args below meth c s₁ B hml hv
  change W p l e rm_X1_leastCoveredDot s m args below meth c s.heap [] 0 0 _ _
  obtain ⟨hv, hP, hK⟩ := hv
  have hx := B.exec
  have hb := B.bytes
  have hr := B.returns
  have hts := atoms_spec (ws := wsX1_leastCoveredDot) B.pre
  have hown : s.vm.findClass RX1 = some m.cls := findClass_of_methodNamed B.named
  have hlocks := B.notSynchronized
  generalize hQ : MQ below (vp_Si (fun x => x = r0)) args s 0 0 (fun _ => False) = Q
  have hl := lv_entry ([.ref h0]) (n := 7) (Nat.le_of_ble_eq_true rfl)
  have hE : entryFrame m args 7 = F0 m 0 ((lg_sl ([.ref h0]) ++ List.replicate (7 - (lg_sl ([.ref h0])).length) Slot.unset).toArray) [] := by rw [hv]; exact lg_entry_eq m _ 7
  rw [hE]
  generalize (lg_sl ([.ref h0]) ++ List.replicate (7 - (lg_sl ([.ref h0])).length) Slot.unset).toArray = ls at hl ⊢
  have hl : lv_has ls 7 [(0, .ref h0)] := hl
  unfold P_X1_leastCoveredDot at hF
  refine lv_iconst (v := 0) hx hb dX1_leastCoveredDot_0 (by decide) ?_
  refine lv_istore_n (lv' := [(1, .int (0 : Int32)), (0, .ref h0)]) hx hb dX1_leastCoveredDot_1 rfl hl (by decide) rfl (fun ls hl => ?_)
  refine lv_aload_n hx hb dX1_leastCoveredDot_2 rfl (lv_at hl 1 rfl) ?_
  refine lv_iconst (v := 0) hx hb dX1_leastCoveredDot_3 (by decide) ?_
  obtain ⟨r_1, hr_1, hF⟩ := bd1_u hF
  have hPc := hP.sub (ws' := [(h0, .inr (1, [.ref lr])), (lr, .inl (cL, 3, .inr (.inr (.inr (.inr f))))), (la0, .inr (0, [.ref xa0, .ref ya0, .int sz0, .int fo0])), (xa0, .inl (cI, 8, .inl xs0)), (ya0, .inl (cI, 8, .inl ys0)), (la1, .inr (0, [.ref xa1, .ref ya1, .int sz1, .int fo1])), (xa1, .inl (cI, 8, .inl xs1)), (ya1, .inl (cI, 8, .inl ys1)), (la2, .inr (0, [.ref xa2, .ref ya2, .int sz2, .int fo2])), (xa2, .inl (cI, 8, .inl xs2)), (ya2, .inl (cI, 8, .inl ys2))]) [0, 1, 2, 3, 4, 5, 6, 7, 8, 9, 10] rfl
  have hKc := hK.sub (tys' := [(cI, .int), (cL, .object RX0)]) [0, 1] rfl
  refine vp_callSl (W.runV (As := [.int (0 : Int32)]) (rest := []) ⟨hx, hb, hml, hown, hts⟩ (c_X1_togetherParts l dC dI h0 lr la0 xa0 ya0 la1 xa1 ya1 la2 xa2 ya2 cI cL f xs0 ys0 sz0 fo0 xs1 ys1 sz1 fo1 xs2 ys2 sz2 fo2 (0 : Int32) r_1 hf0 hf1 hf2 hr_1) (cwV 1 hts gX1_leastCoveredDot_X1_togetherParts rfl rfl rfl (by decide +kernel) ⟨Nat.le_of_ble_eq_true rfl, Nat.le_of_ble_eq_true rfl⟩) ⟨fun a U g mk q => ⟨q.1, q.2.1, va_K.moved (u := U) (U := U.calling g mk a) (Vm.Alike.refl U.vm) q.2.2⟩, va_recv hKc hPc (ci := 1) (q0 := 0) rfl rfl, fun U hU hW => ⟨rfl, by rw [hU]; exact hPc, va_K.moved hW.alike hKc⟩⟩ rfl rfl hl.1 rfl (lv_room (Nat.le_of_ble_eq_true rfl)) dX1_leastCoveredDot_4 ⟨Nat.le_of_ble_eq_true rfl, Nat.le_of_ble_eq_true rfl⟩) (fun r_1' qr_1 => ?_)
  obtain rfl := qr_1.symm
  refine lv_lstore_n (lv' := [(2, .long r_1), (1, .int (0 : Int32)), (0, .ref h0)]) hx hb dX1_leastCoveredDot_7 rfl hl (by decide) rfl (fun ls hl => ?_)
  refine lv_iconst (v := 1) hx hb dX1_leastCoveredDot_8 (by decide) ?_
  refine lv_istore (lv' := [(4, .int (1 : Int32)), (2, .long r_1), (1, .int (0 : Int32)), (0, .ref h0)]) hx hb dX1_leastCoveredDot_9 hl (by decide) rfl (fun ls hl => ?_)
  obtain ⟨o_5, o_6, o_7, hL_11, hF⟩ := bd3_u hF
  have lp_11 : ∀ (n : Nat) (k_2 : Int32) (k_3 : Int64) (k_4 : Int32) (o_5 : Int32) (o_6 : Int64) (o_7 : Int32) (ls : Array Slot), L_X1_leastCoveredDot_11 xs0 ys0 sz0 fo0 xs1 ys1 sz1 fo1 xs2 ys2 sz2 fo2 n k_2 k_3 k_4 = some (o_5, o_6, o_7) → lv_has ls 7 [(4, .int k_2), (2, .long k_3), (1, .int k_4), (0, .ref h0)] → (∀ (ls : Array Slot), lv_has ls 7 [(4, .int o_5), (2, .long o_6), (1, .int o_7), (0, .ref h0)] → W p l e rm_X1_leastCoveredDot s m args below meth c s.heap [] 0 0 Q (F0 m 45 ls [])) → W p l e rm_X1_leastCoveredDot s m args below meth c s.heap [] 0 0 Q (F0 m 11 ls []) := by
    intro n
    induction n with
    | zero =>
      intro k_2 k_3 k_4 o_5 o_6 o_7 ls hF
      exact nn ((rfl : L_X1_leastCoveredDot_11 xs0 ys0 sz0 fo0 xs1 ys1 sz1 fo1 xs2 ys2 sz2 fo2 0 k_2 k_3 k_4 = none).symm.trans hF)
    | succ n ih_11 =>
      intro k_2 k_3 k_4 o_5 o_6 o_7 ls hF hl kx_11
      have hF := (L_X1_leastCoveredDot_11_s xs0 ys0 sz0 fo0 xs1 ys1 sz1 fo1 xs2 ys2 sz2 fo2 n k_2 k_3 k_4).symm.trans hF
      refine lv_iload hx hb dX1_leastCoveredDot_11 (lv_at hl 0 rfl) ?_
      refine lv_bipush (v := 16) hx hb dX1_leastCoveredDot_13 (by decide) ?_
      refine lv_icmp_ge (tgt := 45) hx hb dX1_leastCoveredDot_15 (by decide) (fun c_8 => ?_) (fun c_8 => ?_)
      · have hF := br1 hF c_8
        obtain ⟨rfl, rfl, rfl⟩ := tp3 hF
        exact kx_11 ls hl
      · have hF := br0 hF c_8
        refine lv_aload_n hx hb dX1_leastCoveredDot_18 rfl (lv_at hl 3 rfl) ?_
        refine lv_iload hx hb dX1_leastCoveredDot_19 (lv_at hl 0 rfl) ?_
        obtain ⟨r_9, hr_9, hF⟩ := bd1_u hF
        have hPc := hP.sub (ws' := [(h0, .inr (1, [.ref lr])), (lr, .inl (cL, 3, .inr (.inr (.inr (.inr f))))), (la0, .inr (0, [.ref xa0, .ref ya0, .int sz0, .int fo0])), (xa0, .inl (cI, 8, .inl xs0)), (ya0, .inl (cI, 8, .inl ys0)), (la1, .inr (0, [.ref xa1, .ref ya1, .int sz1, .int fo1])), (xa1, .inl (cI, 8, .inl xs1)), (ya1, .inl (cI, 8, .inl ys1)), (la2, .inr (0, [.ref xa2, .ref ya2, .int sz2, .int fo2])), (xa2, .inl (cI, 8, .inl xs2)), (ya2, .inl (cI, 8, .inl ys2))]) [0, 1, 2, 3, 4, 5, 6, 7, 8, 9, 10] rfl
        have hKc := hK.sub (tys' := [(cI, .int), (cL, .object RX0)]) [0, 1] rfl
        refine vp_callSl (W.runV (As := [.int k_2]) (rest := []) ⟨hx, hb, hml, hown, hts⟩ (c_X1_togetherParts l dC dI h0 lr la0 xa0 ya0 la1 xa1 ya1 la2 xa2 ya2 cI cL f xs0 ys0 sz0 fo0 xs1 ys1 sz1 fo1 xs2 ys2 sz2 fo2 k_2 r_9 hf0 hf1 hf2 hr_9) (cwV 1 hts gX1_leastCoveredDot_X1_togetherParts rfl rfl rfl (by decide +kernel) ⟨Nat.le_of_ble_eq_true rfl, Nat.le_of_ble_eq_true rfl⟩) ⟨fun a U g mk q => ⟨q.1, q.2.1, va_K.moved (u := U) (U := U.calling g mk a) (Vm.Alike.refl U.vm) q.2.2⟩, va_recv hKc hPc (ci := 1) (q0 := 0) rfl rfl, fun U hU hW => ⟨rfl, by rw [hU]; exact hPc, va_K.moved hW.alike hKc⟩⟩ rfl rfl hl.1 rfl (lv_room (Nat.le_of_ble_eq_true rfl)) dX1_leastCoveredDot_21 ⟨Nat.le_of_ble_eq_true rfl, Nat.le_of_ble_eq_true rfl⟩) (fun r_9' qr_9 => ?_)
        obtain rfl := qr_9.symm
        refine lv_lstore (lv' := [(5, .long r_9), (4, .int k_2), (2, .long k_3), (1, .int k_4), (0, .ref h0)]) hx hb dX1_leastCoveredDot_24 hl (by decide) rfl (fun ls hl => ?_)
        refine lv_lload hx hb dX1_leastCoveredDot_26 (lv_at hl 0 rfl) ?_
        refine lv_lload_n hx hb dX1_leastCoveredDot_28 rfl (lv_at hl 2 rfl) ?_
        refine lc_ge (tgt := 39) hx hb dX1_leastCoveredDot_29 dX1_leastCoveredDot_30 (by decide) (fun c_10 => ?_) (fun c_10 => ?_)
        · have hF := br1 hF c_10
          refine lv_iinc (v := (k_2 + (1 : Int32))) (lv' := [(4, .int (k_2 + (1 : Int32))), (5, .long r_9), (2, .long k_3), (1, .int k_4), (0, .ref h0)]) hx hb dX1_leastCoveredDot_39 hl (k := 1) rfl rfl (by decide) rfl (fun ls hl => ?_)
          refine lv_goto (tgt := 11) hx hb dX1_leastCoveredDot_42 (by decide) ?_
          exact ih_11 _ _ _ _ _ _ ls hF (lv_sub hl [0, 2, 3, 4] rfl) kx_11
        · have hF := br0 hF c_10
          refine lv_lload hx hb dX1_leastCoveredDot_33 (lv_at hl 0 rfl) ?_
          refine lv_lstore_n (lv' := [(2, .long r_9), (5, .long r_9), (4, .int k_2), (1, .int k_4), (0, .ref h0)]) hx hb dX1_leastCoveredDot_35 rfl hl (by decide) rfl (fun ls hl => ?_)
          refine lv_iload hx hb dX1_leastCoveredDot_36 (lv_at hl 2 rfl) ?_
          refine lv_istore_n (lv' := [(1, .int k_2), (2, .long r_9), (5, .long r_9), (4, .int k_2), (0, .ref h0)]) hx hb dX1_leastCoveredDot_38 rfl hl (by decide) rfl (fun ls hl => ?_)
          refine lv_iinc (v := (k_2 + (1 : Int32))) (lv' := [(4, .int (k_2 + (1 : Int32))), (1, .int k_2), (2, .long r_9), (5, .long r_9), (0, .ref h0)]) hx hb dX1_leastCoveredDot_39 hl (k := 3) rfl rfl (by decide) rfl (fun ls hl => ?_)
          refine lv_goto (tgt := 11) hx hb dX1_leastCoveredDot_42 (by decide) ?_
          exact ih_11 _ _ _ _ _ _ ls hF (lv_sub hl [0, 2, 1, 4] rfl) kx_11
  refine lp_11 1000 (1 : Int32) r_1 (0 : Int32) o_5 o_6 o_7 ls hL_11 hl (fun ls hl => ?_)
  refine lv_iload_n hx hb dX1_leastCoveredDot_45 rfl (lv_at hl 2 rfl) ?_
  rw [← hQ]
  exact W.iret (v := o_7) hx hb hr (fun t ht hW => ⟨_, rfl, Option.some.inj hF, ht⟩) (fun _ h => by cases h) dX1_leastCoveredDot_46

def L_X1_dotsWithTogether_5 (xs0 : Nat → Int32) (ys0 : Nat → Int32) (sz0 : Int32) (fo0 : Int32) (xs1 : Nat → Int32) (ys1 : Nat → Int32) (sz1 : Int32) (fo1 : Int32) (xs2 : Nat → Int32) (ys2 : Nat → Int32) (sz2 : Int32) (fo2 : Int32) (a0 : Int64) : Nat → Int32 → Int32 → Option (Int32 × Int32)
  | 0, _, _ => none
  | n + 1, k_1, k_2 =>
    if (16 : Int32) ≤ k_1 then
      some (k_1, k_2)
    else
      bd1 (P_X1_togetherParts k_1 xs0 ys0 sz0 fo0 xs1 ys1 sz1 fo1 xs2 ys2 sz2 fo2) (fun r_6 =>
      if r_6 = a0 then
        L_X1_dotsWithTogether_5 xs0 ys0 sz0 fo0 xs1 ys1 sz1 fo1 xs2 ys2 sz2 fo2 a0 n (k_1 + (1 : Int32)) (k_2 + (1 : Int32))
      else
        L_X1_dotsWithTogether_5 xs0 ys0 sz0 fo0 xs1 ys1 sz1 fo1 xs2 ys2 sz2 fo2 a0 n (k_1 + (1 : Int32)) k_2)
theorem L_X1_dotsWithTogether_5_s (xs0 : Nat → Int32) (ys0 : Nat → Int32) (sz0 : Int32) (fo0 : Int32) (xs1 : Nat → Int32) (ys1 : Nat → Int32) (sz1 : Int32) (fo1 : Int32) (xs2 : Nat → Int32) (ys2 : Nat → Int32) (sz2 : Int32) (fo2 : Int32) (a0 : Int64) (n : Nat) (k_1 : Int32) (k_2 : Int32) : L_X1_dotsWithTogether_5 xs0 ys0 sz0 fo0 xs1 ys1 sz1 fo1 xs2 ys2 sz2 fo2 a0 (n + 1) k_1 k_2 =
    (if (16 : Int32) ≤ k_1 then
      some (k_1, k_2)
    else
      bd1 (P_X1_togetherParts k_1 xs0 ys0 sz0 fo0 xs1 ys1 sz1 fo1 xs2 ys2 sz2 fo2) (fun r_6 =>
      if r_6 = a0 then
        L_X1_dotsWithTogether_5 xs0 ys0 sz0 fo0 xs1 ys1 sz1 fo1 xs2 ys2 sz2 fo2 a0 n (k_1 + (1 : Int32)) (k_2 + (1 : Int32))
      else
        L_X1_dotsWithTogether_5 xs0 ys0 sz0 fo0 xs1 ys1 sz1 fo1 xs2 ys2 sz2 fo2 a0 n (k_1 + (1 : Int32)) k_2)) := rfl

def P_X1_dotsWithTogether (a0 : Int64) (xs0 : Nat → Int32) (ys0 : Nat → Int32) (sz0 : Int32) (fo0 : Int32) (xs1 : Nat → Int32) (ys1 : Nat → Int32) (sz1 : Int32) (fo1 : Int32) (xs2 : Nat → Int32) (ys2 : Nat → Int32) (sz2 : Int32) (fo2 : Int32) : Option (Int32) :=
  bd2 (L_X1_dotsWithTogether_5 xs0 ys0 sz0 fo0 xs1 ys1 sz1 fo1 xs2 ys2 sz2 fo2 a0 1000 (0 : Int32) (0 : Int32)) (fun o_3 o_4 =>
  some o_4)

def rm_X1_dotsWithTogether : Room := { frames := 5, cells := 0, slots := 0, locals := 138 }

set_option maxHeartbeats 4000000 in
set_option maxRecDepth 100000 in
theorem c_X1_dotsWithTogether (l : Launch) (dC : Nat → ClassId) (dI : Nat → Nat → Nat) (h0 lr la0 xa0 ya0 la1 xa1 ya1 la2 xa2 ya2 : Nat) (cI cL : ClassId) (f : Nat → Option Nat) (xs0 : Nat → Int32) (ys0 : Nat → Int32) (sz0 : Int32) (fo0 : Int32) (xs1 : Nat → Int32) (ys1 : Nat → Int32) (sz1 : Int32) (fo1 : Int32) (xs2 : Nat → Int32) (ys2 : Nat → Int32) (sz2 : Int32) (fo2 : Int32) (a0 : Int64) (r0 : Int32) (hf0 : f 0 = some la0) (hf1 : f 1 = some la1) (hf2 : f 2 = some la2) (hF : P_X1_dotsWithTogether a0 xs0 ys0 sz0 fo0 xs1 ys1 sz1 fo1 xs2 ys2 sz2 fo2 = some r0) : Met l yX1_dotsWithTogether wsX1_dotsWithTogether rm_X1_dotsWithTogether (va_Pc [.ref h0, .long a0] (fun U => va_P (dC, dI) vwCl [(h0, .inr (1, [.ref lr])), (lr, .inl (cL, 3, .inr (.inr (.inr (.inr f))))), (la0, .inr (0, [.ref xa0, .ref ya0, .int sz0, .int fo0])), (xa0, .inl (cI, 8, .inl xs0)), (ya0, .inl (cI, 8, .inl ys0)), (la1, .inr (0, [.ref xa1, .ref ya1, .int sz1, .int fo1])), (xa1, .inl (cI, 8, .inl xs1)), (ya1, .inl (cI, 8, .inl ys1)), (la2, .inr (0, [.ref xa2, .ref ya2, .int sz2, .int fo2])), (xa2, .inl (cI, 8, .inl xs2)), (ya2, .inl (cI, 8, .inl ys2))] U.heap ∧ va_K (dC, dI) vwCl [(cI, .int), (cL, .object RX0)] U)) (vp_Si (fun x => x = r0)) 0 0 (fun _ => False) := by
  refine Met.ofW (cc := cX1_dotsWithTogether) (maxL := 5) (ret := (some .int)) (by decide) rfl ?_
  intro p e s m args below meth c s₁ B hml hv
  change W p l e rm_X1_dotsWithTogether s m args below meth c s.heap [] 0 0 _ _
  obtain ⟨hv, hP, hK⟩ := hv
  have hx := B.exec
  have hb := B.bytes
  have hr := B.returns
  have hts := atoms_spec (ws := wsX1_dotsWithTogether) B.pre
  have hown : s.vm.findClass RX1 = some m.cls := findClass_of_methodNamed B.named
  have hlocks := B.notSynchronized
  generalize hQ : MQ below (vp_Si (fun x => x = r0)) args s 0 0 (fun _ => False) = Q
  have hl := lv_entry ([.ref h0, .long a0]) (n := 5) (Nat.le_of_ble_eq_true rfl)
  have hE : entryFrame m args 5 = F0 m 0 ((lg_sl ([.ref h0, .long a0]) ++ List.replicate (5 - (lg_sl ([.ref h0, .long a0])).length) Slot.unset).toArray) [] := by rw [hv]; exact lg_entry_eq m _ 5
  rw [hE]
  generalize (lg_sl ([.ref h0, .long a0]) ++ List.replicate (5 - (lg_sl ([.ref h0, .long a0])).length) Slot.unset).toArray = ls at hl ⊢
  have hl : lv_has ls 5 [(0, .ref h0), (1, .long a0)] := hl
  unfold P_X1_dotsWithTogether at hF
  refine lv_iconst (v := 0) hx hb dX1_dotsWithTogether_0 (by decide) ?_
  refine lv_istore_n (lv' := [(3, .int (0 : Int32)), (0, .ref h0), (1, .long a0)]) hx hb dX1_dotsWithTogether_1 rfl hl (by decide) rfl (fun ls hl => ?_)
  refine lv_iconst (v := 0) hx hb dX1_dotsWithTogether_2 (by decide) ?_
  refine lv_istore (lv' := [(4, .int (0 : Int32)), (3, .int (0 : Int32)), (0, .ref h0), (1, .long a0)]) hx hb dX1_dotsWithTogether_3 hl (by decide) rfl (fun ls hl => ?_)
  obtain ⟨o_3, o_4, hL_5, hF⟩ := bd2_u hF
  have lp_5 : ∀ (n : Nat) (k_1 : Int32) (k_2 : Int32) (o_3 : Int32) (o_4 : Int32) (ls : Array Slot), L_X1_dotsWithTogether_5 xs0 ys0 sz0 fo0 xs1 ys1 sz1 fo1 xs2 ys2 sz2 fo2 a0 n k_1 k_2 = some (o_3, o_4) → lv_has ls 5 [(4, .int k_1), (3, .int k_2), (0, .ref h0), (1, .long a0)] → (∀ (ls : Array Slot), lv_has ls 5 [(4, .int o_3), (3, .int o_4), (0, .ref h0), (1, .long a0)] → W p l e rm_X1_dotsWithTogether s m args below meth c s.heap [] 0 0 Q (F0 m 32 ls [])) → W p l e rm_X1_dotsWithTogether s m args below meth c s.heap [] 0 0 Q (F0 m 5 ls []) := by
    intro n
    induction n with
    | zero =>
      intro k_1 k_2 o_3 o_4 ls hF
      exact nn ((rfl : L_X1_dotsWithTogether_5 xs0 ys0 sz0 fo0 xs1 ys1 sz1 fo1 xs2 ys2 sz2 fo2 a0 0 k_1 k_2 = none).symm.trans hF)
    | succ n ih_5 =>
      intro k_1 k_2 o_3 o_4 ls hF hl kx_5
      have hF := (L_X1_dotsWithTogether_5_s xs0 ys0 sz0 fo0 xs1 ys1 sz1 fo1 xs2 ys2 sz2 fo2 a0 n k_1 k_2).symm.trans hF
      refine lv_iload hx hb dX1_dotsWithTogether_5 (lv_at hl 0 rfl) ?_
      refine lv_bipush (v := 16) hx hb dX1_dotsWithTogether_7 (by decide) ?_
      refine lv_icmp_ge (tgt := 32) hx hb dX1_dotsWithTogether_9 (by decide) (fun c_5 => ?_) (fun c_5 => ?_)
      · have hF := br1 hF c_5
        obtain ⟨rfl, rfl⟩ := tp2 hF
        exact kx_5 ls hl
      · have hF := br0 hF c_5
        refine lv_aload_n hx hb dX1_dotsWithTogether_12 rfl (lv_at hl 2 rfl) ?_
        refine lv_iload hx hb dX1_dotsWithTogether_13 (lv_at hl 0 rfl) ?_
        obtain ⟨r_6, hr_6, hF⟩ := bd1_u hF
        have hPc := hP.sub (ws' := [(h0, .inr (1, [.ref lr])), (lr, .inl (cL, 3, .inr (.inr (.inr (.inr f))))), (la0, .inr (0, [.ref xa0, .ref ya0, .int sz0, .int fo0])), (xa0, .inl (cI, 8, .inl xs0)), (ya0, .inl (cI, 8, .inl ys0)), (la1, .inr (0, [.ref xa1, .ref ya1, .int sz1, .int fo1])), (xa1, .inl (cI, 8, .inl xs1)), (ya1, .inl (cI, 8, .inl ys1)), (la2, .inr (0, [.ref xa2, .ref ya2, .int sz2, .int fo2])), (xa2, .inl (cI, 8, .inl xs2)), (ya2, .inl (cI, 8, .inl ys2))]) [0, 1, 2, 3, 4, 5, 6, 7, 8, 9, 10] rfl
        have hKc := hK.sub (tys' := [(cI, .int), (cL, .object RX0)]) [0, 1] rfl
        refine vp_callSl (W.runV (As := [.int k_1]) (rest := []) ⟨hx, hb, hml, hown, hts⟩ (c_X1_togetherParts l dC dI h0 lr la0 xa0 ya0 la1 xa1 ya1 la2 xa2 ya2 cI cL f xs0 ys0 sz0 fo0 xs1 ys1 sz1 fo1 xs2 ys2 sz2 fo2 k_1 r_6 hf0 hf1 hf2 hr_6) (cwV 1 hts gX1_dotsWithTogether_X1_togetherParts rfl rfl rfl (by decide +kernel) ⟨Nat.le_of_ble_eq_true rfl, Nat.le_of_ble_eq_true rfl⟩) ⟨fun a U g mk q => ⟨q.1, q.2.1, va_K.moved (u := U) (U := U.calling g mk a) (Vm.Alike.refl U.vm) q.2.2⟩, va_recv hKc hPc (ci := 1) (q0 := 0) rfl rfl, fun U hU hW => ⟨rfl, by rw [hU]; exact hPc, va_K.moved hW.alike hKc⟩⟩ rfl rfl hl.1 rfl (lv_room (Nat.le_of_ble_eq_true rfl)) dX1_dotsWithTogether_15 ⟨Nat.le_of_ble_eq_true rfl, Nat.le_of_ble_eq_true rfl⟩) (fun r_6' qr_6 => ?_)
        obtain rfl := qr_6.symm
        refine lv_lload_n hx hb dX1_dotsWithTogether_18 rfl (lv_at hl 3 rfl) ?_
        refine lc_ne (tgt := 26) hx hb dX1_dotsWithTogether_19 dX1_dotsWithTogether_20 (by decide) (fun c_7 => ?_) (fun c_7 => ?_)
        · have hF := br0 hF c_7
          refine lv_iinc (v := (k_1 + (1 : Int32))) (lv' := [(4, .int (k_1 + (1 : Int32))), (3, .int k_2), (0, .ref h0), (1, .long a0)]) hx hb dX1_dotsWithTogether_26 hl (k := 0) rfl rfl (by decide) rfl (fun ls hl => ?_)
          refine lv_goto (tgt := 5) hx hb dX1_dotsWithTogether_29 (by decide) ?_
          exact ih_5 _ _ _ _ ls hF hl kx_5
        · have hF := br1 hF c_7
          refine lv_iinc (v := (k_2 + (1 : Int32))) (lv' := [(3, .int (k_2 + (1 : Int32))), (4, .int k_1), (0, .ref h0), (1, .long a0)]) hx hb dX1_dotsWithTogether_23 hl (k := 1) rfl rfl (by decide) rfl (fun ls hl => ?_)
          refine lv_iinc (v := (k_1 + (1 : Int32))) (lv' := [(4, .int (k_1 + (1 : Int32))), (3, .int (k_2 + (1 : Int32))), (0, .ref h0), (1, .long a0)]) hx hb dX1_dotsWithTogether_26 hl (k := 1) rfl rfl (by decide) rfl (fun ls hl => ?_)
          refine lv_goto (tgt := 5) hx hb dX1_dotsWithTogether_29 (by decide) ?_
          exact ih_5 _ _ _ _ ls hF hl kx_5
  refine lp_5 1000 (0 : Int32) (0 : Int32) o_3 o_4 ls hL_5 hl (fun ls hl => ?_)
  refine lv_iload_n hx hb dX1_dotsWithTogether_32 rfl (lv_at hl 1 rfl) ?_
  rw [← hQ]
  exact W.iret (v := o_4) hx hb hr (fun t ht hW => ⟨_, rfl, Option.some.inj hF, ht⟩) (fun _ h => by cases h) dX1_dotsWithTogether_33

