def P_X2_within (a0 : Int32) (a1 : Int32) (a2 : Int32) : Option (Int32) :=
  if a0 < a1 then
    some (0 : Int32)
  else
    if a2 < a0 then
      some (0 : Int32)
    else
      some (1 : Int32)

def rm_X2_within : Room := { frames := 0, cells := 0, slots := 0, locals := 0 }

set_option maxHeartbeats 4000000 in
set_option maxRecDepth 100000 in
theorem c_X2_within (l : Launch) (a0 : Int32) (a1 : Int32) (a2 : Int32) (r0 : Int32) (hF : P_X2_within a0 a1 a2 = some r0) : Met l yX2_within wsX2_within rm_X2_within (fun v _ => v = ([.int a0, .int a1, .int a2] : List Value).toArray) (vp_Si (fun x => x = r0)) 0 0 (fun _ => False) := by
  refine Met.ofW (cc := cX2_within) (maxL := 3) (ret := (some .boolean)) (by decide) rfl ?_
  intro p e s m args below meth c s₁ B hml hv
  change W p l e rm_X2_within s m args below meth c s.heap [] 0 0 _ _
  have hx := B.exec
  have hb := B.bytes
  have hr := B.returns
  have hts := atoms_spec (ws := wsX2_within) B.pre
  have hown : s.vm.findClass RX2 = some m.cls := findClass_of_methodNamed B.named
  have hlocks := B.notSynchronized
  generalize hQ : MQ below (vp_Si (fun x => x = r0)) args s 0 0 (fun _ => False) = Q
  have hl := lv_entry ([.int a0, .int a1, .int a2]) (n := 3) (Nat.le_of_ble_eq_true rfl)
  have hE : entryFrame m args 3 = F0 m 0 ((lg_sl ([.int a0, .int a1, .int a2]) ++ List.replicate (3 - (lg_sl ([.int a0, .int a1, .int a2])).length) Slot.unset).toArray) [] := by rw [hv]; exact lg_entry_eq m _ 3
  rw [hE]
  generalize (lg_sl ([.int a0, .int a1, .int a2]) ++ List.replicate (3 - (lg_sl ([.int a0, .int a1, .int a2])).length) Slot.unset).toArray = ls at hl ⊢
  have hl : lv_has ls 3 [(0, .int a0), (1, .int a1), (2, .int a2)] := hl
  unfold P_X2_within at hF
  refine lv_iload_n hx hb dX2_within_0 rfl (lv_at hl 0 rfl) ?_
  refine lv_iload_n hx hb dX2_within_1 rfl (lv_at hl 1 rfl) ?_
  refine lv_icmp_lt (tgt := 14) hx hb dX2_within_2 (by decide) (fun c_1 => ?_) (fun c_1 => ?_)
  · have hF := br1 hF c_1
    refine lv_iconst (v := 0) hx hb dX2_within_14 (by decide) ?_
    rw [← hQ]
    exact W.zret (ty := .boolean) (v := (0 : Int32)) hx hb hr rfl (fun t ht hW => ⟨_, rfl, Option.some.inj hF, ht⟩) (fun _ h => by cases h) dX2_within_15
  · have hF := br0 hF c_1
    refine lv_iload_n hx hb dX2_within_5 rfl (lv_at hl 0 rfl) ?_
    refine lv_iload_n hx hb dX2_within_6 rfl (lv_at hl 2 rfl) ?_
    refine lv_icmp_gt (tgt := 14) hx hb dX2_within_7 (by decide) (fun c_2 => ?_) (fun c_2 => ?_)
    · have hF := br1 hF c_2
      refine lv_iconst (v := 0) hx hb dX2_within_14 (by decide) ?_
      rw [← hQ]
      exact W.zret (ty := .boolean) (v := (0 : Int32)) hx hb hr rfl (fun t ht hW => ⟨_, rfl, Option.some.inj hF, ht⟩) (fun _ h => by cases h) dX2_within_15
    · have hF := br0 hF c_2
      refine lv_iconst (v := 1) hx hb dX2_within_10 (by decide) ?_
      refine lv_goto (tgt := 15) hx hb dX2_within_11 (by decide) ?_
      rw [← hQ]
      exact W.zret (ty := .boolean) (v := (1 : Int32)) hx hb hr rfl (fun t ht hW => ⟨_, rfl, Option.some.inj hF, ht⟩) (fun _ h => by cases h) dX2_within_15

def P_X2_inField (a0 : Int32) : Option (Int32) :=
  bd1 (P_X2_within a0 (0 : Int32) (12 : Int32)) (fun r_1 =>
  gd (isb r_1) (some r_1))

def rm_X2_inField : Room := { frames := 1, cells := 0, slots := 0, locals := 22 }

set_option maxHeartbeats 4000000 in
set_option maxRecDepth 100000 in
theorem c_X2_inField (l : Launch) (a0 : Int32) (r0 : Int32) (hF : P_X2_inField a0 = some r0) : Met l yX2_inField wsX2_inField rm_X2_inField (fun v _ => v = ([.int a0] : List Value).toArray) (vp_Si (fun x => x = r0)) 0 0 (fun _ => False) := by
  refine Met.ofW (cc := cX2_inField) (maxL := 1) (ret := (some .boolean)) (by decide) rfl ?_
  intro p e s m args below meth c s₁ B hml hv
  change W p l e rm_X2_inField s m args below meth c s.heap [] 0 0 _ _
  have hx := B.exec
  have hb := B.bytes
  have hr := B.returns
  have hts := atoms_spec (ws := wsX2_inField) B.pre
  have hown : s.vm.findClass RX2 = some m.cls := findClass_of_methodNamed B.named
  have hlocks := B.notSynchronized
  generalize hQ : MQ below (vp_Si (fun x => x = r0)) args s 0 0 (fun _ => False) = Q
  have hl := lv_entry ([.int a0]) (n := 1) (Nat.le_of_ble_eq_true rfl)
  have hE : entryFrame m args 1 = F0 m 0 ((lg_sl ([.int a0]) ++ List.replicate (1 - (lg_sl ([.int a0])).length) Slot.unset).toArray) [] := by rw [hv]; exact lg_entry_eq m _ 1
  rw [hE]
  generalize (lg_sl ([.int a0]) ++ List.replicate (1 - (lg_sl ([.int a0])).length) Slot.unset).toArray = ls at hl ⊢
  have hl : lv_has ls 1 [(0, .int a0)] := hl
  unfold P_X2_inField at hF
  refine lv_iload_n hx hb dX2_inField_0 rfl (lv_at hl 0 rfl) ?_
  refine lv_iconst (v := 0) hx hb dX2_inField_1 (by decide) ?_
  refine lv_bipush (v := 12) hx hb dX2_inField_2 (by decide) ?_
  obtain ⟨r_1, hr_1, hF⟩ := bd1_u hF
  refine vp_callSi (W.runS (As := [.int a0, .int (0 : Int32), .int (12 : Int32)]) (rest := []) ⟨hx, hb, hml, hown, hts⟩ (c_X2_within l a0 (0 : Int32) (12 : Int32) r_1 hr_1) (va_cwS 3 hts gX2_inField_X2_within rfl rfl rfl (by decide +kernel) ⟨Nat.le_of_ble_eq_true rfl, Nat.le_of_ble_eq_true rfl⟩) preEq rfl rfl hl.1 rfl (lv_room (Nat.le_of_ble_eq_true rfl)) dX2_inField_4 ⟨Nat.le_of_ble_eq_true rfl, Nat.le_of_ble_eq_true rfl⟩) (fun r_1' qr_1 => ?_)
  obtain rfl := qr_1.symm
  obtain ⟨hB_, hF⟩ := gd_u hF
  rw [← hQ]
  exact W.zret (ty := .boolean) (v := r_1) hx hb hr (isb_u hB_) (fun t ht hW => ⟨_, rfl, Option.some.inj hF, ht⟩) (fun _ h => by cases h) dX2_inField_7

def P_X2_isDot (a0 : Int32) : Option (Int32) :=
  bd1 (P_X2_within a0 (0 : Int32) (15 : Int32)) (fun r_1 =>
  gd (isb r_1) (some r_1))

def rm_X2_isDot : Room := { frames := 1, cells := 0, slots := 0, locals := 22 }

set_option maxHeartbeats 4000000 in
set_option maxRecDepth 100000 in
theorem c_X2_isDot (l : Launch) (a0 : Int32) (r0 : Int32) (hF : P_X2_isDot a0 = some r0) : Met l yX2_isDot wsX2_isDot rm_X2_isDot (fun v _ => v = ([.int a0] : List Value).toArray) (vp_Si (fun x => x = r0)) 0 0 (fun _ => False) := by
  refine Met.ofW (cc := cX2_isDot) (maxL := 1) (ret := (some .boolean)) (by decide) rfl ?_
  intro p e s m args below meth c s₁ B hml hv
  change W p l e rm_X2_isDot s m args below meth c s.heap [] 0 0 _ _
  have hx := B.exec
  have hb := B.bytes
  have hr := B.returns
  have hts := atoms_spec (ws := wsX2_isDot) B.pre
  have hown : s.vm.findClass RX2 = some m.cls := findClass_of_methodNamed B.named
  have hlocks := B.notSynchronized
  generalize hQ : MQ below (vp_Si (fun x => x = r0)) args s 0 0 (fun _ => False) = Q
  have hl := lv_entry ([.int a0]) (n := 1) (Nat.le_of_ble_eq_true rfl)
  have hE : entryFrame m args 1 = F0 m 0 ((lg_sl ([.int a0]) ++ List.replicate (1 - (lg_sl ([.int a0])).length) Slot.unset).toArray) [] := by rw [hv]; exact lg_entry_eq m _ 1
  rw [hE]
  generalize (lg_sl ([.int a0]) ++ List.replicate (1 - (lg_sl ([.int a0])).length) Slot.unset).toArray = ls at hl ⊢
  have hl : lv_has ls 1 [(0, .int a0)] := hl
  unfold P_X2_isDot at hF
  refine lv_iload_n hx hb dX2_isDot_0 rfl (lv_at hl 0 rfl) ?_
  refine lv_iconst (v := 0) hx hb dX2_isDot_1 (by decide) ?_
  refine lv_bipush (v := 15) hx hb dX2_isDot_2 (by decide) ?_
  obtain ⟨r_1, hr_1, hF⟩ := bd1_u hF
  refine vp_callSi (W.runS (As := [.int a0, .int (0 : Int32), .int (15 : Int32)]) (rest := []) ⟨hx, hb, hml, hown, hts⟩ (c_X2_within l a0 (0 : Int32) (15 : Int32) r_1 hr_1) (va_cwS 3 hts gX2_isDot_X2_within rfl rfl rfl (by decide +kernel) ⟨Nat.le_of_ble_eq_true rfl, Nat.le_of_ble_eq_true rfl⟩) preEq rfl rfl hl.1 rfl (lv_room (Nat.le_of_ble_eq_true rfl)) dX2_isDot_4 ⟨Nat.le_of_ble_eq_true rfl, Nat.le_of_ble_eq_true rfl⟩) (fun r_1' qr_1 => ?_)
  obtain rfl := qr_1.symm
  obtain ⟨hB_, hF⟩ := gd_u hF
  rw [← hQ]
  exact W.zret (ty := .boolean) (v := r_1) hx hb hr (isb_u hB_) (fun t ht hW => ⟨_, rfl, Option.some.inj hF, ht⟩) (fun _ h => by cases h) dX2_isDot_7

def P_X3_in (a0 : Int32) (a1 : Int32) (a2 : Int32) : Option (Int32) :=
  if a0 < a1 then
    some (0 : Int32)
  else
    if a2 < a0 then
      some (0 : Int32)
    else
      some (1 : Int32)

def rm_X3_in : Room := { frames := 0, cells := 0, slots := 0, locals := 0 }

set_option maxHeartbeats 4000000 in
set_option maxRecDepth 100000 in
theorem c_X3_in (l : Launch) (a0 : Int32) (a1 : Int32) (a2 : Int32) (r0 : Int32) (hF : P_X3_in a0 a1 a2 = some r0) : Met l yX3_in wsX3_in rm_X3_in (fun v _ => v = ([.int a0, .int a1, .int a2] : List Value).toArray) (vp_Si (fun x => x = r0)) 0 0 (fun _ => False) := by
  refine Met.ofW (cc := cX3_in) (maxL := 3) (ret := (some .boolean)) (by decide) rfl ?_
  intro p e s m args below meth c s₁ B hml hv
  change W p l e rm_X3_in s m args below meth c s.heap [] 0 0 _ _
  have hx := B.exec
  have hb := B.bytes
  have hr := B.returns
  have hts := atoms_spec (ws := wsX3_in) B.pre
  have hown : s.vm.findClass RX3 = some m.cls := findClass_of_methodNamed B.named
  have hlocks := B.notSynchronized
  generalize hQ : MQ below (vp_Si (fun x => x = r0)) args s 0 0 (fun _ => False) = Q
  have hl := lv_entry ([.int a0, .int a1, .int a2]) (n := 3) (Nat.le_of_ble_eq_true rfl)
  have hE : entryFrame m args 3 = F0 m 0 ((lg_sl ([.int a0, .int a1, .int a2]) ++ List.replicate (3 - (lg_sl ([.int a0, .int a1, .int a2])).length) Slot.unset).toArray) [] := by rw [hv]; exact lg_entry_eq m _ 3
  rw [hE]
  generalize (lg_sl ([.int a0, .int a1, .int a2]) ++ List.replicate (3 - (lg_sl ([.int a0, .int a1, .int a2])).length) Slot.unset).toArray = ls at hl ⊢
  have hl : lv_has ls 3 [(0, .int a0), (1, .int a1), (2, .int a2)] := hl
  unfold P_X3_in at hF
  refine lv_iload_n hx hb dX3_in_0 rfl (lv_at hl 0 rfl) ?_
  refine lv_iload_n hx hb dX3_in_1 rfl (lv_at hl 1 rfl) ?_
  refine lv_icmp_lt (tgt := 14) hx hb dX3_in_2 (by decide) (fun c_1 => ?_) (fun c_1 => ?_)
  · have hF := br1 hF c_1
    refine lv_iconst (v := 0) hx hb dX3_in_14 (by decide) ?_
    rw [← hQ]
    exact W.zret (ty := .boolean) (v := (0 : Int32)) hx hb hr rfl (fun t ht hW => ⟨_, rfl, Option.some.inj hF, ht⟩) (fun _ h => by cases h) dX3_in_15
  · have hF := br0 hF c_1
    refine lv_iload_n hx hb dX3_in_5 rfl (lv_at hl 0 rfl) ?_
    refine lv_iload_n hx hb dX3_in_6 rfl (lv_at hl 2 rfl) ?_
    refine lv_icmp_gt (tgt := 14) hx hb dX3_in_7 (by decide) (fun c_2 => ?_) (fun c_2 => ?_)
    · have hF := br1 hF c_2
      refine lv_iconst (v := 0) hx hb dX3_in_14 (by decide) ?_
      rw [← hQ]
      exact W.zret (ty := .boolean) (v := (0 : Int32)) hx hb hr rfl (fun t ht hW => ⟨_, rfl, Option.some.inj hF, ht⟩) (fun _ h => by cases h) dX3_in_15
    · have hF := br0 hF c_2
      refine lv_iconst (v := 1) hx hb dX3_in_10 (by decide) ?_
      refine lv_goto (tgt := 15) hx hb dX3_in_11 (by decide) ?_
      rw [← hQ]
      exact W.zret (ty := .boolean) (v := (1 : Int32)) hx hb hr rfl (fun t ht hW => ⟨_, rfl, Option.some.inj hF, ht⟩) (fun _ h => by cases h) dX3_in_15

def P_X3_isLayer (a0 : Int32) : Option (Int32) :=
  bd1 (P_X3_in a0 (0 : Int32) (2 : Int32)) (fun r_1 =>
  gd (isb r_1) (some r_1))

def rm_X3_isLayer : Room := { frames := 1, cells := 0, slots := 0, locals := 22 }

set_option maxHeartbeats 4000000 in
set_option maxRecDepth 100000 in
theorem c_X3_isLayer (l : Launch) (a0 : Int32) (r0 : Int32) (hF : P_X3_isLayer a0 = some r0) : Met l yX3_isLayer wsX3_isLayer rm_X3_isLayer (fun v _ => v = ([.int a0] : List Value).toArray) (vp_Si (fun x => x = r0)) 0 0 (fun _ => False) := by
  refine Met.ofW (cc := cX3_isLayer) (maxL := 1) (ret := (some .boolean)) (by decide) rfl ?_
  intro p e s m args below meth c s₁ B hml hv
  change W p l e rm_X3_isLayer s m args below meth c s.heap [] 0 0 _ _
  have hx := B.exec
  have hb := B.bytes
  have hr := B.returns
  have hts := atoms_spec (ws := wsX3_isLayer) B.pre
  have hown : s.vm.findClass RX3 = some m.cls := findClass_of_methodNamed B.named
  have hlocks := B.notSynchronized
  generalize hQ : MQ below (vp_Si (fun x => x = r0)) args s 0 0 (fun _ => False) = Q
  have hl := lv_entry ([.int a0]) (n := 1) (Nat.le_of_ble_eq_true rfl)
  have hE : entryFrame m args 1 = F0 m 0 ((lg_sl ([.int a0]) ++ List.replicate (1 - (lg_sl ([.int a0])).length) Slot.unset).toArray) [] := by rw [hv]; exact lg_entry_eq m _ 1
  rw [hE]
  generalize (lg_sl ([.int a0]) ++ List.replicate (1 - (lg_sl ([.int a0])).length) Slot.unset).toArray = ls at hl ⊢
  have hl : lv_has ls 1 [(0, .int a0)] := hl
  unfold P_X3_isLayer at hF
  refine lv_iload_n hx hb dX3_isLayer_0 rfl (lv_at hl 0 rfl) ?_
  refine lv_iconst (v := 0) hx hb dX3_isLayer_1 (by decide) ?_
  refine lv_iconst (v := 2) hx hb dX3_isLayer_2 (by decide) ?_
  obtain ⟨r_1, hr_1, hF⟩ := bd1_u hF
  refine vp_callSi (W.runS (As := [.int a0, .int (0 : Int32), .int (2 : Int32)]) (rest := []) ⟨hx, hb, hml, hown, hts⟩ (c_X3_in l a0 (0 : Int32) (2 : Int32) r_1 hr_1) (va_cwS 3 hts gX3_isLayer_X3_in rfl rfl rfl (by decide +kernel) ⟨Nat.le_of_ble_eq_true rfl, Nat.le_of_ble_eq_true rfl⟩) preEq rfl rfl hl.1 rfl (lv_room (Nat.le_of_ble_eq_true rfl)) dX3_isLayer_3 ⟨Nat.le_of_ble_eq_true rfl, Nat.le_of_ble_eq_true rfl⟩) (fun r_1' qr_1 => ?_)
  obtain rfl := qr_1.symm
  obtain ⟨hB_, hF⟩ := gd_u hF
  rw [← hQ]
  exact W.zret (ty := .boolean) (v := r_1) hx hb hr (isb_u hB_) (fun t ht hW => ⟨_, rfl, Option.some.inj hF, ht⟩) (fun _ h => by cases h) dX3_isLayer_6

def P_X3_isDot (a0 : Int32) : Option (Int32) :=
  bd1 (P_X3_in a0 (0 : Int32) (15 : Int32)) (fun r_1 =>
  gd (isb r_1) (some r_1))

def rm_X3_isDot : Room := { frames := 1, cells := 0, slots := 0, locals := 22 }

set_option maxHeartbeats 4000000 in
set_option maxRecDepth 100000 in
theorem c_X3_isDot (l : Launch) (a0 : Int32) (r0 : Int32) (hF : P_X3_isDot a0 = some r0) : Met l yX3_isDot wsX3_isDot rm_X3_isDot (fun v _ => v = ([.int a0] : List Value).toArray) (vp_Si (fun x => x = r0)) 0 0 (fun _ => False) := by
  refine Met.ofW (cc := cX3_isDot) (maxL := 1) (ret := (some .boolean)) (by decide) rfl ?_
  intro p e s m args below meth c s₁ B hml hv
  change W p l e rm_X3_isDot s m args below meth c s.heap [] 0 0 _ _
  have hx := B.exec
  have hb := B.bytes
  have hr := B.returns
  have hts := atoms_spec (ws := wsX3_isDot) B.pre
  have hown : s.vm.findClass RX3 = some m.cls := findClass_of_methodNamed B.named
  have hlocks := B.notSynchronized
  generalize hQ : MQ below (vp_Si (fun x => x = r0)) args s 0 0 (fun _ => False) = Q
  have hl := lv_entry ([.int a0]) (n := 1) (Nat.le_of_ble_eq_true rfl)
  have hE : entryFrame m args 1 = F0 m 0 ((lg_sl ([.int a0]) ++ List.replicate (1 - (lg_sl ([.int a0])).length) Slot.unset).toArray) [] := by rw [hv]; exact lg_entry_eq m _ 1
  rw [hE]
  generalize (lg_sl ([.int a0]) ++ List.replicate (1 - (lg_sl ([.int a0])).length) Slot.unset).toArray = ls at hl ⊢
  have hl : lv_has ls 1 [(0, .int a0)] := hl
  unfold P_X3_isDot at hF
  refine lv_iload_n hx hb dX3_isDot_0 rfl (lv_at hl 0 rfl) ?_
  refine lv_iconst (v := 0) hx hb dX3_isDot_1 (by decide) ?_
  refine lv_bipush (v := 15) hx hb dX3_isDot_2 (by decide) ?_
  obtain ⟨r_1, hr_1, hF⟩ := bd1_u hF
  refine vp_callSi (W.runS (As := [.int a0, .int (0 : Int32), .int (15 : Int32)]) (rest := []) ⟨hx, hb, hml, hown, hts⟩ (c_X3_in l a0 (0 : Int32) (15 : Int32) r_1 hr_1) (va_cwS 3 hts gX3_isDot_X3_in rfl rfl rfl (by decide +kernel) ⟨Nat.le_of_ble_eq_true rfl, Nat.le_of_ble_eq_true rfl⟩) preEq rfl rfl hl.1 rfl (lv_room (Nat.le_of_ble_eq_true rfl)) dX3_isDot_4 ⟨Nat.le_of_ble_eq_true rfl, Nat.le_of_ble_eq_true rfl⟩) (fun r_1' qr_1 => ?_)
  obtain rfl := qr_1.symm
  obtain ⟨hB_, hF⟩ := gd_u hF
  rw [← hQ]
  exact W.zret (ty := .boolean) (v := r_1) hx hb hr (isb_u hB_) (fun t ht hW => ⟨_, rfl, Option.some.inj hF, ht⟩) (fun _ h => by cases h) dX3_isDot_7

def P_X3_isHere (a0 : Int32) (a1 : Int32) : Option (Int32) :=
  bd1 (P_X3_in a0 (0 : Int32) (12 : Int32)) (fun r_1 =>
  if r_1 = (0 : Int32) then
    some (0 : Int32)
  else
    bd1 (P_X3_in a1 (0 : Int32) (12 : Int32)) (fun r_3 =>
    if r_3 = (0 : Int32) then
      some (0 : Int32)
    else
      some (1 : Int32)))

def rm_X3_isHere : Room := { frames := 1, cells := 0, slots := 0, locals := 22 }

set_option maxHeartbeats 4000000 in
set_option maxRecDepth 100000 in
theorem c_X3_isHere (l : Launch) (a0 : Int32) (a1 : Int32) (r0 : Int32) (hF : P_X3_isHere a0 a1 = some r0) : Met l yX3_isHere wsX3_isHere rm_X3_isHere (fun v _ => v = ([.int a0, .int a1] : List Value).toArray) (vp_Si (fun x => x = r0)) 0 0 (fun _ => False) := by
  refine Met.ofW (cc := cX3_isHere) (maxL := 2) (ret := (some .boolean)) (by decide) rfl ?_
  intro p e s m args below meth c s₁ B hml hv
  change W p l e rm_X3_isHere s m args below meth c s.heap [] 0 0 _ _
  have hx := B.exec
  have hb := B.bytes
  have hr := B.returns
  have hts := atoms_spec (ws := wsX3_isHere) B.pre
  have hown : s.vm.findClass RX3 = some m.cls := findClass_of_methodNamed B.named
  have hlocks := B.notSynchronized
  generalize hQ : MQ below (vp_Si (fun x => x = r0)) args s 0 0 (fun _ => False) = Q
  have hl := lv_entry ([.int a0, .int a1]) (n := 2) (Nat.le_of_ble_eq_true rfl)
  have hE : entryFrame m args 2 = F0 m 0 ((lg_sl ([.int a0, .int a1]) ++ List.replicate (2 - (lg_sl ([.int a0, .int a1])).length) Slot.unset).toArray) [] := by rw [hv]; exact lg_entry_eq m _ 2
  rw [hE]
  generalize (lg_sl ([.int a0, .int a1]) ++ List.replicate (2 - (lg_sl ([.int a0, .int a1])).length) Slot.unset).toArray = ls at hl ⊢
  have hl : lv_has ls 2 [(0, .int a0), (1, .int a1)] := hl
  unfold P_X3_isHere at hF
  refine lv_iload_n hx hb dX3_isHere_0 rfl (lv_at hl 0 rfl) ?_
  refine lv_iconst (v := 0) hx hb dX3_isHere_1 (by decide) ?_
  refine lv_bipush (v := 12) hx hb dX3_isHere_2 (by decide) ?_
  obtain ⟨r_1, hr_1, hF⟩ := bd1_u hF
  refine vp_callSi (W.runS (As := [.int a0, .int (0 : Int32), .int (12 : Int32)]) (rest := []) ⟨hx, hb, hml, hown, hts⟩ (c_X3_in l a0 (0 : Int32) (12 : Int32) r_1 hr_1) (va_cwS 3 hts gX3_isHere_X3_in rfl rfl rfl (by decide +kernel) ⟨Nat.le_of_ble_eq_true rfl, Nat.le_of_ble_eq_true rfl⟩) preEq rfl rfl hl.1 rfl (lv_room (Nat.le_of_ble_eq_true rfl)) dX3_isHere_4 ⟨Nat.le_of_ble_eq_true rfl, Nat.le_of_ble_eq_true rfl⟩) (fun r_1' qr_1 => ?_)
  obtain rfl := qr_1.symm
  refine lv_if_eq (tgt := 24) hx hb dX3_isHere_7 (by decide) (fun c_2 => ?_) (fun c_2 => ?_)
  · have hF := br1 hF c_2
    refine lv_iconst (v := 0) hx hb dX3_isHere_24 (by decide) ?_
    rw [← hQ]
    exact W.zret (ty := .boolean) (v := (0 : Int32)) hx hb hr rfl (fun t ht hW => ⟨_, rfl, Option.some.inj hF, ht⟩) (fun _ h => by cases h) dX3_isHere_25
  · have hF := br0 hF c_2
    refine lv_iload_n hx hb dX3_isHere_10 rfl (lv_at hl 1 rfl) ?_
    refine lv_iconst (v := 0) hx hb dX3_isHere_11 (by decide) ?_
    refine lv_bipush (v := 12) hx hb dX3_isHere_12 (by decide) ?_
    obtain ⟨r_3, hr_3, hF⟩ := bd1_u hF
    refine vp_callSi (W.runS (As := [.int a1, .int (0 : Int32), .int (12 : Int32)]) (rest := []) ⟨hx, hb, hml, hown, hts⟩ (c_X3_in l a1 (0 : Int32) (12 : Int32) r_3 hr_3) (va_cwS 3 hts gX3_isHere_X3_in rfl rfl rfl (by decide +kernel) ⟨Nat.le_of_ble_eq_true rfl, Nat.le_of_ble_eq_true rfl⟩) preEq rfl rfl hl.1 rfl (lv_room (Nat.le_of_ble_eq_true rfl)) dX3_isHere_14 ⟨Nat.le_of_ble_eq_true rfl, Nat.le_of_ble_eq_true rfl⟩) (fun r_3' qr_3 => ?_)
    obtain rfl := qr_3.symm
    refine lv_if_eq (tgt := 24) hx hb dX3_isHere_17 (by decide) (fun c_4 => ?_) (fun c_4 => ?_)
    · have hF := br1 hF c_4
      refine lv_iconst (v := 0) hx hb dX3_isHere_24 (by decide) ?_
      rw [← hQ]
      exact W.zret (ty := .boolean) (v := (0 : Int32)) hx hb hr rfl (fun t ht hW => ⟨_, rfl, Option.some.inj hF, ht⟩) (fun _ h => by cases h) dX3_isHere_25
    · have hF := br0 hF c_4
      refine lv_iconst (v := 1) hx hb dX3_isHere_20 (by decide) ?_
      refine lv_goto (tgt := 25) hx hb dX3_isHere_21 (by decide) ?_
      rw [← hQ]
      exact W.zret (ty := .boolean) (v := (1 : Int32)) hx hb hr rfl (fun t ht hW => ⟨_, rfl, Option.some.inj hF, ht⟩) (fun _ h => by cases h) dX3_isHere_25

def P_X3_place (a0 : Int32) (a1 : Int32) : Option (Int32) :=
  some (((8 : Int32) * a0) + a1)

def rm_X3_place : Room := { frames := 0, cells := 0, slots := 0, locals := 0 }

set_option maxHeartbeats 4000000 in
set_option maxRecDepth 100000 in
theorem c_X3_place (l : Launch) (a0 : Int32) (a1 : Int32) (r0 : Int32) (hF : P_X3_place a0 a1 = some r0) : Met l yX3_place wsX3_place rm_X3_place (fun v _ => v = ([.int a0, .int a1] : List Value).toArray) (vp_Si (fun x => x = r0)) 0 0 (fun _ => False) := by
  refine Met.ofW (cc := cX3_place) (maxL := 2) (ret := (some .int)) (by decide) rfl ?_
  intro p e s m args below meth c s₁ B hml hv
  change W p l e rm_X3_place s m args below meth c s.heap [] 0 0 _ _
  have hx := B.exec
  have hb := B.bytes
  have hr := B.returns
  have hts := atoms_spec (ws := wsX3_place) B.pre
  have hown : s.vm.findClass RX3 = some m.cls := findClass_of_methodNamed B.named
  have hlocks := B.notSynchronized
  generalize hQ : MQ below (vp_Si (fun x => x = r0)) args s 0 0 (fun _ => False) = Q
  have hl := lv_entry ([.int a0, .int a1]) (n := 2) (Nat.le_of_ble_eq_true rfl)
  have hE : entryFrame m args 2 = F0 m 0 ((lg_sl ([.int a0, .int a1]) ++ List.replicate (2 - (lg_sl ([.int a0, .int a1])).length) Slot.unset).toArray) [] := by rw [hv]; exact lg_entry_eq m _ 2
  rw [hE]
  generalize (lg_sl ([.int a0, .int a1]) ++ List.replicate (2 - (lg_sl ([.int a0, .int a1])).length) Slot.unset).toArray = ls at hl ⊢
  have hl : lv_has ls 2 [(0, .int a0), (1, .int a1)] := hl
  unfold P_X3_place at hF
  refine lv_bipush (v := 8) hx hb dX3_place_0 (by decide) ?_
  refine lv_iload_n hx hb dX3_place_2 rfl (lv_at hl 0 rfl) ?_
  refine lv_imul hx hb dX3_place_3 ?_
  refine lv_iload_n hx hb dX3_place_4 rfl (lv_at hl 1 rfl) ?_
  refine lv_iadd hx hb dX3_place_5 ?_
  rw [← hQ]
  exact W.iret (v := (((8 : Int32) * a0) + a1)) hx hb hr (fun t ht hW => ⟨_, rfl, Option.some.inj hF, ht⟩) (fun _ h => by cases h) dX3_place_6

def P_X3_isPart (a0 : Int32) : Option (Int32) :=
  bd1 (P_X3_in a0 (0 : Int32) (1 : Int32)) (fun r_1 =>
  gd (isb r_1) (some r_1))

def rm_X3_isPart : Room := { frames := 1, cells := 0, slots := 0, locals := 22 }

set_option maxHeartbeats 4000000 in
set_option maxRecDepth 100000 in
theorem c_X3_isPart (l : Launch) (a0 : Int32) (r0 : Int32) (hF : P_X3_isPart a0 = some r0) : Met l yX3_isPart wsX3_isPart rm_X3_isPart (fun v _ => v = ([.int a0] : List Value).toArray) (vp_Si (fun x => x = r0)) 0 0 (fun _ => False) := by
  refine Met.ofW (cc := cX3_isPart) (maxL := 1) (ret := (some .boolean)) (by decide) rfl ?_
  intro p e s m args below meth c s₁ B hml hv
  change W p l e rm_X3_isPart s m args below meth c s.heap [] 0 0 _ _
  have hx := B.exec
  have hb := B.bytes
  have hr := B.returns
  have hts := atoms_spec (ws := wsX3_isPart) B.pre
  have hown : s.vm.findClass RX3 = some m.cls := findClass_of_methodNamed B.named
  have hlocks := B.notSynchronized
  generalize hQ : MQ below (vp_Si (fun x => x = r0)) args s 0 0 (fun _ => False) = Q
  have hl := lv_entry ([.int a0]) (n := 1) (Nat.le_of_ble_eq_true rfl)
  have hE : entryFrame m args 1 = F0 m 0 ((lg_sl ([.int a0]) ++ List.replicate (1 - (lg_sl ([.int a0])).length) Slot.unset).toArray) [] := by rw [hv]; exact lg_entry_eq m _ 1
  rw [hE]
  generalize (lg_sl ([.int a0]) ++ List.replicate (1 - (lg_sl ([.int a0])).length) Slot.unset).toArray = ls at hl ⊢
  have hl : lv_has ls 1 [(0, .int a0)] := hl
  unfold P_X3_isPart at hF
  refine lv_iload_n hx hb dX3_isPart_0 rfl (lv_at hl 0 rfl) ?_
  refine lv_iconst (v := 0) hx hb dX3_isPart_1 (by decide) ?_
  refine lv_iconst (v := 1) hx hb dX3_isPart_2 (by decide) ?_
  obtain ⟨r_1, hr_1, hF⟩ := bd1_u hF
  refine vp_callSi (W.runS (As := [.int a0, .int (0 : Int32), .int (1 : Int32)]) (rest := []) ⟨hx, hb, hml, hown, hts⟩ (c_X3_in l a0 (0 : Int32) (1 : Int32) r_1 hr_1) (va_cwS 3 hts gX3_isPart_X3_in rfl rfl rfl (by decide +kernel) ⟨Nat.le_of_ble_eq_true rfl, Nat.le_of_ble_eq_true rfl⟩) preEq rfl rfl hl.1 rfl (lv_room (Nat.le_of_ble_eq_true rfl)) dX3_isPart_3 ⟨Nat.le_of_ble_eq_true rfl, Nat.le_of_ble_eq_true rfl⟩) (fun r_1' qr_1 => ?_)
  obtain rfl := qr_1.symm
  obtain ⟨hB_, hF⟩ := gd_u hF
  rw [← hQ]
  exact W.zret (ty := .boolean) (v := r_1) hx hb hr (isb_u hB_) (fun t ht hW => ⟨_, rfl, Option.some.inj hF, ht⟩) (fun _ h => by cases h) dX3_isPart_6

def P_X3_plain (a0 : Int64) : Option (Int64) :=
  if (0 : Int64) ≤ a0 then
    some a0
  else
    some (-a0)

def rm_X3_plain : Room := { frames := 0, cells := 0, slots := 0, locals := 0 }

set_option maxHeartbeats 4000000 in
set_option maxRecDepth 100000 in
theorem c_X3_plain (l : Launch) (a0 : Int64) (r0 : Int64) (hF : P_X3_plain a0 = some r0) : Met l yX3_plain wsX3_plain rm_X3_plain (fun v _ => v = ([.long a0] : List Value).toArray) (vp_Sl (fun x => x = r0)) 0 0 (fun _ => False) := by
  refine Met.ofW (cc := cX3_plain) (maxL := 2) (ret := (some .long)) (by decide) rfl ?_
  intro p e s m args below meth c s₁ B hml hv
  change W p l e rm_X3_plain s m args below meth c s.heap [] 0 0 _ _
  have hx := B.exec
  have hb := B.bytes
  have hr := B.returns
  have hts := atoms_spec (ws := wsX3_plain) B.pre
  have hown : s.vm.findClass RX3 = some m.cls := findClass_of_methodNamed B.named
  have hlocks := B.notSynchronized
  generalize hQ : MQ below (vp_Sl (fun x => x = r0)) args s 0 0 (fun _ => False) = Q
  have hl := lv_entry ([.long a0]) (n := 2) (Nat.le_of_ble_eq_true rfl)
  have hE : entryFrame m args 2 = F0 m 0 ((lg_sl ([.long a0]) ++ List.replicate (2 - (lg_sl ([.long a0])).length) Slot.unset).toArray) [] := by rw [hv]; exact lg_entry_eq m _ 2
  rw [hE]
  generalize (lg_sl ([.long a0]) ++ List.replicate (2 - (lg_sl ([.long a0])).length) Slot.unset).toArray = ls at hl ⊢
  have hl : lv_has ls 2 [(0, .long a0)] := hl
  unfold P_X3_plain at hF
  refine lv_lload_n hx hb dX3_plain_0 rfl (lv_at hl 0 rfl) ?_
  refine lv_lconst (v := 0) hx hb dX3_plain_1 (by decide) ?_
  refine lc_ge (tgt := 11) hx hb dX3_plain_2 dX3_plain_3 (by decide) (fun c_1 => ?_) (fun c_1 => ?_)
  · have hF := br1 hF c_1
    refine lv_lload_n hx hb dX3_plain_11 rfl (lv_at hl 0 rfl) ?_
    rw [← hQ]
    exact W.lret (v := a0) hx hb hr (fun t ht hW => ⟨_, rfl, Option.some.inj hF, ht⟩) (fun _ h => by cases h) dX3_plain_12
  · have hF := br0 hF c_1
    refine lv_lload_n hx hb dX3_plain_6 rfl (lv_at hl 0 rfl) ?_
    refine lv_lneg hx hb dX3_plain_7 ?_
    refine lv_goto (tgt := 12) hx hb dX3_plain_8 (by decide) ?_
    rw [← hQ]
    exact W.lret (v := (-a0)) hx hb hr (fun t ht hW => ⟨_, rfl, Option.some.inj hF, ht⟩) (fun _ h => by cases h) dX3_plain_12

def P_X3_whole : Option (Int64) :=
  some (124221621275136000 : Int64)

def rm_X3_whole : Room := { frames := 0, cells := 0, slots := 0, locals := 0 }

set_option maxHeartbeats 4000000 in
set_option maxRecDepth 100000 in
theorem c_X3_whole (l : Launch) (r0 : Int64) (hF : P_X3_whole = some r0) : Met l yX3_whole wsX3_whole rm_X3_whole (fun v _ => v = ([] : List Value).toArray) (vp_Sl (fun x => x = r0)) 0 0 (fun _ => False) := by
  refine Met.ofW (cc := cX3_whole) (maxL := 0) (ret := (some .long)) (by decide) rfl ?_
  intro p e s m args below meth c s₁ B hml hv
  change W p l e rm_X3_whole s m args below meth c s.heap [] 0 0 _ _
  have hx := B.exec
  have hb := B.bytes
  have hr := B.returns
  have hts := atoms_spec (ws := wsX3_whole) B.pre
  have hown : s.vm.findClass RX3 = some m.cls := findClass_of_methodNamed B.named
  have hlocks := B.notSynchronized
  generalize hQ : MQ below (vp_Sl (fun x => x = r0)) args s 0 0 (fun _ => False) = Q
  have hl := lv_entry ([]) (n := 0) (Nat.le_of_ble_eq_true rfl)
  have hE : entryFrame m args 0 = F0 m 0 ((lg_sl ([]) ++ List.replicate (0 - (lg_sl ([])).length) Slot.unset).toArray) [] := by rw [hv]; exact lg_entry_eq m _ 0
  rw [hE]
  generalize (lg_sl ([]) ++ List.replicate (0 - (lg_sl ([])).length) Slot.unset).toArray = ls at hl ⊢
  have hl : lv_has ls 0 [] := hl
  unfold P_X3_whole at hF
  refine lv_ldc2 (v := 124221621275136000) hx hb hown (hts (.constantLong RX3 144 (124221621275136000)) (by decide +kernel)) dX3_whole_0 ?_
  rw [← hQ]
  exact W.lret (v := (124221621275136000 : Int64)) hx hb hr (fun t ht hW => ⟨_, rfl, Option.some.inj hF, ht⟩) (fun _ h => by cases h) dX3_whole_3

def L_X3_common_6 : Nat → Int64 → Int64 → Option (Int64 × Int64)
  | 0, _, _ => none
  | n + 1, k_1, k_2 =>
    if k_1 = (0 : Int64) then
      some (k_1, k_2)
    else
      gd (nzl k_1) (
      nm (k_2 - k_2 / k_1 * k_1) (fun v_6 =>
      L_X3_common_6 n v_6 k_1))
theorem L_X3_common_6_s (n : Nat) (k_1 : Int64) (k_2 : Int64) : L_X3_common_6 (n + 1) k_1 k_2 =
    (if k_1 = (0 : Int64) then
      some (k_1, k_2)
    else
      gd (nzl k_1) (
      nm (k_2 - k_2 / k_1 * k_1) (fun v_6 =>
      L_X3_common_6 n v_6 k_1))) := rfl

def P_X3_common (a0 : Int64) (a1 : Int64) : Option (Int64) :=
  bd2 (L_X3_common_6 1000 a1 a0) (fun o_3 o_4 =>
  some o_4)

def rm_X3_common : Room := { frames := 0, cells := 0, slots := 0, locals := 0 }

set_option maxHeartbeats 4000000 in
set_option maxRecDepth 100000 in
theorem c_X3_common (l : Launch) (a0 : Int64) (a1 : Int64) (r0 : Int64) (hF : P_X3_common a0 a1 = some r0) : Met l yX3_common wsX3_common rm_X3_common (fun v _ => v = ([.long a0, .long a1] : List Value).toArray) (vp_Sl (fun x => x = r0)) 0 0 (fun _ => False) := by
  refine Met.ofW (cc := cX3_common) (maxL := 10) (ret := (some .long)) (by decide) rfl ?_
  intro p e s m args below meth c s₁ B hml hv
  change W p l e rm_X3_common s m args below meth c s.heap [] 0 0 _ _
  have hx := B.exec
  have hb := B.bytes
  have hr := B.returns
  have hts := atoms_spec (ws := wsX3_common) B.pre
  have hown : s.vm.findClass RX3 = some m.cls := findClass_of_methodNamed B.named
  have hlocks := B.notSynchronized
  generalize hQ : MQ below (vp_Sl (fun x => x = r0)) args s 0 0 (fun _ => False) = Q
  have hl := lv_entry ([.long a0, .long a1]) (n := 10) (Nat.le_of_ble_eq_true rfl)
  have hE : entryFrame m args 10 = F0 m 0 ((lg_sl ([.long a0, .long a1]) ++ List.replicate (10 - (lg_sl ([.long a0, .long a1])).length) Slot.unset).toArray) [] := by rw [hv]; exact lg_entry_eq m _ 10
  rw [hE]
  generalize (lg_sl ([.long a0, .long a1]) ++ List.replicate (10 - (lg_sl ([.long a0, .long a1])).length) Slot.unset).toArray = ls at hl ⊢
  have hl : lv_has ls 10 [(0, .long a0), (2, .long a1)] := hl
  unfold P_X3_common at hF
  refine lv_lload_n hx hb dX3_common_0 rfl (lv_at hl 0 rfl) ?_
  refine lv_lstore (lv' := [(4, .long a0), (0, .long a0), (2, .long a1)]) hx hb dX3_common_1 hl (by decide) rfl (fun ls hl => ?_)
  refine lv_lload_n hx hb dX3_common_3 rfl (lv_at hl 2 rfl) ?_
  refine lv_lstore (lv' := [(6, .long a1), (4, .long a0), (0, .long a0), (2, .long a1)]) hx hb dX3_common_4 hl (by decide) rfl (fun ls hl => ?_)
  obtain ⟨o_3, o_4, hL_6, hF⟩ := bd2_u hF
  have lp_6 : ∀ (n : Nat) (k_1 : Int64) (k_2 : Int64) (o_3 : Int64) (o_4 : Int64) (ls : Array Slot), L_X3_common_6 n k_1 k_2 = some (o_3, o_4) → lv_has ls 10 [(6, .long k_1), (4, .long k_2), (0, .long a0), (2, .long a1)] → (∀ (ls : Array Slot), lv_has ls 10 [(6, .long o_3), (4, .long o_4), (0, .long a0), (2, .long a1)] → W p l e rm_X3_common s m args below meth c s.heap [] 0 0 Q (F0 m 31 ls [])) → W p l e rm_X3_common s m args below meth c s.heap [] 0 0 Q (F0 m 6 ls []) := by
    intro n
    induction n with
    | zero =>
      intro k_1 k_2 o_3 o_4 ls hF
      exact nn ((rfl : L_X3_common_6 0 k_1 k_2 = none).symm.trans hF)
    | succ n ih_6 =>
      intro k_1 k_2 o_3 o_4 ls hF hl kx_6
      have hF := (L_X3_common_6_s n k_1 k_2).symm.trans hF
      refine lv_lload hx hb dX3_common_6 (lv_at hl 0 rfl) ?_
      refine lv_lconst (v := 0) hx hb dX3_common_8 (by decide) ?_
      refine lc_eq (tgt := 31) hx hb dX3_common_9 dX3_common_10 (by decide) (fun c_5 => ?_) (fun c_5 => ?_)
      · have hF := br1 hF c_5
        obtain ⟨rfl, rfl⟩ := tp2 hF
        exact kx_6 ls hl
      · have hF := br0 hF c_5
        refine lv_lload hx hb dX3_common_13 (lv_at hl 1 rfl) ?_
        refine lv_lload hx hb dX3_common_15 (lv_at hl 0 rfl) ?_
        obtain ⟨hz_17, hF⟩ := gd_u hF
        refine lv_lrem hx hb dX3_common_17 (nz_ul hz_17) ?_
        refine lv_topl (fun v_6 ev_6 => ?_)
        have hF := nm_u hF ev_6
        refine lv_lstore (lv' := [(8, .long v_6), (6, .long k_1), (4, .long k_2), (0, .long a0), (2, .long a1)]) hx hb dX3_common_18 hl (by decide) rfl (fun ls hl => ?_)
        refine lv_lload hx hb dX3_common_20 (lv_at hl 1 rfl) ?_
        refine lv_lstore (lv' := [(4, .long k_1), (8, .long v_6), (6, .long k_1), (0, .long a0), (2, .long a1)]) hx hb dX3_common_22 hl (by decide) rfl (fun ls hl => ?_)
        refine lv_lload hx hb dX3_common_24 (lv_at hl 1 rfl) ?_
        refine lv_lstore (lv' := [(6, .long v_6), (4, .long k_1), (8, .long v_6), (0, .long a0), (2, .long a1)]) hx hb dX3_common_26 hl (by decide) rfl (fun ls hl => ?_)
        refine lv_goto (tgt := 6) hx hb dX3_common_28 (by decide) ?_
        exact ih_6 _ _ _ _ ls hF (lv_sub hl [0, 1, 3, 4] rfl) kx_6
  refine lp_6 1000 a1 a0 o_3 o_4 ls hL_6 hl (fun ls hl => ?_)
  refine lv_lload hx hb dX3_common_31 (lv_at hl 1 rfl) ?_
  rw [← hQ]
  exact W.lret (v := o_4) hx hb hr (fun t ht hW => ⟨_, rfl, Option.some.inj hF, ht⟩) (fun _ h => by cases h) dX3_common_33

def P_X3_told (a0 : Int64) (a1 : Int64) (a2 : Int32) : Option (Int64) :=
  bd1 (P_X3_plain a0) (fun r_1 =>
  bd1 (P_X3_common a1 r_1) (fun r_2 =>
  if a2 = (0 : Int32) then
    gd (nzl r_2) (
    some (a0 / r_2))
  else
    gd (nzl r_2) (
    some (a1 / r_2))))

def rm_X3_told : Room := { frames := 1, cells := 0, slots := 0, locals := 29 }

set_option maxHeartbeats 4000000 in
set_option maxRecDepth 100000 in
theorem c_X3_told (l : Launch) (a0 : Int64) (a1 : Int64) (a2 : Int32) (r0 : Int64) (hF : P_X3_told a0 a1 a2 = some r0) : Met l yX3_told wsX3_told rm_X3_told (fun v _ => v = ([.long a0, .long a1, .int a2] : List Value).toArray) (vp_Sl (fun x => x = r0)) 0 0 (fun _ => False) := by
  refine Met.ofW (cc := cX3_told) (maxL := 7) (ret := (some .long)) (by decide) rfl ?_
  intro p e s m args below meth c s₁ B hml hv
  change W p l e rm_X3_told s m args below meth c s.heap [] 0 0 _ _
  have hx := B.exec
  have hb := B.bytes
  have hr := B.returns
  have hts := atoms_spec (ws := wsX3_told) B.pre
  have hown : s.vm.findClass RX3 = some m.cls := findClass_of_methodNamed B.named
  have hlocks := B.notSynchronized
  generalize hQ : MQ below (vp_Sl (fun x => x = r0)) args s 0 0 (fun _ => False) = Q
  have hl := lv_entry ([.long a0, .long a1, .int a2]) (n := 7) (Nat.le_of_ble_eq_true rfl)
  have hE : entryFrame m args 7 = F0 m 0 ((lg_sl ([.long a0, .long a1, .int a2]) ++ List.replicate (7 - (lg_sl ([.long a0, .long a1, .int a2])).length) Slot.unset).toArray) [] := by rw [hv]; exact lg_entry_eq m _ 7
  rw [hE]
  generalize (lg_sl ([.long a0, .long a1, .int a2]) ++ List.replicate (7 - (lg_sl ([.long a0, .long a1, .int a2])).length) Slot.unset).toArray = ls at hl ⊢
  have hl : lv_has ls 7 [(0, .long a0), (2, .long a1), (4, .int a2)] := hl
  unfold P_X3_told at hF
  refine lv_lload_n hx hb dX3_told_0 rfl (lv_at hl 1 rfl) ?_
  refine lv_lload_n hx hb dX3_told_1 rfl (lv_at hl 0 rfl) ?_
  obtain ⟨r_1, hr_1, hF⟩ := bd1_u hF
  refine vp_callSl (W.runS (As := [.long a0]) (rest := [.long a1]) ⟨hx, hb, hml, hown, hts⟩ (c_X3_plain l a0 r_1 hr_1) (va_cwS 1 hts gX3_told_X3_plain rfl rfl rfl (by decide +kernel) ⟨Nat.le_of_ble_eq_true rfl, Nat.le_of_ble_eq_true rfl⟩) preEq rfl rfl hl.1 rfl (lv_room (Nat.le_of_ble_eq_true rfl)) dX3_told_2 ⟨Nat.le_of_ble_eq_true rfl, Nat.le_of_ble_eq_true rfl⟩) (fun r_1' qr_1 => ?_)
  obtain rfl := qr_1.symm
  obtain ⟨r_2, hr_2, hF⟩ := bd1_u hF
  refine vp_callSl (W.runS (As := [.long a1, .long r_1]) (rest := []) ⟨hx, hb, hml, hown, hts⟩ (c_X3_common l a1 r_1 r_2 hr_2) (va_cwS 2 hts gX3_told_X3_common rfl rfl rfl (by decide +kernel) ⟨Nat.le_of_ble_eq_true rfl, Nat.le_of_ble_eq_true rfl⟩) preEq rfl rfl hl.1 rfl (lv_room (Nat.le_of_ble_eq_true rfl)) dX3_told_5 ⟨Nat.le_of_ble_eq_true rfl, Nat.le_of_ble_eq_true rfl⟩) (fun r_2' qr_2 => ?_)
  obtain rfl := qr_2.symm
  refine lv_lstore (lv' := [(5, .long r_2), (0, .long a0), (2, .long a1), (4, .int a2)]) hx hb dX3_told_8 hl (by decide) rfl (fun ls hl => ?_)
  refine lv_iload hx hb dX3_told_10 (lv_at hl 3 rfl) ?_
  refine lv_if_ne (tgt := 22) hx hb dX3_told_12 (by decide) (fun c_3 => ?_) (fun c_3 => ?_)
  · have hF := br0 hF c_3
    refine lv_lload_n hx hb dX3_told_22 rfl (lv_at hl 2 rfl) ?_
    refine lv_lload hx hb dX3_told_23 (lv_at hl 0 rfl) ?_
    obtain ⟨hz_25, hF⟩ := gd_u hF
    refine lv_ldiv hx hb dX3_told_25 (nz_ul hz_25) ?_
    rw [← hQ]
    exact W.lret (v := (a1 / r_2)) hx hb hr (fun t ht hW => ⟨_, rfl, Option.some.inj hF, ht⟩) (fun _ h => by cases h) dX3_told_26
  · have hF := br1 hF c_3
    refine lv_lload_n hx hb dX3_told_15 rfl (lv_at hl 1 rfl) ?_
    refine lv_lload hx hb dX3_told_16 (lv_at hl 0 rfl) ?_
    obtain ⟨hz_18, hF⟩ := gd_u hF
    refine lv_ldiv hx hb dX3_told_18 (nz_ul hz_18) ?_
    refine lv_goto (tgt := 26) hx hb dX3_told_19 (by decide) ?_
    rw [← hQ]
    exact W.lret (v := (a0 / r_2)) hx hb hr (fun t ht hW => ⟨_, rfl, Option.some.inj hF, ht⟩) (fun _ h => by cases h) dX3_told_26

def L_X2_greatestDivisor_9 : Nat → Int32 → Int64 → Int64 → Option (Int32 × Int64 × Int64)
  | 0, _, _, _ => none
  | n + 1, k_1, k_2, k_3 =>
    if (100 : Int32) ≤ k_1 then
      some (k_1, k_2, k_3)
    else
      if k_2 = (0 : Int64) then
        some (k_1, k_2, k_3)
      else
        gd (nzl k_2) (
        nm (k_3 - k_3 / k_2 * k_2) (fun v_9 =>
        L_X2_greatestDivisor_9 n (k_1 + (1 : Int32)) v_9 k_2))
theorem L_X2_greatestDivisor_9_s (n : Nat) (k_1 : Int32) (k_2 : Int64) (k_3 : Int64) : L_X2_greatestDivisor_9 (n + 1) k_1 k_2 k_3 =
    (if (100 : Int32) ≤ k_1 then
      some (k_1, k_2, k_3)
    else
      if k_2 = (0 : Int64) then
        some (k_1, k_2, k_3)
      else
        gd (nzl k_2) (
        nm (k_3 - k_3 / k_2 * k_2) (fun v_9 =>
        L_X2_greatestDivisor_9 n (k_1 + (1 : Int32)) v_9 k_2))) := rfl

def P_X2_greatestDivisor (a0 : Int64) (a1 : Int64) : Option (Int64) :=
  bd3 (L_X2_greatestDivisor_9 1000 (0 : Int32) a1 a0) (fun o_4 o_5 o_6 =>
  some o_6)

def rm_X2_greatestDivisor : Room := { frames := 0, cells := 0, slots := 0, locals := 0 }

set_option maxHeartbeats 4000000 in
set_option maxRecDepth 100000 in
theorem c_X2_greatestDivisor (l : Launch) (a0 : Int64) (a1 : Int64) (r0 : Int64) (hF : P_X2_greatestDivisor a0 a1 = some r0) : Met l yX2_greatestDivisor wsX2_greatestDivisor rm_X2_greatestDivisor (fun v _ => v = ([.long a0, .long a1] : List Value).toArray) (vp_Sl (fun x => x = r0)) 0 0 (fun _ => False) := by
  refine Met.ofW (cc := cX2_greatestDivisor) (maxL := 11) (ret := (some .long)) (by decide) rfl ?_
  intro p e s m args below meth c s₁ B hml hv
  change W p l e rm_X2_greatestDivisor s m args below meth c s.heap [] 0 0 _ _
  have hx := B.exec
  have hb := B.bytes
  have hr := B.returns
  have hts := atoms_spec (ws := wsX2_greatestDivisor) B.pre
  have hown : s.vm.findClass RX2 = some m.cls := findClass_of_methodNamed B.named
  have hlocks := B.notSynchronized
  generalize hQ : MQ below (vp_Sl (fun x => x = r0)) args s 0 0 (fun _ => False) = Q
  have hl := lv_entry ([.long a0, .long a1]) (n := 11) (Nat.le_of_ble_eq_true rfl)
  have hE : entryFrame m args 11 = F0 m 0 ((lg_sl ([.long a0, .long a1]) ++ List.replicate (11 - (lg_sl ([.long a0, .long a1])).length) Slot.unset).toArray) [] := by rw [hv]; exact lg_entry_eq m _ 11
  rw [hE]
  generalize (lg_sl ([.long a0, .long a1]) ++ List.replicate (11 - (lg_sl ([.long a0, .long a1])).length) Slot.unset).toArray = ls at hl ⊢
  have hl : lv_has ls 11 [(0, .long a0), (2, .long a1)] := hl
  unfold P_X2_greatestDivisor at hF
  refine lv_lload_n hx hb dX2_greatestDivisor_0 rfl (lv_at hl 0 rfl) ?_
  refine lv_lstore (lv' := [(4, .long a0), (0, .long a0), (2, .long a1)]) hx hb dX2_greatestDivisor_1 hl (by decide) rfl (fun ls hl => ?_)
  refine lv_lload_n hx hb dX2_greatestDivisor_3 rfl (lv_at hl 2 rfl) ?_
  refine lv_lstore (lv' := [(6, .long a1), (4, .long a0), (0, .long a0), (2, .long a1)]) hx hb dX2_greatestDivisor_4 hl (by decide) rfl (fun ls hl => ?_)
  refine lv_iconst (v := 0) hx hb dX2_greatestDivisor_6 (by decide) ?_
  refine lv_istore (lv' := [(8, .int (0 : Int32)), (6, .long a1), (4, .long a0), (0, .long a0), (2, .long a1)]) hx hb dX2_greatestDivisor_7 hl (by decide) rfl (fun ls hl => ?_)
  obtain ⟨o_4, o_5, o_6, hL_9, hF⟩ := bd3_u hF
  have lp_9 : ∀ (n : Nat) (k_1 : Int32) (k_2 : Int64) (k_3 : Int64) (o_4 : Int32) (o_5 : Int64) (o_6 : Int64) (ls : Array Slot), L_X2_greatestDivisor_9 n k_1 k_2 k_3 = some (o_4, o_5, o_6) → lv_has ls 11 [(8, .int k_1), (6, .long k_2), (4, .long k_3), (0, .long a0), (2, .long a1)] → (∀ (ls : Array Slot), lv_has ls 11 [(8, .int o_4), (6, .long o_5), (4, .long o_6), (0, .long a0), (2, .long a1)] → W p l e rm_X2_greatestDivisor s m args below meth c s.heap [] 0 0 Q (F0 m 44 ls [])) → W p l e rm_X2_greatestDivisor s m args below meth c s.heap [] 0 0 Q (F0 m 9 ls []) := by
    intro n
    induction n with
    | zero =>
      intro k_1 k_2 k_3 o_4 o_5 o_6 ls hF
      exact nn ((rfl : L_X2_greatestDivisor_9 0 k_1 k_2 k_3 = none).symm.trans hF)
    | succ n ih_9 =>
      intro k_1 k_2 k_3 o_4 o_5 o_6 ls hF hl kx_9
      have hF := (L_X2_greatestDivisor_9_s n k_1 k_2 k_3).symm.trans hF
      refine lv_iload hx hb dX2_greatestDivisor_9 (lv_at hl 0 rfl) ?_
      refine lv_bipush (v := 100) hx hb dX2_greatestDivisor_11 (by decide) ?_
      refine lv_icmp_ge (tgt := 44) hx hb dX2_greatestDivisor_13 (by decide) (fun c_7 => ?_) (fun c_7 => ?_)
      · have hF := br1 hF c_7
        obtain ⟨rfl, rfl, rfl⟩ := tp3 hF
        exact kx_9 ls hl
      · have hF := br0 hF c_7
        refine lv_lload hx hb dX2_greatestDivisor_16 (lv_at hl 1 rfl) ?_
        refine lv_lconst (v := 0) hx hb dX2_greatestDivisor_18 (by decide) ?_
        refine lc_eq (tgt := 44) hx hb dX2_greatestDivisor_19 dX2_greatestDivisor_20 (by decide) (fun c_8 => ?_) (fun c_8 => ?_)
        · have hF := br1 hF c_8
          obtain ⟨rfl, rfl, rfl⟩ := tp3 hF
          exact kx_9 ls hl
        · have hF := br0 hF c_8
          refine lv_lload hx hb dX2_greatestDivisor_23 (lv_at hl 2 rfl) ?_
          refine lv_lload hx hb dX2_greatestDivisor_25 (lv_at hl 1 rfl) ?_
          obtain ⟨hz_27, hF⟩ := gd_u hF
          refine lv_lrem hx hb dX2_greatestDivisor_27 (nz_ul hz_27) ?_
          refine lv_topl (fun v_9 ev_9 => ?_)
          have hF := nm_u hF ev_9
          refine lv_lstore (lv' := [(9, .long v_9), (8, .int k_1), (6, .long k_2), (4, .long k_3), (0, .long a0), (2, .long a1)]) hx hb dX2_greatestDivisor_28 hl (by decide) rfl (fun ls hl => ?_)
          refine lv_lload hx hb dX2_greatestDivisor_30 (lv_at hl 2 rfl) ?_
          refine lv_lstore (lv' := [(4, .long k_2), (9, .long v_9), (8, .int k_1), (6, .long k_2), (0, .long a0), (2, .long a1)]) hx hb dX2_greatestDivisor_32 hl (by decide) rfl (fun ls hl => ?_)
          refine lv_lload hx hb dX2_greatestDivisor_34 (lv_at hl 1 rfl) ?_
          refine lv_lstore (lv' := [(6, .long v_9), (4, .long k_2), (9, .long v_9), (8, .int k_1), (0, .long a0), (2, .long a1)]) hx hb dX2_greatestDivisor_36 hl (by decide) rfl (fun ls hl => ?_)
          refine lv_iinc (v := (k_1 + (1 : Int32))) (lv' := [(8, .int (k_1 + (1 : Int32))), (6, .long v_9), (4, .long k_2), (9, .long v_9), (0, .long a0), (2, .long a1)]) hx hb dX2_greatestDivisor_38 hl (k := 3) rfl rfl (by decide) rfl (fun ls hl => ?_)
          refine lv_goto (tgt := 9) hx hb dX2_greatestDivisor_41 (by decide) ?_
          exact ih_9 _ _ _ _ _ _ ls hF (lv_sub hl [0, 1, 2, 4, 5] rfl) kx_9
  refine lp_9 1000 (0 : Int32) a1 a0 o_4 o_5 o_6 ls hL_9 hl (fun ls hl => ?_)
  refine lv_lload hx hb dX2_greatestDivisor_44 (lv_at hl 2 rfl) ?_
  rw [← hQ]
  exact W.lret (v := o_6) hx hb hr (fun t ht hW => ⟨_, rfl, Option.some.inj hF, ht⟩) (fun _ h => by cases h) dX2_greatestDivisor_46

def P_X2_lowestTerms (a0 : Int64) (a1 : Int64) (a2 : Int32) : Option (Int64) :=
  bd1 (P_X2_greatestDivisor (if 0 < a0 then a0 else -a0) a1) (fun r_1 =>
  if (0 : Int64) < r_1 then
    if a2 = (0 : Int32) then
      gd (nzl r_1) (
      some (a0 / r_1))
    else
      gd (nzl r_1) (
      some (a1 / r_1))
  else
    some (0 : Int64))

def rm_X2_lowestTerms : Room := { frames := 1, cells := 0, slots := 0, locals := 30 }

set_option maxHeartbeats 4000000 in
set_option maxRecDepth 100000 in
theorem c_X2_lowestTerms (l : Launch) (a0 : Int64) (a1 : Int64) (a2 : Int32) (r0 : Int64) (hF : P_X2_lowestTerms a0 a1 a2 = some r0) : Met l yX2_lowestTerms wsX2_lowestTerms rm_X2_lowestTerms (fun v _ => v = ([.long a0, .long a1, .int a2] : List Value).toArray) (vp_Sl (fun x => x = r0)) 0 0 (fun _ => False) := by
  refine Met.ofW (cc := cX2_lowestTerms) (maxL := 7) (ret := (some .long)) (by decide) rfl ?_
  intro p e s m args below meth c s₁ B hml hv
  change W p l e rm_X2_lowestTerms s m args below meth c s.heap [] 0 0 _ _
  have hx := B.exec
  have hb := B.bytes
  have hr := B.returns
  have hts := atoms_spec (ws := wsX2_lowestTerms) B.pre
  have hown : s.vm.findClass RX2 = some m.cls := findClass_of_methodNamed B.named
  have hlocks := B.notSynchronized
  generalize hQ : MQ below (vp_Sl (fun x => x = r0)) args s 0 0 (fun _ => False) = Q
  have hl := lv_entry ([.long a0, .long a1, .int a2]) (n := 7) (Nat.le_of_ble_eq_true rfl)
  have hE : entryFrame m args 7 = F0 m 0 ((lg_sl ([.long a0, .long a1, .int a2]) ++ List.replicate (7 - (lg_sl ([.long a0, .long a1, .int a2])).length) Slot.unset).toArray) [] := by rw [hv]; exact lg_entry_eq m _ 7
  rw [hE]
  generalize (lg_sl ([.long a0, .long a1, .int a2]) ++ List.replicate (7 - (lg_sl ([.long a0, .long a1, .int a2])).length) Slot.unset).toArray = ls at hl ⊢
  have hl : lv_has ls 7 [(0, .long a0), (2, .long a1), (4, .int a2)] := hl
  unfold P_X2_lowestTerms at hF
  refine lv_lload_n hx hb dX2_lowestTerms_0 rfl (lv_at hl 0 rfl) ?_
  refine va_mabs_long hx hb (hml.trans hl.1.symm) hown (hts (.methodLink RX2 127 Lib.MathLoose.abs_long.x) (by decide +kernel)) (hts (.static Lib.MathLoose.abs_long.x) (by decide +kernel)) (hts (.initialized "java/lang/Math") (by decide +kernel)) (hts (.code Lib.MathLoose.abs_long.x Lib.MathLoose.abs_long.code 2 (some .long)) (by decide +kernel)) (Nat.le_of_ble_eq_true rfl) (Nat.le_of_ble_eq_true rfl) (Nat.zero_le _) (Nat.zero_le _) dX2_lowestTerms_1 ?_
  refine lv_lload_n hx hb dX2_lowestTerms_4 rfl (lv_at hl 1 rfl) ?_
  obtain ⟨r_1, hr_1, hF⟩ := bd1_u hF
  refine vp_callSl (W.runS (As := [.long (if 0 < a0 then a0 else -a0), .long a1]) (rest := []) ⟨hx, hb, hml, hown, hts⟩ (c_X2_greatestDivisor l (if 0 < a0 then a0 else -a0) a1 r_1 hr_1) (va_cwS 2 hts gX2_lowestTerms_X2_greatestDivisor rfl rfl rfl (by decide +kernel) ⟨Nat.le_of_ble_eq_true rfl, Nat.le_of_ble_eq_true rfl⟩) preEq rfl rfl hl.1 rfl (lv_room (Nat.le_of_ble_eq_true rfl)) dX2_lowestTerms_5 ⟨Nat.le_of_ble_eq_true rfl, Nat.le_of_ble_eq_true rfl⟩) (fun r_1' qr_1 => ?_)
  obtain rfl := qr_1.symm
  refine lv_lstore (lv' := [(5, .long r_1), (0, .long a0), (2, .long a1), (4, .int a2)]) hx hb dX2_lowestTerms_8 hl (by decide) rfl (fun ls hl => ?_)
  refine lv_lload hx hb dX2_lowestTerms_10 (lv_at hl 0 rfl) ?_
  refine lv_lconst (v := 0) hx hb dX2_lowestTerms_12 (by decide) ?_
  refine lc_gt (tgt := 19) hx hb dX2_lowestTerms_13 dX2_lowestTerms_14 (by decide) (fun c_2 => ?_) (fun c_2 => ?_)
  · have hF := br1 hF c_2
    refine lv_iload hx hb dX2_lowestTerms_19 (lv_at hl 3 rfl) ?_
    refine lv_if_ne (tgt := 28) hx hb dX2_lowestTerms_21 (by decide) (fun c_3 => ?_) (fun c_3 => ?_)
    · have hF := br0 hF c_3
      refine lv_lload_n hx hb dX2_lowestTerms_28 rfl (lv_at hl 2 rfl) ?_
      refine lv_lload hx hb dX2_lowestTerms_29 (lv_at hl 0 rfl) ?_
      obtain ⟨hz_31, hF⟩ := gd_u hF
      refine lv_ldiv hx hb dX2_lowestTerms_31 (nz_ul hz_31) ?_
      rw [← hQ]
      exact W.lret (v := (a1 / r_1)) hx hb hr (fun t ht hW => ⟨_, rfl, Option.some.inj hF, ht⟩) (fun _ h => by cases h) dX2_lowestTerms_32
    · have hF := br1 hF c_3
      refine lv_lload_n hx hb dX2_lowestTerms_24 rfl (lv_at hl 1 rfl) ?_
      refine lv_goto (tgt := 29) hx hb dX2_lowestTerms_25 (by decide) ?_
      refine lv_lload hx hb dX2_lowestTerms_29 (lv_at hl 0 rfl) ?_
      obtain ⟨hz_31, hF⟩ := gd_u hF
      refine lv_ldiv hx hb dX2_lowestTerms_31 (nz_ul hz_31) ?_
      rw [← hQ]
      exact W.lret (v := (a0 / r_1)) hx hb hr (fun t ht hW => ⟨_, rfl, Option.some.inj hF, ht⟩) (fun _ h => by cases h) dX2_lowestTerms_32
  · have hF := br0 hF c_2
    refine lv_lconst (v := 0) hx hb dX2_lowestTerms_17 (by decide) ?_
    rw [← hQ]
    exact W.lret (v := (0 : Int64)) hx hb hr (fun t ht hW => ⟨_, rfl, Option.some.inj hF, ht⟩) (fun _ h => by cases h) dX2_lowestTerms_18

def P_X0_beforeEdge (a0 : Int32) (a1 : Int32) (a2 : Int32) (a3 : Int32) (a4 : Int32) : Option (Int64) :=
  if a3 = (0 : Int32) then
    some (0 : Int64)
  else
    if (0 : Int32) < a0 then
      if a0 < (0 : Int32) then
        if a2 = (0 : Int32) then
          some (0 : Int64)
        else
          if a0 ≤ a1 then
            gd (nzl ((a2 * a3).toInt64)) (
            some ((((27720 : Int64) * a1.toInt64) * a1.toInt64) / (a2 * a3).toInt64))
          else
            gd (nzl ((a2 * a3).toInt64)) (
            some ((((27720 : Int64) * a0.toInt64) * a0.toInt64) / (a2 * a3).toInt64))
      else
        if a1 < (0 : Int32) then
          if a2 = (0 : Int32) then
            some (0 : Int64)
          else
            if a0 ≤ a1 then
              gd (nzl ((a2 * a3).toInt64)) (
              some ((((27720 : Int64) * a1.toInt64) * a1.toInt64) / (a2 * a3).toInt64))
            else
              gd (nzl ((a2 * a3).toInt64)) (
              some ((((27720 : Int64) * a0.toInt64) * a0.toInt64) / (a2 * a3).toInt64))
        else
          gd (nzl a3.toInt64) (
          some ((((27720 : Int64) * (a0 + a1).toInt64) * a4.toInt64) / a3.toInt64))
    else
      if (0 : Int32) < a1 then
        if a0 < (0 : Int32) then
          if a2 = (0 : Int32) then
            some (0 : Int64)
          else
            if a0 ≤ a1 then
              gd (nzl ((a2 * a3).toInt64)) (
              some ((((27720 : Int64) * a1.toInt64) * a1.toInt64) / (a2 * a3).toInt64))
            else
              gd (nzl ((a2 * a3).toInt64)) (
              some ((((27720 : Int64) * a0.toInt64) * a0.toInt64) / (a2 * a3).toInt64))
        else
          if a1 < (0 : Int32) then
            if a2 = (0 : Int32) then
              some (0 : Int64)
            else
              if a0 ≤ a1 then
                gd (nzl ((a2 * a3).toInt64)) (
                some ((((27720 : Int64) * a1.toInt64) * a1.toInt64) / (a2 * a3).toInt64))
              else
                gd (nzl ((a2 * a3).toInt64)) (
                some ((((27720 : Int64) * a0.toInt64) * a0.toInt64) / (a2 * a3).toInt64))
          else
            gd (nzl a3.toInt64) (
            some ((((27720 : Int64) * (a0 + a1).toInt64) * a4.toInt64) / a3.toInt64))
      else
        some (0 : Int64)

def rm_X0_beforeEdge : Room := { frames := 0, cells := 0, slots := 0, locals := 0 }

set_option maxHeartbeats 4000000 in
set_option maxRecDepth 100000 in
theorem c_X0_beforeEdge (l : Launch) (a0 : Int32) (a1 : Int32) (a2 : Int32) (a3 : Int32) (a4 : Int32) (r0 : Int64) (hF : P_X0_beforeEdge a0 a1 a2 a3 a4 = some r0) : Met l yX0_beforeEdge wsX0_beforeEdge rm_X0_beforeEdge (fun v _ => v = ([.int a0, .int a1, .int a2, .int a3, .int a4] : List Value).toArray) (vp_Sl (fun x => x = r0)) 0 0 (fun _ => False) := by
  refine Met.ofW (cc := cX0_beforeEdge) (maxL := 6) (ret := (some .long)) (by decide) rfl ?_
  intro p e s m args below meth c s₁ B hml hv
  change W p l e rm_X0_beforeEdge s m args below meth c s.heap [] 0 0 _ _
  have hx := B.exec
  have hb := B.bytes
  have hr := B.returns
  have hts := atoms_spec (ws := wsX0_beforeEdge) B.pre
  have hown : s.vm.findClass RX0 = some m.cls := findClass_of_methodNamed B.named
  have hlocks := B.notSynchronized
  generalize hQ : MQ below (vp_Sl (fun x => x = r0)) args s 0 0 (fun _ => False) = Q
  have hl := lv_entry ([.int a0, .int a1, .int a2, .int a3, .int a4]) (n := 6) (Nat.le_of_ble_eq_true rfl)
  have hE : entryFrame m args 6 = F0 m 0 ((lg_sl ([.int a0, .int a1, .int a2, .int a3, .int a4]) ++ List.replicate (6 - (lg_sl ([.int a0, .int a1, .int a2, .int a3, .int a4])).length) Slot.unset).toArray) [] := by rw [hv]; exact lg_entry_eq m _ 6
  rw [hE]
  generalize (lg_sl ([.int a0, .int a1, .int a2, .int a3, .int a4]) ++ List.replicate (6 - (lg_sl ([.int a0, .int a1, .int a2, .int a3, .int a4])).length) Slot.unset).toArray = ls at hl ⊢
  have hl : lv_has ls 6 [(0, .int a0), (1, .int a1), (2, .int a2), (3, .int a3), (4, .int a4)] := hl
  unfold P_X0_beforeEdge at hF
  refine lv_iload_n hx hb dX0_beforeEdge_0 rfl (lv_at hl 3 rfl) ?_
  refine lv_if_eq (tgt := 12) hx hb dX0_beforeEdge_1 (by decide) (fun c_1 => ?_) (fun c_1 => ?_)
  · have hF := br1 hF c_1
    refine lv_lconst (v := 0) hx hb dX0_beforeEdge_12 (by decide) ?_
    rw [← hQ]
    exact W.lret (v := (0 : Int64)) hx hb hr (fun t ht hW => ⟨_, rfl, Option.some.inj hF, ht⟩) (fun _ h => by cases h) dX0_beforeEdge_13
  · have hF := br0 hF c_1
    refine lv_iload_n hx hb dX0_beforeEdge_4 rfl (lv_at hl 0 rfl) ?_
    refine lv_if_gt (tgt := 14) hx hb dX0_beforeEdge_5 (by decide) (fun c_2 => ?_) (fun c_2 => ?_)
    · have hF := br1 hF c_2
      refine lv_iload_n hx hb dX0_beforeEdge_14 rfl (lv_at hl 0 rfl) ?_
      refine lv_if_lt (tgt := 38) hx hb dX0_beforeEdge_15 (by decide) (fun c_3 => ?_) (fun c_3 => ?_)
      · have hF := br1 hF c_3
        refine lv_iload_n hx hb dX0_beforeEdge_38 rfl (lv_at hl 2 rfl) ?_
        refine lv_if_ne (tgt := 44) hx hb dX0_beforeEdge_39 (by decide) (fun c_4 => ?_) (fun c_4 => ?_)
        · have hF := br0 hF c_4
          refine lv_iload_n hx hb dX0_beforeEdge_44 rfl (lv_at hl 0 rfl) ?_
          refine lv_iload_n hx hb dX0_beforeEdge_45 rfl (lv_at hl 1 rfl) ?_
          refine lv_icmp_le (tgt := 53) hx hb dX0_beforeEdge_46 (by decide) (fun c_5 => ?_) (fun c_5 => ?_)
          · have hF := br1 hF c_5
            refine lv_iload_n hx hb dX0_beforeEdge_53 rfl (lv_at hl 1 rfl) ?_
            refine lv_istore (lv' := [(5, .int a1), (0, .int a0), (1, .int a1), (2, .int a2), (3, .int a3), (4, .int a4)]) hx hb dX0_beforeEdge_54 hl (by decide) rfl (fun ls hl => ?_)
            refine lv_ldc2 (v := 27720) hx hb hown (hts (.constantLong RX0 85 (27720)) (by decide +kernel)) dX0_beforeEdge_56 ?_
            refine lv_iload hx hb dX0_beforeEdge_59 (lv_at hl 0 rfl) ?_
            refine lv_i2l (v := a1.toInt64) hx hb dX0_beforeEdge_61 rfl ?_
            refine lv_lmul hx hb dX0_beforeEdge_62 ?_
            refine lv_iload hx hb dX0_beforeEdge_63 (lv_at hl 0 rfl) ?_
            refine lv_i2l (v := a1.toInt64) hx hb dX0_beforeEdge_65 rfl ?_
            refine lv_lmul hx hb dX0_beforeEdge_66 ?_
            refine lv_iload_n hx hb dX0_beforeEdge_67 rfl (lv_at hl 3 rfl) ?_
            refine lv_iload_n hx hb dX0_beforeEdge_68 rfl (lv_at hl 4 rfl) ?_
            refine lv_imul hx hb dX0_beforeEdge_69 ?_
            refine lv_i2l (v := (a2 * a3).toInt64) hx hb dX0_beforeEdge_70 rfl ?_
            obtain ⟨hz_71, hF⟩ := gd_u hF
            refine lv_ldiv hx hb dX0_beforeEdge_71 (nz_ul hz_71) ?_
            rw [← hQ]
            exact W.lret (v := ((((27720 : Int64) * a1.toInt64) * a1.toInt64) / (a2 * a3).toInt64)) hx hb hr (fun t ht hW => ⟨_, rfl, Option.some.inj hF, ht⟩) (fun _ h => by cases h) dX0_beforeEdge_72
          · have hF := br0 hF c_5
            refine lv_iload_n hx hb dX0_beforeEdge_49 rfl (lv_at hl 0 rfl) ?_
            refine lv_goto (tgt := 54) hx hb dX0_beforeEdge_50 (by decide) ?_
            refine lv_istore (lv' := [(5, .int a0), (0, .int a0), (1, .int a1), (2, .int a2), (3, .int a3), (4, .int a4)]) hx hb dX0_beforeEdge_54 hl (by decide) rfl (fun ls hl => ?_)
            refine lv_ldc2 (v := 27720) hx hb hown (hts (.constantLong RX0 85 (27720)) (by decide +kernel)) dX0_beforeEdge_56 ?_
            refine lv_iload hx hb dX0_beforeEdge_59 (lv_at hl 0 rfl) ?_
            refine lv_i2l (v := a0.toInt64) hx hb dX0_beforeEdge_61 rfl ?_
            refine lv_lmul hx hb dX0_beforeEdge_62 ?_
            refine lv_iload hx hb dX0_beforeEdge_63 (lv_at hl 0 rfl) ?_
            refine lv_i2l (v := a0.toInt64) hx hb dX0_beforeEdge_65 rfl ?_
            refine lv_lmul hx hb dX0_beforeEdge_66 ?_
            refine lv_iload_n hx hb dX0_beforeEdge_67 rfl (lv_at hl 3 rfl) ?_
            refine lv_iload_n hx hb dX0_beforeEdge_68 rfl (lv_at hl 4 rfl) ?_
            refine lv_imul hx hb dX0_beforeEdge_69 ?_
            refine lv_i2l (v := (a2 * a3).toInt64) hx hb dX0_beforeEdge_70 rfl ?_
            obtain ⟨hz_71, hF⟩ := gd_u hF
            refine lv_ldiv hx hb dX0_beforeEdge_71 (nz_ul hz_71) ?_
            rw [← hQ]
            exact W.lret (v := ((((27720 : Int64) * a0.toInt64) * a0.toInt64) / (a2 * a3).toInt64)) hx hb hr (fun t ht hW => ⟨_, rfl, Option.some.inj hF, ht⟩) (fun _ h => by cases h) dX0_beforeEdge_72
        · have hF := br1 hF c_4
          refine lv_lconst (v := 0) hx hb dX0_beforeEdge_42 (by decide) ?_
          rw [← hQ]
          exact W.lret (v := (0 : Int64)) hx hb hr (fun t ht hW => ⟨_, rfl, Option.some.inj hF, ht⟩) (fun _ h => by cases h) dX0_beforeEdge_43
      · have hF := br0 hF c_3
        refine lv_iload_n hx hb dX0_beforeEdge_18 rfl (lv_at hl 1 rfl) ?_
        refine lv_if_lt (tgt := 38) hx hb dX0_beforeEdge_19 (by decide) (fun c_6 => ?_) (fun c_6 => ?_)
        · have hF := br1 hF c_6
          refine lv_iload_n hx hb dX0_beforeEdge_38 rfl (lv_at hl 2 rfl) ?_
          refine lv_if_ne (tgt := 44) hx hb dX0_beforeEdge_39 (by decide) (fun c_7 => ?_) (fun c_7 => ?_)
          · have hF := br0 hF c_7
            refine lv_iload_n hx hb dX0_beforeEdge_44 rfl (lv_at hl 0 rfl) ?_
            refine lv_iload_n hx hb dX0_beforeEdge_45 rfl (lv_at hl 1 rfl) ?_
            refine lv_icmp_le (tgt := 53) hx hb dX0_beforeEdge_46 (by decide) (fun c_8 => ?_) (fun c_8 => ?_)
            · have hF := br1 hF c_8
              refine lv_iload_n hx hb dX0_beforeEdge_53 rfl (lv_at hl 1 rfl) ?_
              refine lv_istore (lv' := [(5, .int a1), (0, .int a0), (1, .int a1), (2, .int a2), (3, .int a3), (4, .int a4)]) hx hb dX0_beforeEdge_54 hl (by decide) rfl (fun ls hl => ?_)
              refine lv_ldc2 (v := 27720) hx hb hown (hts (.constantLong RX0 85 (27720)) (by decide +kernel)) dX0_beforeEdge_56 ?_
              refine lv_iload hx hb dX0_beforeEdge_59 (lv_at hl 0 rfl) ?_
              refine lv_i2l (v := a1.toInt64) hx hb dX0_beforeEdge_61 rfl ?_
              refine lv_lmul hx hb dX0_beforeEdge_62 ?_
              refine lv_iload hx hb dX0_beforeEdge_63 (lv_at hl 0 rfl) ?_
              refine lv_i2l (v := a1.toInt64) hx hb dX0_beforeEdge_65 rfl ?_
              refine lv_lmul hx hb dX0_beforeEdge_66 ?_
              refine lv_iload_n hx hb dX0_beforeEdge_67 rfl (lv_at hl 3 rfl) ?_
              refine lv_iload_n hx hb dX0_beforeEdge_68 rfl (lv_at hl 4 rfl) ?_
              refine lv_imul hx hb dX0_beforeEdge_69 ?_
              refine lv_i2l (v := (a2 * a3).toInt64) hx hb dX0_beforeEdge_70 rfl ?_
              obtain ⟨hz_71, hF⟩ := gd_u hF
              refine lv_ldiv hx hb dX0_beforeEdge_71 (nz_ul hz_71) ?_
              rw [← hQ]
              exact W.lret (v := ((((27720 : Int64) * a1.toInt64) * a1.toInt64) / (a2 * a3).toInt64)) hx hb hr (fun t ht hW => ⟨_, rfl, Option.some.inj hF, ht⟩) (fun _ h => by cases h) dX0_beforeEdge_72
            · have hF := br0 hF c_8
              refine lv_iload_n hx hb dX0_beforeEdge_49 rfl (lv_at hl 0 rfl) ?_
              refine lv_goto (tgt := 54) hx hb dX0_beforeEdge_50 (by decide) ?_
              refine lv_istore (lv' := [(5, .int a0), (0, .int a0), (1, .int a1), (2, .int a2), (3, .int a3), (4, .int a4)]) hx hb dX0_beforeEdge_54 hl (by decide) rfl (fun ls hl => ?_)
              refine lv_ldc2 (v := 27720) hx hb hown (hts (.constantLong RX0 85 (27720)) (by decide +kernel)) dX0_beforeEdge_56 ?_
              refine lv_iload hx hb dX0_beforeEdge_59 (lv_at hl 0 rfl) ?_
              refine lv_i2l (v := a0.toInt64) hx hb dX0_beforeEdge_61 rfl ?_
              refine lv_lmul hx hb dX0_beforeEdge_62 ?_
              refine lv_iload hx hb dX0_beforeEdge_63 (lv_at hl 0 rfl) ?_
              refine lv_i2l (v := a0.toInt64) hx hb dX0_beforeEdge_65 rfl ?_
              refine lv_lmul hx hb dX0_beforeEdge_66 ?_
              refine lv_iload_n hx hb dX0_beforeEdge_67 rfl (lv_at hl 3 rfl) ?_
              refine lv_iload_n hx hb dX0_beforeEdge_68 rfl (lv_at hl 4 rfl) ?_
              refine lv_imul hx hb dX0_beforeEdge_69 ?_
              refine lv_i2l (v := (a2 * a3).toInt64) hx hb dX0_beforeEdge_70 rfl ?_
              obtain ⟨hz_71, hF⟩ := gd_u hF
              refine lv_ldiv hx hb dX0_beforeEdge_71 (nz_ul hz_71) ?_
              rw [← hQ]
              exact W.lret (v := ((((27720 : Int64) * a0.toInt64) * a0.toInt64) / (a2 * a3).toInt64)) hx hb hr (fun t ht hW => ⟨_, rfl, Option.some.inj hF, ht⟩) (fun _ h => by cases h) dX0_beforeEdge_72
          · have hF := br1 hF c_7
            refine lv_lconst (v := 0) hx hb dX0_beforeEdge_42 (by decide) ?_
            rw [← hQ]
            exact W.lret (v := (0 : Int64)) hx hb hr (fun t ht hW => ⟨_, rfl, Option.some.inj hF, ht⟩) (fun _ h => by cases h) dX0_beforeEdge_43
        · have hF := br0 hF c_6
          refine lv_ldc2 (v := 27720) hx hb hown (hts (.constantLong RX0 85 (27720)) (by decide +kernel)) dX0_beforeEdge_22 ?_
          refine lv_iload_n hx hb dX0_beforeEdge_25 rfl (lv_at hl 0 rfl) ?_
          refine lv_iload_n hx hb dX0_beforeEdge_26 rfl (lv_at hl 1 rfl) ?_
          refine lv_iadd hx hb dX0_beforeEdge_27 ?_
          refine lv_i2l (v := (a0 + a1).toInt64) hx hb dX0_beforeEdge_28 rfl ?_
          refine lv_lmul hx hb dX0_beforeEdge_29 ?_
          refine lv_iload hx hb dX0_beforeEdge_30 (lv_at hl 4 rfl) ?_
          refine lv_i2l (v := a4.toInt64) hx hb dX0_beforeEdge_32 rfl ?_
          refine lv_lmul hx hb dX0_beforeEdge_33 ?_
          refine lv_iload_n hx hb dX0_beforeEdge_34 rfl (lv_at hl 3 rfl) ?_
          refine lv_i2l (v := a3.toInt64) hx hb dX0_beforeEdge_35 rfl ?_
          obtain ⟨hz_36, hF⟩ := gd_u hF
          refine lv_ldiv hx hb dX0_beforeEdge_36 (nz_ul hz_36) ?_
          rw [← hQ]
          exact W.lret (v := ((((27720 : Int64) * (a0 + a1).toInt64) * a4.toInt64) / a3.toInt64)) hx hb hr (fun t ht hW => ⟨_, rfl, Option.some.inj hF, ht⟩) (fun _ h => by cases h) dX0_beforeEdge_37
    · have hF := br0 hF c_2
      refine lv_iload_n hx hb dX0_beforeEdge_8 rfl (lv_at hl 1 rfl) ?_
      refine lv_if_gt (tgt := 14) hx hb dX0_beforeEdge_9 (by decide) (fun c_9 => ?_) (fun c_9 => ?_)
      · have hF := br1 hF c_9
        refine lv_iload_n hx hb dX0_beforeEdge_14 rfl (lv_at hl 0 rfl) ?_
        refine lv_if_lt (tgt := 38) hx hb dX0_beforeEdge_15 (by decide) (fun c_10 => ?_) (fun c_10 => ?_)
        · have hF := br1 hF c_10
          refine lv_iload_n hx hb dX0_beforeEdge_38 rfl (lv_at hl 2 rfl) ?_
          refine lv_if_ne (tgt := 44) hx hb dX0_beforeEdge_39 (by decide) (fun c_11 => ?_) (fun c_11 => ?_)
          · have hF := br0 hF c_11
            refine lv_iload_n hx hb dX0_beforeEdge_44 rfl (lv_at hl 0 rfl) ?_
            refine lv_iload_n hx hb dX0_beforeEdge_45 rfl (lv_at hl 1 rfl) ?_
            refine lv_icmp_le (tgt := 53) hx hb dX0_beforeEdge_46 (by decide) (fun c_12 => ?_) (fun c_12 => ?_)
            · have hF := br1 hF c_12
              refine lv_iload_n hx hb dX0_beforeEdge_53 rfl (lv_at hl 1 rfl) ?_
              refine lv_istore (lv' := [(5, .int a1), (0, .int a0), (1, .int a1), (2, .int a2), (3, .int a3), (4, .int a4)]) hx hb dX0_beforeEdge_54 hl (by decide) rfl (fun ls hl => ?_)
              refine lv_ldc2 (v := 27720) hx hb hown (hts (.constantLong RX0 85 (27720)) (by decide +kernel)) dX0_beforeEdge_56 ?_
              refine lv_iload hx hb dX0_beforeEdge_59 (lv_at hl 0 rfl) ?_
              refine lv_i2l (v := a1.toInt64) hx hb dX0_beforeEdge_61 rfl ?_
              refine lv_lmul hx hb dX0_beforeEdge_62 ?_
              refine lv_iload hx hb dX0_beforeEdge_63 (lv_at hl 0 rfl) ?_
              refine lv_i2l (v := a1.toInt64) hx hb dX0_beforeEdge_65 rfl ?_
              refine lv_lmul hx hb dX0_beforeEdge_66 ?_
              refine lv_iload_n hx hb dX0_beforeEdge_67 rfl (lv_at hl 3 rfl) ?_
              refine lv_iload_n hx hb dX0_beforeEdge_68 rfl (lv_at hl 4 rfl) ?_
              refine lv_imul hx hb dX0_beforeEdge_69 ?_
              refine lv_i2l (v := (a2 * a3).toInt64) hx hb dX0_beforeEdge_70 rfl ?_
              obtain ⟨hz_71, hF⟩ := gd_u hF
              refine lv_ldiv hx hb dX0_beforeEdge_71 (nz_ul hz_71) ?_
              rw [← hQ]
              exact W.lret (v := ((((27720 : Int64) * a1.toInt64) * a1.toInt64) / (a2 * a3).toInt64)) hx hb hr (fun t ht hW => ⟨_, rfl, Option.some.inj hF, ht⟩) (fun _ h => by cases h) dX0_beforeEdge_72
            · have hF := br0 hF c_12
              refine lv_iload_n hx hb dX0_beforeEdge_49 rfl (lv_at hl 0 rfl) ?_
              refine lv_goto (tgt := 54) hx hb dX0_beforeEdge_50 (by decide) ?_
              refine lv_istore (lv' := [(5, .int a0), (0, .int a0), (1, .int a1), (2, .int a2), (3, .int a3), (4, .int a4)]) hx hb dX0_beforeEdge_54 hl (by decide) rfl (fun ls hl => ?_)
              refine lv_ldc2 (v := 27720) hx hb hown (hts (.constantLong RX0 85 (27720)) (by decide +kernel)) dX0_beforeEdge_56 ?_
              refine lv_iload hx hb dX0_beforeEdge_59 (lv_at hl 0 rfl) ?_
              refine lv_i2l (v := a0.toInt64) hx hb dX0_beforeEdge_61 rfl ?_
              refine lv_lmul hx hb dX0_beforeEdge_62 ?_
              refine lv_iload hx hb dX0_beforeEdge_63 (lv_at hl 0 rfl) ?_
              refine lv_i2l (v := a0.toInt64) hx hb dX0_beforeEdge_65 rfl ?_
              refine lv_lmul hx hb dX0_beforeEdge_66 ?_
              refine lv_iload_n hx hb dX0_beforeEdge_67 rfl (lv_at hl 3 rfl) ?_
              refine lv_iload_n hx hb dX0_beforeEdge_68 rfl (lv_at hl 4 rfl) ?_
              refine lv_imul hx hb dX0_beforeEdge_69 ?_
              refine lv_i2l (v := (a2 * a3).toInt64) hx hb dX0_beforeEdge_70 rfl ?_
              obtain ⟨hz_71, hF⟩ := gd_u hF
              refine lv_ldiv hx hb dX0_beforeEdge_71 (nz_ul hz_71) ?_
              rw [← hQ]
              exact W.lret (v := ((((27720 : Int64) * a0.toInt64) * a0.toInt64) / (a2 * a3).toInt64)) hx hb hr (fun t ht hW => ⟨_, rfl, Option.some.inj hF, ht⟩) (fun _ h => by cases h) dX0_beforeEdge_72
          · have hF := br1 hF c_11
            refine lv_lconst (v := 0) hx hb dX0_beforeEdge_42 (by decide) ?_
            rw [← hQ]
            exact W.lret (v := (0 : Int64)) hx hb hr (fun t ht hW => ⟨_, rfl, Option.some.inj hF, ht⟩) (fun _ h => by cases h) dX0_beforeEdge_43
        · have hF := br0 hF c_10
          refine lv_iload_n hx hb dX0_beforeEdge_18 rfl (lv_at hl 1 rfl) ?_
          refine lv_if_lt (tgt := 38) hx hb dX0_beforeEdge_19 (by decide) (fun c_13 => ?_) (fun c_13 => ?_)
          · have hF := br1 hF c_13
            refine lv_iload_n hx hb dX0_beforeEdge_38 rfl (lv_at hl 2 rfl) ?_
            refine lv_if_ne (tgt := 44) hx hb dX0_beforeEdge_39 (by decide) (fun c_14 => ?_) (fun c_14 => ?_)
            · have hF := br0 hF c_14
              refine lv_iload_n hx hb dX0_beforeEdge_44 rfl (lv_at hl 0 rfl) ?_
              refine lv_iload_n hx hb dX0_beforeEdge_45 rfl (lv_at hl 1 rfl) ?_
              refine lv_icmp_le (tgt := 53) hx hb dX0_beforeEdge_46 (by decide) (fun c_15 => ?_) (fun c_15 => ?_)
              · have hF := br1 hF c_15
                refine lv_iload_n hx hb dX0_beforeEdge_53 rfl (lv_at hl 1 rfl) ?_
                refine lv_istore (lv' := [(5, .int a1), (0, .int a0), (1, .int a1), (2, .int a2), (3, .int a3), (4, .int a4)]) hx hb dX0_beforeEdge_54 hl (by decide) rfl (fun ls hl => ?_)
                refine lv_ldc2 (v := 27720) hx hb hown (hts (.constantLong RX0 85 (27720)) (by decide +kernel)) dX0_beforeEdge_56 ?_
                refine lv_iload hx hb dX0_beforeEdge_59 (lv_at hl 0 rfl) ?_
                refine lv_i2l (v := a1.toInt64) hx hb dX0_beforeEdge_61 rfl ?_
                refine lv_lmul hx hb dX0_beforeEdge_62 ?_
                refine lv_iload hx hb dX0_beforeEdge_63 (lv_at hl 0 rfl) ?_
                refine lv_i2l (v := a1.toInt64) hx hb dX0_beforeEdge_65 rfl ?_
                refine lv_lmul hx hb dX0_beforeEdge_66 ?_
                refine lv_iload_n hx hb dX0_beforeEdge_67 rfl (lv_at hl 3 rfl) ?_
                refine lv_iload_n hx hb dX0_beforeEdge_68 rfl (lv_at hl 4 rfl) ?_
                refine lv_imul hx hb dX0_beforeEdge_69 ?_
                refine lv_i2l (v := (a2 * a3).toInt64) hx hb dX0_beforeEdge_70 rfl ?_
                obtain ⟨hz_71, hF⟩ := gd_u hF
                refine lv_ldiv hx hb dX0_beforeEdge_71 (nz_ul hz_71) ?_
                rw [← hQ]
                exact W.lret (v := ((((27720 : Int64) * a1.toInt64) * a1.toInt64) / (a2 * a3).toInt64)) hx hb hr (fun t ht hW => ⟨_, rfl, Option.some.inj hF, ht⟩) (fun _ h => by cases h) dX0_beforeEdge_72
              · have hF := br0 hF c_15
                refine lv_iload_n hx hb dX0_beforeEdge_49 rfl (lv_at hl 0 rfl) ?_
                refine lv_goto (tgt := 54) hx hb dX0_beforeEdge_50 (by decide) ?_
                refine lv_istore (lv' := [(5, .int a0), (0, .int a0), (1, .int a1), (2, .int a2), (3, .int a3), (4, .int a4)]) hx hb dX0_beforeEdge_54 hl (by decide) rfl (fun ls hl => ?_)
                refine lv_ldc2 (v := 27720) hx hb hown (hts (.constantLong RX0 85 (27720)) (by decide +kernel)) dX0_beforeEdge_56 ?_
                refine lv_iload hx hb dX0_beforeEdge_59 (lv_at hl 0 rfl) ?_
                refine lv_i2l (v := a0.toInt64) hx hb dX0_beforeEdge_61 rfl ?_
                refine lv_lmul hx hb dX0_beforeEdge_62 ?_
                refine lv_iload hx hb dX0_beforeEdge_63 (lv_at hl 0 rfl) ?_
                refine lv_i2l (v := a0.toInt64) hx hb dX0_beforeEdge_65 rfl ?_
                refine lv_lmul hx hb dX0_beforeEdge_66 ?_
                refine lv_iload_n hx hb dX0_beforeEdge_67 rfl (lv_at hl 3 rfl) ?_
                refine lv_iload_n hx hb dX0_beforeEdge_68 rfl (lv_at hl 4 rfl) ?_
                refine lv_imul hx hb dX0_beforeEdge_69 ?_
                refine lv_i2l (v := (a2 * a3).toInt64) hx hb dX0_beforeEdge_70 rfl ?_
                obtain ⟨hz_71, hF⟩ := gd_u hF
                refine lv_ldiv hx hb dX0_beforeEdge_71 (nz_ul hz_71) ?_
                rw [← hQ]
                exact W.lret (v := ((((27720 : Int64) * a0.toInt64) * a0.toInt64) / (a2 * a3).toInt64)) hx hb hr (fun t ht hW => ⟨_, rfl, Option.some.inj hF, ht⟩) (fun _ h => by cases h) dX0_beforeEdge_72
            · have hF := br1 hF c_14
              refine lv_lconst (v := 0) hx hb dX0_beforeEdge_42 (by decide) ?_
              rw [← hQ]
              exact W.lret (v := (0 : Int64)) hx hb hr (fun t ht hW => ⟨_, rfl, Option.some.inj hF, ht⟩) (fun _ h => by cases h) dX0_beforeEdge_43
          · have hF := br0 hF c_13
            refine lv_ldc2 (v := 27720) hx hb hown (hts (.constantLong RX0 85 (27720)) (by decide +kernel)) dX0_beforeEdge_22 ?_
            refine lv_iload_n hx hb dX0_beforeEdge_25 rfl (lv_at hl 0 rfl) ?_
            refine lv_iload_n hx hb dX0_beforeEdge_26 rfl (lv_at hl 1 rfl) ?_
            refine lv_iadd hx hb dX0_beforeEdge_27 ?_
            refine lv_i2l (v := (a0 + a1).toInt64) hx hb dX0_beforeEdge_28 rfl ?_
            refine lv_lmul hx hb dX0_beforeEdge_29 ?_
            refine lv_iload hx hb dX0_beforeEdge_30 (lv_at hl 4 rfl) ?_
            refine lv_i2l (v := a4.toInt64) hx hb dX0_beforeEdge_32 rfl ?_
            refine lv_lmul hx hb dX0_beforeEdge_33 ?_
            refine lv_iload_n hx hb dX0_beforeEdge_34 rfl (lv_at hl 3 rfl) ?_
            refine lv_i2l (v := a3.toInt64) hx hb dX0_beforeEdge_35 rfl ?_
            obtain ⟨hz_36, hF⟩ := gd_u hF
            refine lv_ldiv hx hb dX0_beforeEdge_36 (nz_ul hz_36) ?_
            rw [← hQ]
            exact W.lret (v := ((((27720 : Int64) * (a0 + a1).toInt64) * a4.toInt64) / a3.toInt64)) hx hb hr (fun t ht hW => ⟨_, rfl, Option.some.inj hF, ht⟩) (fun _ h => by cases h) dX0_beforeEdge_37
      · have hF := br0 hF c_9
        refine lv_lconst (v := 0) hx hb dX0_beforeEdge_12 (by decide) ?_
        rw [← hQ]
        exact W.lret (v := (0 : Int64)) hx hb hr (fun t ht hW => ⟨_, rfl, Option.some.inj hF, ht⟩) (fun _ h => by cases h) dX0_beforeEdge_13

def P_X0_leftOfEdge (a0 : Int32) (a1 : Int32) (a2 : Int32) (a3 : Int32) (a4 : Int32) (a5 : Int32) : Option (Int64) :=
  nm (if a1 < a5 then a5 else a1) (fun v_1 =>
  nm (if (a5 + (3 : Int32)) < a3 then (a5 + (3 : Int32)) else a3) (fun v_2 =>
  if v_1 < v_2 then
    nm (a2 - a0) (fun v_4 =>
    nm (a3 - a1) (fun v_5 =>
    nm (((a0 - a4) * v_5) + (v_4 * (v_1 - a1))) (fun v_6 =>
    nm (((a0 - a4) * v_5) + (v_4 * (v_2 - a1))) (fun v_7 =>
    nm ((3 : Int32) * v_5) (fun v_8 =>
    nm (if 0 ≤ v_4 then v_4 else 0 - v_4) (fun v_9 =>
    bd1 (P_X0_beforeEdge v_6 v_7 v_9 v_5 (v_2 - v_1)) (fun r_10 =>
    bd1 (P_X0_beforeEdge (v_6 - v_8) (v_7 - v_8) v_9 v_5 (v_2 - v_1)) (fun r_11 =>
    some (r_10 - r_11)))))))))
  else
    some (0 : Int64)))

def rm_X0_leftOfEdge : Room := { frames := 1, cells := 0, slots := 0, locals := 25 }

set_option maxHeartbeats 4000000 in
set_option maxRecDepth 100000 in
theorem c_X0_leftOfEdge (l : Launch) (a0 : Int32) (a1 : Int32) (a2 : Int32) (a3 : Int32) (a4 : Int32) (a5 : Int32) (r0 : Int64) (hF : P_X0_leftOfEdge a0 a1 a2 a3 a4 a5 = some r0) : Met l yX0_leftOfEdge wsX0_leftOfEdge rm_X0_leftOfEdge (fun v _ => v = ([.int a0, .int a1, .int a2, .int a3, .int a4, .int a5] : List Value).toArray) (vp_Sl (fun x => x = r0)) 0 0 (fun _ => False) := by
  refine Met.ofW (cc := cX0_leftOfEdge) (maxL := 14) (ret := (some .long)) (by decide) rfl ?_
  intro p e s m args below meth c s₁ B hml hv
  change W p l e rm_X0_leftOfEdge s m args below meth c s.heap [] 0 0 _ _
  have hx := B.exec
  have hb := B.bytes
  have hr := B.returns
  have hts := atoms_spec (ws := wsX0_leftOfEdge) B.pre
  have hown : s.vm.findClass RX0 = some m.cls := findClass_of_methodNamed B.named
  have hlocks := B.notSynchronized
  generalize hQ : MQ below (vp_Sl (fun x => x = r0)) args s 0 0 (fun _ => False) = Q
  have hl := lv_entry ([.int a0, .int a1, .int a2, .int a3, .int a4, .int a5]) (n := 14) (Nat.le_of_ble_eq_true rfl)
  have hE : entryFrame m args 14 = F0 m 0 ((lg_sl ([.int a0, .int a1, .int a2, .int a3, .int a4, .int a5]) ++ List.replicate (14 - (lg_sl ([.int a0, .int a1, .int a2, .int a3, .int a4, .int a5])).length) Slot.unset).toArray) [] := by rw [hv]; exact lg_entry_eq m _ 14
  rw [hE]
  generalize (lg_sl ([.int a0, .int a1, .int a2, .int a3, .int a4, .int a5]) ++ List.replicate (14 - (lg_sl ([.int a0, .int a1, .int a2, .int a3, .int a4, .int a5])).length) Slot.unset).toArray = ls at hl ⊢
  have hl : lv_has ls 14 [(0, .int a0), (1, .int a1), (2, .int a2), (3, .int a3), (4, .int a4), (5, .int a5)] := hl
  unfold P_X0_leftOfEdge at hF
  refine lv_iload_n hx hb dX0_leftOfEdge_0 rfl (lv_at hl 1 rfl) ?_
  refine lv_iload hx hb dX0_leftOfEdge_1 (lv_at hl 5 rfl) ?_
  refine va_mmax hx hb (hml.trans hl.1.symm) hown (hts (.methodLink RX0 53 Lib.Math.max.name) (by decide +kernel)) (hts (.static Lib.Math.max.name) (by decide +kernel)) (hts (.initialized "java/lang/Math") (by decide +kernel)) (hts (.code Lib.Math.max.name Lib.Math.max.code 2 (some .int)) (by decide +kernel)) (Nat.le_of_ble_eq_true rfl) (Nat.le_of_ble_eq_true rfl) (Nat.zero_le _) (Nat.zero_le _) dX0_leftOfEdge_3 ?_
  refine lv_topi (fun v_1 ev_1 => ?_)
  have hF := nm_u hF ev_1
  refine lv_istore (lv' := [(6, .int v_1), (0, .int a0), (1, .int a1), (2, .int a2), (3, .int a3), (4, .int a4), (5, .int a5)]) hx hb dX0_leftOfEdge_6 hl (by decide) rfl (fun ls hl => ?_)
  refine lv_iload_n hx hb dX0_leftOfEdge_8 rfl (lv_at hl 4 rfl) ?_
  refine lv_iload hx hb dX0_leftOfEdge_9 (lv_at hl 6 rfl) ?_
  refine lv_iconst (v := 3) hx hb dX0_leftOfEdge_11 (by decide) ?_
  refine lv_iadd hx hb dX0_leftOfEdge_12 ?_
  refine va_mmin hx hb (hml.trans hl.1.symm) hown (hts (.methodLink RX0 47 Lib.Math.min.name) (by decide +kernel)) (hts (.static Lib.Math.min.name) (by decide +kernel)) (hts (.initialized "java/lang/Math") (by decide +kernel)) (hts (.code Lib.Math.min.name Lib.Math.min.code 2 (some .int)) (by decide +kernel)) (Nat.le_of_ble_eq_true rfl) (Nat.le_of_ble_eq_true rfl) (Nat.zero_le _) (Nat.zero_le _) dX0_leftOfEdge_13 ?_
  refine lv_topi (fun v_2 ev_2 => ?_)
  have hF := nm_u hF ev_2
  refine lv_istore (lv' := [(7, .int v_2), (6, .int v_1), (0, .int a0), (1, .int a1), (2, .int a2), (3, .int a3), (4, .int a4), (5, .int a5)]) hx hb dX0_leftOfEdge_16 hl (by decide) rfl (fun ls hl => ?_)
  refine lv_iload hx hb dX0_leftOfEdge_18 (lv_at hl 1 rfl) ?_
  refine lv_iload hx hb dX0_leftOfEdge_20 (lv_at hl 0 rfl) ?_
  refine lv_icmp_lt (tgt := 27) hx hb dX0_leftOfEdge_22 (by decide) (fun c_3 => ?_) (fun c_3 => ?_)
  · have hF := br1 hF c_3
    refine lv_iload_n hx hb dX0_leftOfEdge_27 rfl (lv_at hl 4 rfl) ?_
    refine lv_iload_n hx hb dX0_leftOfEdge_28 rfl (lv_at hl 2 rfl) ?_
    refine lv_isub hx hb dX0_leftOfEdge_29 ?_
    refine lv_topi (fun v_4 ev_4 => ?_)
    have hF := nm_u hF ev_4
    refine lv_istore (lv' := [(8, .int v_4), (7, .int v_2), (6, .int v_1), (0, .int a0), (1, .int a1), (2, .int a2), (3, .int a3), (4, .int a4), (5, .int a5)]) hx hb dX0_leftOfEdge_30 hl (by decide) rfl (fun ls hl => ?_)
    refine lv_iload_n hx hb dX0_leftOfEdge_32 rfl (lv_at hl 6 rfl) ?_
    refine lv_iload_n hx hb dX0_leftOfEdge_33 rfl (lv_at hl 4 rfl) ?_
    refine lv_isub hx hb dX0_leftOfEdge_34 ?_
    refine lv_topi (fun v_5 ev_5 => ?_)
    have hF := nm_u hF ev_5
    refine lv_istore (lv' := [(9, .int v_5), (8, .int v_4), (7, .int v_2), (6, .int v_1), (0, .int a0), (1, .int a1), (2, .int a2), (3, .int a3), (4, .int a4), (5, .int a5)]) hx hb dX0_leftOfEdge_35 hl (by decide) rfl (fun ls hl => ?_)
    refine lv_iload_n hx hb dX0_leftOfEdge_37 rfl (lv_at hl 4 rfl) ?_
    refine lv_iload hx hb dX0_leftOfEdge_38 (lv_at hl 8 rfl) ?_
    refine lv_isub hx hb dX0_leftOfEdge_40 ?_
    refine lv_iload hx hb dX0_leftOfEdge_41 (lv_at hl 0 rfl) ?_
    refine lv_imul hx hb dX0_leftOfEdge_43 ?_
    refine lv_iload hx hb dX0_leftOfEdge_44 (lv_at hl 1 rfl) ?_
    refine lv_iload hx hb dX0_leftOfEdge_46 (lv_at hl 3 rfl) ?_
    refine lv_iload_n hx hb dX0_leftOfEdge_48 rfl (lv_at hl 5 rfl) ?_
    refine lv_isub hx hb dX0_leftOfEdge_49 ?_
    refine lv_imul hx hb dX0_leftOfEdge_50 ?_
    refine lv_iadd hx hb dX0_leftOfEdge_51 ?_
    refine lv_topi (fun v_6 ev_6 => ?_)
    have hF := nm_u hF ev_6
    refine lv_istore (lv' := [(10, .int v_6), (9, .int v_5), (8, .int v_4), (7, .int v_2), (6, .int v_1), (0, .int a0), (1, .int a1), (2, .int a2), (3, .int a3), (4, .int a4), (5, .int a5)]) hx hb dX0_leftOfEdge_52 hl (by decide) rfl (fun ls hl => ?_)
    refine lv_iload_n hx hb dX0_leftOfEdge_54 rfl (lv_at hl 5 rfl) ?_
    refine lv_iload hx hb dX0_leftOfEdge_55 (lv_at hl 9 rfl) ?_
    refine lv_isub hx hb dX0_leftOfEdge_57 ?_
    refine lv_iload hx hb dX0_leftOfEdge_58 (lv_at hl 1 rfl) ?_
    refine lv_imul hx hb dX0_leftOfEdge_60 ?_
    refine lv_iload hx hb dX0_leftOfEdge_61 (lv_at hl 2 rfl) ?_
    refine lv_iload hx hb dX0_leftOfEdge_63 (lv_at hl 3 rfl) ?_
    refine lv_iload_n hx hb dX0_leftOfEdge_65 rfl (lv_at hl 6 rfl) ?_
    refine lv_isub hx hb dX0_leftOfEdge_66 ?_
    refine lv_imul hx hb dX0_leftOfEdge_67 ?_
    refine lv_iadd hx hb dX0_leftOfEdge_68 ?_
    refine lv_topi (fun v_7 ev_7 => ?_)
    have hF := nm_u hF ev_7
    refine lv_istore (lv' := [(11, .int v_7), (10, .int v_6), (9, .int v_5), (8, .int v_4), (7, .int v_2), (6, .int v_1), (0, .int a0), (1, .int a1), (2, .int a2), (3, .int a3), (4, .int a4), (5, .int a5)]) hx hb dX0_leftOfEdge_69 hl (by decide) rfl (fun ls hl => ?_)
    refine lv_iconst (v := 3) hx hb dX0_leftOfEdge_71 (by decide) ?_
    refine lv_iload hx hb dX0_leftOfEdge_72 (lv_at hl 2 rfl) ?_
    refine lv_imul hx hb dX0_leftOfEdge_74 ?_
    refine lv_topi (fun v_8 ev_8 => ?_)
    have hF := nm_u hF ev_8
    refine lv_istore (lv' := [(12, .int v_8), (11, .int v_7), (10, .int v_6), (9, .int v_5), (8, .int v_4), (7, .int v_2), (6, .int v_1), (0, .int a0), (1, .int a1), (2, .int a2), (3, .int a3), (4, .int a4), (5, .int a5)]) hx hb dX0_leftOfEdge_75 hl (by decide) rfl (fun ls hl => ?_)
    refine lv_iload hx hb dX0_leftOfEdge_77 (lv_at hl 4 rfl) ?_
    refine va_mabs hx hb (hml.trans hl.1.symm) hown (hts (.methodLink RX0 78 Lib.Math.abs.name) (by decide +kernel)) (hts (.static Lib.Math.abs.name) (by decide +kernel)) (hts (.initialized "java/lang/Math") (by decide +kernel)) (hts (.code Lib.Math.abs.name Lib.Math.abs.code 1 (some .int)) (by decide +kernel)) (Nat.le_of_ble_eq_true rfl) (Nat.le_of_ble_eq_true rfl) (Nat.zero_le _) (Nat.zero_le _) dX0_leftOfEdge_79 ?_
    refine lv_topi (fun v_9 ev_9 => ?_)
    have hF := nm_u hF ev_9
    refine lv_istore (lv' := [(13, .int v_9), (12, .int v_8), (11, .int v_7), (10, .int v_6), (9, .int v_5), (8, .int v_4), (7, .int v_2), (6, .int v_1), (0, .int a0), (1, .int a1), (2, .int a2), (3, .int a3), (4, .int a4), (5, .int a5)]) hx hb dX0_leftOfEdge_82 hl (by decide) rfl (fun ls hl => ?_)
    refine lv_iload hx hb dX0_leftOfEdge_84 (lv_at hl 3 rfl) ?_
    refine lv_iload hx hb dX0_leftOfEdge_86 (lv_at hl 2 rfl) ?_
    refine lv_iload hx hb dX0_leftOfEdge_88 (lv_at hl 0 rfl) ?_
    refine lv_iload hx hb dX0_leftOfEdge_90 (lv_at hl 4 rfl) ?_
    refine lv_iload hx hb dX0_leftOfEdge_92 (lv_at hl 6 rfl) ?_
    refine lv_iload hx hb dX0_leftOfEdge_94 (lv_at hl 7 rfl) ?_
    refine lv_isub hx hb dX0_leftOfEdge_96 ?_
    obtain ⟨r_10, hr_10, hF⟩ := bd1_u hF
    refine vp_callSl (W.runS (As := [.int v_6, .int v_7, .int v_9, .int v_5, .int (v_2 - v_1)]) (rest := []) ⟨hx, hb, hml, hown, hts⟩ (c_X0_beforeEdge l v_6 v_7 v_9 v_5 (v_2 - v_1) r_10 hr_10) (va_cwS 5 hts gX0_leftOfEdge_X0_beforeEdge rfl rfl rfl (by decide +kernel) ⟨Nat.le_of_ble_eq_true rfl, Nat.le_of_ble_eq_true rfl⟩) preEq rfl rfl hl.1 rfl (lv_room (Nat.le_of_ble_eq_true rfl)) dX0_leftOfEdge_97 ⟨Nat.le_of_ble_eq_true rfl, Nat.le_of_ble_eq_true rfl⟩) (fun r_10' qr_10 => ?_)
    obtain rfl := qr_10.symm
    refine lv_iload hx hb dX0_leftOfEdge_100 (lv_at hl 3 rfl) ?_
    refine lv_iload hx hb dX0_leftOfEdge_102 (lv_at hl 1 rfl) ?_
    refine lv_isub hx hb dX0_leftOfEdge_104 ?_
    refine lv_iload hx hb dX0_leftOfEdge_105 (lv_at hl 2 rfl) ?_
    refine lv_iload hx hb dX0_leftOfEdge_107 (lv_at hl 1 rfl) ?_
    refine lv_isub hx hb dX0_leftOfEdge_109 ?_
    refine lv_iload hx hb dX0_leftOfEdge_110 (lv_at hl 0 rfl) ?_
    refine lv_iload hx hb dX0_leftOfEdge_112 (lv_at hl 4 rfl) ?_
    refine lv_iload hx hb dX0_leftOfEdge_114 (lv_at hl 6 rfl) ?_
    refine lv_iload hx hb dX0_leftOfEdge_116 (lv_at hl 7 rfl) ?_
    refine lv_isub hx hb dX0_leftOfEdge_118 ?_
    obtain ⟨r_11, hr_11, hF⟩ := bd1_u hF
    refine vp_callSl (W.runS (As := [.int (v_6 - v_8), .int (v_7 - v_8), .int v_9, .int v_5, .int (v_2 - v_1)]) (rest := [.long r_10]) ⟨hx, hb, hml, hown, hts⟩ (c_X0_beforeEdge l (v_6 - v_8) (v_7 - v_8) v_9 v_5 (v_2 - v_1) r_11 hr_11) (va_cwS 5 hts gX0_leftOfEdge_X0_beforeEdge rfl rfl rfl (by decide +kernel) ⟨Nat.le_of_ble_eq_true rfl, Nat.le_of_ble_eq_true rfl⟩) preEq rfl rfl hl.1 rfl (lv_room (Nat.le_of_ble_eq_true rfl)) dX0_leftOfEdge_119 ⟨Nat.le_of_ble_eq_true rfl, Nat.le_of_ble_eq_true rfl⟩) (fun r_11' qr_11 => ?_)
    obtain rfl := qr_11.symm
    refine lv_lsub hx hb dX0_leftOfEdge_122 ?_
    rw [← hQ]
    exact W.lret (v := (r_10 - r_11)) hx hb hr (fun t ht hW => ⟨_, rfl, Option.some.inj hF, ht⟩) (fun _ h => by cases h) dX0_leftOfEdge_123
  · have hF := br0 hF c_3
    refine lv_lconst (v := 0) hx hb dX0_leftOfEdge_25 (by decide) ?_
    rw [← hQ]
    exact W.lret (v := (0 : Int64)) hx hb hr (fun t ht hW => ⟨_, rfl, Option.some.inj hF, ht⟩) (fun _ h => by cases h) dX0_leftOfEdge_26

