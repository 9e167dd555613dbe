/-! THE CLAIM OUT OF ONE WALK OF THE LAW'S BODY. Your part is whole_start (and what it stands on); all else here is the same for every law, but numbers. -/
def R_law : String := "DotCoverLaw"
def lw_P (b : Addr) (xs : List Int32) (args : Array Value) (s : State) : Prop := args = #[.ref b] ∧ s.IntsAt b xs ∧ xs.length ≤ 2560 ∧ (Jvm.Cond.and given_1 narrow_1).before args s = true
def lw_Q (_ : Array Value) (s : State) (o : Outcome) (t : State) : Prop := o = .returned (some (.int 1)) ∧ Framed s o t [] 600000 7302250
def lw_Z (below : List Frame) (a : Array Value) (s : State) : State → Prop := fun t => ∃ o, t.status = .running ∧ Ended t below o ∧ lw_Q a s o t
/-- the law's own end, with 1 on the stack, nothing written that was there before, its room as the claim has it -/
theorem lw_ret {p : Program} {l : Launch} {e : Env} {s : State} {m : MethodId} {below : List Frame} {meth : Method} {c : Code} {b : Nat} (hx : p.tables.exec = Jvm.exec) (hb : c.code = code) (hr : meth.sig.returnType = ret) (hlocks : meth.locks = false) {pc : Nat} {H : Heap} {ls : Array Slot} (hdg : decode code pc = .ok (.ireturn, 1)) : W p l e room_1 s m #[Value.ref b] below meth c H [] 600000 7302250 (lw_Z below #[Value.ref b] s) (F0 m pc ls [.int 1]) := by
  intro T hT X
  obtain ⟨fs, hret, hrun, hended, hW, hframe⟩ := X.leave (v := some (.int 1)) (hlocks := hlocks) (fun h => by rw [hr] at h; cases h)
  have hmeth' : T.vm.method? m = some meth := X.method'
  refine ⟨T.setFrames fs, ?_, .returned (some (.int 1)), hrun, hended, rfl, ⟨_, rfl⟩, hW, hframe⟩
  jvm_step X.here [X.here.top, hx, hb, hdg, hmeth', hr, ret, narrow_b1]
  (try refine ⟨rfl, ?_⟩); (try refine ⟨rfl, ?_⟩)
  first | (intro acts; rw [hret _ acts rfl rfl rfl]) | rw [hret _ _ rfl rfl rfl]
  exact Steps.refl _
/-- what holds at the law's entry: the machine, the code, the tables' words (any of lw_tbl by 'hts w (by decide +kernel)'), the script of L ints xs at the cell b, what the Statement gives of the start (any of its parts by flat_of_before) -/
def lw_At (p : Program) (s : State) (m : MethodId) (meth : Method) (c : Code) (b L : Nat) (xs : Nat → Int32) : Prop :=
  p.tables.exec = Jvm.exec ∧ c.code = code ∧ meth.sig.returnType = ret ∧ c.maxLocals = 4 ∧ s.vm.findClass R_law = some m.cls ∧ (∀ w ∈ lw_tbl, w.before #[Value.ref b] s = true) ∧ va_X b L xs s s.heap ∧ b < s.heap.size ∧ meth.locks = false ∧ (Jvm.Cond.and given_1 narrow_1).before #[Value.ref b] s = true
section LAW0
variable {p : Program} {l : Launch} {e : Env} {s : State} {m : MethodId} {below : List Frame} {meth : Method} {c : Code} {dC : Nat → ClassId} {dI : Nat → Nat → Nat} {b L : Nat} {xs : Nat → Int32}
variable {hd im hm : Nat} {sA lA mA : Nat → Nat} {oA xA yA : Nat → Nat → Nat} {cI cL cS cZ cJ : ClassId} {F : Nat → Nat → Option Nat} {gi : Nat → Option Nat}
set_option maxHeartbeats 4000000 in
set_option maxRecDepth 100000 in
theorem law_point (C0 : lw_At p s m meth c b L xs) {XS : Nat → Nat → Nat → Int32} {YS : Nat → Nat → Nat → Int32} {SZ : Nat → Nat → Int32} {FO : Nat → Nat → Int32} {ke : Int32} {st : Nat → Int32} {im_ : Nat → Int32} {kp : Nat → Int32} {wx : Nat → Int32} {wy : Nat → Int32} {px : Nat → Int64} {py : Nat → Int64} {co : Int32} {lx : Nat → Int64} {ly : Nat → Int64} {lf : Int32} {H : Heap} {locs : List Loc} {ls : Array Slot} {x3 : Int32} (hI : Inv XS YS SZ FO ke st im_ kp) (h_1 : vp_in (x3 + (1 : Int32)) L) (h_2 : vp_in (x3 + (2 : Int32)) L) (h_3 : vp_in (x3 + (3 : Int32)) L) (hk : kD sA oA F gi) (hN : nw s) (hK : va_K (dC, dI) vwCl (tA cI cL cS cZ cJ) s) (hP : va_P (dC, dI) vwCl ((wD hd im sA lA oA xA yA cI cL cS F gi XS YS SZ FO ke) ++ (wM hm mA cI cZ cJ st im_ kp wx wy px py co lx ly lf)) H) (hD : va_D (fun q : Nat => s.heap.size ≤ q) ((wD hd im sA lA oA xA yA cI cL cS F gi XS YS SZ FO ke) ++ (wM hm mA cI cZ cJ st im_ kp wx wy px py co lx ly lf))) (hS : va_S (fun q : Nat => s.heap.size ≤ q) s.heap H locs) (hl : lv_has ls 4 [(0, .ref b), (1, .ref hd), (2, .ref hm), (3, .int x3)]) (kont : ∀ (XS : Nat → Nat → Nat → Int32) (YS : Nat → Nat → Nat → Int32) (SZ : Nat → Nat → Int32) (FO : Nat → Nat → Int32) (ke : Int32) (st : Nat → Int32) (im_ : Nat → Int32) (kp : Nat → Int32) (wx : Nat → Int32) (wy : Nat → Int32) (px : Nat → Int64) (py : Nat → Int64) (co : Int32) (lx : Nat → Int64) (ly : Nat → Int64) (lf : Int32) (H : Heap) (locs : List Loc), Inv XS YS SZ FO ke st im_ kp → va_P (dC, dI) vwCl ((wD hd im sA lA oA xA yA cI cL cS F gi XS YS SZ FO ke) ++ (wM hm mA cI cZ cJ st im_ kp wx wy px py co lx ly lf)) H → va_D (fun q : Nat => s.heap.size ≤ q) ((wD hd im sA lA oA xA yA cI cL cS F gi XS YS SZ FO ke) ++ (wM hm mA cI cZ cJ st im_ kp wx wy px py co lx ly lf)) → va_S (fun q : Nat => s.heap.size ≤ q) s.heap H locs → W p l e room_1 s m #[Value.ref b] below meth c H locs 600000 7302250 (lw_Z below #[Value.ref b] s) (F0 m 775 ls [])) : W p l e room_1 s m #[Value.ref b] below meth c H locs 600000 7302250 (lw_Z below #[Value.ref b] s) (F0 m 124 ls []) := by
  obtain ⟨hx, hb, hr, hml, hown, hts, hX, hbl, hlocks, hgv⟩ := C0
  have hA : ∀ q : Nat, s.heap.size ≤ q → (fun q : Nat => s.heap.size ≤ q) q := fun _ h => h
  have hbA : ¬ (fun q : Nat => s.heap.size ≤ q) b := Nat.not_le.mpr hbl
  have hts := fun w h => hts w (wsL_law_in w h)
  obtain ⟨i, r, xsN, ysN, szN, stM, hp_0, hp_1, hp_2, hp_3, hp_4⟩ := pp_point hI (xs (x3 + (1 : Int32)).toNatClampNeg) (xs (x3 + (2 : Int32)).toNatClampNeg) (xs (x3 + (3 : Int32)).toNatClampNeg)
  refine lv_aload_n hx hb dL_law_124 rfl (lv_at hl 1 rfl) ?_
  refine lv_aload_n hx hb dL_law_125 rfl (lv_at hl 0 rfl) ?_
  refine lv_iload_n hx hb dL_law_126 rfl (lv_at hl 3 rfl) ?_
  refine lv_iconst (v := 1) hx hb dL_law_127 (by decide) ?_
  refine lv_iadd hx hb dL_law_128 ?_
  refine va_sld hx hb hX hbl hbA hS h_1 dL_law_129 ?_
  refine lv_aload_n hx hb dL_law_130 rfl (lv_at hl 0 rfl) ?_
  refine lv_iload_n hx hb dL_law_131 rfl (lv_at hl 3 rfl) ?_
  refine lv_iconst (v := 2) hx hb dL_law_132 (by decide) ?_
  refine lv_iadd hx hb dL_law_133 ?_
  refine va_sld hx hb hX hbl hbA hS h_2 dL_law_134 ?_
  refine lv_aload_n hx hb dL_law_135 rfl (lv_at hl 0 rfl) ?_
  refine lv_iload_n hx hb dL_law_136 rfl (lv_at hl 3 rfl) ?_
  refine lv_iconst (v := 3) hx hb dL_law_137 (by decide) ?_
  refine lv_iadd hx hb dL_law_138 ?_
  refine va_sld hx hb hX hbl hbA hS h_3 dL_law_139 ?_
  have hKc := hK.sub (tys' := tD cI cL cS) [0, 1, 2] rfl
  have hPc := hP.sub (ws' := (wD hd im sA lA oA xA yA cI cL cS F gi XS YS SZ FO ke)) [0, 1, 2, 3, 4, 5, 6, 7, 8, 9, 10, 11, 12, 13, 14, 15, 16, 17, 18, 19, 20, 21, 22, 23, 24, 25, 26, 27, 28, 29, 30, 31, 32, 33, 34] rfl
  have hDc := hD.sub (ws' := (wD hd im sA lA oA xA yA cI cL cS F gi XS YS SZ FO ke)) [0, 1, 2, 3, 4, 5, 6, 7, 8, 9, 10, 11, 12, 13, 14, 15, 16, 17, 18, 19, 20, 21, 22, 23, 24, 25, 26, 27, 28, 29, 30, 31, 32, 33, 34] (by decide) rfl
  have hFc := va_free (wc := (wD hd im sA lA oA xA yA cI cL cS F gi XS YS SZ FO ke)) hD hS hA [0, 1, 2, 3, 4, 5, 6, 7, 8, 9, 10, 11, 12, 13, 14, 15, 16, 17, 18, 19, 20, 21, 22, 23, 24, 25, 26, 27, 28, 29, 30, 31, 32, 33, 34] rfl
  refine va_calli (va_runV (As := [.int (xs (x3 + (1 : Int32)).toNatClampNeg), .int (xs (x3 + (2 : Int32)).toNatClampNeg), .int (xs (x3 + (3 : Int32)).toNatClampNeg)]) (rest := []) ⟨hx, hb, hml, hown, hts⟩ (C_X2_point (F := F) (gi := gi) l dC dI H.size (xs (x3 + (1 : Int32)).toNatClampNeg) (xs (x3 + (2 : Int32)).toNatClampNeg) (xs (x3 + (3 : Int32)).toNatClampNeg) i hp_0 hp_1 hk r xsN ysN szN hp_2) (cwV 3 hts gL_law_X2_point rfl rfl rfl (by decide +kernel) ⟨Nat.le_of_ble_eq_true rfl, Nat.le_of_ble_eq_true rfl⟩) ⟨fun a U g mk q => ⟨q.1, q.2.1, q.2.2.1, va_K.moved (u := U) (U := U.calling g mk a) (Vm.Alike.refl U.vm) q.2.2.2.1, q.2.2.2.2.1, nw_same rfl q.2.2.2.2.2⟩, va_recv hKc hPc (ci := 2) (q0 := 0) rfl rfl, fun U hU hW => ⟨rfl, by rw [hU], by rw [hU]; exact hPc, va_K.moved hW.alike hKc, hDc.weaken (fun _ _ _ _ => trivial), hN.warm hW⟩⟩ rfl rfl hl.1 rfl (lv_room (Nat.le_of_ble_eq_true rfl)) dL_law_140 ⟨Nat.le_of_ble_eq_true rfl, Nat.le_of_ble_eq_true rfl⟩) hS (fun q _ h => hFc q h) hFc (fun r_ _ t H1 locs ht hvm hw hB hz1 hk1 hS => ?_)
  obtain ⟨hP1, hD1⟩ := hB
  rw [ht] at hP1
  obtain rfl := hw.symm
  obtain ⟨hP, hD⟩ := va_join (wr := (wM hm mA cI cZ cJ st im_ kp wx wy px py co lx ly lf)) (w1 := (wD hd im sA lA oA xA yA cI cL cS F gi (up2 XS 0 i xsN) (up2 YS 0 i ysN) (up2 SZ 0 i szN) FO ke)) hP hD [0, 1, 2, 3, 4, 5, 6, 7, 8, 9, 10, 11, 12, 13, 14, 15, 16, 17, 18, 19, 20, 21, 22, 23, 24, 25, 26, 27, 28, 29, 30, 31, 32, 33, 34] [35, 36, 37, 38, 39, 40, 41, 42, 43, 44] rfl rfl (by decide) (by decide) hk1 hFc hP1 hD1
  clear hP1 hD1 hk1 hFc hPc hDc
  generalize H1 = H at hP hS ⊢
  have hP := hP.sub (ws' := (wD hd im sA lA oA xA yA cI cL cS F gi (up2 XS 0 i xsN) (up2 YS 0 i ysN) (up2 SZ 0 i szN) FO ke) ++ (wM hm mA cI cZ cJ st im_ kp wx wy px py co lx ly lf)) [10, 11, 12, 13, 14, 15, 16, 17, 18, 19, 20, 21, 22, 23, 24, 25, 26, 27, 28, 29, 30, 31, 32, 33, 34, 35, 36, 37, 38, 39, 40, 41, 42, 43, 44, 0, 1, 2, 3, 4, 5, 6, 7, 8, 9] rfl
  have hD := hD.sub (ws' := (wD hd im sA lA oA xA yA cI cL cS F gi (up2 XS 0 i xsN) (up2 YS 0 i ysN) (up2 SZ 0 i szN) FO ke) ++ (wM hm mA cI cZ cJ st im_ kp wx wy px py co lx ly lf)) [10, 11, 12, 13, 14, 15, 16, 17, 18, 19, 20, 21, 22, 23, 24, 25, 26, 27, 28, 29, 30, 31, 32, 33, 34, 35, 36, 37, 38, 39, 40, 41, 42, 43, 44, 0, 1, 2, 3, 4, 5, 6, 7, 8, 9] (by decide) rfl
  refine lv_aload_n hx hb dL_law_143 rfl (lv_at hl 2 rfl) ?_
  refine lv_aload_n hx hb dL_law_144 rfl (lv_at hl 0 rfl) ?_
  refine lv_iload_n hx hb dL_law_145 rfl (lv_at hl 3 rfl) ?_
  refine lv_iconst (v := 1) hx hb dL_law_146 (by decide) ?_
  refine lv_iadd hx hb dL_law_147 ?_
  refine va_sld hx hb hX hbl hbA hS h_1 dL_law_148 ?_
  refine lv_aload_n hx hb dL_law_149 rfl (lv_at hl 0 rfl) ?_
  refine lv_iload_n hx hb dL_law_150 rfl (lv_at hl 3 rfl) ?_
  refine lv_iconst (v := 2) hx hb dL_law_151 (by decide) ?_
  refine lv_iadd hx hb dL_law_152 ?_
  refine va_sld hx hb hX hbl hbA hS h_2 dL_law_153 ?_
  refine lv_aload_n hx hb dL_law_154 rfl (lv_at hl 0 rfl) ?_
  refine lv_iload_n hx hb dL_law_155 rfl (lv_at hl 3 rfl) ?_
  refine lv_iconst (v := 3) hx hb dL_law_156 (by decide) ?_
  refine lv_iadd hx hb dL_law_157 ?_
  refine va_sld hx hb hX hbl hbA hS h_3 dL_law_158 ?_
  have hKc := hK.sub (tys' := [(cI, .int), (cZ, .boolean), (cJ, .long)]) [1, 3, 4] rfl
  have hPc := hP.sub (ws' := (wM hm mA cI cZ cJ st im_ kp wx wy px py co lx ly lf)) [35, 36, 37, 38, 39, 40, 41, 42, 43, 44] rfl
  have hDc := hD.sub (ws' := (wM hm mA cI cZ cJ st im_ kp wx wy px py co lx ly lf)) [35, 36, 37, 38, 39, 40, 41, 42, 43, 44] (by decide) rfl
  have hFc := va_free (wc := (wM hm mA cI cZ cJ st im_ kp wx wy px py co lx ly lf)) hD hS hA [35, 36, 37, 38, 39, 40, 41, 42, 43, 44] rfl
  refine va_calli (va_runV (As := [.int (xs (x3 + (1 : Int32)).toNatClampNeg), .int (xs (x3 + (2 : Int32)).toNatClampNeg), .int (xs (x3 + (3 : Int32)).toNatClampNeg)]) (rest := [.int r]) ⟨hx, hb, hml, hown, hts⟩ (c_X3_point l dC dI hm (mA 0) (mA 1) (mA 2) (mA 3) (mA 4) (mA 5) (mA 6) (mA 7) (mA 8) cI cZ cJ H.size st im_ kp wx wy px py co lx ly lf (xs (x3 + (1 : Int32)).toNatClampNeg) (xs (x3 + (2 : Int32)).toNatClampNeg) (xs (x3 + (3 : Int32)).toNatClampNeg) r stM hp_3) (cwV 3 hts gL_law_X3_point rfl rfl rfl (by decide +kernel) ⟨Nat.le_of_ble_eq_true rfl, Nat.le_of_ble_eq_true rfl⟩) ⟨fun a U g mk q => ⟨q.1, q.2.1, q.2.2.1, va_K.moved (u := U) (U := U.calling g mk a) (Vm.Alike.refl U.vm) q.2.2.2.1, q.2.2.2.2⟩, va_recv hKc hPc (ci := 3) (q0 := 0) rfl rfl, fun U hU hW => ⟨rfl, by rw [hU], by rw [hU]; exact hPc, va_K.moved hW.alike hKc, hDc.weaken (fun _ _ _ _ => trivial)⟩⟩ rfl rfl hl.1 rfl (lv_room (Nat.le_of_ble_eq_true rfl)) dL_law_159 ⟨Nat.le_of_ble_eq_true rfl, Nat.le_of_ble_eq_true rfl⟩) hS (fun q _ h => hFc q h) hFc (fun r_ _ t H1 locs ht hvm hw hB hz1 hk1 hS => ?_)
  obtain ⟨hP1, hK1, hD1⟩ := hB
  rw [ht] at hP1
  obtain rfl := hw.symm
  obtain ⟨hP, hD⟩ := va_join (wr := (wD hd im sA lA oA xA yA cI cL cS F gi (up2 XS 0 i xsN) (up2 YS 0 i ysN) (up2 SZ 0 i szN) FO ke)) (w1 := (wM hm mA cI cZ cJ stM im_ kp wx wy px py co lx ly lf)) hP hD [35, 36, 37, 38, 39, 40, 41, 42, 43, 44] [0, 1, 2, 3, 4, 5, 6, 7, 8, 9, 10, 11, 12, 13, 14, 15, 16, 17, 18, 19, 20, 21, 22, 23, 24, 25, 26, 27, 28, 29, 30, 31, 32, 33, 34] rfl rfl (by decide) (by decide) hk1 hFc hP1 hD1
  clear hP1 hK1 hD1 hk1 hFc
  generalize H1 = H at hP hS ⊢
  refine lv_icmp_eq (tgt := 775) hx hb dL_law_162 (by decide) (fun c_1 => ?_) (fun c_1 => absurd rfl c_1)
  exact kont _ _ _ _ _ _ _ _ _ _ _ _ _ _ _ _ _ _ hp_4 hP hD hS
set_option maxHeartbeats 4000000 in
set_option maxRecDepth 100000 in
theorem law_pop (C0 : lw_At p s m meth c b L xs) {XS : Nat → Nat → Nat → Int32} {YS : Nat → Nat → Nat → Int32} {SZ : Nat → Nat → Int32} {FO : Nat → Nat → Int32} {ke : Int32} {st : Nat → Int32} {im_ : Nat → Int32} {kp : Nat → Int32} {wx : Nat → Int32} {wy : Nat → Int32} {px : Nat → Int64} {py : Nat → Int64} {co : Int32} {lx : Nat → Int64} {ly : Nat → Int64} {lf : Int32} {H : Heap} {locs : List Loc} {ls : Array Slot} {x3 : Int32} (hI : Inv XS YS SZ FO ke st im_ kp) (h_1 : vp_in (x3 + (1 : Int32)) L) (hk : kD sA oA F gi) (hN : nw s) (hK : va_K (dC, dI) vwCl (tA cI cL cS cZ cJ) s) (hP : va_P (dC, dI) vwCl ((wD hd im sA lA oA xA yA cI cL cS F gi XS YS SZ FO ke) ++ (wM hm mA cI cZ cJ st im_ kp wx wy px py co lx ly lf)) H) (hD : va_D (fun q : Nat => s.heap.size ≤ q) ((wD hd im sA lA oA xA yA cI cL cS F gi XS YS SZ FO ke) ++ (wM hm mA cI cZ cJ st im_ kp wx wy px py co lx ly lf))) (hS : va_S (fun q : Nat => s.heap.size ≤ q) s.heap H locs) (hl : lv_has ls 4 [(0, .ref b), (1, .ref hd), (2, .ref hm), (3, .int x3)]) (kont : ∀ (XS : Nat → Nat → Nat → Int32) (YS : Nat → Nat → Nat → Int32) (SZ : Nat → Nat → Int32) (FO : Nat → Nat → Int32) (ke : Int32) (st : Nat → Int32) (im_ : Nat → Int32) (kp : Nat → Int32) (wx : Nat → Int32) (wy : Nat → Int32) (px : Nat → Int64) (py : Nat → Int64) (co : Int32) (lx : Nat → Int64) (ly : Nat → Int64) (lf : Int32) (H : Heap) (locs : List Loc), Inv XS YS SZ FO ke st im_ kp → va_P (dC, dI) vwCl ((wD hd im sA lA oA xA yA cI cL cS F gi XS YS SZ FO ke) ++ (wM hm mA cI cZ cJ st im_ kp wx wy px py co lx ly lf)) H → va_D (fun q : Nat => s.heap.size ≤ q) ((wD hd im sA lA oA xA yA cI cL cS F gi XS YS SZ FO ke) ++ (wM hm mA cI cZ cJ st im_ kp wx wy px py co lx ly lf)) → va_S (fun q : Nat => s.heap.size ≤ q) s.heap H locs → W p l e room_1 s m #[Value.ref b] below meth c H locs 600000 7302250 (lw_Z below #[Value.ref b] s) (F0 m 775 ls [])) : W p l e room_1 s m #[Value.ref b] below meth c H locs 600000 7302250 (lw_Z below #[Value.ref b] s) (F0 m 167 ls []) := by
  obtain ⟨hx, hb, hr, hml, hown, hts, hX, hbl, hlocks, hgv⟩ := C0
  have hA : ∀ q : Nat, s.heap.size ≤ q → (fun q : Nat => s.heap.size ≤ q) q := fun _ h => h
  have hbA : ¬ (fun q : Nat => s.heap.size ≤ q) b := Nat.not_le.mpr hbl
  have hts := fun w h => hts w (wsL_law_in w h)
  obtain ⟨i, r, szN, stM, hp_0, hp_1, hp_2, hp_3, hp_4⟩ := pp_pop hI (xs (x3 + (1 : Int32)).toNatClampNeg)
  refine lv_aload_n hx hb dL_law_167 rfl (lv_at hl 1 rfl) ?_
  refine lv_aload_n hx hb dL_law_168 rfl (lv_at hl 0 rfl) ?_
  refine lv_iload_n hx hb dL_law_169 rfl (lv_at hl 3 rfl) ?_
  refine lv_iconst (v := 1) hx hb dL_law_170 (by decide) ?_
  refine lv_iadd hx hb dL_law_171 ?_
  refine va_sld hx hb hX hbl hbA hS h_1 dL_law_172 ?_
  have hKc := hK.sub (tys' := tD cI cL cS) [0, 1, 2] rfl
  have hPc := hP.sub (ws' := (wD hd im sA lA oA xA yA cI cL cS F gi XS YS SZ FO ke)) [0, 1, 2, 3, 4, 5, 6, 7, 8, 9, 10, 11, 12, 13, 14, 15, 16, 17, 18, 19, 20, 21, 22, 23, 24, 25, 26, 27, 28, 29, 30, 31, 32, 33, 34] rfl
  have hDc := hD.sub (ws' := (wD hd im sA lA oA xA yA cI cL cS F gi XS YS SZ FO ke)) [0, 1, 2, 3, 4, 5, 6, 7, 8, 9, 10, 11, 12, 13, 14, 15, 16, 17, 18, 19, 20, 21, 22, 23, 24, 25, 26, 27, 28, 29, 30, 31, 32, 33, 34] (by decide) rfl
  have hFc := va_free (wc := (wD hd im sA lA oA xA yA cI cL cS F gi XS YS SZ FO ke)) hD hS hA [0, 1, 2, 3, 4, 5, 6, 7, 8, 9, 10, 11, 12, 13, 14, 15, 16, 17, 18, 19, 20, 21, 22, 23, 24, 25, 26, 27, 28, 29, 30, 31, 32, 33, 34] rfl
  refine va_calli (va_runV (As := [.int (xs (x3 + (1 : Int32)).toNatClampNeg)]) (rest := []) ⟨hx, hb, hml, hown, hts⟩ (C_X2_pop (F := F) (gi := gi) l dC dI H.size (xs (x3 + (1 : Int32)).toNatClampNeg) i hp_0 hp_1 hk r szN hp_2) (cwV 1 hts gL_law_X2_pop rfl rfl rfl (by decide +kernel) ⟨Nat.le_of_ble_eq_true rfl, Nat.le_of_ble_eq_true rfl⟩) ⟨fun a U g mk q => ⟨q.1, q.2.1, q.2.2.1, va_K.moved (u := U) (U := U.calling g mk a) (Vm.Alike.refl U.vm) q.2.2.2.1, q.2.2.2.2.1, nw_same rfl q.2.2.2.2.2⟩, va_recv hKc hPc (ci := 2) (q0 := 0) rfl rfl, fun U hU hW => ⟨rfl, by rw [hU], by rw [hU]; exact hPc, va_K.moved hW.alike hKc, hDc.weaken (fun _ _ _ _ => trivial), hN.warm hW⟩⟩ rfl rfl hl.1 rfl (lv_room (Nat.le_of_ble_eq_true rfl)) dL_law_173 ⟨Nat.le_of_ble_eq_true rfl, Nat.le_of_ble_eq_true rfl⟩) hS (fun q _ h => hFc q h) hFc (fun r_ _ t H1 locs ht hvm hw hB hz1 hk1 hS => ?_)
  obtain ⟨hP1, hD1⟩ := hB
  rw [ht] at hP1
  obtain rfl := hw.symm
  obtain ⟨hP, hD⟩ := va_join (wr := (wM hm mA cI cZ cJ st im_ kp wx wy px py co lx ly lf)) (w1 := (wD hd im sA lA oA xA yA cI cL cS F gi XS YS (up2 SZ 0 i szN) FO ke)) hP hD [0, 1, 2, 3, 4, 5, 6, 7, 8, 9, 10, 11, 12, 13, 14, 15, 16, 17, 18, 19, 20, 21, 22, 23, 24, 25, 26, 27, 28, 29, 30, 31, 32, 33, 34] [35, 36, 37, 38, 39, 40, 41, 42, 43, 44] rfl rfl (by decide) (by decide) hk1 hFc hP1 hD1
  clear hP1 hD1 hk1 hFc hPc hDc
  generalize H1 = H at hP hS ⊢
  have hP := hP.sub (ws' := (wD hd im sA lA oA xA yA cI cL cS F gi XS YS (up2 SZ 0 i szN) FO ke) ++ (wM hm mA cI cZ cJ st im_ kp wx wy px py co lx ly lf)) [10, 11, 12, 13, 14, 15, 16, 17, 18, 19, 20, 21, 22, 23, 24, 25, 26, 27, 28, 29, 30, 31, 32, 33, 34, 35, 36, 37, 38, 39, 40, 41, 42, 43, 44, 0, 1, 2, 3, 4, 5, 6, 7, 8, 9] rfl
  have hD := hD.sub (ws' := (wD hd im sA lA oA xA yA cI cL cS F gi XS YS (up2 SZ 0 i szN) FO ke) ++ (wM hm mA cI cZ cJ st im_ kp wx wy px py co lx ly lf)) [10, 11, 12, 13, 14, 15, 16, 17, 18, 19, 20, 21, 22, 23, 24, 25, 26, 27, 28, 29, 30, 31, 32, 33, 34, 35, 36, 37, 38, 39, 40, 41, 42, 43, 44, 0, 1, 2, 3, 4, 5, 6, 7, 8, 9] (by decide) rfl
  refine lv_aload_n hx hb dL_law_176 rfl (lv_at hl 2 rfl) ?_
  refine lv_aload_n hx hb dL_law_177 rfl (lv_at hl 0 rfl) ?_
  refine lv_iload_n hx hb dL_law_178 rfl (lv_at hl 3 rfl) ?_
  refine lv_iconst (v := 1) hx hb dL_law_179 (by decide) ?_
  refine lv_iadd hx hb dL_law_180 ?_
  refine va_sld hx hb hX hbl hbA hS h_1 dL_law_181 ?_
  have hKc := hK.sub (tys' := [(cI, .int), (cZ, .boolean), (cJ, .long)]) [1, 3, 4] rfl
  have hPc := hP.sub (ws' := (wM hm mA cI cZ cJ st im_ kp wx wy px py co lx ly lf)) [35, 36, 37, 38, 39, 40, 41, 42, 43, 44] rfl
  have hDc := hD.sub (ws' := (wM hm mA cI cZ cJ st im_ kp wx wy px py co lx ly lf)) [35, 36, 37, 38, 39, 40, 41, 42, 43, 44] (by decide) rfl
  have hFc := va_free (wc := (wM hm mA cI cZ cJ st im_ kp wx wy px py co lx ly lf)) hD hS hA [35, 36, 37, 38, 39, 40, 41, 42, 43, 44] rfl
  refine va_calli (va_runV (As := [.int (xs (x3 + (1 : Int32)).toNatClampNeg)]) (rest := [.int r]) ⟨hx, hb, hml, hown, hts⟩ (c_X3_pop l dC dI hm (mA 0) (mA 1) (mA 2) (mA 3) (mA 4) (mA 5) (mA 6) (mA 7) (mA 8) cI cZ cJ H.size st im_ kp wx wy px py co lx ly lf (xs (x3 + (1 : Int32)).toNatClampNeg) r stM hp_3) (cwV 1 hts gL_law_X3_pop rfl rfl rfl (by decide +kernel) ⟨Nat.le_of_ble_eq_true rfl, Nat.le_of_ble_eq_true rfl⟩) ⟨fun a U g mk q => ⟨q.1, q.2.1, q.2.2.1, va_K.moved (u := U) (U := U.calling g mk a) (Vm.Alike.refl U.vm) q.2.2.2.1, q.2.2.2.2⟩, va_recv hKc hPc (ci := 3) (q0 := 0) rfl rfl, fun U hU hW => ⟨rfl, by rw [hU], by rw [hU]; exact hPc, va_K.moved hW.alike hKc, hDc.weaken (fun _ _ _ _ => trivial)⟩⟩ rfl rfl hl.1 rfl (lv_room (Nat.le_of_ble_eq_true rfl)) dL_law_182 ⟨Nat.le_of_ble_eq_true rfl, Nat.le_of_ble_eq_true rfl⟩) hS (fun q _ h => hFc q h) hFc (fun r_ _ t H1 locs ht hvm hw hB hz1 hk1 hS => ?_)
  obtain ⟨hP1, hK1, hD1⟩ := hB
  rw [ht] at hP1
  obtain rfl := hw.symm
  obtain ⟨hP, hD⟩ := va_join (wr := (wD hd im sA lA oA xA yA cI cL cS F gi XS YS (up2 SZ 0 i szN) FO ke)) (w1 := (wM hm mA cI cZ cJ stM im_ kp wx wy px py co lx ly lf)) hP hD [35, 36, 37, 38, 39, 40, 41, 42, 43, 44] [0, 1, 2, 3, 4, 5, 6, 7, 8, 9, 10, 11, 12, 13, 14, 15, 16, 17, 18, 19, 20, 21, 22, 23, 24, 25, 26, 27, 28, 29, 30, 31, 32, 33, 34] rfl rfl (by decide) (by decide) hk1 hFc hP1 hD1
  clear hP1 hK1 hD1 hk1 hFc
  generalize H1 = H at hP hS ⊢
  refine lv_icmp_eq (tgt := 775) hx hb dL_law_185 (by decide) (fun c_1 => ?_) (fun c_1 => absurd rfl c_1)
  exact kont _ _ _ _ _ _ _ _ _ _ _ _ _ _ _ _ _ _ hp_4 hP hD hS
set_option maxHeartbeats 4000000 in
set_option maxRecDepth 100000 in
theorem law_set (C0 : lw_At p s m meth c b L xs) {XS : Nat → Nat → Nat → Int32} {YS : Nat → Nat → Nat → Int32} {SZ : Nat → Nat → Int32} {FO : Nat → Nat → Int32} {ke : Int32} {st : Nat → Int32} {im_ : Nat → Int32} {kp : Nat → Int32} {wx : Nat → Int32} {wy : Nat → Int32} {px : Nat → Int64} {py : Nat → Int64} {co : Int32} {lx : Nat → Int64} {ly : Nat → Int64} {lf : Int32} {H : Heap} {locs : List Loc} {ls : Array Slot} {x3 : Int32} (hI : Inv XS YS SZ FO ke st im_ kp) (h_1 : vp_in (x3 + (1 : Int32)) L) (h_2 : vp_in (x3 + (2 : Int32)) L) (h_3 : vp_in (x3 + (3 : Int32)) L) (h_4 : vp_in (x3 + (4 : Int32)) L) (hk : kD sA oA F gi) (hN : nw s) (hK : va_K (dC, dI) vwCl (tA cI cL cS cZ cJ) s) (hP : va_P (dC, dI) vwCl ((wD hd im sA lA oA xA yA cI cL cS F gi XS YS SZ FO ke) ++ (wM hm mA cI cZ cJ st im_ kp wx wy px py co lx ly lf)) H) (hD : va_D (fun q : Nat => s.heap.size ≤ q) ((wD hd im sA lA oA xA yA cI cL cS F gi XS YS SZ FO ke) ++ (wM hm mA cI cZ cJ st im_ kp wx wy px py co lx ly lf))) (hS : va_S (fun q : Nat => s.heap.size ≤ q) s.heap H locs) (hl : lv_has ls 4 [(0, .ref b), (1, .ref hd), (2, .ref hm), (3, .int x3)]) (kont : ∀ (XS : Nat → Nat → Nat → Int32) (YS : Nat → Nat → Nat → Int32) (SZ : Nat → Nat → Int32) (FO : Nat → Nat → Int32) (ke : Int32) (st : Nat → Int32) (im_ : Nat → Int32) (kp : Nat → Int32) (wx : Nat → Int32) (wy : Nat → Int32) (px : Nat → Int64) (py : Nat → Int64) (co : Int32) (lx : Nat → Int64) (ly : Nat → Int64) (lf : Int32) (H : Heap) (locs : List Loc), Inv XS YS SZ FO ke st im_ kp → va_P (dC, dI) vwCl ((wD hd im sA lA oA xA yA cI cL cS F gi XS YS SZ FO ke) ++ (wM hm mA cI cZ cJ st im_ kp wx wy px py co lx ly lf)) H → va_D (fun q : Nat => s.heap.size ≤ q) ((wD hd im sA lA oA xA yA cI cL cS F gi XS YS SZ FO ke) ++ (wM hm mA cI cZ cJ st im_ kp wx wy px py co lx ly lf)) → va_S (fun q : Nat => s.heap.size ≤ q) s.heap H locs → W p l e room_1 s m #[Value.ref b] below meth c H locs 600000 7302250 (lw_Z below #[Value.ref b] s) (F0 m 775 ls [])) : W p l e room_1 s m #[Value.ref b] below meth c H locs 600000 7302250 (lw_Z below #[Value.ref b] s) (F0 m 190 ls []) := by
  obtain ⟨hx, hb, hr, hml, hown, hts, hX, hbl, hlocks, hgv⟩ := C0
  have hA : ∀ q : Nat, s.heap.size ≤ q → (fun q : Nat => s.heap.size ≤ q) q := fun _ h => h
  have hbA : ¬ (fun q : Nat => s.heap.size ≤ q) b := Nat.not_le.mpr hbl
  have hts := fun w h => hts w (wsL_law_in w h)
  obtain ⟨i, r, xsN, ysN, stM, hp_0, hp_1, hp_2, hp_3, hp_4⟩ := pp_set hI (xs (x3 + (1 : Int32)).toNatClampNeg) (xs (x3 + (2 : Int32)).toNatClampNeg) (xs (x3 + (3 : Int32)).toNatClampNeg) (xs (x3 + (4 : Int32)).toNatClampNeg)
  refine lv_aload_n hx hb dL_law_190 rfl (lv_at hl 1 rfl) ?_
  refine lv_aload_n hx hb dL_law_191 rfl (lv_at hl 0 rfl) ?_
  refine lv_iload_n hx hb dL_law_192 rfl (lv_at hl 3 rfl) ?_
  refine lv_iconst (v := 1) hx hb dL_law_193 (by decide) ?_
  refine lv_iadd hx hb dL_law_194 ?_
  refine va_sld hx hb hX hbl hbA hS h_1 dL_law_195 ?_
  refine lv_aload_n hx hb dL_law_196 rfl (lv_at hl 0 rfl) ?_
  refine lv_iload_n hx hb dL_law_197 rfl (lv_at hl 3 rfl) ?_
  refine lv_iconst (v := 2) hx hb dL_law_198 (by decide) ?_
  refine lv_iadd hx hb dL_law_199 ?_
  refine va_sld hx hb hX hbl hbA hS h_2 dL_law_200 ?_
  refine lv_aload_n hx hb dL_law_201 rfl (lv_at hl 0 rfl) ?_
  refine lv_iload_n hx hb dL_law_202 rfl (lv_at hl 3 rfl) ?_
  refine lv_iconst (v := 3) hx hb dL_law_203 (by decide) ?_
  refine lv_iadd hx hb dL_law_204 ?_
  refine va_sld hx hb hX hbl hbA hS h_3 dL_law_205 ?_
  refine lv_aload_n hx hb dL_law_206 rfl (lv_at hl 0 rfl) ?_
  refine lv_iload_n hx hb dL_law_207 rfl (lv_at hl 3 rfl) ?_
  refine lv_iconst (v := 4) hx hb dL_law_208 (by decide) ?_
  refine lv_iadd hx hb dL_law_209 ?_
  refine va_sld hx hb hX hbl hbA hS h_4 dL_law_210 ?_
  have hKc := hK.sub (tys' := tD cI cL cS) [0, 1, 2] rfl
  have hPc := hP.sub (ws' := (wD hd im sA lA oA xA yA cI cL cS F gi XS YS SZ FO ke)) [0, 1, 2, 3, 4, 5, 6, 7, 8, 9, 10, 11, 12, 13, 14, 15, 16, 17, 18, 19, 20, 21, 22, 23, 24, 25, 26, 27, 28, 29, 30, 31, 32, 33, 34] rfl
  have hDc := hD.sub (ws' := (wD hd im sA lA oA xA yA cI cL cS F gi XS YS SZ FO ke)) [0, 1, 2, 3, 4, 5, 6, 7, 8, 9, 10, 11, 12, 13, 14, 15, 16, 17, 18, 19, 20, 21, 22, 23, 24, 25, 26, 27, 28, 29, 30, 31, 32, 33, 34] (by decide) rfl
  have hFc := va_free (wc := (wD hd im sA lA oA xA yA cI cL cS F gi XS YS SZ FO ke)) hD hS hA [0, 1, 2, 3, 4, 5, 6, 7, 8, 9, 10, 11, 12, 13, 14, 15, 16, 17, 18, 19, 20, 21, 22, 23, 24, 25, 26, 27, 28, 29, 30, 31, 32, 33, 34] rfl
  refine va_calli (va_runV (As := [.int (xs (x3 + (1 : Int32)).toNatClampNeg), .int (xs (x3 + (2 : Int32)).toNatClampNeg), .int (xs (x3 + (3 : Int32)).toNatClampNeg), .int (xs (x3 + (4 : Int32)).toNatClampNeg)]) (rest := []) ⟨hx, hb, hml, hown, hts⟩ (C_X2_set (F := F) (gi := gi) l dC dI H.size (xs (x3 + (1 : Int32)).toNatClampNeg) (xs (x3 + (2 : Int32)).toNatClampNeg) (xs (x3 + (3 : Int32)).toNatClampNeg) (xs (x3 + (4 : Int32)).toNatClampNeg) i hp_0 hp_1 hk r xsN ysN hp_2) (cwV 4 hts gL_law_X2_set rfl rfl rfl (by decide +kernel) ⟨Nat.le_of_ble_eq_true rfl, Nat.le_of_ble_eq_true rfl⟩) ⟨fun a U g mk q => ⟨q.1, q.2.1, q.2.2.1, va_K.moved (u := U) (U := U.calling g mk a) (Vm.Alike.refl U.vm) q.2.2.2.1, q.2.2.2.2.1, nw_same rfl q.2.2.2.2.2⟩, va_recv hKc hPc (ci := 2) (q0 := 0) rfl rfl, fun U hU hW => ⟨rfl, by rw [hU], by rw [hU]; exact hPc, va_K.moved hW.alike hKc, hDc.weaken (fun _ _ _ _ => trivial), hN.warm hW⟩⟩ rfl rfl hl.1 rfl (lv_room (Nat.le_of_ble_eq_true rfl)) dL_law_211 ⟨Nat.le_of_ble_eq_true rfl, Nat.le_of_ble_eq_true rfl⟩) hS (fun q _ h => hFc q h) hFc (fun r_ _ t H1 locs ht hvm hw hB hz1 hk1 hS => ?_)
  obtain ⟨hP1, hD1⟩ := hB
  rw [ht] at hP1
  obtain rfl := hw.symm
  obtain ⟨hP, hD⟩ := va_join (wr := (wM hm mA cI cZ cJ st im_ kp wx wy px py co lx ly lf)) (w1 := (wD hd im sA lA oA xA yA cI cL cS F gi (up2 XS 0 i xsN) (up2 YS 0 i ysN) SZ FO ke)) hP hD [0, 1, 2, 3, 4, 5, 6, 7, 8, 9, 10, 11, 12, 13, 14, 15, 16, 17, 18, 19, 20, 21, 22, 23, 24, 25, 26, 27, 28, 29, 30, 31, 32, 33, 34] [35, 36, 37, 38, 39, 40, 41, 42, 43, 44] rfl rfl (by decide) (by decide) hk1 hFc hP1 hD1
  clear hP1 hD1 hk1 hFc hPc hDc
  generalize H1 = H at hP hS ⊢
  have hP := hP.sub (ws' := (wD hd im sA lA oA xA yA cI cL cS F gi (up2 XS 0 i xsN) (up2 YS 0 i ysN) SZ FO ke) ++ (wM hm mA cI cZ cJ st im_ kp wx wy px py co lx ly lf)) [10, 11, 12, 13, 14, 15, 16, 17, 18, 19, 20, 21, 22, 23, 24, 25, 26, 27, 28, 29, 30, 31, 32, 33, 34, 35, 36, 37, 38, 39, 40, 41, 42, 43, 44, 0, 1, 2, 3, 4, 5, 6, 7, 8, 9] rfl
  have hD := hD.sub (ws' := (wD hd im sA lA oA xA yA cI cL cS F gi (up2 XS 0 i xsN) (up2 YS 0 i ysN) SZ FO ke) ++ (wM hm mA cI cZ cJ st im_ kp wx wy px py co lx ly lf)) [10, 11, 12, 13, 14, 15, 16, 17, 18, 19, 20, 21, 22, 23, 24, 25, 26, 27, 28, 29, 30, 31, 32, 33, 34, 35, 36, 37, 38, 39, 40, 41, 42, 43, 44, 0, 1, 2, 3, 4, 5, 6, 7, 8, 9] (by decide) rfl
  refine lv_aload_n hx hb dL_law_214 rfl (lv_at hl 2 rfl) ?_
  refine lv_aload_n hx hb dL_law_215 rfl (lv_at hl 0 rfl) ?_
  refine lv_iload_n hx hb dL_law_216 rfl (lv_at hl 3 rfl) ?_
  refine lv_iconst (v := 1) hx hb dL_law_217 (by decide) ?_
  refine lv_iadd hx hb dL_law_218 ?_
  refine va_sld hx hb hX hbl hbA hS h_1 dL_law_219 ?_
  refine lv_aload_n hx hb dL_law_220 rfl (lv_at hl 0 rfl) ?_
  refine lv_iload_n hx hb dL_law_221 rfl (lv_at hl 3 rfl) ?_
  refine lv_iconst (v := 2) hx hb dL_law_222 (by decide) ?_
  refine lv_iadd hx hb dL_law_223 ?_
  refine va_sld hx hb hX hbl hbA hS h_2 dL_law_224 ?_
  refine lv_aload_n hx hb dL_law_225 rfl (lv_at hl 0 rfl) ?_
  refine lv_iload_n hx hb dL_law_226 rfl (lv_at hl 3 rfl) ?_
  refine lv_iconst (v := 3) hx hb dL_law_227 (by decide) ?_
  refine lv_iadd hx hb dL_law_228 ?_
  refine va_sld hx hb hX hbl hbA hS h_3 dL_law_229 ?_
  refine lv_aload_n hx hb dL_law_230 rfl (lv_at hl 0 rfl) ?_
  refine lv_iload_n hx hb dL_law_231 rfl (lv_at hl 3 rfl) ?_
  refine lv_iconst (v := 4) hx hb dL_law_232 (by decide) ?_
  refine lv_iadd hx hb dL_law_233 ?_
  refine va_sld hx hb hX hbl hbA hS h_4 dL_law_234 ?_
  have hKc := hK.sub (tys' := [(cI, .int), (cZ, .boolean), (cJ, .long)]) [1, 3, 4] rfl
  have hPc := hP.sub (ws' := (wM hm mA cI cZ cJ st im_ kp wx wy px py co lx ly lf)) [35, 36, 37, 38, 39, 40, 41, 42, 43, 44] rfl
  have hDc := hD.sub (ws' := (wM hm mA cI cZ cJ st im_ kp wx wy px py co lx ly lf)) [35, 36, 37, 38, 39, 40, 41, 42, 43, 44] (by decide) rfl
  have hFc := va_free (wc := (wM hm mA cI cZ cJ st im_ kp wx wy px py co lx ly lf)) hD hS hA [35, 36, 37, 38, 39, 40, 41, 42, 43, 44] rfl
  refine va_calli (va_runV (As := [.int (xs (x3 + (1 : Int32)).toNatClampNeg), .int (xs (x3 + (2 : Int32)).toNatClampNeg), .int (xs (x3 + (3 : Int32)).toNatClampNeg), .int (xs (x3 + (4 : Int32)).toNatClampNeg)]) (rest := [.int r]) ⟨hx, hb, hml, hown, hts⟩ (c_X3_set l dC dI hm (mA 0) (mA 1) (mA 2) (mA 3) (mA 4) (mA 5) (mA 6) (mA 7) (mA 8) cI cZ cJ H.size st im_ kp wx wy px py co lx ly lf (xs (x3 + (1 : Int32)).toNatClampNeg) (xs (x3 + (2 : Int32)).toNatClampNeg) (xs (x3 + (3 : Int32)).toNatClampNeg) (xs (x3 + (4 : Int32)).toNatClampNeg) r stM hp_3) (cwV 4 hts gL_law_X3_set rfl rfl rfl (by decide +kernel) ⟨Nat.le_of_ble_eq_true rfl, Nat.le_of_ble_eq_true rfl⟩) ⟨fun a U g mk q => ⟨q.1, q.2.1, q.2.2.1, va_K.moved (u := U) (U := U.calling g mk a) (Vm.Alike.refl U.vm) q.2.2.2.1, q.2.2.2.2⟩, va_recv hKc hPc (ci := 3) (q0 := 0) rfl rfl, fun U hU hW => ⟨rfl, by rw [hU], by rw [hU]; exact hPc, va_K.moved hW.alike hKc, hDc.weaken (fun _ _ _ _ => trivial)⟩⟩ rfl rfl hl.1 rfl (lv_room (Nat.le_of_ble_eq_true rfl)) dL_law_235 ⟨Nat.le_of_ble_eq_true rfl, Nat.le_of_ble_eq_true rfl⟩) hS (fun q _ h => hFc q h) hFc (fun r_ _ t H1 locs ht hvm hw hB hz1 hk1 hS => ?_)
  obtain ⟨hP1, hK1, hD1⟩ := hB
  rw [ht] at hP1
  obtain rfl := hw.symm
  obtain ⟨hP, hD⟩ := va_join (wr := (wD hd im sA lA oA xA yA cI cL cS F gi (up2 XS 0 i xsN) (up2 YS 0 i ysN) SZ FO ke)) (w1 := (wM hm mA cI cZ cJ stM im_ kp wx wy px py co lx ly lf)) hP hD [35, 36, 37, 38, 39, 40, 41, 42, 43, 44] [0, 1, 2, 3, 4, 5, 6, 7, 8, 9, 10, 11, 12, 13, 14, 15, 16, 17, 18, 19, 20, 21, 22, 23, 24, 25, 26, 27, 28, 29, 30, 31, 32, 33, 34] rfl rfl (by decide) (by decide) hk1 hFc hP1 hD1
  clear hP1 hK1 hD1 hk1 hFc
  generalize H1 = H at hP hS ⊢
  refine lv_icmp_eq (tgt := 775) hx hb dL_law_238 (by decide) (fun c_1 => ?_) (fun c_1 => absurd rfl c_1)
  exact kont _ _ _ _ _ _ _ _ _ _ _ _ _ _ _ _ _ _ hp_4 hP hD hS
set_option maxHeartbeats 4000000 in
set_option maxRecDepth 100000 in
theorem law_rule (C0 : lw_At p s m meth c b L xs) {XS : Nat → Nat → Nat → Int32} {YS : Nat → Nat → Nat → Int32} {SZ : Nat → Nat → Int32} {FO : Nat → Nat → Int32} {ke : Int32} {st : Nat → Int32} {im_ : Nat → Int32} {kp : Nat → Int32} {wx : Nat → Int32} {wy : Nat → Int32} {px : Nat → Int64} {py : Nat → Int64} {co : Int32} {lx : Nat → Int64} {ly : Nat → Int64} {lf : Int32} {H : Heap} {locs : List Loc} {ls : Array Slot} {x3 : Int32} (hI : Inv XS YS SZ FO ke st im_ kp) (h_1 : vp_in (x3 + (1 : Int32)) L) (h_2 : vp_in (x3 + (2 : Int32)) L) (hk : kD sA oA F gi) (hN : nw s) (hK : va_K (dC, dI) vwCl (tA cI cL cS cZ cJ) s) (hP : va_P (dC, dI) vwCl ((wD hd im sA lA oA xA yA cI cL cS F gi XS YS SZ FO ke) ++ (wM hm mA cI cZ cJ st im_ kp wx wy px py co lx ly lf)) H) (hD : va_D (fun q : Nat => s.heap.size ≤ q) ((wD hd im sA lA oA xA yA cI cL cS F gi XS YS SZ FO ke) ++ (wM hm mA cI cZ cJ st im_ kp wx wy px py co lx ly lf))) (hS : va_S (fun q : Nat => s.heap.size ≤ q) s.heap H locs) (hl : lv_has ls 4 [(0, .ref b), (1, .ref hd), (2, .ref hm), (3, .int x3)]) (kont : ∀ (XS : Nat → Nat → Nat → Int32) (YS : Nat → Nat → Nat → Int32) (SZ : Nat → Nat → Int32) (FO : Nat → Nat → Int32) (ke : Int32) (st : Nat → Int32) (im_ : Nat → Int32) (kp : Nat → Int32) (wx : Nat → Int32) (wy : Nat → Int32) (px : Nat → Int64) (py : Nat → Int64) (co : Int32) (lx : Nat → Int64) (ly : Nat → Int64) (lf : Int32) (H : Heap) (locs : List Loc), Inv XS YS SZ FO ke st im_ kp → va_P (dC, dI) vwCl ((wD hd im sA lA oA xA yA cI cL cS F gi XS YS SZ FO ke) ++ (wM hm mA cI cZ cJ st im_ kp wx wy px py co lx ly lf)) H → va_D (fun q : Nat => s.heap.size ≤ q) ((wD hd im sA lA oA xA yA cI cL cS F gi XS YS SZ FO ke) ++ (wM hm mA cI cZ cJ st im_ kp wx wy px py co lx ly lf)) → va_S (fun q : Nat => s.heap.size ≤ q) s.heap H locs → W p l e room_1 s m #[Value.ref b] below meth c H locs 600000 7302250 (lw_Z below #[Value.ref b] s) (F0 m 775 ls [])) : W p l e room_1 s m #[Value.ref b] below meth c H locs 600000 7302250 (lw_Z below #[Value.ref b] s) (F0 m 243 ls []) := by
  obtain ⟨hx, hb, hr, hml, hown, hts, hX, hbl, hlocks, hgv⟩ := C0
  have hA : ∀ q : Nat, s.heap.size ≤ q → (fun q : Nat => s.heap.size ≤ q) q := fun _ h => h
  have hbA : ¬ (fun q : Nat => s.heap.size ≤ q) b := Nat.not_le.mpr hbl
  have hts := fun w h => hts w (wsL_law_in w h)
  obtain ⟨i, r, foN, stM, hp_0, hp_1, hp_2, hp_3, hp_4⟩ := pp_rule hI (xs (x3 + (1 : Int32)).toNatClampNeg) (xs (x3 + (2 : Int32)).toNatClampNeg)
  refine lv_aload_n hx hb dL_law_243 rfl (lv_at hl 1 rfl) ?_
  refine lv_aload_n hx hb dL_law_244 rfl (lv_at hl 0 rfl) ?_
  refine lv_iload_n hx hb dL_law_245 rfl (lv_at hl 3 rfl) ?_
  refine lv_iconst (v := 1) hx hb dL_law_246 (by decide) ?_
  refine lv_iadd hx hb dL_law_247 ?_
  refine va_sld hx hb hX hbl hbA hS h_1 dL_law_248 ?_
  refine lv_aload_n hx hb dL_law_249 rfl (lv_at hl 0 rfl) ?_
  refine lv_iload_n hx hb dL_law_250 rfl (lv_at hl 3 rfl) ?_
  refine lv_iconst (v := 2) hx hb dL_law_251 (by decide) ?_
  refine lv_iadd hx hb dL_law_252 ?_
  refine va_sld hx hb hX hbl hbA hS h_2 dL_law_253 ?_
  have hKc := hK.sub (tys' := tD cI cL cS) [0, 1, 2] rfl
  have hPc := hP.sub (ws' := (wD hd im sA lA oA xA yA cI cL cS F gi XS YS SZ FO ke)) [0, 1, 2, 3, 4, 5, 6, 7, 8, 9, 10, 11, 12, 13, 14, 15, 16, 17, 18, 19, 20, 21, 22, 23, 24, 25, 26, 27, 28, 29, 30, 31, 32, 33, 34] rfl
  have hDc := hD.sub (ws' := (wD hd im sA lA oA xA yA cI cL cS F gi XS YS SZ FO ke)) [0, 1, 2, 3, 4, 5, 6, 7, 8, 9, 10, 11, 12, 13, 14, 15, 16, 17, 18, 19, 20, 21, 22, 23, 24, 25, 26, 27, 28, 29, 30, 31, 32, 33, 34] (by decide) rfl
  have hFc := va_free (wc := (wD hd im sA lA oA xA yA cI cL cS F gi XS YS SZ FO ke)) hD hS hA [0, 1, 2, 3, 4, 5, 6, 7, 8, 9, 10, 11, 12, 13, 14, 15, 16, 17, 18, 19, 20, 21, 22, 23, 24, 25, 26, 27, 28, 29, 30, 31, 32, 33, 34] rfl
  refine va_calli (va_runV (As := [.int (xs (x3 + (1 : Int32)).toNatClampNeg), .int (xs (x3 + (2 : Int32)).toNatClampNeg)]) (rest := []) ⟨hx, hb, hml, hown, hts⟩ (C_X2_rule (F := F) (gi := gi) l dC dI H.size (xs (x3 + (1 : Int32)).toNatClampNeg) (xs (x3 + (2 : Int32)).toNatClampNeg) i hp_0 hp_1 hk r foN hp_2) (cwV 2 hts gL_law_X2_rule rfl rfl rfl (by decide +kernel) ⟨Nat.le_of_ble_eq_true rfl, Nat.le_of_ble_eq_true rfl⟩) ⟨fun a U g mk q => ⟨q.1, q.2.1, q.2.2.1, va_K.moved (u := U) (U := U.calling g mk a) (Vm.Alike.refl U.vm) q.2.2.2.1, q.2.2.2.2.1, nw_same rfl q.2.2.2.2.2⟩, va_recv hKc hPc (ci := 2) (q0 := 0) rfl rfl, fun U hU hW => ⟨rfl, by rw [hU], by rw [hU]; exact hPc, va_K.moved hW.alike hKc, hDc.weaken (fun _ _ _ _ => trivial), hN.warm hW⟩⟩ rfl rfl hl.1 rfl (lv_room (Nat.le_of_ble_eq_true rfl)) dL_law_254 ⟨Nat.le_of_ble_eq_true rfl, Nat.le_of_ble_eq_true rfl⟩) hS (fun q _ h => hFc q h) hFc (fun r_ _ t H1 locs ht hvm hw hB hz1 hk1 hS => ?_)
  obtain ⟨hP1, hD1⟩ := hB
  rw [ht] at hP1
  obtain rfl := hw.symm
  obtain ⟨hP, hD⟩ := va_join (wr := (wM hm mA cI cZ cJ st im_ kp wx wy px py co lx ly lf)) (w1 := (wD hd im sA lA oA xA yA cI cL cS F gi XS YS SZ (up2 FO 0 i foN) ke)) hP hD [0, 1, 2, 3, 4, 5, 6, 7, 8, 9, 10, 11, 12, 13, 14, 15, 16, 17, 18, 19, 20, 21, 22, 23, 24, 25, 26, 27, 28, 29, 30, 31, 32, 33, 34] [35, 36, 37, 38, 39, 40, 41, 42, 43, 44] rfl rfl (by decide) (by decide) hk1 hFc hP1 hD1
  clear hP1 hD1 hk1 hFc hPc hDc
  generalize H1 = H at hP hS ⊢
  have hP := hP.sub (ws' := (wD hd im sA lA oA xA yA cI cL cS F gi XS YS SZ (up2 FO 0 i foN) ke) ++ (wM hm mA cI cZ cJ st im_ kp wx wy px py co lx ly lf)) [10, 11, 12, 13, 14, 15, 16, 17, 18, 19, 20, 21, 22, 23, 24, 25, 26, 27, 28, 29, 30, 31, 32, 33, 34, 35, 36, 37, 38, 39, 40, 41, 42, 43, 44, 0, 1, 2, 3, 4, 5, 6, 7, 8, 9] rfl
  have hD := hD.sub (ws' := (wD hd im sA lA oA xA yA cI cL cS F gi XS YS SZ (up2 FO 0 i foN) ke) ++ (wM hm mA cI cZ cJ st im_ kp wx wy px py co lx ly lf)) [10, 11, 12, 13, 14, 15, 16, 17, 18, 19, 20, 21, 22, 23, 24, 25, 26, 27, 28, 29, 30, 31, 32, 33, 34, 35, 36, 37, 38, 39, 40, 41, 42, 43, 44, 0, 1, 2, 3, 4, 5, 6, 7, 8, 9] (by decide) rfl
  refine lv_aload_n hx hb dL_law_257 rfl (lv_at hl 2 rfl) ?_
  refine lv_aload_n hx hb dL_law_258 rfl (lv_at hl 0 rfl) ?_
  refine lv_iload_n hx hb dL_law_259 rfl (lv_at hl 3 rfl) ?_
  refine lv_iconst (v := 1) hx hb dL_law_260 (by decide) ?_
  refine lv_iadd hx hb dL_law_261 ?_
  refine va_sld hx hb hX hbl hbA hS h_1 dL_law_262 ?_
  refine lv_aload_n hx hb dL_law_263 rfl (lv_at hl 0 rfl) ?_
  refine lv_iload_n hx hb dL_law_264 rfl (lv_at hl 3 rfl) ?_
  refine lv_iconst (v := 2) hx hb dL_law_265 (by decide) ?_
  refine lv_iadd hx hb dL_law_266 ?_
  refine va_sld hx hb hX hbl hbA hS h_2 dL_law_267 ?_
  have hKc := hK.sub (tys' := [(cI, .int), (cZ, .boolean), (cJ, .long)]) [1, 3, 4] rfl
  have hPc := hP.sub (ws' := (wM hm mA cI cZ cJ st im_ kp wx wy px py co lx ly lf)) [35, 36, 37, 38, 39, 40, 41, 42, 43, 44] rfl
  have hDc := hD.sub (ws' := (wM hm mA cI cZ cJ st im_ kp wx wy px py co lx ly lf)) [35, 36, 37, 38, 39, 40, 41, 42, 43, 44] (by decide) rfl
  have hFc := va_free (wc := (wM hm mA cI cZ cJ st im_ kp wx wy px py co lx ly lf)) hD hS hA [35, 36, 37, 38, 39, 40, 41, 42, 43, 44] rfl
  refine va_calli (va_runV (As := [.int (xs (x3 + (1 : Int32)).toNatClampNeg), .int (xs (x3 + (2 : Int32)).toNatClampNeg)]) (rest := [.int r]) ⟨hx, hb, hml, hown, hts⟩ (c_X3_rule l dC dI hm (mA 0) (mA 1) (mA 2) (mA 3) (mA 4) (mA 5) (mA 6) (mA 7) (mA 8) cI cZ cJ H.size st im_ kp wx wy px py co lx ly lf (xs (x3 + (1 : Int32)).toNatClampNeg) (xs (x3 + (2 : Int32)).toNatClampNeg) r stM hp_3) (cwV 2 hts gL_law_X3_rule rfl rfl rfl (by decide +kernel) ⟨Nat.le_of_ble_eq_true rfl, Nat.le_of_ble_eq_true rfl⟩) ⟨fun a U g mk q => ⟨q.1, q.2.1, q.2.2.1, va_K.moved (u := U) (U := U.calling g mk a) (Vm.Alike.refl U.vm) q.2.2.2.1, q.2.2.2.2⟩, va_recv hKc hPc (ci := 3) (q0 := 0) rfl rfl, fun U hU hW => ⟨rfl, by rw [hU], by rw [hU]; exact hPc, va_K.moved hW.alike hKc, hDc.weaken (fun _ _ _ _ => trivial)⟩⟩ rfl rfl hl.1 rfl (lv_room (Nat.le_of_ble_eq_true rfl)) dL_law_268 ⟨Nat.le_of_ble_eq_true rfl, Nat.le_of_ble_eq_true rfl⟩) hS (fun q _ h => hFc q h) hFc (fun r_ _ t H1 locs ht hvm hw hB hz1 hk1 hS => ?_)
  obtain ⟨hP1, hK1, hD1⟩ := hB
  rw [ht] at hP1
  obtain rfl := hw.symm
  obtain ⟨hP, hD⟩ := va_join (wr := (wD hd im sA lA oA xA yA cI cL cS F gi XS YS SZ (up2 FO 0 i foN) ke)) (w1 := (wM hm mA cI cZ cJ stM im_ kp wx wy px py co lx ly lf)) hP hD [35, 36, 37, 38, 39, 40, 41, 42, 43, 44] [0, 1, 2, 3, 4, 5, 6, 7, 8, 9, 10, 11, 12, 13, 14, 15, 16, 17, 18, 19, 20, 21, 22, 23, 24, 25, 26, 27, 28, 29, 30, 31, 32, 33, 34] rfl rfl (by decide) (by decide) hk1 hFc hP1 hD1
  clear hP1 hK1 hD1 hk1 hFc
  generalize H1 = H at hP hS ⊢
  refine lv_icmp_eq (tgt := 775) hx hb dL_law_271 (by decide) (fun c_1 => ?_) (fun c_1 => absurd rfl c_1)
  exact kont _ _ _ _ _ _ _ _ _ _ _ _ _ _ _ _ _ _ hp_4 hP hD hS
set_option maxHeartbeats 4000000 in
set_option maxRecDepth 100000 in
theorem law_move (C0 : lw_At p s m meth c b L xs) {XS : Nat → Nat → Nat → Int32} {YS : Nat → Nat → Nat → Int32} {SZ : Nat → Nat → Int32} {FO : Nat → Nat → Int32} {ke : Int32} {st : Nat → Int32} {im_ : Nat → Int32} {kp : Nat → Int32} {wx : Nat → Int32} {wy : Nat → Int32} {px : Nat → Int64} {py : Nat → Int64} {co : Int32} {lx : Nat → Int64} {ly : Nat → Int64} {lf : Int32} {H : Heap} {locs : List Loc} {ls : Array Slot} {x3 : Int32} (hI : Inv XS YS SZ FO ke st im_ kp) (h_1 : vp_in (x3 + (1 : Int32)) L) (h_2 : vp_in (x3 + (2 : Int32)) L) (h_3 : vp_in (x3 + (3 : Int32)) L) (hk : kD sA oA F gi) (hN : nw s) (hK : va_K (dC, dI) vwCl (tA cI cL cS cZ cJ) s) (hP : va_P (dC, dI) vwCl ((wD hd im sA lA oA xA yA cI cL cS F gi XS YS SZ FO ke) ++ (wM hm mA cI cZ cJ st im_ kp wx wy px py co lx ly lf)) H) (hD : va_D (fun q : Nat => s.heap.size ≤ q) ((wD hd im sA lA oA xA yA cI cL cS F gi XS YS SZ FO ke) ++ (wM hm mA cI cZ cJ st im_ kp wx wy px py co lx ly lf))) (hS : va_S (fun q : Nat => s.heap.size ≤ q) s.heap H locs) (hl : lv_has ls 4 [(0, .ref b), (1, .ref hd), (2, .ref hm), (3, .int x3)]) (kont : ∀ (XS : Nat → Nat → Nat → Int32) (YS : Nat → Nat → Nat → Int32) (SZ : Nat → Nat → Int32) (FO : Nat → Nat → Int32) (ke : Int32) (st : Nat → Int32) (im_ : Nat → Int32) (kp : Nat → Int32) (wx : Nat → Int32) (wy : Nat → Int32) (px : Nat → Int64) (py : Nat → Int64) (co : Int32) (lx : Nat → Int64) (ly : Nat → Int64) (lf : Int32) (H : Heap) (locs : List Loc), Inv XS YS SZ FO ke st im_ kp → va_P (dC, dI) vwCl ((wD hd im sA lA oA xA yA cI cL cS F gi XS YS SZ FO ke) ++ (wM hm mA cI cZ cJ st im_ kp wx wy px py co lx ly lf)) H → va_D (fun q : Nat => s.heap.size ≤ q) ((wD hd im sA lA oA xA yA cI cL cS F gi XS YS SZ FO ke) ++ (wM hm mA cI cZ cJ st im_ kp wx wy px py co lx ly lf)) → va_S (fun q : Nat => s.heap.size ≤ q) s.heap H locs → W p l e room_1 s m #[Value.ref b] below meth c H locs 600000 7302250 (lw_Z below #[Value.ref b] s) (F0 m 775 ls [])) : W p l e room_1 s m #[Value.ref b] below meth c H locs 600000 7302250 (lw_Z below #[Value.ref b] s) (F0 m 276 ls []) := by
  obtain ⟨hx, hb, hr, hml, hown, hts, hX, hbl, hlocks, hgv⟩ := C0
  have hA : ∀ q : Nat, s.heap.size ≤ q → (fun q : Nat => s.heap.size ≤ q) q := fun _ h => h
  have hbA : ¬ (fun q : Nat => s.heap.size ≤ q) b := Nat.not_le.mpr hbl
  have hts := fun w h => hts w (wsL_law_in w h)
  obtain ⟨i, r, xsN, ysN, stM, hp_0, hp_1, hp_2, hp_3, hp_4⟩ := pp_move hI (xs (x3 + (1 : Int32)).toNatClampNeg) (xs (x3 + (2 : Int32)).toNatClampNeg) (xs (x3 + (3 : Int32)).toNatClampNeg)
  refine lv_aload_n hx hb dL_law_276 rfl (lv_at hl 1 rfl) ?_
  refine lv_aload_n hx hb dL_law_277 rfl (lv_at hl 0 rfl) ?_
  refine lv_iload_n hx hb dL_law_278 rfl (lv_at hl 3 rfl) ?_
  refine lv_iconst (v := 1) hx hb dL_law_279 (by decide) ?_
  refine lv_iadd hx hb dL_law_280 ?_
  refine va_sld hx hb hX hbl hbA hS h_1 dL_law_281 ?_
  refine lv_aload_n hx hb dL_law_282 rfl (lv_at hl 0 rfl) ?_
  refine lv_iload_n hx hb dL_law_283 rfl (lv_at hl 3 rfl) ?_
  refine lv_iconst (v := 2) hx hb dL_law_284 (by decide) ?_
  refine lv_iadd hx hb dL_law_285 ?_
  refine va_sld hx hb hX hbl hbA hS h_2 dL_law_286 ?_
  refine lv_aload_n hx hb dL_law_287 rfl (lv_at hl 0 rfl) ?_
  refine lv_iload_n hx hb dL_law_288 rfl (lv_at hl 3 rfl) ?_
  refine lv_iconst (v := 3) hx hb dL_law_289 (by decide) ?_
  refine lv_iadd hx hb dL_law_290 ?_
  refine va_sld hx hb hX hbl hbA hS h_3 dL_law_291 ?_
  have hKc := hK.sub (tys' := tD cI cL cS) [0, 1, 2] rfl
  have hPc := hP.sub (ws' := (wD hd im sA lA oA xA yA cI cL cS F gi XS YS SZ FO ke)) [0, 1, 2, 3, 4, 5, 6, 7, 8, 9, 10, 11, 12, 13, 14, 15, 16, 17, 18, 19, 20, 21, 22, 23, 24, 25, 26, 27, 28, 29, 30, 31, 32, 33, 34] rfl
  have hDc := hD.sub (ws' := (wD hd im sA lA oA xA yA cI cL cS F gi XS YS SZ FO ke)) [0, 1, 2, 3, 4, 5, 6, 7, 8, 9, 10, 11, 12, 13, 14, 15, 16, 17, 18, 19, 20, 21, 22, 23, 24, 25, 26, 27, 28, 29, 30, 31, 32, 33, 34] (by decide) rfl
  have hFc := va_free (wc := (wD hd im sA lA oA xA yA cI cL cS F gi XS YS SZ FO ke)) hD hS hA [0, 1, 2, 3, 4, 5, 6, 7, 8, 9, 10, 11, 12, 13, 14, 15, 16, 17, 18, 19, 20, 21, 22, 23, 24, 25, 26, 27, 28, 29, 30, 31, 32, 33, 34] rfl
  refine va_calli (va_runV (As := [.int (xs (x3 + (1 : Int32)).toNatClampNeg), .int (xs (x3 + (2 : Int32)).toNatClampNeg), .int (xs (x3 + (3 : Int32)).toNatClampNeg)]) (rest := []) ⟨hx, hb, hml, hown, hts⟩ (C_X2_move (F := F) (gi := gi) l dC dI H.size (xs (x3 + (1 : Int32)).toNatClampNeg) (xs (x3 + (2 : Int32)).toNatClampNeg) (xs (x3 + (3 : Int32)).toNatClampNeg) i hp_0 hp_1 hk r xsN ysN hp_2) (cwV 3 hts gL_law_X2_move rfl rfl rfl (by decide +kernel) ⟨Nat.le_of_ble_eq_true rfl, Nat.le_of_ble_eq_true rfl⟩) ⟨fun a U g mk q => ⟨q.1, q.2.1, q.2.2.1, va_K.moved (u := U) (U := U.calling g mk a) (Vm.Alike.refl U.vm) q.2.2.2.1, q.2.2.2.2.1, nw_same rfl q.2.2.2.2.2⟩, va_recv hKc hPc (ci := 2) (q0 := 0) rfl rfl, fun U hU hW => ⟨rfl, by rw [hU], by rw [hU]; exact hPc, va_K.moved hW.alike hKc, hDc.weaken (fun _ _ _ _ => trivial), hN.warm hW⟩⟩ rfl rfl hl.1 rfl (lv_room (Nat.le_of_ble_eq_true rfl)) dL_law_292 ⟨Nat.le_of_ble_eq_true rfl, Nat.le_of_ble_eq_true rfl⟩) hS (fun q _ h => hFc q h) hFc (fun r_ _ t H1 locs ht hvm hw hB hz1 hk1 hS => ?_)
  obtain ⟨hP1, hD1⟩ := hB
  rw [ht] at hP1
  obtain rfl := hw.symm
  obtain ⟨hP, hD⟩ := va_join (wr := (wM hm mA cI cZ cJ st im_ kp wx wy px py co lx ly lf)) (w1 := (wD hd im sA lA oA xA yA cI cL cS F gi (up2 XS 0 i xsN) (up2 YS 0 i ysN) SZ FO ke)) hP hD [0, 1, 2, 3, 4, 5, 6, 7, 8, 9, 10, 11, 12, 13, 14, 15, 16, 17, 18, 19, 20, 21, 22, 23, 24, 25, 26, 27, 28, 29, 30, 31, 32, 33, 34] [35, 36, 37, 38, 39, 40, 41, 42, 43, 44] rfl rfl (by decide) (by decide) hk1 hFc hP1 hD1
  clear hP1 hD1 hk1 hFc hPc hDc
  generalize H1 = H at hP hS ⊢
  have hP := hP.sub (ws' := (wD hd im sA lA oA xA yA cI cL cS F gi (up2 XS 0 i xsN) (up2 YS 0 i ysN) SZ FO ke) ++ (wM hm mA cI cZ cJ st im_ kp wx wy px py co lx ly lf)) [10, 11, 12, 13, 14, 15, 16, 17, 18, 19, 20, 21, 22, 23, 24, 25, 26, 27, 28, 29, 30, 31, 32, 33, 34, 35, 36, 37, 38, 39, 40, 41, 42, 43, 44, 0, 1, 2, 3, 4, 5, 6, 7, 8, 9] rfl
  have hD := hD.sub (ws' := (wD hd im sA lA oA xA yA cI cL cS F gi (up2 XS 0 i xsN) (up2 YS 0 i ysN) SZ FO ke) ++ (wM hm mA cI cZ cJ st im_ kp wx wy px py co lx ly lf)) [10, 11, 12, 13, 14, 15, 16, 17, 18, 19, 20, 21, 22, 23, 24, 25, 26, 27, 28, 29, 30, 31, 32, 33, 34, 35, 36, 37, 38, 39, 40, 41, 42, 43, 44, 0, 1, 2, 3, 4, 5, 6, 7, 8, 9] (by decide) rfl
  refine lv_aload_n hx hb dL_law_295 rfl (lv_at hl 2 rfl) ?_
  refine lv_aload_n hx hb dL_law_296 rfl (lv_at hl 0 rfl) ?_
  refine lv_iload_n hx hb dL_law_297 rfl (lv_at hl 3 rfl) ?_
  refine lv_iconst (v := 1) hx hb dL_law_298 (by decide) ?_
  refine lv_iadd hx hb dL_law_299 ?_
  refine va_sld hx hb hX hbl hbA hS h_1 dL_law_300 ?_
  refine lv_aload_n hx hb dL_law_301 rfl (lv_at hl 0 rfl) ?_
  refine lv_iload_n hx hb dL_law_302 rfl (lv_at hl 3 rfl) ?_
  refine lv_iconst (v := 2) hx hb dL_law_303 (by decide) ?_
  refine lv_iadd hx hb dL_law_304 ?_
  refine va_sld hx hb hX hbl hbA hS h_2 dL_law_305 ?_
  refine lv_aload_n hx hb dL_law_306 rfl (lv_at hl 0 rfl) ?_
  refine lv_iload_n hx hb dL_law_307 rfl (lv_at hl 3 rfl) ?_
  refine lv_iconst (v := 3) hx hb dL_law_308 (by decide) ?_
  refine lv_iadd hx hb dL_law_309 ?_
  refine va_sld hx hb hX hbl hbA hS h_3 dL_law_310 ?_
  have hKc := hK.sub (tys' := [(cI, .int), (cZ, .boolean), (cJ, .long)]) [1, 3, 4] rfl
  have hPc := hP.sub (ws' := (wM hm mA cI cZ cJ st im_ kp wx wy px py co lx ly lf)) [35, 36, 37, 38, 39, 40, 41, 42, 43, 44] rfl
  have hDc := hD.sub (ws' := (wM hm mA cI cZ cJ st im_ kp wx wy px py co lx ly lf)) [35, 36, 37, 38, 39, 40, 41, 42, 43, 44] (by decide) rfl
  have hFc := va_free (wc := (wM hm mA cI cZ cJ st im_ kp wx wy px py co lx ly lf)) hD hS hA [35, 36, 37, 38, 39, 40, 41, 42, 43, 44] rfl
  refine va_calli (va_runV (As := [.int (xs (x3 + (1 : Int32)).toNatClampNeg), .int (xs (x3 + (2 : Int32)).toNatClampNeg), .int (xs (x3 + (3 : Int32)).toNatClampNeg)]) (rest := [.int r]) ⟨hx, hb, hml, hown, hts⟩ (c_X3_move l dC dI hm (mA 0) (mA 1) (mA 2) (mA 3) (mA 4) (mA 5) (mA 6) (mA 7) (mA 8) cI cZ cJ H.size st im_ kp wx wy px py co lx ly lf (xs (x3 + (1 : Int32)).toNatClampNeg) (xs (x3 + (2 : Int32)).toNatClampNeg) (xs (x3 + (3 : Int32)).toNatClampNeg) r stM hp_3) (cwV 3 hts gL_law_X3_move rfl rfl rfl (by decide +kernel) ⟨Nat.le_of_ble_eq_true rfl, Nat.le_of_ble_eq_true rfl⟩) ⟨fun a U g mk q => ⟨q.1, q.2.1, q.2.2.1, va_K.moved (u := U) (U := U.calling g mk a) (Vm.Alike.refl U.vm) q.2.2.2.1, q.2.2.2.2⟩, va_recv hKc hPc (ci := 3) (q0 := 0) rfl rfl, fun U hU hW => ⟨rfl, by rw [hU], by rw [hU]; exact hPc, va_K.moved hW.alike hKc, hDc.weaken (fun _ _ _ _ => trivial)⟩⟩ rfl rfl hl.1 rfl (lv_room (Nat.le_of_ble_eq_true rfl)) dL_law_311 ⟨Nat.le_of_ble_eq_true rfl, Nat.le_of_ble_eq_true rfl⟩) hS (fun q _ h => hFc q h) hFc (fun r_ _ t H1 locs ht hvm hw hB hz1 hk1 hS => ?_)
  obtain ⟨hP1, hK1, hD1⟩ := hB
  rw [ht] at hP1
  obtain rfl := hw.symm
  obtain ⟨hP, hD⟩ := va_join (wr := (wD hd im sA lA oA xA yA cI cL cS F gi (up2 XS 0 i xsN) (up2 YS 0 i ysN) SZ FO ke)) (w1 := (wM hm mA cI cZ cJ stM im_ kp wx wy px py co lx ly lf)) hP hD [35, 36, 37, 38, 39, 40, 41, 42, 43, 44] [0, 1, 2, 3, 4, 5, 6, 7, 8, 9, 10, 11, 12, 13, 14, 15, 16, 17, 18, 19, 20, 21, 22, 23, 24, 25, 26, 27, 28, 29, 30, 31, 32, 33, 34] rfl rfl (by decide) (by decide) hk1 hFc hP1 hD1
  clear hP1 hK1 hD1 hk1 hFc
  generalize H1 = H at hP hS ⊢
  refine lv_icmp_eq (tgt := 775) hx hb dL_law_314 (by decide) (fun c_1 => ?_) (fun c_1 => absurd rfl c_1)
  exact kont _ _ _ _ _ _ _ _ _ _ _ _ _ _ _ _ _ _ hp_4 hP hD hS
end LAW0
