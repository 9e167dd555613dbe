/-! the model's raw of a dot -/
def crf (a p q : Pnt) : Int := (p.1 - a.1) * (q.2 - a.2) - (q.1 - a.1) * (p.2 - a.2)
theorem ta_loop {px py : Nat → Int64} {pts : List Pnt} {a : Pnt} (ha : pts[0]? = some a) (hA : Arr px py pts) (hn : pts.length ≤ 150) :
    ∀ (suf : List Pnt) (p : Pnt) (k m : Nat) (acc : Int), (∀ j q, (p :: suf)[j]? = some q → pts[k + j]? = some q) → k + suf.length + 1 = pts.length → suf.length + 1 < m → L_X3_twiceArea_4 px py (nI pts.length) m (nI k) (lI acc) = some (nI pts.length, lI (acc + psum (crf a) p (suf ++ [a]))) := by
  have step : ∀ (p q : Pnt) (k m : Nat) (acc : Int), k < pts.length → pts[k]? = some p → pts[(k + 1) % pts.length]? = some q → L_X3_twiceArea_4 px py (nI pts.length) (m + 1) (nI k) (lI acc) = L_X3_twiceArea_4 px py (nI pts.length) m (nI (k + 1)) (lI (acc + crf a p q)) := by
    intro p q k m acc hk hp hq
    have hm : (k + 1) % pts.length < pts.length := Nat.mod_lt _ (by omega)
    have ev : (nI k + (1 : Int32)) - (nI k + (1 : Int32)) / nI pts.length * nI pts.length = nI ((k + 1) % pts.length) := by rw [lit32, nI_add, pk_rem (by omega) (by omega) (by omega)]
    have hnz : nz (nI pts.length) = true := decide_eq_true (nI_ne0 (by omega) (by omega))
    have e1 : nI k + (1 : Int32) = nI (k + 1) := by rw [lit32, nI_add]
    have e0 : (0 : Int32).toNatClampNeg = 0 := by decide
    obtain ⟨a1, a2⟩ := hA 0 a ha
    obtain ⟨p1, p2⟩ := hA k p hp
    obtain ⟨q1, q2⟩ := hA _ q hq
    rw [L_X3_twiceArea_4_s, if_neg (by rw [nI_leI (by omega) (by omega)]; omega), hnz, gd_s, ev, nm_s, ib_nI (by omega) (by omega), gd_s, ib_nI (by omega) (by omega), gd_s, gd_s, gd_s, nm_s, e1, e0, cl32 (by omega), cl32 (by omega), a1, a2, p1, p2, q1, q2, lI_sub, lI_sub, lI_sub, lI_sub, lI_mul, lI_mul, lI_sub, lI_add]
    rfl
  intro suf
  induction suf with
  | nil =>
    intro p k m acc h1 h2 h3
    simp only [List.length_nil] at h2 h3
    obtain ⟨m, rfl⟩ : ∃ z, m = z + 2 := ⟨m - 2, by omega⟩
    have e3 : k + 1 = pts.length := by omega
    rw [step p a k (m + 1) acc (by omega) (h1 0 p rfl) (by rw [e3, Nat.mod_self]; exact ha), L_X3_twiceArea_4_s, if_pos (by rw [nI_leI (by omega) (by omega)]; omega), e3]
    show _ = some (nI pts.length, lI (acc + (crf a p a + 0)))
    rw [Int.add_zero]
  | cons q suf ih =>
    intro p k m acc h1 h2 h3
    simp only [List.length_cons] at h2 h3
    obtain ⟨m, rfl⟩ : ∃ z, m = z + 1 := ⟨m - 1, by omega⟩
    have hk1 : (k + 1) % pts.length = k + 1 := Nat.mod_eq_of_lt (by omega)
    rw [step p q k m acc (by omega) (h1 0 p rfl) (by rw [hk1]; exact h1 1 q rfl), ih q (k + 1) m (acc + crf a p q) (fun j z hz => by
      have := h1 (j + 1) z hz
      rw [show k + 1 + j = k + (j + 1) by omega]
      exact this) (by omega) (by omega), Int.add_assoc]
    rfl
theorem crf_ph (a : Pnt) (b : Int) (l : List Pnt) : csum (crf a) l = csum (ph b) l := by
  rw [← csum_tel (ph b) (fun x => -(x.1 * x.2) + a.2 * x.1 - a.1 * x.2 + 2 * b * x.2) 1]
  congr 1
  funext p q
  obtain ⟨p1, p2⟩ := p
  obtain ⟨q1, q2⟩ := q
  obtain ⟨a1, a2⟩ := a
  simp only [crf, ph]
  grind
theorem ta_eq {px py : Nat → Int64} {pts : List Pnt} (hA : Arr px py pts) (hn : pts.length ≤ 150) (b : Int) : P_X3_twiceArea px py (nI pts.length) = some (lI (csum (ph b) pts)) := by
  unfold P_X3_twiceArea
  have q : (0 : Int32) = nI 0 := rfl
  cases pts with
  | nil =>
    rw [show (1000 : Nat) = 999 + 1 from rfl, L_X3_twiceArea_4_s, if_pos (by decide), bd2_s]
    rfl
  | cons a t =>
    rw [q, z64, ta_loop (pts := a :: t) (a := a) rfl hA hn t a 0 1000 0 (fun j q h => by rw [Nat.zero_add]; exact h) (by simp) (by simp at hn; omega), bd2_s, Int.zero_add]
    have := crf_ph a b (a :: t)
    rw [← this]
    rfl
theorem crf_bnd {a p q : Pnt} (ha : bnd a) (hp : bnd p) (hq : bnd q) : -221298739200 ≤ crf a p q ∧ crf a p q ≤ 221298739200 := by
  obtain ⟨a1, a2⟩ := ha
  obtain ⟨p1, p2⟩ := hp
  obtain ⟨q1, q2⟩ := hq
  have h1 := mulB (a := p.1 - a.1) (b := q.2 - a.2) (A := 332640) (B := 332640) (by decide) (by decide) (by omega) (by omega) (by omega) (by omega)
  have h2 := mulB (a := q.1 - a.1) (b := p.2 - a.2) (A := 332640) (B := 332640) (by decide) (by decide) (by omega) (by omega) (by omega) (by omega)
  unfold crf
  omega
theorem psum_bnd {a : Pnt} (ha : bnd a) : ∀ (l : List Pnt) (x : Pnt), bnd x → (∀ z ∈ l, bnd z) → -(221298739200 * (l.length : Int)) ≤ psum (crf a) x l ∧ psum (crf a) x l ≤ 221298739200 * (l.length : Int)
  | [], _, _, _ => by simp [psum]
  | y :: t, x, hx, hl => by
    have h1 := crf_bnd ha hx (hl y List.mem_cons_self)
    have h2 := psum_bnd ha t y (hl y List.mem_cons_self) (fun z hz => hl z (List.mem_cons_of_mem _ hz))
    show -(221298739200 * ((t.length + 1 : Nat) : Int)) ≤ crf a x y + psum (crf a) y t ∧ crf a x y + psum (crf a) y t ≤ 221298739200 * ((t.length + 1 : Nat) : Int)
    omega
theorem csum_bnd (b : Int) {l : List Pnt} (hl : ∀ z ∈ l, bnd z) (hn : l.length ≤ 150) : -33194810880000 ≤ csum (ph b) l ∧ csum (ph b) l ≤ 33194810880000 := by
  cases l with
  | nil => simp [csum]
  | cons a t =>
    rw [← crf_ph a b]
    have := psum_bnd (hl a List.mem_cons_self) (t ++ [a]) a (hl a List.mem_cons_self) (fun z hz => by
      rcases List.mem_append.mp hz with h | h
      · exact hl z (List.mem_cons_of_mem _ h)
      · rw [List.mem_singleton.mp h]; exact hl a List.mem_cons_self)
    rw [List.length_append] at this
    simp only [List.length_cons, List.length_nil] at hn this
    show -33194810880000 ≤ psum (crf a) a (t ++ [a]) ∧ psum (crf a) a (t ++ [a]) ≤ 33194810880000
    omega
theorem psum_map {f g : Pnt → Pnt → Int} {s : Pnt → Pnt} {k : Int} {M : List Pnt} (h : ∀ p ∈ M, ∀ q ∈ M, f (s p) (s q) = k * g p q) : ∀ (l : List Pnt) (x : Pnt), x ∈ M → (∀ z ∈ l, z ∈ M) → psum f (s x) (l.map s) = k * psum g x l
  | [], _, _, _ => by simp [psum]
  | y :: t, x, hx, hl => by
    show f (s x) (s y) + psum f (s y) (t.map s) = k * (g x y + psum g y t)
    rw [h x hx y (hl y List.mem_cons_self), psum_map h t y (hl y List.mem_cons_self) (fun z hz => hl z (List.mem_cons_of_mem _ hz)), Int.mul_add]
theorem csum_map {f g : Pnt → Pnt → Int} {s : Pnt → Pnt} {k : Int} (l : List Pnt) (h : ∀ p ∈ l, ∀ q ∈ l, f (s p) (s q) = k * g p q) : csum f (l.map s) = k * csum g l := by
  cases l with
  | nil => simp [csum]
  | cons a t =>
    have := psum_map h (t ++ [a]) a List.mem_cons_self (fun z hz => by
      rcases List.mem_append.mp hz with q | q
      · exact List.mem_cons_of_mem _ q
      · rw [List.mem_singleton.mp q]; exact List.mem_cons_self)
    show psum f (s a) (t.map s ++ [s a]) = k * psum g a (t ++ [a])
    rw [← this, List.map_append]
    rfl
/-- the points of a path -/
def ptl (xs ys : Nat → Int32) (n : Nat) : List Pnt := (List.range n).map fun k => ((xs k).toInt, (ys k).toInt)
def edP (l b : Int) (p q : Pnt) : Int := edI p.1 p.2 q.1 q.2 l b
/-- raw of a dot, the path moved -/
def RW (xs ys : Nat → Int32) (n d : Nat) (dx dy : Int) : Int := csum (edP (3 * ((d % 4 : Nat) : Int) - dx) (3 * ((d / 4 : Nat) : Int) - dy)) (ptl xs ys n)
def scl (dx dy : Int) (p : Pnt) : Pnt := (27720 * (p.1 + dx), 27720 * (p.2 + dy))
theorem lay_loop (st xs ys : Nat → Int32) (i n : Nat) (hi : i < 3) (hn : n ≤ 8) (hl : ∀ k, k < 8 → st (6 + 8 * i + k) = xs k ∧ st (30 + 8 * i + k) = ys k) (hx : ∀ k, k < 8 → (0 ≤ (xs k).toInt ∧ (xs k).toInt ≤ 12) ∧ (0 ≤ (ys k).toInt ∧ (ys k).toInt ≤ 12)) {dx dy : Int} (hdx : -12 ≤ dx ∧ dx ≤ 12) (hdy : -12 ≤ dy ∧ dy ≤ 12) :
    ∀ (d k m : Nat) (px py : Nat → Int64), k + d = n → d < m → ∃ px' py' : Nat → Int64, L_X3_layPath_15 st (nI i) (iI dx) (iI dy) (nI n) m (nI k) px py = some (nI n, px', py') ∧ (∀ j, k ≤ j → j < n → px' j = lI (27720 * ((xs j).toInt + dx)) ∧ py' j = lI (27720 * ((ys j).toInt + dy))) ∧ (∀ j, j < k → px' j = px j ∧ py' j = py j) := by
  intro d
  induction d with
  | zero =>
    intro k m px py h1 h2
    obtain ⟨m, rfl⟩ : ∃ z, m = z + 1 := ⟨m - 1, by omega⟩
    obtain rfl : k = n := by omega
    refine ⟨px, py, ?_, fun j h3 h4 => absurd h4 (by omega), fun j _ => ⟨rfl, rfl⟩⟩
    rw [L_X3_layPath_15_s, if_pos (by rw [nI_leI (by omega) (by omega)]; omega)]
  | succ d ih =>
    intro k m px py h1 h2
    obtain ⟨m, rfl⟩ : ∃ z, m = z + 1 := ⟨m - 1, by omega⟩
    have e6 : st (6 + (8 * i + k)) = xs k := by rw [← Nat.add_assoc]; exact (hl k (by omega)).1
    have e30 : st (30 + (8 * i + k)) = ys k := by rw [← Nat.add_assoc]; exact (hl k (by omega)).2
    have hk := hx k (by omega)
    have q27 : (27720 : Int64) = lI 27720 := by decide
    have ex : (27720 : Int64) * (xs k + iI dx).toInt64 = lI (27720 * ((xs k).toInt + dx)) := by
      rw [← iI_of (xs k), iI_add, iI_l ⟨by omega, by omega⟩, q27, lI_mul, iI_of]
    have ey : (27720 : Int64) * (ys k + iI dy).toInt64 = lI (27720 * ((ys k).toInt + dy)) := by
      rw [← iI_of (ys k), iI_add, iI_l ⟨by omega, by omega⟩, q27, lI_mul, iI_of]
    obtain ⟨px', py', e, g1, g2⟩ := ih (k + 1) m (vp_updL px k (lI (27720 * ((xs k).toInt + dx)))) (vp_updL py k (lI (27720 * ((ys k).toInt + dy)))) (by omega) (by omega)
    refine ⟨px', py', ?_, fun j h3 h4 => ?_, fun j h3 => ?_⟩
    · rw [L_X3_layPath_15_s, if_neg (by rw [nI_leI (by omega) (by omega)]; omega), P_place_eq, bd1_s, z6, ib_nI (by omega) (by omega), gd_s, ib_nI (by omega) (by omega), gd_s, bd1_s, z30, ib_nI (by omega) (by omega), gd_s, gd_s, cl32 (by omega), cl32 (by omega), cl32 (by omega), e6, e30, ex, ey, lit32, nI_add]
      exact e
    · by_cases q : j = k
      · subst q
        obtain ⟨x, y⟩ := g2 j (by omega)
        exact ⟨x.trans pk_uLs, y.trans pk_uLs⟩
      · exact g1 j (by omega) h4
    · obtain ⟨x, y⟩ := g2 j (by omega)
      exact ⟨x.trans (pk_uLn (by omega)), y.trans (pk_uLn (by omega))⟩
/-- the moved path lies in the field -/
def inF (xs ys : Nat → Int32) (n : Nat) (dx dy : Int) : Prop := ∀ k, k < n → (0 ≤ (xs k).toInt + dx ∧ (xs k).toInt + dx ≤ 12) ∧ (0 ≤ (ys k).toInt + dy ∧ (ys k).toInt + dy ≤ 12)
theorem bd6_s {A0 A1 A2 A3 A4 A5 β : Type} (a0 : A0) (a1 : A1) (a2 : A2) (a3 : A3) (a4 : A4) (a5 : A5) (k : A0 → A1 → A2 → A3 → A4 → A5 → Option β) : bd6 (some (a0, a1, a2, a3, a4, a5)) k = k a0 a1 a2 a3 a4 a5 := rfl
theorem bd7_s {A0 A1 A2 A3 A4 A5 A6 β : Type} (a0 : A0) (a1 : A1) (a2 : A2) (a3 : A3) (a4 : A4) (a5 : A5) (a6 : A6) (k : A0 → A1 → A2 → A3 → A4 → A5 → A6 → Option β) : bd7 (some (a0, a1, a2, a3, a4, a5, a6)) k = k a0 a1 a2 a3 a4 a5 a6 := rfl
theorem rawOf_eq {st xs ys : Nat → Int32} {i n d : Nat} (hi : i < 3) (hn : n ≤ 8) (hd : d < 16) (h0 : st i = nI n) (hl : ∀ k, k < 8 → st (6 + 8 * i + k) = xs k ∧ st (30 + 8 * i + k) = ys k) (hx : ∀ k, k < 8 → (0 ≤ (xs k).toInt ∧ (xs k).toInt ≤ 12) ∧ (0 ≤ (ys k).toInt ∧ (ys k).toInt ≤ 12)) {dx dy : Int} (hdx : -12 ≤ dx ∧ dx ≤ 12) (hdy : -12 ≤ dy ∧ dy ≤ 12) (hF : inF xs ys n dx dy) (px py lx ly : Nat → Int64) :
    (∃ (px' py' : Nat → Int64) (co' : Int32) (lx' ly' : Nat → Int64) (lf' : Int32), P_X3_rawOf (nI i) (nI d) (iI dx) (iI dy) st px py lx ly = some (lI (RW xs ys n d dx dy), px', py', co', lx', ly', lf')) ∧ -1200000000 ≤ RW xs ys n d dx dy ∧ RW xs ys n d dx dy ≤ 1200000000 := by
  have q0 : (0 : Int32) = nI 0 := rfl
  obtain ⟨p1, p2, e1, g1, -⟩ := lay_loop st xs ys i n hi hn hl hx hdx hdy n 0 1000 px py (by omega) (by omega)
  have eL : P_X3_layPath (nI i) (iI dx) (iI dy) st px py = some (p1, p2, nI n) := by
    unfold P_X3_layPath
    rw [z0, ib_nI (by omega) (by omega), gd_s, cl32 (by omega), h0, nm_s, q0, e1, bd3_s]
  have hlen : ((ptl xs ys n).map (scl dx dy)).length = n := by simp [ptl]
  have hA0 : Arr p1 p2 ((ptl xs ys n).map (scl dx dy)) := by
    intro k p hk
    have hkn : k < n := by
      have := (List.getElem?_eq_some_iff.mp hk).1
      rw [hlen] at this
      exact this
    have : ((ptl xs ys n).map (scl dx dy))[k]? = some (scl dx dy ((xs k).toInt, (ys k).toInt)) := by
      simp [ptl, hkn]
    rw [this] at hk
    cases hk
    exact g1 k (Nat.zero_le k) hkn
  have hmem : ∀ p ∈ ptl xs ys n, (0 ≤ p.1 + dx ∧ p.1 + dx ≤ 12) ∧ (0 ≤ p.2 + dy ∧ p.2 + dy ≤ 12) := by
    intro p hp
    obtain ⟨k, hk, rfl⟩ := List.mem_map.mp hp
    exact hF k (List.mem_range.mp hk)
  have hB0 : ∀ z ∈ (ptl xs ys n).map (scl dx dy), bnd z := by
    intro z hz
    obtain ⟨p, hp, rfl⟩ := List.mem_map.mp hz
    have := hmem p hp
    show (0 ≤ 27720 * (p.1 + dx) ∧ 27720 * (p.1 + dx) ≤ 332640) ∧ (0 ≤ 27720 * (p.2 + dy) ∧ 27720 * (p.2 + dy) ≤ 332640)
    omega
  have hc : d % 4 < 4 := Nat.mod_lt _ (by decide)
  have hr : d / 4 < 4 := by omega
  generalize hP0 : (ptl xs ys n).map (scl dx dy) = P0 at hA0 hB0 hlen
  have hsum : csum (ps0 (83160 * ((d % 4 : Nat) : Int)) (83160 * ((d % 4 : Nat) : Int) + 83160) (83160 * ((d / 4 : Nat) : Int)) (83160 * ((d / 4 : Nat) : Int) + 83160)) P0 = 27720 * RW xs ys n d dx dy := by
    rw [← hP0]
    exact csum_map (ptl xs ys n) (fun p hp q hq => edge_eq hc hr (hmem p hp).1 (hmem p hp).2 (hmem q hq).1 (hmem q hq).2)
  have hv4 : (83160 : Int64) * (nI d - nI d / (4 : Int32) * (4 : Int32)).toInt64 = lI (83160 * ((d % 4 : Nat) : Int)) := by
    have q : (83160 : Int64) = lI 83160 := by decide
    rw [lit32, pk_rem (by omega) (by decide) (by decide), iI_nI, iI_l ⟨by omega, by omega⟩, q, lI_mul]
  have hv5 : (83160 : Int64) * (nI d / (4 : Int32)).toInt64 = lI (83160 * ((d / 4 : Nat) : Int)) := by
    have q : (83160 : Int64) = lI 83160 := by decide
    rw [lit32, pk_div (by omega) (by decide) (by decide), iI_nI, iI_l ⟨by omega, by omega⟩, q, lI_mul]
  have q83 : (83160 : Int64) = lI 83160 := by decide
  have q27 : (27720 : Int64) = lI 27720 := by decide
  obtain ⟨x1, y1, u1, w1, f1, c1, A1, B1, l1⟩ := kc_eq (side := 0) (by decide) (b := 83160 * ((d % 4 : Nat) : Int)) (by omega) hA0 hB0 (by omega) lx ly
  obtain ⟨x2, y2, u2, w2, f2, c2, A2, B2, l2⟩ := kc_eq (side := 1) (by decide) (b := 83160 * ((d % 4 : Nat) : Int) + 83160) (by omega) A1 B1 (by omega) u1 w1
  obtain ⟨x3, y3, u3, w3, f3, c3, A3, B3, l3⟩ := kc_eq (side := 2) (by decide) (b := 83160 * ((d / 4 : Nat) : Int)) (by omega) A2 B2 (by omega) u2 w2
  obtain ⟨x4, y4, u4, w4, f4, c4, A4, B4, l4⟩ := kc_eq (side := 3) (by decide) (b := 83160 * ((d / 4 : Nat) : Int) + 83160) (by omega) A3 B3 (by omega) u3 w3
  have hall := sh_all (b0 := 83160 * ((d % 4 : Nat) : Int)) (b1 := 83160 * ((d % 4 : Nat) : Int) + 83160) (c0 := 83160 * ((d / 4 : Nat) : Int)) (c1 := 83160 * ((d / 4 : Nat) : Int) + 83160) (by omega) (by omega) P0
  have hta := ta_eq A4 (by omega) (83160 * ((d % 4 : Nat) : Int) + 83160)
  have hbd := csum_bnd (83160 * ((d % 4 : Nat) : Int) + 83160) B4 (by omega)
  rw [hall, hsum] at hta hbd
  refine ⟨⟨x4, y4, nI (cutL 3 (83160 * ((d / 4 : Nat) : Int) + 83160) (cutL 2 (83160 * ((d / 4 : Nat) : Int)) (cutL 1 (83160 * ((d % 4 : Nat) : Int) + 83160) (cutL 0 (83160 * ((d % 4 : Nat) : Int)) P0)))).length, u4, w4, f4, ?_⟩, by omega, by omega⟩
  unfold P_X3_rawOf
  have s1 : (1 : Int32) = nI 1 := rfl
  have s2 : (2 : Int32) = nI 2 := rfl
  have s3 : (3 : Int32) = nI 3 := rfl
  rw [eL, bd3_s, hv4, nm_s, hv5, nm_s, q83, lI_add, lI_add, q0, s1, s2, s3, ← hlen, c1, bd6_s, c2, bd6_s, c3, bd6_s, c4, bd6_s, hta, bd1_s, q27, lI_div (by omega) ⟨by decide, by decide⟩ (by decide), Int.mul_tdiv_cancel_left _ (by decide), hlen]
