theorem kc_step {side : Nat} (hs : side < 4) {b : Int} (hb : 0 ≤ b ∧ b ≤ 332640) {px py : Nat → Int64} {n : Nat} (hn : n ≤ 150) {p q : Pnt} {k : Nat} (hk : k < n) (hp : px k = lI p.1 ∧ py k = lI p.2) (hq : px ((k + 1) % n) = lI q.1 ∧ py ((k + 1) % n) = lI q.2) (bp : bnd p) (bq : bnd q) (m : Nat) {acc : List Pnt} (hacc : acc.length + 2 ≤ 300) {lx ly : Nat → Int64} (hA : Arr lx ly acc) :
    ∃ lx2 ly2 : Nat → Int64, L_X3_cutSide_8 px py (nI n) (nI side) (lI b) (m + 1) (nI k) lx ly (nI acc.length) = L_X3_cutSide_8 px py (nI n) (nI side) (lI b) m (nI (k + 1)) lx2 ly2 (nI (acc ++ (inn side b p ++ ix side b p q)).length) ∧ Arr lx2 ly2 (acc ++ (inn side b p ++ ix side b p q)) := by
  have hm : (k + 1) % n < n := Nat.mod_lt _ (by omega)
  have r1 := wi_r hs hb bp
  have r2 := wi_r hs hb bq
  have ev : (nI k + (1 : Int32)) - (nI k + (1 : Int32)) / nI n * nI n = nI ((k + 1) % n) := by rw [lit32, nI_add, pk_rem (by omega) (by omega) (by omega)]
  have hnz : nz (nI n) = true := decide_eq_true (nI_ne0 (by omega) (by omega))
  have e1 : nI k + (1 : Int32) = nI (k + 1) := by rw [lit32, nI_add]
  rw [L_X3_cutSide_8_s, if_neg (by rw [nI_leI (by omega) (by omega)]; omega), hnz, gd_s, ev, nm_s, within_eq hs (by omega) hp, bd1_s, within_eq hs (by omega) hq, bd1_s, e1]
  have lt1 : (lI (wi side b p) < (0 : Int64)) ↔ wi side b p < 0 := by rw [z64, lI_lt ⟨by omega, by omega⟩ ⟨by omega, by omega⟩]
  have le1 : (lI (wi side b p) ≤ (0 : Int64)) ↔ wi side b p ≤ 0 := by rw [z64, lI_le ⟨by omega, by omega⟩ ⟨by omega, by omega⟩]
  have ge1 : ((0 : Int64) ≤ lI (wi side b p)) ↔ 0 ≤ wi side b p := by rw [z64, lI_le ⟨by omega, by omega⟩ ⟨by omega, by omega⟩]
  have gt2 : ((0 : Int64) < lI (wi side b q)) ↔ 0 < wi side b q := by rw [z64, lI_lt ⟨by omega, by omega⟩ ⟨by omega, by omega⟩]
  have ge2 : ((0 : Int64) ≤ lI (wi side b q)) ↔ 0 ≤ wi side b q := by rw [z64, lI_le ⟨by omega, by omega⟩ ⟨by omega, by omega⟩]
  by_cases h1 : wi side b p < 0
  · have ei : inn side b p = [] := if_neg (by omega)
    rw [if_pos (lt1.mpr h1), if_neg (fun z => absurd (ge1.mp z) (by omega))]
    by_cases h2 : 0 < wi side b q
    · have ex : ix side b p q = [cr side b p q] := if_pos (Or.inl ⟨h1, h2⟩)
      rw [if_pos (gt2.mpr h2), cross_eq hs hb bp bq (Or.inl ⟨h1, h2⟩) (by omega) (by omega) hp hq (by omega), bd3_s, ei, ex]
      refine ⟨_, _, ?_, arr_push hA (cr side b p q)⟩
      simp
    · have ex : ix side b p q = [] := if_neg (by omega)
      rw [if_neg (fun z => h2 (gt2.mp z)), if_pos (le1.mpr (by omega)), ei, ex]
      refine ⟨lx, ly, ?_, ?_⟩
      · simp
      · simpa using hA
  · have ei : inn side b p = [p] := if_pos (by omega)
    rw [if_neg (fun z => h1 (lt1.mp z)), ib_nI (by omega) (by omega), gd_s, gd_s, cl32 (by omega), hp.1, hp.2, leave_eq (by omega), bd3_s, if_pos (ge1.mpr (by omega))]
    have hA2 := arr_push hA p
    have el : acc.length + 1 = (acc ++ [p]).length := by simp
    by_cases h0 : wi side b p = 0
    · have ex : ix side b p q = [] := if_neg (by omega)
      rw [if_pos (le1.mpr (by omega)), ei, ex]
      refine ⟨_, _, ?_, hA2⟩
      simp
    · rw [if_neg (fun z => absurd (le1.mp z) (by omega))]
      by_cases h2 : 0 ≤ wi side b q
      · have ex : ix side b p q = [] := if_neg (by omega)
        rw [if_pos (ge2.mpr h2), ei, ex]
        refine ⟨_, _, ?_, hA2⟩
        simp
      · have hst : strad side b p q := Or.inr ⟨by omega, by omega⟩
        have ex : ix side b p q = [cr side b p q] := if_pos hst
        rw [if_neg (fun z => h2 (ge2.mp z)), cross_eq hs hb bp bq hst (by omega) (by omega) hp hq (by omega), bd3_s, ei, ex]
        have hA3 := arr_push hA2 (cr side b p q)
        rw [← el, List.append_assoc] at hA3
        refine ⟨_, _, ?_, hA3⟩
        simp
theorem em_bnd {side : Nat} (hs : side < 4) {b : Int} (hb : 0 ≤ b ∧ b ≤ 332640) {p q : Pnt} (bp : bnd p) (bq : bnd q) : (∀ z ∈ inn side b p ++ ix side b p q, bnd z) ∧ (inn side b p ++ ix side b p q).length ≤ 2 := by
  unfold inn ix
  by_cases h1 : 0 ≤ wi side b p
  · rw [if_pos h1]
    by_cases h2 : (wi side b p < 0 ∧ 0 < wi side b q) ∨ (0 < wi side b p ∧ wi side b q < 0)
    · rw [if_pos h2]
      refine ⟨fun z hz => ?_, by simp⟩
      rcases List.mem_append.mp hz with h | h
      · rw [List.mem_singleton.mp h]; exact bp
      · rw [List.mem_singleton.mp h]; exact cr_bnd hs hb bp bq h2
    · rw [if_neg h2]
      refine ⟨fun z hz => ?_, by simp⟩
      simp at hz
      rw [hz]; exact bp
  · rw [if_neg h1]
    by_cases h2 : (wi side b p < 0 ∧ 0 < wi side b q) ∨ (0 < wi side b p ∧ wi side b q < 0)
    · rw [if_pos h2]
      refine ⟨fun z hz => ?_, by simp⟩
      simp at hz
      rw [hz]; exact cr_bnd hs hb bp bq h2
    · rw [if_neg h2]
      exact ⟨fun z hz => by simp at hz, by simp⟩
theorem kc_loop {side : Nat} (hs : side < 4) {b : Int} (hb : 0 ≤ b ∧ b ≤ 332640) {px py : Nat → Int64} {pts : List Pnt} {a : Pnt} (ha : pts[0]? = some a) (hA : Arr px py pts) (hB : ∀ p ∈ pts, bnd p) (hn : pts.length ≤ 150) :
    ∀ (suf : List Pnt) (p : Pnt) (k m : Nat) (acc : List Pnt) (lx ly : Nat → Int64), (∀ j q, (p :: suf)[j]? = some q → pts[k + j]? = some q) → k + suf.length + 1 = pts.length → acc.length + 2 * (suf.length + 1) ≤ 300 → suf.length + 1 < m → Arr lx ly acc →
      ∃ lx' ly' : Nat → Int64, L_X3_cutSide_8 px py (nI pts.length) (nI side) (lI b) m (nI k) lx ly (nI acc.length) = some (nI pts.length, lx', ly', nI (acc ++ emP side b p (suf ++ [a])).length) ∧ Arr lx' ly' (acc ++ emP side b p (suf ++ [a])) ∧ (∀ z ∈ emP side b p (suf ++ [a]), bnd z) ∧ (emP side b p (suf ++ [a])).length ≤ 2 * (suf.length + 1) := by
  intro suf
  induction suf with
  | nil =>
    intro p k m acc lx ly h1 h2 h3 h4 h5
    simp only [List.length_nil] at h2 h3 h4
    obtain ⟨m, rfl⟩ : ∃ z, m = z + 1 := ⟨m - 1, by omega⟩
    have hpk : pts[k]? = some p := h1 0 p rfl
    have hk1 : (k + 1) % pts.length = 0 := by
      have : k + 1 = pts.length := by omega
      rw [this, Nat.mod_self]
    have hp := hA k p hpk
    have hq := hA 0 a ha
    obtain ⟨lx2, ly2, e, g⟩ := kc_step (q := a) hs hb hn (k := k) (by omega) hp (by rw [hk1]; exact hq) (hB p (List.mem_of_getElem? hpk)) (hB a (List.mem_of_getElem? ha)) m (acc := acc) (by omega) h5
    have eb := em_bnd hs hb (hB p (List.mem_of_getElem? hpk)) (hB a (List.mem_of_getElem? ha))
    have ee : emP side b p ([] ++ [a]) = inn side b p ++ ix side b p a := by
      show (inn side b p ++ ix side b p a) ++ [] = _
      rw [List.append_nil]
    rw [ee]
    refine ⟨lx2, ly2, ?_, g, eb.1, by simpa using eb.2⟩
    obtain ⟨m, rfl⟩ : ∃ z, m = z + 1 := ⟨m - 1, by omega⟩
    have e3 : k + 1 = pts.length := by omega
    rw [e, L_X3_cutSide_8_s, if_pos (by rw [nI_leI (by omega) (by omega)]; omega), e3]
  | cons q suf ih =>
    intro p k m acc lx ly h1 h2 h3 h4 h5
    simp only [List.length_cons] at h2 h3 h4
    obtain ⟨m, rfl⟩ : ∃ z, m = z + 1 := ⟨m - 1, by omega⟩
    have hpk : pts[k]? = some p := h1 0 p rfl
    have hqk : pts[k + 1]? = some q := h1 1 q rfl
    have hk1 : (k + 1) % pts.length = k + 1 := Nat.mod_eq_of_lt (by omega)
    have bp := hB p (List.mem_of_getElem? hpk)
    have bq := hB q (List.mem_of_getElem? hqk)
    obtain ⟨lx2, ly2, e, g⟩ := kc_step (q := q) hs hb hn (k := k) (by omega) (hA k p hpk) (by rw [hk1]; exact hA _ q hqk) bp bq m (acc := acc) (by omega) h5
    have eb := em_bnd hs hb bp bq
    have el : (acc ++ (inn side b p ++ ix side b p q)).length ≤ acc.length + 2 := by
      rw [List.length_append]
      have := eb.2
      omega
    obtain ⟨lx3, ly3, e3, g3, b3, l3⟩ := ih q (k + 1) m (acc ++ (inn side b p ++ ix side b p q)) lx2 ly2 (fun j z hz => by
      have := h1 (j + 1) z hz
      rw [show k + 1 + j = k + (j + 1) by omega]
      exact this) (by omega) (by omega) (by omega) g
    have ee : emP side b p ((q :: suf) ++ [a]) = (inn side b p ++ ix side b p q) ++ emP side b q (suf ++ [a]) := rfl
    rw [ee]
    rw [List.append_assoc] at e3 g3
    refine ⟨lx3, ly3, e.trans e3, g3, fun z hz => ?_, ?_⟩
    · rcases List.mem_append.mp hz with h | h
      · exact eb.1 z h
      · exact b3 z h
    · rw [List.length_append]
      have := eb.2
      simp only [List.length_cons]
      omega
theorem kc_copy (lx ly : Nat → Int64) (e : Nat) (he : e ≤ 300) : ∀ (d k m : Nat) (px py : Nat → Int64), k + d = e → d < m → ∃ px' py' : Nat → Int64, L_X3_cutSide_120 lx ly (nI e) m (nI k) px py = some (nI e, px', py') ∧ (∀ j, k ≤ j → j < e → px' j = lx j ∧ py' j = ly j) ∧ (∀ j, j < k → px' j = px j ∧ py' j = py j) := by
  intro d
  induction d with
  | zero =>
    intro k m px py h1 h2
    obtain ⟨m, rfl⟩ : ∃ z, m = z + 1 := ⟨m - 1, by omega⟩
    obtain rfl : k = e := by omega
    refine ⟨px, py, ?_, fun j h3 h4 => absurd h4 (by omega), fun j _ => ⟨rfl, rfl⟩⟩
    rw [L_X3_cutSide_120_s, if_pos (by rw [nI_leI (by omega) (by omega)]; omega)]
  | succ d ih =>
    intro k m px py h1 h2
    obtain ⟨m, rfl⟩ : ∃ z, m = z + 1 := ⟨m - 1, by omega⟩
    obtain ⟨px', py', e', g1, g2⟩ := ih (k + 1) m (vp_updL px k (lx k)) (vp_updL py k (ly k)) (by omega) (by omega)
    refine ⟨px', py', ?_, fun j h3 h4 => ?_, fun j h3 => ?_⟩
    · rw [L_X3_cutSide_120_s, if_neg (by rw [nI_leI (by omega) (by omega)]; omega), ib_nI (by omega) (by omega), gd_s, gd_s, gd_s, gd_s, cl32 (by omega), lit32, nI_add]
      exact e'
    · by_cases q : j = k
      · subst q
        obtain ⟨x, y⟩ := g2 j (by omega)
        exact ⟨x.trans pk_uLs, y.trans pk_uLs⟩
      · exact g1 j (by omega) h4
    · obtain ⟨x, y⟩ := g2 j (by omega)
      exact ⟨x.trans (pk_uLn (by omega)), y.trans (pk_uLn (by omega))⟩
/-- cutSide cuts -/
theorem kc_eq {side : Nat} (hs : side < 4) {b : Int} (hb : 0 ≤ b ∧ b ≤ 332640) {px py : Nat → Int64} {pts : List Pnt} (hA : Arr px py pts) (hB : ∀ p ∈ pts, bnd p) (hn : pts.length ≤ 150) (lx ly : Nat → Int64) :
    ∃ (px' py' lx' ly' : Nat → Int64) (lf' : Int32), P_X3_cutSide (nI side) (lI b) px py (nI pts.length) lx ly = some (px', py', nI (cutL side b pts).length, lx', ly', lf') ∧ Arr px' py' (cutL side b pts) ∧ (∀ z ∈ cutL side b pts, bnd z) ∧ (cutL side b pts).length ≤ 2 * pts.length := by
  have key : ∃ lx' ly' : Nat → Int64, L_X3_cutSide_8 px py (nI pts.length) (nI side) (lI b) 1000 (nI 0) lx ly (nI 0) = some (nI pts.length, lx', ly', nI (cutL side b pts).length) ∧ Arr lx' ly' (cutL side b pts) ∧ (∀ z ∈ cutL side b pts, bnd z) ∧ (cutL side b pts).length ≤ 2 * pts.length := by
    cases pts with
    | nil =>
      refine ⟨lx, ly, ?_, fun k p h => by simp [cutL] at h, fun z hz => by simp [cutL] at hz, by simp [cutL]⟩
      rw [show (1000 : Nat) = 999 + 1 from rfl, L_X3_cutSide_8_s, if_pos (by decide)]
      rfl
    | cons a t =>
      obtain ⟨lx', ly', e, g1, g2, g3⟩ := kc_loop hs hb (pts := a :: t) (a := a) rfl hA hB hn t a 0 1000 [] lx ly (fun j q h => by rw [Nat.zero_add]; exact h) (by simp) (by simp at hn ⊢; omega) (by simp at hn; omega) (fun k p h => by simp at h)
      refine ⟨lx', ly', ?_, ?_, g2, ?_⟩
      · exact e
      · exact g1
      · exact g3
  obtain ⟨lx', ly', e, g1, g2, g3⟩ := key
  obtain ⟨px', py', e2, h1, -⟩ := kc_copy lx' ly' (cutL side b pts).length (by omega) (cutL side b pts).length 0 1000 px py (by omega) (by omega)
  refine ⟨px', py', lx', ly', nI (cutL side b pts).length, ?_, fun k p hk => ?_, g2, g3⟩
  · unfold P_X3_cutSide
    have q : (0 : Int32) = nI 0 := rfl
    rw [q, e, bd4_s, e2, bd3_s]
  · have hl := (List.getElem?_eq_some_iff.mp hk).1
    rw [(h1 k (Nat.zero_le k) hl).1, (h1 k (Nat.zero_le k) hl).2]
    exact g1 k p hk
