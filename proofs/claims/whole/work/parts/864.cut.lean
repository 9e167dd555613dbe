/-! the model's cut is the cut of the list -/
def bnd (p : Pnt) : Prop := (0 ≤ p.1 ∧ p.1 ≤ 332640) ∧ (0 ≤ p.2 ∧ p.2 ≤ 332640)
/-- rows that hold a list of places -/
def Arr (px py : Nat → Int64) (l : List Pnt) : Prop := ∀ (k : Nat) (p : Pnt), l[k]? = some p → px k = lI p.1 ∧ py k = lI p.2
theorem btw {t D d : Int} (hD : 0 < D) (h0 : 0 ≤ t) (h1 : t ≤ D) : (0 ≤ d → 0 ≤ (t * d).tdiv D ∧ (t * d).tdiv D ≤ d) ∧ (d ≤ 0 → d ≤ (t * d).tdiv D ∧ (t * d).tdiv D ≤ 0) := by
  have pos : ∀ e : Int, 0 ≤ e → 0 ≤ (t * e).tdiv D ∧ (t * e).tdiv D ≤ e := by
    intro e he
    have hm : 0 ≤ t * e := Int.mul_nonneg h0 he
    rw [Int.tdiv_eq_ediv_of_nonneg hm]
    refine ⟨Int.ediv_nonneg hm (by omega), ?_⟩
    apply Int.ediv_le_of_le_mul hD
    rw [Int.mul_comm e D]
    exact Int.mul_le_mul_of_nonneg_right h1 he
  refine ⟨pos d, fun hd => ?_⟩
  have h := pos (-d) (by omega)
  have e : t * d = -(t * -d) := by rw [Int.mul_neg, Int.neg_neg]
  rw [e, Int.neg_tdiv]
  omega
theorem btw2 {t D d : Int} (h : (0 < D ∧ 0 ≤ t ∧ t ≤ D) ∨ (D < 0 ∧ t ≤ 0 ∧ D ≤ t)) : (0 ≤ d → 0 ≤ (t * d).tdiv D ∧ (t * d).tdiv D ≤ d) ∧ (d ≤ 0 → d ≤ (t * d).tdiv D ∧ (t * d).tdiv D ≤ 0) := by
  rcases h with ⟨a, b, c⟩ | ⟨a, b, c⟩
  · exact btw a b c
  · have h := btw (t := -t) (D := -D) (d := d) (by omega) (by omega) (by omega)
    rw [Int.neg_mul, Int.neg_tdiv_neg] at h
    exact h
/-- p and q lie on two sides of a bound -/
def strad (side : Nat) (b : Int) (p q : Pnt) : Prop := (wi side b p < 0 ∧ 0 < wi side b q) ∨ (0 < wi side b p ∧ wi side b q < 0)
theorem cr_bnd {side : Nat} (hs : side < 4) {b : Int} (hb : 0 ≤ b ∧ b ≤ 332640) {p q : Pnt} (hp : bnd p) (hq : bnd q) (h : strad side b p q) : bnd (cr side b p q) := by
  obtain ⟨p1, p2⟩ := p
  obtain ⟨q1, q2⟩ := q
  obtain ⟨a1, a2⟩ := hp
  obtain ⟨a3, a4⟩ := hq
  simp only at a1 a2 a3 a4
  unfold strad at h
  rcases (show side = 0 ∨ side = 1 ∨ side = 2 ∨ side = 3 by omega) with rfl | rfl | rfl | rfl
  · simp only [wi] at h
    have hh := btw2 (t := b - p1) (D := q1 - p1) (d := q2 - p2) (by omega)
    refine ⟨hb, ?_⟩
    show 0 ≤ p2 + ((b - p1) * (q2 - p2)).tdiv (q1 - p1) ∧ p2 + ((b - p1) * (q2 - p2)).tdiv (q1 - p1) ≤ 332640
    rcases Int.le_total 0 (q2 - p2) with g | g
    · have := hh.1 g; omega
    · have := hh.2 g; omega
  · simp only [wi] at h
    have hh := btw2 (t := b - p1) (D := q1 - p1) (d := q2 - p2) (by omega)
    refine ⟨hb, ?_⟩
    show 0 ≤ p2 + ((b - p1) * (q2 - p2)).tdiv (q1 - p1) ∧ p2 + ((b - p1) * (q2 - p2)).tdiv (q1 - p1) ≤ 332640
    rcases Int.le_total 0 (q2 - p2) with g | g
    · have := hh.1 g; omega
    · have := hh.2 g; omega
  · simp only [wi] at h
    have hh := btw2 (t := b - p2) (D := q2 - p2) (d := q1 - p1) (by omega)
    refine ⟨?_, hb⟩
    show 0 ≤ p1 + ((b - p2) * (q1 - p1)).tdiv (q2 - p2) ∧ p1 + ((b - p2) * (q1 - p1)).tdiv (q2 - p2) ≤ 332640
    rcases Int.le_total 0 (q1 - p1) with g | g
    · have := hh.1 g; omega
    · have := hh.2 g; omega
  · simp only [wi] at h
    have hh := btw2 (t := b - p2) (D := q2 - p2) (d := q1 - p1) (by omega)
    refine ⟨?_, hb⟩
    show 0 ≤ p1 + ((b - p2) * (q1 - p1)).tdiv (q2 - p2) ∧ p1 + ((b - p2) * (q1 - p1)).tdiv (q2 - p2) ≤ 332640
    rcases Int.le_total 0 (q1 - p1) with g | g
    · have := hh.1 g; omega
    · have := hh.2 g; omega
theorem mulB {a b A B : Int} (hA : 0 ≤ A) (hB : 0 ≤ B) (h1 : -A ≤ a) (h2 : a ≤ A) (h3 : -B ≤ b) (h4 : b ≤ B) : -(A * B) ≤ a * b ∧ a * b ≤ A * B := by
  have e : (a * b).natAbs ≤ A.natAbs * B.natAbs := by
    rw [Int.natAbs_mul]
    exact Nat.mul_le_mul (by omega) (by omega)
  have e2 : (A * B).natAbs = A.natAbs * B.natAbs := Int.natAbs_mul A B
  have e3 : 0 ≤ A * B := Int.mul_nonneg hA hB
  omega
theorem z64 : (0 : Int64) = lI 0 := by decide
theorem wi_r {side : Nat} (hs : side < 4) {b : Int} (hb : 0 ≤ b ∧ b ≤ 332640) {p : Pnt} (hp : bnd p) : -332640 ≤ wi side b p ∧ wi side b p ≤ 332640 := by
  obtain ⟨p1, p2⟩ := p
  obtain ⟨a1, a2⟩ := hp
  simp only at a1 a2
  rcases (show side = 0 ∨ side = 1 ∨ side = 2 ∨ side = 3 by omega) with rfl | rfl | rfl | rfl <;> simp only [wi] <;> omega
theorem within_eq {side : Nat} (hs : side < 4) {b : Int} {p : Pnt} {px py : Nat → Int64} {k : Nat} (hk : k < 300) (h : px k = lI p.1 ∧ py k = lI p.2) : P_X3_within (nI k) (nI side) (lI b) px py = some (lI (wi side b p)) := by
  unfold P_X3_within
  rw [ib_nI hk (by omega), gd_s, gd_s, gd_s, gd_s, cl32 (by omega), h.1, h.2, lI_sub, lI_sub, lI_sub, lI_sub]
  rcases (show side = 0 ∨ side = 1 ∨ side = 2 ∨ side = 3 by omega) with rfl | rfl | rfl | rfl
  · rw [if_pos (by decide)]; rfl
  · rw [if_neg (by decide), if_pos (by decide)]; rfl
  · rw [if_neg (by decide), if_neg (by decide), if_pos (by decide)]; rfl
  · rw [if_neg (by decide), if_neg (by decide), if_neg (by decide)]; rfl
theorem leave_eq {e : Nat} (he : e < 300) (x y : Int64) (lx ly : Nat → Int64) : P_X3_leave x y lx ly (nI e) = some (vp_updL lx e x, vp_updL ly e y, nI (e + 1)) := by
  unfold P_X3_leave
  rw [ib_nI he (by omega), gd_s, gd_s, nm_s, cl32 (by omega), lit32, nI_add]
theorem cross_eq {side : Nat} (hs : side < 4) {b : Int} (hb : 0 ≤ b ∧ b ≤ 332640) {p q : Pnt} (hp : bnd p) (hq : bnd q) (hst : strad side b p q) {px py : Nat → Int64} {k k' : Nat} (hk : k < 300) (hk' : k' < 300) (h : px k = lI p.1 ∧ py k = lI p.2) (h' : px k' = lI q.1 ∧ py k' = lI q.2) {e : Nat} (he : e < 300) (lx ly : Nat → Int64) :
    P_X3_leaveCrossing (nI k) (nI k') (nI side) (lI b) px py lx ly (nI e) = some (vp_updL lx e (lI (cr side b p q).1), vp_updL ly e (lI (cr side b p q).2), nI (e + 1)) := by
  obtain ⟨p1, p2⟩ := p
  obtain ⟨q1, q2⟩ := q
  obtain ⟨a1, a2⟩ := hp
  obtain ⟨a3, a4⟩ := hq
  simp only at a1 a2 a3 a4 h h'
  unfold P_X3_leaveCrossing
  rw [ib_nI hk (by omega), ib_nI hk' (by omega), cl32 (by omega), cl32 (by omega), h.1, h.2, h'.1, h'.2]
  simp only [gd_s]
  unfold strad at hst
  have hx : ∀ t u v : Int, -332640 ≤ t → t ≤ 332640 → -332640 ≤ u → u ≤ 332640 → -665280 ≤ v → v ≤ 665280 → v ≠ -1 → lI t * lI u / lI v = lI ((t * u).tdiv v) := by
    intro t u v t1 t2 u1 u2 v1 v2 v3
    have := mulB (A := 332640) (B := 332640) (by decide) (by decide) t1 t2 u1 u2
    rw [lI_mul, lI_div (by omega) ⟨by omega, by omega⟩ v3]
  have hn : ∀ v : Int, -665280 ≤ v → v ≤ 665280 → v ≠ 0 → nzl (lI v) = true := by
    intro v v1 v2 v3
    refine decide_eq_true (fun h0 => v3 ?_)
    rw [z64, lI_eq ⟨by omega, by omega⟩ ⟨by omega, by omega⟩] at h0
    exact h0
  rw [lI_sub q2 p2, lI_sub q1 p1, lI_sub b p2, lI_sub b p1]
  rcases (show side = 0 ∨ side = 1 ∨ side = 2 ∨ side = 3 by omega) with rfl | rfl | rfl | rfl
  · simp only [wi] at hst
    rw [if_neg (by decide), hn _ (by omega) (by omega) (by omega), hx _ _ _ (by omega) (by omega) (by omega) (by omega) (by omega) (by omega) (by omega), lI_add, leave_eq he, gd_s, bd3_s]
    rfl
  · simp only [wi] at hst
    rw [if_neg (by decide), hn _ (by omega) (by omega) (by omega), hx _ _ _ (by omega) (by omega) (by omega) (by omega) (by omega) (by omega) (by omega), lI_add, leave_eq he, gd_s, bd3_s]
    rfl
  · simp only [wi] at hst
    rw [if_pos (by decide), hn _ (by omega) (by omega) (by omega), hx _ _ _ (by omega) (by omega) (by omega) (by omega) (by omega) (by omega) (by omega), lI_add, leave_eq he, gd_s, bd3_s]
    rfl
  · simp only [wi] at hst
    rw [if_pos (by decide), hn _ (by omega) (by omega) (by omega), hx _ _ _ (by omega) (by omega) (by omega) (by omega) (by omega) (by omega) (by omega), lI_add, leave_eq he, gd_s, bd3_s]
    rfl
theorem arr_push {lx ly : Nat → Int64} {acc : List Pnt} (h : Arr lx ly acc) (p : Pnt) : Arr (vp_updL lx acc.length (lI p.1)) (vp_updL ly acc.length (lI p.2)) (acc ++ [p]) := by
  intro k q hq
  by_cases hk : k = acc.length
  · subst hk
    rw [List.getElem?_append_right (Nat.le_refl _)] at hq
    simp at hq
    subst hq
    exact ⟨pk_uLs, pk_uLs⟩
  · have hlt : k < acc.length := by
      have := (List.getElem?_eq_some_iff.mp hq).1
      rw [List.length_append] at this
      simp at this
      omega
    rw [List.getElem?_append_left hlt] at hq
    rw [pk_uLn hk, pk_uLn hk]
    exact h k q hq
