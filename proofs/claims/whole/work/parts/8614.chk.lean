theorem rng_mem : ∀ (n : Nat) (a x : Int), a ≤ x → x < a + (n : Int) → x ∈ rngI a n
  | 0, a, x, h1, h2 => absurd h2 (by omega)
  | n + 1, a, x, h1, h2 => by
    unfold rngI
    by_cases h : x = a
    · rw [h]; exact List.mem_cons_self
    · exact List.mem_cons_of_mem _ (rng_mem n (a + 1) x (by omega) (by omega))
theorem ck_u {u : Int} (h : -9 ≤ u ∧ u ≤ 12) : ckU u = true := by
  rcases (by omega : u = -9 ∨ u = -8 ∨ u = -7 ∨ u = -6 ∨ u = -5 ∨ u = -4 ∨ u = -3 ∨ u = -2 ∨ u = -1 ∨ u = 0 ∨ u = 1 ∨ u = 2 ∨ u = 3 ∨ u = 4 ∨ u = 5 ∨ u = 6 ∨ u = 7 ∨ u = 8 ∨ u = 9 ∨ u = 10 ∨ u = 11 ∨ u = 12) with rfl | rfl | rfl | rfl | rfl | rfl | rfl | rfl | rfl | rfl | rfl | rfl | rfl | rfl | rfl | rfl | rfl | rfl | rfl | rfl | rfl | rfl
  · exact chk_m9
  · exact chk_m8
  · exact chk_m7
  · exact chk_m6
  · exact chk_m5
  · exact chk_m4
  · exact chk_m3
  · exact chk_m2
  · exact chk_m1
  · exact chk_p0
  · exact chk_p1
  · exact chk_p2
  · exact chk_p3
  · exact chk_p4
  · exact chk_p5
  · exact chk_p6
  · exact chk_p7
  · exact chk_p8
  · exact chk_p9
  · exact chk_p10
  · exact chk_p11
  · exact chk_p12
theorem lo_b (u : Int) : -9 ≤ loN u ∧ loN u ≤ 0 := by
  unfold loN
  repeat' split
  all_goals omega
theorem hi_b (u : Int) : 3 ≤ hiN u ∧ hiN u ≤ 12 := by
  unfold hiN
  repeat' split
  all_goals omega
theorem lohi {s u w : Int} (hs : s = 0 ∨ s = 3 ∨ s = 6 ∨ s = 9) (h1 : 0 ≤ u + s ∧ u + s ≤ 12) (h2 : 0 ≤ w + s ∧ w + s ≤ 12) : w ∈ rngI (loN u) (hiN u - loN u + 1).toNat := by
  have a := lo_b u
  have b := hi_b u
  have c : loN u ≤ w ∧ w ≤ hiN u := by
    unfold loN hiN
    constructor
    all_goals repeat' split
    all_goals omega
  exact rng_mem _ _ _ c.1 (by omega)
/-- one edge, the dot at the origin -/
theorem chk_all {u1 v1 u2 v2 : Int} {s t : Int} (hs : s = 0 ∨ s = 3 ∨ s = 6 ∨ s = 9) (ht : t = 0 ∨ t = 3 ∨ t = 6 ∨ t = 9) (h1 : 0 ≤ u1 + s ∧ u1 + s ≤ 12) (h2 : 0 ≤ u2 + s ∧ u2 + s ≤ 12) (h3 : 0 ≤ v1 + t ∧ v1 + t ≤ 12) (h4 : 0 ≤ v2 + t ∧ v2 + t ≤ 12) : ps0 0 83160 0 83160 (27720 * u1, 27720 * v1) (27720 * u2, 27720 * v2) = 27720 * edI u1 v1 u2 v2 0 0 := by
  have q := ck_u (u := u1) (by omega)
  unfold ckU at q
  have q2 := List.all_eq_true.mp (List.all_eq_true.mp (List.all_eq_true.mp q u2 (lohi hs h1 h2)) v1 (rng_mem 22 (-9) v1 (by omega) (by omega))) v2 (lohi ht h3 h4)
  unfold ckE at q2
  exact of_decide_eq_true q2
