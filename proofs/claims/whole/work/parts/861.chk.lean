/-- one edge, the dot at the origin (the edges one by one: a late part) -/
theorem chk_all {u1 v1 u2 v2 : Int} {s t : Int} (hs : s = 0 ∨ s = 3 ∨ s = 6 ∨ s = 9) (ht : t = 0 ∨ t = 3 ∨ t = 6 ∨ t = 9) (h1 : 0 ≤ u1 + s ∧ u1 + s ≤ 12) (h2 : 0 ≤ u2 + s ∧ u2 + s ≤ 12) (h3 : 0 ≤ v1 + t ∧ v1 + t ≤ 12) (h4 : 0 ≤ v2 + t ∧ v2 + t ≤ 12) : ps0 0 83160 0 83160 (27720 * u1, 27720 * v1) (27720 * u2, 27720 * v2) = 27720 * edI u1 v1 u2 v2 0 0 := by
  sorry
