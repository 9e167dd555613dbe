/-! a dot that the path doesn't reach -/
theorem lin_pos {A B H t : Int} (ha : 0 ≤ A) (hb : 0 ≤ B) (ht : 0 ≤ t) (hH : t ≤ H) : 0 ≤ A * H + (B - A) * t := by
  have h1 := Int.mul_nonneg ha (show 0 ≤ H - t by omega)
  have h2 := Int.mul_nonneg hb ht
  have e : A * H + (B - A) * t = A * (H - t) + B * t := by grind
  omega
theorem lin_neg {A B H t : Int} (ha : A ≤ 0) (hb : B ≤ 0) (ht : 0 ≤ t) (hH : t ≤ H) : A * H + (B - A) * t ≤ 0 := by
  have h1 := lin_pos (A := -A) (B := -B) (H := H) (t := t) (by omega) (by omega) ht hH
  have e : (-A) * H + (-B - -A) * t = -(A * H + (B - A) * t) := by grind
  omega
theorem beI_0 {low high width height band : Int} (h1 : low ≤ 0) (h2 : high ≤ 0) : beI low high width height band = 0 := by
  unfold beI
  rw [if_pos (Or.inr ⟨h1, h2⟩)]
theorem beI_f {low high width height band : Int} (hh : 0 < height) (h1 : 0 ≤ low) (h2 : 0 ≤ high) : beI low high width height band = (27720 * (low + high) * band).tdiv height := by
  by_cases h : low ≤ 0 ∧ high ≤ 0
  · have e : low + high = 0 := by omega
    rw [beI_0 h.1 h.2, e, Int.mul_zero, Int.zero_mul, Int.zero_tdiv]
  · unfold beI
    rw [if_neg (by omega), if_pos ⟨h1, h2⟩]
theorem mm_f {y1 y2 b : Int} : (y1 ≤ mxI y1 b ∧ b ≤ mxI y1 b) ∧ (mxI y1 b = y1 ∨ mxI y1 b = b) ∧ (mnI y2 (b + 3) ≤ y2 ∧ mnI y2 (b + 3) ≤ b + 3) ∧ (mnI y2 (b + 3) = y2 ∨ mnI y2 (b + 3) = b + 3) := by
  unfold mxI mnI
  refine ⟨?_, ?_, ?_, ?_⟩
  all_goals repeat' split
  all_goals omega
theorem leI_left {x1 y1 x2 y2 l b : Int} (h1 : x1 ≤ l) (h2 : x2 ≤ l) (hy : y1 < y2) : leI x1 y1 x2 y2 l b = 0 := by
  have hm := mm_f (y1 := y1) (y2 := y2) (b := b)
  unfold leI
  generalize mxI y1 b = M at *
  generalize mnI y2 (b + 3) = N at *
  by_cases h : N ≤ M
  · rw [if_pos h]
  · have ex : x2 - x1 = (x2 - l) - (x1 - l) := by omega
    have q1 := lin_neg (A := x1 - l) (B := x2 - l) (H := y2 - y1) (t := M - y1) (by omega) (by omega) (by omega) (by omega)
    have q2 := lin_neg (A := x1 - l) (B := x2 - l) (H := y2 - y1) (t := N - y1) (by omega) (by omega) (by omega) (by omega)
    rw [← ex] at q1 q2
    rw [if_neg h, beI_0 q1 q2, beI_0 (by omega) (by omega)]
    rfl
theorem leI_right {x1 y1 x2 y2 l b : Int} (h1 : l + 3 ≤ x1) (h2 : l + 3 ≤ x2) (hy : y1 < y2) : leI x1 y1 x2 y2 l b = 166320 * (kap b (b + 3) y2 - kap b (b + 3) y1) := by
  have hm := mm_f (y1 := y1) (y2 := y2) (b := b)
  have hk : kap b (b + 3) y2 - kap b (b + 3) y1 = if mnI y2 (b + 3) ≤ mxI y1 b then 0 else mnI y2 (b + 3) - mxI y1 b := by
    generalize mxI y1 b = M at *
    generalize mnI y2 (b + 3) = N at *
    unfold kap
    repeat' split
    all_goals omega
  rw [hk]
  unfold leI
  generalize mxI y1 b = M at *
  generalize mnI y2 (b + 3) = N at *
  by_cases h : N ≤ M
  · rw [if_pos h, if_pos h]
    rfl
  · have ex : x2 - x1 = (x2 - l - 3) - (x1 - l - 3) := by omega
    have q1 := lin_pos (A := x1 - l - 3) (B := x2 - l - 3) (H := y2 - y1) (t := M - y1) (by omega) (by omega) (by omega) (by omega)
    have q2 := lin_pos (A := x1 - l - 3) (B := x2 - l - 3) (H := y2 - y1) (t := N - y1) (by omega) (by omega) (by omega) (by omega)
    rw [← ex] at q1 q2
    have e1 : (x1 - l) * (y2 - y1) + (x2 - x1) * (M - y1) = ((x1 - l - 3) * (y2 - y1) + (x2 - x1) * (M - y1)) + 3 * (y2 - y1) := by grind
    have e2 : (x1 - l) * (y2 - y1) + (x2 - x1) * (N - y1) = ((x1 - l - 3) * (y2 - y1) + (x2 - x1) * (N - y1)) + 3 * (y2 - y1) := by grind
    rw [if_neg h, if_neg h, e1, e2]
    generalize (x1 - l - 3) * (y2 - y1) + (x2 - x1) * (M - y1) = P at *
    generalize (x1 - l - 3) * (y2 - y1) + (x2 - x1) * (N - y1) = Q at *
    generalize hH : y2 - y1 = H at *
    have hH0 : 0 < H := by omega
    rw [beI_f hH0 (by omega) (by omega), show P + 3 * H - 3 * H = P by omega, show Q + 3 * H - 3 * H = Q by omega, beI_f hH0 q1 q2]
    have hB : 0 ≤ N - M := by omega
    generalize N - M = B at *
    have g1 : 0 ≤ 27720 * (P + Q) * B := Int.mul_nonneg (by omega) hB
    have g2 : 0 ≤ 27720 * (P + 3 * H + (Q + 3 * H)) * B := Int.mul_nonneg (by omega) hB
    have g3 : 27720 * (P + 3 * H + (Q + 3 * H)) * B = 27720 * (P + Q) * B + (166320 * B) * H := by grind
    rw [Int.tdiv_eq_ediv_of_nonneg g1, Int.tdiv_eq_ediv_of_nonneg g2, g3, Int.add_mul_ediv_right _ _ (by omega)]
    omega
theorem leI_low {x1 y1 x2 y2 l b : Int} (h2 : y2 ≤ b) : leI x1 y1 x2 y2 l b = 0 := by
  have hm := mm_f (y1 := y1) (y2 := y2) (b := b)
  unfold leI
  rw [if_pos (by omega)]
theorem leI_high {x1 y1 x2 y2 l b : Int} (h1 : b + 3 ≤ y1) : leI x1 y1 x2 y2 l b = 0 := by
  have hm := mm_f (y1 := y1) (y2 := y2) (b := b)
  unfold leI
  rw [if_pos (by omega)]
theorem edI_0 {x1 y1 x2 y2 l b : Int} (h1 : y1 < y2 → leI x1 y1 x2 y2 l b = 0) (h2 : y2 < y1 → leI x2 y2 x1 y1 l b = 0) : edI x1 y1 x2 y2 l b = 0 := by
  unfold edI
  by_cases q1 : y1 < y2
  · rw [if_pos q1, h1 q1]
  · rw [if_neg q1]
    by_cases q2 : y2 < y1
    · rw [if_pos q2, h2 q2]
      rfl
    · rw [if_neg q2]
theorem edI_right {x1 y1 x2 y2 l b : Int} (h1 : l + 3 ≤ x1) (h2 : l + 3 ≤ x2) : edI x1 y1 x2 y2 l b = 166320 * (kap b (b + 3) y2 - kap b (b + 3) y1) := by
  unfold edI
  by_cases q1 : y1 < y2
  · rw [if_pos q1, leI_right h1 h2 q1]
  · rw [if_neg q1]
    by_cases q2 : y2 < y1
    · rw [if_pos q2, leI_right h2 h1 q2]
      omega
    · rw [if_neg q2]
      obtain rfl : y1 = y2 := by omega
      omega
theorem csum_cg {f g : Pnt → Pnt → Int} (l : List Pnt) (h : ∀ p ∈ l, ∀ q ∈ l, f p q = g p q) : csum f l = csum g l := by
  have q := csum_map (f := f) (g := g) (s := id) (k := 1) l (fun p hp q hq => by
    show f p q = 1 * g p q
    rw [Int.one_mul]
    exact h p hp q hq)
  rw [List.map_id, Int.one_mul] at q
  exact q
theorem csum_0 (l : List Pnt) : csum (fun _ _ => 0) l = 0 := by
  have q := csum_map (f := fun _ _ => 0) (g := fun _ _ => 0) (s := id) (k := 0) l (fun p hp q hq => rfl)
  rw [List.map_id, Int.zero_mul] at q
  exact q
theorem ptl_of {xs ys : Nat → Int32} {n : Nat} {p : Pnt} (h : p ∈ ptl xs ys n) : ∃ k, k < n ∧ p = ((xs k).toInt, (ys k).toInt) := by
  unfold ptl at h
  obtain ⟨k, hk, e⟩ := List.mem_map.mp h
  exact ⟨k, List.mem_range.mp hk, e.symm⟩
theorem RW_out {xs ys : Nat → Int32} {n d : Nat} {dx dy : Int} (h : (∀ k, k < n → (xs k).toInt + dx ≤ 3 * ((d % 4 : Nat) : Int)) ∨ (∀ k, k < n → 3 * ((d % 4 : Nat) : Int) + 3 ≤ (xs k).toInt + dx) ∨ (∀ k, k < n → (ys k).toInt + dy ≤ 3 * ((d / 4 : Nat) : Int)) ∨ (∀ k, k < n → 3 * ((d / 4 : Nat) : Int) + 3 ≤ (ys k).toInt + dy)) : RW xs ys n d dx dy = 0 := by
  unfold RW
  generalize 3 * ((d % 4 : Nat) : Int) = L at *
  generalize 3 * ((d / 4 : Nat) : Int) = B at *
  rcases h with h | h | h | h
  · refine (csum_cg (g := fun _ _ => 0) _ (fun p hp q hq => ?_)).trans (csum_0 _)
    obtain ⟨k, hk, rfl⟩ := ptl_of hp
    obtain ⟨j, hj, rfl⟩ := ptl_of hq
    have h1 := h k hk
    have h2 := h j hj
    exact edI_0 (fun hy => leI_left (by omega) (by omega) hy) (fun hy => leI_left (by omega) (by omega) hy)
  · refine (csum_cg (g := fun p q => (fun _ _ => 0) p q + 166320 * ((fun z : Pnt => kap (B - dy) (B - dy + 3) z.2) q - (fun z : Pnt => kap (B - dy) (B - dy + 3) z.2) p)) _ (fun p hp q hq => ?_)).trans ((csum_tel (fun _ _ => 0) (fun z : Pnt => kap (B - dy) (B - dy + 3) z.2) 166320 _).trans (csum_0 _))
    obtain ⟨k, hk, rfl⟩ := ptl_of hp
    obtain ⟨j, hj, rfl⟩ := ptl_of hq
    have h1 := h k hk
    have h2 := h j hj
    show edI _ _ _ _ _ _ = 0 + 166320 * (kap (B - dy) (B - dy + 3) (ys j).toInt - kap (B - dy) (B - dy + 3) (ys k).toInt)
    rw [edI_right (by omega) (by omega), Int.zero_add]
  · refine (csum_cg (g := fun _ _ => 0) _ (fun p hp q hq => ?_)).trans (csum_0 _)
    obtain ⟨k, hk, rfl⟩ := ptl_of hp
    obtain ⟨j, hj, rfl⟩ := ptl_of hq
    have h1 := h k hk
    have h2 := h j hj
    exact edI_0 (fun hy => leI_low (by omega)) (fun hy => leI_low (by omega))
  · refine (csum_cg (g := fun _ _ => 0) _ (fun p hp q hq => ?_)).trans (csum_0 _)
    obtain ⟨k, hk, rfl⟩ := ptl_of hp
    obtain ⟨j, hj, rfl⟩ := ptl_of hq
    have h1 := h k hk
    have h2 := h j hj
    exact edI_0 (fun hy => leI_high (by omega)) (fun hy => leI_high (by omega))
/-- is a dot wholly covered, the path moved -/
def fuN (xs ys : Nat → Int32) (n : Nat) (fo : Int32) (dx dy : Int) (d : Nat) : Nat := if cvN fo (RW xs ys n d dx dy).natAbs = 498960 then 1 else 0
theorem fuN_le (xs ys : Nat → Int32) (n : Nat) (fo : Int32) (dx dy : Int) (d : Nat) : fuN xs ys n fo dx dy d ≤ 1 := by
  unfold fuN
  split <;> omega
theorem fuN_out {xs ys : Nat → Int32} {n d : Nat} {dx dy : Int} (fo : Int32) (h : RW xs ys n d dx dy = 0) : fuN xs ys n fo dx dy d = 0 := by
  unfold fuN cvN
  rw [h]
  by_cases hf : fo = 0
  · rw [if_pos hf]; rfl
  · rw [if_neg hf]; rfl
def smN (g : Nat → Nat) : Nat → Nat → Nat
  | 0, _ => 0
  | e + 1, k => g k + smN g e (k + 1)
theorem smN_0 {g : Nat → Nat} : ∀ (e k : Nat), (∀ c, k ≤ c → c < k + e → g c = 0) → smN g e k = 0
  | 0, _, _ => rfl
  | e + 1, k, h => by
    unfold smN
    rw [h k (by omega) (by omega), smN_0 e (k + 1) (fun c h1 h2 => h c (by omega) (by omega))]
theorem smN_le {g : Nat → Nat} {M : Nat} (h : ∀ c, g c ≤ M) : ∀ (e k : Nat), smN g e k ≤ e * M
  | 0, _ => by unfold smN; omega
  | e + 1, k => by
    unfold smN
    have h1 := h k
    have h2 := smN_le h e (k + 1)
    rw [Nat.succ_mul]
    omega
theorem smN_skip {g : Nat → Nat} {c0 : Nat} (h0 : c0 ≤ 4) (h : ∀ c, c < c0 → g c = 0) : smN g (4 - c0) c0 = smN g 4 0 := by
  have e4 : smN g 4 0 = g 0 + (g 1 + (g 2 + (g 3 + 0))) := rfl
  rw [e4]
  match c0, h0, h with
  | 0, _, h => rfl
  | 1, _, h => rw [h 0 (by omega)]; show g 1 + (g 2 + (g 3 + 0)) = _; omega
  | 2, _, h => rw [h 0 (by omega), h 1 (by omega)]; show g 2 + (g 3 + 0) = _; omega
  | 3, _, h => rw [h 0 (by omega), h 1 (by omega), h 2 (by omega)]; show g 3 + 0 = _; omega
  | 4, _, h => rw [h 0 (by omega), h 1 (by omega), h 2 (by omega), h 3 (by omega)]; rfl
theorem smN_44 (g : Nat → Nat) : smN (fun r => smN (fun c => g (4 * r + c)) 4 0) 4 0 = smN g 16 0 := by
  have e1 : smN (fun r => smN (fun c => g (4 * r + c)) 4 0) 4 0 = (g 0 + (g 1 + (g 2 + (g 3 + 0)))) + ((g 4 + (g 5 + (g 6 + (g 7 + 0)))) + ((g 8 + (g 9 + (g 10 + (g 11 + 0)))) + ((g 12 + (g 13 + (g 14 + (g 15 + 0)))) + 0))) := rfl
  have e2 : smN g 16 0 = g 0 + (g 1 + (g 2 + (g 3 + (g 4 + (g 5 + (g 6 + (g 7 + (g 8 + (g 9 + (g 10 + (g 11 + (g 12 + (g 13 + (g 14 + (g 15 + 0))))))))))))))) := rfl
  rw [e1, e2]
  omega
