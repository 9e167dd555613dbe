/-! sums over the edges of a closed path, and what a cut does to them -/
def psum (f : Pnt → Pnt → Int) : Pnt → List Pnt → Int
  | _, [] => 0
  | x, y :: t => f x y + psum f y t
def lastP : Pnt → List Pnt → Pnt
  | x, [] => x
  | _, y :: t => lastP y t
theorem psum_app (f : Pnt → Pnt → Int) (m : List Pnt) : ∀ (l : List Pnt) (x : Pnt), psum f x (l ++ m) = psum f x l + psum f (lastP x l) m
  | [], x => by simp [psum, lastP]
  | y :: t, x => by
    show f x y + psum f y (t ++ m) = f x y + psum f y t + psum f (lastP y t) m
    rw [psum_app f m t y, Int.add_assoc]
theorem lastP_app (m : List Pnt) : ∀ (l : List Pnt) (x : Pnt), lastP x (l ++ m) = lastP (lastP x l) m
  | [], _ => rfl
  | y :: t, _ => lastP_app m t y
/-- the sum over all edges of the closed path -/
def csum (f : Pnt → Pnt → Int) (l : List Pnt) : Int := match l with
  | [] => 0
  | a :: t => psum f a (t ++ [a])
theorem csum_rot (f : Pnt → Pnt → Int) (a : Pnt) (m : List Pnt) : csum f (a :: m) = csum f (m ++ [a]) := by
  cases m with
  | nil => rfl
  | cons b t =>
    show psum f a ((b :: t) ++ [a]) = psum f b ((t ++ [a]) ++ [b])
    show f a b + psum f b (t ++ [a]) = psum f b ((t ++ [a]) ++ [b])
    rw [psum_app f [b] (t ++ [a]) b, lastP_app]
    show f a b + psum f b (t ++ [a]) = psum f b (t ++ [a]) + (f a b + 0)
    omega
def ix (side : Nat) (b : Int) (p q : Pnt) : List Pnt := if (wi side b p < 0 ∧ 0 < wi side b q) ∨ (0 < wi side b p ∧ wi side b q < 0) then [cr side b p q] else []
def inn (side : Nat) (b : Int) (p : Pnt) : List Pnt := if 0 ≤ wi side b p then [p] else []
def emP (side : Nat) (b : Int) : Pnt → List Pnt → List Pnt
  | _, [] => []
  | p, q :: t => (inn side b p ++ ix side b p q) ++ emP side b q t
def emR (side : Nat) (b : Int) : Pnt → List Pnt → List Pnt
  | _, [] => []
  | p, q :: t => (ix side b p q ++ inn side b q) ++ emR side b q t
theorem em_rot (side : Nat) (b : Int) : ∀ (l : List Pnt) (p : Pnt), inn side b p ++ emR side b p l = emP side b p l ++ inn side b (lastP p l)
  | [], p => by simp [emR, emP, lastP]
  | q :: t, p => by
    have ih := em_rot side b t q
    show inn side b p ++ ((ix side b p q ++ inn side b q) ++ emR side b q t) = ((inn side b p ++ ix side b p q) ++ emP side b q t) ++ inn side b (lastP q t)
    rw [List.append_assoc (ix side b p q), ih, List.append_assoc, List.append_assoc]
theorem wi_cr (side : Nat) (b : Int) (p q : Pnt) : wi side b (cr side b p q) = 0 := by
  match side with
  | 0 => show b - b = 0; omega
  | 1 => show b - b = 0; omega
  | 2 => show b - b = 0; omega
  | k + 3 => show b - b = 0; omega
/-- the last point that was left, before p is looked at -/
def vali (side : Nat) (b : Int) (v p : Pnt) : Prop := (0 ≤ wi side b p → v = p) ∧ (wi side b p < 0 → wi side b v = 0)
theorem sh_path {side : Nat} {b : Int} {f : Pnt → Pnt → Int} (hz : ∀ x y : Pnt, wi side b x = 0 → wi side b y = 0 → f x y = 0) : ∀ (l : List Pnt) (v p : Pnt), vali side b v p → psum f v (emR side b p l) = psum (Psi side b f) p l ∧ vali side b (lastP v (emR side b p l)) (lastP p l)
  | [], v, p, hv => ⟨rfl, hv⟩
  | q :: t, v, p, hv => by
    have hstep : psum f v (ix side b p q ++ inn side b q) = Psi side b f p q ∧ vali side b (lastP v (ix side b p q ++ inn side b q)) q := by
      have hc := wi_cr side b p q
      unfold ix inn Psi
      by_cases hp : 0 ≤ wi side b p
      · have ev := hv.1 hp
        subst ev
        rw [if_pos hp]
        by_cases hq : 0 ≤ wi side b q
        · rw [if_pos hq, if_pos hq, if_neg (by omega)]
          exact ⟨by simp [psum], fun _ => rfl, fun h => absurd hq (by omega)⟩
        · rw [if_neg hq, if_neg hq]
          by_cases hp2 : 0 < wi side b v
          · rw [if_pos hp2, if_pos (Or.inr ⟨hp2, by omega⟩)]
            exact ⟨by simp [psum], fun h => absurd h hq, fun _ => hc⟩
          · rw [if_neg hp2, if_neg (by omega)]
            exact ⟨rfl, fun h => absurd h hq, fun _ => by show wi side b v = 0; omega⟩
      · have ev := hv.2 (by omega)
        rw [if_neg hp]
        by_cases hq : 0 < wi side b q
        · rw [if_pos hq, if_pos (Or.inl ⟨by omega, hq⟩), if_pos (by omega)]
          refine ⟨?_, fun _ => rfl, fun h => absurd hq (by omega)⟩
          show f v (cr side b p q) + (f (cr side b p q) q + 0) = f (cr side b p q) q
          rw [hz v _ ev hc]
          omega
        · rw [if_neg hq, if_neg (by omega)]
          by_cases hq0 : 0 ≤ wi side b q
          · rw [if_pos hq0]
            refine ⟨?_, fun _ => rfl, fun h => absurd hq0 (by omega)⟩
            show f v q + 0 = 0
            rw [hz v q ev (by omega)]
            rfl
          · rw [if_neg hq0]
            exact ⟨rfl, fun h => absurd h hq0, fun _ => ev⟩
    obtain ⟨h1, h2⟩ := hstep
    obtain ⟨g1, g2⟩ := sh_path hz t _ q h2
    show psum f v ((ix side b p q ++ inn side b q) ++ emR side b q t) = Psi side b f p q + psum (Psi side b f) q t ∧ vali side b (lastP v ((ix side b p q ++ inn side b q) ++ emR side b q t)) (lastP q t)
    rw [psum_app, h1, g1, lastP_app (emR side b q t) (ix side b p q ++ inn side b q) v]
    exact ⟨rfl, g2⟩
/-- a closed path, cut to a side -/
def cutL (side : Nat) (b : Int) (l : List Pnt) : List Pnt := match l with
  | [] => []
  | a :: t => emP side b a (t ++ [a])
theorem csum_psum (f : Pnt → Pnt → Int) (e : Pnt) (t : List Pnt) : csum f (e :: t) = psum f (lastP e t) (e :: t) := by
  show psum f e (t ++ [e]) = f (lastP e t) e + psum f e t
  rw [psum_app]
  show psum f e t + (f (lastP e t) e + 0) = _
  omega
theorem sh_cut {side : Nat} {b : Int} {f : Pnt → Pnt → Int} (hz : ∀ x y : Pnt, wi side b x = 0 → wi side b y = 0 → f x y = 0) (l : List Pnt) : csum f (cutL side b l) = csum (Psi side b f) l := by
  cases l with
  | nil => rfl
  | cons a t =>
    show csum f (emP side b a (t ++ [a])) = psum (Psi side b f) a (t ++ [a])
    have hlast : lastP a (t ++ [a]) = a := by rw [lastP_app]; rfl
    have hr := em_rot side b (t ++ [a]) a
    rw [hlast] at hr
    have h1 : csum f (emP side b a (t ++ [a])) = csum f (emR side b a (t ++ [a])) := by
      by_cases ha : 0 ≤ wi side b a
      · have e1 : inn side b a = [a] := if_pos ha
        rw [e1] at hr
        have h2 : ∃ m, emP side b a (t ++ [a]) = a :: m := by
          cases hta : t ++ [a] with
          | nil => exact absurd hta (by simp)
          | cons q r =>
            refine ⟨ix side b a q ++ emP side b q r, ?_⟩
            show (inn side b a ++ ix side b a q) ++ emP side b q r = _
            rw [e1]
            rfl
        obtain ⟨m, hm⟩ := h2
        rw [hm] at hr ⊢
        have h3 : emR side b a (t ++ [a]) = m ++ [a] := by
          have := List.cons.inj hr
          exact this.2
        rw [h3]
        exact csum_rot f a m
      · have e1 : inn side b a = [] := if_neg ha
        rw [e1] at hr
        simp at hr
        rw [hr]
    rw [h1]
    have hv0 : vali side b (if 0 ≤ wi side b a then a else cr side b a a) a := by
      refine ⟨fun h => if_pos h, fun h => ?_⟩
      rw [if_neg (by omega)]
      exact wi_cr side b a a
    obtain ⟨g1, g2⟩ := sh_path hz (t ++ [a]) _ a hv0
    rw [hlast] at g2
    cases hE : emR side b a (t ++ [a]) with
    | nil =>
      rw [hE] at g1
      exact g1
    | cons e r =>
      rw [hE] at g2
      rw [csum_psum]
      have g3 := (sh_path hz (t ++ [a]) _ a g2).1
      rw [hE] at g3
      exact g3
theorem psum_add (f g : Pnt → Pnt → Int) : ∀ (l : List Pnt) (x : Pnt), psum (fun p q => f p q + g p q) x l = psum f x l + psum g x l
  | [], _ => rfl
  | y :: t, x => by
    show f x y + g x y + psum (fun p q => f p q + g p q) y t = f x y + psum f y t + (g x y + psum g y t)
    rw [psum_add f g t y]
    omega
theorem psum_tel (g : Pnt → Int) (k : Int) : ∀ (l : List Pnt) (x : Pnt), psum (fun p q => k * (g q - g p)) x l = k * (g (lastP x l) - g x)
  | [], x => by show (0 : Int) = k * (g x - g x); rw [Int.sub_self, Int.mul_zero]
  | y :: t, x => by
    show k * (g y - g x) + psum (fun p q => k * (g q - g p)) y t = k * (g (lastP y t) - g x)
    rw [psum_tel g k t y, ← Int.mul_add]
    congr 1
    omega
theorem csum_tel (f : Pnt → Pnt → Int) (g : Pnt → Int) (k : Int) (l : List Pnt) : csum (fun p q => f p q + k * (g q - g p)) l = csum f l := by
  cases l with
  | nil => rfl
  | cons a t =>
    show psum (fun p q => f p q + k * (g q - g p)) a (t ++ [a]) = psum f a (t ++ [a])
    rw [psum_add f (fun p q => k * (g q - g p)), psum_tel, lastP_app]
    show psum f a (t ++ [a]) + k * (g a - g a) = _
    rw [Int.sub_self, Int.mul_zero, Int.add_zero]
/-- an upright piece -/
theorem ps2_up {b c0 c1 : Int} (h : c0 ≤ c1) (x y y' : Int) : ps2 b c0 c1 (x, y) (x, y') = (2 * x - 2 * b) * (kap c0 c1 y' - kap c0 c1 y) := by
  have e : ∀ u v : Int, ps3 b c1 (x, u) (x, v) = (2 * x - 2 * b) * ((if c1 < v then c1 else v) - (if c1 < u then c1 else u)) := by
    intro u v
    have ep : ∀ u v : Int, ph b (x, u) (x, v) = (2 * x - 2 * b) * (v - u) := fun u v => by
      show (x + x - 2 * b) * (v - u) = _
      congr 1
      omega
    have ec : cr 3 c1 (x, u) (x, v) = (x, c1) := by
      show ((x + ((c1 - u) * (x - x)).tdiv (v - u), c1) : Pnt) = (x, c1)
      rw [Int.sub_self, Int.mul_zero, Int.zero_tdiv, Int.add_zero]
    unfold ps3 Psi
    rw [ec]
    show (if 0 ≤ c1 - u then if 0 ≤ c1 - v then ph b (x, u) (x, v) else if 0 < c1 - u then ph b (x, u) (x, c1) else 0 else if 0 < c1 - v then ph b (x, c1) (x, v) else 0) = _
    rw [ep, ep, ep]
    repeat' split
    all_goals first | rfl | (exfalso; omega) | (congr 1; omega) | (rw [show (c1 : Int) - c1 = 0 from Int.sub_self c1, Int.mul_zero]) | skip
    all_goals
      have e0 : (0 : Int) = (2 * x - 2 * b) * 0 := (Int.mul_zero _).symm
      rw [e0]
      congr 1
      omega
  have ec : cr 2 c0 (x, y) (x, y') = (x, c0) := by
    show ((x + ((c0 - y) * (x - x)).tdiv (y' - y), c0) : Pnt) = (x, c0)
    rw [Int.sub_self, Int.mul_zero, Int.zero_tdiv, Int.add_zero]
  unfold ps2 Psi
  rw [ec]
  show (if 0 ≤ y - c0 then if 0 ≤ y' - c0 then ps3 b c1 (x, y) (x, y') else if 0 < y - c0 then ps3 b c1 (x, y) (x, c0) else 0 else if 0 < y' - c0 then ps3 b c1 (x, c0) (x, y') else 0) = _
  rw [e, e, e]
  unfold kap
  have e0 : (0 : Int) = (2 * x - 2 * b) * 0 := (Int.mul_zero _).symm
  repeat' split
  all_goals first | rfl | (exfalso; omega) | (congr 1; omega) | (rw [e0]; congr 1; omega)
/-- what is left behind the four cuts -/
theorem sh_all {b0 b1 c0 c1 : Int} (hb : b0 ≤ b1) (hc : c0 ≤ c1) (l : List Pnt) : csum (ph b1) (cutL 3 c1 (cutL 2 c0 (cutL 1 b1 (cutL 0 b0 l)))) = csum (ps0 b0 b1 c0 c1) l := by
  rw [sh_cut (f := ph b1) ?_]
  · show csum (ps3 b1 c1) _ = _
    rw [sh_cut (f := ps3 b1 c1) ?_]
    · show csum (ps2 b1 c0 c1) _ = _
      rw [sh_cut (f := ps2 b1 c0 c1) ?_]
      · show csum (ps1 b1 c0 c1) _ = _
        rw [← csum_tel (ps1 b1 c0 c1) (fun p => kap c0 c1 p.2) (2 * (b1 - b0))]
        show csum (chi b0 b1 c0 c1) _ = _
        rw [sh_cut (f := chi b0 b1 c0 c1) ?_]
        · rfl
        · intro x y hx hy
          obtain ⟨x1, x2⟩ := x
          obtain ⟨y1, y2⟩ := y
          have e1 : x1 - b0 = 0 := hx
          have e2 : y1 - b0 = 0 := hy
          obtain rfl : x1 = b0 := by omega
          obtain rfl : y1 = x1 := by omega
          show Psi 1 b1 (ps2 b1 c0 c1) (y1, x2) (y1, y2) + 2 * (b1 - y1) * (kap c0 c1 y2 - kap c0 c1 x2) = 0
          unfold Psi
          show (if 0 ≤ b1 - y1 then if 0 ≤ b1 - y1 then ps2 b1 c0 c1 (y1, x2) (y1, y2) else _ else _) + _ = 0
          rw [if_pos (by omega), if_pos (by omega), ps2_up hc, ← Int.add_mul]
          have e : 2 * y1 - 2 * b1 + 2 * (b1 - y1) = 0 := by omega
          rw [e, Int.zero_mul]
      · intro x y hx hy
        obtain ⟨x1, x2⟩ := x
        obtain ⟨y1, y2⟩ := y
        have e1 : b1 - x1 = 0 := hx
        have e2 : b1 - y1 = 0 := hy
        obtain rfl : x1 = b1 := by omega
        obtain rfl : y1 = x1 := by omega
        rw [ps2_up hc, Int.sub_self, Int.zero_mul]
    · intro x y hx hy
      obtain ⟨x1, x2⟩ := x
      obtain ⟨y1, y2⟩ := y
      have e1 : x2 - c0 = 0 := hx
      have e2 : y2 - c0 = 0 := hy
      unfold ps3 Psi
      show (if 0 ≤ c1 - x2 then if 0 ≤ c1 - y2 then ph b1 (x1, x2) (y1, y2) else _ else _) = 0
      rw [if_pos (by omega), if_pos (by omega)]
      show (x1 + y1 - 2 * b1) * (y2 - x2) = 0
      have e : y2 - x2 = 0 := by omega
      rw [e, Int.mul_zero]
  · intro x y hx hy
    obtain ⟨x1, x2⟩ := x
    obtain ⟨y1, y2⟩ := y
    have e1 : c1 - x2 = 0 := hx
    have e2 : c1 - y2 = 0 := hy
    show (x1 + y1 - 2 * b1) * (y2 - x2) = 0
    have e : y2 - x2 = 0 := by omega
    rw [e, Int.mul_zero]
