/-! the greatest divisor: how many steps it takes at most -/
def fbp : Nat → Nat × Nat
  | 0 => (0, 1)
  | n + 1 => ((fbp n).2, (fbp n).1 + (fbp n).2)
def fb (n : Nat) : Nat := (fbp n).1
theorem fb_rec (n : Nat) : fb (n + 2) = fb n + fb (n + 1) := rfl
theorem fbp_0 : fbp 0 = (0, 1) := rfl
theorem fbp_1 : fbp 1 = (1, 1) := by show ((fbp 0).2, (fbp 0).1 + (fbp 0).2) = _; rw [fbp_0]; rfl
theorem fbp_2 : fbp 2 = (1, 2) := by show ((fbp 1).2, (fbp 1).1 + (fbp 1).2) = _; rw [fbp_1]; rfl
theorem fbp_3 : fbp 3 = (2, 3) := by show ((fbp 2).2, (fbp 2).1 + (fbp 2).2) = _; rw [fbp_2]; rfl
theorem fbp_4 : fbp 4 = (3, 5) := by show ((fbp 3).2, (fbp 3).1 + (fbp 3).2) = _; rw [fbp_3]; rfl
theorem fbp_5 : fbp 5 = (5, 8) := by show ((fbp 4).2, (fbp 4).1 + (fbp 4).2) = _; rw [fbp_4]; rfl
theorem fbp_6 : fbp 6 = (8, 13) := by show ((fbp 5).2, (fbp 5).1 + (fbp 5).2) = _; rw [fbp_5]; rfl
theorem fbp_7 : fbp 7 = (13, 21) := by show ((fbp 6).2, (fbp 6).1 + (fbp 6).2) = _; rw [fbp_6]; rfl
theorem fbp_8 : fbp 8 = (21, 34) := by show ((fbp 7).2, (fbp 7).1 + (fbp 7).2) = _; rw [fbp_7]; rfl
theorem fbp_9 : fbp 9 = (34, 55) := by show ((fbp 8).2, (fbp 8).1 + (fbp 8).2) = _; rw [fbp_8]; rfl
theorem fbp_10 : fbp 10 = (55, 89) := by show ((fbp 9).2, (fbp 9).1 + (fbp 9).2) = _; rw [fbp_9]; rfl
theorem fbp_11 : fbp 11 = (89, 144) := by show ((fbp 10).2, (fbp 10).1 + (fbp 10).2) = _; rw [fbp_10]; rfl
theorem fbp_12 : fbp 12 = (144, 233) := by show ((fbp 11).2, (fbp 11).1 + (fbp 11).2) = _; rw [fbp_11]; rfl
theorem fbp_13 : fbp 13 = (233, 377) := by show ((fbp 12).2, (fbp 12).1 + (fbp 12).2) = _; rw [fbp_12]; rfl
theorem fbp_14 : fbp 14 = (377, 610) := by show ((fbp 13).2, (fbp 13).1 + (fbp 13).2) = _; rw [fbp_13]; rfl
theorem fbp_15 : fbp 15 = (610, 987) := by show ((fbp 14).2, (fbp 14).1 + (fbp 14).2) = _; rw [fbp_14]; rfl
theorem fbp_16 : fbp 16 = (987, 1597) := by show ((fbp 15).2, (fbp 15).1 + (fbp 15).2) = _; rw [fbp_15]; rfl
theorem fbp_17 : fbp 17 = (1597, 2584) := by show ((fbp 16).2, (fbp 16).1 + (fbp 16).2) = _; rw [fbp_16]; rfl
theorem fbp_18 : fbp 18 = (2584, 4181) := by show ((fbp 17).2, (fbp 17).1 + (fbp 17).2) = _; rw [fbp_17]; rfl
theorem fbp_19 : fbp 19 = (4181, 6765) := by show ((fbp 18).2, (fbp 18).1 + (fbp 18).2) = _; rw [fbp_18]; rfl
theorem fbp_20 : fbp 20 = (6765, 10946) := by show ((fbp 19).2, (fbp 19).1 + (fbp 19).2) = _; rw [fbp_19]; rfl
theorem fbp_21 : fbp 21 = (10946, 17711) := by show ((fbp 20).2, (fbp 20).1 + (fbp 20).2) = _; rw [fbp_20]; rfl
theorem fbp_22 : fbp 22 = (17711, 28657) := by show ((fbp 21).2, (fbp 21).1 + (fbp 21).2) = _; rw [fbp_21]; rfl
theorem fbp_23 : fbp 23 = (28657, 46368) := by show ((fbp 22).2, (fbp 22).1 + (fbp 22).2) = _; rw [fbp_22]; rfl
theorem fbp_24 : fbp 24 = (46368, 75025) := by show ((fbp 23).2, (fbp 23).1 + (fbp 23).2) = _; rw [fbp_23]; rfl
theorem fbp_25 : fbp 25 = (75025, 121393) := by show ((fbp 24).2, (fbp 24).1 + (fbp 24).2) = _; rw [fbp_24]; rfl
theorem fbp_26 : fbp 26 = (121393, 196418) := by show ((fbp 25).2, (fbp 25).1 + (fbp 25).2) = _; rw [fbp_25]; rfl
theorem fbp_27 : fbp 27 = (196418, 317811) := by show ((fbp 26).2, (fbp 26).1 + (fbp 26).2) = _; rw [fbp_26]; rfl
theorem fbp_28 : fbp 28 = (317811, 514229) := by show ((fbp 27).2, (fbp 27).1 + (fbp 27).2) = _; rw [fbp_27]; rfl
theorem fbp_29 : fbp 29 = (514229, 832040) := by show ((fbp 28).2, (fbp 28).1 + (fbp 28).2) = _; rw [fbp_28]; rfl
theorem fbp_30 : fbp 30 = (832040, 1346269) := by show ((fbp 29).2, (fbp 29).1 + (fbp 29).2) = _; rw [fbp_29]; rfl
theorem fbp_31 : fbp 31 = (1346269, 2178309) := by show ((fbp 30).2, (fbp 30).1 + (fbp 30).2) = _; rw [fbp_30]; rfl
theorem fbp_32 : fbp 32 = (2178309, 3524578) := by show ((fbp 31).2, (fbp 31).1 + (fbp 31).2) = _; rw [fbp_31]; rfl
theorem fbp_33 : fbp 33 = (3524578, 5702887) := by show ((fbp 32).2, (fbp 32).1 + (fbp 32).2) = _; rw [fbp_32]; rfl
theorem fbp_34 : fbp 34 = (5702887, 9227465) := by show ((fbp 33).2, (fbp 33).1 + (fbp 33).2) = _; rw [fbp_33]; rfl
theorem fbp_35 : fbp 35 = (9227465, 14930352) := by show ((fbp 34).2, (fbp 34).1 + (fbp 34).2) = _; rw [fbp_34]; rfl
theorem fbp_36 : fbp 36 = (14930352, 24157817) := by show ((fbp 35).2, (fbp 35).1 + (fbp 35).2) = _; rw [fbp_35]; rfl
theorem fbp_37 : fbp 37 = (24157817, 39088169) := by show ((fbp 36).2, (fbp 36).1 + (fbp 36).2) = _; rw [fbp_36]; rfl
theorem fbp_38 : fbp 38 = (39088169, 63245986) := by show ((fbp 37).2, (fbp 37).1 + (fbp 37).2) = _; rw [fbp_37]; rfl
theorem fbp_39 : fbp 39 = (63245986, 102334155) := by show ((fbp 38).2, (fbp 38).1 + (fbp 38).2) = _; rw [fbp_38]; rfl
theorem fbp_40 : fbp 40 = (102334155, 165580141) := by show ((fbp 39).2, (fbp 39).1 + (fbp 39).2) = _; rw [fbp_39]; rfl
theorem fbp_41 : fbp 41 = (165580141, 267914296) := by show ((fbp 40).2, (fbp 40).1 + (fbp 40).2) = _; rw [fbp_40]; rfl
theorem fbp_42 : fbp 42 = (267914296, 433494437) := by show ((fbp 41).2, (fbp 41).1 + (fbp 41).2) = _; rw [fbp_41]; rfl
theorem fbp_43 : fbp 43 = (433494437, 701408733) := by show ((fbp 42).2, (fbp 42).1 + (fbp 42).2) = _; rw [fbp_42]; rfl
theorem fbp_44 : fbp 44 = (701408733, 1134903170) := by show ((fbp 43).2, (fbp 43).1 + (fbp 43).2) = _; rw [fbp_43]; rfl
theorem fbp_45 : fbp 45 = (1134903170, 1836311903) := by show ((fbp 44).2, (fbp 44).1 + (fbp 44).2) = _; rw [fbp_44]; rfl
theorem fbp_46 : fbp 46 = (1836311903, 2971215073) := by show ((fbp 45).2, (fbp 45).1 + (fbp 45).2) = _; rw [fbp_45]; rfl
theorem fbp_47 : fbp 47 = (2971215073, 4807526976) := by show ((fbp 46).2, (fbp 46).1 + (fbp 46).2) = _; rw [fbp_46]; rfl
theorem fbp_48 : fbp 48 = (4807526976, 7778742049) := by show ((fbp 47).2, (fbp 47).1 + (fbp 47).2) = _; rw [fbp_47]; rfl
theorem fbp_49 : fbp 49 = (7778742049, 12586269025) := by show ((fbp 48).2, (fbp 48).1 + (fbp 48).2) = _; rw [fbp_48]; rfl
theorem fbp_50 : fbp 50 = (12586269025, 20365011074) := by show ((fbp 49).2, (fbp 49).1 + (fbp 49).2) = _; rw [fbp_49]; rfl
theorem fbp_51 : fbp 51 = (20365011074, 32951280099) := by show ((fbp 50).2, (fbp 50).1 + (fbp 50).2) = _; rw [fbp_50]; rfl
theorem fbp_52 : fbp 52 = (32951280099, 53316291173) := by show ((fbp 51).2, (fbp 51).1 + (fbp 51).2) = _; rw [fbp_51]; rfl
theorem fbp_53 : fbp 53 = (53316291173, 86267571272) := by show ((fbp 52).2, (fbp 52).1 + (fbp 52).2) = _; rw [fbp_52]; rfl
theorem fbp_54 : fbp 54 = (86267571272, 139583862445) := by show ((fbp 53).2, (fbp 53).1 + (fbp 53).2) = _; rw [fbp_53]; rfl
theorem fbp_55 : fbp 55 = (139583862445, 225851433717) := by show ((fbp 54).2, (fbp 54).1 + (fbp 54).2) = _; rw [fbp_54]; rfl
theorem fbp_56 : fbp 56 = (225851433717, 365435296162) := by show ((fbp 55).2, (fbp 55).1 + (fbp 55).2) = _; rw [fbp_55]; rfl
theorem fbp_57 : fbp 57 = (365435296162, 591286729879) := by show ((fbp 56).2, (fbp 56).1 + (fbp 56).2) = _; rw [fbp_56]; rfl
theorem fbp_58 : fbp 58 = (591286729879, 956722026041) := by show ((fbp 57).2, (fbp 57).1 + (fbp 57).2) = _; rw [fbp_57]; rfl
theorem fbp_59 : fbp 59 = (956722026041, 1548008755920) := by show ((fbp 58).2, (fbp 58).1 + (fbp 58).2) = _; rw [fbp_58]; rfl
theorem fbp_60 : fbp 60 = (1548008755920, 2504730781961) := by show ((fbp 59).2, (fbp 59).1 + (fbp 59).2) = _; rw [fbp_59]; rfl
theorem fbp_61 : fbp 61 = (2504730781961, 4052739537881) := by show ((fbp 60).2, (fbp 60).1 + (fbp 60).2) = _; rw [fbp_60]; rfl
theorem fbp_62 : fbp 62 = (4052739537881, 6557470319842) := by show ((fbp 61).2, (fbp 61).1 + (fbp 61).2) = _; rw [fbp_61]; rfl
theorem fbp_63 : fbp 63 = (6557470319842, 10610209857723) := by show ((fbp 62).2, (fbp 62).1 + (fbp 62).2) = _; rw [fbp_62]; rfl
theorem fbp_64 : fbp 64 = (10610209857723, 17167680177565) := by show ((fbp 63).2, (fbp 63).1 + (fbp 63).2) = _; rw [fbp_63]; rfl
theorem fbp_65 : fbp 65 = (17167680177565, 27777890035288) := by show ((fbp 64).2, (fbp 64).1 + (fbp 64).2) = _; rw [fbp_64]; rfl
theorem fbp_66 : fbp 66 = (27777890035288, 44945570212853) := by show ((fbp 65).2, (fbp 65).1 + (fbp 65).2) = _; rw [fbp_65]; rfl
theorem fbp_67 : fbp 67 = (44945570212853, 72723460248141) := by show ((fbp 66).2, (fbp 66).1 + (fbp 66).2) = _; rw [fbp_66]; rfl
theorem fbp_68 : fbp 68 = (72723460248141, 117669030460994) := by show ((fbp 67).2, (fbp 67).1 + (fbp 67).2) = _; rw [fbp_67]; rfl
theorem fbp_69 : fbp 69 = (117669030460994, 190392490709135) := by show ((fbp 68).2, (fbp 68).1 + (fbp 68).2) = _; rw [fbp_68]; rfl
theorem fbp_70 : fbp 70 = (190392490709135, 308061521170129) := by show ((fbp 69).2, (fbp 69).1 + (fbp 69).2) = _; rw [fbp_69]; rfl
theorem fbp_71 : fbp 71 = (308061521170129, 498454011879264) := by show ((fbp 70).2, (fbp 70).1 + (fbp 70).2) = _; rw [fbp_70]; rfl
theorem fbp_72 : fbp 72 = (498454011879264, 806515533049393) := by show ((fbp 71).2, (fbp 71).1 + (fbp 71).2) = _; rw [fbp_71]; rfl
theorem fbp_73 : fbp 73 = (806515533049393, 1304969544928657) := by show ((fbp 72).2, (fbp 72).1 + (fbp 72).2) = _; rw [fbp_72]; rfl
theorem fbp_74 : fbp 74 = (1304969544928657, 2111485077978050) := by show ((fbp 73).2, (fbp 73).1 + (fbp 73).2) = _; rw [fbp_73]; rfl
theorem fbp_75 : fbp 75 = (2111485077978050, 3416454622906707) := by show ((fbp 74).2, (fbp 74).1 + (fbp 74).2) = _; rw [fbp_74]; rfl
theorem fbp_76 : fbp 76 = (3416454622906707, 5527939700884757) := by show ((fbp 75).2, (fbp 75).1 + (fbp 75).2) = _; rw [fbp_75]; rfl
theorem fbp_77 : fbp 77 = (5527939700884757, 8944394323791464) := by show ((fbp 76).2, (fbp 76).1 + (fbp 76).2) = _; rw [fbp_76]; rfl
theorem fbp_78 : fbp 78 = (8944394323791464, 14472334024676221) := by show ((fbp 77).2, (fbp 77).1 + (fbp 77).2) = _; rw [fbp_77]; rfl
theorem fbp_79 : fbp 79 = (14472334024676221, 23416728348467685) := by show ((fbp 78).2, (fbp 78).1 + (fbp 78).2) = _; rw [fbp_78]; rfl
theorem fbp_80 : fbp 80 = (23416728348467685, 37889062373143906) := by show ((fbp 79).2, (fbp 79).1 + (fbp 79).2) = _; rw [fbp_79]; rfl
theorem fbp_81 : fbp 81 = (37889062373143906, 61305790721611591) := by show ((fbp 80).2, (fbp 80).1 + (fbp 80).2) = _; rw [fbp_80]; rfl
theorem fbp_82 : fbp 82 = (61305790721611591, 99194853094755497) := by show ((fbp 81).2, (fbp 81).1 + (fbp 81).2) = _; rw [fbp_81]; rfl
theorem fbp_83 : fbp 83 = (99194853094755497, 160500643816367088) := by show ((fbp 82).2, (fbp 82).1 + (fbp 82).2) = _; rw [fbp_82]; rfl
theorem fbp_84 : fbp 84 = (160500643816367088, 259695496911122585) := by show ((fbp 83).2, (fbp 83).1 + (fbp 83).2) = _; rw [fbp_83]; rfl
theorem fbp_85 : fbp 85 = (259695496911122585, 420196140727489673) := by show ((fbp 84).2, (fbp 84).1 + (fbp 84).2) = _; rw [fbp_84]; rfl
theorem fbp_86 : fbp 86 = (420196140727489673, 679891637638612258) := by show ((fbp 85).2, (fbp 85).1 + (fbp 85).2) = _; rw [fbp_85]; rfl
theorem fb_85 : fb 85 = 259695496911122585 := by unfold fb; rw [fbp_85]
/-- Euclid's way from (g, r) ends within n steps -/
def TE : Nat → Nat → Nat → Prop
  | 0, _, r => r = 0
  | n + 1, g, r => r = 0 ∨ TE n r (g % r)
theorem mod_sle (r t : Nat) (h : t ≤ r) : r % t ≤ r - t := by
  obtain ⟨z, rfl⟩ : ∃ z, r = z + t := ⟨r - t, by omega⟩
  rw [Nat.add_mod_right]
  have := Nat.mod_le z t
  omega
theorem TE_fib : ∀ (n g r : Nat), r < g → r < fb (n + 1) → TE n g r := by
  intro n
  induction n using Nat.strongRecOn with
  | ind n ih =>
    intro g r h1 h2
    match n, ih, h2 with
    | 0, _, h2 =>
      have e : fb 1 = 1 := rfl
      show r = 0
      rw [Nat.zero_add, e] at h2
      omega
    | 1, ih, h2 =>
      have e : fb 2 = 1 := rfl
      have h3 : r < 1 := by rw [← e]; exact h2
      exact Or.inl (by omega)
    | n + 2, ih, h2 =>
      by_cases h0 : r = 0
      · exact Or.inl h0
      · have hm : g % r < r := Nat.mod_lt _ (by omega)
        by_cases h3 : g % r < fb (n + 2)
        · exact Or.inr (ih (n + 1) (by omega) r (g % r) hm h3)
        · refine Or.inr ?_
          by_cases h4 : g % r = 0
          · exact Or.inl h4
          · refine Or.inr (ih n (by omega) (g % r) (r % (g % r)) (Nat.mod_lt _ (by omega)) ?_)
            have e : fb (n + 2 + 1) = fb (n + 1) + fb (n + 2) := fb_rec (n + 1)
            have h5 := mod_sle r (g % r) (by omega)
            omega
theorem TE_any {n g r : Nat} (h : r < fb (n + 1)) : TE (n + 1) g r := by
  by_cases h0 : r = 0
  · exact Or.inl h0
  · have hm : g % r < r := Nat.mod_lt _ (by omega)
    exact Or.inr (TE_fib n r (g % r) hm (by omega))
theorem z64N : (0 : Int64) = lN 0 := rfl
theorem lN_0 {n : Nat} (h : n < 9223372036854775808) : lN n = (0 : Int64) ↔ n = 0 := by rw [z64N]; exact pk_lEQ h (by decide)
theorem nzl_N {n : Nat} (h : n < 9223372036854775808) (h0 : ¬ n = 0) : nzl (lN n) = true := decide_eq_true (fun q => h0 ((lN_0 h).mp q))
theorem com_loop : ∀ (n m g r : Nat), TE n g r → n < m → g < 9223372036854775808 → r < 9223372036854775808 → L_X3_common_6 m (lN r) (lN g) = some (lN 0, lN (Nat.gcd g r)) := by
  intro n
  induction n with
  | zero =>
    intro m g r h hm hg hr
    obtain ⟨m, rfl⟩ : ∃ z, m = z + 1 := ⟨m - 1, by omega⟩
    obtain rfl : r = 0 := h
    rw [L_X3_common_6_s, if_pos z64N.symm, Nat.gcd_zero_right]
  | succ n ih =>
    intro m g r h hm hg hr
    obtain ⟨m, rfl⟩ : ∃ z, m = z + 1 := ⟨m - 1, by omega⟩
    by_cases h0 : r = 0
    · subst h0
      rw [L_X3_common_6_s, if_pos z64N.symm, Nat.gcd_zero_right]
    · have h1 : TE n r (g % r) := h.resolve_left h0
      have hlt : g % r < r := Nat.mod_lt _ (by omega)
      rw [L_X3_common_6_s, if_neg (fun q => h0 ((lN_0 hr).mp q)), nzl_N hr h0, gd_s, nm_s, pk_lRem hg (by omega) hr, ih m r (g % r) h1 (by omega) hr (by omega)]
      rw [Nat.gcd_comm g r, Nat.gcd_rec r g, Nat.gcd_comm]
theorem div_loop : ∀ (n m k g r : Nat), TE n g r → n < m → k + n ≤ 100 → g < 9223372036854775808 → r < 9223372036854775808 → ∃ (u : Int32) (v : Int64), L_X2_greatestDivisor_9 m (nI k) (lN r) (lN g) = some (u, v, lN (Nat.gcd g r)) := by
  intro n
  induction n with
  | zero =>
    intro m k g r h hm hk hg hr
    obtain ⟨m, rfl⟩ : ∃ z, m = z + 1 := ⟨m - 1, by omega⟩
    obtain rfl : r = 0 := h
    rw [L_X2_greatestDivisor_9_s, Nat.gcd_zero_right]
    by_cases h1 : (100 : Int32) ≤ nI k
    · rw [if_pos h1]; exact ⟨_, _, rfl⟩
    · rw [if_neg h1, if_pos z64N.symm]; exact ⟨_, _, rfl⟩
  | succ n ih =>
    intro m k g r h hm hk hg hr
    obtain ⟨m, rfl⟩ : ∃ z, m = z + 1 := ⟨m - 1, by omega⟩
    rw [L_X2_greatestDivisor_9_s, if_neg (by rw [lit32, nI_leI (by decide) (by omega)]; omega)]
    by_cases h0 : r = 0
    · subst h0
      rw [if_pos z64N.symm, Nat.gcd_zero_right]
      exact ⟨_, _, rfl⟩
    · have h1 : TE n r (g % r) := h.resolve_left h0
      have hlt : g % r < r := Nat.mod_lt _ (by omega)
      have e1 : nI k + (1 : Int32) = nI (k + 1) := by rw [lit32, nI_add]
      rw [if_neg (fun q => h0 ((lN_0 hr).mp q)), nzl_N hr h0, gd_s, nm_s, pk_lRem hg (by omega) hr, e1]
      obtain ⟨u, v, e⟩ := ih m (k + 1) r (g % r) h1 (by omega) (by omega) hr (by omega)
      refine ⟨u, v, ?_⟩
      rw [e, Nat.gcd_comm g r, Nat.gcd_rec r g, Nat.gcd_comm (g % r) r]
theorem lI_lN {n : Nat} (h : n < 9223372036854775808) : lI (n : Int) = lN n := by
  rw [← Int64.toInt_inj, lI_toInt ⟨by omega, by omega⟩, pk_lT h]
/-- a fraction's upper or lower number, in lowest terms -/
def tv (up : Int) (low : Nat) (a : Int32) : Int64 := if a = 0 then lI up / lN (Nat.gcd up.natAbs low) else lN low / lN (Nat.gcd up.natAbs low)
theorem abs_1 {up : Int} (h : -259695496911122585 < up ∧ up < 259695496911122585) : (if 0 < lI up then lI up else -lI up) = lN up.natAbs := by
  by_cases h0 : 0 < up
  · rw [if_pos (by rw [z64, lI_lt ⟨by omega, by omega⟩ ⟨by omega, by omega⟩]; exact h0), ← lI_lN (by omega)]
    congr 1
    omega
  · rw [if_neg (by rw [z64, lI_lt ⟨by omega, by omega⟩ ⟨by omega, by omega⟩]; exact h0), lI_neg, ← lI_lN (by omega)]
    congr 1
    omega
theorem plain_eq {up : Int} (h : -259695496911122585 < up ∧ up < 259695496911122585) : P_X3_plain (lI up) = some (lN up.natAbs) := by
  unfold P_X3_plain
  by_cases h0 : 0 ≤ up
  · rw [if_pos (by rw [z64, lI_le ⟨by omega, by omega⟩ ⟨by omega, by omega⟩]; exact h0), ← lI_lN (by omega)]
    congr 2
    omega
  · rw [if_neg (by rw [z64, lI_le ⟨by omega, by omega⟩ ⟨by omega, by omega⟩]; exact h0), lI_neg, ← lI_lN (by omega)]
    congr 2
    omega
theorem low_eq {up : Int} (h : -259695496911122585 < up ∧ up < 259695496911122585) {low : Nat} (h0 : 0 < low) (h1 : low < 259695496911122585) (a : Int32) : P_X2_lowestTerms (lI up) (lN low) a = some (tv up low a) := by
  have hg : 0 < Nat.gcd up.natAbs low := Nat.gcd_pos_of_pos_right _ h0
  have hg2 : Nat.gcd up.natAbs low ≤ low := Nat.gcd_le_right _ h0
  obtain ⟨u, v, e⟩ := div_loop 85 1000 0 up.natAbs low (TE_any (by rw [fb_85]; exact h1)) (by decide) (by decide) (by omega) (by omega)
  have q0 : (0 : Int32) = nI 0 := rfl
  have eg : P_X2_greatestDivisor (lN up.natAbs) (lN low) = some (lN (Nat.gcd up.natAbs low)) := by
    unfold P_X2_greatestDivisor
    rw [q0, e, bd3_s]
  unfold P_X2_lowestTerms tv
  rw [abs_1 h, eg, bd1_s, if_pos (by rw [z64N, pk_lLT (by decide) (by omega)]; exact hg), nzl_N (by omega) (by omega), gd_s, gd_s]
  by_cases ha : a = 0
  · rw [if_pos ha, if_pos ha]
  · rw [if_neg ha, if_neg ha]
theorem told_eq {up : Int} (h : -259695496911122585 < up ∧ up < 259695496911122585) {low : Nat} (h0 : 0 < low) (h1 : low < 259695496911122585) (a : Int32) : P_X3_told (lI up) (lN low) a = some (tv up low a) := by
  have hg : 0 < Nat.gcd up.natAbs low := Nat.gcd_pos_of_pos_right _ h0
  have hg2 : Nat.gcd up.natAbs low ≤ low := Nat.gcd_le_right _ h0
  have e := com_loop 85 1000 low up.natAbs (TE_any (by rw [fb_85]; omega)) (by decide) (by omega) (by omega)
  have eg : P_X3_common (lN low) (lN up.natAbs) = some (lN (Nat.gcd up.natAbs low)) := by
    unfold P_X3_common
    rw [e, bd2_s, Nat.gcd_comm]
  unfold P_X3_told tv
  rw [plain_eq h, bd1_s, eg, bd1_s, nzl_N (by omega) (by omega), gd_s, gd_s]
  by_cases ha : a = 0
  · rw [if_pos ha, if_pos ha]
  · rw [if_neg ha, if_neg ha]
theorem tv_9 {s : Int} (h : -25000000000000000 < s ∧ s < 25000000000000000) (a : Int32) : tv (9 * s) 498960 a = tv s 55440 a := by
  have e1 : (9 * s).natAbs = 9 * s.natAbs := Int.natAbs_mul 9 s
  have e2 : (498960 : Nat) = 9 * 55440 := by decide
  have eg : Nat.gcd (9 * s).natAbs 498960 = 9 * Nat.gcd s.natAbs 55440 := by rw [e1, e2, Nat.gcd_mul_left]
  have hg : 0 < Nat.gcd s.natAbs 55440 := Nat.gcd_pos_of_pos_right _ (by decide)
  have hg2 : Nat.gcd s.natAbs 55440 ≤ 55440 := Nat.gcd_le_right _ (by decide)
  obtain ⟨q, hq⟩ : ∃ q : Int, s = ((Nat.gcd s.natAbs 55440 : Nat) : Int) * q := by
    obtain ⟨z, hz⟩ := Nat.gcd_dvd_left s.natAbs 55440
    have hz2 : (s.natAbs : Int) = ((Nat.gcd s.natAbs 55440 : Nat) : Int) * (z : Int) := by
      rw [← Int.natCast_mul, ← hz]
    rcases Int.natAbs_eq s with e | e
    · exact ⟨(z : Int), e.trans hz2⟩
    · refine ⟨-(z : Int), ?_⟩
      rw [Int.mul_neg, ← hz2]
      exact e
  obtain ⟨w, hw⟩ : Nat.gcd s.natAbs 55440 ∣ 55440 := Nat.gcd_dvd_right _ _
  unfold tv
  rw [eg]
  generalize Nat.gcd s.natAbs 55440 = g at *
  have hb : ∀ z : Int, -259695496911122585 < z → z < 259695496911122585 → ∀ k : Nat, 0 < k → k ≤ 498960 → lI z / lN k = lI (z.tdiv k) := by
    intro z z1 z2 k k1 k2
    rw [← lI_lN (by omega), lI_div (by omega) ⟨by omega, by omega⟩ (by omega)]
  by_cases ha : a = 0
  · rw [if_pos ha, if_pos ha, hb (9 * s) (by omega) (by omega) (9 * g) (by omega) (by omega), hb s (by omega) (by omega) g (by omega) (by omega)]
    congr 1
    have e3 : 9 * s = ((9 * g : Nat) : Int) * q := by
      rw [hq, Int.natCast_mul, Int.mul_assoc]
      rfl
    rw [e3, Int.mul_tdiv_cancel_left _ (by omega)]
    conv => rhs; rw [hq]
    rw [Int.mul_tdiv_cancel_left _ (by omega)]
  · rw [if_neg ha, if_neg ha, pk_lDiv (by decide) (by omega) (by omega), pk_lDiv (by decide) (by omega) (by omega)]
    congr 1
    have e3 : 498960 = 9 * g * w := by rw [Nat.mul_assoc, ← hw]
    rw [e3, Nat.mul_div_cancel_left _ (by omega)]
    conv => rhs; rw [hw]
    rw [Nat.mul_div_cancel_left _ (by omega)]
