theorem hp_li {f : Int → Int} {L : Int} {I : qI} {H : qS} (nu : ∀ q ∈ gNu, I q.1 q.2.1 = q.2.2) (hS : Shp H) (hX : SX I) (h2 : I 2 = f) (hl : H.2.1 2 = L)
    (z24 : ∀ j, 0 ≤ j → j < 100 → I 24 j = 0) (z25 : ∀ j, 0 ≤ j → j < 100 → I 25 j = 0) (z1 : ∀ j, 0 ≤ j → j < 100 → I 91 (20 + j) = 0) (z2 : ∀ j, 0 ≤ j → j < 100 → I 91 (230 + j) = 0) : LI f L 0 I H := by
  have m0 : I 91 0 = 0 := (nu (91, 0, 0) (List.mem_of_getElem? (i := 113) rfl))
  have m1 : I 91 1 = 0 := (nu (91, 1, 0) (List.mem_of_getElem? (i := 114) rfl))
  have m2 : I 91 2 = 0 := (nu (91, 2, 0) (List.mem_of_getElem? (i := 115) rfl))
  have m3 : I 91 3 = 0 := (nu (91, 3, 0) (List.mem_of_getElem? (i := 116) rfl))
  have m4 : I 91 4 = 0 := (nu (91, 4, 0) (List.mem_of_getElem? (i := 117) rfl))
  have m5 : I 91 5 = 0 := (nu (91, 5, 0) (List.mem_of_getElem? (i := 118) rfl))
  have m6 : I 91 6 = 0 := (nu (91, 6, 0) (List.mem_of_getElem? (i := 119) rfl))
  have m7 : I 91 7 = 0 := (nu (91, 7, 0) (List.mem_of_getElem? (i := 120) rfl))
  have m8 : I 91 8 = 0 := (nu (91, 8, 0) (List.mem_of_getElem? (i := 121) rfl))
  have m9 : I 91 9 = 0 := (nu (91, 9, 0) (List.mem_of_getElem? (i := 122) rfl))
  have m10 : I 91 10 = 3 := (nu (91, 10, 3) (List.mem_of_getElem? (i := 123) rfl))
  have m11 : I 91 11 = (-1) := (nu (91, 11, (-1)) (List.mem_of_getElem? (i := 124) rfl))
  have m12 : I 91 12 = 48 := (nu (91, 12, 48) (List.mem_of_getElem? (i := 125) rfl))
  have m13 : I 91 13 = 72 := (nu (91, 13, 72) (List.mem_of_getElem? (i := 126) rfl))
  have h23 : ∀ i, 0 ≤ i → i < 5 → I 23 i = I 91 (9 + i) := fun i a b => by
    rcases (show i = 0 ∨ i = 1 ∨ i = 2 ∨ i = 3 ∨ i = 4 by omega) with rfl | rfl | rfl | rfl | rfl
    · exact (show I 23 0 = 0 from (nu (23, 0, 0) (List.mem_of_getElem? (i := 29) rfl))).trans (show I 91 9 = 0 from m9).symm
    · exact (show I 23 1 = 3 from (nu (23, 1, 3) (List.mem_of_getElem? (i := 30) rfl))).trans (show I 91 10 = 3 from m10).symm
    · exact (show I 23 2 = (-1) from (nu (23, 2, (-1)) (List.mem_of_getElem? (i := 31) rfl))).trans (show I 91 11 = (-1) from m11).symm
    · exact (show I 23 3 = 48 from (nu (23, 3, 48) (List.mem_of_getElem? (i := 32) rfl))).trans (show I 91 12 = 48 from m12).symm
    · exact (show I 23 4 = 72 from (nu (23, 4, 72) (List.mem_of_getElem? (i := 33) rfl))).trans (show I 91 13 = 72 from m13).symm
  have hTR : TR 6 I (I 91) := ⟨⟨(nu (7, 0, 10) (List.mem_of_getElem? (i := 5) rfl)), (nu (7, 1, 2) (List.mem_of_getElem? (i := 6) rfl)), (nu (9, 0, 20) (List.mem_of_getElem? (i := 8) rfl)), (nu (9, 1, 3) (List.mem_of_getElem? (i := 9) rfl)), (nu (11, 0, 10) (List.mem_of_getElem? (i := 11) rfl)), (nu (11, 1, 3) (List.mem_of_getElem? (i := 12) rfl)), (nu (13, 0, 16) (List.mem_of_getElem? (i := 14) rfl)), (nu (13, 1, 4) (List.mem_of_getElem? (i := 15) rfl)), (nu (15, 0, 16) (List.mem_of_getElem? (i := 17) rfl)), (nu (15, 1, 3) (List.mem_of_getElem? (i := 18) rfl)), (nu (17, 0, 8) (List.mem_of_getElem? (i := 20) rfl)), (nu (17, 1, 2) (List.mem_of_getElem? (i := 21) rfl)), (nu (19, 0, 16) (List.mem_of_getElem? (i := 23) rfl)), (nu (19, 1, 3) (List.mem_of_getElem? (i := 24) rfl)), (nu (21, 0, 20) (List.mem_of_getElem? (i := 26) rfl)), (nu (21, 1, 2) (List.mem_of_getElem? (i := 27) rfl))⟩,
    (nu (7, 3, 0) (List.mem_of_getElem? (i := 7) rfl)).trans (nu (91, 1, 0) (List.mem_of_getElem? (i := 114) rfl)).symm,
    (nu (9, 3, 0) (List.mem_of_getElem? (i := 10) rfl)).trans (nu (91, 2, 0) (List.mem_of_getElem? (i := 115) rfl)).symm,
    (nu (11, 3, 0) (List.mem_of_getElem? (i := 13) rfl)).trans (nu (91, 1, 0) (List.mem_of_getElem? (i := 114) rfl)).symm,
    (nu (13, 3, 0) (List.mem_of_getElem? (i := 16) rfl)).trans (nu (91, 4, 0) (List.mem_of_getElem? (i := 117) rfl)).symm,
    (nu (15, 3, 0) (List.mem_of_getElem? (i := 19) rfl)).trans (nu (91, 5, 0) (List.mem_of_getElem? (i := 118) rfl)).symm,
    (nu (17, 3, 0) (List.mem_of_getElem? (i := 22) rfl)).trans (nu (91, 6, 0) (List.mem_of_getElem? (i := 119) rfl)).symm,
    (nu (19, 3, 0) (List.mem_of_getElem? (i := 25) rfl)).trans (nu (91, 7, 0) (List.mem_of_getElem? (i := 120) rfl)).symm,
    (nu (21, 3, 0) (List.mem_of_getElem? (i := 28) rfl)).trans (nu (91, 8, 0) (List.mem_of_getElem? (i := 121) rfl)).symm,
    (nu (6, 12, 0) (List.mem_of_getElem? (i := 3) rfl)).trans (nu (91, 3, 0) (List.mem_of_getElem? (i := 116) rfl)).symm,
    (nu (6, 13, 0) (List.mem_of_getElem? (i := 4) rfl)).trans (nu (91, 0, 0) (List.mem_of_getElem? (i := 113) rfl)).symm,
    fun r a b => absurd b (by rw [m1]; omega),
    fun r a b => absurd b (by rw [m2]; omega),
    fun r a b => absurd b (by rw [m1]; omega),
    fun r a b => absurd b (by rw [m4]; omega),
    fun r a b => absurd b (by rw [m5]; omega),
    fun r a b => absurd b (by rw [m6]; omega),
    fun r a b => absurd b (by rw [m7]; omega),
    fun r a b => absurd b (by rw [m8]; omega),
    h23,
    fun y a b => (z24 y a b).trans (z1 y a b).symm,
    fun y a b => (z25 y a b).trans (z2 y a b).symm⟩
  have hIM : IM (I 91) := ⟨by rw [m0]; omega,
    by rw [m1]; omega,
    by rw [m2]; omega,
    by rw [m3]; omega,
    by rw [m4]; omega,
    by rw [m5]; omega,
    by rw [m6]; omega,
    by rw [m7]; omega,
    by rw [m8]; omega,
    by rw [m9]; omega,
    by rw [m10]; omega,
    by rw [m11]; omega,
    by rw [m12]; omega,
    by rw [m13]; omega,
    fun y a b => by rw [z1 y a b]; omega,
    fun y a b => by rw [z2 y a b]; omega,
    fun r a b => absurd b (by rw [m1]; omega),
    fun r a b => absurd b (by rw [m1]; omega),
    fun r k a b => absurd b (by rw [m1]; omega),
    fun r a b => absurd b (by rw [m2]; omega),
    fun r a b => absurd b (by rw [m2]; omega),
    fun r a b => absurd b (by rw [m2]; omega),
    fun r a b => absurd b (by rw [m1]; omega),
    fun r k a b => absurd b (by rw [m1]; omega),
    fun r a b => absurd b (by rw [m1]; omega),
    fun r a b => absurd b (by rw [m4]; omega),
    fun r a b => absurd b (by rw [m4]; omega),
    fun r a b => absurd b (by rw [m4]; omega),
    fun r a b => absurd b (by rw [m5]; omega),
    fun r a b => absurd b (by rw [m5]; omega),
    fun r a b => absurd b (by rw [m6]; omega),
    fun r a b => absurd b (by rw [m6]; omega),
    fun r a b => absurd b (by rw [m7]; omega),
    fun r a b => absurd b (by rw [m7]; omega),
    fun r a b => absurd b (by rw [m7]; omega),
    fun r a b => absurd b (by rw [m8]; omega),
    fun r a b => absurd b (by rw [m8]; omega),
    fun r a b => absurd b (by rw [m1]; omega)⟩
  have f5 : ∀ j, 0 ≤ j → j < 5 → I 95 j = 0 := fun j a b => by
    rcases (show j = 0 ∨ j = 1 ∨ j = 2 ∨ j = 3 ∨ j = 4 by omega) with rfl | rfl | rfl | rfl | rfl
    · exact (nu (95, 0, 0) (List.mem_of_getElem? (i := 108) rfl))
    · exact (nu (95, 1, 0) (List.mem_of_getElem? (i := 109) rfl))
    · exact (nu (95, 2, 0) (List.mem_of_getElem? (i := 110) rfl))
    · exact (nu (95, 3, 0) (List.mem_of_getElem? (i := 111) rfl))
    · exact (nu (95, 4, 0) (List.mem_of_getElem? (i := 112) rfl))
  have k3 : I 90 3 = 0 := (nu (90, 3, 0) (List.mem_of_getElem? (i := 97) rfl))
  have k10 : I 3 10 = 0 := (nu (3, 10, 0) (List.mem_of_getElem? (i := 0) rfl))
  have k17 : I 90 17 = 0 := (nu (90, 17, 0) (List.mem_of_getElem? (i := 103) rfl))
  refine ⟨hS, hX, ⟨h2, hl⟩, ⟨hTR, hIM, fun l a b => absurd b (by rw [m3]; omega), fun l a b => absurd b (by rw [m3]; omega)⟩, ⟨⟨(nu (28, 0, 10) (List.mem_of_getElem? (i := 36) rfl)), (nu (28, 1, 2) (List.mem_of_getElem? (i := 37) rfl)), (nu (30, 0, 20) (List.mem_of_getElem? (i := 39) rfl)), (nu (30, 1, 3) (List.mem_of_getElem? (i := 40) rfl)), (nu (32, 0, 10) (List.mem_of_getElem? (i := 42) rfl)), (nu (32, 1, 3) (List.mem_of_getElem? (i := 43) rfl)), (nu (34, 0, 16) (List.mem_of_getElem? (i := 45) rfl)), (nu (34, 1, 4) (List.mem_of_getElem? (i := 46) rfl)), (nu (36, 0, 16) (List.mem_of_getElem? (i := 48) rfl)), (nu (36, 1, 3) (List.mem_of_getElem? (i := 49) rfl)), (nu (38, 0, 8) (List.mem_of_getElem? (i := 51) rfl)), (nu (38, 1, 2) (List.mem_of_getElem? (i := 52) rfl)), (nu (40, 0, 16) (List.mem_of_getElem? (i := 54) rfl)), (nu (40, 1, 3) (List.mem_of_getElem? (i := 55) rfl)), (nu (42, 0, 20) (List.mem_of_getElem? (i := 57) rfl)), (nu (42, 1, 2) (List.mem_of_getElem? (i := 58) rfl))⟩, ⟨(nu (49, 0, 10) (List.mem_of_getElem? (i := 67) rfl)), (nu (49, 1, 2) (List.mem_of_getElem? (i := 68) rfl)), (nu (51, 0, 20) (List.mem_of_getElem? (i := 70) rfl)), (nu (51, 1, 3) (List.mem_of_getElem? (i := 71) rfl)), (nu (53, 0, 10) (List.mem_of_getElem? (i := 73) rfl)), (nu (53, 1, 3) (List.mem_of_getElem? (i := 74) rfl)), (nu (55, 0, 16) (List.mem_of_getElem? (i := 76) rfl)), (nu (55, 1, 4) (List.mem_of_getElem? (i := 77) rfl)), (nu (57, 0, 16) (List.mem_of_getElem? (i := 79) rfl)), (nu (57, 1, 3) (List.mem_of_getElem? (i := 80) rfl)), (nu (59, 0, 8) (List.mem_of_getElem? (i := 82) rfl)), (nu (59, 1, 2) (List.mem_of_getElem? (i := 83) rfl)), (nu (61, 0, 16) (List.mem_of_getElem? (i := 85) rfl)), (nu (61, 1, 3) (List.mem_of_getElem? (i := 86) rfl)), (nu (63, 0, 20) (List.mem_of_getElem? (i := 88) rfl)), (nu (63, 1, 2) (List.mem_of_getElem? (i := 89) rfl))⟩⟩, ⟨(nu (90, 22, (-1)) (List.mem_of_getElem? (i := 104) rfl)), (nu (90, 29, (-1)) (List.mem_of_getElem? (i := 106) rfl)), ?_, ?_⟩, ⟨k3.trans k10.symm, fun q => absurd k10 q⟩, TP.z (nu (90, 6, 0) (List.mem_of_getElem? (i := 98) rfl)) (nu (4, 1, 0) (List.mem_of_getElem? (i := 2) rfl)), ⟨⟨fun _ => 0, ⟨fun _ _ _ => ⟨Int.le_refl 0, (show (0 : Int) ≤ 300 from by decide)⟩, fun _ _ _ => .inl rfl⟩, f5, (nu (90, 13, 0) (List.mem_of_getElem? (i := 100) rfl)), (nu (90, 14, 0) (List.mem_of_getElem? (i := 101) rfl)), (nu (90, 15, 0) (List.mem_of_getElem? (i := 102) rfl))⟩, by rw [k17]; omega⟩, (nu (90, 10, (-1)) (List.mem_of_getElem? (i := 99) rfl)).trans (nu (3, 11, (-1)) (List.mem_of_getElem? (i := 1) rfl)).symm⟩
  · rw [show I 90 23 = 0 from (nu (90, 23, 0) (List.mem_of_getElem? (i := 105) rfl))]; exact ⟨by decide, by decide⟩
  · rw [show I 90 30 = 0 from (nu (90, 30, 0) (List.mem_of_getElem? (i := 107) rfl))]; exact ⟨by decide, by decide⟩
theorem LT2_ : (LT.all fun q => decide (q.1 ≠ 2)) = true := by decide +kernel
theorem LT2 (q : Nat × Int) (h : q ∈ LT) (w : q.1 < 3) : q.1 = 0 ∨ q.1 = 1 := by
  have z := List.all_eq_true.mp LT2_ q h
  rw [decide_eq_true_eq] at z
  omega
theorem gNu_3 : (gNu.all fun q => decide (3 ≤ q.1)) = true := by decide +kernel
theorem g0_ag (I : qI) (H : qS) (hI : ∀ a, 3 ≤ a → I a = fun _ => 0) (hR : ∀ a, H.1 a = fun _ => none) (hL : ∀ a, 3 ≤ a → H.2.1 a = 0) : AG (I, H) hp0 :=
  ⟨fun a q => hI a q, fun a _ => hR a, fun a q => hL a q⟩
theorem hpV_li {L : Int} {I : qI} {H : qS} (hI : ∀ a, 3 ≤ a → I a = fun _ => 0) (hR : ∀ a, H.1 a = fun _ => none) (hL : ∀ a, 3 ≤ a → H.2.1 a = 0) (hX : SX I) (hl : H.2.1 2 = L) (h0 : H.2.1 0 = 8) (h1 : H.2.1 1 = 8) : LI (I 2) L 0 (hpV (I, H)).1 (hpV (I, H)).2 := by
  have ag := hpV_ag (g0_ag I H hI hR hL)
  have s2 := hpV_s2 (I, H)
  have hn := hpV_n (I, H)
  generalize hpV (I, H) = W at *
  obtain ⟨J, G⟩ := W
  obtain ⟨a1, a2, a3⟩ := ag
  have r := List.all_eq_true.mp hp0_r
  have l := List.all_eq_true.mp hp0_l
  have n3 := List.all_eq_true.mp gNu_3
  have nn := List.all_eq_true.mp (show (gNu.all fun q => decide ((hpV hp0).1 q.1 q.2.1 = q.2.2)) = true from hp0_n)
  have zz := List.all_eq_true.mp hp0_z
  have z9 : ∀ j : Int, 0 ≤ j → j < 100 → (hpV hp0).1 24 j = 0 ∧ (hpV hp0).1 25 j = 0 ∧ (hpV hp0).1 91 (20 + j) = 0 ∧ (hpV hp0).1 91 (230 + j) = 0 := fun j q0 q1 => by
    have w := zz j.toNat (List.mem_range.mpr (by omega))
    rw [Bool.and_eq_true, Bool.and_eq_true, Bool.and_eq_true, decide_eq_true_eq, decide_eq_true_eq, decide_eq_true_eq, decide_eq_true_eq, Int.toNat_of_nonneg q0] at w
    exact ⟨w.1.1.1, w.1.1.2, w.1.2, w.2⟩
  generalize hpV hp0 = V at *
  refine hp_li (fun q hq => ?_) ⟨fun q hq => ?_, fun q hq => ?_, Nat.le_of_eq hn.symm⟩ (hX.fr (s2 0 (by omega)).1 (s2 1 (by omega)).1) (s2 2 (by omega)).1 ((s2 2 (by omega)).2.trans hl) (fun j q0 q1 => ?_) (fun j q0 q1 => ?_) (fun j q0 q1 => ?_) (fun j q0 q1 => ?_)
  · have w := nn q hq
    have w3 := n3 q hq
    rw [decide_eq_true_eq] at w w3
    exact (congrFun (a1 q.1 w3) q.2.1).trans w
  · have w := r q hq
    rw [Bool.and_eq_true, decide_eq_true_eq, decide_eq_true_eq] at w
    exact (congrFun (a2 q.1 w.1) q.2.1).trans w.2
  · have w := l q hq
    rw [Bool.or_eq_true, Bool.and_eq_true, Bool.and_eq_true, decide_eq_true_eq, decide_eq_true_eq, decide_eq_true_eq, decide_eq_true_eq] at w
    rcases w with w | w
    · have q3 : q.1 = 0 ∨ q.1 = 1 := LT2 q hq w.1
      rw [w.2]
      rcases q3 with q3 | q3
      · rw [q3]; exact (s2 0 (by omega)).2.trans h0
      · rw [q3]; exact (s2 1 (by omega)).2.trans h1
    · exact (a3 q.1 w.1).trans w.2
  · exact (congrFun (a1 24 (by omega)) j).trans (z9 j q0 q1).1
  · exact (congrFun (a1 25 (by omega)) j).trans (z9 j q0 q1).2.1
  · exact (congrFun (a1 91 (by omega)) _).trans (z9 j q0 q1).2.2.1
  · exact (congrFun (a1 91 (by omega)) _).trans (z9 j q0 q1).2.2.2
theorem swt_of {K : Nat → Prop} {a : Int} : ∀ (l : List Nat) (v : Int), (∀ t, t ∈ l → K t) → swt K a v l
  | [], _, _ => trivial
  | t :: l, v, h => ⟨fun _ => h t (List.mem_cons_self ..), swt_of l (v + 1) fun u q => h u (List.mem_cons_of_mem _ q)⟩
theorem law_all {d : Nat} {P : Option qV → qH → Prop} {X : Nat → qH → Prop} {I : qI} {H : qS} {f : Int → Int} {L i : Int} {x5 x6 : Option qV} {c s : Nat} (hd : 100 ≤ d) (hI : LI f L i I H) (hi : 0 ≤ i ∧ i + 6 ≤ L ∧ L ≤ 3072) (hc : (c : Int) ≤ 1000 + 100 * i ∧ (s : Int) ≤ 40000 + 2000 * i) (h : ∀ (K : qI) (G : qS) (y5 y6 : Option qV) (c9 s9 : Nat), LI f L (i + 6) K G → (c9 ≤ c + 90 ∧ s9 ≤ s + 9000) → WP (Call d) 299 P X (1689, [some (vr (some 2) 102), some (vr (some 3) 9), some (vr (some 90) 10), some (vr (some 100) 13), some (vi i), y5, y6], [], (K, G), c9, s9)) : ∀ t, t ∈ [25, 82, 99, 124, 149, 156, 201, 236, 243, 288, 346, 401, 446, 491, 546, 611, 646, 701, 736, 743, 788, 833, 881, 934, 979, 1042, 1087, 1132, 1139, 1214, 1279, 1344, 1386, 1431, 1476, 1483, 1490, 1553, 1588, 1643, 1660, 1665, 1672] → WP (Call d) 299 P X (t, [some (vr (some 2) 102), some (vr (some 3) 9), some (vr (some 90) 10), some (vr (some 100) 13), some (vi i), x5, x6], [], (I, H), c, s) := by
  intro t ht
  simp only [List.mem_cons, List.not_mem_nil, or_false] at ht
  rcases ht with rfl | rfl | rfl | rfl | rfl | rfl | rfl | rfl | rfl | rfl | rfl | rfl | rfl | rfl | rfl | rfl | rfl | rfl | rfl | rfl | rfl | rfl | rfl | rfl | rfl | rfl | rfl | rfl | rfl | rfl | rfl | rfl | rfl | rfl | rfl | rfl | rfl | rfl | rfl | rfl | rfl | rfl | rfl
  · exact law_0 hd hI hi hc h
  · exact law_1 hd hI hi hc h
  · exact law_2 hd hI hi hc h
  · exact law_3 hd hI hi hc h
  · exact law_4 hd hI hi hc h
  · exact law_5 hd hI hi hc h
  · exact law_6 hd hI hi hc h
  · exact law_7 hd hI hi hc h
  · exact law_8 hd hI hi hc h
  · exact law_9 hd hI hi hc h
  · exact law_10 hd hI hi hc h
  · exact law_11 hd hI hi hc h
  · exact law_12 hd hI hi hc h
  · exact law_13 hd hI hi hc h
  · exact law_14 hd hI hi hc h
  · exact law_15 hd hI hi hc h
  · exact law_16 hd hI hi hc h
  · exact law_17 hd hI hi hc h
  · exact law_18 hd hI hi hc h
  · exact law_19 hd hI hi hc h
  · exact law_20 hd hI hi hc h
  · exact law_21 hd hI hi hc h
  · exact (Classical.em (I 2 (i + 2) = 0)).elim (fun zb => law_22t hd hI hi hc h zb) (fun zb => law_22f hd hI hi hc h zb)
  · exact law_23 hd hI hi hc h
  · exact (Classical.em (I 2 (i + 3) = 0)).elim (fun zb => law_24t hd hI hi hc h zb) (fun zb => law_24f hd hI hi hc h zb)
  · exact law_25 hd hI hi hc h
  · exact law_26 hd hI hi hc h
  · exact law_27 hd hI hi hc h
  · exact law_28 hd hI hi hc h
  · exact law_29 hd hI hi hc h
  · exact law_30 hd hI hi hc h
  · exact law_31 hd hI hi hc h
  · exact law_32 hd hI hi hc h
  · exact law_33 hd hI hi hc h
  · exact law_34 hd hI hi hc h
  · exact law_35 hd hI hi hc h
  · exact (Classical.em (I 2 (i + 3) = 0)).elim (fun zb => law_36t hd hI hi hc h zb) (fun zb => law_36f hd hI hi hc h zb)
  · exact law_37 hd hI hi hc h
  · exact law_38 hd hI hi hc h
  · exact law_39 hd hI hi hc h
  · exact law_40 hd hI hi hc h
  · exact law_41 hd hI hi hc h
  · exact law_42 hd hI hi hc h
theorem law_stop {d : Nat} {P : Option qV → qH → Prop} {X : Nat → qH → Prop} {f : Int → Int} {L : Int} (hL : 0 ≤ L ∧ L ≤ 3072) (hP : ∀ g, P (some (vi 1)) g) {I : qI} {H : qS} {i : Int} {x5 x6 : Option qV} {c s : Nat} (hI : LI f L i I H) (h0 : 0 ≤ i) (h1 : i ≤ 3072) (q : L < i + 6) (hc : (c : Int) ≤ 1000 + 100 * i ∧ (s : Int) ≤ 40000 + 2000 * i) :
    WP (Call d) 299 P X (13, [some (vr (some 2) 102), some (vr (some 3) 9), some (vr (some 90) 10), some (vr (some 100) 13), some (vi i), x5, x6], [], (I, H), c, s) := by
  have hl2 : H.2.1 2 = L := hI.2.2.1.2
  refine WP.go 3 (And.intro (Or.inl rfl) ?_)
  show WP (Call d) 299 P X (16, [some (vr (some 2) 102), some (vr (some 3) 9), some (vr (some 90) 10), some (vr (some 100) 13), some (vi i), x5, x6], [vi (H.2.1 2), vi i], (I, H), c, s)
  rw [hl2]
  refine WP.go 3 (Exists.intro (L - 6) (And.intro (wrp_a (by omega) (by omega)) (And.intro (fun _ => ?_) (fun z => absurd (show L - 6 < i from by omega) z))))
  show WP (Call d) 299 P X (1691, [some (vr (some 2) 102), some (vr (some 3) 9), some (vr (some 90) 10), some (vr (some 100) 13), some (vi i), x5, x6], [], (I, H), c, s)
  refine WP.go 2 (And.intro (And.intro (show c ≤ 601024 from by omega) (show s ≤ 7293034 from by omega)) (And.intro (Or.inr rfl) (hP _)))
theorem law_loop {d : Nat} {P : Option qV → qH → Prop} {X : Nat → qH → Prop} {f : Int → Int} {L : Int} (hd : 100 ≤ d) (hL : 0 ≤ L ∧ L ≤ 3072) (hP : ∀ g, P (some (vi 1)) g) : ∀ (k : Nat) {I : qI} {H : qS} {i : Int} {x5 x6 : Option qV} {c s : Nat}, LI f L i I H → 0 ≤ i → i ≤ 3072 → L ≤ i + k → ((c : Int) ≤ 1000 + 100 * i ∧ (s : Int) ≤ 40000 + 2000 * i) →
    WP (Call d) 299 P X (13, [some (vr (some 2) 102), some (vr (some 3) 9), some (vr (some 90) 10), some (vr (some 100) 13), some (vi i), x5, x6], [], (I, H), c, s) := by
  intro k
  induction k with
  | zero =>
    intro I H i x5 x6 c s hI h0 h1 hk hc
    exact law_stop hL hP hI h0 h1 (by omega) hc
  | succ k ih =>
    intro I H i x5 x6 c s hI h0 h1 hk hc
    by_cases q : L < i + 6
    · exact law_stop hL hP hI h0 h1 q hc
    · have hl2 : H.2.1 2 = L := hI.2.2.1.2
      refine WP.go 3 (And.intro (Or.inl rfl) ?_)
      show WP (Call d) 299 P X (16, [some (vr (some 2) 102), some (vr (some 3) 9), some (vr (some 90) 10), some (vr (some 100) 13), some (vi i), x5, x6], [vi (H.2.1 2), vi i], (I, H), c, s)
      rw [hl2]
      refine WP.go 3 (Exists.intro (L - 6) (And.intro (wrp_a (by omega) (by omega)) (And.intro (fun z => absurd (show L - 6 < i from z) (by omega)) (fun _ => ?_))))
      show WP (Call d) 299 P X (19, [some (vr (some 2) 102), some (vr (some 3) 9), some (vr (some 90) 10), some (vr (some 100) 13), some (vi i), x5, x6], [], (I, H), c, s)
      refine WP.go 5 (And.intro (And.intro rfl (And.intro h0 (show i < H.2.1 2 from by rw [hl2]; omega))) ?_)
      show WP (Call d) 299 P X (24, [some (vr (some 2) 102), some (vr (some 3) 9), some (vr (some 90) 10), some (vr (some 100) 13), some (vi i), x5, x6], [vi (zand (I 2 i) 63)], (I, H), c, s)
      have hh : ∀ (K : qI) (G : qS) (y5 y6 : Option qV) (c9 s9 : Nat), LI f L (i + 6) K G → (c9 ≤ c + 90 ∧ s9 ≤ s + 9000) → WP (Call d) 299 P X (1689, [some (vr (some 2) 102), some (vr (some 3) 9), some (vr (some 90) 10), some (vr (some 100) 13), some (vi i), y5, y6], [], (K, G), c9, s9) := by
        intro K G y5 y6 c9 s9 hK hc9
        refine WP.go 2 (Exists.intro (i + 6) (And.intro (wrp_a (by omega) (by omega)) ?_))
        show WP (Call d) 299 P X (13, [some (vr (some 2) 102), some (vr (some 3) 9), some (vr (some 90) 10), some (vr (some 100) 13), some (vi (i + 6)), y5, y6], [], (K, G), c9, s9)
        exact ih hK (by omega) (by omega) (by omega) (by omega)
      refine WP.go 1 (And.intro (fun _ => ?_) (swt_of _ _ ?_))
      · show WP (Call d) 299 P X (1689, [some (vr (some 2) 102), some (vr (some 3) 9), some (vr (some 90) 10), some (vr (some 100) 13), some (vi i), x5, x6], [], (I, H), c, s)
        exact hh I H x5 x6 c s hI.s (by omega)
      · exact law_all hd hI ⟨h0, by omega, hL.2⟩ hc hh
set_option maxRecDepth 20000 in
theorem law_run {d : Nat} {P : Option qV → qH → Prop} {X : Nat → qH → Prop} {g : qH} (hd : 4 ≤ d) (hn : g.2.2.2.2 = 0) (h : ∀ c s : Nat, c ≤ 1000 ∧ s ≤ 40000 → WP (Call d) 299 P X (13, [some (vr (some 2) 102), some (vr (some 3) 9), some (vr (some 90) 10), some (vr (some 100) 13), some (vi 0), none, none], [], hpV g, c, s)) :
    WP (Call d) 299 P X (0, ent 299 [vr (some 2) 102], [], g, 0, 0) := by
  obtain ⟨I, R, Ln, K, m⟩ := g
  have hn : 0 = m := hn.symm
  subst hn
  show WP (Call d) 299 P X (0, [some (vr (some 2) 102), none, none, none, none, none, none], [], (I, (R, Ln, K, 0)), 0, 0)
  refine WP.go 1 (And.intro (And.intro (show 1 ≤ 601024 from by decide) (show 12 ≤ 7293034 from by decide)) ?_)
  show WP (Call d) 299 P X (1, [some (vr (some 2) 102), none, none, none, none, none, none], [vr (some 3) 9], (gN 0 0 9 (I, (R, Ln, K, 0))), 1, 12)
  refine WP.go 2 (And.intro (And.intro (show 87 ≤ 601024 from by decide) (show 12012 ≤ 7293034 from by decide)) (And.intro rfl ?_))
  show Call d 115 [vr (some 3) 9] (gN 0 0 9 (I, (R, Ln, K, 0))) _ _
  refine c_11 (by omega) rfl ?_
  show WP (Call d) 299 P X (3, [some (vr (some 2) 102), none, none, none, none, none, none], [vr (some 3) 9], (k11 1 3 (gN 0 0 9 (I, (R, Ln, K, 0)))), 87, 12012)
  refine WP.go 2 (And.intro (And.intro (show 88 ≤ 601024 from by decide) (show 12044 ≤ 7293034 from by decide)) ?_)
  show WP (Call d) 299 P X (5, [some (vr (some 2) 102), some (vr (some 3) 9), none, none, none, none, none], [vr (some 90) 10], (gN 87 0 10 (k11 1 3 (gN 0 0 9 (I, (R, Ln, K, 0))))), 88, 12044)
  refine WP.go 2 (And.intro (And.intro (show 97 ≤ 601024 from by decide) (show 28044 ≤ 7293034 from by decide)) (And.intro rfl ?_))
  show Call d 175 [vr (some 90) 10] (gN 87 0 10 (k11 1 3 (gN 0 0 9 (I, (R, Ln, K, 0))))) _ _
  refine c_12 (by omega) rfl ?_
  show WP (Call d) 299 P X (7, [some (vr (some 2) 102), some (vr (some 3) 9), none, none, none, none, none], [vr (some 90) 10], (k12 88 90 (gN 87 0 10 (k11 1 3 (gN 0 0 9 (I, (R, Ln, K, 0)))))), 97, 28044)
  refine WP.go 3 (And.intro (And.intro (And.intro (by decide) (by decide)) (And.intro (show 98 ≤ 601024 from by decide) (show 28045 ≤ 7293034 from by decide))) ?_)
  show WP (Call d) 299 P X (10, [some (vr (some 2) 102), some (vr (some 3) 9), some (vr (some 90) 10), none, none, none, none], [vr (some 100) 13], (gN 97 1 13 (k12 88 90 (gN 87 0 10 (k11 1 3 (gN 0 0 9 (I, (R, Ln, K, 0))))))), 98, 28045)
  refine WP.go 3 ?_
  show WP (Call d) 299 P X (13, [some (vr (some 2) 102), some (vr (some 3) 9), some (vr (some 90) 10), some (vr (some 100) 13), some (vi 0), none, none], [], hpV (I, (R, Ln, K, 0)), 98, 28045)
  exact h 98 28045 (by omega)
theorem law_fun {L : Nat} {I : qI} {H : qS} {d : Nat} (hd : 100 ≤ d) (hL9 : L ≤ 3072) (hn : H.2.2.2 = 0) (hI : ∀ a, 3 ≤ a → I a = fun _ => 0) (hR : ∀ a, H.1 a = fun _ => none) (hL : ∀ a, 3 ≤ a → H.2.1 a = 0) (hX : SX I) (hl : H.2.1 2 = (L : Int)) (h0 : H.2.1 0 = 8) (h1 : H.2.1 1 = 8) :
    WP (Call d) 299 (fun v _ => v = some (vi 1)) (fun _ _ => False) (0, ent 299 [vr (some 2) 102], [], (I, H), 0, 0) := by
  refine law_run (by omega) hn (fun c s hc => ?_)
  have hI := hpV_li hI hR hL hX hl h0 h1
  generalize hpV (I, H) = W at hI ⊢
  obtain ⟨J, G⟩ := W
  exact law_loop hd ⟨by omega, by omega⟩ (fun _ => rfl) L hI (by omega) (by omega) (by omega) (by omega)
