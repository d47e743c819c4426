theorem s_8_raise {d : Nat} {P : Option qV → qH → Prop} {X : Nat → qH → Prop} {I : qI} {H : qS} {μ : Int → Int} (hd : 3 ≤ d) {h9 b : Int} (hS : Shp H) (hT : TR 6 I μ) (hV : IM μ) (hh : 0 ≤ h9 ∧ h9 < μ 1) (hb : 1 ≤ b ∧ b < 30 ∧ μ (121 + 2 * h9) + b ≤ 30) (h : ∀ J : qI, CU I J (uBld μ h9 b) → P none (J, H)) :
    Call d 101 [vr (some 6) 6, vi h9, vi b] (I, H) P X := by
  obtain ⟨d, rfl⟩ : ∃ e, d = e + 1 := ⟨d - 1, by omega⟩
  have hn8 := hV.n8
  have hn1 := hV.n1
  have hhh := hV.hh h9 hh.1 hh.2
  show WP (Call d) 101 P X (0, [some (vr (some 6) 6), some (vi h9), some (vi b)], [], (I, H), 0, 0)
  refine WP.go 7 (And.intro rfl (Exists.intro 7 (And.intro hS.r6_0 (And.intro (And.intro (Nat.le_of_ble_eq_true rfl) (Nat.le_of_ble_eq_true rfl)) (And.intro rfl (?_))))))
  show Call d 94 [vr (some 6) 6, vi h9] (I, H) _ _
  refine s_8_heightOf (by omega) hS (.inl rfl) hT hV (by omega) ?_
  show WP (Call d) 101 P X (7, [some (vr (some 6) 6), some (vi h9), some (vi b)], [vi (μ (121 + 2 * h9)), vi 1, vi h9, vr (some 7) 4], (I, H), 0, 0)
  refine WP.go 3 (Exists.intro ((μ (121 + 2 * h9)) + b) (And.intro (wrp_a (by omega) (by omega)) (And.intro (And.intro (Nat.le_of_ble_eq_true rfl) (Nat.le_of_ble_eq_true rfl)) (And.intro rfl (?_)))))
  show Call d 59 [vr (some 7) 4, vi h9, vi 1, vi ((μ (121 + 2 * h9)) + b)] (I, H) _ _
  refine s_5_set_w2 (by omega) hS.r7_2 hT.c.b1 hT.r1 hS.l8 (by omega) (by omega) (by omega) (fun J9 e9 f9 => ?_)
  show WP (Call d) 101 P X (10, [some (vr (some 6) 6), some (vi h9), some (vi b)], [], (J9, H), 0, 0)
  refine WP.go 3 (And.intro rfl (Exists.intro 21 (And.intro hS.r6_7 (And.intro (And.intro (Nat.le_of_ble_eq_true rfl) (Nat.le_of_ble_eq_true rfl)) (And.intro rfl (?_))))))
  show Call d 57 [vr (some 21) 4] (J9, H) _ _
  refine s_5_hasRoom (by omega) ((congrFun (f9 21 (by omega)) 0).trans hT.c.a15) ((congrFun (f9 21 (by omega)) 3).trans hT.r15) ?_
  show WP (Call d) 101 P X (13, [some (vr (some 6) 6), some (vi h9), some (vi b)], [vi (bz ((μ 8) < 20))], (J9, H), 0, 0)
  refine WP.go 1 (And.intro (fun (b13 : ¬ bz ((μ 8) < 20) = 0) => ?_) (fun (b13 : bz ((μ 8) < 20) = 0) => ?_))
  ·
    show WP (Call d) 101 P X (17, [some (vr (some 6) 6), some (vi h9), some (vi b)], [], (J9, H), 0, 0)
    have z13 := bz_e1.mp b13
    refine WP.go 7 (And.intro rfl (Exists.intro 21 (And.intro hS.r6_7 (And.intro (And.intro (Nat.le_of_ble_eq_true rfl) (Nat.le_of_ble_eq_true rfl)) (And.intro rfl (?_))))))
    show Call d 60 [vr (some 21) 4, vi h9, vi b, vi 0, vi 0] (J9, H) _ _
    refine s_5_add_w2 (by omega) hS.r21_2 ((congrFun (f9 21 (by omega)) 0).trans hT.c.a15) ((congrFun (f9 21 (by omega)) 1).trans hT.c.b15) ((congrFun (f9 21 (by omega)) 3).trans hT.r15) hS.l22 (by omega) (by omega) (fun J23 e23 f23 g23 => ?_)
    show WP (Call d) 101 P X (24, [some (vr (some 6) 6), some (vi h9), some (vi b)], [vi (μ 8)], (J23, H), 0, 0)
    refine WP.go 2 (And.intro (And.intro (Nat.le_of_ble_eq_true rfl) (Nat.le_of_ble_eq_true rfl)) (?_))
    show P none (J23, H)
    exact h _ ⟨fun a q => by rw [g23 a (by omega) (by omega), f9 a (by omega)], by rw [show uBld μ h9 b = uBlA μ h9 b from if_neg (by omega)]; exact TR_uBlA hT hV hh (by omega) ((g23 8 (by omega) (by omega)).trans e9) (e23.trans (by rw [f9 21 (by omega)])) (f23.trans (by rw [f9 22 (by omega)])) (fun a q1 q2 q3 => by rw [g23 a q2 q3, f9 a q1])⟩
  ·
    show WP (Call d) 101 P X (14, [some (vr (some 6) 6), some (vi h9), some (vi b)], [], (J9, H), 0, 0)
    have z13 := bz_e0.mp b13
    refine WP.go 3 (And.intro rfl (Exists.intro 21 (And.intro hS.r6_7 (And.intro (And.intro (Nat.le_of_ble_eq_true rfl) (Nat.le_of_ble_eq_true rfl)) (And.intro rfl (?_))))))
    show Call d 61 [vr (some 21) 4] (J9, H) _ _
    refine s_5_dropFirst (by omega) hS.r21_2 ((congrFun (f9 21 (by omega)) 1).trans hT.c.b15) ((congrFun (f9 21 (by omega)) 3).trans hT.r15) hS.l22 (by omega) (fun J16 e16 g16 f16 => ?_)
    show WP (Call d) 101 P X (17, [some (vr (some 6) 6), some (vi h9), some (vi b)], [], (J16, H), 0, 0)
    refine WP.go 7 (And.intro rfl (Exists.intro 21 (And.intro hS.r6_7 (And.intro (And.intro (Nat.le_of_ble_eq_true rfl) (Nat.le_of_ble_eq_true rfl)) (And.intro rfl (?_))))))
    show Call d 60 [vr (some 21) 4, vi h9, vi b, vi 0, vi 0] (J16, H) _ _
    refine s_5_add_w2 (by omega) hS.r21_2 (show J16 21 0 = 20 by rw [e16]; exact ((congrFun (f9 21 (by omega)) 0).trans hT.c.a15)) (show J16 21 1 = 2 by rw [e16]; exact ((congrFun (f9 21 (by omega)) 1).trans hT.c.b15)) (show J16 21 3 = 19 by rw [e16]; show μ 8 - 1 = 19; have := bz_e0.mp b13; omega) hS.l22 (by omega) (by omega) (fun J23_1 e23_1 f23_1 g23_1 => ?_)
    show WP (Call d) 101 P X (24, [some (vr (some 6) 6), some (vi h9), some (vi b)], [vi 19], (J23_1, H), 0, 0)
    refine WP.go 2 (And.intro (And.intro (Nat.le_of_ble_eq_true rfl) (Nat.le_of_ble_eq_true rfl)) (?_))
    show P none (J23_1, H)
    refine h _ ⟨fun a q => by rw [g23_1 a (by omega) (by omega), f16 a (by omega) (by omega), f9 a (by omega)], ?_⟩
    rw [show uBld μ h9 b = uBlB μ h9 b from if_pos (by omega)]
    refine TR_uBlB hT hV hh (by omega) ((g23_1 8 (by omega) (by omega)).trans ((f16 8 (by omega) (by omega)).trans e9)) ?_ (fun j q0 q1 => ?_) (fun a q1 q2 q3 => by rw [g23_1 a q2 q3, f16 a q2 q3, f9 a q1])
    · rw [e23_1, e16, f9 21 (by omega)]
      refine funext fun s => ?_
      show (if s = 3 then (19 : Int) + 1 else if s = 3 then μ 8 - 1 else I 21 s) = _
      by_cases z : s = 3
      · rw [if_pos z, if_pos z]; rfl
      · rw [if_neg z, if_neg z, if_neg z]
    · rw [f23_1]
      show (if j = 19 * 2 + 1 then b else (if j = 19 * 2 + 0 then h9 else J16 22 j)) = _
      by_cases z : j = 39
      · rw [if_pos (by omega), if_pos z]
      by_cases w : j = 38
      · rw [if_neg (by omega), if_pos (by omega), if_neg z, if_pos w]
      · rw [if_neg (by omega), if_neg (by omega), if_neg z, if_neg w, g16 j q0 (by omega), f9 22 (by omega)]

theorem uBld_h {μ : Int → Int} {h n : Int} (hV : IM μ) (hh : 0 ≤ h ∧ h < μ 1) : uBld μ h n (121 + 2 * h) = μ (121 + 2 * h) + n := by
  have h1 := hV.n1
  have h8 := hV.n8
  unfold uBld
  split
  · exact uBlB_h (by omega)
  · exact uBlA_h (by omega) (by omega)
theorem uBld_1 {μ : Int → Int} {h n : Int} (hV : IM μ) (hh : 0 ≤ h ∧ h < μ 1) : uBld μ h n 1 = μ 1 := by
  have h1 := hV.n1
  have h8 := hV.n8
  unfold uBld
  split
  · exact uBlB_o (by omega) 1 (by omega)
  · exact uBlA_o μ h n 1 (by omega)
theorem s_11_build {d : Nat} {P : Option qV → qH → Prop} {X : Nat → qH → Prop} {I : qI} {H : qS} {μ : Int → Int} (hd : 4 ≤ d) {h9 b : Int} (hS : Shp H) (hX : SX I) (hT : TR 6 I μ) (hV : IM μ) (h : ((0 ≤ h9 ∧ h9 < μ 1) ∧ (1 ≤ b ∧ b < 30 ∧ μ (121 + 2 * h9) + b ≤ 30)) → ∀ J : qI, CU I J (uBld μ h9 b) → P (some (vi (μ (121 + 2 * h9) + b))) (J, H)) (hx1 : ¬ ((0 ≤ h9 ∧ h9 < μ 1)) → X 1 (I, H)) (hx0 : (0 ≤ h9 ∧ h9 < μ 1) ∧ ¬ (1 ≤ b ∧ b < 30 ∧ μ (121 + 2 * h9) + b ≤ 30) → X 0 (I, H)) :
    Call d 142 [vr (some 3) 9, vi h9, vi b] (I, H) P X := by
  obtain ⟨d, rfl⟩ : ∃ e, d = e + 1 := ⟨d - 1, by omega⟩
  show WP (Call d) 142 P X (0, [some (vr (some 3) 9), some (vi h9), some (vi b)], [], (I, H), 0, 0)
  refine WP.go 3 (And.intro (And.intro (Nat.le_of_ble_eq_true rfl) (Nat.le_of_ble_eq_true rfl)) (And.intro rfl (?_)))
  show Call d 167 [vr (some 3) 9, vi h9] (I, H) _ _
  refine s_11_needHouse (by omega) hS hT (fun q2 => ?_) (fun q9 => hx1 (by omega))
  show WP (Call d) 142 P X (3, [some (vr (some 3) 9), some (vi h9), some (vi b)], [], (I, H), 1, 6)
  refine WP.go 4 (And.intro (And.intro (Nat.le_of_ble_eq_true rfl) (Nat.le_of_ble_eq_true rfl)) (And.intro rfl (?_)))
  show Call d 172 [vr (some 3) 9, vi h9, vi b] (I, H) _ _
  refine s_11_needHeight (by omega) hS hT hV (by omega) (fun q6 => ?_) (fun q9 => hx0 (by omega))
  show WP (Call d) 142 P X (7, [some (vr (some 3) 9), some (vi h9), some (vi b)], [], (I, H), 2, 12)
  refine WP.go 5 (And.intro rfl (Exists.intro 6 (And.intro hS.r3_4 (And.intro (And.intro (Nat.le_of_ble_eq_true rfl) (Nat.le_of_ble_eq_true rfl)) (And.intro rfl (?_))))))
  show Call d 101 [vr (some 6) 6, vi h9, vi b] (I, H) _ _
  refine s_8_raise (by omega) hS hT hV (by omega) (by omega) (fun J11 g11 => ?_)
  show WP (Call d) 142 P X (12, [some (vr (some 3) 9), some (vi h9), some (vi b)], [], (J11, H), 2, 12)
  refine WP.go 4 (And.intro rfl (Exists.intro 6 (And.intro hS.r3_4 (And.intro (And.intro (Nat.le_of_ble_eq_true rfl) (Nat.le_of_ble_eq_true rfl)) (And.intro rfl (?_))))))
  show Call d 94 [vr (some 6) 6, vi h9] (J11, H) _ _
  refine s_8_heightOf (by omega) hS (.inl rfl) g11.2 (IM_uBld hV (by omega) (by omega)) (by rw [uBld_1 hV (by omega)]; omega) ?_
  show WP (Call d) 142 P X (16, [some (vr (some 3) 9), some (vi h9), some (vi b)], [vi (uBld μ h9 b (121 + 2 * h9))], (J11, H), 2, 12)
  refine WP.go 1 (And.intro (And.intro (Nat.le_of_ble_eq_true rfl) (Nat.le_of_ble_eq_true rfl)) (And.intro trivial (?_)))
  show P (some (vi (uBld μ h9 b (121 + 2 * h9)))) (J11, H)
  exact fin_i (uBld_h hV (by omega)) (h (by omega) _ g11)

/-- what a copy of a town holds -/
def CPY (n m : Nat) (I J : qI) : Prop := (∀ k, k = 1 ∨ k = 3 ∨ k = 5 ∨ k = 7 ∨ k = 9 ∨ k = 11 ∨ k = 13 ∨ k = 15 → ∀ s, s ≠ 3 → J (n + k) s = I (n + k) s) ∧ (∀ k, k = 1 ∨ k = 3 ∨ k = 5 ∨ k = 7 ∨ k = 9 ∨ k = 11 ∨ k = 13 ∨ k = 15 → J (n + k) 3 = I (m + k) 3) ∧
  ((∀ j, 0 ≤ j → j < 20 → J (n + 2) j = I (m + 2) j) ∧ (∀ j, 0 ≤ j → j < 60 → J (n + 4) j = I (m + 4) j) ∧ (∀ j, 0 ≤ j → j < 30 → J (n + 6) j = I (m + 6) j) ∧ (∀ j, 0 ≤ j → j < 64 → J (n + 8) j = I (m + 8) j) ∧ (∀ j, 0 ≤ j → j < 48 → J (n + 10) j = I (m + 10) j) ∧ (∀ j, 0 ≤ j → j < 16 → J (n + 12) j = I (m + 12) j) ∧ (∀ j, 0 ≤ j → j < 48 → J (n + 14) j = I (m + 14) j) ∧ (∀ j, 0 ≤ j → j < 40 → J (n + 16) j = I (m + 16) j)) ∧ (∀ j, 0 ≤ j → j < 5 → J (n + 17) j = I (m + 17) j) ∧ (∀ j, 0 ≤ j → j < 100 → J (n + 18) j = I (m + 18) j) ∧ (∀ j, 0 ≤ j → j < 100 → J (n + 19) j = I (m + 19) j) ∧ J n 12 = I m 12 ∧ J n 13 = I m 13
theorem CPY.tr {n m : Nat} {I J : qI} {μ : Int → Int} (h : CPY n m I J) (hT : TR m I μ) (hC : CT n I) (hV : IM μ) : TR n J μ := by
  obtain ⟨hC9, hR, ⟨c1, c3, c5, c7, c9, c11, c13, c15⟩, hD, hW, hO, hL, hX⟩ := h
  have hn1 := hV.n1
  have hn2 := hV.n2
  have hn3 := hV.n3
  have hn4 := hV.n4
  have hn5 := hV.n5
  have hn6 := hV.n6
  have hn7 := hV.n7
  have hn8 := hV.n8
  exact ⟨⟨(hC9 1 (by omega) 0 (by omega)).trans hC.a1, (hC9 1 (by omega) 1 (by omega)).trans hC.b1, (hC9 3 (by omega) 0 (by omega)).trans hC.a3, (hC9 3 (by omega) 1 (by omega)).trans hC.b3, (hC9 5 (by omega) 0 (by omega)).trans hC.a5, (hC9 5 (by omega) 1 (by omega)).trans hC.b5, (hC9 7 (by omega) 0 (by omega)).trans hC.a7, (hC9 7 (by omega) 1 (by omega)).trans hC.b7, (hC9 9 (by omega) 0 (by omega)).trans hC.a9, (hC9 9 (by omega) 1 (by omega)).trans hC.b9, (hC9 11 (by omega) 0 (by omega)).trans hC.a11, (hC9 11 (by omega) 1 (by omega)).trans hC.b11, (hC9 13 (by omega) 0 (by omega)).trans hC.a13, (hC9 13 (by omega) 1 (by omega)).trans hC.b13, (hC9 15 (by omega) 0 (by omega)).trans hC.a15, (hC9 15 (by omega) 1 (by omega)).trans hC.b15⟩, (hR 1 (by omega)).trans hT.r1, (hR 3 (by omega)).trans hT.r3, (hR 5 (by omega)).trans hT.r5, (hR 7 (by omega)).trans hT.r7, (hR 9 (by omega)).trans hT.r9, (hR 11 (by omega)).trans hT.r11, (hR 13 (by omega)).trans hT.r13, (hR 15 (by omega)).trans hT.r15, hL.trans hT.lc, hX.trans hT.tx,
    fun r q0 q1 => ⟨(c1 _ (by omega) (by omega)).trans (hT.q1 r q0 q1).1, (c1 _ (by omega) (by omega)).trans (hT.q1 r q0 q1).2⟩,
    fun r q0 q1 => ⟨(c3 _ (by omega) (by omega)).trans (hT.q3 r q0 q1).1, (c3 _ (by omega) (by omega)).trans (hT.q3 r q0 q1).2.1, (c3 _ (by omega) (by omega)).trans (hT.q3 r q0 q1).2.2⟩,
    fun r q0 q1 => ⟨(c5 _ (by omega) (by omega)).trans (hT.q5 r q0 q1).1, (c5 _ (by omega) (by omega)).trans (hT.q5 r q0 q1).2.1, (c5 _ (by omega) (by omega)).trans (hT.q5 r q0 q1).2.2⟩,
    fun r q0 q1 => ⟨(c7 _ (by omega) (by omega)).trans (hT.q7 r q0 q1).1, (c7 _ (by omega) (by omega)).trans (hT.q7 r q0 q1).2.1, (c7 _ (by omega) (by omega)).trans (hT.q7 r q0 q1).2.2.1, (c7 _ (by omega) (by omega)).trans (hT.q7 r q0 q1).2.2.2⟩,
    fun r q0 q1 => ⟨(c9 _ (by omega) (by omega)).trans (hT.q9 r q0 q1).1, (c9 _ (by omega) (by omega)).trans (hT.q9 r q0 q1).2.1, (c9 _ (by omega) (by omega)).trans (hT.q9 r q0 q1).2.2⟩,
    fun r q0 q1 => ⟨(c11 _ (by omega) (by omega)).trans (hT.q11 r q0 q1).1, (c11 _ (by omega) (by omega)).trans (hT.q11 r q0 q1).2⟩,
    fun r q0 q1 => ⟨(c13 _ (by omega) (by omega)).trans (hT.q13 r q0 q1).1, (c13 _ (by omega) (by omega)).trans (hT.q13 r q0 q1).2.1, (c13 _ (by omega) (by omega)).trans (hT.q13 r q0 q1).2.2⟩,
    fun r q0 q1 => ⟨(c15 _ (by omega) (by omega)).trans (hT.q15 r q0 q1).1, (c15 _ (by omega) (by omega)).trans (hT.q15 r q0 q1).2⟩,
    fun i q0 q1 => (hD i q0 q1).trans (hT.di i q0 q1), fun i q0 q1 => (hW i q0 q1).trans (hT.wi i q0 q1), fun i q0 q1 => (hO i q0 q1).trans (hT.ro i q0 q1)⟩
