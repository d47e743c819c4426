noncomputable def SWA (μ : Int → Int) (fm wh : Int) : Int := if 7 < μ 1 then -3 else if fm = -1 then (if wh = 0 then (RW μ).2.1 else (RW μ).2.2.1) else (RW μ).2.2.2 fm
noncomputable def uMov (μ : Int → Int) : Int → Int := fun j => if 200 ≤ j ∧ j < 200 + μ 1 then (RW μ).2.2.2 (j - 200) else μ j
noncomputable def MVC (μ : Int → Int) : Int := sI (fun f => if (RW μ).2.2.2 f = μ (200 + f) then 0 else 1) 0 (μ 1)
theorem uMov_o (μ : Int → Int) : ∀ j, j < 200 ∨ 200 + μ 1 ≤ j → uMov μ j = μ j := fun j q => if_neg (by omega)
theorem uMov_f (μ : Int → Int) {f : Int} (h0 : 0 ≤ f) (h : f < μ 1) : uMov μ (200 + f) = (RW μ).2.2.2 f := by
  unfold uMov
  rw [if_pos (by omega), show 200 + f - 200 = f by omega]
theorem TR_uMov {I J : qI} {μ : Int → Int} (hT : TR 6 I μ) (hV : IM μ) (f : ∀ r, 0 ≤ r → r < μ 1 → J 12 (r * 3 + 0) = I 12 (r * 3 + 0) ∧ J 12 (r * 3 + 1) = I 12 (r * 3 + 1) ∧ J 12 (r * 3 + 2) = (RW μ).2.2.2 r) (F : ∀ a, a ≠ 12 → 6 ≤ a → a < 27 → J a = I a) : TR 6 J (uMov μ) := by
  have hn1 := hV.n1
  have hn2 := hV.n2
  have hn3 := hV.n3
  have hn4 := hV.n4
  have hn5 := hV.n5
  have hn6 := hV.n6
  have hn7 := hV.n7
  have hn8 := hV.n8
  have hE := uMov_o μ
  exact ⟨⟨(congrFun (F 7 (by omega) (by omega) (by omega)) 0).trans hT.c.a1, (congrFun (F 7 (by omega) (by omega) (by omega)) 1).trans hT.c.b1, (congrFun (F 9 (by omega) (by omega) (by omega)) 0).trans hT.c.a3, (congrFun (F 9 (by omega) (by omega) (by omega)) 1).trans hT.c.b3, (congrFun (F 11 (by omega) (by omega) (by omega)) 0).trans hT.c.a5, (congrFun (F 11 (by omega) (by omega) (by omega)) 1).trans hT.c.b5, (congrFun (F 13 (by omega) (by omega) (by omega)) 0).trans hT.c.a7, (congrFun (F 13 (by omega) (by omega) (by omega)) 1).trans hT.c.b7, (congrFun (F 15 (by omega) (by omega) (by omega)) 0).trans hT.c.a9, (congrFun (F 15 (by omega) (by omega) (by omega)) 1).trans hT.c.b9, (congrFun (F 17 (by omega) (by omega) (by omega)) 0).trans hT.c.a11, (congrFun (F 17 (by omega) (by omega) (by omega)) 1).trans hT.c.b11, (congrFun (F 19 (by omega) (by omega) (by omega)) 0).trans hT.c.a13, (congrFun (F 19 (by omega) (by omega) (by omega)) 1).trans hT.c.b13, (congrFun (F 21 (by omega) (by omega) (by omega)) 0).trans hT.c.a15, (congrFun (F 21 (by omega) (by omega) (by omega)) 1).trans hT.c.b15⟩,
  (congrFun (F 7 (by omega) (by omega) (by omega)) 3).trans (hT.r1.trans (hE 1 (by omega)).symm),
  (congrFun (F 9 (by omega) (by omega) (by omega)) 3).trans (hT.r3.trans (hE 2 (by omega)).symm),
  (congrFun (F 11 (by omega) (by omega) (by omega)) 3).trans (hT.r5.trans (hE 1 (by omega)).symm),
  (congrFun (F 13 (by omega) (by omega) (by omega)) 3).trans (hT.r7.trans (hE 4 (by omega)).symm),
  (congrFun (F 15 (by omega) (by omega) (by omega)) 3).trans (hT.r9.trans (hE 5 (by omega)).symm),
  (congrFun (F 17 (by omega) (by omega) (by omega)) 3).trans (hT.r11.trans (hE 6 (by omega)).symm),
  (congrFun (F 19 (by omega) (by omega) (by omega)) 3).trans (hT.r13.trans (hE 7 (by omega)).symm),
  (congrFun (F 21 (by omega) (by omega) (by omega)) 3).trans (hT.r15.trans (hE 8 (by omega)).symm),
  (congrFun (F 6 (by omega) (by omega) (by omega)) 12).trans (hT.lc.trans (hE 3 (by omega)).symm),
  (congrFun (F 6 (by omega) (by omega) (by omega)) 13).trans (hT.tx.trans (hE 0 (by omega)).symm),
  fun r q0 q1 => by
    rw [hE 1 (by omega)] at q1
    rw [(F 8 (by omega) (by omega) (by omega)), hE (120 + 2 * r) (by omega), hE (121 + 2 * r) (by omega)]
    exact hT.q1 r q0 q1,
  fun r q0 q1 => by
    rw [hE 2 (by omega)] at q1
    rw [(F 10 (by omega) (by omega) (by omega)), hE (140 + 3 * r) (by omega), hE (141 + 3 * r) (by omega), hE (142 + 3 * r) (by omega)]
    exact hT.q3 r q0 q1,
  fun r q0 q1 => by
    rw [hE 1 (by omega)] at q1
    have w := f r q0 q1
    rw [w.1, w.2.1, w.2.2, hE (210 + 2 * r) (by omega), hE (211 + 2 * r) (by omega), uMov_f μ q0 q1]
    exact ⟨(hT.q5 r q0 q1).1, (hT.q5 r q0 q1).2.1, rfl⟩,
  fun r q0 q1 => by
    rw [hE 4 (by omega)] at q1
    rw [(F 14 (by omega) (by omega) (by omega)), hE (332 + 4 * r) (by omega), hE (333 + 4 * r) (by omega), hE (331 + 4 * r) (by omega), hE (330 + 4 * r) (by omega)]
    exact hT.q7 r q0 q1,
  fun r q0 q1 => by
    rw [hE 5 (by omega)] at q1
    rw [(F 16 (by omega) (by omega) (by omega)), hE (395 + 3 * r) (by omega), hE (396 + 3 * r) (by omega), hE (394 + 3 * r) (by omega)]
    exact hT.q9 r q0 q1,
  fun r q0 q1 => by
    rw [hE 6 (by omega)] at q1
    rw [(F 18 (by omega) (by omega) (by omega)), hE (442 + 2 * r) (by omega), hE (443 + 2 * r) (by omega)]
    exact hT.q11 r q0 q1,
  fun r q0 q1 => by
    rw [hE 7 (by omega)] at q1
    rw [(F 20 (by omega) (by omega) (by omega)), hE (458 + 3 * r) (by omega), hE (459 + 3 * r) (by omega), hE (460 + 3 * r) (by omega)]
    exact hT.q13 r q0 q1,
  fun r q0 q1 => by
    rw [hE 8 (by omega)] at q1
    rw [(F 22 (by omega) (by omega) (by omega)), hE (506 + 2 * r) (by omega), hE (507 + 2 * r) (by omega)]
    exact hT.q15 r q0 q1,
  fun i q0 q1 => by rw [(F 23 (by omega) (by omega) (by omega)), hE (9 + i) (by omega)]; exact hT.di i q0 q1,
  fun y q0 q1 => by rw [(F 24 (by omega) (by omega) (by omega)), hE (20 + y) (by omega)]; exact hT.wi y q0 q1,
  fun y q0 q1 => by rw [(F 25 (by omega) (by omega) (by omega)), hE (230 + y) (by omega)]; exact hT.ro y q0 q1⟩
theorem IM_uMov {μ : Int → Int} (hV : IM μ) (h7 : μ 1 ≤ 7) : IM (uMov μ) := by
  have hn1 := hV.n1
  have hn2 := hV.n2
  have hn3 := hV.n3
  have hn4 := hV.n4
  have hn5 := hV.n5
  have hn6 := hV.n6
  have hn7 := hV.n7
  have hn8 := hV.n8
  have hn0 := hV.n0
  have hE := uMov_o μ
  have ok := RW_ok hV h7
  exact ⟨by rw [hE 0 (by omega)]; exact hV.n0,
  by rw [hE 1 (by omega)]; exact hV.n1,
  by rw [hE 2 (by omega)]; exact hV.n2,
  by rw [hE 3 (by omega)]; exact hV.n3,
  by rw [hE 4 (by omega)]; exact hV.n4,
  by rw [hE 5 (by omega)]; exact hV.n5,
  by rw [hE 6 (by omega)]; exact hV.n6,
  by rw [hE 7 (by omega)]; exact hV.n7,
  by rw [hE 8 (by omega)]; exact hV.n8,
  by rw [hE 9 (by omega)]; exact hV.st,
  by rw [hE 10 (by omega)]; exact hV.ra,
  by rw [hE 11 (by omega)]; exact hV.ba,
  by rw [hE 12 (by omega)]; exact hV.se,
  by rw [hE 13 (by omega)]; exact hV.gu,
  fun y q0 q1 => by rw [hE (20 + y) (by omega)]; exact hV.wi y q0 q1,
  fun y q0 q1 => by rw [hE (230 + y) (by omega)]; exact hV.ro y q0 q1,
  fun h q0 q1 => by
    rw [hE 1 (by omega)] at q1
    rw [hE (120 + 2 * h) (by omega)]
    exact hV.hc h q0 q1,
  fun h q0 q1 => by
    rw [hE 1 (by omega)] at q1
    rw [hE (121 + 2 * h) (by omega)]
    exact hV.hh h q0 q1,
  fun h k q0 q1 q2 q3 q4 => by
    rw [hE 1 (by omega)] at q1 q3
    rw [hE (120 + 2 * h) (by omega), hE (120 + 2 * k) (by omega)] at q4
    exact hV.hd h k q0 q1 q2 q3 q4,
  fun w q0 q1 => by
    rw [hE 2 (by omega)] at q1
    rw [hE (140 + 3 * w) (by omega), hE (1) (by omega)]
    exact hV.wh w q0 q1,
  fun w q0 q1 => by
    rw [hE 2 (by omega)] at q1
    rw [hE (141 + 3 * w) (by omega)]
    exact hV.wf w q0 q1,
  fun w q0 q1 => by
    rw [hE 2 (by omega)] at q1
    rw [hE (142 + 3 * w) (by omega)]
    exact hV.wu w q0 q1,
  fun f q0 q1 => by
    rw [hE 1 (by omega)] at q1
    rw [uMov_f μ q0 q1, hE 1 (by omega)]
    exact ok.1 f q0 q1,
  fun f k q0 q1 q2 q3 q4 => by
    rw [hE 1 (by omega)] at q1 q3
    rw [uMov_f μ q0 q1, uMov_f μ q2 q3] at q4
    exact ok.2 f k q0 q1 q2 q3 q4,
  fun f q0 q1 => by
    rw [hE 1 (by omega)] at q1
    rw [hE (210 + 2 * f) (by omega), hE (211 + 2 * f) (by omega)]
    exact hV.wa f q0 q1,
  fun l q0 q1 => by
    rw [hE 4 (by omega)] at q1
    rw [hE (330 + 4 * l) (by omega), hE (3) (by omega)]
    exact hV.le l q0 q1,
  fun l q0 q1 => by
    rw [hE 4 (by omega)] at q1
    rw [hE (331 + 4 * l) (by omega), hE (1) (by omega)]
    exact hV.lh l q0 q1,
  fun l q0 q1 => by
    rw [hE 4 (by omega)] at q1
    rw [hE (332 + 4 * l) (by omega), hE (333 + 4 * l) (by omega)]
    exact hV.ly l q0 q1,
  fun p q0 q1 => by
    rw [hE 5 (by omega)] at q1
    rw [hE (394 + 3 * p) (by omega), hE (2) (by omega)]
    exact hV.pw p q0 q1,
  fun p q0 q1 => by
    rw [hE 5 (by omega)] at q1
    rw [hE (395 + 3 * p) (by omega), hE (396 + 3 * p) (by omega)]
    exact hV.py p q0 q1,
  fun d q0 q1 => by
    rw [hE 6 (by omega)] at q1
    rw [hE (442 + 2 * d) (by omega)]
    exact hV.da d q0 q1,
  fun d q0 q1 => by
    rw [hE 6 (by omega)] at q1
    rw [hE (443 + 2 * d) (by omega)]
    exact hV.db d q0 q1,
  fun p q0 q1 => by
    rw [hE 7 (by omega)] at q1
    rw [hE (458 + 3 * p) (by omega), hE (2) (by omega)]
    exact hV.pp p q0 q1,
  fun p q0 q1 => by
    rw [hE 7 (by omega)] at q1
    rw [hE (459 + 3 * p) (by omega)]
    exact hV.ph p q0 q1,
  fun p q0 q1 => by
    rw [hE 7 (by omega)] at q1
    rw [hE (460 + 3 * p) (by omega)]
    exact hV.pl p q0 q1,
  fun b q0 q1 => by
    rw [hE 8 (by omega)] at q1
    rw [hE (506 + 2 * b) (by omega), hE (1) (by omega)]
    exact hV.bh b q0 q1,
  fun b q0 q1 => by
    rw [hE 8 (by omega)] at q1
    rw [hE (507 + 2 * b) (by omega)]
    exact hV.bm b q0 q1,
  fun h q0 q1 => by
    rw [hE 1 (by omega)] at q1
    rw [hE (121 + 2 * h) (by omega), hE 8 (by omega), bsum_c (fun i z0 z1 => ⟨hE (506 + 2 * i) (by omega), hE (507 + 2 * i) (by omega)⟩)]
    exact hV.bs h q0 q1⟩
theorem s_2_bestHome {d : Nat} {P : Option qV → qH → Prop} {X : Nat → qH → Prop} {I : qI} {H : qS} (hd : 1 ≤ d) {f : Int} (hS : Shp H) (hf : 0 ≤ f ∧ f < 7) (h : P (some (vi (I 89 f))) (I, H)) :
    Call d 31 [vr (some 85) 2, vi f] (I, H) P X := by
  obtain ⟨d, rfl⟩ : ∃ e, d = e + 1 := ⟨d - 1, by omega⟩
  have hl89 := hS.l89
  show WP (Call d) 31 P X (0, [some (vr (some 85) 2), some (vi f)], [], (I, H), 0, 0)
  refine WP.go 2 (And.intro (fun (b1 : f < 0) => (absurd b1 (by omega))) (fun (b1 : ¬ f < 0) => ?_))
  show WP (Call d) 31 P X (2, [some (vr (some 85) 2), some (vi f)], [], (I, H), 0, 0)
  refine WP.go 5 (And.intro rfl (Exists.intro 89 (And.intro hS.r85_5 (And.intro (Or.inl rfl) (And.intro (fun (b6 : ¬ f < H.2.1 89) => (absurd b6 (by omega))) (fun (b6 : f < H.2.1 89) => ?_))))))
  show WP (Call d) 31 P X (7, [some (vr (some 85) 2), some (vi f)], [], (I, H), 0, 0)
  refine WP.go 6 (And.intro rfl (Exists.intro 89 (And.intro hS.r85_5 (And.intro (And.intro rfl (And.intro (show 0 ≤ f from by omega) (show f < H.2.1 89 from by omega))) (And.intro (And.intro (Nat.le_of_ble_eq_true rfl) (Nat.le_of_ble_eq_true rfl)) (And.intro trivial (?_)))))))
  show P (some (vi (I 89 f))) (I, H)
  exact fin_i (by first | rfl | omega | exact zero_bz (by omega) | exact one_bz (by omega)) h

theorem s_2_wayCount {d : Nat} {P : Option qV → qH → Prop} {X : Nat → qH → Prop} {I : qI} {H : qS} (hd : 1 ≤ d) (h : P (some (vi (I 85 6))) (I, H)) :
    Call d 29 [vr (some 85) 2] (I, H) P X := by
  obtain ⟨d, rfl⟩ : ∃ e, d = e + 1 := ⟨d - 1, by omega⟩
  show WP (Call d) 29 P X (0, [some (vr (some 85) 2)], [], (I, H), 0, 0)
  refine WP.go 3 (And.intro rfl (And.intro (And.intro (Nat.le_of_ble_eq_true rfl) (Nat.le_of_ble_eq_true rfl)) (And.intro trivial (?_))))
  show P (some (vi (I 85 6))) (I, H)
  exact fin_i (by first | rfl | omega | exact zero_bz (by omega) | exact one_bz (by omega)) h

theorem s_2_mostGood {d : Nat} {P : Option qV → qH → Prop} {X : Nat → qH → Prop} {I : qI} {H : qS} (hd : 1 ≤ d) (h : P (some (vi (I 85 7))) (I, H)) :
    Call d 30 [vr (some 85) 2] (I, H) P X := by
  obtain ⟨d, rfl⟩ : ∃ e, d = e + 1 := ⟨d - 1, by omega⟩
  show WP (Call d) 30 P X (0, [some (vr (some 85) 2)], [], (I, H), 0, 0)
  refine WP.go 3 (And.intro rfl (And.intro (And.intro (Nat.le_of_ble_eq_true rfl) (Nat.le_of_ble_eq_true rfl)) (And.intro trivial (?_))))
  show P (some (vi (I 85 7))) (I, H)
  exact fin_i (by first | rfl | omega | exact zero_bz (by omega) | exact one_bz (by omega)) h

theorem s_8_homeOf_raw {d : Nat} {P : Option qV → qH → Prop} {X : Nat → qH → Prop} {I : qI} {H : qS} (hd : 2 ≤ d) {r n9 : Int} (hS : Shp H) (b5 : I 11 1 = 3) (r5 : I 11 3 = n9) (hr : 0 ≤ r ∧ r < n9) (h10 : n9 ≤ 10) (h : P (some (vi (I 12 (r * 3 + 2)))) (I, H)) :
    Call d 96 [vr (some 6) 6, vi r] (I, H) P X := by
  obtain ⟨d, rfl⟩ : ∃ e, d = e + 1 := ⟨d - 1, by omega⟩
  show WP (Call d) 96 P X (0, [some (vr (some 6) 6), some (vi r)], [], (I, H), 0, 0)
  refine WP.go 5 (And.intro rfl (Exists.intro 11 (And.intro hS.r6_2 (And.intro (And.intro (Nat.le_of_ble_eq_true rfl) (Nat.le_of_ble_eq_true rfl)) (And.intro rfl (?_))))))
  show Call d 58 [vr (some 11) 4, vi r, vi 2] (I, H) _ _
  refine s_5_get_w3 (by omega) hS.r11_2 b5 r5 hS.l12 (by omega) (by omega) (by omega) ?_
  show WP (Call d) 96 P X (5, [some (vr (some 6) 6), some (vi r)], [vi (I 12 (r * 3 + 2))], (I, H), 0, 0)
  refine WP.go 1 (And.intro (And.intro (Nat.le_of_ble_eq_true rfl) (Nat.le_of_ble_eq_true rfl)) (And.intro trivial (?_)))
  show P (some (vi (I 12 (r * 3 + 2)))) (I, H)
  exact fin_i (by first | rfl | omega | exact zero_bz (by omega) | exact one_bz (by omega)) h

theorem s_11_swaps {d : Nat} {P : Option qV → qH → Prop} {X : Nat → qH → Prop} {I : qI} {H : qS} {μ : Int → Int} (hd : 14 ≤ d) {fm wh : Int} (hS : Shp H) (hX : SX I) (hT : TR 6 I μ) (hV : IM μ) (h : ((fm = -1 ∨ (0 ≤ fm ∧ fm < μ 1)) ∧ (0 ≤ wh ∧ wh ≤ 1)) → ∀ J : qI, CF I J → P (some (vi (SWA μ fm wh))) (J, H)) (hx1 : ¬ (fm = -1 ∨ (0 ≤ fm ∧ fm < μ 1)) → X 1 (I, H)) (hx3 : (fm = -1 ∨ (0 ≤ fm ∧ fm < μ 1)) ∧ ¬ (0 ≤ wh ∧ wh ≤ 1) → X 3 (I, H)) :
    Call d 149 [vr (some 3) 9, vi fm, vi wh] (I, H) P X := by
  obtain ⟨d, rfl⟩ : ∃ e, d = e + 1 := ⟨d - 1, by omega⟩
  have hn1 := hV.n1
  show WP (Call d) 149 P X (0, [some (vr (some 3) 9), some (vi fm), some (vi wh)], [], (I, H), 0, 0)
  refine WP.go 3 (And.intro (fun (b2 : fm = (-1)) => ?_) (fun (b2 : ¬ fm = (-1)) => ?_))
  ·
    show WP (Call d) 149 P X (6, [some (vr (some 3) 9), some (vi fm), some (vi wh)], [], (I, H), 0, 0)
    refine WP.go 2 (And.intro (fun (b7 : wh < 0) => ?_) (fun (b7 : ¬ wh < 0) => ?_))
    ·
      show WP (Call d) 149 P X (11, [some (vr (some 3) 9), some (vi fm), some (vi wh)], [], (I, H), 0, 0)
      refine WP.go 1 (And.intro (And.intro (Nat.le_of_ble_eq_true rfl) (Nat.le_of_ble_eq_true rfl)) (?_))
      show X 3 (I, H)
      exact hx3 (by omega)
    ·
      show WP (Call d) 149 P X (8, [some (vr (some 3) 9), some (vi fm), some (vi wh)], [], (I, H), 0, 0)
      refine WP.go 3 (And.intro (fun (b10 : ¬ 1 < wh) => ?_) (fun (b10 : 1 < wh) => ?_))
      ·
        show WP (Call d) 149 P X (15, [some (vr (some 3) 9), some (vi fm), some (vi wh)], [], (I, H), 0, 0)
        refine WP.go 4 (And.intro rfl (Exists.intro 6 (And.intro hS.r3_4 (And.intro rfl (Exists.intro 7 (And.intro hS.r6_0 (And.intro (And.intro (Nat.le_of_ble_eq_true rfl) (Nat.le_of_ble_eq_true rfl)) (And.intro rfl (?_)))))))))
        show Call d 55 [vr (some 7) 4] (I, H) _ _
        refine s_size_houses (by omega) hT ?_
        show WP (Call d) 149 P X (19, [some (vr (some 3) 9), some (vi fm), some (vi wh)], [vi (μ 1)], (I, H), 0, 0)
        refine WP.go 2 (And.intro (fun (b20 : ¬ 7 < μ 1) => ?_) (fun (b20 : 7 < μ 1) => ?_))
        ·
          show WP (Call d) 149 P X (23, [some (vr (some 3) 9), some (vi fm), some (vi wh)], [], (I, H), 0, 0)
          refine WP.go 3 (And.intro rfl (Exists.intro 85 (And.intro hS.r3_9 (And.intro (And.intro (Nat.le_of_ble_eq_true rfl) (Nat.le_of_ble_eq_true rfl)) (And.intro rfl (?_))))))
          show Call d 28 [vr (some 85) 2] (I, H) _ _
          refine s_2_search (by omega) hS hX hT hV (by omega) (fun J25 c25 e25 f25 g25 => ?_)
          show WP (Call d) 149 P X (26, [some (vr (some 3) 9), some (vi fm), some (vi wh)], [], (J25, H), 0, 0)
          have hsc := sw_c hV (by omega) c25 e25
          have hce : CE J25 (CW7 μ c25 e25) := f25
          refine WP.go 3 (And.intro (fun (b28 : fm = (-1)) => ?_) (fun (b28 : ¬ fm = (-1)) => (absurd b28 (by omega))))
          show WP (Call d) 149 P X (34, [some (vr (some 3) 9), some (vi fm), some (vi wh)], [], (J25, H), 0, 0)
          refine WP.go 2 (And.intro (fun (b35 : ¬ wh = 0) => ?_) (fun (b35 : wh = 0) => ?_))
          ·
            show WP (Call d) 149 P X (40, [some (vr (some 3) 9), some (vi fm), some (vi wh)], [], (J25, H), 0, 0)
            refine WP.go 3 (And.intro rfl (Exists.intro 85 (And.intro hS.r3_9 (And.intro (And.intro (Nat.le_of_ble_eq_true rfl) (Nat.le_of_ble_eq_true rfl)) (And.intro rfl (?_))))))
            show Call d 30 [vr (some 85) 2] (J25, H) _ _
            refine s_2_mostGood (by omega)  ?_
            show WP (Call d) 149 P X (43, [some (vr (some 3) 9), some (vi fm), some (vi wh)], [vi (J25 85 7)], (J25, H), 0, 0)
            refine WP.go 1 (And.intro (And.intro (Nat.le_of_ble_eq_true rfl) (Nat.le_of_ble_eq_true rfl)) (And.intro trivial (?_)))
            show P (some (vi (J25 85 7))) (J25, H)
            exact fin_i (by unfold SWA; rw [if_neg (by omega), if_pos (by omega), if_neg (by omega), hce.1.2]; exact hsc.2.1) (h (by omega) _ g25)
          ·
            show WP (Call d) 149 P X (36, [some (vr (some 3) 9), some (vi fm), some (vi wh)], [], (J25, H), 0, 0)
            refine WP.go 3 (And.intro rfl (Exists.intro 85 (And.intro hS.r3_9 (And.intro (And.intro (Nat.le_of_ble_eq_true rfl) (Nat.le_of_ble_eq_true rfl)) (And.intro rfl (?_))))))
            show Call d 29 [vr (some 85) 2] (J25, H) _ _
            refine s_2_wayCount (by omega)  ?_
            show WP (Call d) 149 P X (39, [some (vr (some 3) 9), some (vi fm), some (vi wh)], [vi (J25 85 6)], (J25, H), 0, 0)
            refine WP.go 2 (And.intro (And.intro (Nat.le_of_ble_eq_true rfl) (Nat.le_of_ble_eq_true rfl)) (And.intro trivial (?_)))
            show P (some (vi (J25 85 6))) (J25, H)
            exact fin_i (by unfold SWA; rw [if_neg (by omega), if_pos (by omega), if_pos (by omega), hce.1.1]; exact hsc.1) (h (by omega) _ g25)
        ·
          show WP (Call d) 149 P X (21, [some (vr (some 3) 9), some (vi fm), some (vi wh)], [], (I, H), 0, 0)
          refine WP.go 2 (And.intro (And.intro (Nat.le_of_ble_eq_true rfl) (Nat.le_of_ble_eq_true rfl)) (And.intro trivial (?_)))
          show P (some (vi (-3))) (I, H)
          exact fin_i (if_pos (by omega)).symm (h (by omega) _ (CF.rf I))
      ·
        show WP (Call d) 149 P X (11, [some (vr (some 3) 9), some (vi fm), some (vi wh)], [], (I, H), 0, 0)
        refine WP.go 1 (And.intro (And.intro (Nat.le_of_ble_eq_true rfl) (Nat.le_of_ble_eq_true rfl)) (?_))
        show X 3 (I, H)
        exact hx3 (by omega)
  ·
    show WP (Call d) 149 P X (3, [some (vr (some 3) 9), some (vi fm), some (vi wh)], [], (I, H), 0, 0)
    refine WP.go 3 (And.intro (And.intro (Nat.le_of_ble_eq_true rfl) (Nat.le_of_ble_eq_true rfl)) (And.intro rfl (?_)))
    show Call d 168 [vr (some 3) 9, vi fm] (I, H) _ _
    refine s_11_needFamily (by omega) hS hT (fun q5 => ?_) (fun q9 => hx1 (by omega))
    show WP (Call d) 149 P X (6, [some (vr (some 3) 9), some (vi fm), some (vi wh)], [], (I, H), 1, 6)
    refine WP.go 2 (And.intro (fun (b7 : wh < 0) => ?_) (fun (b7 : ¬ wh < 0) => ?_))
    ·
      show WP (Call d) 149 P X (11, [some (vr (some 3) 9), some (vi fm), some (vi wh)], [], (I, H), 1, 6)
      refine WP.go 1 (And.intro (And.intro (Nat.le_of_ble_eq_true rfl) (Nat.le_of_ble_eq_true rfl)) (?_))
      show X 3 (I, H)
      exact hx3 (by omega)
    ·
      show WP (Call d) 149 P X (8, [some (vr (some 3) 9), some (vi fm), some (vi wh)], [], (I, H), 1, 6)
      refine WP.go 3 (And.intro (fun (b10 : ¬ 1 < wh) => ?_) (fun (b10 : 1 < wh) => ?_))
      ·
        show WP (Call d) 149 P X (15, [some (vr (some 3) 9), some (vi fm), some (vi wh)], [], (I, H), 1, 6)
        refine WP.go 4 (And.intro rfl (Exists.intro 6 (And.intro hS.r3_4 (And.intro rfl (Exists.intro 7 (And.intro hS.r6_0 (And.intro (And.intro (Nat.le_of_ble_eq_true rfl) (Nat.le_of_ble_eq_true rfl)) (And.intro rfl (?_)))))))))
        show Call d 55 [vr (some 7) 4] (I, H) _ _
        refine s_size_houses (by omega) hT ?_
        show WP (Call d) 149 P X (19, [some (vr (some 3) 9), some (vi fm), some (vi wh)], [vi (μ 1)], (I, H), 1, 6)
        refine WP.go 2 (And.intro (fun (b20 : ¬ 7 < μ 1) => ?_) (fun (b20 : 7 < μ 1) => ?_))
        ·
          show WP (Call d) 149 P X (23, [some (vr (some 3) 9), some (vi fm), some (vi wh)], [], (I, H), 1, 6)
          refine WP.go 3 (And.intro rfl (Exists.intro 85 (And.intro hS.r3_9 (And.intro (And.intro (Nat.le_of_ble_eq_true rfl) (Nat.le_of_ble_eq_true rfl)) (And.intro rfl (?_))))))
          show Call d 28 [vr (some 85) 2] (I, H) _ _
          refine s_2_search (by omega) hS hX hT hV (by omega) (fun J25_1 c25_1 e25_1 f25_1 g25_1 => ?_)
          show WP (Call d) 149 P X (26, [some (vr (some 3) 9), some (vi fm), some (vi wh)], [], (J25_1, H), 1, 6)
          have hsc := sw_c hV (by omega) c25_1 e25_1
          have hce : CE J25_1 (CW7 μ c25_1 e25_1) := f25_1
          refine WP.go 3 (And.intro (fun (b28 : fm = (-1)) => (absurd b28 (by omega))) (fun (b28 : ¬ fm = (-1)) => ?_))
          show WP (Call d) 149 P X (29, [some (vr (some 3) 9), some (vi fm), some (vi wh)], [], (J25_1, H), 1, 6)
          refine WP.go 4 (And.intro rfl (Exists.intro 85 (And.intro hS.r3_9 (And.intro (And.intro (Nat.le_of_ble_eq_true rfl) (Nat.le_of_ble_eq_true rfl)) (And.intro rfl (?_))))))
          show Call d 31 [vr (some 85) 2, vi fm] (J25_1, H) _ _
          refine s_2_bestHome (by omega) hS (by omega) ?_
          show WP (Call d) 149 P X (33, [some (vr (some 3) 9), some (vi fm), some (vi wh)], [vi (J25_1 89 fm)], (J25_1, H), 1, 6)
          refine WP.go 1 (And.intro (And.intro (Nat.le_of_ble_eq_true rfl) (Nat.le_of_ble_eq_true rfl)) (And.intro trivial (?_)))
          show P (some (vi (J25_1 89 fm))) (J25_1, H)
          exact fin_i (by unfold SWA; rw [if_neg (by omega), if_neg (by omega), hce.2.2 fm (by omega) (by omega)]; exact hsc.2.2 fm (by omega) (by omega)) (h (by omega) _ g25_1)
        ·
          show WP (Call d) 149 P X (21, [some (vr (some 3) 9), some (vi fm), some (vi wh)], [], (I, H), 1, 6)
          refine WP.go 2 (And.intro (And.intro (Nat.le_of_ble_eq_true rfl) (Nat.le_of_ble_eq_true rfl)) (And.intro trivial (?_)))
          show P (some (vi (-3))) (I, H)
          exact fin_i (if_pos (by omega)).symm (h (by omega) _ (CF.rf I))
      ·
        show WP (Call d) 149 P X (11, [some (vr (some 3) 9), some (vi fm), some (vi wh)], [], (I, H), 1, 6)
        refine WP.go 1 (And.intro (And.intro (Nat.le_of_ble_eq_true rfl) (Nat.le_of_ble_eq_true rfl)) (?_))
        show X 3 (I, H)
        exact hx3 (by omega)

theorem s_11_move {d : Nat} {P : Option qV → qH → Prop} {X : Nat → qH → Prop} {I : qI} {H : qS} {μ : Int → Int} (hd : 14 ≤ d) (hS : Shp H) (hX : SX I) (hT : TR 6 I μ) (hV : IM μ) (h : (7 < μ 1 → P (some (vi (-3))) (I, H)) ∧ (μ 1 ≤ 7 → ∀ J : qI, CU I J (uMov μ) → P (some (vi (MVC μ))) (J, H))) :
    Call d 150 [vr (some 3) 9] (I, H) P X := by
  obtain ⟨d, rfl⟩ : ∃ e, d = e + 1 := ⟨d - 1, by omega⟩
  have hn1 := hV.n1
  show WP (Call d) 150 P X (0, [some (vr (some 3) 9), none, none, none], [], (I, H), 0, 0)
  refine WP.go 4 (And.intro rfl (Exists.intro 6 (And.intro hS.r3_4 (And.intro rfl (Exists.intro 7 (And.intro hS.r6_0 (And.intro (And.intro (Nat.le_of_ble_eq_true rfl) (Nat.le_of_ble_eq_true rfl)) (And.intro rfl (?_)))))))))
  show Call d 55 [vr (some 7) 4] (I, H) _ _
  refine s_size_houses (by omega) hT ?_
  show WP (Call d) 150 P X (4, [some (vr (some 3) 9), none, none, none], [vi (μ 1)], (I, H), 0, 0)
  refine WP.go 2 (And.intro (fun (b5 : ¬ 7 < μ 1) => ?_) (fun (b5 : 7 < μ 1) => ?_))
  ·
    show WP (Call d) 150 P X (8, [some (vr (some 3) 9), none, none, none], [], (I, H), 0, 0)
    refine WP.go 3 (And.intro rfl (Exists.intro 85 (And.intro hS.r3_9 (And.intro (And.intro (Nat.le_of_ble_eq_true rfl) (Nat.le_of_ble_eq_true rfl)) (And.intro rfl (?_))))))
    show Call d 28 [vr (some 85) 2] (I, H) _ _
    refine s_2_search (by omega) hS hX hT hV (by omega) (fun J10 c10 e10 f10 g10 => ?_)
    show WP (Call d) 150 P X (11, [some (vr (some 3) 9), none, none, none], [], (J10, H), 0, 0)
    have hsc := sw_c hV (by omega) c10 e10
    have hce : CE J10 (CW7 μ c10 e10) := f10
    refine WP.go 4 ?_
    show WP (Call d) 150 P X (15, [some (vr (some 3) 9), some (vi 0), some (vi 0), none], [], (J10, H), 0, 0)
    have lp15 : ∀ (n9 : Nat) (K : qI) (s9 : Int) (f9 : Int) (hm : μ 1 - f9 < (n9 : Int)) (iv0 : 0 ≤ f9 ∧ f9 ≤ μ 1) (iv1 : ∀ r, 0 ≤ r → r < μ 1 → K 12 (r * 3 + 0) = J10 12 (r * 3 + 0) ∧ K 12 (r * 3 + 1) = J10 12 (r * 3 + 1) ∧ K 12 (r * 3 + 2) = if r < f9 then (RW μ).2.2.2 r else J10 12 (r * 3 + 2)) (iv2 : ∀ a, a ≠ 12 → K a = J10 a) (iv3 : s9 = sI (fun f => if (RW μ).2.2.2 f = μ (200 + f) then 0 else 1) 0 f9), WP (Call d) 150 P X (15, [some (vr (some 3) 9), some (vi s9), some (vi f9), none], [], (K, H), 0, 0) := by
      intro n9
      induction n9 with
      | zero => intro K s9 f9 hm iv0 iv1 iv2 iv3; exact absurd hm (by omega)
      | succ n9 ih15 =>
        intro K s9 f9 hm iv0 iv1 iv2 iv3
        have h7 : μ 1 ≤ 7 := by omega
        have hcf : CF I J10 := g10
        have hT10 : TR 6 J10 μ := hcf.tw hT
        have r5k : K 11 3 = μ 1 := (congrFun (iv2 11 (by omega)) 3).trans hT10.r5
        have b5k : K 11 1 = 3 := (congrFun (iv2 11 (by omega)) 1).trans hT10.c.b5
        have mb := sI_bd (f := (fun f => if (RW μ).2.2.2 f = μ (200 + f) then 0 else 1)) 0 1 iv0.1 (fun i _ _ => by split <;> omega)
        refine WP.go 5 (And.intro rfl (Exists.intro 6 (And.intro hS.r3_4 (And.intro rfl (Exists.intro 11 (And.intro hS.r6_2 (And.intro (And.intro (Nat.le_of_ble_eq_true rfl) (Nat.le_of_ble_eq_true rfl)) (And.intro rfl (?_)))))))))
        show Call d 55 [vr (some 11) 4] (K, H) _ _
        refine s_5_size (by omega) r5k ?_
        show WP (Call d) 150 P X (20, [some (vr (some 3) 9), some (vi s9), some (vi f9), none], [vi (μ 1), vi f9], (K, H), 0, 0)
        refine WP.go 1 (And.intro (fun (b20 : ¬ f9 < μ 1) => ?_) (fun (b20 : f9 < μ 1) => ?_))
        ·
          show WP (Call d) 150 P X (47, [some (vr (some 3) 9), some (vi s9), some (vi f9), none], [], (K, H), 0, 0)
          refine WP.go 2 (And.intro (And.intro (Nat.le_of_ble_eq_true rfl) (Nat.le_of_ble_eq_true rfl)) (And.intro trivial (?_)))
          show P (some (vi s9)) (K, H)
          exact fin_i (by rw [iv3, show f9 = μ 1 by omega]; rfl) (h.2 (by omega) _ ⟨fun a q => (iv2 a (by omega)).trans (hcf a (by omega)), TR_uMov hT10 hV (fun r q0 q1 => ⟨(iv1 r q0 q1).1, (iv1 r q0 q1).2.1, by rw [(iv1 r q0 q1).2.2, if_pos (by omega)]⟩) (fun a q1 q2 q3 => iv2 a q1)⟩)
        ·
          show WP (Call d) 150 P X (21, [some (vr (some 3) 9), some (vi s9), some (vi f9), none], [], (K, H), 0, 0)
          refine WP.go 4 (And.intro rfl (Exists.intro 85 (And.intro hS.r3_9 (And.intro (And.intro (Nat.le_of_ble_eq_true rfl) (Nat.le_of_ble_eq_true rfl)) (And.intro rfl (?_))))))
          show Call d 31 [vr (some 85) 2, vi f9] (K, H) _ _
          refine s_2_bestHome (by omega) hS (by omega) ?_
          show WP (Call d) 150 P X (25, [some (vr (some 3) 9), some (vi s9), some (vi f9), none], [vi (K 89 f9)], (K, H), 0, 0)
          refine rw_i (Q := fun x9 => WP (Call d) 150 P X (25, [some (vr (some 3) 9), some (vi s9), some (vi f9), none], [vi x9], (K, H), 0, 0)) ((congrFun (iv2 89 (by omega)) f9).trans ((hce.2.2 f9 (by omega) (by omega)).trans (hsc.2.2 f9 iv0.1 (by omega)))) ?_
          show WP (Call d) 150 P X (25, [some (vr (some 3) 9), some (vi s9), some (vi f9), none], [vi ((RW μ).2.2.2 f9)], (K, H), 0, 0)
          refine WP.go 1 ?_
          show WP (Call d) 150 P X (26, [some (vr (some 3) 9), some (vi s9), some (vi f9), some (vi ((RW μ).2.2.2 f9))], [], (K, H), 0, 0)
          have hbh : J10 89 f9 = (RW μ).2.2.2 f9 := (hce.2.2 f9 (by omega) (by omega)).trans (hsc.2.2 f9 iv0.1 (by omega))
          have hok := (RW_ok hV h7).1 f9 iv0.1 (by omega)
          refine WP.go 6 (And.intro rfl (Exists.intro 6 (And.intro hS.r3_4 (And.intro (And.intro (Nat.le_of_ble_eq_true rfl) (Nat.le_of_ble_eq_true rfl)) (And.intro rfl (?_))))))
          show Call d 96 [vr (some 6) 6, vi f9] (K, H) _ _
          refine s_8_homeOf_raw (by omega) hS b5k r5k (by omega) (by omega) ?_
          show WP (Call d) 150 P X (32, [some (vr (some 3) 9), some (vi s9), some (vi f9), some (vi ((RW μ).2.2.2 f9))], [vi (K 12 (f9 * 3 + 2)), vi ((RW μ).2.2.2 f9), vi s9], (K, H), 0, 0)
          refine rw_i (Q := fun x9 => WP (Call d) 150 P X (32, [some (vr (some 3) 9), some (vi s9), some (vi f9), some (vi ((RW μ).2.2.2 f9))], [vi x9, vi ((RW μ).2.2.2 f9), vi s9], (K, H), 0, 0)) ((iv1 f9 iv0.1 (by omega)).2.2.trans ((if_neg (by omega)).trans (hT10.q5 f9 iv0.1 (by omega)).2.2)) ?_
          show WP (Call d) 150 P X (32, [some (vr (some 3) 9), some (vi s9), some (vi f9), some (vi ((RW μ).2.2.2 f9))], [vi (μ (200 + f9)), vi ((RW μ).2.2.2 f9), vi s9], (K, H), 0, 0)
          refine WP.go 1 (And.intro (fun (b32 : ¬ (RW μ).2.2.2 f9 = μ (200 + f9)) => ?_) (fun (b32 : (RW μ).2.2.2 f9 = μ (200 + f9)) => ?_))
          ·
            show WP (Call d) 150 P X (35, [some (vr (some 3) 9), some (vi s9), some (vi f9), some (vi ((RW μ).2.2.2 f9))], [vi s9], (K, H), 0, 0)
            refine WP.go 10 (Exists.intro (s9 + 1) (And.intro (wrp_a (by omega) (by omega)) (And.intro rfl (Exists.intro 6 (And.intro hS.r3_4 (And.intro rfl (Exists.intro 11 (And.intro hS.r6_2 (And.intro (And.intro (Nat.le_of_ble_eq_true rfl) (Nat.le_of_ble_eq_true rfl)) (And.intro rfl (?_)))))))))))
            show Call d 59 [vr (some 11) 4, vi f9, vi 2, vi ((RW μ).2.2.2 f9)] (K, H) _ _
            refine s_5_set_w3 (by omega) hS.r11_2 b5k r5k hS.l12 (by omega) (by omega) (by omega) (fun J44 e44 f44 => ?_)
            show WP (Call d) 150 P X (45, [some (vr (some 3) 9), some (vi (s9 + 1)), some (vi f9), some (vi ((RW μ).2.2.2 f9))], [], (J44, H), 0, 0)
            refine WP.go 2 (Exists.intro (f9 + 1) (And.intro (wrp_a (by omega) (by omega)) (?_)))
            show WP (Call d) 150 P X (15, [some (vr (some 3) 9), some (vi (s9 + 1)), some (vi (f9 + 1)), some (vi ((RW μ).2.2.2 f9))], [], (J44, H), 0, 0)
            refine WP.wk (L := [some (vr (some 3) 9), some (vi (s9 + 1)), some (vi (f9 + 1)), none]) (And.intro rfl (And.intro rfl (And.intro rfl (And.intro trivial (trivial))))) ?_
            show WP (Call d) 150 P X (15, [some (vr (some 3) 9), some (vi (s9 + 1)), some (vi (f9 + 1)), none], [], (J44, H), 0, 0)
            exact ih15 J44 (s9 + 1) (f9 + 1) (by omega) (by omega) (fun r q0 q1 => by rw [e44]; show (if r * 3 + 0 = f9 * 3 + 2 then _ else K 12 (r * 3 + 0)) = _ ∧ (if r * 3 + 1 = f9 * 3 + 2 then _ else K 12 (r * 3 + 1)) = _ ∧ (if r * 3 + 2 = f9 * 3 + 2 then (RW μ).2.2.2 f9 else K 12 (r * 3 + 2)) = _; rw [if_neg (by omega), if_neg (by omega)]; refine ⟨(iv1 r q0 q1).1, (iv1 r q0 q1).2.1, ?_⟩; by_cases z : r = f9; rw [if_pos (by omega), if_pos (by omega), z]; rw [if_neg (by omega), (iv1 r q0 q1).2.2]; by_cases w : r < f9; rw [if_pos w, if_pos (by omega)]; rw [if_neg w, if_neg (by omega)]) (fun a q => (f44 a q).trans (iv2 a q)) (by rw [sI_succ iv0.1, ← iv3, if_neg b32])
          ·
            show WP (Call d) 150 P X (33, [some (vr (some 3) 9), some (vi s9), some (vi f9), some (vi ((RW μ).2.2.2 f9))], [vi s9], (K, H), 0, 0)
            refine WP.go 11 (Exists.intro (s9 + 0) (And.intro (wrp_a (by omega) (by omega)) (And.intro rfl (Exists.intro 6 (And.intro hS.r3_4 (And.intro rfl (Exists.intro 11 (And.intro hS.r6_2 (And.intro (And.intro (Nat.le_of_ble_eq_true rfl) (Nat.le_of_ble_eq_true rfl)) (And.intro rfl (?_)))))))))))
            show Call d 59 [vr (some 11) 4, vi f9, vi 2, vi ((RW μ).2.2.2 f9)] (K, H) _ _
            refine s_5_set_w3 (by omega) hS.r11_2 b5k r5k hS.l12 (by omega) (by omega) (by omega) (fun J44_1 e44_1 f44_1 => ?_)
            show WP (Call d) 150 P X (45, [some (vr (some 3) 9), some (vi (s9 + 0)), some (vi f9), some (vi ((RW μ).2.2.2 f9))], [], (J44_1, H), 0, 0)
            refine WP.go 2 (Exists.intro (f9 + 1) (And.intro (wrp_a (by omega) (by omega)) (?_)))
            show WP (Call d) 150 P X (15, [some (vr (some 3) 9), some (vi (s9 + 0)), some (vi (f9 + 1)), some (vi ((RW μ).2.2.2 f9))], [], (J44_1, H), 0, 0)
            refine WP.wk (L := [some (vr (some 3) 9), some (vi (s9 + 0)), some (vi (f9 + 1)), none]) (And.intro rfl (And.intro rfl (And.intro rfl (And.intro trivial (trivial))))) ?_
            show WP (Call d) 150 P X (15, [some (vr (some 3) 9), some (vi (s9 + 0)), some (vi (f9 + 1)), none], [], (J44_1, H), 0, 0)
            exact ih15 J44_1 (s9 + 0) (f9 + 1) (by omega) (by omega) (fun r q0 q1 => by rw [e44_1]; show (if r * 3 + 0 = f9 * 3 + 2 then _ else K 12 (r * 3 + 0)) = _ ∧ (if r * 3 + 1 = f9 * 3 + 2 then _ else K 12 (r * 3 + 1)) = _ ∧ (if r * 3 + 2 = f9 * 3 + 2 then (RW μ).2.2.2 f9 else K 12 (r * 3 + 2)) = _; rw [if_neg (by omega), if_neg (by omega)]; refine ⟨(iv1 r q0 q1).1, (iv1 r q0 q1).2.1, ?_⟩; by_cases z : r = f9; rw [if_pos (by omega), if_pos (by omega), z]; rw [if_neg (by omega), (iv1 r q0 q1).2.2]; by_cases w : r < f9; rw [if_pos w, if_pos (by omega)]; rw [if_neg w, if_neg (by omega)]) (fun a q => (f44_1 a q).trans (iv2 a q)) (by rw [sI_succ iv0.1, ← iv3, if_pos b32])
    exact lp15 ((μ 1 - 0 : Int).toNat + 1) J10 0 0 (by omega) (by omega) (fun r q0 q1 => ⟨rfl, rfl, by rw [if_neg (by omega)]⟩) (fun _ _ => rfl) (sI_nil (Int.le_refl _)).symm
  ·
    show WP (Call d) 150 P X (6, [some (vr (some 3) 9), none, none, none], [], (I, H), 0, 0)
    refine WP.go 2 (And.intro (And.intro (Nat.le_of_ble_eq_true rfl) (Nat.le_of_ble_eq_true rfl)) (And.intro trivial (?_)))
    show P (some (vi (-3))) (I, H)
    exact h.1 (by omega)

