theorem uRope_o (μ : Int → Int) (y n : Int) : ∀ j, j ≠ 230 + y → uRope μ y n j = μ j := fun j q => st_n q
theorem uRope_0 (μ : Int → Int) (y n : Int) : uRope μ y n (230 + y) = n := st_e _ _ _
theorem TR_uRope {I J : qI} {μ : Int → Int} {y n : Int} (hT : TR 6 I μ) (hV : IM μ) (hy : 0 ≤ y ∧ y < 100) (f : J 25 = fun j => if j = y then n else I 25 j) (F : ∀ a, a ≠ 25 → J a = I a) : TR 6 J (uRope μ y n) := by
  have hE := uRope_o μ y n
  have hn1 := hV.n1
  have hn2 := hV.n2
  have hn3 := hV.n3
  have hn4 := hV.n4
  have hn5 := hV.n5
  have hn6 := hV.n6
  have hn7 := hV.n7
  have hn8 := hV.n8
  exact ⟨⟨(congrFun (F 7 (by omega)) 0).trans hT.c.a1, (congrFun (F 7 (by omega)) 1).trans hT.c.b1, (congrFun (F 9 (by omega)) 0).trans hT.c.a3, (congrFun (F 9 (by omega)) 1).trans hT.c.b3, (congrFun (F 11 (by omega)) 0).trans hT.c.a5, (congrFun (F 11 (by omega)) 1).trans hT.c.b5, (congrFun (F 13 (by omega)) 0).trans hT.c.a7, (congrFun (F 13 (by omega)) 1).trans hT.c.b7, (congrFun (F 15 (by omega)) 0).trans hT.c.a9, (congrFun (F 15 (by omega)) 1).trans hT.c.b9, (congrFun (F 17 (by omega)) 0).trans hT.c.a11, (congrFun (F 17 (by omega)) 1).trans hT.c.b11, (congrFun (F 19 (by omega)) 0).trans hT.c.a13, (congrFun (F 19 (by omega)) 1).trans hT.c.b13, (congrFun (F 21 (by omega)) 0).trans hT.c.a15, (congrFun (F 21 (by omega)) 1).trans hT.c.b15⟩,
  (congrFun (F 7 (by omega)) 3).trans (hT.r1.trans (hE 1 (by omega)).symm),
  (congrFun (F 9 (by omega)) 3).trans (hT.r3.trans (hE 2 (by omega)).symm),
  (congrFun (F 11 (by omega)) 3).trans (hT.r5.trans (hE 1 (by omega)).symm),
  (congrFun (F 13 (by omega)) 3).trans (hT.r7.trans (hE 4 (by omega)).symm),
  (congrFun (F 15 (by omega)) 3).trans (hT.r9.trans (hE 5 (by omega)).symm),
  (congrFun (F 17 (by omega)) 3).trans (hT.r11.trans (hE 6 (by omega)).symm),
  (congrFun (F 19 (by omega)) 3).trans (hT.r13.trans (hE 7 (by omega)).symm),
  (congrFun (F 21 (by omega)) 3).trans (hT.r15.trans (hE 8 (by omega)).symm),
  (congrFun (F 6 (by omega)) 12).trans (hT.lc.trans (hE 3 (by omega)).symm),
  (congrFun (F 6 (by omega)) 13).trans (hT.tx.trans (hE 0 (by omega)).symm),
  fun r q0 q1 => by
    rw [hE 1 (by omega)] at q1
    rw [(F 8 (by omega)), hE (120 + 2 * r) (by omega), hE (121 + 2 * r) (by omega)]
    exact hT.q1 r q0 q1,
  fun r q0 q1 => by
    rw [hE 2 (by omega)] at q1
    rw [(F 10 (by omega)), hE (140 + 3 * r) (by omega), hE (141 + 3 * r) (by omega), hE (142 + 3 * r) (by omega)]
    exact hT.q3 r q0 q1,
  fun r q0 q1 => by
    rw [hE 1 (by omega)] at q1
    rw [(F 12 (by omega)), hE (210 + 2 * r) (by omega), hE (211 + 2 * r) (by omega), hE (200 + r) (by omega)]
    exact hT.q5 r q0 q1,
  fun r q0 q1 => by
    rw [hE 4 (by omega)] at q1
    rw [(F 14 (by omega)), hE (332 + 4 * r) (by omega), hE (333 + 4 * r) (by omega), hE (331 + 4 * r) (by omega), hE (330 + 4 * r) (by omega)]
    exact hT.q7 r q0 q1,
  fun r q0 q1 => by
    rw [hE 5 (by omega)] at q1
    rw [(F 16 (by omega)), hE (395 + 3 * r) (by omega), hE (396 + 3 * r) (by omega), hE (394 + 3 * r) (by omega)]
    exact hT.q9 r q0 q1,
  fun r q0 q1 => by
    rw [hE 6 (by omega)] at q1
    rw [(F 18 (by omega)), hE (442 + 2 * r) (by omega), hE (443 + 2 * r) (by omega)]
    exact hT.q11 r q0 q1,
  fun r q0 q1 => by
    rw [hE 7 (by omega)] at q1
    rw [(F 20 (by omega)), hE (458 + 3 * r) (by omega), hE (459 + 3 * r) (by omega), hE (460 + 3 * r) (by omega)]
    exact hT.q13 r q0 q1,
  fun r q0 q1 => by
    rw [hE 8 (by omega)] at q1
    rw [(F 22 (by omega)), hE (506 + 2 * r) (by omega), hE (507 + 2 * r) (by omega)]
    exact hT.q15 r q0 q1,
  fun i q0 q1 => by rw [(F 23 (by omega)), hE (9 + i) (by omega)]; exact hT.di i q0 q1,
  fun y q0 q1 => by rw [(F 24 (by omega)), hE (20 + y) (by omega)]; exact hT.wi y q0 q1,
  fun z q0 q1 => by
    by_cases w : z = y
    · rw [w, f, uRope_0]; exact if_pos rfl
    · rw [hE (230 + z) (by omega), f]; exact (if_neg w).trans (hT.ro z q0 q1)⟩
theorem IM_uRope {μ : Int → Int} {y n : Int} (hV : IM μ) (hq : (0 ≤ y ∧ y < 100) ∧ 0 ≤ n ∧ n ≤ 20) : IM (uRope μ y n) := by
  have hE := uRope_o μ y n
  have hn1 := hV.n1
  have hn2 := hV.n2
  have hn3 := hV.n3
  have hn4 := hV.n4
  have hn5 := hV.n5
  have hn6 := hV.n6
  have hn7 := hV.n7
  have hn8 := hV.n8
  exact ⟨by rw [hE 0 (by omega)]; exact hV.n0,
  by rw [hE 1 (by omega)]; exact hV.n1,
  by rw [hE 2 (by omega)]; exact hV.n2,
  by rw [hE 3 (by omega)]; exact hV.n3,
  by rw [hE 4 (by omega)]; exact hV.n4,
  by rw [hE 5 (by omega)]; exact hV.n5,
  by rw [hE 6 (by omega)]; exact hV.n6,
  by rw [hE 7 (by omega)]; exact hV.n7,
  by rw [hE 8 (by omega)]; exact hV.n8,
  by rw [hE 9 (by omega)]; exact hV.st,
  by rw [hE 10 (by omega)]; exact hV.ra,
  by rw [hE 11 (by omega)]; exact hV.ba,
  by rw [hE 12 (by omega)]; exact hV.se,
  by rw [hE 13 (by omega)]; exact hV.gu,
  fun y q0 q1 => by rw [hE (20 + y) (by omega)]; exact hV.wi y q0 q1,
  fun z q0 q1 => by
    by_cases w : z = y
    · rw [w, uRope_0]; omega
    · rw [hE (230 + z) (by omega)]; exact hV.ro z q0 q1,
  fun h q0 q1 => by
    rw [hE 1 (by omega)] at q1
    rw [hE (120 + 2 * h) (by omega)]
    exact hV.hc h q0 q1,
  fun h q0 q1 => by
    rw [hE 1 (by omega)] at q1
    rw [hE (121 + 2 * h) (by omega)]
    exact hV.hh h q0 q1,
  fun h k q0 q1 q2 q3 q4 => by
    rw [hE 1 (by omega)] at q1 q3
    rw [hE (120 + 2 * h) (by omega), hE (120 + 2 * k) (by omega)] at q4
    exact hV.hd h k q0 q1 q2 q3 q4,
  fun w q0 q1 => by
    rw [hE 2 (by omega)] at q1
    rw [hE (140 + 3 * w) (by omega), hE (1) (by omega)]
    exact hV.wh w q0 q1,
  fun w q0 q1 => by
    rw [hE 2 (by omega)] at q1
    rw [hE (141 + 3 * w) (by omega)]
    exact hV.wf w q0 q1,
  fun w q0 q1 => by
    rw [hE 2 (by omega)] at q1
    rw [hE (142 + 3 * w) (by omega)]
    exact hV.wu w q0 q1,
  fun f q0 q1 => by
    rw [hE 1 (by omega)] at q1
    rw [hE (200 + f) (by omega), hE (1) (by omega)]
    exact hV.li f q0 q1,
  fun f k q0 q1 q2 q3 q4 => by
    rw [hE 1 (by omega)] at q1 q3
    rw [hE (200 + f) (by omega), hE (200 + k) (by omega)] at q4
    exact hV.lj f k q0 q1 q2 q3 q4,
  fun f q0 q1 => by
    rw [hE 1 (by omega)] at q1
    rw [hE (210 + 2 * f) (by omega), hE (211 + 2 * f) (by omega)]
    exact hV.wa f q0 q1,
  fun l q0 q1 => by
    rw [hE 4 (by omega)] at q1
    rw [hE (330 + 4 * l) (by omega), hE (3) (by omega)]
    exact hV.le l q0 q1,
  fun l q0 q1 => by
    rw [hE 4 (by omega)] at q1
    rw [hE (331 + 4 * l) (by omega), hE (1) (by omega)]
    exact hV.lh l q0 q1,
  fun l q0 q1 => by
    rw [hE 4 (by omega)] at q1
    rw [hE (332 + 4 * l) (by omega), hE (333 + 4 * l) (by omega)]
    exact hV.ly l q0 q1,
  fun p q0 q1 => by
    rw [hE 5 (by omega)] at q1
    rw [hE (394 + 3 * p) (by omega), hE (2) (by omega)]
    exact hV.pw p q0 q1,
  fun p q0 q1 => by
    rw [hE 5 (by omega)] at q1
    rw [hE (395 + 3 * p) (by omega), hE (396 + 3 * p) (by omega)]
    exact hV.py p q0 q1,
  fun d q0 q1 => by
    rw [hE 6 (by omega)] at q1
    rw [hE (442 + 2 * d) (by omega)]
    exact hV.da d q0 q1,
  fun d q0 q1 => by
    rw [hE 6 (by omega)] at q1
    rw [hE (443 + 2 * d) (by omega)]
    exact hV.db d q0 q1,
  fun p q0 q1 => by
    rw [hE 7 (by omega)] at q1
    rw [hE (458 + 3 * p) (by omega), hE (2) (by omega)]
    exact hV.pp p q0 q1,
  fun p q0 q1 => by
    rw [hE 7 (by omega)] at q1
    rw [hE (459 + 3 * p) (by omega)]
    exact hV.ph p q0 q1,
  fun p q0 q1 => by
    rw [hE 7 (by omega)] at q1
    rw [hE (460 + 3 * p) (by omega)]
    exact hV.pl p q0 q1,
  fun b q0 q1 => by
    rw [hE 8 (by omega)] at q1
    rw [hE (506 + 2 * b) (by omega), hE (1) (by omega)]
    exact hV.bh b q0 q1,
  fun b q0 q1 => by
    rw [hE 8 (by omega)] at q1
    rw [hE (507 + 2 * b) (by omega)]
    exact hV.bm b q0 q1,
  fun h q0 q1 => by
    rw [hE 1 (by omega)] at q1
    rw [hE (121 + 2 * h) (by omega), hE 8 (by omega), bsum_c (fun i z0 z1 => ⟨hE (506 + 2 * i) (by omega), hE (507 + 2 * i) (by omega)⟩)]
    exact hV.bs h q0 q1⟩
theorem uWan_o (μ : Int → Int) (f a b : Int) : ∀ j, j ≠ 210 + 2 * f ∧ j ≠ 211 + 2 * f → uWan μ f a b j = μ j := fun j q => (st_n q.2).trans (st_n q.1)
theorem uWan_0 (μ : Int → Int) (f a b : Int) : uWan μ f a b (210 + 2 * f) = a := (st_n (by omega)).trans (st_e _ _ _)
theorem uWan_1 (μ : Int → Int) (f a b : Int) : uWan μ f a b (211 + 2 * f) = b := st_e _ _ _
theorem TR_uWan {I J : qI} {μ : Int → Int} {f a b : Int} (hT : TR 6 I μ) (hV : IM μ) (hf : 0 ≤ f ∧ f < μ 1) (e : J 12 = fun j => if j = f * 3 + 1 then b else if j = f * 3 + 0 then a else I 12 j) (F : ∀ a, a ≠ 12 → J a = I a) : TR 6 J (uWan μ f a b) := by
  have hE := uWan_o μ f a b
  have hn1 := hV.n1
  have hn2 := hV.n2
  have hn3 := hV.n3
  have hn4 := hV.n4
  have hn5 := hV.n5
  have hn6 := hV.n6
  have hn7 := hV.n7
  have hn8 := hV.n8
  exact ⟨⟨(congrFun (F 7 (by omega)) 0).trans hT.c.a1, (congrFun (F 7 (by omega)) 1).trans hT.c.b1, (congrFun (F 9 (by omega)) 0).trans hT.c.a3, (congrFun (F 9 (by omega)) 1).trans hT.c.b3, (congrFun (F 11 (by omega)) 0).trans hT.c.a5, (congrFun (F 11 (by omega)) 1).trans hT.c.b5, (congrFun (F 13 (by omega)) 0).trans hT.c.a7, (congrFun (F 13 (by omega)) 1).trans hT.c.b7, (congrFun (F 15 (by omega)) 0).trans hT.c.a9, (congrFun (F 15 (by omega)) 1).trans hT.c.b9, (congrFun (F 17 (by omega)) 0).trans hT.c.a11, (congrFun (F 17 (by omega)) 1).trans hT.c.b11, (congrFun (F 19 (by omega)) 0).trans hT.c.a13, (congrFun (F 19 (by omega)) 1).trans hT.c.b13, (congrFun (F 21 (by omega)) 0).trans hT.c.a15, (congrFun (F 21 (by omega)) 1).trans hT.c.b15⟩,
  (congrFun (F 7 (by omega)) 3).trans (hT.r1.trans (hE 1 (by omega)).symm),
  (congrFun (F 9 (by omega)) 3).trans (hT.r3.trans (hE 2 (by omega)).symm),
  (congrFun (F 11 (by omega)) 3).trans (hT.r5.trans (hE 1 (by omega)).symm),
  (congrFun (F 13 (by omega)) 3).trans (hT.r7.trans (hE 4 (by omega)).symm),
  (congrFun (F 15 (by omega)) 3).trans (hT.r9.trans (hE 5 (by omega)).symm),
  (congrFun (F 17 (by omega)) 3).trans (hT.r11.trans (hE 6 (by omega)).symm),
  (congrFun (F 19 (by omega)) 3).trans (hT.r13.trans (hE 7 (by omega)).symm),
  (congrFun (F 21 (by omega)) 3).trans (hT.r15.trans (hE 8 (by omega)).symm),
  (congrFun (F 6 (by omega)) 12).trans (hT.lc.trans (hE 3 (by omega)).symm),
  (congrFun (F 6 (by omega)) 13).trans (hT.tx.trans (hE 0 (by omega)).symm),
  fun r q0 q1 => by
    rw [hE 1 (by omega)] at q1
    rw [(F 8 (by omega)), hE (120 + 2 * r) (by omega), hE (121 + 2 * r) (by omega)]
    exact hT.q1 r q0 q1,
  fun r q0 q1 => by
    rw [hE 2 (by omega)] at q1
    rw [(F 10 (by omega)), hE (140 + 3 * r) (by omega), hE (141 + 3 * r) (by omega), hE (142 + 3 * r) (by omega)]
    exact hT.q3 r q0 q1,
  fun r q0 q1 => by
    rw [hE 1 (by omega)] at q1
    by_cases z : r = f
    · rw [z, e, uWan_0, uWan_1, hE (200 + f) (by omega)]; exact ⟨(if_neg (by omega)).trans (if_pos rfl), if_pos rfl, (if_neg (by omega)).trans ((if_neg (by omega)).trans (hT.q5 f hf.1 hf.2).2.2)⟩
    · rw [e, hE (210 + 2 * r) (by omega), hE (211 + 2 * r) (by omega), hE (200 + r) (by omega)]; exact ⟨(if_neg (by omega)).trans ((if_neg (by omega)).trans (hT.q5 r q0 q1).1), (if_neg (by omega)).trans ((if_neg (by omega)).trans (hT.q5 r q0 q1).2.1), (if_neg (by omega)).trans ((if_neg (by omega)).trans (hT.q5 r q0 q1).2.2)⟩,
  fun r q0 q1 => by
    rw [hE 4 (by omega)] at q1
    rw [(F 14 (by omega)), hE (332 + 4 * r) (by omega), hE (333 + 4 * r) (by omega), hE (331 + 4 * r) (by omega), hE (330 + 4 * r) (by omega)]
    exact hT.q7 r q0 q1,
  fun r q0 q1 => by
    rw [hE 5 (by omega)] at q1
    rw [(F 16 (by omega)), hE (395 + 3 * r) (by omega), hE (396 + 3 * r) (by omega), hE (394 + 3 * r) (by omega)]
    exact hT.q9 r q0 q1,
  fun r q0 q1 => by
    rw [hE 6 (by omega)] at q1
    rw [(F 18 (by omega)), hE (442 + 2 * r) (by omega), hE (443 + 2 * r) (by omega)]
    exact hT.q11 r q0 q1,
  fun r q0 q1 => by
    rw [hE 7 (by omega)] at q1
    rw [(F 20 (by omega)), hE (458 + 3 * r) (by omega), hE (459 + 3 * r) (by omega), hE (460 + 3 * r) (by omega)]
    exact hT.q13 r q0 q1,
  fun r q0 q1 => by
    rw [hE 8 (by omega)] at q1
    rw [(F 22 (by omega)), hE (506 + 2 * r) (by omega), hE (507 + 2 * r) (by omega)]
    exact hT.q15 r q0 q1,
  fun i q0 q1 => by rw [(F 23 (by omega)), hE (9 + i) (by omega)]; exact hT.di i q0 q1,
  fun y q0 q1 => by rw [(F 24 (by omega)), hE (20 + y) (by omega)]; exact hT.wi y q0 q1,
  fun y q0 q1 => by rw [(F 25 (by omega)), hE (230 + y) (by omega)]; exact hT.ro y q0 q1⟩
theorem IM_uWan {μ : Int → Int} {f a b : Int} (hV : IM μ) (hq : ((0 ≤ f ∧ f < μ 1) ∧ (0 ≤ a ∧ a < 100) ∧ (0 ≤ b ∧ b < 100)) ∧ a ≤ b) : IM (uWan μ f a b) := by
  have hE := uWan_o μ f a b
  have hn1 := hV.n1
  have hn2 := hV.n2
  have hn3 := hV.n3
  have hn4 := hV.n4
  have hn5 := hV.n5
  have hn6 := hV.n6
  have hn7 := hV.n7
  have hn8 := hV.n8
  exact ⟨by rw [hE 0 (by omega)]; exact hV.n0,
  by rw [hE 1 (by omega)]; exact hV.n1,
  by rw [hE 2 (by omega)]; exact hV.n2,
  by rw [hE 3 (by omega)]; exact hV.n3,
  by rw [hE 4 (by omega)]; exact hV.n4,
  by rw [hE 5 (by omega)]; exact hV.n5,
  by rw [hE 6 (by omega)]; exact hV.n6,
  by rw [hE 7 (by omega)]; exact hV.n7,
  by rw [hE 8 (by omega)]; exact hV.n8,
  by rw [hE 9 (by omega)]; exact hV.st,
  by rw [hE 10 (by omega)]; exact hV.ra,
  by rw [hE 11 (by omega)]; exact hV.ba,
  by rw [hE 12 (by omega)]; exact hV.se,
  by rw [hE 13 (by omega)]; exact hV.gu,
  fun y q0 q1 => by rw [hE (20 + y) (by omega)]; exact hV.wi y q0 q1,
  fun y q0 q1 => by rw [hE (230 + y) (by omega)]; exact hV.ro y q0 q1,
  fun h q0 q1 => by
    rw [hE 1 (by omega)] at q1
    rw [hE (120 + 2 * h) (by omega)]
    exact hV.hc h q0 q1,
  fun h q0 q1 => by
    rw [hE 1 (by omega)] at q1
    rw [hE (121 + 2 * h) (by omega)]
    exact hV.hh h q0 q1,
  fun h k q0 q1 q2 q3 q4 => by
    rw [hE 1 (by omega)] at q1 q3
    rw [hE (120 + 2 * h) (by omega), hE (120 + 2 * k) (by omega)] at q4
    exact hV.hd h k q0 q1 q2 q3 q4,
  fun w q0 q1 => by
    rw [hE 2 (by omega)] at q1
    rw [hE (140 + 3 * w) (by omega), hE (1) (by omega)]
    exact hV.wh w q0 q1,
  fun w q0 q1 => by
    rw [hE 2 (by omega)] at q1
    rw [hE (141 + 3 * w) (by omega)]
    exact hV.wf w q0 q1,
  fun w q0 q1 => by
    rw [hE 2 (by omega)] at q1
    rw [hE (142 + 3 * w) (by omega)]
    exact hV.wu w q0 q1,
  fun f q0 q1 => by
    rw [hE 1 (by omega)] at q1
    rw [hE (200 + f) (by omega), hE (1) (by omega)]
    exact hV.li f q0 q1,
  fun f k q0 q1 q2 q3 q4 => by
    rw [hE 1 (by omega)] at q1 q3
    rw [hE (200 + f) (by omega), hE (200 + k) (by omega)] at q4
    exact hV.lj f k q0 q1 q2 q3 q4,
  fun r q0 q1 => by
    rw [hE 1 (by omega)] at q1
    by_cases z : r = f
    · rw [z, uWan_0, uWan_1]; omega
    · rw [hE (210 + 2 * r) (by omega), hE (211 + 2 * r) (by omega)]; exact hV.wa r q0 q1,
  fun l q0 q1 => by
    rw [hE 4 (by omega)] at q1
    rw [hE (330 + 4 * l) (by omega), hE (3) (by omega)]
    exact hV.le l q0 q1,
  fun l q0 q1 => by
    rw [hE 4 (by omega)] at q1
    rw [hE (331 + 4 * l) (by omega), hE (1) (by omega)]
    exact hV.lh l q0 q1,
  fun l q0 q1 => by
    rw [hE 4 (by omega)] at q1
    rw [hE (332 + 4 * l) (by omega), hE (333 + 4 * l) (by omega)]
    exact hV.ly l q0 q1,
  fun p q0 q1 => by
    rw [hE 5 (by omega)] at q1
    rw [hE (394 + 3 * p) (by omega), hE (2) (by omega)]
    exact hV.pw p q0 q1,
  fun p q0 q1 => by
    rw [hE 5 (by omega)] at q1
    rw [hE (395 + 3 * p) (by omega), hE (396 + 3 * p) (by omega)]
    exact hV.py p q0 q1,
  fun d q0 q1 => by
    rw [hE 6 (by omega)] at q1
    rw [hE (442 + 2 * d) (by omega)]
    exact hV.da d q0 q1,
  fun d q0 q1 => by
    rw [hE 6 (by omega)] at q1
    rw [hE (443 + 2 * d) (by omega)]
    exact hV.db d q0 q1,
  fun p q0 q1 => by
    rw [hE 7 (by omega)] at q1
    rw [hE (458 + 3 * p) (by omega), hE (2) (by omega)]
    exact hV.pp p q0 q1,
  fun p q0 q1 => by
    rw [hE 7 (by omega)] at q1
    rw [hE (459 + 3 * p) (by omega)]
    exact hV.ph p q0 q1,
  fun p q0 q1 => by
    rw [hE 7 (by omega)] at q1
    rw [hE (460 + 3 * p) (by omega)]
    exact hV.pl p q0 q1,
  fun b q0 q1 => by
    rw [hE 8 (by omega)] at q1
    rw [hE (506 + 2 * b) (by omega), hE (1) (by omega)]
    exact hV.bh b q0 q1,
  fun b q0 q1 => by
    rw [hE 8 (by omega)] at q1
    rw [hE (507 + 2 * b) (by omega)]
    exact hV.bm b q0 q1,
  fun h q0 q1 => by
    rw [hE 1 (by omega)] at q1
    rw [hE (121 + 2 * h) (by omega), hE 8 (by omega), bsum_c (fun i z0 z1 => ⟨hE (506 + 2 * i) (by omega), hE (507 + 2 * i) (by omega)⟩)]
    exact hV.bs h q0 q1⟩
theorem s_11_rope {d : Nat} {P : Option qV → qH → Prop} {X : Nat → qH → Prop} {I : qI} {H : qS} {μ : Int → Int} (hd : 3 ≤ d) {y n : Int} (hS : Shp H) (hX : SX I) (hT : TR 6 I μ) (hV : IM μ) (h : ((0 ≤ y ∧ y < 100) ∧ 0 ≤ n ∧ n ≤ 20) → ∀ J : qI, CU I J (uRope μ y n) → P (some (vi (μ (230 + y)))) (J, H)) (hx1 : ¬ ((0 ≤ y ∧ y < 100)) → X 1 (I, H)) (hx0 : (0 ≤ y ∧ y < 100) ∧ ¬ (0 ≤ n ∧ n ≤ 20) → X 0 (I, H)) :
    Call d 124 [vr (some 3) 9, vi y, vi n] (I, H) P X := by
  obtain ⟨d, rfl⟩ : ∃ e, d = e + 1 := ⟨d - 1, by omega⟩
  show WP (Call d) 124 P X (0, [some (vr (some 3) 9), some (vi y), some (vi n), none], [], (I, H), 0, 0)
  refine WP.go 2 (And.intro (And.intro (Nat.le_of_ble_eq_true rfl) (Nat.le_of_ble_eq_true rfl)) (And.intro rfl (?_)))
  show Call d 165 [vi y] (I, H) _ _
  refine s_11_needYear (by omega)  (fun q1 => ?_) (fun q9 => hx1 (by omega))
  show WP (Call d) 124 P X (2, [some (vr (some 3) 9), some (vi y), some (vi n), none], [], (I, H), 1, 6)
  refine WP.go 2 (And.intro (fun (b3 : n < 0) => ?_) (fun (b3 : ¬ n < 0) => ?_))
  ·
    show WP (Call d) 124 P X (7, [some (vr (some 3) 9), some (vi y), some (vi n), none], [], (I, H), 1, 6)
    refine WP.go 1 (And.intro (And.intro (Nat.le_of_ble_eq_true rfl) (Nat.le_of_ble_eq_true rfl)) (?_))
    show X 0 (I, H)
    exact hx0 (by omega)
  ·
    show WP (Call d) 124 P X (4, [some (vr (some 3) 9), some (vi y), some (vi n), none], [], (I, H), 1, 6)
    refine WP.go 3 (And.intro (fun (b6 : ¬ 20 < n) => ?_) (fun (b6 : 20 < n) => ?_))
    ·
      show WP (Call d) 124 P X (11, [some (vr (some 3) 9), some (vi y), some (vi n), none], [], (I, H), 1, 6)
      refine WP.go 4 (And.intro rfl (Exists.intro 6 (And.intro hS.r3_4 (And.intro (And.intro (Nat.le_of_ble_eq_true rfl) (Nat.le_of_ble_eq_true rfl)) (And.intro rfl (?_))))))
      show Call d 88 [vr (some 6) 6, vi y] (I, H) _ _
      refine s_8_ropesIn (by omega) hS (.inl rfl) hT hV (by omega) ?_
      show WP (Call d) 124 P X (15, [some (vr (some 3) 9), some (vi y), some (vi n), none], [vi (μ (230 + y))], (I, H), 1, 6)
      refine WP.go 6 (And.intro rfl (Exists.intro 6 (And.intro hS.r3_4 (And.intro (And.intro (Nat.le_of_ble_eq_true rfl) (Nat.le_of_ble_eq_true rfl)) (And.intro rfl (?_))))))
      show Call d 89 [vr (some 6) 6, vi y, vi n] (I, H) _ _
      refine s_8_setRopes (by omega) hS (.inl rfl) (by omega) (fun J20 e20 f20 => ?_)
      show WP (Call d) 124 P X (21, [some (vr (some 3) 9), some (vi y), some (vi n), some (vi (μ (230 + y)))], [], (J20, H), 1, 6)
      refine WP.go 2 (And.intro (And.intro (Nat.le_of_ble_eq_true rfl) (Nat.le_of_ble_eq_true rfl)) (And.intro trivial (?_)))
      show P (some (vi (μ (230 + y)))) (J20, H)
      exact fin_i rfl (h (by omega) _ ⟨fun a q => f20 a (by omega), TR_uRope hT hV (by omega) e20 f20⟩)
    ·
      show WP (Call d) 124 P X (7, [some (vr (some 3) 9), some (vi y), some (vi n), none], [], (I, H), 1, 6)
      refine WP.go 1 (And.intro (And.intro (Nat.le_of_ble_eq_true rfl) (Nat.le_of_ble_eq_true rfl)) (?_))
      show X 0 (I, H)
      exact hx0 (by omega)

theorem s_11_let {d : Nat} {P : Option qV → qH → Prop} {X : Nat → qH → Prop} {I : qI} {H : qS} {μ : Int → Int} (hd : 4 ≤ d) {a b x y : Int} (hS : Shp H) (hX : SX I) (hT : TR 6 I μ) (hV : IM μ) (h : (((0 ≤ a ∧ a < μ 3) ∧ (0 ≤ b ∧ b < μ 1) ∧ (0 ≤ x ∧ x < 100) ∧ (0 ≤ y ∧ y < 100)) ∧ x ≤ y ∧ μ 4 < 16) → ∀ J : qI, CU I J (uLet μ a b x y) → P (some (vi (μ 4))) (J, H)) (hx1 : ¬ ((0 ≤ a ∧ a < μ 3) ∧ (0 ≤ b ∧ b < μ 1) ∧ (0 ≤ x ∧ x < 100) ∧ (0 ≤ y ∧ y < 100)) → X 1 (I, H)) (hx0 : ((0 ≤ a ∧ a < μ 3) ∧ (0 ≤ b ∧ b < μ 1) ∧ (0 ≤ x ∧ x < 100) ∧ (0 ≤ y ∧ y < 100)) ∧ y < x → X 0 (I, H)) (hx2 : ((0 ≤ a ∧ a < μ 3) ∧ (0 ≤ b ∧ b < μ 1) ∧ (0 ≤ x ∧ x < 100) ∧ (0 ≤ y ∧ y < 100)) ∧ x ≤ y ∧ ¬ μ 4 < 16 → X 2 (I, H)) :
    Call d 130 [vr (some 3) 9, vi a, vi b, vi x, vi y] (I, H) P X := by
  obtain ⟨d, rfl⟩ : ∃ e, d = e + 1 := ⟨d - 1, by omega⟩
  have v4 := hV.n4
  have v5 := hV.n5
  have v6 := hV.n6
  have v7 := hV.n7
  show WP (Call d) 130 P X (0, [some (vr (some 3) 9), some (vi a), some (vi b), some (vi x), some (vi y)], [], (I, H), 0, 0)
  refine WP.go 3 (And.intro (And.intro (Nat.le_of_ble_eq_true rfl) (Nat.le_of_ble_eq_true rfl)) (And.intro rfl (?_)))
  show Call d 170 [vr (some 3) 9, vi a] (I, H) _ _
  refine s_11_needLease (by omega) hS hT (fun q2 => ?_) (fun q9 => hx1 (by omega))
  show WP (Call d) 130 P X (3, [some (vr (some 3) 9), some (vi a), some (vi b), some (vi x), some (vi y)], [], (I, H), 1, 6)
  refine WP.go 3 (And.intro (And.intro (Nat.le_of_ble_eq_true rfl) (Nat.le_of_ble_eq_true rfl)) (And.intro rfl (?_)))
  show Call d 167 [vr (some 3) 9, vi b] (I, H) _ _
  refine s_11_needHouse (by omega) hS hT (fun q5 => ?_) (fun q9 => hx1 (by omega))
  show WP (Call d) 130 P X (6, [some (vr (some 3) 9), some (vi a), some (vi b), some (vi x), some (vi y)], [], (I, H), 2, 12)
  refine WP.go 3 (And.intro (And.intro (Nat.le_of_ble_eq_true rfl) (Nat.le_of_ble_eq_true rfl)) (And.intro rfl (?_)))
  show Call d 171 [vi x, vi y] (I, H) _ _
  refine s_11_needYears (by omega)  (fun q8 => ?_) (fun q9 => hx1 (by omega)) (fun q9 => hx0 (by omega))
  show WP (Call d) 130 P X (9, [some (vr (some 3) 9), some (vi a), some (vi b), some (vi x), some (vi y)], [], (I, H), 5, 30)
  refine WP.go 4 (And.intro rfl (Exists.intro 6 (And.intro hS.r3_4 (And.intro rfl (Exists.intro 13 (And.intro hS.r6_3 (And.intro (And.intro (Nat.le_of_ble_eq_true rfl) (Nat.le_of_ble_eq_true rfl)) (And.intro rfl (?_)))))))))
  show Call d 57 [vr (some 13) 4] (I, H) _ _
  refine s_hasRoom_lets (by omega) hT ?_
  show WP (Call d) 130 P X (13, [some (vr (some 3) 9), some (vi a), some (vi b), some (vi x), some (vi y)], [vi (bz (μ 4 < 16))], (I, H), 5, 30)
  refine WP.go 1 (And.intro (And.intro (Nat.le_of_ble_eq_true rfl) (Nat.le_of_ble_eq_true rfl)) (And.intro rfl (?_)))
  show Call d 174 [vi (bz (μ 4 < 16))] (I, H) _ _
  refine s_11_needRoom_b (by omega)  (fun q13 => ?_) (fun q9 => hx2 (by omega))
  show WP (Call d) 130 P X (14, [some (vr (some 3) 9), some (vi a), some (vi b), some (vi x), some (vi y)], [], (I, H), 6, 36)
  refine WP.go 8 (And.intro rfl (Exists.intro 6 (And.intro hS.r3_4 (And.intro rfl (Exists.intro 13 (And.intro hS.r6_3 (And.intro (And.intro (Nat.le_of_ble_eq_true rfl) (Nat.le_of_ble_eq_true rfl)) (And.intro rfl (?_)))))))))
  show Call d 60 [vr (some 13) 4, vi x, vi y, vi b, vi a] (I, H) _ _
  refine s_5_add_w4 (by omega) hS.r13_2 hT.c.a7 hT.c.b7 hT.r7 hS.l14 (by omega) (by omega) (fun J21 e21 f21 g21 => ?_)
  show WP (Call d) 130 P X (22, [some (vr (some 3) 9), some (vi a), some (vi b), some (vi x), some (vi y)], [vi (μ 4)], (J21, H), 6, 36)
  have hTn : TR 6 J21 (uLet μ a b x y) := TR_uLet hT hV (by omega) e21 f21 (fun a q1 q2 => g21 a q1 q2)
  refine WP.go 1 (And.intro (And.intro (Nat.le_of_ble_eq_true rfl) (Nat.le_of_ble_eq_true rfl)) (And.intro trivial (?_)))
  show P (some (vi (μ 4))) (J21, H)
  exact fin_i (by omega) (h (by omega) _ ⟨fun a q => g21 a (by omega) (by omega), hTn⟩)

theorem s_11_promise {d : Nat} {P : Option qV → qH → Prop} {X : Nat → qH → Prop} {I : qI} {H : qS} {μ : Int → Int} (hd : 4 ≤ d) {w x y : Int} (hS : Shp H) (hX : SX I) (hT : TR 6 I μ) (hV : IM μ) (h : (((0 ≤ w ∧ w < μ 2) ∧ (0 ≤ x ∧ x < 100) ∧ (0 ≤ y ∧ y < 100)) ∧ x ≤ y ∧ μ 5 < 16) → ∀ J : qI, CU I J (uPro μ w x y) → P (some (vi (μ 5))) (J, H)) (hx1 : ¬ ((0 ≤ w ∧ w < μ 2) ∧ (0 ≤ x ∧ x < 100) ∧ (0 ≤ y ∧ y < 100)) → X 1 (I, H)) (hx0 : ((0 ≤ w ∧ w < μ 2) ∧ (0 ≤ x ∧ x < 100) ∧ (0 ≤ y ∧ y < 100)) ∧ y < x → X 0 (I, H)) (hx2 : ((0 ≤ w ∧ w < μ 2) ∧ (0 ≤ x ∧ x < 100) ∧ (0 ≤ y ∧ y < 100)) ∧ x ≤ y ∧ ¬ μ 5 < 16 → X 2 (I, H)) :
    Call d 132 [vr (some 3) 9, vi w, vi x, vi y] (I, H) P X := by
  obtain ⟨d, rfl⟩ : ∃ e, d = e + 1 := ⟨d - 1, by omega⟩
  have v4 := hV.n4
  have v5 := hV.n5
  have v6 := hV.n6
  have v7 := hV.n7
  show WP (Call d) 132 P X (0, [some (vr (some 3) 9), some (vi w), some (vi x), some (vi y)], [], (I, H), 0, 0)
  refine WP.go 3 (And.intro (And.intro (Nat.le_of_ble_eq_true rfl) (Nat.le_of_ble_eq_true rfl)) (And.intro rfl (?_)))
  show Call d 169 [vr (some 3) 9, vi w] (I, H) _ _
  refine s_11_needWindow (by omega) hS hT (fun q2 => ?_) (fun q9 => hx1 (by omega))
  show WP (Call d) 132 P X (3, [some (vr (some 3) 9), some (vi w), some (vi x), some (vi y)], [], (I, H), 1, 6)
  refine WP.go 3 (And.intro (And.intro (Nat.le_of_ble_eq_true rfl) (Nat.le_of_ble_eq_true rfl)) (And.intro rfl (?_)))
  show Call d 171 [vi x, vi y] (I, H) _ _
  refine s_11_needYears (by omega)  (fun q5 => ?_) (fun q9 => hx1 (by omega)) (fun q9 => hx0 (by omega))
  show WP (Call d) 132 P X (6, [some (vr (some 3) 9), some (vi w), some (vi x), some (vi y)], [], (I, H), 4, 24)
  refine WP.go 4 (And.intro rfl (Exists.intro 6 (And.intro hS.r3_4 (And.intro rfl (Exists.intro 15 (And.intro hS.r6_4 (And.intro (And.intro (Nat.le_of_ble_eq_true rfl) (Nat.le_of_ble_eq_true rfl)) (And.intro rfl (?_)))))))))
  show Call d 57 [vr (some 15) 4] (I, H) _ _
  refine s_hasRoom_promises (by omega) hT ?_
  show WP (Call d) 132 P X (10, [some (vr (some 3) 9), some (vi w), some (vi x), some (vi y)], [vi (bz (μ 5 < 16))], (I, H), 4, 24)
  refine WP.go 1 (And.intro (And.intro (Nat.le_of_ble_eq_true rfl) (Nat.le_of_ble_eq_true rfl)) (And.intro rfl (?_)))
  show Call d 174 [vi (bz (μ 5 < 16))] (I, H) _ _
  refine s_11_needRoom_b (by omega)  (fun q10 => ?_) (fun q9 => hx2 (by omega))
  show WP (Call d) 132 P X (11, [some (vr (some 3) 9), some (vi w), some (vi x), some (vi y)], [], (I, H), 5, 30)
  refine WP.go 8 (And.intro rfl (Exists.intro 6 (And.intro hS.r3_4 (And.intro rfl (Exists.intro 15 (And.intro hS.r6_4 (And.intro (And.intro (Nat.le_of_ble_eq_true rfl) (Nat.le_of_ble_eq_true rfl)) (And.intro rfl (?_)))))))))
  show Call d 60 [vr (some 15) 4, vi x, vi y, vi w, vi 0] (I, H) _ _
  refine s_5_add_w3 (by omega) hS.r15_2 hT.c.a9 hT.c.b9 hT.r9 hS.l16 (by omega) (by omega) (fun J18 e18 f18 g18 => ?_)
  show WP (Call d) 132 P X (19, [some (vr (some 3) 9), some (vi w), some (vi x), some (vi y)], [vi (μ 5)], (J18, H), 5, 30)
  have hTn : TR 6 J18 (uPro μ w x y) := TR_uPro hT hV (by omega) e18 f18 (fun a q1 q2 => g18 a q1 q2)
  refine WP.go 1 (And.intro (And.intro (Nat.le_of_ble_eq_true rfl) (Nat.le_of_ble_eq_true rfl)) (And.intro trivial (?_)))
  show P (some (vi (μ 5))) (J18, H)
  exact fin_i (by omega) (h (by omega) _ ⟨fun a q => g18 a (by omega) (by omega), hTn⟩)

theorem s_11_drain {d : Nat} {P : Option qV → qH → Prop} {X : Nat → qH → Prop} {I : qI} {H : qS} {μ : Int → Int} (hd : 3 ≤ d) {x y : Int} (hS : Shp H) (hX : SX I) (hT : TR 6 I μ) (hV : IM μ) (h : (((0 ≤ x ∧ x < 81) ∧ (0 ≤ y ∧ y < 81)) ∧ x ≠ y ∧ μ 6 < 8) → ∀ J : qI, CU I J (uDra μ x y) → P (some (vi (μ 6))) (J, H)) (hx1 : ¬ ((0 ≤ x ∧ x < 81) ∧ (0 ≤ y ∧ y < 81)) → X 1 (I, H)) (hx0 : ((0 ≤ x ∧ x < 81) ∧ (0 ≤ y ∧ y < 81)) ∧ x = y → X 0 (I, H)) (hx2 : ((0 ≤ x ∧ x < 81) ∧ (0 ≤ y ∧ y < 81)) ∧ x ≠ y ∧ ¬ μ 6 < 8 → X 2 (I, H)) :
    Call d 136 [vr (some 3) 9, vi x, vi y] (I, H) P X := by
  obtain ⟨d, rfl⟩ : ∃ e, d = e + 1 := ⟨d - 1, by omega⟩
  have v4 := hV.n4
  have v5 := hV.n5
  have v6 := hV.n6
  have v7 := hV.n7
  show WP (Call d) 136 P X (0, [some (vr (some 3) 9), some (vi x), some (vi y)], [], (I, H), 0, 0)
  refine WP.go 2 (And.intro (And.intro (Nat.le_of_ble_eq_true rfl) (Nat.le_of_ble_eq_true rfl)) (And.intro rfl (?_)))
  show Call d 164 [vi x] (I, H) _ _
  refine s_11_needCell (by omega)  (fun q1 => ?_) (fun q9 => hx1 (by omega))
  show WP (Call d) 136 P X (2, [some (vr (some 3) 9), some (vi x), some (vi y)], [], (I, H), 1, 6)
  refine WP.go 2 (And.intro (And.intro (Nat.le_of_ble_eq_true rfl) (Nat.le_of_ble_eq_true rfl)) (And.intro rfl (?_)))
  show Call d 164 [vi y] (I, H) _ _
  refine s_11_needCell (by omega)  (fun q3 => ?_) (fun q9 => hx1 (by omega))
  show WP (Call d) 136 P X (4, [some (vr (some 3) 9), some (vi x), some (vi y)], [], (I, H), 2, 12)
  refine WP.go 3 (And.intro (fun (b6 : ¬ x = y) => ?_) (fun (b6 : x = y) => ?_))
  ·
    show WP (Call d) 136 P X (11, [some (vr (some 3) 9), some (vi x), some (vi y)], [], (I, H), 2, 12)
    refine WP.go 4 (And.intro rfl (Exists.intro 6 (And.intro hS.r3_4 (And.intro rfl (Exists.intro 17 (And.intro hS.r6_5 (And.intro (And.intro (Nat.le_of_ble_eq_true rfl) (Nat.le_of_ble_eq_true rfl)) (And.intro rfl (?_)))))))))
    show Call d 57 [vr (some 17) 4] (I, H) _ _
    refine s_hasRoom_drains (by omega) hT ?_
    show WP (Call d) 136 P X (15, [some (vr (some 3) 9), some (vi x), some (vi y)], [vi (bz (μ 6 < 8))], (I, H), 2, 12)
    refine WP.go 1 (And.intro (And.intro (Nat.le_of_ble_eq_true rfl) (Nat.le_of_ble_eq_true rfl)) (And.intro rfl (?_)))
    show Call d 174 [vi (bz (μ 6 < 8))] (I, H) _ _
    refine s_11_needRoom_b (by omega)  (fun q15 => ?_) (fun q9 => hx2 (by omega))
    show WP (Call d) 136 P X (16, [some (vr (some 3) 9), some (vi x), some (vi y)], [], (I, H), 3, 18)
    refine WP.go 8 (And.intro rfl (Exists.intro 6 (And.intro hS.r3_4 (And.intro rfl (Exists.intro 17 (And.intro hS.r6_5 (And.intro (And.intro (Nat.le_of_ble_eq_true rfl) (Nat.le_of_ble_eq_true rfl)) (And.intro rfl (?_)))))))))
    show Call d 60 [vr (some 17) 4, vi x, vi y, vi 0, vi 0] (I, H) _ _
    refine s_5_add_w2 (by omega) hS.r17_2 hT.c.a11 hT.c.b11 hT.r11 hS.l18 (by omega) (by omega) (fun J23 e23 f23 g23 => ?_)
    show WP (Call d) 136 P X (24, [some (vr (some 3) 9), some (vi x), some (vi y)], [vi (μ 6)], (J23, H), 3, 18)
    have hTn : TR 6 J23 (uDra μ x y) := TR_uDra hT hV (by omega) e23 f23 (fun a q1 q2 => g23 a q1 q2)
    refine WP.go 1 (And.intro (And.intro (Nat.le_of_ble_eq_true rfl) (Nat.le_of_ble_eq_true rfl)) (And.intro trivial (?_)))
    show P (some (vi (μ 6))) (J23, H)
    exact fin_i (by omega) (h (by omega) _ ⟨fun a q => g23 a (by omega) (by omega), hTn⟩)
  ·
    show WP (Call d) 136 P X (7, [some (vr (some 3) 9), some (vi x), some (vi y)], [], (I, H), 2, 12)
    refine WP.go 1 (And.intro (And.intro (Nat.le_of_ble_eq_true rfl) (Nat.le_of_ble_eq_true rfl)) (?_))
    show X 0 (I, H)
    exact hx0 (by omega)

theorem s_11_paper {d : Nat} {P : Option qV → qH → Prop} {X : Nat → qH → Prop} {I : qI} {H : qS} {μ : Int → Int} (hd : 3 ≤ d) {w hr lt : Int} (hS : Shp H) (hX : SX I) (hT : TR 6 I μ) (hV : IM μ) (h : (((0 ≤ w ∧ w < μ 2) ∧ (0 ≤ hr ∧ hr < 13)) ∧ μ 7 < 16) → ∀ J : qI, CU I J (uPap μ w hr (lv lt)) → P (some (vi (1 + μ 7))) (J, H)) (hx1 : ¬ ((0 ≤ w ∧ w < μ 2) ∧ (0 ≤ hr ∧ hr < 13)) → X 1 (I, H)) (hx2 : ((0 ≤ w ∧ w < μ 2) ∧ (0 ≤ hr ∧ hr < 13)) ∧ ¬ μ 7 < 16 → X 2 (I, H)) :
    Call d 152 [vr (some 3) 9, vi w, vi hr, vi lt] (I, H) P X := by
  obtain ⟨d, rfl⟩ : ∃ e, d = e + 1 := ⟨d - 1, by omega⟩
  have v4 := hV.n4
  have v5 := hV.n5
  have v6 := hV.n6
  have v7 := hV.n7
  show WP (Call d) 152 P X (0, [some (vr (some 3) 9), some (vi w), some (vi hr), some (vi lt)], [], (I, H), 0, 0)
  refine WP.go 3 (And.intro (And.intro (Nat.le_of_ble_eq_true rfl) (Nat.le_of_ble_eq_true rfl)) (And.intro rfl (?_)))
  show Call d 169 [vr (some 3) 9, vi w] (I, H) _ _
  refine s_11_needWindow (by omega) hS hT (fun q2 => ?_) (fun q9 => hx1 (by omega))
  show WP (Call d) 152 P X (3, [some (vr (some 3) 9), some (vi w), some (vi hr), some (vi lt)], [], (I, H), 1, 6)
  refine WP.go 2 (And.intro (And.intro (Nat.le_of_ble_eq_true rfl) (Nat.le_of_ble_eq_true rfl)) (And.intro rfl (?_)))
  show Call d 166 [vi hr] (I, H) _ _
  refine s_11_needHour (by omega)  (fun q4 => ?_) (fun q9 => hx1 (by omega))
  show WP (Call d) 152 P X (5, [some (vr (some 3) 9), some (vi w), some (vi hr), some (vi lt)], [], (I, H), 2, 12)
  refine WP.go 4 (And.intro rfl (Exists.intro 6 (And.intro hS.r3_4 (And.intro rfl (Exists.intro 19 (And.intro hS.r6_6 (And.intro (And.intro (Nat.le_of_ble_eq_true rfl) (Nat.le_of_ble_eq_true rfl)) (And.intro rfl (?_)))))))))
  show Call d 57 [vr (some 19) 4] (I, H) _ _
  refine s_hasRoom_papers (by omega) hT ?_
  show WP (Call d) 152 P X (9, [some (vr (some 3) 9), some (vi w), some (vi hr), some (vi lt)], [vi (bz (μ 7 < 16))], (I, H), 2, 12)
  refine WP.go 1 (And.intro (And.intro (Nat.le_of_ble_eq_true rfl) (Nat.le_of_ble_eq_true rfl)) (And.intro rfl (?_)))
  show Call d 174 [vi (bz (μ 7 < 16))] (I, H) _ _
  refine s_11_needRoom_b (by omega)  (fun q9 => ?_) (fun q9 => hx2 (by omega))
  show WP (Call d) 152 P X (10, [some (vr (some 3) 9), some (vi w), some (vi hr), some (vi lt)], [], (I, H), 3, 18)
  refine WP.go 7 (And.intro rfl (Exists.intro 6 (And.intro hS.r3_4 (And.intro rfl (Exists.intro 19 (And.intro hS.r6_6 (And.intro (fun (b16 : lt = 0) => ?_) (fun (b16 : ¬ lt = 0) => ?_))))))))
  ·
    show WP (Call d) 152 P X (19, [some (vr (some 3) 9), some (vi w), some (vi hr), some (vi lt)], [vi hr, vi w, vr (some 19) 4], (I, H), 3, 18)
    refine WP.go 3 (And.intro (And.intro (Nat.le_of_ble_eq_true rfl) (Nat.le_of_ble_eq_true rfl)) (And.intro rfl (?_)))
    show Call d 60 [vr (some 19) 4, vi w, vi hr, vi 0, vi 0] (I, H) _ _
    refine s_5_add_w3 (by omega) hS.r19_2 hT.c.a13 hT.c.b13 hT.r13 hS.l20 (by omega) (by omega) (fun J21 e21 f21 g21 => ?_)
    show WP (Call d) 152 P X (22, [some (vr (some 3) 9), some (vi w), some (vi hr), some (vi lt)], [vi (μ 7)], (J21, H), 3, 18)
    have hTn : TR 6 J21 (uPap μ w hr 0) := TR_uPap hT hV (by omega) e21 f21 (fun a q1 q2 => g21 a q1 q2)
    refine WP.go 5 (And.intro rfl (Exists.intro 6 (And.intro hS.r3_4 (And.intro rfl (Exists.intro 19 (And.intro hS.r6_6 (And.intro (And.intro (Nat.le_of_ble_eq_true rfl) (Nat.le_of_ble_eq_true rfl)) (And.intro rfl (?_)))))))))
    show Call d 55 [vr (some 19) 4] (J21, H) _ _
    refine s_5_size (by omega) rfl ?_
    show WP (Call d) 152 P X (27, [some (vr (some 3) 9), some (vi w), some (vi hr), some (vi lt)], [vi (J21 19 3)], (J21, H), 3, 18)
    refine WP.go 1 (And.intro (And.intro (Nat.le_of_ble_eq_true rfl) (Nat.le_of_ble_eq_true rfl)) (And.intro trivial (?_)))
    show P (some (vi (J21 19 3))) (J21, H)
    exact fin_i (by rw [e21]; show μ 7 + 1 = 1 + μ 7; omega) (h (by omega) _ ⟨fun a q => g21 a (by omega) (by omega), by rw [show lv lt = 0 from if_pos b16]; exact hTn⟩)
  ·
    show WP (Call d) 152 P X (17, [some (vr (some 3) 9), some (vi w), some (vi hr), some (vi lt)], [vi hr, vi w, vr (some 19) 4], (I, H), 3, 18)
    refine WP.go 4 (And.intro (And.intro (Nat.le_of_ble_eq_true rfl) (Nat.le_of_ble_eq_true rfl)) (And.intro rfl (?_)))
    show Call d 60 [vr (some 19) 4, vi w, vi hr, vi 1, vi 0] (I, H) _ _
    refine s_5_add_w3 (by omega) hS.r19_2 hT.c.a13 hT.c.b13 hT.r13 hS.l20 (by omega) (by omega) (fun J21_1 e21_1 f21_1 g21_1 => ?_)
    show WP (Call d) 152 P X (22, [some (vr (some 3) 9), some (vi w), some (vi hr), some (vi lt)], [vi (μ 7)], (J21_1, H), 3, 18)
    have hTn : TR 6 J21_1 (uPap μ w hr 1) := TR_uPap hT hV (by omega) e21_1 f21_1 (fun a q1 q2 => g21_1 a q1 q2)
    refine WP.go 5 (And.intro rfl (Exists.intro 6 (And.intro hS.r3_4 (And.intro rfl (Exists.intro 19 (And.intro hS.r6_6 (And.intro (And.intro (Nat.le_of_ble_eq_true rfl) (Nat.le_of_ble_eq_true rfl)) (And.intro rfl (?_)))))))))
    show Call d 55 [vr (some 19) 4] (J21_1, H) _ _
    refine s_5_size (by omega) rfl ?_
    show WP (Call d) 152 P X (27, [some (vr (some 3) 9), some (vi w), some (vi hr), some (vi lt)], [vi (J21_1 19 3)], (J21_1, H), 3, 18)
    refine WP.go 1 (And.intro (And.intro (Nat.le_of_ble_eq_true rfl) (Nat.le_of_ble_eq_true rfl)) (And.intro trivial (?_)))
    show P (some (vi (J21_1 19 3))) (J21_1, H)
    exact fin_i (by rw [e21_1]; show μ 7 + 1 = 1 + μ 7; omega) (h (by omega) _ ⟨fun a q => g21_1 a (by omega) (by omega), by rw [show lv lt = 1 from if_neg b16]; exact hTn⟩)

theorem s_11_wants {d : Nat} {P : Option qV → qH → Prop} {X : Nat → qH → Prop} {I : qI} {H : qS} {μ : Int → Int} (hd : 4 ≤ d) {f x y : Int} (hS : Shp H) (hX : SX I) (hT : TR 6 I μ) (hV : IM μ) (h : (((0 ≤ f ∧ f < μ 1) ∧ (0 ≤ x ∧ x < 100) ∧ (0 ≤ y ∧ y < 100)) ∧ x ≤ y) → ∀ J : qI, CU I J (uWan μ f x y) → P (none) (J, H)) (hx1 : ¬ ((0 ≤ f ∧ f < μ 1) ∧ (0 ≤ x ∧ x < 100) ∧ (0 ≤ y ∧ y < 100)) → X 1 (I, H)) (hx0 : ((0 ≤ f ∧ f < μ 1) ∧ (0 ≤ x ∧ x < 100) ∧ (0 ≤ y ∧ y < 100)) ∧ y < x → X 0 (I, H)) :
    Call d 147 [vr (some 3) 9, vi f, vi x, vi y] (I, H) P X := by
  obtain ⟨d, rfl⟩ : ∃ e, d = e + 1 := ⟨d - 1, by omega⟩
  have v1 := hV.n1
  show WP (Call d) 147 P X (0, [some (vr (some 3) 9), some (vi f), some (vi x), some (vi y)], [], (I, H), 0, 0)
  refine WP.go 3 (And.intro (And.intro (Nat.le_of_ble_eq_true rfl) (Nat.le_of_ble_eq_true rfl)) (And.intro rfl (?_)))
  show Call d 168 [vr (some 3) 9, vi f] (I, H) _ _
  refine s_11_needFamily (by omega) hS hT (fun q2 => ?_) (fun q9 => hx1 (by omega))
  show WP (Call d) 147 P X (3, [some (vr (some 3) 9), some (vi f), some (vi x), some (vi y)], [], (I, H), 1, 6)
  refine WP.go 3 (And.intro (And.intro (Nat.le_of_ble_eq_true rfl) (Nat.le_of_ble_eq_true rfl)) (And.intro rfl (?_)))
  show Call d 171 [vi x, vi y] (I, H) _ _
  refine s_11_needYears (by omega)  (fun q5 => ?_) (fun q9 => hx1 (by omega)) (fun q9 => hx0 (by omega))
  show WP (Call d) 147 P X (6, [some (vr (some 3) 9), some (vi f), some (vi x), some (vi y)], [], (I, H), 4, 24)
  refine WP.go 7 (And.intro rfl (Exists.intro 6 (And.intro hS.r3_4 (And.intro rfl (Exists.intro 11 (And.intro hS.r6_2 (And.intro (And.intro (Nat.le_of_ble_eq_true rfl) (Nat.le_of_ble_eq_true rfl)) (And.intro rfl (?_)))))))))
  show Call d 59 [vr (some 11) 4, vi f, vi 0, vi x] (I, H) _ _
  refine s_5_set_w3 (by omega) hS.r11_2 hT.c.b5 hT.r5 hS.l12 (by omega) (by omega) (by omega) (fun J12 e12 f12 => ?_)
  show WP (Call d) 147 P X (13, [some (vr (some 3) 9), some (vi f), some (vi x), some (vi y)], [], (J12, H), 4, 24)
  refine WP.go 7 (And.intro rfl (Exists.intro 6 (And.intro hS.r3_4 (And.intro rfl (Exists.intro 11 (And.intro hS.r6_2 (And.intro (And.intro (Nat.le_of_ble_eq_true rfl) (Nat.le_of_ble_eq_true rfl)) (And.intro rfl (?_)))))))))
  show Call d 59 [vr (some 11) 4, vi f, vi 1, vi y] (J12, H) _ _
  refine s_5_set_w3 (by omega) hS.r11_2 ((congrFun (f12 11 (by omega)) 1).trans hT.c.b5) ((congrFun (f12 11 (by omega)) 3).trans hT.r5) hS.l12 (by omega) (by omega) (by omega) (fun J19 e19 f19 => ?_)
  show WP (Call d) 147 P X (20, [some (vr (some 3) 9), some (vi f), some (vi x), some (vi y)], [], (J19, H), 4, 24)
  refine WP.go 1 (And.intro (And.intro (Nat.le_of_ble_eq_true rfl) (Nat.le_of_ble_eq_true rfl)) (?_))
  show P none (J19, H)
  exact h (by omega) _ ⟨fun a q => (f19 a (by omega)).trans (f12 a (by omega)), TR_uWan hT hV (by omega) (e19.trans (by rw [e12])) (fun a q => (f19 a q).trans (f12 a q))⟩

