/-- an update of the class: the town's cells and the notes alone change -/
def CU (I J : qI) (ν : Int → Int) : Prop := (∀ a, a < 6 ∨ (27 ≤ a ∧ a < 79) ∨ 90 ≤ a → J a = I a) ∧ TR 6 J ν
theorem bsum_c {μ ν : Int → Int} {h k : Int} (e : ∀ i, 0 ≤ i → i < k → ν (506 + 2 * i) = μ (506 + 2 * i) ∧ ν (507 + 2 * i) = μ (507 + 2 * i)) : bsum ν h k = bsum μ h k :=
  sI_congr (fun i q0 q1 => by show (if _ then _ else _) = (if _ then _ else _); rw [(e i q0 q1).1, (e i q0 q1).2])
theorem uLet_o (μ : Int → Int) (a b c d : Int) : ∀ j, j ≠ 4 ∧ (j < 330 + 4 * μ 4 ∨ 333 + 4 * μ 4 < j) → uLet μ a b c d j = μ j := fun j q => (st_n (by omega)).trans ((st_n (by omega)).trans ((st_n (by omega)).trans ((st_n (by omega)).trans ((st_n (by omega))))))
theorem uLet_0 (μ : Int → Int) (a b c d : Int) (hc : 0 ≤ μ 4 ∧ 0 ≤ μ 5 ∧ 0 ≤ μ 6 ∧ 0 ≤ μ 7) : uLet μ a b c d (330 + 4 * μ 4) = a := (st_n (by omega)).trans ((st_n (by omega)).trans ((st_n (by omega)).trans ((st_n (by omega)).trans ((st_e _ _ _)))))
theorem uLet_1 (μ : Int → Int) (a b c d : Int) (hc : 0 ≤ μ 4 ∧ 0 ≤ μ 5 ∧ 0 ≤ μ 6 ∧ 0 ≤ μ 7) : uLet μ a b c d (331 + 4 * μ 4) = b := (st_n (by omega)).trans ((st_n (by omega)).trans ((st_n (by omega)).trans ((st_e _ _ _))))
theorem uLet_2 (μ : Int → Int) (a b c d : Int) (hc : 0 ≤ μ 4 ∧ 0 ≤ μ 5 ∧ 0 ≤ μ 6 ∧ 0 ≤ μ 7) : uLet μ a b c d (332 + 4 * μ 4) = c := (st_n (by omega)).trans ((st_n (by omega)).trans ((st_e _ _ _)))
theorem uLet_3 (μ : Int → Int) (a b c d : Int) (hc : 0 ≤ μ 4 ∧ 0 ≤ μ 5 ∧ 0 ≤ μ 6 ∧ 0 ≤ μ 7) : uLet μ a b c d (333 + 4 * μ 4) = d := (st_n (by omega)).trans ((st_e _ _ _))
theorem uLet_4 (μ : Int → Int) (a b c d : Int) (hc : 0 ≤ μ 4 ∧ 0 ≤ μ 5 ∧ 0 ≤ μ 6 ∧ 0 ≤ μ 7) : uLet μ a b c d (4) = 1 + μ 4 := (st_e _ _ _)
theorem TR_uLet {I J : qI} {μ : Int → Int} {a b c d : Int} (hT : TR 6 I μ) (hV : IM μ) (hr : μ 4 < 16) (e : J 13 = fun s => if s = 3 then μ 4 + 1 else I 13 s) (f : J 14 = fun j => if j = μ 4 * 4 + 3 then a else (if j = μ 4 * 4 + 2 then b else (if j = μ 4 * 4 + 1 then d else (if j = μ 4 * 4 + 0 then c else I 14 j)))) (F : ∀ a, a ≠ 13 → a ≠ 14 → J a = I a) : TR 6 J (uLet μ a b c d) := by
  have hE := uLet_o μ a b c d
  have hn := hV.n4
  have hn1 := hV.n1
  have hn2 := hV.n2
  have hn3 := hV.n3
  have hn4 := hV.n4
  have hn5 := hV.n5
  have hn6 := hV.n6
  have hn7 := hV.n7
  have hn8 := hV.n8
  have hc : 0 ≤ μ 4 ∧ 0 ≤ μ 5 ∧ 0 ≤ μ 6 ∧ 0 ≤ μ 7 := ⟨hV.n4.1, hV.n5.1, hV.n6.1, hV.n7.1⟩
  exact ⟨⟨(congrFun (F 7 (by omega) (by omega)) 0).trans hT.c.a1, (congrFun (F 7 (by omega) (by omega)) 1).trans hT.c.b1, (congrFun (F 9 (by omega) (by omega)) 0).trans hT.c.a3, (congrFun (F 9 (by omega) (by omega)) 1).trans hT.c.b3, (congrFun (F 11 (by omega) (by omega)) 0).trans hT.c.a5, (congrFun (F 11 (by omega) (by omega)) 1).trans hT.c.b5, (by rw [e]; exact hT.c.a7), (by rw [e]; exact hT.c.b7), (congrFun (F 15 (by omega) (by omega)) 0).trans hT.c.a9, (congrFun (F 15 (by omega) (by omega)) 1).trans hT.c.b9, (congrFun (F 17 (by omega) (by omega)) 0).trans hT.c.a11, (congrFun (F 17 (by omega) (by omega)) 1).trans hT.c.b11, (congrFun (F 19 (by omega) (by omega)) 0).trans hT.c.a13, (congrFun (F 19 (by omega) (by omega)) 1).trans hT.c.b13, (congrFun (F 21 (by omega) (by omega)) 0).trans hT.c.a15, (congrFun (F 21 (by omega) (by omega)) 1).trans hT.c.b15⟩,
  (congrFun (F 7 (by omega) (by omega)) 3).trans (hT.r1.trans (hE 1 (by omega)).symm),
  (congrFun (F 9 (by omega) (by omega)) 3).trans (hT.r3.trans (hE 2 (by omega)).symm),
  (congrFun (F 11 (by omega) (by omega)) 3).trans (hT.r5.trans (hE 1 (by omega)).symm),
  by rw [e, uLet_4 μ a b c d hc]; show μ 4 + 1 = 1 + μ 4; omega,
  (congrFun (F 15 (by omega) (by omega)) 3).trans (hT.r9.trans (hE 5 (by omega)).symm),
  (congrFun (F 17 (by omega) (by omega)) 3).trans (hT.r11.trans (hE 6 (by omega)).symm),
  (congrFun (F 19 (by omega) (by omega)) 3).trans (hT.r13.trans (hE 7 (by omega)).symm),
  (congrFun (F 21 (by omega) (by omega)) 3).trans (hT.r15.trans (hE 8 (by omega)).symm),
  (congrFun (F 6 (by omega) (by omega)) 12).trans (hT.lc.trans (hE 3 (by omega)).symm),
  (congrFun (F 6 (by omega) (by omega)) 13).trans (hT.tx.trans (hE 0 (by omega)).symm),
  fun r q0 q1 => by
    rw [hE 1 (by omega)] at q1
    rw [(F 8 (by omega) (by omega)), hE (120 + 2 * r) (by omega), hE (121 + 2 * r) (by omega)]
    exact hT.q1 r q0 q1,
  fun r q0 q1 => by
    rw [hE 2 (by omega)] at q1
    rw [(F 10 (by omega) (by omega)), hE (140 + 3 * r) (by omega), hE (141 + 3 * r) (by omega), hE (142 + 3 * r) (by omega)]
    exact hT.q3 r q0 q1,
  fun r q0 q1 => by
    rw [hE 1 (by omega)] at q1
    rw [(F 12 (by omega) (by omega)), hE (210 + 2 * r) (by omega), hE (211 + 2 * r) (by omega), hE (200 + r) (by omega)]
    exact hT.q5 r q0 q1,
  fun r q0 q1 => by
    rw [uLet_4 μ a b c d hc] at q1
    by_cases z : r = μ 4
    · rw [z, f]; exact ⟨by rw [uLet_2 μ a b c d hc]; exact (if_neg (by omega)).trans ((if_neg (by omega)).trans ((if_neg (by omega)).trans ((if_pos (by omega))))), by rw [uLet_3 μ a b c d hc]; exact (if_neg (by omega)).trans ((if_neg (by omega)).trans ((if_pos (by omega)))), by rw [uLet_1 μ a b c d hc]; exact (if_neg (by omega)).trans ((if_pos (by omega))), by rw [uLet_0 μ a b c d hc]; exact (if_pos (by omega))⟩
    · rw [f]; exact ⟨by rw [hE (332 + 4 * r) (by omega)]; exact (if_neg (by omega)).trans ((if_neg (by omega)).trans ((if_neg (by omega)).trans ((if_neg (by omega)).trans ((hT.q7 r q0 (by omega)).1)))), by rw [hE (333 + 4 * r) (by omega)]; exact (if_neg (by omega)).trans ((if_neg (by omega)).trans ((if_neg (by omega)).trans ((if_neg (by omega)).trans ((hT.q7 r q0 (by omega)).2.1)))), by rw [hE (331 + 4 * r) (by omega)]; exact (if_neg (by omega)).trans ((if_neg (by omega)).trans ((if_neg (by omega)).trans ((if_neg (by omega)).trans ((hT.q7 r q0 (by omega)).2.2.1)))), by rw [hE (330 + 4 * r) (by omega)]; exact (if_neg (by omega)).trans ((if_neg (by omega)).trans ((if_neg (by omega)).trans ((if_neg (by omega)).trans ((hT.q7 r q0 (by omega)).2.2.2))))⟩,
  fun r q0 q1 => by
    rw [hE 5 (by omega)] at q1
    rw [(F 16 (by omega) (by omega)), hE (395 + 3 * r) (by omega), hE (396 + 3 * r) (by omega), hE (394 + 3 * r) (by omega)]
    exact hT.q9 r q0 q1,
  fun r q0 q1 => by
    rw [hE 6 (by omega)] at q1
    rw [(F 18 (by omega) (by omega)), hE (442 + 2 * r) (by omega), hE (443 + 2 * r) (by omega)]
    exact hT.q11 r q0 q1,
  fun r q0 q1 => by
    rw [hE 7 (by omega)] at q1
    rw [(F 20 (by omega) (by omega)), hE (458 + 3 * r) (by omega), hE (459 + 3 * r) (by omega), hE (460 + 3 * r) (by omega)]
    exact hT.q13 r q0 q1,
  fun r q0 q1 => by
    rw [hE 8 (by omega)] at q1
    rw [(F 22 (by omega) (by omega)), hE (506 + 2 * r) (by omega), hE (507 + 2 * r) (by omega)]
    exact hT.q15 r q0 q1,
  fun i q0 q1 => by rw [(F 23 (by omega) (by omega)), hE (9 + i) (by omega)]; exact hT.di i q0 q1,
  fun y q0 q1 => by rw [(F 24 (by omega) (by omega)), hE (20 + y) (by omega)]; exact hT.wi y q0 q1,
  fun y q0 q1 => by rw [(F 25 (by omega) (by omega)), hE (230 + y) (by omega)]; exact hT.ro y q0 q1⟩
theorem IM_uLet {μ : Int → Int} {a b c d : Int} (hV : IM μ) (hq : ((0 ≤ a ∧ a < μ 3) ∧ (0 ≤ b ∧ b < μ 1) ∧ (0 ≤ c ∧ c < 100) ∧ (0 ≤ d ∧ d < 100)) ∧ c ≤ d ∧ μ 4 < 16) : IM (uLet μ a b c d) := by
  have hE := uLet_o μ a b c d
  have hn0 := hV.n0
  have hn1 := hV.n1
  have hn2 := hV.n2
  have hn3 := hV.n3
  have hn4 := hV.n4
  have hn5 := hV.n5
  have hn6 := hV.n6
  have hn7 := hV.n7
  have hn8 := hV.n8
  have hc : 0 ≤ μ 4 ∧ 0 ≤ μ 5 ∧ 0 ≤ μ 6 ∧ 0 ≤ μ 7 := ⟨hV.n4.1, hV.n5.1, hV.n6.1, hV.n7.1⟩
  exact ⟨by rw [hE 0 (by omega)]; exact hV.n0,
  by rw [hE 1 (by omega)]; exact hV.n1,
  by rw [hE 2 (by omega)]; exact hV.n2,
  by rw [hE 3 (by omega)]; exact hV.n3,
  by rw [uLet_4 μ a b c d hc]; omega,
  by rw [hE 5 (by omega)]; exact hV.n5,
  by rw [hE 6 (by omega)]; exact hV.n6,
  by rw [hE 7 (by omega)]; exact hV.n7,
  by rw [hE 8 (by omega)]; exact hV.n8,
  by rw [hE 9 (by omega)]; exact hV.st,
  by rw [hE 10 (by omega)]; exact hV.ra,
  by rw [hE 11 (by omega)]; exact hV.ba,
  by rw [hE 12 (by omega)]; exact hV.se,
  by rw [hE 13 (by omega)]; exact hV.gu,
  fun y q0 q1 => by rw [hE (20 + y) (by omega)]; exact hV.wi y q0 q1,
  fun y q0 q1 => by rw [hE (230 + y) (by omega)]; exact hV.ro y q0 q1,
  fun h q0 q1 => by
    rw [hE 1 (by omega)] at q1
    rw [hE (120 + 2 * h) (by omega)]
    exact hV.hc h q0 q1,
  fun h q0 q1 => by
    rw [hE 1 (by omega)] at q1
    rw [hE (121 + 2 * h) (by omega)]
    exact hV.hh h q0 q1,
  fun h k q0 q1 q2 q3 q4 => by
    rw [hE 1 (by omega)] at q1 q3
    rw [hE (120 + 2 * h) (by omega), hE (120 + 2 * k) (by omega)] at q4
    exact hV.hd h k q0 q1 q2 q3 q4,
  fun w q0 q1 => by
    rw [hE 2 (by omega)] at q1
    rw [hE (140 + 3 * w) (by omega), hE (1) (by omega)]
    exact hV.wh w q0 q1,
  fun w q0 q1 => by
    rw [hE 2 (by omega)] at q1
    rw [hE (141 + 3 * w) (by omega)]
    exact hV.wf w q0 q1,
  fun w q0 q1 => by
    rw [hE 2 (by omega)] at q1
    rw [hE (142 + 3 * w) (by omega)]
    exact hV.wu w q0 q1,
  fun f q0 q1 => by
    rw [hE 1 (by omega)] at q1
    rw [hE (200 + f) (by omega), hE (1) (by omega)]
    exact hV.li f q0 q1,
  fun f k q0 q1 q2 q3 q4 => by
    rw [hE 1 (by omega)] at q1 q3
    rw [hE (200 + f) (by omega), hE (200 + k) (by omega)] at q4
    exact hV.lj f k q0 q1 q2 q3 q4,
  fun f q0 q1 => by
    rw [hE 1 (by omega)] at q1
    rw [hE (210 + 2 * f) (by omega), hE (211 + 2 * f) (by omega)]
    exact hV.wa f q0 q1,
  fun r q0 q1 => by
    rw [uLet_4 μ a b c d hc] at q1
    by_cases z : r = μ 4
    · rw [z, uLet_0 μ a b c d hc, hE 3 (by omega)]; omega
    · rw [hE (330 + 4 * r) (by omega), hE 3 (by omega)]; exact hV.le r q0 (by omega),
  fun r q0 q1 => by
    rw [uLet_4 μ a b c d hc] at q1
    by_cases z : r = μ 4
    · rw [z, uLet_1 μ a b c d hc, hE 1 (by omega)]; omega
    · rw [hE (331 + 4 * r) (by omega), hE 1 (by omega)]; exact hV.lh r q0 (by omega),
  fun r q0 q1 => by
    rw [uLet_4 μ a b c d hc] at q1
    by_cases z : r = μ 4
    · rw [z, uLet_2 μ a b c d hc, uLet_3 μ a b c d hc]; omega
    · rw [hE (332 + 4 * r) (by omega), hE (333 + 4 * r) (by omega)]; exact hV.ly r q0 (by omega),
  fun p q0 q1 => by
    rw [hE 5 (by omega)] at q1
    rw [hE (394 + 3 * p) (by omega), hE (2) (by omega)]
    exact hV.pw p q0 q1,
  fun p q0 q1 => by
    rw [hE 5 (by omega)] at q1
    rw [hE (395 + 3 * p) (by omega), hE (396 + 3 * p) (by omega)]
    exact hV.py p q0 q1,
  fun d q0 q1 => by
    rw [hE 6 (by omega)] at q1
    rw [hE (442 + 2 * d) (by omega)]
    exact hV.da d q0 q1,
  fun d q0 q1 => by
    rw [hE 6 (by omega)] at q1
    rw [hE (443 + 2 * d) (by omega)]
    exact hV.db d q0 q1,
  fun p q0 q1 => by
    rw [hE 7 (by omega)] at q1
    rw [hE (458 + 3 * p) (by omega), hE (2) (by omega)]
    exact hV.pp p q0 q1,
  fun p q0 q1 => by
    rw [hE 7 (by omega)] at q1
    rw [hE (459 + 3 * p) (by omega)]
    exact hV.ph p q0 q1,
  fun p q0 q1 => by
    rw [hE 7 (by omega)] at q1
    rw [hE (460 + 3 * p) (by omega)]
    exact hV.pl p q0 q1,
  fun b q0 q1 => by
    rw [hE 8 (by omega)] at q1
    rw [hE (506 + 2 * b) (by omega), hE (1) (by omega)]
    exact hV.bh b q0 q1,
  fun b q0 q1 => by
    rw [hE 8 (by omega)] at q1
    rw [hE (507 + 2 * b) (by omega)]
    exact hV.bm b q0 q1,
  fun h q0 q1 => by
    rw [hE 1 (by omega)] at q1
    rw [hE (121 + 2 * h) (by omega), hE 8 (by omega), bsum_c (fun i z0 z1 => ⟨hE (506 + 2 * i) (by omega), hE (507 + 2 * i) (by omega)⟩)]
    exact hV.bs h q0 q1⟩
theorem uPro_o (μ : Int → Int) (a b c : Int) : ∀ j, j ≠ 5 ∧ (j < 394 + 3 * μ 5 ∨ 396 + 3 * μ 5 < j) → uPro μ a b c j = μ j := fun j q => (st_n (by omega)).trans ((st_n (by omega)).trans ((st_n (by omega)).trans ((st_n (by omega)))))
theorem uPro_0 (μ : Int → Int) (a b c : Int) (hc : 0 ≤ μ 4 ∧ 0 ≤ μ 5 ∧ 0 ≤ μ 6 ∧ 0 ≤ μ 7) : uPro μ a b c (394 + 3 * μ 5) = a := (st_n (by omega)).trans ((st_n (by omega)).trans ((st_n (by omega)).trans ((st_e _ _ _))))
theorem uPro_1 (μ : Int → Int) (a b c : Int) (hc : 0 ≤ μ 4 ∧ 0 ≤ μ 5 ∧ 0 ≤ μ 6 ∧ 0 ≤ μ 7) : uPro μ a b c (395 + 3 * μ 5) = b := (st_n (by omega)).trans ((st_n (by omega)).trans ((st_e _ _ _)))
theorem uPro_2 (μ : Int → Int) (a b c : Int) (hc : 0 ≤ μ 4 ∧ 0 ≤ μ 5 ∧ 0 ≤ μ 6 ∧ 0 ≤ μ 7) : uPro μ a b c (396 + 3 * μ 5) = c := (st_n (by omega)).trans ((st_e _ _ _))
theorem uPro_3 (μ : Int → Int) (a b c : Int) (hc : 0 ≤ μ 4 ∧ 0 ≤ μ 5 ∧ 0 ≤ μ 6 ∧ 0 ≤ μ 7) : uPro μ a b c (5) = 1 + μ 5 := (st_e _ _ _)
theorem TR_uPro {I J : qI} {μ : Int → Int} {a b c : Int} (hT : TR 6 I μ) (hV : IM μ) (hr : μ 5 < 16) (e : J 15 = fun s => if s = 3 then μ 5 + 1 else I 15 s) (f : J 16 = fun j => if j = μ 5 * 3 + 2 then a else (if j = μ 5 * 3 + 1 then c else (if j = μ 5 * 3 + 0 then b else I 16 j))) (F : ∀ a, a ≠ 15 → a ≠ 16 → J a = I a) : TR 6 J (uPro μ a b c) := by
  have hE := uPro_o μ a b c
  have hn := hV.n5
  have hn1 := hV.n1
  have hn2 := hV.n2
  have hn3 := hV.n3
  have hn4 := hV.n4
  have hn5 := hV.n5
  have hn6 := hV.n6
  have hn7 := hV.n7
  have hn8 := hV.n8
  have hc : 0 ≤ μ 4 ∧ 0 ≤ μ 5 ∧ 0 ≤ μ 6 ∧ 0 ≤ μ 7 := ⟨hV.n4.1, hV.n5.1, hV.n6.1, hV.n7.1⟩
  exact ⟨⟨(congrFun (F 7 (by omega) (by omega)) 0).trans hT.c.a1, (congrFun (F 7 (by omega) (by omega)) 1).trans hT.c.b1, (congrFun (F 9 (by omega) (by omega)) 0).trans hT.c.a3, (congrFun (F 9 (by omega) (by omega)) 1).trans hT.c.b3, (congrFun (F 11 (by omega) (by omega)) 0).trans hT.c.a5, (congrFun (F 11 (by omega) (by omega)) 1).trans hT.c.b5, (congrFun (F 13 (by omega) (by omega)) 0).trans hT.c.a7, (congrFun (F 13 (by omega) (by omega)) 1).trans hT.c.b7, (by rw [e]; exact hT.c.a9), (by rw [e]; exact hT.c.b9), (congrFun (F 17 (by omega) (by omega)) 0).trans hT.c.a11, (congrFun (F 17 (by omega) (by omega)) 1).trans hT.c.b11, (congrFun (F 19 (by omega) (by omega)) 0).trans hT.c.a13, (congrFun (F 19 (by omega) (by omega)) 1).trans hT.c.b13, (congrFun (F 21 (by omega) (by omega)) 0).trans hT.c.a15, (congrFun (F 21 (by omega) (by omega)) 1).trans hT.c.b15⟩,
  (congrFun (F 7 (by omega) (by omega)) 3).trans (hT.r1.trans (hE 1 (by omega)).symm),
  (congrFun (F 9 (by omega) (by omega)) 3).trans (hT.r3.trans (hE 2 (by omega)).symm),
  (congrFun (F 11 (by omega) (by omega)) 3).trans (hT.r5.trans (hE 1 (by omega)).symm),
  (congrFun (F 13 (by omega) (by omega)) 3).trans (hT.r7.trans (hE 4 (by omega)).symm),
  by rw [e, uPro_3 μ a b c hc]; show μ 5 + 1 = 1 + μ 5; omega,
  (congrFun (F 17 (by omega) (by omega)) 3).trans (hT.r11.trans (hE 6 (by omega)).symm),
  (congrFun (F 19 (by omega) (by omega)) 3).trans (hT.r13.trans (hE 7 (by omega)).symm),
  (congrFun (F 21 (by omega) (by omega)) 3).trans (hT.r15.trans (hE 8 (by omega)).symm),
  (congrFun (F 6 (by omega) (by omega)) 12).trans (hT.lc.trans (hE 3 (by omega)).symm),
  (congrFun (F 6 (by omega) (by omega)) 13).trans (hT.tx.trans (hE 0 (by omega)).symm),
  fun r q0 q1 => by
    rw [hE 1 (by omega)] at q1
    rw [(F 8 (by omega) (by omega)), hE (120 + 2 * r) (by omega), hE (121 + 2 * r) (by omega)]
    exact hT.q1 r q0 q1,
  fun r q0 q1 => by
    rw [hE 2 (by omega)] at q1
    rw [(F 10 (by omega) (by omega)), hE (140 + 3 * r) (by omega), hE (141 + 3 * r) (by omega), hE (142 + 3 * r) (by omega)]
    exact hT.q3 r q0 q1,
  fun r q0 q1 => by
    rw [hE 1 (by omega)] at q1
    rw [(F 12 (by omega) (by omega)), hE (210 + 2 * r) (by omega), hE (211 + 2 * r) (by omega), hE (200 + r) (by omega)]
    exact hT.q5 r q0 q1,
  fun r q0 q1 => by
    rw [hE 4 (by omega)] at q1
    rw [(F 14 (by omega) (by omega)), hE (332 + 4 * r) (by omega), hE (333 + 4 * r) (by omega), hE (331 + 4 * r) (by omega), hE (330 + 4 * r) (by omega)]
    exact hT.q7 r q0 q1,
  fun r q0 q1 => by
    rw [uPro_3 μ a b c hc] at q1
    by_cases z : r = μ 5
    · rw [z, f]; exact ⟨by rw [uPro_1 μ a b c hc]; exact (if_neg (by omega)).trans ((if_neg (by omega)).trans ((if_pos (by omega)))), by rw [uPro_2 μ a b c hc]; exact (if_neg (by omega)).trans ((if_pos (by omega))), by rw [uPro_0 μ a b c hc]; exact (if_pos (by omega))⟩
    · rw [f]; exact ⟨by rw [hE (395 + 3 * r) (by omega)]; exact (if_neg (by omega)).trans ((if_neg (by omega)).trans ((if_neg (by omega)).trans ((hT.q9 r q0 (by omega)).1))), by rw [hE (396 + 3 * r) (by omega)]; exact (if_neg (by omega)).trans ((if_neg (by omega)).trans ((if_neg (by omega)).trans ((hT.q9 r q0 (by omega)).2.1))), by rw [hE (394 + 3 * r) (by omega)]; exact (if_neg (by omega)).trans ((if_neg (by omega)).trans ((if_neg (by omega)).trans ((hT.q9 r q0 (by omega)).2.2)))⟩,
  fun r q0 q1 => by
    rw [hE 6 (by omega)] at q1
    rw [(F 18 (by omega) (by omega)), hE (442 + 2 * r) (by omega), hE (443 + 2 * r) (by omega)]
    exact hT.q11 r q0 q1,
  fun r q0 q1 => by
    rw [hE 7 (by omega)] at q1
    rw [(F 20 (by omega) (by omega)), hE (458 + 3 * r) (by omega), hE (459 + 3 * r) (by omega), hE (460 + 3 * r) (by omega)]
    exact hT.q13 r q0 q1,
  fun r q0 q1 => by
    rw [hE 8 (by omega)] at q1
    rw [(F 22 (by omega) (by omega)), hE (506 + 2 * r) (by omega), hE (507 + 2 * r) (by omega)]
    exact hT.q15 r q0 q1,
  fun i q0 q1 => by rw [(F 23 (by omega) (by omega)), hE (9 + i) (by omega)]; exact hT.di i q0 q1,
  fun y q0 q1 => by rw [(F 24 (by omega) (by omega)), hE (20 + y) (by omega)]; exact hT.wi y q0 q1,
  fun y q0 q1 => by rw [(F 25 (by omega) (by omega)), hE (230 + y) (by omega)]; exact hT.ro y q0 q1⟩
theorem IM_uPro {μ : Int → Int} {a b c : Int} (hV : IM μ) (hq : ((0 ≤ a ∧ a < μ 2) ∧ (0 ≤ b ∧ b < 100) ∧ (0 ≤ c ∧ c < 100)) ∧ b ≤ c ∧ μ 5 < 16) : IM (uPro μ a b c) := by
  have hE := uPro_o μ a b c
  have hn0 := hV.n0
  have hn1 := hV.n1
  have hn2 := hV.n2
  have hn3 := hV.n3
  have hn4 := hV.n4
  have hn5 := hV.n5
  have hn6 := hV.n6
  have hn7 := hV.n7
  have hn8 := hV.n8
  have hc : 0 ≤ μ 4 ∧ 0 ≤ μ 5 ∧ 0 ≤ μ 6 ∧ 0 ≤ μ 7 := ⟨hV.n4.1, hV.n5.1, hV.n6.1, hV.n7.1⟩
  exact ⟨by rw [hE 0 (by omega)]; exact hV.n0,
  by rw [hE 1 (by omega)]; exact hV.n1,
  by rw [hE 2 (by omega)]; exact hV.n2,
  by rw [hE 3 (by omega)]; exact hV.n3,
  by rw [hE 4 (by omega)]; exact hV.n4,
  by rw [uPro_3 μ a b c hc]; omega,
  by rw [hE 6 (by omega)]; exact hV.n6,
  by rw [hE 7 (by omega)]; exact hV.n7,
  by rw [hE 8 (by omega)]; exact hV.n8,
  by rw [hE 9 (by omega)]; exact hV.st,
  by rw [hE 10 (by omega)]; exact hV.ra,
  by rw [hE 11 (by omega)]; exact hV.ba,
  by rw [hE 12 (by omega)]; exact hV.se,
  by rw [hE 13 (by omega)]; exact hV.gu,
  fun y q0 q1 => by rw [hE (20 + y) (by omega)]; exact hV.wi y q0 q1,
  fun y q0 q1 => by rw [hE (230 + y) (by omega)]; exact hV.ro y q0 q1,
  fun h q0 q1 => by
    rw [hE 1 (by omega)] at q1
    rw [hE (120 + 2 * h) (by omega)]
    exact hV.hc h q0 q1,
  fun h q0 q1 => by
    rw [hE 1 (by omega)] at q1
    rw [hE (121 + 2 * h) (by omega)]
    exact hV.hh h q0 q1,
  fun h k q0 q1 q2 q3 q4 => by
    rw [hE 1 (by omega)] at q1 q3
    rw [hE (120 + 2 * h) (by omega), hE (120 + 2 * k) (by omega)] at q4
    exact hV.hd h k q0 q1 q2 q3 q4,
  fun w q0 q1 => by
    rw [hE 2 (by omega)] at q1
    rw [hE (140 + 3 * w) (by omega), hE (1) (by omega)]
    exact hV.wh w q0 q1,
  fun w q0 q1 => by
    rw [hE 2 (by omega)] at q1
    rw [hE (141 + 3 * w) (by omega)]
    exact hV.wf w q0 q1,
  fun w q0 q1 => by
    rw [hE 2 (by omega)] at q1
    rw [hE (142 + 3 * w) (by omega)]
    exact hV.wu w q0 q1,
  fun f q0 q1 => by
    rw [hE 1 (by omega)] at q1
    rw [hE (200 + f) (by omega), hE (1) (by omega)]
    exact hV.li f q0 q1,
  fun f k q0 q1 q2 q3 q4 => by
    rw [hE 1 (by omega)] at q1 q3
    rw [hE (200 + f) (by omega), hE (200 + k) (by omega)] at q4
    exact hV.lj f k q0 q1 q2 q3 q4,
  fun f q0 q1 => by
    rw [hE 1 (by omega)] at q1
    rw [hE (210 + 2 * f) (by omega), hE (211 + 2 * f) (by omega)]
    exact hV.wa f q0 q1,
  fun l q0 q1 => by
    rw [hE 4 (by omega)] at q1
    rw [hE (330 + 4 * l) (by omega), hE (3) (by omega)]
    exact hV.le l q0 q1,
  fun l q0 q1 => by
    rw [hE 4 (by omega)] at q1
    rw [hE (331 + 4 * l) (by omega), hE (1) (by omega)]
    exact hV.lh l q0 q1,
  fun l q0 q1 => by
    rw [hE 4 (by omega)] at q1
    rw [hE (332 + 4 * l) (by omega), hE (333 + 4 * l) (by omega)]
    exact hV.ly l q0 q1,
  fun r q0 q1 => by
    rw [uPro_3 μ a b c hc] at q1
    by_cases z : r = μ 5
    · rw [z, uPro_0 μ a b c hc, hE 2 (by omega)]; omega
    · rw [hE (394 + 3 * r) (by omega), hE 2 (by omega)]; exact hV.pw r q0 (by omega),
  fun r q0 q1 => by
    rw [uPro_3 μ a b c hc] at q1
    by_cases z : r = μ 5
    · rw [z, uPro_1 μ a b c hc, uPro_2 μ a b c hc]; omega
    · rw [hE (395 + 3 * r) (by omega), hE (396 + 3 * r) (by omega)]; exact hV.py r q0 (by omega),
  fun d q0 q1 => by
    rw [hE 6 (by omega)] at q1
    rw [hE (442 + 2 * d) (by omega)]
    exact hV.da d q0 q1,
  fun d q0 q1 => by
    rw [hE 6 (by omega)] at q1
    rw [hE (443 + 2 * d) (by omega)]
    exact hV.db d q0 q1,
  fun p q0 q1 => by
    rw [hE 7 (by omega)] at q1
    rw [hE (458 + 3 * p) (by omega), hE (2) (by omega)]
    exact hV.pp p q0 q1,
  fun p q0 q1 => by
    rw [hE 7 (by omega)] at q1
    rw [hE (459 + 3 * p) (by omega)]
    exact hV.ph p q0 q1,
  fun p q0 q1 => by
    rw [hE 7 (by omega)] at q1
    rw [hE (460 + 3 * p) (by omega)]
    exact hV.pl p q0 q1,
  fun b q0 q1 => by
    rw [hE 8 (by omega)] at q1
    rw [hE (506 + 2 * b) (by omega), hE (1) (by omega)]
    exact hV.bh b q0 q1,
  fun b q0 q1 => by
    rw [hE 8 (by omega)] at q1
    rw [hE (507 + 2 * b) (by omega)]
    exact hV.bm b q0 q1,
  fun h q0 q1 => by
    rw [hE 1 (by omega)] at q1
    rw [hE (121 + 2 * h) (by omega), hE 8 (by omega), bsum_c (fun i z0 z1 => ⟨hE (506 + 2 * i) (by omega), hE (507 + 2 * i) (by omega)⟩)]
    exact hV.bs h q0 q1⟩
theorem uDra_o (μ : Int → Int) (a b : Int) : ∀ j, j ≠ 6 ∧ (j < 442 + 2 * μ 6 ∨ 443 + 2 * μ 6 < j) → uDra μ a b j = μ j := fun j q => (st_n (by omega)).trans ((st_n (by omega)).trans ((st_n (by omega))))
theorem uDra_0 (μ : Int → Int) (a b : Int) (hc : 0 ≤ μ 4 ∧ 0 ≤ μ 5 ∧ 0 ≤ μ 6 ∧ 0 ≤ μ 7) : uDra μ a b (442 + 2 * μ 6) = a := (st_n (by omega)).trans ((st_n (by omega)).trans ((st_e _ _ _)))
theorem uDra_1 (μ : Int → Int) (a b : Int) (hc : 0 ≤ μ 4 ∧ 0 ≤ μ 5 ∧ 0 ≤ μ 6 ∧ 0 ≤ μ 7) : uDra μ a b (443 + 2 * μ 6) = b := (st_n (by omega)).trans ((st_e _ _ _))
theorem uDra_2 (μ : Int → Int) (a b : Int) (hc : 0 ≤ μ 4 ∧ 0 ≤ μ 5 ∧ 0 ≤ μ 6 ∧ 0 ≤ μ 7) : uDra μ a b (6) = 1 + μ 6 := (st_e _ _ _)
theorem TR_uDra {I J : qI} {μ : Int → Int} {a b : Int} (hT : TR 6 I μ) (hV : IM μ) (hr : μ 6 < 8) (e : J 17 = fun s => if s = 3 then μ 6 + 1 else I 17 s) (f : J 18 = fun j => if j = μ 6 * 2 + 1 then b else (if j = μ 6 * 2 + 0 then a else I 18 j)) (F : ∀ a, a ≠ 17 → a ≠ 18 → J a = I a) : TR 6 J (uDra μ a b) := by
  have hE := uDra_o μ a b
  have hn := hV.n6
  have hn1 := hV.n1
  have hn2 := hV.n2
  have hn3 := hV.n3
  have hn4 := hV.n4
  have hn5 := hV.n5
  have hn6 := hV.n6
  have hn7 := hV.n7
  have hn8 := hV.n8
  have hc : 0 ≤ μ 4 ∧ 0 ≤ μ 5 ∧ 0 ≤ μ 6 ∧ 0 ≤ μ 7 := ⟨hV.n4.1, hV.n5.1, hV.n6.1, hV.n7.1⟩
  exact ⟨⟨(congrFun (F 7 (by omega) (by omega)) 0).trans hT.c.a1, (congrFun (F 7 (by omega) (by omega)) 1).trans hT.c.b1, (congrFun (F 9 (by omega) (by omega)) 0).trans hT.c.a3, (congrFun (F 9 (by omega) (by omega)) 1).trans hT.c.b3, (congrFun (F 11 (by omega) (by omega)) 0).trans hT.c.a5, (congrFun (F 11 (by omega) (by omega)) 1).trans hT.c.b5, (congrFun (F 13 (by omega) (by omega)) 0).trans hT.c.a7, (congrFun (F 13 (by omega) (by omega)) 1).trans hT.c.b7, (congrFun (F 15 (by omega) (by omega)) 0).trans hT.c.a9, (congrFun (F 15 (by omega) (by omega)) 1).trans hT.c.b9, (by rw [e]; exact hT.c.a11), (by rw [e]; exact hT.c.b11), (congrFun (F 19 (by omega) (by omega)) 0).trans hT.c.a13, (congrFun (F 19 (by omega) (by omega)) 1).trans hT.c.b13, (congrFun (F 21 (by omega) (by omega)) 0).trans hT.c.a15, (congrFun (F 21 (by omega) (by omega)) 1).trans hT.c.b15⟩,
  (congrFun (F 7 (by omega) (by omega)) 3).trans (hT.r1.trans (hE 1 (by omega)).symm),
  (congrFun (F 9 (by omega) (by omega)) 3).trans (hT.r3.trans (hE 2 (by omega)).symm),
  (congrFun (F 11 (by omega) (by omega)) 3).trans (hT.r5.trans (hE 1 (by omega)).symm),
  (congrFun (F 13 (by omega) (by omega)) 3).trans (hT.r7.trans (hE 4 (by omega)).symm),
  (congrFun (F 15 (by omega) (by omega)) 3).trans (hT.r9.trans (hE 5 (by omega)).symm),
  by rw [e, uDra_2 μ a b hc]; show μ 6 + 1 = 1 + μ 6; omega,
  (congrFun (F 19 (by omega) (by omega)) 3).trans (hT.r13.trans (hE 7 (by omega)).symm),
  (congrFun (F 21 (by omega) (by omega)) 3).trans (hT.r15.trans (hE 8 (by omega)).symm),
  (congrFun (F 6 (by omega) (by omega)) 12).trans (hT.lc.trans (hE 3 (by omega)).symm),
  (congrFun (F 6 (by omega) (by omega)) 13).trans (hT.tx.trans (hE 0 (by omega)).symm),
  fun r q0 q1 => by
    rw [hE 1 (by omega)] at q1
    rw [(F 8 (by omega) (by omega)), hE (120 + 2 * r) (by omega), hE (121 + 2 * r) (by omega)]
    exact hT.q1 r q0 q1,
  fun r q0 q1 => by
    rw [hE 2 (by omega)] at q1
    rw [(F 10 (by omega) (by omega)), hE (140 + 3 * r) (by omega), hE (141 + 3 * r) (by omega), hE (142 + 3 * r) (by omega)]
    exact hT.q3 r q0 q1,
  fun r q0 q1 => by
    rw [hE 1 (by omega)] at q1
    rw [(F 12 (by omega) (by omega)), hE (210 + 2 * r) (by omega), hE (211 + 2 * r) (by omega), hE (200 + r) (by omega)]
    exact hT.q5 r q0 q1,
  fun r q0 q1 => by
    rw [hE 4 (by omega)] at q1
    rw [(F 14 (by omega) (by omega)), hE (332 + 4 * r) (by omega), hE (333 + 4 * r) (by omega), hE (331 + 4 * r) (by omega), hE (330 + 4 * r) (by omega)]
    exact hT.q7 r q0 q1,
  fun r q0 q1 => by
    rw [hE 5 (by omega)] at q1
    rw [(F 16 (by omega) (by omega)), hE (395 + 3 * r) (by omega), hE (396 + 3 * r) (by omega), hE (394 + 3 * r) (by omega)]
    exact hT.q9 r q0 q1,
  fun r q0 q1 => by
    rw [uDra_2 μ a b hc] at q1
    by_cases z : r = μ 6
    · rw [z, f]; exact ⟨by rw [uDra_0 μ a b hc]; exact (if_neg (by omega)).trans ((if_pos (by omega))), by rw [uDra_1 μ a b hc]; exact (if_pos (by omega))⟩
    · rw [f]; exact ⟨by rw [hE (442 + 2 * r) (by omega)]; exact (if_neg (by omega)).trans ((if_neg (by omega)).trans ((hT.q11 r q0 (by omega)).1)), by rw [hE (443 + 2 * r) (by omega)]; exact (if_neg (by omega)).trans ((if_neg (by omega)).trans ((hT.q11 r q0 (by omega)).2))⟩,
  fun r q0 q1 => by
    rw [hE 7 (by omega)] at q1
    rw [(F 20 (by omega) (by omega)), hE (458 + 3 * r) (by omega), hE (459 + 3 * r) (by omega), hE (460 + 3 * r) (by omega)]
    exact hT.q13 r q0 q1,
  fun r q0 q1 => by
    rw [hE 8 (by omega)] at q1
    rw [(F 22 (by omega) (by omega)), hE (506 + 2 * r) (by omega), hE (507 + 2 * r) (by omega)]
    exact hT.q15 r q0 q1,
  fun i q0 q1 => by rw [(F 23 (by omega) (by omega)), hE (9 + i) (by omega)]; exact hT.di i q0 q1,
  fun y q0 q1 => by rw [(F 24 (by omega) (by omega)), hE (20 + y) (by omega)]; exact hT.wi y q0 q1,
  fun y q0 q1 => by rw [(F 25 (by omega) (by omega)), hE (230 + y) (by omega)]; exact hT.ro y q0 q1⟩
theorem IM_uDra {μ : Int → Int} {a b : Int} (hV : IM μ) (hq : ((0 ≤ a ∧ a < 81) ∧ (0 ≤ b ∧ b < 81)) ∧ a ≠ b ∧ μ 6 < 8) : IM (uDra μ a b) := by
  have hE := uDra_o μ a b
  have hn0 := hV.n0
  have hn1 := hV.n1
  have hn2 := hV.n2
  have hn3 := hV.n3
  have hn4 := hV.n4
  have hn5 := hV.n5
  have hn6 := hV.n6
  have hn7 := hV.n7
  have hn8 := hV.n8
  have hc : 0 ≤ μ 4 ∧ 0 ≤ μ 5 ∧ 0 ≤ μ 6 ∧ 0 ≤ μ 7 := ⟨hV.n4.1, hV.n5.1, hV.n6.1, hV.n7.1⟩
  exact ⟨by rw [hE 0 (by omega)]; exact hV.n0,
  by rw [hE 1 (by omega)]; exact hV.n1,
  by rw [hE 2 (by omega)]; exact hV.n2,
  by rw [hE 3 (by omega)]; exact hV.n3,
  by rw [hE 4 (by omega)]; exact hV.n4,
  by rw [hE 5 (by omega)]; exact hV.n5,
  by rw [uDra_2 μ a b hc]; omega,
  by rw [hE 7 (by omega)]; exact hV.n7,
  by rw [hE 8 (by omega)]; exact hV.n8,
  by rw [hE 9 (by omega)]; exact hV.st,
  by rw [hE 10 (by omega)]; exact hV.ra,
  by rw [hE 11 (by omega)]; exact hV.ba,
  by rw [hE 12 (by omega)]; exact hV.se,
  by rw [hE 13 (by omega)]; exact hV.gu,
  fun y q0 q1 => by rw [hE (20 + y) (by omega)]; exact hV.wi y q0 q1,
  fun y q0 q1 => by rw [hE (230 + y) (by omega)]; exact hV.ro y q0 q1,
  fun h q0 q1 => by
    rw [hE 1 (by omega)] at q1
    rw [hE (120 + 2 * h) (by omega)]
    exact hV.hc h q0 q1,
  fun h q0 q1 => by
    rw [hE 1 (by omega)] at q1
    rw [hE (121 + 2 * h) (by omega)]
    exact hV.hh h q0 q1,
  fun h k q0 q1 q2 q3 q4 => by
    rw [hE 1 (by omega)] at q1 q3
    rw [hE (120 + 2 * h) (by omega), hE (120 + 2 * k) (by omega)] at q4
    exact hV.hd h k q0 q1 q2 q3 q4,
  fun w q0 q1 => by
    rw [hE 2 (by omega)] at q1
    rw [hE (140 + 3 * w) (by omega), hE (1) (by omega)]
    exact hV.wh w q0 q1,
  fun w q0 q1 => by
    rw [hE 2 (by omega)] at q1
    rw [hE (141 + 3 * w) (by omega)]
    exact hV.wf w q0 q1,
  fun w q0 q1 => by
    rw [hE 2 (by omega)] at q1
    rw [hE (142 + 3 * w) (by omega)]
    exact hV.wu w q0 q1,
  fun f q0 q1 => by
    rw [hE 1 (by omega)] at q1
    rw [hE (200 + f) (by omega), hE (1) (by omega)]
    exact hV.li f q0 q1,
  fun f k q0 q1 q2 q3 q4 => by
    rw [hE 1 (by omega)] at q1 q3
    rw [hE (200 + f) (by omega), hE (200 + k) (by omega)] at q4
    exact hV.lj f k q0 q1 q2 q3 q4,
  fun f q0 q1 => by
    rw [hE 1 (by omega)] at q1
    rw [hE (210 + 2 * f) (by omega), hE (211 + 2 * f) (by omega)]
    exact hV.wa f q0 q1,
  fun l q0 q1 => by
    rw [hE 4 (by omega)] at q1
    rw [hE (330 + 4 * l) (by omega), hE (3) (by omega)]
    exact hV.le l q0 q1,
  fun l q0 q1 => by
    rw [hE 4 (by omega)] at q1
    rw [hE (331 + 4 * l) (by omega), hE (1) (by omega)]
    exact hV.lh l q0 q1,
  fun l q0 q1 => by
    rw [hE 4 (by omega)] at q1
    rw [hE (332 + 4 * l) (by omega), hE (333 + 4 * l) (by omega)]
    exact hV.ly l q0 q1,
  fun p q0 q1 => by
    rw [hE 5 (by omega)] at q1
    rw [hE (394 + 3 * p) (by omega), hE (2) (by omega)]
    exact hV.pw p q0 q1,
  fun p q0 q1 => by
    rw [hE 5 (by omega)] at q1
    rw [hE (395 + 3 * p) (by omega), hE (396 + 3 * p) (by omega)]
    exact hV.py p q0 q1,
  fun r q0 q1 => by
    rw [uDra_2 μ a b hc] at q1
    by_cases z : r = μ 6
    · rw [z, uDra_0 μ a b hc]; omega
    · rw [hE (442 + 2 * r) (by omega)]; exact hV.da r q0 (by omega),
  fun r q0 q1 => by
    rw [uDra_2 μ a b hc] at q1
    by_cases z : r = μ 6
    · rw [z, uDra_1 μ a b hc]; omega
    · rw [hE (443 + 2 * r) (by omega)]; exact hV.db r q0 (by omega),
  fun p q0 q1 => by
    rw [hE 7 (by omega)] at q1
    rw [hE (458 + 3 * p) (by omega), hE (2) (by omega)]
    exact hV.pp p q0 q1,
  fun p q0 q1 => by
    rw [hE 7 (by omega)] at q1
    rw [hE (459 + 3 * p) (by omega)]
    exact hV.ph p q0 q1,
  fun p q0 q1 => by
    rw [hE 7 (by omega)] at q1
    rw [hE (460 + 3 * p) (by omega)]
    exact hV.pl p q0 q1,
  fun b q0 q1 => by
    rw [hE 8 (by omega)] at q1
    rw [hE (506 + 2 * b) (by omega), hE (1) (by omega)]
    exact hV.bh b q0 q1,
  fun b q0 q1 => by
    rw [hE 8 (by omega)] at q1
    rw [hE (507 + 2 * b) (by omega)]
    exact hV.bm b q0 q1,
  fun h q0 q1 => by
    rw [hE 1 (by omega)] at q1
    rw [hE (121 + 2 * h) (by omega), hE 8 (by omega), bsum_c (fun i z0 z1 => ⟨hE (506 + 2 * i) (by omega), hE (507 + 2 * i) (by omega)⟩)]
    exact hV.bs h q0 q1⟩
theorem uPap_o (μ : Int → Int) (a b c : Int) : ∀ j, j ≠ 7 ∧ (j < 458 + 3 * μ 7 ∨ 460 + 3 * μ 7 < j) → uPap μ a b c j = μ j := fun j q => (st_n (by omega)).trans ((st_n (by omega)).trans ((st_n (by omega)).trans ((st_n (by omega)))))
theorem uPap_0 (μ : Int → Int) (a b c : Int) (hc : 0 ≤ μ 4 ∧ 0 ≤ μ 5 ∧ 0 ≤ μ 6 ∧ 0 ≤ μ 7) : uPap μ a b c (458 + 3 * μ 7) = a := (st_n (by omega)).trans ((st_n (by omega)).trans ((st_n (by omega)).trans ((st_e _ _ _))))
theorem uPap_1 (μ : Int → Int) (a b c : Int) (hc : 0 ≤ μ 4 ∧ 0 ≤ μ 5 ∧ 0 ≤ μ 6 ∧ 0 ≤ μ 7) : uPap μ a b c (459 + 3 * μ 7) = b := (st_n (by omega)).trans ((st_n (by omega)).trans ((st_e _ _ _)))
theorem uPap_2 (μ : Int → Int) (a b c : Int) (hc : 0 ≤ μ 4 ∧ 0 ≤ μ 5 ∧ 0 ≤ μ 6 ∧ 0 ≤ μ 7) : uPap μ a b c (460 + 3 * μ 7) = c := (st_n (by omega)).trans ((st_e _ _ _))
theorem uPap_3 (μ : Int → Int) (a b c : Int) (hc : 0 ≤ μ 4 ∧ 0 ≤ μ 5 ∧ 0 ≤ μ 6 ∧ 0 ≤ μ 7) : uPap μ a b c (7) = 1 + μ 7 := (st_e _ _ _)
theorem TR_uPap {I J : qI} {μ : Int → Int} {a b c : Int} (hT : TR 6 I μ) (hV : IM μ) (hr : μ 7 < 16) (e : J 19 = fun s => if s = 3 then μ 7 + 1 else I 19 s) (f : J 20 = fun j => if j = μ 7 * 3 + 2 then c else (if j = μ 7 * 3 + 1 then b else (if j = μ 7 * 3 + 0 then a else I 20 j))) (F : ∀ a, a ≠ 19 → a ≠ 20 → J a = I a) : TR 6 J (uPap μ a b c) := by
  have hE := uPap_o μ a b c
  have hn := hV.n7
  have hn1 := hV.n1
  have hn2 := hV.n2
  have hn3 := hV.n3
  have hn4 := hV.n4
  have hn5 := hV.n5
  have hn6 := hV.n6
  have hn7 := hV.n7
  have hn8 := hV.n8
  have hc : 0 ≤ μ 4 ∧ 0 ≤ μ 5 ∧ 0 ≤ μ 6 ∧ 0 ≤ μ 7 := ⟨hV.n4.1, hV.n5.1, hV.n6.1, hV.n7.1⟩
  exact ⟨⟨(congrFun (F 7 (by omega) (by omega)) 0).trans hT.c.a1, (congrFun (F 7 (by omega) (by omega)) 1).trans hT.c.b1, (congrFun (F 9 (by omega) (by omega)) 0).trans hT.c.a3, (congrFun (F 9 (by omega) (by omega)) 1).trans hT.c.b3, (congrFun (F 11 (by omega) (by omega)) 0).trans hT.c.a5, (congrFun (F 11 (by omega) (by omega)) 1).trans hT.c.b5, (congrFun (F 13 (by omega) (by omega)) 0).trans hT.c.a7, (congrFun (F 13 (by omega) (by omega)) 1).trans hT.c.b7, (congrFun (F 15 (by omega) (by omega)) 0).trans hT.c.a9, (congrFun (F 15 (by omega) (by omega)) 1).trans hT.c.b9, (congrFun (F 17 (by omega) (by omega)) 0).trans hT.c.a11, (congrFun (F 17 (by omega) (by omega)) 1).trans hT.c.b11, (by rw [e]; exact hT.c.a13), (by rw [e]; exact hT.c.b13), (congrFun (F 21 (by omega) (by omega)) 0).trans hT.c.a15, (congrFun (F 21 (by omega) (by omega)) 1).trans hT.c.b15⟩,
  (congrFun (F 7 (by omega) (by omega)) 3).trans (hT.r1.trans (hE 1 (by omega)).symm),
  (congrFun (F 9 (by omega) (by omega)) 3).trans (hT.r3.trans (hE 2 (by omega)).symm),
  (congrFun (F 11 (by omega) (by omega)) 3).trans (hT.r5.trans (hE 1 (by omega)).symm),
  (congrFun (F 13 (by omega) (by omega)) 3).trans (hT.r7.trans (hE 4 (by omega)).symm),
  (congrFun (F 15 (by omega) (by omega)) 3).trans (hT.r9.trans (hE 5 (by omega)).symm),
  (congrFun (F 17 (by omega) (by omega)) 3).trans (hT.r11.trans (hE 6 (by omega)).symm),
  by rw [e, uPap_3 μ a b c hc]; show μ 7 + 1 = 1 + μ 7; omega,
  (congrFun (F 21 (by omega) (by omega)) 3).trans (hT.r15.trans (hE 8 (by omega)).symm),
  (congrFun (F 6 (by omega) (by omega)) 12).trans (hT.lc.trans (hE 3 (by omega)).symm),
  (congrFun (F 6 (by omega) (by omega)) 13).trans (hT.tx.trans (hE 0 (by omega)).symm),
  fun r q0 q1 => by
    rw [hE 1 (by omega)] at q1
    rw [(F 8 (by omega) (by omega)), hE (120 + 2 * r) (by omega), hE (121 + 2 * r) (by omega)]
    exact hT.q1 r q0 q1,
  fun r q0 q1 => by
    rw [hE 2 (by omega)] at q1
    rw [(F 10 (by omega) (by omega)), hE (140 + 3 * r) (by omega), hE (141 + 3 * r) (by omega), hE (142 + 3 * r) (by omega)]
    exact hT.q3 r q0 q1,
  fun r q0 q1 => by
    rw [hE 1 (by omega)] at q1
    rw [(F 12 (by omega) (by omega)), hE (210 + 2 * r) (by omega), hE (211 + 2 * r) (by omega), hE (200 + r) (by omega)]
    exact hT.q5 r q0 q1,
  fun r q0 q1 => by
    rw [hE 4 (by omega)] at q1
    rw [(F 14 (by omega) (by omega)), hE (332 + 4 * r) (by omega), hE (333 + 4 * r) (by omega), hE (331 + 4 * r) (by omega), hE (330 + 4 * r) (by omega)]
    exact hT.q7 r q0 q1,
  fun r q0 q1 => by
    rw [hE 5 (by omega)] at q1
    rw [(F 16 (by omega) (by omega)), hE (395 + 3 * r) (by omega), hE (396 + 3 * r) (by omega), hE (394 + 3 * r) (by omega)]
    exact hT.q9 r q0 q1,
  fun r q0 q1 => by
    rw [hE 6 (by omega)] at q1
    rw [(F 18 (by omega) (by omega)), hE (442 + 2 * r) (by omega), hE (443 + 2 * r) (by omega)]
    exact hT.q11 r q0 q1,
  fun r q0 q1 => by
    rw [uPap_3 μ a b c hc] at q1
    by_cases z : r = μ 7
    · rw [z, f]; exact ⟨by rw [uPap_0 μ a b c hc]; exact (if_neg (by omega)).trans ((if_neg (by omega)).trans ((if_pos (by omega)))), by rw [uPap_1 μ a b c hc]; exact (if_neg (by omega)).trans ((if_pos (by omega))), by rw [uPap_2 μ a b c hc]; exact (if_pos (by omega))⟩
    · rw [f]; exact ⟨by rw [hE (458 + 3 * r) (by omega)]; exact (if_neg (by omega)).trans ((if_neg (by omega)).trans ((if_neg (by omega)).trans ((hT.q13 r q0 (by omega)).1))), by rw [hE (459 + 3 * r) (by omega)]; exact (if_neg (by omega)).trans ((if_neg (by omega)).trans ((if_neg (by omega)).trans ((hT.q13 r q0 (by omega)).2.1))), by rw [hE (460 + 3 * r) (by omega)]; exact (if_neg (by omega)).trans ((if_neg (by omega)).trans ((if_neg (by omega)).trans ((hT.q13 r q0 (by omega)).2.2)))⟩,
  fun r q0 q1 => by
    rw [hE 8 (by omega)] at q1
    rw [(F 22 (by omega) (by omega)), hE (506 + 2 * r) (by omega), hE (507 + 2 * r) (by omega)]
    exact hT.q15 r q0 q1,
  fun i q0 q1 => by rw [(F 23 (by omega) (by omega)), hE (9 + i) (by omega)]; exact hT.di i q0 q1,
  fun y q0 q1 => by rw [(F 24 (by omega) (by omega)), hE (20 + y) (by omega)]; exact hT.wi y q0 q1,
  fun y q0 q1 => by rw [(F 25 (by omega) (by omega)), hE (230 + y) (by omega)]; exact hT.ro y q0 q1⟩
theorem IM_uPap {μ : Int → Int} {a b c : Int} (hV : IM μ) (hq : ((0 ≤ a ∧ a < μ 2) ∧ (0 ≤ b ∧ b < 13)) ∧ (c = 0 ∨ c = 1) ∧ μ 7 < 16) : IM (uPap μ a b c) := by
  have hE := uPap_o μ a b c
  have hn0 := hV.n0
  have hn1 := hV.n1
  have hn2 := hV.n2
  have hn3 := hV.n3
  have hn4 := hV.n4
  have hn5 := hV.n5
  have hn6 := hV.n6
  have hn7 := hV.n7
  have hn8 := hV.n8
  have hc : 0 ≤ μ 4 ∧ 0 ≤ μ 5 ∧ 0 ≤ μ 6 ∧ 0 ≤ μ 7 := ⟨hV.n4.1, hV.n5.1, hV.n6.1, hV.n7.1⟩
  exact ⟨by rw [hE 0 (by omega)]; exact hV.n0,
  by rw [hE 1 (by omega)]; exact hV.n1,
  by rw [hE 2 (by omega)]; exact hV.n2,
  by rw [hE 3 (by omega)]; exact hV.n3,
  by rw [hE 4 (by omega)]; exact hV.n4,
  by rw [hE 5 (by omega)]; exact hV.n5,
  by rw [hE 6 (by omega)]; exact hV.n6,
  by rw [uPap_3 μ a b c hc]; omega,
  by rw [hE 8 (by omega)]; exact hV.n8,
  by rw [hE 9 (by omega)]; exact hV.st,
  by rw [hE 10 (by omega)]; exact hV.ra,
  by rw [hE 11 (by omega)]; exact hV.ba,
  by rw [hE 12 (by omega)]; exact hV.se,
  by rw [hE 13 (by omega)]; exact hV.gu,
  fun y q0 q1 => by rw [hE (20 + y) (by omega)]; exact hV.wi y q0 q1,
  fun y q0 q1 => by rw [hE (230 + y) (by omega)]; exact hV.ro y q0 q1,
  fun h q0 q1 => by
    rw [hE 1 (by omega)] at q1
    rw [hE (120 + 2 * h) (by omega)]
    exact hV.hc h q0 q1,
  fun h q0 q1 => by
    rw [hE 1 (by omega)] at q1
    rw [hE (121 + 2 * h) (by omega)]
    exact hV.hh h q0 q1,
  fun h k q0 q1 q2 q3 q4 => by
    rw [hE 1 (by omega)] at q1 q3
    rw [hE (120 + 2 * h) (by omega), hE (120 + 2 * k) (by omega)] at q4
    exact hV.hd h k q0 q1 q2 q3 q4,
  fun w q0 q1 => by
    rw [hE 2 (by omega)] at q1
    rw [hE (140 + 3 * w) (by omega), hE (1) (by omega)]
    exact hV.wh w q0 q1,
  fun w q0 q1 => by
    rw [hE 2 (by omega)] at q1
    rw [hE (141 + 3 * w) (by omega)]
    exact hV.wf w q0 q1,
  fun w q0 q1 => by
    rw [hE 2 (by omega)] at q1
    rw [hE (142 + 3 * w) (by omega)]
    exact hV.wu w q0 q1,
  fun f q0 q1 => by
    rw [hE 1 (by omega)] at q1
    rw [hE (200 + f) (by omega), hE (1) (by omega)]
    exact hV.li f q0 q1,
  fun f k q0 q1 q2 q3 q4 => by
    rw [hE 1 (by omega)] at q1 q3
    rw [hE (200 + f) (by omega), hE (200 + k) (by omega)] at q4
    exact hV.lj f k q0 q1 q2 q3 q4,
  fun f q0 q1 => by
    rw [hE 1 (by omega)] at q1
    rw [hE (210 + 2 * f) (by omega), hE (211 + 2 * f) (by omega)]
    exact hV.wa f q0 q1,
  fun l q0 q1 => by
    rw [hE 4 (by omega)] at q1
    rw [hE (330 + 4 * l) (by omega), hE (3) (by omega)]
    exact hV.le l q0 q1,
  fun l q0 q1 => by
    rw [hE 4 (by omega)] at q1
    rw [hE (331 + 4 * l) (by omega), hE (1) (by omega)]
    exact hV.lh l q0 q1,
  fun l q0 q1 => by
    rw [hE 4 (by omega)] at q1
    rw [hE (332 + 4 * l) (by omega), hE (333 + 4 * l) (by omega)]
    exact hV.ly l q0 q1,
  fun p q0 q1 => by
    rw [hE 5 (by omega)] at q1
    rw [hE (394 + 3 * p) (by omega), hE (2) (by omega)]
    exact hV.pw p q0 q1,
  fun p q0 q1 => by
    rw [hE 5 (by omega)] at q1
    rw [hE (395 + 3 * p) (by omega), hE (396 + 3 * p) (by omega)]
    exact hV.py p q0 q1,
  fun d q0 q1 => by
    rw [hE 6 (by omega)] at q1
    rw [hE (442 + 2 * d) (by omega)]
    exact hV.da d q0 q1,
  fun d q0 q1 => by
    rw [hE 6 (by omega)] at q1
    rw [hE (443 + 2 * d) (by omega)]
    exact hV.db d q0 q1,
  fun r q0 q1 => by
    rw [uPap_3 μ a b c hc] at q1
    by_cases z : r = μ 7
    · rw [z, uPap_0 μ a b c hc, hE 2 (by omega)]; omega
    · rw [hE (458 + 3 * r) (by omega), hE 2 (by omega)]; exact hV.pp r q0 (by omega),
  fun r q0 q1 => by
    rw [uPap_3 μ a b c hc] at q1
    by_cases z : r = μ 7
    · rw [z, uPap_1 μ a b c hc]; omega
    · rw [hE (459 + 3 * r) (by omega)]; exact hV.ph r q0 (by omega),
  fun r q0 q1 => by
    rw [uPap_3 μ a b c hc] at q1
    by_cases z : r = μ 7
    · rw [z, uPap_2 μ a b c hc]; omega
    · rw [hE (460 + 3 * r) (by omega)]; exact hV.pl r q0 (by omega),
  fun b q0 q1 => by
    rw [hE 8 (by omega)] at q1
    rw [hE (506 + 2 * b) (by omega), hE (1) (by omega)]
    exact hV.bh b q0 q1,
  fun b q0 q1 => by
    rw [hE 8 (by omega)] at q1
    rw [hE (507 + 2 * b) (by omega)]
    exact hV.bm b q0 q1,
  fun h q0 q1 => by
    rw [hE 1 (by omega)] at q1
    rw [hE (121 + 2 * h) (by omega), hE 8 (by omega), bsum_c (fun i z0 z1 => ⟨hE (506 + 2 * i) (by omega), hE (507 + 2 * i) (by omega)⟩)]
    exact hV.bs h q0 q1⟩
