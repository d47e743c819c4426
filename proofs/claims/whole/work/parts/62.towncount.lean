def uTex (μ : Int → Int) : Int → Int := st μ 0 (1 + μ 0)
theorem uTex_o (μ : Int → Int) : ∀ j, j ≠ 0 → uTex μ j = μ j := fun j q => st_n q
theorem uTex_0 (μ : Int → Int) : uTex μ 0 = 1 + μ 0 := st_e _ _ _
theorem TR_uTex {I J : qI} {μ : Int → Int} (hT : TR 27 I μ) (hV : IM μ) (e : J 27 = fun s => if s = 13 then μ 0 + 1 else I 27 s) (F : ∀ a, a ≠ 27 → J a = I a) : TR 27 J (uTex μ) := by
  have hn1 := hV.n1
  have hn2 := hV.n2
  have hn3 := hV.n3
  have hn4 := hV.n4
  have hn5 := hV.n5
  have hn6 := hV.n6
  have hn7 := hV.n7
  have hn8 := hV.n8
  have hE := uTex_o μ
  exact ⟨⟨(congrFun (F 28 (by omega)) 0).trans hT.c.a1, (congrFun (F 28 (by omega)) 1).trans hT.c.b1, (congrFun (F 30 (by omega)) 0).trans hT.c.a3, (congrFun (F 30 (by omega)) 1).trans hT.c.b3, (congrFun (F 32 (by omega)) 0).trans hT.c.a5, (congrFun (F 32 (by omega)) 1).trans hT.c.b5, (congrFun (F 34 (by omega)) 0).trans hT.c.a7, (congrFun (F 34 (by omega)) 1).trans hT.c.b7, (congrFun (F 36 (by omega)) 0).trans hT.c.a9, (congrFun (F 36 (by omega)) 1).trans hT.c.b9, (congrFun (F 38 (by omega)) 0).trans hT.c.a11, (congrFun (F 38 (by omega)) 1).trans hT.c.b11, (congrFun (F 40 (by omega)) 0).trans hT.c.a13, (congrFun (F 40 (by omega)) 1).trans hT.c.b13, (congrFun (F 42 (by omega)) 0).trans hT.c.a15, (congrFun (F 42 (by omega)) 1).trans hT.c.b15⟩,
  (congrFun (F 28 (by omega)) 3).trans (hT.r1.trans (hE 1 (by omega)).symm),
  (congrFun (F 30 (by omega)) 3).trans (hT.r3.trans (hE 2 (by omega)).symm),
  (congrFun (F 32 (by omega)) 3).trans (hT.r5.trans (hE 1 (by omega)).symm),
  (congrFun (F 34 (by omega)) 3).trans (hT.r7.trans (hE 4 (by omega)).symm),
  (congrFun (F 36 (by omega)) 3).trans (hT.r9.trans (hE 5 (by omega)).symm),
  (congrFun (F 38 (by omega)) 3).trans (hT.r11.trans (hE 6 (by omega)).symm),
  (congrFun (F 40 (by omega)) 3).trans (hT.r13.trans (hE 7 (by omega)).symm),
  (congrFun (F 42 (by omega)) 3).trans (hT.r15.trans (hE 8 (by omega)).symm),
  (by rw [e]; exact hT.lc.trans (hE 3 (by omega)).symm),
  (by rw [e, uTex_0]; show μ 0 + 1 = 1 + μ 0; omega),
  fun r q0 q1 => by
    rw [hE 1 (by omega)] at q1
    rw [(F 29 (by omega)), hE (120 + 2 * r) (by omega), hE (121 + 2 * r) (by omega)]
    exact hT.q1 r q0 q1,
  fun r q0 q1 => by
    rw [hE 2 (by omega)] at q1
    rw [(F 31 (by omega)), hE (140 + 3 * r) (by omega), hE (141 + 3 * r) (by omega), hE (142 + 3 * r) (by omega)]
    exact hT.q3 r q0 q1,
  fun r q0 q1 => by
    rw [hE 1 (by omega)] at q1
    rw [(F 33 (by omega)), hE (210 + 2 * r) (by omega), hE (211 + 2 * r) (by omega), hE (200 + r) (by omega)]
    exact hT.q5 r q0 q1,
  fun r q0 q1 => by
    rw [hE 4 (by omega)] at q1
    rw [(F 35 (by omega)), hE (332 + 4 * r) (by omega), hE (333 + 4 * r) (by omega), hE (331 + 4 * r) (by omega), hE (330 + 4 * r) (by omega)]
    exact hT.q7 r q0 q1,
  fun r q0 q1 => by
    rw [hE 5 (by omega)] at q1
    rw [(F 37 (by omega)), hE (395 + 3 * r) (by omega), hE (396 + 3 * r) (by omega), hE (394 + 3 * r) (by omega)]
    exact hT.q9 r q0 q1,
  fun r q0 q1 => by
    rw [hE 6 (by omega)] at q1
    rw [(F 39 (by omega)), hE (442 + 2 * r) (by omega), hE (443 + 2 * r) (by omega)]
    exact hT.q11 r q0 q1,
  fun r q0 q1 => by
    rw [hE 7 (by omega)] at q1
    rw [(F 41 (by omega)), hE (458 + 3 * r) (by omega), hE (459 + 3 * r) (by omega), hE (460 + 3 * r) (by omega)]
    exact hT.q13 r q0 q1,
  fun r q0 q1 => by
    rw [hE 8 (by omega)] at q1
    rw [(F 43 (by omega)), hE (506 + 2 * r) (by omega), hE (507 + 2 * r) (by omega)]
    exact hT.q15 r q0 q1,
  fun i q0 q1 => by rw [(F 44 (by omega)), hE (9 + i) (by omega)]; exact hT.di i q0 q1,
  fun y q0 q1 => by rw [(F 45 (by omega)), hE (20 + y) (by omega)]; exact hT.wi y q0 q1,
  fun y q0 q1 => by rw [(F 46 (by omega)), hE (230 + y) (by omega)]; exact hT.ro y q0 q1⟩
theorem IM_uTex {μ : Int → Int} (hV : IM μ) (h : μ 0 < 12) : IM (uTex μ) := by
  have hn1 := hV.n1
  have hn2 := hV.n2
  have hn3 := hV.n3
  have hn4 := hV.n4
  have hn5 := hV.n5
  have hn6 := hV.n6
  have hn7 := hV.n7
  have hn8 := hV.n8
  have hn0 := hV.n0
  have hE := uTex_o μ
  exact ⟨by rw [uTex_0]; omega,
  by rw [hE 1 (by omega)]; exact hV.n1,
  by rw [hE 2 (by omega)]; exact hV.n2,
  by rw [hE 3 (by omega)]; exact hV.n3,
  by rw [hE 4 (by omega)]; exact hV.n4,
  by rw [hE 5 (by omega)]; exact hV.n5,
  by rw [hE 6 (by omega)]; exact hV.n6,
  by rw [hE 7 (by omega)]; exact hV.n7,
  by rw [hE 8 (by omega)]; exact hV.n8,
  by rw [hE 9 (by omega)]; exact hV.st,
  by rw [hE 10 (by omega)]; exact hV.ra,
  by rw [hE 11 (by omega)]; exact hV.ba,
  by rw [hE 12 (by omega)]; exact hV.se,
  by rw [hE 13 (by omega)]; exact hV.gu,
  fun y q0 q1 => by rw [hE (20 + y) (by omega)]; exact hV.wi y q0 q1,
  fun y q0 q1 => by rw [hE (230 + y) (by omega)]; exact hV.ro y q0 q1,
  fun h q0 q1 => by
    rw [hE 1 (by omega)] at q1
    rw [hE (120 + 2 * h) (by omega)]
    exact hV.hc h q0 q1,
  fun h q0 q1 => by
    rw [hE 1 (by omega)] at q1
    rw [hE (121 + 2 * h) (by omega)]
    exact hV.hh h q0 q1,
  fun h k q0 q1 q2 q3 q4 => by
    rw [hE 1 (by omega)] at q1 q3
    rw [hE (120 + 2 * h) (by omega), hE (120 + 2 * k) (by omega)] at q4
    exact hV.hd h k q0 q1 q2 q3 q4,
  fun w q0 q1 => by
    rw [hE 2 (by omega)] at q1
    rw [hE (140 + 3 * w) (by omega), hE (1) (by omega)]
    exact hV.wh w q0 q1,
  fun w q0 q1 => by
    rw [hE 2 (by omega)] at q1
    rw [hE (141 + 3 * w) (by omega)]
    exact hV.wf w q0 q1,
  fun w q0 q1 => by
    rw [hE 2 (by omega)] at q1
    rw [hE (142 + 3 * w) (by omega)]
    exact hV.wu w q0 q1,
  fun f q0 q1 => by
    rw [hE 1 (by omega)] at q1
    rw [hE (200 + f) (by omega), hE (1) (by omega)]
    exact hV.li f q0 q1,
  fun f k q0 q1 q2 q3 q4 => by
    rw [hE 1 (by omega)] at q1 q3
    rw [hE (200 + f) (by omega), hE (200 + k) (by omega)] at q4
    exact hV.lj f k q0 q1 q2 q3 q4,
  fun f q0 q1 => by
    rw [hE 1 (by omega)] at q1
    rw [hE (210 + 2 * f) (by omega), hE (211 + 2 * f) (by omega)]
    exact hV.wa f q0 q1,
  fun l q0 q1 => by
    rw [hE 4 (by omega)] at q1
    rw [hE (330 + 4 * l) (by omega), hE (3) (by omega)]
    exact hV.le l q0 q1,
  fun l q0 q1 => by
    rw [hE 4 (by omega)] at q1
    rw [hE (331 + 4 * l) (by omega), hE (1) (by omega)]
    exact hV.lh l q0 q1,
  fun l q0 q1 => by
    rw [hE 4 (by omega)] at q1
    rw [hE (332 + 4 * l) (by omega), hE (333 + 4 * l) (by omega)]
    exact hV.ly l q0 q1,
  fun p q0 q1 => by
    rw [hE 5 (by omega)] at q1
    rw [hE (394 + 3 * p) (by omega), hE (2) (by omega)]
    exact hV.pw p q0 q1,
  fun p q0 q1 => by
    rw [hE 5 (by omega)] at q1
    rw [hE (395 + 3 * p) (by omega), hE (396 + 3 * p) (by omega)]
    exact hV.py p q0 q1,
  fun d q0 q1 => by
    rw [hE 6 (by omega)] at q1
    rw [hE (442 + 2 * d) (by omega)]
    exact hV.da d q0 q1,
  fun d q0 q1 => by
    rw [hE 6 (by omega)] at q1
    rw [hE (443 + 2 * d) (by omega)]
    exact hV.db d q0 q1,
  fun p q0 q1 => by
    rw [hE 7 (by omega)] at q1
    rw [hE (458 + 3 * p) (by omega), hE (2) (by omega)]
    exact hV.pp p q0 q1,
  fun p q0 q1 => by
    rw [hE 7 (by omega)] at q1
    rw [hE (459 + 3 * p) (by omega)]
    exact hV.ph p q0 q1,
  fun p q0 q1 => by
    rw [hE 7 (by omega)] at q1
    rw [hE (460 + 3 * p) (by omega)]
    exact hV.pl p q0 q1,
  fun b q0 q1 => by
    rw [hE 8 (by omega)] at q1
    rw [hE (506 + 2 * b) (by omega), hE (1) (by omega)]
    exact hV.bh b q0 q1,
  fun b q0 q1 => by
    rw [hE 8 (by omega)] at q1
    rw [hE (507 + 2 * b) (by omega)]
    exact hV.bm b q0 q1,
  fun h q0 q1 => by
    rw [hE 1 (by omega)] at q1
    rw [hE (121 + 2 * h) (by omega), hE 8 (by omega), bsum_c (fun i z0 z1 => ⟨hE (506 + 2 * i) (by omega), hE (507 + 2 * i) (by omega)⟩)]
    exact hV.bs h q0 q1⟩
