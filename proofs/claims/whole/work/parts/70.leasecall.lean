theorem Shp.nw {H : qS} (h : Shp H) (v : Int) (k : Nat) : Shp (nwS H v k) := by
  have h3 := h.2.2
  have a1 : ∀ q ∈ RT, q.1 < 101 := by decide
  have a2 : ∀ q ∈ LT, q.1 < 101 := by decide
  refine ⟨fun q hq => ?_, fun q hq => ?_, by show 98 ≤ H.2.2.2 + 1; omega⟩
  · have := a1 q hq
    show (if q.1 = H.2.2.2 + 3 then _ else H.1 q.1) q.2.1 = _
    rw [if_neg (by omega)]
    exact h.1 q hq
  · have := a2 q hq
    show (if q.1 = H.2.2.2 + 3 then _ else H.2.1 q.1) = _
    rw [if_neg (by omega)]
    exact h.2.1 q hq
def uLs (μ : Int → Int) : Int → Int := st μ 3 (1 + μ 3)
theorem uLs_o (μ : Int → Int) : ∀ j, j ≠ 3 → uLs μ j = μ j := fun j q => st_n q
theorem uLs_3 (μ : Int → Int) : uLs μ 3 = 1 + μ 3 := st_e _ _ _
theorem TR_uLs {I J : qI} {μ : Int → Int} (hT : TR 6 I μ) (hV : IM μ) (e : J 6 = fun s => if s = 12 then μ 3 + 1 else I 6 s) (F : ∀ a, 7 ≤ a → a < 27 → J a = I a) : TR 6 J (uLs μ) := by
  have hn1 := hV.n1
  have hn2 := hV.n2
  have hn3 := hV.n3
  have hn4 := hV.n4
  have hn5 := hV.n5
  have hn6 := hV.n6
  have hn7 := hV.n7
  have hn8 := hV.n8
  have hE := uLs_o μ
  exact ⟨⟨(congrFun (F 7 (by omega) (by omega)) 0).trans hT.c.a1, (congrFun (F 7 (by omega) (by omega)) 1).trans hT.c.b1, (congrFun (F 9 (by omega) (by omega)) 0).trans hT.c.a3, (congrFun (F 9 (by omega) (by omega)) 1).trans hT.c.b3, (congrFun (F 11 (by omega) (by omega)) 0).trans hT.c.a5, (congrFun (F 11 (by omega) (by omega)) 1).trans hT.c.b5, (congrFun (F 13 (by omega) (by omega)) 0).trans hT.c.a7, (congrFun (F 13 (by omega) (by omega)) 1).trans hT.c.b7, (congrFun (F 15 (by omega) (by omega)) 0).trans hT.c.a9, (congrFun (F 15 (by omega) (by omega)) 1).trans hT.c.b9, (congrFun (F 17 (by omega) (by omega)) 0).trans hT.c.a11, (congrFun (F 17 (by omega) (by omega)) 1).trans hT.c.b11, (congrFun (F 19 (by omega) (by omega)) 0).trans hT.c.a13, (congrFun (F 19 (by omega) (by omega)) 1).trans hT.c.b13, (congrFun (F 21 (by omega) (by omega)) 0).trans hT.c.a15, (congrFun (F 21 (by omega) (by omega)) 1).trans hT.c.b15⟩,
  (congrFun (F 7 (by omega) (by omega)) 3).trans (hT.r1.trans (hE 1 (by omega)).symm),
  (congrFun (F 9 (by omega) (by omega)) 3).trans (hT.r3.trans (hE 2 (by omega)).symm),
  (congrFun (F 11 (by omega) (by omega)) 3).trans (hT.r5.trans (hE 1 (by omega)).symm),
  (congrFun (F 13 (by omega) (by omega)) 3).trans (hT.r7.trans (hE 4 (by omega)).symm),
  (congrFun (F 15 (by omega) (by omega)) 3).trans (hT.r9.trans (hE 5 (by omega)).symm),
  (congrFun (F 17 (by omega) (by omega)) 3).trans (hT.r11.trans (hE 6 (by omega)).symm),
  (congrFun (F 19 (by omega) (by omega)) 3).trans (hT.r13.trans (hE 7 (by omega)).symm),
  (congrFun (F 21 (by omega) (by omega)) 3).trans (hT.r15.trans (hE 8 (by omega)).symm),
  (by rw [e, uLs_3]; show μ 3 + 1 = 1 + μ 3; omega),
  (by rw [e]; exact hT.tx.trans (hE 0 (by omega)).symm),
  fun r q0 q1 => by
    rw [hE 1 (by omega)] at q1
    rw [(F 8 (by omega) (by omega)), hE (120 + 2 * r) (by omega), hE (121 + 2 * r) (by omega)]
    exact hT.q1 r q0 q1,
  fun r q0 q1 => by
    rw [hE 2 (by omega)] at q1
    rw [(F 10 (by omega) (by omega)), hE (140 + 3 * r) (by omega), hE (141 + 3 * r) (by omega), hE (142 + 3 * r) (by omega)]
    exact hT.q3 r q0 q1,
  fun r q0 q1 => by
    rw [hE 1 (by omega)] at q1
    rw [(F 12 (by omega) (by omega)), hE (210 + 2 * r) (by omega), hE (211 + 2 * r) (by omega), hE (200 + r) (by omega)]
    exact hT.q5 r q0 q1,
  fun r q0 q1 => by
    rw [hE 4 (by omega)] at q1
    rw [(F 14 (by omega) (by omega)), hE (332 + 4 * r) (by omega), hE (333 + 4 * r) (by omega), hE (331 + 4 * r) (by omega), hE (330 + 4 * r) (by omega)]
    exact hT.q7 r q0 q1,
  fun r q0 q1 => by
    rw [hE 5 (by omega)] at q1
    rw [(F 16 (by omega) (by omega)), hE (395 + 3 * r) (by omega), hE (396 + 3 * r) (by omega), hE (394 + 3 * r) (by omega)]
    exact hT.q9 r q0 q1,
  fun r q0 q1 => by
    rw [hE 6 (by omega)] at q1
    rw [(F 18 (by omega) (by omega)), hE (442 + 2 * r) (by omega), hE (443 + 2 * r) (by omega)]
    exact hT.q11 r q0 q1,
  fun r q0 q1 => by
    rw [hE 7 (by omega)] at q1
    rw [(F 20 (by omega) (by omega)), hE (458 + 3 * r) (by omega), hE (459 + 3 * r) (by omega), hE (460 + 3 * r) (by omega)]
    exact hT.q13 r q0 q1,
  fun r q0 q1 => by
    rw [hE 8 (by omega)] at q1
    rw [(F 22 (by omega) (by omega)), hE (506 + 2 * r) (by omega), hE (507 + 2 * r) (by omega)]
    exact hT.q15 r q0 q1,
  fun i q0 q1 => by rw [(F 23 (by omega) (by omega)), hE (9 + i) (by omega)]; exact hT.di i q0 q1,
  fun y q0 q1 => by rw [(F 24 (by omega) (by omega)), hE (20 + y) (by omega)]; exact hT.wi y q0 q1,
  fun y q0 q1 => by rw [(F 25 (by omega) (by omega)), hE (230 + y) (by omega)]; exact hT.ro y q0 q1⟩
theorem IM_uLs {μ : Int → Int} (hV : IM μ) (h : μ 3 < 6) : IM (uLs μ) := by
  have hn1 := hV.n1
  have hn2 := hV.n2
  have hn3 := hV.n3
  have hn4 := hV.n4
  have hn5 := hV.n5
  have hn6 := hV.n6
  have hn7 := hV.n7
  have hn8 := hV.n8
  have hE := uLs_o μ
  exact ⟨by rw [hE 0 (by omega)]; exact hV.n0,
  by rw [hE 1 (by omega)]; exact hV.n1,
  by rw [hE 2 (by omega)]; exact hV.n2,
  by rw [uLs_3]; omega,
  by rw [hE 4 (by omega)]; exact hV.n4,
  by rw [hE 5 (by omega)]; exact hV.n5,
  by rw [hE 6 (by omega)]; exact hV.n6,
  by rw [hE 7 (by omega)]; exact hV.n7,
  by rw [hE 8 (by omega)]; exact hV.n8,
  by rw [hE 9 (by omega)]; exact hV.st,
  by rw [hE 10 (by omega)]; exact hV.ra,
  by rw [hE 11 (by omega)]; exact hV.ba,
  by rw [hE 12 (by omega)]; exact hV.se,
  by rw [hE 13 (by omega)]; exact hV.gu,
  fun y q0 q1 => by rw [hE (20 + y) (by omega)]; exact hV.wi y q0 q1,
  fun y q0 q1 => by rw [hE (230 + y) (by omega)]; exact hV.ro y q0 q1,
  fun h q0 q1 => by
    rw [hE 1 (by omega)] at q1
    rw [hE (120 + 2 * h) (by omega)]
    exact hV.hc h q0 q1,
  fun h q0 q1 => by
    rw [hE 1 (by omega)] at q1
    rw [hE (121 + 2 * h) (by omega)]
    exact hV.hh h q0 q1,
  fun h k q0 q1 q2 q3 q4 => by
    rw [hE 1 (by omega)] at q1 q3
    rw [hE (120 + 2 * h) (by omega), hE (120 + 2 * k) (by omega)] at q4
    exact hV.hd h k q0 q1 q2 q3 q4,
  fun w q0 q1 => by
    rw [hE 2 (by omega)] at q1
    rw [hE (140 + 3 * w) (by omega), hE (1) (by omega)]
    exact hV.wh w q0 q1,
  fun w q0 q1 => by
    rw [hE 2 (by omega)] at q1
    rw [hE (141 + 3 * w) (by omega)]
    exact hV.wf w q0 q1,
  fun w q0 q1 => by
    rw [hE 2 (by omega)] at q1
    rw [hE (142 + 3 * w) (by omega)]
    exact hV.wu w q0 q1,
  fun f q0 q1 => by
    rw [hE 1 (by omega)] at q1
    rw [hE (200 + f) (by omega), hE (1) (by omega)]
    exact hV.li f q0 q1,
  fun f k q0 q1 q2 q3 q4 => by
    rw [hE 1 (by omega)] at q1 q3
    rw [hE (200 + f) (by omega), hE (200 + k) (by omega)] at q4
    exact hV.lj f k q0 q1 q2 q3 q4,
  fun f q0 q1 => by
    rw [hE 1 (by omega)] at q1
    rw [hE (210 + 2 * f) (by omega), hE (211 + 2 * f) (by omega)]
    exact hV.wa f q0 q1,
  fun r q0 q1 => by
    rw [hE 4 (by omega)] at q1
    rw [hE (330 + 4 * r) (by omega), uLs_3]
    have := hV.le r q0 q1
    omega,
  fun l q0 q1 => by
    rw [hE 4 (by omega)] at q1
    rw [hE (331 + 4 * l) (by omega), hE (1) (by omega)]
    exact hV.lh l q0 q1,
  fun l q0 q1 => by
    rw [hE 4 (by omega)] at q1
    rw [hE (332 + 4 * l) (by omega), hE (333 + 4 * l) (by omega)]
    exact hV.ly l q0 q1,
  fun p q0 q1 => by
    rw [hE 5 (by omega)] at q1
    rw [hE (394 + 3 * p) (by omega), hE (2) (by omega)]
    exact hV.pw p q0 q1,
  fun p q0 q1 => by
    rw [hE 5 (by omega)] at q1
    rw [hE (395 + 3 * p) (by omega), hE (396 + 3 * p) (by omega)]
    exact hV.py p q0 q1,
  fun d q0 q1 => by
    rw [hE 6 (by omega)] at q1
    rw [hE (442 + 2 * d) (by omega)]
    exact hV.da d q0 q1,
  fun d q0 q1 => by
    rw [hE 6 (by omega)] at q1
    rw [hE (443 + 2 * d) (by omega)]
    exact hV.db d q0 q1,
  fun p q0 q1 => by
    rw [hE 7 (by omega)] at q1
    rw [hE (458 + 3 * p) (by omega), hE (2) (by omega)]
    exact hV.pp p q0 q1,
  fun p q0 q1 => by
    rw [hE 7 (by omega)] at q1
    rw [hE (459 + 3 * p) (by omega)]
    exact hV.ph p q0 q1,
  fun p q0 q1 => by
    rw [hE 7 (by omega)] at q1
    rw [hE (460 + 3 * p) (by omega)]
    exact hV.pl p q0 q1,
  fun b q0 q1 => by
    rw [hE 8 (by omega)] at q1
    rw [hE (506 + 2 * b) (by omega), hE (1) (by omega)]
    exact hV.bh b q0 q1,
  fun b q0 q1 => by
    rw [hE 8 (by omega)] at q1
    rw [hE (507 + 2 * b) (by omega)]
    exact hV.bm b q0 q1,
  fun h q0 q1 => by
    rw [hE 1 (by omega)] at q1
    rw [hE (121 + 2 * h) (by omega), hE 8 (by omega), bsum_c (fun i z0 z1 => ⟨hE (506 + 2 * i) (by omega), hE (507 + 2 * i) (by omega)⟩)]
    exact hV.bs h q0 q1⟩
theorem TR_low {I : qI} {n : Nat} {μ ν : Int → Int} (hT : TR n I μ) (hV : IM μ) (hE : ∀ j, j < 546 → ν j = μ j) : TR n I ν := by
  have hn1 := hV.n1
  have hn2 := hV.n2
  have hn3 := hV.n3
  have hn4 := hV.n4
  have hn5 := hV.n5
  have hn6 := hV.n6
  have hn7 := hV.n7
  have hn8 := hV.n8
  exact ⟨⟨(congrFun rfl 0).trans hT.c.a1, (congrFun rfl 1).trans hT.c.b1, (congrFun rfl 0).trans hT.c.a3, (congrFun rfl 1).trans hT.c.b3, (congrFun rfl 0).trans hT.c.a5, (congrFun rfl 1).trans hT.c.b5, (congrFun rfl 0).trans hT.c.a7, (congrFun rfl 1).trans hT.c.b7, (congrFun rfl 0).trans hT.c.a9, (congrFun rfl 1).trans hT.c.b9, (congrFun rfl 0).trans hT.c.a11, (congrFun rfl 1).trans hT.c.b11, (congrFun rfl 0).trans hT.c.a13, (congrFun rfl 1).trans hT.c.b13, (congrFun rfl 0).trans hT.c.a15, (congrFun rfl 1).trans hT.c.b15⟩,
  (congrFun rfl 3).trans (hT.r1.trans (hE 1 (by omega)).symm),
  (congrFun rfl 3).trans (hT.r3.trans (hE 2 (by omega)).symm),
  (congrFun rfl 3).trans (hT.r5.trans (hE 1 (by omega)).symm),
  (congrFun rfl 3).trans (hT.r7.trans (hE 4 (by omega)).symm),
  (congrFun rfl 3).trans (hT.r9.trans (hE 5 (by omega)).symm),
  (congrFun rfl 3).trans (hT.r11.trans (hE 6 (by omega)).symm),
  (congrFun rfl 3).trans (hT.r13.trans (hE 7 (by omega)).symm),
  (congrFun rfl 3).trans (hT.r15.trans (hE 8 (by omega)).symm),
  (congrFun rfl 12).trans (hT.lc.trans (hE 3 (by omega)).symm),
  (congrFun rfl 13).trans (hT.tx.trans (hE 0 (by omega)).symm),
  fun r q0 q1 => by
    rw [hE 1 (by omega)] at q1
    rw [hE (120 + 2 * r) (by omega), hE (121 + 2 * r) (by omega)]
    exact hT.q1 r q0 q1,
  fun r q0 q1 => by
    rw [hE 2 (by omega)] at q1
    rw [hE (140 + 3 * r) (by omega), hE (141 + 3 * r) (by omega), hE (142 + 3 * r) (by omega)]
    exact hT.q3 r q0 q1,
  fun r q0 q1 => by
    rw [hE 1 (by omega)] at q1
    rw [hE (210 + 2 * r) (by omega), hE (211 + 2 * r) (by omega), hE (200 + r) (by omega)]
    exact hT.q5 r q0 q1,
  fun r q0 q1 => by
    rw [hE 4 (by omega)] at q1
    rw [hE (332 + 4 * r) (by omega), hE (333 + 4 * r) (by omega), hE (331 + 4 * r) (by omega), hE (330 + 4 * r) (by omega)]
    exact hT.q7 r q0 q1,
  fun r q0 q1 => by
    rw [hE 5 (by omega)] at q1
    rw [hE (395 + 3 * r) (by omega), hE (396 + 3 * r) (by omega), hE (394 + 3 * r) (by omega)]
    exact hT.q9 r q0 q1,
  fun r q0 q1 => by
    rw [hE 6 (by omega)] at q1
    rw [hE (442 + 2 * r) (by omega), hE (443 + 2 * r) (by omega)]
    exact hT.q11 r q0 q1,
  fun r q0 q1 => by
    rw [hE 7 (by omega)] at q1
    rw [hE (458 + 3 * r) (by omega), hE (459 + 3 * r) (by omega), hE (460 + 3 * r) (by omega)]
    exact hT.q13 r q0 q1,
  fun r q0 q1 => by
    rw [hE 8 (by omega)] at q1
    rw [hE (506 + 2 * r) (by omega), hE (507 + 2 * r) (by omega)]
    exact hT.q15 r q0 q1,
  fun i q0 q1 => by rw [hE (9 + i) (by omega)]; exact hT.di i q0 q1,
  fun y q0 q1 => by rw [hE (20 + y) (by omega)]; exact hT.wi y q0 q1,
  fun y q0 q1 => by rw [hE (230 + y) (by omega)]; exact hT.ro y q0 q1⟩
theorem IM_low {μ ν : Int → Int} (hV : IM μ) (hE : ∀ j, j < 546 → ν j = μ j) : IM ν := by
  have hn1 := hV.n1
  have hn2 := hV.n2
  have hn3 := hV.n3
  have hn4 := hV.n4
  have hn5 := hV.n5
  have hn6 := hV.n6
  have hn7 := hV.n7
  have hn8 := hV.n8
  have hn0 := hV.n0
  exact ⟨by rw [hE 0 (by omega)]; exact hV.n0,
  by rw [hE 1 (by omega)]; exact hV.n1,
  by rw [hE 2 (by omega)]; exact hV.n2,
  by rw [hE 3 (by omega)]; exact hV.n3,
  by rw [hE 4 (by omega)]; exact hV.n4,
  by rw [hE 5 (by omega)]; exact hV.n5,
  by rw [hE 6 (by omega)]; exact hV.n6,
  by rw [hE 7 (by omega)]; exact hV.n7,
  by rw [hE 8 (by omega)]; exact hV.n8,
  by rw [hE 9 (by omega)]; exact hV.st,
  by rw [hE 10 (by omega)]; exact hV.ra,
  by rw [hE 11 (by omega)]; exact hV.ba,
  by rw [hE 12 (by omega)]; exact hV.se,
  by rw [hE 13 (by omega)]; exact hV.gu,
  fun y q0 q1 => by rw [hE (20 + y) (by omega)]; exact hV.wi y q0 q1,
  fun y q0 q1 => by rw [hE (230 + y) (by omega)]; exact hV.ro y q0 q1,
  fun h q0 q1 => by
    rw [hE 1 (by omega)] at q1
    rw [hE (120 + 2 * h) (by omega)]
    exact hV.hc h q0 q1,
  fun h q0 q1 => by
    rw [hE 1 (by omega)] at q1
    rw [hE (121 + 2 * h) (by omega)]
    exact hV.hh h q0 q1,
  fun h k q0 q1 q2 q3 q4 => by
    rw [hE 1 (by omega)] at q1 q3
    rw [hE (120 + 2 * h) (by omega), hE (120 + 2 * k) (by omega)] at q4
    exact hV.hd h k q0 q1 q2 q3 q4,
  fun w q0 q1 => by
    rw [hE 2 (by omega)] at q1
    rw [hE (140 + 3 * w) (by omega), hE (1) (by omega)]
    exact hV.wh w q0 q1,
  fun w q0 q1 => by
    rw [hE 2 (by omega)] at q1
    rw [hE (141 + 3 * w) (by omega)]
    exact hV.wf w q0 q1,
  fun w q0 q1 => by
    rw [hE 2 (by omega)] at q1
    rw [hE (142 + 3 * w) (by omega)]
    exact hV.wu w q0 q1,
  fun f q0 q1 => by
    rw [hE 1 (by omega)] at q1
    rw [hE (200 + f) (by omega), hE (1) (by omega)]
    exact hV.li f q0 q1,
  fun f k q0 q1 q2 q3 q4 => by
    rw [hE 1 (by omega)] at q1 q3
    rw [hE (200 + f) (by omega), hE (200 + k) (by omega)] at q4
    exact hV.lj f k q0 q1 q2 q3 q4,
  fun f q0 q1 => by
    rw [hE 1 (by omega)] at q1
    rw [hE (210 + 2 * f) (by omega), hE (211 + 2 * f) (by omega)]
    exact hV.wa f q0 q1,
  fun l q0 q1 => by
    rw [hE 4 (by omega)] at q1
    rw [hE (330 + 4 * l) (by omega), hE (3) (by omega)]
    exact hV.le l q0 q1,
  fun l q0 q1 => by
    rw [hE 4 (by omega)] at q1
    rw [hE (331 + 4 * l) (by omega), hE (1) (by omega)]
    exact hV.lh l q0 q1,
  fun l q0 q1 => by
    rw [hE 4 (by omega)] at q1
    rw [hE (332 + 4 * l) (by omega), hE (333 + 4 * l) (by omega)]
    exact hV.ly l q0 q1,
  fun p q0 q1 => by
    rw [hE 5 (by omega)] at q1
    rw [hE (394 + 3 * p) (by omega), hE (2) (by omega)]
    exact hV.pw p q0 q1,
  fun p q0 q1 => by
    rw [hE 5 (by omega)] at q1
    rw [hE (395 + 3 * p) (by omega), hE (396 + 3 * p) (by omega)]
    exact hV.py p q0 q1,
  fun d q0 q1 => by
    rw [hE 6 (by omega)] at q1
    rw [hE (442 + 2 * d) (by omega)]
    exact hV.da d q0 q1,
  fun d q0 q1 => by
    rw [hE 6 (by omega)] at q1
    rw [hE (443 + 2 * d) (by omega)]
    exact hV.db d q0 q1,
  fun p q0 q1 => by
    rw [hE 7 (by omega)] at q1
    rw [hE (458 + 3 * p) (by omega), hE (2) (by omega)]
    exact hV.pp p q0 q1,
  fun p q0 q1 => by
    rw [hE 7 (by omega)] at q1
    rw [hE (459 + 3 * p) (by omega)]
    exact hV.ph p q0 q1,
  fun p q0 q1 => by
    rw [hE 7 (by omega)] at q1
    rw [hE (460 + 3 * p) (by omega)]
    exact hV.pl p q0 q1,
  fun b q0 q1 => by
    rw [hE 8 (by omega)] at q1
    rw [hE (506 + 2 * b) (by omega), hE (1) (by omega)]
    exact hV.bh b q0 q1,
  fun b q0 q1 => by
    rw [hE 8 (by omega)] at q1
    rw [hE (507 + 2 * b) (by omega)]
    exact hV.bm b q0 q1,
  fun h q0 q1 => by
    rw [hE 1 (by omega)] at q1
    rw [hE (121 + 2 * h) (by omega), hE 8 (by omega), bsum_c (fun i z0 z1 => ⟨hE (506 + 2 * i) (by omega), hE (507 + 2 * i) (by omega)⟩)]
    exact hV.bs h q0 q1⟩
theorem s_3_beginAnew {d : Nat} {P : Option qV → qH → Prop} {X : Nat → qH → Prop} {I : qI} {H : qS} (hd : 1 ≤ d) (hS : Shp H) (h : ∀ J : qI, COD J [] → (∀ s, s ≠ 5 → J 72 s = I 72 s) → (∀ a, a ≠ 72 → J a = I a) → P none (J, H)) :
    Call d 38 [vr (some 72) 3] (I, H) P X := by
  obtain ⟨d, rfl⟩ : ∃ e, d = e + 1 := ⟨d - 1, by omega⟩
  show WP (Call d) 38 P X (0, [some (vr (some 72) 3)], [], (I, H), 0, 0)
  refine WP.go 4 (And.intro (And.intro rfl trivial) (And.intro (And.intro (Nat.le_of_ble_eq_true rfl) (Nat.le_of_ble_eq_true rfl)) (?_)))
  show P none ((upI I 72 5 0), H)
  exact h _ ⟨upI_same _ _ _ _, fun i hi => absurd hi (Nat.not_lt_zero i)⟩ (fun s q => upI_at (.inr q)) (fun a q => upI_cell q)

set_option maxRecDepth 20000 in
theorem s_3_copyOfCode {d : Nat} {P : Option qV → qH → Prop} {X : Nat → qH → Prop} {I : qI} {H : qS} (hd : 1 ≤ d) {c : List Int} (hS : Shp H) (hco : COD I c) (hcl : c.length < 800) (h : ∀ (J : qI) (G : qS), J = nwI I H (fun j => if 0 ≤ j ∧ j < (c.length : Int) then I 75 j else 0) → G = nwS H (c.length : Int) 11 → P (some (vr (some (H.2.2.2 + 3)) 11)) (J, G)) :
    Call d 39 [vr (some 72) 3] (I, H) P X := by
  obtain ⟨d, rfl⟩ : ∃ e, d = e + 1 := ⟨d - 1, by omega⟩
  show WP (Call d) 39 P X (0, [some (vr (some 72) 3)], [], (I, H), 0, 0)
  obtain ⟨k, hk⟩ : ∃ k : Int, k = (c.length : Int) := ⟨_, rfl⟩
  have hmx : mx 0 (I 72 5) = k := by rw [hco.1, ← hk]; have := mx_b 0 k; omega
  have hl := hS.l75
  refine WP.go 6 (And.intro rfl (Exists.intro 75 (And.intro hS.r72_4 (And.intro rfl (And.intro (And.intro (Nat.le_of_ble_eq_true rfl) (Nat.le_of_ble_eq_true rfl)) ?_)))))
  show WP (Call d) 39 P X (6, [some (vr (some 72) 3)], [vi (mx 0 (I 72 5)), vr (some 75) 11], (I, H), 0, 0)
  refine rw_i (Q := fun x9 => WP (Call d) 39 P X (6, [some (vr (some 72) 3)], [vi x9, vr (some 75) 11], (I, H), 0, 0)) hmx ?_
  refine WP.go 1 (And.intro (And.intro (And.intro (by omega) (And.intro (show k < H.2.1 75 by omega) (by omega))) (And.intro (Nat.le_of_ble_eq_true rfl) (Nat.le_of_ble_eq_true rfl))) ?_)
  show WP (Call d) 39 P X (7, [some (vr (some 72) 3)], [vr (some (H.2.2.2 + 3)) 11], (nwI I H (fun j => if 0 ≤ j ∧ j < k then I 75 j else 0), nwS H k 11), 1, 900)
  refine WP.go 1 (And.intro (And.intro (Nat.le_of_ble_eq_true rfl) (Nat.le_of_ble_eq_true rfl)) ?_)
  show P (some (vr (some (H.2.2.2 + 3)) 11)) _
  subst hk
  exact h _ _ rfl rfl

theorem s_8_addLease {d : Nat} {P : Option qV → qH → Prop} {X : Nat → qH → Prop} {I : qI} {H : qS} (hd : 1 ≤ d) {cl9 : Nat} {k : Int} (hS : Shp H) (h12 : I 6 12 = k) (hk : 0 ≤ k ∧ k < 6) (h : ∀ (J : qI) (G : qS), J = upI I 6 12 (k + 1) → G = (upR H.1 26 k (some cl9), H.2) → P (some (vi k)) (J, G)) :
    Call d 91 [vr (some 6) 6, vr (some cl9) 11] (I, H) P X := by
  obtain ⟨d, rfl⟩ : ∃ e, d = e + 1 := ⟨d - 1, by omega⟩
  have hl26 := hS.l26
  show WP (Call d) 91 P X (0, [some (vr (some 6) 6), some (vr (some cl9) 11), none], [], (I, H), 0, 0)
  refine WP.go 2 (And.intro rfl (?_))
  refine rw_i (Q := fun x9 => WP (Call d) 91 P X (2, [some (vr (some 6) 6), some (vr (some cl9) 11), none], [vi x9], (I, H), 0, 0)) h12 ?_
  show WP (Call d) 91 P X (2, [some (vr (some 6) 6), some (vr (some cl9) 11), none], [vi k], (I, H), 0, 0)
  refine WP.go 3 (And.intro (fun (b4 : k < 0) => (absurd b4 (by omega))) (fun (b4 : ¬ k < 0) => ?_))
  show WP (Call d) 91 P X (5, [some (vr (some 6) 6), some (vr (some cl9) 11), some (vi k)], [], (I, H), 0, 0)
  refine WP.go 5 (And.intro rfl (Exists.intro 26 (And.intro hS.r6_11 (And.intro (Or.inr rfl) (And.intro (fun (b9 : ¬ k < H.2.1 26) => (absurd b9 (by omega))) (fun (b9 : k < H.2.1 26) => ?_))))))
  show WP (Call d) 91 P X (10, [some (vr (some 6) 6), some (vr (some cl9) 11), some (vi k)], [], (I, H), 0, 0)
  refine WP.go 8 (And.intro rfl (Exists.intro 26 (And.intro hS.r6_11 (And.intro (And.intro (And.intro rfl rfl) (And.intro (show 0 ≤ k from by omega) (show k < H.2.1 26 from by omega))) (And.intro rfl (?_))))))
  refine rw_i (Q := fun x9 => WP (Call d) 91 P X (18, [some (vr (some 6) 6), some (vr (some cl9) 11), some (vi k)], [vi x9, vr (some 6) 6], (I, (upR H.1 26 k (some cl9), H.2)), 0, 0)) h12 ?_
  show WP (Call d) 91 P X (18, [some (vr (some 6) 6), some (vr (some cl9) 11), some (vi k)], [vi k, vr (some 6) 6], (I, (upR H.1 26 k (some cl9), H.2)), 0, 0)
  refine WP.go 5 (Exists.intro (k + 1) (And.intro (wrp_a (by omega) (by omega)) (And.intro (And.intro rfl trivial) (And.intro (And.intro (Nat.le_of_ble_eq_true rfl) (Nat.le_of_ble_eq_true rfl)) (And.intro trivial (?_))))))
  show P (some (vi k)) ((upI I 6 12 (k + 1)), (upR H.1 26 k (some cl9), H.2))
  exact h _ _ rfl rfl

/-- what the reading of a lease leaves alone in the class -/
def CL (I J : qI) (w : Int) : Prop := (∀ a, a < 3 ∨ (5 ≤ a ∧ a < 69) ∨ 90 ≤ a → J a = I a) ∧ (∀ s, s ≠ 11 → J 3 s = I 3 s) ∧ J 3 11 = w ∧ J 4 = fun s => if s = 1 then 0 else I 4 s
/-- a lease was added: its code lies in a new cell -/
def CN (I : qI) (H : qS) (J : qI) (G : qS) (μ : Int → Int) (c : List Int) : Prop := TR 6 J (uLs μ) ∧ (∀ a, a < 3 ∨ a = 5 ∨ (27 ≤ a ∧ a < 69) ∨ (90 ≤ a ∧ a ≠ H.2.2.2 + 3) → J a = I a) ∧ (∀ s, s ≠ 11 → J 3 s = I 3 s) ∧ J 3 11 = -1 ∧ (J 4 = fun s => if s = 1 then 0 else I 4 s) ∧ (∀ i : Nat, i < c.length → J (H.2.2.2 + 3) (i : Int) = c.getD i 0) ∧
  G.1 26 (μ 3) = some (H.2.2.2 + 3) ∧ (∀ a z, a ≠ H.2.2.2 + 3 → a ≠ 26 ∨ z ≠ μ 3 → G.1 a z = H.1 a z) ∧ (∀ a, a ≠ H.2.2.2 + 3 → G.2.1 a = H.2.1 a) ∧ G.2.1 (H.2.2.2 + 3) = (c.length : Int) ∧ G.2.2.2 = H.2.2.2 + 1 ∧ Shp G
set_option maxRecDepth 20000 in
theorem s_11_lease {d : Nat} {P : Option qV → qH → Prop} {X : Nat → qH → Prop} {I : qI} {H : qS} {μ : Int → Int} (hd : 43 ≤ d) {tb : Int → Int} {n : Int} (hS : Shp H) (hT : TR 6 I μ) (hV : IM μ) (hsz : I 4 1 = n) (hnn : 0 ≤ n ∧ n ≤ 400) (hby : ∀ j, 0 ≤ j → j < n → 0 ≤ I 5 j ∧ I 5 j ≤ 255) (hag : ∀ j, 0 ≤ j → j < n → I 5 j = tb j) (hy0 : ¬ (lnT tb n (lln tb n) ls0).1 = -1 → ∀ J : qI, CL I J (lnT tb n (lln tb n) ls0).1 → X 0 (J, H)) (hy2 : (lnT tb n (lln tb n) ls0).1 = -1 → ¬ μ 3 < 6 → ∀ J : qI, CL I J (-1) → X 2 (J, H)) (h : (lnT tb n (lln tb n) ls0).1 = -1 → μ 3 < 6 → ∀ (J : qI) (G : qS), CN I H J G μ (lnT tb n (lln tb n) ls0).2.1 → P (some (vi (μ 3))) (J, G)) :
    Call d 119 [vr (some 3) 9] (I, H) P X := by
  obtain ⟨d, rfl⟩ : ∃ e, d = e + 1 := ⟨d - 1, by omega⟩
  have hn3 := hV.n3
  have hlg := lnT_lg (tb := tb) (n := n) hnn
  have hlen := hlg.1
  have hs3 := hS.2.2
  show WP (Call d) 119 P X (0, [some (vr (some 3) 9)], [], (I, H), 0, 0)
  refine WP.go 5 (And.intro rfl (Exists.intro 72 (And.intro hS.r3_2 (And.intro rfl (Exists.intro 4 (And.intro hS.r3_0 (And.intro (And.intro (Nat.le_of_ble_eq_true rfl) (Nat.le_of_ble_eq_true rfl)) (And.intro rfl (?_)))))))))
  show Call d 70 [vr (some 72) 3, vr (some 4) 5] (I, H) _ _
  refine s_7_takeFrom_T72 (by omega) hS hsz hnn hby (fun J4 e4 f4 g4 k4 => ?_)
  show WP (Call d) 119 P X (5, [some (vr (some 3) 9)], [], (J4, H), 0, 0)
  have hK_1 : TOK J4 72 tb n := TOK.cg e4 hag
  refine WP.go 3 (And.intro rfl (Exists.intro 72 (And.intro hS.r3_2 (And.intro (And.intro (Nat.le_of_ble_eq_true rfl) (Nat.le_of_ble_eq_true rfl)) (And.intro rfl (?_))))))
  show Call d 38 [vr (some 72) 3] (J4, H) _ _
  refine s_3_beginAnew (by omega) hS (fun J7 e7 f7 g7 => ?_)
  show WP (Call d) 119 P X (8, [some (vr (some 3) 9)], [], (J7, H), 0, 0)
  have hK_2 : TOK J7 72 tb n := hK_1.fr (f7 2 (by omega)) (g7 73 (by omega)) (g7 74 (by omega))
  have hco_3 : COD J7 [] := e7
  refine WP.go 4 (And.intro rfl (Exists.intro 72 (And.intro hS.r3_2 (And.intro (And.intro (Nat.le_of_ble_eq_true rfl) (Nat.le_of_ble_eq_true rfl)) (And.intro rfl (?_))))))
  show Call d 78 [vr (some 72) 3] (J7, H) _ _
  refine s_7_wrongIn_T72 (by omega) hS hK_2 hco_3 (by omega) (fun J11 e11 f11 => ?_)
  show WP (Call d) 119 P X (12, [some (vr (some 3) 9)], [vi ((lnT tb n (lln tb n) ls0).1), vr (some 3) 9], (J11, H), 0, 0)
  refine WP.go 1 (And.intro (And.intro rfl trivial) (?_))
  show WP (Call d) 119 P X (13, [some (vr (some 3) 9)], [], ((upI J11 3 11 ((lnT tb n (lln tb n) ls0).1)), H), 0, 0)
  generalize hq_J1 : (upI J11 3 11 ((lnT tb n (lln tb n) ls0).1)) = J1
  have e_J1 : J1 3 = (fun j => if j = 11 then ((lnT tb n (lln tb n) ls0).1) else J11 3 j) := by rw [← hq_J1]; exact upI_self _ _ _ _
  have f_J1 : ∀ a, a ≠ 3 → J1 a = J11 a := fun a q => by rw [← hq_J1]; exact upI_cell q
  have hcl1 : CL I J1 (lnT tb n (lln tb n) ls0).1 := ⟨fun a q => by rw [f_J1 a (by omega), f11.2 a (by omega) (by omega), g7 a (by omega), f4 a (by omega) (by omega) (by omega) (by omega)], fun s q => by rw [e_J1]; refine (if_neg q).trans ?_; rw [f11.2 3 (by omega) (by omega), g7 3 (by omega), f4 3 (by omega) (by omega) (by omega) (by omega)], by rw [e_J1]; exact if_pos rfl, by rw [f_J1 4 (by omega), f11.2 4 (by omega) (by omega), g7 4 (by omega)]; exact g4⟩
  have h121 : J1 6 12 = μ 3 := by rw [hcl1.1 6 (by omega)]; exact hT.lc
  refine WP.go 2 (And.intro (And.intro (Nat.le_of_ble_eq_true rfl) (Nat.le_of_ble_eq_true rfl)) (And.intro rfl (?_)))
  show Call d 173 [vr (some 3) 9] (J1, H) _ _
  refine s_11_needRightText (by omega)  (fun q14 => ?_) (fun q9 => hy0 (fun z => q9 (by rw [e_J1]; exact z)) _ hcl1)
  show WP (Call d) 119 P X (15, [some (vr (some 3) 9)], [], (J1, H), 1, 6)
  have hu1 : (lnT tb n (lln tb n) ls0).1 = -1 := by have w := q14; rw [e_J1] at w; exact w
  have hcl2 : CL I J1 (-1) := by rw [← hu1]; exact hcl1
  have hx2 : ¬ μ 3 < 6 → X 2 (J1, H) := fun q => hy2 hu1 q _ hcl2
  have hco1 : COD J1 (lnT tb n (lln tb n) ls0).2.1 := (e11 hu1).fr (by rw [f_J1 72 (by omega)]) (f_J1 75 (by omega))
  refine WP.go 3 (And.intro rfl (Exists.intro 6 (And.intro hS.r3_4 (And.intro rfl (?_)))))
  refine rw_i (Q := fun x9 => WP (Call d) 119 P X (18, [some (vr (some 3) 9)], [vi x9], (J1, H), 1, 6)) h121 ?_
  show WP (Call d) 119 P X (18, [some (vr (some 3) 9)], [vi (μ 3)], (J1, H), 1, 6)
  refine WP.go 2 (And.intro (fun (b19 : ¬ μ 3 < 6) => ?_) (fun (b19 : μ 3 < 6) => ?_))
  ·
    show WP (Call d) 119 P X (22, [some (vr (some 3) 9)], [], (J1, H), 1, 6)
    refine WP.go 2 (And.intro (And.intro (Nat.le_of_ble_eq_true rfl) (Nat.le_of_ble_eq_true rfl)) (And.intro rfl (?_)))
    show Call d 174 [vi 0] (J1, H) _ _
    exact s_11_needRoom_v (by omega) (fun q9 => absurd rfl q9) (fun _ => hx2 (by omega))
  ·
    show WP (Call d) 119 P X (20, [some (vr (some 3) 9)], [], (J1, H), 1, 6)
    refine WP.go 3 (And.intro (And.intro (Nat.le_of_ble_eq_true rfl) (Nat.le_of_ble_eq_true rfl)) (And.intro rfl (?_)))
    show Call d 174 [vi 1] (J1, H) _ _
    refine s_11_needRoom_v (by omega)  (fun q23_1 => ?_) (fun q9 => absurd q9 (by omega))
    show WP (Call d) 119 P X (24, [some (vr (some 3) 9)], [], (J1, H), 2, 12)
    refine WP.go 5 (And.intro rfl (Exists.intro 6 (And.intro hS.r3_4 (And.intro rfl (Exists.intro 72 (And.intro hS.r3_2 (And.intro (And.intro (Nat.le_of_ble_eq_true rfl) (Nat.le_of_ble_eq_true rfl)) (And.intro rfl (?_)))))))))
    show Call d 39 [vr (some 72) 3] (J1, H) _ _
    refine s_3_copyOfCode (by omega) hS hco1 (by (try simp only [List.length_append, List.length_cons, List.length_nil]); omega) (fun J28 G28 e28 f28 => ?_)
    show WP (Call d) 119 P X (29, [some (vr (some 3) 9)], [vr (some (H.2.2.2 + 3)) 11, vr (some 6) 6], (J28, G28), 3, 912)
    have hS_4 : Shp G28 := by rw [f28]; exact hS.nw _ _
    have h12n : J28 6 12 = μ 3 := by rw [e28]; show (if (6 : Nat) = H.2.2.2 + 3 then _ else J1 6) 12 = _; rw [if_neg (by omega)]; exact h121
    refine WP.go 1 (And.intro (And.intro (Nat.le_of_ble_eq_true rfl) (Nat.le_of_ble_eq_true rfl)) (And.intro rfl (?_)))
    show Call d 91 [vr (some 6) 6, vr (some (H.2.2.2 + 3)) 11] (J28, G28) _ _
    refine s_8_addLease (k := (μ 3)) (by omega) hS_4 h12n (by omega) (fun J29 G29 e29 f29 => ?_)
    show WP (Call d) 119 P X (30, [some (vr (some 3) 9)], [vi (μ 3)], (J29, G29), 3, 912)
    refine WP.go 1 (And.intro (And.intro (Nat.le_of_ble_eq_true rfl) (Nat.le_of_ble_eq_true rfl)) (And.intro trivial (?_)))
    show P (some (vi (μ 3))) (J29, G29)
    have nJ : ∀ a, a ≠ H.2.2.2 + 3 → J28 a = J1 a := fun a q => by rw [e28]; exact if_neg q
    have nR : ∀ a, a ≠ H.2.2.2 + 3 → G28.1 a = H.1 a := fun a q => by rw [f28]; exact if_neg q
    have nL : ∀ a, a ≠ H.2.2.2 + 3 → G28.2.1 a = H.2.1 a := fun a q => by rw [f28]; exact if_neg q
    refine h hu1 (by omega) _ _ ⟨?_, fun a q => ?_, fun s q => ?_, ?_, ?_, fun i hi => ?_, ?_, fun a z q1 q2 => ?_, fun a q => ?_, ?_, ?_, ?_⟩
    · rw [e29]
      refine TR_uLs hT hV ?_ (fun a q1 q2 => ?_)
      · rw [upI_self, nJ 6 (by omega), hcl1.1 6 (by omega)]
      · rw [upI_cell (by omega), nJ a (by omega), hcl1.1 a (by omega)]
    · rw [e29, upI_cell (by omega), nJ a (by omega), hcl1.1 a (by omega)]
    · rw [e29, upI_cell (by omega), nJ 3 (by omega)]; exact hcl1.2.1 s q
    · rw [e29, upI_cell (by omega), nJ 3 (by omega)]; exact hcl2.2.2.1
    · rw [e29, upI_cell (by omega), nJ 4 (by omega)]; exact hcl1.2.2.2
    · rw [e29, upI_cell (by omega), e28]
      show (if H.2.2.2 + 3 = H.2.2.2 + 3 then (fun j : Int => if 0 ≤ j ∧ j < (((lnT tb n (lln tb n) ls0).2.1).length : Int) then J1 75 j else 0) else J1 (H.2.2.2 + 3)) (i : Int) = _
      rw [if_pos rfl]
      show (if 0 ≤ (i : Int) ∧ (i : Int) < (((lnT tb n (lln tb n) ls0).2.1).length : Int) then J1 75 (i : Int) else 0) = _
      rw [if_pos (by omega)]
      exact hco1.2 i hi
    · rw [f29]; exact if_pos ⟨rfl, rfl⟩
    · rw [f29]
      refine (if_neg (fun w => ?_)).trans (by rw [nR a q1])
      omega
    · rw [f29]; exact nL a q
    · rw [f29, f28]; exact if_pos rfl
    · rw [f29, f28]; rfl
    · rw [f29]; exact hS_4.up (fun a z w1 _ _ => if_neg (fun w => w1 w.1)) rfl

