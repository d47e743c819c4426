def uHou (μ : Int → Int) (c h : Int) : Int → Int := st (st (st (st (st (st μ (120 + 2 * μ 1) c) (121 + 2 * μ 1) h) (200 + μ 1) (μ 1)) (210 + 2 * μ 1) 0) (211 + 2 * μ 1) 99) 1 (1 + μ 1)
def uWin (μ : Int → Int) (a d u : Int) : Int → Int := st (st (st (st μ (140 + 3 * μ 2) a) (141 + 3 * μ 2) d) (142 + 3 * μ 2) u) 2 (1 + μ 2)
def uDia (μ : Int → Int) (i v : Int) : Int → Int := st μ (9 + i) v
def uWnd (μ : Int → Int) (a b v : Int) : Int → Int := fun j => if 20 + a ≤ j ∧ j < 20 + b then v else μ j
theorem uHou_o (μ : Int → Int) (c h : Int) (h1 : 0 ≤ μ 1 ∧ μ 1 < 10) : ∀ j, j ≠ 1 ∧ j ≠ 120 + 2 * μ 1 ∧ j ≠ 121 + 2 * μ 1 ∧ j ≠ 200 + μ 1 ∧ j ≠ 210 + 2 * μ 1 ∧ j ≠ 211 + 2 * μ 1 → uHou μ c h j = μ j := fun j q => (st_n (by omega)).trans ((st_n (by omega)).trans ((st_n (by omega)).trans ((st_n (by omega)).trans ((st_n (by omega)).trans ((st_n (by omega)))))))
theorem uHou_1 (μ : Int → Int) (c h : Int) : uHou μ c h 1 = 1 + μ 1 := st_e _ _ _
theorem uHou_c (μ : Int → Int) (c h : Int) (h1 : 0 ≤ μ 1 ∧ μ 1 < 10) : uHou μ c h (120 + 2 * μ 1) = c := (st_n (by omega)).trans ((st_n (by omega)).trans ((st_n (by omega)).trans ((st_n (by omega)).trans ((st_n (by omega)).trans ((st_e _ _ _))))))
theorem uHou_h (μ : Int → Int) (c h : Int) (h1 : 0 ≤ μ 1 ∧ μ 1 < 10) : uHou μ c h (121 + 2 * μ 1) = h := (st_n (by omega)).trans ((st_n (by omega)).trans ((st_n (by omega)).trans ((st_n (by omega)).trans ((st_e _ _ _)))))
theorem uHou_l (μ : Int → Int) (c h : Int) (h1 : 0 ≤ μ 1 ∧ μ 1 < 10) : uHou μ c h (200 + μ 1) = μ 1 := (st_n (by omega)).trans ((st_n (by omega)).trans ((st_n (by omega)).trans ((st_e _ _ _))))
theorem uHou_a (μ : Int → Int) (c h : Int) (h1 : 0 ≤ μ 1 ∧ μ 1 < 10) : uHou μ c h (210 + 2 * μ 1) = 0 := (st_n (by omega)).trans ((st_n (by omega)).trans ((st_e _ _ _)))
theorem uHou_b (μ : Int → Int) (c h : Int) (h1 : 0 ≤ μ 1 ∧ μ 1 < 10) : uHou μ c h (211 + 2 * μ 1) = 99 := (st_n (by omega)).trans ((st_e _ _ _))
theorem uWin_o (μ : Int → Int) (a d u : Int) (h2 : 0 ≤ μ 2 ∧ μ 2 < 20) : ∀ j, j ≠ 2 ∧ (j < 140 + 3 * μ 2 ∨ 142 + 3 * μ 2 < j) → uWin μ a d u j = μ j := fun j q => (st_n (by omega)).trans ((st_n (by omega)).trans ((st_n (by omega)).trans ((st_n (by omega)))))
theorem uWin_2 (μ : Int → Int) (a d u : Int) : uWin μ a d u 2 = 1 + μ 2 := st_e _ _ _
theorem uWin_a (μ : Int → Int) (a d u : Int) (h2 : 0 ≤ μ 2 ∧ μ 2 < 20) : uWin μ a d u (140 + 3 * μ 2) = a := (st_n (by omega)).trans ((st_n (by omega)).trans ((st_n (by omega)).trans ((st_e _ _ _))))
theorem uWin_d (μ : Int → Int) (a d u : Int) (h2 : 0 ≤ μ 2 ∧ μ 2 < 20) : uWin μ a d u (141 + 3 * μ 2) = d := (st_n (by omega)).trans ((st_n (by omega)).trans ((st_e _ _ _)))
theorem uWin_u (μ : Int → Int) (a d u : Int) (h2 : 0 ≤ μ 2 ∧ μ 2 < 20) : uWin μ a d u (142 + 3 * μ 2) = u := (st_n (by omega)).trans ((st_e _ _ _))
theorem uDia_o (μ : Int → Int) (i v : Int) : ∀ j, j ≠ 9 + i → uDia μ i v j = μ j := fun j q => st_n q
theorem uDia_0 (μ : Int → Int) (i v : Int) : uDia μ i v (9 + i) = v := st_e _ _ _
theorem uWnd_o (μ : Int → Int) (a b v : Int) : ∀ j, j < 20 + a ∨ 20 + b ≤ j → uWnd μ a b v j = μ j := fun j q => if_neg (by omega)
theorem uWnd_0 (μ : Int → Int) (a b v : Int) {y : Int} (h0 : a ≤ y) (h1 : y < b) : uWnd μ a b v (20 + y) = v := if_pos (by omega)
theorem TR_uHou {I J : qI} {μ : Int → Int} {c h : Int} (hT : TR 27 I μ) (hV : IM μ) (h1 : μ 1 < 10) (e1 : J 28 = fun s => if s = 3 then μ 1 + 1 else I 28 s) (f1 : J 29 = fun j => if j = μ 1 * 2 + 1 then h else (if j = μ 1 * 2 + 0 then c else I 29 j)) (e5 : J 32 = fun s => if s = 3 then μ 1 + 1 else I 32 s) (f5 : J 33 = fun j => if j = μ 1 * 3 + 2 then μ 1 else (if j = μ 1 * 3 + 1 then 99 else (if j = μ 1 * 3 + 0 then 0 else I 33 j))) (F : ∀ a, a ≠ 28 → a ≠ 29 → a ≠ 32 → a ≠ 33 → J a = I a) : TR 27 J (uHou μ c h) := by
  have hn1 := hV.n1
  have hn2 := hV.n2
  have hn3 := hV.n3
  have hn4 := hV.n4
  have hn5 := hV.n5
  have hn6 := hV.n6
  have hn7 := hV.n7
  have hn8 := hV.n8
  have hh1 : 0 ≤ μ 1 ∧ μ 1 < 10 := by omega
  have hE := uHou_o μ c h hh1
  have V1 := uHou_1 μ c h
  have VC := uHou_c μ c h hh1
  have VH := uHou_h μ c h hh1
  have VL := uHou_l μ c h hh1
  have VA := uHou_a μ c h hh1
  have VB := uHou_b μ c h hh1
  exact ⟨⟨(by rw [e1]; exact hT.c.a1), (by rw [e1]; exact hT.c.b1), (congrFun (F 30 (by omega) (by omega) (by omega) (by omega)) 0).trans hT.c.a3, (congrFun (F 30 (by omega) (by omega) (by omega) (by omega)) 1).trans hT.c.b3, (by rw [e5]; exact hT.c.a5), (by rw [e5]; exact hT.c.b5), (congrFun (F 34 (by omega) (by omega) (by omega) (by omega)) 0).trans hT.c.a7, (congrFun (F 34 (by omega) (by omega) (by omega) (by omega)) 1).trans hT.c.b7, (congrFun (F 36 (by omega) (by omega) (by omega) (by omega)) 0).trans hT.c.a9, (congrFun (F 36 (by omega) (by omega) (by omega) (by omega)) 1).trans hT.c.b9, (congrFun (F 38 (by omega) (by omega) (by omega) (by omega)) 0).trans hT.c.a11, (congrFun (F 38 (by omega) (by omega) (by omega) (by omega)) 1).trans hT.c.b11, (congrFun (F 40 (by omega) (by omega) (by omega) (by omega)) 0).trans hT.c.a13, (congrFun (F 40 (by omega) (by omega) (by omega) (by omega)) 1).trans hT.c.b13, (congrFun (F 42 (by omega) (by omega) (by omega) (by omega)) 0).trans hT.c.a15, (congrFun (F 42 (by omega) (by omega) (by omega) (by omega)) 1).trans hT.c.b15⟩,
  by rw [e1, V1]; show μ 1 + 1 = 1 + μ 1; omega,
  (congrFun (F 30 (by omega) (by omega) (by omega) (by omega)) 3).trans (hT.r3.trans (hE 2 (by omega)).symm),
  by rw [e5, V1]; show μ 1 + 1 = 1 + μ 1; omega,
  (congrFun (F 34 (by omega) (by omega) (by omega) (by omega)) 3).trans (hT.r7.trans (hE 4 (by omega)).symm),
  (congrFun (F 36 (by omega) (by omega) (by omega) (by omega)) 3).trans (hT.r9.trans (hE 5 (by omega)).symm),
  (congrFun (F 38 (by omega) (by omega) (by omega) (by omega)) 3).trans (hT.r11.trans (hE 6 (by omega)).symm),
  (congrFun (F 40 (by omega) (by omega) (by omega) (by omega)) 3).trans (hT.r13.trans (hE 7 (by omega)).symm),
  (congrFun (F 42 (by omega) (by omega) (by omega) (by omega)) 3).trans (hT.r15.trans (hE 8 (by omega)).symm),
  (congrFun (F 27 (by omega) (by omega) (by omega) (by omega)) 12).trans (hT.lc.trans (hE 3 (by omega)).symm),
  (congrFun (F 27 (by omega) (by omega) (by omega) (by omega)) 13).trans (hT.tx.trans (hE 0 (by omega)).symm),
  fun r q0 q1 => by
    rw [V1] at q1
    by_cases z : r = μ 1
    · rw [z, f1]; exact ⟨by rw [VC]; exact (if_neg (by omega)).trans ((if_pos (by omega))), by rw [VH]; exact if_pos rfl⟩
    · rw [f1]; exact ⟨by rw [hE (120 + 2 * r) (by omega)]; exact (if_neg (by omega)).trans ((if_neg (by omega)).trans ((hT.q1 r q0 (by omega)).1)), by rw [hE (121 + 2 * r) (by omega)]; exact (if_neg (by omega)).trans ((if_neg (by omega)).trans ((hT.q1 r q0 (by omega)).2))⟩,
  fun r q0 q1 => by
    rw [hE 2 (by omega)] at q1
    rw [(F 31 (by omega) (by omega) (by omega) (by omega)), hE (140 + 3 * r) (by omega), hE (141 + 3 * r) (by omega), hE (142 + 3 * r) (by omega)]
    exact hT.q3 r q0 q1,
  fun r q0 q1 => by
    rw [V1] at q1
    by_cases z : r = μ 1
    · rw [z, f5]; exact ⟨by rw [VA]; exact (if_neg (by omega)).trans ((if_neg (by omega)).trans ((if_pos (by omega)))), by rw [VB]; exact (if_neg (by omega)).trans ((if_pos (by omega))), by rw [VL]; exact if_pos rfl⟩
    · rw [f5]; exact ⟨by rw [hE (210 + 2 * r) (by omega)]; exact (if_neg (by omega)).trans ((if_neg (by omega)).trans ((if_neg (by omega)).trans ((hT.q5 r q0 (by omega)).1))), by rw [hE (211 + 2 * r) (by omega)]; exact (if_neg (by omega)).trans ((if_neg (by omega)).trans ((if_neg (by omega)).trans ((hT.q5 r q0 (by omega)).2.1))), by rw [hE (200 + r) (by omega)]; exact (if_neg (by omega)).trans ((if_neg (by omega)).trans ((if_neg (by omega)).trans ((hT.q5 r q0 (by omega)).2.2)))⟩,
  fun r q0 q1 => by
    rw [hE 4 (by omega)] at q1
    rw [(F 35 (by omega) (by omega) (by omega) (by omega)), hE (332 + 4 * r) (by omega), hE (333 + 4 * r) (by omega), hE (331 + 4 * r) (by omega), hE (330 + 4 * r) (by omega)]
    exact hT.q7 r q0 q1,
  fun r q0 q1 => by
    rw [hE 5 (by omega)] at q1
    rw [(F 37 (by omega) (by omega) (by omega) (by omega)), hE (395 + 3 * r) (by omega), hE (396 + 3 * r) (by omega), hE (394 + 3 * r) (by omega)]
    exact hT.q9 r q0 q1,
  fun r q0 q1 => by
    rw [hE 6 (by omega)] at q1
    rw [(F 39 (by omega) (by omega) (by omega) (by omega)), hE (442 + 2 * r) (by omega), hE (443 + 2 * r) (by omega)]
    exact hT.q11 r q0 q1,
  fun r q0 q1 => by
    rw [hE 7 (by omega)] at q1
    rw [(F 41 (by omega) (by omega) (by omega) (by omega)), hE (458 + 3 * r) (by omega), hE (459 + 3 * r) (by omega), hE (460 + 3 * r) (by omega)]
    exact hT.q13 r q0 q1,
  fun r q0 q1 => by
    rw [hE 8 (by omega)] at q1
    rw [(F 43 (by omega) (by omega) (by omega) (by omega)), hE (506 + 2 * r) (by omega), hE (507 + 2 * r) (by omega)]
    exact hT.q15 r q0 q1,
  fun i q0 q1 => by rw [(F 44 (by omega) (by omega) (by omega) (by omega)), hE (9 + i) (by omega)]; exact hT.di i q0 q1,
  fun y q0 q1 => by rw [(F 45 (by omega) (by omega) (by omega) (by omega)), hE (20 + y) (by omega)]; exact hT.wi y q0 q1,
  fun y q0 q1 => by rw [(F 46 (by omega) (by omega) (by omega) (by omega)), hE (230 + y) (by omega)]; exact hT.ro y q0 q1⟩
theorem IM_uHou {μ : Int → Int} {c h : Int} (hV : IM μ) (h1 : μ 1 < 10) (hc : 0 ≤ c ∧ c ≤ 80) (hh : 1 ≤ h ∧ h ≤ 30) (hf : ∀ i, 0 ≤ i → i < μ 1 → μ (120 + 2 * i) ≠ c) : IM (uHou μ c h) := by
  have hn1 := hV.n1
  have hn2 := hV.n2
  have hn3 := hV.n3
  have hn4 := hV.n4
  have hn5 := hV.n5
  have hn6 := hV.n6
  have hn7 := hV.n7
  have hn8 := hV.n8
  have hh1 : 0 ≤ μ 1 ∧ μ 1 < 10 := by omega
  have hE := uHou_o μ c h hh1
  have V1 := uHou_1 μ c h
  have VC := uHou_c μ c h hh1
  have VH := uHou_h μ c h hh1
  have VL := uHou_l μ c h hh1
  have VA := uHou_a μ c h hh1
  have VB := uHou_b μ c h hh1
  have hb0 : bsum μ (μ 1) (μ 8) = 0 := sI_0 (fun i q0 q1 => if_neg (by have := hV.bh i q0 q1; omega))
  exact ⟨by rw [hE 0 (by omega)]; exact hV.n0,
  by rw [V1]; omega,
  by rw [hE 2 (by omega)]; exact hV.n2,
  by rw [hE 3 (by omega)]; exact hV.n3,
  by rw [hE 4 (by omega)]; exact hV.n4,
  by rw [hE 5 (by omega)]; exact hV.n5,
  by rw [hE 6 (by omega)]; exact hV.n6,
  by rw [hE 7 (by omega)]; exact hV.n7,
  by rw [hE 8 (by omega)]; exact hV.n8,
  by rw [hE 9 (by omega)]; exact hV.st,
  by rw [hE 10 (by omega)]; exact hV.ra,
  by rw [hE 11 (by omega)]; exact hV.ba,
  by rw [hE 12 (by omega)]; exact hV.se,
  by rw [hE 13 (by omega)]; exact hV.gu,
  fun y q0 q1 => by rw [hE (20 + y) (by omega)]; exact hV.wi y q0 q1,
  fun y q0 q1 => by rw [hE (230 + y) (by omega)]; exact hV.ro y q0 q1,
  fun r q0 q1 => by
    rw [V1] at q1
    by_cases z : r = μ 1
    · rw [z, VC]; exact hc
    · rw [hE (120 + 2 * r) (by omega)]; exact hV.hc r q0 (by omega),
  fun r q0 q1 => by
    rw [V1] at q1
    by_cases z : r = μ 1
    · rw [z, VH]; exact hh
    · rw [hE (121 + 2 * r) (by omega)]; exact hV.hh r q0 (by omega),
  fun r k q0 q1 q2 q3 q4 => by
    rw [V1] at q1 q3
    by_cases z : r = μ 1
    · by_cases w : k = μ 1
      · omega
      · rw [z, VC, hE (120 + 2 * k) (by omega)] at q4; exact absurd q4.symm (hf k q2 (by omega))
    · by_cases w : k = μ 1
      · rw [w, VC, hE (120 + 2 * r) (by omega)] at q4; exact absurd q4 (hf r q0 (by omega))
      · rw [hE (120 + 2 * r) (by omega), hE (120 + 2 * k) (by omega)] at q4; exact hV.hd r k q0 (by omega) q2 (by omega) q4,
  fun w q0 q1 => by
    rw [hE 2 (by omega)] at q1
    rw [hE (140 + 3 * w) (by omega), V1]
    have := hV.wh w q0 q1
    omega,
  fun w q0 q1 => by
    rw [hE 2 (by omega)] at q1
    rw [hE (141 + 3 * w) (by omega)]
    exact hV.wf w q0 q1,
  fun w q0 q1 => by
    rw [hE 2 (by omega)] at q1
    rw [hE (142 + 3 * w) (by omega)]
    exact hV.wu w q0 q1,
  fun r q0 q1 => by
    rw [V1] at q1 ⊢
    by_cases z : r = μ 1
    · rw [z, VL]; omega
    · rw [hE (200 + r) (by omega)]; have := hV.li r q0 (by omega); omega,
  fun r k q0 q1 q2 q3 q4 => by
    rw [V1] at q1 q3
    by_cases z : r = μ 1
    · by_cases w : k = μ 1
      · omega
      · rw [z, VL, hE (200 + k) (by omega)] at q4; have := hV.li k q2 (by omega); omega
    · by_cases w : k = μ 1
      · rw [w, VL, hE (200 + r) (by omega)] at q4; have := hV.li r q0 (by omega); omega
      · rw [hE (200 + r) (by omega), hE (200 + k) (by omega)] at q4; exact hV.lj r k q0 (by omega) q2 (by omega) q4,
  fun r q0 q1 => by
    rw [V1] at q1
    by_cases z : r = μ 1
    · rw [z, VA, VB]; omega
    · rw [hE (210 + 2 * r) (by omega), hE (211 + 2 * r) (by omega)]; exact hV.wa r q0 (by omega),
  fun l q0 q1 => by
    rw [hE 4 (by omega)] at q1
    rw [hE (330 + 4 * l) (by omega), hE (3) (by omega)]
    exact hV.le l q0 q1,
  fun r q0 q1 => by
    rw [hE 4 (by omega)] at q1
    rw [hE (331 + 4 * r) (by omega), V1]
    have := hV.lh r q0 q1
    omega,
  fun l q0 q1 => by
    rw [hE 4 (by omega)] at q1
    rw [hE (332 + 4 * l) (by omega), hE (333 + 4 * l) (by omega)]
    exact hV.ly l q0 q1,
  fun p q0 q1 => by
    rw [hE 5 (by omega)] at q1
    rw [hE (394 + 3 * p) (by omega), hE (2) (by omega)]
    exact hV.pw p q0 q1,
  fun p q0 q1 => by
    rw [hE 5 (by omega)] at q1
    rw [hE (395 + 3 * p) (by omega), hE (396 + 3 * p) (by omega)]
    exact hV.py p q0 q1,
  fun d q0 q1 => by
    rw [hE 6 (by omega)] at q1
    rw [hE (442 + 2 * d) (by omega)]
    exact hV.da d q0 q1,
  fun d q0 q1 => by
    rw [hE 6 (by omega)] at q1
    rw [hE (443 + 2 * d) (by omega)]
    exact hV.db d q0 q1,
  fun p q0 q1 => by
    rw [hE 7 (by omega)] at q1
    rw [hE (458 + 3 * p) (by omega), hE (2) (by omega)]
    exact hV.pp p q0 q1,
  fun p q0 q1 => by
    rw [hE 7 (by omega)] at q1
    rw [hE (459 + 3 * p) (by omega)]
    exact hV.ph p q0 q1,
  fun p q0 q1 => by
    rw [hE 7 (by omega)] at q1
    rw [hE (460 + 3 * p) (by omega)]
    exact hV.pl p q0 q1,
  fun r q0 q1 => by
    rw [hE 8 (by omega)] at q1
    rw [hE (506 + 2 * r) (by omega), V1]
    have := hV.bh r q0 q1
    omega,
  fun b q0 q1 => by
    rw [hE 8 (by omega)] at q1
    rw [hE (507 + 2 * b) (by omega)]
    exact hV.bm b q0 q1,
  fun r q0 q1 => by
    rw [V1] at q1
    rw [hE 8 (by omega), bsum_c (fun i z0 z1 => ⟨hE (506 + 2 * i) (by omega), hE (507 + 2 * i) (by omega)⟩)]
    by_cases z : r = μ 1
    · rw [z, VH, hb0]; omega
    · rw [hE (121 + 2 * r) (by omega)]; exact hV.bs r q0 (by omega)⟩
theorem TR_uWin {I J : qI} {μ : Int → Int} {a d u : Int} (hT : TR 27 I μ) (hV : IM μ) (h2 : μ 2 < 20) (e3 : J 30 = fun s => if s = 3 then μ 2 + 1 else I 30 s) (f3 : J 31 = fun j => if j = μ 2 * 3 + 2 then u else (if j = μ 2 * 3 + 1 then d else (if j = μ 2 * 3 + 0 then a else I 31 j))) (F : ∀ a, a ≠ 30 → a ≠ 31 → J a = I a) : TR 27 J (uWin μ a d u) := by
  have hn1 := hV.n1
  have hn2 := hV.n2
  have hn3 := hV.n3
  have hn4 := hV.n4
  have hn5 := hV.n5
  have hn6 := hV.n6
  have hn7 := hV.n7
  have hn8 := hV.n8
  have hh2 : 0 ≤ μ 2 ∧ μ 2 < 20 := by omega
  have hE := uWin_o μ a d u hh2
  have V2 := uWin_2 μ a d u
  have VA := uWin_a μ a d u hh2
  have VD := uWin_d μ a d u hh2
  have VU := uWin_u μ a d u hh2
  exact ⟨⟨(congrFun (F 28 (by omega) (by omega)) 0).trans hT.c.a1, (congrFun (F 28 (by omega) (by omega)) 1).trans hT.c.b1, (by rw [e3]; exact hT.c.a3), (by rw [e3]; exact hT.c.b3), (congrFun (F 32 (by omega) (by omega)) 0).trans hT.c.a5, (congrFun (F 32 (by omega) (by omega)) 1).trans hT.c.b5, (congrFun (F 34 (by omega) (by omega)) 0).trans hT.c.a7, (congrFun (F 34 (by omega) (by omega)) 1).trans hT.c.b7, (congrFun (F 36 (by omega) (by omega)) 0).trans hT.c.a9, (congrFun (F 36 (by omega) (by omega)) 1).trans hT.c.b9, (congrFun (F 38 (by omega) (by omega)) 0).trans hT.c.a11, (congrFun (F 38 (by omega) (by omega)) 1).trans hT.c.b11, (congrFun (F 40 (by omega) (by omega)) 0).trans hT.c.a13, (congrFun (F 40 (by omega) (by omega)) 1).trans hT.c.b13, (congrFun (F 42 (by omega) (by omega)) 0).trans hT.c.a15, (congrFun (F 42 (by omega) (by omega)) 1).trans hT.c.b15⟩,
  (congrFun (F 28 (by omega) (by omega)) 3).trans (hT.r1.trans (hE 1 (by omega)).symm),
  by rw [e3, V2]; show μ 2 + 1 = 1 + μ 2; omega,
  (congrFun (F 32 (by omega) (by omega)) 3).trans (hT.r5.trans (hE 1 (by omega)).symm),
  (congrFun (F 34 (by omega) (by omega)) 3).trans (hT.r7.trans (hE 4 (by omega)).symm),
  (congrFun (F 36 (by omega) (by omega)) 3).trans (hT.r9.trans (hE 5 (by omega)).symm),
  (congrFun (F 38 (by omega) (by omega)) 3).trans (hT.r11.trans (hE 6 (by omega)).symm),
  (congrFun (F 40 (by omega) (by omega)) 3).trans (hT.r13.trans (hE 7 (by omega)).symm),
  (congrFun (F 42 (by omega) (by omega)) 3).trans (hT.r15.trans (hE 8 (by omega)).symm),
  (congrFun (F 27 (by omega) (by omega)) 12).trans (hT.lc.trans (hE 3 (by omega)).symm),
  (congrFun (F 27 (by omega) (by omega)) 13).trans (hT.tx.trans (hE 0 (by omega)).symm),
  fun r q0 q1 => by
    rw [hE 1 (by omega)] at q1
    rw [(F 29 (by omega) (by omega)), hE (120 + 2 * r) (by omega), hE (121 + 2 * r) (by omega)]
    exact hT.q1 r q0 q1,
  fun r q0 q1 => by
    rw [V2] at q1
    by_cases z : r = μ 2
    · rw [z, f3]; exact ⟨by rw [VA]; exact (if_neg (by omega)).trans ((if_neg (by omega)).trans ((if_pos (by omega)))), by rw [VD]; exact (if_neg (by omega)).trans ((if_pos (by omega))), by rw [VU]; exact if_pos rfl⟩
    · rw [f3]; exact ⟨by rw [hE (140 + 3 * r) (by omega)]; exact (if_neg (by omega)).trans ((if_neg (by omega)).trans ((if_neg (by omega)).trans ((hT.q3 r q0 (by omega)).1))), by rw [hE (141 + 3 * r) (by omega)]; exact (if_neg (by omega)).trans ((if_neg (by omega)).trans ((if_neg (by omega)).trans ((hT.q3 r q0 (by omega)).2.1))), by rw [hE (142 + 3 * r) (by omega)]; exact (if_neg (by omega)).trans ((if_neg (by omega)).trans ((if_neg (by omega)).trans ((hT.q3 r q0 (by omega)).2.2)))⟩,
  fun r q0 q1 => by
    rw [hE 1 (by omega)] at q1
    rw [(F 33 (by omega) (by omega)), hE (210 + 2 * r) (by omega), hE (211 + 2 * r) (by omega), hE (200 + r) (by omega)]
    exact hT.q5 r q0 q1,
  fun r q0 q1 => by
    rw [hE 4 (by omega)] at q1
    rw [(F 35 (by omega) (by omega)), hE (332 + 4 * r) (by omega), hE (333 + 4 * r) (by omega), hE (331 + 4 * r) (by omega), hE (330 + 4 * r) (by omega)]
    exact hT.q7 r q0 q1,
  fun r q0 q1 => by
    rw [hE 5 (by omega)] at q1
    rw [(F 37 (by omega) (by omega)), hE (395 + 3 * r) (by omega), hE (396 + 3 * r) (by omega), hE (394 + 3 * r) (by omega)]
    exact hT.q9 r q0 q1,
  fun r q0 q1 => by
    rw [hE 6 (by omega)] at q1
    rw [(F 39 (by omega) (by omega)), hE (442 + 2 * r) (by omega), hE (443 + 2 * r) (by omega)]
    exact hT.q11 r q0 q1,
  fun r q0 q1 => by
    rw [hE 7 (by omega)] at q1
    rw [(F 41 (by omega) (by omega)), hE (458 + 3 * r) (by omega), hE (459 + 3 * r) (by omega), hE (460 + 3 * r) (by omega)]
    exact hT.q13 r q0 q1,
  fun r q0 q1 => by
    rw [hE 8 (by omega)] at q1
    rw [(F 43 (by omega) (by omega)), hE (506 + 2 * r) (by omega), hE (507 + 2 * r) (by omega)]
    exact hT.q15 r q0 q1,
  fun i q0 q1 => by rw [(F 44 (by omega) (by omega)), hE (9 + i) (by omega)]; exact hT.di i q0 q1,
  fun y q0 q1 => by rw [(F 45 (by omega) (by omega)), hE (20 + y) (by omega)]; exact hT.wi y q0 q1,
  fun y q0 q1 => by rw [(F 46 (by omega) (by omega)), hE (230 + y) (by omega)]; exact hT.ro y q0 q1⟩
theorem IM_uWin {μ : Int → Int} {a d u : Int} (hV : IM μ) (h2 : μ 2 < 20) (ha : 0 ≤ a ∧ a < μ 1) (hd : 0 ≤ d ∧ d ≤ 7) (hu : 0 ≤ u ∧ u ≤ 29) : IM (uWin μ a d u) := by
  have hn1 := hV.n1
  have hn2 := hV.n2
  have hn3 := hV.n3
  have hn4 := hV.n4
  have hn5 := hV.n5
  have hn6 := hV.n6
  have hn7 := hV.n7
  have hn8 := hV.n8
  have hh2 : 0 ≤ μ 2 ∧ μ 2 < 20 := by omega
  have hE := uWin_o μ a d u hh2
  have V2 := uWin_2 μ a d u
  have VA := uWin_a μ a d u hh2
  have VD := uWin_d μ a d u hh2
  have VU := uWin_u μ a d u hh2
  exact ⟨by rw [hE 0 (by omega)]; exact hV.n0,
  by rw [hE 1 (by omega)]; exact hV.n1,
  by rw [V2]; omega,
  by rw [hE 3 (by omega)]; exact hV.n3,
  by rw [hE 4 (by omega)]; exact hV.n4,
  by rw [hE 5 (by omega)]; exact hV.n5,
  by rw [hE 6 (by omega)]; exact hV.n6,
  by rw [hE 7 (by omega)]; exact hV.n7,
  by rw [hE 8 (by omega)]; exact hV.n8,
  by rw [hE 9 (by omega)]; exact hV.st,
  by rw [hE 10 (by omega)]; exact hV.ra,
  by rw [hE 11 (by omega)]; exact hV.ba,
  by rw [hE 12 (by omega)]; exact hV.se,
  by rw [hE 13 (by omega)]; exact hV.gu,
  fun y q0 q1 => by rw [hE (20 + y) (by omega)]; exact hV.wi y q0 q1,
  fun y q0 q1 => by rw [hE (230 + y) (by omega)]; exact hV.ro y q0 q1,
  fun h q0 q1 => by
    rw [hE 1 (by omega)] at q1
    rw [hE (120 + 2 * h) (by omega)]
    exact hV.hc h q0 q1,
  fun h q0 q1 => by
    rw [hE 1 (by omega)] at q1
    rw [hE (121 + 2 * h) (by omega)]
    exact hV.hh h q0 q1,
  fun h k q0 q1 q2 q3 q4 => by
    rw [hE 1 (by omega)] at q1 q3
    rw [hE (120 + 2 * h) (by omega), hE (120 + 2 * k) (by omega)] at q4
    exact hV.hd h k q0 q1 q2 q3 q4,
  fun r q0 q1 => by
    rw [V2] at q1
    by_cases z : r = μ 2
    · rw [z, VA, hE 1 (by omega)]; exact ha
    · rw [hE (140 + 3 * r) (by omega), hE 1 (by omega)]; exact hV.wh r q0 (by omega),
  fun r q0 q1 => by
    rw [V2] at q1
    by_cases z : r = μ 2
    · rw [z, VD]; exact hd
    · rw [hE (141 + 3 * r) (by omega)]; exact hV.wf r q0 (by omega),
  fun r q0 q1 => by
    rw [V2] at q1
    by_cases z : r = μ 2
    · rw [z, VU]; exact hu
    · rw [hE (142 + 3 * r) (by omega)]; exact hV.wu r q0 (by omega),
  fun f q0 q1 => by
    rw [hE 1 (by omega)] at q1
    rw [hE (200 + f) (by omega), hE (1) (by omega)]
    exact hV.li f q0 q1,
  fun f k q0 q1 q2 q3 q4 => by
    rw [hE 1 (by omega)] at q1 q3
    rw [hE (200 + f) (by omega), hE (200 + k) (by omega)] at q4
    exact hV.lj f k q0 q1 q2 q3 q4,
  fun f q0 q1 => by
    rw [hE 1 (by omega)] at q1
    rw [hE (210 + 2 * f) (by omega), hE (211 + 2 * f) (by omega)]
    exact hV.wa f q0 q1,
  fun l q0 q1 => by
    rw [hE 4 (by omega)] at q1
    rw [hE (330 + 4 * l) (by omega), hE (3) (by omega)]
    exact hV.le l q0 q1,
  fun l q0 q1 => by
    rw [hE 4 (by omega)] at q1
    rw [hE (331 + 4 * l) (by omega), hE (1) (by omega)]
    exact hV.lh l q0 q1,
  fun l q0 q1 => by
    rw [hE 4 (by omega)] at q1
    rw [hE (332 + 4 * l) (by omega), hE (333 + 4 * l) (by omega)]
    exact hV.ly l q0 q1,
  fun r q0 q1 => by
    rw [hE 5 (by omega)] at q1
    rw [hE (394 + 3 * r) (by omega), V2]
    have := hV.pw r q0 q1
    omega,
  fun p q0 q1 => by
    rw [hE 5 (by omega)] at q1
    rw [hE (395 + 3 * p) (by omega), hE (396 + 3 * p) (by omega)]
    exact hV.py p q0 q1,
  fun d q0 q1 => by
    rw [hE 6 (by omega)] at q1
    rw [hE (442 + 2 * d) (by omega)]
    exact hV.da d q0 q1,
  fun d q0 q1 => by
    rw [hE 6 (by omega)] at q1
    rw [hE (443 + 2 * d) (by omega)]
    exact hV.db d q0 q1,
  fun r q0 q1 => by
    rw [hE 7 (by omega)] at q1
    rw [hE (458 + 3 * r) (by omega), V2]
    have := hV.pp r q0 q1
    omega,
  fun p q0 q1 => by
    rw [hE 7 (by omega)] at q1
    rw [hE (459 + 3 * p) (by omega)]
    exact hV.ph p q0 q1,
  fun p q0 q1 => by
    rw [hE 7 (by omega)] at q1
    rw [hE (460 + 3 * p) (by omega)]
    exact hV.pl p q0 q1,
  fun b q0 q1 => by
    rw [hE 8 (by omega)] at q1
    rw [hE (506 + 2 * b) (by omega), hE (1) (by omega)]
    exact hV.bh b q0 q1,
  fun b q0 q1 => by
    rw [hE 8 (by omega)] at q1
    rw [hE (507 + 2 * b) (by omega)]
    exact hV.bm b q0 q1,
  fun h q0 q1 => by
    rw [hE 1 (by omega)] at q1
    rw [hE (121 + 2 * h) (by omega), hE 8 (by omega), bsum_c (fun i z0 z1 => ⟨hE (506 + 2 * i) (by omega), hE (507 + 2 * i) (by omega)⟩)]
    exact hV.bs h q0 q1⟩
theorem TR_uDia {I J : qI} {μ : Int → Int} {i v : Int} (hT : TR 27 I μ) (hV : IM μ) (hi : 0 ≤ i ∧ i < 5) (f : J 44 = fun j => if j = i then v else I 44 j) (F : ∀ a, a ≠ 44 → J a = I a) : TR 27 J (uDia μ i v) := by
  have hn1 := hV.n1
  have hn2 := hV.n2
  have hn3 := hV.n3
  have hn4 := hV.n4
  have hn5 := hV.n5
  have hn6 := hV.n6
  have hn7 := hV.n7
  have hn8 := hV.n8
  have hE := uDia_o μ i v
  exact ⟨⟨(congrFun (F 28 (by omega)) 0).trans hT.c.a1, (congrFun (F 28 (by omega)) 1).trans hT.c.b1, (congrFun (F 30 (by omega)) 0).trans hT.c.a3, (congrFun (F 30 (by omega)) 1).trans hT.c.b3, (congrFun (F 32 (by omega)) 0).trans hT.c.a5, (congrFun (F 32 (by omega)) 1).trans hT.c.b5, (congrFun (F 34 (by omega)) 0).trans hT.c.a7, (congrFun (F 34 (by omega)) 1).trans hT.c.b7, (congrFun (F 36 (by omega)) 0).trans hT.c.a9, (congrFun (F 36 (by omega)) 1).trans hT.c.b9, (congrFun (F 38 (by omega)) 0).trans hT.c.a11, (congrFun (F 38 (by omega)) 1).trans hT.c.b11, (congrFun (F 40 (by omega)) 0).trans hT.c.a13, (congrFun (F 40 (by omega)) 1).trans hT.c.b13, (congrFun (F 42 (by omega)) 0).trans hT.c.a15, (congrFun (F 42 (by omega)) 1).trans hT.c.b15⟩,
  (congrFun (F 28 (by omega)) 3).trans (hT.r1.trans (hE 1 (by omega)).symm),
  (congrFun (F 30 (by omega)) 3).trans (hT.r3.trans (hE 2 (by omega)).symm),
  (congrFun (F 32 (by omega)) 3).trans (hT.r5.trans (hE 1 (by omega)).symm),
  (congrFun (F 34 (by omega)) 3).trans (hT.r7.trans (hE 4 (by omega)).symm),
  (congrFun (F 36 (by omega)) 3).trans (hT.r9.trans (hE 5 (by omega)).symm),
  (congrFun (F 38 (by omega)) 3).trans (hT.r11.trans (hE 6 (by omega)).symm),
  (congrFun (F 40 (by omega)) 3).trans (hT.r13.trans (hE 7 (by omega)).symm),
  (congrFun (F 42 (by omega)) 3).trans (hT.r15.trans (hE 8 (by omega)).symm),
  (congrFun (F 27 (by omega)) 12).trans (hT.lc.trans (hE 3 (by omega)).symm),
  (congrFun (F 27 (by omega)) 13).trans (hT.tx.trans (hE 0 (by omega)).symm),
  fun r q0 q1 => by
    rw [hE 1 (by omega)] at q1
    rw [(F 29 (by omega)), hE (120 + 2 * r) (by omega), hE (121 + 2 * r) (by omega)]
    exact hT.q1 r q0 q1,
  fun r q0 q1 => by
    rw [hE 2 (by omega)] at q1
    rw [(F 31 (by omega)), hE (140 + 3 * r) (by omega), hE (141 + 3 * r) (by omega), hE (142 + 3 * r) (by omega)]
    exact hT.q3 r q0 q1,
  fun r q0 q1 => by
    rw [hE 1 (by omega)] at q1
    rw [(F 33 (by omega)), hE (210 + 2 * r) (by omega), hE (211 + 2 * r) (by omega), hE (200 + r) (by omega)]
    exact hT.q5 r q0 q1,
  fun r q0 q1 => by
    rw [hE 4 (by omega)] at q1
    rw [(F 35 (by omega)), hE (332 + 4 * r) (by omega), hE (333 + 4 * r) (by omega), hE (331 + 4 * r) (by omega), hE (330 + 4 * r) (by omega)]
    exact hT.q7 r q0 q1,
  fun r q0 q1 => by
    rw [hE 5 (by omega)] at q1
    rw [(F 37 (by omega)), hE (395 + 3 * r) (by omega), hE (396 + 3 * r) (by omega), hE (394 + 3 * r) (by omega)]
    exact hT.q9 r q0 q1,
  fun r q0 q1 => by
    rw [hE 6 (by omega)] at q1
    rw [(F 39 (by omega)), hE (442 + 2 * r) (by omega), hE (443 + 2 * r) (by omega)]
    exact hT.q11 r q0 q1,
  fun r q0 q1 => by
    rw [hE 7 (by omega)] at q1
    rw [(F 41 (by omega)), hE (458 + 3 * r) (by omega), hE (459 + 3 * r) (by omega), hE (460 + 3 * r) (by omega)]
    exact hT.q13 r q0 q1,
  fun r q0 q1 => by
    rw [hE 8 (by omega)] at q1
    rw [(F 43 (by omega)), hE (506 + 2 * r) (by omega), hE (507 + 2 * r) (by omega)]
    exact hT.q15 r q0 q1,
  fun z q0 q1 => by
    by_cases w : z = i
    · rw [w, f, uDia_0]; exact if_pos rfl
    · rw [hE (9 + z) (by omega), f]; exact (if_neg w).trans (hT.di z q0 q1),
  fun y q0 q1 => by rw [(F 45 (by omega)), hE (20 + y) (by omega)]; exact hT.wi y q0 q1,
  fun y q0 q1 => by rw [(F 46 (by omega)), hE (230 + y) (by omega)]; exact hT.ro y q0 q1⟩
theorem IM_uDia {μ : Int → Int} {i v : Int} (hV : IM μ) (hi : 0 ≤ i ∧ i < 5) (hv : 0 ≤ v ∧ v < 96) (hr : i = 1 → v ≤ 20) : IM (uDia μ i v) := by
  have hn1 := hV.n1
  have hn2 := hV.n2
  have hn3 := hV.n3
  have hn4 := hV.n4
  have hn5 := hV.n5
  have hn6 := hV.n6
  have hn7 := hV.n7
  have hn8 := hV.n8
  have hE := uDia_o μ i v
  have g : ∀ k, uDia μ i v (9 + k) = if k = i then v else μ (9 + k) := fun k => by
    by_cases z : k = i
    · rw [if_pos z, z]; exact uDia_0 _ _ _
    · rw [if_neg z]; exact hE _ (by omega)
  have s9 : uDia μ i v 9 = if 0 = i then v else μ 9 := g 0
  have s10 : uDia μ i v 10 = if 1 = i then v else μ 10 := g 1
  have s11 : uDia μ i v 11 = if 2 = i then v else μ 11 := g 2
  have s12 : uDia μ i v 12 = if 3 = i then v else μ 12 := g 3
  have s13 : uDia μ i v 13 = if 4 = i then v else μ 13 := g 4
  have k9 := hV.st
  have k10 := hV.ra
  have k11 := hV.ba
  have k12 := hV.se
  have k13 := hV.gu
  exact ⟨by rw [hE 0 (by omega)]; exact hV.n0,
  by rw [hE 1 (by omega)]; exact hV.n1,
  by rw [hE 2 (by omega)]; exact hV.n2,
  by rw [hE 3 (by omega)]; exact hV.n3,
  by rw [hE 4 (by omega)]; exact hV.n4,
  by rw [hE 5 (by omega)]; exact hV.n5,
  by rw [hE 6 (by omega)]; exact hV.n6,
  by rw [hE 7 (by omega)]; exact hV.n7,
  by rw [hE 8 (by omega)]; exact hV.n8,
  by rw [s9]; split <;> omega,
  by rw [s10]; split <;> omega,
  by rw [s11]; split <;> omega,
  by rw [s12]; split <;> omega,
  by rw [s13]; split <;> omega,
  fun y q0 q1 => by rw [hE (20 + y) (by omega)]; exact hV.wi y q0 q1,
  fun y q0 q1 => by rw [hE (230 + y) (by omega)]; exact hV.ro y q0 q1,
  fun h q0 q1 => by
    rw [hE 1 (by omega)] at q1
    rw [hE (120 + 2 * h) (by omega)]
    exact hV.hc h q0 q1,
  fun h q0 q1 => by
    rw [hE 1 (by omega)] at q1
    rw [hE (121 + 2 * h) (by omega)]
    exact hV.hh h q0 q1,
  fun h k q0 q1 q2 q3 q4 => by
    rw [hE 1 (by omega)] at q1 q3
    rw [hE (120 + 2 * h) (by omega), hE (120 + 2 * k) (by omega)] at q4
    exact hV.hd h k q0 q1 q2 q3 q4,
  fun w q0 q1 => by
    rw [hE 2 (by omega)] at q1
    rw [hE (140 + 3 * w) (by omega), hE (1) (by omega)]
    exact hV.wh w q0 q1,
  fun w q0 q1 => by
    rw [hE 2 (by omega)] at q1
    rw [hE (141 + 3 * w) (by omega)]
    exact hV.wf w q0 q1,
  fun w q0 q1 => by
    rw [hE 2 (by omega)] at q1
    rw [hE (142 + 3 * w) (by omega)]
    exact hV.wu w q0 q1,
  fun f q0 q1 => by
    rw [hE 1 (by omega)] at q1
    rw [hE (200 + f) (by omega), hE (1) (by omega)]
    exact hV.li f q0 q1,
  fun f k q0 q1 q2 q3 q4 => by
    rw [hE 1 (by omega)] at q1 q3
    rw [hE (200 + f) (by omega), hE (200 + k) (by omega)] at q4
    exact hV.lj f k q0 q1 q2 q3 q4,
  fun f q0 q1 => by
    rw [hE 1 (by omega)] at q1
    rw [hE (210 + 2 * f) (by omega), hE (211 + 2 * f) (by omega)]
    exact hV.wa f q0 q1,
  fun l q0 q1 => by
    rw [hE 4 (by omega)] at q1
    rw [hE (330 + 4 * l) (by omega), hE (3) (by omega)]
    exact hV.le l q0 q1,
  fun l q0 q1 => by
    rw [hE 4 (by omega)] at q1
    rw [hE (331 + 4 * l) (by omega), hE (1) (by omega)]
    exact hV.lh l q0 q1,
  fun l q0 q1 => by
    rw [hE 4 (by omega)] at q1
    rw [hE (332 + 4 * l) (by omega), hE (333 + 4 * l) (by omega)]
    exact hV.ly l q0 q1,
  fun p q0 q1 => by
    rw [hE 5 (by omega)] at q1
    rw [hE (394 + 3 * p) (by omega), hE (2) (by omega)]
    exact hV.pw p q0 q1,
  fun p q0 q1 => by
    rw [hE 5 (by omega)] at q1
    rw [hE (395 + 3 * p) (by omega), hE (396 + 3 * p) (by omega)]
    exact hV.py p q0 q1,
  fun d q0 q1 => by
    rw [hE 6 (by omega)] at q1
    rw [hE (442 + 2 * d) (by omega)]
    exact hV.da d q0 q1,
  fun d q0 q1 => by
    rw [hE 6 (by omega)] at q1
    rw [hE (443 + 2 * d) (by omega)]
    exact hV.db d q0 q1,
  fun p q0 q1 => by
    rw [hE 7 (by omega)] at q1
    rw [hE (458 + 3 * p) (by omega), hE (2) (by omega)]
    exact hV.pp p q0 q1,
  fun p q0 q1 => by
    rw [hE 7 (by omega)] at q1
    rw [hE (459 + 3 * p) (by omega)]
    exact hV.ph p q0 q1,
  fun p q0 q1 => by
    rw [hE 7 (by omega)] at q1
    rw [hE (460 + 3 * p) (by omega)]
    exact hV.pl p q0 q1,
  fun b q0 q1 => by
    rw [hE 8 (by omega)] at q1
    rw [hE (506 + 2 * b) (by omega), hE (1) (by omega)]
    exact hV.bh b q0 q1,
  fun b q0 q1 => by
    rw [hE 8 (by omega)] at q1
    rw [hE (507 + 2 * b) (by omega)]
    exact hV.bm b q0 q1,
  fun h q0 q1 => by
    rw [hE 1 (by omega)] at q1
    rw [hE (121 + 2 * h) (by omega), hE 8 (by omega), bsum_c (fun i z0 z1 => ⟨hE (506 + 2 * i) (by omega), hE (507 + 2 * i) (by omega)⟩)]
    exact hV.bs h q0 q1⟩
theorem TR_uWnd {I J : qI} {μ : Int → Int} {a b v : Int} (hT : TR 27 I μ) (hV : IM μ) (ha : 0 ≤ a ∧ b ≤ 100) (f : ∀ y, 0 ≤ y → y < 100 → J 45 y = if a ≤ y ∧ y < b then v else I 45 y) (F : ∀ a, a ≠ 45 → J a = I a) : TR 27 J (uWnd μ a b v) := by
  have hn1 := hV.n1
  have hn2 := hV.n2
  have hn3 := hV.n3
  have hn4 := hV.n4
  have hn5 := hV.n5
  have hn6 := hV.n6
  have hn7 := hV.n7
  have hn8 := hV.n8
  have hE := uWnd_o μ a b v
  exact ⟨⟨(congrFun (F 28 (by omega)) 0).trans hT.c.a1, (congrFun (F 28 (by omega)) 1).trans hT.c.b1, (congrFun (F 30 (by omega)) 0).trans hT.c.a3, (congrFun (F 30 (by omega)) 1).trans hT.c.b3, (congrFun (F 32 (by omega)) 0).trans hT.c.a5, (congrFun (F 32 (by omega)) 1).trans hT.c.b5, (congrFun (F 34 (by omega)) 0).trans hT.c.a7, (congrFun (F 34 (by omega)) 1).trans hT.c.b7, (congrFun (F 36 (by omega)) 0).trans hT.c.a9, (congrFun (F 36 (by omega)) 1).trans hT.c.b9, (congrFun (F 38 (by omega)) 0).trans hT.c.a11, (congrFun (F 38 (by omega)) 1).trans hT.c.b11, (congrFun (F 40 (by omega)) 0).trans hT.c.a13, (congrFun (F 40 (by omega)) 1).trans hT.c.b13, (congrFun (F 42 (by omega)) 0).trans hT.c.a15, (congrFun (F 42 (by omega)) 1).trans hT.c.b15⟩,
  (congrFun (F 28 (by omega)) 3).trans (hT.r1.trans (hE 1 (by omega)).symm),
  (congrFun (F 30 (by omega)) 3).trans (hT.r3.trans (hE 2 (by omega)).symm),
  (congrFun (F 32 (by omega)) 3).trans (hT.r5.trans (hE 1 (by omega)).symm),
  (congrFun (F 34 (by omega)) 3).trans (hT.r7.trans (hE 4 (by omega)).symm),
  (congrFun (F 36 (by omega)) 3).trans (hT.r9.trans (hE 5 (by omega)).symm),
  (congrFun (F 38 (by omega)) 3).trans (hT.r11.trans (hE 6 (by omega)).symm),
  (congrFun (F 40 (by omega)) 3).trans (hT.r13.trans (hE 7 (by omega)).symm),
  (congrFun (F 42 (by omega)) 3).trans (hT.r15.trans (hE 8 (by omega)).symm),
  (congrFun (F 27 (by omega)) 12).trans (hT.lc.trans (hE 3 (by omega)).symm),
  (congrFun (F 27 (by omega)) 13).trans (hT.tx.trans (hE 0 (by omega)).symm),
  fun r q0 q1 => by
    rw [hE 1 (by omega)] at q1
    rw [(F 29 (by omega)), hE (120 + 2 * r) (by omega), hE (121 + 2 * r) (by omega)]
    exact hT.q1 r q0 q1,
  fun r q0 q1 => by
    rw [hE 2 (by omega)] at q1
    rw [(F 31 (by omega)), hE (140 + 3 * r) (by omega), hE (141 + 3 * r) (by omega), hE (142 + 3 * r) (by omega)]
    exact hT.q3 r q0 q1,
  fun r q0 q1 => by
    rw [hE 1 (by omega)] at q1
    rw [(F 33 (by omega)), hE (210 + 2 * r) (by omega), hE (211 + 2 * r) (by omega), hE (200 + r) (by omega)]
    exact hT.q5 r q0 q1,
  fun r q0 q1 => by
    rw [hE 4 (by omega)] at q1
    rw [(F 35 (by omega)), hE (332 + 4 * r) (by omega), hE (333 + 4 * r) (by omega), hE (331 + 4 * r) (by omega), hE (330 + 4 * r) (by omega)]
    exact hT.q7 r q0 q1,
  fun r q0 q1 => by
    rw [hE 5 (by omega)] at q1
    rw [(F 37 (by omega)), hE (395 + 3 * r) (by omega), hE (396 + 3 * r) (by omega), hE (394 + 3 * r) (by omega)]
    exact hT.q9 r q0 q1,
  fun r q0 q1 => by
    rw [hE 6 (by omega)] at q1
    rw [(F 39 (by omega)), hE (442 + 2 * r) (by omega), hE (443 + 2 * r) (by omega)]
    exact hT.q11 r q0 q1,
  fun r q0 q1 => by
    rw [hE 7 (by omega)] at q1
    rw [(F 41 (by omega)), hE (458 + 3 * r) (by omega), hE (459 + 3 * r) (by omega), hE (460 + 3 * r) (by omega)]
    exact hT.q13 r q0 q1,
  fun r q0 q1 => by
    rw [hE 8 (by omega)] at q1
    rw [(F 43 (by omega)), hE (506 + 2 * r) (by omega), hE (507 + 2 * r) (by omega)]
    exact hT.q15 r q0 q1,
  fun i q0 q1 => by rw [(F 44 (by omega)), hE (9 + i) (by omega)]; exact hT.di i q0 q1,
  fun z q0 q1 => by
    rw [f z q0 q1]
    by_cases w : a ≤ z ∧ z < b
    · rw [if_pos w, uWnd_0 _ _ _ _ w.1 w.2]
    · rw [if_neg w, hE (20 + z) (by omega)]; exact hT.wi z q0 q1,
  fun y q0 q1 => by rw [(F 46 (by omega)), hE (230 + y) (by omega)]; exact hT.ro y q0 q1⟩
theorem IM_uWnd {μ : Int → Int} {a b v : Int} (hV : IM μ) (ha : 0 ≤ a ∧ b ≤ 100) (hv : -20 ≤ v ∧ v ≤ 20) : IM (uWnd μ a b v) := by
  have hn1 := hV.n1
  have hn2 := hV.n2
  have hn3 := hV.n3
  have hn4 := hV.n4
  have hn5 := hV.n5
  have hn6 := hV.n6
  have hn7 := hV.n7
  have hn8 := hV.n8
  have hE := uWnd_o μ a b v
  exact ⟨by rw [hE 0 (by omega)]; exact hV.n0,
  by rw [hE 1 (by omega)]; exact hV.n1,
  by rw [hE 2 (by omega)]; exact hV.n2,
  by rw [hE 3 (by omega)]; exact hV.n3,
  by rw [hE 4 (by omega)]; exact hV.n4,
  by rw [hE 5 (by omega)]; exact hV.n5,
  by rw [hE 6 (by omega)]; exact hV.n6,
  by rw [hE 7 (by omega)]; exact hV.n7,
  by rw [hE 8 (by omega)]; exact hV.n8,
  by rw [hE 9 (by omega)]; exact hV.st,
  by rw [hE 10 (by omega)]; exact hV.ra,
  by rw [hE 11 (by omega)]; exact hV.ba,
  by rw [hE 12 (by omega)]; exact hV.se,
  by rw [hE 13 (by omega)]; exact hV.gu,
  fun z q0 q1 => by
    by_cases w : a ≤ z ∧ z < b
    · rw [uWnd_0 _ _ _ _ w.1 w.2]; exact hv
    · rw [hE (20 + z) (by omega)]; exact hV.wi z q0 q1,
  fun y q0 q1 => by rw [hE (230 + y) (by omega)]; exact hV.ro y q0 q1,
  fun h q0 q1 => by
    rw [hE 1 (by omega)] at q1
    rw [hE (120 + 2 * h) (by omega)]
    exact hV.hc h q0 q1,
  fun h q0 q1 => by
    rw [hE 1 (by omega)] at q1
    rw [hE (121 + 2 * h) (by omega)]
    exact hV.hh h q0 q1,
  fun h k q0 q1 q2 q3 q4 => by
    rw [hE 1 (by omega)] at q1 q3
    rw [hE (120 + 2 * h) (by omega), hE (120 + 2 * k) (by omega)] at q4
    exact hV.hd h k q0 q1 q2 q3 q4,
  fun w q0 q1 => by
    rw [hE 2 (by omega)] at q1
    rw [hE (140 + 3 * w) (by omega), hE (1) (by omega)]
    exact hV.wh w q0 q1,
  fun w q0 q1 => by
    rw [hE 2 (by omega)] at q1
    rw [hE (141 + 3 * w) (by omega)]
    exact hV.wf w q0 q1,
  fun w q0 q1 => by
    rw [hE 2 (by omega)] at q1
    rw [hE (142 + 3 * w) (by omega)]
    exact hV.wu w q0 q1,
  fun f q0 q1 => by
    rw [hE 1 (by omega)] at q1
    rw [hE (200 + f) (by omega), hE (1) (by omega)]
    exact hV.li f q0 q1,
  fun f k q0 q1 q2 q3 q4 => by
    rw [hE 1 (by omega)] at q1 q3
    rw [hE (200 + f) (by omega), hE (200 + k) (by omega)] at q4
    exact hV.lj f k q0 q1 q2 q3 q4,
  fun f q0 q1 => by
    rw [hE 1 (by omega)] at q1
    rw [hE (210 + 2 * f) (by omega), hE (211 + 2 * f) (by omega)]
    exact hV.wa f q0 q1,
  fun l q0 q1 => by
    rw [hE 4 (by omega)] at q1
    rw [hE (330 + 4 * l) (by omega), hE (3) (by omega)]
    exact hV.le l q0 q1,
  fun l q0 q1 => by
    rw [hE 4 (by omega)] at q1
    rw [hE (331 + 4 * l) (by omega), hE (1) (by omega)]
    exact hV.lh l q0 q1,
  fun l q0 q1 => by
    rw [hE 4 (by omega)] at q1
    rw [hE (332 + 4 * l) (by omega), hE (333 + 4 * l) (by omega)]
    exact hV.ly l q0 q1,
  fun p q0 q1 => by
    rw [hE 5 (by omega)] at q1
    rw [hE (394 + 3 * p) (by omega), hE (2) (by omega)]
    exact hV.pw p q0 q1,
  fun p q0 q1 => by
    rw [hE 5 (by omega)] at q1
    rw [hE (395 + 3 * p) (by omega), hE (396 + 3 * p) (by omega)]
    exact hV.py p q0 q1,
  fun d q0 q1 => by
    rw [hE 6 (by omega)] at q1
    rw [hE (442 + 2 * d) (by omega)]
    exact hV.da d q0 q1,
  fun d q0 q1 => by
    rw [hE 6 (by omega)] at q1
    rw [hE (443 + 2 * d) (by omega)]
    exact hV.db d q0 q1,
  fun p q0 q1 => by
    rw [hE 7 (by omega)] at q1
    rw [hE (458 + 3 * p) (by omega), hE (2) (by omega)]
    exact hV.pp p q0 q1,
  fun p q0 q1 => by
    rw [hE 7 (by omega)] at q1
    rw [hE (459 + 3 * p) (by omega)]
    exact hV.ph p q0 q1,
  fun p q0 q1 => by
    rw [hE 7 (by omega)] at q1
    rw [hE (460 + 3 * p) (by omega)]
    exact hV.pl p q0 q1,
  fun b q0 q1 => by
    rw [hE 8 (by omega)] at q1
    rw [hE (506 + 2 * b) (by omega), hE (1) (by omega)]
    exact hV.bh b q0 q1,
  fun b q0 q1 => by
    rw [hE 8 (by omega)] at q1
    rw [hE (507 + 2 * b) (by omega)]
    exact hV.bm b q0 q1,
  fun h q0 q1 => by
    rw [hE 1 (by omega)] at q1
    rw [hE (121 + 2 * h) (by omega), hE 8 (by omega), bsum_c (fun i z0 z1 => ⟨hE (506 + 2 * i) (by omega), hE (507 + 2 * i) (by omega)⟩)]
    exact hV.bs h q0 q1⟩
