def shk (f : Int → Int) (k : Int) : Int → Int := fun j => if 506 ≤ j ∧ j < k then f (j + 2) else f j
theorem shk_0 (f : Int → Int) : shk f 506 = f := funext fun j => if_neg (by omega)
theorem shk_s (f : Int → Int) {k : Int} (h : 506 ≤ k) : st (shk f k) k (f (k + 2)) = shk f (k + 1) := funext fun j => by
  unfold st shk
  by_cases z : j = k
  · rw [if_pos z, if_pos (by omega), z]
  · rw [if_neg z]
    by_cases w : 506 ≤ j ∧ j < k
    · rw [if_pos w, if_pos (by omega)]
    · rw [if_neg w, if_neg (by omega)]
def uBlA (μ : Int → Int) (h n : Int) : Int → Int := st (st (st (st μ (121 + 2 * h) (μ (121 + 2 * h) + n)) (506 + 2 * μ 8) h) (507 + 2 * μ 8) n) 8 (1 + μ 8)
def uBlB (μ : Int → Int) (h n : Int) : Int → Int := st (st (st (st (shk (st μ (121 + 2 * h) (μ (121 + 2 * h) + n)) 544) 8 19) 544 h) 545 n) 8 20
def uBld (μ : Int → Int) (h n : Int) : Int → Int := if μ 8 = 20 then uBlB μ h n else uBlA μ h n
theorem sm_sh {f : Int → Int} : ∀ n : Nat, sm f 0 (n + 1) = f 0 + sm (fun i => f (i + 1)) 0 n
  | 0 => by show (0 : Int) + f (0 + ((0 : Nat) : Int)) = f 0 + 0; rw [show (0 : Int) + ((0 : Nat) : Int) = 0 by omega]; omega
  | n + 1 => by
    have := sm_sh (f := f) n
    show sm f 0 (n + 1) + f (0 + ((n + 1 : Nat) : Int)) = f 0 + (sm (fun i => f (i + 1)) 0 n + f (0 + (n : Int) + 1))
    rw [this, show (0 : Int) + ((n + 1 : Nat) : Int) = 0 + (n : Int) + 1 by omega]
    omega
theorem uBlA_o (μ : Int → Int) (h n : Int) : ∀ j, j ≠ 8 ∧ j ≠ 121 + 2 * h ∧ j ≠ 506 + 2 * μ 8 ∧ j ≠ 507 + 2 * μ 8 → uBlA μ h n j = μ j := fun j q => (st_n (by omega)).trans ((st_n (by omega)).trans ((st_n (by omega)).trans (st_n (by omega))))
theorem uBlA_h {μ : Int → Int} {h n : Int} (h0 : 0 ≤ h ∧ h < 10) (h8 : 0 ≤ μ 8) : uBlA μ h n (121 + 2 * h) = μ (121 + 2 * h) + n := (st_n (by omega)).trans ((st_n (by omega)).trans ((st_n (by omega)).trans (st_e _ _ _)))
theorem uBlA_a {μ : Int → Int} {h n : Int} (h8 : 0 ≤ μ 8) : uBlA μ h n (506 + 2 * μ 8) = h := (st_n (by omega)).trans ((st_n (by omega)).trans (st_e _ _ _))
theorem uBlA_b {μ : Int → Int} {h n : Int} (h8 : 0 ≤ μ 8) : uBlA μ h n (507 + 2 * μ 8) = n := (st_n (by omega)).trans (st_e _ _ _)
theorem uBlA_8 (μ : Int → Int) (h n : Int) : uBlA μ h n 8 = 1 + μ 8 := st_e _ _ _
theorem uBlB_o {μ : Int → Int} {h n : Int} (h8 : μ 8 = 20) : ∀ j, j ≠ 121 + 2 * h ∧ (j < 506 ∨ 546 ≤ j) → uBlB μ h n j = μ j := fun j q => by
  by_cases z : j = 8
  · rw [z, h8]; exact st_e _ _ _
  · exact (st_n z).trans ((st_n (by omega)).trans ((st_n (by omega)).trans ((st_n z).trans ((if_neg (by omega)).trans (st_n (by omega))))))
theorem uBlB_s {μ : Int → Int} {h n : Int} (h0 : 0 ≤ h ∧ h < 10) : ∀ j, 506 ≤ j → j < 544 → uBlB μ h n j = μ (j + 2) := fun j q0 q1 => (st_n (by omega)).trans ((st_n (by omega)).trans ((st_n (by omega)).trans ((st_n (by omega)).trans ((if_pos (by omega)).trans (st_n (by omega))))))
theorem uBlB_h {μ : Int → Int} {h n : Int} (h0 : 0 ≤ h ∧ h < 10) : uBlB μ h n (121 + 2 * h) = μ (121 + 2 * h) + n := (st_n (by omega)).trans ((st_n (by omega)).trans ((st_n (by omega)).trans ((st_n (by omega)).trans ((if_neg (by omega)).trans (st_e _ _ _)))))
theorem uBlB_a (μ : Int → Int) (h n : Int) : uBlB μ h n 544 = h := (st_n (by omega)).trans ((st_n (by omega)).trans (st_e _ _ _))
theorem uBlB_b (μ : Int → Int) (h n : Int) : uBlB μ h n 545 = n := (st_n (by omega)).trans (st_e _ _ _)
theorem uBlB_8 (μ : Int → Int) (h n : Int) : uBlB μ h n 8 = 20 := st_e _ _ _
theorem TR_uBlA {I J : qI} {μ : Int → Int} {h n : Int} (hT : TR 6 I μ) (hV : IM μ) (hh : 0 ≤ h ∧ h < μ 1) (h8 : μ 8 < 20) (e : J 8 = fun j => if j = h * 2 + 1 then μ (121 + 2 * h) + n else I 8 j) (f : J 21 = fun s => if s = 3 then μ 8 + 1 else I 21 s) (g : J 22 = fun j => if j = μ 8 * 2 + 1 then n else (if j = μ 8 * 2 + 0 then h else I 22 j)) (F : ∀ a, a ≠ 8 → a ≠ 21 → a ≠ 22 → J a = I a) : TR 6 J (uBlA μ h n) := by
  have hE := uBlA_o μ h n
  have hn1 := hV.n1
  have hn2 := hV.n2
  have hn3 := hV.n3
  have hn4 := hV.n4
  have hn5 := hV.n5
  have hn6 := hV.n6
  have hn7 := hV.n7
  have hn8 := hV.n8
  have VH := uBlA_h (μ := μ) (h := h) (n := n) (by omega) (by omega)
  have VA := uBlA_a (μ := μ) (h := h) (n := n) (by omega)
  have VB := uBlA_b (μ := μ) (h := h) (n := n) (by omega)
  have V8 := uBlA_8 μ h n
  exact ⟨⟨(congrFun (F 7 (by omega) (by omega) (by omega)) 0).trans hT.c.a1, (congrFun (F 7 (by omega) (by omega) (by omega)) 1).trans hT.c.b1, (congrFun (F 9 (by omega) (by omega) (by omega)) 0).trans hT.c.a3, (congrFun (F 9 (by omega) (by omega) (by omega)) 1).trans hT.c.b3, (congrFun (F 11 (by omega) (by omega) (by omega)) 0).trans hT.c.a5, (congrFun (F 11 (by omega) (by omega) (by omega)) 1).trans hT.c.b5, (congrFun (F 13 (by omega) (by omega) (by omega)) 0).trans hT.c.a7, (congrFun (F 13 (by omega) (by omega) (by omega)) 1).trans hT.c.b7, (congrFun (F 15 (by omega) (by omega) (by omega)) 0).trans hT.c.a9, (congrFun (F 15 (by omega) (by omega) (by omega)) 1).trans hT.c.b9, (congrFun (F 17 (by omega) (by omega) (by omega)) 0).trans hT.c.a11, (congrFun (F 17 (by omega) (by omega) (by omega)) 1).trans hT.c.b11, (congrFun (F 19 (by omega) (by omega) (by omega)) 0).trans hT.c.a13, (congrFun (F 19 (by omega) (by omega) (by omega)) 1).trans hT.c.b13, (by rw [f]; exact hT.c.a15), (by rw [f]; exact hT.c.b15)⟩,
  (congrFun (F 7 (by omega) (by omega) (by omega)) 3).trans (hT.r1.trans (hE 1 (by omega)).symm),
  (congrFun (F 9 (by omega) (by omega) (by omega)) 3).trans (hT.r3.trans (hE 2 (by omega)).symm),
  (congrFun (F 11 (by omega) (by omega) (by omega)) 3).trans (hT.r5.trans (hE 1 (by omega)).symm),
  (congrFun (F 13 (by omega) (by omega) (by omega)) 3).trans (hT.r7.trans (hE 4 (by omega)).symm),
  (congrFun (F 15 (by omega) (by omega) (by omega)) 3).trans (hT.r9.trans (hE 5 (by omega)).symm),
  (congrFun (F 17 (by omega) (by omega) (by omega)) 3).trans (hT.r11.trans (hE 6 (by omega)).symm),
  (congrFun (F 19 (by omega) (by omega) (by omega)) 3).trans (hT.r13.trans (hE 7 (by omega)).symm),
  by rw [f, V8]; show μ 8 + 1 = 1 + μ 8; omega,
  (congrFun (F 6 (by omega) (by omega) (by omega)) 12).trans (hT.lc.trans (hE 3 (by omega)).symm),
  (congrFun (F 6 (by omega) (by omega) (by omega)) 13).trans (hT.tx.trans (hE 0 (by omega)).symm),
  fun r q0 q1 => by
    rw [hE 1 (by omega)] at q1
    by_cases z : r = h
    · rw [z, e, VH, hE (120 + 2 * h) (by omega)]; exact ⟨(if_neg (by omega)).trans (hT.q1 _ hh.1 hh.2).1, if_pos rfl⟩
    · rw [e, hE (120 + 2 * r) (by omega), hE (121 + 2 * r) (by omega)]; exact ⟨(if_neg (by omega)).trans (hT.q1 r q0 q1).1, (if_neg (by omega)).trans (hT.q1 r q0 q1).2⟩,
  fun r q0 q1 => by
    rw [hE 2 (by omega)] at q1
    rw [(F 10 (by omega) (by omega) (by omega)), hE (140 + 3 * r) (by omega), hE (141 + 3 * r) (by omega), hE (142 + 3 * r) (by omega)]
    exact hT.q3 r q0 q1,
  fun r q0 q1 => by
    rw [hE 1 (by omega)] at q1
    rw [(F 12 (by omega) (by omega) (by omega)), hE (210 + 2 * r) (by omega), hE (211 + 2 * r) (by omega), hE (200 + r) (by omega)]
    exact hT.q5 r q0 q1,
  fun r q0 q1 => by
    rw [hE 4 (by omega)] at q1
    rw [(F 14 (by omega) (by omega) (by omega)), hE (332 + 4 * r) (by omega), hE (333 + 4 * r) (by omega), hE (331 + 4 * r) (by omega), hE (330 + 4 * r) (by omega)]
    exact hT.q7 r q0 q1,
  fun r q0 q1 => by
    rw [hE 5 (by omega)] at q1
    rw [(F 16 (by omega) (by omega) (by omega)), hE (395 + 3 * r) (by omega), hE (396 + 3 * r) (by omega), hE (394 + 3 * r) (by omega)]
    exact hT.q9 r q0 q1,
  fun r q0 q1 => by
    rw [hE 6 (by omega)] at q1
    rw [(F 18 (by omega) (by omega) (by omega)), hE (442 + 2 * r) (by omega), hE (443 + 2 * r) (by omega)]
    exact hT.q11 r q0 q1,
  fun r q0 q1 => by
    rw [hE 7 (by omega)] at q1
    rw [(F 20 (by omega) (by omega) (by omega)), hE (458 + 3 * r) (by omega), hE (459 + 3 * r) (by omega), hE (460 + 3 * r) (by omega)]
    exact hT.q13 r q0 q1,
  fun r q0 q1 => by
    rw [V8] at q1
    by_cases z : r = μ 8
    · rw [z, g, VA, VB]; exact ⟨(if_neg (by omega)).trans (if_pos rfl), if_pos rfl⟩
    · rw [g, hE (506 + 2 * r) (by omega), hE (507 + 2 * r) (by omega)]; exact ⟨(if_neg (by omega)).trans ((if_neg (by omega)).trans (hT.q15 r q0 (by omega)).1), (if_neg (by omega)).trans ((if_neg (by omega)).trans (hT.q15 r q0 (by omega)).2)⟩,
  fun i q0 q1 => by rw [(F 23 (by omega) (by omega) (by omega)), hE (9 + i) (by omega)]; exact hT.di i q0 q1,
  fun y q0 q1 => by rw [(F 24 (by omega) (by omega) (by omega)), hE (20 + y) (by omega)]; exact hT.wi y q0 q1,
  fun y q0 q1 => by rw [(F 25 (by omega) (by omega) (by omega)), hE (230 + y) (by omega)]; exact hT.ro y q0 q1⟩
theorem TR_uBlB {I J : qI} {μ : Int → Int} {h n : Int} (hT : TR 6 I μ) (hV : IM μ) (hh : 0 ≤ h ∧ h < μ 1) (h8 : μ 8 = 20) (e : J 8 = fun j => if j = h * 2 + 1 then μ (121 + 2 * h) + n else I 8 j) (f : J 21 = fun s => if s = 3 then 20 else I 21 s) (g : ∀ j, 0 ≤ j → j < 40 → J 22 j = if j = 39 then n else if j = 38 then h else I 22 (j + 2)) (F : ∀ a, a ≠ 8 → a ≠ 21 → a ≠ 22 → J a = I a) : TR 6 J (uBlB μ h n) := by
  have hE := uBlB_o (h := h) (n := n) h8
  have hn1 := hV.n1
  have hn2 := hV.n2
  have hn3 := hV.n3
  have hn4 := hV.n4
  have hn5 := hV.n5
  have hn6 := hV.n6
  have hn7 := hV.n7
  have hn8 := hV.n8
  have VH := uBlB_h (μ := μ) (h := h) (n := n) (by omega)
  have VA := uBlB_a μ h n
  have VB := uBlB_b μ h n
  have V8 := uBlB_8 μ h n
  have VS := uBlB_s (μ := μ) (h := h) (n := n) (by omega)
  exact ⟨⟨(congrFun (F 7 (by omega) (by omega) (by omega)) 0).trans hT.c.a1, (congrFun (F 7 (by omega) (by omega) (by omega)) 1).trans hT.c.b1, (congrFun (F 9 (by omega) (by omega) (by omega)) 0).trans hT.c.a3, (congrFun (F 9 (by omega) (by omega) (by omega)) 1).trans hT.c.b3, (congrFun (F 11 (by omega) (by omega) (by omega)) 0).trans hT.c.a5, (congrFun (F 11 (by omega) (by omega) (by omega)) 1).trans hT.c.b5, (congrFun (F 13 (by omega) (by omega) (by omega)) 0).trans hT.c.a7, (congrFun (F 13 (by omega) (by omega) (by omega)) 1).trans hT.c.b7, (congrFun (F 15 (by omega) (by omega) (by omega)) 0).trans hT.c.a9, (congrFun (F 15 (by omega) (by omega) (by omega)) 1).trans hT.c.b9, (congrFun (F 17 (by omega) (by omega) (by omega)) 0).trans hT.c.a11, (congrFun (F 17 (by omega) (by omega) (by omega)) 1).trans hT.c.b11, (congrFun (F 19 (by omega) (by omega) (by omega)) 0).trans hT.c.a13, (congrFun (F 19 (by omega) (by omega) (by omega)) 1).trans hT.c.b13, (by rw [f]; exact hT.c.a15), (by rw [f]; exact hT.c.b15)⟩,
  (congrFun (F 7 (by omega) (by omega) (by omega)) 3).trans (hT.r1.trans (hE 1 (by omega)).symm),
  (congrFun (F 9 (by omega) (by omega) (by omega)) 3).trans (hT.r3.trans (hE 2 (by omega)).symm),
  (congrFun (F 11 (by omega) (by omega) (by omega)) 3).trans (hT.r5.trans (hE 1 (by omega)).symm),
  (congrFun (F 13 (by omega) (by omega) (by omega)) 3).trans (hT.r7.trans (hE 4 (by omega)).symm),
  (congrFun (F 15 (by omega) (by omega) (by omega)) 3).trans (hT.r9.trans (hE 5 (by omega)).symm),
  (congrFun (F 17 (by omega) (by omega) (by omega)) 3).trans (hT.r11.trans (hE 6 (by omega)).symm),
  (congrFun (F 19 (by omega) (by omega) (by omega)) 3).trans (hT.r13.trans (hE 7 (by omega)).symm),
  by rw [f, V8]; rfl,
  (congrFun (F 6 (by omega) (by omega) (by omega)) 12).trans (hT.lc.trans (hE 3 (by omega)).symm),
  (congrFun (F 6 (by omega) (by omega) (by omega)) 13).trans (hT.tx.trans (hE 0 (by omega)).symm),
  fun r q0 q1 => by
    rw [hE 1 (by omega)] at q1
    by_cases z : r = h
    · rw [z, e, VH, hE (120 + 2 * h) (by omega)]; exact ⟨(if_neg (by omega)).trans (hT.q1 _ hh.1 hh.2).1, if_pos rfl⟩
    · rw [e, hE (120 + 2 * r) (by omega), hE (121 + 2 * r) (by omega)]; exact ⟨(if_neg (by omega)).trans (hT.q1 r q0 q1).1, (if_neg (by omega)).trans (hT.q1 r q0 q1).2⟩,
  fun r q0 q1 => by
    rw [hE 2 (by omega)] at q1
    rw [(F 10 (by omega) (by omega) (by omega)), hE (140 + 3 * r) (by omega), hE (141 + 3 * r) (by omega), hE (142 + 3 * r) (by omega)]
    exact hT.q3 r q0 q1,
  fun r q0 q1 => by
    rw [hE 1 (by omega)] at q1
    rw [(F 12 (by omega) (by omega) (by omega)), hE (210 + 2 * r) (by omega), hE (211 + 2 * r) (by omega), hE (200 + r) (by omega)]
    exact hT.q5 r q0 q1,
  fun r q0 q1 => by
    rw [hE 4 (by omega)] at q1
    rw [(F 14 (by omega) (by omega) (by omega)), hE (332 + 4 * r) (by omega), hE (333 + 4 * r) (by omega), hE (331 + 4 * r) (by omega), hE (330 + 4 * r) (by omega)]
    exact hT.q7 r q0 q1,
  fun r q0 q1 => by
    rw [hE 5 (by omega)] at q1
    rw [(F 16 (by omega) (by omega) (by omega)), hE (395 + 3 * r) (by omega), hE (396 + 3 * r) (by omega), hE (394 + 3 * r) (by omega)]
    exact hT.q9 r q0 q1,
  fun r q0 q1 => by
    rw [hE 6 (by omega)] at q1
    rw [(F 18 (by omega) (by omega) (by omega)), hE (442 + 2 * r) (by omega), hE (443 + 2 * r) (by omega)]
    exact hT.q11 r q0 q1,
  fun r q0 q1 => by
    rw [hE 7 (by omega)] at q1
    rw [(F 20 (by omega) (by omega) (by omega)), hE (458 + 3 * r) (by omega), hE (459 + 3 * r) (by omega), hE (460 + 3 * r) (by omega)]
    exact hT.q13 r q0 q1,
  fun r q0 q1 => by
    rw [V8] at q1
    by_cases z : r = 19
    · rw [z]; exact ⟨(g _ (by omega) (by omega)).trans ((if_neg (by omega)).trans ((if_pos (by omega)).trans VA.symm)), (g _ (by omega) (by omega)).trans ((if_pos (by omega)).trans VB.symm)⟩
    · have w := hT.q15 (r + 1) (by omega) (by omega)
      rw [VS (506 + 2 * r) (by omega) (by omega), VS (507 + 2 * r) (by omega) (by omega), show 506 + 2 * r + 2 = 506 + 2 * (r + 1) by omega, show 507 + 2 * r + 2 = 507 + 2 * (r + 1) by omega, ← w.1, ← w.2, g _ (by omega) (by omega), g _ (by omega) (by omega), if_neg (by omega), if_neg (by omega), if_neg (by omega), if_neg (by omega), show r * 2 + 0 + 2 = (r + 1) * 2 + 0 by omega, show r * 2 + 1 + 2 = (r + 1) * 2 + 1 by omega]
      exact ⟨rfl, rfl⟩,
  fun i q0 q1 => by rw [(F 23 (by omega) (by omega) (by omega)), hE (9 + i) (by omega)]; exact hT.di i q0 q1,
  fun y q0 q1 => by rw [(F 24 (by omega) (by omega) (by omega)), hE (20 + y) (by omega)]; exact hT.wi y q0 q1,
  fun y q0 q1 => by rw [(F 25 (by omega) (by omega) (by omega)), hE (230 + y) (by omega)]; exact hT.ro y q0 q1⟩
theorem IM_uBlA {μ : Int → Int} {h n : Int} (hV : IM μ) (hh : 0 ≤ h ∧ h < μ 1) (hb : 1 ≤ n ∧ n < 30 ∧ μ (121 + 2 * h) + n ≤ 30) (h8 : μ 8 < 20) : IM (uBlA μ h n) := by
  have hE := uBlA_o μ h n
  have hn1 := hV.n1
  have hn2 := hV.n2
  have hn3 := hV.n3
  have hn4 := hV.n4
  have hn5 := hV.n5
  have hn6 := hV.n6
  have hn7 := hV.n7
  have hn8 := hV.n8
  have VH := uBlA_h (μ := μ) (h := h) (n := n) (by omega) (by omega)
  have VA := uBlA_a (μ := μ) (h := h) (n := n) (by omega)
  have VB := uBlA_b (μ := μ) (h := h) (n := n) (by omega)
  have V8 := uBlA_8 μ h n
  exact ⟨by rw [hE 0 (by omega)]; exact hV.n0,
  by rw [hE 1 (by omega)]; exact hV.n1,
  by rw [hE 2 (by omega)]; exact hV.n2,
  by rw [hE 3 (by omega)]; exact hV.n3,
  by rw [hE 4 (by omega)]; exact hV.n4,
  by rw [hE 5 (by omega)]; exact hV.n5,
  by rw [hE 6 (by omega)]; exact hV.n6,
  by rw [hE 7 (by omega)]; exact hV.n7,
  by rw [V8]; omega,
  by rw [hE 9 (by omega)]; exact hV.st,
  by rw [hE 10 (by omega)]; exact hV.ra,
  by rw [hE 11 (by omega)]; exact hV.ba,
  by rw [hE 12 (by omega)]; exact hV.se,
  by rw [hE 13 (by omega)]; exact hV.gu,
  fun y q0 q1 => by rw [hE (20 + y) (by omega)]; exact hV.wi y q0 q1,
  fun y q0 q1 => by rw [hE (230 + y) (by omega)]; exact hV.ro y q0 q1,
  fun h q0 q1 => by
    rw [hE 1 (by omega)] at q1
    rw [hE (120 + 2 * h) (by omega)]
    exact hV.hc h q0 q1,
  fun r q0 q1 => by
    rw [hE 1 (by omega)] at q1
    by_cases z : r = h
    · rw [z, VH]; have := hV.hh h hh.1 hh.2; omega
    · rw [hE (121 + 2 * r) (by omega)]; exact hV.hh r q0 q1,
  fun h k q0 q1 q2 q3 q4 => by
    rw [hE 1 (by omega)] at q1 q3
    rw [hE (120 + 2 * h) (by omega), hE (120 + 2 * k) (by omega)] at q4
    exact hV.hd h k q0 q1 q2 q3 q4,
  fun w q0 q1 => by
    rw [hE 2 (by omega)] at q1
    rw [hE (140 + 3 * w) (by omega), hE (1) (by omega)]
    exact hV.wh w q0 q1,
  fun w q0 q1 => by
    rw [hE 2 (by omega)] at q1
    rw [hE (141 + 3 * w) (by omega)]
    exact hV.wf w q0 q1,
  fun w q0 q1 => by
    rw [hE 2 (by omega)] at q1
    rw [hE (142 + 3 * w) (by omega)]
    exact hV.wu w q0 q1,
  fun f q0 q1 => by
    rw [hE 1 (by omega)] at q1
    rw [hE (200 + f) (by omega), hE (1) (by omega)]
    exact hV.li f q0 q1,
  fun f k q0 q1 q2 q3 q4 => by
    rw [hE 1 (by omega)] at q1 q3
    rw [hE (200 + f) (by omega), hE (200 + k) (by omega)] at q4
    exact hV.lj f k q0 q1 q2 q3 q4,
  fun f q0 q1 => by
    rw [hE 1 (by omega)] at q1
    rw [hE (210 + 2 * f) (by omega), hE (211 + 2 * f) (by omega)]
    exact hV.wa f q0 q1,
  fun l q0 q1 => by
    rw [hE 4 (by omega)] at q1
    rw [hE (330 + 4 * l) (by omega), hE (3) (by omega)]
    exact hV.le l q0 q1,
  fun l q0 q1 => by
    rw [hE 4 (by omega)] at q1
    rw [hE (331 + 4 * l) (by omega), hE (1) (by omega)]
    exact hV.lh l q0 q1,
  fun l q0 q1 => by
    rw [hE 4 (by omega)] at q1
    rw [hE (332 + 4 * l) (by omega), hE (333 + 4 * l) (by omega)]
    exact hV.ly l q0 q1,
  fun p q0 q1 => by
    rw [hE 5 (by omega)] at q1
    rw [hE (394 + 3 * p) (by omega), hE (2) (by omega)]
    exact hV.pw p q0 q1,
  fun p q0 q1 => by
    rw [hE 5 (by omega)] at q1
    rw [hE (395 + 3 * p) (by omega), hE (396 + 3 * p) (by omega)]
    exact hV.py p q0 q1,
  fun d q0 q1 => by
    rw [hE 6 (by omega)] at q1
    rw [hE (442 + 2 * d) (by omega)]
    exact hV.da d q0 q1,
  fun d q0 q1 => by
    rw [hE 6 (by omega)] at q1
    rw [hE (443 + 2 * d) (by omega)]
    exact hV.db d q0 q1,
  fun p q0 q1 => by
    rw [hE 7 (by omega)] at q1
    rw [hE (458 + 3 * p) (by omega), hE (2) (by omega)]
    exact hV.pp p q0 q1,
  fun p q0 q1 => by
    rw [hE 7 (by omega)] at q1
    rw [hE (459 + 3 * p) (by omega)]
    exact hV.ph p q0 q1,
  fun p q0 q1 => by
    rw [hE 7 (by omega)] at q1
    rw [hE (460 + 3 * p) (by omega)]
    exact hV.pl p q0 q1,
  fun r q0 q1 => by
    rw [V8] at q1
    by_cases z : r = μ 8
    · rw [z, VA, hE 1 (by omega)]; exact hh
    · rw [hE (506 + 2 * r) (by omega), hE 1 (by omega)]; exact hV.bh r q0 (by omega),
  fun r q0 q1 => by
    rw [V8] at q1
    by_cases z : r = μ 8
    · rw [z, VB]; omega
    · rw [hE (507 + 2 * r) (by omega)]; exact hV.bm r q0 (by omega),
  fun r q0 q1 => by
    rw [hE 1 (by omega)] at q1
    have c2 := hV.bs r q0 q1
    rw [V8, show 1 + μ 8 = μ 8 + 1 by omega, bsum_s (by omega), VA, VB, bsum_c (fun i z0 z1 => ⟨hE (506 + 2 * i) (by omega), hE (507 + 2 * i) (by omega)⟩)]
    by_cases z : r = h
    · rw [z] at c2 ⊢; rw [VH, if_pos rfl]; omega
    · rw [hE (121 + 2 * r) (by omega), if_neg (fun w => z w.symm)]; omega⟩
theorem IM_uBlB {μ : Int → Int} {h n : Int} (hV : IM μ) (hh : 0 ≤ h ∧ h < μ 1) (hb : 1 ≤ n ∧ n < 30 ∧ μ (121 + 2 * h) + n ≤ 30) (h8 : μ 8 = 20) : IM (uBlB μ h n) := by
  have hE := uBlB_o (h := h) (n := n) h8
  have hn1 := hV.n1
  have hn2 := hV.n2
  have hn3 := hV.n3
  have hn4 := hV.n4
  have hn5 := hV.n5
  have hn6 := hV.n6
  have hn7 := hV.n7
  have hn8 := hV.n8
  have VH := uBlB_h (μ := μ) (h := h) (n := n) (by omega)
  have VA := uBlB_a μ h n
  have VB := uBlB_b μ h n
  have V8 := uBlB_8 μ h n
  have VS := uBlB_s (μ := μ) (h := h) (n := n) (by omega)
  have hbs : ∀ r, bsum (uBlB μ h n) r 20 ≤ bsum μ r 20 + (if h = r then n else 0) := fun r => by
    rw [show (20 : Int) = 19 + 1 by omega, bsum_s (by omega), show 506 + 2 * (19 : Int) = 544 by omega, show 507 + 2 * (19 : Int) = 545 by omega, VA, VB]
    have w : bsum μ r (19 + 1) = (if μ (506 + 2 * 0) = r then μ (507 + 2 * 0) else 0) + bsum (uBlB μ h n) r 19 := by
      show sm _ 0 20 = _
      rw [sm_sh]
      refine congrArg (_ + ·) (sm_congr 19 (fun i q0 q1 => ?_))
      show (if _ then _ else _) = (if _ then _ else _)
      rw [VS (506 + 2 * i) (by omega) (by omega), VS (507 + 2 * i) (by omega) (by omega), show 506 + 2 * i + 2 = 506 + 2 * (i + 1) by omega, show 507 + 2 * i + 2 = 507 + 2 * (i + 1) by omega]
    have w0 := hV.bm 0 (by omega) (by omega)
    rw [w]
    split <;> split <;> omega
  exact ⟨by rw [hE 0 (by omega)]; exact hV.n0,
  by rw [hE 1 (by omega)]; exact hV.n1,
  by rw [hE 2 (by omega)]; exact hV.n2,
  by rw [hE 3 (by omega)]; exact hV.n3,
  by rw [hE 4 (by omega)]; exact hV.n4,
  by rw [hE 5 (by omega)]; exact hV.n5,
  by rw [hE 6 (by omega)]; exact hV.n6,
  by rw [hE 7 (by omega)]; exact hV.n7,
  by rw [V8]; omega,
  by rw [hE 9 (by omega)]; exact hV.st,
  by rw [hE 10 (by omega)]; exact hV.ra,
  by rw [hE 11 (by omega)]; exact hV.ba,
  by rw [hE 12 (by omega)]; exact hV.se,
  by rw [hE 13 (by omega)]; exact hV.gu,
  fun y q0 q1 => by rw [hE (20 + y) (by omega)]; exact hV.wi y q0 q1,
  fun y q0 q1 => by rw [hE (230 + y) (by omega)]; exact hV.ro y q0 q1,
  fun h q0 q1 => by
    rw [hE 1 (by omega)] at q1
    rw [hE (120 + 2 * h) (by omega)]
    exact hV.hc h q0 q1,
  fun r q0 q1 => by
    rw [hE 1 (by omega)] at q1
    by_cases z : r = h
    · rw [z, VH]; have := hV.hh h hh.1 hh.2; omega
    · rw [hE (121 + 2 * r) (by omega)]; exact hV.hh r q0 q1,
  fun h k q0 q1 q2 q3 q4 => by
    rw [hE 1 (by omega)] at q1 q3
    rw [hE (120 + 2 * h) (by omega), hE (120 + 2 * k) (by omega)] at q4
    exact hV.hd h k q0 q1 q2 q3 q4,
  fun w q0 q1 => by
    rw [hE 2 (by omega)] at q1
    rw [hE (140 + 3 * w) (by omega), hE (1) (by omega)]
    exact hV.wh w q0 q1,
  fun w q0 q1 => by
    rw [hE 2 (by omega)] at q1
    rw [hE (141 + 3 * w) (by omega)]
    exact hV.wf w q0 q1,
  fun w q0 q1 => by
    rw [hE 2 (by omega)] at q1
    rw [hE (142 + 3 * w) (by omega)]
    exact hV.wu w q0 q1,
  fun f q0 q1 => by
    rw [hE 1 (by omega)] at q1
    rw [hE (200 + f) (by omega), hE (1) (by omega)]
    exact hV.li f q0 q1,
  fun f k q0 q1 q2 q3 q4 => by
    rw [hE 1 (by omega)] at q1 q3
    rw [hE (200 + f) (by omega), hE (200 + k) (by omega)] at q4
    exact hV.lj f k q0 q1 q2 q3 q4,
  fun f q0 q1 => by
    rw [hE 1 (by omega)] at q1
    rw [hE (210 + 2 * f) (by omega), hE (211 + 2 * f) (by omega)]
    exact hV.wa f q0 q1,
  fun l q0 q1 => by
    rw [hE 4 (by omega)] at q1
    rw [hE (330 + 4 * l) (by omega), hE (3) (by omega)]
    exact hV.le l q0 q1,
  fun l q0 q1 => by
    rw [hE 4 (by omega)] at q1
    rw [hE (331 + 4 * l) (by omega), hE (1) (by omega)]
    exact hV.lh l q0 q1,
  fun l q0 q1 => by
    rw [hE 4 (by omega)] at q1
    rw [hE (332 + 4 * l) (by omega), hE (333 + 4 * l) (by omega)]
    exact hV.ly l q0 q1,
  fun p q0 q1 => by
    rw [hE 5 (by omega)] at q1
    rw [hE (394 + 3 * p) (by omega), hE (2) (by omega)]
    exact hV.pw p q0 q1,
  fun p q0 q1 => by
    rw [hE 5 (by omega)] at q1
    rw [hE (395 + 3 * p) (by omega), hE (396 + 3 * p) (by omega)]
    exact hV.py p q0 q1,
  fun d q0 q1 => by
    rw [hE 6 (by omega)] at q1
    rw [hE (442 + 2 * d) (by omega)]
    exact hV.da d q0 q1,
  fun d q0 q1 => by
    rw [hE 6 (by omega)] at q1
    rw [hE (443 + 2 * d) (by omega)]
    exact hV.db d q0 q1,
  fun p q0 q1 => by
    rw [hE 7 (by omega)] at q1
    rw [hE (458 + 3 * p) (by omega), hE (2) (by omega)]
    exact hV.pp p q0 q1,
  fun p q0 q1 => by
    rw [hE 7 (by omega)] at q1
    rw [hE (459 + 3 * p) (by omega)]
    exact hV.ph p q0 q1,
  fun p q0 q1 => by
    rw [hE 7 (by omega)] at q1
    rw [hE (460 + 3 * p) (by omega)]
    exact hV.pl p q0 q1,
  fun r q0 q1 => by
    rw [V8] at q1
    by_cases z : r = 19
    · rw [z, show 506 + 2 * (19 : Int) = 544 by omega, VA, hE 1 (by omega)]; exact hh
    · rw [VS (506 + 2 * r) (by omega) (by omega), hE 1 (by omega), show 506 + 2 * r + 2 = 506 + 2 * (r + 1) by omega]; exact hV.bh (r + 1) (by omega) (by omega),
  fun r q0 q1 => by
    rw [V8] at q1
    by_cases z : r = 19
    · rw [z, show 507 + 2 * (19 : Int) = 545 by omega, VB]; omega
    · rw [VS (507 + 2 * r) (by omega) (by omega), show 507 + 2 * r + 2 = 507 + 2 * (r + 1) by omega]; exact hV.bm (r + 1) (by omega) (by omega),
  fun r q0 q1 => by
    rw [hE 1 (by omega)] at q1
    have c2 := hV.bs r q0 q1
    have c3 := hbs r
    rw [h8] at c2
    rw [V8]
    by_cases z : r = h
    · rw [z] at c2 c3 ⊢; rw [if_pos rfl] at c3; rw [VH]; omega
    · rw [hE (121 + 2 * r) (by omega)]; rw [if_neg (fun w => z w.symm)] at c3; omega⟩
theorem IM_uBld {μ : Int → Int} {h n : Int} (hV : IM μ) (hh : 0 ≤ h ∧ h < μ 1) (hb : 1 ≤ n ∧ n < 30 ∧ μ (121 + 2 * h) + n ≤ 30) : IM (uBld μ h n) := by
  have hn8 := hV.n8
  unfold uBld
  split
  · exact IM_uBlB hV hh hb (by omega)
  · exact IM_uBlA hV hh hb (by omega)
theorem s_12_build {d : Nat} {P : Option qV → qH → Prop} {X : Nat → qH → Prop} {I : qI} {H : qS} {μ : Int → Int} (hd : 3 ≤ d) {h9 m9 : Int} (hS : Shp H) (hM : I 91 = μ) (hV : IM μ) (hK : MS I) (hk1 : (¬ ((0 ≤ h9 ∧ h9 < μ 1))) → ∀ (J : qI) (v : Int), (v = 0 ∨ v = 1) → MF I J → J 90 0 = 1 → P (some (vi v)) (J, H)) (hk2 : ((0 ≤ h9 ∧ h9 < μ 1) ∧ ¬ (1 ≤ m9 ∧ m9 < 30 ∧ μ (121 + 2 * h9) + m9 ≤ 30)) → ∀ (J : qI) (v : Int), (v = 0 ∨ v = 1) → MF I J → J 90 0 = 2 → P (some (vi v)) (J, H)) (h : ((0 ≤ h9 ∧ h9 < μ 1) ∧ (1 ≤ m9 ∧ m9 < 30 ∧ μ (121 + 2 * h9) + m9 ≤ 30)) → ∀ J : qI, MU I J (uBld μ h9 m9) → J 90 0 = 0 → P (some (vi (μ (121 + 2 * h9) + m9))) (J, H)) :
    Call d 247 [vr (some 90) 10, vi h9, vi m9] (I, H) P X := by
  obtain ⟨d, rfl⟩ : ∃ e, d = e + 1 := ⟨d - 1, by omega⟩
  have hl91 := hS.l91
  obtain ⟨tb, h30⟩ : ∃ tb, I 90 30 = tb := ⟨_, rfl⟩
  obtain ⟨mo, h23⟩ : ∃ mo, I 90 23 = mo := ⟨_, rfl⟩
  have htb : 0 ≤ tb ∧ tb ≤ 29 := by have := hK.2.2.2; omega
  have hmo : (-1 : Int) = -1 ∨ (0 ≤ mo ∧ mo ≤ 48) := .inl rfl
  have h22 := hK.1
  have h29 := hK.2.1
  have hn8 := hV.n8
  have hn1 := hV.n1
  show WP (Call d) 247 P X (0, [some (vr (some 90) 10), some (vi h9), some (vi m9), none], [], (I, H), 0, 0)
  refine WP.go 4 (And.intro (And.intro (Nat.le_of_ble_eq_true rfl) (Nat.le_of_ble_eq_true rfl)) (And.intro rfl (?_)))
  show Call d 180 [vr (some 90) 10, vi h9] (I, H) _ _
  refine s_12_isHouse (by omega) hS hM hV ?_
  show WP (Call d) 247 P X (4, [some (vr (some 90) 10), some (vi h9), some (vi m9), none], [vi (bz (0 ≤ h9 ∧ h9 ≤ μ 1 - 1)), vr (some 90) 10], (I, H), 0, 0)
  refine WP.go 1 (And.intro (fun (b4 : ¬ bz (0 ≤ h9 ∧ h9 ≤ μ 1 - 1) = 0) => ?_) (fun (b4 : bz (0 ≤ h9 ∧ h9 ≤ μ 1 - 1) = 0) => ?_))
  ·
    show WP (Call d) 247 P X (7, [some (vr (some 90) 10), some (vi h9), some (vi m9), none], [vr (some 90) 10], (I, H), 0, 0)
    have z4 := bz_e1.mp b4
    refine WP.go 4 (And.intro (And.intro (Nat.le_of_ble_eq_true rfl) (Nat.le_of_ble_eq_true rfl)) (And.intro rfl (?_)))
    show Call d 246 [vr (some 90) 10, vi h9, vi m9] (I, H) _ _
    refine s_12_isMore (by omega) hS hM hV (by omega) ?_
    show WP (Call d) 247 P X (11, [some (vr (some 90) 10), some (vi h9), some (vi m9), none], [vi (bz ((1 ≤ m9 ∧ m9 ≤ 29) ∧ μ (121 + 2 * h9) + m9 ≤ 30)), vr (some 90) 10], (I, H), 0, 0)
    refine WP.go 1 (And.intro (fun (b11 : ¬ bz ((1 ≤ m9 ∧ m9 ≤ 29) ∧ μ (121 + 2 * h9) + m9 ≤ 30) = 0) => ?_) (fun (b11 : bz ((1 ≤ m9 ∧ m9 ≤ 29) ∧ μ (121 + 2 * h9) + m9 ≤ 30) = 0) => ?_))
    ·
      show WP (Call d) 247 P X (14, [some (vr (some 90) 10), some (vi h9), some (vi m9), none], [vr (some 90) 10], (I, H), 0, 0)
      have z11 := bz_e1.mp b11
      refine WP.go 5 (And.intro (And.intro rfl trivial) (And.intro rfl (And.intro (fun (b18 : ¬ 0 < 0) => ?_) (fun (b18 : 0 < 0) => (absurd b18 (by omega))))))
      show WP (Call d) 247 P X (21, [some (vr (some 90) 10), some (vi h9), some (vi m9), none], [], ((upI I 90 0 0), H), 0, 0)
      generalize hq_J0 : (upI I 90 0 0) = J0
      have e_J0 : J0 90 = (fun j => if j = 0 then 0 else I 90 j) := by rw [← hq_J0]; exact upI_self _ _ _ _
      have f_J0 : ∀ a, a ≠ 90 → J0 a = I a := fun a q => by rw [← hq_J0]; exact upI_cell q
      have hmf : MF I J0 := MF.t0 hK e_J0 f_J0
      have hth : J0 90 0 = 0 := by rw [e_J0]; rfl
      have hM_1 : J0 91 = μ := (f_J0 91 (by omega)).trans hM
      have hu : ∀ a, a ≠ 91 → J0 a = J0 a := fun _ _ => rfl
      refine WP.go 1 ?_
      show WP (Call d) 247 P X (22, [some (vr (some 90) 10), some (vi h9), some (vi m9), none], [vr (some 90) 10], (J0, H), 0, 0)
      have hhh := hV.hh h9 (by omega) (by omega)
      refine WP.go 10 (And.intro rfl (Exists.intro 91 (And.intro hS.r90_1 (Exists.intro (2 * h9) (And.intro (wrp_a (by omega) (by omega)) (Exists.intro (120 + (2 * h9)) (And.intro (wrp_a (by omega) (by omega)) (Exists.intro ((120 + (2 * h9)) + 1) (And.intro (wrp_a (by omega) (by omega)) (And.intro (And.intro rfl (And.intro (show 0 ≤ (120 + (2 * h9)) + 1 from by omega) (show (120 + (2 * h9)) + 1 < H.2.1 91 from by omega))) (?_)))))))))))
      refine rw_i (Q := fun x9 => WP (Call d) 247 P X (32, [some (vr (some 90) 10), some (vi h9), some (vi m9), none], [vi x9, vi ((120 + (2 * h9)) + 1), vr (some 91) 11], (J0, H), 0, 0)) (show J0 91 ((120 + (2 * h9)) + 1) = μ (121 + 2 * h9) from (congrFun hM_1 _).trans (congrArg μ (by omega))) ?_
      show WP (Call d) 247 P X (32, [some (vr (some 90) 10), some (vi h9), some (vi m9), none], [vi (μ (121 + 2 * h9)), vi ((120 + (2 * h9)) + 1), vr (some 91) 11], (J0, H), 0, 0)
      refine WP.go 3 (Exists.intro ((μ (121 + 2 * h9)) + m9) (And.intro (wrp_a (by omega) (by omega)) (And.intro (And.intro rfl (And.intro (show 0 ≤ (120 + (2 * h9)) + 1 from by omega) (show (120 + (2 * h9)) + 1 < H.2.1 91 from by omega))) (?_))))
      show WP (Call d) 247 P X (35, [some (vr (some 90) 10), some (vi h9), some (vi m9), none], [], ((upI J0 91 ((120 + (2 * h9)) + 1) ((μ (121 + 2 * h9)) + m9)), H), 0, 0)
      generalize hq_W35 : (upI J0 91 ((120 + (2 * h9)) + 1) ((μ (121 + 2 * h9)) + m9)) = W35
      have e_W35 : W35 91 = (fun j => if j = ((120 + (2 * h9)) + 1) then ((μ (121 + 2 * h9)) + m9) else J0 91 j) := by rw [← hq_W35]; exact upI_self _ _ _ _
      have f_W35 : ∀ a, a ≠ 91 → W35 a = J0 a := fun a q => by rw [← hq_W35]; exact upI_cell q
      have hM_W35 : W35 91 = st μ (121 + 2 * h9) (μ (121 + 2 * h9) + m9) := by
        have x1 : ((120 + (2 * h9)) + 1) = 121 + 2 * h9 := by omega
        have x2 : ((μ (121 + 2 * h9)) + m9) = μ (121 + 2 * h9) + m9 := by omega
        rw [e_W35, hM_1, x1, x2]; rfl
      have hu_W35 : ∀ a, a ≠ 91 → W35 a = J0 a := fun a q => (f_W35 a q).trans (hu a q)
      refine WP.go 4 (And.intro rfl (Exists.intro 91 (And.intro hS.r90_1 (And.intro (And.intro rfl (And.intro (show 0 ≤ 8 from by omega) (show 8 < H.2.1 91 from by omega))) (?_)))))
      refine rw_i (Q := fun x9 => WP (Call d) 247 P X (39, [some (vr (some 90) 10), some (vi h9), some (vi m9), none], [vi x9], (W35, H), 0, 0)) (show W35 91 8 = μ 8 from (congrFun hM_W35 _).trans (((st_n (by omega)).trans (congrArg μ (by omega))))) ?_
      show WP (Call d) 247 P X (39, [some (vr (some 90) 10), some (vi h9), some (vi m9), none], [vi (μ 8)], (W35, H), 0, 0)
      refine WP.go 2 (And.intro (fun (b40 : ¬ μ 8 = 20) => ?_) (fun (b40 : μ 8 = 20) => ?_))
      ·
        show WP (Call d) 247 P X (66, [some (vr (some 90) 10), some (vi h9), some (vi m9), none], [], (W35, H), 0, 0)
        refine WP.go 8 (And.intro rfl (Exists.intro 91 (And.intro hS.r90_1 (And.intro rfl (Exists.intro 91 (And.intro hS.r90_1 (And.intro (And.intro rfl (And.intro (show 0 ≤ 8 from by omega) (show 8 < H.2.1 91 from by omega))) (?_))))))))
        refine rw_i (Q := fun x9 => WP (Call d) 247 P X (74, [some (vr (some 90) 10), some (vi h9), some (vi m9), none], [vi x9, vi 2, vi 506, vr (some 91) 11], (W35, H), 0, 0)) (show W35 91 8 = μ 8 from (congrFun hM_W35 _).trans (((st_n (by omega)).trans (congrArg μ (by omega))))) ?_
        show WP (Call d) 247 P X (74, [some (vr (some 90) 10), some (vi h9), some (vi m9), none], [vi (μ 8), vi 2, vi 506, vr (some 91) 11], (W35, H), 0, 0)
        refine WP.go 4 (Exists.intro (2 * (μ 8)) (And.intro (wrp_a (by omega) (by omega)) (Exists.intro (506 + (2 * (μ 8))) (And.intro (wrp_a (by omega) (by omega)) (And.intro (And.intro rfl (And.intro (show 0 ≤ 506 + (2 * (μ 8)) from by omega) (show 506 + (2 * (μ 8)) < H.2.1 91 from by omega))) (?_))))))
        show WP (Call d) 247 P X (78, [some (vr (some 90) 10), some (vi h9), some (vi m9), none], [], ((upI W35 91 (506 + (2 * (μ 8))) h9), H), 0, 0)
        generalize hq_W78 : (upI W35 91 (506 + (2 * (μ 8))) h9) = W78
        have e_W78 : W78 91 = (fun j => if j = (506 + (2 * (μ 8))) then h9 else W35 91 j) := by rw [← hq_W78]; exact upI_self _ _ _ _
        have f_W78 : ∀ a, a ≠ 91 → W78 a = W35 a := fun a q => by rw [← hq_W78]; exact upI_cell q
        have hM_W78 : W78 91 = st (st μ (121 + 2 * h9) (μ (121 + 2 * h9) + m9)) (506 + 2 * μ 8) h9 := by
          have x1 : (506 + (2 * (μ 8))) = 506 + 2 * μ 8 := by omega
          have x2 : h9 = h9 := by omega
          rw [e_W78, hM_W35, x1, x2]; rfl
        have hu_W78 : ∀ a, a ≠ 91 → W78 a = J0 a := fun a q => (f_W78 a q).trans (hu_W35 a q)
        refine WP.go 8 (And.intro rfl (Exists.intro 91 (And.intro hS.r90_1 (And.intro rfl (Exists.intro 91 (And.intro hS.r90_1 (And.intro (And.intro rfl (And.intro (show 0 ≤ 8 from by omega) (show 8 < H.2.1 91 from by omega))) (?_))))))))
        refine rw_i (Q := fun x9 => WP (Call d) 247 P X (86, [some (vr (some 90) 10), some (vi h9), some (vi m9), none], [vi x9, vi 2, vi 506, vr (some 91) 11], (W78, H), 0, 0)) (show W78 91 8 = μ 8 from (congrFun hM_W78 _).trans (((st_n (by omega)).trans ((st_n (by omega)).trans (congrArg μ (by omega)))))) ?_
        show WP (Call d) 247 P X (86, [some (vr (some 90) 10), some (vi h9), some (vi m9), none], [vi (μ 8), vi 2, vi 506, vr (some 91) 11], (W78, H), 0, 0)
        refine WP.go 6 (Exists.intro (2 * (μ 8)) (And.intro (wrp_a (by omega) (by omega)) (Exists.intro (506 + (2 * (μ 8))) (And.intro (wrp_a (by omega) (by omega)) (Exists.intro ((506 + (2 * (μ 8))) + 1) (And.intro (wrp_a (by omega) (by omega)) (And.intro (And.intro rfl (And.intro (show 0 ≤ (506 + (2 * (μ 8))) + 1 from by omega) (show (506 + (2 * (μ 8))) + 1 < H.2.1 91 from by omega))) (?_))))))))
        show WP (Call d) 247 P X (92, [some (vr (some 90) 10), some (vi h9), some (vi m9), none], [], ((upI W78 91 ((506 + (2 * (μ 8))) + 1) m9), H), 0, 0)
        generalize hq_W92 : (upI W78 91 ((506 + (2 * (μ 8))) + 1) m9) = W92
        have e_W92 : W92 91 = (fun j => if j = ((506 + (2 * (μ 8))) + 1) then m9 else W78 91 j) := by rw [← hq_W92]; exact upI_self _ _ _ _
        have f_W92 : ∀ a, a ≠ 91 → W92 a = W78 a := fun a q => by rw [← hq_W92]; exact upI_cell q
        have hM_W92 : W92 91 = st (st (st μ (121 + 2 * h9) (μ (121 + 2 * h9) + m9)) (506 + 2 * μ 8) h9) (507 + 2 * μ 8) m9 := by
          have x1 : ((506 + (2 * (μ 8))) + 1) = 507 + 2 * μ 8 := by omega
          have x2 : m9 = m9 := by omega
          rw [e_W92, hM_W78, x1, x2]; rfl
        have hu_W92 : ∀ a, a ≠ 91 → W92 a = J0 a := fun a q => (f_W92 a q).trans (hu_W78 a q)
        refine WP.go 5 (And.intro rfl (Exists.intro 91 (And.intro hS.r90_1 (And.intro (And.intro rfl (And.intro (show 0 ≤ 8 from by omega) (show 8 < H.2.1 91 from by omega))) (?_)))))
        refine rw_i (Q := fun x9 => WP (Call d) 247 P X (97, [some (vr (some 90) 10), some (vi h9), some (vi m9), none], [vi x9, vi 8, vr (some 91) 11], (W92, H), 0, 0)) (show W92 91 8 = μ 8 from (congrFun hM_W92 _).trans (((st_n (by omega)).trans ((st_n (by omega)).trans ((st_n (by omega)).trans (congrArg μ (by omega))))))) ?_
        show WP (Call d) 247 P X (97, [some (vr (some 90) 10), some (vi h9), some (vi m9), none], [vi (μ 8), vi 8, vr (some 91) 11], (W92, H), 0, 0)
        refine WP.go 3 (Exists.intro ((μ 8) + 1) (And.intro (wrp_a (by omega) (by omega)) (And.intro (And.intro rfl (And.intro (show 0 ≤ 8 from by omega) (show 8 < H.2.1 91 from by omega))) (?_))))
        show WP (Call d) 247 P X (100, [some (vr (some 90) 10), some (vi h9), some (vi m9), none], [], ((upI W92 91 8 ((μ 8) + 1)), H), 0, 0)
        generalize hq_W100 : (upI W92 91 8 ((μ 8) + 1)) = W100
        have e_W100 : W100 91 = (fun j => if j = 8 then ((μ 8) + 1) else W92 91 j) := by rw [← hq_W100]; exact upI_self _ _ _ _
        have f_W100 : ∀ a, a ≠ 91 → W100 a = W92 a := fun a q => by rw [← hq_W100]; exact upI_cell q
        have hM_W100 : W100 91 = st (st (st (st μ (121 + 2 * h9) (μ (121 + 2 * h9) + m9)) (506 + 2 * μ 8) h9) (507 + 2 * μ 8) m9) 8 (1 + μ 8) := by
          have x1 : (8 : Int) = 8 := by omega
          have x2 : ((μ 8) + 1) = 1 + μ 8 := by omega
          rw [e_W100, hM_W92, x1, x2]; rfl
        have hu_W100 : ∀ a, a ≠ 91 → W100 a = J0 a := fun a q => (f_W100 a q).trans (hu_W92 a q)
        refine WP.go 3 (And.intro (And.intro (Nat.le_of_ble_eq_true rfl) (Nat.le_of_ble_eq_true rfl)) (And.intro rfl (?_)))
        show Call d 183 [vr (some 90) 10, vi h9] (W100, H) _ _
        refine s_12_heightOf (by omega) hS hM_W100 (by omega) ?_
        show WP (Call d) 247 P X (103, [some (vr (some 90) 10), some (vi h9), some (vi m9), none], [vi ((st (st (st (st μ (121 + 2 * h9) (μ (121 + 2 * h9) + m9)) (506 + 2 * μ 8) h9) (507 + 2 * μ 8) m9) 8 (1 + μ 8)) (121 + 2 * h9))], (W100, H), 0, 0)
        refine WP.go 1 (And.intro (And.intro (Nat.le_of_ble_eq_true rfl) (Nat.le_of_ble_eq_true rfl)) (And.intro trivial (?_)))
        show P (some (vi ((st (st (st (st μ (121 + 2 * h9) (μ (121 + 2 * h9) + m9)) (506 + 2 * μ 8) h9) (507 + 2 * μ 8) m9) 8 (1 + μ 8)) (121 + 2 * h9)))) (W100, H)
        exact fin_i (uBlA_h (by omega) (by omega)) (h (by omega) _ (MU.of hmf hu_W100 (by rw [show uBld μ h9 m9 = uBlA μ h9 m9 from if_neg (by omega)]; exact hM_W100)) (by rw [hu_W100 90 (by omega)]; exact hth))
      ·
        show WP (Call d) 247 P X (41, [some (vr (some 90) 10), some (vi h9), some (vi m9), none], [], (W35, H), 0, 0)
        refine WP.go 2 ?_
        show WP (Call d) 247 P X (43, [some (vr (some 90) 10), some (vi h9), some (vi m9), some (vi 506)], [], (W35, H), 0, 0)
        have lp43 : ∀ (n9 : Nat) (K : qI) (k : Int) (hm : 544 - k < (n9 : Int)) (iv0 : 506 ≤ k ∧ k ≤ 544) (iv1 : K 91 = shk (st μ (121 + 2 * h9) (μ (121 + 2 * h9) + m9)) k) (iv2 : ∀ a, a ≠ 91 → K a = J0 a), WP (Call d) 247 P X (43, [some (vr (some 90) 10), some (vi h9), some (vi m9), some (vi k)], [], (K, H), 0, 0) := by
          intro n9
          induction n9 with
          | zero => intro K k hm iv0 iv1 iv2; exact absurd hm (by omega)
          | succ n9 ih43 =>
            intro K k hm iv0 iv1 iv2
            refine WP.go 3 (And.intro (fun (b45 : ¬ k < 544) => ?_) (fun (b45 : k < 544) => ?_))
            ·
              show WP (Call d) 247 P X (58, [some (vr (some 90) 10), some (vi h9), some (vi m9), some (vi k)], [], (K, H), 0, 0)
              refine WP.go 5 (And.intro rfl (Exists.intro 91 (And.intro hS.r90_1 (And.intro (And.intro rfl (And.intro (show 0 ≤ 8 from by omega) (show 8 < H.2.1 91 from by omega))) (?_)))))
              refine rw_i (Q := fun x9 => WP (Call d) 247 P X (63, [some (vr (some 90) 10), some (vi h9), some (vi m9), some (vi k)], [vi x9, vi 8, vr (some 91) 11], (K, H), 0, 0)) (show K 91 8 = 20 from (congrFun iv1 _).trans ((if_neg (by omega)).trans ((st_n (by omega)).trans (by omega)))) ?_
              show WP (Call d) 247 P X (63, [some (vr (some 90) 10), some (vi h9), some (vi m9), some (vi k)], [vi 20, vi 8, vr (some 91) 11], (K, H), 0, 0)
              refine WP.go 3 (Exists.intro 19 (And.intro (wrp_a2 (by omega) (by omega) (by omega)) (And.intro (And.intro rfl (And.intro (show 0 ≤ 8 from by omega) (show 8 < H.2.1 91 from by omega))) (?_))))
              show WP (Call d) 247 P X (66, [some (vr (some 90) 10), some (vi h9), some (vi m9), some (vi k)], [], ((upI K 91 8 19), H), 0, 0)
              generalize hq_W66 : (upI K 91 8 19) = W66
              have e_W66 : W66 91 = (fun j => if j = 8 then 19 else K 91 j) := by rw [← hq_W66]; exact upI_self _ _ _ _
              have f_W66 : ∀ a, a ≠ 91 → W66 a = K a := fun a q => by rw [← hq_W66]; exact upI_cell q
              have hM_W66 : W66 91 = st (shk (st μ (121 + 2 * h9) (μ (121 + 2 * h9) + m9)) k) 8 19 := by
                have x1 : (8 : Int) = 8 := by omega
                have x2 : (19 : Int) = 19 := by omega
                rw [e_W66, iv1, x1, x2]; rfl
              have hu_W66 : ∀ a, a ≠ 91 → W66 a = J0 a := fun a q => (f_W66 a q).trans (iv2 a q)
              refine WP.go 8 (And.intro rfl (Exists.intro 91 (And.intro hS.r90_1 (And.intro rfl (Exists.intro 91 (And.intro hS.r90_1 (And.intro (And.intro rfl (And.intro (show 0 ≤ 8 from by omega) (show 8 < H.2.1 91 from by omega))) (?_))))))))
              refine rw_i (Q := fun x9 => WP (Call d) 247 P X (74, [some (vr (some 90) 10), some (vi h9), some (vi m9), some (vi k)], [vi x9, vi 2, vi 506, vr (some 91) 11], (W66, H), 0, 0)) (show W66 91 8 = 19 from (congrFun hM_W66 _).trans ((st_e _ _ _))) ?_
              show WP (Call d) 247 P X (74, [some (vr (some 90) 10), some (vi h9), some (vi m9), some (vi k)], [vi 19, vi 2, vi 506, vr (some 91) 11], (W66, H), 0, 0)
              refine WP.go 4 (Exists.intro 38 (And.intro (wrp_a2 (by omega) (by omega) (by omega)) (Exists.intro 544 (And.intro (wrp_a2 (by omega) (by omega) (by omega)) (And.intro (And.intro rfl (And.intro (show 0 ≤ 544 from by omega) (show 544 < H.2.1 91 from by omega))) (?_))))))
              show WP (Call d) 247 P X (78, [some (vr (some 90) 10), some (vi h9), some (vi m9), some (vi k)], [], ((upI W66 91 544 h9), H), 0, 0)
              generalize hq_W78 : (upI W66 91 544 h9) = W78
              have e_W78 : W78 91 = (fun j => if j = 544 then h9 else W66 91 j) := by rw [← hq_W78]; exact upI_self _ _ _ _
              have f_W78 : ∀ a, a ≠ 91 → W78 a = W66 a := fun a q => by rw [← hq_W78]; exact upI_cell q
              have hM_W78 : W78 91 = st (st (shk (st μ (121 + 2 * h9) (μ (121 + 2 * h9) + m9)) k) 8 19) 544 h9 := by
                have x1 : (544 : Int) = 544 := by omega
                have x2 : h9 = h9 := by omega
                rw [e_W78, hM_W66, x1, x2]; rfl
              have hu_W78 : ∀ a, a ≠ 91 → W78 a = J0 a := fun a q => (f_W78 a q).trans (hu_W66 a q)
              refine WP.go 8 (And.intro rfl (Exists.intro 91 (And.intro hS.r90_1 (And.intro rfl (Exists.intro 91 (And.intro hS.r90_1 (And.intro (And.intro rfl (And.intro (show 0 ≤ 8 from by omega) (show 8 < H.2.1 91 from by omega))) (?_))))))))
              refine rw_i (Q := fun x9 => WP (Call d) 247 P X (86, [some (vr (some 90) 10), some (vi h9), some (vi m9), some (vi k)], [vi x9, vi 2, vi 506, vr (some 91) 11], (W78, H), 0, 0)) (show W78 91 8 = 19 from (congrFun hM_W78 _).trans (((st_n (by omega)).trans ((st_e _ _ _))))) ?_
              show WP (Call d) 247 P X (86, [some (vr (some 90) 10), some (vi h9), some (vi m9), some (vi k)], [vi 19, vi 2, vi 506, vr (some 91) 11], (W78, H), 0, 0)
              refine WP.go 6 (Exists.intro 38 (And.intro (wrp_a2 (by omega) (by omega) (by omega)) (Exists.intro 544 (And.intro (wrp_a2 (by omega) (by omega) (by omega)) (Exists.intro 545 (And.intro (wrp_a2 (by omega) (by omega) (by omega)) (And.intro (And.intro rfl (And.intro (show 0 ≤ 545 from by omega) (show 545 < H.2.1 91 from by omega))) (?_))))))))
              show WP (Call d) 247 P X (92, [some (vr (some 90) 10), some (vi h9), some (vi m9), some (vi k)], [], ((upI W78 91 545 m9), H), 0, 0)
              generalize hq_W92 : (upI W78 91 545 m9) = W92
              have e_W92 : W92 91 = (fun j => if j = 545 then m9 else W78 91 j) := by rw [← hq_W92]; exact upI_self _ _ _ _
              have f_W92 : ∀ a, a ≠ 91 → W92 a = W78 a := fun a q => by rw [← hq_W92]; exact upI_cell q
              have hM_W92 : W92 91 = st (st (st (shk (st μ (121 + 2 * h9) (μ (121 + 2 * h9) + m9)) k) 8 19) 544 h9) 545 m9 := by
                have x1 : (545 : Int) = 545 := by omega
                have x2 : m9 = m9 := by omega
                rw [e_W92, hM_W78, x1, x2]; rfl
              have hu_W92 : ∀ a, a ≠ 91 → W92 a = J0 a := fun a q => (f_W92 a q).trans (hu_W78 a q)
              refine WP.go 5 (And.intro rfl (Exists.intro 91 (And.intro hS.r90_1 (And.intro (And.intro rfl (And.intro (show 0 ≤ 8 from by omega) (show 8 < H.2.1 91 from by omega))) (?_)))))
              refine rw_i (Q := fun x9 => WP (Call d) 247 P X (97, [some (vr (some 90) 10), some (vi h9), some (vi m9), some (vi k)], [vi x9, vi 8, vr (some 91) 11], (W92, H), 0, 0)) (show W92 91 8 = 19 from (congrFun hM_W92 _).trans (((st_n (by omega)).trans ((st_n (by omega)).trans ((st_e _ _ _)))))) ?_
              show WP (Call d) 247 P X (97, [some (vr (some 90) 10), some (vi h9), some (vi m9), some (vi k)], [vi 19, vi 8, vr (some 91) 11], (W92, H), 0, 0)
              refine WP.go 3 (Exists.intro 20 (And.intro (wrp_a2 (by omega) (by omega) (by omega)) (And.intro (And.intro rfl (And.intro (show 0 ≤ 8 from by omega) (show 8 < H.2.1 91 from by omega))) (?_))))
              show WP (Call d) 247 P X (100, [some (vr (some 90) 10), some (vi h9), some (vi m9), some (vi k)], [], ((upI W92 91 8 20), H), 0, 0)
              generalize hq_W100 : (upI W92 91 8 20) = W100
              have e_W100 : W100 91 = (fun j => if j = 8 then 20 else W92 91 j) := by rw [← hq_W100]; exact upI_self _ _ _ _
              have f_W100 : ∀ a, a ≠ 91 → W100 a = W92 a := fun a q => by rw [← hq_W100]; exact upI_cell q
              have hM_W100 : W100 91 = st (st (st (st (shk (st μ (121 + 2 * h9) (μ (121 + 2 * h9) + m9)) k) 8 19) 544 h9) 545 m9) 8 20 := by
                have x1 : (8 : Int) = 8 := by omega
                have x2 : (20 : Int) = 20 := by omega
                rw [e_W100, hM_W92, x1, x2]; rfl
              have hu_W100 : ∀ a, a ≠ 91 → W100 a = J0 a := fun a q => (f_W100 a q).trans (hu_W92 a q)
              refine WP.go 3 (And.intro (And.intro (Nat.le_of_ble_eq_true rfl) (Nat.le_of_ble_eq_true rfl)) (And.intro rfl (?_)))
              show Call d 183 [vr (some 90) 10, vi h9] (W100, H) _ _
              refine s_12_heightOf (by omega) hS hM_W100 (by omega) ?_
              show WP (Call d) 247 P X (103, [some (vr (some 90) 10), some (vi h9), some (vi m9), some (vi k)], [vi ((st (st (st (st (shk (st μ (121 + 2 * h9) (μ (121 + 2 * h9) + m9)) k) 8 19) 544 h9) 545 m9) 8 20) (121 + 2 * h9))], (W100, H), 0, 0)
              refine WP.go 1 (And.intro (And.intro (Nat.le_of_ble_eq_true rfl) (Nat.le_of_ble_eq_true rfl)) (And.intro trivial (?_)))
              show P (some (vi ((st (st (st (st (shk (st μ (121 + 2 * h9) (μ (121 + 2 * h9) + m9)) k) 8 19) 544 h9) 545 m9) 8 20) (121 + 2 * h9)))) (W100, H)
              exact fin_i (by rw [show k = 544 by omega]; exact uBlB_h (by omega)) (h (by omega) _ (MU.of hmf hu_W100 (by rw [show uBld μ h9 m9 = uBlB μ h9 m9 from if_pos (by omega), hM_W100, show k = 544 by omega]; rfl)) (by rw [hu_W100 90 (by omega)]; exact hth))
            ·
              show WP (Call d) 247 P X (46, [some (vr (some 90) 10), some (vi h9), some (vi m9), some (vi k)], [], (K, H), 0, 0)
              refine WP.go 9 (And.intro rfl (Exists.intro 91 (And.intro hS.r90_1 (And.intro rfl (Exists.intro 91 (And.intro hS.r90_1 (Exists.intro (k + 2) (And.intro (wrp_a (by omega) (by omega)) (And.intro (And.intro rfl (And.intro (show 0 ≤ k + 2 from by omega) (show k + 2 < H.2.1 91 from by omega))) (?_))))))))))
              refine rw_i (Q := fun x9 => WP (Call d) 247 P X (55, [some (vr (some 90) 10), some (vi h9), some (vi m9), some (vi k)], [vi x9, vi k, vr (some 91) 11], (K, H), 0, 0)) (show K 91 (k + 2) = st μ (121 + 2 * h9) (μ (121 + 2 * h9) + m9) (k + 2) from (congrFun iv1 _).trans (if_neg (by omega))) ?_
              show WP (Call d) 247 P X (55, [some (vr (some 90) 10), some (vi h9), some (vi m9), some (vi k)], [vi (st μ (121 + 2 * h9) (μ (121 + 2 * h9) + m9) (k + 2)), vi k, vr (some 91) 11], (K, H), 0, 0)
              refine WP.go 1 (And.intro (And.intro rfl (And.intro (show 0 ≤ k from by omega) (show k < H.2.1 91 from by omega))) (?_))
              show WP (Call d) 247 P X (56, [some (vr (some 90) 10), some (vi h9), some (vi m9), some (vi k)], [], ((upI K 91 k (st μ (121 + 2 * h9) (μ (121 + 2 * h9) + m9) (k + 2))), H), 0, 0)
              generalize hq_W56 : (upI K 91 k (st μ (121 + 2 * h9) (μ (121 + 2 * h9) + m9) (k + 2))) = W56
              have e_W56 : W56 91 = (fun j => if j = k then (st μ (121 + 2 * h9) (μ (121 + 2 * h9) + m9) (k + 2)) else K 91 j) := by rw [← hq_W56]; exact upI_self _ _ _ _
              have f_W56 : ∀ a, a ≠ 91 → W56 a = K a := fun a q => by rw [← hq_W56]; exact upI_cell q
              have hM_W56 : W56 91 = st (shk (st μ (121 + 2 * h9) (μ (121 + 2 * h9) + m9)) k) k (st μ (121 + 2 * h9) (μ (121 + 2 * h9) + m9) (k + 2)) := by
                have x1 : k = k := by omega
                have x2 : (st μ (121 + 2 * h9) (μ (121 + 2 * h9) + m9) (k + 2)) = st μ (121 + 2 * h9) (μ (121 + 2 * h9) + m9) (k + 2) := by omega
                rw [e_W56, iv1, x1, x2]; rfl
              have hu_W56 : ∀ a, a ≠ 91 → W56 a = J0 a := fun a q => (f_W56 a q).trans (iv2 a q)
              refine WP.go 2 (Exists.intro (k + 1) (And.intro (wrp_a (by omega) (by omega)) (?_)))
              show WP (Call d) 247 P X (43, [some (vr (some 90) 10), some (vi h9), some (vi m9), some (vi (k + 1))], [], (W56, H), 0, 0)
              exact ih43 W56 (k + 1) (by omega) (by omega) (by rw [hM_W56]; exact shk_s _ iv0.1) hu_W56
        exact lp43 ((544 - 506 : Int).toNat + 1) W35 506 (by omega) (by omega) (by rw [hM_W35, shk_0]) hu_W35
    ·
      show WP (Call d) 247 P X (12, [some (vr (some 90) 10), some (vi h9), some (vi m9), none], [vr (some 90) 10], (I, H), 0, 0)
      have z11 := bz_e0.mp b11
      refine WP.go 6 (And.intro (And.intro rfl trivial) (And.intro rfl (And.intro (fun (b18 : ¬ 0 < 2) => (absurd b18 (by omega))) (fun (b18 : 0 < 2) => ?_))))
      show WP (Call d) 247 P X (19, [some (vr (some 90) 10), some (vi h9), some (vi m9), none], [], ((upI I 90 0 2), H), 0, 0)
      refine WP.go 2 (And.intro (And.intro (Nat.le_of_ble_eq_true rfl) (Nat.le_of_ble_eq_true rfl)) (And.intro trivial (?_)))
      show P (some (vi 0)) ((upI I 90 0 2), H)
      exact hk2 (by omega) _ 0 (.inl rfl) (MF.th hK _) (upI_same _ _ _ _)
  ·
    show WP (Call d) 247 P X (5, [some (vr (some 90) 10), some (vi h9), some (vi m9), none], [vr (some 90) 10], (I, H), 0, 0)
    have z4 := bz_e0.mp b4
    refine WP.go 6 (And.intro (And.intro rfl trivial) (And.intro rfl (And.intro (fun (b18 : ¬ 0 < 1) => (absurd b18 (by omega))) (fun (b18 : 0 < 1) => ?_))))
    show WP (Call d) 247 P X (19, [some (vr (some 90) 10), some (vi h9), some (vi m9), none], [], ((upI I 90 0 1), H), 0, 0)
    refine WP.go 2 (And.intro (And.intro (Nat.le_of_ble_eq_true rfl) (Nat.le_of_ble_eq_true rfl)) (And.intro trivial (?_)))
    show P (some (vi 0)) ((upI I 90 0 1), H)
    exact hk1 (by omega) _ 0 (.inl rfl) (MF.th hK _) (upI_same _ _ _ _)

