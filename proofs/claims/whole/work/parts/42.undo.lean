def uUnd (μ : Int → Int) : Int → Int := st (st μ 8 (-1 + μ 8)) (121 + 2 * μ (504 + 2 * μ 8)) (μ (121 + 2 * μ (504 + 2 * μ 8)) - μ (505 + 2 * μ 8))
theorem und_h {μ : Int → Int} (hV : IM μ) (h8 : 1 ≤ μ 8) : (0 ≤ μ (504 + 2 * μ 8) ∧ μ (504 + 2 * μ 8) < μ 1) ∧ (1 ≤ μ (505 + 2 * μ 8) ∧ μ (505 + 2 * μ 8) ≤ 29) := by
  have a := hV.bh (μ 8 - 1) (by omega) (by omega)
  have b := hV.bm (μ 8 - 1) (by omega) (by omega)
  rw [show 506 + 2 * (μ 8 - 1) = 504 + 2 * μ 8 by omega] at a
  rw [show 507 + 2 * (μ 8 - 1) = 505 + 2 * μ 8 by omega] at b
  exact ⟨a, b⟩
theorem bsum_s {μ : Int → Int} {h k : Int} (hk : 0 ≤ k) : bsum μ h (k + 1) = bsum μ h k + (if μ (506 + 2 * k) = h then μ (507 + 2 * k) else 0) := sI_succ hk
theorem bsum_0 {μ : Int → Int} (hV : IM μ) {h k : Int} (hk : 0 ≤ k) (h8 : k ≤ μ 8) : 0 ≤ bsum μ h k := by
  have := sI_bd (f := fun i => if μ (506 + 2 * i) = h then μ (507 + 2 * i) else 0) 0 29 hk (fun i q0 q1 => by have := hV.bm i q0 (by omega); show 0 ≤ (if μ (506 + 2 * i) = h then μ (507 + 2 * i) else 0) ∧ (if μ (506 + 2 * i) = h then μ (507 + 2 * i) else 0) ≤ 29; split <;> omega)
  unfold bsum
  omega
theorem uUnd_o (μ : Int → Int) : ∀ j, j ≠ 8 ∧ j ≠ 121 + 2 * μ (504 + 2 * μ 8) → uUnd μ j = μ j := fun j q => (st_n q.2).trans (st_n q.1)
theorem uUnd_8 {μ : Int → Int} (h : 0 ≤ μ (504 + 2 * μ 8)) : uUnd μ 8 = -1 + μ 8 := (st_n (by omega)).trans (st_e _ _ _)
theorem uUnd_h (μ : Int → Int) : uUnd μ (121 + 2 * μ (504 + 2 * μ 8)) = μ (121 + 2 * μ (504 + 2 * μ 8)) - μ (505 + 2 * μ 8) := st_e _ _ _
theorem und_b {μ : Int → Int} (h8 : 1 ≤ μ 8) (h : Int) : bsum μ h (μ 8) = bsum μ h (-1 + μ 8) + (if μ (504 + 2 * μ 8) = h then μ (505 + 2 * μ 8) else 0) := by
  have := bsum_s (μ := μ) (h := h) (k := -1 + μ 8) (by omega)
  rw [show -1 + μ 8 + 1 = μ 8 by omega, show 506 + 2 * (-1 + μ 8) = 504 + 2 * μ 8 by omega, show 507 + 2 * (-1 + μ 8) = 505 + 2 * μ 8 by omega] at this
  exact this
theorem TR_uUnd {I J : qI} {μ : Int → Int} (hT : TR 6 I μ) (hV : IM μ) (h8 : 1 ≤ μ 8) (e : J 8 = fun j => if j = μ (504 + 2 * μ 8) * 2 + 1 then μ (121 + 2 * μ (504 + 2 * μ 8)) - μ (505 + 2 * μ 8) else I 8 j) (f : J 21 = fun s => if s = 3 then μ 8 - 1 else I 21 s) (F : ∀ a, a ≠ 8 → a ≠ 21 → J a = I a) : TR 6 J (uUnd μ) := by
  have hE := uUnd_o μ
  have ⟨hq, hm⟩ := und_h hV h8
  have V8 := uUnd_8 hq.1
  have VH := uUnd_h μ
  have hn1 := hV.n1
  have hn2 := hV.n2
  have hn3 := hV.n3
  have hn4 := hV.n4
  have hn5 := hV.n5
  have hn6 := hV.n6
  have hn7 := hV.n7
  have hn8 := hV.n8
  exact ⟨⟨(congrFun (F 7 (by omega) (by omega)) 0).trans hT.c.a1, (congrFun (F 7 (by omega) (by omega)) 1).trans hT.c.b1, (congrFun (F 9 (by omega) (by omega)) 0).trans hT.c.a3, (congrFun (F 9 (by omega) (by omega)) 1).trans hT.c.b3, (congrFun (F 11 (by omega) (by omega)) 0).trans hT.c.a5, (congrFun (F 11 (by omega) (by omega)) 1).trans hT.c.b5, (congrFun (F 13 (by omega) (by omega)) 0).trans hT.c.a7, (congrFun (F 13 (by omega) (by omega)) 1).trans hT.c.b7, (congrFun (F 15 (by omega) (by omega)) 0).trans hT.c.a9, (congrFun (F 15 (by omega) (by omega)) 1).trans hT.c.b9, (congrFun (F 17 (by omega) (by omega)) 0).trans hT.c.a11, (congrFun (F 17 (by omega) (by omega)) 1).trans hT.c.b11, (congrFun (F 19 (by omega) (by omega)) 0).trans hT.c.a13, (congrFun (F 19 (by omega) (by omega)) 1).trans hT.c.b13, (by rw [f]; exact hT.c.a15), (by rw [f]; exact hT.c.b15)⟩,
  (congrFun (F 7 (by omega) (by omega)) 3).trans (hT.r1.trans (hE 1 (by omega)).symm),
  (congrFun (F 9 (by omega) (by omega)) 3).trans (hT.r3.trans (hE 2 (by omega)).symm),
  (congrFun (F 11 (by omega) (by omega)) 3).trans (hT.r5.trans (hE 1 (by omega)).symm),
  (congrFun (F 13 (by omega) (by omega)) 3).trans (hT.r7.trans (hE 4 (by omega)).symm),
  (congrFun (F 15 (by omega) (by omega)) 3).trans (hT.r9.trans (hE 5 (by omega)).symm),
  (congrFun (F 17 (by omega) (by omega)) 3).trans (hT.r11.trans (hE 6 (by omega)).symm),
  (congrFun (F 19 (by omega) (by omega)) 3).trans (hT.r13.trans (hE 7 (by omega)).symm),
  by rw [f, V8]; show μ 8 - 1 = -1 + μ 8; omega,
  (congrFun (F 6 (by omega) (by omega)) 12).trans (hT.lc.trans (hE 3 (by omega)).symm),
  (congrFun (F 6 (by omega) (by omega)) 13).trans (hT.tx.trans (hE 0 (by omega)).symm),
  fun r q0 q1 => by
    rw [hE 1 (by omega)] at q1
    by_cases z : r = μ (504 + 2 * μ 8)
    · rw [z, e, VH, hE (120 + 2 * μ (504 + 2 * μ 8)) (by omega)]; exact ⟨(if_neg (by omega)).trans (hT.q1 _ hq.1 hq.2).1, if_pos rfl⟩
    · rw [e, hE (120 + 2 * r) (by omega), hE (121 + 2 * r) (by omega)]; exact ⟨(if_neg (by omega)).trans (hT.q1 r q0 q1).1, (if_neg (by omega)).trans (hT.q1 r q0 q1).2⟩,
  fun r q0 q1 => by
    rw [hE 2 (by omega)] at q1
    rw [(F 10 (by omega) (by omega)), hE (140 + 3 * r) (by omega), hE (141 + 3 * r) (by omega), hE (142 + 3 * r) (by omega)]
    exact hT.q3 r q0 q1,
  fun r q0 q1 => by
    rw [hE 1 (by omega)] at q1
    rw [(F 12 (by omega) (by omega)), hE (210 + 2 * r) (by omega), hE (211 + 2 * r) (by omega), hE (200 + r) (by omega)]
    exact hT.q5 r q0 q1,
  fun r q0 q1 => by
    rw [hE 4 (by omega)] at q1
    rw [(F 14 (by omega) (by omega)), hE (332 + 4 * r) (by omega), hE (333 + 4 * r) (by omega), hE (331 + 4 * r) (by omega), hE (330 + 4 * r) (by omega)]
    exact hT.q7 r q0 q1,
  fun r q0 q1 => by
    rw [hE 5 (by omega)] at q1
    rw [(F 16 (by omega) (by omega)), hE (395 + 3 * r) (by omega), hE (396 + 3 * r) (by omega), hE (394 + 3 * r) (by omega)]
    exact hT.q9 r q0 q1,
  fun r q0 q1 => by
    rw [hE 6 (by omega)] at q1
    rw [(F 18 (by omega) (by omega)), hE (442 + 2 * r) (by omega), hE (443 + 2 * r) (by omega)]
    exact hT.q11 r q0 q1,
  fun r q0 q1 => by
    rw [hE 7 (by omega)] at q1
    rw [(F 20 (by omega) (by omega)), hE (458 + 3 * r) (by omega), hE (459 + 3 * r) (by omega), hE (460 + 3 * r) (by omega)]
    exact hT.q13 r q0 q1,
  fun r q0 q1 => by
    rw [V8] at q1
    rw [(F 22 (by omega) (by omega)), hE (506 + 2 * r) (by omega), hE (507 + 2 * r) (by omega)]
    exact hT.q15 r q0 (by omega),
  fun i q0 q1 => by rw [(F 23 (by omega) (by omega)), hE (9 + i) (by omega)]; exact hT.di i q0 q1,
  fun y q0 q1 => by rw [(F 24 (by omega) (by omega)), hE (20 + y) (by omega)]; exact hT.wi y q0 q1,
  fun y q0 q1 => by rw [(F 25 (by omega) (by omega)), hE (230 + y) (by omega)]; exact hT.ro y q0 q1⟩
theorem IM_uUnd {μ : Int → Int} (hV : IM μ) (h8 : 1 ≤ μ 8) : IM (uUnd μ) := by
  have hE := uUnd_o μ
  have ⟨hq, hm⟩ := und_h hV h8
  have V8 := uUnd_8 hq.1
  have VH := uUnd_h μ
  have hn1 := hV.n1
  have hn2 := hV.n2
  have hn3 := hV.n3
  have hn4 := hV.n4
  have hn5 := hV.n5
  have hn6 := hV.n6
  have hn7 := hV.n7
  have hn8 := hV.n8
  have b1 := und_b h8 (μ (504 + 2 * μ 8))
  rw [if_pos rfl] at b1
  have b2 := hV.bs _ hq.1 hq.2
  have b3 := bsum_0 hV (h := μ (504 + 2 * μ 8)) (k := -1 + μ 8) (by omega) (by omega)
  have b4 := hV.hh _ hq.1 hq.2
  exact ⟨by rw [hE 0 (by omega)]; exact hV.n0,
  by rw [hE 1 (by omega)]; exact hV.n1,
  by rw [hE 2 (by omega)]; exact hV.n2,
  by rw [hE 3 (by omega)]; exact hV.n3,
  by rw [hE 4 (by omega)]; exact hV.n4,
  by rw [hE 5 (by omega)]; exact hV.n5,
  by rw [hE 6 (by omega)]; exact hV.n6,
  by rw [hE 7 (by omega)]; exact hV.n7,
  by rw [V8]; omega,
  by rw [hE 9 (by omega)]; exact hV.st,
  by rw [hE 10 (by omega)]; exact hV.ra,
  by rw [hE 11 (by omega)]; exact hV.ba,
  by rw [hE 12 (by omega)]; exact hV.se,
  by rw [hE 13 (by omega)]; exact hV.gu,
  fun y q0 q1 => by rw [hE (20 + y) (by omega)]; exact hV.wi y q0 q1,
  fun y q0 q1 => by rw [hE (230 + y) (by omega)]; exact hV.ro y q0 q1,
  fun h q0 q1 => by
    rw [hE 1 (by omega)] at q1
    rw [hE (120 + 2 * h) (by omega)]
    exact hV.hc h q0 q1,
  fun r q0 q1 => by
    rw [hE 1 (by omega)] at q1
    by_cases z : r = μ (504 + 2 * μ 8)
    · rw [z, VH]; omega
    · rw [hE (121 + 2 * r) (by omega)]; exact hV.hh r q0 q1,
  fun h k q0 q1 q2 q3 q4 => by
    rw [hE 1 (by omega)] at q1 q3
    rw [hE (120 + 2 * h) (by omega), hE (120 + 2 * k) (by omega)] at q4
    exact hV.hd h k q0 q1 q2 q3 q4,
  fun w q0 q1 => by
    rw [hE 2 (by omega)] at q1
    rw [hE (140 + 3 * w) (by omega), hE (1) (by omega)]
    exact hV.wh w q0 q1,
  fun w q0 q1 => by
    rw [hE 2 (by omega)] at q1
    rw [hE (141 + 3 * w) (by omega)]
    exact hV.wf w q0 q1,
  fun w q0 q1 => by
    rw [hE 2 (by omega)] at q1
    rw [hE (142 + 3 * w) (by omega)]
    exact hV.wu w q0 q1,
  fun f q0 q1 => by
    rw [hE 1 (by omega)] at q1
    rw [hE (200 + f) (by omega), hE (1) (by omega)]
    exact hV.li f q0 q1,
  fun f k q0 q1 q2 q3 q4 => by
    rw [hE 1 (by omega)] at q1 q3
    rw [hE (200 + f) (by omega), hE (200 + k) (by omega)] at q4
    exact hV.lj f k q0 q1 q2 q3 q4,
  fun f q0 q1 => by
    rw [hE 1 (by omega)] at q1
    rw [hE (210 + 2 * f) (by omega), hE (211 + 2 * f) (by omega)]
    exact hV.wa f q0 q1,
  fun l q0 q1 => by
    rw [hE 4 (by omega)] at q1
    rw [hE (330 + 4 * l) (by omega), hE (3) (by omega)]
    exact hV.le l q0 q1,
  fun l q0 q1 => by
    rw [hE 4 (by omega)] at q1
    rw [hE (331 + 4 * l) (by omega), hE (1) (by omega)]
    exact hV.lh l q0 q1,
  fun l q0 q1 => by
    rw [hE 4 (by omega)] at q1
    rw [hE (332 + 4 * l) (by omega), hE (333 + 4 * l) (by omega)]
    exact hV.ly l q0 q1,
  fun p q0 q1 => by
    rw [hE 5 (by omega)] at q1
    rw [hE (394 + 3 * p) (by omega), hE (2) (by omega)]
    exact hV.pw p q0 q1,
  fun p q0 q1 => by
    rw [hE 5 (by omega)] at q1
    rw [hE (395 + 3 * p) (by omega), hE (396 + 3 * p) (by omega)]
    exact hV.py p q0 q1,
  fun d q0 q1 => by
    rw [hE 6 (by omega)] at q1
    rw [hE (442 + 2 * d) (by omega)]
    exact hV.da d q0 q1,
  fun d q0 q1 => by
    rw [hE 6 (by omega)] at q1
    rw [hE (443 + 2 * d) (by omega)]
    exact hV.db d q0 q1,
  fun p q0 q1 => by
    rw [hE 7 (by omega)] at q1
    rw [hE (458 + 3 * p) (by omega), hE (2) (by omega)]
    exact hV.pp p q0 q1,
  fun p q0 q1 => by
    rw [hE 7 (by omega)] at q1
    rw [hE (459 + 3 * p) (by omega)]
    exact hV.ph p q0 q1,
  fun p q0 q1 => by
    rw [hE 7 (by omega)] at q1
    rw [hE (460 + 3 * p) (by omega)]
    exact hV.pl p q0 q1,
  fun r q0 q1 => by
    rw [V8] at q1
    rw [hE (506 + 2 * r) (by omega), hE 1 (by omega)]
    exact hV.bh r q0 (by omega),
  fun r q0 q1 => by
    rw [V8] at q1
    rw [hE (507 + 2 * r) (by omega)]
    exact hV.bm r q0 (by omega),
  fun r q0 q1 => by
    rw [hE 1 (by omega)] at q1
    rw [V8, bsum_c (fun i z0 z1 => ⟨hE (506 + 2 * i) (by omega), hE (507 + 2 * i) (by omega)⟩)]
    by_cases z : r = μ (504 + 2 * μ 8)
    · rw [z, VH]; omega
    · rw [hE (121 + 2 * r) (by omega)]
      have c1 := und_b h8 r
      rw [if_neg (fun w => z w.symm)] at c1
      have c2 := hV.bs r q0 q1
      omega⟩
theorem s_12_undo {d : Nat} {P : Option qV → qH → Prop} {X : Nat → qH → Prop} {I : qI} {H : qS} {μ : Int → Int} (hd : 1 ≤ d) (hS : Shp H) (hM : I 91 = μ) (hV : IM μ) (hK : MS I) (h : (μ 8 = 0 → ∀ J : qI, MF I J → J 90 0 = 0 → P (some (vi (-1))) (J, H)) ∧ (1 ≤ μ 8 → ∀ J : qI, MU I J (uUnd μ) → J 90 0 = 0 → P (some (vi (μ (504 + 2 * μ 8)))) (J, H))) :
    Call d 248 [vr (some 90) 10] (I, H) P X := by
  obtain ⟨d, rfl⟩ : ∃ e, d = e + 1 := ⟨d - 1, by omega⟩
  have hl91 := hS.l91
  obtain ⟨tb, h30⟩ : ∃ tb, I 90 30 = tb := ⟨_, rfl⟩
  obtain ⟨mo, h23⟩ : ∃ mo, I 90 23 = mo := ⟨_, rfl⟩
  have htb : 0 ≤ tb ∧ tb ≤ 29 := by have := hK.2.2.2; omega
  have hmo : (-1 : Int) = -1 ∨ (0 ≤ mo ∧ mo ≤ 48) := .inl rfl
  have h22 := hK.1
  have h29 := hK.2.1
  have hn8 := hV.n8
  have hn1 := hV.n1
  show WP (Call d) 248 P X (0, [some (vr (some 90) 10), none], [], (I, H), 0, 0)
  refine WP.go 3 (And.intro (And.intro rfl trivial) (?_))
  show WP (Call d) 248 P X (3, [some (vr (some 90) 10), none], [], ((upI I 90 0 0), H), 0, 0)
  generalize hq_J0 : (upI I 90 0 0) = J0
  have e_J0 : J0 90 = (fun j => if j = 0 then 0 else I 90 j) := by rw [← hq_J0]; exact upI_self _ _ _ _
  have f_J0 : ∀ a, a ≠ 90 → J0 a = I a := fun a q => by rw [← hq_J0]; exact upI_cell q
  have hmf : MF I J0 := MF.t0 hK e_J0 f_J0
  have hth : J0 90 0 = 0 := by rw [e_J0]; rfl
  have hM_1 : J0 91 = μ := (f_J0 91 (by omega)).trans hM
  have hu : ∀ a, a ≠ 91 → J0 a = J0 a := fun _ _ => rfl
  refine WP.go 4 (And.intro rfl (Exists.intro 91 (And.intro hS.r90_1 (And.intro (And.intro rfl (And.intro (show 0 ≤ 8 from by omega) (show 8 < H.2.1 91 from by omega))) (?_)))))
  refine rw_i (Q := fun x9 => WP (Call d) 248 P X (7, [some (vr (some 90) 10), none], [vi x9], (J0, H), 0, 0)) (congrFun hM_1 _) ?_
  show WP (Call d) 248 P X (7, [some (vr (some 90) 10), none], [vi (μ 8)], (J0, H), 0, 0)
  refine WP.go 1 (And.intro (fun (b7 : ¬ μ 8 = 0) => ?_) (fun (b7 : μ 8 = 0) => ?_))
  ·
    show WP (Call d) 248 P X (10, [some (vr (some 90) 10), none], [], (J0, H), 0, 0)
    have ⟨hq, hm⟩ := und_h hV (show 1 ≤ μ 8 by omega)
    have hh := hV.hh _ hq.1 hq.2
    refine WP.go 5 (And.intro rfl (Exists.intro 91 (And.intro hS.r90_1 (And.intro (And.intro rfl (And.intro (show 0 ≤ 8 from by omega) (show 8 < H.2.1 91 from by omega))) (?_)))))
    refine rw_i (Q := fun x9 => WP (Call d) 248 P X (15, [some (vr (some 90) 10), none], [vi x9, vi 8, vr (some 91) 11], (J0, H), 0, 0)) (congrFun hM_1 _) ?_
    show WP (Call d) 248 P X (15, [some (vr (some 90) 10), none], [vi (μ 8), vi 8, vr (some 91) 11], (J0, H), 0, 0)
    refine WP.go 3 (Exists.intro ((μ 8) - 1) (And.intro (wrp_a (by omega) (by omega)) (And.intro (And.intro rfl (And.intro (show 0 ≤ 8 from by omega) (show 8 < H.2.1 91 from by omega))) (?_))))
    show WP (Call d) 248 P X (18, [some (vr (some 90) 10), none], [], ((upI J0 91 8 ((μ 8) - 1)), H), 0, 0)
    generalize hq_W18 : (upI J0 91 8 ((μ 8) - 1)) = W18
    have e_W18 : W18 91 = (fun j => if j = 8 then ((μ 8) - 1) else J0 91 j) := by rw [← hq_W18]; exact upI_self _ _ _ _
    have f_W18 : ∀ a, a ≠ 91 → W18 a = J0 a := fun a q => by rw [← hq_W18]; exact upI_cell q
    have hM_W18 : W18 91 = st μ 8 (-1 + μ 8) := by
      have x1 : (8 : Int) = 8 := by omega
      have x2 : ((μ 8) - 1) = -1 + μ 8 := by omega
      rw [e_W18, hM_1, x1, x2]; rfl
    have hu_W18 : ∀ a, a ≠ 91 → W18 a = J0 a := fun a q => (f_W18 a q).trans (hu a q)
    refine WP.go 8 (And.intro rfl (Exists.intro 91 (And.intro hS.r90_1 (And.intro rfl (Exists.intro 91 (And.intro hS.r90_1 (And.intro (And.intro rfl (And.intro (show 0 ≤ 8 from by omega) (show 8 < H.2.1 91 from by omega))) (?_))))))))
    refine rw_i (Q := fun x9 => WP (Call d) 248 P X (26, [some (vr (some 90) 10), none], [vi x9, vi 2, vi 506, vr (some 91) 11], (W18, H), 0, 0)) (show W18 91 8 = (-1 + μ 8) from (congrFun hM_W18 _).trans ((st_e _ _ _))) ?_
    show WP (Call d) 248 P X (26, [some (vr (some 90) 10), none], [vi (-1 + μ 8), vi 2, vi 506, vr (some 91) 11], (W18, H), 0, 0)
    refine WP.go 3 (Exists.intro (2 * (-1 + μ 8)) (And.intro (wrp_a (by omega) (by omega)) (Exists.intro (506 + (2 * (-1 + μ 8))) (And.intro (wrp_a (by omega) (by omega)) (And.intro (And.intro rfl (And.intro (show 0 ≤ 506 + (2 * (-1 + μ 8)) from by omega) (show 506 + (2 * (-1 + μ 8)) < H.2.1 91 from by omega))) (?_))))))
    refine rw_i (Q := fun x9 => WP (Call d) 248 P X (29, [some (vr (some 90) 10), none], [vi x9], (W18, H), 0, 0)) (show W18 91 (506 + (2 * (-1 + μ 8))) = μ (504 + 2 * μ 8) from (congrFun hM_W18 _).trans ((congrArg (st μ 8 (-1 + μ 8)) (show 506 + (2 * (-1 + μ 8)) = 504 + 2 * μ 8 by omega)).trans ((st_n (by omega)).trans (congrArg μ (by omega))))) ?_
    show WP (Call d) 248 P X (29, [some (vr (some 90) 10), none], [vi (μ (504 + 2 * μ 8))], (W18, H), 0, 0)
    refine WP.go 12 (And.intro rfl (Exists.intro 91 (And.intro hS.r90_1 (Exists.intro (2 * (μ (504 + 2 * μ 8))) (And.intro (wrp_a (by omega) (by omega)) (Exists.intro (120 + (2 * (μ (504 + 2 * μ 8)))) (And.intro (wrp_a (by omega) (by omega)) (Exists.intro ((120 + (2 * (μ (504 + 2 * μ 8)))) + 1) (And.intro (wrp_a (by omega) (by omega)) (And.intro (And.intro rfl (And.intro (show 0 ≤ (120 + (2 * (μ (504 + 2 * μ 8)))) + 1 from by omega) (show (120 + (2 * (μ (504 + 2 * μ 8)))) + 1 < H.2.1 91 from by omega))) (?_)))))))))))
    refine rw_i (Q := fun x9 => WP (Call d) 248 P X (41, [some (vr (some 90) 10), some (vi (μ (504 + 2 * μ 8)))], [vi x9, vi ((120 + (2 * (μ (504 + 2 * μ 8)))) + 1), vr (some 91) 11], (W18, H), 0, 0)) (show W18 91 ((120 + (2 * (μ (504 + 2 * μ 8)))) + 1) = μ (121 + 2 * μ (504 + 2 * μ 8)) from (congrFun hM_W18 _).trans ((congrArg (st μ 8 (-1 + μ 8)) (show (120 + (2 * (μ (504 + 2 * μ 8)))) + 1 = 121 + 2 * μ (504 + 2 * μ 8) by omega)).trans ((st_n (by omega)).trans (congrArg μ (by omega))))) ?_
    show WP (Call d) 248 P X (41, [some (vr (some 90) 10), some (vi (μ (504 + 2 * μ 8)))], [vi (μ (121 + 2 * μ (504 + 2 * μ 8))), vi ((120 + (2 * (μ (504 + 2 * μ 8)))) + 1), vr (some 91) 11], (W18, H), 0, 0)
    refine WP.go 8 (And.intro rfl (Exists.intro 91 (And.intro hS.r90_1 (And.intro rfl (Exists.intro 91 (And.intro hS.r90_1 (And.intro (And.intro rfl (And.intro (show 0 ≤ 8 from by omega) (show 8 < H.2.1 91 from by omega))) (?_))))))))
    refine rw_i (Q := fun x9 => WP (Call d) 248 P X (49, [some (vr (some 90) 10), some (vi (μ (504 + 2 * μ 8)))], [vi x9, vi 2, vi 506, vr (some 91) 11, vi (μ (121 + 2 * μ (504 + 2 * μ 8))), vi ((120 + (2 * (μ (504 + 2 * μ 8)))) + 1), vr (some 91) 11], (W18, H), 0, 0)) (show W18 91 8 = (-1 + μ 8) from (congrFun hM_W18 _).trans ((st_e _ _ _))) ?_
    show WP (Call d) 248 P X (49, [some (vr (some 90) 10), some (vi (μ (504 + 2 * μ 8)))], [vi (-1 + μ 8), vi 2, vi 506, vr (some 91) 11, vi (μ (121 + 2 * μ (504 + 2 * μ 8))), vi ((120 + (2 * (μ (504 + 2 * μ 8)))) + 1), vr (some 91) 11], (W18, H), 0, 0)
    refine WP.go 5 (Exists.intro (2 * (-1 + μ 8)) (And.intro (wrp_a (by omega) (by omega)) (Exists.intro (506 + (2 * (-1 + μ 8))) (And.intro (wrp_a (by omega) (by omega)) (Exists.intro ((506 + (2 * (-1 + μ 8))) + 1) (And.intro (wrp_a (by omega) (by omega)) (And.intro (And.intro rfl (And.intro (show 0 ≤ (506 + (2 * (-1 + μ 8))) + 1 from by omega) (show (506 + (2 * (-1 + μ 8))) + 1 < H.2.1 91 from by omega))) (?_))))))))
    refine rw_i (Q := fun x9 => WP (Call d) 248 P X (54, [some (vr (some 90) 10), some (vi (μ (504 + 2 * μ 8)))], [vi x9, vi (μ (121 + 2 * μ (504 + 2 * μ 8))), vi ((120 + (2 * (μ (504 + 2 * μ 8)))) + 1), vr (some 91) 11], (W18, H), 0, 0)) (show W18 91 ((506 + (2 * (-1 + μ 8))) + 1) = μ (505 + 2 * μ 8) from (congrFun hM_W18 _).trans ((congrArg (st μ 8 (-1 + μ 8)) (show (506 + (2 * (-1 + μ 8))) + 1 = 505 + 2 * μ 8 by omega)).trans ((st_n (by omega)).trans (congrArg μ (by omega))))) ?_
    show WP (Call d) 248 P X (54, [some (vr (some 90) 10), some (vi (μ (504 + 2 * μ 8)))], [vi (μ (505 + 2 * μ 8)), vi (μ (121 + 2 * μ (504 + 2 * μ 8))), vi ((120 + (2 * (μ (504 + 2 * μ 8)))) + 1), vr (some 91) 11], (W18, H), 0, 0)
    refine WP.go 2 (Exists.intro ((μ (121 + 2 * μ (504 + 2 * μ 8))) - (μ (505 + 2 * μ 8))) (And.intro (wrp_a (by omega) (by omega)) (And.intro (And.intro rfl (And.intro (show 0 ≤ (120 + (2 * (μ (504 + 2 * μ 8)))) + 1 from by omega) (show (120 + (2 * (μ (504 + 2 * μ 8)))) + 1 < H.2.1 91 from by omega))) (?_))))
    show WP (Call d) 248 P X (56, [some (vr (some 90) 10), some (vi (μ (504 + 2 * μ 8)))], [], ((upI W18 91 ((120 + (2 * (μ (504 + 2 * μ 8)))) + 1) ((μ (121 + 2 * μ (504 + 2 * μ 8))) - (μ (505 + 2 * μ 8)))), H), 0, 0)
    generalize hq_W56 : (upI W18 91 ((120 + (2 * (μ (504 + 2 * μ 8)))) + 1) ((μ (121 + 2 * μ (504 + 2 * μ 8))) - (μ (505 + 2 * μ 8)))) = W56
    have e_W56 : W56 91 = (fun j => if j = ((120 + (2 * (μ (504 + 2 * μ 8)))) + 1) then ((μ (121 + 2 * μ (504 + 2 * μ 8))) - (μ (505 + 2 * μ 8))) else W18 91 j) := by rw [← hq_W56]; exact upI_self _ _ _ _
    have f_W56 : ∀ a, a ≠ 91 → W56 a = W18 a := fun a q => by rw [← hq_W56]; exact upI_cell q
    have hM_W56 : W56 91 = st (st μ 8 (-1 + μ 8)) (121 + 2 * μ (504 + 2 * μ 8)) (μ (121 + 2 * μ (504 + 2 * μ 8)) - μ (505 + 2 * μ 8)) := by
      have x1 : ((120 + (2 * (μ (504 + 2 * μ 8)))) + 1) = 121 + 2 * μ (504 + 2 * μ 8) := by omega
      have x2 : ((μ (121 + 2 * μ (504 + 2 * μ 8))) - (μ (505 + 2 * μ 8))) = μ (121 + 2 * μ (504 + 2 * μ 8)) - μ (505 + 2 * μ 8) := by omega
      rw [e_W56, hM_W18, x1, x2]; rfl
    have hu_W56 : ∀ a, a ≠ 91 → W56 a = J0 a := fun a q => (f_W56 a q).trans (hu_W18 a q)
    refine WP.go 2 (And.intro (And.intro (Nat.le_of_ble_eq_true rfl) (Nat.le_of_ble_eq_true rfl)) (And.intro trivial (?_)))
    show P (some (vi (μ (504 + 2 * μ 8)))) (W56, H)
    exact fin_i rfl (h.2 (by omega) _ (MU.of hmf hu_W56 hM_W56) (by rw [hu_W56 90 (by omega)]; exact hth))
  ·
    show WP (Call d) 248 P X (8, [some (vr (some 90) 10), none], [], (J0, H), 0, 0)
    refine WP.go 2 (And.intro (And.intro (Nat.le_of_ble_eq_true rfl) (Nat.le_of_ble_eq_true rfl)) (And.intro trivial (?_)))
    show P (some (vi (-1))) (J0, H)
    exact h.1 (by omega) _ hmf hth

theorem s_8_unraise {d : Nat} {P : Option qV → qH → Prop} {X : Nat → qH → Prop} {I : qI} {H : qS} {μ : Int → Int} (hd : 3 ≤ d) (hS : Shp H) (hT : TR 6 I μ) (hV : IM μ) (h : (μ 8 = 0 → P (some (vi (-1))) (I, H)) ∧ (1 ≤ μ 8 → ∀ J : qI, CU I J (uUnd μ) → P (some (vi (μ (504 + 2 * μ 8)))) (J, H))) :
    Call d 102 [vr (some 6) 6] (I, H) P X := by
  obtain ⟨d, rfl⟩ : ∃ e, d = e + 1 := ⟨d - 1, by omega⟩
  have hn8 := hV.n8
  have hn1 := hV.n1
  show WP (Call d) 102 P X (0, [some (vr (some 6) 6), none, none], [], (I, H), 0, 0)
  refine WP.go 3 (And.intro rfl (Exists.intro 21 (And.intro hS.r6_7 (And.intro (And.intro (Nat.le_of_ble_eq_true rfl) (Nat.le_of_ble_eq_true rfl)) (And.intro rfl (?_))))))
  show Call d 55 [vr (some 21) 4] (I, H) _ _
  refine s_size_buildings (by omega) hT ?_
  show WP (Call d) 102 P X (3, [some (vr (some 6) 6), none, none], [vi (μ 8)], (I, H), 0, 0)
  refine WP.go 5 (Exists.intro ((μ 8) - 1) (And.intro (wrp_a (by omega) (by omega)) (And.intro (fun (b7 : ¬ (μ 8) - 1 < 0) => ?_) (fun (b7 : (μ 8) - 1 < 0) => ?_))))
  ·
    show WP (Call d) 102 P X (10, [some (vr (some 6) 6), some (vi ((μ 8) - 1)), none], [], (I, H), 0, 0)
    have ⟨hq, hm⟩ := und_h hV (show 1 ≤ μ 8 by omega)
    have hh := hV.hh _ hq.1 hq.2
    refine WP.go 5 (And.intro rfl (Exists.intro 21 (And.intro hS.r6_7 (And.intro (And.intro (Nat.le_of_ble_eq_true rfl) (Nat.le_of_ble_eq_true rfl)) (And.intro rfl (?_))))))
    show Call d 58 [vr (some 21) 4, vi ((μ 8) - 1), vi 0] (I, H) _ _
    refine s_get_buildings0 (by omega) hS (.inl rfl) hT hV (by omega) ?_
    show WP (Call d) 102 P X (15, [some (vr (some 6) 6), some (vi ((μ 8) - 1)), none], [vi (μ (506 + 2 * ((μ 8) - 1)))], (I, H), 0, 0)
    refine WP.go 1 ?_
    show WP (Call d) 102 P X (16, [some (vr (some 6) 6), some (vi ((μ 8) - 1)), some (vi (μ (506 + 2 * ((μ 8) - 1))))], [], (I, H), 0, 0)
    refine rw_i (Q := fun x9 => WP (Call d) 102 P X (16, [some (vr (some 6) 6), some (vi ((μ 8) - 1)), some (vi x9)], [], (I, H), 0, 0)) (show μ (506 + 2 * (μ 8 - 1)) = μ (504 + 2 * μ 8) from congrArg μ (by omega)) ?_
    show WP (Call d) 102 P X (16, [some (vr (some 6) 6), some (vi ((μ 8) - 1)), some (vi (μ (504 + 2 * μ 8)))], [], (I, H), 0, 0)
    refine WP.go 7 (And.intro rfl (Exists.intro 7 (And.intro hS.r6_0 (And.intro (And.intro (Nat.le_of_ble_eq_true rfl) (Nat.le_of_ble_eq_true rfl)) (And.intro rfl (?_))))))
    show Call d 94 [vr (some 6) 6, vi (μ (504 + 2 * μ 8))] (I, H) _ _
    refine s_8_heightOf (by omega) hS (.inl rfl) hT hV (by omega) ?_
    show WP (Call d) 102 P X (23, [some (vr (some 6) 6), some (vi ((μ 8) - 1)), some (vi (μ (504 + 2 * μ 8)))], [vi (μ (121 + 2 * (μ (504 + 2 * μ 8)))), vi 1, vi (μ (504 + 2 * μ 8)), vr (some 7) 4], (I, H), 0, 0)
    refine WP.go 5 (And.intro rfl (Exists.intro 21 (And.intro hS.r6_7 (And.intro (And.intro (Nat.le_of_ble_eq_true rfl) (Nat.le_of_ble_eq_true rfl)) (And.intro rfl (?_))))))
    show Call d 58 [vr (some 21) 4, vi ((μ 8) - 1), vi 1] (I, H) _ _
    refine s_get_buildings1 (by omega) hS (.inl rfl) hT hV (by omega) ?_
    show WP (Call d) 102 P X (28, [some (vr (some 6) 6), some (vi ((μ 8) - 1)), some (vi (μ (504 + 2 * μ 8)))], [vi (μ (507 + 2 * ((μ 8) - 1))), vi (μ (121 + 2 * (μ (504 + 2 * μ 8)))), vi 1, vi (μ (504 + 2 * μ 8)), vr (some 7) 4], (I, H), 0, 0)
    refine rw_i (Q := fun x9 => WP (Call d) 102 P X (28, [some (vr (some 6) 6), some (vi ((μ 8) - 1)), some (vi (μ (504 + 2 * μ 8)))], [vi x9, vi (μ (121 + 2 * (μ (504 + 2 * μ 8)))), vi 1, vi (μ (504 + 2 * μ 8)), vr (some 7) 4], (I, H), 0, 0)) (show μ (507 + 2 * (μ 8 - 1)) = μ (505 + 2 * μ 8) from congrArg μ (by omega)) ?_
    show WP (Call d) 102 P X (28, [some (vr (some 6) 6), some (vi ((μ 8) - 1)), some (vi (μ (504 + 2 * μ 8)))], [vi (μ (505 + 2 * μ 8)), vi (μ (121 + 2 * (μ (504 + 2 * μ 8)))), vi 1, vi (μ (504 + 2 * μ 8)), vr (some 7) 4], (I, H), 0, 0)
    refine WP.go 2 (Exists.intro ((μ (121 + 2 * (μ (504 + 2 * μ 8)))) - (μ (505 + 2 * μ 8))) (And.intro (wrp_a (by omega) (by omega)) (And.intro (And.intro (Nat.le_of_ble_eq_true rfl) (Nat.le_of_ble_eq_true rfl)) (And.intro rfl (?_)))))
    show Call d 59 [vr (some 7) 4, vi (μ (504 + 2 * μ 8)), vi 1, vi ((μ (121 + 2 * (μ (504 + 2 * μ 8)))) - (μ (505 + 2 * μ 8)))] (I, H) _ _
    refine s_5_set_w2 (by omega) hS.r7_2 hT.c.b1 hT.r1 hS.l8 (by omega) (by omega) (by omega) (fun J29 e29 f29 => ?_)
    show WP (Call d) 102 P X (30, [some (vr (some 6) 6), some (vi ((μ 8) - 1)), some (vi (μ (504 + 2 * μ 8)))], [], (J29, H), 0, 0)
    refine WP.go 3 (And.intro rfl (Exists.intro 21 (And.intro hS.r6_7 (And.intro (And.intro (Nat.le_of_ble_eq_true rfl) (Nat.le_of_ble_eq_true rfl)) (And.intro rfl (?_))))))
    show Call d 62 [vr (some 21) 4] (J29, H) _ _
    refine s_5_dropLast (by omega) ((congrFun (f29 21 (by omega)) 3).trans hT.r15) (by omega) (fun J32 e32 f32 => ?_)
    show WP (Call d) 102 P X (33, [some (vr (some 6) 6), some (vi ((μ 8) - 1)), some (vi (μ (504 + 2 * μ 8)))], [], (J32, H), 0, 0)
    refine WP.go 2 (And.intro (And.intro (Nat.le_of_ble_eq_true rfl) (Nat.le_of_ble_eq_true rfl)) (And.intro trivial (?_)))
    show P (some (vi (μ (504 + 2 * μ 8)))) (J32, H)
    exact h.2 (by omega) _ ⟨fun a q => (f32 a (by omega)).trans (f29 a (by omega)), TR_uUnd hT hV (by omega) ((f32 8 (by omega)).trans e29) (e32.trans (by rw [f29 21 (by omega)])) (fun a q1 q2 => (f32 a q2).trans (f29 a q1))⟩
  ·
    show WP (Call d) 102 P X (8, [some (vr (some 6) 6), some (vi ((μ 8) - 1)), none], [], (I, H), 0, 0)
    refine WP.go 2 (And.intro (And.intro (Nat.le_of_ble_eq_true rfl) (Nat.le_of_ble_eq_true rfl)) (And.intro trivial (?_)))
    show P (some (vi (-1))) (I, H)
    exact h.1 (by omega)

theorem s_11_undo {d : Nat} {P : Option qV → qH → Prop} {X : Nat → qH → Prop} {I : qI} {H : qS} {μ : Int → Int} (hd : 4 ≤ d) (hS : Shp H) (hT : TR 6 I μ) (hV : IM μ) (h : (μ 8 = 0 → P (some (vi (-1))) (I, H)) ∧ (1 ≤ μ 8 → ∀ J : qI, CU I J (uUnd μ) → P (some (vi (μ (504 + 2 * μ 8)))) (J, H))) :
    Call d 143 [vr (some 3) 9] (I, H) P X := by
  obtain ⟨d, rfl⟩ : ∃ e, d = e + 1 := ⟨d - 1, by omega⟩
  show WP (Call d) 143 P X (0, [some (vr (some 3) 9)], [], (I, H), 0, 0)
  refine WP.go 3 (And.intro rfl (Exists.intro 6 (And.intro hS.r3_4 (And.intro (And.intro (Nat.le_of_ble_eq_true rfl) (Nat.le_of_ble_eq_true rfl)) (And.intro rfl ?_)))))
  show Call d 102 [vr (some 6) 6] (I, H) _ _
  refine s_8_unraise (by omega) hS hT hV ⟨fun q => ?_, fun q J g => ?_⟩
  · show WP (Call d) 143 P X (3, [some (vr (some 3) 9)], [vi (-1)], (I, H), 0, 0)
    refine WP.go 1 (And.intro (And.intro (Nat.le_of_ble_eq_true rfl) (Nat.le_of_ble_eq_true rfl)) (And.intro trivial ?_))
    exact h.1 q
  · show WP (Call d) 143 P X (3, [some (vr (some 3) 9)], [vi (μ (504 + 2 * μ 8))], (J, H), 0, 0)
    refine WP.go 1 (And.intro (And.intro (Nat.le_of_ble_eq_true rfl) (Nat.le_of_ble_eq_true rfl)) (And.intro trivial ?_))
    exact h.2 q J g

