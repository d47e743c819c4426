theorem TR_lw {I : qI} {n : Nat} {μ ν : Int → Int} (hT : TR n I μ) (hV : IM μ) (hE : ∀ j, 0 ≤ j ∧ j < 546 → ν j = μ j) : TR n I ν := by
  have hn1 := hV.n1
  have hn2 := hV.n2
  have hn3 := hV.n3
  have hn4 := hV.n4
  have hn5 := hV.n5
  have hn6 := hV.n6
  have hn7 := hV.n7
  have hn8 := hV.n8
  exact ⟨⟨(congrFun rfl 0).trans hT.c.a1, (congrFun rfl 1).trans hT.c.b1, (congrFun rfl 0).trans hT.c.a3, (congrFun rfl 1).trans hT.c.b3, (congrFun rfl 0).trans hT.c.a5, (congrFun rfl 1).trans hT.c.b5, (congrFun rfl 0).trans hT.c.a7, (congrFun rfl 1).trans hT.c.b7, (congrFun rfl 0).trans hT.c.a9, (congrFun rfl 1).trans hT.c.b9, (congrFun rfl 0).trans hT.c.a11, (congrFun rfl 1).trans hT.c.b11, (congrFun rfl 0).trans hT.c.a13, (congrFun rfl 1).trans hT.c.b13, (congrFun rfl 0).trans hT.c.a15, (congrFun rfl 1).trans hT.c.b15⟩,
  (congrFun rfl 3).trans (hT.r1.trans (hE 1 (by omega)).symm),
  (congrFun rfl 3).trans (hT.r3.trans (hE 2 (by omega)).symm),
  (congrFun rfl 3).trans (hT.r5.trans (hE 1 (by omega)).symm),
  (congrFun rfl 3).trans (hT.r7.trans (hE 4 (by omega)).symm),
  (congrFun rfl 3).trans (hT.r9.trans (hE 5 (by omega)).symm),
  (congrFun rfl 3).trans (hT.r11.trans (hE 6 (by omega)).symm),
  (congrFun rfl 3).trans (hT.r13.trans (hE 7 (by omega)).symm),
  (congrFun rfl 3).trans (hT.r15.trans (hE 8 (by omega)).symm),
  (congrFun rfl 12).trans (hT.lc.trans (hE 3 (by omega)).symm),
  (congrFun rfl 13).trans (hT.tx.trans (hE 0 (by omega)).symm),
  fun r q0 q1 => by
    rw [hE 1 (by omega)] at q1
    rw [hE (120 + 2 * r) (by omega), hE (121 + 2 * r) (by omega)]
    exact hT.q1 r q0 q1,
  fun r q0 q1 => by
    rw [hE 2 (by omega)] at q1
    rw [hE (140 + 3 * r) (by omega), hE (141 + 3 * r) (by omega), hE (142 + 3 * r) (by omega)]
    exact hT.q3 r q0 q1,
  fun r q0 q1 => by
    rw [hE 1 (by omega)] at q1
    rw [hE (210 + 2 * r) (by omega), hE (211 + 2 * r) (by omega), hE (200 + r) (by omega)]
    exact hT.q5 r q0 q1,
  fun r q0 q1 => by
    rw [hE 4 (by omega)] at q1
    rw [hE (332 + 4 * r) (by omega), hE (333 + 4 * r) (by omega), hE (331 + 4 * r) (by omega), hE (330 + 4 * r) (by omega)]
    exact hT.q7 r q0 q1,
  fun r q0 q1 => by
    rw [hE 5 (by omega)] at q1
    rw [hE (395 + 3 * r) (by omega), hE (396 + 3 * r) (by omega), hE (394 + 3 * r) (by omega)]
    exact hT.q9 r q0 q1,
  fun r q0 q1 => by
    rw [hE 6 (by omega)] at q1
    rw [hE (442 + 2 * r) (by omega), hE (443 + 2 * r) (by omega)]
    exact hT.q11 r q0 q1,
  fun r q0 q1 => by
    rw [hE 7 (by omega)] at q1
    rw [hE (458 + 3 * r) (by omega), hE (459 + 3 * r) (by omega), hE (460 + 3 * r) (by omega)]
    exact hT.q13 r q0 q1,
  fun r q0 q1 => by
    rw [hE 8 (by omega)] at q1
    rw [hE (506 + 2 * r) (by omega), hE (507 + 2 * r) (by omega)]
    exact hT.q15 r q0 q1,
  fun i q0 q1 => by rw [hE (9 + i) (by omega)]; exact hT.di i q0 q1,
  fun y q0 q1 => by rw [hE (20 + y) (by omega)]; exact hT.wi y q0 q1,
  fun y q0 q1 => by rw [hE (230 + y) (by omega)]; exact hT.ro y q0 q1⟩
theorem IM_lw {μ ν : Int → Int} (hV : IM μ) (hE : ∀ j, 0 ≤ j ∧ j < 546 → ν j = μ j) : IM ν := by
  have hn1 := hV.n1
  have hn2 := hV.n2
  have hn3 := hV.n3
  have hn4 := hV.n4
  have hn5 := hV.n5
  have hn6 := hV.n6
  have hn7 := hV.n7
  have hn8 := hV.n8
  have hn0 := hV.n0
  exact ⟨by rw [hE 0 (by omega)]; exact hV.n0,
  by rw [hE 1 (by omega)]; exact hV.n1,
  by rw [hE 2 (by omega)]; exact hV.n2,
  by rw [hE 3 (by omega)]; exact hV.n3,
  by rw [hE 4 (by omega)]; exact hV.n4,
  by rw [hE 5 (by omega)]; exact hV.n5,
  by rw [hE 6 (by omega)]; exact hV.n6,
  by rw [hE 7 (by omega)]; exact hV.n7,
  by rw [hE 8 (by omega)]; exact hV.n8,
  by rw [hE 9 (by omega)]; exact hV.st,
  by rw [hE 10 (by omega)]; exact hV.ra,
  by rw [hE 11 (by omega)]; exact hV.ba,
  by rw [hE 12 (by omega)]; exact hV.se,
  by rw [hE 13 (by omega)]; exact hV.gu,
  fun y q0 q1 => by rw [hE (20 + y) (by omega)]; exact hV.wi y q0 q1,
  fun y q0 q1 => by rw [hE (230 + y) (by omega)]; exact hV.ro y q0 q1,
  fun h q0 q1 => by
    rw [hE 1 (by omega)] at q1
    rw [hE (120 + 2 * h) (by omega)]
    exact hV.hc h q0 q1,
  fun h q0 q1 => by
    rw [hE 1 (by omega)] at q1
    rw [hE (121 + 2 * h) (by omega)]
    exact hV.hh h q0 q1,
  fun h k q0 q1 q2 q3 q4 => by
    rw [hE 1 (by omega)] at q1 q3
    rw [hE (120 + 2 * h) (by omega), hE (120 + 2 * k) (by omega)] at q4
    exact hV.hd h k q0 q1 q2 q3 q4,
  fun w q0 q1 => by
    rw [hE 2 (by omega)] at q1
    rw [hE (140 + 3 * w) (by omega), hE (1) (by omega)]
    exact hV.wh w q0 q1,
  fun w q0 q1 => by
    rw [hE 2 (by omega)] at q1
    rw [hE (141 + 3 * w) (by omega)]
    exact hV.wf w q0 q1,
  fun w q0 q1 => by
    rw [hE 2 (by omega)] at q1
    rw [hE (142 + 3 * w) (by omega)]
    exact hV.wu w q0 q1,
  fun f q0 q1 => by
    rw [hE 1 (by omega)] at q1
    rw [hE (200 + f) (by omega), hE (1) (by omega)]
    exact hV.li f q0 q1,
  fun f k q0 q1 q2 q3 q4 => by
    rw [hE 1 (by omega)] at q1 q3
    rw [hE (200 + f) (by omega), hE (200 + k) (by omega)] at q4
    exact hV.lj f k q0 q1 q2 q3 q4,
  fun f q0 q1 => by
    rw [hE 1 (by omega)] at q1
    rw [hE (210 + 2 * f) (by omega), hE (211 + 2 * f) (by omega)]
    exact hV.wa f q0 q1,
  fun l q0 q1 => by
    rw [hE 4 (by omega)] at q1
    rw [hE (330 + 4 * l) (by omega), hE (3) (by omega)]
    exact hV.le l q0 q1,
  fun l q0 q1 => by
    rw [hE 4 (by omega)] at q1
    rw [hE (331 + 4 * l) (by omega), hE (1) (by omega)]
    exact hV.lh l q0 q1,
  fun l q0 q1 => by
    rw [hE 4 (by omega)] at q1
    rw [hE (332 + 4 * l) (by omega), hE (333 + 4 * l) (by omega)]
    exact hV.ly l q0 q1,
  fun p q0 q1 => by
    rw [hE 5 (by omega)] at q1
    rw [hE (394 + 3 * p) (by omega), hE (2) (by omega)]
    exact hV.pw p q0 q1,
  fun p q0 q1 => by
    rw [hE 5 (by omega)] at q1
    rw [hE (395 + 3 * p) (by omega), hE (396 + 3 * p) (by omega)]
    exact hV.py p q0 q1,
  fun d q0 q1 => by
    rw [hE 6 (by omega)] at q1
    rw [hE (442 + 2 * d) (by omega)]
    exact hV.da d q0 q1,
  fun d q0 q1 => by
    rw [hE 6 (by omega)] at q1
    rw [hE (443 + 2 * d) (by omega)]
    exact hV.db d q0 q1,
  fun p q0 q1 => by
    rw [hE 7 (by omega)] at q1
    rw [hE (458 + 3 * p) (by omega), hE (2) (by omega)]
    exact hV.pp p q0 q1,
  fun p q0 q1 => by
    rw [hE 7 (by omega)] at q1
    rw [hE (459 + 3 * p) (by omega)]
    exact hV.ph p q0 q1,
  fun p q0 q1 => by
    rw [hE 7 (by omega)] at q1
    rw [hE (460 + 3 * p) (by omega)]
    exact hV.pl p q0 q1,
  fun b q0 q1 => by
    rw [hE 8 (by omega)] at q1
    rw [hE (506 + 2 * b) (by omega), hE (1) (by omega)]
    exact hV.bh b q0 q1,
  fun b q0 q1 => by
    rw [hE 8 (by omega)] at q1
    rw [hE (507 + 2 * b) (by omega)]
    exact hV.bm b q0 q1,
  fun h q0 q1 => by
    rw [hE 1 (by omega)] at q1
    rw [hE (121 + 2 * h) (by omega), hE 8 (by omega), bsum_c (fun i z0 z1 => ⟨hE (506 + 2 * i) (by omega), hE (507 + 2 * i) (by omega)⟩)]
    exact hV.bs h q0 q1⟩
theorem LI.w {f : Int → Int} {L i : Int} {I J J' K : qI} {H : qS} {w : Int} (h : LI f L i I H) (c : CW I J w) (e : ∀ a, a ≠ 100 → J' a = J a) (m : MW J' K w) : LI f L (i + 6) K H := by
  obtain ⟨h1, h2, h3, ⟨h4, h5, h6, h7⟩, ⟨h8, h9⟩, _, h10, h11, hx, h12⟩ := h
  have a : ∀ a, a < 3 ∨ (5 ≤ a ∧ a < 69) ∨ a = 91 ∨ a = 92 ∨ a = 94 ∨ a = 95 ∨ 101 ≤ a → K a = I a := fun b q => (m.1 b (by omega)).trans ((e b (by omega)).trans (c.1 b (by omega)))
  have k3 : K 3 = J 3 := (m.1 3 (by omega)).trans (e 3 (by omega))
  have k4 : K 4 1 = 0 := by rw [m.1 4 (by omega), e 4 (by omega), c.2.2.2]; rfl
  have k9 : ∀ s, s = 3 ∨ s = 17 ∨ (13 ≤ s ∧ s ≤ 15) → K 90 s = I 90 s := fun s q => (m.2.1 s q).trans (by rw [e 90 (by omega), c.1 90 (by omega)])
  refine ⟨h1, h2.fr (a 0 (by omega)) (a 1 (by omega)), ⟨(a 2 (by omega)).trans h3.1, h3.2⟩, ?_, ⟨h8.fr (fun b q1 q2 => a b (by omega)), h9.fr (fun b q1 q2 => a b (by omega))⟩, m.2.2.2.2, ?_, TP.z m.2.2.1 k4, hx.fr (a 95 (by omega)) (fun s q => k9 s (by omega)), by rw [m.2.2.2.1, k3]; exact c.2.2.1.symm⟩
  · rw [a 91 (by omega)]
    exact ⟨h4.fr (fun b q1 q2 => a b (by omega)), h5, h6, h7.fr (fun b q1 q2 => a b (by omega)) (fun _ _ _ => rfl) (fun _ _ _ => rfl) (Nat.le_refl _)⟩
  · exact h10.fr (k9 3 (by omega)) (by rw [k3]; exact c.2.1 10 (by omega)) (a 92 (by omega)) (fun b q1 q2 => a b (by omega)) (fun b q1 q2 => a b (by omega)) (fun _ => rfl) (fun _ _ _ => rfl) (Nat.le_refl _)
theorem LI.t {f : Int → Int} {L i : Int} {I J J' K : qI} {H G : qS} {w : Int} {ν : Int → Int} (h : LI f L i I H) (c : CV I H J G w) (t : TR 6 J ν) (e : ∀ a, a ≠ 100 → J' a = J a) (m : MW2 J' K w ν) (v : IM ν) (n : ∀ j, 546 ≤ j → ν j = I 91 j) (n3 : ν 3 = I 91 3) : LI f L (i + 6) K G := by
  obtain ⟨h1, h2, h3, ⟨h4, h5, h6, h7⟩, ⟨h8, h9⟩, _, h10, h11, hx, h12⟩ := h
  obtain ⟨c1, c2, c3, c4, c5, c6, c7, c8⟩ := c
  obtain ⟨m1, m2, m3, m4, m5, m6⟩ := m
  have n6 := h5.n3
  have a : ∀ a, a < 3 ∨ a = 5 ∨ (48 ≤ a ∧ a < 69) ∨ a = 92 ∨ a = 94 ∨ a = 95 ∨ 101 ≤ a → K a = I a := fun b q => (m1 b (by omega)).trans ((e b (by omega)).trans (c2 b (by omega)))
  have b : ∀ a, a < 90 → K a = J a := fun b q => (m1 b (by omega)).trans (e b (by omega))
  have k4 : K 4 1 = 0 := by rw [b 4 (by omega), c5]; rfl
  have k9 : ∀ s, s = 3 ∨ s = 17 ∨ (13 ≤ s ∧ s ≤ 15) → K 90 s = I 90 s := fun s q => (m2 s q).trans (by rw [e 90 (by omega), c2 90 (by omega)])
  have g1 : G.2.1 = H.2.1 := by rw [c8]
  have g2 : H.2.2.2 ≤ G.2.2.2 := by rw [c8]; exact Nat.le_refl _
  refine ⟨h1.up (fun a z q1 q2 _ => c6 a z q1 q2) c8, h2.fr (a 0 (by omega)) (a 1 (by omega)), ⟨(a 2 (by omega)).trans h3.1, by rw [g1]; exact h3.2⟩, ?_, ⟨c1.fr (fun x q1 q2 => b x (by omega)), h9.fr (fun b q1 q2 => a b (by omega))⟩, m5, ?_, TP.z m3 k4, hx.fr (a 95 (by omega)) (fun s q => k9 s (by omega)), by rw [m4, b 3 (by omega)]; exact c4.symm⟩
  · rw [m6]
    exact ⟨t.fr (fun x q1 q2 => b x (by omega)), v, h6.cg n6.2 (fun j q _ => n j q) n3, (h7.fr (fun b q1 q2 => a b (by omega)) (fun l q1 q2 => c7 l q1 (by omega)) (fun _ _ _ => by rw [g1]) g2).cg h6 n6.2 (fun j q _ => n j q) n3⟩
  · exact h10.fr (k9 3 (by omega)) (by rw [b 3 (by omega)]; exact c3 10 (by omega)) (a 92 (by omega)) (fun b q1 q2 => a b (by omega)) (fun b q1 q2 => a b (by omega)) (fun l => c6 68 l (by omega) (by omega)) (fun _ _ _ => by rw [g1]) g2
theorem FX.l {i : Int} {I J : qI} (h : FX i I) (e : J 95 = I 95) (f : ∀ s, 13 ≤ s ∧ s ≤ 15 → J 90 s = I 90 s) (d : -120000000 ≤ J 90 17 - I 90 17 ∧ J 90 17 - I 90 17 ≤ 120000000) : FX (i + 6) J := by
  obtain ⟨⟨F, a, b⟩, c⟩ := h
  refine ⟨⟨F, a, ?_⟩, by omega⟩
  unfold FR at *
  rw [e, f 13 (by omega), f 14 (by omega), f 15 (by omega)]
  exact b
theorem LI.l0 {f : Int → Int} {L i : Int} {I J J' K : qI} {H : qS} {w : Int} (h : LI f L i I H) (c : CL I J w) (e : ∀ a, a ≠ 100 → J' a = J a) (m : ML J' K w (I 91)) : LI f L (i + 6) K H := by
  obtain ⟨h1, h2, h3, ⟨h4, h5, h6, h7⟩, ⟨h8, h9⟩, _, h10, h11, hx, h12⟩ := h
  obtain ⟨m1, m2, m3, m4, m5, m6, m7⟩ := m
  have a : ∀ a, a < 3 ∨ (5 ≤ a ∧ a < 69) ∨ a = 92 ∨ a = 94 ∨ a = 95 ∨ 101 ≤ a → K a = I a := fun b q => (m1 b (by omega)).trans ((e b (by omega)).trans (c.1 b (by omega)))
  have k3 : K 3 = J 3 := (m1 3 (by omega)).trans (e 3 (by omega))
  have k4 : K 4 1 = 0 := by rw [m1 4 (by omega), e 4 (by omega), c.2.2.2]; rfl
  have j9 : J' 90 = I 90 := by rw [e 90 (by omega), c.1 90 (by omega)]
  have k9 : ∀ s, s = 3 ∨ (13 ≤ s ∧ s ≤ 15) → K 90 s = I 90 s := fun s q => (m2 s q).trans (by rw [j9])
  rw [j9] at m7
  refine ⟨h1, h2.fr (a 0 (by omega)) (a 1 (by omega)), ⟨(a 2 (by omega)).trans h3.1, h3.2⟩, ?_, ⟨h8.fr (fun b q1 q2 => a b (by omega)), h9.fr (fun b q1 q2 => a b (by omega))⟩, m5, ?_, TP.z m3 k4, hx.l (a 95 (by omega)) (fun s q => k9 s (by omega)) m7, by rw [m4, k3]; exact c.2.2.1.symm⟩
  · rw [m6]
    exact ⟨h4.fr (fun b q1 q2 => a b (by omega)), h5, h6, h7.fr (fun b q1 q2 => a b (by omega)) (fun _ _ _ => rfl) (fun _ _ _ => rfl) (Nat.le_refl _)⟩
  · exact h10.fr (k9 3 (by omega)) (by rw [k3]; exact c.2.1 10 (by omega)) (a 92 (by omega)) (fun b q1 q2 => a b (by omega)) (fun b q1 q2 => a b (by omega)) (fun _ => rfl) (fun _ _ _ => rfl) (Nat.le_refl _)
/-- the tape, nothing beyond its end -/
def tpe (tb : Int → Int) (n : Int) : Int → Int := fun k0 => if 0 ≤ k0 ∧ k0 < n then tb k0 else 0
theorem uLea_b {μ tb : Int → Int} {n j : Int} (h3 : 0 ≤ μ 3) (hj : j ≠ 3) (q : j < 546 + 401 * μ 3) : uLea μ tb n j = μ j := by
  unfold uLea
  rw [st_n hj]
  unfold lbt
  rw [if_neg (by omega), if_neg (by omega)]
theorem uLea_n {μ tb : Int → Int} {n : Int} (h3 : 0 ≤ μ 3) : uLea μ tb n (546 + 401 * μ 3) = n := by
  unfold uLea
  rw [st_n (by omega)]
  exact if_pos rfl
theorem uLea_t {μ tb : Int → Int} {n k : Int} (h3 : 0 ≤ μ 3) (q : 0 ≤ k ∧ k < n) : uLea μ tb n (547 + 401 * μ 3 + k) = tb k := by
  unfold uLea
  rw [st_n (by omega)]
  unfold lbt
  rw [if_neg (by omega), if_pos (by omega)]
  exact congrArg tb (by omega)
theorem uLea_3 {μ tb : Int → Int} {n : Int} : uLea μ tb n 3 = 1 + μ 3 := st_e _ _ _
theorem uLea_U {μ tb : Int → Int} {n : Int} (h3 : 0 ≤ μ 3) : LU (uLea μ (tpe tb n) n) (μ 3) = lnT (tpe tb n) n (lln (tpe tb n) n) ls0 := by
  unfold LU
  rw [uLea_n h3, show (fun k0 => if 0 ≤ k0 ∧ k0 < n then uLea μ (tpe tb n) n (547 + 401 * μ 3 + k0) else 0) = tpe tb n from funext fun k0 => by
    by_cases z : 0 ≤ k0 ∧ k0 < n
    · rw [if_pos z, uLea_t h3 z]
    · rw [if_neg z]; exact (if_neg z).symm]
theorem LI.l1 {f : Int → Int} {L i : Int} {I J J' K : qI} {H G : qS} {n : Int} (h : LI f L i I H) (hn : 0 ≤ n ∧ n ≤ 400) (hb : ∀ j, 0 ≤ j → j < n → 0 ≤ I 5 j ∧ I 5 j ≤ 255) (ok : (lnT (tpe (I 5) n) n (lln (tpe (I 5) n) n) ls0).1 = -1) (h36 : I 91 3 < 6) (c : CN I H J G (I 91) (lnT (tpe (I 5) n) n (lln (tpe (I 5) n) n) ls0).2.1) (e : ∀ a, a ≠ 100 → J' a = J a) (m : ML J' K (-1) (uLea (I 91) (tpe (I 5) n) n)) : LI f L (i + 6) K G := by
  obtain ⟨h1, h2, h3, ⟨h4, h5, h6, h7⟩, ⟨h8, h9⟩, _, h10, h11, hx, h12⟩ := h
  obtain ⟨m1, m2, m3, m4, m5, m6, m7⟩ := m
  obtain ⟨c1, c2, c3, c4, c5, c6, c7, c8, c9, c10, c11, c12⟩ := c
  have n3 := h5.n3
  have lo := h1.2.2
  generalize hμ : I 91 = μ at *
  have a : ∀ a, a < 3 ∨ a = 5 ∨ (27 ≤ a ∧ a < 69) ∨ a = 92 ∨ a = 94 ∨ a = 95 ∨ (101 ≤ a ∧ a ≠ H.2.2.2 + 3) → K a = I a := fun b q => (m1 b (by omega)).trans ((e b (by omega)).trans (c2 b (by omega)))
  have b : ∀ a, a < 90 → K a = J a := fun b q => (m1 b (by omega)).trans (e b (by omega))
  have k4 : K 4 1 = 0 := by rw [b 4 (by omega), c5]; rfl
  have j9 : J' 90 = I 90 := by rw [e 90 (by omega), c2 90 (by omega)]
  have k9 : ∀ s, s = 3 ∨ (13 ≤ s ∧ s ≤ 15) → K 90 s = I 90 s := fun s q => (m2 s q).trans (by rw [j9])
  have g1 : ∀ a, 101 ≤ a → a < H.2.2.2 + 3 → G.2.1 a = H.2.1 a := fun a _ q => c9 a (by omega)
  have hg := (lnT_lg (tb := tpe (I 5) n) hn).1
  rw [j9] at m7
  refine ⟨c12, h2.fr (a 0 (by omega)) (a 1 (by omega)), ⟨(a 2 (by omega)).trans h3.1, by rw [c9 2 (by omega)]; exact h3.2⟩, ?_, ⟨h8.fr (fun b q1 q2 => a b (by omega)), h9.fr (fun b q1 q2 => a b (by omega))⟩, m5, ?_, TP.z m3 k4, hx.l (a 95 (by omega)) (fun s q => k9 s (by omega)) m7, by rw [m4, b 3 (by omega)]; exact c4.symm⟩
  · rw [m6]
    have lw : ∀ j, 0 ≤ j ∧ j < 546 → uLea μ (tpe (I 5) n) n j = uLs μ j := fun j q => by
      by_cases z : j = 3
      · rw [z, uLea_3]; exact (st_e _ _ _).symm
      · rw [uLea_b n3.1 z (by omega), uLs_o _ j z]
    have v := IM_uLs h5 h36
    refine ⟨TR_lw (c1.fr (fun x q1 q2 => b x (by omega))) v lw, IM_lw v lw, fun l q0 q1 => ?_, fun l q0 q1 => ?_⟩
    · rw [uLea_3] at q1
      rcases Int.lt_or_eq_of_le (show l ≤ μ 3 by omega) with z | z
      · have w := h6 l q0 z
        rw [LU_cg w.1.2 (fun j x y => uLea_b n3.1 (by omega) (by omega)), uLea_b n3.1 (by omega) (by omega)]
        exact ⟨w.1, fun j x y => by rw [uLea_b n3.1 (by omega) (by omega)]; exact w.2.1 j x y, w.2.2⟩
      · subst z
        rw [uLea_U n3.1, uLea_n n3.1]
        exact ⟨hn, fun j x y => by rw [uLea_t n3.1 ⟨x, y⟩, show tpe (I 5) n j = I 5 j from if_pos ⟨x, y⟩]; exact hb j x y, ok⟩
    · rw [uLea_3] at q1
      rcases Int.lt_or_eq_of_le (show l ≤ μ 3 by omega) with z | z
      · unfold LCo
        rw [LU_cg (h6 l q0 z).1.2 (fun j x y => uLea_b n3.1 (by omega) (by omega))]
        exact (h7 l q0 z).fr (fun x q1 q2 => a x (by omega)) (c8 26 l (by omega) (by omega)) g1 (by omega)
      · subst z
        unfold LCo
        rw [uLea_U n3.1]
        exact ⟨H.2.2.2 + 3, c7, ⟨by omega, by omega⟩, c10, by omega, fun i hi => by rw [m1 _ (by omega), e _ (by omega)]; exact c6 i hi⟩
  · exact h10.fr (k9 3 (by omega)) (by rw [b 3 (by omega)]; exact c3 10 (by omega)) (a 92 (by omega)) (fun b q1 q2 => a b (by omega)) (fun b q1 q2 => a b (by omega)) (fun l => c8 68 l (by omega) (by omega)) g1 (by omega)
