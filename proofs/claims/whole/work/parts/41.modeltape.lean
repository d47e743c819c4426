/-- an update of the reference's tape -/
def MT (I J : qI) : Prop := (∀ a, a < 90 ∨ a = 91 ∨ a = 92 ∨ a = 95 ∨ 100 ≤ a → J a = I a) ∧ (∀ s, s = 3 ∨ s = 10 ∨ s = 17 ∨ (13 ≤ s ∧ s ≤ 15) → J 90 s = I 90 s) ∧ MS J
def nsd (s : Int) : Int := wrp (wrp (1103515245 * s) + 12345)
def wnd (s : Int) : Int := zand (zushr s 16) 32767 % 11 - 5
def sdN (s : Int) : Nat → Int
  | 0 => s
  | n + 1 => nsd (sdN s n)
def sdI (s y : Int) : Int := sdN s y.toNat
theorem sdI_s {s y : Int} (h : 0 ≤ y) : sdI s (y + 1) = nsd (sdI s y) := by
  unfold sdI
  rw [show (y + 1).toNat = y.toNat + 1 by omega]; rfl
theorem wnd_bd (s : Int) : -5 ≤ wnd s ∧ wnd s ≤ 5 := by unfold wnd; omega
def uBlow (μ : Int → Int) (s : Int) : Int → Int := fun j => if 20 ≤ j ∧ j < 120 then wnd (sdI s (j - 19)) else μ j
def BLO (s : Int) : Int := sI (fun y => wnd (sdI s (y + 1))) 0 100
theorem BLOs_bd {s k : Int} (h : 0 ≤ k) : -5 * k ≤ sI (fun y => wnd (sdI s (y + 1))) 0 k ∧ sI (fun y => wnd (sdI s (y + 1))) 0 k ≤ 5 * k := by
  have := sI_bd (f := fun y => wnd (sdI s (y + 1))) (-5) 5 h (fun i _ _ => wnd_bd _)
  omega
theorem uBlow_o (μ : Int → Int) (s : Int) : ∀ j, j < 20 ∨ 120 ≤ j → uBlow μ s j = μ j := fun j q => if_neg (by omega)
theorem uBlow_0 (μ : Int → Int) (s : Int) {y : Int} (h0 : 0 ≤ y) (h1 : y < 100) : uBlow μ s (20 + y) = wnd (sdI s (y + 1)) := (if_pos (by omega)).trans (by rw [show 20 + y - 19 = y + 1 by omega])
theorem TR_uBlow {I J : qI} {μ : Int → Int} {s : Int} (hT : TR 6 I μ) (hV : IM μ) (f : ∀ y, 0 ≤ y → y < 100 → J 24 y = wnd (sdI s (y + 1))) (F : ∀ a, a ≠ 24 → J a = I a) : TR 6 J (uBlow μ s) := by
  have hE := uBlow_o μ s
  have hn1 := hV.n1
  have hn2 := hV.n2
  have hn3 := hV.n3
  have hn4 := hV.n4
  have hn5 := hV.n5
  have hn6 := hV.n6
  have hn7 := hV.n7
  have hn8 := hV.n8
  exact ⟨⟨(congrFun (F 7 (by omega)) 0).trans hT.c.a1, (congrFun (F 7 (by omega)) 1).trans hT.c.b1, (congrFun (F 9 (by omega)) 0).trans hT.c.a3, (congrFun (F 9 (by omega)) 1).trans hT.c.b3, (congrFun (F 11 (by omega)) 0).trans hT.c.a5, (congrFun (F 11 (by omega)) 1).trans hT.c.b5, (congrFun (F 13 (by omega)) 0).trans hT.c.a7, (congrFun (F 13 (by omega)) 1).trans hT.c.b7, (congrFun (F 15 (by omega)) 0).trans hT.c.a9, (congrFun (F 15 (by omega)) 1).trans hT.c.b9, (congrFun (F 17 (by omega)) 0).trans hT.c.a11, (congrFun (F 17 (by omega)) 1).trans hT.c.b11, (congrFun (F 19 (by omega)) 0).trans hT.c.a13, (congrFun (F 19 (by omega)) 1).trans hT.c.b13, (congrFun (F 21 (by omega)) 0).trans hT.c.a15, (congrFun (F 21 (by omega)) 1).trans hT.c.b15⟩,
  (congrFun (F 7 (by omega)) 3).trans (hT.r1.trans (hE 1 (by omega)).symm),
  (congrFun (F 9 (by omega)) 3).trans (hT.r3.trans (hE 2 (by omega)).symm),
  (congrFun (F 11 (by omega)) 3).trans (hT.r5.trans (hE 1 (by omega)).symm),
  (congrFun (F 13 (by omega)) 3).trans (hT.r7.trans (hE 4 (by omega)).symm),
  (congrFun (F 15 (by omega)) 3).trans (hT.r9.trans (hE 5 (by omega)).symm),
  (congrFun (F 17 (by omega)) 3).trans (hT.r11.trans (hE 6 (by omega)).symm),
  (congrFun (F 19 (by omega)) 3).trans (hT.r13.trans (hE 7 (by omega)).symm),
  (congrFun (F 21 (by omega)) 3).trans (hT.r15.trans (hE 8 (by omega)).symm),
  (congrFun (F 6 (by omega)) 12).trans (hT.lc.trans (hE 3 (by omega)).symm),
  (congrFun (F 6 (by omega)) 13).trans (hT.tx.trans (hE 0 (by omega)).symm),
  fun r q0 q1 => by
    rw [hE 1 (by omega)] at q1
    rw [(F 8 (by omega)), hE (120 + 2 * r) (by omega), hE (121 + 2 * r) (by omega)]
    exact hT.q1 r q0 q1,
  fun r q0 q1 => by
    rw [hE 2 (by omega)] at q1
    rw [(F 10 (by omega)), hE (140 + 3 * r) (by omega), hE (141 + 3 * r) (by omega), hE (142 + 3 * r) (by omega)]
    exact hT.q3 r q0 q1,
  fun r q0 q1 => by
    rw [hE 1 (by omega)] at q1
    rw [(F 12 (by omega)), hE (210 + 2 * r) (by omega), hE (211 + 2 * r) (by omega), hE (200 + r) (by omega)]
    exact hT.q5 r q0 q1,
  fun r q0 q1 => by
    rw [hE 4 (by omega)] at q1
    rw [(F 14 (by omega)), hE (332 + 4 * r) (by omega), hE (333 + 4 * r) (by omega), hE (331 + 4 * r) (by omega), hE (330 + 4 * r) (by omega)]
    exact hT.q7 r q0 q1,
  fun r q0 q1 => by
    rw [hE 5 (by omega)] at q1
    rw [(F 16 (by omega)), hE (395 + 3 * r) (by omega), hE (396 + 3 * r) (by omega), hE (394 + 3 * r) (by omega)]
    exact hT.q9 r q0 q1,
  fun r q0 q1 => by
    rw [hE 6 (by omega)] at q1
    rw [(F 18 (by omega)), hE (442 + 2 * r) (by omega), hE (443 + 2 * r) (by omega)]
    exact hT.q11 r q0 q1,
  fun r q0 q1 => by
    rw [hE 7 (by omega)] at q1
    rw [(F 20 (by omega)), hE (458 + 3 * r) (by omega), hE (459 + 3 * r) (by omega), hE (460 + 3 * r) (by omega)]
    exact hT.q13 r q0 q1,
  fun r q0 q1 => by
    rw [hE 8 (by omega)] at q1
    rw [(F 22 (by omega)), hE (506 + 2 * r) (by omega), hE (507 + 2 * r) (by omega)]
    exact hT.q15 r q0 q1,
  fun i q0 q1 => by rw [(F 23 (by omega)), hE (9 + i) (by omega)]; exact hT.di i q0 q1,
  fun z q0 q1 => by rw [f z q0 q1, uBlow_0 μ s q0 q1],
  fun y q0 q1 => by rw [(F 25 (by omega)), hE (230 + y) (by omega)]; exact hT.ro y q0 q1⟩
theorem IM_uBlow {μ : Int → Int} {s : Int} (hV : IM μ) : IM (uBlow μ s) := by
  have hE := uBlow_o μ s
  have hn1 := hV.n1
  have hn2 := hV.n2
  have hn3 := hV.n3
  have hn4 := hV.n4
  have hn5 := hV.n5
  have hn6 := hV.n6
  have hn7 := hV.n7
  have hn8 := hV.n8
  exact ⟨by rw [hE 0 (by omega)]; exact hV.n0,
  by rw [hE 1 (by omega)]; exact hV.n1,
  by rw [hE 2 (by omega)]; exact hV.n2,
  by rw [hE 3 (by omega)]; exact hV.n3,
  by rw [hE 4 (by omega)]; exact hV.n4,
  by rw [hE 5 (by omega)]; exact hV.n5,
  by rw [hE 6 (by omega)]; exact hV.n6,
  by rw [hE 7 (by omega)]; exact hV.n7,
  by rw [hE 8 (by omega)]; exact hV.n8,
  by rw [hE 9 (by omega)]; exact hV.st,
  by rw [hE 10 (by omega)]; exact hV.ra,
  by rw [hE 11 (by omega)]; exact hV.ba,
  by rw [hE 12 (by omega)]; exact hV.se,
  by rw [hE 13 (by omega)]; exact hV.gu,
  fun z q0 q1 => by rw [uBlow_0 μ s q0 q1]; have := wnd_bd (sdI s (z + 1)); omega,
  fun y q0 q1 => by rw [hE (230 + y) (by omega)]; exact hV.ro y q0 q1,
  fun h q0 q1 => by
    rw [hE 1 (by omega)] at q1
    rw [hE (120 + 2 * h) (by omega)]
    exact hV.hc h q0 q1,
  fun h q0 q1 => by
    rw [hE 1 (by omega)] at q1
    rw [hE (121 + 2 * h) (by omega)]
    exact hV.hh h q0 q1,
  fun h k q0 q1 q2 q3 q4 => by
    rw [hE 1 (by omega)] at q1 q3
    rw [hE (120 + 2 * h) (by omega), hE (120 + 2 * k) (by omega)] at q4
    exact hV.hd h k q0 q1 q2 q3 q4,
  fun w q0 q1 => by
    rw [hE 2 (by omega)] at q1
    rw [hE (140 + 3 * w) (by omega), hE (1) (by omega)]
    exact hV.wh w q0 q1,
  fun w q0 q1 => by
    rw [hE 2 (by omega)] at q1
    rw [hE (141 + 3 * w) (by omega)]
    exact hV.wf w q0 q1,
  fun w q0 q1 => by
    rw [hE 2 (by omega)] at q1
    rw [hE (142 + 3 * w) (by omega)]
    exact hV.wu w q0 q1,
  fun f q0 q1 => by
    rw [hE 1 (by omega)] at q1
    rw [hE (200 + f) (by omega), hE (1) (by omega)]
    exact hV.li f q0 q1,
  fun f k q0 q1 q2 q3 q4 => by
    rw [hE 1 (by omega)] at q1 q3
    rw [hE (200 + f) (by omega), hE (200 + k) (by omega)] at q4
    exact hV.lj f k q0 q1 q2 q3 q4,
  fun f q0 q1 => by
    rw [hE 1 (by omega)] at q1
    rw [hE (210 + 2 * f) (by omega), hE (211 + 2 * f) (by omega)]
    exact hV.wa f q0 q1,
  fun l q0 q1 => by
    rw [hE 4 (by omega)] at q1
    rw [hE (330 + 4 * l) (by omega), hE (3) (by omega)]
    exact hV.le l q0 q1,
  fun l q0 q1 => by
    rw [hE 4 (by omega)] at q1
    rw [hE (331 + 4 * l) (by omega), hE (1) (by omega)]
    exact hV.lh l q0 q1,
  fun l q0 q1 => by
    rw [hE 4 (by omega)] at q1
    rw [hE (332 + 4 * l) (by omega), hE (333 + 4 * l) (by omega)]
    exact hV.ly l q0 q1,
  fun p q0 q1 => by
    rw [hE 5 (by omega)] at q1
    rw [hE (394 + 3 * p) (by omega), hE (2) (by omega)]
    exact hV.pw p q0 q1,
  fun p q0 q1 => by
    rw [hE 5 (by omega)] at q1
    rw [hE (395 + 3 * p) (by omega), hE (396 + 3 * p) (by omega)]
    exact hV.py p q0 q1,
  fun d q0 q1 => by
    rw [hE 6 (by omega)] at q1
    rw [hE (442 + 2 * d) (by omega)]
    exact hV.da d q0 q1,
  fun d q0 q1 => by
    rw [hE 6 (by omega)] at q1
    rw [hE (443 + 2 * d) (by omega)]
    exact hV.db d q0 q1,
  fun p q0 q1 => by
    rw [hE 7 (by omega)] at q1
    rw [hE (458 + 3 * p) (by omega), hE (2) (by omega)]
    exact hV.pp p q0 q1,
  fun p q0 q1 => by
    rw [hE 7 (by omega)] at q1
    rw [hE (459 + 3 * p) (by omega)]
    exact hV.ph p q0 q1,
  fun p q0 q1 => by
    rw [hE 7 (by omega)] at q1
    rw [hE (460 + 3 * p) (by omega)]
    exact hV.pl p q0 q1,
  fun b q0 q1 => by
    rw [hE 8 (by omega)] at q1
    rw [hE (506 + 2 * b) (by omega), hE (1) (by omega)]
    exact hV.bh b q0 q1,
  fun b q0 q1 => by
    rw [hE 8 (by omega)] at q1
    rw [hE (507 + 2 * b) (by omega)]
    exact hV.bm b q0 q1,
  fun h q0 q1 => by
    rw [hE 1 (by omega)] at q1
    rw [hE (121 + 2 * h) (by omega), hE 8 (by omega), bsum_c (fun i z0 z1 => ⟨hE (506 + 2 * i) (by omega), hE (507 + 2 * i) (by omega)⟩)]
    exact hV.bs h q0 q1⟩
theorem s_11_blow {d : Nat} {P : Option qV → qH → Prop} {X : Nat → qH → Prop} {I : qI} {H : qS} {μ : Int → Int} (hd : 2 ≤ d) {s0 : Int} (hS : Shp H) (hX : SX I) (hT : TR 6 I μ) (hV : IM μ) (h : ∀ J : qI, CU I J (uBlow μ s0) → P (some (vi (BLO s0))) (J, H)) :
    Call d 155 [vr (some 3) 9, vi s0] (I, H) P X := by
  obtain ⟨d, rfl⟩ : ∃ e, d = e + 1 := ⟨d - 1, by omega⟩
  show WP (Call d) 155 P X (0, [some (vr (some 3) 9), some (vi s0), none, none, none, none], [], (I, H), 0, 0)
  refine WP.go 6 ?_
  show WP (Call d) 155 P X (6, [some (vr (some 3) 9), some (vi s0), some (vi s0), some (vi 0), some (vi 0), none], [], (I, H), 0, 0)
  have lp6 : ∀ (n9 : Nat) (K : qI) (d9 : Int) (t9 : Int) (y : Int) (hm : 100 - y < (n9 : Int)) (iv0 : 0 ≤ y ∧ y ≤ 100) (iv1 : d9 = sdI s0 y) (iv2 : t9 = sI (fun y => wnd (sdI s0 (y + 1))) 0 y) (iv3 : ∀ j, 0 ≤ j → j < y → K 24 j = wnd (sdI s0 (j + 1))) (iv4 : ∀ a, a ≠ 24 → K a = I a), WP (Call d) 155 P X (6, [some (vr (some 3) 9), some (vi s0), some (vi d9), some (vi t9), some (vi y), none], [], (K, H), 0, 0) := by
    intro n9
    induction n9 with
    | zero => intro K d9 t9 y hm iv0 iv1 iv2 iv3 iv4; exact absurd hm (by omega)
    | succ n9 ih6 =>
      intro K d9 t9 y hm iv0 iv1 iv2 iv3 iv4
      have m1 := BLOs_bd (s := s0) iv0.1
      have m2 := wnd_bd (sdI s0 (y + 1))
      have m3 : 0 ≤ zand (zushr (wrp (wrp (1103515245 * d9) + 12345)) 16) 32767 ∧ zand (zushr (wrp (wrp (1103515245 * d9) + 12345)) 16) 32767 ≤ 32767 := zand_bd _ 32767 (by omega)
      have e9 : sdI s0 (y + 1) = wrp (wrp (1103515245 * d9) + 12345) := by rw [sdI_s iv0.1, ← iv1]; rfl
      have e8 : wnd (sdI s0 (y + 1)) = zand (zushr (wrp (wrp (1103515245 * d9) + 12345)) 16) 32767 % 11 - 5 := by rw [e9]; rfl
      refine WP.go 3 (And.intro (fun (b8 : ¬ y < 100) => ?_) (fun (b8 : y < 100) => ?_))
      ·
        show WP (Call d) 155 P X (36, [some (vr (some 3) 9), some (vi s0), some (vi d9), some (vi t9), some (vi y), none], [], (K, H), 0, 0)
        refine WP.go 2 (And.intro (And.intro (Nat.le_of_ble_eq_true rfl) (Nat.le_of_ble_eq_true rfl)) (And.intro trivial (?_)))
        show P (some (vi t9)) (K, H)
        exact fin_i (by rw [iv2, show y = 100 by omega]; rfl) (h _ ⟨fun a q => iv4 a (by omega), TR_uBlow hT hV (fun j q1 q2 => iv3 j q1 (by omega)) iv4⟩)
      ·
        show WP (Call d) 155 P X (9, [some (vr (some 3) 9), some (vi s0), some (vi d9), some (vi t9), some (vi y), none], [], (K, H), 0, 0)
        refine WP.go 21 (Exists.intro (wrp (1103515245 * d9)) (And.intro rfl (Exists.intro (wrp ((wrp (1103515245 * d9)) + 12345)) (And.intro rfl (Exists.intro ((zand (zushr (wrp ((wrp (1103515245 * d9)) + 12345)) 16) 32767) % 11) (And.intro (tmod_a (by omega) (by omega)) (Exists.intro (((zand (zushr (wrp ((wrp (1103515245 * d9)) + 12345)) 16) 32767) % 11) - 5) (And.intro (wrp_a (by omega) (by omega)) (And.intro rfl (Exists.intro 6 (And.intro hS.r3_4 (And.intro (And.intro (Nat.le_of_ble_eq_true rfl) (Nat.le_of_ble_eq_true rfl)) (And.intro rfl (?_))))))))))))))
        show Call d 87 [vr (some 6) 6, vi y, vi (((zand (zushr (wrp ((wrp (1103515245 * d9)) + 12345)) 16) 32767) % 11) - 5)] (K, H) _ _
        refine s_8_setWind (by omega) hS (.inl rfl) (by omega) (fun J29 e29 f29 => ?_)
        show WP (Call d) 155 P X (30, [some (vr (some 3) 9), some (vi s0), some (vi (wrp ((wrp (1103515245 * d9)) + 12345))), some (vi t9), some (vi y), some (vi (((zand (zushr (wrp ((wrp (1103515245 * d9)) + 12345)) 16) 32767) % 11) - 5))], [], (J29, H), 0, 0)
        refine WP.go 6 (Exists.intro (t9 + (((zand (zushr (wrp ((wrp (1103515245 * d9)) + 12345)) 16) 32767) % 11) - 5)) (And.intro (wrp_a (by omega) (by omega)) (Exists.intro (y + 1) (And.intro (wrp_a (by omega) (by omega)) (?_)))))
        show WP (Call d) 155 P X (6, [some (vr (some 3) 9), some (vi s0), some (vi (wrp ((wrp (1103515245 * d9)) + 12345))), some (vi (t9 + (((zand (zushr (wrp ((wrp (1103515245 * d9)) + 12345)) 16) 32767) % 11) - 5))), some (vi (y + 1)), some (vi (((zand (zushr (wrp ((wrp (1103515245 * d9)) + 12345)) 16) 32767) % 11) - 5))], [], (J29, H), 0, 0)
        refine WP.wk (L := [some (vr (some 3) 9), some (vi s0), some (vi (wrp ((wrp (1103515245 * d9)) + 12345))), some (vi (t9 + (((zand (zushr (wrp ((wrp (1103515245 * d9)) + 12345)) 16) 32767) % 11) - 5))), some (vi (y + 1)), none]) (And.intro rfl (And.intro rfl (And.intro rfl (And.intro rfl (And.intro rfl (And.intro trivial (trivial))))))) ?_
        show WP (Call d) 155 P X (6, [some (vr (some 3) 9), some (vi s0), some (vi (wrp ((wrp (1103515245 * d9)) + 12345))), some (vi (t9 + (((zand (zushr (wrp ((wrp (1103515245 * d9)) + 12345)) 16) 32767) % 11) - 5))), some (vi (y + 1)), none], [], (J29, H), 0, 0)
        exact ih6 J29 (wrp ((wrp (1103515245 * d9)) + 12345)) (t9 + (((zand (zushr (wrp ((wrp (1103515245 * d9)) + 12345)) 16) 32767) % 11) - 5)) (y + 1) (by omega) (by omega) e9.symm (by rw [sI_succ (by omega), ← iv2]; omega) (cp_s (g := fun j => wnd (sdI s0 (j + 1))) e29 iv3 (by show _ = wnd (sdI s0 (y + 1)); omega)) (fun a q => (f29 a q).trans (iv4 a q))
  exact lp6 ((100 - 0 : Int).toNat + 1) I s0 0 0 (by omega) (by omega) rfl (sI_nil (by omega)).symm (fun j q1 q2 => by omega) (fun _ _ => rfl)

theorem s_12_blow {d : Nat} {P : Option qV → qH → Prop} {X : Nat → qH → Prop} {I : qI} {H : qS} {μ : Int → Int} (hd : 1 ≤ d) {s0 : Int} (hS : Shp H) (hM : I 91 = μ) (hV : IM μ) (hK : MS I) (h : ∀ J : qI, MU I J (uBlow μ s0) → J 90 0 = 0 → P (some (vi (BLO s0))) (J, H)) :
    Call d 264 [vr (some 90) 10, vi s0] (I, H) P X := by
  obtain ⟨d, rfl⟩ : ∃ e, d = e + 1 := ⟨d - 1, by omega⟩
  have hl91 := hS.l91
  obtain ⟨tb, h30⟩ : ∃ tb, I 90 30 = tb := ⟨_, rfl⟩
  obtain ⟨mo, h23⟩ : ∃ mo, I 90 23 = mo := ⟨_, rfl⟩
  have htb : 0 ≤ tb ∧ tb ≤ 29 := by have := hK.2.2.2; omega
  have hmo : (-1 : Int) = -1 ∨ (0 ≤ mo ∧ mo ≤ 48) := .inl rfl
  have h22 := hK.1
  have h29 := hK.2.1
  show WP (Call d) 264 P X (0, [some (vr (some 90) 10), some (vi s0), none, none, none], [], (I, H), 0, 0)
  refine WP.go 3 (And.intro (And.intro rfl trivial) (?_))
  show WP (Call d) 264 P X (3, [some (vr (some 90) 10), some (vi s0), none, none, none], [], ((upI I 90 0 0), H), 0, 0)
  generalize hq_J0 : (upI I 90 0 0) = J0
  have e_J0 : J0 90 = (fun j => if j = 0 then 0 else I 90 j) := by rw [← hq_J0]; exact upI_self _ _ _ _
  have f_J0 : ∀ a, a ≠ 90 → J0 a = I a := fun a q => by rw [← hq_J0]; exact upI_cell q
  have hmf : MF I J0 := MF.t0 hK e_J0 f_J0
  have hth : J0 90 0 = 0 := by rw [e_J0]; rfl
  have hM0 : J0 91 = μ := (f_J0 91 (by omega)).trans hM
  refine WP.go 6 ?_
  show WP (Call d) 264 P X (9, [some (vr (some 90) 10), some (vi s0), some (vi s0), some (vi 0), some (vi 0)], [], (J0, H), 0, 0)
  have lp9 : ∀ (n9 : Nat) (K : qI) (d9 : Int) (t9 : Int) (y : Int) (hm : 100 - y < (n9 : Int)) (iv0 : 0 ≤ y ∧ y ≤ 100) (iv1 : d9 = sdI s0 y) (iv2 : t9 = sI (fun y => wnd (sdI s0 (y + 1))) 0 y) (iv3 : K 91 = fun j => if 20 ≤ j ∧ j < 20 + y then wnd (sdI s0 (j - 19)) else μ j) (iv4 : ∀ a, a ≠ 91 → K a = J0 a), WP (Call d) 264 P X (9, [some (vr (some 90) 10), some (vi s0), some (vi d9), some (vi t9), some (vi y)], [], (K, H), 0, 0) := by
    intro n9
    induction n9 with
    | zero => intro K d9 t9 y hm iv0 iv1 iv2 iv3 iv4; exact absurd hm (by omega)
    | succ n9 ih9 =>
      intro K d9 t9 y hm iv0 iv1 iv2 iv3 iv4
      have m1 := BLOs_bd (s := s0) iv0.1
      have m2 := wnd_bd (sdI s0 (y + 1))
      have m3 : 0 ≤ zand (zushr (wrp (wrp (1103515245 * d9) + 12345)) 16) 32767 ∧ zand (zushr (wrp (wrp (1103515245 * d9) + 12345)) 16) 32767 ≤ 32767 := zand_bd _ 32767 (by omega)
      have e9 : sdI s0 (y + 1) = wrp (wrp (1103515245 * d9) + 12345) := by rw [sdI_s iv0.1, ← iv1]; rfl
      have e8 : wnd (sdI s0 (y + 1)) = zand (zushr (wrp (wrp (1103515245 * d9) + 12345)) 16) 32767 % 11 - 5 := by rw [e9]; rfl
      refine WP.go 3 (And.intro (fun (b11 : ¬ y < 100) => ?_) (fun (b11 : y < 100) => ?_))
      ·
        show WP (Call d) 264 P X (44, [some (vr (some 90) 10), some (vi s0), some (vi d9), some (vi t9), some (vi y)], [], (K, H), 0, 0)
        refine WP.go 2 (And.intro (And.intro (Nat.le_of_ble_eq_true rfl) (Nat.le_of_ble_eq_true rfl)) (And.intro trivial (?_)))
        show P (some (vi t9)) (K, H)
        exact fin_i (by rw [iv2, show y = 100 by omega]; rfl) (h _ (MU.of hmf iv4 (by rw [iv3, show y = 100 by omega]; rfl)) (by rw [iv4 90 (by omega)]; exact hth))
      ·
        show WP (Call d) 264 P X (12, [some (vr (some 90) 10), some (vi s0), some (vi d9), some (vi t9), some (vi y)], [], (K, H), 0, 0)
        refine WP.go 21 (Exists.intro (wrp (1103515245 * d9)) (And.intro rfl (Exists.intro (wrp ((wrp (1103515245 * d9)) + 12345)) (And.intro rfl (And.intro rfl (Exists.intro 91 (And.intro hS.r90_1 (Exists.intro (20 + y) (And.intro (wrp_a (by omega) (by omega)) (Exists.intro ((zand (zushr (wrp ((wrp (1103515245 * d9)) + 12345)) 16) 32767) % 11) (And.intro (tmod_a (by omega) (by omega)) (Exists.intro (((zand (zushr (wrp ((wrp (1103515245 * d9)) + 12345)) 16) 32767) % 11) - 5) (And.intro (wrp_a (by omega) (by omega)) (And.intro (And.intro rfl (And.intro (show 0 ≤ 20 + y from by omega) (show 20 + y < H.2.1 91 from by omega))) (?_)))))))))))))))
        show WP (Call d) 264 P X (33, [some (vr (some 90) 10), some (vi s0), some (vi (wrp ((wrp (1103515245 * d9)) + 12345))), some (vi t9), some (vi y)], [], ((upI K 91 (20 + y) (((zand (zushr (wrp ((wrp (1103515245 * d9)) + 12345)) 16) 32767) % 11) - 5)), H), 0, 0)
        generalize hq_W0 : (upI K 91 (20 + y) (((zand (zushr (wrp ((wrp (1103515245 * d9)) + 12345)) 16) 32767) % 11) - 5)) = W0
        have e_W0 : W0 91 = (fun j => if j = (20 + y) then (((zand (zushr (wrp ((wrp (1103515245 * d9)) + 12345)) 16) 32767) % 11) - 5) else K 91 j) := by rw [← hq_W0]; exact upI_self _ _ _ _
        have f_W0 : ∀ a, a ≠ 91 → W0 a = K a := fun a q => by rw [← hq_W0]; exact upI_cell q
        refine WP.go 7 (And.intro rfl (Exists.intro 91 (And.intro hS.r90_1 (Exists.intro (20 + y) (And.intro (wrp_a (by omega) (by omega)) (And.intro (And.intro rfl (And.intro (show 0 ≤ 20 + y from by omega) (show 20 + y < H.2.1 91 from by omega))) (?_)))))))
        refine rw_i (Q := fun x9 => WP (Call d) 264 P X (40, [some (vr (some 90) 10), some (vi s0), some (vi (wrp ((wrp (1103515245 * d9)) + 12345))), some (vi t9), some (vi y)], [vi x9, vi t9], (W0, H), 0, 0)) (show W0 91 (20 + y) = zand (zushr (wrp (wrp (1103515245 * d9) + 12345)) 16) 32767 % 11 - 5 from by rw [e_W0]; exact if_pos rfl) ?_
        show WP (Call d) 264 P X (40, [some (vr (some 90) 10), some (vi s0), some (vi (wrp ((wrp (1103515245 * d9)) + 12345))), some (vi t9), some (vi y)], [vi (zand (zushr (wrp (wrp (1103515245 * d9) + 12345)) 16) 32767 % 11 - 5), vi t9], (W0, H), 0, 0)
        refine WP.go 4 (Exists.intro (t9 + (zand (zushr (wrp (wrp (1103515245 * d9) + 12345)) 16) 32767 % 11 - 5)) (And.intro (wrp_a (by omega) (by omega)) (Exists.intro (y + 1) (And.intro (wrp_a (by omega) (by omega)) (?_)))))
        show WP (Call d) 264 P X (9, [some (vr (some 90) 10), some (vi s0), some (vi (wrp ((wrp (1103515245 * d9)) + 12345))), some (vi (t9 + (zand (zushr (wrp (wrp (1103515245 * d9) + 12345)) 16) 32767 % 11 - 5))), some (vi (y + 1))], [], (W0, H), 0, 0)
        exact ih9 W0 (wrp ((wrp (1103515245 * d9)) + 12345)) (t9 + (zand (zushr (wrp (wrp (1103515245 * d9) + 12345)) 16) 32767 % 11 - 5)) (y + 1) (by omega) (by omega) e9.symm (by rw [sI_succ (by omega), ← iv2]; omega) (by rw [e_W0, iv3]; refine funext fun j => ?_; show (if j = 20 + y then _ else if _ then _ else _) = _; by_cases z : j = 20 + y; rw [if_pos z, if_pos (by omega), show j - 19 = y + 1 by omega, e8]; rw [if_neg z]; by_cases w : 20 ≤ j ∧ j < 20 + y; rw [if_pos w, if_pos (by omega)]; rw [if_neg w, if_neg (by omega)]) (fun a q => (f_W0 a q).trans (iv4 a q))
  exact lp9 ((100 - 0 : Int).toNat + 1) J0 s0 0 0 (by omega) (by omega) rfl (sI_nil (by omega)).symm (by rw [hM0]; exact funext fun j => (if_neg (by omega)).symm) (fun _ _ => rfl)

theorem s_12_feed {d : Nat} {P : Option qV → qH → Prop} {X : Nat → qH → Prop} {I : qI} {H : qS} (hd : 1 ≤ d) {n a9 b9 c9 d9 e9 : Int} (hS : Shp H) (hK : MS I) (h6 : I 90 6 = n) (hn : 0 ≤ n ∧ n ≤ 400) (h : (400 < n + 20 → ∀ J : qI, MF I J → P (some (vi (-1))) (J, H)) ∧ (n + 20 ≤ 400 → ∀ J : qI, MT I J → J 90 6 = n + 20 → (∀ j, J 94 j = fdT (I 94) n a9 b9 c9 d9 e9 j) → P (some (vi (n + 20))) (J, H))) :
    Call d 186 [vr (some 90) 10, vi a9, vi b9, vi c9, vi d9, vi e9] (I, H) P X := by
  obtain ⟨d, rfl⟩ : ∃ e, d = e + 1 := ⟨d - 1, by omega⟩
  have hl94 := hS.l94
  show WP (Call d) 186 P X (0, [some (vr (some 90) 10), some (vi a9), some (vi b9), some (vi c9), some (vi d9), some (vi e9), none, none], [], (I, H), 0, 0)
  refine WP.go 3 (And.intro (And.intro rfl trivial) (?_))
  show WP (Call d) 186 P X (3, [some (vr (some 90) 10), some (vi a9), some (vi b9), some (vi c9), some (vi d9), some (vi e9), none, none], [], ((upI I 90 0 0), H), 0, 0)
  generalize hq_J0 : (upI I 90 0 0) = J0
  have e_J0 : J0 90 = (fun j => if j = 0 then 0 else I 90 j) := by rw [← hq_J0]; exact upI_self _ _ _ _
  have f_J0 : ∀ a, a ≠ 90 → J0 a = I a := fun a q => by rw [← hq_J0]; exact upI_cell q
  have hmf : MF I J0 := MF.t0 hK e_J0 f_J0
  have h_1 : J0 90 6 = n := by rw [e_J0]; exact h6
  refine WP.go 2 (And.intro rfl (?_))
  refine rw_i (Q := fun x9 => WP (Call d) 186 P X (5, [some (vr (some 90) 10), some (vi a9), some (vi b9), some (vi c9), some (vi d9), some (vi e9), none, none], [vi x9], (J0, H), 0, 0)) h_1 ?_
  show WP (Call d) 186 P X (5, [some (vr (some 90) 10), some (vi a9), some (vi b9), some (vi c9), some (vi d9), some (vi e9), none, none], [vi n], (J0, H), 0, 0)
  refine WP.go 4 (Exists.intro (n + 20) (And.intro (wrp_a (by omega) (by omega)) (And.intro (fun (b8 : ¬ 400 < n + 20) => ?_) (fun (b8 : 400 < n + 20) => ?_))))
  ·
    show WP (Call d) 186 P X (11, [some (vr (some 90) 10), some (vi a9), some (vi b9), some (vi c9), some (vi d9), some (vi e9), none, none], [], (J0, H), 0, 0)
    refine WP.go 2 ?_
    show WP (Call d) 186 P X (13, [some (vr (some 90) 10), some (vi a9), some (vi b9), some (vi c9), some (vi d9), some (vi e9), some (vi 0), none], [], (J0, H), 0, 0)
    have lp13 : ∀ (n9 : Nat) (K : qI) (k : Int) (hm : 20 - k < (n9 : Int)) (iv0 : 0 ≤ k ∧ k ≤ 20) (iv1 : K 90 6 = n + k) (iv2 : ∀ j, K 94 j = if n ≤ j ∧ j < n + k then fdT (I 94) n a9 b9 c9 d9 e9 j else I 94 j) (iv3 : (∀ a, a ≠ 90 → a ≠ 94 → K a = J0 a) ∧ (∀ s, s ≠ 6 → K 90 s = J0 90 s)), WP (Call d) 186 P X (13, [some (vr (some 90) 10), some (vi a9), some (vi b9), some (vi c9), some (vi d9), some (vi e9), some (vi k), none], [], (K, H), 0, 0) := by
      intro n9
      induction n9 with
      | zero => intro K k hm iv0 iv1 iv2 iv3; exact absurd hm (by omega)
      | succ n9 ih13 =>
        intro K k hm iv0 iv1 iv2 iv3
        refine WP.go 3 (And.intro (fun (b15 : ¬ k < 20) => ?_) (fun (b15 : k < 20) => ?_))
        ·
          show WP (Call d) 186 P X (62, [some (vr (some 90) 10), some (vi a9), some (vi b9), some (vi c9), some (vi d9), some (vi e9), some (vi k), none], [], (K, H), 0, 0)
          refine WP.go 2 (And.intro rfl (?_))
          refine rw_i (Q := fun x9 => WP (Call d) 186 P X (64, [some (vr (some 90) 10), some (vi a9), some (vi b9), some (vi c9), some (vi d9), some (vi e9), some (vi k), none], [vi x9], (K, H), 0, 0)) iv1 ?_
          show WP (Call d) 186 P X (64, [some (vr (some 90) 10), some (vi a9), some (vi b9), some (vi c9), some (vi d9), some (vi e9), some (vi k), none], [vi (n + k)], (K, H), 0, 0)
          refine WP.go 1 (And.intro (And.intro (Nat.le_of_ble_eq_true rfl) (Nat.le_of_ble_eq_true rfl)) (And.intro trivial (?_)))
          show P (some (vi (n + k))) (K, H)
          exact fin_i (by omega) (h.2 (by omega) _ ⟨fun a q => (iv3.1 a (by omega) (by omega)).trans (hmf.1 a (by omega)), fun s q => (iv3.2 s (by omega)).trans (hmf.2.1 s (by omega)), by have := hmf.2.2; unfold MS at *; rw [iv3.2 22 (by omega), iv3.2 29 (by omega), iv3.2 23 (by omega), iv3.2 30 (by omega)]; exact this⟩ (by rw [iv1]; omega) (fun j => by rw [iv2 j]; by_cases w : n ≤ j ∧ j < n + k; rw [if_pos w]; rw [if_neg w]; unfold fdT; rw [if_neg (by omega), if_neg (by omega), if_neg (by omega), if_neg (by omega), if_neg (by omega)]))
        ·
          show WP (Call d) 186 P X (16, [some (vr (some 90) 10), some (vi a9), some (vi b9), some (vi c9), some (vi d9), some (vi e9), some (vi k), none], [], (K, H), 0, 0)
          refine WP.go 3 (And.intro (fun (b18 : ¬ k < 4) => ?_) (fun (b18 : k < 4) => ?_))
          ·
            show WP (Call d) 186 P X (21, [some (vr (some 90) 10), some (vi a9), some (vi b9), some (vi c9), some (vi d9), some (vi e9), some (vi k), none], [], (K, H), 0, 0)
            refine WP.go 3 (And.intro (fun (b23 : ¬ k < 8) => ?_) (fun (b23 : k < 8) => ?_))
            ·
              show WP (Call d) 186 P X (26, [some (vr (some 90) 10), some (vi a9), some (vi b9), some (vi c9), some (vi d9), some (vi e9), some (vi k), none], [], (K, H), 0, 0)
              refine WP.go 3 (And.intro (fun (b28 : ¬ k < 12) => ?_) (fun (b28 : k < 12) => ?_))
              ·
                show WP (Call d) 186 P X (31, [some (vr (some 90) 10), some (vi a9), some (vi b9), some (vi c9), some (vi d9), some (vi e9), some (vi k), none], [], (K, H), 0, 0)
                refine WP.go 3 (And.intro (fun (b33 : ¬ k < 16) => ?_) (fun (b33 : k < 16) => ?_))
                ·
                  show WP (Call d) 186 P X (36, [some (vr (some 90) 10), some (vi a9), some (vi b9), some (vi c9), some (vi d9), some (vi e9), some (vi k), none], [], (K, H), 0, 0)
                  refine WP.go 6 (And.intro rfl (Exists.intro 94 (And.intro hS.r90_5 (And.intro rfl (?_)))))
                  refine rw_i (Q := fun x9 => WP (Call d) 186 P X (42, [some (vr (some 90) 10), some (vi a9), some (vi b9), some (vi c9), some (vi d9), some (vi e9), some (vi k), some (vi e9)], [vi x9, vr (some 94) 11], (K, H), 0, 0)) iv1 ?_
                  show WP (Call d) 186 P X (42, [some (vr (some 90) 10), some (vi a9), some (vi b9), some (vi c9), some (vi d9), some (vi e9), some (vi k), some (vi e9)], [vi (n + k), vr (some 94) 11], (K, H), 0, 0)
                  refine WP.go 12 (Exists.intro (k % 4) (And.intro (tmod_a (by omega) (by omega)) (Exists.intro (8 * (k % 4)) (And.intro (wrp_a (by omega) (by omega)) (Exists.intro (24 - (8 * (k % 4))) (And.intro (wrp_a (by omega) (by omega)) (And.intro (And.intro rfl (And.intro (show 0 ≤ n + k from by omega) (show n + k < H.2.1 94 from by omega))) (?_))))))))
                  show WP (Call d) 186 P X (54, [some (vr (some 90) 10), some (vi a9), some (vi b9), some (vi c9), some (vi d9), some (vi e9), some (vi k), some (vi e9)], [], ((upI K 94 (n + k) (zand (zushr e9 (24 - (8 * (k % 4)))) 255)), H), 0, 0)
                  generalize hq_W0 : (upI K 94 (n + k) (zand (zushr e9 (24 - (8 * (k % 4)))) 255)) = W0
                  have e_W0 : W0 94 = (fun j => if j = (n + k) then (zand (zushr e9 (24 - (8 * (k % 4)))) 255) else K 94 j) := by rw [← hq_W0]; exact upI_self _ _ _ _
                  have f_W0 : ∀ a, a ≠ 94 → W0 a = K a := fun a q => by rw [← hq_W0]; exact upI_cell q
                  have h_2 : W0 90 6 = n + k := (congrFun (f_W0 90 (by omega)) 6).trans iv1
                  refine WP.go 3 (And.intro rfl (?_))
                  refine rw_i (Q := fun x9 => WP (Call d) 186 P X (57, [some (vr (some 90) 10), some (vi a9), some (vi b9), some (vi c9), some (vi d9), some (vi e9), some (vi k), some (vi e9)], [vi x9, vr (some 90) 10], (W0, H), 0, 0)) h_2 ?_
                  show WP (Call d) 186 P X (57, [some (vr (some 90) 10), some (vi a9), some (vi b9), some (vi c9), some (vi d9), some (vi e9), some (vi k), some (vi e9)], [vi (n + k), vr (some 90) 10], (W0, H), 0, 0)
                  refine WP.go 3 (Exists.intro ((n + k) + 1) (And.intro (wrp_a (by omega) (by omega)) (And.intro (And.intro rfl trivial) (?_))))
                  show WP (Call d) 186 P X (60, [some (vr (some 90) 10), some (vi a9), some (vi b9), some (vi c9), some (vi d9), some (vi e9), some (vi k), some (vi e9)], [], ((upI W0 90 6 ((n + k) + 1)), H), 0, 0)
                  generalize hq_W1 : (upI W0 90 6 ((n + k) + 1)) = W1
                  have e_W1 : W1 90 = (fun j => if j = 6 then ((n + k) + 1) else W0 90 j) := by rw [← hq_W1]; exact upI_self _ _ _ _
                  have f_W1 : ∀ a, a ≠ 90 → W1 a = W0 a := fun a q => by rw [← hq_W1]; exact upI_cell q
                  have h_3 : W1 90 6 = n + k + 1 := by rw [e_W1]; rfl
                  refine WP.go 2 (Exists.intro (k + 1) (And.intro (wrp_a (by omega) (by omega)) (?_)))
                  show WP (Call d) 186 P X (13, [some (vr (some 90) 10), some (vi a9), some (vi b9), some (vi c9), some (vi d9), some (vi e9), some (vi (k + 1)), some (vi e9)], [], (W1, H), 0, 0)
                  refine WP.wk (L := [some (vr (some 90) 10), some (vi a9), some (vi b9), some (vi c9), some (vi d9), some (vi e9), some (vi (k + 1)), none]) (And.intro rfl (And.intro rfl (And.intro rfl (And.intro rfl (And.intro rfl (And.intro rfl (And.intro rfl (And.intro trivial (trivial))))))))) ?_
                  show WP (Call d) 186 P X (13, [some (vr (some 90) 10), some (vi a9), some (vi b9), some (vi c9), some (vi d9), some (vi e9), some (vi (k + 1)), none], [], (W1, H), 0, 0)
                  exact ih13 W1 (k + 1) (by omega) (by omega) (by rw [h_3]; omega) (fun j => by rw [f_W1 94 (by omega), e_W0]; show (if j = n + k then _ else K 94 j) = _; rw [iv2 j]; by_cases z : j = n + k; rw [if_pos z, if_pos (by omega), z]; unfold fdT; rw [if_pos (by omega)]; exact byt_e (by omega); rw [if_neg z]; by_cases w : n ≤ j ∧ j < n + k; rw [if_pos w, if_pos (by omega)]; rw [if_neg w, if_neg (by omega)]) ⟨fun a q1 q2 => by rw [f_W1 a q1, f_W0 a q2]; exact iv3.1 a q1 q2, fun s q => by rw [e_W1]; exact (if_neg q).trans ((congrFun (f_W0 90 (by omega)) s).trans (iv3.2 s q))⟩
                ·
                  show WP (Call d) 186 P X (34, [some (vr (some 90) 10), some (vi a9), some (vi b9), some (vi c9), some (vi d9), some (vi e9), some (vi k), none], [], (K, H), 0, 0)
                  refine WP.go 7 (And.intro rfl (Exists.intro 94 (And.intro hS.r90_5 (And.intro rfl (?_)))))
                  refine rw_i (Q := fun x9 => WP (Call d) 186 P X (42, [some (vr (some 90) 10), some (vi a9), some (vi b9), some (vi c9), some (vi d9), some (vi e9), some (vi k), some (vi d9)], [vi x9, vr (some 94) 11], (K, H), 0, 0)) iv1 ?_
                  show WP (Call d) 186 P X (42, [some (vr (some 90) 10), some (vi a9), some (vi b9), some (vi c9), some (vi d9), some (vi e9), some (vi k), some (vi d9)], [vi (n + k), vr (some 94) 11], (K, H), 0, 0)
                  refine WP.go 12 (Exists.intro (k % 4) (And.intro (tmod_a (by omega) (by omega)) (Exists.intro (8 * (k % 4)) (And.intro (wrp_a (by omega) (by omega)) (Exists.intro (24 - (8 * (k % 4))) (And.intro (wrp_a (by omega) (by omega)) (And.intro (And.intro rfl (And.intro (show 0 ≤ n + k from by omega) (show n + k < H.2.1 94 from by omega))) (?_))))))))
                  show WP (Call d) 186 P X (54, [some (vr (some 90) 10), some (vi a9), some (vi b9), some (vi c9), some (vi d9), some (vi e9), some (vi k), some (vi d9)], [], ((upI K 94 (n + k) (zand (zushr d9 (24 - (8 * (k % 4)))) 255)), H), 0, 0)
                  generalize hq_W0 : (upI K 94 (n + k) (zand (zushr d9 (24 - (8 * (k % 4)))) 255)) = W0
                  have e_W0 : W0 94 = (fun j => if j = (n + k) then (zand (zushr d9 (24 - (8 * (k % 4)))) 255) else K 94 j) := by rw [← hq_W0]; exact upI_self _ _ _ _
                  have f_W0 : ∀ a, a ≠ 94 → W0 a = K a := fun a q => by rw [← hq_W0]; exact upI_cell q
                  have h_4 : W0 90 6 = n + k := (congrFun (f_W0 90 (by omega)) 6).trans iv1
                  refine WP.go 3 (And.intro rfl (?_))
                  refine rw_i (Q := fun x9 => WP (Call d) 186 P X (57, [some (vr (some 90) 10), some (vi a9), some (vi b9), some (vi c9), some (vi d9), some (vi e9), some (vi k), some (vi d9)], [vi x9, vr (some 90) 10], (W0, H), 0, 0)) h_4 ?_
                  show WP (Call d) 186 P X (57, [some (vr (some 90) 10), some (vi a9), some (vi b9), some (vi c9), some (vi d9), some (vi e9), some (vi k), some (vi d9)], [vi (n + k), vr (some 90) 10], (W0, H), 0, 0)
                  refine WP.go 3 (Exists.intro ((n + k) + 1) (And.intro (wrp_a (by omega) (by omega)) (And.intro (And.intro rfl trivial) (?_))))
                  show WP (Call d) 186 P X (60, [some (vr (some 90) 10), some (vi a9), some (vi b9), some (vi c9), some (vi d9), some (vi e9), some (vi k), some (vi d9)], [], ((upI W0 90 6 ((n + k) + 1)), H), 0, 0)
                  generalize hq_W1 : (upI W0 90 6 ((n + k) + 1)) = W1
                  have e_W1 : W1 90 = (fun j => if j = 6 then ((n + k) + 1) else W0 90 j) := by rw [← hq_W1]; exact upI_self _ _ _ _
                  have f_W1 : ∀ a, a ≠ 90 → W1 a = W0 a := fun a q => by rw [← hq_W1]; exact upI_cell q
                  have h_5 : W1 90 6 = n + k + 1 := by rw [e_W1]; rfl
                  refine WP.go 2 (Exists.intro (k + 1) (And.intro (wrp_a (by omega) (by omega)) (?_)))
                  show WP (Call d) 186 P X (13, [some (vr (some 90) 10), some (vi a9), some (vi b9), some (vi c9), some (vi d9), some (vi e9), some (vi (k + 1)), some (vi d9)], [], (W1, H), 0, 0)
                  refine WP.wk (L := [some (vr (some 90) 10), some (vi a9), some (vi b9), some (vi c9), some (vi d9), some (vi e9), some (vi (k + 1)), none]) (And.intro rfl (And.intro rfl (And.intro rfl (And.intro rfl (And.intro rfl (And.intro rfl (And.intro rfl (And.intro trivial (trivial))))))))) ?_
                  show WP (Call d) 186 P X (13, [some (vr (some 90) 10), some (vi a9), some (vi b9), some (vi c9), some (vi d9), some (vi e9), some (vi (k + 1)), none], [], (W1, H), 0, 0)
                  exact ih13 W1 (k + 1) (by omega) (by omega) (by rw [h_5]; omega) (fun j => by rw [f_W1 94 (by omega), e_W0]; show (if j = n + k then _ else K 94 j) = _; rw [iv2 j]; by_cases z : j = n + k; rw [if_pos z, if_pos (by omega), z]; unfold fdT; rw [if_neg (by omega)]; rw [if_pos (by omega)]; exact byt_e (by omega); rw [if_neg z]; by_cases w : n ≤ j ∧ j < n + k; rw [if_pos w, if_pos (by omega)]; rw [if_neg w, if_neg (by omega)]) ⟨fun a q1 q2 => by rw [f_W1 a q1, f_W0 a q2]; exact iv3.1 a q1 q2, fun s q => by rw [e_W1]; exact (if_neg q).trans ((congrFun (f_W0 90 (by omega)) s).trans (iv3.2 s q))⟩
              ·
                show WP (Call d) 186 P X (29, [some (vr (some 90) 10), some (vi a9), some (vi b9), some (vi c9), some (vi d9), some (vi e9), some (vi k), none], [], (K, H), 0, 0)
                refine WP.go 7 (And.intro rfl (Exists.intro 94 (And.intro hS.r90_5 (And.intro rfl (?_)))))
                refine rw_i (Q := fun x9 => WP (Call d) 186 P X (42, [some (vr (some 90) 10), some (vi a9), some (vi b9), some (vi c9), some (vi d9), some (vi e9), some (vi k), some (vi c9)], [vi x9, vr (some 94) 11], (K, H), 0, 0)) iv1 ?_
                show WP (Call d) 186 P X (42, [some (vr (some 90) 10), some (vi a9), some (vi b9), some (vi c9), some (vi d9), some (vi e9), some (vi k), some (vi c9)], [vi (n + k), vr (some 94) 11], (K, H), 0, 0)
                refine WP.go 12 (Exists.intro (k % 4) (And.intro (tmod_a (by omega) (by omega)) (Exists.intro (8 * (k % 4)) (And.intro (wrp_a (by omega) (by omega)) (Exists.intro (24 - (8 * (k % 4))) (And.intro (wrp_a (by omega) (by omega)) (And.intro (And.intro rfl (And.intro (show 0 ≤ n + k from by omega) (show n + k < H.2.1 94 from by omega))) (?_))))))))
                show WP (Call d) 186 P X (54, [some (vr (some 90) 10), some (vi a9), some (vi b9), some (vi c9), some (vi d9), some (vi e9), some (vi k), some (vi c9)], [], ((upI K 94 (n + k) (zand (zushr c9 (24 - (8 * (k % 4)))) 255)), H), 0, 0)
                generalize hq_W0 : (upI K 94 (n + k) (zand (zushr c9 (24 - (8 * (k % 4)))) 255)) = W0
                have e_W0 : W0 94 = (fun j => if j = (n + k) then (zand (zushr c9 (24 - (8 * (k % 4)))) 255) else K 94 j) := by rw [← hq_W0]; exact upI_self _ _ _ _
                have f_W0 : ∀ a, a ≠ 94 → W0 a = K a := fun a q => by rw [← hq_W0]; exact upI_cell q
                have h_6 : W0 90 6 = n + k := (congrFun (f_W0 90 (by omega)) 6).trans iv1
                refine WP.go 3 (And.intro rfl (?_))
                refine rw_i (Q := fun x9 => WP (Call d) 186 P X (57, [some (vr (some 90) 10), some (vi a9), some (vi b9), some (vi c9), some (vi d9), some (vi e9), some (vi k), some (vi c9)], [vi x9, vr (some 90) 10], (W0, H), 0, 0)) h_6 ?_
                show WP (Call d) 186 P X (57, [some (vr (some 90) 10), some (vi a9), some (vi b9), some (vi c9), some (vi d9), some (vi e9), some (vi k), some (vi c9)], [vi (n + k), vr (some 90) 10], (W0, H), 0, 0)
                refine WP.go 3 (Exists.intro ((n + k) + 1) (And.intro (wrp_a (by omega) (by omega)) (And.intro (And.intro rfl trivial) (?_))))
                show WP (Call d) 186 P X (60, [some (vr (some 90) 10), some (vi a9), some (vi b9), some (vi c9), some (vi d9), some (vi e9), some (vi k), some (vi c9)], [], ((upI W0 90 6 ((n + k) + 1)), H), 0, 0)
                generalize hq_W1 : (upI W0 90 6 ((n + k) + 1)) = W1
                have e_W1 : W1 90 = (fun j => if j = 6 then ((n + k) + 1) else W0 90 j) := by rw [← hq_W1]; exact upI_self _ _ _ _
                have f_W1 : ∀ a, a ≠ 90 → W1 a = W0 a := fun a q => by rw [← hq_W1]; exact upI_cell q
                have h_7 : W1 90 6 = n + k + 1 := by rw [e_W1]; rfl
                refine WP.go 2 (Exists.intro (k + 1) (And.intro (wrp_a (by omega) (by omega)) (?_)))
                show WP (Call d) 186 P X (13, [some (vr (some 90) 10), some (vi a9), some (vi b9), some (vi c9), some (vi d9), some (vi e9), some (vi (k + 1)), some (vi c9)], [], (W1, H), 0, 0)
                refine WP.wk (L := [some (vr (some 90) 10), some (vi a9), some (vi b9), some (vi c9), some (vi d9), some (vi e9), some (vi (k + 1)), none]) (And.intro rfl (And.intro rfl (And.intro rfl (And.intro rfl (And.intro rfl (And.intro rfl (And.intro rfl (And.intro trivial (trivial))))))))) ?_
                show WP (Call d) 186 P X (13, [some (vr (some 90) 10), some (vi a9), some (vi b9), some (vi c9), some (vi d9), some (vi e9), some (vi (k + 1)), none], [], (W1, H), 0, 0)
                exact ih13 W1 (k + 1) (by omega) (by omega) (by rw [h_7]; omega) (fun j => by rw [f_W1 94 (by omega), e_W0]; show (if j = n + k then _ else K 94 j) = _; rw [iv2 j]; by_cases z : j = n + k; rw [if_pos z, if_pos (by omega), z]; unfold fdT; rw [if_neg (by omega)]; rw [if_neg (by omega)]; rw [if_pos (by omega)]; exact byt_e (by omega); rw [if_neg z]; by_cases w : n ≤ j ∧ j < n + k; rw [if_pos w, if_pos (by omega)]; rw [if_neg w, if_neg (by omega)]) ⟨fun a q1 q2 => by rw [f_W1 a q1, f_W0 a q2]; exact iv3.1 a q1 q2, fun s q => by rw [e_W1]; exact (if_neg q).trans ((congrFun (f_W0 90 (by omega)) s).trans (iv3.2 s q))⟩
            ·
              show WP (Call d) 186 P X (24, [some (vr (some 90) 10), some (vi a9), some (vi b9), some (vi c9), some (vi d9), some (vi e9), some (vi k), none], [], (K, H), 0, 0)
              refine WP.go 7 (And.intro rfl (Exists.intro 94 (And.intro hS.r90_5 (And.intro rfl (?_)))))
              refine rw_i (Q := fun x9 => WP (Call d) 186 P X (42, [some (vr (some 90) 10), some (vi a9), some (vi b9), some (vi c9), some (vi d9), some (vi e9), some (vi k), some (vi b9)], [vi x9, vr (some 94) 11], (K, H), 0, 0)) iv1 ?_
              show WP (Call d) 186 P X (42, [some (vr (some 90) 10), some (vi a9), some (vi b9), some (vi c9), some (vi d9), some (vi e9), some (vi k), some (vi b9)], [vi (n + k), vr (some 94) 11], (K, H), 0, 0)
              refine WP.go 12 (Exists.intro (k % 4) (And.intro (tmod_a (by omega) (by omega)) (Exists.intro (8 * (k % 4)) (And.intro (wrp_a (by omega) (by omega)) (Exists.intro (24 - (8 * (k % 4))) (And.intro (wrp_a (by omega) (by omega)) (And.intro (And.intro rfl (And.intro (show 0 ≤ n + k from by omega) (show n + k < H.2.1 94 from by omega))) (?_))))))))
              show WP (Call d) 186 P X (54, [some (vr (some 90) 10), some (vi a9), some (vi b9), some (vi c9), some (vi d9), some (vi e9), some (vi k), some (vi b9)], [], ((upI K 94 (n + k) (zand (zushr b9 (24 - (8 * (k % 4)))) 255)), H), 0, 0)
              generalize hq_W0 : (upI K 94 (n + k) (zand (zushr b9 (24 - (8 * (k % 4)))) 255)) = W0
              have e_W0 : W0 94 = (fun j => if j = (n + k) then (zand (zushr b9 (24 - (8 * (k % 4)))) 255) else K 94 j) := by rw [← hq_W0]; exact upI_self _ _ _ _
              have f_W0 : ∀ a, a ≠ 94 → W0 a = K a := fun a q => by rw [← hq_W0]; exact upI_cell q
              have h_8 : W0 90 6 = n + k := (congrFun (f_W0 90 (by omega)) 6).trans iv1
              refine WP.go 3 (And.intro rfl (?_))
              refine rw_i (Q := fun x9 => WP (Call d) 186 P X (57, [some (vr (some 90) 10), some (vi a9), some (vi b9), some (vi c9), some (vi d9), some (vi e9), some (vi k), some (vi b9)], [vi x9, vr (some 90) 10], (W0, H), 0, 0)) h_8 ?_
              show WP (Call d) 186 P X (57, [some (vr (some 90) 10), some (vi a9), some (vi b9), some (vi c9), some (vi d9), some (vi e9), some (vi k), some (vi b9)], [vi (n + k), vr (some 90) 10], (W0, H), 0, 0)
              refine WP.go 3 (Exists.intro ((n + k) + 1) (And.intro (wrp_a (by omega) (by omega)) (And.intro (And.intro rfl trivial) (?_))))
              show WP (Call d) 186 P X (60, [some (vr (some 90) 10), some (vi a9), some (vi b9), some (vi c9), some (vi d9), some (vi e9), some (vi k), some (vi b9)], [], ((upI W0 90 6 ((n + k) + 1)), H), 0, 0)
              generalize hq_W1 : (upI W0 90 6 ((n + k) + 1)) = W1
              have e_W1 : W1 90 = (fun j => if j = 6 then ((n + k) + 1) else W0 90 j) := by rw [← hq_W1]; exact upI_self _ _ _ _
              have f_W1 : ∀ a, a ≠ 90 → W1 a = W0 a := fun a q => by rw [← hq_W1]; exact upI_cell q
              have h_9 : W1 90 6 = n + k + 1 := by rw [e_W1]; rfl
              refine WP.go 2 (Exists.intro (k + 1) (And.intro (wrp_a (by omega) (by omega)) (?_)))
              show WP (Call d) 186 P X (13, [some (vr (some 90) 10), some (vi a9), some (vi b9), some (vi c9), some (vi d9), some (vi e9), some (vi (k + 1)), some (vi b9)], [], (W1, H), 0, 0)
              refine WP.wk (L := [some (vr (some 90) 10), some (vi a9), some (vi b9), some (vi c9), some (vi d9), some (vi e9), some (vi (k + 1)), none]) (And.intro rfl (And.intro rfl (And.intro rfl (And.intro rfl (And.intro rfl (And.intro rfl (And.intro rfl (And.intro trivial (trivial))))))))) ?_
              show WP (Call d) 186 P X (13, [some (vr (some 90) 10), some (vi a9), some (vi b9), some (vi c9), some (vi d9), some (vi e9), some (vi (k + 1)), none], [], (W1, H), 0, 0)
              exact ih13 W1 (k + 1) (by omega) (by omega) (by rw [h_9]; omega) (fun j => by rw [f_W1 94 (by omega), e_W0]; show (if j = n + k then _ else K 94 j) = _; rw [iv2 j]; by_cases z : j = n + k; rw [if_pos z, if_pos (by omega), z]; unfold fdT; rw [if_neg (by omega)]; rw [if_neg (by omega)]; rw [if_neg (by omega)]; rw [if_pos (by omega)]; exact byt_e (by omega); rw [if_neg z]; by_cases w : n ≤ j ∧ j < n + k; rw [if_pos w, if_pos (by omega)]; rw [if_neg w, if_neg (by omega)]) ⟨fun a q1 q2 => by rw [f_W1 a q1, f_W0 a q2]; exact iv3.1 a q1 q2, fun s q => by rw [e_W1]; exact (if_neg q).trans ((congrFun (f_W0 90 (by omega)) s).trans (iv3.2 s q))⟩
          ·
            show WP (Call d) 186 P X (19, [some (vr (some 90) 10), some (vi a9), some (vi b9), some (vi c9), some (vi d9), some (vi e9), some (vi k), none], [], (K, H), 0, 0)
            refine WP.go 7 (And.intro rfl (Exists.intro 94 (And.intro hS.r90_5 (And.intro rfl (?_)))))
            refine rw_i (Q := fun x9 => WP (Call d) 186 P X (42, [some (vr (some 90) 10), some (vi a9), some (vi b9), some (vi c9), some (vi d9), some (vi e9), some (vi k), some (vi a9)], [vi x9, vr (some 94) 11], (K, H), 0, 0)) iv1 ?_
            show WP (Call d) 186 P X (42, [some (vr (some 90) 10), some (vi a9), some (vi b9), some (vi c9), some (vi d9), some (vi e9), some (vi k), some (vi a9)], [vi (n + k), vr (some 94) 11], (K, H), 0, 0)
            refine WP.go 12 (Exists.intro (k % 4) (And.intro (tmod_a (by omega) (by omega)) (Exists.intro (8 * (k % 4)) (And.intro (wrp_a (by omega) (by omega)) (Exists.intro (24 - (8 * (k % 4))) (And.intro (wrp_a (by omega) (by omega)) (And.intro (And.intro rfl (And.intro (show 0 ≤ n + k from by omega) (show n + k < H.2.1 94 from by omega))) (?_))))))))
            show WP (Call d) 186 P X (54, [some (vr (some 90) 10), some (vi a9), some (vi b9), some (vi c9), some (vi d9), some (vi e9), some (vi k), some (vi a9)], [], ((upI K 94 (n + k) (zand (zushr a9 (24 - (8 * (k % 4)))) 255)), H), 0, 0)
            generalize hq_W0 : (upI K 94 (n + k) (zand (zushr a9 (24 - (8 * (k % 4)))) 255)) = W0
            have e_W0 : W0 94 = (fun j => if j = (n + k) then (zand (zushr a9 (24 - (8 * (k % 4)))) 255) else K 94 j) := by rw [← hq_W0]; exact upI_self _ _ _ _
            have f_W0 : ∀ a, a ≠ 94 → W0 a = K a := fun a q => by rw [← hq_W0]; exact upI_cell q
            have h_10 : W0 90 6 = n + k := (congrFun (f_W0 90 (by omega)) 6).trans iv1
            refine WP.go 3 (And.intro rfl (?_))
            refine rw_i (Q := fun x9 => WP (Call d) 186 P X (57, [some (vr (some 90) 10), some (vi a9), some (vi b9), some (vi c9), some (vi d9), some (vi e9), some (vi k), some (vi a9)], [vi x9, vr (some 90) 10], (W0, H), 0, 0)) h_10 ?_
            show WP (Call d) 186 P X (57, [some (vr (some 90) 10), some (vi a9), some (vi b9), some (vi c9), some (vi d9), some (vi e9), some (vi k), some (vi a9)], [vi (n + k), vr (some 90) 10], (W0, H), 0, 0)
            refine WP.go 3 (Exists.intro ((n + k) + 1) (And.intro (wrp_a (by omega) (by omega)) (And.intro (And.intro rfl trivial) (?_))))
            show WP (Call d) 186 P X (60, [some (vr (some 90) 10), some (vi a9), some (vi b9), some (vi c9), some (vi d9), some (vi e9), some (vi k), some (vi a9)], [], ((upI W0 90 6 ((n + k) + 1)), H), 0, 0)
            generalize hq_W1 : (upI W0 90 6 ((n + k) + 1)) = W1
            have e_W1 : W1 90 = (fun j => if j = 6 then ((n + k) + 1) else W0 90 j) := by rw [← hq_W1]; exact upI_self _ _ _ _
            have f_W1 : ∀ a, a ≠ 90 → W1 a = W0 a := fun a q => by rw [← hq_W1]; exact upI_cell q
            have h_11 : W1 90 6 = n + k + 1 := by rw [e_W1]; rfl
            refine WP.go 2 (Exists.intro (k + 1) (And.intro (wrp_a (by omega) (by omega)) (?_)))
            show WP (Call d) 186 P X (13, [some (vr (some 90) 10), some (vi a9), some (vi b9), some (vi c9), some (vi d9), some (vi e9), some (vi (k + 1)), some (vi a9)], [], (W1, H), 0, 0)
            refine WP.wk (L := [some (vr (some 90) 10), some (vi a9), some (vi b9), some (vi c9), some (vi d9), some (vi e9), some (vi (k + 1)), none]) (And.intro rfl (And.intro rfl (And.intro rfl (And.intro rfl (And.intro rfl (And.intro rfl (And.intro rfl (And.intro trivial (trivial))))))))) ?_
            show WP (Call d) 186 P X (13, [some (vr (some 90) 10), some (vi a9), some (vi b9), some (vi c9), some (vi d9), some (vi e9), some (vi (k + 1)), none], [], (W1, H), 0, 0)
            exact ih13 W1 (k + 1) (by omega) (by omega) (by rw [h_11]; omega) (fun j => by rw [f_W1 94 (by omega), e_W0]; show (if j = n + k then _ else K 94 j) = _; rw [iv2 j]; by_cases z : j = n + k; rw [if_pos z, if_pos (by omega), z]; unfold fdT; rw [if_neg (by omega)]; rw [if_neg (by omega)]; rw [if_neg (by omega)]; rw [if_neg (by omega)]; rw [if_pos (by omega)]; exact byt_e (by omega); rw [if_neg z]; by_cases w : n ≤ j ∧ j < n + k; rw [if_pos w, if_pos (by omega)]; rw [if_neg w, if_neg (by omega)]) ⟨fun a q1 q2 => by rw [f_W1 a q1, f_W0 a q2]; exact iv3.1 a q1 q2, fun s q => by rw [e_W1]; exact (if_neg q).trans ((congrFun (f_W0 90 (by omega)) s).trans (iv3.2 s q))⟩
    exact lp13 ((20 - 0 : Int).toNat + 1) J0 0 (by omega) (by omega) (by rw [h_1]; omega) (fun j => by rw [f_J0 94 (by omega), if_neg (by omega)]) ⟨fun _ _ _ => rfl, fun _ _ => rfl⟩
  ·
    show WP (Call d) 186 P X (9, [some (vr (some 90) 10), some (vi a9), some (vi b9), some (vi c9), some (vi d9), some (vi e9), none, none], [], (J0, H), 0, 0)
    refine WP.go 2 (And.intro (And.intro (Nat.le_of_ble_eq_true rfl) (Nat.le_of_ble_eq_true rfl)) (And.intro trivial (?_)))
    show P (some (vi (-1))) (J0, H)
    exact h.1 (by omega) _ hmf

