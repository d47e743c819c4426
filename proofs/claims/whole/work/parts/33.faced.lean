theorem OPN.ra {μ A T T' : Int → Int} {h b pl mo : Int} (e : OPN μ pl mo A T) (hV : IM μ) (h0 : 0 ≤ h) (h1 : h < μ 1) (q : T' = fun c => if c = μ (120 + 2 * h) then T (μ (120 + 2 * h)) + b else T c) : ∀ c, 0 ≤ c → c < 81 → T' c = HTC μ h b c := fun c q1 q2 => by
  rw [q, HTC_r hV h0 h1]
  show (if c = _ then _ else _) = _
  by_cases z : c = μ (120 + 2 * h)
  · rw [if_pos z, if_pos z, ← z, e.2 c q1 q2]
  · rw [if_neg z, if_neg z, e.2 c q1 q2]
theorem s_11_lightLost {d : Nat} {P : Option qV → qH → Prop} {X : Nat → qH → Prop} {I : qI} {H : qS} {μ : Int → Int} (hd : 6 ≤ d) {h9 b w x y : Int} (hS : Shp H) (hX : SX I) (hT : TR 6 I μ) (hV : IM μ) (hh : 0 ≤ h9 ∧ h9 < μ 1) (hw : 0 ≤ w ∧ w < μ 2) (ha : 0 ≤ x ∧ x ≤ y ∧ y < 100) (hb : 0 ≤ b ∧ b ≤ 30) (h : ∀ J : qI, CF I J → P (some (vi (LST μ h9 b w x y))) (J, H)) :
    Call d 160 [vr (some 3) 9, vi h9, vi b, vi w, vi x, vi y] (I, H) P X := by
  obtain ⟨d, rfl⟩ : ∃ e, d = e + 1 := ⟨d - 1, by omega⟩
  have v1 := hV.hc h9 hh.1 hh.2
  show WP (Call d) 160 P X (0, [some (vr (some 3) 9), some (vi h9), some (vi b), some (vi w), some (vi x), some (vi y), none], [], (I, H), 0, 0)
  refine WP.go 3 (And.intro rfl (Exists.intro 79 (And.intro hS.r3_7 (And.intro (And.intro (Nat.le_of_ble_eq_true rfl) (Nat.le_of_ble_eq_true rfl)) (And.intro rfl (?_))))))
  show Call d 1 [vr (some 79) 0] (I, H) _ _
  refine s_0_open (by omega) hS hX hT hV (fun J2 e2 f2 => ?_)
  show WP (Call d) 160 P X (3, [some (vr (some 3) 9), some (vi h9), some (vi b), some (vi w), some (vi x), some (vi y), none], [], (J2, H), 0, 0)
  have hX_1 : SX J2 := SX.fr hX (f2 0 (by omega) (by omega)) (f2 1 (by omega) (by omega))
  have hT_2 : TR 6 J2 μ := hT.fr (fun a q1 q2 => f2 a (by omega) (by omega))
  have hA_3 : AB (J2 80) (J2 81) := e2.ab hV
  refine WP.go 6 (And.intro rfl (Exists.intro 79 (And.intro hS.r3_7 (And.intro (And.intro (Nat.le_of_ble_eq_true rfl) (Nat.le_of_ble_eq_true rfl)) (And.intro rfl (?_))))))
  show Call d 10 [vr (some 79) 0, vi w, vi x, vi y] (J2, H) _ _
  refine s_0_lightOfWindow (by omega) hS hX_1 hT_2 hV hA_3 (by omega) (by omega) ?_
  show WP (Call d) 160 P X (9, [some (vr (some 3) 9), some (vi h9), some (vi b), some (vi w), some (vi x), some (vi y), none], [vi (LGW μ (J2 80) (J2 81) w x y)], (J2, H), 0, 0)
  have k0 := e2.t _ v1.1 (by omega)
  have k1 := HTC_bd hV (tl := -1) (b := 0) (by omega) (μ (120 + 2 * h9))
  have m1 := LGW_bd (a := x) (b := y) (by omega) μ (J2 80) (J2 81) w
  refine WP.go 6 (And.intro rfl (Exists.intro 79 (And.intro hS.r3_7 (And.intro (And.intro (Nat.le_of_ble_eq_true rfl) (Nat.le_of_ble_eq_true rfl)) (And.intro rfl (?_))))))
  show Call d 3 [vr (some 79) 0, vi h9, vi b] (J2, H) _ _
  refine s_0_raise (by omega) hS hT_2 hV (by omega) (by omega) (by rw [k0]; unfold HT; omega) (fun J14 e14 f14 => ?_)
  show WP (Call d) 160 P X (15, [some (vr (some 3) 9), some (vi h9), some (vi b), some (vi w), some (vi x), some (vi y), some (vi (LGW μ (J2 80) (J2 81) w x y))], [], (J14, H), 0, 0)
  have g80 : J14 80 = J2 80 := f14 80 (by omega)
  have hX_4 : SX J14 := hX_1.fr (f14 0 (by omega)) (f14 1 (by omega))
  have hT_5 : TR 6 J14 μ := hT_2.fr (fun a q1 q2 => f14 a (by omega))
  have hr14 := e2.ra hV hh.1 hh.2 e14
  have hA_6 : AB (J14 80) (J14 81) := ⟨fun y q1 q2 => by rw [g80]; exact hA_3.1 y q1 q2, fun c q1 q2 => by rw [hr14 c q1 q2]; exact HTC_bd hV hb c⟩
  have m2 := LGW_bd (a := x) (b := y) (by omega) μ (J14 80) (J14 81) w
  refine WP.go 7 (And.intro rfl (Exists.intro 79 (And.intro hS.r3_7 (And.intro (And.intro (Nat.le_of_ble_eq_true rfl) (Nat.le_of_ble_eq_true rfl)) (And.intro rfl (?_))))))
  show Call d 10 [vr (some 79) 0, vi w, vi x, vi y] (J14, H) _ _
  refine s_0_lightOfWindow (by omega) hS hX_4 hT_5 hV hA_6 (by omega) (by omega) ?_
  show WP (Call d) 160 P X (22, [some (vr (some 3) 9), some (vi h9), some (vi b), some (vi w), some (vi x), some (vi y), some (vi (LGW μ (J2 80) (J2 81) w x y))], [vi (LGW μ (J14 80) (J14 81) w x y), vi (LGW μ (J2 80) (J2 81) w x y)], (J14, H), 0, 0)
  refine WP.go 2 (Exists.intro ((LGW μ (J2 80) (J2 81) w x y) - (LGW μ (J14 80) (J14 81) w x y)) (And.intro (wrp_a (by omega) (by omega)) (And.intro (And.intro (Nat.le_of_ble_eq_true rfl) (Nat.le_of_ble_eq_true rfl)) (And.intro trivial (?_)))))
  show P (some (vi ((LGW μ (J2 80) (J2 81) w x y) - (LGW μ (J14 80) (J14 81) w x y)))) (J14, H)
  exact fin_i (by unfold LST; rw [LGW_congr ha.1 ha.2.2 e2.a e2.t, g80, LGW_congr (A' := AN μ) (T' := HTC μ h9 b) ha.1 ha.2.2 e2.a hr14]) (h _ (fun a q => (f14 a (by omega)).trans (f2 a (by omega) (by omega))))

theorem LST_bd {a b : Int} (h0 : 0 ≤ a) (h : a ≤ b) (hb : b < 100) (μ : Int → Int) (h9 k w : Int) : -1300 ≤ LST μ h9 k w a b ∧ LST μ h9 k w a b ≤ 1300 := by
  unfold LST
  have m1 := LGW_bd (a := a) (b := b) (by omega) μ (AN μ) (HT μ) w
  have m2 := LGW_bd (a := a) (b := b) (by omega) μ (AN μ) (HTC μ h9 k) w
  omega
theorem s_11_lost {d : Nat} {P : Option qV → qH → Prop} {X : Nat → qH → Prop} {I : qI} {H : qS} {μ : Int → Int} (hd : 7 ≤ d) {h9 b w x y : Int} (hS : Shp H) (hX : SX I) (hT : TR 6 I μ) (hV : IM μ) (h : (((0 ≤ h9 ∧ h9 < μ 1) ∧ (0 ≤ w ∧ w < μ 2) ∧ (0 ≤ x ∧ x < 100) ∧ (0 ≤ y ∧ y < 100)) ∧ (1 ≤ b ∧ b < 30 ∧ μ (121 + 2 * h9) + b ≤ 30) ∧ x ≤ y) → ∀ J : qI, CF I J → P (some (vi (LST μ h9 b w x y))) (J, H)) (hx1 : ¬ ((0 ≤ h9 ∧ h9 < μ 1) ∧ (0 ≤ w ∧ w < μ 2) ∧ (0 ≤ x ∧ x < 100) ∧ (0 ≤ y ∧ y < 100)) → X 1 (I, H)) (hx0 : ((0 ≤ h9 ∧ h9 < μ 1) ∧ (0 ≤ w ∧ w < μ 2) ∧ (0 ≤ x ∧ x < 100) ∧ (0 ≤ y ∧ y < 100)) ∧ ¬ ((1 ≤ b ∧ b < 30 ∧ μ (121 + 2 * h9) + b ≤ 30) ∧ x ≤ y) → X 0 (I, H)) :
    Call d 144 [vr (some 3) 9, vi h9, vi b, vi w, vi x, vi y] (I, H) P X := by
  obtain ⟨d, rfl⟩ : ∃ e, d = e + 1 := ⟨d - 1, by omega⟩
  show WP (Call d) 144 P X (0, [some (vr (some 3) 9), some (vi h9), some (vi b), some (vi w), some (vi x), some (vi y)], [], (I, H), 0, 0)
  refine WP.go 3 (And.intro (And.intro (Nat.le_of_ble_eq_true rfl) (Nat.le_of_ble_eq_true rfl)) (And.intro rfl (?_)))
  show Call d 167 [vr (some 3) 9, vi h9] (I, H) _ _
  refine s_11_needHouse (by omega) hS hT (fun q2 => ?_) (fun q9 => hx1 (by omega))
  show WP (Call d) 144 P X (3, [some (vr (some 3) 9), some (vi h9), some (vi b), some (vi w), some (vi x), some (vi y)], [], (I, H), 1, 6)
  refine WP.go 3 (And.intro (And.intro (Nat.le_of_ble_eq_true rfl) (Nat.le_of_ble_eq_true rfl)) (And.intro rfl (?_)))
  show Call d 169 [vr (some 3) 9, vi w] (I, H) _ _
  refine s_11_needWindow (by omega) hS hT (fun q5 => ?_) (fun q9 => hx1 (by omega))
  show WP (Call d) 144 P X (6, [some (vr (some 3) 9), some (vi h9), some (vi b), some (vi w), some (vi x), some (vi y)], [], (I, H), 2, 12)
  refine WP.go 3 (And.intro (And.intro (Nat.le_of_ble_eq_true rfl) (Nat.le_of_ble_eq_true rfl)) (And.intro rfl (?_)))
  show Call d 171 [vi x, vi y] (I, H) _ _
  refine s_11_needYears (by omega)  (fun q8 => ?_) (fun q9 => hx1 (by omega)) (fun q9 => hx0 (by omega))
  show WP (Call d) 144 P X (9, [some (vr (some 3) 9), some (vi h9), some (vi b), some (vi w), some (vi x), some (vi y)], [], (I, H), 5, 30)
  refine WP.go 4 (And.intro (And.intro (Nat.le_of_ble_eq_true rfl) (Nat.le_of_ble_eq_true rfl)) (And.intro rfl (?_)))
  show Call d 172 [vr (some 3) 9, vi h9, vi b] (I, H) _ _
  refine s_11_needHeight (by omega) hS hT hV (by omega) (fun q12 => ?_) (fun q9 => hx0 (by omega))
  show WP (Call d) 144 P X (13, [some (vr (some 3) 9), some (vi h9), some (vi b), some (vi w), some (vi x), some (vi y)], [], (I, H), 6, 36)
  refine WP.go 7 (And.intro (And.intro (Nat.le_of_ble_eq_true rfl) (Nat.le_of_ble_eq_true rfl)) (And.intro rfl (?_)))
  show Call d 160 [vr (some 3) 9, vi h9, vi b, vi w, vi x, vi y] (I, H) _ _
  refine s_11_lightLost (by omega) hS hX hT hV (by omega) (by omega) (by omega) (by omega) (fun J19 g19 => ?_)
  show WP (Call d) 144 P X (20, [some (vr (some 3) 9), some (vi h9), some (vi b), some (vi w), some (vi x), some (vi y)], [vi (LST μ h9 b w x y)], (J19, H), 6, 36)
  have hX_1 : SX J19 := hX.fr (g19 0 (by omega)) (g19 1 (by omega))
  have hT_2 : TR 6 J19 μ := g19.tw hT
  refine WP.go 1 (And.intro (And.intro (Nat.le_of_ble_eq_true rfl) (Nat.le_of_ble_eq_true rfl)) (And.intro trivial (?_)))
  show P (some (vi (LST μ h9 b w x y))) (J19, H)
  exact h (by omega) _ g19

theorem s_11_takes {d : Nat} {P : Option qV → qH → Prop} {X : Nat → qH → Prop} {I : qI} {H : qS} {μ : Int → Int} (hd : 7 ≤ d) {h9 b x y : Int} (hS : Shp H) (hX : SX I) (hT : TR 6 I μ) (hV : IM μ) (h : (((0 ≤ h9 ∧ h9 < μ 1) ∧ (0 ≤ x ∧ x < 100) ∧ (0 ≤ y ∧ y < 100)) ∧ (1 ≤ b ∧ b < 30 ∧ μ (121 + 2 * h9) + b ≤ 30) ∧ x ≤ y) → ∀ J : qI, CF I J → P (some (vi (hB (fun w => 0 < LST μ h9 b w x y) (μ 2)))) (J, H)) (hx1 : ¬ ((0 ≤ h9 ∧ h9 < μ 1) ∧ (0 ≤ x ∧ x < 100) ∧ (0 ≤ y ∧ y < 100)) → X 1 (I, H)) (hx0 : ((0 ≤ h9 ∧ h9 < μ 1) ∧ (0 ≤ x ∧ x < 100) ∧ (0 ≤ y ∧ y < 100)) ∧ ¬ ((1 ≤ b ∧ b < 30 ∧ μ (121 + 2 * h9) + b ≤ 30) ∧ x ≤ y) → X 0 (I, H)) :
    Call d 145 [vr (some 3) 9, vi h9, vi b, vi x, vi y] (I, H) P X := by
  obtain ⟨d, rfl⟩ : ∃ e, d = e + 1 := ⟨d - 1, by omega⟩
  have v1 := hV.n2
  show WP (Call d) 145 P X (0, [some (vr (some 3) 9), some (vi h9), some (vi b), some (vi x), some (vi y), none, none], [], (I, H), 0, 0)
  refine WP.go 3 (And.intro (And.intro (Nat.le_of_ble_eq_true rfl) (Nat.le_of_ble_eq_true rfl)) (And.intro rfl (?_)))
  show Call d 167 [vr (some 3) 9, vi h9] (I, H) _ _
  refine s_11_needHouse (by omega) hS hT (fun q2 => ?_) (fun q9 => hx1 (by omega))
  show WP (Call d) 145 P X (3, [some (vr (some 3) 9), some (vi h9), some (vi b), some (vi x), some (vi y), none, none], [], (I, H), 1, 6)
  refine WP.go 3 (And.intro (And.intro (Nat.le_of_ble_eq_true rfl) (Nat.le_of_ble_eq_true rfl)) (And.intro rfl (?_)))
  show Call d 171 [vi x, vi y] (I, H) _ _
  refine s_11_needYears (by omega)  (fun q5 => ?_) (fun q9 => hx1 (by omega)) (fun q9 => hx0 (by omega))
  show WP (Call d) 145 P X (6, [some (vr (some 3) 9), some (vi h9), some (vi b), some (vi x), some (vi y), none, none], [], (I, H), 4, 24)
  refine WP.go 4 (And.intro (And.intro (Nat.le_of_ble_eq_true rfl) (Nat.le_of_ble_eq_true rfl)) (And.intro rfl (?_)))
  show Call d 172 [vr (some 3) 9, vi h9, vi b] (I, H) _ _
  refine s_11_needHeight (by omega) hS hT hV (by omega) (fun q9 => ?_) (fun q9 => hx0 (by omega))
  show WP (Call d) 145 P X (10, [some (vr (some 3) 9), some (vi h9), some (vi b), some (vi x), some (vi y), none, none], [], (I, H), 5, 30)
  refine WP.go 4 ?_
  show WP (Call d) 145 P X (14, [some (vr (some 3) 9), some (vi h9), some (vi b), some (vi x), some (vi y), some (vi 0), some (vi 0)], [], (I, H), 5, 30)
  have lp14 : ∀ (n9 : Nat) (K : qI) (s9 : Int) (k : Int) (hm : μ 2 - k < (n9 : Int)) (iv0 : 0 ≤ k ∧ k ≤ μ 2) (iv1 : s9 = hB (fun w => 0 < LST μ h9 b w x y) k) (iv2 : CF I K), WP (Call d) 145 P X (14, [some (vr (some 3) 9), some (vi h9), some (vi b), some (vi x), some (vi y), some (vi s9), some (vi k)], [], (K, H), 5, 30) := by
    intro n9
    induction n9 with
    | zero => intro K s9 k hm iv0 iv1 iv2; exact absurd hm (by omega)
    | succ n9 ih14 =>
      intro K s9 k hm iv0 iv1 iv2
      have hTk : TR 6 K μ := iv2.tw hT
      have hXk : SX K := hX.fr (iv2 0 (by omega)) (iv2 1 (by omega))
      refine WP.go 5 (And.intro rfl (Exists.intro 6 (And.intro hS.r3_4 (And.intro rfl (Exists.intro 9 (And.intro hS.r6_1 (And.intro (And.intro (Nat.le_of_ble_eq_true rfl) (Nat.le_of_ble_eq_true rfl)) (And.intro rfl (?_)))))))))
      show Call d 55 [vr (some 9) 4] (K, H) _ _
      refine s_size_windows (by omega) hTk ?_
      show WP (Call d) 145 P X (19, [some (vr (some 3) 9), some (vi h9), some (vi b), some (vi x), some (vi y), some (vi s9), some (vi k)], [vi (μ 2), vi k], (K, H), 5, 30)
      refine WP.go 1 (And.intro (fun (b19 : ¬ k < μ 2) => ?_) (fun (b19 : k < μ 2) => ?_))
      ·
        show WP (Call d) 145 P X (38, [some (vr (some 3) 9), some (vi h9), some (vi b), some (vi x), some (vi y), some (vi s9), some (vi k)], [], (K, H), 5, 30)
        refine WP.go 2 (And.intro (And.intro (Nat.le_of_ble_eq_true rfl) (Nat.le_of_ble_eq_true rfl)) (And.intro trivial (?_)))
        show P (some (vi s9)) (K, H)
        exact fin_i (by rw [iv1, show k = μ 2 by omega]) (h (by omega) _ iv2)
      ·
        show WP (Call d) 145 P X (20, [some (vr (some 3) 9), some (vi h9), some (vi b), some (vi x), some (vi y), some (vi s9), some (vi k)], [], (K, H), 5, 30)
        refine WP.go 8 (And.intro (And.intro (Nat.le_of_ble_eq_true rfl) (Nat.le_of_ble_eq_true rfl)) (And.intro rfl (?_)))
        show Call d 160 [vr (some 3) 9, vi h9, vi b, vi k, vi x, vi y] (K, H) _ _
        refine s_11_lightLost (by omega) hS hXk hTk hV (by omega) (by omega) (by omega) (by omega) (fun J27 g27 => ?_)
        show WP (Call d) 145 P X (28, [some (vr (some 3) 9), some (vi h9), some (vi b), some (vi x), some (vi y), some (vi s9), some (vi k)], [vi (LST μ h9 b k x y), vi s9], (J27, H), 5, 30)
        have hX_1 : SX J27 := hXk.fr (g27 0 (by omega)) (g27 1 (by omega))
        have hT_2 : TR 6 J27 μ := g27.tw hTk
        refine WP.go 1 (And.intro (fun (b28 : ¬ 0 < LST μ h9 b k x y) => ?_) (fun (b28 : 0 < LST μ h9 b k x y) => ?_))
        ·
          show WP (Call d) 145 P X (33, [some (vr (some 3) 9), some (vi h9), some (vi b), some (vi x), some (vi y), some (vi s9), some (vi k)], [vi s9], (J27, H), 5, 30)
          refine WP.go 5 (Exists.intro (k + 1) (And.intro (wrp_a (by omega) (by omega)) (?_)))
          show WP (Call d) 145 P X (14, [some (vr (some 3) 9), some (vi h9), some (vi b), some (vi x), some (vi y), some (vi (zor s9 0)), some (vi (k + 1))], [], (J27, H), 5, 30)
          exact ih14 J27 (zor s9 0) (k + 1) (by omega) (by omega) (by rw [iv1, zor_0, hB_n (p := fun w => 0 < LST μ h9 b w x y) (by omega) (by omega)]) (iv2.tr g27)
        ·
          show WP (Call d) 145 P X (29, [some (vr (some 3) 9), some (vi h9), some (vi b), some (vi x), some (vi y), some (vi s9), some (vi k)], [vi s9], (J27, H), 5, 30)
          refine WP.go 8 (Exists.intro (k + 1) (And.intro (wrp_a (by omega) (by omega)) (?_)))
          show WP (Call d) 145 P X (14, [some (vr (some 3) 9), some (vi h9), some (vi b), some (vi x), some (vi y), some (vi (zor s9 (zshl 1 k))), some (vi (k + 1))], [], (J27, H), 5, 30)
          exact ih14 J27 (zor s9 (zshl 1 k)) (k + 1) (by omega) (by omega) (by rw [iv1, hB_y (p := fun w => 0 < LST μ h9 b w x y) (by omega) (by omega)]) (iv2.tr g27)
  exact lp14 ((μ 2 - 0 : Int).toNat + 1) I 0 0 (by omega) (by omega) rfl (CF.rf I)

theorem s_11_gable {d : Nat} {P : Option qV → qH → Prop} {X : Nat → qH → Prop} {I : qI} {H : qS} {μ : Int → Int} (hd : 7 ≤ d) {h9 w x y : Int} (hS : Shp H) (hX : SX I) (hT : TR 6 I μ) (hV : IM μ) (h : (((0 ≤ h9 ∧ h9 < μ 1) ∧ (0 ≤ w ∧ w < μ 2) ∧ (0 ≤ x ∧ x < 100) ∧ (0 ≤ y ∧ y < 100)) ∧ x ≤ y) → ∀ J : qI, CF I J → P (some (vi (GAB μ h9 w x y))) (J, H)) (hx1 : ¬ ((0 ≤ h9 ∧ h9 < μ 1) ∧ (0 ≤ w ∧ w < μ 2) ∧ (0 ≤ x ∧ x < 100) ∧ (0 ≤ y ∧ y < 100)) → X 1 (I, H)) (hx0 : ((0 ≤ h9 ∧ h9 < μ 1) ∧ (0 ≤ w ∧ w < μ 2) ∧ (0 ≤ x ∧ x < 100) ∧ (0 ≤ y ∧ y < 100)) ∧ y < x → X 0 (I, H)) :
    Call d 146 [vr (some 3) 9, vi h9, vi w, vi x, vi y] (I, H) P X := by
  obtain ⟨d, rfl⟩ : ∃ e, d = e + 1 := ⟨d - 1, by omega⟩
  show WP (Call d) 146 P X (0, [some (vr (some 3) 9), some (vi h9), some (vi w), some (vi x), some (vi y), none, none, none], [], (I, H), 0, 0)
  refine WP.go 3 (And.intro (And.intro (Nat.le_of_ble_eq_true rfl) (Nat.le_of_ble_eq_true rfl)) (And.intro rfl (?_)))
  show Call d 167 [vr (some 3) 9, vi h9] (I, H) _ _
  refine s_11_needHouse (by omega) hS hT (fun q2 => ?_) (fun q9 => hx1 (by omega))
  show WP (Call d) 146 P X (3, [some (vr (some 3) 9), some (vi h9), some (vi w), some (vi x), some (vi y), none, none, none], [], (I, H), 1, 6)
  refine WP.go 3 (And.intro (And.intro (Nat.le_of_ble_eq_true rfl) (Nat.le_of_ble_eq_true rfl)) (And.intro rfl (?_)))
  show Call d 169 [vr (some 3) 9, vi w] (I, H) _ _
  refine s_11_needWindow (by omega) hS hT (fun q5 => ?_) (fun q9 => hx1 (by omega))
  show WP (Call d) 146 P X (6, [some (vr (some 3) 9), some (vi h9), some (vi w), some (vi x), some (vi y), none, none, none], [], (I, H), 2, 12)
  refine WP.go 3 (And.intro (And.intro (Nat.le_of_ble_eq_true rfl) (Nat.le_of_ble_eq_true rfl)) (And.intro rfl (?_)))
  show Call d 171 [vi x, vi y] (I, H) _ _
  refine s_11_needYears (by omega)  (fun q8 => ?_) (fun q9 => hx1 (by omega)) (fun q9 => hx0 (by omega))
  show WP (Call d) 146 P X (9, [some (vr (some 3) 9), some (vi h9), some (vi w), some (vi x), some (vi y), none, none, none], [], (I, H), 5, 30)
  have v1 := hV.hh h9 (by omega) (by omega)
  have r9 := GAB_r hV (h := h9) (w := w) (x := x) (y := y) (by omega) (by omega) (by omega) (by omega)
  refine WP.go 5 (And.intro rfl (Exists.intro 6 (And.intro hS.r3_4 (And.intro (And.intro (Nat.le_of_ble_eq_true rfl) (Nat.le_of_ble_eq_true rfl)) (And.intro rfl (?_))))))
  show Call d 94 [vr (some 6) 6, vi h9] (I, H) _ _
  refine s_8_heightOf (by omega) hS (.inl rfl) hT hV (by omega) ?_
  show WP (Call d) 146 P X (14, [some (vr (some 3) 9), some (vi h9), some (vi w), some (vi x), some (vi y), none, none, none], [vi (μ (121 + 2 * h9)), vi 30], (I, H), 5, 30)
  refine WP.go 6 (Exists.intro (30 - (μ (121 + 2 * h9))) (And.intro (wrp_a (by omega) (by omega)) (?_)))
  show WP (Call d) 146 P X (20, [some (vr (some 3) 9), some (vi h9), some (vi w), some (vi x), some (vi y), some (vi (30 - (μ (121 + 2 * h9)))), some (vi 0), some (vi 16)], [], (I, H), 5, 30)
  have lp20 : ∀ (n9 : Nat) (K : qI) (m9 : Int) (t9 : Int) (hm : t9 < (n9 : Int)) (iv0 : t9 = 16 ∨ t9 = 8 ∨ t9 = 4 ∨ t9 = 2 ∨ t9 = 1 ∨ t9 = 0) (iv1 : 0 ≤ m9 ∧ m9 ≤ GAB μ h9 w x y ∧ (1 ≤ t9 → GAB μ h9 w x y < m9 + 2 * t9) ∧ (t9 = 0 → GAB μ h9 w x y = m9)) (iv2 : CF I K), WP (Call d) 146 P X (20, [some (vr (some 3) 9), some (vi h9), some (vi w), some (vi x), some (vi y), some (vi (30 - (μ (121 + 2 * h9)))), some (vi m9), some (vi t9)], [], (K, H), 5, 30) := by
    intro n9
    induction n9 with
    | zero => intro K m9 t9 hm iv0 iv1 iv2; exact absurd hm (by omega)
    | succ n9 ih20 =>
      intro K m9 t9 hm iv0 iv1 iv2
      have hTk : TR 6 K μ := iv2.tw hT
      have hXk : SX K := hX.fr (iv2 0 (by omega)) (iv2 1 (by omega))
      refine WP.go 2 (And.intro (fun (b21 : ¬ 0 < t9) => ?_) (fun (b21 : 0 < t9) => ?_))
      ·
        show WP (Call d) 146 P X (46, [some (vr (some 3) 9), some (vi h9), some (vi w), some (vi x), some (vi y), some (vi (30 - (μ (121 + 2 * h9)))), some (vi m9), some (vi t9)], [], (K, H), 5, 30)
        refine WP.go 2 (And.intro (And.intro (Nat.le_of_ble_eq_true rfl) (Nat.le_of_ble_eq_true rfl)) (And.intro trivial (?_)))
        show P (some (vi m9)) (K, H)
        exact fin_i (by omega) (h (by omega) _ iv2)
      ·
        show WP (Call d) 146 P X (22, [some (vr (some 3) 9), some (vi h9), some (vi w), some (vi x), some (vi y), some (vi (30 - (μ (121 + 2 * h9)))), some (vi m9), some (vi t9)], [], (K, H), 5, 30)
        refine WP.go 5 (Exists.intro (m9 + t9) (And.intro (wrp_a (by omega) (by omega)) (And.intro (fun (b26 : 30 - (μ (121 + 2 * h9)) < m9 + t9) => ?_) (fun (b26 : ¬ 30 - (μ (121 + 2 * h9)) < m9 + t9) => ?_))))
        ·
          show WP (Call d) 146 P X (41, [some (vr (some 3) 9), some (vi h9), some (vi w), some (vi x), some (vi y), some (vi (30 - (μ (121 + 2 * h9)))), some (vi m9), some (vi t9)], [], (K, H), 5, 30)
          refine WP.go 5 (Exists.intro (t9 / 2) (And.intro (tdiv_a (by omega) (by omega) (by omega)) (?_)))
          show WP (Call d) 146 P X (20, [some (vr (some 3) 9), some (vi h9), some (vi w), some (vi x), some (vi y), some (vi (30 - (μ (121 + 2 * h9)))), some (vi m9), some (vi (t9 / 2))], [], (K, H), 5, 30)
          exact ih20 K m9 (t9 / 2) (by omega) (by omega) (by omega) iv2
        ·
          show WP (Call d) 146 P X (27, [some (vr (some 3) 9), some (vi h9), some (vi w), some (vi x), some (vi y), some (vi (30 - (μ (121 + 2 * h9)))), some (vi m9), some (vi t9)], [], (K, H), 5, 30)
          refine WP.go 9 (Exists.intro (m9 + t9) (And.intro (wrp_a (by omega) (by omega)) (And.intro (And.intro (Nat.le_of_ble_eq_true rfl) (Nat.le_of_ble_eq_true rfl)) (And.intro rfl (?_)))))
          show Call d 160 [vr (some 3) 9, vi h9, vi (m9 + t9), vi w, vi x, vi y] (K, H) _ _
          refine s_11_lightLost (by omega) hS hXk hTk hV (by omega) (by omega) (by omega) (by omega) (fun J35 g35 => ?_)
          show WP (Call d) 146 P X (36, [some (vr (some 3) 9), some (vi h9), some (vi w), some (vi x), some (vi y), some (vi (30 - (μ (121 + 2 * h9)))), some (vi m9), some (vi t9)], [vi (LST μ h9 (m9 + t9) w x y)], (J35, H), 5, 30)
          have hX_1 : SX J35 := hXk.fr (g35 0 (by omega)) (g35 1 (by omega))
          have hT_2 : TR 6 J35 μ := g35.tw hTk
          refine WP.go 1 (And.intro (fun (b36 : ¬ LST μ h9 (m9 + t9) w x y = 0) => ?_) (fun (b36 : LST μ h9 (m9 + t9) w x y = 0) => ?_))
          ·
            show WP (Call d) 146 P X (41, [some (vr (some 3) 9), some (vi h9), some (vi w), some (vi x), some (vi y), some (vi (30 - (μ (121 + 2 * h9)))), some (vi m9), some (vi t9)], [], (J35, H), 5, 30)
            refine WP.go 5 (Exists.intro (t9 / 2) (And.intro (tdiv_a (by omega) (by omega) (by omega)) (?_)))
            show WP (Call d) 146 P X (20, [some (vr (some 3) 9), some (vi h9), some (vi w), some (vi x), some (vi y), some (vi (30 - (μ (121 + 2 * h9)))), some (vi m9), some (vi (t9 / 2))], [], (J35, H), 5, 30)
            exact ih20 J35 m9 (t9 / 2) (by omega) (by omega) (by have z := r9.2.2 (m9 + t9) (by omega) (by omega); have z2 := mt z.mpr b36; omega) (iv2.tr g35)
          ·
            show WP (Call d) 146 P X (37, [some (vr (some 3) 9), some (vi h9), some (vi w), some (vi x), some (vi y), some (vi (30 - (μ (121 + 2 * h9)))), some (vi m9), some (vi t9)], [], (J35, H), 5, 30)
            refine WP.go 9 (Exists.intro (m9 + t9) (And.intro (wrp_a (by omega) (by omega)) (Exists.intro (t9 / 2) (And.intro (tdiv_a (by omega) (by omega) (by omega)) (?_)))))
            show WP (Call d) 146 P X (20, [some (vr (some 3) 9), some (vi h9), some (vi w), some (vi x), some (vi y), some (vi (30 - (μ (121 + 2 * h9)))), some (vi (m9 + t9)), some (vi (t9 / 2))], [], (J35, H), 5, 30)
            exact ih20 J35 (m9 + t9) (t9 / 2) (by omega) (by omega) (by have z := r9.2.2 (m9 + t9) (by omega) (by omega); have z2 := z.mp b36; omega) (iv2.tr g35)
  exact lp20 ((16 : Int).toNat + 1) I 0 16 (by omega) (by omega) (by omega) (CF.rf I)

theorem s_11_push {d : Nat} {P : Option qV → qH → Prop} {X : Nat → qH → Prop} {I : qI} {H : qS} {μ : Int → Int} (hd : 5 ≤ d) {w x y : Int} (hS : Shp H) (hX : SX I) (hT : TR 6 I μ) (hV : IM μ) (h : ((0 ≤ w ∧ w < μ 2) ∧ (0 ≤ x ∧ x < 100) ∧ (0 ≤ y ∧ y < 100)) → ∀ J : qI, CF I J → P (some (vi (fI (fun m => LITp μ (ANG μ x m) (HT μ) w 6 y) 0 49))) (J, H)) (hx1 : ¬ ((0 ≤ w ∧ w < μ 2) ∧ (0 ≤ x ∧ x < 100) ∧ (0 ≤ y ∧ y < 100)) → X 1 (I, H)) :
    Call d 154 [vr (some 3) 9, vi w, vi x, vi y] (I, H) P X := by
  obtain ⟨d, rfl⟩ : ∃ e, d = e + 1 := ⟨d - 1, by omega⟩
  show WP (Call d) 154 P X (0, [some (vr (some 3) 9), some (vi w), some (vi x), some (vi y), none], [], (I, H), 0, 0)
  refine WP.go 3 (And.intro (And.intro (Nat.le_of_ble_eq_true rfl) (Nat.le_of_ble_eq_true rfl)) (And.intro rfl (?_)))
  show Call d 169 [vr (some 3) 9, vi w] (I, H) _ _
  refine s_11_needWindow (by omega) hS hT (fun q2 => ?_) (fun q9 => hx1 (by omega))
  show WP (Call d) 154 P X (3, [some (vr (some 3) 9), some (vi w), some (vi x), some (vi y), none], [], (I, H), 1, 6)
  refine WP.go 2 (And.intro (And.intro (Nat.le_of_ble_eq_true rfl) (Nat.le_of_ble_eq_true rfl)) (And.intro rfl (?_)))
  show Call d 165 [vi x] (I, H) _ _
  refine s_11_needYear (by omega)  (fun q4 => ?_) (fun q9 => hx1 (by omega))
  show WP (Call d) 154 P X (5, [some (vr (some 3) 9), some (vi w), some (vi x), some (vi y), none], [], (I, H), 2, 12)
  refine WP.go 2 (And.intro (And.intro (Nat.le_of_ble_eq_true rfl) (Nat.le_of_ble_eq_true rfl)) (And.intro rfl (?_)))
  show Call d 165 [vi y] (I, H) _ _
  refine s_11_needYear (by omega)  (fun q6 => ?_) (fun q9 => hx1 (by omega))
  show WP (Call d) 154 P X (7, [some (vr (some 3) 9), some (vi w), some (vi x), some (vi y), none], [], (I, H), 3, 18)
  refine WP.go 2 ?_
  show WP (Call d) 154 P X (9, [some (vr (some 3) 9), some (vi w), some (vi x), some (vi y), some (vi 0)], [], (I, H), 3, 18)
  have lp9 : ∀ (n9 : Nat) (K : qI) (k : Int) (hm : 49 - k < (n9 : Int)) (iv0 : 0 ≤ k ∧ k ≤ 49) (iv1 : fI (fun m => LITp μ (ANG μ x m) (HT μ) w 6 y) 0 49 = fI (fun m => LITp μ (ANG μ x m) (HT μ) w 6 y) k 49) (iv2 : CF I K), WP (Call d) 154 P X (9, [some (vr (some 3) 9), some (vi w), some (vi x), some (vi y), some (vi k)], [], (K, H), 3, 18) := by
    intro n9
    induction n9 with
    | zero => intro K k hm iv0 iv1 iv2; exact absurd hm (by omega)
    | succ n9 ih9 =>
      intro K k hm iv0 iv1 iv2
      have hTk : TR 6 K μ := iv2.tw hT
      have hXk : SX K := hX.fr (iv2 0 (by omega)) (iv2 1 (by omega))
      refine WP.go 3 (And.intro (fun (b11 : 48 < k) => ?_) (fun (b11 : ¬ 48 < k) => ?_))
      ·
        show WP (Call d) 154 P X (28, [some (vr (some 3) 9), some (vi w), some (vi x), some (vi y), some (vi k)], [], (K, H), 3, 18)
        refine WP.go 2 (And.intro (And.intro (Nat.le_of_ble_eq_true rfl) (Nat.le_of_ble_eq_true rfl)) (And.intro trivial (?_)))
        show P (some (vi (-1))) (K, H)
        exact fin_i (iv1.trans (fI_nil (by omega))).symm (h (by omega) _ iv2)
      ·
        show WP (Call d) 154 P X (12, [some (vr (some 3) 9), some (vi w), some (vi x), some (vi y), some (vi k)], [], (K, H), 3, 18)
        refine WP.go 5 (And.intro rfl (Exists.intro 79 (And.intro hS.r3_7 (And.intro (And.intro (Nat.le_of_ble_eq_true rfl) (Nat.le_of_ble_eq_true rfl)) (And.intro rfl (?_))))))
        show Call d 2 [vr (some 79) 0, vi x, vi k] (K, H) _ _
        refine s_0_openPulled (by omega) hS hXk hTk hV (by omega) (fun J16 e16 f16 => ?_)
        show WP (Call d) 154 P X (17, [some (vr (some 3) 9), some (vi w), some (vi x), some (vi y), some (vi k)], [], (J16, H), 3, 18)
        have hX_1 : SX J16 := SX.fr hXk (f16 0 (by omega) (by omega)) (f16 1 (by omega) (by omega))
        have hT_2 : TR 6 J16 μ := hTk.fr (fun a q1 q2 => f16 a (by omega) (by omega))
        have hA_3 : AB (J16 80) (J16 81) := e16.ab hV
        refine WP.go 6 (And.intro rfl (Exists.intro 79 (And.intro hS.r3_7 (And.intro (And.intro (Nat.le_of_ble_eq_true rfl) (Nat.le_of_ble_eq_true rfl)) (And.intro rfl (?_))))))
        show Call d 6 [vr (some 79) 0, vi w, vi 6, vi y] (J16, H) _ _
        refine s_0_isLit (by omega) hS hX_1 hT_2 hV hA_3 (by omega) (by omega) (by omega) ?_
        show WP (Call d) 154 P X (23, [some (vr (some 3) 9), some (vi w), some (vi x), some (vi y), some (vi k)], [vi (bz (LITp μ (J16 80) (J16 81) w 6 y))], (J16, H), 3, 18)
        refine WP.go 1 (And.intro (fun (b23 : bz (LITp μ (J16 80) (J16 81) w 6 y) = 0) => ?_) (fun (b23 : ¬ bz (LITp μ (J16 80) (J16 81) w 6 y) = 0) => ?_))
        ·
          show WP (Call d) 154 P X (26, [some (vr (some 3) 9), some (vi w), some (vi x), some (vi y), some (vi k)], [], (J16, H), 3, 18)
          have z23 := bz_e0.mp b23
          refine WP.go 2 (Exists.intro (k + 1) (And.intro (wrp_a (by omega) (by omega)) (?_)))
          show WP (Call d) 154 P X (9, [some (vr (some 3) 9), some (vi w), some (vi x), some (vi y), some (vi (k + 1))], [], (J16, H), 3, 18)
          exact ih9 J16 (k + 1) (by omega) (by omega) (iv1.trans (fI_n (by omega) (fun z => bz_e0.mp b23 ((LITp_congr (e16.1 y (by omega) (by omega)) e16.t).mpr z)))) (iv2.tr (CF.op f16))
        ·
          show WP (Call d) 154 P X (24, [some (vr (some 3) 9), some (vi w), some (vi x), some (vi y), some (vi k)], [], (J16, H), 3, 18)
          have z23 := bz_e1.mp b23
          refine WP.go 2 (And.intro (And.intro (Nat.le_of_ble_eq_true rfl) (Nat.le_of_ble_eq_true rfl)) (And.intro trivial (?_)))
          show P (some (vi k)) (J16, H)
          exact fin_i (iv1.trans (fI_s (by omega) ((LITp_congr (e16.1 y (by omega) (by omega)) e16.t).mp (bz_e1.mp b23)))).symm (h (by omega) _ (iv2.tr (CF.op f16)))
  exact lp9 ((49 - 0 : Int).toNat + 1) I 0 (by omega) (by omega) rfl (CF.rf I)

