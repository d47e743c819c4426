theorem HT_p {μ : Int → Int} (hV : IM μ) (c : Int) : 0 < HT μ c ↔ hON μ c (μ 1) ≠ -1 := by
  have v := hV.n1
  unfold HT
  rcases Classical.em (hON μ c (μ 1) = -1) with q | q
  · rw [HTC_n q]; exact ⟨fun z => by omega, fun z => absurd q z⟩
  · rw [HTC_y q]
    have r := (hON_r (μ := μ) (c := c) (k := μ 1) (by omega)).resolve_left (fun z => q z.1)
    have := hV.hh _ r.1 r.2.1
    exact ⟨fun _ => q, fun _ => by split <;> omega⟩
theorem sxy {d : Int} (h : 0 ≤ d ∧ d < 8) : sx d ≠ 0 ∨ sy d ≠ 0 := by
  have hd : d = 0 ∨ d = 1 ∨ d = 2 ∨ d = 3 ∨ d = 4 ∨ d = 5 ∨ d = 6 ∨ d = 7 := by omega
  rcases hd with rfl | rfl | rfl | rfl | rfl | rfl | rfl | rfl <;> decide
theorem far {u s i : Int} (h0 : 0 ≤ u) (h1 : u < 9) (hi : i = 9) (hs : s = -1 ∨ s = 1) : ¬ (0 ≤ u + i * s ∧ u + i * s < 9) := by
  rcases hs with rfl | rfl <;> omega
theorem s_12_pool {d : Nat} {P : Option qV → qH → Prop} {X : Nat → qH → Prop} {I : qI} {H : qS} {μ : Int → Int} (hd : 4 ≤ d) {c y : Int} (hS : Shp H) (hM : I 91 = μ) (hV : IM μ) (hK : MS I) (hk1 : (¬ ((0 ≤ c ∧ c < 81) ∧ (0 ≤ y ∧ y < 100))) → ∀ (J : qI) (v : Int), (v = 0 ∨ v = 1) → MF I J → J 90 0 = 1 → P (some (vi v)) (J, H)) (h : ((0 ≤ c ∧ c < 81) ∧ (0 ≤ y ∧ y < 100)) → ∀ J : qI, MF I J → J 90 0 = 0 → P (some (vi (POOL μ (AN μ) (HT μ) c y))) (J, H)) :
    Call d 241 [vr (some 90) 10, vi c, vi y] (I, H) P X := by
  obtain ⟨d, rfl⟩ : ∃ e, d = e + 1 := ⟨d - 1, by omega⟩
  have hl91 := hS.l91
  obtain ⟨tb, h30⟩ : ∃ tb, I 90 30 = tb := ⟨_, rfl⟩
  obtain ⟨mo, h23⟩ : ∃ mo, I 90 23 = mo := ⟨_, rfl⟩
  have htb : 0 ≤ tb ∧ tb ≤ 29 := by have := hK.2.2.2; omega
  have hmo : (-1 : Int) = -1 ∨ (0 ≤ mo ∧ mo ≤ 48) := .inl rfl
  have h22 := hK.1
  have h29 := hK.2.1
  show WP (Call d) 241 P X (0, [some (vr (some 90) 10), some (vi c), some (vi y), none, none, none, none, none], [], (I, H), 0, 0)
  refine WP.go 3 (And.intro (And.intro (Nat.le_of_ble_eq_true rfl) (Nat.le_of_ble_eq_true rfl)) (And.intro rfl (?_)))
  show Call d 178 [vi c] (I, H) _ _
  refine s_12_isCell (by omega)  ?_
  show WP (Call d) 241 P X (3, [some (vr (some 90) 10), some (vi c), some (vi y), none, none, none, none, none], [vi (bz (0 ≤ c ∧ c ≤ 80)), vr (some 90) 10], (I, H), 0, 0)
  refine WP.go 1 (And.intro (fun (b3 : bz (0 ≤ c ∧ c ≤ 80) = 0) => ?_) (fun (b3 : ¬ bz (0 ≤ c ∧ c ≤ 80) = 0) => ?_))
  ·
    show WP (Call d) 241 P X (7, [some (vr (some 90) 10), some (vi c), some (vi y), none, none, none, none, none], [vr (some 90) 10], (I, H), 0, 0)
    have z3 := bz_e0.mp b3
    refine WP.go 6 (And.intro (And.intro rfl trivial) (And.intro rfl (And.intro (fun (b13 : ¬ 0 < 1) => (absurd b13 (by omega))) (fun (b13 : 0 < 1) => ?_))))
    show WP (Call d) 241 P X (14, [some (vr (some 90) 10), some (vi c), some (vi y), none, none, none, none, none], [], ((upI I 90 0 1), H), 0, 0)
    refine WP.go 2 (And.intro (And.intro (Nat.le_of_ble_eq_true rfl) (Nat.le_of_ble_eq_true rfl)) (And.intro trivial (?_)))
    show P (some (vi 0)) ((upI I 90 0 1), H)
    exact hk1 (by omega) _ 0 (.inl rfl) (MF.th hK _) (upI_same _ _ _ _)
  ·
    show WP (Call d) 241 P X (4, [some (vr (some 90) 10), some (vi c), some (vi y), none, none, none, none, none], [vr (some 90) 10], (I, H), 0, 0)
    have z3 := bz_e1.mp b3
    refine WP.go 2 (And.intro (And.intro (Nat.le_of_ble_eq_true rfl) (Nat.le_of_ble_eq_true rfl)) (And.intro rfl (?_)))
    show Call d 179 [vi y] (I, H) _ _
    refine s_12_isYear (by omega)  ?_
    show WP (Call d) 241 P X (6, [some (vr (some 90) 10), some (vi c), some (vi y), none, none, none, none, none], [vi (bz (0 ≤ y ∧ y ≤ 99)), vr (some 90) 10], (I, H), 0, 0)
    refine WP.go 1 (And.intro (fun (b6 : ¬ bz (0 ≤ y ∧ y ≤ 99) = 0) => ?_) (fun (b6 : bz (0 ≤ y ∧ y ≤ 99) = 0) => ?_))
    ·
      show WP (Call d) 241 P X (9, [some (vr (some 90) 10), some (vi c), some (vi y), none, none, none, none, none], [vr (some 90) 10], (I, H), 0, 0)
      have z6 := bz_e1.mp b6
      refine WP.go 5 (And.intro (And.intro rfl trivial) (And.intro rfl (And.intro (fun (b13 : ¬ 0 < 0) => ?_) (fun (b13 : 0 < 0) => (absurd b13 (by omega))))))
      show WP (Call d) 241 P X (16, [some (vr (some 90) 10), some (vi c), some (vi y), none, none, none, none, none], [], ((upI I 90 0 0), H), 0, 0)
      generalize hq_J0 : (upI I 90 0 0) = J0
      have e_J0 : J0 90 = (fun j => if j = 0 then 0 else I 90 j) := by rw [← hq_J0]; exact upI_self _ _ _ _
      have f_J0 : ∀ a, a ≠ 90 → J0 a = I a := fun a q => by rw [← hq_J0]; exact upI_cell q
      have hmf : MF I J0 := MF.t0 hK e_J0 f_J0
      have hth : J0 90 0 = 0 := by rw [e_J0]; rfl
      have hM_1 : J0 91 = μ := (f_J0 91 (by omega)).trans hM
      have h_2 : J0 90 22 = -1 := by rw [e_J0]; exact h22
      have h_3 : J0 90 23 = mo := by rw [e_J0]; exact h23
      have h_4 : J0 90 29 = -1 := by rw [e_J0]; exact h29
      have h_5 : J0 90 30 = tb := by rw [e_J0]; exact h30
      refine WP.go 2 (And.intro (And.intro (Nat.le_of_ble_eq_true rfl) (Nat.le_of_ble_eq_true rfl)) (And.intro rfl (?_)))
      show Call d 210 [vr (some 90) 10] (J0, H) _ _
      refine s_12_turn (by omega) hS hM_1 hV h_2 h_3 hmo (fun J17 e17 f17 => ?_)
      show WP (Call d) 241 P X (18, [some (vr (some 90) 10), some (vi c), some (vi y), none, none, none, none, none], [], (J17, H), 0, 0)
      have hM_6 : J17 91 = μ := (f17 91 (by omega)).trans hM_1
      have h_7 : J17 90 22 = -1 := (congrFun (f17 90 (by omega)) 22).trans h_2
      have h_8 : J17 90 23 = mo := (congrFun (f17 90 (by omega)) 23).trans h_3
      have h_9 : J17 90 29 = -1 := (congrFun (f17 90 (by omega)) 29).trans h_4
      have h_10 : J17 90 30 = tb := (congrFun (f17 90 (by omega)) 30).trans h_5
      have hA_11 : ∀ y, 0 ≤ y → y < 100 → 0 ≤ J17 96 y ∧ J17 96 y < 96 := fun y q1 q2 => by rw [e17 y q1 q2]; exact ANG_bd hV _ _ _
      have eA : ∀ y, 0 ≤ y → y < 100 → J17 96 y = AN μ y := fun y q1 q2 => (e17 y q1 q2).trans (ANG_irr (by omega) _ _ _)
      have hmf_12 : MF I J17 := hmf.tu f17
      have hth_13 : J17 90 0 = 0 := (congrFun (f17 90 (by omega)) 0).trans hth
      have v1 := hV.se
      have m1 := dirOf_bd (μ 12) (J17 96 y)
      have s1 := sx_bd (dirOf (μ 12) (J17 96 y))
      have s2 := sy_bd (dirOf (μ 12) (J17 96 y))
      have s3 := sxy m1
      refine WP.go 5 (And.intro rfl (Exists.intro 91 (And.intro hS.r90_1 (And.intro (And.intro rfl (And.intro (show 0 ≤ 12 from by omega) (show 12 < H.2.1 91 from by omega))) (?_)))))
      refine rw_i (Q := fun x9 => WP (Call d) 241 P X (23, [some (vr (some 90) 10), some (vi c), some (vi y), none, none, none, none, none], [vi x9, vr (some 90) 10], (J17, H), 0, 0)) (congrFun hM_6 _) ?_
      show WP (Call d) 241 P X (23, [some (vr (some 90) 10), some (vi c), some (vi y), none, none, none, none, none], [vi (μ 12), vr (some 90) 10], (J17, H), 0, 0)
      refine WP.go 2 (And.intro (And.intro (Nat.le_of_ble_eq_true rfl) (Nat.le_of_ble_eq_true rfl)) (And.intro rfl (?_)))
      show Call d 215 [vr (some 90) 10, vi (μ 12), vi y] (J17, H) _ _
      refine s_12_towards (by omega) hS hA_11 (by omega) (by omega) ?_
      show WP (Call d) 241 P X (25, [some (vr (some 90) 10), some (vi c), some (vi y), none, none, none, none, none], [vi (dirOf (μ 12) ((J17 96) y))], (J17, H), 0, 0)
      refine WP.go 9 (Exists.intro (c % 9) (And.intro (tmod_a (by omega) (by omega)) (Exists.intro (c / 9) (And.intro (tdiv_a (by omega) (by omega) (by omega)) (?_)))))
      show WP (Call d) 241 P X (34, [some (vr (some 90) 10), some (vi c), some (vi y), some (vi (dirOf (μ 12) ((J17 96) y))), some (vi (c % 9)), some (vi (c / 9)), none, none], [], (J17, H), 0, 0)
      have lp34 : ∀ (n9 : Nat) (x9 : Int) (z9 : Int) (i9 : Int) (hm : 9 - i9 < (n9 : Int)) (iv0 : 0 ≤ x9 ∧ x9 < 9 ∧ 0 ≤ z9 ∧ z9 < 9 ∧ 1 ≤ i9 ∧ i9 ≤ 9) (iv1 : x9 = c % 9 + (i9 - 1) * sx (dirOf (μ 12) (J17 96 y)) ∧ z9 = c / 9 + (i9 - 1) * sy (dirOf (μ 12) (J17 96 y))) (iv2 : POOL μ (AN μ) (HT μ) c y = plN (HT μ) (dirOf (μ 12) (J17 96 y)) (9 - i9).toNat (9 * z9 + x9)), WP (Call d) 241 P X (34, [some (vr (some 90) 10), some (vi c), some (vi y), some (vi (dirOf (μ 12) ((J17 96) y))), some (vi x9), some (vi z9), none, none], [], (J17, H), 0, 0) := by
        intro n9
        induction n9 with
        | zero => intro x9 z9 i9 hm iv0 iv1 iv2; exact absurd hm (by omega)
        | succ n9 ih34 =>
          intro x9 z9 i9 hm iv0 iv1 iv2
          have e1 : (i9 + 1 - 1) * sx (dirOf (μ 12) (J17 96 y)) = (i9 - 1) * sx (dirOf (μ 12) (J17 96 y)) + sx (dirOf (μ 12) (J17 96 y)) := by rw [show i9 + 1 - 1 = (i9 - 1) + 1 by omega, Int.add_mul, Int.one_mul]
          have e2 : (i9 + 1 - 1) * sy (dirOf (μ 12) (J17 96 y)) = (i9 - 1) * sy (dirOf (μ 12) (J17 96 y)) + sy (dirOf (μ 12) (J17 96 y)) := by rw [show i9 + 1 - 1 = (i9 - 1) + 1 by omega, Int.add_mul, Int.one_mul]
          have e3 : (0 ≤ x9 + sx (dirOf (μ 12) (J17 96 y)) ∧ x9 + sx (dirOf (μ 12) (J17 96 y)) < 9 ∧ 0 ≤ z9 + sy (dirOf (μ 12) (J17 96 y)) ∧ z9 + sy (dirOf (μ 12) (J17 96 y)) < 9) → coff (9 * z9 + x9) (dirOf (μ 12) (J17 96 y)) 1 = 9 * (z9 + sy (dirOf (μ 12) (J17 96 y))) + (x9 + sx (dirOf (μ 12) (J17 96 y))) := fun q => by unfold coff; rw [show (9 * z9 + x9) % 9 = x9 by omega, show (9 * z9 + x9) / 9 = z9 by omega, Int.one_mul, Int.one_mul, if_pos q]
          have e4 : ¬ (0 ≤ x9 + sx (dirOf (μ 12) (J17 96 y)) ∧ x9 + sx (dirOf (μ 12) (J17 96 y)) < 9 ∧ 0 ≤ z9 + sy (dirOf (μ 12) (J17 96 y)) ∧ z9 + sy (dirOf (μ 12) (J17 96 y)) < 9) → coff (9 * z9 + x9) (dirOf (μ 12) (J17 96 y)) 1 = -1 := fun q => by unfold coff; rw [show (9 * z9 + x9) % 9 = x9 by omega, show (9 * z9 + x9) / 9 = z9 by omega, Int.one_mul, Int.one_mul, if_neg q]
          have e5 : coff (9 * z9 + x9) (dirOf (μ 12) (J17 96 y)) 1 = -1 ∨ 0 < HT μ (coff (9 * z9 + x9) (dirOf (μ 12) (J17 96 y)) 1) → POOL μ (AN μ) (HT μ) c y = 9 * z9 + x9 := fun q => by
            rw [iv2]
            rcases Int.lt_or_le i9 9 with z | z
            · rw [plN_s z, if_pos q]
            · rw [show (9 - i9).toNat = 0 by omega]; rfl
          have e6 : i9 = 9 → coff (9 * z9 + x9) (dirOf (μ 12) (J17 96 y)) 1 = -1 := fun q => e4 (fun w => by
            rcases s3 with z | z
            · exact far (u := c % 9) (by omega) (by omega) q (show sx (dirOf (μ 12) (J17 96 y)) = -1 ∨ sx (dirOf (μ 12) (J17 96 y)) = 1 by omega) (by have := e1; rw [show i9 + 1 - 1 = i9 by omega] at this; omega)
            · exact far (u := c / 9) (by omega) (by omega) q (show sy (dirOf (μ 12) (J17 96 y)) = -1 ∨ sy (dirOf (μ 12) (J17 96 y)) = 1 by omega) (by have := e2; rw [show i9 + 1 - 1 = i9 by omega] at this; omega))
          refine WP.go 3 (And.intro (And.intro (Nat.le_of_ble_eq_true rfl) (Nat.le_of_ble_eq_true rfl)) (And.intro rfl (?_)))
          show Call d 216 [vi (dirOf (μ 12) ((J17 96) y))] (J17, H) _ _
          refine s_12_dx (by omega)  ?_
          show WP (Call d) 241 P X (37, [some (vr (some 90) 10), some (vi c), some (vi y), some (vi (dirOf (μ 12) ((J17 96) y))), some (vi x9), some (vi z9), none, none], [vi (sx (dirOf (μ 12) ((J17 96) y))), vi x9], (J17, H), 0, 0)
          refine WP.go 5 (Exists.intro (x9 + (sx (dirOf (μ 12) ((J17 96) y)))) (And.intro (wrp_a (by omega) (by omega)) (And.intro (And.intro (Nat.le_of_ble_eq_true rfl) (Nat.le_of_ble_eq_true rfl)) (And.intro rfl (?_)))))
          show Call d 217 [vi (dirOf (μ 12) ((J17 96) y))] (J17, H) _ _
          refine s_12_dy (by omega)  ?_
          show WP (Call d) 241 P X (42, [some (vr (some 90) 10), some (vi c), some (vi y), some (vi (dirOf (μ 12) ((J17 96) y))), some (vi x9), some (vi z9), some (vi (x9 + (sx (dirOf (μ 12) ((J17 96) y))))), none], [vi (sy (dirOf (μ 12) ((J17 96) y))), vi z9], (J17, H), 0, 0)
          refine WP.go 6 (Exists.intro (z9 + (sy (dirOf (μ 12) ((J17 96) y)))) (And.intro (wrp_a (by omega) (by omega)) (And.intro (And.intro (Nat.le_of_ble_eq_true rfl) (Nat.le_of_ble_eq_true rfl)) (And.intro rfl (?_)))))
          show Call d 177 [vi (x9 + (sx (dirOf (μ 12) ((J17 96) y)))), vi 0, vi 8] (J17, H) _ _
          refine s_12_isIn (by omega)  ?_
          show WP (Call d) 241 P X (48, [some (vr (some 90) 10), some (vi c), some (vi y), some (vi (dirOf (μ 12) ((J17 96) y))), some (vi x9), some (vi z9), some (vi (x9 + (sx (dirOf (μ 12) ((J17 96) y))))), some (vi (z9 + (sy (dirOf (μ 12) ((J17 96) y)))))], [vi (bz (0 ≤ (x9 + (sx (dirOf (μ 12) ((J17 96) y)))) ∧ (x9 + (sx (dirOf (μ 12) ((J17 96) y)))) ≤ 8))], (J17, H), 0, 0)
          refine WP.go 1 (And.intro (fun (b48 : bz (0 ≤ (x9 + (sx (dirOf (μ 12) ((J17 96) y)))) ∧ (x9 + (sx (dirOf (μ 12) ((J17 96) y)))) ≤ 8) = 0) => ?_) (fun (b48 : ¬ bz (0 ≤ (x9 + (sx (dirOf (μ 12) ((J17 96) y)))) ∧ (x9 + (sx (dirOf (μ 12) ((J17 96) y)))) ≤ 8) = 0) => ?_))
          ·
            show WP (Call d) 241 P X (63, [some (vr (some 90) 10), some (vi c), some (vi y), some (vi (dirOf (μ 12) ((J17 96) y))), some (vi x9), some (vi z9), some (vi (x9 + (sx (dirOf (μ 12) ((J17 96) y))))), some (vi (z9 + (sy (dirOf (μ 12) ((J17 96) y)))))], [], (J17, H), 0, 0)
            have z48 := bz_e0.mp b48
            refine WP.go 6 (Exists.intro (9 * z9) (And.intro (wrp_a (by omega) (by omega)) (Exists.intro ((9 * z9) + x9) (And.intro (wrp_a (by omega) (by omega)) (And.intro (And.intro (Nat.le_of_ble_eq_true rfl) (Nat.le_of_ble_eq_true rfl)) (And.intro trivial (?_)))))))
            show P (some (vi ((9 * z9) + x9))) (J17, H)
            exact fin_i ((e5 (.inl (e4 (by omega)))).symm) (h (by omega) _ hmf_12 hth_13)
          ·
            show WP (Call d) 241 P X (49, [some (vr (some 90) 10), some (vi c), some (vi y), some (vi (dirOf (μ 12) ((J17 96) y))), some (vi x9), some (vi z9), some (vi (x9 + (sx (dirOf (μ 12) ((J17 96) y))))), some (vi (z9 + (sy (dirOf (μ 12) ((J17 96) y)))))], [], (J17, H), 0, 0)
            have z48 := bz_e1.mp b48
            refine WP.go 4 (And.intro (And.intro (Nat.le_of_ble_eq_true rfl) (Nat.le_of_ble_eq_true rfl)) (And.intro rfl (?_)))
            show Call d 177 [vi (z9 + (sy (dirOf (μ 12) ((J17 96) y)))), vi 0, vi 8] (J17, H) _ _
            refine s_12_isIn (by omega)  ?_
            show WP (Call d) 241 P X (53, [some (vr (some 90) 10), some (vi c), some (vi y), some (vi (dirOf (μ 12) ((J17 96) y))), some (vi x9), some (vi z9), some (vi (x9 + (sx (dirOf (μ 12) ((J17 96) y))))), some (vi (z9 + (sy (dirOf (μ 12) ((J17 96) y)))))], [vi (bz (0 ≤ (z9 + (sy (dirOf (μ 12) ((J17 96) y)))) ∧ (z9 + (sy (dirOf (μ 12) ((J17 96) y)))) ≤ 8))], (J17, H), 0, 0)
            refine WP.go 1 (And.intro (fun (b53 : bz (0 ≤ (z9 + (sy (dirOf (μ 12) ((J17 96) y)))) ∧ (z9 + (sy (dirOf (μ 12) ((J17 96) y)))) ≤ 8) = 0) => ?_) (fun (b53 : ¬ bz (0 ≤ (z9 + (sy (dirOf (μ 12) ((J17 96) y)))) ∧ (z9 + (sy (dirOf (μ 12) ((J17 96) y)))) ≤ 8) = 0) => ?_))
            ·
              show WP (Call d) 241 P X (63, [some (vr (some 90) 10), some (vi c), some (vi y), some (vi (dirOf (μ 12) ((J17 96) y))), some (vi x9), some (vi z9), some (vi (x9 + (sx (dirOf (μ 12) ((J17 96) y))))), some (vi (z9 + (sy (dirOf (μ 12) ((J17 96) y)))))], [], (J17, H), 0, 0)
              have z53 := bz_e0.mp b53
              refine WP.go 6 (Exists.intro (9 * z9) (And.intro (wrp_a (by omega) (by omega)) (Exists.intro ((9 * z9) + x9) (And.intro (wrp_a (by omega) (by omega)) (And.intro (And.intro (Nat.le_of_ble_eq_true rfl) (Nat.le_of_ble_eq_true rfl)) (And.intro trivial (?_)))))))
              show P (some (vi ((9 * z9) + x9))) (J17, H)
              exact fin_i ((e5 (.inl (e4 (by omega)))).symm) (h (by omega) _ hmf_12 hth_13)
            ·
              show WP (Call d) 241 P X (54, [some (vr (some 90) 10), some (vi c), some (vi y), some (vi (dirOf (μ 12) ((J17 96) y))), some (vi x9), some (vi z9), some (vi (x9 + (sx (dirOf (μ 12) ((J17 96) y))))), some (vi (z9 + (sy (dirOf (μ 12) ((J17 96) y)))))], [], (J17, H), 0, 0)
              have z53 := bz_e1.mp b53
              refine WP.go 7 (Exists.intro (9 * (z9 + (sy (dirOf (μ 12) ((J17 96) y))))) (And.intro (wrp_a (by omega) (by omega)) (Exists.intro ((9 * (z9 + (sy (dirOf (μ 12) ((J17 96) y))))) + (x9 + (sx (dirOf (μ 12) ((J17 96) y))))) (And.intro (wrp_a (by omega) (by omega)) (And.intro (And.intro (Nat.le_of_ble_eq_true rfl) (Nat.le_of_ble_eq_true rfl)) (And.intro rfl (?_)))))))
              show Call d 185 [vr (some 90) 10, vi ((9 * (z9 + (sy (dirOf (μ 12) ((J17 96) y))))) + (x9 + (sx (dirOf (μ 12) ((J17 96) y)))))] (J17, H) _ _
              refine s_12_houseOn (by omega) hS hM_6 hV ?_
              show WP (Call d) 241 P X (61, [some (vr (some 90) 10), some (vi c), some (vi y), some (vi (dirOf (μ 12) ((J17 96) y))), some (vi x9), some (vi z9), some (vi (x9 + (sx (dirOf (μ 12) ((J17 96) y))))), some (vi (z9 + (sy (dirOf (μ 12) ((J17 96) y)))))], [vi (hON μ ((9 * (z9 + (sy (dirOf (μ 12) ((J17 96) y))))) + (x9 + (sx (dirOf (μ 12) ((J17 96) y))))) (μ 1))], (J17, H), 0, 0)
              refine WP.go 2 (And.intro (fun (b62 : hON μ ((9 * (z9 + (sy (dirOf (μ 12) ((J17 96) y))))) + (x9 + (sx (dirOf (μ 12) ((J17 96) y))))) (μ 1) = (-1)) => ?_) (fun (b62 : ¬ hON μ ((9 * (z9 + (sy (dirOf (μ 12) ((J17 96) y))))) + (x9 + (sx (dirOf (μ 12) ((J17 96) y))))) (μ 1) = (-1)) => ?_))
              ·
                show WP (Call d) 241 P X (69, [some (vr (some 90) 10), some (vi c), some (vi y), some (vi (dirOf (μ 12) ((J17 96) y))), some (vi x9), some (vi z9), some (vi (x9 + (sx (dirOf (μ 12) ((J17 96) y))))), some (vi (z9 + (sy (dirOf (μ 12) ((J17 96) y)))))], [], (J17, H), 0, 0)
                refine WP.go 5 ?_
                show WP (Call d) 241 P X (34, [some (vr (some 90) 10), some (vi c), some (vi y), some (vi (dirOf (μ 12) ((J17 96) y))), some (vi (x9 + (sx (dirOf (μ 12) ((J17 96) y))))), some (vi (z9 + (sy (dirOf (μ 12) ((J17 96) y))))), some (vi (x9 + (sx (dirOf (μ 12) ((J17 96) y))))), some (vi (z9 + (sy (dirOf (μ 12) ((J17 96) y)))))], [], (J17, H), 0, 0)
                refine WP.wk (L := [some (vr (some 90) 10), some (vi c), some (vi y), some (vi (dirOf (μ 12) ((J17 96) y))), some (vi (x9 + (sx (dirOf (μ 12) ((J17 96) y))))), some (vi (z9 + (sy (dirOf (μ 12) ((J17 96) y))))), none, none]) (And.intro rfl (And.intro rfl (And.intro rfl (And.intro rfl (And.intro rfl (And.intro rfl (And.intro trivial (And.intro trivial (trivial))))))))) ?_
                show WP (Call d) 241 P X (34, [some (vr (some 90) 10), some (vi c), some (vi y), some (vi (dirOf (μ 12) ((J17 96) y))), some (vi (x9 + (sx (dirOf (μ 12) ((J17 96) y))))), some (vi (z9 + (sy (dirOf (μ 12) ((J17 96) y))))), none, none], [], (J17, H), 0, 0)
                exact ih34 (x9 + (sx (dirOf (μ 12) ((J17 96) y)))) (z9 + (sy (dirOf (μ 12) ((J17 96) y)))) (i9 + 1) (by omega) (by have w6 : i9 ≠ 9 := (fun q => by have w7 := e6 q; rw [e3 (by omega)] at w7; omega); omega) ⟨by omega, by omega⟩ (by have w6 : i9 ≠ 9 := (fun q => by have w7 := e6 q; rw [e3 (by omega)] at w7; omega); rw [iv2, plN_s (by omega), if_neg (by rw [e3 (by omega), HT_p hV]; omega), e3 (by omega)])
              ·
                show WP (Call d) 241 P X (63, [some (vr (some 90) 10), some (vi c), some (vi y), some (vi (dirOf (μ 12) ((J17 96) y))), some (vi x9), some (vi z9), some (vi (x9 + (sx (dirOf (μ 12) ((J17 96) y))))), some (vi (z9 + (sy (dirOf (μ 12) ((J17 96) y)))))], [], (J17, H), 0, 0)
                refine WP.go 6 (Exists.intro (9 * z9) (And.intro (wrp_a (by omega) (by omega)) (Exists.intro ((9 * z9) + x9) (And.intro (wrp_a (by omega) (by omega)) (And.intro (And.intro (Nat.le_of_ble_eq_true rfl) (Nat.le_of_ble_eq_true rfl)) (And.intro trivial (?_)))))))
                show P (some (vi ((9 * z9) + x9))) (J17, H)
                exact fin_i ((e5 (.inr (by rw [e3 (by omega), HT_p hV]; omega))).symm) (h (by omega) _ hmf_12 hth_13)
      exact lp34 ((9 - 1 : Int).toNat + 1) (c % 9) (c / 9) 1 (by omega) (by omega) ⟨by omega, by omega⟩ (by unfold POOL; rw [← eA y (by omega) (by omega), show 9 * (c / 9) + c % 9 = c by omega]; rfl)
    ·
      show WP (Call d) 241 P X (7, [some (vr (some 90) 10), some (vi c), some (vi y), none, none, none, none, none], [vr (some 90) 10], (I, H), 0, 0)
      have z6 := bz_e0.mp b6
      refine WP.go 6 (And.intro (And.intro rfl trivial) (And.intro rfl (And.intro (fun (b13 : ¬ 0 < 1) => (absurd b13 (by omega))) (fun (b13 : 0 < 1) => ?_))))
      show WP (Call d) 241 P X (14, [some (vr (some 90) 10), some (vi c), some (vi y), none, none, none, none, none], [], ((upI I 90 0 1), H), 0, 0)
      refine WP.go 2 (And.intro (And.intro (Nat.le_of_ble_eq_true rfl) (Nat.le_of_ble_eq_true rfl)) (And.intro trivial (?_)))
      show P (some (vi 0)) ((upI I 90 0 1), H)
      exact hk1 (by omega) _ 0 (.inl rfl) (MF.th hK _) (upI_same _ _ _ _)

theorem s_12_lost {d : Nat} {P : Option qV → qH → Prop} {X : Nat → qH → Prop} {I : qI} {H : qS} {μ : Int → Int} (hd : 6 ≤ d) {h9 b w x y : Int} (hS : Shp H) (hM : I 91 = μ) (hV : IM μ) (hK : MS I) (hk1 : (¬ ((0 ≤ h9 ∧ h9 < μ 1) ∧ (0 ≤ w ∧ w < μ 2) ∧ (0 ≤ x ∧ x < 100) ∧ (0 ≤ y ∧ y < 100))) → ∀ (J : qI) (v : Int), (v = 0 ∨ v = 1) → MF I J → J 90 0 = 1 → P (some (vi v)) (J, H)) (hk2 : (((0 ≤ h9 ∧ h9 < μ 1) ∧ (0 ≤ w ∧ w < μ 2) ∧ (0 ≤ x ∧ x < 100) ∧ (0 ≤ y ∧ y < 100)) ∧ ¬ ((1 ≤ b ∧ b < 30 ∧ μ (121 + 2 * h9) + b ≤ 30) ∧ x ≤ y)) → ∀ (J : qI) (v : Int), (v = 0 ∨ v = 1) → MF I J → J 90 0 = 2 → P (some (vi v)) (J, H)) (h : (((0 ≤ h9 ∧ h9 < μ 1) ∧ (0 ≤ w ∧ w < μ 2) ∧ (0 ≤ x ∧ x < 100) ∧ (0 ≤ y ∧ y < 100)) ∧ (1 ≤ b ∧ b < 30 ∧ μ (121 + 2 * h9) + b ≤ 30) ∧ x ≤ y) → ∀ J : qI, MF I J → J 90 0 = 0 → P (some (vi (LST μ h9 b w x y))) (J, H)) :
    Call d 250 [vr (some 90) 10, vi h9, vi b, vi w, vi x, vi y] (I, H) P X := by
  obtain ⟨d, rfl⟩ : ∃ e, d = e + 1 := ⟨d - 1, by omega⟩
  obtain ⟨tb, h30⟩ : ∃ tb, I 90 30 = tb := ⟨_, rfl⟩
  obtain ⟨mo, h23⟩ : ∃ mo, I 90 23 = mo := ⟨_, rfl⟩
  have htb : 0 ≤ tb ∧ tb ≤ 29 := by have := hK.2.2.2; omega
  have hmo : (-1 : Int) = -1 ∨ (0 ≤ mo ∧ mo ≤ 48) := .inl rfl
  have h22 := hK.1
  have h29 := hK.2.1
  show WP (Call d) 250 P X (0, [some (vr (some 90) 10), some (vi h9), some (vi b), some (vi w), some (vi x), some (vi y)], [], (I, H), 0, 0)
  refine WP.go 4 (And.intro (And.intro (Nat.le_of_ble_eq_true rfl) (Nat.le_of_ble_eq_true rfl)) (And.intro rfl (?_)))
  show Call d 180 [vr (some 90) 10, vi h9] (I, H) _ _
  refine s_12_isHouse (by omega) hS hM hV ?_
  show WP (Call d) 250 P X (4, [some (vr (some 90) 10), some (vi h9), some (vi b), some (vi w), some (vi x), some (vi y)], [vi (bz (0 ≤ h9 ∧ h9 ≤ μ 1 - 1)), vr (some 90) 10], (I, H), 0, 0)
  refine WP.go 1 (And.intro (fun (b4 : bz (0 ≤ h9 ∧ h9 ≤ μ 1 - 1) = 0) => ?_) (fun (b4 : ¬ bz (0 ≤ h9 ∧ h9 ≤ μ 1 - 1) = 0) => ?_))
  ·
    show WP (Call d) 250 P X (15, [some (vr (some 90) 10), some (vi h9), some (vi b), some (vi w), some (vi x), some (vi y)], [vr (some 90) 10], (I, H), 0, 0)
    have z4 := bz_e0.mp b4
    refine WP.go 6 (And.intro (And.intro rfl trivial) (And.intro rfl (And.intro (fun (b31 : ¬ 0 < 1) => (absurd b31 (by omega))) (fun (b31 : 0 < 1) => ?_))))
    show WP (Call d) 250 P X (32, [some (vr (some 90) 10), some (vi h9), some (vi b), some (vi w), some (vi x), some (vi y)], [], ((upI I 90 0 1), H), 0, 0)
    refine WP.go 2 (And.intro (And.intro (Nat.le_of_ble_eq_true rfl) (Nat.le_of_ble_eq_true rfl)) (And.intro trivial (?_)))
    show P (some (vi 0)) ((upI I 90 0 1), H)
    exact hk1 (by omega) _ 0 (.inl rfl) (MF.th hK _) (upI_same _ _ _ _)
  ·
    show WP (Call d) 250 P X (5, [some (vr (some 90) 10), some (vi h9), some (vi b), some (vi w), some (vi x), some (vi y)], [vr (some 90) 10], (I, H), 0, 0)
    have z4 := bz_e1.mp b4
    refine WP.go 3 (And.intro (And.intro (Nat.le_of_ble_eq_true rfl) (Nat.le_of_ble_eq_true rfl)) (And.intro rfl (?_)))
    show Call d 181 [vr (some 90) 10, vi w] (I, H) _ _
    refine s_12_isWindow (by omega) hS hM hV ?_
    show WP (Call d) 250 P X (8, [some (vr (some 90) 10), some (vi h9), some (vi b), some (vi w), some (vi x), some (vi y)], [vi (bz (0 ≤ w ∧ w ≤ μ 2 - 1)), vr (some 90) 10], (I, H), 0, 0)
    refine WP.go 1 (And.intro (fun (b8 : bz (0 ≤ w ∧ w ≤ μ 2 - 1) = 0) => ?_) (fun (b8 : ¬ bz (0 ≤ w ∧ w ≤ μ 2 - 1) = 0) => ?_))
    ·
      show WP (Call d) 250 P X (15, [some (vr (some 90) 10), some (vi h9), some (vi b), some (vi w), some (vi x), some (vi y)], [vr (some 90) 10], (I, H), 0, 0)
      have z8 := bz_e0.mp b8
      refine WP.go 6 (And.intro (And.intro rfl trivial) (And.intro rfl (And.intro (fun (b31 : ¬ 0 < 1) => (absurd b31 (by omega))) (fun (b31 : 0 < 1) => ?_))))
      show WP (Call d) 250 P X (32, [some (vr (some 90) 10), some (vi h9), some (vi b), some (vi w), some (vi x), some (vi y)], [], ((upI I 90 0 1), H), 0, 0)
      refine WP.go 2 (And.intro (And.intro (Nat.le_of_ble_eq_true rfl) (Nat.le_of_ble_eq_true rfl)) (And.intro trivial (?_)))
      show P (some (vi 0)) ((upI I 90 0 1), H)
      exact hk1 (by omega) _ 0 (.inl rfl) (MF.th hK _) (upI_same _ _ _ _)
    ·
      show WP (Call d) 250 P X (9, [some (vr (some 90) 10), some (vi h9), some (vi b), some (vi w), some (vi x), some (vi y)], [vr (some 90) 10], (I, H), 0, 0)
      have z8 := bz_e1.mp b8
      refine WP.go 2 (And.intro (And.intro (Nat.le_of_ble_eq_true rfl) (Nat.le_of_ble_eq_true rfl)) (And.intro rfl (?_)))
      show Call d 179 [vi x] (I, H) _ _
      refine s_12_isYear (by omega)  ?_
      show WP (Call d) 250 P X (11, [some (vr (some 90) 10), some (vi h9), some (vi b), some (vi w), some (vi x), some (vi y)], [vi (bz (0 ≤ x ∧ x ≤ 99)), vr (some 90) 10], (I, H), 0, 0)
      refine WP.go 1 (And.intro (fun (b11 : bz (0 ≤ x ∧ x ≤ 99) = 0) => ?_) (fun (b11 : ¬ bz (0 ≤ x ∧ x ≤ 99) = 0) => ?_))
      ·
        show WP (Call d) 250 P X (15, [some (vr (some 90) 10), some (vi h9), some (vi b), some (vi w), some (vi x), some (vi y)], [vr (some 90) 10], (I, H), 0, 0)
        have z11 := bz_e0.mp b11
        refine WP.go 6 (And.intro (And.intro rfl trivial) (And.intro rfl (And.intro (fun (b31 : ¬ 0 < 1) => (absurd b31 (by omega))) (fun (b31 : 0 < 1) => ?_))))
        show WP (Call d) 250 P X (32, [some (vr (some 90) 10), some (vi h9), some (vi b), some (vi w), some (vi x), some (vi y)], [], ((upI I 90 0 1), H), 0, 0)
        refine WP.go 2 (And.intro (And.intro (Nat.le_of_ble_eq_true rfl) (Nat.le_of_ble_eq_true rfl)) (And.intro trivial (?_)))
        show P (some (vi 0)) ((upI I 90 0 1), H)
        exact hk1 (by omega) _ 0 (.inl rfl) (MF.th hK _) (upI_same _ _ _ _)
      ·
        show WP (Call d) 250 P X (12, [some (vr (some 90) 10), some (vi h9), some (vi b), some (vi w), some (vi x), some (vi y)], [vr (some 90) 10], (I, H), 0, 0)
        have z11 := bz_e1.mp b11
        refine WP.go 2 (And.intro (And.intro (Nat.le_of_ble_eq_true rfl) (Nat.le_of_ble_eq_true rfl)) (And.intro rfl (?_)))
        show Call d 179 [vi y] (I, H) _ _
        refine s_12_isYear (by omega)  ?_
        show WP (Call d) 250 P X (14, [some (vr (some 90) 10), some (vi h9), some (vi b), some (vi w), some (vi x), some (vi y)], [vi (bz (0 ≤ y ∧ y ≤ 99)), vr (some 90) 10], (I, H), 0, 0)
        refine WP.go 1 (And.intro (fun (b14 : ¬ bz (0 ≤ y ∧ y ≤ 99) = 0) => ?_) (fun (b14 : bz (0 ≤ y ∧ y ≤ 99) = 0) => ?_))
        ·
          show WP (Call d) 250 P X (17, [some (vr (some 90) 10), some (vi h9), some (vi b), some (vi w), some (vi x), some (vi y)], [vr (some 90) 10], (I, H), 0, 0)
          have z14 := bz_e1.mp b14
          refine WP.go 4 (And.intro (And.intro (Nat.le_of_ble_eq_true rfl) (Nat.le_of_ble_eq_true rfl)) (And.intro rfl (?_)))
          show Call d 246 [vr (some 90) 10, vi h9, vi b] (I, H) _ _
          refine s_12_isMore (by omega) hS hM hV (by omega) ?_
          show WP (Call d) 250 P X (21, [some (vr (some 90) 10), some (vi h9), some (vi b), some (vi w), some (vi x), some (vi y)], [vi (bz ((1 ≤ b ∧ b ≤ 29) ∧ μ (121 + 2 * h9) + b ≤ 30)), vr (some 90) 10], (I, H), 0, 0)
          refine WP.go 1 (And.intro (fun (b21 : bz ((1 ≤ b ∧ b ≤ 29) ∧ μ (121 + 2 * h9) + b ≤ 30) = 0) => ?_) (fun (b21 : ¬ bz ((1 ≤ b ∧ b ≤ 29) ∧ μ (121 + 2 * h9) + b ≤ 30) = 0) => ?_))
          ·
            show WP (Call d) 250 P X (25, [some (vr (some 90) 10), some (vi h9), some (vi b), some (vi w), some (vi x), some (vi y)], [vr (some 90) 10], (I, H), 0, 0)
            have z21 := bz_e0.mp b21
            refine WP.go 6 (And.intro (And.intro rfl trivial) (And.intro rfl (And.intro (fun (b31 : ¬ 0 < 2) => (absurd b31 (by omega))) (fun (b31 : 0 < 2) => ?_))))
            show WP (Call d) 250 P X (32, [some (vr (some 90) 10), some (vi h9), some (vi b), some (vi w), some (vi x), some (vi y)], [], ((upI I 90 0 2), H), 0, 0)
            refine WP.go 2 (And.intro (And.intro (Nat.le_of_ble_eq_true rfl) (Nat.le_of_ble_eq_true rfl)) (And.intro trivial (?_)))
            show P (some (vi 0)) ((upI I 90 0 2), H)
            exact hk2 (by omega) _ 0 (.inl rfl) (MF.th hK _) (upI_same _ _ _ _)
          ·
            show WP (Call d) 250 P X (22, [some (vr (some 90) 10), some (vi h9), some (vi b), some (vi w), some (vi x), some (vi y)], [vr (some 90) 10], (I, H), 0, 0)
            have z21 := bz_e1.mp b21
            refine WP.go 3 (And.intro (fun (b24 : ¬ y < x) => ?_) (fun (b24 : y < x) => ?_))
            ·
              show WP (Call d) 250 P X (27, [some (vr (some 90) 10), some (vi h9), some (vi b), some (vi w), some (vi x), some (vi y)], [vr (some 90) 10], (I, H), 0, 0)
              refine WP.go 5 (And.intro (And.intro rfl trivial) (And.intro rfl (And.intro (fun (b31 : ¬ 0 < 0) => ?_) (fun (b31 : 0 < 0) => (absurd b31 (by omega))))))
              show WP (Call d) 250 P X (34, [some (vr (some 90) 10), some (vi h9), some (vi b), some (vi w), some (vi x), some (vi y)], [], ((upI I 90 0 0), H), 0, 0)
              generalize hq_J0 : (upI I 90 0 0) = J0
              have e_J0 : J0 90 = (fun j => if j = 0 then 0 else I 90 j) := by rw [← hq_J0]; exact upI_self _ _ _ _
              have f_J0 : ∀ a, a ≠ 90 → J0 a = I a := fun a q => by rw [← hq_J0]; exact upI_cell q
              have hmf : MF I J0 := MF.t0 hK e_J0 f_J0
              have hth : J0 90 0 = 0 := by rw [e_J0]; rfl
              have hM_1 : J0 91 = μ := (f_J0 91 (by omega)).trans hM
              have h_2 : J0 90 22 = -1 := by rw [e_J0]; exact h22
              have h_3 : J0 90 23 = mo := by rw [e_J0]; exact h23
              have h_4 : J0 90 29 = -1 := by rw [e_J0]; exact h29
              have h_5 : J0 90 30 = tb := by rw [e_J0]; exact h30
              refine WP.go 2 (And.intro (And.intro (Nat.le_of_ble_eq_true rfl) (Nat.le_of_ble_eq_true rfl)) (And.intro rfl (?_)))
              show Call d 210 [vr (some 90) 10] (J0, H) _ _
              refine s_12_turn (by omega) hS hM_1 hV h_2 h_3 hmo (fun J35 e35 f35 => ?_)
              show WP (Call d) 250 P X (36, [some (vr (some 90) 10), some (vi h9), some (vi b), some (vi w), some (vi x), some (vi y)], [], (J35, H), 0, 0)
              have hM_6 : J35 91 = μ := (f35 91 (by omega)).trans hM_1
              have h_7 : J35 90 22 = -1 := (congrFun (f35 90 (by omega)) 22).trans h_2
              have h_8 : J35 90 23 = mo := (congrFun (f35 90 (by omega)) 23).trans h_3
              have h_9 : J35 90 29 = -1 := (congrFun (f35 90 (by omega)) 29).trans h_4
              have h_10 : J35 90 30 = tb := (congrFun (f35 90 (by omega)) 30).trans h_5
              have hA_11 : ∀ y, 0 ≤ y → y < 100 → 0 ≤ J35 96 y ∧ J35 96 y < 96 := fun y q1 q2 => by rw [e35 y q1 q2]; exact ANG_bd hV _ _ _
              have eA : ∀ y, 0 ≤ y → y < 100 → J35 96 y = AN μ y := fun y q1 q2 => (e35 y q1 q2).trans (ANG_irr (by omega) _ _ _)
              have hmf_12 : MF I J35 := hmf.tu f35
              have hth_13 : J35 90 0 = 0 := (congrFun (f35 90 (by omega)) 0).trans hth
              refine WP.go 7 (And.intro (And.intro (Nat.le_of_ble_eq_true rfl) (Nat.le_of_ble_eq_true rfl)) (And.intro rfl (?_)))
              show Call d 249 [vr (some 90) 10, vi h9, vi b, vi w, vi x, vi y] (J35, H) _ _
              refine s_12_losesBy (by omega) hS hM_6 hV hA_11 h_9 h_10 htb (by omega) (by omega) (by omega) (by omega) (fun J42 e42 f42 g42 k42 => ?_)
              show WP (Call d) 250 P X (43, [some (vr (some 90) 10), some (vi h9), some (vi b), some (vi w), some (vi x), some (vi y)], [vi (LGW μ (J35 96) (HTC μ (-1) 0) w x y - LGW μ (J35 96) (HTC μ h9 b) w x y)], (J42, H), 0, 0)
              have hmf_14 : MF I J42 := hmf_12.lb (by omega) e42 f42 g42 k42
              have hth_15 : J42 90 0 = 0 := (e42 0 (by omega) (by omega)).trans hth_13
              refine WP.go 1 (And.intro (And.intro (Nat.le_of_ble_eq_true rfl) (Nat.le_of_ble_eq_true rfl)) (And.intro trivial (?_)))
              show P (some (vi (LGW μ (J35 96) (HTC μ (-1) 0) w x y - LGW μ (J35 96) (HTC μ h9 b) w x y))) (J42, H)
              exact fin_i (LST_e eA (by omega) (by omega)) (h (by omega) _ hmf_14 hth_15)
            ·
              show WP (Call d) 250 P X (25, [some (vr (some 90) 10), some (vi h9), some (vi b), some (vi w), some (vi x), some (vi y)], [vr (some 90) 10], (I, H), 0, 0)
              refine WP.go 6 (And.intro (And.intro rfl trivial) (And.intro rfl (And.intro (fun (b31 : ¬ 0 < 2) => (absurd b31 (by omega))) (fun (b31 : 0 < 2) => ?_))))
              show WP (Call d) 250 P X (32, [some (vr (some 90) 10), some (vi h9), some (vi b), some (vi w), some (vi x), some (vi y)], [], ((upI I 90 0 2), H), 0, 0)
              refine WP.go 2 (And.intro (And.intro (Nat.le_of_ble_eq_true rfl) (Nat.le_of_ble_eq_true rfl)) (And.intro trivial (?_)))
              show P (some (vi 0)) ((upI I 90 0 2), H)
              exact hk2 (by omega) _ 0 (.inl rfl) (MF.th hK _) (upI_same _ _ _ _)
        ·
          show WP (Call d) 250 P X (15, [some (vr (some 90) 10), some (vi h9), some (vi b), some (vi w), some (vi x), some (vi y)], [vr (some 90) 10], (I, H), 0, 0)
          have z14 := bz_e0.mp b14
          refine WP.go 6 (And.intro (And.intro rfl trivial) (And.intro rfl (And.intro (fun (b31 : ¬ 0 < 1) => (absurd b31 (by omega))) (fun (b31 : 0 < 1) => ?_))))
          show WP (Call d) 250 P X (32, [some (vr (some 90) 10), some (vi h9), some (vi b), some (vi w), some (vi x), some (vi y)], [], ((upI I 90 0 1), H), 0, 0)
          refine WP.go 2 (And.intro (And.intro (Nat.le_of_ble_eq_true rfl) (Nat.le_of_ble_eq_true rfl)) (And.intro trivial (?_)))
          show P (some (vi 0)) ((upI I 90 0 1), H)
          exact hk1 (by omega) _ 0 (.inl rfl) (MF.th hK _) (upI_same _ _ _ _)

theorem s_12_takes {d : Nat} {P : Option qV → qH → Prop} {X : Nat → qH → Prop} {I : qI} {H : qS} {μ : Int → Int} (hd : 6 ≤ d) {h9 b x y : Int} (hS : Shp H) (hM : I 91 = μ) (hV : IM μ) (hK : MS I) (hk1 : (¬ ((0 ≤ h9 ∧ h9 < μ 1) ∧ (0 ≤ x ∧ x < 100) ∧ (0 ≤ y ∧ y < 100))) → ∀ (J : qI) (v : Int), (v = 0 ∨ v = 1) → MF I J → J 90 0 = 1 → P (some (vi v)) (J, H)) (hk2 : (((0 ≤ h9 ∧ h9 < μ 1) ∧ (0 ≤ x ∧ x < 100) ∧ (0 ≤ y ∧ y < 100)) ∧ ¬ ((1 ≤ b ∧ b < 30 ∧ μ (121 + 2 * h9) + b ≤ 30) ∧ x ≤ y)) → ∀ (J : qI) (v : Int), (v = 0 ∨ v = 1) → MF I J → J 90 0 = 2 → P (some (vi v)) (J, H)) (h : (((0 ≤ h9 ∧ h9 < μ 1) ∧ (0 ≤ x ∧ x < 100) ∧ (0 ≤ y ∧ y < 100)) ∧ (1 ≤ b ∧ b < 30 ∧ μ (121 + 2 * h9) + b ≤ 30) ∧ x ≤ y) → ∀ J : qI, MF I J → J 90 0 = 0 → P (some (vi (hB (fun w => 0 < LST μ h9 b w x y) (μ 2)))) (J, H)) :
    Call d 251 [vr (some 90) 10, vi h9, vi b, vi x, vi y] (I, H) P X := by
  obtain ⟨d, rfl⟩ : ∃ e, d = e + 1 := ⟨d - 1, by omega⟩
  have hl91 := hS.l91
  obtain ⟨tb, h30⟩ : ∃ tb, I 90 30 = tb := ⟨_, rfl⟩
  obtain ⟨mo, h23⟩ : ∃ mo, I 90 23 = mo := ⟨_, rfl⟩
  have htb : 0 ≤ tb ∧ tb ≤ 29 := by have := hK.2.2.2; omega
  have hmo : (-1 : Int) = -1 ∨ (0 ≤ mo ∧ mo ≤ 48) := .inl rfl
  have h22 := hK.1
  have h29 := hK.2.1
  have v1 := hV.n2
  show WP (Call d) 251 P X (0, [some (vr (some 90) 10), some (vi h9), some (vi b), some (vi x), some (vi y), none, none], [], (I, H), 0, 0)
  refine WP.go 4 (And.intro (And.intro (Nat.le_of_ble_eq_true rfl) (Nat.le_of_ble_eq_true rfl)) (And.intro rfl (?_)))
  show Call d 180 [vr (some 90) 10, vi h9] (I, H) _ _
  refine s_12_isHouse (by omega) hS hM hV ?_
  show WP (Call d) 251 P X (4, [some (vr (some 90) 10), some (vi h9), some (vi b), some (vi x), some (vi y), none, none], [vi (bz (0 ≤ h9 ∧ h9 ≤ μ 1 - 1)), vr (some 90) 10], (I, H), 0, 0)
  refine WP.go 1 (And.intro (fun (b4 : bz (0 ≤ h9 ∧ h9 ≤ μ 1 - 1) = 0) => ?_) (fun (b4 : ¬ bz (0 ≤ h9 ∧ h9 ≤ μ 1 - 1) = 0) => ?_))
  ·
    show WP (Call d) 251 P X (11, [some (vr (some 90) 10), some (vi h9), some (vi b), some (vi x), some (vi y), none, none], [vr (some 90) 10], (I, H), 0, 0)
    have z4 := bz_e0.mp b4
    refine WP.go 6 (And.intro (And.intro rfl trivial) (And.intro rfl (And.intro (fun (b27 : ¬ 0 < 1) => (absurd b27 (by omega))) (fun (b27 : 0 < 1) => ?_))))
    show WP (Call d) 251 P X (28, [some (vr (some 90) 10), some (vi h9), some (vi b), some (vi x), some (vi y), none, none], [], ((upI I 90 0 1), H), 0, 0)
    refine WP.go 2 (And.intro (And.intro (Nat.le_of_ble_eq_true rfl) (Nat.le_of_ble_eq_true rfl)) (And.intro trivial (?_)))
    show P (some (vi 0)) ((upI I 90 0 1), H)
    exact hk1 (by omega) _ 0 (.inl rfl) (MF.th hK _) (upI_same _ _ _ _)
  ·
    show WP (Call d) 251 P X (5, [some (vr (some 90) 10), some (vi h9), some (vi b), some (vi x), some (vi y), none, none], [vr (some 90) 10], (I, H), 0, 0)
    have z4 := bz_e1.mp b4
    refine WP.go 2 (And.intro (And.intro (Nat.le_of_ble_eq_true rfl) (Nat.le_of_ble_eq_true rfl)) (And.intro rfl (?_)))
    show Call d 179 [vi x] (I, H) _ _
    refine s_12_isYear (by omega)  ?_
    show WP (Call d) 251 P X (7, [some (vr (some 90) 10), some (vi h9), some (vi b), some (vi x), some (vi y), none, none], [vi (bz (0 ≤ x ∧ x ≤ 99)), vr (some 90) 10], (I, H), 0, 0)
    refine WP.go 1 (And.intro (fun (b7 : bz (0 ≤ x ∧ x ≤ 99) = 0) => ?_) (fun (b7 : ¬ bz (0 ≤ x ∧ x ≤ 99) = 0) => ?_))
    ·
      show WP (Call d) 251 P X (11, [some (vr (some 90) 10), some (vi h9), some (vi b), some (vi x), some (vi y), none, none], [vr (some 90) 10], (I, H), 0, 0)
      have z7 := bz_e0.mp b7
      refine WP.go 6 (And.intro (And.intro rfl trivial) (And.intro rfl (And.intro (fun (b27 : ¬ 0 < 1) => (absurd b27 (by omega))) (fun (b27 : 0 < 1) => ?_))))
      show WP (Call d) 251 P X (28, [some (vr (some 90) 10), some (vi h9), some (vi b), some (vi x), some (vi y), none, none], [], ((upI I 90 0 1), H), 0, 0)
      refine WP.go 2 (And.intro (And.intro (Nat.le_of_ble_eq_true rfl) (Nat.le_of_ble_eq_true rfl)) (And.intro trivial (?_)))
      show P (some (vi 0)) ((upI I 90 0 1), H)
      exact hk1 (by omega) _ 0 (.inl rfl) (MF.th hK _) (upI_same _ _ _ _)
    ·
      show WP (Call d) 251 P X (8, [some (vr (some 90) 10), some (vi h9), some (vi b), some (vi x), some (vi y), none, none], [vr (some 90) 10], (I, H), 0, 0)
      have z7 := bz_e1.mp b7
      refine WP.go 2 (And.intro (And.intro (Nat.le_of_ble_eq_true rfl) (Nat.le_of_ble_eq_true rfl)) (And.intro rfl (?_)))
      show Call d 179 [vi y] (I, H) _ _
      refine s_12_isYear (by omega)  ?_
      show WP (Call d) 251 P X (10, [some (vr (some 90) 10), some (vi h9), some (vi b), some (vi x), some (vi y), none, none], [vi (bz (0 ≤ y ∧ y ≤ 99)), vr (some 90) 10], (I, H), 0, 0)
      refine WP.go 1 (And.intro (fun (b10 : ¬ bz (0 ≤ y ∧ y ≤ 99) = 0) => ?_) (fun (b10 : bz (0 ≤ y ∧ y ≤ 99) = 0) => ?_))
      ·
        show WP (Call d) 251 P X (13, [some (vr (some 90) 10), some (vi h9), some (vi b), some (vi x), some (vi y), none, none], [vr (some 90) 10], (I, H), 0, 0)
        have z10 := bz_e1.mp b10
        refine WP.go 4 (And.intro (And.intro (Nat.le_of_ble_eq_true rfl) (Nat.le_of_ble_eq_true rfl)) (And.intro rfl (?_)))
        show Call d 246 [vr (some 90) 10, vi h9, vi b] (I, H) _ _
        refine s_12_isMore (by omega) hS hM hV (by omega) ?_
        show WP (Call d) 251 P X (17, [some (vr (some 90) 10), some (vi h9), some (vi b), some (vi x), some (vi y), none, none], [vi (bz ((1 ≤ b ∧ b ≤ 29) ∧ μ (121 + 2 * h9) + b ≤ 30)), vr (some 90) 10], (I, H), 0, 0)
        refine WP.go 1 (And.intro (fun (b17 : bz ((1 ≤ b ∧ b ≤ 29) ∧ μ (121 + 2 * h9) + b ≤ 30) = 0) => ?_) (fun (b17 : ¬ bz ((1 ≤ b ∧ b ≤ 29) ∧ μ (121 + 2 * h9) + b ≤ 30) = 0) => ?_))
        ·
          show WP (Call d) 251 P X (21, [some (vr (some 90) 10), some (vi h9), some (vi b), some (vi x), some (vi y), none, none], [vr (some 90) 10], (I, H), 0, 0)
          have z17 := bz_e0.mp b17
          refine WP.go 6 (And.intro (And.intro rfl trivial) (And.intro rfl (And.intro (fun (b27 : ¬ 0 < 2) => (absurd b27 (by omega))) (fun (b27 : 0 < 2) => ?_))))
          show WP (Call d) 251 P X (28, [some (vr (some 90) 10), some (vi h9), some (vi b), some (vi x), some (vi y), none, none], [], ((upI I 90 0 2), H), 0, 0)
          refine WP.go 2 (And.intro (And.intro (Nat.le_of_ble_eq_true rfl) (Nat.le_of_ble_eq_true rfl)) (And.intro trivial (?_)))
          show P (some (vi 0)) ((upI I 90 0 2), H)
          exact hk2 (by omega) _ 0 (.inl rfl) (MF.th hK _) (upI_same _ _ _ _)
        ·
          show WP (Call d) 251 P X (18, [some (vr (some 90) 10), some (vi h9), some (vi b), some (vi x), some (vi y), none, none], [vr (some 90) 10], (I, H), 0, 0)
          have z17 := bz_e1.mp b17
          refine WP.go 3 (And.intro (fun (b20 : ¬ y < x) => ?_) (fun (b20 : y < x) => ?_))
          ·
            show WP (Call d) 251 P X (23, [some (vr (some 90) 10), some (vi h9), some (vi b), some (vi x), some (vi y), none, none], [vr (some 90) 10], (I, H), 0, 0)
            refine WP.go 5 (And.intro (And.intro rfl trivial) (And.intro rfl (And.intro (fun (b27 : ¬ 0 < 0) => ?_) (fun (b27 : 0 < 0) => (absurd b27 (by omega))))))
            show WP (Call d) 251 P X (30, [some (vr (some 90) 10), some (vi h9), some (vi b), some (vi x), some (vi y), none, none], [], ((upI I 90 0 0), H), 0, 0)
            generalize hq_J0 : (upI I 90 0 0) = J0
            have e_J0 : J0 90 = (fun j => if j = 0 then 0 else I 90 j) := by rw [← hq_J0]; exact upI_self _ _ _ _
            have f_J0 : ∀ a, a ≠ 90 → J0 a = I a := fun a q => by rw [← hq_J0]; exact upI_cell q
            have hmf : MF I J0 := MF.t0 hK e_J0 f_J0
            have hth : J0 90 0 = 0 := by rw [e_J0]; rfl
            have hM_1 : J0 91 = μ := (f_J0 91 (by omega)).trans hM
            have h_2 : J0 90 22 = -1 := by rw [e_J0]; exact h22
            have h_3 : J0 90 23 = mo := by rw [e_J0]; exact h23
            have h_4 : J0 90 29 = -1 := by rw [e_J0]; exact h29
            have h_5 : J0 90 30 = tb := by rw [e_J0]; exact h30
            refine WP.go 2 (And.intro (And.intro (Nat.le_of_ble_eq_true rfl) (Nat.le_of_ble_eq_true rfl)) (And.intro rfl (?_)))
            show Call d 210 [vr (some 90) 10] (J0, H) _ _
            refine s_12_turn (by omega) hS hM_1 hV h_2 h_3 hmo (fun J31 e31 f31 => ?_)
            show WP (Call d) 251 P X (32, [some (vr (some 90) 10), some (vi h9), some (vi b), some (vi x), some (vi y), none, none], [], (J31, H), 0, 0)
            have hM_6 : J31 91 = μ := (f31 91 (by omega)).trans hM_1
            have h_7 : J31 90 22 = -1 := (congrFun (f31 90 (by omega)) 22).trans h_2
            have h_8 : J31 90 23 = mo := (congrFun (f31 90 (by omega)) 23).trans h_3
            have h_9 : J31 90 29 = -1 := (congrFun (f31 90 (by omega)) 29).trans h_4
            have h_10 : J31 90 30 = tb := (congrFun (f31 90 (by omega)) 30).trans h_5
            have hA_11 : ∀ y, 0 ≤ y → y < 100 → 0 ≤ J31 96 y ∧ J31 96 y < 96 := fun y q1 q2 => by rw [e31 y q1 q2]; exact ANG_bd hV _ _ _
            have eA : ∀ y, 0 ≤ y → y < 100 → J31 96 y = AN μ y := fun y q1 q2 => (e31 y q1 q2).trans (ANG_irr (by omega) _ _ _)
            have hmf_12 : MF I J31 := hmf.tu f31
            have hth_13 : J31 90 0 = 0 := (congrFun (f31 90 (by omega)) 0).trans hth
            have AHA := hA_11
            refine WP.go 4 ?_
            show WP (Call d) 251 P X (36, [some (vr (some 90) 10), some (vi h9), some (vi b), some (vi x), some (vi y), some (vi 0), some (vi 0)], [], (J31, H), 0, 0)
            have lp36 : ∀ (n9 : Nat) (K : qI) (s9 : Int) (k : Int) (hm : μ 2 - k < (n9 : Int)) (iv0 : 0 ≤ k ∧ k ≤ μ 2) (iv1 : s9 = hB (fun w => 0 < LST μ h9 b w x y) k) (kv0 : MF I K) (kv1 : K 96 = J31 96) (kv2 : K 90 0 = 0), WP (Call d) 251 P X (36, [some (vr (some 90) 10), some (vi h9), some (vi b), some (vi x), some (vi y), some (vi s9), some (vi k)], [], (K, H), 0, 0) := by
              intro n9
              induction n9 with
              | zero => intro K s9 k hm iv0 iv1 kv0 kv1 kv2; exact absurd hm (by omega)
              | succ n9 ih36 =>
                intro K s9 k hm iv0 iv1 kv0 kv1 kv2
                have hMk : K 91 = μ := (kv0.1 91 (by omega)).trans hM
                obtain ⟨tb2, h30k⟩ : ∃ t, K 90 30 = t := ⟨_, rfl⟩
                have htb2 : 0 ≤ tb2 ∧ tb2 ≤ 29 := by have := kv0.2.2.2.2.2; omega
                have h29k := kv0.2.2.2.1
                have hAk : ∀ y, 0 ≤ y → y < 100 → 0 ≤ K 96 y ∧ K 96 y < 96 := fun y q1 q2 => by rw [kv1]; exact AHA y q1 q2
                have eK : ∀ y, 0 ≤ y → y < 100 → K 96 y = AN μ y := fun y q1 q2 => by rw [kv1]; exact eA y q1 q2
                refine WP.go 5 (And.intro rfl (Exists.intro 91 (And.intro hS.r90_1 (And.intro (And.intro rfl (And.intro (show 0 ≤ 2 from by omega) (show 2 < H.2.1 91 from by omega))) (?_)))))
                refine rw_i (Q := fun x9 => WP (Call d) 251 P X (41, [some (vr (some 90) 10), some (vi h9), some (vi b), some (vi x), some (vi y), some (vi s9), some (vi k)], [vi x9, vi k], (K, H), 0, 0)) (congrFun hMk _) ?_
                show WP (Call d) 251 P X (41, [some (vr (some 90) 10), some (vi h9), some (vi b), some (vi x), some (vi y), some (vi s9), some (vi k)], [vi (μ 2), vi k], (K, H), 0, 0)
                refine WP.go 1 (And.intro (fun (b41 : ¬ k < μ 2) => ?_) (fun (b41 : k < μ 2) => ?_))
                ·
                  show WP (Call d) 251 P X (58, [some (vr (some 90) 10), some (vi h9), some (vi b), some (vi x), some (vi y), some (vi s9), some (vi k)], [], (K, H), 0, 0)
                  refine WP.go 2 (And.intro (And.intro (Nat.le_of_ble_eq_true rfl) (Nat.le_of_ble_eq_true rfl)) (And.intro trivial (?_)))
                  show P (some (vi s9)) (K, H)
                  exact fin_i (by rw [iv1, show k = μ 2 by omega]) (h (by omega) _ kv0 kv2)
                ·
                  show WP (Call d) 251 P X (42, [some (vr (some 90) 10), some (vi h9), some (vi b), some (vi x), some (vi y), some (vi s9), some (vi k)], [], (K, H), 0, 0)
                  refine WP.go 7 (And.intro (And.intro (Nat.le_of_ble_eq_true rfl) (Nat.le_of_ble_eq_true rfl)) (And.intro rfl (?_)))
                  show Call d 249 [vr (some 90) 10, vi h9, vi b, vi k, vi x, vi y] (K, H) _ _
                  refine s_12_losesBy (by omega) hS hMk hV hAk h29k h30k htb2 (by omega) (by omega) (by omega) (by omega) (fun J48 e48 f48 g48 k48 => ?_)
                  show WP (Call d) 251 P X (49, [some (vr (some 90) 10), some (vi h9), some (vi b), some (vi x), some (vi y), some (vi s9), some (vi k)], [vi (LGW μ (K 96) (HTC μ (-1) 0) k x y - LGW μ (K 96) (HTC μ h9 b) k x y)], (J48, H), 0, 0)
                  refine WP.go 1 (And.intro (fun (b49 : ¬ 0 < LGW μ (K 96) (HTC μ (-1) 0) k x y - LGW μ (K 96) (HTC μ h9 b) k x y) => ?_) (fun (b49 : 0 < LGW μ (K 96) (HTC μ (-1) 0) k x y - LGW μ (K 96) (HTC μ h9 b) k x y) => ?_))
                  ·
                    show WP (Call d) 251 P X (56, [some (vr (some 90) 10), some (vi h9), some (vi b), some (vi x), some (vi y), some (vi s9), some (vi k)], [], (J48, H), 0, 0)
                    refine WP.go 2 (Exists.intro (k + 1) (And.intro (wrp_a (by omega) (by omega)) (?_)))
                    show WP (Call d) 251 P X (36, [some (vr (some 90) 10), some (vi h9), some (vi b), some (vi x), some (vi y), some (vi s9), some (vi (k + 1))], [], (J48, H), 0, 0)
                    exact ih36 J48 s9 (k + 1) (by omega) (by omega) (by rw [iv1, hB_n (p := fun w => 0 < LST μ h9 b w x y) (by omega) (by rw [← LST_e eK (by omega) (by omega)]; omega)]) (kv0.lb (by omega) e48 f48 g48 k48) ((k48 96 (by omega)).trans kv1) ((e48 0 (by omega) (by omega)).trans kv2)
                  ·
                    show WP (Call d) 251 P X (50, [some (vr (some 90) 10), some (vi h9), some (vi b), some (vi x), some (vi y), some (vi s9), some (vi k)], [], (J48, H), 0, 0)
                    refine WP.go 8 (Exists.intro (k + 1) (And.intro (wrp_a (by omega) (by omega)) (?_)))
                    show WP (Call d) 251 P X (36, [some (vr (some 90) 10), some (vi h9), some (vi b), some (vi x), some (vi y), some (vi (zor s9 (zshl 1 k))), some (vi (k + 1))], [], (J48, H), 0, 0)
                    exact ih36 J48 (zor s9 (zshl 1 k)) (k + 1) (by omega) (by omega) (by rw [iv1, hB_y (p := fun w => 0 < LST μ h9 b w x y) (by omega) (by rw [← LST_e eK (by omega) (by omega)]; omega)]) (kv0.lb (by omega) e48 f48 g48 k48) ((k48 96 (by omega)).trans kv1) ((e48 0 (by omega) (by omega)).trans kv2)
            exact lp36 ((μ 2 - 0 : Int).toNat + 1) J31 0 0 (by omega) (by omega) rfl hmf_12 rfl hth_13
          ·
            show WP (Call d) 251 P X (21, [some (vr (some 90) 10), some (vi h9), some (vi b), some (vi x), some (vi y), none, none], [vr (some 90) 10], (I, H), 0, 0)
            refine WP.go 6 (And.intro (And.intro rfl trivial) (And.intro rfl (And.intro (fun (b27 : ¬ 0 < 2) => (absurd b27 (by omega))) (fun (b27 : 0 < 2) => ?_))))
            show WP (Call d) 251 P X (28, [some (vr (some 90) 10), some (vi h9), some (vi b), some (vi x), some (vi y), none, none], [], ((upI I 90 0 2), H), 0, 0)
            refine WP.go 2 (And.intro (And.intro (Nat.le_of_ble_eq_true rfl) (Nat.le_of_ble_eq_true rfl)) (And.intro trivial (?_)))
            show P (some (vi 0)) ((upI I 90 0 2), H)
            exact hk2 (by omega) _ 0 (.inl rfl) (MF.th hK _) (upI_same _ _ _ _)
      ·
        show WP (Call d) 251 P X (11, [some (vr (some 90) 10), some (vi h9), some (vi b), some (vi x), some (vi y), none, none], [vr (some 90) 10], (I, H), 0, 0)
        have z10 := bz_e0.mp b10
        refine WP.go 6 (And.intro (And.intro rfl trivial) (And.intro rfl (And.intro (fun (b27 : ¬ 0 < 1) => (absurd b27 (by omega))) (fun (b27 : 0 < 1) => ?_))))
        show WP (Call d) 251 P X (28, [some (vr (some 90) 10), some (vi h9), some (vi b), some (vi x), some (vi y), none, none], [], ((upI I 90 0 1), H), 0, 0)
        refine WP.go 2 (And.intro (And.intro (Nat.le_of_ble_eq_true rfl) (Nat.le_of_ble_eq_true rfl)) (And.intro trivial (?_)))
        show P (some (vi 0)) ((upI I 90 0 1), H)
        exact hk1 (by omega) _ 0 (.inl rfl) (MF.th hK _) (upI_same _ _ _ _)

theorem s_12_gable {d : Nat} {P : Option qV → qH → Prop} {X : Nat → qH → Prop} {I : qI} {H : qS} {μ : Int → Int} (hd : 6 ≤ d) {h9 w x y : Int} (hS : Shp H) (hM : I 91 = μ) (hV : IM μ) (hK : MS I) (hk1 : (¬ ((0 ≤ h9 ∧ h9 < μ 1) ∧ (0 ≤ w ∧ w < μ 2) ∧ (0 ≤ x ∧ x < 100) ∧ (0 ≤ y ∧ y < 100))) → ∀ (J : qI) (v : Int), (v = 0 ∨ v = 1) → MF I J → J 90 0 = 1 → P (some (vi v)) (J, H)) (hk2 : (((0 ≤ h9 ∧ h9 < μ 1) ∧ (0 ≤ w ∧ w < μ 2) ∧ (0 ≤ x ∧ x < 100) ∧ (0 ≤ y ∧ y < 100)) ∧ y < x) → ∀ (J : qI) (v : Int), (v = 0 ∨ v = 1) → MF I J → J 90 0 = 2 → P (some (vi v)) (J, H)) (h : (((0 ≤ h9 ∧ h9 < μ 1) ∧ (0 ≤ w ∧ w < μ 2) ∧ (0 ≤ x ∧ x < 100) ∧ (0 ≤ y ∧ y < 100)) ∧ x ≤ y) → ∀ J : qI, MF I J → J 90 0 = 0 → P (some (vi (GAB μ h9 w x y))) (J, H)) :
    Call d 252 [vr (some 90) 10, vi h9, vi w, vi x, vi y] (I, H) P X := by
  obtain ⟨d, rfl⟩ : ∃ e, d = e + 1 := ⟨d - 1, by omega⟩
  obtain ⟨tb, h30⟩ : ∃ tb, I 90 30 = tb := ⟨_, rfl⟩
  obtain ⟨mo, h23⟩ : ∃ mo, I 90 23 = mo := ⟨_, rfl⟩
  have htb : 0 ≤ tb ∧ tb ≤ 29 := by have := hK.2.2.2; omega
  have hmo : (-1 : Int) = -1 ∨ (0 ≤ mo ∧ mo ≤ 48) := .inl rfl
  have h22 := hK.1
  have h29 := hK.2.1
  have v0 := hV.n1
  show WP (Call d) 252 P X (0, [some (vr (some 90) 10), some (vi h9), some (vi w), some (vi x), some (vi y), none], [], (I, H), 0, 0)
  refine WP.go 4 (And.intro (And.intro (Nat.le_of_ble_eq_true rfl) (Nat.le_of_ble_eq_true rfl)) (And.intro rfl (?_)))
  show Call d 180 [vr (some 90) 10, vi h9] (I, H) _ _
  refine s_12_isHouse (by omega) hS hM hV ?_
  show WP (Call d) 252 P X (4, [some (vr (some 90) 10), some (vi h9), some (vi w), some (vi x), some (vi y), none], [vi (bz (0 ≤ h9 ∧ h9 ≤ μ 1 - 1)), vr (some 90) 10], (I, H), 0, 0)
  refine WP.go 1 (And.intro (fun (b4 : bz (0 ≤ h9 ∧ h9 ≤ μ 1 - 1) = 0) => ?_) (fun (b4 : ¬ bz (0 ≤ h9 ∧ h9 ≤ μ 1 - 1) = 0) => ?_))
  ·
    show WP (Call d) 252 P X (15, [some (vr (some 90) 10), some (vi h9), some (vi w), some (vi x), some (vi y), none], [vr (some 90) 10], (I, H), 0, 0)
    have z4 := bz_e0.mp b4
    refine WP.go 6 (And.intro (And.intro rfl trivial) (And.intro rfl (And.intro (fun (b26 : ¬ 0 < 1) => (absurd b26 (by omega))) (fun (b26 : 0 < 1) => ?_))))
    show WP (Call d) 252 P X (27, [some (vr (some 90) 10), some (vi h9), some (vi w), some (vi x), some (vi y), none], [], ((upI I 90 0 1), H), 0, 0)
    refine WP.go 2 (And.intro (And.intro (Nat.le_of_ble_eq_true rfl) (Nat.le_of_ble_eq_true rfl)) (And.intro trivial (?_)))
    show P (some (vi 0)) ((upI I 90 0 1), H)
    exact hk1 (by omega) _ 0 (.inl rfl) (MF.th hK _) (upI_same _ _ _ _)
  ·
    show WP (Call d) 252 P X (5, [some (vr (some 90) 10), some (vi h9), some (vi w), some (vi x), some (vi y), none], [vr (some 90) 10], (I, H), 0, 0)
    have z4 := bz_e1.mp b4
    refine WP.go 3 (And.intro (And.intro (Nat.le_of_ble_eq_true rfl) (Nat.le_of_ble_eq_true rfl)) (And.intro rfl (?_)))
    show Call d 181 [vr (some 90) 10, vi w] (I, H) _ _
    refine s_12_isWindow (by omega) hS hM hV ?_
    show WP (Call d) 252 P X (8, [some (vr (some 90) 10), some (vi h9), some (vi w), some (vi x), some (vi y), none], [vi (bz (0 ≤ w ∧ w ≤ μ 2 - 1)), vr (some 90) 10], (I, H), 0, 0)
    refine WP.go 1 (And.intro (fun (b8 : bz (0 ≤ w ∧ w ≤ μ 2 - 1) = 0) => ?_) (fun (b8 : ¬ bz (0 ≤ w ∧ w ≤ μ 2 - 1) = 0) => ?_))
    ·
      show WP (Call d) 252 P X (15, [some (vr (some 90) 10), some (vi h9), some (vi w), some (vi x), some (vi y), none], [vr (some 90) 10], (I, H), 0, 0)
      have z8 := bz_e0.mp b8
      refine WP.go 6 (And.intro (And.intro rfl trivial) (And.intro rfl (And.intro (fun (b26 : ¬ 0 < 1) => (absurd b26 (by omega))) (fun (b26 : 0 < 1) => ?_))))
      show WP (Call d) 252 P X (27, [some (vr (some 90) 10), some (vi h9), some (vi w), some (vi x), some (vi y), none], [], ((upI I 90 0 1), H), 0, 0)
      refine WP.go 2 (And.intro (And.intro (Nat.le_of_ble_eq_true rfl) (Nat.le_of_ble_eq_true rfl)) (And.intro trivial (?_)))
      show P (some (vi 0)) ((upI I 90 0 1), H)
      exact hk1 (by omega) _ 0 (.inl rfl) (MF.th hK _) (upI_same _ _ _ _)
    ·
      show WP (Call d) 252 P X (9, [some (vr (some 90) 10), some (vi h9), some (vi w), some (vi x), some (vi y), none], [vr (some 90) 10], (I, H), 0, 0)
      have z8 := bz_e1.mp b8
      refine WP.go 2 (And.intro (And.intro (Nat.le_of_ble_eq_true rfl) (Nat.le_of_ble_eq_true rfl)) (And.intro rfl (?_)))
      show Call d 179 [vi x] (I, H) _ _
      refine s_12_isYear (by omega)  ?_
      show WP (Call d) 252 P X (11, [some (vr (some 90) 10), some (vi h9), some (vi w), some (vi x), some (vi y), none], [vi (bz (0 ≤ x ∧ x ≤ 99)), vr (some 90) 10], (I, H), 0, 0)
      refine WP.go 1 (And.intro (fun (b11 : bz (0 ≤ x ∧ x ≤ 99) = 0) => ?_) (fun (b11 : ¬ bz (0 ≤ x ∧ x ≤ 99) = 0) => ?_))
      ·
        show WP (Call d) 252 P X (15, [some (vr (some 90) 10), some (vi h9), some (vi w), some (vi x), some (vi y), none], [vr (some 90) 10], (I, H), 0, 0)
        have z11 := bz_e0.mp b11
        refine WP.go 6 (And.intro (And.intro rfl trivial) (And.intro rfl (And.intro (fun (b26 : ¬ 0 < 1) => (absurd b26 (by omega))) (fun (b26 : 0 < 1) => ?_))))
        show WP (Call d) 252 P X (27, [some (vr (some 90) 10), some (vi h9), some (vi w), some (vi x), some (vi y), none], [], ((upI I 90 0 1), H), 0, 0)
        refine WP.go 2 (And.intro (And.intro (Nat.le_of_ble_eq_true rfl) (Nat.le_of_ble_eq_true rfl)) (And.intro trivial (?_)))
        show P (some (vi 0)) ((upI I 90 0 1), H)
        exact hk1 (by omega) _ 0 (.inl rfl) (MF.th hK _) (upI_same _ _ _ _)
      ·
        show WP (Call d) 252 P X (12, [some (vr (some 90) 10), some (vi h9), some (vi w), some (vi x), some (vi y), none], [vr (some 90) 10], (I, H), 0, 0)
        have z11 := bz_e1.mp b11
        refine WP.go 2 (And.intro (And.intro (Nat.le_of_ble_eq_true rfl) (Nat.le_of_ble_eq_true rfl)) (And.intro rfl (?_)))
        show Call d 179 [vi y] (I, H) _ _
        refine s_12_isYear (by omega)  ?_
        show WP (Call d) 252 P X (14, [some (vr (some 90) 10), some (vi h9), some (vi w), some (vi x), some (vi y), none], [vi (bz (0 ≤ y ∧ y ≤ 99)), vr (some 90) 10], (I, H), 0, 0)
        refine WP.go 1 (And.intro (fun (b14 : ¬ bz (0 ≤ y ∧ y ≤ 99) = 0) => ?_) (fun (b14 : bz (0 ≤ y ∧ y ≤ 99) = 0) => ?_))
        ·
          show WP (Call d) 252 P X (17, [some (vr (some 90) 10), some (vi h9), some (vi w), some (vi x), some (vi y), none], [vr (some 90) 10], (I, H), 0, 0)
          have z14 := bz_e1.mp b14
          refine WP.go 3 (And.intro (fun (b19 : ¬ y < x) => ?_) (fun (b19 : y < x) => ?_))
          ·
            show WP (Call d) 252 P X (22, [some (vr (some 90) 10), some (vi h9), some (vi w), some (vi x), some (vi y), none], [vr (some 90) 10], (I, H), 0, 0)
            refine WP.go 5 (And.intro (And.intro rfl trivial) (And.intro rfl (And.intro (fun (b26 : ¬ 0 < 0) => ?_) (fun (b26 : 0 < 0) => (absurd b26 (by omega))))))
            show WP (Call d) 252 P X (29, [some (vr (some 90) 10), some (vi h9), some (vi w), some (vi x), some (vi y), none], [], ((upI I 90 0 0), H), 0, 0)
            generalize hq_J0 : (upI I 90 0 0) = J0
            have e_J0 : J0 90 = (fun j => if j = 0 then 0 else I 90 j) := by rw [← hq_J0]; exact upI_self _ _ _ _
            have f_J0 : ∀ a, a ≠ 90 → J0 a = I a := fun a q => by rw [← hq_J0]; exact upI_cell q
            have hmf : MF I J0 := MF.t0 hK e_J0 f_J0
            have hth : J0 90 0 = 0 := by rw [e_J0]; rfl
            have hM_1 : J0 91 = μ := (f_J0 91 (by omega)).trans hM
            have h_2 : J0 90 22 = -1 := by rw [e_J0]; exact h22
            have h_3 : J0 90 23 = mo := by rw [e_J0]; exact h23
            have h_4 : J0 90 29 = -1 := by rw [e_J0]; exact h29
            have h_5 : J0 90 30 = tb := by rw [e_J0]; exact h30
            refine WP.go 2 (And.intro (And.intro (Nat.le_of_ble_eq_true rfl) (Nat.le_of_ble_eq_true rfl)) (And.intro rfl (?_)))
            show Call d 210 [vr (some 90) 10] (J0, H) _ _
            refine s_12_turn (by omega) hS hM_1 hV h_2 h_3 hmo (fun J30 e30 f30 => ?_)
            show WP (Call d) 252 P X (31, [some (vr (some 90) 10), some (vi h9), some (vi w), some (vi x), some (vi y), none], [], (J30, H), 0, 0)
            have hM_6 : J30 91 = μ := (f30 91 (by omega)).trans hM_1
            have h_7 : J30 90 22 = -1 := (congrFun (f30 90 (by omega)) 22).trans h_2
            have h_8 : J30 90 23 = mo := (congrFun (f30 90 (by omega)) 23).trans h_3
            have h_9 : J30 90 29 = -1 := (congrFun (f30 90 (by omega)) 29).trans h_4
            have h_10 : J30 90 30 = tb := (congrFun (f30 90 (by omega)) 30).trans h_5
            have hA_11 : ∀ y, 0 ≤ y → y < 100 → 0 ≤ J30 96 y ∧ J30 96 y < 96 := fun y q1 q2 => by rw [e30 y q1 q2]; exact ANG_bd hV _ _ _
            have eA : ∀ y, 0 ≤ y → y < 100 → J30 96 y = AN μ y := fun y q1 q2 => (e30 y q1 q2).trans (ANG_irr (by omega) _ _ _)
            have hmf_12 : MF I J30 := hmf.tu f30
            have hth_13 : J30 90 0 = 0 := (congrFun (f30 90 (by omega)) 0).trans hth
            have AHA := hA_11
            have v1 := hV.hh h9 (by omega) (by omega)
            refine WP.go 2 ?_
            show WP (Call d) 252 P X (33, [some (vr (some 90) 10), some (vi h9), some (vi w), some (vi x), some (vi y), some (vi 0)], [], (J30, H), 0, 0)
            have lp33 : ∀ (n9 : Nat) (K : qI) (k : Int) (hm : 30 - k < (n9 : Int)) (iv0 : 0 ≤ k ∧ k ≤ 30 - μ (121 + 2 * h9)) (iv1 : GAB μ h9 w x y = laN (fun b => LST μ h9 b w x y = 0) (30 - μ (121 + 2 * h9) - k).toNat k) (kv0 : MF I K) (kv1 : K 96 = J30 96) (kv2 : K 90 0 = 0), WP (Call d) 252 P X (33, [some (vr (some 90) 10), some (vi h9), some (vi w), some (vi x), some (vi y), some (vi k)], [], (K, H), 0, 0) := by
              intro n9
              induction n9 with
              | zero => intro K k hm iv0 iv1 kv0 kv1 kv2; exact absurd hm (by omega)
              | succ n9 ih33 =>
                intro K k hm iv0 iv1 kv0 kv1 kv2
                have hMk : K 91 = μ := (kv0.1 91 (by omega)).trans hM
                obtain ⟨tb2, h30k⟩ : ∃ t, K 90 30 = t := ⟨_, rfl⟩
                have htb2 : 0 ≤ tb2 ∧ tb2 ≤ 29 := by have := kv0.2.2.2.2.2; omega
                have h29k := kv0.2.2.2.1
                have hAk : ∀ y, 0 ≤ y → y < 100 → 0 ≤ K 96 y ∧ K 96 y < 96 := fun y q1 q2 => by rw [kv1]; exact AHA y q1 q2
                have eK : ∀ y, 0 ≤ y → y < 100 → K 96 y = AN μ y := fun y q1 q2 => by rw [kv1]; exact eA y q1 q2
                refine WP.go 3 (And.intro (And.intro (Nat.le_of_ble_eq_true rfl) (Nat.le_of_ble_eq_true rfl)) (And.intro rfl (?_)))
                show Call d 183 [vr (some 90) 10, vi h9] (K, H) _ _
                refine s_12_heightOf (by omega) hS hMk (by omega) ?_
                show WP (Call d) 252 P X (36, [some (vr (some 90) 10), some (vi h9), some (vi w), some (vi x), some (vi y), some (vi k)], [vi (μ (121 + 2 * h9))], (K, H), 0, 0)
                refine WP.go 4 (Exists.intro ((μ (121 + 2 * h9)) + k) (And.intro (wrp_a (by omega) (by omega)) (And.intro (fun (b39 : ¬ (μ (121 + 2 * h9)) + k < 30) => ?_) (fun (b39 : (μ (121 + 2 * h9)) + k < 30) => ?_))))
                ·
                  show WP (Call d) 252 P X (52, [some (vr (some 90) 10), some (vi h9), some (vi w), some (vi x), some (vi y), some (vi k)], [], (K, H), 0, 0)
                  refine WP.go 2 (And.intro (And.intro (Nat.le_of_ble_eq_true rfl) (Nat.le_of_ble_eq_true rfl)) (And.intro trivial (?_)))
                  show P (some (vi k)) (K, H)
                  exact fin_i ((iv1.trans (laN_e (by omega))).symm) (h (by omega) _ kv0 kv2)
                ·
                  show WP (Call d) 252 P X (40, [some (vr (some 90) 10), some (vi h9), some (vi w), some (vi x), some (vi y), some (vi k)], [], (K, H), 0, 0)
                  refine WP.go 9 (Exists.intro (k + 1) (And.intro (wrp_a (by omega) (by omega)) (And.intro (And.intro (Nat.le_of_ble_eq_true rfl) (Nat.le_of_ble_eq_true rfl)) (And.intro rfl (?_)))))
                  show Call d 249 [vr (some 90) 10, vi h9, vi (k + 1), vi w, vi x, vi y] (K, H) _ _
                  refine s_12_losesBy (by omega) hS hMk hV hAk h29k h30k htb2 (by omega) (by omega) (by omega) (by omega) (fun J48 e48 f48 g48 k48 => ?_)
                  show WP (Call d) 252 P X (49, [some (vr (some 90) 10), some (vi h9), some (vi w), some (vi x), some (vi y), some (vi k)], [vi (LGW μ (K 96) (HTC μ (-1) 0) w x y - LGW μ (K 96) (HTC μ h9 (k + 1)) w x y)], (J48, H), 0, 0)
                  have hmf_14 : MF I J48 := kv0.lb (by omega) e48 f48 g48 k48
                  have hth_15 : J48 90 0 = 0 := (e48 0 (by omega) (by omega)).trans kv2
                  refine WP.go 1 (And.intro (fun (b49 : ¬ LGW μ (K 96) (HTC μ (-1) 0) w x y - LGW μ (K 96) (HTC μ h9 (k + 1)) w x y = 0) => ?_) (fun (b49 : LGW μ (K 96) (HTC μ (-1) 0) w x y - LGW μ (K 96) (HTC μ h9 (k + 1)) w x y = 0) => ?_))
                  ·
                    show WP (Call d) 252 P X (52, [some (vr (some 90) 10), some (vi h9), some (vi w), some (vi x), some (vi y), some (vi k)], [], (J48, H), 0, 0)
                    refine WP.go 2 (And.intro (And.intro (Nat.le_of_ble_eq_true rfl) (Nat.le_of_ble_eq_true rfl)) (And.intro trivial (?_)))
                    show P (some (vi k)) (J48, H)
                    exact fin_i ((iv1.trans (laN_n (by rw [← LST_e eK (by omega) (by omega)]; exact b49))).symm) (h (by omega) _ hmf_14 hth_15)
                  ·
                    show WP (Call d) 252 P X (50, [some (vr (some 90) 10), some (vi h9), some (vi w), some (vi x), some (vi y), some (vi k)], [], (J48, H), 0, 0)
                    refine WP.go 2 (Exists.intro (k + 1) (And.intro (wrp_a (by omega) (by omega)) (?_)))
                    show WP (Call d) 252 P X (33, [some (vr (some 90) 10), some (vi h9), some (vi w), some (vi x), some (vi y), some (vi (k + 1))], [], (J48, H), 0, 0)
                    exact ih33 J48 (k + 1) (by omega) (by omega) (iv1.trans (laN_y (by omega) (by rw [← LST_e eK (by omega) (by omega)]; exact b49))) (kv0.lb (by omega) e48 f48 g48 k48) ((k48 96 (by omega)).trans kv1) ((e48 0 (by omega) (by omega)).trans kv2)
            exact lp33 ((30 - 0 : Int).toNat + 1) J30 0 (by omega) (by omega) rfl hmf_12 rfl hth_13
          ·
            show WP (Call d) 252 P X (20, [some (vr (some 90) 10), some (vi h9), some (vi w), some (vi x), some (vi y), none], [vr (some 90) 10], (I, H), 0, 0)
            refine WP.go 6 (And.intro (And.intro rfl trivial) (And.intro rfl (And.intro (fun (b26 : ¬ 0 < 2) => (absurd b26 (by omega))) (fun (b26 : 0 < 2) => ?_))))
            show WP (Call d) 252 P X (27, [some (vr (some 90) 10), some (vi h9), some (vi w), some (vi x), some (vi y), none], [], ((upI I 90 0 2), H), 0, 0)
            refine WP.go 2 (And.intro (And.intro (Nat.le_of_ble_eq_true rfl) (Nat.le_of_ble_eq_true rfl)) (And.intro trivial (?_)))
            show P (some (vi 0)) ((upI I 90 0 2), H)
            exact hk2 (by omega) _ 0 (.inl rfl) (MF.th hK _) (upI_same _ _ _ _)
        ·
          show WP (Call d) 252 P X (15, [some (vr (some 90) 10), some (vi h9), some (vi w), some (vi x), some (vi y), none], [vr (some 90) 10], (I, H), 0, 0)
          have z14 := bz_e0.mp b14
          refine WP.go 6 (And.intro (And.intro rfl trivial) (And.intro rfl (And.intro (fun (b26 : ¬ 0 < 1) => (absurd b26 (by omega))) (fun (b26 : 0 < 1) => ?_))))
          show WP (Call d) 252 P X (27, [some (vr (some 90) 10), some (vi h9), some (vi w), some (vi x), some (vi y), none], [], ((upI I 90 0 1), H), 0, 0)
          refine WP.go 2 (And.intro (And.intro (Nat.le_of_ble_eq_true rfl) (Nat.le_of_ble_eq_true rfl)) (And.intro trivial (?_)))
          show P (some (vi 0)) ((upI I 90 0 1), H)
          exact hk1 (by omega) _ 0 (.inl rfl) (MF.th hK _) (upI_same _ _ _ _)

