theorem fI_sy {p : Int → Prop} {k : Int} (h0 : 0 ≤ k) (h : ∀ i, 0 ≤ i → i < k → ¬ p i) (q : p k) : fI p 0 (k + 1) = k := by
  rcases fI_r (p := p) (a := 0) (b := k + 1) (by omega) with ⟨r1, r2⟩ | ⟨r1, r2, r3, r4⟩
  · exact absurd q (r2 k h0 (by omega))
  · rcases Int.lt_or_le (fI p 0 (k + 1)) k with z | z
    · exact absurd r3 (h _ r1 z)
    · omega
theorem fI_sn {p : Int → Prop} {k : Int} (h0 : 0 ≤ k) (q : ¬ p k) : fI p 0 (k + 1) = fI p 0 k := by
  rcases fI_r (p := p) (a := 0) (b := k) h0 with ⟨q1, q2⟩ | ⟨q1, q2, q3, q4⟩
  · rcases fI_r (p := p) (a := 0) (b := k + 1) (by omega) with ⟨r1, r2⟩ | ⟨r1, r2, r3, r4⟩
    · rw [q1, r1]
    · rcases Int.lt_or_eq_of_le (show fI p 0 (k + 1) ≤ k by omega) with z | z
      · exact absurd r3 (q2 _ r1 z)
      · rw [z] at r3; exact absurd r3 q
  · rcases fI_r (p := p) (a := 0) (b := k + 1) (by omega) with ⟨r1, r2⟩ | ⟨r1, r2, r3, r4⟩
    · exact absurd q3 (r2 _ q1 (by omega))
    · rcases Int.lt_trichotomy (fI p 0 (k + 1)) (fI p 0 k) with z | z | z
      · exact absurd r3 (q4 _ r1 z)
      · exact z
      · exact absurd q3 (r4 _ q1 z)
theorem LST_e {μ A : Int → Int} {h b w x y : Int} (eA : ∀ y, 0 ≤ y → y < 100 → A y = AN μ y) (h0 : 0 ≤ x) (h1 : y < 100) : LGW μ A (HTC μ (-1) 0) w x y - LGW μ A (HTC μ h b) w x y = LST μ h b w x y := by
  unfold LST
  rw [LGW_congr h0 h1 eA HT_z, LGW_congr (T' := HTC μ h b) h0 h1 eA (fun _ _ _ => rfl)]
theorem s_12_housesOf_v {d : Nat} {P : Option qV → qH → Prop} {X : Nat → qH → Prop} {I : qI} {H : qS} {μ : Int → Int} {tb : Int} (hd : 6 ≤ d) {y wh : Int} (hS : Shp H) (hM : I 91 = μ) (hV : IM μ) (hA : ∀ y, 0 ≤ y → y < 100 → 0 ≤ I 96 y ∧ I 96 y < 96) (h29 : I 90 29 = -1) (h30 : I 90 30 = tb) (htb : 0 ≤ tb ∧ tb ≤ 29) (hy : 0 ≤ y ∧ y < 100) (hw : 0 ≤ wh ∧ wh < 3) (h : P (some (vi (hB (HSP μ (I 96) (HT μ) y wh) (μ 1)))) (I, H)) :
    Call d 226 [vr (some 90) 10, vi y, vi wh] (I, H) P X := by
  have hq : wh = 0 ∨ wh = 1 ∨ wh = 2 := by omega
  rcases hq with rfl | rfl | rfl
  · refine s_12_housesOf_0 hd hS hM hV hA h29 h30 htb hy (fin_i (hB_congr (fun i _ _ => ?_)) h)
    unfold HSP
    rw [LGH_congr (A' := I 96) rfl (HT_i hV tb)]
    exact ⟨fun q => ⟨fun _ => q, fun z => absurd z (by omega), fun z => absurd z (by omega)⟩, fun q => q.1 rfl⟩
  · refine s_12_housesOf_1 hd hS hM hV hA hy (fin_i (hB_congr (fun i _ _ => ?_)) h)
    unfold HSP
    exact ⟨fun q => ⟨fun z => absurd z (by omega), fun _ => q, fun z => absurd z (by omega)⟩, fun q => q.2.1 rfl⟩
  · refine s_12_housesOf_2 hd hS hM hV hA h29 h30 htb hy (fin_i (hB_congr (fun i _ _ => ?_)) h)
    unfold HSP
    rw [propext (NOONp_congr (A' := I 96) rfl (HT_i hV tb))]
    exact ⟨fun q => ⟨fun z => absurd z (by omega), fun z => absurd z (by omega), fun _ => q⟩, fun q => q.2.2 rfl⟩

theorem s_12_houses {d : Nat} {P : Option qV → qH → Prop} {X : Nat → qH → Prop} {I : qI} {H : qS} {μ : Int → Int} (hd : 7 ≤ d) {y wh : Int} (hS : Shp H) (hM : I 91 = μ) (hV : IM μ) (hK : MS I) (hk1 : (¬ ((0 ≤ y ∧ y < 100))) → ∀ (J : qI) (v : Int), (v = 0 ∨ v = 1) → MF I J → J 90 0 = 1 → P (some (vi v)) (J, H)) (hk2 : ((0 ≤ y ∧ y < 100) ∧ ¬ (0 ≤ wh ∧ wh < 3)) → ∀ (J : qI) (v : Int), (v = 0 ∨ v = 1) → MF I J → J 90 0 = 2 → P (some (vi v)) (J, H)) (h : ((0 ≤ y ∧ y < 100) ∧ 0 ≤ wh ∧ wh < 3) → ∀ J : qI, MF I J → J 90 0 = 0 → P (some (vi (hB (HSP μ (AN μ) (HT μ) y wh) (μ 1)))) (J, H)) :
    Call d 227 [vr (some 90) 10, vi y, vi wh] (I, H) P X := by
  obtain ⟨d, rfl⟩ : ∃ e, d = e + 1 := ⟨d - 1, by omega⟩
  obtain ⟨tb, h30⟩ : ∃ tb, I 90 30 = tb := ⟨_, rfl⟩
  obtain ⟨mo, h23⟩ : ∃ mo, I 90 23 = mo := ⟨_, rfl⟩
  have htb : 0 ≤ tb ∧ tb ≤ 29 := by have := hK.2.2.2; omega
  have hmo : (-1 : Int) = -1 ∨ (0 ≤ mo ∧ mo ≤ 48) := .inl rfl
  have h22 := hK.1
  have h29 := hK.2.1
  show WP (Call d) 227 P X (0, [some (vr (some 90) 10), some (vi y), some (vi wh)], [], (I, H), 0, 0)
  refine WP.go 3 (And.intro (And.intro (Nat.le_of_ble_eq_true rfl) (Nat.le_of_ble_eq_true rfl)) (And.intro rfl (?_)))
  show Call d 179 [vi y] (I, H) _ _
  refine s_12_isYear (by omega)  ?_
  show WP (Call d) 227 P X (3, [some (vr (some 90) 10), some (vi y), some (vi wh)], [vi (bz (0 ≤ y ∧ y ≤ 99)), vr (some 90) 10], (I, H), 0, 0)
  refine WP.go 1 (And.intro (fun (b3 : ¬ bz (0 ≤ y ∧ y ≤ 99) = 0) => ?_) (fun (b3 : bz (0 ≤ y ∧ y ≤ 99) = 0) => ?_))
  ·
    show WP (Call d) 227 P X (6, [some (vr (some 90) 10), some (vi y), some (vi wh)], [vr (some 90) 10], (I, H), 0, 0)
    have z3 := bz_e1.mp b3
    refine WP.go 4 (And.intro (And.intro (Nat.le_of_ble_eq_true rfl) (Nat.le_of_ble_eq_true rfl)) (And.intro rfl (?_)))
    show Call d 177 [vi wh, vi 0, vi 2] (I, H) _ _
    refine s_12_isIn (by omega)  ?_
    show WP (Call d) 227 P X (10, [some (vr (some 90) 10), some (vi y), some (vi wh)], [vi (bz (0 ≤ wh ∧ wh ≤ 2)), vr (some 90) 10], (I, H), 0, 0)
    refine WP.go 1 (And.intro (fun (b10 : ¬ bz (0 ≤ wh ∧ wh ≤ 2) = 0) => ?_) (fun (b10 : bz (0 ≤ wh ∧ wh ≤ 2) = 0) => ?_))
    ·
      show WP (Call d) 227 P X (13, [some (vr (some 90) 10), some (vi y), some (vi wh)], [vr (some 90) 10], (I, H), 0, 0)
      have z10 := bz_e1.mp b10
      refine WP.go 5 (And.intro (And.intro rfl trivial) (And.intro rfl (And.intro (fun (b17 : ¬ 0 < 0) => ?_) (fun (b17 : 0 < 0) => (absurd b17 (by omega))))))
      show WP (Call d) 227 P X (20, [some (vr (some 90) 10), some (vi y), some (vi wh)], [], ((upI I 90 0 0), H), 0, 0)
      generalize hq_J0 : (upI I 90 0 0) = J0
      have e_J0 : J0 90 = (fun j => if j = 0 then 0 else I 90 j) := by rw [← hq_J0]; exact upI_self _ _ _ _
      have f_J0 : ∀ a, a ≠ 90 → J0 a = I a := fun a q => by rw [← hq_J0]; exact upI_cell q
      have hmf : MF I J0 := MF.t0 hK e_J0 f_J0
      have hth : J0 90 0 = 0 := by rw [e_J0]; rfl
      have hM_1 : J0 91 = μ := (f_J0 91 (by omega)).trans hM
      have h_2 : J0 90 22 = -1 := by rw [e_J0]; exact h22
      have h_3 : J0 90 23 = mo := by rw [e_J0]; exact h23
      have h_4 : J0 90 29 = -1 := by rw [e_J0]; exact h29
      have h_5 : J0 90 30 = tb := by rw [e_J0]; exact h30
      refine WP.go 2 (And.intro (And.intro (Nat.le_of_ble_eq_true rfl) (Nat.le_of_ble_eq_true rfl)) (And.intro rfl (?_)))
      show Call d 210 [vr (some 90) 10] (J0, H) _ _
      refine s_12_turn (by omega) hS hM_1 hV h_2 h_3 hmo (fun J21 e21 f21 => ?_)
      show WP (Call d) 227 P X (22, [some (vr (some 90) 10), some (vi y), some (vi wh)], [], (J21, H), 0, 0)
      have hM_6 : J21 91 = μ := (f21 91 (by omega)).trans hM_1
      have h_7 : J21 90 22 = -1 := (congrFun (f21 90 (by omega)) 22).trans h_2
      have h_8 : J21 90 23 = mo := (congrFun (f21 90 (by omega)) 23).trans h_3
      have h_9 : J21 90 29 = -1 := (congrFun (f21 90 (by omega)) 29).trans h_4
      have h_10 : J21 90 30 = tb := (congrFun (f21 90 (by omega)) 30).trans h_5
      have hA_11 : ∀ y, 0 ≤ y → y < 100 → 0 ≤ J21 96 y ∧ J21 96 y < 96 := fun y q1 q2 => by rw [e21 y q1 q2]; exact ANG_bd hV _ _ _
      have eA : ∀ y, 0 ≤ y → y < 100 → J21 96 y = AN μ y := fun y q1 q2 => (e21 y q1 q2).trans (ANG_irr (by omega) _ _ _)
      have hmf_12 : MF I J21 := hmf.tu f21
      have hth_13 : J21 90 0 = 0 := (congrFun (f21 90 (by omega)) 0).trans hth
      refine WP.go 4 (And.intro (And.intro (Nat.le_of_ble_eq_true rfl) (Nat.le_of_ble_eq_true rfl)) (And.intro rfl (?_)))
      show Call d 226 [vr (some 90) 10, vi y, vi wh] (J21, H) _ _
      refine s_12_housesOf_v (by omega) hS hM_6 hV hA_11 h_9 h_10 htb (by omega) (by omega) ?_
      show WP (Call d) 227 P X (26, [some (vr (some 90) 10), some (vi y), some (vi wh)], [vi (hB (HSP μ (J21 96) (HT μ) y wh) (μ 1))], (J21, H), 0, 0)
      refine WP.go 1 (And.intro (And.intro (Nat.le_of_ble_eq_true rfl) (Nat.le_of_ble_eq_true rfl)) (And.intro trivial (?_)))
      show P (some (vi (hB (HSP μ (J21 96) (HT μ) y wh) (μ 1)))) (J21, H)
      exact fin_i (hB_congr (fun i _ _ => HSP_congr (eA _ (by omega) (by omega)) (fun _ _ _ => rfl))) (h (by omega) _ hmf_12 hth_13)
    ·
      show WP (Call d) 227 P X (11, [some (vr (some 90) 10), some (vi y), some (vi wh)], [vr (some 90) 10], (I, H), 0, 0)
      have z10 := bz_e0.mp b10
      refine WP.go 6 (And.intro (And.intro rfl trivial) (And.intro rfl (And.intro (fun (b17 : ¬ 0 < 2) => (absurd b17 (by omega))) (fun (b17 : 0 < 2) => ?_))))
      show WP (Call d) 227 P X (18, [some (vr (some 90) 10), some (vi y), some (vi wh)], [], ((upI I 90 0 2), H), 0, 0)
      refine WP.go 2 (And.intro (And.intro (Nat.le_of_ble_eq_true rfl) (Nat.le_of_ble_eq_true rfl)) (And.intro trivial (?_)))
      show P (some (vi 0)) ((upI I 90 0 2), H)
      exact hk2 (by omega) _ 0 (.inl rfl) (MF.th hK _) (upI_same _ _ _ _)
  ·
    show WP (Call d) 227 P X (4, [some (vr (some 90) 10), some (vi y), some (vi wh)], [vr (some 90) 10], (I, H), 0, 0)
    have z3 := bz_e0.mp b3
    refine WP.go 6 (And.intro (And.intro rfl trivial) (And.intro rfl (And.intro (fun (b17 : ¬ 0 < 1) => (absurd b17 (by omega))) (fun (b17 : 0 < 1) => ?_))))
    show WP (Call d) 227 P X (18, [some (vr (some 90) 10), some (vi y), some (vi wh)], [], ((upI I 90 0 1), H), 0, 0)
    refine WP.go 2 (And.intro (And.intro (Nat.le_of_ble_eq_true rfl) (Nat.le_of_ble_eq_true rfl)) (And.intro trivial (?_)))
    show P (some (vi 0)) ((upI I 90 0 1), H)
    exact hk1 (by omega) _ 0 (.inl rfl) (MF.th hK _) (upI_same _ _ _ _)

theorem s_12_look {d : Nat} {P : Option qV → qH → Prop} {X : Nat → qH → Prop} {I : qI} {H : qS} {μ : Int → Int} (hd : 3 ≤ d) {h9 wh : Int} (hS : Shp H) (hM : I 91 = μ) (hV : IM μ) (hK : MS I) (hk1 : (¬ ((0 ≤ h9 ∧ h9 < μ 1))) → ∀ (J : qI) (v : Int), (v = 0 ∨ v = 1) → MF I J → J 90 0 = 1 → P (some (vi v)) (J, H)) (hk2 : ((0 ≤ h9 ∧ h9 < μ 1) ∧ ¬ (0 ≤ wh ∧ wh < 4)) → ∀ (J : qI) (v : Int), (v = 0 ∨ v = 1) → MF I J → J 90 0 = 2 → P (some (vi v)) (J, H)) (h : (((0 ≤ h9 ∧ h9 < μ 1) ∧ 0 ≤ wh ∧ wh < 4)) → ∀ J : qI, MF I J → J 90 0 = 0 → P (some (vi (LOOK4 μ h9 wh))) (J, H)) :
    Call d 208 [vr (some 90) 10, vi h9, vi wh] (I, H) P X := by
  obtain ⟨d, rfl⟩ : ∃ e, d = e + 1 := ⟨d - 1, by omega⟩
  have hl91 := hS.l91
  obtain ⟨tb, h30⟩ : ∃ tb, I 90 30 = tb := ⟨_, rfl⟩
  obtain ⟨mo, h23⟩ : ∃ mo, I 90 23 = mo := ⟨_, rfl⟩
  have htb : 0 ≤ tb ∧ tb ≤ 29 := by have := hK.2.2.2; omega
  have hmo : (-1 : Int) = -1 ∨ (0 ≤ mo ∧ mo ≤ 48) := .inl rfl
  have h22 := hK.1
  have h29 := hK.2.1
  have v1 := hV.n1
  have v2 := hV.n2
  show WP (Call d) 208 P X (0, [some (vr (some 90) 10), some (vi h9), some (vi wh), none, none, none], [], (I, H), 0, 0)
  refine WP.go 4 (And.intro (And.intro (Nat.le_of_ble_eq_true rfl) (Nat.le_of_ble_eq_true rfl)) (And.intro rfl (?_)))
  show Call d 180 [vr (some 90) 10, vi h9] (I, H) _ _
  refine s_12_isHouse (by omega) hS hM hV ?_
  show WP (Call d) 208 P X (4, [some (vr (some 90) 10), some (vi h9), some (vi wh), none, none, none], [vi (bz (0 ≤ h9 ∧ h9 ≤ μ 1 - 1)), vr (some 90) 10], (I, H), 0, 0)
  refine WP.go 1 (And.intro (fun (b4 : ¬ bz (0 ≤ h9 ∧ h9 ≤ μ 1 - 1) = 0) => ?_) (fun (b4 : bz (0 ≤ h9 ∧ h9 ≤ μ 1 - 1) = 0) => ?_))
  ·
    show WP (Call d) 208 P X (7, [some (vr (some 90) 10), some (vi h9), some (vi wh), none, none, none], [vr (some 90) 10], (I, H), 0, 0)
    have z4 := bz_e1.mp b4
    refine WP.go 4 (And.intro (And.intro (Nat.le_of_ble_eq_true rfl) (Nat.le_of_ble_eq_true rfl)) (And.intro rfl (?_)))
    show Call d 177 [vi wh, vi 0, vi 3] (I, H) _ _
    refine s_12_isIn (by omega)  ?_
    show WP (Call d) 208 P X (11, [some (vr (some 90) 10), some (vi h9), some (vi wh), none, none, none], [vi (bz (0 ≤ wh ∧ wh ≤ 3)), vr (some 90) 10], (I, H), 0, 0)
    refine WP.go 1 (And.intro (fun (b11 : ¬ bz (0 ≤ wh ∧ wh ≤ 3) = 0) => ?_) (fun (b11 : bz (0 ≤ wh ∧ wh ≤ 3) = 0) => ?_))
    ·
      show WP (Call d) 208 P X (14, [some (vr (some 90) 10), some (vi h9), some (vi wh), none, none, none], [vr (some 90) 10], (I, H), 0, 0)
      have z11 := bz_e1.mp b11
      refine WP.go 5 (And.intro (And.intro rfl trivial) (And.intro rfl (And.intro (fun (b18 : ¬ 0 < 0) => ?_) (fun (b18 : 0 < 0) => (absurd b18 (by omega))))))
      show WP (Call d) 208 P X (21, [some (vr (some 90) 10), some (vi h9), some (vi wh), none, none, none], [], ((upI I 90 0 0), H), 0, 0)
      generalize hq_J0 : (upI I 90 0 0) = J0
      have e_J0 : J0 90 = (fun j => if j = 0 then 0 else I 90 j) := by rw [← hq_J0]; exact upI_self _ _ _ _
      have f_J0 : ∀ a, a ≠ 90 → J0 a = I a := fun a q => by rw [← hq_J0]; exact upI_cell q
      have hmf : MF I J0 := MF.t0 hK e_J0 f_J0
      have hth : J0 90 0 = 0 := by rw [e_J0]; rfl
      have hM_1 : J0 91 = μ := (f_J0 91 (by omega)).trans hM
      have h_2 : J0 90 22 = -1 := by rw [e_J0]; exact h22
      have h_3 : J0 90 23 = mo := by rw [e_J0]; exact h23
      have h_4 : J0 90 29 = -1 := by rw [e_J0]; exact h29
      have h_5 : J0 90 30 = tb := by rw [e_J0]; exact h30
      refine WP.go 4 ?_
      show WP (Call d) 208 P X (25, [some (vr (some 90) 10), some (vi h9), some (vi wh), some (vi 0), some (vi 0), none], [], (J0, H), 0, 0)
      have lp25 : ∀ (n9 : Nat) (s9 : Int) (k : Int) (hm : μ 2 - k < (n9 : Int)) (iv0 : 0 ≤ k ∧ k ≤ μ 2) (iv1 : s9 = sI (fun i => if μ (140 + 3 * i) = h9 then 1 else 0) 0 k), WP (Call d) 208 P X (25, [some (vr (some 90) 10), some (vi h9), some (vi wh), some (vi s9), some (vi k), none], [], (J0, H), 0, 0) := by
        intro n9
        induction n9 with
        | zero => intro s9 k hm iv0 iv1; exact absurd hm (by omega)
        | succ n9 ih25 =>
          intro s9 k hm iv0 iv1
          have m1 := sI_bd (f := fun i => if μ (140 + 3 * i) = h9 then 1 else 0) 0 1 iv0.1 (fun i _ _ => by split <;> omega)
          refine WP.go 5 (And.intro rfl (Exists.intro 91 (And.intro hS.r90_1 (And.intro (And.intro rfl (And.intro (show 0 ≤ 2 from by omega) (show 2 < H.2.1 91 from by omega))) (?_)))))
          refine rw_i (Q := fun x9 => WP (Call d) 208 P X (30, [some (vr (some 90) 10), some (vi h9), some (vi wh), some (vi s9), some (vi k), none], [vi x9, vi k], (J0, H), 0, 0)) (congrFun hM_1 _) ?_
          show WP (Call d) 208 P X (30, [some (vr (some 90) 10), some (vi h9), some (vi wh), some (vi s9), some (vi k), none], [vi (μ 2), vi k], (J0, H), 0, 0)
          refine WP.go 1 (And.intro (fun (b30 : ¬ k < μ 2) => ?_) (fun (b30 : k < μ 2) => ?_))
          ·
            show WP (Call d) 208 P X (45, [some (vr (some 90) 10), some (vi h9), some (vi wh), some (vi s9), some (vi k), none], [], (J0, H), 0, 0)
            refine WP.go 4 ?_
            show WP (Call d) 208 P X (49, [some (vr (some 90) 10), some (vi h9), some (vi wh), some (vi s9), some (vi (-1)), some (vi 0)], [], (J0, H), 0, 0)
            have lp49 : ∀ (n9 : Nat) (f9 : Int) (g9 : Int) (hm : μ 1 - g9 < (n9 : Int)) (jv0 : 0 ≤ g9 ∧ g9 ≤ μ 1) (jv1 : f9 = fI (fun i => μ (200 + i) = h9) 0 g9), WP (Call d) 208 P X (49, [some (vr (some 90) 10), some (vi h9), some (vi wh), some (vi s9), some (vi f9), some (vi g9)], [], (J0, H), 0, 0) := by
              intro n9
              induction n9 with
              | zero => intro f9 g9 hm jv0 jv1; exact absurd hm (by omega)
              | succ n9 ih49 =>
                intro f9 g9 hm jv0 jv1
                refine WP.go 5 (And.intro rfl (Exists.intro 91 (And.intro hS.r90_1 (And.intro (And.intro rfl (And.intro (show 0 ≤ 1 from by omega) (show 1 < H.2.1 91 from by omega))) (?_)))))
                refine rw_i (Q := fun x9 => WP (Call d) 208 P X (54, [some (vr (some 90) 10), some (vi h9), some (vi wh), some (vi s9), some (vi f9), some (vi g9)], [vi x9, vi g9], (J0, H), 0, 0)) (congrFun hM_1 _) ?_
                show WP (Call d) 208 P X (54, [some (vr (some 90) 10), some (vi h9), some (vi wh), some (vi s9), some (vi f9), some (vi g9)], [vi (μ 1), vi g9], (J0, H), 0, 0)
                refine WP.go 1 (And.intro (fun (b54 : ¬ g9 < μ 1) => ?_) (fun (b54 : g9 < μ 1) => ?_))
                ·
                  show WP (Call d) 208 P X (69, [some (vr (some 90) 10), some (vi h9), some (vi wh), some (vi s9), some (vi f9), some (vi g9)], [], (J0, H), 0, 0)
                  refine WP.go 2 (And.intro (fun (b70 : ¬ wh = 0) => ?_) (fun (b70 : wh = 0) => ?_))
                  ·
                    show WP (Call d) 208 P X (75, [some (vr (some 90) 10), some (vi h9), some (vi wh), some (vi s9), some (vi f9), some (vi g9)], [], (J0, H), 0, 0)
                    refine WP.go 3 (And.intro (fun (b77 : ¬ wh = 1) => ?_) (fun (b77 : wh = 1) => ?_))
                    ·
                      show WP (Call d) 208 P X (82, [some (vr (some 90) 10), some (vi h9), some (vi wh), some (vi s9), some (vi f9), some (vi g9)], [], (J0, H), 0, 0)
                      refine WP.go 3 (And.intro (fun (b84 : ¬ wh = 2) => ?_) (fun (b84 : wh = 2) => ?_))
                      ·
                        show WP (Call d) 208 P X (87, [some (vr (some 90) 10), some (vi h9), some (vi wh), some (vi s9), some (vi f9), some (vi g9)], [], (J0, H), 0, 0)
                        refine WP.go 2 (And.intro (And.intro (Nat.le_of_ble_eq_true rfl) (Nat.le_of_ble_eq_true rfl)) (And.intro trivial (?_)))
                        show P (some (vi f9)) (J0, H)
                        exact fin_i (by unfold LOOK4; rw [if_pos (by omega), jv1, show g9 = μ 1 by omega]) (h (by omega) _ hmf hth)
                      ·
                        show WP (Call d) 208 P X (85, [some (vr (some 90) 10), some (vi h9), some (vi wh), some (vi s9), some (vi f9), some (vi g9)], [], (J0, H), 0, 0)
                        refine WP.go 3 (And.intro (And.intro (Nat.le_of_ble_eq_true rfl) (Nat.le_of_ble_eq_true rfl)) (And.intro trivial (?_)))
                        show P (some (vi s9)) (J0, H)
                        exact fin_i (by unfold LOOK4 LOOK; rw [if_neg (by omega), if_neg (by omega), if_neg (by omega), iv1, show k = μ 2 by omega]) (h (by omega) _ hmf hth)
                    ·
                      show WP (Call d) 208 P X (78, [some (vr (some 90) 10), some (vi h9), some (vi wh), some (vi s9), some (vi f9), some (vi g9)], [], (J0, H), 0, 0)
                      refine WP.go 3 (And.intro (And.intro (Nat.le_of_ble_eq_true rfl) (Nat.le_of_ble_eq_true rfl)) (And.intro rfl (?_)))
                      show Call d 183 [vr (some 90) 10, vi h9] (J0, H) _ _
                      refine s_12_heightOf (by omega) hS hM_1 (by omega) ?_
                      show WP (Call d) 208 P X (81, [some (vr (some 90) 10), some (vi h9), some (vi wh), some (vi s9), some (vi f9), some (vi g9)], [vi (μ (121 + 2 * h9))], (J0, H), 0, 0)
                      refine WP.go 2 (And.intro (And.intro (Nat.le_of_ble_eq_true rfl) (Nat.le_of_ble_eq_true rfl)) (And.intro trivial (?_)))
                      show P (some (vi (μ (121 + 2 * h9)))) (J0, H)
                      exact fin_i (by rw [show wh = 1 by omega]; rfl) (h (by omega) _ hmf hth)
                  ·
                    show WP (Call d) 208 P X (71, [some (vr (some 90) 10), some (vi h9), some (vi wh), some (vi s9), some (vi f9), some (vi g9)], [], (J0, H), 0, 0)
                    refine WP.go 3 (And.intro (And.intro (Nat.le_of_ble_eq_true rfl) (Nat.le_of_ble_eq_true rfl)) (And.intro rfl (?_)))
                    show Call d 182 [vr (some 90) 10, vi h9] (J0, H) _ _
                    refine s_12_cellOf (by omega) hS hM_1 (by omega) ?_
                    show WP (Call d) 208 P X (74, [some (vr (some 90) 10), some (vi h9), some (vi wh), some (vi s9), some (vi f9), some (vi g9)], [vi (μ (120 + 2 * h9))], (J0, H), 0, 0)
                    refine WP.go 2 (And.intro (And.intro (Nat.le_of_ble_eq_true rfl) (Nat.le_of_ble_eq_true rfl)) (And.intro trivial (?_)))
                    show P (some (vi (μ (120 + 2 * h9)))) (J0, H)
                    exact fin_i (by rw [show wh = 0 by omega]; rfl) (h (by omega) _ hmf hth)
                ·
                  show WP (Call d) 208 P X (55, [some (vr (some 90) 10), some (vi h9), some (vi wh), some (vi s9), some (vi f9), some (vi g9)], [], (J0, H), 0, 0)
                  refine WP.go 6 (And.intro rfl (Exists.intro 91 (And.intro hS.r90_1 (Exists.intro (200 + g9) (And.intro (wrp_a (by omega) (by omega)) (And.intro (And.intro rfl (And.intro (show 0 ≤ 200 + g9 from by omega) (show 200 + g9 < H.2.1 91 from by omega))) (?_)))))))
                  refine rw_i (Q := fun x9 => WP (Call d) 208 P X (61, [some (vr (some 90) 10), some (vi h9), some (vi wh), some (vi s9), some (vi f9), some (vi g9)], [vi x9], (J0, H), 0, 0)) (congrFun hM_1 _) ?_
                  show WP (Call d) 208 P X (61, [some (vr (some 90) 10), some (vi h9), some (vi wh), some (vi s9), some (vi f9), some (vi g9)], [vi (μ (200 + g9))], (J0, H), 0, 0)
                  refine WP.go 2 (And.intro (fun (b62 : ¬ μ (200 + g9) = h9) => ?_) (fun (b62 : μ (200 + g9) = h9) => ?_))
                  ·
                    show WP (Call d) 208 P X (65, [some (vr (some 90) 10), some (vi h9), some (vi wh), some (vi s9), some (vi f9), some (vi g9)], [], (J0, H), 0, 0)
                    refine WP.go 4 (Exists.intro (g9 + 1) (And.intro (wrp_a (by omega) (by omega)) (?_)))
                    show WP (Call d) 208 P X (49, [some (vr (some 90) 10), some (vi h9), some (vi wh), some (vi s9), some (vi f9), some (vi (g9 + 1))], [], (J0, H), 0, 0)
                    exact ih49 f9 (g9 + 1) (by omega) (by omega) (jv1.trans (fI_sn (p := fun i => μ (200 + i) = h9) (by omega) b62).symm)
                  ·
                    show WP (Call d) 208 P X (63, [some (vr (some 90) 10), some (vi h9), some (vi wh), some (vi s9), some (vi f9), some (vi g9)], [], (J0, H), 0, 0)
                    refine WP.go 5 (Exists.intro (g9 + 1) (And.intro (wrp_a (by omega) (by omega)) (?_)))
                    show WP (Call d) 208 P X (49, [some (vr (some 90) 10), some (vi h9), some (vi wh), some (vi s9), some (vi g9), some (vi (g9 + 1))], [], (J0, H), 0, 0)
                    exact ih49 g9 (g9 + 1) (by omega) (by omega) (fI_sy (p := fun i => μ (200 + i) = h9) (by omega) (fun i q1 q2 q3 => by have := hV.lj i g9 q1 (by omega) (by omega) (by omega) (q3.trans b62.symm); omega) b62).symm
            exact lp49 ((μ 1 - 0 : Int).toNat + 1) (-1) 0 (by omega) (by omega) (fI_nil (by omega)).symm
          ·
            show WP (Call d) 208 P X (31, [some (vr (some 90) 10), some (vi h9), some (vi wh), some (vi s9), some (vi k), none], [], (J0, H), 0, 0)
            refine WP.go 5 (And.intro (And.intro (Nat.le_of_ble_eq_true rfl) (Nat.le_of_ble_eq_true rfl)) (And.intro rfl (?_)))
            show Call d 184 [vr (some 90) 10, vi k, vi 0] (J0, H) _ _
            refine s_12_ofWindow_0 (by omega) hS hM_1 (by omega) ?_
            show WP (Call d) 208 P X (36, [some (vr (some 90) 10), some (vi h9), some (vi wh), some (vi s9), some (vi k), none], [vi (μ (140 + 3 * k)), vi s9], (J0, H), 0, 0)
            refine WP.go 2 (And.intro (fun (b37 : ¬ μ (140 + 3 * k) = h9) => ?_) (fun (b37 : μ (140 + 3 * k) = h9) => ?_))
            ·
              show WP (Call d) 208 P X (40, [some (vr (some 90) 10), some (vi h9), some (vi wh), some (vi s9), some (vi k), none], [vi s9], (J0, H), 0, 0)
              refine WP.go 5 (Exists.intro (s9 + 0) (And.intro (wrp_a (by omega) (by omega)) (Exists.intro (k + 1) (And.intro (wrp_a (by omega) (by omega)) (?_)))))
              show WP (Call d) 208 P X (25, [some (vr (some 90) 10), some (vi h9), some (vi wh), some (vi (s9 + 0)), some (vi (k + 1)), none], [], (J0, H), 0, 0)
              exact ih25 (s9 + 0) (k + 1) (by omega) (by omega) (by rw [sI_succ (by omega), ← iv1, if_neg b37])
            ·
              show WP (Call d) 208 P X (38, [some (vr (some 90) 10), some (vi h9), some (vi wh), some (vi s9), some (vi k), none], [vi s9], (J0, H), 0, 0)
              refine WP.go 6 (Exists.intro (s9 + 1) (And.intro (wrp_a (by omega) (by omega)) (Exists.intro (k + 1) (And.intro (wrp_a (by omega) (by omega)) (?_)))))
              show WP (Call d) 208 P X (25, [some (vr (some 90) 10), some (vi h9), some (vi wh), some (vi (s9 + 1)), some (vi (k + 1)), none], [], (J0, H), 0, 0)
              exact ih25 (s9 + 1) (k + 1) (by omega) (by omega) (by rw [sI_succ (by omega), ← iv1, if_pos b37])
      exact lp25 ((μ 2 - 0 : Int).toNat + 1) 0 0 (by omega) (by omega) (sI_nil (by omega)).symm
    ·
      show WP (Call d) 208 P X (12, [some (vr (some 90) 10), some (vi h9), some (vi wh), none, none, none], [vr (some 90) 10], (I, H), 0, 0)
      have z11 := bz_e0.mp b11
      refine WP.go 6 (And.intro (And.intro rfl trivial) (And.intro rfl (And.intro (fun (b18 : ¬ 0 < 2) => (absurd b18 (by omega))) (fun (b18 : 0 < 2) => ?_))))
      show WP (Call d) 208 P X (19, [some (vr (some 90) 10), some (vi h9), some (vi wh), none, none, none], [], ((upI I 90 0 2), H), 0, 0)
      refine WP.go 2 (And.intro (And.intro (Nat.le_of_ble_eq_true rfl) (Nat.le_of_ble_eq_true rfl)) (And.intro trivial (?_)))
      show P (some (vi 0)) ((upI I 90 0 2), H)
      exact hk2 (by omega) _ 0 (.inl rfl) (MF.th hK _) (upI_same _ _ _ _)
  ·
    show WP (Call d) 208 P X (5, [some (vr (some 90) 10), some (vi h9), some (vi wh), none, none, none], [vr (some 90) 10], (I, H), 0, 0)
    have z4 := bz_e0.mp b4
    refine WP.go 6 (And.intro (And.intro rfl trivial) (And.intro rfl (And.intro (fun (b18 : ¬ 0 < 1) => (absurd b18 (by omega))) (fun (b18 : 0 < 1) => ?_))))
    show WP (Call d) 208 P X (19, [some (vr (some 90) 10), some (vi h9), some (vi wh), none, none, none], [], ((upI I 90 0 1), H), 0, 0)
    refine WP.go 2 (And.intro (And.intro (Nat.le_of_ble_eq_true rfl) (Nat.le_of_ble_eq_true rfl)) (And.intro trivial (?_)))
    show P (some (vi 0)) ((upI I 90 0 1), H)
    exact hk1 (by omega) _ 0 (.inl rfl) (MF.th hK _) (upI_same _ _ _ _)

theorem s_12_broken {d : Nat} {P : Option qV → qH → Prop} {X : Nat → qH → Prop} {I : qI} {H : qS} {μ : Int → Int} (hd : 4 ≤ d) {k : Int} (hS : Shp H) (hM : I 91 = μ) (hV : IM μ) (hK : MS I) (hk1 : (¬ ((0 ≤ k ∧ k < μ 5))) → ∀ (J : qI) (v : Int), (v = 0 ∨ v = 1) → MF I J → J 90 0 = 1 → P (some (vi v)) (J, H)) (h : ((0 ≤ k ∧ k < μ 5)) → ∀ J : qI, MF I J → J 90 0 = 0 → P (some (vi (fI (fun y => ¬ LITp μ (AN μ) (HT μ) (μ (394 + 3 * k)) 6 y) (μ (395 + 3 * k)) (μ (396 + 3 * k) + 1)))) (J, H)) :
    Call d 234 [vr (some 90) 10, vi k] (I, H) P X := by
  obtain ⟨d, rfl⟩ : ∃ e, d = e + 1 := ⟨d - 1, by omega⟩
  have hl91 := hS.l91
  obtain ⟨tb, h30⟩ : ∃ tb, I 90 30 = tb := ⟨_, rfl⟩
  obtain ⟨mo, h23⟩ : ∃ mo, I 90 23 = mo := ⟨_, rfl⟩
  have htb : 0 ≤ tb ∧ tb ≤ 29 := by have := hK.2.2.2; omega
  have hmo : (-1 : Int) = -1 ∨ (0 ≤ mo ∧ mo ≤ 48) := .inl rfl
  have h22 := hK.1
  have h29 := hK.2.1
  have v0 := hV.n5
  show WP (Call d) 234 P X (0, [some (vr (some 90) 10), some (vi k), none, none], [], (I, H), 0, 0)
  refine WP.go 7 (And.intro rfl (Exists.intro 91 (And.intro hS.r90_1 (And.intro (And.intro rfl (And.intro (show 0 ≤ 5 from by omega) (show 5 < H.2.1 91 from by omega))) (?_)))))
  refine rw_i (Q := fun x9 => WP (Call d) 234 P X (7, [some (vr (some 90) 10), some (vi k), none, none], [vi x9, vi 0, vi k, vr (some 90) 10], (I, H), 0, 0)) (congrFun hM _) ?_
  show WP (Call d) 234 P X (7, [some (vr (some 90) 10), some (vi k), none, none], [vi (μ 5), vi 0, vi k, vr (some 90) 10], (I, H), 0, 0)
  refine WP.go 3 (Exists.intro ((μ 5) - 1) (And.intro (wrp_a (by omega) (by omega)) (And.intro (And.intro (Nat.le_of_ble_eq_true rfl) (Nat.le_of_ble_eq_true rfl)) (And.intro rfl (?_)))))
  show Call d 177 [vi k, vi 0, vi ((μ 5) - 1)] (I, H) _ _
  refine s_12_isIn (by omega)  ?_
  show WP (Call d) 234 P X (10, [some (vr (some 90) 10), some (vi k), none, none], [vi (bz (0 ≤ k ∧ k ≤ ((μ 5) - 1))), vr (some 90) 10], (I, H), 0, 0)
  refine WP.go 1 (And.intro (fun (b10 : ¬ bz (0 ≤ k ∧ k ≤ ((μ 5) - 1)) = 0) => ?_) (fun (b10 : bz (0 ≤ k ∧ k ≤ ((μ 5) - 1)) = 0) => ?_))
  ·
    show WP (Call d) 234 P X (13, [some (vr (some 90) 10), some (vi k), none, none], [vr (some 90) 10], (I, H), 0, 0)
    have z10 := bz_e1.mp b10
    refine WP.go 5 (And.intro (And.intro rfl trivial) (And.intro rfl (And.intro (fun (b17 : ¬ 0 < 0) => ?_) (fun (b17 : 0 < 0) => (absurd b17 (by omega))))))
    show WP (Call d) 234 P X (20, [some (vr (some 90) 10), some (vi k), none, none], [], ((upI I 90 0 0), H), 0, 0)
    generalize hq_J0 : (upI I 90 0 0) = J0
    have e_J0 : J0 90 = (fun j => if j = 0 then 0 else I 90 j) := by rw [← hq_J0]; exact upI_self _ _ _ _
    have f_J0 : ∀ a, a ≠ 90 → J0 a = I a := fun a q => by rw [← hq_J0]; exact upI_cell q
    have hmf : MF I J0 := MF.t0 hK e_J0 f_J0
    have hth : J0 90 0 = 0 := by rw [e_J0]; rfl
    have hM_1 : J0 91 = μ := (f_J0 91 (by omega)).trans hM
    have h_2 : J0 90 22 = -1 := by rw [e_J0]; exact h22
    have h_3 : J0 90 23 = mo := by rw [e_J0]; exact h23
    have h_4 : J0 90 29 = -1 := by rw [e_J0]; exact h29
    have h_5 : J0 90 30 = tb := by rw [e_J0]; exact h30
    refine WP.go 2 (And.intro (And.intro (Nat.le_of_ble_eq_true rfl) (Nat.le_of_ble_eq_true rfl)) (And.intro rfl (?_)))
    show Call d 210 [vr (some 90) 10] (J0, H) _ _
    refine s_12_turn (by omega) hS hM_1 hV h_2 h_3 hmo (fun J21 e21 f21 => ?_)
    show WP (Call d) 234 P X (22, [some (vr (some 90) 10), some (vi k), none, none], [], (J21, H), 0, 0)
    have hM_6 : J21 91 = μ := (f21 91 (by omega)).trans hM_1
    have h_7 : J21 90 22 = -1 := (congrFun (f21 90 (by omega)) 22).trans h_2
    have h_8 : J21 90 23 = mo := (congrFun (f21 90 (by omega)) 23).trans h_3
    have h_9 : J21 90 29 = -1 := (congrFun (f21 90 (by omega)) 29).trans h_4
    have h_10 : J21 90 30 = tb := (congrFun (f21 90 (by omega)) 30).trans h_5
    have hA_11 : ∀ y, 0 ≤ y → y < 100 → 0 ≤ J21 96 y ∧ J21 96 y < 96 := fun y q1 q2 => by rw [e21 y q1 q2]; exact ANG_bd hV _ _ _
    have eA : ∀ y, 0 ≤ y → y < 100 → J21 96 y = AN μ y := fun y q1 q2 => (e21 y q1 q2).trans (ANG_irr (by omega) _ _ _)
    have hmf_12 : MF I J21 := hmf.tu f21
    have hth_13 : J21 90 0 = 0 := (congrFun (f21 90 (by omega)) 0).trans hth
    have v1 := hV.pw k (by omega) (by omega)
    have v2 := hV.py k (by omega) (by omega)
    have hcg : fI (fun y => ¬ LITp μ (J21 96) (HTC μ (-1) tb) (μ (394 + 3 * k)) 6 y) (μ (395 + 3 * k)) (μ (396 + 3 * k) + 1) = fI (fun y => ¬ LITp μ (AN μ) (HT μ) (μ (394 + 3 * k)) 6 y) (μ (395 + 3 * k)) (μ (396 + 3 * k) + 1) := fI_congr (fun i q1 q2 => not_congr (LITp_congr (eA i (by omega) (by omega)) (HT_i hV tb)))
    refine WP.go 12 (Exists.intro (3 * k) (And.intro (wrp_a (by omega) (by omega)) (Exists.intro (394 + (3 * k)) (And.intro (wrp_a (by omega) (by omega)) (And.intro rfl (Exists.intro 91 (And.intro hS.r90_1 (Exists.intro ((394 + (3 * k)) + 1) (And.intro (wrp_a (by omega) (by omega)) (And.intro (And.intro rfl (And.intro (show 0 ≤ (394 + (3 * k)) + 1 from by omega) (show (394 + (3 * k)) + 1 < H.2.1 91 from by omega))) (?_)))))))))))
    refine rw_i (Q := fun x9 => WP (Call d) 234 P X (34, [some (vr (some 90) 10), some (vi k), some (vi (394 + (3 * k))), none], [vi x9], (J21, H), 0, 0)) (show J21 91 ((394 + (3 * k)) + 1) = μ (395 + 3 * k) from (congrFun hM_6 _).trans (congrArg μ (by omega))) ?_
    show WP (Call d) 234 P X (34, [some (vr (some 90) 10), some (vi k), some (vi (394 + (3 * k))), none], [vi (μ (395 + 3 * k))], (J21, H), 0, 0)
    refine WP.go 1 ?_
    show WP (Call d) 234 P X (35, [some (vr (some 90) 10), some (vi k), some (vi (394 + (3 * k))), some (vi (μ (395 + 3 * k)))], [], (J21, H), 0, 0)
    have lp35 : ∀ (n9 : Nat) (y : Int) (hm : μ (396 + 3 * k) + 1 - y < (n9 : Int)) (iv0 : μ (395 + 3 * k) ≤ y ∧ y ≤ μ (396 + 3 * k) + 1) (iv1 : fI (fun y => ¬ LITp μ (J21 96) (HTC μ (-1) tb) (μ (394 + 3 * k)) 6 y) (μ (395 + 3 * k)) (μ (396 + 3 * k) + 1) = fI (fun y => ¬ LITp μ (J21 96) (HTC μ (-1) tb) (μ (394 + 3 * k)) 6 y) y (μ (396 + 3 * k) + 1)), WP (Call d) 234 P X (35, [some (vr (some 90) 10), some (vi k), some (vi (394 + (3 * k))), some (vi y)], [], (J21, H), 0, 0) := by
      intro n9
      induction n9 with
      | zero => intro y hm iv0 iv1; exact absurd hm (by omega)
      | succ n9 ih35 =>
        intro y hm iv0 iv1
        refine WP.go 7 (And.intro rfl (Exists.intro 91 (And.intro hS.r90_1 (Exists.intro ((394 + (3 * k)) + 2) (And.intro (wrp_a (by omega) (by omega)) (And.intro (And.intro rfl (And.intro (show 0 ≤ (394 + (3 * k)) + 2 from by omega) (show (394 + (3 * k)) + 2 < H.2.1 91 from by omega))) (?_)))))))
        refine rw_i (Q := fun x9 => WP (Call d) 234 P X (42, [some (vr (some 90) 10), some (vi k), some (vi (394 + (3 * k))), some (vi y)], [vi x9, vi y], (J21, H), 0, 0)) (show J21 91 ((394 + (3 * k)) + 2) = μ (396 + 3 * k) from (congrFun hM_6 _).trans (congrArg μ (by omega))) ?_
        show WP (Call d) 234 P X (42, [some (vr (some 90) 10), some (vi k), some (vi (394 + (3 * k))), some (vi y)], [vi (μ (396 + 3 * k)), vi y], (J21, H), 0, 0)
        refine WP.go 1 (And.intro (fun (b42 : μ (396 + 3 * k) < y) => ?_) (fun (b42 : ¬ μ (396 + 3 * k) < y) => ?_))
        ·
          show WP (Call d) 234 P X (56, [some (vr (some 90) 10), some (vi k), some (vi (394 + (3 * k))), some (vi y)], [], (J21, H), 0, 0)
          refine WP.go 2 (And.intro (And.intro (Nat.le_of_ble_eq_true rfl) (Nat.le_of_ble_eq_true rfl)) (And.intro trivial (?_)))
          show P (some (vi (-1))) (J21, H)
          exact fin_i ((hcg.symm.trans (iv1.trans (fI_nil (by omega)))).symm) (h (by omega) _ hmf_12 hth_13)
        ·
          show WP (Call d) 234 P X (43, [some (vr (some 90) 10), some (vi k), some (vi (394 + (3 * k))), some (vi y)], [], (J21, H), 0, 0)
          refine WP.go 5 (And.intro rfl (Exists.intro 91 (And.intro hS.r90_1 (And.intro (And.intro rfl (And.intro (show 0 ≤ 394 + (3 * k) from by omega) (show 394 + (3 * k) < H.2.1 91 from by omega))) (?_)))))
          refine rw_i (Q := fun x9 => WP (Call d) 234 P X (48, [some (vr (some 90) 10), some (vi k), some (vi (394 + (3 * k))), some (vi y)], [vi x9, vr (some 90) 10], (J21, H), 0, 0)) (show J21 91 (394 + (3 * k)) = μ (394 + 3 * k) from (congrFun hM_6 _).trans (congrArg μ (by omega))) ?_
          show WP (Call d) 234 P X (48, [some (vr (some 90) 10), some (vi k), some (vi (394 + (3 * k))), some (vi y)], [vi (μ (394 + 3 * k)), vr (some 90) 10], (J21, H), 0, 0)
          refine WP.go 3 (And.intro (And.intro (Nat.le_of_ble_eq_true rfl) (Nat.le_of_ble_eq_true rfl)) (And.intro rfl (?_)))
          show Call d 218 [vr (some 90) 10, vi (μ (394 + 3 * k)), vi 6, vi y] (J21, H) _ _
          refine s_12_isLit (by omega) hS hM_6 hV hA_11 h_9 h_10 htb (by omega) (by omega) (by omega) ?_
          show WP (Call d) 234 P X (51, [some (vr (some 90) 10), some (vi k), some (vi (394 + (3 * k))), some (vi y)], [vi (bz (LITp μ (J21 96) (HTC μ (-1) tb) (μ (394 + 3 * k)) 6 y))], (J21, H), 0, 0)
          refine WP.go 1 (And.intro (fun (b51 : ¬ bz (LITp μ (J21 96) (HTC μ (-1) tb) (μ (394 + 3 * k)) 6 y) = 0) => ?_) (fun (b51 : bz (LITp μ (J21 96) (HTC μ (-1) tb) (μ (394 + 3 * k)) 6 y) = 0) => ?_))
          ·
            show WP (Call d) 234 P X (54, [some (vr (some 90) 10), some (vi k), some (vi (394 + (3 * k))), some (vi y)], [], (J21, H), 0, 0)
            have z51 := bz_e1.mp b51
            refine WP.go 2 (Exists.intro (y + 1) (And.intro (wrp_a (by omega) (by omega)) (?_)))
            show WP (Call d) 234 P X (35, [some (vr (some 90) 10), some (vi k), some (vi (394 + (3 * k))), some (vi (y + 1))], [], (J21, H), 0, 0)
            exact ih35 (y + 1) (by omega) (by omega) (iv1.trans (fI_n (by omega) (fun z => z (bz_e1.mp b51))))
          ·
            show WP (Call d) 234 P X (52, [some (vr (some 90) 10), some (vi k), some (vi (394 + (3 * k))), some (vi y)], [], (J21, H), 0, 0)
            have z51 := bz_e0.mp b51
            refine WP.go 2 (And.intro (And.intro (Nat.le_of_ble_eq_true rfl) (Nat.le_of_ble_eq_true rfl)) (And.intro trivial (?_)))
            show P (some (vi y)) (J21, H)
            exact fin_i ((hcg.symm.trans (iv1.trans (fI_s (by omega) (bz_e0.mp b51)))).symm) (h (by omega) _ hmf_12 hth_13)
    exact lp35 ((μ (396 + 3 * k) + 1 - (μ (395 + 3 * k)) : Int).toNat + 1) (μ (395 + 3 * k)) (by omega) (by omega) rfl
  ·
    show WP (Call d) 234 P X (11, [some (vr (some 90) 10), some (vi k), none, none], [vr (some 90) 10], (I, H), 0, 0)
    have z10 := bz_e0.mp b10
    refine WP.go 6 (And.intro (And.intro rfl trivial) (And.intro rfl (And.intro (fun (b17 : ¬ 0 < 1) => (absurd b17 (by omega))) (fun (b17 : 0 < 1) => ?_))))
    show WP (Call d) 234 P X (18, [some (vr (some 90) 10), some (vi k), none, none], [], ((upI I 90 0 1), H), 0, 0)
    refine WP.go 2 (And.intro (And.intro (Nat.le_of_ble_eq_true rfl) (Nat.le_of_ble_eq_true rfl)) (And.intro trivial (?_)))
    show P (some (vi 0)) ((upI I 90 0 1), H)
    exact hk1 (by omega) _ 0 (.inl rfl) (MF.th hK _) (upI_same _ _ _ _)

theorem s_12_twice {d : Nat} {P : Option qV → qH → Prop} {X : Nat → qH → Prop} {I : qI} {H : qS} {μ : Int → Int} (hd : 2 ≤ d) (hS : Shp H) (hM : I 91 = μ) (hV : IM μ) (hK : MS I) (h : ∀ J : qI, MF I J → J 90 0 = 0 → P (some (vi (TWI μ))) (J, H)) :
    Call d 235 [vr (some 90) 10] (I, H) P X := by
  obtain ⟨d, rfl⟩ : ∃ e, d = e + 1 := ⟨d - 1, by omega⟩
  have hl91 := hS.l91
  obtain ⟨tb, h30⟩ : ∃ tb, I 90 30 = tb := ⟨_, rfl⟩
  obtain ⟨mo, h23⟩ : ∃ mo, I 90 23 = mo := ⟨_, rfl⟩
  have htb : 0 ≤ tb ∧ tb ≤ 29 := by have := hK.2.2.2; omega
  have hmo : (-1 : Int) = -1 ∨ (0 ≤ mo ∧ mo ≤ 48) := .inl rfl
  have h22 := hK.1
  have h29 := hK.2.1
  have v1 := hV.n5
  have v2 := hV.n2
  show WP (Call d) 235 P X (0, [some (vr (some 90) 10), none, none, none, none, none], [], (I, H), 0, 0)
  refine WP.go 3 (And.intro (And.intro rfl trivial) (?_))
  show WP (Call d) 235 P X (3, [some (vr (some 90) 10), none, none, none, none, none], [], ((upI I 90 0 0), H), 0, 0)
  generalize hq_J0 : (upI I 90 0 0) = J0
  have e_J0 : J0 90 = (fun j => if j = 0 then 0 else I 90 j) := by rw [← hq_J0]; exact upI_self _ _ _ _
  have f_J0 : ∀ a, a ≠ 90 → J0 a = I a := fun a q => by rw [← hq_J0]; exact upI_cell q
  have hmf : MF I J0 := MF.t0 hK e_J0 f_J0
  have hth : J0 90 0 = 0 := by rw [e_J0]; rfl
  have hM_1 : J0 91 = μ := (f_J0 91 (by omega)).trans hM
  have h_2 : J0 90 22 = -1 := by rw [e_J0]; exact h22
  have h_3 : J0 90 23 = mo := by rw [e_J0]; exact h23
  have h_4 : J0 90 29 = -1 := by rw [e_J0]; exact h29
  have h_5 : J0 90 30 = tb := by rw [e_J0]; exact h30
  refine WP.go 4 ?_
  show WP (Call d) 235 P X (7, [some (vr (some 90) 10), some (vi 0), some (vi 0), none, none, none], [], (J0, H), 0, 0)
  have lp7 : ∀ (n9 : Nat) (s9 : Int) (k9 : Int) (hm : 20 - k9 < (n9 : Int)) (iv0 : 0 ≤ k9 ∧ k9 ≤ μ 5) (iv1 : s9 = sI (fun k => sI (fun i => bz (TWp μ i k)) 0 k) 0 k9), WP (Call d) 235 P X (7, [some (vr (some 90) 10), some (vi s9), some (vi k9), none, none, none], [], (J0, H), 0, 0) := by
    intro n9
    induction n9 with
    | zero => intro s9 k9 hm iv0 iv1; exact absurd hm (by omega)
    | succ n9 ih7 =>
      intro s9 k9 hm iv0 iv1
      have m1 := TWs_bd (μ := μ) (m := k9) (by omega) (by omega)
      refine WP.go 5 (And.intro rfl (Exists.intro 91 (And.intro hS.r90_1 (And.intro (And.intro rfl (And.intro (show 0 ≤ 5 from by omega) (show 5 < H.2.1 91 from by omega))) (?_)))))
      refine rw_i (Q := fun x9 => WP (Call d) 235 P X (12, [some (vr (some 90) 10), some (vi s9), some (vi k9), none, none, none], [vi x9, vi k9], (J0, H), 0, 0)) (congrFun hM_1 _) ?_
      show WP (Call d) 235 P X (12, [some (vr (some 90) 10), some (vi s9), some (vi k9), none, none, none], [vi (μ 5), vi k9], (J0, H), 0, 0)
      refine WP.go 1 (And.intro (fun (b12 : ¬ k9 < μ 5) => ?_) (fun (b12 : k9 < μ 5) => ?_))
      ·
        show WP (Call d) 235 P X (81, [some (vr (some 90) 10), some (vi s9), some (vi k9), none, none, none], [], (J0, H), 0, 0)
        refine WP.go 2 (And.intro (And.intro (Nat.le_of_ble_eq_true rfl) (Nat.le_of_ble_eq_true rfl)) (And.intro trivial (?_)))
        show P (some (vi s9)) (J0, H)
        exact fin_i (by unfold TWI; rw [iv1, show k9 = μ 5 by omega]) (h _ hmf hth)
      ·
        show WP (Call d) 235 P X (13, [some (vr (some 90) 10), some (vi s9), some (vi k9), none, none, none], [], (J0, H), 0, 0)
        refine WP.go 2 ?_
        show WP (Call d) 235 P X (15, [some (vr (some 90) 10), some (vi s9), some (vi k9), some (vi 0), none, none], [], (J0, H), 0, 0)
        have lp15 : ∀ (n9 : Nat) (t9 : Int) (a9 : Int) (hm : k9 - a9 < (n9 : Int)) (jv0 : 0 ≤ a9 ∧ a9 ≤ k9 ∧ k9 < μ 5) (jv1 : t9 = s9 + sI (fun i => bz (TWp μ i k9)) 0 a9), WP (Call d) 235 P X (15, [some (vr (some 90) 10), some (vi t9), some (vi k9), some (vi a9), none, none], [], (J0, H), 0, 0) := by
          intro n9
          induction n9 with
          | zero => intro t9 a9 hm jv0 jv1; exact absurd hm (by omega)
          | succ n9 ih15 =>
            intro t9 a9 hm jv0 jv1
            have m2 := TW_bd (μ := μ) (k := k9) (m := a9) (by omega) (by omega)
            have w1 := hV.pw k9 (by omega) (by omega)
            refine WP.go 3 (And.intro (fun (b17 : ¬ a9 < k9) => ?_) (fun (b17 : a9 < k9) => ?_))
            ·
              show WP (Call d) 235 P X (79, [some (vr (some 90) 10), some (vi t9), some (vi k9), some (vi a9), none, none], [], (J0, H), 0, 0)
              refine WP.go 2 (Exists.intro (k9 + 1) (And.intro (wrp_a (by omega) (by omega)) (?_)))
              show WP (Call d) 235 P X (7, [some (vr (some 90) 10), some (vi t9), some (vi (k9 + 1)), some (vi a9), none, none], [], (J0, H), 0, 0)
              refine WP.wk (L := [some (vr (some 90) 10), some (vi t9), some (vi (k9 + 1)), none, none, none]) (And.intro rfl (And.intro rfl (And.intro rfl (And.intro trivial (And.intro trivial (And.intro trivial (trivial))))))) ?_
              show WP (Call d) 235 P X (7, [some (vr (some 90) 10), some (vi t9), some (vi (k9 + 1)), none, none, none], [], (J0, H), 0, 0)
              exact ih7 t9 (k9 + 1) (by omega) (by omega) (by rw [sI_succ (by omega), jv1, ← iv1, show a9 = k9 by omega])
            ·
              show WP (Call d) 235 P X (18, [some (vr (some 90) 10), some (vi t9), some (vi k9), some (vi a9), none, none], [], (J0, H), 0, 0)
              have w2 := hV.pw a9 (by omega) (by omega)
              refine WP.go 18 (Exists.intro (3 * k9) (And.intro (wrp_a (by omega) (by omega)) (Exists.intro (394 + (3 * k9)) (And.intro (wrp_a (by omega) (by omega)) (Exists.intro (3 * a9) (And.intro (wrp_a (by omega) (by omega)) (Exists.intro (394 + (3 * a9)) (And.intro (wrp_a (by omega) (by omega)) (And.intro rfl (Exists.intro 91 (And.intro hS.r90_1 (And.intro (And.intro rfl (And.intro (show 0 ≤ 394 + (3 * k9) from by omega) (show 394 + (3 * k9) < H.2.1 91 from by omega))) (?_)))))))))))))
              refine rw_i (Q := fun x9 => WP (Call d) 235 P X (36, [some (vr (some 90) 10), some (vi t9), some (vi k9), some (vi a9), some (vi (394 + (3 * k9))), some (vi (394 + (3 * a9)))], [vi x9, vr (some 90) 10, vi t9], (J0, H), 0, 0)) (show J0 91 (394 + (3 * k9)) = μ (394 + 3 * k9) from (congrFun hM_1 _).trans (congrArg μ (by omega))) ?_
              show WP (Call d) 235 P X (36, [some (vr (some 90) 10), some (vi t9), some (vi k9), some (vi a9), some (vi (394 + (3 * k9))), some (vi (394 + (3 * a9)))], [vi (μ (394 + 3 * k9)), vr (some 90) 10, vi t9], (J0, H), 0, 0)
              refine WP.go 2 (And.intro (And.intro (Nat.le_of_ble_eq_true rfl) (Nat.le_of_ble_eq_true rfl)) (And.intro rfl (?_)))
              show Call d 184 [vr (some 90) 10, vi (μ (394 + 3 * k9)), vi 0] (J0, H) _ _
              refine s_12_ofWindow_0 (by omega) hS hM_1 (by omega) ?_
              show WP (Call d) 235 P X (38, [some (vr (some 90) 10), some (vi t9), some (vi k9), some (vi a9), some (vi (394 + (3 * k9))), some (vi (394 + (3 * a9)))], [vi (μ (140 + 3 * (μ (394 + 3 * k9)))), vi t9], (J0, H), 0, 0)
              refine WP.go 5 (And.intro rfl (Exists.intro 91 (And.intro hS.r90_1 (And.intro (And.intro rfl (And.intro (show 0 ≤ 394 + (3 * a9) from by omega) (show 394 + (3 * a9) < H.2.1 91 from by omega))) (?_)))))
              refine rw_i (Q := fun x9 => WP (Call d) 235 P X (43, [some (vr (some 90) 10), some (vi t9), some (vi k9), some (vi a9), some (vi (394 + (3 * k9))), some (vi (394 + (3 * a9)))], [vi x9, vr (some 90) 10, vi (μ (140 + 3 * (μ (394 + 3 * k9)))), vi t9], (J0, H), 0, 0)) (show J0 91 (394 + (3 * a9)) = μ (394 + 3 * a9) from (congrFun hM_1 _).trans (congrArg μ (by omega))) ?_
              show WP (Call d) 235 P X (43, [some (vr (some 90) 10), some (vi t9), some (vi k9), some (vi a9), some (vi (394 + (3 * k9))), some (vi (394 + (3 * a9)))], [vi (μ (394 + 3 * a9)), vr (some 90) 10, vi (μ (140 + 3 * (μ (394 + 3 * k9)))), vi t9], (J0, H), 0, 0)
              refine WP.go 2 (And.intro (And.intro (Nat.le_of_ble_eq_true rfl) (Nat.le_of_ble_eq_true rfl)) (And.intro rfl (?_)))
              show Call d 184 [vr (some 90) 10, vi (μ (394 + 3 * a9)), vi 0] (J0, H) _ _
              refine s_12_ofWindow_0 (by omega) hS hM_1 (by omega) ?_
              show WP (Call d) 235 P X (45, [some (vr (some 90) 10), some (vi t9), some (vi k9), some (vi a9), some (vi (394 + (3 * k9))), some (vi (394 + (3 * a9)))], [vi (μ (140 + 3 * (μ (394 + 3 * a9)))), vi (μ (140 + 3 * (μ (394 + 3 * k9)))), vi t9], (J0, H), 0, 0)
              refine WP.go 1 (And.intro (fun (b45 : ¬ μ (140 + 3 * (μ (394 + 3 * k9))) = μ (140 + 3 * (μ (394 + 3 * a9)))) => ?_) (fun (b45 : μ (140 + 3 * (μ (394 + 3 * k9))) = μ (140 + 3 * (μ (394 + 3 * a9)))) => ?_))
              ·
                show WP (Call d) 235 P X (74, [some (vr (some 90) 10), some (vi t9), some (vi k9), some (vi a9), some (vi (394 + (3 * k9))), some (vi (394 + (3 * a9)))], [vi t9], (J0, H), 0, 0)
                refine WP.go 5 (Exists.intro (t9 + 0) (And.intro (wrp_a (by omega) (by omega)) (Exists.intro (a9 + 1) (And.intro (wrp_a (by omega) (by omega)) (?_)))))
                show WP (Call d) 235 P X (15, [some (vr (some 90) 10), some (vi (t9 + 0)), some (vi k9), some (vi (a9 + 1)), some (vi (394 + (3 * k9))), some (vi (394 + (3 * a9)))], [], (J0, H), 0, 0)
                refine WP.wk (L := [some (vr (some 90) 10), some (vi (t9 + 0)), some (vi k9), some (vi (a9 + 1)), none, none]) (And.intro rfl (And.intro rfl (And.intro rfl (And.intro rfl (And.intro trivial (And.intro trivial (trivial))))))) ?_
                show WP (Call d) 235 P X (15, [some (vr (some 90) 10), some (vi (t9 + 0)), some (vi k9), some (vi (a9 + 1)), none, none], [], (J0, H), 0, 0)
                exact ih15 (t9 + 0) (a9 + 1) (by omega) (by omega) (by rw [sI_succ (by omega), bz_0 (fun z => b45 z.1.symm)]; omega)
              ·
                show WP (Call d) 235 P X (46, [some (vr (some 90) 10), some (vi t9), some (vi k9), some (vi a9), some (vi (394 + (3 * k9))), some (vi (394 + (3 * a9)))], [vi t9], (J0, H), 0, 0)
                refine WP.go 6 (And.intro rfl (Exists.intro 91 (And.intro hS.r90_1 (Exists.intro ((394 + (3 * k9)) + 1) (And.intro (wrp_a (by omega) (by omega)) (And.intro (And.intro rfl (And.intro (show 0 ≤ (394 + (3 * k9)) + 1 from by omega) (show (394 + (3 * k9)) + 1 < H.2.1 91 from by omega))) (?_)))))))
                refine rw_i (Q := fun x9 => WP (Call d) 235 P X (52, [some (vr (some 90) 10), some (vi t9), some (vi k9), some (vi a9), some (vi (394 + (3 * k9))), some (vi (394 + (3 * a9)))], [vi x9, vi t9], (J0, H), 0, 0)) (show J0 91 ((394 + (3 * k9)) + 1) = μ (395 + 3 * k9) from (congrFun hM_1 _).trans (congrArg μ (by omega))) ?_
                show WP (Call d) 235 P X (52, [some (vr (some 90) 10), some (vi t9), some (vi k9), some (vi a9), some (vi (394 + (3 * k9))), some (vi (394 + (3 * a9)))], [vi (μ (395 + 3 * k9)), vi t9], (J0, H), 0, 0)
                refine WP.go 6 (And.intro rfl (Exists.intro 91 (And.intro hS.r90_1 (Exists.intro ((394 + (3 * a9)) + 2) (And.intro (wrp_a (by omega) (by omega)) (And.intro (And.intro rfl (And.intro (show 0 ≤ (394 + (3 * a9)) + 2 from by omega) (show (394 + (3 * a9)) + 2 < H.2.1 91 from by omega))) (?_)))))))
                refine rw_i (Q := fun x9 => WP (Call d) 235 P X (58, [some (vr (some 90) 10), some (vi t9), some (vi k9), some (vi a9), some (vi (394 + (3 * k9))), some (vi (394 + (3 * a9)))], [vi x9, vi (μ (395 + 3 * k9)), vi t9], (J0, H), 0, 0)) (show J0 91 ((394 + (3 * a9)) + 2) = μ (396 + 3 * a9) from (congrFun hM_1 _).trans (congrArg μ (by omega))) ?_
                show WP (Call d) 235 P X (58, [some (vr (some 90) 10), some (vi t9), some (vi k9), some (vi a9), some (vi (394 + (3 * k9))), some (vi (394 + (3 * a9)))], [vi (μ (396 + 3 * a9)), vi (μ (395 + 3 * k9)), vi t9], (J0, H), 0, 0)
                refine WP.go 1 (And.intro (fun (b58 : μ (396 + 3 * a9) < μ (395 + 3 * k9)) => ?_) (fun (b58 : ¬ μ (396 + 3 * a9) < μ (395 + 3 * k9)) => ?_))
                ·
                  show WP (Call d) 235 P X (74, [some (vr (some 90) 10), some (vi t9), some (vi k9), some (vi a9), some (vi (394 + (3 * k9))), some (vi (394 + (3 * a9)))], [vi t9], (J0, H), 0, 0)
                  refine WP.go 5 (Exists.intro (t9 + 0) (And.intro (wrp_a (by omega) (by omega)) (Exists.intro (a9 + 1) (And.intro (wrp_a (by omega) (by omega)) (?_)))))
                  show WP (Call d) 235 P X (15, [some (vr (some 90) 10), some (vi (t9 + 0)), some (vi k9), some (vi (a9 + 1)), some (vi (394 + (3 * k9))), some (vi (394 + (3 * a9)))], [], (J0, H), 0, 0)
                  refine WP.wk (L := [some (vr (some 90) 10), some (vi (t9 + 0)), some (vi k9), some (vi (a9 + 1)), none, none]) (And.intro rfl (And.intro rfl (And.intro rfl (And.intro rfl (And.intro trivial (And.intro trivial (trivial))))))) ?_
                  show WP (Call d) 235 P X (15, [some (vr (some 90) 10), some (vi (t9 + 0)), some (vi k9), some (vi (a9 + 1)), none, none], [], (J0, H), 0, 0)
                  exact ih15 (t9 + 0) (a9 + 1) (by omega) (by omega) (by rw [sI_succ (by omega), bz_0 (fun z => by have := z.2.2; omega)]; omega)
                ·
                  show WP (Call d) 235 P X (59, [some (vr (some 90) 10), some (vi t9), some (vi k9), some (vi a9), some (vi (394 + (3 * k9))), some (vi (394 + (3 * a9)))], [vi t9], (J0, H), 0, 0)
                  refine WP.go 6 (And.intro rfl (Exists.intro 91 (And.intro hS.r90_1 (Exists.intro ((394 + (3 * a9)) + 1) (And.intro (wrp_a (by omega) (by omega)) (And.intro (And.intro rfl (And.intro (show 0 ≤ (394 + (3 * a9)) + 1 from by omega) (show (394 + (3 * a9)) + 1 < H.2.1 91 from by omega))) (?_)))))))
                  refine rw_i (Q := fun x9 => WP (Call d) 235 P X (65, [some (vr (some 90) 10), some (vi t9), some (vi k9), some (vi a9), some (vi (394 + (3 * k9))), some (vi (394 + (3 * a9)))], [vi x9, vi t9], (J0, H), 0, 0)) (show J0 91 ((394 + (3 * a9)) + 1) = μ (395 + 3 * a9) from (congrFun hM_1 _).trans (congrArg μ (by omega))) ?_
                  show WP (Call d) 235 P X (65, [some (vr (some 90) 10), some (vi t9), some (vi k9), some (vi a9), some (vi (394 + (3 * k9))), some (vi (394 + (3 * a9)))], [vi (μ (395 + 3 * a9)), vi t9], (J0, H), 0, 0)
                  refine WP.go 6 (And.intro rfl (Exists.intro 91 (And.intro hS.r90_1 (Exists.intro ((394 + (3 * k9)) + 2) (And.intro (wrp_a (by omega) (by omega)) (And.intro (And.intro rfl (And.intro (show 0 ≤ (394 + (3 * k9)) + 2 from by omega) (show (394 + (3 * k9)) + 2 < H.2.1 91 from by omega))) (?_)))))))
                  refine rw_i (Q := fun x9 => WP (Call d) 235 P X (71, [some (vr (some 90) 10), some (vi t9), some (vi k9), some (vi a9), some (vi (394 + (3 * k9))), some (vi (394 + (3 * a9)))], [vi x9, vi (μ (395 + 3 * a9)), vi t9], (J0, H), 0, 0)) (show J0 91 ((394 + (3 * k9)) + 2) = μ (396 + 3 * k9) from (congrFun hM_1 _).trans (congrArg μ (by omega))) ?_
                  show WP (Call d) 235 P X (71, [some (vr (some 90) 10), some (vi t9), some (vi k9), some (vi a9), some (vi (394 + (3 * k9))), some (vi (394 + (3 * a9)))], [vi (μ (396 + 3 * k9)), vi (μ (395 + 3 * a9)), vi t9], (J0, H), 0, 0)
                  refine WP.go 1 (And.intro (fun (b71 : μ (396 + 3 * k9) < μ (395 + 3 * a9)) => ?_) (fun (b71 : ¬ μ (396 + 3 * k9) < μ (395 + 3 * a9)) => ?_))
                  ·
                    show WP (Call d) 235 P X (74, [some (vr (some 90) 10), some (vi t9), some (vi k9), some (vi a9), some (vi (394 + (3 * k9))), some (vi (394 + (3 * a9)))], [vi t9], (J0, H), 0, 0)
                    refine WP.go 5 (Exists.intro (t9 + 0) (And.intro (wrp_a (by omega) (by omega)) (Exists.intro (a9 + 1) (And.intro (wrp_a (by omega) (by omega)) (?_)))))
                    show WP (Call d) 235 P X (15, [some (vr (some 90) 10), some (vi (t9 + 0)), some (vi k9), some (vi (a9 + 1)), some (vi (394 + (3 * k9))), some (vi (394 + (3 * a9)))], [], (J0, H), 0, 0)
                    refine WP.wk (L := [some (vr (some 90) 10), some (vi (t9 + 0)), some (vi k9), some (vi (a9 + 1)), none, none]) (And.intro rfl (And.intro rfl (And.intro rfl (And.intro rfl (And.intro trivial (And.intro trivial (trivial))))))) ?_
                    show WP (Call d) 235 P X (15, [some (vr (some 90) 10), some (vi (t9 + 0)), some (vi k9), some (vi (a9 + 1)), none, none], [], (J0, H), 0, 0)
                    exact ih15 (t9 + 0) (a9 + 1) (by omega) (by omega) (by rw [sI_succ (by omega), bz_0 (fun z => by have := z.2.1; omega)]; omega)
                  ·
                    show WP (Call d) 235 P X (72, [some (vr (some 90) 10), some (vi t9), some (vi k9), some (vi a9), some (vi (394 + (3 * k9))), some (vi (394 + (3 * a9)))], [vi t9], (J0, H), 0, 0)
                    refine WP.go 6 (Exists.intro (t9 + 1) (And.intro (wrp_a (by omega) (by omega)) (Exists.intro (a9 + 1) (And.intro (wrp_a (by omega) (by omega)) (?_)))))
                    show WP (Call d) 235 P X (15, [some (vr (some 90) 10), some (vi (t9 + 1)), some (vi k9), some (vi (a9 + 1)), some (vi (394 + (3 * k9))), some (vi (394 + (3 * a9)))], [], (J0, H), 0, 0)
                    refine WP.wk (L := [some (vr (some 90) 10), some (vi (t9 + 1)), some (vi k9), some (vi (a9 + 1)), none, none]) (And.intro rfl (And.intro rfl (And.intro rfl (And.intro rfl (And.intro trivial (And.intro trivial (trivial))))))) ?_
                    show WP (Call d) 235 P X (15, [some (vr (some 90) 10), some (vi (t9 + 1)), some (vi k9), some (vi (a9 + 1)), none, none], [], (J0, H), 0, 0)
                    exact ih15 (t9 + 1) (a9 + 1) (by omega) (by omega) (by rw [sI_succ (by omega), bz_1 ⟨b45.symm, by omega, by omega⟩]; omega)
        exact lp15 ((k9 - 0 : Int).toNat + 1) s9 0 (by omega) (by omega) (by rw [sI_nil (by omega)]; omega)
  exact lp7 ((20 - 0 : Int).toNat + 1) 0 0 (by omega) (by omega) (sI_nil (by omega)).symm

theorem s_12_uphill {d : Nat} {P : Option qV → qH → Prop} {X : Nat → qH → Prop} {I : qI} {H : qS} {μ : Int → Int} (hd : 4 ≤ d) {k v : Int} (hS : Shp H) (hM : I 91 = μ) (hV : IM μ) (hK : MS I) (hk1 : (¬ ((0 ≤ k ∧ k < μ 6))) → ∀ (J : qI) (v : Int), (v = 0 ∨ v = 1) → MF I J → J 90 0 = 1 → P (some (vi v)) (J, H)) (h : ((0 ≤ k ∧ k < μ 6)) → ∀ J : qI, MF I J → J 90 0 = 0 → P (some (vi (UPH μ (AN μ) k v))) (J, H)) :
    Call d 240 [vr (some 90) 10, vi k, vi v] (I, H) P X := by
  obtain ⟨d, rfl⟩ : ∃ e, d = e + 1 := ⟨d - 1, by omega⟩
  have hl91 := hS.l91
  obtain ⟨tb, h30⟩ : ∃ tb, I 90 30 = tb := ⟨_, rfl⟩
  obtain ⟨mo, h23⟩ : ∃ mo, I 90 23 = mo := ⟨_, rfl⟩
  have htb : 0 ≤ tb ∧ tb ≤ 29 := by have := hK.2.2.2; omega
  have hmo : (-1 : Int) = -1 ∨ (0 ≤ mo ∧ mo ≤ 48) := .inl rfl
  have h22 := hK.1
  have h29 := hK.2.1
  have v0 := hV.n6
  show WP (Call d) 240 P X (0, [some (vr (some 90) 10), some (vi k), some (vi v), none, none, none, none], [], (I, H), 0, 0)
  refine WP.go 7 (And.intro rfl (Exists.intro 91 (And.intro hS.r90_1 (And.intro (And.intro rfl (And.intro (show 0 ≤ 6 from by omega) (show 6 < H.2.1 91 from by omega))) (?_)))))
  refine rw_i (Q := fun x9 => WP (Call d) 240 P X (7, [some (vr (some 90) 10), some (vi k), some (vi v), none, none, none, none], [vi x9, vi 0, vi k, vr (some 90) 10], (I, H), 0, 0)) (congrFun hM _) ?_
  show WP (Call d) 240 P X (7, [some (vr (some 90) 10), some (vi k), some (vi v), none, none, none, none], [vi (μ 6), vi 0, vi k, vr (some 90) 10], (I, H), 0, 0)
  refine WP.go 3 (Exists.intro ((μ 6) - 1) (And.intro (wrp_a (by omega) (by omega)) (And.intro (And.intro (Nat.le_of_ble_eq_true rfl) (Nat.le_of_ble_eq_true rfl)) (And.intro rfl (?_)))))
  show Call d 177 [vi k, vi 0, vi ((μ 6) - 1)] (I, H) _ _
  refine s_12_isIn (by omega)  ?_
  show WP (Call d) 240 P X (10, [some (vr (some 90) 10), some (vi k), some (vi v), none, none, none, none], [vi (bz (0 ≤ k ∧ k ≤ ((μ 6) - 1))), vr (some 90) 10], (I, H), 0, 0)
  refine WP.go 1 (And.intro (fun (b10 : ¬ bz (0 ≤ k ∧ k ≤ ((μ 6) - 1)) = 0) => ?_) (fun (b10 : bz (0 ≤ k ∧ k ≤ ((μ 6) - 1)) = 0) => ?_))
  ·
    show WP (Call d) 240 P X (13, [some (vr (some 90) 10), some (vi k), some (vi v), none, none, none, none], [vr (some 90) 10], (I, H), 0, 0)
    have z10 := bz_e1.mp b10
    refine WP.go 5 (And.intro (And.intro rfl trivial) (And.intro rfl (And.intro (fun (b17 : ¬ 0 < 0) => ?_) (fun (b17 : 0 < 0) => (absurd b17 (by omega))))))
    show WP (Call d) 240 P X (20, [some (vr (some 90) 10), some (vi k), some (vi v), none, none, none, none], [], ((upI I 90 0 0), H), 0, 0)
    generalize hq_J0 : (upI I 90 0 0) = J0
    have e_J0 : J0 90 = (fun j => if j = 0 then 0 else I 90 j) := by rw [← hq_J0]; exact upI_self _ _ _ _
    have f_J0 : ∀ a, a ≠ 90 → J0 a = I a := fun a q => by rw [← hq_J0]; exact upI_cell q
    have hmf : MF I J0 := MF.t0 hK e_J0 f_J0
    have hth : J0 90 0 = 0 := by rw [e_J0]; rfl
    have hM_1 : J0 91 = μ := (f_J0 91 (by omega)).trans hM
    have h_2 : J0 90 22 = -1 := by rw [e_J0]; exact h22
    have h_3 : J0 90 23 = mo := by rw [e_J0]; exact h23
    have h_4 : J0 90 29 = -1 := by rw [e_J0]; exact h29
    have h_5 : J0 90 30 = tb := by rw [e_J0]; exact h30
    refine WP.go 2 (And.intro (And.intro (Nat.le_of_ble_eq_true rfl) (Nat.le_of_ble_eq_true rfl)) (And.intro rfl (?_)))
    show Call d 210 [vr (some 90) 10] (J0, H) _ _
    refine s_12_turn (by omega) hS hM_1 hV h_2 h_3 hmo (fun J21 e21 f21 => ?_)
    show WP (Call d) 240 P X (22, [some (vr (some 90) 10), some (vi k), some (vi v), none, none, none, none], [], (J21, H), 0, 0)
    have hM_6 : J21 91 = μ := (f21 91 (by omega)).trans hM_1
    have h_7 : J21 90 22 = -1 := (congrFun (f21 90 (by omega)) 22).trans h_2
    have h_8 : J21 90 23 = mo := (congrFun (f21 90 (by omega)) 23).trans h_3
    have h_9 : J21 90 29 = -1 := (congrFun (f21 90 (by omega)) 29).trans h_4
    have h_10 : J21 90 30 = tb := (congrFun (f21 90 (by omega)) 30).trans h_5
    have hA_11 : ∀ y, 0 ≤ y → y < 100 → 0 ≤ J21 96 y ∧ J21 96 y < 96 := fun y q1 q2 => by rw [e21 y q1 q2]; exact ANG_bd hV _ _ _
    have eA : ∀ y, 0 ≤ y → y < 100 → J21 96 y = AN μ y := fun y q1 q2 => (e21 y q1 q2).trans (ANG_irr (by omega) _ _ _)
    have hmf_12 : MF I J21 := hmf.tu f21
    have hth_13 : J21 90 0 = 0 := (congrFun (f21 90 (by omega)) 0).trans hth
    have hcg : upF (RUNp μ (J21 96) k) 100 0 0 0 (-1) = upF (RUNp μ (AN μ) k) 100 0 0 0 (-1) := upF_congr _ _ _ _ _ (fun i q1 q2 => by unfold RUNp LVL; rw [eA i (by omega) (by omega)])
    refine WP.go 8 ?_
    show WP (Call d) 240 P X (30, [some (vr (some 90) 10), some (vi k), some (vi v), some (vi 0), some (vi (-1)), some (vi 0), some (vi 0)], [], (J21, H), 0, 0)
    have lp30 : ∀ (n9 : Nat) (l9 : Int) (c9 : Int) (r9 : Int) (y : Int) (hm : 100 - y < (n9 : Int)) (iv0 : 0 ≤ y ∧ y ≤ 100 ∧ 0 ≤ r9 ∧ r9 ≤ y ∧ 0 ≤ l9 ∧ l9 ≤ 100) (iv1 : upF (RUNp μ (J21 96) k) 100 0 0 0 (-1) = upF (RUNp μ (J21 96) k) (100 - y).toNat y r9 l9 c9), WP (Call d) 240 P X (30, [some (vr (some 90) 10), some (vi k), some (vi v), some (vi l9), some (vi c9), some (vi r9), some (vi y)], [], (J21, H), 0, 0) := by
      intro n9
      induction n9 with
      | zero => intro l9 c9 r9 y hm iv0 iv1; exact absurd hm (by omega)
      | succ n9 ih30 =>
        intro l9 c9 r9 y hm iv0 iv1
        refine WP.go 3 (And.intro (fun (b32 : ¬ y < 100) => ?_) (fun (b32 : y < 100) => ?_))
        ·
          show WP (Call d) 240 P X (58, [some (vr (some 90) 10), some (vi k), some (vi v), some (vi l9), some (vi c9), some (vi r9), some (vi y)], [], (J21, H), 0, 0)
          refine WP.go 2 (And.intro (fun (b59 : v = 0) => ?_) (fun (b59 : ¬ v = 0) => ?_))
          ·
            show WP (Call d) 240 P X (62, [some (vr (some 90) 10), some (vi k), some (vi v), some (vi l9), some (vi c9), some (vi r9), some (vi y)], [], (J21, H), 0, 0)
            refine WP.go 2 (And.intro (And.intro (Nat.le_of_ble_eq_true rfl) (Nat.le_of_ble_eq_true rfl)) (And.intro trivial (?_)))
            show P (some (vi l9)) (J21, H)
            exact fin_i (by unfold UPH; rw [← hcg, iv1, show (100 - y).toNat = 0 by omega, if_pos b59]; rfl) (h (by omega) _ hmf_12 hth_13)
          ·
            show WP (Call d) 240 P X (60, [some (vr (some 90) 10), some (vi k), some (vi v), some (vi l9), some (vi c9), some (vi r9), some (vi y)], [], (J21, H), 0, 0)
            refine WP.go 3 (And.intro (And.intro (Nat.le_of_ble_eq_true rfl) (Nat.le_of_ble_eq_true rfl)) (And.intro trivial (?_)))
            show P (some (vi c9)) (J21, H)
            exact fin_i (by unfold UPH; rw [← hcg, iv1, show (100 - y).toNat = 0 by omega, if_neg b59]; rfl) (h (by omega) _ hmf_12 hth_13)
        ·
          show WP (Call d) 240 P X (33, [some (vr (some 90) 10), some (vi k), some (vi v), some (vi l9), some (vi c9), some (vi r9), some (vi y)], [], (J21, H), 0, 0)
          refine WP.go 4 (And.intro (And.intro (Nat.le_of_ble_eq_true rfl) (Nat.le_of_ble_eq_true rfl)) (And.intro rfl (?_)))
          show Call d 238 [vr (some 90) 10, vi k, vi y] (J21, H) _ _
          refine s_12_goesDown (by omega) hS hM_6 hV hA_11 (by omega) (by omega) ?_
          show WP (Call d) 240 P X (37, [some (vr (some 90) 10), some (vi k), some (vi v), some (vi l9), some (vi c9), some (vi r9), some (vi y)], [vi (bz (RUNp μ (J21 96) k y))], (J21, H), 0, 0)
          refine WP.go 1 (And.intro (fun (b37 : bz (RUNp μ (J21 96) k y) = 0) => ?_) (fun (b37 : ¬ bz (RUNp μ (J21 96) k y) = 0) => ?_))
          ·
            show WP (Call d) 240 P X (40, [some (vr (some 90) 10), some (vi k), some (vi v), some (vi l9), some (vi c9), some (vi r9), some (vi y)], [], (J21, H), 0, 0)
            have z37 := bz_e0.mp b37
            refine WP.go 7 (Exists.intro (r9 + 1) (And.intro (wrp_a (by omega) (by omega)) (And.intro (fun (b46 : l9 < r9 + 1) => ?_) (fun (b46 : ¬ l9 < r9 + 1) => ?_))))
            ·
              show WP (Call d) 240 P X (48, [some (vr (some 90) 10), some (vi k), some (vi v), some (vi l9), some (vi c9), some (vi (r9 + 1)), some (vi y)], [], (J21, H), 0, 0)
              refine WP.go 10 (Exists.intro (y - (r9 + 1)) (And.intro (wrp_a (by omega) (by omega)) (Exists.intro ((y - (r9 + 1)) + 1) (And.intro (wrp_a (by omega) (by omega)) (Exists.intro (y + 1) (And.intro (wrp_a (by omega) (by omega)) (?_)))))))
              show WP (Call d) 240 P X (30, [some (vr (some 90) 10), some (vi k), some (vi v), some (vi (r9 + 1)), some (vi ((y - (r9 + 1)) + 1)), some (vi (r9 + 1)), some (vi (y + 1))], [], (J21, H), 0, 0)
              exact ih30 (r9 + 1) ((y - (r9 + 1)) + 1) (r9 + 1) (y + 1) (by omega) (by omega) (iv1.trans (upF_g (by omega) (bz_e0.mp b37) (by omega)))
            ·
              show WP (Call d) 240 P X (47, [some (vr (some 90) 10), some (vi k), some (vi v), some (vi l9), some (vi c9), some (vi (r9 + 1)), some (vi y)], [], (J21, H), 0, 0)
              refine WP.go 3 (Exists.intro (y + 1) (And.intro (wrp_a (by omega) (by omega)) (?_)))
              show WP (Call d) 240 P X (30, [some (vr (some 90) 10), some (vi k), some (vi v), some (vi l9), some (vi c9), some (vi (r9 + 1)), some (vi (y + 1))], [], (J21, H), 0, 0)
              exact ih30 l9 c9 (r9 + 1) (y + 1) (by omega) (by omega) (iv1.trans (upF_l (by omega) (bz_e0.mp b37) (by omega)))
          ·
            show WP (Call d) 240 P X (38, [some (vr (some 90) 10), some (vi k), some (vi v), some (vi l9), some (vi c9), some (vi r9), some (vi y)], [], (J21, H), 0, 0)
            have z37 := bz_e1.mp b37
            refine WP.go 6 (And.intro (fun (b46 : l9 < 0) => (absurd b46 (by omega))) (fun (b46 : ¬ l9 < 0) => ?_))
            show WP (Call d) 240 P X (47, [some (vr (some 90) 10), some (vi k), some (vi v), some (vi l9), some (vi c9), some (vi 0), some (vi y)], [], (J21, H), 0, 0)
            refine WP.go 3 (Exists.intro (y + 1) (And.intro (wrp_a (by omega) (by omega)) (?_)))
            show WP (Call d) 240 P X (30, [some (vr (some 90) 10), some (vi k), some (vi v), some (vi l9), some (vi c9), some (vi 0), some (vi (y + 1))], [], (J21, H), 0, 0)
            exact ih30 l9 c9 0 (y + 1) (by omega) (by omega) (iv1.trans (upF_y (by omega) (bz_e1.mp b37)))
    exact lp30 ((100 - 0 : Int).toNat + 1) 0 (-1) 0 0 (by omega) (by omega) rfl
  ·
    show WP (Call d) 240 P X (11, [some (vr (some 90) 10), some (vi k), some (vi v), none, none, none, none], [vr (some 90) 10], (I, H), 0, 0)
    have z10 := bz_e0.mp b10
    refine WP.go 6 (And.intro (And.intro rfl trivial) (And.intro rfl (And.intro (fun (b17 : ¬ 0 < 1) => (absurd b17 (by omega))) (fun (b17 : 0 < 1) => ?_))))
    show WP (Call d) 240 P X (18, [some (vr (some 90) 10), some (vi k), some (vi v), none, none, none, none], [], ((upI I 90 0 1), H), 0, 0)
    refine WP.go 2 (And.intro (And.intro (Nat.le_of_ble_eq_true rfl) (Nat.le_of_ble_eq_true rfl)) (And.intro trivial (?_)))
    show P (some (vi 0)) ((upI I 90 0 1), H)
    exact hk1 (by omega) _ 0 (.inl rfl) (MF.th hK _) (upI_same _ _ _ _)

theorem s_12_name {d : Nat} {P : Option qV → qH → Prop} {X : Nat → qH → Prop} {I : qI} {H : qS} {μ : Int → Int} (hd : 4 ≤ d) {p y un : Int} (hS : Shp H) (hM : I 91 = μ) (hV : IM μ) (hK : MS I) (hk1 : (¬ ((0 ≤ p ∧ p < 8) ∧ (0 ≤ y ∧ y < 100))) → ∀ (J : qI) (v : Int), (v = 0 ∨ v = 1) → MF I J → J 90 0 = 1 → P (some (vi v)) (J, H)) (h : ((0 ≤ p ∧ p < 8) ∧ (0 ≤ y ∧ y < 100)) → ∀ J : qI, MF I J → J 90 0 = 0 → P (some (vi (NAM μ (AN μ) p y un))) (J, H)) :
    Call d 243 [vr (some 90) 10, vi p, vi y, vi un] (I, H) P X := by
  obtain ⟨d, rfl⟩ : ∃ e, d = e + 1 := ⟨d - 1, by omega⟩
  obtain ⟨tb, h30⟩ : ∃ tb, I 90 30 = tb := ⟨_, rfl⟩
  obtain ⟨mo, h23⟩ : ∃ mo, I 90 23 = mo := ⟨_, rfl⟩
  have htb : 0 ≤ tb ∧ tb ≤ 29 := by have := hK.2.2.2; omega
  have hmo : (-1 : Int) = -1 ∨ (0 ≤ mo ∧ mo ≤ 48) := .inl rfl
  have h22 := hK.1
  have h29 := hK.2.1
  show WP (Call d) 243 P X (0, [some (vr (some 90) 10), some (vi p), some (vi y), some (vi un), none, none], [], (I, H), 0, 0)
  refine WP.go 5 (And.intro (And.intro (Nat.le_of_ble_eq_true rfl) (Nat.le_of_ble_eq_true rfl)) (And.intro rfl (?_)))
  show Call d 177 [vi p, vi 0, vi 7] (I, H) _ _
  refine s_12_isIn (by omega)  ?_
  show WP (Call d) 243 P X (5, [some (vr (some 90) 10), some (vi p), some (vi y), some (vi un), none, none], [vi (bz (0 ≤ p ∧ p ≤ 7)), vr (some 90) 10], (I, H), 0, 0)
  refine WP.go 1 (And.intro (fun (b5 : bz (0 ≤ p ∧ p ≤ 7) = 0) => ?_) (fun (b5 : ¬ bz (0 ≤ p ∧ p ≤ 7) = 0) => ?_))
  ·
    show WP (Call d) 243 P X (9, [some (vr (some 90) 10), some (vi p), some (vi y), some (vi un), none, none], [vr (some 90) 10], (I, H), 0, 0)
    have z5 := bz_e0.mp b5
    refine WP.go 6 (And.intro (And.intro rfl trivial) (And.intro rfl (And.intro (fun (b15 : ¬ 0 < 1) => (absurd b15 (by omega))) (fun (b15 : 0 < 1) => ?_))))
    show WP (Call d) 243 P X (16, [some (vr (some 90) 10), some (vi p), some (vi y), some (vi un), none, none], [], ((upI I 90 0 1), H), 0, 0)
    refine WP.go 2 (And.intro (And.intro (Nat.le_of_ble_eq_true rfl) (Nat.le_of_ble_eq_true rfl)) (And.intro trivial (?_)))
    show P (some (vi 0)) ((upI I 90 0 1), H)
    exact hk1 (by omega) _ 0 (.inl rfl) (MF.th hK _) (upI_same _ _ _ _)
  ·
    show WP (Call d) 243 P X (6, [some (vr (some 90) 10), some (vi p), some (vi y), some (vi un), none, none], [vr (some 90) 10], (I, H), 0, 0)
    have z5 := bz_e1.mp b5
    refine WP.go 2 (And.intro (And.intro (Nat.le_of_ble_eq_true rfl) (Nat.le_of_ble_eq_true rfl)) (And.intro rfl (?_)))
    show Call d 179 [vi y] (I, H) _ _
    refine s_12_isYear (by omega)  ?_
    show WP (Call d) 243 P X (8, [some (vr (some 90) 10), some (vi p), some (vi y), some (vi un), none, none], [vi (bz (0 ≤ y ∧ y ≤ 99)), vr (some 90) 10], (I, H), 0, 0)
    refine WP.go 1 (And.intro (fun (b8 : ¬ bz (0 ≤ y ∧ y ≤ 99) = 0) => ?_) (fun (b8 : bz (0 ≤ y ∧ y ≤ 99) = 0) => ?_))
    ·
      show WP (Call d) 243 P X (11, [some (vr (some 90) 10), some (vi p), some (vi y), some (vi un), none, none], [vr (some 90) 10], (I, H), 0, 0)
      have z8 := bz_e1.mp b8
      refine WP.go 5 (And.intro (And.intro rfl trivial) (And.intro rfl (And.intro (fun (b15 : ¬ 0 < 0) => ?_) (fun (b15 : 0 < 0) => (absurd b15 (by omega))))))
      show WP (Call d) 243 P X (18, [some (vr (some 90) 10), some (vi p), some (vi y), some (vi un), none, none], [], ((upI I 90 0 0), H), 0, 0)
      generalize hq_J0 : (upI I 90 0 0) = J0
      have e_J0 : J0 90 = (fun j => if j = 0 then 0 else I 90 j) := by rw [← hq_J0]; exact upI_self _ _ _ _
      have f_J0 : ∀ a, a ≠ 90 → J0 a = I a := fun a q => by rw [← hq_J0]; exact upI_cell q
      have hmf : MF I J0 := MF.t0 hK e_J0 f_J0
      have hth : J0 90 0 = 0 := by rw [e_J0]; rfl
      have hM_1 : J0 91 = μ := (f_J0 91 (by omega)).trans hM
      have h_2 : J0 90 22 = -1 := by rw [e_J0]; exact h22
      have h_3 : J0 90 23 = mo := by rw [e_J0]; exact h23
      have h_4 : J0 90 29 = -1 := by rw [e_J0]; exact h29
      have h_5 : J0 90 30 = tb := by rw [e_J0]; exact h30
      refine WP.go 2 (And.intro (And.intro (Nat.le_of_ble_eq_true rfl) (Nat.le_of_ble_eq_true rfl)) (And.intro rfl (?_)))
      show Call d 210 [vr (some 90) 10] (J0, H) _ _
      refine s_12_turn (by omega) hS hM_1 hV h_2 h_3 hmo (fun J19 e19 f19 => ?_)
      show WP (Call d) 243 P X (20, [some (vr (some 90) 10), some (vi p), some (vi y), some (vi un), none, none], [], (J19, H), 0, 0)
      have hM_6 : J19 91 = μ := (f19 91 (by omega)).trans hM_1
      have h_7 : J19 90 22 = -1 := (congrFun (f19 90 (by omega)) 22).trans h_2
      have h_8 : J19 90 23 = mo := (congrFun (f19 90 (by omega)) 23).trans h_3
      have h_9 : J19 90 29 = -1 := (congrFun (f19 90 (by omega)) 29).trans h_4
      have h_10 : J19 90 30 = tb := (congrFun (f19 90 (by omega)) 30).trans h_5
      have hA_11 : ∀ y, 0 ≤ y → y < 100 → 0 ≤ J19 96 y ∧ J19 96 y < 96 := fun y q1 q2 => by rw [e19 y q1 q2]; exact ANG_bd hV _ _ _
      have eA : ∀ y, 0 ≤ y → y < 100 → J19 96 y = AN μ y := fun y q1 q2 => (e19 y q1 q2).trans (ANG_irr (by omega) _ _ _)
      have hmf_12 : MF I J19 := hmf.tu f19
      have hth_13 : J19 90 0 = 0 := (congrFun (f19 90 (by omega)) 0).trans hth
      refine WP.go 4 (And.intro (And.intro (Nat.le_of_ble_eq_true rfl) (Nat.le_of_ble_eq_true rfl)) (And.intro rfl (?_)))
      show Call d 242 [vr (some 90) 10, vi p, vi y] (J19, H) _ _
      refine s_12_nameOf (by omega) hS hA_11 (by omega) (by omega) ?_
      show WP (Call d) 243 P X (24, [some (vr (some 90) 10), some (vi p), some (vi y), some (vi un), none, none], [vi (namOf p ((J19 96) y))], (J19, H), 0, 0)
      refine WP.go 3 (And.intro (fun (b26 : ¬ un = 0) => ?_) (fun (b26 : un = 0) => ?_))
      ·
        show WP (Call d) 243 P X (29, [some (vr (some 90) 10), some (vi p), some (vi y), some (vi un), some (vi (namOf p ((J19 96) y))), none], [], (J19, H), 0, 0)
        refine WP.go 2 ?_
        show WP (Call d) 243 P X (31, [some (vr (some 90) 10), some (vi p), some (vi y), some (vi un), some (vi (namOf p ((J19 96) y))), some (vi y)], [], (J19, H), 0, 0)
        have lp31 : ∀ (n9 : Nat) (k : Int) (hm : 100 - k < (n9 : Int)) (iv0 : y ≤ k ∧ k < 100) (iv1 : laN (fun i => namOf p (J19 96 i) = namOf p (J19 96 y)) (99 - y).toNat y = laN (fun i => namOf p (J19 96 i) = namOf p (J19 96 y)) (99 - k).toNat k), WP (Call d) 243 P X (31, [some (vr (some 90) 10), some (vi p), some (vi y), some (vi un), some (vi (namOf p ((J19 96) y))), some (vi k)], [], (J19, H), 0, 0) := by
          intro n9
          induction n9 with
          | zero => intro k hm iv0 iv1; exact absurd hm (by omega)
          | succ n9 ih31 =>
            intro k hm iv0 iv1
            refine WP.go 5 (Exists.intro (k + 1) (And.intro (wrp_a (by omega) (by omega)) (And.intro (fun (b35 : ¬ k + 1 < 100) => ?_) (fun (b35 : k + 1 < 100) => ?_))))
            ·
              show WP (Call d) 243 P X (46, [some (vr (some 90) 10), some (vi p), some (vi y), some (vi un), some (vi (namOf p ((J19 96) y))), some (vi k)], [], (J19, H), 0, 0)
              refine WP.go 2 (And.intro (And.intro (Nat.le_of_ble_eq_true rfl) (Nat.le_of_ble_eq_true rfl)) (And.intro trivial (?_)))
              show P (some (vi k)) (J19, H)
              exact fin_i (by unfold NAM; rw [if_neg b26, laN_congr (q := fun i => namOf p (J19 96 i) = namOf p (J19 96 y)) _ _ (fun i q1 q2 => by rw [eA y (by omega) (by omega), eA i (by omega) (by omega)]), iv1, laN_e (by omega)]) (h (by omega) _ hmf_12 hth_13)
            ·
              show WP (Call d) 243 P X (36, [some (vr (some 90) 10), some (vi p), some (vi y), some (vi un), some (vi (namOf p ((J19 96) y))), some (vi k)], [], (J19, H), 0, 0)
              refine WP.go 6 (Exists.intro (k + 1) (And.intro (wrp_a (by omega) (by omega)) (And.intro (And.intro (Nat.le_of_ble_eq_true rfl) (Nat.le_of_ble_eq_true rfl)) (And.intro rfl (?_)))))
              show Call d 242 [vr (some 90) 10, vi p, vi (k + 1)] (J19, H) _ _
              refine s_12_nameOf (by omega) hS hA_11 (by omega) (by omega) ?_
              show WP (Call d) 243 P X (42, [some (vr (some 90) 10), some (vi p), some (vi y), some (vi un), some (vi (namOf p ((J19 96) y))), some (vi k)], [vi (namOf p ((J19 96) (k + 1)))], (J19, H), 0, 0)
              refine WP.go 2 (And.intro (fun (b43 : ¬ namOf p ((J19 96) (k + 1)) = namOf p ((J19 96) y)) => ?_) (fun (b43 : namOf p ((J19 96) (k + 1)) = namOf p ((J19 96) y)) => ?_))
              ·
                show WP (Call d) 243 P X (46, [some (vr (some 90) 10), some (vi p), some (vi y), some (vi un), some (vi (namOf p ((J19 96) y))), some (vi k)], [], (J19, H), 0, 0)
                refine WP.go 2 (And.intro (And.intro (Nat.le_of_ble_eq_true rfl) (Nat.le_of_ble_eq_true rfl)) (And.intro trivial (?_)))
                show P (some (vi k)) (J19, H)
                exact fin_i (by unfold NAM; rw [if_neg b26, laN_congr (q := fun i => namOf p (J19 96 i) = namOf p (J19 96 y)) _ _ (fun i q1 q2 => by rw [eA y (by omega) (by omega), eA i (by omega) (by omega)]), iv1, laN_n b43]) (h (by omega) _ hmf_12 hth_13)
              ·
                show WP (Call d) 243 P X (44, [some (vr (some 90) 10), some (vi p), some (vi y), some (vi un), some (vi (namOf p ((J19 96) y))), some (vi k)], [], (J19, H), 0, 0)
                refine WP.go 2 (Exists.intro (k + 1) (And.intro (wrp_a (by omega) (by omega)) (?_)))
                show WP (Call d) 243 P X (31, [some (vr (some 90) 10), some (vi p), some (vi y), some (vi un), some (vi (namOf p ((J19 96) y))), some (vi (k + 1))], [], (J19, H), 0, 0)
                exact ih31 (k + 1) (by omega) (by omega) (iv1.trans (laN_y (by omega) b43))
        exact lp31 ((100 - y : Int).toNat + 1) y (by omega) (by omega) rfl
      ·
        show WP (Call d) 243 P X (27, [some (vr (some 90) 10), some (vi p), some (vi y), some (vi un), some (vi (namOf p ((J19 96) y))), none], [], (J19, H), 0, 0)
        refine WP.go 2 (And.intro (And.intro (Nat.le_of_ble_eq_true rfl) (Nat.le_of_ble_eq_true rfl)) (And.intro trivial (?_)))
        show P (some (vi (namOf p ((J19 96) y)))) (J19, H)
        exact fin_i (by unfold NAM; rw [if_pos b26, eA y (by omega) (by omega)]) (h (by omega) _ hmf_12 hth_13)
    ·
      show WP (Call d) 243 P X (9, [some (vr (some 90) 10), some (vi p), some (vi y), some (vi un), none, none], [vr (some 90) 10], (I, H), 0, 0)
      have z8 := bz_e0.mp b8
      refine WP.go 6 (And.intro (And.intro rfl trivial) (And.intro rfl (And.intro (fun (b15 : ¬ 0 < 1) => (absurd b15 (by omega))) (fun (b15 : 0 < 1) => ?_))))
      show WP (Call d) 243 P X (16, [some (vr (some 90) 10), some (vi p), some (vi y), some (vi un), none, none], [], ((upI I 90 0 1), H), 0, 0)
      refine WP.go 2 (And.intro (And.intro (Nat.le_of_ble_eq_true rfl) (Nat.le_of_ble_eq_true rfl)) (And.intro trivial (?_)))
      show P (some (vi 0)) ((upI I 90 0 1), H)
      exact hk1 (by omega) _ 0 (.inl rfl) (MF.th hK _) (upI_same _ _ _ _)

theorem s_12_years {d : Nat} {P : Option qV → qH → Prop} {X : Nat → qH → Prop} {I : qI} {H : qS} {μ : Int → Int} (hd : 4 ≤ d) {k : Int} (hS : Shp H) (hM : I 91 = μ) (hV : IM μ) (hK : MS I) (hk1 : (k < -1) → ∀ (J : qI) (v : Int), (v = 0 ∨ v = 1) → MF I J → J 90 0 = 1 → P (some (vi v)) (J, H)) (h : (-1 ≤ k) → ∀ J : qI, MF I J → J 90 0 = 0 → P (some (vi (yeN (FITp μ (AN μ) (HT μ)) k 100 0 0))) (J, H)) :
    Call d 262 [vr (some 90) 10, vi k] (I, H) P X := by
  obtain ⟨d, rfl⟩ : ∃ e, d = e + 1 := ⟨d - 1, by omega⟩
  have hl91 := hS.l91
  obtain ⟨tb, h30⟩ : ∃ tb, I 90 30 = tb := ⟨_, rfl⟩
  obtain ⟨mo, h23⟩ : ∃ mo, I 90 23 = mo := ⟨_, rfl⟩
  have htb : 0 ≤ tb ∧ tb ≤ 29 := by have := hK.2.2.2; omega
  have hmo : (-1 : Int) = -1 ∨ (0 ≤ mo ∧ mo ≤ 48) := .inl rfl
  have h22 := hK.1
  have h29 := hK.2.1
  have v0 := hV.n7
  show WP (Call d) 262 P X (0, [some (vr (some 90) 10), some (vi k), none, none, none, none], [], (I, H), 0, 0)
  refine WP.go 4 (And.intro (fun (b3 : ¬ k < (-1)) => ?_) (fun (b3 : k < (-1)) => ?_))
  ·
    show WP (Call d) 262 P X (6, [some (vr (some 90) 10), some (vi k), none, none, none, none], [vr (some 90) 10], (I, H), 0, 0)
    refine WP.go 5 (And.intro (And.intro rfl trivial) (And.intro rfl (And.intro (fun (b10 : ¬ 0 < 0) => ?_) (fun (b10 : 0 < 0) => (absurd b10 (by omega))))))
    show WP (Call d) 262 P X (13, [some (vr (some 90) 10), some (vi k), none, none, none, none], [], ((upI I 90 0 0), H), 0, 0)
    generalize hq_J0 : (upI I 90 0 0) = J0
    have e_J0 : J0 90 = (fun j => if j = 0 then 0 else I 90 j) := by rw [← hq_J0]; exact upI_self _ _ _ _
    have f_J0 : ∀ a, a ≠ 90 → J0 a = I a := fun a q => by rw [← hq_J0]; exact upI_cell q
    have hmf : MF I J0 := MF.t0 hK e_J0 f_J0
    have hth : J0 90 0 = 0 := by rw [e_J0]; rfl
    have hM_1 : J0 91 = μ := (f_J0 91 (by omega)).trans hM
    have h_2 : J0 90 22 = -1 := by rw [e_J0]; exact h22
    have h_3 : J0 90 23 = mo := by rw [e_J0]; exact h23
    have h_4 : J0 90 29 = -1 := by rw [e_J0]; exact h29
    have h_5 : J0 90 30 = tb := by rw [e_J0]; exact h30
    refine WP.go 2 (And.intro (And.intro (Nat.le_of_ble_eq_true rfl) (Nat.le_of_ble_eq_true rfl)) (And.intro rfl (?_)))
    show Call d 210 [vr (some 90) 10] (J0, H) _ _
    refine s_12_turn (by omega) hS hM_1 hV h_2 h_3 hmo (fun J14 e14 f14 => ?_)
    show WP (Call d) 262 P X (15, [some (vr (some 90) 10), some (vi k), none, none, none, none], [], (J14, H), 0, 0)
    have hM_6 : J14 91 = μ := (f14 91 (by omega)).trans hM_1
    have h_7 : J14 90 22 = -1 := (congrFun (f14 90 (by omega)) 22).trans h_2
    have h_8 : J14 90 23 = mo := (congrFun (f14 90 (by omega)) 23).trans h_3
    have h_9 : J14 90 29 = -1 := (congrFun (f14 90 (by omega)) 29).trans h_4
    have h_10 : J14 90 30 = tb := (congrFun (f14 90 (by omega)) 30).trans h_5
    have hA_11 : ∀ y, 0 ≤ y → y < 100 → 0 ≤ J14 96 y ∧ J14 96 y < 96 := fun y q1 q2 => by rw [e14 y q1 q2]; exact ANG_bd hV _ _ _
    have eA : ∀ y, 0 ≤ y → y < 100 → J14 96 y = AN μ y := fun y q1 q2 => (e14 y q1 q2).trans (ANG_irr (by omega) _ _ _)
    have hmf_12 : MF I J14 := hmf.tu f14
    have hth_13 : J14 90 0 = 0 := (congrFun (f14 90 (by omega)) 0).trans hth
    have hcg : yeN (FITp μ (J14 96) (HTC μ (-1) tb)) k 100 0 0 = yeN (FITp μ (AN μ) (HT μ)) k 100 0 0 := yeN_congr _ _ _ (fun i q1 q2 => FITp_congr (eA i (by omega) (by omega)) (HT_i hV tb))
    refine WP.go 4 ?_
    show WP (Call d) 262 P X (19, [some (vr (some 90) 10), some (vi k), some (vi 0), some (vi 0), none, none], [], (J14, H), 0, 0)
    have lp19 : ∀ (n9 : Nat) (t9 : Int) (y : Int) (hm : 100 - y < (n9 : Int)) (iv0 : 0 ≤ y ∧ y ≤ 100 ∧ 0 ≤ t9 ∧ t9 ≤ y) (iv1 : yeN (FITp μ (J14 96) (HTC μ (-1) tb)) k 100 0 0 = yeN (FITp μ (J14 96) (HTC μ (-1) tb)) k (100 - y).toNat y t9), WP (Call d) 262 P X (19, [some (vr (some 90) 10), some (vi k), some (vi t9), some (vi y), none, none], [], (J14, H), 0, 0) := by
      intro n9
      induction n9 with
      | zero => intro t9 y hm iv0 iv1; exact absurd hm (by omega)
      | succ n9 ih19 =>
        intro t9 y hm iv0 iv1
        refine WP.go 3 (And.intro (fun (b21 : ¬ y < 100) => ?_) (fun (b21 : y < 100) => ?_))
        ·
          show WP (Call d) 262 P X (88, [some (vr (some 90) 10), some (vi k), some (vi t9), some (vi y), none, none], [], (J14, H), 0, 0)
          refine WP.go 3 (And.intro (fun (b90 : ¬ k = (-1)) => ?_) (fun (b90 : k = (-1)) => ?_))
          ·
            show WP (Call d) 262 P X (93, [some (vr (some 90) 10), some (vi k), some (vi t9), some (vi y), none, none], [], (J14, H), 0, 0)
            refine WP.go 2 (And.intro (And.intro (Nat.le_of_ble_eq_true rfl) (Nat.le_of_ble_eq_true rfl)) (And.intro trivial (?_)))
            show P (some (vi (-1))) (J14, H)
            exact fin_i ((hcg.symm.trans (iv1.trans (by rw [show (100 - y).toNat = 0 by omega]; exact if_neg b90))).symm) (h (by omega) _ hmf_12 hth_13)
          ·
            show WP (Call d) 262 P X (91, [some (vr (some 90) 10), some (vi k), some (vi t9), some (vi y), none, none], [], (J14, H), 0, 0)
            refine WP.go 3 (And.intro (And.intro (Nat.le_of_ble_eq_true rfl) (Nat.le_of_ble_eq_true rfl)) (And.intro trivial (?_)))
            show P (some (vi t9)) (J14, H)
            exact fin_i ((hcg.symm.trans (iv1.trans (by rw [show (100 - y).toNat = 0 by omega]; exact if_pos b90))).symm) (h (by omega) _ hmf_12 hth_13)
        ·
          show WP (Call d) 262 P X (22, [some (vr (some 90) 10), some (vi k), some (vi t9), some (vi y), none, none], [], (J14, H), 0, 0)
          refine WP.go 4 ?_
          show WP (Call d) 262 P X (26, [some (vr (some 90) 10), some (vi k), some (vi t9), some (vi y), some (vi 1), some (vi 0)], [], (J14, H), 0, 0)
          have lp26 : ∀ (n9 : Nat) (s9 : Int) (i9 : Int) (hm : μ 7 - i9 < (n9 : Int)) (jv0 : 0 ≤ i9 ∧ i9 ≤ μ 7) (jv1 : s9 = bz (∀ p, 0 ≤ p → p < i9 → (LITp μ (J14 96) (HTC μ (-1) tb) (μ (458 + 3 * p)) (μ (459 + 3 * p)) y ↔ μ (460 + 3 * p) = 1))), WP (Call d) 262 P X (26, [some (vr (some 90) 10), some (vi k), some (vi t9), some (vi y), some (vi s9), some (vi i9)], [], (J14, H), 0, 0) := by
            intro n9
            induction n9 with
            | zero => intro s9 i9 hm jv0 jv1; exact absurd hm (by omega)
            | succ n9 ih26 =>
              intro s9 i9 hm jv0 jv1
              refine WP.go 5 (And.intro rfl (Exists.intro 91 (And.intro hS.r90_1 (And.intro (And.intro rfl (And.intro (show 0 ≤ 7 from by omega) (show 7 < H.2.1 91 from by omega))) (?_)))))
              refine rw_i (Q := fun x9 => WP (Call d) 262 P X (31, [some (vr (some 90) 10), some (vi k), some (vi t9), some (vi y), some (vi s9), some (vi i9)], [vi x9, vi i9], (J14, H), 0, 0)) (congrFun hM_6 _) ?_
              show WP (Call d) 262 P X (31, [some (vr (some 90) 10), some (vi k), some (vi t9), some (vi y), some (vi s9), some (vi i9)], [vi (μ 7), vi i9], (J14, H), 0, 0)
              refine WP.go 1 (And.intro (fun (b31 : ¬ i9 < μ 7) => ?_) (fun (b31 : i9 < μ 7) => ?_))
              ·
                show WP (Call d) 262 P X (77, [some (vr (some 90) 10), some (vi k), some (vi t9), some (vi y), some (vi s9), some (vi i9)], [], (J14, H), 0, 0)
                refine WP.go 2 (And.intro (fun (b78 : ¬ s9 = 0) => ?_) (fun (b78 : s9 = 0) => ?_))
                ·
                  show WP (Call d) 262 P X (80, [some (vr (some 90) 10), some (vi k), some (vi t9), some (vi y), some (vi s9), some (vi i9)], [], (J14, H), 0, 0)
                  have hfit : FITp μ (J14 96) (HTC μ (-1) tb) y := fun p q1 q2 => bz_e1.mp (show ¬ bz (∀ p, 0 ≤ p → p < i9 → (LITp μ (J14 96) (HTC μ (-1) tb) (μ (458 + 3 * p)) (μ (459 + 3 * p)) y ↔ μ (460 + 3 * p) = 1)) = 0 from by rw [← jv1]; exact b78) p q1 (by omega)
                  refine WP.go 3 (And.intro (fun (b82 : ¬ t9 = k) => ?_) (fun (b82 : t9 = k) => ?_))
                  ·
                    show WP (Call d) 262 P X (85, [some (vr (some 90) 10), some (vi k), some (vi t9), some (vi y), some (vi s9), some (vi i9)], [], (J14, H), 0, 0)
                    refine WP.go 3 (Exists.intro (t9 + 1) (And.intro (wrp_a (by omega) (by omega)) (Exists.intro (y + 1) (And.intro (wrp_a (by omega) (by omega)) (?_)))))
                    show WP (Call d) 262 P X (19, [some (vr (some 90) 10), some (vi k), some (vi (t9 + 1)), some (vi (y + 1)), some (vi s9), some (vi i9)], [], (J14, H), 0, 0)
                    refine WP.wk (L := [some (vr (some 90) 10), some (vi k), some (vi (t9 + 1)), some (vi (y + 1)), none, none]) (And.intro rfl (And.intro rfl (And.intro rfl (And.intro rfl (And.intro trivial (And.intro trivial (trivial))))))) ?_
                    show WP (Call d) 262 P X (19, [some (vr (some 90) 10), some (vi k), some (vi (t9 + 1)), some (vi (y + 1)), none, none], [], (J14, H), 0, 0)
                    exact ih19 (t9 + 1) (y + 1) (by omega) (by omega) (iv1.trans (yeN_y (by omega) hfit b82))
                  ·
                    show WP (Call d) 262 P X (83, [some (vr (some 90) 10), some (vi k), some (vi t9), some (vi y), some (vi s9), some (vi i9)], [], (J14, H), 0, 0)
                    refine WP.go 2 (And.intro (And.intro (Nat.le_of_ble_eq_true rfl) (Nat.le_of_ble_eq_true rfl)) (And.intro trivial (?_)))
                    show P (some (vi y)) (J14, H)
                    exact fin_i ((hcg.symm.trans (iv1.trans (yeN_f (by omega) hfit b82))).symm) (h (by omega) _ hmf_12 hth_13)
                ·
                  show WP (Call d) 262 P X (79, [some (vr (some 90) 10), some (vi k), some (vi t9), some (vi y), some (vi s9), some (vi i9)], [], (J14, H), 0, 0)
                  have hnf : ¬ FITp μ (J14 96) (HTC μ (-1) tb) y := fun q => bz_e0.mp (jv1.symm.trans b78) (fun p q1 q2 => q p q1 (by omega))
                  refine WP.go 3 (Exists.intro (y + 1) (And.intro (wrp_a (by omega) (by omega)) (?_)))
                  show WP (Call d) 262 P X (19, [some (vr (some 90) 10), some (vi k), some (vi t9), some (vi (y + 1)), some (vi s9), some (vi i9)], [], (J14, H), 0, 0)
                  refine WP.wk (L := [some (vr (some 90) 10), some (vi k), some (vi t9), some (vi (y + 1)), none, none]) (And.intro rfl (And.intro rfl (And.intro rfl (And.intro rfl (And.intro trivial (And.intro trivial (trivial))))))) ?_
                  show WP (Call d) 262 P X (19, [some (vr (some 90) 10), some (vi k), some (vi t9), some (vi (y + 1)), none, none], [], (J14, H), 0, 0)
                  exact ih19 t9 (y + 1) (by omega) (by omega) (iv1.trans (yeN_n (by omega) hnf))
              ·
                show WP (Call d) 262 P X (32, [some (vr (some 90) 10), some (vi k), some (vi t9), some (vi y), some (vi s9), some (vi i9)], [], (J14, H), 0, 0)
                refine WP.go 2 (And.intro (fun (b33 : s9 = 0) => ?_) (fun (b33 : ¬ s9 = 0) => ?_))
                ·
                  show WP (Call d) 262 P X (73, [some (vr (some 90) 10), some (vi k), some (vi t9), some (vi y), some (vi s9), some (vi i9)], [], (J14, H), 0, 0)
                  refine WP.go 4 (Exists.intro (i9 + 1) (And.intro (wrp_a (by omega) (by omega)) (?_)))
                  show WP (Call d) 262 P X (26, [some (vr (some 90) 10), some (vi k), some (vi t9), some (vi y), some (vi 0), some (vi (i9 + 1))], [], (J14, H), 0, 0)
                  exact ih26 0 (i9 + 1) (by omega) (by omega) (zero_bz (fun q => bz_e0.mp (jv1.symm.trans b33) (fun p q1 q2 => q p q1 (by omega))))
                ·
                  show WP (Call d) 262 P X (34, [some (vr (some 90) 10), some (vi k), some (vi t9), some (vi y), some (vi s9), some (vi i9)], [], (J14, H), 0, 0)
                  have w1 := hV.pp i9 (by omega) (by omega)
                  have w2 := hV.ph i9 (by omega) (by omega)
                  have w3 := bz_e1.mp (show ¬ bz (∀ p, 0 ≤ p → p < i9 → (LITp μ (J14 96) (HTC μ (-1) tb) (μ (458 + 3 * p)) (μ (459 + 3 * p)) y ↔ μ (460 + 3 * p) = 1)) = 0 from by rw [← jv1]; exact b33)
                  refine WP.go 9 (And.intro rfl (Exists.intro 91 (And.intro hS.r90_1 (Exists.intro (3 * i9) (And.intro (wrp_a (by omega) (by omega)) (Exists.intro (458 + (3 * i9)) (And.intro (wrp_a (by omega) (by omega)) (And.intro (And.intro rfl (And.intro (show 0 ≤ 458 + (3 * i9) from by omega) (show 458 + (3 * i9) < H.2.1 91 from by omega))) (?_)))))))))
                  refine rw_i (Q := fun x9 => WP (Call d) 262 P X (43, [some (vr (some 90) 10), some (vi k), some (vi t9), some (vi y), some (vi s9), some (vi i9)], [vi x9, vr (some 90) 10], (J14, H), 0, 0)) (show J14 91 (458 + (3 * i9)) = μ (458 + 3 * i9) from (congrFun hM_6 _).trans (congrArg μ (by omega))) ?_
                  show WP (Call d) 262 P X (43, [some (vr (some 90) 10), some (vi k), some (vi t9), some (vi y), some (vi s9), some (vi i9)], [vi (μ (458 + 3 * i9)), vr (some 90) 10], (J14, H), 0, 0)
                  refine WP.go 10 (And.intro rfl (Exists.intro 91 (And.intro hS.r90_1 (Exists.intro (3 * i9) (And.intro (wrp_a (by omega) (by omega)) (Exists.intro (458 + (3 * i9)) (And.intro (wrp_a (by omega) (by omega)) (Exists.intro ((458 + (3 * i9)) + 1) (And.intro (wrp_a (by omega) (by omega)) (And.intro (And.intro rfl (And.intro (show 0 ≤ (458 + (3 * i9)) + 1 from by omega) (show (458 + (3 * i9)) + 1 < H.2.1 91 from by omega))) (?_)))))))))))
                  refine rw_i (Q := fun x9 => WP (Call d) 262 P X (53, [some (vr (some 90) 10), some (vi k), some (vi t9), some (vi y), some (vi s9), some (vi i9)], [vi x9, vi (μ (458 + 3 * i9)), vr (some 90) 10], (J14, H), 0, 0)) (show J14 91 ((458 + (3 * i9)) + 1) = μ (459 + 3 * i9) from (congrFun hM_6 _).trans (congrArg μ (by omega))) ?_
                  show WP (Call d) 262 P X (53, [some (vr (some 90) 10), some (vi k), some (vi t9), some (vi y), some (vi s9), some (vi i9)], [vi (μ (459 + 3 * i9)), vi (μ (458 + 3 * i9)), vr (some 90) 10], (J14, H), 0, 0)
                  refine WP.go 2 (And.intro (And.intro (Nat.le_of_ble_eq_true rfl) (Nat.le_of_ble_eq_true rfl)) (And.intro rfl (?_)))
                  show Call d 218 [vr (some 90) 10, vi (μ (458 + 3 * i9)), vi (μ (459 + 3 * i9)), vi y] (J14, H) _ _
                  refine s_12_isLit (by omega) hS hM_6 hV hA_11 h_9 h_10 htb (by omega) (by omega) (by omega) ?_
                  show WP (Call d) 262 P X (55, [some (vr (some 90) 10), some (vi k), some (vi t9), some (vi y), some (vi s9), some (vi i9)], [vi (bz (LITp μ (J14 96) (HTC μ (-1) tb) (μ (458 + 3 * i9)) (μ (459 + 3 * i9)) y))], (J14, H), 0, 0)
                  refine WP.go 10 (And.intro rfl (Exists.intro 91 (And.intro hS.r90_1 (Exists.intro (3 * i9) (And.intro (wrp_a (by omega) (by omega)) (Exists.intro (458 + (3 * i9)) (And.intro (wrp_a (by omega) (by omega)) (Exists.intro ((458 + (3 * i9)) + 2) (And.intro (wrp_a (by omega) (by omega)) (And.intro (And.intro rfl (And.intro (show 0 ≤ (458 + (3 * i9)) + 2 from by omega) (show (458 + (3 * i9)) + 2 < H.2.1 91 from by omega))) (?_)))))))))))
                  refine rw_i (Q := fun x9 => WP (Call d) 262 P X (65, [some (vr (some 90) 10), some (vi k), some (vi t9), some (vi y), some (vi s9), some (vi i9)], [vi x9, vi (bz (LITp μ (J14 96) (HTC μ (-1) tb) (μ (458 + 3 * i9)) (μ (459 + 3 * i9)) y))], (J14, H), 0, 0)) (show J14 91 ((458 + (3 * i9)) + 2) = μ (460 + 3 * i9) from (congrFun hM_6 _).trans (congrArg μ (by omega))) ?_
                  show WP (Call d) 262 P X (65, [some (vr (some 90) 10), some (vi k), some (vi t9), some (vi y), some (vi s9), some (vi i9)], [vi (μ (460 + 3 * i9)), vi (bz (LITp μ (J14 96) (HTC μ (-1) tb) (μ (458 + 3 * i9)) (μ (459 + 3 * i9)) y))], (J14, H), 0, 0)
                  refine WP.go 2 (And.intro (fun (b66 : ¬ μ (460 + 3 * i9) = 1) => ?_) (fun (b66 : μ (460 + 3 * i9) = 1) => ?_))
                  ·
                    show WP (Call d) 262 P X (69, [some (vr (some 90) 10), some (vi k), some (vi t9), some (vi y), some (vi s9), some (vi i9)], [vi (bz (LITp μ (J14 96) (HTC μ (-1) tb) (μ (458 + 3 * i9)) (μ (459 + 3 * i9)) y))], (J14, H), 0, 0)
                    refine WP.go 2 (And.intro (fun (b70 : ¬ bz (LITp μ (J14 96) (HTC μ (-1) tb) (μ (458 + 3 * i9)) (μ (459 + 3 * i9)) y) = 0) => ?_) (fun (b70 : bz (LITp μ (J14 96) (HTC μ (-1) tb) (μ (458 + 3 * i9)) (μ (459 + 3 * i9)) y) = 0) => ?_))
                    ·
                      show WP (Call d) 262 P X (73, [some (vr (some 90) 10), some (vi k), some (vi t9), some (vi y), some (vi s9), some (vi i9)], [], (J14, H), 0, 0)
                      refine WP.go 4 (Exists.intro (i9 + 1) (And.intro (wrp_a (by omega) (by omega)) (?_)))
                      show WP (Call d) 262 P X (26, [some (vr (some 90) 10), some (vi k), some (vi t9), some (vi y), some (vi 0), some (vi (i9 + 1))], [], (J14, H), 0, 0)
                      exact ih26 0 (i9 + 1) (by omega) (by omega) (zero_bz (fun q => b66 ((q i9 (by omega) (by omega)).mp (bz_e1.mp b70))))
                    ·
                      show WP (Call d) 262 P X (71, [some (vr (some 90) 10), some (vi k), some (vi t9), some (vi y), some (vi s9), some (vi i9)], [], (J14, H), 0, 0)
                      refine WP.go 5 (Exists.intro (i9 + 1) (And.intro (wrp_a (by omega) (by omega)) (?_)))
                      show WP (Call d) 262 P X (26, [some (vr (some 90) 10), some (vi k), some (vi t9), some (vi y), some (vi 1), some (vi (i9 + 1))], [], (J14, H), 0, 0)
                      exact ih26 1 (i9 + 1) (by omega) (by omega) (one_bz (fun p q1 q2 => by rcases Int.lt_or_eq_of_le (show p ≤ i9 by omega) with z | z; exact w3 p q1 z; rw [z]; exact ⟨fun q => absurd q (bz_e0.mp b70), fun q => absurd q b66⟩))
                  ·
                    show WP (Call d) 262 P X (67, [some (vr (some 90) 10), some (vi k), some (vi t9), some (vi y), some (vi s9), some (vi i9)], [vi (bz (LITp μ (J14 96) (HTC μ (-1) tb) (μ (458 + 3 * i9)) (μ (459 + 3 * i9)) y))], (J14, H), 0, 0)
                    refine WP.go 3 (And.intro (fun (b70 : ¬ bz (LITp μ (J14 96) (HTC μ (-1) tb) (μ (458 + 3 * i9)) (μ (459 + 3 * i9)) y) = 1) => ?_) (fun (b70 : bz (LITp μ (J14 96) (HTC μ (-1) tb) (μ (458 + 3 * i9)) (μ (459 + 3 * i9)) y) = 1) => ?_))
                    ·
                      show WP (Call d) 262 P X (73, [some (vr (some 90) 10), some (vi k), some (vi t9), some (vi y), some (vi s9), some (vi i9)], [], (J14, H), 0, 0)
                      refine WP.go 4 (Exists.intro (i9 + 1) (And.intro (wrp_a (by omega) (by omega)) (?_)))
                      show WP (Call d) 262 P X (26, [some (vr (some 90) 10), some (vi k), some (vi t9), some (vi y), some (vi 0), some (vi (i9 + 1))], [], (J14, H), 0, 0)
                      exact ih26 0 (i9 + 1) (by omega) (by omega) (zero_bz (fun q => b70 (bz_1 ((q i9 (by omega) (by omega)).mpr b66))))
                    ·
                      show WP (Call d) 262 P X (71, [some (vr (some 90) 10), some (vi k), some (vi t9), some (vi y), some (vi s9), some (vi i9)], [], (J14, H), 0, 0)
                      refine WP.go 5 (Exists.intro (i9 + 1) (And.intro (wrp_a (by omega) (by omega)) (?_)))
                      show WP (Call d) 262 P X (26, [some (vr (some 90) 10), some (vi k), some (vi t9), some (vi y), some (vi 1), some (vi (i9 + 1))], [], (J14, H), 0, 0)
                      exact ih26 1 (i9 + 1) (by omega) (by omega) (one_bz (fun p q1 q2 => by rcases Int.lt_or_eq_of_le (show p ≤ i9 by omega) with z | z; exact w3 p q1 z; rw [z]; exact ⟨fun _ => b66, fun _ => bz_eq1.mp b70⟩))
          exact lp26 ((μ 7 - 0 : Int).toNat + 1) 1 0 (by omega) (by omega) (one_bz (fun p q1 q2 => by omega))
    exact lp19 ((100 - 0 : Int).toNat + 1) 0 0 (by omega) (by omega) rfl
  ·
    show WP (Call d) 262 P X (4, [some (vr (some 90) 10), some (vi k), none, none, none, none], [vr (some 90) 10], (I, H), 0, 0)
    refine WP.go 6 (And.intro (And.intro rfl trivial) (And.intro rfl (And.intro (fun (b10 : ¬ 0 < 1) => (absurd b10 (by omega))) (fun (b10 : 0 < 1) => ?_))))
    show WP (Call d) 262 P X (11, [some (vr (some 90) 10), some (vi k), none, none, none, none], [], ((upI I 90 0 1), H), 0, 0)
    refine WP.go 2 (And.intro (And.intro (Nat.le_of_ble_eq_true rfl) (Nat.le_of_ble_eq_true rfl)) (And.intro trivial (?_)))
    show P (some (vi 0)) ((upI I 90 0 1), H)
    exact hk1 (by omega) _ 0 (.inl rfl) (MF.th hK _) (upI_same _ _ _ _)

theorem s_12_count {d : Nat} {P : Option qV → qH → Prop} {X : Nat → qH → Prop} {I : qI} {H : qS} {μ : Int → Int} (hd : 3 ≤ d) {wh : Int} (hS : Shp H) (hM : I 91 = μ) (hV : IM μ) (hK : MS I) (h : ∀ J : qI, MF I J → J 90 0 = 0 → P (some (vi (CNT μ wh))) (J, H)) :
    Call d 267 [vr (some 90) 10, vi wh] (I, H) P X := by
  obtain ⟨d, rfl⟩ : ∃ e, d = e + 1 := ⟨d - 1, by omega⟩
  have hl91 := hS.l91
  obtain ⟨tb, h30⟩ : ∃ tb, I 90 30 = tb := ⟨_, rfl⟩
  obtain ⟨mo, h23⟩ : ∃ mo, I 90 23 = mo := ⟨_, rfl⟩
  have htb : 0 ≤ tb ∧ tb ≤ 29 := by have := hK.2.2.2; omega
  have hmo : (-1 : Int) = -1 ∨ (0 ≤ mo ∧ mo ≤ 48) := .inl rfl
  have h22 := hK.1
  have h29 := hK.2.1
  show WP (Call d) 267 P X (0, [some (vr (some 90) 10), some (vi wh)], [], (I, H), 0, 0)
  refine WP.go 3 (And.intro (And.intro rfl trivial) (?_))
  show WP (Call d) 267 P X (3, [some (vr (some 90) 10), some (vi wh)], [], ((upI I 90 0 0), H), 0, 0)
  generalize hq_J0 : (upI I 90 0 0) = J0
  have e_J0 : J0 90 = (fun j => if j = 0 then 0 else I 90 j) := by rw [← hq_J0]; exact upI_self _ _ _ _
  have f_J0 : ∀ a, a ≠ 90 → J0 a = I a := fun a q => by rw [← hq_J0]; exact upI_cell q
  have hmf : MF I J0 := MF.t0 hK e_J0 f_J0
  have hth : J0 90 0 = 0 := by rw [e_J0]; rfl
  have hM_1 : J0 91 = μ := (f_J0 91 (by omega)).trans hM
  have h_2 : J0 90 22 = -1 := by rw [e_J0]; exact h22
  have h_3 : J0 90 23 = mo := by rw [e_J0]; exact h23
  have h_4 : J0 90 29 = -1 := by rw [e_J0]; exact h29
  have h_5 : J0 90 30 = tb := by rw [e_J0]; exact h30
  refine WP.go 2 (And.intro (fun (b4 : ¬ wh = 0) => ?_) (fun (b4 : wh = 0) => ?_))
  ·
    show WP (Call d) 267 P X (10, [some (vr (some 90) 10), some (vi wh)], [], (J0, H), 0, 0)
    refine WP.go 3 (And.intro (fun (b12 : ¬ wh = 1) => ?_) (fun (b12 : wh = 1) => ?_))
    ·
      show WP (Call d) 267 P X (18, [some (vr (some 90) 10), some (vi wh)], [], (J0, H), 0, 0)
      refine WP.go 3 (And.intro (fun (b20 : ¬ wh = 2) => ?_) (fun (b20 : wh = 2) => ?_))
      ·
        show WP (Call d) 267 P X (26, [some (vr (some 90) 10), some (vi wh)], [], (J0, H), 0, 0)
        refine WP.go 3 (And.intro (fun (b28 : ¬ wh = 3) => ?_) (fun (b28 : wh = 3) => ?_))
        ·
          show WP (Call d) 267 P X (34, [some (vr (some 90) 10), some (vi wh)], [], (J0, H), 0, 0)
          refine WP.go 3 (And.intro (fun (b36 : ¬ wh = 4) => ?_) (fun (b36 : wh = 4) => ?_))
          ·
            show WP (Call d) 267 P X (42, [some (vr (some 90) 10), some (vi wh)], [], (J0, H), 0, 0)
            refine WP.go 3 (And.intro (fun (b44 : ¬ wh = 5) => ?_) (fun (b44 : wh = 5) => ?_))
            ·
              show WP (Call d) 267 P X (50, [some (vr (some 90) 10), some (vi wh)], [], (J0, H), 0, 0)
              refine WP.go 3 (And.intro (fun (b52 : ¬ wh = 6) => ?_) (fun (b52 : wh = 6) => ?_))
              ·
                show WP (Call d) 267 P X (58, [some (vr (some 90) 10), some (vi wh)], [], (J0, H), 0, 0)
                refine WP.go 3 (And.intro (fun (b60 : ¬ wh = 7) => ?_) (fun (b60 : wh = 7) => ?_))
                ·
                  show WP (Call d) 267 P X (66, [some (vr (some 90) 10), some (vi wh)], [], (J0, H), 0, 0)
                  refine WP.go 3 (And.intro (fun (b68 : ¬ wh = 8) => ?_) (fun (b68 : wh = 8) => ?_))
                  ·
                    show WP (Call d) 267 P X (74, [some (vr (some 90) 10), some (vi wh)], [], (J0, H), 0, 0)
                    refine WP.go 3 (And.intro (fun (b76 : ¬ wh = 9) => ?_) (fun (b76 : wh = 9) => ?_))
                    ·
                      show WP (Call d) 267 P X (80, [some (vr (some 90) 10), some (vi wh)], [], (J0, H), 0, 0)
                      refine WP.go 2 (And.intro (And.intro (Nat.le_of_ble_eq_true rfl) (Nat.le_of_ble_eq_true rfl)) (And.intro trivial (?_)))
                      show P (some (vi (-1))) (J0, H)
                      exact fin_i (by unfold CNT; repeat (rw [if_neg (by omega)])) (h _ hmf hth)
                    ·
                      show WP (Call d) 267 P X (77, [some (vr (some 90) 10), some (vi wh)], [], (J0, H), 0, 0)
                      refine WP.go 2 (And.intro (And.intro (Nat.le_of_ble_eq_true rfl) (Nat.le_of_ble_eq_true rfl)) (And.intro rfl (?_)))
                      show Call d 209 [vr (some 90) 10] (J0, H) _ _
                      refine s_12_load (by omega) hS hM_1 hV ?_
                      show WP (Call d) 267 P X (79, [some (vr (some 90) 10), some (vi wh)], [vi (LOAD μ)], (J0, H), 0, 0)
                      refine WP.go 2 (And.intro (And.intro (Nat.le_of_ble_eq_true rfl) (Nat.le_of_ble_eq_true rfl)) (And.intro trivial (?_)))
                      show P (some (vi (LOAD μ))) (J0, H)
                      exact fin_i (by rw [show wh = 9 by omega]; rfl) (h _ hmf hth)
                  ·
                    show WP (Call d) 267 P X (69, [some (vr (some 90) 10), some (vi wh)], [], (J0, H), 0, 0)
                    refine WP.go 4 (And.intro rfl (Exists.intro 91 (And.intro hS.r90_1 (And.intro (And.intro rfl (And.intro (show 0 ≤ 8 from by omega) (show 8 < H.2.1 91 from by omega))) (?_)))))
                    refine rw_i (Q := fun x9 => WP (Call d) 267 P X (73, [some (vr (some 90) 10), some (vi wh)], [vi x9], (J0, H), 0, 0)) (congrFun hM_1 _) ?_
                    show WP (Call d) 267 P X (73, [some (vr (some 90) 10), some (vi wh)], [vi (μ 8)], (J0, H), 0, 0)
                    refine WP.go 2 (And.intro (And.intro (Nat.le_of_ble_eq_true rfl) (Nat.le_of_ble_eq_true rfl)) (And.intro trivial (?_)))
                    show P (some (vi (μ 8))) (J0, H)
                    exact fin_i (by rw [show wh = 8 by omega]; rfl) (h _ hmf hth)
                ·
                  show WP (Call d) 267 P X (61, [some (vr (some 90) 10), some (vi wh)], [], (J0, H), 0, 0)
                  refine WP.go 4 (And.intro rfl (Exists.intro 91 (And.intro hS.r90_1 (And.intro (And.intro rfl (And.intro (show 0 ≤ 7 from by omega) (show 7 < H.2.1 91 from by omega))) (?_)))))
                  refine rw_i (Q := fun x9 => WP (Call d) 267 P X (65, [some (vr (some 90) 10), some (vi wh)], [vi x9], (J0, H), 0, 0)) (congrFun hM_1 _) ?_
                  show WP (Call d) 267 P X (65, [some (vr (some 90) 10), some (vi wh)], [vi (μ 7)], (J0, H), 0, 0)
                  refine WP.go 2 (And.intro (And.intro (Nat.le_of_ble_eq_true rfl) (Nat.le_of_ble_eq_true rfl)) (And.intro trivial (?_)))
                  show P (some (vi (μ 7))) (J0, H)
                  exact fin_i (by rw [show wh = 7 by omega]; rfl) (h _ hmf hth)
              ·
                show WP (Call d) 267 P X (53, [some (vr (some 90) 10), some (vi wh)], [], (J0, H), 0, 0)
                refine WP.go 4 (And.intro rfl (Exists.intro 91 (And.intro hS.r90_1 (And.intro (And.intro rfl (And.intro (show 0 ≤ 6 from by omega) (show 6 < H.2.1 91 from by omega))) (?_)))))
                refine rw_i (Q := fun x9 => WP (Call d) 267 P X (57, [some (vr (some 90) 10), some (vi wh)], [vi x9], (J0, H), 0, 0)) (congrFun hM_1 _) ?_
                show WP (Call d) 267 P X (57, [some (vr (some 90) 10), some (vi wh)], [vi (μ 6)], (J0, H), 0, 0)
                refine WP.go 2 (And.intro (And.intro (Nat.le_of_ble_eq_true rfl) (Nat.le_of_ble_eq_true rfl)) (And.intro trivial (?_)))
                show P (some (vi (μ 6))) (J0, H)
                exact fin_i (by rw [show wh = 6 by omega]; rfl) (h _ hmf hth)
            ·
              show WP (Call d) 267 P X (45, [some (vr (some 90) 10), some (vi wh)], [], (J0, H), 0, 0)
              refine WP.go 4 (And.intro rfl (Exists.intro 91 (And.intro hS.r90_1 (And.intro (And.intro rfl (And.intro (show 0 ≤ 5 from by omega) (show 5 < H.2.1 91 from by omega))) (?_)))))
              refine rw_i (Q := fun x9 => WP (Call d) 267 P X (49, [some (vr (some 90) 10), some (vi wh)], [vi x9], (J0, H), 0, 0)) (congrFun hM_1 _) ?_
              show WP (Call d) 267 P X (49, [some (vr (some 90) 10), some (vi wh)], [vi (μ 5)], (J0, H), 0, 0)
              refine WP.go 2 (And.intro (And.intro (Nat.le_of_ble_eq_true rfl) (Nat.le_of_ble_eq_true rfl)) (And.intro trivial (?_)))
              show P (some (vi (μ 5))) (J0, H)
              exact fin_i (by rw [show wh = 5 by omega]; rfl) (h _ hmf hth)
          ·
            show WP (Call d) 267 P X (37, [some (vr (some 90) 10), some (vi wh)], [], (J0, H), 0, 0)
            refine WP.go 4 (And.intro rfl (Exists.intro 91 (And.intro hS.r90_1 (And.intro (And.intro rfl (And.intro (show 0 ≤ 4 from by omega) (show 4 < H.2.1 91 from by omega))) (?_)))))
            refine rw_i (Q := fun x9 => WP (Call d) 267 P X (41, [some (vr (some 90) 10), some (vi wh)], [vi x9], (J0, H), 0, 0)) (congrFun hM_1 _) ?_
            show WP (Call d) 267 P X (41, [some (vr (some 90) 10), some (vi wh)], [vi (μ 4)], (J0, H), 0, 0)
            refine WP.go 2 (And.intro (And.intro (Nat.le_of_ble_eq_true rfl) (Nat.le_of_ble_eq_true rfl)) (And.intro trivial (?_)))
            show P (some (vi (μ 4))) (J0, H)
            exact fin_i (by rw [show wh = 4 by omega]; rfl) (h _ hmf hth)
        ·
          show WP (Call d) 267 P X (29, [some (vr (some 90) 10), some (vi wh)], [], (J0, H), 0, 0)
          refine WP.go 4 (And.intro rfl (Exists.intro 91 (And.intro hS.r90_1 (And.intro (And.intro rfl (And.intro (show 0 ≤ 0 from by omega) (show 0 < H.2.1 91 from by omega))) (?_)))))
          refine rw_i (Q := fun x9 => WP (Call d) 267 P X (33, [some (vr (some 90) 10), some (vi wh)], [vi x9], (J0, H), 0, 0)) (congrFun hM_1 _) ?_
          show WP (Call d) 267 P X (33, [some (vr (some 90) 10), some (vi wh)], [vi (μ 0)], (J0, H), 0, 0)
          refine WP.go 2 (And.intro (And.intro (Nat.le_of_ble_eq_true rfl) (Nat.le_of_ble_eq_true rfl)) (And.intro trivial (?_)))
          show P (some (vi (μ 0))) (J0, H)
          exact fin_i (by rw [show wh = 3 by omega]; rfl) (h _ hmf hth)
      ·
        show WP (Call d) 267 P X (21, [some (vr (some 90) 10), some (vi wh)], [], (J0, H), 0, 0)
        refine WP.go 4 (And.intro rfl (Exists.intro 91 (And.intro hS.r90_1 (And.intro (And.intro rfl (And.intro (show 0 ≤ 3 from by omega) (show 3 < H.2.1 91 from by omega))) (?_)))))
        refine rw_i (Q := fun x9 => WP (Call d) 267 P X (25, [some (vr (some 90) 10), some (vi wh)], [vi x9], (J0, H), 0, 0)) (congrFun hM_1 _) ?_
        show WP (Call d) 267 P X (25, [some (vr (some 90) 10), some (vi wh)], [vi (μ 3)], (J0, H), 0, 0)
        refine WP.go 2 (And.intro (And.intro (Nat.le_of_ble_eq_true rfl) (Nat.le_of_ble_eq_true rfl)) (And.intro trivial (?_)))
        show P (some (vi (μ 3))) (J0, H)
        exact fin_i (by rw [show wh = 2 by omega]; rfl) (h _ hmf hth)
    ·
      show WP (Call d) 267 P X (13, [some (vr (some 90) 10), some (vi wh)], [], (J0, H), 0, 0)
      refine WP.go 4 (And.intro rfl (Exists.intro 91 (And.intro hS.r90_1 (And.intro (And.intro rfl (And.intro (show 0 ≤ 2 from by omega) (show 2 < H.2.1 91 from by omega))) (?_)))))
      refine rw_i (Q := fun x9 => WP (Call d) 267 P X (17, [some (vr (some 90) 10), some (vi wh)], [vi x9], (J0, H), 0, 0)) (congrFun hM_1 _) ?_
      show WP (Call d) 267 P X (17, [some (vr (some 90) 10), some (vi wh)], [vi (μ 2)], (J0, H), 0, 0)
      refine WP.go 2 (And.intro (And.intro (Nat.le_of_ble_eq_true rfl) (Nat.le_of_ble_eq_true rfl)) (And.intro trivial (?_)))
      show P (some (vi (μ 2))) (J0, H)
      exact fin_i (by rw [show wh = 1 by omega]; rfl) (h _ hmf hth)
  ·
    show WP (Call d) 267 P X (5, [some (vr (some 90) 10), some (vi wh)], [], (J0, H), 0, 0)
    refine WP.go 4 (And.intro rfl (Exists.intro 91 (And.intro hS.r90_1 (And.intro (And.intro rfl (And.intro (show 0 ≤ 1 from by omega) (show 1 < H.2.1 91 from by omega))) (?_)))))
    refine rw_i (Q := fun x9 => WP (Call d) 267 P X (9, [some (vr (some 90) 10), some (vi wh)], [vi x9], (J0, H), 0, 0)) (congrFun hM_1 _) ?_
    show WP (Call d) 267 P X (9, [some (vr (some 90) 10), some (vi wh)], [vi (μ 1)], (J0, H), 0, 0)
    refine WP.go 2 (And.intro (And.intro (Nat.le_of_ble_eq_true rfl) (Nat.le_of_ble_eq_true rfl)) (And.intro trivial (?_)))
    show P (some (vi (μ 1))) (J0, H)
    exact fin_i (by rw [show wh = 0 by omega]; rfl) (h _ hmf hth)

theorem s_12_fault {d : Nat} {P : Option qV → qH → Prop} {X : Nat → qH → Prop} {I : qI} {H : qS} {μ : Int → Int} (hd : 1 ≤ d) (hS : Shp H) (hM : I 91 = μ) (hV : IM μ) (hK : MS I) (h : ∀ J : qI, MF I J → J 90 0 = 0 → P (some (vi (I 90 10))) (J, H)) :
    Call d 207 [vr (some 90) 10] (I, H) P X := by
  obtain ⟨d, rfl⟩ : ∃ e, d = e + 1 := ⟨d - 1, by omega⟩
  obtain ⟨tb, h30⟩ : ∃ tb, I 90 30 = tb := ⟨_, rfl⟩
  obtain ⟨mo, h23⟩ : ∃ mo, I 90 23 = mo := ⟨_, rfl⟩
  have htb : 0 ≤ tb ∧ tb ≤ 29 := by have := hK.2.2.2; omega
  have hmo : (-1 : Int) = -1 ∨ (0 ≤ mo ∧ mo ≤ 48) := .inl rfl
  have h22 := hK.1
  have h29 := hK.2.1
  show WP (Call d) 207 P X (0, [some (vr (some 90) 10)], [], (I, H), 0, 0)
  refine WP.go 3 (And.intro (And.intro rfl trivial) (?_))
  show WP (Call d) 207 P X (3, [some (vr (some 90) 10)], [], ((upI I 90 0 0), H), 0, 0)
  generalize hq_J0 : (upI I 90 0 0) = J0
  have e_J0 : J0 90 = (fun j => if j = 0 then 0 else I 90 j) := by rw [← hq_J0]; exact upI_self _ _ _ _
  have f_J0 : ∀ a, a ≠ 90 → J0 a = I a := fun a q => by rw [← hq_J0]; exact upI_cell q
  have hmf : MF I J0 := MF.t0 hK e_J0 f_J0
  have hth : J0 90 0 = 0 := by rw [e_J0]; rfl
  have hM_1 : J0 91 = μ := (f_J0 91 (by omega)).trans hM
  have h_2 : J0 90 22 = -1 := by rw [e_J0]; exact h22
  have h_3 : J0 90 23 = mo := by rw [e_J0]; exact h23
  have h_4 : J0 90 29 = -1 := by rw [e_J0]; exact h29
  have h_5 : J0 90 30 = tb := by rw [e_J0]; exact h30
  refine WP.go 3 (And.intro rfl (And.intro (And.intro (Nat.le_of_ble_eq_true rfl) (Nat.le_of_ble_eq_true rfl)) (And.intro trivial (?_))))
  show P (some (vi (J0 90 10))) (J0, H)
  exact fin_i (by rw [e_J0]; rfl) (h _ hmf hth)

