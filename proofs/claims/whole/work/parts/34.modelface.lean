/-- the reference between calls -/
def MS (I : qI) : Prop := I 90 22 = -1 ∧ I 90 29 = -1 ∧ (0 ≤ I 90 23 ∧ I 90 23 ≤ 48) ∧ (0 ≤ I 90 30 ∧ I 90 30 ≤ 29)
/-- a question changes the reference's notes alone -/
def MF (I J : qI) : Prop := (∀ a, a < 90 ∨ a = 91 ∨ a = 92 ∨ a = 94 ∨ a = 95 ∨ 100 ≤ a → J a = I a) ∧ (∀ s, s = 3 ∨ s = 6 ∨ s = 10 ∨ s = 17 ∨ (13 ≤ s ∧ s ≤ 15) → J 90 s = I 90 s) ∧ MS J
theorem MF.t0 {I J : qI} {v : Int} (hK : MS I) (e : J 90 = fun j => if j = 0 then v else I 90 j) (f : ∀ a, a ≠ 90 → J a = I a) : MF I J :=
  ⟨fun a q => f a (by omega), fun s q => by rw [e]; exact if_neg (by omega), by unfold MS; rw [e]; exact hK⟩
theorem MF.th {I : qI} (hK : MS I) (v : Int) : MF I (upI I 90 0 v) := MF.t0 hK (upI_self _ _ _ _) (fun a q => upI_cell q)
theorem MF.tu {I J K : qI} (h : MF I J) (f : ∀ a, a ≠ 96 → K a = J a) : MF I K :=
  ⟨fun a q => (f a (by omega)).trans (h.1 a q), fun s q => by rw [f 90 (by omega)]; exact h.2.1 s q, by have := h.2.2; unfold MS at *; rw [f 90 (by omega)]; exact this⟩
theorem MF.lb {I J K : qI} {b : Int} (h : MF I J) (hb : 0 ≤ b ∧ b ≤ 29) (e : ∀ s, s ≠ 29 → s ≠ 30 → K 90 s = J 90 s) (g : K 90 29 = -1) (k : K 90 30 = b) (f : ∀ a, a ≠ 90 → K a = J a) : MF I K :=
  ⟨fun a q => (f a (by omega)).trans (h.1 a q), fun s q => (e s (by omega) (by omega)).trans (h.2.1 s q), by have := h.2.2; unfold MS at *; rw [e 22 (by omega) (by omega), e 23 (by omega) (by omega), g, k]; exact ⟨this.1, rfl, this.2.2.1, hb⟩⟩
theorem HT_i {μ : Int → Int} (hV : IM μ) (tb : Int) : ∀ c, 0 ≤ c → c < 81 → HTC μ (-1) tb c = HT μ c := fun c _ _ => HTC_irr (by omega) hV _ _ _
theorem HT_z {μ : Int → Int} : ∀ c, 0 ≤ c → c < 81 → HTC μ (-1) 0 c = HT μ c := fun _ _ _ => rfl
theorem s_12_thrown {d : Nat} {P : Option qV → qH → Prop} {X : Nat → qH → Prop} {I : qI} {H : qS} (hd : 1 ≤ d) (hS : Shp H) (h : P (some (vi (I 90 0))) (I, H)) :
    Call d 176 [vr (some 90) 10] (I, H) P X := by
  obtain ⟨d, rfl⟩ : ∃ e, d = e + 1 := ⟨d - 1, by omega⟩
  show WP (Call d) 176 P X (0, [some (vr (some 90) 10)], [], (I, H), 0, 0)
  refine WP.go 3 (And.intro rfl (And.intro (And.intro (Nat.le_of_ble_eq_true rfl) (Nat.le_of_ble_eq_true rfl)) (And.intro trivial (?_))))
  show P (some (vi (I 90 0))) (I, H)
  exact fin_i (by first | rfl | omega | exact zero_bz (by omega) | exact one_bz (by omega)) h

theorem s_12_angle {d : Nat} {P : Option qV → qH → Prop} {X : Nat → qH → Prop} {I : qI} {H : qS} {μ : Int → Int} (hd : 4 ≤ d) {y : Int} (hS : Shp H) (hM : I 91 = μ) (hV : IM μ) (hK : MS I) (hk1 : (¬ ((0 ≤ y ∧ y < 100))) → ∀ (J : qI) (v : Int), (v = 0 ∨ v = 1) → MF I J → J 90 0 = 1 → P (some (vi v)) (J, H)) (h : ((0 ≤ y ∧ y < 100)) → ∀ J : qI, MF I J → J 90 0 = 0 → P (some (vi (AN μ y))) (J, H)) :
    Call d 211 [vr (some 90) 10, vi y] (I, H) P X := by
  obtain ⟨d, rfl⟩ : ∃ e, d = e + 1 := ⟨d - 1, by omega⟩
  have hl96 := hS.l96
  obtain ⟨tb, h30⟩ : ∃ tb, I 90 30 = tb := ⟨_, rfl⟩
  obtain ⟨mo, h23⟩ : ∃ mo, I 90 23 = mo := ⟨_, rfl⟩
  have htb : 0 ≤ tb ∧ tb ≤ 29 := by have := hK.2.2.2; omega
  have hmo : (-1 : Int) = -1 ∨ (0 ≤ mo ∧ mo ≤ 48) := .inl rfl
  have h22 := hK.1
  have h29 := hK.2.1
  show WP (Call d) 211 P X (0, [some (vr (some 90) 10), some (vi y)], [], (I, H), 0, 0)
  refine WP.go 3 (And.intro (And.intro (Nat.le_of_ble_eq_true rfl) (Nat.le_of_ble_eq_true rfl)) (And.intro rfl (?_)))
  show Call d 179 [vi y] (I, H) _ _
  refine s_12_isYear (by omega)  ?_
  show WP (Call d) 211 P X (3, [some (vr (some 90) 10), some (vi y)], [vi (bz (0 ≤ y ∧ y ≤ 99)), vr (some 90) 10], (I, H), 0, 0)
  refine WP.go 1 (And.intro (fun (b3 : ¬ bz (0 ≤ y ∧ y ≤ 99) = 0) => ?_) (fun (b3 : bz (0 ≤ y ∧ y ≤ 99) = 0) => ?_))
  ·
    show WP (Call d) 211 P X (6, [some (vr (some 90) 10), some (vi y)], [vr (some 90) 10], (I, H), 0, 0)
    have z3 := bz_e1.mp b3
    refine WP.go 5 (And.intro (And.intro rfl trivial) (And.intro rfl (And.intro (fun (b10 : ¬ 0 < 0) => ?_) (fun (b10 : 0 < 0) => (absurd b10 (by omega))))))
    show WP (Call d) 211 P X (13, [some (vr (some 90) 10), some (vi y)], [], ((upI I 90 0 0), H), 0, 0)
    generalize hq_J0 : (upI I 90 0 0) = J0
    have e_J0 : J0 90 = (fun j => if j = 0 then 0 else I 90 j) := by rw [← hq_J0]; exact upI_self _ _ _ _
    have f_J0 : ∀ a, a ≠ 90 → J0 a = I a := fun a q => by rw [← hq_J0]; exact upI_cell q
    have hmf : MF I J0 := MF.t0 hK e_J0 f_J0
    have hth : J0 90 0 = 0 := by rw [e_J0]; rfl
    have hM_1 : J0 91 = μ := (f_J0 91 (by omega)).trans hM
    have h_2 : J0 90 22 = -1 := by rw [e_J0]; exact h22
    have h_3 : J0 90 23 = mo := by rw [e_J0]; exact h23
    have h_4 : J0 90 29 = -1 := by rw [e_J0]; exact h29
    have h_5 : J0 90 30 = tb := by rw [e_J0]; exact h30
    refine WP.go 2 (And.intro (And.intro (Nat.le_of_ble_eq_true rfl) (Nat.le_of_ble_eq_true rfl)) (And.intro rfl (?_)))
    show Call d 210 [vr (some 90) 10] (J0, H) _ _
    refine s_12_turn (by omega) hS hM_1 hV h_2 h_3 hmo (fun J14 e14 f14 => ?_)
    show WP (Call d) 211 P X (15, [some (vr (some 90) 10), some (vi y)], [], (J14, H), 0, 0)
    have hM_6 : J14 91 = μ := (f14 91 (by omega)).trans hM_1
    have h_7 : J14 90 22 = -1 := (congrFun (f14 90 (by omega)) 22).trans h_2
    have h_8 : J14 90 23 = mo := (congrFun (f14 90 (by omega)) 23).trans h_3
    have h_9 : J14 90 29 = -1 := (congrFun (f14 90 (by omega)) 29).trans h_4
    have h_10 : J14 90 30 = tb := (congrFun (f14 90 (by omega)) 30).trans h_5
    have hA_11 : ∀ y, 0 ≤ y → y < 100 → 0 ≤ J14 96 y ∧ J14 96 y < 96 := fun y q1 q2 => by rw [e14 y q1 q2]; exact ANG_bd hV _ _ _
    have eA : ∀ y, 0 ≤ y → y < 100 → J14 96 y = AN μ y := fun y q1 q2 => (e14 y q1 q2).trans (ANG_irr (by omega) _ _ _)
    have hmf_12 : MF I J14 := hmf.tu f14
    have hth_13 : J14 90 0 = 0 := (congrFun (f14 90 (by omega)) 0).trans hth
    refine WP.go 5 (And.intro rfl (Exists.intro 96 (And.intro hS.r90_24 (And.intro (And.intro rfl (And.intro (show 0 ≤ y from by omega) (show y < H.2.1 96 from by omega))) (And.intro (And.intro (Nat.le_of_ble_eq_true rfl) (Nat.le_of_ble_eq_true rfl)) (And.intro trivial (?_)))))))
    show P (some (vi (J14 96 y))) (J14, H)
    exact fin_i (eA _ (by omega) (by omega)) (h (by omega) _ hmf_12 hth_13)
  ·
    show WP (Call d) 211 P X (4, [some (vr (some 90) 10), some (vi y)], [vr (some 90) 10], (I, H), 0, 0)
    have z3 := bz_e0.mp b3
    refine WP.go 6 (And.intro (And.intro rfl trivial) (And.intro rfl (And.intro (fun (b10 : ¬ 0 < 1) => (absurd b10 (by omega))) (fun (b10 : 0 < 1) => ?_))))
    show WP (Call d) 211 P X (11, [some (vr (some 90) 10), some (vi y)], [], ((upI I 90 0 1), H), 0, 0)
    refine WP.go 2 (And.intro (And.intro (Nat.le_of_ble_eq_true rfl) (Nat.le_of_ble_eq_true rfl)) (And.intro trivial (?_)))
    show P (some (vi 0)) ((upI I 90 0 1), H)
    exact hk1 (by omega) _ 0 (.inl rfl) (MF.th hK _) (upI_same _ _ _ _)

theorem s_12_stop {d : Nat} {P : Option qV → qH → Prop} {X : Nat → qH → Prop} {I : qI} {H : qS} {μ : Int → Int} (hd : 4 ≤ d) (hS : Shp H) (hM : I 91 = μ) (hV : IM μ) (hK : MS I) (h : ∀ J : qI, MF I J → J 90 0 = 0 → P (some (vi (STP (AN μ)))) (J, H)) :
    Call d 213 [vr (some 90) 10] (I, H) P X := by
  obtain ⟨d, rfl⟩ : ∃ e, d = e + 1 := ⟨d - 1, by omega⟩
  obtain ⟨tb, h30⟩ : ∃ tb, I 90 30 = tb := ⟨_, rfl⟩
  obtain ⟨mo, h23⟩ : ∃ mo, I 90 23 = mo := ⟨_, rfl⟩
  have htb : 0 ≤ tb ∧ tb ≤ 29 := by have := hK.2.2.2; omega
  have hmo : (-1 : Int) = -1 ∨ (0 ≤ mo ∧ mo ≤ 48) := .inl rfl
  have h22 := hK.1
  have h29 := hK.2.1
  show WP (Call d) 213 P X (0, [some (vr (some 90) 10)], [], (I, H), 0, 0)
  refine WP.go 3 (And.intro (And.intro rfl trivial) (?_))
  show WP (Call d) 213 P X (3, [some (vr (some 90) 10)], [], ((upI I 90 0 0), H), 0, 0)
  generalize hq_J0 : (upI I 90 0 0) = J0
  have e_J0 : J0 90 = (fun j => if j = 0 then 0 else I 90 j) := by rw [← hq_J0]; exact upI_self _ _ _ _
  have f_J0 : ∀ a, a ≠ 90 → J0 a = I a := fun a q => by rw [← hq_J0]; exact upI_cell q
  have hmf : MF I J0 := MF.t0 hK e_J0 f_J0
  have hth : J0 90 0 = 0 := by rw [e_J0]; rfl
  have hM_1 : J0 91 = μ := (f_J0 91 (by omega)).trans hM
  have h_2 : J0 90 22 = -1 := by rw [e_J0]; exact h22
  have h_3 : J0 90 23 = mo := by rw [e_J0]; exact h23
  have h_4 : J0 90 29 = -1 := by rw [e_J0]; exact h29
  have h_5 : J0 90 30 = tb := by rw [e_J0]; exact h30
  refine WP.go 2 (And.intro (And.intro (Nat.le_of_ble_eq_true rfl) (Nat.le_of_ble_eq_true rfl)) (And.intro rfl (?_)))
  show Call d 210 [vr (some 90) 10] (J0, H) _ _
  refine s_12_turn (by omega) hS hM_1 hV h_2 h_3 hmo (fun J4 e4 f4 => ?_)
  show WP (Call d) 213 P X (5, [some (vr (some 90) 10)], [], (J4, H), 0, 0)
  have hM_6 : J4 91 = μ := (f4 91 (by omega)).trans hM_1
  have h_7 : J4 90 22 = -1 := (congrFun (f4 90 (by omega)) 22).trans h_2
  have h_8 : J4 90 23 = mo := (congrFun (f4 90 (by omega)) 23).trans h_3
  have h_9 : J4 90 29 = -1 := (congrFun (f4 90 (by omega)) 29).trans h_4
  have h_10 : J4 90 30 = tb := (congrFun (f4 90 (by omega)) 30).trans h_5
  have hA_11 : ∀ y, 0 ≤ y → y < 100 → 0 ≤ J4 96 y ∧ J4 96 y < 96 := fun y q1 q2 => by rw [e4 y q1 q2]; exact ANG_bd hV _ _ _
  have eA : ∀ y, 0 ≤ y → y < 100 → J4 96 y = AN μ y := fun y q1 q2 => (e4 y q1 q2).trans (ANG_irr (by omega) _ _ _)
  have hmf_12 : MF I J4 := hmf.tu f4
  have hth_13 : J4 90 0 = 0 := (congrFun (f4 90 (by omega)) 0).trans hth
  refine WP.go 2 (And.intro (And.intro (Nat.le_of_ble_eq_true rfl) (Nat.le_of_ble_eq_true rfl)) (And.intro rfl (?_)))
  show Call d 212 [vr (some 90) 10] (J4, H) _ _
  refine s_12_stopYear (by omega) hS ?_
  show WP (Call d) 213 P X (7, [some (vr (some 90) 10)], [vi (STP (J4 96))], (J4, H), 0, 0)
  refine WP.go 1 (And.intro (And.intro (Nat.le_of_ble_eq_true rfl) (Nat.le_of_ble_eq_true rfl)) (And.intro trivial (?_)))
  show P (some (vi (STP (J4 96)))) (J4, H)
  exact fin_i (STP_congr eA) (h _ hmf_12 hth_13)

theorem s_12_lit {d : Nat} {P : Option qV → qH → Prop} {X : Nat → qH → Prop} {I : qI} {H : qS} {μ : Int → Int} (hd : 4 ≤ d) {w hr y : Int} (hS : Shp H) (hM : I 91 = μ) (hV : IM μ) (hK : MS I) (hk1 : (¬ ((0 ≤ w ∧ w < μ 2) ∧ (0 ≤ hr ∧ hr < 13) ∧ (0 ≤ y ∧ y < 100))) → ∀ (J : qI) (v : Int), (v = 0 ∨ v = 1) → MF I J → J 90 0 = 1 → P (some (vi v)) (J, H)) (h : ((0 ≤ w ∧ w < μ 2) ∧ (0 ≤ hr ∧ hr < 13) ∧ (0 ≤ y ∧ y < 100)) → ∀ J : qI, MF I J → J 90 0 = 0 → P (some (vi (bz (LITp μ (AN μ) (HT μ) w hr y)))) (J, H)) :
    Call d 220 [vr (some 90) 10, vi w, vi hr, vi y] (I, H) P X := by
  obtain ⟨d, rfl⟩ : ∃ e, d = e + 1 := ⟨d - 1, by omega⟩
  obtain ⟨tb, h30⟩ : ∃ tb, I 90 30 = tb := ⟨_, rfl⟩
  obtain ⟨mo, h23⟩ : ∃ mo, I 90 23 = mo := ⟨_, rfl⟩
  have htb : 0 ≤ tb ∧ tb ≤ 29 := by have := hK.2.2.2; omega
  have hmo : (-1 : Int) = -1 ∨ (0 ≤ mo ∧ mo ≤ 48) := .inl rfl
  have h22 := hK.1
  have h29 := hK.2.1
  show WP (Call d) 220 P X (0, [some (vr (some 90) 10), some (vi w), some (vi hr), some (vi y)], [], (I, H), 0, 0)
  refine WP.go 4 (And.intro (And.intro (Nat.le_of_ble_eq_true rfl) (Nat.le_of_ble_eq_true rfl)) (And.intro rfl (?_)))
  show Call d 181 [vr (some 90) 10, vi w] (I, H) _ _
  refine s_12_isWindow (by omega) hS hM hV ?_
  show WP (Call d) 220 P X (4, [some (vr (some 90) 10), some (vi w), some (vi hr), some (vi y)], [vi (bz (0 ≤ w ∧ w ≤ μ 2 - 1)), vr (some 90) 10], (I, H), 0, 0)
  refine WP.go 1 (And.intro (fun (b4 : bz (0 ≤ w ∧ w ≤ μ 2 - 1) = 0) => ?_) (fun (b4 : ¬ bz (0 ≤ w ∧ w ≤ μ 2 - 1) = 0) => ?_))
  ·
    show WP (Call d) 220 P X (13, [some (vr (some 90) 10), some (vi w), some (vi hr), some (vi y)], [vr (some 90) 10], (I, H), 0, 0)
    have z4 := bz_e0.mp b4
    refine WP.go 6 (And.intro (And.intro rfl trivial) (And.intro rfl (And.intro (fun (b19 : ¬ 0 < 1) => (absurd b19 (by omega))) (fun (b19 : 0 < 1) => ?_))))
    show WP (Call d) 220 P X (20, [some (vr (some 90) 10), some (vi w), some (vi hr), some (vi y)], [], ((upI I 90 0 1), H), 0, 0)
    refine WP.go 2 (And.intro (And.intro (Nat.le_of_ble_eq_true rfl) (Nat.le_of_ble_eq_true rfl)) (And.intro (Or.inl rfl) (?_)))
    show P (some (vi 0)) ((upI I 90 0 1), H)
    exact hk1 (by omega) _ 0 (.inl rfl) (MF.th hK _) (upI_same _ _ _ _)
  ·
    show WP (Call d) 220 P X (5, [some (vr (some 90) 10), some (vi w), some (vi hr), some (vi y)], [vr (some 90) 10], (I, H), 0, 0)
    have z4 := bz_e1.mp b4
    refine WP.go 4 (And.intro (And.intro (Nat.le_of_ble_eq_true rfl) (Nat.le_of_ble_eq_true rfl)) (And.intro rfl (?_)))
    show Call d 177 [vi hr, vi 0, vi 12] (I, H) _ _
    refine s_12_isIn (by omega)  ?_
    show WP (Call d) 220 P X (9, [some (vr (some 90) 10), some (vi w), some (vi hr), some (vi y)], [vi (bz (0 ≤ hr ∧ hr ≤ 12)), vr (some 90) 10], (I, H), 0, 0)
    refine WP.go 1 (And.intro (fun (b9 : bz (0 ≤ hr ∧ hr ≤ 12) = 0) => ?_) (fun (b9 : ¬ bz (0 ≤ hr ∧ hr ≤ 12) = 0) => ?_))
    ·
      show WP (Call d) 220 P X (13, [some (vr (some 90) 10), some (vi w), some (vi hr), some (vi y)], [vr (some 90) 10], (I, H), 0, 0)
      have z9 := bz_e0.mp b9
      refine WP.go 6 (And.intro (And.intro rfl trivial) (And.intro rfl (And.intro (fun (b19 : ¬ 0 < 1) => (absurd b19 (by omega))) (fun (b19 : 0 < 1) => ?_))))
      show WP (Call d) 220 P X (20, [some (vr (some 90) 10), some (vi w), some (vi hr), some (vi y)], [], ((upI I 90 0 1), H), 0, 0)
      refine WP.go 2 (And.intro (And.intro (Nat.le_of_ble_eq_true rfl) (Nat.le_of_ble_eq_true rfl)) (And.intro (Or.inl rfl) (?_)))
      show P (some (vi 0)) ((upI I 90 0 1), H)
      exact hk1 (by omega) _ 0 (.inl rfl) (MF.th hK _) (upI_same _ _ _ _)
    ·
      show WP (Call d) 220 P X (10, [some (vr (some 90) 10), some (vi w), some (vi hr), some (vi y)], [vr (some 90) 10], (I, H), 0, 0)
      have z9 := bz_e1.mp b9
      refine WP.go 2 (And.intro (And.intro (Nat.le_of_ble_eq_true rfl) (Nat.le_of_ble_eq_true rfl)) (And.intro rfl (?_)))
      show Call d 179 [vi y] (I, H) _ _
      refine s_12_isYear (by omega)  ?_
      show WP (Call d) 220 P X (12, [some (vr (some 90) 10), some (vi w), some (vi hr), some (vi y)], [vi (bz (0 ≤ y ∧ y ≤ 99)), vr (some 90) 10], (I, H), 0, 0)
      refine WP.go 1 (And.intro (fun (b12 : ¬ bz (0 ≤ y ∧ y ≤ 99) = 0) => ?_) (fun (b12 : bz (0 ≤ y ∧ y ≤ 99) = 0) => ?_))
      ·
        show WP (Call d) 220 P X (15, [some (vr (some 90) 10), some (vi w), some (vi hr), some (vi y)], [vr (some 90) 10], (I, H), 0, 0)
        have z12 := bz_e1.mp b12
        refine WP.go 5 (And.intro (And.intro rfl trivial) (And.intro rfl (And.intro (fun (b19 : ¬ 0 < 0) => ?_) (fun (b19 : 0 < 0) => (absurd b19 (by omega))))))
        show WP (Call d) 220 P X (22, [some (vr (some 90) 10), some (vi w), some (vi hr), some (vi y)], [], ((upI I 90 0 0), H), 0, 0)
        generalize hq_J0 : (upI I 90 0 0) = J0
        have e_J0 : J0 90 = (fun j => if j = 0 then 0 else I 90 j) := by rw [← hq_J0]; exact upI_self _ _ _ _
        have f_J0 : ∀ a, a ≠ 90 → J0 a = I a := fun a q => by rw [← hq_J0]; exact upI_cell q
        have hmf : MF I J0 := MF.t0 hK e_J0 f_J0
        have hth : J0 90 0 = 0 := by rw [e_J0]; rfl
        have hM_1 : J0 91 = μ := (f_J0 91 (by omega)).trans hM
        have h_2 : J0 90 22 = -1 := by rw [e_J0]; exact h22
        have h_3 : J0 90 23 = mo := by rw [e_J0]; exact h23
        have h_4 : J0 90 29 = -1 := by rw [e_J0]; exact h29
        have h_5 : J0 90 30 = tb := by rw [e_J0]; exact h30
        refine WP.go 2 (And.intro (And.intro (Nat.le_of_ble_eq_true rfl) (Nat.le_of_ble_eq_true rfl)) (And.intro rfl (?_)))
        show Call d 210 [vr (some 90) 10] (J0, H) _ _
        refine s_12_turn (by omega) hS hM_1 hV h_2 h_3 hmo (fun J23 e23 f23 => ?_)
        show WP (Call d) 220 P X (24, [some (vr (some 90) 10), some (vi w), some (vi hr), some (vi y)], [], (J23, H), 0, 0)
        have hM_6 : J23 91 = μ := (f23 91 (by omega)).trans hM_1
        have h_7 : J23 90 22 = -1 := (congrFun (f23 90 (by omega)) 22).trans h_2
        have h_8 : J23 90 23 = mo := (congrFun (f23 90 (by omega)) 23).trans h_3
        have h_9 : J23 90 29 = -1 := (congrFun (f23 90 (by omega)) 29).trans h_4
        have h_10 : J23 90 30 = tb := (congrFun (f23 90 (by omega)) 30).trans h_5
        have hA_11 : ∀ y, 0 ≤ y → y < 100 → 0 ≤ J23 96 y ∧ J23 96 y < 96 := fun y q1 q2 => by rw [e23 y q1 q2]; exact ANG_bd hV _ _ _
        have eA : ∀ y, 0 ≤ y → y < 100 → J23 96 y = AN μ y := fun y q1 q2 => (e23 y q1 q2).trans (ANG_irr (by omega) _ _ _)
        have hmf_12 : MF I J23 := hmf.tu f23
        have hth_13 : J23 90 0 = 0 := (congrFun (f23 90 (by omega)) 0).trans hth
        refine WP.go 5 (And.intro (And.intro (Nat.le_of_ble_eq_true rfl) (Nat.le_of_ble_eq_true rfl)) (And.intro rfl (?_)))
        show Call d 218 [vr (some 90) 10, vi w, vi hr, vi y] (J23, H) _ _
        refine s_12_isLit (by omega) hS hM_6 hV hA_11 h_9 h_10 htb (by omega) (by omega) (by omega) ?_
        show WP (Call d) 220 P X (29, [some (vr (some 90) 10), some (vi w), some (vi hr), some (vi y)], [vi (bz (LITp μ (J23 96) (HTC μ (-1) tb) w hr y))], (J23, H), 0, 0)
        refine WP.go 1 (And.intro (And.intro (Nat.le_of_ble_eq_true rfl) (Nat.le_of_ble_eq_true rfl)) (And.intro (bz_or _) (?_)))
        show P (some (vi (bz (LITp μ (J23 96) (HTC μ (-1) tb) w hr y)))) (J23, H)
        exact fin_i (bz_c (LITp_congr (eA _ (by omega) (by omega)) (HT_i hV tb))) (h (by omega) _ hmf_12 hth_13)
      ·
        show WP (Call d) 220 P X (13, [some (vr (some 90) 10), some (vi w), some (vi hr), some (vi y)], [vr (some 90) 10], (I, H), 0, 0)
        have z12 := bz_e0.mp b12
        refine WP.go 6 (And.intro (And.intro rfl trivial) (And.intro rfl (And.intro (fun (b19 : ¬ 0 < 1) => (absurd b19 (by omega))) (fun (b19 : 0 < 1) => ?_))))
        show WP (Call d) 220 P X (20, [some (vr (some 90) 10), some (vi w), some (vi hr), some (vi y)], [], ((upI I 90 0 1), H), 0, 0)
        refine WP.go 2 (And.intro (And.intro (Nat.le_of_ble_eq_true rfl) (Nat.le_of_ble_eq_true rfl)) (And.intro (Or.inl rfl) (?_)))
        show P (some (vi 0)) ((upI I 90 0 1), H)
        exact hk1 (by omega) _ 0 (.inl rfl) (MF.th hK _) (upI_same _ _ _ _)

theorem s_12_light {d : Nat} {P : Option qV → qH → Prop} {X : Nat → qH → Prop} {I : qI} {H : qS} {μ : Int → Int} (hd : 5 ≤ d) {w a b : Int} (hS : Shp H) (hM : I 91 = μ) (hV : IM μ) (hK : MS I) (hk1 : (¬ ((0 ≤ w ∧ w < μ 2) ∧ (0 ≤ a ∧ a < 100) ∧ (0 ≤ b ∧ b < 100))) → ∀ (J : qI) (v : Int), (v = 0 ∨ v = 1) → MF I J → J 90 0 = 1 → P (some (vi v)) (J, H)) (hk2 : (((0 ≤ w ∧ w < μ 2) ∧ (0 ≤ a ∧ a < 100) ∧ (0 ≤ b ∧ b < 100)) ∧ b < a) → ∀ (J : qI) (v : Int), (v = 0 ∨ v = 1) → MF I J → J 90 0 = 2 → P (some (vi v)) (J, H)) (h : (((0 ≤ w ∧ w < μ 2) ∧ (0 ≤ a ∧ a < 100) ∧ (0 ≤ b ∧ b < 100)) ∧ a ≤ b) → ∀ J : qI, MF I J → J 90 0 = 0 → P (some (vi (LGW μ (AN μ) (HT μ) w a b))) (J, H)) :
    Call d 221 [vr (some 90) 10, vi w, vi a, vi b] (I, H) P X := by
  obtain ⟨d, rfl⟩ : ∃ e, d = e + 1 := ⟨d - 1, by omega⟩
  obtain ⟨tb, h30⟩ : ∃ tb, I 90 30 = tb := ⟨_, rfl⟩
  obtain ⟨mo, h23⟩ : ∃ mo, I 90 23 = mo := ⟨_, rfl⟩
  have htb : 0 ≤ tb ∧ tb ≤ 29 := by have := hK.2.2.2; omega
  have hmo : (-1 : Int) = -1 ∨ (0 ≤ mo ∧ mo ≤ 48) := .inl rfl
  have h22 := hK.1
  have h29 := hK.2.1
  show WP (Call d) 221 P X (0, [some (vr (some 90) 10), some (vi w), some (vi a), some (vi b)], [], (I, H), 0, 0)
  refine WP.go 4 (And.intro (And.intro (Nat.le_of_ble_eq_true rfl) (Nat.le_of_ble_eq_true rfl)) (And.intro rfl (?_)))
  show Call d 181 [vr (some 90) 10, vi w] (I, H) _ _
  refine s_12_isWindow (by omega) hS hM hV ?_
  show WP (Call d) 221 P X (4, [some (vr (some 90) 10), some (vi w), some (vi a), some (vi b)], [vi (bz (0 ≤ w ∧ w ≤ μ 2 - 1)), vr (some 90) 10], (I, H), 0, 0)
  refine WP.go 1 (And.intro (fun (b4 : bz (0 ≤ w ∧ w ≤ μ 2 - 1) = 0) => ?_) (fun (b4 : ¬ bz (0 ≤ w ∧ w ≤ μ 2 - 1) = 0) => ?_))
  ·
    show WP (Call d) 221 P X (11, [some (vr (some 90) 10), some (vi w), some (vi a), some (vi b)], [vr (some 90) 10], (I, H), 0, 0)
    have z4 := bz_e0.mp b4
    refine WP.go 6 (And.intro (And.intro rfl trivial) (And.intro rfl (And.intro (fun (b22 : ¬ 0 < 1) => (absurd b22 (by omega))) (fun (b22 : 0 < 1) => ?_))))
    show WP (Call d) 221 P X (23, [some (vr (some 90) 10), some (vi w), some (vi a), some (vi b)], [], ((upI I 90 0 1), H), 0, 0)
    refine WP.go 2 (And.intro (And.intro (Nat.le_of_ble_eq_true rfl) (Nat.le_of_ble_eq_true rfl)) (And.intro trivial (?_)))
    show P (some (vi 0)) ((upI I 90 0 1), H)
    exact hk1 (by omega) _ 0 (.inl rfl) (MF.th hK _) (upI_same _ _ _ _)
  ·
    show WP (Call d) 221 P X (5, [some (vr (some 90) 10), some (vi w), some (vi a), some (vi b)], [vr (some 90) 10], (I, H), 0, 0)
    have z4 := bz_e1.mp b4
    refine WP.go 2 (And.intro (And.intro (Nat.le_of_ble_eq_true rfl) (Nat.le_of_ble_eq_true rfl)) (And.intro rfl (?_)))
    show Call d 179 [vi a] (I, H) _ _
    refine s_12_isYear (by omega)  ?_
    show WP (Call d) 221 P X (7, [some (vr (some 90) 10), some (vi w), some (vi a), some (vi b)], [vi (bz (0 ≤ a ∧ a ≤ 99)), vr (some 90) 10], (I, H), 0, 0)
    refine WP.go 1 (And.intro (fun (b7 : bz (0 ≤ a ∧ a ≤ 99) = 0) => ?_) (fun (b7 : ¬ bz (0 ≤ a ∧ a ≤ 99) = 0) => ?_))
    ·
      show WP (Call d) 221 P X (11, [some (vr (some 90) 10), some (vi w), some (vi a), some (vi b)], [vr (some 90) 10], (I, H), 0, 0)
      have z7 := bz_e0.mp b7
      refine WP.go 6 (And.intro (And.intro rfl trivial) (And.intro rfl (And.intro (fun (b22 : ¬ 0 < 1) => (absurd b22 (by omega))) (fun (b22 : 0 < 1) => ?_))))
      show WP (Call d) 221 P X (23, [some (vr (some 90) 10), some (vi w), some (vi a), some (vi b)], [], ((upI I 90 0 1), H), 0, 0)
      refine WP.go 2 (And.intro (And.intro (Nat.le_of_ble_eq_true rfl) (Nat.le_of_ble_eq_true rfl)) (And.intro trivial (?_)))
      show P (some (vi 0)) ((upI I 90 0 1), H)
      exact hk1 (by omega) _ 0 (.inl rfl) (MF.th hK _) (upI_same _ _ _ _)
    ·
      show WP (Call d) 221 P X (8, [some (vr (some 90) 10), some (vi w), some (vi a), some (vi b)], [vr (some 90) 10], (I, H), 0, 0)
      have z7 := bz_e1.mp b7
      refine WP.go 2 (And.intro (And.intro (Nat.le_of_ble_eq_true rfl) (Nat.le_of_ble_eq_true rfl)) (And.intro rfl (?_)))
      show Call d 179 [vi b] (I, H) _ _
      refine s_12_isYear (by omega)  ?_
      show WP (Call d) 221 P X (10, [some (vr (some 90) 10), some (vi w), some (vi a), some (vi b)], [vi (bz (0 ≤ b ∧ b ≤ 99)), vr (some 90) 10], (I, H), 0, 0)
      refine WP.go 1 (And.intro (fun (b10 : ¬ bz (0 ≤ b ∧ b ≤ 99) = 0) => ?_) (fun (b10 : bz (0 ≤ b ∧ b ≤ 99) = 0) => ?_))
      ·
        show WP (Call d) 221 P X (13, [some (vr (some 90) 10), some (vi w), some (vi a), some (vi b)], [vr (some 90) 10], (I, H), 0, 0)
        have z10 := bz_e1.mp b10
        refine WP.go 3 (And.intro (fun (b15 : ¬ b < a) => ?_) (fun (b15 : b < a) => ?_))
        ·
          show WP (Call d) 221 P X (18, [some (vr (some 90) 10), some (vi w), some (vi a), some (vi b)], [vr (some 90) 10], (I, H), 0, 0)
          refine WP.go 5 (And.intro (And.intro rfl trivial) (And.intro rfl (And.intro (fun (b22 : ¬ 0 < 0) => ?_) (fun (b22 : 0 < 0) => (absurd b22 (by omega))))))
          show WP (Call d) 221 P X (25, [some (vr (some 90) 10), some (vi w), some (vi a), some (vi b)], [], ((upI I 90 0 0), H), 0, 0)
          generalize hq_J0 : (upI I 90 0 0) = J0
          have e_J0 : J0 90 = (fun j => if j = 0 then 0 else I 90 j) := by rw [← hq_J0]; exact upI_self _ _ _ _
          have f_J0 : ∀ a, a ≠ 90 → J0 a = I a := fun a q => by rw [← hq_J0]; exact upI_cell q
          have hmf : MF I J0 := MF.t0 hK e_J0 f_J0
          have hth : J0 90 0 = 0 := by rw [e_J0]; rfl
          have hM_1 : J0 91 = μ := (f_J0 91 (by omega)).trans hM
          have h_2 : J0 90 22 = -1 := by rw [e_J0]; exact h22
          have h_3 : J0 90 23 = mo := by rw [e_J0]; exact h23
          have h_4 : J0 90 29 = -1 := by rw [e_J0]; exact h29
          have h_5 : J0 90 30 = tb := by rw [e_J0]; exact h30
          refine WP.go 2 (And.intro (And.intro (Nat.le_of_ble_eq_true rfl) (Nat.le_of_ble_eq_true rfl)) (And.intro rfl (?_)))
          show Call d 210 [vr (some 90) 10] (J0, H) _ _
          refine s_12_turn (by omega) hS hM_1 hV h_2 h_3 hmo (fun J26 e26 f26 => ?_)
          show WP (Call d) 221 P X (27, [some (vr (some 90) 10), some (vi w), some (vi a), some (vi b)], [], (J26, H), 0, 0)
          have hM_6 : J26 91 = μ := (f26 91 (by omega)).trans hM_1
          have h_7 : J26 90 22 = -1 := (congrFun (f26 90 (by omega)) 22).trans h_2
          have h_8 : J26 90 23 = mo := (congrFun (f26 90 (by omega)) 23).trans h_3
          have h_9 : J26 90 29 = -1 := (congrFun (f26 90 (by omega)) 29).trans h_4
          have h_10 : J26 90 30 = tb := (congrFun (f26 90 (by omega)) 30).trans h_5
          have hA_11 : ∀ y, 0 ≤ y → y < 100 → 0 ≤ J26 96 y ∧ J26 96 y < 96 := fun y q1 q2 => by rw [e26 y q1 q2]; exact ANG_bd hV _ _ _
          have eA : ∀ y, 0 ≤ y → y < 100 → J26 96 y = AN μ y := fun y q1 q2 => (e26 y q1 q2).trans (ANG_irr (by omega) _ _ _)
          have hmf_12 : MF I J26 := hmf.tu f26
          have hth_13 : J26 90 0 = 0 := (congrFun (f26 90 (by omega)) 0).trans hth
          refine WP.go 5 (And.intro (And.intro (Nat.le_of_ble_eq_true rfl) (Nat.le_of_ble_eq_true rfl)) (And.intro rfl (?_)))
          show Call d 219 [vr (some 90) 10, vi w, vi a, vi b] (J26, H) _ _
          refine s_12_lightOf (by omega) hS hM_6 hV hA_11 h_9 h_10 htb (by omega) (by omega) ?_
          show WP (Call d) 221 P X (32, [some (vr (some 90) 10), some (vi w), some (vi a), some (vi b)], [vi (LGW μ (J26 96) (HTC μ (-1) tb) w a b)], (J26, H), 0, 0)
          refine WP.go 1 (And.intro (And.intro (Nat.le_of_ble_eq_true rfl) (Nat.le_of_ble_eq_true rfl)) (And.intro trivial (?_)))
          show P (some (vi (LGW μ (J26 96) (HTC μ (-1) tb) w a b))) (J26, H)
          exact fin_i (LGW_congr (by omega) (by omega) eA (HT_i hV tb)) (h (by omega) _ hmf_12 hth_13)
        ·
          show WP (Call d) 221 P X (16, [some (vr (some 90) 10), some (vi w), some (vi a), some (vi b)], [vr (some 90) 10], (I, H), 0, 0)
          refine WP.go 6 (And.intro (And.intro rfl trivial) (And.intro rfl (And.intro (fun (b22 : ¬ 0 < 2) => (absurd b22 (by omega))) (fun (b22 : 0 < 2) => ?_))))
          show WP (Call d) 221 P X (23, [some (vr (some 90) 10), some (vi w), some (vi a), some (vi b)], [], ((upI I 90 0 2), H), 0, 0)
          refine WP.go 2 (And.intro (And.intro (Nat.le_of_ble_eq_true rfl) (Nat.le_of_ble_eq_true rfl)) (And.intro trivial (?_)))
          show P (some (vi 0)) ((upI I 90 0 2), H)
          exact hk2 (by omega) _ 0 (.inl rfl) (MF.th hK _) (upI_same _ _ _ _)
      ·
        show WP (Call d) 221 P X (11, [some (vr (some 90) 10), some (vi w), some (vi a), some (vi b)], [vr (some 90) 10], (I, H), 0, 0)
        have z10 := bz_e0.mp b10
        refine WP.go 6 (And.intro (And.intro rfl trivial) (And.intro rfl (And.intro (fun (b22 : ¬ 0 < 1) => (absurd b22 (by omega))) (fun (b22 : 0 < 1) => ?_))))
        show WP (Call d) 221 P X (23, [some (vr (some 90) 10), some (vi w), some (vi a), some (vi b)], [], ((upI I 90 0 1), H), 0, 0)
        refine WP.go 2 (And.intro (And.intro (Nat.le_of_ble_eq_true rfl) (Nat.le_of_ble_eq_true rfl)) (And.intro trivial (?_)))
        show P (some (vi 0)) ((upI I 90 0 1), H)
        exact hk1 (by omega) _ 0 (.inl rfl) (MF.th hK _) (upI_same _ _ _ _)

theorem s_12_bright {d : Nat} {P : Option qV → qH → Prop} {X : Nat → qH → Prop} {I : qI} {H : qS} {μ : Int → Int} (hd : 6 ≤ d) {h9 y : Int} (hS : Shp H) (hM : I 91 = μ) (hV : IM μ) (hK : MS I) (hk1 : (¬ ((0 ≤ h9 ∧ h9 < μ 1) ∧ (0 ≤ y ∧ y < 100))) → ∀ (J : qI) (v : Int), (v = 0 ∨ v = 1) → MF I J → J 90 0 = 1 → P (some (vi v)) (J, H)) (h : ((0 ≤ h9 ∧ h9 < μ 1) ∧ (0 ≤ y ∧ y < 100)) → ∀ J : qI, MF I J → J 90 0 = 0 → P (some (vi (LGH μ (AN μ) (HT μ) h9 y))) (J, H)) :
    Call d 223 [vr (some 90) 10, vi h9, vi y] (I, H) P X := by
  obtain ⟨d, rfl⟩ : ∃ e, d = e + 1 := ⟨d - 1, by omega⟩
  obtain ⟨tb, h30⟩ : ∃ tb, I 90 30 = tb := ⟨_, rfl⟩
  obtain ⟨mo, h23⟩ : ∃ mo, I 90 23 = mo := ⟨_, rfl⟩
  have htb : 0 ≤ tb ∧ tb ≤ 29 := by have := hK.2.2.2; omega
  have hmo : (-1 : Int) = -1 ∨ (0 ≤ mo ∧ mo ≤ 48) := .inl rfl
  have h22 := hK.1
  have h29 := hK.2.1
  show WP (Call d) 223 P X (0, [some (vr (some 90) 10), some (vi h9), some (vi y)], [], (I, H), 0, 0)
  refine WP.go 4 (And.intro (And.intro (Nat.le_of_ble_eq_true rfl) (Nat.le_of_ble_eq_true rfl)) (And.intro rfl (?_)))
  show Call d 180 [vr (some 90) 10, vi h9] (I, H) _ _
  refine s_12_isHouse (by omega) hS hM hV ?_
  show WP (Call d) 223 P X (4, [some (vr (some 90) 10), some (vi h9), some (vi y)], [vi (bz (0 ≤ h9 ∧ h9 ≤ μ 1 - 1)), vr (some 90) 10], (I, H), 0, 0)
  refine WP.go 1 (And.intro (fun (b4 : bz (0 ≤ h9 ∧ h9 ≤ μ 1 - 1) = 0) => ?_) (fun (b4 : ¬ bz (0 ≤ h9 ∧ h9 ≤ μ 1 - 1) = 0) => ?_))
  ·
    show WP (Call d) 223 P X (8, [some (vr (some 90) 10), some (vi h9), some (vi y)], [vr (some 90) 10], (I, H), 0, 0)
    have z4 := bz_e0.mp b4
    refine WP.go 6 (And.intro (And.intro rfl trivial) (And.intro rfl (And.intro (fun (b14 : ¬ 0 < 1) => (absurd b14 (by omega))) (fun (b14 : 0 < 1) => ?_))))
    show WP (Call d) 223 P X (15, [some (vr (some 90) 10), some (vi h9), some (vi y)], [], ((upI I 90 0 1), H), 0, 0)
    refine WP.go 2 (And.intro (And.intro (Nat.le_of_ble_eq_true rfl) (Nat.le_of_ble_eq_true rfl)) (And.intro trivial (?_)))
    show P (some (vi 0)) ((upI I 90 0 1), H)
    exact hk1 (by omega) _ 0 (.inl rfl) (MF.th hK _) (upI_same _ _ _ _)
  ·
    show WP (Call d) 223 P X (5, [some (vr (some 90) 10), some (vi h9), some (vi y)], [vr (some 90) 10], (I, H), 0, 0)
    have z4 := bz_e1.mp b4
    refine WP.go 2 (And.intro (And.intro (Nat.le_of_ble_eq_true rfl) (Nat.le_of_ble_eq_true rfl)) (And.intro rfl (?_)))
    show Call d 179 [vi y] (I, H) _ _
    refine s_12_isYear (by omega)  ?_
    show WP (Call d) 223 P X (7, [some (vr (some 90) 10), some (vi h9), some (vi y)], [vi (bz (0 ≤ y ∧ y ≤ 99)), vr (some 90) 10], (I, H), 0, 0)
    refine WP.go 1 (And.intro (fun (b7 : ¬ bz (0 ≤ y ∧ y ≤ 99) = 0) => ?_) (fun (b7 : bz (0 ≤ y ∧ y ≤ 99) = 0) => ?_))
    ·
      show WP (Call d) 223 P X (10, [some (vr (some 90) 10), some (vi h9), some (vi y)], [vr (some 90) 10], (I, H), 0, 0)
      have z7 := bz_e1.mp b7
      refine WP.go 5 (And.intro (And.intro rfl trivial) (And.intro rfl (And.intro (fun (b14 : ¬ 0 < 0) => ?_) (fun (b14 : 0 < 0) => (absurd b14 (by omega))))))
      show WP (Call d) 223 P X (17, [some (vr (some 90) 10), some (vi h9), some (vi y)], [], ((upI I 90 0 0), H), 0, 0)
      generalize hq_J0 : (upI I 90 0 0) = J0
      have e_J0 : J0 90 = (fun j => if j = 0 then 0 else I 90 j) := by rw [← hq_J0]; exact upI_self _ _ _ _
      have f_J0 : ∀ a, a ≠ 90 → J0 a = I a := fun a q => by rw [← hq_J0]; exact upI_cell q
      have hmf : MF I J0 := MF.t0 hK e_J0 f_J0
      have hth : J0 90 0 = 0 := by rw [e_J0]; rfl
      have hM_1 : J0 91 = μ := (f_J0 91 (by omega)).trans hM
      have h_2 : J0 90 22 = -1 := by rw [e_J0]; exact h22
      have h_3 : J0 90 23 = mo := by rw [e_J0]; exact h23
      have h_4 : J0 90 29 = -1 := by rw [e_J0]; exact h29
      have h_5 : J0 90 30 = tb := by rw [e_J0]; exact h30
      refine WP.go 2 (And.intro (And.intro (Nat.le_of_ble_eq_true rfl) (Nat.le_of_ble_eq_true rfl)) (And.intro rfl (?_)))
      show Call d 210 [vr (some 90) 10] (J0, H) _ _
      refine s_12_turn (by omega) hS hM_1 hV h_2 h_3 hmo (fun J18 e18 f18 => ?_)
      show WP (Call d) 223 P X (19, [some (vr (some 90) 10), some (vi h9), some (vi y)], [], (J18, H), 0, 0)
      have hM_6 : J18 91 = μ := (f18 91 (by omega)).trans hM_1
      have h_7 : J18 90 22 = -1 := (congrFun (f18 90 (by omega)) 22).trans h_2
      have h_8 : J18 90 23 = mo := (congrFun (f18 90 (by omega)) 23).trans h_3
      have h_9 : J18 90 29 = -1 := (congrFun (f18 90 (by omega)) 29).trans h_4
      have h_10 : J18 90 30 = tb := (congrFun (f18 90 (by omega)) 30).trans h_5
      have hA_11 : ∀ y, 0 ≤ y → y < 100 → 0 ≤ J18 96 y ∧ J18 96 y < 96 := fun y q1 q2 => by rw [e18 y q1 q2]; exact ANG_bd hV _ _ _
      have eA : ∀ y, 0 ≤ y → y < 100 → J18 96 y = AN μ y := fun y q1 q2 => (e18 y q1 q2).trans (ANG_irr (by omega) _ _ _)
      have hmf_12 : MF I J18 := hmf.tu f18
      have hth_13 : J18 90 0 = 0 := (congrFun (f18 90 (by omega)) 0).trans hth
      refine WP.go 5 (And.intro (And.intro (Nat.le_of_ble_eq_true rfl) (Nat.le_of_ble_eq_true rfl)) (And.intro rfl (?_)))
      show Call d 222 [vr (some 90) 10, vi h9, vi y, vi y] (J18, H) _ _
      refine s_12_brightOf (by omega) hS hM_6 hV hA_11 h_9 h_10 htb (by omega) ?_
      show WP (Call d) 223 P X (24, [some (vr (some 90) 10), some (vi h9), some (vi y)], [vi (BRT μ (J18 96) (HTC μ (-1) tb) h9 y y)], (J18, H), 0, 0)
      refine WP.go 1 (And.intro (And.intro (Nat.le_of_ble_eq_true rfl) (Nat.le_of_ble_eq_true rfl)) (And.intro trivial (?_)))
      show P (some (vi (BRT μ (J18 96) (HTC μ (-1) tb) h9 y y))) (J18, H)
      exact fin_i (by rw [BRT_1]; exact LGH_congr (eA _ (by omega) (by omega)) (HT_i hV tb)) (h (by omega) _ hmf_12 hth_13)
    ·
      show WP (Call d) 223 P X (8, [some (vr (some 90) 10), some (vi h9), some (vi y)], [vr (some 90) 10], (I, H), 0, 0)
      have z7 := bz_e0.mp b7
      refine WP.go 6 (And.intro (And.intro rfl trivial) (And.intro rfl (And.intro (fun (b14 : ¬ 0 < 1) => (absurd b14 (by omega))) (fun (b14 : 0 < 1) => ?_))))
      show WP (Call d) 223 P X (15, [some (vr (some 90) 10), some (vi h9), some (vi y)], [], ((upI I 90 0 1), H), 0, 0)
      refine WP.go 2 (And.intro (And.intro (Nat.le_of_ble_eq_true rfl) (Nat.le_of_ble_eq_true rfl)) (And.intro trivial (?_)))
      show P (some (vi 0)) ((upI I 90 0 1), H)
      exact hk1 (by omega) _ 0 (.inl rfl) (MF.th hK _) (upI_same _ _ _ _)

theorem s_12_level {d : Nat} {P : Option qV → qH → Prop} {X : Nat → qH → Prop} {I : qI} {H : qS} {μ : Int → Int} (hd : 4 ≤ d) {c y : Int} (hS : Shp H) (hM : I 91 = μ) (hV : IM μ) (hK : MS I) (hk1 : (¬ ((0 ≤ c ∧ c < 81) ∧ (0 ≤ y ∧ y < 100))) → ∀ (J : qI) (v : Int), (v = 0 ∨ v = 1) → MF I J → J 90 0 = 1 → P (some (vi v)) (J, H)) (h : ((0 ≤ c ∧ c < 81) ∧ (0 ≤ y ∧ y < 100)) → ∀ J : qI, MF I J → J 90 0 = 0 → P (some (vi (LVL μ (AN μ) c y))) (J, H)) :
    Call d 236 [vr (some 90) 10, vi c, vi y] (I, H) P X := by
  obtain ⟨d, rfl⟩ : ∃ e, d = e + 1 := ⟨d - 1, by omega⟩
  obtain ⟨tb, h30⟩ : ∃ tb, I 90 30 = tb := ⟨_, rfl⟩
  obtain ⟨mo, h23⟩ : ∃ mo, I 90 23 = mo := ⟨_, rfl⟩
  have htb : 0 ≤ tb ∧ tb ≤ 29 := by have := hK.2.2.2; omega
  have hmo : (-1 : Int) = -1 ∨ (0 ≤ mo ∧ mo ≤ 48) := .inl rfl
  have h22 := hK.1
  have h29 := hK.2.1
  show WP (Call d) 236 P X (0, [some (vr (some 90) 10), some (vi c), some (vi y)], [], (I, H), 0, 0)
  refine WP.go 3 (And.intro (And.intro (Nat.le_of_ble_eq_true rfl) (Nat.le_of_ble_eq_true rfl)) (And.intro rfl (?_)))
  show Call d 178 [vi c] (I, H) _ _
  refine s_12_isCell (by omega)  ?_
  show WP (Call d) 236 P X (3, [some (vr (some 90) 10), some (vi c), some (vi y)], [vi (bz (0 ≤ c ∧ c ≤ 80)), vr (some 90) 10], (I, H), 0, 0)
  refine WP.go 1 (And.intro (fun (b3 : bz (0 ≤ c ∧ c ≤ 80) = 0) => ?_) (fun (b3 : ¬ bz (0 ≤ c ∧ c ≤ 80) = 0) => ?_))
  ·
    show WP (Call d) 236 P X (7, [some (vr (some 90) 10), some (vi c), some (vi y)], [vr (some 90) 10], (I, H), 0, 0)
    have z3 := bz_e0.mp b3
    refine WP.go 6 (And.intro (And.intro rfl trivial) (And.intro rfl (And.intro (fun (b13 : ¬ 0 < 1) => (absurd b13 (by omega))) (fun (b13 : 0 < 1) => ?_))))
    show WP (Call d) 236 P X (14, [some (vr (some 90) 10), some (vi c), some (vi y)], [], ((upI I 90 0 1), H), 0, 0)
    refine WP.go 2 (And.intro (And.intro (Nat.le_of_ble_eq_true rfl) (Nat.le_of_ble_eq_true rfl)) (And.intro trivial (?_)))
    show P (some (vi 0)) ((upI I 90 0 1), H)
    exact hk1 (by omega) _ 0 (.inl rfl) (MF.th hK _) (upI_same _ _ _ _)
  ·
    show WP (Call d) 236 P X (4, [some (vr (some 90) 10), some (vi c), some (vi y)], [vr (some 90) 10], (I, H), 0, 0)
    have z3 := bz_e1.mp b3
    refine WP.go 2 (And.intro (And.intro (Nat.le_of_ble_eq_true rfl) (Nat.le_of_ble_eq_true rfl)) (And.intro rfl (?_)))
    show Call d 179 [vi y] (I, H) _ _
    refine s_12_isYear (by omega)  ?_
    show WP (Call d) 236 P X (6, [some (vr (some 90) 10), some (vi c), some (vi y)], [vi (bz (0 ≤ y ∧ y ≤ 99)), vr (some 90) 10], (I, H), 0, 0)
    refine WP.go 1 (And.intro (fun (b6 : ¬ bz (0 ≤ y ∧ y ≤ 99) = 0) => ?_) (fun (b6 : bz (0 ≤ y ∧ y ≤ 99) = 0) => ?_))
    ·
      show WP (Call d) 236 P X (9, [some (vr (some 90) 10), some (vi c), some (vi y)], [vr (some 90) 10], (I, H), 0, 0)
      have z6 := bz_e1.mp b6
      refine WP.go 5 (And.intro (And.intro rfl trivial) (And.intro rfl (And.intro (fun (b13 : ¬ 0 < 0) => ?_) (fun (b13 : 0 < 0) => (absurd b13 (by omega))))))
      show WP (Call d) 236 P X (16, [some (vr (some 90) 10), some (vi c), some (vi y)], [], ((upI I 90 0 0), H), 0, 0)
      generalize hq_J0 : (upI I 90 0 0) = J0
      have e_J0 : J0 90 = (fun j => if j = 0 then 0 else I 90 j) := by rw [← hq_J0]; exact upI_self _ _ _ _
      have f_J0 : ∀ a, a ≠ 90 → J0 a = I a := fun a q => by rw [← hq_J0]; exact upI_cell q
      have hmf : MF I J0 := MF.t0 hK e_J0 f_J0
      have hth : J0 90 0 = 0 := by rw [e_J0]; rfl
      have hM_1 : J0 91 = μ := (f_J0 91 (by omega)).trans hM
      have h_2 : J0 90 22 = -1 := by rw [e_J0]; exact h22
      have h_3 : J0 90 23 = mo := by rw [e_J0]; exact h23
      have h_4 : J0 90 29 = -1 := by rw [e_J0]; exact h29
      have h_5 : J0 90 30 = tb := by rw [e_J0]; exact h30
      refine WP.go 2 (And.intro (And.intro (Nat.le_of_ble_eq_true rfl) (Nat.le_of_ble_eq_true rfl)) (And.intro rfl (?_)))
      show Call d 210 [vr (some 90) 10] (J0, H) _ _
      refine s_12_turn (by omega) hS hM_1 hV h_2 h_3 hmo (fun J17 e17 f17 => ?_)
      show WP (Call d) 236 P X (18, [some (vr (some 90) 10), some (vi c), some (vi y)], [], (J17, H), 0, 0)
      have hM_6 : J17 91 = μ := (f17 91 (by omega)).trans hM_1
      have h_7 : J17 90 22 = -1 := (congrFun (f17 90 (by omega)) 22).trans h_2
      have h_8 : J17 90 23 = mo := (congrFun (f17 90 (by omega)) 23).trans h_3
      have h_9 : J17 90 29 = -1 := (congrFun (f17 90 (by omega)) 29).trans h_4
      have h_10 : J17 90 30 = tb := (congrFun (f17 90 (by omega)) 30).trans h_5
      have hA_11 : ∀ y, 0 ≤ y → y < 100 → 0 ≤ J17 96 y ∧ J17 96 y < 96 := fun y q1 q2 => by rw [e17 y q1 q2]; exact ANG_bd hV _ _ _
      have eA : ∀ y, 0 ≤ y → y < 100 → J17 96 y = AN μ y := fun y q1 q2 => (e17 y q1 q2).trans (ANG_irr (by omega) _ _ _)
      have hmf_12 : MF I J17 := hmf.tu f17
      have hth_13 : J17 90 0 = 0 := (congrFun (f17 90 (by omega)) 0).trans hth
      refine WP.go 4 (And.intro (And.intro (Nat.le_of_ble_eq_true rfl) (Nat.le_of_ble_eq_true rfl)) (And.intro rfl (?_)))
      show Call d 228 [vr (some 90) 10, vi c, vi y] (J17, H) _ _
      refine s_12_levelOf (by omega) hS hM_6 hV hA_11 (by omega) (by omega) ?_
      show WP (Call d) 236 P X (22, [some (vr (some 90) 10), some (vi c), some (vi y)], [vi (LVL μ (J17 96) c y)], (J17, H), 0, 0)
      refine WP.go 1 (And.intro (And.intro (Nat.le_of_ble_eq_true rfl) (Nat.le_of_ble_eq_true rfl)) (And.intro trivial (?_)))
      show P (some (vi (LVL μ (J17 96) c y))) (J17, H)
      exact fin_i (by unfold LVL; rw [eA y (by omega) (by omega)]) (h (by omega) _ hmf_12 hth_13)
    ·
      show WP (Call d) 236 P X (7, [some (vr (some 90) 10), some (vi c), some (vi y)], [vr (some 90) 10], (I, H), 0, 0)
      have z6 := bz_e0.mp b6
      refine WP.go 6 (And.intro (And.intro rfl trivial) (And.intro rfl (And.intro (fun (b13 : ¬ 0 < 1) => (absurd b13 (by omega))) (fun (b13 : 0 < 1) => ?_))))
      show WP (Call d) 236 P X (14, [some (vr (some 90) 10), some (vi c), some (vi y)], [], ((upI I 90 0 1), H), 0, 0)
      refine WP.go 2 (And.intro (And.intro (Nat.le_of_ble_eq_true rfl) (Nat.le_of_ble_eq_true rfl)) (And.intro trivial (?_)))
      show P (some (vi 0)) ((upI I 90 0 1), H)
      exact hk1 (by omega) _ 0 (.inl rfl) (MF.th hK _) (upI_same _ _ _ _)

theorem s_12_runs {d : Nat} {P : Option qV → qH → Prop} {X : Nat → qH → Prop} {I : qI} {H : qS} {μ : Int → Int} (hd : 4 ≤ d) {k y : Int} (hS : Shp H) (hM : I 91 = μ) (hV : IM μ) (hK : MS I) (hk1 : (¬ ((0 ≤ k ∧ k < μ 6) ∧ (0 ≤ y ∧ y < 100))) → ∀ (J : qI) (v : Int), (v = 0 ∨ v = 1) → MF I J → J 90 0 = 1 → P (some (vi v)) (J, H)) (h : ((0 ≤ k ∧ k < μ 6) ∧ (0 ≤ y ∧ y < 100)) → ∀ J : qI, MF I J → J 90 0 = 0 → P (some (vi (bz (RUNp μ (AN μ) k y)))) (J, H)) :
    Call d 239 [vr (some 90) 10, vi k, vi y] (I, H) P X := by
  obtain ⟨d, rfl⟩ : ∃ e, d = e + 1 := ⟨d - 1, by omega⟩
  have hl91 := hS.l91
  obtain ⟨tb, h30⟩ : ∃ tb, I 90 30 = tb := ⟨_, rfl⟩
  obtain ⟨mo, h23⟩ : ∃ mo, I 90 23 = mo := ⟨_, rfl⟩
  have htb : 0 ≤ tb ∧ tb ≤ 29 := by have := hK.2.2.2; omega
  have hmo : (-1 : Int) = -1 ∨ (0 ≤ mo ∧ mo ≤ 48) := .inl rfl
  have h22 := hK.1
  have h29 := hK.2.1
  have v0 := hV.n6
  show WP (Call d) 239 P X (0, [some (vr (some 90) 10), some (vi k), some (vi y)], [], (I, H), 0, 0)
  refine WP.go 7 (And.intro rfl (Exists.intro 91 (And.intro hS.r90_1 (And.intro (And.intro rfl (And.intro (show 0 ≤ 6 from by omega) (show 6 < H.2.1 91 from by omega))) (?_)))))
  refine rw_i (Q := fun x9 => WP (Call d) 239 P X (7, [some (vr (some 90) 10), some (vi k), some (vi y)], [vi x9, vi 0, vi k, vr (some 90) 10], (I, H), 0, 0)) (congrFun hM _) ?_
  show WP (Call d) 239 P X (7, [some (vr (some 90) 10), some (vi k), some (vi y)], [vi (μ 6), vi 0, vi k, vr (some 90) 10], (I, H), 0, 0)
  refine WP.go 3 (Exists.intro ((μ 6) - 1) (And.intro (wrp_a (by omega) (by omega)) (And.intro (And.intro (Nat.le_of_ble_eq_true rfl) (Nat.le_of_ble_eq_true rfl)) (And.intro rfl (?_)))))
  show Call d 177 [vi k, vi 0, vi ((μ 6) - 1)] (I, H) _ _
  refine s_12_isIn (by omega)  ?_
  show WP (Call d) 239 P X (10, [some (vr (some 90) 10), some (vi k), some (vi y)], [vi (bz (0 ≤ k ∧ k ≤ ((μ 6) - 1))), vr (some 90) 10], (I, H), 0, 0)
  refine WP.go 1 (And.intro (fun (b10 : bz (0 ≤ k ∧ k ≤ ((μ 6) - 1)) = 0) => ?_) (fun (b10 : ¬ bz (0 ≤ k ∧ k ≤ ((μ 6) - 1)) = 0) => ?_))
  ·
    show WP (Call d) 239 P X (14, [some (vr (some 90) 10), some (vi k), some (vi y)], [vr (some 90) 10], (I, H), 0, 0)
    have z10 := bz_e0.mp b10
    refine WP.go 6 (And.intro (And.intro rfl trivial) (And.intro rfl (And.intro (fun (b20 : ¬ 0 < 1) => (absurd b20 (by omega))) (fun (b20 : 0 < 1) => ?_))))
    show WP (Call d) 239 P X (21, [some (vr (some 90) 10), some (vi k), some (vi y)], [], ((upI I 90 0 1), H), 0, 0)
    refine WP.go 2 (And.intro (And.intro (Nat.le_of_ble_eq_true rfl) (Nat.le_of_ble_eq_true rfl)) (And.intro (Or.inl rfl) (?_)))
    show P (some (vi 0)) ((upI I 90 0 1), H)
    exact hk1 (by omega) _ 0 (.inl rfl) (MF.th hK _) (upI_same _ _ _ _)
  ·
    show WP (Call d) 239 P X (11, [some (vr (some 90) 10), some (vi k), some (vi y)], [vr (some 90) 10], (I, H), 0, 0)
    have z10 := bz_e1.mp b10
    refine WP.go 2 (And.intro (And.intro (Nat.le_of_ble_eq_true rfl) (Nat.le_of_ble_eq_true rfl)) (And.intro rfl (?_)))
    show Call d 179 [vi y] (I, H) _ _
    refine s_12_isYear (by omega)  ?_
    show WP (Call d) 239 P X (13, [some (vr (some 90) 10), some (vi k), some (vi y)], [vi (bz (0 ≤ y ∧ y ≤ 99)), vr (some 90) 10], (I, H), 0, 0)
    refine WP.go 1 (And.intro (fun (b13 : ¬ bz (0 ≤ y ∧ y ≤ 99) = 0) => ?_) (fun (b13 : bz (0 ≤ y ∧ y ≤ 99) = 0) => ?_))
    ·
      show WP (Call d) 239 P X (16, [some (vr (some 90) 10), some (vi k), some (vi y)], [vr (some 90) 10], (I, H), 0, 0)
      have z13 := bz_e1.mp b13
      refine WP.go 5 (And.intro (And.intro rfl trivial) (And.intro rfl (And.intro (fun (b20 : ¬ 0 < 0) => ?_) (fun (b20 : 0 < 0) => (absurd b20 (by omega))))))
      show WP (Call d) 239 P X (23, [some (vr (some 90) 10), some (vi k), some (vi y)], [], ((upI I 90 0 0), H), 0, 0)
      generalize hq_J0 : (upI I 90 0 0) = J0
      have e_J0 : J0 90 = (fun j => if j = 0 then 0 else I 90 j) := by rw [← hq_J0]; exact upI_self _ _ _ _
      have f_J0 : ∀ a, a ≠ 90 → J0 a = I a := fun a q => by rw [← hq_J0]; exact upI_cell q
      have hmf : MF I J0 := MF.t0 hK e_J0 f_J0
      have hth : J0 90 0 = 0 := by rw [e_J0]; rfl
      have hM_1 : J0 91 = μ := (f_J0 91 (by omega)).trans hM
      have h_2 : J0 90 22 = -1 := by rw [e_J0]; exact h22
      have h_3 : J0 90 23 = mo := by rw [e_J0]; exact h23
      have h_4 : J0 90 29 = -1 := by rw [e_J0]; exact h29
      have h_5 : J0 90 30 = tb := by rw [e_J0]; exact h30
      refine WP.go 2 (And.intro (And.intro (Nat.le_of_ble_eq_true rfl) (Nat.le_of_ble_eq_true rfl)) (And.intro rfl (?_)))
      show Call d 210 [vr (some 90) 10] (J0, H) _ _
      refine s_12_turn (by omega) hS hM_1 hV h_2 h_3 hmo (fun J24 e24 f24 => ?_)
      show WP (Call d) 239 P X (25, [some (vr (some 90) 10), some (vi k), some (vi y)], [], (J24, H), 0, 0)
      have hM_6 : J24 91 = μ := (f24 91 (by omega)).trans hM_1
      have h_7 : J24 90 22 = -1 := (congrFun (f24 90 (by omega)) 22).trans h_2
      have h_8 : J24 90 23 = mo := (congrFun (f24 90 (by omega)) 23).trans h_3
      have h_9 : J24 90 29 = -1 := (congrFun (f24 90 (by omega)) 29).trans h_4
      have h_10 : J24 90 30 = tb := (congrFun (f24 90 (by omega)) 30).trans h_5
      have hA_11 : ∀ y, 0 ≤ y → y < 100 → 0 ≤ J24 96 y ∧ J24 96 y < 96 := fun y q1 q2 => by rw [e24 y q1 q2]; exact ANG_bd hV _ _ _
      have eA : ∀ y, 0 ≤ y → y < 100 → J24 96 y = AN μ y := fun y q1 q2 => (e24 y q1 q2).trans (ANG_irr (by omega) _ _ _)
      have hmf_12 : MF I J24 := hmf.tu f24
      have hth_13 : J24 90 0 = 0 := (congrFun (f24 90 (by omega)) 0).trans hth
      refine WP.go 4 (And.intro (And.intro (Nat.le_of_ble_eq_true rfl) (Nat.le_of_ble_eq_true rfl)) (And.intro rfl (?_)))
      show Call d 238 [vr (some 90) 10, vi k, vi y] (J24, H) _ _
      refine s_12_goesDown (by omega) hS hM_6 hV hA_11 (by omega) (by omega) ?_
      show WP (Call d) 239 P X (29, [some (vr (some 90) 10), some (vi k), some (vi y)], [vi (bz (RUNp μ (J24 96) k y))], (J24, H), 0, 0)
      refine WP.go 1 (And.intro (And.intro (Nat.le_of_ble_eq_true rfl) (Nat.le_of_ble_eq_true rfl)) (And.intro (bz_or _) (?_)))
      show P (some (vi (bz (RUNp μ (J24 96) k y)))) (J24, H)
      exact fin_i (bz_c (by unfold RUNp LVL; rw [eA y (by omega) (by omega)])) (h (by omega) _ hmf_12 hth_13)
    ·
      show WP (Call d) 239 P X (14, [some (vr (some 90) 10), some (vi k), some (vi y)], [vr (some 90) 10], (I, H), 0, 0)
      have z13 := bz_e0.mp b13
      refine WP.go 6 (And.intro (And.intro rfl trivial) (And.intro rfl (And.intro (fun (b20 : ¬ 0 < 1) => (absurd b20 (by omega))) (fun (b20 : 0 < 1) => ?_))))
      show WP (Call d) 239 P X (21, [some (vr (some 90) 10), some (vi k), some (vi y)], [], ((upI I 90 0 1), H), 0, 0)
      refine WP.go 2 (And.intro (And.intro (Nat.le_of_ble_eq_true rfl) (Nat.le_of_ble_eq_true rfl)) (And.intro (Or.inl rfl) (?_)))
      show P (some (vi 0)) ((upI I 90 0 1), H)
      exact hk1 (by omega) _ 0 (.inl rfl) (MF.th hK _) (upI_same _ _ _ _)

theorem s_12_good {d : Nat} {P : Option qV → qH → Prop} {X : Nat → qH → Prop} {I : qI} {H : qS} {μ : Int → Int} (hd : 7 ≤ d) {f h9 : Int} (hS : Shp H) (hM : I 91 = μ) (hV : IM μ) (hK : MS I) (hk1 : (¬ ((0 ≤ f ∧ f < μ 1) ∧ (0 ≤ h9 ∧ h9 < μ 1))) → ∀ (J : qI) (v : Int), (v = 0 ∨ v = 1) → MF I J → J 90 0 = 1 → P (some (vi v)) (J, H)) (h : ((0 ≤ f ∧ f < μ 1) ∧ (0 ≤ h9 ∧ h9 < μ 1)) → ∀ J : qI, MF I J → J 90 0 = 0 → P (some (vi (BRT μ (AN μ) (HT μ) h9 (μ (210 + 2 * f)) (μ (211 + 2 * f))))) (J, H)) :
    Call d 255 [vr (some 90) 10, vi f, vi h9] (I, H) P X := by
  obtain ⟨d, rfl⟩ : ∃ e, d = e + 1 := ⟨d - 1, by omega⟩
  obtain ⟨tb, h30⟩ : ∃ tb, I 90 30 = tb := ⟨_, rfl⟩
  obtain ⟨mo, h23⟩ : ∃ mo, I 90 23 = mo := ⟨_, rfl⟩
  have htb : 0 ≤ tb ∧ tb ≤ 29 := by have := hK.2.2.2; omega
  have hmo : (-1 : Int) = -1 ∨ (0 ≤ mo ∧ mo ≤ 48) := .inl rfl
  have h22 := hK.1
  have h29 := hK.2.1
  show WP (Call d) 255 P X (0, [some (vr (some 90) 10), some (vi f), some (vi h9)], [], (I, H), 0, 0)
  refine WP.go 4 (And.intro (And.intro (Nat.le_of_ble_eq_true rfl) (Nat.le_of_ble_eq_true rfl)) (And.intro rfl (?_)))
  show Call d 180 [vr (some 90) 10, vi f] (I, H) _ _
  refine s_12_isHouse (by omega) hS hM hV ?_
  show WP (Call d) 255 P X (4, [some (vr (some 90) 10), some (vi f), some (vi h9)], [vi (bz (0 ≤ f ∧ f ≤ μ 1 - 1)), vr (some 90) 10], (I, H), 0, 0)
  refine WP.go 1 (And.intro (fun (b4 : bz (0 ≤ f ∧ f ≤ μ 1 - 1) = 0) => ?_) (fun (b4 : ¬ bz (0 ≤ f ∧ f ≤ μ 1 - 1) = 0) => ?_))
  ·
    show WP (Call d) 255 P X (9, [some (vr (some 90) 10), some (vi f), some (vi h9)], [vr (some 90) 10], (I, H), 0, 0)
    have z4 := bz_e0.mp b4
    refine WP.go 6 (And.intro (And.intro rfl trivial) (And.intro rfl (And.intro (fun (b15 : ¬ 0 < 1) => (absurd b15 (by omega))) (fun (b15 : 0 < 1) => ?_))))
    show WP (Call d) 255 P X (16, [some (vr (some 90) 10), some (vi f), some (vi h9)], [], ((upI I 90 0 1), H), 0, 0)
    refine WP.go 2 (And.intro (And.intro (Nat.le_of_ble_eq_true rfl) (Nat.le_of_ble_eq_true rfl)) (And.intro trivial (?_)))
    show P (some (vi 0)) ((upI I 90 0 1), H)
    exact hk1 (by omega) _ 0 (.inl rfl) (MF.th hK _) (upI_same _ _ _ _)
  ·
    show WP (Call d) 255 P X (5, [some (vr (some 90) 10), some (vi f), some (vi h9)], [vr (some 90) 10], (I, H), 0, 0)
    have z4 := bz_e1.mp b4
    refine WP.go 3 (And.intro (And.intro (Nat.le_of_ble_eq_true rfl) (Nat.le_of_ble_eq_true rfl)) (And.intro rfl (?_)))
    show Call d 180 [vr (some 90) 10, vi h9] (I, H) _ _
    refine s_12_isHouse (by omega) hS hM hV ?_
    show WP (Call d) 255 P X (8, [some (vr (some 90) 10), some (vi f), some (vi h9)], [vi (bz (0 ≤ h9 ∧ h9 ≤ μ 1 - 1)), vr (some 90) 10], (I, H), 0, 0)
    refine WP.go 1 (And.intro (fun (b8 : ¬ bz (0 ≤ h9 ∧ h9 ≤ μ 1 - 1) = 0) => ?_) (fun (b8 : bz (0 ≤ h9 ∧ h9 ≤ μ 1 - 1) = 0) => ?_))
    ·
      show WP (Call d) 255 P X (11, [some (vr (some 90) 10), some (vi f), some (vi h9)], [vr (some 90) 10], (I, H), 0, 0)
      have z8 := bz_e1.mp b8
      refine WP.go 5 (And.intro (And.intro rfl trivial) (And.intro rfl (And.intro (fun (b15 : ¬ 0 < 0) => ?_) (fun (b15 : 0 < 0) => (absurd b15 (by omega))))))
      show WP (Call d) 255 P X (18, [some (vr (some 90) 10), some (vi f), some (vi h9)], [], ((upI I 90 0 0), H), 0, 0)
      generalize hq_J0 : (upI I 90 0 0) = J0
      have e_J0 : J0 90 = (fun j => if j = 0 then 0 else I 90 j) := by rw [← hq_J0]; exact upI_self _ _ _ _
      have f_J0 : ∀ a, a ≠ 90 → J0 a = I a := fun a q => by rw [← hq_J0]; exact upI_cell q
      have hmf : MF I J0 := MF.t0 hK e_J0 f_J0
      have hth : J0 90 0 = 0 := by rw [e_J0]; rfl
      have hM_1 : J0 91 = μ := (f_J0 91 (by omega)).trans hM
      have h_2 : J0 90 22 = -1 := by rw [e_J0]; exact h22
      have h_3 : J0 90 23 = mo := by rw [e_J0]; exact h23
      have h_4 : J0 90 29 = -1 := by rw [e_J0]; exact h29
      have h_5 : J0 90 30 = tb := by rw [e_J0]; exact h30
      refine WP.go 2 (And.intro (And.intro (Nat.le_of_ble_eq_true rfl) (Nat.le_of_ble_eq_true rfl)) (And.intro rfl (?_)))
      show Call d 210 [vr (some 90) 10] (J0, H) _ _
      refine s_12_turn (by omega) hS hM_1 hV h_2 h_3 hmo (fun J19 e19 f19 => ?_)
      show WP (Call d) 255 P X (20, [some (vr (some 90) 10), some (vi f), some (vi h9)], [], (J19, H), 0, 0)
      have hM_6 : J19 91 = μ := (f19 91 (by omega)).trans hM_1
      have h_7 : J19 90 22 = -1 := (congrFun (f19 90 (by omega)) 22).trans h_2
      have h_8 : J19 90 23 = mo := (congrFun (f19 90 (by omega)) 23).trans h_3
      have h_9 : J19 90 29 = -1 := (congrFun (f19 90 (by omega)) 29).trans h_4
      have h_10 : J19 90 30 = tb := (congrFun (f19 90 (by omega)) 30).trans h_5
      have hA_11 : ∀ y, 0 ≤ y → y < 100 → 0 ≤ J19 96 y ∧ J19 96 y < 96 := fun y q1 q2 => by rw [e19 y q1 q2]; exact ANG_bd hV _ _ _
      have eA : ∀ y, 0 ≤ y → y < 100 → J19 96 y = AN μ y := fun y q1 q2 => (e19 y q1 q2).trans (ANG_irr (by omega) _ _ _)
      have hmf_12 : MF I J19 := hmf.tu f19
      have hth_13 : J19 90 0 = 0 := (congrFun (f19 90 (by omega)) 0).trans hth
      have v1 := hV.wa f (by omega) (by omega)
      refine WP.go 4 (And.intro (And.intro (Nat.le_of_ble_eq_true rfl) (Nat.le_of_ble_eq_true rfl)) (And.intro rfl (?_)))
      show Call d 254 [vr (some 90) 10, vi f, vi h9] (J19, H) _ _
      refine s_12_goodOf (by omega) hS hM_6 hV hA_11 h_9 h_10 htb (by omega) ?_
      show WP (Call d) 255 P X (24, [some (vr (some 90) 10), some (vi f), some (vi h9)], [vi (BRT μ (J19 96) (HTC μ (-1) tb) h9 (μ (210 + 2 * f)) (μ (211 + 2 * f)))], (J19, H), 0, 0)
      refine WP.go 1 (And.intro (And.intro (Nat.le_of_ble_eq_true rfl) (Nat.le_of_ble_eq_true rfl)) (And.intro trivial (?_)))
      show P (some (vi (BRT μ (J19 96) (HTC μ (-1) tb) h9 (μ (210 + 2 * f)) (μ (211 + 2 * f))))) (J19, H)
      exact fin_i (BRT_congr (by omega) (by omega) eA (HT_i hV tb)) (h (by omega) _ hmf_12 hth_13)
    ·
      show WP (Call d) 255 P X (9, [some (vr (some 90) 10), some (vi f), some (vi h9)], [vr (some 90) 10], (I, H), 0, 0)
      have z8 := bz_e0.mp b8
      refine WP.go 6 (And.intro (And.intro rfl trivial) (And.intro rfl (And.intro (fun (b15 : ¬ 0 < 1) => (absurd b15 (by omega))) (fun (b15 : 0 < 1) => ?_))))
      show WP (Call d) 255 P X (16, [some (vr (some 90) 10), some (vi f), some (vi h9)], [], ((upI I 90 0 1), H), 0, 0)
      refine WP.go 2 (And.intro (And.intro (Nat.le_of_ble_eq_true rfl) (Nat.le_of_ble_eq_true rfl)) (And.intro trivial (?_)))
      show P (some (vi 0)) ((upI I 90 0 1), H)
      exact hk1 (by omega) _ 0 (.inl rfl) (MF.th hK _) (upI_same _ _ _ _)

theorem s_12_left {d : Nat} {P : Option qV → qH → Prop} {X : Nat → qH → Prop} {I : qI} {H : qS} {μ : Int → Int} (hd : 7 ≤ d) (hS : Shp H) (hM : I 91 = μ) (hV : IM μ) (hK : MS I) (h : ∀ J : qI, MF I J → J 90 0 = 0 → P (some (vi (hB (fun i => LGH μ (AN μ) (HT μ) i (STP (AN μ)) = 0) (μ 1)))) (J, H)) :
    Call d 260 [vr (some 90) 10] (I, H) P X := by
  obtain ⟨d, rfl⟩ : ∃ e, d = e + 1 := ⟨d - 1, by omega⟩
  obtain ⟨tb, h30⟩ : ∃ tb, I 90 30 = tb := ⟨_, rfl⟩
  obtain ⟨mo, h23⟩ : ∃ mo, I 90 23 = mo := ⟨_, rfl⟩
  have htb : 0 ≤ tb ∧ tb ≤ 29 := by have := hK.2.2.2; omega
  have hmo : (-1 : Int) = -1 ∨ (0 ≤ mo ∧ mo ≤ 48) := .inl rfl
  have h22 := hK.1
  have h29 := hK.2.1
  show WP (Call d) 260 P X (0, [some (vr (some 90) 10)], [], (I, H), 0, 0)
  refine WP.go 3 (And.intro (And.intro rfl trivial) (?_))
  show WP (Call d) 260 P X (3, [some (vr (some 90) 10)], [], ((upI I 90 0 0), H), 0, 0)
  generalize hq_J0 : (upI I 90 0 0) = J0
  have e_J0 : J0 90 = (fun j => if j = 0 then 0 else I 90 j) := by rw [← hq_J0]; exact upI_self _ _ _ _
  have f_J0 : ∀ a, a ≠ 90 → J0 a = I a := fun a q => by rw [← hq_J0]; exact upI_cell q
  have hmf : MF I J0 := MF.t0 hK e_J0 f_J0
  have hth : J0 90 0 = 0 := by rw [e_J0]; rfl
  have hM_1 : J0 91 = μ := (f_J0 91 (by omega)).trans hM
  have h_2 : J0 90 22 = -1 := by rw [e_J0]; exact h22
  have h_3 : J0 90 23 = mo := by rw [e_J0]; exact h23
  have h_4 : J0 90 29 = -1 := by rw [e_J0]; exact h29
  have h_5 : J0 90 30 = tb := by rw [e_J0]; exact h30
  refine WP.go 2 (And.intro (And.intro (Nat.le_of_ble_eq_true rfl) (Nat.le_of_ble_eq_true rfl)) (And.intro rfl (?_)))
  show Call d 210 [vr (some 90) 10] (J0, H) _ _
  refine s_12_turn (by omega) hS hM_1 hV h_2 h_3 hmo (fun J4 e4 f4 => ?_)
  show WP (Call d) 260 P X (5, [some (vr (some 90) 10)], [], (J4, H), 0, 0)
  have hM_6 : J4 91 = μ := (f4 91 (by omega)).trans hM_1
  have h_7 : J4 90 22 = -1 := (congrFun (f4 90 (by omega)) 22).trans h_2
  have h_8 : J4 90 23 = mo := (congrFun (f4 90 (by omega)) 23).trans h_3
  have h_9 : J4 90 29 = -1 := (congrFun (f4 90 (by omega)) 29).trans h_4
  have h_10 : J4 90 30 = tb := (congrFun (f4 90 (by omega)) 30).trans h_5
  have hA_11 : ∀ y, 0 ≤ y → y < 100 → 0 ≤ J4 96 y ∧ J4 96 y < 96 := fun y q1 q2 => by rw [e4 y q1 q2]; exact ANG_bd hV _ _ _
  have eA : ∀ y, 0 ≤ y → y < 100 → J4 96 y = AN μ y := fun y q1 q2 => (e4 y q1 q2).trans (ANG_irr (by omega) _ _ _)
  have hmf_12 : MF I J4 := hmf.tu f4
  have hth_13 : J4 90 0 = 0 := (congrFun (f4 90 (by omega)) 0).trans hth
  refine WP.go 2 ?_
  show WP (Call d) 260 P X (7, [some (vr (some 90) 10)], [vr (some 90) 10, vr (some 90) 10], (J4, H), 0, 0)
  have v2 := STP_bd (J4 96)
  refine WP.go 1 (And.intro (And.intro (Nat.le_of_ble_eq_true rfl) (Nat.le_of_ble_eq_true rfl)) (And.intro rfl (?_)))
  show Call d 212 [vr (some 90) 10] (J4, H) _ _
  refine s_12_stopYear (by omega) hS ?_
  show WP (Call d) 260 P X (8, [some (vr (some 90) 10)], [vi (STP (J4 96)), vr (some 90) 10], (J4, H), 0, 0)
  refine WP.go 2 (And.intro (And.intro (Nat.le_of_ble_eq_true rfl) (Nat.le_of_ble_eq_true rfl)) (And.intro rfl (?_)))
  show Call d 226 [vr (some 90) 10, vi (STP (J4 96)), vi 0] (J4, H) _ _
  refine s_12_housesOf_0 (by omega) hS hM_6 hV hA_11 h_9 h_10 htb (by omega) ?_
  show WP (Call d) 260 P X (10, [some (vr (some 90) 10)], [vi (hB (fun i => LGH μ (J4 96) (HTC μ (-1) tb) i (STP (J4 96)) = 0) (μ 1))], (J4, H), 0, 0)
  refine WP.go 1 (And.intro (And.intro (Nat.le_of_ble_eq_true rfl) (Nat.le_of_ble_eq_true rfl)) (And.intro trivial (?_)))
  show P (some (vi (hB (fun i => LGH μ (J4 96) (HTC μ (-1) tb) i (STP (J4 96)) = 0) (μ 1)))) (J4, H)
  exact fin_i (by rw [STP_congr eA]; exact hB_congr (fun i _ _ => by rw [LGH_congr (eA _ (STP_bd _).1 (STP_bd _).2) (HT_i hV tb)])) (h _ hmf_12 hth_13)

