theorem MF.sw {I J K : qI} (h : MF I J) (g : XF J K) : MF I K :=
  ⟨fun a q => (g.1 a (by omega)).trans (h.1 a q), fun s q => (g.2 s (by omega) (by omega)).trans (h.2.1 s q), by have := h.2.2; unfold MS at *; rw [g.2 22 (by omega) (by omega), g.2 23 (by omega) (by omega), g.2 29 (by omega) (by omega), g.2 30 (by omega) (by omega)]; exact this⟩
theorem s_12_swaps {d : Nat} {P : Option qV → qH → Prop} {X : Nat → qH → Prop} {I : qI} {H : qS} {μ : Int → Int} (hd : 42 ≤ d) {fm wh : Int} (hS : Shp H) (hM : I 91 = μ) (hV : IM μ) (hK : MS I) (hk1 : ¬ (fm = -1 ∨ (0 ≤ fm ∧ fm < μ 1)) → ∀ (J : qI) (v : Int), (v = 0 ∨ v = 1) → MF I J → J 90 0 = 1 → P (some (vi v)) (J, H)) (hk2 : (fm = -1 ∨ (0 ≤ fm ∧ fm < μ 1)) ∧ ¬ (0 ≤ wh ∧ wh ≤ 1) → ∀ (J : qI) (v : Int), (v = 0 ∨ v = 1) → MF I J → J 90 0 = 2 → P (some (vi v)) (J, H)) (h : ((fm = -1 ∨ (0 ≤ fm ∧ fm < μ 1)) ∧ (0 ≤ wh ∧ wh ≤ 1)) → ∀ J : qI, MF I J → J 90 0 = 0 → P (some (vi (SWA μ fm wh))) (J, H)) :
    Call d 258 [vr (some 90) 10, vi fm, vi wh] (I, H) P X := by
  obtain ⟨d, rfl⟩ : ∃ e, d = e + 1 := ⟨d - 1, by omega⟩
  have hl91 := hS.l91
  have hl98 := hS.l98
  obtain ⟨tb, h30⟩ : ∃ tb, I 90 30 = tb := ⟨_, rfl⟩
  obtain ⟨mo, h23⟩ : ∃ mo, I 90 23 = mo := ⟨_, rfl⟩
  have htb : 0 ≤ tb ∧ tb ≤ 29 := by have := hK.2.2.2; omega
  have hmo : (-1 : Int) = -1 ∨ (0 ≤ mo ∧ mo ≤ 48) := .inl rfl
  have h22 := hK.1
  have h29 := hK.2.1
  have hn1 := hV.n1
  show WP (Call d) 258 P X (0, [some (vr (some 90) 10), some (vi fm), some (vi wh)], [], (I, H), 0, 0)
  refine WP.go 4 (And.intro (fun (b3 : fm = (-1)) => ?_) (fun (b3 : ¬ fm = (-1)) => ?_))
  ·
    show WP (Call d) 258 P X (10, [some (vr (some 90) 10), some (vi fm), some (vi wh)], [vr (some 90) 10], (I, H), 0, 0)
    refine WP.go 4 (And.intro (And.intro (Nat.le_of_ble_eq_true rfl) (Nat.le_of_ble_eq_true rfl)) (And.intro rfl (?_)))
    show Call d 177 [vi wh, vi 0, vi 1] (I, H) _ _
    refine s_12_isIn (by omega)  ?_
    show WP (Call d) 258 P X (14, [some (vr (some 90) 10), some (vi fm), some (vi wh)], [vi (bz (0 ≤ wh ∧ wh ≤ 1)), vr (some 90) 10], (I, H), 0, 0)
    refine WP.go 1 (And.intro (fun (b14 : ¬ bz (0 ≤ wh ∧ wh ≤ 1) = 0) => ?_) (fun (b14 : bz (0 ≤ wh ∧ wh ≤ 1) = 0) => ?_))
    ·
      show WP (Call d) 258 P X (17, [some (vr (some 90) 10), some (vi fm), some (vi wh)], [vr (some 90) 10], (I, H), 0, 0)
      have z14 := bz_e1.mp b14
      refine WP.go 5 (And.intro (And.intro rfl trivial) (And.intro rfl (And.intro (fun (b21 : ¬ 0 < 0) => ?_) (fun (b21 : 0 < 0) => (absurd b21 (by omega))))))
      show WP (Call d) 258 P X (24, [some (vr (some 90) 10), some (vi fm), some (vi wh)], [], ((upI I 90 0 0), H), 0, 0)
      generalize hq_J0 : (upI I 90 0 0) = J0
      have e_J0 : J0 90 = (fun j => if j = 0 then 0 else I 90 j) := by rw [← hq_J0]; exact upI_self _ _ _ _
      have f_J0 : ∀ a, a ≠ 90 → J0 a = I a := fun a q => by rw [← hq_J0]; exact upI_cell q
      have hMJ : J0 91 = μ := (f_J0 91 (by omega)).trans hM
      have hmf : MF I J0 := MF.t0 hK e_J0 f_J0
      have hth : J0 90 0 = 0 := by rw [e_J0]; rfl
      have hM_1 : J0 91 = μ := (f_J0 91 (by omega)).trans hM
      have h_2 : J0 90 22 = -1 := by rw [e_J0]; exact h22
      have h_3 : J0 90 23 = mo := by rw [e_J0]; exact h23
      have h_4 : J0 90 29 = -1 := by rw [e_J0]; exact h29
      have h_5 : J0 90 30 = tb := by rw [e_J0]; exact h30
      refine WP.go 4 (And.intro rfl (Exists.intro 91 (And.intro hS.r90_1 (And.intro (And.intro rfl (And.intro (show 0 ≤ 1 from by omega) (show 1 < H.2.1 91 from by omega))) (?_)))))
      refine rw_i (Q := fun x9 => WP (Call d) 258 P X (28, [some (vr (some 90) 10), some (vi fm), some (vi wh)], [vi x9], (J0, H), 0, 0)) (congrFun hM_1 _) ?_
      show WP (Call d) 258 P X (28, [some (vr (some 90) 10), some (vi fm), some (vi wh)], [vi (μ 1)], (J0, H), 0, 0)
      refine WP.go 2 (And.intro (fun (b29 : ¬ 7 < μ 1) => ?_) (fun (b29 : 7 < μ 1) => ?_))
      ·
        show WP (Call d) 258 P X (32, [some (vr (some 90) 10), some (vi fm), some (vi wh)], [], (J0, H), 0, 0)
        refine WP.go 2 (And.intro (And.intro (Nat.le_of_ble_eq_true rfl) (Nat.le_of_ble_eq_true rfl)) (And.intro rfl (?_)))
        show Call d 257 [vr (some 90) 10] (J0, H) _ _
        refine s_12_swapAll (by omega) hS hM_1 hV (by omega) h_2 h_3 h_4 h_5 htb (.inl rfl) (fun J33 c33 e33 f33 g33 => ?_)
        show WP (Call d) 258 P X (34, [some (vr (some 90) 10), some (vi fm), some (vi wh)], [], (J33, H), 0, 0)
        have hsr := sw_r hV (by omega) c33 e33
        have hre : RE μ J33 (RW7 μ c33 e33) := f33
        refine WP.go 3 (And.intro (fun (b36 : fm = (-1)) => ?_) (fun (b36 : ¬ fm = (-1)) => ?_))
        ·
          show WP (Call d) 258 P X (42, [some (vr (some 90) 10), some (vi fm), some (vi wh)], [], (J33, H), 0, 0)
          refine WP.go 2 (And.intro (fun (b43 : ¬ wh = 0) => ?_) (fun (b43 : wh = 0) => ?_))
          ·
            show WP (Call d) 258 P X (47, [some (vr (some 90) 10), some (vi fm), some (vi wh)], [], (J33, H), 0, 0)
            refine WP.go 3 (And.intro rfl (And.intro (And.intro (Nat.le_of_ble_eq_true rfl) (Nat.le_of_ble_eq_true rfl)) (And.intro trivial (?_))))
            show P (some (vi (J33 90 28))) (J33, H)
            exact fin_i (by unfold SWA; rw [if_neg (by omega), if_pos (by omega), if_neg (by omega), hre.1.2]; exact hsr.2.1) (h (by omega) _ (hmf.sw g33) ((g33.2 0 (by omega) (by omega)).trans hth))
          ·
            show WP (Call d) 258 P X (44, [some (vr (some 90) 10), some (vi fm), some (vi wh)], [], (J33, H), 0, 0)
            refine WP.go 4 (And.intro rfl (And.intro (And.intro (Nat.le_of_ble_eq_true rfl) (Nat.le_of_ble_eq_true rfl)) (And.intro trivial (?_))))
            show P (some (vi (J33 90 27))) (J33, H)
            exact fin_i (by unfold SWA; rw [if_neg (by omega), if_pos (by omega), if_pos (by omega), hre.1.1]; exact hsr.1) (h (by omega) _ (hmf.sw g33) ((g33.2 0 (by omega) (by omega)).trans hth))
        ·
          show WP (Call d) 258 P X (37, [some (vr (some 90) 10), some (vi fm), some (vi wh)], [], (J33, H), 0, 0)
          refine WP.go 6 (And.intro rfl (Exists.intro 98 (And.intro hS.r90_26 (And.intro (And.intro rfl (And.intro (show 0 ≤ fm from by omega) (show fm < H.2.1 98 from by omega))) (And.intro (And.intro (Nat.le_of_ble_eq_true rfl) (Nat.le_of_ble_eq_true rfl)) (And.intro trivial (?_)))))))
          show P (some (vi (J33 98 fm))) (J33, H)
          exact fin_i (by unfold SWA; rw [if_neg (by omega), if_neg (by omega), hre.2.2 fm (by omega) (by omega)]; exact hsr.2.2 fm (by omega) (by omega)) (h (by omega) _ (hmf.sw g33) ((g33.2 0 (by omega) (by omega)).trans hth))
      ·
        show WP (Call d) 258 P X (30, [some (vr (some 90) 10), some (vi fm), some (vi wh)], [], (J0, H), 0, 0)
        refine WP.go 2 (And.intro (And.intro (Nat.le_of_ble_eq_true rfl) (Nat.le_of_ble_eq_true rfl)) (And.intro trivial (?_)))
        show P (some (vi (-3))) (J0, H)
        exact fin_i (if_pos (by omega)).symm (h (by omega) _ hmf hth)
    ·
      show WP (Call d) 258 P X (15, [some (vr (some 90) 10), some (vi fm), some (vi wh)], [vr (some 90) 10], (I, H), 0, 0)
      have z14 := bz_e0.mp b14
      refine WP.go 6 (And.intro (And.intro rfl trivial) (And.intro rfl (And.intro (fun (b21 : ¬ 0 < 2) => (absurd b21 (by omega))) (fun (b21 : 0 < 2) => ?_))))
      show WP (Call d) 258 P X (22, [some (vr (some 90) 10), some (vi fm), some (vi wh)], [], ((upI I 90 0 2), H), 0, 0)
      refine WP.go 2 (And.intro (And.intro (Nat.le_of_ble_eq_true rfl) (Nat.le_of_ble_eq_true rfl)) (And.intro trivial (?_)))
      show P (some (vi 0)) ((upI I 90 0 2), H)
      exact hk2 (by omega) _ 0 (.inl rfl) (MF.th hK _) (upI_same _ _ _ _)
  ·
    show WP (Call d) 258 P X (4, [some (vr (some 90) 10), some (vi fm), some (vi wh)], [vr (some 90) 10], (I, H), 0, 0)
    refine WP.go 3 (And.intro (And.intro (Nat.le_of_ble_eq_true rfl) (Nat.le_of_ble_eq_true rfl)) (And.intro rfl (?_)))
    show Call d 180 [vr (some 90) 10, vi fm] (I, H) _ _
    refine s_12_isHouse (by omega) hS hM hV ?_
    show WP (Call d) 258 P X (7, [some (vr (some 90) 10), some (vi fm), some (vi wh)], [vi (bz (0 ≤ fm ∧ fm ≤ μ 1 - 1)), vr (some 90) 10], (I, H), 0, 0)
    refine WP.go 1 (And.intro (fun (b7 : ¬ bz (0 ≤ fm ∧ fm ≤ μ 1 - 1) = 0) => ?_) (fun (b7 : bz (0 ≤ fm ∧ fm ≤ μ 1 - 1) = 0) => ?_))
    ·
      show WP (Call d) 258 P X (10, [some (vr (some 90) 10), some (vi fm), some (vi wh)], [vr (some 90) 10], (I, H), 0, 0)
      have z7 := bz_e1.mp b7
      refine WP.go 4 (And.intro (And.intro (Nat.le_of_ble_eq_true rfl) (Nat.le_of_ble_eq_true rfl)) (And.intro rfl (?_)))
      show Call d 177 [vi wh, vi 0, vi 1] (I, H) _ _
      refine s_12_isIn (by omega)  ?_
      show WP (Call d) 258 P X (14, [some (vr (some 90) 10), some (vi fm), some (vi wh)], [vi (bz (0 ≤ wh ∧ wh ≤ 1)), vr (some 90) 10], (I, H), 0, 0)
      refine WP.go 1 (And.intro (fun (b14 : ¬ bz (0 ≤ wh ∧ wh ≤ 1) = 0) => ?_) (fun (b14 : bz (0 ≤ wh ∧ wh ≤ 1) = 0) => ?_))
      ·
        show WP (Call d) 258 P X (17, [some (vr (some 90) 10), some (vi fm), some (vi wh)], [vr (some 90) 10], (I, H), 0, 0)
        have z14 := bz_e1.mp b14
        refine WP.go 5 (And.intro (And.intro rfl trivial) (And.intro rfl (And.intro (fun (b21 : ¬ 0 < 0) => ?_) (fun (b21 : 0 < 0) => (absurd b21 (by omega))))))
        show WP (Call d) 258 P X (24, [some (vr (some 90) 10), some (vi fm), some (vi wh)], [], ((upI I 90 0 0), H), 0, 0)
        generalize hq_J0 : (upI I 90 0 0) = J0
        have e_J0 : J0 90 = (fun j => if j = 0 then 0 else I 90 j) := by rw [← hq_J0]; exact upI_self _ _ _ _
        have f_J0 : ∀ a, a ≠ 90 → J0 a = I a := fun a q => by rw [← hq_J0]; exact upI_cell q
        have hMJ : J0 91 = μ := (f_J0 91 (by omega)).trans hM
        have hmf : MF I J0 := MF.t0 hK e_J0 f_J0
        have hth : J0 90 0 = 0 := by rw [e_J0]; rfl
        have hM_6 : J0 91 = μ := (f_J0 91 (by omega)).trans hM
        have h_7 : J0 90 22 = -1 := by rw [e_J0]; exact h22
        have h_8 : J0 90 23 = mo := by rw [e_J0]; exact h23
        have h_9 : J0 90 29 = -1 := by rw [e_J0]; exact h29
        have h_10 : J0 90 30 = tb := by rw [e_J0]; exact h30
        refine WP.go 4 (And.intro rfl (Exists.intro 91 (And.intro hS.r90_1 (And.intro (And.intro rfl (And.intro (show 0 ≤ 1 from by omega) (show 1 < H.2.1 91 from by omega))) (?_)))))
        refine rw_i (Q := fun x9 => WP (Call d) 258 P X (28, [some (vr (some 90) 10), some (vi fm), some (vi wh)], [vi x9], (J0, H), 0, 0)) (congrFun hM_6 _) ?_
        show WP (Call d) 258 P X (28, [some (vr (some 90) 10), some (vi fm), some (vi wh)], [vi (μ 1)], (J0, H), 0, 0)
        refine WP.go 2 (And.intro (fun (b29 : ¬ 7 < μ 1) => ?_) (fun (b29 : 7 < μ 1) => ?_))
        ·
          show WP (Call d) 258 P X (32, [some (vr (some 90) 10), some (vi fm), some (vi wh)], [], (J0, H), 0, 0)
          refine WP.go 2 (And.intro (And.intro (Nat.le_of_ble_eq_true rfl) (Nat.le_of_ble_eq_true rfl)) (And.intro rfl (?_)))
          show Call d 257 [vr (some 90) 10] (J0, H) _ _
          refine s_12_swapAll (by omega) hS hM_6 hV (by omega) h_7 h_8 h_9 h_10 htb (.inl rfl) (fun J33_1 c33_1 e33_1 f33_1 g33_1 => ?_)
          show WP (Call d) 258 P X (34, [some (vr (some 90) 10), some (vi fm), some (vi wh)], [], (J33_1, H), 0, 0)
          have hsr := sw_r hV (by omega) c33_1 e33_1
          have hre : RE μ J33_1 (RW7 μ c33_1 e33_1) := f33_1
          refine WP.go 3 (And.intro (fun (b36 : fm = (-1)) => ?_) (fun (b36 : ¬ fm = (-1)) => ?_))
          ·
            show WP (Call d) 258 P X (42, [some (vr (some 90) 10), some (vi fm), some (vi wh)], [], (J33_1, H), 0, 0)
            refine WP.go 2 (And.intro (fun (b43 : ¬ wh = 0) => ?_) (fun (b43 : wh = 0) => ?_))
            ·
              show WP (Call d) 258 P X (47, [some (vr (some 90) 10), some (vi fm), some (vi wh)], [], (J33_1, H), 0, 0)
              refine WP.go 3 (And.intro rfl (And.intro (And.intro (Nat.le_of_ble_eq_true rfl) (Nat.le_of_ble_eq_true rfl)) (And.intro trivial (?_))))
              show P (some (vi (J33_1 90 28))) (J33_1, H)
              exact fin_i (by unfold SWA; rw [if_neg (by omega), if_pos (by omega), if_neg (by omega), hre.1.2]; exact hsr.2.1) (h (by omega) _ (hmf.sw g33_1) ((g33_1.2 0 (by omega) (by omega)).trans hth))
            ·
              show WP (Call d) 258 P X (44, [some (vr (some 90) 10), some (vi fm), some (vi wh)], [], (J33_1, H), 0, 0)
              refine WP.go 4 (And.intro rfl (And.intro (And.intro (Nat.le_of_ble_eq_true rfl) (Nat.le_of_ble_eq_true rfl)) (And.intro trivial (?_))))
              show P (some (vi (J33_1 90 27))) (J33_1, H)
              exact fin_i (by unfold SWA; rw [if_neg (by omega), if_pos (by omega), if_pos (by omega), hre.1.1]; exact hsr.1) (h (by omega) _ (hmf.sw g33_1) ((g33_1.2 0 (by omega) (by omega)).trans hth))
          ·
            show WP (Call d) 258 P X (37, [some (vr (some 90) 10), some (vi fm), some (vi wh)], [], (J33_1, H), 0, 0)
            refine WP.go 6 (And.intro rfl (Exists.intro 98 (And.intro hS.r90_26 (And.intro (And.intro rfl (And.intro (show 0 ≤ fm from by omega) (show fm < H.2.1 98 from by omega))) (And.intro (And.intro (Nat.le_of_ble_eq_true rfl) (Nat.le_of_ble_eq_true rfl)) (And.intro trivial (?_)))))))
            show P (some (vi (J33_1 98 fm))) (J33_1, H)
            exact fin_i (by unfold SWA; rw [if_neg (by omega), if_neg (by omega), hre.2.2 fm (by omega) (by omega)]; exact hsr.2.2 fm (by omega) (by omega)) (h (by omega) _ (hmf.sw g33_1) ((g33_1.2 0 (by omega) (by omega)).trans hth))
        ·
          show WP (Call d) 258 P X (30, [some (vr (some 90) 10), some (vi fm), some (vi wh)], [], (J0, H), 0, 0)
          refine WP.go 2 (And.intro (And.intro (Nat.le_of_ble_eq_true rfl) (Nat.le_of_ble_eq_true rfl)) (And.intro trivial (?_)))
          show P (some (vi (-3))) (J0, H)
          exact fin_i (if_pos (by omega)).symm (h (by omega) _ hmf hth)
      ·
        show WP (Call d) 258 P X (15, [some (vr (some 90) 10), some (vi fm), some (vi wh)], [vr (some 90) 10], (I, H), 0, 0)
        have z14 := bz_e0.mp b14
        refine WP.go 6 (And.intro (And.intro rfl trivial) (And.intro rfl (And.intro (fun (b21 : ¬ 0 < 2) => (absurd b21 (by omega))) (fun (b21 : 0 < 2) => ?_))))
        show WP (Call d) 258 P X (22, [some (vr (some 90) 10), some (vi fm), some (vi wh)], [], ((upI I 90 0 2), H), 0, 0)
        refine WP.go 2 (And.intro (And.intro (Nat.le_of_ble_eq_true rfl) (Nat.le_of_ble_eq_true rfl)) (And.intro trivial (?_)))
        show P (some (vi 0)) ((upI I 90 0 2), H)
        exact hk2 (by omega) _ 0 (.inl rfl) (MF.th hK _) (upI_same _ _ _ _)
    ·
      show WP (Call d) 258 P X (8, [some (vr (some 90) 10), some (vi fm), some (vi wh)], [vr (some 90) 10], (I, H), 0, 0)
      have z7 := bz_e0.mp b7
      refine WP.go 6 (And.intro (And.intro rfl trivial) (And.intro rfl (And.intro (fun (b21 : ¬ 0 < 1) => (absurd b21 (by omega))) (fun (b21 : 0 < 1) => ?_))))
      show WP (Call d) 258 P X (22, [some (vr (some 90) 10), some (vi fm), some (vi wh)], [], ((upI I 90 0 1), H), 0, 0)
      refine WP.go 2 (And.intro (And.intro (Nat.le_of_ble_eq_true rfl) (Nat.le_of_ble_eq_true rfl)) (And.intro trivial (?_)))
      show P (some (vi 0)) ((upI I 90 0 1), H)
      exact hk1 (by omega) _ 0 (.inl rfl) (MF.th hK _) (upI_same _ _ _ _)

theorem s_12_move {d : Nat} {P : Option qV → qH → Prop} {X : Nat → qH → Prop} {I : qI} {H : qS} {μ : Int → Int} (hd : 42 ≤ d) (hS : Shp H) (hM : I 91 = μ) (hV : IM μ) (hK : MS I) (h : (7 < μ 1 → ∀ J : qI, MF I J → J 90 0 = 0 → P (some (vi (-3))) (J, H)) ∧ (μ 1 ≤ 7 → ∀ J : qI, MU I J (uMov μ) → J 90 0 = 0 → P (some (vi (MVC μ))) (J, H))) :
    Call d 259 [vr (some 90) 10] (I, H) P X := by
  obtain ⟨d, rfl⟩ : ∃ e, d = e + 1 := ⟨d - 1, by omega⟩
  have hl91 := hS.l91
  have hl98 := hS.l98
  obtain ⟨tb, h30⟩ : ∃ tb, I 90 30 = tb := ⟨_, rfl⟩
  obtain ⟨mo, h23⟩ : ∃ mo, I 90 23 = mo := ⟨_, rfl⟩
  have htb : 0 ≤ tb ∧ tb ≤ 29 := by have := hK.2.2.2; omega
  have hmo : (-1 : Int) = -1 ∨ (0 ≤ mo ∧ mo ≤ 48) := .inl rfl
  have h22 := hK.1
  have h29 := hK.2.1
  have hn1 := hV.n1
  show WP (Call d) 259 P X (0, [some (vr (some 90) 10), none, none], [], (I, H), 0, 0)
  refine WP.go 3 (And.intro (And.intro rfl trivial) (?_))
  show WP (Call d) 259 P X (3, [some (vr (some 90) 10), none, none], [], ((upI I 90 0 0), H), 0, 0)
  generalize hq_J0 : (upI I 90 0 0) = J0
  have e_J0 : J0 90 = (fun j => if j = 0 then 0 else I 90 j) := by rw [← hq_J0]; exact upI_self _ _ _ _
  have f_J0 : ∀ a, a ≠ 90 → J0 a = I a := fun a q => by rw [← hq_J0]; exact upI_cell q
  have hMJ : J0 91 = μ := (f_J0 91 (by omega)).trans hM
  have hmf : MF I J0 := MF.t0 hK e_J0 f_J0
  have hth : J0 90 0 = 0 := by rw [e_J0]; rfl
  have hM_1 : J0 91 = μ := (f_J0 91 (by omega)).trans hM
  have h_2 : J0 90 22 = -1 := by rw [e_J0]; exact h22
  have h_3 : J0 90 23 = mo := by rw [e_J0]; exact h23
  have h_4 : J0 90 29 = -1 := by rw [e_J0]; exact h29
  have h_5 : J0 90 30 = tb := by rw [e_J0]; exact h30
  refine WP.go 4 (And.intro rfl (Exists.intro 91 (And.intro hS.r90_1 (And.intro (And.intro rfl (And.intro (show 0 ≤ 1 from by omega) (show 1 < H.2.1 91 from by omega))) (?_)))))
  refine rw_i (Q := fun x9 => WP (Call d) 259 P X (7, [some (vr (some 90) 10), none, none], [vi x9], (J0, H), 0, 0)) (show J0 91 1 = μ 1 from (by rw [hMJ])) ?_
  show WP (Call d) 259 P X (7, [some (vr (some 90) 10), none, none], [vi (μ 1)], (J0, H), 0, 0)
  refine WP.go 2 (And.intro (fun (b8 : ¬ 7 < μ 1) => ?_) (fun (b8 : 7 < μ 1) => ?_))
  ·
    show WP (Call d) 259 P X (11, [some (vr (some 90) 10), none, none], [], (J0, H), 0, 0)
    refine WP.go 2 (And.intro (And.intro (Nat.le_of_ble_eq_true rfl) (Nat.le_of_ble_eq_true rfl)) (And.intro rfl (?_)))
    show Call d 257 [vr (some 90) 10] (J0, H) _ _
    refine s_12_swapAll (by omega) hS hM_1 hV (by omega) h_2 h_3 h_4 h_5 htb (.inl rfl) (fun J12 c12 e12 f12 g12 => ?_)
    show WP (Call d) 259 P X (13, [some (vr (some 90) 10), none, none], [], (J12, H), 0, 0)
    have hsr := sw_r hV (by omega) c12 e12
    have hre : RE μ J12 (RW7 μ c12 e12) := f12
    refine WP.go 4 ?_
    show WP (Call d) 259 P X (17, [some (vr (some 90) 10), some (vi 0), some (vi 0)], [], (J12, H), 0, 0)
    have lp17 : ∀ (n9 : Nat) (K : qI) (s9 : Int) (f9 : Int) (hm : μ 1 - f9 < (n9 : Int)) (iv0 : 0 ≤ f9 ∧ f9 ≤ μ 1) (iv1 : K 91 = fun j => if 200 ≤ j ∧ j < 200 + f9 then (RW μ).2.2.2 (j - 200) else μ j) (iv2 : ∀ a, a ≠ 91 → K a = J12 a) (iv3 : s9 = sI (fun f => if (RW μ).2.2.2 f = μ (200 + f) then 0 else 1) 0 f9), WP (Call d) 259 P X (17, [some (vr (some 90) 10), some (vi s9), some (vi f9)], [], (K, H), 0, 0) := by
      intro n9
      induction n9 with
      | zero => intro K s9 f9 hm iv0 iv1 iv2 iv3; exact absurd hm (by omega)
      | succ n9 ih17 =>
        intro K s9 f9 hm iv0 iv1 iv2 iv3
        have h7 : μ 1 ≤ 7 := by omega
        have k1 : K 91 1 = μ 1 := by rw [iv1]; exact if_neg (by omega)
        have kf : K 91 (200 + f9) = μ (200 + f9) := by rw [iv1]; exact if_neg (by omega)
        have kb : f9 < μ 1 → K 98 f9 = (RW μ).2.2.2 f9 := fun q => by rw [iv2 98 (by omega)]; exact (hre.2.2 f9 iv0.1 q).trans (hsr.2.2 f9 iv0.1 q)
        have mb := sI_bd (f := (fun f => if (RW μ).2.2.2 f = μ (200 + f) then 0 else 1)) 0 1 iv0.1 (fun i _ _ => by split <;> omega)
        refine WP.go 5 (And.intro rfl (Exists.intro 91 (And.intro hS.r90_1 (And.intro (And.intro rfl (And.intro (show 0 ≤ 1 from by omega) (show 1 < H.2.1 91 from by omega))) (?_)))))
        refine rw_i (Q := fun x9 => WP (Call d) 259 P X (22, [some (vr (some 90) 10), some (vi s9), some (vi f9)], [vi x9, vi f9], (K, H), 0, 0)) (show K 91 1 = μ 1 from k1) ?_
        show WP (Call d) 259 P X (22, [some (vr (some 90) 10), some (vi s9), some (vi f9)], [vi (μ 1), vi f9], (K, H), 0, 0)
        refine WP.go 1 (And.intro (fun (b22 : ¬ f9 < μ 1) => ?_) (fun (b22 : f9 < μ 1) => ?_))
        ·
          show WP (Call d) 259 P X (52, [some (vr (some 90) 10), some (vi s9), some (vi f9)], [], (K, H), 0, 0)
          refine WP.go 2 (And.intro (And.intro (Nat.le_of_ble_eq_true rfl) (Nat.le_of_ble_eq_true rfl)) (And.intro trivial (?_)))
          show P (some (vi s9)) (K, H)
          exact fin_i (by rw [iv3, show f9 = μ 1 by omega]; rfl) (h.2 (by omega) _ (MU.of (hmf.sw g12) iv2 (by rw [iv1, show f9 = μ 1 by omega]; rfl)) (by rw [iv2 90 (by omega), g12.2 0 (by omega) (by omega)]; exact hth))
        ·
          show WP (Call d) 259 P X (23, [some (vr (some 90) 10), some (vi s9), some (vi f9)], [], (K, H), 0, 0)
          refine WP.go 7 (And.intro rfl (Exists.intro 91 (And.intro hS.r90_1 (Exists.intro (200 + f9) (And.intro (wrp_a (by omega) (by omega)) (And.intro (And.intro rfl (And.intro (show 0 ≤ 200 + f9 from by omega) (show 200 + f9 < H.2.1 91 from by omega))) (?_)))))))
          refine rw_i (Q := fun x9 => WP (Call d) 259 P X (30, [some (vr (some 90) 10), some (vi s9), some (vi f9)], [vi x9, vi s9], (K, H), 0, 0)) (show K 91 (200 + f9) = μ (200 + f9) from kf) ?_
          show WP (Call d) 259 P X (30, [some (vr (some 90) 10), some (vi s9), some (vi f9)], [vi (μ (200 + f9)), vi s9], (K, H), 0, 0)
          refine WP.go 4 (And.intro rfl (Exists.intro 98 (And.intro hS.r90_26 (And.intro (And.intro rfl (And.intro (show 0 ≤ f9 from by omega) (show f9 < H.2.1 98 from by omega))) (?_)))))
          refine rw_i (Q := fun x9 => WP (Call d) 259 P X (34, [some (vr (some 90) 10), some (vi s9), some (vi f9)], [vi x9, vi (μ (200 + f9)), vi s9], (K, H), 0, 0)) (show K 98 f9 = (RW μ).2.2.2 f9 from (kb (by omega))) ?_
          show WP (Call d) 259 P X (34, [some (vr (some 90) 10), some (vi s9), some (vi f9)], [vi ((RW μ).2.2.2 f9), vi (μ (200 + f9)), vi s9], (K, H), 0, 0)
          refine WP.go 1 (And.intro (fun (b34 : ¬ μ (200 + f9) = (RW μ).2.2.2 f9) => ?_) (fun (b34 : μ (200 + f9) = (RW μ).2.2.2 f9) => ?_))
          ·
            show WP (Call d) 259 P X (37, [some (vr (some 90) 10), some (vi s9), some (vi f9)], [vi s9], (K, H), 0, 0)
            refine WP.go 12 (Exists.intro (s9 + 1) (And.intro (wrp_a (by omega) (by omega)) (And.intro rfl (Exists.intro 91 (And.intro hS.r90_1 (Exists.intro (200 + f9) (And.intro (wrp_a (by omega) (by omega)) (And.intro rfl (Exists.intro 98 (And.intro hS.r90_26 (And.intro (And.intro rfl (And.intro (show 0 ≤ f9 from by omega) (show f9 < H.2.1 98 from by omega))) (?_))))))))))))
            refine rw_i (Q := fun x9 => WP (Call d) 259 P X (49, [some (vr (some 90) 10), some (vi (s9 + 1)), some (vi f9)], [vi x9, vi (200 + f9), vr (some 91) 11], (K, H), 0, 0)) (show K 98 f9 = (RW μ).2.2.2 f9 from (kb (by omega))) ?_
            show WP (Call d) 259 P X (49, [some (vr (some 90) 10), some (vi (s9 + 1)), some (vi f9)], [vi ((RW μ).2.2.2 f9), vi (200 + f9), vr (some 91) 11], (K, H), 0, 0)
            refine WP.go 3 (And.intro (And.intro rfl (And.intro (show 0 ≤ 200 + f9 from by omega) (show 200 + f9 < H.2.1 91 from by omega))) (Exists.intro (f9 + 1) (And.intro (wrp_a (by omega) (by omega)) (?_))))
            show WP (Call d) 259 P X (17, [some (vr (some 90) 10), some (vi (s9 + 1)), some (vi (f9 + 1))], [], ((upI K 91 (200 + f9) ((RW μ).2.2.2 f9)), H), 0, 0)
            exact ih17 (upI K 91 (200 + f9) ((RW μ).2.2.2 f9)) (s9 + 1) (f9 + 1) (by omega) (by omega) (by rw [upI_self, iv1]; funext j; show (if j = 200 + f9 then _ else (if 200 ≤ j ∧ j < 200 + f9 then _ else _)) = (if 200 ≤ j ∧ j < 200 + (f9 + 1) then _ else _); by_cases z : j = 200 + f9; rw [if_pos z, if_pos (by omega), z, show 200 + f9 - 200 = f9 by omega]; rw [if_neg z]; by_cases w : 200 ≤ j ∧ j < 200 + f9; rw [if_pos w, if_pos (by omega)]; rw [if_neg w, if_neg (by omega)]) (fun a q => (upI_cell q).trans (iv2 a q)) (by rw [sI_succ iv0.1, ← iv3, if_neg (fun z => b34 z.symm)])
          ·
            show WP (Call d) 259 P X (35, [some (vr (some 90) 10), some (vi s9), some (vi f9)], [vi s9], (K, H), 0, 0)
            refine WP.go 13 (Exists.intro (s9 + 0) (And.intro (wrp_a (by omega) (by omega)) (And.intro rfl (Exists.intro 91 (And.intro hS.r90_1 (Exists.intro (200 + f9) (And.intro (wrp_a (by omega) (by omega)) (And.intro rfl (Exists.intro 98 (And.intro hS.r90_26 (And.intro (And.intro rfl (And.intro (show 0 ≤ f9 from by omega) (show f9 < H.2.1 98 from by omega))) (?_))))))))))))
            refine rw_i (Q := fun x9 => WP (Call d) 259 P X (49, [some (vr (some 90) 10), some (vi (s9 + 0)), some (vi f9)], [vi x9, vi (200 + f9), vr (some 91) 11], (K, H), 0, 0)) (show K 98 f9 = (RW μ).2.2.2 f9 from (kb (by omega))) ?_
            show WP (Call d) 259 P X (49, [some (vr (some 90) 10), some (vi (s9 + 0)), some (vi f9)], [vi ((RW μ).2.2.2 f9), vi (200 + f9), vr (some 91) 11], (K, H), 0, 0)
            refine WP.go 3 (And.intro (And.intro rfl (And.intro (show 0 ≤ 200 + f9 from by omega) (show 200 + f9 < H.2.1 91 from by omega))) (Exists.intro (f9 + 1) (And.intro (wrp_a (by omega) (by omega)) (?_))))
            show WP (Call d) 259 P X (17, [some (vr (some 90) 10), some (vi (s9 + 0)), some (vi (f9 + 1))], [], ((upI K 91 (200 + f9) ((RW μ).2.2.2 f9)), H), 0, 0)
            exact ih17 (upI K 91 (200 + f9) ((RW μ).2.2.2 f9)) (s9 + 0) (f9 + 1) (by omega) (by omega) (by rw [upI_self, iv1]; funext j; show (if j = 200 + f9 then _ else (if 200 ≤ j ∧ j < 200 + f9 then _ else _)) = (if 200 ≤ j ∧ j < 200 + (f9 + 1) then _ else _); by_cases z : j = 200 + f9; rw [if_pos z, if_pos (by omega), z, show 200 + f9 - 200 = f9 by omega]; rw [if_neg z]; by_cases w : 200 ≤ j ∧ j < 200 + f9; rw [if_pos w, if_pos (by omega)]; rw [if_neg w, if_neg (by omega)]) (fun a q => (upI_cell q).trans (iv2 a q)) (by rw [sI_succ iv0.1, ← iv3, if_pos b34.symm])
    exact lp17 ((μ 1 - 0 : Int).toNat + 1) J12 0 0 (by omega) (by omega) (by rw [g12.1 91 (by omega), hMJ]; funext j; exact (if_neg (by omega)).symm) (fun _ _ => rfl) (sI_nil (Int.le_refl _)).symm
  ·
    show WP (Call d) 259 P X (9, [some (vr (some 90) 10), none, none], [], (J0, H), 0, 0)
    refine WP.go 2 (And.intro (And.intro (Nat.le_of_ble_eq_true rfl) (Nat.le_of_ble_eq_true rfl)) (And.intro trivial (?_)))
    show P (some (vi (-3))) (J0, H)
    exact h.1 (by omega) _ hmf hth

