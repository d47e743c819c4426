/-- but for the reader, facts, void and pays, all is as it was -/
def FO (I J : qI) : Prop := (∀ a, a ≠ 90 → a ≠ 95 → J a = I a) ∧ (∀ s, s = 0 ∨ s = 3 ∨ s = 6 ∨ s = 10 ∨ (18 ≤ s ∧ s ≤ 40) → J 90 s = I 90 s)
theorem FO.rf (I : qI) : FO I I := ⟨fun _ _ _ => rfl, fun _ _ => rfl⟩
theorem FO.tr {I J K : qI} (h : FO I J) (g : FO J K) : FO I K := ⟨fun a q w => (g.1 a q w).trans (h.1 a q w), fun s q => (g.2 s q).trans (h.2 s q)⟩
/-- the reference's notes of facts are such as facts are -/
def FE (I : qI) : Prop := (∃ F, FB F ∧ FR I F) ∧ (-200000000 ≤ I 90 17 ∧ I 90 17 ≤ 200000000)
set_option maxHeartbeats 1600000 in
theorem s_12_rentOf {d : Nat} {P : Option qV → qH → Prop} {X : Nat → qH → Prop} {I : qI} {H : qS} {μ : Int → Int} (hd : 48 ≤ d) {tb : Int → Int} {n l h9 y tb9 : Int} (hS : Shp H) (hM : I 91 = μ) (hV : IM μ) (hA : ∀ y, 0 ≤ y → y < 100 → 0 ≤ I 96 y ∧ I 96 y < 96) (h29 : I 90 29 = -1) (h30 : I 90 30 = tb9) (htb : 0 ≤ tb9 ∧ tb9 ≤ 29) (eA : ∀ y, 0 ≤ y → y < 100 → I 96 y = AN μ y) (hlr : 0 ≤ l ∧ l < 6) (hh : 0 ≤ h9 ∧ h9 < μ 1) (hy : 0 ≤ y ∧ y < 100) (hn9 : μ (546 + 401 * l) = n) (hnn : 0 ≤ n ∧ n ≤ 400) (hby : ∀ j, 0 ≤ j → j < n → 0 ≤ tb j ∧ tb j ≤ 255) (htb9 : ∀ j, 0 ≤ j → j < n → μ (547 + 401 * l + j) = tb j) (hU : (lnT tb n (lln tb n) ls0).1 = -1) (h : ∀ J : qI, FO I J → (∃ F, FB F ∧ FR J F) → (-130000000 ≤ J 90 17 ∧ J 90 17 ≤ 130000000) → P (some (vi (RNT μ h9 y (lnT tb n (lln tb n) ls0).2.1))) (J, H)) :
    Call d 229 [vr (some 90) 10, vi l, vi h9, vi y] (I, H) P X := by
  obtain ⟨d, rfl⟩ : ∃ e, d = e + 1 := ⟨d - 1, by omega⟩
  have hl95 := hS.l95
  have hl96 := hS.l96
  have hl91 := hS.l91
  have hn1 := hV.n1
  have v1 := hV.hc h9 hh.1 hh.2
  have hFB9 := FC_b hV hh hy
  have hlg := (lnT_lg (tb := tb) (n := n) hnn).2 _ hFB9
  show WP (Call d) 229 P X (0, [some (vr (some 90) 10), some (vi l), some (vi h9), some (vi y), none], [], (I, H), 0, 0)
  refine WP.go 5 (And.intro rfl (Exists.intro 95 (And.intro hS.r90_12 (And.intro (And.intro rfl (And.intro (show 0 ≤ 0 from by omega) (show 0 < H.2.1 95 from by omega))) (?_)))))
  show WP (Call d) 229 P X (5, [some (vr (some 90) 10), some (vi l), some (vi h9), some (vi y), none], [], ((upI I 95 0 y), H), 0, 0)
  generalize hq_J0 : (upI I 95 0 y) = J0
  have e_J0 : J0 95 = (fun j => if j = 0 then y else I 95 j) := by rw [← hq_J0]; exact upI_self _ _ _ _
  have f_J0 : ∀ a, a ≠ 95 → J0 a = I a := fun a q => by rw [← hq_J0]; exact upI_cell q
  have hM_1 : J0 91 = μ := (f_J0 91 (by omega)).trans hM
  have h_2 : J0 90 29 = -1 := (congrFun (f_J0 90 (by omega)) 29).trans h29
  have h_3 : J0 90 30 = tb9 := (congrFun (f_J0 90 (by omega)) 30).trans h30
  have hA_4 : ∀ y, 0 ≤ y → y < 100 → 0 ≤ J0 96 y ∧ J0 96 y < 96 := by rw [f_J0 96 (by omega)]; exact hA
  have g96_J0 : J0 96 = I 96 := (f_J0 96 (by omega))
  refine WP.go 8 (And.intro rfl (Exists.intro 95 (And.intro hS.r90_12 (And.intro (And.intro (Nat.le_of_ble_eq_true rfl) (Nat.le_of_ble_eq_true rfl)) (And.intro rfl (?_))))))
  show Call d 222 [vr (some 90) 10, vi h9, vi y, vi y] (J0, H) _ _
  refine s_12_brightOf (by omega) hS hM_1 hV hA_4 h_2 h_3 htb (by omega) ?_
  show WP (Call d) 229 P X (13, [some (vr (some 90) 10), some (vi l), some (vi h9), some (vi y), none], [vi (BRT μ (J0 96) (HTC μ (-1) tb9) h9 y y), vi 1, vr (some 95) 11], (J0, H), 0, 0)
  refine WP.go 1 (And.intro (And.intro rfl (And.intro (show 0 ≤ 1 from by omega) (show 1 < H.2.1 95 from by omega))) (?_))
  show WP (Call d) 229 P X (14, [some (vr (some 90) 10), some (vi l), some (vi h9), some (vi y), none], [], ((upI J0 95 1 (BRT μ (J0 96) (HTC μ (-1) tb9) h9 y y)), H), 0, 0)
  generalize hq_J1 : (upI J0 95 1 (BRT μ (J0 96) (HTC μ (-1) tb9) h9 y y)) = J1
  have e_J1 : J1 95 = (fun j => if j = 1 then (BRT μ (J0 96) (HTC μ (-1) tb9) h9 y y) else J0 95 j) := by rw [← hq_J1]; exact upI_self _ _ _ _
  have f_J1 : ∀ a, a ≠ 95 → J1 a = J0 a := fun a q => by rw [← hq_J1]; exact upI_cell q
  have hM_5 : J1 91 = μ := (f_J1 91 (by omega)).trans hM_1
  have h_6 : J1 90 29 = -1 := (congrFun (f_J1 90 (by omega)) 29).trans h_2
  have h_7 : J1 90 30 = tb9 := (congrFun (f_J1 90 (by omega)) 30).trans h_3
  have hA_8 : ∀ y, 0 ≤ y → y < 100 → 0 ≤ J1 96 y ∧ J1 96 y < 96 := by rw [f_J1 96 (by omega)]; exact hA_4
  have g96_J1 : J1 96 = I 96 := (f_J1 96 (by omega)).trans g96_J0
  refine WP.go 6 (And.intro rfl (Exists.intro 95 (And.intro hS.r90_12 (And.intro (And.intro (Nat.le_of_ble_eq_true rfl) (Nat.le_of_ble_eq_true rfl)) (And.intro rfl (?_))))))
  show Call d 183 [vr (some 90) 10, vi h9] (J1, H) _ _
  refine s_12_heightOf (by omega) hS hM_5 (by omega) ?_
  show WP (Call d) 229 P X (20, [some (vr (some 90) 10), some (vi l), some (vi h9), some (vi y), none], [vi (μ (121 + 2 * h9)), vi 2, vr (some 95) 11], (J1, H), 0, 0)
  refine WP.go 1 (And.intro (And.intro rfl (And.intro (show 0 ≤ 2 from by omega) (show 2 < H.2.1 95 from by omega))) (?_))
  show WP (Call d) 229 P X (21, [some (vr (some 90) 10), some (vi l), some (vi h9), some (vi y), none], [], ((upI J1 95 2 (μ (121 + 2 * h9))), H), 0, 0)
  generalize hq_J2 : (upI J1 95 2 (μ (121 + 2 * h9))) = J2
  have e_J2 : J2 95 = (fun j => if j = 2 then (μ (121 + 2 * h9)) else J1 95 j) := by rw [← hq_J2]; exact upI_self _ _ _ _
  have f_J2 : ∀ a, a ≠ 95 → J2 a = J1 a := fun a q => by rw [← hq_J2]; exact upI_cell q
  have hM_9 : J2 91 = μ := (f_J2 91 (by omega)).trans hM_5
  have h_10 : J2 90 29 = -1 := (congrFun (f_J2 90 (by omega)) 29).trans h_6
  have h_11 : J2 90 30 = tb9 := (congrFun (f_J2 90 (by omega)) 30).trans h_7
  have hA_12 : ∀ y, 0 ≤ y → y < 100 → 0 ≤ J2 96 y ∧ J2 96 y < 96 := by rw [f_J2 96 (by omega)]; exact hA_8
  have g96_J2 : J2 96 = I 96 := (f_J2 96 (by omega)).trans g96_J1
  refine WP.go 8 (And.intro rfl (Exists.intro 95 (And.intro hS.r90_12 (And.intro rfl (Exists.intro 96 (And.intro hS.r90_24 (And.intro (And.intro rfl (And.intro (show 0 ≤ y from by omega) (show y < H.2.1 96 from by omega))) (And.intro (And.intro rfl (And.intro (show 0 ≤ 3 from by omega) (show 3 < H.2.1 95 from by omega))) (?_)))))))))
  show WP (Call d) 229 P X (29, [some (vr (some 90) 10), some (vi l), some (vi h9), some (vi y), none], [], ((upI J2 95 3 (J2 96 y)), H), 0, 0)
  generalize hq_J3 : (upI J2 95 3 (J2 96 y)) = J3
  have e_J3 : J3 95 = (fun j => if j = 3 then (J2 96 y) else J2 95 j) := by rw [← hq_J3]; exact upI_self _ _ _ _
  have f_J3 : ∀ a, a ≠ 95 → J3 a = J2 a := fun a q => by rw [← hq_J3]; exact upI_cell q
  have hM_13 : J3 91 = μ := (f_J3 91 (by omega)).trans hM_9
  have h_14 : J3 90 29 = -1 := (congrFun (f_J3 90 (by omega)) 29).trans h_10
  have h_15 : J3 90 30 = tb9 := (congrFun (f_J3 90 (by omega)) 30).trans h_11
  have hA_16 : ∀ y, 0 ≤ y → y < 100 → 0 ≤ J3 96 y ∧ J3 96 y < 96 := by rw [f_J3 96 (by omega)]; exact hA_12
  have g96_J3 : J3 96 = I 96 := (f_J3 96 (by omega)).trans g96_J2
  refine WP.go 7 (And.intro rfl (Exists.intro 95 (And.intro hS.r90_12 (And.intro (And.intro (Nat.le_of_ble_eq_true rfl) (Nat.le_of_ble_eq_true rfl)) (And.intro rfl (?_))))))
  show Call d 182 [vr (some 90) 10, vi h9] (J3, H) _ _
  refine s_12_cellOf (by omega) hS hM_13 (by omega) ?_
  show WP (Call d) 229 P X (36, [some (vr (some 90) 10), some (vi l), some (vi h9), some (vi y), none], [vi (μ (120 + 2 * h9)), vr (some 90) 10, vi 4, vr (some 95) 11], (J3, H), 0, 0)
  refine WP.go 2 (And.intro (And.intro (Nat.le_of_ble_eq_true rfl) (Nat.le_of_ble_eq_true rfl)) (And.intro rfl (?_)))
  show Call d 228 [vr (some 90) 10, vi (μ (120 + 2 * h9)), vi y] (J3, H) _ _
  refine s_12_levelOf (by omega) hS hM_13 hV hA_16 (by omega) (by omega) ?_
  show WP (Call d) 229 P X (38, [some (vr (some 90) 10), some (vi l), some (vi h9), some (vi y), none], [vi (LVL μ (J3 96) (μ (120 + 2 * h9)) y), vi 4, vr (some 95) 11], (J3, H), 0, 0)
  have v3 := LVL_bd (c := μ (120 + 2 * h9)) (by omega) (by omega) μ (J3 96) y
  refine WP.go 3 (Exists.intro ((LVL μ (J3 96) (μ (120 + 2 * h9)) y) + 8) (And.intro (wrp_a (by omega) (by omega)) (And.intro (And.intro rfl (And.intro (show 0 ≤ 4 from by omega) (show 4 < H.2.1 95 from by omega))) (?_))))
  show WP (Call d) 229 P X (41, [some (vr (some 90) 10), some (vi l), some (vi h9), some (vi y), none], [], ((upI J3 95 4 ((LVL μ (J3 96) (μ (120 + 2 * h9)) y) + 8)), H), 0, 0)
  generalize hq_J4 : (upI J3 95 4 ((LVL μ (J3 96) (μ (120 + 2 * h9)) y) + 8)) = J4
  have e_J4 : J4 95 = (fun j => if j = 4 then ((LVL μ (J3 96) (μ (120 + 2 * h9)) y) + 8) else J3 95 j) := by rw [← hq_J4]; exact upI_self _ _ _ _
  have f_J4 : ∀ a, a ≠ 95 → J4 a = J3 a := fun a q => by rw [← hq_J4]; exact upI_cell q
  have hM_17 : J4 91 = μ := (f_J4 91 (by omega)).trans hM_13
  have h_18 : J4 90 29 = -1 := (congrFun (f_J4 90 (by omega)) 29).trans h_14
  have h_19 : J4 90 30 = tb9 := (congrFun (f_J4 90 (by omega)) 30).trans h_15
  have hA_20 : ∀ y, 0 ≤ y → y < 100 → 0 ≤ J4 96 y ∧ J4 96 y < 96 := by rw [f_J4 96 (by omega)]; exact hA_16
  have g96_J4 : J4 96 = I 96 := (f_J4 96 (by omega)).trans g96_J3
  refine WP.go 5 (And.intro (And.intro (Nat.le_of_ble_eq_true rfl) (Nat.le_of_ble_eq_true rfl)) (And.intro rfl (?_)))
  show Call d 224 [vr (some 90) 10, vi h9, vi y] (J4, H) _ _
  refine s_12_hasNoon (by omega) hS hM_17 hV hA_20 h_18 h_19 htb (by omega) ?_
  show WP (Call d) 229 P X (46, [some (vr (some 90) 10), some (vi l), some (vi h9), some (vi y), none], [vi (bz (NOONp μ (J4 96) (HTC μ (-1) tb9) h9 y)), vr (some 90) 10], (J4, H), 0, 0)
  refine WP.go 1 (And.intro (And.intro rfl (bz_or _)) (?_))
  show WP (Call d) 229 P X (47, [some (vr (some 90) 10), some (vi l), some (vi h9), some (vi y), none], [], ((upI J4 90 13 (bz (NOONp μ (J4 96) (HTC μ (-1) tb9) h9 y))), H), 0, 0)
  generalize hq_J5 : (upI J4 90 13 (bz (NOONp μ (J4 96) (HTC μ (-1) tb9) h9 y))) = J5
  have e_J5 : J5 90 = (fun j => if j = 13 then (bz (NOONp μ (J4 96) (HTC μ (-1) tb9) h9 y)) else J4 90 j) := by rw [← hq_J5]; exact upI_self _ _ _ _
  have f_J5 : ∀ a, a ≠ 90 → J5 a = J4 a := fun a q => by rw [← hq_J5]; exact upI_cell q
  have hM_21 : J5 91 = μ := (f_J5 91 (by omega)).trans hM_17
  have h_22 : J5 90 29 = -1 := by rw [e_J5]; exact h_18
  have h_23 : J5 90 30 = tb9 := by rw [e_J5]; exact h_19
  have hA_24 : ∀ y, 0 ≤ y → y < 100 → 0 ≤ J5 96 y ∧ J5 96 y < 96 := by rw [f_J5 96 (by omega)]; exact hA_20
  have g96_J5 : J5 96 = I 96 := (f_J5 96 (by omega)).trans g96_J4
  refine WP.go 5 (And.intro rfl (Exists.intro 95 (And.intro hS.r90_12 (And.intro (And.intro rfl (And.intro (show 0 ≤ 1 from by omega) (show 1 < H.2.1 95 from by omega))) (?_)))))
  refine rw_i (Q := fun x9 => WP (Call d) 229 P X (52, [some (vr (some 90) 10), some (vi l), some (vi h9), some (vi y), none], [vi x9, vr (some 90) 10], (J5, H), 0, 0)) (show J5 95 1 = BRT μ (J0 96) (HTC μ (-1) tb9) h9 y y from (by rw [f_J5 95 (by omega), e_J4]; show J3 95 1 = _; rw [e_J3]; show J2 95 1 = _; rw [e_J2]; show J1 95 1 = _; rw [e_J1]; rfl)) ?_
  show WP (Call d) 229 P X (52, [some (vr (some 90) 10), some (vi l), some (vi h9), some (vi y), none], [vi (BRT μ (J0 96) (HTC μ (-1) tb9) h9 y y), vr (some 90) 10], (J5, H), 0, 0)
  have ih56 : ∀ (v5 : Int) (q5 : v5 = bz (BRT μ (J0 96) (HTC μ (-1) tb9) h9 y y = 0)), WP (Call d) 229 P X (56, [some (vr (some 90) 10), some (vi l), some (vi h9), some (vi y), none], [vi v5, vr (some 90) 10], (J5, H), 0, 0) := by
    intro v5 q5
    refine WP.go 1 (And.intro (And.intro rfl (by rw [q5]; exact bz_or _)) (?_))
    show WP (Call d) 229 P X (57, [some (vr (some 90) 10), some (vi l), some (vi h9), some (vi y), none], [], ((upI J5 90 14 v5), H), 0, 0)
    generalize hq_J6 : (upI J5 90 14 v5) = J6
    have e_J6 : J6 90 = (fun j => if j = 14 then v5 else J5 90 j) := by rw [← hq_J6]; exact upI_self _ _ _ _
    have f_J6 : ∀ a, a ≠ 90 → J6 a = J5 a := fun a q => by rw [← hq_J6]; exact upI_cell q
    have hM_25 : J6 91 = μ := (f_J6 91 (by omega)).trans hM_21
    have h_26 : J6 90 29 = -1 := by rw [e_J6]; exact h_22
    have h_27 : J6 90 30 = tb9 := by rw [e_J6]; exact h_23
    have hA_28 : ∀ y, 0 ≤ y → y < 100 → 0 ≤ J6 96 y ∧ J6 96 y < 96 := by rw [f_J6 96 (by omega)]; exact hA_24
    have g96_J6 : J6 96 = I 96 := (f_J6 96 (by omega)).trans g96_J5
    refine WP.go 5 (And.intro (And.intro (Nat.le_of_ble_eq_true rfl) (Nat.le_of_ble_eq_true rfl)) (And.intro rfl (?_)))
    show Call d 225 [vr (some 90) 10, vi h9, vi y] (J6, H) _ _
    refine s_12_isInWind (by omega) hS hM_25 hV hA_28 (by omega) (by omega) ?_
    show WP (Call d) 229 P X (62, [some (vr (some 90) 10), some (vi l), some (vi h9), some (vi y), none], [vi (bz (WDYp μ (J6 96) (HTC μ (-1) 0) h9 y)), vr (some 90) 10], (J6, H), 0, 0)
    refine WP.go 1 (And.intro (And.intro rfl (bz_or _)) (?_))
    show WP (Call d) 229 P X (63, [some (vr (some 90) 10), some (vi l), some (vi h9), some (vi y), none], [], ((upI J6 90 15 (bz (WDYp μ (J6 96) (HTC μ (-1) 0) h9 y))), H), 0, 0)
    generalize hq_J7 : (upI J6 90 15 (bz (WDYp μ (J6 96) (HTC μ (-1) 0) h9 y))) = J7
    have e_J7 : J7 90 = (fun j => if j = 15 then (bz (WDYp μ (J6 96) (HTC μ (-1) 0) h9 y)) else J6 90 j) := by rw [← hq_J7]; exact upI_self _ _ _ _
    have f_J7 : ∀ a, a ≠ 90 → J7 a = J6 a := fun a q => by rw [← hq_J7]; exact upI_cell q
    have hM_29 : J7 91 = μ := (f_J7 91 (by omega)).trans hM_25
    have h_30 : J7 90 29 = -1 := by rw [e_J7]; exact h_26
    have h_31 : J7 90 30 = tb9 := by rw [e_J7]; exact h_27
    have hA_32 : ∀ y, 0 ≤ y → y < 100 → 0 ≤ J7 96 y ∧ J7 96 y < 96 := by rw [f_J7 96 (by omega)]; exact hA_28
    have g96_J7 : J7 96 = I 96 := (f_J7 96 (by omega)).trans g96_J6
    refine WP.go 21 (And.intro (And.intro rfl (Or.inl rfl)) (And.intro rfl (And.intro rfl (And.intro (And.intro rfl trivial) (Exists.intro (401 * l) (And.intro (wrp_a (by omega) (by omega)) (Exists.intro (546 + (401 * l)) (And.intro (wrp_a (by omega) (by omega)) (Exists.intro ((546 + (401 * l)) + 1) (And.intro (wrp_a (by omega) (by omega)) (And.intro (And.intro rfl trivial) (?_))))))))))))
    show WP (Call d) 229 P X (84, [some (vr (some 90) 10), some (vi l), some (vi h9), some (vi y), some (vi (J7 90 10))], [], ((upI (upI (upI (upI J7 90 16 0) 90 17 0) 90 10 (-1)) 90 7 ((546 + (401 * l)) + 1)), H), 0, 0)
    generalize hq_J8 : (upI (upI (upI (upI J7 90 16 0) 90 17 0) 90 10 (-1)) 90 7 ((546 + (401 * l)) + 1)) = J8
    have e_J8 : J8 90 = (fun j => if j = 7 then ((546 + (401 * l)) + 1) else (upI (upI (upI J7 90 16 0) 90 17 0) 90 10 (-1)) 90 j) := by rw [← hq_J8]; exact upI_self _ _ _ _
    have f_J8 : ∀ a, a ≠ 90 → J8 a = (upI (upI (upI J7 90 16 0) 90 17 0) 90 10 (-1)) a := fun a q => by rw [← hq_J8]; exact upI_cell q
    have hM_33 : J8 91 = μ := by rw [f_J8 91 (by omega), upI_cell (by omega), upI_cell (by omega), upI_cell (by omega)]; exact hM_29
    have j87 : J8 90 7 = 547 + 401 * l := by rw [e_J8]; show 546 + 401 * l + 1 = 547 + 401 * l; omega
    have hfr8 : FR J8 (FC μ h9 y) := by
      refine ⟨fun j q0 q1 => ?_, ?_, ?_, ?_⟩
      · rw [f_J8 95 (by omega), upI_cell (by omega), upI_cell (by omega), upI_cell (by omega), f_J7 95 (by omega), f_J6 95 (by omega), f_J5 95 (by omega), e_J4, e_J3, e_J2, e_J1, e_J0]
        unfold FC
        rw [if_pos (by omega), ← FCT_congr (eA y (by omega) (by omega)) (HT_i hV tb9) j]
        have hj : j = 0 ∨ j = 1 ∨ j = 2 ∨ j = 3 ∨ j = 4 := by omega
        rcases hj with rfl | rfl | rfl | rfl | rfl
        · rfl
        · show BRT μ (J0 96) (HTC μ (-1) tb9) h9 y y = LGH μ (I 96) (HTC μ (-1) tb9) h9 y
          rw [g96_J0, BRT_1]
        · rfl
        · show J2 96 y = I 96 y
          rw [g96_J2]
        · show LVL μ (J3 96) (μ (120 + 2 * h9)) y + 8 = LVL μ (I 96) (μ (120 + 2 * h9)) y + 8
          rw [g96_J3]
      · rw [e_J8]
        show J7 90 13 = _
        rw [e_J7]
        show J6 90 13 = _
        rw [e_J6]
        show J5 90 13 = _
        rw [e_J5]
        show bz (NOONp μ (J4 96) (HTC μ (-1) tb9) h9 y) = FC μ h9 y 5
        rw [g96_J4]
        unfold FC
        rw [if_pos (by omega), ← FCT_congr (eA y (by omega) (by omega)) (HT_i hV tb9) 5]
        rfl
      · rw [e_J8]
        show J7 90 14 = _
        rw [e_J7]
        show J6 90 14 = _
        rw [e_J6]
        show v5 = FC μ h9 y 6
        rw [q5, g96_J0, BRT_1]
        unfold FC
        rw [if_pos (by omega), ← FCT_congr (eA y (by omega) (by omega)) (HT_i hV tb9) 6]
        rfl
      · rw [e_J8]
        show J7 90 15 = _
        rw [e_J7]
        show bz (WDYp μ (J6 96) (HTC μ (-1) 0) h9 y) = FC μ h9 y 7
        rw [g96_J6, show bz (WDYp μ (I 96) (HTC μ (-1) 0) h9 y) = bz (WDYp μ (I 96) (HTC μ (-1) tb9) h9 y) from bz_c (WDYp_congr rfl (fun c q0 q1 => (HT_i hV tb9 c q0 q1).symm))]
        unfold FC
        rw [if_pos (by omega), ← FCT_congr (eA y (by omega) (by omega)) (HT_i hV tb9) 7]
        rfl
    refine WP.go 5 (And.intro rfl (Exists.intro 91 (And.intro hS.r90_1 (And.intro rfl (?_)))))
    refine rw_i (Q := fun x9 => WP (Call d) 229 P X (89, [some (vr (some 90) 10), some (vi l), some (vi h9), some (vi y), some (vi (J7 90 10))], [vi x9, vr (some 91) 11, vr (some 90) 10], (J8, H), 0, 0)) j87 ?_
    show WP (Call d) 229 P X (89, [some (vr (some 90) 10), some (vi l), some (vi h9), some (vi y), some (vi (J7 90 10))], [vi (547 + 401 * l), vr (some 91) 11, vr (some 90) 10], (J8, H), 0, 0)
    refine WP.go 3 (Exists.intro ((547 + 401 * l) - 1) (And.intro (wrp_a (by omega) (by omega)) (And.intro (And.intro rfl (And.intro (show 0 ≤ (547 + 401 * l) - 1 from by omega) (show (547 + 401 * l) - 1 < H.2.1 91 from by omega))) (?_))))
    refine rw_i (Q := fun x9 => WP (Call d) 229 P X (92, [some (vr (some 90) 10), some (vi l), some (vi h9), some (vi y), some (vi (J7 90 10))], [vi x9, vr (some 90) 10], (J8, H), 0, 0)) (show J8 91 ((547 + 401 * l) - 1) = n from (congrFun hM_33 _).trans (by rw [show (547 + 401 * l) - 1 = 546 + 401 * l by omega]; exact hn9)) ?_
    show WP (Call d) 229 P X (92, [some (vr (some 90) 10), some (vi l), some (vi h9), some (vi y), some (vi (J7 90 10))], [vi n, vr (some 90) 10], (J8, H), 0, 0)
    refine WP.go 1 (And.intro (And.intro rfl trivial) (?_))
    show WP (Call d) 229 P X (93, [some (vr (some 90) 10), some (vi l), some (vi h9), some (vi y), some (vi (J7 90 10))], [], ((upI J8 90 8 n), H), 0, 0)
    generalize hq_J9 : (upI J8 90 8 n) = J9
    have e_J9 : J9 90 = (fun j => if j = 8 then n else J8 90 j) := by rw [← hq_J9]; exact upI_self _ _ _ _
    have f_J9 : ∀ a, a ≠ 90 → J9 a = J8 a := fun a q => by rw [← hq_J9]; exact upI_cell q
    have k9 : ∀ s, s ≠ 8 → J9 90 s = J8 90 s := fun s q => by rw [e_J9]; exact if_neg q
    have ka : ∀ a, a ≠ 90 → J9 a = J8 a := f_J9
    have j7 : J9 90 7 = 547 + 401 * l := by rw [k9 7 (by omega), e_J8]; show 546 + 401 * l + 1 = 547 + 401 * l; omega
    have hL : LTX J9 tb n := ⟨by rw [e_J9]; rfl, hnn, hby, .inr ⟨by rw [j7]; omega, by rw [j7]; omega, fun j q0 q1 => by rw [j7, ka 91 (by omega), hM_33]; exact htb9 j q0 q1⟩⟩
    have hF : J9 90 10 = -1 := by rw [k9 10 (by omega), e_J8]; rfl
    have hfr9 : FR J9 (FC μ h9 y) := by have w := hfr8; unfold FR at *; rw [ka 95 (by omega), k9 13 (by omega), k9 14 (by omega), k9 15 (by omega)]; exact w
    have h179 : J9 90 17 = 0 := by rw [k9 17 (by omega), e_J8]; rfl
    have h169 : J9 90 16 = 0 := by rw [k9 16 (by omega), e_J8]; rfl
    refine WP.go 3 (And.intro (And.intro (Nat.le_of_ble_eq_true rfl) (Nat.le_of_ble_eq_true rfl)) (And.intro rfl (?_)))
    show Call d 196 [vr (some 90) 10, vi 1] (J9, H) _ _
    refine s_12_lines_1 (by omega) hS hL hF hfr9 hFB9 h179 h169 (by omega) (fun J95 f95 e95 w95 m95 => ?_)
    show WP (Call d) 229 P X (96, [some (vr (some 90) 10), some (vi l), some (vi h9), some (vi y), some (vi (J7 90 10))], [], (J95, H), 0, 0)
    have hw := w95 hU
    have hJ7 : ∀ s, s = 0 ∨ s = 3 ∨ s = 6 ∨ s = 10 ∨ (18 ≤ s ∧ s ≤ 40) → J7 90 s = I 90 s := fun s q => by
      rw [e_J7]
      refine (if_neg (by omega)).trans ?_
      rw [e_J6]
      refine (if_neg (by omega)).trans ?_
      rw [e_J5]
      refine (if_neg (by omega)).trans ?_
      rw [f_J4 90 (by omega), f_J3 90 (by omega), f_J2 90 (by omega), f_J1 90 (by omega), f_J0 90 (by omega)]
    have hans : RNT μ h9 y (lnT tb n (lln tb n) ls0).2.1 = if (lnT tb n (lln tb n) ls0).2.2.2 (FC μ h9 y) = 0 then mx 0 ((lnT tb n (lln tb n) ls0).2.2.1 (FC μ h9 y)) else 0 := by unfold RNT; rw [hlg.1]; rfl
    have hsb := hlg.2.1
    have hvb := hlg.2.2
    refine WP.go 5 (And.intro (And.intro rfl trivial) (And.intro rfl (?_)))
    refine rw_i (Q := fun x9 => WP (Call d) 229 P X (101, [some (vr (some 90) 10), some (vi l), some (vi h9), some (vi y), some (vi (J7 90 10))], [vi x9], ((upI J95 90 10 (J7 90 10)), H), 0, 0)) hw.2 ?_
    show WP (Call d) 229 P X (101, [some (vr (some 90) 10), some (vi l), some (vi h9), some (vi y), some (vi (J7 90 10))], [vi (vd ((lnT tb n (lln tb n) ls0).2.2.2 (FC μ h9 y)) 0)], ((upI J95 90 10 (J7 90 10)), H), 0, 0)
    refine WP.go 1 (And.intro (fun (b101 : ¬ vd ((lnT tb n (lln tb n) ls0).2.2.2 (FC μ h9 y)) 0 = 0) => ?_) (fun (b101 : vd ((lnT tb n (lln tb n) ls0).2.2.2 (FC μ h9 y)) 0 = 0) => ?_))
    ·
      show WP (Call d) 229 P X (107, [some (vr (some 90) 10), some (vi l), some (vi h9), some (vi y), some (vi (J7 90 10))], [], ((upI J95 90 10 (J7 90 10)), H), 0, 0)
      refine WP.go 3 (And.intro (And.intro (Nat.le_of_ble_eq_true rfl) (Nat.le_of_ble_eq_true rfl)) (And.intro trivial (?_)))
      show P (some (vi 0)) ((upI J95 90 10 (J7 90 10)), H)
      refine fin_i (by rw [hans, if_neg (fun z => b101 (by rw [z]; rfl))]) (h _ ⟨fun a q1 q2 => ?_, fun s q => ?_⟩ ?_ ?_)
      · rw [upI_cell q1, f95.2 a q1, ka a q1, f_J8 a q1, upI_cell q1, upI_cell q1, upI_cell q1, f_J7 a q1, f_J6 a q1, f_J5 a q1, f_J4 a q2, f_J3 a q2, f_J2 a q2, f_J1 a q2, f_J0 a q2]
      · by_cases z : s = 10
        · rw [z, upI_same]; exact hJ7 10 (by omega)
        · rw [upI_at (.inr z), f95.1 s (by omega) (by omega) (by omega) (by omega) (by omega), k9 s (by omega), e_J8]
          refine (if_neg (by omega)).trans ?_
          rw [upI_at (.inr (by omega)), upI_at (.inr (by omega)), upI_at (.inr (by omega))]
          exact hJ7 s (by omega)
      · have w := (FS.fr f95 hfr9)
        exact ⟨FC μ h9 y, hFB9, by unfold FR at *; rw [upI_cell (by omega), upI_at (.inr (by omega)), upI_at (.inr (by omega)), upI_at (.inr (by omega))]; exact w⟩
      · rw [upI_at (.inr (by omega)), hw.1]; omega
    ·
      show WP (Call d) 229 P X (102, [some (vr (some 90) 10), some (vi l), some (vi h9), some (vi y), some (vi (J7 90 10))], [], ((upI J95 90 10 (J7 90 10)), H), 0, 0)
      refine WP.go 2 (And.intro rfl (?_))
      refine rw_i (Q := fun x9 => WP (Call d) 229 P X (104, [some (vr (some 90) 10), some (vi l), some (vi h9), some (vi y), some (vi (J7 90 10))], [vl x9], ((upI J95 90 10 (J7 90 10)), H), 0, 0)) hw.1 ?_
      show WP (Call d) 229 P X (104, [some (vr (some 90) 10), some (vi l), some (vi h9), some (vi y), some (vi (J7 90 10))], [vl (0 + (lnT tb n (lln tb n) ls0).2.2.1 (FC μ h9 y))], ((upI J95 90 10 (J7 90 10)), H), 0, 0)
      refine WP.go 3 (And.intro (fun (b106 : ¬ zcmp (0 + (lnT tb n (lln tb n) ls0).2.2.1 (FC μ h9 y)) 0 < 0) => ?_) (fun (b106 : zcmp (0 + (lnT tb n (lln tb n) ls0).2.2.1 (FC μ h9 y)) 0 < 0) => ?_))
      ·
        show WP (Call d) 229 P X (109, [some (vr (some 90) 10), some (vi l), some (vi h9), some (vi y), some (vi (J7 90 10))], [], ((upI J95 90 10 (J7 90 10)), H), 0, 0)
        refine WP.go 2 (And.intro rfl (?_))
        refine rw_i (Q := fun x9 => WP (Call d) 229 P X (111, [some (vr (some 90) 10), some (vi l), some (vi h9), some (vi y), some (vi (J7 90 10))], [vl x9], ((upI J95 90 10 (J7 90 10)), H), 0, 0)) hw.1 ?_
        show WP (Call d) 229 P X (111, [some (vr (some 90) 10), some (vi l), some (vi h9), some (vi y), some (vi (J7 90 10))], [vl (0 + (lnT tb n (lln tb n) ls0).2.2.1 (FC μ h9 y))], ((upI J95 90 10 (J7 90 10)), H), 0, 0)
        refine WP.go 2 (And.intro (And.intro (by omega) (by omega)) (And.intro (And.intro (Nat.le_of_ble_eq_true rfl) (Nat.le_of_ble_eq_true rfl)) (And.intro trivial (?_))))
        show P (some (vi (0 + (lnT tb n (lln tb n) ls0).2.2.1 (FC μ h9 y)))) ((upI J95 90 10 (J7 90 10)), H)
        have hv0 : (lnT tb n (lln tb n) ls0).2.2.2 (FC μ h9 y) = 0 := Classical.byContradiction (fun z => by have w := b101; rw [show vd ((lnT tb n (lln tb n) ls0).2.2.2 (FC μ h9 y)) 0 = 1 from if_neg z] at w; omega)
        have zm := mx_b 0 ((lnT tb n (lln tb n) ls0).2.2.1 (FC μ h9 y))
        have hs0 : 0 ≤ (lnT tb n (lln tb n) ls0).2.2.1 (FC μ h9 y) := Classical.byContradiction (fun z => b106 (by unfold zcmp; rw [if_pos (by omega)]; omega))
        refine fin_i (by rw [hans, if_pos hv0]; omega) (h _ ⟨fun a q1 q2 => ?_, fun s q => ?_⟩ ?_ ?_)
        · rw [upI_cell q1, f95.2 a q1, ka a q1, f_J8 a q1, upI_cell q1, upI_cell q1, upI_cell q1, f_J7 a q1, f_J6 a q1, f_J5 a q1, f_J4 a q2, f_J3 a q2, f_J2 a q2, f_J1 a q2, f_J0 a q2]
        · by_cases z : s = 10
          · rw [z, upI_same]; exact hJ7 10 (by omega)
          · rw [upI_at (.inr z), f95.1 s (by omega) (by omega) (by omega) (by omega) (by omega), k9 s (by omega), e_J8]
            refine (if_neg (by omega)).trans ?_
            rw [upI_at (.inr (by omega)), upI_at (.inr (by omega)), upI_at (.inr (by omega))]
            exact hJ7 s (by omega)
        · have w := (FS.fr f95 hfr9)
          exact ⟨FC μ h9 y, hFB9, by unfold FR at *; rw [upI_cell (by omega), upI_at (.inr (by omega)), upI_at (.inr (by omega)), upI_at (.inr (by omega))]; exact w⟩
        · rw [upI_at (.inr (by omega)), hw.1]; omega
      ·
        show WP (Call d) 229 P X (107, [some (vr (some 90) 10), some (vi l), some (vi h9), some (vi y), some (vi (J7 90 10))], [], ((upI J95 90 10 (J7 90 10)), H), 0, 0)
        refine WP.go 3 (And.intro (And.intro (Nat.le_of_ble_eq_true rfl) (Nat.le_of_ble_eq_true rfl)) (And.intro trivial (?_)))
        show P (some (vi 0)) ((upI J95 90 10 (J7 90 10)), H)
        have hv0 : (lnT tb n (lln tb n) ls0).2.2.2 (FC μ h9 y) = 0 := Classical.byContradiction (fun z => by have w := b101; rw [show vd ((lnT tb n (lln tb n) ls0).2.2.2 (FC μ h9 y)) 0 = 1 from if_neg z] at w; omega)
        have zm := mx_b 0 ((lnT tb n (lln tb n) ls0).2.2.1 (FC μ h9 y))
        have hs0 : (lnT tb n (lln tb n) ls0).2.2.1 (FC μ h9 y) < 0 := Classical.byContradiction (fun z => by have w := b106; unfold zcmp at w; rw [if_neg (by omega)] at w; split at w <;> omega)
        refine fin_i (by rw [hans, if_pos hv0]; omega) (h _ ⟨fun a q1 q2 => ?_, fun s q => ?_⟩ ?_ ?_)
        · rw [upI_cell q1, f95.2 a q1, ka a q1, f_J8 a q1, upI_cell q1, upI_cell q1, upI_cell q1, f_J7 a q1, f_J6 a q1, f_J5 a q1, f_J4 a q2, f_J3 a q2, f_J2 a q2, f_J1 a q2, f_J0 a q2]
        · by_cases z : s = 10
          · rw [z, upI_same]; exact hJ7 10 (by omega)
          · rw [upI_at (.inr z), f95.1 s (by omega) (by omega) (by omega) (by omega) (by omega), k9 s (by omega), e_J8]
            refine (if_neg (by omega)).trans ?_
            rw [upI_at (.inr (by omega)), upI_at (.inr (by omega)), upI_at (.inr (by omega))]
            exact hJ7 s (by omega)
        · have w := (FS.fr f95 hfr9)
          exact ⟨FC μ h9 y, hFB9, by unfold FR at *; rw [upI_cell (by omega), upI_at (.inr (by omega)), upI_at (.inr (by omega)), upI_at (.inr (by omega))]; exact w⟩
        · rw [upI_at (.inr (by omega)), hw.1]; omega
  refine WP.go 1 (And.intro (fun (b52 : ¬ BRT μ (J0 96) (HTC μ (-1) tb9) h9 y y = 0) => ?_) (fun (b52 : BRT μ (J0 96) (HTC μ (-1) tb9) h9 y y = 0) => ?_))
  ·
    show WP (Call d) 229 P X (55, [some (vr (some 90) 10), some (vi l), some (vi h9), some (vi y), none], [vr (some 90) 10], (J5, H), 0, 0)
    refine WP.go 1 ?_
    show WP (Call d) 229 P X (56, [some (vr (some 90) 10), some (vi l), some (vi h9), some (vi y), none], [vi 0, vr (some 90) 10], (J5, H), 0, 0)
    exact ih56 0 (zero_bz b52)
  ·
    show WP (Call d) 229 P X (53, [some (vr (some 90) 10), some (vi l), some (vi h9), some (vi y), none], [vr (some 90) 10], (J5, H), 0, 0)
    refine WP.go 2 ?_
    show WP (Call d) 229 P X (56, [some (vr (some 90) 10), some (vi l), some (vi h9), some (vi y), none], [vi 1, vr (some 90) 10], (J5, H), 0, 0)
    exact ih56 1 (one_bz b52)

/-- a rent changes the reference's notes and facts alone -/
def MR (I J : qI) : Prop := (∀ a, a < 90 ∨ a = 91 ∨ a = 92 ∨ a = 94 ∨ 100 ≤ a → J a = I a) ∧ (∀ s, s = 3 ∨ s = 6 ∨ s = 10 → J 90 s = I 90 s) ∧ MS J ∧ FE J
theorem MR.of {I J K : qI} (h : MF I J) (f : FO J K) (g : FE K) : MR I K :=
  ⟨fun a q => (f.1 a (by omega) (by omega)).trans (h.1 a (by omega)), fun s q => (f.2 s (by omega)).trans (h.2.1 s (by omega)), by have := h.2.2; unfold MS at *; rw [f.2 22 (by omega), f.2 23 (by omega), f.2 29 (by omega), f.2 30 (by omega)]; exact this, g⟩
/-- the text of lease l, and its code -/
noncomputable def LU (μ : Int → Int) (l : Int) : Int × LSt := (lnT (fun k0 => if 0 ≤ k0 ∧ k0 < μ (546 + 401 * l) then μ (547 + 401 * l + k0) else 0) (μ (546 + 401 * l)) (lln (fun k0 => if 0 ≤ k0 ∧ k0 < μ (546 + 401 * l) then μ (547 + 401 * l + k0) else 0) (μ (546 + 401 * l))) ls0)
noncomputable def LCo (μ : Int → Int) (l : Int) : List Int := (LU μ l).2.1
/-- the leases' texts are right ones -/
def LOK (μ : Int → Int) : Prop := ∀ l, 0 ≤ l → l < μ 3 → (0 ≤ μ (546 + 401 * l) ∧ μ (546 + 401 * l) ≤ 400) ∧ (∀ j, 0 ≤ j → j < μ (546 + 401 * l) → 0 ≤ μ (547 + 401 * l + j) ∧ μ (547 + 401 * l + j) ≤ 255) ∧ (LU μ l).1 = -1
theorem s_12_rent {d : Nat} {P : Option qV → qH → Prop} {X : Nat → qH → Prop} {I : qI} {H : qS} {μ : Int → Int} (hd : 50 ≤ d) {l h9 y : Int} (hS : Shp H) (hM : I 91 = μ) (hV : IM μ) (hK : MS I) (hLO : LOK μ) (hk1 : (¬ ((0 ≤ l ∧ l < μ 3) ∧ (0 ≤ h9 ∧ h9 < μ 1) ∧ (0 ≤ y ∧ y < 100))) → ∀ (J : qI) (v : Int), (v = 0 ∨ v = 1) → MF I J → J 90 0 = 1 → P (some (vi v)) (J, H)) (h : ((0 ≤ l ∧ l < μ 3) ∧ (0 ≤ h9 ∧ h9 < μ 1) ∧ (0 ≤ y ∧ y < 100)) → ∀ J : qI, MR I J → J 90 0 = 0 → P (some (vi (RNT μ h9 y (LCo μ l)))) (J, H)) :
    Call d 230 [vr (some 90) 10, vi l, vi h9, vi y] (I, H) P X := by
  obtain ⟨d, rfl⟩ : ∃ e, d = e + 1 := ⟨d - 1, by omega⟩
  have hl91 := hS.l91
  obtain ⟨tb, h30⟩ : ∃ tb, I 90 30 = tb := ⟨_, rfl⟩
  obtain ⟨mo, h23⟩ : ∃ mo, I 90 23 = mo := ⟨_, rfl⟩
  have htb : 0 ≤ tb ∧ tb ≤ 29 := by have := hK.2.2.2; omega
  have hmo : (-1 : Int) = -1 ∨ (0 ≤ mo ∧ mo ≤ 48) := .inl rfl
  have h22 := hK.1
  have h29 := hK.2.1
  have hn3 := hV.n3
  show WP (Call d) 230 P X (0, [some (vr (some 90) 10), some (vi l), some (vi h9), some (vi y)], [], (I, H), 0, 0)
  refine WP.go 7 (And.intro rfl (Exists.intro 91 (And.intro hS.r90_1 (And.intro (And.intro rfl (And.intro (show 0 ≤ 3 from by omega) (show 3 < H.2.1 91 from by omega))) (?_)))))
  refine rw_i (Q := fun x9 => WP (Call d) 230 P X (7, [some (vr (some 90) 10), some (vi l), some (vi h9), some (vi y)], [vi x9, vi 0, vi l, vr (some 90) 10], (I, H), 0, 0)) (congrFun hM _) ?_
  show WP (Call d) 230 P X (7, [some (vr (some 90) 10), some (vi l), some (vi h9), some (vi y)], [vi (μ 3), vi 0, vi l, vr (some 90) 10], (I, H), 0, 0)
  refine WP.go 3 (Exists.intro ((μ 3) - 1) (And.intro (wrp_a (by omega) (by omega)) (And.intro (And.intro (Nat.le_of_ble_eq_true rfl) (Nat.le_of_ble_eq_true rfl)) (And.intro rfl (?_)))))
  show Call d 177 [vi l, vi 0, vi ((μ 3) - 1)] (I, H) _ _
  refine s_12_isIn (by omega)  ?_
  show WP (Call d) 230 P X (10, [some (vr (some 90) 10), some (vi l), some (vi h9), some (vi y)], [vi (bz (0 ≤ l ∧ l ≤ ((μ 3) - 1))), vr (some 90) 10], (I, H), 0, 0)
  refine WP.go 1 (And.intro (fun (b10 : bz (0 ≤ l ∧ l ≤ ((μ 3) - 1)) = 0) => ?_) (fun (b10 : ¬ bz (0 ≤ l ∧ l ≤ ((μ 3) - 1)) = 0) => ?_))
  ·
    show WP (Call d) 230 P X (18, [some (vr (some 90) 10), some (vi l), some (vi h9), some (vi y)], [vr (some 90) 10], (I, H), 0, 0)
    have z10 := bz_e0.mp b10
    refine WP.go 6 (And.intro (And.intro rfl trivial) (And.intro rfl (And.intro (fun (b24 : ¬ 0 < 1) => (absurd b24 (by omega))) (fun (b24 : 0 < 1) => ?_))))
    show WP (Call d) 230 P X (25, [some (vr (some 90) 10), some (vi l), some (vi h9), some (vi y)], [], ((upI I 90 0 1), H), 0, 0)
    refine WP.go 2 (And.intro (And.intro (Nat.le_of_ble_eq_true rfl) (Nat.le_of_ble_eq_true rfl)) (And.intro trivial (?_)))
    show P (some (vi 0)) ((upI I 90 0 1), H)
    exact hk1 (by omega) _ 0 (.inl rfl) (MF.th hK _) (upI_same _ _ _ _)
  ·
    show WP (Call d) 230 P X (11, [some (vr (some 90) 10), some (vi l), some (vi h9), some (vi y)], [vr (some 90) 10], (I, H), 0, 0)
    have z10 := bz_e1.mp b10
    refine WP.go 3 (And.intro (And.intro (Nat.le_of_ble_eq_true rfl) (Nat.le_of_ble_eq_true rfl)) (And.intro rfl (?_)))
    show Call d 180 [vr (some 90) 10, vi h9] (I, H) _ _
    refine s_12_isHouse (by omega) hS hM hV ?_
    show WP (Call d) 230 P X (14, [some (vr (some 90) 10), some (vi l), some (vi h9), some (vi y)], [vi (bz (0 ≤ h9 ∧ h9 ≤ μ 1 - 1)), vr (some 90) 10], (I, H), 0, 0)
    refine WP.go 1 (And.intro (fun (b14 : bz (0 ≤ h9 ∧ h9 ≤ μ 1 - 1) = 0) => ?_) (fun (b14 : ¬ bz (0 ≤ h9 ∧ h9 ≤ μ 1 - 1) = 0) => ?_))
    ·
      show WP (Call d) 230 P X (18, [some (vr (some 90) 10), some (vi l), some (vi h9), some (vi y)], [vr (some 90) 10], (I, H), 0, 0)
      have z14 := bz_e0.mp b14
      refine WP.go 6 (And.intro (And.intro rfl trivial) (And.intro rfl (And.intro (fun (b24 : ¬ 0 < 1) => (absurd b24 (by omega))) (fun (b24 : 0 < 1) => ?_))))
      show WP (Call d) 230 P X (25, [some (vr (some 90) 10), some (vi l), some (vi h9), some (vi y)], [], ((upI I 90 0 1), H), 0, 0)
      refine WP.go 2 (And.intro (And.intro (Nat.le_of_ble_eq_true rfl) (Nat.le_of_ble_eq_true rfl)) (And.intro trivial (?_)))
      show P (some (vi 0)) ((upI I 90 0 1), H)
      exact hk1 (by omega) _ 0 (.inl rfl) (MF.th hK _) (upI_same _ _ _ _)
    ·
      show WP (Call d) 230 P X (15, [some (vr (some 90) 10), some (vi l), some (vi h9), some (vi y)], [vr (some 90) 10], (I, H), 0, 0)
      have z14 := bz_e1.mp b14
      refine WP.go 2 (And.intro (And.intro (Nat.le_of_ble_eq_true rfl) (Nat.le_of_ble_eq_true rfl)) (And.intro rfl (?_)))
      show Call d 179 [vi y] (I, H) _ _
      refine s_12_isYear (by omega)  ?_
      show WP (Call d) 230 P X (17, [some (vr (some 90) 10), some (vi l), some (vi h9), some (vi y)], [vi (bz (0 ≤ y ∧ y ≤ 99)), vr (some 90) 10], (I, H), 0, 0)
      refine WP.go 1 (And.intro (fun (b17 : ¬ bz (0 ≤ y ∧ y ≤ 99) = 0) => ?_) (fun (b17 : bz (0 ≤ y ∧ y ≤ 99) = 0) => ?_))
      ·
        show WP (Call d) 230 P X (20, [some (vr (some 90) 10), some (vi l), some (vi h9), some (vi y)], [vr (some 90) 10], (I, H), 0, 0)
        have z17 := bz_e1.mp b17
        refine WP.go 5 (And.intro (And.intro rfl trivial) (And.intro rfl (And.intro (fun (b24 : ¬ 0 < 0) => ?_) (fun (b24 : 0 < 0) => (absurd b24 (by omega))))))
        show WP (Call d) 230 P X (27, [some (vr (some 90) 10), some (vi l), some (vi h9), some (vi y)], [], ((upI I 90 0 0), H), 0, 0)
        generalize hq_J0 : (upI I 90 0 0) = J0
        have e_J0 : J0 90 = (fun j => if j = 0 then 0 else I 90 j) := by rw [← hq_J0]; exact upI_self _ _ _ _
        have f_J0 : ∀ a, a ≠ 90 → J0 a = I a := fun a q => by rw [← hq_J0]; exact upI_cell q
        have hmf : MF I J0 := MF.t0 hK e_J0 f_J0
        have hth : J0 90 0 = 0 := by rw [e_J0]; rfl
        have hM_1 : J0 91 = μ := (f_J0 91 (by omega)).trans hM
        have h_2 : J0 90 22 = -1 := by rw [e_J0]; exact h22
        have h_3 : J0 90 23 = mo := by rw [e_J0]; exact h23
        have h_4 : J0 90 29 = -1 := by rw [e_J0]; exact h29
        have h_5 : J0 90 30 = tb := by rw [e_J0]; exact h30
        refine WP.go 1 ?_
        show WP (Call d) 230 P X (28, [some (vr (some 90) 10), some (vi l), some (vi h9), some (vi y)], [vr (some 90) 10], (J0, H), 0, 0)
        have hlk := hLO l (by omega) (by omega)
        refine WP.go 1 (And.intro (And.intro (Nat.le_of_ble_eq_true rfl) (Nat.le_of_ble_eq_true rfl)) (And.intro rfl (?_)))
        show Call d 210 [vr (some 90) 10] (J0, H) _ _
        refine s_12_turn (by omega) hS hM_1 hV h_2 h_3 hmo (fun J28 e28 f28 => ?_)
        show WP (Call d) 230 P X (29, [some (vr (some 90) 10), some (vi l), some (vi h9), some (vi y)], [], (J28, H), 0, 0)
        have hM_6 : J28 91 = μ := (f28 91 (by omega)).trans hM_1
        have h_7 : J28 90 22 = -1 := (congrFun (f28 90 (by omega)) 22).trans h_2
        have h_8 : J28 90 23 = mo := (congrFun (f28 90 (by omega)) 23).trans h_3
        have h_9 : J28 90 29 = -1 := (congrFun (f28 90 (by omega)) 29).trans h_4
        have h_10 : J28 90 30 = tb := (congrFun (f28 90 (by omega)) 30).trans h_5
        have hA_11 : ∀ y, 0 ≤ y → y < 100 → 0 ≤ J28 96 y ∧ J28 96 y < 96 := fun y q1 q2 => by rw [e28 y q1 q2]; exact ANG_bd hV _ _ _
        have eA : ∀ y, 0 ≤ y → y < 100 → J28 96 y = AN μ y := fun y q1 q2 => (e28 y q1 q2).trans (ANG_irr (by omega) _ _ _)
        have hmf_12 : MF I J28 := hmf.tu f28
        have hth_13 : J28 90 0 = 0 := (congrFun (f28 90 (by omega)) 0).trans hth
        refine WP.go 5 (And.intro (And.intro (Nat.le_of_ble_eq_true rfl) (Nat.le_of_ble_eq_true rfl)) (And.intro rfl (?_)))
        show Call d 229 [vr (some 90) 10, vi l, vi h9, vi y] (J28, H) _ _
        refine s_12_rentOf (tb := (fun k0 => if 0 ≤ k0 ∧ k0 < μ (546 + 401 * l) then μ (547 + 401 * l + k0) else 0)) (n := (μ (546 + 401 * l))) (by omega) hS hM_6 hV hA_11 h_9 h_10 htb eA (by omega) (by omega) (by omega) rfl hlk.1 (fun j q w => by rw [if_pos ⟨q, w⟩]; exact hlk.2.1 j q w) (fun j q w => (if_pos ⟨q, w⟩).symm) hlk.2.2 (fun J33 f33 e33 k33 => ?_)
        show WP (Call d) 230 P X (34, [some (vr (some 90) 10), some (vi l), some (vi h9), some (vi y)], [vi (RNT μ h9 y ((lnT (fun k0 => if 0 ≤ k0 ∧ k0 < μ (546 + 401 * l) then μ (547 + 401 * l + k0) else 0) (μ (546 + 401 * l)) (lln (fun k0 => if 0 ≤ k0 ∧ k0 < μ (546 + 401 * l) then μ (547 + 401 * l + k0) else 0) (μ (546 + 401 * l))) ls0).2.1))], (J33, H), 0, 0)
        refine WP.go 1 (And.intro (And.intro (Nat.le_of_ble_eq_true rfl) (Nat.le_of_ble_eq_true rfl)) (And.intro trivial (?_)))
        show P (some (vi (RNT μ h9 y ((lnT (fun k0 => if 0 ≤ k0 ∧ k0 < μ (546 + 401 * l) then μ (547 + 401 * l + k0) else 0) (μ (546 + 401 * l)) (lln (fun k0 => if 0 ≤ k0 ∧ k0 < μ (546 + 401 * l) then μ (547 + 401 * l + k0) else 0) (μ (546 + 401 * l))) ls0).2.1)))) (J33, H)
        exact h (by omega) _ (MR.of hmf_12 f33 ⟨e33, by omega⟩) (by rw [f33.2 0 (by omega)]; exact hth_13)
      ·
        show WP (Call d) 230 P X (18, [some (vr (some 90) 10), some (vi l), some (vi h9), some (vi y)], [vr (some 90) 10], (I, H), 0, 0)
        have z17 := bz_e0.mp b17
        refine WP.go 6 (And.intro (And.intro rfl trivial) (And.intro rfl (And.intro (fun (b24 : ¬ 0 < 1) => (absurd b24 (by omega))) (fun (b24 : 0 < 1) => ?_))))
        show WP (Call d) 230 P X (25, [some (vr (some 90) 10), some (vi l), some (vi h9), some (vi y)], [], ((upI I 90 0 1), H), 0, 0)
        refine WP.go 2 (And.intro (And.intro (Nat.le_of_ble_eq_true rfl) (Nat.le_of_ble_eq_true rfl)) (And.intro trivial (?_)))
        show P (some (vi 0)) ((upI I 90 0 1), H)
        exact hk1 (by omega) _ 0 (.inl rfl) (MF.th hK _) (upI_same _ _ _ _)

theorem s_12_due {d : Nat} {P : Option qV → qH → Prop} {X : Nat → qH → Prop} {I : qI} {H : qS} {μ : Int → Int} (hd : 50 ≤ d) {k : Int} (hS : Shp H) (hM : I 91 = μ) (hV : IM μ) (hK : MS I) (hLO : LOK μ) (hk1 : (¬ ((0 ≤ k ∧ k < μ 4))) → ∀ (J : qI) (v : Int), (v = 0 ∨ v = 1) → MF I J → J 90 0 = 1 → P (some (vi v)) (J, H)) (h : ((0 ≤ k ∧ k < μ 4)) → ∀ J : qI, MR I J → J 90 0 = 0 → P (some (vi (wI (fun y => RNT μ (μ (331 + 4 * k)) y (LCo μ (μ (330 + 4 * k)))) (μ (332 + 4 * k)) (μ (333 + 4 * k) + 1)))) (J, H)) :
    Call d 232 [vr (some 90) 10, vi k] (I, H) P X := by
  obtain ⟨d, rfl⟩ : ∃ e, d = e + 1 := ⟨d - 1, by omega⟩
  have hl91 := hS.l91
  obtain ⟨tb, h30⟩ : ∃ tb, I 90 30 = tb := ⟨_, rfl⟩
  obtain ⟨mo, h23⟩ : ∃ mo, I 90 23 = mo := ⟨_, rfl⟩
  have htb : 0 ≤ tb ∧ tb ≤ 29 := by have := hK.2.2.2; omega
  have hmo : (-1 : Int) = -1 ∨ (0 ≤ mo ∧ mo ≤ 48) := .inl rfl
  have h22 := hK.1
  have h29 := hK.2.1
  have hn3 := hV.n3
  have hn4 := hV.n4
  show WP (Call d) 232 P X (0, [some (vr (some 90) 10), some (vi k), none, none, none], [], (I, H), 0, 0)
  refine WP.go 7 (And.intro rfl (Exists.intro 91 (And.intro hS.r90_1 (And.intro (And.intro rfl (And.intro (show 0 ≤ 4 from by omega) (show 4 < H.2.1 91 from by omega))) (?_)))))
  refine rw_i (Q := fun x9 => WP (Call d) 232 P X (7, [some (vr (some 90) 10), some (vi k), none, none, none], [vi x9, vi 0, vi k, vr (some 90) 10], (I, H), 0, 0)) (congrFun hM _) ?_
  show WP (Call d) 232 P X (7, [some (vr (some 90) 10), some (vi k), none, none, none], [vi (μ 4), vi 0, vi k, vr (some 90) 10], (I, H), 0, 0)
  refine WP.go 3 (Exists.intro ((μ 4) - 1) (And.intro (wrp_a (by omega) (by omega)) (And.intro (And.intro (Nat.le_of_ble_eq_true rfl) (Nat.le_of_ble_eq_true rfl)) (And.intro rfl (?_)))))
  show Call d 177 [vi k, vi 0, vi ((μ 4) - 1)] (I, H) _ _
  refine s_12_isIn (by omega)  ?_
  show WP (Call d) 232 P X (10, [some (vr (some 90) 10), some (vi k), none, none, none], [vi (bz (0 ≤ k ∧ k ≤ ((μ 4) - 1))), vr (some 90) 10], (I, H), 0, 0)
  refine WP.go 1 (And.intro (fun (b10 : ¬ bz (0 ≤ k ∧ k ≤ ((μ 4) - 1)) = 0) => ?_) (fun (b10 : bz (0 ≤ k ∧ k ≤ ((μ 4) - 1)) = 0) => ?_))
  ·
    show WP (Call d) 232 P X (13, [some (vr (some 90) 10), some (vi k), none, none, none], [vr (some 90) 10], (I, H), 0, 0)
    have z10 := bz_e1.mp b10
    refine WP.go 5 (And.intro (And.intro rfl trivial) (And.intro rfl (And.intro (fun (b17 : ¬ 0 < 0) => ?_) (fun (b17 : 0 < 0) => (absurd b17 (by omega))))))
    show WP (Call d) 232 P X (20, [some (vr (some 90) 10), some (vi k), none, none, none], [], ((upI I 90 0 0), H), 0, 0)
    generalize hq_J0 : (upI I 90 0 0) = J0
    have e_J0 : J0 90 = (fun j => if j = 0 then 0 else I 90 j) := by rw [← hq_J0]; exact upI_self _ _ _ _
    have f_J0 : ∀ a, a ≠ 90 → J0 a = I a := fun a q => by rw [← hq_J0]; exact upI_cell q
    have hmf : MF I J0 := MF.t0 hK e_J0 f_J0
    have hth : J0 90 0 = 0 := by rw [e_J0]; rfl
    have hM_1 : J0 91 = μ := (f_J0 91 (by omega)).trans hM
    have h_2 : J0 90 22 = -1 := by rw [e_J0]; exact h22
    have h_3 : J0 90 23 = mo := by rw [e_J0]; exact h23
    have h_4 : J0 90 29 = -1 := by rw [e_J0]; exact h29
    have h_5 : J0 90 30 = tb := by rw [e_J0]; exact h30
    refine WP.go 2 (And.intro (And.intro (Nat.le_of_ble_eq_true rfl) (Nat.le_of_ble_eq_true rfl)) (And.intro rfl (?_)))
    show Call d 210 [vr (some 90) 10] (J0, H) _ _
    refine s_12_turn (by omega) hS hM_1 hV h_2 h_3 hmo (fun J21 e21 f21 => ?_)
    show WP (Call d) 232 P X (22, [some (vr (some 90) 10), some (vi k), none, none, none], [], (J21, H), 0, 0)
    have hM_6 : J21 91 = μ := (f21 91 (by omega)).trans hM_1
    have h_7 : J21 90 22 = -1 := (congrFun (f21 90 (by omega)) 22).trans h_2
    have h_8 : J21 90 23 = mo := (congrFun (f21 90 (by omega)) 23).trans h_3
    have h_9 : J21 90 29 = -1 := (congrFun (f21 90 (by omega)) 29).trans h_4
    have h_10 : J21 90 30 = tb := (congrFun (f21 90 (by omega)) 30).trans h_5
    have hA_11 : ∀ y, 0 ≤ y → y < 100 → 0 ≤ J21 96 y ∧ J21 96 y < 96 := fun y q1 q2 => by rw [e21 y q1 q2]; exact ANG_bd hV _ _ _
    have eA : ∀ y, 0 ≤ y → y < 100 → J21 96 y = AN μ y := fun y q1 q2 => (e21 y q1 q2).trans (ANG_irr (by omega) _ _ _)
    have hmf_12 : MF I J21 := hmf.tu f21
    have hth_13 : J21 90 0 = 0 := (congrFun (f21 90 (by omega)) 0).trans hth
    have w1 := hV.le k (by omega) (by omega)
    have w2 := hV.lh k (by omega) (by omega)
    have w3 := hV.ly k (by omega) (by omega)
    have hlk := hLO _ w1.1 w1.2
    refine WP.go 14 (Exists.intro (4 * k) (And.intro (wrp_a (by omega) (by omega)) (Exists.intro (330 + (4 * k)) (And.intro (wrp_a (by omega) (by omega)) (And.intro rfl (Exists.intro 91 (And.intro hS.r90_1 (Exists.intro ((330 + (4 * k)) + 2) (And.intro (wrp_a (by omega) (by omega)) (And.intro (And.intro rfl (And.intro (show 0 ≤ (330 + (4 * k)) + 2 from by omega) (show (330 + (4 * k)) + 2 < H.2.1 91 from by omega))) (?_)))))))))))
    refine rw_i (Q := fun x9 => WP (Call d) 232 P X (36, [some (vr (some 90) 10), some (vi k), some (vi (330 + (4 * k))), some (vi 0), none], [vi x9], (J21, H), 0, 0)) (show J21 91 ((330 + (4 * k)) + 2) = μ (332 + 4 * k) from (congrFun hM_6 _).trans (congrArg μ (by omega))) ?_
    show WP (Call d) 232 P X (36, [some (vr (some 90) 10), some (vi k), some (vi (330 + (4 * k))), some (vi 0), none], [vi (μ (332 + 4 * k))], (J21, H), 0, 0)
    refine WP.go 1 ?_
    show WP (Call d) 232 P X (37, [some (vr (some 90) 10), some (vi k), some (vi (330 + (4 * k))), some (vi 0), some (vi (μ (332 + 4 * k)))], [], (J21, H), 0, 0)
    have lp37 : ∀ (n9 : Nat) (K : qI) (s9 : Int) (y : Int) (hm : μ (333 + 4 * k) + 1 - y < (n9 : Int)) (iv0 : μ (332 + 4 * k) ≤ y ∧ y ≤ μ (333 + 4 * k) + 1) (iv1 : s9 = wI (fun y => RNT μ (μ (331 + 4 * k)) y (LCo μ (μ (330 + 4 * k)))) (μ (332 + 4 * k)) y) (iv2 : FO J21 K) (iv3 : μ (332 + 4 * k) < y → FE K), WP (Call d) 232 P X (37, [some (vr (some 90) 10), some (vi k), some (vi (330 + (4 * k))), some (vi s9), some (vi y)], [], (K, H), 0, 0) := by
      intro n9
      induction n9 with
      | zero => intro K s9 y hm iv0 iv1 iv2 iv3; exact absurd hm (by omega)
      | succ n9 ih37 =>
        intro K s9 y hm iv0 iv1 iv2 iv3
        have hMk : K 91 = μ := (iv2.1 91 (by omega) (by omega)).trans hM_6
        have h29k : K 90 29 = -1 := (iv2.2 29 (by omega)).trans h_9
        have h30k : K 90 30 = tb := (iv2.2 30 (by omega)).trans h_10
        have hAk : ∀ y, 0 ≤ y → y < 100 → 0 ≤ K 96 y ∧ K 96 y < 96 := by rw [iv2.1 96 (by omega) (by omega)]; exact hA_11
        have eAk : ∀ y, 0 ≤ y → y < 100 → K 96 y = AN μ y := by rw [iv2.1 96 (by omega) (by omega)]; exact eA
        refine WP.go 7 (And.intro rfl (Exists.intro 91 (And.intro hS.r90_1 (Exists.intro ((330 + (4 * k)) + 3) (And.intro (wrp_a (by omega) (by omega)) (And.intro (And.intro rfl (And.intro (show 0 ≤ (330 + (4 * k)) + 3 from by omega) (show (330 + (4 * k)) + 3 < H.2.1 91 from by omega))) (?_)))))))
        refine rw_i (Q := fun x9 => WP (Call d) 232 P X (44, [some (vr (some 90) 10), some (vi k), some (vi (330 + (4 * k))), some (vi s9), some (vi y)], [vi x9, vi y], (K, H), 0, 0)) (show K 91 ((330 + (4 * k)) + 3) = μ (333 + 4 * k) from (congrFun hMk _).trans (congrArg μ (by omega))) ?_
        show WP (Call d) 232 P X (44, [some (vr (some 90) 10), some (vi k), some (vi (330 + (4 * k))), some (vi s9), some (vi y)], [vi (μ (333 + 4 * k)), vi y], (K, H), 0, 0)
        refine WP.go 1 (And.intro (fun (b44 : μ (333 + 4 * k) < y) => ?_) (fun (b44 : ¬ μ (333 + 4 * k) < y) => ?_))
        ·
          show WP (Call d) 232 P X (63, [some (vr (some 90) 10), some (vi k), some (vi (330 + (4 * k))), some (vi s9), some (vi y)], [], (K, H), 0, 0)
          refine WP.go 2 (And.intro (And.intro (Nat.le_of_ble_eq_true rfl) (Nat.le_of_ble_eq_true rfl)) (And.intro trivial (?_)))
          show P (some (vi s9)) (K, H)
          exact fin_i (by rw [iv1, show y = μ (333 + 4 * k) + 1 by omega]) (h (by omega) _ (MR.of hmf_12 iv2 (iv3 (by omega))) (by rw [iv2.2 0 (by omega)]; exact hth_13))
        ·
          show WP (Call d) 232 P X (45, [some (vr (some 90) 10), some (vi k), some (vi (330 + (4 * k))), some (vi s9), some (vi y)], [], (K, H), 0, 0)
          refine WP.go 6 (And.intro rfl (Exists.intro 91 (And.intro hS.r90_1 (And.intro (And.intro rfl (And.intro (show 0 ≤ 330 + (4 * k) from by omega) (show 330 + (4 * k) < H.2.1 91 from by omega))) (?_)))))
          refine rw_i (Q := fun x9 => WP (Call d) 232 P X (51, [some (vr (some 90) 10), some (vi k), some (vi (330 + (4 * k))), some (vi s9), some (vi y)], [vi x9, vr (some 90) 10, vi s9], (K, H), 0, 0)) (show K 91 (330 + (4 * k)) = μ (330 + 4 * k) from (congrFun hMk _).trans (congrArg μ (by omega))) ?_
          show WP (Call d) 232 P X (51, [some (vr (some 90) 10), some (vi k), some (vi (330 + (4 * k))), some (vi s9), some (vi y)], [vi (μ (330 + 4 * k)), vr (some 90) 10, vi s9], (K, H), 0, 0)
          refine WP.go 6 (And.intro rfl (Exists.intro 91 (And.intro hS.r90_1 (Exists.intro ((330 + (4 * k)) + 1) (And.intro (wrp_a (by omega) (by omega)) (And.intro (And.intro rfl (And.intro (show 0 ≤ (330 + (4 * k)) + 1 from by omega) (show (330 + (4 * k)) + 1 < H.2.1 91 from by omega))) (?_)))))))
          refine rw_i (Q := fun x9 => WP (Call d) 232 P X (57, [some (vr (some 90) 10), some (vi k), some (vi (330 + (4 * k))), some (vi s9), some (vi y)], [vi x9, vi (μ (330 + 4 * k)), vr (some 90) 10, vi s9], (K, H), 0, 0)) (show K 91 ((330 + (4 * k)) + 1) = μ (331 + 4 * k) from (congrFun hMk _).trans (congrArg μ (by omega))) ?_
          show WP (Call d) 232 P X (57, [some (vr (some 90) 10), some (vi k), some (vi (330 + (4 * k))), some (vi s9), some (vi y)], [vi (μ (331 + 4 * k)), vi (μ (330 + 4 * k)), vr (some 90) 10, vi s9], (K, H), 0, 0)
          refine WP.go 2 (And.intro (And.intro (Nat.le_of_ble_eq_true rfl) (Nat.le_of_ble_eq_true rfl)) (And.intro rfl (?_)))
          show Call d 229 [vr (some 90) 10, vi (μ (330 + 4 * k)), vi (μ (331 + 4 * k)), vi y] (K, H) _ _
          refine s_12_rentOf (tb := (fun k0 => if 0 ≤ k0 ∧ k0 < μ (546 + 401 * (μ (330 + 4 * k))) then μ (547 + 401 * (μ (330 + 4 * k)) + k0) else 0)) (n := (μ (546 + 401 * (μ (330 + 4 * k))))) (by omega) hS hMk hV hAk h29k h30k htb eAk (by omega) (by omega) (by omega) rfl hlk.1 (fun j q w => by rw [if_pos ⟨q, w⟩]; exact hlk.2.1 j q w) (fun j q w => (if_pos ⟨q, w⟩).symm) hlk.2.2 (fun J58 f58 e58 k58 => ?_)
          show WP (Call d) 232 P X (59, [some (vr (some 90) 10), some (vi k), some (vi (330 + (4 * k))), some (vi s9), some (vi y)], [vi (RNT μ (μ (331 + 4 * k)) y ((lnT (fun k0 => if 0 ≤ k0 ∧ k0 < μ (546 + 401 * (μ (330 + 4 * k))) then μ (547 + 401 * (μ (330 + 4 * k)) + k0) else 0) (μ (546 + 401 * (μ (330 + 4 * k)))) (lln (fun k0 => if 0 ≤ k0 ∧ k0 < μ (546 + 401 * (μ (330 + 4 * k))) then μ (547 + 401 * (μ (330 + 4 * k)) + k0) else 0) (μ (546 + 401 * (μ (330 + 4 * k))))) ls0).2.1)), vi s9], (J58, H), 0, 0)
          refine WP.go 4 (Exists.intro (wrp (s9 + (RNT μ (μ (331 + 4 * k)) y ((lnT (fun k0 => if 0 ≤ k0 ∧ k0 < μ (546 + 401 * (μ (330 + 4 * k))) then μ (547 + 401 * (μ (330 + 4 * k)) + k0) else 0) (μ (546 + 401 * (μ (330 + 4 * k)))) (lln (fun k0 => if 0 ≤ k0 ∧ k0 < μ (546 + 401 * (μ (330 + 4 * k))) then μ (547 + 401 * (μ (330 + 4 * k)) + k0) else 0) (μ (546 + 401 * (μ (330 + 4 * k))))) ls0).2.1)))) (And.intro rfl (Exists.intro (y + 1) (And.intro (wrp_a (by omega) (by omega)) (?_)))))
          show WP (Call d) 232 P X (37, [some (vr (some 90) 10), some (vi k), some (vi (330 + (4 * k))), some (vi (wrp (s9 + (RNT μ (μ (331 + 4 * k)) y ((lnT (fun k0 => if 0 ≤ k0 ∧ k0 < μ (546 + 401 * (μ (330 + 4 * k))) then μ (547 + 401 * (μ (330 + 4 * k)) + k0) else 0) (μ (546 + 401 * (μ (330 + 4 * k)))) (lln (fun k0 => if 0 ≤ k0 ∧ k0 < μ (546 + 401 * (μ (330 + 4 * k))) then μ (547 + 401 * (μ (330 + 4 * k)) + k0) else 0) (μ (546 + 401 * (μ (330 + 4 * k))))) ls0).2.1))))), some (vi (y + 1))], [], (J58, H), 0, 0)
          exact ih37 J58 (wrp (s9 + (RNT μ (μ (331 + 4 * k)) y ((lnT (fun k0 => if 0 ≤ k0 ∧ k0 < μ (546 + 401 * (μ (330 + 4 * k))) then μ (547 + 401 * (μ (330 + 4 * k)) + k0) else 0) (μ (546 + 401 * (μ (330 + 4 * k)))) (lln (fun k0 => if 0 ≤ k0 ∧ k0 < μ (546 + 401 * (μ (330 + 4 * k))) then μ (547 + 401 * (μ (330 + 4 * k)) + k0) else 0) (μ (546 + 401 * (μ (330 + 4 * k))))) ls0).2.1)))) (y + 1) (by omega) (by omega) (by rw [wI_s (by omega), ← iv1]; rfl) (iv2.tr f58) (fun _ => ⟨e58, by omega⟩)
    exact lp37 ((μ (333 + 4 * k) + 1 - (μ (332 + 4 * k)) : Int).toNat + 1) J21 0 (μ (332 + 4 * k)) (by omega) (by omega) (wI_nil (Int.le_refl _)).symm (FO.rf _) (fun q => absurd q (by omega))
  ·
    show WP (Call d) 232 P X (11, [some (vr (some 90) 10), some (vi k), none, none, none], [vr (some 90) 10], (I, H), 0, 0)
    have z10 := bz_e0.mp b10
    refine WP.go 6 (And.intro (And.intro rfl trivial) (And.intro rfl (And.intro (fun (b17 : ¬ 0 < 1) => (absurd b17 (by omega))) (fun (b17 : 0 < 1) => ?_))))
    show WP (Call d) 232 P X (18, [some (vr (some 90) 10), some (vi k), none, none, none], [], ((upI I 90 0 1), H), 0, 0)
    refine WP.go 2 (And.intro (And.intro (Nat.le_of_ble_eq_true rfl) (Nat.le_of_ble_eq_true rfl)) (And.intro trivial (?_)))
    show P (some (vi 0)) ((upI I 90 0 1), H)
    exact hk1 (by omega) _ 0 (.inl rfl) (MF.th hK _) (upI_same _ _ _ _)

