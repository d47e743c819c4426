/-- but for the reader, facts, void and pays, all is as it was -/
def FO (I J : qI) : Prop := (∀ a, a ≠ 90 → a ≠ 95 → J a = I a) ∧ (∀ s, s = 0 ∨ s = 3 ∨ s = 6 ∨ s = 10 ∨ (18 ≤ s ∧ s ≤ 40) → J 90 s = I 90 s)
theorem FO.rf (I : qI) : FO I I := ⟨fun _ _ _ => rfl, fun _ _ => rfl⟩
theorem FO.tr {I J K : qI} (h : FO I J) (g : FO J K) : FO I K := ⟨fun a q w => (g.1 a q w).trans (h.1 a q w), fun s q => (g.2 s q).trans (h.2 s q)⟩
/-- the reference's notes of facts are such as facts are -/
def FE (I : qI) : Prop := (∃ F, FB F ∧ FR I F) ∧ (-900000000000000 ≤ I 90 17 ∧ I 90 17 ≤ 900000000000000)
set_option maxHeartbeats 1600000 in
theorem s_12_rentOf {d : Nat} {P : Option qV → qH → Prop} {X : Nat → qH → Prop} {I : qI} {H : qS} {μ : Int → Int} (hd : 48 ≤ d) {tb : Int → Int} {n l h9 y tb9 : Int} (hS : Shp H) (hM : I 91 = μ) (hV : IM μ) (hA : ∀ y, 0 ≤ y → y < 100 → 0 ≤ I 96 y ∧ I 96 y < 96) (h29 : I 90 29 = -1) (h30 : I 90 30 = tb9) (htb : 0 ≤ tb9 ∧ tb9 ≤ 29) (eA : ∀ y, 0 ≤ y → y < 100 → I 96 y = AN μ y) (hlr : 0 ≤ l ∧ l < 6) (hh : 0 ≤ h9 ∧ h9 < μ 1) (hy : 0 ≤ y ∧ y < 100) (hn9 : μ (546 + 401 * l) = n) (hnn : 0 ≤ n ∧ n ≤ 400) (hby : ∀ j, 0 ≤ j → j < n → 0 ≤ tb j ∧ tb j ≤ 255) (htb9 : ∀ j, 0 ≤ j → j < n → μ (547 + 401 * l + j) = tb j) (hU : (lnT tb n (lln tb n) ls0).1 = -1) (h : ∀ J : qI, FO I J → (∃ F, FB F ∧ FR J F) → (-130000000 ≤ J 90 17 ∧ J 90 17 ≤ 130000000) → P (some (vi (RNT μ h9 y (lnT tb n (lln tb n) ls0).2.1))) (J, H)) :
    Call d 229 [vr (some 90) 10, vi l, vi h9, vi y] (I, H) P X := by
  obtain ⟨d, rfl⟩ : ∃ e, d = e + 1 := ⟨d - 1, by omega⟩
  have hl95 := hS.l95
  have hl96 := hS.l96
  have hl91 := hS.l91
  have hn1 := hV.n1
  have v1 := hV.hc h9 hh.1 hh.2
  have hFB9 := FC_b hV hh hy
  have hlg := (lnT_lg (tb := tb) (n := n) hnn).2 _ hFB9
  show WP (Call d) 229 P X (0, [some (vr (some 90) 10), some (vi l), some (vi h9), some (vi y), none], [], (I, H), 0, 0)
  refine WP.go 5 (And.intro rfl (Exists.intro 95 (And.intro hS.r90_12 (And.intro (And.intro rfl (And.intro (show 0 ≤ 0 from by omega) (show 0 < H.2.1 95 from by omega))) (?_)))))
  show WP (Call d) 229 P X (5, [some (vr (some 90) 10), some (vi l), some (vi h9), some (vi y), none], [], ((upI I 95 0 y), H), 0, 0)
  generalize hq_J0 : (upI I 95 0 y) = J0
  have e_J0 : J0 95 = (fun j => if j = 0 then y else I 95 j) := by rw [← hq_J0]; exact upI_self _ _ _ _
  have f_J0 : ∀ a, a ≠ 95 → J0 a = I a := fun a q => by rw [← hq_J0]; exact upI_cell q
  have hM_1 : J0 91 = μ := (f_J0 91 (by omega)).trans hM
  have h_2 : J0 90 29 = -1 := (congrFun (f_J0 90 (by omega)) 29).trans h29
  have h_3 : J0 90 30 = tb9 := (congrFun (f_J0 90 (by omega)) 30).trans h30
  have hA_4 : ∀ y, 0 ≤ y → y < 100 → 0 ≤ J0 96 y ∧ J0 96 y < 96 := by rw [f_J0 96 (by omega)]; exact hA
  have g96_J0 : J0 96 = I 96 := (f_J0 96 (by omega))
  refine WP.go 8 (And.intro rfl (Exists.intro 95 (And.intro hS.r90_12 (And.intro (And.intro (Nat.le_of_ble_eq_true rfl) (Nat.le_of_ble_eq_true rfl)) (And.intro rfl (?_))))))
  show Call d 222 [vr (some 90) 10, vi h9, vi y, vi y] (J0, H) _ _
  refine s_12_brightOf (by omega) hS hM_1 hV hA_4 h_2 h_3 htb (by omega) ?_
  show WP (Call d) 229 P X (13, [some (vr (some 90) 10), some (vi l), some (vi h9), some (vi y), none], [vi (BRT μ (J0 96) (HTC μ (-1) tb9) h9 y y), vi 1, vr (some 95) 11], (J0, H), 0, 0)
  refine WP.go 1 (And.intro (And.intro rfl (And.intro (show 0 ≤ 1 from by omega) (show 1 < H.2.1 95 from by omega))) (?_))
  show WP (Call d) 229 P X (14, [some (vr (some 90) 10), some (vi l), some (vi h9), some (vi y), none], [], ((upI J0 95 1 (BRT μ (J0 96) (HTC μ (-1) tb9) h9 y y)), H), 0, 0)
  generalize hq_J1 : (upI J0 95 1 (BRT μ (J0 96) (HTC μ (-1) tb9) h9 y y)) = J1
  have e_J1 : J1 95 = (fun j => if j = 1 then (BRT μ (J0 96) (HTC μ (-1) tb9) h9 y y) else J0 95 j) := by rw [← hq_J1]; exact upI_self _ _ _ _
  have f_J1 : ∀ a, a ≠ 95 → J1 a = J0 a := fun a q => by rw [← hq_J1]; exact upI_cell q
  have hM_5 : J1 91 = μ := (f_J1 91 (by omega)).trans hM_1
  have h_6 : J1 90 29 = -1 := (congrFun (f_J1 90 (by omega)) 29).trans h_2
  have h_7 : J1 90 30 = tb9 := (congrFun (f_J1 90 (by omega)) 30).trans h_3
  have hA_8 : ∀ y, 0 ≤ y → y < 100 → 0 ≤ J1 96 y ∧ J1 96 y < 96 := by rw [f_J1 96 (by omega)]; exact hA_4
  have g96_J1 : J1 96 = I 96 := (f_J1 96 (by omega)).trans g96_J0
  refine WP.go 6 (And.intro rfl (Exists.intro 95 (And.intro hS.r90_12 (And.intro (And.intro (Nat.le_of_ble_eq_true rfl) (Nat.le_of_ble_eq_true rfl)) (And.intro rfl (?_))))))
  show Call d 183 [vr (some 90) 10, vi h9] (J1, H) _ _
  refine s_12_heightOf (by omega) hS hM_5 (by omega) ?_
  show WP (Call d) 229 P X (20, [some (vr (some 90) 10), some (vi l), some (vi h9), some (vi y), none], [vi (μ (121 + 2 * h9)), vi 2, vr (some 95) 11], (J1, H), 0, 0)
  refine WP.go 1 (And.intro (And.intro rfl (And.intro (show 0 ≤ 2 from by omega) (show 2 < H.2.1 95 from by omega))) (?_))
  show WP (Call d) 229 P X (21, [some (vr (some 90) 10), some (vi l), some (vi h9), some (vi y), none], [], ((upI J1 95 2 (μ (121 + 2 * h9))), H), 0, 0)
  generalize hq_J2 : (upI J1 95 2 (μ (121 + 2 * h9))) = J2
  have e_J2 : J2 95 = (fun j => if j = 2 then (μ (121 + 2 * h9)) else J1 95 j) := by rw [← hq_J2]; exact upI_self _ _ _ _
  have f_J2 : ∀ a, a ≠ 95 → J2 a = J1 a := fun a q => by rw [← hq_J2]; exact upI_cell q
  have hM_9 : J2 91 = μ := (f_J2 91 (by omega)).trans hM_5
  have h_10 : J2 90 29 = -1 := (congrFun (f_J2 90 (by omega)) 29).trans h_6
  have h_11 : J2 90 30 = tb9 := (congrFun (f_J2 90 (by omega)) 30).trans h_7
  have hA_12 : ∀ y, 0 ≤ y → y < 100 → 0 ≤ J2 96 y ∧ J2 96 y < 96 := by rw [f_J2 96 (by omega)]; exact hA_8
  have g96_J2 : J2 96 = I 96 := (f_J2 96 (by omega)).trans g96_J1
  refine WP.go 8 (And.intro rfl (Exists.intro 95 (And.intro hS.r90_12 (And.intro rfl (Exists.intro 96 (And.intro hS.r90_24 (And.intro (And.intro rfl (And.intro (show 0 ≤ y from by omega) (show y < H.2.1 96 from by omega))) (And.intro (And.intro rfl (And.intro (show 0 ≤ 3 from by omega) (show 3 < H.2.1 95 from by omega))) (?_)))))))))
  show WP (Call d) 229 P X (29, [some (vr (some 90) 10), some (vi l), some (vi h9), some (vi y), none], [], ((upI J2 95 3 (J2 96 y)), H), 0, 0)
  generalize hq_J3 : (upI J2 95 3 (J2 96 y)) = J3
  have e_J3 : J3 95 = (fun j => if j = 3 then (J2 96 y) else J2 95 j) := by rw [← hq_J3]; exact upI_self _ _ _ _
  have f_J3 : ∀ a, a ≠ 95 → J3 a = J2 a := fun a q => by rw [← hq_J3]; exact upI_cell q
  have hM_13 : J3 91 = μ := (f_J3 91 (by omega)).trans hM_9
  have h_14 : J3 90 29 = -1 := (congrFun (f_J3 90 (by omega)) 29).trans h_10
  have h_15 : J3 90 30 = tb9 := (congrFun (f_J3 90 (by omega)) 30).trans h_11
  have hA_16 : ∀ y, 0 ≤ y → y < 100 → 0 ≤ J3 96 y ∧ J3 96 y < 96 := by rw [f_J3 96 (by omega)]; exact hA_12
  have g96_J3 : J3 96 = I 96 := (f_J3 96 (by omega)).trans g96_J2
  refine WP.go 7 (And.intro rfl (Exists.intro 95 (And.intro hS.r90_12 (And.intro (And.intro (Nat.le_of_ble_eq_true rfl) (Nat.le_of_ble_eq_true rfl)) (And.intro rfl (?_))))))
  show Call d 182 [vr (some 90) 10, vi h9] (J3, H) _ _
  refine s_12_cellOf (by omega) hS hM_13 (by omega) ?_
  show WP (Call d) 229 P X (36, [some (vr (some 90) 10), some (vi l), some (vi h9), some (vi y), none], [vi (μ (120 + 2 * h9)), vr (some 90) 10, vi 4, vr (some 95) 11], (J3, H), 0, 0)
  refine WP.go 2 (And.intro (And.intro (Nat.le_of_ble_eq_true rfl) (Nat.le_of_ble_eq_true rfl)) (And.intro rfl (?_)))
  show Call d 228 [vr (some 90) 10, vi (μ (120 + 2 * h9)), vi y] (J3, H) _ _
  refine s_12_levelOf (by omega) hS hM_13 hV hA_16 (by omega) (by omega) ?_
  show WP (Call d) 229 P X (38, [some (vr (some 90) 10), some (vi l), some (vi h9), some (vi y), none], [vi (LVL μ (J3 96) (μ (120 + 2 * h9)) y), vi 4, vr (some 95) 11], (J3, H), 0, 0)
  have v3 := LVL_bd (c := μ (120 + 2 * h9)) (by omega) (by omega) μ (J3 96) y
  refine WP.go 3 (Exists.intro ((LVL μ (J3 96) (μ (120 + 2 * h9)) y) + 8) (And.intro (wrp_a (by omega) (by omega)) (And.intro (And.intro rfl (And.intro (show 0 ≤ 4 from by omega) (show 4 < H.2.1 95 from by omega))) (?_))))
  show WP (Call d) 229 P X (41, [some (vr (some 90) 10), some (vi l), some (vi h9), some (vi y), none], [], ((upI J3 95 4 ((LVL μ (J3 96) (μ (120 + 2 * h9)) y) + 8)), H), 0, 0)
  generalize hq_J4 : (upI J3 95 4 ((LVL μ (J3 96) (μ (120 + 2 * h9)) y) + 8)) = J4
  have e_J4 : J4 95 = (fun j => if j = 4 then ((LVL μ (J3 96) (μ (120 + 2 * h9)) y) + 8) else J3 95 j) := by rw [← hq_J4]; exact upI_self _ _ _ _
  have f_J4 : ∀ a, a ≠ 95 → J4 a = J3 a := fun a q => by rw [← hq_J4]; exact upI_cell q
  have hM_17 : J4 91 = μ := (f_J4 91 (by omega)).trans hM_13
  have h_18 : J4 90 29 = -1 := (congrFun (f_J4 90 (by omega)) 29).trans h_14
  have h_19 : J4 90 30 = tb9 := (congrFun (f_J4 90 (by omega)) 30).trans h_15
  have hA_20 : ∀ y, 0 ≤ y → y < 100 → 0 ≤ J4 96 y ∧ J4 96 y < 96 := by rw [f_J4 96 (by omega)]; exact hA_16
  have g96_J4 : J4 96 = I 96 := (f_J4 96 (by omega)).trans g96_J3
  refine WP.go 5 (And.intro (And.intro (Nat.le_of_ble_eq_true rfl) (Nat.le_of_ble_eq_true rfl)) (And.intro rfl (?_)))
  show Call d 224 [vr (some 90) 10, vi h9, vi y] (J4, H) _ _
  refine s_12_hasNoon (by omega) hS hM_17 hV hA_20 h_18 h_19 htb (by omega) ?_
  show WP (Call d) 229 P X (46, [some (vr (some 90) 10), some (vi l), some (vi h9), some (vi y), none], [vi (bz (NOONp μ (J4 96) (HTC μ (-1) tb9) h9 y)), vr (some 90) 10], (J4, H), 0, 0)
  refine WP.go 1 (And.intro (And.intro rfl (bz_or _)) (?_))
  show WP (Call d) 229 P X (47, [some (vr (some 90) 10), some (vi l), some (vi h9), some (vi y), none], [], ((upI J4 90 13 (bz (NOONp μ (J4 96) (HTC μ (-1) tb9) h9 y))), H), 0, 0)
  generalize hq_J5 : (upI J4 90 13 (bz (NOONp μ (J4 96) (HTC μ (-1) tb9) h9 y))) = J5
  have e_J5 : J5 90 = (fun j => if j = 13 then (bz (NOONp μ (J4 96) (HTC μ (-1) tb9) h9 y)) else J4 90 j) := by rw [← hq_J5]; exact upI_self _ _ _ _
  have f_J5 : ∀ a, a ≠ 90 → J5 a = J4 a := fun a q => by rw [← hq_J5]; exact upI_cell q
  have hM_21 : J5 91 = μ := (f_J5 91 (by omega)).trans hM_17
  have h_22 : J5 90 29 = -1 := by rw [e_J5]; exact h_18
  have h_23 : J5 90 30 = tb9 := by rw [e_J5]; exact h_19
  have hA_24 : ∀ y, 0 ≤ y → y < 100 → 0 ≤ J5 96 y ∧ J5 96 y < 96 := by rw [f_J5 96 (by omega)]; exact hA_20
  have g96_J5 : J5 96 = I 96 := (f_J5 96 (by omega)).trans g96_J4
  refine WP.go 5 (And.intro rfl (Exists.intro 95 (And.intro hS.r90_12 (And.intro (And.intro rfl (And.intro (show 0 ≤ 1 from by omega) (show 1 < H.2.1 95 from by omega))) (?_)))))
  refine rw_i (Q := fun x9 => WP (Call d) 229 P X (52, [some (vr (some 90) 10), some (vi l), some (vi h9), some (vi y), none], [vi x9, vr (some 90) 10], (J5, H), 0, 0)) (show J5 95 1 = BRT μ (J0 96) (HTC μ (-1) tb9) h9 y y from (by rw [f_J5 95 (by omega), e_J4]; show J3 95 1 = _; rw [e_J3]; show J2 95 1 = _; rw [e_J2]; show J1 95 1 = _; rw [e_J1]; rfl)) ?_
  show WP (Call d) 229 P X (52, [some (vr (some 90) 10), some (vi l), some (vi h9), some (vi y), none], [vi (BRT μ (J0 96) (HTC μ (-1) tb9) h9 y y), vr (some 90) 10], (J5, H), 0, 0)
  have ih56 : ∀ (v5 : Int) (q5 : v5 = bz (BRT μ (J0 96) (HTC μ (-1) tb9) h9 y y = 0)), WP (Call d) 229 P X (56, [some (vr (some 90) 10), some (vi l), some (vi h9), some (vi y), none], [vi v5, vr (some 90) 10], (J5, H), 0, 0) := by
    intro v5 q5
    refine WP.go 1 (And.intro (And.intro rfl (by rw [q5]; exact bz_or _)) (?_))
    show WP (Call d) 229 P X (57, [some (vr (some 90) 10), some (vi l), some (vi h9), some (vi y), none], [], ((upI J5 90 14 v5), H), 0, 0)
    generalize hq_J6 : (upI J5 90 14 v5) = J6
    have e_J6 : J6 90 = (fun j => if j = 14 then v5 else J5 90 j) := by rw [← hq_J6]; exact upI_self _ _ _ _
    have f_J6 : ∀ a, a ≠ 90 → J6 a = J5 a := fun a q => by rw [← hq_J6]; exact upI_cell q
    have hM_25 : J6 91 = μ := (f_J6 91 (by omega)).trans hM_21
    have h_26 : J6 90 29 = -1 := by rw [e_J6]; exact h_22
    have h_27 : J6 90 30 = tb9 := by rw [e_J6]; exact h_23
    have hA_28 : ∀ y, 0 ≤ y → y < 100 → 0 ≤ J6 96 y ∧ J6 96 y < 96 := by rw [f_J6 96 (by omega)]; exact hA_24
    have g96_J6 : J6 96 = I 96 := (f_J6 96 (by omega)).trans g96_J5
    refine WP.go 5 (And.intro (And.intro (Nat.le_of_ble_eq_true rfl) (Nat.le_of_ble_eq_true rfl)) (And.intro rfl (?_)))
    show Call d 225 [vr (some 90) 10, vi h9, vi y] (J6, H) _ _
    refine s_12_isInWind (by omega) hS hM_25 hV hA_28 (by omega) (by omega) ?_
    show WP (Call d) 229 P X (62, [some (vr (some 90) 10), some (vi l), some (vi h9), some (vi y), none], [vi (bz (WDYp μ (J6 96) (HTC μ (-1) 0) h9 y)), vr (some 90) 10], (J6, H), 0, 0)
    refine WP.go 1 (And.intro (And.intro rfl (bz_or _)) (?_))
    show WP (Call d) 229 P X (63, [some (vr (some 90) 10), some (vi l), some (vi h9), some (vi y), none], [], ((upI J6 90 15 (bz (WDYp μ (J6 96) (HTC μ (-1) 0) h9 y))), H), 0, 0)
    generalize hq_J7 : (upI J6 90 15 (bz (WDYp μ (J6 96) (HTC μ (-1) 0) h9 y))) = J7
    have e_J7 : J7 90 = (fun j => if j = 15 then (bz (WDYp μ (J6 96) (HTC μ (-1) 0) h9 y)) else J6 90 j) := by rw [← hq_J7]; exact upI_self _ _ _ _
    have f_J7 : ∀ a, a ≠ 90 → J7 a = J6 a := fun a q => by rw [← hq_J7]; exact upI_cell q
    have hM_29 : J7 91 = μ := (f_J7 91 (by omega)).trans hM_25
    have h_30 : J7 90 29 = -1 := by rw [e_J7]; exact h_26
    have h_31 : J7 90 30 = tb9 := by rw [e_J7]; exact h_27
    have hA_32 : ∀ y, 0 ≤ y → y < 100 → 0 ≤ J7 96 y ∧ J7 96 y < 96 := by rw [f_J7 96 (by omega)]; exact hA_28
    have g96_J7 : J7 96 = I 96 := (f_J7 96 (by omega)).trans g96_J6
    refine WP.go 21 (And.intro (And.intro rfl (Or.inl rfl)) (And.intro rfl (And.intro rfl (And.intro (And.intro rfl trivial) (Exists.intro (401 * l) (And.intro (wrp_a (by omega) (by omega)) (Exists.intro (546 + (401 * l)) (And.intro (wrp_a (by omega) (by omega)) (Exists.intro ((546 + (401 * l)) + 1) (And.intro (wrp_a (by omega) (by omega)) (And.intro (And.intro rfl trivial) (?_))))))))))))
    show WP (Call d) 229 P X (84, [some (vr (some 90) 10), some (vi l), some (vi h9), some (vi y), some (vi (J7 90 10))], [], ((upI (upI (upI (upI J7 90 16 0) 90 17 0) 90 10 (-1)) 90 7 ((546 + (401 * l)) + 1)), H), 0, 0)
    generalize hq_J8 : (upI (upI (upI (upI J7 90 16 0) 90 17 0) 90 10 (-1)) 90 7 ((546 + (401 * l)) + 1)) = J8
    have e_J8 : J8 90 = (fun j => if j = 7 then ((546 + (401 * l)) + 1) else (upI (upI (upI J7 90 16 0) 90 17 0) 90 10 (-1)) 90 j) := by rw [← hq_J8]; exact upI_self _ _ _ _
    have f_J8 : ∀ a, a ≠ 90 → J8 a = (upI (upI (upI J7 90 16 0) 90 17 0) 90 10 (-1)) a := fun a q => by rw [← hq_J8]; exact upI_cell q
    have hM_33 : J8 91 = μ := by rw [f_J8 91 (by omega), upI_cell (by omega), upI_cell (by omega), upI_cell (by omega)]; exact hM_29
    have hfr8 : FR J8 (FC μ h9 y) := by
      refine ⟨fun j q0 q1 => ?_, ?_, ?_, ?_⟩
      · rw [f_J8 95 (by omega), upI_cell (by omega), upI_cell (by omega), upI_cell (by omega), f_J7 95 (by omega), f_J6 95 (by omega), f_J5 95 (by omega), e_J4, e_J3, e_J2, e_J1, e_J0]
        unfold FC
        rw [if_pos (by omega), ← FCT_congr (eA y (by omega) (by omega)) (HT_i hV tb9) j]
        have hj : j = 0 ∨ j = 1 ∨ j = 2 ∨ j = 3 ∨ j = 4 := by omega
        rcases hj with rfl | rfl | rfl | rfl | rfl
        · rfl
        · show BRT μ (J0 96) (HTC μ (-1) tb9) h9 y y = LGH μ (I 96) (HTC μ (-1) tb9) h9 y
          rw [g96_J0, BRT_1]
        · rfl
        · show J2 96 y = I 96 y
          rw [g96_J2]
        · show LVL μ (J3 96) (μ (120 + 2 * h9)) y + 8 = LVL μ (I 96) (μ (120 + 2 * h9)) y + 8
          rw [g96_J3]
      · rw [e_J8]
        show J7 90 13 = _
        rw [e_J7]
        show J6 90 13 = _
        rw [e_J6]
        show J5 90 13 = _
        rw [e_J5]
        show bz (NOONp μ (J4 96) (HTC μ (-1) tb9) h9 y) = FC μ h9 y 5
        rw [g96_J4]
        unfold FC
        rw [if_pos (by omega), ← FCT_congr (eA y (by omega) (by omega)) (HT_i hV tb9) 5]
        rfl
      · rw [e_J8]
        show J7 90 14 = _
        rw [e_J7]
        show J6 90 14 = _
        rw [e_J6]
        show v5 = FC μ h9 y 6
        rw [q5, g96_J0, BRT_1]
        unfold FC
        rw [if_pos (by omega), ← FCT_congr (eA y (by omega) (by omega)) (HT_i hV tb9) 6]
        rfl
      · rw [e_J8]
        show J7 90 15 = _
        rw [e_J7]
        show bz (WDYp μ (J6 96) (HTC μ (-1) 0) h9 y) = FC μ h9 y 7
        rw [g96_J6, show bz (WDYp μ (I 96) (HTC μ (-1) 0) h9 y) = bz (WDYp μ (I 96) (HTC μ (-1) tb9) h9 y) from bz_c (WDYp_congr rfl (fun c q0 q1 => (HT_i hV tb9 c q0 q1).symm))]
        unfold FC
        rw [if_pos (by omega), ← FCT_congr (eA y (by omega) (by omega)) (HT_i hV tb9) 7]
        rfl
    refine WP.go 8 (And.intro rfl (Exists.intro 91 (And.intro hS.r90_1 (And.intro rfl (Exists.intro ((J8 90 7) - 1) (And.intro (wrp_a (by omega) (by omega)) (And.intro (And.intro rfl (And.intro (show 0 ≤ (J8 90 7) - 1 from by omega) (show (J8 90 7) - 1 < H.2.1 91 from by omega))) (?_))))))))
    refine rw_i (Q := fun x9 => WP (Call d) 229 P X (92, [some (vr (some 90) 10), some (vi l), some (vi h9), some (vi y), some (vi (J7 90 10))], [vi x9, vr (some 90) 10], (J8, H), 0, 0)) (show J8 91 ((J8 90 7) - 1) = n from (congrFun hM_33 _).trans (by rw [show (546 + 401 * l + 1) - 1 = 546 + 401 * l by omega]; exact hn9)) ?_
    show WP (Call d) 229 P X (92, [some (vr (some 90) 10), some (vi l), some (vi h9), some (vi y), some (vi (J7 90 10))], [vi n, vr (some 90) 10], (J8, H), 0, 0)
    refine WP.go 1 (And.intro (And.intro rfl trivial) (?_))
    show WP (Call d) 229 P X (93, [some (vr (some 90) 10), some (vi l), some (vi h9), some (vi y), some (vi (J7 90 10))], [], ((upI J8 90 8 n), H), 0, 0)
    generalize hq_J9 : (upI J8 90 8 n) = J9
    have e_J9 : J9 90 = (fun j => if j = 8 then n else J8 90 j) := by rw [← hq_J9]; exact upI_self _ _ _ _
    have f_J9 : ∀ a, a ≠ 90 → J9 a = J8 a := fun a q => by rw [← hq_J9]; exact upI_cell q
    have k9 : ∀ s, s ≠ 8 → J9 90 s = J8 90 s := fun s q => by rw [e_J9]; exact if_neg q
    have ka : ∀ a, a ≠ 90 → J9 a = J8 a := f_J9
    have j7 : J9 90 7 = 547 + 401 * l := by rw [k9 7 (by omega), e_J8]; show 546 + 401 * l + 1 = 547 + 401 * l; omega
    have hL : LTX J9 tb n := ⟨by rw [e_J9]; rfl, hnn, hby, .inr ⟨by rw [j7]; omega, by rw [j7]; omega, fun j q0 q1 => by rw [j7, ka 91 (by omega), hM_33]; exact htb9 j q0 q1⟩⟩
    have hF : J9 90 10 = -1 := by rw [k9 10 (by omega), e_J8]; rfl
    have hfr9 : FR J9 (FC μ h9 y) := by have w := hfr8; unfold FR at *; rw [ka 95 (by omega), k9 13 (by omega), k9 14 (by omega), k9 15 (by omega)]; exact w
    have h179 : J9 90 17 = 0 := by rw [k9 17 (by omega), e_J8]; rfl
    have h169 : J9 90 16 = 0 := by rw [k9 16 (by omega), e_J8]; rfl
    refine WP.go 3 (And.intro (And.intro (Nat.le_of_ble_eq_true rfl) (Nat.le_of_ble_eq_true rfl)) (And.intro rfl (?_)))
    show Call d 196 [vr (some 90) 10, vi 1] (J9, H) _ _
    refine s_12_lines_1 (by omega) hS hL hF hfr9 hFB9 h179 h169 (by omega) (fun J95 f95 e95 w95 m95 => ?_)
    show WP (Call d) 229 P X (96, [some (vr (some 90) 10), some (vi l), some (vi h9), some (vi y), some (vi (J7 90 10))], [], (J95, H), 0, 0)
    have hw := w95 hU
    have hJ7 : ∀ s, s = 0 ∨ s = 3 ∨ s = 6 ∨ s = 10 ∨ (18 ≤ s ∧ s ≤ 40) → J7 90 s = I 90 s := fun s q => by
      rw [e_J7]
      refine (if_neg (by omega)).trans ?_
      rw [e_J6]
      refine (if_neg (by omega)).trans ?_
      rw [e_J5]
      refine (if_neg (by omega)).trans ?_
      rw [f_J4 90 (by omega), f_J3 90 (by omega), f_J2 90 (by omega), f_J1 90 (by omega), f_J0 90 (by omega)]
    have hans : RNT μ h9 y (lnT tb n (lln tb n) ls0).2.1 = if (lnT tb n (lln tb n) ls0).2.2.2 (FC μ h9 y) = 0 then mx 0 ((lnT tb n (lln tb n) ls0).2.2.1 (FC μ h9 y)) else 0 := by unfold RNT; rw [hlg.1]; rfl
    have hsb := hlg.2.1
    have hvb := hlg.2.2
    refine WP.go 5 (And.intro (And.intro rfl trivial) (And.intro rfl (?_)))
    refine rw_i (Q := fun x9 => WP (Call d) 229 P X (101, [some (vr (some 90) 10), some (vi l), some (vi h9), some (vi y), some (vi (J7 90 10))], [vi x9], ((upI J95 90 10 (J7 90 10)), H), 0, 0)) hw.2 ?_
    show WP (Call d) 229 P X (101, [some (vr (some 90) 10), some (vi l), some (vi h9), some (vi y), some (vi (J7 90 10))], [vi (vd ((lnT tb n (lln tb n) ls0).2.2.2 (FC μ h9 y)) 0)], ((upI J95 90 10 (J7 90 10)), H), 0, 0)
    refine WP.go 1 (And.intro (fun (b101 : ¬ vd ((lnT tb n (lln tb n) ls0).2.2.2 (FC μ h9 y)) 0 = 0) => ?_) (fun (b101 : vd ((lnT tb n (lln tb n) ls0).2.2.2 (FC μ h9 y)) 0 = 0) => ?_))
    ·
      show WP (Call d) 229 P X (107, [some (vr (some 90) 10), some (vi l), some (vi h9), some (vi y), some (vi (J7 90 10))], [], ((upI J95 90 10 (J7 90 10)), H), 0, 0)
      refine WP.go 3 (And.intro (And.intro (Nat.le_of_ble_eq_true rfl) (Nat.le_of_ble_eq_true rfl)) (And.intro trivial (?_)))
      show P (some (vi 0)) ((upI J95 90 10 (J7 90 10)), H)
      E0
    ·
      show WP (Call d) 229 P X (102, [some (vr (some 90) 10), some (vi l), some (vi h9), some (vi y), some (vi (J7 90 10))], [], ((upI J95 90 10 (J7 90 10)), H), 0, 0)
      refine WP.go 2 (And.intro rfl (?_))
      refine rw_i (Q := fun x9 => WP (Call d) 229 P X (104, [some (vr (some 90) 10), some (vi l), some (vi h9), some (vi y), some (vi (J7 90 10))], [vl x9], ((upI J95 90 10 (J7 90 10)), H), 0, 0)) hw.1 ?_
      show WP (Call d) 229 P X (104, [some (vr (some 90) 10), some (vi l), some (vi h9), some (vi y), some (vi (J7 90 10))], [vl (0 + (lnT tb n (lln tb n) ls0).2.2.1 (FC μ h9 y))], ((upI J95 90 10 (J7 90 10)), H), 0, 0)
      refine WP.go 3 (And.intro (fun (b106 : ¬ zcmp (0 + (lnT tb n (lln tb n) ls0).2.2.1 (FC μ h9 y)) 0 < 0) => ?_) (fun (b106 : zcmp (0 + (lnT tb n (lln tb n) ls0).2.2.1 (FC μ h9 y)) 0 < 0) => ?_))
      ·
        show WP (Call d) 229 P X (109, [some (vr (some 90) 10), some (vi l), some (vi h9), some (vi y), some (vi (J7 90 10))], [], ((upI J95 90 10 (J7 90 10)), H), 0, 0)
        refine WP.go 2 (And.intro rfl (?_))
        refine rw_i (Q := fun x9 => WP (Call d) 229 P X (111, [some (vr (some 90) 10), some (vi l), some (vi h9), some (vi y), some (vi (J7 90 10))], [vl x9], ((upI J95 90 10 (J7 90 10)), H), 0, 0)) hw.1 ?_
        show WP (Call d) 229 P X (111, [some (vr (some 90) 10), some (vi l), some (vi h9), some (vi y), some (vi (J7 90 10))], [vl (0 + (lnT tb n (lln tb n) ls0).2.2.1 (FC μ h9 y))], ((upI J95 90 10 (J7 90 10)), H), 0, 0)
        refine WP.go 2 (And.intro (And.intro (by omega) (by omega)) (And.intro (And.intro (Nat.le_of_ble_eq_true rfl) (Nat.le_of_ble_eq_true rfl)) (And.intro trivial (?_))))
        show P (some (vi (0 + (lnT tb n (lln tb n) ls0).2.2.1 (FC μ h9 y)))) ((upI J95 90 10 (J7 90 10)), H)
        E1
      ·
        show WP (Call d) 229 P X (107, [some (vr (some 90) 10), some (vi l), some (vi h9), some (vi y), some (vi (J7 90 10))], [], ((upI J95 90 10 (J7 90 10)), H), 0, 0)
        refine WP.go 3 (And.intro (And.intro (Nat.le_of_ble_eq_true rfl) (Nat.le_of_ble_eq_true rfl)) (And.intro trivial (?_)))
        show P (some (vi 0)) ((upI J95 90 10 (J7 90 10)), H)
        E2
  refine WP.go 1 (And.intro (fun (b52 : ¬ BRT μ (J0 96) (HTC μ (-1) tb9) h9 y y = 0) => ?_) (fun (b52 : BRT μ (J0 96) (HTC μ (-1) tb9) h9 y y = 0) => ?_))
  ·
    show WP (Call d) 229 P X (55, [some (vr (some 90) 10), some (vi l), some (vi h9), some (vi y), none], [vr (some 90) 10], (J5, H), 0, 0)
    refine WP.go 1 ?_
    show WP (Call d) 229 P X (56, [some (vr (some 90) 10), some (vi l), some (vi h9), some (vi y), none], [vi 0, vr (some 90) 10], (J5, H), 0, 0)
    exact ih56 0 (zero_bz b52)
  ·
    show WP (Call d) 229 P X (53, [some (vr (some 90) 10), some (vi l), some (vi h9), some (vi y), none], [vr (some 90) 10], (J5, H), 0, 0)
    refine WP.go 2 ?_
    show WP (Call d) 229 P X (56, [some (vr (some 90) 10), some (vi l), some (vi h9), some (vi y), none], [vi 1, vr (some 90) 10], (J5, H), 0, 0)
    exact ih56 1 (one_bz b52)

