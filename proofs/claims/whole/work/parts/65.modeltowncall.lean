theorem tln_hi {tb : Int → Int} {n p j : Int} {μ : Int → Int} (hV : IM μ) (hj : j < 0 ∨ 230 ≤ j) : (tln tb n p μ).2.1 j = μ j := by
  have n1 := hV.n1
  have n2 := hV.n2
  unfold tln
  split
  · rfl
  · rename_i q
    split
    · unfold thou
      split
      · rfl
      · split
        · rfl
        · exact uHou_o _ _ _ (by omega) j (by omega)
    · split
      · unfold twin
        split
        · rfl
        · split
          · rfl
          · split
            · rfl
            · exact uWin_o _ _ _ _ (by omega) j (by omega)
      · split
        · unfold twnd
          split
          · rfl
          · split
            · rfl
            · split
              · rfl
              · exact uWnd_o _ _ _ _ j (by omega)
        · by_cases w : 0 ≤ th tb n (nx tb n p) ∧ th tb n (nx tb n p) ≤ (if th tb n p = 1003 then 20 else 95)
          · rw [tdia_2 w]; exact uDia_o _ _ _ j (by omega)
          · rw [tdia_1 w]
theorem tln_hq {tb : Int → Int} {n : Int} {μ : Int → Int} (hV : IM μ) : ∀ j, j < 0 ∨ 230 ≤ j → (lnT tb n (tln tb n) μ).2 j = μ j :=
  (lnT_inv (fun c => IM c ∧ ∀ j, j < 0 ∨ 230 ≤ j → c j = μ j) (fun p c h => ⟨tln_im h.1, fun j w => (tln_hi h.1 w).trans (h.2 j w)⟩) (tb := tb) (n := n) (ln := tln tb n) ⟨hV, fun _ _ => rfl⟩).2
/-- the reference's tape is used up, the wrong byte told, its row is ν -/
def MW2 (I J : qI) (w : Int) (ν : Int → Int) : Prop := (∀ a, a < 90 ∨ a = 92 ∨ a = 94 ∨ a = 95 ∨ 100 ≤ a → J a = I a) ∧ (∀ s, s = 3 ∨ s = 17 ∨ (13 ≤ s ∧ s ≤ 15) → J 90 s = I 90 s) ∧ J 90 6 = 0 ∧ J 90 10 = w ∧ MS J ∧ J 91 = ν
theorem s_12_lines_0 {d : Nat} {P : Option qV → qH → Prop} {X : Nat → qH → Prop} {I : qI} {H : qS} {μ : Int → Int} (hd : 62 ≤ d) {tb : Int → Int} {n : Int} (hS : Shp H) (hL : LTX I tb n) (hF : I 90 10 = -1) (hM : I 91 = μ) (hV : IM μ) (h7 : I 90 7 = -1) (h : ∀ J : qI, FT I J → J 90 10 = (lnT tb n (tln tb n) μ).1 → ((lnT tb n (tln tb n) μ).1 = -1 → J 91 = (lnT tb n (tln tb n) μ).2) → ((lnT tb n (tln tb n) μ).1 ≠ -1 → (∀ j, j < 0 ∨ 230 ≤ j → J 91 j = μ j)) → P none (J, H)) :
    Call d 196 [vr (some 90) 10, vi 0] (I, H) P X := by
  obtain ⟨d, rfl⟩ : ∃ e, d = e + 1 := ⟨d - 1, by omega⟩
  have hn := hL.2.1
  have hu := FT.rf I
  show WP (Call d) 196 P X (0, [some (vr (some 90) 10), some (vi 0), none, none], [], (I, H), 0, 0)
  refine WP.go 3 (And.intro (And.intro rfl trivial) (?_))
  show WP (Call d) 196 P X (3, [some (vr (some 90) 10), some (vi 0), none, none], [], ((upI I 90 9 0), H), 0, 0)
  generalize hq_A0 : (upI I 90 9 0) = A0
  have e_A0 : A0 90 = (fun j => if j = 9 then 0 else I 90 j) := by rw [← hq_A0]; exact upI_self _ _ _ _
  have f_A0 : ∀ a, a ≠ 90 → A0 a = I a := fun a q => by rw [← hq_A0]; exact upI_cell q
  have hu_1 : FT I A0 := hu.o (.inl rfl) e_A0 f_A0
  have hM_2 : A0 91 = μ := (f_A0 91 (by omega)).trans hM
  refine WP.go 3 (And.intro (And.intro rfl trivial) (?_))
  show WP (Call d) 196 P X (6, [some (vr (some 90) 10), some (vi 0), none, none], [], ((upI A0 90 11 0), H), 0, 0)
  generalize hq_A1 : (upI A0 90 11 0) = A1
  have e_A1 : A1 90 = (fun j => if j = 11 then 0 else A0 90 j) := by rw [← hq_A1]; exact upI_self _ _ _ _
  have f_A1 : ∀ a, a ≠ 90 → A1 a = A0 a := fun a q => by rw [← hq_A1]; exact upI_cell q
  have hu_3 : FT I A1 := hu_1.o (.inr (.inr rfl)) e_A1 f_A1
  have hL_4 : LTX A1 tb n := hL.f0 h7 hu_3
  have hF_5 : A1 90 10 = -1 := by rw [e_A1]; show A0 90 10 = -1; rw [e_A0]; exact hF
  have h_6 : A1 90 7 = -1 := by rw [e_A1]; show A0 90 7 = -1; rw [e_A0]; exact h7
  have a19 : A1 90 9 = 0 := by rw [e_A1]; show A0 90 9 = 0; rw [e_A0]; rfl
  have hR_7 : RAT A1 tb n (sk tb n 0) := ⟨by rw [a19]; omega, by rw [a19]⟩
  have hM_8 : A1 91 = μ := (f_A1 91 (by omega)).trans hM_2
  refine WP.go 2 (And.intro (And.intro (Nat.le_of_ble_eq_true rfl) (Nat.le_of_ble_eq_true rfl)) (And.intro rfl (?_)))
  show Call d 189 [vr (some 90) 10] (A1, H) _ _
  refine s_12_skip (by omega) hS hL_4 hR_7 (fun J7 e7 f7 => ?_)
  show WP (Call d) 196 P X (8, [some (vr (some 90) 10), some (vi 0), none, none], [], (J7, H), 0, 0)
  have hL_9 : LTX J7 tb n := f7.lt hL_4
  have h_10 : J7 90 9 = (sk tb n 0) := e7
  have hR_11 : RAT J7 tb n (sk tb n 0) := RAT.of hR_7.bd e7
  have hu_12 : FT I J7 := hu_3.n f7
  have hF_13 : J7 90 10 = _ := (f7.1 10 (by omega)).trans hF_5
  have h_14 : J7 90 7 = -1 := (f7.1 7 (by omega)).trans h_6
  have hb_15 : 0 ≤ J7 90 9 ∧ J7 90 9 ≤ n := hR_11.1
  have hM_16 : J7 91 = _ := (f7.2 91 (by omega)).trans hM_8
  refine WP.go 1 ?_
  show WP (Call d) 196 P X (9, [some (vr (some 90) 10), some (vi 0), none, none], [vr (some 90) 10], (J7, H), 0, 0)
  have h8 : J7 90 8 = n := hL_9.1
  refine WP.go 1 (And.intro rfl (?_))
  refine rw_i (Q := fun x9 => WP (Call d) 196 P X (10, [some (vr (some 90) 10), some (vi 0), none, none], [vi x9], (J7, H), 0, 0)) h_10 ?_
  show WP (Call d) 196 P X (10, [some (vr (some 90) 10), some (vi 0), none, none], [vi (sk tb n 0)], (J7, H), 0, 0)
  refine WP.go 2 (And.intro rfl (?_))
  refine rw_i (Q := fun x9 => WP (Call d) 196 P X (12, [some (vr (some 90) 10), some (vi 0), none, none], [vi x9, vi (sk tb n 0)], (J7, H), 0, 0)) h8 ?_
  show WP (Call d) 196 P X (12, [some (vr (some 90) 10), some (vi 0), none, none], [vi n, vi (sk tb n 0)], (J7, H), 0, 0)
  refine WP.go 1 (And.intro (fun (b12 : ¬ (sk tb n 0) < n) => ?_) (fun (b12 : (sk tb n 0) < n) => ?_))
  ·
    show WP (Call d) 196 P X (15, [some (vr (some 90) 10), some (vi 0), none, none], [], (J7, H), 0, 0)
    refine WP.go 4 ?_
    show WP (Call d) 196 P X (19, [some (vr (some 90) 10), some (vi 0), some (vi 0), some (vi 0)], [], (J7, H), 0, 0)
    refine WP.go 2 (And.intro (fun (b20 : 0 = 0) => ?_) (fun (b20 : ¬ 0 = 0) => (absurd b20 (by omega))))
    show WP (Call d) 196 P X (79, [some (vr (some 90) 10), some (vi 0), some (vi 0), some (vi 0)], [], (J7, H), 0, 0)
    refine WP.go 1 (And.intro (And.intro (Nat.le_of_ble_eq_true rfl) (Nat.le_of_ble_eq_true rfl)) (?_))
    show P none (J7, H)
    have b9 := hR_11.bd
    have r9 : (lnT tb n (tln tb n) μ) = (-1, μ) := if_pos ((th_3000 b9.1 b9.2.1 hL_9.2.2.1).mpr (by omega))
    exact h _ hu_12 (by rw [r9]; exact hF_13) (fun _ => by rw [r9]; exact hM_16) (fun q => absurd (by rw [r9]) q)
  ·
    show WP (Call d) 196 P X (13, [some (vr (some 90) 10), some (vi 0), none, none], [], (J7, H), 0, 0)
    refine WP.go 5 ?_
    show WP (Call d) 196 P X (19, [some (vr (some 90) 10), some (vi 0), some (vi 1), some (vi 0)], [], (J7, H), 0, 0)
    have lp19 : ∀ (n9 : Nat) (K : qI) (i : Int) (c9 : Int → Int) (p9 : Int) (hm : 13 - i < (n9 : Int)) (kv0 : 0 ≤ i ∧ i ≤ 12) (kv1 : LTX K tb n) (kv2 : RAT K tb n p9) (kv3 : K 90 10 = -1) (kv4 : K 91 = c9) (kv5 : IM c9) (kv6 : FT I K) (kv7 : (lnT tb n (tln tb n) μ) = lnL tb n (tln tb n) (12 - i).toNat p9 c9) (kv8 : ∀ j, j < 0 ∨ 230 ≤ j → c9 j = μ j) (kv9 : K 90 7 = -1), WP (Call d) 196 P X (19, [some (vr (some 90) 10), some (vi 0), some (vi 1), some (vi i)], [], (K, H), 0, 0) := by
      intro n9
      induction n9 with
      | zero => intro K i c9 p9 hm kv0 kv1 kv2 kv3 kv4 kv5 kv6 kv7 kv8 kv9; exact absurd hm (by omega)
      | succ n9 ih19 =>
        intro K i c9 p9 hm kv0 kv1 kv2 kv3 kv4 kv5 kv6 kv7 kv8 kv9
        have hb29 := kv2.bd
        refine WP.go 2 (And.intro (fun (b20 : 1 = 0) => (absurd b20 (by omega))) (fun (b20 : ¬ 1 = 0) => ?_))
        show WP (Call d) 196 P X (21, [some (vr (some 90) 10), some (vi 0), some (vi 1), some (vi i)], [], (K, H), 0, 0)
        refine WP.go 2 (And.intro rfl (?_))
        refine rw_i (Q := fun x9 => WP (Call d) 196 P X (23, [some (vr (some 90) 10), some (vi 0), some (vi 1), some (vi i)], [vi x9], (K, H), 0, 0)) kv3 ?_
        show WP (Call d) 196 P X (23, [some (vr (some 90) 10), some (vi 0), some (vi 1), some (vi i)], [vi (-1)], (K, H), 0, 0)
        refine WP.go 2 (And.intro (fun (b24 : ¬ (-1) = (-1)) => (absurd b24 (by omega))) (fun (b24 : (-1) = (-1)) => ?_))
        show WP (Call d) 196 P X (25, [some (vr (some 90) 10), some (vi 0), some (vi 1), some (vi i)], [], (K, H), 0, 0)
        refine WP.go 2 (And.intro (And.intro (Nat.le_of_ble_eq_true rfl) (Nat.le_of_ble_eq_true rfl)) (And.intro rfl (?_)))
        show Call d 189 [vr (some 90) 10] (K, H) _ _
        refine s_12_skip (by omega) hS kv1 kv2 (fun J26 e26 f26 => ?_)
        show WP (Call d) 196 P X (27, [some (vr (some 90) 10), some (vi 0), some (vi 1), some (vi i)], [], (J26, H), 0, 0)
        have hL_17 : LTX J26 tb n := f26.lt kv1
        have h_18 : J26 90 9 = p9 := e26
        have hR_19 : RAT J26 tb n p9 := RAT.of kv2.bd e26
        have hu_20 : FT I J26 := kv6.n f26
        have hF_21 : J26 90 10 = _ := (f26.1 10 (by omega)).trans kv3
        have h_22 : J26 90 7 = -1 := (f26.1 7 (by omega)).trans kv9
        have hb_23 : 0 ≤ J26 90 9 ∧ J26 90 9 ≤ n := hR_19.1
        have hM_24 : J26 91 = _ := (f26.2 91 (by omega)).trans kv4
        refine WP.go 3 (And.intro (fun (b29 : ¬ i = 12) => ?_) (fun (b29 : i = 12) => ?_))
        ·
          show WP (Call d) 196 P X (35, [some (vr (some 90) 10), some (vi 0), some (vi 1), some (vi i)], [], (J26, H), 0, 0)
          refine WP.go 2 (And.intro (fun (b36 : ¬ 0 = 0) => (absurd b36 (by omega))) (fun (b36 : 0 = 0) => ?_))
          show WP (Call d) 196 P X (37, [some (vr (some 90) 10), some (vi 0), some (vi 1), some (vi i)], [], (J26, H), 0, 0)
          refine WP.go 2 (And.intro (And.intro (Nat.le_of_ble_eq_true rfl) (Nat.le_of_ble_eq_true rfl)) (And.intro rfl (?_)))
          show Call d 195 [vr (some 90) 10] (J26, H) _ _
          refine s_12_townLine (by omega) hS hM_24 kv5 hL_17 hR_19 hF_21 ⟨(fun q38 J38 f38 r38 e38 m38 => ?_), (fun q38_1 J38_1 f38_1 e38_1 b38 m38_1 => ?_)⟩
          ·
            show WP (Call d) 196 P X (39, [some (vr (some 90) 10), some (vi 0), some (vi 1), some (vi i)], [], (J38, H), 0, 0)
            have hL_25 : LTX J38 tb n := hL_17.f0 h_22 f38
            have h_26 : J38 90 7 = -1 := (f38.1 7 (by omega) (by omega) (by omega)).trans h_22
            have hR_27 : RAT J38 tb n (tln tb n p9 c9).2.2 := r38
            have hF_28 : J38 90 10 = -1 := e38
            have hu_29 : FT I J38 := hu_20.tr f38
            have q9 : (tln tb n p9 c9).1 = -1 := q38
            have hM_30 : J38 91 = _ := m38
            refine WP.go 4 (Exists.intro (i + 1) (And.intro (wrp_a (by omega) (by omega)) (And.intro (And.intro (Nat.le_of_ble_eq_true rfl) (Nat.le_of_ble_eq_true rfl)) (And.intro rfl (?_)))))
            show Call d 189 [vr (some 90) 10] (J38, H) _ _
            refine s_12_skip (by omega) hS hL_25 hR_27 (fun J50 e50 f50 => ?_)
            show WP (Call d) 196 P X (51, [some (vr (some 90) 10), some (vi 0), some (vi 1), some (vi (i + 1))], [], (J50, H), 0, 0)
            have hL_31 : LTX J50 tb n := f50.lt hL_25
            have h_32 : J50 90 9 = (tln tb n p9 c9).2.2 := e50
            have hR_33 : RAT J50 tb n (tln tb n p9 c9).2.2 := RAT.of hR_27.bd e50
            have hu_34 : FT I J50 := hu_29.n f50
            have hF_35 : J50 90 10 = _ := (f50.1 10 (by omega)).trans hF_28
            have h_36 : J50 90 7 = -1 := (f50.1 7 (by omega)).trans h_26
            have hb_37 : 0 ≤ J50 90 9 ∧ J50 90 9 ≤ n := hR_33.1
            have hM_38 : J50 91 = _ := (f50.2 91 (by omega)).trans hM_30
            refine WP.go 2 (And.intro rfl (?_))
            refine rw_i (Q := fun x9 => WP (Call d) 196 P X (53, [some (vr (some 90) 10), some (vi 0), some (vi 1), some (vi (i + 1))], [vi x9], (J50, H), 0, 0)) hF_35 ?_
            show WP (Call d) 196 P X (53, [some (vr (some 90) 10), some (vi 0), some (vi 1), some (vi (i + 1))], [vi (-1)], (J50, H), 0, 0)
            refine WP.go 2 (And.intro (fun (b54 : ¬ (-1) = (-1)) => (absurd b54 (by omega))) (fun (b54 : (-1) = (-1)) => ?_))
            show WP (Call d) 196 P X (55, [some (vr (some 90) 10), some (vi 0), some (vi 1), some (vi (i + 1))], [], (J50, H), 0, 0)
            refine WP.go 1 ?_
            show WP (Call d) 196 P X (56, [some (vr (some 90) 10), some (vi 0), some (vi 1), some (vi (i + 1))], [vr (some 90) 10], (J50, H), 0, 0)
            have h8 : J50 90 8 = n := hL_31.1
            have hpb := hR_33.bd
            have hte := th_3000 hpb.1 hpb.2.1 hL_31.2.2.1
            refine WP.go 1 (And.intro rfl (?_))
            refine rw_i (Q := fun x9 => WP (Call d) 196 P X (57, [some (vr (some 90) 10), some (vi 0), some (vi 1), some (vi (i + 1))], [vi x9], (J50, H), 0, 0)) h_32 ?_
            show WP (Call d) 196 P X (57, [some (vr (some 90) 10), some (vi 0), some (vi 1), some (vi (i + 1))], [vi ((tln tb n p9 c9).2.2)], (J50, H), 0, 0)
            refine WP.go 2 (And.intro rfl (?_))
            refine rw_i (Q := fun x9 => WP (Call d) 196 P X (59, [some (vr (some 90) 10), some (vi 0), some (vi 1), some (vi (i + 1))], [vi x9, vi ((tln tb n p9 c9).2.2)], (J50, H), 0, 0)) h8 ?_
            show WP (Call d) 196 P X (59, [some (vr (some 90) 10), some (vi 0), some (vi 1), some (vi (i + 1))], [vi n, vi ((tln tb n p9 c9).2.2)], (J50, H), 0, 0)
            refine WP.go 1 (And.intro (fun (b59 : ¬ (tln tb n p9 c9).2.2 = n) => ?_) (fun (b59 : (tln tb n p9 c9).2.2 = n) => ?_))
            ·
              show WP (Call d) 196 P X (63, [some (vr (some 90) 10), some (vi 0), some (vi 1), some (vi (i + 1))], [], (J50, H), 0, 0)
              refine WP.go 3 (And.intro (And.intro (Nat.le_of_ble_eq_true rfl) (Nat.le_of_ble_eq_true rfl)) (And.intro rfl (?_)))
              show Call d 190 [vr (some 90) 10, vi 59] (J50, H) _ _
              refine s_12_isSign (by omega) hS hL_31 hR_33 ⟨by omega, by unfold isL; omega, by unfold isD; omega⟩ (fun J65 e65 f65 => ?_)
              show WP (Call d) 196 P X (66, [some (vr (some 90) 10), some (vi 0), some (vi 1), some (vi (i + 1))], [vi (bz (th tb n (tln tb n p9 c9).2.2 = 2000 + 59))], (J65, H), 0, 0)
              have hL_39 : LTX J65 tb n := f65.lt hL_31
              have hR_40 : RAT J65 tb n (tln tb n p9 c9).2.2 := RAT.of hR_33.bd e65
              have h_41 : J65 90 9 = (tln tb n p9 c9).2.2 := e65
              have hu_42 : FT I J65 := hu_34.n f65
              have hF_43 : J65 90 10 = _ := (f65.1 10 (by omega)).trans hF_35
              have h_44 : J65 90 7 = -1 := (f65.1 7 (by omega)).trans h_36
              have hb_45 : 0 ≤ J65 90 9 ∧ J65 90 9 ≤ n := hR_40.1
              have hM_46 : J65 91 = _ := (f65.2 91 (by omega)).trans hM_38
              refine WP.go 1 (And.intro (fun (b66 : bz (th tb n (tln tb n p9 c9).2.2 = 2000 + 59) = 0) => ?_) (fun (b66 : ¬ bz (th tb n (tln tb n p9 c9).2.2 = 2000 + 59) = 0) => ?_))
              ·
                show WP (Call d) 196 P X (74, [some (vr (some 90) 10), some (vi 0), some (vi 1), some (vi (i + 1))], [], (J65, H), 0, 0)
                have z66 := bz_e0.mp b66
                refine WP.go 3 (And.intro rfl (?_))
                refine rw_i (Q := fun x9 => WP (Call d) 196 P X (77, [some (vr (some 90) 10), some (vi 0), some (vi 1), some (vi (i + 1))], [vi x9, vr (some 90) 10], (J65, H), 0, 0)) h_41 ?_
                show WP (Call d) 196 P X (77, [some (vr (some 90) 10), some (vi 0), some (vi 1), some (vi (i + 1))], [vi ((tln tb n p9 c9).2.2), vr (some 90) 10], (J65, H), 0, 0)
                refine WP.go 1 (And.intro (And.intro (Nat.le_of_ble_eq_true rfl) (Nat.le_of_ble_eq_true rfl)) (And.intro rfl (?_)))
                show Call d 192 [vr (some 90) 10, vi ((tln tb n p9 c9).2.2)] (J65, H) _ _
                refine s_12_wrong (by omega) hF_43 (fun J77 e77 f77 => ?_)
                show WP (Call d) 196 P X (78, [some (vr (some 90) 10), some (vi 0), some (vi 1), some (vi (i + 1))], [], (J77, H), 0, 0)
                have hF_47 : J77 90 10 = ((tln tb n p9 c9).2.2) := by rw [e77]; rfl
                have hu_48 : FT I J77 := hu_42.o (.inr (.inl rfl)) e77 f77
                have hL_49 : LTX J77 tb n := hL_39.fr (by rw [e77]; rfl) (by rw [e77]; rfl) (f77 94 (by omega)) (f77 91 (by omega))
                have hR_50 : RAT J77 tb n (tln tb n p9 c9).2.2 := hR_40.cp (by rw [e77]; rfl)
                have h_51 : J77 90 7 = -1 := by rw [e77]; exact h_44
                have hM_52 : J77 91 = _ := (f77 91 (by omega)).trans hM_46
                refine WP.go 1 ?_
                show WP (Call d) 196 P X (19, [some (vr (some 90) 10), some (vi 0), some (vi 1), some (vi (i + 1))], [], (J77, H), 0, 0)
                refine WP.go 2 (And.intro (fun (b20 : 1 = 0) => (absurd b20 (by omega))) (fun (b20 : ¬ 1 = 0) => ?_))
                show WP (Call d) 196 P X (21, [some (vr (some 90) 10), some (vi 0), some (vi 1), some (vi (i + 1))], [], (J77, H), 0, 0)
                refine WP.go 2 (And.intro rfl (?_))
                refine rw_i (Q := fun x9 => WP (Call d) 196 P X (23, [some (vr (some 90) 10), some (vi 0), some (vi 1), some (vi (i + 1))], [vi x9], (J77, H), 0, 0)) hF_47 ?_
                show WP (Call d) 196 P X (23, [some (vr (some 90) 10), some (vi 0), some (vi 1), some (vi (i + 1))], [vi ((tln tb n p9 c9).2.2)], (J77, H), 0, 0)
                refine WP.go 2 (And.intro (fun (b24 : ¬ ((tln tb n p9 c9).2.2) = (-1)) => ?_) (fun (b24 : ((tln tb n p9 c9).2.2) = (-1)) => (absurd b24 (by omega))))
                show WP (Call d) 196 P X (79, [some (vr (some 90) 10), some (vi 0), some (vi 1), some (vi (i + 1))], [], (J77, H), 0, 0)
                refine WP.go 1 (And.intro (And.intro (Nat.le_of_ble_eq_true rfl) (Nat.le_of_ble_eq_true rfl)) (?_))
                show P none (J77, H)
                have r9 : (lnT tb n (tln tb n) μ) = ((tln tb n p9 c9).2.2, (tln tb n p9 c9).2.1) := kv7.trans (by rw [lnL_s (by omega), if_neg (fun z => z q9), if_neg (fun z => b59 (hte.mp z)), if_neg (show ¬ th tb n (tln tb n p9 c9).2.2 = 2059 from z66)])
                exact h _ hu_48 (by rw [r9]; exact hF_47) (fun q => absurd q (by rw [r9]; show (tln tb n p9 c9).2.2 ≠ -1; omega)) (fun _ j w => by rw [hM_52]; exact (tln_hi kv5 w).trans (kv8 j w))
              ·
                show WP (Call d) 196 P X (67, [some (vr (some 90) 10), some (vi 0), some (vi 1), some (vi (i + 1))], [], (J65, H), 0, 0)
                have z66 := bz_e1.mp b66
                refine WP.go 3 (And.intro rfl (?_))
                refine rw_i (Q := fun x9 => WP (Call d) 196 P X (70, [some (vr (some 90) 10), some (vi 0), some (vi 1), some (vi (i + 1))], [vi x9, vr (some 90) 10], (J65, H), 0, 0)) h_41 ?_
                show WP (Call d) 196 P X (70, [some (vr (some 90) 10), some (vi 0), some (vi 1), some (vi (i + 1))], [vi ((tln tb n p9 c9).2.2), vr (some 90) 10], (J65, H), 0, 0)
                refine WP.go 3 (Exists.intro (((tln tb n p9 c9).2.2) + 1) (And.intro (wrp_a (by omega) (by omega)) (And.intro (And.intro rfl trivial) (?_))))
                show WP (Call d) 196 P X (73, [some (vr (some 90) 10), some (vi 0), some (vi 1), some (vi (i + 1))], [], ((upI J65 90 9 (((tln tb n p9 c9).2.2) + 1)), H), 0, 0)
                generalize hq_B0 : (upI J65 90 9 (((tln tb n p9 c9).2.2) + 1)) = B0
                have e_B0 : B0 90 = (fun j => if j = 9 then (((tln tb n p9 c9).2.2) + 1) else J65 90 j) := by rw [← hq_B0]; exact upI_self _ _ _ _
                have f_B0 : ∀ a, a ≠ 90 → B0 a = J65 a := fun a q => by rw [← hq_B0]; exact upI_cell q
                have hu_53 : FT I B0 := hu_42.o (.inl rfl) e_B0 f_B0
                have hL_54 : LTX B0 tb n := hL_39.fr (by rw [e_B0]; rfl) (by rw [e_B0]; rfl) (f_B0 94 (by omega)) (f_B0 91 (by omega))
                have hF_55 : B0 90 10 = -1 := by rw [e_B0]; exact hF_43
                have h_56 : B0 90 7 = -1 := by rw [e_B0]; exact h_44
                have b99 : B0 90 9 = (tln tb n p9 c9).2.2 + 1 := by rw [e_B0]; rfl
                have s99 := nx_semi hpb.1 hpb.2.1 hL_54.2.2.1 (c := 59) ⟨by omega, by unfold isL; omega, by unfold isD; omega⟩ z66
                have hR_57 : RAT B0 tb n (nx tb n (tln tb n p9 c9).2.2) := ⟨by rw [b99]; omega, by rw [b99]; exact s99.2.symm⟩
                have hM_58 : B0 91 = _ := (f_B0 91 (by omega)).trans hM_46
                refine WP.go 1 ?_
                show WP (Call d) 196 P X (19, [some (vr (some 90) 10), some (vi 0), some (vi 1), some (vi (i + 1))], [], (B0, H), 0, 0)
                exact ih19 B0 (i + 1) ((tln tb n p9 c9).2.1) (nx tb n (tln tb n p9 c9).2.2) (by omega) (by omega) hL_54 hR_57 hF_55 hM_58 (tln_im kv5) hu_53 (kv7.trans (by rw [lnL_s (by omega), if_neg (fun z => z q9), if_neg (fun z => b59 (hte.mp z)), if_pos (show th tb n (tln tb n p9 c9).2.2 = 2059 from z66)])) (fun j w => (tln_hi kv5 w).trans (kv8 j w)) h_56
            ·
              show WP (Call d) 196 P X (60, [some (vr (some 90) 10), some (vi 0), some (vi 1), some (vi (i + 1))], [], (J50, H), 0, 0)
              refine WP.go 3 ?_
              show WP (Call d) 196 P X (19, [some (vr (some 90) 10), some (vi 0), some (vi 0), some (vi (i + 1))], [], (J50, H), 0, 0)
              refine WP.go 2 (And.intro (fun (b20 : 0 = 0) => ?_) (fun (b20 : ¬ 0 = 0) => (absurd b20 (by omega))))
              show WP (Call d) 196 P X (79, [some (vr (some 90) 10), some (vi 0), some (vi 0), some (vi (i + 1))], [], (J50, H), 0, 0)
              refine WP.go 1 (And.intro (And.intro (Nat.le_of_ble_eq_true rfl) (Nat.le_of_ble_eq_true rfl)) (?_))
              show P none (J50, H)
              have r9 : (lnT tb n (tln tb n) μ) = (-1, (tln tb n p9 c9).2.1) := kv7.trans (by rw [lnL_s (by omega), if_neg (fun z => z q9), if_pos (hte.mpr b59)])
              exact h _ hu_34 (by rw [r9]; exact hF_35) (fun _ => by rw [r9]; exact hM_38) (fun q => absurd (by rw [r9]) q)
          ·
            show WP (Call d) 196 P X (39, [some (vr (some 90) 10), some (vi 0), some (vi 1), some (vi i)], [], (J38_1, H), 0, 0)
            have hL_59 : LTX J38_1 tb n := hL_17.f0 h_22 f38_1
            have h_60 : J38_1 90 7 = -1 := (f38_1.1 7 (by omega) (by omega) (by omega)).trans h_22
            have hF_61 : J38_1 90 10 = (tln tb n p9 c9).1 := e38_1
            have hu_62 : FT I J38_1 := hu_20.tr f38_1
            have hR_63 : RAT J38_1 tb n (sk tb n (J38_1 90 9)) := ⟨b38, rfl⟩
            have q9 : (tln tb n p9 c9).1 ≠ -1 := q38_1
            have hi_64 : ∀ j, j < 0 ∨ 230 ≤ j → J38_1 91 j = c9 j := m38_1
            refine WP.go 4 (Exists.intro (i + 1) (And.intro (wrp_a (by omega) (by omega)) (And.intro (And.intro (Nat.le_of_ble_eq_true rfl) (Nat.le_of_ble_eq_true rfl)) (And.intro rfl (?_)))))
            show Call d 189 [vr (some 90) 10] (J38_1, H) _ _
            refine s_12_skip (by omega) hS hL_59 hR_63 (fun J50_1 e50_1 f50_1 => ?_)
            show WP (Call d) 196 P X (51, [some (vr (some 90) 10), some (vi 0), some (vi 1), some (vi (i + 1))], [], (J50_1, H), 0, 0)
            have hL_65 : LTX J50_1 tb n := f50_1.lt hL_59
            have h_66 : J50_1 90 9 = (sk tb n (J38_1 90 9)) := e50_1
            have hR_67 : RAT J50_1 tb n (sk tb n (J38_1 90 9)) := RAT.of hR_63.bd e50_1
            have hu_68 : FT I J50_1 := hu_62.n f50_1
            have hF_69 : J50_1 90 10 = _ := (f50_1.1 10 (by omega)).trans hF_61
            have h_70 : J50_1 90 7 = -1 := (f50_1.1 7 (by omega)).trans h_60
            have hb_71 : 0 ≤ J50_1 90 9 ∧ J50_1 90 9 ≤ n := hR_67.1
            have hi_72 : ∀ j, j < 0 ∨ 230 ≤ j → J50_1 91 j = c9 j := by rw [f50_1.2 91 (by omega)]; exact hi_64
            refine WP.go 2 (And.intro rfl (?_))
            refine rw_i (Q := fun x9 => WP (Call d) 196 P X (53, [some (vr (some 90) 10), some (vi 0), some (vi 1), some (vi (i + 1))], [vi x9], (J50_1, H), 0, 0)) hF_69 ?_
            show WP (Call d) 196 P X (53, [some (vr (some 90) 10), some (vi 0), some (vi 1), some (vi (i + 1))], [vi ((tln tb n p9 c9).1)], (J50_1, H), 0, 0)
            refine WP.go 2 (And.intro (fun (b54 : ¬ (tln tb n p9 c9).1 = (-1)) => ?_) (fun (b54 : (tln tb n p9 c9).1 = (-1)) => (absurd b54 (by omega))))
            show WP (Call d) 196 P X (60, [some (vr (some 90) 10), some (vi 0), some (vi 1), some (vi (i + 1))], [], (J50_1, H), 0, 0)
            refine WP.go 3 ?_
            show WP (Call d) 196 P X (19, [some (vr (some 90) 10), some (vi 0), some (vi 0), some (vi (i + 1))], [], (J50_1, H), 0, 0)
            refine WP.go 2 (And.intro (fun (b20 : 0 = 0) => ?_) (fun (b20 : ¬ 0 = 0) => (absurd b20 (by omega))))
            show WP (Call d) 196 P X (79, [some (vr (some 90) 10), some (vi 0), some (vi 0), some (vi (i + 1))], [], (J50_1, H), 0, 0)
            refine WP.go 1 (And.intro (And.intro (Nat.le_of_ble_eq_true rfl) (Nat.le_of_ble_eq_true rfl)) (?_))
            show P none (J50_1, H)
            have r9 : (lnT tb n (tln tb n) μ) = ((tln tb n p9 c9).1, (tln tb n p9 c9).2.1) := kv7.trans (by rw [lnL_s (by omega), if_pos q9])
            exact h _ hu_68 (by rw [r9]; exact hF_69) (fun q => absurd q (by rw [r9]; exact q9)) (fun _ j w => (hi_72 j w).trans (kv8 j w))
        ·
          show WP (Call d) 196 P X (30, [some (vr (some 90) 10), some (vi 0), some (vi 1), some (vi i)], [], (J26, H), 0, 0)
          refine WP.go 3 (And.intro rfl (?_))
          refine rw_i (Q := fun x9 => WP (Call d) 196 P X (33, [some (vr (some 90) 10), some (vi 0), some (vi 1), some (vi i)], [vi x9, vr (some 90) 10], (J26, H), 0, 0)) h_18 ?_
          show WP (Call d) 196 P X (33, [some (vr (some 90) 10), some (vi 0), some (vi 1), some (vi i)], [vi p9, vr (some 90) 10], (J26, H), 0, 0)
          refine WP.go 1 (And.intro (And.intro (Nat.le_of_ble_eq_true rfl) (Nat.le_of_ble_eq_true rfl)) (And.intro rfl (?_)))
          show Call d 192 [vr (some 90) 10, vi p9] (J26, H) _ _
          refine s_12_wrong (by omega) hF_21 (fun J33 e33 f33 => ?_)
          show WP (Call d) 196 P X (34, [some (vr (some 90) 10), some (vi 0), some (vi 1), some (vi i)], [], (J33, H), 0, 0)
          have hF_73 : J33 90 10 = p9 := by rw [e33]; rfl
          have hu_74 : FT I J33 := hu_20.o (.inr (.inl rfl)) e33 f33
          have hL_75 : LTX J33 tb n := hL_17.fr (by rw [e33]; rfl) (by rw [e33]; rfl) (f33 94 (by omega)) (f33 91 (by omega))
          have hR_76 : RAT J33 tb n p9 := hR_19.cp (by rw [e33]; rfl)
          have h_77 : J33 90 7 = -1 := by rw [e33]; exact h_22
          have hM_78 : J33 91 = _ := (f33 91 (by omega)).trans hM_24
          refine WP.go 4 (Exists.intro (i + 1) (And.intro (wrp_a (by omega) (by omega)) (And.intro (And.intro (Nat.le_of_ble_eq_true rfl) (Nat.le_of_ble_eq_true rfl)) (And.intro rfl (?_)))))
          show Call d 189 [vr (some 90) 10] (J33, H) _ _
          refine s_12_skip (by omega) hS hL_75 hR_76 (fun J50_2 e50_2 f50_2 => ?_)
          show WP (Call d) 196 P X (51, [some (vr (some 90) 10), some (vi 0), some (vi 1), some (vi (i + 1))], [], (J50_2, H), 0, 0)
          have hL_79 : LTX J50_2 tb n := f50_2.lt hL_75
          have h_80 : J50_2 90 9 = p9 := e50_2
          have hR_81 : RAT J50_2 tb n p9 := RAT.of hR_76.bd e50_2
          have hu_82 : FT I J50_2 := hu_74.n f50_2
          have hF_83 : J50_2 90 10 = _ := (f50_2.1 10 (by omega)).trans hF_73
          have h_84 : J50_2 90 7 = -1 := (f50_2.1 7 (by omega)).trans h_77
          have hb_85 : 0 ≤ J50_2 90 9 ∧ J50_2 90 9 ≤ n := hR_81.1
          have hM_86 : J50_2 91 = _ := (f50_2.2 91 (by omega)).trans hM_78
          refine WP.go 2 (And.intro rfl (?_))
          refine rw_i (Q := fun x9 => WP (Call d) 196 P X (53, [some (vr (some 90) 10), some (vi 0), some (vi 1), some (vi (i + 1))], [vi x9], (J50_2, H), 0, 0)) hF_83 ?_
          show WP (Call d) 196 P X (53, [some (vr (some 90) 10), some (vi 0), some (vi 1), some (vi (i + 1))], [vi p9], (J50_2, H), 0, 0)
          refine WP.go 2 (And.intro (fun (b54 : ¬ p9 = (-1)) => ?_) (fun (b54 : p9 = (-1)) => (absurd b54 (by omega))))
          show WP (Call d) 196 P X (60, [some (vr (some 90) 10), some (vi 0), some (vi 1), some (vi (i + 1))], [], (J50_2, H), 0, 0)
          refine WP.go 3 ?_
          show WP (Call d) 196 P X (19, [some (vr (some 90) 10), some (vi 0), some (vi 0), some (vi (i + 1))], [], (J50_2, H), 0, 0)
          refine WP.go 2 (And.intro (fun (b20 : 0 = 0) => ?_) (fun (b20 : ¬ 0 = 0) => (absurd b20 (by omega))))
          show WP (Call d) 196 P X (79, [some (vr (some 90) 10), some (vi 0), some (vi 0), some (vi (i + 1))], [], (J50_2, H), 0, 0)
          refine WP.go 1 (And.intro (And.intro (Nat.le_of_ble_eq_true rfl) (Nat.le_of_ble_eq_true rfl)) (?_))
          show P none (J50_2, H)
          have b9 := kv2.bd
          have r9 : (lnT tb n (tln tb n) μ) = (p9, c9) := kv7.trans (lnL_0 (by omega))
          exact h _ hu_82 (by rw [r9]; exact hF_83) (fun q => absurd q (by rw [r9]; show p9 ≠ -1; omega)) (fun _ j w => by rw [hM_86]; exact kv8 j w)
    exact lp19 ((13 - 0 : Int).toNat + 1) J7 0 μ (sk tb n 0) (by omega) (by omega) hL_9 hR_11 hF_13 hM_16 hV hu_12 (if_neg (fun q => by have b := hR_11.bd; have := (th_3000 b.1 b.2.1 hL_9.2.2.1).mp q; omega)) (fun _ _ => rfl) h_14

theorem s_12_town {d : Nat} {P : Option qV → qH → Prop} {X : Nat → qH → Prop} {I : qI} {H : qS} {μ : Int → Int} (hd : 63 ≤ d) {tb : Int → Int} {n : Int} (hS : Shp H) (hM : I 91 = μ) (hV : IM μ) (hK : MS I) (h6 : I 90 6 = n) (hnn : 0 ≤ n ∧ n ≤ 400) (hby : ∀ j, 0 ≤ j → j < n → 0 ≤ tb j ∧ tb j ≤ 255) (hta : ∀ j, 0 ≤ j → j < n → I 94 j = tb j) (h : (((lnT tb n (tln tb n) μ).1 = -1 → μ 0 < 12 → ∀ J : qI, MW2 I J (-1) (uTex (lnT tb n (tln tb n) μ).2) → J 90 0 = 0 → P (some (vi (1 + (lnT tb n (tln tb n) μ).2 0))) (J, H)) ∧ ((lnT tb n (tln tb n) μ).1 ≠ -1 → ∀ J : qI, MW2 I J (lnT tb n (tln tb n) μ).1 μ → J 90 0 = 1 → P (some (vi 0)) (J, H)) ∧ ((lnT tb n (tln tb n) μ).1 = -1 → ¬ μ 0 < 12 → ∀ J : qI, MW2 I J (-1) μ → J 90 0 = 2 → P (some (vi 0)) (J, H)))) :
    Call d 197 [vr (some 90) 10] (I, H) P X := by
  obtain ⟨d, rfl⟩ : ∃ e, d = e + 1 := ⟨d - 1, by omega⟩
  have hl91 := hS.l91
  have hl93 := hS.l93
  have hn0 := hV.n0
  have hU0 := (tln_q (tb := tb) (n := n) hV).2
  have hUi := tln_hq (tb := tb) (n := n) hV
  show WP (Call d) 197 P X (0, [some (vr (some 90) 10), none], [], (I, H), 0, 0)
  refine WP.go 2 ?_
  show WP (Call d) 197 P X (2, [some (vr (some 90) 10), some (vi 0)], [], (I, H), 0, 0)
  have lp2 : ∀ (n9 : Nat) (K : qI) (k : Int) (hm : 230 - k < (n9 : Int)) (av0 : 0 ≤ k ∧ k ≤ 230) (av1 : ∀ j, 0 ≤ j → j < k → K 93 j = μ j) (av2 : ∀ a, a ≠ 93 → K a = I a), WP (Call d) 197 P X (2, [some (vr (some 90) 10), some (vi k)], [], (K, H), 0, 0) := by
    intro n9
    induction n9 with
    | zero => intro K k hm av0 av1 av2; exact absurd hm (by omega)
    | succ n9 ih2 =>
      intro K k hm av0 av1 av2
      have hMk : K 91 = μ := (av2 91 (by omega)).trans hM
      have h6k : K 90 6 = n := (congrFun (av2 90 (by omega)) 6).trans h6
      refine WP.go 3 (And.intro (fun (b4 : ¬ k < 230) => ?_) (fun (b4 : k < 230) => ?_))
      ·
        show WP (Call d) 197 P X (15, [some (vr (some 90) 10), some (vi k)], [], (K, H), 0, 0)
        refine WP.go 9 (And.intro (And.intro rfl trivial) (And.intro (And.intro rfl trivial) (And.intro rfl (?_))))
        refine rw_i (Q := fun x9 => WP (Call d) 197 P X (24, [some (vr (some 90) 10), some (vi k)], [vi x9, vr (some 90) 10], ((upI (upI K 90 10 (-1)) 90 7 (-1)), H), 0, 0)) h6k ?_
        show WP (Call d) 197 P X (24, [some (vr (some 90) 10), some (vi k)], [vi n, vr (some 90) 10], ((upI (upI K 90 10 (-1)) 90 7 (-1)), H), 0, 0)
        refine WP.go 1 (And.intro (And.intro rfl trivial) (?_))
        show WP (Call d) 197 P X (25, [some (vr (some 90) 10), some (vi k)], [], ((upI (upI (upI K 90 10 (-1)) 90 7 (-1)) 90 8 n), H), 0, 0)
        generalize hq_J1 : (upI (upI (upI K 90 10 (-1)) 90 7 (-1)) 90 8 n) = J1
        have e_J1 : J1 90 = (fun j => if j = 8 then n else (upI (upI K 90 10 (-1)) 90 7 (-1)) 90 j) := by rw [← hq_J1]; exact upI_self _ _ _ _
        have f_J1 : ∀ a, a ≠ 90 → J1 a = (upI (upI K 90 10 (-1)) 90 7 (-1)) a := fun a q => by rw [← hq_J1]; exact upI_cell q
        have c90 : ∀ s, s ≠ 7 → s ≠ 8 → s ≠ 10 → J1 90 s = I 90 s := fun s q7 q8 q10 => by rw [e_J1]; refine (if_neg q8).trans ?_; rw [upI_at (.inr q7), upI_at (.inr q10), av2 90 (by omega)]
        have ca : ∀ a, a ≠ 90 → J1 a = K a := fun a q => by rw [f_J1 a q, upI_cell q, upI_cell q]
        have hL : LTX J1 tb n := ⟨by rw [e_J1]; rfl, hnn, hby, .inl ⟨by rw [e_J1]; rfl, fun j q0 q1 => by rw [ca 94 (by omega), av2 94 (by omega)]; exact hta j q0 q1⟩⟩
        have hF : J1 90 10 = -1 := by rw [e_J1]; rfl
        have h7 : J1 90 7 = -1 := by rw [e_J1]; rfl
        have hM_1 : J1 91 = μ := (ca 91 (by omega)).trans hMk
        refine WP.go 3 (And.intro (And.intro (Nat.le_of_ble_eq_true rfl) (Nat.le_of_ble_eq_true rfl)) (And.intro rfl (?_)))
        show Call d 196 [vr (some 90) 10, vi 0] (J1, H) _ _
        refine s_12_lines_0 (by omega) hS hL hF hM_1 hV h7 (fun J27 f27 e27 w27 m27 => ?_)
        show WP (Call d) 197 P X (28, [some (vr (some 90) 10), some (vi k)], [], (J27, H), 0, 0)
        have d27 : ∀ s, s ≠ 7 → s ≠ 8 → s ≠ 9 → s ≠ 10 → s ≠ 11 → J27 90 s = I 90 s := fun s q7 q8 q9 q10 q11 => (f27.1 s q9 q10 q11).trans (c90 s q7 q8 q10)
        have dc : ∀ a, a ≠ 90 → a ≠ 91 → a ≠ 93 → J27 a = I a := fun a q1 q2 q3 => by rw [f27.2 a q1 q2, ca a q1, av2 a q3]
        have hi27 : ∀ j, j < 0 ∨ 230 ≤ j → J27 91 j = μ j := fun j w => by
          rcases Classical.em ((lnT tb n (tln tb n) μ).1 = -1) with z | z
          · rw [w27 z]; exact hUi j w
          · exact m27 z j w
        refine WP.go 6 (And.intro (And.intro rfl trivial) (And.intro rfl (?_)))
        refine rw_i (Q := fun x9 => WP (Call d) 197 P X (34, [some (vr (some 90) 10), some (vi k)], [vi x9, vr (some 90) 10], ((upI J27 90 6 0), H), 0, 0)) e27 ?_
        show WP (Call d) 197 P X (34, [some (vr (some 90) 10), some (vi k)], [vi ((lnT tb n (tln tb n) μ).1), vr (some 90) 10], ((upI J27 90 6 0), H), 0, 0)
        refine WP.go 2 (And.intro (fun (b35 : (lnT tb n (tln tb n) μ).1 = (-1)) => ?_) (fun (b35 : ¬ (lnT tb n (tln tb n) μ).1 = (-1)) => ?_))
        ·
          show WP (Call d) 197 P X (38, [some (vr (some 90) 10), some (vi k)], [vr (some 90) 10], ((upI J27 90 6 0), H), 0, 0)
          have hM27 : J27 91 = (lnT tb n (tln tb n) μ).2 := w27 b35
          refine WP.go 4 (And.intro rfl (Exists.intro 91 (And.intro hS.r90_1 (And.intro (And.intro rfl (And.intro (show 0 ≤ 0 from by omega) (show 0 < H.2.1 91 from by omega))) (?_)))))
          refine rw_i (Q := fun x9 => WP (Call d) 197 P X (42, [some (vr (some 90) 10), some (vi k)], [vi x9, vr (some 90) 10], ((upI J27 90 6 0), H), 0, 0)) (show (upI J27 90 6 0) 91 0 = μ 0 from (congrFun hM27 0).trans hU0) ?_
          show WP (Call d) 197 P X (42, [some (vr (some 90) 10), some (vi k)], [vi (μ 0), vr (some 90) 10], ((upI J27 90 6 0), H), 0, 0)
          refine WP.go 2 (And.intro (fun (b43 : ¬ μ 0 = 12) => ?_) (fun (b43 : μ 0 = 12) => ?_))
          ·
            show WP (Call d) 197 P X (46, [some (vr (some 90) 10), some (vi k)], [vr (some 90) 10], ((upI J27 90 6 0), H), 0, 0)
            refine WP.go 5 (And.intro (And.intro rfl trivial) (And.intro rfl (And.intro (fun (b50 : ¬ 0 < 0) => ?_) (fun (b50 : 0 < 0) => (absurd b50 (by omega))))))
            show WP (Call d) 197 P X (68, [some (vr (some 90) 10), some (vi k)], [], ((upI (upI J27 90 6 0) 90 0 0), H), 0, 0)
            refine WP.go 5 (And.intro rfl (Exists.intro 91 (And.intro hS.r90_1 (And.intro (And.intro rfl (And.intro (show 0 ≤ 0 from by omega) (show 0 < H.2.1 91 from by omega))) (?_)))))
            refine rw_i (Q := fun x9 => WP (Call d) 197 P X (73, [some (vr (some 90) 10), some (vi k)], [vi x9, vi 0, vr (some 91) 11], ((upI (upI J27 90 6 0) 90 0 0), H), 0, 0)) (show (upI (upI J27 90 6 0) 90 0 0) 91 0 = μ 0 from (congrFun hM27 0).trans hU0) ?_
            show WP (Call d) 197 P X (73, [some (vr (some 90) 10), some (vi k)], [vi (μ 0), vi 0, vr (some 91) 11], ((upI (upI J27 90 6 0) 90 0 0), H), 0, 0)
            refine WP.go 3 (Exists.intro ((μ 0) + 1) (And.intro (wrp_a (by omega) (by omega)) (And.intro (And.intro rfl (And.intro (show 0 ≤ 0 from by omega) (show 0 < H.2.1 91 from by omega))) (?_))))
            show WP (Call d) 197 P X (76, [some (vr (some 90) 10), some (vi k)], [], ((upI (upI (upI J27 90 6 0) 90 0 0) 91 0 ((μ 0) + 1)), H), 0, 0)
            generalize hq_J3 : (upI (upI (upI J27 90 6 0) 90 0 0) 91 0 ((μ 0) + 1)) = J3
            have e_J3 : J3 91 = (fun j => if j = 0 then ((μ 0) + 1) else (upI (upI J27 90 6 0) 90 0 0) 91 j) := by rw [← hq_J3]; exact upI_self _ _ _ _
            have f_J3 : ∀ a, a ≠ 91 → J3 a = (upI (upI J27 90 6 0) 90 0 0) a := fun a q => by rw [← hq_J3]; exact upI_cell q
            have d93 : ∀ s, s ≠ 0 → s ≠ 6 → s ≠ 7 → s ≠ 8 → s ≠ 9 → s ≠ 10 → s ≠ 11 → J3 90 s = I 90 s := fun s q0 q6 q7 q8 q9 q10 q11 => by rw [f_J3 90 (by omega), upI_at (.inr q0), upI_at (.inr q6)]; exact d27 s q7 q8 q9 q10 q11
            refine WP.go 4 (And.intro rfl (Exists.intro 91 (And.intro hS.r90_1 (And.intro (And.intro rfl (And.intro (show 0 ≤ 0 from by omega) (show 0 < H.2.1 91 from by omega))) (?_)))))
            refine rw_i (Q := fun x9 => WP (Call d) 197 P X (80, [some (vr (some 90) 10), some (vi k)], [vi x9], (J3, H), 0, 0)) (show J3 91 0 = μ 0 + 1 from (congrFun e_J3 0).trans (if_pos rfl)) ?_
            show WP (Call d) 197 P X (80, [some (vr (some 90) 10), some (vi k)], [vi (μ 0 + 1)], (J3, H), 0, 0)
            refine WP.go 1 (And.intro (And.intro (Nat.le_of_ble_eq_true rfl) (Nat.le_of_ble_eq_true rfl)) (And.intro trivial (?_)))
            show P (some (vi (μ 0 + 1))) (J3, H)
            exact fin_i (by omega) (h.1 b35 (by omega) _ ⟨fun a q => by rw [f_J3 a (by omega), upI_cell (by omega), upI_cell (by omega)]; exact dc a (by omega) (by omega) (by omega), fun s q => d93 s (by omega) (by omega) (by omega) (by omega) (by omega) (by omega) (by omega), by rw [f_J3 90 (by omega)]; rfl, by rw [f_J3 90 (by omega)]; exact e27.trans b35, by unfold MS at *; rw [show J3 90 22 = I 90 22 from d93 22 (by omega) (by omega) (by omega) (by omega) (by omega) (by omega) (by omega), show J3 90 23 = I 90 23 from d93 23 (by omega) (by omega) (by omega) (by omega) (by omega) (by omega) (by omega), show J3 90 29 = I 90 29 from d93 29 (by omega) (by omega) (by omega) (by omega) (by omega) (by omega) (by omega), show J3 90 30 = I 90 30 from d93 30 (by omega) (by omega) (by omega) (by omega) (by omega) (by omega) (by omega)]; exact hK, by
                rw [e_J3]
                refine funext fun j => ?_
                show (if j = 0 then μ 0 + 1 else J27 91 j) = (if j = 0 then 1 + (lnT tb n (tln tb n) μ).2 0 else (lnT tb n (tln tb n) μ).2 j)
                rw [hM27, hU0, Int.add_comm]⟩ (by rw [f_J3 90 (by omega)]; rfl))
          ·
            show WP (Call d) 197 P X (44, [some (vr (some 90) 10), some (vi k)], [vr (some 90) 10], ((upI J27 90 6 0), H), 0, 0)
            refine WP.go 6 (And.intro (And.intro rfl trivial) (And.intro rfl (And.intro (fun (b50 : ¬ 0 < 2) => (absurd b50 (by omega))) (fun (b50 : 0 < 2) => ?_))))
            show WP (Call d) 197 P X (51, [some (vr (some 90) 10), some (vi k)], [], ((upI (upI J27 90 6 0) 90 0 2), H), 0, 0)
            generalize hq_J2 : (upI (upI J27 90 6 0) 90 0 2) = J2
            have e_J2 : J2 90 = (fun j => if j = 0 then 2 else (upI J27 90 6 0) 90 j) := by rw [← hq_J2]; exact upI_self _ _ _ _
            have f_J2 : ∀ a, a ≠ 90 → J2 a = (upI J27 90 6 0) a := fun a q => by rw [← hq_J2]; exact upI_cell q
            have d90 : ∀ s, s ≠ 0 → s ≠ 6 → s ≠ 7 → s ≠ 8 → s ≠ 9 → s ≠ 10 → s ≠ 11 → J2 90 s = I 90 s := fun s q0 q6 q7 q8 q9 q10 q11 => by rw [e_J2]; refine (if_neg q0).trans ?_; rw [upI_at (.inr q6)]; exact d27 s q7 q8 q9 q10 q11
            refine WP.go 2 ?_
            show WP (Call d) 197 P X (53, [some (vr (some 90) 10), some (vi 0)], [], (J2, H), 0, 0)
            have lp53 : ∀ (n9 : Nat) (L : qI) (k2 : Int) (hm : 230 - k2 < (n9 : Int)) (iv0 : 0 ≤ k2 ∧ k2 ≤ 230) (iv1 : ∀ j, 0 ≤ j → j < k2 → L 91 j = μ j) (iv2 : ∀ a, a ≠ 91 → L a = J2 a) (iv3 : ∀ j, j < 0 ∨ k2 ≤ j → L 91 j = J2 91 j), WP (Call d) 197 P X (53, [some (vr (some 90) 10), some (vi k2)], [], (L, H), 0, 0) := by
              intro n9
              induction n9 with
              | zero => intro L k2 hm iv0 iv1 iv2 iv3; exact absurd hm (by omega)
              | succ n9 ih53 =>
                intro L k2 hm iv0 iv1 iv2 iv3
                refine WP.go 3 (And.intro (fun (b55 : ¬ k2 < 230) => ?_) (fun (b55 : k2 < 230) => ?_))
                ·
                  show WP (Call d) 197 P X (66, [some (vr (some 90) 10), some (vi k2)], [], (L, H), 0, 0)
                  refine WP.go 2 (And.intro (And.intro (Nat.le_of_ble_eq_true rfl) (Nat.le_of_ble_eq_true rfl)) (And.intro trivial (?_)))
                  show P (some (vi 0)) (L, H)
                  exact h.2.2 b35 (by omega) _ ⟨fun a q => by rw [iv2 a (by omega), f_J2 a (by omega), upI_cell (by omega)]; exact dc a (by omega) (by omega) (by omega), fun s q => (congrFun (iv2 90 (by omega)) s).trans (d90 s (by omega) (by omega) (by omega) (by omega) (by omega) (by omega) (by omega)), (congrFun (iv2 90 (by omega)) 6).trans (by rw [e_J2]; rfl), (congrFun (iv2 90 (by omega)) 10).trans (by rw [e_J2]; exact (e27.trans b35)), by unfold MS at *; rw [show L 90 22 = I 90 22 from (congrFun (iv2 90 (by omega)) 22).trans (d90 22 (by omega) (by omega) (by omega) (by omega) (by omega) (by omega) (by omega)), show L 90 23 = I 90 23 from (congrFun (iv2 90 (by omega)) 23).trans (d90 23 (by omega) (by omega) (by omega) (by omega) (by omega) (by omega) (by omega)), show L 90 29 = I 90 29 from (congrFun (iv2 90 (by omega)) 29).trans (d90 29 (by omega) (by omega) (by omega) (by omega) (by omega) (by omega) (by omega)), show L 90 30 = I 90 30 from (congrFun (iv2 90 (by omega)) 30).trans (d90 30 (by omega) (by omega) (by omega) (by omega) (by omega) (by omega) (by omega))]; exact hK, funext fun j => by
                      rcases Classical.em (0 ≤ j ∧ j < 230) with w | w
                      · exact iv1 j w.1 (by omega)
                      · rw [iv3 j (by omega), f_J2 91 (by omega), upI_cell (by omega)]; exact hi27 j (by omega)⟩ ((congrFun (iv2 90 (by omega)) 0).trans (by rw [e_J2]; rfl))
                ·
                  show WP (Call d) 197 P X (56, [some (vr (some 90) 10), some (vi k2)], [], (L, H), 0, 0)
                  refine WP.go 7 (And.intro rfl (Exists.intro 91 (And.intro hS.r90_1 (And.intro rfl (Exists.intro 93 (And.intro hS.r90_4 (And.intro (And.intro rfl (And.intro (show 0 ≤ k2 from by omega) (show k2 < H.2.1 93 from by omega))) (?_))))))))
                  refine rw_i (Q := fun x9 => WP (Call d) 197 P X (63, [some (vr (some 90) 10), some (vi k2)], [vi x9, vi k2, vr (some 91) 11], (L, H), 0, 0)) (show L 93 k2 = μ k2 from (by rw [iv2 93 (by omega), f_J2 93 (by omega), upI_cell (by omega), f27.2 93 (by omega) (by omega), ca 93 (by omega)]; exact av1 k2 (by omega) (by omega))) ?_
                  show WP (Call d) 197 P X (63, [some (vr (some 90) 10), some (vi k2)], [vi (μ k2), vi k2, vr (some 91) 11], (L, H), 0, 0)
                  refine WP.go 3 (And.intro (And.intro rfl (And.intro (show 0 ≤ k2 from by omega) (show k2 < H.2.1 91 from by omega))) (Exists.intro (k2 + 1) (And.intro (wrp_a (by omega) (by omega)) (?_))))
                  show WP (Call d) 197 P X (53, [some (vr (some 90) 10), some (vi (k2 + 1))], [], ((upI L 91 k2 (μ k2)), H), 0, 0)
                  exact ih53 (upI L 91 k2 (μ k2)) (k2 + 1) (by omega) (by omega) (cp_s (upI_self _ _ _ _) iv1 rfl) (fun a q => (upI_cell q).trans (iv2 a q)) (fun j w => (upI_at (.inr (by omega))).trans (iv3 j (by omega)))
            exact lp53 ((230 - 0 : Int).toNat + 1) J2 0 (by omega) (by omega) (fun j q1 q2 => by omega) (fun _ _ => rfl) (fun _ _ => rfl)
        ·
          show WP (Call d) 197 P X (36, [some (vr (some 90) 10), some (vi k)], [vr (some 90) 10], ((upI J27 90 6 0), H), 0, 0)
          refine WP.go 6 (And.intro (And.intro rfl trivial) (And.intro rfl (And.intro (fun (b50 : ¬ 0 < 1) => (absurd b50 (by omega))) (fun (b50 : 0 < 1) => ?_))))
          show WP (Call d) 197 P X (51, [some (vr (some 90) 10), some (vi k)], [], ((upI (upI J27 90 6 0) 90 0 1), H), 0, 0)
          generalize hq_J2 : (upI (upI J27 90 6 0) 90 0 1) = J2
          have e_J2 : J2 90 = (fun j => if j = 0 then 1 else (upI J27 90 6 0) 90 j) := by rw [← hq_J2]; exact upI_self _ _ _ _
          have f_J2 : ∀ a, a ≠ 90 → J2 a = (upI J27 90 6 0) a := fun a q => by rw [← hq_J2]; exact upI_cell q
          have d90 : ∀ s, s ≠ 0 → s ≠ 6 → s ≠ 7 → s ≠ 8 → s ≠ 9 → s ≠ 10 → s ≠ 11 → J2 90 s = I 90 s := fun s q0 q6 q7 q8 q9 q10 q11 => by rw [e_J2]; refine (if_neg q0).trans ?_; rw [upI_at (.inr q6)]; exact d27 s q7 q8 q9 q10 q11
          refine WP.go 2 ?_
          show WP (Call d) 197 P X (53, [some (vr (some 90) 10), some (vi 0)], [], (J2, H), 0, 0)
          have lp53 : ∀ (n9 : Nat) (L : qI) (k2 : Int) (hm : 230 - k2 < (n9 : Int)) (iv0 : 0 ≤ k2 ∧ k2 ≤ 230) (iv1 : ∀ j, 0 ≤ j → j < k2 → L 91 j = μ j) (iv2 : ∀ a, a ≠ 91 → L a = J2 a) (iv3 : ∀ j, j < 0 ∨ k2 ≤ j → L 91 j = J2 91 j), WP (Call d) 197 P X (53, [some (vr (some 90) 10), some (vi k2)], [], (L, H), 0, 0) := by
            intro n9
            induction n9 with
            | zero => intro L k2 hm iv0 iv1 iv2 iv3; exact absurd hm (by omega)
            | succ n9 ih53 =>
              intro L k2 hm iv0 iv1 iv2 iv3
              refine WP.go 3 (And.intro (fun (b55 : ¬ k2 < 230) => ?_) (fun (b55 : k2 < 230) => ?_))
              ·
                show WP (Call d) 197 P X (66, [some (vr (some 90) 10), some (vi k2)], [], (L, H), 0, 0)
                refine WP.go 2 (And.intro (And.intro (Nat.le_of_ble_eq_true rfl) (Nat.le_of_ble_eq_true rfl)) (And.intro trivial (?_)))
                show P (some (vi 0)) (L, H)
                exact h.2.1 b35 _ ⟨fun a q => by rw [iv2 a (by omega), f_J2 a (by omega), upI_cell (by omega)]; exact dc a (by omega) (by omega) (by omega), fun s q => (congrFun (iv2 90 (by omega)) s).trans (d90 s (by omega) (by omega) (by omega) (by omega) (by omega) (by omega) (by omega)), (congrFun (iv2 90 (by omega)) 6).trans (by rw [e_J2]; rfl), (congrFun (iv2 90 (by omega)) 10).trans (by rw [e_J2]; exact e27), by unfold MS at *; rw [show L 90 22 = I 90 22 from (congrFun (iv2 90 (by omega)) 22).trans (d90 22 (by omega) (by omega) (by omega) (by omega) (by omega) (by omega) (by omega)), show L 90 23 = I 90 23 from (congrFun (iv2 90 (by omega)) 23).trans (d90 23 (by omega) (by omega) (by omega) (by omega) (by omega) (by omega) (by omega)), show L 90 29 = I 90 29 from (congrFun (iv2 90 (by omega)) 29).trans (d90 29 (by omega) (by omega) (by omega) (by omega) (by omega) (by omega) (by omega)), show L 90 30 = I 90 30 from (congrFun (iv2 90 (by omega)) 30).trans (d90 30 (by omega) (by omega) (by omega) (by omega) (by omega) (by omega) (by omega))]; exact hK, funext fun j => by
                    rcases Classical.em (0 ≤ j ∧ j < 230) with w | w
                    · exact iv1 j w.1 (by omega)
                    · rw [iv3 j (by omega), f_J2 91 (by omega), upI_cell (by omega)]; exact hi27 j (by omega)⟩ ((congrFun (iv2 90 (by omega)) 0).trans (by rw [e_J2]; rfl))
              ·
                show WP (Call d) 197 P X (56, [some (vr (some 90) 10), some (vi k2)], [], (L, H), 0, 0)
                refine WP.go 7 (And.intro rfl (Exists.intro 91 (And.intro hS.r90_1 (And.intro rfl (Exists.intro 93 (And.intro hS.r90_4 (And.intro (And.intro rfl (And.intro (show 0 ≤ k2 from by omega) (show k2 < H.2.1 93 from by omega))) (?_))))))))
                refine rw_i (Q := fun x9 => WP (Call d) 197 P X (63, [some (vr (some 90) 10), some (vi k2)], [vi x9, vi k2, vr (some 91) 11], (L, H), 0, 0)) (show L 93 k2 = μ k2 from (by rw [iv2 93 (by omega), f_J2 93 (by omega), upI_cell (by omega), f27.2 93 (by omega) (by omega), ca 93 (by omega)]; exact av1 k2 (by omega) (by omega))) ?_
                show WP (Call d) 197 P X (63, [some (vr (some 90) 10), some (vi k2)], [vi (μ k2), vi k2, vr (some 91) 11], (L, H), 0, 0)
                refine WP.go 3 (And.intro (And.intro rfl (And.intro (show 0 ≤ k2 from by omega) (show k2 < H.2.1 91 from by omega))) (Exists.intro (k2 + 1) (And.intro (wrp_a (by omega) (by omega)) (?_))))
                show WP (Call d) 197 P X (53, [some (vr (some 90) 10), some (vi (k2 + 1))], [], ((upI L 91 k2 (μ k2)), H), 0, 0)
                exact ih53 (upI L 91 k2 (μ k2)) (k2 + 1) (by omega) (by omega) (cp_s (upI_self _ _ _ _) iv1 rfl) (fun a q => (upI_cell q).trans (iv2 a q)) (fun j w => (upI_at (.inr (by omega))).trans (iv3 j (by omega)))
          exact lp53 ((230 - 0 : Int).toNat + 1) J2 0 (by omega) (by omega) (fun j q1 q2 => by omega) (fun _ _ => rfl) (fun _ _ => rfl)
      ·
        show WP (Call d) 197 P X (5, [some (vr (some 90) 10), some (vi k)], [], (K, H), 0, 0)
        refine WP.go 7 (And.intro rfl (Exists.intro 93 (And.intro hS.r90_4 (And.intro rfl (Exists.intro 91 (And.intro hS.r90_1 (And.intro (And.intro rfl (And.intro (show 0 ≤ k from by omega) (show k < H.2.1 91 from by omega))) (?_))))))))
        refine rw_i (Q := fun x9 => WP (Call d) 197 P X (12, [some (vr (some 90) 10), some (vi k)], [vi x9, vi k, vr (some 93) 11], (K, H), 0, 0)) (congrFun hMk _) ?_
        show WP (Call d) 197 P X (12, [some (vr (some 90) 10), some (vi k)], [vi (μ k), vi k, vr (some 93) 11], (K, H), 0, 0)
        refine WP.go 3 (And.intro (And.intro rfl (And.intro (show 0 ≤ k from by omega) (show k < H.2.1 93 from by omega))) (Exists.intro (k + 1) (And.intro (wrp_a (by omega) (by omega)) (?_))))
        show WP (Call d) 197 P X (2, [some (vr (some 90) 10), some (vi (k + 1))], [], ((upI K 93 k (μ k)), H), 0, 0)
        exact ih2 (upI K 93 k (μ k)) (k + 1) (by omega) (by omega) (cp_s (upI_self _ _ _ _) av1 rfl) (fun a q => (upI_cell q).trans (av2 a q))
  exact lp2 ((230 - 0 : Int).toNat + 1) I 0 (by omega) (by omega) (fun j q1 q2 => by omega) (fun _ _ => rfl)

