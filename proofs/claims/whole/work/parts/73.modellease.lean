/-- but for the reader's place, fault and depth, all is as it was -/
def FA (I J : qI) : Prop := (∀ s, s ≠ 9 → s ≠ 10 → s ≠ 11 → J 90 s = I 90 s) ∧ (∀ a, a ≠ 90 → J a = I a)
theorem FA.rf (I : qI) : FA I I := ⟨fun _ _ _ _ => rfl, fun _ _ => rfl⟩
theorem FA.tr {I J K : qI} (h : FA I J) (g : FA J K) : FA I K := ⟨fun s a b c => (g.1 s a b c).trans (h.1 s a b c), fun a q => (g.2 a q).trans (h.2 a q)⟩
theorem FA.n {I J K : qI} (h : FA I J) (g : F9 J K) : FA I K := ⟨fun s a b c => (g.1 s a).trans (h.1 s a b c), fun a q => (g.2 a q).trans (h.2 a q)⟩
theorem FA.g {I J K : qI} (h : FA I J) (s : ∀ s, s ≠ 9 → s ≠ 10 → K 90 s = J 90 s) (f : ∀ a, a ≠ 90 → K a = J a) : FA I K := ⟨fun t a b c => (s t a b).trans (h.1 t a b c), fun a q => (f a q).trans (h.2 a q)⟩
theorem FA.o {I J K : qI} (h : FA I J) {s v : Int} (hs : s = 9 ∨ s = 10 ∨ s = 11) (e : K 90 = fun t => if t = s then v else J 90 t) (f : ∀ a, a ≠ 90 → K a = J a) : FA I K := ⟨fun t a b c => by rw [e]; exact (if_neg (by omega)).trans (h.1 t a b c), fun a q => (f a q).trans (h.2 a q)⟩
theorem FA.lt {I J : qI} {tb : Int → Int} {n : Int} (f : FA I J) (h : LTX I tb n) : LTX J tb n := h.fr (f.1 7 (by omega) (by omega) (by omega)) (f.1 8 (by omega) (by omega) (by omega)) (f.2 94 (by omega)) (f.2 91 (by omega))
theorem FA.z {I J : qI} {a b : Int} (h : FA I J) (e0 : I 90 10 = a) (e1 : J 90 10 = a) (g0 : I 90 11 = b) (g1 : J 90 11 = b) : F9 I J := ⟨fun s q => by
  by_cases z : s = 10
  · rw [z, e0, e1]
  · by_cases w : s = 11
    · rw [w, g0, g1]
    · exact h.1 s q z w, h.2⟩
/-- the reference's facts -/
def FR (I : qI) (F : Int → Int) : Prop := (∀ j, 0 ≤ j → j < 5 → I 95 j = F j) ∧ I 90 13 = F 5 ∧ I 90 14 = F 6 ∧ I 90 15 = F 7
theorem FA.fr {I J : qI} {F : Int → Int} (f : FA I J) (h : FR I F) : FR J F := by
  unfold FR at *
  rw [f.2 95 (by omega), f.1 13 (by omega) (by omega) (by omega), f.1 14 (by omega) (by omega) (by omega), f.1 15 (by omega) (by omega) (by omega)]
  exact h
theorem s_12_factAt {d : Nat} {P : Option qV → qH → Prop} {X : Nat → qH → Prop} {I : qI} {H : qS} (hd : 4 ≤ d) {tb : Int → Int} {n p dk : Int} (hS : Shp H) (hL : LTX I tb n) (hR : RAT I tb n p) (hF : I 90 10 = -1) (h11 : I 90 11 = dk) (h : ((1016 ≤ th tb n p ∧ th tb n p ≤ 1020) → ∀ J : qI, RAT J tb n (nx tb n p) → F9 I J → P (some (vi (th tb n p - 1016))) (J, H)) ∧ (¬ (1016 ≤ th tb n p ∧ th tb n p ≤ 1020) → ∀ J : qI, J 90 9 = p → F9 I J → P (some (vi (-1))) (J, H))) :
    Call d 198 [vr (some 90) 10] (I, H) P X := by
  obtain ⟨d, rfl⟩ : ∃ e, d = e + 1 := ⟨d - 1, by omega⟩
  have hu := FA.rf I
  have hpb := hR.bd
  have hb := hR.1
  have hn := hL.2.1
  show WP (Call d) 198 P X (0, [some (vr (some 90) 10)], [], (I, H), 0, 0)
  refine WP.go 3 (And.intro (And.intro (Nat.le_of_ble_eq_true rfl) (Nat.le_of_ble_eq_true rfl)) (And.intro rfl (?_)))
  show Call d 191 [vr (some 90) 10, vr (some 10) 100] (I, H) _ _
  refine s_12_has (by omega) hS hL hR (by omega) ⟨(fun q2 J2 e2 f2 => ?_), (fun q2_1 J2_1 e2_1 f2_1 => ?_)⟩
  ·
    show WP (Call d) 198 P X (3, [some (vr (some 90) 10)], [vi 1], (J2, H), 0, 0)
    have hL_1 : LTX J2 tb n := f2.lt hL
    have pb9 := hR.bd
    have nb9 := nx_bd (tb := tb) pb9.1 (th_lt (tb := tb) pb9.2.1 (fun z => absurd (q2.symm.trans z) (by decide)))
    have hR_2 : RAT J2 tb n (nx tb n p) := rat_go hR (fun z => absurd (q2.symm.trans z) (by decide)) e2
    have hF_3 : J2 90 10 = _ := (f2.1 10 (by omega)).trans hF
    have hu_4 : FA I J2 := hu.n f2
    have h_5 : J2 90 11 = _ := (f2.1 11 (by omega)).trans h11
    have hb_6 : 0 ≤ J2 90 9 ∧ J2 90 9 ≤ n := hR_2.1
    refine WP.go 1 (And.intro (fun (b3 : 1 = 0) => (absurd b3 (by omega))) (fun (b3 : ¬ 1 = 0) => ?_))
    show WP (Call d) 198 P X (4, [some (vr (some 90) 10)], [], (J2, H), 0, 0)
    refine WP.go 3 (And.intro (And.intro (Nat.le_of_ble_eq_true rfl) (Nat.le_of_ble_eq_true rfl)) (And.intro trivial (?_)))
    show P (some (vi 0)) (J2, H)
    have t : th tb n p = 1016 := q2
    exact fin_i (by omega) (h.1 (by omega) _ hR_2 (hu_4.z hF hF_3 h11 h_5))
  ·
    show WP (Call d) 198 P X (3, [some (vr (some 90) 10)], [vi 0], (J2_1, H), 0, 0)
    have hL_7 : LTX J2_1 tb n := f2_1.lt hL
    have hR_8 : RAT J2_1 tb n p := RAT.of hR.bd e2_1
    have h_9 : J2_1 90 9 = p := e2_1
    have hF_10 : J2_1 90 10 = _ := (f2_1.1 10 (by omega)).trans hF
    have hu_11 : FA I J2_1 := hu.n f2_1
    have h_12 : J2_1 90 11 = _ := (f2_1.1 11 (by omega)).trans h11
    have hb_13 : 0 ≤ J2_1 90 9 ∧ J2_1 90 9 ≤ n := hR_8.1
    refine WP.go 1 (And.intro (fun (b3 : 0 = 0) => ?_) (fun (b3 : ¬ 0 = 0) => (absurd b3 (by omega))))
    show WP (Call d) 198 P X (6, [some (vr (some 90) 10)], [], (J2_1, H), 0, 0)
    refine WP.go 3 (And.intro (And.intro (Nat.le_of_ble_eq_true rfl) (Nat.le_of_ble_eq_true rfl)) (And.intro rfl (?_)))
    show Call d 191 [vr (some 90) 10, vr (some 11) 100] (J2_1, H) _ _
    refine s_12_has (by omega) hS hL_7 hR_8 (by omega) ⟨(fun q8 J8 e8 f8 => ?_), (fun q8_1 J8_1 e8_1 f8_1 => ?_)⟩
    ·
      show WP (Call d) 198 P X (9, [some (vr (some 90) 10)], [vi 1], (J8, H), 0, 0)
      have hL_14 : LTX J8 tb n := f8.lt hL_7
      have pb9 := hR_8.bd
      have nb9 := nx_bd (tb := tb) pb9.1 (th_lt (tb := tb) pb9.2.1 (fun z => absurd (q8.symm.trans z) (by decide)))
      have hR_15 : RAT J8 tb n (nx tb n p) := rat_go hR_8 (fun z => absurd (q8.symm.trans z) (by decide)) e8
      have hF_16 : J8 90 10 = _ := (f8.1 10 (by omega)).trans hF_10
      have hu_17 : FA I J8 := hu_11.n f8
      have h_18 : J8 90 11 = _ := (f8.1 11 (by omega)).trans h_12
      have hb_19 : 0 ≤ J8 90 9 ∧ J8 90 9 ≤ n := hR_15.1
      refine WP.go 1 (And.intro (fun (b9 : 1 = 0) => (absurd b9 (by omega))) (fun (b9 : ¬ 1 = 0) => ?_))
      show WP (Call d) 198 P X (10, [some (vr (some 90) 10)], [], (J8, H), 0, 0)
      refine WP.go 3 (And.intro (And.intro (Nat.le_of_ble_eq_true rfl) (Nat.le_of_ble_eq_true rfl)) (And.intro trivial (?_)))
      show P (some (vi 1)) (J8, H)
      have t : th tb n p = 1017 := q8
      exact fin_i (by omega) (h.1 (by omega) _ hR_15 (hu_17.z hF hF_16 h11 h_18))
    ·
      show WP (Call d) 198 P X (9, [some (vr (some 90) 10)], [vi 0], (J8_1, H), 0, 0)
      have hL_20 : LTX J8_1 tb n := f8_1.lt hL_7
      have hR_21 : RAT J8_1 tb n p := RAT.of hR_8.bd e8_1
      have h_22 : J8_1 90 9 = p := e8_1
      have hF_23 : J8_1 90 10 = _ := (f8_1.1 10 (by omega)).trans hF_10
      have hu_24 : FA I J8_1 := hu_11.n f8_1
      have h_25 : J8_1 90 11 = _ := (f8_1.1 11 (by omega)).trans h_12
      have hb_26 : 0 ≤ J8_1 90 9 ∧ J8_1 90 9 ≤ n := hR_21.1
      refine WP.go 1 (And.intro (fun (b9 : 0 = 0) => ?_) (fun (b9 : ¬ 0 = 0) => (absurd b9 (by omega))))
      show WP (Call d) 198 P X (12, [some (vr (some 90) 10)], [], (J8_1, H), 0, 0)
      refine WP.go 3 (And.intro (And.intro (Nat.le_of_ble_eq_true rfl) (Nat.le_of_ble_eq_true rfl)) (And.intro rfl (?_)))
      show Call d 191 [vr (some 90) 10, vr (some 12) 100] (J8_1, H) _ _
      refine s_12_has (by omega) hS hL_20 hR_21 (by omega) ⟨(fun q14 J14 e14 f14 => ?_), (fun q14_1 J14_1 e14_1 f14_1 => ?_)⟩
      ·
        show WP (Call d) 198 P X (15, [some (vr (some 90) 10)], [vi 1], (J14, H), 0, 0)
        have hL_27 : LTX J14 tb n := f14.lt hL_20
        have pb9 := hR_21.bd
        have nb9 := nx_bd (tb := tb) pb9.1 (th_lt (tb := tb) pb9.2.1 (fun z => absurd (q14.symm.trans z) (by decide)))
        have hR_28 : RAT J14 tb n (nx tb n p) := rat_go hR_21 (fun z => absurd (q14.symm.trans z) (by decide)) e14
        have hF_29 : J14 90 10 = _ := (f14.1 10 (by omega)).trans hF_23
        have hu_30 : FA I J14 := hu_24.n f14
        have h_31 : J14 90 11 = _ := (f14.1 11 (by omega)).trans h_25
        have hb_32 : 0 ≤ J14 90 9 ∧ J14 90 9 ≤ n := hR_28.1
        refine WP.go 1 (And.intro (fun (b15 : 1 = 0) => (absurd b15 (by omega))) (fun (b15 : ¬ 1 = 0) => ?_))
        show WP (Call d) 198 P X (16, [some (vr (some 90) 10)], [], (J14, H), 0, 0)
        refine WP.go 3 (And.intro (And.intro (Nat.le_of_ble_eq_true rfl) (Nat.le_of_ble_eq_true rfl)) (And.intro trivial (?_)))
        show P (some (vi 2)) (J14, H)
        have t : th tb n p = 1018 := q14
        exact fin_i (by omega) (h.1 (by omega) _ hR_28 (hu_30.z hF hF_29 h11 h_31))
      ·
        show WP (Call d) 198 P X (15, [some (vr (some 90) 10)], [vi 0], (J14_1, H), 0, 0)
        have hL_33 : LTX J14_1 tb n := f14_1.lt hL_20
        have hR_34 : RAT J14_1 tb n p := RAT.of hR_21.bd e14_1
        have h_35 : J14_1 90 9 = p := e14_1
        have hF_36 : J14_1 90 10 = _ := (f14_1.1 10 (by omega)).trans hF_23
        have hu_37 : FA I J14_1 := hu_24.n f14_1
        have h_38 : J14_1 90 11 = _ := (f14_1.1 11 (by omega)).trans h_25
        have hb_39 : 0 ≤ J14_1 90 9 ∧ J14_1 90 9 ≤ n := hR_34.1
        refine WP.go 1 (And.intro (fun (b15 : 0 = 0) => ?_) (fun (b15 : ¬ 0 = 0) => (absurd b15 (by omega))))
        show WP (Call d) 198 P X (18, [some (vr (some 90) 10)], [], (J14_1, H), 0, 0)
        refine WP.go 3 (And.intro (And.intro (Nat.le_of_ble_eq_true rfl) (Nat.le_of_ble_eq_true rfl)) (And.intro rfl (?_)))
        show Call d 191 [vr (some 90) 10, vr (some 13) 100] (J14_1, H) _ _
        refine s_12_has (by omega) hS hL_33 hR_34 (by omega) ⟨(fun q20 J20 e20 f20 => ?_), (fun q20_1 J20_1 e20_1 f20_1 => ?_)⟩
        ·
          show WP (Call d) 198 P X (21, [some (vr (some 90) 10)], [vi 1], (J20, H), 0, 0)
          have hL_40 : LTX J20 tb n := f20.lt hL_33
          have pb9 := hR_34.bd
          have nb9 := nx_bd (tb := tb) pb9.1 (th_lt (tb := tb) pb9.2.1 (fun z => absurd (q20.symm.trans z) (by decide)))
          have hR_41 : RAT J20 tb n (nx tb n p) := rat_go hR_34 (fun z => absurd (q20.symm.trans z) (by decide)) e20
          have hF_42 : J20 90 10 = _ := (f20.1 10 (by omega)).trans hF_36
          have hu_43 : FA I J20 := hu_37.n f20
          have h_44 : J20 90 11 = _ := (f20.1 11 (by omega)).trans h_38
          have hb_45 : 0 ≤ J20 90 9 ∧ J20 90 9 ≤ n := hR_41.1
          refine WP.go 1 (And.intro (fun (b21 : 1 = 0) => (absurd b21 (by omega))) (fun (b21 : ¬ 1 = 0) => ?_))
          show WP (Call d) 198 P X (22, [some (vr (some 90) 10)], [], (J20, H), 0, 0)
          refine WP.go 3 (And.intro (And.intro (Nat.le_of_ble_eq_true rfl) (Nat.le_of_ble_eq_true rfl)) (And.intro trivial (?_)))
          show P (some (vi 3)) (J20, H)
          have t : th tb n p = 1019 := q20
          exact fin_i (by omega) (h.1 (by omega) _ hR_41 (hu_43.z hF hF_42 h11 h_44))
        ·
          show WP (Call d) 198 P X (21, [some (vr (some 90) 10)], [vi 0], (J20_1, H), 0, 0)
          have hL_46 : LTX J20_1 tb n := f20_1.lt hL_33
          have hR_47 : RAT J20_1 tb n p := RAT.of hR_34.bd e20_1
          have h_48 : J20_1 90 9 = p := e20_1
          have hF_49 : J20_1 90 10 = _ := (f20_1.1 10 (by omega)).trans hF_36
          have hu_50 : FA I J20_1 := hu_37.n f20_1
          have h_51 : J20_1 90 11 = _ := (f20_1.1 11 (by omega)).trans h_38
          have hb_52 : 0 ≤ J20_1 90 9 ∧ J20_1 90 9 ≤ n := hR_47.1
          refine WP.go 1 (And.intro (fun (b21 : 0 = 0) => ?_) (fun (b21 : ¬ 0 = 0) => (absurd b21 (by omega))))
          show WP (Call d) 198 P X (24, [some (vr (some 90) 10)], [], (J20_1, H), 0, 0)
          refine WP.go 3 (And.intro (And.intro (Nat.le_of_ble_eq_true rfl) (Nat.le_of_ble_eq_true rfl)) (And.intro rfl (?_)))
          show Call d 191 [vr (some 90) 10, vr (some 14) 100] (J20_1, H) _ _
          refine s_12_has (by omega) hS hL_46 hR_47 (by omega) ⟨(fun q26 J26 e26 f26 => ?_), (fun q26_1 J26_1 e26_1 f26_1 => ?_)⟩
          ·
            show WP (Call d) 198 P X (27, [some (vr (some 90) 10)], [vi 1], (J26, H), 0, 0)
            have hL_53 : LTX J26 tb n := f26.lt hL_46
            have pb9 := hR_47.bd
            have nb9 := nx_bd (tb := tb) pb9.1 (th_lt (tb := tb) pb9.2.1 (fun z => absurd (q26.symm.trans z) (by decide)))
            have hR_54 : RAT J26 tb n (nx tb n p) := rat_go hR_47 (fun z => absurd (q26.symm.trans z) (by decide)) e26
            have hF_55 : J26 90 10 = _ := (f26.1 10 (by omega)).trans hF_49
            have hu_56 : FA I J26 := hu_50.n f26
            have h_57 : J26 90 11 = _ := (f26.1 11 (by omega)).trans h_51
            have hb_58 : 0 ≤ J26 90 9 ∧ J26 90 9 ≤ n := hR_54.1
            refine WP.go 1 (And.intro (fun (b27 : 1 = 0) => (absurd b27 (by omega))) (fun (b27 : ¬ 1 = 0) => ?_))
            show WP (Call d) 198 P X (28, [some (vr (some 90) 10)], [], (J26, H), 0, 0)
            refine WP.go 3 (And.intro (And.intro (Nat.le_of_ble_eq_true rfl) (Nat.le_of_ble_eq_true rfl)) (And.intro trivial (?_)))
            show P (some (vi 4)) (J26, H)
            have t : th tb n p = 1020 := q26
            exact fin_i (by omega) (h.1 (by omega) _ hR_54 (hu_56.z hF hF_55 h11 h_57))
          ·
            show WP (Call d) 198 P X (27, [some (vr (some 90) 10)], [vi 0], (J26_1, H), 0, 0)
            have hL_59 : LTX J26_1 tb n := f26_1.lt hL_46
            have hR_60 : RAT J26_1 tb n p := RAT.of hR_47.bd e26_1
            have h_61 : J26_1 90 9 = p := e26_1
            have hF_62 : J26_1 90 10 = _ := (f26_1.1 10 (by omega)).trans hF_49
            have hu_63 : FA I J26_1 := hu_50.n f26_1
            have h_64 : J26_1 90 11 = _ := (f26_1.1 11 (by omega)).trans h_51
            have hb_65 : 0 ≤ J26_1 90 9 ∧ J26_1 90 9 ≤ n := hR_60.1
            refine WP.go 1 (And.intro (fun (b27 : 0 = 0) => ?_) (fun (b27 : ¬ 0 = 0) => (absurd b27 (by omega))))
            show WP (Call d) 198 P X (30, [some (vr (some 90) 10)], [], (J26_1, H), 0, 0)
            refine WP.go 2 (And.intro (And.intro (Nat.le_of_ble_eq_true rfl) (Nat.le_of_ble_eq_true rfl)) (And.intro trivial (?_)))
            show P (some (vi (-1))) (J26_1, H)
            have t0 : th tb n p ≠ 1016 := q2_1
            have t1 : th tb n p ≠ 1017 := q8_1
            have t2 : th tb n p ≠ 1018 := q14_1
            have t3 : th tb n p ≠ 1019 := q20_1
            have t4 : th tb n p ≠ 1020 := q26_1
            exact h.2 (by omega) _ h_61 (hu_63.z hF hF_62 h11 h_64)

theorem s_12_part {d : Nat} {P : Option qV → qH → Prop} {X : Nat → qH → Prop} {I : qI} {H : qS} (hd : 5 ≤ d) {F tb : Int → Int} {n p dk : Int} (hS : Shp H) (hL : LTX I tb n) (hR : RAT I tb n p) (hF : I 90 10 = -1) (h11 : I 90 11 = dk) (hfr : FR I F) (hFB : FB F) (h : ((pPart tb n p).1 = -1 → ∀ J : qI, RAT J tb n (pPart tb n p).2.2.2 → F9 I J → P (some (vi ((pPart tb n p).2.2.1 F))) (J, H)) ∧ ((pPart tb n p).1 ≠ -1 → ∀ (J : qI) (v : Int), J 90 10 = (pPart tb n p).1 → (0 ≤ J 90 9 ∧ J 90 9 ≤ n) → FA I J → J 90 11 = dk → (0 ≤ v ∧ v ≤ 9999) → P (some (vi v)) (J, H))) :
    Call d 199 [vr (some 90) 10] (I, H) P X := by
  obtain ⟨d, rfl⟩ : ∃ e, d = e + 1 := ⟨d - 1, by omega⟩
  have hl95 := hS.l95
  have hu := FA.rf I
  have hpb := hR.bd
  have hb := hR.1
  have hn := hL.2.1
  have ht := th_bd hpb.1 hpb.2.1 hL.2.2.1
  show WP (Call d) 199 P X (0, [some (vr (some 90) 10), none], [], (I, H), 0, 0)
  refine WP.go 2 (And.intro rfl (?_))
  refine rw_i (Q := fun x9 => WP (Call d) 199 P X (2, [some (vr (some 90) 10), none], [vi x9], (I, H), 0, 0)) hF ?_
  show WP (Call d) 199 P X (2, [some (vr (some 90) 10), none], [vi (-1)], (I, H), 0, 0)
  refine WP.go 2 (And.intro (fun (b3 : (-1) = (-1)) => ?_) (fun (b3 : ¬ (-1) = (-1)) => (absurd b3 (by omega))))
  show WP (Call d) 199 P X (6, [some (vr (some 90) 10), none], [], (I, H), 0, 0)
  refine WP.go 2 (And.intro (And.intro (Nat.le_of_ble_eq_true rfl) (Nat.le_of_ble_eq_true rfl)) (And.intro rfl (?_)))
  show Call d 189 [vr (some 90) 10] (I, H) _ _
  refine s_12_skip (by omega) hS hL hR (fun J7 e7 f7 => ?_)
  show WP (Call d) 199 P X (8, [some (vr (some 90) 10), none], [], (J7, H), 0, 0)
  have hL_1 : LTX J7 tb n := f7.lt hL
  have h_2 : J7 90 9 = p := e7
  have hR_3 : RAT J7 tb n p := RAT.of hR.bd e7
  have hF_4 : J7 90 10 = _ := (f7.1 10 (by omega)).trans hF
  have hu_5 : FA I J7 := hu.n f7
  have h_6 : J7 90 11 = _ := (f7.1 11 (by omega)).trans h11
  have hb_7 : 0 ≤ J7 90 9 ∧ J7 90 9 ≤ n := hR_3.1
  have h8 := hL_1.1
  refine WP.go 2 (And.intro rfl (?_))
  refine rw_i (Q := fun x9 => WP (Call d) 199 P X (10, [some (vr (some 90) 10), none], [vi x9], (J7, H), 0, 0)) h_2 ?_
  show WP (Call d) 199 P X (10, [some (vr (some 90) 10), none], [vi p], (J7, H), 0, 0)
  refine WP.go 2 (And.intro rfl (?_))
  refine rw_i (Q := fun x9 => WP (Call d) 199 P X (12, [some (vr (some 90) 10), none], [vi x9, vi p], (J7, H), 0, 0)) h8 ?_
  show WP (Call d) 199 P X (12, [some (vr (some 90) 10), none], [vi n, vi p], (J7, H), 0, 0)
  refine WP.go 1 (And.intro (fun (b12 : ¬ p < n) => ?_) (fun (b12 : p < n) => ?_))
  ·
    show WP (Call d) 199 P X (26, [some (vr (some 90) 10), none], [], (J7, H), 0, 0)
    refine WP.go 2 (And.intro (And.intro (Nat.le_of_ble_eq_true rfl) (Nat.le_of_ble_eq_true rfl)) (And.intro rfl (?_)))
    show Call d 198 [vr (some 90) 10] (J7, H) _ _
    refine s_12_factAt (by omega) hS hL_1 hR_3 hF_4 h_6 ⟨(fun q27 J27 e27 f27 => ?_), (fun q27_1 J27_1 e27_1 f27_1 => ?_)⟩
    ·
      show WP (Call d) 199 P X (28, [some (vr (some 90) 10), none], [vi (th tb n p - 1016)], (J27, H), 0, 0)
      have hL_8 : LTX J27 tb n := f27.lt hL_1
      have pb9 := hR_3.bd
      have nb9 := nx_bd (tb := tb) pb9.1 (th_lt (tb := tb) pb9.2.1 (by have w := q27; omega))
      have hR_9 : RAT J27 tb n (nx tb n p) := e27
      have hF_10 : J27 90 10 = _ := (f27.1 10 (by omega)).trans hF_4
      have hu_11 : FA I J27 := hu_5.n f27
      have h_12 : J27 90 11 = _ := (f27.1 11 (by omega)).trans h_6
      have hb_13 : 0 ≤ J27 90 9 ∧ J27 90 9 ≤ n := hR_9.1
      refine WP.go 4 (And.intro (fun (b31 : ¬ (th tb n p - 1016) = (-1)) => ?_) (fun (b31 : (th tb n p - 1016) = (-1)) => (absurd b31 (by omega))))
      show WP (Call d) 199 P X (38, [some (vr (some 90) 10), some (vi (th tb n p - 1016))], [], (J27, H), 0, 0)
      refine WP.go 4 (And.intro rfl (Exists.intro 95 (And.intro hS.r90_12 (And.intro (And.intro rfl (And.intro (show 0 ≤ (th tb n p - 1016) from by omega) (show (th tb n p - 1016) < H.2.1 95 from by omega))) (?_)))))
      refine rw_i (Q := fun x9 => WP (Call d) 199 P X (42, [some (vr (some 90) 10), some (vi (th tb n p - 1016))], [vi x9], (J27, H), 0, 0)) (show J27 95 (th tb n p - 1016) = F (th tb n p - 1016) from (hu_11.fr hfr).1 _ (by omega) (by omega)) ?_
      show WP (Call d) 199 P X (42, [some (vr (some 90) 10), some (vi (th tb n p - 1016))], [vi (F (th tb n p - 1016))], (J27, H), 0, 0)
      refine WP.go 1 (And.intro (And.intro (Nat.le_of_ble_eq_true rfl) (Nat.le_of_ble_eq_true rfl)) (And.intro trivial (?_)))
      show P (some (vi (F (th tb n p - 1016)))) (J27, H)
      have r9 := pPart_2 (tb := tb) (n := n) (p := p) q27
      exact fin_i (by rw [r9]) (h.1 (by rw [r9]) _ (by rw [r9]; exact hR_9) (hu_11.z hF hF_10 h11 h_12))
    ·
      show WP (Call d) 199 P X (28, [some (vr (some 90) 10), none], [vi (-1)], (J27_1, H), 0, 0)
      have hL_14 : LTX J27_1 tb n := f27_1.lt hL_1
      have hR_15 : RAT J27_1 tb n p := RAT.of hR_3.bd e27_1
      have h_16 : J27_1 90 9 = p := e27_1
      have hF_17 : J27_1 90 10 = _ := (f27_1.1 10 (by omega)).trans hF_4
      have hu_18 : FA I J27_1 := hu_5.n f27_1
      have h_19 : J27_1 90 11 = _ := (f27_1.1 11 (by omega)).trans h_6
      have hb_20 : 0 ≤ J27_1 90 9 ∧ J27_1 90 9 ≤ n := hR_15.1
      refine WP.go 4 (And.intro (fun (b31 : ¬ (-1) = (-1)) => (absurd b31 (by omega))) (fun (b31 : (-1) = (-1)) => ?_))
      show WP (Call d) 199 P X (32, [some (vr (some 90) 10), some (vi (-1))], [], (J27_1, H), 0, 0)
      refine WP.go 3 (And.intro rfl (?_))
      refine rw_i (Q := fun x9 => WP (Call d) 199 P X (35, [some (vr (some 90) 10), some (vi (-1))], [vi x9, vr (some 90) 10], (J27_1, H), 0, 0)) h_16 ?_
      show WP (Call d) 199 P X (35, [some (vr (some 90) 10), some (vi (-1))], [vi p, vr (some 90) 10], (J27_1, H), 0, 0)
      refine WP.go 1 (And.intro (And.intro (Nat.le_of_ble_eq_true rfl) (Nat.le_of_ble_eq_true rfl)) (And.intro rfl (?_)))
      show Call d 192 [vr (some 90) 10, vi p] (J27_1, H) _ _
      refine s_12_wrong (by omega) hF_17 (fun J35 e35 f35 => ?_)
      show WP (Call d) 199 P X (36, [some (vr (some 90) 10), some (vi (-1))], [], (J35, H), 0, 0)
      have hF_21 : J35 90 10 = p := by rw [e35]; rfl
      have hu_22 : FA I J35 := hu_18.o (.inr (.inl rfl)) e35 f35
      have hL_23 : LTX J35 tb n := hL_14.fr (by rw [e35]; rfl) (by rw [e35]; rfl) (f35 94 (by omega)) (f35 91 (by omega))
      have h_24 : J35 90 11 = dk := by rw [e35]; exact h_19
      have hb_25 : 0 ≤ J35 90 9 ∧ J35 90 9 ≤ n := by rw [e35]; exact hb_20
      refine WP.go 2 (And.intro (And.intro (Nat.le_of_ble_eq_true rfl) (Nat.le_of_ble_eq_true rfl)) (And.intro trivial (?_)))
      show P (some (vi 0)) (J35, H)
      have r9 : pPart tb n p = rE p := pPart_3 (by rcases ht with x | x | x | x <;> omega) q27_1
      exact h.2 (by rw [r9]; show p ≠ -1; omega) _ _ (by rw [r9]; exact hF_21) hb_25 hu_22 h_24 (by omega)
  ·
    show WP (Call d) 199 P X (13, [some (vr (some 90) 10), none], [], (J7, H), 0, 0)
    refine WP.go 3 (And.intro rfl (?_))
    refine rw_i (Q := fun x9 => WP (Call d) 199 P X (16, [some (vr (some 90) 10), none], [vi x9, vr (some 90) 10], (J7, H), 0, 0)) h_2 ?_
    show WP (Call d) 199 P X (16, [some (vr (some 90) 10), none], [vi p, vr (some 90) 10], (J7, H), 0, 0)
    refine WP.go 1 (And.intro (And.intro (Nat.le_of_ble_eq_true rfl) (Nat.le_of_ble_eq_true rfl)) (And.intro rfl (?_)))
    show Call d 188 [vr (some 90) 10, vi p] (J7, H) _ _
    refine s_12_letter (by omega) hS hL_1 (by omega) ?_
    show WP (Call d) 199 P X (17, [some (vr (some 90) 10), none], [vi (tb p)], (J7, H), 0, 0)
    refine WP.go 3 (And.intro (And.intro (Nat.le_of_ble_eq_true rfl) (Nat.le_of_ble_eq_true rfl)) (And.intro rfl (?_)))
    show Call d 177 [vi (tb p), vi 48, vi 57] (J7, H) _ _
    refine s_12_isIn (by omega)  ?_
    show WP (Call d) 199 P X (20, [some (vr (some 90) 10), none], [vi (bz (48 ≤ (tb p) ∧ (tb p) ≤ 57))], (J7, H), 0, 0)
    refine WP.go 1 (And.intro (fun (b20 : bz (48 ≤ (tb p) ∧ (tb p) ≤ 57) = 0) => ?_) (fun (b20 : ¬ bz (48 ≤ (tb p) ∧ (tb p) ≤ 57) = 0) => ?_))
    ·
      show WP (Call d) 199 P X (26, [some (vr (some 90) 10), none], [], (J7, H), 0, 0)
      have z20 := bz_e0.mp b20
      refine WP.go 2 (And.intro (And.intro (Nat.le_of_ble_eq_true rfl) (Nat.le_of_ble_eq_true rfl)) (And.intro rfl (?_)))
      show Call d 198 [vr (some 90) 10] (J7, H) _ _
      refine s_12_factAt (by omega) hS hL_1 hR_3 hF_4 h_6 ⟨(fun q27_2 J27_2 e27_2 f27_2 => ?_), (fun q27_3 J27_3 e27_3 f27_3 => ?_)⟩
      ·
        show WP (Call d) 199 P X (28, [some (vr (some 90) 10), none], [vi (th tb n p - 1016)], (J27_2, H), 0, 0)
        have hL_26 : LTX J27_2 tb n := f27_2.lt hL_1
        have pb9 := hR_3.bd
        have nb9 := nx_bd (tb := tb) pb9.1 (th_lt (tb := tb) pb9.2.1 (by have w := q27_2; omega))
        have hR_27 : RAT J27_2 tb n (nx tb n p) := e27_2
        have hF_28 : J27_2 90 10 = _ := (f27_2.1 10 (by omega)).trans hF_4
        have hu_29 : FA I J27_2 := hu_5.n f27_2
        have h_30 : J27_2 90 11 = _ := (f27_2.1 11 (by omega)).trans h_6
        have hb_31 : 0 ≤ J27_2 90 9 ∧ J27_2 90 9 ≤ n := hR_27.1
        refine WP.go 4 (And.intro (fun (b31 : ¬ (th tb n p - 1016) = (-1)) => ?_) (fun (b31 : (th tb n p - 1016) = (-1)) => (absurd b31 (by omega))))
        show WP (Call d) 199 P X (38, [some (vr (some 90) 10), some (vi (th tb n p - 1016))], [], (J27_2, H), 0, 0)
        refine WP.go 4 (And.intro rfl (Exists.intro 95 (And.intro hS.r90_12 (And.intro (And.intro rfl (And.intro (show 0 ≤ (th tb n p - 1016) from by omega) (show (th tb n p - 1016) < H.2.1 95 from by omega))) (?_)))))
        refine rw_i (Q := fun x9 => WP (Call d) 199 P X (42, [some (vr (some 90) 10), some (vi (th tb n p - 1016))], [vi x9], (J27_2, H), 0, 0)) (show J27_2 95 (th tb n p - 1016) = F (th tb n p - 1016) from (hu_29.fr hfr).1 _ (by omega) (by omega)) ?_
        show WP (Call d) 199 P X (42, [some (vr (some 90) 10), some (vi (th tb n p - 1016))], [vi (F (th tb n p - 1016))], (J27_2, H), 0, 0)
        refine WP.go 1 (And.intro (And.intro (Nat.le_of_ble_eq_true rfl) (Nat.le_of_ble_eq_true rfl)) (And.intro trivial (?_)))
        show P (some (vi (F (th tb n p - 1016)))) (J27_2, H)
        have r9 := pPart_2 (tb := tb) (n := n) (p := p) q27_2
        exact fin_i (by rw [r9]) (h.1 (by rw [r9]) _ (by rw [r9]; exact hR_27) (hu_29.z hF hF_28 h11 h_30))
      ·
        show WP (Call d) 199 P X (28, [some (vr (some 90) 10), none], [vi (-1)], (J27_3, H), 0, 0)
        have hL_32 : LTX J27_3 tb n := f27_3.lt hL_1
        have hR_33 : RAT J27_3 tb n p := RAT.of hR_3.bd e27_3
        have h_34 : J27_3 90 9 = p := e27_3
        have hF_35 : J27_3 90 10 = _ := (f27_3.1 10 (by omega)).trans hF_4
        have hu_36 : FA I J27_3 := hu_5.n f27_3
        have h_37 : J27_3 90 11 = _ := (f27_3.1 11 (by omega)).trans h_6
        have hb_38 : 0 ≤ J27_3 90 9 ∧ J27_3 90 9 ≤ n := hR_33.1
        refine WP.go 4 (And.intro (fun (b31 : ¬ (-1) = (-1)) => (absurd b31 (by omega))) (fun (b31 : (-1) = (-1)) => ?_))
        show WP (Call d) 199 P X (32, [some (vr (some 90) 10), some (vi (-1))], [], (J27_3, H), 0, 0)
        refine WP.go 3 (And.intro rfl (?_))
        refine rw_i (Q := fun x9 => WP (Call d) 199 P X (35, [some (vr (some 90) 10), some (vi (-1))], [vi x9, vr (some 90) 10], (J27_3, H), 0, 0)) h_34 ?_
        show WP (Call d) 199 P X (35, [some (vr (some 90) 10), some (vi (-1))], [vi p, vr (some 90) 10], (J27_3, H), 0, 0)
        refine WP.go 1 (And.intro (And.intro (Nat.le_of_ble_eq_true rfl) (Nat.le_of_ble_eq_true rfl)) (And.intro rfl (?_)))
        show Call d 192 [vr (some 90) 10, vi p] (J27_3, H) _ _
        refine s_12_wrong (by omega) hF_35 (fun J35_1 e35_1 f35_1 => ?_)
        show WP (Call d) 199 P X (36, [some (vr (some 90) 10), some (vi (-1))], [], (J35_1, H), 0, 0)
        have hF_39 : J35_1 90 10 = p := by rw [e35_1]; rfl
        have hu_40 : FA I J35_1 := hu_36.o (.inr (.inl rfl)) e35_1 f35_1
        have hL_41 : LTX J35_1 tb n := hL_32.fr (by rw [e35_1]; rfl) (by rw [e35_1]; rfl) (f35_1 94 (by omega)) (f35_1 91 (by omega))
        have h_42 : J35_1 90 11 = dk := by rw [e35_1]; exact h_37
        have hb_43 : 0 ≤ J35_1 90 9 ∧ J35_1 90 9 ≤ n := by rw [e35_1]; exact hb_38
        refine WP.go 2 (And.intro (And.intro (Nat.le_of_ble_eq_true rfl) (Nat.le_of_ble_eq_true rfl)) (And.intro trivial (?_)))
        show P (some (vi 0)) (J35_1, H)
        have r9 : pPart tb n p = rE p := pPart_3 (by have w := bz_e0.mp b20; rcases ht with x | x | x | x; omega; omega; exact absurd ⟨x.2.1.1, x.2.1.2⟩ w; omega) q27_3
        exact h.2 (by rw [r9]; show p ≠ -1; omega) _ _ (by rw [r9]; exact hF_39) hb_43 hu_40 h_42 (by omega)
    ·
      show WP (Call d) 199 P X (21, [some (vr (some 90) 10), none], [], (J7, H), 0, 0)
      have z20 := bz_e1.mp b20
      refine WP.go 4 (And.intro (And.intro (Nat.le_of_ble_eq_true rfl) (Nat.le_of_ble_eq_true rfl)) (And.intro rfl (?_)))
      show Call d 193 [vr (some 90) 10, vi 0, vi 999] (J7, H) _ _
      refine s_12_figures (by omega) hS hL_1 hR_3 hF_4 (by omega) ⟨(fun q24 J24 e24 f24 => ?_), (fun q24_1 J24_1 v24 e24_1 b24 vb24 s24 f24_1 => ?_)⟩
      ·
        show WP (Call d) 199 P X (25, [some (vr (some 90) 10), none], [vi (th tb n p)], (J24, H), 0, 0)
        have hL_44 : LTX J24 tb n := f24.lt hL_1
        have pb9 := hR_3.bd
        have nb9 := nx_bd (tb := tb) pb9.1 (th_lt (tb := tb) pb9.2.1 (by have w := q24; omega))
        have hR_45 : RAT J24 tb n (nx tb n p) := rat_go hR_3 (fun z => by have w := q24; omega) e24
        have hF_46 : J24 90 10 = _ := (f24.1 10 (by omega)).trans hF_4
        have hu_47 : FA I J24 := hu_5.n f24
        have h_48 : J24 90 11 = _ := (f24.1 11 (by omega)).trans h_6
        have hb_49 : 0 ≤ J24 90 9 ∧ J24 90 9 ≤ n := hR_45.1
        refine WP.go 1 (And.intro (And.intro (Nat.le_of_ble_eq_true rfl) (Nat.le_of_ble_eq_true rfl)) (And.intro trivial (?_)))
        show P (some (vi (th tb n p))) (J24, H)
        have r9 := pPart_1 (tb := tb) (n := n) (p := p) q24
        exact fin_i (by rw [r9]) (h.1 (by rw [r9]) _ (by rw [r9]; exact hR_45) (hu_47.z hF hF_46 h11 h_48))
      ·
        show WP (Call d) 199 P X (25, [some (vr (some 90) 10), none], [vi v24], (J24_1, H), 0, 0)
        have hF_50 : J24_1 90 10 = p := e24_1
        have pb9 := hR_3.bd
        have hu_51 : FA I J24_1 := hu_5.g s24 f24_1
        have hb_52 : 0 ≤ J24_1 90 9 ∧ J24_1 90 9 ≤ n := b24
        have h_53 : J24_1 90 11 = _ := (s24 11 (by omega) (by omega)).trans h_6
        have hL_54 : LTX J24_1 tb n := hL_1.fr (s24 7 (by omega) (by omega)) (s24 8 (by omega) (by omega)) (f24_1 94 (by omega)) (f24_1 91 (by omega))
        refine WP.go 1 (And.intro (And.intro (Nat.le_of_ble_eq_true rfl) (Nat.le_of_ble_eq_true rfl)) (And.intro trivial (?_)))
        show P (some (vi v24)) (J24_1, H)
        have r9 : pPart tb n p = rE p := pPart_3 q24_1 (by have w := bz_e1.mp b20; have d9 : isD (tb p) := ⟨w.1, w.2⟩; have l9 := LD d9; rcases ht with x | x | x | x; omega; exact absurd x.2.1 l9; omega; omega)
        exact h.2 (by rw [r9]; show p ≠ -1; omega) _ _ (by rw [r9]; exact hF_50) hb_52 hu_51 h_53 (by omega)

theorem s_12_sum {d : Nat} {P : Option qV → qH → Prop} {X : Nat → qH → Prop} {I : qI} {H : qS} (hd : 6 ≤ d) {F tb : Int → Int} {n p dk : Int} (hS : Shp H) (hL : LTX I tb n) (hR : RAT I tb n p) (hF : I 90 10 = -1) (h11 : I 90 11 = dk) (hfr : FR I F) (hFB : FB F) (h : ((pSum tb n p).1 = -1 → ∀ J : qI, RAT J tb n (pSum tb n p).2.2.2 → F9 I J → P (some (vi ((pSum tb n p).2.2.1 F))) (J, H)) ∧ ((pSum tb n p).1 ≠ -1 → ∀ (J : qI) (v : Int), J 90 10 = (pSum tb n p).1 → (0 ≤ J 90 9 ∧ J 90 9 ≤ n) → FA I J → J 90 11 = dk → P (some (vi v)) (J, H))) :
    Call d 200 [vr (some 90) 10] (I, H) P X := by
  obtain ⟨d, rfl⟩ : ∃ e, d = e + 1 := ⟨d - 1, by omega⟩
  have hu := FA.rf I
  have hpb := hR.bd
  have hb := hR.1
  have hn := hL.2.1
  show WP (Call d) 200 P X (0, [some (vr (some 90) 10), none], [], (I, H), 0, 0)
  refine WP.go 2 (And.intro (And.intro (Nat.le_of_ble_eq_true rfl) (Nat.le_of_ble_eq_true rfl)) (And.intro rfl (?_)))
  show Call d 199 [vr (some 90) 10] (I, H) _ _
  refine s_12_part (by omega) hS hL hR hF h11 (hu.fr hfr) hFB ⟨(fun q1 J1 e1 f1 => ?_), (fun q1_1 J1_1 v1 e1_1 b1 f1_1 g1 vb1 => ?_)⟩
  ·
    show WP (Call d) 200 P X (2, [some (vr (some 90) 10), none], [vi ((pPart tb n p).2.2.1 F)], (J1, H), 0, 0)
    have hL_1 : LTX J1 tb n := f1.lt hL
    have pb9 := hR.bd
    have gd9 := pPart_gd (tb := tb) (n := n) (p := p) (by omega) (by omega) q1
    have ga9 := gd9.1
    have gb9 := gd9.2.1
    have gv9 := (gd9.2.2.2 F hFB).1.1
    have gw9 := (gd9.2.2.2 F hFB).1.2.2
    have hR_2 : RAT J1 tb n (pPart tb n p).2.2.2 := e1
    have hF_3 : J1 90 10 = _ := (f1.1 10 (by omega)).trans hF
    have hu_4 : FA I J1 := hu.n f1
    have h_5 : J1 90 11 = _ := (f1.1 11 (by omega)).trans h11
    have hb_6 : 0 ≤ J1 90 9 ∧ J1 90 9 ≤ n := hR_2.1
    refine WP.go 1 ?_
    show WP (Call d) 200 P X (3, [some (vr (some 90) 10), some (vi ((pPart tb n p).2.2.1 F))], [], (J1, H), 0, 0)
    have lp3 : ∀ (n9 : Nat) (K : qI) (v9 : Int) (r9 : RS) (i9 : Int) (hm : 400 - i9 < (n9 : Int)) (kv0 : 0 ≤ i9 ∧ i9 ≤ 400 ∧ i9 ≤ r9.2.2.2) (kv1 : LTX K tb n) (kv2 : RAT K tb n r9.2.2.2) (kv3 : K 90 10 = -1) (kv4 : FA I K) (kv5 : (pSum tb n p) = pLo tb n 2043 2000 (fun a b => a + b) (pPart tb n) (400 - i9).toNat r9) (kv6 : r9.1 = -1) (kv7 : v9 = r9.2.2.1 F) (kv8 : 0 ≤ v9 ∧ v9 ≤ 1000 * r9.2.2.2) (kv10 : K 90 11 = dk), WP (Call d) 200 P X (3, [some (vr (some 90) 10), some (vi v9)], [], (K, H), 0, 0) := by
      intro n9
      induction n9 with
      | zero => intro K v9 r9 i9 hm kv0 kv1 kv2 kv3 kv4 kv5 kv6 kv7 kv8 kv10; exact absurd hm (by omega)
      | succ n9 ih3 =>
        intro K v9 r9 i9 hm kv0 kv1 kv2 kv3 kv4 kv5 kv6 kv7 kv8 kv10
        have qb9 := kv2.bd
        refine WP.go 2 (And.intro rfl (?_))
        refine rw_i (Q := fun x9 => WP (Call d) 200 P X (5, [some (vr (some 90) 10), some (vi v9)], [vi x9], (K, H), 0, 0)) kv3 ?_
        show WP (Call d) 200 P X (5, [some (vr (some 90) 10), some (vi v9)], [vi (-1)], (K, H), 0, 0)
        refine WP.go 2 (And.intro (fun (b6 : ¬ (-1) = (-1)) => (absurd b6 (by omega))) (fun (b6 : (-1) = (-1)) => ?_))
        show WP (Call d) 200 P X (7, [some (vr (some 90) 10), some (vi v9)], [], (K, H), 0, 0)
        refine WP.go 3 (And.intro (And.intro (Nat.le_of_ble_eq_true rfl) (Nat.le_of_ble_eq_true rfl)) (And.intro rfl (?_)))
        show Call d 190 [vr (some 90) 10, vi 43] (K, H) _ _
        refine s_12_isSign (by omega) hS kv1 kv2 ⟨by omega, by unfold isL; omega, by unfold isD; omega⟩ (fun J9 e9 f9 => ?_)
        show WP (Call d) 200 P X (10, [some (vr (some 90) 10), some (vi v9)], [vi (bz (th tb n r9.2.2.2 = 2000 + 43))], (J9, H), 0, 0)
        have hL_7 : LTX J9 tb n := f9.lt kv1
        have hR_8 : RAT J9 tb n r9.2.2.2 := RAT.of kv2.bd e9
        have h_9 : J9 90 9 = r9.2.2.2 := e9
        have hF_10 : J9 90 10 = _ := (f9.1 10 (by omega)).trans kv3
        have hu_11 : FA I J9 := kv4.n f9
        have h_12 : J9 90 11 = _ := (f9.1 11 (by omega)).trans kv10
        have hb_13 : 0 ≤ J9 90 9 ∧ J9 90 9 ≤ n := hR_8.1
        refine WP.go 1 (And.intro (fun (b10 : bz (th tb n r9.2.2.2 = 2000 + 43) = 0) => ?_) (fun (b10 : ¬ bz (th tb n r9.2.2.2 = 2000 + 43) = 0) => ?_))
        ·
          show WP (Call d) 200 P X (23, [some (vr (some 90) 10), some (vi v9)], [], (J9, H), 0, 0)
          have z10 := bz_e0.mp b10
          refine WP.go 2 (And.intro (And.intro (Nat.le_of_ble_eq_true rfl) (Nat.le_of_ble_eq_true rfl)) (And.intro trivial (?_)))
          show P (some (vi v9)) (J9, H)
          have r8 : (pSum tb n p) = r9 := kv5.trans (pLo_n _ kv6 z10)
          exact fin_i (by rw [r8]; exact kv7) (h.1 (by rw [r8]; exact kv6) _ (by rw [r8]; exact hR_8) (hu_11.z hF hF_10 h11 h_12))
        ·
          show WP (Call d) 200 P X (11, [some (vr (some 90) 10), some (vi v9)], [], (J9, H), 0, 0)
          have z10 := bz_e1.mp b10
          refine WP.go 3 (And.intro rfl (?_))
          refine rw_i (Q := fun x9 => WP (Call d) 200 P X (14, [some (vr (some 90) 10), some (vi v9)], [vi x9, vr (some 90) 10], (J9, H), 0, 0)) h_9 ?_
          show WP (Call d) 200 P X (14, [some (vr (some 90) 10), some (vi v9)], [vi r9.2.2.2, vr (some 90) 10], (J9, H), 0, 0)
          refine WP.go 3 (Exists.intro (r9.2.2.2 + 1) (And.intro (wrp_a (by omega) (by omega)) (And.intro (And.intro rfl trivial) (?_))))
          show WP (Call d) 200 P X (17, [some (vr (some 90) 10), some (vi v9)], [], ((upI J9 90 9 (r9.2.2.2 + 1)), H), 0, 0)
          generalize hq_B0 : (upI J9 90 9 (r9.2.2.2 + 1)) = B0
          have e_B0 : B0 90 = (fun j => if j = 9 then (r9.2.2.2 + 1) else J9 90 j) := by rw [← hq_B0]; exact upI_self _ _ _ _
          have f_B0 : ∀ a, a ≠ 90 → B0 a = J9 a := fun a q => by rw [← hq_B0]; exact upI_cell q
          have hu_14 : FA I B0 := hu_11.o (.inl rfl) e_B0 f_B0
          have hL_15 : LTX B0 tb n := hL_7.fr (by rw [e_B0]; rfl) (by rw [e_B0]; rfl) (f_B0 94 (by omega)) (f_B0 91 (by omega))
          have hF_16 : B0 90 10 = -1 := by rw [e_B0]; exact hF_10
          have h_17 : B0 90 11 = dk := by rw [e_B0]; exact h_12
          have b99 : B0 90 9 = r9.2.2.2 + 1 := by rw [e_B0]; rfl
          have hpb9 := hR_8.bd
          have s99 := nx_semi hpb9.1 hpb9.2.1 hL_15.2.2.1 (c := 43) ⟨by omega, by unfold isL; omega, by unfold isD; omega⟩ z10
          have nb9 := nx_bd (tb := tb) hpb9.1 s99.1
          have hR_18 : RAT B0 tb n (nx tb n r9.2.2.2) := ⟨by rw [b99]; omega, by rw [b99]; exact s99.2.symm⟩
          have hb_19 : 0 ≤ B0 90 9 ∧ B0 90 9 ≤ n := hR_18.1
          refine WP.go 3 (And.intro (And.intro (Nat.le_of_ble_eq_true rfl) (Nat.le_of_ble_eq_true rfl)) (And.intro rfl (?_)))
          show Call d 199 [vr (some 90) 10] (B0, H) _ _
          refine s_12_part (by omega) hS hL_15 hR_18 hF_16 h_17 (hu_14.fr hfr) hFB ⟨(fun q19 J19 e19 f19 => ?_), (fun q19_1 J19_1 v19 e19_1 b19 f19_1 g19 vb19 => ?_)⟩
          ·
            show WP (Call d) 200 P X (20, [some (vr (some 90) 10), some (vi v9)], [vi ((pPart tb n (nx tb n r9.2.2.2)).2.2.1 F), vi v9], (J19, H), 0, 0)
            have hL_20 : LTX J19 tb n := f19.lt hL_15
            have pb9 := hR_18.bd
            have gd9 := pPart_gd (tb := tb) (n := n) (p := (nx tb n r9.2.2.2)) (by omega) (by omega) q19
            have ga9 := gd9.1
            have gb9 := gd9.2.1
            have gv9 := (gd9.2.2.2 F hFB).1.1
            have gw9 := (gd9.2.2.2 F hFB).1.2.2
            have hR_21 : RAT J19 tb n (pPart tb n (nx tb n r9.2.2.2)).2.2.2 := e19
            have hF_22 : J19 90 10 = _ := (f19.1 10 (by omega)).trans hF_16
            have hu_23 : FA I J19 := hu_14.n f19
            have h_24 : J19 90 11 = _ := (f19.1 11 (by omega)).trans h_17
            have hb_25 : 0 ≤ J19 90 9 ∧ J19 90 9 ≤ n := hR_21.1
            refine WP.go 3 (Exists.intro (v9 + ((pPart tb n (nx tb n r9.2.2.2)).2.2.1 F)) (And.intro (wrp_a (by omega) (by omega)) (?_)))
            show WP (Call d) 200 P X (3, [some (vr (some 90) 10), some (vi (v9 + ((pPart tb n (nx tb n r9.2.2.2)).2.2.1 F)))], [], (J19, H), 0, 0)
            exact ih3 J19 (v9 + ((pPart tb n (nx tb n r9.2.2.2)).2.2.1 F)) (-1, r9.2.1 ++ (pPart tb n (nx tb n r9.2.2.2)).2.1 ++ [2000], (fun F => r9.2.2.1 F + (pPart tb n (nx tb n r9.2.2.2)).2.2.1 F), (pPart tb n (nx tb n r9.2.2.2)).2.2.2) (i9 + 1) (by omega) (by show 0 ≤ i9 + 1 ∧ i9 + 1 ≤ 400 ∧ i9 + 1 ≤ (pPart tb n (nx tb n r9.2.2.2)).2.2.2; omega) hL_20 hR_21 hF_22 hu_23 (kv5.trans (pLo_y (by omega) kv6 z10 q19)) rfl (by rw [kv7]) (by show 0 ≤ v9 + (pPart tb n (nx tb n r9.2.2.2)).2.2.1 F ∧ v9 + (pPart tb n (nx tb n r9.2.2.2)).2.2.1 F ≤ 1000 * (pPart tb n (nx tb n r9.2.2.2)).2.2.2; omega) h_24
          ·
            show WP (Call d) 200 P X (20, [some (vr (some 90) 10), some (vi v9)], [vi v19, vi v9], (J19_1, H), 0, 0)
            have h_26 : J19_1 90 11 = dk := g19
            have hL_27 : LTX J19_1 tb n := f19_1.lt hL_15
            have hF_28 : J19_1 90 10 = (pPart tb n (nx tb n r9.2.2.2)).1 := e19_1
            have hu_29 : FA I J19_1 := hu_14.tr f19_1
            have hb_30 : 0 ≤ J19_1 90 9 ∧ J19_1 90 9 ≤ n := b19
            refine WP.go 3 (Exists.intro (v9 + v19) (And.intro (wrp_a (by omega) (by omega)) (?_)))
            show WP (Call d) 200 P X (3, [some (vr (some 90) 10), some (vi (v9 + v19))], [], (J19_1, H), 0, 0)
            refine WP.go 2 (And.intro rfl (?_))
            refine rw_i (Q := fun x9 => WP (Call d) 200 P X (5, [some (vr (some 90) 10), some (vi (v9 + v19))], [vi x9], (J19_1, H), 0, 0)) hF_28 ?_
            show WP (Call d) 200 P X (5, [some (vr (some 90) 10), some (vi (v9 + v19))], [vi ((pPart tb n (nx tb n r9.2.2.2)).1)], (J19_1, H), 0, 0)
            refine WP.go 2 (And.intro (fun (b6 : ¬ (pPart tb n (nx tb n r9.2.2.2)).1 = (-1)) => ?_) (fun (b6 : (pPart tb n (nx tb n r9.2.2.2)).1 = (-1)) => (absurd b6 (by omega))))
            show WP (Call d) 200 P X (23, [some (vr (some 90) 10), some (vi (v9 + v19))], [], (J19_1, H), 0, 0)
            refine WP.go 2 (And.intro (And.intro (Nat.le_of_ble_eq_true rfl) (Nat.le_of_ble_eq_true rfl)) (And.intro trivial (?_)))
            show P (some (vi (v9 + v19))) (J19_1, H)
            have r8 := kv5.trans (pLo_x (by omega) kv6 z10 q19_1)
            exact h.2 (by rw [r8]; exact q19_1) _ _ (by rw [r8]; exact hF_28) hb_30 hu_29 h_26
    exact lp3 ((400 - 0 : Int).toNat + 1) J1 ((pPart tb n p).2.2.1 F) (pPart tb n p) 0 (by omega) (by omega) hL_1 hR_2 hF_3 hu_4 rfl q1 rfl (by omega) h_5
  ·
    show WP (Call d) 200 P X (2, [some (vr (some 90) 10), none], [vi v1], (J1_1, H), 0, 0)
    have h_31 : J1_1 90 11 = dk := g1
    have hL_32 : LTX J1_1 tb n := f1_1.lt hL
    have hF_33 : J1_1 90 10 = (pPart tb n p).1 := e1_1
    have hu_34 : FA I J1_1 := hu.tr f1_1
    have hb_35 : 0 ≤ J1_1 90 9 ∧ J1_1 90 9 ≤ n := b1
    refine WP.go 1 ?_
    show WP (Call d) 200 P X (3, [some (vr (some 90) 10), some (vi v1)], [], (J1_1, H), 0, 0)
    refine WP.go 2 (And.intro rfl (?_))
    refine rw_i (Q := fun x9 => WP (Call d) 200 P X (5, [some (vr (some 90) 10), some (vi v1)], [vi x9], (J1_1, H), 0, 0)) hF_33 ?_
    show WP (Call d) 200 P X (5, [some (vr (some 90) 10), some (vi v1)], [vi ((pPart tb n p).1)], (J1_1, H), 0, 0)
    refine WP.go 2 (And.intro (fun (b6 : ¬ (pPart tb n p).1 = (-1)) => ?_) (fun (b6 : (pPart tb n p).1 = (-1)) => (absurd b6 (by omega))))
    show WP (Call d) 200 P X (23, [some (vr (some 90) 10), some (vi v1)], [], (J1_1, H), 0, 0)
    refine WP.go 2 (And.intro (And.intro (Nat.le_of_ble_eq_true rfl) (Nat.le_of_ble_eq_true rfl)) (And.intro trivial (?_)))
    show P (some (vi v1)) (J1_1, H)
    have r8 : (pSum tb n p) = pPart tb n p := pLo_e 400 q1_1
    exact h.2 (by rw [r8]; exact q1_1) _ _ (by rw [r8]; exact hF_33) hb_35 hu_34 h_31

theorem s_12_plain {d : Nat} {P : Option qV → qH → Prop} {X : Nat → qH → Prop} {I : qI} {H : qS} (hd : 7 ≤ d) {F tb : Int → Int} {n p dk : Int} (hS : Shp H) (hL : LTX I tb n) (hR : RAT I tb n p) (hF : I 90 10 = -1) (h11 : I 90 11 = dk) (hfr : FR I F) (hFB : FB F) (h : ((pPlain tb n p).1 = -1 → ∀ J : qI, RAT J tb n (pPlain tb n p).2.2.2 → F9 I J → P (some (vi ((pPlain tb n p).2.2.1 F))) (J, H)) ∧ ((pPlain tb n p).1 ≠ -1 → ∀ (J : qI) (v : Int), J 90 10 = (pPlain tb n p).1 → (0 ≤ J 90 9 ∧ J 90 9 ≤ n) → FA I J → J 90 11 = dk → (v = 0 ∨ v = 1) → P (some (vi v)) (J, H))) :
    Call d 201 [vr (some 90) 10] (I, H) P X := by
  obtain ⟨d, rfl⟩ : ∃ e, d = e + 1 := ⟨d - 1, by omega⟩
  have hu := FA.rf I
  have hpb := hR.bd
  have hb := hR.1
  have hn := hL.2.1
  show WP (Call d) 201 P X (0, [some (vr (some 90) 10), none, none, none], [], (I, H), 0, 0)
  refine WP.go 3 (And.intro (And.intro (Nat.le_of_ble_eq_true rfl) (Nat.le_of_ble_eq_true rfl)) (And.intro rfl (?_)))
  show Call d 191 [vr (some 90) 10, vr (some 15) 100] (I, H) _ _
  refine s_12_has (by omega) hS hL hR (by omega) ⟨(fun q2 J2 e2 f2 => ?_), (fun q2_1 J2_1 e2_1 f2_1 => ?_)⟩
  ·
    show WP (Call d) 201 P X (3, [some (vr (some 90) 10), none, none, none], [vi 1], (J2, H), 0, 0)
    have hL_1 : LTX J2 tb n := f2.lt hL
    have pb9 := hR.bd
    have nb9 := nx_bd (tb := tb) pb9.1 (th_lt (tb := tb) pb9.2.1 (fun z => absurd (q2.symm.trans z) (by decide)))
    have hR_2 : RAT J2 tb n (nx tb n p) := rat_go hR (fun z => absurd (q2.symm.trans z) (by decide)) e2
    have hF_3 : J2 90 10 = _ := (f2.1 10 (by omega)).trans hF
    have hu_4 : FA I J2 := hu.n f2
    have h_5 : J2 90 11 = _ := (f2.1 11 (by omega)).trans h11
    have hb_6 : 0 ≤ J2 90 9 ∧ J2 90 9 ≤ n := hR_2.1
    refine WP.go 1 (And.intro (fun (b3 : 1 = 0) => (absurd b3 (by omega))) (fun (b3 : ¬ 1 = 0) => ?_))
    show WP (Call d) 201 P X (4, [some (vr (some 90) 10), none, none, none], [], (J2, H), 0, 0)
    refine WP.go 2 (And.intro rfl (?_))
    refine rw_i (Q := fun x9 => WP (Call d) 201 P X (6, [some (vr (some 90) 10), none, none, none], [vi x9], (J2, H), 0, 0)) ((hu_4.fr hfr).2.1) ?_
    show WP (Call d) 201 P X (6, [some (vr (some 90) 10), none, none, none], [vi (F 5)], (J2, H), 0, 0)
    refine WP.go 1 (And.intro (And.intro (Nat.le_of_ble_eq_true rfl) (Nat.le_of_ble_eq_true rfl)) (And.intro (hFB.2 5 (by omega) (by omega)) (?_)))
    show P (some (vi (F 5))) (J2, H)
    have t : th tb n p = 1021 := q2
    have r9 := pPlain_1 (tb := tb) (n := n) (p := p) (by omega)
    exact fin_i (by rw [r9]; show F 5 = F (5 + (th tb n p - 1021)); rw [show 5 + (th tb n p - 1021) = 5 by omega]) (h.1 (by rw [r9]) _ (by rw [r9]; exact hR_2) (hu_4.z hF hF_3 h11 h_5))
  ·
    show WP (Call d) 201 P X (3, [some (vr (some 90) 10), none, none, none], [vi 0], (J2_1, H), 0, 0)
    have hL_7 : LTX J2_1 tb n := f2_1.lt hL
    have hR_8 : RAT J2_1 tb n p := RAT.of hR.bd e2_1
    have h_9 : J2_1 90 9 = p := e2_1
    have hF_10 : J2_1 90 10 = _ := (f2_1.1 10 (by omega)).trans hF
    have hu_11 : FA I J2_1 := hu.n f2_1
    have h_12 : J2_1 90 11 = _ := (f2_1.1 11 (by omega)).trans h11
    have hb_13 : 0 ≤ J2_1 90 9 ∧ J2_1 90 9 ≤ n := hR_8.1
    refine WP.go 1 (And.intro (fun (b3 : 0 = 0) => ?_) (fun (b3 : ¬ 0 = 0) => (absurd b3 (by omega))))
    show WP (Call d) 201 P X (7, [some (vr (some 90) 10), none, none, none], [], (J2_1, H), 0, 0)
    refine WP.go 3 (And.intro (And.intro (Nat.le_of_ble_eq_true rfl) (Nat.le_of_ble_eq_true rfl)) (And.intro rfl (?_)))
    show Call d 191 [vr (some 90) 10, vr (some 16) 100] (J2_1, H) _ _
    refine s_12_has (by omega) hS hL_7 hR_8 (by omega) ⟨(fun q9 J9 e9 f9 => ?_), (fun q9_1 J9_1 e9_1 f9_1 => ?_)⟩
    ·
      show WP (Call d) 201 P X (10, [some (vr (some 90) 10), none, none, none], [vi 1], (J9, H), 0, 0)
      have hL_14 : LTX J9 tb n := f9.lt hL_7
      have pb9 := hR_8.bd
      have nb9 := nx_bd (tb := tb) pb9.1 (th_lt (tb := tb) pb9.2.1 (fun z => absurd (q9.symm.trans z) (by decide)))
      have hR_15 : RAT J9 tb n (nx tb n p) := rat_go hR_8 (fun z => absurd (q9.symm.trans z) (by decide)) e9
      have hF_16 : J9 90 10 = _ := (f9.1 10 (by omega)).trans hF_10
      have hu_17 : FA I J9 := hu_11.n f9
      have h_18 : J9 90 11 = _ := (f9.1 11 (by omega)).trans h_12
      have hb_19 : 0 ≤ J9 90 9 ∧ J9 90 9 ≤ n := hR_15.1
      refine WP.go 1 (And.intro (fun (b10 : 1 = 0) => (absurd b10 (by omega))) (fun (b10 : ¬ 1 = 0) => ?_))
      show WP (Call d) 201 P X (11, [some (vr (some 90) 10), none, none, none], [], (J9, H), 0, 0)
      refine WP.go 2 (And.intro rfl (?_))
      refine rw_i (Q := fun x9 => WP (Call d) 201 P X (13, [some (vr (some 90) 10), none, none, none], [vi x9], (J9, H), 0, 0)) ((hu_17.fr hfr).2.2.1) ?_
      show WP (Call d) 201 P X (13, [some (vr (some 90) 10), none, none, none], [vi (F 6)], (J9, H), 0, 0)
      refine WP.go 1 (And.intro (And.intro (Nat.le_of_ble_eq_true rfl) (Nat.le_of_ble_eq_true rfl)) (And.intro (hFB.2 6 (by omega) (by omega)) (?_)))
      show P (some (vi (F 6))) (J9, H)
      have t : th tb n p = 1022 := q9
      have r9 := pPlain_1 (tb := tb) (n := n) (p := p) (by omega)
      exact fin_i (by rw [r9]; show F 6 = F (5 + (th tb n p - 1021)); rw [show 5 + (th tb n p - 1021) = 6 by omega]) (h.1 (by rw [r9]) _ (by rw [r9]; exact hR_15) (hu_17.z hF hF_16 h11 h_18))
    ·
      show WP (Call d) 201 P X (10, [some (vr (some 90) 10), none, none, none], [vi 0], (J9_1, H), 0, 0)
      have hL_20 : LTX J9_1 tb n := f9_1.lt hL_7
      have hR_21 : RAT J9_1 tb n p := RAT.of hR_8.bd e9_1
      have h_22 : J9_1 90 9 = p := e9_1
      have hF_23 : J9_1 90 10 = _ := (f9_1.1 10 (by omega)).trans hF_10
      have hu_24 : FA I J9_1 := hu_11.n f9_1
      have h_25 : J9_1 90 11 = _ := (f9_1.1 11 (by omega)).trans h_12
      have hb_26 : 0 ≤ J9_1 90 9 ∧ J9_1 90 9 ≤ n := hR_21.1
      refine WP.go 1 (And.intro (fun (b10 : 0 = 0) => ?_) (fun (b10 : ¬ 0 = 0) => (absurd b10 (by omega))))
      show WP (Call d) 201 P X (14, [some (vr (some 90) 10), none, none, none], [], (J9_1, H), 0, 0)
      refine WP.go 3 (And.intro (And.intro (Nat.le_of_ble_eq_true rfl) (Nat.le_of_ble_eq_true rfl)) (And.intro rfl (?_)))
      show Call d 191 [vr (some 90) 10, vr (some 17) 100] (J9_1, H) _ _
      refine s_12_has (by omega) hS hL_20 hR_21 (by omega) ⟨(fun q16 J16 e16 f16 => ?_), (fun q16_1 J16_1 e16_1 f16_1 => ?_)⟩
      ·
        show WP (Call d) 201 P X (17, [some (vr (some 90) 10), none, none, none], [vi 1], (J16, H), 0, 0)
        have hL_27 : LTX J16 tb n := f16.lt hL_20
        have pb9 := hR_21.bd
        have nb9 := nx_bd (tb := tb) pb9.1 (th_lt (tb := tb) pb9.2.1 (fun z => absurd (q16.symm.trans z) (by decide)))
        have hR_28 : RAT J16 tb n (nx tb n p) := rat_go hR_21 (fun z => absurd (q16.symm.trans z) (by decide)) e16
        have hF_29 : J16 90 10 = _ := (f16.1 10 (by omega)).trans hF_23
        have hu_30 : FA I J16 := hu_24.n f16
        have h_31 : J16 90 11 = _ := (f16.1 11 (by omega)).trans h_25
        have hb_32 : 0 ≤ J16 90 9 ∧ J16 90 9 ≤ n := hR_28.1
        refine WP.go 1 (And.intro (fun (b17 : 1 = 0) => (absurd b17 (by omega))) (fun (b17 : ¬ 1 = 0) => ?_))
        show WP (Call d) 201 P X (18, [some (vr (some 90) 10), none, none, none], [], (J16, H), 0, 0)
        refine WP.go 2 (And.intro rfl (?_))
        refine rw_i (Q := fun x9 => WP (Call d) 201 P X (20, [some (vr (some 90) 10), none, none, none], [vi x9], (J16, H), 0, 0)) ((hu_30.fr hfr).2.2.2) ?_
        show WP (Call d) 201 P X (20, [some (vr (some 90) 10), none, none, none], [vi (F 7)], (J16, H), 0, 0)
        refine WP.go 1 (And.intro (And.intro (Nat.le_of_ble_eq_true rfl) (Nat.le_of_ble_eq_true rfl)) (And.intro (hFB.2 7 (by omega) (by omega)) (?_)))
        show P (some (vi (F 7))) (J16, H)
        have t : th tb n p = 1023 := q16
        have r9 := pPlain_1 (tb := tb) (n := n) (p := p) (by omega)
        exact fin_i (by rw [r9]; show F 7 = F (5 + (th tb n p - 1021)); rw [show 5 + (th tb n p - 1021) = 7 by omega]) (h.1 (by rw [r9]) _ (by rw [r9]; exact hR_28) (hu_30.z hF hF_29 h11 h_31))
      ·
        show WP (Call d) 201 P X (17, [some (vr (some 90) 10), none, none, none], [vi 0], (J16_1, H), 0, 0)
        have hL_33 : LTX J16_1 tb n := f16_1.lt hL_20
        have hR_34 : RAT J16_1 tb n p := RAT.of hR_21.bd e16_1
        have h_35 : J16_1 90 9 = p := e16_1
        have hF_36 : J16_1 90 10 = _ := (f16_1.1 10 (by omega)).trans hF_23
        have hu_37 : FA I J16_1 := hu_24.n f16_1
        have h_38 : J16_1 90 11 = _ := (f16_1.1 11 (by omega)).trans h_25
        have hb_39 : 0 ≤ J16_1 90 9 ∧ J16_1 90 9 ≤ n := hR_34.1
        refine WP.go 1 (And.intro (fun (b17 : 0 = 0) => ?_) (fun (b17 : ¬ 0 = 0) => (absurd b17 (by omega))))
        show WP (Call d) 201 P X (21, [some (vr (some 90) 10), none, none, none], [], (J16_1, H), 0, 0)
        have n1 : th tb n p ≠ 1021 := q2_1
        have n2 : th tb n p ≠ 1022 := q9_1
        have n3 : th tb n p ≠ 1023 := q16_1
        have r7 : pPlain tb n p = pCmp tb n (pSum tb n p) := pPlain_2 (by omega)
        refine WP.go 2 (And.intro (And.intro (Nat.le_of_ble_eq_true rfl) (Nat.le_of_ble_eq_true rfl)) (And.intro rfl (?_)))
        show Call d 200 [vr (some 90) 10] (J16_1, H) _ _
        refine s_12_sum (by omega) hS hL_33 hR_34 hF_36 h_38 (hu_37.fr hfr) hFB ⟨(fun q22 J22 e22 f22 => ?_), (fun q22_1 J22_1 v22 e22_1 b22 f22_1 g22 => ?_)⟩
        ·
          show WP (Call d) 201 P X (23, [some (vr (some 90) 10), none, none, none], [vi ((pSum tb n p).2.2.1 F)], (J22, H), 0, 0)
          have hL_40 : LTX J22 tb n := f22.lt hL_33
          have pb9 := hR_34.bd
          have gd9 := pSum_gd (tb := tb) (n := n) (p := p) (by omega) (by omega) (by omega) q22
          have ga9 := gd9.1
          have gb9 := gd9.2.1
          have hR_41 : RAT J22 tb n (pSum tb n p).2.2.2 := e22
          have hF_42 : J22 90 10 = _ := (f22.1 10 (by omega)).trans hF_36
          have hu_43 : FA I J22 := hu_37.n f22
          have h_44 : J22 90 11 = _ := (f22.1 11 (by omega)).trans h_38
          have hb_45 : 0 ≤ J22 90 9 ∧ J22 90 9 ≤ n := hR_41.1
          refine WP.go 3 (And.intro rfl (?_))
          refine rw_i (Q := fun x9 => WP (Call d) 201 P X (26, [some (vr (some 90) 10), some (vi ((pSum tb n p).2.2.1 F)), none, none], [vi x9], (J22, H), 0, 0)) hF_42 ?_
          show WP (Call d) 201 P X (26, [some (vr (some 90) 10), some (vi ((pSum tb n p).2.2.1 F)), none, none], [vi (-1)], (J22, H), 0, 0)
          refine WP.go 2 (And.intro (fun (b27 : (-1) = (-1)) => ?_) (fun (b27 : ¬ (-1) = (-1)) => (absurd b27 (by omega))))
          show WP (Call d) 201 P X (30, [some (vr (some 90) 10), some (vi ((pSum tb n p).2.2.1 F)), none, none], [], (J22, H), 0, 0)
          refine WP.go 3 (And.intro (And.intro (Nat.le_of_ble_eq_true rfl) (Nat.le_of_ble_eq_true rfl)) (And.intro rfl (?_)))
          show Call d 190 [vr (some 90) 10, vi 60] (J22, H) _ _
          refine s_12_isSign (by omega) hS hL_40 hR_41 ⟨by omega, by unfold isL; omega, by unfold isD; omega⟩ (fun J32 e32 f32 => ?_)
          show WP (Call d) 201 P X (33, [some (vr (some 90) 10), some (vi ((pSum tb n p).2.2.1 F)), none, none], [vi (bz (th tb n (pSum tb n p).2.2.2 = 2000 + 60))], (J32, H), 0, 0)
          have hL_46 : LTX J32 tb n := f32.lt hL_40
          have hR_47 : RAT J32 tb n (pSum tb n p).2.2.2 := RAT.of hR_41.bd e32
          have h_48 : J32 90 9 = (pSum tb n p).2.2.2 := e32
          have hF_49 : J32 90 10 = _ := (f32.1 10 (by omega)).trans hF_42
          have hu_50 : FA I J32 := hu_43.n f32
          have h_51 : J32 90 11 = _ := (f32.1 11 (by omega)).trans h_44
          have hb_52 : 0 ≤ J32 90 9 ∧ J32 90 9 ≤ n := hR_47.1
          refine WP.go 3 (And.intro (fun (b35 : ¬ bz (th tb n (pSum tb n p).2.2.2 = 2000 + 60) = 0) => ?_) (fun (b35 : bz (th tb n (pSum tb n p).2.2.2 = 2000 + 60) = 0) => ?_))
          ·
            show WP (Call d) 201 P X (46, [some (vr (some 90) 10), some (vi ((pSum tb n p).2.2.1 F)), some (vi (bz (th tb n (pSum tb n p).2.2.2 = 2000 + 60))), none], [], (J32, H), 0, 0)
            have z35 := bz_e1.mp b35
            have hz : th tb n (pSum tb n p).2.2.2 = 2060 ∨ th tb n (pSum tb n p).2.2.2 = 2062 := by first | exact .inl z35 | exact .inr z39
            refine WP.go 3 (And.intro rfl (?_))
            refine rw_i (Q := fun x9 => WP (Call d) 201 P X (49, [some (vr (some 90) 10), some (vi ((pSum tb n p).2.2.1 F)), some (vi (bz (th tb n (pSum tb n p).2.2.2 = 2000 + 60))), none], [vi x9, vr (some 90) 10], (J32, H), 0, 0)) h_48 ?_
            show WP (Call d) 201 P X (49, [some (vr (some 90) 10), some (vi ((pSum tb n p).2.2.1 F)), some (vi (bz (th tb n (pSum tb n p).2.2.2 = 2000 + 60))), none], [vi ((pSum tb n p).2.2.2), vr (some 90) 10], (J32, H), 0, 0)
            refine WP.go 3 (Exists.intro (((pSum tb n p).2.2.2) + 1) (And.intro (wrp_a (by omega) (by omega)) (And.intro (And.intro rfl trivial) (?_))))
            show WP (Call d) 201 P X (52, [some (vr (some 90) 10), some (vi ((pSum tb n p).2.2.1 F)), some (vi (bz (th tb n (pSum tb n p).2.2.2 = 2000 + 60))), none], [], ((upI J32 90 9 (((pSum tb n p).2.2.2) + 1)), H), 0, 0)
            generalize hq_B0 : (upI J32 90 9 (((pSum tb n p).2.2.2) + 1)) = B0
            have e_B0 : B0 90 = (fun j => if j = 9 then (((pSum tb n p).2.2.2) + 1) else J32 90 j) := by rw [← hq_B0]; exact upI_self _ _ _ _
            have f_B0 : ∀ a, a ≠ 90 → B0 a = J32 a := fun a q => by rw [← hq_B0]; exact upI_cell q
            have hu_53 : FA I B0 := hu_50.o (.inl rfl) e_B0 f_B0
            have hL_54 : LTX B0 tb n := hL_46.fr (by rw [e_B0]; rfl) (by rw [e_B0]; rfl) (f_B0 94 (by omega)) (f_B0 91 (by omega))
            have hF_55 : B0 90 10 = -1 := by rw [e_B0]; exact hF_49
            have h_56 : B0 90 11 = dk := by rw [e_B0]; exact h_51
            have b99 : B0 90 9 = (pSum tb n p).2.2.2 + 1 := by rw [e_B0]; rfl
            have hpb9 := hR_47.bd
            have s99 : (pSum tb n p).2.2.2 < n ∧ nx tb n (pSum tb n p).2.2.2 = sk tb n ((pSum tb n p).2.2.2 + 1) := hz.elim (fun z => nx_semi hpb9.1 hpb9.2.1 hL_54.2.2.1 (c := 60) ⟨by omega, by unfold isL; omega, by unfold isD; omega⟩ z) (fun z => nx_semi hpb9.1 hpb9.2.1 hL_54.2.2.1 (c := 62) ⟨by omega, by unfold isL; omega, by unfold isD; omega⟩ z)
            have nb9 := nx_bd (tb := tb) hpb9.1 s99.1
            have hR_57 : RAT B0 tb n (nx tb n (pSum tb n p).2.2.2) := ⟨by rw [b99]; omega, by rw [b99]; exact s99.2.symm⟩
            have hb_58 : 0 ≤ B0 90 9 ∧ B0 90 9 ≤ n := hR_57.1
            refine WP.go 2 (And.intro (And.intro (Nat.le_of_ble_eq_true rfl) (Nat.le_of_ble_eq_true rfl)) (And.intro rfl (?_)))
            show Call d 200 [vr (some 90) 10] (B0, H) _ _
            refine s_12_sum (by omega) hS hL_54 hR_57 hF_55 h_56 (hu_53.fr hfr) hFB ⟨(fun q53 J53 e53 f53 => ?_), (fun q53_1 J53_1 v53 e53_1 b53 f53_1 g53 => ?_)⟩
            ·
              show WP (Call d) 201 P X (54, [some (vr (some 90) 10), some (vi ((pSum tb n p).2.2.1 F)), some (vi (bz (th tb n (pSum tb n p).2.2.2 = 2000 + 60))), none], [vi ((pSum tb n (nx tb n (pSum tb n p).2.2.2)).2.2.1 F)], (J53, H), 0, 0)
              have hL_59 : LTX J53 tb n := f53.lt hL_54
              have pb9 := hR_57.bd
              have gd9 := pSum_gd (tb := tb) (n := n) (p := (nx tb n (pSum tb n p).2.2.2)) (by omega) (by omega) (by omega) q53
              have ga9 := gd9.1
              have gb9 := gd9.2.1
              have hR_60 : RAT J53 tb n (pSum tb n (nx tb n (pSum tb n p).2.2.2)).2.2.2 := e53
              have hF_61 : J53 90 10 = _ := (f53.1 10 (by omega)).trans hF_55
              have hu_62 : FA I J53 := hu_53.n f53
              have h_63 : J53 90 11 = _ := (f53.1 11 (by omega)).trans h_56
              have hb_64 : 0 ≤ J53 90 9 ∧ J53 90 9 ≤ n := hR_60.1
              refine WP.go 3 (And.intro (fun (b56 : bz (th tb n (pSum tb n p).2.2.2 = 2000 + 60) = 0) => (by exact absurd z35 (bz_e0.mp b56))) (fun (b56 : ¬ bz (th tb n (pSum tb n p).2.2.2 = 2000 + 60) = 0) => ?_))
              show WP (Call d) 201 P X (57, [some (vr (some 90) 10), some (vi ((pSum tb n p).2.2.1 F)), some (vi (bz (th tb n (pSum tb n p).2.2.2 = 2000 + 60))), some (vi ((pSum tb n (nx tb n (pSum tb n p).2.2.2)).2.2.1 F))], [], (J53, H), 0, 0)
              have z56 := bz_e1.mp b56
              refine WP.go 3 (And.intro (fun (b59 : ¬ (pSum tb n p).2.2.1 F < (pSum tb n (nx tb n (pSum tb n p).2.2.2)).2.2.1 F) => ?_) (fun (b59 : (pSum tb n p).2.2.1 F < (pSum tb n (nx tb n (pSum tb n p).2.2.2)).2.2.1 F) => ?_))
              ·
                show WP (Call d) 201 P X (62, [some (vr (some 90) 10), some (vi ((pSum tb n p).2.2.1 F)), some (vi (bz (th tb n (pSum tb n p).2.2.2 = 2000 + 60))), some (vi ((pSum tb n (nx tb n (pSum tb n p).2.2.2)).2.2.1 F))], [], (J53, H), 0, 0)
                refine WP.go 3 (And.intro (And.intro (Nat.le_of_ble_eq_true rfl) (Nat.le_of_ble_eq_true rfl)) (And.intro (Or.inl rfl) (?_)))
                show P (some (vi 0)) (J53, H)
                have r9 := r7.trans (pCmp_4 q22 hz q53)
                exact fin_i (by rw [r9]; show _ = (if th tb n (pSum tb n p).2.2.2 = 2060 then (if (pSum tb n p).2.2.1 F < (pSum tb n (nx tb n (pSum tb n p).2.2.2)).2.2.1 F then 1 else 0) else (if (pSum tb n (nx tb n (pSum tb n p).2.2.2)).2.2.1 F < (pSum tb n p).2.2.1 F then 1 else 0)); rw [if_pos (show th tb n (pSum tb n p).2.2.2 = 2060 from z35), if_neg (by omega)]) (h.1 (by rw [r9]) _ (by rw [r9]; exact hR_60) (hu_62.z hF hF_61 h11 h_63))
              ·
                show WP (Call d) 201 P X (60, [some (vr (some 90) 10), some (vi ((pSum tb n p).2.2.1 F)), some (vi (bz (th tb n (pSum tb n p).2.2.2 = 2000 + 60))), some (vi ((pSum tb n (nx tb n (pSum tb n p).2.2.2)).2.2.1 F))], [], (J53, H), 0, 0)
                refine WP.go 3 (And.intro (And.intro (Nat.le_of_ble_eq_true rfl) (Nat.le_of_ble_eq_true rfl)) (And.intro (Or.inr rfl) (?_)))
                show P (some (vi 1)) (J53, H)
                have r9 := r7.trans (pCmp_4 q22 hz q53)
                exact fin_i (by rw [r9]; show _ = (if th tb n (pSum tb n p).2.2.2 = 2060 then (if (pSum tb n p).2.2.1 F < (pSum tb n (nx tb n (pSum tb n p).2.2.2)).2.2.1 F then 1 else 0) else (if (pSum tb n (nx tb n (pSum tb n p).2.2.2)).2.2.1 F < (pSum tb n p).2.2.1 F then 1 else 0)); rw [if_pos (show th tb n (pSum tb n p).2.2.2 = 2060 from z35), if_pos (by omega)]) (h.1 (by rw [r9]) _ (by rw [r9]; exact hR_60) (hu_62.z hF hF_61 h11 h_63))
            ·
              show WP (Call d) 201 P X (54, [some (vr (some 90) 10), some (vi ((pSum tb n p).2.2.1 F)), some (vi (bz (th tb n (pSum tb n p).2.2.2 = 2000 + 60))), none], [vi v53], (J53_1, H), 0, 0)
              have h_65 : J53_1 90 11 = dk := g53
              have hL_66 : LTX J53_1 tb n := f53_1.lt hL_54
              have hF_67 : J53_1 90 10 = (pSum tb n (nx tb n (pSum tb n p).2.2.2)).1 := e53_1
              have hu_68 : FA I J53_1 := hu_53.tr f53_1
              have hb_69 : 0 ≤ J53_1 90 9 ∧ J53_1 90 9 ≤ n := b53
              refine WP.go 3 (And.intro (fun (b56 : bz (th tb n (pSum tb n p).2.2.2 = 2000 + 60) = 0) => (by exact absurd z35 (bz_e0.mp b56))) (fun (b56 : ¬ bz (th tb n (pSum tb n p).2.2.2 = 2000 + 60) = 0) => ?_))
              show WP (Call d) 201 P X (57, [some (vr (some 90) 10), some (vi ((pSum tb n p).2.2.1 F)), some (vi (bz (th tb n (pSum tb n p).2.2.2 = 2000 + 60))), some (vi v53)], [], (J53_1, H), 0, 0)
              have z56 := bz_e1.mp b56
              refine WP.go 3 (And.intro (fun (b59 : ¬ (pSum tb n p).2.2.1 F < v53) => ?_) (fun (b59 : (pSum tb n p).2.2.1 F < v53) => ?_))
              ·
                show WP (Call d) 201 P X (62, [some (vr (some 90) 10), some (vi ((pSum tb n p).2.2.1 F)), some (vi (bz (th tb n (pSum tb n p).2.2.2 = 2000 + 60))), some (vi v53)], [], (J53_1, H), 0, 0)
                refine WP.go 3 (And.intro (And.intro (Nat.le_of_ble_eq_true rfl) (Nat.le_of_ble_eq_true rfl)) (And.intro (Or.inl rfl) (?_)))
                show P (some (vi 0)) (J53_1, H)
                have r9 := r7.trans (pCmp_3 q22 hz q53_1)
                exact h.2 (by rw [r9]; exact q53_1) _ _ (by rw [r9]; exact hF_67) hb_69 hu_68 h_65 (by omega)
              ·
                show WP (Call d) 201 P X (60, [some (vr (some 90) 10), some (vi ((pSum tb n p).2.2.1 F)), some (vi (bz (th tb n (pSum tb n p).2.2.2 = 2000 + 60))), some (vi v53)], [], (J53_1, H), 0, 0)
                refine WP.go 3 (And.intro (And.intro (Nat.le_of_ble_eq_true rfl) (Nat.le_of_ble_eq_true rfl)) (And.intro (Or.inr rfl) (?_)))
                show P (some (vi 1)) (J53_1, H)
                have r9 := r7.trans (pCmp_3 q22 hz q53_1)
                exact h.2 (by rw [r9]; exact q53_1) _ _ (by rw [r9]; exact hF_67) hb_69 hu_68 h_65 (by omega)
          ·
            show WP (Call d) 201 P X (36, [some (vr (some 90) 10), some (vi ((pSum tb n p).2.2.1 F)), some (vi (bz (th tb n (pSum tb n p).2.2.2 = 2000 + 60))), none], [], (J32, H), 0, 0)
            have z35 := bz_e0.mp b35
            refine WP.go 3 (And.intro (And.intro (Nat.le_of_ble_eq_true rfl) (Nat.le_of_ble_eq_true rfl)) (And.intro rfl (?_)))
            show Call d 190 [vr (some 90) 10, vi 62] (J32, H) _ _
            refine s_12_isSign (by omega) hS hL_46 hR_47 ⟨by omega, by unfold isL; omega, by unfold isD; omega⟩ (fun J38 e38 f38 => ?_)
            show WP (Call d) 201 P X (39, [some (vr (some 90) 10), some (vi ((pSum tb n p).2.2.1 F)), some (vi (bz (th tb n (pSum tb n p).2.2.2 = 2000 + 60))), none], [vi (bz (th tb n (pSum tb n p).2.2.2 = 2000 + 62))], (J38, H), 0, 0)
            have hL_70 : LTX J38 tb n := f38.lt hL_46
            have hR_71 : RAT J38 tb n (pSum tb n p).2.2.2 := RAT.of hR_47.bd e38
            have h_72 : J38 90 9 = (pSum tb n p).2.2.2 := e38
            have hF_73 : J38 90 10 = _ := (f38.1 10 (by omega)).trans hF_49
            have hu_74 : FA I J38 := hu_50.n f38
            have h_75 : J38 90 11 = _ := (f38.1 11 (by omega)).trans h_51
            have hb_76 : 0 ≤ J38 90 9 ∧ J38 90 9 ≤ n := hR_71.1
            refine WP.go 1 (And.intro (fun (b39 : ¬ bz (th tb n (pSum tb n p).2.2.2 = 2000 + 62) = 0) => ?_) (fun (b39 : bz (th tb n (pSum tb n p).2.2.2 = 2000 + 62) = 0) => ?_))
            ·
              show WP (Call d) 201 P X (46, [some (vr (some 90) 10), some (vi ((pSum tb n p).2.2.1 F)), some (vi (bz (th tb n (pSum tb n p).2.2.2 = 2000 + 60))), none], [], (J38, H), 0, 0)
              have z39 := bz_e1.mp b39
              have hz : th tb n (pSum tb n p).2.2.2 = 2060 ∨ th tb n (pSum tb n p).2.2.2 = 2062 := by first | exact .inl z35 | exact .inr z39
              refine WP.go 3 (And.intro rfl (?_))
              refine rw_i (Q := fun x9 => WP (Call d) 201 P X (49, [some (vr (some 90) 10), some (vi ((pSum tb n p).2.2.1 F)), some (vi (bz (th tb n (pSum tb n p).2.2.2 = 2000 + 60))), none], [vi x9, vr (some 90) 10], (J38, H), 0, 0)) h_72 ?_
              show WP (Call d) 201 P X (49, [some (vr (some 90) 10), some (vi ((pSum tb n p).2.2.1 F)), some (vi (bz (th tb n (pSum tb n p).2.2.2 = 2000 + 60))), none], [vi ((pSum tb n p).2.2.2), vr (some 90) 10], (J38, H), 0, 0)
              refine WP.go 3 (Exists.intro (((pSum tb n p).2.2.2) + 1) (And.intro (wrp_a (by omega) (by omega)) (And.intro (And.intro rfl trivial) (?_))))
              show WP (Call d) 201 P X (52, [some (vr (some 90) 10), some (vi ((pSum tb n p).2.2.1 F)), some (vi (bz (th tb n (pSum tb n p).2.2.2 = 2000 + 60))), none], [], ((upI J38 90 9 (((pSum tb n p).2.2.2) + 1)), H), 0, 0)
              generalize hq_B0 : (upI J38 90 9 (((pSum tb n p).2.2.2) + 1)) = B0
              have e_B0 : B0 90 = (fun j => if j = 9 then (((pSum tb n p).2.2.2) + 1) else J38 90 j) := by rw [← hq_B0]; exact upI_self _ _ _ _
              have f_B0 : ∀ a, a ≠ 90 → B0 a = J38 a := fun a q => by rw [← hq_B0]; exact upI_cell q
              have hu_77 : FA I B0 := hu_74.o (.inl rfl) e_B0 f_B0
              have hL_78 : LTX B0 tb n := hL_70.fr (by rw [e_B0]; rfl) (by rw [e_B0]; rfl) (f_B0 94 (by omega)) (f_B0 91 (by omega))
              have hF_79 : B0 90 10 = -1 := by rw [e_B0]; exact hF_73
              have h_80 : B0 90 11 = dk := by rw [e_B0]; exact h_75
              have b99 : B0 90 9 = (pSum tb n p).2.2.2 + 1 := by rw [e_B0]; rfl
              have hpb9 := hR_71.bd
              have s99 : (pSum tb n p).2.2.2 < n ∧ nx tb n (pSum tb n p).2.2.2 = sk tb n ((pSum tb n p).2.2.2 + 1) := hz.elim (fun z => nx_semi hpb9.1 hpb9.2.1 hL_78.2.2.1 (c := 60) ⟨by omega, by unfold isL; omega, by unfold isD; omega⟩ z) (fun z => nx_semi hpb9.1 hpb9.2.1 hL_78.2.2.1 (c := 62) ⟨by omega, by unfold isL; omega, by unfold isD; omega⟩ z)
              have nb9 := nx_bd (tb := tb) hpb9.1 s99.1
              have hR_81 : RAT B0 tb n (nx tb n (pSum tb n p).2.2.2) := ⟨by rw [b99]; omega, by rw [b99]; exact s99.2.symm⟩
              have hb_82 : 0 ≤ B0 90 9 ∧ B0 90 9 ≤ n := hR_81.1
              refine WP.go 2 (And.intro (And.intro (Nat.le_of_ble_eq_true rfl) (Nat.le_of_ble_eq_true rfl)) (And.intro rfl (?_)))
              show Call d 200 [vr (some 90) 10] (B0, H) _ _
              refine s_12_sum (by omega) hS hL_78 hR_81 hF_79 h_80 (hu_77.fr hfr) hFB ⟨(fun q53_2 J53_2 e53_2 f53_2 => ?_), (fun q53_3 J53_3 v53_1 e53_3 b53_1 f53_3 g53_1 => ?_)⟩
              ·
                show WP (Call d) 201 P X (54, [some (vr (some 90) 10), some (vi ((pSum tb n p).2.2.1 F)), some (vi (bz (th tb n (pSum tb n p).2.2.2 = 2000 + 60))), none], [vi ((pSum tb n (nx tb n (pSum tb n p).2.2.2)).2.2.1 F)], (J53_2, H), 0, 0)
                have hL_83 : LTX J53_2 tb n := f53_2.lt hL_78
                have pb9 := hR_81.bd
                have gd9 := pSum_gd (tb := tb) (n := n) (p := (nx tb n (pSum tb n p).2.2.2)) (by omega) (by omega) (by omega) q53_2
                have ga9 := gd9.1
                have gb9 := gd9.2.1
                have hR_84 : RAT J53_2 tb n (pSum tb n (nx tb n (pSum tb n p).2.2.2)).2.2.2 := e53_2
                have hF_85 : J53_2 90 10 = _ := (f53_2.1 10 (by omega)).trans hF_79
                have hu_86 : FA I J53_2 := hu_77.n f53_2
                have h_87 : J53_2 90 11 = _ := (f53_2.1 11 (by omega)).trans h_80
                have hb_88 : 0 ≤ J53_2 90 9 ∧ J53_2 90 9 ≤ n := hR_84.1
                refine WP.go 3 (And.intro (fun (b56 : bz (th tb n (pSum tb n p).2.2.2 = 2000 + 60) = 0) => ?_) (fun (b56 : ¬ bz (th tb n (pSum tb n p).2.2.2 = 2000 + 60) = 0) => (by exact absurd (bz_e1.mp b56) z35)))
                show WP (Call d) 201 P X (64, [some (vr (some 90) 10), some (vi ((pSum tb n p).2.2.1 F)), some (vi (bz (th tb n (pSum tb n p).2.2.2 = 2000 + 60))), some (vi ((pSum tb n (nx tb n (pSum tb n p).2.2.2)).2.2.1 F))], [], (J53_2, H), 0, 0)
                have z56 := bz_e0.mp b56
                refine WP.go 3 (And.intro (fun (b66 : ¬ (pSum tb n (nx tb n (pSum tb n p).2.2.2)).2.2.1 F < (pSum tb n p).2.2.1 F) => ?_) (fun (b66 : (pSum tb n (nx tb n (pSum tb n p).2.2.2)).2.2.1 F < (pSum tb n p).2.2.1 F) => ?_))
                ·
                  show WP (Call d) 201 P X (69, [some (vr (some 90) 10), some (vi ((pSum tb n p).2.2.1 F)), some (vi (bz (th tb n (pSum tb n p).2.2.2 = 2000 + 60))), some (vi ((pSum tb n (nx tb n (pSum tb n p).2.2.2)).2.2.1 F))], [], (J53_2, H), 0, 0)
                  refine WP.go 2 (And.intro (And.intro (Nat.le_of_ble_eq_true rfl) (Nat.le_of_ble_eq_true rfl)) (And.intro (Or.inl rfl) (?_)))
                  show P (some (vi 0)) (J53_2, H)
                  have r9 := r7.trans (pCmp_4 q22 hz q53_2)
                  exact fin_i (by rw [r9]; show _ = (if th tb n (pSum tb n p).2.2.2 = 2060 then (if (pSum tb n p).2.2.1 F < (pSum tb n (nx tb n (pSum tb n p).2.2.2)).2.2.1 F then 1 else 0) else (if (pSum tb n (nx tb n (pSum tb n p).2.2.2)).2.2.1 F < (pSum tb n p).2.2.1 F then 1 else 0)); rw [if_neg (show ¬ th tb n (pSum tb n p).2.2.2 = 2060 from z35), if_neg (by omega)]) (h.1 (by rw [r9]) _ (by rw [r9]; exact hR_84) (hu_86.z hF hF_85 h11 h_87))
                ·
                  show WP (Call d) 201 P X (67, [some (vr (some 90) 10), some (vi ((pSum tb n p).2.2.1 F)), some (vi (bz (th tb n (pSum tb n p).2.2.2 = 2000 + 60))), some (vi ((pSum tb n (nx tb n (pSum tb n p).2.2.2)).2.2.1 F))], [], (J53_2, H), 0, 0)
                  refine WP.go 3 (And.intro (And.intro (Nat.le_of_ble_eq_true rfl) (Nat.le_of_ble_eq_true rfl)) (And.intro (Or.inr rfl) (?_)))
                  show P (some (vi 1)) (J53_2, H)
                  have r9 := r7.trans (pCmp_4 q22 hz q53_2)
                  exact fin_i (by rw [r9]; show _ = (if th tb n (pSum tb n p).2.2.2 = 2060 then (if (pSum tb n p).2.2.1 F < (pSum tb n (nx tb n (pSum tb n p).2.2.2)).2.2.1 F then 1 else 0) else (if (pSum tb n (nx tb n (pSum tb n p).2.2.2)).2.2.1 F < (pSum tb n p).2.2.1 F then 1 else 0)); rw [if_neg (show ¬ th tb n (pSum tb n p).2.2.2 = 2060 from z35), if_pos (by omega)]) (h.1 (by rw [r9]) _ (by rw [r9]; exact hR_84) (hu_86.z hF hF_85 h11 h_87))
              ·
                show WP (Call d) 201 P X (54, [some (vr (some 90) 10), some (vi ((pSum tb n p).2.2.1 F)), some (vi (bz (th tb n (pSum tb n p).2.2.2 = 2000 + 60))), none], [vi v53_1], (J53_3, H), 0, 0)
                have h_89 : J53_3 90 11 = dk := g53_1
                have hL_90 : LTX J53_3 tb n := f53_3.lt hL_78
                have hF_91 : J53_3 90 10 = (pSum tb n (nx tb n (pSum tb n p).2.2.2)).1 := e53_3
                have hu_92 : FA I J53_3 := hu_77.tr f53_3
                have hb_93 : 0 ≤ J53_3 90 9 ∧ J53_3 90 9 ≤ n := b53_1
                refine WP.go 3 (And.intro (fun (b56 : bz (th tb n (pSum tb n p).2.2.2 = 2000 + 60) = 0) => ?_) (fun (b56 : ¬ bz (th tb n (pSum tb n p).2.2.2 = 2000 + 60) = 0) => (by exact absurd (bz_e1.mp b56) z35)))
                show WP (Call d) 201 P X (64, [some (vr (some 90) 10), some (vi ((pSum tb n p).2.2.1 F)), some (vi (bz (th tb n (pSum tb n p).2.2.2 = 2000 + 60))), some (vi v53_1)], [], (J53_3, H), 0, 0)
                have z56 := bz_e0.mp b56
                refine WP.go 3 (And.intro (fun (b66 : ¬ v53_1 < (pSum tb n p).2.2.1 F) => ?_) (fun (b66 : v53_1 < (pSum tb n p).2.2.1 F) => ?_))
                ·
                  show WP (Call d) 201 P X (69, [some (vr (some 90) 10), some (vi ((pSum tb n p).2.2.1 F)), some (vi (bz (th tb n (pSum tb n p).2.2.2 = 2000 + 60))), some (vi v53_1)], [], (J53_3, H), 0, 0)
                  refine WP.go 2 (And.intro (And.intro (Nat.le_of_ble_eq_true rfl) (Nat.le_of_ble_eq_true rfl)) (And.intro (Or.inl rfl) (?_)))
                  show P (some (vi 0)) (J53_3, H)
                  have r9 := r7.trans (pCmp_3 q22 hz q53_3)
                  exact h.2 (by rw [r9]; exact q53_3) _ _ (by rw [r9]; exact hF_91) hb_93 hu_92 h_89 (by omega)
                ·
                  show WP (Call d) 201 P X (67, [some (vr (some 90) 10), some (vi ((pSum tb n p).2.2.1 F)), some (vi (bz (th tb n (pSum tb n p).2.2.2 = 2000 + 60))), some (vi v53_1)], [], (J53_3, H), 0, 0)
                  refine WP.go 3 (And.intro (And.intro (Nat.le_of_ble_eq_true rfl) (Nat.le_of_ble_eq_true rfl)) (And.intro (Or.inr rfl) (?_)))
                  show P (some (vi 1)) (J53_3, H)
                  have r9 := r7.trans (pCmp_3 q22 hz q53_3)
                  exact h.2 (by rw [r9]; exact q53_3) _ _ (by rw [r9]; exact hF_91) hb_93 hu_92 h_89 (by omega)
            ·
              show WP (Call d) 201 P X (40, [some (vr (some 90) 10), some (vi ((pSum tb n p).2.2.1 F)), some (vi (bz (th tb n (pSum tb n p).2.2.2 = 2000 + 60))), none], [], (J38, H), 0, 0)
              have z39 := bz_e0.mp b39
              refine WP.go 3 (And.intro rfl (?_))
              refine rw_i (Q := fun x9 => WP (Call d) 201 P X (43, [some (vr (some 90) 10), some (vi ((pSum tb n p).2.2.1 F)), some (vi (bz (th tb n (pSum tb n p).2.2.2 = 2000 + 60))), none], [vi x9, vr (some 90) 10], (J38, H), 0, 0)) h_72 ?_
              show WP (Call d) 201 P X (43, [some (vr (some 90) 10), some (vi ((pSum tb n p).2.2.1 F)), some (vi (bz (th tb n (pSum tb n p).2.2.2 = 2000 + 60))), none], [vi ((pSum tb n p).2.2.2), vr (some 90) 10], (J38, H), 0, 0)
              refine WP.go 1 (And.intro (And.intro (Nat.le_of_ble_eq_true rfl) (Nat.le_of_ble_eq_true rfl)) (And.intro rfl (?_)))
              show Call d 192 [vr (some 90) 10, vi ((pSum tb n p).2.2.2)] (J38, H) _ _
              refine s_12_wrong (by omega) hF_73 (fun J43 e43 f43 => ?_)
              show WP (Call d) 201 P X (44, [some (vr (some 90) 10), some (vi ((pSum tb n p).2.2.1 F)), some (vi (bz (th tb n (pSum tb n p).2.2.2 = 2000 + 60))), none], [], (J43, H), 0, 0)
              have hF_94 : J43 90 10 = ((pSum tb n p).2.2.2) := by rw [e43]; rfl
              have hu_95 : FA I J43 := hu_74.o (.inr (.inl rfl)) e43 f43
              have hL_96 : LTX J43 tb n := hL_70.fr (by rw [e43]; rfl) (by rw [e43]; rfl) (f43 94 (by omega)) (f43 91 (by omega))
              have h_97 : J43 90 11 = dk := by rw [e43]; exact h_75
              have hb_98 : 0 ≤ J43 90 9 ∧ J43 90 9 ≤ n := by rw [e43]; exact hb_76
              refine WP.go 2 (And.intro (And.intro (Nat.le_of_ble_eq_true rfl) (Nat.le_of_ble_eq_true rfl)) (And.intro (Or.inl rfl) (?_)))
              show P (some (vi 0)) (J43, H)
              have r9 := r7.trans (pCmp_2 q22 (fun z => z.elim z35 z39))
              exact h.2 (by rw [r9]; show (pSum tb n p).2.2.2 ≠ -1; omega) _ _ (by rw [r9]; exact hF_94) hb_98 hu_95 h_97 (by omega)
        ·
          show WP (Call d) 201 P X (23, [some (vr (some 90) 10), none, none, none], [vi v22], (J22_1, H), 0, 0)
          have h_99 : J22_1 90 11 = dk := g22
          have hL_100 : LTX J22_1 tb n := f22_1.lt hL_33
          have hF_101 : J22_1 90 10 = (pSum tb n p).1 := e22_1
          have hu_102 : FA I J22_1 := hu_37.tr f22_1
          have hb_103 : 0 ≤ J22_1 90 9 ∧ J22_1 90 9 ≤ n := b22
          refine WP.go 3 (And.intro rfl (?_))
          refine rw_i (Q := fun x9 => WP (Call d) 201 P X (26, [some (vr (some 90) 10), some (vi v22), none, none], [vi x9], (J22_1, H), 0, 0)) hF_101 ?_
          show WP (Call d) 201 P X (26, [some (vr (some 90) 10), some (vi v22), none, none], [vi ((pSum tb n p).1)], (J22_1, H), 0, 0)
          refine WP.go 2 (And.intro (fun (b27 : (pSum tb n p).1 = (-1)) => (absurd b27 (by omega))) (fun (b27 : ¬ (pSum tb n p).1 = (-1)) => ?_))
          show WP (Call d) 201 P X (28, [some (vr (some 90) 10), some (vi v22), none, none], [], (J22_1, H), 0, 0)
          refine WP.go 2 (And.intro (And.intro (Nat.le_of_ble_eq_true rfl) (Nat.le_of_ble_eq_true rfl)) (And.intro (Or.inl rfl) (?_)))
          show P (some (vi 0)) (J22_1, H)
          have r9 := r7.trans (pCmp_1 q22_1)
          exact h.2 (by rw [r9]; exact q22_1) _ _ (by rw [r9]; exact hF_101) hb_103 hu_102 h_99 (by omega)

