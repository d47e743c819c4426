theorem FS.n {I J K : qI} (h : FS I J) (g : F9 J K) : FS I K := ⟨fun s a b c d e => (g.1 s a).trans (h.1 s a b c d e), fun a q => (g.2 a q).trans (h.2 a q)⟩
theorem FS.o {I J K : qI} (h : FS I J) {s v : Int} (hs : s = 9 ∨ s = 10 ∨ s = 11) (e : K 90 = fun t => if t = s then v else J 90 t) (f : ∀ a, a ≠ 90 → K a = J a) : FS I K := ⟨fun t a b c d g => by rw [e]; exact (if_neg (by omega)).trans (h.1 t a b c d g), fun a q => (f a q).trans (h.2 a q)⟩
theorem s_12_skip_f {d : Nat} {P : Option qV → qH → Prop} {X : Nat → qH → Prop} {I : qI} {H : qS} (hd : 2 ≤ d) {tb : Int → Int} {n : Int} (hS : Shp H) (hL : LTX I tb n) (hb : 0 ≤ I 90 9 ∧ I 90 9 ≤ 1000) (h : ∀ J : qI, F9 I J → P none (J, H)) :
    Call d 189 [vr (some 90) 10] (I, H) P X := by
  obtain ⟨d, rfl⟩ : ∃ e, d = e + 1 := ⟨d - 1, by omega⟩
  have hn := hL.2.1
  show WP (Call d) 189 P X (0, [some (vr (some 90) 10)], [], (I, H), 0, 0)
  have lp0 : ∀ (n9 : Nat) (K : qI) (k : Int) (hm : 1001 - k < (n9 : Int)) (hk : K 90 9 = k) (iv0 : 0 ≤ k ∧ k ≤ 1000) (iv1 : F9 I K), WP (Call d) 189 P X (0, [some (vr (some 90) 10)], [], (K, H), 0, 0) := by
    intro n9
    induction n9 with
    | zero => intro K k hm hk iv0 iv1; exact absurd hm (by omega)
    | succ n9 ih0 =>
      intro K k hm hk iv0 iv1
      have hLk := iv1.lt hL
      have h8k : K 90 8 = n := hLk.1
      refine WP.go 2 (And.intro rfl (?_))
      refine rw_i (Q := fun x9 => WP (Call d) 189 P X (2, [some (vr (some 90) 10)], [vi x9], (K, H), 0, 0)) hk ?_
      show WP (Call d) 189 P X (2, [some (vr (some 90) 10)], [vi k], (K, H), 0, 0)
      refine WP.go 2 (And.intro rfl (?_))
      refine rw_i (Q := fun x9 => WP (Call d) 189 P X (4, [some (vr (some 90) 10)], [vi x9, vi k], (K, H), 0, 0)) h8k ?_
      show WP (Call d) 189 P X (4, [some (vr (some 90) 10)], [vi n, vi k], (K, H), 0, 0)
      refine WP.go 1 (And.intro (fun (b4 : ¬ k < n) => ?_) (fun (b4 : k < n) => ?_))
      ·
        show WP (Call d) 189 P X (18, [some (vr (some 90) 10)], [], (K, H), 0, 0)
        refine WP.go 1 (And.intro (And.intro (Nat.le_of_ble_eq_true rfl) (Nat.le_of_ble_eq_true rfl)) (?_))
        show P none (K, H)
        exact h _ iv1
      ·
        show WP (Call d) 189 P X (5, [some (vr (some 90) 10)], [], (K, H), 0, 0)
        refine WP.go 3 (And.intro rfl (?_))
        refine rw_i (Q := fun x9 => WP (Call d) 189 P X (8, [some (vr (some 90) 10)], [vi x9, vr (some 90) 10], (K, H), 0, 0)) hk ?_
        show WP (Call d) 189 P X (8, [some (vr (some 90) 10)], [vi k, vr (some 90) 10], (K, H), 0, 0)
        refine WP.go 1 (And.intro (And.intro (Nat.le_of_ble_eq_true rfl) (Nat.le_of_ble_eq_true rfl)) (And.intro rfl (?_)))
        show Call d 188 [vr (some 90) 10, vi k] (K, H) _ _
        refine s_12_letter (by omega) hS hLk (by omega) ?_
        show WP (Call d) 189 P X (9, [some (vr (some 90) 10)], [vi (tb k)], (K, H), 0, 0)
        refine WP.go 2 (And.intro (fun (b10 : ¬ tb k = 32) => ?_) (fun (b10 : tb k = 32) => ?_))
        ·
          show WP (Call d) 189 P X (18, [some (vr (some 90) 10)], [], (K, H), 0, 0)
          refine WP.go 1 (And.intro (And.intro (Nat.le_of_ble_eq_true rfl) (Nat.le_of_ble_eq_true rfl)) (?_))
          show P none (K, H)
          exact h _ iv1
        ·
          show WP (Call d) 189 P X (11, [some (vr (some 90) 10)], [], (K, H), 0, 0)
          refine WP.go 3 (And.intro rfl (?_))
          refine rw_i (Q := fun x9 => WP (Call d) 189 P X (14, [some (vr (some 90) 10)], [vi x9, vr (some 90) 10], (K, H), 0, 0)) hk ?_
          show WP (Call d) 189 P X (14, [some (vr (some 90) 10)], [vi k, vr (some 90) 10], (K, H), 0, 0)
          refine WP.go 4 (Exists.intro (k + 1) (And.intro (wrp_a (by omega) (by omega)) (And.intro (And.intro rfl trivial) (?_))))
          show WP (Call d) 189 P X (0, [some (vr (some 90) 10)], [], ((upI K 90 9 (k + 1)), H), 0, 0)
          exact ih0 (upI K 90 9 (k + 1)) (k + 1) (by omega) (upI_same _ _ _ _) (by omega) (iv1.tr (F9.up K _))
  exact lp0 ((1001 - (I 90 9) : Int).toNat + 1) I (I 90 9) (by omega) rfl (by omega) (F9.rf I)

theorem s_12_lines_1 {d : Nat} {P : Option qV → qH → Prop} {X : Nat → qH → Prop} {I : qI} {H : qS} (hd : 43 ≤ d) {tb F : Int → Int} {n Y W : Int} (hS : Shp H) (hL : LTX I tb n) (hF : I 90 10 = -1) (hfr : FR I F) (hFB : FB F) (h17 : I 90 17 = Y) (h16 : I 90 16 = W) (hY : -900000000000000 ≤ Y ∧ Y ≤ 900000000000000) (h : ∀ J : qI, FS I J → J 90 10 = (lnT tb n (lln tb n) ls0).1 → ((lnT tb n (lln tb n) ls0).1 = -1 → J 90 17 = Y + (lnT tb n (lln tb n) ls0).2.2.1 F ∧ J 90 16 = vd ((lnT tb n (lln tb n) ls0).2.2.2 F) W) → (-120000000 ≤ J 90 17 - Y ∧ J 90 17 - Y ≤ 120000000) → P none (J, H)) :
    Call d 196 [vr (some 90) 10, vi 1] (I, H) P X := by
  obtain ⟨d, rfl⟩ : ∃ e, d = e + 1 := ⟨d - 1, by omega⟩
  have hn := hL.2.1
  have hu := FS.rf I
  show WP (Call d) 196 P X (0, [some (vr (some 90) 10), some (vi 1), none, none], [], (I, H), 0, 0)
  refine WP.go 3 (And.intro (And.intro rfl trivial) (?_))
  show WP (Call d) 196 P X (3, [some (vr (some 90) 10), some (vi 1), none, none], [], ((upI I 90 9 0), H), 0, 0)
  generalize hq_A0 : (upI I 90 9 0) = A0
  have e_A0 : A0 90 = (fun j => if j = 9 then 0 else I 90 j) := by rw [← hq_A0]; exact upI_self _ _ _ _
  have f_A0 : ∀ a, a ≠ 90 → A0 a = I a := fun a q => by rw [← hq_A0]; exact upI_cell q
  have hu_1 : FS I A0 := hu.o (.inl rfl) e_A0 f_A0
  refine WP.go 3 (And.intro (And.intro rfl trivial) (?_))
  show WP (Call d) 196 P X (6, [some (vr (some 90) 10), some (vi 1), none, none], [], ((upI A0 90 11 0), H), 0, 0)
  generalize hq_A1 : (upI A0 90 11 0) = A1
  have e_A1 : A1 90 = (fun j => if j = 11 then 0 else A0 90 j) := by rw [← hq_A1]; exact upI_self _ _ _ _
  have f_A1 : ∀ a, a ≠ 90 → A1 a = A0 a := fun a q => by rw [← hq_A1]; exact upI_cell q
  have hu_2 : FS I A1 := hu_1.o (.inr (.inr rfl)) e_A1 f_A1
  have hL_3 : LTX A1 tb n := hu_2.lt hL
  have hF_4 : A1 90 10 = -1 := by rw [e_A1]; show A0 90 10 = -1; rw [e_A0]; exact hF
  have a19 : A1 90 9 = 0 := by rw [e_A1]; show A0 90 9 = 0; rw [e_A0]; rfl
  have hR_5 : RAT A1 tb n (sk tb n 0) := ⟨by rw [a19]; omega, by rw [a19]⟩
  have h_6 : A1 90 11 = 0 := by rw [e_A1]; rfl
  have h_7 : A1 90 17 = Y := by rw [e_A1]; show A0 90 17 = Y; rw [e_A0]; exact h17
  have h_8 : A1 90 16 = W := by rw [e_A1]; show A0 90 16 = W; rw [e_A0]; exact h16
  refine WP.go 2 (And.intro (And.intro (Nat.le_of_ble_eq_true rfl) (Nat.le_of_ble_eq_true rfl)) (And.intro rfl (?_)))
  show Call d 189 [vr (some 90) 10] (A1, H) _ _
  refine s_12_skip (by omega) hS hL_3 hR_5 (fun J7 e7 f7 => ?_)
  show WP (Call d) 196 P X (8, [some (vr (some 90) 10), some (vi 1), none, none], [], (J7, H), 0, 0)
  have hL_9 : LTX J7 tb n := f7.lt hL_3
  have h_10 : J7 90 9 = (sk tb n 0) := e7
  have hR_11 : RAT J7 tb n (sk tb n 0) := RAT.of hR_5.bd e7
  have hF_12 : J7 90 10 = _ := (f7.1 10 (by omega)).trans hF_4
  have hu_13 : FS I J7 := hu_2.n f7
  have h_14 : J7 90 11 = _ := (f7.1 11 (by omega)).trans h_6
  have h_15 : J7 90 17 = _ := (f7.1 17 (by omega)).trans h_7
  have h_16 : J7 90 16 = _ := (f7.1 16 (by omega)).trans h_8
  refine WP.go 1 ?_
  show WP (Call d) 196 P X (9, [some (vr (some 90) 10), some (vi 1), none, none], [vr (some 90) 10], (J7, H), 0, 0)
  have h8 : J7 90 8 = n := hL_9.1
  refine WP.go 1 (And.intro rfl (?_))
  refine rw_i (Q := fun x9 => WP (Call d) 196 P X (10, [some (vr (some 90) 10), some (vi 1), none, none], [vi x9], (J7, H), 0, 0)) h_10 ?_
  show WP (Call d) 196 P X (10, [some (vr (some 90) 10), some (vi 1), none, none], [vi (sk tb n 0)], (J7, H), 0, 0)
  refine WP.go 2 (And.intro rfl (?_))
  refine rw_i (Q := fun x9 => WP (Call d) 196 P X (12, [some (vr (some 90) 10), some (vi 1), none, none], [vi x9, vi (sk tb n 0)], (J7, H), 0, 0)) h8 ?_
  show WP (Call d) 196 P X (12, [some (vr (some 90) 10), some (vi 1), none, none], [vi n, vi (sk tb n 0)], (J7, H), 0, 0)
  refine WP.go 1 (And.intro (fun (b12 : ¬ (sk tb n 0) < n) => ?_) (fun (b12 : (sk tb n 0) < n) => ?_))
  ·
    show WP (Call d) 196 P X (15, [some (vr (some 90) 10), some (vi 1), none, none], [], (J7, H), 0, 0)
    refine WP.go 4 ?_
    show WP (Call d) 196 P X (19, [some (vr (some 90) 10), some (vi 1), some (vi 0), some (vi 0)], [], (J7, H), 0, 0)
    refine WP.go 2 (And.intro (fun (b20 : 0 = 0) => ?_) (fun (b20 : ¬ 0 = 0) => (absurd b20 (by omega))))
    show WP (Call d) 196 P X (79, [some (vr (some 90) 10), some (vi 1), some (vi 0), some (vi 0)], [], (J7, H), 0, 0)
    refine WP.go 1 (And.intro (And.intro (Nat.le_of_ble_eq_true rfl) (Nat.le_of_ble_eq_true rfl)) (?_))
    show P none (J7, H)
    have b9 := hR_11.bd
    have r9 : (lnT tb n (lln tb n) ls0) = (-1, ls0) := if_pos ((th_3000 b9.1 b9.2.1 hL_9.2.2.1).mpr (by omega))
    exact h _ hu_13 (by rw [r9]; exact hF_12) (fun _ => by rw [r9]; exact ⟨h_15.trans (show Y = Y + 0 by omega), h_16⟩) (by rw [h_15]; omega)
  ·
    show WP (Call d) 196 P X (13, [some (vr (some 90) 10), some (vi 1), none, none], [], (J7, H), 0, 0)
    refine WP.go 5 ?_
    show WP (Call d) 196 P X (19, [some (vr (some 90) 10), some (vi 1), some (vi 1), some (vi 0)], [], (J7, H), 0, 0)
    have lp19 : ∀ (n9 : Nat) (K : qI) (i : Int) (c9 : LSt) (p9 : Int) (hm : 13 - i < (n9 : Int)) (kv0 : 0 ≤ i ∧ i ≤ 12) (kv1 : LTX K tb n) (kv2 : RAT K tb n p9) (kv3 : K 90 10 = -1) (kv4 : K 90 17 = Y + c9.2.1 F) (kv5 : LG p9 p9 c9) (kv6 : FS I K) (kv7 : (lnT tb n (lln tb n) ls0) = lnL tb n (lln tb n) (12 - i).toNat p9 c9) (kv8 : K 90 16 = vd (c9.2.2 F) W) (kv9 : K 90 11 = 0), WP (Call d) 196 P X (19, [some (vr (some 90) 10), some (vi 1), some (vi 1), some (vi i)], [], (K, H), 0, 0) := by
      intro n9
      induction n9 with
      | zero => intro K i c9 p9 hm kv0 kv1 kv2 kv3 kv4 kv5 kv6 kv7 kv8 kv9; exact absurd hm (by omega)
      | succ n9 ih19 =>
        intro K i c9 p9 hm kv0 kv1 kv2 kv3 kv4 kv5 kv6 kv7 kv8 kv9
        have qb9 := kv2.bd
        refine WP.go 2 (And.intro (fun (b20 : 1 = 0) => (absurd b20 (by omega))) (fun (b20 : ¬ 1 = 0) => ?_))
        show WP (Call d) 196 P X (21, [some (vr (some 90) 10), some (vi 1), some (vi 1), some (vi i)], [], (K, H), 0, 0)
        refine WP.go 2 (And.intro rfl (?_))
        refine rw_i (Q := fun x9 => WP (Call d) 196 P X (23, [some (vr (some 90) 10), some (vi 1), some (vi 1), some (vi i)], [vi x9], (K, H), 0, 0)) kv3 ?_
        show WP (Call d) 196 P X (23, [some (vr (some 90) 10), some (vi 1), some (vi 1), some (vi i)], [vi (-1)], (K, H), 0, 0)
        refine WP.go 2 (And.intro (fun (b24 : ¬ (-1) = (-1)) => (absurd b24 (by omega))) (fun (b24 : (-1) = (-1)) => ?_))
        show WP (Call d) 196 P X (25, [some (vr (some 90) 10), some (vi 1), some (vi 1), some (vi i)], [], (K, H), 0, 0)
        refine WP.go 2 (And.intro (And.intro (Nat.le_of_ble_eq_true rfl) (Nat.le_of_ble_eq_true rfl)) (And.intro rfl (?_)))
        show Call d 189 [vr (some 90) 10] (K, H) _ _
        refine s_12_skip (by omega) hS kv1 kv2 (fun J26 e26 f26 => ?_)
        show WP (Call d) 196 P X (27, [some (vr (some 90) 10), some (vi 1), some (vi 1), some (vi i)], [], (J26, H), 0, 0)
        have hL_17 : LTX J26 tb n := f26.lt kv1
        have h_18 : J26 90 9 = p9 := e26
        have hR_19 : RAT J26 tb n p9 := RAT.of kv2.bd e26
        have hF_20 : J26 90 10 = _ := (f26.1 10 (by omega)).trans kv3
        have hu_21 : FS I J26 := kv6.n f26
        have h_22 : J26 90 11 = _ := (f26.1 11 (by omega)).trans kv9
        have h_23 : J26 90 17 = _ := (f26.1 17 (by omega)).trans kv4
        have h_24 : J26 90 16 = _ := (f26.1 16 (by omega)).trans kv8
        refine WP.go 3 (And.intro (fun (b29 : ¬ i = 12) => ?_) (fun (b29 : i = 12) => ?_))
        ·
          show WP (Call d) 196 P X (35, [some (vr (some 90) 10), some (vi 1), some (vi 1), some (vi i)], [], (J26, H), 0, 0)
          refine WP.go 2 (And.intro (fun (b36 : ¬ 1 = 0) => ?_) (fun (b36 : 1 = 0) => (absurd b36 (by omega))))
          show WP (Call d) 196 P X (40, [some (vr (some 90) 10), some (vi 1), some (vi 1), some (vi i)], [], (J26, H), 0, 0)
          refine WP.go 3 (And.intro (fun (b42 : ¬ 1 = 1) => (absurd b42 (by omega))) (fun (b42 : 1 = 1) => ?_))
          show WP (Call d) 196 P X (43, [some (vr (some 90) 10), some (vi 1), some (vi 1), some (vi i)], [], (J26, H), 0, 0)
          refine WP.go 2 (And.intro (And.intro (Nat.le_of_ble_eq_true rfl) (Nat.le_of_ble_eq_true rfl)) (And.intro rfl (?_)))
          show Call d 205 [vr (some 90) 10] (J26, H) _ _
          refine s_12_leaseLine (by omega) hS hL_17 hR_19 hF_20 h_22 (hu_21.fr hfr) hFB h_23 h_24 (by have w7 := (kv5.2 F hFB).2.1; omega) ⟨(fun q44 J44 f44 r44 e44 g44 k44 m44 => ?_), (fun q44_1 J44_1 f44_1 e44_1 b44 k44_1 m44_1 => ?_)⟩
          ·
            show WP (Call d) 196 P X (45, [some (vr (some 90) 10), some (vi 1), some (vi 1), some (vi i)], [], (J44, H), 0, 0)
            have pb9 := hR_19.bd
            have hL_25 : LTX J44 tb n := f44.lt hL_17
            have hR_26 : RAT J44 tb n (lln tb n p9 c9).2.2 := r44
            have hF_27 : J44 90 10 = -1 := e44
            have h_28 : J44 90 11 = 0 := g44
            have hu_29 : FS I J44 := hu_21.tr f44
            have q9 : (lln tb n p9 c9).1 = -1 := q44
            have h_30 : J44 90 17 = Y + (lln tb n p9 c9).2.1.2.1 F := k44
            have h_31 : J44 90 16 = vd ((lln tb n p9 c9).2.1.2.2 F) W := m44
            have lg9 := lln_lg hn.2 qb9.1 qb9.2.1 kv5 q44
            refine WP.go 4 (Exists.intro (i + 1) (And.intro (wrp_a (by omega) (by omega)) (And.intro (And.intro (Nat.le_of_ble_eq_true rfl) (Nat.le_of_ble_eq_true rfl)) (And.intro rfl (?_)))))
            show Call d 189 [vr (some 90) 10] (J44, H) _ _
            refine s_12_skip (by omega) hS hL_25 hR_26 (fun J50 e50 f50 => ?_)
            show WP (Call d) 196 P X (51, [some (vr (some 90) 10), some (vi 1), some (vi 1), some (vi (i + 1))], [], (J50, H), 0, 0)
            have hL_32 : LTX J50 tb n := f50.lt hL_25
            have h_33 : J50 90 9 = (lln tb n p9 c9).2.2 := e50
            have hR_34 : RAT J50 tb n (lln tb n p9 c9).2.2 := RAT.of hR_26.bd e50
            have hF_35 : J50 90 10 = _ := (f50.1 10 (by omega)).trans hF_27
            have hu_36 : FS I J50 := hu_29.n f50
            have h_37 : J50 90 11 = _ := (f50.1 11 (by omega)).trans h_28
            have h_38 : J50 90 17 = _ := (f50.1 17 (by omega)).trans h_30
            have h_39 : J50 90 16 = _ := (f50.1 16 (by omega)).trans h_31
            refine WP.go 2 (And.intro rfl (?_))
            refine rw_i (Q := fun x9 => WP (Call d) 196 P X (53, [some (vr (some 90) 10), some (vi 1), some (vi 1), some (vi (i + 1))], [vi x9], (J50, H), 0, 0)) hF_35 ?_
            show WP (Call d) 196 P X (53, [some (vr (some 90) 10), some (vi 1), some (vi 1), some (vi (i + 1))], [vi (-1)], (J50, H), 0, 0)
            refine WP.go 2 (And.intro (fun (b54 : ¬ (-1) = (-1)) => (absurd b54 (by omega))) (fun (b54 : (-1) = (-1)) => ?_))
            show WP (Call d) 196 P X (55, [some (vr (some 90) 10), some (vi 1), some (vi 1), some (vi (i + 1))], [], (J50, H), 0, 0)
            refine WP.go 1 ?_
            show WP (Call d) 196 P X (56, [some (vr (some 90) 10), some (vi 1), some (vi 1), some (vi (i + 1))], [vr (some 90) 10], (J50, H), 0, 0)
            have h8 : J50 90 8 = n := hL_32.1
            have hpb := hR_34.bd
            have hte := th_3000 hpb.1 hpb.2.1 hL_32.2.2.1
            refine WP.go 1 (And.intro rfl (?_))
            refine rw_i (Q := fun x9 => WP (Call d) 196 P X (57, [some (vr (some 90) 10), some (vi 1), some (vi 1), some (vi (i + 1))], [vi x9], (J50, H), 0, 0)) h_33 ?_
            show WP (Call d) 196 P X (57, [some (vr (some 90) 10), some (vi 1), some (vi 1), some (vi (i + 1))], [vi ((lln tb n p9 c9).2.2)], (J50, H), 0, 0)
            refine WP.go 2 (And.intro rfl (?_))
            refine rw_i (Q := fun x9 => WP (Call d) 196 P X (59, [some (vr (some 90) 10), some (vi 1), some (vi 1), some (vi (i + 1))], [vi x9, vi ((lln tb n p9 c9).2.2)], (J50, H), 0, 0)) h8 ?_
            show WP (Call d) 196 P X (59, [some (vr (some 90) 10), some (vi 1), some (vi 1), some (vi (i + 1))], [vi n, vi ((lln tb n p9 c9).2.2)], (J50, H), 0, 0)
            refine WP.go 1 (And.intro (fun (b59 : ¬ (lln tb n p9 c9).2.2 = n) => ?_) (fun (b59 : (lln tb n p9 c9).2.2 = n) => ?_))
            ·
              show WP (Call d) 196 P X (63, [some (vr (some 90) 10), some (vi 1), some (vi 1), some (vi (i + 1))], [], (J50, H), 0, 0)
              refine WP.go 3 (And.intro (And.intro (Nat.le_of_ble_eq_true rfl) (Nat.le_of_ble_eq_true rfl)) (And.intro rfl (?_)))
              show Call d 190 [vr (some 90) 10, vi 59] (J50, H) _ _
              refine s_12_isSign (by omega) hS hL_32 hR_34 ⟨by omega, by unfold isL; omega, by unfold isD; omega⟩ (fun J65 e65 f65 => ?_)
              show WP (Call d) 196 P X (66, [some (vr (some 90) 10), some (vi 1), some (vi 1), some (vi (i + 1))], [vi (bz (th tb n (lln tb n p9 c9).2.2 = 2000 + 59))], (J65, H), 0, 0)
              have hL_40 : LTX J65 tb n := f65.lt hL_32
              have hR_41 : RAT J65 tb n (lln tb n p9 c9).2.2 := RAT.of hR_34.bd e65
              have h_42 : J65 90 9 = (lln tb n p9 c9).2.2 := e65
              have hF_43 : J65 90 10 = _ := (f65.1 10 (by omega)).trans hF_35
              have hu_44 : FS I J65 := hu_36.n f65
              have h_45 : J65 90 11 = _ := (f65.1 11 (by omega)).trans h_37
              have h_46 : J65 90 17 = _ := (f65.1 17 (by omega)).trans h_38
              have h_47 : J65 90 16 = _ := (f65.1 16 (by omega)).trans h_39
              refine WP.go 1 (And.intro (fun (b66 : bz (th tb n (lln tb n p9 c9).2.2 = 2000 + 59) = 0) => ?_) (fun (b66 : ¬ bz (th tb n (lln tb n p9 c9).2.2 = 2000 + 59) = 0) => ?_))
              ·
                show WP (Call d) 196 P X (74, [some (vr (some 90) 10), some (vi 1), some (vi 1), some (vi (i + 1))], [], (J65, H), 0, 0)
                have z66 := bz_e0.mp b66
                refine WP.go 3 (And.intro rfl (?_))
                refine rw_i (Q := fun x9 => WP (Call d) 196 P X (77, [some (vr (some 90) 10), some (vi 1), some (vi 1), some (vi (i + 1))], [vi x9, vr (some 90) 10], (J65, H), 0, 0)) h_42 ?_
                show WP (Call d) 196 P X (77, [some (vr (some 90) 10), some (vi 1), some (vi 1), some (vi (i + 1))], [vi ((lln tb n p9 c9).2.2), vr (some 90) 10], (J65, H), 0, 0)
                refine WP.go 1 (And.intro (And.intro (Nat.le_of_ble_eq_true rfl) (Nat.le_of_ble_eq_true rfl)) (And.intro rfl (?_)))
                show Call d 192 [vr (some 90) 10, vi ((lln tb n p9 c9).2.2)] (J65, H) _ _
                refine s_12_wrong (by omega) hF_43 (fun J77 e77 f77 => ?_)
                show WP (Call d) 196 P X (78, [some (vr (some 90) 10), some (vi 1), some (vi 1), some (vi (i + 1))], [], (J77, H), 0, 0)
                have hF_48 : J77 90 10 = ((lln tb n p9 c9).2.2) := by rw [e77]; rfl
                have hu_49 : FS I J77 := hu_44.o (.inr (.inl rfl)) e77 f77
                have hL_50 : LTX J77 tb n := hL_40.fr (by rw [e77]; rfl) (by rw [e77]; rfl) (f77 94 (by omega)) (f77 91 (by omega))
                have hR_51 : RAT J77 tb n (lln tb n p9 c9).2.2 := hR_41.cp (by rw [e77]; rfl)
                have h_52 : J77 90 11 = _ := (show J77 90 11 = 0 by rw [e77]; exact h_45)
                have h_53 : J77 90 17 = Y + (lln tb n p9 c9).2.1.2.1 F := by rw [e77]; exact h_46
                have h_54 : J77 90 16 = vd ((lln tb n p9 c9).2.1.2.2 F) W := by rw [e77]; exact h_47
                refine WP.go 1 ?_
                show WP (Call d) 196 P X (19, [some (vr (some 90) 10), some (vi 1), some (vi 1), some (vi (i + 1))], [], (J77, H), 0, 0)
                refine WP.go 2 (And.intro (fun (b20 : 1 = 0) => (absurd b20 (by omega))) (fun (b20 : ¬ 1 = 0) => ?_))
                show WP (Call d) 196 P X (21, [some (vr (some 90) 10), some (vi 1), some (vi 1), some (vi (i + 1))], [], (J77, H), 0, 0)
                refine WP.go 2 (And.intro rfl (?_))
                refine rw_i (Q := fun x9 => WP (Call d) 196 P X (23, [some (vr (some 90) 10), some (vi 1), some (vi 1), some (vi (i + 1))], [vi x9], (J77, H), 0, 0)) hF_48 ?_
                show WP (Call d) 196 P X (23, [some (vr (some 90) 10), some (vi 1), some (vi 1), some (vi (i + 1))], [vi ((lln tb n p9 c9).2.2)], (J77, H), 0, 0)
                refine WP.go 2 (And.intro (fun (b24 : ¬ ((lln tb n p9 c9).2.2) = (-1)) => ?_) (fun (b24 : ((lln tb n p9 c9).2.2) = (-1)) => (absurd b24 (by omega))))
                show WP (Call d) 196 P X (79, [some (vr (some 90) 10), some (vi 1), some (vi 1), some (vi (i + 1))], [], (J77, H), 0, 0)
                refine WP.go 1 (And.intro (And.intro (Nat.le_of_ble_eq_true rfl) (Nat.le_of_ble_eq_true rfl)) (?_))
                show P none (J77, H)
                have r9 : (lnT tb n (lln tb n) ls0) = ((lln tb n p9 c9).2.2, (lln tb n p9 c9).2.1) := kv7.trans (by rw [lnL_s (by omega), if_neg (fun z => z q9), if_neg (fun z => b59 (hte.mp z)), if_neg (show ¬ th tb n (lln tb n p9 c9).2.2 = 2059 from z66)])
                exact h _ hu_49 (by rw [r9]; exact hF_48) (fun q => absurd q (by rw [r9]; show (lln tb n p9 c9).2.2 ≠ -1; omega)) (by rw [h_53]; have w7 := (lg9.2.2.2 F hFB).2.1; omega)
              ·
                show WP (Call d) 196 P X (67, [some (vr (some 90) 10), some (vi 1), some (vi 1), some (vi (i + 1))], [], (J65, H), 0, 0)
                have z66 := bz_e1.mp b66
                refine WP.go 3 (And.intro rfl (?_))
                refine rw_i (Q := fun x9 => WP (Call d) 196 P X (70, [some (vr (some 90) 10), some (vi 1), some (vi 1), some (vi (i + 1))], [vi x9, vr (some 90) 10], (J65, H), 0, 0)) h_42 ?_
                show WP (Call d) 196 P X (70, [some (vr (some 90) 10), some (vi 1), some (vi 1), some (vi (i + 1))], [vi ((lln tb n p9 c9).2.2), vr (some 90) 10], (J65, H), 0, 0)
                refine WP.go 3 (Exists.intro (((lln tb n p9 c9).2.2) + 1) (And.intro (wrp_a (by omega) (by omega)) (And.intro (And.intro rfl trivial) (?_))))
                show WP (Call d) 196 P X (73, [some (vr (some 90) 10), some (vi 1), some (vi 1), some (vi (i + 1))], [], ((upI J65 90 9 (((lln tb n p9 c9).2.2) + 1)), H), 0, 0)
                generalize hq_B0 : (upI J65 90 9 (((lln tb n p9 c9).2.2) + 1)) = B0
                have e_B0 : B0 90 = (fun j => if j = 9 then (((lln tb n p9 c9).2.2) + 1) else J65 90 j) := by rw [← hq_B0]; exact upI_self _ _ _ _
                have f_B0 : ∀ a, a ≠ 90 → B0 a = J65 a := fun a q => by rw [← hq_B0]; exact upI_cell q
                have hu_55 : FS I B0 := hu_44.o (.inl rfl) e_B0 f_B0
                have hL_56 : LTX B0 tb n := hL_40.fr (by rw [e_B0]; rfl) (by rw [e_B0]; rfl) (f_B0 94 (by omega)) (f_B0 91 (by omega))
                have hF_57 : B0 90 10 = -1 := by rw [e_B0]; exact hF_43
                have b99 : B0 90 9 = (lln tb n p9 c9).2.2 + 1 := by rw [e_B0]; rfl
                have s99 := nx_semi hpb.1 hpb.2.1 hL_56.2.2.1 (c := 59) ⟨by omega, by unfold isL; omega, by unfold isD; omega⟩ z66
                have nb9 := nx_bd (tb := tb) hpb.1 s99.1
                have hR_58 : RAT B0 tb n (nx tb n (lln tb n p9 c9).2.2) := ⟨by rw [b99]; omega, by rw [b99]; exact s99.2.symm⟩
                have h_59 : B0 90 11 = 0 := by rw [e_B0]; exact h_45
                have h_60 : B0 90 17 = Y + (lln tb n p9 c9).2.1.2.1 F := by rw [e_B0]; exact h_46
                have h_61 : B0 90 16 = vd ((lln tb n p9 c9).2.1.2.2 F) W := by rw [e_B0]; exact h_47
                refine WP.go 1 ?_
                show WP (Call d) 196 P X (19, [some (vr (some 90) 10), some (vi 1), some (vi 1), some (vi (i + 1))], [], (B0, H), 0, 0)
                exact ih19 B0 (i + 1) ((lln tb n p9 c9).2.1) (nx tb n (lln tb n p9 c9).2.2) (by omega) (by omega) hL_56 hR_58 hF_57 h_60 (lg9.2.2.up (by omega) (by omega)) hu_55 (kv7.trans (by rw [lnL_s (by omega), if_neg (fun z => z q9), if_neg (fun z => b59 (hte.mp z)), if_pos (show th tb n (lln tb n p9 c9).2.2 = 2059 from z66)])) h_61 h_59
            ·
              show WP (Call d) 196 P X (60, [some (vr (some 90) 10), some (vi 1), some (vi 1), some (vi (i + 1))], [], (J50, H), 0, 0)
              refine WP.go 3 ?_
              show WP (Call d) 196 P X (19, [some (vr (some 90) 10), some (vi 1), some (vi 0), some (vi (i + 1))], [], (J50, H), 0, 0)
              refine WP.go 2 (And.intro (fun (b20 : 0 = 0) => ?_) (fun (b20 : ¬ 0 = 0) => (absurd b20 (by omega))))
              show WP (Call d) 196 P X (79, [some (vr (some 90) 10), some (vi 1), some (vi 0), some (vi (i + 1))], [], (J50, H), 0, 0)
              refine WP.go 1 (And.intro (And.intro (Nat.le_of_ble_eq_true rfl) (Nat.le_of_ble_eq_true rfl)) (?_))
              show P none (J50, H)
              have r9 : (lnT tb n (lln tb n) ls0) = (-1, (lln tb n p9 c9).2.1) := kv7.trans (by rw [lnL_s (by omega), if_neg (fun z => z q9), if_pos (hte.mpr b59)])
              exact h _ hu_36 (by rw [r9]; exact hF_35) (fun _ => by rw [r9]; exact ⟨h_38, h_39⟩) (by rw [h_38]; have w7 := (lg9.2.2.2 F hFB).2.1; omega)
          ·
            show WP (Call d) 196 P X (45, [some (vr (some 90) 10), some (vi 1), some (vi 1), some (vi i)], [], (J44_1, H), 0, 0)
            have hL_62 : LTX J44_1 tb n := f44_1.lt hL_17
            have hF_63 : J44_1 90 10 = (lln tb n p9 c9).1 := e44_1
            have hu_64 : FS I J44_1 := hu_21.tr f44_1
            have q9 : (lln tb n p9 c9).1 ≠ -1 := q44_1
            have h_65 : J44_1 90 17 = Y + c9.2.1 F := k44_1.trans h_23
            have h_66 : J44_1 90 16 = vd (c9.2.2 F) W := m44_1.trans h_24
            have hb_67 : 0 ≤ J44_1 90 9 ∧ J44_1 90 9 ≤ n + 6 := b44
            refine WP.go 4 (Exists.intro (i + 1) (And.intro (wrp_a (by omega) (by omega)) (And.intro (And.intro (Nat.le_of_ble_eq_true rfl) (Nat.le_of_ble_eq_true rfl)) (And.intro rfl (?_)))))
            show Call d 189 [vr (some 90) 10] (J44_1, H) _ _
            refine s_12_skip_f (by omega) hS hL_62 ⟨hb_67.1, by have w8 := hb_67.2; omega⟩ (fun J50_1 f50_1 => ?_)
            show WP (Call d) 196 P X (51, [some (vr (some 90) 10), some (vi 1), some (vi 1), some (vi (i + 1))], [], (J50_1, H), 0, 0)
            have hL_68 : LTX J50_1 tb n := f50_1.lt hL_62
            have hF_69 : J50_1 90 10 = _ := (f50_1.1 10 (by omega)).trans hF_63
            have hu_70 : FS I J50_1 := hu_64.n f50_1
            have h_71 : J50_1 90 11 = _ := (f50_1.1 11 (by omega)).trans rfl
            have h_72 : J50_1 90 17 = _ := (f50_1.1 17 (by omega)).trans h_65
            have h_73 : J50_1 90 16 = _ := (f50_1.1 16 (by omega)).trans h_66
            refine WP.go 2 (And.intro rfl (?_))
            refine rw_i (Q := fun x9 => WP (Call d) 196 P X (53, [some (vr (some 90) 10), some (vi 1), some (vi 1), some (vi (i + 1))], [vi x9], (J50_1, H), 0, 0)) hF_69 ?_
            show WP (Call d) 196 P X (53, [some (vr (some 90) 10), some (vi 1), some (vi 1), some (vi (i + 1))], [vi ((lln tb n p9 c9).1)], (J50_1, H), 0, 0)
            refine WP.go 2 (And.intro (fun (b54 : ¬ (lln tb n p9 c9).1 = (-1)) => ?_) (fun (b54 : (lln tb n p9 c9).1 = (-1)) => (absurd b54 (by omega))))
            show WP (Call d) 196 P X (60, [some (vr (some 90) 10), some (vi 1), some (vi 1), some (vi (i + 1))], [], (J50_1, H), 0, 0)
            refine WP.go 3 ?_
            show WP (Call d) 196 P X (19, [some (vr (some 90) 10), some (vi 1), some (vi 0), some (vi (i + 1))], [], (J50_1, H), 0, 0)
            refine WP.go 2 (And.intro (fun (b20 : 0 = 0) => ?_) (fun (b20 : ¬ 0 = 0) => (absurd b20 (by omega))))
            show WP (Call d) 196 P X (79, [some (vr (some 90) 10), some (vi 1), some (vi 0), some (vi (i + 1))], [], (J50_1, H), 0, 0)
            refine WP.go 1 (And.intro (And.intro (Nat.le_of_ble_eq_true rfl) (Nat.le_of_ble_eq_true rfl)) (?_))
            show P none (J50_1, H)
            have r9 : (lnT tb n (lln tb n) ls0) = ((lln tb n p9 c9).1, (lln tb n p9 c9).2.1) := kv7.trans (by rw [lnL_s (by omega), if_pos q9])
            exact h _ hu_70 (by rw [r9]; exact hF_69) (fun q => absurd q (by rw [r9]; exact q9)) (by rw [h_72]; have w7 := (kv5.2 F hFB).2.1; omega)
        ·
          show WP (Call d) 196 P X (30, [some (vr (some 90) 10), some (vi 1), some (vi 1), some (vi i)], [], (J26, H), 0, 0)
          refine WP.go 3 (And.intro rfl (?_))
          refine rw_i (Q := fun x9 => WP (Call d) 196 P X (33, [some (vr (some 90) 10), some (vi 1), some (vi 1), some (vi i)], [vi x9, vr (some 90) 10], (J26, H), 0, 0)) h_18 ?_
          show WP (Call d) 196 P X (33, [some (vr (some 90) 10), some (vi 1), some (vi 1), some (vi i)], [vi p9, vr (some 90) 10], (J26, H), 0, 0)
          refine WP.go 1 (And.intro (And.intro (Nat.le_of_ble_eq_true rfl) (Nat.le_of_ble_eq_true rfl)) (And.intro rfl (?_)))
          show Call d 192 [vr (some 90) 10, vi p9] (J26, H) _ _
          refine s_12_wrong (by omega) hF_20 (fun J33 e33 f33 => ?_)
          show WP (Call d) 196 P X (34, [some (vr (some 90) 10), some (vi 1), some (vi 1), some (vi i)], [], (J33, H), 0, 0)
          have hF_74 : J33 90 10 = p9 := by rw [e33]; rfl
          have hu_75 : FS I J33 := hu_21.o (.inr (.inl rfl)) e33 f33
          have hL_76 : LTX J33 tb n := hL_17.fr (by rw [e33]; rfl) (by rw [e33]; rfl) (f33 94 (by omega)) (f33 91 (by omega))
          have hR_77 : RAT J33 tb n p9 := hR_19.cp (by rw [e33]; rfl)
          have h_78 : J33 90 11 = _ := (show J33 90 11 = 0 by rw [e33]; exact h_22)
          have h_79 : J33 90 17 = Y + c9.2.1 F := by rw [e33]; exact h_23
          have h_80 : J33 90 16 = vd (c9.2.2 F) W := by rw [e33]; exact h_24
          refine WP.go 4 (Exists.intro (i + 1) (And.intro (wrp_a (by omega) (by omega)) (And.intro (And.intro (Nat.le_of_ble_eq_true rfl) (Nat.le_of_ble_eq_true rfl)) (And.intro rfl (?_)))))
          show Call d 189 [vr (some 90) 10] (J33, H) _ _
          refine s_12_skip (by omega) hS hL_76 hR_77 (fun J50_2 e50_1 f50_2 => ?_)
          show WP (Call d) 196 P X (51, [some (vr (some 90) 10), some (vi 1), some (vi 1), some (vi (i + 1))], [], (J50_2, H), 0, 0)
          have hL_81 : LTX J50_2 tb n := f50_2.lt hL_76
          have h_82 : J50_2 90 9 = p9 := e50_1
          have hR_83 : RAT J50_2 tb n p9 := RAT.of hR_77.bd e50_1
          have hF_84 : J50_2 90 10 = _ := (f50_2.1 10 (by omega)).trans hF_74
          have hu_85 : FS I J50_2 := hu_75.n f50_2
          have h_86 : J50_2 90 11 = _ := (f50_2.1 11 (by omega)).trans h_78
          have h_87 : J50_2 90 17 = _ := (f50_2.1 17 (by omega)).trans h_79
          have h_88 : J50_2 90 16 = _ := (f50_2.1 16 (by omega)).trans h_80
          refine WP.go 2 (And.intro rfl (?_))
          refine rw_i (Q := fun x9 => WP (Call d) 196 P X (53, [some (vr (some 90) 10), some (vi 1), some (vi 1), some (vi (i + 1))], [vi x9], (J50_2, H), 0, 0)) hF_84 ?_
          show WP (Call d) 196 P X (53, [some (vr (some 90) 10), some (vi 1), some (vi 1), some (vi (i + 1))], [vi p9], (J50_2, H), 0, 0)
          refine WP.go 2 (And.intro (fun (b54 : ¬ p9 = (-1)) => ?_) (fun (b54 : p9 = (-1)) => (absurd b54 (by omega))))
          show WP (Call d) 196 P X (60, [some (vr (some 90) 10), some (vi 1), some (vi 1), some (vi (i + 1))], [], (J50_2, H), 0, 0)
          refine WP.go 3 ?_
          show WP (Call d) 196 P X (19, [some (vr (some 90) 10), some (vi 1), some (vi 0), some (vi (i + 1))], [], (J50_2, H), 0, 0)
          refine WP.go 2 (And.intro (fun (b20 : 0 = 0) => ?_) (fun (b20 : ¬ 0 = 0) => (absurd b20 (by omega))))
          show WP (Call d) 196 P X (79, [some (vr (some 90) 10), some (vi 1), some (vi 0), some (vi (i + 1))], [], (J50_2, H), 0, 0)
          refine WP.go 1 (And.intro (And.intro (Nat.le_of_ble_eq_true rfl) (Nat.le_of_ble_eq_true rfl)) (?_))
          show P none (J50_2, H)
          have b9 := kv2.bd
          have r9 : (lnT tb n (lln tb n) ls0) = (p9, c9) := kv7.trans (lnL_0 (by omega))
          exact h _ hu_85 (by rw [r9]; exact hF_84) (fun q => absurd q (by rw [r9]; show p9 ≠ -1; omega)) (by rw [h_87]; have w7 := (kv5.2 F hFB).2.1; omega)
    exact lp19 ((13 - 0 : Int).toNat + 1) J7 0 ls0 (sk tb n 0) (by omega) (by omega) hL_9 hR_11 hF_12 (h_15.trans (show Y = Y + 0 by omega)) (ls0_lg hR_11.bd.1 hR_11.bd.1) hu_13 (if_neg (fun q => by have b := hR_11.bd; have := (th_3000 b.1 b.2.1 hL_9.2.2.1).mp q; omega)) h_16 h_14

