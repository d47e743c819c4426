/-- a method of the reference that values what A says -/
def MC (D M : Nat) (k : Int) (tb : Int → Int) (n : Int) (F : Int → Int) (A : Int → RS) : Prop := ∀ {d : Nat} {P : Option qV → qH → Prop} {X : Nat → qH → Prop} {I : qI} {H : qS} {p : Int}, D ≤ d → Shp H → LTX I tb n → RAT I tb n p → I 90 10 = -1 → I 90 11 = k → FR I F →
  (((A p).1 = -1 → ∀ J : qI, RAT J tb n (A p).2.2.2 → F9 I J → P (some (vi ((A p).2.2.1 F))) (J, H)) ∧ ((A p).1 ≠ -1 → ∀ (J : qI) (v : Int), J 90 10 = (A p).1 → (0 ≤ J 90 9 ∧ J 90 9 ≤ n + 6 - k) → FA I J → J 90 11 = k → (v = 0 ∨ v = 1) → P (some (vi v)) (J, H))) → Call d M [vr (some 90) 10] (I, H) P X
theorem s_12_every {d : Nat} {P : Option qV → qH → Prop} {X : Nat → qH → Prop} {I : qI} {H : qS} {D m : Nat} {F tb : Int → Int} {A : Int → RS} {n p dk : Int} (hd : D + 1 ≤ d) (hA : MC D 202 dk tb n F A) (hG : ∀ p, 0 ≤ p → p ≤ n → GD n true m p (A p)) (hS : Shp H) (hL : LTX I tb n) (hR : RAT I tb n p) (hF : I 90 10 = -1) (h11 : I 90 11 = dk) (hfr : FR I F) (hFB : FB F) (hdk : 0 ≤ dk ∧ dk ≤ 6) (hD : 7 ≤ D) (h : ((pLo tb n 1014 2004 opA A 400 (A p)).1 = -1 → ∀ J : qI, RAT J tb n (pLo tb n 1014 2004 opA A 400 (A p)).2.2.2 → F9 I J → P (some (vi ((pLo tb n 1014 2004 opA A 400 (A p)).2.2.1 F))) (J, H)) ∧ ((pLo tb n 1014 2004 opA A 400 (A p)).1 ≠ -1 → ∀ (J : qI) (v : Int), J 90 10 = (pLo tb n 1014 2004 opA A 400 (A p)).1 → (0 ≤ J 90 9 ∧ J 90 9 ≤ n + 6 - dk) → FA I J → J 90 11 = dk → (v = 0 ∨ v = 1) → P (some (vi v)) (J, H))) :
    Call d 203 [vr (some 90) 10] (I, H) P X := by
  obtain ⟨d, rfl⟩ : ∃ e, d = e + 1 := ⟨d - 1, by omega⟩
  have hu := FA.rf I
  have hpb := hR.bd
  have hb := hR.1
  have hn := hL.2.1
  show WP (Call d) 203 P X (0, [some (vr (some 90) 10), none, none], [], (I, H), 0, 0)
  refine WP.go 2 (And.intro (And.intro (Nat.le_of_ble_eq_true rfl) (Nat.le_of_ble_eq_true rfl)) (And.intro rfl (?_)))
  show Call d 202 [vr (some 90) 10] (I, H) _ _
  refine hA (by omega) hS hL hR hF h11 (hu.fr hfr) ⟨(fun q1 J1 e1 f1 => ?_), (fun q1_1 J1_1 v1 e1_1 b1 f1_1 g1 vb1 => ?_)⟩
  ·
    show WP (Call d) 203 P X (2, [some (vr (some 90) 10), none, none], [vi ((A p).2.2.1 F)], (J1, H), 0, 0)
    have hL_1 : LTX J1 tb n := f1.lt hL
    have pb9 := hR.bd
    have gd9 := hG p (by omega) (by omega) q1
    have ga9 := gd9.1
    have gb9 := gd9.2.1
    have gv9 := vb_1 (gd9.2.2.2 F hFB).1
    have hR_2 : RAT J1 tb n (A p).2.2.2 := e1
    have hF_3 : J1 90 10 = _ := (f1.1 10 (by omega)).trans hF
    have hu_4 : FA I J1 := hu.n f1
    have h_5 : J1 90 11 = _ := (f1.1 11 (by omega)).trans h11
    have hb_6 : 0 ≤ J1 90 9 ∧ J1 90 9 ≤ n := hR_2.1
    refine WP.go 1 ?_
    show WP (Call d) 203 P X (3, [some (vr (some 90) 10), some (vi ((A p).2.2.1 F)), none], [], (J1, H), 0, 0)
    have lp3 : ∀ (n9 : Nat) (K : qI) (v9 : Int) (r9 : RS) (i9 : Int) (hm : 400 - i9 < (n9 : Int)) (kv0 : 0 ≤ i9 ∧ i9 ≤ 400 ∧ i9 ≤ r9.2.2.2) (kv1 : LTX K tb n) (kv2 : RAT K tb n r9.2.2.2) (kv3 : K 90 10 = -1) (kv4 : FA I K) (kv5 : (pLo tb n 1014 2004 opA A 400 (A p)) = pLo tb n 1014 2004 opA A (400 - i9).toNat r9) (kv6 : r9.1 = -1) (kv7 : v9 = r9.2.2.1 F) (kv8 : v9 = 0 ∨ v9 = 1) (kv10 : K 90 11 = dk), WP (Call d) 203 P X (3, [some (vr (some 90) 10), some (vi v9), none], [], (K, H), 0, 0) := by
      intro n9
      induction n9 with
      | zero => intro K v9 r9 i9 hm kv0 kv1 kv2 kv3 kv4 kv5 kv6 kv7 kv8 kv10; exact absurd hm (by omega)
      | succ n9 ih3 =>
        intro K v9 r9 i9 hm kv0 kv1 kv2 kv3 kv4 kv5 kv6 kv7 kv8 kv10
        have qb9 := kv2.bd
        refine WP.go 2 (And.intro rfl (?_))
        refine rw_i (Q := fun x9 => WP (Call d) 203 P X (5, [some (vr (some 90) 10), some (vi v9), none], [vi x9], (K, H), 0, 0)) kv3 ?_
        show WP (Call d) 203 P X (5, [some (vr (some 90) 10), some (vi v9), none], [vi (-1)], (K, H), 0, 0)
        refine WP.go 2 (And.intro (fun (b6 : ¬ (-1) = (-1)) => (absurd b6 (by omega))) (fun (b6 : (-1) = (-1)) => ?_))
        show WP (Call d) 203 P X (7, [some (vr (some 90) 10), some (vi v9), none], [], (K, H), 0, 0)
        refine WP.go 3 (And.intro (And.intro (Nat.le_of_ble_eq_true rfl) (Nat.le_of_ble_eq_true rfl)) (And.intro rfl (?_)))
        show Call d 191 [vr (some 90) 10, vr (some 19) 100] (K, H) _ _
        refine s_12_has (by omega) hS kv1 kv2 (by omega) ⟨(fun q9 J9 e9 f9 => ?_), (fun q9_1 J9_1 e9_1 f9_1 => ?_)⟩
        ·
          show WP (Call d) 203 P X (10, [some (vr (some 90) 10), some (vi v9), none], [vi 1], (J9, H), 0, 0)
          have hL_7 : LTX J9 tb n := f9.lt kv1
          have pb9 := kv2.bd
          have nb9 := nx_bd (tb := tb) pb9.1 (th_lt (tb := tb) pb9.2.1 (fun z => absurd (q9.symm.trans z) (by decide)))
          have hR_8 : RAT J9 tb n (nx tb n r9.2.2.2) := rat_go kv2 (fun z => absurd (q9.symm.trans z) (by decide)) e9
          have hF_9 : J9 90 10 = _ := (f9.1 10 (by omega)).trans kv3
          have hu_10 : FA I J9 := kv4.n f9
          have h_11 : J9 90 11 = _ := (f9.1 11 (by omega)).trans kv10
          have hb_12 : 0 ≤ J9 90 9 ∧ J9 90 9 ≤ n := hR_8.1
          refine WP.go 1 (And.intro (fun (b10 : 1 = 0) => (absurd b10 (by omega))) (fun (b10 : ¬ 1 = 0) => ?_))
          show WP (Call d) 203 P X (11, [some (vr (some 90) 10), some (vi v9), none], [], (J9, H), 0, 0)
          refine WP.go 2 (And.intro (And.intro (Nat.le_of_ble_eq_true rfl) (Nat.le_of_ble_eq_true rfl)) (And.intro rfl (?_)))
          show Call d 202 [vr (some 90) 10] (J9, H) _ _
          refine hA (by omega) hS hL_7 hR_8 hF_9 h_11 (hu_10.fr hfr) ⟨(fun q12 J12 e12 f12 => ?_), (fun q12_1 J12_1 v12 e12_1 b12 f12_1 g12 vb12 => ?_)⟩
          ·
            show WP (Call d) 203 P X (13, [some (vr (some 90) 10), some (vi v9), none], [vi ((A (nx tb n r9.2.2.2)).2.2.1 F)], (J12, H), 0, 0)
            have hL_13 : LTX J12 tb n := f12.lt hL_7
            have pb9 := hR_8.bd
            have gd9 := hG (nx tb n r9.2.2.2) (by omega) (by omega) q12
            have ga9 := gd9.1
            have gb9 := gd9.2.1
            have gv9 := vb_1 (gd9.2.2.2 F hFB).1
            have hR_14 : RAT J12 tb n (A (nx tb n r9.2.2.2)).2.2.2 := e12
            have hF_15 : J12 90 10 = _ := (f12.1 10 (by omega)).trans hF_9
            have hu_16 : FA I J12 := hu_10.n f12
            have h_17 : J12 90 11 = _ := (f12.1 11 (by omega)).trans h_11
            have hb_18 : 0 ≤ J12 90 9 ∧ J12 90 9 ≤ n := hR_14.1
            refine WP.go 3 (And.intro (fun (b15 : v9 = 0) => ?_) (fun (b15 : ¬ v9 = 0) => ?_))
            ·
              show WP (Call d) 203 P X (20, [some (vr (some 90) 10), some (vi v9), some (vi ((A (nx tb n r9.2.2.2)).2.2.1 F))], [], (J12, H), 0, 0)
              refine WP.go 3 ?_
              show WP (Call d) 203 P X (3, [some (vr (some 90) 10), some (vi 0), some (vi ((A (nx tb n r9.2.2.2)).2.2.1 F))], [], (J12, H), 0, 0)
              refine WP.wk (L := [some (vr (some 90) 10), some (vi 0), none]) (And.intro rfl (And.intro rfl (And.intro trivial (trivial)))) ?_
              show WP (Call d) 203 P X (3, [some (vr (some 90) 10), some (vi 0), none], [], (J12, H), 0, 0)
              exact ih3 J12 0 (-1, r9.2.1 ++ (A (nx tb n r9.2.2.2)).2.1 ++ [2004], (fun F => opA (r9.2.2.1 F) ((A (nx tb n r9.2.2.2)).2.2.1 F)), (A (nx tb n r9.2.2.2)).2.2.2) (i9 + 1) (by omega) (by show 0 ≤ i9 + 1 ∧ i9 + 1 ≤ 400 ∧ i9 + 1 ≤ (A (nx tb n r9.2.2.2)).2.2.2; omega) hL_13 hR_14 hF_15 hu_16 (kv5.trans (pLo_y (by omega) kv6 q9 q12)) rfl (by show (0 : Int) = opA (r9.2.2.1 F) ((A (nx tb n r9.2.2.2)).2.2.1 F); unfold opA; rw [if_neg (fun z => z.1 (by omega))]) (by omega) h_17
            ·
              show WP (Call d) 203 P X (16, [some (vr (some 90) 10), some (vi v9), some (vi ((A (nx tb n r9.2.2.2)).2.2.1 F))], [], (J12, H), 0, 0)
              refine WP.go 2 (And.intro (fun (b17 : (A (nx tb n r9.2.2.2)).2.2.1 F = 0) => ?_) (fun (b17 : ¬ (A (nx tb n r9.2.2.2)).2.2.1 F = 0) => ?_))
              ·
                show WP (Call d) 203 P X (20, [some (vr (some 90) 10), some (vi v9), some (vi ((A (nx tb n r9.2.2.2)).2.2.1 F))], [], (J12, H), 0, 0)
                refine WP.go 3 ?_
                show WP (Call d) 203 P X (3, [some (vr (some 90) 10), some (vi 0), some (vi ((A (nx tb n r9.2.2.2)).2.2.1 F))], [], (J12, H), 0, 0)
                refine WP.wk (L := [some (vr (some 90) 10), some (vi 0), none]) (And.intro rfl (And.intro rfl (And.intro trivial (trivial)))) ?_
                show WP (Call d) 203 P X (3, [some (vr (some 90) 10), some (vi 0), none], [], (J12, H), 0, 0)
                exact ih3 J12 0 (-1, r9.2.1 ++ (A (nx tb n r9.2.2.2)).2.1 ++ [2004], (fun F => opA (r9.2.2.1 F) ((A (nx tb n r9.2.2.2)).2.2.1 F)), (A (nx tb n r9.2.2.2)).2.2.2) (i9 + 1) (by omega) (by show 0 ≤ i9 + 1 ∧ i9 + 1 ≤ 400 ∧ i9 + 1 ≤ (A (nx tb n r9.2.2.2)).2.2.2; omega) hL_13 hR_14 hF_15 hu_16 (kv5.trans (pLo_y (by omega) kv6 q9 q12)) rfl (by show (0 : Int) = opA (r9.2.2.1 F) ((A (nx tb n r9.2.2.2)).2.2.1 F); unfold opA; rw [if_neg (fun z => z.2 (by omega))]) (by omega) h_17
              ·
                show WP (Call d) 203 P X (18, [some (vr (some 90) 10), some (vi v9), some (vi ((A (nx tb n r9.2.2.2)).2.2.1 F))], [], (J12, H), 0, 0)
                refine WP.go 4 ?_
                show WP (Call d) 203 P X (3, [some (vr (some 90) 10), some (vi 1), some (vi ((A (nx tb n r9.2.2.2)).2.2.1 F))], [], (J12, H), 0, 0)
                refine WP.wk (L := [some (vr (some 90) 10), some (vi 1), none]) (And.intro rfl (And.intro rfl (And.intro trivial (trivial)))) ?_
                show WP (Call d) 203 P X (3, [some (vr (some 90) 10), some (vi 1), none], [], (J12, H), 0, 0)
                exact ih3 J12 1 (-1, r9.2.1 ++ (A (nx tb n r9.2.2.2)).2.1 ++ [2004], (fun F => opA (r9.2.2.1 F) ((A (nx tb n r9.2.2.2)).2.2.1 F)), (A (nx tb n r9.2.2.2)).2.2.2) (i9 + 1) (by omega) (by show 0 ≤ i9 + 1 ∧ i9 + 1 ≤ 400 ∧ i9 + 1 ≤ (A (nx tb n r9.2.2.2)).2.2.2; omega) hL_13 hR_14 hF_15 hu_16 (kv5.trans (pLo_y (by omega) kv6 q9 q12)) rfl (by show (1 : Int) = opA (r9.2.2.1 F) ((A (nx tb n r9.2.2.2)).2.2.1 F); unfold opA; rw [if_pos ⟨by omega, by omega⟩]) (by omega) h_17
          ·
            show WP (Call d) 203 P X (13, [some (vr (some 90) 10), some (vi v9), none], [vi v12], (J12_1, H), 0, 0)
            have h_19 : J12_1 90 11 = dk := g12
            have hL_20 : LTX J12_1 tb n := f12_1.lt hL_7
            have hF_21 : J12_1 90 10 = (A (nx tb n r9.2.2.2)).1 := e12_1
            have hu_22 : FA I J12_1 := hu_10.tr f12_1
            have hb_23 : 0 ≤ J12_1 90 9 ∧ J12_1 90 9 ≤ n + 6 - dk := b12
            refine WP.go 3 (And.intro (fun (b15 : v9 = 0) => ?_) (fun (b15 : ¬ v9 = 0) => ?_))
            ·
              show WP (Call d) 203 P X (20, [some (vr (some 90) 10), some (vi v9), some (vi v12)], [], (J12_1, H), 0, 0)
              refine WP.go 3 ?_
              show WP (Call d) 203 P X (3, [some (vr (some 90) 10), some (vi 0), some (vi v12)], [], (J12_1, H), 0, 0)
              refine WP.go 2 (And.intro rfl (?_))
              refine rw_i (Q := fun x9 => WP (Call d) 203 P X (5, [some (vr (some 90) 10), some (vi 0), some (vi v12)], [vi x9], (J12_1, H), 0, 0)) hF_21 ?_
              show WP (Call d) 203 P X (5, [some (vr (some 90) 10), some (vi 0), some (vi v12)], [vi ((A (nx tb n r9.2.2.2)).1)], (J12_1, H), 0, 0)
              refine WP.go 2 (And.intro (fun (b6 : ¬ (A (nx tb n r9.2.2.2)).1 = (-1)) => ?_) (fun (b6 : (A (nx tb n r9.2.2.2)).1 = (-1)) => (absurd b6 (by omega))))
              show WP (Call d) 203 P X (23, [some (vr (some 90) 10), some (vi 0), some (vi v12)], [], (J12_1, H), 0, 0)
              refine WP.go 2 (And.intro (And.intro (Nat.le_of_ble_eq_true rfl) (Nat.le_of_ble_eq_true rfl)) (And.intro (Or.inl rfl) (?_)))
              show P (some (vi 0)) (J12_1, H)
              have r8 := kv5.trans (pLo_x (by omega) kv6 q9 q12_1)
              exact h.2 (by rw [r8]; exact q12_1) _ _ (by rw [r8]; exact hF_21) hb_23 hu_22 h_19 (by first | exact .inl rfl | exact .inr rfl | omega)
            ·
              show WP (Call d) 203 P X (16, [some (vr (some 90) 10), some (vi v9), some (vi v12)], [], (J12_1, H), 0, 0)
              refine WP.go 2 (And.intro (fun (b17 : v12 = 0) => ?_) (fun (b17 : ¬ v12 = 0) => ?_))
              ·
                show WP (Call d) 203 P X (20, [some (vr (some 90) 10), some (vi v9), some (vi v12)], [], (J12_1, H), 0, 0)
                refine WP.go 3 ?_
                show WP (Call d) 203 P X (3, [some (vr (some 90) 10), some (vi 0), some (vi v12)], [], (J12_1, H), 0, 0)
                refine WP.go 2 (And.intro rfl (?_))
                refine rw_i (Q := fun x9 => WP (Call d) 203 P X (5, [some (vr (some 90) 10), some (vi 0), some (vi v12)], [vi x9], (J12_1, H), 0, 0)) hF_21 ?_
                show WP (Call d) 203 P X (5, [some (vr (some 90) 10), some (vi 0), some (vi v12)], [vi ((A (nx tb n r9.2.2.2)).1)], (J12_1, H), 0, 0)
                refine WP.go 2 (And.intro (fun (b6 : ¬ (A (nx tb n r9.2.2.2)).1 = (-1)) => ?_) (fun (b6 : (A (nx tb n r9.2.2.2)).1 = (-1)) => (absurd b6 (by omega))))
                show WP (Call d) 203 P X (23, [some (vr (some 90) 10), some (vi 0), some (vi v12)], [], (J12_1, H), 0, 0)
                refine WP.go 2 (And.intro (And.intro (Nat.le_of_ble_eq_true rfl) (Nat.le_of_ble_eq_true rfl)) (And.intro (Or.inl rfl) (?_)))
                show P (some (vi 0)) (J12_1, H)
                have r8 := kv5.trans (pLo_x (by omega) kv6 q9 q12_1)
                exact h.2 (by rw [r8]; exact q12_1) _ _ (by rw [r8]; exact hF_21) hb_23 hu_22 h_19 (by first | exact .inl rfl | exact .inr rfl | omega)
              ·
                show WP (Call d) 203 P X (18, [some (vr (some 90) 10), some (vi v9), some (vi v12)], [], (J12_1, H), 0, 0)
                refine WP.go 4 ?_
                show WP (Call d) 203 P X (3, [some (vr (some 90) 10), some (vi 1), some (vi v12)], [], (J12_1, H), 0, 0)
                refine WP.go 2 (And.intro rfl (?_))
                refine rw_i (Q := fun x9 => WP (Call d) 203 P X (5, [some (vr (some 90) 10), some (vi 1), some (vi v12)], [vi x9], (J12_1, H), 0, 0)) hF_21 ?_
                show WP (Call d) 203 P X (5, [some (vr (some 90) 10), some (vi 1), some (vi v12)], [vi ((A (nx tb n r9.2.2.2)).1)], (J12_1, H), 0, 0)
                refine WP.go 2 (And.intro (fun (b6 : ¬ (A (nx tb n r9.2.2.2)).1 = (-1)) => ?_) (fun (b6 : (A (nx tb n r9.2.2.2)).1 = (-1)) => (absurd b6 (by omega))))
                show WP (Call d) 203 P X (23, [some (vr (some 90) 10), some (vi 1), some (vi v12)], [], (J12_1, H), 0, 0)
                refine WP.go 2 (And.intro (And.intro (Nat.le_of_ble_eq_true rfl) (Nat.le_of_ble_eq_true rfl)) (And.intro (Or.inr rfl) (?_)))
                show P (some (vi 1)) (J12_1, H)
                have r8 := kv5.trans (pLo_x (by omega) kv6 q9 q12_1)
                exact h.2 (by rw [r8]; exact q12_1) _ _ (by rw [r8]; exact hF_21) hb_23 hu_22 h_19 (by first | exact .inl rfl | exact .inr rfl | omega)
        ·
          show WP (Call d) 203 P X (10, [some (vr (some 90) 10), some (vi v9), none], [vi 0], (J9_1, H), 0, 0)
          have hL_24 : LTX J9_1 tb n := f9_1.lt kv1
          have hR_25 : RAT J9_1 tb n r9.2.2.2 := RAT.of kv2.bd e9_1
          have h_26 : J9_1 90 9 = r9.2.2.2 := e9_1
          have hF_27 : J9_1 90 10 = _ := (f9_1.1 10 (by omega)).trans kv3
          have hu_28 : FA I J9_1 := kv4.n f9_1
          have h_29 : J9_1 90 11 = _ := (f9_1.1 11 (by omega)).trans kv10
          have hb_30 : 0 ≤ J9_1 90 9 ∧ J9_1 90 9 ≤ n := hR_25.1
          refine WP.go 1 (And.intro (fun (b10 : 0 = 0) => ?_) (fun (b10 : ¬ 0 = 0) => (absurd b10 (by omega))))
          show WP (Call d) 203 P X (23, [some (vr (some 90) 10), some (vi v9), none], [], (J9_1, H), 0, 0)
          refine WP.go 2 (And.intro (And.intro (Nat.le_of_ble_eq_true rfl) (Nat.le_of_ble_eq_true rfl)) (And.intro kv8 (?_)))
          show P (some (vi v9)) (J9_1, H)
          have r8 : (pLo tb n 1014 2004 opA A 400 (A p)) = r9 := kv5.trans (pLo_n _ kv6 q9_1)
          exact fin_i (by rw [r8]; exact kv7) (h.1 (by rw [r8]; exact kv6) _ (by rw [r8]; exact hR_25) (hu_28.z hF hF_27 h11 h_29))
    exact lp3 ((400 - 0 : Int).toNat + 1) J1 ((A p).2.2.1 F) (A p) 0 (by omega) (by omega) hL_1 hR_2 hF_3 hu_4 rfl q1 rfl (by omega) h_5
  ·
    show WP (Call d) 203 P X (2, [some (vr (some 90) 10), none, none], [vi v1], (J1_1, H), 0, 0)
    have h_31 : J1_1 90 11 = dk := g1
    have hL_32 : LTX J1_1 tb n := f1_1.lt hL
    have hF_33 : J1_1 90 10 = (A p).1 := e1_1
    have hu_34 : FA I J1_1 := hu.tr f1_1
    have hb_35 : 0 ≤ J1_1 90 9 ∧ J1_1 90 9 ≤ n + 6 - dk := b1
    refine WP.go 1 ?_
    show WP (Call d) 203 P X (3, [some (vr (some 90) 10), some (vi v1), none], [], (J1_1, H), 0, 0)
    refine WP.go 2 (And.intro rfl (?_))
    refine rw_i (Q := fun x9 => WP (Call d) 203 P X (5, [some (vr (some 90) 10), some (vi v1), none], [vi x9], (J1_1, H), 0, 0)) hF_33 ?_
    show WP (Call d) 203 P X (5, [some (vr (some 90) 10), some (vi v1), none], [vi ((A p).1)], (J1_1, H), 0, 0)
    refine WP.go 2 (And.intro (fun (b6 : ¬ (A p).1 = (-1)) => ?_) (fun (b6 : (A p).1 = (-1)) => (absurd b6 (by omega))))
    show WP (Call d) 203 P X (23, [some (vr (some 90) 10), some (vi v1), none], [], (J1_1, H), 0, 0)
    refine WP.go 2 (And.intro (And.intro (Nat.le_of_ble_eq_true rfl) (Nat.le_of_ble_eq_true rfl)) (And.intro vb1 (?_)))
    show P (some (vi v1)) (J1_1, H)
    have r8 : (pLo tb n 1014 2004 opA A 400 (A p)) = A p := pLo_e 400 q1_1
    exact h.2 (by rw [r8]; exact q1_1) _ _ (by rw [r8]; exact hF_33) hb_35 hu_34 h_31 (by first | exact .inl rfl | exact .inr rfl | omega)

theorem s_12_some {d : Nat} {P : Option qV → qH → Prop} {X : Nat → qH → Prop} {I : qI} {H : qS} {D m : Nat} {F tb : Int → Int} {A : Int → RS} {n p dk : Int} (hd : D + 1 ≤ d) (hA : MC D 203 dk tb n F A) (hG : ∀ p, 0 ≤ p → p ≤ n → GD n true m p (A p)) (hS : Shp H) (hL : LTX I tb n) (hR : RAT I tb n p) (hF : I 90 10 = -1) (h11 : I 90 11 = dk) (hfr : FR I F) (hFB : FB F) (hdk : 0 ≤ dk ∧ dk ≤ 6) (hD : 7 ≤ D) (h : ((pLo tb n 1013 2005 opO A 400 (A p)).1 = -1 → ∀ J : qI, RAT J tb n (pLo tb n 1013 2005 opO A 400 (A p)).2.2.2 → F9 I J → P (some (vi ((pLo tb n 1013 2005 opO A 400 (A p)).2.2.1 F))) (J, H)) ∧ ((pLo tb n 1013 2005 opO A 400 (A p)).1 ≠ -1 → ∀ (J : qI) (v : Int), J 90 10 = (pLo tb n 1013 2005 opO A 400 (A p)).1 → (0 ≤ J 90 9 ∧ J 90 9 ≤ n + 6 - dk) → FA I J → J 90 11 = dk → (v = 0 ∨ v = 1) → P (some (vi v)) (J, H))) :
    Call d 204 [vr (some 90) 10] (I, H) P X := by
  obtain ⟨d, rfl⟩ : ∃ e, d = e + 1 := ⟨d - 1, by omega⟩
  have hu := FA.rf I
  have hpb := hR.bd
  have hb := hR.1
  have hn := hL.2.1
  show WP (Call d) 204 P X (0, [some (vr (some 90) 10), none, none], [], (I, H), 0, 0)
  refine WP.go 2 (And.intro (And.intro (Nat.le_of_ble_eq_true rfl) (Nat.le_of_ble_eq_true rfl)) (And.intro rfl (?_)))
  show Call d 203 [vr (some 90) 10] (I, H) _ _
  refine hA (by omega) hS hL hR hF h11 (hu.fr hfr) ⟨(fun q1 J1 e1 f1 => ?_), (fun q1_1 J1_1 v1 e1_1 b1 f1_1 g1 vb1 => ?_)⟩
  ·
    show WP (Call d) 204 P X (2, [some (vr (some 90) 10), none, none], [vi ((A p).2.2.1 F)], (J1, H), 0, 0)
    have hL_1 : LTX J1 tb n := f1.lt hL
    have pb9 := hR.bd
    have gd9 := hG p (by omega) (by omega) q1
    have ga9 := gd9.1
    have gb9 := gd9.2.1
    have gv9 := vb_1 (gd9.2.2.2 F hFB).1
    have hR_2 : RAT J1 tb n (A p).2.2.2 := e1
    have hF_3 : J1 90 10 = _ := (f1.1 10 (by omega)).trans hF
    have hu_4 : FA I J1 := hu.n f1
    have h_5 : J1 90 11 = _ := (f1.1 11 (by omega)).trans h11
    have hb_6 : 0 ≤ J1 90 9 ∧ J1 90 9 ≤ n := hR_2.1
    refine WP.go 1 ?_
    show WP (Call d) 204 P X (3, [some (vr (some 90) 10), some (vi ((A p).2.2.1 F)), none], [], (J1, H), 0, 0)
    have lp3 : ∀ (n9 : Nat) (K : qI) (v9 : Int) (r9 : RS) (i9 : Int) (hm : 400 - i9 < (n9 : Int)) (kv0 : 0 ≤ i9 ∧ i9 ≤ 400 ∧ i9 ≤ r9.2.2.2) (kv1 : LTX K tb n) (kv2 : RAT K tb n r9.2.2.2) (kv3 : K 90 10 = -1) (kv4 : FA I K) (kv5 : (pLo tb n 1013 2005 opO A 400 (A p)) = pLo tb n 1013 2005 opO A (400 - i9).toNat r9) (kv6 : r9.1 = -1) (kv7 : v9 = r9.2.2.1 F) (kv8 : v9 = 0 ∨ v9 = 1) (kv10 : K 90 11 = dk), WP (Call d) 204 P X (3, [some (vr (some 90) 10), some (vi v9), none], [], (K, H), 0, 0) := by
      intro n9
      induction n9 with
      | zero => intro K v9 r9 i9 hm kv0 kv1 kv2 kv3 kv4 kv5 kv6 kv7 kv8 kv10; exact absurd hm (by omega)
      | succ n9 ih3 =>
        intro K v9 r9 i9 hm kv0 kv1 kv2 kv3 kv4 kv5 kv6 kv7 kv8 kv10
        have qb9 := kv2.bd
        refine WP.go 2 (And.intro rfl (?_))
        refine rw_i (Q := fun x9 => WP (Call d) 204 P X (5, [some (vr (some 90) 10), some (vi v9), none], [vi x9], (K, H), 0, 0)) kv3 ?_
        show WP (Call d) 204 P X (5, [some (vr (some 90) 10), some (vi v9), none], [vi (-1)], (K, H), 0, 0)
        refine WP.go 2 (And.intro (fun (b6 : ¬ (-1) = (-1)) => (absurd b6 (by omega))) (fun (b6 : (-1) = (-1)) => ?_))
        show WP (Call d) 204 P X (7, [some (vr (some 90) 10), some (vi v9), none], [], (K, H), 0, 0)
        refine WP.go 3 (And.intro (And.intro (Nat.le_of_ble_eq_true rfl) (Nat.le_of_ble_eq_true rfl)) (And.intro rfl (?_)))
        show Call d 191 [vr (some 90) 10, vr (some 20) 100] (K, H) _ _
        refine s_12_has (by omega) hS kv1 kv2 (by omega) ⟨(fun q9 J9 e9 f9 => ?_), (fun q9_1 J9_1 e9_1 f9_1 => ?_)⟩
        ·
          show WP (Call d) 204 P X (10, [some (vr (some 90) 10), some (vi v9), none], [vi 1], (J9, H), 0, 0)
          have hL_7 : LTX J9 tb n := f9.lt kv1
          have pb9 := kv2.bd
          have nb9 := nx_bd (tb := tb) pb9.1 (th_lt (tb := tb) pb9.2.1 (fun z => absurd (q9.symm.trans z) (by decide)))
          have hR_8 : RAT J9 tb n (nx tb n r9.2.2.2) := rat_go kv2 (fun z => absurd (q9.symm.trans z) (by decide)) e9
          have hF_9 : J9 90 10 = _ := (f9.1 10 (by omega)).trans kv3
          have hu_10 : FA I J9 := kv4.n f9
          have h_11 : J9 90 11 = _ := (f9.1 11 (by omega)).trans kv10
          have hb_12 : 0 ≤ J9 90 9 ∧ J9 90 9 ≤ n := hR_8.1
          refine WP.go 1 (And.intro (fun (b10 : 1 = 0) => (absurd b10 (by omega))) (fun (b10 : ¬ 1 = 0) => ?_))
          show WP (Call d) 204 P X (11, [some (vr (some 90) 10), some (vi v9), none], [], (J9, H), 0, 0)
          refine WP.go 2 (And.intro (And.intro (Nat.le_of_ble_eq_true rfl) (Nat.le_of_ble_eq_true rfl)) (And.intro rfl (?_)))
          show Call d 203 [vr (some 90) 10] (J9, H) _ _
          refine hA (by omega) hS hL_7 hR_8 hF_9 h_11 (hu_10.fr hfr) ⟨(fun q12 J12 e12 f12 => ?_), (fun q12_1 J12_1 v12 e12_1 b12 f12_1 g12 vb12 => ?_)⟩
          ·
            show WP (Call d) 204 P X (13, [some (vr (some 90) 10), some (vi v9), none], [vi ((A (nx tb n r9.2.2.2)).2.2.1 F)], (J12, H), 0, 0)
            have hL_13 : LTX J12 tb n := f12.lt hL_7
            have pb9 := hR_8.bd
            have gd9 := hG (nx tb n r9.2.2.2) (by omega) (by omega) q12
            have ga9 := gd9.1
            have gb9 := gd9.2.1
            have gv9 := vb_1 (gd9.2.2.2 F hFB).1
            have hR_14 : RAT J12 tb n (A (nx tb n r9.2.2.2)).2.2.2 := e12
            have hF_15 : J12 90 10 = _ := (f12.1 10 (by omega)).trans hF_9
            have hu_16 : FA I J12 := hu_10.n f12
            have h_17 : J12 90 11 = _ := (f12.1 11 (by omega)).trans h_11
            have hb_18 : 0 ≤ J12 90 9 ∧ J12 90 9 ≤ n := hR_14.1
            refine WP.go 3 (And.intro (fun (b15 : ¬ v9 = 0) => ?_) (fun (b15 : v9 = 0) => ?_))
            ·
              show WP (Call d) 204 P X (18, [some (vr (some 90) 10), some (vi v9), some (vi ((A (nx tb n r9.2.2.2)).2.2.1 F))], [], (J12, H), 0, 0)
              refine WP.go 4 ?_
              show WP (Call d) 204 P X (3, [some (vr (some 90) 10), some (vi 1), some (vi ((A (nx tb n r9.2.2.2)).2.2.1 F))], [], (J12, H), 0, 0)
              refine WP.wk (L := [some (vr (some 90) 10), some (vi 1), none]) (And.intro rfl (And.intro rfl (And.intro trivial (trivial)))) ?_
              show WP (Call d) 204 P X (3, [some (vr (some 90) 10), some (vi 1), none], [], (J12, H), 0, 0)
              exact ih3 J12 1 (-1, r9.2.1 ++ (A (nx tb n r9.2.2.2)).2.1 ++ [2005], (fun F => opO (r9.2.2.1 F) ((A (nx tb n r9.2.2.2)).2.2.1 F)), (A (nx tb n r9.2.2.2)).2.2.2) (i9 + 1) (by omega) (by show 0 ≤ i9 + 1 ∧ i9 + 1 ≤ 400 ∧ i9 + 1 ≤ (A (nx tb n r9.2.2.2)).2.2.2; omega) hL_13 hR_14 hF_15 hu_16 (kv5.trans (pLo_y (by omega) kv6 q9 q12)) rfl (by show (1 : Int) = opO (r9.2.2.1 F) ((A (nx tb n r9.2.2.2)).2.2.1 F); unfold opO; rw [if_pos (.inl (by omega))]) (by omega) h_17
            ·
              show WP (Call d) 204 P X (16, [some (vr (some 90) 10), some (vi v9), some (vi ((A (nx tb n r9.2.2.2)).2.2.1 F))], [], (J12, H), 0, 0)
              refine WP.go 2 (And.intro (fun (b17 : (A (nx tb n r9.2.2.2)).2.2.1 F = 0) => ?_) (fun (b17 : ¬ (A (nx tb n r9.2.2.2)).2.2.1 F = 0) => ?_))
              ·
                show WP (Call d) 204 P X (20, [some (vr (some 90) 10), some (vi v9), some (vi ((A (nx tb n r9.2.2.2)).2.2.1 F))], [], (J12, H), 0, 0)
                refine WP.go 3 ?_
                show WP (Call d) 204 P X (3, [some (vr (some 90) 10), some (vi 0), some (vi ((A (nx tb n r9.2.2.2)).2.2.1 F))], [], (J12, H), 0, 0)
                refine WP.wk (L := [some (vr (some 90) 10), some (vi 0), none]) (And.intro rfl (And.intro rfl (And.intro trivial (trivial)))) ?_
                show WP (Call d) 204 P X (3, [some (vr (some 90) 10), some (vi 0), none], [], (J12, H), 0, 0)
                exact ih3 J12 0 (-1, r9.2.1 ++ (A (nx tb n r9.2.2.2)).2.1 ++ [2005], (fun F => opO (r9.2.2.1 F) ((A (nx tb n r9.2.2.2)).2.2.1 F)), (A (nx tb n r9.2.2.2)).2.2.2) (i9 + 1) (by omega) (by show 0 ≤ i9 + 1 ∧ i9 + 1 ≤ 400 ∧ i9 + 1 ≤ (A (nx tb n r9.2.2.2)).2.2.2; omega) hL_13 hR_14 hF_15 hu_16 (kv5.trans (pLo_y (by omega) kv6 q9 q12)) rfl (by show (0 : Int) = opO (r9.2.2.1 F) ((A (nx tb n r9.2.2.2)).2.2.1 F); unfold opO; rw [if_neg (fun z => z.elim (fun w => w (by omega)) (fun w => w (by omega)))]) (by omega) h_17
              ·
                show WP (Call d) 204 P X (18, [some (vr (some 90) 10), some (vi v9), some (vi ((A (nx tb n r9.2.2.2)).2.2.1 F))], [], (J12, H), 0, 0)
                refine WP.go 4 ?_
                show WP (Call d) 204 P X (3, [some (vr (some 90) 10), some (vi 1), some (vi ((A (nx tb n r9.2.2.2)).2.2.1 F))], [], (J12, H), 0, 0)
                refine WP.wk (L := [some (vr (some 90) 10), some (vi 1), none]) (And.intro rfl (And.intro rfl (And.intro trivial (trivial)))) ?_
                show WP (Call d) 204 P X (3, [some (vr (some 90) 10), some (vi 1), none], [], (J12, H), 0, 0)
                exact ih3 J12 1 (-1, r9.2.1 ++ (A (nx tb n r9.2.2.2)).2.1 ++ [2005], (fun F => opO (r9.2.2.1 F) ((A (nx tb n r9.2.2.2)).2.2.1 F)), (A (nx tb n r9.2.2.2)).2.2.2) (i9 + 1) (by omega) (by show 0 ≤ i9 + 1 ∧ i9 + 1 ≤ 400 ∧ i9 + 1 ≤ (A (nx tb n r9.2.2.2)).2.2.2; omega) hL_13 hR_14 hF_15 hu_16 (kv5.trans (pLo_y (by omega) kv6 q9 q12)) rfl (by show (1 : Int) = opO (r9.2.2.1 F) ((A (nx tb n r9.2.2.2)).2.2.1 F); unfold opO; rw [if_pos (.inr (by omega))]) (by omega) h_17
          ·
            show WP (Call d) 204 P X (13, [some (vr (some 90) 10), some (vi v9), none], [vi v12], (J12_1, H), 0, 0)
            have h_19 : J12_1 90 11 = dk := g12
            have hL_20 : LTX J12_1 tb n := f12_1.lt hL_7
            have hF_21 : J12_1 90 10 = (A (nx tb n r9.2.2.2)).1 := e12_1
            have hu_22 : FA I J12_1 := hu_10.tr f12_1
            have hb_23 : 0 ≤ J12_1 90 9 ∧ J12_1 90 9 ≤ n + 6 - dk := b12
            refine WP.go 3 (And.intro (fun (b15 : ¬ v9 = 0) => ?_) (fun (b15 : v9 = 0) => ?_))
            ·
              show WP (Call d) 204 P X (18, [some (vr (some 90) 10), some (vi v9), some (vi v12)], [], (J12_1, H), 0, 0)
              refine WP.go 4 ?_
              show WP (Call d) 204 P X (3, [some (vr (some 90) 10), some (vi 1), some (vi v12)], [], (J12_1, H), 0, 0)
              refine WP.go 2 (And.intro rfl (?_))
              refine rw_i (Q := fun x9 => WP (Call d) 204 P X (5, [some (vr (some 90) 10), some (vi 1), some (vi v12)], [vi x9], (J12_1, H), 0, 0)) hF_21 ?_
              show WP (Call d) 204 P X (5, [some (vr (some 90) 10), some (vi 1), some (vi v12)], [vi ((A (nx tb n r9.2.2.2)).1)], (J12_1, H), 0, 0)
              refine WP.go 2 (And.intro (fun (b6 : ¬ (A (nx tb n r9.2.2.2)).1 = (-1)) => ?_) (fun (b6 : (A (nx tb n r9.2.2.2)).1 = (-1)) => (absurd b6 (by omega))))
              show WP (Call d) 204 P X (23, [some (vr (some 90) 10), some (vi 1), some (vi v12)], [], (J12_1, H), 0, 0)
              refine WP.go 2 (And.intro (And.intro (Nat.le_of_ble_eq_true rfl) (Nat.le_of_ble_eq_true rfl)) (And.intro (Or.inr rfl) (?_)))
              show P (some (vi 1)) (J12_1, H)
              have r8 := kv5.trans (pLo_x (by omega) kv6 q9 q12_1)
              exact h.2 (by rw [r8]; exact q12_1) _ _ (by rw [r8]; exact hF_21) hb_23 hu_22 h_19 (by first | exact .inl rfl | exact .inr rfl | omega)
            ·
              show WP (Call d) 204 P X (16, [some (vr (some 90) 10), some (vi v9), some (vi v12)], [], (J12_1, H), 0, 0)
              refine WP.go 2 (And.intro (fun (b17 : v12 = 0) => ?_) (fun (b17 : ¬ v12 = 0) => ?_))
              ·
                show WP (Call d) 204 P X (20, [some (vr (some 90) 10), some (vi v9), some (vi v12)], [], (J12_1, H), 0, 0)
                refine WP.go 3 ?_
                show WP (Call d) 204 P X (3, [some (vr (some 90) 10), some (vi 0), some (vi v12)], [], (J12_1, H), 0, 0)
                refine WP.go 2 (And.intro rfl (?_))
                refine rw_i (Q := fun x9 => WP (Call d) 204 P X (5, [some (vr (some 90) 10), some (vi 0), some (vi v12)], [vi x9], (J12_1, H), 0, 0)) hF_21 ?_
                show WP (Call d) 204 P X (5, [some (vr (some 90) 10), some (vi 0), some (vi v12)], [vi ((A (nx tb n r9.2.2.2)).1)], (J12_1, H), 0, 0)
                refine WP.go 2 (And.intro (fun (b6 : ¬ (A (nx tb n r9.2.2.2)).1 = (-1)) => ?_) (fun (b6 : (A (nx tb n r9.2.2.2)).1 = (-1)) => (absurd b6 (by omega))))
                show WP (Call d) 204 P X (23, [some (vr (some 90) 10), some (vi 0), some (vi v12)], [], (J12_1, H), 0, 0)
                refine WP.go 2 (And.intro (And.intro (Nat.le_of_ble_eq_true rfl) (Nat.le_of_ble_eq_true rfl)) (And.intro (Or.inl rfl) (?_)))
                show P (some (vi 0)) (J12_1, H)
                have r8 := kv5.trans (pLo_x (by omega) kv6 q9 q12_1)
                exact h.2 (by rw [r8]; exact q12_1) _ _ (by rw [r8]; exact hF_21) hb_23 hu_22 h_19 (by first | exact .inl rfl | exact .inr rfl | omega)
              ·
                show WP (Call d) 204 P X (18, [some (vr (some 90) 10), some (vi v9), some (vi v12)], [], (J12_1, H), 0, 0)
                refine WP.go 4 ?_
                show WP (Call d) 204 P X (3, [some (vr (some 90) 10), some (vi 1), some (vi v12)], [], (J12_1, H), 0, 0)
                refine WP.go 2 (And.intro rfl (?_))
                refine rw_i (Q := fun x9 => WP (Call d) 204 P X (5, [some (vr (some 90) 10), some (vi 1), some (vi v12)], [vi x9], (J12_1, H), 0, 0)) hF_21 ?_
                show WP (Call d) 204 P X (5, [some (vr (some 90) 10), some (vi 1), some (vi v12)], [vi ((A (nx tb n r9.2.2.2)).1)], (J12_1, H), 0, 0)
                refine WP.go 2 (And.intro (fun (b6 : ¬ (A (nx tb n r9.2.2.2)).1 = (-1)) => ?_) (fun (b6 : (A (nx tb n r9.2.2.2)).1 = (-1)) => (absurd b6 (by omega))))
                show WP (Call d) 204 P X (23, [some (vr (some 90) 10), some (vi 1), some (vi v12)], [], (J12_1, H), 0, 0)
                refine WP.go 2 (And.intro (And.intro (Nat.le_of_ble_eq_true rfl) (Nat.le_of_ble_eq_true rfl)) (And.intro (Or.inr rfl) (?_)))
                show P (some (vi 1)) (J12_1, H)
                have r8 := kv5.trans (pLo_x (by omega) kv6 q9 q12_1)
                exact h.2 (by rw [r8]; exact q12_1) _ _ (by rw [r8]; exact hF_21) hb_23 hu_22 h_19 (by first | exact .inl rfl | exact .inr rfl | omega)
        ·
          show WP (Call d) 204 P X (10, [some (vr (some 90) 10), some (vi v9), none], [vi 0], (J9_1, H), 0, 0)
          have hL_24 : LTX J9_1 tb n := f9_1.lt kv1
          have hR_25 : RAT J9_1 tb n r9.2.2.2 := RAT.of kv2.bd e9_1
          have h_26 : J9_1 90 9 = r9.2.2.2 := e9_1
          have hF_27 : J9_1 90 10 = _ := (f9_1.1 10 (by omega)).trans kv3
          have hu_28 : FA I J9_1 := kv4.n f9_1
          have h_29 : J9_1 90 11 = _ := (f9_1.1 11 (by omega)).trans kv10
          have hb_30 : 0 ≤ J9_1 90 9 ∧ J9_1 90 9 ≤ n := hR_25.1
          refine WP.go 1 (And.intro (fun (b10 : 0 = 0) => ?_) (fun (b10 : ¬ 0 = 0) => (absurd b10 (by omega))))
          show WP (Call d) 204 P X (23, [some (vr (some 90) 10), some (vi v9), none], [], (J9_1, H), 0, 0)
          refine WP.go 2 (And.intro (And.intro (Nat.le_of_ble_eq_true rfl) (Nat.le_of_ble_eq_true rfl)) (And.intro kv8 (?_)))
          show P (some (vi v9)) (J9_1, H)
          have r8 : (pLo tb n 1013 2005 opO A 400 (A p)) = r9 := kv5.trans (pLo_n _ kv6 q9_1)
          exact fin_i (by rw [r8]; exact kv7) (h.1 (by rw [r8]; exact kv6) _ (by rw [r8]; exact hR_25) (hu_28.z hF hF_27 h11 h_29))
    exact lp3 ((400 - 0 : Int).toNat + 1) J1 ((A p).2.2.1 F) (A p) 0 (by omega) (by omega) hL_1 hR_2 hF_3 hu_4 rfl q1 rfl (by omega) h_5
  ·
    show WP (Call d) 204 P X (2, [some (vr (some 90) 10), none, none], [vi v1], (J1_1, H), 0, 0)
    have h_31 : J1_1 90 11 = dk := g1
    have hL_32 : LTX J1_1 tb n := f1_1.lt hL
    have hF_33 : J1_1 90 10 = (A p).1 := e1_1
    have hu_34 : FA I J1_1 := hu.tr f1_1
    have hb_35 : 0 ≤ J1_1 90 9 ∧ J1_1 90 9 ≤ n + 6 - dk := b1
    refine WP.go 1 ?_
    show WP (Call d) 204 P X (3, [some (vr (some 90) 10), some (vi v1), none], [], (J1_1, H), 0, 0)
    refine WP.go 2 (And.intro rfl (?_))
    refine rw_i (Q := fun x9 => WP (Call d) 204 P X (5, [some (vr (some 90) 10), some (vi v1), none], [vi x9], (J1_1, H), 0, 0)) hF_33 ?_
    show WP (Call d) 204 P X (5, [some (vr (some 90) 10), some (vi v1), none], [vi ((A p).1)], (J1_1, H), 0, 0)
    refine WP.go 2 (And.intro (fun (b6 : ¬ (A p).1 = (-1)) => ?_) (fun (b6 : (A p).1 = (-1)) => (absurd b6 (by omega))))
    show WP (Call d) 204 P X (23, [some (vr (some 90) 10), some (vi v1), none], [], (J1_1, H), 0, 0)
    refine WP.go 2 (And.intro (And.intro (Nat.le_of_ble_eq_true rfl) (Nat.le_of_ble_eq_true rfl)) (And.intro vb1 (?_)))
    show P (some (vi v1)) (J1_1, H)
    have r8 : (pLo tb n 1013 2005 opO A 400 (A p)) = A p := pLo_e 400 q1_1
    exact h.2 (by rw [r8]; exact q1_1) _ _ (by rw [r8]; exact hF_33) hb_35 hu_34 h_31 (by first | exact .inl rfl | exact .inr rfl | omega)

theorem s_12_atom_z {d : Nat} {P : Option qV → qH → Prop} {X : Nat → qH → Prop} {I : qI} {H : qS} {D m : Nat} {F tb : Int → Int} {A B9 : Int → RS} {n p dk : Int} (hd : D + 1 ≤ d) (hdk : dk = 6) (hS : Shp H) (hL : LTX I tb n) (hR : RAT I tb n p) (hF : I 90 10 = -1) (h11 : I 90 11 = dk) (hfr : FR I F) (hFB : FB F) (hD : 7 ≤ D) (h : ((if th tb n p = 1015 ∨ th tb n p = 2040 then rE p else pPlain tb n p).1 = -1 → ∀ J : qI, RAT J tb n (if th tb n p = 1015 ∨ th tb n p = 2040 then rE p else pPlain tb n p).2.2.2 → F9 I J → P (some (vi ((if th tb n p = 1015 ∨ th tb n p = 2040 then rE p else pPlain tb n p).2.2.1 F))) (J, H)) ∧ ((if th tb n p = 1015 ∨ th tb n p = 2040 then rE p else pPlain tb n p).1 ≠ -1 → ∀ (J : qI) (v : Int), J 90 10 = (if th tb n p = 1015 ∨ th tb n p = 2040 then rE p else pPlain tb n p).1 → (0 ≤ J 90 9 ∧ J 90 9 ≤ n + 6 - dk) → FA I J → J 90 11 = dk → (v = 0 ∨ v = 1) → P (some (vi v)) (J, H))) :
    Call d 202 [vr (some 90) 10] (I, H) P X := by
  obtain ⟨d, rfl⟩ : ∃ e, d = e + 1 := ⟨d - 1, by omega⟩
  have hu := FA.rf I
  have hpb := hR.bd
  have hb := hR.1
  have hn := hL.2.1
  show WP (Call d) 202 P X (0, [some (vr (some 90) 10), none, none, none], [], (I, H), 0, 0)
  refine WP.go 2 (And.intro rfl (?_))
  refine rw_i (Q := fun x9 => WP (Call d) 202 P X (2, [some (vr (some 90) 10), none, none, none], [vi x9], (I, H), 0, 0)) hF ?_
  show WP (Call d) 202 P X (2, [some (vr (some 90) 10), none, none, none], [vi (-1)], (I, H), 0, 0)
  refine WP.go 2 (And.intro (fun (b3 : (-1) = (-1)) => ?_) (fun (b3 : ¬ (-1) = (-1)) => (absurd b3 (by omega))))
  show WP (Call d) 202 P X (6, [some (vr (some 90) 10), none, none, none], [], (I, H), 0, 0)
  refine WP.go 2 (And.intro (And.intro (Nat.le_of_ble_eq_true rfl) (Nat.le_of_ble_eq_true rfl)) (And.intro rfl (?_)))
  show Call d 189 [vr (some 90) 10] (I, H) _ _
  refine s_12_skip (by omega) hS hL hR (fun J7 e7 f7 => ?_)
  show WP (Call d) 202 P X (8, [some (vr (some 90) 10), none, none, none], [], (J7, H), 0, 0)
  have hL_1 : LTX J7 tb n := f7.lt hL
  have h_2 : J7 90 9 = p := e7
  have hR_3 : RAT J7 tb n p := RAT.of hR.bd e7
  have hF_4 : J7 90 10 = _ := (f7.1 10 (by omega)).trans hF
  have hu_5 : FA I J7 := hu.n f7
  have h_6 : J7 90 11 = _ := (f7.1 11 (by omega)).trans h11
  have hb_7 : 0 ≤ J7 90 9 ∧ J7 90 9 ≤ n := hR_3.1
  refine WP.go 2 (And.intro rfl (?_))
  refine rw_i (Q := fun x9 => WP (Call d) 202 P X (10, [some (vr (some 90) 10), none, none, none], [vi x9], (J7, H), 0, 0)) h_2 ?_
  show WP (Call d) 202 P X (10, [some (vr (some 90) 10), none, none, none], [vi p], (J7, H), 0, 0)
  refine WP.go 4 (And.intro (And.intro (Nat.le_of_ble_eq_true rfl) (Nat.le_of_ble_eq_true rfl)) (And.intro rfl (?_)))
  show Call d 191 [vr (some 90) 10, vr (some 18) 100] (J7, H) _ _
  refine s_12_has (by omega) hS hL_1 hR_3 (by omega) ⟨(fun q13 J13 e13 f13 => ?_), (fun q13_1 J13_1 e13_1 f13_1 => ?_)⟩
  ·
    show WP (Call d) 202 P X (14, [some (vr (some 90) 10), some (vi p), none, none], [vi 1], (J13, H), 0, 0)
    have hL_8 : LTX J13 tb n := f13.lt hL_1
    have pb9 := hR_3.bd
    have nb9 := nx_bd (tb := tb) pb9.1 (th_lt (tb := tb) pb9.2.1 (fun z => absurd (q13.symm.trans z) (by decide)))
    have hR_9 : RAT J13 tb n (nx tb n p) := rat_go hR_3 (fun z => absurd (q13.symm.trans z) (by decide)) e13
    have hF_10 : J13 90 10 = _ := (f13.1 10 (by omega)).trans hF_4
    have hu_11 : FA I J13 := hu_5.n f13
    have h_12 : J13 90 11 = _ := (f13.1 11 (by omega)).trans h_6
    have hb_13 : 0 ≤ J13 90 9 ∧ J13 90 9 ≤ n := hR_9.1
    refine WP.go 3 (And.intro (fun (b16 : ¬ 1 = 0) => ?_) (fun (b16 : 1 = 0) => (absurd b16 (by omega))))
    show WP (Call d) 202 P X (24, [some (vr (some 90) 10), some (vi p), some (vi 1), none], [], (J13, H), 0, 0)
    refine WP.go 2 (And.intro rfl (?_))
    refine rw_i (Q := fun x9 => WP (Call d) 202 P X (26, [some (vr (some 90) 10), some (vi p), some (vi 1), none], [vi x9], (J13, H), 0, 0)) h_12 ?_
    show WP (Call d) 202 P X (26, [some (vr (some 90) 10), some (vi p), some (vi 1), none], [vi dk], (J13, H), 0, 0)
    refine WP.go 2 (And.intro (fun (b27 : ¬ dk = 6) => (absurd b27 (by omega))) (fun (b27 : dk = 6) => ?_))
    show WP (Call d) 202 P X (28, [some (vr (some 90) 10), some (vi p), some (vi 1), none], [], (J13, H), 0, 0)
    refine WP.go 3 (And.intro (And.intro (Nat.le_of_ble_eq_true rfl) (Nat.le_of_ble_eq_true rfl)) (And.intro rfl (?_)))
    show Call d 192 [vr (some 90) 10, vi p] (J13, H) _ _
    refine s_12_wrong (by omega) hF_10 (fun J30 e30 f30 => ?_)
    show WP (Call d) 202 P X (31, [some (vr (some 90) 10), some (vi p), some (vi 1), none], [], (J30, H), 0, 0)
    have hF_14 : J30 90 10 = p := by rw [e30]; rfl
    have hu_15 : FA I J30 := hu_11.o (.inr (.inl rfl)) e30 f30
    have hL_16 : LTX J30 tb n := hL_8.fr (by rw [e30]; rfl) (by rw [e30]; rfl) (f30 94 (by omega)) (f30 91 (by omega))
    have h_17 : J30 90 11 = dk := by rw [e30]; exact h_12
    have hb_18 : 0 ≤ J30 90 9 ∧ J30 90 9 ≤ n := by rw [e30]; exact hb_13
    refine WP.go 2 (And.intro (And.intro (Nat.le_of_ble_eq_true rfl) (Nat.le_of_ble_eq_true rfl)) (And.intro (Or.inl rfl) (?_)))
    show P (some (vi 0)) (J30, H)
    have r8 : (if th tb n p = 1015 ∨ th tb n p = 2040 then rE p else pPlain tb n p) = rE p := if_pos (.inl q13)
    exact h.2 (by rw [r8]; show p ≠ -1; omega) _ _ (by rw [r8]; exact hF_14) ⟨hb_18.1, by have w8 := hb_18.2; omega⟩ hu_15 h_17 (by first | exact .inl rfl | exact .inr rfl | omega)
  ·
    show WP (Call d) 202 P X (14, [some (vr (some 90) 10), some (vi p), none, none], [vi 0], (J13_1, H), 0, 0)
    have hL_19 : LTX J13_1 tb n := f13_1.lt hL_1
    have hR_20 : RAT J13_1 tb n p := RAT.of hR_3.bd e13_1
    have h_21 : J13_1 90 9 = p := e13_1
    have hF_22 : J13_1 90 10 = _ := (f13_1.1 10 (by omega)).trans hF_4
    have hu_23 : FA I J13_1 := hu_5.n f13_1
    have h_24 : J13_1 90 11 = _ := (f13_1.1 11 (by omega)).trans h_6
    have hb_25 : 0 ≤ J13_1 90 9 ∧ J13_1 90 9 ≤ n := hR_20.1
    refine WP.go 3 (And.intro (fun (b16 : ¬ 0 = 0) => (absurd b16 (by omega))) (fun (b16 : 0 = 0) => ?_))
    show WP (Call d) 202 P X (17, [some (vr (some 90) 10), some (vi p), some (vi 0), none], [], (J13_1, H), 0, 0)
    refine WP.go 3 (And.intro (And.intro (Nat.le_of_ble_eq_true rfl) (Nat.le_of_ble_eq_true rfl)) (And.intro rfl (?_)))
    show Call d 190 [vr (some 90) 10, vi 40] (J13_1, H) _ _
    refine s_12_isSign (by omega) hS hL_19 hR_20 ⟨by omega, by unfold isL; omega, by unfold isD; omega⟩ (fun J19 e19 f19 => ?_)
    show WP (Call d) 202 P X (20, [some (vr (some 90) 10), some (vi p), some (vi 0), none], [vi (bz (th tb n p = 2000 + 40))], (J19, H), 0, 0)
    have hL_26 : LTX J19 tb n := f19.lt hL_19
    have hR_27 : RAT J19 tb n p := RAT.of hR_20.bd e19
    have h_28 : J19 90 9 = p := e19
    have hF_29 : J19 90 10 = _ := (f19.1 10 (by omega)).trans hF_22
    have hu_30 : FA I J19 := hu_23.n f19
    have h_31 : J19 90 11 = _ := (f19.1 11 (by omega)).trans h_24
    have hb_32 : 0 ≤ J19 90 9 ∧ J19 90 9 ≤ n := hR_27.1
    refine WP.go 1 (And.intro (fun (b20 : ¬ bz (th tb n p = 2000 + 40) = 0) => ?_) (fun (b20 : bz (th tb n p = 2000 + 40) = 0) => ?_))
    ·
      show WP (Call d) 202 P X (24, [some (vr (some 90) 10), some (vi p), some (vi 0), none], [], (J19, H), 0, 0)
      have z20 := bz_e1.mp b20
      refine WP.go 2 (And.intro rfl (?_))
      refine rw_i (Q := fun x9 => WP (Call d) 202 P X (26, [some (vr (some 90) 10), some (vi p), some (vi 0), none], [vi x9], (J19, H), 0, 0)) h_31 ?_
      show WP (Call d) 202 P X (26, [some (vr (some 90) 10), some (vi p), some (vi 0), none], [vi dk], (J19, H), 0, 0)
      refine WP.go 2 (And.intro (fun (b27 : ¬ dk = 6) => (absurd b27 (by omega))) (fun (b27 : dk = 6) => ?_))
      show WP (Call d) 202 P X (28, [some (vr (some 90) 10), some (vi p), some (vi 0), none], [], (J19, H), 0, 0)
      refine WP.go 3 (And.intro (And.intro (Nat.le_of_ble_eq_true rfl) (Nat.le_of_ble_eq_true rfl)) (And.intro rfl (?_)))
      show Call d 192 [vr (some 90) 10, vi p] (J19, H) _ _
      refine s_12_wrong (by omega) hF_29 (fun J30_1 e30_1 f30_1 => ?_)
      show WP (Call d) 202 P X (31, [some (vr (some 90) 10), some (vi p), some (vi 0), none], [], (J30_1, H), 0, 0)
      have hF_33 : J30_1 90 10 = p := by rw [e30_1]; rfl
      have hu_34 : FA I J30_1 := hu_30.o (.inr (.inl rfl)) e30_1 f30_1
      have hL_35 : LTX J30_1 tb n := hL_26.fr (by rw [e30_1]; rfl) (by rw [e30_1]; rfl) (f30_1 94 (by omega)) (f30_1 91 (by omega))
      have h_36 : J30_1 90 11 = dk := by rw [e30_1]; exact h_31
      have hb_37 : 0 ≤ J30_1 90 9 ∧ J30_1 90 9 ≤ n := by rw [e30_1]; exact hb_32
      refine WP.go 2 (And.intro (And.intro (Nat.le_of_ble_eq_true rfl) (Nat.le_of_ble_eq_true rfl)) (And.intro (Or.inl rfl) (?_)))
      show P (some (vi 0)) (J30_1, H)
      have r8 : (if th tb n p = 1015 ∨ th tb n p = 2040 then rE p else pPlain tb n p) = rE p := if_pos (.inr z20)
      exact h.2 (by rw [r8]; show p ≠ -1; omega) _ _ (by rw [r8]; exact hF_33) ⟨hb_37.1, by have w8 := hb_37.2; omega⟩ hu_34 h_36 (by first | exact .inl rfl | exact .inr rfl | omega)
    ·
      show WP (Call d) 202 P X (21, [some (vr (some 90) 10), some (vi p), some (vi 0), none], [], (J19, H), 0, 0)
      have z20 := bz_e0.mp b20
      refine WP.go 2 (And.intro (And.intro (Nat.le_of_ble_eq_true rfl) (Nat.le_of_ble_eq_true rfl)) (And.intro rfl (?_)))
      show Call d 201 [vr (some 90) 10] (J19, H) _ _
      refine s_12_plain (by omega) hS hL_26 hR_27 hF_29 h_31 (hu_30.fr hfr) hFB ⟨(fun q22 J22 e22 f22 => ?_), (fun q22_1 J22_1 v22 e22_1 b22 f22_1 g22 vb22 => ?_)⟩
      ·
        show WP (Call d) 202 P X (23, [some (vr (some 90) 10), some (vi p), some (vi 0), none], [vi ((pPlain tb n p).2.2.1 F)], (J22, H), 0, 0)
        have hL_38 : LTX J22 tb n := f22.lt hL_26
        have pb9 := hR_27.bd
        have gd9 := pPlain_gd (tb := tb) (n := n) (p := p) (by omega) (by omega) (by omega) q22
        have ga9 := gd9.1
        have gb9 := gd9.2.1
        have gv9 := vb_1 (gd9.2.2.2 F hFB).1
        have hR_39 : RAT J22 tb n (pPlain tb n p).2.2.2 := e22
        have hF_40 : J22 90 10 = _ := (f22.1 10 (by omega)).trans hF_29
        have hu_41 : FA I J22 := hu_30.n f22
        have h_42 : J22 90 11 = _ := (f22.1 11 (by omega)).trans h_31
        have hb_43 : 0 ≤ J22 90 9 ∧ J22 90 9 ≤ n := hR_39.1
        refine WP.go 1 (And.intro (And.intro (Nat.le_of_ble_eq_true rfl) (Nat.le_of_ble_eq_true rfl)) (And.intro gv9 (?_)))
        show P (some (vi ((pPlain tb n p).2.2.1 F))) (J22, H)
        have r8 := show (if th tb n p = 1015 ∨ th tb n p = 2040 then rE p else pPlain tb n p) = pPlain tb n p from if_neg (fun z => z.elim q13_1 z20)
        exact fin_i (by rw [r8]) (h.1 (by rw [r8]; exact q22) _ (by rw [r8]; exact hR_39) (hu_41.z hF hF_40 h11 h_42))
      ·
        show WP (Call d) 202 P X (23, [some (vr (some 90) 10), some (vi p), some (vi 0), none], [vi v22], (J22_1, H), 0, 0)
        have h_44 : J22_1 90 11 = dk := g22
        have hL_45 : LTX J22_1 tb n := f22_1.lt hL_26
        have hF_46 : J22_1 90 10 = (pPlain tb n p).1 := e22_1
        have hu_47 : FA I J22_1 := hu_30.tr f22_1
        have hb_48 : 0 ≤ J22_1 90 9 ∧ J22_1 90 9 ≤ n := b22
        refine WP.go 1 (And.intro (And.intro (Nat.le_of_ble_eq_true rfl) (Nat.le_of_ble_eq_true rfl)) (And.intro vb22 (?_)))
        show P (some (vi v22)) (J22_1, H)
        have r8 := show (if th tb n p = 1015 ∨ th tb n p = 2040 then rE p else pPlain tb n p) = pPlain tb n p from if_neg (fun z => z.elim q13_1 z20)
        exact h.2 (by rw [r8]; exact q22_1) _ _ (by rw [r8]; exact hF_46) ⟨hb_48.1, by have w8 := hb_48.2; omega⟩ hu_47 h_44 (by first | exact .inl rfl | exact .inr rfl | omega)

theorem s_12_atom_s {d : Nat} {P : Option qV → qH → Prop} {X : Nat → qH → Prop} {I : qI} {H : qS} {D m : Nat} {F tb : Int → Int} {A B9 : Int → RS} {n p dk : Int} (hd : D + 3 ≤ d) (hN : MC D 202 (dk + 1) tb n F A) (hGN : ∀ p, 0 ≤ p → p ≤ n → GD n true m p (A p)) (hB : MC (D + 2) 204 (dk + 1) tb n F B9) (hGB : ∀ p, 0 ≤ p → p ≤ n → GD n true (m + 2) p (B9 p)) (hdk : 0 ≤ dk ∧ dk ≤ 5) (hS : Shp H) (hL : LTX I tb n) (hR : RAT I tb n p) (hF : I 90 10 = -1) (h11 : I 90 11 = dk) (hfr : FR I F) (hFB : FB F) (hD : 7 ≤ D) (h : ((if th tb n p = 1015 then pNeg (A (nx tb n p)) else if th tb n p = 2040 then pBrc tb n (B9 (nx tb n p)) else pPlain tb n p).1 = -1 → ∀ J : qI, RAT J tb n (if th tb n p = 1015 then pNeg (A (nx tb n p)) else if th tb n p = 2040 then pBrc tb n (B9 (nx tb n p)) else pPlain tb n p).2.2.2 → F9 I J → P (some (vi ((if th tb n p = 1015 then pNeg (A (nx tb n p)) else if th tb n p = 2040 then pBrc tb n (B9 (nx tb n p)) else pPlain tb n p).2.2.1 F))) (J, H)) ∧ ((if th tb n p = 1015 then pNeg (A (nx tb n p)) else if th tb n p = 2040 then pBrc tb n (B9 (nx tb n p)) else pPlain tb n p).1 ≠ -1 → ∀ (J : qI) (v : Int), J 90 10 = (if th tb n p = 1015 then pNeg (A (nx tb n p)) else if th tb n p = 2040 then pBrc tb n (B9 (nx tb n p)) else pPlain tb n p).1 → (0 ≤ J 90 9 ∧ J 90 9 ≤ n + 6 - dk) → FA I J → J 90 11 = dk → (v = 0 ∨ v = 1) → P (some (vi v)) (J, H))) :
    Call d 202 [vr (some 90) 10] (I, H) P X := by
  obtain ⟨d, rfl⟩ : ∃ e, d = e + 1 := ⟨d - 1, by omega⟩
  have hu := FA.rf I
  have hpb := hR.bd
  have hb := hR.1
  have hn := hL.2.1
  show WP (Call d) 202 P X (0, [some (vr (some 90) 10), none, none, none], [], (I, H), 0, 0)
  refine WP.go 2 (And.intro rfl (?_))
  refine rw_i (Q := fun x9 => WP (Call d) 202 P X (2, [some (vr (some 90) 10), none, none, none], [vi x9], (I, H), 0, 0)) hF ?_
  show WP (Call d) 202 P X (2, [some (vr (some 90) 10), none, none, none], [vi (-1)], (I, H), 0, 0)
  refine WP.go 2 (And.intro (fun (b3 : (-1) = (-1)) => ?_) (fun (b3 : ¬ (-1) = (-1)) => (absurd b3 (by omega))))
  show WP (Call d) 202 P X (6, [some (vr (some 90) 10), none, none, none], [], (I, H), 0, 0)
  refine WP.go 2 (And.intro (And.intro (Nat.le_of_ble_eq_true rfl) (Nat.le_of_ble_eq_true rfl)) (And.intro rfl (?_)))
  show Call d 189 [vr (some 90) 10] (I, H) _ _
  refine s_12_skip (by omega) hS hL hR (fun J7 e7 f7 => ?_)
  show WP (Call d) 202 P X (8, [some (vr (some 90) 10), none, none, none], [], (J7, H), 0, 0)
  have hL_1 : LTX J7 tb n := f7.lt hL
  have h_2 : J7 90 9 = p := e7
  have hR_3 : RAT J7 tb n p := RAT.of hR.bd e7
  have hF_4 : J7 90 10 = _ := (f7.1 10 (by omega)).trans hF
  have hu_5 : FA I J7 := hu.n f7
  have h_6 : J7 90 11 = _ := (f7.1 11 (by omega)).trans h11
  have hb_7 : 0 ≤ J7 90 9 ∧ J7 90 9 ≤ n := hR_3.1
  refine WP.go 2 (And.intro rfl (?_))
  refine rw_i (Q := fun x9 => WP (Call d) 202 P X (10, [some (vr (some 90) 10), none, none, none], [vi x9], (J7, H), 0, 0)) h_2 ?_
  show WP (Call d) 202 P X (10, [some (vr (some 90) 10), none, none, none], [vi p], (J7, H), 0, 0)
  refine WP.go 4 (And.intro (And.intro (Nat.le_of_ble_eq_true rfl) (Nat.le_of_ble_eq_true rfl)) (And.intro rfl (?_)))
  show Call d 191 [vr (some 90) 10, vr (some 18) 100] (J7, H) _ _
  refine s_12_has (by omega) hS hL_1 hR_3 (by omega) ⟨(fun q13 J13 e13 f13 => ?_), (fun q13_1 J13_1 e13_1 f13_1 => ?_)⟩
  ·
    show WP (Call d) 202 P X (14, [some (vr (some 90) 10), some (vi p), none, none], [vi 1], (J13, H), 0, 0)
    have hL_8 : LTX J13 tb n := f13.lt hL_1
    have pb9 := hR_3.bd
    have nb9 := nx_bd (tb := tb) pb9.1 (th_lt (tb := tb) pb9.2.1 (fun z => absurd (q13.symm.trans z) (by decide)))
    have hR_9 : RAT J13 tb n (nx tb n p) := rat_go hR_3 (fun z => absurd (q13.symm.trans z) (by decide)) e13
    have hF_10 : J13 90 10 = _ := (f13.1 10 (by omega)).trans hF_4
    have hu_11 : FA I J13 := hu_5.n f13
    have h_12 : J13 90 11 = _ := (f13.1 11 (by omega)).trans h_6
    have hb_13 : 0 ≤ J13 90 9 ∧ J13 90 9 ≤ n := hR_9.1
    refine WP.go 3 (And.intro (fun (b16 : ¬ 1 = 0) => ?_) (fun (b16 : 1 = 0) => (absurd b16 (by omega))))
    show WP (Call d) 202 P X (24, [some (vr (some 90) 10), some (vi p), some (vi 1), none], [], (J13, H), 0, 0)
    refine WP.go 2 (And.intro rfl (?_))
    refine rw_i (Q := fun x9 => WP (Call d) 202 P X (26, [some (vr (some 90) 10), some (vi p), some (vi 1), none], [vi x9], (J13, H), 0, 0)) h_12 ?_
    show WP (Call d) 202 P X (26, [some (vr (some 90) 10), some (vi p), some (vi 1), none], [vi dk], (J13, H), 0, 0)
    refine WP.go 2 (And.intro (fun (b27 : ¬ dk = 6) => ?_) (fun (b27 : dk = 6) => (absurd b27 (by omega))))
    show WP (Call d) 202 P X (33, [some (vr (some 90) 10), some (vi p), some (vi 1), none], [], (J13, H), 0, 0)
    refine WP.go 3 (And.intro rfl (?_))
    refine rw_i (Q := fun x9 => WP (Call d) 202 P X (36, [some (vr (some 90) 10), some (vi p), some (vi 1), none], [vi x9, vr (some 90) 10], (J13, H), 0, 0)) h_12 ?_
    show WP (Call d) 202 P X (36, [some (vr (some 90) 10), some (vi p), some (vi 1), none], [vi dk, vr (some 90) 10], (J13, H), 0, 0)
    refine WP.go 3 (Exists.intro (dk + 1) (And.intro (wrp_a (by omega) (by omega)) (And.intro (And.intro rfl trivial) (?_))))
    show WP (Call d) 202 P X (39, [some (vr (some 90) 10), some (vi p), some (vi 1), none], [], ((upI J13 90 11 (dk + 1)), H), 0, 0)
    generalize hq_C0 : (upI J13 90 11 (dk + 1)) = C0
    have e_C0 : C0 90 = (fun j => if j = 11 then (dk + 1) else J13 90 j) := by rw [← hq_C0]; exact upI_self _ _ _ _
    have f_C0 : ∀ a, a ≠ 90 → C0 a = J13 a := fun a q => by rw [← hq_C0]; exact upI_cell q
    have hu_14 : FA I C0 := hu_11.o (.inr (.inr rfl)) e_C0 f_C0
    have hL_15 : LTX C0 tb n := hL_8.fr (by rw [e_C0]; rfl) (by rw [e_C0]; rfl) (f_C0 94 (by omega)) (f_C0 91 (by omega))
    have hF_16 : C0 90 10 = -1 := by rw [e_C0]; exact hF_10
    have h_17 : C0 90 11 = dk + 1 := by rw [e_C0]; rfl
    have hR_18 : RAT C0 tb n (nx tb n p) := hR_9.cp (by rw [e_C0]; rfl)
    have hb_19 : 0 ≤ C0 90 9 ∧ C0 90 9 ≤ n := hR_18.1
    refine WP.go 4 (And.intro (fun (b42 : 1 = 0) => (absurd b42 (by omega))) (fun (b42 : ¬ 1 = 0) => ?_))
    show WP (Call d) 202 P X (43, [some (vr (some 90) 10), some (vi p), some (vi 1), some (vi 0)], [], (C0, H), 0, 0)
    refine WP.go 2 (And.intro (And.intro (Nat.le_of_ble_eq_true rfl) (Nat.le_of_ble_eq_true rfl)) (And.intro rfl (?_)))
    show Call d 202 [vr (some 90) 10] (C0, H) _ _
    refine hN (by omega) hS hL_15 hR_18 hF_16 h_17 (hu_14.fr hfr) ⟨(fun q44 J44 e44 f44 => ?_), (fun q44_1 J44_1 v44 e44_1 b44 f44_1 g44 vb44 => ?_)⟩
    ·
      show WP (Call d) 202 P X (45, [some (vr (some 90) 10), some (vi p), some (vi 1), some (vi 0)], [vi ((A (nx tb n p)).2.2.1 F)], (J44, H), 0, 0)
      have hL_20 : LTX J44 tb n := f44.lt hL_15
      have pb9 := hR_18.bd
      have gd9 := hGN (nx tb n p) (by omega) (by omega) q44
      have ga9 := gd9.1
      have gb9 := gd9.2.1
      have gv9 := vb_1 (gd9.2.2.2 F hFB).1
      have hR_21 : RAT J44 tb n (A (nx tb n p)).2.2.2 := e44
      have hF_22 : J44 90 10 = _ := (f44.1 10 (by omega)).trans hF_16
      have hu_23 : FA I J44 := hu_14.n f44
      have h_24 : J44 90 11 = _ := (f44.1 11 (by omega)).trans h_17
      have hb_25 : 0 ≤ J44 90 9 ∧ J44 90 9 ≤ n := hR_21.1
      refine WP.go 1 (And.intro (fun (b45 : ¬ (A (nx tb n p)).2.2.1 F = 0) => ?_) (fun (b45 : (A (nx tb n p)).2.2.1 F = 0) => ?_))
      ·
        show WP (Call d) 202 P X (48, [some (vr (some 90) 10), some (vi p), some (vi 1), some (vi 0)], [], (J44, H), 0, 0)
        refine WP.go 6 (And.intro rfl (?_))
        refine rw_i (Q := fun x9 => WP (Call d) 202 P X (81, [some (vr (some 90) 10), some (vi p), some (vi 1), some (vi 0)], [vi x9, vr (some 90) 10], (J44, H), 0, 0)) h_24 ?_
        show WP (Call d) 202 P X (81, [some (vr (some 90) 10), some (vi p), some (vi 1), some (vi 0)], [vi (dk + 1), vr (some 90) 10], (J44, H), 0, 0)
        refine WP.go 3 (Exists.intro ((dk + 1) - 1) (And.intro (wrp_a (by omega) (by omega)) (And.intro (And.intro rfl trivial) (?_))))
        show WP (Call d) 202 P X (84, [some (vr (some 90) 10), some (vi p), some (vi 1), some (vi 0)], [], ((upI J44 90 11 ((dk + 1) - 1)), H), 0, 0)
        generalize hq_E0 : (upI J44 90 11 ((dk + 1) - 1)) = E0
        have e_E0 : E0 90 = (fun j => if j = 11 then ((dk + 1) - 1) else J44 90 j) := by rw [← hq_E0]; exact upI_self _ _ _ _
        have f_E0 : ∀ a, a ≠ 90 → E0 a = J44 a := fun a q => by rw [← hq_E0]; exact upI_cell q
        have hu_26 : FA I E0 := hu_23.o (.inr (.inr rfl)) e_E0 f_E0
        have hF_27 : E0 90 10 = -1 := by rw [e_E0]; exact hF_22
        have h_28 : E0 90 11 = dk := by rw [e_E0]; show dk + 1 - 1 = dk; omega
        have hR_29 : RAT E0 tb n _ := hR_21.cp (by rw [e_E0]; rfl)
        refine WP.go 2 (And.intro (And.intro (Nat.le_of_ble_eq_true rfl) (Nat.le_of_ble_eq_true rfl)) (And.intro (Or.inl rfl) (?_)))
        show P (some (vi 0)) (E0, H)
        have r8 := (show (if th tb n p = 1015 then pNeg (A (nx tb n p)) else if th tb n p = 2040 then pBrc tb n (B9 (nx tb n p)) else pPlain tb n p) = pNeg (A (nx tb n p)) from if_pos q13).trans (show pNeg (A (nx tb n p)) = (-1, (A (nx tb n p)).2.1 ++ [2006], (fun F => if (A (nx tb n p)).2.2.1 F = 0 then 1 else 0), (A (nx tb n p)).2.2.2) from if_neg (fun z => z q44))
        exact fin_i (by rw [r8]; show (0 : Int) = (if (A (nx tb n p)).2.2.1 F = 0 then 1 else 0); rw [if_neg b45]) (h.1 (by rw [r8]) _ (by rw [r8]; exact hR_29) (hu_26.z hF hF_27 h11 h_28))
      ·
        show WP (Call d) 202 P X (46, [some (vr (some 90) 10), some (vi p), some (vi 1), some (vi 0)], [], (J44, H), 0, 0)
        refine WP.go 7 (And.intro rfl (?_))
        refine rw_i (Q := fun x9 => WP (Call d) 202 P X (81, [some (vr (some 90) 10), some (vi p), some (vi 1), some (vi 1)], [vi x9, vr (some 90) 10], (J44, H), 0, 0)) h_24 ?_
        show WP (Call d) 202 P X (81, [some (vr (some 90) 10), some (vi p), some (vi 1), some (vi 1)], [vi (dk + 1), vr (some 90) 10], (J44, H), 0, 0)
        refine WP.go 3 (Exists.intro ((dk + 1) - 1) (And.intro (wrp_a (by omega) (by omega)) (And.intro (And.intro rfl trivial) (?_))))
        show WP (Call d) 202 P X (84, [some (vr (some 90) 10), some (vi p), some (vi 1), some (vi 1)], [], ((upI J44 90 11 ((dk + 1) - 1)), H), 0, 0)
        generalize hq_E0 : (upI J44 90 11 ((dk + 1) - 1)) = E0
        have e_E0 : E0 90 = (fun j => if j = 11 then ((dk + 1) - 1) else J44 90 j) := by rw [← hq_E0]; exact upI_self _ _ _ _
        have f_E0 : ∀ a, a ≠ 90 → E0 a = J44 a := fun a q => by rw [← hq_E0]; exact upI_cell q
        have hu_30 : FA I E0 := hu_23.o (.inr (.inr rfl)) e_E0 f_E0
        have hF_31 : E0 90 10 = -1 := by rw [e_E0]; exact hF_22
        have h_32 : E0 90 11 = dk := by rw [e_E0]; show dk + 1 - 1 = dk; omega
        have hR_33 : RAT E0 tb n _ := hR_21.cp (by rw [e_E0]; rfl)
        refine WP.go 2 (And.intro (And.intro (Nat.le_of_ble_eq_true rfl) (Nat.le_of_ble_eq_true rfl)) (And.intro (Or.inr rfl) (?_)))
        show P (some (vi 1)) (E0, H)
        have r8 := (show (if th tb n p = 1015 then pNeg (A (nx tb n p)) else if th tb n p = 2040 then pBrc tb n (B9 (nx tb n p)) else pPlain tb n p) = pNeg (A (nx tb n p)) from if_pos q13).trans (show pNeg (A (nx tb n p)) = (-1, (A (nx tb n p)).2.1 ++ [2006], (fun F => if (A (nx tb n p)).2.2.1 F = 0 then 1 else 0), (A (nx tb n p)).2.2.2) from if_neg (fun z => z q44))
        exact fin_i (by rw [r8]; show (1 : Int) = (if (A (nx tb n p)).2.2.1 F = 0 then 1 else 0); rw [if_pos (by omega)]) (h.1 (by rw [r8]) _ (by rw [r8]; exact hR_33) (hu_30.z hF hF_31 h11 h_32))
    ·
      show WP (Call d) 202 P X (45, [some (vr (some 90) 10), some (vi p), some (vi 1), some (vi 0)], [vi v44], (J44_1, H), 0, 0)
      have h_34 : J44_1 90 11 = (dk + 1) := g44
      have hL_35 : LTX J44_1 tb n := f44_1.lt hL_15
      have hF_36 : J44_1 90 10 = (A (nx tb n p)).1 := e44_1
      have hu_37 : FA I J44_1 := hu_14.tr f44_1
      have hb_38 : 0 ≤ J44_1 90 9 ∧ J44_1 90 9 ≤ n + 6 - (dk + 1) := b44
      refine WP.go 1 (And.intro (fun (b45 : ¬ v44 = 0) => ?_) (fun (b45 : v44 = 0) => ?_))
      ·
        show WP (Call d) 202 P X (48, [some (vr (some 90) 10), some (vi p), some (vi 1), some (vi 0)], [], (J44_1, H), 0, 0)
        refine WP.go 6 (And.intro rfl (?_))
        refine rw_i (Q := fun x9 => WP (Call d) 202 P X (81, [some (vr (some 90) 10), some (vi p), some (vi 1), some (vi 0)], [vi x9, vr (some 90) 10], (J44_1, H), 0, 0)) h_34 ?_
        show WP (Call d) 202 P X (81, [some (vr (some 90) 10), some (vi p), some (vi 1), some (vi 0)], [vi (dk + 1), vr (some 90) 10], (J44_1, H), 0, 0)
        refine WP.go 3 (Exists.intro ((dk + 1) - 1) (And.intro (wrp_a (by omega) (by omega)) (And.intro (And.intro rfl trivial) (?_))))
        show WP (Call d) 202 P X (84, [some (vr (some 90) 10), some (vi p), some (vi 1), some (vi 0)], [], ((upI J44_1 90 11 ((dk + 1) - 1)), H), 0, 0)
        generalize hq_E0 : (upI J44_1 90 11 ((dk + 1) - 1)) = E0
        have e_E0 : E0 90 = (fun j => if j = 11 then ((dk + 1) - 1) else J44_1 90 j) := by rw [← hq_E0]; exact upI_self _ _ _ _
        have f_E0 : ∀ a, a ≠ 90 → E0 a = J44_1 a := fun a q => by rw [← hq_E0]; exact upI_cell q
        have hu_39 : FA I E0 := hu_37.o (.inr (.inr rfl)) e_E0 f_E0
        have hF_40 : E0 90 10 = (A (nx tb n p)).1 := by rw [e_E0]; exact hF_36
        have h_41 : E0 90 11 = dk := by rw [e_E0]; show dk + 1 - 1 = dk; omega
        have hb_42 : 0 ≤ E0 90 9 ∧ E0 90 9 ≤ n + 6 - dk := by have e9 : E0 90 9 = J44_1 90 9 := (by rw [e_E0]; rfl); have w9 := hb_38; omega
        refine WP.go 2 (And.intro (And.intro (Nat.le_of_ble_eq_true rfl) (Nat.le_of_ble_eq_true rfl)) (And.intro (Or.inl rfl) (?_)))
        show P (some (vi 0)) (E0, H)
        have r8 := (show (if th tb n p = 1015 then pNeg (A (nx tb n p)) else if th tb n p = 2040 then pBrc tb n (B9 (nx tb n p)) else pPlain tb n p) = pNeg (A (nx tb n p)) from if_pos q13).trans (show pNeg (A (nx tb n p)) = rE (A (nx tb n p)).1 from if_pos q44_1)
        exact h.2 (by rw [r8]; exact q44_1) _ _ (by rw [r8]; exact hF_40) hb_42 hu_39 h_41 (by first | exact .inl rfl | exact .inr rfl | omega)
      ·
        show WP (Call d) 202 P X (46, [some (vr (some 90) 10), some (vi p), some (vi 1), some (vi 0)], [], (J44_1, H), 0, 0)
        refine WP.go 7 (And.intro rfl (?_))
        refine rw_i (Q := fun x9 => WP (Call d) 202 P X (81, [some (vr (some 90) 10), some (vi p), some (vi 1), some (vi 1)], [vi x9, vr (some 90) 10], (J44_1, H), 0, 0)) h_34 ?_
        show WP (Call d) 202 P X (81, [some (vr (some 90) 10), some (vi p), some (vi 1), some (vi 1)], [vi (dk + 1), vr (some 90) 10], (J44_1, H), 0, 0)
        refine WP.go 3 (Exists.intro ((dk + 1) - 1) (And.intro (wrp_a (by omega) (by omega)) (And.intro (And.intro rfl trivial) (?_))))
        show WP (Call d) 202 P X (84, [some (vr (some 90) 10), some (vi p), some (vi 1), some (vi 1)], [], ((upI J44_1 90 11 ((dk + 1) - 1)), H), 0, 0)
        generalize hq_E0 : (upI J44_1 90 11 ((dk + 1) - 1)) = E0
        have e_E0 : E0 90 = (fun j => if j = 11 then ((dk + 1) - 1) else J44_1 90 j) := by rw [← hq_E0]; exact upI_self _ _ _ _
        have f_E0 : ∀ a, a ≠ 90 → E0 a = J44_1 a := fun a q => by rw [← hq_E0]; exact upI_cell q
        have hu_43 : FA I E0 := hu_37.o (.inr (.inr rfl)) e_E0 f_E0
        have hF_44 : E0 90 10 = (A (nx tb n p)).1 := by rw [e_E0]; exact hF_36
        have h_45 : E0 90 11 = dk := by rw [e_E0]; show dk + 1 - 1 = dk; omega
        have hb_46 : 0 ≤ E0 90 9 ∧ E0 90 9 ≤ n + 6 - dk := by have e9 : E0 90 9 = J44_1 90 9 := (by rw [e_E0]; rfl); have w9 := hb_38; omega
        refine WP.go 2 (And.intro (And.intro (Nat.le_of_ble_eq_true rfl) (Nat.le_of_ble_eq_true rfl)) (And.intro (Or.inr rfl) (?_)))
        show P (some (vi 1)) (E0, H)
        have r8 := (show (if th tb n p = 1015 then pNeg (A (nx tb n p)) else if th tb n p = 2040 then pBrc tb n (B9 (nx tb n p)) else pPlain tb n p) = pNeg (A (nx tb n p)) from if_pos q13).trans (show pNeg (A (nx tb n p)) = rE (A (nx tb n p)).1 from if_pos q44_1)
        exact h.2 (by rw [r8]; exact q44_1) _ _ (by rw [r8]; exact hF_44) hb_46 hu_43 h_45 (by first | exact .inl rfl | exact .inr rfl | omega)
  ·
    show WP (Call d) 202 P X (14, [some (vr (some 90) 10), some (vi p), none, none], [vi 0], (J13_1, H), 0, 0)
    have hL_47 : LTX J13_1 tb n := f13_1.lt hL_1
    have hR_48 : RAT J13_1 tb n p := RAT.of hR_3.bd e13_1
    have h_49 : J13_1 90 9 = p := e13_1
    have hF_50 : J13_1 90 10 = _ := (f13_1.1 10 (by omega)).trans hF_4
    have hu_51 : FA I J13_1 := hu_5.n f13_1
    have h_52 : J13_1 90 11 = _ := (f13_1.1 11 (by omega)).trans h_6
    have hb_53 : 0 ≤ J13_1 90 9 ∧ J13_1 90 9 ≤ n := hR_48.1
    refine WP.go 3 (And.intro (fun (b16 : ¬ 0 = 0) => (absurd b16 (by omega))) (fun (b16 : 0 = 0) => ?_))
    show WP (Call d) 202 P X (17, [some (vr (some 90) 10), some (vi p), some (vi 0), none], [], (J13_1, H), 0, 0)
    refine WP.go 3 (And.intro (And.intro (Nat.le_of_ble_eq_true rfl) (Nat.le_of_ble_eq_true rfl)) (And.intro rfl (?_)))
    show Call d 190 [vr (some 90) 10, vi 40] (J13_1, H) _ _
    refine s_12_isSign (by omega) hS hL_47 hR_48 ⟨by omega, by unfold isL; omega, by unfold isD; omega⟩ (fun J19 e19 f19 => ?_)
    show WP (Call d) 202 P X (20, [some (vr (some 90) 10), some (vi p), some (vi 0), none], [vi (bz (th tb n p = 2000 + 40))], (J19, H), 0, 0)
    have hL_54 : LTX J19 tb n := f19.lt hL_47
    have hR_55 : RAT J19 tb n p := RAT.of hR_48.bd e19
    have h_56 : J19 90 9 = p := e19
    have hF_57 : J19 90 10 = _ := (f19.1 10 (by omega)).trans hF_50
    have hu_58 : FA I J19 := hu_51.n f19
    have h_59 : J19 90 11 = _ := (f19.1 11 (by omega)).trans h_52
    have hb_60 : 0 ≤ J19 90 9 ∧ J19 90 9 ≤ n := hR_55.1
    refine WP.go 1 (And.intro (fun (b20 : ¬ bz (th tb n p = 2000 + 40) = 0) => ?_) (fun (b20 : bz (th tb n p = 2000 + 40) = 0) => ?_))
    ·
      show WP (Call d) 202 P X (24, [some (vr (some 90) 10), some (vi p), some (vi 0), none], [], (J19, H), 0, 0)
      have z20 := bz_e1.mp b20
      refine WP.go 2 (And.intro rfl (?_))
      refine rw_i (Q := fun x9 => WP (Call d) 202 P X (26, [some (vr (some 90) 10), some (vi p), some (vi 0), none], [vi x9], (J19, H), 0, 0)) h_59 ?_
      show WP (Call d) 202 P X (26, [some (vr (some 90) 10), some (vi p), some (vi 0), none], [vi dk], (J19, H), 0, 0)
      refine WP.go 2 (And.intro (fun (b27 : ¬ dk = 6) => ?_) (fun (b27 : dk = 6) => (absurd b27 (by omega))))
      show WP (Call d) 202 P X (33, [some (vr (some 90) 10), some (vi p), some (vi 0), none], [], (J19, H), 0, 0)
      refine WP.go 3 (And.intro rfl (?_))
      refine rw_i (Q := fun x9 => WP (Call d) 202 P X (36, [some (vr (some 90) 10), some (vi p), some (vi 0), none], [vi x9, vr (some 90) 10], (J19, H), 0, 0)) h_59 ?_
      show WP (Call d) 202 P X (36, [some (vr (some 90) 10), some (vi p), some (vi 0), none], [vi dk, vr (some 90) 10], (J19, H), 0, 0)
      refine WP.go 3 (Exists.intro (dk + 1) (And.intro (wrp_a (by omega) (by omega)) (And.intro (And.intro rfl trivial) (?_))))
      show WP (Call d) 202 P X (39, [some (vr (some 90) 10), some (vi p), some (vi 0), none], [], ((upI J19 90 11 (dk + 1)), H), 0, 0)
      generalize hq_C0 : (upI J19 90 11 (dk + 1)) = C0
      have e_C0 : C0 90 = (fun j => if j = 11 then (dk + 1) else J19 90 j) := by rw [← hq_C0]; exact upI_self _ _ _ _
      have f_C0 : ∀ a, a ≠ 90 → C0 a = J19 a := fun a q => by rw [← hq_C0]; exact upI_cell q
      have hu_61 : FA I C0 := hu_58.o (.inr (.inr rfl)) e_C0 f_C0
      have hL_62 : LTX C0 tb n := hL_54.fr (by rw [e_C0]; rfl) (by rw [e_C0]; rfl) (f_C0 94 (by omega)) (f_C0 91 (by omega))
      have hF_63 : C0 90 10 = -1 := by rw [e_C0]; exact hF_57
      have h_64 : C0 90 11 = dk + 1 := by rw [e_C0]; rfl
      have hR_65 : RAT C0 tb n p := hR_55.cp (by rw [e_C0]; rfl)
      have h_66 : C0 90 9 = p := by rw [e_C0]; exact h_56
      have hb_67 : 0 ≤ C0 90 9 ∧ C0 90 9 ≤ n := hR_65.1
      refine WP.go 4 (And.intro (fun (b42 : 0 = 0) => ?_) (fun (b42 : ¬ 0 = 0) => (absurd b42 (by omega))))
      show WP (Call d) 202 P X (51, [some (vr (some 90) 10), some (vi p), some (vi 0), some (vi 0)], [], (C0, H), 0, 0)
      refine WP.go 3 (And.intro rfl (?_))
      refine rw_i (Q := fun x9 => WP (Call d) 202 P X (54, [some (vr (some 90) 10), some (vi p), some (vi 0), some (vi 0)], [vi x9, vr (some 90) 10], (C0, H), 0, 0)) h_66 ?_
      show WP (Call d) 202 P X (54, [some (vr (some 90) 10), some (vi p), some (vi 0), some (vi 0)], [vi p, vr (some 90) 10], (C0, H), 0, 0)
      refine WP.go 3 (Exists.intro (p + 1) (And.intro (wrp_a (by omega) (by omega)) (And.intro (And.intro rfl trivial) (?_))))
      show WP (Call d) 202 P X (57, [some (vr (some 90) 10), some (vi p), some (vi 0), some (vi 0)], [], ((upI C0 90 9 (p + 1)), H), 0, 0)
      generalize hq_B0 : (upI C0 90 9 (p + 1)) = B0
      have e_B0 : B0 90 = (fun j => if j = 9 then (p + 1) else C0 90 j) := by rw [← hq_B0]; exact upI_self _ _ _ _
      have f_B0 : ∀ a, a ≠ 90 → B0 a = C0 a := fun a q => by rw [← hq_B0]; exact upI_cell q
      have hu_68 : FA I B0 := hu_61.o (.inl rfl) e_B0 f_B0
      have hL_69 : LTX B0 tb n := hL_62.fr (by rw [e_B0]; rfl) (by rw [e_B0]; rfl) (f_B0 94 (by omega)) (f_B0 91 (by omega))
      have hF_70 : B0 90 10 = -1 := by rw [e_B0]; exact hF_63
      have h_71 : B0 90 11 = (dk + 1) := by rw [e_B0]; exact h_64
      have b99 : B0 90 9 = p + 1 := by rw [e_B0]; rfl
      have hpb9 := hR_65.bd
      have s99 := nx_semi hpb9.1 hpb9.2.1 hL_69.2.2.1 (c := 40) ⟨by omega, by unfold isL; omega, by unfold isD; omega⟩ z20
      have nb9 := nx_bd (tb := tb) hpb9.1 s99.1
      have hR_72 : RAT B0 tb n (nx tb n p) := ⟨by rw [b99]; omega, by rw [b99]; exact s99.2.symm⟩
      have hb_73 : 0 ≤ B0 90 9 ∧ B0 90 9 ≤ n := hR_72.1
      refine WP.go 2 (And.intro (And.intro (Nat.le_of_ble_eq_true rfl) (Nat.le_of_ble_eq_true rfl)) (And.intro rfl (?_)))
      show Call d 204 [vr (some 90) 10] (B0, H) _ _
      refine hB (by omega) hS hL_69 hR_72 hF_70 h_71 (hu_68.fr hfr) ⟨(fun q58 J58 e58 f58 => ?_), (fun q58_1 J58_1 v58 e58_1 b58 f58_1 g58 vb58 => ?_)⟩
      ·
        show WP (Call d) 202 P X (59, [some (vr (some 90) 10), some (vi p), some (vi 0), some (vi 0)], [vi ((B9 (nx tb n p)).2.2.1 F)], (J58, H), 0, 0)
        have hL_74 : LTX J58 tb n := f58.lt hL_69
        have pb9 := hR_72.bd
        have gd9 := hGB (nx tb n p) (by omega) (by omega) q58
        have ga9 := gd9.1
        have gb9 := gd9.2.1
        have gv9 := vb_1 (gd9.2.2.2 F hFB).1
        have hR_75 : RAT J58 tb n (B9 (nx tb n p)).2.2.2 := e58
        have hF_76 : J58 90 10 = _ := (f58.1 10 (by omega)).trans hF_70
        have hu_77 : FA I J58 := hu_68.n f58
        have h_78 : J58 90 11 = _ := (f58.1 11 (by omega)).trans h_71
        have hb_79 : 0 ≤ J58 90 9 ∧ J58 90 9 ≤ n := hR_75.1
        refine WP.go 3 (And.intro rfl (?_))
        refine rw_i (Q := fun x9 => WP (Call d) 202 P X (62, [some (vr (some 90) 10), some (vi p), some (vi 0), some (vi ((B9 (nx tb n p)).2.2.1 F))], [vi x9], (J58, H), 0, 0)) hF_76 ?_
        show WP (Call d) 202 P X (62, [some (vr (some 90) 10), some (vi p), some (vi 0), some (vi ((B9 (nx tb n p)).2.2.1 F))], [vi (-1)], (J58, H), 0, 0)
        refine WP.go 2 (And.intro (fun (b63 : ¬ (-1) = (-1)) => (absurd b63 (by omega))) (fun (b63 : (-1) = (-1)) => ?_))
        show WP (Call d) 202 P X (64, [some (vr (some 90) 10), some (vi p), some (vi 0), some (vi ((B9 (nx tb n p)).2.2.1 F))], [], (J58, H), 0, 0)
        refine WP.go 3 (And.intro (And.intro (Nat.le_of_ble_eq_true rfl) (Nat.le_of_ble_eq_true rfl)) (And.intro rfl (?_)))
        show Call d 190 [vr (some 90) 10, vi 41] (J58, H) _ _
        refine s_12_isSign (by omega) hS hL_74 hR_75 ⟨by omega, by unfold isL; omega, by unfold isD; omega⟩ (fun J66 e66 f66 => ?_)
        show WP (Call d) 202 P X (67, [some (vr (some 90) 10), some (vi p), some (vi 0), some (vi ((B9 (nx tb n p)).2.2.1 F))], [vi (bz (th tb n (B9 (nx tb n p)).2.2.2 = 2000 + 41))], (J66, H), 0, 0)
        have hL_80 : LTX J66 tb n := f66.lt hL_74
        have hR_81 : RAT J66 tb n (B9 (nx tb n p)).2.2.2 := RAT.of hR_75.bd e66
        have h_82 : J66 90 9 = (B9 (nx tb n p)).2.2.2 := e66
        have hF_83 : J66 90 10 = _ := (f66.1 10 (by omega)).trans hF_76
        have hu_84 : FA I J66 := hu_77.n f66
        have h_85 : J66 90 11 = _ := (f66.1 11 (by omega)).trans h_78
        have hb_86 : 0 ≤ J66 90 9 ∧ J66 90 9 ≤ n := hR_81.1
        refine WP.go 1 (And.intro (fun (b67 : ¬ bz (th tb n (B9 (nx tb n p)).2.2.2 = 2000 + 41) = 0) => ?_) (fun (b67 : bz (th tb n (B9 (nx tb n p)).2.2.2 = 2000 + 41) = 0) => ?_))
        ·
          show WP (Call d) 202 P X (72, [some (vr (some 90) 10), some (vi p), some (vi 0), some (vi ((B9 (nx tb n p)).2.2.1 F))], [], (J66, H), 0, 0)
          have z67 := bz_e1.mp b67
          refine WP.go 3 (And.intro rfl (?_))
          refine rw_i (Q := fun x9 => WP (Call d) 202 P X (75, [some (vr (some 90) 10), some (vi p), some (vi 0), some (vi ((B9 (nx tb n p)).2.2.1 F))], [vi x9, vr (some 90) 10], (J66, H), 0, 0)) h_82 ?_
          show WP (Call d) 202 P X (75, [some (vr (some 90) 10), some (vi p), some (vi 0), some (vi ((B9 (nx tb n p)).2.2.1 F))], [vi ((B9 (nx tb n p)).2.2.2), vr (some 90) 10], (J66, H), 0, 0)
          refine WP.go 3 (Exists.intro (((B9 (nx tb n p)).2.2.2) + 1) (And.intro (wrp_a (by omega) (by omega)) (And.intro (And.intro rfl trivial) (?_))))
          show WP (Call d) 202 P X (78, [some (vr (some 90) 10), some (vi p), some (vi 0), some (vi ((B9 (nx tb n p)).2.2.1 F))], [], ((upI J66 90 9 (((B9 (nx tb n p)).2.2.2) + 1)), H), 0, 0)
          generalize hq_D0 : (upI J66 90 9 (((B9 (nx tb n p)).2.2.2) + 1)) = D0
          have e_D0 : D0 90 = (fun j => if j = 9 then (((B9 (nx tb n p)).2.2.2) + 1) else J66 90 j) := by rw [← hq_D0]; exact upI_self _ _ _ _
          have f_D0 : ∀ a, a ≠ 90 → D0 a = J66 a := fun a q => by rw [← hq_D0]; exact upI_cell q
          have hu_87 : FA I D0 := hu_84.o (.inl rfl) e_D0 f_D0
          have hL_88 : LTX D0 tb n := hL_80.fr (by rw [e_D0]; rfl) (by rw [e_D0]; rfl) (f_D0 94 (by omega)) (f_D0 91 (by omega))
          have hF_89 : D0 90 10 = -1 := by rw [e_D0]; exact hF_83
          have h_90 : D0 90 11 = dk + 1 := by rw [e_D0]; exact h_85
          have b99 : D0 90 9 = (B9 (nx tb n p)).2.2.2 + 1 := by rw [e_D0]; rfl
          have hpb9 := hR_81.bd
          have s99 := nx_semi hpb9.1 hpb9.2.1 hL_88.2.2.1 (c := 41) ⟨by omega, by unfold isL; omega, by unfold isD; omega⟩ z67
          have hR_91 : RAT D0 tb n (nx tb n (B9 (nx tb n p)).2.2.2) := ⟨by rw [b99]; omega, by rw [b99]; exact s99.2.symm⟩
          refine WP.go 3 (And.intro rfl (?_))
          refine rw_i (Q := fun x9 => WP (Call d) 202 P X (81, [some (vr (some 90) 10), some (vi p), some (vi 0), some (vi ((B9 (nx tb n p)).2.2.1 F))], [vi x9, vr (some 90) 10], (D0, H), 0, 0)) h_90 ?_
          show WP (Call d) 202 P X (81, [some (vr (some 90) 10), some (vi p), some (vi 0), some (vi ((B9 (nx tb n p)).2.2.1 F))], [vi (dk + 1), vr (some 90) 10], (D0, H), 0, 0)
          refine WP.go 3 (Exists.intro ((dk + 1) - 1) (And.intro (wrp_a (by omega) (by omega)) (And.intro (And.intro rfl trivial) (?_))))
          show WP (Call d) 202 P X (84, [some (vr (some 90) 10), some (vi p), some (vi 0), some (vi ((B9 (nx tb n p)).2.2.1 F))], [], ((upI D0 90 11 ((dk + 1) - 1)), H), 0, 0)
          generalize hq_E0 : (upI D0 90 11 ((dk + 1) - 1)) = E0
          have e_E0 : E0 90 = (fun j => if j = 11 then ((dk + 1) - 1) else D0 90 j) := by rw [← hq_E0]; exact upI_self _ _ _ _
          have f_E0 : ∀ a, a ≠ 90 → E0 a = D0 a := fun a q => by rw [← hq_E0]; exact upI_cell q
          have hu_92 : FA I E0 := hu_87.o (.inr (.inr rfl)) e_E0 f_E0
          have hF_93 : E0 90 10 = -1 := by rw [e_E0]; exact hF_89
          have h_94 : E0 90 11 = dk := by rw [e_E0]; show dk + 1 - 1 = dk; omega
          have hR_95 : RAT E0 tb n _ := hR_91.cp (by rw [e_E0]; rfl)
          refine WP.go 2 (And.intro (And.intro (Nat.le_of_ble_eq_true rfl) (Nat.le_of_ble_eq_true rfl)) (And.intro gv9 (?_)))
          show P (some (vi ((B9 (nx tb n p)).2.2.1 F))) (E0, H)
          have r8 := (show (if th tb n p = 1015 then pNeg (A (nx tb n p)) else if th tb n p = 2040 then pBrc tb n (B9 (nx tb n p)) else pPlain tb n p) = pBrc tb n (B9 (nx tb n p)) from (if_neg q13_1).trans (if_pos z20)).trans (show pBrc tb n (B9 (nx tb n p)) = (-1, (B9 (nx tb n p)).2.1, (B9 (nx tb n p)).2.2.1, nx tb n (B9 (nx tb n p)).2.2.2) from (if_neg (fun z => z q58)).trans (if_pos z67))
          exact fin_i (by rw [r8]) (h.1 (by rw [r8]) _ (by rw [r8]; exact hR_95) (hu_92.z hF hF_93 h11 h_94))
        ·
          show WP (Call d) 202 P X (68, [some (vr (some 90) 10), some (vi p), some (vi 0), some (vi ((B9 (nx tb n p)).2.2.1 F))], [], (J66, H), 0, 0)
          have z67 := bz_e0.mp b67
          refine WP.go 3 (And.intro rfl (?_))
          refine rw_i (Q := fun x9 => WP (Call d) 202 P X (71, [some (vr (some 90) 10), some (vi p), some (vi 0), some (vi ((B9 (nx tb n p)).2.2.1 F))], [vi x9, vr (some 90) 10], (J66, H), 0, 0)) h_82 ?_
          show WP (Call d) 202 P X (71, [some (vr (some 90) 10), some (vi p), some (vi 0), some (vi ((B9 (nx tb n p)).2.2.1 F))], [vi ((B9 (nx tb n p)).2.2.2), vr (some 90) 10], (J66, H), 0, 0)
          refine WP.go 1 (And.intro (And.intro (Nat.le_of_ble_eq_true rfl) (Nat.le_of_ble_eq_true rfl)) (And.intro rfl (?_)))
          show Call d 192 [vr (some 90) 10, vi ((B9 (nx tb n p)).2.2.2)] (J66, H) _ _
          refine s_12_wrong (by omega) hF_83 (fun J71 e71 f71 => ?_)
          show WP (Call d) 202 P X (72, [some (vr (some 90) 10), some (vi p), some (vi 0), some (vi ((B9 (nx tb n p)).2.2.1 F))], [], (J71, H), 0, 0)
          have hF_96 : J71 90 10 = ((B9 (nx tb n p)).2.2.2) := by rw [e71]; rfl
          have hu_97 : FA I J71 := hu_84.o (.inr (.inl rfl)) e71 f71
          have hL_98 : LTX J71 tb n := hL_80.fr (by rw [e71]; rfl) (by rw [e71]; rfl) (f71 94 (by omega)) (f71 91 (by omega))
          have h_99 : J71 90 11 = (dk + 1) := by rw [e71]; exact h_85
          have hb_100 : 0 ≤ J71 90 9 ∧ J71 90 9 ≤ n := by rw [e71]; exact hb_86
          refine WP.go 3 (And.intro rfl (?_))
          refine rw_i (Q := fun x9 => WP (Call d) 202 P X (75, [some (vr (some 90) 10), some (vi p), some (vi 0), some (vi ((B9 (nx tb n p)).2.2.1 F))], [vi x9, vr (some 90) 10], (J71, H), 0, 0)) rfl ?_
          show WP (Call d) 202 P X (75, [some (vr (some 90) 10), some (vi p), some (vi 0), some (vi ((B9 (nx tb n p)).2.2.1 F))], [vi (J71 90 9), vr (some 90) 10], (J71, H), 0, 0)
          refine WP.go 3 (Exists.intro ((J71 90 9) + 1) (And.intro (wrp_a (by omega) (by omega)) (And.intro (And.intro rfl trivial) (?_))))
          show WP (Call d) 202 P X (78, [some (vr (some 90) 10), some (vi p), some (vi 0), some (vi ((B9 (nx tb n p)).2.2.1 F))], [], ((upI J71 90 9 ((J71 90 9) + 1)), H), 0, 0)
          generalize hq_D0 : (upI J71 90 9 ((J71 90 9) + 1)) = D0
          have e_D0 : D0 90 = (fun j => if j = 9 then ((J71 90 9) + 1) else J71 90 j) := by rw [← hq_D0]; exact upI_self _ _ _ _
          have f_D0 : ∀ a, a ≠ 90 → D0 a = J71 a := fun a q => by rw [← hq_D0]; exact upI_cell q
          have hu_101 : FA I D0 := hu_97.o (.inl rfl) e_D0 f_D0
          have hL_102 : LTX D0 tb n := hL_98.fr (by rw [e_D0]; rfl) (by rw [e_D0]; rfl) (f_D0 94 (by omega)) (f_D0 91 (by omega))
          have hF_103 : D0 90 10 = ((B9 (nx tb n p)).2.2.2) := by rw [e_D0]; exact hF_96
          have h_104 : D0 90 11 = dk + 1 := by rw [e_D0]; exact h_99
          have hb_105 : 0 ≤ D0 90 9 ∧ D0 90 9 ≤ n + 6 - dk := by rw [e_D0]; have w9 := hb_100; show 0 ≤ (J71 90 9) + 1 ∧ (J71 90 9) + 1 ≤ n + 6 - dk; omega
          refine WP.go 3 (And.intro rfl (?_))
          refine rw_i (Q := fun x9 => WP (Call d) 202 P X (81, [some (vr (some 90) 10), some (vi p), some (vi 0), some (vi ((B9 (nx tb n p)).2.2.1 F))], [vi x9, vr (some 90) 10], (D0, H), 0, 0)) h_104 ?_
          show WP (Call d) 202 P X (81, [some (vr (some 90) 10), some (vi p), some (vi 0), some (vi ((B9 (nx tb n p)).2.2.1 F))], [vi (dk + 1), vr (some 90) 10], (D0, H), 0, 0)
          refine WP.go 3 (Exists.intro ((dk + 1) - 1) (And.intro (wrp_a (by omega) (by omega)) (And.intro (And.intro rfl trivial) (?_))))
          show WP (Call d) 202 P X (84, [some (vr (some 90) 10), some (vi p), some (vi 0), some (vi ((B9 (nx tb n p)).2.2.1 F))], [], ((upI D0 90 11 ((dk + 1) - 1)), H), 0, 0)
          generalize hq_E0 : (upI D0 90 11 ((dk + 1) - 1)) = E0
          have e_E0 : E0 90 = (fun j => if j = 11 then ((dk + 1) - 1) else D0 90 j) := by rw [← hq_E0]; exact upI_self _ _ _ _
          have f_E0 : ∀ a, a ≠ 90 → E0 a = D0 a := fun a q => by rw [← hq_E0]; exact upI_cell q
          have hu_106 : FA I E0 := hu_101.o (.inr (.inr rfl)) e_E0 f_E0
          have hF_107 : E0 90 10 = ((B9 (nx tb n p)).2.2.2) := by rw [e_E0]; exact hF_103
          have h_108 : E0 90 11 = dk := by rw [e_E0]; show dk + 1 - 1 = dk; omega
          have hb_109 : 0 ≤ E0 90 9 ∧ E0 90 9 ≤ n + 6 - dk := by have e9 : E0 90 9 = D0 90 9 := (by rw [e_E0]; rfl); have w9 := hb_105; omega
          refine WP.go 2 (And.intro (And.intro (Nat.le_of_ble_eq_true rfl) (Nat.le_of_ble_eq_true rfl)) (And.intro gv9 (?_)))
          show P (some (vi ((B9 (nx tb n p)).2.2.1 F))) (E0, H)
          have r8 := (show (if th tb n p = 1015 then pNeg (A (nx tb n p)) else if th tb n p = 2040 then pBrc tb n (B9 (nx tb n p)) else pPlain tb n p) = pBrc tb n (B9 (nx tb n p)) from (if_neg q13_1).trans (if_pos z20)).trans (show pBrc tb n (B9 (nx tb n p)) = rE (B9 (nx tb n p)).2.2.2 from (if_neg (fun z => z q58)).trans (if_neg z67))
          exact h.2 (by rw [r8]; show (B9 (nx tb n p)).2.2.2 ≠ -1; omega) _ _ (by rw [r8]; exact hF_107) hb_109 hu_106 h_108 (by first | exact .inl rfl | exact .inr rfl | omega)
      ·
        show WP (Call d) 202 P X (59, [some (vr (some 90) 10), some (vi p), some (vi 0), some (vi 0)], [vi v58], (J58_1, H), 0, 0)
        have h_110 : J58_1 90 11 = (dk + 1) := g58
        have hL_111 : LTX J58_1 tb n := f58_1.lt hL_69
        have hF_112 : J58_1 90 10 = (B9 (nx tb n p)).1 := e58_1
        have hu_113 : FA I J58_1 := hu_68.tr f58_1
        have hb_114 : 0 ≤ J58_1 90 9 ∧ J58_1 90 9 ≤ n + 6 - (dk + 1) := b58
        refine WP.go 3 (And.intro rfl (?_))
        refine rw_i (Q := fun x9 => WP (Call d) 202 P X (62, [some (vr (some 90) 10), some (vi p), some (vi 0), some (vi v58)], [vi x9], (J58_1, H), 0, 0)) hF_112 ?_
        show WP (Call d) 202 P X (62, [some (vr (some 90) 10), some (vi p), some (vi 0), some (vi v58)], [vi ((B9 (nx tb n p)).1)], (J58_1, H), 0, 0)
        refine WP.go 2 (And.intro (fun (b63 : ¬ (B9 (nx tb n p)).1 = (-1)) => ?_) (fun (b63 : (B9 (nx tb n p)).1 = (-1)) => (absurd b63 (by omega))))
        show WP (Call d) 202 P X (72, [some (vr (some 90) 10), some (vi p), some (vi 0), some (vi v58)], [], (J58_1, H), 0, 0)
        refine WP.go 3 (And.intro rfl (?_))
        refine rw_i (Q := fun x9 => WP (Call d) 202 P X (75, [some (vr (some 90) 10), some (vi p), some (vi 0), some (vi v58)], [vi x9, vr (some 90) 10], (J58_1, H), 0, 0)) rfl ?_
        show WP (Call d) 202 P X (75, [some (vr (some 90) 10), some (vi p), some (vi 0), some (vi v58)], [vi (J58_1 90 9), vr (some 90) 10], (J58_1, H), 0, 0)
        refine WP.go 3 (Exists.intro ((J58_1 90 9) + 1) (And.intro (wrp_a (by omega) (by omega)) (And.intro (And.intro rfl trivial) (?_))))
        show WP (Call d) 202 P X (78, [some (vr (some 90) 10), some (vi p), some (vi 0), some (vi v58)], [], ((upI J58_1 90 9 ((J58_1 90 9) + 1)), H), 0, 0)
        generalize hq_D0 : (upI J58_1 90 9 ((J58_1 90 9) + 1)) = D0
        have e_D0 : D0 90 = (fun j => if j = 9 then ((J58_1 90 9) + 1) else J58_1 90 j) := by rw [← hq_D0]; exact upI_self _ _ _ _
        have f_D0 : ∀ a, a ≠ 90 → D0 a = J58_1 a := fun a q => by rw [← hq_D0]; exact upI_cell q
        have hu_115 : FA I D0 := hu_113.o (.inl rfl) e_D0 f_D0
        have hL_116 : LTX D0 tb n := hL_111.fr (by rw [e_D0]; rfl) (by rw [e_D0]; rfl) (f_D0 94 (by omega)) (f_D0 91 (by omega))
        have hF_117 : D0 90 10 = (B9 (nx tb n p)).1 := by rw [e_D0]; exact hF_112
        have h_118 : D0 90 11 = dk + 1 := by rw [e_D0]; exact h_110
        have hb_119 : 0 ≤ D0 90 9 ∧ D0 90 9 ≤ n + 6 - dk := by rw [e_D0]; have w9 := hb_114; show 0 ≤ (J58_1 90 9) + 1 ∧ (J58_1 90 9) + 1 ≤ n + 6 - dk; omega
        refine WP.go 3 (And.intro rfl (?_))
        refine rw_i (Q := fun x9 => WP (Call d) 202 P X (81, [some (vr (some 90) 10), some (vi p), some (vi 0), some (vi v58)], [vi x9, vr (some 90) 10], (D0, H), 0, 0)) h_118 ?_
        show WP (Call d) 202 P X (81, [some (vr (some 90) 10), some (vi p), some (vi 0), some (vi v58)], [vi (dk + 1), vr (some 90) 10], (D0, H), 0, 0)
        refine WP.go 3 (Exists.intro ((dk + 1) - 1) (And.intro (wrp_a (by omega) (by omega)) (And.intro (And.intro rfl trivial) (?_))))
        show WP (Call d) 202 P X (84, [some (vr (some 90) 10), some (vi p), some (vi 0), some (vi v58)], [], ((upI D0 90 11 ((dk + 1) - 1)), H), 0, 0)
        generalize hq_E0 : (upI D0 90 11 ((dk + 1) - 1)) = E0
        have e_E0 : E0 90 = (fun j => if j = 11 then ((dk + 1) - 1) else D0 90 j) := by rw [← hq_E0]; exact upI_self _ _ _ _
        have f_E0 : ∀ a, a ≠ 90 → E0 a = D0 a := fun a q => by rw [← hq_E0]; exact upI_cell q
        have hu_120 : FA I E0 := hu_115.o (.inr (.inr rfl)) e_E0 f_E0
        have hF_121 : E0 90 10 = (B9 (nx tb n p)).1 := by rw [e_E0]; exact hF_117
        have h_122 : E0 90 11 = dk := by rw [e_E0]; show dk + 1 - 1 = dk; omega
        have hb_123 : 0 ≤ E0 90 9 ∧ E0 90 9 ≤ n + 6 - dk := by have e9 : E0 90 9 = D0 90 9 := (by rw [e_E0]; rfl); have w9 := hb_119; omega
        refine WP.go 2 (And.intro (And.intro (Nat.le_of_ble_eq_true rfl) (Nat.le_of_ble_eq_true rfl)) (And.intro vb58 (?_)))
        show P (some (vi v58)) (E0, H)
        have r8 := (show (if th tb n p = 1015 then pNeg (A (nx tb n p)) else if th tb n p = 2040 then pBrc tb n (B9 (nx tb n p)) else pPlain tb n p) = pBrc tb n (B9 (nx tb n p)) from (if_neg q13_1).trans (if_pos z20)).trans (show pBrc tb n (B9 (nx tb n p)) = rE (B9 (nx tb n p)).1 from if_pos q58_1)
        exact h.2 (by rw [r8]; exact q58_1) _ _ (by rw [r8]; exact hF_121) hb_123 hu_120 h_122 (by first | exact .inl rfl | exact .inr rfl | omega)
    ·
      show WP (Call d) 202 P X (21, [some (vr (some 90) 10), some (vi p), some (vi 0), none], [], (J19, H), 0, 0)
      have z20 := bz_e0.mp b20
      refine WP.go 2 (And.intro (And.intro (Nat.le_of_ble_eq_true rfl) (Nat.le_of_ble_eq_true rfl)) (And.intro rfl (?_)))
      show Call d 201 [vr (some 90) 10] (J19, H) _ _
      refine s_12_plain (by omega) hS hL_54 hR_55 hF_57 h_59 (hu_58.fr hfr) hFB ⟨(fun q22 J22 e22 f22 => ?_), (fun q22_1 J22_1 v22 e22_1 b22 f22_1 g22 vb22 => ?_)⟩
      ·
        show WP (Call d) 202 P X (23, [some (vr (some 90) 10), some (vi p), some (vi 0), none], [vi ((pPlain tb n p).2.2.1 F)], (J22, H), 0, 0)
        have hL_124 : LTX J22 tb n := f22.lt hL_54
        have pb9 := hR_55.bd
        have gd9 := pPlain_gd (tb := tb) (n := n) (p := p) (by omega) (by omega) (by omega) q22
        have ga9 := gd9.1
        have gb9 := gd9.2.1
        have gv9 := vb_1 (gd9.2.2.2 F hFB).1
        have hR_125 : RAT J22 tb n (pPlain tb n p).2.2.2 := e22
        have hF_126 : J22 90 10 = _ := (f22.1 10 (by omega)).trans hF_57
        have hu_127 : FA I J22 := hu_58.n f22
        have h_128 : J22 90 11 = _ := (f22.1 11 (by omega)).trans h_59
        have hb_129 : 0 ≤ J22 90 9 ∧ J22 90 9 ≤ n := hR_125.1
        refine WP.go 1 (And.intro (And.intro (Nat.le_of_ble_eq_true rfl) (Nat.le_of_ble_eq_true rfl)) (And.intro gv9 (?_)))
        show P (some (vi ((pPlain tb n p).2.2.1 F))) (J22, H)
        have r8 := show (if th tb n p = 1015 then pNeg (A (nx tb n p)) else if th tb n p = 2040 then pBrc tb n (B9 (nx tb n p)) else pPlain tb n p) = pPlain tb n p from (if_neg q13_1).trans (if_neg z20)
        exact fin_i (by rw [r8]) (h.1 (by rw [r8]; exact q22) _ (by rw [r8]; exact hR_125) (hu_127.z hF hF_126 h11 h_128))
      ·
        show WP (Call d) 202 P X (23, [some (vr (some 90) 10), some (vi p), some (vi 0), none], [vi v22], (J22_1, H), 0, 0)
        have h_130 : J22_1 90 11 = dk := g22
        have hL_131 : LTX J22_1 tb n := f22_1.lt hL_54
        have hF_132 : J22_1 90 10 = (pPlain tb n p).1 := e22_1
        have hu_133 : FA I J22_1 := hu_58.tr f22_1
        have hb_134 : 0 ≤ J22_1 90 9 ∧ J22_1 90 9 ≤ n := b22
        refine WP.go 1 (And.intro (And.intro (Nat.le_of_ble_eq_true rfl) (Nat.le_of_ble_eq_true rfl)) (And.intro vb22 (?_)))
        show P (some (vi v22)) (J22_1, H)
        have r8 := show (if th tb n p = 1015 then pNeg (A (nx tb n p)) else if th tb n p = 2040 then pBrc tb n (B9 (nx tb n p)) else pPlain tb n p) = pPlain tb n p from (if_neg q13_1).trans (if_neg z20)
        exact h.2 (by rw [r8]; exact q22_1) _ _ (by rw [r8]; exact hF_132) ⟨hb_134.1, by have w8 := hb_134.2; omega⟩ hu_133 h_130 (by first | exact .inl rfl | exact .inr rfl | omega)

theorem mall_MC {D m : Nat} {F tb : Int → Int} {n dk : Int} {A : Int → RS} (hD : 7 ≤ D) (hdk : 0 ≤ dk ∧ dk ≤ 6) (hFB : FB F) (hG : ∀ p, 0 ≤ p → p ≤ n → GD n true m p (A p)) (hA : MC D 202 dk tb n F A) : MC (D + 1) 203 dk tb n F (pAll tb n A) := by
  intro d P X I H p hd hS hL hR hF h11 hfr h
  exact s_12_every hd hA hG hS hL hR hF h11 hfr hFB hdk hD h
theorem many_MC {D m : Nat} {F tb : Int → Int} {n dk : Int} {A : Int → RS} (hn : n ≤ 400) (hD : 7 ≤ D) (hm : 1 ≤ m) (hdk : 0 ≤ dk ∧ dk ≤ 6) (hFB : FB F) (hG : ∀ p, 0 ≤ p → p ≤ n → GD n true m p (A p)) (hA : MC D 202 dk tb n F A) : MC (D + 2) 204 dk tb n F (pAny tb n A) := by
  intro d P X I H p hd hS hL hR hF h11 hfr h
  exact s_12_some (D := D + 1) hd (mall_MC hD hdk hFB hG hA) (fun p a b => pAll_gd hn hm hG a b) hS hL hR hF h11 hfr hFB hdk (by omega) h
theorem matom_MC {F tb : Int → Int} {n : Int} (hn : n ≤ 400) (hFB : FB F) (k : Nat) (hk : k ≤ 6) : MC (8 + 3 * k) 202 (6 - (k : Int)) tb n F (pAt tb n k) := by
  induction k with
  | zero =>
    intro d P X I H p hd hS hL hR hF h11 hfr h
    exact s_12_atom_z (D := 7) (m := 0) (A := fun _ => rE 0) (B9 := fun _ => rE 0) hd (by omega) hS hL hR hF h11 hfr hFB (by omega) h
  | succ k ih =>
    have a : MC (8 + 3 * k) 202 (6 - (k : Int)) tb n F (pAt tb n k) := @ih (by omega)
    have e1 : (6 : Int) - ((k + 1 : Nat) : Int) + 1 = 6 - (k : Int) := by omega
    intro d P X I H p hd hS hL hR hF h11 hfr h
    exact s_12_atom_s (D := 8 + 3 * k) (m := 3 + 2 * k) (A := pAt tb n k) (B9 := pAny tb n (pAt tb n k)) (by omega) (by rw [e1]; exact a) (pAt_gd hn k) (by rw [e1]; exact many_MC hn (by omega) (by omega) (by omega) hFB (pAt_gd hn k) a) (fun p a b => pAny_gd hn (by omega) (pAt_gd hn k) a b) (by omega) hS hL hR hF h11 hfr hFB (by omega) h
theorem many0_MC {F tb : Int → Int} {n : Int} (hn : n ≤ 400) (hFB : FB F) : MC 28 204 0 tb n F (pAny tb n (pAt tb n 6)) := many_MC hn (by omega) (by omega) (by omega) hFB (pAt_gd hn 6) (matom_MC hn hFB 6 (by omega))
