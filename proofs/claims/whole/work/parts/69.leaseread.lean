theorem lamt_v {tb : Int → Int} {n p : Int} (h : th tb n p = 1011) : lamt tb n p = (-1, [], (fun _ => 0), nx tb n p) := if_pos h
theorem lamt_a {tb : Int → Int} {n p : Int} (h : th tb n p ≠ 1011) : lamt tb n p = pAmt tb n (nx tb n p) := if_neg h
theorem lcon_i {tb : Int → Int} {n p : Int} (h : th tb n p = 1012) : lcon tb n p = pAny tb n (pAt tb n 6) (nx tb n p) := if_pos h
theorem lcon_n {tb : Int → Int} {n p : Int} (h : th tb n p ≠ 1012) : lcon tb n p = (-1, [1], (fun _ => 1), p) := if_neg h
section
variable {tb : Int → Int} {n p : Int} {c : LSt}
theorem lln_1 (h : ¬ (1009 ≤ th tb n p ∧ th tb n p ≤ 1011)) : lln tb n p c = (p, c, p) := if_pos h
theorem lln_2 {a : RS} (h : 1009 ≤ th tb n p ∧ th tb n p ≤ 1011) (ha : lamt tb n p = a) (h2 : a.1 ≠ -1) : lln tb n p c = (a.1, c, p) := by subst ha; exact (if_neg (fun z => z h)).trans (if_pos h2)
theorem lln_3 {a b : RS} (h : 1009 ≤ th tb n p ∧ th tb n p ≤ 1011) (ha : lamt tb n p = a) (h2 : a.1 = -1) (hb : lcon tb n a.2.2.2 = b) (h3 : b.1 ≠ -1) : lln tb n p c = (b.1, c, p) := by subst ha; subst hb; exact (if_neg (fun z => z h)).trans ((if_neg (fun z => z h2)).trans (if_pos h3))
theorem lln_4 {a b : RS} (h : 1009 ≤ th tb n p ∧ th tb n p ≤ 1011) (ha : lamt tb n p = a) (h2 : a.1 = -1) (hb : lcon tb n a.2.2.2 = b) (h3 : b.1 = -1) : lln tb n p c = (-1, (c.1 ++ (a.2.1 ++ (b.2.1 ++ [2007 + (th tb n p - 1009)])), (fun F => c.2.1 F + lch (th tb n p) (a.2.2.1 F) (b.2.2.1 F)), (fun F => if th tb n p = 1011 ∧ b.2.2.1 F ≠ 0 then 1 else c.2.2 F)), b.2.2.2) := by subst ha; subst hb; exact (if_neg (fun z => z h)).trans ((if_neg (fun z => z h2)).trans (if_neg (fun z => z h3)))
end
theorem s_3_readLine {d : Nat} {P : Option qV → qH → Prop} {X : Nat → qH → Prop} {I : qI} {H : qS} (hd : 41 ≤ d) {tb : Int → Int} {n p : Int} {c9 : LSt} (hS : Shp H) (hK : TOK I 72 tb n) (hat : ATP I 72 p) (hco : COD I c9.1) (hcl : (c9.1.length : Int) ≤ p) (hn4 : n ≤ 400) (h : ((lln tb n p c9).1 ≠ -1 → ∀ J : qI, ATP J 72 (lln tb n p c9).1 → FRL I J → P (some (vi 0)) (J, H)) ∧ ((lln tb n p c9).1 = -1 → ∀ J : qI, ATP J 72 (lln tb n p c9).2.2 → COD J (lln tb n p c9).2.1.1 → FRL I J → P (some (vi 1)) (J, H))) :
    Call d 41 [vr (some 72) 3] (I, H) P X := by
  obtain ⟨d, rfl⟩ : ∃ e, d = e + 1 := ⟨d - 1, by omega⟩
  have hu := FRL.rf I
  have hpb := (hK.at hat).2
  show WP (Call d) 41 P X (0, [some (vr (some 72) 3), none], [], (I, H), 0, 0)
  refine WP.go 4 (And.intro (And.intro (Nat.le_of_ble_eq_true rfl) (Nat.le_of_ble_eq_true rfl)) (And.intro rfl (?_)))
  show Call d 82 [vr (some 72) 3, vi 1009, vi 1011] (I, H) _ _
  refine s_7_take_T72 (by omega) hS hK hat (by omega) ⟨(fun q3 J3 e3 f3 g3 => ?_), (fun q3_1 => ?_)⟩
  ·
    show WP (Call d) 41 P X (4, [some (vr (some 72) 3), none], [vi (th tb n p)], (J3, H), 0, 0)
    have nb9 := nx_bd (tb := tb) (n := n) (p := p) (hK.at hat).2.1 (th_lt (tb := tb) (hK.at hat).2.2 (by have w9 := q3; omega))
    have hK_1 : TOK J3 72 tb n := hK.fr (e3 2 (by omega)) (f3 73 (by omega)) (f3 74 (by omega))
    have hat_2 : ATP J3 72 (nx tb n p) := g3
    have pb9 := (hK_1.at hat_2).2
    have hco_3 : COD J3 c9.1 := hco.fr (e3 5 (by omega)) (f3 75 (by omega))
    have hu_4 : FRL I J3 := hu.tr ⟨fun s9 a9 _ => e3 s9 a9, fun a9 q9 _ => f3 a9 q9⟩
    refine WP.go 4 (And.intro (fun (b7 : th tb n p = (-1)) => (absurd b7 (by omega))) (fun (b7 : ¬ th tb n p = (-1)) => ?_))
    show WP (Call d) 41 P X (8, [some (vr (some 72) 3), some (vi (th tb n p))], [], (J3, H), 0, 0)
    refine WP.go 3 (And.intro (fun (b10 : th tb n p = 1011) => ?_) (fun (b10 : ¬ th tb n p = 1011) => ?_))
    ·
      show WP (Call d) 41 P X (16, [some (vr (some 72) 3), some (vi (th tb n p))], [], (J3, H), 0, 0)
      refine WP.go 3 (And.intro (And.intro (Nat.le_of_ble_eq_true rfl) (Nat.le_of_ble_eq_true rfl)) (And.intro rfl (?_)))
      show Call d 81 [vr (some 72) 3, vi 1012] (J3, H) _ _
      refine s_skip_T72 (by omega) hS hK_1 hat_2 (by omega) ⟨(fun q18 J18 e18 f18 g18 => ?_), (fun q18_1 => ?_)⟩
      ·
        show WP (Call d) 41 P X (19, [some (vr (some 72) 3), some (vi (th tb n p))], [vi 1], (J18, H), 0, 0)
        have nb9 := nx_bd (tb := tb) (n := n) (p := (nx tb n p)) (hK_1.at hat_2).2.1 (th_lt (tb := tb) (hK_1.at hat_2).2.2 (by have w9 := q18; omega))
        have hK_5 : TOK J18 72 tb n := hK_1.fr (e18 2 (by omega)) (f18 73 (by omega)) (f18 74 (by omega))
        have hat_6 : ATP J18 72 (nx tb n (nx tb n p)) := g18
        have pb9 := (hK_5.at hat_6).2
        have hco_7 : COD J18 c9.1 := hco_3.fr (e18 5 (by omega)) (f18 75 (by omega))
        have hu_8 : FRL I J18 := hu_4.tr ⟨fun s9 a9 _ => e18 s9 a9, fun a9 q9 _ => f18 a9 q9⟩
        refine WP.go 1 (And.intro (fun (b19 : ¬ 1 = 0) => ?_) (fun (b19 : 1 = 0) => (absurd b19 (by omega))))
        show WP (Call d) 41 P X (24, [some (vr (some 72) 3), some (vi (th tb n p))], [], (J18, H), 0, 0)
        refine WP.go 3 (And.intro (And.intro (Nat.le_of_ble_eq_true rfl) (Nat.le_of_ble_eq_true rfl)) (And.intro rfl (?_)))
        show Call d 43 [vr (some 72) 3, vi 0] (J18, H) _ _
        refine (any0_KC hn4) (by omega) hS hK_5 hat_6 hco_7 (by (try simp only [List.length_append, List.length_cons, List.length_nil]); omega) ⟨(fun q26 J26 e26 f26 => ?_), (fun q26_1 J26_1 e26_1 f26_1 g26 => ?_)⟩
        ·
          show WP (Call d) 41 P X (27, [some (vr (some 72) 3), some (vi (th tb n p))], [vi 0], (J26, H), 0, 0)
          have hat_9 : ATP J26 72 (pAny tb n (pAt tb n 6) (nx tb n (nx tb n p))).1 := e26
          have hK_10 : TOK J26 72 tb n := f26.tk hK_5
          have hu_11 : FRL I J26 := hu_8.tr f26
          refine WP.go 1 (And.intro (fun (b27 : ¬ 0 = 0) => (absurd b27 (by omega))) (fun (b27 : 0 = 0) => ?_))
          show WP (Call d) 41 P X (28, [some (vr (some 72) 3), some (vi (th tb n p))], [], (J26, H), 0, 0)
          refine WP.go 2 (And.intro (And.intro (Nat.le_of_ble_eq_true rfl) (Nat.le_of_ble_eq_true rfl)) (And.intro (Or.inl rfl) (?_)))
          show P (some (vi 0)) (J26, H)
          have r8 := lln_3 (c := c9) q3 (lamt_v b10) rfl (lcon_i q18) q26
          exact h.1 (by rw [r8]; exact q26) _ (by rw [r8]; exact hat_9) hu_11
        ·
          show WP (Call d) 41 P X (27, [some (vr (some 72) 3), some (vi (th tb n p))], [vi 1], (J26_1, H), 0, 0)
          have gp9 := (hK_5.at hat_6).2
          have hK_12 : TOK J26_1 72 tb n := g26.tk hK_5
          have hat_13 : ATP J26_1 72 (pAny tb n (pAt tb n 6) (nx tb n (nx tb n p))).2.2.2 := e26_1
          have hco_14 : COD J26_1 (c9.1 ++ (pAny tb n (pAt tb n 6) (nx tb n (nx tb n p))).2.1) := f26_1
          have hu_15 : FRL I J26_1 := hu_8.tr g26
          have gd9 := pAny_gd (tb := tb) hn4 (by omega) (pAt_gd hn4 6) (p := (nx tb n (nx tb n p))) (by omega) (by omega) q26_1
          have ga9 := gd9.1
          have gb9 := gd9.2.1
          have gc9 := gd9.2.2.1
          refine WP.go 1 (And.intro (fun (b27 : ¬ 1 = 0) => ?_) (fun (b27 : 1 = 0) => (absurd b27 (by omega))))
          show WP (Call d) 41 P X (30, [some (vr (some 72) 3), some (vi (th tb n p))], [], (J26_1, H), 0, 0)
          refine WP.go 7 (Exists.intro (2007 + (th tb n p)) (And.intro (wrp_a (by omega) (by omega)) (Exists.intro ((2007 + (th tb n p)) - 1009) (And.intro (wrp_a (by omega) (by omega)) (And.intro (And.intro (Nat.le_of_ble_eq_true rfl) (Nat.le_of_ble_eq_true rfl)) (And.intro rfl (?_)))))))
          show Call d 40 [vr (some 72) 3, vi ((2007 + (th tb n p)) - 1009)] (J26_1, H) _ _
          refine s_3_put (by omega) hS hco_14 (by (try simp only [List.length_append, List.length_cons, List.length_nil]); omega) (fun J36 e36 f36 g36 => ?_)
          show WP (Call d) 41 P X (37, [some (vr (some 72) 3), some (vi (th tb n p))], [], (J36, H), 0, 0)
          have hK_16 : TOK J36 72 tb n := hK_12.fr (f36 2 (by omega)) (g36 73 (by omega) (by omega)) (g36 74 (by omega) (by omega))
          have hat_17 : ATP J36 72 ((pAny tb n (pAt tb n 6) (nx tb n (nx tb n p))).2.2.2) := FRL.p5 f36 g36 hat_13
          have hco_18 : COD J36 ((c9.1 ++ (pAny tb n (pAt tb n 6) (nx tb n (nx tb n p))).2.1) ++ [((2007 + (th tb n p)) - 1009)]) := e36
          have hu_19 : FRL I J36 := hu_15.tr ⟨fun s9 _ b9 => f36 s9 b9, g36⟩
          have hco_20 : COD J36 ((c9.1 ++ (pAny tb n (pAt tb n 6) (nx tb n (nx tb n p))).2.1) ++ [(2007 + (th tb n p - 1009))]) := by rw [show (2007 + (th tb n p - 1009)) = ((2007 + (th tb n p)) - 1009) by omega]; exact hco_18
          refine WP.go 2 (And.intro (And.intro (Nat.le_of_ble_eq_true rfl) (Nat.le_of_ble_eq_true rfl)) (And.intro (Or.inr rfl) (?_)))
          show P (some (vi 1)) (J36, H)
          have r8 := lln_4 (c := c9) q3 (lamt_v b10) rfl (lcon_i q18) q26_1
          exact h.2 (by rw [r8]) _ (by rw [r8]; exact hat_17) (by rw [r8]; simpa only [List.append_assoc, List.cons_append, List.nil_append] using hco_20) hu_19
      ·
        show WP (Call d) 41 P X (19, [some (vr (some 72) 3), some (vi (th tb n p))], [vi 0], (J3, H), 0, 0)
        refine WP.go 1 (And.intro (fun (b19 : ¬ 0 = 0) => (absurd b19 (by omega))) (fun (b19 : 0 = 0) => ?_))
        show WP (Call d) 41 P X (20, [some (vr (some 72) 3), some (vi (th tb n p))], [], (J3, H), 0, 0)
        refine WP.go 3 (And.intro (And.intro (Nat.le_of_ble_eq_true rfl) (Nat.le_of_ble_eq_true rfl)) (And.intro rfl (?_)))
        show Call d 40 [vr (some 72) 3, vi 1] (J3, H) _ _
        refine s_3_put (by omega) hS hco_3 (by (try simp only [List.length_append, List.length_cons, List.length_nil]); omega) (fun J22 e22 f22 g22 => ?_)
        show WP (Call d) 41 P X (23, [some (vr (some 72) 3), some (vi (th tb n p))], [], (J22, H), 0, 0)
        have hK_21 : TOK J22 72 tb n := hK_1.fr (f22 2 (by omega)) (g22 73 (by omega) (by omega)) (g22 74 (by omega) (by omega))
        have hat_22 : ATP J22 72 (nx tb n p) := FRL.p5 f22 g22 hat_2
        have hco_23 : COD J22 (c9.1 ++ [1]) := e22
        have hu_24 : FRL I J22 := hu_4.tr ⟨fun s9 _ b9 => f22 s9 b9, g22⟩
        refine WP.go 8 (Exists.intro (2007 + (th tb n p)) (And.intro (wrp_a (by omega) (by omega)) (Exists.intro ((2007 + (th tb n p)) - 1009) (And.intro (wrp_a (by omega) (by omega)) (And.intro (And.intro (Nat.le_of_ble_eq_true rfl) (Nat.le_of_ble_eq_true rfl)) (And.intro rfl (?_)))))))
        show Call d 40 [vr (some 72) 3, vi ((2007 + (th tb n p)) - 1009)] (J22, H) _ _
        refine s_3_put (by omega) hS hco_23 (by (try simp only [List.length_append, List.length_cons, List.length_nil]); omega) (fun J36_1 e36_1 f36_1 g36_1 => ?_)
        show WP (Call d) 41 P X (37, [some (vr (some 72) 3), some (vi (th tb n p))], [], (J36_1, H), 0, 0)
        have hK_25 : TOK J36_1 72 tb n := hK_21.fr (f36_1 2 (by omega)) (g36_1 73 (by omega) (by omega)) (g36_1 74 (by omega) (by omega))
        have hat_26 : ATP J36_1 72 (nx tb n p) := FRL.p5 f36_1 g36_1 hat_22
        have hco_27 : COD J36_1 ((c9.1 ++ [1]) ++ [((2007 + (th tb n p)) - 1009)]) := e36_1
        have hu_28 : FRL I J36_1 := hu_24.tr ⟨fun s9 _ b9 => f36_1 s9 b9, g36_1⟩
        have hco_29 : COD J36_1 ((c9.1 ++ [1]) ++ [(2007 + (th tb n p - 1009))]) := by rw [show (2007 + (th tb n p - 1009)) = ((2007 + (th tb n p)) - 1009) by omega]; exact hco_27
        refine WP.go 2 (And.intro (And.intro (Nat.le_of_ble_eq_true rfl) (Nat.le_of_ble_eq_true rfl)) (And.intro (Or.inr rfl) (?_)))
        show P (some (vi 1)) (J36_1, H)
        have r8 := lln_4 (c := c9) q3 (lamt_v b10) rfl (lcon_n q18_1) rfl
        exact h.2 (by rw [r8]) _ (by rw [r8]; exact hat_26) (by rw [r8]; simpa only [List.append_assoc, List.cons_append, List.nil_append] using hco_29) hu_28
    ·
      show WP (Call d) 41 P X (11, [some (vr (some 72) 3), some (vi (th tb n p))], [], (J3, H), 0, 0)
      refine WP.go 2 (And.intro (And.intro (Nat.le_of_ble_eq_true rfl) (Nat.le_of_ble_eq_true rfl)) (And.intro rfl (?_)))
      show Call d 42 [vr (some 72) 3] (J3, H) _ _
      refine s_3_readAmount (by omega) hS hK_1 hat_2 hco_3 (by (try simp only [List.length_append, List.length_cons, List.length_nil]); omega) hn4 ⟨(fun q12 J12 e12 f12 => ?_), (fun q12_1 J12_1 e12_1 f12_1 g12 => ?_)⟩
      ·
        show WP (Call d) 41 P X (13, [some (vr (some 72) 3), some (vi (th tb n p))], [vi 0], (J12, H), 0, 0)
        have hat_30 : ATP J12 72 (pAmt tb n (nx tb n p)).1 := e12
        have hK_31 : TOK J12 72 tb n := f12.tk hK_1
        have hu_32 : FRL I J12 := hu_4.tr f12
        refine WP.go 1 (And.intro (fun (b13 : ¬ 0 = 0) => (absurd b13 (by omega))) (fun (b13 : 0 = 0) => ?_))
        show WP (Call d) 41 P X (14, [some (vr (some 72) 3), some (vi (th tb n p))], [], (J12, H), 0, 0)
        refine WP.go 2 (And.intro (And.intro (Nat.le_of_ble_eq_true rfl) (Nat.le_of_ble_eq_true rfl)) (And.intro (Or.inl rfl) (?_)))
        show P (some (vi 0)) (J12, H)
        have r8 := lln_2 (c := c9) q3 (lamt_a b10) q12
        exact h.1 (by rw [r8]; exact q12) _ (by rw [r8]; exact hat_30) hu_32
      ·
        show WP (Call d) 41 P X (13, [some (vr (some 72) 3), some (vi (th tb n p))], [vi 1], (J12_1, H), 0, 0)
        have gp9 := (hK_1.at hat_2).2
        have hK_33 : TOK J12_1 72 tb n := g12.tk hK_1
        have hat_34 : ATP J12_1 72 (pAmt tb n (nx tb n p)).2.2.2 := e12_1
        have hco_35 : COD J12_1 (c9.1 ++ (pAmt tb n (nx tb n p)).2.1) := f12_1
        have hu_36 : FRL I J12_1 := hu_4.tr g12
        have gd9 := (pAmt_gd (tb := tb) (n := n) (p := (nx tb n p)) (by omega) (by omega)).1 q12_1
        have ga9 := gd9.1
        have gb9 := gd9.2.1
        have gc9 := gd9.2.2.1
        refine WP.go 1 (And.intro (fun (b13 : ¬ 1 = 0) => ?_) (fun (b13 : 1 = 0) => (absurd b13 (by omega))))
        show WP (Call d) 41 P X (16, [some (vr (some 72) 3), some (vi (th tb n p))], [], (J12_1, H), 0, 0)
        refine WP.go 3 (And.intro (And.intro (Nat.le_of_ble_eq_true rfl) (Nat.le_of_ble_eq_true rfl)) (And.intro rfl (?_)))
        show Call d 81 [vr (some 72) 3, vi 1012] (J12_1, H) _ _
        refine s_skip_T72 (by omega) hS hK_33 hat_34 (by omega) ⟨(fun q18_2 J18_1 e18_1 f18_1 g18_1 => ?_), (fun q18_3 => ?_)⟩
        ·
          show WP (Call d) 41 P X (19, [some (vr (some 72) 3), some (vi (th tb n p))], [vi 1], (J18_1, H), 0, 0)
          have nb9 := nx_bd (tb := tb) (n := n) (p := ((pAmt tb n (nx tb n p)).2.2.2)) (hK_33.at hat_34).2.1 (th_lt (tb := tb) (hK_33.at hat_34).2.2 (by have w9 := q18_2; omega))
          have hK_37 : TOK J18_1 72 tb n := hK_33.fr (e18_1 2 (by omega)) (f18_1 73 (by omega)) (f18_1 74 (by omega))
          have hat_38 : ATP J18_1 72 (nx tb n ((pAmt tb n (nx tb n p)).2.2.2)) := g18_1
          have pb9 := (hK_37.at hat_38).2
          have hco_39 : COD J18_1 (c9.1 ++ (pAmt tb n (nx tb n p)).2.1) := hco_35.fr (e18_1 5 (by omega)) (f18_1 75 (by omega))
          have hu_40 : FRL I J18_1 := hu_36.tr ⟨fun s9 a9 _ => e18_1 s9 a9, fun a9 q9 _ => f18_1 a9 q9⟩
          refine WP.go 1 (And.intro (fun (b19 : ¬ 1 = 0) => ?_) (fun (b19 : 1 = 0) => (absurd b19 (by omega))))
          show WP (Call d) 41 P X (24, [some (vr (some 72) 3), some (vi (th tb n p))], [], (J18_1, H), 0, 0)
          refine WP.go 3 (And.intro (And.intro (Nat.le_of_ble_eq_true rfl) (Nat.le_of_ble_eq_true rfl)) (And.intro rfl (?_)))
          show Call d 43 [vr (some 72) 3, vi 0] (J18_1, H) _ _
          refine (any0_KC hn4) (by omega) hS hK_37 hat_38 hco_39 (by (try simp only [List.length_append, List.length_cons, List.length_nil]); omega) ⟨(fun q26_2 J26_2 e26_2 f26_2 => ?_), (fun q26_3 J26_3 e26_3 f26_3 g26_1 => ?_)⟩
          ·
            show WP (Call d) 41 P X (27, [some (vr (some 72) 3), some (vi (th tb n p))], [vi 0], (J26_2, H), 0, 0)
            have hat_41 : ATP J26_2 72 (pAny tb n (pAt tb n 6) (nx tb n ((pAmt tb n (nx tb n p)).2.2.2))).1 := e26_2
            have hK_42 : TOK J26_2 72 tb n := f26_2.tk hK_37
            have hu_43 : FRL I J26_2 := hu_40.tr f26_2
            refine WP.go 1 (And.intro (fun (b27 : ¬ 0 = 0) => (absurd b27 (by omega))) (fun (b27 : 0 = 0) => ?_))
            show WP (Call d) 41 P X (28, [some (vr (some 72) 3), some (vi (th tb n p))], [], (J26_2, H), 0, 0)
            refine WP.go 2 (And.intro (And.intro (Nat.le_of_ble_eq_true rfl) (Nat.le_of_ble_eq_true rfl)) (And.intro (Or.inl rfl) (?_)))
            show P (some (vi 0)) (J26_2, H)
            have r8 := lln_3 (c := c9) q3 (lamt_a b10) q12_1 (lcon_i q18_2) q26_2
            exact h.1 (by rw [r8]; exact q26_2) _ (by rw [r8]; exact hat_41) hu_43
          ·
            show WP (Call d) 41 P X (27, [some (vr (some 72) 3), some (vi (th tb n p))], [vi 1], (J26_3, H), 0, 0)
            have gp9 := (hK_37.at hat_38).2
            have hK_44 : TOK J26_3 72 tb n := g26_1.tk hK_37
            have hat_45 : ATP J26_3 72 (pAny tb n (pAt tb n 6) (nx tb n ((pAmt tb n (nx tb n p)).2.2.2))).2.2.2 := e26_3
            have hco_46 : COD J26_3 ((c9.1 ++ (pAmt tb n (nx tb n p)).2.1) ++ (pAny tb n (pAt tb n 6) (nx tb n ((pAmt tb n (nx tb n p)).2.2.2))).2.1) := f26_3
            have hu_47 : FRL I J26_3 := hu_40.tr g26_1
            have gd9 := pAny_gd (tb := tb) hn4 (by omega) (pAt_gd hn4 6) (p := (nx tb n ((pAmt tb n (nx tb n p)).2.2.2))) (by omega) (by omega) q26_3
            have ga9 := gd9.1
            have gb9 := gd9.2.1
            have gc9 := gd9.2.2.1
            refine WP.go 1 (And.intro (fun (b27 : ¬ 1 = 0) => ?_) (fun (b27 : 1 = 0) => (absurd b27 (by omega))))
            show WP (Call d) 41 P X (30, [some (vr (some 72) 3), some (vi (th tb n p))], [], (J26_3, H), 0, 0)
            refine WP.go 7 (Exists.intro (2007 + (th tb n p)) (And.intro (wrp_a (by omega) (by omega)) (Exists.intro ((2007 + (th tb n p)) - 1009) (And.intro (wrp_a (by omega) (by omega)) (And.intro (And.intro (Nat.le_of_ble_eq_true rfl) (Nat.le_of_ble_eq_true rfl)) (And.intro rfl (?_)))))))
            show Call d 40 [vr (some 72) 3, vi ((2007 + (th tb n p)) - 1009)] (J26_3, H) _ _
            refine s_3_put (by omega) hS hco_46 (by (try simp only [List.length_append, List.length_cons, List.length_nil]); omega) (fun J36_2 e36_2 f36_2 g36_2 => ?_)
            show WP (Call d) 41 P X (37, [some (vr (some 72) 3), some (vi (th tb n p))], [], (J36_2, H), 0, 0)
            have hK_48 : TOK J36_2 72 tb n := hK_44.fr (f36_2 2 (by omega)) (g36_2 73 (by omega) (by omega)) (g36_2 74 (by omega) (by omega))
            have hat_49 : ATP J36_2 72 ((pAny tb n (pAt tb n 6) (nx tb n ((pAmt tb n (nx tb n p)).2.2.2))).2.2.2) := FRL.p5 f36_2 g36_2 hat_45
            have hco_50 : COD J36_2 (((c9.1 ++ (pAmt tb n (nx tb n p)).2.1) ++ (pAny tb n (pAt tb n 6) (nx tb n ((pAmt tb n (nx tb n p)).2.2.2))).2.1) ++ [((2007 + (th tb n p)) - 1009)]) := e36_2
            have hu_51 : FRL I J36_2 := hu_47.tr ⟨fun s9 _ b9 => f36_2 s9 b9, g36_2⟩
            have hco_52 : COD J36_2 (((c9.1 ++ (pAmt tb n (nx tb n p)).2.1) ++ (pAny tb n (pAt tb n 6) (nx tb n ((pAmt tb n (nx tb n p)).2.2.2))).2.1) ++ [(2007 + (th tb n p - 1009))]) := by rw [show (2007 + (th tb n p - 1009)) = ((2007 + (th tb n p)) - 1009) by omega]; exact hco_50
            refine WP.go 2 (And.intro (And.intro (Nat.le_of_ble_eq_true rfl) (Nat.le_of_ble_eq_true rfl)) (And.intro (Or.inr rfl) (?_)))
            show P (some (vi 1)) (J36_2, H)
            have r8 := lln_4 (c := c9) q3 (lamt_a b10) q12_1 (lcon_i q18_2) q26_3
            exact h.2 (by rw [r8]) _ (by rw [r8]; exact hat_49) (by rw [r8]; simpa only [List.append_assoc, List.cons_append, List.nil_append] using hco_52) hu_51
        ·
          show WP (Call d) 41 P X (19, [some (vr (some 72) 3), some (vi (th tb n p))], [vi 0], (J12_1, H), 0, 0)
          refine WP.go 1 (And.intro (fun (b19 : ¬ 0 = 0) => (absurd b19 (by omega))) (fun (b19 : 0 = 0) => ?_))
          show WP (Call d) 41 P X (20, [some (vr (some 72) 3), some (vi (th tb n p))], [], (J12_1, H), 0, 0)
          refine WP.go 3 (And.intro (And.intro (Nat.le_of_ble_eq_true rfl) (Nat.le_of_ble_eq_true rfl)) (And.intro rfl (?_)))
          show Call d 40 [vr (some 72) 3, vi 1] (J12_1, H) _ _
          refine s_3_put (by omega) hS hco_35 (by (try simp only [List.length_append, List.length_cons, List.length_nil]); omega) (fun J22_1 e22_1 f22_1 g22_1 => ?_)
          show WP (Call d) 41 P X (23, [some (vr (some 72) 3), some (vi (th tb n p))], [], (J22_1, H), 0, 0)
          have hK_53 : TOK J22_1 72 tb n := hK_33.fr (f22_1 2 (by omega)) (g22_1 73 (by omega) (by omega)) (g22_1 74 (by omega) (by omega))
          have hat_54 : ATP J22_1 72 ((pAmt tb n (nx tb n p)).2.2.2) := FRL.p5 f22_1 g22_1 hat_34
          have hco_55 : COD J22_1 ((c9.1 ++ (pAmt tb n (nx tb n p)).2.1) ++ [1]) := e22_1
          have hu_56 : FRL I J22_1 := hu_36.tr ⟨fun s9 _ b9 => f22_1 s9 b9, g22_1⟩
          refine WP.go 8 (Exists.intro (2007 + (th tb n p)) (And.intro (wrp_a (by omega) (by omega)) (Exists.intro ((2007 + (th tb n p)) - 1009) (And.intro (wrp_a (by omega) (by omega)) (And.intro (And.intro (Nat.le_of_ble_eq_true rfl) (Nat.le_of_ble_eq_true rfl)) (And.intro rfl (?_)))))))
          show Call d 40 [vr (some 72) 3, vi ((2007 + (th tb n p)) - 1009)] (J22_1, H) _ _
          refine s_3_put (by omega) hS hco_55 (by (try simp only [List.length_append, List.length_cons, List.length_nil]); omega) (fun J36_3 e36_3 f36_3 g36_3 => ?_)
          show WP (Call d) 41 P X (37, [some (vr (some 72) 3), some (vi (th tb n p))], [], (J36_3, H), 0, 0)
          have hK_57 : TOK J36_3 72 tb n := hK_53.fr (f36_3 2 (by omega)) (g36_3 73 (by omega) (by omega)) (g36_3 74 (by omega) (by omega))
          have hat_58 : ATP J36_3 72 ((pAmt tb n (nx tb n p)).2.2.2) := FRL.p5 f36_3 g36_3 hat_54
          have hco_59 : COD J36_3 (((c9.1 ++ (pAmt tb n (nx tb n p)).2.1) ++ [1]) ++ [((2007 + (th tb n p)) - 1009)]) := e36_3
          have hu_60 : FRL I J36_3 := hu_56.tr ⟨fun s9 _ b9 => f36_3 s9 b9, g36_3⟩
          have hco_61 : COD J36_3 (((c9.1 ++ (pAmt tb n (nx tb n p)).2.1) ++ [1]) ++ [(2007 + (th tb n p - 1009))]) := by rw [show (2007 + (th tb n p - 1009)) = ((2007 + (th tb n p)) - 1009) by omega]; exact hco_59
          refine WP.go 2 (And.intro (And.intro (Nat.le_of_ble_eq_true rfl) (Nat.le_of_ble_eq_true rfl)) (And.intro (Or.inr rfl) (?_)))
          show P (some (vi 1)) (J36_3, H)
          have r8 := lln_4 (c := c9) q3 (lamt_a b10) q12_1 (lcon_n q18_3) rfl
          exact h.2 (by rw [r8]) _ (by rw [r8]; exact hat_58) (by rw [r8]; simpa only [List.append_assoc, List.cons_append, List.nil_append] using hco_61) hu_60
  ·
    show WP (Call d) 41 P X (4, [some (vr (some 72) 3), none], [vi (-1)], (I, H), 0, 0)
    refine WP.go 4 (And.intro (fun (b7 : (-1) = (-1)) => ?_) (fun (b7 : ¬ (-1) = (-1)) => (absurd b7 (by omega))))
    show WP (Call d) 41 P X (14, [some (vr (some 72) 3), some (vi (-1))], [], (I, H), 0, 0)
    refine WP.go 2 (And.intro (And.intro (Nat.le_of_ble_eq_true rfl) (Nat.le_of_ble_eq_true rfl)) (And.intro (Or.inl rfl) (?_)))
    show P (some (vi 0)) (I, H)
    have r8 := lln_1 (c := c9) q3_1
    exact h.1 (by rw [r8]; show p ≠ -1; omega) _ (by rw [r8]; exact hat) hu

theorem s_7_wrongIn_T72 {d : Nat} {P : Option qV → qH → Prop} {X : Nat → qH → Prop} {I : qI} {H : qS} (hd : 42 ≤ d) {tb : Int → Int} {n : Int} (hS : Shp H) (hK : TOK I 72 tb n) (hco : COD I []) (hn4 : n ≤ 400) (h : ∀ J : qI, ((lnT tb n (lln tb n) ls0).1 = -1 → COD J (lnT tb n (lln tb n) ls0).2.1) → FRL I J → P (some (vi (lnT tb n (lln tb n) ls0).1)) (J, H)) :
    Call d 78 [vr (some 72) 3] (I, H) P X := by
  obtain ⟨d, rfl⟩ : ∃ e, d = e + 1 := ⟨d - 1, by omega⟩
  have hu := FRL.rf I
  show WP (Call d) 78 P X (0, [some (vr (some 72) 3), none], [], (I, H), 0, 0)
  refine WP.go 3 (And.intro (And.intro rfl trivial) (?_))
  show WP (Call d) 78 P X (3, [some (vr (some 72) 3), none], [], ((upI I 72 3 0), H), 0, 0)
  generalize hq_J0 : (upI I 72 3 0) = J0
  have e_J0 : J0 72 = (fun j => if j = 3 then 0 else I 72 j) := by rw [← hq_J0]; exact upI_self _ _ _ _
  have f_J0 : ∀ a, a ≠ 72 → J0 a = I a := fun a q => by rw [← hq_J0]; exact upI_cell q
  have hK_1 : TOK J0 72 tb n := (hK.st e_J0 f_J0).1
  have hat_2 : ATP J0 72 (sk tb n 0) := (hK.st e_J0 f_J0).2
  have hco_3 : COD J0 [] := hco.fr (by rw [e_J0]; rfl) (f_J0 75 (by omega))
  have hu_4 : FRL I J0 := ⟨fun s9 a9 _ => by rw [e_J0]; exact if_neg a9, fun a9 q9 _ => f_J0 a9 q9⟩
  refine WP.go 2 (And.intro (And.intro (Nat.le_of_ble_eq_true rfl) (Nat.le_of_ble_eq_true rfl)) (And.intro rfl (?_)))
  show Call d 79 [vr (some 72) 3] (J0, H) _ _
  refine s_7_present_T72 (by omega) hS hK_1 hat_2 ?_
  show WP (Call d) 78 P X (5, [some (vr (some 72) 3), none], [vi (th tb n (sk tb n 0))], (J0, H), 0, 0)
  refine WP.go 2 (And.intro (fun (b6 : ¬ th tb n (sk tb n 0) = 3000) => ?_) (fun (b6 : th tb n (sk tb n 0) = 3000) => ?_))
  ·
    show WP (Call d) 78 P X (9, [some (vr (some 72) 3), none], [], (J0, H), 0, 0)
    refine WP.go 2 ?_
    show WP (Call d) 78 P X (11, [some (vr (some 72) 3), some (vi 0)], [], (J0, H), 0, 0)
    have lp11 : ∀ (n9 : Nat) (K : qI) (i : Int) (c9 : LSt) (p9 : Int) (hm : 12 - i < (n9 : Int)) (kv0 : 0 ≤ i ∧ i ≤ 12) (kv1 : TOK K 72 tb n) (kv2 : ATP K 72 p9) (kv3 : COD K c9.1) (kv5 : LG p9 p9 c9) (kv6 : FRL I K) (kv7 : (lnT tb n (lln tb n) ls0) = lnL tb n (lln tb n) (12 - i).toNat p9 c9), WP (Call d) 78 P X (11, [some (vr (some 72) 3), some (vi i)], [], (K, H), 0, 0) := by
      intro n9
      induction n9 with
      | zero => intro K i c9 p9 hm kv0 kv1 kv2 kv3 kv5 kv6 kv7; exact absurd hm (by omega)
      | succ n9 ih11 =>
        intro K i c9 p9 hm kv0 kv1 kv2 kv3 kv5 kv6 kv7
        have qb9 := (kv1.at kv2).2
        refine WP.go 3 (And.intro (fun (b13 : ¬ i < 12) => ?_) (fun (b13 : i < 12) => ?_))
        ·
          show WP (Call d) 78 P X (35, [some (vr (some 72) 3), some (vi i)], [], (K, H), 0, 0)
          refine WP.go 2 (And.intro (And.intro (Nat.le_of_ble_eq_true rfl) (Nat.le_of_ble_eq_true rfl)) (And.intro rfl (?_)))
          show Call d 80 [vr (some 72) 3] (K, H) _ _
          refine s_7_begin_T72 (by omega) hS kv1 kv2 ?_
          show WP (Call d) 78 P X (37, [some (vr (some 72) 3), some (vi i)], [vi p9], (K, H), 0, 0)
          refine WP.go 1 (And.intro (And.intro (Nat.le_of_ble_eq_true rfl) (Nat.le_of_ble_eq_true rfl)) (And.intro trivial (?_)))
          show P (some (vi p9)) (K, H)
          have r9 : (lnT tb n (lln tb n) ls0) = (p9, c9) := kv7.trans (lnL_0 (by omega))
          exact fin_i (by rw [r9]) (h _ (fun _ => by rw [r9]; exact kv3) kv6)
        ·
          show WP (Call d) 78 P X (14, [some (vr (some 72) 3), some (vi i)], [], (K, H), 0, 0)
          refine WP.go 2 (And.intro (And.intro (Nat.le_of_ble_eq_true rfl) (Nat.le_of_ble_eq_true rfl)) (?_))
          show Call d 41 [vr (some 72) 3] (K, H) _ _
          refine s_3_readLine (by omega) hS kv1 kv2 kv3 kv5.1 hn4 ⟨(fun q15 J15 e15 f15 => ?_), (fun q15_1 J15_1 e15_1 f15_1 g15 => ?_)⟩
          ·
            show WP (Call d) 78 P X (16, [some (vr (some 72) 3), some (vi i)], [vi 0], (J15, H), 0, 0)
            have hK_5 : TOK J15 72 tb n := f15.tk kv1
            have hat_6 : ATP J15 72 (lln tb n p9 c9).1 := e15
            have hu_7 : FRL I J15 := kv6.tr f15
            refine WP.go 1 (And.intro (fun (b16 : ¬ 0 = 0) => (absurd b16 (by omega))) (fun (b16 : 0 = 0) => ?_))
            show WP (Call d) 78 P X (17, [some (vr (some 72) 3), some (vi i)], [], (J15, H), 0, 0)
            refine WP.go 2 (And.intro (And.intro (Nat.le_of_ble_eq_true rfl) (Nat.le_of_ble_eq_true rfl)) (And.intro rfl (?_)))
            show Call d 80 [vr (some 72) 3] (J15, H) _ _
            refine s_7_begin_T72 (by omega) hS hK_5 hat_6 ?_
            show WP (Call d) 78 P X (19, [some (vr (some 72) 3), some (vi i)], [vi ((lln tb n p9 c9).1)], (J15, H), 0, 0)
            refine WP.go 1 (And.intro (And.intro (Nat.le_of_ble_eq_true rfl) (Nat.le_of_ble_eq_true rfl)) (And.intro trivial (?_)))
            show P (some (vi ((lln tb n p9 c9).1))) (J15, H)
            have r9 : (lnT tb n (lln tb n) ls0) = ((lln tb n p9 c9).1, (lln tb n p9 c9).2.1) := kv7.trans (by rw [lnL_s (by omega), if_pos q15])
            exact fin_i (by rw [r9]) (h _ (fun q9 => by rw [r9] at q9; exact absurd q9 q15) hu_7)
          ·
            show WP (Call d) 78 P X (16, [some (vr (some 72) 3), some (vi i)], [vi 1], (J15_1, H), 0, 0)
            have hK_8 : TOK J15_1 72 tb n := g15.tk kv1
            have hat_9 : ATP J15_1 72 (lln tb n p9 c9).2.2 := e15_1
            have hco_10 : COD J15_1 (lln tb n p9 c9).2.1.1 := f15_1
            have hu_11 : FRL I J15_1 := kv6.tr g15
            have lg9 := lln_lg hn4 qb9.1 qb9.2 kv5 q15_1
            refine WP.go 1 (And.intro (fun (b16 : ¬ 1 = 0) => ?_) (fun (b16 : 1 = 0) => (absurd b16 (by omega))))
            show WP (Call d) 78 P X (20, [some (vr (some 72) 3), some (vi i)], [], (J15_1, H), 0, 0)
            refine WP.go 2 (And.intro (And.intro (Nat.le_of_ble_eq_true rfl) (Nat.le_of_ble_eq_true rfl)) (And.intro rfl (?_)))
            show Call d 79 [vr (some 72) 3] (J15_1, H) _ _
            refine s_7_present_T72 (by omega) hS hK_8 hat_9 ?_
            show WP (Call d) 78 P X (22, [some (vr (some 72) 3), some (vi i)], [vi (th tb n (lln tb n p9 c9).2.2)], (J15_1, H), 0, 0)
            refine WP.go 2 (And.intro (fun (b23 : ¬ th tb n (lln tb n p9 c9).2.2 = 3000) => ?_) (fun (b23 : th tb n (lln tb n p9 c9).2.2 = 3000) => ?_))
            ·
              show WP (Call d) 78 P X (26, [some (vr (some 72) 3), some (vi i)], [], (J15_1, H), 0, 0)
              refine WP.go 3 (And.intro (And.intro (Nat.le_of_ble_eq_true rfl) (Nat.le_of_ble_eq_true rfl)) (And.intro rfl (?_)))
              show Call d 81 [vr (some 72) 3, vi 2059] (J15_1, H) _ _
              refine s_skip_T72 (by omega) hS hK_8 hat_9 (by omega) ⟨(fun q28 J28 e28 f28 g28 => ?_), (fun q28_1 => ?_)⟩
              ·
                show WP (Call d) 78 P X (29, [some (vr (some 72) 3), some (vi i)], [vi 1], (J28, H), 0, 0)
                have nb9 := nx_bd (tb := tb) (n := n) (p := (lln tb n p9 c9).2.2) (hK_8.at hat_9).2.1 (th_lt (tb := tb) (hK_8.at hat_9).2.2 (by have w9 := q28; omega))
                have hK_12 : TOK J28 72 tb n := hK_8.fr (e28 2 (by omega)) (f28 73 (by omega)) (f28 74 (by omega))
                have hat_13 : ATP J28 72 (nx tb n (lln tb n p9 c9).2.2) := g28
                have pb9 := (hK_12.at hat_13).2
                have hco_14 : COD J28 (lln tb n p9 c9).2.1.1 := hco_10.fr (e28 5 (by omega)) (f28 75 (by omega))
                have hu_15 : FRL I J28 := hu_11.tr ⟨fun s9 a9 _ => e28 s9 a9, fun a9 q9 _ => f28 a9 q9⟩
                refine WP.go 1 (And.intro (fun (b29 : ¬ 1 = 0) => ?_) (fun (b29 : 1 = 0) => (absurd b29 (by omega))))
                show WP (Call d) 78 P X (33, [some (vr (some 72) 3), some (vi i)], [], (J28, H), 0, 0)
                refine WP.go 2 (Exists.intro (i + 1) (And.intro (wrp_a (by omega) (by omega)) (?_)))
                show WP (Call d) 78 P X (11, [some (vr (some 72) 3), some (vi (i + 1))], [], (J28, H), 0, 0)
                exact ih11 J28 (i + 1) ((lln tb n p9 c9).2.1) (nx tb n (lln tb n p9 c9).2.2) (by omega) (by omega) hK_12 hat_13 hco_14 (lg9.2.2.up (by omega) (by omega)) hu_15 (kv7.trans (by rw [lnL_s (by omega), if_neg (fun z => z q15_1), if_neg b23, if_pos q28]))
              ·
                show WP (Call d) 78 P X (29, [some (vr (some 72) 3), some (vi i)], [vi 0], (J15_1, H), 0, 0)
                refine WP.go 1 (And.intro (fun (b29 : ¬ 0 = 0) => (absurd b29 (by omega))) (fun (b29 : 0 = 0) => ?_))
                show WP (Call d) 78 P X (30, [some (vr (some 72) 3), some (vi i)], [], (J15_1, H), 0, 0)
                refine WP.go 2 (And.intro (And.intro (Nat.le_of_ble_eq_true rfl) (Nat.le_of_ble_eq_true rfl)) (And.intro rfl (?_)))
                show Call d 80 [vr (some 72) 3] (J15_1, H) _ _
                refine s_7_begin_T72 (by omega) hS hK_8 hat_9 ?_
                show WP (Call d) 78 P X (32, [some (vr (some 72) 3), some (vi i)], [vi ((lln tb n p9 c9).2.2)], (J15_1, H), 0, 0)
                refine WP.go 1 (And.intro (And.intro (Nat.le_of_ble_eq_true rfl) (Nat.le_of_ble_eq_true rfl)) (And.intro trivial (?_)))
                show P (some (vi ((lln tb n p9 c9).2.2))) (J15_1, H)
                have r9 : (lnT tb n (lln tb n) ls0) = ((lln tb n p9 c9).2.2, (lln tb n p9 c9).2.1) := kv7.trans (by rw [lnL_s (by omega), if_neg (fun z => z q15_1), if_neg b23, if_neg q28_1])
                exact fin_i (by rw [r9]) (h _ (fun q9 => by rw [r9]; exact hco_10) hu_11)
            ·
              show WP (Call d) 78 P X (24, [some (vr (some 72) 3), some (vi i)], [], (J15_1, H), 0, 0)
              refine WP.go 2 (And.intro (And.intro (Nat.le_of_ble_eq_true rfl) (Nat.le_of_ble_eq_true rfl)) (And.intro trivial (?_)))
              show P (some (vi (-1))) (J15_1, H)
              have r9 : (lnT tb n (lln tb n) ls0) = (-1, (lln tb n p9 c9).2.1) := kv7.trans (by rw [lnL_s (by omega), if_neg (fun z => z q15_1), if_pos b23])
              exact fin_i (by rw [r9]) (h _ (fun q9 => by rw [r9]; exact hco_10) hu_11)
    exact lp11 ((12 - 0 : Int).toNat + 1) J0 0 ls0 (sk tb n 0) (by omega) (by omega) hK_1 hat_2 hco_3 (ls0_lg (hK_1.at hat_2).2.1 (hK_1.at hat_2).2.1) hu_4 (if_neg b6)
  ·
    show WP (Call d) 78 P X (7, [some (vr (some 72) 3), none], [], (J0, H), 0, 0)
    refine WP.go 2 (And.intro (And.intro (Nat.le_of_ble_eq_true rfl) (Nat.le_of_ble_eq_true rfl)) (And.intro trivial (?_)))
    show P (some (vi (-1))) (J0, H)
    have r9 : (lnT tb n (lln tb n) ls0) = (-1, ls0) := if_pos b6
    exact fin_i (by rw [r9]) (h _ (fun _ => by rw [r9]; exact hco_3) hu_4)

