/-- a method that reads what A says -/
def KC (D M : Nat) (dep e : Int) (tb : Int → Int) (n : Int) (A : Int → RS) : Prop := ∀ {d : Nat} {P : Option qV → qH → Prop} {X : Nat → qH → Prop} {I : qI} {H : qS} {p : Int} {c : List Int}, D ≤ d → Shp H → TOK I 72 tb n → ATP I 72 p → COD I c → (c.length : Int) + e ≤ 2 * p →
  (((A p).1 ≠ -1 → ∀ J : qI, ATP J 72 (A p).1 → FRL I J → P (some (vi 0)) (J, H)) ∧ ((A p).1 = -1 → ∀ J : qI, ATP J 72 (A p).2.2.2 → COD J (c ++ (A p).2.1) → FRL I J → P (some (vi 1)) (J, H))) → Call d M [vr (some 72) 3, vi dep] (I, H) P X
theorem pPlain_1 {tb : Int → Int} {n p : Int} (h : 1021 ≤ th tb n p ∧ th tb n p ≤ 1023) : pPlain tb n p = (-1, [1005 + (th tb n p - 1021)], (fun F => F (5 + (th tb n p - 1021))), nx tb n p) := if_pos h
theorem pPlain_2 {tb : Int → Int} {n p : Int} (h : ¬ (1021 ≤ th tb n p ∧ th tb n p ≤ 1023)) : pPlain tb n p = pCmp tb n (pSum tb n p) := if_neg h
theorem pCmp_1 {tb : Int → Int} {n : Int} {s : RS} (h : s.1 ≠ -1) : pCmp tb n s = rE s.1 := if_pos h
theorem pCmp_2 {tb : Int → Int} {n : Int} {s : RS} (h : s.1 = -1) (h2 : ¬ (th tb n s.2.2.2 = 2060 ∨ th tb n s.2.2.2 = 2062)) : pCmp tb n s = rE s.2.2.2 := (if_neg (fun z => z h)).trans (if_pos h2)
theorem pCmp_3 {tb : Int → Int} {n : Int} {s : RS} (h : s.1 = -1) (h2 : th tb n s.2.2.2 = 2060 ∨ th tb n s.2.2.2 = 2062) (h3 : (pSum tb n (nx tb n s.2.2.2)).1 ≠ -1) : pCmp tb n s = rE (pSum tb n (nx tb n s.2.2.2)).1 := (if_neg (fun z => z h)).trans ((if_neg (fun z => z h2)).trans (if_pos h3))
theorem pCmp_4 {tb : Int → Int} {n : Int} {s : RS} (h : s.1 = -1) (h2 : th tb n s.2.2.2 = 2060 ∨ th tb n s.2.2.2 = 2062) (h3 : (pSum tb n (nx tb n s.2.2.2)).1 = -1) : pCmp tb n s = (-1, s.2.1 ++ (pSum tb n (nx tb n s.2.2.2)).2.1 ++ [if th tb n s.2.2.2 = 2060 then 2002 else 2003], (fun F => if th tb n s.2.2.2 = 2060 then (if s.2.2.1 F < (pSum tb n (nx tb n s.2.2.2)).2.2.1 F then 1 else 0) else (if (pSum tb n (nx tb n s.2.2.2)).2.2.1 F < s.2.2.1 F then 1 else 0)), (pSum tb n (nx tb n s.2.2.2)).2.2.2) := (if_neg (fun z => z h)).trans ((if_neg (fun z => z h2)).trans (if_neg (fun z => z h3)))
theorem s_3_readAll {d : Nat} {P : Option qV → qH → Prop} {X : Nat → qH → Prop} {I : qI} {H : qS} {D m : Nat} {tb : Int → Int} {A : Int → RS} {n dep p : Int} {c : List Int} (hd : D + 1 ≤ d) (hA : KC D 45 dep 0 tb n A) (hG : ∀ p, 0 ≤ p → p ≤ n → GD n true m p (A p)) (hS : Shp H) (hK : TOK I 72 tb n) (hat : ATP I 72 p) (hco : COD I c) (hcl : (c.length : Int) ≤ 2 * p) (hn4 : n ≤ 400) (hD : 3 ≤ D) (h : ((pLo tb n 1014 2004 opA A 400 (A p)).1 ≠ -1 → ∀ J : qI, ATP J 72 (pLo tb n 1014 2004 opA A 400 (A p)).1 → FRL I J → P (some (vi 0)) (J, H)) ∧ ((pLo tb n 1014 2004 opA A 400 (A p)).1 = -1 → ∀ J : qI, ATP J 72 (pLo tb n 1014 2004 opA A 400 (A p)).2.2.2 → COD J (c ++ (pLo tb n 1014 2004 opA A 400 (A p)).2.1) → FRL I J → P (some (vi 1)) (J, H))) :
    Call d 44 [vr (some 72) 3, vi dep] (I, H) P X := by
  obtain ⟨d, rfl⟩ : ∃ e, d = e + 1 := ⟨d - 1, by omega⟩
  have hu := FRL.rf I
  have hpb := (hK.at hat).2
  show WP (Call d) 44 P X (0, [some (vr (some 72) 3), some (vi dep), none], [], (I, H), 0, 0)
  refine WP.go 3 (And.intro (And.intro (Nat.le_of_ble_eq_true rfl) (Nat.le_of_ble_eq_true rfl)) (And.intro rfl (?_)))
  show Call d 45 [vr (some 72) 3, vi dep] (I, H) _ _
  refine hA (by omega) hS hK hat hco (by (try simp only [List.length_append, List.length_cons, List.length_nil]); omega) ⟨(fun q2 J2 e2 f2 => ?_), (fun q2_1 J2_1 e2_1 f2_1 g2 => ?_)⟩
  ·
    show WP (Call d) 44 P X (3, [some (vr (some 72) 3), some (vi dep), none], [vi 0], (J2, H), 0, 0)
    have hat_1 : ATP J2 72 (A p).1 := e2
    have hK_2 : TOK J2 72 tb n := f2.tk hK
    have hu_3 : FRL I J2 := hu.tr f2
    refine WP.go 1 (And.intro (fun (b3 : ¬ 0 = 0) => (absurd b3 (by omega))) (fun (b3 : 0 = 0) => ?_))
    show WP (Call d) 44 P X (4, [some (vr (some 72) 3), some (vi dep), none], [], (J2, H), 0, 0)
    refine WP.go 2 (And.intro (And.intro (Nat.le_of_ble_eq_true rfl) (Nat.le_of_ble_eq_true rfl)) (And.intro (Or.inl rfl) (?_)))
    show P (some (vi 0)) (J2, H)
    have r8 : (pLo tb n 1014 2004 opA A 400 (A p)) = A p := pLo_e 400 q2
    exact h.1 (by rw [r8]; exact q2) _ (by rw [r8]; exact hat_1) hu_3
  ·
    show WP (Call d) 44 P X (3, [some (vr (some 72) 3), some (vi dep), none], [vi 1], (J2_1, H), 0, 0)
    have gp9 := (hK.at hat).2
    have hK_4 : TOK J2_1 72 tb n := g2.tk hK
    have hat_5 : ATP J2_1 72 (A p).2.2.2 := e2_1
    have hco_6 : COD J2_1 (c ++ (A p).2.1) := f2_1
    have hu_7 : FRL I J2_1 := hu.tr g2
    have gd9 := hG p (by omega) (by omega) q2_1
    have ga9 := gd9.1
    have gb9 := gd9.2.1
    have gc9 := gd9.2.2.1
    refine WP.go 1 (And.intro (fun (b3 : ¬ 1 = 0) => ?_) (fun (b3 : 1 = 0) => (absurd b3 (by omega))))
    show WP (Call d) 44 P X (6, [some (vr (some 72) 3), some (vi dep), none], [], (J2_1, H), 0, 0)
    refine WP.go 2 ?_
    show WP (Call d) 44 P X (8, [some (vr (some 72) 3), some (vi dep), some (vi 0)], [], (J2_1, H), 0, 0)
    have lp8 : ∀ (n9 : Nat) (K : qI) (i : Int) (r9 : RS) (hm : 400 - i < (n9 : Int)) (kv0 : 0 ≤ i ∧ i ≤ 400 ∧ i ≤ r9.2.2.2) (kv1 : TOK K 72 tb n) (kv2 : ATP K 72 r9.2.2.2) (kv3 : COD K (c ++ r9.2.1)) (kv4 : FRL I K) (kv5 : (pLo tb n 1014 2004 opA A 400 (A p)) = pLo tb n 1014 2004 opA A (400 - i).toNat r9) (kv6 : r9.1 = -1) (kv7 : (r9.2.1.length : Int) + c.length ≤ 2 * r9.2.2.2), WP (Call d) 44 P X (8, [some (vr (some 72) 3), some (vi dep), some (vi i)], [], (K, H), 0, 0) := by
      intro n9
      induction n9 with
      | zero => intro K i r9 hm kv0 kv1 kv2 kv3 kv4 kv5 kv6 kv7; exact absurd hm (by omega)
      | succ n9 ih8 =>
        intro K i r9 hm kv0 kv1 kv2 kv3 kv4 kv5 kv6 kv7
        have qb9 := (kv1.at kv2).2
        refine WP.go 3 (And.intro (fun (b10 : ¬ i < 400) => ?_) (fun (b10 : i < 400) => ?_))
        ·
          show WP (Call d) 44 P X (26, [some (vr (some 72) 3), some (vi dep), some (vi i)], [], (K, H), 0, 0)
          refine WP.go 2 (And.intro (And.intro (Nat.le_of_ble_eq_true rfl) (Nat.le_of_ble_eq_true rfl)) (And.intro (Or.inr rfl) (?_)))
          show P (some (vi 1)) (K, H)
          have r8 : (pLo tb n 1014 2004 opA A 400 (A p)) = r9 := kv5.trans (pLo_n _ kv6 (by rw [show r9.2.2.2 = n by omega, th_e]; decide))
          exact h.2 (by rw [r8]; exact kv6) _ (by rw [r8]; exact kv2) (by rw [r8]; exact kv3) kv4
        ·
          show WP (Call d) 44 P X (11, [some (vr (some 72) 3), some (vi dep), some (vi i)], [], (K, H), 0, 0)
          refine WP.go 3 (And.intro (And.intro (Nat.le_of_ble_eq_true rfl) (Nat.le_of_ble_eq_true rfl)) (And.intro rfl (?_)))
          show Call d 81 [vr (some 72) 3, vi 1014] (K, H) _ _
          refine s_skip_T72 (by omega) hS kv1 kv2 (by omega) ⟨(fun q13 J13 e13 f13 g13 => ?_), (fun q13_1 => ?_)⟩
          ·
            show WP (Call d) 44 P X (14, [some (vr (some 72) 3), some (vi dep), some (vi i)], [vi 1], (J13, H), 0, 0)
            have nb9 := nx_bd (tb := tb) (n := n) (p := r9.2.2.2) (kv1.at kv2).2.1 (th_lt (tb := tb) (kv1.at kv2).2.2 (by have w9 := q13; omega))
            have hK_8 : TOK J13 72 tb n := kv1.fr (e13 2 (by omega)) (f13 73 (by omega)) (f13 74 (by omega))
            have hat_9 : ATP J13 72 (nx tb n r9.2.2.2) := g13
            have pb9 := (hK_8.at hat_9).2
            have hco_10 : COD J13 (c ++ r9.2.1) := kv3.fr (e13 5 (by omega)) (f13 75 (by omega))
            have hu_11 : FRL I J13 := kv4.tr ⟨fun s9 a9 _ => e13 s9 a9, fun a9 q9 _ => f13 a9 q9⟩
            refine WP.go 1 (And.intro (fun (b14 : 1 = 0) => (absurd b14 (by omega))) (fun (b14 : ¬ 1 = 0) => ?_))
            show WP (Call d) 44 P X (15, [some (vr (some 72) 3), some (vi dep), some (vi i)], [], (J13, H), 0, 0)
            refine WP.go 3 (And.intro (And.intro (Nat.le_of_ble_eq_true rfl) (Nat.le_of_ble_eq_true rfl)) (And.intro rfl (?_)))
            show Call d 45 [vr (some 72) 3, vi dep] (J13, H) _ _
            refine hA (by omega) hS hK_8 hat_9 hco_10 (by (try simp only [List.length_append, List.length_cons, List.length_nil]); omega) ⟨(fun q17 J17 e17 f17 => ?_), (fun q17_1 J17_1 e17_1 f17_1 g17 => ?_)⟩
            ·
              show WP (Call d) 44 P X (18, [some (vr (some 72) 3), some (vi dep), some (vi i)], [vi 0], (J17, H), 0, 0)
              have hat_12 : ATP J17 72 (A (nx tb n r9.2.2.2)).1 := e17
              have hK_13 : TOK J17 72 tb n := f17.tk hK_8
              have hu_14 : FRL I J17 := hu_11.tr f17
              refine WP.go 1 (And.intro (fun (b18 : ¬ 0 = 0) => (absurd b18 (by omega))) (fun (b18 : 0 = 0) => ?_))
              show WP (Call d) 44 P X (19, [some (vr (some 72) 3), some (vi dep), some (vi i)], [], (J17, H), 0, 0)
              refine WP.go 2 (And.intro (And.intro (Nat.le_of_ble_eq_true rfl) (Nat.le_of_ble_eq_true rfl)) (And.intro (Or.inl rfl) (?_)))
              show P (some (vi 0)) (J17, H)
              have r8 := kv5.trans (pLo_x (by omega) kv6 q13 q17)
              exact h.1 (by rw [r8]; exact q17) _ (by rw [r8]; exact hat_12) hu_14
            ·
              show WP (Call d) 44 P X (18, [some (vr (some 72) 3), some (vi dep), some (vi i)], [vi 1], (J17_1, H), 0, 0)
              have gp9 := (hK_8.at hat_9).2
              have hK_15 : TOK J17_1 72 tb n := g17.tk hK_8
              have hat_16 : ATP J17_1 72 (A (nx tb n r9.2.2.2)).2.2.2 := e17_1
              have hco_17 : COD J17_1 ((c ++ r9.2.1) ++ (A (nx tb n r9.2.2.2)).2.1) := f17_1
              have hu_18 : FRL I J17_1 := hu_11.tr g17
              have gd9 := hG (nx tb n r9.2.2.2) (by omega) (by omega) q17_1
              have ga9 := gd9.1
              have gb9 := gd9.2.1
              have gc9 := gd9.2.2.1
              refine WP.go 1 (And.intro (fun (b18 : ¬ 1 = 0) => ?_) (fun (b18 : 1 = 0) => (absurd b18 (by omega))))
              show WP (Call d) 44 P X (21, [some (vr (some 72) 3), some (vi dep), some (vi i)], [], (J17_1, H), 0, 0)
              refine WP.go 3 (And.intro (And.intro (Nat.le_of_ble_eq_true rfl) (Nat.le_of_ble_eq_true rfl)) (And.intro rfl (?_)))
              show Call d 40 [vr (some 72) 3, vi 2004] (J17_1, H) _ _
              refine s_3_put (by omega) hS hco_17 (by (try simp only [List.length_append, List.length_cons, List.length_nil]); omega) (fun J23 e23 f23 g23 => ?_)
              show WP (Call d) 44 P X (24, [some (vr (some 72) 3), some (vi dep), some (vi i)], [], (J23, H), 0, 0)
              have hK_19 : TOK J23 72 tb n := hK_15.fr (f23 2 (by omega)) (g23 73 (by omega) (by omega)) (g23 74 (by omega) (by omega))
              have hat_20 : ATP J23 72 ((A (nx tb n r9.2.2.2)).2.2.2) := FRL.p5 f23 g23 hat_16
              have hco_21 : COD J23 (((c ++ r9.2.1) ++ (A (nx tb n r9.2.2.2)).2.1) ++ [2004]) := e23
              have hu_22 : FRL I J23 := hu_18.tr ⟨fun s9 _ b9 => f23 s9 b9, g23⟩
              refine WP.go 2 (Exists.intro (i + 1) (And.intro (wrp_a (by omega) (by omega)) (?_)))
              show WP (Call d) 44 P X (8, [some (vr (some 72) 3), some (vi dep), some (vi (i + 1))], [], (J23, H), 0, 0)
              exact ih8 J23 (i + 1) (-1, r9.2.1 ++ (A (nx tb n r9.2.2.2)).2.1 ++ [2004], (fun F => opA (r9.2.2.1 F) ((A (nx tb n r9.2.2.2)).2.2.1 F)), (A (nx tb n r9.2.2.2)).2.2.2) (by omega) (by show 0 ≤ i + 1 ∧ i + 1 ≤ 400 ∧ i + 1 ≤ (A (nx tb n r9.2.2.2)).2.2.2; omega) hK_19 hat_20 (by simpa only [List.append_assoc] using hco_21) hu_22 (kv5.trans (pLo_y (by omega) kv6 q13 q17_1)) rfl (by simp only [List.length_append, List.length_cons, List.length_nil]; omega)
          ·
            show WP (Call d) 44 P X (14, [some (vr (some 72) 3), some (vi dep), some (vi i)], [vi 0], (K, H), 0, 0)
            refine WP.go 1 (And.intro (fun (b14 : 0 = 0) => ?_) (fun (b14 : ¬ 0 = 0) => (absurd b14 (by omega))))
            show WP (Call d) 44 P X (26, [some (vr (some 72) 3), some (vi dep), some (vi i)], [], (K, H), 0, 0)
            refine WP.go 2 (And.intro (And.intro (Nat.le_of_ble_eq_true rfl) (Nat.le_of_ble_eq_true rfl)) (And.intro (Or.inr rfl) (?_)))
            show P (some (vi 1)) (K, H)
            have r8 : (pLo tb n 1014 2004 opA A 400 (A p)) = r9 := kv5.trans (pLo_n _ kv6 (q13_1))
            exact h.2 (by rw [r8]; exact kv6) _ (by rw [r8]; exact kv2) (by rw [r8]; exact kv3) kv4
    exact lp8 ((400 - 0 : Int).toNat + 1) J2_1 0 (A p) (by omega) (by omega) hK_4 hat_5 hco_6 hu_7 rfl q2_1 (by omega)

theorem s_3_readAny {d : Nat} {P : Option qV → qH → Prop} {X : Nat → qH → Prop} {I : qI} {H : qS} {D m : Nat} {tb : Int → Int} {A : Int → RS} {n dep p : Int} {c : List Int} (hd : D + 1 ≤ d) (hA : KC D 44 dep 0 tb n A) (hG : ∀ p, 0 ≤ p → p ≤ n → GD n true m p (A p)) (hS : Shp H) (hK : TOK I 72 tb n) (hat : ATP I 72 p) (hco : COD I c) (hcl : (c.length : Int) ≤ 2 * p) (hn4 : n ≤ 400) (hD : 3 ≤ D) (h : ((pLo tb n 1013 2005 opO A 400 (A p)).1 ≠ -1 → ∀ J : qI, ATP J 72 (pLo tb n 1013 2005 opO A 400 (A p)).1 → FRL I J → P (some (vi 0)) (J, H)) ∧ ((pLo tb n 1013 2005 opO A 400 (A p)).1 = -1 → ∀ J : qI, ATP J 72 (pLo tb n 1013 2005 opO A 400 (A p)).2.2.2 → COD J (c ++ (pLo tb n 1013 2005 opO A 400 (A p)).2.1) → FRL I J → P (some (vi 1)) (J, H))) :
    Call d 43 [vr (some 72) 3, vi dep] (I, H) P X := by
  obtain ⟨d, rfl⟩ : ∃ e, d = e + 1 := ⟨d - 1, by omega⟩
  have hu := FRL.rf I
  have hpb := (hK.at hat).2
  show WP (Call d) 43 P X (0, [some (vr (some 72) 3), some (vi dep), none], [], (I, H), 0, 0)
  refine WP.go 3 (And.intro (And.intro (Nat.le_of_ble_eq_true rfl) (Nat.le_of_ble_eq_true rfl)) (And.intro rfl (?_)))
  show Call d 44 [vr (some 72) 3, vi dep] (I, H) _ _
  refine hA (by omega) hS hK hat hco (by (try simp only [List.length_append, List.length_cons, List.length_nil]); omega) ⟨(fun q2 J2 e2 f2 => ?_), (fun q2_1 J2_1 e2_1 f2_1 g2 => ?_)⟩
  ·
    show WP (Call d) 43 P X (3, [some (vr (some 72) 3), some (vi dep), none], [vi 0], (J2, H), 0, 0)
    have hat_1 : ATP J2 72 (A p).1 := e2
    have hK_2 : TOK J2 72 tb n := f2.tk hK
    have hu_3 : FRL I J2 := hu.tr f2
    refine WP.go 1 (And.intro (fun (b3 : ¬ 0 = 0) => (absurd b3 (by omega))) (fun (b3 : 0 = 0) => ?_))
    show WP (Call d) 43 P X (4, [some (vr (some 72) 3), some (vi dep), none], [], (J2, H), 0, 0)
    refine WP.go 2 (And.intro (And.intro (Nat.le_of_ble_eq_true rfl) (Nat.le_of_ble_eq_true rfl)) (And.intro (Or.inl rfl) (?_)))
    show P (some (vi 0)) (J2, H)
    have r8 : (pLo tb n 1013 2005 opO A 400 (A p)) = A p := pLo_e 400 q2
    exact h.1 (by rw [r8]; exact q2) _ (by rw [r8]; exact hat_1) hu_3
  ·
    show WP (Call d) 43 P X (3, [some (vr (some 72) 3), some (vi dep), none], [vi 1], (J2_1, H), 0, 0)
    have gp9 := (hK.at hat).2
    have hK_4 : TOK J2_1 72 tb n := g2.tk hK
    have hat_5 : ATP J2_1 72 (A p).2.2.2 := e2_1
    have hco_6 : COD J2_1 (c ++ (A p).2.1) := f2_1
    have hu_7 : FRL I J2_1 := hu.tr g2
    have gd9 := hG p (by omega) (by omega) q2_1
    have ga9 := gd9.1
    have gb9 := gd9.2.1
    have gc9 := gd9.2.2.1
    refine WP.go 1 (And.intro (fun (b3 : ¬ 1 = 0) => ?_) (fun (b3 : 1 = 0) => (absurd b3 (by omega))))
    show WP (Call d) 43 P X (6, [some (vr (some 72) 3), some (vi dep), none], [], (J2_1, H), 0, 0)
    refine WP.go 2 ?_
    show WP (Call d) 43 P X (8, [some (vr (some 72) 3), some (vi dep), some (vi 0)], [], (J2_1, H), 0, 0)
    have lp8 : ∀ (n9 : Nat) (K : qI) (i : Int) (r9 : RS) (hm : 400 - i < (n9 : Int)) (kv0 : 0 ≤ i ∧ i ≤ 400 ∧ i ≤ r9.2.2.2) (kv1 : TOK K 72 tb n) (kv2 : ATP K 72 r9.2.2.2) (kv3 : COD K (c ++ r9.2.1)) (kv4 : FRL I K) (kv5 : (pLo tb n 1013 2005 opO A 400 (A p)) = pLo tb n 1013 2005 opO A (400 - i).toNat r9) (kv6 : r9.1 = -1) (kv7 : (r9.2.1.length : Int) + c.length ≤ 2 * r9.2.2.2), WP (Call d) 43 P X (8, [some (vr (some 72) 3), some (vi dep), some (vi i)], [], (K, H), 0, 0) := by
      intro n9
      induction n9 with
      | zero => intro K i r9 hm kv0 kv1 kv2 kv3 kv4 kv5 kv6 kv7; exact absurd hm (by omega)
      | succ n9 ih8 =>
        intro K i r9 hm kv0 kv1 kv2 kv3 kv4 kv5 kv6 kv7
        have qb9 := (kv1.at kv2).2
        refine WP.go 3 (And.intro (fun (b10 : ¬ i < 400) => ?_) (fun (b10 : i < 400) => ?_))
        ·
          show WP (Call d) 43 P X (26, [some (vr (some 72) 3), some (vi dep), some (vi i)], [], (K, H), 0, 0)
          refine WP.go 2 (And.intro (And.intro (Nat.le_of_ble_eq_true rfl) (Nat.le_of_ble_eq_true rfl)) (And.intro (Or.inr rfl) (?_)))
          show P (some (vi 1)) (K, H)
          have r8 : (pLo tb n 1013 2005 opO A 400 (A p)) = r9 := kv5.trans (pLo_n _ kv6 (by rw [show r9.2.2.2 = n by omega, th_e]; decide))
          exact h.2 (by rw [r8]; exact kv6) _ (by rw [r8]; exact kv2) (by rw [r8]; exact kv3) kv4
        ·
          show WP (Call d) 43 P X (11, [some (vr (some 72) 3), some (vi dep), some (vi i)], [], (K, H), 0, 0)
          refine WP.go 3 (And.intro (And.intro (Nat.le_of_ble_eq_true rfl) (Nat.le_of_ble_eq_true rfl)) (And.intro rfl (?_)))
          show Call d 81 [vr (some 72) 3, vi 1013] (K, H) _ _
          refine s_skip_T72 (by omega) hS kv1 kv2 (by omega) ⟨(fun q13 J13 e13 f13 g13 => ?_), (fun q13_1 => ?_)⟩
          ·
            show WP (Call d) 43 P X (14, [some (vr (some 72) 3), some (vi dep), some (vi i)], [vi 1], (J13, H), 0, 0)
            have nb9 := nx_bd (tb := tb) (n := n) (p := r9.2.2.2) (kv1.at kv2).2.1 (th_lt (tb := tb) (kv1.at kv2).2.2 (by have w9 := q13; omega))
            have hK_8 : TOK J13 72 tb n := kv1.fr (e13 2 (by omega)) (f13 73 (by omega)) (f13 74 (by omega))
            have hat_9 : ATP J13 72 (nx tb n r9.2.2.2) := g13
            have pb9 := (hK_8.at hat_9).2
            have hco_10 : COD J13 (c ++ r9.2.1) := kv3.fr (e13 5 (by omega)) (f13 75 (by omega))
            have hu_11 : FRL I J13 := kv4.tr ⟨fun s9 a9 _ => e13 s9 a9, fun a9 q9 _ => f13 a9 q9⟩
            refine WP.go 1 (And.intro (fun (b14 : 1 = 0) => (absurd b14 (by omega))) (fun (b14 : ¬ 1 = 0) => ?_))
            show WP (Call d) 43 P X (15, [some (vr (some 72) 3), some (vi dep), some (vi i)], [], (J13, H), 0, 0)
            refine WP.go 3 (And.intro (And.intro (Nat.le_of_ble_eq_true rfl) (Nat.le_of_ble_eq_true rfl)) (And.intro rfl (?_)))
            show Call d 44 [vr (some 72) 3, vi dep] (J13, H) _ _
            refine hA (by omega) hS hK_8 hat_9 hco_10 (by (try simp only [List.length_append, List.length_cons, List.length_nil]); omega) ⟨(fun q17 J17 e17 f17 => ?_), (fun q17_1 J17_1 e17_1 f17_1 g17 => ?_)⟩
            ·
              show WP (Call d) 43 P X (18, [some (vr (some 72) 3), some (vi dep), some (vi i)], [vi 0], (J17, H), 0, 0)
              have hat_12 : ATP J17 72 (A (nx tb n r9.2.2.2)).1 := e17
              have hK_13 : TOK J17 72 tb n := f17.tk hK_8
              have hu_14 : FRL I J17 := hu_11.tr f17
              refine WP.go 1 (And.intro (fun (b18 : ¬ 0 = 0) => (absurd b18 (by omega))) (fun (b18 : 0 = 0) => ?_))
              show WP (Call d) 43 P X (19, [some (vr (some 72) 3), some (vi dep), some (vi i)], [], (J17, H), 0, 0)
              refine WP.go 2 (And.intro (And.intro (Nat.le_of_ble_eq_true rfl) (Nat.le_of_ble_eq_true rfl)) (And.intro (Or.inl rfl) (?_)))
              show P (some (vi 0)) (J17, H)
              have r8 := kv5.trans (pLo_x (by omega) kv6 q13 q17)
              exact h.1 (by rw [r8]; exact q17) _ (by rw [r8]; exact hat_12) hu_14
            ·
              show WP (Call d) 43 P X (18, [some (vr (some 72) 3), some (vi dep), some (vi i)], [vi 1], (J17_1, H), 0, 0)
              have gp9 := (hK_8.at hat_9).2
              have hK_15 : TOK J17_1 72 tb n := g17.tk hK_8
              have hat_16 : ATP J17_1 72 (A (nx tb n r9.2.2.2)).2.2.2 := e17_1
              have hco_17 : COD J17_1 ((c ++ r9.2.1) ++ (A (nx tb n r9.2.2.2)).2.1) := f17_1
              have hu_18 : FRL I J17_1 := hu_11.tr g17
              have gd9 := hG (nx tb n r9.2.2.2) (by omega) (by omega) q17_1
              have ga9 := gd9.1
              have gb9 := gd9.2.1
              have gc9 := gd9.2.2.1
              refine WP.go 1 (And.intro (fun (b18 : ¬ 1 = 0) => ?_) (fun (b18 : 1 = 0) => (absurd b18 (by omega))))
              show WP (Call d) 43 P X (21, [some (vr (some 72) 3), some (vi dep), some (vi i)], [], (J17_1, H), 0, 0)
              refine WP.go 3 (And.intro (And.intro (Nat.le_of_ble_eq_true rfl) (Nat.le_of_ble_eq_true rfl)) (And.intro rfl (?_)))
              show Call d 40 [vr (some 72) 3, vi 2005] (J17_1, H) _ _
              refine s_3_put (by omega) hS hco_17 (by (try simp only [List.length_append, List.length_cons, List.length_nil]); omega) (fun J23 e23 f23 g23 => ?_)
              show WP (Call d) 43 P X (24, [some (vr (some 72) 3), some (vi dep), some (vi i)], [], (J23, H), 0, 0)
              have hK_19 : TOK J23 72 tb n := hK_15.fr (f23 2 (by omega)) (g23 73 (by omega) (by omega)) (g23 74 (by omega) (by omega))
              have hat_20 : ATP J23 72 ((A (nx tb n r9.2.2.2)).2.2.2) := FRL.p5 f23 g23 hat_16
              have hco_21 : COD J23 (((c ++ r9.2.1) ++ (A (nx tb n r9.2.2.2)).2.1) ++ [2005]) := e23
              have hu_22 : FRL I J23 := hu_18.tr ⟨fun s9 _ b9 => f23 s9 b9, g23⟩
              refine WP.go 2 (Exists.intro (i + 1) (And.intro (wrp_a (by omega) (by omega)) (?_)))
              show WP (Call d) 43 P X (8, [some (vr (some 72) 3), some (vi dep), some (vi (i + 1))], [], (J23, H), 0, 0)
              exact ih8 J23 (i + 1) (-1, r9.2.1 ++ (A (nx tb n r9.2.2.2)).2.1 ++ [2005], (fun F => opO (r9.2.2.1 F) ((A (nx tb n r9.2.2.2)).2.2.1 F)), (A (nx tb n r9.2.2.2)).2.2.2) (by omega) (by show 0 ≤ i + 1 ∧ i + 1 ≤ 400 ∧ i + 1 ≤ (A (nx tb n r9.2.2.2)).2.2.2; omega) hK_19 hat_20 (by simpa only [List.append_assoc] using hco_21) hu_22 (kv5.trans (pLo_y (by omega) kv6 q13 q17_1)) rfl (by simp only [List.length_append, List.length_cons, List.length_nil]; omega)
          ·
            show WP (Call d) 43 P X (14, [some (vr (some 72) 3), some (vi dep), some (vi i)], [vi 0], (K, H), 0, 0)
            refine WP.go 1 (And.intro (fun (b14 : 0 = 0) => ?_) (fun (b14 : ¬ 0 = 0) => (absurd b14 (by omega))))
            show WP (Call d) 43 P X (26, [some (vr (some 72) 3), some (vi dep), some (vi i)], [], (K, H), 0, 0)
            refine WP.go 2 (And.intro (And.intro (Nat.le_of_ble_eq_true rfl) (Nat.le_of_ble_eq_true rfl)) (And.intro (Or.inr rfl) (?_)))
            show P (some (vi 1)) (K, H)
            have r8 : (pLo tb n 1013 2005 opO A 400 (A p)) = r9 := kv5.trans (pLo_n _ kv6 (q13_1))
            exact h.2 (by rw [r8]; exact kv6) _ (by rw [r8]; exact kv2) (by rw [r8]; exact kv3) kv4
    exact lp8 ((400 - 0 : Int).toNat + 1) J2_1 0 (A p) (by omega) (by omega) hK_4 hat_5 hco_6 hu_7 rfl q2_1 (by omega)

theorem s_3_readNegated {d : Nat} {P : Option qV → qH → Prop} {X : Nat → qH → Prop} {I : qI} {H : qS} {D m : Nat} {tb : Int → Int} {A : Int → RS} {n dep p : Int} {c : List Int} (hd : D + 1 ≤ d) (hA : KC D 45 (dep + 1) 0 tb n A) (hG : ∀ p, 0 ≤ p → p ≤ n → GD n true m p (A p)) (hS : Shp H) (hK : TOK I 72 tb n) (hat : ATP I 72 p) (hco : COD I c) (hcl : (c.length : Int) + 2 ≤ 2 * p) (hn4 : n ≤ 400) (hD : 3 ≤ D) (hdp : 0 ≤ dep ∧ dep ≤ 5) (h : ((pNeg (A p)).1 ≠ -1 → ∀ J : qI, ATP J 72 (pNeg (A p)).1 → FRL I J → P (some (vi 0)) (J, H)) ∧ ((pNeg (A p)).1 = -1 → ∀ J : qI, ATP J 72 (pNeg (A p)).2.2.2 → COD J (c ++ (pNeg (A p)).2.1) → FRL I J → P (some (vi 1)) (J, H))) :
    Call d 46 [vr (some 72) 3, vi dep] (I, H) P X := by
  obtain ⟨d, rfl⟩ : ∃ e, d = e + 1 := ⟨d - 1, by omega⟩
  have hu := FRL.rf I
  have hpb := (hK.at hat).2
  show WP (Call d) 46 P X (0, [some (vr (some 72) 3), some (vi dep)], [], (I, H), 0, 0)
  refine WP.go 5 (Exists.intro (dep + 1) (And.intro (wrp_a (by omega) (by omega)) (And.intro (And.intro (Nat.le_of_ble_eq_true rfl) (Nat.le_of_ble_eq_true rfl)) (And.intro rfl (?_)))))
  show Call d 45 [vr (some 72) 3, vi (dep + 1)] (I, H) _ _
  refine hA (by omega) hS hK hat hco (by (try simp only [List.length_append, List.length_cons, List.length_nil]); omega) ⟨(fun q4 J4 e4 f4 => ?_), (fun q4_1 J4_1 e4_1 f4_1 g4 => ?_)⟩
  ·
    show WP (Call d) 46 P X (5, [some (vr (some 72) 3), some (vi dep)], [vi 0], (J4, H), 0, 0)
    have hat_1 : ATP J4 72 (A p).1 := e4
    have hK_2 : TOK J4 72 tb n := f4.tk hK
    have hu_3 : FRL I J4 := hu.tr f4
    refine WP.go 1 (And.intro (fun (b5 : ¬ 0 = 0) => (absurd b5 (by omega))) (fun (b5 : 0 = 0) => ?_))
    show WP (Call d) 46 P X (6, [some (vr (some 72) 3), some (vi dep)], [], (J4, H), 0, 0)
    refine WP.go 2 (And.intro (And.intro (Nat.le_of_ble_eq_true rfl) (Nat.le_of_ble_eq_true rfl)) (And.intro (Or.inl rfl) (?_)))
    show P (some (vi 0)) (J4, H)
    have r8 : pNeg (A p) = rE (A p).1 := if_pos q4
    exact h.1 (by rw [r8]; exact q4) _ (by rw [r8]; exact hat_1) hu_3
  ·
    show WP (Call d) 46 P X (5, [some (vr (some 72) 3), some (vi dep)], [vi 1], (J4_1, H), 0, 0)
    have gp9 := (hK.at hat).2
    have hK_4 : TOK J4_1 72 tb n := g4.tk hK
    have hat_5 : ATP J4_1 72 (A p).2.2.2 := e4_1
    have hco_6 : COD J4_1 (c ++ (A p).2.1) := f4_1
    have hu_7 : FRL I J4_1 := hu.tr g4
    have gd9 := hG p (by omega) (by omega) q4_1
    have ga9 := gd9.1
    have gb9 := gd9.2.1
    have gc9 := gd9.2.2.1
    refine WP.go 1 (And.intro (fun (b5 : ¬ 1 = 0) => ?_) (fun (b5 : 1 = 0) => (absurd b5 (by omega))))
    show WP (Call d) 46 P X (8, [some (vr (some 72) 3), some (vi dep)], [], (J4_1, H), 0, 0)
    refine WP.go 3 (And.intro (And.intro (Nat.le_of_ble_eq_true rfl) (Nat.le_of_ble_eq_true rfl)) (And.intro rfl (?_)))
    show Call d 40 [vr (some 72) 3, vi 2006] (J4_1, H) _ _
    refine s_3_put (by omega) hS hco_6 (by (try simp only [List.length_append, List.length_cons, List.length_nil]); omega) (fun J10 e10 f10 g10 => ?_)
    show WP (Call d) 46 P X (11, [some (vr (some 72) 3), some (vi dep)], [], (J10, H), 0, 0)
    have hK_8 : TOK J10 72 tb n := hK_4.fr (f10 2 (by omega)) (g10 73 (by omega) (by omega)) (g10 74 (by omega) (by omega))
    have hat_9 : ATP J10 72 ((A p).2.2.2) := FRL.p5 f10 g10 hat_5
    have hco_10 : COD J10 ((c ++ (A p).2.1) ++ [2006]) := e10
    have hu_11 : FRL I J10 := hu_7.tr ⟨fun s9 _ b9 => f10 s9 b9, g10⟩
    refine WP.go 2 (And.intro (And.intro (Nat.le_of_ble_eq_true rfl) (Nat.le_of_ble_eq_true rfl)) (And.intro (Or.inr rfl) (?_)))
    show P (some (vi 1)) (J10, H)
    have r8 : pNeg (A p) = (-1, (A p).2.1 ++ [2006], (fun F => if (A p).2.2.1 F = 0 then 1 else 0), (A p).2.2.2) := if_neg (fun z => z q4_1)
    exact h.2 (by rw [r8]) _ (by rw [r8]; exact hat_9) (by rw [r8]; simpa only [List.append_assoc] using hco_10) hu_11

theorem s_3_readBraced {d : Nat} {P : Option qV → qH → Prop} {X : Nat → qH → Prop} {I : qI} {H : qS} {D m : Nat} {tb : Int → Int} {A : Int → RS} {n dep p : Int} {c : List Int} (hd : D + 1 ≤ d) (hA : KC D 43 (dep + 1) 0 tb n A) (hG : ∀ p, 0 ≤ p → p ≤ n → GD n true m p (A p)) (hS : Shp H) (hK : TOK I 72 tb n) (hat : ATP I 72 p) (hco : COD I c) (hcl : (c.length : Int) ≤ 2 * p) (hn4 : n ≤ 400) (hD : 3 ≤ D) (hdp : 0 ≤ dep ∧ dep ≤ 5) (ht : th tb n p = 2040) (h : ((pBrc tb n (A (nx tb n p))).1 ≠ -1 → ∀ J : qI, ATP J 72 (pBrc tb n (A (nx tb n p))).1 → FRL I J → P (some (vi 0)) (J, H)) ∧ ((pBrc tb n (A (nx tb n p))).1 = -1 → ∀ J : qI, ATP J 72 (pBrc tb n (A (nx tb n p))).2.2.2 → COD J (c ++ (pBrc tb n (A (nx tb n p))).2.1) → FRL I J → P (some (vi 1)) (J, H))) :
    Call d 47 [vr (some 72) 3, vi dep] (I, H) P X := by
  obtain ⟨d, rfl⟩ : ∃ e, d = e + 1 := ⟨d - 1, by omega⟩
  have hu := FRL.rf I
  have hpb := (hK.at hat).2
  show WP (Call d) 47 P X (0, [some (vr (some 72) 3), some (vi dep)], [], (I, H), 0, 0)
  refine WP.go 3 (And.intro (And.intro (Nat.le_of_ble_eq_true rfl) (Nat.le_of_ble_eq_true rfl)) (And.intro rfl (?_)))
  show Call d 81 [vr (some 72) 3, vi 2040] (I, H) _ _
  refine s_skip_T72 (by omega) hS hK hat (by omega) ⟨(fun q2 J2 e2 f2 g2 => ?_), (fun q2_1 => ?_)⟩
  ·
    show WP (Call d) 47 P X (3, [some (vr (some 72) 3), some (vi dep)], [vi 1], (J2, H), 0, 0)
    have nb9 := nx_bd (tb := tb) (n := n) (p := p) (hK.at hat).2.1 (th_lt (tb := tb) (hK.at hat).2.2 (by have w9 := q2; omega))
    have hK_1 : TOK J2 72 tb n := hK.fr (e2 2 (by omega)) (f2 73 (by omega)) (f2 74 (by omega))
    have hat_2 : ATP J2 72 (nx tb n p) := g2
    have pb9 := (hK_1.at hat_2).2
    have hco_3 : COD J2 c := hco.fr (e2 5 (by omega)) (f2 75 (by omega))
    have hu_4 : FRL I J2 := hu.tr ⟨fun s9 a9 _ => e2 s9 a9, fun a9 q9 _ => f2 a9 q9⟩
    refine WP.go 1 (And.intro (fun (b3 : 1 = 0) => (absurd b3 (by omega))) (fun (b3 : ¬ 1 = 0) => ?_))
    show WP (Call d) 47 P X (4, [some (vr (some 72) 3), some (vi dep)], [], (J2, H), 0, 0)
    refine WP.go 5 (Exists.intro (dep + 1) (And.intro (wrp_a (by omega) (by omega)) (And.intro (And.intro (Nat.le_of_ble_eq_true rfl) (Nat.le_of_ble_eq_true rfl)) (And.intro rfl (?_)))))
    show Call d 43 [vr (some 72) 3, vi (dep + 1)] (J2, H) _ _
    refine hA (by omega) hS hK_1 hat_2 hco_3 (by (try simp only [List.length_append, List.length_cons, List.length_nil]); omega) ⟨(fun q8 J8 e8 f8 => ?_), (fun q8_1 J8_1 e8_1 f8_1 g8 => ?_)⟩
    ·
      show WP (Call d) 47 P X (9, [some (vr (some 72) 3), some (vi dep)], [vi 0], (J8, H), 0, 0)
      have hat_5 : ATP J8 72 (A (nx tb n p)).1 := e8
      have hK_6 : TOK J8 72 tb n := f8.tk hK_1
      have hu_7 : FRL I J8 := hu_4.tr f8
      refine WP.go 1 (And.intro (fun (b9 : 0 = 0) => ?_) (fun (b9 : ¬ 0 = 0) => (absurd b9 (by omega))))
      show WP (Call d) 47 P X (16, [some (vr (some 72) 3), some (vi dep)], [], (J8, H), 0, 0)
      refine WP.go 2 (And.intro (And.intro (Nat.le_of_ble_eq_true rfl) (Nat.le_of_ble_eq_true rfl)) (And.intro (Or.inl rfl) (?_)))
      show P (some (vi 0)) (J8, H)
      have r8 : pBrc tb n (A (nx tb n p)) = rE (A (nx tb n p)).1 := if_pos q8
      exact h.1 (by rw [r8]; exact q8) _ (by rw [r8]; exact hat_5) hu_7
    ·
      show WP (Call d) 47 P X (9, [some (vr (some 72) 3), some (vi dep)], [vi 1], (J8_1, H), 0, 0)
      have gp9 := (hK_1.at hat_2).2
      have hK_8 : TOK J8_1 72 tb n := g8.tk hK_1
      have hat_9 : ATP J8_1 72 (A (nx tb n p)).2.2.2 := e8_1
      have hco_10 : COD J8_1 (c ++ (A (nx tb n p)).2.1) := f8_1
      have hu_11 : FRL I J8_1 := hu_4.tr g8
      have gd9 := hG (nx tb n p) (by omega) (by omega) q8_1
      have ga9 := gd9.1
      have gb9 := gd9.2.1
      have gc9 := gd9.2.2.1
      refine WP.go 1 (And.intro (fun (b9 : 1 = 0) => (absurd b9 (by omega))) (fun (b9 : ¬ 1 = 0) => ?_))
      show WP (Call d) 47 P X (10, [some (vr (some 72) 3), some (vi dep)], [], (J8_1, H), 0, 0)
      refine WP.go 3 (And.intro (And.intro (Nat.le_of_ble_eq_true rfl) (Nat.le_of_ble_eq_true rfl)) (And.intro rfl (?_)))
      show Call d 81 [vr (some 72) 3, vi 2041] (J8_1, H) _ _
      refine s_skip_T72 (by omega) hS hK_8 hat_9 (by omega) ⟨(fun q12 J12 e12 f12 g12 => ?_), (fun q12_1 => ?_)⟩
      ·
        show WP (Call d) 47 P X (13, [some (vr (some 72) 3), some (vi dep)], [vi 1], (J12, H), 0, 0)
        have nb9 := nx_bd (tb := tb) (n := n) (p := ((A (nx tb n p)).2.2.2)) (hK_8.at hat_9).2.1 (th_lt (tb := tb) (hK_8.at hat_9).2.2 (by have w9 := q12; omega))
        have hK_12 : TOK J12 72 tb n := hK_8.fr (e12 2 (by omega)) (f12 73 (by omega)) (f12 74 (by omega))
        have hat_13 : ATP J12 72 (nx tb n ((A (nx tb n p)).2.2.2)) := g12
        have pb9 := (hK_12.at hat_13).2
        have hco_14 : COD J12 (c ++ (A (nx tb n p)).2.1) := hco_10.fr (e12 5 (by omega)) (f12 75 (by omega))
        have hu_15 : FRL I J12 := hu_11.tr ⟨fun s9 a9 _ => e12 s9 a9, fun a9 q9 _ => f12 a9 q9⟩
        refine WP.go 1 (And.intro (fun (b13 : 1 = 0) => (absurd b13 (by omega))) (fun (b13 : ¬ 1 = 0) => ?_))
        show WP (Call d) 47 P X (14, [some (vr (some 72) 3), some (vi dep)], [], (J12, H), 0, 0)
        refine WP.go 3 (And.intro (And.intro (Nat.le_of_ble_eq_true rfl) (Nat.le_of_ble_eq_true rfl)) (And.intro (Or.inr rfl) (?_)))
        show P (some (vi 1)) (J12, H)
        have r8 : pBrc tb n (A (nx tb n p)) = (-1, (A (nx tb n p)).2.1, (A (nx tb n p)).2.2.1, nx tb n (A (nx tb n p)).2.2.2) := (if_neg (fun z => z q8_1)).trans (if_pos q12)
        exact h.2 (by rw [r8]) _ (by rw [r8]; exact hat_13) (by rw [r8]; exact hco_14) hu_15
      ·
        show WP (Call d) 47 P X (13, [some (vr (some 72) 3), some (vi dep)], [vi 0], (J8_1, H), 0, 0)
        refine WP.go 1 (And.intro (fun (b13 : 0 = 0) => ?_) (fun (b13 : ¬ 0 = 0) => (absurd b13 (by omega))))
        show WP (Call d) 47 P X (16, [some (vr (some 72) 3), some (vi dep)], [], (J8_1, H), 0, 0)
        refine WP.go 2 (And.intro (And.intro (Nat.le_of_ble_eq_true rfl) (Nat.le_of_ble_eq_true rfl)) (And.intro (Or.inl rfl) (?_)))
        show P (some (vi 0)) (J8_1, H)
        have r8 : pBrc tb n (A (nx tb n p)) = rE (A (nx tb n p)).2.2.2 := (if_neg (fun z => z q8_1)).trans (if_neg q12_1)
        exact h.1 (by rw [r8]; show (A (nx tb n p)).2.2.2 ≠ -1; omega) _ (by rw [r8]; exact hat_9) hu_11
  ·
    show WP (Call d) 47 P X (3, [some (vr (some 72) 3), some (vi dep)], [vi 0], (I, H), 0, 0)
    refine WP.go 1 (And.intro (fun (b3 : 0 = 0) => ?_) (fun (b3 : ¬ 0 = 0) => (absurd b3 (by omega))))
    show WP (Call d) 47 P X (16, [some (vr (some 72) 3), some (vi dep)], [], (I, H), 0, 0)
    refine WP.go 2 (And.intro (And.intro (Nat.le_of_ble_eq_true rfl) (Nat.le_of_ble_eq_true rfl)) (And.intro (Or.inl rfl) (?_)))
    show P (some (vi 0)) (I, H)
    exact absurd ht q2_1

theorem s_3_readAtom_z {d : Nat} {P : Option qV → qH → Prop} {X : Nat → qH → Prop} {I : qI} {H : qS} {D m k : Nat} {tb : Int → Int} {A B9 : Int → RS} {n dep p : Int} {c : List Int} (hd : D ≤ d) (hdep : dep = 6) (hS : Shp H) (hK : TOK I 72 tb n) (hat : ATP I 72 p) (hco : COD I c) (hcl : (c.length : Int) ≤ 2 * p) (hn4 : n ≤ 400) (hD : 3 ≤ D) (h : ((if th tb n p = 1015 ∨ th tb n p = 2040 then rE p else pPlain tb n p).1 ≠ -1 → ∀ J : qI, ATP J 72 (if th tb n p = 1015 ∨ th tb n p = 2040 then rE p else pPlain tb n p).1 → FRL I J → P (some (vi 0)) (J, H)) ∧ ((if th tb n p = 1015 ∨ th tb n p = 2040 then rE p else pPlain tb n p).1 = -1 → ∀ J : qI, ATP J 72 (if th tb n p = 1015 ∨ th tb n p = 2040 then rE p else pPlain tb n p).2.2.2 → COD J (c ++ (if th tb n p = 1015 ∨ th tb n p = 2040 then rE p else pPlain tb n p).2.1) → FRL I J → P (some (vi 1)) (J, H))) :
    Call d 45 [vr (some 72) 3, vi dep] (I, H) P X := by
  obtain ⟨d, rfl⟩ : ∃ e, d = e + 1 := ⟨d - 1, by omega⟩
  have hu := FRL.rf I
  have hpb := (hK.at hat).2
  show WP (Call d) 45 P X (0, [some (vr (some 72) 3), some (vi dep), none, none, none], [], (I, H), 0, 0)
  refine WP.go 2 (And.intro (And.intro (Nat.le_of_ble_eq_true rfl) (Nat.le_of_ble_eq_true rfl)) (And.intro rfl (?_)))
  show Call d 79 [vr (some 72) 3] (I, H) _ _
  refine s_7_present_T72 (by omega) hS hK hat ?_
  show WP (Call d) 45 P X (2, [some (vr (some 72) 3), some (vi dep), none, none, none], [vi (th tb n p)], (I, H), 0, 0)
  refine WP.go 4 (And.intro (fun (b5 : th tb n p = 1015) => ?_) (fun (b5 : ¬ th tb n p = 1015) => ?_))
  ·
    show WP (Call d) 45 P X (9, [some (vr (some 72) 3), some (vi dep), some (vi (th tb n p)), none, none], [], (I, H), 0, 0)
    refine WP.go 3 (And.intro (fun (b11 : ¬ dep < 6) => ?_) (fun (b11 : dep < 6) => (absurd b11 (by omega))))
    show WP (Call d) 45 P X (27, [some (vr (some 72) 3), some (vi dep), some (vi (th tb n p)), none, none], [], (I, H), 0, 0)
    refine WP.go 2 (And.intro (And.intro (Nat.le_of_ble_eq_true rfl) (Nat.le_of_ble_eq_true rfl)) (And.intro (Or.inl rfl) (?_)))
    show P (some (vi 0)) (I, H)
    have r8 : (if th tb n p = 1015 ∨ th tb n p = 2040 then rE p else pPlain tb n p) = rE p := if_pos (.inl b5)
    exact h.1 (by rw [r8]; show p ≠ -1; omega) _ (by rw [r8]; exact hat) hu
  ·
    show WP (Call d) 45 P X (6, [some (vr (some 72) 3), some (vi dep), some (vi (th tb n p)), none, none], [], (I, H), 0, 0)
    refine WP.go 3 (And.intro (fun (b8 : ¬ th tb n p = 2040) => ?_) (fun (b8 : th tb n p = 2040) => ?_))
    ·
      show WP (Call d) 45 P X (29, [some (vr (some 72) 3), some (vi dep), some (vi (th tb n p)), none, none], [], (I, H), 0, 0)
      have r7 : (if th tb n p = 1015 ∨ th tb n p = 2040 then rE p else pPlain tb n p) = pPlain tb n p := if_neg (fun z => z.elim b5 b8)
      refine WP.go 4 (And.intro (And.intro (Nat.le_of_ble_eq_true rfl) (Nat.le_of_ble_eq_true rfl)) (And.intro rfl (?_)))
      show Call d 82 [vr (some 72) 3, vi 1021, vi 1023] (I, H) _ _
      refine s_7_take_T72 (by omega) hS hK hat (by omega) ⟨(fun q32 J32 e32 f32 g32 => ?_), (fun q32_1 => ?_)⟩
      ·
        show WP (Call d) 45 P X (33, [some (vr (some 72) 3), some (vi dep), some (vi (th tb n p)), none, none], [vi (th tb n p)], (J32, H), 0, 0)
        have nb9 := nx_bd (tb := tb) (n := n) (p := p) (hK.at hat).2.1 (th_lt (tb := tb) (hK.at hat).2.2 (by have w9 := q32; omega))
        have hK_1 : TOK J32 72 tb n := hK.fr (e32 2 (by omega)) (f32 73 (by omega)) (f32 74 (by omega))
        have hat_2 : ATP J32 72 (nx tb n p) := g32
        have pb9 := (hK_1.at hat_2).2
        have hco_3 : COD J32 c := hco.fr (e32 5 (by omega)) (f32 75 (by omega))
        have hu_4 : FRL I J32 := hu.tr ⟨fun s9 a9 _ => e32 s9 a9, fun a9 q9 _ => f32 a9 q9⟩
        refine WP.go 4 (And.intro (fun (b36 : th tb n p = (-1)) => (absurd b36 (by omega))) (fun (b36 : ¬ th tb n p = (-1)) => ?_))
        show WP (Call d) 45 P X (37, [some (vr (some 72) 3), some (vi dep), some (vi (th tb n p)), some (vi (th tb n p)), none], [], (J32, H), 0, 0)
        refine WP.go 7 (Exists.intro (1005 + (th tb n p)) (And.intro (wrp_a (by omega) (by omega)) (Exists.intro ((1005 + (th tb n p)) - 1021) (And.intro (wrp_a (by omega) (by omega)) (And.intro (And.intro (Nat.le_of_ble_eq_true rfl) (Nat.le_of_ble_eq_true rfl)) (And.intro rfl (?_)))))))
        show Call d 40 [vr (some 72) 3, vi ((1005 + (th tb n p)) - 1021)] (J32, H) _ _
        refine s_3_put (by omega) hS hco_3 (by (try simp only [List.length_append, List.length_cons, List.length_nil]); omega) (fun J43 e43 f43 g43 => ?_)
        show WP (Call d) 45 P X (44, [some (vr (some 72) 3), some (vi dep), some (vi (th tb n p)), some (vi (th tb n p)), none], [], (J43, H), 0, 0)
        have hK_5 : TOK J43 72 tb n := hK_1.fr (f43 2 (by omega)) (g43 73 (by omega) (by omega)) (g43 74 (by omega) (by omega))
        have hat_6 : ATP J43 72 (nx tb n p) := FRL.p5 f43 g43 hat_2
        have hco_7 : COD J43 (c ++ [((1005 + (th tb n p)) - 1021)]) := e43
        have hu_8 : FRL I J43 := hu_4.tr ⟨fun s9 _ b9 => f43 s9 b9, g43⟩
        have hco_9 : COD J43 (c ++ [(1005 + (th tb n p - 1021))]) := by rw [show (1005 + (th tb n p - 1021)) = ((1005 + (th tb n p)) - 1021) by omega]; exact hco_7
        refine WP.go 2 (And.intro (And.intro (Nat.le_of_ble_eq_true rfl) (Nat.le_of_ble_eq_true rfl)) (And.intro (Or.inr rfl) (?_)))
        show P (some (vi 1)) (J43, H)
        have r8 := r7.trans (pPlain_1 q32)
        exact h.2 (by rw [r8]) _ (by rw [r8]; exact hat_6) (by rw [r8]; simpa only [List.append_assoc] using hco_9) hu_8
      ·
        show WP (Call d) 45 P X (33, [some (vr (some 72) 3), some (vi dep), some (vi (th tb n p)), none, none], [vi (-1)], (I, H), 0, 0)
        refine WP.go 4 (And.intro (fun (b36 : (-1) = (-1)) => ?_) (fun (b36 : ¬ (-1) = (-1)) => (absurd b36 (by omega))))
        show WP (Call d) 45 P X (46, [some (vr (some 72) 3), some (vi dep), some (vi (th tb n p)), some (vi (-1)), none], [], (I, H), 0, 0)
        refine WP.go 2 (And.intro (And.intro (Nat.le_of_ble_eq_true rfl) (Nat.le_of_ble_eq_true rfl)) (And.intro rfl (?_)))
        show Call d 48 [vr (some 72) 3] (I, H) _ _
        refine s_3_readSum (by omega) hS hK hat hco (by (try simp only [List.length_append, List.length_cons, List.length_nil]); omega) hn4 ⟨(fun q47 J47 e47 f47 => ?_), (fun q47_1 J47_1 e47_1 f47_1 g47 => ?_)⟩
        ·
          show WP (Call d) 45 P X (48, [some (vr (some 72) 3), some (vi dep), some (vi (th tb n p)), some (vi (-1)), none], [vi 0], (J47, H), 0, 0)
          have hat_10 : ATP J47 72 (pSum tb n p).1 := e47
          have hK_11 : TOK J47 72 tb n := f47.tk hK
          have hu_12 : FRL I J47 := hu.tr f47
          refine WP.go 1 (And.intro (fun (b48 : ¬ 0 = 0) => (absurd b48 (by omega))) (fun (b48 : 0 = 0) => ?_))
          show WP (Call d) 45 P X (49, [some (vr (some 72) 3), some (vi dep), some (vi (th tb n p)), some (vi (-1)), none], [], (J47, H), 0, 0)
          refine WP.go 2 (And.intro (And.intro (Nat.le_of_ble_eq_true rfl) (Nat.le_of_ble_eq_true rfl)) (And.intro (Or.inl rfl) (?_)))
          show P (some (vi 0)) (J47, H)
          have r8 := r7.trans ((pPlain_2 q32_1).trans (pCmp_1 q47))
          exact h.1 (by rw [r8]; exact q47) _ (by rw [r8]; exact hat_10) hu_12
        ·
          show WP (Call d) 45 P X (48, [some (vr (some 72) 3), some (vi dep), some (vi (th tb n p)), some (vi (-1)), none], [vi 1], (J47_1, H), 0, 0)
          have gp9 := (hK.at hat).2
          have hK_13 : TOK J47_1 72 tb n := g47.tk hK
          have hat_14 : ATP J47_1 72 (pSum tb n p).2.2.2 := e47_1
          have hco_15 : COD J47_1 (c ++ (pSum tb n p).2.1) := f47_1
          have hu_16 : FRL I J47_1 := hu.tr g47
          have gd9 := pSum_gd (tb := tb) (p := p) hn4 (by omega) (by omega) q47_1
          have ga9 := gd9.1
          have gb9 := gd9.2.1
          have gc9 := gd9.2.2.1
          refine WP.go 1 (And.intro (fun (b48 : ¬ 1 = 0) => ?_) (fun (b48 : 1 = 0) => (absurd b48 (by omega))))
          show WP (Call d) 45 P X (51, [some (vr (some 72) 3), some (vi dep), some (vi (th tb n p)), some (vi (-1)), none], [], (J47_1, H), 0, 0)
          refine WP.go 2 (And.intro (And.intro (Nat.le_of_ble_eq_true rfl) (Nat.le_of_ble_eq_true rfl)) (And.intro rfl (?_)))
          show Call d 79 [vr (some 72) 3] (J47_1, H) _ _
          refine s_7_present_T72 (by omega) hS hK_13 hat_14 ?_
          show WP (Call d) 45 P X (53, [some (vr (some 72) 3), some (vi dep), some (vi (th tb n p)), some (vi (-1)), none], [vi (th tb n ((pSum tb n p).2.2.2))], (J47_1, H), 0, 0)
          refine WP.go 4 (And.intro (And.intro (Nat.le_of_ble_eq_true rfl) (Nat.le_of_ble_eq_true rfl)) (And.intro rfl (?_)))
          show Call d 81 [vr (some 72) 3, vi 2060] (J47_1, H) _ _
          refine s_skip_T72 (by omega) hS hK_13 hat_14 (by omega) ⟨(fun q56 J56 e56 f56 g56 => ?_), (fun q56_1 => ?_)⟩
          ·
            show WP (Call d) 45 P X (57, [some (vr (some 72) 3), some (vi dep), some (vi (th tb n p)), some (vi (-1)), some (vi (th tb n ((pSum tb n p).2.2.2)))], [vi 1], (J56, H), 0, 0)
            have nb9 := nx_bd (tb := tb) (n := n) (p := ((pSum tb n p).2.2.2)) (hK_13.at hat_14).2.1 (th_lt (tb := tb) (hK_13.at hat_14).2.2 (by have w9 := q56; omega))
            have hK_17 : TOK J56 72 tb n := hK_13.fr (e56 2 (by omega)) (f56 73 (by omega)) (f56 74 (by omega))
            have hat_18 : ATP J56 72 (nx tb n ((pSum tb n p).2.2.2)) := g56
            have pb9 := (hK_17.at hat_18).2
            have hco_19 : COD J56 (c ++ (pSum tb n p).2.1) := hco_15.fr (e56 5 (by omega)) (f56 75 (by omega))
            have hu_20 : FRL I J56 := hu_16.tr ⟨fun s9 a9 _ => e56 s9 a9, fun a9 q9 _ => f56 a9 q9⟩
            refine WP.go 1 (And.intro (fun (b57 : ¬ 1 = 0) => ?_) (fun (b57 : 1 = 0) => (absurd b57 (by omega))))
            show WP (Call d) 45 P X (62, [some (vr (some 72) 3), some (vi dep), some (vi (th tb n p)), some (vi (-1)), some (vi (th tb n ((pSum tb n p).2.2.2)))], [], (J56, H), 0, 0)
            refine WP.go 2 (And.intro (And.intro (Nat.le_of_ble_eq_true rfl) (Nat.le_of_ble_eq_true rfl)) (And.intro rfl (?_)))
            show Call d 48 [vr (some 72) 3] (J56, H) _ _
            refine s_3_readSum (by omega) hS hK_17 hat_18 hco_19 (by (try simp only [List.length_append, List.length_cons, List.length_nil]); omega) hn4 ⟨(fun q63 J63 e63 f63 => ?_), (fun q63_1 J63_1 e63_1 f63_1 g63 => ?_)⟩
            ·
              show WP (Call d) 45 P X (64, [some (vr (some 72) 3), some (vi dep), some (vi (th tb n p)), some (vi (-1)), some (vi (th tb n ((pSum tb n p).2.2.2)))], [vi 0], (J63, H), 0, 0)
              have hat_21 : ATP J63 72 (pSum tb n (nx tb n ((pSum tb n p).2.2.2))).1 := e63
              have hK_22 : TOK J63 72 tb n := f63.tk hK_17
              have hu_23 : FRL I J63 := hu_20.tr f63
              refine WP.go 1 (And.intro (fun (b64 : ¬ 0 = 0) => (absurd b64 (by omega))) (fun (b64 : 0 = 0) => ?_))
              show WP (Call d) 45 P X (65, [some (vr (some 72) 3), some (vi dep), some (vi (th tb n p)), some (vi (-1)), some (vi (th tb n ((pSum tb n p).2.2.2)))], [], (J63, H), 0, 0)
              refine WP.go 2 (And.intro (And.intro (Nat.le_of_ble_eq_true rfl) (Nat.le_of_ble_eq_true rfl)) (And.intro (Or.inl rfl) (?_)))
              show P (some (vi 0)) (J63, H)
              have r8 := r7.trans ((pPlain_2 q32_1).trans (pCmp_3 q47_1 (.inl q56) q63))
              exact h.1 (by rw [r8]; exact q63) _ (by rw [r8]; exact hat_21) hu_23
            ·
              show WP (Call d) 45 P X (64, [some (vr (some 72) 3), some (vi dep), some (vi (th tb n p)), some (vi (-1)), some (vi (th tb n ((pSum tb n p).2.2.2)))], [vi 1], (J63_1, H), 0, 0)
              have gp9 := (hK_17.at hat_18).2
              have hK_24 : TOK J63_1 72 tb n := g63.tk hK_17
              have hat_25 : ATP J63_1 72 (pSum tb n (nx tb n ((pSum tb n p).2.2.2))).2.2.2 := e63_1
              have hco_26 : COD J63_1 ((c ++ (pSum tb n p).2.1) ++ (pSum tb n (nx tb n ((pSum tb n p).2.2.2))).2.1) := f63_1
              have hu_27 : FRL I J63_1 := hu_20.tr g63
              have gd9 := pSum_gd (tb := tb) (p := (nx tb n ((pSum tb n p).2.2.2))) hn4 (by omega) (by omega) q63_1
              have ga9 := gd9.1
              have gb9 := gd9.2.1
              have gc9 := gd9.2.2.1
              refine WP.go 1 (And.intro (fun (b64 : ¬ 1 = 0) => ?_) (fun (b64 : 1 = 0) => (absurd b64 (by omega))))
              show WP (Call d) 45 P X (67, [some (vr (some 72) 3), some (vi dep), some (vi (th tb n p)), some (vi (-1)), some (vi (th tb n ((pSum tb n p).2.2.2)))], [], (J63_1, H), 0, 0)
              refine WP.go 4 (And.intro (fun (b70 : ¬ th tb n ((pSum tb n p).2.2.2) = 2060) => (absurd b70 (by omega))) (fun (b70 : th tb n ((pSum tb n p).2.2.2) = 2060) => ?_))
              show WP (Call d) 45 P X (71, [some (vr (some 72) 3), some (vi dep), some (vi (th tb n p)), some (vi (-1)), some (vi (th tb n ((pSum tb n p).2.2.2)))], [vr (some 72) 3], (J63_1, H), 0, 0)
              refine WP.go 3 (And.intro (And.intro (Nat.le_of_ble_eq_true rfl) (Nat.le_of_ble_eq_true rfl)) (And.intro rfl (?_)))
              show Call d 40 [vr (some 72) 3, vi 2002] (J63_1, H) _ _
              refine s_3_put (by omega) hS hco_26 (by (try simp only [List.length_append, List.length_cons, List.length_nil]); omega) (fun J74 e74 f74 g74 => ?_)
              show WP (Call d) 45 P X (75, [some (vr (some 72) 3), some (vi dep), some (vi (th tb n p)), some (vi (-1)), some (vi (th tb n ((pSum tb n p).2.2.2)))], [], (J74, H), 0, 0)
              have hK_28 : TOK J74 72 tb n := hK_24.fr (f74 2 (by omega)) (g74 73 (by omega) (by omega)) (g74 74 (by omega) (by omega))
              have hat_29 : ATP J74 72 ((pSum tb n (nx tb n ((pSum tb n p).2.2.2))).2.2.2) := FRL.p5 f74 g74 hat_25
              have hco_30 : COD J74 (((c ++ (pSum tb n p).2.1) ++ (pSum tb n (nx tb n ((pSum tb n p).2.2.2))).2.1) ++ [2002]) := e74
              have hu_31 : FRL I J74 := hu_27.tr ⟨fun s9 _ b9 => f74 s9 b9, g74⟩
              refine WP.go 2 (And.intro (And.intro (Nat.le_of_ble_eq_true rfl) (Nat.le_of_ble_eq_true rfl)) (And.intro (Or.inr rfl) (?_)))
              show P (some (vi 1)) (J74, H)
              have r8 := r7.trans ((pPlain_2 q32_1).trans (pCmp_4 q47_1 (.inl q56) q63_1))
              exact h.2 (by rw [r8]) _ (by rw [r8]; exact hat_29) (by rw [r8]; show COD _ (c ++ ((pSum tb n p).2.1 ++ (pSum tb n (nx tb n (pSum tb n p).2.2.2)).2.1 ++ [if th tb n (pSum tb n p).2.2.2 = 2060 then 2002 else 2003])); rw [if_pos q56]; simpa only [List.append_assoc] using hco_30) hu_31
          ·
            show WP (Call d) 45 P X (57, [some (vr (some 72) 3), some (vi dep), some (vi (th tb n p)), some (vi (-1)), some (vi (th tb n ((pSum tb n p).2.2.2)))], [vi 0], (J47_1, H), 0, 0)
            refine WP.go 1 (And.intro (fun (b57 : ¬ 0 = 0) => (absurd b57 (by omega))) (fun (b57 : 0 = 0) => ?_))
            show WP (Call d) 45 P X (58, [some (vr (some 72) 3), some (vi dep), some (vi (th tb n p)), some (vi (-1)), some (vi (th tb n ((pSum tb n p).2.2.2)))], [], (J47_1, H), 0, 0)
            refine WP.go 3 (And.intro (And.intro (Nat.le_of_ble_eq_true rfl) (Nat.le_of_ble_eq_true rfl)) (And.intro rfl (?_)))
            show Call d 81 [vr (some 72) 3, vi 2062] (J47_1, H) _ _
            refine s_skip_T72 (by omega) hS hK_13 hat_14 (by omega) ⟨(fun q60 J60 e60 f60 g60 => ?_), (fun q60_1 => ?_)⟩
            ·
              show WP (Call d) 45 P X (61, [some (vr (some 72) 3), some (vi dep), some (vi (th tb n p)), some (vi (-1)), some (vi (th tb n ((pSum tb n p).2.2.2)))], [vi 1], (J60, H), 0, 0)
              have nb9 := nx_bd (tb := tb) (n := n) (p := ((pSum tb n p).2.2.2)) (hK_13.at hat_14).2.1 (th_lt (tb := tb) (hK_13.at hat_14).2.2 (by have w9 := q60; omega))
              have hK_32 : TOK J60 72 tb n := hK_13.fr (e60 2 (by omega)) (f60 73 (by omega)) (f60 74 (by omega))
              have hat_33 : ATP J60 72 (nx tb n ((pSum tb n p).2.2.2)) := g60
              have pb9 := (hK_32.at hat_33).2
              have hco_34 : COD J60 (c ++ (pSum tb n p).2.1) := hco_15.fr (e60 5 (by omega)) (f60 75 (by omega))
              have hu_35 : FRL I J60 := hu_16.tr ⟨fun s9 a9 _ => e60 s9 a9, fun a9 q9 _ => f60 a9 q9⟩
              refine WP.go 1 (And.intro (fun (b61 : 1 = 0) => (absurd b61 (by omega))) (fun (b61 : ¬ 1 = 0) => ?_))
              show WP (Call d) 45 P X (62, [some (vr (some 72) 3), some (vi dep), some (vi (th tb n p)), some (vi (-1)), some (vi (th tb n ((pSum tb n p).2.2.2)))], [], (J60, H), 0, 0)
              refine WP.go 2 (And.intro (And.intro (Nat.le_of_ble_eq_true rfl) (Nat.le_of_ble_eq_true rfl)) (And.intro rfl (?_)))
              show Call d 48 [vr (some 72) 3] (J60, H) _ _
              refine s_3_readSum (by omega) hS hK_32 hat_33 hco_34 (by (try simp only [List.length_append, List.length_cons, List.length_nil]); omega) hn4 ⟨(fun q63_2 J63_2 e63_2 f63_2 => ?_), (fun q63_3 J63_3 e63_3 f63_3 g63_1 => ?_)⟩
              ·
                show WP (Call d) 45 P X (64, [some (vr (some 72) 3), some (vi dep), some (vi (th tb n p)), some (vi (-1)), some (vi (th tb n ((pSum tb n p).2.2.2)))], [vi 0], (J63_2, H), 0, 0)
                have hat_36 : ATP J63_2 72 (pSum tb n (nx tb n ((pSum tb n p).2.2.2))).1 := e63_2
                have hK_37 : TOK J63_2 72 tb n := f63_2.tk hK_32
                have hu_38 : FRL I J63_2 := hu_35.tr f63_2
                refine WP.go 1 (And.intro (fun (b64 : ¬ 0 = 0) => (absurd b64 (by omega))) (fun (b64 : 0 = 0) => ?_))
                show WP (Call d) 45 P X (65, [some (vr (some 72) 3), some (vi dep), some (vi (th tb n p)), some (vi (-1)), some (vi (th tb n ((pSum tb n p).2.2.2)))], [], (J63_2, H), 0, 0)
                refine WP.go 2 (And.intro (And.intro (Nat.le_of_ble_eq_true rfl) (Nat.le_of_ble_eq_true rfl)) (And.intro (Or.inl rfl) (?_)))
                show P (some (vi 0)) (J63_2, H)
                have r8 := r7.trans ((pPlain_2 q32_1).trans (pCmp_3 q47_1 (.inr q60) q63_2))
                exact h.1 (by rw [r8]; exact q63_2) _ (by rw [r8]; exact hat_36) hu_38
              ·
                show WP (Call d) 45 P X (64, [some (vr (some 72) 3), some (vi dep), some (vi (th tb n p)), some (vi (-1)), some (vi (th tb n ((pSum tb n p).2.2.2)))], [vi 1], (J63_3, H), 0, 0)
                have gp9 := (hK_32.at hat_33).2
                have hK_39 : TOK J63_3 72 tb n := g63_1.tk hK_32
                have hat_40 : ATP J63_3 72 (pSum tb n (nx tb n ((pSum tb n p).2.2.2))).2.2.2 := e63_3
                have hco_41 : COD J63_3 ((c ++ (pSum tb n p).2.1) ++ (pSum tb n (nx tb n ((pSum tb n p).2.2.2))).2.1) := f63_3
                have hu_42 : FRL I J63_3 := hu_35.tr g63_1
                have gd9 := pSum_gd (tb := tb) (p := (nx tb n ((pSum tb n p).2.2.2))) hn4 (by omega) (by omega) q63_3
                have ga9 := gd9.1
                have gb9 := gd9.2.1
                have gc9 := gd9.2.2.1
                refine WP.go 1 (And.intro (fun (b64 : ¬ 1 = 0) => ?_) (fun (b64 : 1 = 0) => (absurd b64 (by omega))))
                show WP (Call d) 45 P X (67, [some (vr (some 72) 3), some (vi dep), some (vi (th tb n p)), some (vi (-1)), some (vi (th tb n ((pSum tb n p).2.2.2)))], [], (J63_3, H), 0, 0)
                refine WP.go 4 (And.intro (fun (b70 : ¬ th tb n ((pSum tb n p).2.2.2) = 2060) => ?_) (fun (b70 : th tb n ((pSum tb n p).2.2.2) = 2060) => (absurd b70 (by omega))))
                show WP (Call d) 45 P X (73, [some (vr (some 72) 3), some (vi dep), some (vi (th tb n p)), some (vi (-1)), some (vi (th tb n ((pSum tb n p).2.2.2)))], [vr (some 72) 3], (J63_3, H), 0, 0)
                refine WP.go 2 (And.intro (And.intro (Nat.le_of_ble_eq_true rfl) (Nat.le_of_ble_eq_true rfl)) (And.intro rfl (?_)))
                show Call d 40 [vr (some 72) 3, vi 2003] (J63_3, H) _ _
                refine s_3_put (by omega) hS hco_41 (by (try simp only [List.length_append, List.length_cons, List.length_nil]); omega) (fun J74_1 e74_1 f74_1 g74_1 => ?_)
                show WP (Call d) 45 P X (75, [some (vr (some 72) 3), some (vi dep), some (vi (th tb n p)), some (vi (-1)), some (vi (th tb n ((pSum tb n p).2.2.2)))], [], (J74_1, H), 0, 0)
                have hK_43 : TOK J74_1 72 tb n := hK_39.fr (f74_1 2 (by omega)) (g74_1 73 (by omega) (by omega)) (g74_1 74 (by omega) (by omega))
                have hat_44 : ATP J74_1 72 ((pSum tb n (nx tb n ((pSum tb n p).2.2.2))).2.2.2) := FRL.p5 f74_1 g74_1 hat_40
                have hco_45 : COD J74_1 (((c ++ (pSum tb n p).2.1) ++ (pSum tb n (nx tb n ((pSum tb n p).2.2.2))).2.1) ++ [2003]) := e74_1
                have hu_46 : FRL I J74_1 := hu_42.tr ⟨fun s9 _ b9 => f74_1 s9 b9, g74_1⟩
                refine WP.go 2 (And.intro (And.intro (Nat.le_of_ble_eq_true rfl) (Nat.le_of_ble_eq_true rfl)) (And.intro (Or.inr rfl) (?_)))
                show P (some (vi 1)) (J74_1, H)
                have r8 := r7.trans ((pPlain_2 q32_1).trans (pCmp_4 q47_1 (.inr q60) q63_3))
                exact h.2 (by rw [r8]) _ (by rw [r8]; exact hat_44) (by rw [r8]; show COD _ (c ++ ((pSum tb n p).2.1 ++ (pSum tb n (nx tb n (pSum tb n p).2.2.2)).2.1 ++ [if th tb n (pSum tb n p).2.2.2 = 2060 then 2002 else 2003])); rw [if_neg q56_1]; simpa only [List.append_assoc] using hco_45) hu_46
            ·
              show WP (Call d) 45 P X (61, [some (vr (some 72) 3), some (vi dep), some (vi (th tb n p)), some (vi (-1)), some (vi (th tb n ((pSum tb n p).2.2.2)))], [vi 0], (J47_1, H), 0, 0)
              refine WP.go 1 (And.intro (fun (b61 : 0 = 0) => ?_) (fun (b61 : ¬ 0 = 0) => (absurd b61 (by omega))))
              show WP (Call d) 45 P X (65, [some (vr (some 72) 3), some (vi dep), some (vi (th tb n p)), some (vi (-1)), some (vi (th tb n ((pSum tb n p).2.2.2)))], [], (J47_1, H), 0, 0)
              refine WP.go 2 (And.intro (And.intro (Nat.le_of_ble_eq_true rfl) (Nat.le_of_ble_eq_true rfl)) (And.intro (Or.inl rfl) (?_)))
              show P (some (vi 0)) (J47_1, H)
              have r8 := r7.trans ((pPlain_2 q32_1).trans (pCmp_2 q47_1 (fun z => z.elim q56_1 q60_1)))
              exact h.1 (by rw [r8]; show (pSum tb n p).2.2.2 ≠ -1; omega) _ (by rw [r8]; exact hat_14) hu_16
    ·
      show WP (Call d) 45 P X (9, [some (vr (some 72) 3), some (vi dep), some (vi (th tb n p)), none, none], [], (I, H), 0, 0)
      refine WP.go 3 (And.intro (fun (b11 : ¬ dep < 6) => ?_) (fun (b11 : dep < 6) => (absurd b11 (by omega))))
      show WP (Call d) 45 P X (27, [some (vr (some 72) 3), some (vi dep), some (vi (th tb n p)), none, none], [], (I, H), 0, 0)
      refine WP.go 2 (And.intro (And.intro (Nat.le_of_ble_eq_true rfl) (Nat.le_of_ble_eq_true rfl)) (And.intro (Or.inl rfl) (?_)))
      show P (some (vi 0)) (I, H)
      have r8 : (if th tb n p = 1015 ∨ th tb n p = 2040 then rE p else pPlain tb n p) = rE p := if_pos (.inr b8)
      exact h.1 (by rw [r8]; show p ≠ -1; omega) _ (by rw [r8]; exact hat) hu

theorem s_3_readAtom_s {d : Nat} {P : Option qV → qH → Prop} {X : Nat → qH → Prop} {I : qI} {H : qS} {D m k : Nat} {tb : Int → Int} {A B9 : Int → RS} {n dep p : Int} {c : List Int} (hd : D + 4 ≤ d) (hN : KC D 45 (dep + 1) 0 tb n A) (hGN : ∀ p, 0 ≤ p → p ≤ n → GD n true m p (A p)) (hm : 1 ≤ m) (hB : KC (D + 2) 43 (dep + 1) 0 tb n B9) (hGB : ∀ p, 0 ≤ p → p ≤ n → GD n true (m + 2) p (B9 p)) (hdp : 0 ≤ dep ∧ dep ≤ 5) (hS : Shp H) (hK : TOK I 72 tb n) (hat : ATP I 72 p) (hco : COD I c) (hcl : (c.length : Int) ≤ 2 * p) (hn4 : n ≤ 400) (hD : 3 ≤ D) (h : ((if th tb n p = 1015 then pNeg (A (nx tb n p)) else if th tb n p = 2040 then pBrc tb n (B9 (nx tb n p)) else pPlain tb n p).1 ≠ -1 → ∀ J : qI, ATP J 72 (if th tb n p = 1015 then pNeg (A (nx tb n p)) else if th tb n p = 2040 then pBrc tb n (B9 (nx tb n p)) else pPlain tb n p).1 → FRL I J → P (some (vi 0)) (J, H)) ∧ ((if th tb n p = 1015 then pNeg (A (nx tb n p)) else if th tb n p = 2040 then pBrc tb n (B9 (nx tb n p)) else pPlain tb n p).1 = -1 → ∀ J : qI, ATP J 72 (if th tb n p = 1015 then pNeg (A (nx tb n p)) else if th tb n p = 2040 then pBrc tb n (B9 (nx tb n p)) else pPlain tb n p).2.2.2 → COD J (c ++ (if th tb n p = 1015 then pNeg (A (nx tb n p)) else if th tb n p = 2040 then pBrc tb n (B9 (nx tb n p)) else pPlain tb n p).2.1) → FRL I J → P (some (vi 1)) (J, H))) :
    Call d 45 [vr (some 72) 3, vi dep] (I, H) P X := by
  obtain ⟨d, rfl⟩ : ∃ e, d = e + 1 := ⟨d - 1, by omega⟩
  have hu := FRL.rf I
  have hpb := (hK.at hat).2
  show WP (Call d) 45 P X (0, [some (vr (some 72) 3), some (vi dep), none, none, none], [], (I, H), 0, 0)
  refine WP.go 2 (And.intro (And.intro (Nat.le_of_ble_eq_true rfl) (Nat.le_of_ble_eq_true rfl)) (And.intro rfl (?_)))
  show Call d 79 [vr (some 72) 3] (I, H) _ _
  refine s_7_present_T72 (by omega) hS hK hat ?_
  show WP (Call d) 45 P X (2, [some (vr (some 72) 3), some (vi dep), none, none, none], [vi (th tb n p)], (I, H), 0, 0)
  refine WP.go 4 (And.intro (fun (b5 : th tb n p = 1015) => ?_) (fun (b5 : ¬ th tb n p = 1015) => ?_))
  ·
    show WP (Call d) 45 P X (9, [some (vr (some 72) 3), some (vi dep), some (vi (th tb n p)), none, none], [], (I, H), 0, 0)
    refine WP.go 3 (And.intro (fun (b11 : ¬ dep < 6) => (absurd b11 (by omega))) (fun (b11 : dep < 6) => ?_))
    show WP (Call d) 45 P X (12, [some (vr (some 72) 3), some (vi dep), some (vi (th tb n p)), none, none], [], (I, H), 0, 0)
    refine WP.go 3 (And.intro (And.intro (Nat.le_of_ble_eq_true rfl) (Nat.le_of_ble_eq_true rfl)) (And.intro rfl (?_)))
    show Call d 81 [vr (some 72) 3, vi 1015] (I, H) _ _
    refine s_skip_T72 (by omega) hS hK hat (by omega) ⟨(fun q14 J14 e14 f14 g14 => ?_), (fun q14_1 => ?_)⟩
    ·
      show WP (Call d) 45 P X (15, [some (vr (some 72) 3), some (vi dep), some (vi (th tb n p)), none, none], [vi 1], (J14, H), 0, 0)
      have nb9 := nx_bd (tb := tb) (n := n) (p := p) (hK.at hat).2.1 (th_lt (tb := tb) (hK.at hat).2.2 (by have w9 := q14; omega))
      have hK_1 : TOK J14 72 tb n := hK.fr (e14 2 (by omega)) (f14 73 (by omega)) (f14 74 (by omega))
      have hat_2 : ATP J14 72 (nx tb n p) := g14
      have pb9 := (hK_1.at hat_2).2
      have hco_3 : COD J14 c := hco.fr (e14 5 (by omega)) (f14 75 (by omega))
      have hu_4 : FRL I J14 := hu.tr ⟨fun s9 a9 _ => e14 s9 a9, fun a9 q9 _ => f14 a9 q9⟩
      refine WP.go 1 (And.intro (fun (b15 : 1 = 0) => (absurd b15 (by omega))) (fun (b15 : ¬ 1 = 0) => ?_))
      show WP (Call d) 45 P X (16, [some (vr (some 72) 3), some (vi dep), some (vi (th tb n p)), none, none], [], (J14, H), 0, 0)
      refine WP.go 3 (And.intro (And.intro (Nat.le_of_ble_eq_true rfl) (Nat.le_of_ble_eq_true rfl)) (And.intro rfl (?_)))
      show Call d 46 [vr (some 72) 3, vi dep] (J14, H) _ _
      refine s_3_readNegated (by omega) hN hGN hS hK_1 hat_2 hco_3 (by (try simp only [List.length_append, List.length_cons, List.length_nil]); omega) hn4 (by omega) (by omega) ⟨(fun q18 J18 e18 f18 => ?_), (fun q18_1 J18_1 e18_1 f18_1 g18 => ?_)⟩
      ·
        show WP (Call d) 45 P X (19, [some (vr (some 72) 3), some (vi dep), some (vi (th tb n p)), none, none], [vi 0], (J18, H), 0, 0)
        have hat_5 : ATP J18 72 (pNeg (A (nx tb n p))).1 := e18
        have hK_6 : TOK J18 72 tb n := f18.tk hK_1
        have hu_7 : FRL I J18 := hu_4.tr f18
        refine WP.go 1 (And.intro (fun (b19 : 0 = 0) => ?_) (fun (b19 : ¬ 0 = 0) => (absurd b19 (by omega))))
        show WP (Call d) 45 P X (27, [some (vr (some 72) 3), some (vi dep), some (vi (th tb n p)), none, none], [], (J18, H), 0, 0)
        refine WP.go 2 (And.intro (And.intro (Nat.le_of_ble_eq_true rfl) (Nat.le_of_ble_eq_true rfl)) (And.intro (Or.inl rfl) (?_)))
        show P (some (vi 0)) (J18, H)
        have r8 : (if th tb n p = 1015 then pNeg (A (nx tb n p)) else if th tb n p = 2040 then pBrc tb n (B9 (nx tb n p)) else pPlain tb n p) = pNeg (A (nx tb n p)) := if_pos b5
        exact h.1 (by rw [r8]; exact q18) _ (by rw [r8]; exact hat_5) hu_7
      ·
        show WP (Call d) 45 P X (19, [some (vr (some 72) 3), some (vi dep), some (vi (th tb n p)), none, none], [vi 1], (J18_1, H), 0, 0)
        have gp9 := (hK_1.at hat_2).2
        have hK_8 : TOK J18_1 72 tb n := g18.tk hK_1
        have hat_9 : ATP J18_1 72 (pNeg (A (nx tb n p))).2.2.2 := e18_1
        have hco_10 : COD J18_1 (c ++ (pNeg (A (nx tb n p))).2.1) := f18_1
        have hu_11 : FRL I J18_1 := hu_4.tr g18
        have gd9 := pNeg_gd (p := p) (p' := (nx tb n p)) (by omega) (by omega) (hGN (nx tb n p) (by omega) (by omega)) q18_1
        have ga9 := gd9.1
        have gb9 := gd9.2.1
        have gc9 := gd9.2.2.1
        refine WP.go 1 (And.intro (fun (b19 : 1 = 0) => (absurd b19 (by omega))) (fun (b19 : ¬ 1 = 0) => ?_))
        show WP (Call d) 45 P X (20, [some (vr (some 72) 3), some (vi dep), some (vi (th tb n p)), none, none], [], (J18_1, H), 0, 0)
        refine WP.go 4 (And.intro (And.intro (Nat.le_of_ble_eq_true rfl) (Nat.le_of_ble_eq_true rfl)) (And.intro (Or.inr rfl) (?_)))
        show P (some (vi 1)) (J18_1, H)
        have r8 : (if th tb n p = 1015 then pNeg (A (nx tb n p)) else if th tb n p = 2040 then pBrc tb n (B9 (nx tb n p)) else pPlain tb n p) = pNeg (A (nx tb n p)) := if_pos b5
        exact h.2 (by rw [r8]; exact q18_1) _ (by rw [r8]; exact hat_9) (by rw [r8]; exact hco_10) hu_11
    ·
      show WP (Call d) 45 P X (15, [some (vr (some 72) 3), some (vi dep), some (vi (th tb n p)), none, none], [vi 0], (I, H), 0, 0)
      refine WP.go 1 (And.intro (fun (b15 : 0 = 0) => ?_) (fun (b15 : ¬ 0 = 0) => (absurd b15 (by omega))))
      show WP (Call d) 45 P X (21, [some (vr (some 72) 3), some (vi dep), some (vi (th tb n p)), none, none], [], (I, H), 0, 0)
      exact absurd b5 q14_1
  ·
    show WP (Call d) 45 P X (6, [some (vr (some 72) 3), some (vi dep), some (vi (th tb n p)), none, none], [], (I, H), 0, 0)
    refine WP.go 3 (And.intro (fun (b8 : ¬ th tb n p = 2040) => ?_) (fun (b8 : th tb n p = 2040) => ?_))
    ·
      show WP (Call d) 45 P X (29, [some (vr (some 72) 3), some (vi dep), some (vi (th tb n p)), none, none], [], (I, H), 0, 0)
      have r7 : (if th tb n p = 1015 then pNeg (A (nx tb n p)) else if th tb n p = 2040 then pBrc tb n (B9 (nx tb n p)) else pPlain tb n p) = pPlain tb n p := (if_neg b5).trans (if_neg b8)
      refine WP.go 4 (And.intro (And.intro (Nat.le_of_ble_eq_true rfl) (Nat.le_of_ble_eq_true rfl)) (And.intro rfl (?_)))
      show Call d 82 [vr (some 72) 3, vi 1021, vi 1023] (I, H) _ _
      refine s_7_take_T72 (by omega) hS hK hat (by omega) ⟨(fun q32 J32 e32 f32 g32 => ?_), (fun q32_1 => ?_)⟩
      ·
        show WP (Call d) 45 P X (33, [some (vr (some 72) 3), some (vi dep), some (vi (th tb n p)), none, none], [vi (th tb n p)], (J32, H), 0, 0)
        have nb9 := nx_bd (tb := tb) (n := n) (p := p) (hK.at hat).2.1 (th_lt (tb := tb) (hK.at hat).2.2 (by have w9 := q32; omega))
        have hK_12 : TOK J32 72 tb n := hK.fr (e32 2 (by omega)) (f32 73 (by omega)) (f32 74 (by omega))
        have hat_13 : ATP J32 72 (nx tb n p) := g32
        have pb9 := (hK_12.at hat_13).2
        have hco_14 : COD J32 c := hco.fr (e32 5 (by omega)) (f32 75 (by omega))
        have hu_15 : FRL I J32 := hu.tr ⟨fun s9 a9 _ => e32 s9 a9, fun a9 q9 _ => f32 a9 q9⟩
        refine WP.go 4 (And.intro (fun (b36 : th tb n p = (-1)) => (absurd b36 (by omega))) (fun (b36 : ¬ th tb n p = (-1)) => ?_))
        show WP (Call d) 45 P X (37, [some (vr (some 72) 3), some (vi dep), some (vi (th tb n p)), some (vi (th tb n p)), none], [], (J32, H), 0, 0)
        refine WP.go 7 (Exists.intro (1005 + (th tb n p)) (And.intro (wrp_a (by omega) (by omega)) (Exists.intro ((1005 + (th tb n p)) - 1021) (And.intro (wrp_a (by omega) (by omega)) (And.intro (And.intro (Nat.le_of_ble_eq_true rfl) (Nat.le_of_ble_eq_true rfl)) (And.intro rfl (?_)))))))
        show Call d 40 [vr (some 72) 3, vi ((1005 + (th tb n p)) - 1021)] (J32, H) _ _
        refine s_3_put (by omega) hS hco_14 (by (try simp only [List.length_append, List.length_cons, List.length_nil]); omega) (fun J43 e43 f43 g43 => ?_)
        show WP (Call d) 45 P X (44, [some (vr (some 72) 3), some (vi dep), some (vi (th tb n p)), some (vi (th tb n p)), none], [], (J43, H), 0, 0)
        have hK_16 : TOK J43 72 tb n := hK_12.fr (f43 2 (by omega)) (g43 73 (by omega) (by omega)) (g43 74 (by omega) (by omega))
        have hat_17 : ATP J43 72 (nx tb n p) := FRL.p5 f43 g43 hat_13
        have hco_18 : COD J43 (c ++ [((1005 + (th tb n p)) - 1021)]) := e43
        have hu_19 : FRL I J43 := hu_15.tr ⟨fun s9 _ b9 => f43 s9 b9, g43⟩
        have hco_20 : COD J43 (c ++ [(1005 + (th tb n p - 1021))]) := by rw [show (1005 + (th tb n p - 1021)) = ((1005 + (th tb n p)) - 1021) by omega]; exact hco_18
        refine WP.go 2 (And.intro (And.intro (Nat.le_of_ble_eq_true rfl) (Nat.le_of_ble_eq_true rfl)) (And.intro (Or.inr rfl) (?_)))
        show P (some (vi 1)) (J43, H)
        have r8 := r7.trans (pPlain_1 q32)
        exact h.2 (by rw [r8]) _ (by rw [r8]; exact hat_17) (by rw [r8]; simpa only [List.append_assoc] using hco_20) hu_19
      ·
        show WP (Call d) 45 P X (33, [some (vr (some 72) 3), some (vi dep), some (vi (th tb n p)), none, none], [vi (-1)], (I, H), 0, 0)
        refine WP.go 4 (And.intro (fun (b36 : (-1) = (-1)) => ?_) (fun (b36 : ¬ (-1) = (-1)) => (absurd b36 (by omega))))
        show WP (Call d) 45 P X (46, [some (vr (some 72) 3), some (vi dep), some (vi (th tb n p)), some (vi (-1)), none], [], (I, H), 0, 0)
        refine WP.go 2 (And.intro (And.intro (Nat.le_of_ble_eq_true rfl) (Nat.le_of_ble_eq_true rfl)) (And.intro rfl (?_)))
        show Call d 48 [vr (some 72) 3] (I, H) _ _
        refine s_3_readSum (by omega) hS hK hat hco (by (try simp only [List.length_append, List.length_cons, List.length_nil]); omega) hn4 ⟨(fun q47 J47 e47 f47 => ?_), (fun q47_1 J47_1 e47_1 f47_1 g47 => ?_)⟩
        ·
          show WP (Call d) 45 P X (48, [some (vr (some 72) 3), some (vi dep), some (vi (th tb n p)), some (vi (-1)), none], [vi 0], (J47, H), 0, 0)
          have hat_21 : ATP J47 72 (pSum tb n p).1 := e47
          have hK_22 : TOK J47 72 tb n := f47.tk hK
          have hu_23 : FRL I J47 := hu.tr f47
          refine WP.go 1 (And.intro (fun (b48 : ¬ 0 = 0) => (absurd b48 (by omega))) (fun (b48 : 0 = 0) => ?_))
          show WP (Call d) 45 P X (49, [some (vr (some 72) 3), some (vi dep), some (vi (th tb n p)), some (vi (-1)), none], [], (J47, H), 0, 0)
          refine WP.go 2 (And.intro (And.intro (Nat.le_of_ble_eq_true rfl) (Nat.le_of_ble_eq_true rfl)) (And.intro (Or.inl rfl) (?_)))
          show P (some (vi 0)) (J47, H)
          have r8 := r7.trans ((pPlain_2 q32_1).trans (pCmp_1 q47))
          exact h.1 (by rw [r8]; exact q47) _ (by rw [r8]; exact hat_21) hu_23
        ·
          show WP (Call d) 45 P X (48, [some (vr (some 72) 3), some (vi dep), some (vi (th tb n p)), some (vi (-1)), none], [vi 1], (J47_1, H), 0, 0)
          have gp9 := (hK.at hat).2
          have hK_24 : TOK J47_1 72 tb n := g47.tk hK
          have hat_25 : ATP J47_1 72 (pSum tb n p).2.2.2 := e47_1
          have hco_26 : COD J47_1 (c ++ (pSum tb n p).2.1) := f47_1
          have hu_27 : FRL I J47_1 := hu.tr g47
          have gd9 := pSum_gd (tb := tb) (p := p) hn4 (by omega) (by omega) q47_1
          have ga9 := gd9.1
          have gb9 := gd9.2.1
          have gc9 := gd9.2.2.1
          refine WP.go 1 (And.intro (fun (b48 : ¬ 1 = 0) => ?_) (fun (b48 : 1 = 0) => (absurd b48 (by omega))))
          show WP (Call d) 45 P X (51, [some (vr (some 72) 3), some (vi dep), some (vi (th tb n p)), some (vi (-1)), none], [], (J47_1, H), 0, 0)
          refine WP.go 2 (And.intro (And.intro (Nat.le_of_ble_eq_true rfl) (Nat.le_of_ble_eq_true rfl)) (And.intro rfl (?_)))
          show Call d 79 [vr (some 72) 3] (J47_1, H) _ _
          refine s_7_present_T72 (by omega) hS hK_24 hat_25 ?_
          show WP (Call d) 45 P X (53, [some (vr (some 72) 3), some (vi dep), some (vi (th tb n p)), some (vi (-1)), none], [vi (th tb n ((pSum tb n p).2.2.2))], (J47_1, H), 0, 0)
          refine WP.go 4 (And.intro (And.intro (Nat.le_of_ble_eq_true rfl) (Nat.le_of_ble_eq_true rfl)) (And.intro rfl (?_)))
          show Call d 81 [vr (some 72) 3, vi 2060] (J47_1, H) _ _
          refine s_skip_T72 (by omega) hS hK_24 hat_25 (by omega) ⟨(fun q56 J56 e56 f56 g56 => ?_), (fun q56_1 => ?_)⟩
          ·
            show WP (Call d) 45 P X (57, [some (vr (some 72) 3), some (vi dep), some (vi (th tb n p)), some (vi (-1)), some (vi (th tb n ((pSum tb n p).2.2.2)))], [vi 1], (J56, H), 0, 0)
            have nb9 := nx_bd (tb := tb) (n := n) (p := ((pSum tb n p).2.2.2)) (hK_24.at hat_25).2.1 (th_lt (tb := tb) (hK_24.at hat_25).2.2 (by have w9 := q56; omega))
            have hK_28 : TOK J56 72 tb n := hK_24.fr (e56 2 (by omega)) (f56 73 (by omega)) (f56 74 (by omega))
            have hat_29 : ATP J56 72 (nx tb n ((pSum tb n p).2.2.2)) := g56
            have pb9 := (hK_28.at hat_29).2
            have hco_30 : COD J56 (c ++ (pSum tb n p).2.1) := hco_26.fr (e56 5 (by omega)) (f56 75 (by omega))
            have hu_31 : FRL I J56 := hu_27.tr ⟨fun s9 a9 _ => e56 s9 a9, fun a9 q9 _ => f56 a9 q9⟩
            refine WP.go 1 (And.intro (fun (b57 : ¬ 1 = 0) => ?_) (fun (b57 : 1 = 0) => (absurd b57 (by omega))))
            show WP (Call d) 45 P X (62, [some (vr (some 72) 3), some (vi dep), some (vi (th tb n p)), some (vi (-1)), some (vi (th tb n ((pSum tb n p).2.2.2)))], [], (J56, H), 0, 0)
            refine WP.go 2 (And.intro (And.intro (Nat.le_of_ble_eq_true rfl) (Nat.le_of_ble_eq_true rfl)) (And.intro rfl (?_)))
            show Call d 48 [vr (some 72) 3] (J56, H) _ _
            refine s_3_readSum (by omega) hS hK_28 hat_29 hco_30 (by (try simp only [List.length_append, List.length_cons, List.length_nil]); omega) hn4 ⟨(fun q63 J63 e63 f63 => ?_), (fun q63_1 J63_1 e63_1 f63_1 g63 => ?_)⟩
            ·
              show WP (Call d) 45 P X (64, [some (vr (some 72) 3), some (vi dep), some (vi (th tb n p)), some (vi (-1)), some (vi (th tb n ((pSum tb n p).2.2.2)))], [vi 0], (J63, H), 0, 0)
              have hat_32 : ATP J63 72 (pSum tb n (nx tb n ((pSum tb n p).2.2.2))).1 := e63
              have hK_33 : TOK J63 72 tb n := f63.tk hK_28
              have hu_34 : FRL I J63 := hu_31.tr f63
              refine WP.go 1 (And.intro (fun (b64 : ¬ 0 = 0) => (absurd b64 (by omega))) (fun (b64 : 0 = 0) => ?_))
              show WP (Call d) 45 P X (65, [some (vr (some 72) 3), some (vi dep), some (vi (th tb n p)), some (vi (-1)), some (vi (th tb n ((pSum tb n p).2.2.2)))], [], (J63, H), 0, 0)
              refine WP.go 2 (And.intro (And.intro (Nat.le_of_ble_eq_true rfl) (Nat.le_of_ble_eq_true rfl)) (And.intro (Or.inl rfl) (?_)))
              show P (some (vi 0)) (J63, H)
              have r8 := r7.trans ((pPlain_2 q32_1).trans (pCmp_3 q47_1 (.inl q56) q63))
              exact h.1 (by rw [r8]; exact q63) _ (by rw [r8]; exact hat_32) hu_34
            ·
              show WP (Call d) 45 P X (64, [some (vr (some 72) 3), some (vi dep), some (vi (th tb n p)), some (vi (-1)), some (vi (th tb n ((pSum tb n p).2.2.2)))], [vi 1], (J63_1, H), 0, 0)
              have gp9 := (hK_28.at hat_29).2
              have hK_35 : TOK J63_1 72 tb n := g63.tk hK_28
              have hat_36 : ATP J63_1 72 (pSum tb n (nx tb n ((pSum tb n p).2.2.2))).2.2.2 := e63_1
              have hco_37 : COD J63_1 ((c ++ (pSum tb n p).2.1) ++ (pSum tb n (nx tb n ((pSum tb n p).2.2.2))).2.1) := f63_1
              have hu_38 : FRL I J63_1 := hu_31.tr g63
              have gd9 := pSum_gd (tb := tb) (p := (nx tb n ((pSum tb n p).2.2.2))) hn4 (by omega) (by omega) q63_1
              have ga9 := gd9.1
              have gb9 := gd9.2.1
              have gc9 := gd9.2.2.1
              refine WP.go 1 (And.intro (fun (b64 : ¬ 1 = 0) => ?_) (fun (b64 : 1 = 0) => (absurd b64 (by omega))))
              show WP (Call d) 45 P X (67, [some (vr (some 72) 3), some (vi dep), some (vi (th tb n p)), some (vi (-1)), some (vi (th tb n ((pSum tb n p).2.2.2)))], [], (J63_1, H), 0, 0)
              refine WP.go 4 (And.intro (fun (b70 : ¬ th tb n ((pSum tb n p).2.2.2) = 2060) => (absurd b70 (by omega))) (fun (b70 : th tb n ((pSum tb n p).2.2.2) = 2060) => ?_))
              show WP (Call d) 45 P X (71, [some (vr (some 72) 3), some (vi dep), some (vi (th tb n p)), some (vi (-1)), some (vi (th tb n ((pSum tb n p).2.2.2)))], [vr (some 72) 3], (J63_1, H), 0, 0)
              refine WP.go 3 (And.intro (And.intro (Nat.le_of_ble_eq_true rfl) (Nat.le_of_ble_eq_true rfl)) (And.intro rfl (?_)))
              show Call d 40 [vr (some 72) 3, vi 2002] (J63_1, H) _ _
              refine s_3_put (by omega) hS hco_37 (by (try simp only [List.length_append, List.length_cons, List.length_nil]); omega) (fun J74 e74 f74 g74 => ?_)
              show WP (Call d) 45 P X (75, [some (vr (some 72) 3), some (vi dep), some (vi (th tb n p)), some (vi (-1)), some (vi (th tb n ((pSum tb n p).2.2.2)))], [], (J74, H), 0, 0)
              have hK_39 : TOK J74 72 tb n := hK_35.fr (f74 2 (by omega)) (g74 73 (by omega) (by omega)) (g74 74 (by omega) (by omega))
              have hat_40 : ATP J74 72 ((pSum tb n (nx tb n ((pSum tb n p).2.2.2))).2.2.2) := FRL.p5 f74 g74 hat_36
              have hco_41 : COD J74 (((c ++ (pSum tb n p).2.1) ++ (pSum tb n (nx tb n ((pSum tb n p).2.2.2))).2.1) ++ [2002]) := e74
              have hu_42 : FRL I J74 := hu_38.tr ⟨fun s9 _ b9 => f74 s9 b9, g74⟩
              refine WP.go 2 (And.intro (And.intro (Nat.le_of_ble_eq_true rfl) (Nat.le_of_ble_eq_true rfl)) (And.intro (Or.inr rfl) (?_)))
              show P (some (vi 1)) (J74, H)
              have r8 := r7.trans ((pPlain_2 q32_1).trans (pCmp_4 q47_1 (.inl q56) q63_1))
              exact h.2 (by rw [r8]) _ (by rw [r8]; exact hat_40) (by rw [r8]; show COD _ (c ++ ((pSum tb n p).2.1 ++ (pSum tb n (nx tb n (pSum tb n p).2.2.2)).2.1 ++ [if th tb n (pSum tb n p).2.2.2 = 2060 then 2002 else 2003])); rw [if_pos q56]; simpa only [List.append_assoc] using hco_41) hu_42
          ·
            show WP (Call d) 45 P X (57, [some (vr (some 72) 3), some (vi dep), some (vi (th tb n p)), some (vi (-1)), some (vi (th tb n ((pSum tb n p).2.2.2)))], [vi 0], (J47_1, H), 0, 0)
            refine WP.go 1 (And.intro (fun (b57 : ¬ 0 = 0) => (absurd b57 (by omega))) (fun (b57 : 0 = 0) => ?_))
            show WP (Call d) 45 P X (58, [some (vr (some 72) 3), some (vi dep), some (vi (th tb n p)), some (vi (-1)), some (vi (th tb n ((pSum tb n p).2.2.2)))], [], (J47_1, H), 0, 0)
            refine WP.go 3 (And.intro (And.intro (Nat.le_of_ble_eq_true rfl) (Nat.le_of_ble_eq_true rfl)) (And.intro rfl (?_)))
            show Call d 81 [vr (some 72) 3, vi 2062] (J47_1, H) _ _
            refine s_skip_T72 (by omega) hS hK_24 hat_25 (by omega) ⟨(fun q60 J60 e60 f60 g60 => ?_), (fun q60_1 => ?_)⟩
            ·
              show WP (Call d) 45 P X (61, [some (vr (some 72) 3), some (vi dep), some (vi (th tb n p)), some (vi (-1)), some (vi (th tb n ((pSum tb n p).2.2.2)))], [vi 1], (J60, H), 0, 0)
              have nb9 := nx_bd (tb := tb) (n := n) (p := ((pSum tb n p).2.2.2)) (hK_24.at hat_25).2.1 (th_lt (tb := tb) (hK_24.at hat_25).2.2 (by have w9 := q60; omega))
              have hK_43 : TOK J60 72 tb n := hK_24.fr (e60 2 (by omega)) (f60 73 (by omega)) (f60 74 (by omega))
              have hat_44 : ATP J60 72 (nx tb n ((pSum tb n p).2.2.2)) := g60
              have pb9 := (hK_43.at hat_44).2
              have hco_45 : COD J60 (c ++ (pSum tb n p).2.1) := hco_26.fr (e60 5 (by omega)) (f60 75 (by omega))
              have hu_46 : FRL I J60 := hu_27.tr ⟨fun s9 a9 _ => e60 s9 a9, fun a9 q9 _ => f60 a9 q9⟩
              refine WP.go 1 (And.intro (fun (b61 : 1 = 0) => (absurd b61 (by omega))) (fun (b61 : ¬ 1 = 0) => ?_))
              show WP (Call d) 45 P X (62, [some (vr (some 72) 3), some (vi dep), some (vi (th tb n p)), some (vi (-1)), some (vi (th tb n ((pSum tb n p).2.2.2)))], [], (J60, H), 0, 0)
              refine WP.go 2 (And.intro (And.intro (Nat.le_of_ble_eq_true rfl) (Nat.le_of_ble_eq_true rfl)) (And.intro rfl (?_)))
              show Call d 48 [vr (some 72) 3] (J60, H) _ _
              refine s_3_readSum (by omega) hS hK_43 hat_44 hco_45 (by (try simp only [List.length_append, List.length_cons, List.length_nil]); omega) hn4 ⟨(fun q63_2 J63_2 e63_2 f63_2 => ?_), (fun q63_3 J63_3 e63_3 f63_3 g63_1 => ?_)⟩
              ·
                show WP (Call d) 45 P X (64, [some (vr (some 72) 3), some (vi dep), some (vi (th tb n p)), some (vi (-1)), some (vi (th tb n ((pSum tb n p).2.2.2)))], [vi 0], (J63_2, H), 0, 0)
                have hat_47 : ATP J63_2 72 (pSum tb n (nx tb n ((pSum tb n p).2.2.2))).1 := e63_2
                have hK_48 : TOK J63_2 72 tb n := f63_2.tk hK_43
                have hu_49 : FRL I J63_2 := hu_46.tr f63_2
                refine WP.go 1 (And.intro (fun (b64 : ¬ 0 = 0) => (absurd b64 (by omega))) (fun (b64 : 0 = 0) => ?_))
                show WP (Call d) 45 P X (65, [some (vr (some 72) 3), some (vi dep), some (vi (th tb n p)), some (vi (-1)), some (vi (th tb n ((pSum tb n p).2.2.2)))], [], (J63_2, H), 0, 0)
                refine WP.go 2 (And.intro (And.intro (Nat.le_of_ble_eq_true rfl) (Nat.le_of_ble_eq_true rfl)) (And.intro (Or.inl rfl) (?_)))
                show P (some (vi 0)) (J63_2, H)
                have r8 := r7.trans ((pPlain_2 q32_1).trans (pCmp_3 q47_1 (.inr q60) q63_2))
                exact h.1 (by rw [r8]; exact q63_2) _ (by rw [r8]; exact hat_47) hu_49
              ·
                show WP (Call d) 45 P X (64, [some (vr (some 72) 3), some (vi dep), some (vi (th tb n p)), some (vi (-1)), some (vi (th tb n ((pSum tb n p).2.2.2)))], [vi 1], (J63_3, H), 0, 0)
                have gp9 := (hK_43.at hat_44).2
                have hK_50 : TOK J63_3 72 tb n := g63_1.tk hK_43
                have hat_51 : ATP J63_3 72 (pSum tb n (nx tb n ((pSum tb n p).2.2.2))).2.2.2 := e63_3
                have hco_52 : COD J63_3 ((c ++ (pSum tb n p).2.1) ++ (pSum tb n (nx tb n ((pSum tb n p).2.2.2))).2.1) := f63_3
                have hu_53 : FRL I J63_3 := hu_46.tr g63_1
                have gd9 := pSum_gd (tb := tb) (p := (nx tb n ((pSum tb n p).2.2.2))) hn4 (by omega) (by omega) q63_3
                have ga9 := gd9.1
                have gb9 := gd9.2.1
                have gc9 := gd9.2.2.1
                refine WP.go 1 (And.intro (fun (b64 : ¬ 1 = 0) => ?_) (fun (b64 : 1 = 0) => (absurd b64 (by omega))))
                show WP (Call d) 45 P X (67, [some (vr (some 72) 3), some (vi dep), some (vi (th tb n p)), some (vi (-1)), some (vi (th tb n ((pSum tb n p).2.2.2)))], [], (J63_3, H), 0, 0)
                refine WP.go 4 (And.intro (fun (b70 : ¬ th tb n ((pSum tb n p).2.2.2) = 2060) => ?_) (fun (b70 : th tb n ((pSum tb n p).2.2.2) = 2060) => (absurd b70 (by omega))))
                show WP (Call d) 45 P X (73, [some (vr (some 72) 3), some (vi dep), some (vi (th tb n p)), some (vi (-1)), some (vi (th tb n ((pSum tb n p).2.2.2)))], [vr (some 72) 3], (J63_3, H), 0, 0)
                refine WP.go 2 (And.intro (And.intro (Nat.le_of_ble_eq_true rfl) (Nat.le_of_ble_eq_true rfl)) (And.intro rfl (?_)))
                show Call d 40 [vr (some 72) 3, vi 2003] (J63_3, H) _ _
                refine s_3_put (by omega) hS hco_52 (by (try simp only [List.length_append, List.length_cons, List.length_nil]); omega) (fun J74_1 e74_1 f74_1 g74_1 => ?_)
                show WP (Call d) 45 P X (75, [some (vr (some 72) 3), some (vi dep), some (vi (th tb n p)), some (vi (-1)), some (vi (th tb n ((pSum tb n p).2.2.2)))], [], (J74_1, H), 0, 0)
                have hK_54 : TOK J74_1 72 tb n := hK_50.fr (f74_1 2 (by omega)) (g74_1 73 (by omega) (by omega)) (g74_1 74 (by omega) (by omega))
                have hat_55 : ATP J74_1 72 ((pSum tb n (nx tb n ((pSum tb n p).2.2.2))).2.2.2) := FRL.p5 f74_1 g74_1 hat_51
                have hco_56 : COD J74_1 (((c ++ (pSum tb n p).2.1) ++ (pSum tb n (nx tb n ((pSum tb n p).2.2.2))).2.1) ++ [2003]) := e74_1
                have hu_57 : FRL I J74_1 := hu_53.tr ⟨fun s9 _ b9 => f74_1 s9 b9, g74_1⟩
                refine WP.go 2 (And.intro (And.intro (Nat.le_of_ble_eq_true rfl) (Nat.le_of_ble_eq_true rfl)) (And.intro (Or.inr rfl) (?_)))
                show P (some (vi 1)) (J74_1, H)
                have r8 := r7.trans ((pPlain_2 q32_1).trans (pCmp_4 q47_1 (.inr q60) q63_3))
                exact h.2 (by rw [r8]) _ (by rw [r8]; exact hat_55) (by rw [r8]; show COD _ (c ++ ((pSum tb n p).2.1 ++ (pSum tb n (nx tb n (pSum tb n p).2.2.2)).2.1 ++ [if th tb n (pSum tb n p).2.2.2 = 2060 then 2002 else 2003])); rw [if_neg q56_1]; simpa only [List.append_assoc] using hco_56) hu_57
            ·
              show WP (Call d) 45 P X (61, [some (vr (some 72) 3), some (vi dep), some (vi (th tb n p)), some (vi (-1)), some (vi (th tb n ((pSum tb n p).2.2.2)))], [vi 0], (J47_1, H), 0, 0)
              refine WP.go 1 (And.intro (fun (b61 : 0 = 0) => ?_) (fun (b61 : ¬ 0 = 0) => (absurd b61 (by omega))))
              show WP (Call d) 45 P X (65, [some (vr (some 72) 3), some (vi dep), some (vi (th tb n p)), some (vi (-1)), some (vi (th tb n ((pSum tb n p).2.2.2)))], [], (J47_1, H), 0, 0)
              refine WP.go 2 (And.intro (And.intro (Nat.le_of_ble_eq_true rfl) (Nat.le_of_ble_eq_true rfl)) (And.intro (Or.inl rfl) (?_)))
              show P (some (vi 0)) (J47_1, H)
              have r8 := r7.trans ((pPlain_2 q32_1).trans (pCmp_2 q47_1 (fun z => z.elim q56_1 q60_1)))
              exact h.1 (by rw [r8]; show (pSum tb n p).2.2.2 ≠ -1; omega) _ (by rw [r8]; exact hat_25) hu_27
    ·
      show WP (Call d) 45 P X (9, [some (vr (some 72) 3), some (vi dep), some (vi (th tb n p)), none, none], [], (I, H), 0, 0)
      refine WP.go 3 (And.intro (fun (b11 : ¬ dep < 6) => (absurd b11 (by omega))) (fun (b11 : dep < 6) => ?_))
      show WP (Call d) 45 P X (12, [some (vr (some 72) 3), some (vi dep), some (vi (th tb n p)), none, none], [], (I, H), 0, 0)
      refine WP.go 3 (And.intro (And.intro (Nat.le_of_ble_eq_true rfl) (Nat.le_of_ble_eq_true rfl)) (And.intro rfl (?_)))
      show Call d 81 [vr (some 72) 3, vi 1015] (I, H) _ _
      refine s_skip_T72 (by omega) hS hK hat (by omega) ⟨(fun q14_2 J14_1 e14_1 f14_1 g14_1 => ?_), (fun q14_3 => ?_)⟩
      ·
        show WP (Call d) 45 P X (15, [some (vr (some 72) 3), some (vi dep), some (vi (th tb n p)), none, none], [vi 1], (J14_1, H), 0, 0)
        have nb9 := nx_bd (tb := tb) (n := n) (p := p) (hK.at hat).2.1 (th_lt (tb := tb) (hK.at hat).2.2 (by have w9 := q14_2; omega))
        have hK_58 : TOK J14_1 72 tb n := hK.fr (e14_1 2 (by omega)) (f14_1 73 (by omega)) (f14_1 74 (by omega))
        have hat_59 : ATP J14_1 72 (nx tb n p) := g14_1
        have pb9 := (hK_58.at hat_59).2
        have hco_60 : COD J14_1 c := hco.fr (e14_1 5 (by omega)) (f14_1 75 (by omega))
        have hu_61 : FRL I J14_1 := hu.tr ⟨fun s9 a9 _ => e14_1 s9 a9, fun a9 q9 _ => f14_1 a9 q9⟩
        refine WP.go 1 (And.intro (fun (b15 : 1 = 0) => (absurd b15 (by omega))) (fun (b15 : ¬ 1 = 0) => ?_))
        show WP (Call d) 45 P X (16, [some (vr (some 72) 3), some (vi dep), some (vi (th tb n p)), none, none], [], (J14_1, H), 0, 0)
        exact absurd q14_2 b5
      ·
        show WP (Call d) 45 P X (15, [some (vr (some 72) 3), some (vi dep), some (vi (th tb n p)), none, none], [vi 0], (I, H), 0, 0)
        refine WP.go 1 (And.intro (fun (b15 : 0 = 0) => ?_) (fun (b15 : ¬ 0 = 0) => (absurd b15 (by omega))))
        show WP (Call d) 45 P X (21, [some (vr (some 72) 3), some (vi dep), some (vi (th tb n p)), none, none], [], (I, H), 0, 0)
        refine WP.go 3 (And.intro (And.intro (Nat.le_of_ble_eq_true rfl) (Nat.le_of_ble_eq_true rfl)) (And.intro rfl (?_)))
        show Call d 47 [vr (some 72) 3, vi dep] (I, H) _ _
        refine s_3_readBraced (by omega) hB hGB hS hK hat hco (by (try simp only [List.length_append, List.length_cons, List.length_nil]); omega) hn4 (by omega) (by omega) b8 ⟨(fun q23 J23 e23 f23 => ?_), (fun q23_1 J23_1 e23_1 f23_1 g23 => ?_)⟩
        ·
          show WP (Call d) 45 P X (24, [some (vr (some 72) 3), some (vi dep), some (vi (th tb n p)), none, none], [vi 0], (J23, H), 0, 0)
          have hat_62 : ATP J23 72 (pBrc tb n (B9 (nx tb n p))).1 := e23
          have hK_63 : TOK J23 72 tb n := f23.tk hK
          have hu_64 : FRL I J23 := hu.tr f23
          refine WP.go 1 (And.intro (fun (b24 : 0 = 0) => ?_) (fun (b24 : ¬ 0 = 0) => (absurd b24 (by omega))))
          show WP (Call d) 45 P X (27, [some (vr (some 72) 3), some (vi dep), some (vi (th tb n p)), none, none], [], (J23, H), 0, 0)
          refine WP.go 2 (And.intro (And.intro (Nat.le_of_ble_eq_true rfl) (Nat.le_of_ble_eq_true rfl)) (And.intro (Or.inl rfl) (?_)))
          show P (some (vi 0)) (J23, H)
          have r8 : (if th tb n p = 1015 then pNeg (A (nx tb n p)) else if th tb n p = 2040 then pBrc tb n (B9 (nx tb n p)) else pPlain tb n p) = pBrc tb n (B9 (nx tb n p)) := (if_neg b5).trans (if_pos b8)
          exact h.1 (by rw [r8]; exact q23) _ (by rw [r8]; exact hat_62) hu_64
        ·
          show WP (Call d) 45 P X (24, [some (vr (some 72) 3), some (vi dep), some (vi (th tb n p)), none, none], [vi 1], (J23_1, H), 0, 0)
          have gp9 := (hK.at hat).2
          have hK_65 : TOK J23_1 72 tb n := g23.tk hK
          have hat_66 : ATP J23_1 72 (pBrc tb n (B9 (nx tb n p))).2.2.2 := e23_1
          have hco_67 : COD J23_1 (c ++ (pBrc tb n (B9 (nx tb n p))).2.1) := f23_1
          have hu_68 : FRL I J23_1 := hu.tr g23
          have gd9 := pBrc_gd (p := p) (p' := nx tb n p) (by have w9 := nx_bd (tb := tb) hpb.1 (th_lt (tb := tb) hpb.2 (by omega)); omega) hpb.1 (hGB (nx tb n p) (by have w9 := nx_bd (tb := tb) hpb.1 (th_lt (tb := tb) hpb.2 (by omega)); omega) (by have w9 := nx_bd (tb := tb) hpb.1 (th_lt (tb := tb) hpb.2 (by omega)); omega)) q23_1
          have ga9 := gd9.1
          have gb9 := gd9.2.1
          have gc9 := gd9.2.2.1
          refine WP.go 1 (And.intro (fun (b24 : 1 = 0) => (absurd b24 (by omega))) (fun (b24 : ¬ 1 = 0) => ?_))
          show WP (Call d) 45 P X (25, [some (vr (some 72) 3), some (vi dep), some (vi (th tb n p)), none, none], [], (J23_1, H), 0, 0)
          refine WP.go 3 (And.intro (And.intro (Nat.le_of_ble_eq_true rfl) (Nat.le_of_ble_eq_true rfl)) (And.intro (Or.inr rfl) (?_)))
          show P (some (vi 1)) (J23_1, H)
          have r8 : (if th tb n p = 1015 then pNeg (A (nx tb n p)) else if th tb n p = 2040 then pBrc tb n (B9 (nx tb n p)) else pPlain tb n p) = pBrc tb n (B9 (nx tb n p)) := (if_neg b5).trans (if_pos b8)
          exact h.2 (by rw [r8]; exact q23_1) _ (by rw [r8]; exact hat_66) (by rw [r8]; exact hco_67) hu_68

theorem all_KC {D m : Nat} {tb : Int → Int} {n dep : Int} {A : Int → RS} (hn : n ≤ 400) (hD : 3 ≤ D) (hG : ∀ p, 0 ≤ p → p ≤ n → GD n true m p (A p)) (hA : KC D 45 dep 0 tb n A) : KC (D + 1) 44 dep 0 tb n (pAll tb n A) := by
  intro d P X I H p c hd hS hK hat hco hcl h
  exact s_3_readAll hd hA hG hS hK hat hco (by omega) hn hD h
theorem any_KC {D m : Nat} {tb : Int → Int} {n dep : Int} {A : Int → RS} (hn : n ≤ 400) (hD : 3 ≤ D) (hm : 1 ≤ m) (hG : ∀ p, 0 ≤ p → p ≤ n → GD n true m p (A p)) (hA : KC D 45 dep 0 tb n A) : KC (D + 2) 43 dep 0 tb n (pAny tb n A) := by
  intro d P X I H p c hd hS hK hat hco hcl h
  exact s_3_readAny (D := D + 1) hd (all_KC hn hD hG hA) (fun p a b => pAll_gd hn hm hG a b) hS hK hat hco (by omega) hn (by omega) h
theorem atom_KC {tb : Int → Int} {n : Int} (hn : n ≤ 400) (k : Nat) (hk : k ≤ 6) : KC (3 + 4 * k) 45 (6 - (k : Int)) 0 tb n (pAt tb n k) := by
  induction k with
  | zero =>
    intro d P X I H p c hd hS hK hat hco hcl h
    exact s_3_readAtom_z (D := 3) (m := 0) (k := 0) (A := fun _ => rE 0) (B9 := fun _ => rE 0) hd (by omega) hS hK hat hco (by omega) hn (by omega) h
  | succ k ih =>
    have a : KC (3 + 4 * k) 45 (6 - (k : Int)) 0 tb n (pAt tb n k) := @ih (by omega)
    have e1 : (6 : Int) - ((k + 1 : Nat) : Int) + 1 = 6 - (k : Int) := by omega
    intro d P X I H p c hd hS hK hat hco hcl h
    exact s_3_readAtom_s (D := 3 + 4 * k) (m := 3 + 2 * k) (k := k) (A := pAt tb n k) (B9 := pAny tb n (pAt tb n k)) (by omega) (by rw [e1]; exact a) (pAt_gd hn k) (by omega) (by rw [e1]; exact any_KC hn (by omega) (by omega) (pAt_gd hn k) a) (fun p a b => pAny_gd hn (by omega) (pAt_gd hn k) a b) (by omega) hS hK hat hco (by omega) hn (by omega) h
theorem any0_KC {tb : Int → Int} {n : Int} (hn : n ≤ 400) : KC 29 43 0 0 tb n (pAny tb n (pAt tb n 6)) := any_KC hn (by omega) (by omega) (pAt_gd hn 6) (atom_KC hn 6 (by omega))
