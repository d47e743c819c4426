/-- but for the reader's place, fault, depth and the reference's row, all is as it was -/
def FT (I J : qI) : Prop := (∀ s, s ≠ 9 → s ≠ 10 → s ≠ 11 → J 90 s = I 90 s) ∧ (∀ a, a ≠ 90 → a ≠ 91 → J a = I a)
theorem FT.rf (I : qI) : FT I I := ⟨fun _ _ _ _ => rfl, fun _ _ _ => rfl⟩
theorem FT.tr {I J K : qI} (h : FT I J) (g : FT J K) : FT I K := ⟨fun s a b c => (g.1 s a b c).trans (h.1 s a b c), fun a q w => (g.2 a q w).trans (h.2 a q w)⟩
theorem FT.n {I J K : qI} (h : FT I J) (g : F9 J K) : FT I K := ⟨fun s a b c => (g.1 s a).trans (h.1 s a b c), fun a q w => (g.2 a q).trans (h.2 a q w)⟩
theorem FT.g {I J K : qI} (h : FT I J) (s : ∀ s, s ≠ 9 → s ≠ 10 → K 90 s = J 90 s) (f : ∀ a, a ≠ 90 → K a = J a) : FT I K := ⟨fun t a b c => (s t a b).trans (h.1 t a b c), fun a q w => (f a q).trans (h.2 a q w)⟩
theorem FT.o {I J K : qI} (h : FT I J) {s v : Int} (hs : s = 9 ∨ s = 10 ∨ s = 11) (e : K 90 = fun t => if t = s then v else J 90 t) (f : ∀ a, a ≠ 90 → K a = J a) : FT I K := ⟨fun t a b c => by rw [e]; exact (if_neg (by omega)).trans (h.1 t a b c), fun a q w => (f a q).trans (h.2 a q w)⟩
theorem FT.c {I J K : qI} (h : FT I J) (f : ∀ a, a ≠ 91 → K a = J a) : FT I K := ⟨fun t a b c => by rw [f 90 (by omega)]; exact h.1 t a b c, fun a q w => (f a w).trans (h.2 a q w)⟩
theorem LTX.f0 {I J : qI} {tb : Int → Int} {n : Int} (h : LTX I tb n) (h7 : I 90 7 = -1) (f : FT I J) : LTX J tb n := by
  unfold LTX at *
  rw [f.1 7 (by omega) (by omega) (by omega), f.1 8 (by omega) (by omega) (by omega), f.2 94 (by omega) (by omega)]
  refine ⟨h.1, h.2.1, h.2.2.1, .inl ⟨h7, ?_⟩⟩
  rcases h.2.2.2 with z | z
  · exact z.2
  · omega
theorem uDia_up {J : qI} {μ : Int → Int} {i k v : Int} (hM : J 91 = μ) (hk : k = 9 + i) : (upI J 91 k v) 91 = uDia μ i v := by rw [upI_self, hM, hk]; rfl
theorem uWnd_s {K : qI} {μ : Int → Int} {a y v : Int} (hK : K 91 = uWnd μ a y v) (h : a ≤ y) : (upI K 91 (20 + y) v) 91 = uWnd μ a (y + 1) v := by
  rw [upI_self, hK]
  refine funext fun j => ?_
  unfold uWnd
  by_cases z : j = 20 + y
  · rw [if_pos z, if_pos (by omega)]
  · rw [if_neg z]
    by_cases w : 20 + a ≤ j ∧ j < 20 + y
    · rw [if_pos w, if_pos (by omega)]
    · rw [if_neg w, if_neg (by omega)]
theorem uWnd_n (μ : Int → Int) (a v : Int) : uWnd μ a a v = μ := funext fun j => if_neg (by omega)
theorem s_12_winds_p {d : Nat} {P : Option qV → qH → Prop} {X : Nat → qH → Prop} {I : qI} {H : qS} {tb : Int → Int} {n p : Int} {μ : Int → Int} (hd : 4 ≤ d) (hS : Shp H) (hM : I 91 = μ) (hL : LTX I tb n) (hR : RAT I tb n p) (hF : I 90 10 = -1) (h : ((twnd tb n μ 0 p).1 = -1 → ∀ J : qI, FT I J → RAT J tb n (twnd tb n μ 0 p).2.2 → J 90 10 = -1 → J 91 = (twnd tb n μ 0 p).2.1 → P none (J, H)) ∧ ((twnd tb n μ 0 p).1 ≠ -1 → ∀ J : qI, FT I J → J 90 10 = (twnd tb n μ 0 p).1 → (0 ≤ J 90 9 ∧ J 90 9 ≤ n) → (∀ j, j < 0 ∨ 230 ≤ j → J 91 j = μ j) → P none (J, H))) :
    Call d 194 [vr (some 90) 10, vi 1] (I, H) P X := by
  obtain ⟨d, rfl⟩ : ∃ e, d = e + 1 := ⟨d - 1, by omega⟩
  have hl91 := hS.l91
  have hu := FT.rf I
  have hpb := hR.bd
  have hb := hR.1
  show WP (Call d) 194 P X (0, [some (vr (some 90) 10), some (vi 1), none, none, none, none], [], (I, H), 0, 0)
  refine WP.go 4 (And.intro (And.intro (Nat.le_of_ble_eq_true rfl) (Nat.le_of_ble_eq_true rfl)) (And.intro rfl (?_)))
  show Call d 193 [vr (some 90) 10, vi 0, vi 99] (I, H) _ _
  refine s_12_figures (by omega) hS hL hR hF (by omega) ⟨(fun q3 J3 e3 f3 => ?_), (fun q3_1 J3_1 v3 e3_1 b3 vb3 s3 f3_1 => ?_)⟩
  ·
    show WP (Call d) 194 P X (4, [some (vr (some 90) 10), some (vi 1), none, none, none, none], [vi (th tb n p)], (J3, H), 0, 0)
    have hL_1 : LTX J3 tb n := f3.lt hL
    have b9 := hR.bd
    have hR_2 : RAT J3 tb n (nx tb n p) := rat_go hR (fun z => by have w := q3; omega) e3
    have hF_3 : J3 90 10 = -1 := (f3.1 10 (by omega)).trans hF
    have hu_4 : FT I J3 := hu.n f3
    have hM_5 : J3 91 = μ := (f3.2 91 (by omega)).trans hM
    have hb_6 : 0 ≤ J3 90 9 ∧ J3 90 9 ≤ n := hR_2.1
    refine WP.go 5 (And.intro (And.intro (Nat.le_of_ble_eq_true rfl) (Nat.le_of_ble_eq_true rfl)) (And.intro rfl (?_)))
    show Call d 193 [vr (some 90) 10, vi (th tb n p), vi 99] (J3, H) _ _
    refine s_12_figures (by omega) hS hL_1 hR_2 hF_3 (by omega) ⟨(fun q8 J8 e8 f8 => ?_), (fun q8_1 J8_1 v8 e8_1 b8 vb8 s8 f8_1 => ?_)⟩
    ·
      show WP (Call d) 194 P X (9, [some (vr (some 90) 10), some (vi 1), some (vi (th tb n p)), none, none, none], [vi (th tb n (nx tb n p))], (J8, H), 0, 0)
      have hL_7 : LTX J8 tb n := f8.lt hL_1
      have b9 := hR_2.bd
      have hR_8 : RAT J8 tb n (nx tb n (nx tb n p)) := rat_go hR_2 (fun z => by have w := q8; omega) e8
      have hF_9 : J8 90 10 = -1 := (f8.1 10 (by omega)).trans hF_3
      have hu_10 : FT I J8 := hu_4.n f8
      have hM_11 : J8 91 = μ := (f8.2 91 (by omega)).trans hM_5
      have hb_12 : 0 ≤ J8 90 9 ∧ J8 90 9 ≤ n := hR_8.1
      refine WP.go 5 (And.intro (And.intro (Nat.le_of_ble_eq_true rfl) (Nat.le_of_ble_eq_true rfl)) (And.intro rfl (?_)))
      show Call d 193 [vr (some 90) 10, vi 0, vi 20] (J8, H) _ _
      refine s_12_figures (by omega) hS hL_7 hR_8 hF_9 (by omega) ⟨(fun q13 J13 e13 f13 => ?_), (fun q13_1 J13_1 v13 e13_1 b13 vb13 s13 f13_1 => ?_)⟩
      ·
        show WP (Call d) 194 P X (14, [some (vr (some 90) 10), some (vi 1), some (vi (th tb n p)), some (vi (th tb n (nx tb n p))), none, none], [vi (th tb n (nx tb n (nx tb n p)))], (J13, H), 0, 0)
        have hL_13 : LTX J13 tb n := f13.lt hL_7
        have b9 := hR_8.bd
        have hR_14 : RAT J13 tb n (nx tb n (nx tb n (nx tb n p))) := rat_go hR_8 (fun z => by have w := q13; omega) e13
        have hF_15 : J13 90 10 = -1 := (f13.1 10 (by omega)).trans hF_9
        have hu_16 : FT I J13 := hu_10.n f13
        have hM_17 : J13 91 = μ := (f13.2 91 (by omega)).trans hM_11
        have hb_18 : 0 ≤ J13 90 9 ∧ J13 90 9 ≤ n := hR_14.1
        refine WP.go 3 (And.intro rfl (?_))
        refine rw_i (Q := fun x9 => WP (Call d) 194 P X (17, [some (vr (some 90) 10), some (vi 1), some (vi (th tb n p)), some (vi (th tb n (nx tb n p))), some (vi (th tb n (nx tb n (nx tb n p)))), none], [vi x9], (J13, H), 0, 0)) hF_15 ?_
        show WP (Call d) 194 P X (17, [some (vr (some 90) 10), some (vi 1), some (vi (th tb n p)), some (vi (th tb n (nx tb n p))), some (vi (th tb n (nx tb n (nx tb n p)))), none], [vi (-1)], (J13, H), 0, 0)
        refine WP.go 2 (And.intro (fun (b18 : (-1) = (-1)) => ?_) (fun (b18 : ¬ (-1) = (-1)) => (absurd b18 (by omega))))
        show WP (Call d) 194 P X (20, [some (vr (some 90) 10), some (vi 1), some (vi (th tb n p)), some (vi (th tb n (nx tb n p))), some (vi (th tb n (nx tb n (nx tb n p)))), none], [], (J13, H), 0, 0)
        refine WP.go 2 ?_
        show WP (Call d) 194 P X (22, [some (vr (some 90) 10), some (vi 1), some (vi (th tb n p)), some (vi (th tb n (nx tb n p))), some (vi (th tb n (nx tb n (nx tb n p)))), some (vi (th tb n p))], [], (J13, H), 0, 0)
        have lp22 : ∀ (n9 : Nat) (K : qI) (y9 : Int) (hm : 1 + th tb n (nx tb n p) - y9 < (n9 : Int)) (iv0 : th tb n p ≤ y9 ∧ y9 ≤ 1 + th tb n (nx tb n p)) (iv1 : K 91 = uWnd μ (th tb n p) y9 (1 * (th tb n (nx tb n (nx tb n p))))) (iv2 : ∀ a, a ≠ 91 → K a = J13 a), WP (Call d) 194 P X (22, [some (vr (some 90) 10), some (vi 1), some (vi (th tb n p)), some (vi (th tb n (nx tb n p))), some (vi (th tb n (nx tb n (nx tb n p)))), some (vi y9)], [], (K, H), 0, 0) := by
          intro n9
          induction n9 with
          | zero => intro K y9 hm iv0 iv1 iv2; exact absurd hm (by omega)
          | succ n9 ih22 =>
            intro K y9 hm iv0 iv1 iv2
            refine WP.go 3 (And.intro (fun (b24 : th tb n (nx tb n p) < y9) => ?_) (fun (b24 : ¬ th tb n (nx tb n p) < y9) => ?_))
            ·
              show WP (Call d) 194 P X (36, [some (vr (some 90) 10), some (vi 1), some (vi (th tb n p)), some (vi (th tb n (nx tb n p))), some (vi (th tb n (nx tb n (nx tb n p)))), some (vi y9)], [], (K, H), 0, 0)
              refine WP.go 1 (And.intro (And.intro (Nat.le_of_ble_eq_true rfl) (Nat.le_of_ble_eq_true rfl)) (?_))
              show P none (K, H)
              have r9 := twnd_4 (tb := tb) (n := n) (k := 0) (p := p) (μ := μ) q3 q8 q13
              have hy9 : y9 = 1 + th tb n (nx tb n p) := by omega
              exact h.1 (by rw [r9]) _ (hu_16.c iv2) (by rw [r9]; exact hR_14.cp (congrFun (iv2 90 (by omega)) 9)) ((congrFun (iv2 90 (by omega)) 10).trans hF_15) (by rw [r9, iv1, hy9]; exact congrArg (uWnd μ _ _) (by rw [if_pos rfl]; omega))
            ·
              show WP (Call d) 194 P X (25, [some (vr (some 90) 10), some (vi 1), some (vi (th tb n p)), some (vi (th tb n (nx tb n p))), some (vi (th tb n (nx tb n (nx tb n p)))), some (vi y9)], [], (K, H), 0, 0)
              refine WP.go 11 (And.intro rfl (Exists.intro 91 (And.intro hS.r90_1 (Exists.intro (20 + y9) (And.intro (wrp_a (by omega) (by omega)) (Exists.intro (1 * (th tb n (nx tb n (nx tb n p)))) (And.intro (wrp_a (by omega) (by omega)) (And.intro (And.intro rfl (And.intro (show 0 ≤ 20 + y9 from by omega) (show 20 + y9 < H.2.1 91 from by omega))) (Exists.intro (y9 + 1) (And.intro (wrp_a (by omega) (by omega)) (?_)))))))))))
              show WP (Call d) 194 P X (22, [some (vr (some 90) 10), some (vi 1), some (vi (th tb n p)), some (vi (th tb n (nx tb n p))), some (vi (th tb n (nx tb n (nx tb n p)))), some (vi (y9 + 1))], [], ((upI K 91 (20 + y9) (1 * (th tb n (nx tb n (nx tb n p))))), H), 0, 0)
              exact ih22 (upI K 91 (20 + y9) (1 * (th tb n (nx tb n (nx tb n p))))) (y9 + 1) (by omega) (by omega) (uWnd_s iv1 (by omega)) (fun a q => (upI_cell q).trans (iv2 a q))
        exact lp22 ((1 + th tb n (nx tb n p) - (th tb n p) : Int).toNat + 1) J13 (th tb n p) (by omega) (by omega) (by rw [uWnd_n]; exact hM_17) (fun _ _ => rfl)
      ·
        show WP (Call d) 194 P X (14, [some (vr (some 90) 10), some (vi 1), some (vi (th tb n p)), some (vi (th tb n (nx tb n p))), none, none], [vi v13], (J13_1, H), 0, 0)
        have hF_19 : J13_1 90 10 = (nx tb n (nx tb n p)) := e13_1
        have b9 := hR_8.bd
        have hM_20 : J13_1 91 = μ := (f13_1 91 (by omega)).trans hM_11
        have hu_21 : FT I J13_1 := hu_10.g s13 f13_1
        have hb_22 : 0 ≤ J13_1 90 9 ∧ J13_1 90 9 ≤ n := b13
        refine WP.go 3 (And.intro rfl (?_))
        refine rw_i (Q := fun x9 => WP (Call d) 194 P X (17, [some (vr (some 90) 10), some (vi 1), some (vi (th tb n p)), some (vi (th tb n (nx tb n p))), some (vi v13), none], [vi x9], (J13_1, H), 0, 0)) hF_19 ?_
        show WP (Call d) 194 P X (17, [some (vr (some 90) 10), some (vi 1), some (vi (th tb n p)), some (vi (th tb n (nx tb n p))), some (vi v13), none], [vi (nx tb n (nx tb n p))], (J13_1, H), 0, 0)
        refine WP.go 2 (And.intro (fun (b18 : (nx tb n (nx tb n p)) = (-1)) => (absurd b18 (by omega))) (fun (b18 : ¬ (nx tb n (nx tb n p)) = (-1)) => ?_))
        show WP (Call d) 194 P X (19, [some (vr (some 90) 10), some (vi 1), some (vi (th tb n p)), some (vi (th tb n (nx tb n p))), some (vi v13), none], [], (J13_1, H), 0, 0)
        refine WP.go 1 (And.intro (And.intro (Nat.le_of_ble_eq_true rfl) (Nat.le_of_ble_eq_true rfl)) (?_))
        show P none (J13_1, H)
        have r9 := twnd_3 (tb := tb) (n := n) (k := 0) (p := p) (μ := μ) q3 q8 q13_1
        exact h.2 (by rw [r9]; show (nx tb n (nx tb n p)) ≠ -1; omega) _ hu_21 (by rw [r9]; exact hF_19) hb_22 (fun j _ => by rw [hM_20])
    ·
      show WP (Call d) 194 P X (9, [some (vr (some 90) 10), some (vi 1), some (vi (th tb n p)), none, none, none], [vi v8], (J8_1, H), 0, 0)
      have hF_23 : J8_1 90 10 = (nx tb n p) := e8_1
      have b9 := hR_2.bd
      have hM_24 : J8_1 91 = μ := (f8_1 91 (by omega)).trans hM_5
      have hu_25 : FT I J8_1 := hu_4.g s8 f8_1
      have hb_26 : 0 ≤ J8_1 90 9 ∧ J8_1 90 9 ≤ n := b8
      refine WP.go 5 (And.intro (And.intro (Nat.le_of_ble_eq_true rfl) (Nat.le_of_ble_eq_true rfl)) (And.intro rfl (?_)))
      show Call d 193 [vr (some 90) 10, vi 0, vi 20] (J8_1, H) _ _
      refine s_12_figures_f (by omega) (fun z9 => by have w9 := hF_23; omega) ?_
      show WP (Call d) 194 P X (14, [some (vr (some 90) 10), some (vi 1), some (vi (th tb n p)), some (vi v8), none, none], [vi 0], (J8_1, H), 0, 0)
      refine WP.go 3 (And.intro rfl (?_))
      refine rw_i (Q := fun x9 => WP (Call d) 194 P X (17, [some (vr (some 90) 10), some (vi 1), some (vi (th tb n p)), some (vi v8), some (vi 0), none], [vi x9], (J8_1, H), 0, 0)) hF_23 ?_
      show WP (Call d) 194 P X (17, [some (vr (some 90) 10), some (vi 1), some (vi (th tb n p)), some (vi v8), some (vi 0), none], [vi (nx tb n p)], (J8_1, H), 0, 0)
      refine WP.go 2 (And.intro (fun (b18 : (nx tb n p) = (-1)) => (absurd b18 (by omega))) (fun (b18 : ¬ (nx tb n p) = (-1)) => ?_))
      show WP (Call d) 194 P X (19, [some (vr (some 90) 10), some (vi 1), some (vi (th tb n p)), some (vi v8), some (vi 0), none], [], (J8_1, H), 0, 0)
      refine WP.go 1 (And.intro (And.intro (Nat.le_of_ble_eq_true rfl) (Nat.le_of_ble_eq_true rfl)) (?_))
      show P none (J8_1, H)
      have r9 := twnd_2 (tb := tb) (n := n) (k := 0) (p := p) (μ := μ) q3 q8_1
      exact h.2 (by rw [r9]; show (nx tb n p) ≠ -1; omega) _ hu_25 (by rw [r9]; exact hF_23) hb_26 (fun j _ => by rw [hM_24])
  ·
    show WP (Call d) 194 P X (4, [some (vr (some 90) 10), some (vi 1), none, none, none, none], [vi v3], (J3_1, H), 0, 0)
    have hF_27 : J3_1 90 10 = p := e3_1
    have b9 := hR.bd
    have hM_28 : J3_1 91 = μ := (f3_1 91 (by omega)).trans hM
    have hu_29 : FT I J3_1 := hu.g s3 f3_1
    have hb_30 : 0 ≤ J3_1 90 9 ∧ J3_1 90 9 ≤ n := b3
    refine WP.go 5 (And.intro (And.intro (Nat.le_of_ble_eq_true rfl) (Nat.le_of_ble_eq_true rfl)) (And.intro rfl (?_)))
    show Call d 193 [vr (some 90) 10, vi v3, vi 99] (J3_1, H) _ _
    refine s_12_figures_f (by omega) (fun z9 => by have w9 := hF_27; omega) ?_
    show WP (Call d) 194 P X (9, [some (vr (some 90) 10), some (vi 1), some (vi v3), none, none, none], [vi 0], (J3_1, H), 0, 0)
    refine WP.go 5 (And.intro (And.intro (Nat.le_of_ble_eq_true rfl) (Nat.le_of_ble_eq_true rfl)) (And.intro rfl (?_)))
    show Call d 193 [vr (some 90) 10, vi 0, vi 20] (J3_1, H) _ _
    refine s_12_figures_f (by omega) (fun z9 => by have w9 := hF_27; omega) ?_
    show WP (Call d) 194 P X (14, [some (vr (some 90) 10), some (vi 1), some (vi v3), some (vi 0), none, none], [vi 0], (J3_1, H), 0, 0)
    refine WP.go 3 (And.intro rfl (?_))
    refine rw_i (Q := fun x9 => WP (Call d) 194 P X (17, [some (vr (some 90) 10), some (vi 1), some (vi v3), some (vi 0), some (vi 0), none], [vi x9], (J3_1, H), 0, 0)) hF_27 ?_
    show WP (Call d) 194 P X (17, [some (vr (some 90) 10), some (vi 1), some (vi v3), some (vi 0), some (vi 0), none], [vi p], (J3_1, H), 0, 0)
    refine WP.go 2 (And.intro (fun (b18 : p = (-1)) => (absurd b18 (by omega))) (fun (b18 : ¬ p = (-1)) => ?_))
    show WP (Call d) 194 P X (19, [some (vr (some 90) 10), some (vi 1), some (vi v3), some (vi 0), some (vi 0), none], [], (J3_1, H), 0, 0)
    refine WP.go 1 (And.intro (And.intro (Nat.le_of_ble_eq_true rfl) (Nat.le_of_ble_eq_true rfl)) (?_))
    show P none (J3_1, H)
    have r9 := twnd_1 (tb := tb) (n := n) (k := 0) (p := p) (μ := μ) q3_1
    exact h.2 (by rw [r9]; show p ≠ -1; omega) _ hu_29 (by rw [r9]; exact hF_27) hb_30 (fun j _ => by rw [hM_28])

theorem s_12_winds_m {d : Nat} {P : Option qV → qH → Prop} {X : Nat → qH → Prop} {I : qI} {H : qS} {tb : Int → Int} {n p : Int} {μ : Int → Int} (hd : 4 ≤ d) (hS : Shp H) (hM : I 91 = μ) (hL : LTX I tb n) (hR : RAT I tb n p) (hF : I 90 10 = -1) (h : ((twnd tb n μ 1 p).1 = -1 → ∀ J : qI, FT I J → RAT J tb n (twnd tb n μ 1 p).2.2 → J 90 10 = -1 → J 91 = (twnd tb n μ 1 p).2.1 → P none (J, H)) ∧ ((twnd tb n μ 1 p).1 ≠ -1 → ∀ J : qI, FT I J → J 90 10 = (twnd tb n μ 1 p).1 → (0 ≤ J 90 9 ∧ J 90 9 ≤ n) → (∀ j, j < 0 ∨ 230 ≤ j → J 91 j = μ j) → P none (J, H))) :
    Call d 194 [vr (some 90) 10, vi (-1)] (I, H) P X := by
  obtain ⟨d, rfl⟩ : ∃ e, d = e + 1 := ⟨d - 1, by omega⟩
  have hl91 := hS.l91
  have hu := FT.rf I
  have hpb := hR.bd
  have hb := hR.1
  show WP (Call d) 194 P X (0, [some (vr (some 90) 10), some (vi (-1)), none, none, none, none], [], (I, H), 0, 0)
  refine WP.go 4 (And.intro (And.intro (Nat.le_of_ble_eq_true rfl) (Nat.le_of_ble_eq_true rfl)) (And.intro rfl (?_)))
  show Call d 193 [vr (some 90) 10, vi 0, vi 99] (I, H) _ _
  refine s_12_figures (by omega) hS hL hR hF (by omega) ⟨(fun q3 J3 e3 f3 => ?_), (fun q3_1 J3_1 v3 e3_1 b3 vb3 s3 f3_1 => ?_)⟩
  ·
    show WP (Call d) 194 P X (4, [some (vr (some 90) 10), some (vi (-1)), none, none, none, none], [vi (th tb n p)], (J3, H), 0, 0)
    have hL_1 : LTX J3 tb n := f3.lt hL
    have b9 := hR.bd
    have hR_2 : RAT J3 tb n (nx tb n p) := rat_go hR (fun z => by have w := q3; omega) e3
    have hF_3 : J3 90 10 = -1 := (f3.1 10 (by omega)).trans hF
    have hu_4 : FT I J3 := hu.n f3
    have hM_5 : J3 91 = μ := (f3.2 91 (by omega)).trans hM
    have hb_6 : 0 ≤ J3 90 9 ∧ J3 90 9 ≤ n := hR_2.1
    refine WP.go 5 (And.intro (And.intro (Nat.le_of_ble_eq_true rfl) (Nat.le_of_ble_eq_true rfl)) (And.intro rfl (?_)))
    show Call d 193 [vr (some 90) 10, vi (th tb n p), vi 99] (J3, H) _ _
    refine s_12_figures (by omega) hS hL_1 hR_2 hF_3 (by omega) ⟨(fun q8 J8 e8 f8 => ?_), (fun q8_1 J8_1 v8 e8_1 b8 vb8 s8 f8_1 => ?_)⟩
    ·
      show WP (Call d) 194 P X (9, [some (vr (some 90) 10), some (vi (-1)), some (vi (th tb n p)), none, none, none], [vi (th tb n (nx tb n p))], (J8, H), 0, 0)
      have hL_7 : LTX J8 tb n := f8.lt hL_1
      have b9 := hR_2.bd
      have hR_8 : RAT J8 tb n (nx tb n (nx tb n p)) := rat_go hR_2 (fun z => by have w := q8; omega) e8
      have hF_9 : J8 90 10 = -1 := (f8.1 10 (by omega)).trans hF_3
      have hu_10 : FT I J8 := hu_4.n f8
      have hM_11 : J8 91 = μ := (f8.2 91 (by omega)).trans hM_5
      have hb_12 : 0 ≤ J8 90 9 ∧ J8 90 9 ≤ n := hR_8.1
      refine WP.go 5 (And.intro (And.intro (Nat.le_of_ble_eq_true rfl) (Nat.le_of_ble_eq_true rfl)) (And.intro rfl (?_)))
      show Call d 193 [vr (some 90) 10, vi 0, vi 20] (J8, H) _ _
      refine s_12_figures (by omega) hS hL_7 hR_8 hF_9 (by omega) ⟨(fun q13 J13 e13 f13 => ?_), (fun q13_1 J13_1 v13 e13_1 b13 vb13 s13 f13_1 => ?_)⟩
      ·
        show WP (Call d) 194 P X (14, [some (vr (some 90) 10), some (vi (-1)), some (vi (th tb n p)), some (vi (th tb n (nx tb n p))), none, none], [vi (th tb n (nx tb n (nx tb n p)))], (J13, H), 0, 0)
        have hL_13 : LTX J13 tb n := f13.lt hL_7
        have b9 := hR_8.bd
        have hR_14 : RAT J13 tb n (nx tb n (nx tb n (nx tb n p))) := rat_go hR_8 (fun z => by have w := q13; omega) e13
        have hF_15 : J13 90 10 = -1 := (f13.1 10 (by omega)).trans hF_9
        have hu_16 : FT I J13 := hu_10.n f13
        have hM_17 : J13 91 = μ := (f13.2 91 (by omega)).trans hM_11
        have hb_18 : 0 ≤ J13 90 9 ∧ J13 90 9 ≤ n := hR_14.1
        refine WP.go 3 (And.intro rfl (?_))
        refine rw_i (Q := fun x9 => WP (Call d) 194 P X (17, [some (vr (some 90) 10), some (vi (-1)), some (vi (th tb n p)), some (vi (th tb n (nx tb n p))), some (vi (th tb n (nx tb n (nx tb n p)))), none], [vi x9], (J13, H), 0, 0)) hF_15 ?_
        show WP (Call d) 194 P X (17, [some (vr (some 90) 10), some (vi (-1)), some (vi (th tb n p)), some (vi (th tb n (nx tb n p))), some (vi (th tb n (nx tb n (nx tb n p)))), none], [vi (-1)], (J13, H), 0, 0)
        refine WP.go 2 (And.intro (fun (b18 : (-1) = (-1)) => ?_) (fun (b18 : ¬ (-1) = (-1)) => (absurd b18 (by omega))))
        show WP (Call d) 194 P X (20, [some (vr (some 90) 10), some (vi (-1)), some (vi (th tb n p)), some (vi (th tb n (nx tb n p))), some (vi (th tb n (nx tb n (nx tb n p)))), none], [], (J13, H), 0, 0)
        refine WP.go 2 ?_
        show WP (Call d) 194 P X (22, [some (vr (some 90) 10), some (vi (-1)), some (vi (th tb n p)), some (vi (th tb n (nx tb n p))), some (vi (th tb n (nx tb n (nx tb n p)))), some (vi (th tb n p))], [], (J13, H), 0, 0)
        have lp22 : ∀ (n9 : Nat) (K : qI) (y9 : Int) (hm : 1 + th tb n (nx tb n p) - y9 < (n9 : Int)) (iv0 : th tb n p ≤ y9 ∧ y9 ≤ 1 + th tb n (nx tb n p)) (iv1 : K 91 = uWnd μ (th tb n p) y9 ((-1) * (th tb n (nx tb n (nx tb n p))))) (iv2 : ∀ a, a ≠ 91 → K a = J13 a), WP (Call d) 194 P X (22, [some (vr (some 90) 10), some (vi (-1)), some (vi (th tb n p)), some (vi (th tb n (nx tb n p))), some (vi (th tb n (nx tb n (nx tb n p)))), some (vi y9)], [], (K, H), 0, 0) := by
          intro n9
          induction n9 with
          | zero => intro K y9 hm iv0 iv1 iv2; exact absurd hm (by omega)
          | succ n9 ih22 =>
            intro K y9 hm iv0 iv1 iv2
            refine WP.go 3 (And.intro (fun (b24 : th tb n (nx tb n p) < y9) => ?_) (fun (b24 : ¬ th tb n (nx tb n p) < y9) => ?_))
            ·
              show WP (Call d) 194 P X (36, [some (vr (some 90) 10), some (vi (-1)), some (vi (th tb n p)), some (vi (th tb n (nx tb n p))), some (vi (th tb n (nx tb n (nx tb n p)))), some (vi y9)], [], (K, H), 0, 0)
              refine WP.go 1 (And.intro (And.intro (Nat.le_of_ble_eq_true rfl) (Nat.le_of_ble_eq_true rfl)) (?_))
              show P none (K, H)
              have r9 := twnd_4 (tb := tb) (n := n) (k := 1) (p := p) (μ := μ) q3 q8 q13
              have hy9 : y9 = 1 + th tb n (nx tb n p) := by omega
              exact h.1 (by rw [r9]) _ (hu_16.c iv2) (by rw [r9]; exact hR_14.cp (congrFun (iv2 90 (by omega)) 9)) ((congrFun (iv2 90 (by omega)) 10).trans hF_15) (by rw [r9, iv1, hy9]; exact congrArg (uWnd μ _ _) (by rw [if_neg (by omega)]; omega))
            ·
              show WP (Call d) 194 P X (25, [some (vr (some 90) 10), some (vi (-1)), some (vi (th tb n p)), some (vi (th tb n (nx tb n p))), some (vi (th tb n (nx tb n (nx tb n p)))), some (vi y9)], [], (K, H), 0, 0)
              refine WP.go 11 (And.intro rfl (Exists.intro 91 (And.intro hS.r90_1 (Exists.intro (20 + y9) (And.intro (wrp_a (by omega) (by omega)) (Exists.intro ((-1) * (th tb n (nx tb n (nx tb n p)))) (And.intro (wrp_a (by omega) (by omega)) (And.intro (And.intro rfl (And.intro (show 0 ≤ 20 + y9 from by omega) (show 20 + y9 < H.2.1 91 from by omega))) (Exists.intro (y9 + 1) (And.intro (wrp_a (by omega) (by omega)) (?_)))))))))))
              show WP (Call d) 194 P X (22, [some (vr (some 90) 10), some (vi (-1)), some (vi (th tb n p)), some (vi (th tb n (nx tb n p))), some (vi (th tb n (nx tb n (nx tb n p)))), some (vi (y9 + 1))], [], ((upI K 91 (20 + y9) ((-1) * (th tb n (nx tb n (nx tb n p))))), H), 0, 0)
              exact ih22 (upI K 91 (20 + y9) ((-1) * (th tb n (nx tb n (nx tb n p))))) (y9 + 1) (by omega) (by omega) (uWnd_s iv1 (by omega)) (fun a q => (upI_cell q).trans (iv2 a q))
        exact lp22 ((1 + th tb n (nx tb n p) - (th tb n p) : Int).toNat + 1) J13 (th tb n p) (by omega) (by omega) (by rw [uWnd_n]; exact hM_17) (fun _ _ => rfl)
      ·
        show WP (Call d) 194 P X (14, [some (vr (some 90) 10), some (vi (-1)), some (vi (th tb n p)), some (vi (th tb n (nx tb n p))), none, none], [vi v13], (J13_1, H), 0, 0)
        have hF_19 : J13_1 90 10 = (nx tb n (nx tb n p)) := e13_1
        have b9 := hR_8.bd
        have hM_20 : J13_1 91 = μ := (f13_1 91 (by omega)).trans hM_11
        have hu_21 : FT I J13_1 := hu_10.g s13 f13_1
        have hb_22 : 0 ≤ J13_1 90 9 ∧ J13_1 90 9 ≤ n := b13
        refine WP.go 3 (And.intro rfl (?_))
        refine rw_i (Q := fun x9 => WP (Call d) 194 P X (17, [some (vr (some 90) 10), some (vi (-1)), some (vi (th tb n p)), some (vi (th tb n (nx tb n p))), some (vi v13), none], [vi x9], (J13_1, H), 0, 0)) hF_19 ?_
        show WP (Call d) 194 P X (17, [some (vr (some 90) 10), some (vi (-1)), some (vi (th tb n p)), some (vi (th tb n (nx tb n p))), some (vi v13), none], [vi (nx tb n (nx tb n p))], (J13_1, H), 0, 0)
        refine WP.go 2 (And.intro (fun (b18 : (nx tb n (nx tb n p)) = (-1)) => (absurd b18 (by omega))) (fun (b18 : ¬ (nx tb n (nx tb n p)) = (-1)) => ?_))
        show WP (Call d) 194 P X (19, [some (vr (some 90) 10), some (vi (-1)), some (vi (th tb n p)), some (vi (th tb n (nx tb n p))), some (vi v13), none], [], (J13_1, H), 0, 0)
        refine WP.go 1 (And.intro (And.intro (Nat.le_of_ble_eq_true rfl) (Nat.le_of_ble_eq_true rfl)) (?_))
        show P none (J13_1, H)
        have r9 := twnd_3 (tb := tb) (n := n) (k := 1) (p := p) (μ := μ) q3 q8 q13_1
        exact h.2 (by rw [r9]; show (nx tb n (nx tb n p)) ≠ -1; omega) _ hu_21 (by rw [r9]; exact hF_19) hb_22 (fun j _ => by rw [hM_20])
    ·
      show WP (Call d) 194 P X (9, [some (vr (some 90) 10), some (vi (-1)), some (vi (th tb n p)), none, none, none], [vi v8], (J8_1, H), 0, 0)
      have hF_23 : J8_1 90 10 = (nx tb n p) := e8_1
      have b9 := hR_2.bd
      have hM_24 : J8_1 91 = μ := (f8_1 91 (by omega)).trans hM_5
      have hu_25 : FT I J8_1 := hu_4.g s8 f8_1
      have hb_26 : 0 ≤ J8_1 90 9 ∧ J8_1 90 9 ≤ n := b8
      refine WP.go 5 (And.intro (And.intro (Nat.le_of_ble_eq_true rfl) (Nat.le_of_ble_eq_true rfl)) (And.intro rfl (?_)))
      show Call d 193 [vr (some 90) 10, vi 0, vi 20] (J8_1, H) _ _
      refine s_12_figures_f (by omega) (fun z9 => by have w9 := hF_23; omega) ?_
      show WP (Call d) 194 P X (14, [some (vr (some 90) 10), some (vi (-1)), some (vi (th tb n p)), some (vi v8), none, none], [vi 0], (J8_1, H), 0, 0)
      refine WP.go 3 (And.intro rfl (?_))
      refine rw_i (Q := fun x9 => WP (Call d) 194 P X (17, [some (vr (some 90) 10), some (vi (-1)), some (vi (th tb n p)), some (vi v8), some (vi 0), none], [vi x9], (J8_1, H), 0, 0)) hF_23 ?_
      show WP (Call d) 194 P X (17, [some (vr (some 90) 10), some (vi (-1)), some (vi (th tb n p)), some (vi v8), some (vi 0), none], [vi (nx tb n p)], (J8_1, H), 0, 0)
      refine WP.go 2 (And.intro (fun (b18 : (nx tb n p) = (-1)) => (absurd b18 (by omega))) (fun (b18 : ¬ (nx tb n p) = (-1)) => ?_))
      show WP (Call d) 194 P X (19, [some (vr (some 90) 10), some (vi (-1)), some (vi (th tb n p)), some (vi v8), some (vi 0), none], [], (J8_1, H), 0, 0)
      refine WP.go 1 (And.intro (And.intro (Nat.le_of_ble_eq_true rfl) (Nat.le_of_ble_eq_true rfl)) (?_))
      show P none (J8_1, H)
      have r9 := twnd_2 (tb := tb) (n := n) (k := 1) (p := p) (μ := μ) q3 q8_1
      exact h.2 (by rw [r9]; show (nx tb n p) ≠ -1; omega) _ hu_25 (by rw [r9]; exact hF_23) hb_26 (fun j _ => by rw [hM_24])
  ·
    show WP (Call d) 194 P X (4, [some (vr (some 90) 10), some (vi (-1)), none, none, none, none], [vi v3], (J3_1, H), 0, 0)
    have hF_27 : J3_1 90 10 = p := e3_1
    have b9 := hR.bd
    have hM_28 : J3_1 91 = μ := (f3_1 91 (by omega)).trans hM
    have hu_29 : FT I J3_1 := hu.g s3 f3_1
    have hb_30 : 0 ≤ J3_1 90 9 ∧ J3_1 90 9 ≤ n := b3
    refine WP.go 5 (And.intro (And.intro (Nat.le_of_ble_eq_true rfl) (Nat.le_of_ble_eq_true rfl)) (And.intro rfl (?_)))
    show Call d 193 [vr (some 90) 10, vi v3, vi 99] (J3_1, H) _ _
    refine s_12_figures_f (by omega) (fun z9 => by have w9 := hF_27; omega) ?_
    show WP (Call d) 194 P X (9, [some (vr (some 90) 10), some (vi (-1)), some (vi v3), none, none, none], [vi 0], (J3_1, H), 0, 0)
    refine WP.go 5 (And.intro (And.intro (Nat.le_of_ble_eq_true rfl) (Nat.le_of_ble_eq_true rfl)) (And.intro rfl (?_)))
    show Call d 193 [vr (some 90) 10, vi 0, vi 20] (J3_1, H) _ _
    refine s_12_figures_f (by omega) (fun z9 => by have w9 := hF_27; omega) ?_
    show WP (Call d) 194 P X (14, [some (vr (some 90) 10), some (vi (-1)), some (vi v3), some (vi 0), none, none], [vi 0], (J3_1, H), 0, 0)
    refine WP.go 3 (And.intro rfl (?_))
    refine rw_i (Q := fun x9 => WP (Call d) 194 P X (17, [some (vr (some 90) 10), some (vi (-1)), some (vi v3), some (vi 0), some (vi 0), none], [vi x9], (J3_1, H), 0, 0)) hF_27 ?_
    show WP (Call d) 194 P X (17, [some (vr (some 90) 10), some (vi (-1)), some (vi v3), some (vi 0), some (vi 0), none], [vi p], (J3_1, H), 0, 0)
    refine WP.go 2 (And.intro (fun (b18 : p = (-1)) => (absurd b18 (by omega))) (fun (b18 : ¬ p = (-1)) => ?_))
    show WP (Call d) 194 P X (19, [some (vr (some 90) 10), some (vi (-1)), some (vi v3), some (vi 0), some (vi 0), none], [], (J3_1, H), 0, 0)
    refine WP.go 1 (And.intro (And.intro (Nat.le_of_ble_eq_true rfl) (Nat.le_of_ble_eq_true rfl)) (?_))
    show P none (J3_1, H)
    have r9 := twnd_1 (tb := tb) (n := n) (k := 1) (p := p) (μ := μ) q3_1
    exact h.2 (by rw [r9]; show p ≠ -1; omega) _ hu_29 (by rw [r9]; exact hF_27) hb_30 (fun j _ => by rw [hM_28])

theorem town_house {d : Nat} {P : Option qV → qH → Prop} {X : Nat → qH → Prop} {I : qI} {H : qS} (hd : 4 ≤ d) {μ : Int → Int} {b9 p9 c h9 : Int} (hS : Shp H) (hM : I 91 = μ) (h1 : 0 ≤ μ 1 ∧ μ 1 < 10) (h : ∀ J : qI, J 91 = uHou μ c h9 → (∀ a, a ≠ 91 → J a = I a) → P none (J, H)) :
    WP (Call d) 195 P X (50, [some (vr (some 90) 10), some (vi b9), some (vi p9), some (vi c), some (vi h9), none], [], (I, H), 0, 0) := by
  have hl91 := hS.l91
  obtain ⟨J0, hJ0⟩ : ∃ J0 : qI, J0 = I := ⟨I, rfl⟩
  have hu : ∀ a, a ≠ 91 → I a = J0 a := fun a _ => by rw [hJ0]
  refine WP.go 4 (And.intro rfl (Exists.intro 91 (And.intro hS.r90_1 (And.intro (And.intro rfl (And.intro (show 0 ≤ 1 from by omega) (show 1 < H.2.1 91 from by omega))) (?_)))))
  refine rw_i (Q := fun x9 => WP (Call d) 195 P X (54, [some (vr (some 90) 10), some (vi b9), some (vi p9), some (vi c), some (vi h9), none], [vi x9], (I, H), 0, 0)) (congrFun hM _) ?_
  show WP (Call d) 195 P X (54, [some (vr (some 90) 10), some (vi b9), some (vi p9), some (vi c), some (vi h9), none], [vi (μ 1)], (I, H), 0, 0)
  refine WP.go 10 (And.intro rfl (Exists.intro 91 (And.intro hS.r90_1 (Exists.intro (2 * (μ 1)) (And.intro (wrp_a (by omega) (by omega)) (Exists.intro (120 + (2 * (μ 1))) (And.intro (wrp_a (by omega) (by omega)) (And.intro (And.intro rfl (And.intro (show 0 ≤ 120 + (2 * (μ 1)) from by omega) (show 120 + (2 * (μ 1)) < H.2.1 91 from by omega))) (?_)))))))))
  show WP (Call d) 195 P X (64, [some (vr (some 90) 10), some (vi b9), some (vi p9), some (vi c), some (vi h9), some (vi (μ 1))], [], ((upI I 91 (120 + (2 * (μ 1))) c), H), 0, 0)
  generalize hq_W64 : (upI I 91 (120 + (2 * (μ 1))) c) = W64
  have e_W64 : W64 91 = (fun j => if j = (120 + (2 * (μ 1))) then c else I 91 j) := by rw [← hq_W64]; exact upI_self _ _ _ _
  have f_W64 : ∀ a, a ≠ 91 → W64 a = I a := fun a q => by rw [← hq_W64]; exact upI_cell q
  have hM_W64 : W64 91 = st μ (120 + 2 * μ 1) c := by
    have x1 : (120 + (2 * (μ 1))) = 120 + 2 * μ 1 := by omega
    have x2 : c = c := by omega
    rw [e_W64, hM, x1, x2]; rfl
  have hu_W64 : ∀ a, a ≠ 91 → W64 a = J0 a := fun a q => (f_W64 a q).trans (hu a q)
  refine WP.go 11 (And.intro rfl (Exists.intro 91 (And.intro hS.r90_1 (Exists.intro (2 * (μ 1)) (And.intro (wrp_a (by omega) (by omega)) (Exists.intro (120 + (2 * (μ 1))) (And.intro (wrp_a (by omega) (by omega)) (Exists.intro ((120 + (2 * (μ 1))) + 1) (And.intro (wrp_a (by omega) (by omega)) (And.intro (And.intro rfl (And.intro (show 0 ≤ (120 + (2 * (μ 1))) + 1 from by omega) (show (120 + (2 * (μ 1))) + 1 < H.2.1 91 from by omega))) (?_)))))))))))
  show WP (Call d) 195 P X (75, [some (vr (some 90) 10), some (vi b9), some (vi p9), some (vi c), some (vi h9), some (vi (μ 1))], [], ((upI W64 91 ((120 + (2 * (μ 1))) + 1) h9), H), 0, 0)
  generalize hq_W75 : (upI W64 91 ((120 + (2 * (μ 1))) + 1) h9) = W75
  have e_W75 : W75 91 = (fun j => if j = ((120 + (2 * (μ 1))) + 1) then h9 else W64 91 j) := by rw [← hq_W75]; exact upI_self _ _ _ _
  have f_W75 : ∀ a, a ≠ 91 → W75 a = W64 a := fun a q => by rw [← hq_W75]; exact upI_cell q
  have hM_W75 : W75 91 = st (st μ (120 + 2 * μ 1) c) (121 + 2 * μ 1) h9 := by
    have x1 : ((120 + (2 * (μ 1))) + 1) = 121 + 2 * μ 1 := by omega
    have x2 : h9 = h9 := by omega
    rw [e_W75, hM_W64, x1, x2]; rfl
  have hu_W75 : ∀ a, a ≠ 91 → W75 a = J0 a := fun a q => (f_W75 a q).trans (hu_W64 a q)
  refine WP.go 7 (And.intro rfl (Exists.intro 91 (And.intro hS.r90_1 (Exists.intro (200 + (μ 1)) (And.intro (wrp_a (by omega) (by omega)) (And.intro (And.intro rfl (And.intro (show 0 ≤ 200 + (μ 1) from by omega) (show 200 + (μ 1) < H.2.1 91 from by omega))) (?_)))))))
  show WP (Call d) 195 P X (82, [some (vr (some 90) 10), some (vi b9), some (vi p9), some (vi c), some (vi h9), some (vi (μ 1))], [], ((upI W75 91 (200 + (μ 1)) (μ 1)), H), 0, 0)
  generalize hq_W82 : (upI W75 91 (200 + (μ 1)) (μ 1)) = W82
  have e_W82 : W82 91 = (fun j => if j = (200 + (μ 1)) then (μ 1) else W75 91 j) := by rw [← hq_W82]; exact upI_self _ _ _ _
  have f_W82 : ∀ a, a ≠ 91 → W82 a = W75 a := fun a q => by rw [← hq_W82]; exact upI_cell q
  have hM_W82 : W82 91 = st (st (st μ (120 + 2 * μ 1) c) (121 + 2 * μ 1) h9) (200 + μ 1) (μ 1) := by
    have x1 : (200 + (μ 1)) = 200 + μ 1 := by omega
    have x2 : (μ 1) = μ 1 := by omega
    rw [e_W82, hM_W75, x1, x2]; rfl
  have hu_W82 : ∀ a, a ≠ 91 → W82 a = J0 a := fun a q => (f_W82 a q).trans (hu_W75 a q)
  refine WP.go 9 (And.intro rfl (Exists.intro 91 (And.intro hS.r90_1 (Exists.intro (2 * (μ 1)) (And.intro (wrp_a (by omega) (by omega)) (Exists.intro (210 + (2 * (μ 1))) (And.intro (wrp_a (by omega) (by omega)) (And.intro (And.intro rfl (And.intro (show 0 ≤ 210 + (2 * (μ 1)) from by omega) (show 210 + (2 * (μ 1)) < H.2.1 91 from by omega))) (?_)))))))))
  show WP (Call d) 195 P X (91, [some (vr (some 90) 10), some (vi b9), some (vi p9), some (vi c), some (vi h9), some (vi (μ 1))], [], ((upI W82 91 (210 + (2 * (μ 1))) 0), H), 0, 0)
  generalize hq_W91 : (upI W82 91 (210 + (2 * (μ 1))) 0) = W91
  have e_W91 : W91 91 = (fun j => if j = (210 + (2 * (μ 1))) then 0 else W82 91 j) := by rw [← hq_W91]; exact upI_self _ _ _ _
  have f_W91 : ∀ a, a ≠ 91 → W91 a = W82 a := fun a q => by rw [← hq_W91]; exact upI_cell q
  have hM_W91 : W91 91 = st (st (st (st μ (120 + 2 * μ 1) c) (121 + 2 * μ 1) h9) (200 + μ 1) (μ 1)) (210 + 2 * μ 1) 0 := by
    have x1 : (210 + (2 * (μ 1))) = 210 + 2 * μ 1 := by omega
    have x2 : (0 : Int) = 0 := by omega
    rw [e_W91, hM_W82, x1, x2]; rfl
  have hu_W91 : ∀ a, a ≠ 91 → W91 a = J0 a := fun a q => (f_W91 a q).trans (hu_W82 a q)
  refine WP.go 11 (And.intro rfl (Exists.intro 91 (And.intro hS.r90_1 (Exists.intro (2 * (μ 1)) (And.intro (wrp_a (by omega) (by omega)) (Exists.intro (210 + (2 * (μ 1))) (And.intro (wrp_a (by omega) (by omega)) (Exists.intro ((210 + (2 * (μ 1))) + 1) (And.intro (wrp_a (by omega) (by omega)) (And.intro (And.intro rfl (And.intro (show 0 ≤ (210 + (2 * (μ 1))) + 1 from by omega) (show (210 + (2 * (μ 1))) + 1 < H.2.1 91 from by omega))) (?_)))))))))))
  show WP (Call d) 195 P X (102, [some (vr (some 90) 10), some (vi b9), some (vi p9), some (vi c), some (vi h9), some (vi (μ 1))], [], ((upI W91 91 ((210 + (2 * (μ 1))) + 1) 99), H), 0, 0)
  generalize hq_W102 : (upI W91 91 ((210 + (2 * (μ 1))) + 1) 99) = W102
  have e_W102 : W102 91 = (fun j => if j = ((210 + (2 * (μ 1))) + 1) then 99 else W91 91 j) := by rw [← hq_W102]; exact upI_self _ _ _ _
  have f_W102 : ∀ a, a ≠ 91 → W102 a = W91 a := fun a q => by rw [← hq_W102]; exact upI_cell q
  have hM_W102 : W102 91 = st (st (st (st (st μ (120 + 2 * μ 1) c) (121 + 2 * μ 1) h9) (200 + μ 1) (μ 1)) (210 + 2 * μ 1) 0) (211 + 2 * μ 1) 99 := by
    have x1 : ((210 + (2 * (μ 1))) + 1) = 211 + 2 * μ 1 := by omega
    have x2 : (99 : Int) = 99 := by omega
    rw [e_W102, hM_W91, x1, x2]; rfl
  have hu_W102 : ∀ a, a ≠ 91 → W102 a = J0 a := fun a q => (f_W102 a q).trans (hu_W91 a q)
  refine WP.go 5 (And.intro rfl (Exists.intro 91 (And.intro hS.r90_1 (And.intro (And.intro rfl (And.intro (show 0 ≤ 1 from by omega) (show 1 < H.2.1 91 from by omega))) (?_)))))
  refine rw_i (Q := fun x9 => WP (Call d) 195 P X (107, [some (vr (some 90) 10), some (vi b9), some (vi p9), some (vi c), some (vi h9), some (vi (μ 1))], [vi x9, vi 1, vr (some 91) 11], (W102, H), 0, 0)) (show W102 91 1 = μ 1 from (congrFun hM_W102 _).trans (((st_n (by omega)).trans ((st_n (by omega)).trans ((st_n (by omega)).trans ((st_n (by omega)).trans ((st_n (by omega)).trans (congrArg μ (by omega))))))))) ?_
  show WP (Call d) 195 P X (107, [some (vr (some 90) 10), some (vi b9), some (vi p9), some (vi c), some (vi h9), some (vi (μ 1))], [vi (μ 1), vi 1, vr (some 91) 11], (W102, H), 0, 0)
  refine WP.go 3 (Exists.intro ((μ 1) + 1) (And.intro (wrp_a (by omega) (by omega)) (And.intro (And.intro rfl (And.intro (show 0 ≤ 1 from by omega) (show 1 < H.2.1 91 from by omega))) (?_))))
  show WP (Call d) 195 P X (110, [some (vr (some 90) 10), some (vi b9), some (vi p9), some (vi c), some (vi h9), some (vi (μ 1))], [], ((upI W102 91 1 ((μ 1) + 1)), H), 0, 0)
  generalize hq_W110 : (upI W102 91 1 ((μ 1) + 1)) = W110
  have e_W110 : W110 91 = (fun j => if j = 1 then ((μ 1) + 1) else W102 91 j) := by rw [← hq_W110]; exact upI_self _ _ _ _
  have f_W110 : ∀ a, a ≠ 91 → W110 a = W102 a := fun a q => by rw [← hq_W110]; exact upI_cell q
  have hM_W110 : W110 91 = st (st (st (st (st (st μ (120 + 2 * μ 1) c) (121 + 2 * μ 1) h9) (200 + μ 1) (μ 1)) (210 + 2 * μ 1) 0) (211 + 2 * μ 1) 99) 1 (1 + μ 1) := by
    have x1 : (1 : Int) = 1 := by omega
    have x2 : ((μ 1) + 1) = 1 + μ 1 := by omega
    rw [e_W110, hM_W102, x1, x2]; rfl
  have hu_W110 : ∀ a, a ≠ 91 → W110 a = J0 a := fun a q => (f_W110 a q).trans (hu_W102 a q)
  refine WP.go 2 (And.intro (And.intro (Nat.le_of_ble_eq_true rfl) (Nat.le_of_ble_eq_true rfl)) (?_))
  show P none (W110, H)
  exact h _ hM_W110 (fun a q => (hu_W110 a q).trans (by rw [hJ0]))

theorem town_window {d : Nat} {P : Option qV → qH → Prop} {X : Nat → qH → Prop} {I : qI} {H : qS} (hd : 4 ≤ d) {μ : Int → Int} {b9 a9 d9 u9 : Int} (hS : Shp H) (hM : I 91 = μ) (h2 : 0 ≤ μ 2 ∧ μ 2 < 20) (h : ∀ J : qI, J 91 = uWin μ a9 d9 u9 → (∀ a, a ≠ 91 → J a = I a) → P none (J, H)) :
    WP (Call d) 195 P X (149, [some (vr (some 90) 10), some (vi b9), some (vi a9), some (vi d9), some (vi u9), none], [], (I, H), 0, 0) := by
  have hl91 := hS.l91
  obtain ⟨J0, hJ0⟩ : ∃ J0 : qI, J0 = I := ⟨I, rfl⟩
  have hu : ∀ a, a ≠ 91 → I a = J0 a := fun a _ => by rw [hJ0]
  refine WP.go 6 (And.intro rfl (Exists.intro 91 (And.intro hS.r90_1 (And.intro (And.intro rfl (And.intro (show 0 ≤ 2 from by omega) (show 2 < H.2.1 91 from by omega))) (?_)))))
  refine rw_i (Q := fun x9 => WP (Call d) 195 P X (155, [some (vr (some 90) 10), some (vi b9), some (vi a9), some (vi d9), some (vi u9), none], [vi x9, vi 3, vi 140], (I, H), 0, 0)) (congrFun hM _) ?_
  show WP (Call d) 195 P X (155, [some (vr (some 90) 10), some (vi b9), some (vi a9), some (vi d9), some (vi u9), none], [vi (μ 2), vi 3, vi 140], (I, H), 0, 0)
  refine WP.go 8 (Exists.intro (3 * (μ 2)) (And.intro (wrp_a (by omega) (by omega)) (Exists.intro (140 + (3 * (μ 2))) (And.intro (wrp_a (by omega) (by omega)) (And.intro rfl (Exists.intro 91 (And.intro hS.r90_1 (And.intro (And.intro rfl (And.intro (show 0 ≤ 140 + (3 * (μ 2)) from by omega) (show 140 + (3 * (μ 2)) < H.2.1 91 from by omega))) (?_)))))))))
  show WP (Call d) 195 P X (163, [some (vr (some 90) 10), some (vi b9), some (vi a9), some (vi d9), some (vi u9), some (vi (140 + (3 * (μ 2))))], [], ((upI I 91 (140 + (3 * (μ 2))) a9), H), 0, 0)
  generalize hq_W163 : (upI I 91 (140 + (3 * (μ 2))) a9) = W163
  have e_W163 : W163 91 = (fun j => if j = (140 + (3 * (μ 2))) then a9 else I 91 j) := by rw [← hq_W163]; exact upI_self _ _ _ _
  have f_W163 : ∀ a, a ≠ 91 → W163 a = I a := fun a q => by rw [← hq_W163]; exact upI_cell q
  have hM_W163 : W163 91 = st μ (140 + 3 * μ 2) a9 := by
    have x1 : (140 + (3 * (μ 2))) = 140 + 3 * μ 2 := by omega
    have x2 : a9 = a9 := by omega
    rw [e_W163, hM, x1, x2]; rfl
  have hu_W163 : ∀ a, a ≠ 91 → W163 a = J0 a := fun a q => (f_W163 a q).trans (hu a q)
  refine WP.go 7 (And.intro rfl (Exists.intro 91 (And.intro hS.r90_1 (Exists.intro ((140 + (3 * (μ 2))) + 1) (And.intro (wrp_a (by omega) (by omega)) (And.intro (And.intro rfl (And.intro (show 0 ≤ (140 + (3 * (μ 2))) + 1 from by omega) (show (140 + (3 * (μ 2))) + 1 < H.2.1 91 from by omega))) (?_)))))))
  show WP (Call d) 195 P X (170, [some (vr (some 90) 10), some (vi b9), some (vi a9), some (vi d9), some (vi u9), some (vi (140 + (3 * (μ 2))))], [], ((upI W163 91 ((140 + (3 * (μ 2))) + 1) d9), H), 0, 0)
  generalize hq_W170 : (upI W163 91 ((140 + (3 * (μ 2))) + 1) d9) = W170
  have e_W170 : W170 91 = (fun j => if j = ((140 + (3 * (μ 2))) + 1) then d9 else W163 91 j) := by rw [← hq_W170]; exact upI_self _ _ _ _
  have f_W170 : ∀ a, a ≠ 91 → W170 a = W163 a := fun a q => by rw [← hq_W170]; exact upI_cell q
  have hM_W170 : W170 91 = st (st μ (140 + 3 * μ 2) a9) (141 + 3 * μ 2) d9 := by
    have x1 : ((140 + (3 * (μ 2))) + 1) = 141 + 3 * μ 2 := by omega
    have x2 : d9 = d9 := by omega
    rw [e_W170, hM_W163, x1, x2]; rfl
  have hu_W170 : ∀ a, a ≠ 91 → W170 a = J0 a := fun a q => (f_W170 a q).trans (hu_W163 a q)
  refine WP.go 7 (And.intro rfl (Exists.intro 91 (And.intro hS.r90_1 (Exists.intro ((140 + (3 * (μ 2))) + 2) (And.intro (wrp_a (by omega) (by omega)) (And.intro (And.intro rfl (And.intro (show 0 ≤ (140 + (3 * (μ 2))) + 2 from by omega) (show (140 + (3 * (μ 2))) + 2 < H.2.1 91 from by omega))) (?_)))))))
  show WP (Call d) 195 P X (177, [some (vr (some 90) 10), some (vi b9), some (vi a9), some (vi d9), some (vi u9), some (vi (140 + (3 * (μ 2))))], [], ((upI W170 91 ((140 + (3 * (μ 2))) + 2) u9), H), 0, 0)
  generalize hq_W177 : (upI W170 91 ((140 + (3 * (μ 2))) + 2) u9) = W177
  have e_W177 : W177 91 = (fun j => if j = ((140 + (3 * (μ 2))) + 2) then u9 else W170 91 j) := by rw [← hq_W177]; exact upI_self _ _ _ _
  have f_W177 : ∀ a, a ≠ 91 → W177 a = W170 a := fun a q => by rw [← hq_W177]; exact upI_cell q
  have hM_W177 : W177 91 = st (st (st μ (140 + 3 * μ 2) a9) (141 + 3 * μ 2) d9) (142 + 3 * μ 2) u9 := by
    have x1 : ((140 + (3 * (μ 2))) + 2) = 142 + 3 * μ 2 := by omega
    have x2 : u9 = u9 := by omega
    rw [e_W177, hM_W170, x1, x2]; rfl
  have hu_W177 : ∀ a, a ≠ 91 → W177 a = J0 a := fun a q => (f_W177 a q).trans (hu_W170 a q)
  refine WP.go 5 (And.intro rfl (Exists.intro 91 (And.intro hS.r90_1 (And.intro (And.intro rfl (And.intro (show 0 ≤ 2 from by omega) (show 2 < H.2.1 91 from by omega))) (?_)))))
  refine rw_i (Q := fun x9 => WP (Call d) 195 P X (182, [some (vr (some 90) 10), some (vi b9), some (vi a9), some (vi d9), some (vi u9), some (vi (140 + (3 * (μ 2))))], [vi x9, vi 2, vr (some 91) 11], (W177, H), 0, 0)) (show W177 91 2 = μ 2 from (congrFun hM_W177 _).trans (((st_n (by omega)).trans ((st_n (by omega)).trans ((st_n (by omega)).trans (congrArg μ (by omega))))))) ?_
  show WP (Call d) 195 P X (182, [some (vr (some 90) 10), some (vi b9), some (vi a9), some (vi d9), some (vi u9), some (vi (140 + (3 * (μ 2))))], [vi (μ 2), vi 2, vr (some 91) 11], (W177, H), 0, 0)
  refine WP.go 3 (Exists.intro ((μ 2) + 1) (And.intro (wrp_a (by omega) (by omega)) (And.intro (And.intro rfl (And.intro (show 0 ≤ 2 from by omega) (show 2 < H.2.1 91 from by omega))) (?_))))
  show WP (Call d) 195 P X (185, [some (vr (some 90) 10), some (vi b9), some (vi a9), some (vi d9), some (vi u9), some (vi (140 + (3 * (μ 2))))], [], ((upI W177 91 2 ((μ 2) + 1)), H), 0, 0)
  generalize hq_W185 : (upI W177 91 2 ((μ 2) + 1)) = W185
  have e_W185 : W185 91 = (fun j => if j = 2 then ((μ 2) + 1) else W177 91 j) := by rw [← hq_W185]; exact upI_self _ _ _ _
  have f_W185 : ∀ a, a ≠ 91 → W185 a = W177 a := fun a q => by rw [← hq_W185]; exact upI_cell q
  have hM_W185 : W185 91 = st (st (st (st μ (140 + 3 * μ 2) a9) (141 + 3 * μ 2) d9) (142 + 3 * μ 2) u9) 2 (1 + μ 2) := by
    have x1 : (2 : Int) = 2 := by omega
    have x2 : ((μ 2) + 1) = 1 + μ 2 := by omega
    rw [e_W185, hM_W177, x1, x2]; rfl
  have hu_W185 : ∀ a, a ≠ 91 → W185 a = J0 a := fun a q => (f_W185 a q).trans (hu_W177 a q)
  refine WP.go 2 (And.intro (And.intro (Nat.le_of_ble_eq_true rfl) (Nat.le_of_ble_eq_true rfl)) (?_))
  show P none (W185, H)
  exact h _ hM_W185 (fun a q => (hu_W185 a q).trans (by rw [hJ0]))

set_option maxHeartbeats 1600000 in
theorem s_12_townLine {d : Nat} {P : Option qV → qH → Prop} {X : Nat → qH → Prop} {I : qI} {H : qS} {tb : Int → Int} {n p : Int} {μ : Int → Int} (hd : 5 ≤ d) (hS : Shp H) (hM : I 91 = μ) (hV : IM μ) (hL : LTX I tb n) (hR : RAT I tb n p) (hF : I 90 10 = -1) (h : ((tln tb n p μ).1 = -1 → ∀ J : qI, FT I J → RAT J tb n (tln tb n p μ).2.2 → J 90 10 = -1 → J 91 = (tln tb n p μ).2.1 → P none (J, H)) ∧ ((tln tb n p μ).1 ≠ -1 → ∀ J : qI, FT I J → J 90 10 = (tln tb n p μ).1 → (0 ≤ J 90 9 ∧ J 90 9 ≤ n) → (∀ j, j < 0 ∨ 230 ≤ j → J 91 j = μ j) → P none (J, H))) :
    Call d 195 [vr (some 90) 10] (I, H) P X := by
  obtain ⟨d, rfl⟩ : ∃ e, d = e + 1 := ⟨d - 1, by omega⟩
  have hl91 := hS.l91
  have hu := FT.rf I
  have hpb := hR.bd
  have hb := hR.1
  have v1 := hV.n1
  have v2 := hV.n2
  show WP (Call d) 195 P X (0, [some (vr (some 90) 10), none, none, none, none, none], [], (I, H), 0, 0)
  refine WP.go 2 (And.intro (And.intro (Nat.le_of_ble_eq_true rfl) (Nat.le_of_ble_eq_true rfl)) (And.intro rfl (?_)))
  show Call d 189 [vr (some 90) 10] (I, H) _ _
  refine s_12_skip (by omega) hS hL hR (fun J1 e1 f1 => ?_)
  show WP (Call d) 195 P X (2, [some (vr (some 90) 10), none, none, none, none, none], [], (J1, H), 0, 0)
  have hL_1 : LTX J1 tb n := f1.lt hL
  have h_2 : J1 90 9 = p := e1
  have hR_3 : RAT J1 tb n p := RAT.of hR.bd e1
  have hu_4 : FT I J1 := hu.n f1
  have hF_5 : J1 90 10 = _ := (f1.1 10 (by omega)).trans hF
  have hM_6 : J1 91 = μ := (f1.2 91 (by omega)).trans hM
  have hb_7 : 0 ≤ J1 90 9 ∧ J1 90 9 ≤ n := hR_3.1
  refine WP.go 2 (And.intro rfl (?_))
  refine rw_i (Q := fun x9 => WP (Call d) 195 P X (4, [some (vr (some 90) 10), none, none, none, none, none], [vi x9], (J1, H), 0, 0)) h_2 ?_
  show WP (Call d) 195 P X (4, [some (vr (some 90) 10), none, none, none, none, none], [vi p], (J1, H), 0, 0)
  refine WP.go 4 (And.intro (And.intro (Nat.le_of_ble_eq_true rfl) (Nat.le_of_ble_eq_true rfl)) (And.intro rfl (?_)))
  show Call d 191 [vr (some 90) 10, vr (some 1) 100] (J1, H) _ _
  refine s_12_has (by omega) hS hL_1 hR_3 (by omega) ⟨(fun q7 J7 e7 f7 => ?_), (fun q7_1 J7_1 e7_1 f7_1 => ?_)⟩
  ·
    show WP (Call d) 195 P X (8, [some (vr (some 90) 10), some (vi p), none, none, none, none], [vi 1], (J7, H), 0, 0)
    have hL_8 : LTX J7 tb n := f7.lt hL_1
    have hR_9 : RAT J7 tb n (nx tb n p) := rat_go hR_3 (fun z => absurd (q7.symm.trans z) (by decide)) e7
    have hF_10 : J7 90 10 = -1 := (f7.1 10 (by omega)).trans hF_5
    have hu_11 : FT I J7 := hu_4.n f7
    have hM_12 : J7 91 = μ := (f7.2 91 (by omega)).trans hM_6
    have hb_13 : 0 ≤ J7 90 9 ∧ J7 90 9 ≤ n := hR_9.1
    refine WP.go 1 (And.intro (fun (b8 : 1 = 0) => (absurd b8 (by omega))) (fun (b8 : ¬ 1 = 0) => ?_))
    show WP (Call d) 195 P X (9, [some (vr (some 90) 10), some (vi p), none, none, none, none], [], (J7, H), 0, 0)
    refine WP.go 4 (And.intro rfl (Exists.intro 91 (And.intro hS.r90_1 (And.intro (And.intro rfl (And.intro (show 0 ≤ 1 from by omega) (show 1 < H.2.1 91 from by omega))) (?_)))))
    refine rw_i (Q := fun x9 => WP (Call d) 195 P X (13, [some (vr (some 90) 10), some (vi p), none, none, none, none], [vi x9], (J7, H), 0, 0)) (congrFun hM_12 _) ?_
    show WP (Call d) 195 P X (13, [some (vr (some 90) 10), some (vi p), none, none, none, none], [vi (μ 1)], (J7, H), 0, 0)
    refine WP.go 2 (And.intro (fun (b14 : ¬ μ 1 = 10) => ?_) (fun (b14 : μ 1 = 10) => ?_))
    ·
      show WP (Call d) 195 P X (18, [some (vr (some 90) 10), some (vi p), none, none, none, none], [], (J7, H), 0, 0)
      refine WP.go 2 (And.intro (And.intro (Nat.le_of_ble_eq_true rfl) (Nat.le_of_ble_eq_true rfl)) (And.intro rfl (?_)))
      show Call d 189 [vr (some 90) 10] (J7, H) _ _
      refine s_12_skip (by omega) hS hL_8 hR_9 (fun J19 e19 f19 => ?_)
      show WP (Call d) 195 P X (20, [some (vr (some 90) 10), some (vi p), none, none, none, none], [], (J19, H), 0, 0)
      have hL_14 : LTX J19 tb n := f19.lt hL_8
      have h_15 : J19 90 9 = (nx tb n p) := e19
      have hR_16 : RAT J19 tb n (nx tb n p) := RAT.of hR_9.bd e19
      have hu_17 : FT I J19 := hu_11.n f19
      have hF_18 : J19 90 10 = _ := (f19.1 10 (by omega)).trans hF_10
      have hM_19 : J19 91 = μ := (f19.2 91 (by omega)).trans hM_12
      have hb_20 : 0 ≤ J19 90 9 ∧ J19 90 9 ≤ n := hR_16.1
      refine WP.go 2 (And.intro rfl (?_))
      refine rw_i (Q := fun x9 => WP (Call d) 195 P X (22, [some (vr (some 90) 10), some (vi p), none, none, none, none], [vi x9], (J19, H), 0, 0)) h_15 ?_
      show WP (Call d) 195 P X (22, [some (vr (some 90) 10), some (vi p), none, none, none, none], [vi (nx tb n p)], (J19, H), 0, 0)
      refine WP.go 5 (And.intro (And.intro (Nat.le_of_ble_eq_true rfl) (Nat.le_of_ble_eq_true rfl)) (And.intro rfl (?_)))
      show Call d 193 [vr (some 90) 10, vi 0, vi 80] (J19, H) _ _
      refine s_12_figures (by omega) hS hL_14 hR_16 hF_18 (by omega) ⟨(fun q26 J26 e26 f26 => ?_), (fun q26_1 J26_1 v26 e26_1 b26 vb26 s26 f26_1 => ?_)⟩
      ·
        show WP (Call d) 195 P X (27, [some (vr (some 90) 10), some (vi p), some (vi (nx tb n p)), none, none, none], [vi (th tb n (nx tb n p))], (J26, H), 0, 0)
        have hL_21 : LTX J26 tb n := f26.lt hL_14
        have b9 := hR_16.bd
        have hR_22 : RAT J26 tb n (nx tb n (nx tb n p)) := rat_go hR_16 (fun z => by have w := q26; omega) e26
        have hF_23 : J26 90 10 = -1 := (f26.1 10 (by omega)).trans hF_18
        have hu_24 : FT I J26 := hu_17.n f26
        have hM_25 : J26 91 = μ := (f26.2 91 (by omega)).trans hM_19
        have hb_26 : 0 ≤ J26 90 9 ∧ J26 90 9 ≤ n := hR_22.1
        refine WP.go 3 (And.intro rfl (?_))
        refine rw_i (Q := fun x9 => WP (Call d) 195 P X (30, [some (vr (some 90) 10), some (vi p), some (vi (nx tb n p)), some (vi (th tb n (nx tb n p))), none, none], [vi x9], (J26, H), 0, 0)) hF_23 ?_
        show WP (Call d) 195 P X (30, [some (vr (some 90) 10), some (vi p), some (vi (nx tb n p)), some (vi (th tb n (nx tb n p))), none, none], [vi (-1)], (J26, H), 0, 0)
        refine WP.go 2 (And.intro (fun (b31 : ¬ (-1) = (-1)) => (absurd b31 (by omega))) (fun (b31 : (-1) = (-1)) => ?_))
        show WP (Call d) 195 P X (32, [some (vr (some 90) 10), some (vi p), some (vi (nx tb n p)), some (vi (th tb n (nx tb n p))), none, none], [], (J26, H), 0, 0)
        refine WP.go 3 (And.intro (And.intro (Nat.le_of_ble_eq_true rfl) (Nat.le_of_ble_eq_true rfl)) (And.intro rfl (?_)))
        show Call d 185 [vr (some 90) 10, vi (th tb n (nx tb n p))] (J26, H) _ _
        refine s_12_houseOn (by omega) hS hM_25 hV ?_
        show WP (Call d) 195 P X (35, [some (vr (some 90) 10), some (vi p), some (vi (nx tb n p)), some (vi (th tb n (nx tb n p))), none, none], [vi (hON μ (th tb n (nx tb n p)) (μ 1))], (J26, H), 0, 0)
        refine WP.go 2 (And.intro (fun (b36 : hON μ (th tb n (nx tb n p)) (μ 1) = (-1)) => ?_) (fun (b36 : ¬ hON μ (th tb n (nx tb n p)) (μ 1) = (-1)) => ?_))
        ·
          show WP (Call d) 195 P X (40, [some (vr (some 90) 10), some (vi p), some (vi (nx tb n p)), some (vi (th tb n (nx tb n p))), none, none], [], (J26, H), 0, 0)
          refine WP.go 4 (And.intro (And.intro (Nat.le_of_ble_eq_true rfl) (Nat.le_of_ble_eq_true rfl)) (And.intro rfl (?_)))
          show Call d 193 [vr (some 90) 10, vi 1, vi 30] (J26, H) _ _
          refine s_12_figures (by omega) hS hL_21 hR_22 hF_23 (by omega) ⟨(fun q43 J43 e43 f43 => ?_), (fun q43_1 J43_1 v43 e43_1 b43 vb43 s43 f43_1 => ?_)⟩
          ·
            show WP (Call d) 195 P X (44, [some (vr (some 90) 10), some (vi p), some (vi (nx tb n p)), some (vi (th tb n (nx tb n p))), none, none], [vi (th tb n (nx tb n (nx tb n p)))], (J43, H), 0, 0)
            have hL_27 : LTX J43 tb n := f43.lt hL_21
            have b9 := hR_22.bd
            have hR_28 : RAT J43 tb n (nx tb n (nx tb n (nx tb n p))) := rat_go hR_22 (fun z => by have w := q43; omega) e43
            have hF_29 : J43 90 10 = -1 := (f43.1 10 (by omega)).trans hF_23
            have hu_30 : FT I J43 := hu_24.n f43
            have hM_31 : J43 91 = μ := (f43.2 91 (by omega)).trans hM_25
            have hb_32 : 0 ≤ J43 90 9 ∧ J43 90 9 ≤ n := hR_28.1
            refine WP.go 3 (And.intro rfl (?_))
            refine rw_i (Q := fun x9 => WP (Call d) 195 P X (47, [some (vr (some 90) 10), some (vi p), some (vi (nx tb n p)), some (vi (th tb n (nx tb n p))), some (vi (th tb n (nx tb n (nx tb n p)))), none], [vi x9], (J43, H), 0, 0)) hF_29 ?_
            show WP (Call d) 195 P X (47, [some (vr (some 90) 10), some (vi p), some (vi (nx tb n p)), some (vi (th tb n (nx tb n p))), some (vi (th tb n (nx tb n (nx tb n p)))), none], [vi (-1)], (J43, H), 0, 0)
            refine WP.go 2 (And.intro (fun (b48 : (-1) = (-1)) => ?_) (fun (b48 : ¬ (-1) = (-1)) => (absurd b48 (by omega))))
            show WP (Call d) 195 P X (50, [some (vr (some 90) 10), some (vi p), some (vi (nx tb n p)), some (vi (th tb n (nx tb n p))), some (vi (th tb n (nx tb n (nx tb n p)))), none], [], (J43, H), 0, 0)
            have t7 : th tb n p = 1000 := q7
            have r9 := (tln_h (tb := tb) (n := n) (p := p) (μ := μ) t7 (by omega)).trans (thou_3 (tb := tb) (n := n) (p := nx tb n p) (μ := μ) b36 q26 q43)
            refine town_house (by omega) hS hM_31 (by omega) (fun J9 m9 f9 => ?_)
            exact h.1 (by rw [r9]) _ (hu_30.c f9) (by rw [r9]; exact hR_28.cp (congrFun (f9 90 (by omega)) 9)) ((congrFun (f9 90 (by omega)) 10).trans hF_29) (by rw [r9]; exact m9)
          ·
            show WP (Call d) 195 P X (44, [some (vr (some 90) 10), some (vi p), some (vi (nx tb n p)), some (vi (th tb n (nx tb n p))), none, none], [vi v43], (J43_1, H), 0, 0)
            have hF_33 : J43_1 90 10 = (nx tb n (nx tb n p)) := e43_1
            have b9 := hR_22.bd
            have hM_34 : J43_1 91 = μ := (f43_1 91 (by omega)).trans hM_25
            have hu_35 : FT I J43_1 := hu_24.g s43 f43_1
            have hb_36 : 0 ≤ J43_1 90 9 ∧ J43_1 90 9 ≤ n := b43
            refine WP.go 3 (And.intro rfl (?_))
            refine rw_i (Q := fun x9 => WP (Call d) 195 P X (47, [some (vr (some 90) 10), some (vi p), some (vi (nx tb n p)), some (vi (th tb n (nx tb n p))), some (vi v43), none], [vi x9], (J43_1, H), 0, 0)) hF_33 ?_
            show WP (Call d) 195 P X (47, [some (vr (some 90) 10), some (vi p), some (vi (nx tb n p)), some (vi (th tb n (nx tb n p))), some (vi v43), none], [vi (nx tb n (nx tb n p))], (J43_1, H), 0, 0)
            refine WP.go 2 (And.intro (fun (b48 : (nx tb n (nx tb n p)) = (-1)) => (absurd b48 (by omega))) (fun (b48 : ¬ (nx tb n (nx tb n p)) = (-1)) => ?_))
            show WP (Call d) 195 P X (49, [some (vr (some 90) 10), some (vi p), some (vi (nx tb n p)), some (vi (th tb n (nx tb n p))), some (vi v43), none], [], (J43_1, H), 0, 0)
            refine WP.go 1 (And.intro (And.intro (Nat.le_of_ble_eq_true rfl) (Nat.le_of_ble_eq_true rfl)) (?_))
            show P none (J43_1, H)
            have t7 : th tb n p = 1000 := q7
            have r9 := (tln_h (tb := tb) (n := n) (p := p) (μ := μ) t7 (by omega)).trans (thou_2 (tb := tb) (n := n) (p := nx tb n p) (μ := μ) b36 q26 q43_1)
            exact h.2 (by rw [r9]; show (nx tb n (nx tb n p)) ≠ -1; omega) _ hu_35 (by rw [r9]; exact hF_33) hb_36 (fun j _ => by rw [hM_34])
        ·
          show WP (Call d) 195 P X (37, [some (vr (some 90) 10), some (vi p), some (vi (nx tb n p)), some (vi (th tb n (nx tb n p))), none, none], [], (J26, H), 0, 0)
          refine WP.go 3 (And.intro (And.intro (Nat.le_of_ble_eq_true rfl) (Nat.le_of_ble_eq_true rfl)) (And.intro rfl (?_)))
          show Call d 192 [vr (some 90) 10, vi (nx tb n p)] (J26, H) _ _
          refine s_12_wrong (by omega) hF_23 (fun J39 e39 f39 => ?_)
          show WP (Call d) 195 P X (40, [some (vr (some 90) 10), some (vi p), some (vi (nx tb n p)), some (vi (th tb n (nx tb n p))), none, none], [], (J39, H), 0, 0)
          have hF_37 : J39 90 10 = (nx tb n p) := by rw [e39]; rfl
          have hu_38 : FT I J39 := hu_24.o (.inr (.inl rfl)) e39 f39
          have hL_39 : LTX J39 tb n := hL_21.fr (by rw [e39]; rfl) (by rw [e39]; rfl) (f39 94 (by omega)) (f39 91 (by omega))
          have hR_40 : RAT J39 tb n (nx tb n (nx tb n p)) := hR_22.cp (by rw [e39]; rfl)
          have hM_41 : J39 91 = μ := (f39 91 (by omega)).trans hM_25
          have hb_42 : 0 ≤ J39 90 9 ∧ J39 90 9 ≤ n := hR_40.1
          refine WP.go 4 (And.intro (And.intro (Nat.le_of_ble_eq_true rfl) (Nat.le_of_ble_eq_true rfl)) (And.intro rfl (?_)))
          show Call d 193 [vr (some 90) 10, vi 1, vi 30] (J39, H) _ _
          refine s_12_figures_f (by omega) (fun z9 => by have w9 := hF_37; omega) ?_
          show WP (Call d) 195 P X (44, [some (vr (some 90) 10), some (vi p), some (vi (nx tb n p)), some (vi (th tb n (nx tb n p))), none, none], [vi 0], (J39, H), 0, 0)
          refine WP.go 3 (And.intro rfl (?_))
          refine rw_i (Q := fun x9 => WP (Call d) 195 P X (47, [some (vr (some 90) 10), some (vi p), some (vi (nx tb n p)), some (vi (th tb n (nx tb n p))), some (vi 0), none], [vi x9], (J39, H), 0, 0)) hF_37 ?_
          show WP (Call d) 195 P X (47, [some (vr (some 90) 10), some (vi p), some (vi (nx tb n p)), some (vi (th tb n (nx tb n p))), some (vi 0), none], [vi (nx tb n p)], (J39, H), 0, 0)
          refine WP.go 2 (And.intro (fun (b48 : (nx tb n p) = (-1)) => (absurd b48 (by omega))) (fun (b48 : ¬ (nx tb n p) = (-1)) => ?_))
          show WP (Call d) 195 P X (49, [some (vr (some 90) 10), some (vi p), some (vi (nx tb n p)), some (vi (th tb n (nx tb n p))), some (vi 0), none], [], (J39, H), 0, 0)
          refine WP.go 1 (And.intro (And.intro (Nat.le_of_ble_eq_true rfl) (Nat.le_of_ble_eq_true rfl)) (?_))
          show P none (J39, H)
          have t7 : th tb n p = 1000 := q7
          have r9 := (tln_h (tb := tb) (n := n) (p := p) (μ := μ) t7 (by omega)).trans (thou_1 (tb := tb) (n := n) (p := nx tb n p) (μ := μ) (.inl b36))
          exact h.2 (by rw [r9]; show (nx tb n p) ≠ -1; omega) _ hu_38 (by rw [r9]; exact hF_37) hb_42 (fun j _ => by rw [hM_41])
      ·
        show WP (Call d) 195 P X (27, [some (vr (some 90) 10), some (vi p), some (vi (nx tb n p)), none, none, none], [vi v26], (J26_1, H), 0, 0)
        have hF_43 : J26_1 90 10 = (nx tb n p) := e26_1
        have b9 := hR_16.bd
        have hM_44 : J26_1 91 = μ := (f26_1 91 (by omega)).trans hM_19
        have hu_45 : FT I J26_1 := hu_17.g s26 f26_1
        have hb_46 : 0 ≤ J26_1 90 9 ∧ J26_1 90 9 ≤ n := b26
        refine WP.go 3 (And.intro rfl (?_))
        refine rw_i (Q := fun x9 => WP (Call d) 195 P X (30, [some (vr (some 90) 10), some (vi p), some (vi (nx tb n p)), some (vi v26), none, none], [vi x9], (J26_1, H), 0, 0)) hF_43 ?_
        show WP (Call d) 195 P X (30, [some (vr (some 90) 10), some (vi p), some (vi (nx tb n p)), some (vi v26), none, none], [vi (nx tb n p)], (J26_1, H), 0, 0)
        refine WP.go 2 (And.intro (fun (b31 : ¬ (nx tb n p) = (-1)) => ?_) (fun (b31 : (nx tb n p) = (-1)) => (absurd b31 (by omega))))
        show WP (Call d) 195 P X (40, [some (vr (some 90) 10), some (vi p), some (vi (nx tb n p)), some (vi v26), none, none], [], (J26_1, H), 0, 0)
        refine WP.go 4 (And.intro (And.intro (Nat.le_of_ble_eq_true rfl) (Nat.le_of_ble_eq_true rfl)) (And.intro rfl (?_)))
        show Call d 193 [vr (some 90) 10, vi 1, vi 30] (J26_1, H) _ _
        refine s_12_figures_f (by omega) (fun z9 => by have w9 := hF_43; omega) ?_
        show WP (Call d) 195 P X (44, [some (vr (some 90) 10), some (vi p), some (vi (nx tb n p)), some (vi v26), none, none], [vi 0], (J26_1, H), 0, 0)
        refine WP.go 3 (And.intro rfl (?_))
        refine rw_i (Q := fun x9 => WP (Call d) 195 P X (47, [some (vr (some 90) 10), some (vi p), some (vi (nx tb n p)), some (vi v26), some (vi 0), none], [vi x9], (J26_1, H), 0, 0)) hF_43 ?_
        show WP (Call d) 195 P X (47, [some (vr (some 90) 10), some (vi p), some (vi (nx tb n p)), some (vi v26), some (vi 0), none], [vi (nx tb n p)], (J26_1, H), 0, 0)
        refine WP.go 2 (And.intro (fun (b48 : (nx tb n p) = (-1)) => (absurd b48 (by omega))) (fun (b48 : ¬ (nx tb n p) = (-1)) => ?_))
        show WP (Call d) 195 P X (49, [some (vr (some 90) 10), some (vi p), some (vi (nx tb n p)), some (vi v26), some (vi 0), none], [], (J26_1, H), 0, 0)
        refine WP.go 1 (And.intro (And.intro (Nat.le_of_ble_eq_true rfl) (Nat.le_of_ble_eq_true rfl)) (?_))
        show P none (J26_1, H)
        have t7 : th tb n p = 1000 := q7
        have r9 := (tln_h (tb := tb) (n := n) (p := p) (μ := μ) t7 (by omega)).trans (thou_1 (tb := tb) (n := n) (p := nx tb n p) (μ := μ) (.inr q26_1))
        exact h.2 (by rw [r9]; show (nx tb n p) ≠ -1; omega) _ hu_45 (by rw [r9]; exact hF_43) hb_46 (fun j _ => by rw [hM_44])
    ·
      show WP (Call d) 195 P X (15, [some (vr (some 90) 10), some (vi p), none, none, none, none], [], (J7, H), 0, 0)
      refine WP.go 3 (And.intro (And.intro (Nat.le_of_ble_eq_true rfl) (Nat.le_of_ble_eq_true rfl)) (And.intro rfl (?_)))
      show Call d 192 [vr (some 90) 10, vi p] (J7, H) _ _
      refine s_12_wrong (by omega) hF_10 (fun J17 e17 f17 => ?_)
      show WP (Call d) 195 P X (18, [some (vr (some 90) 10), some (vi p), none, none, none, none], [], (J17, H), 0, 0)
      have hF_47 : J17 90 10 = p := by rw [e17]; rfl
      have hu_48 : FT I J17 := hu_11.o (.inr (.inl rfl)) e17 f17
      have hL_49 : LTX J17 tb n := hL_8.fr (by rw [e17]; rfl) (by rw [e17]; rfl) (f17 94 (by omega)) (f17 91 (by omega))
      have hR_50 : RAT J17 tb n (nx tb n p) := hR_9.cp (by rw [e17]; rfl)
      have hM_51 : J17 91 = μ := (f17 91 (by omega)).trans hM_12
      have hb_52 : 0 ≤ J17 90 9 ∧ J17 90 9 ≤ n := hR_50.1
      refine WP.go 2 (And.intro (And.intro (Nat.le_of_ble_eq_true rfl) (Nat.le_of_ble_eq_true rfl)) (And.intro rfl (?_)))
      show Call d 189 [vr (some 90) 10] (J17, H) _ _
      refine s_12_skip (by omega) hS hL_49 hR_50 (fun J19_1 e19_1 f19_1 => ?_)
      show WP (Call d) 195 P X (20, [some (vr (some 90) 10), some (vi p), none, none, none, none], [], (J19_1, H), 0, 0)
      have hL_53 : LTX J19_1 tb n := f19_1.lt hL_49
      have h_54 : J19_1 90 9 = (nx tb n p) := e19_1
      have hR_55 : RAT J19_1 tb n (nx tb n p) := RAT.of hR_50.bd e19_1
      have hu_56 : FT I J19_1 := hu_48.n f19_1
      have hF_57 : J19_1 90 10 = _ := (f19_1.1 10 (by omega)).trans hF_47
      have hM_58 : J19_1 91 = μ := (f19_1.2 91 (by omega)).trans hM_51
      have hb_59 : 0 ≤ J19_1 90 9 ∧ J19_1 90 9 ≤ n := hR_55.1
      refine WP.go 2 (And.intro rfl (?_))
      refine rw_i (Q := fun x9 => WP (Call d) 195 P X (22, [some (vr (some 90) 10), some (vi p), none, none, none, none], [vi x9], (J19_1, H), 0, 0)) h_54 ?_
      show WP (Call d) 195 P X (22, [some (vr (some 90) 10), some (vi p), none, none, none, none], [vi (nx tb n p)], (J19_1, H), 0, 0)
      refine WP.go 5 (And.intro (And.intro (Nat.le_of_ble_eq_true rfl) (Nat.le_of_ble_eq_true rfl)) (And.intro rfl (?_)))
      show Call d 193 [vr (some 90) 10, vi 0, vi 80] (J19_1, H) _ _
      refine s_12_figures_f (by omega) (fun z9 => by have w9 := hF_57; omega) ?_
      show WP (Call d) 195 P X (27, [some (vr (some 90) 10), some (vi p), some (vi (nx tb n p)), none, none, none], [vi 0], (J19_1, H), 0, 0)
      refine WP.go 3 (And.intro rfl (?_))
      refine rw_i (Q := fun x9 => WP (Call d) 195 P X (30, [some (vr (some 90) 10), some (vi p), some (vi (nx tb n p)), some (vi 0), none, none], [vi x9], (J19_1, H), 0, 0)) hF_57 ?_
      show WP (Call d) 195 P X (30, [some (vr (some 90) 10), some (vi p), some (vi (nx tb n p)), some (vi 0), none, none], [vi p], (J19_1, H), 0, 0)
      refine WP.go 2 (And.intro (fun (b31 : ¬ p = (-1)) => ?_) (fun (b31 : p = (-1)) => (absurd b31 (by omega))))
      show WP (Call d) 195 P X (40, [some (vr (some 90) 10), some (vi p), some (vi (nx tb n p)), some (vi 0), none, none], [], (J19_1, H), 0, 0)
      refine WP.go 4 (And.intro (And.intro (Nat.le_of_ble_eq_true rfl) (Nat.le_of_ble_eq_true rfl)) (And.intro rfl (?_)))
      show Call d 193 [vr (some 90) 10, vi 1, vi 30] (J19_1, H) _ _
      refine s_12_figures_f (by omega) (fun z9 => by have w9 := hF_57; omega) ?_
      show WP (Call d) 195 P X (44, [some (vr (some 90) 10), some (vi p), some (vi (nx tb n p)), some (vi 0), none, none], [vi 0], (J19_1, H), 0, 0)
      refine WP.go 3 (And.intro rfl (?_))
      refine rw_i (Q := fun x9 => WP (Call d) 195 P X (47, [some (vr (some 90) 10), some (vi p), some (vi (nx tb n p)), some (vi 0), some (vi 0), none], [vi x9], (J19_1, H), 0, 0)) hF_57 ?_
      show WP (Call d) 195 P X (47, [some (vr (some 90) 10), some (vi p), some (vi (nx tb n p)), some (vi 0), some (vi 0), none], [vi p], (J19_1, H), 0, 0)
      refine WP.go 2 (And.intro (fun (b48 : p = (-1)) => (absurd b48 (by omega))) (fun (b48 : ¬ p = (-1)) => ?_))
      show WP (Call d) 195 P X (49, [some (vr (some 90) 10), some (vi p), some (vi (nx tb n p)), some (vi 0), some (vi 0), none], [], (J19_1, H), 0, 0)
      refine WP.go 1 (And.intro (And.intro (Nat.le_of_ble_eq_true rfl) (Nat.le_of_ble_eq_true rfl)) (?_))
      show P none (J19_1, H)
      have t7 : th tb n p = 1000 := q7
      have r9 := tln_1 (tb := tb) (n := n) (p := p) (μ := μ) (.inl ⟨t7, by omega⟩)
      exact h.2 (by rw [r9]; show p ≠ -1; omega) _ hu_56 (by rw [r9]; exact hF_57) hb_59 (fun j _ => by rw [hM_58])
  ·
    show WP (Call d) 195 P X (8, [some (vr (some 90) 10), some (vi p), none, none, none, none], [vi 0], (J7_1, H), 0, 0)
    have hL_60 : LTX J7_1 tb n := f7_1.lt hL_1
    have hR_61 : RAT J7_1 tb n p := RAT.of hR_3.bd e7_1
    have hF_62 : J7_1 90 10 = -1 := (f7_1.1 10 (by omega)).trans hF_5
    have hu_63 : FT I J7_1 := hu_4.n f7_1
    have h_64 : J7_1 90 9 = p := e7_1
    have hM_65 : J7_1 91 = μ := (f7_1.2 91 (by omega)).trans hM_6
    have hb_66 : 0 ≤ J7_1 90 9 ∧ J7_1 90 9 ≤ n := hR_61.1
    refine WP.go 1 (And.intro (fun (b8 : 0 = 0) => ?_) (fun (b8 : ¬ 0 = 0) => (absurd b8 (by omega))))
    show WP (Call d) 195 P X (111, [some (vr (some 90) 10), some (vi p), none, none, none, none], [], (J7_1, H), 0, 0)
    refine WP.go 3 (And.intro (And.intro (Nat.le_of_ble_eq_true rfl) (Nat.le_of_ble_eq_true rfl)) (And.intro rfl (?_)))
    show Call d 191 [vr (some 90) 10, vr (some 2) 100] (J7_1, H) _ _
    refine s_12_has (by omega) hS hL_60 hR_61 (by omega) ⟨(fun q113 J113 e113 f113 => ?_), (fun q113_1 J113_1 e113_1 f113_1 => ?_)⟩
    ·
      show WP (Call d) 195 P X (114, [some (vr (some 90) 10), some (vi p), none, none, none, none], [vi 1], (J113, H), 0, 0)
      have hL_67 : LTX J113 tb n := f113.lt hL_60
      have hR_68 : RAT J113 tb n (nx tb n p) := rat_go hR_61 (fun z => absurd (q113.symm.trans z) (by decide)) e113
      have hF_69 : J113 90 10 = -1 := (f113.1 10 (by omega)).trans hF_62
      have hu_70 : FT I J113 := hu_63.n f113
      have hM_71 : J113 91 = μ := (f113.2 91 (by omega)).trans hM_65
      have hb_72 : 0 ≤ J113 90 9 ∧ J113 90 9 ≤ n := hR_68.1
      refine WP.go 1 (And.intro (fun (b114 : 1 = 0) => (absurd b114 (by omega))) (fun (b114 : ¬ 1 = 0) => ?_))
      show WP (Call d) 195 P X (115, [some (vr (some 90) 10), some (vi p), none, none, none, none], [], (J113, H), 0, 0)
      refine WP.go 4 (And.intro rfl (Exists.intro 91 (And.intro hS.r90_1 (And.intro (And.intro rfl (And.intro (show 0 ≤ 2 from by omega) (show 2 < H.2.1 91 from by omega))) (?_)))))
      refine rw_i (Q := fun x9 => WP (Call d) 195 P X (119, [some (vr (some 90) 10), some (vi p), none, none, none, none], [vi x9], (J113, H), 0, 0)) (congrFun hM_71 _) ?_
      show WP (Call d) 195 P X (119, [some (vr (some 90) 10), some (vi p), none, none, none, none], [vi (μ 2)], (J113, H), 0, 0)
      refine WP.go 2 (And.intro (fun (b120 : ¬ μ 2 = 20) => ?_) (fun (b120 : μ 2 = 20) => ?_))
      ·
        show WP (Call d) 195 P X (124, [some (vr (some 90) 10), some (vi p), none, none, none, none], [], (J113, H), 0, 0)
        refine WP.go 6 (And.intro rfl (Exists.intro 91 (And.intro hS.r90_1 (And.intro (And.intro rfl (And.intro (show 0 ≤ 1 from by omega) (show 1 < H.2.1 91 from by omega))) (?_)))))
        refine rw_i (Q := fun x9 => WP (Call d) 195 P X (130, [some (vr (some 90) 10), some (vi p), none, none, none, none], [vi x9, vi 0, vr (some 90) 10], (J113, H), 0, 0)) (congrFun hM_71 _) ?_
        show WP (Call d) 195 P X (130, [some (vr (some 90) 10), some (vi p), none, none, none, none], [vi (μ 1), vi 0, vr (some 90) 10], (J113, H), 0, 0)
        refine WP.go 3 (Exists.intro ((μ 1) - 1) (And.intro (wrp_a (by omega) (by omega)) (And.intro (And.intro (Nat.le_of_ble_eq_true rfl) (Nat.le_of_ble_eq_true rfl)) (And.intro rfl (?_)))))
        show Call d 193 [vr (some 90) 10, vi 0, vi ((μ 1) - 1)] (J113, H) _ _
        refine s_12_figures (by omega) hS hL_67 hR_68 hF_69 (by omega) ⟨(fun q132 J132 e132 f132 => ?_), (fun q132_1 J132_1 v132 e132_1 b132 vb132 s132 f132_1 => ?_)⟩
        ·
          show WP (Call d) 195 P X (133, [some (vr (some 90) 10), some (vi p), none, none, none, none], [vi (th tb n (nx tb n p))], (J132, H), 0, 0)
          have hL_73 : LTX J132 tb n := f132.lt hL_67
          have b9 := hR_68.bd
          have hR_74 : RAT J132 tb n (nx tb n (nx tb n p)) := rat_go hR_68 (fun z => by have w := q132; omega) e132
          have hF_75 : J132 90 10 = -1 := (f132.1 10 (by omega)).trans hF_69
          have hu_76 : FT I J132 := hu_70.n f132
          have hM_77 : J132 91 = μ := (f132.2 91 (by omega)).trans hM_71
          have hb_78 : 0 ≤ J132 90 9 ∧ J132 90 9 ≤ n := hR_74.1
          refine WP.go 5 (And.intro (And.intro (Nat.le_of_ble_eq_true rfl) (Nat.le_of_ble_eq_true rfl)) (And.intro rfl (?_)))
          show Call d 193 [vr (some 90) 10, vi 0, vi 7] (J132, H) _ _
          refine s_12_figures (by omega) hS hL_73 hR_74 hF_75 (by omega) ⟨(fun q137 J137 e137 f137 => ?_), (fun q137_1 J137_1 v137 e137_1 b137 vb137 s137 f137_1 => ?_)⟩
          ·
            show WP (Call d) 195 P X (138, [some (vr (some 90) 10), some (vi p), some (vi (th tb n (nx tb n p))), none, none, none], [vi (th tb n (nx tb n (nx tb n p)))], (J137, H), 0, 0)
            have hL_79 : LTX J137 tb n := f137.lt hL_73
            have b9 := hR_74.bd
            have hR_80 : RAT J137 tb n (nx tb n (nx tb n (nx tb n p))) := rat_go hR_74 (fun z => by have w := q137; omega) e137
            have hF_81 : J137 90 10 = -1 := (f137.1 10 (by omega)).trans hF_75
            have hu_82 : FT I J137 := hu_76.n f137
            have hM_83 : J137 91 = μ := (f137.2 91 (by omega)).trans hM_77
            have hb_84 : 0 ≤ J137 90 9 ∧ J137 90 9 ≤ n := hR_80.1
            refine WP.go 5 (And.intro (And.intro (Nat.le_of_ble_eq_true rfl) (Nat.le_of_ble_eq_true rfl)) (And.intro rfl (?_)))
            show Call d 193 [vr (some 90) 10, vi 0, vi 29] (J137, H) _ _
            refine s_12_figures (by omega) hS hL_79 hR_80 hF_81 (by omega) ⟨(fun q142 J142 e142 f142 => ?_), (fun q142_1 J142_1 v142 e142_1 b142 vb142 s142 f142_1 => ?_)⟩
            ·
              show WP (Call d) 195 P X (143, [some (vr (some 90) 10), some (vi p), some (vi (th tb n (nx tb n p))), some (vi (th tb n (nx tb n (nx tb n p)))), none, none], [vi (th tb n (nx tb n (nx tb n (nx tb n p))))], (J142, H), 0, 0)
              have hL_85 : LTX J142 tb n := f142.lt hL_79
              have b9 := hR_80.bd
              have hR_86 : RAT J142 tb n (nx tb n (nx tb n (nx tb n (nx tb n p)))) := rat_go hR_80 (fun z => by have w := q142; omega) e142
              have hF_87 : J142 90 10 = -1 := (f142.1 10 (by omega)).trans hF_81
              have hu_88 : FT I J142 := hu_82.n f142
              have hM_89 : J142 91 = μ := (f142.2 91 (by omega)).trans hM_83
              have hb_90 : 0 ≤ J142 90 9 ∧ J142 90 9 ≤ n := hR_86.1
              refine WP.go 3 (And.intro rfl (?_))
              refine rw_i (Q := fun x9 => WP (Call d) 195 P X (146, [some (vr (some 90) 10), some (vi p), some (vi (th tb n (nx tb n p))), some (vi (th tb n (nx tb n (nx tb n p)))), some (vi (th tb n (nx tb n (nx tb n (nx tb n p))))), none], [vi x9], (J142, H), 0, 0)) hF_87 ?_
              show WP (Call d) 195 P X (146, [some (vr (some 90) 10), some (vi p), some (vi (th tb n (nx tb n p))), some (vi (th tb n (nx tb n (nx tb n p)))), some (vi (th tb n (nx tb n (nx tb n (nx tb n p))))), none], [vi (-1)], (J142, H), 0, 0)
              refine WP.go 2 (And.intro (fun (b147 : (-1) = (-1)) => ?_) (fun (b147 : ¬ (-1) = (-1)) => (absurd b147 (by omega))))
              show WP (Call d) 195 P X (149, [some (vr (some 90) 10), some (vi p), some (vi (th tb n (nx tb n p))), some (vi (th tb n (nx tb n (nx tb n p)))), some (vi (th tb n (nx tb n (nx tb n (nx tb n p))))), none], [], (J142, H), 0, 0)
              have t7 : th tb n p ≠ 1000 := q7_1
              have t113 : th tb n p = 1001 := q113
              have r9 := (tln_w (tb := tb) (n := n) (p := p) (μ := μ) t113 (by omega)).trans (twin_4 (tb := tb) (n := n) (p := nx tb n p) (μ := μ) q132 q137 q142)
              refine town_window (by omega) hS hM_89 (by omega) (fun J9 m9 f9 => ?_)
              exact h.1 (by rw [r9]) _ (hu_88.c f9) (by rw [r9]; exact hR_86.cp (congrFun (f9 90 (by omega)) 9)) ((congrFun (f9 90 (by omega)) 10).trans hF_87) (by rw [r9]; exact m9)
            ·
              show WP (Call d) 195 P X (143, [some (vr (some 90) 10), some (vi p), some (vi (th tb n (nx tb n p))), some (vi (th tb n (nx tb n (nx tb n p)))), none, none], [vi v142], (J142_1, H), 0, 0)
              have hF_91 : J142_1 90 10 = (nx tb n (nx tb n (nx tb n p))) := e142_1
              have b9 := hR_80.bd
              have hM_92 : J142_1 91 = μ := (f142_1 91 (by omega)).trans hM_83
              have hu_93 : FT I J142_1 := hu_82.g s142 f142_1
              have hb_94 : 0 ≤ J142_1 90 9 ∧ J142_1 90 9 ≤ n := b142
              refine WP.go 3 (And.intro rfl (?_))
              refine rw_i (Q := fun x9 => WP (Call d) 195 P X (146, [some (vr (some 90) 10), some (vi p), some (vi (th tb n (nx tb n p))), some (vi (th tb n (nx tb n (nx tb n p)))), some (vi v142), none], [vi x9], (J142_1, H), 0, 0)) hF_91 ?_
              show WP (Call d) 195 P X (146, [some (vr (some 90) 10), some (vi p), some (vi (th tb n (nx tb n p))), some (vi (th tb n (nx tb n (nx tb n p)))), some (vi v142), none], [vi (nx tb n (nx tb n (nx tb n p)))], (J142_1, H), 0, 0)
              refine WP.go 2 (And.intro (fun (b147 : (nx tb n (nx tb n (nx tb n p))) = (-1)) => (absurd b147 (by omega))) (fun (b147 : ¬ (nx tb n (nx tb n (nx tb n p))) = (-1)) => ?_))
              show WP (Call d) 195 P X (148, [some (vr (some 90) 10), some (vi p), some (vi (th tb n (nx tb n p))), some (vi (th tb n (nx tb n (nx tb n p)))), some (vi v142), none], [], (J142_1, H), 0, 0)
              refine WP.go 1 (And.intro (And.intro (Nat.le_of_ble_eq_true rfl) (Nat.le_of_ble_eq_true rfl)) (?_))
              show P none (J142_1, H)
              have t7 : th tb n p ≠ 1000 := q7_1
              have t113 : th tb n p = 1001 := q113
              have r9 := (tln_w (tb := tb) (n := n) (p := p) (μ := μ) t113 (by omega)).trans (twin_3 (tb := tb) (n := n) (p := nx tb n p) (μ := μ) q132 q137 q142_1)
              exact h.2 (by rw [r9]; show (nx tb n (nx tb n (nx tb n p))) ≠ -1; omega) _ hu_93 (by rw [r9]; exact hF_91) hb_94 (fun j _ => by rw [hM_92])
          ·
            show WP (Call d) 195 P X (138, [some (vr (some 90) 10), some (vi p), some (vi (th tb n (nx tb n p))), none, none, none], [vi v137], (J137_1, H), 0, 0)
            have hF_95 : J137_1 90 10 = (nx tb n (nx tb n p)) := e137_1
            have b9 := hR_74.bd
            have hM_96 : J137_1 91 = μ := (f137_1 91 (by omega)).trans hM_77
            have hu_97 : FT I J137_1 := hu_76.g s137 f137_1
            have hb_98 : 0 ≤ J137_1 90 9 ∧ J137_1 90 9 ≤ n := b137
            refine WP.go 5 (And.intro (And.intro (Nat.le_of_ble_eq_true rfl) (Nat.le_of_ble_eq_true rfl)) (And.intro rfl (?_)))
            show Call d 193 [vr (some 90) 10, vi 0, vi 29] (J137_1, H) _ _
            refine s_12_figures_f (by omega) (fun z9 => by have w9 := hF_95; omega) ?_
            show WP (Call d) 195 P X (143, [some (vr (some 90) 10), some (vi p), some (vi (th tb n (nx tb n p))), some (vi v137), none, none], [vi 0], (J137_1, H), 0, 0)
            refine WP.go 3 (And.intro rfl (?_))
            refine rw_i (Q := fun x9 => WP (Call d) 195 P X (146, [some (vr (some 90) 10), some (vi p), some (vi (th tb n (nx tb n p))), some (vi v137), some (vi 0), none], [vi x9], (J137_1, H), 0, 0)) hF_95 ?_
            show WP (Call d) 195 P X (146, [some (vr (some 90) 10), some (vi p), some (vi (th tb n (nx tb n p))), some (vi v137), some (vi 0), none], [vi (nx tb n (nx tb n p))], (J137_1, H), 0, 0)
            refine WP.go 2 (And.intro (fun (b147 : (nx tb n (nx tb n p)) = (-1)) => (absurd b147 (by omega))) (fun (b147 : ¬ (nx tb n (nx tb n p)) = (-1)) => ?_))
            show WP (Call d) 195 P X (148, [some (vr (some 90) 10), some (vi p), some (vi (th tb n (nx tb n p))), some (vi v137), some (vi 0), none], [], (J137_1, H), 0, 0)
            refine WP.go 1 (And.intro (And.intro (Nat.le_of_ble_eq_true rfl) (Nat.le_of_ble_eq_true rfl)) (?_))
            show P none (J137_1, H)
            have t7 : th tb n p ≠ 1000 := q7_1
            have t113 : th tb n p = 1001 := q113
            have r9 := (tln_w (tb := tb) (n := n) (p := p) (μ := μ) t113 (by omega)).trans (twin_2 (tb := tb) (n := n) (p := nx tb n p) (μ := μ) q132 q137_1)
            exact h.2 (by rw [r9]; show (nx tb n (nx tb n p)) ≠ -1; omega) _ hu_97 (by rw [r9]; exact hF_95) hb_98 (fun j _ => by rw [hM_96])
        ·
          show WP (Call d) 195 P X (133, [some (vr (some 90) 10), some (vi p), none, none, none, none], [vi v132], (J132_1, H), 0, 0)
          have hF_99 : J132_1 90 10 = (nx tb n p) := e132_1
          have b9 := hR_68.bd
          have hM_100 : J132_1 91 = μ := (f132_1 91 (by omega)).trans hM_71
          have hu_101 : FT I J132_1 := hu_70.g s132 f132_1
          have hb_102 : 0 ≤ J132_1 90 9 ∧ J132_1 90 9 ≤ n := b132
          refine WP.go 5 (And.intro (And.intro (Nat.le_of_ble_eq_true rfl) (Nat.le_of_ble_eq_true rfl)) (And.intro rfl (?_)))
          show Call d 193 [vr (some 90) 10, vi 0, vi 7] (J132_1, H) _ _
          refine s_12_figures_f (by omega) (fun z9 => by have w9 := hF_99; omega) ?_
          show WP (Call d) 195 P X (138, [some (vr (some 90) 10), some (vi p), some (vi v132), none, none, none], [vi 0], (J132_1, H), 0, 0)
          refine WP.go 5 (And.intro (And.intro (Nat.le_of_ble_eq_true rfl) (Nat.le_of_ble_eq_true rfl)) (And.intro rfl (?_)))
          show Call d 193 [vr (some 90) 10, vi 0, vi 29] (J132_1, H) _ _
          refine s_12_figures_f (by omega) (fun z9 => by have w9 := hF_99; omega) ?_
          show WP (Call d) 195 P X (143, [some (vr (some 90) 10), some (vi p), some (vi v132), some (vi 0), none, none], [vi 0], (J132_1, H), 0, 0)
          refine WP.go 3 (And.intro rfl (?_))
          refine rw_i (Q := fun x9 => WP (Call d) 195 P X (146, [some (vr (some 90) 10), some (vi p), some (vi v132), some (vi 0), some (vi 0), none], [vi x9], (J132_1, H), 0, 0)) hF_99 ?_
          show WP (Call d) 195 P X (146, [some (vr (some 90) 10), some (vi p), some (vi v132), some (vi 0), some (vi 0), none], [vi (nx tb n p)], (J132_1, H), 0, 0)
          refine WP.go 2 (And.intro (fun (b147 : (nx tb n p) = (-1)) => (absurd b147 (by omega))) (fun (b147 : ¬ (nx tb n p) = (-1)) => ?_))
          show WP (Call d) 195 P X (148, [some (vr (some 90) 10), some (vi p), some (vi v132), some (vi 0), some (vi 0), none], [], (J132_1, H), 0, 0)
          refine WP.go 1 (And.intro (And.intro (Nat.le_of_ble_eq_true rfl) (Nat.le_of_ble_eq_true rfl)) (?_))
          show P none (J132_1, H)
          have t7 : th tb n p ≠ 1000 := q7_1
          have t113 : th tb n p = 1001 := q113
          have r9 := (tln_w (tb := tb) (n := n) (p := p) (μ := μ) t113 (by omega)).trans (twin_1 (tb := tb) (n := n) (p := nx tb n p) (μ := μ) q132_1)
          exact h.2 (by rw [r9]; show (nx tb n p) ≠ -1; omega) _ hu_101 (by rw [r9]; exact hF_99) hb_102 (fun j _ => by rw [hM_100])
      ·
        show WP (Call d) 195 P X (121, [some (vr (some 90) 10), some (vi p), none, none, none, none], [], (J113, H), 0, 0)
        refine WP.go 3 (And.intro (And.intro (Nat.le_of_ble_eq_true rfl) (Nat.le_of_ble_eq_true rfl)) (And.intro rfl (?_)))
        show Call d 192 [vr (some 90) 10, vi p] (J113, H) _ _
        refine s_12_wrong (by omega) hF_69 (fun J123 e123 f123 => ?_)
        show WP (Call d) 195 P X (124, [some (vr (some 90) 10), some (vi p), none, none, none, none], [], (J123, H), 0, 0)
        have hF_103 : J123 90 10 = p := by rw [e123]; rfl
        have hu_104 : FT I J123 := hu_70.o (.inr (.inl rfl)) e123 f123
        have hL_105 : LTX J123 tb n := hL_67.fr (by rw [e123]; rfl) (by rw [e123]; rfl) (f123 94 (by omega)) (f123 91 (by omega))
        have hR_106 : RAT J123 tb n (nx tb n p) := hR_68.cp (by rw [e123]; rfl)
        have hM_107 : J123 91 = μ := (f123 91 (by omega)).trans hM_71
        have hb_108 : 0 ≤ J123 90 9 ∧ J123 90 9 ≤ n := hR_106.1
        refine WP.go 6 (And.intro rfl (Exists.intro 91 (And.intro hS.r90_1 (And.intro (And.intro rfl (And.intro (show 0 ≤ 1 from by omega) (show 1 < H.2.1 91 from by omega))) (?_)))))
        refine rw_i (Q := fun x9 => WP (Call d) 195 P X (130, [some (vr (some 90) 10), some (vi p), none, none, none, none], [vi x9, vi 0, vr (some 90) 10], (J123, H), 0, 0)) (congrFun hM_107 _) ?_
        show WP (Call d) 195 P X (130, [some (vr (some 90) 10), some (vi p), none, none, none, none], [vi (μ 1), vi 0, vr (some 90) 10], (J123, H), 0, 0)
        refine WP.go 3 (Exists.intro ((μ 1) - 1) (And.intro (wrp_a (by omega) (by omega)) (And.intro (And.intro (Nat.le_of_ble_eq_true rfl) (Nat.le_of_ble_eq_true rfl)) (And.intro rfl (?_)))))
        show Call d 193 [vr (some 90) 10, vi 0, vi ((μ 1) - 1)] (J123, H) _ _
        refine s_12_figures_f (by omega) (fun z9 => by have w9 := hF_103; omega) ?_
        show WP (Call d) 195 P X (133, [some (vr (some 90) 10), some (vi p), none, none, none, none], [vi 0], (J123, H), 0, 0)
        refine WP.go 5 (And.intro (And.intro (Nat.le_of_ble_eq_true rfl) (Nat.le_of_ble_eq_true rfl)) (And.intro rfl (?_)))
        show Call d 193 [vr (some 90) 10, vi 0, vi 7] (J123, H) _ _
        refine s_12_figures_f (by omega) (fun z9 => by have w9 := hF_103; omega) ?_
        show WP (Call d) 195 P X (138, [some (vr (some 90) 10), some (vi p), some (vi 0), none, none, none], [vi 0], (J123, H), 0, 0)
        refine WP.go 5 (And.intro (And.intro (Nat.le_of_ble_eq_true rfl) (Nat.le_of_ble_eq_true rfl)) (And.intro rfl (?_)))
        show Call d 193 [vr (some 90) 10, vi 0, vi 29] (J123, H) _ _
        refine s_12_figures_f (by omega) (fun z9 => by have w9 := hF_103; omega) ?_
        show WP (Call d) 195 P X (143, [some (vr (some 90) 10), some (vi p), some (vi 0), some (vi 0), none, none], [vi 0], (J123, H), 0, 0)
        refine WP.go 3 (And.intro rfl (?_))
        refine rw_i (Q := fun x9 => WP (Call d) 195 P X (146, [some (vr (some 90) 10), some (vi p), some (vi 0), some (vi 0), some (vi 0), none], [vi x9], (J123, H), 0, 0)) hF_103 ?_
        show WP (Call d) 195 P X (146, [some (vr (some 90) 10), some (vi p), some (vi 0), some (vi 0), some (vi 0), none], [vi p], (J123, H), 0, 0)
        refine WP.go 2 (And.intro (fun (b147 : p = (-1)) => (absurd b147 (by omega))) (fun (b147 : ¬ p = (-1)) => ?_))
        show WP (Call d) 195 P X (148, [some (vr (some 90) 10), some (vi p), some (vi 0), some (vi 0), some (vi 0), none], [], (J123, H), 0, 0)
        refine WP.go 1 (And.intro (And.intro (Nat.le_of_ble_eq_true rfl) (Nat.le_of_ble_eq_true rfl)) (?_))
        show P none (J123, H)
        have t7 : th tb n p ≠ 1000 := q7_1
        have t113 : th tb n p = 1001 := q113
        have r9 := tln_1 (tb := tb) (n := n) (p := p) (μ := μ) (.inr (.inl ⟨t113, by omega⟩))
        exact h.2 (by rw [r9]; show p ≠ -1; omega) _ hu_104 (by rw [r9]; exact hF_103) hb_108 (fun j _ => by rw [hM_107])
    ·
      show WP (Call d) 195 P X (114, [some (vr (some 90) 10), some (vi p), none, none, none, none], [vi 0], (J113_1, H), 0, 0)
      have hL_109 : LTX J113_1 tb n := f113_1.lt hL_60
      have hR_110 : RAT J113_1 tb n p := RAT.of hR_61.bd e113_1
      have hF_111 : J113_1 90 10 = -1 := (f113_1.1 10 (by omega)).trans hF_62
      have hu_112 : FT I J113_1 := hu_63.n f113_1
      have h_113 : J113_1 90 9 = p := e113_1
      have hM_114 : J113_1 91 = μ := (f113_1.2 91 (by omega)).trans hM_65
      have hb_115 : 0 ≤ J113_1 90 9 ∧ J113_1 90 9 ≤ n := hR_110.1
      refine WP.go 1 (And.intro (fun (b114 : 0 = 0) => ?_) (fun (b114 : ¬ 0 = 0) => (absurd b114 (by omega))))
      show WP (Call d) 195 P X (186, [some (vr (some 90) 10), some (vi p), none, none, none, none], [], (J113_1, H), 0, 0)
      refine WP.go 3 (And.intro (And.intro (Nat.le_of_ble_eq_true rfl) (Nat.le_of_ble_eq_true rfl)) (And.intro rfl (?_)))
      show Call d 191 [vr (some 90) 10, vr (some 3) 100] (J113_1, H) _ _
      refine s_12_has (by omega) hS hL_109 hR_110 (by omega) ⟨(fun q188 J188 e188 f188 => ?_), (fun q188_1 J188_1 e188_1 f188_1 => ?_)⟩
      ·
        show WP (Call d) 195 P X (189, [some (vr (some 90) 10), some (vi p), none, none, none, none], [vi 1], (J188, H), 0, 0)
        have hL_116 : LTX J188 tb n := f188.lt hL_109
        have hR_117 : RAT J188 tb n (nx tb n p) := rat_go hR_110 (fun z => absurd (q188.symm.trans z) (by decide)) e188
        have hF_118 : J188 90 10 = -1 := (f188.1 10 (by omega)).trans hF_111
        have hu_119 : FT I J188 := hu_112.n f188
        have hM_120 : J188 91 = μ := (f188.2 91 (by omega)).trans hM_114
        have hb_121 : 0 ≤ J188 90 9 ∧ J188 90 9 ≤ n := hR_117.1
        refine WP.go 1 (And.intro (fun (b189 : 1 = 0) => (absurd b189 (by omega))) (fun (b189 : ¬ 1 = 0) => ?_))
        show WP (Call d) 195 P X (190, [some (vr (some 90) 10), some (vi p), none, none, none, none], [], (J188, H), 0, 0)
        refine WP.go 7 (And.intro rfl (Exists.intro 91 (And.intro hS.r90_1 (And.intro (And.intro (Nat.le_of_ble_eq_true rfl) (Nat.le_of_ble_eq_true rfl)) (And.intro rfl (?_))))))
        show Call d 193 [vr (some 90) 10, vi 0, vi 95] (J188, H) _ _
        refine s_12_figures (by omega) hS hL_116 hR_117 hF_118 (by omega) ⟨(fun q196 J196 e196 f196 => ?_), (fun q196_1 J196_1 v196 e196_1 b196 vb196 s196 f196_1 => ?_)⟩
        ·
          show WP (Call d) 195 P X (197, [some (vr (some 90) 10), some (vi p), none, none, none, none], [vi (th tb n (nx tb n p)), vi 9, vr (some 91) 11], (J196, H), 0, 0)
          have hL_122 : LTX J196 tb n := f196.lt hL_116
          have b9 := hR_117.bd
          have hR_123 : RAT J196 tb n (nx tb n (nx tb n p)) := rat_go hR_117 (fun z => by have w := q196; omega) e196
          have hF_124 : J196 90 10 = -1 := (f196.1 10 (by omega)).trans hF_118
          have hu_125 : FT I J196 := hu_119.n f196
          have hM_126 : J196 91 = μ := (f196.2 91 (by omega)).trans hM_120
          have hb_127 : 0 ≤ J196 90 9 ∧ J196 90 9 ≤ n := hR_123.1
          refine WP.go 3 (And.intro (And.intro rfl (And.intro (show 0 ≤ 9 from by omega) (show 9 < H.2.1 91 from by omega))) (And.intro (And.intro (Nat.le_of_ble_eq_true rfl) (Nat.le_of_ble_eq_true rfl)) (?_)))
          show P none ((upI J196 91 9 (th tb n (nx tb n p))), H)
          have t7 : th tb n p ≠ 1000 := q7_1
          have t113 : th tb n p ≠ 1001 := q113_1
          have t188 : th tb n p = 1002 := q188
          have r9 := (tln_d (tb := tb) (n := n) (p := p) (μ := μ) (by omega)).trans (tdia_2 (tb := tb) (n := n) (t := th tb n p) (p := nx tb n p) (μ := μ) ⟨q196.1, by have w9 := q196.2; split <;> omega⟩)
          exact h.1 (by rw [r9]) _ (hu_125.c (fun a q => upI_cell q)) (by rw [r9]; exact hR_123.cp (upI_at (.inl (by omega)))) ((upI_at (.inl (by omega))).trans hF_124) (by rw [r9]; exact uDia_up hM_126 (by omega))
        ·
          show WP (Call d) 195 P X (197, [some (vr (some 90) 10), some (vi p), none, none, none, none], [vi v196, vi 9, vr (some 91) 11], (J196_1, H), 0, 0)
          have hF_128 : J196_1 90 10 = (nx tb n p) := e196_1
          have b9 := hR_117.bd
          have hM_129 : J196_1 91 = μ := (f196_1 91 (by omega)).trans hM_120
          have hu_130 : FT I J196_1 := hu_119.g s196 f196_1
          have hb_131 : 0 ≤ J196_1 90 9 ∧ J196_1 90 9 ≤ n := b196
          refine WP.go 3 (And.intro (And.intro rfl (And.intro (show 0 ≤ 9 from by omega) (show 9 < H.2.1 91 from by omega))) (And.intro (And.intro (Nat.le_of_ble_eq_true rfl) (Nat.le_of_ble_eq_true rfl)) (?_)))
          show P none ((upI J196_1 91 9 v196), H)
          have t7 : th tb n p ≠ 1000 := q7_1
          have t113 : th tb n p ≠ 1001 := q113_1
          have t188 : th tb n p = 1002 := q188
          have r9 := (tln_d (tb := tb) (n := n) (p := p) (μ := μ) (by omega)).trans (tdia_1 (tb := tb) (n := n) (t := th tb n p) (p := nx tb n p) (μ := μ) (fun z9 => q196_1 ⟨z9.1, by have w9 := z9.2; split at w9 <;> omega⟩))
          exact h.2 (by rw [r9]; show nx tb n p ≠ -1; omega) _ (hu_130.c (fun a q => upI_cell q)) (by rw [r9]; exact (upI_at (.inl (by omega))).trans hF_128) (by rw [upI_at (.inl (by omega))]; exact hb_131) (fun j w9 => by rw [upI_at (.inr (by omega)), hM_129])
      ·
        show WP (Call d) 195 P X (189, [some (vr (some 90) 10), some (vi p), none, none, none, none], [vi 0], (J188_1, H), 0, 0)
        have hL_132 : LTX J188_1 tb n := f188_1.lt hL_109
        have hR_133 : RAT J188_1 tb n p := RAT.of hR_110.bd e188_1
        have hF_134 : J188_1 90 10 = -1 := (f188_1.1 10 (by omega)).trans hF_111
        have hu_135 : FT I J188_1 := hu_112.n f188_1
        have h_136 : J188_1 90 9 = p := e188_1
        have hM_137 : J188_1 91 = μ := (f188_1.2 91 (by omega)).trans hM_114
        have hb_138 : 0 ≤ J188_1 90 9 ∧ J188_1 90 9 ≤ n := hR_133.1
        refine WP.go 1 (And.intro (fun (b189 : 0 = 0) => ?_) (fun (b189 : ¬ 0 = 0) => (absurd b189 (by omega))))
        show WP (Call d) 195 P X (199, [some (vr (some 90) 10), some (vi p), none, none, none, none], [], (J188_1, H), 0, 0)
        refine WP.go 3 (And.intro (And.intro (Nat.le_of_ble_eq_true rfl) (Nat.le_of_ble_eq_true rfl)) (And.intro rfl (?_)))
        show Call d 191 [vr (some 90) 10, vr (some 4) 100] (J188_1, H) _ _
        refine s_12_has (by omega) hS hL_132 hR_133 (by omega) ⟨(fun q201 J201 e201 f201 => ?_), (fun q201_1 J201_1 e201_1 f201_1 => ?_)⟩
        ·
          show WP (Call d) 195 P X (202, [some (vr (some 90) 10), some (vi p), none, none, none, none], [vi 1], (J201, H), 0, 0)
          have hL_139 : LTX J201 tb n := f201.lt hL_132
          have hR_140 : RAT J201 tb n (nx tb n p) := rat_go hR_133 (fun z => absurd (q201.symm.trans z) (by decide)) e201
          have hF_141 : J201 90 10 = -1 := (f201.1 10 (by omega)).trans hF_134
          have hu_142 : FT I J201 := hu_135.n f201
          have hM_143 : J201 91 = μ := (f201.2 91 (by omega)).trans hM_137
          have hb_144 : 0 ≤ J201 90 9 ∧ J201 90 9 ≤ n := hR_140.1
          refine WP.go 1 (And.intro (fun (b202 : 1 = 0) => (absurd b202 (by omega))) (fun (b202 : ¬ 1 = 0) => ?_))
          show WP (Call d) 195 P X (203, [some (vr (some 90) 10), some (vi p), none, none, none, none], [], (J201, H), 0, 0)
          refine WP.go 7 (And.intro rfl (Exists.intro 91 (And.intro hS.r90_1 (And.intro (And.intro (Nat.le_of_ble_eq_true rfl) (Nat.le_of_ble_eq_true rfl)) (And.intro rfl (?_))))))
          show Call d 193 [vr (some 90) 10, vi 0, vi 20] (J201, H) _ _
          refine s_12_figures (by omega) hS hL_139 hR_140 hF_141 (by omega) ⟨(fun q209 J209 e209 f209 => ?_), (fun q209_1 J209_1 v209 e209_1 b209 vb209 s209 f209_1 => ?_)⟩
          ·
            show WP (Call d) 195 P X (210, [some (vr (some 90) 10), some (vi p), none, none, none, none], [vi (th tb n (nx tb n p)), vi 10, vr (some 91) 11], (J209, H), 0, 0)
            have hL_145 : LTX J209 tb n := f209.lt hL_139
            have b9 := hR_140.bd
            have hR_146 : RAT J209 tb n (nx tb n (nx tb n p)) := rat_go hR_140 (fun z => by have w := q209; omega) e209
            have hF_147 : J209 90 10 = -1 := (f209.1 10 (by omega)).trans hF_141
            have hu_148 : FT I J209 := hu_142.n f209
            have hM_149 : J209 91 = μ := (f209.2 91 (by omega)).trans hM_143
            have hb_150 : 0 ≤ J209 90 9 ∧ J209 90 9 ≤ n := hR_146.1
            refine WP.go 3 (And.intro (And.intro rfl (And.intro (show 0 ≤ 10 from by omega) (show 10 < H.2.1 91 from by omega))) (And.intro (And.intro (Nat.le_of_ble_eq_true rfl) (Nat.le_of_ble_eq_true rfl)) (?_)))
            show P none ((upI J209 91 10 (th tb n (nx tb n p))), H)
            have t7 : th tb n p ≠ 1000 := q7_1
            have t113 : th tb n p ≠ 1001 := q113_1
            have t188 : th tb n p ≠ 1002 := q188_1
            have t201 : th tb n p = 1003 := q201
            have r9 := (tln_d (tb := tb) (n := n) (p := p) (μ := μ) (by omega)).trans (tdia_2 (tb := tb) (n := n) (t := th tb n p) (p := nx tb n p) (μ := μ) ⟨q209.1, by have w9 := q209.2; split <;> omega⟩)
            exact h.1 (by rw [r9]) _ (hu_148.c (fun a q => upI_cell q)) (by rw [r9]; exact hR_146.cp (upI_at (.inl (by omega)))) ((upI_at (.inl (by omega))).trans hF_147) (by rw [r9]; exact uDia_up hM_149 (by omega))
          ·
            show WP (Call d) 195 P X (210, [some (vr (some 90) 10), some (vi p), none, none, none, none], [vi v209, vi 10, vr (some 91) 11], (J209_1, H), 0, 0)
            have hF_151 : J209_1 90 10 = (nx tb n p) := e209_1
            have b9 := hR_140.bd
            have hM_152 : J209_1 91 = μ := (f209_1 91 (by omega)).trans hM_143
            have hu_153 : FT I J209_1 := hu_142.g s209 f209_1
            have hb_154 : 0 ≤ J209_1 90 9 ∧ J209_1 90 9 ≤ n := b209
            refine WP.go 3 (And.intro (And.intro rfl (And.intro (show 0 ≤ 10 from by omega) (show 10 < H.2.1 91 from by omega))) (And.intro (And.intro (Nat.le_of_ble_eq_true rfl) (Nat.le_of_ble_eq_true rfl)) (?_)))
            show P none ((upI J209_1 91 10 v209), H)
            have t7 : th tb n p ≠ 1000 := q7_1
            have t113 : th tb n p ≠ 1001 := q113_1
            have t188 : th tb n p ≠ 1002 := q188_1
            have t201 : th tb n p = 1003 := q201
            have r9 := (tln_d (tb := tb) (n := n) (p := p) (μ := μ) (by omega)).trans (tdia_1 (tb := tb) (n := n) (t := th tb n p) (p := nx tb n p) (μ := μ) (fun z9 => q209_1 ⟨z9.1, by have w9 := z9.2; split at w9 <;> omega⟩))
            exact h.2 (by rw [r9]; show nx tb n p ≠ -1; omega) _ (hu_153.c (fun a q => upI_cell q)) (by rw [r9]; exact (upI_at (.inl (by omega))).trans hF_151) (by rw [upI_at (.inl (by omega))]; exact hb_154) (fun j w9 => by rw [upI_at (.inr (by omega)), hM_152])
        ·
          show WP (Call d) 195 P X (202, [some (vr (some 90) 10), some (vi p), none, none, none, none], [vi 0], (J201_1, H), 0, 0)
          have hL_155 : LTX J201_1 tb n := f201_1.lt hL_132
          have hR_156 : RAT J201_1 tb n p := RAT.of hR_133.bd e201_1
          have hF_157 : J201_1 90 10 = -1 := (f201_1.1 10 (by omega)).trans hF_134
          have hu_158 : FT I J201_1 := hu_135.n f201_1
          have h_159 : J201_1 90 9 = p := e201_1
          have hM_160 : J201_1 91 = μ := (f201_1.2 91 (by omega)).trans hM_137
          have hb_161 : 0 ≤ J201_1 90 9 ∧ J201_1 90 9 ≤ n := hR_156.1
          refine WP.go 1 (And.intro (fun (b202 : 0 = 0) => ?_) (fun (b202 : ¬ 0 = 0) => (absurd b202 (by omega))))
          show WP (Call d) 195 P X (212, [some (vr (some 90) 10), some (vi p), none, none, none, none], [], (J201_1, H), 0, 0)
          refine WP.go 3 (And.intro (And.intro (Nat.le_of_ble_eq_true rfl) (Nat.le_of_ble_eq_true rfl)) (And.intro rfl (?_)))
          show Call d 191 [vr (some 90) 10, vr (some 5) 100] (J201_1, H) _ _
          refine s_12_has (by omega) hS hL_155 hR_156 (by omega) ⟨(fun q214 J214 e214 f214 => ?_), (fun q214_1 J214_1 e214_1 f214_1 => ?_)⟩
          ·
            show WP (Call d) 195 P X (215, [some (vr (some 90) 10), some (vi p), none, none, none, none], [vi 1], (J214, H), 0, 0)
            have hL_162 : LTX J214 tb n := f214.lt hL_155
            have hR_163 : RAT J214 tb n (nx tb n p) := rat_go hR_156 (fun z => absurd (q214.symm.trans z) (by decide)) e214
            have hF_164 : J214 90 10 = -1 := (f214.1 10 (by omega)).trans hF_157
            have hu_165 : FT I J214 := hu_158.n f214
            have hM_166 : J214 91 = μ := (f214.2 91 (by omega)).trans hM_160
            have hb_167 : 0 ≤ J214 90 9 ∧ J214 90 9 ≤ n := hR_163.1
            refine WP.go 1 (And.intro (fun (b215 : 1 = 0) => (absurd b215 (by omega))) (fun (b215 : ¬ 1 = 0) => ?_))
            show WP (Call d) 195 P X (216, [some (vr (some 90) 10), some (vi p), none, none, none, none], [], (J214, H), 0, 0)
            refine WP.go 7 (And.intro rfl (Exists.intro 91 (And.intro hS.r90_1 (And.intro (And.intro (Nat.le_of_ble_eq_true rfl) (Nat.le_of_ble_eq_true rfl)) (And.intro rfl (?_))))))
            show Call d 193 [vr (some 90) 10, vi 0, vi 95] (J214, H) _ _
            refine s_12_figures (by omega) hS hL_162 hR_163 hF_164 (by omega) ⟨(fun q222 J222 e222 f222 => ?_), (fun q222_1 J222_1 v222 e222_1 b222 vb222 s222 f222_1 => ?_)⟩
            ·
              show WP (Call d) 195 P X (223, [some (vr (some 90) 10), some (vi p), none, none, none, none], [vi (th tb n (nx tb n p)), vi 11, vr (some 91) 11], (J222, H), 0, 0)
              have hL_168 : LTX J222 tb n := f222.lt hL_162
              have b9 := hR_163.bd
              have hR_169 : RAT J222 tb n (nx tb n (nx tb n p)) := rat_go hR_163 (fun z => by have w := q222; omega) e222
              have hF_170 : J222 90 10 = -1 := (f222.1 10 (by omega)).trans hF_164
              have hu_171 : FT I J222 := hu_165.n f222
              have hM_172 : J222 91 = μ := (f222.2 91 (by omega)).trans hM_166
              have hb_173 : 0 ≤ J222 90 9 ∧ J222 90 9 ≤ n := hR_169.1
              refine WP.go 3 (And.intro (And.intro rfl (And.intro (show 0 ≤ 11 from by omega) (show 11 < H.2.1 91 from by omega))) (And.intro (And.intro (Nat.le_of_ble_eq_true rfl) (Nat.le_of_ble_eq_true rfl)) (?_)))
              show P none ((upI J222 91 11 (th tb n (nx tb n p))), H)
              have t7 : th tb n p ≠ 1000 := q7_1
              have t113 : th tb n p ≠ 1001 := q113_1
              have t188 : th tb n p ≠ 1002 := q188_1
              have t201 : th tb n p ≠ 1003 := q201_1
              have t214 : th tb n p = 1004 := q214
              have r9 := (tln_d (tb := tb) (n := n) (p := p) (μ := μ) (by omega)).trans (tdia_2 (tb := tb) (n := n) (t := th tb n p) (p := nx tb n p) (μ := μ) ⟨q222.1, by have w9 := q222.2; split <;> omega⟩)
              exact h.1 (by rw [r9]) _ (hu_171.c (fun a q => upI_cell q)) (by rw [r9]; exact hR_169.cp (upI_at (.inl (by omega)))) ((upI_at (.inl (by omega))).trans hF_170) (by rw [r9]; exact uDia_up hM_172 (by omega))
            ·
              show WP (Call d) 195 P X (223, [some (vr (some 90) 10), some (vi p), none, none, none, none], [vi v222, vi 11, vr (some 91) 11], (J222_1, H), 0, 0)
              have hF_174 : J222_1 90 10 = (nx tb n p) := e222_1
              have b9 := hR_163.bd
              have hM_175 : J222_1 91 = μ := (f222_1 91 (by omega)).trans hM_166
              have hu_176 : FT I J222_1 := hu_165.g s222 f222_1
              have hb_177 : 0 ≤ J222_1 90 9 ∧ J222_1 90 9 ≤ n := b222
              refine WP.go 3 (And.intro (And.intro rfl (And.intro (show 0 ≤ 11 from by omega) (show 11 < H.2.1 91 from by omega))) (And.intro (And.intro (Nat.le_of_ble_eq_true rfl) (Nat.le_of_ble_eq_true rfl)) (?_)))
              show P none ((upI J222_1 91 11 v222), H)
              have t7 : th tb n p ≠ 1000 := q7_1
              have t113 : th tb n p ≠ 1001 := q113_1
              have t188 : th tb n p ≠ 1002 := q188_1
              have t201 : th tb n p ≠ 1003 := q201_1
              have t214 : th tb n p = 1004 := q214
              have r9 := (tln_d (tb := tb) (n := n) (p := p) (μ := μ) (by omega)).trans (tdia_1 (tb := tb) (n := n) (t := th tb n p) (p := nx tb n p) (μ := μ) (fun z9 => q222_1 ⟨z9.1, by have w9 := z9.2; split at w9 <;> omega⟩))
              exact h.2 (by rw [r9]; show nx tb n p ≠ -1; omega) _ (hu_176.c (fun a q => upI_cell q)) (by rw [r9]; exact (upI_at (.inl (by omega))).trans hF_174) (by rw [upI_at (.inl (by omega))]; exact hb_177) (fun j w9 => by rw [upI_at (.inr (by omega)), hM_175])
          ·
            show WP (Call d) 195 P X (215, [some (vr (some 90) 10), some (vi p), none, none, none, none], [vi 0], (J214_1, H), 0, 0)
            have hL_178 : LTX J214_1 tb n := f214_1.lt hL_155
            have hR_179 : RAT J214_1 tb n p := RAT.of hR_156.bd e214_1
            have hF_180 : J214_1 90 10 = -1 := (f214_1.1 10 (by omega)).trans hF_157
            have hu_181 : FT I J214_1 := hu_158.n f214_1
            have h_182 : J214_1 90 9 = p := e214_1
            have hM_183 : J214_1 91 = μ := (f214_1.2 91 (by omega)).trans hM_160
            have hb_184 : 0 ≤ J214_1 90 9 ∧ J214_1 90 9 ≤ n := hR_179.1
            refine WP.go 1 (And.intro (fun (b215 : 0 = 0) => ?_) (fun (b215 : ¬ 0 = 0) => (absurd b215 (by omega))))
            show WP (Call d) 195 P X (225, [some (vr (some 90) 10), some (vi p), none, none, none, none], [], (J214_1, H), 0, 0)
            refine WP.go 3 (And.intro (And.intro (Nat.le_of_ble_eq_true rfl) (Nat.le_of_ble_eq_true rfl)) (And.intro rfl (?_)))
            show Call d 191 [vr (some 90) 10, vr (some 6) 100] (J214_1, H) _ _
            refine s_12_has (by omega) hS hL_178 hR_179 (by omega) ⟨(fun q227 J227 e227 f227 => ?_), (fun q227_1 J227_1 e227_1 f227_1 => ?_)⟩
            ·
              show WP (Call d) 195 P X (228, [some (vr (some 90) 10), some (vi p), none, none, none, none], [vi 1], (J227, H), 0, 0)
              have hL_185 : LTX J227 tb n := f227.lt hL_178
              have hR_186 : RAT J227 tb n (nx tb n p) := rat_go hR_179 (fun z => absurd (q227.symm.trans z) (by decide)) e227
              have hF_187 : J227 90 10 = -1 := (f227.1 10 (by omega)).trans hF_180
              have hu_188 : FT I J227 := hu_181.n f227
              have hM_189 : J227 91 = μ := (f227.2 91 (by omega)).trans hM_183
              have hb_190 : 0 ≤ J227 90 9 ∧ J227 90 9 ≤ n := hR_186.1
              refine WP.go 1 (And.intro (fun (b228 : 1 = 0) => (absurd b228 (by omega))) (fun (b228 : ¬ 1 = 0) => ?_))
              show WP (Call d) 195 P X (229, [some (vr (some 90) 10), some (vi p), none, none, none, none], [], (J227, H), 0, 0)
              refine WP.go 7 (And.intro rfl (Exists.intro 91 (And.intro hS.r90_1 (And.intro (And.intro (Nat.le_of_ble_eq_true rfl) (Nat.le_of_ble_eq_true rfl)) (And.intro rfl (?_))))))
              show Call d 193 [vr (some 90) 10, vi 0, vi 95] (J227, H) _ _
              refine s_12_figures (by omega) hS hL_185 hR_186 hF_187 (by omega) ⟨(fun q235 J235 e235 f235 => ?_), (fun q235_1 J235_1 v235 e235_1 b235 vb235 s235 f235_1 => ?_)⟩
              ·
                show WP (Call d) 195 P X (236, [some (vr (some 90) 10), some (vi p), none, none, none, none], [vi (th tb n (nx tb n p)), vi 12, vr (some 91) 11], (J235, H), 0, 0)
                have hL_191 : LTX J235 tb n := f235.lt hL_185
                have b9 := hR_186.bd
                have hR_192 : RAT J235 tb n (nx tb n (nx tb n p)) := rat_go hR_186 (fun z => by have w := q235; omega) e235
                have hF_193 : J235 90 10 = -1 := (f235.1 10 (by omega)).trans hF_187
                have hu_194 : FT I J235 := hu_188.n f235
                have hM_195 : J235 91 = μ := (f235.2 91 (by omega)).trans hM_189
                have hb_196 : 0 ≤ J235 90 9 ∧ J235 90 9 ≤ n := hR_192.1
                refine WP.go 3 (And.intro (And.intro rfl (And.intro (show 0 ≤ 12 from by omega) (show 12 < H.2.1 91 from by omega))) (And.intro (And.intro (Nat.le_of_ble_eq_true rfl) (Nat.le_of_ble_eq_true rfl)) (?_)))
                show P none ((upI J235 91 12 (th tb n (nx tb n p))), H)
                have t7 : th tb n p ≠ 1000 := q7_1
                have t113 : th tb n p ≠ 1001 := q113_1
                have t188 : th tb n p ≠ 1002 := q188_1
                have t201 : th tb n p ≠ 1003 := q201_1
                have t214 : th tb n p ≠ 1004 := q214_1
                have t227 : th tb n p = 1005 := q227
                have r9 := (tln_d (tb := tb) (n := n) (p := p) (μ := μ) (by omega)).trans (tdia_2 (tb := tb) (n := n) (t := th tb n p) (p := nx tb n p) (μ := μ) ⟨q235.1, by have w9 := q235.2; split <;> omega⟩)
                exact h.1 (by rw [r9]) _ (hu_194.c (fun a q => upI_cell q)) (by rw [r9]; exact hR_192.cp (upI_at (.inl (by omega)))) ((upI_at (.inl (by omega))).trans hF_193) (by rw [r9]; exact uDia_up hM_195 (by omega))
              ·
                show WP (Call d) 195 P X (236, [some (vr (some 90) 10), some (vi p), none, none, none, none], [vi v235, vi 12, vr (some 91) 11], (J235_1, H), 0, 0)
                have hF_197 : J235_1 90 10 = (nx tb n p) := e235_1
                have b9 := hR_186.bd
                have hM_198 : J235_1 91 = μ := (f235_1 91 (by omega)).trans hM_189
                have hu_199 : FT I J235_1 := hu_188.g s235 f235_1
                have hb_200 : 0 ≤ J235_1 90 9 ∧ J235_1 90 9 ≤ n := b235
                refine WP.go 3 (And.intro (And.intro rfl (And.intro (show 0 ≤ 12 from by omega) (show 12 < H.2.1 91 from by omega))) (And.intro (And.intro (Nat.le_of_ble_eq_true rfl) (Nat.le_of_ble_eq_true rfl)) (?_)))
                show P none ((upI J235_1 91 12 v235), H)
                have t7 : th tb n p ≠ 1000 := q7_1
                have t113 : th tb n p ≠ 1001 := q113_1
                have t188 : th tb n p ≠ 1002 := q188_1
                have t201 : th tb n p ≠ 1003 := q201_1
                have t214 : th tb n p ≠ 1004 := q214_1
                have t227 : th tb n p = 1005 := q227
                have r9 := (tln_d (tb := tb) (n := n) (p := p) (μ := μ) (by omega)).trans (tdia_1 (tb := tb) (n := n) (t := th tb n p) (p := nx tb n p) (μ := μ) (fun z9 => q235_1 ⟨z9.1, by have w9 := z9.2; split at w9 <;> omega⟩))
                exact h.2 (by rw [r9]; show nx tb n p ≠ -1; omega) _ (hu_199.c (fun a q => upI_cell q)) (by rw [r9]; exact (upI_at (.inl (by omega))).trans hF_197) (by rw [upI_at (.inl (by omega))]; exact hb_200) (fun j w9 => by rw [upI_at (.inr (by omega)), hM_198])
            ·
              show WP (Call d) 195 P X (228, [some (vr (some 90) 10), some (vi p), none, none, none, none], [vi 0], (J227_1, H), 0, 0)
              have hL_201 : LTX J227_1 tb n := f227_1.lt hL_178
              have hR_202 : RAT J227_1 tb n p := RAT.of hR_179.bd e227_1
              have hF_203 : J227_1 90 10 = -1 := (f227_1.1 10 (by omega)).trans hF_180
              have hu_204 : FT I J227_1 := hu_181.n f227_1
              have h_205 : J227_1 90 9 = p := e227_1
              have hM_206 : J227_1 91 = μ := (f227_1.2 91 (by omega)).trans hM_183
              have hb_207 : 0 ≤ J227_1 90 9 ∧ J227_1 90 9 ≤ n := hR_202.1
              refine WP.go 1 (And.intro (fun (b228 : 0 = 0) => ?_) (fun (b228 : ¬ 0 = 0) => (absurd b228 (by omega))))
              show WP (Call d) 195 P X (238, [some (vr (some 90) 10), some (vi p), none, none, none, none], [], (J227_1, H), 0, 0)
              refine WP.go 3 (And.intro (And.intro (Nat.le_of_ble_eq_true rfl) (Nat.le_of_ble_eq_true rfl)) (And.intro rfl (?_)))
              show Call d 191 [vr (some 90) 10, vr (some 7) 100] (J227_1, H) _ _
              refine s_12_has (by omega) hS hL_201 hR_202 (by omega) ⟨(fun q240 J240 e240 f240 => ?_), (fun q240_1 J240_1 e240_1 f240_1 => ?_)⟩
              ·
                show WP (Call d) 195 P X (241, [some (vr (some 90) 10), some (vi p), none, none, none, none], [vi 1], (J240, H), 0, 0)
                have hL_208 : LTX J240 tb n := f240.lt hL_201
                have hR_209 : RAT J240 tb n (nx tb n p) := rat_go hR_202 (fun z => absurd (q240.symm.trans z) (by decide)) e240
                have hF_210 : J240 90 10 = -1 := (f240.1 10 (by omega)).trans hF_203
                have hu_211 : FT I J240 := hu_204.n f240
                have hM_212 : J240 91 = μ := (f240.2 91 (by omega)).trans hM_206
                have hb_213 : 0 ≤ J240 90 9 ∧ J240 90 9 ≤ n := hR_209.1
                refine WP.go 1 (And.intro (fun (b241 : 1 = 0) => (absurd b241 (by omega))) (fun (b241 : ¬ 1 = 0) => ?_))
                show WP (Call d) 195 P X (242, [some (vr (some 90) 10), some (vi p), none, none, none, none], [], (J240, H), 0, 0)
                refine WP.go 7 (And.intro rfl (Exists.intro 91 (And.intro hS.r90_1 (And.intro (And.intro (Nat.le_of_ble_eq_true rfl) (Nat.le_of_ble_eq_true rfl)) (And.intro rfl (?_))))))
                show Call d 193 [vr (some 90) 10, vi 0, vi 95] (J240, H) _ _
                refine s_12_figures (by omega) hS hL_208 hR_209 hF_210 (by omega) ⟨(fun q248 J248 e248 f248 => ?_), (fun q248_1 J248_1 v248 e248_1 b248 vb248 s248 f248_1 => ?_)⟩
                ·
                  show WP (Call d) 195 P X (249, [some (vr (some 90) 10), some (vi p), none, none, none, none], [vi (th tb n (nx tb n p)), vi 13, vr (some 91) 11], (J248, H), 0, 0)
                  have hL_214 : LTX J248 tb n := f248.lt hL_208
                  have b9 := hR_209.bd
                  have hR_215 : RAT J248 tb n (nx tb n (nx tb n p)) := rat_go hR_209 (fun z => by have w := q248; omega) e248
                  have hF_216 : J248 90 10 = -1 := (f248.1 10 (by omega)).trans hF_210
                  have hu_217 : FT I J248 := hu_211.n f248
                  have hM_218 : J248 91 = μ := (f248.2 91 (by omega)).trans hM_212
                  have hb_219 : 0 ≤ J248 90 9 ∧ J248 90 9 ≤ n := hR_215.1
                  refine WP.go 3 (And.intro (And.intro rfl (And.intro (show 0 ≤ 13 from by omega) (show 13 < H.2.1 91 from by omega))) (And.intro (And.intro (Nat.le_of_ble_eq_true rfl) (Nat.le_of_ble_eq_true rfl)) (?_)))
                  show P none ((upI J248 91 13 (th tb n (nx tb n p))), H)
                  have t7 : th tb n p ≠ 1000 := q7_1
                  have t113 : th tb n p ≠ 1001 := q113_1
                  have t188 : th tb n p ≠ 1002 := q188_1
                  have t201 : th tb n p ≠ 1003 := q201_1
                  have t214 : th tb n p ≠ 1004 := q214_1
                  have t227 : th tb n p ≠ 1005 := q227_1
                  have t240 : th tb n p = 1006 := q240
                  have r9 := (tln_d (tb := tb) (n := n) (p := p) (μ := μ) (by omega)).trans (tdia_2 (tb := tb) (n := n) (t := th tb n p) (p := nx tb n p) (μ := μ) ⟨q248.1, by have w9 := q248.2; split <;> omega⟩)
                  exact h.1 (by rw [r9]) _ (hu_217.c (fun a q => upI_cell q)) (by rw [r9]; exact hR_215.cp (upI_at (.inl (by omega)))) ((upI_at (.inl (by omega))).trans hF_216) (by rw [r9]; exact uDia_up hM_218 (by omega))
                ·
                  show WP (Call d) 195 P X (249, [some (vr (some 90) 10), some (vi p), none, none, none, none], [vi v248, vi 13, vr (some 91) 11], (J248_1, H), 0, 0)
                  have hF_220 : J248_1 90 10 = (nx tb n p) := e248_1
                  have b9 := hR_209.bd
                  have hM_221 : J248_1 91 = μ := (f248_1 91 (by omega)).trans hM_212
                  have hu_222 : FT I J248_1 := hu_211.g s248 f248_1
                  have hb_223 : 0 ≤ J248_1 90 9 ∧ J248_1 90 9 ≤ n := b248
                  refine WP.go 3 (And.intro (And.intro rfl (And.intro (show 0 ≤ 13 from by omega) (show 13 < H.2.1 91 from by omega))) (And.intro (And.intro (Nat.le_of_ble_eq_true rfl) (Nat.le_of_ble_eq_true rfl)) (?_)))
                  show P none ((upI J248_1 91 13 v248), H)
                  have t7 : th tb n p ≠ 1000 := q7_1
                  have t113 : th tb n p ≠ 1001 := q113_1
                  have t188 : th tb n p ≠ 1002 := q188_1
                  have t201 : th tb n p ≠ 1003 := q201_1
                  have t214 : th tb n p ≠ 1004 := q214_1
                  have t227 : th tb n p ≠ 1005 := q227_1
                  have t240 : th tb n p = 1006 := q240
                  have r9 := (tln_d (tb := tb) (n := n) (p := p) (μ := μ) (by omega)).trans (tdia_1 (tb := tb) (n := n) (t := th tb n p) (p := nx tb n p) (μ := μ) (fun z9 => q248_1 ⟨z9.1, by have w9 := z9.2; split at w9 <;> omega⟩))
                  exact h.2 (by rw [r9]; show nx tb n p ≠ -1; omega) _ (hu_222.c (fun a q => upI_cell q)) (by rw [r9]; exact (upI_at (.inl (by omega))).trans hF_220) (by rw [upI_at (.inl (by omega))]; exact hb_223) (fun j w9 => by rw [upI_at (.inr (by omega)), hM_221])
              ·
                show WP (Call d) 195 P X (241, [some (vr (some 90) 10), some (vi p), none, none, none, none], [vi 0], (J240_1, H), 0, 0)
                have hL_224 : LTX J240_1 tb n := f240_1.lt hL_201
                have hR_225 : RAT J240_1 tb n p := RAT.of hR_202.bd e240_1
                have hF_226 : J240_1 90 10 = -1 := (f240_1.1 10 (by omega)).trans hF_203
                have hu_227 : FT I J240_1 := hu_204.n f240_1
                have h_228 : J240_1 90 9 = p := e240_1
                have hM_229 : J240_1 91 = μ := (f240_1.2 91 (by omega)).trans hM_206
                have hb_230 : 0 ≤ J240_1 90 9 ∧ J240_1 90 9 ≤ n := hR_225.1
                refine WP.go 1 (And.intro (fun (b241 : 0 = 0) => ?_) (fun (b241 : ¬ 0 = 0) => (absurd b241 (by omega))))
                show WP (Call d) 195 P X (251, [some (vr (some 90) 10), some (vi p), none, none, none, none], [], (J240_1, H), 0, 0)
                refine WP.go 3 (And.intro (And.intro (Nat.le_of_ble_eq_true rfl) (Nat.le_of_ble_eq_true rfl)) (And.intro rfl (?_)))
                show Call d 191 [vr (some 90) 10, vr (some 8) 100] (J240_1, H) _ _
                refine s_12_has (by omega) hS hL_224 hR_225 (by omega) ⟨(fun q253 J253 e253 f253 => ?_), (fun q253_1 J253_1 e253_1 f253_1 => ?_)⟩
                ·
                  show WP (Call d) 195 P X (254, [some (vr (some 90) 10), some (vi p), none, none, none, none], [vi 1], (J253, H), 0, 0)
                  have hL_231 : LTX J253 tb n := f253.lt hL_224
                  have hR_232 : RAT J253 tb n (nx tb n p) := rat_go hR_225 (fun z => absurd (q253.symm.trans z) (by decide)) e253
                  have hF_233 : J253 90 10 = -1 := (f253.1 10 (by omega)).trans hF_226
                  have hu_234 : FT I J253 := hu_227.n f253
                  have hM_235 : J253 91 = μ := (f253.2 91 (by omega)).trans hM_229
                  have hb_236 : 0 ≤ J253 90 9 ∧ J253 90 9 ≤ n := hR_232.1
                  refine WP.go 1 (And.intro (fun (b254 : 1 = 0) => (absurd b254 (by omega))) (fun (b254 : ¬ 1 = 0) => ?_))
                  show WP (Call d) 195 P X (255, [some (vr (some 90) 10), some (vi p), none, none, none, none], [], (J253, H), 0, 0)
                  refine WP.go 3 (And.intro (And.intro (Nat.le_of_ble_eq_true rfl) (Nat.le_of_ble_eq_true rfl)) (And.intro rfl (?_)))
                  show Call d 194 [vr (some 90) 10, vi 1] (J253, H) _ _
                  refine s_12_winds_p (by omega) hS hM_235 hL_231 hR_232 hF_233 ⟨(fun q257 J257 f257 r257 e257 m257 => ?_), (fun q257_1 J257_1 f257_1 e257_1 b257 m257_1 => ?_)⟩
                  ·
                    show WP (Call d) 195 P X (258, [some (vr (some 90) 10), some (vi p), none, none, none, none], [], (J257, H), 0, 0)
                    refine WP.go 2 (And.intro (And.intro (Nat.le_of_ble_eq_true rfl) (Nat.le_of_ble_eq_true rfl)) (?_))
                    show P none (J257, H)
                    have t7 : th tb n p ≠ 1000 := q7_1
                    have t113 : th tb n p ≠ 1001 := q113_1
                    have t188 : th tb n p ≠ 1002 := q188_1
                    have t201 : th tb n p ≠ 1003 := q201_1
                    have t214 : th tb n p ≠ 1004 := q214_1
                    have t227 : th tb n p ≠ 1005 := q227_1
                    have t240 : th tb n p ≠ 1006 := q240_1
                    have t253 : th tb n p = 1007 := q253
                    have r9 := tln_v (tb := tb) (n := n) (p := p) (μ := μ) t253
                    exact h.1 (by rw [r9]; exact q257) _ (hu_234.tr f257) (by rw [r9]; exact r257) e257 (by rw [r9]; exact m257)
                  ·
                    show WP (Call d) 195 P X (258, [some (vr (some 90) 10), some (vi p), none, none, none, none], [], (J257_1, H), 0, 0)
                    refine WP.go 2 (And.intro (And.intro (Nat.le_of_ble_eq_true rfl) (Nat.le_of_ble_eq_true rfl)) (?_))
                    show P none (J257_1, H)
                    have t7 : th tb n p ≠ 1000 := q7_1
                    have t113 : th tb n p ≠ 1001 := q113_1
                    have t188 : th tb n p ≠ 1002 := q188_1
                    have t201 : th tb n p ≠ 1003 := q201_1
                    have t214 : th tb n p ≠ 1004 := q214_1
                    have t227 : th tb n p ≠ 1005 := q227_1
                    have t240 : th tb n p ≠ 1006 := q240_1
                    have t253 : th tb n p = 1007 := q253
                    have r9 := tln_v (tb := tb) (n := n) (p := p) (μ := μ) t253
                    exact h.2 (by rw [r9]; exact q257_1) _ (hu_234.tr f257_1) (by rw [r9]; exact e257_1) b257 m257_1
                ·
                  show WP (Call d) 195 P X (254, [some (vr (some 90) 10), some (vi p), none, none, none, none], [vi 0], (J253_1, H), 0, 0)
                  have hL_237 : LTX J253_1 tb n := f253_1.lt hL_224
                  have hR_238 : RAT J253_1 tb n p := RAT.of hR_225.bd e253_1
                  have hF_239 : J253_1 90 10 = -1 := (f253_1.1 10 (by omega)).trans hF_226
                  have hu_240 : FT I J253_1 := hu_227.n f253_1
                  have h_241 : J253_1 90 9 = p := e253_1
                  have hM_242 : J253_1 91 = μ := (f253_1.2 91 (by omega)).trans hM_229
                  have hb_243 : 0 ≤ J253_1 90 9 ∧ J253_1 90 9 ≤ n := hR_238.1
                  refine WP.go 1 (And.intro (fun (b254 : 0 = 0) => ?_) (fun (b254 : ¬ 0 = 0) => (absurd b254 (by omega))))
                  show WP (Call d) 195 P X (259, [some (vr (some 90) 10), some (vi p), none, none, none, none], [], (J253_1, H), 0, 0)
                  refine WP.go 3 (And.intro (And.intro (Nat.le_of_ble_eq_true rfl) (Nat.le_of_ble_eq_true rfl)) (And.intro rfl (?_)))
                  show Call d 191 [vr (some 90) 10, vr (some 9) 100] (J253_1, H) _ _
                  refine s_12_has (by omega) hS hL_237 hR_238 (by omega) ⟨(fun q261 J261 e261 f261 => ?_), (fun q261_1 J261_1 e261_1 f261_1 => ?_)⟩
                  ·
                    show WP (Call d) 195 P X (262, [some (vr (some 90) 10), some (vi p), none, none, none, none], [vi 1], (J261, H), 0, 0)
                    have hL_244 : LTX J261 tb n := f261.lt hL_237
                    have hR_245 : RAT J261 tb n (nx tb n p) := rat_go hR_238 (fun z => absurd (q261.symm.trans z) (by decide)) e261
                    have hF_246 : J261 90 10 = -1 := (f261.1 10 (by omega)).trans hF_239
                    have hu_247 : FT I J261 := hu_240.n f261
                    have hM_248 : J261 91 = μ := (f261.2 91 (by omega)).trans hM_242
                    have hb_249 : 0 ≤ J261 90 9 ∧ J261 90 9 ≤ n := hR_245.1
                    refine WP.go 1 (And.intro (fun (b262 : 1 = 0) => (absurd b262 (by omega))) (fun (b262 : ¬ 1 = 0) => ?_))
                    show WP (Call d) 195 P X (263, [some (vr (some 90) 10), some (vi p), none, none, none, none], [], (J261, H), 0, 0)
                    refine WP.go 3 (And.intro (And.intro (Nat.le_of_ble_eq_true rfl) (Nat.le_of_ble_eq_true rfl)) (And.intro rfl (?_)))
                    show Call d 194 [vr (some 90) 10, vi (-1)] (J261, H) _ _
                    refine s_12_winds_m (by omega) hS hM_248 hL_244 hR_245 hF_246 ⟨(fun q265 J265 f265 r265 e265 m265 => ?_), (fun q265_1 J265_1 f265_1 e265_1 b265 m265_1 => ?_)⟩
                    ·
                      show WP (Call d) 195 P X (266, [some (vr (some 90) 10), some (vi p), none, none, none, none], [], (J265, H), 0, 0)
                      refine WP.go 2 (And.intro (And.intro (Nat.le_of_ble_eq_true rfl) (Nat.le_of_ble_eq_true rfl)) (?_))
                      show P none (J265, H)
                      have t7 : th tb n p ≠ 1000 := q7_1
                      have t113 : th tb n p ≠ 1001 := q113_1
                      have t188 : th tb n p ≠ 1002 := q188_1
                      have t201 : th tb n p ≠ 1003 := q201_1
                      have t214 : th tb n p ≠ 1004 := q214_1
                      have t227 : th tb n p ≠ 1005 := q227_1
                      have t240 : th tb n p ≠ 1006 := q240_1
                      have t253 : th tb n p ≠ 1007 := q253_1
                      have t261 : th tb n p = 1008 := q261
                      have r9 := tln_c (tb := tb) (n := n) (p := p) (μ := μ) t261
                      exact h.1 (by rw [r9]; exact q265) _ (hu_247.tr f265) (by rw [r9]; exact r265) e265 (by rw [r9]; exact m265)
                    ·
                      show WP (Call d) 195 P X (266, [some (vr (some 90) 10), some (vi p), none, none, none, none], [], (J265_1, H), 0, 0)
                      refine WP.go 2 (And.intro (And.intro (Nat.le_of_ble_eq_true rfl) (Nat.le_of_ble_eq_true rfl)) (?_))
                      show P none (J265_1, H)
                      have t7 : th tb n p ≠ 1000 := q7_1
                      have t113 : th tb n p ≠ 1001 := q113_1
                      have t188 : th tb n p ≠ 1002 := q188_1
                      have t201 : th tb n p ≠ 1003 := q201_1
                      have t214 : th tb n p ≠ 1004 := q214_1
                      have t227 : th tb n p ≠ 1005 := q227_1
                      have t240 : th tb n p ≠ 1006 := q240_1
                      have t253 : th tb n p ≠ 1007 := q253_1
                      have t261 : th tb n p = 1008 := q261
                      have r9 := tln_c (tb := tb) (n := n) (p := p) (μ := μ) t261
                      exact h.2 (by rw [r9]; exact q265_1) _ (hu_247.tr f265_1) (by rw [r9]; exact e265_1) b265 m265_1
                  ·
                    show WP (Call d) 195 P X (262, [some (vr (some 90) 10), some (vi p), none, none, none, none], [vi 0], (J261_1, H), 0, 0)
                    have hL_250 : LTX J261_1 tb n := f261_1.lt hL_237
                    have hR_251 : RAT J261_1 tb n p := RAT.of hR_238.bd e261_1
                    have hF_252 : J261_1 90 10 = -1 := (f261_1.1 10 (by omega)).trans hF_239
                    have hu_253 : FT I J261_1 := hu_240.n f261_1
                    have h_254 : J261_1 90 9 = p := e261_1
                    have hM_255 : J261_1 91 = μ := (f261_1.2 91 (by omega)).trans hM_242
                    have hb_256 : 0 ≤ J261_1 90 9 ∧ J261_1 90 9 ≤ n := hR_251.1
                    refine WP.go 1 (And.intro (fun (b262 : 0 = 0) => ?_) (fun (b262 : ¬ 0 = 0) => (absurd b262 (by omega))))
                    show WP (Call d) 195 P X (267, [some (vr (some 90) 10), some (vi p), none, none, none, none], [], (J261_1, H), 0, 0)
                    refine WP.go 3 (And.intro rfl (?_))
                    refine rw_i (Q := fun x9 => WP (Call d) 195 P X (270, [some (vr (some 90) 10), some (vi p), none, none, none, none], [vi x9, vr (some 90) 10], (J261_1, H), 0, 0)) h_254 ?_
                    show WP (Call d) 195 P X (270, [some (vr (some 90) 10), some (vi p), none, none, none, none], [vi p, vr (some 90) 10], (J261_1, H), 0, 0)
                    refine WP.go 1 (And.intro (And.intro (Nat.le_of_ble_eq_true rfl) (Nat.le_of_ble_eq_true rfl)) (And.intro rfl (?_)))
                    show Call d 192 [vr (some 90) 10, vi p] (J261_1, H) _ _
                    refine s_12_wrong (by omega) hF_252 (fun J270 e270 f270 => ?_)
                    show WP (Call d) 195 P X (271, [some (vr (some 90) 10), some (vi p), none, none, none, none], [], (J270, H), 0, 0)
                    have hF_257 : J270 90 10 = p := by rw [e270]; rfl
                    have hu_258 : FT I J270 := hu_253.o (.inr (.inl rfl)) e270 f270
                    have hL_259 : LTX J270 tb n := hL_250.fr (by rw [e270]; rfl) (by rw [e270]; rfl) (f270 94 (by omega)) (f270 91 (by omega))
                    have hR_260 : RAT J270 tb n p := hR_251.cp (by rw [e270]; rfl)
                    have hM_261 : J270 91 = μ := (f270 91 (by omega)).trans hM_255
                    have hb_262 : 0 ≤ J270 90 9 ∧ J270 90 9 ≤ n := hR_260.1
                    refine WP.go 1 (And.intro (And.intro (Nat.le_of_ble_eq_true rfl) (Nat.le_of_ble_eq_true rfl)) (?_))
                    show P none (J270, H)
                    have t7 : th tb n p ≠ 1000 := q7_1
                    have t113 : th tb n p ≠ 1001 := q113_1
                    have t188 : th tb n p ≠ 1002 := q188_1
                    have t201 : th tb n p ≠ 1003 := q201_1
                    have t214 : th tb n p ≠ 1004 := q214_1
                    have t227 : th tb n p ≠ 1005 := q227_1
                    have t240 : th tb n p ≠ 1006 := q240_1
                    have t253 : th tb n p ≠ 1007 := q253_1
                    have t261 : th tb n p ≠ 1008 := q261_1
                    have r9 := tln_1 (tb := tb) (n := n) (p := p) (μ := μ) (.inr (.inr (by omega)))
                    exact h.2 (by rw [r9]; show p ≠ -1; omega) _ hu_258 (by rw [r9]; exact hF_257) hb_262 (fun j _ => by rw [hM_261])

