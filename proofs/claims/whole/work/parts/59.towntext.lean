theorem ATP.cpf {I J : qI} {T : Nat} {p : Int} (h : ATP I T p) (e : J T = I T) (e2 : J (T + 2) = I (T + 2)) : ATP J T p := by
  unfold ATP at *
  rw [e, e2]
  exact h
noncomputable def thou (tb : Int → Int) (n : Int) (μ : Int → Int) (p : Int) : Int × (Int → Int) × Int := if fI (fun i => μ (120 + 2 * i) = th tb n p) 0 (μ 1) ≠ -1 ∨ ¬ (0 ≤ th tb n p ∧ th tb n p ≤ 80) then (p, μ, p) else if ¬ (1 ≤ th tb n (nx tb n p) ∧ th tb n (nx tb n p) ≤ 30) then (nx tb n p, μ, p) else (-1, uHou μ (th tb n p) (th tb n (nx tb n p)), nx tb n (nx tb n p))
noncomputable def twin (tb : Int → Int) (n : Int) (μ : Int → Int) (p : Int) : Int × (Int → Int) × Int := if ¬ (0 ≤ th tb n p ∧ th tb n p ≤ μ 1 - 1) then (p, μ, p) else if ¬ (0 ≤ th tb n (nx tb n p) ∧ th tb n (nx tb n p) ≤ 7) then (nx tb n p, μ, p) else if ¬ (0 ≤ th tb n (nx tb n (nx tb n p)) ∧ th tb n (nx tb n (nx tb n p)) ≤ 29) then (nx tb n (nx tb n p), μ, p) else (-1, uWin μ (th tb n p) (th tb n (nx tb n p)) (th tb n (nx tb n (nx tb n p))), nx tb n (nx tb n (nx tb n p)))
noncomputable def tdia (tb : Int → Int) (n : Int) (μ : Int → Int) (t p : Int) : Int × (Int → Int) × Int := if ¬ (0 ≤ th tb n p ∧ th tb n p ≤ (if t = 1003 then 20 else 95)) then (p, μ, p) else (-1, uDia μ (t - 1002) (th tb n p), nx tb n p)
theorem thou_1 {tb : Int → Int} {n p : Int} {μ : Int → Int} (h : fI (fun i => μ (120 + 2 * i) = th tb n p) 0 (μ 1) ≠ -1 ∨ ¬ (0 ≤ th tb n p ∧ th tb n p ≤ 80)) : thou tb n μ p = (p, μ, p) := if_pos h
theorem thou_2 {tb : Int → Int} {n p : Int} {μ : Int → Int} (h0 : fI (fun i => μ (120 + 2 * i) = th tb n p) 0 (μ 1) = -1) (h : 0 ≤ th tb n p ∧ th tb n p ≤ 80) (h2 : ¬ (1 ≤ th tb n (nx tb n p) ∧ th tb n (nx tb n p) ≤ 30)) : thou tb n μ p = (nx tb n p, μ, p) := (if_neg (fun q => q.elim (fun z => z h0) (fun z => z h))).trans (if_pos h2)
theorem thou_3 {tb : Int → Int} {n p : Int} {μ : Int → Int} (h0 : fI (fun i => μ (120 + 2 * i) = th tb n p) 0 (μ 1) = -1) (h : 0 ≤ th tb n p ∧ th tb n p ≤ 80) (h2 : 1 ≤ th tb n (nx tb n p) ∧ th tb n (nx tb n p) ≤ 30) : thou tb n μ p = (-1, uHou μ (th tb n p) (th tb n (nx tb n p)), nx tb n (nx tb n p)) := (if_neg (fun q => q.elim (fun z => z h0) (fun z => z h))).trans (if_neg (fun z => z h2))
theorem twin_1 {tb : Int → Int} {n p : Int} {μ : Int → Int} (h : ¬ (0 ≤ th tb n p ∧ th tb n p ≤ μ 1 - 1)) : twin tb n μ p = (p, μ, p) := if_pos h
theorem twin_2 {tb : Int → Int} {n p : Int} {μ : Int → Int} (h : 0 ≤ th tb n p ∧ th tb n p ≤ μ 1 - 1) (h2 : ¬ (0 ≤ th tb n (nx tb n p) ∧ th tb n (nx tb n p) ≤ 7)) : twin tb n μ p = (nx tb n p, μ, p) := (if_neg (fun z => z h)).trans (if_pos h2)
theorem twin_3 {tb : Int → Int} {n p : Int} {μ : Int → Int} (h : 0 ≤ th tb n p ∧ th tb n p ≤ μ 1 - 1) (h2 : 0 ≤ th tb n (nx tb n p) ∧ th tb n (nx tb n p) ≤ 7) (h3 : ¬ (0 ≤ th tb n (nx tb n (nx tb n p)) ∧ th tb n (nx tb n (nx tb n p)) ≤ 29)) : twin tb n μ p = (nx tb n (nx tb n p), μ, p) := (if_neg (fun z => z h)).trans ((if_neg (fun z => z h2)).trans (if_pos h3))
theorem twin_4 {tb : Int → Int} {n p : Int} {μ : Int → Int} (h : 0 ≤ th tb n p ∧ th tb n p ≤ μ 1 - 1) (h2 : 0 ≤ th tb n (nx tb n p) ∧ th tb n (nx tb n p) ≤ 7) (h3 : 0 ≤ th tb n (nx tb n (nx tb n p)) ∧ th tb n (nx tb n (nx tb n p)) ≤ 29) : twin tb n μ p = (-1, uWin μ (th tb n p) (th tb n (nx tb n p)) (th tb n (nx tb n (nx tb n p))), nx tb n (nx tb n (nx tb n p))) := (if_neg (fun z => z h)).trans ((if_neg (fun z => z h2)).trans (if_neg (fun z => z h3)))
theorem tdia_1 {tb : Int → Int} {n t p : Int} {μ : Int → Int} (h : ¬ (0 ≤ th tb n p ∧ th tb n p ≤ (if t = 1003 then 20 else 95))) : tdia tb n μ t p = (p, μ, p) := if_pos h
theorem tdia_2 {tb : Int → Int} {n t p : Int} {μ : Int → Int} (h : 0 ≤ th tb n p ∧ th tb n p ≤ (if t = 1003 then 20 else 95)) : tdia tb n μ t p = (-1, uDia μ (t - 1002) (th tb n p), nx tb n p) := if_neg (fun z => z h)
theorem s_8_addHouse {d : Nat} {P : Option qV → qH → Prop} {X : Nat → qH → Prop} {I : qI} {H : qS} {μ : Int → Int} (hd : 3 ≤ d) {c h9 : Int} (hS : Shp H) (hT : TR 27 I μ) (hV : IM μ) (hr9 : μ 1 < 10) (h : ∀ J : qI, TR 27 J (uHou μ c h9) → (∀ a, a < 27 ∨ 47 < a → J a = I a) → P none (J, H)) :
    Call d 92 [vr (some 27) 6, vi c, vi h9] (I, H) P X := by
  obtain ⟨d, rfl⟩ : ∃ e, d = e + 1 := ⟨d - 1, by omega⟩
  have v1 := hV.n1
  show WP (Call d) 92 P X (0, [some (vr (some 27) 6), some (vi c), some (vi h9), none], [], (I, H), 0, 0)
  refine WP.go 7 (And.intro rfl (Exists.intro 28 (And.intro hS.r27_0 (And.intro (And.intro (Nat.le_of_ble_eq_true rfl) (Nat.le_of_ble_eq_true rfl)) (And.intro rfl (?_))))))
  show Call d 60 [vr (some 28) 4, vi c, vi h9, vi 0, vi 0] (I, H) _ _
  refine s_5_add_w2 (by omega) hS.r28_2 hT.c.a1 hT.c.b1 hT.r1 hS.l29 (by omega) (by omega) (fun J6 e6 f6 g6 => ?_)
  show WP (Call d) 92 P X (7, [some (vr (some 27) 6), some (vi c), some (vi h9), none], [vi (μ 1)], (J6, H), 0, 0)
  refine WP.go 8 (And.intro rfl (Exists.intro 32 (And.intro hS.r27_2 (And.intro (And.intro (Nat.le_of_ble_eq_true rfl) (Nat.le_of_ble_eq_true rfl)) (And.intro rfl (?_))))))
  show Call d 60 [vr (some 32) 4, vi 0, vi 99, vi (μ 1), vi 0] (J6, H) _ _
  refine s_5_add_w3 (by omega) hS.r32_2 ((congrFun (g6 32 (by omega) (by omega)) 0).trans hT.c.a5) ((congrFun (g6 32 (by omega) (by omega)) 1).trans hT.c.b5) ((congrFun (g6 32 (by omega) (by omega)) 3).trans hT.r5) hS.l33 (by omega) (by omega) (fun J14 e14 f14 g14 => ?_)
  show WP (Call d) 92 P X (15, [some (vr (some 27) 6), some (vi c), some (vi h9), some (vi (μ 1))], [vi (μ 1)], (J14, H), 0, 0)
  refine WP.go 2 (And.intro (And.intro (Nat.le_of_ble_eq_true rfl) (Nat.le_of_ble_eq_true rfl)) (?_))
  show P none (J14, H)
  exact h _ (TR_uHou hT hV hr9 ((g14 28 (by omega) (by omega)).trans e6) ((g14 29 (by omega) (by omega)).trans f6) (e14.trans (by rw [g6 32 (by omega) (by omega)])) (f14.trans (by rw [g6 33 (by omega) (by omega)])) (fun a q1 q2 q3 q4 => (g14 a q3 q4).trans (g6 a q1 q2))) (fun a q => (g14 a (by omega) (by omega)).trans (g6 a (by omega) (by omega)))

theorem s_9_readHouse {d : Nat} {P : Option qV → qH → Prop} {X : Nat → qH → Prop} {I : qI} {H : qS} {μ : Int → Int} (hd : 4 ≤ d) {tb : Int → Int} {n p : Int} (hS : Shp H) (hX : SX I) (hK : TOK I 69 tb n) (hat : ATP I 69 p) (hT : TR 27 I μ) (hV : IM μ) (hr9 : μ 1 < 10) (h : ((thou tb n μ p).1 ≠ -1 → ∀ J : qI, ATP J 69 (thou tb n μ p).1 → TR 27 J (thou tb n μ p).2.1 → (∀ s, s ≠ 3 → J 69 s = I 69 s) → (∀ a, a < 27 ∨ 47 < a → a ≠ 69 → J a = I a) → P (some (vi 0)) (J, H)) ∧ ((thou tb n μ p).1 = -1 → ∀ J : qI, ATP J 69 (thou tb n μ p).2.2 → TR 27 J (thou tb n μ p).2.1 → (∀ s, s ≠ 3 → J 69 s = I 69 s) → (∀ a, a < 27 ∨ 47 < a → a ≠ 69 → J a = I a) → P (some (vi 1)) (J, H))) :
    Call d 107 [vr (some 69) 7] (I, H) P X := by
  obtain ⟨d, rfl⟩ : ∃ e, d = e + 1 := ⟨d - 1, by omega⟩
  have hpb := (hK.at hat).2
  show WP (Call d) 107 P X (0, [some (vr (some 69) 7), none, none], [], (I, H), 0, 0)
  refine WP.go 2 (And.intro (And.intro (Nat.le_of_ble_eq_true rfl) (Nat.le_of_ble_eq_true rfl)) (And.intro rfl (?_)))
  show Call d 79 [vr (some 69) 7] (I, H) _ _
  refine s_7_present_T69 (by omega) hS hK hat ?_
  show WP (Call d) 107 P X (2, [some (vr (some 69) 7), none, none], [vi (th tb n p)], (I, H), 0, 0)
  refine WP.go 5 (And.intro rfl (Exists.intro 27 (And.intro hS.r69_4 (And.intro (And.intro (Nat.le_of_ble_eq_true rfl) (Nat.le_of_ble_eq_true rfl)) (And.intro rfl (?_))))))
  show Call d 97 [vr (some 27) 6, vi (th tb n p)] (I, H) _ _
  refine s_8_hasHouseOn (by omega) hS (.inr (.inl rfl)) hT hV ?_
  show WP (Call d) 107 P X (7, [some (vr (some 69) 7), some (vi (th tb n p)), none], [vi (bz (fI (fun i => μ (120 + 2 * i) = (th tb n p)) 0 (μ 1) ≠ -1))], (I, H), 0, 0)
  refine WP.go 1 (And.intro (fun (b7 : ¬ bz (fI (fun i => μ (120 + 2 * i) = (th tb n p)) 0 (μ 1) ≠ -1) = 0) => ?_) (fun (b7 : bz (fI (fun i => μ (120 + 2 * i) = (th tb n p)) 0 (μ 1) ≠ -1) = 0) => ?_))
  ·
    show WP (Call d) 107 P X (14, [some (vr (some 69) 7), some (vi (th tb n p)), none], [], (I, H), 0, 0)
    have z7 := bz_e1.mp b7
    refine WP.go 2 (And.intro (And.intro (Nat.le_of_ble_eq_true rfl) (Nat.le_of_ble_eq_true rfl)) (And.intro (Or.inl rfl) (?_)))
    show P (some (vi 0)) (I, H)
    have r9 := thou_1 (tb := tb) (n := n) (p := p) (μ := μ) (.inl (by rw [Ne]; exact fun z => b7 (bz_e0.mpr (fun w => w z))))
    exact h.1 (by rw [r9]; show p ≠ -1; omega) _ (by rw [r9]; exact hat) (by rw [r9]; exact hT) (fun _ _ => rfl) (fun _ _ _ => rfl)
  ·
    show WP (Call d) 107 P X (8, [some (vr (some 69) 7), some (vi (th tb n p)), none], [], (I, H), 0, 0)
    have z7 := bz_e0.mp b7
    refine WP.go 4 (And.intro (And.intro (Nat.le_of_ble_eq_true rfl) (Nat.le_of_ble_eq_true rfl)) (And.intro rfl (?_)))
    show Call d 82 [vr (some 69) 7, vi 0, vi 80] (I, H) _ _
    refine s_7_take_T69 (by omega) hS hK hat (by omega) ⟨(fun q11 J11 e11 f11 g11 => ?_), (fun q11_1 => ?_)⟩
    ·
      show WP (Call d) 107 P X (12, [some (vr (some 69) 7), some (vi (th tb n p)), none], [vi (th tb n p)], (J11, H), 0, 0)
      have hK_1 : TOK J11 69 tb n := hK.fr (e11 2 (by omega)) (f11 70 (by omega)) (f11 71 (by omega))
      have hat_2 : ATP J11 69 (nx tb n p) := g11
      have hT_3 : TR 27 J11 μ := hT.fr (fun a q1 q2 => f11 a (by omega))
      refine WP.go 2 (And.intro (fun (b13 : ¬ th tb n p = (-1)) => ?_) (fun (b13 : th tb n p = (-1)) => (absurd b13 (by omega))))
      show WP (Call d) 107 P X (16, [some (vr (some 69) 7), some (vi (th tb n p)), none], [], (J11, H), 0, 0)
      refine WP.go 4 (And.intro (And.intro (Nat.le_of_ble_eq_true rfl) (Nat.le_of_ble_eq_true rfl)) (And.intro rfl (?_)))
      show Call d 82 [vr (some 69) 7, vi 1, vi 30] (J11, H) _ _
      refine s_7_take_T69 (by omega) hS hK_1 hat_2 (by omega) ⟨(fun q19 J19 e19 f19 g19 => ?_), (fun q19_1 => ?_)⟩
      ·
        show WP (Call d) 107 P X (20, [some (vr (some 69) 7), some (vi (th tb n p)), none], [vi (th tb n (nx tb n p))], (J19, H), 0, 0)
        have hK_4 : TOK J19 69 tb n := hK_1.fr (e19 2 (by omega)) (f19 70 (by omega)) (f19 71 (by omega))
        have hat_5 : ATP J19 69 (nx tb n (nx tb n p)) := g19
        have hT_6 : TR 27 J19 μ := hT_3.fr (fun a q1 q2 => f19 a (by omega))
        refine WP.go 4 (And.intro (fun (b23 : ¬ th tb n (nx tb n p) = (-1)) => ?_) (fun (b23 : th tb n (nx tb n p) = (-1)) => (absurd b23 (by omega))))
        show WP (Call d) 107 P X (26, [some (vr (some 69) 7), some (vi (th tb n p)), some (vi (th tb n (nx tb n p)))], [], (J19, H), 0, 0)
        refine WP.go 5 (And.intro rfl (Exists.intro 27 (And.intro hS.r69_4 (And.intro (And.intro (Nat.le_of_ble_eq_true rfl) (Nat.le_of_ble_eq_true rfl)) (And.intro rfl (?_))))))
        show Call d 92 [vr (some 27) 6, vi (th tb n p), vi (th tb n (nx tb n p))] (J19, H) _ _
        refine s_8_addHouse (by omega) hS hT_6 hV (by omega) (fun J30 e30 f30 => ?_)
        show WP (Call d) 107 P X (31, [some (vr (some 69) 7), some (vi (th tb n p)), some (vi (th tb n (nx tb n p)))], [], (J30, H), 0, 0)
        refine WP.go 2 (And.intro (And.intro (Nat.le_of_ble_eq_true rfl) (Nat.le_of_ble_eq_true rfl)) (And.intro (Or.inr rfl) (?_)))
        show P (some (vi 1)) (J30, H)
        have r9 := thou_3 (tb := tb) (n := n) (p := p) (μ := μ) (Classical.byContradiction (fun z => bz_e0.mp b7 z)) q11 q19
        exact h.2 (by rw [r9]) _ (by rw [r9]; exact hat_5.cpf (f30 69 (by omega)) (f30 71 (by omega))) (by rw [r9]; exact e30) (fun s w => by rw [f30 69 (by omega), e19 s w, e11 s w]) (fun a w1 w2 => by rw [f30 a w1, f19 a w2, f11 a w2])
      ·
        show WP (Call d) 107 P X (20, [some (vr (some 69) 7), some (vi (th tb n p)), none], [vi (-1)], (J11, H), 0, 0)
        refine WP.go 4 (And.intro (fun (b23 : ¬ (-1) = (-1)) => (absurd b23 (by omega))) (fun (b23 : (-1) = (-1)) => ?_))
        show WP (Call d) 107 P X (24, [some (vr (some 69) 7), some (vi (th tb n p)), some (vi (-1))], [], (J11, H), 0, 0)
        refine WP.go 2 (And.intro (And.intro (Nat.le_of_ble_eq_true rfl) (Nat.le_of_ble_eq_true rfl)) (And.intro (Or.inl rfl) (?_)))
        show P (some (vi 0)) (J11, H)
        have b9 := (hK_1.at hat_2).2
        have r9 := thou_2 (tb := tb) (n := n) (p := p) (μ := μ) (Classical.byContradiction (fun z => bz_e0.mp b7 z)) q11 q19_1
        exact h.1 (by rw [r9]; show nx tb n p ≠ -1; omega) _ (by rw [r9]; exact hat_2) (by rw [r9]; exact hT_3) (fun s w => e11 s w) (fun a _ w => f11 a w)
    ·
      show WP (Call d) 107 P X (12, [some (vr (some 69) 7), some (vi (th tb n p)), none], [vi (-1)], (I, H), 0, 0)
      refine WP.go 2 (And.intro (fun (b13 : ¬ (-1) = (-1)) => (absurd b13 (by omega))) (fun (b13 : (-1) = (-1)) => ?_))
      show WP (Call d) 107 P X (14, [some (vr (some 69) 7), some (vi (th tb n p)), none], [], (I, H), 0, 0)
      refine WP.go 2 (And.intro (And.intro (Nat.le_of_ble_eq_true rfl) (Nat.le_of_ble_eq_true rfl)) (And.intro (Or.inl rfl) (?_)))
      show P (some (vi 0)) (I, H)
      have r9 := thou_1 (tb := tb) (n := n) (p := p) (μ := μ) (.inr q11_1)
      exact h.1 (by rw [r9]; show p ≠ -1; omega) _ (by rw [r9]; exact hat) (by rw [r9]; exact hT) (fun _ _ => rfl) (fun _ _ _ => rfl)

theorem s_9_readWindow {d : Nat} {P : Option qV → qH → Prop} {X : Nat → qH → Prop} {I : qI} {H : qS} {μ : Int → Int} (hd : 3 ≤ d) {tb : Int → Int} {n p : Int} (hS : Shp H) (hX : SX I) (hK : TOK I 69 tb n) (hat : ATP I 69 p) (hT : TR 27 I μ) (hV : IM μ) (hr9 : μ 2 < 20) (h : ((twin tb n μ p).1 ≠ -1 → ∀ J : qI, ATP J 69 (twin tb n μ p).1 → TR 27 J (twin tb n μ p).2.1 → (∀ s, s ≠ 3 → J 69 s = I 69 s) → (∀ a, a < 27 ∨ 47 < a → a ≠ 69 → J a = I a) → P (some (vi 0)) (J, H)) ∧ ((twin tb n μ p).1 = -1 → ∀ J : qI, ATP J 69 (twin tb n μ p).2.2 → TR 27 J (twin tb n μ p).2.1 → (∀ s, s ≠ 3 → J 69 s = I 69 s) → (∀ a, a < 27 ∨ 47 < a → a ≠ 69 → J a = I a) → P (some (vi 1)) (J, H))) :
    Call d 108 [vr (some 69) 7] (I, H) P X := by
  obtain ⟨d, rfl⟩ : ∃ e, d = e + 1 := ⟨d - 1, by omega⟩
  have hpb := (hK.at hat).2
  have v1 := hV.n1
  have v2 := hV.n2
  show WP (Call d) 108 P X (0, [some (vr (some 69) 7), none, none, none], [], (I, H), 0, 0)
  refine WP.go 6 (And.intro rfl (Exists.intro 27 (And.intro hS.r69_4 (And.intro rfl (Exists.intro 28 (And.intro hS.r27_0 (And.intro (And.intro (Nat.le_of_ble_eq_true rfl) (Nat.le_of_ble_eq_true rfl)) (And.intro rfl (?_)))))))))
  show Call d 55 [vr (some 28) 4] (I, H) _ _
  refine s_size_houses (by omega) hT ?_
  show WP (Call d) 108 P X (6, [some (vr (some 69) 7), none, none, none], [vi (μ 1), vi 0, vr (some 69) 7], (I, H), 0, 0)
  refine WP.go 3 (Exists.intro ((μ 1) - 1) (And.intro (wrp_a (by omega) (by omega)) (And.intro (And.intro (Nat.le_of_ble_eq_true rfl) (Nat.le_of_ble_eq_true rfl)) (And.intro rfl (?_)))))
  show Call d 82 [vr (some 69) 7, vi 0, vi ((μ 1) - 1)] (I, H) _ _
  refine s_7_take_T69 (by omega) hS hK hat (by omega) ⟨(fun q8 J8 e8 f8 g8 => ?_), (fun q8_1 => ?_)⟩
  ·
    show WP (Call d) 108 P X (9, [some (vr (some 69) 7), none, none, none], [vi (th tb n p)], (J8, H), 0, 0)
    have hK_1 : TOK J8 69 tb n := hK.fr (e8 2 (by omega)) (f8 70 (by omega)) (f8 71 (by omega))
    have hat_2 : ATP J8 69 (nx tb n p) := g8
    have hT_3 : TR 27 J8 μ := hT.fr (fun a q1 q2 => f8 a (by omega))
    refine WP.go 4 (And.intro (fun (b12 : ¬ th tb n p = (-1)) => ?_) (fun (b12 : th tb n p = (-1)) => (absurd b12 (by omega))))
    show WP (Call d) 108 P X (15, [some (vr (some 69) 7), some (vi (th tb n p)), none, none], [], (J8, H), 0, 0)
    refine WP.go 4 (And.intro (And.intro (Nat.le_of_ble_eq_true rfl) (Nat.le_of_ble_eq_true rfl)) (And.intro rfl (?_)))
    show Call d 82 [vr (some 69) 7, vi 0, vi 7] (J8, H) _ _
    refine s_7_take_T69 (by omega) hS hK_1 hat_2 (by omega) ⟨(fun q18 J18 e18 f18 g18 => ?_), (fun q18_1 => ?_)⟩
    ·
      show WP (Call d) 108 P X (19, [some (vr (some 69) 7), some (vi (th tb n p)), none, none], [vi (th tb n (nx tb n p))], (J18, H), 0, 0)
      have hK_4 : TOK J18 69 tb n := hK_1.fr (e18 2 (by omega)) (f18 70 (by omega)) (f18 71 (by omega))
      have hat_5 : ATP J18 69 (nx tb n (nx tb n p)) := g18
      have hT_6 : TR 27 J18 μ := hT_3.fr (fun a q1 q2 => f18 a (by omega))
      refine WP.go 4 (And.intro (fun (b22 : ¬ th tb n (nx tb n p) = (-1)) => ?_) (fun (b22 : th tb n (nx tb n p) = (-1)) => (absurd b22 (by omega))))
      show WP (Call d) 108 P X (25, [some (vr (some 69) 7), some (vi (th tb n p)), some (vi (th tb n (nx tb n p))), none], [], (J18, H), 0, 0)
      refine WP.go 4 (And.intro (And.intro (Nat.le_of_ble_eq_true rfl) (Nat.le_of_ble_eq_true rfl)) (And.intro rfl (?_)))
      show Call d 82 [vr (some 69) 7, vi 0, vi 29] (J18, H) _ _
      refine s_7_take_T69 (by omega) hS hK_4 hat_5 (by omega) ⟨(fun q28 J28 e28 f28 g28 => ?_), (fun q28_1 => ?_)⟩
      ·
        show WP (Call d) 108 P X (29, [some (vr (some 69) 7), some (vi (th tb n p)), some (vi (th tb n (nx tb n p))), none], [vi (th tb n (nx tb n (nx tb n p)))], (J28, H), 0, 0)
        have hK_7 : TOK J28 69 tb n := hK_4.fr (e28 2 (by omega)) (f28 70 (by omega)) (f28 71 (by omega))
        have hat_8 : ATP J28 69 (nx tb n (nx tb n (nx tb n p))) := g28
        have hT_9 : TR 27 J28 μ := hT_6.fr (fun a q1 q2 => f28 a (by omega))
        refine WP.go 4 (And.intro (fun (b32 : ¬ th tb n (nx tb n (nx tb n p)) = (-1)) => ?_) (fun (b32 : th tb n (nx tb n (nx tb n p)) = (-1)) => (absurd b32 (by omega))))
        show WP (Call d) 108 P X (35, [some (vr (some 69) 7), some (vi (th tb n p)), some (vi (th tb n (nx tb n p))), some (vi (th tb n (nx tb n (nx tb n p))))], [], (J28, H), 0, 0)
        refine WP.go 8 (And.intro rfl (Exists.intro 27 (And.intro hS.r69_4 (And.intro rfl (Exists.intro 30 (And.intro hS.r27_1 (And.intro (And.intro (Nat.le_of_ble_eq_true rfl) (Nat.le_of_ble_eq_true rfl)) (And.intro rfl (?_)))))))))
        show Call d 60 [vr (some 30) 4, vi (th tb n p), vi (th tb n (nx tb n p)), vi (th tb n (nx tb n (nx tb n p))), vi 0] (J28, H) _ _
        refine s_5_add_w3 (by omega) hS.r30_2 hT_9.c.a3 hT_9.c.b3 hT_9.r3 hS.l31 (by omega) (by omega) (fun J42 e42 f42 g42 => ?_)
        show WP (Call d) 108 P X (43, [some (vr (some 69) 7), some (vi (th tb n p)), some (vi (th tb n (nx tb n p))), some (vi (th tb n (nx tb n (nx tb n p))))], [vi (μ 2)], (J42, H), 0, 0)
        refine WP.go 3 (And.intro (And.intro (Nat.le_of_ble_eq_true rfl) (Nat.le_of_ble_eq_true rfl)) (And.intro (Or.inr rfl) (?_)))
        show P (some (vi 1)) (J42, H)
        have r9 := twin_4 (tb := tb) (n := n) (p := p) (μ := μ) q8 q18 q28
        exact h.2 (by rw [r9]) _ (by rw [r9]; exact hat_8.cpf (g42 69 (by omega) (by omega)) (g42 71 (by omega) (by omega))) (by rw [r9]; exact TR_uWin hT_9 hV hr9 e42 f42 g42) (fun s w => by rw [g42 69 (by omega) (by omega), e28 s w, e18 s w, e8 s w]) (fun a w1 w2 => by rw [g42 a (by omega) (by omega), f28 a w2, f18 a w2, f8 a w2])
      ·
        show WP (Call d) 108 P X (29, [some (vr (some 69) 7), some (vi (th tb n p)), some (vi (th tb n (nx tb n p))), none], [vi (-1)], (J18, H), 0, 0)
        refine WP.go 4 (And.intro (fun (b32 : ¬ (-1) = (-1)) => (absurd b32 (by omega))) (fun (b32 : (-1) = (-1)) => ?_))
        show WP (Call d) 108 P X (33, [some (vr (some 69) 7), some (vi (th tb n p)), some (vi (th tb n (nx tb n p))), some (vi (-1))], [], (J18, H), 0, 0)
        refine WP.go 2 (And.intro (And.intro (Nat.le_of_ble_eq_true rfl) (Nat.le_of_ble_eq_true rfl)) (And.intro (Or.inl rfl) (?_)))
        show P (some (vi 0)) (J18, H)
        have b9 := (hK_4.at hat_5).2
        have r9 := twin_3 (tb := tb) (n := n) (p := p) (μ := μ) q8 q18 q28_1
        exact h.1 (by rw [r9]; show nx tb n (nx tb n p) ≠ -1; omega) _ (by rw [r9]; exact hat_5) (by rw [r9]; exact hT_6) (fun s w => (e18 s w).trans (e8 s w)) (fun a _ w => (f18 a w).trans (f8 a w))
    ·
      show WP (Call d) 108 P X (19, [some (vr (some 69) 7), some (vi (th tb n p)), none, none], [vi (-1)], (J8, H), 0, 0)
      refine WP.go 4 (And.intro (fun (b22 : ¬ (-1) = (-1)) => (absurd b22 (by omega))) (fun (b22 : (-1) = (-1)) => ?_))
      show WP (Call d) 108 P X (23, [some (vr (some 69) 7), some (vi (th tb n p)), some (vi (-1)), none], [], (J8, H), 0, 0)
      refine WP.go 2 (And.intro (And.intro (Nat.le_of_ble_eq_true rfl) (Nat.le_of_ble_eq_true rfl)) (And.intro (Or.inl rfl) (?_)))
      show P (some (vi 0)) (J8, H)
      have b9 := (hK_1.at hat_2).2
      have r9 := twin_2 (tb := tb) (n := n) (p := p) (μ := μ) q8 q18_1
      exact h.1 (by rw [r9]; show nx tb n p ≠ -1; omega) _ (by rw [r9]; exact hat_2) (by rw [r9]; exact hT_3) (fun s w => e8 s w) (fun a _ w => f8 a w)
  ·
    show WP (Call d) 108 P X (9, [some (vr (some 69) 7), none, none, none], [vi (-1)], (I, H), 0, 0)
    refine WP.go 4 (And.intro (fun (b12 : ¬ (-1) = (-1)) => (absurd b12 (by omega))) (fun (b12 : (-1) = (-1)) => ?_))
    show WP (Call d) 108 P X (13, [some (vr (some 69) 7), some (vi (-1)), none, none], [], (I, H), 0, 0)
    refine WP.go 2 (And.intro (And.intro (Nat.le_of_ble_eq_true rfl) (Nat.le_of_ble_eq_true rfl)) (And.intro (Or.inl rfl) (?_)))
    show P (some (vi 0)) (I, H)
    have r9 := twin_1 (tb := tb) (n := n) (p := p) (μ := μ) q8_1
    exact h.1 (by rw [r9]; show p ≠ -1; omega) _ (by rw [r9]; exact hat) (by rw [r9]; exact hT) (fun _ _ => rfl) (fun _ _ _ => rfl)

theorem s_9_readDial {d : Nat} {P : Option qV → qH → Prop} {X : Nat → qH → Prop} {I : qI} {H : qS} {μ : Int → Int} (hd : 2 ≤ d) {tb : Int → Int} {n p t9 : Int} (hS : Shp H) (hX : SX I) (hK : TOK I 69 tb n) (hat : ATP I 69 p) (hT : TR 27 I μ) (hV : IM μ) (ht9 : 1002 ≤ t9 ∧ t9 ≤ 1006) (h : ((tdia tb n μ t9 p).1 ≠ -1 → ∀ J : qI, ATP J 69 (tdia tb n μ t9 p).1 → TR 27 J (tdia tb n μ t9 p).2.1 → (∀ s, s ≠ 3 → J 69 s = I 69 s) → (∀ a, a < 27 ∨ 47 < a → a ≠ 69 → J a = I a) → P (some (vi 0)) (J, H)) ∧ ((tdia tb n μ t9 p).1 = -1 → ∀ J : qI, ATP J 69 (tdia tb n μ t9 p).2.2 → TR 27 J (tdia tb n μ t9 p).2.1 → (∀ s, s ≠ 3 → J 69 s = I 69 s) → (∀ a, a < 27 ∨ 47 < a → a ≠ 69 → J a = I a) → P (some (vi 1)) (J, H))) :
    Call d 109 [vr (some 69) 7, vi t9] (I, H) P X := by
  obtain ⟨d, rfl⟩ : ∃ e, d = e + 1 := ⟨d - 1, by omega⟩
  have hpb := (hK.at hat).2
  show WP (Call d) 109 P X (0, [some (vr (some 69) 7), some (vi t9), none], [], (I, H), 0, 0)
  refine WP.go 5 (And.intro (fun (b4 : ¬ t9 = 1003) => ?_) (fun (b4 : t9 = 1003) => ?_))
  ·
    show WP (Call d) 109 P X (7, [some (vr (some 69) 7), some (vi t9), none], [vi 0, vr (some 69) 7], (I, H), 0, 0)
    refine WP.go 2 (And.intro (And.intro (Nat.le_of_ble_eq_true rfl) (Nat.le_of_ble_eq_true rfl)) (And.intro rfl (?_)))
    show Call d 82 [vr (some 69) 7, vi 0, vi 95] (I, H) _ _
    refine s_7_take_T69 (by omega) hS hK hat (by omega) ⟨(fun q8 J8 e8 f8 g8 => ?_), (fun q8_1 => ?_)⟩
    ·
      show WP (Call d) 109 P X (9, [some (vr (some 69) 7), some (vi t9), none], [vi (th tb n p)], (J8, H), 0, 0)
      have hK_1 : TOK J8 69 tb n := hK.fr (e8 2 (by omega)) (f8 70 (by omega)) (f8 71 (by omega))
      have hat_2 : ATP J8 69 (nx tb n p) := g8
      have hT_3 : TR 27 J8 μ := hT.fr (fun a q1 q2 => f8 a (by omega))
      refine WP.go 4 (And.intro (fun (b12 : ¬ th tb n p = (-1)) => ?_) (fun (b12 : th tb n p = (-1)) => (absurd b12 (by omega))))
      show WP (Call d) 109 P X (15, [some (vr (some 69) 7), some (vi t9), some (vi (th tb n p))], [], (J8, H), 0, 0)
      refine WP.go 7 (And.intro rfl (Exists.intro 27 (And.intro hS.r69_4 (Exists.intro (t9 - 1002) (And.intro (wrp_a (by omega) (by omega)) (And.intro (And.intro (Nat.le_of_ble_eq_true rfl) (Nat.le_of_ble_eq_true rfl)) (And.intro rfl (?_))))))))
      show Call d 85 [vr (some 27) 6, vi (t9 - 1002), vi (th tb n p)] (J8, H) _ _
      refine s_8_setDial (by omega) hS (.inr (.inl rfl)) (by omega) (fun J21 e21 f21 => ?_)
      show WP (Call d) 109 P X (22, [some (vr (some 69) 7), some (vi t9), some (vi (th tb n p))], [], (J21, H), 0, 0)
      refine WP.go 2 (And.intro (And.intro (Nat.le_of_ble_eq_true rfl) (Nat.le_of_ble_eq_true rfl)) (And.intro (Or.inr rfl) (?_)))
      show P (some (vi 1)) (J21, H)
      have r9 := tdia_2 (tb := tb) (n := n) (t := t9) (p := p) (μ := μ) ⟨q8.1, by split <;> omega⟩
      exact h.2 (by rw [r9]) _ (by rw [r9]; exact hat_2.cpf (f21 69 (by omega)) (f21 71 (by omega))) (by rw [r9]; exact TR_uDia hT_3 hV (by omega) e21 f21) (fun s w => by rw [f21 69 (by omega), e8 s w]) (fun a w1 w2 => by rw [f21 a (by omega), f8 a w2])
    ·
      show WP (Call d) 109 P X (9, [some (vr (some 69) 7), some (vi t9), none], [vi (-1)], (I, H), 0, 0)
      refine WP.go 4 (And.intro (fun (b12 : ¬ (-1) = (-1)) => (absurd b12 (by omega))) (fun (b12 : (-1) = (-1)) => ?_))
      show WP (Call d) 109 P X (13, [some (vr (some 69) 7), some (vi t9), some (vi (-1))], [], (I, H), 0, 0)
      refine WP.go 2 (And.intro (And.intro (Nat.le_of_ble_eq_true rfl) (Nat.le_of_ble_eq_true rfl)) (And.intro (Or.inl rfl) (?_)))
      show P (some (vi 0)) (I, H)
      have r9 := tdia_1 (tb := tb) (n := n) (t := t9) (p := p) (μ := μ) (fun z => q8_1 ⟨z.1, by have z2 := z.2; split at z2 <;> omega⟩)
      exact h.1 (by rw [r9]; show p ≠ -1; omega) _ (by rw [r9]; exact hat) (by rw [r9]; exact hT) (fun _ _ => rfl) (fun _ _ _ => rfl)
  ·
    show WP (Call d) 109 P X (5, [some (vr (some 69) 7), some (vi t9), none], [vi 0, vr (some 69) 7], (I, H), 0, 0)
    refine WP.go 3 (And.intro (And.intro (Nat.le_of_ble_eq_true rfl) (Nat.le_of_ble_eq_true rfl)) (And.intro rfl (?_)))
    show Call d 82 [vr (some 69) 7, vi 0, vi 20] (I, H) _ _
    refine s_7_take_T69 (by omega) hS hK hat (by omega) ⟨(fun q8_2 J8_1 e8_1 f8_1 g8_1 => ?_), (fun q8_3 => ?_)⟩
    ·
      show WP (Call d) 109 P X (9, [some (vr (some 69) 7), some (vi t9), none], [vi (th tb n p)], (J8_1, H), 0, 0)
      have hK_4 : TOK J8_1 69 tb n := hK.fr (e8_1 2 (by omega)) (f8_1 70 (by omega)) (f8_1 71 (by omega))
      have hat_5 : ATP J8_1 69 (nx tb n p) := g8_1
      have hT_6 : TR 27 J8_1 μ := hT.fr (fun a q1 q2 => f8_1 a (by omega))
      refine WP.go 4 (And.intro (fun (b12 : ¬ th tb n p = (-1)) => ?_) (fun (b12 : th tb n p = (-1)) => (absurd b12 (by omega))))
      show WP (Call d) 109 P X (15, [some (vr (some 69) 7), some (vi t9), some (vi (th tb n p))], [], (J8_1, H), 0, 0)
      refine WP.go 7 (And.intro rfl (Exists.intro 27 (And.intro hS.r69_4 (Exists.intro (t9 - 1002) (And.intro (wrp_a (by omega) (by omega)) (And.intro (And.intro (Nat.le_of_ble_eq_true rfl) (Nat.le_of_ble_eq_true rfl)) (And.intro rfl (?_))))))))
      show Call d 85 [vr (some 27) 6, vi (t9 - 1002), vi (th tb n p)] (J8_1, H) _ _
      refine s_8_setDial (by omega) hS (.inr (.inl rfl)) (by omega) (fun J21_1 e21_1 f21_1 => ?_)
      show WP (Call d) 109 P X (22, [some (vr (some 69) 7), some (vi t9), some (vi (th tb n p))], [], (J21_1, H), 0, 0)
      refine WP.go 2 (And.intro (And.intro (Nat.le_of_ble_eq_true rfl) (Nat.le_of_ble_eq_true rfl)) (And.intro (Or.inr rfl) (?_)))
      show P (some (vi 1)) (J21_1, H)
      have r9 := tdia_2 (tb := tb) (n := n) (t := t9) (p := p) (μ := μ) ⟨q8_2.1, by split <;> omega⟩
      exact h.2 (by rw [r9]) _ (by rw [r9]; exact hat_5.cpf (f21_1 69 (by omega)) (f21_1 71 (by omega))) (by rw [r9]; exact TR_uDia hT_6 hV (by omega) e21_1 f21_1) (fun s w => by rw [f21_1 69 (by omega), e8_1 s w]) (fun a w1 w2 => by rw [f21_1 a (by omega), f8_1 a w2])
    ·
      show WP (Call d) 109 P X (9, [some (vr (some 69) 7), some (vi t9), none], [vi (-1)], (I, H), 0, 0)
      refine WP.go 4 (And.intro (fun (b12 : ¬ (-1) = (-1)) => (absurd b12 (by omega))) (fun (b12 : (-1) = (-1)) => ?_))
      show WP (Call d) 109 P X (13, [some (vr (some 69) 7), some (vi t9), some (vi (-1))], [], (I, H), 0, 0)
      refine WP.go 2 (And.intro (And.intro (Nat.le_of_ble_eq_true rfl) (Nat.le_of_ble_eq_true rfl)) (And.intro (Or.inl rfl) (?_)))
      show P (some (vi 0)) (I, H)
      have r9 := tdia_1 (tb := tb) (n := n) (t := t9) (p := p) (μ := μ) (fun z => q8_3 ⟨z.1, by have z2 := z.2; split at z2 <;> omega⟩)
      exact h.1 (by rw [r9]; show p ≠ -1; omega) _ (by rw [r9]; exact hat) (by rw [r9]; exact hT) (fun _ _ => rfl) (fun _ _ _ => rfl)

noncomputable def twnd (tb : Int → Int) (n : Int) (μ : Int → Int) (k p : Int) : Int × (Int → Int) × Int := if ¬ (0 ≤ th tb n p ∧ th tb n p ≤ 99) then (p, μ, p) else if ¬ (th tb n p ≤ th tb n (nx tb n p) ∧ th tb n (nx tb n p) ≤ 99) then (nx tb n p, μ, p) else if ¬ (0 ≤ th tb n (nx tb n (nx tb n p)) ∧ th tb n (nx tb n (nx tb n p)) ≤ 20) then (nx tb n (nx tb n p), μ, p) else (-1, uWnd μ (th tb n p) (1 + th tb n (nx tb n p)) (if k = 0 then th tb n (nx tb n (nx tb n p)) else -(th tb n (nx tb n (nx tb n p)))), nx tb n (nx tb n (nx tb n p)))
theorem twnd_1 {tb : Int → Int} {n k p : Int} {μ : Int → Int} (h : ¬ (0 ≤ th tb n p ∧ th tb n p ≤ 99)) : twnd tb n μ k p = (p, μ, p) := if_pos h
theorem twnd_2 {tb : Int → Int} {n k p : Int} {μ : Int → Int} (h : 0 ≤ th tb n p ∧ th tb n p ≤ 99) (h2 : ¬ (th tb n p ≤ th tb n (nx tb n p) ∧ th tb n (nx tb n p) ≤ 99)) : twnd tb n μ k p = (nx tb n p, μ, p) := (if_neg (fun z => z h)).trans (if_pos h2)
theorem twnd_3 {tb : Int → Int} {n k p : Int} {μ : Int → Int} (h : 0 ≤ th tb n p ∧ th tb n p ≤ 99) (h2 : th tb n p ≤ th tb n (nx tb n p) ∧ th tb n (nx tb n p) ≤ 99) (h3 : ¬ (0 ≤ th tb n (nx tb n (nx tb n p)) ∧ th tb n (nx tb n (nx tb n p)) ≤ 20)) : twnd tb n μ k p = (nx tb n (nx tb n p), μ, p) := (if_neg (fun z => z h)).trans ((if_neg (fun z => z h2)).trans (if_pos h3))
theorem twnd_4 {tb : Int → Int} {n k p : Int} {μ : Int → Int} (h : 0 ≤ th tb n p ∧ th tb n p ≤ 99) (h2 : th tb n p ≤ th tb n (nx tb n p) ∧ th tb n (nx tb n p) ≤ 99) (h3 : 0 ≤ th tb n (nx tb n (nx tb n p)) ∧ th tb n (nx tb n (nx tb n p)) ≤ 20) : twnd tb n μ k p = (-1, uWnd μ (th tb n p) (1 + th tb n (nx tb n p)) (if k = 0 then th tb n (nx tb n (nx tb n p)) else -(th tb n (nx tb n (nx tb n p)))), nx tb n (nx tb n (nx tb n p))) := (if_neg (fun z => z h)).trans ((if_neg (fun z => z h2)).trans (if_neg (fun z => z h3)))
theorem wnd_s {f g h : Int → Int} {a y9 v : Int} (e : g = fun j => if j = y9 then v else f j) (hy : a ≤ y9) (h1 : ∀ y, 0 ≤ y → y < 100 → f y = if a ≤ y ∧ y < y9 then v else h y) : ∀ y, 0 ≤ y → y < 100 → g y = if a ≤ y ∧ y < y9 + 1 then v else h y := by
  intro y q0 q1
  rw [e]
  show (if y = y9 then v else f y) = _
  by_cases z : y = y9
  · rw [if_pos z, if_pos (by omega)]
  · rw [if_neg z, h1 y q0 q1]
    by_cases w : a ≤ y ∧ y < y9
    · rw [if_pos w, if_pos (by omega)]
    · rw [if_neg w, if_neg (by omega)]
theorem s_9_readWind {d : Nat} {P : Option qV → qH → Prop} {X : Nat → qH → Prop} {I : qI} {H : qS} {μ : Int → Int} (hd : 2 ≤ d) {tb : Int → Int} {n p k9 : Int} (hS : Shp H) (hX : SX I) (hK : TOK I 69 tb n) (hat : ATP I 69 p) (hT : TR 27 I μ) (hV : IM μ) (hk9 : k9 = 0 ∨ k9 = 1) (h : ((twnd tb n μ k9 p).1 ≠ -1 → ∀ J : qI, ATP J 69 (twnd tb n μ k9 p).1 → TR 27 J (twnd tb n μ k9 p).2.1 → (∀ s, s ≠ 3 → J 69 s = I 69 s) → (∀ a, a < 27 ∨ 47 < a → a ≠ 69 → J a = I a) → P (some (vi 0)) (J, H)) ∧ ((twnd tb n μ k9 p).1 = -1 → ∀ J : qI, ATP J 69 (twnd tb n μ k9 p).2.2 → TR 27 J (twnd tb n μ k9 p).2.1 → (∀ s, s ≠ 3 → J 69 s = I 69 s) → (∀ a, a < 27 ∨ 47 < a → a ≠ 69 → J a = I a) → P (some (vi 1)) (J, H))) :
    Call d 110 [vr (some 69) 7, vi k9] (I, H) P X := by
  obtain ⟨d, rfl⟩ : ∃ e, d = e + 1 := ⟨d - 1, by omega⟩
  have hpb := (hK.at hat).2
  show WP (Call d) 110 P X (0, [some (vr (some 69) 7), some (vi k9), none, none, none, none], [], (I, H), 0, 0)
  refine WP.go 4 (And.intro (And.intro (Nat.le_of_ble_eq_true rfl) (Nat.le_of_ble_eq_true rfl)) (And.intro rfl (?_)))
  show Call d 82 [vr (some 69) 7, vi 0, vi 99] (I, H) _ _
  refine s_7_take_T69 (by omega) hS hK hat (by omega) ⟨(fun q3 J3 e3 f3 g3 => ?_), (fun q3_1 => ?_)⟩
  ·
    show WP (Call d) 110 P X (4, [some (vr (some 69) 7), some (vi k9), none, none, none, none], [vi (th tb n p)], (J3, H), 0, 0)
    have hK_1 : TOK J3 69 tb n := hK.fr (e3 2 (by omega)) (f3 70 (by omega)) (f3 71 (by omega))
    have hat_2 : ATP J3 69 (nx tb n p) := g3
    have hT_3 : TR 27 J3 μ := hT.fr (fun a q1 q2 => f3 a (by omega))
    refine WP.go 4 (And.intro (fun (b7 : ¬ th tb n p = (-1)) => ?_) (fun (b7 : th tb n p = (-1)) => (absurd b7 (by omega))))
    show WP (Call d) 110 P X (10, [some (vr (some 69) 7), some (vi k9), some (vi (th tb n p)), none, none, none], [], (J3, H), 0, 0)
    refine WP.go 4 (And.intro (And.intro (Nat.le_of_ble_eq_true rfl) (Nat.le_of_ble_eq_true rfl)) (And.intro rfl (?_)))
    show Call d 82 [vr (some 69) 7, vi (th tb n p), vi 99] (J3, H) _ _
    refine s_7_take_T69 (by omega) hS hK_1 hat_2 (by omega) ⟨(fun q13 J13 e13 f13 g13 => ?_), (fun q13_1 => ?_)⟩
    ·
      show WP (Call d) 110 P X (14, [some (vr (some 69) 7), some (vi k9), some (vi (th tb n p)), none, none, none], [vi (th tb n (nx tb n p))], (J13, H), 0, 0)
      have hK_4 : TOK J13 69 tb n := hK_1.fr (e13 2 (by omega)) (f13 70 (by omega)) (f13 71 (by omega))
      have hat_5 : ATP J13 69 (nx tb n (nx tb n p)) := g13
      have hT_6 : TR 27 J13 μ := hT_3.fr (fun a q1 q2 => f13 a (by omega))
      refine WP.go 4 (And.intro (fun (b17 : ¬ th tb n (nx tb n p) = (-1)) => ?_) (fun (b17 : th tb n (nx tb n p) = (-1)) => (absurd b17 (by omega))))
      show WP (Call d) 110 P X (20, [some (vr (some 69) 7), some (vi k9), some (vi (th tb n p)), some (vi (th tb n (nx tb n p))), none, none], [], (J13, H), 0, 0)
      refine WP.go 4 (And.intro (And.intro (Nat.le_of_ble_eq_true rfl) (Nat.le_of_ble_eq_true rfl)) (And.intro rfl (?_)))
      show Call d 82 [vr (some 69) 7, vi 0, vi 20] (J13, H) _ _
      refine s_7_take_T69 (by omega) hS hK_4 hat_5 (by omega) ⟨(fun q23 J23 e23 f23 g23 => ?_), (fun q23_1 => ?_)⟩
      ·
        show WP (Call d) 110 P X (24, [some (vr (some 69) 7), some (vi k9), some (vi (th tb n p)), some (vi (th tb n (nx tb n p))), none, none], [vi (th tb n (nx tb n (nx tb n p)))], (J23, H), 0, 0)
        have hK_7 : TOK J23 69 tb n := hK_4.fr (e23 2 (by omega)) (f23 70 (by omega)) (f23 71 (by omega))
        have hat_8 : ATP J23 69 (nx tb n (nx tb n (nx tb n p))) := g23
        have hT_9 : TR 27 J23 μ := hT_6.fr (fun a q1 q2 => f23 a (by omega))
        refine WP.go 4 (And.intro (fun (b27 : ¬ th tb n (nx tb n (nx tb n p)) = (-1)) => ?_) (fun (b27 : th tb n (nx tb n (nx tb n p)) = (-1)) => (absurd b27 (by omega))))
        show WP (Call d) 110 P X (30, [some (vr (some 69) 7), some (vi k9), some (vi (th tb n p)), some (vi (th tb n (nx tb n p))), some (vi (th tb n (nx tb n (nx tb n p)))), none], [], (J23, H), 0, 0)
        refine WP.go 2 ?_
        show WP (Call d) 110 P X (32, [some (vr (some 69) 7), some (vi k9), some (vi (th tb n p)), some (vi (th tb n (nx tb n p))), some (vi (th tb n (nx tb n (nx tb n p)))), some (vi (th tb n p))], [], (J23, H), 0, 0)
        have lp32 : ∀ (n9 : Nat) (K : qI) (y9 : Int) (hm : 1 + th tb n (nx tb n p) - y9 < (n9 : Int)) (iv0 : th tb n p ≤ y9 ∧ y9 ≤ 1 + th tb n (nx tb n p)) (iv1 : ∀ y, 0 ≤ y → y < 100 → K 45 y = if th tb n p ≤ y ∧ y < y9 then (if k9 = 0 then th tb n (nx tb n (nx tb n p)) else -(th tb n (nx tb n (nx tb n p)))) else J23 45 y) (iv2 : ∀ a, a ≠ 45 → K a = J23 a), WP (Call d) 110 P X (32, [some (vr (some 69) 7), some (vi k9), some (vi (th tb n p)), some (vi (th tb n (nx tb n p))), some (vi (th tb n (nx tb n (nx tb n p)))), some (vi y9)], [], (K, H), 0, 0) := by
          intro n9
          induction n9 with
          | zero => intro K y9 hm iv0 iv1 iv2; exact absurd hm (by omega)
          | succ n9 ih32 =>
            intro K y9 hm iv0 iv1 iv2
            refine WP.go 3 (And.intro (fun (b34 : th tb n (nx tb n p) < y9) => ?_) (fun (b34 : ¬ th tb n (nx tb n p) < y9) => ?_))
            ·
              show WP (Call d) 110 P X (50, [some (vr (some 69) 7), some (vi k9), some (vi (th tb n p)), some (vi (th tb n (nx tb n p))), some (vi (th tb n (nx tb n (nx tb n p)))), some (vi y9)], [], (K, H), 0, 0)
              refine WP.go 2 (And.intro (And.intro (Nat.le_of_ble_eq_true rfl) (Nat.le_of_ble_eq_true rfl)) (And.intro (Or.inr rfl) (?_)))
              show P (some (vi 1)) (K, H)
              have r9 := twnd_4 (tb := tb) (n := n) (k := k9) (p := p) (μ := μ) q3 q13 q23
              have hy9 : y9 = 1 + th tb n (nx tb n p) := by omega
              exact h.2 (by rw [r9]) _ (by rw [r9]; exact hat_8.cpf (iv2 69 (by omega)) (iv2 71 (by omega))) (by rw [r9]; exact TR_uWnd hT_9 hV (by omega) (fun y q0 q1 => by rw [← hy9]; exact iv1 y q0 q1) iv2) (fun s w => by rw [iv2 69 (by omega), e23 s w, e13 s w, e3 s w]) (fun a w1 w2 => by rw [iv2 a (by omega), f23 a w2, f13 a w2, f3 a w2])
            ·
              show WP (Call d) 110 P X (35, [some (vr (some 69) 7), some (vi k9), some (vi (th tb n p)), some (vi (th tb n (nx tb n p))), some (vi (th tb n (nx tb n (nx tb n p)))), some (vi y9)], [], (K, H), 0, 0)
              refine WP.go 3 (And.intro (fun (b37 : ¬ y9 < 100) => ?_) (fun (b37 : y9 < 100) => ?_))
              ·
                show WP (Call d) 110 P X (50, [some (vr (some 69) 7), some (vi k9), some (vi (th tb n p)), some (vi (th tb n (nx tb n p))), some (vi (th tb n (nx tb n (nx tb n p)))), some (vi y9)], [], (K, H), 0, 0)
                refine WP.go 2 (And.intro (And.intro (Nat.le_of_ble_eq_true rfl) (Nat.le_of_ble_eq_true rfl)) (And.intro (Or.inr rfl) (?_)))
                show P (some (vi 1)) (K, H)
                have r9 := twnd_4 (tb := tb) (n := n) (k := k9) (p := p) (μ := μ) q3 q13 q23
                have hy9 : y9 = 1 + th tb n (nx tb n p) := by omega
                exact h.2 (by rw [r9]) _ (by rw [r9]; exact hat_8.cpf (iv2 69 (by omega)) (iv2 71 (by omega))) (by rw [r9]; exact TR_uWnd hT_9 hV (by omega) (fun y q0 q1 => by rw [← hy9]; exact iv1 y q0 q1) iv2) (fun s w => by rw [iv2 69 (by omega), e23 s w, e13 s w, e3 s w]) (fun a w1 w2 => by rw [iv2 a (by omega), f23 a w2, f13 a w2, f3 a w2])
              ·
                show WP (Call d) 110 P X (38, [some (vr (some 69) 7), some (vi k9), some (vi (th tb n p)), some (vi (th tb n (nx tb n p))), some (vi (th tb n (nx tb n (nx tb n p)))), some (vi y9)], [], (K, H), 0, 0)
                refine WP.go 5 (And.intro rfl (Exists.intro 27 (And.intro hS.r69_4 (And.intro (fun (b42 : k9 = 0) => ?_) (fun (b42 : ¬ k9 = 0) => ?_)))))
                ·
                  show WP (Call d) 110 P X (46, [some (vr (some 69) 7), some (vi k9), some (vi (th tb n p)), some (vi (th tb n (nx tb n p))), some (vi (th tb n (nx tb n (nx tb n p)))), some (vi y9)], [vi y9, vr (some 27) 6], (K, H), 0, 0)
                  refine WP.go 2 (And.intro (And.intro (Nat.le_of_ble_eq_true rfl) (Nat.le_of_ble_eq_true rfl)) (And.intro rfl (?_)))
                  show Call d 87 [vr (some 27) 6, vi y9, vi (th tb n (nx tb n (nx tb n p)))] (K, H) _ _
                  refine s_8_setWind (by omega) hS (.inr (.inl rfl)) (by omega) (fun J47 e47 f47 => ?_)
                  show WP (Call d) 110 P X (48, [some (vr (some 69) 7), some (vi k9), some (vi (th tb n p)), some (vi (th tb n (nx tb n p))), some (vi (th tb n (nx tb n (nx tb n p)))), some (vi y9)], [], (J47, H), 0, 0)
                  refine WP.go 2 (Exists.intro (y9 + 1) (And.intro (wrp_a (by omega) (by omega)) (?_)))
                  show WP (Call d) 110 P X (32, [some (vr (some 69) 7), some (vi k9), some (vi (th tb n p)), some (vi (th tb n (nx tb n p))), some (vi (th tb n (nx tb n (nx tb n p)))), some (vi (y9 + 1))], [], (J47, H), 0, 0)
                  exact ih32 J47 (y9 + 1) (by omega) (by omega) (wnd_s (by rw [if_pos b42]; exact e47) (by omega) iv1) (fun a q => (f47 a q).trans (iv2 a q))
                ·
                  show WP (Call d) 110 P X (43, [some (vr (some 69) 7), some (vi k9), some (vi (th tb n p)), some (vi (th tb n (nx tb n p))), some (vi (th tb n (nx tb n (nx tb n p)))), some (vi y9)], [vi y9, vr (some 27) 6], (K, H), 0, 0)
                  refine WP.go 4 (Exists.intro (-(th tb n (nx tb n (nx tb n p)))) (And.intro (wrp_a (by omega) (by omega)) (And.intro (And.intro (Nat.le_of_ble_eq_true rfl) (Nat.le_of_ble_eq_true rfl)) (And.intro rfl (?_)))))
                  show Call d 87 [vr (some 27) 6, vi y9, vi (-(th tb n (nx tb n (nx tb n p))))] (K, H) _ _
                  refine s_8_setWind (by omega) hS (.inr (.inl rfl)) (by omega) (fun J47_1 e47_1 f47_1 => ?_)
                  show WP (Call d) 110 P X (48, [some (vr (some 69) 7), some (vi k9), some (vi (th tb n p)), some (vi (th tb n (nx tb n p))), some (vi (th tb n (nx tb n (nx tb n p)))), some (vi y9)], [], (J47_1, H), 0, 0)
                  refine WP.go 2 (Exists.intro (y9 + 1) (And.intro (wrp_a (by omega) (by omega)) (?_)))
                  show WP (Call d) 110 P X (32, [some (vr (some 69) 7), some (vi k9), some (vi (th tb n p)), some (vi (th tb n (nx tb n p))), some (vi (th tb n (nx tb n (nx tb n p)))), some (vi (y9 + 1))], [], (J47_1, H), 0, 0)
                  exact ih32 J47_1 (y9 + 1) (by omega) (by omega) (wnd_s (by rw [if_neg b42]; exact e47_1) (by omega) iv1) (fun a q => (f47_1 a q).trans (iv2 a q))
        exact lp32 ((1 + th tb n (nx tb n p) - (th tb n p) : Int).toNat + 1) J23 (th tb n p) (by omega) (by omega) (fun y q1 q2 => by rw [if_neg (by omega)]) (fun _ _ => rfl)
      ·
        show WP (Call d) 110 P X (24, [some (vr (some 69) 7), some (vi k9), some (vi (th tb n p)), some (vi (th tb n (nx tb n p))), none, none], [vi (-1)], (J13, H), 0, 0)
        refine WP.go 4 (And.intro (fun (b27 : ¬ (-1) = (-1)) => (absurd b27 (by omega))) (fun (b27 : (-1) = (-1)) => ?_))
        show WP (Call d) 110 P X (28, [some (vr (some 69) 7), some (vi k9), some (vi (th tb n p)), some (vi (th tb n (nx tb n p))), some (vi (-1)), none], [], (J13, H), 0, 0)
        refine WP.go 2 (And.intro (And.intro (Nat.le_of_ble_eq_true rfl) (Nat.le_of_ble_eq_true rfl)) (And.intro (Or.inl rfl) (?_)))
        show P (some (vi 0)) (J13, H)
        have b9 := (hK_4.at hat_5).2
        have r9 := twnd_3 (tb := tb) (n := n) (k := k9) (p := p) (μ := μ) q3 q13 q23_1
        exact h.1 (by rw [r9]; show nx tb n (nx tb n p) ≠ -1; omega) _ (by rw [r9]; exact hat_5) (by rw [r9]; exact hT_6) (fun s w => (e13 s w).trans (e3 s w)) (fun a _ w => (f13 a w).trans (f3 a w))
    ·
      show WP (Call d) 110 P X (14, [some (vr (some 69) 7), some (vi k9), some (vi (th tb n p)), none, none, none], [vi (-1)], (J3, H), 0, 0)
      refine WP.go 4 (And.intro (fun (b17 : ¬ (-1) = (-1)) => (absurd b17 (by omega))) (fun (b17 : (-1) = (-1)) => ?_))
      show WP (Call d) 110 P X (18, [some (vr (some 69) 7), some (vi k9), some (vi (th tb n p)), some (vi (-1)), none, none], [], (J3, H), 0, 0)
      refine WP.go 2 (And.intro (And.intro (Nat.le_of_ble_eq_true rfl) (Nat.le_of_ble_eq_true rfl)) (And.intro (Or.inl rfl) (?_)))
      show P (some (vi 0)) (J3, H)
      have b9 := (hK_1.at hat_2).2
      have r9 := twnd_2 (tb := tb) (n := n) (k := k9) (p := p) (μ := μ) q3 q13_1
      exact h.1 (by rw [r9]; show nx tb n p ≠ -1; omega) _ (by rw [r9]; exact hat_2) (by rw [r9]; exact hT_3) (fun s w => e3 s w) (fun a _ w => f3 a w)
  ·
    show WP (Call d) 110 P X (4, [some (vr (some 69) 7), some (vi k9), none, none, none, none], [vi (-1)], (I, H), 0, 0)
    refine WP.go 4 (And.intro (fun (b7 : ¬ (-1) = (-1)) => (absurd b7 (by omega))) (fun (b7 : (-1) = (-1)) => ?_))
    show WP (Call d) 110 P X (8, [some (vr (some 69) 7), some (vi k9), some (vi (-1)), none, none, none], [], (I, H), 0, 0)
    refine WP.go 2 (And.intro (And.intro (Nat.le_of_ble_eq_true rfl) (Nat.le_of_ble_eq_true rfl)) (And.intro (Or.inl rfl) (?_)))
    show P (some (vi 0)) (I, H)
    have r9 := twnd_1 (tb := tb) (n := n) (k := k9) (p := p) (μ := μ) q3_1
    exact h.1 (by rw [r9]; show p ≠ -1; omega) _ (by rw [r9]; exact hat) (by rw [r9]; exact hT) (fun _ _ => rfl) (fun _ _ _ => rfl)

