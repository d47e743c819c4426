noncomputable def tln (tb : Int → Int) (n p : Int) (μ : Int → Int) : Int × (Int → Int) × Int := if (th tb n p = 1000 ∧ ¬ μ 1 < 10) ∨ (th tb n p = 1001 ∧ ¬ μ 2 < 20) ∨ ¬ (1000 ≤ th tb n p ∧ th tb n p ≤ 1008) then (p, μ, p) else if th tb n p = 1000 then thou tb n μ (nx tb n p) else if th tb n p = 1001 then twin tb n μ (nx tb n p) else if 1007 ≤ th tb n p then twnd tb n μ (if th tb n p = 1008 then 1 else 0) (nx tb n p) else tdia tb n μ (th tb n p) (nx tb n p)
theorem tln_1 {tb : Int → Int} {n p : Int} {μ : Int → Int} (h : (th tb n p = 1000 ∧ ¬ μ 1 < 10) ∨ (th tb n p = 1001 ∧ ¬ μ 2 < 20) ∨ ¬ (1000 ≤ th tb n p ∧ th tb n p ≤ 1008)) : tln tb n p μ = (p, μ, p) := if_pos h
theorem tln_h {tb : Int → Int} {n p : Int} {μ : Int → Int} (h : th tb n p = 1000) (hr : μ 1 < 10) : tln tb n p μ = thou tb n μ (nx tb n p) := (if_neg (by omega)).trans (if_pos h)
theorem tln_w {tb : Int → Int} {n p : Int} {μ : Int → Int} (h : th tb n p = 1001) (hr : μ 2 < 20) : tln tb n p μ = twin tb n μ (nx tb n p) := (if_neg (by omega)).trans ((if_neg (by omega)).trans (if_pos h))
theorem tln_d {tb : Int → Int} {n p : Int} {μ : Int → Int} (h : 1002 ≤ th tb n p ∧ th tb n p < 1007) : tln tb n p μ = tdia tb n μ (th tb n p) (nx tb n p) := (if_neg (by omega)).trans ((if_neg (by omega)).trans ((if_neg (by omega)).trans (if_neg (by omega))))
theorem tln_v {tb : Int → Int} {n p : Int} {μ : Int → Int} (h : th tb n p = 1007) : tln tb n p μ = twnd tb n μ 0 (nx tb n p) := (if_neg (by omega)).trans ((if_neg (by omega)).trans ((if_neg (by omega)).trans ((if_pos (by omega)).trans (by rw [if_neg (by omega)]))))
theorem tln_c {tb : Int → Int} {n p : Int} {μ : Int → Int} (h : th tb n p = 1008) : tln tb n p μ = twnd tb n μ 1 (nx tb n p) := (if_neg (by omega)).trans ((if_neg (by omega)).trans ((if_neg (by omega)).trans ((if_pos (by omega)).trans (by rw [if_pos h]))))
theorem thou_im {tb : Int → Int} {n p : Int} {μ : Int → Int} (hV : IM μ) (h1 : μ 1 < 10) : IM (thou tb n μ p).2.1 := by
  unfold thou
  split
  · exact hV
  · rename_i q
    split
    · exact hV
    · rename_i q2
      have q0 : fI (fun i => μ (120 + 2 * i) = th tb n p) 0 (μ 1) = -1 := Classical.byContradiction (fun z => q (.inl z))
      exact IM_uHou hV h1 (Classical.byContradiction (fun z => q (.inr z))) (Classical.byContradiction (fun z => q2 z)) (fun i z0 z1 z2 => by
        have hn := hV.n1
        rcases fI_r (p := fun i => μ (120 + 2 * i) = th tb n p) (a := 0) (b := μ 1) hn.1 with w | w
        · exact w.2 i z0 z1 z2
        · omega)
theorem twin_im {tb : Int → Int} {n p : Int} {μ : Int → Int} (hV : IM μ) (h1 : μ 2 < 20) : IM (twin tb n μ p).2.1 := by
  unfold twin
  split
  · exact hV
  · split
    · exact hV
    · split
      · exact hV
      · exact IM_uWin hV h1 (by omega) (by omega) (by omega)
theorem tdia_im {tb : Int → Int} {n t p : Int} {μ : Int → Int} (hV : IM μ) (h1 : 1002 ≤ t ∧ t < 1007) : IM (tdia tb n μ t p).2.1 := by
  by_cases q1 : 0 ≤ th tb n p ∧ th tb n p ≤ (if t = 1003 then 20 else 95)
  · rw [tdia_2 q1]
    have q2 := q1.2
    exact IM_uDia hV (by omega) (by split at q2 <;> omega) (fun z => by rw [if_pos (by omega)] at q2; exact q2)
  · rw [tdia_1 q1]; exact hV
theorem twnd_im {tb : Int → Int} {n k p : Int} {μ : Int → Int} (hV : IM μ) : IM (twnd tb n μ k p).2.1 := by
  unfold twnd
  split
  · exact hV
  · split
    · exact hV
    · split
      · exact hV
      · exact IM_uWnd hV (by omega) (by split <;> omega)
theorem tln_im {tb : Int → Int} {n p : Int} {μ : Int → Int} (hV : IM μ) : IM (tln tb n p μ).2.1 := by
  unfold tln
  split
  · exact hV
  · split
    · exact thou_im hV (by omega)
    · split
      · exact twin_im hV (by omega)
      · split
        · exact twnd_im hV
        · exact tdia_im hV (by omega)
theorem s_9_readLine {d : Nat} {P : Option qV → qH → Prop} {X : Nat → qH → Prop} {I : qI} {H : qS} {μ : Int → Int} (hd : 5 ≤ d) {tb : Int → Int} {n p : Int} (hS : Shp H) (hX : SX I) (hK : TOK I 69 tb n) (hat : ATP I 69 p) (hT : TR 27 I μ) (hV : IM μ) (h : ((tln tb n p μ).1 ≠ -1 → ∀ J : qI, ATP J 69 (tln tb n p μ).1 → TR 27 J (tln tb n p μ).2.1 → (∀ s, s ≠ 3 → J 69 s = I 69 s) → (∀ a, a < 27 ∨ 47 < a → a ≠ 69 → J a = I a) → P (some (vi 0)) (J, H)) ∧ ((tln tb n p μ).1 = -1 → ∀ J : qI, ATP J 69 (tln tb n p μ).2.2 → TR 27 J (tln tb n p μ).2.1 → (∀ s, s ≠ 3 → J 69 s = I 69 s) → (∀ a, a < 27 ∨ 47 < a → a ≠ 69 → J a = I a) → P (some (vi 1)) (J, H))) :
    Call d 106 [vr (some 69) 7] (I, H) P X := by
  obtain ⟨d, rfl⟩ : ∃ e, d = e + 1 := ⟨d - 1, by omega⟩
  have hpb := (hK.at hat).2
  show WP (Call d) 106 P X (0, [some (vr (some 69) 7), none], [], (I, H), 0, 0)
  refine WP.go 2 (And.intro (And.intro (Nat.le_of_ble_eq_true rfl) (Nat.le_of_ble_eq_true rfl)) (And.intro rfl (?_)))
  show Call d 79 [vr (some 69) 7] (I, H) _ _
  refine s_7_present_T69 (by omega) hS hK hat ?_
  show WP (Call d) 106 P X (2, [some (vr (some 69) 7), none], [vi (th tb n p)], (I, H), 0, 0)
  refine WP.go 4 (And.intro (fun (b5 : ¬ th tb n p = 1000) => ?_) (fun (b5 : th tb n p = 1000) => ?_))
  ·
    show WP (Call d) 106 P X (11, [some (vr (some 69) 7), some (vi (th tb n p))], [], (I, H), 0, 0)
    refine WP.go 3 (And.intro (fun (b13 : ¬ th tb n p = 1001) => ?_) (fun (b13 : th tb n p = 1001) => ?_))
    ·
      show WP (Call d) 106 P X (21, [some (vr (some 69) 7), some (vi (th tb n p))], [], (I, H), 0, 0)
      refine WP.go 4 (And.intro (And.intro (Nat.le_of_ble_eq_true rfl) (Nat.le_of_ble_eq_true rfl)) (And.intro rfl (?_)))
      show Call d 82 [vr (some 69) 7, vi 1000, vi 1008] (I, H) _ _
      refine s_7_take_T69 (by omega) hS hK hat (by omega) ⟨(fun q24 J24 e24 f24 g24 => ?_), (fun q24_1 => ?_)⟩
      ·
        show WP (Call d) 106 P X (25, [some (vr (some 69) 7), some (vi (th tb n p))], [vi (th tb n p)], (J24, H), 0, 0)
        have hK_1 : TOK J24 69 tb n := hK.fr (e24 2 (by omega)) (f24 70 (by omega)) (f24 71 (by omega))
        have hat_2 : ATP J24 69 (nx tb n p) := g24
        have hT_3 : TR 27 J24 μ := hT.fr (fun a q1 q2 => f24 a (by omega))
        have hX_4 : SX J24 := hX.fr (f24 0 (by omega)) (f24 1 (by omega))
        refine WP.go 2 (And.intro (fun (b26 : ¬ th tb n p = (-1)) => ?_) (fun (b26 : th tb n p = (-1)) => (absurd b26 (by omega))))
        show WP (Call d) 106 P X (29, [some (vr (some 69) 7), some (vi (th tb n p))], [], (J24, H), 0, 0)
        refine WP.go 3 (And.intro (fun (b31 : ¬ th tb n p = 1000) => ?_) (fun (b31 : th tb n p = 1000) => (absurd b31 (by omega))))
        show WP (Call d) 106 P X (35, [some (vr (some 69) 7), some (vi (th tb n p))], [], (J24, H), 0, 0)
        refine WP.go 3 (And.intro (fun (b37 : ¬ th tb n p = 1001) => ?_) (fun (b37 : th tb n p = 1001) => (absurd b37 (by omega))))
        show WP (Call d) 106 P X (41, [some (vr (some 69) 7), some (vi (th tb n p))], [], (J24, H), 0, 0)
        refine WP.go 3 (And.intro (fun (b43 : th tb n p < 1007) => ?_) (fun (b43 : ¬ th tb n p < 1007) => ?_))
        ·
          show WP (Call d) 106 P X (53, [some (vr (some 69) 7), some (vi (th tb n p))], [], (J24, H), 0, 0)
          refine WP.go 3 (And.intro (And.intro (Nat.le_of_ble_eq_true rfl) (Nat.le_of_ble_eq_true rfl)) (And.intro rfl (?_)))
          show Call d 109 [vr (some 69) 7, vi (th tb n p)] (J24, H) _ _
          refine s_9_readDial (by omega) hS hX_4 hK_1 hat_2 hT_3 hV (by omega) ⟨(fun q55 J55 e55 f55 g55 k55 => ?_), (fun q55_1 J55_1 e55_1 f55_1 g55_1 k55_1 => ?_)⟩
          ·
            show WP (Call d) 106 P X (56, [some (vr (some 69) 7), some (vi (th tb n p))], [vi 0], (J55, H), 0, 0)
            refine WP.go 1 (And.intro (And.intro (Nat.le_of_ble_eq_true rfl) (Nat.le_of_ble_eq_true rfl)) (And.intro (Or.inl rfl) (?_)))
            show P (some (vi 0)) (J55, H)
            have r9 := tln_d (tb := tb) (n := n) (p := p) (μ := μ) (by omega)
            exact h.1 (by rw [r9]; exact q55) _ (by rw [r9]; exact e55) (by rw [r9]; exact f55) (fun s w => (g55 s w).trans (e24 s w)) (fun a w1 w2 => (k55 a w1 w2).trans (f24 a w2))
          ·
            show WP (Call d) 106 P X (56, [some (vr (some 69) 7), some (vi (th tb n p))], [vi 1], (J55_1, H), 0, 0)
            refine WP.go 1 (And.intro (And.intro (Nat.le_of_ble_eq_true rfl) (Nat.le_of_ble_eq_true rfl)) (And.intro (Or.inr rfl) (?_)))
            show P (some (vi 1)) (J55_1, H)
            have r9 := tln_d (tb := tb) (n := n) (p := p) (μ := μ) (by omega)
            exact h.2 (by rw [r9]; exact q55_1) _ (by rw [r9]; exact e55_1) (by rw [r9]; exact f55_1) (fun s w => (g55_1 s w).trans (e24 s w)) (fun a w1 w2 => (k55_1 a w1 w2).trans (f24 a w2))
        ·
          show WP (Call d) 106 P X (44, [some (vr (some 69) 7), some (vi (th tb n p))], [], (J24, H), 0, 0)
          refine WP.go 4 (And.intro (fun (b47 : ¬ th tb n p = 1008) => ?_) (fun (b47 : th tb n p = 1008) => ?_))
          ·
            show WP (Call d) 106 P X (50, [some (vr (some 69) 7), some (vi (th tb n p))], [vr (some 69) 7], (J24, H), 0, 0)
            refine WP.go 2 (And.intro (And.intro (Nat.le_of_ble_eq_true rfl) (Nat.le_of_ble_eq_true rfl)) (And.intro rfl (?_)))
            show Call d 110 [vr (some 69) 7, vi 0] (J24, H) _ _
            refine s_9_readWind (by omega) hS hX_4 hK_1 hat_2 hT_3 hV (by omega) ⟨(fun q51 J51 e51 f51 g51 k51 => ?_), (fun q51_1 J51_1 e51_1 f51_1 g51_1 k51_1 => ?_)⟩
            ·
              show WP (Call d) 106 P X (52, [some (vr (some 69) 7), some (vi (th tb n p))], [vi 0], (J51, H), 0, 0)
              refine WP.go 2 (And.intro (And.intro (Nat.le_of_ble_eq_true rfl) (Nat.le_of_ble_eq_true rfl)) (And.intro (Or.inl rfl) (?_)))
              show P (some (vi 0)) (J51, H)
              have r9 := tln_v (tb := tb) (n := n) (p := p) (μ := μ) (by omega)
              exact h.1 (by rw [r9]; exact q51) _ (by rw [r9]; exact e51) (by rw [r9]; exact f51) (fun s w => (g51 s w).trans (e24 s w)) (fun a w1 w2 => (k51 a w1 w2).trans (f24 a w2))
            ·
              show WP (Call d) 106 P X (52, [some (vr (some 69) 7), some (vi (th tb n p))], [vi 1], (J51_1, H), 0, 0)
              refine WP.go 2 (And.intro (And.intro (Nat.le_of_ble_eq_true rfl) (Nat.le_of_ble_eq_true rfl)) (And.intro (Or.inr rfl) (?_)))
              show P (some (vi 1)) (J51_1, H)
              have r9 := tln_v (tb := tb) (n := n) (p := p) (μ := μ) (by omega)
              exact h.2 (by rw [r9]; exact q51_1) _ (by rw [r9]; exact e51_1) (by rw [r9]; exact f51_1) (fun s w => (g51_1 s w).trans (e24 s w)) (fun a w1 w2 => (k51_1 a w1 w2).trans (f24 a w2))
          ·
            show WP (Call d) 106 P X (48, [some (vr (some 69) 7), some (vi (th tb n p))], [vr (some 69) 7], (J24, H), 0, 0)
            refine WP.go 3 (And.intro (And.intro (Nat.le_of_ble_eq_true rfl) (Nat.le_of_ble_eq_true rfl)) (And.intro rfl (?_)))
            show Call d 110 [vr (some 69) 7, vi 1] (J24, H) _ _
            refine s_9_readWind (by omega) hS hX_4 hK_1 hat_2 hT_3 hV (by omega) ⟨(fun q51_2 J51_2 e51_2 f51_2 g51_2 k51_2 => ?_), (fun q51_3 J51_3 e51_3 f51_3 g51_3 k51_3 => ?_)⟩
            ·
              show WP (Call d) 106 P X (52, [some (vr (some 69) 7), some (vi (th tb n p))], [vi 0], (J51_2, H), 0, 0)
              refine WP.go 2 (And.intro (And.intro (Nat.le_of_ble_eq_true rfl) (Nat.le_of_ble_eq_true rfl)) (And.intro (Or.inl rfl) (?_)))
              show P (some (vi 0)) (J51_2, H)
              have r9 := tln_c (tb := tb) (n := n) (p := p) (μ := μ) (by omega)
              exact h.1 (by rw [r9]; exact q51_2) _ (by rw [r9]; exact e51_2) (by rw [r9]; exact f51_2) (fun s w => (g51_2 s w).trans (e24 s w)) (fun a w1 w2 => (k51_2 a w1 w2).trans (f24 a w2))
            ·
              show WP (Call d) 106 P X (52, [some (vr (some 69) 7), some (vi (th tb n p))], [vi 1], (J51_3, H), 0, 0)
              refine WP.go 2 (And.intro (And.intro (Nat.le_of_ble_eq_true rfl) (Nat.le_of_ble_eq_true rfl)) (And.intro (Or.inr rfl) (?_)))
              show P (some (vi 1)) (J51_3, H)
              have r9 := tln_c (tb := tb) (n := n) (p := p) (μ := μ) (by omega)
              exact h.2 (by rw [r9]; exact q51_3) _ (by rw [r9]; exact e51_3) (by rw [r9]; exact f51_3) (fun s w => (g51_3 s w).trans (e24 s w)) (fun a w1 w2 => (k51_3 a w1 w2).trans (f24 a w2))
      ·
        show WP (Call d) 106 P X (25, [some (vr (some 69) 7), some (vi (th tb n p))], [vi (-1)], (I, H), 0, 0)
        refine WP.go 2 (And.intro (fun (b26 : ¬ (-1) = (-1)) => (absurd b26 (by omega))) (fun (b26 : (-1) = (-1)) => ?_))
        show WP (Call d) 106 P X (27, [some (vr (some 69) 7), some (vi (th tb n p))], [], (I, H), 0, 0)
        refine WP.go 2 (And.intro (And.intro (Nat.le_of_ble_eq_true rfl) (Nat.le_of_ble_eq_true rfl)) (And.intro (Or.inl rfl) (?_)))
        show P (some (vi 0)) (I, H)
        have r9 := tln_1 (tb := tb) (n := n) (p := p) (μ := μ) (.inr (.inr q24_1))
        exact h.1 (by rw [r9]; show p ≠ -1; omega) _ (by rw [r9]; exact hat) (by rw [r9]; exact hT) (fun _ _ => rfl) (fun _ _ _ => rfl)
    ·
      show WP (Call d) 106 P X (14, [some (vr (some 69) 7), some (vi (th tb n p))], [], (I, H), 0, 0)
      refine WP.go 4 (And.intro rfl (Exists.intro 27 (And.intro hS.r69_4 (And.intro rfl (Exists.intro 30 (And.intro hS.r27_1 (And.intro (And.intro (Nat.le_of_ble_eq_true rfl) (Nat.le_of_ble_eq_true rfl)) (And.intro rfl (?_)))))))))
      show Call d 57 [vr (some 30) 4] (I, H) _ _
      refine s_hasRoom_windows (by omega) hT ?_
      show WP (Call d) 106 P X (18, [some (vr (some 69) 7), some (vi (th tb n p))], [vi (bz (μ 2 < 20))], (I, H), 0, 0)
      refine WP.go 1 (And.intro (fun (b18 : ¬ bz (μ 2 < 20) = 0) => ?_) (fun (b18 : bz (μ 2 < 20) = 0) => ?_))
      ·
        show WP (Call d) 106 P X (21, [some (vr (some 69) 7), some (vi (th tb n p))], [], (I, H), 0, 0)
        have z18 := bz_e1.mp b18
        refine WP.go 4 (And.intro (And.intro (Nat.le_of_ble_eq_true rfl) (Nat.le_of_ble_eq_true rfl)) (And.intro rfl (?_)))
        show Call d 82 [vr (some 69) 7, vi 1000, vi 1008] (I, H) _ _
        refine s_7_take_T69 (by omega) hS hK hat (by omega) ⟨(fun q24_2 J24_1 e24_1 f24_1 g24_1 => ?_), (fun q24_3 => ?_)⟩
        ·
          show WP (Call d) 106 P X (25, [some (vr (some 69) 7), some (vi (th tb n p))], [vi (th tb n p)], (J24_1, H), 0, 0)
          have hK_5 : TOK J24_1 69 tb n := hK.fr (e24_1 2 (by omega)) (f24_1 70 (by omega)) (f24_1 71 (by omega))
          have hat_6 : ATP J24_1 69 (nx tb n p) := g24_1
          have hT_7 : TR 27 J24_1 μ := hT.fr (fun a q1 q2 => f24_1 a (by omega))
          have hX_8 : SX J24_1 := hX.fr (f24_1 0 (by omega)) (f24_1 1 (by omega))
          refine WP.go 2 (And.intro (fun (b26 : ¬ th tb n p = (-1)) => ?_) (fun (b26 : th tb n p = (-1)) => (absurd b26 (by omega))))
          show WP (Call d) 106 P X (29, [some (vr (some 69) 7), some (vi (th tb n p))], [], (J24_1, H), 0, 0)
          refine WP.go 3 (And.intro (fun (b31 : ¬ th tb n p = 1000) => ?_) (fun (b31 : th tb n p = 1000) => (absurd b31 (by omega))))
          show WP (Call d) 106 P X (35, [some (vr (some 69) 7), some (vi (th tb n p))], [], (J24_1, H), 0, 0)
          refine WP.go 3 (And.intro (fun (b37 : ¬ th tb n p = 1001) => (absurd b37 (by omega))) (fun (b37 : th tb n p = 1001) => ?_))
          show WP (Call d) 106 P X (38, [some (vr (some 69) 7), some (vi (th tb n p))], [], (J24_1, H), 0, 0)
          refine WP.go 2 (And.intro (And.intro (Nat.le_of_ble_eq_true rfl) (Nat.le_of_ble_eq_true rfl)) (And.intro rfl (?_)))
          show Call d 108 [vr (some 69) 7] (J24_1, H) _ _
          refine s_9_readWindow (by omega) hS hX_8 hK_5 hat_6 hT_7 hV (bz_e1.mp b18) ⟨(fun q39 J39 e39 f39 g39 k39 => ?_), (fun q39_1 J39_1 e39_1 f39_1 g39_1 k39_1 => ?_)⟩
          ·
            show WP (Call d) 106 P X (40, [some (vr (some 69) 7), some (vi (th tb n p))], [vi 0], (J39, H), 0, 0)
            refine WP.go 1 (And.intro (And.intro (Nat.le_of_ble_eq_true rfl) (Nat.le_of_ble_eq_true rfl)) (And.intro (Or.inl rfl) (?_)))
            show P (some (vi 0)) (J39, H)
            have r9 := tln_w (tb := tb) (n := n) (p := p) (μ := μ) (by omega) (bz_e1.mp b18)
            exact h.1 (by rw [r9]; exact q39) _ (by rw [r9]; exact e39) (by rw [r9]; exact f39) (fun s w => (g39 s w).trans (e24_1 s w)) (fun a w1 w2 => (k39 a w1 w2).trans (f24_1 a w2))
          ·
            show WP (Call d) 106 P X (40, [some (vr (some 69) 7), some (vi (th tb n p))], [vi 1], (J39_1, H), 0, 0)
            refine WP.go 1 (And.intro (And.intro (Nat.le_of_ble_eq_true rfl) (Nat.le_of_ble_eq_true rfl)) (And.intro (Or.inr rfl) (?_)))
            show P (some (vi 1)) (J39_1, H)
            have r9 := tln_w (tb := tb) (n := n) (p := p) (μ := μ) (by omega) (bz_e1.mp b18)
            exact h.2 (by rw [r9]; exact q39_1) _ (by rw [r9]; exact e39_1) (by rw [r9]; exact f39_1) (fun s w => (g39_1 s w).trans (e24_1 s w)) (fun a w1 w2 => (k39_1 a w1 w2).trans (f24_1 a w2))
        ·
          show WP (Call d) 106 P X (25, [some (vr (some 69) 7), some (vi (th tb n p))], [vi (-1)], (I, H), 0, 0)
          refine WP.go 2 (And.intro (fun (b26 : ¬ (-1) = (-1)) => (absurd b26 (by omega))) (fun (b26 : (-1) = (-1)) => ?_))
          show WP (Call d) 106 P X (27, [some (vr (some 69) 7), some (vi (th tb n p))], [], (I, H), 0, 0)
          refine WP.go 2 (And.intro (And.intro (Nat.le_of_ble_eq_true rfl) (Nat.le_of_ble_eq_true rfl)) (And.intro (Or.inl rfl) (?_)))
          show P (some (vi 0)) (I, H)
          have r9 := tln_1 (tb := tb) (n := n) (p := p) (μ := μ) (.inr (.inr q24_3))
          exact h.1 (by rw [r9]; show p ≠ -1; omega) _ (by rw [r9]; exact hat) (by rw [r9]; exact hT) (fun _ _ => rfl) (fun _ _ _ => rfl)
      ·
        show WP (Call d) 106 P X (19, [some (vr (some 69) 7), some (vi (th tb n p))], [], (I, H), 0, 0)
        have z18 := bz_e0.mp b18
        refine WP.go 2 (And.intro (And.intro (Nat.le_of_ble_eq_true rfl) (Nat.le_of_ble_eq_true rfl)) (And.intro (Or.inl rfl) (?_)))
        show P (some (vi 0)) (I, H)
        have r9 := tln_1 (tb := tb) (n := n) (p := p) (μ := μ) (.inr (.inl ⟨by omega, fun z => by have := bz_e0.mp b18; exact this z⟩))
        exact h.1 (by rw [r9]; show p ≠ -1; omega) _ (by rw [r9]; exact hat) (by rw [r9]; exact hT) (fun _ _ => rfl) (fun _ _ _ => rfl)
  ·
    show WP (Call d) 106 P X (6, [some (vr (some 69) 7), some (vi (th tb n p))], [], (I, H), 0, 0)
    refine WP.go 4 (And.intro rfl (Exists.intro 27 (And.intro hS.r69_4 (And.intro rfl (Exists.intro 28 (And.intro hS.r27_0 (And.intro (And.intro (Nat.le_of_ble_eq_true rfl) (Nat.le_of_ble_eq_true rfl)) (And.intro rfl (?_)))))))))
    show Call d 57 [vr (some 28) 4] (I, H) _ _
    refine s_hasRoom_houses (by omega) hT ?_
    show WP (Call d) 106 P X (10, [some (vr (some 69) 7), some (vi (th tb n p))], [vi (bz (μ 1 < 10))], (I, H), 0, 0)
    refine WP.go 1 (And.intro (fun (b10 : bz (μ 1 < 10) = 0) => ?_) (fun (b10 : ¬ bz (μ 1 < 10) = 0) => ?_))
    ·
      show WP (Call d) 106 P X (19, [some (vr (some 69) 7), some (vi (th tb n p))], [], (I, H), 0, 0)
      have z10 := bz_e0.mp b10
      refine WP.go 2 (And.intro (And.intro (Nat.le_of_ble_eq_true rfl) (Nat.le_of_ble_eq_true rfl)) (And.intro (Or.inl rfl) (?_)))
      show P (some (vi 0)) (I, H)
      have r9 := tln_1 (tb := tb) (n := n) (p := p) (μ := μ) (.inl ⟨by omega, fun z => by have := bz_e0.mp b10; exact this z⟩)
      exact h.1 (by rw [r9]; show p ≠ -1; omega) _ (by rw [r9]; exact hat) (by rw [r9]; exact hT) (fun _ _ => rfl) (fun _ _ _ => rfl)
    ·
      show WP (Call d) 106 P X (11, [some (vr (some 69) 7), some (vi (th tb n p))], [], (I, H), 0, 0)
      have z10 := bz_e1.mp b10
      refine WP.go 3 (And.intro (fun (b13 : ¬ th tb n p = 1001) => ?_) (fun (b13 : th tb n p = 1001) => (absurd b13 (by omega))))
      show WP (Call d) 106 P X (21, [some (vr (some 69) 7), some (vi (th tb n p))], [], (I, H), 0, 0)
      refine WP.go 4 (And.intro (And.intro (Nat.le_of_ble_eq_true rfl) (Nat.le_of_ble_eq_true rfl)) (And.intro rfl (?_)))
      show Call d 82 [vr (some 69) 7, vi 1000, vi 1008] (I, H) _ _
      refine s_7_take_T69 (by omega) hS hK hat (by omega) ⟨(fun q24_4 J24_2 e24_2 f24_2 g24_2 => ?_), (fun q24_5 => ?_)⟩
      ·
        show WP (Call d) 106 P X (25, [some (vr (some 69) 7), some (vi (th tb n p))], [vi (th tb n p)], (J24_2, H), 0, 0)
        have hK_9 : TOK J24_2 69 tb n := hK.fr (e24_2 2 (by omega)) (f24_2 70 (by omega)) (f24_2 71 (by omega))
        have hat_10 : ATP J24_2 69 (nx tb n p) := g24_2
        have hT_11 : TR 27 J24_2 μ := hT.fr (fun a q1 q2 => f24_2 a (by omega))
        have hX_12 : SX J24_2 := hX.fr (f24_2 0 (by omega)) (f24_2 1 (by omega))
        refine WP.go 2 (And.intro (fun (b26 : ¬ th tb n p = (-1)) => ?_) (fun (b26 : th tb n p = (-1)) => (absurd b26 (by omega))))
        show WP (Call d) 106 P X (29, [some (vr (some 69) 7), some (vi (th tb n p))], [], (J24_2, H), 0, 0)
        refine WP.go 3 (And.intro (fun (b31 : ¬ th tb n p = 1000) => (absurd b31 (by omega))) (fun (b31 : th tb n p = 1000) => ?_))
        show WP (Call d) 106 P X (32, [some (vr (some 69) 7), some (vi (th tb n p))], [], (J24_2, H), 0, 0)
        refine WP.go 2 (And.intro (And.intro (Nat.le_of_ble_eq_true rfl) (Nat.le_of_ble_eq_true rfl)) (And.intro rfl (?_)))
        show Call d 107 [vr (some 69) 7] (J24_2, H) _ _
        refine s_9_readHouse (by omega) hS hX_12 hK_9 hat_10 hT_11 hV (bz_e1.mp b10) ⟨(fun q33 J33 e33 f33 g33 k33 => ?_), (fun q33_1 J33_1 e33_1 f33_1 g33_1 k33_1 => ?_)⟩
        ·
          show WP (Call d) 106 P X (34, [some (vr (some 69) 7), some (vi (th tb n p))], [vi 0], (J33, H), 0, 0)
          refine WP.go 1 (And.intro (And.intro (Nat.le_of_ble_eq_true rfl) (Nat.le_of_ble_eq_true rfl)) (And.intro (Or.inl rfl) (?_)))
          show P (some (vi 0)) (J33, H)
          have r9 := tln_h (tb := tb) (n := n) (p := p) (μ := μ) (by omega) (bz_e1.mp b10)
          exact h.1 (by rw [r9]; exact q33) _ (by rw [r9]; exact e33) (by rw [r9]; exact f33) (fun s w => (g33 s w).trans (e24_2 s w)) (fun a w1 w2 => (k33 a w1 w2).trans (f24_2 a w2))
        ·
          show WP (Call d) 106 P X (34, [some (vr (some 69) 7), some (vi (th tb n p))], [vi 1], (J33_1, H), 0, 0)
          refine WP.go 1 (And.intro (And.intro (Nat.le_of_ble_eq_true rfl) (Nat.le_of_ble_eq_true rfl)) (And.intro (Or.inr rfl) (?_)))
          show P (some (vi 1)) (J33_1, H)
          have r9 := tln_h (tb := tb) (n := n) (p := p) (μ := μ) (by omega) (bz_e1.mp b10)
          exact h.2 (by rw [r9]; exact q33_1) _ (by rw [r9]; exact e33_1) (by rw [r9]; exact f33_1) (fun s w => (g33_1 s w).trans (e24_2 s w)) (fun a w1 w2 => (k33_1 a w1 w2).trans (f24_2 a w2))
      ·
        show WP (Call d) 106 P X (25, [some (vr (some 69) 7), some (vi (th tb n p))], [vi (-1)], (I, H), 0, 0)
        refine WP.go 2 (And.intro (fun (b26 : ¬ (-1) = (-1)) => (absurd b26 (by omega))) (fun (b26 : (-1) = (-1)) => ?_))
        show WP (Call d) 106 P X (27, [some (vr (some 69) 7), some (vi (th tb n p))], [], (I, H), 0, 0)
        refine WP.go 2 (And.intro (And.intro (Nat.le_of_ble_eq_true rfl) (Nat.le_of_ble_eq_true rfl)) (And.intro (Or.inl rfl) (?_)))
        show P (some (vi 0)) (I, H)
        have r9 := tln_1 (tb := tb) (n := n) (p := p) (μ := μ) (.inr (.inr q24_5))
        exact h.1 (by rw [r9]; show p ≠ -1; omega) _ (by rw [r9]; exact hat) (by rw [r9]; exact hT) (fun _ _ => rfl) (fun _ _ _ => rfl)

