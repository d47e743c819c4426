theorem lnL_inv {σ : Type} {tb : Int → Int} {n : Int} {ln : Int → σ → Int × σ × Int} (Q : σ → Prop) (hq : ∀ p c, Q c → Q (ln p c).2.1) : ∀ (k : Nat) (p : Int) (c : σ), Q c → Q (lnL tb n ln k p c).2
  | 0, _, _, h => h
  | k + 1, p, c, h => by
    unfold lnL
    split
    · exact hq p c h
    · split
      · exact hq p c h
      · split
        · exact lnL_inv Q hq k _ _ (hq p c h)
        · exact hq p c h
theorem lnT_inv {σ : Type} {tb : Int → Int} {n : Int} {ln : Int → σ → Int × σ × Int} (Q : σ → Prop) (hq : ∀ p c, Q c → Q (ln p c).2.1) {c : σ} (h : Q c) : Q (lnT tb n ln c).2 := by
  unfold lnT
  split
  · exact h
  · exact lnL_inv Q hq _ _ _ h
theorem tln_0 {tb : Int → Int} {n p : Int} {μ : Int → Int} (hV : IM μ) : (tln tb n p μ).2.1 0 = μ 0 := by
  have n1 := hV.n1
  have n2 := hV.n2
  unfold tln
  split
  · rfl
  · rename_i q
    split
    · unfold thou
      split
      · rfl
      · split
        · rfl
        · exact uHou_o _ _ _ (by omega) 0 (by omega)
    · split
      · unfold twin
        split
        · rfl
        · split
          · rfl
          · split
            · rfl
            · exact uWin_o _ _ _ _ (by omega) 0 (by omega)
      · split
        · unfold twnd
          split
          · rfl
          · split
            · rfl
            · split
              · rfl
              · exact uWnd_o _ _ _ _ 0 (by omega)
        · by_cases w : 0 ≤ th tb n (nx tb n p) ∧ th tb n (nx tb n p) ≤ (if th tb n p = 1003 then 20 else 95)
          · rw [tdia_2 w]; exact uDia_o _ _ _ 0 (by omega)
          · rw [tdia_1 w]
theorem tln_q {tb : Int → Int} {n : Int} {μ : Int → Int} (hV : IM μ) : IM (lnT tb n (tln tb n) μ).2 ∧ (lnT tb n (tln tb n) μ).2 0 = μ 0 :=
  lnT_inv (fun c => IM c ∧ c 0 = μ 0) (fun p c h => ⟨tln_im h.1, (tln_0 h.1).trans h.2⟩) ⟨hV, rfl⟩
/-- what the reading of a town leaves alone in the class -/
def CV (I : qI) (H : qS) (J : qI) (G : qS) (w : Int) : Prop := CT 27 J ∧ (∀ a, a < 3 ∨ a = 5 ∨ (48 ≤ a ∧ a < 69) ∨ 90 ≤ a → J a = I a) ∧ (∀ s, s ≠ 11 → J 3 s = I 3 s) ∧ J 3 11 = w ∧ (J 4 = fun s => if s = 1 then 0 else I 4 s) ∧ (∀ a z, a ≠ 26 → a ≠ 47 → G.1 a z = H.1 a z) ∧ (∀ l, 0 ≤ l → l < 6 → G.1 26 l = H.1 26 l) ∧ G.2 = H.2
theorem s_11_town {d : Nat} {P : Option qV → qH → Prop} {X : Nat → qH → Prop} {I : qI} {H : qS} {μ : Int → Int} (hd : 43 ≤ d) {n : Int} (hS : Shp H) (hX : SX I) (hT : TR 6 I μ) (hV : IM μ) (hC : CT 27 I) (hsz : I 4 1 = n) (hnn : 0 ≤ n ∧ n ≤ 400) (hby : ∀ j, 0 ≤ j → j < n → 0 ≤ I 5 j ∧ I 5 j ≤ 255) (hy0 : ¬ (lnT (I 5) n (tln (I 5) n) μ).1 = -1 → ∀ (J : qI) (G : qS), CV I H J G (lnT (I 5) n (tln (I 5) n) μ).1 → TR 6 J μ → X 0 (J, G)) (hy2 : (lnT (I 5) n (tln (I 5) n) μ).1 = -1 → ¬ μ 0 < 12 → ∀ (J : qI) (G : qS), CV I H J G (-1) → TR 6 J μ → X 2 (J, G)) (h : (lnT (I 5) n (tln (I 5) n) μ).1 = -1 → μ 0 < 12 → ∀ (J : qI) (G : qS), CV I H J G (-1) → TR 6 J (uTex (lnT (I 5) n (tln (I 5) n) μ).2) → P (some (vi (1 + (lnT (I 5) n (tln (I 5) n) μ).2 0))) (J, G)) :
    Call d 118 [vr (some 3) 9] (I, H) P X := by
  obtain ⟨d, rfl⟩ : ∃ e, d = e + 1 := ⟨d - 1, by omega⟩
  have hUq := tln_q (tb := I 5) (n := n) hV
  have hU0 := hUq.2
  have hn0 := hV.n0
  show WP (Call d) 118 P X (0, [some (vr (some 3) 9)], [], (I, H), 0, 0)
  refine WP.go 5 (And.intro rfl (Exists.intro 69 (And.intro hS.r3_1 (And.intro rfl (Exists.intro 4 (And.intro hS.r3_0 (And.intro (And.intro (Nat.le_of_ble_eq_true rfl) (Nat.le_of_ble_eq_true rfl)) (And.intro rfl (?_)))))))))
  show Call d 70 [vr (some 69) 7, vr (some 4) 5] (I, H) _ _
  refine s_7_takeFrom_T69 (by omega) hS hsz hnn hby (fun J4 e4 f4 g4 k4 => ?_)
  show WP (Call d) 118 P X (5, [some (vr (some 3) 9)], [], (J4, H), 0, 0)
  have hX_1 : SX J4 := hX.fr (f4 0 (by omega) (by omega) (by omega) (by omega)) (f4 1 (by omega) (by omega) (by omega) (by omega))
  have hT4 : TR 6 J4 μ := hT.fr (fun a q1 q2 => f4 a (by omega) (by omega) (by omega) (by omega))
  have hC4 : CT 27 J4 := hC.fr (fun a q1 q2 => f4 a (by omega) (by omega) (by omega) (by omega))
  refine WP.go 5 (And.intro rfl (Exists.intro 27 (And.intro hS.r3_5 (And.intro rfl (Exists.intro 6 (And.intro hS.r3_4 (And.intro (And.intro (Nat.le_of_ble_eq_true rfl) (Nat.le_of_ble_eq_true rfl)) (And.intro rfl (?_)))))))))
  show Call d 104 [vr (some 27) 6, vr (some 6) 6] (J4, H) _ _
  refine s_8_copyFrom (n := 27) (m := 6) (by omega) hS (.inr (.inl rfl)) (.inl rfl) (by omega) (fun J9 G9 e9 p9 q9 r9 f9 => ?_)
  show WP (Call d) 118 P X (10, [some (vr (some 3) 9)], [], (J9, G9), 0, 0)
  have hS_2 : Shp G9 := hS.up (fun a z w1 w2 w3 => q9 a z (by omega)) r9
  have hT9 : TR 27 J9 μ := e9.tr hT4 hC4 hV
  have hX_3 : SX J9 := hX_1.fr (f9 0 (by omega)) (f9 1 (by omega))
  have hK_4 : TOK J9 69 (I 5) n := e4.fr (by rw [f9 69 (by omega)]) (f9 70 (by omega)) (f9 71 (by omega))
  refine WP.go 4 (And.intro rfl (Exists.intro 69 (And.intro hS_2.r3_1 (And.intro (And.intro (Nat.le_of_ble_eq_true rfl) (Nat.le_of_ble_eq_true rfl)) (And.intro rfl (?_))))))
  show Call d 78 [vr (some 69) 7] (J9, G9) _ _
  refine s_7_wrongIn_T69 (tb := (I 5)) (by omega) hS_2 hX_3 hK_4 hT9 hV (fun J13 e13 f13 g13 => ?_)
  show WP (Call d) 118 P X (14, [some (vr (some 3) 9)], [vi ((lnT (I 5) n (tln (I 5) n) μ).1), vr (some 3) 9], (J13, G9), 0, 0)
  refine WP.go 1 (And.intro (And.intro rfl trivial) (?_))
  show WP (Call d) 118 P X (15, [some (vr (some 3) 9)], [], ((upI J13 3 11 ((lnT (I 5) n (tln (I 5) n) μ).1)), G9), 0, 0)
  generalize hq_J1 : (upI J13 3 11 ((lnT (I 5) n (tln (I 5) n) μ).1)) = J1
  have e_J1 : J1 3 = (fun j => if j = 11 then ((lnT (I 5) n (tln (I 5) n) μ).1) else J13 3 j) := by rw [← hq_J1]; exact upI_self _ _ _ _
  have f_J1 : ∀ a, a ≠ 3 → J1 a = J13 a := fun a q => by rw [← hq_J1]; exact upI_cell q
  have hT1 : TR 27 J1 (lnT (I 5) n (tln (I 5) n) μ).2 := e13.fr (fun a q1 q2 => f_J1 a (by omega))
  have hcv : CV I H J1 G9 (lnT (I 5) n (tln (I 5) n) μ).1 := ⟨hT1.c, fun a q => by rw [f_J1 a (by omega), g13 a (by omega) (by omega), f9 a (by omega), f4 a (by omega) (by omega) (by omega) (by omega)], fun s q => by rw [e_J1]; refine (if_neg q).trans ?_; rw [g13 3 (by omega) (by omega), f9 3 (by omega), f4 3 (by omega) (by omega) (by omega) (by omega)], (by rw [e_J1]; exact if_pos rfl), (by rw [f_J1 4 (by omega), g13 4 (by omega) (by omega), f9 4 (by omega)]; exact g4), fun a z w1 w2 => q9 a z (by omega), fun l w1 w2 => q9 26 l (by omega), r9⟩
  have hT61 : TR 6 J1 μ := hT.fr (fun a q1 q2 => by rw [f_J1 a (by omega), g13 a (by omega) (by omega), f9 a (by omega), f4 a (by omega) (by omega) (by omega) (by omega)])
  refine WP.go 2 (And.intro (And.intro (Nat.le_of_ble_eq_true rfl) (Nat.le_of_ble_eq_true rfl)) (And.intro rfl (?_)))
  show Call d 173 [vr (some 3) 9] (J1, G9) _ _
  refine s_11_needRightText (by omega)  (fun q16 => ?_) (fun q9 => hy0 (fun z => q9 (by rw [e_J1]; exact z)) _ _ hcv hT61)
  show WP (Call d) 118 P X (17, [some (vr (some 3) 9)], [], (J1, G9), 1, 6)
  have hu1 : (lnT (I 5) n (tln (I 5) n) μ).1 = -1 := by have w := q16; rw [e_J1] at w; exact w
  have hcv1 : CV I H J1 G9 (-1) := by rw [← hu1]; exact hcv
  have hx2 : ¬ μ 0 < 12 → X 2 (J1, G9) := fun q => hy2 hu1 q _ _ hcv1 hT61
  refine WP.go 3 (And.intro rfl (Exists.intro 6 (And.intro hS_2.r3_4 (And.intro rfl (?_)))))
  refine rw_i (Q := fun x9 => WP (Call d) 118 P X (20, [some (vr (some 3) 9)], [vi x9], (J1, G9), 1, 6)) hT61.tx ?_
  show WP (Call d) 118 P X (20, [some (vr (some 3) 9)], [vi (μ 0)], (J1, G9), 1, 6)
  refine WP.go 2 (And.intro (fun (b21 : ¬ (μ 0) < 12) => ?_) (fun (b21 : (μ 0) < 12) => ?_))
  ·
    show WP (Call d) 118 P X (24, [some (vr (some 3) 9)], [], (J1, G9), 1, 6)
    refine WP.go 2 (And.intro (And.intro (Nat.le_of_ble_eq_true rfl) (Nat.le_of_ble_eq_true rfl)) (And.intro rfl (?_)))
    show Call d 174 [vi 0] (J1, G9) _ _
    exact s_11_needRoom_v (by omega) (fun q9 => absurd rfl q9) (fun _ => hx2 (by omega))
  ·
    show WP (Call d) 118 P X (22, [some (vr (some 3) 9)], [], (J1, G9), 1, 6)
    refine WP.go 3 (And.intro (And.intro (Nat.le_of_ble_eq_true rfl) (Nat.le_of_ble_eq_true rfl)) (And.intro rfl (?_)))
    show Call d 174 [vi 1] (J1, G9) _ _
    refine s_11_needRoom_v (by omega)  (fun q25_1 => ?_) (fun q9 => absurd q9 (by omega))
    show WP (Call d) 118 P X (26, [some (vr (some 3) 9)], [], (J1, G9), 2, 12)
    refine WP.go 4 (And.intro rfl (Exists.intro 27 (And.intro hS_2.r3_5 (And.intro rfl (?_)))))
    refine rw_i (Q := fun x9 => WP (Call d) 118 P X (30, [some (vr (some 3) 9)], [vi x9, vr (some 27) 6], (J1, G9), 2, 12)) hT1.tx ?_
    show WP (Call d) 118 P X (30, [some (vr (some 3) 9)], [vi ((lnT (I 5) n (tln (I 5) n) μ).2 0), vr (some 27) 6], (J1, G9), 2, 12)
    refine WP.go 3 (Exists.intro (((lnT (I 5) n (tln (I 5) n) μ).2 0) + 1) (And.intro (wrp_a (by omega) (by omega)) (And.intro (And.intro rfl trivial) (?_))))
    show WP (Call d) 118 P X (33, [some (vr (some 3) 9)], [], ((upI J1 27 13 (((lnT (I 5) n (tln (I 5) n) μ).2 0) + 1)), G9), 2, 12)
    generalize hq_J2 : (upI J1 27 13 (((lnT (I 5) n (tln (I 5) n) μ).2 0) + 1)) = J2
    have e_J2 : J2 27 = (fun j => if j = 13 then (((lnT (I 5) n (tln (I 5) n) μ).2 0) + 1) else J1 27 j) := by rw [← hq_J2]; exact upI_self _ _ _ _
    have f_J2 : ∀ a, a ≠ 27 → J2 a = J1 a := fun a q => by rw [← hq_J2]; exact upI_cell q
    have hT2 : TR 27 J2 (uTex (lnT (I 5) n (tln (I 5) n) μ).2) := TR_uTex hT1 hUq.1 e_J2 f_J2
    have hV2 : IM (uTex (lnT (I 5) n (tln (I 5) n) μ).2) := IM_uTex hUq.1 (by omega)
    have hT62 : TR 6 J2 μ := hT61.fr (fun a q1 q2 => f_J2 a (by omega))
    refine WP.go 5 (And.intro rfl (Exists.intro 6 (And.intro hS_2.r3_4 (And.intro rfl (Exists.intro 27 (And.intro hS_2.r3_5 (And.intro (And.intro (Nat.le_of_ble_eq_true rfl) (Nat.le_of_ble_eq_true rfl)) (And.intro rfl (?_)))))))))
    show Call d 104 [vr (some 6) 6, vr (some 27) 6] (J2, G9) _ _
    refine s_8_copyFrom (n := 6) (m := 27) (by omega) hS_2 (.inl rfl) (.inr (.inl rfl)) (by omega) (fun J37 G37 e37 p37 q37 r37 f37 => ?_)
    show WP (Call d) 118 P X (38, [some (vr (some 3) 9)], [], (J37, G37), 2, 12)
    have hS_5 : Shp G37 := hS_2.up (fun a z w1 w2 w3 => q37 a z (by omega)) r37
    have hT37 : TR 6 J37 (uTex (lnT (I 5) n (tln (I 5) n) μ).2) := e37.tr hT2 hT62.c hV2
    refine WP.go 3 (And.intro rfl (Exists.intro 6 (And.intro hS_5.r3_4 (And.intro rfl (?_)))))
    refine rw_i (Q := fun x9 => WP (Call d) 118 P X (41, [some (vr (some 3) 9)], [vi x9], (J37, G37), 2, 12)) hT37.tx ?_
    show WP (Call d) 118 P X (41, [some (vr (some 3) 9)], [vi (uTex (lnT (I 5) n (tln (I 5) n) μ).2 0)], (J37, G37), 2, 12)
    refine WP.go 1 (And.intro (And.intro (Nat.le_of_ble_eq_true rfl) (Nat.le_of_ble_eq_true rfl)) (And.intro trivial (?_)))
    show P (some (vi (uTex (lnT (I 5) n (tln (I 5) n) μ).2 0))) (J37, G37)
    refine fin_i (by rw [uTex_0]) (h hu1 (by omega) J37 G37 ⟨hT2.c.fr (fun a q1 q2 => f37 a (by omega)), fun a q => by rw [f37 a (by omega), f_J2 a (by omega)]; exact hcv.2.1 a q, fun s q => by rw [f37 3 (by omega), f_J2 3 (by omega)]; exact hcv.2.2.1 s q, by rw [f37 3 (by omega), f_J2 3 (by omega)]; exact hcv1.2.2.2.1, by rw [f37 4 (by omega), f_J2 4 (by omega)]; exact hcv.2.2.2.2.1, fun a z w1 w2 => (q37 a z (by omega)).trans (q9 a z (by omega)), fun l w1 w2 => (p37 l w1 w2).trans (p9 l w1 w2), r37.trans r9⟩ hT37)

