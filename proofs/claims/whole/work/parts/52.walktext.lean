/-- lines of a text: what a line makes of a state; the first wrong byte, or -1 -/
noncomputable def lnL {σ : Type} (tb : Int → Int) (n : Int) (ln : Int → σ → Int × σ × Int) : Nat → Int → σ → Int × σ
  | 0, p, c => (p, c)
  | k + 1, p, c => if (ln p c).1 ≠ -1 then ((ln p c).1, (ln p c).2.1) else if th tb n (ln p c).2.2 = 3000 then (-1, (ln p c).2.1) else if th tb n (ln p c).2.2 = 2059 then lnL tb n ln k (nx tb n (ln p c).2.2) (ln p c).2.1 else ((ln p c).2.2, (ln p c).2.1)
noncomputable def lnT {σ : Type} (tb : Int → Int) (n : Int) (ln : Int → σ → Int × σ × Int) (c : σ) : Int × σ := if th tb n (sk tb n 0) = 3000 then (-1, c) else lnL tb n ln 12 (sk tb n 0) c
theorem lnL_s {σ : Type} {tb : Int → Int} {n : Int} {ln : Int → σ → Int × σ × Int} {i p : Int} {c : σ} (h : i < 12) : lnL tb n ln (12 - i).toNat p c = if (ln p c).1 ≠ -1 then ((ln p c).1, (ln p c).2.1) else if th tb n (ln p c).2.2 = 3000 then (-1, (ln p c).2.1) else if th tb n (ln p c).2.2 = 2059 then lnL tb n ln (12 - (i + 1)).toNat (nx tb n (ln p c).2.2) (ln p c).2.1 else ((ln p c).2.2, (ln p c).2.1) := by
  rw [show (12 - i).toNat = (12 - (i + 1)).toNat + 1 by omega]; rfl
/-- a line of a walk -/
noncomputable def wln (tb : Int → Int) (n ang p c : Int) : Int × Int × Int :=
  if th tb n p ≠ 1024 then (p, c, p) else if ¬ (0 ≤ th tb n (nx tb n p) ∧ th tb n (nx tb n p) ≤ 99) then (nx tb n p, c, p) else if ¬ (1025 ≤ th tb n (nx tb n (nx tb n p)) ∧ th tb n (nx tb n (nx tb n p)) ≤ 1028) then (nx tb n (nx tb n p), c, p) else (-1, (if c = -1 then -1 else coff c (dirOf (24 * (th tb n (nx tb n (nx tb n p)) - 1025)) ang) (th tb n (nx tb n p))), nx tb n (nx tb n (nx tb n p)))
theorem wln_1 {tb : Int → Int} {n ang p c : Int} (h : th tb n p ≠ 1024) : wln tb n ang p c = (p, c, p) := if_pos h
theorem wln_2 {tb : Int → Int} {n ang p c : Int} (h : th tb n p = 1024) (h2 : ¬ (0 ≤ th tb n (nx tb n p) ∧ th tb n (nx tb n p) ≤ 99)) : wln tb n ang p c = (nx tb n p, c, p) := (if_neg (fun q => q h)).trans (if_pos h2)
theorem wln_3 {tb : Int → Int} {n ang p c : Int} (h : th tb n p = 1024) (h2 : 0 ≤ th tb n (nx tb n p) ∧ th tb n (nx tb n p) ≤ 99) (h3 : ¬ (1025 ≤ th tb n (nx tb n (nx tb n p)) ∧ th tb n (nx tb n (nx tb n p)) ≤ 1028)) : wln tb n ang p c = (nx tb n (nx tb n p), c, p) := (if_neg (fun q => q h)).trans ((if_neg (fun q => q h2)).trans (if_pos h3))
theorem wln_4 {tb : Int → Int} {n ang p c : Int} (h : th tb n p = 1024) (h2 : 0 ≤ th tb n (nx tb n p) ∧ th tb n (nx tb n p) ≤ 99) (h3 : 1025 ≤ th tb n (nx tb n (nx tb n p)) ∧ th tb n (nx tb n (nx tb n p)) ≤ 1028) : wln tb n ang p c = (-1, (if c = -1 then -1 else coff c (dirOf (24 * (th tb n (nx tb n (nx tb n p)) - 1025)) ang) (th tb n (nx tb n p))), nx tb n (nx tb n (nx tb n p))) := (if_neg (fun q => q h)).trans ((if_neg (fun q => q h2)).trans (if_neg (fun q => q h3)))
theorem upI_id (I : qI) (a : Nat) (k : Int) : upI I a k (I a k + 0) = I := funext fun b => funext fun j => by
  unfold upI
  by_cases h : b = a ∧ j = k
  · rw [if_pos h, h.1, h.2]; omega
  · rw [if_neg h]
theorem s_skip_T69 {d : Nat} {P : Option qV → qH → Prop} {X : Nat → qH → Prop} {I : qI} {H : qS} {tb : Int → Int} {n p : Int} {t9 : Int} (hd : 1 ≤ d) (hS : Shp H) (hK : TOK I 69 tb n) (hat : ATP I 69 p) (ht : t9 ≠ 3000) (h : (th tb n p = t9 → ∀ J : qI, (∀ s, s ≠ 3 → J 69 s = I 69 s) → (∀ a, a ≠ 69 → J a = I a) → ATP J 69 (nx tb n p) → P (some (vi 1)) (J, H)) ∧ (¬ th tb n p = t9 → P (some (vi 0)) (I, H))) : Call d 81 [vr (some 69) 7, vi t9] (I, H) P X := s_7_skip_T69 hd hS hK hat ht ⟨h.1, fun q J e => by rw [e, upI_id]; exact h.2 q⟩
theorem s_skip_T72 {d : Nat} {P : Option qV → qH → Prop} {X : Nat → qH → Prop} {I : qI} {H : qS} {tb : Int → Int} {n p : Int} {t9 : Int} (hd : 1 ≤ d) (hS : Shp H) (hK : TOK I 72 tb n) (hat : ATP I 72 p) (ht : t9 ≠ 3000) (h : (th tb n p = t9 → ∀ J : qI, (∀ s, s ≠ 3 → J 72 s = I 72 s) → (∀ a, a ≠ 72 → J a = I a) → ATP J 72 (nx tb n p) → P (some (vi 1)) (J, H)) ∧ (¬ th tb n p = t9 → P (some (vi 0)) (I, H))) : Call d 81 [vr (some 72) 3, vi t9] (I, H) P X := s_7_skip_T72 hd hS hK hat ht ⟨h.1, fun q J e => by rw [e, upI_id]; exact h.2 q⟩
theorem s_skip_T76 {d : Nat} {P : Option qV → qH → Prop} {X : Nat → qH → Prop} {I : qI} {H : qS} {tb : Int → Int} {n p : Int} {t9 : Int} (hd : 1 ≤ d) (hS : Shp H) (hK : TOK I 76 tb n) (hat : ATP I 76 p) (ht : t9 ≠ 3000) (h : (th tb n p = t9 → ∀ J : qI, (∀ s, s ≠ 3 → J 76 s = I 76 s) → (∀ a, a ≠ 76 → J a = I a) → ATP J 76 (nx tb n p) → P (some (vi 1)) (J, H)) ∧ (¬ th tb n p = t9 → P (some (vi 0)) (I, H))) : Call d 81 [vr (some 76) 8, vi t9] (I, H) P X := s_7_skip_T76 hd hS hK hat ht ⟨h.1, fun q J e => by rw [e, upI_id]; exact h.2 q⟩
theorem s_10_readLine {d : Nat} {P : Option qV → qH → Prop} {X : Nat → qH → Prop} {I : qI} {H : qS} (hd : 3 ≤ d) {tb : Int → Int} {n p c ang : Int} (hS : Shp H) (hX : SX I) (hK : TOK I 76 tb n) (hat : ATP I 76 p) (h4 : I 76 4 = c) (h5 : I 76 5 = ang) (hcc : c = -1 ∨ (0 ≤ c ∧ c < 81)) (han : 0 ≤ ang ∧ ang < 96) (h : ((wln tb n ang p c).1 ≠ -1 → ∀ J : qI, ATP J 76 (wln tb n ang p c).1 → J 76 4 = (wln tb n ang p c).2.1 → (∀ s, s ≠ 3 → s ≠ 4 → J 76 s = I 76 s) → (∀ a, a ≠ 76 → J a = I a) → P (some (vi 0)) (J, H)) ∧ ((wln tb n ang p c).1 = -1 → ∀ J : qI, ATP J 76 (wln tb n ang p c).2.2 → J 76 4 = (wln tb n ang p c).2.1 → (∀ s, s ≠ 3 → s ≠ 4 → J 76 s = I 76 s) → (∀ a, a ≠ 76 → J a = I a) → P (some (vi 1)) (J, H))) :
    Call d 114 [vr (some 76) 8] (I, H) P X := by
  obtain ⟨d, rfl⟩ : ∃ e, d = e + 1 := ⟨d - 1, by omega⟩
  have hpb := (hK.at hat).2
  show WP (Call d) 114 P X (0, [some (vr (some 76) 8), none, none, none], [], (I, H), 0, 0)
  refine WP.go 3 (And.intro (And.intro (Nat.le_of_ble_eq_true rfl) (Nat.le_of_ble_eq_true rfl)) (And.intro rfl (?_)))
  show Call d 81 [vr (some 76) 8, vi 1024] (I, H) _ _
  refine s_skip_T76 (by omega) hS hK hat (by omega) ⟨(fun q2 J2 e2 f2 g2 => ?_), (fun q2_1 => ?_)⟩
  ·
    show WP (Call d) 114 P X (3, [some (vr (some 76) 8), none, none, none], [vi 1], (J2, H), 0, 0)
    have hK_1 : TOK J2 76 tb n := hK.fr (e2 2 (by omega)) (f2 77 (by omega)) (f2 78 (by omega))
    have hat_2 : ATP J2 76 (nx tb n p) := g2
    refine WP.go 1 (And.intro (fun (b3 : ¬ 1 = 0) => ?_) (fun (b3 : 1 = 0) => (absurd b3 (by omega))))
    show WP (Call d) 114 P X (6, [some (vr (some 76) 8), none, none, none], [], (J2, H), 0, 0)
    refine WP.go 4 (And.intro (And.intro (Nat.le_of_ble_eq_true rfl) (Nat.le_of_ble_eq_true rfl)) (And.intro rfl (?_)))
    show Call d 82 [vr (some 76) 8, vi 0, vi 99] (J2, H) _ _
    refine s_7_take_T76 (by omega) hS hK_1 hat_2 (by omega) ⟨(fun q9 J9 e9 f9 g9 => ?_), (fun q9_1 => ?_)⟩
    ·
      show WP (Call d) 114 P X (10, [some (vr (some 76) 8), none, none, none], [vi (th tb n (nx tb n p))], (J9, H), 0, 0)
      have hK_3 : TOK J9 76 tb n := hK_1.fr (e9 2 (by omega)) (f9 77 (by omega)) (f9 78 (by omega))
      have hat_4 : ATP J9 76 (nx tb n (nx tb n p)) := g9
      refine WP.go 4 (And.intro (fun (b13 : ¬ th tb n (nx tb n p) = (-1)) => ?_) (fun (b13 : th tb n (nx tb n p) = (-1)) => (absurd b13 (by omega))))
      show WP (Call d) 114 P X (16, [some (vr (some 76) 8), some (vi (th tb n (nx tb n p))), none, none], [], (J9, H), 0, 0)
      refine WP.go 4 (And.intro (And.intro (Nat.le_of_ble_eq_true rfl) (Nat.le_of_ble_eq_true rfl)) (And.intro rfl (?_)))
      show Call d 82 [vr (some 76) 8, vi 1025, vi 1028] (J9, H) _ _
      refine s_7_take_T76 (by omega) hS hK_3 hat_4 (by omega) ⟨(fun q19 J19 e19 f19 g19 => ?_), (fun q19_1 => ?_)⟩
      ·
        show WP (Call d) 114 P X (20, [some (vr (some 76) 8), some (vi (th tb n (nx tb n p))), none, none], [vi (th tb n (nx tb n (nx tb n p)))], (J19, H), 0, 0)
        have hK_5 : TOK J19 76 tb n := hK_3.fr (e19 2 (by omega)) (f19 77 (by omega)) (f19 78 (by omega))
        have hat_6 : ATP J19 76 (nx tb n (nx tb n (nx tb n p))) := g19
        refine WP.go 4 (And.intro (fun (b23 : ¬ th tb n (nx tb n (nx tb n p)) = (-1)) => ?_) (fun (b23 : th tb n (nx tb n (nx tb n p)) = (-1)) => (absurd b23 (by omega))))
        show WP (Call d) 114 P X (26, [some (vr (some 76) 8), some (vi (th tb n (nx tb n p))), some (vi (th tb n (nx tb n (nx tb n p)))), none], [], (J19, H), 0, 0)
        refine WP.go 1 ?_
        show WP (Call d) 114 P X (27, [some (vr (some 76) 8), some (vi (th tb n (nx tb n p))), some (vi (th tb n (nx tb n (nx tb n p)))), none], [vr (some 76) 8], (J19, H), 0, 0)
        have hx9 : SX J19 := hX.fr (by rw [f19 0 (by omega), f9 0 (by omega), f2 0 (by omega)]) (by rw [f19 1 (by omega), f9 1 (by omega), f2 1 (by omega)])
        have h49 : J19 76 4 = c := by rw [e19 4 (by omega), e9 4 (by omega), e2 4 (by omega), h4]
        have h59 : J19 76 5 = ang := by rw [e19 5 (by omega), e9 5 (by omega), e2 5 (by omega), h5]
        have r9 := wln_4 (ang := ang) (c := c) q2 q9 q19
        refine WP.go 1 (And.intro rfl (?_))
        refine rw_i (Q := fun x9 => WP (Call d) 114 P X (28, [some (vr (some 76) 8), some (vi (th tb n (nx tb n p))), some (vi (th tb n (nx tb n (nx tb n p)))), none], [vi x9], (J19, H), 0, 0)) h49 ?_
        show WP (Call d) 114 P X (28, [some (vr (some 76) 8), some (vi (th tb n (nx tb n p))), some (vi (th tb n (nx tb n (nx tb n p)))), none], [vi c], (J19, H), 0, 0)
        refine WP.go 2 (And.intro (fun (b29 : c = (-1)) => ?_) (fun (b29 : ¬ c = (-1)) => ?_))
        ·
          show WP (Call d) 114 P X (48, [some (vr (some 76) 8), some (vi (th tb n (nx tb n p))), some (vi (th tb n (nx tb n (nx tb n p)))), none], [], (J19, H), 0, 0)
          refine WP.go 2 (And.intro (And.intro (Nat.le_of_ble_eq_true rfl) (Nat.le_of_ble_eq_true rfl)) (And.intro (Or.inr rfl) (?_)))
          show P (some (vi 1)) (J19, H)
          exact h.2 (by rw [r9]) _ (by rw [r9]; exact hat_6) (by rw [r9, if_pos b29]; exact h49.trans b29) (fun s w1 _ => by rw [e19 s w1, e9 s w1, e2 s w1]) (fun a w => by rw [f19 a w, f9 a w, f2 a w])
        ·
          show WP (Call d) 114 P X (30, [some (vr (some 76) 8), some (vi (th tb n (nx tb n p))), some (vi (th tb n (nx tb n (nx tb n p)))), none], [], (J19, H), 0, 0)
          refine WP.go 11 (Exists.intro ((th tb n (nx tb n (nx tb n p))) - 1025) (And.intro (wrp_a (by omega) (by omega)) (Exists.intro (((th tb n (nx tb n (nx tb n p))) - 1025) * 96) (And.intro (wrp_a (by omega) (by omega)) (Exists.intro ((((th tb n (nx tb n (nx tb n p))) - 1025) * 96) / 4) (And.intro (tdiv_a (by omega) (by omega) (by omega)) (And.intro rfl (?_))))))))
          refine rw_i (Q := fun x9 => WP (Call d) 114 P X (41, [some (vr (some 76) 8), some (vi (th tb n (nx tb n p))), some (vi (th tb n (nx tb n (nx tb n p)))), some (vi ((((th tb n (nx tb n (nx tb n p))) - 1025) * 96) / 4))], [vi x9, vr (some 76) 8], (J19, H), 0, 0)) h49 ?_
          show WP (Call d) 114 P X (41, [some (vr (some 76) 8), some (vi (th tb n (nx tb n p))), some (vi (th tb n (nx tb n (nx tb n p)))), some (vi ((((th tb n (nx tb n (nx tb n p))) - 1025) * 96) / 4))], [vi c, vr (some 76) 8], (J19, H), 0, 0)
          refine WP.go 3 (And.intro rfl (?_))
          refine rw_i (Q := fun x9 => WP (Call d) 114 P X (44, [some (vr (some 76) 8), some (vi (th tb n (nx tb n p))), some (vi (th tb n (nx tb n (nx tb n p)))), some (vi ((((th tb n (nx tb n (nx tb n p))) - 1025) * 96) / 4))], [vi x9, vi ((((th tb n (nx tb n (nx tb n p))) - 1025) * 96) / 4), vi c, vr (some 76) 8], (J19, H), 0, 0)) h59 ?_
          show WP (Call d) 114 P X (44, [some (vr (some 76) 8), some (vi (th tb n (nx tb n p))), some (vi (th tb n (nx tb n (nx tb n p)))), some (vi ((((th tb n (nx tb n (nx tb n p))) - 1025) * 96) / 4))], [vi ang, vi ((((th tb n (nx tb n (nx tb n p))) - 1025) * 96) / 4), vi c, vr (some 76) 8], (J19, H), 0, 0)
          refine WP.go 1 (And.intro (And.intro (Nat.le_of_ble_eq_true rfl) (Nat.le_of_ble_eq_true rfl)) (And.intro rfl (?_)))
          show Call d 51 [vi ((((th tb n (nx tb n (nx tb n p))) - 1025) * 96) / 4), vi ang] (J19, H) _ _
          refine s_4_directionOf (by omega) (by omega) (by omega) ?_
          show WP (Call d) 114 P X (45, [some (vr (some 76) 8), some (vi (th tb n (nx tb n p))), some (vi (th tb n (nx tb n (nx tb n p)))), some (vi ((((th tb n (nx tb n (nx tb n p))) - 1025) * 96) / 4))], [vi (dirOf ((((th tb n (nx tb n (nx tb n p))) - 1025) * 96) / 4) ang), vi c, vr (some 76) 8], (J19, H), 0, 0)
          have d9 := dirOf_bd ((th tb n (nx tb n (nx tb n p)) - 1025) * 96 / 4) ang
          refine WP.go 2 (And.intro (And.intro (Nat.le_of_ble_eq_true rfl) (Nat.le_of_ble_eq_true rfl)) (And.intro rfl (?_)))
          show Call d 53 [vi c, vi (dirOf ((((th tb n (nx tb n (nx tb n p))) - 1025) * 96) / 4) ang), vi (th tb n (nx tb n p))] (J19, H) _ _
          refine s_4_cellOff (by omega) hS hx9 (by omega) (by omega) (by omega) ?_
          show WP (Call d) 114 P X (47, [some (vr (some 76) 8), some (vi (th tb n (nx tb n p))), some (vi (th tb n (nx tb n (nx tb n p)))), some (vi ((((th tb n (nx tb n (nx tb n p))) - 1025) * 96) / 4))], [vi (coff c (dirOf ((((th tb n (nx tb n (nx tb n p))) - 1025) * 96) / 4) ang) (th tb n (nx tb n p))), vr (some 76) 8], (J19, H), 0, 0)
          refine WP.go 3 (And.intro (And.intro rfl trivial) (And.intro (And.intro (Nat.le_of_ble_eq_true rfl) (Nat.le_of_ble_eq_true rfl)) (And.intro (Or.inr rfl) (?_))))
          show P (some (vi 1)) ((upI J19 76 4 (coff c (dirOf ((((th tb n (nx tb n (nx tb n p))) - 1025) * 96) / 4) ang) (th tb n (nx tb n p)))), H)
          refine h.2 (by rw [r9]) _ ?_ ?_ (fun s w1 w2 => by rw [upI_at (.inr w2), e19 s w1, e9 s w1, e2 s w1]) (fun a w => by rw [upI_cell w, f19 a w, f9 a w, f2 a w])
          · rw [r9]
            have w := hat_6
            unfold ATP at *
            rw [upI_at (.inr (by omega)), upI_at (.inr (by omega)), upI_cell (by omega)]
            exact w
          · rw [r9, if_neg b29, upI_same]
            show _ = coff c (dirOf (24 * _) ang) _
            exact congrArg (fun z => coff c (dirOf z ang) _) (by omega)
      ·
        show WP (Call d) 114 P X (20, [some (vr (some 76) 8), some (vi (th tb n (nx tb n p))), none, none], [vi (-1)], (J9, H), 0, 0)
        refine WP.go 4 (And.intro (fun (b23 : ¬ (-1) = (-1)) => (absurd b23 (by omega))) (fun (b23 : (-1) = (-1)) => ?_))
        show WP (Call d) 114 P X (24, [some (vr (some 76) 8), some (vi (th tb n (nx tb n p))), some (vi (-1)), none], [], (J9, H), 0, 0)
        refine WP.go 2 (And.intro (And.intro (Nat.le_of_ble_eq_true rfl) (Nat.le_of_ble_eq_true rfl)) (And.intro (Or.inl rfl) (?_)))
        show P (some (vi 0)) (J9, H)
        have b9 := (hK_3.at hat_4).2
        have r9 := wln_3 (ang := ang) (c := c) q2 q9 q19_1
        exact h.1 (by rw [r9]; show nx tb n (nx tb n p) ≠ -1; omega) _ (by rw [r9]; exact hat_4) (by rw [r9, e9 4 (by omega), e2 4 (by omega)]; exact h4) (fun s w1 _ => (e9 s w1).trans (e2 s w1)) (fun a w => (f9 a w).trans (f2 a w))
    ·
      show WP (Call d) 114 P X (10, [some (vr (some 76) 8), none, none, none], [vi (-1)], (J2, H), 0, 0)
      refine WP.go 4 (And.intro (fun (b13 : ¬ (-1) = (-1)) => (absurd b13 (by omega))) (fun (b13 : (-1) = (-1)) => ?_))
      show WP (Call d) 114 P X (14, [some (vr (some 76) 8), some (vi (-1)), none, none], [], (J2, H), 0, 0)
      refine WP.go 2 (And.intro (And.intro (Nat.le_of_ble_eq_true rfl) (Nat.le_of_ble_eq_true rfl)) (And.intro (Or.inl rfl) (?_)))
      show P (some (vi 0)) (J2, H)
      have b9 := (hK_1.at hat_2).2
      have r9 := wln_2 (ang := ang) (c := c) q2 q9_1
      exact h.1 (by rw [r9]; show nx tb n p ≠ -1; omega) _ (by rw [r9]; exact hat_2) (by rw [r9, e2 4 (by omega)]; exact h4) (fun s w1 _ => e2 s w1) f2
  ·
    show WP (Call d) 114 P X (3, [some (vr (some 76) 8), none, none, none], [vi 0], (I, H), 0, 0)
    refine WP.go 1 (And.intro (fun (b3 : ¬ 0 = 0) => (absurd b3 (by omega))) (fun (b3 : 0 = 0) => ?_))
    show WP (Call d) 114 P X (4, [some (vr (some 76) 8), none, none, none], [], (I, H), 0, 0)
    refine WP.go 2 (And.intro (And.intro (Nat.le_of_ble_eq_true rfl) (Nat.le_of_ble_eq_true rfl)) (And.intro (Or.inl rfl) (?_)))
    show P (some (vi 0)) (I, H)
    exact h.1 (by rw [wln_1 q2_1]; show p ≠ -1; omega) _ (by rw [wln_1 q2_1]; exact hat) (by rw [wln_1 q2_1]; exact h4) (fun _ _ _ => rfl) (fun _ _ => rfl)

