/-- the tape is used up, the wrong byte told -/
def CW (I J : qI) (w : Int) : Prop := (∀ a, a < 3 ∨ (5 ≤ a ∧ a < 69) ∨ 90 ≤ a → J a = I a) ∧ (∀ s, s ≠ 11 → J 3 s = I 3 s) ∧ J 3 11 = w ∧ J 4 = fun s => if s = 1 then 0 else I 4 s
theorem s_10_setOut {d : Nat} {P : Option qV → qH → Prop} {X : Nat → qH → Prop} {I : qI} {H : qS} (hd : 1 ≤ d) {a9 b9 : Int} (h : ∀ J : qI, J 76 4 = a9 → J 76 5 = b9 → (∀ s, s ≠ 4 → s ≠ 5 → J 76 s = I 76 s) → (∀ a, a ≠ 76 → J a = I a) → P none (J, H)) :
    Call d 112 [vr (some 76) 8, vi a9, vi b9] (I, H) P X := by
  obtain ⟨d, rfl⟩ : ∃ e, d = e + 1 := ⟨d - 1, by omega⟩
  show WP (Call d) 112 P X (0, [some (vr (some 76) 8), some (vi a9), some (vi b9)], [], (I, H), 0, 0)
  refine WP.go 7 (And.intro (And.intro rfl trivial) (And.intro (And.intro rfl trivial) (And.intro (And.intro (Nat.le_of_ble_eq_true rfl) (Nat.le_of_ble_eq_true rfl)) (?_))))
  show P none ((upI (upI I 76 4 a9) 76 5 b9), H)
  exact h _ ((upI_at (.inr (by omega))).trans (upI_same _ _ _ _)) (upI_same _ _ _ _) (fun s q1 q2 => (upI_at (.inr q2)).trans (upI_at (.inr q1))) (fun a q => (upI_cell q).trans (upI_cell q))

theorem s_10_place {d : Nat} {P : Option qV → qH → Prop} {X : Nat → qH → Prop} {I : qI} {H : qS} (hd : 1 ≤ d) (h : P (some (vi (I 76 4))) (I, H)) :
    Call d 113 [vr (some 76) 8] (I, H) P X := by
  obtain ⟨d, rfl⟩ : ∃ e, d = e + 1 := ⟨d - 1, by omega⟩
  show WP (Call d) 113 P X (0, [some (vr (some 76) 8)], [], (I, H), 0, 0)
  refine WP.go 3 (And.intro rfl (And.intro (And.intro (Nat.le_of_ble_eq_true rfl) (Nat.le_of_ble_eq_true rfl)) (And.intro trivial (?_))))
  show P (some (vi (I 76 4))) (I, H)
  exact fin_i (by first | rfl | omega | exact zero_bz (by omega) | exact one_bz (by omega)) h

theorem s_11_needRightText {d : Nat} {P : Option qV → qH → Prop} {X : Nat → qH → Prop} {I : qI} {H : qS} (hd : 1 ≤ d) (h : I 3 11 = -1 → P none (I, H)) (hx0 : ¬ I 3 11 = -1 → X 0 (I, H)) :
    Call d 173 [vr (some 3) 9] (I, H) P X := by
  obtain ⟨d, rfl⟩ : ∃ e, d = e + 1 := ⟨d - 1, by omega⟩
  show WP (Call d) 173 P X (0, [some (vr (some 3) 9)], [], (I, H), 0, 0)
  refine WP.go 4 (And.intro rfl (And.intro (fun (b3 : I 3 11 = (-1)) => ?_) (fun (b3 : ¬ I 3 11 = (-1)) => ?_)))
  ·
    show WP (Call d) 173 P X (8, [some (vr (some 3) 9)], [], (I, H), 0, 0)
    refine WP.go 1 (And.intro (And.intro (Nat.le_of_ble_eq_true rfl) (Nat.le_of_ble_eq_true rfl)) (?_))
    show P none (I, H)
    exact h b3
  ·
    show WP (Call d) 173 P X (4, [some (vr (some 3) 9)], [], (I, H), 0, 0)
    refine WP.go 1 (And.intro (And.intro (Nat.le_of_ble_eq_true rfl) (Nat.le_of_ble_eq_true rfl)) (?_))
    show X 0 (I, H)
    exact hx0 (by omega)

theorem s_11_walk {d : Nat} {P : Option qV → qH → Prop} {X : Nat → qH → Prop} {I : qI} {H : qS} {μ : Int → Int} (hd : 43 ≤ d) {n c y : Int} (hS : Shp H) (hX : SX I) (hT : TR 6 I μ) (hV : IM μ) (hsz : I 4 1 = n) (hnn : 0 ≤ n ∧ n ≤ 400) (hby : ∀ j, 0 ≤ j → j < n → 0 ≤ I 5 j ∧ I 5 j ≤ 255) (hy1 : ¬ ((0 ≤ c ∧ c < 81) ∧ (0 ≤ y ∧ y < 100)) → ∀ J : qI, CW I J (I 3 11) → X 1 (J, H)) (hy0 : ((0 ≤ c ∧ c < 81) ∧ (0 ≤ y ∧ y < 100)) → ¬ (lnT (I 5) n (wln (I 5) n (AN μ y)) c).1 = -1 → ∀ J : qI, CW I J (lnT (I 5) n (wln (I 5) n (AN μ y)) c).1 → X 0 (J, H)) (h : ((0 ≤ c ∧ c < 81) ∧ (0 ≤ y ∧ y < 100)) → (lnT (I 5) n (wln (I 5) n (AN μ y)) c).1 = -1 → ∀ J : qI, CW I J (-1) → P (some (vi (lnT (I 5) n (wln (I 5) n (AN μ y)) c).2)) (J, H)) :
    Call d 141 [vr (some 3) 9, vi c, vi y] (I, H) P X := by
  obtain ⟨d, rfl⟩ : ∃ e, d = e + 1 := ⟨d - 1, by omega⟩
  show WP (Call d) 141 P X (0, [some (vr (some 3) 9), some (vi c), some (vi y)], [], (I, H), 0, 0)
  refine WP.go 5 (And.intro rfl (Exists.intro 76 (And.intro hS.r3_3 (And.intro rfl (Exists.intro 4 (And.intro hS.r3_0 (And.intro (And.intro (Nat.le_of_ble_eq_true rfl) (Nat.le_of_ble_eq_true rfl)) (And.intro rfl (?_)))))))))
  show Call d 70 [vr (some 76) 8, vr (some 4) 5] (I, H) _ _
  refine s_7_takeFrom_T76 (by omega) hS hsz hnn hby (fun J4 e4 f4 g4 k4 => ?_)
  show WP (Call d) 141 P X (5, [some (vr (some 3) 9), some (vi c), some (vi y)], [], (J4, H), 0, 0)
  have hX_1 : SX J4 := hX.fr (f4 0 (by omega) (by omega) (by omega) (by omega)) (f4 1 (by omega) (by omega) (by omega) (by omega))
  have hT_2 : TR 6 J4 μ := hT.fr (fun a q1 q2 => f4 a (by omega) (by omega) (by omega) (by omega))
  have hK_3 : TOK J4 76 (I 5) n := e4
  have hcw4 : CW I J4 (I 3 11) := ⟨fun a q => f4 a (by omega) (by omega) (by omega) (by omega), fun s _ => by rw [f4 3 (by omega) (by omega) (by omega) (by omega)], by rw [f4 3 (by omega) (by omega) (by omega) (by omega)], g4⟩
  refine WP.go 2 (And.intro (And.intro (Nat.le_of_ble_eq_true rfl) (Nat.le_of_ble_eq_true rfl)) (And.intro rfl (?_)))
  show Call d 164 [vi c] (J4, H) _ _
  refine s_11_needCell (by omega)  (fun q6 => ?_) (fun q9 => hy1 (by omega) _ hcw4)
  show WP (Call d) 141 P X (7, [some (vr (some 3) 9), some (vi c), some (vi y)], [], (J4, H), 1, 6)
  refine WP.go 2 (And.intro (And.intro (Nat.le_of_ble_eq_true rfl) (Nat.le_of_ble_eq_true rfl)) (And.intro rfl (?_)))
  show Call d 165 [vi y] (J4, H) _ _
  refine s_11_needYear (by omega)  (fun q8 => ?_) (fun q9 => hy1 (by omega) _ hcw4)
  show WP (Call d) 141 P X (9, [some (vr (some 3) 9), some (vi c), some (vi y)], [], (J4, H), 2, 12)
  refine WP.go 3 (And.intro rfl (Exists.intro 79 (And.intro hS.r3_7 (And.intro (And.intro (Nat.le_of_ble_eq_true rfl) (Nat.le_of_ble_eq_true rfl)) (And.intro rfl (?_))))))
  show Call d 1 [vr (some 79) 0] (J4, H) _ _
  refine s_0_open (by omega) hS hX_1 hT_2 hV (fun J11 e11 f11 => ?_)
  show WP (Call d) 141 P X (12, [some (vr (some 3) 9), some (vi c), some (vi y)], [], (J11, H), 2, 12)
  have hX_4 : SX J11 := SX.fr hX_1 (f11 0 (by omega) (by omega)) (f11 1 (by omega) (by omega))
  have hT_5 : TR 6 J11 μ := hT_2.fr (fun a q1 q2 => f11 a (by omega) (by omega))
  have hA_6 : AB (J11 80) (J11 81) := e11.ab hV
  have hK_7 : TOK J11 76 (I 5) n := hK_3.fr (by rw [f11 76 (by omega) (by omega)]) (f11 77 (by omega) (by omega)) (f11 78 (by omega) (by omega))
  refine WP.go 7 (And.intro rfl (Exists.intro 76 (And.intro hS.r3_3 (And.intro rfl (Exists.intro 79 (And.intro hS.r3_7 (And.intro (And.intro (Nat.le_of_ble_eq_true rfl) (Nat.le_of_ble_eq_true rfl)) (And.intro rfl (?_)))))))))
  show Call d 4 [vr (some 79) 0, vi y] (J11, H) _ _
  refine s_0_angleIn (by omega) hS (by omega) ?_
  show WP (Call d) 141 P X (19, [some (vr (some 3) 9), some (vi c), some (vi y)], [vi (J11 80 y), vi c, vr (some 76) 8], (J11, H), 2, 12)
  refine WP.go 1 (And.intro (And.intro (Nat.le_of_ble_eq_true rfl) (Nat.le_of_ble_eq_true rfl)) (And.intro rfl (?_)))
  show Call d 112 [vr (some 76) 8, vi c, vi (J11 80 y)] (J11, H) _ _
  refine s_10_setOut (by omega)  (fun J19 e19 f19 g19 k19 => ?_)
  show WP (Call d) 141 P X (20, [some (vr (some 3) 9), some (vi c), some (vi y)], [], (J19, H), 2, 12)
  have hK_8 : TOK J19 76 (I 5) n := hK_7.fr (g19 2 (by omega) (by omega)) (k19 77 (by omega)) (k19 78 (by omega))
  have hX_9 : SX J19 := hX_4.fr (k19 0 (by omega)) (k19 1 (by omega))
  have eA : J11 80 y = AN μ y := e11.a y (by omega) (by omega)
  refine WP.go 4 (And.intro rfl (Exists.intro 76 (And.intro hS.r3_3 (And.intro (And.intro (Nat.le_of_ble_eq_true rfl) (Nat.le_of_ble_eq_true rfl)) (And.intro rfl (?_))))))
  show Call d 78 [vr (some 76) 8] (J19, H) _ _
  refine s_7_wrongIn_T76 (by omega) hS hX_9 hK_8 e19 f19 (.inr (by omega)) (hA_6.1 y (by omega) (by omega)) (fun J23 e23 f23 g23 => ?_)
  show WP (Call d) 141 P X (24, [some (vr (some 3) 9), some (vi c), some (vi y)], [vi ((lnT (I 5) n (wln (I 5) n (J11 80 y)) c).1), vr (some 3) 9], (J23, H), 2, 12)
  have hcw : ∀ w, CW I (upI J23 3 11 w) w := fun w => ⟨fun a q => by rw [upI_cell (by omega), g23 a (by omega), k19 a (by omega), f11 a (by omega) (by omega), f4 a (by omega) (by omega) (by omega) (by omega)], fun s q => by rw [upI_at (.inr q), g23 3 (by omega), k19 3 (by omega), f11 3 (by omega) (by omega), f4 3 (by omega) (by omega) (by omega) (by omega)], upI_same _ _ _ _, by rw [upI_cell (by omega), g23 4 (by omega), k19 4 (by omega), f11 4 (by omega) (by omega)]; exact g4⟩
  refine WP.go 3 (And.intro (And.intro rfl trivial) (And.intro (And.intro (Nat.le_of_ble_eq_true rfl) (Nat.le_of_ble_eq_true rfl)) (And.intro rfl (?_))))
  show Call d 173 [vr (some 3) 9] ((upI J23 3 11 ((lnT (I 5) n (wln (I 5) n (J11 80 y)) c).1)), H) _ _
  refine s_11_needRightText (by omega)  (fun q26 => ?_) (fun q9 => hy0 (by omega) (fun z => q9 (by rw [upI_same, eA]; exact z)) _ (by rw [eA]; exact hcw _))
  show WP (Call d) 141 P X (27, [some (vr (some 3) 9), some (vi c), some (vi y)], [], ((upI J23 3 11 ((lnT (I 5) n (wln (I 5) n (J11 80 y)) c).1)), H), 3, 18)
  refine WP.go 3 (And.intro rfl (Exists.intro 76 (And.intro hS.r3_3 (And.intro (And.intro (Nat.le_of_ble_eq_true rfl) (Nat.le_of_ble_eq_true rfl)) (And.intro rfl (?_))))))
  show Call d 113 [vr (some 76) 8] ((upI J23 3 11 ((lnT (I 5) n (wln (I 5) n (J11 80 y)) c).1)), H) _ _
  refine s_10_place (by omega)  ?_
  show WP (Call d) 141 P X (30, [some (vr (some 3) 9), some (vi c), some (vi y)], [vi ((upI J23 3 11 ((lnT (I 5) n (wln (I 5) n (J11 80 y)) c).1)) 76 4)], ((upI J23 3 11 ((lnT (I 5) n (wln (I 5) n (J11 80 y)) c).1)), H), 3, 18)
  refine WP.go 1 (And.intro (And.intro (Nat.le_of_ble_eq_true rfl) (Nat.le_of_ble_eq_true rfl)) (And.intro trivial (?_)))
  show P (some (vi ((upI J23 3 11 ((lnT (I 5) n (wln (I 5) n (J11 80 y)) c).1)) 76 4))) ((upI J23 3 11 ((lnT (I 5) n (wln (I 5) n (J11 80 y)) c).1)), H)
  have q27 : (lnT (I 5) n (wln (I 5) n (J11 80 y)) c).1 = -1 := by have w := q26; rw [upI_same] at w; exact w
  rw [eA] at q27
  exact fin_i (by rw [upI_cell (by omega), e23, eA]) (h (by omega) q27 _ (by have w := hcw (lnT (I 5) n (wln (I 5) n (J11 80 y)) c).1; rw [eA, q27] at w; rw [eA, q27]; exact w))

