/-- the reference's tape is used up, the wrong byte told -/
def MW (I J : qI) (w : Int) : Prop := (∀ a, a < 90 ∨ a = 91 ∨ a = 92 ∨ a = 94 ∨ a = 95 ∨ 100 ≤ a → J a = I a) ∧ (∀ s, s = 3 ∨ s = 17 ∨ (13 ≤ s ∧ s ≤ 15) → J 90 s = I 90 s) ∧ J 90 6 = 0 ∧ J 90 10 = w ∧ MS J
theorem s_12_walk {d : Nat} {P : Option qV → qH → Prop} {X : Nat → qH → Prop} {I : qI} {H : qS} {μ : Int → Int} (hd : 63 ≤ d) {tb : Int → Int} {n c y : Int} (hS : Shp H) (hM : I 91 = μ) (hV : IM μ) (hK : MS I) (h6 : I 90 6 = n) (hnn : 0 ≤ n ∧ n ≤ 400) (hby : ∀ j, 0 ≤ j → j < n → 0 ≤ tb j ∧ tb j ≤ 255) (hta : ∀ j, 0 ≤ j → j < n → I 94 j = tb j) (h : (((0 ≤ c ∧ c < 81) ∧ (0 ≤ y ∧ y < 100)) → (lnT tb n (wln tb n (AN μ y)) c).1 = -1 → ∀ J : qI, MW I J (-1) → J 90 0 = 0 → P (some (vi (lnT tb n (wln tb n (AN μ y)) c).2)) (J, H)) ∧ (((0 ≤ c ∧ c < 81) ∧ (0 ≤ y ∧ y < 100)) → (lnT tb n (wln tb n (AN μ y)) c).1 ≠ -1 → ∀ J : qI, MW I J (lnT tb n (wln tb n (AN μ y)) c).1 → J 90 0 = 2 → P (some (vi 0)) (J, H)) ∧ (¬ ((0 ≤ c ∧ c < 81) ∧ (0 ≤ y ∧ y < 100)) → ∀ J : qI, MW I J (I 90 10) → J 90 0 = 1 → P (some (vi 0)) (J, H))) :
    Call d 245 [vr (some 90) 10, vi c, vi y] (I, H) P X := by
  obtain ⟨d, rfl⟩ : ∃ e, d = e + 1 := ⟨d - 1, by omega⟩
  obtain ⟨tb9, h30⟩ : ∃ tb9, I 90 30 = tb9 := ⟨_, rfl⟩
  obtain ⟨mo, h23⟩ : ∃ mo, I 90 23 = mo := ⟨_, rfl⟩
  have htb : 0 ≤ tb9 ∧ tb9 ≤ 29 := by have := hK.2.2.2; omega
  have hmo : (-1 : Int) = -1 ∨ (0 ≤ mo ∧ mo ≤ 48) := .inl rfl
  have h22 := hK.1
  have h29 := hK.2.1
  have k1 := hK.1
  have k2 := hK.2.1
  show WP (Call d) 245 P X (0, [some (vr (some 90) 10), some (vi c), some (vi y), none], [], (I, H), 0, 0)
  refine WP.go 2 (And.intro rfl (?_))
  refine rw_i (Q := fun x9 => WP (Call d) 245 P X (2, [some (vr (some 90) 10), some (vi c), some (vi y), none], [vi x9], (I, H), 0, 0)) h6 ?_
  show WP (Call d) 245 P X (2, [some (vr (some 90) 10), some (vi c), some (vi y), none], [vi n], (I, H), 0, 0)
  refine WP.go 4 (And.intro (And.intro rfl trivial) (?_))
  show WP (Call d) 245 P X (6, [some (vr (some 90) 10), some (vi c), some (vi y), some (vi n)], [], ((upI I 90 6 0), H), 0, 0)
  generalize hq_A0 : (upI I 90 6 0) = A0
  have e_A0 : A0 90 = (fun j => if j = 6 then 0 else I 90 j) := by rw [← hq_A0]; exact upI_self _ _ _ _
  have f_A0 : ∀ a, a ≠ 90 → A0 a = I a := fun a q => by rw [← hq_A0]; exact upI_cell q
  have a0 : ∀ s, s ≠ 6 → A0 90 s = I 90 s := fun s q => by rw [e_A0]; exact if_neg q
  refine WP.go 3 (And.intro (And.intro (Nat.le_of_ble_eq_true rfl) (Nat.le_of_ble_eq_true rfl)) (And.intro rfl (?_)))
  show Call d 178 [vi c] (A0, H) _ _
  refine s_12_isCell (by omega)  ?_
  show WP (Call d) 245 P X (9, [some (vr (some 90) 10), some (vi c), some (vi y), some (vi n)], [vi (bz (0 ≤ c ∧ c ≤ 80)), vr (some 90) 10], (A0, H), 0, 0)
  refine WP.go 1 (And.intro (fun (b9 : bz (0 ≤ c ∧ c ≤ 80) = 0) => ?_) (fun (b9 : ¬ bz (0 ≤ c ∧ c ≤ 80) = 0) => ?_))
  ·
    show WP (Call d) 245 P X (13, [some (vr (some 90) 10), some (vi c), some (vi y), some (vi n)], [vr (some 90) 10], (A0, H), 0, 0)
    have z9 := bz_e0.mp b9
    refine WP.go 6 (And.intro (And.intro rfl trivial) (And.intro rfl (And.intro (fun (b19 : ¬ 0 < 1) => (absurd b19 (by omega))) (fun (b19 : 0 < 1) => ?_))))
    show WP (Call d) 245 P X (20, [some (vr (some 90) 10), some (vi c), some (vi y), some (vi n)], [], ((upI A0 90 0 1), H), 0, 0)
    refine WP.go 2 (And.intro (And.intro (Nat.le_of_ble_eq_true rfl) (Nat.le_of_ble_eq_true rfl)) (And.intro trivial (?_)))
    show P (some (vi 0)) ((upI A0 90 0 1), H)
    exact h.2.2 (by omega) _ ⟨fun a q => by rw [upI_cell (by omega), f_A0 a (by omega)], fun s q => by rw [upI_at (.inr (by omega)), a0 s (by omega)], by rw [upI_at (.inr (by omega)), e_A0]; rfl, by rw [upI_at (.inr (by omega)), a0 10 (by omega)], by unfold MS at *; rw [upI_at (.inr (by omega)), upI_at (.inr (by omega)), upI_at (.inr (by omega)), upI_at (.inr (by omega)), a0 22 (by omega), a0 23 (by omega), a0 29 (by omega), a0 30 (by omega)]; exact hK⟩ (upI_same _ _ _ _)
  ·
    show WP (Call d) 245 P X (10, [some (vr (some 90) 10), some (vi c), some (vi y), some (vi n)], [vr (some 90) 10], (A0, H), 0, 0)
    have z9 := bz_e1.mp b9
    refine WP.go 2 (And.intro (And.intro (Nat.le_of_ble_eq_true rfl) (Nat.le_of_ble_eq_true rfl)) (And.intro rfl (?_)))
    show Call d 179 [vi y] (A0, H) _ _
    refine s_12_isYear (by omega)  ?_
    show WP (Call d) 245 P X (12, [some (vr (some 90) 10), some (vi c), some (vi y), some (vi n)], [vi (bz (0 ≤ y ∧ y ≤ 99)), vr (some 90) 10], (A0, H), 0, 0)
    refine WP.go 1 (And.intro (fun (b12 : ¬ bz (0 ≤ y ∧ y ≤ 99) = 0) => ?_) (fun (b12 : bz (0 ≤ y ∧ y ≤ 99) = 0) => ?_))
    ·
      show WP (Call d) 245 P X (15, [some (vr (some 90) 10), some (vi c), some (vi y), some (vi n)], [vr (some 90) 10], (A0, H), 0, 0)
      have z12 := bz_e1.mp b12
      refine WP.go 5 (And.intro (And.intro rfl trivial) (And.intro rfl (And.intro (fun (b19 : ¬ 0 < 0) => ?_) (fun (b19 : 0 < 0) => (absurd b19 (by omega))))))
      show WP (Call d) 245 P X (22, [some (vr (some 90) 10), some (vi c), some (vi y), some (vi n)], [], ((upI A0 90 0 0), H), 0, 0)
      generalize hq_J0 : (upI A0 90 0 0) = J0
      have e_J0 : J0 90 = (fun j => if j = 0 then 0 else A0 90 j) := by rw [← hq_J0]; exact upI_self _ _ _ _
      have f_J0 : ∀ a, a ≠ 90 → J0 a = A0 a := fun a q => by rw [← hq_J0]; exact upI_cell q
      have hM_1 : J0 91 = μ := by rw [f_J0 91 (by omega), f_A0 91 (by omega)]; exact hM
      have h_2 : J0 90 22 = -1 := by rw [e_J0]; exact (a0 22 (by omega)).trans h22
      have h_3 : J0 90 23 = mo := by rw [e_J0]; exact (a0 23 (by omega)).trans h23
      have h_4 : J0 90 29 = -1 := by rw [e_J0]; exact (a0 29 (by omega)).trans h29
      have h_5 : J0 90 30 = tb9 := by rw [e_J0]; exact (a0 30 (by omega)).trans h30
      refine WP.go 2 (And.intro (And.intro (Nat.le_of_ble_eq_true rfl) (Nat.le_of_ble_eq_true rfl)) (And.intro rfl (?_)))
      show Call d 210 [vr (some 90) 10] (J0, H) _ _
      refine s_12_turn (by omega) hS hM_1 hV h_2 h_3 hmo (fun J23 e23 f23 => ?_)
      show WP (Call d) 245 P X (24, [some (vr (some 90) 10), some (vi c), some (vi y), some (vi n)], [], (J23, H), 0, 0)
      have hM_6 : J23 91 = μ := (f23 91 (by omega)).trans hM_1
      have h_7 : J23 90 22 = -1 := (congrFun (f23 90 (by omega)) 22).trans h_2
      have h_8 : J23 90 23 = mo := (congrFun (f23 90 (by omega)) 23).trans h_3
      have h_9 : J23 90 29 = -1 := (congrFun (f23 90 (by omega)) 29).trans h_4
      have h_10 : J23 90 30 = tb9 := (congrFun (f23 90 (by omega)) 30).trans h_5
      have hA_11 : ∀ y, 0 ≤ y → y < 100 → 0 ≤ J23 96 y ∧ J23 96 y < 96 := fun y q1 q2 => by rw [e23 y q1 q2]; exact ANG_bd hV _ _ _
      have eA : ∀ y, 0 ≤ y → y < 100 → J23 96 y = AN μ y := fun y q1 q2 => (e23 y q1 q2).trans (ANG_irr (by omega) _ _ _)
      refine WP.go 25 (And.intro (And.intro rfl trivial) (Exists.intro (c % 9) (And.intro (tmod_a (by omega) (by omega)) (And.intro (And.intro rfl trivial) (Exists.intro (c / 9) (And.intro (tdiv_a (by omega) (by omega) (by omega)) (And.intro (And.intro rfl trivial) (And.intro (And.intro rfl (Or.inl rfl)) (And.intro (And.intro rfl trivial) (And.intro (And.intro rfl trivial) (And.intro (And.intro rfl trivial) (?_))))))))))))
      show WP (Call d) 245 P X (49, [some (vr (some 90) 10), some (vi c), some (vi y), some (vi n)], [], ((upI (upI (upI (upI (upI (upI (upI J23 90 18 y) 90 19 (c % 9)) 90 20 (c / 9)) 90 21 0) 90 10 (-1)) 90 7 (-1)) 90 8 n), H), 0, 0)
      generalize hq_J1 : (upI (upI (upI (upI (upI (upI (upI J23 90 18 y) 90 19 (c % 9)) 90 20 (c / 9)) 90 21 0) 90 10 (-1)) 90 7 (-1)) 90 8 n) = J1
      have e_J1 : J1 90 = (fun j => if j = 8 then n else (upI (upI (upI (upI (upI (upI J23 90 18 y) 90 19 (c % 9)) 90 20 (c / 9)) 90 21 0) 90 10 (-1)) 90 7 (-1)) 90 j) := by rw [← hq_J1]; exact upI_self _ _ _ _
      have f_J1 : ∀ a, a ≠ 90 → J1 a = (upI (upI (upI (upI (upI (upI J23 90 18 y) 90 19 (c % 9)) 90 20 (c / 9)) 90 21 0) 90 10 (-1)) 90 7 (-1)) a := fun a q => by rw [← hq_J1]; exact upI_cell q
      have c90 : ∀ s, s ≠ 0 → s ≠ 6 → s ≠ 7 → s ≠ 8 → s ≠ 10 → s ≠ 18 → s ≠ 19 → s ≠ 20 → s ≠ 21 → J1 90 s = I 90 s := fun s q0 q6 q7 q8 q10 q18 q19 q20 q21 => by rw [e_J1]; refine (if_neg q8).trans ?_; rw [upI_at (.inr q7), upI_at (.inr q10), upI_at (.inr q21), upI_at (.inr q20), upI_at (.inr q19), upI_at (.inr q18), f23 90 (by omega), e_J0]; exact (if_neg q0).trans (a0 s q6)
      have ca : ∀ a, a ≠ 90 → J1 a = J23 a := fun a q => by rw [f_J1 a q, upI_cell q, upI_cell q, upI_cell q, upI_cell q, upI_cell q, upI_cell q]
      have cb : ∀ a, a ≠ 90 → a ≠ 96 → J1 a = I a := fun a q w => by rw [ca a q, f23 a w, f_J0 a q, f_A0 a q]
      have hL : LTX J1 tb n := ⟨by rw [e_J1]; rfl, hnn, hby, .inl ⟨by rw [e_J1]; rfl, fun j q0 q1 => by rw [cb 94 (by omega) (by omega)]; exact hta j q0 q1⟩⟩
      have hF : J1 90 10 = -1 := by rw [e_J1]; rfl
      have h96 : J1 96 = J23 96 := ca 96 (by omega)
      have hA1 : ∀ y, 0 ≤ y → y < 100 → 0 ≤ J1 96 y ∧ J1 96 y < 96 := by rw [h96]; exact hA_11
      have j18 : J1 90 18 = y := by rw [e_J1]; rfl
      have j19 : J1 90 19 = c % 9 := by rw [e_J1]; rfl
      have j20 : J1 90 20 = c / 9 := by rw [e_J1]; rfl
      have j21 : J1 90 21 = 0 := by rw [e_J1]; rfl
      have j6 : J1 90 6 = 0 := by rw [e_J1]; show J23 90 6 = 0; rw [f23 90 (by omega), e_J0]; show A0 90 6 = 0; rw [e_A0]; rfl
      have hw0 : WRel J1 c 0 := ⟨by rw [j21]; exact .inl rfl, fun q => by omega, fun _ => by rw [j19, j20, j21]; omega, by rw [j19]; omega, by rw [j20]; omega⟩
      refine WP.go 3 (And.intro (And.intro (Nat.le_of_ble_eq_true rfl) (Nat.le_of_ble_eq_true rfl)) (And.intro rfl (?_)))
      show Call d 196 [vr (some 90) 10, vi 2] (J1, H) _ _
      refine s_12_lines_2 (by omega) hS hL hF hA1 j18 (by omega) hw0 (.inr (by omega)) (fun J51 f51 e51 w51 => ?_)
      show WP (Call d) 245 P X (52, [some (vr (some 90) 10), some (vi c), some (vi y), some (vi n)], [], (J51, H), 0, 0)
      have r51 : J51 90 10 = (lnT tb n (wln tb n (J23 96 y)) c).1 := by have w := e51; rw [h96] at w; exact w
      have w51 : (lnT tb n (wln tb n (J23 96 y)) c).1 = -1 → WRel J51 (lnT tb n (wln tb n (J23 96 y)) c).2 13 := by have w := w51; rw [h96] at w; exact w
      have eR : (lnT tb n (wln tb n (J23 96 y)) c) = (lnT tb n (wln tb n (AN μ y)) c) := by rw [eA y (by omega) (by omega)]
      have mw : ∀ v, MW I (upI J51 90 0 v) (lnT tb n (wln tb n (J23 96 y)) c).1 := fun v => ⟨fun a q => by rw [upI_cell (by omega), f51.2 a (by omega)]; exact cb a (by omega) (by omega), fun s q => by rw [upI_at (.inr (by omega)), f51.1 s (by omega) (by omega) (by omega) (by omega) (by omega) (by omega)]; exact c90 s (by omega) (by omega) (by omega) (by omega) (by omega) (by omega) (by omega) (by omega) (by omega), by rw [upI_at (.inr (by omega)), f51.1 6 (by omega) (by omega) (by omega) (by omega) (by omega) (by omega)]; exact j6, (upI_at (.inr (by omega))).trans r51, by unfold MS at *; rw [upI_at (.inr (by omega)), upI_at (.inr (by omega)), upI_at (.inr (by omega)), upI_at (.inr (by omega)), f51.1 22 (by omega) (by omega) (by omega) (by omega) (by omega) (by omega), f51.1 23 (by omega) (by omega) (by omega) (by omega) (by omega) (by omega), f51.1 29 (by omega) (by omega) (by omega) (by omega) (by omega) (by omega), f51.1 30 (by omega) (by omega) (by omega) (by omega) (by omega) (by omega), c90 22 (by omega) (by omega) (by omega) (by omega) (by omega) (by omega) (by omega) (by omega) (by omega), c90 23 (by omega) (by omega) (by omega) (by omega) (by omega) (by omega) (by omega) (by omega) (by omega), c90 29 (by omega) (by omega) (by omega) (by omega) (by omega) (by omega) (by omega) (by omega) (by omega), c90 30 (by omega) (by omega) (by omega) (by omega) (by omega) (by omega) (by omega) (by omega) (by omega)]; exact hK⟩
      refine WP.go 3 (And.intro rfl (?_))
      refine rw_i (Q := fun x9 => WP (Call d) 245 P X (55, [some (vr (some 90) 10), some (vi c), some (vi y), some (vi n)], [vi x9, vr (some 90) 10], (J51, H), 0, 0)) r51 ?_
      show WP (Call d) 245 P X (55, [some (vr (some 90) 10), some (vi c), some (vi y), some (vi n)], [vi ((lnT tb n (wln tb n (J23 96 y)) c).1), vr (some 90) 10], (J51, H), 0, 0)
      refine WP.go 2 (And.intro (fun (b56 : (lnT tb n (wln tb n (J23 96 y)) c).1 = (-1)) => ?_) (fun (b56 : ¬ (lnT tb n (wln tb n (J23 96 y)) c).1 = (-1)) => ?_))
      ·
        show WP (Call d) 245 P X (59, [some (vr (some 90) 10), some (vi c), some (vi y), some (vi n)], [vr (some 90) 10], (J51, H), 0, 0)
        refine WP.go 5 (And.intro (And.intro rfl trivial) (And.intro rfl (And.intro (fun (b63 : ¬ 0 < 0) => ?_) (fun (b63 : 0 < 0) => (absurd b63 (by omega))))))
        show WP (Call d) 245 P X (66, [some (vr (some 90) 10), some (vi c), some (vi y), some (vi n)], [], ((upI J51 90 0 0), H), 0, 0)
        have ww := w51 b56
        have wb := ww.2.2.2
        refine WP.go 3 (And.intro rfl (And.intro (fun (b68 : J51 90 21 = 0) => ?_) (fun (b68 : ¬ J51 90 21 = 0) => ?_)))
        ·
          show WP (Call d) 245 P X (71, [some (vr (some 90) 10), some (vi c), some (vi y), some (vi n)], [], ((upI J51 90 0 0), H), 0, 0)
          refine WP.go 8 (And.intro rfl (Exists.intro (9 * (J51 90 20)) (And.intro (wrp_a (by omega) (by omega)) (And.intro rfl (Exists.intro ((9 * (J51 90 20)) + (J51 90 19)) (And.intro (wrp_a (by omega) (by omega)) (And.intro (And.intro (Nat.le_of_ble_eq_true rfl) (Nat.le_of_ble_eq_true rfl)) (And.intro trivial (?_)))))))))
          show P (some (vi ((9 * (J51 90 20)) + (J51 90 19)))) ((upI J51 90 0 0), H)
          have hne : (lnT tb n (wln tb n (J23 96 y)) c).2 ≠ -1 := fun q => by have := ww.2.1 q; omega
          have w4 := ww.2.2.1 hne
          exact fin_i (by rw [← eR]; omega) (h.1 (by omega) (by rw [← eR]; exact b56) _ (by have w := mw 0; rw [b56] at w; exact w) (upI_same _ _ _ _))
        ·
          show WP (Call d) 245 P X (69, [some (vr (some 90) 10), some (vi c), some (vi y), some (vi n)], [], ((upI J51 90 0 0), H), 0, 0)
          refine WP.go 3 (And.intro (And.intro (Nat.le_of_ble_eq_true rfl) (Nat.le_of_ble_eq_true rfl)) (And.intro trivial (?_)))
          show P (some (vi (-1))) ((upI J51 90 0 0), H)
          exact fin_i (by rw [← eR]; exact (Classical.byContradiction fun q => b68 (ww.2.2.1 (fun z => q z.symm)).1)) (h.1 (by omega) (by rw [← eR]; exact b56) _ (by have w := mw 0; rw [b56] at w; exact w) (upI_same _ _ _ _))
      ·
        show WP (Call d) 245 P X (57, [some (vr (some 90) 10), some (vi c), some (vi y), some (vi n)], [vr (some 90) 10], (J51, H), 0, 0)
        refine WP.go 6 (And.intro (And.intro rfl trivial) (And.intro rfl (And.intro (fun (b63 : ¬ 0 < 2) => (absurd b63 (by omega))) (fun (b63 : 0 < 2) => ?_))))
        show WP (Call d) 245 P X (64, [some (vr (some 90) 10), some (vi c), some (vi y), some (vi n)], [], ((upI J51 90 0 2), H), 0, 0)
        refine WP.go 2 (And.intro (And.intro (Nat.le_of_ble_eq_true rfl) (Nat.le_of_ble_eq_true rfl)) (And.intro trivial (?_)))
        show P (some (vi 0)) ((upI J51 90 0 2), H)
        exact h.2.1 (by omega) (by rw [← eR]; exact b56) _ (by rw [← eR]; exact mw 2) (upI_same _ _ _ _)
    ·
      show WP (Call d) 245 P X (13, [some (vr (some 90) 10), some (vi c), some (vi y), some (vi n)], [vr (some 90) 10], (A0, H), 0, 0)
      have z12 := bz_e0.mp b12
      refine WP.go 6 (And.intro (And.intro rfl trivial) (And.intro rfl (And.intro (fun (b19 : ¬ 0 < 1) => (absurd b19 (by omega))) (fun (b19 : 0 < 1) => ?_))))
      show WP (Call d) 245 P X (20, [some (vr (some 90) 10), some (vi c), some (vi y), some (vi n)], [], ((upI A0 90 0 1), H), 0, 0)
      refine WP.go 2 (And.intro (And.intro (Nat.le_of_ble_eq_true rfl) (Nat.le_of_ble_eq_true rfl)) (And.intro trivial (?_)))
      show P (some (vi 0)) ((upI A0 90 0 1), H)
      exact h.2.2 (by omega) _ ⟨fun a q => by rw [upI_cell (by omega), f_A0 a (by omega)], fun s q => by rw [upI_at (.inr (by omega)), a0 s (by omega)], by rw [upI_at (.inr (by omega)), e_A0]; rfl, by rw [upI_at (.inr (by omega)), a0 10 (by omega)], by unfold MS at *; rw [upI_at (.inr (by omega)), upI_at (.inr (by omega)), upI_at (.inr (by omega)), upI_at (.inr (by omega)), a0 22 (by omega), a0 23 (by omega), a0 29 (by omega), a0 30 (by omega)]; exact hK⟩ (upI_same _ _ _ _)

