theorem RAT.lt {I : qI} {tb : Int → Int} {n p : Int} (h : RAT I tb n p) (q : th tb n p ≠ 3000) : p < n := by
  have b := h.bd
  rcases Int.lt_or_eq_of_le b.2.1 with z | z
  · exact z
  · rw [z] at q; exact absurd (th_e tb n) q
theorem rat_go {I J : qI} {tb : Int → Int} {n p : Int} (h : RAT I tb n p) (q : th tb n p ≠ 3000) (e : J 90 9 = bhd tb n p) : RAT J tb n (nx tb n p) := RAT.nx h.bd.1 (h.lt q) e
/-- where the reference stands: the cell c, after k lines -/
def WRel (I : qI) (c k : Int) : Prop := (I 90 21 = 0 ∨ I 90 21 = 1) ∧ (c = -1 → I 90 21 = 1) ∧ (c ≠ -1 → I 90 21 = 0 ∧ (0 ≤ I 90 19 ∧ I 90 19 < 9) ∧ (0 ≤ I 90 20 ∧ I 90 20 < 9) ∧ c = 9 * I 90 20 + I 90 19) ∧ (-(8 + 99 * k) ≤ I 90 19 ∧ I 90 19 ≤ 8 + 99 * k) ∧ (-(8 + 99 * k) ≤ I 90 20 ∧ I 90 20 ≤ 8 + 99 * k)
theorem WRel.fr {I J : qI} {c k : Int} (h : WRel I c k) (e19 : J 90 19 = I 90 19) (e20 : J 90 20 = I 90 20) (e21 : J 90 21 = I 90 21) : WRel J c k := by
  unfold WRel at *
  rw [e19, e20, e21]
  exact h
theorem RAT.cp {I J : qI} {tb : Int → Int} {n p : Int} (h : RAT I tb n p) (e : J 90 9 = I 90 9) : RAT J tb n p := by
  unfold RAT at *
  rw [e]
  exact h
def FW (I J : qI) : Prop := (∀ s, s ≠ 9 → s ≠ 10 → s ≠ 19 → s ≠ 20 → s ≠ 21 → J 90 s = I 90 s) ∧ (∀ a, a ≠ 90 → J a = I a)
theorem FW.rf (I : qI) : FW I I := ⟨fun _ _ _ _ _ _ => rfl, fun _ _ => rfl⟩
theorem FW.tr {I J K : qI} (h : FW I J) (g : FW J K) : FW I K := ⟨fun s a b c d e => (g.1 s a b c d e).trans (h.1 s a b c d e), fun a q => (g.2 a q).trans (h.2 a q)⟩
theorem F9.fw {I J : qI} (h : F9 I J) : FW I J := ⟨fun s q _ _ _ _ => h.1 s q, h.2⟩
theorem FW.lt {I J : qI} {tb : Int → Int} {n : Int} (f : FW I J) (h : LTX I tb n) : LTX J tb n := h.fr (f.1 7 (by omega) (by omega) (by omega) (by omega) (by omega)) (f.1 8 (by omega) (by omega) (by omega) (by omega) (by omega)) (f.2 94 (by omega)) (f.2 91 (by omega))
theorem F9.wr {I J : qI} {c k : Int} (f : F9 I J) (h : WRel I c k) : WRel J c k := h.fr (f.1 19 (by omega)) (f.1 20 (by omega)) (f.1 21 (by omega))
theorem walk_tail {d : Nat} {P : Option qV → qH → Prop} {X : Nat → qH → Prop} {I : qI} {H : qS} (hd : 3 ≤ d) {yw m pt c k : Int} (hS : Shp H) (hA : ∀ y, 0 ≤ y → y < 100 → 0 ≤ I 96 y ∧ I 96 y < 96) (h18 : I 90 18 = yw) (hyw : 0 ≤ yw ∧ yw < 100) (hpt : 0 ≤ pt ∧ pt < 96) (hm : 0 ≤ m ∧ m ≤ 99) (hw : WRel I c k) (hk : 0 ≤ k ∧ k < 13) (hcc : c = -1 ∨ (0 ≤ c ∧ c < 81)) (h : ∀ J : qI, FW I J → J 90 9 = I 90 9 → J 90 10 = I 90 10 → WRel J (if c = -1 then -1 else coff c (dirOf pt (I 96 yw)) m) (k + 1) → P none (J, H)) :
    WP (Call d) 244 P X (53, [some (vr (some 90) 10), some (vi m), some (vi pt), none], [], (I, H), 0, 0) := by
  have m1 := mul_bd hm.1 hm.2 (sx_bd (dirOf pt (I 96 yw))).1 (sx_bd (dirOf pt (I 96 yw))).2
  have m2 := mul_bd hm.1 hm.2 (sy_bd (dirOf pt (I 96 yw))).1 (sy_bd (dirOf pt (I 96 yw))).2
  have w0 := hw.1
  have w1 := hw.2.1
  have w2 := hw.2.2.1
  have w3 := hw.2.2.2
  refine WP.go 4 (And.intro rfl (?_))
  refine rw_i (Q := fun x9 => WP (Call d) 244 P X (57, [some (vr (some 90) 10), some (vi m), some (vi pt), none], [vi x9, vi pt, vr (some 90) 10], (I, H), 0, 0)) h18 ?_
  show WP (Call d) 244 P X (57, [some (vr (some 90) 10), some (vi m), some (vi pt), none], [vi yw, vi pt, vr (some 90) 10], (I, H), 0, 0)
  refine WP.go 1 (And.intro (And.intro (Nat.le_of_ble_eq_true rfl) (Nat.le_of_ble_eq_true rfl)) (And.intro rfl (?_)))
  show Call d 215 [vr (some 90) 10, vi pt, vi yw] (I, H) _ _
  refine s_12_towards (by omega) hS hA (by omega) (by omega) ?_
  show WP (Call d) 244 P X (58, [some (vr (some 90) 10), some (vi m), some (vi pt), none], [vi (dirOf pt ((I 96) yw))], (I, H), 0, 0)
  refine WP.go 7 (And.intro rfl (And.intro (And.intro (Nat.le_of_ble_eq_true rfl) (Nat.le_of_ble_eq_true rfl)) (And.intro rfl (?_))))
  show Call d 216 [vi (dirOf pt ((I 96) yw))] (I, H) _ _
  refine s_12_dx (by omega)  ?_
  show WP (Call d) 244 P X (65, [some (vr (some 90) 10), some (vi m), some (vi pt), some (vi (dirOf pt ((I 96) yw)))], [vi (sx (dirOf pt ((I 96) yw))), vi m, vi (I 90 19), vr (some 90) 10], (I, H), 0, 0)
  refine WP.go 3 (Exists.intro (m * (sx (dirOf pt ((I 96) yw)))) (And.intro (wrp_a (by omega) (by omega)) (Exists.intro ((I 90 19) + (m * (sx (dirOf pt ((I 96) yw))))) (And.intro (wrp_a (by omega) (by omega)) (And.intro (And.intro rfl trivial) (?_))))))
  show WP (Call d) 244 P X (68, [some (vr (some 90) 10), some (vi m), some (vi pt), some (vi (dirOf pt ((I 96) yw)))], [], ((upI I 90 19 ((I 90 19) + (m * (sx (dirOf pt ((I 96) yw)))))), H), 0, 0)
  generalize hq_J0 : (upI I 90 19 ((I 90 19) + (m * (sx (dirOf pt ((I 96) yw)))))) = J0
  have e_J0 : J0 90 = (fun j => if j = 19 then ((I 90 19) + (m * (sx (dirOf pt ((I 96) yw))))) else I 90 j) := by rw [← hq_J0]; exact upI_self _ _ _ _
  have f_J0 : ∀ a, a ≠ 90 → J0 a = I a := fun a q => by rw [← hq_J0]; exact upI_cell q
  have j020 : J0 90 20 = I 90 20 := by rw [e_J0]; rfl
  refine WP.go 6 (And.intro rfl (And.intro (And.intro (Nat.le_of_ble_eq_true rfl) (Nat.le_of_ble_eq_true rfl)) (And.intro rfl (?_))))
  show Call d 217 [vi (dirOf pt ((I 96) yw))] (J0, H) _ _
  refine s_12_dy (by omega)  ?_
  show WP (Call d) 244 P X (74, [some (vr (some 90) 10), some (vi m), some (vi pt), some (vi (dirOf pt ((I 96) yw)))], [vi (sy (dirOf pt ((I 96) yw))), vi m, vi (J0 90 20), vr (some 90) 10], (J0, H), 0, 0)
  refine WP.go 3 (Exists.intro (m * (sy (dirOf pt ((I 96) yw)))) (And.intro (wrp_a (by omega) (by omega)) (Exists.intro ((J0 90 20) + (m * (sy (dirOf pt ((I 96) yw))))) (And.intro (wrp_a (by omega) (by omega)) (And.intro (And.intro rfl trivial) (?_))))))
  show WP (Call d) 244 P X (77, [some (vr (some 90) 10), some (vi m), some (vi pt), some (vi (dirOf pt ((I 96) yw)))], [], ((upI J0 90 20 ((J0 90 20) + (m * (sy (dirOf pt ((I 96) yw)))))), H), 0, 0)
  generalize hq_J1 : (upI J0 90 20 ((J0 90 20) + (m * (sy (dirOf pt ((I 96) yw)))))) = J1
  have e_J1 : J1 90 = (fun j => if j = 20 then ((J0 90 20) + (m * (sy (dirOf pt ((I 96) yw))))) else J0 90 j) := by rw [← hq_J1]; exact upI_self _ _ _ _
  have f_J1 : ∀ a, a ≠ 90 → J1 a = J0 a := fun a q => by rw [← hq_J1]; exact upI_cell q
  have j19 : J1 90 19 = I 90 19 + m * sx (dirOf pt (I 96 yw)) := by rw [e_J1]; show J0 90 19 = _; rw [e_J0]; rfl
  have j20 : J1 90 20 = I 90 20 + m * sy (dirOf pt (I 96 yw)) := by rw [e_J1]; show J0 90 20 + _ = _; rw [e_J0]; rfl
  have j21 : J1 90 21 = I 90 21 := by rw [e_J1]; show J0 90 21 = _; rw [e_J0]; rfl
  have jo : ∀ s, s ≠ 19 → s ≠ 20 → J1 90 s = I 90 s := fun s q1 q2 => by rw [e_J1]; refine (if_neg q2).trans ?_; rw [e_J0]; exact if_neg q1
  have fin : ∀ v, (v = 0 ∨ v = 1) → ((I 90 21 = 0 ∧ 0 ≤ I 90 19 + m * sx (dirOf pt (I 96 yw)) ∧ I 90 19 + m * sx (dirOf pt (I 96 yw)) ≤ 8 ∧ 0 ≤ I 90 20 + m * sy (dirOf pt (I 96 yw)) ∧ I 90 20 + m * sy (dirOf pt (I 96 yw)) ≤ 8) ↔ v = 0) → P none (upI J1 90 21 v, H) := fun v hv hi => by
    refine h _ ⟨fun s q1 q2 q3 q4 q5 => (upI_at (.inr q5)).trans (jo s q3 q4), fun a q => by rw [upI_cell q, f_J1 a q, f_J0 a q]⟩ ((upI_at (.inr (by omega))).trans (jo 9 (by omega) (by omega))) ((upI_at (.inr (by omega))).trans (jo 10 (by omega) (by omega))) ?_
    unfold WRel
    rw [upI_same, upI_at (.inr (by omega)), upI_at (.inr (by omega)), j19, j20]
    have cf : c ≠ -1 → coff c (dirOf pt (I 96 yw)) m = if 0 ≤ I 90 19 + m * sx (dirOf pt (I 96 yw)) ∧ I 90 19 + m * sx (dirOf pt (I 96 yw)) < 9 ∧ 0 ≤ I 90 20 + m * sy (dirOf pt (I 96 yw)) ∧ I 90 20 + m * sy (dirOf pt (I 96 yw)) < 9 then 9 * (I 90 20 + m * sy (dirOf pt (I 96 yw))) + (I 90 19 + m * sx (dirOf pt (I 96 yw))) else -1 := fun q => by
      have w4 := w2 q
      unfold coff
      rw [show c % 9 = I 90 19 by omega, show c / 9 = I 90 20 by omega]
    refine ⟨hv, fun q => ?_, fun q => ?_, by omega, by omega⟩
    · by_cases z : c = -1
      · have := w1 z; rcases hv with x | x
        · have := hi.mpr x; omega
        · exact x
      · rw [if_neg z, cf z] at q
        rcases hv with x | x
        · have y := hi.mpr x; rw [if_pos (by omega)] at q; omega
        · exact x
    · by_cases z : c = -1
      · exact absurd (if_pos z) q
      · rw [if_neg z, cf z] at q ⊢
        have w4 := w2 z
        by_cases y : 0 ≤ I 90 19 + m * sx (dirOf pt (I 96 yw)) ∧ I 90 19 + m * sx (dirOf pt (I 96 yw)) < 9 ∧ 0 ≤ I 90 20 + m * sy (dirOf pt (I 96 yw)) ∧ I 90 20 + m * sy (dirOf pt (I 96 yw)) < 9
        · rw [if_pos y]
          exact ⟨hi.mp (by omega), by omega, by omega, rfl⟩
        · rw [if_neg y] at q; exact absurd rfl q
  refine WP.go 4 (And.intro rfl (And.intro (fun (b80 : ¬ J1 90 21 = 0) => ?_) (fun (b80 : J1 90 21 = 0) => ?_)))
  ·
    show WP (Call d) 244 P X (93, [some (vr (some 90) 10), some (vi m), some (vi pt), some (vi (dirOf pt ((I 96) yw)))], [vr (some 90) 10], (J1, H), 0, 0)
    refine WP.go 4 (And.intro (And.intro rfl (Or.inr rfl)) (And.intro (And.intro (Nat.le_of_ble_eq_true rfl) (Nat.le_of_ble_eq_true rfl)) (?_)))
    show P none ((upI J1 90 21 1), H)
    exact fin 1 (.inr rfl) ⟨fun q => by rw [j21] at b80; omega, fun q => by omega⟩
  ·
    show WP (Call d) 244 P X (81, [some (vr (some 90) 10), some (vi m), some (vi pt), some (vi (dirOf pt ((I 96) yw)))], [vr (some 90) 10], (J1, H), 0, 0)
    refine WP.go 5 (And.intro rfl (And.intro (And.intro (Nat.le_of_ble_eq_true rfl) (Nat.le_of_ble_eq_true rfl)) (And.intro rfl (?_))))
    show Call d 177 [vi (J1 90 19), vi 0, vi 8] (J1, H) _ _
    refine s_12_isIn (by omega)  ?_
    show WP (Call d) 244 P X (86, [some (vr (some 90) 10), some (vi m), some (vi pt), some (vi (dirOf pt ((I 96) yw)))], [vi (bz (0 ≤ (J1 90 19) ∧ (J1 90 19) ≤ 8)), vr (some 90) 10], (J1, H), 0, 0)
    refine WP.go 1 (And.intro (fun (b86 : bz (0 ≤ (J1 90 19) ∧ (J1 90 19) ≤ 8) = 0) => ?_) (fun (b86 : ¬ bz (0 ≤ (J1 90 19) ∧ (J1 90 19) ≤ 8) = 0) => ?_))
    ·
      show WP (Call d) 244 P X (93, [some (vr (some 90) 10), some (vi m), some (vi pt), some (vi (dirOf pt ((I 96) yw)))], [vr (some 90) 10], (J1, H), 0, 0)
      have z86 := bz_e0.mp b86
      refine WP.go 4 (And.intro (And.intro rfl (Or.inr rfl)) (And.intro (And.intro (Nat.le_of_ble_eq_true rfl) (Nat.le_of_ble_eq_true rfl)) (?_)))
      show P none ((upI J1 90 21 1), H)
      exact fin 1 (.inr rfl) ⟨fun q => absurd ⟨by rw [j19]; omega, by rw [j19]; omega⟩ z86, fun q => by omega⟩
    ·
      show WP (Call d) 244 P X (87, [some (vr (some 90) 10), some (vi m), some (vi pt), some (vi (dirOf pt ((I 96) yw)))], [vr (some 90) 10], (J1, H), 0, 0)
      have z86 := bz_e1.mp b86
      refine WP.go 5 (And.intro rfl (And.intro (And.intro (Nat.le_of_ble_eq_true rfl) (Nat.le_of_ble_eq_true rfl)) (And.intro rfl (?_))))
      show Call d 177 [vi (J1 90 20), vi 0, vi 8] (J1, H) _ _
      refine s_12_isIn (by omega)  ?_
      show WP (Call d) 244 P X (92, [some (vr (some 90) 10), some (vi m), some (vi pt), some (vi (dirOf pt ((I 96) yw)))], [vi (bz (0 ≤ (J1 90 20) ∧ (J1 90 20) ≤ 8)), vr (some 90) 10], (J1, H), 0, 0)
      refine WP.go 1 (And.intro (fun (b92 : ¬ bz (0 ≤ (J1 90 20) ∧ (J1 90 20) ≤ 8) = 0) => ?_) (fun (b92 : bz (0 ≤ (J1 90 20) ∧ (J1 90 20) ≤ 8) = 0) => ?_))
      ·
        show WP (Call d) 244 P X (95, [some (vr (some 90) 10), some (vi m), some (vi pt), some (vi (dirOf pt ((I 96) yw)))], [vr (some 90) 10], (J1, H), 0, 0)
        have z92 := bz_e1.mp b92
        refine WP.go 3 (And.intro (And.intro rfl (Or.inl rfl)) (And.intro (And.intro (Nat.le_of_ble_eq_true rfl) (Nat.le_of_ble_eq_true rfl)) (?_)))
        show P none ((upI J1 90 21 0), H)
        exact fin 0 (.inl rfl) ⟨fun _ => rfl, fun _ => by rw [j19] at z86; rw [j20] at z92; rw [j21] at b80; omega⟩
      ·
        show WP (Call d) 244 P X (93, [some (vr (some 90) 10), some (vi m), some (vi pt), some (vi (dirOf pt ((I 96) yw)))], [vr (some 90) 10], (J1, H), 0, 0)
        have z92 := bz_e0.mp b92
        refine WP.go 4 (And.intro (And.intro rfl (Or.inr rfl)) (And.intro (And.intro (Nat.le_of_ble_eq_true rfl) (Nat.le_of_ble_eq_true rfl)) (?_)))
        show P none ((upI J1 90 21 1), H)
        exact fin 1 (.inr rfl) ⟨fun q => absurd ⟨by rw [j20]; omega, by rw [j20]; omega⟩ z92, fun q => by omega⟩

theorem s_12_walkLine {d : Nat} {P : Option qV → qH → Prop} {X : Nat → qH → Prop} {I : qI} {H : qS} {tb : Int → Int} {n p : Int} (hd : 4 ≤ d) {yw c k : Int} (hS : Shp H) (hL : LTX I tb n) (hR : RAT I tb n p) (hF : I 90 10 = -1) (hA : ∀ y, 0 ≤ y → y < 100 → 0 ≤ I 96 y ∧ I 96 y < 96) (h18 : I 90 18 = yw) (hyw : 0 ≤ yw ∧ yw < 100) (hw : WRel I c k) (hk : 0 ≤ k ∧ k < 13) (hcc : c = -1 ∨ (0 ≤ c ∧ c < 81)) (h : ((wln tb n (I 96 yw) p c).1 = -1 → ∀ J : qI, FW I J → RAT J tb n (wln tb n (I 96 yw) p c).2.2 → J 90 10 = -1 → WRel J (wln tb n (I 96 yw) p c).2.1 (k + 1) → P none (J, H)) ∧ ((wln tb n (I 96 yw) p c).1 ≠ -1 → ∀ J : qI, FW I J → J 90 10 = (wln tb n (I 96 yw) p c).1 → (0 ≤ J 90 9 ∧ J 90 9 ≤ n) → P none (J, H))) :
    Call d 244 [vr (some 90) 10] (I, H) P X := by
  obtain ⟨d, rfl⟩ : ∃ e, d = e + 1 := ⟨d - 1, by omega⟩
  have hu := F9.rf I
  have hb := hR.bd
  have hn := hL.2.1
  show WP (Call d) 244 P X (0, [some (vr (some 90) 10), none, none, none], [], (I, H), 0, 0)
  refine WP.go 3 (And.intro (And.intro (Nat.le_of_ble_eq_true rfl) (Nat.le_of_ble_eq_true rfl)) (And.intro rfl (?_)))
  show Call d 191 [vr (some 90) 10, vr (some 25) 100] (I, H) _ _
  refine s_12_has (by omega) hS hL hR (by omega) ⟨(fun q2 J2 e2 f2 => ?_), (fun q2_1 J2_1 e2_1 f2_1 => ?_)⟩
  ·
    show WP (Call d) 244 P X (3, [some (vr (some 90) 10), none, none, none], [vi 1], (J2, H), 0, 0)
    have hL_1 : LTX J2 tb n := f2.lt hL
    have hR_2 : RAT J2 tb n (nx tb n p) := rat_go hR (fun z => absurd (q2.symm.trans z) (by decide)) e2
    have hF_3 : J2 90 10 = -1 := (f2.1 10 (by omega)).trans hF
    have hu_4 : F9 I J2 := hu.tr f2
    refine WP.go 1 (And.intro (fun (b3 : ¬ 1 = 0) => ?_) (fun (b3 : 1 = 0) => (absurd b3 (by omega))))
    show WP (Call d) 244 P X (9, [some (vr (some 90) 10), none, none, none], [], (J2, H), 0, 0)
    refine WP.go 4 (And.intro (And.intro (Nat.le_of_ble_eq_true rfl) (Nat.le_of_ble_eq_true rfl)) (And.intro rfl (?_)))
    show Call d 193 [vr (some 90) 10, vi 0, vi 99] (J2, H) _ _
    refine s_12_figures (by omega) hS hL_1 hR_2 hF_3 (by omega) ⟨(fun q12 J12 e12 f12 => ?_), (fun q12_1 J12_1 v12 e12_1 b12 vb12 s12 f12_1 => ?_)⟩
    ·
      show WP (Call d) 244 P X (13, [some (vr (some 90) 10), none, none, none], [vi (th tb n (nx tb n p))], (J12, H), 0, 0)
      have hL_5 : LTX J12 tb n := f12.lt hL_1
      have hR_6 : RAT J12 tb n (nx tb n (nx tb n p)) := rat_go hR_2 (fun z => by have w := q12; omega) e12
      have hF_7 : J12 90 10 = -1 := (f12.1 10 (by omega)).trans hF_3
      have hu_8 : F9 I J12 := hu_4.tr f12
      refine WP.go 3 (And.intro rfl (?_))
      refine rw_i (Q := fun x9 => WP (Call d) 244 P X (16, [some (vr (some 90) 10), some (vi (th tb n (nx tb n p))), none, none], [vi x9], (J12, H), 0, 0)) hF_7 ?_
      show WP (Call d) 244 P X (16, [some (vr (some 90) 10), some (vi (th tb n (nx tb n p))), none, none], [vi (-1)], (J12, H), 0, 0)
      refine WP.go 2 (And.intro (fun (b17 : (-1) = (-1)) => ?_) (fun (b17 : ¬ (-1) = (-1)) => (absurd b17 (by omega))))
      show WP (Call d) 244 P X (19, [some (vr (some 90) 10), some (vi (th tb n (nx tb n p))), none, none], [], (J12, H), 0, 0)
      refine WP.go 3 (And.intro (And.intro (Nat.le_of_ble_eq_true rfl) (Nat.le_of_ble_eq_true rfl)) (And.intro rfl (?_)))
      show Call d 191 [vr (some 90) 10, vr (some 26) 100] (J12, H) _ _
      refine s_12_has (by omega) hS hL_5 hR_6 (by omega) ⟨(fun q21 J21 e21 f21 => ?_), (fun q21_1 J21_1 e21_1 f21_1 => ?_)⟩
      ·
        show WP (Call d) 244 P X (22, [some (vr (some 90) 10), some (vi (th tb n (nx tb n p))), none, none], [vi 1], (J21, H), 0, 0)
        have hL_9 : LTX J21 tb n := f21.lt hL_5
        have hR_10 : RAT J21 tb n (nx tb n (nx tb n (nx tb n p))) := rat_go hR_6 (fun z => absurd (q21.symm.trans z) (by decide)) e21
        have hF_11 : J21 90 10 = -1 := (f21.1 10 (by omega)).trans hF_7
        have hu_12 : F9 I J21 := hu_8.tr f21
        refine WP.go 1 (And.intro (fun (b22 : 1 = 0) => (absurd b22 (by omega))) (fun (b22 : ¬ 1 = 0) => ?_))
        show WP (Call d) 244 P X (23, [some (vr (some 90) 10), some (vi (th tb n (nx tb n p))), none, none], [], (J21, H), 0, 0)
        refine WP.go 6 (And.intro (fun (b47 : ¬ 0 = (-1)) => ?_) (fun (b47 : 0 = (-1)) => (absurd b47 (by omega))))
        show WP (Call d) 244 P X (53, [some (vr (some 90) 10), some (vi (th tb n (nx tb n p))), some (vi 0), none], [], (J21, H), 0, 0)
        have qq : th tb n (nx tb n (nx tb n p)) = 1025 := q21
        refine walk_tail (c := c) (k := k) (by omega) hS (by rw [hu_12.2 96 (by omega)]; exact hA) ((hu_12.1 18 (by omega)).trans h18) hyw (by omega) (by omega) (hu_12.wr hw) hk hcc (fun J9 g1 g2 g3 g4 => ?_)
        rw [hu_12.2 96 (by omega)] at g4
        have r9 := wln_4 (ang := I 96 yw) (c := c) q2 q12 (show 1025 ≤ th tb n (nx tb n (nx tb n p)) ∧ th tb n (nx tb n (nx tb n p)) ≤ 1028 by omega)
        exact h.1 (by rw [r9]) _ (hu_12.fw.tr g1) (by rw [r9]; exact hR_10.cp g2) (g3.trans hF_11) (by rw [r9]; show WRel J9 (if c = -1 then -1 else coff c (dirOf (24 * (th tb n (nx tb n (nx tb n p)) - 1025)) (I 96 yw)) (th tb n (nx tb n p))) (k + 1); rw [show 24 * (th tb n (nx tb n (nx tb n p)) - 1025) = 0 by omega]; exact g4)
      ·
        show WP (Call d) 244 P X (22, [some (vr (some 90) 10), some (vi (th tb n (nx tb n p))), none, none], [vi 0], (J21_1, H), 0, 0)
        have hL_13 : LTX J21_1 tb n := f21_1.lt hL_5
        have hR_14 : RAT J21_1 tb n (nx tb n (nx tb n p)) := RAT.of hR_6.bd e21_1
        have hF_15 : J21_1 90 10 = -1 := (f21_1.1 10 (by omega)).trans hF_7
        have hu_16 : F9 I J21_1 := hu_8.tr f21_1
        have h_17 : J21_1 90 9 = (nx tb n (nx tb n p)) := e21_1
        refine WP.go 1 (And.intro (fun (b22 : 0 = 0) => ?_) (fun (b22 : ¬ 0 = 0) => (absurd b22 (by omega))))
        show WP (Call d) 244 P X (25, [some (vr (some 90) 10), some (vi (th tb n (nx tb n p))), none, none], [], (J21_1, H), 0, 0)
        refine WP.go 3 (And.intro (And.intro (Nat.le_of_ble_eq_true rfl) (Nat.le_of_ble_eq_true rfl)) (And.intro rfl (?_)))
        show Call d 191 [vr (some 90) 10, vr (some 27) 100] (J21_1, H) _ _
        refine s_12_has (by omega) hS hL_13 hR_14 (by omega) ⟨(fun q27 J27 e27 f27 => ?_), (fun q27_1 J27_1 e27_1 f27_1 => ?_)⟩
        ·
          show WP (Call d) 244 P X (28, [some (vr (some 90) 10), some (vi (th tb n (nx tb n p))), none, none], [vi 1], (J27, H), 0, 0)
          have hL_18 : LTX J27 tb n := f27.lt hL_13
          have hR_19 : RAT J27 tb n (nx tb n (nx tb n (nx tb n p))) := rat_go hR_14 (fun z => absurd (q27.symm.trans z) (by decide)) e27
          have hF_20 : J27 90 10 = -1 := (f27.1 10 (by omega)).trans hF_15
          have hu_21 : F9 I J27 := hu_16.tr f27
          refine WP.go 1 (And.intro (fun (b28 : 1 = 0) => (absurd b28 (by omega))) (fun (b28 : ¬ 1 = 0) => ?_))
          show WP (Call d) 244 P X (29, [some (vr (some 90) 10), some (vi (th tb n (nx tb n p))), none, none], [], (J27, H), 0, 0)
          refine WP.go 6 (And.intro (fun (b47 : ¬ 24 = (-1)) => ?_) (fun (b47 : 24 = (-1)) => (absurd b47 (by omega))))
          show WP (Call d) 244 P X (53, [some (vr (some 90) 10), some (vi (th tb n (nx tb n p))), some (vi 24), none], [], (J27, H), 0, 0)
          have qq : th tb n (nx tb n (nx tb n p)) = 1026 := q27
          refine walk_tail (c := c) (k := k) (by omega) hS (by rw [hu_21.2 96 (by omega)]; exact hA) ((hu_21.1 18 (by omega)).trans h18) hyw (by omega) (by omega) (hu_21.wr hw) hk hcc (fun J9 g1 g2 g3 g4 => ?_)
          rw [hu_21.2 96 (by omega)] at g4
          have r9 := wln_4 (ang := I 96 yw) (c := c) q2 q12 (show 1025 ≤ th tb n (nx tb n (nx tb n p)) ∧ th tb n (nx tb n (nx tb n p)) ≤ 1028 by omega)
          exact h.1 (by rw [r9]) _ (hu_21.fw.tr g1) (by rw [r9]; exact hR_19.cp g2) (g3.trans hF_20) (by rw [r9]; show WRel J9 (if c = -1 then -1 else coff c (dirOf (24 * (th tb n (nx tb n (nx tb n p)) - 1025)) (I 96 yw)) (th tb n (nx tb n p))) (k + 1); rw [show 24 * (th tb n (nx tb n (nx tb n p)) - 1025) = 24 by omega]; exact g4)
        ·
          show WP (Call d) 244 P X (28, [some (vr (some 90) 10), some (vi (th tb n (nx tb n p))), none, none], [vi 0], (J27_1, H), 0, 0)
          have hL_22 : LTX J27_1 tb n := f27_1.lt hL_13
          have hR_23 : RAT J27_1 tb n (nx tb n (nx tb n p)) := RAT.of hR_14.bd e27_1
          have hF_24 : J27_1 90 10 = -1 := (f27_1.1 10 (by omega)).trans hF_15
          have hu_25 : F9 I J27_1 := hu_16.tr f27_1
          have h_26 : J27_1 90 9 = (nx tb n (nx tb n p)) := e27_1
          refine WP.go 1 (And.intro (fun (b28 : 0 = 0) => ?_) (fun (b28 : ¬ 0 = 0) => (absurd b28 (by omega))))
          show WP (Call d) 244 P X (31, [some (vr (some 90) 10), some (vi (th tb n (nx tb n p))), none, none], [], (J27_1, H), 0, 0)
          refine WP.go 3 (And.intro (And.intro (Nat.le_of_ble_eq_true rfl) (Nat.le_of_ble_eq_true rfl)) (And.intro rfl (?_)))
          show Call d 191 [vr (some 90) 10, vr (some 28) 100] (J27_1, H) _ _
          refine s_12_has (by omega) hS hL_22 hR_23 (by omega) ⟨(fun q33 J33 e33 f33 => ?_), (fun q33_1 J33_1 e33_1 f33_1 => ?_)⟩
          ·
            show WP (Call d) 244 P X (34, [some (vr (some 90) 10), some (vi (th tb n (nx tb n p))), none, none], [vi 1], (J33, H), 0, 0)
            have hL_27 : LTX J33 tb n := f33.lt hL_22
            have hR_28 : RAT J33 tb n (nx tb n (nx tb n (nx tb n p))) := rat_go hR_23 (fun z => absurd (q33.symm.trans z) (by decide)) e33
            have hF_29 : J33 90 10 = -1 := (f33.1 10 (by omega)).trans hF_24
            have hu_30 : F9 I J33 := hu_25.tr f33
            refine WP.go 1 (And.intro (fun (b34 : 1 = 0) => (absurd b34 (by omega))) (fun (b34 : ¬ 1 = 0) => ?_))
            show WP (Call d) 244 P X (35, [some (vr (some 90) 10), some (vi (th tb n (nx tb n p))), none, none], [], (J33, H), 0, 0)
            refine WP.go 6 (And.intro (fun (b47 : ¬ 48 = (-1)) => ?_) (fun (b47 : 48 = (-1)) => (absurd b47 (by omega))))
            show WP (Call d) 244 P X (53, [some (vr (some 90) 10), some (vi (th tb n (nx tb n p))), some (vi 48), none], [], (J33, H), 0, 0)
            have qq : th tb n (nx tb n (nx tb n p)) = 1027 := q33
            refine walk_tail (c := c) (k := k) (by omega) hS (by rw [hu_30.2 96 (by omega)]; exact hA) ((hu_30.1 18 (by omega)).trans h18) hyw (by omega) (by omega) (hu_30.wr hw) hk hcc (fun J9 g1 g2 g3 g4 => ?_)
            rw [hu_30.2 96 (by omega)] at g4
            have r9 := wln_4 (ang := I 96 yw) (c := c) q2 q12 (show 1025 ≤ th tb n (nx tb n (nx tb n p)) ∧ th tb n (nx tb n (nx tb n p)) ≤ 1028 by omega)
            exact h.1 (by rw [r9]) _ (hu_30.fw.tr g1) (by rw [r9]; exact hR_28.cp g2) (g3.trans hF_29) (by rw [r9]; show WRel J9 (if c = -1 then -1 else coff c (dirOf (24 * (th tb n (nx tb n (nx tb n p)) - 1025)) (I 96 yw)) (th tb n (nx tb n p))) (k + 1); rw [show 24 * (th tb n (nx tb n (nx tb n p)) - 1025) = 48 by omega]; exact g4)
          ·
            show WP (Call d) 244 P X (34, [some (vr (some 90) 10), some (vi (th tb n (nx tb n p))), none, none], [vi 0], (J33_1, H), 0, 0)
            have hL_31 : LTX J33_1 tb n := f33_1.lt hL_22
            have hR_32 : RAT J33_1 tb n (nx tb n (nx tb n p)) := RAT.of hR_23.bd e33_1
            have hF_33 : J33_1 90 10 = -1 := (f33_1.1 10 (by omega)).trans hF_24
            have hu_34 : F9 I J33_1 := hu_25.tr f33_1
            have h_35 : J33_1 90 9 = (nx tb n (nx tb n p)) := e33_1
            refine WP.go 1 (And.intro (fun (b34 : 0 = 0) => ?_) (fun (b34 : ¬ 0 = 0) => (absurd b34 (by omega))))
            show WP (Call d) 244 P X (37, [some (vr (some 90) 10), some (vi (th tb n (nx tb n p))), none, none], [], (J33_1, H), 0, 0)
            refine WP.go 3 (And.intro (And.intro (Nat.le_of_ble_eq_true rfl) (Nat.le_of_ble_eq_true rfl)) (And.intro rfl (?_)))
            show Call d 191 [vr (some 90) 10, vr (some 29) 100] (J33_1, H) _ _
            refine s_12_has (by omega) hS hL_31 hR_32 (by omega) ⟨(fun q39 J39 e39 f39 => ?_), (fun q39_1 J39_1 e39_1 f39_1 => ?_)⟩
            ·
              show WP (Call d) 244 P X (40, [some (vr (some 90) 10), some (vi (th tb n (nx tb n p))), none, none], [vi 1], (J39, H), 0, 0)
              have hL_36 : LTX J39 tb n := f39.lt hL_31
              have hR_37 : RAT J39 tb n (nx tb n (nx tb n (nx tb n p))) := rat_go hR_32 (fun z => absurd (q39.symm.trans z) (by decide)) e39
              have hF_38 : J39 90 10 = -1 := (f39.1 10 (by omega)).trans hF_33
              have hu_39 : F9 I J39 := hu_34.tr f39
              refine WP.go 1 (And.intro (fun (b40 : 1 = 0) => (absurd b40 (by omega))) (fun (b40 : ¬ 1 = 0) => ?_))
              show WP (Call d) 244 P X (41, [some (vr (some 90) 10), some (vi (th tb n (nx tb n p))), none, none], [], (J39, H), 0, 0)
              refine WP.go 6 (And.intro (fun (b47 : ¬ 72 = (-1)) => ?_) (fun (b47 : 72 = (-1)) => (absurd b47 (by omega))))
              show WP (Call d) 244 P X (53, [some (vr (some 90) 10), some (vi (th tb n (nx tb n p))), some (vi 72), none], [], (J39, H), 0, 0)
              have qq : th tb n (nx tb n (nx tb n p)) = 1028 := q39
              refine walk_tail (c := c) (k := k) (by omega) hS (by rw [hu_39.2 96 (by omega)]; exact hA) ((hu_39.1 18 (by omega)).trans h18) hyw (by omega) (by omega) (hu_39.wr hw) hk hcc (fun J9 g1 g2 g3 g4 => ?_)
              rw [hu_39.2 96 (by omega)] at g4
              have r9 := wln_4 (ang := I 96 yw) (c := c) q2 q12 (show 1025 ≤ th tb n (nx tb n (nx tb n p)) ∧ th tb n (nx tb n (nx tb n p)) ≤ 1028 by omega)
              exact h.1 (by rw [r9]) _ (hu_39.fw.tr g1) (by rw [r9]; exact hR_37.cp g2) (g3.trans hF_38) (by rw [r9]; show WRel J9 (if c = -1 then -1 else coff c (dirOf (24 * (th tb n (nx tb n (nx tb n p)) - 1025)) (I 96 yw)) (th tb n (nx tb n p))) (k + 1); rw [show 24 * (th tb n (nx tb n (nx tb n p)) - 1025) = 72 by omega]; exact g4)
            ·
              show WP (Call d) 244 P X (40, [some (vr (some 90) 10), some (vi (th tb n (nx tb n p))), none, none], [vi 0], (J39_1, H), 0, 0)
              have hL_40 : LTX J39_1 tb n := f39_1.lt hL_31
              have hR_41 : RAT J39_1 tb n (nx tb n (nx tb n p)) := RAT.of hR_32.bd e39_1
              have hF_42 : J39_1 90 10 = -1 := (f39_1.1 10 (by omega)).trans hF_33
              have hu_43 : F9 I J39_1 := hu_34.tr f39_1
              have h_44 : J39_1 90 9 = (nx tb n (nx tb n p)) := e39_1
              refine WP.go 1 (And.intro (fun (b40 : 0 = 0) => ?_) (fun (b40 : ¬ 0 = 0) => (absurd b40 (by omega))))
              show WP (Call d) 244 P X (43, [some (vr (some 90) 10), some (vi (th tb n (nx tb n p))), none, none], [], (J39_1, H), 0, 0)
              refine WP.go 5 (And.intro (fun (b47 : ¬ (-1) = (-1)) => (absurd b47 (by omega))) (fun (b47 : (-1) = (-1)) => ?_))
              show WP (Call d) 244 P X (48, [some (vr (some 90) 10), some (vi (th tb n (nx tb n p))), some (vi (-1)), none], [], (J39_1, H), 0, 0)
              refine WP.go 3 (And.intro rfl (?_))
              refine rw_i (Q := fun x9 => WP (Call d) 244 P X (51, [some (vr (some 90) 10), some (vi (th tb n (nx tb n p))), some (vi (-1)), none], [vi x9, vr (some 90) 10], (J39_1, H), 0, 0)) h_44 ?_
              show WP (Call d) 244 P X (51, [some (vr (some 90) 10), some (vi (th tb n (nx tb n p))), some (vi (-1)), none], [vi (nx tb n (nx tb n p)), vr (some 90) 10], (J39_1, H), 0, 0)
              refine WP.go 1 (And.intro (And.intro (Nat.le_of_ble_eq_true rfl) (Nat.le_of_ble_eq_true rfl)) (And.intro rfl (?_)))
              show Call d 192 [vr (some 90) 10, vi (nx tb n (nx tb n p))] (J39_1, H) _ _
              refine s_12_wrong (by omega) hF_42 (fun J51 e51 f51 => ?_)
              show WP (Call d) 244 P X (52, [some (vr (some 90) 10), some (vi (th tb n (nx tb n p))), some (vi (-1)), none], [], (J51, H), 0, 0)
              refine WP.go 1 (And.intro (And.intro (Nat.le_of_ble_eq_true rfl) (Nat.le_of_ble_eq_true rfl)) (?_))
              show P none (J51, H)
              have n1 : th tb n (nx tb n (nx tb n p)) ≠ 1025 := q21_1
              have n2 : th tb n (nx tb n (nx tb n p)) ≠ 1026 := q27_1
              have n3 : th tb n (nx tb n (nx tb n p)) ≠ 1027 := q33_1
              have n4 : th tb n (nx tb n (nx tb n p)) ≠ 1028 := q39_1
              have r9 := wln_3 (ang := I 96 yw) (c := c) q2 q12 (show ¬ (1025 ≤ th tb n (nx tb n (nx tb n p)) ∧ th tb n (nx tb n (nx tb n p)) ≤ 1028) by omega)
              have b10 := hR_41.bd
              refine h.2 (by rw [r9]; show nx tb n (nx tb n p) ≠ -1; omega) _ ⟨fun s z1 z2 _ _ _ => by rw [e51]; exact (if_neg z2).trans (hu_43.1 s z1), fun a z => (f51 a z).trans (hu_43.2 a z)⟩ (by rw [r9, e51]; rfl) (by rw [e51]; show 0 ≤ J39_1 90 9 ∧ J39_1 90 9 ≤ n; rw [h_44]; omega)
    ·
      show WP (Call d) 244 P X (13, [some (vr (some 90) 10), none, none, none], [vi v12], (J12_1, H), 0, 0)
      have hF_45 : J12_1 90 10 = (nx tb n p) := e12_1
      have b9 := hR_2.bd
      refine WP.go 3 (And.intro rfl (?_))
      refine rw_i (Q := fun x9 => WP (Call d) 244 P X (16, [some (vr (some 90) 10), some (vi v12), none, none], [vi x9], (J12_1, H), 0, 0)) hF_45 ?_
      show WP (Call d) 244 P X (16, [some (vr (some 90) 10), some (vi v12), none, none], [vi (nx tb n p)], (J12_1, H), 0, 0)
      refine WP.go 2 (And.intro (fun (b17 : (nx tb n p) = (-1)) => (absurd b17 (by omega))) (fun (b17 : ¬ (nx tb n p) = (-1)) => ?_))
      show WP (Call d) 244 P X (18, [some (vr (some 90) 10), some (vi v12), none, none], [], (J12_1, H), 0, 0)
      refine WP.go 1 (And.intro (And.intro (Nat.le_of_ble_eq_true rfl) (Nat.le_of_ble_eq_true rfl)) (?_))
      show P none (J12_1, H)
      have r9 := wln_2 (ang := I 96 yw) (c := c) q2 q12_1
      have b10 := hR_2.bd
      refine h.2 (by rw [r9]; show nx tb n p ≠ -1; omega) _ ⟨fun s z1 z2 _ _ _ => (s12 s z1 z2).trans (hu_4.1 s z1), fun a z => (f12_1 a z).trans (hu_4.2 a z)⟩ (by rw [r9]; exact e12_1) b12
  ·
    show WP (Call d) 244 P X (3, [some (vr (some 90) 10), none, none, none], [vi 0], (J2_1, H), 0, 0)
    have hL_46 : LTX J2_1 tb n := f2_1.lt hL
    have hR_47 : RAT J2_1 tb n p := RAT.of hR.bd e2_1
    have hF_48 : J2_1 90 10 = -1 := (f2_1.1 10 (by omega)).trans hF
    have hu_49 : F9 I J2_1 := hu.tr f2_1
    have h_50 : J2_1 90 9 = p := e2_1
    refine WP.go 1 (And.intro (fun (b3 : ¬ 0 = 0) => (absurd b3 (by omega))) (fun (b3 : 0 = 0) => ?_))
    show WP (Call d) 244 P X (4, [some (vr (some 90) 10), none, none, none], [], (J2_1, H), 0, 0)
    refine WP.go 3 (And.intro rfl (?_))
    refine rw_i (Q := fun x9 => WP (Call d) 244 P X (7, [some (vr (some 90) 10), none, none, none], [vi x9, vr (some 90) 10], (J2_1, H), 0, 0)) h_50 ?_
    show WP (Call d) 244 P X (7, [some (vr (some 90) 10), none, none, none], [vi p, vr (some 90) 10], (J2_1, H), 0, 0)
    refine WP.go 1 (And.intro (And.intro (Nat.le_of_ble_eq_true rfl) (Nat.le_of_ble_eq_true rfl)) (And.intro rfl (?_)))
    show Call d 192 [vr (some 90) 10, vi p] (J2_1, H) _ _
    refine s_12_wrong (by omega) hF_48 (fun J7 e7 f7 => ?_)
    show WP (Call d) 244 P X (8, [some (vr (some 90) 10), none, none, none], [], (J7, H), 0, 0)
    refine WP.go 1 (And.intro (And.intro (Nat.le_of_ble_eq_true rfl) (Nat.le_of_ble_eq_true rfl)) (?_))
    show P none (J7, H)
    have r9 := wln_1 (ang := I 96 yw) (c := c) q2_1
    refine h.2 (by rw [r9]; show p ≠ -1; omega) _ ⟨fun s z1 z2 _ _ _ => by rw [e7]; exact (if_neg z2).trans (hu_49.1 s z1), fun a z => (f7 a z).trans (hu_49.2 a z)⟩ (by rw [r9, e7]; rfl) (by rw [e7]; show 0 ≤ J2_1 90 9 ∧ J2_1 90 9 ≤ n; rw [h_50]; omega)

