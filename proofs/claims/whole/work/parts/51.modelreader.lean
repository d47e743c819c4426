/-- the reference's text: bytes tb below n -/
def LTX (I : qI) (tb : Int → Int) (n : Int) : Prop := I 90 8 = n ∧ (0 ≤ n ∧ n ≤ 400) ∧ (∀ j, 0 ≤ j → j < n → 0 ≤ tb j ∧ tb j ≤ 255) ∧ ((I 90 7 = -1 ∧ ∀ j, 0 ≤ j → j < n → I 94 j = tb j) ∨ (0 ≤ I 90 7 ∧ I 90 7 + n ≤ 2952 ∧ ∀ j, 0 ≤ j → j < n → I 91 (I 90 7 + j) = tb j))
theorem LTX.fr {I J : qI} {tb : Int → Int} {n : Int} (h : LTX I tb n) (e7 : J 90 7 = I 90 7) (e8 : J 90 8 = I 90 8) (e : J 94 = I 94) (e1 : J 91 = I 91) : LTX J tb n := by
  unfold LTX at *
  rw [e7, e8, e, e1]
  exact h
/-- the reference stands before the thing at p -/
def RAT (I : qI) (tb : Int → Int) (n p : Int) : Prop := (0 ≤ I 90 9 ∧ I 90 9 ≤ n) ∧ sk tb n (I 90 9) = p
/-- but for the place, all is as it was -/
def F9 (I J : qI) : Prop := (∀ s, s ≠ 9 → J 90 s = I 90 s) ∧ (∀ a, a ≠ 90 → J a = I a)
theorem F9.rf (I : qI) : F9 I I := ⟨fun _ _ => rfl, fun _ _ => rfl⟩
theorem F9.tr {I J K : qI} (h : F9 I J) (g : F9 J K) : F9 I K := ⟨fun s q => (g.1 s q).trans (h.1 s q), fun a q => (g.2 a q).trans (h.2 a q)⟩
theorem F9.lt {I J : qI} {tb : Int → Int} {n : Int} (f : F9 I J) (h : LTX I tb n) : LTX J tb n := h.fr (f.1 7 (by omega)) (f.1 8 (by omega)) (f.2 94 (by omega)) (f.2 91 (by omega))
theorem F9.up (I : qI) (v : Int) : F9 I (upI I 90 9 v) := ⟨fun s q => upI_at (.inr q), fun a q => upI_cell q⟩
theorem RAT.bd {I : qI} {tb : Int → Int} {n p : Int} (h : RAT I tb n p) : 0 ≤ p ∧ p ≤ n ∧ sk tb n p = p := by
  have a := sk_bd (tb := tb) h.1.1 h.1.2
  have b := sk_sk (tb := tb) h.1.1 h.1.2
  rw [h.2] at a b
  exact ⟨by have := h.1; omega, a.2, b⟩
theorem RAT.of {J : qI} {tb : Int → Int} {n p : Int} (h : 0 ≤ p ∧ p ≤ n ∧ sk tb n p = p) (e : J 90 9 = p) : RAT J tb n p := ⟨by rw [e]; exact ⟨h.1, h.2.1⟩, by rw [e]; exact h.2.2⟩
theorem RAT.nx {J : qI} {tb : Int → Int} {n p : Int} (h0 : 0 ≤ p) (h : p < n) (e : J 90 9 = bhd tb n p) : RAT J tb n (nx tb n p) := by
  have b := bhd_bd (tb := tb) h0 h
  exact ⟨by rw [e]; omega, by rw [e]; rfl⟩
theorem s_12_letter {d : Nat} {P : Option qV → qH → Prop} {X : Nat → qH → Prop} {I : qI} {H : qS} {tb : Int → Int} {n : Int} (hd : 1 ≤ d) {k : Int} (hS : Shp H) (hL : LTX I tb n) (hk : 0 ≤ k ∧ k < n) (h : P (some (vi (tb k))) (I, H)) :
    Call d 188 [vr (some 90) 10, vi k] (I, H) P X := by
  obtain ⟨d, rfl⟩ : ∃ e, d = e + 1 := ⟨d - 1, by omega⟩
  have hl91 := hS.l91
  have hl94 := hS.l94
  have hd := hL.2.2.2
  have hn := hL.2.1
  show WP (Call d) 188 P X (0, [some (vr (some 90) 10), some (vi k)], [], (I, H), 0, 0)
  refine WP.go 4 (And.intro rfl (And.intro (fun (b3 : ¬ I 90 7 = (-1)) => ?_) (fun (b3 : I 90 7 = (-1)) => ?_)))
  ·
    show WP (Call d) 188 P X (9, [some (vr (some 90) 10), some (vi k)], [], (I, H), 0, 0)
    refine WP.go 1 ?_
    show WP (Call d) 188 P X (10, [some (vr (some 90) 10), some (vi k)], [vr (some 90) 10], (I, H), 0, 0)
    have w := hd.resolve_left (fun z => b3 z.1)
    refine WP.go 7 (And.intro rfl (Exists.intro 91 (And.intro hS.r90_1 (And.intro rfl (Exists.intro ((I 90 7) + k) (And.intro (wrp_a (by omega) (by omega)) (And.intro (And.intro rfl (And.intro (show 0 ≤ (I 90 7) + k from by omega) (show (I 90 7) + k < H.2.1 91 from by omega))) (And.intro (And.intro (Nat.le_of_ble_eq_true rfl) (Nat.le_of_ble_eq_true rfl)) (And.intro trivial (?_))))))))))
    show P (some (vi (I 91 ((I 90 7) + k)))) (I, H)
    exact fin_i (w.2.2 k hk.1 hk.2) h
  ·
    show WP (Call d) 188 P X (4, [some (vr (some 90) 10), some (vi k)], [], (I, H), 0, 0)
    have w := hd.resolve_right (fun z => by omega)
    refine WP.go 6 (And.intro rfl (Exists.intro 94 (And.intro hS.r90_5 (And.intro (And.intro rfl (And.intro (show 0 ≤ k from by omega) (show k < H.2.1 94 from by omega))) (And.intro (And.intro (Nat.le_of_ble_eq_true rfl) (Nat.le_of_ble_eq_true rfl)) (And.intro trivial (?_)))))))
    show P (some (vi (I 94 k))) (I, H)
    exact fin_i (w.2 k hk.1 hk.2) h

theorem s_12_skip {d : Nat} {P : Option qV → qH → Prop} {X : Nat → qH → Prop} {I : qI} {H : qS} {tb : Int → Int} {n p : Int} (hd : 2 ≤ d) (hS : Shp H) (hL : LTX I tb n) (hR : RAT I tb n p) (h : ∀ J : qI, J 90 9 = p → F9 I J → P none (J, H)) :
    Call d 189 [vr (some 90) 10] (I, H) P X := by
  obtain ⟨d, rfl⟩ : ∃ e, d = e + 1 := ⟨d - 1, by omega⟩
  have hb := hR.bd
  have hn := hL.2.1
  show WP (Call d) 189 P X (0, [some (vr (some 90) 10)], [], (I, H), 0, 0)
  have lp0 : ∀ (n9 : Nat) (K : qI) (k : Int) (hm : n - k < (n9 : Int)) (hk : K 90 9 = k) (iv0 : 0 ≤ k ∧ k ≤ n ∧ sk tb n k = p) (iv1 : F9 I K), WP (Call d) 189 P X (0, [some (vr (some 90) 10)], [], (K, H), 0, 0) := by
    intro n9
    induction n9 with
    | zero => intro K k hm hk iv0 iv1; exact absurd hm (by omega)
    | succ n9 ih0 =>
      intro K k hm hk iv0 iv1
      have hLk := iv1.lt hL
      have h8k : K 90 8 = n := hLk.1
      refine WP.go 2 (And.intro rfl (?_))
      refine rw_i (Q := fun x9 => WP (Call d) 189 P X (2, [some (vr (some 90) 10)], [vi x9], (K, H), 0, 0)) hk ?_
      show WP (Call d) 189 P X (2, [some (vr (some 90) 10)], [vi k], (K, H), 0, 0)
      refine WP.go 2 (And.intro rfl (?_))
      refine rw_i (Q := fun x9 => WP (Call d) 189 P X (4, [some (vr (some 90) 10)], [vi x9, vi k], (K, H), 0, 0)) h8k ?_
      show WP (Call d) 189 P X (4, [some (vr (some 90) 10)], [vi n, vi k], (K, H), 0, 0)
      refine WP.go 1 (And.intro (fun (b4 : ¬ k < n) => ?_) (fun (b4 : k < n) => ?_))
      ·
        show WP (Call d) 189 P X (18, [some (vr (some 90) 10)], [], (K, H), 0, 0)
        refine WP.go 1 (And.intro (And.intro (Nat.le_of_ble_eq_true rfl) (Nat.le_of_ble_eq_true rfl)) (?_))
        show P none (K, H)
        exact h _ (hk.trans (by have w := iv0.2.2; have z : k = n := (by omega); rw [z] at w ⊢; rw [← w]; exact (fx_e (Int.le_refl _)).symm)) iv1
      ·
        show WP (Call d) 189 P X (5, [some (vr (some 90) 10)], [], (K, H), 0, 0)
        refine WP.go 3 (And.intro rfl (?_))
        refine rw_i (Q := fun x9 => WP (Call d) 189 P X (8, [some (vr (some 90) 10)], [vi x9, vr (some 90) 10], (K, H), 0, 0)) hk ?_
        show WP (Call d) 189 P X (8, [some (vr (some 90) 10)], [vi k, vr (some 90) 10], (K, H), 0, 0)
        refine WP.go 1 (And.intro (And.intro (Nat.le_of_ble_eq_true rfl) (Nat.le_of_ble_eq_true rfl)) (And.intro rfl (?_)))
        show Call d 188 [vr (some 90) 10, vi k] (K, H) _ _
        refine s_12_letter (by omega) hS hLk (by omega) ?_
        show WP (Call d) 189 P X (9, [some (vr (some 90) 10)], [vi (tb k)], (K, H), 0, 0)
        refine WP.go 2 (And.intro (fun (b10 : ¬ tb k = 32) => ?_) (fun (b10 : tb k = 32) => ?_))
        ·
          show WP (Call d) 189 P X (18, [some (vr (some 90) 10)], [], (K, H), 0, 0)
          refine WP.go 1 (And.intro (And.intro (Nat.le_of_ble_eq_true rfl) (Nat.le_of_ble_eq_true rfl)) (?_))
          show P none (K, H)
          exact h _ (hk.trans ((fx_y (q := fun k => tb k ≠ 32) (by omega) iv0.1 b10).symm.trans iv0.2.2)) iv1
        ·
          show WP (Call d) 189 P X (11, [some (vr (some 90) 10)], [], (K, H), 0, 0)
          refine WP.go 3 (And.intro rfl (?_))
          refine rw_i (Q := fun x9 => WP (Call d) 189 P X (14, [some (vr (some 90) 10)], [vi x9, vr (some 90) 10], (K, H), 0, 0)) hk ?_
          show WP (Call d) 189 P X (14, [some (vr (some 90) 10)], [vi k, vr (some 90) 10], (K, H), 0, 0)
          refine WP.go 4 (Exists.intro (k + 1) (And.intro (wrp_a (by omega) (by omega)) (And.intro (And.intro rfl trivial) (?_))))
          show WP (Call d) 189 P X (0, [some (vr (some 90) 10)], [], ((upI K 90 9 (k + 1)), H), 0, 0)
          exact ih0 (upI K 90 9 (k + 1)) (k + 1) (by omega) (upI_same _ _ _ _) ⟨by omega, by omega, (fx_n (q := fun k => tb k ≠ 32) (by omega) (fun z => z b10)).symm.trans iv0.2.2⟩ (iv1.tr (F9.up K _))
  exact lp0 ((n - (I 90 9) : Int).toNat + 1) I (I 90 9) (by omega) rfl ⟨hR.1.1, hR.1.2, hR.2⟩ (F9.rf I)

theorem s_12_isSign {d : Nat} {P : Option qV → qH → Prop} {X : Nat → qH → Prop} {I : qI} {H : qS} {tb : Int → Int} {n p : Int} (hd : 3 ≤ d) {c : Int} (hS : Shp H) (hL : LTX I tb n) (hR : RAT I tb n p) (hc : (0 ≤ c ∧ c ≤ 255) ∧ ¬ isL c ∧ ¬ isD c) (h : ∀ J : qI, J 90 9 = p → F9 I J → P (some (vi (bz (th tb n p = 2000 + c)))) (J, H)) :
    Call d 190 [vr (some 90) 10, vi c] (I, H) P X := by
  obtain ⟨d, rfl⟩ : ∃ e, d = e + 1 := ⟨d - 1, by omega⟩
  have hb := hR.bd
  have hn := hL.2.1
  have hs := th_sign hb.1 hb.2.1 hL.2.2.1 hc.1 hc.2.1 hc.2.2
  show WP (Call d) 190 P X (0, [some (vr (some 90) 10), some (vi c)], [], (I, H), 0, 0)
  refine WP.go 2 (And.intro (And.intro (Nat.le_of_ble_eq_true rfl) (Nat.le_of_ble_eq_true rfl)) (And.intro rfl (?_)))
  show Call d 189 [vr (some 90) 10] (I, H) _ _
  refine s_12_skip (by omega) hS hL hR (fun J1 e1 f1 => ?_)
  show WP (Call d) 190 P X (2, [some (vr (some 90) 10), some (vi c)], [], (J1, H), 0, 0)
  have hL_1 : LTX J1 tb n := f1.lt hL
  refine WP.go 2 (And.intro rfl (?_))
  refine rw_i (Q := fun x9 => WP (Call d) 190 P X (4, [some (vr (some 90) 10), some (vi c)], [vi x9], (J1, H), 0, 0)) e1 ?_
  show WP (Call d) 190 P X (4, [some (vr (some 90) 10), some (vi c)], [vi p], (J1, H), 0, 0)
  refine WP.go 2 (And.intro rfl (?_))
  refine rw_i (Q := fun x9 => WP (Call d) 190 P X (6, [some (vr (some 90) 10), some (vi c)], [vi x9, vi p], (J1, H), 0, 0)) hL_1.1 ?_
  show WP (Call d) 190 P X (6, [some (vr (some 90) 10), some (vi c)], [vi n, vi p], (J1, H), 0, 0)
  refine WP.go 1 (And.intro (fun (b6 : ¬ p < n) => ?_) (fun (b6 : p < n) => ?_))
  ·
    show WP (Call d) 190 P X (15, [some (vr (some 90) 10), some (vi c)], [], (J1, H), 0, 0)
    refine WP.go 2 (And.intro (And.intro (Nat.le_of_ble_eq_true rfl) (Nat.le_of_ble_eq_true rfl)) (And.intro (Or.inl rfl) (?_)))
    show P (some (vi 0)) (J1, H)
    exact fin_i (zero_bz (fun q => by have := (hs.mpr q).1; omega)) (h _ e1 f1)
  ·
    show WP (Call d) 190 P X (7, [some (vr (some 90) 10), some (vi c)], [], (J1, H), 0, 0)
    refine WP.go 3 (And.intro rfl (?_))
    refine rw_i (Q := fun x9 => WP (Call d) 190 P X (10, [some (vr (some 90) 10), some (vi c)], [vi x9, vr (some 90) 10], (J1, H), 0, 0)) e1 ?_
    show WP (Call d) 190 P X (10, [some (vr (some 90) 10), some (vi c)], [vi p, vr (some 90) 10], (J1, H), 0, 0)
    refine WP.go 1 (And.intro (And.intro (Nat.le_of_ble_eq_true rfl) (Nat.le_of_ble_eq_true rfl)) (And.intro rfl (?_)))
    show Call d 188 [vr (some 90) 10, vi p] (J1, H) _ _
    refine s_12_letter (by omega) hS hL_1 (by omega) ?_
    show WP (Call d) 190 P X (11, [some (vr (some 90) 10), some (vi c)], [vi (tb p)], (J1, H), 0, 0)
    refine WP.go 2 (And.intro (fun (b12 : ¬ tb p = c) => ?_) (fun (b12 : tb p = c) => ?_))
    ·
      show WP (Call d) 190 P X (15, [some (vr (some 90) 10), some (vi c)], [], (J1, H), 0, 0)
      refine WP.go 2 (And.intro (And.intro (Nat.le_of_ble_eq_true rfl) (Nat.le_of_ble_eq_true rfl)) (And.intro (Or.inl rfl) (?_)))
      show P (some (vi 0)) (J1, H)
      exact fin_i (zero_bz (fun q => b12 (hs.mpr q).2)) (h _ e1 f1)
    ·
      show WP (Call d) 190 P X (13, [some (vr (some 90) 10), some (vi c)], [], (J1, H), 0, 0)
      refine WP.go 3 (And.intro (And.intro (Nat.le_of_ble_eq_true rfl) (Nat.le_of_ble_eq_true rfl)) (And.intro (Or.inr rfl) (?_)))
      show P (some (vi 1)) (J1, H)
      exact fin_i (one_bz (hs.mp ⟨by omega, b12⟩)) (h _ e1 f1)

theorem s_12_has {d : Nat} {P : Option qV → qH → Prop} {X : Nat → qH → Prop} {I : qI} {H : qS} {tb : Int → Int} {n p : Int} (hd : 3 ≤ d) {q : Nat} (hS : Shp H) (hL : LTX I tb n) (hR : RAT I tb n p) (hq : 1 ≤ q ∧ q < 30) (h : (th tb n p = 1000 + wq q → ∀ J : qI, J 90 9 = bhd tb n p → F9 I J → P (some (vi 1)) (J, H)) ∧ (¬ th tb n p = 1000 + wq q → ∀ J : qI, J 90 9 = p → F9 I J → P (some (vi 0)) (J, H))) :
    Call d 191 [vr (some 90) 10, vr (some q) 100] (I, H) P X := by
  obtain ⟨d, rfl⟩ : ∃ e, d = e + 1 := ⟨d - 1, by omega⟩
  have hb := hR.bd
  have hn := hL.2.1
  have hw := th_word hb.1 hb.2.1 hL.2.2.1 hq.1 hq.2
  have s1 := slen_1 hq.1 hq.2
  have hre := fx_r (q := fun k => ¬ isL (tb k)) hb.2.1 hb.1
  show WP (Call d) 191 P X (0, [some (vr (some 90) 10), some (vr (some q) 100), none, none], [], (I, H), 0, 0)
  refine WP.go 2 (And.intro (And.intro (Nat.le_of_ble_eq_true rfl) (Nat.le_of_ble_eq_true rfl)) (And.intro rfl (?_)))
  show Call d 189 [vr (some 90) 10] (I, H) _ _
  refine s_12_skip (by omega) hS hL hR (fun J1 e1 f1 => ?_)
  show WP (Call d) 191 P X (2, [some (vr (some 90) 10), some (vr (some q) 100), none, none], [], (J1, H), 0, 0)
  have hL_1 : LTX J1 tb n := f1.lt hL
  refine WP.go 2 (And.intro rfl (?_))
  refine rw_i (Q := fun x9 => WP (Call d) 191 P X (4, [some (vr (some 90) 10), some (vr (some q) 100), none, none], [vi x9], (J1, H), 0, 0)) e1 ?_
  show WP (Call d) 191 P X (4, [some (vr (some 90) 10), some (vr (some q) 100), none, none], [vi p], (J1, H), 0, 0)
  refine WP.go 1 ?_
  show WP (Call d) 191 P X (5, [some (vr (some 90) 10), some (vr (some q) 100), some (vi p), none], [], (J1, H), 0, 0)
  have lp5 : ∀ (n9 : Nat) (k : Int) (hm : n - k < (n9 : Int)) (iv0 : p ≤ k ∧ k ≤ n) (iv1 : wE tb n p = wE tb n k), WP (Call d) 191 P X (5, [some (vr (some 90) 10), some (vr (some q) 100), some (vi k), none], [], (J1, H), 0, 0) := by
    intro n9
    induction n9 with
    | zero => intro k hm iv0 iv1; exact absurd hm (by omega)
    | succ n9 ih5 =>
      intro k hm iv0 iv1
      refine WP.go 3 (And.intro rfl (?_))
      refine rw_i (Q := fun x9 => WP (Call d) 191 P X (8, [some (vr (some 90) 10), some (vr (some q) 100), some (vi k), none], [vi x9, vi k], (J1, H), 0, 0)) hL_1.1 ?_
      show WP (Call d) 191 P X (8, [some (vr (some 90) 10), some (vr (some q) 100), some (vi k), none], [vi n, vi k], (J1, H), 0, 0)
      refine WP.go 1 (And.intro (fun (b8 : ¬ k < n) => ?_) (fun (b8 : k < n) => ?_))
      ·
        show WP (Call d) 191 P X (18, [some (vr (some 90) 10), some (vr (some q) 100), some (vi k), none], [], (J1, H), 0, 0)
        have hke : wE tb n p = k := iv1.trans ((fx_e (by omega)).trans (by omega))
        refine WP.go 3 (And.intro rfl (?_))
        refine rw_i (Q := fun x9 => WP (Call d) 191 P X (21, [some (vr (some 90) 10), some (vr (some q) 100), some (vi k), none], [vi x9, vi k], (J1, H), 0, 0)) e1 ?_
        show WP (Call d) 191 P X (21, [some (vr (some 90) 10), some (vr (some q) 100), some (vi k), none], [vi p, vi k], (J1, H), 0, 0)
        refine WP.go 4 (Exists.intro (k - p) (And.intro (wrp_a (by omega) (by omega)) (And.intro (And.intro (Nat.le_of_ble_eq_true rfl) (Nat.le_of_ble_eq_true rfl)) (And.intro (fun (b24 : k - p = slen q) => ?_) (fun (b24 : ¬ k - p = slen q) => ?_)))))
        ·
          show WP (Call d) 191 P X (27, [some (vr (some 90) 10), some (vr (some q) 100), some (vi k), none], [], (J1, H), 0, 0)
          refine WP.go 2 ?_
          show WP (Call d) 191 P X (29, [some (vr (some 90) 10), some (vr (some q) 100), some (vi k), some (vi 0)], [], (J1, H), 0, 0)
          have lp29 : ∀ (n9 : Nat) (j : Int) (hm : slen q - j < (n9 : Int)) (jv0 : 0 ≤ j ∧ j ≤ slen q) (jv1 : ∀ i, 0 ≤ i → i < j → tb (p + i) = sch q i), WP (Call d) 191 P X (29, [some (vr (some 90) 10), some (vr (some q) 100), some (vi k), some (vi j)], [], (J1, H), 0, 0) := by
            intro n9
            induction n9 with
            | zero => intro j hm jv0 jv1; exact absurd hm (by omega)
            | succ n9 ih29 =>
              intro j hm jv0 jv1
              refine WP.go 4 (And.intro (And.intro (Nat.le_of_ble_eq_true rfl) (Nat.le_of_ble_eq_true rfl)) (And.intro (fun (b32 : ¬ j < slen q) => ?_) (fun (b32 : j < slen q) => ?_)))
              ·
                show WP (Call d) 191 P X (47, [some (vr (some 90) 10), some (vr (some q) 100), some (vi k), some (vi j)], [], (J1, H), 0, 0)
                refine WP.go 5 (And.intro (And.intro rfl trivial) (And.intro (And.intro (Nat.le_of_ble_eq_true rfl) (Nat.le_of_ble_eq_true rfl)) (And.intro (Or.inr rfl) (?_))))
                show P (some (vi 1)) ((upI J1 90 9 k), H)
                exact h.1 (hw.mp ⟨by omega, fun i q0 q1 => jv1 i q0 (by omega)⟩) _ ((upI_same _ _ _ _).trans (hke.symm.trans (by have hlt : p < n := (by omega); have hl : isL (tb p) := Classical.byContradiction (fun z => by have : wE tb n p = p := fx_y hlt hb.1 z; omega); exact (fx_n hlt (fun x => x hl)).trans (bhd_l hl).symm))) (f1.tr (F9.up _ _))
              ·
                show WP (Call d) 191 P X (33, [some (vr (some 90) 10), some (vr (some q) 100), some (vi k), some (vi j)], [], (J1, H), 0, 0)
                refine WP.go 3 (And.intro rfl (?_))
                refine rw_i (Q := fun x9 => WP (Call d) 191 P X (36, [some (vr (some 90) 10), some (vr (some q) 100), some (vi k), some (vi j)], [vi x9, vr (some 90) 10], (J1, H), 0, 0)) e1 ?_
                show WP (Call d) 191 P X (36, [some (vr (some 90) 10), some (vr (some q) 100), some (vi k), some (vi j)], [vi p, vr (some 90) 10], (J1, H), 0, 0)
                refine WP.go 3 (Exists.intro (p + j) (And.intro (wrp_a (by omega) (by omega)) (And.intro (And.intro (Nat.le_of_ble_eq_true rfl) (Nat.le_of_ble_eq_true rfl)) (And.intro rfl (?_)))))
                show Call d 188 [vr (some 90) 10, vi (p + j)] (J1, H) _ _
                refine s_12_letter (by omega) hS hL_1 (by omega) ?_
                show WP (Call d) 191 P X (39, [some (vr (some 90) 10), some (vr (some q) 100), some (vi k), some (vi j)], [vi (tb (p + j))], (J1, H), 0, 0)
                refine WP.go 4 (And.intro (And.intro (And.intro (show 0 ≤ j from by omega) (show j < slen q from by omega)) (And.intro (Nat.le_of_ble_eq_true rfl) (Nat.le_of_ble_eq_true rfl))) (And.intro (fun (b42 : tb (p + j) = sch q j) => ?_) (fun (b42 : ¬ tb (p + j) = sch q j) => ?_)))
                ·
                  show WP (Call d) 191 P X (45, [some (vr (some 90) 10), some (vr (some q) 100), some (vi k), some (vi j)], [], (J1, H), 0, 0)
                  refine WP.go 2 (Exists.intro (j + 1) (And.intro (wrp_a (by omega) (by omega)) (?_)))
                  show WP (Call d) 191 P X (29, [some (vr (some 90) 10), some (vr (some q) 100), some (vi k), some (vi (j + 1))], [], (J1, H), 0, 0)
                  exact ih29 (j + 1) (by omega) (by omega) (fun i q0 q1 => by rcases Int.lt_or_eq_of_le (show i ≤ j by omega) with z | z; exact jv1 i q0 z; rw [z]; exact b42)
                ·
                  show WP (Call d) 191 P X (43, [some (vr (some 90) 10), some (vr (some q) 100), some (vi k), some (vi j)], [], (J1, H), 0, 0)
                  refine WP.go 2 (And.intro (And.intro (Nat.le_of_ble_eq_true rfl) (Nat.le_of_ble_eq_true rfl)) (And.intro (Or.inl rfl) (?_)))
                  show P (some (vi 0)) (J1, H)
                  exact h.2 (fun z => b42 ((hw.mpr z).2 j (by omega) (by omega))) _ e1 f1
          exact lp29 ((slen q - 0 : Int).toNat + 1) 0 (by omega) (by omega) (fun i q0 q1 => by omega)
        ·
          show WP (Call d) 191 P X (25, [some (vr (some 90) 10), some (vr (some q) 100), some (vi k), none], [], (J1, H), 0, 0)
          refine WP.go 2 (And.intro (And.intro (Nat.le_of_ble_eq_true rfl) (Nat.le_of_ble_eq_true rfl)) (And.intro (Or.inl rfl) (?_)))
          show P (some (vi 0)) (J1, H)
          exact h.2 (fun z => b24 (by have := (hw.mpr z).1; omega)) _ e1 f1
      ·
        show WP (Call d) 191 P X (9, [some (vr (some 90) 10), some (vr (some q) 100), some (vi k), none], [], (J1, H), 0, 0)
        refine WP.go 3 (And.intro (And.intro (Nat.le_of_ble_eq_true rfl) (Nat.le_of_ble_eq_true rfl)) (And.intro rfl (?_)))
        show Call d 188 [vr (some 90) 10, vi k] (J1, H) _ _
        refine s_12_letter (by omega) hS hL_1 (by omega) ?_
        show WP (Call d) 191 P X (12, [some (vr (some 90) 10), some (vr (some q) 100), some (vi k), none], [vi (tb k)], (J1, H), 0, 0)
        refine WP.go 3 (And.intro (And.intro (Nat.le_of_ble_eq_true rfl) (Nat.le_of_ble_eq_true rfl)) (And.intro rfl (?_)))
        show Call d 177 [vi (tb k), vi 97, vi 122] (J1, H) _ _
        refine s_12_isIn (by omega)  ?_
        show WP (Call d) 191 P X (15, [some (vr (some 90) 10), some (vr (some q) 100), some (vi k), none], [vi (bz (97 ≤ (tb k) ∧ (tb k) ≤ 122))], (J1, H), 0, 0)
        refine WP.go 1 (And.intro (fun (b15 : bz (97 ≤ (tb k) ∧ (tb k) ≤ 122) = 0) => ?_) (fun (b15 : ¬ bz (97 ≤ (tb k) ∧ (tb k) ≤ 122) = 0) => ?_))
        ·
          show WP (Call d) 191 P X (18, [some (vr (some 90) 10), some (vr (some q) 100), some (vi k), none], [], (J1, H), 0, 0)
          have z15 := bz_e0.mp b15
          have hke : wE tb n p = k := iv1.trans (fx_y (by omega) (by omega) (bz_e0.mp b15))
          refine WP.go 3 (And.intro rfl (?_))
          refine rw_i (Q := fun x9 => WP (Call d) 191 P X (21, [some (vr (some 90) 10), some (vr (some q) 100), some (vi k), none], [vi x9, vi k], (J1, H), 0, 0)) e1 ?_
          show WP (Call d) 191 P X (21, [some (vr (some 90) 10), some (vr (some q) 100), some (vi k), none], [vi p, vi k], (J1, H), 0, 0)
          refine WP.go 4 (Exists.intro (k - p) (And.intro (wrp_a (by omega) (by omega)) (And.intro (And.intro (Nat.le_of_ble_eq_true rfl) (Nat.le_of_ble_eq_true rfl)) (And.intro (fun (b24 : k - p = slen q) => ?_) (fun (b24 : ¬ k - p = slen q) => ?_)))))
          ·
            show WP (Call d) 191 P X (27, [some (vr (some 90) 10), some (vr (some q) 100), some (vi k), none], [], (J1, H), 0, 0)
            refine WP.go 2 ?_
            show WP (Call d) 191 P X (29, [some (vr (some 90) 10), some (vr (some q) 100), some (vi k), some (vi 0)], [], (J1, H), 0, 0)
            have lp29 : ∀ (n9 : Nat) (j : Int) (hm : slen q - j < (n9 : Int)) (jv0 : 0 ≤ j ∧ j ≤ slen q) (jv1 : ∀ i, 0 ≤ i → i < j → tb (p + i) = sch q i), WP (Call d) 191 P X (29, [some (vr (some 90) 10), some (vr (some q) 100), some (vi k), some (vi j)], [], (J1, H), 0, 0) := by
              intro n9
              induction n9 with
              | zero => intro j hm jv0 jv1; exact absurd hm (by omega)
              | succ n9 ih29 =>
                intro j hm jv0 jv1
                refine WP.go 4 (And.intro (And.intro (Nat.le_of_ble_eq_true rfl) (Nat.le_of_ble_eq_true rfl)) (And.intro (fun (b32 : ¬ j < slen q) => ?_) (fun (b32 : j < slen q) => ?_)))
                ·
                  show WP (Call d) 191 P X (47, [some (vr (some 90) 10), some (vr (some q) 100), some (vi k), some (vi j)], [], (J1, H), 0, 0)
                  refine WP.go 5 (And.intro (And.intro rfl trivial) (And.intro (And.intro (Nat.le_of_ble_eq_true rfl) (Nat.le_of_ble_eq_true rfl)) (And.intro (Or.inr rfl) (?_))))
                  show P (some (vi 1)) ((upI J1 90 9 k), H)
                  exact h.1 (hw.mp ⟨by omega, fun i q0 q1 => jv1 i q0 (by omega)⟩) _ ((upI_same _ _ _ _).trans (hke.symm.trans (by have hlt : p < n := (by omega); have hl : isL (tb p) := Classical.byContradiction (fun z => by have : wE tb n p = p := fx_y hlt hb.1 z; omega); exact (fx_n hlt (fun x => x hl)).trans (bhd_l hl).symm))) (f1.tr (F9.up _ _))
                ·
                  show WP (Call d) 191 P X (33, [some (vr (some 90) 10), some (vr (some q) 100), some (vi k), some (vi j)], [], (J1, H), 0, 0)
                  refine WP.go 3 (And.intro rfl (?_))
                  refine rw_i (Q := fun x9 => WP (Call d) 191 P X (36, [some (vr (some 90) 10), some (vr (some q) 100), some (vi k), some (vi j)], [vi x9, vr (some 90) 10], (J1, H), 0, 0)) e1 ?_
                  show WP (Call d) 191 P X (36, [some (vr (some 90) 10), some (vr (some q) 100), some (vi k), some (vi j)], [vi p, vr (some 90) 10], (J1, H), 0, 0)
                  refine WP.go 3 (Exists.intro (p + j) (And.intro (wrp_a (by omega) (by omega)) (And.intro (And.intro (Nat.le_of_ble_eq_true rfl) (Nat.le_of_ble_eq_true rfl)) (And.intro rfl (?_)))))
                  show Call d 188 [vr (some 90) 10, vi (p + j)] (J1, H) _ _
                  refine s_12_letter (by omega) hS hL_1 (by omega) ?_
                  show WP (Call d) 191 P X (39, [some (vr (some 90) 10), some (vr (some q) 100), some (vi k), some (vi j)], [vi (tb (p + j))], (J1, H), 0, 0)
                  refine WP.go 4 (And.intro (And.intro (And.intro (show 0 ≤ j from by omega) (show j < slen q from by omega)) (And.intro (Nat.le_of_ble_eq_true rfl) (Nat.le_of_ble_eq_true rfl))) (And.intro (fun (b42 : tb (p + j) = sch q j) => ?_) (fun (b42 : ¬ tb (p + j) = sch q j) => ?_)))
                  ·
                    show WP (Call d) 191 P X (45, [some (vr (some 90) 10), some (vr (some q) 100), some (vi k), some (vi j)], [], (J1, H), 0, 0)
                    refine WP.go 2 (Exists.intro (j + 1) (And.intro (wrp_a (by omega) (by omega)) (?_)))
                    show WP (Call d) 191 P X (29, [some (vr (some 90) 10), some (vr (some q) 100), some (vi k), some (vi (j + 1))], [], (J1, H), 0, 0)
                    exact ih29 (j + 1) (by omega) (by omega) (fun i q0 q1 => by rcases Int.lt_or_eq_of_le (show i ≤ j by omega) with z | z; exact jv1 i q0 z; rw [z]; exact b42)
                  ·
                    show WP (Call d) 191 P X (43, [some (vr (some 90) 10), some (vr (some q) 100), some (vi k), some (vi j)], [], (J1, H), 0, 0)
                    refine WP.go 2 (And.intro (And.intro (Nat.le_of_ble_eq_true rfl) (Nat.le_of_ble_eq_true rfl)) (And.intro (Or.inl rfl) (?_)))
                    show P (some (vi 0)) (J1, H)
                    exact h.2 (fun z => b42 ((hw.mpr z).2 j (by omega) (by omega))) _ e1 f1
            exact lp29 ((slen q - 0 : Int).toNat + 1) 0 (by omega) (by omega) (fun i q0 q1 => by omega)
          ·
            show WP (Call d) 191 P X (25, [some (vr (some 90) 10), some (vr (some q) 100), some (vi k), none], [], (J1, H), 0, 0)
            refine WP.go 2 (And.intro (And.intro (Nat.le_of_ble_eq_true rfl) (Nat.le_of_ble_eq_true rfl)) (And.intro (Or.inl rfl) (?_)))
            show P (some (vi 0)) (J1, H)
            exact h.2 (fun z => b24 (by have := (hw.mpr z).1; omega)) _ e1 f1
        ·
          show WP (Call d) 191 P X (16, [some (vr (some 90) 10), some (vr (some q) 100), some (vi k), none], [], (J1, H), 0, 0)
          have z15 := bz_e1.mp b15
          refine WP.go 2 (Exists.intro (k + 1) (And.intro (wrp_a (by omega) (by omega)) (?_)))
          show WP (Call d) 191 P X (5, [some (vr (some 90) 10), some (vr (some q) 100), some (vi (k + 1)), none], [], (J1, H), 0, 0)
          exact ih5 (k + 1) (by omega) (by omega) (iv1.trans (fx_n (by omega) (fun z => z (bz_e1.mp b15))))
  exact lp5 ((n - p : Int).toNat + 1) p (by omega) (by omega) rfl

theorem s_12_wrong {d : Nat} {P : Option qV → qH → Prop} {X : Nat → qH → Prop} {I : qI} {H : qS} (hd : 1 ≤ d) {w : Int} (hF : I 90 10 = -1) (h : ∀ J : qI, J 90 = (fun s => if s = 10 then w else I 90 s) → (∀ a, a ≠ 90 → J a = I a) → P none (J, H)) :
    Call d 192 [vr (some 90) 10, vi w] (I, H) P X := by
  obtain ⟨d, rfl⟩ : ∃ e, d = e + 1 := ⟨d - 1, by omega⟩
  show WP (Call d) 192 P X (0, [some (vr (some 90) 10), some (vi w)], [], (I, H), 0, 0)
  refine WP.go 2 (And.intro rfl (?_))
  refine rw_i (Q := fun x9 => WP (Call d) 192 P X (2, [some (vr (some 90) 10), some (vi w)], [vi x9], (I, H), 0, 0)) hF ?_
  show WP (Call d) 192 P X (2, [some (vr (some 90) 10), some (vi w)], [vi (-1)], (I, H), 0, 0)
  refine WP.go 2 (And.intro (fun (b3 : ¬ (-1) = (-1)) => (absurd b3 (by omega))) (fun (b3 : (-1) = (-1)) => ?_))
  show WP (Call d) 192 P X (4, [some (vr (some 90) 10), some (vi w)], [], (I, H), 0, 0)
  refine WP.go 4 (And.intro (And.intro rfl trivial) (And.intro (And.intro (Nat.le_of_ble_eq_true rfl) (Nat.le_of_ble_eq_true rfl)) (?_)))
  show P none ((upI I 90 10 w), H)
  exact h _ (upI_self _ _ _ _) (fun a q => upI_cell q)

theorem s_12_wrong_f {d : Nat} {P : Option qV → qH → Prop} {X : Nat → qH → Prop} {I : qI} {H : qS} (hd : 1 ≤ d) {w : Int} (hF : ¬ I 90 10 = -1) (h : P none (I, H)) :
    Call d 192 [vr (some 90) 10, vi w] (I, H) P X := by
  obtain ⟨d, rfl⟩ : ∃ e, d = e + 1 := ⟨d - 1, by omega⟩
  show WP (Call d) 192 P X (0, [some (vr (some 90) 10), some (vi w)], [], (I, H), 0, 0)
  refine WP.go 4 (And.intro rfl (And.intro (fun (b3 : ¬ I 90 10 = (-1)) => ?_) (fun (b3 : I 90 10 = (-1)) => (absurd b3 (by omega)))))
  show WP (Call d) 192 P X (7, [some (vr (some 90) 10), some (vi w)], [], (I, H), 0, 0)
  refine WP.go 1 (And.intro (And.intro (Nat.le_of_ble_eq_true rfl) (Nat.le_of_ble_eq_true rfl)) (?_))
  show P none (I, H)
  exact h

theorem s_12_figures_f {d : Nat} {P : Option qV → qH → Prop} {X : Nat → qH → Prop} {I : qI} {H : qS} (hd : 3 ≤ d) {lo hi : Int} (hF : ¬ I 90 10 = -1) (h : P (some (vi 0)) (I, H)) :
    Call d 193 [vr (some 90) 10, vi lo, vi hi] (I, H) P X := by
  obtain ⟨d, rfl⟩ : ∃ e, d = e + 1 := ⟨d - 1, by omega⟩
  show WP (Call d) 193 P X (0, [some (vr (some 90) 10), some (vi lo), some (vi hi), none, none], [], (I, H), 0, 0)
  refine WP.go 4 (And.intro rfl (And.intro (fun (b3 : I 90 10 = (-1)) => (absurd b3 (by omega))) (fun (b3 : ¬ I 90 10 = (-1)) => ?_)))
  show WP (Call d) 193 P X (4, [some (vr (some 90) 10), some (vi lo), some (vi hi), none, none], [], (I, H), 0, 0)
  refine WP.go 2 (And.intro (And.intro (Nat.le_of_ble_eq_true rfl) (Nat.le_of_ble_eq_true rfl)) (And.intro trivial (?_)))
  show P (some (vi 0)) (I, H)
  exact fin_i (by first | rfl | omega | exact zero_bz (by omega) | exact one_bz (by omega)) h

theorem s_12_figures {d : Nat} {P : Option qV → qH → Prop} {X : Nat → qH → Prop} {I : qI} {H : qS} {tb : Int → Int} {n p : Int} (hd : 3 ≤ d) {lo hi : Int} (hS : Shp H) (hL : LTX I tb n) (hR : RAT I tb n p) (hF : I 90 10 = -1) (hhi : 0 ≤ lo ∧ hi ≤ 999) (h : ((lo ≤ th tb n p ∧ th tb n p ≤ hi) → ∀ J : qI, J 90 9 = bhd tb n p → F9 I J → P (some (vi (th tb n p))) (J, H)) ∧ (¬ (lo ≤ th tb n p ∧ th tb n p ≤ hi) → ∀ (J : qI) (v : Int), J 90 10 = p → (0 ≤ J 90 9 ∧ J 90 9 ≤ n) → (0 ≤ v ∧ v ≤ 9999) → (∀ s, s ≠ 9 → s ≠ 10 → J 90 s = I 90 s) → (∀ a, a ≠ 90 → J a = I a) → P (some (vi v)) (J, H))) :
    Call d 193 [vr (some 90) 10, vi lo, vi hi] (I, H) P X := by
  obtain ⟨d, rfl⟩ : ∃ e, d = e + 1 := ⟨d - 1, by omega⟩
  have hb := hR.bd
  have hn := hL.2.1
  have ht := th_bd hb.1 hb.2.1 hL.2.2.1
  show WP (Call d) 193 P X (0, [some (vr (some 90) 10), some (vi lo), some (vi hi), none, none], [], (I, H), 0, 0)
  refine WP.go 2 (And.intro rfl (?_))
  refine rw_i (Q := fun x9 => WP (Call d) 193 P X (2, [some (vr (some 90) 10), some (vi lo), some (vi hi), none, none], [vi x9], (I, H), 0, 0)) hF ?_
  show WP (Call d) 193 P X (2, [some (vr (some 90) 10), some (vi lo), some (vi hi), none, none], [vi (-1)], (I, H), 0, 0)
  refine WP.go 2 (And.intro (fun (b3 : (-1) = (-1)) => ?_) (fun (b3 : ¬ (-1) = (-1)) => (absurd b3 (by omega))))
  show WP (Call d) 193 P X (6, [some (vr (some 90) 10), some (vi lo), some (vi hi), none, none], [], (I, H), 0, 0)
  refine WP.go 2 (And.intro (And.intro (Nat.le_of_ble_eq_true rfl) (Nat.le_of_ble_eq_true rfl)) (And.intro rfl (?_)))
  show Call d 189 [vr (some 90) 10] (I, H) _ _
  refine s_12_skip (by omega) hS hL hR (fun J7 e7 f7 => ?_)
  show WP (Call d) 193 P X (8, [some (vr (some 90) 10), some (vi lo), some (vi hi), none, none], [], (J7, H), 0, 0)
  have hL_1 : LTX J7 tb n := f7.lt hL
  have h8 : J7 90 8 = n := hL_1.1
  have hk9 := e7
  refine WP.go 2 (And.intro rfl (?_))
  refine rw_i (Q := fun x9 => WP (Call d) 193 P X (10, [some (vr (some 90) 10), some (vi lo), some (vi hi), none, none], [vi x9], (J7, H), 0, 0)) hk9 ?_
  show WP (Call d) 193 P X (10, [some (vr (some 90) 10), some (vi lo), some (vi hi), none, none], [vi p], (J7, H), 0, 0)
  refine WP.go 3 ?_
  show WP (Call d) 193 P X (13, [some (vr (some 90) 10), some (vi lo), some (vi hi), some (vi p), some (vi 0)], [], (J7, H), 0, 0)
  have lp13 : ∀ (n9 : Nat) (K : qI) (v9 : Int) (k : Int) (hm : n - k < (n9 : Int)) (hk : K 90 9 = k) (iv0 : p ≤ k ∧ k ≤ n ∧ k ≤ p + 4) (iv1 : v9 = nvI tb p k) (iv2 : ∀ i, p ≤ i → i < k → isD (tb i)) (iv3 : F9 I K), WP (Call d) 193 P X (13, [some (vr (some 90) 10), some (vi lo), some (vi hi), some (vi p), some (vi v9)], [], (K, H), 0, 0) := by
    intro n9
    induction n9 with
    | zero => intro K v9 k hm hk iv0 iv1 iv2 iv3; exact absurd hm (by omega)
    | succ n9 ih13 =>
      intro K v9 k hm hk iv0 iv1 iv2 iv3
      have hLk := iv3.lt hL
      have h8k : K 90 8 = n := hLk.1
      have m1 := nvI_bd (tb := tb) iv0.1 iv0.2.2 iv2
      refine WP.go 2 (And.intro rfl (?_))
      refine rw_i (Q := fun x9 => WP (Call d) 193 P X (15, [some (vr (some 90) 10), some (vi lo), some (vi hi), some (vi p), some (vi v9)], [vi x9], (K, H), 0, 0)) hk ?_
      show WP (Call d) 193 P X (15, [some (vr (some 90) 10), some (vi lo), some (vi hi), some (vi p), some (vi v9)], [vi k], (K, H), 0, 0)
      refine WP.go 2 (And.intro rfl (?_))
      refine rw_i (Q := fun x9 => WP (Call d) 193 P X (17, [some (vr (some 90) 10), some (vi lo), some (vi hi), some (vi p), some (vi v9)], [vi x9, vi k], (K, H), 0, 0)) h8k ?_
      show WP (Call d) 193 P X (17, [some (vr (some 90) 10), some (vi lo), some (vi hi), some (vi p), some (vi v9)], [vi n, vi k], (K, H), 0, 0)
      have ih50 : ∀  (ex : k = n ∨ ¬ isD (tb k) ∨ k = p + 4), WP (Call d) 193 P X (50, [some (vr (some 90) 10), some (vi lo), some (vi hi), some (vi p), some (vi v9)], [], (K, H), 0, 0) := by
        intro ex
        have hst : ¬ (k = p) → isD (tb p) ∧ (k ≤ p + 3 → bhd tb n p = k) ∧ (3 < k - p → 3 < bhd tb n p - p) := fun q => by
          have hd := iv2 p (by omega) (by omega)
          have hbd := bhd_d (tb := tb) (n := n) hd
          refine ⟨hd, fun z => ?_, fun z => ?_⟩
          · rw [hbd]
            refine fx_u (by omega) (by omega) (fun w => ?_) (fun i q0 q1 => fun w => w (iv2 i (by omega) q1))
            rcases ex with x | x | x
            · omega
            · exact x
            · omega
          · rw [hbd]
            have r := fx_r (q := fun k => ¬ isD (tb k)) (show p + 1 ≤ n by omega) (by omega)
            unfold dE
            rcases Int.lt_or_le (p + 3) (fx (fun k => ¬ isD (tb k)) (p + 1) n) with y | y
            · omega
            · exact absurd (iv2 _ (by omega) (by omega)) (r.2.2.1 (by omega))
        have hsp : k = p → ¬ (p < n ∧ isD (tb p)) := fun q w => by
          rcases ex with x | x | x
          · omega
          · rw [q] at x; exact x w.2
          · omega
        have hval : ¬ (k = p) → k ≤ p + 3 → th tb n p = v9 := fun q z => by
          have w := hst q
          rw [th_d (by omega) w.1, w.2.1 z, if_neg (by omega), iv1]
        have hbig : ¬ (k = p) → 3 < k - p → th tb n p = 3001 := fun q z => by
          have w := hst q
          rw [th_d (by omega) w.1, if_pos (w.2.2 z)]
        have hno : k = p → ¬ (th tb n p ≤ 999) := fun q => by
          have w := hsp q
          rcases ht with x | x | x | x
          · omega
          · omega
          · exact absurd ⟨x.1, x.2.1⟩ w
          · omega
        refine WP.go 2 (And.intro rfl (?_))
        refine rw_i (Q := fun x9 => WP (Call d) 193 P X (52, [some (vr (some 90) 10), some (vi lo), some (vi hi), some (vi p), some (vi v9)], [vi x9], (K, H), 0, 0)) hk ?_
        show WP (Call d) 193 P X (52, [some (vr (some 90) 10), some (vi lo), some (vi hi), some (vi p), some (vi v9)], [vi k], (K, H), 0, 0)
        refine WP.go 2 (And.intro (fun (b53 : k = p) => ?_) (fun (b53 : ¬ k = p) => ?_))
        ·
          show WP (Call d) 193 P X (66, [some (vr (some 90) 10), some (vi lo), some (vi hi), some (vi p), some (vi v9)], [], (K, H), 0, 0)
          refine WP.go 3 (And.intro (And.intro (Nat.le_of_ble_eq_true rfl) (Nat.le_of_ble_eq_true rfl)) (And.intro rfl (?_)))
          show Call d 192 [vr (some 90) 10, vi p] (K, H) _ _
          refine s_12_wrong (by omega) ((iv3.1 10 (by omega)).trans hF) (fun J68 e68 f68 => ?_)
          show WP (Call d) 193 P X (69, [some (vr (some 90) 10), some (vi lo), some (vi hi), some (vi p), some (vi v9)], [], (J68, H), 0, 0)
          refine WP.go 2 (And.intro (And.intro (Nat.le_of_ble_eq_true rfl) (Nat.le_of_ble_eq_true rfl)) (And.intro trivial (?_)))
          show P (some (vi v9)) (J68, H)
          exact h.2 (by have := hno (by omega); omega) _ _ (by rw [e68]; rfl) (by rw [e68]; show 0 ≤ K 90 9 ∧ K 90 9 ≤ n; omega) (by omega) (fun s q1 q2 => by rw [e68]; exact (if_neg q2).trans (iv3.1 s q1)) (fun a q => (f68 a q).trans (iv3.2 a q))
        ·
          show WP (Call d) 193 P X (54, [some (vr (some 90) 10), some (vi lo), some (vi hi), some (vi p), some (vi v9)], [], (K, H), 0, 0)
          refine WP.go 2 (And.intro rfl (?_))
          refine rw_i (Q := fun x9 => WP (Call d) 193 P X (56, [some (vr (some 90) 10), some (vi lo), some (vi hi), some (vi p), some (vi v9)], [vi x9], (K, H), 0, 0)) hk ?_
          show WP (Call d) 193 P X (56, [some (vr (some 90) 10), some (vi lo), some (vi hi), some (vi p), some (vi v9)], [vi k], (K, H), 0, 0)
          refine WP.go 4 (Exists.intro (k - p) (And.intro (wrp_a (by omega) (by omega)) (And.intro (fun (b59 : 3 < k - p) => ?_) (fun (b59 : ¬ 3 < k - p) => ?_))))
          ·
            show WP (Call d) 193 P X (66, [some (vr (some 90) 10), some (vi lo), some (vi hi), some (vi p), some (vi v9)], [], (K, H), 0, 0)
            refine WP.go 3 (And.intro (And.intro (Nat.le_of_ble_eq_true rfl) (Nat.le_of_ble_eq_true rfl)) (And.intro rfl (?_)))
            show Call d 192 [vr (some 90) 10, vi p] (K, H) _ _
            refine s_12_wrong (by omega) ((iv3.1 10 (by omega)).trans hF) (fun J68_1 e68_1 f68_1 => ?_)
            show WP (Call d) 193 P X (69, [some (vr (some 90) 10), some (vi lo), some (vi hi), some (vi p), some (vi v9)], [], (J68_1, H), 0, 0)
            refine WP.go 2 (And.intro (And.intro (Nat.le_of_ble_eq_true rfl) (Nat.le_of_ble_eq_true rfl)) (And.intro trivial (?_)))
            show P (some (vi v9)) (J68_1, H)
            exact h.2 (by have := hbig (by omega) (by omega); omega) _ _ (by rw [e68_1]; rfl) (by rw [e68_1]; show 0 ≤ K 90 9 ∧ K 90 9 ≤ n; omega) (by omega) (fun s q1 q2 => by rw [e68_1]; exact (if_neg q2).trans (iv3.1 s q1)) (fun a q => (f68_1 a q).trans (iv3.2 a q))
          ·
            show WP (Call d) 193 P X (60, [some (vr (some 90) 10), some (vi lo), some (vi hi), some (vi p), some (vi v9)], [], (K, H), 0, 0)
            refine WP.go 3 (And.intro (fun (b62 : v9 < lo) => ?_) (fun (b62 : ¬ v9 < lo) => ?_))
            ·
              show WP (Call d) 193 P X (66, [some (vr (some 90) 10), some (vi lo), some (vi hi), some (vi p), some (vi v9)], [], (K, H), 0, 0)
              refine WP.go 3 (And.intro (And.intro (Nat.le_of_ble_eq_true rfl) (Nat.le_of_ble_eq_true rfl)) (And.intro rfl (?_)))
              show Call d 192 [vr (some 90) 10, vi p] (K, H) _ _
              refine s_12_wrong (by omega) ((iv3.1 10 (by omega)).trans hF) (fun J68_2 e68_2 f68_2 => ?_)
              show WP (Call d) 193 P X (69, [some (vr (some 90) 10), some (vi lo), some (vi hi), some (vi p), some (vi v9)], [], (J68_2, H), 0, 0)
              refine WP.go 2 (And.intro (And.intro (Nat.le_of_ble_eq_true rfl) (Nat.le_of_ble_eq_true rfl)) (And.intro trivial (?_)))
              show P (some (vi v9)) (J68_2, H)
              exact h.2 (by have := hval (by omega) (by omega); omega) _ _ (by rw [e68_2]; rfl) (by rw [e68_2]; show 0 ≤ K 90 9 ∧ K 90 9 ≤ n; omega) (by omega) (fun s q1 q2 => by rw [e68_2]; exact (if_neg q2).trans (iv3.1 s q1)) (fun a q => (f68_2 a q).trans (iv3.2 a q))
            ·
              show WP (Call d) 193 P X (63, [some (vr (some 90) 10), some (vi lo), some (vi hi), some (vi p), some (vi v9)], [], (K, H), 0, 0)
              refine WP.go 3 (And.intro (fun (b65 : ¬ hi < v9) => ?_) (fun (b65 : hi < v9) => ?_))
              ·
                show WP (Call d) 193 P X (69, [some (vr (some 90) 10), some (vi lo), some (vi hi), some (vi p), some (vi v9)], [], (K, H), 0, 0)
                refine WP.go 2 (And.intro (And.intro (Nat.le_of_ble_eq_true rfl) (Nat.le_of_ble_eq_true rfl)) (And.intro trivial (?_)))
                show P (some (vi v9)) (K, H)
                exact fin_i (hval (by omega) (by omega)).symm (h.1 (by have := hval (by omega) (by omega); omega) _ (hk.trans ((hst (by omega)).2.1 (by omega)).symm) iv3)
              ·
                show WP (Call d) 193 P X (66, [some (vr (some 90) 10), some (vi lo), some (vi hi), some (vi p), some (vi v9)], [], (K, H), 0, 0)
                refine WP.go 3 (And.intro (And.intro (Nat.le_of_ble_eq_true rfl) (Nat.le_of_ble_eq_true rfl)) (And.intro rfl (?_)))
                show Call d 192 [vr (some 90) 10, vi p] (K, H) _ _
                refine s_12_wrong (by omega) ((iv3.1 10 (by omega)).trans hF) (fun J68_3 e68_3 f68_3 => ?_)
                show WP (Call d) 193 P X (69, [some (vr (some 90) 10), some (vi lo), some (vi hi), some (vi p), some (vi v9)], [], (J68_3, H), 0, 0)
                refine WP.go 2 (And.intro (And.intro (Nat.le_of_ble_eq_true rfl) (Nat.le_of_ble_eq_true rfl)) (And.intro trivial (?_)))
                show P (some (vi v9)) (J68_3, H)
                exact h.2 (by have := hval (by omega) (by omega); omega) _ _ (by rw [e68_3]; rfl) (by rw [e68_3]; show 0 ≤ K 90 9 ∧ K 90 9 ≤ n; omega) (by omega) (fun s q1 q2 => by rw [e68_3]; exact (if_neg q2).trans (iv3.1 s q1)) (fun a q => (f68_3 a q).trans (iv3.2 a q))
      refine WP.go 1 (And.intro (fun (b17 : ¬ k < n) => ?_) (fun (b17 : k < n) => ?_))
      ·
        show WP (Call d) 193 P X (50, [some (vr (some 90) 10), some (vi lo), some (vi hi), some (vi p), some (vi v9)], [], (K, H), 0, 0)
        exact ih50  (.inl (by omega))
      ·
        show WP (Call d) 193 P X (18, [some (vr (some 90) 10), some (vi lo), some (vi hi), some (vi p), some (vi v9)], [], (K, H), 0, 0)
        refine WP.go 3 (And.intro rfl (?_))
        refine rw_i (Q := fun x9 => WP (Call d) 193 P X (21, [some (vr (some 90) 10), some (vi lo), some (vi hi), some (vi p), some (vi v9)], [vi x9, vr (some 90) 10], (K, H), 0, 0)) hk ?_
        show WP (Call d) 193 P X (21, [some (vr (some 90) 10), some (vi lo), some (vi hi), some (vi p), some (vi v9)], [vi k, vr (some 90) 10], (K, H), 0, 0)
        refine WP.go 1 (And.intro (And.intro (Nat.le_of_ble_eq_true rfl) (Nat.le_of_ble_eq_true rfl)) (And.intro rfl (?_)))
        show Call d 188 [vr (some 90) 10, vi k] (K, H) _ _
        refine s_12_letter (by omega) hS hLk (by omega) ?_
        show WP (Call d) 193 P X (22, [some (vr (some 90) 10), some (vi lo), some (vi hi), some (vi p), some (vi v9)], [vi (tb k)], (K, H), 0, 0)
        refine WP.go 3 (And.intro (And.intro (Nat.le_of_ble_eq_true rfl) (Nat.le_of_ble_eq_true rfl)) (And.intro rfl (?_)))
        show Call d 177 [vi (tb k), vi 48, vi 57] (K, H) _ _
        refine s_12_isIn (by omega)  ?_
        show WP (Call d) 193 P X (25, [some (vr (some 90) 10), some (vi lo), some (vi hi), some (vi p), some (vi v9)], [vi (bz (48 ≤ (tb k) ∧ (tb k) ≤ 57))], (K, H), 0, 0)
        refine WP.go 1 (And.intro (fun (b25 : bz (48 ≤ (tb k) ∧ (tb k) ≤ 57) = 0) => ?_) (fun (b25 : ¬ bz (48 ≤ (tb k) ∧ (tb k) ≤ 57) = 0) => ?_))
        ·
          show WP (Call d) 193 P X (50, [some (vr (some 90) 10), some (vi lo), some (vi hi), some (vi p), some (vi v9)], [], (K, H), 0, 0)
          have z25 := bz_e0.mp b25
          exact ih50  (.inr (.inl (bz_e0.mp b25)))
        ·
          show WP (Call d) 193 P X (26, [some (vr (some 90) 10), some (vi lo), some (vi hi), some (vi p), some (vi v9)], [], (K, H), 0, 0)
          have z25 := bz_e1.mp b25
          refine WP.go 2 (And.intro rfl (?_))
          refine rw_i (Q := fun x9 => WP (Call d) 193 P X (28, [some (vr (some 90) 10), some (vi lo), some (vi hi), some (vi p), some (vi v9)], [vi x9], (K, H), 0, 0)) hk ?_
          show WP (Call d) 193 P X (28, [some (vr (some 90) 10), some (vi lo), some (vi hi), some (vi p), some (vi v9)], [vi k], (K, H), 0, 0)
          refine WP.go 4 (Exists.intro (k - p) (And.intro (wrp_a (by omega) (by omega)) (And.intro (fun (b31 : ¬ k - p < 4) => ?_) (fun (b31 : k - p < 4) => ?_))))
          ·
            show WP (Call d) 193 P X (50, [some (vr (some 90) 10), some (vi lo), some (vi hi), some (vi p), some (vi v9)], [], (K, H), 0, 0)
            exact ih50  (.inr (.inr (by omega)))
          ·
            show WP (Call d) 193 P X (32, [some (vr (some 90) 10), some (vi lo), some (vi hi), some (vi p), some (vi v9)], [], (K, H), 0, 0)
            refine WP.go 1 ?_
            show WP (Call d) 193 P X (33, [some (vr (some 90) 10), some (vi lo), some (vi hi), some (vi p), some (vi v9)], [vi 10], (K, H), 0, 0)
            have m2 : 48 ≤ tb k ∧ tb k ≤ 57 := bz_e1.mp b25
            refine WP.go 5 (Exists.intro (10 * v9) (And.intro (wrp_a (by omega) (by omega)) (And.intro rfl (?_))))
            refine rw_i (Q := fun x9 => WP (Call d) 193 P X (38, [some (vr (some 90) 10), some (vi lo), some (vi hi), some (vi p), some (vi v9)], [vi x9, vr (some 90) 10, vi (10 * v9)], (K, H), 0, 0)) hk ?_
            show WP (Call d) 193 P X (38, [some (vr (some 90) 10), some (vi lo), some (vi hi), some (vi p), some (vi v9)], [vi k, vr (some 90) 10, vi (10 * v9)], (K, H), 0, 0)
            refine WP.go 1 (And.intro (And.intro (Nat.le_of_ble_eq_true rfl) (Nat.le_of_ble_eq_true rfl)) (And.intro rfl (?_)))
            show Call d 188 [vr (some 90) 10, vi k] (K, H) _ _
            refine s_12_letter (by omega) hS hLk (by omega) ?_
            show WP (Call d) 193 P X (39, [some (vr (some 90) 10), some (vi lo), some (vi hi), some (vi p), some (vi v9)], [vi (tb k), vi (10 * v9)], (K, H), 0, 0)
            refine WP.go 7 (Exists.intro ((10 * v9) + (tb k)) (And.intro (wrp_a (by omega) (by omega)) (Exists.intro (((10 * v9) + (tb k)) - 48) (And.intro (wrp_a (by omega) (by omega)) (And.intro rfl (?_))))))
            refine rw_i (Q := fun x9 => WP (Call d) 193 P X (46, [some (vr (some 90) 10), some (vi lo), some (vi hi), some (vi p), some (vi (((10 * v9) + (tb k)) - 48))], [vi x9, vr (some 90) 10], (K, H), 0, 0)) hk ?_
            show WP (Call d) 193 P X (46, [some (vr (some 90) 10), some (vi lo), some (vi hi), some (vi p), some (vi (((10 * v9) + (tb k)) - 48))], [vi k, vr (some 90) 10], (K, H), 0, 0)
            refine WP.go 4 (Exists.intro (k + 1) (And.intro (wrp_a (by omega) (by omega)) (And.intro (And.intro rfl trivial) (?_))))
            show WP (Call d) 193 P X (13, [some (vr (some 90) 10), some (vi lo), some (vi hi), some (vi p), some (vi (((10 * v9) + (tb k)) - 48))], [], ((upI K 90 9 (k + 1)), H), 0, 0)
            exact ih13 (upI K 90 9 (k + 1)) (((10 * v9) + (tb k)) - 48) (k + 1) (by omega) (upI_same _ _ _ _) (by omega) (by rw [nvI_s iv0.1, ← iv1]) (fun i q0 q1 => by rcases Int.lt_or_eq_of_le (show i ≤ k by omega) with z | z; exact iv2 i q0 z; rw [z]; exact bz_e1.mp b25) (iv3.tr (F9.up K _))
  exact lp13 ((n - p : Int).toNat + 1) J7 0 p (by omega) e7 (by omega) (nvI_0 _ _).symm (fun i q0 q1 => by omega) f7

