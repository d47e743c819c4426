theorem wln_c {tb : Int → Int} {n ang p c : Int} (h : c = -1 ∨ (0 ≤ c ∧ c < 81)) : (wln tb n ang p c).2.1 = -1 ∨ (0 ≤ (wln tb n ang p c).2.1 ∧ (wln tb n ang p c).2.1 < 81) := by
  unfold wln
  split
  · exact h
  · split
    · exact h
    · split
      · exact h
      · show (if c = -1 then -1 else coff c _ _) = -1 ∨ _
        by_cases z : c = -1
        · rw [if_pos z]; exact .inl rfl
        · rw [if_neg z]; exact coff_bd _ _ _
theorem lnL_0 {σ : Type} {tb : Int → Int} {n : Int} {ln : Int → σ → Int × σ × Int} {p : Int} {c : σ} {i : Int} (h : 12 ≤ i) : lnL tb n ln (12 - i).toNat p c = (p, c) := by rw [show (12 - i).toNat = 0 by omega]; rfl
theorem TOK.st {I : qI} {T : Nat} {tb : Int → Int} {n : Int} (h : TOK I T tb n) {J : qI} (e : J T = fun s => if s = 3 then 0 else I T s) (f : ∀ a, a ≠ T → J a = I a) : TOK J T tb n ∧ ATP J T (sk tb n 0) := by
  refine ⟨h.fr (by rw [e]; rfl) (f _ (by omega)) (f _ (by omega)), ?_⟩
  unfold ATP
  rw [e, f _ (by omega)]
  exact ⟨⟨Int.le_refl _, h.1.1⟩, h.2.1⟩
theorem s_7_wrongIn_T76 {d : Nat} {P : Option qV → qH → Prop} {X : Nat → qH → Prop} {I : qI} {H : qS} (hd : 42 ≤ d) {tb : Int → Int} {n c ang : Int} (hS : Shp H) (hX : SX I) (hK : TOK I 76 tb n) (h4 : I 76 4 = c) (h5 : I 76 5 = ang) (hcc : c = -1 ∨ (0 ≤ c ∧ c < 81)) (han : 0 ≤ ang ∧ ang < 96) (h : ∀ J : qI, J 76 4 = (lnT tb n (wln tb n ang) c).2 → (∀ s, s ≠ 3 → s ≠ 4 → J 76 s = I 76 s) → (∀ a, a ≠ 76 → J a = I a) → P (some (vi (lnT tb n (wln tb n ang) c).1)) (J, H)) :
    Call d 78 [vr (some 76) 8] (I, H) P X := by
  obtain ⟨d, rfl⟩ : ∃ e, d = e + 1 := ⟨d - 1, by omega⟩
  show WP (Call d) 78 P X (0, [some (vr (some 76) 8), none], [], (I, H), 0, 0)
  refine WP.go 3 (And.intro (And.intro rfl trivial) (?_))
  show WP (Call d) 78 P X (3, [some (vr (some 76) 8), none], [], ((upI I 76 3 0), H), 0, 0)
  generalize hq_J0 : (upI I 76 3 0) = J0
  have e_J0 : J0 76 = (fun j => if j = 3 then 0 else I 76 j) := by rw [← hq_J0]; exact upI_self _ _ _ _
  have f_J0 : ∀ a, a ≠ 76 → J0 a = I a := fun a q => by rw [← hq_J0]; exact upI_cell q
  have hK_1 : TOK J0 76 tb n := (hK.st e_J0 f_J0).1
  have hat_2 : ATP J0 76 (sk tb n 0) := (hK.st e_J0 f_J0).2
  refine WP.go 2 (And.intro (And.intro (Nat.le_of_ble_eq_true rfl) (Nat.le_of_ble_eq_true rfl)) (And.intro rfl (?_)))
  show Call d 79 [vr (some 76) 8] (J0, H) _ _
  refine s_7_present_T76 (by omega) hS hK_1 hat_2 ?_
  show WP (Call d) 78 P X (5, [some (vr (some 76) 8), none], [vi (th tb n (sk tb n 0))], (J0, H), 0, 0)
  refine WP.go 2 (And.intro (fun (b6 : ¬ th tb n (sk tb n 0) = 3000) => ?_) (fun (b6 : th tb n (sk tb n 0) = 3000) => ?_))
  ·
    show WP (Call d) 78 P X (9, [some (vr (some 76) 8), none], [], (J0, H), 0, 0)
    refine WP.go 2 ?_
    show WP (Call d) 78 P X (11, [some (vr (some 76) 8), some (vi 0)], [], (J0, H), 0, 0)
    have lp11 : ∀ (n9 : Nat) (K : qI) (i : Int) (c9 : Int) (p9 : Int) (hm : 12 - i < (n9 : Int)) (kv0 : 0 ≤ i ∧ i ≤ 12) (kv1 : TOK K 76 tb n) (kv2 : ATP K 76 p9) (kv3 : K 76 4 = c9) (kv4 : K 76 5 = ang) (kv5 : c9 = -1 ∨ (0 ≤ c9 ∧ c9 < 81)) (kv6 : (∀ s, s ≠ 3 → s ≠ 4 → K 76 s = I 76 s) ∧ (∀ a, a ≠ 76 → K a = I a)) (kv7 : lnT tb n (wln tb n ang) c = lnL tb n (wln tb n ang) (12 - i).toNat p9 c9), WP (Call d) 78 P X (11, [some (vr (some 76) 8), some (vi i)], [], (K, H), 0, 0) := by
      intro n9
      induction n9 with
      | zero => intro K i c9 p9 hm kv0 kv1 kv2 kv3 kv4 kv5 kv6 kv7; exact absurd hm (by omega)
      | succ n9 ih11 =>
        intro K i c9 p9 hm kv0 kv1 kv2 kv3 kv4 kv5 kv6 kv7
        have hXk : SX K := hX.fr (kv6.2 0 (by omega)) (kv6.2 1 (by omega))
        refine WP.go 3 (And.intro (fun (b13 : ¬ i < 12) => ?_) (fun (b13 : i < 12) => ?_))
        ·
          show WP (Call d) 78 P X (35, [some (vr (some 76) 8), some (vi i)], [], (K, H), 0, 0)
          refine WP.go 2 (And.intro (And.intro (Nat.le_of_ble_eq_true rfl) (Nat.le_of_ble_eq_true rfl)) (And.intro rfl (?_)))
          show Call d 80 [vr (some 76) 8] (K, H) _ _
          refine s_7_begin_T76 (by omega) hS kv1 kv2 ?_
          show WP (Call d) 78 P X (37, [some (vr (some 76) 8), some (vi i)], [vi p9], (K, H), 0, 0)
          refine WP.go 1 (And.intro (And.intro (Nat.le_of_ble_eq_true rfl) (Nat.le_of_ble_eq_true rfl)) (And.intro trivial (?_)))
          show P (some (vi p9)) (K, H)
          have r9 : lnT tb n (wln tb n ang) c = (p9, c9) := kv7.trans (lnL_0 (by omega))
          exact fin_i (by rw [r9]) (h _ (by rw [r9]; exact kv3) kv6.1 kv6.2)
        ·
          show WP (Call d) 78 P X (14, [some (vr (some 76) 8), some (vi i)], [], (K, H), 0, 0)
          refine WP.go 2 (And.intro (And.intro (Nat.le_of_ble_eq_true rfl) (Nat.le_of_ble_eq_true rfl)) (?_))
          show Call d 114 [vr (some 76) 8] (K, H) _ _
          refine s_10_readLine (by omega) hS hXk kv1 kv2 kv3 kv4 kv5 han ⟨(fun q15 J15 e15 f15 g15 k15 => ?_), (fun q15_1 J15_1 e15_1 f15_1 g15_1 k15_1 => ?_)⟩
          ·
            show WP (Call d) 78 P X (16, [some (vr (some 76) 8), some (vi i)], [vi 0], (J15, H), 0, 0)
            have hK_3 : TOK J15 76 tb n := kv1.fr (g15 2 (by omega) (by omega)) (k15 77 (by omega)) (k15 78 (by omega))
            have hat_4 : ATP J15 76 (wln tb n ang p9 c9).1 := e15
            refine WP.go 1 (And.intro (fun (b16 : ¬ 0 = 0) => (absurd b16 (by omega))) (fun (b16 : 0 = 0) => ?_))
            show WP (Call d) 78 P X (17, [some (vr (some 76) 8), some (vi i)], [], (J15, H), 0, 0)
            refine WP.go 2 (And.intro (And.intro (Nat.le_of_ble_eq_true rfl) (Nat.le_of_ble_eq_true rfl)) (And.intro rfl (?_)))
            show Call d 80 [vr (some 76) 8] (J15, H) _ _
            refine s_7_begin_T76 (by omega) hS hK_3 hat_4 ?_
            show WP (Call d) 78 P X (19, [some (vr (some 76) 8), some (vi i)], [vi ((wln tb n ang p9 c9).1)], (J15, H), 0, 0)
            refine WP.go 1 (And.intro (And.intro (Nat.le_of_ble_eq_true rfl) (Nat.le_of_ble_eq_true rfl)) (And.intro trivial (?_)))
            show P (some (vi ((wln tb n ang p9 c9).1))) (J15, H)
            have r9 : lnT tb n (wln tb n ang) c = ((wln tb n ang p9 c9).1, (wln tb n ang p9 c9).2.1) := kv7.trans (by rw [lnL_s (by omega), if_pos q15])
            exact fin_i (by rw [r9]) (h _ (by rw [r9]; exact f15) (fun s q1 q2 => (g15 s q1 q2).trans (kv6.1 s q1 q2)) (fun a q => (k15 a q).trans (kv6.2 a q)))
          ·
            show WP (Call d) 78 P X (16, [some (vr (some 76) 8), some (vi i)], [vi 1], (J15_1, H), 0, 0)
            have hK_5 : TOK J15_1 76 tb n := kv1.fr (g15_1 2 (by omega) (by omega)) (k15_1 77 (by omega)) (k15_1 78 (by omega))
            have hat_6 : ATP J15_1 76 (wln tb n ang p9 c9).2.2 := e15_1
            refine WP.go 1 (And.intro (fun (b16 : ¬ 1 = 0) => ?_) (fun (b16 : 1 = 0) => (absurd b16 (by omega))))
            show WP (Call d) 78 P X (20, [some (vr (some 76) 8), some (vi i)], [], (J15_1, H), 0, 0)
            refine WP.go 2 (And.intro (And.intro (Nat.le_of_ble_eq_true rfl) (Nat.le_of_ble_eq_true rfl)) (And.intro rfl (?_)))
            show Call d 79 [vr (some 76) 8] (J15_1, H) _ _
            refine s_7_present_T76 (by omega) hS hK_5 hat_6 ?_
            show WP (Call d) 78 P X (22, [some (vr (some 76) 8), some (vi i)], [vi (th tb n (wln tb n ang p9 c9).2.2)], (J15_1, H), 0, 0)
            refine WP.go 2 (And.intro (fun (b23 : ¬ th tb n (wln tb n ang p9 c9).2.2 = 3000) => ?_) (fun (b23 : th tb n (wln tb n ang p9 c9).2.2 = 3000) => ?_))
            ·
              show WP (Call d) 78 P X (26, [some (vr (some 76) 8), some (vi i)], [], (J15_1, H), 0, 0)
              refine WP.go 3 (And.intro (And.intro (Nat.le_of_ble_eq_true rfl) (Nat.le_of_ble_eq_true rfl)) (And.intro rfl (?_)))
              show Call d 81 [vr (some 76) 8, vi 2059] (J15_1, H) _ _
              refine s_skip_T76 (by omega) hS hK_5 hat_6 (by omega) ⟨(fun q28 J28 e28 f28 g28 => ?_), (fun q28_1 => ?_)⟩
              ·
                show WP (Call d) 78 P X (29, [some (vr (some 76) 8), some (vi i)], [vi 1], (J28, H), 0, 0)
                have hK_7 : TOK J28 76 tb n := hK_5.fr (e28 2 (by omega)) (f28 77 (by omega)) (f28 78 (by omega))
                have hat_8 : ATP J28 76 (nx tb n (wln tb n ang p9 c9).2.2) := g28
                refine WP.go 1 (And.intro (fun (b29 : ¬ 1 = 0) => ?_) (fun (b29 : 1 = 0) => (absurd b29 (by omega))))
                show WP (Call d) 78 P X (33, [some (vr (some 76) 8), some (vi i)], [], (J28, H), 0, 0)
                refine WP.go 2 (Exists.intro (i + 1) (And.intro (wrp_a (by omega) (by omega)) (?_)))
                show WP (Call d) 78 P X (11, [some (vr (some 76) 8), some (vi (i + 1))], [], (J28, H), 0, 0)
                exact ih11 J28 (i + 1) ((wln tb n ang p9 c9).2.1) (nx tb n (wln tb n ang p9 c9).2.2) (by omega) (by omega) hK_7 hat_8 ((e28 4 (by omega)).trans f15_1) ((e28 5 (by omega)).trans ((g15_1 5 (by omega) (by omega)).trans kv4)) (wln_c kv5) ⟨fun s q1 q2 => by rw [e28 s q1, g15_1 s q1 q2]; exact kv6.1 s q1 q2, fun a q => by rw [f28 a q, k15_1 a q]; exact kv6.2 a q⟩ (kv7.trans (by rw [lnL_s (by omega), if_neg (fun z => z q15_1), if_neg b23, if_pos q28]))
              ·
                show WP (Call d) 78 P X (29, [some (vr (some 76) 8), some (vi i)], [vi 0], (J15_1, H), 0, 0)
                refine WP.go 1 (And.intro (fun (b29 : ¬ 0 = 0) => (absurd b29 (by omega))) (fun (b29 : 0 = 0) => ?_))
                show WP (Call d) 78 P X (30, [some (vr (some 76) 8), some (vi i)], [], (J15_1, H), 0, 0)
                refine WP.go 2 (And.intro (And.intro (Nat.le_of_ble_eq_true rfl) (Nat.le_of_ble_eq_true rfl)) (And.intro rfl (?_)))
                show Call d 80 [vr (some 76) 8] (J15_1, H) _ _
                refine s_7_begin_T76 (by omega) hS hK_5 hat_6 ?_
                show WP (Call d) 78 P X (32, [some (vr (some 76) 8), some (vi i)], [vi ((wln tb n ang p9 c9).2.2)], (J15_1, H), 0, 0)
                refine WP.go 1 (And.intro (And.intro (Nat.le_of_ble_eq_true rfl) (Nat.le_of_ble_eq_true rfl)) (And.intro trivial (?_)))
                show P (some (vi ((wln tb n ang p9 c9).2.2))) (J15_1, H)
                have r9 : lnT tb n (wln tb n ang) c = ((wln tb n ang p9 c9).2.2, (wln tb n ang p9 c9).2.1) := kv7.trans (by rw [lnL_s (by omega), if_neg (fun z => z q15_1), if_neg b23, if_neg q28_1])
                exact fin_i (by rw [r9]) (h _ (by rw [r9]; exact f15_1) (fun s q1 q2 => (g15_1 s q1 q2).trans (kv6.1 s q1 q2)) (fun a q => (k15_1 a q).trans (kv6.2 a q)))
            ·
              show WP (Call d) 78 P X (24, [some (vr (some 76) 8), some (vi i)], [], (J15_1, H), 0, 0)
              refine WP.go 2 (And.intro (And.intro (Nat.le_of_ble_eq_true rfl) (Nat.le_of_ble_eq_true rfl)) (And.intro trivial (?_)))
              show P (some (vi (-1))) (J15_1, H)
              have r9 : lnT tb n (wln tb n ang) c = (-1, (wln tb n ang p9 c9).2.1) := kv7.trans (by rw [lnL_s (by omega), if_neg (fun z => z q15_1), if_pos b23])
              exact fin_i (by rw [r9]) (h _ (by rw [r9]; exact f15_1) (fun s q1 q2 => (g15_1 s q1 q2).trans (kv6.1 s q1 q2)) (fun a q => (k15_1 a q).trans (kv6.2 a q)))
    exact lp11 ((12 - 0 : Int).toNat + 1) J0 0 c (sk tb n 0) (by omega) (by omega) hK_1 hat_2 (by rw [e_J0]; exact h4) (by rw [e_J0]; exact h5) hcc ⟨fun s q1 q2 => by rw [e_J0]; exact if_neg q1, f_J0⟩ (if_neg b6)
  ·
    show WP (Call d) 78 P X (7, [some (vr (some 76) 8), none], [], (J0, H), 0, 0)
    refine WP.go 2 (And.intro (And.intro (Nat.le_of_ble_eq_true rfl) (Nat.le_of_ble_eq_true rfl)) (And.intro trivial (?_)))
    show P (some (vi (-1))) (J0, H)
    exact fin_i (by unfold lnT; rw [if_pos b6]) (h _ (by unfold lnT; rw [if_pos b6, e_J0]; exact h4) (fun s q1 q2 => by rw [e_J0]; exact if_neg q1) f_J0)

