theorem s_7_wrongIn_T69 {d : Nat} {P : Option qV → qH → Prop} {X : Nat → qH → Prop} {I : qI} {H : qS} {μ : Int → Int} (hd : 42 ≤ d) {tb : Int → Int} {n : Int} (hS : Shp H) (hX : SX I) (hK : TOK I 69 tb n) (hT : TR 27 I μ) (hV : IM μ) (h : ∀ J : qI, TR 27 J (lnT tb n (tln tb n) μ).2 → (∀ s, s ≠ 3 → J 69 s = I 69 s) → (∀ a, a < 27 ∨ 47 < a → a ≠ 69 → J a = I a) → P (some (vi (lnT tb n (tln tb n) μ).1)) (J, H)) :
    Call d 78 [vr (some 69) 7] (I, H) P X := by
  obtain ⟨d, rfl⟩ : ∃ e, d = e + 1 := ⟨d - 1, by omega⟩
  show WP (Call d) 78 P X (0, [some (vr (some 69) 7), none], [], (I, H), 0, 0)
  refine WP.go 3 (And.intro (And.intro rfl trivial) (?_))
  show WP (Call d) 78 P X (3, [some (vr (some 69) 7), none], [], ((upI I 69 3 0), H), 0, 0)
  generalize hq_J0 : (upI I 69 3 0) = J0
  have e_J0 : J0 69 = (fun j => if j = 3 then 0 else I 69 j) := by rw [← hq_J0]; exact upI_self _ _ _ _
  have f_J0 : ∀ a, a ≠ 69 → J0 a = I a := fun a q => by rw [← hq_J0]; exact upI_cell q
  have hK_1 : TOK J0 69 tb n := (hK.st e_J0 f_J0).1
  have hat_2 : ATP J0 69 (sk tb n 0) := (hK.st e_J0 f_J0).2
  have hT_3 : TR 27 J0 μ := hT.fr (fun a q1 q2 => f_J0 a (by omega))
  refine WP.go 2 (And.intro (And.intro (Nat.le_of_ble_eq_true rfl) (Nat.le_of_ble_eq_true rfl)) (And.intro rfl (?_)))
  show Call d 79 [vr (some 69) 7] (J0, H) _ _
  refine s_7_present_T69 (by omega) hS hK_1 hat_2 ?_
  show WP (Call d) 78 P X (5, [some (vr (some 69) 7), none], [vi (th tb n (sk tb n 0))], (J0, H), 0, 0)
  refine WP.go 2 (And.intro (fun (b6 : ¬ th tb n (sk tb n 0) = 3000) => ?_) (fun (b6 : th tb n (sk tb n 0) = 3000) => ?_))
  ·
    show WP (Call d) 78 P X (9, [some (vr (some 69) 7), none], [], (J0, H), 0, 0)
    refine WP.go 2 ?_
    show WP (Call d) 78 P X (11, [some (vr (some 69) 7), some (vi 0)], [], (J0, H), 0, 0)
    have lp11 : ∀ (n9 : Nat) (K : qI) (i : Int) (c9 : Int → Int) (p9 : Int) (hm : 12 - i < (n9 : Int)) (kv0 : 0 ≤ i ∧ i ≤ 12) (kv1 : TOK K 69 tb n) (kv2 : ATP K 69 p9) (kv3 : TR 27 K c9) (kv5 : IM c9) (kv6 : (∀ s, s ≠ 3 → K 69 s = I 69 s) ∧ (∀ a, a < 27 ∨ 47 < a → a ≠ 69 → K a = I a)) (kv7 : lnT tb n (tln tb n) μ = lnL tb n (tln tb n) (12 - i).toNat p9 c9), WP (Call d) 78 P X (11, [some (vr (some 69) 7), some (vi i)], [], (K, H), 0, 0) := by
      intro n9
      induction n9 with
      | zero => intro K i c9 p9 hm kv0 kv1 kv2 kv3 kv5 kv6 kv7; exact absurd hm (by omega)
      | succ n9 ih11 =>
        intro K i c9 p9 hm kv0 kv1 kv2 kv3 kv5 kv6 kv7
        have hXk : SX K := hX.fr (kv6.2 0 (by omega) (by omega)) (kv6.2 1 (by omega) (by omega))
        refine WP.go 3 (And.intro (fun (b13 : ¬ i < 12) => ?_) (fun (b13 : i < 12) => ?_))
        ·
          show WP (Call d) 78 P X (35, [some (vr (some 69) 7), some (vi i)], [], (K, H), 0, 0)
          refine WP.go 2 (And.intro (And.intro (Nat.le_of_ble_eq_true rfl) (Nat.le_of_ble_eq_true rfl)) (And.intro rfl (?_)))
          show Call d 80 [vr (some 69) 7] (K, H) _ _
          refine s_7_begin_T69 (by omega) hS kv1 kv2 ?_
          show WP (Call d) 78 P X (37, [some (vr (some 69) 7), some (vi i)], [vi p9], (K, H), 0, 0)
          refine WP.go 1 (And.intro (And.intro (Nat.le_of_ble_eq_true rfl) (Nat.le_of_ble_eq_true rfl)) (And.intro trivial (?_)))
          show P (some (vi p9)) (K, H)
          have r9 : lnT tb n (tln tb n) μ = (p9, c9) := kv7.trans (lnL_0 (by omega))
          exact fin_i (by rw [r9]) (h _ (by rw [r9]; exact kv3) kv6.1 kv6.2)
        ·
          show WP (Call d) 78 P X (14, [some (vr (some 69) 7), some (vi i)], [], (K, H), 0, 0)
          refine WP.go 2 (And.intro (And.intro (Nat.le_of_ble_eq_true rfl) (Nat.le_of_ble_eq_true rfl)) (?_))
          show Call d 106 [vr (some 69) 7] (K, H) _ _
          refine s_9_readLine (by omega) hS hXk kv1 kv2 kv3 kv5 ⟨(fun q15 J15 e15 f15 g15 k15 => ?_), (fun q15_1 J15_1 e15_1 f15_1 g15_1 k15_1 => ?_)⟩
          ·
            show WP (Call d) 78 P X (16, [some (vr (some 69) 7), some (vi i)], [vi 0], (J15, H), 0, 0)
            have hK_4 : TOK J15 69 tb n := kv1.fr (g15 2 (by omega)) (k15 70 (by omega) (by omega)) (k15 71 (by omega) (by omega))
            have hat_5 : ATP J15 69 (tln tb n p9 c9).1 := e15
            refine WP.go 1 (And.intro (fun (b16 : ¬ 0 = 0) => (absurd b16 (by omega))) (fun (b16 : 0 = 0) => ?_))
            show WP (Call d) 78 P X (17, [some (vr (some 69) 7), some (vi i)], [], (J15, H), 0, 0)
            refine WP.go 2 (And.intro (And.intro (Nat.le_of_ble_eq_true rfl) (Nat.le_of_ble_eq_true rfl)) (And.intro rfl (?_)))
            show Call d 80 [vr (some 69) 7] (J15, H) _ _
            refine s_7_begin_T69 (by omega) hS hK_4 hat_5 ?_
            show WP (Call d) 78 P X (19, [some (vr (some 69) 7), some (vi i)], [vi ((tln tb n p9 c9).1)], (J15, H), 0, 0)
            refine WP.go 1 (And.intro (And.intro (Nat.le_of_ble_eq_true rfl) (Nat.le_of_ble_eq_true rfl)) (And.intro trivial (?_)))
            show P (some (vi ((tln tb n p9 c9).1))) (J15, H)
            have r9 : lnT tb n (tln tb n) μ = ((tln tb n p9 c9).1, (tln tb n p9 c9).2.1) := kv7.trans (by rw [lnL_s (by omega), if_pos q15])
            exact fin_i (by rw [r9]) (h _ (by rw [r9]; exact f15) (fun s q1 => (g15 s q1).trans (kv6.1 s q1)) (fun a q1 q2 => (k15 a q1 q2).trans (kv6.2 a q1 q2)))
          ·
            show WP (Call d) 78 P X (16, [some (vr (some 69) 7), some (vi i)], [vi 1], (J15_1, H), 0, 0)
            have hK_6 : TOK J15_1 69 tb n := kv1.fr (g15_1 2 (by omega)) (k15_1 70 (by omega) (by omega)) (k15_1 71 (by omega) (by omega))
            have hat_7 : ATP J15_1 69 (tln tb n p9 c9).2.2 := e15_1
            refine WP.go 1 (And.intro (fun (b16 : ¬ 1 = 0) => ?_) (fun (b16 : 1 = 0) => (absurd b16 (by omega))))
            show WP (Call d) 78 P X (20, [some (vr (some 69) 7), some (vi i)], [], (J15_1, H), 0, 0)
            refine WP.go 2 (And.intro (And.intro (Nat.le_of_ble_eq_true rfl) (Nat.le_of_ble_eq_true rfl)) (And.intro rfl (?_)))
            show Call d 79 [vr (some 69) 7] (J15_1, H) _ _
            refine s_7_present_T69 (by omega) hS hK_6 hat_7 ?_
            show WP (Call d) 78 P X (22, [some (vr (some 69) 7), some (vi i)], [vi (th tb n (tln tb n p9 c9).2.2)], (J15_1, H), 0, 0)
            refine WP.go 2 (And.intro (fun (b23 : ¬ th tb n (tln tb n p9 c9).2.2 = 3000) => ?_) (fun (b23 : th tb n (tln tb n p9 c9).2.2 = 3000) => ?_))
            ·
              show WP (Call d) 78 P X (26, [some (vr (some 69) 7), some (vi i)], [], (J15_1, H), 0, 0)
              refine WP.go 3 (And.intro (And.intro (Nat.le_of_ble_eq_true rfl) (Nat.le_of_ble_eq_true rfl)) (And.intro rfl (?_)))
              show Call d 81 [vr (some 69) 7, vi 2059] (J15_1, H) _ _
              refine s_skip_T69 (by omega) hS hK_6 hat_7 (by omega) ⟨(fun q28 J28 e28 f28 g28 => ?_), (fun q28_1 => ?_)⟩
              ·
                show WP (Call d) 78 P X (29, [some (vr (some 69) 7), some (vi i)], [vi 1], (J28, H), 0, 0)
                have hK_8 : TOK J28 69 tb n := hK_6.fr (e28 2 (by omega)) (f28 70 (by omega)) (f28 71 (by omega))
                have hat_9 : ATP J28 69 (nx tb n (tln tb n p9 c9).2.2) := g28
                refine WP.go 1 (And.intro (fun (b29 : ¬ 1 = 0) => ?_) (fun (b29 : 1 = 0) => (absurd b29 (by omega))))
                show WP (Call d) 78 P X (33, [some (vr (some 69) 7), some (vi i)], [], (J28, H), 0, 0)
                refine WP.go 2 (Exists.intro (i + 1) (And.intro (wrp_a (by omega) (by omega)) (?_)))
                show WP (Call d) 78 P X (11, [some (vr (some 69) 7), some (vi (i + 1))], [], (J28, H), 0, 0)
                exact ih11 J28 (i + 1) ((tln tb n p9 c9).2.1) (nx tb n (tln tb n p9 c9).2.2) (by omega) (by omega) hK_8 hat_9 (f15_1.fr (fun a q1 q2 => f28 a (by omega))) (tln_im kv5) ⟨fun s q1 => by rw [e28 s q1, g15_1 s q1]; exact kv6.1 s q1, fun a q1 q2 => by rw [f28 a q2, k15_1 a q1 q2]; exact kv6.2 a q1 q2⟩ (kv7.trans (by rw [lnL_s (by omega), if_neg (fun z => z q15_1), if_neg b23, if_pos q28]))
              ·
                show WP (Call d) 78 P X (29, [some (vr (some 69) 7), some (vi i)], [vi 0], (J15_1, H), 0, 0)
                refine WP.go 1 (And.intro (fun (b29 : ¬ 0 = 0) => (absurd b29 (by omega))) (fun (b29 : 0 = 0) => ?_))
                show WP (Call d) 78 P X (30, [some (vr (some 69) 7), some (vi i)], [], (J15_1, H), 0, 0)
                refine WP.go 2 (And.intro (And.intro (Nat.le_of_ble_eq_true rfl) (Nat.le_of_ble_eq_true rfl)) (And.intro rfl (?_)))
                show Call d 80 [vr (some 69) 7] (J15_1, H) _ _
                refine s_7_begin_T69 (by omega) hS hK_6 hat_7 ?_
                show WP (Call d) 78 P X (32, [some (vr (some 69) 7), some (vi i)], [vi ((tln tb n p9 c9).2.2)], (J15_1, H), 0, 0)
                refine WP.go 1 (And.intro (And.intro (Nat.le_of_ble_eq_true rfl) (Nat.le_of_ble_eq_true rfl)) (And.intro trivial (?_)))
                show P (some (vi ((tln tb n p9 c9).2.2))) (J15_1, H)
                have r9 : lnT tb n (tln tb n) μ = ((tln tb n p9 c9).2.2, (tln tb n p9 c9).2.1) := kv7.trans (by rw [lnL_s (by omega), if_neg (fun z => z q15_1), if_neg b23, if_neg q28_1])
                exact fin_i (by rw [r9]) (h _ (by rw [r9]; exact f15_1) (fun s q1 => (g15_1 s q1).trans (kv6.1 s q1)) (fun a q1 q2 => (k15_1 a q1 q2).trans (kv6.2 a q1 q2)))
            ·
              show WP (Call d) 78 P X (24, [some (vr (some 69) 7), some (vi i)], [], (J15_1, H), 0, 0)
              refine WP.go 2 (And.intro (And.intro (Nat.le_of_ble_eq_true rfl) (Nat.le_of_ble_eq_true rfl)) (And.intro trivial (?_)))
              show P (some (vi (-1))) (J15_1, H)
              have r9 : lnT tb n (tln tb n) μ = (-1, (tln tb n p9 c9).2.1) := kv7.trans (by rw [lnL_s (by omega), if_neg (fun z => z q15_1), if_pos b23])
              exact fin_i (by rw [r9]) (h _ (by rw [r9]; exact f15_1) (fun s q1 => (g15_1 s q1).trans (kv6.1 s q1)) (fun a q1 q2 => (k15_1 a q1 q2).trans (kv6.2 a q1 q2)))
    exact lp11 ((12 - 0 : Int).toNat + 1) J0 0 μ (sk tb n 0) (by omega) (by omega) hK_1 hat_2 hT_3 hV ⟨fun s q1 => by rw [e_J0]; exact if_neg q1, fun a _ q => f_J0 a q⟩ (if_neg b6)
  ·
    show WP (Call d) 78 P X (7, [some (vr (some 69) 7), none], [], (J0, H), 0, 0)
    refine WP.go 2 (And.intro (And.intro (Nat.le_of_ble_eq_true rfl) (Nat.le_of_ble_eq_true rfl)) (And.intro trivial (?_)))
    show P (some (vi (-1))) (J0, H)
    exact fin_i (by unfold lnT; rw [if_pos b6]) (h _ (by unfold lnT; rw [if_pos b6]; exact hT_3) (fun s q1 => by rw [e_J0]; exact if_neg q1) (fun a _ q => f_J0 a q))

