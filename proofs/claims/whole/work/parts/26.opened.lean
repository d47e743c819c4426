theorem SX.fr {I J : qI} (h : SX I) (e0 : J 0 = I 0) (e1 : J 1 = I 1) : SX J := ⟨fun j h1 h2 => by rw [e0]; exact h.1 j h1 h2, fun j h1 h2 => by rw [e1]; exact h.2 j h1 h2⟩
/-- the almanac is open -/
def OPN (μ : Int → Int) (pl mo : Int) (A T : Int → Int) : Prop := (∀ y, 0 ≤ y → y < 100 → A y = ANG μ pl mo y) ∧ (∀ c, 0 ≤ c → c < 81 → T c = HTC μ (-1) 0 c)
theorem OPN.ab {μ : Int → Int} {pl mo : Int} {A T : Int → Int} (h : OPN μ pl mo A T) (hV : IM μ) : AB A T :=
  ⟨fun y h1 h2 => by rw [h.1 y h1 h2]; exact ANG_bd hV _ _ _, fun c h1 h2 => by rw [h.2 c h1 h2]; exact HTC_bd hV (by omega) _⟩
/-- what a lease asks of a house and a year -/
noncomputable def FCT (μ A T : Int → Int) (h y j : Int) : Int := if j = 0 then y else if j = 1 then LGH μ A T h y else if j = 2 then μ (121 + 2 * h) else if j = 3 then A y else if j = 4 then LVL μ A (μ (120 + 2 * h)) y + 8 else if j = 5 then bz (NOONp μ A T h y) else if j = 6 then bz (LGH μ A T h y = 0) else bz (WDYp μ A T h y)
theorem s_0_raise {d : Nat} {P : Option qV → qH → Prop} {X : Nat → qH → Prop} {I : qI} {H : qS} {μ : Int → Int} (hd : 3 ≤ d) {h9 b : Int} (hS : Shp H) (hT : TR 6 I μ) (hV : IM μ) (hh : 0 ≤ h9 ∧ h9 < μ 1) (hb : -100 ≤ b ∧ b ≤ 100) (hi : -100 ≤ I 81 (μ (120 + 2 * h9)) ∧ I 81 (μ (120 + 2 * h9)) ≤ 100) (h : ∀ J : qI, J 81 = (fun c => if c = μ (120 + 2 * h9) then I 81 (μ (120 + 2 * h9)) + b else I 81 c) → (∀ a, a ≠ 81 → J a = I a) → P none (J, H)) :
    Call d 3 [vr (some 79) 0, vi h9, vi b] (I, H) P X := by
  obtain ⟨d, rfl⟩ : ∃ e, d = e + 1 := ⟨d - 1, by omega⟩
  have hl81 := hS.l81
  have v1 := hV.hc h9 hh.1 hh.2
  show WP (Call d) 3 P X (0, [some (vr (some 79) 0), some (vi h9), some (vi b), none], [], (I, H), 0, 0)
  refine WP.go 4 (And.intro rfl (Exists.intro 6 (And.intro hS.r79_0 (And.intro (And.intro (Nat.le_of_ble_eq_true rfl) (Nat.le_of_ble_eq_true rfl)) (And.intro rfl (?_))))))
  show Call d 93 [vr (some 6) 6, vi h9] (I, H) _ _
  refine s_8_cellOf (by omega) hS (.inl rfl) hT hV (by omega) ?_
  show WP (Call d) 3 P X (4, [some (vr (some 79) 0), some (vi h9), some (vi b), none], [vi (μ (120 + 2 * h9))], (I, H), 0, 0)
  refine WP.go 3 (And.intro (fun (b6 : μ (120 + 2 * h9) < 0) => (absurd b6 (by omega))) (fun (b6 : ¬ μ (120 + 2 * h9) < 0) => ?_))
  show WP (Call d) 3 P X (7, [some (vr (some 79) 0), some (vi h9), some (vi b), some (vi (μ (120 + 2 * h9)))], [], (I, H), 0, 0)
  refine WP.go 5 (And.intro rfl (Exists.intro 81 (And.intro hS.r79_2 (And.intro (Or.inl rfl) (And.intro (fun (b11 : ¬ μ (120 + 2 * h9) < H.2.1 81) => (absurd b11 (by omega))) (fun (b11 : μ (120 + 2 * h9) < H.2.1 81) => ?_))))))
  show WP (Call d) 3 P X (12, [some (vr (some 79) 0), some (vi h9), some (vi b), some (vi (μ (120 + 2 * h9)))], [], (I, H), 0, 0)
  refine WP.go 9 (And.intro rfl (Exists.intro 81 (And.intro hS.r79_2 (And.intro (And.intro rfl (And.intro (show 0 ≤ μ (120 + 2 * h9) from by omega) (show μ (120 + 2 * h9) < H.2.1 81 from by omega))) (Exists.intro ((I 81 (μ (120 + 2 * h9))) + b) (And.intro (wrp_a (by omega) (by omega)) (And.intro (And.intro rfl (And.intro (show 0 ≤ μ (120 + 2 * h9) from by omega) (show μ (120 + 2 * h9) < H.2.1 81 from by omega))) (And.intro (And.intro (Nat.le_of_ble_eq_true rfl) (Nat.le_of_ble_eq_true rfl)) (?_)))))))))
  show P none ((upI I 81 (μ (120 + 2 * h9)) ((I 81 (μ (120 + 2 * h9))) + b)), H)
  exact h _ (upI_self _ _ _ _) (fun a q => upI_cell q)

theorem s_0_openPulled {d : Nat} {P : Option qV → qH → Prop} {X : Nat → qH → Prop} {I : qI} {H : qS} {μ : Int → Int} (hd : 4 ≤ d) {pl mo : Int} (hS : Shp H) (hX : SX I) (hT : TR 6 I μ) (hV : IM μ) (hm : 0 ≤ mo ∧ mo ≤ 48) (h : ∀ J : qI, OPN μ pl mo (J 80) (J 81) → (∀ a, a ≠ 80 → a ≠ 81 → J a = I a) → P none (J, H)) :
    Call d 2 [vr (some 79) 0, vi pl, vi mo] (I, H) P X := by
  obtain ⟨d, rfl⟩ : ∃ e, d = e + 1 := ⟨d - 1, by omega⟩
  have hl80 := hS.l80
  have hl81 := hS.l81
  have v1 := LOAD_bd hV
  have v2 := hV.n1
  have v3 := hV.st
  show WP (Call d) 2 P X (0, [some (vr (some 79) 0), some (vi pl), some (vi mo), none, none, none], [], (I, H), 0, 0)
  refine WP.go 3 (And.intro rfl (Exists.intro 6 (And.intro hS.r79_0 (And.intro (And.intro (Nat.le_of_ble_eq_true rfl) (Nat.le_of_ble_eq_true rfl)) (And.intro rfl (?_))))))
  show Call d 100 [vr (some 6) 6] (I, H) _ _
  refine s_8_load (by omega) hS (.inl rfl) hT hV ?_
  show WP (Call d) 2 P X (3, [some (vr (some 79) 0), some (vi pl), some (vi mo), none, none, none], [vi (LOAD μ)], (I, H), 0, 0)
  refine WP.go 5 (And.intro rfl (Exists.intro 6 (And.intro hS.r79_0 (And.intro (And.intro (Nat.le_of_ble_eq_true rfl) (Nat.le_of_ble_eq_true rfl)) (And.intro rfl (?_))))))
  show Call d 84 [vr (some 6) 6, vi 0] (I, H) _ _
  refine s_dial_0 (by omega) hS (.inl rfl) hT hV ?_
  show WP (Call d) 2 P X (8, [some (vr (some 79) 0), some (vi pl), some (vi mo), some (vi (LOAD μ)), none, none], [vi (μ 9)], (I, H), 0, 0)
  refine WP.go 3 ?_
  show WP (Call d) 2 P X (11, [some (vr (some 79) 0), some (vi pl), some (vi mo), some (vi (LOAD μ)), some (vi (μ 9)), some (vi 0)], [], (I, H), 0, 0)
  have lp11 : ∀ (n9 : Nat) (J : qI) (a9 : Int) (y : Int) (hm : 100 - y < (n9 : Int)) (iv0 : 0 ≤ y ∧ y ≤ 100) (iv1 : a9 = ANG μ pl mo y) (iv2 : ∀ j, 0 ≤ j → j < y → J 80 j = ANG μ pl mo j) (iv3 : ∀ a, a ≠ 80 → J a = I a), WP (Call d) 2 P X (11, [some (vr (some 79) 0), some (vi pl), some (vi mo), some (vi (LOAD μ)), some (vi a9), some (vi y)], [], (J, H), 0, 0) := by
    intro n9
    induction n9 with
    | zero => intro J a9 y hm iv0 iv1 iv2 iv3; exact absurd hm (by omega)
    | succ n9 ih11 =>
      intro J a9 y hm iv0 iv1 iv2 iv3
      have hTj : TR 6 J μ := hT.fr (fun a q1 q2 => iv3 a (by omega))
      have m1 : 0 ≤ a9 ∧ a9 < 96 := by rw [iv1]; exact ANG_bd hV _ _ _
      refine WP.go 5 (And.intro rfl (Exists.intro 80 (And.intro hS.r79_1 (And.intro (Or.inl rfl) (And.intro (fun (b15 : ¬ y < H.2.1 80) => ?_) (fun (b15 : y < H.2.1 80) => ?_))))))
      ·
        show WP (Call d) 2 P X (38, [some (vr (some 79) 0), some (vi pl), some (vi mo), some (vi (LOAD μ)), some (vi a9), some (vi y)], [], (J, H), 0, 0)
        refine WP.go 2 ?_
        show WP (Call d) 2 P X (40, [some (vr (some 79) 0), some (vi pl), some (vi mo), some (vi (LOAD μ)), some (vi a9), some (vi 0)], [], (J, H), 0, 0)
        have lp40 : ∀ (n9 : Nat) (K : qI) (c : Int) (hm : 81 - c < (n9 : Int)) (jv0 : 0 ≤ c ∧ c ≤ 81) (jv1 : ∀ j, 0 ≤ j → j < c → K 81 j = 0) (jv2 : ∀ a, a ≠ 81 → K a = J a), WP (Call d) 2 P X (40, [some (vr (some 79) 0), some (vi pl), some (vi mo), some (vi (LOAD μ)), some (vi a9), some (vi c)], [], (K, H), 0, 0) := by
          intro n9
          induction n9 with
          | zero => intro K c hm jv0 jv1 jv2; exact absurd hm (by omega)
          | succ n9 ih40 =>
            intro K c hm jv0 jv1 jv2
            refine WP.go 5 (And.intro rfl (Exists.intro 81 (And.intro hS.r79_2 (And.intro (Or.inl rfl) (And.intro (fun (b44 : ¬ c < H.2.1 81) => ?_) (fun (b44 : c < H.2.1 81) => ?_))))))
            ·
              show WP (Call d) 2 P X (52, [some (vr (some 79) 0), some (vi pl), some (vi mo), some (vi (LOAD μ)), some (vi a9), some (vi c)], [], (K, H), 0, 0)
              refine WP.go 2 ?_
              show WP (Call d) 2 P X (54, [some (vr (some 79) 0), some (vi pl), some (vi mo), some (vi (LOAD μ)), some (vi a9), some (vi 0)], [], (K, H), 0, 0)
              have lp54 : ∀ (n9 : Nat) (N : qI) (k : Int) (hm : μ 1 - k < (n9 : Int)) (kv0 : 0 ≤ k ∧ k ≤ μ 1) (kv1 : ∀ j, 0 ≤ j → j < 81 → N 81 j = HTk μ (-1) 0 k j) (kv2 : ∀ a, a ≠ 81 → N a = J a), WP (Call d) 2 P X (54, [some (vr (some 79) 0), some (vi pl), some (vi mo), some (vi (LOAD μ)), some (vi a9), some (vi k)], [], (N, H), 0, 0) := by
                intro n9
                induction n9 with
                | zero => intro N k hm kv0 kv1 kv2; exact absurd hm (by omega)
                | succ n9 ih54 =>
                  intro N k hm kv0 kv1 kv2
                  have hTn : TR 6 N μ := hT.fr (fun a q1 q2 => (kv2 a (by omega)).trans (iv3 a (by omega)))
                  refine WP.go 5 (And.intro rfl (Exists.intro 6 (And.intro hS.r79_0 (And.intro rfl (Exists.intro 7 (And.intro hS.r6_0 (And.intro (And.intro (Nat.le_of_ble_eq_true rfl) (Nat.le_of_ble_eq_true rfl)) (And.intro rfl (?_)))))))))
                  show Call d 55 [vr (some 7) 4] (N, H) _ _
                  refine s_size_houses (by omega) hTn ?_
                  show WP (Call d) 2 P X (59, [some (vr (some 79) 0), some (vi pl), some (vi mo), some (vi (LOAD μ)), some (vi a9), some (vi k)], [vi (μ 1), vi k], (N, H), 0, 0)
                  refine WP.go 1 (And.intro (fun (b59 : ¬ k < μ 1) => ?_) (fun (b59 : k < μ 1) => ?_))
                  ·
                    show WP (Call d) 2 P X (69, [some (vr (some 79) 0), some (vi pl), some (vi mo), some (vi (LOAD μ)), some (vi a9), some (vi k)], [], (N, H), 0, 0)
                    refine WP.go 1 (And.intro (And.intro (Nat.le_of_ble_eq_true rfl) (Nat.le_of_ble_eq_true rfl)) (?_))
                    show P none (N, H)
                    exact h _ ⟨fun y9 q1 q2 => by rw [kv2 80 (by omega)]; exact iv2 y9 q1 (by omega), fun c9 q1 q2 => by rw [kv1 c9 q1 q2, show k = μ 1 by omega]; rfl⟩ (fun a q1 q2 => (kv2 a q2).trans (iv3 a q1))
                  ·
                    show WP (Call d) 2 P X (60, [some (vr (some 79) 0), some (vi pl), some (vi mo), some (vi (LOAD μ)), some (vi a9), some (vi k)], [], (N, H), 0, 0)
                    have w1 := hV.hc k kv0.1 (by omega)
                    have w2 := hV.hh k kv0.1 (by omega)
                    refine WP.go 6 (And.intro rfl (Exists.intro 6 (And.intro hS.r79_0 (And.intro (And.intro (Nat.le_of_ble_eq_true rfl) (Nat.le_of_ble_eq_true rfl)) (And.intro rfl (?_))))))
                    show Call d 94 [vr (some 6) 6, vi k] (N, H) _ _
                    refine s_8_heightOf (by omega) hS (.inl rfl) hTn hV (by omega) ?_
                    show WP (Call d) 2 P X (66, [some (vr (some 79) 0), some (vi pl), some (vi mo), some (vi (LOAD μ)), some (vi a9), some (vi k)], [vi (μ (121 + 2 * k)), vi k, vr (some 79) 0], (N, H), 0, 0)
                    refine WP.go 1 (And.intro (And.intro (Nat.le_of_ble_eq_true rfl) (Nat.le_of_ble_eq_true rfl)) (And.intro rfl (?_)))
                    show Call d 3 [vr (some 79) 0, vi k, vi (μ (121 + 2 * k))] (N, H) _ _
                    refine s_0_raise (by omega) hS hTn hV (by omega) (by omega) (by rw [kv1 _ w1.1 (by omega), HTk_f hV kv0.1 (by omega)]; omega) (fun J66 e66 f66 => ?_)
                    show WP (Call d) 2 P X (67, [some (vr (some 79) 0), some (vi pl), some (vi mo), some (vi (LOAD μ)), some (vi a9), some (vi k)], [], (J66, H), 0, 0)
                    refine WP.go 2 (Exists.intro (k + 1) (And.intro (wrp_a (by omega) (by omega)) (?_)))
                    show WP (Call d) 2 P X (54, [some (vr (some 79) 0), some (vi pl), some (vi mo), some (vi (LOAD μ)), some (vi a9), some (vi (k + 1))], [], (J66, H), 0, 0)
                    exact ih54 J66 (k + 1) (by omega) (by omega) (fun j q1 q2 => by rw [e66, HTk_s hV kv0.1 (by omega)]; show (if j = _ then _ else _) = _; rw [kv1 j q1 q2, kv1 _ w1.1 (by omega), HTk_f hV kv0.1 (by omega), Int.zero_add]) (fun a q => by rw [f66 a q]; exact kv2 a q)
              exact lp54 ((μ 1 - 0 : Int).toNat + 1) K 0 (by omega) (by omega) (fun j q1 q2 => by rw [jv1 j q1 (by omega)]; unfold HTk; rw [hON_z, if_pos rfl]) jv2
            ·
              show WP (Call d) 2 P X (45, [some (vr (some 79) 0), some (vi pl), some (vi mo), some (vi (LOAD μ)), some (vi a9), some (vi c)], [], (K, H), 0, 0)
              refine WP.go 7 (And.intro rfl (Exists.intro 81 (And.intro hS.r79_2 (And.intro (And.intro rfl (And.intro (show 0 ≤ c from by omega) (show c < H.2.1 81 from by omega))) (Exists.intro (c + 1) (And.intro (wrp_a (by omega) (by omega)) (?_)))))))
              show WP (Call d) 2 P X (40, [some (vr (some 79) 0), some (vi pl), some (vi mo), some (vi (LOAD μ)), some (vi a9), some (vi (c + 1))], [], ((upI K 81 c 0), H), 0, 0)
              exact ih40 (upI K 81 c 0) (c + 1) (by omega) (by omega) (cp_s (g := fun _ => 0) (upI_self _ _ _ _) jv1 rfl) (fun a q => by rw [upI_cell q]; exact jv2 a q)
        exact lp40 ((81 - 0 : Int).toNat + 1) J 0 (by omega) (by omega) (fun j q1 q2 => by omega) (fun _ _ => rfl)
      ·
        show WP (Call d) 2 P X (16, [some (vr (some 79) 0), some (vi pl), some (vi mo), some (vi (LOAD μ)), some (vi a9), some (vi y)], [], (J, H), 0, 0)
        refine WP.go 5 (And.intro rfl (Exists.intro 80 (And.intro hS.r79_1 (And.intro (And.intro rfl (And.intro (show 0 ≤ y from by omega) (show y < H.2.1 80 from by omega))) (?_)))))
        show WP (Call d) 2 P X (21, [some (vr (some 79) 0), some (vi pl), some (vi mo), some (vi (LOAD μ)), some (vi a9), some (vi y)], [], ((upI J 80 y a9), H), 0, 0)
        generalize hq_J0 : (upI J 80 y a9) = J0
        have e_J0 : J0 80 = (fun j => if j = y then a9 else J 80 j) := by rw [← hq_J0]; exact upI_self _ _ _ _
        have f_J0 : ∀ a, a ≠ 80 → J0 a = J a := fun a q => by rw [← hq_J0]; exact upI_cell q
        have hT_1 : TR 6 J0 μ := hT.fr (fun a q1 q2 => (f_J0 a (by omega)).trans (iv3 a (by omega)))
        refine WP.go 7 (And.intro rfl (Exists.intro 6 (And.intro hS.r79_0 (And.intro (fun (b27 : ¬ y = pl) => ?_) (fun (b27 : y = pl) => ?_)))))
        ·
          show WP (Call d) 2 P X (32, [some (vr (some 79) 0), some (vi pl), some (vi mo), some (vi (LOAD μ)), some (vi a9), some (vi y)], [vi y, vi a9, vr (some 6) 6], (J0, H), 0, 0)
          refine WP.go 3 (Exists.intro (-(LOAD μ)) (And.intro (wrp_a (by omega) (by omega)) (And.intro (And.intro (Nat.le_of_ble_eq_true rfl) (Nat.le_of_ble_eq_true rfl)) (And.intro rfl (?_)))))
          show Call d 103 [vr (some 6) 6, vi a9, vi y, vi (-(LOAD μ))] (J0, H) _ _
          refine s_8_nextAngle (by omega) hS (.inl rfl) hT_1 hV (by omega) (by omega) (by omega) ?_
          show WP (Call d) 2 P X (35, [some (vr (some 79) 0), some (vi pl), some (vi mo), some (vi (LOAD μ)), some (vi a9), some (vi y)], [vi (nxt μ a9 y (-(LOAD μ)))], (J0, H), 0, 0)
          refine WP.go 3 (Exists.intro (y + 1) (And.intro (wrp_a (by omega) (by omega)) (?_)))
          show WP (Call d) 2 P X (11, [some (vr (some 79) 0), some (vi pl), some (vi mo), some (vi (LOAD μ)), some (vi (nxt μ a9 y (-(LOAD μ)))), some (vi (y + 1))], [], (J0, H), 0, 0)
          exact ih11 J0 (nxt μ a9 y (-(LOAD μ))) (y + 1) (by omega) (by omega) (by rw [ANG_s _ _ _ iv0.1, ← iv1, if_neg b27]) (cp_s e_J0 iv2 iv1) (fun a q => by rw [f_J0 a q]; exact iv3 a q)
        ·
          show WP (Call d) 2 P X (28, [some (vr (some 79) 0), some (vi pl), some (vi mo), some (vi (LOAD μ)), some (vi a9), some (vi y)], [vi y, vi a9, vr (some 6) 6], (J0, H), 0, 0)
          refine WP.go 5 (Exists.intro (mo - (LOAD μ)) (And.intro (wrp_a (by omega) (by omega)) (And.intro (And.intro (Nat.le_of_ble_eq_true rfl) (Nat.le_of_ble_eq_true rfl)) (And.intro rfl (?_)))))
          show Call d 103 [vr (some 6) 6, vi a9, vi y, vi (mo - (LOAD μ))] (J0, H) _ _
          refine s_8_nextAngle (by omega) hS (.inl rfl) hT_1 hV (by omega) (by omega) (by omega) ?_
          show WP (Call d) 2 P X (35, [some (vr (some 79) 0), some (vi pl), some (vi mo), some (vi (LOAD μ)), some (vi a9), some (vi y)], [vi (nxt μ a9 y (mo - (LOAD μ)))], (J0, H), 0, 0)
          refine WP.go 3 (Exists.intro (y + 1) (And.intro (wrp_a (by omega) (by omega)) (?_)))
          show WP (Call d) 2 P X (11, [some (vr (some 79) 0), some (vi pl), some (vi mo), some (vi (LOAD μ)), some (vi (nxt μ a9 y (mo - (LOAD μ)))), some (vi (y + 1))], [], (J0, H), 0, 0)
          exact ih11 J0 (nxt μ a9 y (mo - (LOAD μ))) (y + 1) (by omega) (by omega) (by rw [ANG_s _ _ _ iv0.1, ← iv1, if_pos b27]) (cp_s e_J0 iv2 iv1) (fun a q => by rw [f_J0 a q]; exact iv3 a q)
  exact lp11 ((100 - 0 : Int).toNat + 1) I (μ 9) 0 (by omega) (by omega) rfl (fun j q1 q2 => by omega) (fun _ _ => rfl)

theorem s_0_open {d : Nat} {P : Option qV → qH → Prop} {X : Nat → qH → Prop} {I : qI} {H : qS} {μ : Int → Int} (hd : 5 ≤ d) (hS : Shp H) (hX : SX I) (hT : TR 6 I μ) (hV : IM μ) (h : ∀ J : qI, OPN μ (-1) 0 (J 80) (J 81) → (∀ a, a ≠ 80 → a ≠ 81 → J a = I a) → P none (J, H)) :
    Call d 1 [vr (some 79) 0] (I, H) P X := by
  obtain ⟨d, rfl⟩ : ∃ e, d = e + 1 := ⟨d - 1, by omega⟩
  show WP (Call d) 1 P X (0, [some (vr (some 79) 0)], [], (I, H), 0, 0)
  refine WP.go 4 (And.intro (And.intro (Nat.le_of_ble_eq_true rfl) (Nat.le_of_ble_eq_true rfl)) (And.intro rfl (?_)))
  show Call d 2 [vr (some 79) 0, vi (-1), vi 0] (I, H) _ _
  refine s_0_openPulled (by omega) hS hX hT hV (by omega) (fun J3 e3 f3 => ?_)
  show WP (Call d) 1 P X (4, [some (vr (some 79) 0)], [], (J3, H), 0, 0)
  have hX_1 : SX J3 := SX.fr hX (f3 0 (by omega) (by omega)) (f3 1 (by omega) (by omega))
  have hT_2 : TR 6 J3 μ := hT.fr (fun a q1 q2 => f3 a (by omega) (by omega))
  have hA_3 : AB (J3 80) (J3 81) := e3.ab hV
  refine WP.go 1 (And.intro (And.intro (Nat.le_of_ble_eq_true rfl) (Nat.le_of_ble_eq_true rfl)) (?_))
  show P none (J3, H)
  exact h _ e3 f3

theorem s_0_tellFacts {d : Nat} {P : Option qV → qH → Prop} {X : Nat → qH → Prop} {I : qI} {H : qS} {μ : Int → Int} (hd : 6 ≤ d) {h9 y : Int} (hS : Shp H) (hX : SX I) (hT : TR 6 I μ) (hV : IM μ) (hA : AB (I 80) (I 81)) (hh : 0 ≤ h9 ∧ h9 < μ 1) (hy : 0 ≤ y ∧ y < 100) (h : ∀ J : qI, (∀ j, 0 ≤ j → j < 8 → J 83 j = FCT μ (I 80) (I 81) h9 y j) → (∀ a, a ≠ 83 → J a = I a) → P none (J, H)) :
    Call d 19 [vr (some 79) 0, vi h9, vi y, vr (some 83) 11] (I, H) P X := by
  obtain ⟨d, rfl⟩ : ∃ e, d = e + 1 := ⟨d - 1, by omega⟩
  have hl83 := hS.l83
  have v1 := hV.hc h9 hh.1 hh.2
  have v2 := LVL_bd (c := μ (120 + 2 * h9)) (by omega) (by omega)
  show WP (Call d) 19 P X (0, [some (vr (some 79) 0), some (vi h9), some (vi y), some (vr (some 83) 11), none], [], (I, H), 0, 0)
  refine WP.go 4 (And.intro (Or.inl rfl) (And.intro (fun (b3 : ¬ H.2.1 83 < 8) => ?_) (fun (b3 : H.2.1 83 < 8) => (absurd b3 (by omega)))))
  show WP (Call d) 19 P X (5, [some (vr (some 79) 0), some (vi h9), some (vi y), some (vr (some 83) 11), none], [], (I, H), 0, 0)
  refine WP.go 4 (And.intro (And.intro (Nat.le_of_ble_eq_true rfl) (Nat.le_of_ble_eq_true rfl)) (And.intro rfl (?_)))
  show Call d 11 [vr (some 79) 0, vi h9, vi y] (I, H) _ _
  refine s_0_lightOfHouse (by omega) hS hX hT hV hA (by omega) ?_
  show WP (Call d) 19 P X (9, [some (vr (some 79) 0), some (vi h9), some (vi y), some (vr (some 83) 11), none], [vi (LGH μ (I 80) (I 81) h9 y)], (I, H), 0, 0)
  refine WP.go 5 (And.intro (And.intro rfl (And.intro (show 0 ≤ 0 from by omega) (show 0 < H.2.1 83 from by omega))) (?_))
  show WP (Call d) 19 P X (14, [some (vr (some 79) 0), some (vi h9), some (vi y), some (vr (some 83) 11), some (vi (LGH μ (I 80) (I 81) h9 y))], [], ((upI I 83 0 y), H), 0, 0)
  generalize hq_J0 : (upI I 83 0 y) = J0
  have e_J0 : J0 83 = (fun j => if j = 0 then y else I 83 j) := by rw [← hq_J0]; exact upI_self _ _ _ _
  have f_J0 : ∀ a, a ≠ 83 → J0 a = I a := fun a q => by rw [← hq_J0]; exact upI_cell q
  have hX_1 : SX J0 := SX.fr hX (f_J0 0 (by omega)) (f_J0 1 (by omega))
  have hT_2 : TR 6 J0 μ := hT.fr (fun a q1 q2 => f_J0 a (by omega))
  have g80_J0 : J0 80 = I 80 := f_J0 80 (by omega)
  have g81_J0 : J0 81 = I 81 := f_J0 81 (by omega)
  have hA_3 : AB (J0 80) (J0 81) := by rw [g80_J0, g81_J0]; exact hA
  refine WP.go 4 (And.intro (And.intro rfl (And.intro (show 0 ≤ 1 from by omega) (show 1 < H.2.1 83 from by omega))) (?_))
  show WP (Call d) 19 P X (18, [some (vr (some 79) 0), some (vi h9), some (vi y), some (vr (some 83) 11), some (vi (LGH μ (I 80) (I 81) h9 y))], [], ((upI J0 83 1 (LGH μ (I 80) (I 81) h9 y)), H), 0, 0)
  generalize hq_J1 : (upI J0 83 1 (LGH μ (I 80) (I 81) h9 y)) = J1
  have e_J1 : J1 83 = (fun j => if j = 1 then (LGH μ (I 80) (I 81) h9 y) else J0 83 j) := by rw [← hq_J1]; exact upI_self _ _ _ _
  have f_J1 : ∀ a, a ≠ 83 → J1 a = J0 a := fun a q => by rw [← hq_J1]; exact upI_cell q
  have hX_4 : SX J1 := SX.fr hX_1 (f_J1 0 (by omega)) (f_J1 1 (by omega))
  have hT_5 : TR 6 J1 μ := hT_2.fr (fun a q1 q2 => f_J1 a (by omega))
  have g80_J1 : J1 80 = I 80 := (f_J1 80 (by omega)).trans g80_J0
  have g81_J1 : J1 81 = I 81 := (f_J1 81 (by omega)).trans g81_J0
  have hA_6 : AB (J1 80) (J1 81) := by rw [g80_J1, g81_J1]; exact hA
  refine WP.go 6 (And.intro rfl (Exists.intro 6 (And.intro hS.r79_0 (And.intro (And.intro (Nat.le_of_ble_eq_true rfl) (Nat.le_of_ble_eq_true rfl)) (And.intro rfl (?_))))))
  show Call d 94 [vr (some 6) 6, vi h9] (J1, H) _ _
  refine s_8_heightOf (by omega) hS (.inl rfl) hT_5 hV (by omega) ?_
  show WP (Call d) 19 P X (24, [some (vr (some 79) 0), some (vi h9), some (vi y), some (vr (some 83) 11), some (vi (LGH μ (I 80) (I 81) h9 y))], [vi (μ (121 + 2 * h9)), vi 2, vr (some 83) 11], (J1, H), 0, 0)
  refine WP.go 1 (And.intro (And.intro rfl (And.intro (show 0 ≤ 2 from by omega) (show 2 < H.2.1 83 from by omega))) (?_))
  show WP (Call d) 19 P X (25, [some (vr (some 79) 0), some (vi h9), some (vi y), some (vr (some 83) 11), some (vi (LGH μ (I 80) (I 81) h9 y))], [], ((upI J1 83 2 (μ (121 + 2 * h9))), H), 0, 0)
  generalize hq_J2 : (upI J1 83 2 (μ (121 + 2 * h9))) = J2
  have e_J2 : J2 83 = (fun j => if j = 2 then (μ (121 + 2 * h9)) else J1 83 j) := by rw [← hq_J2]; exact upI_self _ _ _ _
  have f_J2 : ∀ a, a ≠ 83 → J2 a = J1 a := fun a q => by rw [← hq_J2]; exact upI_cell q
  have hX_7 : SX J2 := SX.fr hX_4 (f_J2 0 (by omega)) (f_J2 1 (by omega))
  have hT_8 : TR 6 J2 μ := hT_5.fr (fun a q1 q2 => f_J2 a (by omega))
  have g80_J2 : J2 80 = I 80 := (f_J2 80 (by omega)).trans g80_J1
  have g81_J2 : J2 81 = I 81 := (f_J2 81 (by omega)).trans g81_J1
  have hA_9 : AB (J2 80) (J2 81) := by rw [g80_J2, g81_J2]; exact hA
  refine WP.go 5 (And.intro (And.intro (Nat.le_of_ble_eq_true rfl) (Nat.le_of_ble_eq_true rfl)) (And.intro rfl (?_)))
  show Call d 4 [vr (some 79) 0, vi y] (J2, H) _ _
  refine s_0_angleIn (by omega) hS (by omega) ?_
  show WP (Call d) 19 P X (30, [some (vr (some 79) 0), some (vi h9), some (vi y), some (vr (some 83) 11), some (vi (LGH μ (I 80) (I 81) h9 y))], [vi (J2 80 y), vi 3, vr (some 83) 11], (J2, H), 0, 0)
  refine WP.go 1 (And.intro (And.intro rfl (And.intro (show 0 ≤ 3 from by omega) (show 3 < H.2.1 83 from by omega))) (?_))
  show WP (Call d) 19 P X (31, [some (vr (some 79) 0), some (vi h9), some (vi y), some (vr (some 83) 11), some (vi (LGH μ (I 80) (I 81) h9 y))], [], ((upI J2 83 3 (J2 80 y)), H), 0, 0)
  generalize hq_J3 : (upI J2 83 3 (J2 80 y)) = J3
  have e_J3 : J3 83 = (fun j => if j = 3 then (J2 80 y) else J2 83 j) := by rw [← hq_J3]; exact upI_self _ _ _ _
  have f_J3 : ∀ a, a ≠ 83 → J3 a = J2 a := fun a q => by rw [← hq_J3]; exact upI_cell q
  have hX_10 : SX J3 := SX.fr hX_7 (f_J3 0 (by omega)) (f_J3 1 (by omega))
  have hT_11 : TR 6 J3 μ := hT_8.fr (fun a q1 q2 => f_J3 a (by omega))
  have g80_J3 : J3 80 = I 80 := (f_J3 80 (by omega)).trans g80_J2
  have g81_J3 : J3 81 = I 81 := (f_J3 81 (by omega)).trans g81_J2
  have hA_12 : AB (J3 80) (J3 81) := by rw [g80_J3, g81_J3]; exact hA
  refine WP.go 7 (And.intro rfl (Exists.intro 6 (And.intro hS.r79_0 (And.intro (And.intro (Nat.le_of_ble_eq_true rfl) (Nat.le_of_ble_eq_true rfl)) (And.intro rfl (?_))))))
  show Call d 93 [vr (some 6) 6, vi h9] (J3, H) _ _
  refine s_8_cellOf (by omega) hS (.inl rfl) hT_11 hV (by omega) ?_
  show WP (Call d) 19 P X (38, [some (vr (some 79) 0), some (vi h9), some (vi y), some (vr (some 83) 11), some (vi (LGH μ (I 80) (I 81) h9 y))], [vi (μ (120 + 2 * h9)), vr (some 79) 0, vi 4, vr (some 83) 11], (J3, H), 0, 0)
  refine WP.go 2 (And.intro (And.intro (Nat.le_of_ble_eq_true rfl) (Nat.le_of_ble_eq_true rfl)) (And.intro rfl (?_)))
  show Call d 15 [vr (some 79) 0, vi (μ (120 + 2 * h9)), vi y] (J3, H) _ _
  refine s_0_levelOf (by omega) hS hX_10 hT_11 hV hA_12 (by omega) (by omega) ?_
  show WP (Call d) 19 P X (40, [some (vr (some 79) 0), some (vi h9), some (vi y), some (vr (some 83) 11), some (vi (LGH μ (I 80) (I 81) h9 y))], [vi (LVL μ (J3 80) (μ (120 + 2 * h9)) y), vi 4, vr (some 83) 11], (J3, H), 0, 0)
  have v3 := v2 μ (J3 80) y
  refine WP.go 3 (Exists.intro ((LVL μ (J3 80) (μ (120 + 2 * h9)) y) + 8) (And.intro (wrp_a (by omega) (by omega)) (And.intro (And.intro rfl (And.intro (show 0 ≤ 4 from by omega) (show 4 < H.2.1 83 from by omega))) (?_))))
  show WP (Call d) 19 P X (43, [some (vr (some 79) 0), some (vi h9), some (vi y), some (vr (some 83) 11), some (vi (LGH μ (I 80) (I 81) h9 y))], [], ((upI J3 83 4 ((LVL μ (J3 80) (μ (120 + 2 * h9)) y) + 8)), H), 0, 0)
  generalize hq_J4 : (upI J3 83 4 ((LVL μ (J3 80) (μ (120 + 2 * h9)) y) + 8)) = J4
  have e_J4 : J4 83 = (fun j => if j = 4 then ((LVL μ (J3 80) (μ (120 + 2 * h9)) y) + 8) else J3 83 j) := by rw [← hq_J4]; exact upI_self _ _ _ _
  have f_J4 : ∀ a, a ≠ 83 → J4 a = J3 a := fun a q => by rw [← hq_J4]; exact upI_cell q
  have hX_13 : SX J4 := SX.fr hX_10 (f_J4 0 (by omega)) (f_J4 1 (by omega))
  have hT_14 : TR 6 J4 μ := hT_11.fr (fun a q1 q2 => f_J4 a (by omega))
  have g80_J4 : J4 80 = I 80 := (f_J4 80 (by omega)).trans g80_J3
  have g81_J4 : J4 81 = I 81 := (f_J4 81 (by omega)).trans g81_J3
  have hA_15 : AB (J4 80) (J4 81) := by rw [g80_J4, g81_J4]; exact hA
  refine WP.go 6 (And.intro (And.intro (Nat.le_of_ble_eq_true rfl) (Nat.le_of_ble_eq_true rfl)) (And.intro rfl (?_)))
  show Call d 13 [vr (some 79) 0, vi h9, vi y] (J4, H) _ _
  refine s_0_hasNoon (by omega) hS hX_13 hT_14 hV hA_15 (by omega) ?_
  show WP (Call d) 19 P X (49, [some (vr (some 79) 0), some (vi h9), some (vi y), some (vr (some 83) 11), some (vi (LGH μ (I 80) (I 81) h9 y))], [vi (bz (NOONp μ (J4 80) (J4 81) h9 y)), vi 5, vr (some 83) 11], (J4, H), 0, 0)
  have ih53 : ∀ (v5 : Int) (q5 : v5 = bz (NOONp μ (J4 80) (J4 81) h9 y)), WP (Call d) 19 P X (53, [some (vr (some 79) 0), some (vi h9), some (vi y), some (vr (some 83) 11), some (vi (LGH μ (I 80) (I 81) h9 y))], [vi v5, vi 5, vr (some 83) 11], (J4, H), 0, 0) := by
    intro v5 q5
    refine WP.go 1 (And.intro (And.intro rfl (And.intro (show 0 ≤ 5 from by omega) (show 5 < H.2.1 83 from by omega))) (?_))
    show WP (Call d) 19 P X (54, [some (vr (some 79) 0), some (vi h9), some (vi y), some (vr (some 83) 11), some (vi (LGH μ (I 80) (I 81) h9 y))], [], ((upI J4 83 5 v5), H), 0, 0)
    generalize hq_J5 : (upI J4 83 5 v5) = J5
    have e_J5 : J5 83 = (fun j => if j = 5 then v5 else J4 83 j) := by rw [← hq_J5]; exact upI_self _ _ _ _
    have f_J5 : ∀ a, a ≠ 83 → J5 a = J4 a := fun a q => by rw [← hq_J5]; exact upI_cell q
    have hX_16 : SX J5 := SX.fr hX_13 (f_J5 0 (by omega)) (f_J5 1 (by omega))
    have hT_17 : TR 6 J5 μ := hT_14.fr (fun a q1 q2 => f_J5 a (by omega))
    have g80_J5 : J5 80 = I 80 := (f_J5 80 (by omega)).trans g80_J4
    have g81_J5 : J5 81 = I 81 := (f_J5 81 (by omega)).trans g81_J4
    have hA_18 : AB (J5 80) (J5 81) := by rw [g80_J5, g81_J5]; exact hA
    refine WP.go 3 ?_
    show WP (Call d) 19 P X (57, [some (vr (some 79) 0), some (vi h9), some (vi y), some (vr (some 83) 11), some (vi (LGH μ (I 80) (I 81) h9 y))], [vi (LGH μ (I 80) (I 81) h9 y), vi 6, vr (some 83) 11], (J5, H), 0, 0)
    have ih61 : ∀ (v6 : Int) (q6 : v6 = bz (LGH μ (I 80) (I 81) h9 y = 0)), WP (Call d) 19 P X (61, [some (vr (some 79) 0), some (vi h9), some (vi y), some (vr (some 83) 11), some (vi (LGH μ (I 80) (I 81) h9 y))], [vi v6, vi 6, vr (some 83) 11], (J5, H), 0, 0) := by
      intro v6 q6
      refine WP.go 1 (And.intro (And.intro rfl (And.intro (show 0 ≤ 6 from by omega) (show 6 < H.2.1 83 from by omega))) (?_))
      show WP (Call d) 19 P X (62, [some (vr (some 79) 0), some (vi h9), some (vi y), some (vr (some 83) 11), some (vi (LGH μ (I 80) (I 81) h9 y))], [], ((upI J5 83 6 v6), H), 0, 0)
      generalize hq_J6 : (upI J5 83 6 v6) = J6
      have e_J6 : J6 83 = (fun j => if j = 6 then v6 else J5 83 j) := by rw [← hq_J6]; exact upI_self _ _ _ _
      have f_J6 : ∀ a, a ≠ 83 → J6 a = J5 a := fun a q => by rw [← hq_J6]; exact upI_cell q
      have hX_19 : SX J6 := SX.fr hX_16 (f_J6 0 (by omega)) (f_J6 1 (by omega))
      have hT_20 : TR 6 J6 μ := hT_17.fr (fun a q1 q2 => f_J6 a (by omega))
      have g80_J6 : J6 80 = I 80 := (f_J6 80 (by omega)).trans g80_J5
      have g81_J6 : J6 81 = I 81 := (f_J6 81 (by omega)).trans g81_J5
      have hA_21 : AB (J6 80) (J6 81) := by rw [g80_J6, g81_J6]; exact hA
      refine WP.go 6 (And.intro (And.intro (Nat.le_of_ble_eq_true rfl) (Nat.le_of_ble_eq_true rfl)) (And.intro rfl (?_)))
      show Call d 14 [vr (some 79) 0, vi h9, vi y] (J6, H) _ _
      refine s_0_isWindy (by omega) hS hX_19 hT_20 hV hA_21 (by omega) (by omega) ?_
      show WP (Call d) 19 P X (68, [some (vr (some 79) 0), some (vi h9), some (vi y), some (vr (some 83) 11), some (vi (LGH μ (I 80) (I 81) h9 y))], [vi (bz (WDYp μ (J6 80) (J6 81) h9 y)), vi 7, vr (some 83) 11], (J6, H), 0, 0)
      have ih72 : ∀ (v7 : Int) (q7 : v7 = bz (WDYp μ (J6 80) (J6 81) h9 y)), WP (Call d) 19 P X (72, [some (vr (some 79) 0), some (vi h9), some (vi y), some (vr (some 83) 11), some (vi (LGH μ (I 80) (I 81) h9 y))], [vi v7, vi 7, vr (some 83) 11], (J6, H), 0, 0) := by
        intro v7 q7
        refine WP.go 1 (And.intro (And.intro rfl (And.intro (show 0 ≤ 7 from by omega) (show 7 < H.2.1 83 from by omega))) (?_))
        show WP (Call d) 19 P X (73, [some (vr (some 79) 0), some (vi h9), some (vi y), some (vr (some 83) 11), some (vi (LGH μ (I 80) (I 81) h9 y))], [], ((upI J6 83 7 v7), H), 0, 0)
        generalize hq_J7 : (upI J6 83 7 v7) = J7
        have e_J7 : J7 83 = (fun j => if j = 7 then v7 else J6 83 j) := by rw [← hq_J7]; exact upI_self _ _ _ _
        have f_J7 : ∀ a, a ≠ 83 → J7 a = J6 a := fun a q => by rw [← hq_J7]; exact upI_cell q
        have hX_22 : SX J7 := SX.fr hX_19 (f_J7 0 (by omega)) (f_J7 1 (by omega))
        have hT_23 : TR 6 J7 μ := hT_20.fr (fun a q1 q2 => f_J7 a (by omega))
        have g80_J7 : J7 80 = I 80 := (f_J7 80 (by omega)).trans g80_J6
        have g81_J7 : J7 81 = I 81 := (f_J7 81 (by omega)).trans g81_J6
        have hA_24 : AB (J7 80) (J7 81) := by rw [g80_J7, g81_J7]; exact hA
        refine WP.go 1 (And.intro (And.intro (Nat.le_of_ble_eq_true rfl) (Nat.le_of_ble_eq_true rfl)) (?_))
        show P none (J7, H)
        refine h _ (fun j q1 q2 => ?_) (fun a q => by rw [f_J7 a q, f_J6 a q, f_J5 a q, f_J4 a q, f_J3 a q, f_J2 a q, f_J1 a q, f_J0 a q])
        rw [e_J7, e_J6, e_J5, e_J4, e_J3, e_J2, e_J1, e_J0, q5, q6, q7, g80_J4, g81_J4, g80_J6, g81_J6, g80_J2, g80_J3]
        have hj : j = 0 ∨ j = 1 ∨ j = 2 ∨ j = 3 ∨ j = 4 ∨ j = 5 ∨ j = 6 ∨ j = 7 := by omega
        rcases hj with rfl | rfl | rfl | rfl | rfl | rfl | rfl | rfl <;> rfl
      refine WP.go 1 (And.intro (fun (b68 : bz (WDYp μ (J6 80) (J6 81) h9 y) = 0) => ?_) (fun (b68 : ¬ bz (WDYp μ (J6 80) (J6 81) h9 y) = 0) => ?_))
      ·
        show WP (Call d) 19 P X (71, [some (vr (some 79) 0), some (vi h9), some (vi y), some (vr (some 83) 11), some (vi (LGH μ (I 80) (I 81) h9 y))], [vi 7, vr (some 83) 11], (J6, H), 0, 0)
        have z68 := bz_e0.mp b68
        refine WP.go 1 ?_
        show WP (Call d) 19 P X (72, [some (vr (some 79) 0), some (vi h9), some (vi y), some (vr (some 83) 11), some (vi (LGH μ (I 80) (I 81) h9 y))], [vi 0, vi 7, vr (some 83) 11], (J6, H), 0, 0)
        exact ih72 0 b68.symm
      ·
        show WP (Call d) 19 P X (69, [some (vr (some 79) 0), some (vi h9), some (vi y), some (vr (some 83) 11), some (vi (LGH μ (I 80) (I 81) h9 y))], [vi 7, vr (some 83) 11], (J6, H), 0, 0)
        have z68 := bz_e1.mp b68
        refine WP.go 2 ?_
        show WP (Call d) 19 P X (72, [some (vr (some 79) 0), some (vi h9), some (vi y), some (vr (some 83) 11), some (vi (LGH μ (I 80) (I 81) h9 y))], [vi 1, vi 7, vr (some 83) 11], (J6, H), 0, 0)
        exact ih72 1 (bz_1 (bz_e1.mp b68)).symm
    refine WP.go 1 (And.intro (fun (b57 : ¬ LGH μ (I 80) (I 81) h9 y = 0) => ?_) (fun (b57 : LGH μ (I 80) (I 81) h9 y = 0) => ?_))
    ·
      show WP (Call d) 19 P X (60, [some (vr (some 79) 0), some (vi h9), some (vi y), some (vr (some 83) 11), some (vi (LGH μ (I 80) (I 81) h9 y))], [vi 6, vr (some 83) 11], (J5, H), 0, 0)
      refine WP.go 1 ?_
      show WP (Call d) 19 P X (61, [some (vr (some 79) 0), some (vi h9), some (vi y), some (vr (some 83) 11), some (vi (LGH μ (I 80) (I 81) h9 y))], [vi 0, vi 6, vr (some 83) 11], (J5, H), 0, 0)
      exact ih61 0 (zero_bz b57)
    ·
      show WP (Call d) 19 P X (58, [some (vr (some 79) 0), some (vi h9), some (vi y), some (vr (some 83) 11), some (vi (LGH μ (I 80) (I 81) h9 y))], [vi 6, vr (some 83) 11], (J5, H), 0, 0)
      refine WP.go 2 ?_
      show WP (Call d) 19 P X (61, [some (vr (some 79) 0), some (vi h9), some (vi y), some (vr (some 83) 11), some (vi (LGH μ (I 80) (I 81) h9 y))], [vi 1, vi 6, vr (some 83) 11], (J5, H), 0, 0)
      exact ih61 1 (one_bz b57)
  refine WP.go 1 (And.intro (fun (b49 : bz (NOONp μ (J4 80) (J4 81) h9 y) = 0) => ?_) (fun (b49 : ¬ bz (NOONp μ (J4 80) (J4 81) h9 y) = 0) => ?_))
  ·
    show WP (Call d) 19 P X (52, [some (vr (some 79) 0), some (vi h9), some (vi y), some (vr (some 83) 11), some (vi (LGH μ (I 80) (I 81) h9 y))], [vi 5, vr (some 83) 11], (J4, H), 0, 0)
    have z49 := bz_e0.mp b49
    refine WP.go 1 ?_
    show WP (Call d) 19 P X (53, [some (vr (some 79) 0), some (vi h9), some (vi y), some (vr (some 83) 11), some (vi (LGH μ (I 80) (I 81) h9 y))], [vi 0, vi 5, vr (some 83) 11], (J4, H), 0, 0)
    exact ih53 0 b49.symm
  ·
    show WP (Call d) 19 P X (50, [some (vr (some 79) 0), some (vi h9), some (vi y), some (vr (some 83) 11), some (vi (LGH μ (I 80) (I 81) h9 y))], [vi 5, vr (some 83) 11], (J4, H), 0, 0)
    have z49 := bz_e1.mp b49
    refine WP.go 2 ?_
    show WP (Call d) 19 P X (53, [some (vr (some 79) 0), some (vi h9), some (vi y), some (vr (some 83) 11), some (vi (LGH μ (I 80) (I 81) h9 y))], [vi 1, vi 5, vr (some 83) 11], (J4, H), 0, 0)
    exact ih53 1 (bz_1 (bz_e1.mp b49)).symm

