theorem s_0_angleIn {d : Nat} {P : Option qV → qH → Prop} {X : Nat → qH → Prop} {I : qI} {H : qS} (hd : 1 ≤ d) {y : Int} (hS : Shp H) (hy : 0 ≤ y ∧ y < 100) (h : P (some (vi (I 80 y))) (I, H)) :
    Call d 4 [vr (some 79) 0, vi y] (I, H) P X := by
  obtain ⟨d, rfl⟩ : ∃ e, d = e + 1 := ⟨d - 1, by omega⟩
  have hl80 := hS.l80
  show WP (Call d) 4 P X (0, [some (vr (some 79) 0), some (vi y)], [], (I, H), 0, 0)
  refine WP.go 2 (And.intro (fun (b1 : y < 0) => (absurd b1 (by omega))) (fun (b1 : ¬ y < 0) => ?_))
  show WP (Call d) 4 P X (2, [some (vr (some 79) 0), some (vi y)], [], (I, H), 0, 0)
  refine WP.go 5 (And.intro rfl (Exists.intro 80 (And.intro hS.r79_1 (And.intro (Or.inl rfl) (And.intro (fun (b6 : ¬ y < H.2.1 80) => (absurd b6 (by omega))) (fun (b6 : y < H.2.1 80) => ?_))))))
  show WP (Call d) 4 P X (7, [some (vr (some 79) 0), some (vi y)], [], (I, H), 0, 0)
  refine WP.go 6 (And.intro rfl (Exists.intro 80 (And.intro hS.r79_1 (And.intro (And.intro rfl (And.intro (show 0 ≤ y from by omega) (show y < H.2.1 80 from by omega))) (And.intro (And.intro (Nat.le_of_ble_eq_true rfl) (Nat.le_of_ble_eq_true rfl)) (And.intro trivial (?_)))))))
  show P (some (vi (I 80 y))) (I, H)
  exact fin_i (by first | rfl | omega | exact zero_bz (by omega) | exact one_bz (by omega)) h

theorem s_0_heightOn {d : Nat} {P : Option qV → qH → Prop} {X : Nat → qH → Prop} {I : qI} {H : qS} (hd : 1 ≤ d) {c : Int} (hS : Shp H) (hc : 0 ≤ c ∧ c < 81) (h : P (some (vi (I 81 c))) (I, H)) :
    Call d 8 [vr (some 79) 0, vi c] (I, H) P X := by
  obtain ⟨d, rfl⟩ : ∃ e, d = e + 1 := ⟨d - 1, by omega⟩
  have hl81 := hS.l81
  show WP (Call d) 8 P X (0, [some (vr (some 79) 0), some (vi c)], [], (I, H), 0, 0)
  refine WP.go 2 (And.intro (fun (b1 : c < 0) => (absurd b1 (by omega))) (fun (b1 : ¬ c < 0) => ?_))
  show WP (Call d) 8 P X (2, [some (vr (some 79) 0), some (vi c)], [], (I, H), 0, 0)
  refine WP.go 5 (And.intro rfl (Exists.intro 81 (And.intro hS.r79_2 (And.intro (Or.inl rfl) (And.intro (fun (b6 : ¬ c < H.2.1 81) => (absurd b6 (by omega))) (fun (b6 : c < H.2.1 81) => ?_))))))
  show WP (Call d) 8 P X (7, [some (vr (some 79) 0), some (vi c)], [], (I, H), 0, 0)
  refine WP.go 6 (And.intro rfl (Exists.intro 81 (And.intro hS.r79_2 (And.intro (And.intro rfl (And.intro (show 0 ≤ c from by omega) (show c < H.2.1 81 from by omega))) (And.intro (And.intro (Nat.le_of_ble_eq_true rfl) (Nat.le_of_ble_eq_true rfl)) (And.intro trivial (?_)))))))
  show P (some (vi (I 81 c))) (I, H)
  exact fin_i (by first | rfl | omega | exact zero_bz (by omega) | exact one_bz (by omega)) h

theorem s_0_heightOn_p {d : Nat} {P : Option qV → qH → Prop} {X : Nat → qH → Prop} {I : qI} {H : qS} (hd : 1 ≤ d) {c : Int} (hS : Shp H) (hc : c = -1 ∨ (0 ≤ c ∧ c < 81)) (h : P (some (vi (onP (I 81) c))) (I, H)) :
    Call d 8 [vr (some 79) 0, vi c] (I, H) P X := by
  obtain ⟨d, rfl⟩ : ∃ e, d = e + 1 := ⟨d - 1, by omega⟩
  have hl81 := hS.l81
  show WP (Call d) 8 P X (0, [some (vr (some 79) 0), some (vi c)], [], (I, H), 0, 0)
  refine WP.go 2 (And.intro (fun (b1 : c < 0) => ?_) (fun (b1 : ¬ c < 0) => ?_))
  ·
    show WP (Call d) 8 P X (12, [some (vr (some 79) 0), some (vi c)], [], (I, H), 0, 0)
    refine WP.go 2 (And.intro (And.intro (Nat.le_of_ble_eq_true rfl) (Nat.le_of_ble_eq_true rfl)) (And.intro trivial (?_)))
    show P (some (vi 0)) (I, H)
    exact fin_i (by unfold onP; rw [if_neg (by omega)]) h
  ·
    show WP (Call d) 8 P X (2, [some (vr (some 79) 0), some (vi c)], [], (I, H), 0, 0)
    refine WP.go 5 (And.intro rfl (Exists.intro 81 (And.intro hS.r79_2 (And.intro (Or.inl rfl) (And.intro (fun (b6 : ¬ c < H.2.1 81) => ?_) (fun (b6 : c < H.2.1 81) => ?_))))))
    ·
      show WP (Call d) 8 P X (12, [some (vr (some 79) 0), some (vi c)], [], (I, H), 0, 0)
      refine WP.go 2 (And.intro (And.intro (Nat.le_of_ble_eq_true rfl) (Nat.le_of_ble_eq_true rfl)) (And.intro trivial (?_)))
      show P (some (vi 0)) (I, H)
      exact fin_i (by unfold onP; rw [if_neg (by omega)]) h
    ·
      show WP (Call d) 8 P X (7, [some (vr (some 79) 0), some (vi c)], [], (I, H), 0, 0)
      refine WP.go 6 (And.intro rfl (Exists.intro 81 (And.intro hS.r79_2 (And.intro (And.intro rfl (And.intro (show 0 ≤ c from by omega) (show c < H.2.1 81 from by omega))) (And.intro (And.intro (Nat.le_of_ble_eq_true rfl) (Nat.le_of_ble_eq_true rfl)) (And.intro trivial (?_)))))))
      show P (some (vi (I 81 c))) (I, H)
      exact fin_i (by unfold onP; rw [if_pos (by omega)]) h

theorem s_0_isShaded {d : Nat} {P : Option qV → qH → Prop} {X : Nat → qH → Prop} {I : qI} {H : qS} (hd : 2 ≤ d) {c up p hi : Int} (hS : Shp H) (hX : SX I) (hA : AB (I 80) (I 81)) (hc : 0 ≤ c ∧ c < 81) (hu : 0 ≤ up ∧ up < 30) (hp : 0 ≤ p ∧ p < 8) (hi2 : 1 ≤ hi ∧ hi < 8) (h : P (some (vi (bz (SHD (I 81) c up p hi)))) (I, H)) :
    Call d 7 [vr (some 79) 0, vi c, vi up, vi p, vi hi] (I, H) P X := by
  obtain ⟨d, rfl⟩ : ∃ e, d = e + 1 := ⟨d - 1, by omega⟩
  have m1 := sx_bd p
  have m2 := sy_bd p
  show WP (Call d) 7 P X (0, [some (vr (some 79) 0), some (vi c), some (vi up), some (vi p), some (vi hi), none, none, none, none, none], [], (I, H), 0, 0)
  refine WP.go 2 (And.intro (And.intro (Nat.le_of_ble_eq_true rfl) (Nat.le_of_ble_eq_true rfl)) (And.intro rfl (?_)))
  show Call d 49 [vi p] (I, H) _ _
  refine s_4_stepX (by omega) hS hX (by omega) ?_
  show WP (Call d) 7 P X (2, [some (vr (some 79) 0), some (vi c), some (vi up), some (vi p), some (vi hi), none, none, none, none, none], [vi (sx p)], (I, H), 0, 0)
  refine WP.go 3 (And.intro (And.intro (Nat.le_of_ble_eq_true rfl) (Nat.le_of_ble_eq_true rfl)) (And.intro rfl (?_)))
  show Call d 50 [vi p] (I, H) _ _
  refine s_4_stepY (by omega) hS hX (by omega) ?_
  show WP (Call d) 7 P X (5, [some (vr (some 79) 0), some (vi c), some (vi up), some (vi p), some (vi hi), some (vi (sx p)), none, none, none, none], [vi (sy p)], (I, H), 0, 0)
  refine WP.go 11 (Exists.intro (c % 9) (And.intro (tmod_a (by omega) (by omega)) (Exists.intro (c / 9) (And.intro (tdiv_a (by omega) (by omega) (by omega)) (?_)))))
  show WP (Call d) 7 P X (16, [some (vr (some 79) 0), some (vi c), some (vi up), some (vi p), some (vi hi), some (vi (sx p)), some (vi (sy p)), some (vi (c % 9)), some (vi (c / 9)), some (vi 1)], [], (I, H), 0, 0)
  have lp16 : ∀ (n9 : Nat) (x : Int) (y : Int) (k : Int) (hm : 9 - k < (n9 : Int)) (iv0 : 0 ≤ x ∧ x < 9 ∧ 0 ≤ y ∧ y < 9 ∧ 1 ≤ k ∧ k ≤ 9) (iv1 : SHD (I 81) c up p hi ↔ shN (I 81) (sx p) (sy p) up hi (9 - k).toNat k x y), WP (Call d) 7 P X (16, [some (vr (some 79) 0), some (vi c), some (vi up), some (vi p), some (vi hi), some (vi (sx p)), some (vi (sy p)), some (vi x), some (vi y), some (vi k)], [], (I, H), 0, 0) := by
    intro n9
    induction n9 with
    | zero => intro x y k hm iv0 iv1; exact absurd hm (by omega)
    | succ n9 ih16 =>
      intro x y k hm iv0 iv1
      have m3 := mul_b2 (a := k) (b := hi) (m := 9) (k := 7) (by omega) (by omega) (by omega) (by omega)
      refine WP.go 3 (And.intro (fun (b18 : ¬ k < 9) => ?_) (fun (b18 : k < 9) => ?_))
      ·
        show WP (Call d) 7 P X (56, [some (vr (some 79) 0), some (vi c), some (vi up), some (vi p), some (vi hi), some (vi (sx p)), some (vi (sy p)), some (vi x), some (vi y), some (vi k)], [], (I, H), 0, 0)
        refine WP.go 2 (And.intro (And.intro (Nat.le_of_ble_eq_true rfl) (Nat.le_of_ble_eq_true rfl)) (And.intro (Or.inl rfl) (?_)))
        show P (some (vi 0)) (I, H)
        exact fin_i (zero_bz (fun q => shN_e (by omega) (iv1.mp q))) h
      ·
        show WP (Call d) 7 P X (19, [some (vr (some 79) 0), some (vi c), some (vi up), some (vi p), some (vi hi), some (vi (sx p)), some (vi (sy p)), some (vi x), some (vi y), some (vi k)], [], (I, H), 0, 0)
        refine WP.go 10 (Exists.intro (x + (sx p)) (And.intro (wrp_a (by omega) (by omega)) (Exists.intro (y + (sy p)) (And.intro (wrp_a (by omega) (by omega)) (And.intro (fun (b28 : x + (sx p) < 0) => ?_) (fun (b28 : ¬ x + (sx p) < 0) => ?_))))))
        ·
          show WP (Call d) 7 P X (37, [some (vr (some 79) 0), some (vi c), some (vi up), some (vi p), some (vi hi), some (vi (sx p)), some (vi (sy p)), some (vi (x + (sx p))), some (vi (y + (sy p))), some (vi k)], [], (I, H), 0, 0)
          refine WP.go 2 (And.intro (And.intro (Nat.le_of_ble_eq_true rfl) (Nat.le_of_ble_eq_true rfl)) (And.intro (Or.inl rfl) (?_)))
          show P (some (vi 0)) (I, H)
          exact fin_i (zero_bz (fun q => shN_o (by omega) (iv1.mp q))) h
        ·
          show WP (Call d) 7 P X (29, [some (vr (some 79) 0), some (vi c), some (vi up), some (vi p), some (vi hi), some (vi (sx p)), some (vi (sy p)), some (vi (x + (sx p))), some (vi (y + (sy p))), some (vi k)], [], (I, H), 0, 0)
          refine WP.go 3 (And.intro (fun (b31 : ¬ x + (sx p) < 9) => ?_) (fun (b31 : x + (sx p) < 9) => ?_))
          ·
            show WP (Call d) 7 P X (37, [some (vr (some 79) 0), some (vi c), some (vi up), some (vi p), some (vi hi), some (vi (sx p)), some (vi (sy p)), some (vi (x + (sx p))), some (vi (y + (sy p))), some (vi k)], [], (I, H), 0, 0)
            refine WP.go 2 (And.intro (And.intro (Nat.le_of_ble_eq_true rfl) (Nat.le_of_ble_eq_true rfl)) (And.intro (Or.inl rfl) (?_)))
            show P (some (vi 0)) (I, H)
            exact fin_i (zero_bz (fun q => shN_o (by omega) (iv1.mp q))) h
          ·
            show WP (Call d) 7 P X (32, [some (vr (some 79) 0), some (vi c), some (vi up), some (vi p), some (vi hi), some (vi (sx p)), some (vi (sy p)), some (vi (x + (sx p))), some (vi (y + (sy p))), some (vi k)], [], (I, H), 0, 0)
            refine WP.go 2 (And.intro (fun (b33 : y + (sy p) < 0) => ?_) (fun (b33 : ¬ y + (sy p) < 0) => ?_))
            ·
              show WP (Call d) 7 P X (37, [some (vr (some 79) 0), some (vi c), some (vi up), some (vi p), some (vi hi), some (vi (sx p)), some (vi (sy p)), some (vi (x + (sx p))), some (vi (y + (sy p))), some (vi k)], [], (I, H), 0, 0)
              refine WP.go 2 (And.intro (And.intro (Nat.le_of_ble_eq_true rfl) (Nat.le_of_ble_eq_true rfl)) (And.intro (Or.inl rfl) (?_)))
              show P (some (vi 0)) (I, H)
              exact fin_i (zero_bz (fun q => shN_o (by omega) (iv1.mp q))) h
            ·
              show WP (Call d) 7 P X (34, [some (vr (some 79) 0), some (vi c), some (vi up), some (vi p), some (vi hi), some (vi (sx p)), some (vi (sy p)), some (vi (x + (sx p))), some (vi (y + (sy p))), some (vi k)], [], (I, H), 0, 0)
              refine WP.go 3 (And.intro (fun (b36 : y + (sy p) < 9) => ?_) (fun (b36 : ¬ y + (sy p) < 9) => ?_))
              ·
                show WP (Call d) 7 P X (39, [some (vr (some 79) 0), some (vi c), some (vi up), some (vi p), some (vi hi), some (vi (sx p)), some (vi (sy p)), some (vi (x + (sx p))), some (vi (y + (sy p))), some (vi k)], [], (I, H), 0, 0)
                have m4 := hA.2 (9 * (y + sy p) + (x + sx p)) (by omega) (by omega)
                refine WP.go 7 (Exists.intro (9 * (y + (sy p))) (And.intro (wrp_a (by omega) (by omega)) (Exists.intro ((9 * (y + (sy p))) + (x + (sx p))) (And.intro (wrp_a (by omega) (by omega)) (And.intro (And.intro (Nat.le_of_ble_eq_true rfl) (Nat.le_of_ble_eq_true rfl)) (And.intro rfl (?_)))))))
                show Call d 8 [vr (some 79) 0, vi ((9 * (y + (sy p))) + (x + (sx p)))] (I, H) _ _
                refine s_0_heightOn (by omega) hS (by omega) ?_
                show WP (Call d) 7 P X (46, [some (vr (some 79) 0), some (vi c), some (vi up), some (vi p), some (vi hi), some (vi (sx p)), some (vi (sy p)), some (vi (x + (sx p))), some (vi (y + (sy p))), some (vi k)], [vi (I 81 ((9 * (y + (sy p))) + (x + (sx p))))], (I, H), 0, 0)
                refine WP.go 6 (Exists.intro ((I 81 ((9 * (y + (sy p))) + (x + (sx p)))) - up) (And.intro (wrp_a (by omega) (by omega)) (Exists.intro (k * hi) (And.intro (wrp_a (by omega) (by omega)) (And.intro (fun (b51 : ¬ k * hi < (I 81 ((9 * (y + (sy p))) + (x + (sx p)))) - up) => ?_) (fun (b51 : k * hi < (I 81 ((9 * (y + (sy p))) + (x + (sx p)))) - up) => ?_))))))
                ·
                  show WP (Call d) 7 P X (54, [some (vr (some 79) 0), some (vi c), some (vi up), some (vi p), some (vi hi), some (vi (sx p)), some (vi (sy p)), some (vi (x + (sx p))), some (vi (y + (sy p))), some (vi k)], [], (I, H), 0, 0)
                  refine WP.go 2 (Exists.intro (k + 1) (And.intro (wrp_a (by omega) (by omega)) (?_)))
                  show WP (Call d) 7 P X (16, [some (vr (some 79) 0), some (vi c), some (vi up), some (vi p), some (vi hi), some (vi (sx p)), some (vi (sy p)), some (vi (x + (sx p))), some (vi (y + (sy p))), some (vi (k + 1))], [], (I, H), 0, 0)
                  exact ih16 (x + (sx p)) (y + (sy p)) (k + 1) (by omega) (by omega) (iv1.trans (shN_n (by omega) (by omega) (by omega)))
                ·
                  show WP (Call d) 7 P X (52, [some (vr (some 79) 0), some (vi c), some (vi up), some (vi p), some (vi hi), some (vi (sx p)), some (vi (sy p)), some (vi (x + (sx p))), some (vi (y + (sy p))), some (vi k)], [], (I, H), 0, 0)
                  refine WP.go 2 (And.intro (And.intro (Nat.le_of_ble_eq_true rfl) (Nat.le_of_ble_eq_true rfl)) (And.intro (Or.inr rfl) (?_)))
                  show P (some (vi 1)) (I, H)
                  exact fin_i (one_bz (iv1.mpr ((shN_s (by omega)).mpr ⟨by omega, .inl (by omega)⟩))) h
              ·
                show WP (Call d) 7 P X (37, [some (vr (some 79) 0), some (vi c), some (vi up), some (vi p), some (vi hi), some (vi (sx p)), some (vi (sy p)), some (vi (x + (sx p))), some (vi (y + (sy p))), some (vi k)], [], (I, H), 0, 0)
                refine WP.go 2 (And.intro (And.intro (Nat.le_of_ble_eq_true rfl) (Nat.le_of_ble_eq_true rfl)) (And.intro (Or.inl rfl) (?_)))
                show P (some (vi 0)) (I, H)
                exact fin_i (zero_bz (fun q => shN_o (by omega) (iv1.mp q))) h
  exact lp16 ((9 - 1 : Int).toNat + 1) (c % 9) (c / 9) 1 (by omega) (by omega) Iff.rfl

theorem s_0_isLit {d : Nat} {P : Option qV → qH → Prop} {X : Nat → qH → Prop} {I : qI} {H : qS} {μ : Int → Int} (hd : 3 ≤ d) {w hr y : Int} (hS : Shp H) (hX : SX I) (hT : TR 6 I μ) (hV : IM μ) (hA : AB (I 80) (I 81)) (hw : 0 ≤ w ∧ w < μ 2) (hh : 0 ≤ hr ∧ hr < 13) (hy : 0 ≤ y ∧ y < 100) (h : P (some (vi (bz (LITp μ (I 80) (I 81) w hr y)))) (I, H)) :
    Call d 6 [vr (some 79) 0, vi w, vi hr, vi y] (I, H) P X := by
  obtain ⟨d, rfl⟩ : ∃ e, d = e + 1 := ⟨d - 1, by omega⟩
  have a1 := hA.1 y hy.1 hy.2
  have v1 := hV.wf w hw.1 hw.2
  have v2 := hV.wu w hw.1 hw.2
  have v3 := hV.wh w hw.1 hw.2
  have v4 := hV.hc _ v3.1 v3.2
  have m1 := mn_b hr (12 - hr)
  have m2 := dirOf_bd (24 + 4 * hr) (I 80 y)
  show WP (Call d) 6 P X (0, [some (vr (some 79) 0), some (vi w), some (vi hr), some (vi y), none, none, none, none], [], (I, H), 0, 0)
  refine WP.go 8 (Exists.intro (4 * hr) (And.intro (wrp_a (by omega) (by omega)) (Exists.intro (24 + (4 * hr)) (And.intro (wrp_a (by omega) (by omega)) (And.intro (And.intro (Nat.le_of_ble_eq_true rfl) (Nat.le_of_ble_eq_true rfl)) (And.intro rfl (?_)))))))
  show Call d 4 [vr (some 79) 0, vi y] (I, H) _ _
  refine s_0_angleIn (by omega) hS (by omega) ?_
  show WP (Call d) 6 P X (8, [some (vr (some 79) 0), some (vi w), some (vi hr), some (vi y), none, none, none, none], [vi (I 80 y), vi (24 + (4 * hr))], (I, H), 0, 0)
  refine WP.go 1 (And.intro (And.intro (Nat.le_of_ble_eq_true rfl) (Nat.le_of_ble_eq_true rfl)) (And.intro rfl (?_)))
  show Call d 51 [vi (24 + (4 * hr)), vi (I 80 y)] (I, H) _ _
  refine s_4_directionOf (by omega) (by omega) (by omega) ?_
  show WP (Call d) 6 P X (9, [some (vr (some 79) 0), some (vi w), some (vi hr), some (vi y), none, none, none, none], [vi (dirOf (24 + (4 * hr)) (I 80 y))], (I, H), 0, 0)
  refine WP.go 8 (And.intro rfl (Exists.intro 6 (And.intro hS.r79_0 (And.intro rfl (Exists.intro 9 (And.intro hS.r6_1 (And.intro (And.intro (Nat.le_of_ble_eq_true rfl) (Nat.le_of_ble_eq_true rfl)) (And.intro rfl (?_)))))))))
  show Call d 58 [vr (some 9) 4, vi w, vi 1] (I, H) _ _
  refine s_get_windows1 (by omega) hS (.inl rfl) hT hV (by omega) ?_
  show WP (Call d) 6 P X (17, [some (vr (some 79) 0), some (vi w), some (vi hr), some (vi y), some (vi (dirOf (24 + (4 * hr)) (I 80 y))), none, none, none], [vi (μ (141 + 3 * w)), vi (dirOf (24 + (4 * hr)) (I 80 y))], (I, H), 0, 0)
  refine WP.go 7 (Exists.intro ((dirOf (24 + (4 * hr)) (I 80 y)) - (μ (141 + 3 * w))) (And.intro (wrp_a (by omega) (by omega)) (Exists.intro (((dirOf (24 + (4 * hr)) (I 80 y)) - (μ (141 + 3 * w))) % 8) (And.intro (And.intro (And.intro (by omega) rfl) (And.intro (Nat.le_of_ble_eq_true rfl) (Nat.le_of_ble_eq_true rfl))) (And.intro (fun (b23 : ¬ 1 < ((dirOf (24 + (4 * hr)) (I 80 y)) - (μ (141 + 3 * w))) % 8) => ?_) (fun (b23 : 1 < ((dirOf (24 + (4 * hr)) (I 80 y)) - (μ (141 + 3 * w))) % 8) => ?_))))))
  ·
    show WP (Call d) 6 P X (29, [some (vr (some 79) 0), some (vi w), some (vi hr), some (vi y), some (vi (dirOf (24 + (4 * hr)) (I 80 y))), some (vi (((dirOf (24 + (4 * hr)) (I 80 y)) - (μ (141 + 3 * w))) % 8)), none, none], [], (I, H), 0, 0)
    refine WP.go 14 (Exists.intro (12 - hr) (And.intro (wrp_a (by omega) (by omega)) (And.intro (And.intro (Nat.le_of_ble_eq_true rfl) (Nat.le_of_ble_eq_true rfl)) (Exists.intro (1 + (mn hr (12 - hr))) (And.intro (wrp_a (by omega) (by omega)) (And.intro rfl (Exists.intro 6 (And.intro hS.r79_0 (And.intro rfl (Exists.intro 6 (And.intro hS.r79_0 (And.intro (And.intro (Nat.le_of_ble_eq_true rfl) (Nat.le_of_ble_eq_true rfl)) (And.intro rfl (?_))))))))))))))
    show Call d 95 [vr (some 6) 6, vi w] (I, H) _ _
    refine s_8_houseOf (by omega) hS (.inl rfl) hT hV (by omega) ?_
    show WP (Call d) 6 P X (43, [some (vr (some 79) 0), some (vi w), some (vi hr), some (vi y), some (vi (dirOf (24 + (4 * hr)) (I 80 y))), some (vi (((dirOf (24 + (4 * hr)) (I 80 y)) - (μ (141 + 3 * w))) % 8)), some (vi (1 + (mn hr (12 - hr)))), none], [vi (μ (140 + 3 * w)), vr (some 6) 6], (I, H), 0, 0)
    refine WP.go 1 (And.intro (And.intro (Nat.le_of_ble_eq_true rfl) (Nat.le_of_ble_eq_true rfl)) (And.intro rfl (?_)))
    show Call d 93 [vr (some 6) 6, vi (μ (140 + 3 * w))] (I, H) _ _
    refine s_8_cellOf (by omega) hS (.inl rfl) hT hV (by omega) ?_
    show WP (Call d) 6 P X (44, [some (vr (some 79) 0), some (vi w), some (vi hr), some (vi y), some (vi (dirOf (24 + (4 * hr)) (I 80 y))), some (vi (((dirOf (24 + (4 * hr)) (I 80 y)) - (μ (141 + 3 * w))) % 8)), some (vi (1 + (mn hr (12 - hr)))), none], [vi (μ (120 + 2 * (μ (140 + 3 * w))))], (I, H), 0, 0)
    refine WP.go 9 (And.intro rfl (Exists.intro 6 (And.intro hS.r79_0 (And.intro rfl (Exists.intro 9 (And.intro hS.r6_1 (And.intro (And.intro (Nat.le_of_ble_eq_true rfl) (Nat.le_of_ble_eq_true rfl)) (And.intro rfl (?_)))))))))
    show Call d 58 [vr (some 9) 4, vi w, vi 2] (I, H) _ _
    refine s_get_windows2 (by omega) hS (.inl rfl) hT hV (by omega) ?_
    show WP (Call d) 6 P X (53, [some (vr (some 79) 0), some (vi w), some (vi hr), some (vi y), some (vi (dirOf (24 + (4 * hr)) (I 80 y))), some (vi (((dirOf (24 + (4 * hr)) (I 80 y)) - (μ (141 + 3 * w))) % 8)), some (vi (1 + (mn hr (12 - hr)))), some (vi (μ (120 + 2 * (μ (140 + 3 * w)))))], [vi (μ (142 + 3 * w)), vi (μ (120 + 2 * (μ (140 + 3 * w)))), vr (some 79) 0], (I, H), 0, 0)
    refine WP.go 3 (And.intro (And.intro (Nat.le_of_ble_eq_true rfl) (Nat.le_of_ble_eq_true rfl)) (And.intro rfl (?_)))
    show Call d 7 [vr (some 79) 0, vi (μ (120 + 2 * (μ (140 + 3 * w)))), vi (μ (142 + 3 * w)), vi (dirOf (24 + (4 * hr)) (I 80 y)), vi (1 + (mn hr (12 - hr)))] (I, H) _ _
    refine s_0_isShaded (by omega) hS hX hA (by omega) (by omega) (by omega) (by omega) ?_
    show WP (Call d) 6 P X (56, [some (vr (some 79) 0), some (vi w), some (vi hr), some (vi y), some (vi (dirOf (24 + (4 * hr)) (I 80 y))), some (vi (((dirOf (24 + (4 * hr)) (I 80 y)) - (μ (141 + 3 * w))) % 8)), some (vi (1 + (mn hr (12 - hr)))), some (vi (μ (120 + 2 * (μ (140 + 3 * w)))))], [vi (bz (SHD (I 81) (μ (120 + 2 * (μ (140 + 3 * w)))) (μ (142 + 3 * w)) (dirOf (24 + (4 * hr)) (I 80 y)) (1 + (mn hr (12 - hr)))))], (I, H), 0, 0)
    refine WP.go 1 (And.intro (fun (b56 : ¬ bz (SHD (I 81) (μ (120 + 2 * (μ (140 + 3 * w)))) (μ (142 + 3 * w)) (dirOf (24 + (4 * hr)) (I 80 y)) (1 + (mn hr (12 - hr)))) = 0) => ?_) (fun (b56 : bz (SHD (I 81) (μ (120 + 2 * (μ (140 + 3 * w)))) (μ (142 + 3 * w)) (dirOf (24 + (4 * hr)) (I 80 y)) (1 + (mn hr (12 - hr)))) = 0) => ?_))
    ·
      show WP (Call d) 6 P X (59, [some (vr (some 79) 0), some (vi w), some (vi hr), some (vi y), some (vi (dirOf (24 + (4 * hr)) (I 80 y))), some (vi (((dirOf (24 + (4 * hr)) (I 80 y)) - (μ (141 + 3 * w))) % 8)), some (vi (1 + (mn hr (12 - hr)))), some (vi (μ (120 + 2 * (μ (140 + 3 * w)))))], [], (I, H), 0, 0)
      have z56 := bz_e1.mp b56
      refine WP.go 2 (And.intro (And.intro (Nat.le_of_ble_eq_true rfl) (Nat.le_of_ble_eq_true rfl)) (And.intro (Or.inl rfl) (?_)))
      show P (some (vi 0)) (I, H)
      exact fin_i (zero_bz (fun q => q.2 (bz_e1.mp b56))) h
    ·
      show WP (Call d) 6 P X (57, [some (vr (some 79) 0), some (vi w), some (vi hr), some (vi y), some (vi (dirOf (24 + (4 * hr)) (I 80 y))), some (vi (((dirOf (24 + (4 * hr)) (I 80 y)) - (μ (141 + 3 * w))) % 8)), some (vi (1 + (mn hr (12 - hr)))), some (vi (μ (120 + 2 * (μ (140 + 3 * w)))))], [], (I, H), 0, 0)
      have z56 := bz_e0.mp b56
      refine WP.go 3 (And.intro (And.intro (Nat.le_of_ble_eq_true rfl) (Nat.le_of_ble_eq_true rfl)) (And.intro (Or.inr rfl) (?_)))
      show P (some (vi 1)) (I, H)
      exact fin_i (one_bz ⟨by omega, bz_e0.mp b56⟩) h
  ·
    show WP (Call d) 6 P X (24, [some (vr (some 79) 0), some (vi w), some (vi hr), some (vi y), some (vi (dirOf (24 + (4 * hr)) (I 80 y))), some (vi (((dirOf (24 + (4 * hr)) (I 80 y)) - (μ (141 + 3 * w))) % 8)), none, none], [], (I, H), 0, 0)
    refine WP.go 3 (And.intro (fun (b26 : ¬ ((dirOf (24 + (4 * hr)) (I 80 y)) - (μ (141 + 3 * w))) % 8 < 7) => ?_) (fun (b26 : ((dirOf (24 + (4 * hr)) (I 80 y)) - (μ (141 + 3 * w))) % 8 < 7) => ?_))
    ·
      show WP (Call d) 6 P X (29, [some (vr (some 79) 0), some (vi w), some (vi hr), some (vi y), some (vi (dirOf (24 + (4 * hr)) (I 80 y))), some (vi (((dirOf (24 + (4 * hr)) (I 80 y)) - (μ (141 + 3 * w))) % 8)), none, none], [], (I, H), 0, 0)
      refine WP.go 14 (Exists.intro (12 - hr) (And.intro (wrp_a (by omega) (by omega)) (And.intro (And.intro (Nat.le_of_ble_eq_true rfl) (Nat.le_of_ble_eq_true rfl)) (Exists.intro (1 + (mn hr (12 - hr))) (And.intro (wrp_a (by omega) (by omega)) (And.intro rfl (Exists.intro 6 (And.intro hS.r79_0 (And.intro rfl (Exists.intro 6 (And.intro hS.r79_0 (And.intro (And.intro (Nat.le_of_ble_eq_true rfl) (Nat.le_of_ble_eq_true rfl)) (And.intro rfl (?_))))))))))))))
      show Call d 95 [vr (some 6) 6, vi w] (I, H) _ _
      refine s_8_houseOf (by omega) hS (.inl rfl) hT hV (by omega) ?_
      show WP (Call d) 6 P X (43, [some (vr (some 79) 0), some (vi w), some (vi hr), some (vi y), some (vi (dirOf (24 + (4 * hr)) (I 80 y))), some (vi (((dirOf (24 + (4 * hr)) (I 80 y)) - (μ (141 + 3 * w))) % 8)), some (vi (1 + (mn hr (12 - hr)))), none], [vi (μ (140 + 3 * w)), vr (some 6) 6], (I, H), 0, 0)
      refine WP.go 1 (And.intro (And.intro (Nat.le_of_ble_eq_true rfl) (Nat.le_of_ble_eq_true rfl)) (And.intro rfl (?_)))
      show Call d 93 [vr (some 6) 6, vi (μ (140 + 3 * w))] (I, H) _ _
      refine s_8_cellOf (by omega) hS (.inl rfl) hT hV (by omega) ?_
      show WP (Call d) 6 P X (44, [some (vr (some 79) 0), some (vi w), some (vi hr), some (vi y), some (vi (dirOf (24 + (4 * hr)) (I 80 y))), some (vi (((dirOf (24 + (4 * hr)) (I 80 y)) - (μ (141 + 3 * w))) % 8)), some (vi (1 + (mn hr (12 - hr)))), none], [vi (μ (120 + 2 * (μ (140 + 3 * w))))], (I, H), 0, 0)
      refine WP.go 9 (And.intro rfl (Exists.intro 6 (And.intro hS.r79_0 (And.intro rfl (Exists.intro 9 (And.intro hS.r6_1 (And.intro (And.intro (Nat.le_of_ble_eq_true rfl) (Nat.le_of_ble_eq_true rfl)) (And.intro rfl (?_)))))))))
      show Call d 58 [vr (some 9) 4, vi w, vi 2] (I, H) _ _
      refine s_get_windows2 (by omega) hS (.inl rfl) hT hV (by omega) ?_
      show WP (Call d) 6 P X (53, [some (vr (some 79) 0), some (vi w), some (vi hr), some (vi y), some (vi (dirOf (24 + (4 * hr)) (I 80 y))), some (vi (((dirOf (24 + (4 * hr)) (I 80 y)) - (μ (141 + 3 * w))) % 8)), some (vi (1 + (mn hr (12 - hr)))), some (vi (μ (120 + 2 * (μ (140 + 3 * w)))))], [vi (μ (142 + 3 * w)), vi (μ (120 + 2 * (μ (140 + 3 * w)))), vr (some 79) 0], (I, H), 0, 0)
      refine WP.go 3 (And.intro (And.intro (Nat.le_of_ble_eq_true rfl) (Nat.le_of_ble_eq_true rfl)) (And.intro rfl (?_)))
      show Call d 7 [vr (some 79) 0, vi (μ (120 + 2 * (μ (140 + 3 * w)))), vi (μ (142 + 3 * w)), vi (dirOf (24 + (4 * hr)) (I 80 y)), vi (1 + (mn hr (12 - hr)))] (I, H) _ _
      refine s_0_isShaded (by omega) hS hX hA (by omega) (by omega) (by omega) (by omega) ?_
      show WP (Call d) 6 P X (56, [some (vr (some 79) 0), some (vi w), some (vi hr), some (vi y), some (vi (dirOf (24 + (4 * hr)) (I 80 y))), some (vi (((dirOf (24 + (4 * hr)) (I 80 y)) - (μ (141 + 3 * w))) % 8)), some (vi (1 + (mn hr (12 - hr)))), some (vi (μ (120 + 2 * (μ (140 + 3 * w)))))], [vi (bz (SHD (I 81) (μ (120 + 2 * (μ (140 + 3 * w)))) (μ (142 + 3 * w)) (dirOf (24 + (4 * hr)) (I 80 y)) (1 + (mn hr (12 - hr)))))], (I, H), 0, 0)
      refine WP.go 1 (And.intro (fun (b56 : ¬ bz (SHD (I 81) (μ (120 + 2 * (μ (140 + 3 * w)))) (μ (142 + 3 * w)) (dirOf (24 + (4 * hr)) (I 80 y)) (1 + (mn hr (12 - hr)))) = 0) => ?_) (fun (b56 : bz (SHD (I 81) (μ (120 + 2 * (μ (140 + 3 * w)))) (μ (142 + 3 * w)) (dirOf (24 + (4 * hr)) (I 80 y)) (1 + (mn hr (12 - hr)))) = 0) => ?_))
      ·
        show WP (Call d) 6 P X (59, [some (vr (some 79) 0), some (vi w), some (vi hr), some (vi y), some (vi (dirOf (24 + (4 * hr)) (I 80 y))), some (vi (((dirOf (24 + (4 * hr)) (I 80 y)) - (μ (141 + 3 * w))) % 8)), some (vi (1 + (mn hr (12 - hr)))), some (vi (μ (120 + 2 * (μ (140 + 3 * w)))))], [], (I, H), 0, 0)
        have z56 := bz_e1.mp b56
        refine WP.go 2 (And.intro (And.intro (Nat.le_of_ble_eq_true rfl) (Nat.le_of_ble_eq_true rfl)) (And.intro (Or.inl rfl) (?_)))
        show P (some (vi 0)) (I, H)
        exact fin_i (zero_bz (fun q => q.2 (bz_e1.mp b56))) h
      ·
        show WP (Call d) 6 P X (57, [some (vr (some 79) 0), some (vi w), some (vi hr), some (vi y), some (vi (dirOf (24 + (4 * hr)) (I 80 y))), some (vi (((dirOf (24 + (4 * hr)) (I 80 y)) - (μ (141 + 3 * w))) % 8)), some (vi (1 + (mn hr (12 - hr)))), some (vi (μ (120 + 2 * (μ (140 + 3 * w)))))], [], (I, H), 0, 0)
        have z56 := bz_e0.mp b56
        refine WP.go 3 (And.intro (And.intro (Nat.le_of_ble_eq_true rfl) (Nat.le_of_ble_eq_true rfl)) (And.intro (Or.inr rfl) (?_)))
        show P (some (vi 1)) (I, H)
        exact fin_i (one_bz ⟨by omega, bz_e0.mp b56⟩) h
    ·
      show WP (Call d) 6 P X (27, [some (vr (some 79) 0), some (vi w), some (vi hr), some (vi y), some (vi (dirOf (24 + (4 * hr)) (I 80 y))), some (vi (((dirOf (24 + (4 * hr)) (I 80 y)) - (μ (141 + 3 * w))) % 8)), none, none], [], (I, H), 0, 0)
      refine WP.go 2 (And.intro (And.intro (Nat.le_of_ble_eq_true rfl) (Nat.le_of_ble_eq_true rfl)) (And.intro (Or.inl rfl) (?_)))
      show P (some (vi 0)) (I, H)
      exact fin_i (zero_bz (fun q => by have := q.1; omega)) h

theorem s_0_lightIn {d : Nat} {P : Option qV → qH → Prop} {X : Nat → qH → Prop} {I : qI} {H : qS} {μ : Int → Int} (hd : 4 ≤ d) {w y : Int} (hS : Shp H) (hX : SX I) (hT : TR 6 I μ) (hV : IM μ) (hA : AB (I 80) (I 81)) (hw : 0 ≤ w ∧ w < μ 2) (hy : 0 ≤ y ∧ y < 100) (h : P (some (vi (LGT μ (I 80) (I 81) w y))) (I, H)) :
    Call d 9 [vr (some 79) 0, vi w, vi y] (I, H) P X := by
  obtain ⟨d, rfl⟩ : ∃ e, d = e + 1 := ⟨d - 1, by omega⟩
  show WP (Call d) 9 P X (0, [some (vr (some 79) 0), some (vi w), some (vi y), none, none], [], (I, H), 0, 0)
  refine WP.go 4 ?_
  show WP (Call d) 9 P X (4, [some (vr (some 79) 0), some (vi w), some (vi y), some (vi 0), some (vi 0)], [], (I, H), 0, 0)
  have lp4 : ∀ (n9 : Nat) (s9 : Int) (k : Int) (hm : 13 - k < (n9 : Int)) (iv0 : 0 ≤ k ∧ k ≤ 13) (iv1 : s9 = sI (fun hr => bz (LITp μ (I 80) (I 81) w hr y)) 0 k), WP (Call d) 9 P X (4, [some (vr (some 79) 0), some (vi w), some (vi y), some (vi s9), some (vi k)], [], (I, H), 0, 0) := by
    intro n9
    induction n9 with
    | zero => intro s9 k hm iv0 iv1; exact absurd hm (by omega)
    | succ n9 ih4 =>
      intro s9 k hm iv0 iv1
      have m1 := LGTs_bd (μ := μ) (A := I 80) (T := I 81) (w := w) (y := y) iv0.1
      refine WP.go 3 (And.intro (fun (b6 : ¬ k < 13) => ?_) (fun (b6 : k < 13) => ?_))
      ·
        show WP (Call d) 9 P X (21, [some (vr (some 79) 0), some (vi w), some (vi y), some (vi s9), some (vi k)], [], (I, H), 0, 0)
        refine WP.go 2 (And.intro (And.intro (Nat.le_of_ble_eq_true rfl) (Nat.le_of_ble_eq_true rfl)) (And.intro trivial (?_)))
        show P (some (vi s9)) (I, H)
        exact fin_i (by rw [iv1, show k = 13 by omega]; rfl) h
      ·
        show WP (Call d) 9 P X (7, [some (vr (some 79) 0), some (vi w), some (vi y), some (vi s9), some (vi k)], [], (I, H), 0, 0)
        refine WP.go 6 (And.intro (And.intro (Nat.le_of_ble_eq_true rfl) (Nat.le_of_ble_eq_true rfl)) (And.intro rfl (?_)))
        show Call d 6 [vr (some 79) 0, vi w, vi k, vi y] (I, H) _ _
        refine s_0_isLit (by omega) hS hX hT hV hA (by omega) (by omega) (by omega) ?_
        show WP (Call d) 9 P X (13, [some (vr (some 79) 0), some (vi w), some (vi y), some (vi s9), some (vi k)], [vi (bz (LITp μ (I 80) (I 81) w k y)), vi s9], (I, H), 0, 0)
        refine WP.go 1 (And.intro (fun (b13 : bz (LITp μ (I 80) (I 81) w k y) = 0) => ?_) (fun (b13 : ¬ bz (LITp μ (I 80) (I 81) w k y) = 0) => ?_))
        ·
          show WP (Call d) 9 P X (16, [some (vr (some 79) 0), some (vi w), some (vi y), some (vi s9), some (vi k)], [vi s9], (I, H), 0, 0)
          have z13 := bz_e0.mp b13
          refine WP.go 5 (Exists.intro (s9 + 0) (And.intro (wrp_a (by omega) (by omega)) (Exists.intro (k + 1) (And.intro (wrp_a (by omega) (by omega)) (?_)))))
          show WP (Call d) 9 P X (4, [some (vr (some 79) 0), some (vi w), some (vi y), some (vi (s9 + 0)), some (vi (k + 1))], [], (I, H), 0, 0)
          exact ih4 (s9 + 0) (k + 1) (by omega) (by omega) (by rw [sI_succ (by omega), ← iv1, b13])
        ·
          show WP (Call d) 9 P X (14, [some (vr (some 79) 0), some (vi w), some (vi y), some (vi s9), some (vi k)], [vi s9], (I, H), 0, 0)
          have z13 := bz_e1.mp b13
          refine WP.go 6 (Exists.intro (s9 + 1) (And.intro (wrp_a (by omega) (by omega)) (Exists.intro (k + 1) (And.intro (wrp_a (by omega) (by omega)) (?_)))))
          show WP (Call d) 9 P X (4, [some (vr (some 79) 0), some (vi w), some (vi y), some (vi (s9 + 1)), some (vi (k + 1))], [], (I, H), 0, 0)
          exact ih4 (s9 + 1) (k + 1) (by omega) (by omega) (by rw [sI_succ (by omega), ← iv1, bz_1 (bz_e1.mp b13)])
  exact lp4 ((13 - 0 : Int).toNat + 1) 0 0 (by omega) (by omega) (sI_nil (by omega)).symm

theorem s_0_lightOfWindow {d : Nat} {P : Option qV → qH → Prop} {X : Nat → qH → Prop} {I : qI} {H : qS} {μ : Int → Int} (hd : 5 ≤ d) {w a b : Int} (hS : Shp H) (hX : SX I) (hT : TR 6 I μ) (hV : IM μ) (hA : AB (I 80) (I 81)) (hw : 0 ≤ w ∧ w < μ 2) (ha : 0 ≤ a ∧ a ≤ b ∧ b < 100) (h : P (some (vi (LGW μ (I 80) (I 81) w a b))) (I, H)) :
    Call d 10 [vr (some 79) 0, vi w, vi a, vi b] (I, H) P X := by
  obtain ⟨d, rfl⟩ : ∃ e, d = e + 1 := ⟨d - 1, by omega⟩
  show WP (Call d) 10 P X (0, [some (vr (some 79) 0), some (vi w), some (vi a), some (vi b), none, none], [], (I, H), 0, 0)
  refine WP.go 4 ?_
  show WP (Call d) 10 P X (4, [some (vr (some 79) 0), some (vi w), some (vi a), some (vi b), some (vi 0), some (vi a)], [], (I, H), 0, 0)
  have lp4 : ∀ (n9 : Nat) (s9 : Int) (y : Int) (hm : b + 1 - y < (n9 : Int)) (iv0 : a ≤ y ∧ y ≤ b + 1) (iv1 : s9 = sI (fun y => LGT μ (I 80) (I 81) w y) a y), WP (Call d) 10 P X (4, [some (vr (some 79) 0), some (vi w), some (vi a), some (vi b), some (vi s9), some (vi y)], [], (I, H), 0, 0) := by
    intro n9
    induction n9 with
    | zero => intro s9 y hm iv0 iv1; exact absurd hm (by omega)
    | succ n9 ih4 =>
      intro s9 y hm iv0 iv1
      have m1 := LGWs_bd (μ := μ) (A := I 80) (T := I 81) (w := w) iv0.1
      have m2 := LGT_bd μ (I 80) (I 81) w y
      refine WP.go 3 (And.intro (fun (b6 : b < y) => ?_) (fun (b6 : ¬ b < y) => ?_))
      ·
        show WP (Call d) 10 P X (19, [some (vr (some 79) 0), some (vi w), some (vi a), some (vi b), some (vi s9), some (vi y)], [], (I, H), 0, 0)
        refine WP.go 2 (And.intro (And.intro (Nat.le_of_ble_eq_true rfl) (Nat.le_of_ble_eq_true rfl)) (And.intro trivial (?_)))
        show P (some (vi s9)) (I, H)
        exact fin_i (by rw [iv1, show y = b + 1 by omega]; rfl) h
      ·
        show WP (Call d) 10 P X (7, [some (vr (some 79) 0), some (vi w), some (vi a), some (vi b), some (vi s9), some (vi y)], [], (I, H), 0, 0)
        refine WP.go 3 (And.intro (fun (b9 : ¬ y < 100) => (absurd b9 (by omega))) (fun (b9 : y < 100) => ?_))
        show WP (Call d) 10 P X (10, [some (vr (some 79) 0), some (vi w), some (vi a), some (vi b), some (vi s9), some (vi y)], [], (I, H), 0, 0)
        refine WP.go 5 (And.intro (And.intro (Nat.le_of_ble_eq_true rfl) (Nat.le_of_ble_eq_true rfl)) (And.intro rfl (?_)))
        show Call d 9 [vr (some 79) 0, vi w, vi y] (I, H) _ _
        refine s_0_lightIn (by omega) hS hX hT hV hA (by omega) (by omega) ?_
        show WP (Call d) 10 P X (15, [some (vr (some 79) 0), some (vi w), some (vi a), some (vi b), some (vi s9), some (vi y)], [vi (LGT μ (I 80) (I 81) w y), vi s9], (I, H), 0, 0)
        refine WP.go 4 (Exists.intro (s9 + (LGT μ (I 80) (I 81) w y)) (And.intro (wrp_a (by omega) (by omega)) (Exists.intro (y + 1) (And.intro (wrp_a (by omega) (by omega)) (?_)))))
        show WP (Call d) 10 P X (4, [some (vr (some 79) 0), some (vi w), some (vi a), some (vi b), some (vi (s9 + (LGT μ (I 80) (I 81) w y))), some (vi (y + 1))], [], (I, H), 0, 0)
        exact ih4 (s9 + (LGT μ (I 80) (I 81) w y)) (y + 1) (by omega) (by omega) (by rw [sI_succ (by omega), ← iv1])
  exact lp4 ((b + 1 - a : Int).toNat + 1) 0 a (by omega) (by omega) (sI_nil (by omega)).symm

theorem s_0_lightOfHouse {d : Nat} {P : Option qV → qH → Prop} {X : Nat → qH → Prop} {I : qI} {H : qS} {μ : Int → Int} (hd : 5 ≤ d) {h9 y : Int} (hS : Shp H) (hX : SX I) (hT : TR 6 I μ) (hV : IM μ) (hA : AB (I 80) (I 81)) (hy : 0 ≤ y ∧ y < 100) (h : P (some (vi (LGH μ (I 80) (I 81) h9 y))) (I, H)) :
    Call d 11 [vr (some 79) 0, vi h9, vi y] (I, H) P X := by
  obtain ⟨d, rfl⟩ : ∃ e, d = e + 1 := ⟨d - 1, by omega⟩
  have v1 := hV.n2
  show WP (Call d) 11 P X (0, [some (vr (some 79) 0), some (vi h9), some (vi y), none, none], [], (I, H), 0, 0)
  refine WP.go 4 ?_
  show WP (Call d) 11 P X (4, [some (vr (some 79) 0), some (vi h9), some (vi y), some (vi 0), some (vi 0)], [], (I, H), 0, 0)
  have lp4 : ∀ (n9 : Nat) (s9 : Int) (w : Int) (hm : μ 2 - w < (n9 : Int)) (iv0 : 0 ≤ w ∧ w ≤ μ 2) (iv1 : s9 = sI (fun w => if μ (140 + 3 * w) = h9 then LGT μ (I 80) (I 81) w y else 0) 0 w), WP (Call d) 11 P X (4, [some (vr (some 79) 0), some (vi h9), some (vi y), some (vi s9), some (vi w)], [], (I, H), 0, 0) := by
    intro n9
    induction n9 with
    | zero => intro s9 w hm iv0 iv1; exact absurd hm (by omega)
    | succ n9 ih4 =>
      intro s9 w hm iv0 iv1
      have m1 := LGHs_bd (μ := μ) (A := I 80) (T := I 81) (h := h9) (y := y) iv0.1
      have m2 := LGT_bd μ (I 80) (I 81) w y
      refine WP.go 5 (And.intro rfl (Exists.intro 6 (And.intro hS.r79_0 (And.intro rfl (Exists.intro 9 (And.intro hS.r6_1 (And.intro (And.intro (Nat.le_of_ble_eq_true rfl) (Nat.le_of_ble_eq_true rfl)) (And.intro rfl (?_)))))))))
      show Call d 55 [vr (some 9) 4] (I, H) _ _
      refine s_size_windows (by omega) hT ?_
      show WP (Call d) 11 P X (9, [some (vr (some 79) 0), some (vi h9), some (vi y), some (vi s9), some (vi w)], [vi (μ 2), vi w], (I, H), 0, 0)
      refine WP.go 1 (And.intro (fun (b9 : ¬ w < μ 2) => ?_) (fun (b9 : w < μ 2) => ?_))
      ·
        show WP (Call d) 11 P X (25, [some (vr (some 79) 0), some (vi h9), some (vi y), some (vi s9), some (vi w)], [], (I, H), 0, 0)
        refine WP.go 2 (And.intro (And.intro (Nat.le_of_ble_eq_true rfl) (Nat.le_of_ble_eq_true rfl)) (And.intro trivial (?_)))
        show P (some (vi s9)) (I, H)
        exact fin_i (by rw [iv1, show w = μ 2 by omega]; rfl) h
      ·
        show WP (Call d) 11 P X (10, [some (vr (some 79) 0), some (vi h9), some (vi y), some (vi s9), some (vi w)], [], (I, H), 0, 0)
        refine WP.go 4 (And.intro rfl (Exists.intro 6 (And.intro hS.r79_0 (And.intro (And.intro (Nat.le_of_ble_eq_true rfl) (Nat.le_of_ble_eq_true rfl)) (And.intro rfl (?_))))))
        show Call d 95 [vr (some 6) 6, vi w] (I, H) _ _
        refine s_8_houseOf (by omega) hS (.inl rfl) hT hV (by omega) ?_
        show WP (Call d) 11 P X (14, [some (vr (some 79) 0), some (vi h9), some (vi y), some (vi s9), some (vi w)], [vi (μ (140 + 3 * w))], (I, H), 0, 0)
        refine WP.go 2 (And.intro (fun (b15 : ¬ μ (140 + 3 * w) = h9) => ?_) (fun (b15 : μ (140 + 3 * w) = h9) => ?_))
        ·
          show WP (Call d) 11 P X (23, [some (vr (some 79) 0), some (vi h9), some (vi y), some (vi s9), some (vi w)], [], (I, H), 0, 0)
          refine WP.go 2 (Exists.intro (w + 1) (And.intro (wrp_a (by omega) (by omega)) (?_)))
          show WP (Call d) 11 P X (4, [some (vr (some 79) 0), some (vi h9), some (vi y), some (vi s9), some (vi (w + 1))], [], (I, H), 0, 0)
          exact ih4 s9 (w + 1) (by omega) (by omega) (by rw [sI_succ (by omega), ← iv1, if_neg b15, Int.add_zero])
        ·
          show WP (Call d) 11 P X (16, [some (vr (some 79) 0), some (vi h9), some (vi y), some (vi s9), some (vi w)], [], (I, H), 0, 0)
          refine WP.go 5 (And.intro (And.intro (Nat.le_of_ble_eq_true rfl) (Nat.le_of_ble_eq_true rfl)) (And.intro rfl (?_)))
          show Call d 9 [vr (some 79) 0, vi w, vi y] (I, H) _ _
          refine s_0_lightIn (by omega) hS hX hT hV hA (by omega) (by omega) ?_
          show WP (Call d) 11 P X (21, [some (vr (some 79) 0), some (vi h9), some (vi y), some (vi s9), some (vi w)], [vi (LGT μ (I 80) (I 81) w y), vi s9], (I, H), 0, 0)
          refine WP.go 4 (Exists.intro (s9 + (LGT μ (I 80) (I 81) w y)) (And.intro (wrp_a (by omega) (by omega)) (Exists.intro (w + 1) (And.intro (wrp_a (by omega) (by omega)) (?_)))))
          show WP (Call d) 11 P X (4, [some (vr (some 79) 0), some (vi h9), some (vi y), some (vi (s9 + (LGT μ (I 80) (I 81) w y))), some (vi (w + 1))], [], (I, H), 0, 0)
          exact ih4 (s9 + (LGT μ (I 80) (I 81) w y)) (w + 1) (by omega) (by omega) (by rw [sI_succ (by omega), ← iv1, if_pos b15])
  exact lp4 ((μ 2 - 0 : Int).toNat + 1) 0 0 (by omega) (by omega) (sI_nil (by omega)).symm

theorem s_0_isInFrost {d : Nat} {P : Option qV → qH → Prop} {X : Nat → qH → Prop} {I : qI} {H : qS} {μ : Int → Int} (hd : 6 ≤ d) {h9 y : Int} (hS : Shp H) (hX : SX I) (hT : TR 6 I μ) (hV : IM μ) (hA : AB (I 80) (I 81)) (hy : 0 ≤ y ∧ y < 100) (h : P (some (vi (bz (LGH μ (I 80) (I 81) h9 y = 0)))) (I, H)) :
    Call d 12 [vr (some 79) 0, vi h9, vi y] (I, H) P X := by
  obtain ⟨d, rfl⟩ : ∃ e, d = e + 1 := ⟨d - 1, by omega⟩
  show WP (Call d) 12 P X (0, [some (vr (some 79) 0), some (vi h9), some (vi y)], [], (I, H), 0, 0)
  refine WP.go 4 (And.intro (And.intro (Nat.le_of_ble_eq_true rfl) (Nat.le_of_ble_eq_true rfl)) (And.intro rfl (?_)))
  show Call d 11 [vr (some 79) 0, vi h9, vi y] (I, H) _ _
  refine s_0_lightOfHouse (by omega) hS hX hT hV hA (by omega) ?_
  show WP (Call d) 12 P X (4, [some (vr (some 79) 0), some (vi h9), some (vi y)], [vi (LGH μ (I 80) (I 81) h9 y)], (I, H), 0, 0)
  refine WP.go 1 (And.intro (fun (b4 : ¬ LGH μ (I 80) (I 81) h9 y = 0) => ?_) (fun (b4 : LGH μ (I 80) (I 81) h9 y = 0) => ?_))
  ·
    show WP (Call d) 12 P X (7, [some (vr (some 79) 0), some (vi h9), some (vi y)], [], (I, H), 0, 0)
    refine WP.go 2 (And.intro (And.intro (Nat.le_of_ble_eq_true rfl) (Nat.le_of_ble_eq_true rfl)) (And.intro (Or.inl rfl) (?_)))
    show P (some (vi 0)) (I, H)
    exact fin_i (by first | rfl | omega | exact zero_bz (by omega) | exact one_bz (by omega)) h
  ·
    show WP (Call d) 12 P X (5, [some (vr (some 79) 0), some (vi h9), some (vi y)], [], (I, H), 0, 0)
    refine WP.go 3 (And.intro (And.intro (Nat.le_of_ble_eq_true rfl) (Nat.le_of_ble_eq_true rfl)) (And.intro (Or.inr rfl) (?_)))
    show P (some (vi 1)) (I, H)
    exact fin_i (by first | rfl | omega | exact zero_bz (by omega) | exact one_bz (by omega)) h

theorem s_0_hasNoon {d : Nat} {P : Option qV → qH → Prop} {X : Nat → qH → Prop} {I : qI} {H : qS} {μ : Int → Int} (hd : 4 ≤ d) {h9 y : Int} (hS : Shp H) (hX : SX I) (hT : TR 6 I μ) (hV : IM μ) (hA : AB (I 80) (I 81)) (hy : 0 ≤ y ∧ y < 100) (h : P (some (vi (bz (NOONp μ (I 80) (I 81) h9 y)))) (I, H)) :
    Call d 13 [vr (some 79) 0, vi h9, vi y] (I, H) P X := by
  obtain ⟨d, rfl⟩ : ∃ e, d = e + 1 := ⟨d - 1, by omega⟩
  have v1 := hV.n2
  show WP (Call d) 13 P X (0, [some (vr (some 79) 0), some (vi h9), some (vi y), none], [], (I, H), 0, 0)
  refine WP.go 2 ?_
  show WP (Call d) 13 P X (2, [some (vr (some 79) 0), some (vi h9), some (vi y), some (vi 0)], [], (I, H), 0, 0)
  have lp2 : ∀ (n9 : Nat) (w : Int) (hm : μ 2 - w < (n9 : Int)) (iv0 : 0 ≤ w ∧ w ≤ μ 2) (iv1 : ∀ i, 0 ≤ i → i < w → ¬ (μ (140 + 3 * i) = h9 ∧ LITp μ (I 80) (I 81) i 6 y)), WP (Call d) 13 P X (2, [some (vr (some 79) 0), some (vi h9), some (vi y), some (vi w)], [], (I, H), 0, 0) := by
    intro n9
    induction n9 with
    | zero => intro w hm iv0 iv1; exact absurd hm (by omega)
    | succ n9 ih2 =>
      intro w hm iv0 iv1
      refine WP.go 5 (And.intro rfl (Exists.intro 6 (And.intro hS.r79_0 (And.intro rfl (Exists.intro 9 (And.intro hS.r6_1 (And.intro (And.intro (Nat.le_of_ble_eq_true rfl) (Nat.le_of_ble_eq_true rfl)) (And.intro rfl (?_)))))))))
      show Call d 55 [vr (some 9) 4] (I, H) _ _
      refine s_size_windows (by omega) hT ?_
      show WP (Call d) 13 P X (7, [some (vr (some 79) 0), some (vi h9), some (vi y), some (vi w)], [vi (μ 2), vi w], (I, H), 0, 0)
      refine WP.go 1 (And.intro (fun (b7 : ¬ w < μ 2) => ?_) (fun (b7 : w < μ 2) => ?_))
      ·
        show WP (Call d) 13 P X (24, [some (vr (some 79) 0), some (vi h9), some (vi y), some (vi w)], [], (I, H), 0, 0)
        refine WP.go 2 (And.intro (And.intro (Nat.le_of_ble_eq_true rfl) (Nat.le_of_ble_eq_true rfl)) (And.intro (Or.inl rfl) (?_)))
        show P (some (vi 0)) (I, H)
        exact fin_i (zero_bz (fun ⟨i, q1, q2, q3⟩ => iv1 i q1 (by omega) q3)) h
      ·
        show WP (Call d) 13 P X (8, [some (vr (some 79) 0), some (vi h9), some (vi y), some (vi w)], [], (I, H), 0, 0)
        refine WP.go 4 (And.intro rfl (Exists.intro 6 (And.intro hS.r79_0 (And.intro (And.intro (Nat.le_of_ble_eq_true rfl) (Nat.le_of_ble_eq_true rfl)) (And.intro rfl (?_))))))
        show Call d 95 [vr (some 6) 6, vi w] (I, H) _ _
        refine s_8_houseOf (by omega) hS (.inl rfl) hT hV (by omega) ?_
        show WP (Call d) 13 P X (12, [some (vr (some 79) 0), some (vi h9), some (vi y), some (vi w)], [vi (μ (140 + 3 * w))], (I, H), 0, 0)
        refine WP.go 2 (And.intro (fun (b13 : ¬ μ (140 + 3 * w) = h9) => ?_) (fun (b13 : μ (140 + 3 * w) = h9) => ?_))
        ·
          show WP (Call d) 13 P X (22, [some (vr (some 79) 0), some (vi h9), some (vi y), some (vi w)], [], (I, H), 0, 0)
          refine WP.go 2 (Exists.intro (w + 1) (And.intro (wrp_a (by omega) (by omega)) (?_)))
          show WP (Call d) 13 P X (2, [some (vr (some 79) 0), some (vi h9), some (vi y), some (vi (w + 1))], [], (I, H), 0, 0)
          exact ih2 (w + 1) (by omega) (by omega) (fun i q1 q2 => by rcases Int.lt_or_eq_of_le (show i ≤ w by omega) with z | z; exact iv1 i q1 z; exact fun q => b13 (z ▸ q.1))
        ·
          show WP (Call d) 13 P X (14, [some (vr (some 79) 0), some (vi h9), some (vi y), some (vi w)], [], (I, H), 0, 0)
          refine WP.go 5 (And.intro (And.intro (Nat.le_of_ble_eq_true rfl) (Nat.le_of_ble_eq_true rfl)) (And.intro rfl (?_)))
          show Call d 6 [vr (some 79) 0, vi w, vi 6, vi y] (I, H) _ _
          refine s_0_isLit (by omega) hS hX hT hV hA (by omega) (by omega) (by omega) ?_
          show WP (Call d) 13 P X (19, [some (vr (some 79) 0), some (vi h9), some (vi y), some (vi w)], [vi (bz (LITp μ (I 80) (I 81) w 6 y))], (I, H), 0, 0)
          refine WP.go 1 (And.intro (fun (b19 : bz (LITp μ (I 80) (I 81) w 6 y) = 0) => ?_) (fun (b19 : ¬ bz (LITp μ (I 80) (I 81) w 6 y) = 0) => ?_))
          ·
            show WP (Call d) 13 P X (22, [some (vr (some 79) 0), some (vi h9), some (vi y), some (vi w)], [], (I, H), 0, 0)
            have z19 := bz_e0.mp b19
            refine WP.go 2 (Exists.intro (w + 1) (And.intro (wrp_a (by omega) (by omega)) (?_)))
            show WP (Call d) 13 P X (2, [some (vr (some 79) 0), some (vi h9), some (vi y), some (vi (w + 1))], [], (I, H), 0, 0)
            exact ih2 (w + 1) (by omega) (by omega) (fun i q1 q2 => by rcases Int.lt_or_eq_of_le (show i ≤ w by omega) with z | z; exact iv1 i q1 z; exact fun q => bz_e0.mp b19 (z ▸ q.2))
          ·
            show WP (Call d) 13 P X (20, [some (vr (some 79) 0), some (vi h9), some (vi y), some (vi w)], [], (I, H), 0, 0)
            have z19 := bz_e1.mp b19
            refine WP.go 2 (And.intro (And.intro (Nat.le_of_ble_eq_true rfl) (Nat.le_of_ble_eq_true rfl)) (And.intro (Or.inr rfl) (?_)))
            show P (some (vi 1)) (I, H)
            exact fin_i (one_bz ⟨w, iv0.1, by omega, b13, bz_e1.mp b19⟩) h
  exact lp2 ((μ 2 - 0 : Int).toNat + 1) 0 (by omega) (by omega) (fun i q1 q2 => by omega)

theorem s_0_isWindy {d : Nat} {P : Option qV → qH → Prop} {X : Nat → qH → Prop} {I : qI} {H : qS} {μ : Int → Int} (hd : 3 ≤ d) {h9 y : Int} (hS : Shp H) (hX : SX I) (hT : TR 6 I μ) (hV : IM μ) (hA : AB (I 80) (I 81)) (hy : 0 ≤ y ∧ y < 100) (hh : 0 ≤ h9 ∧ h9 < μ 1) (h : P (some (vi (bz (WDYp μ (I 80) (I 81) h9 y)))) (I, H)) :
    Call d 14 [vr (some 79) 0, vi h9, vi y] (I, H) P X := by
  obtain ⟨d, rfl⟩ : ∃ e, d = e + 1 := ⟨d - 1, by omega⟩
  have a1 := hA.1 y hy.1 hy.2
  have v1 := hV.gu
  have v2 := hV.hc h9 hh.1 hh.2
  have m1 := dirOf_bd (μ 13) (I 80 y)
  show WP (Call d) 14 P X (0, [some (vr (some 79) 0), some (vi h9), some (vi y), none, none, none], [], (I, H), 0, 0)
  refine WP.go 4 (And.intro rfl (Exists.intro 6 (And.intro hS.r79_0 (And.intro (And.intro (Nat.le_of_ble_eq_true rfl) (Nat.le_of_ble_eq_true rfl)) (And.intro rfl (?_))))))
  show Call d 84 [vr (some 6) 6, vi 4] (I, H) _ _
  refine s_dial_4 (by omega) hS (.inl rfl) hT hV ?_
  show WP (Call d) 14 P X (4, [some (vr (some 79) 0), some (vi h9), some (vi y), none, none, none], [vi (μ 13)], (I, H), 0, 0)
  refine WP.go 3 (And.intro (And.intro (Nat.le_of_ble_eq_true rfl) (Nat.le_of_ble_eq_true rfl)) (And.intro rfl (?_)))
  show Call d 4 [vr (some 79) 0, vi y] (I, H) _ _
  refine s_0_angleIn (by omega) hS (by omega) ?_
  show WP (Call d) 14 P X (7, [some (vr (some 79) 0), some (vi h9), some (vi y), none, none, none], [vi (I 80 y), vi (μ 13)], (I, H), 0, 0)
  refine WP.go 1 (And.intro (And.intro (Nat.le_of_ble_eq_true rfl) (Nat.le_of_ble_eq_true rfl)) (And.intro rfl (?_)))
  show Call d 51 [vi (μ 13), vi (I 80 y)] (I, H) _ _
  refine s_4_directionOf (by omega) (by omega) (by omega) ?_
  show WP (Call d) 14 P X (8, [some (vr (some 79) 0), some (vi h9), some (vi y), none, none, none], [vi (dirOf (μ 13) (I 80 y))], (I, H), 0, 0)
  refine WP.go 5 (And.intro rfl (Exists.intro 6 (And.intro hS.r79_0 (And.intro (And.intro (Nat.le_of_ble_eq_true rfl) (Nat.le_of_ble_eq_true rfl)) (And.intro rfl (?_))))))
  show Call d 93 [vr (some 6) 6, vi h9] (I, H) _ _
  refine s_8_cellOf (by omega) hS (.inl rfl) hT hV (by omega) ?_
  show WP (Call d) 14 P X (13, [some (vr (some 79) 0), some (vi h9), some (vi y), some (vi (dirOf (μ 13) (I 80 y))), none, none], [vi (μ (120 + 2 * h9))], (I, H), 0, 0)
  refine WP.go 3 ?_
  show WP (Call d) 14 P X (16, [some (vr (some 79) 0), some (vi h9), some (vi y), some (vi (dirOf (μ 13) (I 80 y))), some (vi (μ (120 + 2 * h9))), some (vi 1)], [], (I, H), 0, 0)
  have lp16 : ∀ (n9 : Nat) (k : Int) (hm : 4 - k < (n9 : Int)) (iv0 : 1 ≤ k ∧ k ≤ 4) (iv1 : ∀ j, 1 ≤ j → j < k → onP (I 81) (coff (μ (120 + 2 * h9)) (dirOf (μ 13) (I 80 y)) j) < μ (121 + 2 * h9)), WP (Call d) 14 P X (16, [some (vr (some 79) 0), some (vi h9), some (vi y), some (vi (dirOf (μ 13) (I 80 y))), some (vi (μ (120 + 2 * h9))), some (vi k)], [], (I, H), 0, 0) := by
    intro n9
    induction n9 with
    | zero => intro k hm iv0 iv1; exact absurd hm (by omega)
    | succ n9 ih16 =>
      intro k hm iv0 iv1
      refine WP.go 3 (And.intro (fun (b18 : 3 < k) => ?_) (fun (b18 : ¬ 3 < k) => ?_))
      ·
        show WP (Call d) 14 P X (34, [some (vr (some 79) 0), some (vi h9), some (vi y), some (vi (dirOf (μ 13) (I 80 y))), some (vi (μ (120 + 2 * h9))), some (vi k)], [], (I, H), 0, 0)
        refine WP.go 2 (And.intro (And.intro (Nat.le_of_ble_eq_true rfl) (Nat.le_of_ble_eq_true rfl)) (And.intro (Or.inr rfl) (?_)))
        show P (some (vi 1)) (I, H)
        exact fin_i (one_bz (fun j q1 q2 => iv1 j q1 (by omega))) h
      ·
        show WP (Call d) 14 P X (19, [some (vr (some 79) 0), some (vi h9), some (vi y), some (vi (dirOf (μ 13) (I 80 y))), some (vi (μ (120 + 2 * h9))), some (vi k)], [], (I, H), 0, 0)
        refine WP.go 5 (And.intro (And.intro (Nat.le_of_ble_eq_true rfl) (Nat.le_of_ble_eq_true rfl)) (And.intro rfl (?_)))
        show Call d 53 [vi (μ (120 + 2 * h9)), vi (dirOf (μ 13) (I 80 y)), vi k] (I, H) _ _
        refine s_4_cellOff (by omega) hS hX (by omega) (by omega) (by omega) ?_
        show WP (Call d) 14 P X (24, [some (vr (some 79) 0), some (vi h9), some (vi y), some (vi (dirOf (μ 13) (I 80 y))), some (vi (μ (120 + 2 * h9))), some (vi k)], [vi (coff (μ (120 + 2 * h9)) (dirOf (μ 13) (I 80 y)) k), vr (some 79) 0], (I, H), 0, 0)
        refine WP.go 1 (And.intro (And.intro (Nat.le_of_ble_eq_true rfl) (Nat.le_of_ble_eq_true rfl)) (And.intro rfl (?_)))
        show Call d 8 [vr (some 79) 0, vi (coff (μ (120 + 2 * h9)) (dirOf (μ 13) (I 80 y)) k)] (I, H) _ _
        refine s_0_heightOn_p (by omega) hS (coff_bd _ _ _) ?_
        show WP (Call d) 14 P X (25, [some (vr (some 79) 0), some (vi h9), some (vi y), some (vi (dirOf (μ 13) (I 80 y))), some (vi (μ (120 + 2 * h9))), some (vi k)], [vi (onP (I 81) (coff (μ (120 + 2 * h9)) (dirOf (μ 13) (I 80 y)) k))], (I, H), 0, 0)
        refine WP.go 4 (And.intro rfl (Exists.intro 6 (And.intro hS.r79_0 (And.intro (And.intro (Nat.le_of_ble_eq_true rfl) (Nat.le_of_ble_eq_true rfl)) (And.intro rfl (?_))))))
        show Call d 94 [vr (some 6) 6, vi h9] (I, H) _ _
        refine s_8_heightOf (by omega) hS (.inl rfl) hT hV (by omega) ?_
        show WP (Call d) 14 P X (29, [some (vr (some 79) 0), some (vi h9), some (vi y), some (vi (dirOf (μ 13) (I 80 y))), some (vi (μ (120 + 2 * h9))), some (vi k)], [vi (μ (121 + 2 * h9)), vi (onP (I 81) (coff (μ (120 + 2 * h9)) (dirOf (μ 13) (I 80 y)) k))], (I, H), 0, 0)
        refine WP.go 1 (And.intro (fun (b29 : onP (I 81) (coff (μ (120 + 2 * h9)) (dirOf (μ 13) (I 80 y)) k) < μ (121 + 2 * h9)) => ?_) (fun (b29 : ¬ onP (I 81) (coff (μ (120 + 2 * h9)) (dirOf (μ 13) (I 80 y)) k) < μ (121 + 2 * h9)) => ?_))
        ·
          show WP (Call d) 14 P X (32, [some (vr (some 79) 0), some (vi h9), some (vi y), some (vi (dirOf (μ 13) (I 80 y))), some (vi (μ (120 + 2 * h9))), some (vi k)], [], (I, H), 0, 0)
          refine WP.go 2 (Exists.intro (k + 1) (And.intro (wrp_a (by omega) (by omega)) (?_)))
          show WP (Call d) 14 P X (16, [some (vr (some 79) 0), some (vi h9), some (vi y), some (vi (dirOf (μ 13) (I 80 y))), some (vi (μ (120 + 2 * h9))), some (vi (k + 1))], [], (I, H), 0, 0)
          exact ih16 (k + 1) (by omega) (by omega) (fun i q1 q2 => by rcases Int.lt_or_eq_of_le (show i ≤ k by omega) with z | z; exact iv1 i q1 z; exact z ▸ b29)
        ·
          show WP (Call d) 14 P X (30, [some (vr (some 79) 0), some (vi h9), some (vi y), some (vi (dirOf (μ 13) (I 80 y))), some (vi (μ (120 + 2 * h9))), some (vi k)], [], (I, H), 0, 0)
          refine WP.go 2 (And.intro (And.intro (Nat.le_of_ble_eq_true rfl) (Nat.le_of_ble_eq_true rfl)) (And.intro (Or.inl rfl) (?_)))
          show P (some (vi 0)) (I, H)
          exact fin_i (zero_bz (fun q => b29 (q k (by omega) (by omega)))) h
  exact lp16 ((4 - 1 : Int).toNat + 1) 1 (by omega) (by omega) (fun i q1 q2 => by omega)

theorem s_0_levelOf {d : Nat} {P : Option qV → qH → Prop} {X : Nat → qH → Prop} {I : qI} {H : qS} {μ : Int → Int} (hd : 2 ≤ d) {c y : Int} (hS : Shp H) (hX : SX I) (hT : TR 6 I μ) (hV : IM μ) (hA : AB (I 80) (I 81)) (hc : 0 ≤ c ∧ c < 81) (hy : 0 ≤ y ∧ y < 100) (h : P (some (vi (LVL μ (I 80) c y))) (I, H)) :
    Call d 15 [vr (some 79) 0, vi c, vi y] (I, H) P X := by
  obtain ⟨d, rfl⟩ : ∃ e, d = e + 1 := ⟨d - 1, by omega⟩
  have a1 := hA.1 y hy.1 hy.2
  have v1 := hV.se
  have m1 := dirOf_bd (μ 12) (I 80 y)
  have s1 := sx_bd (dirOf (μ 12) (I 80 y))
  have s2 := sy_bd (dirOf (μ 12) (I 80 y))
  have g : ∀ (u s : Int), -4 ≤ u → u ≤ 4 → -1 ≤ s → s ≤ 1 → -4 ≤ u * s ∧ u * s ≤ 4 := fun u s q1 q2 q3 q4 => by
      have hs : s = -1 ∨ s = 0 ∨ s = 1 := by omega
      rcases hs with rfl | rfl | rfl <;> omega
  have g1 := g (c % 9 - 4) (sx (dirOf (μ 12) (I 80 y))) (by omega) (by omega) s1.1 s1.2
  have g2 := g (c / 9 - 4) (sy (dirOf (μ 12) (I 80 y))) (by omega) (by omega) s2.1 s2.2
  show WP (Call d) 15 P X (0, [some (vr (some 79) 0), some (vi c), some (vi y), none, none, none], [], (I, H), 0, 0)
  refine WP.go 4 (And.intro rfl (Exists.intro 6 (And.intro hS.r79_0 (And.intro (And.intro (Nat.le_of_ble_eq_true rfl) (Nat.le_of_ble_eq_true rfl)) (And.intro rfl (?_))))))
  show Call d 84 [vr (some 6) 6, vi 3] (I, H) _ _
  refine s_dial_3 (by omega) hS (.inl rfl) hT hV ?_
  show WP (Call d) 15 P X (4, [some (vr (some 79) 0), some (vi c), some (vi y), none, none, none], [vi (μ 12)], (I, H), 0, 0)
  refine WP.go 3 (And.intro (And.intro (Nat.le_of_ble_eq_true rfl) (Nat.le_of_ble_eq_true rfl)) (And.intro rfl (?_)))
  show Call d 4 [vr (some 79) 0, vi y] (I, H) _ _
  refine s_0_angleIn (by omega) hS (by omega) ?_
  show WP (Call d) 15 P X (7, [some (vr (some 79) 0), some (vi c), some (vi y), none, none, none], [vi (I 80 y), vi (μ 12)], (I, H), 0, 0)
  refine WP.go 1 (And.intro (And.intro (Nat.le_of_ble_eq_true rfl) (Nat.le_of_ble_eq_true rfl)) (And.intro rfl (?_)))
  show Call d 51 [vi (μ 12), vi (I 80 y)] (I, H) _ _
  refine s_4_directionOf (by omega) (by omega) (by omega) ?_
  show WP (Call d) 15 P X (8, [some (vr (some 79) 0), some (vi c), some (vi y), none, none, none], [vi (dirOf (μ 12) (I 80 y))], (I, H), 0, 0)
  refine WP.go 16 (Exists.intro (c % 9) (And.intro (tmod_a (by omega) (by omega)) (Exists.intro ((c % 9) - 4) (And.intro (wrp_a (by omega) (by omega)) (Exists.intro (c / 9) (And.intro (tdiv_a (by omega) (by omega) (by omega)) (Exists.intro ((c / 9) - 4) (And.intro (wrp_a (by omega) (by omega)) (And.intro (And.intro (Nat.le_of_ble_eq_true rfl) (Nat.le_of_ble_eq_true rfl)) (And.intro rfl (?_)))))))))))
  show Call d 49 [vi (dirOf (μ 12) (I 80 y))] (I, H) _ _
  refine s_4_stepX (by omega) hS hX (by omega) ?_
  show WP (Call d) 15 P X (24, [some (vr (some 79) 0), some (vi c), some (vi y), some (vi (dirOf (μ 12) (I 80 y))), some (vi ((c % 9) - 4)), some (vi ((c / 9) - 4))], [vi (sx (dirOf (μ 12) (I 80 y))), vi ((c % 9) - 4)], (I, H), 0, 0)
  refine WP.go 4 (Exists.intro (((c % 9) - 4) * (sx (dirOf (μ 12) (I 80 y)))) (And.intro (wrp_a (by omega) (by omega)) (And.intro (And.intro (Nat.le_of_ble_eq_true rfl) (Nat.le_of_ble_eq_true rfl)) (And.intro rfl (?_)))))
  show Call d 50 [vi (dirOf (μ 12) (I 80 y))] (I, H) _ _
  refine s_4_stepY (by omega) hS hX (by omega) ?_
  show WP (Call d) 15 P X (28, [some (vr (some 79) 0), some (vi c), some (vi y), some (vi (dirOf (μ 12) (I 80 y))), some (vi ((c % 9) - 4)), some (vi ((c / 9) - 4))], [vi (sy (dirOf (μ 12) (I 80 y))), vi ((c / 9) - 4), vi (((c % 9) - 4) * (sx (dirOf (μ 12) (I 80 y))))], (I, H), 0, 0)
  refine WP.go 4 (Exists.intro (((c / 9) - 4) * (sy (dirOf (μ 12) (I 80 y)))) (And.intro (wrp_a (by omega) (by omega)) (Exists.intro ((((c % 9) - 4) * (sx (dirOf (μ 12) (I 80 y)))) + (((c / 9) - 4) * (sy (dirOf (μ 12) (I 80 y))))) (And.intro (wrp_a (by omega) (by omega)) (Exists.intro (-((((c % 9) - 4) * (sx (dirOf (μ 12) (I 80 y)))) + (((c / 9) - 4) * (sy (dirOf (μ 12) (I 80 y)))))) (And.intro (wrp_a (by omega) (by omega)) (And.intro (And.intro (Nat.le_of_ble_eq_true rfl) (Nat.le_of_ble_eq_true rfl)) (And.intro trivial (?_)))))))))
  show P (some (vi (-((((c % 9) - 4) * (sx (dirOf (μ 12) (I 80 y)))) + (((c / 9) - 4) * (sy (dirOf (μ 12) (I 80 y)))))))) (I, H)
  exact fin_i (by first | rfl | omega | exact zero_bz (by omega) | exact one_bz (by omega)) h

theorem s_0_doesRun {d : Nat} {P : Option qV → qH → Prop} {X : Nat → qH → Prop} {I : qI} {H : qS} {μ : Int → Int} (hd : 3 ≤ d) {k y : Int} (hS : Shp H) (hX : SX I) (hT : TR 6 I μ) (hV : IM μ) (hA : AB (I 80) (I 81)) (hk : 0 ≤ k ∧ k < μ 6) (hy : 0 ≤ y ∧ y < 100) (h : P (some (vi (bz (RUNp μ (I 80) k y)))) (I, H)) :
    Call d 16 [vr (some 79) 0, vi k, vi y] (I, H) P X := by
  obtain ⟨d, rfl⟩ : ∃ e, d = e + 1 := ⟨d - 1, by omega⟩
  have v1 := hV.da k hk.1 hk.2
  have v2 := hV.db k hk.1 hk.2
  show WP (Call d) 16 P X (0, [some (vr (some 79) 0), some (vi k), some (vi y)], [], (I, H), 0, 0)
  refine WP.go 7 (And.intro rfl (Exists.intro 6 (And.intro hS.r79_0 (And.intro rfl (Exists.intro 17 (And.intro hS.r6_5 (And.intro (And.intro (Nat.le_of_ble_eq_true rfl) (Nat.le_of_ble_eq_true rfl)) (And.intro rfl (?_)))))))))
  show Call d 58 [vr (some 17) 4, vi k, vi 1] (I, H) _ _
  refine s_get_drains1 (by omega) hS (.inl rfl) hT hV (by omega) ?_
  show WP (Call d) 16 P X (7, [some (vr (some 79) 0), some (vi k), some (vi y)], [vi (μ (443 + 2 * k)), vr (some 79) 0], (I, H), 0, 0)
  refine WP.go 2 (And.intro (And.intro (Nat.le_of_ble_eq_true rfl) (Nat.le_of_ble_eq_true rfl)) (And.intro rfl (?_)))
  show Call d 15 [vr (some 79) 0, vi (μ (443 + 2 * k)), vi y] (I, H) _ _
  refine s_0_levelOf (by omega) hS hX hT hV hA (by omega) (by omega) ?_
  show WP (Call d) 16 P X (9, [some (vr (some 79) 0), some (vi k), some (vi y)], [vi (LVL μ (I 80) (μ (443 + 2 * k)) y)], (I, H), 0, 0)
  refine WP.go 7 (And.intro rfl (Exists.intro 6 (And.intro hS.r79_0 (And.intro rfl (Exists.intro 17 (And.intro hS.r6_5 (And.intro (And.intro (Nat.le_of_ble_eq_true rfl) (Nat.le_of_ble_eq_true rfl)) (And.intro rfl (?_)))))))))
  show Call d 58 [vr (some 17) 4, vi k, vi 0] (I, H) _ _
  refine s_get_drains0 (by omega) hS (.inl rfl) hT hV (by omega) ?_
  show WP (Call d) 16 P X (16, [some (vr (some 79) 0), some (vi k), some (vi y)], [vi (μ (442 + 2 * k)), vr (some 79) 0, vi (LVL μ (I 80) (μ (443 + 2 * k)) y)], (I, H), 0, 0)
  refine WP.go 2 (And.intro (And.intro (Nat.le_of_ble_eq_true rfl) (Nat.le_of_ble_eq_true rfl)) (And.intro rfl (?_)))
  show Call d 15 [vr (some 79) 0, vi (μ (442 + 2 * k)), vi y] (I, H) _ _
  refine s_0_levelOf (by omega) hS hX hT hV hA (by omega) (by omega) ?_
  show WP (Call d) 16 P X (18, [some (vr (some 79) 0), some (vi k), some (vi y)], [vi (LVL μ (I 80) (μ (442 + 2 * k)) y), vi (LVL μ (I 80) (μ (443 + 2 * k)) y)], (I, H), 0, 0)
  refine WP.go 1 (And.intro (fun (b18 : ¬ LVL μ (I 80) (μ (443 + 2 * k)) y < LVL μ (I 80) (μ (442 + 2 * k)) y) => ?_) (fun (b18 : LVL μ (I 80) (μ (443 + 2 * k)) y < LVL μ (I 80) (μ (442 + 2 * k)) y) => ?_))
  ·
    show WP (Call d) 16 P X (21, [some (vr (some 79) 0), some (vi k), some (vi y)], [], (I, H), 0, 0)
    refine WP.go 2 (And.intro (And.intro (Nat.le_of_ble_eq_true rfl) (Nat.le_of_ble_eq_true rfl)) (And.intro (Or.inl rfl) (?_)))
    show P (some (vi 0)) (I, H)
    exact fin_i (zero_bz b18) h
  ·
    show WP (Call d) 16 P X (19, [some (vr (some 79) 0), some (vi k), some (vi y)], [], (I, H), 0, 0)
    refine WP.go 3 (And.intro (And.intro (Nat.le_of_ble_eq_true rfl) (Nat.le_of_ble_eq_true rfl)) (And.intro (Or.inr rfl) (?_)))
    show P (some (vi 1)) (I, H)
    exact fin_i (one_bz b18) h

theorem s_0_poolFrom {d : Nat} {P : Option qV → qH → Prop} {X : Nat → qH → Prop} {I : qI} {H : qS} {μ : Int → Int} (hd : 3 ≤ d) {c y : Int} (hS : Shp H) (hX : SX I) (hT : TR 6 I μ) (hV : IM μ) (hA : AB (I 80) (I 81)) (hc : 0 ≤ c ∧ c < 81) (hy : 0 ≤ y ∧ y < 100) (h : P (some (vi (POOL μ (I 80) (I 81) c y))) (I, H)) :
    Call d 17 [vr (some 79) 0, vi c, vi y] (I, H) P X := by
  obtain ⟨d, rfl⟩ : ∃ e, d = e + 1 := ⟨d - 1, by omega⟩
  have a1 := hA.1 y hy.1 hy.2
  have v1 := hV.se
  have m1 := dirOf_bd (μ 12) (I 80 y)
  show WP (Call d) 17 P X (0, [some (vr (some 79) 0), some (vi c), some (vi y), none, none, none, none], [], (I, H), 0, 0)
  refine WP.go 4 (And.intro rfl (Exists.intro 6 (And.intro hS.r79_0 (And.intro (And.intro (Nat.le_of_ble_eq_true rfl) (Nat.le_of_ble_eq_true rfl)) (And.intro rfl (?_))))))
  show Call d 84 [vr (some 6) 6, vi 3] (I, H) _ _
  refine s_dial_3 (by omega) hS (.inl rfl) hT hV ?_
  show WP (Call d) 17 P X (4, [some (vr (some 79) 0), some (vi c), some (vi y), none, none, none, none], [vi (μ 12)], (I, H), 0, 0)
  refine WP.go 3 (And.intro (And.intro (Nat.le_of_ble_eq_true rfl) (Nat.le_of_ble_eq_true rfl)) (And.intro rfl (?_)))
  show Call d 4 [vr (some 79) 0, vi y] (I, H) _ _
  refine s_0_angleIn (by omega) hS (by omega) ?_
  show WP (Call d) 17 P X (7, [some (vr (some 79) 0), some (vi c), some (vi y), none, none, none, none], [vi (I 80 y), vi (μ 12)], (I, H), 0, 0)
  refine WP.go 1 (And.intro (And.intro (Nat.le_of_ble_eq_true rfl) (Nat.le_of_ble_eq_true rfl)) (And.intro rfl (?_)))
  show Call d 51 [vi (μ 12), vi (I 80 y)] (I, H) _ _
  refine s_4_directionOf (by omega) (by omega) (by omega) ?_
  show WP (Call d) 17 P X (8, [some (vr (some 79) 0), some (vi c), some (vi y), none, none, none, none], [vi (dirOf (μ 12) (I 80 y))], (I, H), 0, 0)
  refine WP.go 5 ?_
  show WP (Call d) 17 P X (13, [some (vr (some 79) 0), some (vi c), some (vi y), some (vi (dirOf (μ 12) (I 80 y))), some (vi c), some (vi 1), none], [], (I, H), 0, 0)
  have lp13 : ∀ (n9 : Nat) (k : Int) (i : Int) (hm : 9 - i < (n9 : Int)) (iv0 : 0 ≤ k ∧ k < 81 ∧ 1 ≤ i ∧ i ≤ 9) (iv1 : POOL μ (I 80) (I 81) c y = plN (I 81) (dirOf (μ 12) (I 80 y)) (9 - i).toNat k), WP (Call d) 17 P X (13, [some (vr (some 79) 0), some (vi c), some (vi y), some (vi (dirOf (μ 12) (I 80 y))), some (vi k), some (vi i), none], [], (I, H), 0, 0) := by
    intro n9
    induction n9 with
    | zero => intro k i hm iv0 iv1; exact absurd hm (by omega)
    | succ n9 ih13 =>
      intro k i hm iv0 iv1
      have m2 := coff_bd k (dirOf (μ 12) (I 80 y)) 1
      refine WP.go 3 (And.intro (fun (b15 : ¬ i < 9) => ?_) (fun (b15 : i < 9) => ?_))
      ·
        show WP (Call d) 17 P X (34, [some (vr (some 79) 0), some (vi c), some (vi y), some (vi (dirOf (μ 12) (I 80 y))), some (vi k), some (vi i), none], [], (I, H), 0, 0)
        refine WP.go 2 (And.intro (And.intro (Nat.le_of_ble_eq_true rfl) (Nat.le_of_ble_eq_true rfl)) (And.intro trivial (?_)))
        show P (some (vi k)) (I, H)
        exact fin_i (by rw [iv1, show (9 - i).toNat = 0 by omega]; rfl) h
      ·
        show WP (Call d) 17 P X (16, [some (vr (some 79) 0), some (vi c), some (vi y), some (vi (dirOf (μ 12) (I 80 y))), some (vi k), some (vi i), none], [], (I, H), 0, 0)
        refine WP.go 4 (And.intro (And.intro (Nat.le_of_ble_eq_true rfl) (Nat.le_of_ble_eq_true rfl)) (And.intro rfl (?_)))
        show Call d 53 [vi k, vi (dirOf (μ 12) (I 80 y)), vi 1] (I, H) _ _
        refine s_4_cellOff (by omega) hS hX (by omega) (by omega) (by omega) ?_
        show WP (Call d) 17 P X (20, [some (vr (some 79) 0), some (vi c), some (vi y), some (vi (dirOf (μ 12) (I 80 y))), some (vi k), some (vi i), none], [vi (coff k (dirOf (μ 12) (I 80 y)) 1)], (I, H), 0, 0)
        refine WP.go 4 (And.intro (fun (b23 : coff k (dirOf (μ 12) (I 80 y)) 1 = (-1)) => ?_) (fun (b23 : ¬ coff k (dirOf (μ 12) (I 80 y)) 1 = (-1)) => ?_))
        ·
          show WP (Call d) 17 P X (28, [some (vr (some 79) 0), some (vi c), some (vi y), some (vi (dirOf (μ 12) (I 80 y))), some (vi k), some (vi i), some (vi (coff k (dirOf (μ 12) (I 80 y)) 1))], [], (I, H), 0, 0)
          refine WP.go 2 (And.intro (And.intro (Nat.le_of_ble_eq_true rfl) (Nat.le_of_ble_eq_true rfl)) (And.intro trivial (?_)))
          show P (some (vi k)) (I, H)
          exact fin_i (by rw [iv1, plN_s (by omega), if_pos (by omega)]) h
        ·
          show WP (Call d) 17 P X (24, [some (vr (some 79) 0), some (vi c), some (vi y), some (vi (dirOf (μ 12) (I 80 y))), some (vi k), some (vi i), some (vi (coff k (dirOf (μ 12) (I 80 y)) 1))], [], (I, H), 0, 0)
          refine WP.go 3 (And.intro (And.intro (Nat.le_of_ble_eq_true rfl) (Nat.le_of_ble_eq_true rfl)) (And.intro rfl (?_)))
          show Call d 8 [vr (some 79) 0, vi (coff k (dirOf (μ 12) (I 80 y)) 1)] (I, H) _ _
          refine s_0_heightOn (by omega) hS (by omega) ?_
          show WP (Call d) 17 P X (27, [some (vr (some 79) 0), some (vi c), some (vi y), some (vi (dirOf (μ 12) (I 80 y))), some (vi k), some (vi i), some (vi (coff k (dirOf (μ 12) (I 80 y)) 1))], [vi (I 81 (coff k (dirOf (μ 12) (I 80 y)) 1))], (I, H), 0, 0)
          refine WP.go 1 (And.intro (fun (b27 : ¬ 0 < I 81 (coff k (dirOf (μ 12) (I 80 y)) 1)) => ?_) (fun (b27 : 0 < I 81 (coff k (dirOf (μ 12) (I 80 y)) 1)) => ?_))
          ·
            show WP (Call d) 17 P X (30, [some (vr (some 79) 0), some (vi c), some (vi y), some (vi (dirOf (μ 12) (I 80 y))), some (vi k), some (vi i), some (vi (coff k (dirOf (μ 12) (I 80 y)) 1))], [], (I, H), 0, 0)
            refine WP.go 4 (Exists.intro (i + 1) (And.intro (wrp_a (by omega) (by omega)) (?_)))
            show WP (Call d) 17 P X (13, [some (vr (some 79) 0), some (vi c), some (vi y), some (vi (dirOf (μ 12) (I 80 y))), some (vi (coff k (dirOf (μ 12) (I 80 y)) 1)), some (vi (i + 1)), some (vi (coff k (dirOf (μ 12) (I 80 y)) 1))], [], (I, H), 0, 0)
            refine WP.wk (L := [some (vr (some 79) 0), some (vi c), some (vi y), some (vi (dirOf (μ 12) (I 80 y))), some (vi (coff k (dirOf (μ 12) (I 80 y)) 1)), some (vi (i + 1)), none]) (And.intro rfl (And.intro rfl (And.intro rfl (And.intro rfl (And.intro rfl (And.intro rfl (And.intro trivial (trivial)))))))) ?_
            show WP (Call d) 17 P X (13, [some (vr (some 79) 0), some (vi c), some (vi y), some (vi (dirOf (μ 12) (I 80 y))), some (vi (coff k (dirOf (μ 12) (I 80 y)) 1)), some (vi (i + 1)), none], [], (I, H), 0, 0)
            exact ih13 (coff k (dirOf (μ 12) (I 80 y)) 1) (i + 1) (by omega) (by omega) (by rw [iv1, plN_s (by omega), if_neg (by omega)])
          ·
            show WP (Call d) 17 P X (28, [some (vr (some 79) 0), some (vi c), some (vi y), some (vi (dirOf (μ 12) (I 80 y))), some (vi k), some (vi i), some (vi (coff k (dirOf (μ 12) (I 80 y)) 1))], [], (I, H), 0, 0)
            refine WP.go 2 (And.intro (And.intro (Nat.le_of_ble_eq_true rfl) (Nat.le_of_ble_eq_true rfl)) (And.intro trivial (?_)))
            show P (some (vi k)) (I, H)
            exact fin_i (by rw [iv1, plN_s (by omega), if_pos (by omega)]) h
  exact lp13 ((9 - 1 : Int).toNat + 1) c 1 (by omega) (by omega) rfl

theorem s_0_stopYear {d : Nat} {P : Option qV → qH → Prop} {X : Nat → qH → Prop} {I : qI} {H : qS} (hd : 2 ≤ d) (hS : Shp H) (h : P (some (vi (STP (I 80)))) (I, H)) :
    Call d 5 [vr (some 79) 0] (I, H) P X := by
  obtain ⟨d, rfl⟩ : ∃ e, d = e + 1 := ⟨d - 1, by omega⟩
  have hl80 := hS.l80
  show WP (Call d) 5 P X (0, [some (vr (some 79) 0), none], [], (I, H), 0, 0)
  refine WP.go 6 (And.intro rfl (Exists.intro 80 (And.intro hS.r79_1 (And.intro (Or.inl rfl) (Exists.intro ((H.2.1 80) - 1) (And.intro (wrp_a (by omega) (by omega)) (?_)))))))
  show WP (Call d) 5 P X (6, [some (vr (some 79) 0), some (vi ((H.2.1 80) - 1))], [], (I, H), 0, 0)
  have lp6 : ∀ (n9 : Nat) (y : Int) (hm : y < (n9 : Int)) (iv0 : 0 ≤ y ∧ y < 100) (iv1 : STP (I 80) = stN (I 80) y.toNat), WP (Call d) 5 P X (6, [some (vr (some 79) 0), some (vi y)], [], (I, H), 0, 0) := by
    intro n9
    induction n9 with
    | zero => intro y hm iv0 iv1; exact absurd hm (by omega)
    | succ n9 ih6 =>
      intro y hm iv0 iv1
      refine WP.go 2 (And.intro (fun (b7 : ¬ 0 < y) => ?_) (fun (b7 : 0 < y) => ?_))
      ·
        show WP (Call d) 5 P X (19, [some (vr (some 79) 0), some (vi y)], [], (I, H), 0, 0)
        refine WP.go 2 (And.intro (And.intro (Nat.le_of_ble_eq_true rfl) (Nat.le_of_ble_eq_true rfl)) (And.intro trivial (?_)))
        show P (some (vi y)) (I, H)
        exact fin_i (by rw [iv1, show y.toNat = 0 by omega, show y = 0 by omega]; rfl) h
      ·
        show WP (Call d) 5 P X (8, [some (vr (some 79) 0), some (vi y)], [], (I, H), 0, 0)
        refine WP.go 5 (Exists.intro (y - 1) (And.intro (wrp_a (by omega) (by omega)) (And.intro (And.intro (Nat.le_of_ble_eq_true rfl) (Nat.le_of_ble_eq_true rfl)) (And.intro rfl (?_)))))
        show Call d 4 [vr (some 79) 0, vi (y - 1)] (I, H) _ _
        refine s_0_angleIn (by omega) hS (by omega) ?_
        show WP (Call d) 5 P X (13, [some (vr (some 79) 0), some (vi y)], [vi (I 80 (y - 1))], (I, H), 0, 0)
        refine WP.go 3 (And.intro (And.intro (Nat.le_of_ble_eq_true rfl) (Nat.le_of_ble_eq_true rfl)) (And.intro rfl (?_)))
        show Call d 4 [vr (some 79) 0, vi y] (I, H) _ _
        refine s_0_angleIn (by omega) hS (by omega) ?_
        show WP (Call d) 5 P X (16, [some (vr (some 79) 0), some (vi y)], [vi (I 80 y), vi (I 80 (y - 1))], (I, H), 0, 0)
        refine WP.go 1 (And.intro (fun (b16 : ¬ I 80 (y - 1) = I 80 y) => ?_) (fun (b16 : I 80 (y - 1) = I 80 y) => ?_))
        ·
          show WP (Call d) 5 P X (19, [some (vr (some 79) 0), some (vi y)], [], (I, H), 0, 0)
          refine WP.go 2 (And.intro (And.intro (Nat.le_of_ble_eq_true rfl) (Nat.le_of_ble_eq_true rfl)) (And.intro trivial (?_)))
          show P (some (vi y)) (I, H)
          exact fin_i (by rw [iv1, stN_s (by omega), if_neg b16]) h
        ·
          show WP (Call d) 5 P X (17, [some (vr (some 79) 0), some (vi y)], [], (I, H), 0, 0)
          refine WP.go 2 (Exists.intro (y - 1) (And.intro (wrp_a2 (by omega) (by omega) (by omega)) (?_)))
          show WP (Call d) 5 P X (6, [some (vr (some 79) 0), some (vi (y - 1))], [], (I, H), 0, 0)
          exact ih6 (y - 1) (by omega) (by omega) (by rw [iv1, stN_s (by omega), if_pos b16])
  exact lp6 ((((H.2.1 80) - 1) : Int).toNat + 1) ((H.2.1 80) - 1) (by omega) (by omega) (by rw [hl80]; rfl)

theorem s_0_fitsPapers {d : Nat} {P : Option qV → qH → Prop} {X : Nat → qH → Prop} {I : qI} {H : qS} {μ : Int → Int} (hd : 4 ≤ d) {y : Int} (hS : Shp H) (hX : SX I) (hT : TR 6 I μ) (hV : IM μ) (hA : AB (I 80) (I 81)) (hy : 0 ≤ y ∧ y < 100) (h : P (some (vi (bz (FITp μ (I 80) (I 81) y)))) (I, H)) :
    Call d 18 [vr (some 79) 0, vi y] (I, H) P X := by
  obtain ⟨d, rfl⟩ : ∃ e, d = e + 1 := ⟨d - 1, by omega⟩
  have v0 := hV.n7
  show WP (Call d) 18 P X (0, [some (vr (some 79) 0), some (vi y), none, none, none], [], (I, H), 0, 0)
  refine WP.go 2 ?_
  show WP (Call d) 18 P X (2, [some (vr (some 79) 0), some (vi y), some (vi 0), none, none], [], (I, H), 0, 0)
  have lp2 : ∀ (n9 : Nat) (k : Int) (hm : μ 7 - k < (n9 : Int)) (iv0 : 0 ≤ k ∧ k ≤ μ 7) (iv1 : ∀ p, 0 ≤ p → p < k → (LITp μ (I 80) (I 81) (μ (458 + 3 * p)) (μ (459 + 3 * p)) y ↔ μ (460 + 3 * p) = 1)), WP (Call d) 18 P X (2, [some (vr (some 79) 0), some (vi y), some (vi k), none, none], [], (I, H), 0, 0) := by
    intro n9
    induction n9 with
    | zero => intro k hm iv0 iv1; exact absurd hm (by omega)
    | succ n9 ih2 =>
      intro k hm iv0 iv1
      refine WP.go 5 (And.intro rfl (Exists.intro 6 (And.intro hS.r79_0 (And.intro rfl (Exists.intro 19 (And.intro hS.r6_6 (And.intro (And.intro (Nat.le_of_ble_eq_true rfl) (Nat.le_of_ble_eq_true rfl)) (And.intro rfl (?_)))))))))
      show Call d 55 [vr (some 19) 4] (I, H) _ _
      refine s_size_papers (by omega) hT ?_
      show WP (Call d) 18 P X (7, [some (vr (some 79) 0), some (vi y), some (vi k), none, none], [vi (μ 7), vi k], (I, H), 0, 0)
      refine WP.go 1 (And.intro (fun (b7 : ¬ k < μ 7) => ?_) (fun (b7 : k < μ 7) => ?_))
      ·
        show WP (Call d) 18 P X (43, [some (vr (some 79) 0), some (vi y), some (vi k), none, none], [], (I, H), 0, 0)
        refine WP.go 2 (And.intro (And.intro (Nat.le_of_ble_eq_true rfl) (Nat.le_of_ble_eq_true rfl)) (And.intro (Or.inr rfl) (?_)))
        show P (some (vi 1)) (I, H)
        exact fin_i (one_bz (fun p q1 q2 => iv1 p q1 (by omega))) h
      ·
        show WP (Call d) 18 P X (8, [some (vr (some 79) 0), some (vi y), some (vi k), none, none], [], (I, H), 0, 0)
        refine WP.go 1 ?_
        show WP (Call d) 18 P X (9, [some (vr (some 79) 0), some (vi y), some (vi k), none, none], [vr (some 79) 0], (I, H), 0, 0)
        have v1 := hV.pp k iv0.1 (by omega)
        have v2 := hV.ph k iv0.1 (by omega)
        have v3 := hV.pl k iv0.1 (by omega)
        refine WP.go 5 (And.intro rfl (Exists.intro 6 (And.intro hS.r79_0 (And.intro rfl (Exists.intro 19 (And.intro hS.r6_6 (And.intro (And.intro (Nat.le_of_ble_eq_true rfl) (Nat.le_of_ble_eq_true rfl)) (And.intro rfl (?_)))))))))
        show Call d 58 [vr (some 19) 4, vi k, vi 0] (I, H) _ _
        refine s_get_papers0 (by omega) hS (.inl rfl) hT hV (by omega) ?_
        show WP (Call d) 18 P X (14, [some (vr (some 79) 0), some (vi y), some (vi k), none, none], [vi (μ (458 + 3 * k))], (I, H), 0, 0)
        refine WP.go 7 (And.intro rfl (Exists.intro 6 (And.intro hS.r79_0 (And.intro rfl (Exists.intro 19 (And.intro hS.r6_6 (And.intro (And.intro (Nat.le_of_ble_eq_true rfl) (Nat.le_of_ble_eq_true rfl)) (And.intro rfl (?_)))))))))
        show Call d 58 [vr (some 19) 4, vi k, vi 1] (I, H) _ _
        refine s_get_papers1 (by omega) hS (.inl rfl) hT hV (by omega) ?_
        show WP (Call d) 18 P X (21, [some (vr (some 79) 0), some (vi y), some (vi k), some (vi (μ (458 + 3 * k))), none], [vi (μ (459 + 3 * k))], (I, H), 0, 0)
        refine WP.go 6 (And.intro (And.intro (Nat.le_of_ble_eq_true rfl) (Nat.le_of_ble_eq_true rfl)) (And.intro rfl (?_)))
        show Call d 6 [vr (some 79) 0, vi (μ (458 + 3 * k)), vi (μ (459 + 3 * k)), vi y] (I, H) _ _
        refine s_0_isLit (by omega) hS hX hT hV hA (by omega) (by omega) (by omega) ?_
        show WP (Call d) 18 P X (27, [some (vr (some 79) 0), some (vi y), some (vi k), some (vi (μ (458 + 3 * k))), some (vi (μ (459 + 3 * k)))], [vi (bz (LITp μ (I 80) (I 81) (μ (458 + 3 * k)) (μ (459 + 3 * k)) y))], (I, H), 0, 0)
        refine WP.go 6 (And.intro rfl (Exists.intro 6 (And.intro hS.r79_0 (And.intro rfl (Exists.intro 19 (And.intro hS.r6_6 (And.intro (And.intro (Nat.le_of_ble_eq_true rfl) (Nat.le_of_ble_eq_true rfl)) (And.intro rfl (?_)))))))))
        show Call d 58 [vr (some 19) 4, vi k, vi 2] (I, H) _ _
        refine s_get_papers2 (by omega) hS (.inl rfl) hT hV (by omega) ?_
        show WP (Call d) 18 P X (33, [some (vr (some 79) 0), some (vi y), some (vi k), some (vi (μ (458 + 3 * k))), some (vi (μ (459 + 3 * k)))], [vi (μ (460 + 3 * k)), vi (bz (LITp μ (I 80) (I 81) (μ (458 + 3 * k)) (μ (459 + 3 * k)) y))], (I, H), 0, 0)
        refine WP.go 2 (And.intro (fun (b34 : ¬ μ (460 + 3 * k) = 1) => ?_) (fun (b34 : μ (460 + 3 * k) = 1) => ?_))
        ·
          show WP (Call d) 18 P X (37, [some (vr (some 79) 0), some (vi y), some (vi k), some (vi (μ (458 + 3 * k))), some (vi (μ (459 + 3 * k)))], [vi (bz (LITp μ (I 80) (I 81) (μ (458 + 3 * k)) (μ (459 + 3 * k)) y))], (I, H), 0, 0)
          refine WP.go 2 (And.intro (fun (b38 : bz (LITp μ (I 80) (I 81) (μ (458 + 3 * k)) (μ (459 + 3 * k)) y) = 0) => ?_) (fun (b38 : ¬ bz (LITp μ (I 80) (I 81) (μ (458 + 3 * k)) (μ (459 + 3 * k)) y) = 0) => ?_))
          ·
            show WP (Call d) 18 P X (41, [some (vr (some 79) 0), some (vi y), some (vi k), some (vi (μ (458 + 3 * k))), some (vi (μ (459 + 3 * k)))], [], (I, H), 0, 0)
            refine WP.go 2 (Exists.intro (k + 1) (And.intro (wrp_a (by omega) (by omega)) (?_)))
            show WP (Call d) 18 P X (2, [some (vr (some 79) 0), some (vi y), some (vi (k + 1)), some (vi (μ (458 + 3 * k))), some (vi (μ (459 + 3 * k)))], [], (I, H), 0, 0)
            refine WP.wk (L := [some (vr (some 79) 0), some (vi y), some (vi (k + 1)), none, none]) (And.intro rfl (And.intro rfl (And.intro rfl (And.intro trivial (And.intro trivial (trivial)))))) ?_
            show WP (Call d) 18 P X (2, [some (vr (some 79) 0), some (vi y), some (vi (k + 1)), none, none], [], (I, H), 0, 0)
            exact ih2 (k + 1) (by omega) (by omega) (fun i q1 q2 => by rcases Int.lt_or_eq_of_le (show i ≤ k by omega) with z | z; exact iv1 i q1 z; rw [z]; exact ⟨fun q => by have := bz_1 q; omega, fun q => absurd q b34⟩)
          ·
            show WP (Call d) 18 P X (39, [some (vr (some 79) 0), some (vi y), some (vi k), some (vi (μ (458 + 3 * k))), some (vi (μ (459 + 3 * k)))], [], (I, H), 0, 0)
            refine WP.go 2 (And.intro (And.intro (Nat.le_of_ble_eq_true rfl) (Nat.le_of_ble_eq_true rfl)) (And.intro (Or.inl rfl) (?_)))
            show P (some (vi 0)) (I, H)
            exact fin_i (zero_bz (fun q => b34 ((q k iv0.1 (by omega)).mp (bz_e1.mp b38)))) h
        ·
          show WP (Call d) 18 P X (35, [some (vr (some 79) 0), some (vi y), some (vi k), some (vi (μ (458 + 3 * k))), some (vi (μ (459 + 3 * k)))], [vi (bz (LITp μ (I 80) (I 81) (μ (458 + 3 * k)) (μ (459 + 3 * k)) y))], (I, H), 0, 0)
          refine WP.go 3 (And.intro (fun (b38 : bz (LITp μ (I 80) (I 81) (μ (458 + 3 * k)) (μ (459 + 3 * k)) y) = 1) => ?_) (fun (b38 : ¬ bz (LITp μ (I 80) (I 81) (μ (458 + 3 * k)) (μ (459 + 3 * k)) y) = 1) => ?_))
          ·
            show WP (Call d) 18 P X (41, [some (vr (some 79) 0), some (vi y), some (vi k), some (vi (μ (458 + 3 * k))), some (vi (μ (459 + 3 * k)))], [], (I, H), 0, 0)
            refine WP.go 2 (Exists.intro (k + 1) (And.intro (wrp_a (by omega) (by omega)) (?_)))
            show WP (Call d) 18 P X (2, [some (vr (some 79) 0), some (vi y), some (vi (k + 1)), some (vi (μ (458 + 3 * k))), some (vi (μ (459 + 3 * k)))], [], (I, H), 0, 0)
            refine WP.wk (L := [some (vr (some 79) 0), some (vi y), some (vi (k + 1)), none, none]) (And.intro rfl (And.intro rfl (And.intro rfl (And.intro trivial (And.intro trivial (trivial)))))) ?_
            show WP (Call d) 18 P X (2, [some (vr (some 79) 0), some (vi y), some (vi (k + 1)), none, none], [], (I, H), 0, 0)
            exact ih2 (k + 1) (by omega) (by omega) (fun i q1 q2 => by rcases Int.lt_or_eq_of_le (show i ≤ k by omega) with z | z; exact iv1 i q1 z; rw [z]; exact ⟨fun q => b34, fun q => bz_eq1.mp b38⟩)
          ·
            show WP (Call d) 18 P X (39, [some (vr (some 79) 0), some (vi y), some (vi k), some (vi (μ (458 + 3 * k))), some (vi (μ (459 + 3 * k)))], [], (I, H), 0, 0)
            refine WP.go 2 (And.intro (And.intro (Nat.le_of_ble_eq_true rfl) (Nat.le_of_ble_eq_true rfl)) (And.intro (Or.inl rfl) (?_)))
            show P (some (vi 0)) (I, H)
            exact fin_i (zero_bz (fun q => b38 (bz_1 ((q k iv0.1 (by omega)).mpr b34)))) h
  exact lp2 ((μ 7 - 0 : Int).toNat + 1) 0 (by omega) (by omega) (fun i q1 q2 => by omega)

