theorem s_12_turn {d : Nat} {P : Option qV → qH → Prop} {X : Nat → qH → Prop} {I : qI} {H : qS} {μ : Int → Int} {my mo : Int} (hd : 3 ≤ d) (hS : Shp H) (hM : I 91 = μ) (hV : IM μ) (h22 : I 90 22 = my) (h23 : I 90 23 = mo) (hmo : my = -1 ∨ (0 ≤ mo ∧ mo ≤ 48)) (h : ∀ J : qI, (∀ j, 0 ≤ j → j < 100 → J 96 j = ANG μ my mo j) → (∀ a, a ≠ 96 → J a = I a) → P none (J, H)) :
    Call d 210 [vr (some 90) 10] (I, H) P X := by
  obtain ⟨d, rfl⟩ : ∃ e, d = e + 1 := ⟨d - 1, by omega⟩
  have hl91 := hS.l91
  have hl96 := hS.l96
  have v0 := LOAD_bd hV
  have v2 := hV.ra
  have v3 := hV.ba
  have v4 := hV.st
  show WP (Call d) 210 P X (0, [some (vr (some 90) 10), none, none, none, none], [], (I, H), 0, 0)
  refine WP.go 2 (And.intro (And.intro (Nat.le_of_ble_eq_true rfl) (Nat.le_of_ble_eq_true rfl)) (And.intro rfl (?_)))
  show Call d 209 [vr (some 90) 10] (I, H) _ _
  refine s_12_load (by omega) hS hM hV ?_
  show WP (Call d) 210 P X (2, [some (vr (some 90) 10), none, none, none, none], [vi (LOAD μ)], (I, H), 0, 0)
  refine WP.go 8 (And.intro rfl (Exists.intro 96 (And.intro hS.r90_24 (And.intro rfl (Exists.intro 91 (And.intro hS.r90_1 (And.intro (And.intro rfl (And.intro (show 0 ≤ 9 from by omega) (show 9 < H.2.1 91 from by omega))) (?_))))))))
  refine rw_i (Q := fun x9 => WP (Call d) 210 P X (10, [some (vr (some 90) 10), some (vi (LOAD μ)), none, none, none], [vi x9, vi 0, vr (some 96) 11], (I, H), 0, 0)) (congrFun hM _) ?_
  show WP (Call d) 210 P X (10, [some (vr (some 90) 10), some (vi (LOAD μ)), none, none, none], [vi (μ 9), vi 0, vr (some 96) 11], (I, H), 0, 0)
  refine WP.go 1 (And.intro (And.intro rfl (And.intro (show 0 ≤ 0 from by omega) (show 0 < H.2.1 96 from by omega))) (?_))
  show WP (Call d) 210 P X (11, [some (vr (some 90) 10), some (vi (LOAD μ)), none, none, none], [], ((upI I 96 0 (μ 9)), H), 0, 0)
  generalize hq_J0 : (upI I 96 0 (μ 9)) = J0
  have e_J0 : J0 96 = (fun j => if j = 0 then (μ 9) else I 96 j) := by rw [← hq_J0]; exact upI_self _ _ _ _
  have f_J0 : ∀ a, a ≠ 96 → J0 a = I a := fun a q => by rw [← hq_J0]; exact upI_cell q
  refine WP.go 2 ?_
  show WP (Call d) 210 P X (13, [some (vr (some 90) 10), some (vi (LOAD μ)), some (vi 0), none, none], [], (J0, H), 0, 0)
  have lp13 : ∀ (n9 : Nat) (J : qI) (y : Int) (hm : 100 - y < (n9 : Int)) (iv0 : 0 ≤ y ∧ y < 100) (iv1 : ∀ j, 0 ≤ j → j < y + 1 → J 96 j = ANG μ my mo j) (iv2 : ∀ a, a ≠ 96 → J a = I a), WP (Call d) 210 P X (13, [some (vr (some 90) 10), some (vi (LOAD μ)), some (vi y), none, none], [], (J, H), 0, 0) := by
    intro n9
    induction n9 with
    | zero => intro J y hm iv0 iv1 iv2; exact absurd hm (by omega)
    | succ n9 ih13 =>
      intro J y hm iv0 iv1 iv2
      have hMj : J 91 = μ := (iv2 91 (by omega)).trans hM
      have h22j : J 90 22 = my := (congrFun (iv2 90 (by omega)) 22).trans h22
      have h23j : J 90 23 = mo := (congrFun (iv2 90 (by omega)) 23).trans h23
      have a1 : 0 ≤ J 96 y ∧ J 96 y < 96 := by rw [iv1 y iv0.1 (by omega)]; exact ANG_bd hV _ _ _
      have w1 := hV.wi y iv0.1 (by omega)
      have w2 := hV.ro y iv0.1 (by omega)
      refine WP.go 5 (Exists.intro (y + 1) (And.intro (wrp_a (by omega) (by omega)) (And.intro (fun (b17 : ¬ y + 1 < 100) => ?_) (fun (b17 : y + 1 < 100) => ?_))))
      ·
        show WP (Call d) 210 P X (107, [some (vr (some 90) 10), some (vi (LOAD μ)), some (vi y), none, none], [], (J, H), 0, 0)
        refine WP.go 1 (And.intro (And.intro (Nat.le_of_ble_eq_true rfl) (Nat.le_of_ble_eq_true rfl)) (?_))
        show P none (J, H)
        exact h _ (fun j q1 q2 => iv1 j q1 (by omega)) iv2
      ·
        show WP (Call d) 210 P X (18, [some (vr (some 90) 10), some (vi (LOAD μ)), some (vi y), none, none], [], (J, H), 0, 0)
        refine WP.go 4 (And.intro rfl (Exists.intro 91 (And.intro hS.r90_1 (And.intro (And.intro rfl (And.intro (show 0 ≤ 10 from by omega) (show 10 < H.2.1 91 from by omega))) (?_)))))
        refine rw_i (Q := fun x9 => WP (Call d) 210 P X (22, [some (vr (some 90) 10), some (vi (LOAD μ)), some (vi y), none, none], [vi x9], (J, H), 0, 0)) (congrFun hMj _) ?_
        show WP (Call d) 210 P X (22, [some (vr (some 90) 10), some (vi (LOAD μ)), some (vi y), none, none], [vi (μ 10)], (J, H), 0, 0)
        refine WP.go 6 (And.intro rfl (Exists.intro 91 (And.intro hS.r90_1 (Exists.intro (20 + y) (And.intro (wrp_a (by omega) (by omega)) (And.intro (And.intro rfl (And.intro (show 0 ≤ 20 + y from by omega) (show 20 + y < H.2.1 91 from by omega))) (?_)))))))
        refine rw_i (Q := fun x9 => WP (Call d) 210 P X (28, [some (vr (some 90) 10), some (vi (LOAD μ)), some (vi y), none, none], [vi x9, vi (μ 10)], (J, H), 0, 0)) (congrFun hMj _) ?_
        show WP (Call d) 210 P X (28, [some (vr (some 90) 10), some (vi (LOAD μ)), some (vi y), none, none], [vi (μ (20 + y)), vi (μ 10)], (J, H), 0, 0)
        refine WP.go 7 (Exists.intro ((μ 10) + (μ (20 + y))) (And.intro (wrp_a (by omega) (by omega)) (And.intro rfl (Exists.intro 91 (And.intro hS.r90_1 (Exists.intro (230 + y) (And.intro (wrp_a (by omega) (by omega)) (And.intro (And.intro rfl (And.intro (show 0 ≤ 230 + y from by omega) (show 230 + y < H.2.1 91 from by omega))) (?_)))))))))
        refine rw_i (Q := fun x9 => WP (Call d) 210 P X (35, [some (vr (some 90) 10), some (vi (LOAD μ)), some (vi y), none, none], [vi x9, vi ((μ 10) + (μ (20 + y)))], (J, H), 0, 0)) (congrFun hMj _) ?_
        show WP (Call d) 210 P X (35, [some (vr (some 90) 10), some (vi (LOAD μ)), some (vi y), none, none], [vi (μ (230 + y)), vi ((μ 10) + (μ (20 + y)))], (J, H), 0, 0)
        refine WP.go 6 (Exists.intro (((μ 10) + (μ (20 + y))) + (μ (230 + y))) (And.intro (wrp_a (by omega) (by omega)) (Exists.intro ((((μ 10) + (μ (20 + y))) + (μ (230 + y))) - (LOAD μ)) (And.intro (wrp_a (by omega) (by omega)) (And.intro rfl (?_))))))
        refine rw_i (Q := fun x9 => WP (Call d) 210 P X (41, [some (vr (some 90) 10), some (vi (LOAD μ)), some (vi y), none, none], [vi x9, vi y, vi ((((μ 10) + (μ (20 + y))) + (μ (230 + y))) - (LOAD μ))], (J, H), 0, 0)) h22j ?_
        show WP (Call d) 210 P X (41, [some (vr (some 90) 10), some (vi (LOAD μ)), some (vi y), none, none], [vi my, vi y, vi ((((μ 10) + (μ (20 + y))) + (μ (230 + y))) - (LOAD μ))], (J, H), 0, 0)
        have ih46 : ∀ (v1 : Int) (q1 : v1 = if y = my then mo else 0), WP (Call d) 210 P X (46, [some (vr (some 90) 10), some (vi (LOAD μ)), some (vi y), none, none], [vi v1, vi ((((μ 10) + (μ (20 + y))) + (μ (230 + y))) - (LOAD μ))], (J, H), 0, 0) := by
          intro v1 q1
          have q9 : 0 ≤ v1 ∧ v1 ≤ 48 := by rw [q1]; split <;> omega
          refine WP.go 3 (Exists.intro (((((μ 10) + (μ (20 + y))) + (μ (230 + y))) - (LOAD μ)) + v1) (And.intro (wrp_a (by omega) (by omega)) (?_)))
          show WP (Call d) 210 P X (49, [some (vr (some 90) 10), some (vi (LOAD μ)), some (vi y), some (vi (((((μ 10) + (μ (20 + y))) + (μ (230 + y))) - (LOAD μ)) + v1)), none], [vi (((((μ 10) + (μ (20 + y))) + (μ (230 + y))) - (LOAD μ)) + v1)], (J, H), 0, 0)
          have ih58 : ∀ (n1 : Int) (qn : n1 = clp (((((μ 10) + (μ (20 + y))) + (μ (230 + y))) - (LOAD μ)) + v1)), WP (Call d) 210 P X (58, [some (vr (some 90) 10), some (vi (LOAD μ)), some (vi y), some (vi (((((μ 10) + (μ (20 + y))) + (μ (230 + y))) - (LOAD μ)) + v1)), none], [vi n1], (J, H), 0, 0) := by
            intro n1 qn
            refine WP.go 2 ?_
            show WP (Call d) 210 P X (60, [some (vr (some 90) 10), some (vi (LOAD μ)), some (vi y), some (vi n1), none], [vr (some 90) 10], (J, H), 0, 0)
            have qb0 : 0 ≤ n1 ∧ n1 ≤ 48 := by rw [qn]; unfold clp; split <;> (try split) <;> omega
            refine WP.go 3 (And.intro rfl (Exists.intro 91 (And.intro hS.r90_1 (And.intro (And.intro rfl (And.intro (show 0 ≤ 11 from by omega) (show 11 < H.2.1 91 from by omega))) (?_)))))
            refine rw_i (Q := fun x9 => WP (Call d) 210 P X (63, [some (vr (some 90) 10), some (vi (LOAD μ)), some (vi y), some (vi n1), none], [vi x9], (J, H), 0, 0)) (congrFun hMj _) ?_
            show WP (Call d) 210 P X (63, [some (vr (some 90) 10), some (vi (LOAD μ)), some (vi y), some (vi n1), none], [vi (μ 11)], (J, H), 0, 0)
            refine WP.go 1 ?_
            show WP (Call d) 210 P X (64, [some (vr (some 90) 10), some (vi (LOAD μ)), some (vi y), some (vi n1), none], [vi (-1), vi (μ 11)], (J, H), 0, 0)
            have ih83 : ∀ (c1 : Int) (qc : c1 = bz (μ 11 ≠ -1 ∧ (μ 11 - J 96 y) % 96 ≤ n1)), WP (Call d) 210 P X (83, [some (vr (some 90) 10), some (vi (LOAD μ)), some (vi y), some (vi n1), none], [vi c1], (J, H), 0, 0) := by
              intro c1 qc
              have qN : n1 = clp (μ 10 + μ (20 + y) + μ (230 + y) + (if y = my then mo - LOAD μ else -LOAD μ)) := by rw [qn, q1]; exact congrArg clp (by split <;> omega)
              have qb : 0 ≤ n1 ∧ n1 ≤ 48 := by rw [qn]; unfold clp; split <;> (try split) <;> omega
              refine WP.go 7 (And.intro rfl (Exists.intro 96 (And.intro hS.r90_24 (Exists.intro (y + 1) (And.intro (wrp_a (by omega) (by omega)) (?_))))))
              show WP (Call d) 210 P X (90, [some (vr (some 90) 10), some (vi (LOAD μ)), some (vi y), some (vi n1), some (vi c1)], [vi c1, vi (y + 1), vr (some 96) 11], (J, H), 0, 0)
              have ih104 : ∀ (u1 : Int) (qv : u1 = nxt μ (J 96 y) y (if y = my then mo - LOAD μ else -LOAD μ)), WP (Call d) 210 P X (104, [some (vr (some 90) 10), some (vi (LOAD μ)), some (vi y), some (vi n1), some (vi c1)], [vi u1, vi (y + 1), vr (some 96) 11], (J, H), 0, 0) := by
                intro u1 qv
                refine WP.go 3 (And.intro (And.intro rfl (And.intro (show 0 ≤ y + 1 from by omega) (show y + 1 < H.2.1 96 from by omega))) (Exists.intro (y + 1) (And.intro (wrp_a (by omega) (by omega)) (?_))))
                show WP (Call d) 210 P X (13, [some (vr (some 90) 10), some (vi (LOAD μ)), some (vi (y + 1)), some (vi n1), some (vi c1)], [], ((upI J 96 (y + 1) u1), H), 0, 0)
                refine WP.wk (L := [some (vr (some 90) 10), some (vi (LOAD μ)), some (vi (y + 1)), none, none]) (And.intro rfl (And.intro rfl (And.intro rfl (And.intro trivial (And.intro trivial (trivial)))))) ?_
                show WP (Call d) 210 P X (13, [some (vr (some 90) 10), some (vi (LOAD μ)), some (vi (y + 1)), none, none], [], ((upI J 96 (y + 1) u1), H), 0, 0)
                exact ih13 (upI J 96 (y + 1) u1) (y + 1) (by omega) (by omega) (cp_s (upI_self _ _ _ _) iv1 (by rw [qv, ANG_s _ _ _ iv0.1, ← iv1 y iv0.1 (by omega)])) (fun a q => by rw [upI_cell q]; exact iv2 a q)
              refine WP.go 1 (And.intro (fun (b90 : c1 = 0) => ?_) (fun (b90 : ¬ c1 = 0) => ?_))
              ·
                show WP (Call d) 210 P X (96, [some (vr (some 90) 10), some (vi (LOAD μ)), some (vi y), some (vi n1), some (vi c1)], [vi (y + 1), vr (some 96) 11], (J, H), 0, 0)
                refine WP.go 8 (And.intro rfl (Exists.intro 96 (And.intro hS.r90_24 (And.intro (And.intro rfl (And.intro (show 0 ≤ y from by omega) (show y < H.2.1 96 from by omega))) (Exists.intro ((J 96 y) + n1) (And.intro (wrp_a (by omega) (by omega)) (Exists.intro (((J 96 y) + n1) % 96) (And.intro (tmod_a (by omega) (by omega)) (?_)))))))))
                show WP (Call d) 210 P X (104, [some (vr (some 90) 10), some (vi (LOAD μ)), some (vi y), some (vi n1), some (vi c1)], [vi (((J 96 y) + n1) % 96), vi (y + 1), vr (some 96) 11], (J, H), 0, 0)
                exact ih104 (((J 96 y) + n1) % 96) (by rw [qc, bz_e0] at b90; unfold nxt; rw [← qN, if_neg b90])
              ·
                show WP (Call d) 210 P X (91, [some (vr (some 90) 10), some (vi (LOAD μ)), some (vi y), some (vi n1), some (vi c1)], [vi (y + 1), vr (some 96) 11], (J, H), 0, 0)
                refine WP.go 4 (And.intro rfl (Exists.intro 91 (And.intro hS.r90_1 (And.intro (And.intro rfl (And.intro (show 0 ≤ 11 from by omega) (show 11 < H.2.1 91 from by omega))) (?_)))))
                refine rw_i (Q := fun x9 => WP (Call d) 210 P X (95, [some (vr (some 90) 10), some (vi (LOAD μ)), some (vi y), some (vi n1), some (vi c1)], [vi x9, vi (y + 1), vr (some 96) 11], (J, H), 0, 0)) (congrFun hMj _) ?_
                show WP (Call d) 210 P X (95, [some (vr (some 90) 10), some (vi (LOAD μ)), some (vi y), some (vi n1), some (vi c1)], [vi (μ 11), vi (y + 1), vr (some 96) 11], (J, H), 0, 0)
                refine WP.go 1 ?_
                show WP (Call d) 210 P X (104, [some (vr (some 90) 10), some (vi (LOAD μ)), some (vi y), some (vi n1), some (vi c1)], [vi (μ 11), vi (y + 1), vr (some 96) 11], (J, H), 0, 0)
                exact ih104 (μ 11) (by rw [qc, bz_e1] at b90; unfold nxt; rw [← qN, if_pos b90])
            refine WP.go 1 (And.intro (fun (b64 : μ 11 = (-1)) => ?_) (fun (b64 : ¬ μ 11 = (-1)) => ?_))
            ·
              show WP (Call d) 210 P X (82, [some (vr (some 90) 10), some (vi (LOAD μ)), some (vi y), some (vi n1), none], [], (J, H), 0, 0)
              refine WP.go 1 ?_
              show WP (Call d) 210 P X (83, [some (vr (some 90) 10), some (vi (LOAD μ)), some (vi y), some (vi n1), none], [vi 0], (J, H), 0, 0)
              exact ih83 0 (zero_bz (fun q => q.1 (by omega)))
            ·
              show WP (Call d) 210 P X (65, [some (vr (some 90) 10), some (vi (LOAD μ)), some (vi y), some (vi n1), none], [], (J, H), 0, 0)
              refine WP.go 4 (And.intro rfl (Exists.intro 91 (And.intro hS.r90_1 (And.intro (And.intro rfl (And.intro (show 0 ≤ 11 from by omega) (show 11 < H.2.1 91 from by omega))) (?_)))))
              refine rw_i (Q := fun x9 => WP (Call d) 210 P X (69, [some (vr (some 90) 10), some (vi (LOAD μ)), some (vi y), some (vi n1), none], [vi x9], (J, H), 0, 0)) (congrFun hMj _) ?_
              show WP (Call d) 210 P X (69, [some (vr (some 90) 10), some (vi (LOAD μ)), some (vi y), some (vi n1), none], [vi (μ 11)], (J, H), 0, 0)
              refine WP.go 11 (And.intro rfl (Exists.intro 96 (And.intro hS.r90_24 (And.intro (And.intro rfl (And.intro (show 0 ≤ y from by omega) (show y < H.2.1 96 from by omega))) (Exists.intro ((μ 11) - (J 96 y)) (And.intro (wrp_a (by omega) (by omega)) (Exists.intro (((μ 11) - (J 96 y)) + 96) (And.intro (wrp_a (by omega) (by omega)) (Exists.intro ((((μ 11) - (J 96 y)) + 96) % 96) (And.intro (tmod_a (by omega) (by omega)) (And.intro (fun (b79 : n1 < (((μ 11) - (J 96 y)) + 96) % 96) => ?_) (fun (b79 : ¬ n1 < (((μ 11) - (J 96 y)) + 96) % 96) => ?_))))))))))))
              ·
                show WP (Call d) 210 P X (82, [some (vr (some 90) 10), some (vi (LOAD μ)), some (vi y), some (vi n1), none], [], (J, H), 0, 0)
                refine WP.go 1 ?_
                show WP (Call d) 210 P X (83, [some (vr (some 90) 10), some (vi (LOAD μ)), some (vi y), some (vi n1), none], [vi 0], (J, H), 0, 0)
                exact ih83 0 (zero_bz (fun q => by omega))
              ·
                show WP (Call d) 210 P X (80, [some (vr (some 90) 10), some (vi (LOAD μ)), some (vi y), some (vi n1), none], [], (J, H), 0, 0)
                refine WP.go 2 ?_
                show WP (Call d) 210 P X (83, [some (vr (some 90) 10), some (vi (LOAD μ)), some (vi y), some (vi n1), none], [vi 1], (J, H), 0, 0)
                exact ih83 1 (one_bz ⟨by omega, by omega⟩)
          refine WP.go 1 (And.intro (fun (b49 : ¬ ((((μ 10) + (μ (20 + y))) + (μ (230 + y))) - (LOAD μ)) + v1 < 0) => ?_) (fun (b49 : ((((μ 10) + (μ (20 + y))) + (μ (230 + y))) - (LOAD μ)) + v1 < 0) => ?_))
          ·
            show WP (Call d) 210 P X (52, [some (vr (some 90) 10), some (vi (LOAD μ)), some (vi y), some (vi (((((μ 10) + (μ (20 + y))) + (μ (230 + y))) - (LOAD μ)) + v1)), none], [], (J, H), 0, 0)
            refine WP.go 3 (And.intro (fun (b54 : ¬ 48 < ((((μ 10) + (μ (20 + y))) + (μ (230 + y))) - (LOAD μ)) + v1) => ?_) (fun (b54 : 48 < ((((μ 10) + (μ (20 + y))) + (μ (230 + y))) - (LOAD μ)) + v1) => ?_))
            ·
              show WP (Call d) 210 P X (57, [some (vr (some 90) 10), some (vi (LOAD μ)), some (vi y), some (vi (((((μ 10) + (μ (20 + y))) + (μ (230 + y))) - (LOAD μ)) + v1)), none], [], (J, H), 0, 0)
              refine WP.go 1 ?_
              show WP (Call d) 210 P X (58, [some (vr (some 90) 10), some (vi (LOAD μ)), some (vi y), some (vi (((((μ 10) + (μ (20 + y))) + (μ (230 + y))) - (LOAD μ)) + v1)), none], [vi (((((μ 10) + (μ (20 + y))) + (μ (230 + y))) - (LOAD μ)) + v1)], (J, H), 0, 0)
              exact ih58 (((((μ 10) + (μ (20 + y))) + (μ (230 + y))) - (LOAD μ)) + v1) (by unfold clp; split <;> (try split) <;> omega)
            ·
              show WP (Call d) 210 P X (55, [some (vr (some 90) 10), some (vi (LOAD μ)), some (vi y), some (vi (((((μ 10) + (μ (20 + y))) + (μ (230 + y))) - (LOAD μ)) + v1)), none], [], (J, H), 0, 0)
              refine WP.go 2 ?_
              show WP (Call d) 210 P X (58, [some (vr (some 90) 10), some (vi (LOAD μ)), some (vi y), some (vi (((((μ 10) + (μ (20 + y))) + (μ (230 + y))) - (LOAD μ)) + v1)), none], [vi 48], (J, H), 0, 0)
              exact ih58 48 (by unfold clp; split <;> (try split) <;> omega)
          ·
            show WP (Call d) 210 P X (50, [some (vr (some 90) 10), some (vi (LOAD μ)), some (vi y), some (vi (((((μ 10) + (μ (20 + y))) + (μ (230 + y))) - (LOAD μ)) + v1)), none], [], (J, H), 0, 0)
            refine WP.go 2 ?_
            show WP (Call d) 210 P X (58, [some (vr (some 90) 10), some (vi (LOAD μ)), some (vi y), some (vi (((((μ 10) + (μ (20 + y))) + (μ (230 + y))) - (LOAD μ)) + v1)), none], [vi 0], (J, H), 0, 0)
            exact ih58 0 (by unfold clp; split <;> (try split) <;> omega)
        refine WP.go 1 (And.intro (fun (b41 : ¬ y = my) => ?_) (fun (b41 : y = my) => ?_))
        ·
          show WP (Call d) 210 P X (45, [some (vr (some 90) 10), some (vi (LOAD μ)), some (vi y), none, none], [vi ((((μ 10) + (μ (20 + y))) + (μ (230 + y))) - (LOAD μ))], (J, H), 0, 0)
          refine WP.go 1 ?_
          show WP (Call d) 210 P X (46, [some (vr (some 90) 10), some (vi (LOAD μ)), some (vi y), none, none], [vi 0, vi ((((μ 10) + (μ (20 + y))) + (μ (230 + y))) - (LOAD μ))], (J, H), 0, 0)
          exact ih46 0 (if_neg b41).symm
        ·
          show WP (Call d) 210 P X (42, [some (vr (some 90) 10), some (vi (LOAD μ)), some (vi y), none, none], [vi ((((μ 10) + (μ (20 + y))) + (μ (230 + y))) - (LOAD μ))], (J, H), 0, 0)
          refine WP.go 2 (And.intro rfl (?_))
          refine rw_i (Q := fun x9 => WP (Call d) 210 P X (44, [some (vr (some 90) 10), some (vi (LOAD μ)), some (vi y), none, none], [vi x9, vi ((((μ 10) + (μ (20 + y))) + (μ (230 + y))) - (LOAD μ))], (J, H), 0, 0)) h23j ?_
          show WP (Call d) 210 P X (44, [some (vr (some 90) 10), some (vi (LOAD μ)), some (vi y), none, none], [vi mo, vi ((((μ 10) + (μ (20 + y))) + (μ (230 + y))) - (LOAD μ))], (J, H), 0, 0)
          refine WP.go 1 ?_
          show WP (Call d) 210 P X (46, [some (vr (some 90) 10), some (vi (LOAD μ)), some (vi y), none, none], [vi mo, vi ((((μ 10) + (μ (20 + y))) + (μ (230 + y))) - (LOAD μ))], (J, H), 0, 0)
          exact ih46 mo (if_pos b41).symm
  exact lp13 ((100 - 0 : Int).toNat + 1) J0 0 (by omega) (by omega) (fun j q1 q2 => by rw [e_J0, show j = 0 by omega]; rfl) f_J0

