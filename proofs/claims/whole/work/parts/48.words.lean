theorem s_7_isLetter {d : Nat} {P : Option qV → qH → Prop} {X : Nat → qH → Prop} {I : qI} {H : qS} (hd : 1 ≤ d) {c : Int} (h : P (some (vi (bz (isL c)))) (I, H)) :
    Call d 72 [vi c] (I, H) P X := by
  obtain ⟨d, rfl⟩ : ∃ e, d = e + 1 := ⟨d - 1, by omega⟩
  show WP (Call d) 72 P X (0, [some (vi c)], [], (I, H), 0, 0)
  refine WP.go 3 (And.intro (fun (b2 : c < 97) => ?_) (fun (b2 : ¬ c < 97) => ?_))
  ·
    show WP (Call d) 72 P X (8, [some (vi c)], [], (I, H), 0, 0)
    refine WP.go 2 (And.intro (And.intro (Nat.le_of_ble_eq_true rfl) (Nat.le_of_ble_eq_true rfl)) (And.intro (Or.inl rfl) (?_)))
    show P (some (vi 0)) (I, H)
    exact fin_i (by (first | exact one_bz ⟨by omega, by omega⟩ | exact zero_bz (fun q => by have q1 := q.1; have q2 := q.2; omega))) h
  ·
    show WP (Call d) 72 P X (3, [some (vi c)], [], (I, H), 0, 0)
    refine WP.go 3 (And.intro (fun (b5 : 122 < c) => ?_) (fun (b5 : ¬ 122 < c) => ?_))
    ·
      show WP (Call d) 72 P X (8, [some (vi c)], [], (I, H), 0, 0)
      refine WP.go 2 (And.intro (And.intro (Nat.le_of_ble_eq_true rfl) (Nat.le_of_ble_eq_true rfl)) (And.intro (Or.inl rfl) (?_)))
      show P (some (vi 0)) (I, H)
      exact fin_i (by (first | exact one_bz ⟨by omega, by omega⟩ | exact zero_bz (fun q => by have q1 := q.1; have q2 := q.2; omega))) h
    ·
      show WP (Call d) 72 P X (6, [some (vi c)], [], (I, H), 0, 0)
      refine WP.go 3 (And.intro (And.intro (Nat.le_of_ble_eq_true rfl) (Nat.le_of_ble_eq_true rfl)) (And.intro (Or.inr rfl) (?_)))
      show P (some (vi 1)) (I, H)
      exact fin_i (by (first | exact one_bz ⟨by omega, by omega⟩ | exact zero_bz (fun q => by have q1 := q.1; have q2 := q.2; omega))) h

theorem s_7_isDigit {d : Nat} {P : Option qV → qH → Prop} {X : Nat → qH → Prop} {I : qI} {H : qS} (hd : 1 ≤ d) {c : Int} (h : P (some (vi (bz (isD c)))) (I, H)) :
    Call d 73 [vi c] (I, H) P X := by
  obtain ⟨d, rfl⟩ : ∃ e, d = e + 1 := ⟨d - 1, by omega⟩
  show WP (Call d) 73 P X (0, [some (vi c)], [], (I, H), 0, 0)
  refine WP.go 3 (And.intro (fun (b2 : c < 48) => ?_) (fun (b2 : ¬ c < 48) => ?_))
  ·
    show WP (Call d) 73 P X (8, [some (vi c)], [], (I, H), 0, 0)
    refine WP.go 2 (And.intro (And.intro (Nat.le_of_ble_eq_true rfl) (Nat.le_of_ble_eq_true rfl)) (And.intro (Or.inl rfl) (?_)))
    show P (some (vi 0)) (I, H)
    exact fin_i (by (first | exact one_bz ⟨by omega, by omega⟩ | exact zero_bz (fun q => by have q1 := q.1; have q2 := q.2; omega))) h
  ·
    show WP (Call d) 73 P X (3, [some (vi c)], [], (I, H), 0, 0)
    refine WP.go 3 (And.intro (fun (b5 : 57 < c) => ?_) (fun (b5 : ¬ 57 < c) => ?_))
    ·
      show WP (Call d) 73 P X (8, [some (vi c)], [], (I, H), 0, 0)
      refine WP.go 2 (And.intro (And.intro (Nat.le_of_ble_eq_true rfl) (Nat.le_of_ble_eq_true rfl)) (And.intro (Or.inl rfl) (?_)))
      show P (some (vi 0)) (I, H)
      exact fin_i (by (first | exact one_bz ⟨by omega, by omega⟩ | exact zero_bz (fun q => by have q1 := q.1; have q2 := q.2; omega))) h
    ·
      show WP (Call d) 73 P X (6, [some (vi c)], [], (I, H), 0, 0)
      refine WP.go 3 (And.intro (And.intro (Nat.le_of_ble_eq_true rfl) (Nat.le_of_ble_eq_true rfl)) (And.intro (Or.inr rfl) (?_)))
      show P (some (vi 1)) (I, H)
      exact fin_i (by (first | exact one_bz ⟨by omega, by omega⟩ | exact zero_bz (fun q => by have q1 := q.1; have q2 := q.2; omega))) h

theorem s_7_behindThing {d : Nat} {P : Option qV → qH → Prop} {X : Nat → qH → Prop} {I : qI} {H : qS} (hd : 2 ≤ d) {n p : Int} (hS : Shp H) (hsz : I 4 1 = n) (hnn : 0 ≤ n ∧ n ≤ 400) (hp : 0 ≤ p ∧ p < n) (h : P (some (vi (bhd (I 5) n p))) (I, H)) :
    Call d 74 [vr (some 4) 5, vi p] (I, H) P X := by
  obtain ⟨d, rfl⟩ : ∃ e, d = e + 1 := ⟨d - 1, by omega⟩
  show WP (Call d) 74 P X (0, [some (vr (some 4) 5), some (vi p), none, none, none], [], (I, H), 0, 0)
  refine WP.go 3 (And.intro (And.intro (Nat.le_of_ble_eq_true rfl) (Nat.le_of_ble_eq_true rfl)) (And.intro rfl (?_)))
  show Call d 66 [vr (some 4) 5, vi p] (I, H) _ _
  refine s_6_at (by omega) hS hsz (by omega) ?_
  show WP (Call d) 74 P X (3, [some (vr (some 4) 5), some (vi p), none, none, none], [vi (I 5 p)], (I, H), 0, 0)
  refine WP.go 1 (And.intro (And.intro (Nat.le_of_ble_eq_true rfl) (Nat.le_of_ble_eq_true rfl)) (And.intro rfl (?_)))
  show Call d 72 [vi (I 5 p)] (I, H) _ _
  refine s_7_isLetter (by omega)  ?_
  show WP (Call d) 74 P X (4, [some (vr (some 4) 5), some (vi p), none, none, none], [vi (bz (isL (I 5 p)))], (I, H), 0, 0)
  refine WP.go 4 (And.intro (And.intro (Nat.le_of_ble_eq_true rfl) (Nat.le_of_ble_eq_true rfl)) (And.intro rfl (?_)))
  show Call d 66 [vr (some 4) 5, vi p] (I, H) _ _
  refine s_6_at (by omega) hS hsz (by omega) ?_
  show WP (Call d) 74 P X (8, [some (vr (some 4) 5), some (vi p), some (vi (bz (isL (I 5 p)))), none, none], [vi (I 5 p)], (I, H), 0, 0)
  refine WP.go 1 (And.intro (And.intro (Nat.le_of_ble_eq_true rfl) (Nat.le_of_ble_eq_true rfl)) (And.intro rfl (?_)))
  show Call d 73 [vi (I 5 p)] (I, H) _ _
  refine s_7_isDigit (by omega)  ?_
  show WP (Call d) 74 P X (9, [some (vr (some 4) 5), some (vi p), some (vi (bz (isL (I 5 p)))), none, none], [vi (bz (isD (I 5 p)))], (I, H), 0, 0)
  refine WP.go 5 (Exists.intro (p + 1) (And.intro (wrp_a (by omega) (by omega)) (?_)))
  show WP (Call d) 74 P X (14, [some (vr (some 4) 5), some (vi p), some (vi (bz (isL (I 5 p)))), some (vi (bz (isD (I 5 p)))), some (vi (p + 1))], [], (I, H), 0, 0)
  have lp14 : ∀ (n9 : Nat) (pl : Int) (hm : n - pl < (n9 : Int)) (iv0 : p < pl ∧ pl ≤ n) (iv1 : (isL (I 5 p) → bhd (I 5) n p = wE (I 5) n pl) ∧ (isD (I 5 p) → bhd (I 5) n p = dE (I 5) n pl) ∧ (¬ isL (I 5 p) → ¬ isD (I 5 p) → bhd (I 5) n p = pl)), WP (Call d) 74 P X (14, [some (vr (some 4) 5), some (vi p), some (vi (bz (isL (I 5 p)))), some (vi (bz (isD (I 5 p)))), some (vi pl)], [], (I, H), 0, 0) := by
    intro n9
    induction n9 with
    | zero => intro pl hm iv0 iv1; exact absurd hm (by omega)
    | succ n9 ih14 =>
      intro pl hm iv0 iv1
      refine WP.go 3 (And.intro (And.intro (Nat.le_of_ble_eq_true rfl) (Nat.le_of_ble_eq_true rfl)) (And.intro rfl (?_)))
      show Call d 65 [vr (some 4) 5] (I, H) _ _
      refine s_6_size (by omega) hsz ?_
      show WP (Call d) 74 P X (17, [some (vr (some 4) 5), some (vi p), some (vi (bz (isL (I 5 p)))), some (vi (bz (isD (I 5 p)))), some (vi pl)], [vi n, vi pl], (I, H), 0, 0)
      refine WP.go 1 (And.intro (fun (b17 : ¬ pl < n) => ?_) (fun (b17 : pl < n) => ?_))
      ·
        show WP (Call d) 74 P X (34, [some (vr (some 4) 5), some (vi p), some (vi (bz (isL (I 5 p)))), some (vi (bz (isD (I 5 p)))), some (vi pl)], [], (I, H), 0, 0)
        refine WP.go 2 (And.intro (And.intro (Nat.le_of_ble_eq_true rfl) (Nat.le_of_ble_eq_true rfl)) (And.intro trivial (?_)))
        show P (some (vi pl)) (I, H)
        exact fin_i (by rcases Classical.em (isL (I 5 p)) with q | q; exact ((iv1.1 q).trans ((fx_e (by omega)).trans (by omega))).symm; rcases Classical.em (isD (I 5 p)) with w | w; exact ((iv1.2.1 w).trans ((fx_e (by omega)).trans (by omega))).symm; exact (iv1.2.2 q w).symm) h
      ·
        show WP (Call d) 74 P X (18, [some (vr (some 4) 5), some (vi p), some (vi (bz (isL (I 5 p)))), some (vi (bz (isD (I 5 p)))), some (vi pl)], [], (I, H), 0, 0)
        refine WP.go 2 (And.intro (fun (b19 : bz (isL (I 5 p)) = 0) => ?_) (fun (b19 : ¬ bz (isL (I 5 p)) = 0) => ?_))
        ·
          show WP (Call d) 74 P X (25, [some (vr (some 4) 5), some (vi p), some (vi (bz (isL (I 5 p)))), some (vi (bz (isD (I 5 p)))), some (vi pl)], [], (I, H), 0, 0)
          have z19 := bz_e0.mp b19
          refine WP.go 2 (And.intro (fun (b26 : bz (isD (I 5 p)) = 0) => ?_) (fun (b26 : ¬ bz (isD (I 5 p)) = 0) => ?_))
          ·
            show WP (Call d) 74 P X (34, [some (vr (some 4) 5), some (vi p), some (vi (bz (isL (I 5 p)))), some (vi (bz (isD (I 5 p)))), some (vi pl)], [], (I, H), 0, 0)
            have z26 := bz_e0.mp b26
            refine WP.go 2 (And.intro (And.intro (Nat.le_of_ble_eq_true rfl) (Nat.le_of_ble_eq_true rfl)) (And.intro trivial (?_)))
            show P (some (vi pl)) (I, H)
            exact fin_i (iv1.2.2 (bz_e0.mp b19) (bz_e0.mp b26)).symm h
          ·
            show WP (Call d) 74 P X (27, [some (vr (some 4) 5), some (vi p), some (vi (bz (isL (I 5 p)))), some (vi (bz (isD (I 5 p)))), some (vi pl)], [], (I, H), 0, 0)
            have z26 := bz_e1.mp b26
            refine WP.go 3 (And.intro (And.intro (Nat.le_of_ble_eq_true rfl) (Nat.le_of_ble_eq_true rfl)) (And.intro rfl (?_)))
            show Call d 66 [vr (some 4) 5, vi pl] (I, H) _ _
            refine s_6_at (by omega) hS hsz (by omega) ?_
            show WP (Call d) 74 P X (30, [some (vr (some 4) 5), some (vi p), some (vi (bz (isL (I 5 p)))), some (vi (bz (isD (I 5 p)))), some (vi pl)], [vi (I 5 pl)], (I, H), 0, 0)
            refine WP.go 1 (And.intro (And.intro (Nat.le_of_ble_eq_true rfl) (Nat.le_of_ble_eq_true rfl)) (And.intro rfl (?_)))
            show Call d 73 [vi (I 5 pl)] (I, H) _ _
            refine s_7_isDigit (by omega)  ?_
            show WP (Call d) 74 P X (31, [some (vr (some 4) 5), some (vi p), some (vi (bz (isL (I 5 p)))), some (vi (bz (isD (I 5 p)))), some (vi pl)], [vi (bz (isD (I 5 pl)))], (I, H), 0, 0)
            refine WP.go 1 (And.intro (fun (b31 : bz (isD (I 5 pl)) = 0) => ?_) (fun (b31 : ¬ bz (isD (I 5 pl)) = 0) => ?_))
            ·
              show WP (Call d) 74 P X (34, [some (vr (some 4) 5), some (vi p), some (vi (bz (isL (I 5 p)))), some (vi (bz (isD (I 5 p)))), some (vi pl)], [], (I, H), 0, 0)
              have z31 := bz_e0.mp b31
              refine WP.go 2 (And.intro (And.intro (Nat.le_of_ble_eq_true rfl) (Nat.le_of_ble_eq_true rfl)) (And.intro trivial (?_)))
              show P (some (vi pl)) (I, H)
              exact fin_i ((iv1.2.1 (bz_e1.mp b26)).trans (fx_y (by omega) (by omega) (bz_e0.mp b31))).symm h
            ·
              show WP (Call d) 74 P X (32, [some (vr (some 4) 5), some (vi p), some (vi (bz (isL (I 5 p)))), some (vi (bz (isD (I 5 p)))), some (vi pl)], [], (I, H), 0, 0)
              have z31 := bz_e1.mp b31
              refine WP.go 2 (Exists.intro (pl + 1) (And.intro (wrp_a (by omega) (by omega)) (?_)))
              show WP (Call d) 74 P X (14, [some (vr (some 4) 5), some (vi p), some (vi (bz (isL (I 5 p)))), some (vi (bz (isD (I 5 p)))), some (vi (pl + 1))], [], (I, H), 0, 0)
              exact ih14 (pl + 1) (by omega) (by omega) ⟨fun q => absurd q (bz_e0.mp b19), fun q => (iv1.2.1 q).trans (fx_n (by omega) (fun w => w (bz_e1.mp b31))), fun _ q => absurd (bz_e1.mp b26) q⟩
        ·
          show WP (Call d) 74 P X (20, [some (vr (some 4) 5), some (vi p), some (vi (bz (isL (I 5 p)))), some (vi (bz (isD (I 5 p)))), some (vi pl)], [], (I, H), 0, 0)
          have z19 := bz_e1.mp b19
          refine WP.go 3 (And.intro (And.intro (Nat.le_of_ble_eq_true rfl) (Nat.le_of_ble_eq_true rfl)) (And.intro rfl (?_)))
          show Call d 66 [vr (some 4) 5, vi pl] (I, H) _ _
          refine s_6_at (by omega) hS hsz (by omega) ?_
          show WP (Call d) 74 P X (23, [some (vr (some 4) 5), some (vi p), some (vi (bz (isL (I 5 p)))), some (vi (bz (isD (I 5 p)))), some (vi pl)], [vi (I 5 pl)], (I, H), 0, 0)
          refine WP.go 1 (And.intro (And.intro (Nat.le_of_ble_eq_true rfl) (Nat.le_of_ble_eq_true rfl)) (And.intro rfl (?_)))
          show Call d 72 [vi (I 5 pl)] (I, H) _ _
          refine s_7_isLetter (by omega)  ?_
          show WP (Call d) 74 P X (24, [some (vr (some 4) 5), some (vi p), some (vi (bz (isL (I 5 p)))), some (vi (bz (isD (I 5 p)))), some (vi pl)], [vi (bz (isL (I 5 pl)))], (I, H), 0, 0)
          refine WP.go 1 (And.intro (fun (b24 : ¬ bz (isL (I 5 pl)) = 0) => ?_) (fun (b24 : bz (isL (I 5 pl)) = 0) => ?_))
          ·
            show WP (Call d) 74 P X (32, [some (vr (some 4) 5), some (vi p), some (vi (bz (isL (I 5 p)))), some (vi (bz (isD (I 5 p)))), some (vi pl)], [], (I, H), 0, 0)
            have z24 := bz_e1.mp b24
            refine WP.go 2 (Exists.intro (pl + 1) (And.intro (wrp_a (by omega) (by omega)) (?_)))
            show WP (Call d) 74 P X (14, [some (vr (some 4) 5), some (vi p), some (vi (bz (isL (I 5 p)))), some (vi (bz (isD (I 5 p)))), some (vi (pl + 1))], [], (I, H), 0, 0)
            exact ih14 (pl + 1) (by omega) (by omega) ⟨fun q => (iv1.1 q).trans (fx_n (by omega) (fun w => w (bz_e1.mp b24))), fun q => absurd (bz_e1.mp b19) (LD q), fun q _ => absurd (bz_e1.mp b19) q⟩
          ·
            show WP (Call d) 74 P X (25, [some (vr (some 4) 5), some (vi p), some (vi (bz (isL (I 5 p)))), some (vi (bz (isD (I 5 p)))), some (vi pl)], [], (I, H), 0, 0)
            have z24 := bz_e0.mp b24
            refine WP.go 2 (And.intro (fun (b26 : bz (isD (I 5 p)) = 0) => ?_) (fun (b26 : ¬ bz (isD (I 5 p)) = 0) => ?_))
            ·
              show WP (Call d) 74 P X (34, [some (vr (some 4) 5), some (vi p), some (vi (bz (isL (I 5 p)))), some (vi (bz (isD (I 5 p)))), some (vi pl)], [], (I, H), 0, 0)
              have z26 := bz_e0.mp b26
              refine WP.go 2 (And.intro (And.intro (Nat.le_of_ble_eq_true rfl) (Nat.le_of_ble_eq_true rfl)) (And.intro trivial (?_)))
              show P (some (vi pl)) (I, H)
              exact fin_i ((iv1.1 (bz_e1.mp b19)).trans (fx_y (by omega) (by omega) (bz_e0.mp b24))).symm h
            ·
              show WP (Call d) 74 P X (27, [some (vr (some 4) 5), some (vi p), some (vi (bz (isL (I 5 p)))), some (vi (bz (isD (I 5 p)))), some (vi pl)], [], (I, H), 0, 0)
              have z26 := bz_e1.mp b26
              refine WP.go 3 (And.intro (And.intro (Nat.le_of_ble_eq_true rfl) (Nat.le_of_ble_eq_true rfl)) (And.intro rfl (?_)))
              show Call d 66 [vr (some 4) 5, vi pl] (I, H) _ _
              refine s_6_at (by omega) hS hsz (by omega) ?_
              show WP (Call d) 74 P X (30, [some (vr (some 4) 5), some (vi p), some (vi (bz (isL (I 5 p)))), some (vi (bz (isD (I 5 p)))), some (vi pl)], [vi (I 5 pl)], (I, H), 0, 0)
              refine WP.go 1 (And.intro (And.intro (Nat.le_of_ble_eq_true rfl) (Nat.le_of_ble_eq_true rfl)) (And.intro rfl (?_)))
              show Call d 73 [vi (I 5 pl)] (I, H) _ _
              refine s_7_isDigit (by omega)  ?_
              show WP (Call d) 74 P X (31, [some (vr (some 4) 5), some (vi p), some (vi (bz (isL (I 5 p)))), some (vi (bz (isD (I 5 p)))), some (vi pl)], [vi (bz (isD (I 5 pl)))], (I, H), 0, 0)
              refine WP.go 1 (And.intro (fun (b31 : bz (isD (I 5 pl)) = 0) => ?_) (fun (b31 : ¬ bz (isD (I 5 pl)) = 0) => ?_))
              ·
                show WP (Call d) 74 P X (34, [some (vr (some 4) 5), some (vi p), some (vi (bz (isL (I 5 p)))), some (vi (bz (isD (I 5 p)))), some (vi pl)], [], (I, H), 0, 0)
                have z31 := bz_e0.mp b31
                refine WP.go 2 (And.intro (And.intro (Nat.le_of_ble_eq_true rfl) (Nat.le_of_ble_eq_true rfl)) (And.intro trivial (?_)))
                show P (some (vi pl)) (I, H)
                exact fin_i ((iv1.1 (bz_e1.mp b19)).trans (fx_y (by omega) (by omega) (bz_e0.mp b24))).symm h
              ·
                show WP (Call d) 74 P X (32, [some (vr (some 4) 5), some (vi p), some (vi (bz (isL (I 5 p)))), some (vi (bz (isD (I 5 p)))), some (vi pl)], [], (I, H), 0, 0)
                have z31 := bz_e1.mp b31
                refine WP.go 2 (Exists.intro (pl + 1) (And.intro (wrp_a (by omega) (by omega)) (?_)))
                show WP (Call d) 74 P X (14, [some (vr (some 4) 5), some (vi p), some (vi (bz (isL (I 5 p)))), some (vi (bz (isD (I 5 p)))), some (vi (pl + 1))], [], (I, H), 0, 0)
                exact ih14 (pl + 1) (by omega) (by omega) (absurd (bz_e1.mp b19) (LD (bz_e1.mp b26)))
  exact lp14 ((n - (p + 1) : Int).toNat + 1) (p + 1) (by omega) (by omega) ⟨fun q => bhd_l q, fun q => bhd_d q, fun q w => bhd_s q w⟩

theorem s_7_numberAt {d : Nat} {P : Option qV → qH → Prop} {X : Nat → qH → Prop} {I : qI} {H : qS} (hd : 2 ≤ d) {n p e : Int} (hS : Shp H) (hsz : I 4 1 = n) (hnn : 0 ≤ n ∧ n ≤ 400) (hp : 0 ≤ p ∧ p < e ∧ e ≤ n) (hd9 : ∀ i, p ≤ i → i < e → isD (I 5 i)) (h : P (some (vi (if 3 < e - p then 3001 else nvI (I 5) p e))) (I, H)) :
    Call d 76 [vr (some 4) 5, vi p, vi e] (I, H) P X := by
  obtain ⟨d, rfl⟩ : ∃ e, d = e + 1 := ⟨d - 1, by omega⟩
  show WP (Call d) 76 P X (0, [some (vr (some 4) 5), some (vi p), some (vi e), none, none], [], (I, H), 0, 0)
  refine WP.go 5 (Exists.intro (e - p) (And.intro (wrp_a (by omega) (by omega)) (And.intro (fun (b4 : ¬ 3 < e - p) => ?_) (fun (b4 : 3 < e - p) => ?_))))
  ·
    show WP (Call d) 76 P X (7, [some (vr (some 4) 5), some (vi p), some (vi e), none, none], [], (I, H), 0, 0)
    refine WP.go 4 ?_
    show WP (Call d) 76 P X (11, [some (vr (some 4) 5), some (vi p), some (vi e), some (vi 0), some (vi p)], [], (I, H), 0, 0)
    have lp11 : ∀ (n9 : Nat) (v9 : Int) (k : Int) (hm : e - k < (n9 : Int)) (iv0 : p ≤ k ∧ k ≤ e) (iv1 : v9 = nvI (I 5) p k), WP (Call d) 76 P X (11, [some (vr (some 4) 5), some (vi p), some (vi e), some (vi v9), some (vi k)], [], (I, H), 0, 0) := by
      intro n9
      induction n9 with
      | zero => intro v9 k hm iv0 iv1; exact absurd hm (by omega)
      | succ n9 ih11 =>
        intro v9 k hm iv0 iv1
        have m1 := nvI_bd (tb := I 5) iv0.1 (by omega) (fun i q0 q1 => hd9 i q0 (by omega))
        have m2 : k < e → 48 ≤ I 5 k ∧ I 5 k ≤ 57 := fun q => hd9 k iv0.1 q
        refine WP.go 3 (And.intro (fun (b13 : ¬ k < e) => ?_) (fun (b13 : k < e) => ?_))
        ·
          show WP (Call d) 76 P X (26, [some (vr (some 4) 5), some (vi p), some (vi e), some (vi v9), some (vi k)], [], (I, H), 0, 0)
          refine WP.go 2 (And.intro (And.intro (Nat.le_of_ble_eq_true rfl) (Nat.le_of_ble_eq_true rfl)) (And.intro trivial (?_)))
          show P (some (vi v9)) (I, H)
          exact fin_i (by rw [if_neg (by omega), iv1, show k = e by omega]) h
        ·
          show WP (Call d) 76 P X (14, [some (vr (some 4) 5), some (vi p), some (vi e), some (vi v9), some (vi k)], [], (I, H), 0, 0)
          refine WP.go 6 (Exists.intro (10 * v9) (And.intro (wrp_a (by omega) (by omega)) (And.intro (And.intro (Nat.le_of_ble_eq_true rfl) (Nat.le_of_ble_eq_true rfl)) (And.intro rfl (?_)))))
          show Call d 66 [vr (some 4) 5, vi k] (I, H) _ _
          refine s_6_at (by omega) hS hsz (by omega) ?_
          show WP (Call d) 76 P X (20, [some (vr (some 4) 5), some (vi p), some (vi e), some (vi v9), some (vi k)], [vi (I 5 k), vi (10 * v9)], (I, H), 0, 0)
          refine WP.go 6 (Exists.intro ((10 * v9) + (I 5 k)) (And.intro (wrp_a (by omega) (by omega)) (Exists.intro (((10 * v9) + (I 5 k)) - 48) (And.intro (wrp_a (by omega) (by omega)) (Exists.intro (k + 1) (And.intro (wrp_a (by omega) (by omega)) (?_)))))))
          show WP (Call d) 76 P X (11, [some (vr (some 4) 5), some (vi p), some (vi e), some (vi (((10 * v9) + (I 5 k)) - 48)), some (vi (k + 1))], [], (I, H), 0, 0)
          exact ih11 (((10 * v9) + (I 5 k)) - 48) (k + 1) (by omega) (by omega) (by rw [nvI_s iv0.1, ← iv1])
    exact lp11 ((e - p : Int).toNat + 1) 0 p (by omega) (by omega) (nvI_0 _ _).symm
  ·
    show WP (Call d) 76 P X (5, [some (vr (some 4) 5), some (vi p), some (vi e), none, none], [], (I, H), 0, 0)
    refine WP.go 2 (And.intro (And.intro (Nat.le_of_ble_eq_true rfl) (Nat.le_of_ble_eq_true rfl)) (And.intro trivial (?_)))
    show P (some (vi 3001)) (I, H)
    exact fin_i (by rw [if_pos (by omega)]) h

theorem s_7_wordAt {d : Nat} {P : Option qV → qH → Prop} {X : Nat → qH → Prop} {I : qI} {H : qS} (hd : 2 ≤ d) {n p e : Int} (hS : Shp H) (hsz : I 4 1 = n) (hnn : 0 ≤ n ∧ n ≤ 400) (hp : 0 ≤ p ∧ p < e ∧ e ≤ n) (h : P (some (vi (wdI (I 5) p e))) (I, H)) :
    Call d 77 [vr (some 4) 5, vi p, vi e] (I, H) P X := by
  obtain ⟨d, rfl⟩ : ∃ e, d = e + 1 := ⟨d - 1, by omega⟩
  show WP (Call d) 77 P X (0, [some (vr (some 4) 5), some (vi p), some (vi e), none, none, none, none], [], (I, H), 0, 0)
  refine WP.go 6 ?_
  show WP (Call d) 77 P X (6, [some (vr (some 4) 5), some (vi p), some (vi e), some (vi 1000), some (vi 0), some (vi 0), none], [], (I, H), 0, 0)
  have lp6 : ∀ (n9 : Nat) (w9 : Int) (f9 : Int) (i : Int) (hm : 147 - i < (n9 : Int)) (iv0 : 0 ≤ i ∧ i ≤ 147 ∧ -1 ≤ f9 ∧ f9 ≤ e - p ∧ 1000 ≤ w9 ∧ w9 ≤ 1000 + i) (iv1 : wAt (I 5) p (e - p) 147 0 1000 0 = wAt (I 5) p (e - p) (147 - i).toNat i w9 f9), WP (Call d) 77 P X (6, [some (vr (some 4) 5), some (vi p), some (vi e), some (vi w9), some (vi f9), some (vi i), none], [], (I, H), 0, 0) := by
    intro n9
    induction n9 with
    | zero => intro w9 f9 i hm iv0 iv1; exact absurd hm (by omega)
    | succ n9 ih6 =>
      intro w9 f9 i hm iv0 iv1
      refine WP.go 4 (And.intro (And.intro (Nat.le_of_ble_eq_true rfl) (Nat.le_of_ble_eq_true rfl)) (And.intro (fun (b9 : ¬ i < 147) => ?_) (fun (b9 : i < 147) => ?_)))
      ·
        show WP (Call d) 77 P X (57, [some (vr (some 4) 5), some (vi p), some (vi e), some (vi w9), some (vi f9), some (vi i), none], [], (I, H), 0, 0)
        refine WP.go 2 (And.intro (And.intro (Nat.le_of_ble_eq_true rfl) (Nat.le_of_ble_eq_true rfl)) (And.intro trivial (?_)))
        show P (some (vi 3001)) (I, H)
        exact fin_i (iv1.trans (by rw [show (147 - i).toNat = 0 by omega]; rfl)).symm h
      ·
        show WP (Call d) 77 P X (10, [some (vr (some 4) 5), some (vi p), some (vi e), some (vi w9), some (vi f9), some (vi i), none], [], (I, H), 0, 0)
        refine WP.go 5 (And.intro (And.intro (And.intro (show 0 ≤ i from by omega) (show i < slen 0 from by show i < 147; omega)) (And.intro (Nat.le_of_ble_eq_true rfl) (Nat.le_of_ble_eq_true rfl))) (And.intro (fun (b14 : ¬ sch 0 i = 32) => ?_) (fun (b14 : sch 0 i = 32) => ?_)))
        ·
          show WP (Call d) 77 P X (26, [some (vr (some 4) 5), some (vi p), some (vi e), some (vi w9), some (vi f9), some (vi i), none], [], (I, H), 0, 0)
          refine WP.go 3 (And.intro (fun (b28 : f9 = (-1)) => ?_) (fun (b28 : ¬ f9 = (-1)) => ?_))
          ·
            show WP (Call d) 77 P X (55, [some (vr (some 4) 5), some (vi p), some (vi e), some (vi w9), some (vi f9), some (vi i), none], [], (I, H), 0, 0)
            refine WP.go 2 (Exists.intro (i + 1) (And.intro (wrp_a (by omega) (by omega)) (?_)))
            show WP (Call d) 77 P X (6, [some (vr (some 4) 5), some (vi p), some (vi e), some (vi w9), some (vi f9), some (vi (i + 1)), none], [], (I, H), 0, 0)
            exact ih6 w9 f9 (i + 1) (by omega) (by omega) (iv1.trans (by rw [wAt_s (by omega), if_neg b14, if_pos b28, b28]))
          ·
            show WP (Call d) 77 P X (29, [some (vr (some 4) 5), some (vi p), some (vi e), some (vi w9), some (vi f9), some (vi i), none], [], (I, H), 0, 0)
            refine WP.go 5 (Exists.intro (p + f9) (And.intro (wrp_a (by omega) (by omega)) (And.intro (fun (b33 : ¬ p + f9 < e) => ?_) (fun (b33 : p + f9 < e) => ?_))))
            ·
              show WP (Call d) 77 P X (45, [some (vr (some 4) 5), some (vi p), some (vi e), some (vi w9), some (vi f9), some (vi i), none], [], (I, H), 0, 0)
              refine WP.go 4 (And.intro (fun (b48 : 0 = 0) => ?_) (fun (b48 : ¬ 0 = 0) => (absurd b48 (by omega))))
              show WP (Call d) 77 P X (53, [some (vr (some 4) 5), some (vi p), some (vi e), some (vi w9), some (vi f9), some (vi i), some (vi 0)], [], (I, H), 0, 0)
              refine WP.go 4 (Exists.intro (i + 1) (And.intro (wrp_a (by omega) (by omega)) (?_)))
              show WP (Call d) 77 P X (6, [some (vr (some 4) 5), some (vi p), some (vi e), some (vi w9), some (vi (-1)), some (vi (i + 1)), some (vi 0)], [], (I, H), 0, 0)
              refine WP.wk (L := [some (vr (some 4) 5), some (vi p), some (vi e), some (vi w9), some (vi (-1)), some (vi (i + 1)), none]) (And.intro rfl (And.intro rfl (And.intro rfl (And.intro rfl (And.intro rfl (And.intro rfl (And.intro trivial (trivial)))))))) ?_
              show WP (Call d) 77 P X (6, [some (vr (some 4) 5), some (vi p), some (vi e), some (vi w9), some (vi (-1)), some (vi (i + 1)), none], [], (I, H), 0, 0)
              exact ih6 w9 (-1) (i + 1) (by omega) (by omega) (iv1.trans (by rw [wAt_s (by omega), if_neg b14, if_neg b28, if_neg (by omega)]))
            ·
              show WP (Call d) 77 P X (34, [some (vr (some 4) 5), some (vi p), some (vi e), some (vi w9), some (vi f9), some (vi i), none], [], (I, H), 0, 0)
              refine WP.go 8 (And.intro (And.intro (And.intro (show 0 ≤ i from by omega) (show i < slen 0 from by show i < 147; omega)) (And.intro (Nat.le_of_ble_eq_true rfl) (Nat.le_of_ble_eq_true rfl))) (Exists.intro (p + f9) (And.intro (wrp_a (by omega) (by omega)) (And.intro (And.intro (Nat.le_of_ble_eq_true rfl) (Nat.le_of_ble_eq_true rfl)) (And.intro rfl (?_))))))
              show Call d 66 [vr (some 4) 5, vi (p + f9)] (I, H) _ _
              refine s_6_at (by omega) hS hsz (by omega) ?_
              show WP (Call d) 77 P X (42, [some (vr (some 4) 5), some (vi p), some (vi e), some (vi w9), some (vi f9), some (vi i), none], [vi (I 5 (p + f9)), vi (sch 0 i)], (I, H), 0, 0)
              refine WP.go 1 (And.intro (fun (b42 : ¬ sch 0 i = I 5 (p + f9)) => ?_) (fun (b42 : sch 0 i = I 5 (p + f9)) => ?_))
              ·
                show WP (Call d) 77 P X (45, [some (vr (some 4) 5), some (vi p), some (vi e), some (vi w9), some (vi f9), some (vi i), none], [], (I, H), 0, 0)
                refine WP.go 4 (And.intro (fun (b48 : 0 = 0) => ?_) (fun (b48 : ¬ 0 = 0) => (absurd b48 (by omega))))
                show WP (Call d) 77 P X (53, [some (vr (some 4) 5), some (vi p), some (vi e), some (vi w9), some (vi f9), some (vi i), some (vi 0)], [], (I, H), 0, 0)
                refine WP.go 4 (Exists.intro (i + 1) (And.intro (wrp_a (by omega) (by omega)) (?_)))
                show WP (Call d) 77 P X (6, [some (vr (some 4) 5), some (vi p), some (vi e), some (vi w9), some (vi (-1)), some (vi (i + 1)), some (vi 0)], [], (I, H), 0, 0)
                refine WP.wk (L := [some (vr (some 4) 5), some (vi p), some (vi e), some (vi w9), some (vi (-1)), some (vi (i + 1)), none]) (And.intro rfl (And.intro rfl (And.intro rfl (And.intro rfl (And.intro rfl (And.intro rfl (And.intro trivial (trivial)))))))) ?_
                show WP (Call d) 77 P X (6, [some (vr (some 4) 5), some (vi p), some (vi e), some (vi w9), some (vi (-1)), some (vi (i + 1)), none], [], (I, H), 0, 0)
                exact ih6 w9 (-1) (i + 1) (by omega) (by omega) (iv1.trans (by rw [wAt_s (by omega), if_neg b14, if_neg b28, if_neg (fun q => b42 q.2)]))
              ·
                show WP (Call d) 77 P X (43, [some (vr (some 4) 5), some (vi p), some (vi e), some (vi w9), some (vi f9), some (vi i), none], [], (I, H), 0, 0)
                refine WP.go 5 (And.intro (fun (b48 : 1 = 0) => (absurd b48 (by omega))) (fun (b48 : ¬ 1 = 0) => ?_))
                show WP (Call d) 77 P X (49, [some (vr (some 4) 5), some (vi p), some (vi e), some (vi w9), some (vi f9), some (vi i), some (vi 1)], [], (I, H), 0, 0)
                refine WP.go 7 (Exists.intro (f9 + 1) (And.intro (wrp_a (by omega) (by omega)) (Exists.intro (i + 1) (And.intro (wrp_a (by omega) (by omega)) (?_)))))
                show WP (Call d) 77 P X (6, [some (vr (some 4) 5), some (vi p), some (vi e), some (vi w9), some (vi (f9 + 1)), some (vi (i + 1)), some (vi 1)], [], (I, H), 0, 0)
                refine WP.wk (L := [some (vr (some 4) 5), some (vi p), some (vi e), some (vi w9), some (vi (f9 + 1)), some (vi (i + 1)), none]) (And.intro rfl (And.intro rfl (And.intro rfl (And.intro rfl (And.intro rfl (And.intro rfl (And.intro trivial (trivial)))))))) ?_
                show WP (Call d) 77 P X (6, [some (vr (some 4) 5), some (vi p), some (vi e), some (vi w9), some (vi (f9 + 1)), some (vi (i + 1)), none], [], (I, H), 0, 0)
                exact ih6 w9 (f9 + 1) (i + 1) (by omega) (by omega) (iv1.trans (by rw [wAt_s (by omega), if_neg b14, if_neg b28, if_pos ⟨by omega, b42⟩]))
        ·
          show WP (Call d) 77 P X (15, [some (vr (some 4) 5), some (vi p), some (vi e), some (vi w9), some (vi f9), some (vi i), none], [], (I, H), 0, 0)
          refine WP.go 5 (Exists.intro (e - p) (And.intro (wrp_a (by omega) (by omega)) (And.intro (fun (b19 : ¬ f9 = e - p) => ?_) (fun (b19 : f9 = e - p) => ?_))))
          ·
            show WP (Call d) 77 P X (22, [some (vr (some 4) 5), some (vi p), some (vi e), some (vi w9), some (vi f9), some (vi i), none], [], (I, H), 0, 0)
            refine WP.go 6 (Exists.intro (w9 + 1) (And.intro (wrp_a (by omega) (by omega)) (Exists.intro (i + 1) (And.intro (wrp_a (by omega) (by omega)) (?_)))))
            show WP (Call d) 77 P X (6, [some (vr (some 4) 5), some (vi p), some (vi e), some (vi (w9 + 1)), some (vi 0), some (vi (i + 1)), none], [], (I, H), 0, 0)
            exact ih6 (w9 + 1) 0 (i + 1) (by omega) (by omega) (iv1.trans (by rw [wAt_s (by omega), if_pos b14, if_neg b19]))
          ·
            show WP (Call d) 77 P X (20, [some (vr (some 4) 5), some (vi p), some (vi e), some (vi w9), some (vi f9), some (vi i), none], [], (I, H), 0, 0)
            refine WP.go 2 (And.intro (And.intro (Nat.le_of_ble_eq_true rfl) (Nat.le_of_ble_eq_true rfl)) (And.intro trivial (?_)))
            show P (some (vi w9)) (I, H)
            exact fin_i (iv1.trans (by rw [wAt_s (by omega), if_pos b14, if_pos b19])).symm h
  exact lp6 ((147 - 0 : Int).toNat + 1) 1000 0 0 (by omega) (by omega) rfl

theorem bhd_dig {tb : Int → Int} {n p : Int} (h0 : 0 ≤ p) (h : p < n) (q : isD (tb p)) : ∀ i, p ≤ i → i < bhd tb n p → isD (tb i) := fun i q0 q1 => by
  rw [bhd_d q] at q1
  rcases Int.lt_or_eq_of_le q0 with z | z
  · exact Classical.not_not.mp ((fx_r (q := fun k => ¬ isD (tb k)) (show p + 1 ≤ n by omega) (by omega)).2.2.2 i (by omega) q1)
  · exact z ▸ q
theorem bhd_let {tb : Int → Int} {n p : Int} (h0 : 0 ≤ p) (h : p < n) (q : isL (tb p)) : ∀ i, p ≤ i → i < bhd tb n p → isL (tb i) := fun i q0 q1 => by
  rw [bhd_l q] at q1
  rcases Int.lt_or_eq_of_le q0 with z | z
  · exact Classical.not_not.mp ((fx_r (q := fun k => ¬ isL (tb k)) (show p + 1 ≤ n by omega) (by omega)).2.2.2 i (by omega) q1)
  · exact z ▸ q
theorem s_7_thingAt {d : Nat} {P : Option qV → qH → Prop} {X : Nat → qH → Prop} {I : qI} {H : qS} (hd : 3 ≤ d) {n p e : Int} (hS : Shp H) (hsz : I 4 1 = n) (hnn : 0 ≤ n ∧ n ≤ 400) (hby : ∀ j, 0 ≤ j → j < n → 0 ≤ I 5 j ∧ I 5 j ≤ 255) (hp : 0 ≤ p ∧ p < n) (he : e = bhd (I 5) n p) (h : P (some (vi (th (I 5) n p))) (I, H)) :
    Call d 75 [vr (some 4) 5, vi p, vi e] (I, H) P X := by
  obtain ⟨d, rfl⟩ : ∃ e, d = e + 1 := ⟨d - 1, by omega⟩
  have m1 := bhd_bd (tb := I 5) hp.1 hp.2
  have m2 := hby p hp.1 hp.2
  show WP (Call d) 75 P X (0, [some (vr (some 4) 5), some (vi p), some (vi e), none], [], (I, H), 0, 0)
  refine WP.go 3 (And.intro (And.intro (Nat.le_of_ble_eq_true rfl) (Nat.le_of_ble_eq_true rfl)) (And.intro rfl (?_)))
  show Call d 66 [vr (some 4) 5, vi p] (I, H) _ _
  refine s_6_at (by omega) hS hsz (by omega) ?_
  show WP (Call d) 75 P X (3, [some (vr (some 4) 5), some (vi p), some (vi e), none], [vi (I 5 p)], (I, H), 0, 0)
  refine WP.go 3 (And.intro (And.intro (Nat.le_of_ble_eq_true rfl) (Nat.le_of_ble_eq_true rfl)) (And.intro rfl (?_)))
  show Call d 72 [vi (I 5 p)] (I, H) _ _
  refine s_7_isLetter (by omega)  ?_
  show WP (Call d) 75 P X (6, [some (vr (some 4) 5), some (vi p), some (vi e), some (vi (I 5 p))], [vi (bz (isL (I 5 p)))], (I, H), 0, 0)
  refine WP.go 1 (And.intro (fun (b6 : bz (isL (I 5 p)) = 0) => ?_) (fun (b6 : ¬ bz (isL (I 5 p)) = 0) => ?_))
  ·
    show WP (Call d) 75 P X (12, [some (vr (some 4) 5), some (vi p), some (vi e), some (vi (I 5 p))], [], (I, H), 0, 0)
    have z6 := bz_e0.mp b6
    refine WP.go 2 (And.intro (And.intro (Nat.le_of_ble_eq_true rfl) (Nat.le_of_ble_eq_true rfl)) (And.intro rfl (?_)))
    show Call d 73 [vi (I 5 p)] (I, H) _ _
    refine s_7_isDigit (by omega)  ?_
    show WP (Call d) 75 P X (14, [some (vr (some 4) 5), some (vi p), some (vi e), some (vi (I 5 p))], [vi (bz (isD (I 5 p)))], (I, H), 0, 0)
    refine WP.go 1 (And.intro (fun (b14 : bz (isD (I 5 p)) = 0) => ?_) (fun (b14 : ¬ bz (isD (I 5 p)) = 0) => ?_))
    ·
      show WP (Call d) 75 P X (20, [some (vr (some 4) 5), some (vi p), some (vi e), some (vi (I 5 p))], [], (I, H), 0, 0)
      have z14 := bz_e0.mp b14
      refine WP.go 4 (Exists.intro (2000 + (I 5 p)) (And.intro (wrp_a (by omega) (by omega)) (And.intro (And.intro (Nat.le_of_ble_eq_true rfl) (Nat.le_of_ble_eq_true rfl)) (And.intro trivial (?_)))))
      show P (some (vi (2000 + (I 5 p)))) (I, H)
      exact fin_i (th_s (by omega) (bz_e0.mp b6) (bz_e0.mp b14)).symm h
    ·
      show WP (Call d) 75 P X (15, [some (vr (some 4) 5), some (vi p), some (vi e), some (vi (I 5 p))], [], (I, H), 0, 0)
      have z14 := bz_e1.mp b14
      refine WP.go 4 (And.intro (And.intro (Nat.le_of_ble_eq_true rfl) (Nat.le_of_ble_eq_true rfl)) (And.intro rfl (?_)))
      show Call d 76 [vr (some 4) 5, vi p, vi e] (I, H) _ _
      refine s_7_numberAt (by omega) hS hsz hnn (by omega) (fun i q0 q1 => bhd_dig hp.1 hp.2 (bz_e1.mp b14) i q0 (by omega)) ?_
      show WP (Call d) 75 P X (19, [some (vr (some 4) 5), some (vi p), some (vi e), some (vi (I 5 p))], [vi (if 3 < e - p then 3001 else nvI (I 5) p e)], (I, H), 0, 0)
      refine WP.go 1 (And.intro (And.intro (Nat.le_of_ble_eq_true rfl) (Nat.le_of_ble_eq_true rfl)) (And.intro trivial (?_)))
      show P (some (vi (if 3 < e - p then 3001 else nvI (I 5) p e))) (I, H)
      exact fin_i (by rw [th_d (by omega) (bz_e1.mp b14), he]) h
  ·
    show WP (Call d) 75 P X (7, [some (vr (some 4) 5), some (vi p), some (vi e), some (vi (I 5 p))], [], (I, H), 0, 0)
    have z6 := bz_e1.mp b6
    refine WP.go 4 (And.intro (And.intro (Nat.le_of_ble_eq_true rfl) (Nat.le_of_ble_eq_true rfl)) (And.intro rfl (?_)))
    show Call d 77 [vr (some 4) 5, vi p, vi e] (I, H) _ _
    refine s_7_wordAt (by omega) hS hsz hnn (by omega) ?_
    show WP (Call d) 75 P X (11, [some (vr (some 4) 5), some (vi p), some (vi e), some (vi (I 5 p))], [vi (wdI (I 5) p e)], (I, H), 0, 0)
    refine WP.go 1 (And.intro (And.intro (Nat.le_of_ble_eq_true rfl) (Nat.le_of_ble_eq_true rfl)) (And.intro trivial (?_)))
    show P (some (vi (wdI (I 5) p e))) (I, H)
    exact fin_i (by rw [th_l (by omega) (bz_e1.mp b6), he]) h

