theorem s_12_lightOf {d : Nat} {P : Option qV → qH → Prop} {X : Nat → qH → Prop} {I : qI} {H : qS} {μ : Int → Int} {tl tb : Int} (hd : 4 ≤ d) {w a b : Int} (hS : Shp H) (hM : I 91 = μ) (hV : IM μ) (hA : ∀ y, 0 ≤ y → y < 100 → 0 ≤ I 96 y ∧ I 96 y < 96) (h29 : I 90 29 = tl) (h30 : I 90 30 = tb) (htb : 0 ≤ tb ∧ tb ≤ 29) (hw : 0 ≤ w ∧ w < μ 2) (ha : 0 ≤ a ∧ a ≤ b ∧ b < 100) (h : P (some (vi (LGW μ (I 96) (HTC μ tl tb) w a b))) (I, H)) :
    Call d 219 [vr (some 90) 10, vi w, vi a, vi b] (I, H) P X := by
  obtain ⟨d, rfl⟩ : ∃ e, d = e + 1 := ⟨d - 1, by omega⟩
  show WP (Call d) 219 P X (0, [some (vr (some 90) 10), some (vi w), some (vi a), some (vi b), none, none, none], [], (I, H), 0, 0)
  refine WP.go 4 ?_
  show WP (Call d) 219 P X (4, [some (vr (some 90) 10), some (vi w), some (vi a), some (vi b), some (vi 0), some (vi a), none], [], (I, H), 0, 0)
  have lp4 : ∀ (n9 : Nat) (s9 : Int) (y : Int) (hm : b + 1 - y < (n9 : Int)) (iv0 : a ≤ y ∧ y ≤ b + 1) (iv1 : s9 = sI (fun y => LGT μ (I 96) (HTC μ tl tb) w y) a y), WP (Call d) 219 P X (4, [some (vr (some 90) 10), some (vi w), some (vi a), some (vi b), some (vi s9), some (vi y), none], [], (I, H), 0, 0) := by
    intro n9
    induction n9 with
    | zero => intro s9 y hm iv0 iv1; exact absurd hm (by omega)
    | succ n9 ih4 =>
      intro s9 y hm iv0 iv1
      have m1 := LGWs_bd (μ := μ) (A := I 96) (T := HTC μ tl tb) (w := w) iv0.1
      refine WP.go 3 (And.intro (fun (b6 : b < y) => ?_) (fun (b6 : ¬ b < y) => ?_))
      ·
        show WP (Call d) 219 P X (28, [some (vr (some 90) 10), some (vi w), some (vi a), some (vi b), some (vi s9), some (vi y), none], [], (I, H), 0, 0)
        refine WP.go 2 (And.intro (And.intro (Nat.le_of_ble_eq_true rfl) (Nat.le_of_ble_eq_true rfl)) (And.intro trivial (?_)))
        show P (some (vi s9)) (I, H)
        exact fin_i (by rw [iv1, show y = b + 1 by omega]; rfl) h
      ·
        show WP (Call d) 219 P X (7, [some (vr (some 90) 10), some (vi w), some (vi a), some (vi b), some (vi s9), some (vi y), none], [], (I, H), 0, 0)
        refine WP.go 2 ?_
        show WP (Call d) 219 P X (9, [some (vr (some 90) 10), some (vi w), some (vi a), some (vi b), some (vi s9), some (vi y), some (vi 0)], [], (I, H), 0, 0)
        have lp9 : ∀ (n9 : Nat) (t9 : Int) (k : Int) (hm : 13 - k < (n9 : Int)) (jv0 : 0 ≤ k ∧ k ≤ 13) (jv1 : t9 = s9 + sI (fun hr => bz (LITp μ (I 96) (HTC μ tl tb) w hr y)) 0 k), WP (Call d) 219 P X (9, [some (vr (some 90) 10), some (vi w), some (vi a), some (vi b), some (vi t9), some (vi y), some (vi k)], [], (I, H), 0, 0) := by
          intro n9
          induction n9 with
          | zero => intro t9 k hm jv0 jv1; exact absurd hm (by omega)
          | succ n9 ih9 =>
            intro t9 k hm jv0 jv1
            have m2 := LGTs_bd (μ := μ) (A := I 96) (T := HTC μ tl tb) (w := w) (y := y) jv0.1
            refine WP.go 3 (And.intro (fun (b11 : 12 < k) => ?_) (fun (b11 : ¬ 12 < k) => ?_))
            ·
              show WP (Call d) 219 P X (26, [some (vr (some 90) 10), some (vi w), some (vi a), some (vi b), some (vi t9), some (vi y), some (vi k)], [], (I, H), 0, 0)
              refine WP.go 2 (Exists.intro (y + 1) (And.intro (wrp_a (by omega) (by omega)) (?_)))
              show WP (Call d) 219 P X (4, [some (vr (some 90) 10), some (vi w), some (vi a), some (vi b), some (vi t9), some (vi (y + 1)), some (vi k)], [], (I, H), 0, 0)
              refine WP.wk (L := [some (vr (some 90) 10), some (vi w), some (vi a), some (vi b), some (vi t9), some (vi (y + 1)), none]) (And.intro rfl (And.intro rfl (And.intro rfl (And.intro rfl (And.intro rfl (And.intro rfl (And.intro trivial (trivial)))))))) ?_
              show WP (Call d) 219 P X (4, [some (vr (some 90) 10), some (vi w), some (vi a), some (vi b), some (vi t9), some (vi (y + 1)), none], [], (I, H), 0, 0)
              exact ih4 t9 (y + 1) (by omega) (by omega) (by rw [sI_succ (by omega), jv1, ← iv1, show k = 13 by omega]; rfl)
            ·
              show WP (Call d) 219 P X (12, [some (vr (some 90) 10), some (vi w), some (vi a), some (vi b), some (vi t9), some (vi y), some (vi k)], [], (I, H), 0, 0)
              refine WP.go 6 (And.intro (And.intro (Nat.le_of_ble_eq_true rfl) (Nat.le_of_ble_eq_true rfl)) (And.intro rfl (?_)))
              show Call d 218 [vr (some 90) 10, vi w, vi k, vi y] (I, H) _ _
              refine s_12_isLit (by omega) hS hM hV hA h29 h30 htb (by omega) (by omega) (by omega) ?_
              show WP (Call d) 219 P X (18, [some (vr (some 90) 10), some (vi w), some (vi a), some (vi b), some (vi t9), some (vi y), some (vi k)], [vi (bz (LITp μ (I 96) (HTC μ tl tb) w k y)), vi t9], (I, H), 0, 0)
              refine WP.go 1 (And.intro (fun (b18 : bz (LITp μ (I 96) (HTC μ tl tb) w k y) = 0) => ?_) (fun (b18 : ¬ bz (LITp μ (I 96) (HTC μ tl tb) w k y) = 0) => ?_))
              ·
                show WP (Call d) 219 P X (21, [some (vr (some 90) 10), some (vi w), some (vi a), some (vi b), some (vi t9), some (vi y), some (vi k)], [vi t9], (I, H), 0, 0)
                have z18 := bz_e0.mp b18
                refine WP.go 5 (Exists.intro (t9 + 0) (And.intro (wrp_a (by omega) (by omega)) (Exists.intro (k + 1) (And.intro (wrp_a (by omega) (by omega)) (?_)))))
                show WP (Call d) 219 P X (9, [some (vr (some 90) 10), some (vi w), some (vi a), some (vi b), some (vi (t9 + 0)), some (vi y), some (vi (k + 1))], [], (I, H), 0, 0)
                exact ih9 (t9 + 0) (k + 1) (by omega) (by omega) (by rw [sI_succ (by omega), b18]; omega)
              ·
                show WP (Call d) 219 P X (19, [some (vr (some 90) 10), some (vi w), some (vi a), some (vi b), some (vi t9), some (vi y), some (vi k)], [vi t9], (I, H), 0, 0)
                have z18 := bz_e1.mp b18
                refine WP.go 6 (Exists.intro (t9 + 1) (And.intro (wrp_a (by omega) (by omega)) (Exists.intro (k + 1) (And.intro (wrp_a (by omega) (by omega)) (?_)))))
                show WP (Call d) 219 P X (9, [some (vr (some 90) 10), some (vi w), some (vi a), some (vi b), some (vi (t9 + 1)), some (vi y), some (vi (k + 1))], [], (I, H), 0, 0)
                exact ih9 (t9 + 1) (k + 1) (by omega) (by omega) (by rw [sI_succ (by omega), bz_1 (bz_e1.mp b18)]; omega)
        exact lp9 ((13 - 0 : Int).toNat + 1) s9 0 (by omega) (by omega) (by rw [sI_nil (by omega)]; omega)
  exact lp4 ((b + 1 - a : Int).toNat + 1) 0 a (by omega) (by omega) (sI_nil (by omega)).symm

theorem s_12_brightOf {d : Nat} {P : Option qV → qH → Prop} {X : Nat → qH → Prop} {I : qI} {H : qS} {μ : Int → Int} {tl tb : Int} (hd : 5 ≤ d) {h9 a b : Int} (hS : Shp H) (hM : I 91 = μ) (hV : IM μ) (hA : ∀ y, 0 ≤ y → y < 100 → 0 ≤ I 96 y ∧ I 96 y < 96) (h29 : I 90 29 = tl) (h30 : I 90 30 = tb) (htb : 0 ≤ tb ∧ tb ≤ 29) (ha : 0 ≤ a ∧ a ≤ b ∧ b < 100) (h : P (some (vi (BRT μ (I 96) (HTC μ tl tb) h9 a b))) (I, H)) :
    Call d 222 [vr (some 90) 10, vi h9, vi a, vi b] (I, H) P X := by
  obtain ⟨d, rfl⟩ : ∃ e, d = e + 1 := ⟨d - 1, by omega⟩
  have hl91 := hS.l91
  have v1 := hV.n2
  show WP (Call d) 222 P X (0, [some (vr (some 90) 10), some (vi h9), some (vi a), some (vi b), none, none], [], (I, H), 0, 0)
  refine WP.go 4 ?_
  show WP (Call d) 222 P X (4, [some (vr (some 90) 10), some (vi h9), some (vi a), some (vi b), some (vi 0), some (vi 0)], [], (I, H), 0, 0)
  have lp4 : ∀ (n9 : Nat) (s9 : Int) (w : Int) (hm : μ 2 - w < (n9 : Int)) (iv0 : 0 ≤ w ∧ w ≤ μ 2) (iv1 : s9 = sI (fun w => if μ (140 + 3 * w) = h9 then LGW μ (I 96) (HTC μ tl tb) w a b else 0) 0 w), WP (Call d) 222 P X (4, [some (vr (some 90) 10), some (vi h9), some (vi a), some (vi b), some (vi s9), some (vi w)], [], (I, H), 0, 0) := by
    intro n9
    induction n9 with
    | zero => intro s9 w hm iv0 iv1; exact absurd hm (by omega)
    | succ n9 ih4 =>
      intro s9 w hm iv0 iv1
      have m1 := BRTs_bd (μ := μ) (A := I 96) (T := HTC μ tl tb) (h := h9) (a := a) (b := b) iv0.1 (by omega) ha
      have m2 := LGW_bd (a := a) (b := b) (by omega) μ (I 96) (HTC μ tl tb) w
      refine WP.go 5 (And.intro rfl (Exists.intro 91 (And.intro hS.r90_1 (And.intro (And.intro rfl (And.intro (show 0 ≤ 2 from by omega) (show 2 < H.2.1 91 from by omega))) (?_)))))
      refine rw_i (Q := fun x9 => WP (Call d) 222 P X (9, [some (vr (some 90) 10), some (vi h9), some (vi a), some (vi b), some (vi s9), some (vi w)], [vi x9, vi w], (I, H), 0, 0)) (congrFun hM _) ?_
      show WP (Call d) 222 P X (9, [some (vr (some 90) 10), some (vi h9), some (vi a), some (vi b), some (vi s9), some (vi w)], [vi (μ 2), vi w], (I, H), 0, 0)
      refine WP.go 1 (And.intro (fun (b9 : ¬ w < μ 2) => ?_) (fun (b9 : w < μ 2) => ?_))
      ·
        show WP (Call d) 222 P X (28, [some (vr (some 90) 10), some (vi h9), some (vi a), some (vi b), some (vi s9), some (vi w)], [], (I, H), 0, 0)
        refine WP.go 2 (And.intro (And.intro (Nat.le_of_ble_eq_true rfl) (Nat.le_of_ble_eq_true rfl)) (And.intro trivial (?_)))
        show P (some (vi s9)) (I, H)
        exact fin_i (by rw [iv1, show w = μ 2 by omega]; rfl) h
      ·
        show WP (Call d) 222 P X (10, [some (vr (some 90) 10), some (vi h9), some (vi a), some (vi b), some (vi s9), some (vi w)], [], (I, H), 0, 0)
        refine WP.go 5 (And.intro (And.intro (Nat.le_of_ble_eq_true rfl) (Nat.le_of_ble_eq_true rfl)) (And.intro rfl (?_)))
        show Call d 184 [vr (some 90) 10, vi w, vi 0] (I, H) _ _
        refine s_12_ofWindow_0 (by omega) hS hM (by omega) ?_
        show WP (Call d) 222 P X (15, [some (vr (some 90) 10), some (vi h9), some (vi a), some (vi b), some (vi s9), some (vi w)], [vi (μ (140 + 3 * w)), vi s9], (I, H), 0, 0)
        refine WP.go 2 (And.intro (fun (b16 : ¬ μ (140 + 3 * w) = h9) => ?_) (fun (b16 : μ (140 + 3 * w) = h9) => ?_))
        ·
          show WP (Call d) 222 P X (23, [some (vr (some 90) 10), some (vi h9), some (vi a), some (vi b), some (vi s9), some (vi w)], [vi s9], (I, H), 0, 0)
          refine WP.go 5 (Exists.intro (s9 + 0) (And.intro (wrp_a (by omega) (by omega)) (Exists.intro (w + 1) (And.intro (wrp_a (by omega) (by omega)) (?_)))))
          show WP (Call d) 222 P X (4, [some (vr (some 90) 10), some (vi h9), some (vi a), some (vi b), some (vi (s9 + 0)), some (vi (w + 1))], [], (I, H), 0, 0)
          exact ih4 (s9 + 0) (w + 1) (by omega) (by omega) (by rw [sI_succ (by omega), ← iv1, if_neg b16])
        ·
          show WP (Call d) 222 P X (17, [some (vr (some 90) 10), some (vi h9), some (vi a), some (vi b), some (vi s9), some (vi w)], [vi s9], (I, H), 0, 0)
          refine WP.go 5 (And.intro (And.intro (Nat.le_of_ble_eq_true rfl) (Nat.le_of_ble_eq_true rfl)) (And.intro rfl (?_)))
          show Call d 219 [vr (some 90) 10, vi w, vi a, vi b] (I, H) _ _
          refine s_12_lightOf (by omega) hS hM hV hA h29 h30 htb (by omega) (by omega) ?_
          show WP (Call d) 222 P X (22, [some (vr (some 90) 10), some (vi h9), some (vi a), some (vi b), some (vi s9), some (vi w)], [vi (LGW μ (I 96) (HTC μ tl tb) w a b), vi s9], (I, H), 0, 0)
          refine WP.go 5 (Exists.intro (s9 + (LGW μ (I 96) (HTC μ tl tb) w a b)) (And.intro (wrp_a (by omega) (by omega)) (Exists.intro (w + 1) (And.intro (wrp_a (by omega) (by omega)) (?_)))))
          show WP (Call d) 222 P X (4, [some (vr (some 90) 10), some (vi h9), some (vi a), some (vi b), some (vi (s9 + (LGW μ (I 96) (HTC μ tl tb) w a b))), some (vi (w + 1))], [], (I, H), 0, 0)
          exact ih4 (s9 + (LGW μ (I 96) (HTC μ tl tb) w a b)) (w + 1) (by omega) (by omega) (by rw [sI_succ (by omega), ← iv1, if_pos b16])
  exact lp4 ((μ 2 - 0 : Int).toNat + 1) 0 0 (by omega) (by omega) (sI_nil (by omega)).symm

theorem s_12_hasNoon {d : Nat} {P : Option qV → qH → Prop} {X : Nat → qH → Prop} {I : qI} {H : qS} {μ : Int → Int} {tl tb : Int} (hd : 4 ≤ d) {h9 y : Int} (hS : Shp H) (hM : I 91 = μ) (hV : IM μ) (hA : ∀ y, 0 ≤ y → y < 100 → 0 ≤ I 96 y ∧ I 96 y < 96) (h29 : I 90 29 = tl) (h30 : I 90 30 = tb) (htb : 0 ≤ tb ∧ tb ≤ 29) (hy : 0 ≤ y ∧ y < 100) (h : P (some (vi (bz (NOONp μ (I 96) (HTC μ tl tb) h9 y)))) (I, H)) :
    Call d 224 [vr (some 90) 10, vi h9, vi y] (I, H) P X := by
  obtain ⟨d, rfl⟩ : ∃ e, d = e + 1 := ⟨d - 1, by omega⟩
  have hl91 := hS.l91
  have v1 := hV.n2
  show WP (Call d) 224 P X (0, [some (vr (some 90) 10), some (vi h9), some (vi y), none], [], (I, H), 0, 0)
  refine WP.go 2 ?_
  show WP (Call d) 224 P X (2, [some (vr (some 90) 10), some (vi h9), some (vi y), some (vi 0)], [], (I, H), 0, 0)
  have lp2 : ∀ (n9 : Nat) (w : Int) (hm : μ 2 - w < (n9 : Int)) (iv0 : 0 ≤ w ∧ w ≤ μ 2) (iv1 : ∀ i, 0 ≤ i → i < w → ¬ (μ (140 + 3 * i) = h9 ∧ LITp μ (I 96) (HTC μ tl tb) i 6 y)), WP (Call d) 224 P X (2, [some (vr (some 90) 10), some (vi h9), some (vi y), some (vi w)], [], (I, H), 0, 0) := by
    intro n9
    induction n9 with
    | zero => intro w hm iv0 iv1; exact absurd hm (by omega)
    | succ n9 ih2 =>
      intro w hm iv0 iv1
      refine WP.go 5 (And.intro rfl (Exists.intro 91 (And.intro hS.r90_1 (And.intro (And.intro rfl (And.intro (show 0 ≤ 2 from by omega) (show 2 < H.2.1 91 from by omega))) (?_)))))
      refine rw_i (Q := fun x9 => WP (Call d) 224 P X (7, [some (vr (some 90) 10), some (vi h9), some (vi y), some (vi w)], [vi x9, vi w], (I, H), 0, 0)) (congrFun hM _) ?_
      show WP (Call d) 224 P X (7, [some (vr (some 90) 10), some (vi h9), some (vi y), some (vi w)], [vi (μ 2), vi w], (I, H), 0, 0)
      refine WP.go 1 (And.intro (fun (b7 : ¬ w < μ 2) => ?_) (fun (b7 : w < μ 2) => ?_))
      ·
        show WP (Call d) 224 P X (24, [some (vr (some 90) 10), some (vi h9), some (vi y), some (vi w)], [], (I, H), 0, 0)
        refine WP.go 2 (And.intro (And.intro (Nat.le_of_ble_eq_true rfl) (Nat.le_of_ble_eq_true rfl)) (And.intro (Or.inl rfl) (?_)))
        show P (some (vi 0)) (I, H)
        exact fin_i (zero_bz (fun ⟨i, q1, q2, q3⟩ => iv1 i q1 (by omega) q3)) h
      ·
        show WP (Call d) 224 P X (8, [some (vr (some 90) 10), some (vi h9), some (vi y), some (vi w)], [], (I, H), 0, 0)
        refine WP.go 4 (And.intro (And.intro (Nat.le_of_ble_eq_true rfl) (Nat.le_of_ble_eq_true rfl)) (And.intro rfl (?_)))
        show Call d 184 [vr (some 90) 10, vi w, vi 0] (I, H) _ _
        refine s_12_ofWindow_0 (by omega) hS hM (by omega) ?_
        show WP (Call d) 224 P X (12, [some (vr (some 90) 10), some (vi h9), some (vi y), some (vi w)], [vi (μ (140 + 3 * w))], (I, H), 0, 0)
        refine WP.go 2 (And.intro (fun (b13 : ¬ μ (140 + 3 * w) = h9) => ?_) (fun (b13 : μ (140 + 3 * w) = h9) => ?_))
        ·
          show WP (Call d) 224 P X (22, [some (vr (some 90) 10), some (vi h9), some (vi y), some (vi w)], [], (I, H), 0, 0)
          refine WP.go 2 (Exists.intro (w + 1) (And.intro (wrp_a (by omega) (by omega)) (?_)))
          show WP (Call d) 224 P X (2, [some (vr (some 90) 10), some (vi h9), some (vi y), some (vi (w + 1))], [], (I, H), 0, 0)
          exact ih2 (w + 1) (by omega) (by omega) (fun i q1 q2 => by rcases Int.lt_or_eq_of_le (show i ≤ w by omega) with z | z; exact iv1 i q1 z; exact fun q => b13 (z ▸ q.1))
        ·
          show WP (Call d) 224 P X (14, [some (vr (some 90) 10), some (vi h9), some (vi y), some (vi w)], [], (I, H), 0, 0)
          refine WP.go 5 (And.intro (And.intro (Nat.le_of_ble_eq_true rfl) (Nat.le_of_ble_eq_true rfl)) (And.intro rfl (?_)))
          show Call d 218 [vr (some 90) 10, vi w, vi 6, vi y] (I, H) _ _
          refine s_12_isLit (by omega) hS hM hV hA h29 h30 htb (by omega) (by omega) (by omega) ?_
          show WP (Call d) 224 P X (19, [some (vr (some 90) 10), some (vi h9), some (vi y), some (vi w)], [vi (bz (LITp μ (I 96) (HTC μ tl tb) w 6 y))], (I, H), 0, 0)
          refine WP.go 1 (And.intro (fun (b19 : bz (LITp μ (I 96) (HTC μ tl tb) w 6 y) = 0) => ?_) (fun (b19 : ¬ bz (LITp μ (I 96) (HTC μ tl tb) w 6 y) = 0) => ?_))
          ·
            show WP (Call d) 224 P X (22, [some (vr (some 90) 10), some (vi h9), some (vi y), some (vi w)], [], (I, H), 0, 0)
            have z19 := bz_e0.mp b19
            refine WP.go 2 (Exists.intro (w + 1) (And.intro (wrp_a (by omega) (by omega)) (?_)))
            show WP (Call d) 224 P X (2, [some (vr (some 90) 10), some (vi h9), some (vi y), some (vi (w + 1))], [], (I, H), 0, 0)
            exact ih2 (w + 1) (by omega) (by omega) (fun i q1 q2 => by rcases Int.lt_or_eq_of_le (show i ≤ w by omega) with z | z; exact iv1 i q1 z; exact fun q => bz_e0.mp b19 (z ▸ q.2))
          ·
            show WP (Call d) 224 P X (20, [some (vr (some 90) 10), some (vi h9), some (vi y), some (vi w)], [], (I, H), 0, 0)
            have z19 := bz_e1.mp b19
            refine WP.go 2 (And.intro (And.intro (Nat.le_of_ble_eq_true rfl) (Nat.le_of_ble_eq_true rfl)) (And.intro (Or.inr rfl) (?_)))
            show P (some (vi 1)) (I, H)
            exact fin_i (one_bz ⟨w, iv0.1, by omega, b13, bz_e1.mp b19⟩) h
  exact lp2 ((μ 2 - 0 : Int).toNat + 1) 0 (by omega) (by omega) (fun i q1 q2 => by omega)

theorem s_12_isInWind {d : Nat} {P : Option qV → qH → Prop} {X : Nat → qH → Prop} {I : qI} {H : qS} {μ : Int → Int} (hd : 3 ≤ d) {h9 y : Int} (hS : Shp H) (hM : I 91 = μ) (hV : IM μ) (hA : ∀ y, 0 ≤ y → y < 100 → 0 ≤ I 96 y ∧ I 96 y < 96) (hy : 0 ≤ y ∧ y < 100) (hh : 0 ≤ h9 ∧ h9 < μ 1) (h : P (some (vi (bz (WDYp μ (I 96) (HTC μ (-1) 0) h9 y)))) (I, H)) :
    Call d 225 [vr (some 90) 10, vi h9, vi y] (I, H) P X := by
  obtain ⟨d, rfl⟩ : ∃ e, d = e + 1 := ⟨d - 1, by omega⟩
  have hl91 := hS.l91
  have v1 := hV.gu
  have v2 := hV.hc h9 hh.1 hh.2
  have v3 := hV.hh h9 hh.1 hh.2
  have v4 := hV.n1
  have s1 := sx_bd (dirOf (μ 13) (I 96 y))
  have s2 := sy_bd (dirOf (μ 13) (I 96 y))
  have m1 := dirOf_bd (μ 13) (I 96 y)
  show WP (Call d) 225 P X (0, [some (vr (some 90) 10), some (vi h9), some (vi y), none, none, none, none, none], [], (I, H), 0, 0)
  refine WP.go 5 (And.intro rfl (Exists.intro 91 (And.intro hS.r90_1 (And.intro (And.intro rfl (And.intro (show 0 ≤ 13 from by omega) (show 13 < H.2.1 91 from by omega))) (?_)))))
  refine rw_i (Q := fun x9 => WP (Call d) 225 P X (5, [some (vr (some 90) 10), some (vi h9), some (vi y), none, none, none, none, none], [vi x9, vr (some 90) 10], (I, H), 0, 0)) (congrFun hM _) ?_
  show WP (Call d) 225 P X (5, [some (vr (some 90) 10), some (vi h9), some (vi y), none, none, none, none, none], [vi (μ 13), vr (some 90) 10], (I, H), 0, 0)
  refine WP.go 2 (And.intro (And.intro (Nat.le_of_ble_eq_true rfl) (Nat.le_of_ble_eq_true rfl)) (And.intro rfl (?_)))
  show Call d 215 [vr (some 90) 10, vi (μ 13), vi y] (I, H) _ _
  refine s_12_towards (by omega) hS hA (by omega) (by omega) ?_
  show WP (Call d) 225 P X (7, [some (vr (some 90) 10), some (vi h9), some (vi y), none, none, none, none, none], [vi (dirOf (μ 13) ((I 96) y))], (I, H), 0, 0)
  refine WP.go 4 (And.intro (And.intro (Nat.le_of_ble_eq_true rfl) (Nat.le_of_ble_eq_true rfl)) (And.intro rfl (?_)))
  show Call d 182 [vr (some 90) 10, vi h9] (I, H) _ _
  refine s_12_cellOf (by omega) hS hM (by omega) ?_
  show WP (Call d) 225 P X (11, [some (vr (some 90) 10), some (vi h9), some (vi y), some (vi (dirOf (μ 13) ((I 96) y))), none, none, none, none], [vi (μ (120 + 2 * h9))], (I, H), 0, 0)
  refine WP.go 6 (Exists.intro ((μ (120 + 2 * h9)) % 9) (And.intro (tmod_a (by omega) (by omega)) (And.intro (And.intro (Nat.le_of_ble_eq_true rfl) (Nat.le_of_ble_eq_true rfl)) (And.intro rfl (?_)))))
  show Call d 182 [vr (some 90) 10, vi h9] (I, H) _ _
  refine s_12_cellOf (by omega) hS hM (by omega) ?_
  show WP (Call d) 225 P X (17, [some (vr (some 90) 10), some (vi h9), some (vi y), some (vi (dirOf (μ 13) ((I 96) y))), some (vi ((μ (120 + 2 * h9)) % 9)), none, none, none], [vi (μ (120 + 2 * h9))], (I, H), 0, 0)
  refine WP.go 5 (Exists.intro ((μ (120 + 2 * h9)) / 9) (And.intro (tdiv_a (by omega) (by omega) (by omega)) (?_)))
  show WP (Call d) 225 P X (22, [some (vr (some 90) 10), some (vi h9), some (vi y), some (vi (dirOf (μ 13) ((I 96) y))), some (vi ((μ (120 + 2 * h9)) % 9)), some (vi ((μ (120 + 2 * h9)) / 9)), some (vi 0), none], [], (I, H), 0, 0)
  have lp22 : ∀ (n9 : Nat) (x9 : Int) (z9 : Int) (k : Int) (hm : 3 - k < (n9 : Int)) (iv0 : 0 ≤ k ∧ k ≤ 3 ∧ 0 ≤ x9 ∧ x9 < 9 ∧ 0 ≤ z9 ∧ z9 < 9) (iv1 : x9 = (μ (120 + 2 * h9)) % 9 + k * sx (dirOf (μ 13) (I 96 y)) ∧ z9 = (μ (120 + 2 * h9)) / 9 + k * sy (dirOf (μ 13) (I 96 y))) (iv2 : ∀ j, 1 ≤ j → j < k + 1 → onP (HTC μ (-1) 0) (coff (μ (120 + 2 * h9)) (dirOf (μ 13) (I 96 y)) j) < μ (121 + 2 * h9)), WP (Call d) 225 P X (22, [some (vr (some 90) 10), some (vi h9), some (vi y), some (vi (dirOf (μ 13) ((I 96) y))), some (vi x9), some (vi z9), some (vi k), none], [], (I, H), 0, 0) := by
    intro n9
    induction n9 with
    | zero => intro x9 z9 k hm iv0 iv1 iv2; exact absurd hm (by omega)
    | succ n9 ih22 =>
      intro x9 z9 k hm iv0 iv1 iv2
      have e1 : (k + 1) * sx (dirOf (μ 13) (I 96 y)) = k * sx (dirOf (μ 13) (I 96 y)) + sx (dirOf (μ 13) (I 96 y)) := by rw [Int.add_mul, Int.one_mul]
      have e2 : (k + 1) * sy (dirOf (μ 13) (I 96 y)) = k * sy (dirOf (μ 13) (I 96 y)) + sy (dirOf (μ 13) (I 96 y)) := by rw [Int.add_mul, Int.one_mul]
      have ef : ¬ (0 ≤ x9 + sx (dirOf (μ 13) (I 96 y)) ∧ x9 + sx (dirOf (μ 13) (I 96 y)) ≤ 8 ∧ 0 ≤ z9 + sy (dirOf (μ 13) (I 96 y)) ∧ z9 + sy (dirOf (μ 13) (I 96 y)) ≤ 8) → WDYp μ (I 96) (HTC μ (-1) 0) h9 y := fun q j q1 q2 => by
        rcases Int.lt_or_le j (k + 1) with z | z
        · exact iv2 j q1 z
        · rw [coff_o (by omega) (by omega) z (coff_e.mpr (by omega))]; unfold onP; rw [if_neg (by omega)]; omega
      have ec : (0 ≤ x9 + sx (dirOf (μ 13) (I 96 y)) ∧ x9 + sx (dirOf (μ 13) (I 96 y)) ≤ 8 ∧ 0 ≤ z9 + sy (dirOf (μ 13) (I 96 y)) ∧ z9 + sy (dirOf (μ 13) (I 96 y)) ≤ 8) → coff (μ (120 + 2 * h9)) (dirOf (μ 13) (I 96 y)) (k + 1) = 9 * (z9 + sy (dirOf (μ 13) (I 96 y))) + (x9 + sx (dirOf (μ 13) (I 96 y))) := fun q => by unfold coff; rw [if_pos (by omega)]; omega
      refine WP.go 3 (And.intro (fun (b24 : ¬ k < 3) => ?_) (fun (b24 : k < 3) => ?_))
      ·
        show WP (Call d) 225 P X (69, [some (vr (some 90) 10), some (vi h9), some (vi y), some (vi (dirOf (μ 13) ((I 96) y))), some (vi x9), some (vi z9), some (vi k), none], [], (I, H), 0, 0)
        refine WP.go 2 (And.intro (And.intro (Nat.le_of_ble_eq_true rfl) (Nat.le_of_ble_eq_true rfl)) (And.intro (Or.inr rfl) (?_)))
        show P (some (vi 1)) (I, H)
        exact fin_i (one_bz (fun j q1 q2 => iv2 j q1 (by omega))) h
      ·
        show WP (Call d) 225 P X (25, [some (vr (some 90) 10), some (vi h9), some (vi y), some (vi (dirOf (μ 13) ((I 96) y))), some (vi x9), some (vi z9), some (vi k), none], [], (I, H), 0, 0)
        refine WP.go 3 (And.intro (And.intro (Nat.le_of_ble_eq_true rfl) (Nat.le_of_ble_eq_true rfl)) (And.intro rfl (?_)))
        show Call d 216 [vi (dirOf (μ 13) ((I 96) y))] (I, H) _ _
        refine s_12_dx (by omega)  ?_
        show WP (Call d) 225 P X (28, [some (vr (some 90) 10), some (vi h9), some (vi y), some (vi (dirOf (μ 13) ((I 96) y))), some (vi x9), some (vi z9), some (vi k), none], [vi (sx (dirOf (μ 13) ((I 96) y))), vi x9], (I, H), 0, 0)
        refine WP.go 5 (Exists.intro (x9 + (sx (dirOf (μ 13) ((I 96) y)))) (And.intro (wrp_a (by omega) (by omega)) (And.intro (And.intro (Nat.le_of_ble_eq_true rfl) (Nat.le_of_ble_eq_true rfl)) (And.intro rfl (?_)))))
        show Call d 217 [vi (dirOf (μ 13) ((I 96) y))] (I, H) _ _
        refine s_12_dy (by omega)  ?_
        show WP (Call d) 225 P X (33, [some (vr (some 90) 10), some (vi h9), some (vi y), some (vi (dirOf (μ 13) ((I 96) y))), some (vi (x9 + (sx (dirOf (μ 13) ((I 96) y))))), some (vi z9), some (vi k), none], [vi (sy (dirOf (μ 13) ((I 96) y))), vi z9], (I, H), 0, 0)
        refine WP.go 6 (Exists.intro (z9 + (sy (dirOf (μ 13) ((I 96) y)))) (And.intro (wrp_a (by omega) (by omega)) (And.intro (And.intro (Nat.le_of_ble_eq_true rfl) (Nat.le_of_ble_eq_true rfl)) (And.intro rfl (?_)))))
        show Call d 177 [vi (x9 + (sx (dirOf (μ 13) ((I 96) y)))), vi 0, vi 8] (I, H) _ _
        refine s_12_isIn (by omega)  ?_
        show WP (Call d) 225 P X (39, [some (vr (some 90) 10), some (vi h9), some (vi y), some (vi (dirOf (μ 13) ((I 96) y))), some (vi (x9 + (sx (dirOf (μ 13) ((I 96) y))))), some (vi (z9 + (sy (dirOf (μ 13) ((I 96) y))))), some (vi k), none], [vi (bz (0 ≤ (x9 + (sx (dirOf (μ 13) ((I 96) y)))) ∧ (x9 + (sx (dirOf (μ 13) ((I 96) y)))) ≤ 8))], (I, H), 0, 0)
        refine WP.go 1 (And.intro (fun (b39 : bz (0 ≤ (x9 + (sx (dirOf (μ 13) ((I 96) y)))) ∧ (x9 + (sx (dirOf (μ 13) ((I 96) y)))) ≤ 8) = 0) => ?_) (fun (b39 : ¬ bz (0 ≤ (x9 + (sx (dirOf (μ 13) ((I 96) y)))) ∧ (x9 + (sx (dirOf (μ 13) ((I 96) y)))) ≤ 8) = 0) => ?_))
        ·
          show WP (Call d) 225 P X (45, [some (vr (some 90) 10), some (vi h9), some (vi y), some (vi (dirOf (μ 13) ((I 96) y))), some (vi (x9 + (sx (dirOf (μ 13) ((I 96) y))))), some (vi (z9 + (sy (dirOf (μ 13) ((I 96) y))))), some (vi k), none], [], (I, H), 0, 0)
          have z39 := bz_e0.mp b39
          refine WP.go 2 (And.intro (And.intro (Nat.le_of_ble_eq_true rfl) (Nat.le_of_ble_eq_true rfl)) (And.intro (Or.inr rfl) (?_)))
          show P (some (vi 1)) (I, H)
          exact fin_i (one_bz (ef (fun q => bz_e0.mp b39 ⟨q.1, q.2.1⟩))) h
        ·
          show WP (Call d) 225 P X (40, [some (vr (some 90) 10), some (vi h9), some (vi y), some (vi (dirOf (μ 13) ((I 96) y))), some (vi (x9 + (sx (dirOf (μ 13) ((I 96) y))))), some (vi (z9 + (sy (dirOf (μ 13) ((I 96) y))))), some (vi k), none], [], (I, H), 0, 0)
          have z39 := bz_e1.mp b39
          refine WP.go 4 (And.intro (And.intro (Nat.le_of_ble_eq_true rfl) (Nat.le_of_ble_eq_true rfl)) (And.intro rfl (?_)))
          show Call d 177 [vi (z9 + (sy (dirOf (μ 13) ((I 96) y)))), vi 0, vi 8] (I, H) _ _
          refine s_12_isIn (by omega)  ?_
          show WP (Call d) 225 P X (44, [some (vr (some 90) 10), some (vi h9), some (vi y), some (vi (dirOf (μ 13) ((I 96) y))), some (vi (x9 + (sx (dirOf (μ 13) ((I 96) y))))), some (vi (z9 + (sy (dirOf (μ 13) ((I 96) y))))), some (vi k), none], [vi (bz (0 ≤ (z9 + (sy (dirOf (μ 13) ((I 96) y)))) ∧ (z9 + (sy (dirOf (μ 13) ((I 96) y)))) ≤ 8))], (I, H), 0, 0)
          refine WP.go 1 (And.intro (fun (b44 : ¬ bz (0 ≤ (z9 + (sy (dirOf (μ 13) ((I 96) y)))) ∧ (z9 + (sy (dirOf (μ 13) ((I 96) y)))) ≤ 8) = 0) => ?_) (fun (b44 : bz (0 ≤ (z9 + (sy (dirOf (μ 13) ((I 96) y)))) ∧ (z9 + (sy (dirOf (μ 13) ((I 96) y)))) ≤ 8) = 0) => ?_))
          ·
            show WP (Call d) 225 P X (47, [some (vr (some 90) 10), some (vi h9), some (vi y), some (vi (dirOf (μ 13) ((I 96) y))), some (vi (x9 + (sx (dirOf (μ 13) ((I 96) y))))), some (vi (z9 + (sy (dirOf (μ 13) ((I 96) y))))), some (vi k), none], [], (I, H), 0, 0)
            have z44 := bz_e1.mp b44
            have w2 : 0 ≤ x9 + sx (dirOf (μ 13) (I 96 y)) ∧ x9 + sx (dirOf (μ 13) (I 96 y)) ≤ 8 ∧ 0 ≤ z9 + sy (dirOf (μ 13) (I 96 y)) ∧ z9 + sy (dirOf (μ 13) (I 96 y)) ≤ 8 := by
              have w3 := bz_e1.mp b39
              have w4 := bz_e1.mp b44
              omega
            refine WP.go 7 (Exists.intro (9 * (z9 + (sy (dirOf (μ 13) ((I 96) y))))) (And.intro (wrp_a (by omega) (by omega)) (Exists.intro ((9 * (z9 + (sy (dirOf (μ 13) ((I 96) y))))) + (x9 + (sx (dirOf (μ 13) ((I 96) y))))) (And.intro (wrp_a (by omega) (by omega)) (And.intro (And.intro (Nat.le_of_ble_eq_true rfl) (Nat.le_of_ble_eq_true rfl)) (And.intro rfl (?_)))))))
            show Call d 185 [vr (some 90) 10, vi ((9 * (z9 + (sy (dirOf (μ 13) ((I 96) y))))) + (x9 + (sx (dirOf (μ 13) ((I 96) y)))))] (I, H) _ _
            refine s_12_houseOn (by omega) hS hM hV ?_
            show WP (Call d) 225 P X (54, [some (vr (some 90) 10), some (vi h9), some (vi y), some (vi (dirOf (μ 13) ((I 96) y))), some (vi (x9 + (sx (dirOf (μ 13) ((I 96) y))))), some (vi (z9 + (sy (dirOf (μ 13) ((I 96) y))))), some (vi k), none], [vi (hON μ ((9 * (z9 + (sy (dirOf (μ 13) ((I 96) y))))) + (x9 + (sx (dirOf (μ 13) ((I 96) y))))) (μ 1))], (I, H), 0, 0)
            refine WP.go 4 (And.intro (fun (b57 : hON μ ((9 * (z9 + (sy (dirOf (μ 13) ((I 96) y))))) + (x9 + (sx (dirOf (μ 13) ((I 96) y))))) (μ 1) = (-1)) => ?_) (fun (b57 : ¬ hON μ ((9 * (z9 + (sy (dirOf (μ 13) ((I 96) y))))) + (x9 + (sx (dirOf (μ 13) ((I 96) y))))) (μ 1) = (-1)) => ?_))
            ·
              show WP (Call d) 225 P X (67, [some (vr (some 90) 10), some (vi h9), some (vi y), some (vi (dirOf (μ 13) ((I 96) y))), some (vi (x9 + (sx (dirOf (μ 13) ((I 96) y))))), some (vi (z9 + (sy (dirOf (μ 13) ((I 96) y))))), some (vi k), some (vi (hON μ ((9 * (z9 + (sy (dirOf (μ 13) ((I 96) y))))) + (x9 + (sx (dirOf (μ 13) ((I 96) y))))) (μ 1)))], [], (I, H), 0, 0)
              refine WP.go 2 (Exists.intro (k + 1) (And.intro (wrp_a (by omega) (by omega)) (?_)))
              show WP (Call d) 225 P X (22, [some (vr (some 90) 10), some (vi h9), some (vi y), some (vi (dirOf (μ 13) ((I 96) y))), some (vi (x9 + (sx (dirOf (μ 13) ((I 96) y))))), some (vi (z9 + (sy (dirOf (μ 13) ((I 96) y))))), some (vi (k + 1)), some (vi (hON μ ((9 * (z9 + (sy (dirOf (μ 13) ((I 96) y))))) + (x9 + (sx (dirOf (μ 13) ((I 96) y))))) (μ 1)))], [], (I, H), 0, 0)
              refine WP.wk (L := [some (vr (some 90) 10), some (vi h9), some (vi y), some (vi (dirOf (μ 13) ((I 96) y))), some (vi (x9 + (sx (dirOf (μ 13) ((I 96) y))))), some (vi (z9 + (sy (dirOf (μ 13) ((I 96) y))))), some (vi (k + 1)), none]) (And.intro rfl (And.intro rfl (And.intro rfl (And.intro rfl (And.intro rfl (And.intro rfl (And.intro rfl (And.intro trivial (trivial))))))))) ?_
              show WP (Call d) 225 P X (22, [some (vr (some 90) 10), some (vi h9), some (vi y), some (vi (dirOf (μ 13) ((I 96) y))), some (vi (x9 + (sx (dirOf (μ 13) ((I 96) y))))), some (vi (z9 + (sy (dirOf (μ 13) ((I 96) y))))), some (vi (k + 1)), none], [], (I, H), 0, 0)
              exact ih22 (x9 + (sx (dirOf (μ 13) ((I 96) y)))) (z9 + (sy (dirOf (μ 13) ((I 96) y)))) (k + 1) (by omega) (by omega) ⟨by omega, by omega⟩ (fun j q1 q2 => by rcases Int.lt_or_eq_of_le (show j ≤ k + 1 by omega) with z | z; exact iv2 j q1 z; rw [z, ec w2, onP, if_pos (by omega), HTC_n b57]; omega)
            ·
              show WP (Call d) 225 P X (58, [some (vr (some 90) 10), some (vi h9), some (vi y), some (vi (dirOf (μ 13) ((I 96) y))), some (vi (x9 + (sx (dirOf (μ 13) ((I 96) y))))), some (vi (z9 + (sy (dirOf (μ 13) ((I 96) y))))), some (vi k), some (vi (hON μ ((9 * (z9 + (sy (dirOf (μ 13) ((I 96) y))))) + (x9 + (sx (dirOf (μ 13) ((I 96) y))))) (μ 1)))], [], (I, H), 0, 0)
              have w5 := (hON_r (μ := μ) (c := 9 * (z9 + sy (dirOf (μ 13) (I 96 y))) + (x9 + sx (dirOf (μ 13) (I 96 y)))) (k := μ 1) (by omega)).resolve_left (fun q => b57 q.1)
              refine WP.go 3 (And.intro (And.intro (Nat.le_of_ble_eq_true rfl) (Nat.le_of_ble_eq_true rfl)) (And.intro rfl (?_)))
              show Call d 183 [vr (some 90) 10, vi (hON μ ((9 * (z9 + (sy (dirOf (μ 13) ((I 96) y))))) + (x9 + (sx (dirOf (μ 13) ((I 96) y))))) (μ 1))] (I, H) _ _
              refine s_12_heightOf (by omega) hS hM (by omega) ?_
              show WP (Call d) 225 P X (61, [some (vr (some 90) 10), some (vi h9), some (vi y), some (vi (dirOf (μ 13) ((I 96) y))), some (vi (x9 + (sx (dirOf (μ 13) ((I 96) y))))), some (vi (z9 + (sy (dirOf (μ 13) ((I 96) y))))), some (vi k), some (vi (hON μ ((9 * (z9 + (sy (dirOf (μ 13) ((I 96) y))))) + (x9 + (sx (dirOf (μ 13) ((I 96) y))))) (μ 1)))], [vi (μ (121 + 2 * (hON μ ((9 * (z9 + (sy (dirOf (μ 13) ((I 96) y))))) + (x9 + (sx (dirOf (μ 13) ((I 96) y))))) (μ 1))))], (I, H), 0, 0)
              refine WP.go 3 (And.intro (And.intro (Nat.le_of_ble_eq_true rfl) (Nat.le_of_ble_eq_true rfl)) (And.intro rfl (?_)))
              show Call d 183 [vr (some 90) 10, vi h9] (I, H) _ _
              refine s_12_heightOf (by omega) hS hM (by omega) ?_
              show WP (Call d) 225 P X (64, [some (vr (some 90) 10), some (vi h9), some (vi y), some (vi (dirOf (μ 13) ((I 96) y))), some (vi (x9 + (sx (dirOf (μ 13) ((I 96) y))))), some (vi (z9 + (sy (dirOf (μ 13) ((I 96) y))))), some (vi k), some (vi (hON μ ((9 * (z9 + (sy (dirOf (μ 13) ((I 96) y))))) + (x9 + (sx (dirOf (μ 13) ((I 96) y))))) (μ 1)))], [vi (μ (121 + 2 * h9)), vi (μ (121 + 2 * (hON μ ((9 * (z9 + (sy (dirOf (μ 13) ((I 96) y))))) + (x9 + (sx (dirOf (μ 13) ((I 96) y))))) (μ 1))))], (I, H), 0, 0)
              refine WP.go 1 (And.intro (fun (b64 : μ (121 + 2 * (hON μ ((9 * (z9 + (sy (dirOf (μ 13) ((I 96) y))))) + (x9 + (sx (dirOf (μ 13) ((I 96) y))))) (μ 1))) < μ (121 + 2 * h9)) => ?_) (fun (b64 : ¬ μ (121 + 2 * (hON μ ((9 * (z9 + (sy (dirOf (μ 13) ((I 96) y))))) + (x9 + (sx (dirOf (μ 13) ((I 96) y))))) (μ 1))) < μ (121 + 2 * h9)) => ?_))
              ·
                show WP (Call d) 225 P X (67, [some (vr (some 90) 10), some (vi h9), some (vi y), some (vi (dirOf (μ 13) ((I 96) y))), some (vi (x9 + (sx (dirOf (μ 13) ((I 96) y))))), some (vi (z9 + (sy (dirOf (μ 13) ((I 96) y))))), some (vi k), some (vi (hON μ ((9 * (z9 + (sy (dirOf (μ 13) ((I 96) y))))) + (x9 + (sx (dirOf (μ 13) ((I 96) y))))) (μ 1)))], [], (I, H), 0, 0)
                refine WP.go 2 (Exists.intro (k + 1) (And.intro (wrp_a (by omega) (by omega)) (?_)))
                show WP (Call d) 225 P X (22, [some (vr (some 90) 10), some (vi h9), some (vi y), some (vi (dirOf (μ 13) ((I 96) y))), some (vi (x9 + (sx (dirOf (μ 13) ((I 96) y))))), some (vi (z9 + (sy (dirOf (μ 13) ((I 96) y))))), some (vi (k + 1)), some (vi (hON μ ((9 * (z9 + (sy (dirOf (μ 13) ((I 96) y))))) + (x9 + (sx (dirOf (μ 13) ((I 96) y))))) (μ 1)))], [], (I, H), 0, 0)
                refine WP.wk (L := [some (vr (some 90) 10), some (vi h9), some (vi y), some (vi (dirOf (μ 13) ((I 96) y))), some (vi (x9 + (sx (dirOf (μ 13) ((I 96) y))))), some (vi (z9 + (sy (dirOf (μ 13) ((I 96) y))))), some (vi (k + 1)), none]) (And.intro rfl (And.intro rfl (And.intro rfl (And.intro rfl (And.intro rfl (And.intro rfl (And.intro rfl (And.intro trivial (trivial))))))))) ?_
                show WP (Call d) 225 P X (22, [some (vr (some 90) 10), some (vi h9), some (vi y), some (vi (dirOf (μ 13) ((I 96) y))), some (vi (x9 + (sx (dirOf (μ 13) ((I 96) y))))), some (vi (z9 + (sy (dirOf (μ 13) ((I 96) y))))), some (vi (k + 1)), none], [], (I, H), 0, 0)
                exact ih22 (x9 + (sx (dirOf (μ 13) ((I 96) y)))) (z9 + (sy (dirOf (μ 13) ((I 96) y)))) (k + 1) (by omega) (by omega) ⟨by omega, by omega⟩ (fun j q1 q2 => by rcases Int.lt_or_eq_of_le (show j ≤ k + 1 by omega) with z | z; exact iv2 j q1 z; rw [z, ec w2, onP, if_pos (by omega), HTC_y b57, if_neg (by omega)]; omega)
              ·
                show WP (Call d) 225 P X (65, [some (vr (some 90) 10), some (vi h9), some (vi y), some (vi (dirOf (μ 13) ((I 96) y))), some (vi (x9 + (sx (dirOf (μ 13) ((I 96) y))))), some (vi (z9 + (sy (dirOf (μ 13) ((I 96) y))))), some (vi k), some (vi (hON μ ((9 * (z9 + (sy (dirOf (μ 13) ((I 96) y))))) + (x9 + (sx (dirOf (μ 13) ((I 96) y))))) (μ 1)))], [], (I, H), 0, 0)
                refine WP.go 2 (And.intro (And.intro (Nat.le_of_ble_eq_true rfl) (Nat.le_of_ble_eq_true rfl)) (And.intro (Or.inl rfl) (?_)))
                show P (some (vi 0)) (I, H)
                exact fin_i (zero_bz (fun q => by have z := q (k + 1) (by omega) (by omega); rw [ec w2, onP, if_pos (by omega), HTC_y b57, if_neg (by omega)] at z; omega)) h
          ·
            show WP (Call d) 225 P X (45, [some (vr (some 90) 10), some (vi h9), some (vi y), some (vi (dirOf (μ 13) ((I 96) y))), some (vi (x9 + (sx (dirOf (μ 13) ((I 96) y))))), some (vi (z9 + (sy (dirOf (μ 13) ((I 96) y))))), some (vi k), none], [], (I, H), 0, 0)
            have z44 := bz_e0.mp b44
            refine WP.go 2 (And.intro (And.intro (Nat.le_of_ble_eq_true rfl) (Nat.le_of_ble_eq_true rfl)) (And.intro (Or.inr rfl) (?_)))
            show P (some (vi 1)) (I, H)
            exact fin_i (one_bz (ef (fun q => bz_e0.mp b44 ⟨q.2.2.1, q.2.2.2⟩))) h
  exact lp22 ((3 - 0 : Int).toNat + 1) ((μ (120 + 2 * h9)) % 9) ((μ (120 + 2 * h9)) / 9) 0 (by omega) (by omega) ⟨by omega, by omega⟩ (fun j q1 q2 => by omega)

theorem s_12_levelOf {d : Nat} {P : Option qV → qH → Prop} {X : Nat → qH → Prop} {I : qI} {H : qS} {μ : Int → Int} (hd : 2 ≤ d) {c y : Int} (hS : Shp H) (hM : I 91 = μ) (hV : IM μ) (hA : ∀ y, 0 ≤ y → y < 100 → 0 ≤ I 96 y ∧ I 96 y < 96) (hc : 0 ≤ c ∧ c < 81) (hy : 0 ≤ y ∧ y < 100) (h : P (some (vi (LVL μ (I 96) c y))) (I, H)) :
    Call d 228 [vr (some 90) 10, vi c, vi y] (I, H) P X := by
  obtain ⟨d, rfl⟩ : ∃ e, d = e + 1 := ⟨d - 1, by omega⟩
  have hl91 := hS.l91
  have a1 := hA y hy.1 hy.2
  have v1 := hV.se
  have s1 := sx_bd (dirOf (μ 12) (I 96 y))
  have s2 := sy_bd (dirOf (μ 12) (I 96 y))
  have g : ∀ (u s : Int), -4 ≤ u → u ≤ 4 → -1 ≤ s → s ≤ 1 → -4 ≤ u * s ∧ u * s ≤ 4 := fun u s q1 q2 q3 q4 => by
      have hs : s = -1 ∨ s = 0 ∨ s = 1 := by omega
      rcases hs with rfl | rfl | rfl <;> omega
  have g1 := g (c % 9 - 4) (sx (dirOf (μ 12) (I 96 y))) (by omega) (by omega) s1.1 s1.2
  have g2 := g (c / 9 - 4) (sy (dirOf (μ 12) (I 96 y))) (by omega) (by omega) s2.1 s2.2
  show WP (Call d) 228 P X (0, [some (vr (some 90) 10), some (vi c), some (vi y), none], [], (I, H), 0, 0)
  refine WP.go 5 (And.intro rfl (Exists.intro 91 (And.intro hS.r90_1 (And.intro (And.intro rfl (And.intro (show 0 ≤ 12 from by omega) (show 12 < H.2.1 91 from by omega))) (?_)))))
  refine rw_i (Q := fun x9 => WP (Call d) 228 P X (5, [some (vr (some 90) 10), some (vi c), some (vi y), none], [vi x9, vr (some 90) 10], (I, H), 0, 0)) (congrFun hM _) ?_
  show WP (Call d) 228 P X (5, [some (vr (some 90) 10), some (vi c), some (vi y), none], [vi (μ 12), vr (some 90) 10], (I, H), 0, 0)
  refine WP.go 2 (And.intro (And.intro (Nat.le_of_ble_eq_true rfl) (Nat.le_of_ble_eq_true rfl)) (And.intro rfl (?_)))
  show Call d 215 [vr (some 90) 10, vi (μ 12), vi y] (I, H) _ _
  refine s_12_towards (by omega) hS hA (by omega) (by omega) ?_
  show WP (Call d) 228 P X (7, [some (vr (some 90) 10), some (vi c), some (vi y), none], [vi (dirOf (μ 12) ((I 96) y))], (I, H), 0, 0)
  refine WP.go 8 (Exists.intro (c % 9) (And.intro (tmod_a (by omega) (by omega)) (Exists.intro ((c % 9) - 4) (And.intro (wrp_a (by omega) (by omega)) (And.intro (And.intro (Nat.le_of_ble_eq_true rfl) (Nat.le_of_ble_eq_true rfl)) (And.intro rfl (?_)))))))
  show Call d 216 [vi (dirOf (μ 12) ((I 96) y))] (I, H) _ _
  refine s_12_dx (by omega)  ?_
  show WP (Call d) 228 P X (15, [some (vr (some 90) 10), some (vi c), some (vi y), some (vi (dirOf (μ 12) ((I 96) y)))], [vi (sx (dirOf (μ 12) ((I 96) y))), vi ((c % 9) - 4)], (I, H), 0, 0)
  refine WP.go 8 (Exists.intro (((c % 9) - 4) * (sx (dirOf (μ 12) ((I 96) y)))) (And.intro (wrp_a (by omega) (by omega)) (Exists.intro (c / 9) (And.intro (tdiv_a (by omega) (by omega) (by omega)) (Exists.intro ((c / 9) - 4) (And.intro (wrp_a (by omega) (by omega)) (And.intro (And.intro (Nat.le_of_ble_eq_true rfl) (Nat.le_of_ble_eq_true rfl)) (And.intro rfl (?_)))))))))
  show Call d 217 [vi (dirOf (μ 12) ((I 96) y))] (I, H) _ _
  refine s_12_dy (by omega)  ?_
  show WP (Call d) 228 P X (23, [some (vr (some 90) 10), some (vi c), some (vi y), some (vi (dirOf (μ 12) ((I 96) y)))], [vi (sy (dirOf (μ 12) ((I 96) y))), vi ((c / 9) - 4), vi (((c % 9) - 4) * (sx (dirOf (μ 12) ((I 96) y))))], (I, H), 0, 0)
  refine WP.go 4 (Exists.intro (((c / 9) - 4) * (sy (dirOf (μ 12) ((I 96) y)))) (And.intro (wrp_a (by omega) (by omega)) (Exists.intro ((((c % 9) - 4) * (sx (dirOf (μ 12) ((I 96) y)))) + (((c / 9) - 4) * (sy (dirOf (μ 12) ((I 96) y))))) (And.intro (wrp_a (by omega) (by omega)) (Exists.intro (-((((c % 9) - 4) * (sx (dirOf (μ 12) ((I 96) y)))) + (((c / 9) - 4) * (sy (dirOf (μ 12) ((I 96) y)))))) (And.intro (wrp_a (by omega) (by omega)) (And.intro (And.intro (Nat.le_of_ble_eq_true rfl) (Nat.le_of_ble_eq_true rfl)) (And.intro trivial (?_)))))))))
  show P (some (vi (-((((c % 9) - 4) * (sx (dirOf (μ 12) ((I 96) y)))) + (((c / 9) - 4) * (sy (dirOf (μ 12) ((I 96) y)))))))) (I, H)
  exact fin_i (by first | rfl | omega | exact zero_bz (by omega) | exact one_bz (by omega)) h

theorem s_12_goesDown {d : Nat} {P : Option qV → qH → Prop} {X : Nat → qH → Prop} {I : qI} {H : qS} {μ : Int → Int} (hd : 3 ≤ d) {k y : Int} (hS : Shp H) (hM : I 91 = μ) (hV : IM μ) (hA : ∀ y, 0 ≤ y → y < 100 → 0 ≤ I 96 y ∧ I 96 y < 96) (hk : 0 ≤ k ∧ k < μ 6) (hy : 0 ≤ y ∧ y < 100) (h : P (some (vi (bz (RUNp μ (I 96) k y)))) (I, H)) :
    Call d 238 [vr (some 90) 10, vi k, vi y] (I, H) P X := by
  obtain ⟨d, rfl⟩ : ∃ e, d = e + 1 := ⟨d - 1, by omega⟩
  have hl91 := hS.l91
  have v0 := hV.n6
  have v1 := hV.da k hk.1 hk.2
  have v2 := hV.db k hk.1 hk.2
  show WP (Call d) 238 P X (0, [some (vr (some 90) 10), some (vi k), some (vi y)], [], (I, H), 0, 0)
  refine WP.go 11 (And.intro rfl (Exists.intro 91 (And.intro hS.r90_1 (Exists.intro (2 * k) (And.intro (wrp_a (by omega) (by omega)) (Exists.intro (442 + (2 * k)) (And.intro (wrp_a (by omega) (by omega)) (Exists.intro ((442 + (2 * k)) + 1) (And.intro (wrp_a (by omega) (by omega)) (And.intro (And.intro rfl (And.intro (show 0 ≤ (442 + (2 * k)) + 1 from by omega) (show (442 + (2 * k)) + 1 < H.2.1 91 from by omega))) (?_)))))))))))
  refine rw_i (Q := fun x9 => WP (Call d) 238 P X (11, [some (vr (some 90) 10), some (vi k), some (vi y)], [vi x9, vr (some 90) 10], (I, H), 0, 0)) (show I 91 ((442 + (2 * k)) + 1) = μ (443 + 2 * k) from (congrFun hM _).trans (congrArg μ (by omega))) ?_
  show WP (Call d) 238 P X (11, [some (vr (some 90) 10), some (vi k), some (vi y)], [vi (μ (443 + 2 * k)), vr (some 90) 10], (I, H), 0, 0)
  refine WP.go 2 (And.intro (And.intro (Nat.le_of_ble_eq_true rfl) (Nat.le_of_ble_eq_true rfl)) (And.intro rfl (?_)))
  show Call d 228 [vr (some 90) 10, vi (μ (443 + 2 * k)), vi y] (I, H) _ _
  refine s_12_levelOf (by omega) hS hM hV hA (by omega) (by omega) ?_
  show WP (Call d) 238 P X (13, [some (vr (some 90) 10), some (vi k), some (vi y)], [vi (LVL μ (I 96) (μ (443 + 2 * k)) y)], (I, H), 0, 0)
  refine WP.go 9 (And.intro rfl (Exists.intro 91 (And.intro hS.r90_1 (Exists.intro (2 * k) (And.intro (wrp_a (by omega) (by omega)) (Exists.intro (442 + (2 * k)) (And.intro (wrp_a (by omega) (by omega)) (And.intro (And.intro rfl (And.intro (show 0 ≤ 442 + (2 * k) from by omega) (show 442 + (2 * k) < H.2.1 91 from by omega))) (?_)))))))))
  refine rw_i (Q := fun x9 => WP (Call d) 238 P X (22, [some (vr (some 90) 10), some (vi k), some (vi y)], [vi x9, vr (some 90) 10, vi (LVL μ (I 96) (μ (443 + 2 * k)) y)], (I, H), 0, 0)) (show I 91 (442 + (2 * k)) = μ (442 + 2 * k) from (congrFun hM _).trans (congrArg μ (by omega))) ?_
  show WP (Call d) 238 P X (22, [some (vr (some 90) 10), some (vi k), some (vi y)], [vi (μ (442 + 2 * k)), vr (some 90) 10, vi (LVL μ (I 96) (μ (443 + 2 * k)) y)], (I, H), 0, 0)
  refine WP.go 2 (And.intro (And.intro (Nat.le_of_ble_eq_true rfl) (Nat.le_of_ble_eq_true rfl)) (And.intro rfl (?_)))
  show Call d 228 [vr (some 90) 10, vi (μ (442 + 2 * k)), vi y] (I, H) _ _
  refine s_12_levelOf (by omega) hS hM hV hA (by omega) (by omega) ?_
  show WP (Call d) 238 P X (24, [some (vr (some 90) 10), some (vi k), some (vi y)], [vi (LVL μ (I 96) (μ (442 + 2 * k)) y), vi (LVL μ (I 96) (μ (443 + 2 * k)) y)], (I, H), 0, 0)
  refine WP.go 1 (And.intro (fun (b24 : ¬ LVL μ (I 96) (μ (443 + 2 * k)) y < LVL μ (I 96) (μ (442 + 2 * k)) y) => ?_) (fun (b24 : LVL μ (I 96) (μ (443 + 2 * k)) y < LVL μ (I 96) (μ (442 + 2 * k)) y) => ?_))
  ·
    show WP (Call d) 238 P X (27, [some (vr (some 90) 10), some (vi k), some (vi y)], [], (I, H), 0, 0)
    refine WP.go 2 (And.intro (And.intro (Nat.le_of_ble_eq_true rfl) (Nat.le_of_ble_eq_true rfl)) (And.intro (Or.inl rfl) (?_)))
    show P (some (vi 0)) (I, H)
    exact fin_i (zero_bz b24) h
  ·
    show WP (Call d) 238 P X (25, [some (vr (some 90) 10), some (vi k), some (vi y)], [], (I, H), 0, 0)
    refine WP.go 3 (And.intro (And.intro (Nat.le_of_ble_eq_true rfl) (Nat.le_of_ble_eq_true rfl)) (And.intro (Or.inr rfl) (?_)))
    show P (some (vi 1)) (I, H)
    exact fin_i (one_bz b24) h

theorem s_12_isMore {d : Nat} {P : Option qV → qH → Prop} {X : Nat → qH → Prop} {I : qI} {H : qS} {μ : Int → Int} (hd : 2 ≤ d) {h9 b : Int} (hS : Shp H) (hM : I 91 = μ) (hV : IM μ) (hh : 0 ≤ h9 ∧ h9 < μ 1) (h : P (some (vi (bz ((1 ≤ b ∧ b ≤ 29) ∧ μ (121 + 2 * h9) + b ≤ 30)))) (I, H)) :
    Call d 246 [vr (some 90) 10, vi h9, vi b] (I, H) P X := by
  obtain ⟨d, rfl⟩ : ∃ e, d = e + 1 := ⟨d - 1, by omega⟩
  have v0 := hV.n1
  have v1 := hV.hh h9 hh.1 hh.2
  show WP (Call d) 246 P X (0, [some (vr (some 90) 10), some (vi h9), some (vi b)], [], (I, H), 0, 0)
  refine WP.go 4 (And.intro (And.intro (Nat.le_of_ble_eq_true rfl) (Nat.le_of_ble_eq_true rfl)) (And.intro rfl (?_)))
  show Call d 177 [vi b, vi 1, vi 29] (I, H) _ _
  refine s_12_isIn (by omega)  ?_
  show WP (Call d) 246 P X (4, [some (vr (some 90) 10), some (vi h9), some (vi b)], [vi (bz (1 ≤ b ∧ b ≤ 29))], (I, H), 0, 0)
  refine WP.go 1 (And.intro (fun (b4 : bz (1 ≤ b ∧ b ≤ 29) = 0) => ?_) (fun (b4 : ¬ bz (1 ≤ b ∧ b ≤ 29) = 0) => ?_))
  ·
    show WP (Call d) 246 P X (14, [some (vr (some 90) 10), some (vi h9), some (vi b)], [], (I, H), 0, 0)
    have z4 := bz_e0.mp b4
    refine WP.go 2 (And.intro (And.intro (Nat.le_of_ble_eq_true rfl) (Nat.le_of_ble_eq_true rfl)) (And.intro (Or.inl rfl) (?_)))
    show P (some (vi 0)) (I, H)
    exact fin_i (zero_bz (fun q => bz_e0.mp b4 q.1)) h
  ·
    show WP (Call d) 246 P X (5, [some (vr (some 90) 10), some (vi h9), some (vi b)], [], (I, H), 0, 0)
    have z4 := bz_e1.mp b4
    have w1 := bz_e1.mp b4
    refine WP.go 3 (And.intro (And.intro (Nat.le_of_ble_eq_true rfl) (Nat.le_of_ble_eq_true rfl)) (And.intro rfl (?_)))
    show Call d 183 [vr (some 90) 10, vi h9] (I, H) _ _
    refine s_12_heightOf (by omega) hS hM (by omega) ?_
    show WP (Call d) 246 P X (8, [some (vr (some 90) 10), some (vi h9), some (vi b)], [vi (μ (121 + 2 * h9))], (I, H), 0, 0)
    refine WP.go 4 (Exists.intro ((μ (121 + 2 * h9)) + b) (And.intro (wrp_a (by omega) (by omega)) (And.intro (fun (b11 : 30 < (μ (121 + 2 * h9)) + b) => ?_) (fun (b11 : ¬ 30 < (μ (121 + 2 * h9)) + b) => ?_))))
    ·
      show WP (Call d) 246 P X (14, [some (vr (some 90) 10), some (vi h9), some (vi b)], [], (I, H), 0, 0)
      refine WP.go 2 (And.intro (And.intro (Nat.le_of_ble_eq_true rfl) (Nat.le_of_ble_eq_true rfl)) (And.intro (Or.inl rfl) (?_)))
      show P (some (vi 0)) (I, H)
      exact fin_i (zero_bz (fun q => by omega)) h
    ·
      show WP (Call d) 246 P X (12, [some (vr (some 90) 10), some (vi h9), some (vi b)], [], (I, H), 0, 0)
      refine WP.go 3 (And.intro (And.intro (Nat.le_of_ble_eq_true rfl) (Nat.le_of_ble_eq_true rfl)) (And.intro (Or.inr rfl) (?_)))
      show P (some (vi 1)) (I, H)
      exact fin_i (one_bz ⟨w1, by omega⟩) h

theorem s_12_housesOf_0 {d : Nat} {P : Option qV → qH → Prop} {X : Nat → qH → Prop} {I : qI} {H : qS} {μ : Int → Int} {tl tb : Int} (hd : 6 ≤ d) {y : Int} (hS : Shp H) (hM : I 91 = μ) (hV : IM μ) (hA : ∀ y, 0 ≤ y → y < 100 → 0 ≤ I 96 y ∧ I 96 y < 96) (h29 : I 90 29 = tl) (h30 : I 90 30 = tb) (htb : 0 ≤ tb ∧ tb ≤ 29) (hy : 0 ≤ y ∧ y < 100) (h : P (some (vi (hB (fun i => LGH μ (I 96) (HTC μ tl tb) i y = 0) (μ 1)))) (I, H)) :
    Call d 226 [vr (some 90) 10, vi y, vi 0] (I, H) P X := by
  obtain ⟨d, rfl⟩ : ∃ e, d = e + 1 := ⟨d - 1, by omega⟩
  have hl91 := hS.l91
  have v1 := hV.n1
  show WP (Call d) 226 P X (0, [some (vr (some 90) 10), some (vi y), some (vi 0), none, none], [], (I, H), 0, 0)
  refine WP.go 4 ?_
  show WP (Call d) 226 P X (4, [some (vr (some 90) 10), some (vi y), some (vi 0), some (vi 0), some (vi 0)], [], (I, H), 0, 0)
  have lp4 : ∀ (n9 : Nat) (s9 : Int) (k : Int) (hm : μ 1 - k < (n9 : Int)) (iv0 : 0 ≤ k ∧ k ≤ μ 1) (iv1 : s9 = hB (fun i => LGH μ (I 96) (HTC μ tl tb) i y = 0) k), WP (Call d) 226 P X (4, [some (vr (some 90) 10), some (vi y), some (vi 0), some (vi s9), some (vi k)], [], (I, H), 0, 0) := by
    intro n9
    induction n9 with
    | zero => intro s9 k hm iv0 iv1; exact absurd hm (by omega)
    | succ n9 ih4 =>
      intro s9 k hm iv0 iv1
      refine WP.go 5 (And.intro rfl (Exists.intro 91 (And.intro hS.r90_1 (And.intro (And.intro rfl (And.intro (show 0 ≤ 1 from by omega) (show 1 < H.2.1 91 from by omega))) (?_)))))
      refine rw_i (Q := fun x9 => WP (Call d) 226 P X (9, [some (vr (some 90) 10), some (vi y), some (vi 0), some (vi s9), some (vi k)], [vi x9, vi k], (I, H), 0, 0)) (congrFun hM _) ?_
      show WP (Call d) 226 P X (9, [some (vr (some 90) 10), some (vi y), some (vi 0), some (vi s9), some (vi k)], [vi (μ 1), vi k], (I, H), 0, 0)
      refine WP.go 1 (And.intro (fun (b9 : ¬ k < μ 1) => ?_) (fun (b9 : k < μ 1) => ?_))
      ·
        show WP (Call d) 226 P X (41, [some (vr (some 90) 10), some (vi y), some (vi 0), some (vi s9), some (vi k)], [], (I, H), 0, 0)
        refine WP.go 2 (And.intro (And.intro (Nat.le_of_ble_eq_true rfl) (Nat.le_of_ble_eq_true rfl)) (And.intro trivial (?_)))
        show P (some (vi s9)) (I, H)
        exact fin_i (by rw [iv1, show k = μ 1 by omega]) h
      ·
        show WP (Call d) 226 P X (10, [some (vr (some 90) 10), some (vi y), some (vi 0), some (vi s9), some (vi k)], [], (I, H), 0, 0)
        refine WP.go 2 (And.intro (fun (b11 : ¬ 0 = 0) => (absurd b11 (by omega))) (fun (b11 : 0 = 0) => ?_))
        show WP (Call d) 226 P X (12, [some (vr (some 90) 10), some (vi y), some (vi 0), some (vi s9), some (vi k)], [], (I, H), 0, 0)
        refine WP.go 5 (And.intro (And.intro (Nat.le_of_ble_eq_true rfl) (Nat.le_of_ble_eq_true rfl)) (And.intro rfl (?_)))
        show Call d 222 [vr (some 90) 10, vi k, vi y, vi y] (I, H) _ _
        refine s_12_brightOf (by omega) hS hM hV hA h29 h30 htb (by omega) ?_
        show WP (Call d) 226 P X (17, [some (vr (some 90) 10), some (vi y), some (vi 0), some (vi s9), some (vi k)], [vi (BRT μ (I 96) (HTC μ tl tb) k y y)], (I, H), 0, 0)
        refine WP.go 1 (And.intro (fun (b17 : ¬ BRT μ (I 96) (HTC μ tl tb) k y y = 0) => ?_) (fun (b17 : BRT μ (I 96) (HTC μ tl tb) k y y = 0) => ?_))
        ·
          show WP (Call d) 226 P X (39, [some (vr (some 90) 10), some (vi y), some (vi 0), some (vi s9), some (vi k)], [], (I, H), 0, 0)
          refine WP.go 2 (Exists.intro (k + 1) (And.intro (wrp_a (by omega) (by omega)) (?_)))
          show WP (Call d) 226 P X (4, [some (vr (some 90) 10), some (vi y), some (vi 0), some (vi s9), some (vi (k + 1))], [], (I, H), 0, 0)
          exact ih4 s9 (k + 1) (by omega) (by omega) (by rw [iv1, hB_n (p := fun i => LGH μ (I 96) (HTC μ tl tb) i y = 0) (by omega) (by rw [← BRT_1]; exact b17)])
        ·
          show WP (Call d) 226 P X (18, [some (vr (some 90) 10), some (vi y), some (vi 0), some (vi s9), some (vi k)], [], (I, H), 0, 0)
          refine WP.go 9 (Exists.intro (k + 1) (And.intro (wrp_a (by omega) (by omega)) (?_)))
          show WP (Call d) 226 P X (4, [some (vr (some 90) 10), some (vi y), some (vi 0), some (vi (zor s9 (zshl 1 k))), some (vi (k + 1))], [], (I, H), 0, 0)
          exact ih4 (zor s9 (zshl 1 k)) (k + 1) (by omega) (by omega) (by rw [iv1, hB_y (p := fun i => LGH μ (I 96) (HTC μ tl tb) i y = 0) (by omega) (by rw [← BRT_1]; exact b17)])
  exact lp4 ((μ 1 - 0 : Int).toNat + 1) 0 0 (by omega) (by omega) rfl

theorem s_12_housesOf_1 {d : Nat} {P : Option qV → qH → Prop} {X : Nat → qH → Prop} {I : qI} {H : qS} {μ : Int → Int} (hd : 6 ≤ d) {y : Int} (hS : Shp H) (hM : I 91 = μ) (hV : IM μ) (hA : ∀ y, 0 ≤ y → y < 100 → 0 ≤ I 96 y ∧ I 96 y < 96) (hy : 0 ≤ y ∧ y < 100) (h : P (some (vi (hB (fun i => WDYp μ (I 96) (HTC μ (-1) 0) i y) (μ 1)))) (I, H)) :
    Call d 226 [vr (some 90) 10, vi y, vi 1] (I, H) P X := by
  obtain ⟨d, rfl⟩ : ∃ e, d = e + 1 := ⟨d - 1, by omega⟩
  have hl91 := hS.l91
  have v1 := hV.n1
  show WP (Call d) 226 P X (0, [some (vr (some 90) 10), some (vi y), some (vi 1), none, none], [], (I, H), 0, 0)
  refine WP.go 4 ?_
  show WP (Call d) 226 P X (4, [some (vr (some 90) 10), some (vi y), some (vi 1), some (vi 0), some (vi 0)], [], (I, H), 0, 0)
  have lp4 : ∀ (n9 : Nat) (s9 : Int) (k : Int) (hm : μ 1 - k < (n9 : Int)) (iv0 : 0 ≤ k ∧ k ≤ μ 1) (iv1 : s9 = hB (fun i => WDYp μ (I 96) (HTC μ (-1) 0) i y) k), WP (Call d) 226 P X (4, [some (vr (some 90) 10), some (vi y), some (vi 1), some (vi s9), some (vi k)], [], (I, H), 0, 0) := by
    intro n9
    induction n9 with
    | zero => intro s9 k hm iv0 iv1; exact absurd hm (by omega)
    | succ n9 ih4 =>
      intro s9 k hm iv0 iv1
      refine WP.go 5 (And.intro rfl (Exists.intro 91 (And.intro hS.r90_1 (And.intro (And.intro rfl (And.intro (show 0 ≤ 1 from by omega) (show 1 < H.2.1 91 from by omega))) (?_)))))
      refine rw_i (Q := fun x9 => WP (Call d) 226 P X (9, [some (vr (some 90) 10), some (vi y), some (vi 1), some (vi s9), some (vi k)], [vi x9, vi k], (I, H), 0, 0)) (congrFun hM _) ?_
      show WP (Call d) 226 P X (9, [some (vr (some 90) 10), some (vi y), some (vi 1), some (vi s9), some (vi k)], [vi (μ 1), vi k], (I, H), 0, 0)
      refine WP.go 1 (And.intro (fun (b9 : ¬ k < μ 1) => ?_) (fun (b9 : k < μ 1) => ?_))
      ·
        show WP (Call d) 226 P X (41, [some (vr (some 90) 10), some (vi y), some (vi 1), some (vi s9), some (vi k)], [], (I, H), 0, 0)
        refine WP.go 2 (And.intro (And.intro (Nat.le_of_ble_eq_true rfl) (Nat.le_of_ble_eq_true rfl)) (And.intro trivial (?_)))
        show P (some (vi s9)) (I, H)
        exact fin_i (by rw [iv1, show k = μ 1 by omega]) h
      ·
        show WP (Call d) 226 P X (10, [some (vr (some 90) 10), some (vi y), some (vi 1), some (vi s9), some (vi k)], [], (I, H), 0, 0)
        refine WP.go 2 (And.intro (fun (b11 : ¬ 1 = 0) => ?_) (fun (b11 : 1 = 0) => (absurd b11 (by omega))))
        show WP (Call d) 226 P X (19, [some (vr (some 90) 10), some (vi y), some (vi 1), some (vi s9), some (vi k)], [], (I, H), 0, 0)
        refine WP.go 3 (And.intro (fun (b21 : ¬ 1 = 1) => (absurd b21 (by omega))) (fun (b21 : 1 = 1) => ?_))
        show WP (Call d) 226 P X (22, [some (vr (some 90) 10), some (vi y), some (vi 1), some (vi s9), some (vi k)], [], (I, H), 0, 0)
        refine WP.go 4 (And.intro (And.intro (Nat.le_of_ble_eq_true rfl) (Nat.le_of_ble_eq_true rfl)) (And.intro rfl (?_)))
        show Call d 225 [vr (some 90) 10, vi k, vi y] (I, H) _ _
        refine s_12_isInWind (by omega) hS hM hV hA (by omega) (by omega) ?_
        show WP (Call d) 226 P X (26, [some (vr (some 90) 10), some (vi y), some (vi 1), some (vi s9), some (vi k)], [vi (bz (WDYp μ (I 96) (HTC μ (-1) 0) k y))], (I, H), 0, 0)
        refine WP.go 1 (And.intro (fun (b26 : bz (WDYp μ (I 96) (HTC μ (-1) 0) k y) = 0) => ?_) (fun (b26 : ¬ bz (WDYp μ (I 96) (HTC μ (-1) 0) k y) = 0) => ?_))
        ·
          show WP (Call d) 226 P X (39, [some (vr (some 90) 10), some (vi y), some (vi 1), some (vi s9), some (vi k)], [], (I, H), 0, 0)
          have z26 := bz_e0.mp b26
          refine WP.go 2 (Exists.intro (k + 1) (And.intro (wrp_a (by omega) (by omega)) (?_)))
          show WP (Call d) 226 P X (4, [some (vr (some 90) 10), some (vi y), some (vi 1), some (vi s9), some (vi (k + 1))], [], (I, H), 0, 0)
          exact ih4 s9 (k + 1) (by omega) (by omega) (by rw [iv1, hB_n (p := fun i => WDYp μ (I 96) (HTC μ (-1) 0) i y) (by omega) (bz_e0.mp b26)])
        ·
          show WP (Call d) 226 P X (27, [some (vr (some 90) 10), some (vi y), some (vi 1), some (vi s9), some (vi k)], [], (I, H), 0, 0)
          have z26 := bz_e1.mp b26
          refine WP.go 9 (Exists.intro (k + 1) (And.intro (wrp_a (by omega) (by omega)) (?_)))
          show WP (Call d) 226 P X (4, [some (vr (some 90) 10), some (vi y), some (vi 1), some (vi (zor s9 (zshl 1 k))), some (vi (k + 1))], [], (I, H), 0, 0)
          exact ih4 (zor s9 (zshl 1 k)) (k + 1) (by omega) (by omega) (by rw [iv1, hB_y (p := fun i => WDYp μ (I 96) (HTC μ (-1) 0) i y) (by omega) (bz_e1.mp b26)])
  exact lp4 ((μ 1 - 0 : Int).toNat + 1) 0 0 (by omega) (by omega) rfl

theorem s_12_housesOf_2 {d : Nat} {P : Option qV → qH → Prop} {X : Nat → qH → Prop} {I : qI} {H : qS} {μ : Int → Int} {tl tb : Int} (hd : 6 ≤ d) {y : Int} (hS : Shp H) (hM : I 91 = μ) (hV : IM μ) (hA : ∀ y, 0 ≤ y → y < 100 → 0 ≤ I 96 y ∧ I 96 y < 96) (h29 : I 90 29 = tl) (h30 : I 90 30 = tb) (htb : 0 ≤ tb ∧ tb ≤ 29) (hy : 0 ≤ y ∧ y < 100) (h : P (some (vi (hB (fun i => NOONp μ (I 96) (HTC μ tl tb) i y) (μ 1)))) (I, H)) :
    Call d 226 [vr (some 90) 10, vi y, vi 2] (I, H) P X := by
  obtain ⟨d, rfl⟩ : ∃ e, d = e + 1 := ⟨d - 1, by omega⟩
  have hl91 := hS.l91
  have v1 := hV.n1
  show WP (Call d) 226 P X (0, [some (vr (some 90) 10), some (vi y), some (vi 2), none, none], [], (I, H), 0, 0)
  refine WP.go 4 ?_
  show WP (Call d) 226 P X (4, [some (vr (some 90) 10), some (vi y), some (vi 2), some (vi 0), some (vi 0)], [], (I, H), 0, 0)
  have lp4 : ∀ (n9 : Nat) (s9 : Int) (k : Int) (hm : μ 1 - k < (n9 : Int)) (iv0 : 0 ≤ k ∧ k ≤ μ 1) (iv1 : s9 = hB (fun i => NOONp μ (I 96) (HTC μ tl tb) i y) k), WP (Call d) 226 P X (4, [some (vr (some 90) 10), some (vi y), some (vi 2), some (vi s9), some (vi k)], [], (I, H), 0, 0) := by
    intro n9
    induction n9 with
    | zero => intro s9 k hm iv0 iv1; exact absurd hm (by omega)
    | succ n9 ih4 =>
      intro s9 k hm iv0 iv1
      refine WP.go 5 (And.intro rfl (Exists.intro 91 (And.intro hS.r90_1 (And.intro (And.intro rfl (And.intro (show 0 ≤ 1 from by omega) (show 1 < H.2.1 91 from by omega))) (?_)))))
      refine rw_i (Q := fun x9 => WP (Call d) 226 P X (9, [some (vr (some 90) 10), some (vi y), some (vi 2), some (vi s9), some (vi k)], [vi x9, vi k], (I, H), 0, 0)) (congrFun hM _) ?_
      show WP (Call d) 226 P X (9, [some (vr (some 90) 10), some (vi y), some (vi 2), some (vi s9), some (vi k)], [vi (μ 1), vi k], (I, H), 0, 0)
      refine WP.go 1 (And.intro (fun (b9 : ¬ k < μ 1) => ?_) (fun (b9 : k < μ 1) => ?_))
      ·
        show WP (Call d) 226 P X (41, [some (vr (some 90) 10), some (vi y), some (vi 2), some (vi s9), some (vi k)], [], (I, H), 0, 0)
        refine WP.go 2 (And.intro (And.intro (Nat.le_of_ble_eq_true rfl) (Nat.le_of_ble_eq_true rfl)) (And.intro trivial (?_)))
        show P (some (vi s9)) (I, H)
        exact fin_i (by rw [iv1, show k = μ 1 by omega]) h
      ·
        show WP (Call d) 226 P X (10, [some (vr (some 90) 10), some (vi y), some (vi 2), some (vi s9), some (vi k)], [], (I, H), 0, 0)
        refine WP.go 2 (And.intro (fun (b11 : ¬ 2 = 0) => ?_) (fun (b11 : 2 = 0) => (absurd b11 (by omega))))
        show WP (Call d) 226 P X (19, [some (vr (some 90) 10), some (vi y), some (vi 2), some (vi s9), some (vi k)], [], (I, H), 0, 0)
        refine WP.go 3 (And.intro (fun (b21 : ¬ 2 = 1) => ?_) (fun (b21 : 2 = 1) => (absurd b21 (by omega))))
        show WP (Call d) 226 P X (28, [some (vr (some 90) 10), some (vi y), some (vi 2), some (vi s9), some (vi k)], [], (I, H), 0, 0)
        refine WP.go 4 (And.intro (And.intro (Nat.le_of_ble_eq_true rfl) (Nat.le_of_ble_eq_true rfl)) (And.intro rfl (?_)))
        show Call d 224 [vr (some 90) 10, vi k, vi y] (I, H) _ _
        refine s_12_hasNoon (by omega) hS hM hV hA h29 h30 htb (by omega) ?_
        show WP (Call d) 226 P X (32, [some (vr (some 90) 10), some (vi y), some (vi 2), some (vi s9), some (vi k)], [vi (bz (NOONp μ (I 96) (HTC μ tl tb) k y))], (I, H), 0, 0)
        refine WP.go 1 (And.intro (fun (b32 : bz (NOONp μ (I 96) (HTC μ tl tb) k y) = 0) => ?_) (fun (b32 : ¬ bz (NOONp μ (I 96) (HTC μ tl tb) k y) = 0) => ?_))
        ·
          show WP (Call d) 226 P X (39, [some (vr (some 90) 10), some (vi y), some (vi 2), some (vi s9), some (vi k)], [], (I, H), 0, 0)
          have z32 := bz_e0.mp b32
          refine WP.go 2 (Exists.intro (k + 1) (And.intro (wrp_a (by omega) (by omega)) (?_)))
          show WP (Call d) 226 P X (4, [some (vr (some 90) 10), some (vi y), some (vi 2), some (vi s9), some (vi (k + 1))], [], (I, H), 0, 0)
          exact ih4 s9 (k + 1) (by omega) (by omega) (by rw [iv1, hB_n (p := fun i => NOONp μ (I 96) (HTC μ tl tb) i y) (by omega) (bz_e0.mp b32)])
        ·
          show WP (Call d) 226 P X (33, [some (vr (some 90) 10), some (vi y), some (vi 2), some (vi s9), some (vi k)], [], (I, H), 0, 0)
          have z32 := bz_e1.mp b32
          refine WP.go 8 (Exists.intro (k + 1) (And.intro (wrp_a (by omega) (by omega)) (?_)))
          show WP (Call d) 226 P X (4, [some (vr (some 90) 10), some (vi y), some (vi 2), some (vi (zor s9 (zshl 1 k))), some (vi (k + 1))], [], (I, H), 0, 0)
          exact ih4 (zor s9 (zshl 1 k)) (k + 1) (by omega) (by omega) (by rw [iv1, hB_y (p := fun i => NOONp μ (I 96) (HTC μ tl tb) i y) (by omega) (bz_e1.mp b32)])
  exact lp4 ((μ 1 - 0 : Int).toNat + 1) 0 0 (by omega) (by omega) rfl

theorem s_12_goodOf {d : Nat} {P : Option qV → qH → Prop} {X : Nat → qH → Prop} {I : qI} {H : qS} {μ : Int → Int} {tl tb : Int} (hd : 6 ≤ d) {f h9 : Int} (hS : Shp H) (hM : I 91 = μ) (hV : IM μ) (hA : ∀ y, 0 ≤ y → y < 100 → 0 ≤ I 96 y ∧ I 96 y < 96) (h29 : I 90 29 = tl) (h30 : I 90 30 = tb) (htb : 0 ≤ tb ∧ tb ≤ 29) (hf : 0 ≤ f ∧ f < μ 1) (h : P (some (vi (BRT μ (I 96) (HTC μ tl tb) h9 (μ (210 + 2 * f)) (μ (211 + 2 * f))))) (I, H)) :
    Call d 254 [vr (some 90) 10, vi f, vi h9] (I, H) P X := by
  obtain ⟨d, rfl⟩ : ∃ e, d = e + 1 := ⟨d - 1, by omega⟩
  have hl91 := hS.l91
  have v1 := hV.n1
  have v2 := hV.wa f hf.1 hf.2
  show WP (Call d) 254 P X (0, [some (vr (some 90) 10), some (vi f), some (vi h9)], [], (I, H), 0, 0)
  refine WP.go 10 (And.intro rfl (Exists.intro 91 (And.intro hS.r90_1 (Exists.intro (2 * f) (And.intro (wrp_a (by omega) (by omega)) (Exists.intro (210 + (2 * f)) (And.intro (wrp_a (by omega) (by omega)) (And.intro (And.intro rfl (And.intro (show 0 ≤ 210 + (2 * f) from by omega) (show 210 + (2 * f) < H.2.1 91 from by omega))) (?_)))))))))
  refine rw_i (Q := fun x9 => WP (Call d) 254 P X (10, [some (vr (some 90) 10), some (vi f), some (vi h9)], [vi x9, vi h9, vr (some 90) 10], (I, H), 0, 0)) (show I 91 (210 + (2 * f)) = μ (210 + 2 * f) from (congrFun hM _).trans (congrArg μ (by omega))) ?_
  show WP (Call d) 254 P X (10, [some (vr (some 90) 10), some (vi f), some (vi h9)], [vi (μ (210 + 2 * f)), vi h9, vr (some 90) 10], (I, H), 0, 0)
  refine WP.go 10 (And.intro rfl (Exists.intro 91 (And.intro hS.r90_1 (Exists.intro (2 * f) (And.intro (wrp_a (by omega) (by omega)) (Exists.intro (210 + (2 * f)) (And.intro (wrp_a (by omega) (by omega)) (Exists.intro ((210 + (2 * f)) + 1) (And.intro (wrp_a (by omega) (by omega)) (And.intro (And.intro rfl (And.intro (show 0 ≤ (210 + (2 * f)) + 1 from by omega) (show (210 + (2 * f)) + 1 < H.2.1 91 from by omega))) (?_)))))))))))
  refine rw_i (Q := fun x9 => WP (Call d) 254 P X (20, [some (vr (some 90) 10), some (vi f), some (vi h9)], [vi x9, vi (μ (210 + 2 * f)), vi h9, vr (some 90) 10], (I, H), 0, 0)) (show I 91 ((210 + (2 * f)) + 1) = μ (211 + 2 * f) from (congrFun hM _).trans (congrArg μ (by omega))) ?_
  show WP (Call d) 254 P X (20, [some (vr (some 90) 10), some (vi f), some (vi h9)], [vi (μ (211 + 2 * f)), vi (μ (210 + 2 * f)), vi h9, vr (some 90) 10], (I, H), 0, 0)
  refine WP.go 1 (And.intro (And.intro (Nat.le_of_ble_eq_true rfl) (Nat.le_of_ble_eq_true rfl)) (And.intro rfl (?_)))
  show Call d 222 [vr (some 90) 10, vi h9, vi (μ (210 + 2 * f)), vi (μ (211 + 2 * f))] (I, H) _ _
  refine s_12_brightOf (by omega) hS hM hV hA h29 h30 htb (by omega) ?_
  show WP (Call d) 254 P X (21, [some (vr (some 90) 10), some (vi f), some (vi h9)], [vi (BRT μ (I 96) (HTC μ tl tb) h9 (μ (210 + 2 * f)) (μ (211 + 2 * f)))], (I, H), 0, 0)
  refine WP.go 1 (And.intro (And.intro (Nat.le_of_ble_eq_true rfl) (Nat.le_of_ble_eq_true rfl)) (And.intro trivial (?_)))
  show P (some (vi (BRT μ (I 96) (HTC μ tl tb) h9 (μ (210 + 2 * f)) (μ (211 + 2 * f))))) (I, H)
  exact fin_i (by first | rfl | omega | exact zero_bz (by omega) | exact one_bz (by omega)) h

theorem s_12_losesBy {d : Nat} {P : Option qV → qH → Prop} {X : Nat → qH → Prop} {I : qI} {H : qS} {μ : Int → Int} (hd : 5 ≤ d) {h9 b w x y tb : Int} (hS : Shp H) (hM : I 91 = μ) (hV : IM μ) (hA : ∀ y, 0 ≤ y → y < 100 → 0 ≤ I 96 y ∧ I 96 y < 96) (h29 : I 90 29 = -1) (h30 : I 90 30 = tb) (htb : 0 ≤ tb ∧ tb ≤ 29) (hh : 0 ≤ h9 ∧ h9 < μ 1) (hb : 0 ≤ b ∧ b ≤ 29) (hw : 0 ≤ w ∧ w < μ 2) (ha : 0 ≤ x ∧ x ≤ y ∧ y < 100) (h : ∀ J : qI, (∀ s, s ≠ 29 → s ≠ 30 → J 90 s = I 90 s) → J 90 29 = -1 → J 90 30 = b → (∀ a, a ≠ 90 → J a = I a) → P (some (vi (LGW μ (I 96) (HTC μ (-1) 0) w x y - LGW μ (I 96) (HTC μ h9 b) w x y))) (J, H)) :
    Call d 249 [vr (some 90) 10, vi h9, vi b, vi w, vi x, vi y] (I, H) P X := by
  obtain ⟨d, rfl⟩ : ∃ e, d = e + 1 := ⟨d - 1, by omega⟩
  have m1 := LGW_bd (a := x) (b := y) (by omega) μ (I 96) (HTC μ (-1) tb) w
  show WP (Call d) 249 P X (0, [some (vr (some 90) 10), some (vi h9), some (vi b), some (vi w), some (vi x), some (vi y), none], [], (I, H), 0, 0)
  refine WP.go 5 (And.intro (And.intro (Nat.le_of_ble_eq_true rfl) (Nat.le_of_ble_eq_true rfl)) (And.intro rfl (?_)))
  show Call d 219 [vr (some 90) 10, vi w, vi x, vi y] (I, H) _ _
  refine s_12_lightOf (by omega) hS hM hV hA h29 h30 htb (by omega) (by omega) ?_
  show WP (Call d) 249 P X (5, [some (vr (some 90) 10), some (vi h9), some (vi b), some (vi w), some (vi x), some (vi y), none], [vi (LGW μ (I 96) (HTC μ (-1) tb) w x y)], (I, H), 0, 0)
  refine WP.go 4 (And.intro (And.intro rfl trivial) (?_))
  show WP (Call d) 249 P X (9, [some (vr (some 90) 10), some (vi h9), some (vi b), some (vi w), some (vi x), some (vi y), some (vi (LGW μ (I 96) (HTC μ (-1) tb) w x y))], [], ((upI I 90 29 h9), H), 0, 0)
  generalize hq_J0 : (upI I 90 29 h9) = J0
  have e_J0 : J0 90 = (fun j => if j = 29 then h9 else I 90 j) := by rw [← hq_J0]; exact upI_self _ _ _ _
  have f_J0 : ∀ a, a ≠ 90 → J0 a = I a := fun a q => by rw [← hq_J0]; exact upI_cell q
  refine WP.go 3 (And.intro (And.intro rfl trivial) (?_))
  show WP (Call d) 249 P X (12, [some (vr (some 90) 10), some (vi h9), some (vi b), some (vi w), some (vi x), some (vi y), some (vi (LGW μ (I 96) (HTC μ (-1) tb) w x y))], [], ((upI J0 90 30 b), H), 0, 0)
  generalize hq_J1 : (upI J0 90 30 b) = J1
  have e_J1 : J1 90 = (fun j => if j = 30 then b else J0 90 j) := by rw [← hq_J1]; exact upI_self _ _ _ _
  have f_J1 : ∀ a, a ≠ 90 → J1 a = J0 a := fun a q => by rw [← hq_J1]; exact upI_cell q
  have g91 : J1 91 = I 91 := by rw [f_J1 91 (by omega), f_J0 91 (by omega)]
  have g96 : J1 96 = I 96 := by rw [f_J1 96 (by omega), f_J0 96 (by omega)]
  have hM2 : J1 91 = μ := g91.trans hM
  have hA2 : ∀ y, 0 ≤ y → y < 100 → 0 ≤ J1 96 y ∧ J1 96 y < 96 := by rw [g96]; exact hA
  have h29b : J1 90 29 = h9 := by rw [e_J1, e_J0]; rfl
  have h30b : J1 90 30 = b := by rw [e_J1]; rfl
  have m3 := LGW_bd (a := x) (b := y) (by omega) μ (J1 96) (HTC μ h9 b) w
  refine WP.go 6 (And.intro (And.intro (Nat.le_of_ble_eq_true rfl) (Nat.le_of_ble_eq_true rfl)) (And.intro rfl (?_)))
  show Call d 219 [vr (some 90) 10, vi w, vi x, vi y] (J1, H) _ _
  refine s_12_lightOf (by omega) hS hM2 hV hA2 h29b h30b hb (by omega) (by omega) ?_
  show WP (Call d) 249 P X (18, [some (vr (some 90) 10), some (vi h9), some (vi b), some (vi w), some (vi x), some (vi y), some (vi (LGW μ (I 96) (HTC μ (-1) tb) w x y))], [vi (LGW μ (J1 96) (HTC μ h9 b) w x y), vi (LGW μ (I 96) (HTC μ (-1) tb) w x y)], (J1, H), 0, 0)
  refine WP.go 7 (Exists.intro ((LGW μ (I 96) (HTC μ (-1) tb) w x y) - (LGW μ (J1 96) (HTC μ h9 b) w x y)) (And.intro (wrp_a (by omega) (by omega)) (And.intro (And.intro rfl trivial) (And.intro (And.intro (Nat.le_of_ble_eq_true rfl) (Nat.le_of_ble_eq_true rfl)) (And.intro trivial (?_))))))
  show P (some (vi ((LGW μ (I 96) (HTC μ (-1) tb) w x y) - (LGW μ (J1 96) (HTC μ h9 b) w x y)))) ((upI J1 90 29 (-1)), H)
  exact fin_i (by rw [g96, LGW_congr (A' := I 96) (T' := HTC μ (-1) 0) ha.1 (by omega) (fun _ _ _ => rfl) (fun c _ _ => HTC_irr (by omega) hV _ _ _)]) (h _ (fun s q1 q2 => by rw [upI_self, e_J1, e_J0]; show (if s = 29 then _ else if s = 30 then _ else if s = 29 then _ else I 90 s) = _; rw [if_neg q1, if_neg q2, if_neg q1]) (upI_same _ _ _ _) (by rw [upI_self, e_J1]; rfl) (fun a q => (upI_cell q).trans ((f_J1 a q).trans (f_J0 a q))))

