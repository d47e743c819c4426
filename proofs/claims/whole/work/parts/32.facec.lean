theorem shN_mono {T T' : Int → Int} {dx dy up high : Int} (e : ∀ c, 0 ≤ c → c < 81 → T c ≤ T' c) : ∀ (n : Nat) (k x y : Int), shN T dx dy up high n k x y → shN T' dx dy up high n k x y
  | 0, _, _, _ => id
  | n + 1, k, x, y => fun h => by
    have h1 := e (9 * (y + dy) + (x + dx)) (by have := h.1; omega) (by have := h.1; omega)
    exact ⟨h.1, h.2.elim (fun q => .inl (by omega)) (fun q => .inr (shN_mono e n _ _ _ q))⟩
theorem LITp_mono {μ A T T' : Int → Int} {w hr y : Int} (e : ∀ c, 0 ≤ c → c < 81 → T c ≤ T' c) (h : LITp μ A T' w hr y) : LITp μ A T w hr y := ⟨h.1, fun q => h.2 (shN_mono e _ _ _ _ q)⟩
theorem sm_le {f g : Int → Int} {a : Int} : ∀ n : Nat, (∀ i, f i ≤ g i) → sm f a n ≤ sm g a n
  | 0, _ => Int.le_refl _
  | n + 1, h => by have := sm_le (f := f) (g := g) (a := a) n h; have := h (a + n); show sm f a n + f (a + n) ≤ sm g a n + g (a + n); omega
theorem LGW_mono {μ A T T' : Int → Int} {w a b : Int} (e : ∀ c, 0 ≤ c → c < 81 → T c ≤ T' c) : LGW μ A T' w a b ≤ LGW μ A T w a b :=
  sm_le _ (fun y => sm_le _ (fun hr => by
    show bz (LITp μ A T' w hr y) ≤ bz (LITp μ A T w hr y)
    have := bz_b (LITp μ A T w hr y)
    rcases Classical.em (LITp μ A T' w hr y) with q | q
    · rw [bz_1 q, bz_1 (LITp_mono e q)]; omega
    · rw [bz_0 q]; omega))
theorem HTC_le {μ : Int → Int} (hV : IM μ) {h b b' : Int} (h0 : 0 ≤ h) (h1 : h < μ 1) (hb : b ≤ b') (c : Int) : HTC μ h b c ≤ HTC μ h b' c := by
  rw [HTC_r hV h0 h1, HTC_r hV h0 h1]
  split <;> omega
theorem HTC_0 {μ : Int → Int} (hV : IM μ) {h : Int} (h0 : 0 ≤ h) (h1 : h < μ 1) (c : Int) : HTC μ h 0 c = HT μ c := by
  rw [HTC_r hV h0 h1]
  unfold HT
  split <;> omega
/-- nothing lost by a higher house: nothing by a lower one -/
theorem LST_mono {μ : Int → Int} (hV : IM μ) {h b b' w x y : Int} (h0 : 0 ≤ h) (h1 : h < μ 1) (hb : 0 ≤ b) (hbb : b ≤ b') (q : LST μ h b' w x y = 0) : LST μ h b w x y = 0 := by
  unfold LST at *
  have a1 : LGW μ (AN μ) (HTC μ h b') w x y ≤ LGW μ (AN μ) (HTC μ h b) w x y := LGW_mono (fun c _ _ => HTC_le hV h0 h1 hbb c)
  have a2 : LGW μ (AN μ) (HTC μ h b) w x y ≤ LGW μ (AN μ) (HT μ) w x y := LGW_mono (fun c _ _ => by rw [← HTC_0 hV h0 h1]; exact HTC_le hV h0 h1 hb c)
  omega
theorem LST_0 {μ : Int → Int} (hV : IM μ) {h w x y : Int} (h0 : 0 ≤ h) (h1 : h < μ 1) (hx : 0 ≤ x) (hy : y < 100) : LST μ h 0 w x y = 0 := by
  unfold LST
  rw [LGW_congr hx hy (fun _ _ _ => rfl) (fun c _ _ => HTC_0 hV h0 h1 c)]
  omega
/-- the greatest so much by which nothing is lost -/
noncomputable def GAB (μ : Int → Int) (h w x y : Int) : Int := laN (fun b => LST μ h b w x y = 0) (30 - μ (121 + 2 * h) - 0).toNat 0
theorem GAB_r {μ : Int → Int} (hV : IM μ) {h w x y : Int} (h0 : 0 ≤ h) (h1 : h < μ 1) (hx : 0 ≤ x) (hy : y < 100) : 0 ≤ GAB μ h w x y ∧ GAB μ h w x y ≤ 30 - μ (121 + 2 * h) ∧ ∀ b, 0 ≤ b → b ≤ 30 - μ (121 + 2 * h) → (LST μ h b w x y = 0 ↔ b ≤ GAB μ h w x y) := by
  have v := hV.hh h h0 h1
  obtain ⟨r1, r2, r3, r4⟩ := laN_r (p := fun b => LST μ h b w x y = 0) (30 - μ (121 + 2 * h) - 0).toNat 0
  have e : GAB μ h w x y = laN (fun b => LST μ h b w x y = 0) (30 - μ (121 + 2 * h) - 0).toNat 0 := rfl
  rw [← e] at r1 r2 r3 r4
  refine ⟨r1, by omega, fun b q1 q2 => ⟨fun q => ?_, fun q => ?_⟩⟩
  · rcases Int.lt_or_le (GAB μ h w x y) b with z | z
    · exact absurd (LST_mono hV h0 h1 (by omega) (show GAB μ h w x y + 1 ≤ b by omega) q) (r4 (by omega))
    · exact z
  · rcases Int.lt_or_eq_of_le q1 with z | z
    · exact r3 b z q
    · rw [← z]; exact LST_0 hV h0 h1 hx hy
theorem s_11_areForOneHouse {d : Nat} {P : Option qV → qH → Prop} {X : Nat → qH → Prop} {I : qI} {H : qS} {μ : Int → Int} (hd : 3 ≤ d) {a b : Int} (hS : Shp H) (hT : TR 6 I μ) (hV : IM μ) (ha : 0 ≤ a ∧ a < μ 5) (hb : 0 ≤ b ∧ b < μ 5) (h : P (some (vi (bz (μ (140 + 3 * μ (394 + 3 * a)) = μ (140 + 3 * μ (394 + 3 * b)))))) (I, H)) :
    Call d 161 [vr (some 3) 9, vi a, vi b] (I, H) P X := by
  obtain ⟨d, rfl⟩ : ∃ e, d = e + 1 := ⟨d - 1, by omega⟩
  have v1 := hV.pw a ha.1 ha.2
  have v2 := hV.pw b hb.1 hb.2
  show WP (Call d) 161 P X (0, [some (vr (some 3) 9), some (vi a), some (vi b), none, none], [], (I, H), 0, 0)
  refine WP.go 6 (And.intro rfl (Exists.intro 6 (And.intro hS.r3_4 (And.intro rfl (Exists.intro 15 (And.intro hS.r6_4 (And.intro (And.intro (Nat.le_of_ble_eq_true rfl) (Nat.le_of_ble_eq_true rfl)) (And.intro rfl (?_)))))))))
  show Call d 58 [vr (some 15) 4, vi a, vi 2] (I, H) _ _
  refine s_get_promises2 (by omega) hS (.inl rfl) hT hV (by omega) ?_
  show WP (Call d) 161 P X (6, [some (vr (some 3) 9), some (vi a), some (vi b), none, none], [vi (μ (394 + 3 * a))], (I, H), 0, 0)
  refine WP.go 7 (And.intro rfl (Exists.intro 6 (And.intro hS.r3_4 (And.intro rfl (Exists.intro 15 (And.intro hS.r6_4 (And.intro (And.intro (Nat.le_of_ble_eq_true rfl) (Nat.le_of_ble_eq_true rfl)) (And.intro rfl (?_)))))))))
  show Call d 58 [vr (some 15) 4, vi b, vi 2] (I, H) _ _
  refine s_get_promises2 (by omega) hS (.inl rfl) hT hV (by omega) ?_
  show WP (Call d) 161 P X (13, [some (vr (some 3) 9), some (vi a), some (vi b), some (vi (μ (394 + 3 * a))), none], [vi (μ (394 + 3 * b))], (I, H), 0, 0)
  refine WP.go 5 (And.intro rfl (Exists.intro 6 (And.intro hS.r3_4 (And.intro (And.intro (Nat.le_of_ble_eq_true rfl) (Nat.le_of_ble_eq_true rfl)) (And.intro rfl (?_))))))
  show Call d 95 [vr (some 6) 6, vi (μ (394 + 3 * a))] (I, H) _ _
  refine s_8_houseOf (by omega) hS (.inl rfl) hT hV (by omega) ?_
  show WP (Call d) 161 P X (18, [some (vr (some 3) 9), some (vi a), some (vi b), some (vi (μ (394 + 3 * a))), some (vi (μ (394 + 3 * b)))], [vi (μ (140 + 3 * (μ (394 + 3 * a))))], (I, H), 0, 0)
  refine WP.go 4 (And.intro rfl (Exists.intro 6 (And.intro hS.r3_4 (And.intro (And.intro (Nat.le_of_ble_eq_true rfl) (Nat.le_of_ble_eq_true rfl)) (And.intro rfl (?_))))))
  show Call d 95 [vr (some 6) 6, vi (μ (394 + 3 * b))] (I, H) _ _
  refine s_8_houseOf (by omega) hS (.inl rfl) hT hV (by omega) ?_
  show WP (Call d) 161 P X (22, [some (vr (some 3) 9), some (vi a), some (vi b), some (vi (μ (394 + 3 * a))), some (vi (μ (394 + 3 * b)))], [vi (μ (140 + 3 * (μ (394 + 3 * b)))), vi (μ (140 + 3 * (μ (394 + 3 * a))))], (I, H), 0, 0)
  refine WP.go 1 (And.intro (fun (b22 : ¬ μ (140 + 3 * (μ (394 + 3 * a))) = μ (140 + 3 * (μ (394 + 3 * b)))) => ?_) (fun (b22 : μ (140 + 3 * (μ (394 + 3 * a))) = μ (140 + 3 * (μ (394 + 3 * b)))) => ?_))
  ·
    show WP (Call d) 161 P X (25, [some (vr (some 3) 9), some (vi a), some (vi b), some (vi (μ (394 + 3 * a))), some (vi (μ (394 + 3 * b)))], [], (I, H), 0, 0)
    refine WP.go 2 (And.intro (And.intro (Nat.le_of_ble_eq_true rfl) (Nat.le_of_ble_eq_true rfl)) (And.intro (Or.inl rfl) (?_)))
    show P (some (vi 0)) (I, H)
    exact fin_i (by first | rfl | omega | exact zero_bz (by omega) | exact one_bz (by omega)) h
  ·
    show WP (Call d) 161 P X (23, [some (vr (some 3) 9), some (vi a), some (vi b), some (vi (μ (394 + 3 * a))), some (vi (μ (394 + 3 * b)))], [], (I, H), 0, 0)
    refine WP.go 3 (And.intro (And.intro (Nat.le_of_ble_eq_true rfl) (Nat.le_of_ble_eq_true rfl)) (And.intro (Or.inr rfl) (?_)))
    show P (some (vi 1)) (I, H)
    exact fin_i (by first | rfl | omega | exact zero_bz (by omega) | exact one_bz (by omega)) h

theorem s_11_haveYearInCommon {d : Nat} {P : Option qV → qH → Prop} {X : Nat → qH → Prop} {I : qI} {H : qS} {μ : Int → Int} (hd : 2 ≤ d) {a b : Int} (hS : Shp H) (hT : TR 6 I μ) (hV : IM μ) (ha : 0 ≤ a ∧ a < μ 5) (hb : 0 ≤ b ∧ b < μ 5) (h : P (some (vi (bz (μ (395 + 3 * a) ≤ μ (396 + 3 * b) ∧ μ (395 + 3 * b) ≤ μ (396 + 3 * a))))) (I, H)) :
    Call d 162 [vr (some 3) 9, vi a, vi b] (I, H) P X := by
  obtain ⟨d, rfl⟩ : ∃ e, d = e + 1 := ⟨d - 1, by omega⟩
  show WP (Call d) 162 P X (0, [some (vr (some 3) 9), some (vi a), some (vi b)], [], (I, H), 0, 0)
  refine WP.go 6 (And.intro rfl (Exists.intro 6 (And.intro hS.r3_4 (And.intro rfl (Exists.intro 15 (And.intro hS.r6_4 (And.intro (And.intro (Nat.le_of_ble_eq_true rfl) (Nat.le_of_ble_eq_true rfl)) (And.intro rfl (?_)))))))))
  show Call d 58 [vr (some 15) 4, vi a, vi 0] (I, H) _ _
  refine s_get_promises0 (by omega) hS (.inl rfl) hT hV (by omega) ?_
  show WP (Call d) 162 P X (6, [some (vr (some 3) 9), some (vi a), some (vi b)], [vi (μ (395 + 3 * a))], (I, H), 0, 0)
  refine WP.go 6 (And.intro rfl (Exists.intro 6 (And.intro hS.r3_4 (And.intro rfl (Exists.intro 15 (And.intro hS.r6_4 (And.intro (And.intro (Nat.le_of_ble_eq_true rfl) (Nat.le_of_ble_eq_true rfl)) (And.intro rfl (?_)))))))))
  show Call d 58 [vr (some 15) 4, vi b, vi 1] (I, H) _ _
  refine s_get_promises1 (by omega) hS (.inl rfl) hT hV (by omega) ?_
  show WP (Call d) 162 P X (12, [some (vr (some 3) 9), some (vi a), some (vi b)], [vi (μ (396 + 3 * b)), vi (μ (395 + 3 * a))], (I, H), 0, 0)
  refine WP.go 1 (And.intro (fun (b12 : μ (396 + 3 * b) < μ (395 + 3 * a)) => ?_) (fun (b12 : ¬ μ (396 + 3 * b) < μ (395 + 3 * a)) => ?_))
  ·
    show WP (Call d) 162 P X (28, [some (vr (some 3) 9), some (vi a), some (vi b)], [], (I, H), 0, 0)
    refine WP.go 2 (And.intro (And.intro (Nat.le_of_ble_eq_true rfl) (Nat.le_of_ble_eq_true rfl)) (And.intro (Or.inl rfl) (?_)))
    show P (some (vi 0)) (I, H)
    exact fin_i (by first | rfl | omega | exact zero_bz (by omega) | exact one_bz (by omega)) h
  ·
    show WP (Call d) 162 P X (13, [some (vr (some 3) 9), some (vi a), some (vi b)], [], (I, H), 0, 0)
    refine WP.go 6 (And.intro rfl (Exists.intro 6 (And.intro hS.r3_4 (And.intro rfl (Exists.intro 15 (And.intro hS.r6_4 (And.intro (And.intro (Nat.le_of_ble_eq_true rfl) (Nat.le_of_ble_eq_true rfl)) (And.intro rfl (?_)))))))))
    show Call d 58 [vr (some 15) 4, vi b, vi 0] (I, H) _ _
    refine s_get_promises0 (by omega) hS (.inl rfl) hT hV (by omega) ?_
    show WP (Call d) 162 P X (19, [some (vr (some 3) 9), some (vi a), some (vi b)], [vi (μ (395 + 3 * b))], (I, H), 0, 0)
    refine WP.go 6 (And.intro rfl (Exists.intro 6 (And.intro hS.r3_4 (And.intro rfl (Exists.intro 15 (And.intro hS.r6_4 (And.intro (And.intro (Nat.le_of_ble_eq_true rfl) (Nat.le_of_ble_eq_true rfl)) (And.intro rfl (?_)))))))))
    show Call d 58 [vr (some 15) 4, vi a, vi 1] (I, H) _ _
    refine s_get_promises1 (by omega) hS (.inl rfl) hT hV (by omega) ?_
    show WP (Call d) 162 P X (25, [some (vr (some 3) 9), some (vi a), some (vi b)], [vi (μ (396 + 3 * a)), vi (μ (395 + 3 * b))], (I, H), 0, 0)
    refine WP.go 1 (And.intro (fun (b25 : μ (396 + 3 * a) < μ (395 + 3 * b)) => ?_) (fun (b25 : ¬ μ (396 + 3 * a) < μ (395 + 3 * b)) => ?_))
    ·
      show WP (Call d) 162 P X (28, [some (vr (some 3) 9), some (vi a), some (vi b)], [], (I, H), 0, 0)
      refine WP.go 2 (And.intro (And.intro (Nat.le_of_ble_eq_true rfl) (Nat.le_of_ble_eq_true rfl)) (And.intro (Or.inl rfl) (?_)))
      show P (some (vi 0)) (I, H)
      exact fin_i (by first | rfl | omega | exact zero_bz (by omega) | exact one_bz (by omega)) h
    ·
      show WP (Call d) 162 P X (26, [some (vr (some 3) 9), some (vi a), some (vi b)], [], (I, H), 0, 0)
      refine WP.go 3 (And.intro (And.intro (Nat.le_of_ble_eq_true rfl) (Nat.le_of_ble_eq_true rfl)) (And.intro (Or.inr rfl) (?_)))
      show P (some (vi 1)) (I, H)
      exact fin_i (by first | rfl | omega | exact zero_bz (by omega) | exact one_bz (by omega)) h

theorem TW_bd {μ : Int → Int} {k m : Int} (h0 : 0 ≤ m) (h1 : m ≤ 16) : 0 ≤ sI (fun i => bz (TWp μ i k)) 0 m ∧ sI (fun i => bz (TWp μ i k)) 0 m ≤ 16 := by
  have := sI_bd (f := fun i => bz (TWp μ i k)) 0 1 h0 (fun i _ _ => bz_b _)
  omega
theorem TWs_bd {μ : Int → Int} {m : Int} (h0 : 0 ≤ m) (h1 : m ≤ 16) : 0 ≤ sI (fun k => sI (fun i => bz (TWp μ i k)) 0 k) 0 m ∧ sI (fun k => sI (fun i => bz (TWp μ i k)) 0 k) 0 m ≤ 256 := by
  have := sI_bd (f := fun k => sI (fun i => bz (TWp μ i k)) 0 k) 0 16 h0 (fun i q1 q2 => TW_bd q1 (by omega))
  omega
theorem s_11_twice {d : Nat} {P : Option qV → qH → Prop} {X : Nat → qH → Prop} {I : qI} {H : qS} {μ : Int → Int} (hd : 4 ≤ d) (hS : Shp H) (hX : SX I) (hT : TR 6 I μ) (hV : IM μ) (h : ∀ J : qI, CF I J → P (some (vi (TWI μ))) (J, H)) :
    Call d 134 [vr (some 3) 9] (I, H) P X := by
  obtain ⟨d, rfl⟩ : ∃ e, d = e + 1 := ⟨d - 1, by omega⟩
  have v1 := hV.n5
  show WP (Call d) 134 P X (0, [some (vr (some 3) 9), none, none, none], [], (I, H), 0, 0)
  refine WP.go 4 ?_
  show WP (Call d) 134 P X (4, [some (vr (some 3) 9), some (vi 0), some (vi 1), none], [], (I, H), 0, 0)
  have lp4 : ∀ (n9 : Nat) (s9 : Int) (c9 : Int) (hm : 20 - c9 < (n9 : Int)) (iv0 : 1 ≤ c9 ∧ (c9 ≤ μ 5 ∨ c9 = 1)) (iv1 : s9 = sI (fun k => sI (fun i => bz (TWp μ i k)) 0 k) 0 c9), WP (Call d) 134 P X (4, [some (vr (some 3) 9), some (vi s9), some (vi c9), none], [], (I, H), 0, 0) := by
    intro n9
    induction n9 with
    | zero => intro s9 c9 hm iv0 iv1; exact absurd hm (by omega)
    | succ n9 ih4 =>
      intro s9 c9 hm iv0 iv1
      have m1 := TWs_bd (μ := μ) (m := c9) (by omega) (by omega)
      refine WP.go 5 (And.intro rfl (Exists.intro 6 (And.intro hS.r3_4 (And.intro rfl (Exists.intro 15 (And.intro hS.r6_4 (And.intro (And.intro (Nat.le_of_ble_eq_true rfl) (Nat.le_of_ble_eq_true rfl)) (And.intro rfl (?_)))))))))
      show Call d 55 [vr (some 15) 4] (I, H) _ _
      refine s_size_promises (by omega) hT ?_
      show WP (Call d) 134 P X (9, [some (vr (some 3) 9), some (vi s9), some (vi c9), none], [vi (μ 5), vi c9], (I, H), 0, 0)
      refine WP.go 1 (And.intro (fun (b9 : ¬ c9 < μ 5) => ?_) (fun (b9 : c9 < μ 5) => ?_))
      ·
        show WP (Call d) 134 P X (35, [some (vr (some 3) 9), some (vi s9), some (vi c9), none], [], (I, H), 0, 0)
        refine WP.go 2 (And.intro (And.intro (Nat.le_of_ble_eq_true rfl) (Nat.le_of_ble_eq_true rfl)) (And.intro trivial (?_)))
        show P (some (vi s9)) (I, H)
        exact fin_i (by unfold TWI; rw [iv1]; rcases Int.lt_or_le 0 (μ 5) with z | z; rw [show c9 = μ 5 by omega]; rw [show c9 = 1 by omega, show μ 5 = 0 by omega, show (1 : Int) = 0 + 1 by omega, sI_succ (Int.le_refl _), sI_nil (Int.le_refl _)]; show 0 + sI _ 0 0 = 0; rw [sI_nil (Int.le_refl _)]; rfl) (h _ (CF.rf I))
      ·
        show WP (Call d) 134 P X (10, [some (vr (some 3) 9), some (vi s9), some (vi c9), none], [], (I, H), 0, 0)
        refine WP.go 2 ?_
        show WP (Call d) 134 P X (12, [some (vr (some 3) 9), some (vi s9), some (vi c9), some (vi 0)], [], (I, H), 0, 0)
        have lp12 : ∀ (n9 : Nat) (t9 : Int) (a9 : Int) (hm : c9 - a9 < (n9 : Int)) (jv0 : 0 ≤ a9 ∧ a9 ≤ c9 ∧ c9 < μ 5) (jv1 : t9 = s9 + sI (fun i => bz (TWp μ i c9)) 0 a9), WP (Call d) 134 P X (12, [some (vr (some 3) 9), some (vi t9), some (vi c9), some (vi a9)], [], (I, H), 0, 0) := by
          intro n9
          induction n9 with
          | zero => intro t9 a9 hm jv0 jv1; exact absurd hm (by omega)
          | succ n9 ih12 =>
            intro t9 a9 hm jv0 jv1
            have m2 := TW_bd (μ := μ) (k := c9) (m := a9) (by omega) (by omega)
            refine WP.go 3 (And.intro (fun (b14 : ¬ a9 < c9) => ?_) (fun (b14 : a9 < c9) => ?_))
            ·
              show WP (Call d) 134 P X (33, [some (vr (some 3) 9), some (vi t9), some (vi c9), some (vi a9)], [], (I, H), 0, 0)
              refine WP.go 2 (Exists.intro (c9 + 1) (And.intro (wrp_a (by omega) (by omega)) (?_)))
              show WP (Call d) 134 P X (4, [some (vr (some 3) 9), some (vi t9), some (vi (c9 + 1)), some (vi a9)], [], (I, H), 0, 0)
              refine WP.wk (L := [some (vr (some 3) 9), some (vi t9), some (vi (c9 + 1)), none]) (And.intro rfl (And.intro rfl (And.intro rfl (And.intro trivial (trivial))))) ?_
              show WP (Call d) 134 P X (4, [some (vr (some 3) 9), some (vi t9), some (vi (c9 + 1)), none], [], (I, H), 0, 0)
              exact ih4 t9 (c9 + 1) (by omega) (by omega) (by rw [sI_succ (by omega), jv1, ← iv1, show a9 = c9 by omega])
            ·
              show WP (Call d) 134 P X (15, [some (vr (some 3) 9), some (vi t9), some (vi c9), some (vi a9)], [], (I, H), 0, 0)
              refine WP.go 5 (And.intro (And.intro (Nat.le_of_ble_eq_true rfl) (Nat.le_of_ble_eq_true rfl)) (And.intro rfl (?_)))
              show Call d 161 [vr (some 3) 9, vi a9, vi c9] (I, H) _ _
              refine s_11_areForOneHouse (by omega) hS hT hV (by omega) (by omega) ?_
              show WP (Call d) 134 P X (20, [some (vr (some 3) 9), some (vi t9), some (vi c9), some (vi a9)], [vi (bz (μ (140 + 3 * μ (394 + 3 * a9)) = μ (140 + 3 * μ (394 + 3 * c9)))), vi t9], (I, H), 0, 0)
              refine WP.go 1 (And.intro (fun (b20 : bz (μ (140 + 3 * μ (394 + 3 * a9)) = μ (140 + 3 * μ (394 + 3 * c9))) = 0) => ?_) (fun (b20 : ¬ bz (μ (140 + 3 * μ (394 + 3 * a9)) = μ (140 + 3 * μ (394 + 3 * c9))) = 0) => ?_))
              ·
                show WP (Call d) 134 P X (28, [some (vr (some 3) 9), some (vi t9), some (vi c9), some (vi a9)], [vi t9], (I, H), 0, 0)
                have z20 := bz_e0.mp b20
                refine WP.go 5 (Exists.intro (t9 + 0) (And.intro (wrp_a (by omega) (by omega)) (Exists.intro (a9 + 1) (And.intro (wrp_a (by omega) (by omega)) (?_)))))
                show WP (Call d) 134 P X (12, [some (vr (some 3) 9), some (vi (t9 + 0)), some (vi c9), some (vi (a9 + 1))], [], (I, H), 0, 0)
                exact ih12 (t9 + 0) (a9 + 1) (by omega) (by omega) (by rw [sI_succ (by omega), bz_0 (fun z => bz_e0.mp b20 z.1)]; omega)
              ·
                show WP (Call d) 134 P X (21, [some (vr (some 3) 9), some (vi t9), some (vi c9), some (vi a9)], [vi t9], (I, H), 0, 0)
                have z20 := bz_e1.mp b20
                refine WP.go 4 (And.intro (And.intro (Nat.le_of_ble_eq_true rfl) (Nat.le_of_ble_eq_true rfl)) (And.intro rfl (?_)))
                show Call d 162 [vr (some 3) 9, vi a9, vi c9] (I, H) _ _
                refine s_11_haveYearInCommon (by omega) hS hT hV (by omega) (by omega) ?_
                show WP (Call d) 134 P X (25, [some (vr (some 3) 9), some (vi t9), some (vi c9), some (vi a9)], [vi (bz (μ (395 + 3 * a9) ≤ μ (396 + 3 * c9) ∧ μ (395 + 3 * c9) ≤ μ (396 + 3 * a9))), vi t9], (I, H), 0, 0)
                refine WP.go 1 (And.intro (fun (b25 : bz (μ (395 + 3 * a9) ≤ μ (396 + 3 * c9) ∧ μ (395 + 3 * c9) ≤ μ (396 + 3 * a9)) = 0) => ?_) (fun (b25 : ¬ bz (μ (395 + 3 * a9) ≤ μ (396 + 3 * c9) ∧ μ (395 + 3 * c9) ≤ μ (396 + 3 * a9)) = 0) => ?_))
                ·
                  show WP (Call d) 134 P X (28, [some (vr (some 3) 9), some (vi t9), some (vi c9), some (vi a9)], [vi t9], (I, H), 0, 0)
                  have z25 := bz_e0.mp b25
                  refine WP.go 5 (Exists.intro (t9 + 0) (And.intro (wrp_a (by omega) (by omega)) (Exists.intro (a9 + 1) (And.intro (wrp_a (by omega) (by omega)) (?_)))))
                  show WP (Call d) 134 P X (12, [some (vr (some 3) 9), some (vi (t9 + 0)), some (vi c9), some (vi (a9 + 1))], [], (I, H), 0, 0)
                  exact ih12 (t9 + 0) (a9 + 1) (by omega) (by omega) (by rw [sI_succ (by omega), bz_0 (fun z => bz_e0.mp b25 ⟨z.2.1, z.2.2⟩)]; omega)
                ·
                  show WP (Call d) 134 P X (26, [some (vr (some 3) 9), some (vi t9), some (vi c9), some (vi a9)], [vi t9], (I, H), 0, 0)
                  have z25 := bz_e1.mp b25
                  refine WP.go 6 (Exists.intro (t9 + 1) (And.intro (wrp_a (by omega) (by omega)) (Exists.intro (a9 + 1) (And.intro (wrp_a (by omega) (by omega)) (?_)))))
                  show WP (Call d) 134 P X (12, [some (vr (some 3) 9), some (vi (t9 + 1)), some (vi c9), some (vi (a9 + 1))], [], (I, H), 0, 0)
                  exact ih12 (t9 + 1) (a9 + 1) (by omega) (by omega) (by rw [sI_succ (by omega), bz_1 ⟨bz_e1.mp b20, (bz_e1.mp b25).1, (bz_e1.mp b25).2⟩]; omega)
        exact lp12 ((c9 - 0 : Int).toNat + 1) s9 0 (by omega) (by omega) (by rw [sI_nil (by omega)]; omega)
  exact lp4 ((20 - 1 : Int).toNat + 1) 0 1 (by omega) (by omega) (by rw [show (1 : Int) = 0 + 1 by omega, sI_succ (Int.le_refl _), sI_nil (Int.le_refl _)]; show (0 : Int) = 0 + sI _ 0 0; rw [sI_nil (Int.le_refl _)]; rfl)

theorem s_11_uphill {d : Nat} {P : Option qV → qH → Prop} {X : Nat → qH → Prop} {I : qI} {H : qS} {μ : Int → Int} (hd : 6 ≤ d) {k v : Int} (hS : Shp H) (hX : SX I) (hT : TR 6 I μ) (hV : IM μ) (h : ((0 ≤ k ∧ k < μ 6)) → ∀ J : qI, CF I J → P (some (vi (UPH μ (AN μ) k v))) (J, H)) (hx1 : ¬ ((0 ≤ k ∧ k < μ 6)) → X 1 (I, H)) :
    Call d 138 [vr (some 3) 9, vi k, vi v] (I, H) P X := by
  obtain ⟨d, rfl⟩ : ∃ e, d = e + 1 := ⟨d - 1, by omega⟩
  show WP (Call d) 138 P X (0, [some (vr (some 3) 9), some (vi k), some (vi v), none, none, none, none], [], (I, H), 0, 0)
  refine WP.go 5 (And.intro rfl (Exists.intro 6 (And.intro hS.r3_4 (And.intro rfl (Exists.intro 17 (And.intro hS.r6_5 (And.intro (And.intro (Nat.le_of_ble_eq_true rfl) (Nat.le_of_ble_eq_true rfl)) (And.intro rfl (?_)))))))))
  show Call d 56 [vr (some 17) 4, vi k] (I, H) _ _
  refine s_has_drains (by omega) hT ?_
  show WP (Call d) 138 P X (5, [some (vr (some 3) 9), some (vi k), some (vi v), none, none, none, none], [vi (bz (0 ≤ k ∧ k < μ 6))], (I, H), 0, 0)
  refine WP.go 1 (And.intro (And.intro (Nat.le_of_ble_eq_true rfl) (Nat.le_of_ble_eq_true rfl)) (And.intro rfl (?_)))
  show Call d 163 [vi (bz (0 ≤ k ∧ k < μ 6))] (I, H) _ _
  refine s_11_needThere_b (by omega)  (fun q5 => ?_) (fun q9 => hx1 (by omega))
  show WP (Call d) 138 P X (6, [some (vr (some 3) 9), some (vi k), some (vi v), none, none, none, none], [], (I, H), 1, 6)
  refine WP.go 2 (And.intro rfl (Exists.intro 79 (And.intro hS.r3_7 (?_))))
  show WP (Call d) 138 P X (8, [some (vr (some 3) 9), some (vi k), some (vi v), none, none, none, none], [vr (some 79) 0], (I, H), 1, 6)
  have hcg : ∀ {A T : Int → Int}, OPN μ (-1) 0 A T → upF (RUNp μ A k) 100 0 0 0 (-1) = upF (RUNp μ (AN μ) k) 100 0 0 0 (-1) := fun e => upF_congr _ _ _ _ _ (fun i q1 q2 => by unfold RUNp LVL; rw [e.a i (by omega) (by omega)])
  refine WP.go 1 (And.intro (And.intro (Nat.le_of_ble_eq_true rfl) (Nat.le_of_ble_eq_true rfl)) (And.intro rfl (?_)))
  show Call d 1 [vr (some 79) 0] (I, H) _ _
  refine s_0_open (by omega) hS hX hT hV (fun J8 e8 f8 => ?_)
  show WP (Call d) 138 P X (9, [some (vr (some 3) 9), some (vi k), some (vi v), none, none, none, none], [], (J8, H), 1, 6)
  have hX_1 : SX J8 := SX.fr hX (f8 0 (by omega) (by omega)) (f8 1 (by omega) (by omega))
  have hT_2 : TR 6 J8 μ := hT.fr (fun a q1 q2 => f8 a (by omega) (by omega))
  have hA_3 : AB (J8 80) (J8 81) := e8.ab hV
  refine WP.go 8 ?_
  show WP (Call d) 138 P X (17, [some (vr (some 3) 9), some (vi k), some (vi v), some (vi 0), some (vi 0), some (vi (-1)), some (vi 0)], [], (J8, H), 1, 6)
  have lp17 : ∀ (n9 : Nat) (r9 : Int) (l9 : Int) (c9 : Int) (y : Int) (hm : 100 - y < (n9 : Int)) (iv0 : 0 ≤ y ∧ y ≤ 100 ∧ 0 ≤ r9 ∧ r9 ≤ y ∧ 0 ≤ l9 ∧ l9 ≤ 100) (iv1 : upF (RUNp μ (J8 80) k) 100 0 0 0 (-1) = upF (RUNp μ (J8 80) k) (100 - y).toNat y r9 l9 c9), WP (Call d) 138 P X (17, [some (vr (some 3) 9), some (vi k), some (vi v), some (vi r9), some (vi l9), some (vi c9), some (vi y)], [], (J8, H), 1, 6) := by
    intro n9
    induction n9 with
    | zero => intro r9 l9 c9 y hm iv0 iv1; exact absurd hm (by omega)
    | succ n9 ih17 =>
      intro r9 l9 c9 y hm iv0 iv1
      refine WP.go 3 (And.intro (fun (b19 : ¬ y < 100) => ?_) (fun (b19 : y < 100) => ?_))
      ·
        show WP (Call d) 138 P X (45, [some (vr (some 3) 9), some (vi k), some (vi v), some (vi r9), some (vi l9), some (vi c9), some (vi y)], [], (J8, H), 1, 6)
        refine WP.go 2 (And.intro (fun (b46 : v = 0) => ?_) (fun (b46 : ¬ v = 0) => ?_))
        ·
          show WP (Call d) 138 P X (49, [some (vr (some 3) 9), some (vi k), some (vi v), some (vi r9), some (vi l9), some (vi c9), some (vi y)], [], (J8, H), 1, 6)
          refine WP.go 2 (And.intro (And.intro (Nat.le_of_ble_eq_true rfl) (Nat.le_of_ble_eq_true rfl)) (And.intro trivial (?_)))
          show P (some (vi l9)) (J8, H)
          exact fin_i (by unfold UPH; rw [← hcg e8, iv1, show (100 - y).toNat = 0 by omega, if_pos b46]; rfl) (h (by omega) _ (CF.op f8))
        ·
          show WP (Call d) 138 P X (47, [some (vr (some 3) 9), some (vi k), some (vi v), some (vi r9), some (vi l9), some (vi c9), some (vi y)], [], (J8, H), 1, 6)
          refine WP.go 3 (And.intro (And.intro (Nat.le_of_ble_eq_true rfl) (Nat.le_of_ble_eq_true rfl)) (And.intro trivial (?_)))
          show P (some (vi c9)) (J8, H)
          exact fin_i (by unfold UPH; rw [← hcg e8, iv1, show (100 - y).toNat = 0 by omega, if_neg b46]; rfl) (h (by omega) _ (CF.op f8))
      ·
        show WP (Call d) 138 P X (20, [some (vr (some 3) 9), some (vi k), some (vi v), some (vi r9), some (vi l9), some (vi c9), some (vi y)], [], (J8, H), 1, 6)
        refine WP.go 5 (And.intro rfl (Exists.intro 79 (And.intro hS.r3_7 (And.intro (And.intro (Nat.le_of_ble_eq_true rfl) (Nat.le_of_ble_eq_true rfl)) (And.intro rfl (?_))))))
        show Call d 16 [vr (some 79) 0, vi k, vi y] (J8, H) _ _
        refine s_0_doesRun (by omega) hS hX_1 hT_2 hV hA_3 (by omega) (by omega) ?_
        show WP (Call d) 138 P X (25, [some (vr (some 3) 9), some (vi k), some (vi v), some (vi r9), some (vi l9), some (vi c9), some (vi y)], [vi (bz (RUNp μ (J8 80) k y))], (J8, H), 1, 6)
        refine WP.go 1 (And.intro (fun (b25 : bz (RUNp μ (J8 80) k y) = 0) => ?_) (fun (b25 : ¬ bz (RUNp μ (J8 80) k y) = 0) => ?_))
        ·
          show WP (Call d) 138 P X (28, [some (vr (some 3) 9), some (vi k), some (vi v), some (vi r9), some (vi l9), some (vi c9), some (vi y)], [], (J8, H), 1, 6)
          have z25 := bz_e0.mp b25
          refine WP.go 7 (Exists.intro (r9 + 1) (And.intro (wrp_a (by omega) (by omega)) (And.intro (fun (b34 : ¬ l9 < r9 + 1) => ?_) (fun (b34 : l9 < r9 + 1) => ?_))))
          ·
            show WP (Call d) 138 P X (43, [some (vr (some 3) 9), some (vi k), some (vi v), some (vi (r9 + 1)), some (vi l9), some (vi c9), some (vi y)], [], (J8, H), 1, 6)
            refine WP.go 2 (Exists.intro (y + 1) (And.intro (wrp_a (by omega) (by omega)) (?_)))
            show WP (Call d) 138 P X (17, [some (vr (some 3) 9), some (vi k), some (vi v), some (vi (r9 + 1)), some (vi l9), some (vi c9), some (vi (y + 1))], [], (J8, H), 1, 6)
            exact ih17 (r9 + 1) l9 c9 (y + 1) (by omega) (by omega) (iv1.trans (upF_l (by omega) (bz_e0.mp b25) (by omega)))
          ·
            show WP (Call d) 138 P X (35, [some (vr (some 3) 9), some (vi k), some (vi v), some (vi (r9 + 1)), some (vi l9), some (vi c9), some (vi y)], [], (J8, H), 1, 6)
            refine WP.go 10 (Exists.intro (y - (r9 + 1)) (And.intro (wrp_a (by omega) (by omega)) (Exists.intro ((y - (r9 + 1)) + 1) (And.intro (wrp_a (by omega) (by omega)) (Exists.intro (y + 1) (And.intro (wrp_a (by omega) (by omega)) (?_)))))))
            show WP (Call d) 138 P X (17, [some (vr (some 3) 9), some (vi k), some (vi v), some (vi (r9 + 1)), some (vi (r9 + 1)), some (vi ((y - (r9 + 1)) + 1)), some (vi (y + 1))], [], (J8, H), 1, 6)
            exact ih17 (r9 + 1) (r9 + 1) ((y - (r9 + 1)) + 1) (y + 1) (by omega) (by omega) (iv1.trans (upF_g (by omega) (bz_e0.mp b25) (by omega)))
        ·
          show WP (Call d) 138 P X (26, [some (vr (some 3) 9), some (vi k), some (vi v), some (vi r9), some (vi l9), some (vi c9), some (vi y)], [], (J8, H), 1, 6)
          have z25 := bz_e1.mp b25
          refine WP.go 6 (And.intro (fun (b34 : ¬ l9 < 0) => ?_) (fun (b34 : l9 < 0) => (absurd b34 (by omega))))
          show WP (Call d) 138 P X (43, [some (vr (some 3) 9), some (vi k), some (vi v), some (vi 0), some (vi l9), some (vi c9), some (vi y)], [], (J8, H), 1, 6)
          refine WP.go 2 (Exists.intro (y + 1) (And.intro (wrp_a (by omega) (by omega)) (?_)))
          show WP (Call d) 138 P X (17, [some (vr (some 3) 9), some (vi k), some (vi v), some (vi 0), some (vi l9), some (vi c9), some (vi (y + 1))], [], (J8, H), 1, 6)
          exact ih17 0 l9 c9 (y + 1) (by omega) (by omega) (iv1.trans (upF_y (by omega) (bz_e1.mp b25)))
  exact lp17 ((100 - 0 : Int).toNat + 1) 0 0 (-1) 0 (by omega) (by omega) rfl

theorem s_11_name {d : Nat} {P : Option qV → qH → Prop} {X : Nat → qH → Prop} {I : qI} {H : qS} {μ : Int → Int} (hd : 6 ≤ d) {p y un : Int} (hS : Shp H) (hX : SX I) (hT : TR 6 I μ) (hV : IM μ) (h : ((0 ≤ p ∧ p < 8) ∧ (0 ≤ y ∧ y < 100)) → ∀ J : qI, CF I J → P (some (vi (NAM μ (AN μ) p y un))) (J, H)) (hx1 : ¬ ((0 ≤ p ∧ p < 8) ∧ (0 ≤ y ∧ y < 100)) → X 1 (I, H)) :
    Call d 140 [vr (some 3) 9, vi p, vi y, vi un] (I, H) P X := by
  obtain ⟨d, rfl⟩ : ∃ e, d = e + 1 := ⟨d - 1, by omega⟩
  show WP (Call d) 140 P X (0, [some (vr (some 3) 9), some (vi p), some (vi y), some (vi un), none, none], [], (I, H), 0, 0)
  refine WP.go 2 (And.intro (fun (b1 : p < 0) => ?_) (fun (b1 : ¬ p < 0) => ?_))
  ·
    show WP (Call d) 140 P X (7, [some (vr (some 3) 9), some (vi p), some (vi y), some (vi un), none, none], [], (I, H), 0, 0)
    refine WP.go 2 (And.intro (And.intro (Nat.le_of_ble_eq_true rfl) (Nat.le_of_ble_eq_true rfl)) (And.intro rfl (?_)))
    show Call d 163 [vi 0] (I, H) _ _
    exact s_11_needThere_v (by omega) (fun q9 => absurd rfl q9) (fun _ => hx1 (by omega))
  ·
    show WP (Call d) 140 P X (2, [some (vr (some 3) 9), some (vi p), some (vi y), some (vi un), none, none], [], (I, H), 0, 0)
    refine WP.go 3 (And.intro (fun (b4 : ¬ p < 8) => ?_) (fun (b4 : p < 8) => ?_))
    ·
      show WP (Call d) 140 P X (7, [some (vr (some 3) 9), some (vi p), some (vi y), some (vi un), none, none], [], (I, H), 0, 0)
      refine WP.go 2 (And.intro (And.intro (Nat.le_of_ble_eq_true rfl) (Nat.le_of_ble_eq_true rfl)) (And.intro rfl (?_)))
      show Call d 163 [vi 0] (I, H) _ _
      exact s_11_needThere_v (by omega) (fun q9 => absurd rfl q9) (fun _ => hx1 (by omega))
    ·
      show WP (Call d) 140 P X (5, [some (vr (some 3) 9), some (vi p), some (vi y), some (vi un), none, none], [], (I, H), 0, 0)
      refine WP.go 3 (And.intro (And.intro (Nat.le_of_ble_eq_true rfl) (Nat.le_of_ble_eq_true rfl)) (And.intro rfl (?_)))
      show Call d 163 [vi 1] (I, H) _ _
      refine s_11_needThere_v (by omega)  (fun q8_2 => ?_) (fun q9 => hx1 (by omega))
      show WP (Call d) 140 P X (9, [some (vr (some 3) 9), some (vi p), some (vi y), some (vi un), none, none], [], (I, H), 1, 6)
      refine WP.go 2 (And.intro (And.intro (Nat.le_of_ble_eq_true rfl) (Nat.le_of_ble_eq_true rfl)) (And.intro rfl (?_)))
      show Call d 165 [vi y] (I, H) _ _
      refine s_11_needYear (by omega)  (fun q10 => ?_) (fun q9 => hx1 (by omega))
      show WP (Call d) 140 P X (11, [some (vr (some 3) 9), some (vi p), some (vi y), some (vi un), none, none], [], (I, H), 2, 12)
      refine WP.go 3 (And.intro rfl (Exists.intro 79 (And.intro hS.r3_7 (And.intro (And.intro (Nat.le_of_ble_eq_true rfl) (Nat.le_of_ble_eq_true rfl)) (And.intro rfl (?_))))))
      show Call d 1 [vr (some 79) 0] (I, H) _ _
      refine s_0_open (by omega) hS hX hT hV (fun J13 e13 f13 => ?_)
      show WP (Call d) 140 P X (14, [some (vr (some 3) 9), some (vi p), some (vi y), some (vi un), none, none], [], (J13, H), 2, 12)
      have hX_1 : SX J13 := SX.fr hX (f13 0 (by omega) (by omega)) (f13 1 (by omega) (by omega))
      have hT_2 : TR 6 J13 μ := hT.fr (fun a q1 q2 => f13 a (by omega) (by omega))
      have hA_3 : AB (J13 80) (J13 81) := e13.ab hV
      refine WP.go 2 ?_
      show WP (Call d) 140 P X (16, [some (vr (some 3) 9), some (vi p), some (vi y), some (vi un), none, none], [vr (some 3) 9, vi p], (J13, H), 2, 12)
      have a1 := hA_3.1 y (by omega) (by omega)
      refine WP.go 3 (And.intro rfl (Exists.intro 79 (And.intro hS.r3_7 (And.intro (And.intro (Nat.le_of_ble_eq_true rfl) (Nat.le_of_ble_eq_true rfl)) (And.intro rfl (?_))))))
      show Call d 4 [vr (some 79) 0, vi y] (J13, H) _ _
      refine s_0_angleIn (by omega) hS (by omega) ?_
      show WP (Call d) 140 P X (19, [some (vr (some 3) 9), some (vi p), some (vi y), some (vi un), none, none], [vi (J13 80 y), vi p], (J13, H), 2, 12)
      refine WP.go 1 (And.intro (And.intro (Nat.le_of_ble_eq_true rfl) (Nat.le_of_ble_eq_true rfl)) (And.intro rfl (?_)))
      show Call d 52 [vi p, vi (J13 80 y)] (J13, H) _ _
      refine s_4_nameOf (by omega) (by omega) (by omega) ?_
      show WP (Call d) 140 P X (20, [some (vr (some 3) 9), some (vi p), some (vi y), some (vi un), none, none], [vi (namOf p (J13 80 y))], (J13, H), 2, 12)
      refine WP.go 3 (And.intro (fun (b22 : ¬ un = 0) => ?_) (fun (b22 : un = 0) => ?_))
      ·
        show WP (Call d) 140 P X (25, [some (vr (some 3) 9), some (vi p), some (vi y), some (vi un), some (vi (namOf p (J13 80 y))), none], [], (J13, H), 2, 12)
        refine WP.go 2 ?_
        show WP (Call d) 140 P X (27, [some (vr (some 3) 9), some (vi p), some (vi y), some (vi un), some (vi (namOf p (J13 80 y))), some (vi y)], [], (J13, H), 2, 12)
        have lp27 : ∀ (n9 : Nat) (k : Int) (hm : 100 - k < (n9 : Int)) (iv0 : y ≤ k ∧ k < 100) (iv1 : laN (fun i => namOf p (J13 80 i) = namOf p (J13 80 y)) (99 - y).toNat y = laN (fun i => namOf p (J13 80 i) = namOf p (J13 80 y)) (99 - k).toNat k), WP (Call d) 140 P X (27, [some (vr (some 3) 9), some (vi p), some (vi y), some (vi un), some (vi (namOf p (J13 80 y))), some (vi k)], [], (J13, H), 2, 12) := by
          intro n9
          induction n9 with
          | zero => intro k hm iv0 iv1; exact absurd hm (by omega)
          | succ n9 ih27 =>
            intro k hm iv0 iv1
            refine WP.go 5 (Exists.intro (k + 1) (And.intro (wrp_a (by omega) (by omega)) (And.intro (fun (b31 : ¬ k + 1 < 100) => ?_) (fun (b31 : k + 1 < 100) => ?_))))
            ·
              show WP (Call d) 140 P X (44, [some (vr (some 3) 9), some (vi p), some (vi y), some (vi un), some (vi (namOf p (J13 80 y))), some (vi k)], [], (J13, H), 2, 12)
              refine WP.go 2 (And.intro (And.intro (Nat.le_of_ble_eq_true rfl) (Nat.le_of_ble_eq_true rfl)) (And.intro trivial (?_)))
              show P (some (vi k)) (J13, H)
              exact fin_i (by unfold NAM; rw [if_neg b22, laN_congr (q := fun i => namOf p (J13 80 i) = namOf p (J13 80 y)) _ _ (fun i q1 q2 => by rw [e13.a y (by omega) (by omega), e13.a i (by omega) (by omega)]), iv1, laN_e (by omega)]) (h (by omega) _ (CF.op f13))
            ·
              show WP (Call d) 140 P X (32, [some (vr (some 3) 9), some (vi p), some (vi y), some (vi un), some (vi (namOf p (J13 80 y))), some (vi k)], [], (J13, H), 2, 12)
              have a2 := hA_3.1 (k + 1) (by omega) (by omega)
              refine WP.go 7 (And.intro rfl (Exists.intro 79 (And.intro hS.r3_7 (Exists.intro (k + 1) (And.intro (wrp_a (by omega) (by omega)) (And.intro (And.intro (Nat.le_of_ble_eq_true rfl) (Nat.le_of_ble_eq_true rfl)) (And.intro rfl (?_))))))))
              show Call d 4 [vr (some 79) 0, vi (k + 1)] (J13, H) _ _
              refine s_0_angleIn (by omega) hS (by omega) ?_
              show WP (Call d) 140 P X (39, [some (vr (some 3) 9), some (vi p), some (vi y), some (vi un), some (vi (namOf p (J13 80 y))), some (vi k)], [vi (J13 80 (k + 1)), vi p], (J13, H), 2, 12)
              refine WP.go 1 (And.intro (And.intro (Nat.le_of_ble_eq_true rfl) (Nat.le_of_ble_eq_true rfl)) (And.intro rfl (?_)))
              show Call d 52 [vi p, vi (J13 80 (k + 1))] (J13, H) _ _
              refine s_4_nameOf (by omega) (by omega) (by omega) ?_
              show WP (Call d) 140 P X (40, [some (vr (some 3) 9), some (vi p), some (vi y), some (vi un), some (vi (namOf p (J13 80 y))), some (vi k)], [vi (namOf p (J13 80 (k + 1)))], (J13, H), 2, 12)
              refine WP.go 2 (And.intro (fun (b41 : ¬ namOf p (J13 80 (k + 1)) = namOf p (J13 80 y)) => ?_) (fun (b41 : namOf p (J13 80 (k + 1)) = namOf p (J13 80 y)) => ?_))
              ·
                show WP (Call d) 140 P X (44, [some (vr (some 3) 9), some (vi p), some (vi y), some (vi un), some (vi (namOf p (J13 80 y))), some (vi k)], [], (J13, H), 2, 12)
                refine WP.go 2 (And.intro (And.intro (Nat.le_of_ble_eq_true rfl) (Nat.le_of_ble_eq_true rfl)) (And.intro trivial (?_)))
                show P (some (vi k)) (J13, H)
                exact fin_i (by unfold NAM; rw [if_neg b22, laN_congr (q := fun i => namOf p (J13 80 i) = namOf p (J13 80 y)) _ _ (fun i q1 q2 => by rw [e13.a y (by omega) (by omega), e13.a i (by omega) (by omega)]), iv1, laN_n b41]) (h (by omega) _ (CF.op f13))
              ·
                show WP (Call d) 140 P X (42, [some (vr (some 3) 9), some (vi p), some (vi y), some (vi un), some (vi (namOf p (J13 80 y))), some (vi k)], [], (J13, H), 2, 12)
                refine WP.go 2 (Exists.intro (k + 1) (And.intro (wrp_a (by omega) (by omega)) (?_)))
                show WP (Call d) 140 P X (27, [some (vr (some 3) 9), some (vi p), some (vi y), some (vi un), some (vi (namOf p (J13 80 y))), some (vi (k + 1))], [], (J13, H), 2, 12)
                exact ih27 (k + 1) (by omega) (by omega) (iv1.trans (laN_y (by omega) b41))
        exact lp27 ((100 - y : Int).toNat + 1) y (by omega) (by omega) rfl
      ·
        show WP (Call d) 140 P X (23, [some (vr (some 3) 9), some (vi p), some (vi y), some (vi un), some (vi (namOf p (J13 80 y))), none], [], (J13, H), 2, 12)
        refine WP.go 2 (And.intro (And.intro (Nat.le_of_ble_eq_true rfl) (Nat.le_of_ble_eq_true rfl)) (And.intro trivial (?_)))
        show P (some (vi (namOf p (J13 80 y)))) (J13, H)
        exact fin_i (by unfold NAM; rw [if_pos b22, e13.a y (by omega) (by omega)]) (h (by omega) _ (CF.op f13))

theorem s_11_good {d : Nat} {P : Option qV → qH → Prop} {X : Nat → qH → Prop} {I : qI} {H : qS} {μ : Int → Int} (hd : 6 ≤ d) {f h9 : Int} (hS : Shp H) (hX : SX I) (hT : TR 6 I μ) (hV : IM μ) (h : ((0 ≤ f ∧ f < μ 1) ∧ (0 ≤ h9 ∧ h9 < μ 1)) → ∀ J : qI, CF I J → P (some (vi (BRT μ (AN μ) (HT μ) h9 (μ (210 + 2 * f)) (μ (211 + 2 * f))))) (J, H)) (hx1 : ¬ ((0 ≤ f ∧ f < μ 1) ∧ (0 ≤ h9 ∧ h9 < μ 1)) → X 1 (I, H)) :
    Call d 148 [vr (some 3) 9, vi f, vi h9] (I, H) P X := by
  obtain ⟨d, rfl⟩ : ∃ e, d = e + 1 := ⟨d - 1, by omega⟩
  show WP (Call d) 148 P X (0, [some (vr (some 3) 9), some (vi f), some (vi h9), none, none, none], [], (I, H), 0, 0)
  refine WP.go 3 (And.intro (And.intro (Nat.le_of_ble_eq_true rfl) (Nat.le_of_ble_eq_true rfl)) (And.intro rfl (?_)))
  show Call d 168 [vr (some 3) 9, vi f] (I, H) _ _
  refine s_11_needFamily (by omega) hS hT (fun q2 => ?_) (fun q9 => hx1 (by omega))
  show WP (Call d) 148 P X (3, [some (vr (some 3) 9), some (vi f), some (vi h9), none, none, none], [], (I, H), 1, 6)
  refine WP.go 3 (And.intro (And.intro (Nat.le_of_ble_eq_true rfl) (Nat.le_of_ble_eq_true rfl)) (And.intro rfl (?_)))
  show Call d 167 [vr (some 3) 9, vi h9] (I, H) _ _
  refine s_11_needHouse (by omega) hS hT (fun q5 => ?_) (fun q9 => hx1 (by omega))
  show WP (Call d) 148 P X (6, [some (vr (some 3) 9), some (vi f), some (vi h9), none, none, none], [], (I, H), 2, 12)
  refine WP.go 1 ?_
  show WP (Call d) 148 P X (7, [some (vr (some 3) 9), some (vi f), some (vi h9), none, none, none], [vr (some 3) 9], (I, H), 2, 12)
  have v1 := hV.wa f (by omega) (by omega)
  refine WP.go 5 (And.intro rfl (Exists.intro 6 (And.intro hS.r3_4 (And.intro rfl (Exists.intro 11 (And.intro hS.r6_2 (And.intro (And.intro (Nat.le_of_ble_eq_true rfl) (Nat.le_of_ble_eq_true rfl)) (And.intro rfl (?_)))))))))
  show Call d 58 [vr (some 11) 4, vi f, vi 1] (I, H) _ _
  refine s_get_families1 (by omega) hS (.inl rfl) hT hV (by omega) ?_
  show WP (Call d) 148 P X (12, [some (vr (some 3) 9), some (vi f), some (vi h9), none, none, none], [vi (μ (211 + 2 * f))], (I, H), 2, 12)
  refine WP.go 4 (And.intro rfl (Exists.intro 79 (And.intro hS.r3_7 (And.intro (And.intro (Nat.le_of_ble_eq_true rfl) (Nat.le_of_ble_eq_true rfl)) (And.intro rfl (?_))))))
  show Call d 1 [vr (some 79) 0] (I, H) _ _
  refine s_0_open (by omega) hS hX hT hV (fun J15 e15 f15 => ?_)
  show WP (Call d) 148 P X (16, [some (vr (some 3) 9), some (vi f), some (vi h9), some (vi (μ (211 + 2 * f))), none, none], [], (J15, H), 2, 12)
  have hX_1 : SX J15 := SX.fr hX (f15 0 (by omega) (by omega)) (f15 1 (by omega) (by omega))
  have hT_2 : TR 6 J15 μ := hT.fr (fun a q1 q2 => f15 a (by omega) (by omega))
  have hA_3 : AB (J15 80) (J15 81) := e15.ab hV
  refine WP.go 8 (And.intro rfl (Exists.intro 6 (And.intro hS.r3_4 (And.intro rfl (Exists.intro 11 (And.intro hS.r6_2 (And.intro (And.intro (Nat.le_of_ble_eq_true rfl) (Nat.le_of_ble_eq_true rfl)) (And.intro rfl (?_)))))))))
  show Call d 58 [vr (some 11) 4, vi f, vi 0] (J15, H) _ _
  refine s_get_families0 (by omega) hS (.inl rfl) hT_2 hV (by omega) ?_
  show WP (Call d) 148 P X (24, [some (vr (some 3) 9), some (vi f), some (vi h9), some (vi (μ (211 + 2 * f))), some (vi 0), none], [vi (μ (210 + 2 * f))], (J15, H), 2, 12)
  refine WP.go 1 ?_
  show WP (Call d) 148 P X (25, [some (vr (some 3) 9), some (vi f), some (vi h9), some (vi (μ (211 + 2 * f))), some (vi 0), some (vi (μ (210 + 2 * f)))], [], (J15, H), 2, 12)
  have lp25 : ∀ (n9 : Nat) (s9 : Int) (y : Int) (hm : μ (211 + 2 * f) + 1 - y < (n9 : Int)) (iv0 : μ (210 + 2 * f) ≤ y ∧ y ≤ μ (211 + 2 * f) + 1) (iv1 : s9 = sI (fun y => LGH μ (J15 80) (J15 81) h9 y) (μ (210 + 2 * f)) y), WP (Call d) 148 P X (25, [some (vr (some 3) 9), some (vi f), some (vi h9), some (vi (μ (211 + 2 * f))), some (vi s9), some (vi y)], [], (J15, H), 2, 12) := by
    intro n9
    induction n9 with
    | zero => intro s9 y hm iv0 iv1; exact absurd hm (by omega)
    | succ n9 ih25 =>
      intro s9 y hm iv0 iv1
      have m1 := sI_bd (f := fun y => LGH μ (J15 80) (J15 81) h9 y) 0 260 iv0.1 (fun i _ _ => LGH_bd hV _ _ _ _)
      have m2 := LGH_bd hV (J15 80) (J15 81) h9 y
      refine WP.go 3 (And.intro (fun (b27 : μ (211 + 2 * f) < y) => ?_) (fun (b27 : ¬ μ (211 + 2 * f) < y) => ?_))
      ·
        show WP (Call d) 148 P X (41, [some (vr (some 3) 9), some (vi f), some (vi h9), some (vi (μ (211 + 2 * f))), some (vi s9), some (vi y)], [], (J15, H), 2, 12)
        refine WP.go 2 (And.intro (And.intro (Nat.le_of_ble_eq_true rfl) (Nat.le_of_ble_eq_true rfl)) (And.intro trivial (?_)))
        show P (some (vi s9)) (J15, H)
        exact fin_i (by rw [iv1, show y = μ (211 + 2 * f) + 1 by omega, BRT_e (by omega)]; exact BRT_congr (by omega) (by omega) e15.a e15.t) (h (by omega) _ (CF.op f15))
      ·
        show WP (Call d) 148 P X (28, [some (vr (some 3) 9), some (vi f), some (vi h9), some (vi (μ (211 + 2 * f))), some (vi s9), some (vi y)], [], (J15, H), 2, 12)
        refine WP.go 3 (And.intro (fun (b30 : ¬ y < 100) => (absurd b30 (by omega))) (fun (b30 : y < 100) => ?_))
        show WP (Call d) 148 P X (31, [some (vr (some 3) 9), some (vi f), some (vi h9), some (vi (μ (211 + 2 * f))), some (vi s9), some (vi y)], [], (J15, H), 2, 12)
        refine WP.go 6 (And.intro rfl (Exists.intro 79 (And.intro hS.r3_7 (And.intro (And.intro (Nat.le_of_ble_eq_true rfl) (Nat.le_of_ble_eq_true rfl)) (And.intro rfl (?_))))))
        show Call d 11 [vr (some 79) 0, vi h9, vi y] (J15, H) _ _
        refine s_0_lightOfHouse (by omega) hS hX_1 hT_2 hV hA_3 (by omega) ?_
        show WP (Call d) 148 P X (37, [some (vr (some 3) 9), some (vi f), some (vi h9), some (vi (μ (211 + 2 * f))), some (vi s9), some (vi y)], [vi (LGH μ (J15 80) (J15 81) h9 y), vi s9], (J15, H), 2, 12)
        refine WP.go 4 (Exists.intro (s9 + (LGH μ (J15 80) (J15 81) h9 y)) (And.intro (wrp_a (by omega) (by omega)) (Exists.intro (y + 1) (And.intro (wrp_a (by omega) (by omega)) (?_)))))
        show WP (Call d) 148 P X (25, [some (vr (some 3) 9), some (vi f), some (vi h9), some (vi (μ (211 + 2 * f))), some (vi (s9 + (LGH μ (J15 80) (J15 81) h9 y))), some (vi (y + 1))], [], (J15, H), 2, 12)
        exact ih25 (s9 + (LGH μ (J15 80) (J15 81) h9 y)) (y + 1) (by omega) (by omega) (by rw [sI_succ (by omega), ← iv1])
  exact lp25 ((μ (211 + 2 * f) + 1 - (μ (210 + 2 * f)) : Int).toNat + 1) 0 (μ (210 + 2 * f)) (by omega) (by omega) (sI_nil (by omega)).symm

theorem s_11_years {d : Nat} {P : Option qV → qH → Prop} {X : Nat → qH → Prop} {I : qI} {H : qS} {μ : Int → Int} (hd : 6 ≤ d) {k : Int} (hS : Shp H) (hX : SX I) (hT : TR 6 I μ) (hV : IM μ) (h : (-1 ≤ k) → ∀ J : qI, CF I J → P (some (vi (yeN (FITp μ (AN μ) (HT μ)) k 100 0 0))) (J, H)) (hx0 : k < -1 → X 0 (I, H)) :
    Call d 153 [vr (some 3) 9, vi k] (I, H) P X := by
  obtain ⟨d, rfl⟩ : ∃ e, d = e + 1 := ⟨d - 1, by omega⟩
  show WP (Call d) 153 P X (0, [some (vr (some 3) 9), some (vi k), none, none], [], (I, H), 0, 0)
  refine WP.go 3 (And.intro (fun (b2 : ¬ k < (-1)) => ?_) (fun (b2 : k < (-1)) => ?_))
  ·
    show WP (Call d) 153 P X (7, [some (vr (some 3) 9), some (vi k), none, none], [], (I, H), 0, 0)
    refine WP.go 2 (And.intro rfl (Exists.intro 79 (And.intro hS.r3_7 (?_))))
    show WP (Call d) 153 P X (9, [some (vr (some 3) 9), some (vi k), none, none], [vr (some 79) 0], (I, H), 0, 0)
    have hcg : ∀ {A T : Int → Int}, OPN μ (-1) 0 A T → yeN (FITp μ A T) k 100 0 0 = yeN (FITp μ (AN μ) (HT μ)) k 100 0 0 := fun e => yeN_congr _ _ _ (fun i q1 q2 => FITp_congr (e.a i (by omega) (by omega)) e.t)
    refine WP.go 1 (And.intro (And.intro (Nat.le_of_ble_eq_true rfl) (Nat.le_of_ble_eq_true rfl)) (And.intro rfl (?_)))
    show Call d 1 [vr (some 79) 0] (I, H) _ _
    refine s_0_open (by omega) hS hX hT hV (fun J9 e9 f9 => ?_)
    show WP (Call d) 153 P X (10, [some (vr (some 3) 9), some (vi k), none, none], [], (J9, H), 0, 0)
    have hX_1 : SX J9 := SX.fr hX (f9 0 (by omega) (by omega)) (f9 1 (by omega) (by omega))
    have hT_2 : TR 6 J9 μ := hT.fr (fun a q1 q2 => f9 a (by omega) (by omega))
    have hA_3 : AB (J9 80) (J9 81) := e9.ab hV
    refine WP.go 4 ?_
    show WP (Call d) 153 P X (14, [some (vr (some 3) 9), some (vi k), some (vi 0), some (vi 0)], [], (J9, H), 0, 0)
    have lp14 : ∀ (n9 : Nat) (t9 : Int) (y : Int) (hm : 100 - y < (n9 : Int)) (iv0 : 0 ≤ y ∧ y ≤ 100 ∧ 0 ≤ t9 ∧ t9 ≤ y) (iv1 : yeN (FITp μ (J9 80) (J9 81)) k 100 0 0 = yeN (FITp μ (J9 80) (J9 81)) k (100 - y).toNat y t9), WP (Call d) 153 P X (14, [some (vr (some 3) 9), some (vi k), some (vi t9), some (vi y)], [], (J9, H), 0, 0) := by
      intro n9
      induction n9 with
      | zero => intro t9 y hm iv0 iv1; exact absurd hm (by omega)
      | succ n9 ih14 =>
        intro t9 y hm iv0 iv1
        refine WP.go 3 (And.intro (fun (b16 : ¬ y < 100) => ?_) (fun (b16 : y < 100) => ?_))
        ·
          show WP (Call d) 153 P X (30, [some (vr (some 3) 9), some (vi k), some (vi t9), some (vi y)], [], (J9, H), 0, 0)
          refine WP.go 3 (And.intro (fun (b32 : ¬ k = (-1)) => ?_) (fun (b32 : k = (-1)) => ?_))
          ·
            show WP (Call d) 153 P X (35, [some (vr (some 3) 9), some (vi k), some (vi t9), some (vi y)], [], (J9, H), 0, 0)
            refine WP.go 2 (And.intro (And.intro (Nat.le_of_ble_eq_true rfl) (Nat.le_of_ble_eq_true rfl)) (And.intro trivial (?_)))
            show P (some (vi (-1))) (J9, H)
            exact fin_i ((hcg e9).symm.trans (iv1.trans (by rw [show (100 - y).toNat = 0 by omega]; exact if_neg b32))).symm (h (by omega) _ (CF.op f9))
          ·
            show WP (Call d) 153 P X (33, [some (vr (some 3) 9), some (vi k), some (vi t9), some (vi y)], [], (J9, H), 0, 0)
            refine WP.go 3 (And.intro (And.intro (Nat.le_of_ble_eq_true rfl) (Nat.le_of_ble_eq_true rfl)) (And.intro trivial (?_)))
            show P (some (vi t9)) (J9, H)
            exact fin_i ((hcg e9).symm.trans (iv1.trans (by rw [show (100 - y).toNat = 0 by omega]; exact if_pos b32))).symm (h (by omega) _ (CF.op f9))
        ·
          show WP (Call d) 153 P X (17, [some (vr (some 3) 9), some (vi k), some (vi t9), some (vi y)], [], (J9, H), 0, 0)
          refine WP.go 4 (And.intro rfl (Exists.intro 79 (And.intro hS.r3_7 (And.intro (And.intro (Nat.le_of_ble_eq_true rfl) (Nat.le_of_ble_eq_true rfl)) (And.intro rfl (?_))))))
          show Call d 18 [vr (some 79) 0, vi y] (J9, H) _ _
          refine s_0_fitsPapers (by omega) hS hX_1 hT_2 hV hA_3 (by omega) ?_
          show WP (Call d) 153 P X (21, [some (vr (some 3) 9), some (vi k), some (vi t9), some (vi y)], [vi (bz (FITp μ (J9 80) (J9 81) y))], (J9, H), 0, 0)
          refine WP.go 1 (And.intro (fun (b21 : bz (FITp μ (J9 80) (J9 81) y) = 0) => ?_) (fun (b21 : ¬ bz (FITp μ (J9 80) (J9 81) y) = 0) => ?_))
          ·
            show WP (Call d) 153 P X (28, [some (vr (some 3) 9), some (vi k), some (vi t9), some (vi y)], [], (J9, H), 0, 0)
            have z21 := bz_e0.mp b21
            refine WP.go 2 (Exists.intro (y + 1) (And.intro (wrp_a (by omega) (by omega)) (?_)))
            show WP (Call d) 153 P X (14, [some (vr (some 3) 9), some (vi k), some (vi t9), some (vi (y + 1))], [], (J9, H), 0, 0)
            exact ih14 t9 (y + 1) (by omega) (by omega) (iv1.trans (yeN_n (by omega) (bz_e0.mp b21)))
          ·
            show WP (Call d) 153 P X (22, [some (vr (some 3) 9), some (vi k), some (vi t9), some (vi y)], [], (J9, H), 0, 0)
            have z21 := bz_e1.mp b21
            refine WP.go 3 (And.intro (fun (b24 : ¬ t9 = k) => ?_) (fun (b24 : t9 = k) => ?_))
            ·
              show WP (Call d) 153 P X (27, [some (vr (some 3) 9), some (vi k), some (vi t9), some (vi y)], [], (J9, H), 0, 0)
              refine WP.go 3 (Exists.intro (t9 + 1) (And.intro (wrp_a (by omega) (by omega)) (Exists.intro (y + 1) (And.intro (wrp_a (by omega) (by omega)) (?_)))))
              show WP (Call d) 153 P X (14, [some (vr (some 3) 9), some (vi k), some (vi (t9 + 1)), some (vi (y + 1))], [], (J9, H), 0, 0)
              exact ih14 (t9 + 1) (y + 1) (by omega) (by omega) (iv1.trans (yeN_y (by omega) (bz_e1.mp b21) b24))
            ·
              show WP (Call d) 153 P X (25, [some (vr (some 3) 9), some (vi k), some (vi t9), some (vi y)], [], (J9, H), 0, 0)
              refine WP.go 2 (And.intro (And.intro (Nat.le_of_ble_eq_true rfl) (Nat.le_of_ble_eq_true rfl)) (And.intro trivial (?_)))
              show P (some (vi y)) (J9, H)
              exact fin_i ((hcg e9).symm.trans (iv1.trans (yeN_f (by omega) (bz_e1.mp b21) b24))).symm (h (by omega) _ (CF.op f9))
    exact lp14 ((100 - 0 : Int).toNat + 1) 0 0 (by omega) (by omega) rfl
  ·
    show WP (Call d) 153 P X (3, [some (vr (some 3) 9), some (vi k), none, none], [], (I, H), 0, 0)
    refine WP.go 1 (And.intro (And.intro (Nat.le_of_ble_eq_true rfl) (Nat.le_of_ble_eq_true rfl)) (?_))
    show X 0 (I, H)
    exact hx0 (by omega)

