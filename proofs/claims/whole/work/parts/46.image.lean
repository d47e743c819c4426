theorem s_11_image {d : Nat} {P : Option qV → qH → Prop} {X : Nat → qH → Prop} {I : qI} {H : qS} (hd : 3 ≤ d) (hS : Shp H) (h : ∀ (J : qI) (G : qS), CPY 48 6 I J → (∀ l, 0 ≤ l → l < 6 → G.1 68 l = H.1 26 l) → (∀ a z, a ≠ 68 → G.1 a z = H.1 a z) → G.2 = H.2 → (∀ a, a < 48 ∨ 69 ≤ a → J a = I a) → P none (upI J 3 10 1, G)) :
    Call d 156 [vr (some 3) 9] (I, H) P X := by
  obtain ⟨d, rfl⟩ : ∃ e, d = e + 1 := ⟨d - 1, by omega⟩
  show WP (Call d) 156 P X (0, [some (vr (some 3) 9)], [], (I, H), 0, 0)
  refine WP.go 5 (And.intro rfl (Exists.intro 48 (And.intro hS.r3_6 (And.intro rfl (Exists.intro 6 (And.intro hS.r3_4 (And.intro (And.intro (Nat.le_of_ble_eq_true rfl) (Nat.le_of_ble_eq_true rfl)) (And.intro rfl (?_)))))))))
  show Call d 104 [vr (some 48) 6, vr (some 6) 6] (I, H) _ _
  refine s_8_copyFrom (n := 48) (m := 6) (by omega) hS (.inr (.inr rfl)) (.inl rfl) (by omega) (fun J4 G4 e4 p4 q4 r4 f4 => ?_)
  show WP (Call d) 156 P X (5, [some (vr (some 3) 9)], [], (J4, G4), 0, 0)
  refine WP.go 4 (And.intro (And.intro rfl (Or.inr rfl)) (And.intro (And.intro (Nat.le_of_ble_eq_true rfl) (Nat.le_of_ble_eq_true rfl)) (?_)))
  show P none ((upI J4 3 10 1), G4)
  exact h _ _ e4 p4 q4 r4 f4

theorem s_11_back {d : Nat} {P : Option qV → qH → Prop} {X : Nat → qH → Prop} {I : qI} {H : qS} (hd : 3 ≤ d) (hS : Shp H) (h : (I 3 10 = 0 → P (some (vi 0)) (I, H)) ∧ (¬ I 3 10 = 0 → ∀ (J : qI) (G : qS), CPY 6 48 I J → (∀ l, 0 ≤ l → l < 6 → G.1 26 l = H.1 68 l) → (∀ a z, a ≠ 26 → G.1 a z = H.1 a z) → G.2 = H.2 → (∀ a, a < 6 ∨ 27 ≤ a → J a = I a) → P (some (vi 1)) (J, G))) :
    Call d 157 [vr (some 3) 9] (I, H) P X := by
  obtain ⟨d, rfl⟩ : ∃ e, d = e + 1 := ⟨d - 1, by omega⟩
  show WP (Call d) 157 P X (0, [some (vr (some 3) 9)], [], (I, H), 0, 0)
  refine WP.go 3 (And.intro rfl (And.intro (fun (b2 : ¬ I 3 10 = 0) => ?_) (fun (b2 : I 3 10 = 0) => ?_)))
  ·
    show WP (Call d) 157 P X (5, [some (vr (some 3) 9)], [], (I, H), 0, 0)
    refine WP.go 5 (And.intro rfl (Exists.intro 6 (And.intro hS.r3_4 (And.intro rfl (Exists.intro 48 (And.intro hS.r3_6 (And.intro (And.intro (Nat.le_of_ble_eq_true rfl) (Nat.le_of_ble_eq_true rfl)) (And.intro rfl (?_)))))))))
    show Call d 104 [vr (some 6) 6, vr (some 48) 6] (I, H) _ _
    refine s_8_copyFrom (n := 6) (m := 48) (by omega) hS (.inl rfl) (.inr (.inr rfl)) (by omega) (fun J9 G9 e9 p9 q9 r9 f9 => ?_)
    show WP (Call d) 157 P X (10, [some (vr (some 3) 9)], [], (J9, G9), 0, 0)
    refine WP.go 2 (And.intro (And.intro (Nat.le_of_ble_eq_true rfl) (Nat.le_of_ble_eq_true rfl)) (And.intro (Or.inr rfl) (?_)))
    show P (some (vi 1)) (J9, G9)
    exact h.2 b2 _ _ e9 p9 q9 r9 f9
  ·
    show WP (Call d) 157 P X (3, [some (vr (some 3) 9)], [], (I, H), 0, 0)
    refine WP.go 2 (And.intro (And.intro (Nat.le_of_ble_eq_true rfl) (Nat.le_of_ble_eq_true rfl)) (And.intro (Or.inl rfl) (?_)))
    show P (some (vi 0)) (I, H)
    exact h.1 b2

theorem s_12_image {d : Nat} {P : Option qV → qH → Prop} {X : Nat → qH → Prop} {I : qI} {H : qS} (hd : 1 ≤ d) (hS : Shp H) (hK : MS I) (h : ∀ J : qI, ((∀ a, a < 90 ∨ a = 94 ∨ a = 95 ∨ 100 ≤ a → J a = I a) ∧ (∀ s, s = 6 ∨ s = 10 ∨ s = 17 ∨ (13 ≤ s ∧ s ≤ 15) → J 90 s = I 90 s) ∧ MS J) → J 91 = I 91 → (∀ j, 0 ≤ j → j < 2952 → J 92 j = I 91 j) → J 90 3 = 1 → P none (J, H)) :
    Call d 265 [vr (some 90) 10] (I, H) P X := by
  obtain ⟨d, rfl⟩ : ∃ e, d = e + 1 := ⟨d - 1, by omega⟩
  have hl91 := hS.l91
  have hl92 := hS.l92
  show WP (Call d) 265 P X (0, [some (vr (some 90) 10), none], [], (I, H), 0, 0)
  refine WP.go 3 (And.intro (And.intro rfl trivial) (?_))
  show WP (Call d) 265 P X (3, [some (vr (some 90) 10), none], [], ((upI I 90 0 0), H), 0, 0)
  generalize hq_J0 : (upI I 90 0 0) = J0
  have e_J0 : J0 90 = (fun j => if j = 0 then 0 else I 90 j) := by rw [← hq_J0]; exact upI_self _ _ _ _
  have f_J0 : ∀ a, a ≠ 90 → J0 a = I a := fun a q => by rw [← hq_J0]; exact upI_cell q
  have hmf : MF I J0 := MF.t0 hK e_J0 f_J0
  refine WP.go 2 ?_
  show WP (Call d) 265 P X (5, [some (vr (some 90) 10), some (vi 0)], [], (J0, H), 0, 0)
  have lp5 : ∀ (n9 : Nat) (K : qI) (k : Int) (hm : 2952 - k < (n9 : Int)) (iv0 : 0 ≤ k ∧ k ≤ 2952) (iv1 : ∀ j, 0 ≤ j → j < k → K 92 j = I 91 j) (iv2 : ∀ a, a ≠ 92 → K a = J0 a), WP (Call d) 265 P X (5, [some (vr (some 90) 10), some (vi k)], [], (K, H), 0, 0) := by
    intro n9
    induction n9 with
    | zero => intro K k hm iv0 iv1 iv2; exact absurd hm (by omega)
    | succ n9 ih5 =>
      intro K k hm iv0 iv1 iv2
      refine WP.go 3 (And.intro (fun (b7 : ¬ k < 2952) => ?_) (fun (b7 : k < 2952) => ?_))
      ·
        show WP (Call d) 265 P X (18, [some (vr (some 90) 10), some (vi k)], [], (K, H), 0, 0)
        refine WP.go 4 (And.intro (And.intro rfl (Or.inr rfl)) (And.intro (And.intro (Nat.le_of_ble_eq_true rfl) (Nat.le_of_ble_eq_true rfl)) (?_)))
        show P none ((upI K 90 3 1), H)
        refine h _ ⟨fun a q => ?_, fun s q => ?_, ?_⟩ ?_ (fun j q0 q1 => ?_) (upI_same _ _ _ _)
        · rw [upI_cell (by omega), iv2 a (by omega)]; exact hmf.1 a (by omega)
        · rw [upI_at (.inr (by omega)), iv2 90 (by omega)]; exact hmf.2.1 s (by omega)
        · have := hmf.2.2; unfold MS at *; rw [upI_at (.inr (by omega)), upI_at (.inr (by omega)), upI_at (.inr (by omega)), upI_at (.inr (by omega)), iv2 90 (by omega)]; exact this
        · rw [upI_cell (by omega), iv2 91 (by omega)]; exact hmf.1 91 (by omega)
        · rw [upI_cell (by omega)]; exact iv1 j q0 (by omega)
      ·
        show WP (Call d) 265 P X (8, [some (vr (some 90) 10), some (vi k)], [], (K, H), 0, 0)
        refine WP.go 10 (And.intro rfl (Exists.intro 92 (And.intro hS.r90_2 (And.intro rfl (Exists.intro 91 (And.intro hS.r90_1 (And.intro (And.intro rfl (And.intro (show 0 ≤ k from by omega) (show k < H.2.1 91 from by omega))) (And.intro (And.intro rfl (And.intro (show 0 ≤ k from by omega) (show k < H.2.1 92 from by omega))) (Exists.intro (k + 1) (And.intro (wrp_a (by omega) (by omega)) (?_)))))))))))
        show WP (Call d) 265 P X (5, [some (vr (some 90) 10), some (vi (k + 1))], [], ((upI K 92 k (K 91 k)), H), 0, 0)
        exact ih5 (upI K 92 k (K 91 k)) (k + 1) (by omega) (by omega) (cp_s (upI_self _ _ _ _) iv1 (by rw [iv2 91 (by omega), f_J0 91 (by omega)])) (fun a q => by rw [upI_cell q]; exact iv2 a q)
  exact lp5 ((2952 - 0 : Int).toNat + 1) J0 0 (by omega) (by omega) (fun j q1 q2 => by omega) (fun _ _ => rfl)

theorem s_12_back {d : Nat} {P : Option qV → qH → Prop} {X : Nat → qH → Prop} {I : qI} {H : qS} (hd : 1 ≤ d) (hS : Shp H) (hK : MS I) (h : (I 90 3 = 0 → ∀ J : qI, MF I J → P (some (vi 0)) (J, H)) ∧ (¬ I 90 3 = 0 → ∀ J : qI, ((∀ a, a < 90 ∨ a = 92 ∨ a = 94 ∨ a = 95 ∨ 100 ≤ a → J a = I a) ∧ (∀ s, s = 3 ∨ s = 6 ∨ s = 10 ∨ s = 17 ∨ (13 ≤ s ∧ s ≤ 15) → J 90 s = I 90 s) ∧ MS J) → (∀ j, 0 ≤ j → j < 2952 → J 91 j = I 92 j) → P (some (vi 1)) (J, H))) :
    Call d 266 [vr (some 90) 10] (I, H) P X := by
  obtain ⟨d, rfl⟩ : ∃ e, d = e + 1 := ⟨d - 1, by omega⟩
  have hl92 := hS.l92
  have hl91 := hS.l91
  show WP (Call d) 266 P X (0, [some (vr (some 90) 10), none], [], (I, H), 0, 0)
  refine WP.go 3 (And.intro (And.intro rfl trivial) (?_))
  show WP (Call d) 266 P X (3, [some (vr (some 90) 10), none], [], ((upI I 90 0 0), H), 0, 0)
  generalize hq_J0 : (upI I 90 0 0) = J0
  have e_J0 : J0 90 = (fun j => if j = 0 then 0 else I 90 j) := by rw [← hq_J0]; exact upI_self _ _ _ _
  have f_J0 : ∀ a, a ≠ 90 → J0 a = I a := fun a q => by rw [← hq_J0]; exact upI_cell q
  have hmf : MF I J0 := MF.t0 hK e_J0 f_J0
  have h3 : J0 90 3 = I 90 3 := by rw [e_J0]; rfl
  refine WP.go 3 (And.intro rfl (And.intro (fun (b5 : ¬ J0 90 3 = 0) => ?_) (fun (b5 : J0 90 3 = 0) => ?_)))
  ·
    show WP (Call d) 266 P X (8, [some (vr (some 90) 10), none], [], (J0, H), 0, 0)
    refine WP.go 2 ?_
    show WP (Call d) 266 P X (10, [some (vr (some 90) 10), some (vi 0)], [], (J0, H), 0, 0)
    have lp10 : ∀ (n9 : Nat) (K : qI) (k : Int) (hm : 2952 - k < (n9 : Int)) (iv0 : 0 ≤ k ∧ k ≤ 2952) (iv1 : ∀ j, 0 ≤ j → j < k → K 91 j = I 92 j) (iv2 : ∀ a, a ≠ 91 → K a = J0 a), WP (Call d) 266 P X (10, [some (vr (some 90) 10), some (vi k)], [], (K, H), 0, 0) := by
      intro n9
      induction n9 with
      | zero => intro K k hm iv0 iv1 iv2; exact absurd hm (by omega)
      | succ n9 ih10 =>
        intro K k hm iv0 iv1 iv2
        refine WP.go 3 (And.intro (fun (b12 : ¬ k < 2952) => ?_) (fun (b12 : k < 2952) => ?_))
        ·
          show WP (Call d) 266 P X (23, [some (vr (some 90) 10), some (vi k)], [], (K, H), 0, 0)
          refine WP.go 2 (And.intro (And.intro (Nat.le_of_ble_eq_true rfl) (Nat.le_of_ble_eq_true rfl)) (And.intro (Or.inr rfl) (?_)))
          show P (some (vi 1)) (K, H)
          refine h.2 (fun q => b5 (h3.trans q)) _ ⟨fun a q => ?_, fun s q => ?_, ?_⟩ (fun j q0 q1 => iv1 j q0 (by omega))
          · rw [iv2 a (by omega)]; exact hmf.1 a (by omega)
          · rw [iv2 90 (by omega)]; exact hmf.2.1 s q
          · have := hmf.2.2; unfold MS at *; rw [iv2 90 (by omega)]; exact this
        ·
          show WP (Call d) 266 P X (13, [some (vr (some 90) 10), some (vi k)], [], (K, H), 0, 0)
          refine WP.go 10 (And.intro rfl (Exists.intro 91 (And.intro hS.r90_1 (And.intro rfl (Exists.intro 92 (And.intro hS.r90_2 (And.intro (And.intro rfl (And.intro (show 0 ≤ k from by omega) (show k < H.2.1 92 from by omega))) (And.intro (And.intro rfl (And.intro (show 0 ≤ k from by omega) (show k < H.2.1 91 from by omega))) (Exists.intro (k + 1) (And.intro (wrp_a (by omega) (by omega)) (?_)))))))))))
          show WP (Call d) 266 P X (10, [some (vr (some 90) 10), some (vi (k + 1))], [], ((upI K 91 k (K 92 k)), H), 0, 0)
          exact ih10 (upI K 91 k (K 92 k)) (k + 1) (by omega) (by omega) (cp_s (upI_self _ _ _ _) iv1 (by rw [iv2 92 (by omega), f_J0 92 (by omega)])) (fun a q => by rw [upI_cell q]; exact iv2 a q)
    exact lp10 ((2952 - 0 : Int).toNat + 1) J0 0 (by omega) (by omega) (fun j q1 q2 => by omega) (fun _ _ => rfl)
  ·
    show WP (Call d) 266 P X (6, [some (vr (some 90) 10), none], [], (J0, H), 0, 0)
    refine WP.go 2 (And.intro (And.intro (Nat.le_of_ble_eq_true rfl) (Nat.le_of_ble_eq_true rfl)) (And.intro (Or.inl rfl) (?_)))
    show P (some (vi 0)) (J0, H)
    exact h.1 (h3.symm.trans b5) _ hmf

