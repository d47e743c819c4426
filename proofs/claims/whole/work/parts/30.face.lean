/-- a question changes the class's notes alone -/
def CF (I J : qI) : Prop := ∀ a, a < 79 ∨ 90 ≤ a → J a = I a
noncomputable def AN (μ : Int → Int) : Int → Int := ANG μ (-1) 0
noncomputable def HT (μ : Int → Int) : Int → Int := HTC μ (-1) 0
theorem CF.rf (I : qI) : CF I I := fun _ _ => rfl
theorem CF.tr {I J K : qI} (h : CF I J) (g : CF J K) : CF I K := fun a q => (g a q).trans (h a q)
theorem CF.op {I J : qI} (f : ∀ a, a ≠ 80 → a ≠ 81 → J a = I a) : CF I J := fun a q => f a (by omega) (by omega)
theorem CF.tw {I J : qI} {μ : Int → Int} (h : CF I J) (hT : TR 6 I μ) : TR 6 J μ := hT.fr (fun a _ _ => h a (by omega))
theorem OPN.a {μ A T : Int → Int} (e : OPN μ (-1) 0 A T) : ∀ y, 0 ≤ y → y < 100 → A y = AN μ y := e.1
theorem OPN.t {μ A T : Int → Int} {pl mo : Int} (e : OPN μ pl mo A T) : ∀ c, 0 ≤ c → c < 81 → T c = HT μ c := e.2
theorem s_11_needThere_v {d : Nat} {P : Option qV → qH → Prop} {X : Nat → qH → Prop} {I : qI} {H : qS} (hd : 1 ≤ d) {v : Int} (h : v ≠ 0 → P none (I, H)) (hx1 : v = 0 → X 1 (I, H)) :
    Call d 163 [vi v] (I, H) P X := by
  obtain ⟨d, rfl⟩ : ∃ e, d = e + 1 := ⟨d - 1, by omega⟩
  show WP (Call d) 163 P X (0, [some (vi v)], [], (I, H), 0, 0)
  refine WP.go 2 (And.intro (fun (b1 : ¬ v = 0) => ?_) (fun (b1 : v = 0) => ?_))
  ·
    show WP (Call d) 163 P X (6, [some (vi v)], [], (I, H), 0, 0)
    refine WP.go 1 (And.intro (And.intro (Nat.le_of_ble_eq_true rfl) (Nat.le_of_ble_eq_true rfl)) (?_))
    show P none (I, H)
    exact h b1
  ·
    show WP (Call d) 163 P X (2, [some (vi v)], [], (I, H), 0, 0)
    refine WP.go 1 (And.intro (And.intro (Nat.le_of_ble_eq_true rfl) (Nat.le_of_ble_eq_true rfl)) (?_))
    show X 1 (I, H)
    exact hx1 (by omega)

theorem s_11_needThere_b {d : Nat} {P : Option qV → qH → Prop} {X : Nat → qH → Prop} {I : qI} {H : qS} (hd : 1 ≤ d) {p : Prop} (h : p → P none (I, H)) (hx1 : ¬ p → X 1 (I, H)) :
    Call d 163 [vi (bz p)] (I, H) P X := by
  obtain ⟨d, rfl⟩ : ∃ e, d = e + 1 := ⟨d - 1, by omega⟩
  show WP (Call d) 163 P X (0, [some (vi (bz p))], [], (I, H), 0, 0)
  refine WP.go 2 (And.intro (fun (b1 : ¬ bz p = 0) => ?_) (fun (b1 : bz p = 0) => ?_))
  ·
    show WP (Call d) 163 P X (6, [some (vi (bz p))], [], (I, H), 0, 0)
    have z1 := bz_e1.mp b1
    refine WP.go 1 (And.intro (And.intro (Nat.le_of_ble_eq_true rfl) (Nat.le_of_ble_eq_true rfl)) (?_))
    show P none (I, H)
    exact h (bz_e1.mp b1)
  ·
    show WP (Call d) 163 P X (2, [some (vi (bz p))], [], (I, H), 0, 0)
    have z1 := bz_e0.mp b1
    refine WP.go 1 (And.intro (And.intro (Nat.le_of_ble_eq_true rfl) (Nat.le_of_ble_eq_true rfl)) (?_))
    show X 1 (I, H)
    exact hx1 (bz_e0.mp b1)

theorem s_11_needRoom_v {d : Nat} {P : Option qV → qH → Prop} {X : Nat → qH → Prop} {I : qI} {H : qS} (hd : 1 ≤ d) {v : Int} (h : v ≠ 0 → P none (I, H)) (hx2 : v = 0 → X 2 (I, H)) :
    Call d 174 [vi v] (I, H) P X := by
  obtain ⟨d, rfl⟩ : ∃ e, d = e + 1 := ⟨d - 1, by omega⟩
  show WP (Call d) 174 P X (0, [some (vi v)], [], (I, H), 0, 0)
  refine WP.go 2 (And.intro (fun (b1 : ¬ v = 0) => ?_) (fun (b1 : v = 0) => ?_))
  ·
    show WP (Call d) 174 P X (6, [some (vi v)], [], (I, H), 0, 0)
    refine WP.go 1 (And.intro (And.intro (Nat.le_of_ble_eq_true rfl) (Nat.le_of_ble_eq_true rfl)) (?_))
    show P none (I, H)
    exact h b1
  ·
    show WP (Call d) 174 P X (2, [some (vi v)], [], (I, H), 0, 0)
    refine WP.go 1 (And.intro (And.intro (Nat.le_of_ble_eq_true rfl) (Nat.le_of_ble_eq_true rfl)) (?_))
    show X 2 (I, H)
    exact hx2 (by omega)

theorem s_11_needRoom_b {d : Nat} {P : Option qV → qH → Prop} {X : Nat → qH → Prop} {I : qI} {H : qS} (hd : 1 ≤ d) {p : Prop} (h : p → P none (I, H)) (hx2 : ¬ p → X 2 (I, H)) :
    Call d 174 [vi (bz p)] (I, H) P X := by
  obtain ⟨d, rfl⟩ : ∃ e, d = e + 1 := ⟨d - 1, by omega⟩
  show WP (Call d) 174 P X (0, [some (vi (bz p))], [], (I, H), 0, 0)
  refine WP.go 2 (And.intro (fun (b1 : ¬ bz p = 0) => ?_) (fun (b1 : bz p = 0) => ?_))
  ·
    show WP (Call d) 174 P X (6, [some (vi (bz p))], [], (I, H), 0, 0)
    have z1 := bz_e1.mp b1
    refine WP.go 1 (And.intro (And.intro (Nat.le_of_ble_eq_true rfl) (Nat.le_of_ble_eq_true rfl)) (?_))
    show P none (I, H)
    exact h (bz_e1.mp b1)
  ·
    show WP (Call d) 174 P X (2, [some (vi (bz p))], [], (I, H), 0, 0)
    have z1 := bz_e0.mp b1
    refine WP.go 1 (And.intro (And.intro (Nat.le_of_ble_eq_true rfl) (Nat.le_of_ble_eq_true rfl)) (?_))
    show X 2 (I, H)
    exact hx2 (bz_e0.mp b1)

theorem s_11_needCell {d : Nat} {P : Option qV → qH → Prop} {X : Nat → qH → Prop} {I : qI} {H : qS} (hd : 2 ≤ d) {c : Int} (h : (0 ≤ c ∧ c < 81) → P none (I, H)) (hx1 : ¬ (0 ≤ c ∧ c < 81) → X 1 (I, H)) :
    Call d 164 [vi c] (I, H) P X := by
  obtain ⟨d, rfl⟩ : ∃ e, d = e + 1 := ⟨d - 1, by omega⟩
  show WP (Call d) 164 P X (0, [some (vi c)], [], (I, H), 0, 0)
  refine WP.go 2 (And.intro (fun (b1 : c < 0) => ?_) (fun (b1 : ¬ c < 0) => ?_))
  ·
    show WP (Call d) 164 P X (7, [some (vi c)], [], (I, H), 0, 0)
    refine WP.go 2 (And.intro (And.intro (Nat.le_of_ble_eq_true rfl) (Nat.le_of_ble_eq_true rfl)) (And.intro rfl (?_)))
    show Call d 163 [vi 0] (I, H) _ _
    exact s_11_needThere_v (by omega) (fun q9 => absurd rfl q9) (fun _ => hx1 (by omega))
  ·
    show WP (Call d) 164 P X (2, [some (vi c)], [], (I, H), 0, 0)
    refine WP.go 3 (And.intro (fun (b4 : ¬ c < 81) => ?_) (fun (b4 : c < 81) => ?_))
    ·
      show WP (Call d) 164 P X (7, [some (vi c)], [], (I, H), 0, 0)
      refine WP.go 2 (And.intro (And.intro (Nat.le_of_ble_eq_true rfl) (Nat.le_of_ble_eq_true rfl)) (And.intro rfl (?_)))
      show Call d 163 [vi 0] (I, H) _ _
      exact s_11_needThere_v (by omega) (fun q9 => absurd rfl q9) (fun _ => hx1 (by omega))
    ·
      show WP (Call d) 164 P X (5, [some (vi c)], [], (I, H), 0, 0)
      refine WP.go 3 (And.intro (And.intro (Nat.le_of_ble_eq_true rfl) (Nat.le_of_ble_eq_true rfl)) (And.intro rfl (?_)))
      show Call d 163 [vi 1] (I, H) _ _
      refine s_11_needThere_v (by omega)  (fun q8_2 => ?_) (fun q9 => hx1 (by omega))
      show WP (Call d) 164 P X (9, [some (vi c)], [], (I, H), 1, 6)
      refine WP.go 1 (And.intro (And.intro (Nat.le_of_ble_eq_true rfl) (Nat.le_of_ble_eq_true rfl)) (?_))
      show P none (I, H)
      exact h (by omega)

theorem s_11_needYear {d : Nat} {P : Option qV → qH → Prop} {X : Nat → qH → Prop} {I : qI} {H : qS} (hd : 2 ≤ d) {c : Int} (h : (0 ≤ c ∧ c < 100) → P none (I, H)) (hx1 : ¬ (0 ≤ c ∧ c < 100) → X 1 (I, H)) :
    Call d 165 [vi c] (I, H) P X := by
  obtain ⟨d, rfl⟩ : ∃ e, d = e + 1 := ⟨d - 1, by omega⟩
  show WP (Call d) 165 P X (0, [some (vi c)], [], (I, H), 0, 0)
  refine WP.go 2 (And.intro (fun (b1 : c < 0) => ?_) (fun (b1 : ¬ c < 0) => ?_))
  ·
    show WP (Call d) 165 P X (7, [some (vi c)], [], (I, H), 0, 0)
    refine WP.go 2 (And.intro (And.intro (Nat.le_of_ble_eq_true rfl) (Nat.le_of_ble_eq_true rfl)) (And.intro rfl (?_)))
    show Call d 163 [vi 0] (I, H) _ _
    exact s_11_needThere_v (by omega) (fun q9 => absurd rfl q9) (fun _ => hx1 (by omega))
  ·
    show WP (Call d) 165 P X (2, [some (vi c)], [], (I, H), 0, 0)
    refine WP.go 3 (And.intro (fun (b4 : ¬ c < 100) => ?_) (fun (b4 : c < 100) => ?_))
    ·
      show WP (Call d) 165 P X (7, [some (vi c)], [], (I, H), 0, 0)
      refine WP.go 2 (And.intro (And.intro (Nat.le_of_ble_eq_true rfl) (Nat.le_of_ble_eq_true rfl)) (And.intro rfl (?_)))
      show Call d 163 [vi 0] (I, H) _ _
      exact s_11_needThere_v (by omega) (fun q9 => absurd rfl q9) (fun _ => hx1 (by omega))
    ·
      show WP (Call d) 165 P X (5, [some (vi c)], [], (I, H), 0, 0)
      refine WP.go 3 (And.intro (And.intro (Nat.le_of_ble_eq_true rfl) (Nat.le_of_ble_eq_true rfl)) (And.intro rfl (?_)))
      show Call d 163 [vi 1] (I, H) _ _
      refine s_11_needThere_v (by omega)  (fun q8_2 => ?_) (fun q9 => hx1 (by omega))
      show WP (Call d) 165 P X (9, [some (vi c)], [], (I, H), 1, 6)
      refine WP.go 1 (And.intro (And.intro (Nat.le_of_ble_eq_true rfl) (Nat.le_of_ble_eq_true rfl)) (?_))
      show P none (I, H)
      exact h (by omega)

theorem s_11_needHour {d : Nat} {P : Option qV → qH → Prop} {X : Nat → qH → Prop} {I : qI} {H : qS} (hd : 2 ≤ d) {c : Int} (h : (0 ≤ c ∧ c < 13) → P none (I, H)) (hx1 : ¬ (0 ≤ c ∧ c < 13) → X 1 (I, H)) :
    Call d 166 [vi c] (I, H) P X := by
  obtain ⟨d, rfl⟩ : ∃ e, d = e + 1 := ⟨d - 1, by omega⟩
  show WP (Call d) 166 P X (0, [some (vi c)], [], (I, H), 0, 0)
  refine WP.go 2 (And.intro (fun (b1 : c < 0) => ?_) (fun (b1 : ¬ c < 0) => ?_))
  ·
    show WP (Call d) 166 P X (7, [some (vi c)], [], (I, H), 0, 0)
    refine WP.go 2 (And.intro (And.intro (Nat.le_of_ble_eq_true rfl) (Nat.le_of_ble_eq_true rfl)) (And.intro rfl (?_)))
    show Call d 163 [vi 0] (I, H) _ _
    exact s_11_needThere_v (by omega) (fun q9 => absurd rfl q9) (fun _ => hx1 (by omega))
  ·
    show WP (Call d) 166 P X (2, [some (vi c)], [], (I, H), 0, 0)
    refine WP.go 3 (And.intro (fun (b4 : ¬ c < 13) => ?_) (fun (b4 : c < 13) => ?_))
    ·
      show WP (Call d) 166 P X (7, [some (vi c)], [], (I, H), 0, 0)
      refine WP.go 2 (And.intro (And.intro (Nat.le_of_ble_eq_true rfl) (Nat.le_of_ble_eq_true rfl)) (And.intro rfl (?_)))
      show Call d 163 [vi 0] (I, H) _ _
      exact s_11_needThere_v (by omega) (fun q9 => absurd rfl q9) (fun _ => hx1 (by omega))
    ·
      show WP (Call d) 166 P X (5, [some (vi c)], [], (I, H), 0, 0)
      refine WP.go 3 (And.intro (And.intro (Nat.le_of_ble_eq_true rfl) (Nat.le_of_ble_eq_true rfl)) (And.intro rfl (?_)))
      show Call d 163 [vi 1] (I, H) _ _
      refine s_11_needThere_v (by omega)  (fun q8_2 => ?_) (fun q9 => hx1 (by omega))
      show WP (Call d) 166 P X (9, [some (vi c)], [], (I, H), 1, 6)
      refine WP.go 1 (And.intro (And.intro (Nat.le_of_ble_eq_true rfl) (Nat.le_of_ble_eq_true rfl)) (?_))
      show P none (I, H)
      exact h (by omega)

theorem s_11_needYears {d : Nat} {P : Option qV → qH → Prop} {X : Nat → qH → Prop} {I : qI} {H : qS} (hd : 3 ≤ d) {a b : Int} (h : (0 ≤ a ∧ a < 100) ∧ (0 ≤ b ∧ b < 100) ∧ a ≤ b → P none (I, H)) (hx1 : ¬ ((0 ≤ a ∧ a < 100) ∧ (0 ≤ b ∧ b < 100)) → X 1 (I, H)) (hx0 : ((0 ≤ a ∧ a < 100) ∧ (0 ≤ b ∧ b < 100)) ∧ b < a → X 0 (I, H)) :
    Call d 171 [vi a, vi b] (I, H) P X := by
  obtain ⟨d, rfl⟩ : ∃ e, d = e + 1 := ⟨d - 1, by omega⟩
  show WP (Call d) 171 P X (0, [some (vi a), some (vi b)], [], (I, H), 0, 0)
  refine WP.go 2 (And.intro (And.intro (Nat.le_of_ble_eq_true rfl) (Nat.le_of_ble_eq_true rfl)) (And.intro rfl (?_)))
  show Call d 165 [vi a] (I, H) _ _
  refine s_11_needYear (by omega)  (fun q1 => ?_) (fun q9 => hx1 (by omega))
  show WP (Call d) 171 P X (2, [some (vi a), some (vi b)], [], (I, H), 1, 6)
  refine WP.go 2 (And.intro (And.intro (Nat.le_of_ble_eq_true rfl) (Nat.le_of_ble_eq_true rfl)) (And.intro rfl (?_)))
  show Call d 165 [vi b] (I, H) _ _
  refine s_11_needYear (by omega)  (fun q3 => ?_) (fun q9 => hx1 (by omega))
  show WP (Call d) 171 P X (4, [some (vi a), some (vi b)], [], (I, H), 2, 12)
  refine WP.go 3 (And.intro (fun (b6 : ¬ b < a) => ?_) (fun (b6 : b < a) => ?_))
  ·
    show WP (Call d) 171 P X (11, [some (vi a), some (vi b)], [], (I, H), 2, 12)
    refine WP.go 1 (And.intro (And.intro (Nat.le_of_ble_eq_true rfl) (Nat.le_of_ble_eq_true rfl)) (?_))
    show P none (I, H)
    exact h (by omega)
  ·
    show WP (Call d) 171 P X (7, [some (vi a), some (vi b)], [], (I, H), 2, 12)
    refine WP.go 1 (And.intro (And.intro (Nat.le_of_ble_eq_true rfl) (Nat.le_of_ble_eq_true rfl)) (?_))
    show X 0 (I, H)
    exact hx0 (by omega)

theorem s_11_needHouse {d : Nat} {P : Option qV → qH → Prop} {X : Nat → qH → Prop} {I : qI} {H : qS} {μ : Int → Int} (hd : 2 ≤ d) {c : Int} (hS : Shp H) (hT : TR 6 I μ) (h : (0 ≤ c ∧ c < μ 1) → P none (I, H)) (hx1 : ¬ (0 ≤ c ∧ c < μ 1) → X 1 (I, H)) :
    Call d 167 [vr (some 3) 9, vi c] (I, H) P X := by
  obtain ⟨d, rfl⟩ : ∃ e, d = e + 1 := ⟨d - 1, by omega⟩
  show WP (Call d) 167 P X (0, [some (vr (some 3) 9), some (vi c)], [], (I, H), 0, 0)
  refine WP.go 5 (And.intro rfl (Exists.intro 6 (And.intro hS.r3_4 (And.intro rfl (Exists.intro 7 (And.intro hS.r6_0 (And.intro (And.intro (Nat.le_of_ble_eq_true rfl) (Nat.le_of_ble_eq_true rfl)) (And.intro rfl (?_)))))))))
  show Call d 56 [vr (some 7) 4, vi c] (I, H) _ _
  refine s_has_houses (by omega) hT ?_
  show WP (Call d) 167 P X (5, [some (vr (some 3) 9), some (vi c)], [vi (bz (0 ≤ c ∧ c < μ 1))], (I, H), 0, 0)
  refine WP.go 1 (And.intro (And.intro (Nat.le_of_ble_eq_true rfl) (Nat.le_of_ble_eq_true rfl)) (And.intro rfl (?_)))
  show Call d 163 [vi (bz (0 ≤ c ∧ c < μ 1))] (I, H) _ _
  refine s_11_needThere_b (by omega)  (fun q5 => ?_) (fun q9 => hx1 (by omega))
  show WP (Call d) 167 P X (6, [some (vr (some 3) 9), some (vi c)], [], (I, H), 1, 6)
  refine WP.go 1 (And.intro (And.intro (Nat.le_of_ble_eq_true rfl) (Nat.le_of_ble_eq_true rfl)) (?_))
  show P none (I, H)
  exact h (by omega)

theorem s_11_needFamily {d : Nat} {P : Option qV → qH → Prop} {X : Nat → qH → Prop} {I : qI} {H : qS} {μ : Int → Int} (hd : 2 ≤ d) {c : Int} (hS : Shp H) (hT : TR 6 I μ) (h : (0 ≤ c ∧ c < μ 1) → P none (I, H)) (hx1 : ¬ (0 ≤ c ∧ c < μ 1) → X 1 (I, H)) :
    Call d 168 [vr (some 3) 9, vi c] (I, H) P X := by
  obtain ⟨d, rfl⟩ : ∃ e, d = e + 1 := ⟨d - 1, by omega⟩
  show WP (Call d) 168 P X (0, [some (vr (some 3) 9), some (vi c)], [], (I, H), 0, 0)
  refine WP.go 5 (And.intro rfl (Exists.intro 6 (And.intro hS.r3_4 (And.intro rfl (Exists.intro 11 (And.intro hS.r6_2 (And.intro (And.intro (Nat.le_of_ble_eq_true rfl) (Nat.le_of_ble_eq_true rfl)) (And.intro rfl (?_)))))))))
  show Call d 56 [vr (some 11) 4, vi c] (I, H) _ _
  refine s_has_families (by omega) hT ?_
  show WP (Call d) 168 P X (5, [some (vr (some 3) 9), some (vi c)], [vi (bz (0 ≤ c ∧ c < μ 1))], (I, H), 0, 0)
  refine WP.go 1 (And.intro (And.intro (Nat.le_of_ble_eq_true rfl) (Nat.le_of_ble_eq_true rfl)) (And.intro rfl (?_)))
  show Call d 163 [vi (bz (0 ≤ c ∧ c < μ 1))] (I, H) _ _
  refine s_11_needThere_b (by omega)  (fun q5 => ?_) (fun q9 => hx1 (by omega))
  show WP (Call d) 168 P X (6, [some (vr (some 3) 9), some (vi c)], [], (I, H), 1, 6)
  refine WP.go 1 (And.intro (And.intro (Nat.le_of_ble_eq_true rfl) (Nat.le_of_ble_eq_true rfl)) (?_))
  show P none (I, H)
  exact h (by omega)

theorem s_11_needWindow {d : Nat} {P : Option qV → qH → Prop} {X : Nat → qH → Prop} {I : qI} {H : qS} {μ : Int → Int} (hd : 2 ≤ d) {c : Int} (hS : Shp H) (hT : TR 6 I μ) (h : (0 ≤ c ∧ c < μ 2) → P none (I, H)) (hx1 : ¬ (0 ≤ c ∧ c < μ 2) → X 1 (I, H)) :
    Call d 169 [vr (some 3) 9, vi c] (I, H) P X := by
  obtain ⟨d, rfl⟩ : ∃ e, d = e + 1 := ⟨d - 1, by omega⟩
  show WP (Call d) 169 P X (0, [some (vr (some 3) 9), some (vi c)], [], (I, H), 0, 0)
  refine WP.go 5 (And.intro rfl (Exists.intro 6 (And.intro hS.r3_4 (And.intro rfl (Exists.intro 9 (And.intro hS.r6_1 (And.intro (And.intro (Nat.le_of_ble_eq_true rfl) (Nat.le_of_ble_eq_true rfl)) (And.intro rfl (?_)))))))))
  show Call d 56 [vr (some 9) 4, vi c] (I, H) _ _
  refine s_has_windows (by omega) hT ?_
  show WP (Call d) 169 P X (5, [some (vr (some 3) 9), some (vi c)], [vi (bz (0 ≤ c ∧ c < μ 2))], (I, H), 0, 0)
  refine WP.go 1 (And.intro (And.intro (Nat.le_of_ble_eq_true rfl) (Nat.le_of_ble_eq_true rfl)) (And.intro rfl (?_)))
  show Call d 163 [vi (bz (0 ≤ c ∧ c < μ 2))] (I, H) _ _
  refine s_11_needThere_b (by omega)  (fun q5 => ?_) (fun q9 => hx1 (by omega))
  show WP (Call d) 169 P X (6, [some (vr (some 3) 9), some (vi c)], [], (I, H), 1, 6)
  refine WP.go 1 (And.intro (And.intro (Nat.le_of_ble_eq_true rfl) (Nat.le_of_ble_eq_true rfl)) (?_))
  show P none (I, H)
  exact h (by omega)

theorem s_11_needLease {d : Nat} {P : Option qV → qH → Prop} {X : Nat → qH → Prop} {I : qI} {H : qS} {μ : Int → Int} (hd : 2 ≤ d) {c : Int} (hS : Shp H) (hT : TR 6 I μ) (h : (0 ≤ c ∧ c < μ 3) → P none (I, H)) (hx1 : ¬ (0 ≤ c ∧ c < μ 3) → X 1 (I, H)) :
    Call d 170 [vr (some 3) 9, vi c] (I, H) P X := by
  obtain ⟨d, rfl⟩ : ∃ e, d = e + 1 := ⟨d - 1, by omega⟩
  show WP (Call d) 170 P X (0, [some (vr (some 3) 9), some (vi c)], [], (I, H), 0, 0)
  refine WP.go 2 (And.intro (fun (b1 : c < 0) => ?_) (fun (b1 : ¬ c < 0) => ?_))
  ·
    show WP (Call d) 170 P X (9, [some (vr (some 3) 9), some (vi c)], [], (I, H), 0, 0)
    refine WP.go 2 (And.intro (And.intro (Nat.le_of_ble_eq_true rfl) (Nat.le_of_ble_eq_true rfl)) (And.intro rfl (?_)))
    show Call d 163 [vi 0] (I, H) _ _
    exact s_11_needThere_v (by omega) (fun q9 => absurd rfl q9) (fun _ => hx1 (by omega))
  ·
    show WP (Call d) 170 P X (2, [some (vr (some 3) 9), some (vi c)], [], (I, H), 0, 0)
    refine WP.go 4 (And.intro rfl (Exists.intro 6 (And.intro hS.r3_4 (And.intro rfl (?_)))))
    refine rw_i (Q := fun x9 => WP (Call d) 170 P X (6, [some (vr (some 3) 9), some (vi c)], [vi x9, vi c], (I, H), 0, 0)) hT.lc ?_
    show WP (Call d) 170 P X (6, [some (vr (some 3) 9), some (vi c)], [vi (μ 3), vi c], (I, H), 0, 0)
    refine WP.go 1 (And.intro (fun (b6 : ¬ c < μ 3) => ?_) (fun (b6 : c < μ 3) => ?_))
    ·
      show WP (Call d) 170 P X (9, [some (vr (some 3) 9), some (vi c)], [], (I, H), 0, 0)
      refine WP.go 2 (And.intro (And.intro (Nat.le_of_ble_eq_true rfl) (Nat.le_of_ble_eq_true rfl)) (And.intro rfl (?_)))
      show Call d 163 [vi 0] (I, H) _ _
      exact s_11_needThere_v (by omega) (fun q9 => absurd rfl q9) (fun _ => hx1 (by omega))
    ·
      show WP (Call d) 170 P X (7, [some (vr (some 3) 9), some (vi c)], [], (I, H), 0, 0)
      refine WP.go 3 (And.intro (And.intro (Nat.le_of_ble_eq_true rfl) (Nat.le_of_ble_eq_true rfl)) (And.intro rfl (?_)))
      show Call d 163 [vi 1] (I, H) _ _
      refine s_11_needThere_v (by omega)  (fun q10_2 => ?_) (fun q9 => hx1 (by omega))
      show WP (Call d) 170 P X (11, [some (vr (some 3) 9), some (vi c)], [], (I, H), 1, 6)
      refine WP.go 1 (And.intro (And.intro (Nat.le_of_ble_eq_true rfl) (Nat.le_of_ble_eq_true rfl)) (?_))
      show P none (I, H)
      exact h (by omega)

theorem s_11_needHeight {d : Nat} {P : Option qV → qH → Prop} {X : Nat → qH → Prop} {I : qI} {H : qS} {μ : Int → Int} (hd : 3 ≤ d) {h9 b : Int} (hS : Shp H) (hT : TR 6 I μ) (hV : IM μ) (hh : 0 ≤ h9 ∧ h9 < μ 1) (h : (1 ≤ b ∧ b < 30 ∧ μ (121 + 2 * h9) + b ≤ 30) → P none (I, H)) (hx0 : ¬ (1 ≤ b ∧ b < 30 ∧ μ (121 + 2 * h9) + b ≤ 30) → X 0 (I, H)) :
    Call d 172 [vr (some 3) 9, vi h9, vi b] (I, H) P X := by
  obtain ⟨d, rfl⟩ : ∃ e, d = e + 1 := ⟨d - 1, by omega⟩
  have v1 := hV.hh h9 hh.1 hh.2
  show WP (Call d) 172 P X (0, [some (vr (some 3) 9), some (vi h9), some (vi b)], [], (I, H), 0, 0)
  refine WP.go 3 (And.intro (fun (b2 : b < 1) => ?_) (fun (b2 : ¬ b < 1) => ?_))
  ·
    show WP (Call d) 172 P X (14, [some (vr (some 3) 9), some (vi h9), some (vi b)], [], (I, H), 0, 0)
    refine WP.go 1 (And.intro (And.intro (Nat.le_of_ble_eq_true rfl) (Nat.le_of_ble_eq_true rfl)) (?_))
    show X 0 (I, H)
    exact hx0 (by omega)
  ·
    show WP (Call d) 172 P X (3, [some (vr (some 3) 9), some (vi h9), some (vi b)], [], (I, H), 0, 0)
    refine WP.go 3 (And.intro (fun (b5 : ¬ b < 30) => ?_) (fun (b5 : b < 30) => ?_))
    ·
      show WP (Call d) 172 P X (14, [some (vr (some 3) 9), some (vi h9), some (vi b)], [], (I, H), 0, 0)
      refine WP.go 1 (And.intro (And.intro (Nat.le_of_ble_eq_true rfl) (Nat.le_of_ble_eq_true rfl)) (?_))
      show X 0 (I, H)
      exact hx0 (by omega)
    ·
      show WP (Call d) 172 P X (6, [some (vr (some 3) 9), some (vi h9), some (vi b)], [], (I, H), 0, 0)
      refine WP.go 4 (And.intro rfl (Exists.intro 6 (And.intro hS.r3_4 (And.intro (And.intro (Nat.le_of_ble_eq_true rfl) (Nat.le_of_ble_eq_true rfl)) (And.intro rfl (?_))))))
      show Call d 94 [vr (some 6) 6, vi h9] (I, H) _ _
      refine s_8_heightOf (by omega) hS (.inl rfl) hT hV (by omega) ?_
      show WP (Call d) 172 P X (10, [some (vr (some 3) 9), some (vi h9), some (vi b)], [vi (μ (121 + 2 * h9))], (I, H), 0, 0)
      refine WP.go 4 (Exists.intro ((μ (121 + 2 * h9)) + b) (And.intro (wrp_a (by omega) (by omega)) (And.intro (fun (b13 : ¬ 30 < (μ (121 + 2 * h9)) + b) => ?_) (fun (b13 : 30 < (μ (121 + 2 * h9)) + b) => ?_))))
      ·
        show WP (Call d) 172 P X (18, [some (vr (some 3) 9), some (vi h9), some (vi b)], [], (I, H), 0, 0)
        refine WP.go 1 (And.intro (And.intro (Nat.le_of_ble_eq_true rfl) (Nat.le_of_ble_eq_true rfl)) (?_))
        show P none (I, H)
        exact h (by omega)
      ·
        show WP (Call d) 172 P X (14, [some (vr (some 3) 9), some (vi h9), some (vi b)], [], (I, H), 0, 0)
        refine WP.go 1 (And.intro (And.intro (Nat.le_of_ble_eq_true rfl) (Nat.le_of_ble_eq_true rfl)) (?_))
        show X 0 (I, H)
        exact hx0 (by omega)

theorem s_11_angle {d : Nat} {P : Option qV → qH → Prop} {X : Nat → qH → Prop} {I : qI} {H : qS} {μ : Int → Int} (hd : 6 ≤ d) {y : Int} (hS : Shp H) (hX : SX I) (hT : TR 6 I μ) (hV : IM μ) (h : ((0 ≤ y ∧ y < 100)) → ∀ J : qI, CF I J → P (some (vi (AN μ y))) (J, H)) (hx1 : ¬ ((0 ≤ y ∧ y < 100)) → X 1 (I, H)) :
    Call d 122 [vr (some 3) 9, vi y] (I, H) P X := by
  obtain ⟨d, rfl⟩ : ∃ e, d = e + 1 := ⟨d - 1, by omega⟩
  show WP (Call d) 122 P X (0, [some (vr (some 3) 9), some (vi y)], [], (I, H), 0, 0)
  refine WP.go 2 (And.intro (And.intro (Nat.le_of_ble_eq_true rfl) (Nat.le_of_ble_eq_true rfl)) (And.intro rfl (?_)))
  show Call d 165 [vi y] (I, H) _ _
  refine s_11_needYear (by omega)  (fun q1 => ?_) (fun q9 => hx1 (by omega))
  show WP (Call d) 122 P X (2, [some (vr (some 3) 9), some (vi y)], [], (I, H), 1, 6)
  refine WP.go 3 (And.intro rfl (Exists.intro 79 (And.intro hS.r3_7 (And.intro (And.intro (Nat.le_of_ble_eq_true rfl) (Nat.le_of_ble_eq_true rfl)) (And.intro rfl (?_))))))
  show Call d 1 [vr (some 79) 0] (I, H) _ _
  refine s_0_open (by omega) hS hX hT hV (fun J4 e4 f4 => ?_)
  show WP (Call d) 122 P X (5, [some (vr (some 3) 9), some (vi y)], [], (J4, H), 1, 6)
  have hX_1 : SX J4 := SX.fr hX (f4 0 (by omega) (by omega)) (f4 1 (by omega) (by omega))
  have hT_2 : TR 6 J4 μ := hT.fr (fun a q1 q2 => f4 a (by omega) (by omega))
  have hA_3 : AB (J4 80) (J4 81) := e4.ab hV
  refine WP.go 4 (And.intro rfl (Exists.intro 79 (And.intro hS.r3_7 (And.intro (And.intro (Nat.le_of_ble_eq_true rfl) (Nat.le_of_ble_eq_true rfl)) (And.intro rfl (?_))))))
  show Call d 4 [vr (some 79) 0, vi y] (J4, H) _ _
  refine s_0_angleIn (by omega) hS (by omega) ?_
  show WP (Call d) 122 P X (9, [some (vr (some 3) 9), some (vi y)], [vi (J4 80 y)], (J4, H), 1, 6)
  refine WP.go 1 (And.intro (And.intro (Nat.le_of_ble_eq_true rfl) (Nat.le_of_ble_eq_true rfl)) (And.intro trivial (?_)))
  show P (some (vi (J4 80 y))) (J4, H)
  exact fin_i (e4.a y (by omega) (by omega)) (h (by omega) _ (CF.op f4))

theorem s_11_stop {d : Nat} {P : Option qV → qH → Prop} {X : Nat → qH → Prop} {I : qI} {H : qS} {μ : Int → Int} (hd : 6 ≤ d) (hS : Shp H) (hX : SX I) (hT : TR 6 I μ) (hV : IM μ) (h : ∀ J : qI, CF I J → P (some (vi (STP (AN μ)))) (J, H)) :
    Call d 123 [vr (some 3) 9] (I, H) P X := by
  obtain ⟨d, rfl⟩ : ∃ e, d = e + 1 := ⟨d - 1, by omega⟩
  show WP (Call d) 123 P X (0, [some (vr (some 3) 9)], [], (I, H), 0, 0)
  refine WP.go 3 (And.intro rfl (Exists.intro 79 (And.intro hS.r3_7 (And.intro (And.intro (Nat.le_of_ble_eq_true rfl) (Nat.le_of_ble_eq_true rfl)) (And.intro rfl (?_))))))
  show Call d 1 [vr (some 79) 0] (I, H) _ _
  refine s_0_open (by omega) hS hX hT hV (fun J2 e2 f2 => ?_)
  show WP (Call d) 123 P X (3, [some (vr (some 3) 9)], [], (J2, H), 0, 0)
  have hX_1 : SX J2 := SX.fr hX (f2 0 (by omega) (by omega)) (f2 1 (by omega) (by omega))
  have hT_2 : TR 6 J2 μ := hT.fr (fun a q1 q2 => f2 a (by omega) (by omega))
  have hA_3 : AB (J2 80) (J2 81) := e2.ab hV
  refine WP.go 3 (And.intro rfl (Exists.intro 79 (And.intro hS.r3_7 (And.intro (And.intro (Nat.le_of_ble_eq_true rfl) (Nat.le_of_ble_eq_true rfl)) (And.intro rfl (?_))))))
  show Call d 5 [vr (some 79) 0] (J2, H) _ _
  refine s_0_stopYear (by omega) hS ?_
  show WP (Call d) 123 P X (6, [some (vr (some 3) 9)], [vi (STP (J2 80))], (J2, H), 0, 0)
  refine WP.go 1 (And.intro (And.intro (Nat.le_of_ble_eq_true rfl) (Nat.le_of_ble_eq_true rfl)) (And.intro trivial (?_)))
  show P (some (vi (STP (J2 80)))) (J2, H)
  exact fin_i (STP_congr e2.a) (h _ (CF.op f2))

theorem s_11_lit {d : Nat} {P : Option qV → qH → Prop} {X : Nat → qH → Prop} {I : qI} {H : qS} {μ : Int → Int} (hd : 6 ≤ d) {w hr y : Int} (hS : Shp H) (hX : SX I) (hT : TR 6 I μ) (hV : IM μ) (h : ((0 ≤ w ∧ w < μ 2) ∧ (0 ≤ hr ∧ hr < 13) ∧ (0 ≤ y ∧ y < 100)) → ∀ J : qI, CF I J → P (some (vi (bz (LITp μ (AN μ) (HT μ) w hr y)))) (J, H)) (hx1 : ¬ ((0 ≤ w ∧ w < μ 2) ∧ (0 ≤ hr ∧ hr < 13) ∧ (0 ≤ y ∧ y < 100)) → X 1 (I, H)) :
    Call d 125 [vr (some 3) 9, vi w, vi hr, vi y] (I, H) P X := by
  obtain ⟨d, rfl⟩ : ∃ e, d = e + 1 := ⟨d - 1, by omega⟩
  show WP (Call d) 125 P X (0, [some (vr (some 3) 9), some (vi w), some (vi hr), some (vi y)], [], (I, H), 0, 0)
  refine WP.go 3 (And.intro (And.intro (Nat.le_of_ble_eq_true rfl) (Nat.le_of_ble_eq_true rfl)) (And.intro rfl (?_)))
  show Call d 169 [vr (some 3) 9, vi w] (I, H) _ _
  refine s_11_needWindow (by omega) hS hT (fun q2 => ?_) (fun q9 => hx1 (by omega))
  show WP (Call d) 125 P X (3, [some (vr (some 3) 9), some (vi w), some (vi hr), some (vi y)], [], (I, H), 1, 6)
  refine WP.go 2 (And.intro (And.intro (Nat.le_of_ble_eq_true rfl) (Nat.le_of_ble_eq_true rfl)) (And.intro rfl (?_)))
  show Call d 166 [vi hr] (I, H) _ _
  refine s_11_needHour (by omega)  (fun q4 => ?_) (fun q9 => hx1 (by omega))
  show WP (Call d) 125 P X (5, [some (vr (some 3) 9), some (vi w), some (vi hr), some (vi y)], [], (I, H), 2, 12)
  refine WP.go 2 (And.intro (And.intro (Nat.le_of_ble_eq_true rfl) (Nat.le_of_ble_eq_true rfl)) (And.intro rfl (?_)))
  show Call d 165 [vi y] (I, H) _ _
  refine s_11_needYear (by omega)  (fun q6 => ?_) (fun q9 => hx1 (by omega))
  show WP (Call d) 125 P X (7, [some (vr (some 3) 9), some (vi w), some (vi hr), some (vi y)], [], (I, H), 3, 18)
  refine WP.go 3 (And.intro rfl (Exists.intro 79 (And.intro hS.r3_7 (And.intro (And.intro (Nat.le_of_ble_eq_true rfl) (Nat.le_of_ble_eq_true rfl)) (And.intro rfl (?_))))))
  show Call d 1 [vr (some 79) 0] (I, H) _ _
  refine s_0_open (by omega) hS hX hT hV (fun J9 e9 f9 => ?_)
  show WP (Call d) 125 P X (10, [some (vr (some 3) 9), some (vi w), some (vi hr), some (vi y)], [], (J9, H), 3, 18)
  have hX_1 : SX J9 := SX.fr hX (f9 0 (by omega) (by omega)) (f9 1 (by omega) (by omega))
  have hT_2 : TR 6 J9 μ := hT.fr (fun a q1 q2 => f9 a (by omega) (by omega))
  have hA_3 : AB (J9 80) (J9 81) := e9.ab hV
  refine WP.go 6 (And.intro rfl (Exists.intro 79 (And.intro hS.r3_7 (And.intro (And.intro (Nat.le_of_ble_eq_true rfl) (Nat.le_of_ble_eq_true rfl)) (And.intro rfl (?_))))))
  show Call d 6 [vr (some 79) 0, vi w, vi hr, vi y] (J9, H) _ _
  refine s_0_isLit (by omega) hS hX_1 hT_2 hV hA_3 (by omega) (by omega) (by omega) ?_
  show WP (Call d) 125 P X (16, [some (vr (some 3) 9), some (vi w), some (vi hr), some (vi y)], [vi (bz (LITp μ (J9 80) (J9 81) w hr y))], (J9, H), 3, 18)
  refine WP.go 1 (And.intro (And.intro (Nat.le_of_ble_eq_true rfl) (Nat.le_of_ble_eq_true rfl)) (And.intro (bz_or _) (?_)))
  show P (some (vi (bz (LITp μ (J9 80) (J9 81) w hr y)))) (J9, H)
  exact fin_i (bz_c (LITp_congr (e9.a _ (by omega) (by omega)) e9.t)) (h (by omega) _ (CF.op f9))

theorem s_11_light {d : Nat} {P : Option qV → qH → Prop} {X : Nat → qH → Prop} {I : qI} {H : qS} {μ : Int → Int} (hd : 6 ≤ d) {w a b : Int} (hS : Shp H) (hX : SX I) (hT : TR 6 I μ) (hV : IM μ) (h : ((0 ≤ w ∧ w < μ 2) ∧ (0 ≤ a ∧ a < 100) ∧ (0 ≤ b ∧ b < 100) ∧ a ≤ b) → ∀ J : qI, CF I J → P (some (vi (LGW μ (AN μ) (HT μ) w a b))) (J, H)) (hx1 : ¬ ((0 ≤ w ∧ w < μ 2) ∧ (0 ≤ a ∧ a < 100) ∧ (0 ≤ b ∧ b < 100)) → X 1 (I, H)) (hx0 : ((0 ≤ w ∧ w < μ 2) ∧ (0 ≤ a ∧ a < 100) ∧ (0 ≤ b ∧ b < 100)) ∧ b < a → X 0 (I, H)) :
    Call d 126 [vr (some 3) 9, vi w, vi a, vi b] (I, H) P X := by
  obtain ⟨d, rfl⟩ : ∃ e, d = e + 1 := ⟨d - 1, by omega⟩
  show WP (Call d) 126 P X (0, [some (vr (some 3) 9), some (vi w), some (vi a), some (vi b)], [], (I, H), 0, 0)
  refine WP.go 3 (And.intro (And.intro (Nat.le_of_ble_eq_true rfl) (Nat.le_of_ble_eq_true rfl)) (And.intro rfl (?_)))
  show Call d 169 [vr (some 3) 9, vi w] (I, H) _ _
  refine s_11_needWindow (by omega) hS hT (fun q2 => ?_) (fun q9 => hx1 (by omega))
  show WP (Call d) 126 P X (3, [some (vr (some 3) 9), some (vi w), some (vi a), some (vi b)], [], (I, H), 1, 6)
  refine WP.go 3 (And.intro (And.intro (Nat.le_of_ble_eq_true rfl) (Nat.le_of_ble_eq_true rfl)) (And.intro rfl (?_)))
  show Call d 171 [vi a, vi b] (I, H) _ _
  refine s_11_needYears (by omega)  (fun q5 => ?_) (fun q9 => hx1 (by omega)) (fun q9 => hx0 (by omega))
  show WP (Call d) 126 P X (6, [some (vr (some 3) 9), some (vi w), some (vi a), some (vi b)], [], (I, H), 4, 24)
  refine WP.go 3 (And.intro rfl (Exists.intro 79 (And.intro hS.r3_7 (And.intro (And.intro (Nat.le_of_ble_eq_true rfl) (Nat.le_of_ble_eq_true rfl)) (And.intro rfl (?_))))))
  show Call d 1 [vr (some 79) 0] (I, H) _ _
  refine s_0_open (by omega) hS hX hT hV (fun J8 e8 f8 => ?_)
  show WP (Call d) 126 P X (9, [some (vr (some 3) 9), some (vi w), some (vi a), some (vi b)], [], (J8, H), 4, 24)
  have hX_1 : SX J8 := SX.fr hX (f8 0 (by omega) (by omega)) (f8 1 (by omega) (by omega))
  have hT_2 : TR 6 J8 μ := hT.fr (fun a q1 q2 => f8 a (by omega) (by omega))
  have hA_3 : AB (J8 80) (J8 81) := e8.ab hV
  refine WP.go 6 (And.intro rfl (Exists.intro 79 (And.intro hS.r3_7 (And.intro (And.intro (Nat.le_of_ble_eq_true rfl) (Nat.le_of_ble_eq_true rfl)) (And.intro rfl (?_))))))
  show Call d 10 [vr (some 79) 0, vi w, vi a, vi b] (J8, H) _ _
  refine s_0_lightOfWindow (by omega) hS hX_1 hT_2 hV hA_3 (by omega) (by omega) ?_
  show WP (Call d) 126 P X (15, [some (vr (some 3) 9), some (vi w), some (vi a), some (vi b)], [vi (LGW μ (J8 80) (J8 81) w a b)], (J8, H), 4, 24)
  refine WP.go 1 (And.intro (And.intro (Nat.le_of_ble_eq_true rfl) (Nat.le_of_ble_eq_true rfl)) (And.intro trivial (?_)))
  show P (some (vi (LGW μ (J8 80) (J8 81) w a b))) (J8, H)
  exact fin_i (LGW_congr (by omega) (by omega) e8.a e8.t) (h (by omega) _ (CF.op f8))

theorem s_11_bright {d : Nat} {P : Option qV → qH → Prop} {X : Nat → qH → Prop} {I : qI} {H : qS} {μ : Int → Int} (hd : 6 ≤ d) {h9 y : Int} (hS : Shp H) (hX : SX I) (hT : TR 6 I μ) (hV : IM μ) (h : ((0 ≤ h9 ∧ h9 < μ 1) ∧ (0 ≤ y ∧ y < 100)) → ∀ J : qI, CF I J → P (some (vi (LGH μ (AN μ) (HT μ) h9 y))) (J, H)) (hx1 : ¬ ((0 ≤ h9 ∧ h9 < μ 1) ∧ (0 ≤ y ∧ y < 100)) → X 1 (I, H)) :
    Call d 127 [vr (some 3) 9, vi h9, vi y] (I, H) P X := by
  obtain ⟨d, rfl⟩ : ∃ e, d = e + 1 := ⟨d - 1, by omega⟩
  show WP (Call d) 127 P X (0, [some (vr (some 3) 9), some (vi h9), some (vi y)], [], (I, H), 0, 0)
  refine WP.go 3 (And.intro (And.intro (Nat.le_of_ble_eq_true rfl) (Nat.le_of_ble_eq_true rfl)) (And.intro rfl (?_)))
  show Call d 167 [vr (some 3) 9, vi h9] (I, H) _ _
  refine s_11_needHouse (by omega) hS hT (fun q2 => ?_) (fun q9 => hx1 (by omega))
  show WP (Call d) 127 P X (3, [some (vr (some 3) 9), some (vi h9), some (vi y)], [], (I, H), 1, 6)
  refine WP.go 2 (And.intro (And.intro (Nat.le_of_ble_eq_true rfl) (Nat.le_of_ble_eq_true rfl)) (And.intro rfl (?_)))
  show Call d 165 [vi y] (I, H) _ _
  refine s_11_needYear (by omega)  (fun q4 => ?_) (fun q9 => hx1 (by omega))
  show WP (Call d) 127 P X (5, [some (vr (some 3) 9), some (vi h9), some (vi y)], [], (I, H), 2, 12)
  refine WP.go 3 (And.intro rfl (Exists.intro 79 (And.intro hS.r3_7 (And.intro (And.intro (Nat.le_of_ble_eq_true rfl) (Nat.le_of_ble_eq_true rfl)) (And.intro rfl (?_))))))
  show Call d 1 [vr (some 79) 0] (I, H) _ _
  refine s_0_open (by omega) hS hX hT hV (fun J7 e7 f7 => ?_)
  show WP (Call d) 127 P X (8, [some (vr (some 3) 9), some (vi h9), some (vi y)], [], (J7, H), 2, 12)
  have hX_1 : SX J7 := SX.fr hX (f7 0 (by omega) (by omega)) (f7 1 (by omega) (by omega))
  have hT_2 : TR 6 J7 μ := hT.fr (fun a q1 q2 => f7 a (by omega) (by omega))
  have hA_3 : AB (J7 80) (J7 81) := e7.ab hV
  refine WP.go 5 (And.intro rfl (Exists.intro 79 (And.intro hS.r3_7 (And.intro (And.intro (Nat.le_of_ble_eq_true rfl) (Nat.le_of_ble_eq_true rfl)) (And.intro rfl (?_))))))
  show Call d 11 [vr (some 79) 0, vi h9, vi y] (J7, H) _ _
  refine s_0_lightOfHouse (by omega) hS hX_1 hT_2 hV hA_3 (by omega) ?_
  show WP (Call d) 127 P X (13, [some (vr (some 3) 9), some (vi h9), some (vi y)], [vi (LGH μ (J7 80) (J7 81) h9 y)], (J7, H), 2, 12)
  refine WP.go 1 (And.intro (And.intro (Nat.le_of_ble_eq_true rfl) (Nat.le_of_ble_eq_true rfl)) (And.intro trivial (?_)))
  show P (some (vi (LGH μ (J7 80) (J7 81) h9 y))) (J7, H)
  exact fin_i (LGH_congr (e7.a _ (by omega) (by omega)) e7.t) (h (by omega) _ (CF.op f7))

theorem s_11_level {d : Nat} {P : Option qV → qH → Prop} {X : Nat → qH → Prop} {I : qI} {H : qS} {μ : Int → Int} (hd : 6 ≤ d) {c y : Int} (hS : Shp H) (hX : SX I) (hT : TR 6 I μ) (hV : IM μ) (h : ((0 ≤ c ∧ c < 81) ∧ (0 ≤ y ∧ y < 100)) → ∀ J : qI, CF I J → P (some (vi (LVL μ (AN μ) c y))) (J, H)) (hx1 : ¬ ((0 ≤ c ∧ c < 81) ∧ (0 ≤ y ∧ y < 100)) → X 1 (I, H)) :
    Call d 135 [vr (some 3) 9, vi c, vi y] (I, H) P X := by
  obtain ⟨d, rfl⟩ : ∃ e, d = e + 1 := ⟨d - 1, by omega⟩
  show WP (Call d) 135 P X (0, [some (vr (some 3) 9), some (vi c), some (vi y)], [], (I, H), 0, 0)
  refine WP.go 2 (And.intro (And.intro (Nat.le_of_ble_eq_true rfl) (Nat.le_of_ble_eq_true rfl)) (And.intro rfl (?_)))
  show Call d 164 [vi c] (I, H) _ _
  refine s_11_needCell (by omega)  (fun q1 => ?_) (fun q9 => hx1 (by omega))
  show WP (Call d) 135 P X (2, [some (vr (some 3) 9), some (vi c), some (vi y)], [], (I, H), 1, 6)
  refine WP.go 2 (And.intro (And.intro (Nat.le_of_ble_eq_true rfl) (Nat.le_of_ble_eq_true rfl)) (And.intro rfl (?_)))
  show Call d 165 [vi y] (I, H) _ _
  refine s_11_needYear (by omega)  (fun q3 => ?_) (fun q9 => hx1 (by omega))
  show WP (Call d) 135 P X (4, [some (vr (some 3) 9), some (vi c), some (vi y)], [], (I, H), 2, 12)
  refine WP.go 3 (And.intro rfl (Exists.intro 79 (And.intro hS.r3_7 (And.intro (And.intro (Nat.le_of_ble_eq_true rfl) (Nat.le_of_ble_eq_true rfl)) (And.intro rfl (?_))))))
  show Call d 1 [vr (some 79) 0] (I, H) _ _
  refine s_0_open (by omega) hS hX hT hV (fun J6 e6 f6 => ?_)
  show WP (Call d) 135 P X (7, [some (vr (some 3) 9), some (vi c), some (vi y)], [], (J6, H), 2, 12)
  have hX_1 : SX J6 := SX.fr hX (f6 0 (by omega) (by omega)) (f6 1 (by omega) (by omega))
  have hT_2 : TR 6 J6 μ := hT.fr (fun a q1 q2 => f6 a (by omega) (by omega))
  have hA_3 : AB (J6 80) (J6 81) := e6.ab hV
  refine WP.go 5 (And.intro rfl (Exists.intro 79 (And.intro hS.r3_7 (And.intro (And.intro (Nat.le_of_ble_eq_true rfl) (Nat.le_of_ble_eq_true rfl)) (And.intro rfl (?_))))))
  show Call d 15 [vr (some 79) 0, vi c, vi y] (J6, H) _ _
  refine s_0_levelOf (by omega) hS hX_1 hT_2 hV hA_3 (by omega) (by omega) ?_
  show WP (Call d) 135 P X (12, [some (vr (some 3) 9), some (vi c), some (vi y)], [vi (LVL μ (J6 80) c y)], (J6, H), 2, 12)
  refine WP.go 1 (And.intro (And.intro (Nat.le_of_ble_eq_true rfl) (Nat.le_of_ble_eq_true rfl)) (And.intro trivial (?_)))
  show P (some (vi (LVL μ (J6 80) c y))) (J6, H)
  exact fin_i (by unfold LVL; rw [e6.a y (by omega) (by omega)]) (h (by omega) _ (CF.op f6))

theorem s_11_pool {d : Nat} {P : Option qV → qH → Prop} {X : Nat → qH → Prop} {I : qI} {H : qS} {μ : Int → Int} (hd : 6 ≤ d) {c y : Int} (hS : Shp H) (hX : SX I) (hT : TR 6 I μ) (hV : IM μ) (h : ((0 ≤ c ∧ c < 81) ∧ (0 ≤ y ∧ y < 100)) → ∀ J : qI, CF I J → P (some (vi (POOL μ (AN μ) (HT μ) c y))) (J, H)) (hx1 : ¬ ((0 ≤ c ∧ c < 81) ∧ (0 ≤ y ∧ y < 100)) → X 1 (I, H)) :
    Call d 139 [vr (some 3) 9, vi c, vi y] (I, H) P X := by
  obtain ⟨d, rfl⟩ : ∃ e, d = e + 1 := ⟨d - 1, by omega⟩
  show WP (Call d) 139 P X (0, [some (vr (some 3) 9), some (vi c), some (vi y)], [], (I, H), 0, 0)
  refine WP.go 2 (And.intro (And.intro (Nat.le_of_ble_eq_true rfl) (Nat.le_of_ble_eq_true rfl)) (And.intro rfl (?_)))
  show Call d 164 [vi c] (I, H) _ _
  refine s_11_needCell (by omega)  (fun q1 => ?_) (fun q9 => hx1 (by omega))
  show WP (Call d) 139 P X (2, [some (vr (some 3) 9), some (vi c), some (vi y)], [], (I, H), 1, 6)
  refine WP.go 2 (And.intro (And.intro (Nat.le_of_ble_eq_true rfl) (Nat.le_of_ble_eq_true rfl)) (And.intro rfl (?_)))
  show Call d 165 [vi y] (I, H) _ _
  refine s_11_needYear (by omega)  (fun q3 => ?_) (fun q9 => hx1 (by omega))
  show WP (Call d) 139 P X (4, [some (vr (some 3) 9), some (vi c), some (vi y)], [], (I, H), 2, 12)
  refine WP.go 3 (And.intro rfl (Exists.intro 79 (And.intro hS.r3_7 (And.intro (And.intro (Nat.le_of_ble_eq_true rfl) (Nat.le_of_ble_eq_true rfl)) (And.intro rfl (?_))))))
  show Call d 1 [vr (some 79) 0] (I, H) _ _
  refine s_0_open (by omega) hS hX hT hV (fun J6 e6 f6 => ?_)
  show WP (Call d) 139 P X (7, [some (vr (some 3) 9), some (vi c), some (vi y)], [], (J6, H), 2, 12)
  have hX_1 : SX J6 := SX.fr hX (f6 0 (by omega) (by omega)) (f6 1 (by omega) (by omega))
  have hT_2 : TR 6 J6 μ := hT.fr (fun a q1 q2 => f6 a (by omega) (by omega))
  have hA_3 : AB (J6 80) (J6 81) := e6.ab hV
  refine WP.go 5 (And.intro rfl (Exists.intro 79 (And.intro hS.r3_7 (And.intro (And.intro (Nat.le_of_ble_eq_true rfl) (Nat.le_of_ble_eq_true rfl)) (And.intro rfl (?_))))))
  show Call d 17 [vr (some 79) 0, vi c, vi y] (J6, H) _ _
  refine s_0_poolFrom (by omega) hS hX_1 hT_2 hV hA_3 (by omega) (by omega) ?_
  show WP (Call d) 139 P X (12, [some (vr (some 3) 9), some (vi c), some (vi y)], [vi (POOL μ (J6 80) (J6 81) c y)], (J6, H), 2, 12)
  refine WP.go 1 (And.intro (And.intro (Nat.le_of_ble_eq_true rfl) (Nat.le_of_ble_eq_true rfl)) (And.intro trivial (?_)))
  show P (some (vi (POOL μ (J6 80) (J6 81) c y))) (J6, H)
  exact fin_i (by unfold POOL; rw [e6.a y (by omega) (by omega)]; exact plN_congr e6.t _ _ _) (h (by omega) _ (CF.op f6))

theorem s_11_runs {d : Nat} {P : Option qV → qH → Prop} {X : Nat → qH → Prop} {I : qI} {H : qS} {μ : Int → Int} (hd : 6 ≤ d) {k y : Int} (hS : Shp H) (hX : SX I) (hT : TR 6 I μ) (hV : IM μ) (h : ((0 ≤ k ∧ k < μ 6) ∧ (0 ≤ y ∧ y < 100)) → ∀ J : qI, CF I J → P (some (vi (bz (RUNp μ (AN μ) k y)))) (J, H)) (hx1 : ¬ ((0 ≤ k ∧ k < μ 6) ∧ (0 ≤ y ∧ y < 100)) → X 1 (I, H)) :
    Call d 137 [vr (some 3) 9, vi k, vi y] (I, H) P X := by
  obtain ⟨d, rfl⟩ : ∃ e, d = e + 1 := ⟨d - 1, by omega⟩
  show WP (Call d) 137 P X (0, [some (vr (some 3) 9), some (vi k), some (vi y)], [], (I, H), 0, 0)
  refine WP.go 5 (And.intro rfl (Exists.intro 6 (And.intro hS.r3_4 (And.intro rfl (Exists.intro 17 (And.intro hS.r6_5 (And.intro (And.intro (Nat.le_of_ble_eq_true rfl) (Nat.le_of_ble_eq_true rfl)) (And.intro rfl (?_)))))))))
  show Call d 56 [vr (some 17) 4, vi k] (I, H) _ _
  refine s_has_drains (by omega) hT ?_
  show WP (Call d) 137 P X (5, [some (vr (some 3) 9), some (vi k), some (vi y)], [vi (bz (0 ≤ k ∧ k < μ 6))], (I, H), 0, 0)
  refine WP.go 1 (And.intro (And.intro (Nat.le_of_ble_eq_true rfl) (Nat.le_of_ble_eq_true rfl)) (And.intro rfl (?_)))
  show Call d 163 [vi (bz (0 ≤ k ∧ k < μ 6))] (I, H) _ _
  refine s_11_needThere_b (by omega)  (fun q5 => ?_) (fun q9 => hx1 (by omega))
  show WP (Call d) 137 P X (6, [some (vr (some 3) 9), some (vi k), some (vi y)], [], (I, H), 1, 6)
  refine WP.go 2 (And.intro (And.intro (Nat.le_of_ble_eq_true rfl) (Nat.le_of_ble_eq_true rfl)) (And.intro rfl (?_)))
  show Call d 165 [vi y] (I, H) _ _
  refine s_11_needYear (by omega)  (fun q7 => ?_) (fun q9 => hx1 (by omega))
  show WP (Call d) 137 P X (8, [some (vr (some 3) 9), some (vi k), some (vi y)], [], (I, H), 2, 12)
  refine WP.go 3 (And.intro rfl (Exists.intro 79 (And.intro hS.r3_7 (And.intro (And.intro (Nat.le_of_ble_eq_true rfl) (Nat.le_of_ble_eq_true rfl)) (And.intro rfl (?_))))))
  show Call d 1 [vr (some 79) 0] (I, H) _ _
  refine s_0_open (by omega) hS hX hT hV (fun J10 e10 f10 => ?_)
  show WP (Call d) 137 P X (11, [some (vr (some 3) 9), some (vi k), some (vi y)], [], (J10, H), 2, 12)
  have hX_1 : SX J10 := SX.fr hX (f10 0 (by omega) (by omega)) (f10 1 (by omega) (by omega))
  have hT_2 : TR 6 J10 μ := hT.fr (fun a q1 q2 => f10 a (by omega) (by omega))
  have hA_3 : AB (J10 80) (J10 81) := e10.ab hV
  refine WP.go 5 (And.intro rfl (Exists.intro 79 (And.intro hS.r3_7 (And.intro (And.intro (Nat.le_of_ble_eq_true rfl) (Nat.le_of_ble_eq_true rfl)) (And.intro rfl (?_))))))
  show Call d 16 [vr (some 79) 0, vi k, vi y] (J10, H) _ _
  refine s_0_doesRun (by omega) hS hX_1 hT_2 hV hA_3 (by omega) (by omega) ?_
  show WP (Call d) 137 P X (16, [some (vr (some 3) 9), some (vi k), some (vi y)], [vi (bz (RUNp μ (J10 80) k y))], (J10, H), 2, 12)
  refine WP.go 1 (And.intro (And.intro (Nat.le_of_ble_eq_true rfl) (Nat.le_of_ble_eq_true rfl)) (And.intro (bz_or _) (?_)))
  show P (some (vi (bz (RUNp μ (J10 80) k y)))) (J10, H)
  exact fin_i (bz_c (by unfold RUNp LVL; rw [e10.a y (by omega) (by omega)])) (h (by omega) _ (CF.op f10))

theorem zor_0 (p : Int → Prop) (k : Int) : zor (hB p k) 0 = hB p k := zor_z (hB_in p k)
