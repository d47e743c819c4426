/-- a number of the reference's row set -/
def st (μ : Int → Int) (k v : Int) : Int → Int := fun j => if j = k then v else μ j
theorem st_e (μ : Int → Int) (k v : Int) : st μ k v k = v := if_pos rfl
theorem st_n {μ : Int → Int} {k v j : Int} (h : j ≠ k) : st μ k v j = μ j := if_neg h
/-- the reference's row is ν behind the call -/
def MU (I J : qI) (ν : Int → Int) : Prop := (∀ a, a < 90 ∨ a = 92 ∨ a = 94 ∨ a = 95 ∨ 100 ≤ a → J a = I a) ∧ (∀ s, s = 3 ∨ s = 6 ∨ s = 10 ∨ s = 17 ∨ (13 ≤ s ∧ s ≤ 15) → J 90 s = I 90 s) ∧ MS J ∧ J 91 = ν
theorem MU.of {I J K : qI} {ν : Int → Int} (h : MF I J) (u : ∀ a, a ≠ 91 → K a = J a) (e : K 91 = ν) : MU I K ν :=
  ⟨fun a q => (u a (by omega)).trans (h.1 a (by omega)), fun s q => by rw [u 90 (by omega)]; exact h.2.1 s q, by have := h.2.2; unfold MS at *; rw [u 90 (by omega)]; exact this, e⟩
def uRope (μ : Int → Int) (y n : Int) : Int → Int := st μ (230 + y) n
def uLet (μ : Int → Int) (a b c d : Int) : Int → Int := st (st (st (st (st μ (330 + 4 * μ 4) a) (331 + 4 * μ 4) b) (332 + 4 * μ 4) c) (333 + 4 * μ 4) d) 4 (1 + μ 4)
def uPro (μ : Int → Int) (a b c : Int) : Int → Int := st (st (st (st μ (394 + 3 * μ 5) a) (395 + 3 * μ 5) b) (396 + 3 * μ 5) c) 5 (1 + μ 5)
def uDra (μ : Int → Int) (a b : Int) : Int → Int := st (st (st μ (442 + 2 * μ 6) a) (443 + 2 * μ 6) b) 6 (1 + μ 6)
def uPap (μ : Int → Int) (a b c : Int) : Int → Int := st (st (st (st μ (458 + 3 * μ 7) a) (459 + 3 * μ 7) b) (460 + 3 * μ 7) c) 7 (1 + μ 7)
def uWan (μ : Int → Int) (f a b : Int) : Int → Int := st (st μ (210 + 2 * f) a) (211 + 2 * f) b
theorem s_12_rope {d : Nat} {P : Option qV → qH → Prop} {X : Nat → qH → Prop} {I : qI} {H : qS} {μ : Int → Int} (hd : 3 ≤ d) {y n : Int} (hS : Shp H) (hM : I 91 = μ) (hV : IM μ) (hK : MS I) (hk1 : (¬ ((0 ≤ y ∧ y < 100))) → ∀ (J : qI) (v : Int), (v = 0 ∨ v = 1) → MF I J → J 90 0 = 1 → P (some (vi v)) (J, H)) (hk2 : ((0 ≤ y ∧ y < 100) ∧ ¬ (0 ≤ n ∧ n ≤ 20)) → ∀ (J : qI) (v : Int), (v = 0 ∨ v = 1) → MF I J → J 90 0 = 2 → P (some (vi v)) (J, H)) (h : ((0 ≤ y ∧ y < 100) ∧ 0 ≤ n ∧ n ≤ 20) → ∀ J : qI, MU I J (uRope μ y n) → J 90 0 = 0 → P (some (vi (μ (230 + y)))) (J, H)) :
    Call d 214 [vr (some 90) 10, vi y, vi n] (I, H) P X := by
  obtain ⟨d, rfl⟩ : ∃ e, d = e + 1 := ⟨d - 1, by omega⟩
  have hl91 := hS.l91
  obtain ⟨tb, h30⟩ : ∃ tb, I 90 30 = tb := ⟨_, rfl⟩
  obtain ⟨mo, h23⟩ : ∃ mo, I 90 23 = mo := ⟨_, rfl⟩
  have htb : 0 ≤ tb ∧ tb ≤ 29 := by have := hK.2.2.2; omega
  have hmo : (-1 : Int) = -1 ∨ (0 ≤ mo ∧ mo ≤ 48) := .inl rfl
  have h22 := hK.1
  have h29 := hK.2.1
  show WP (Call d) 214 P X (0, [some (vr (some 90) 10), some (vi y), some (vi n), none], [], (I, H), 0, 0)
  refine WP.go 3 (And.intro (And.intro (Nat.le_of_ble_eq_true rfl) (Nat.le_of_ble_eq_true rfl)) (And.intro rfl (?_)))
  show Call d 179 [vi y] (I, H) _ _
  refine s_12_isYear (by omega)  ?_
  show WP (Call d) 214 P X (3, [some (vr (some 90) 10), some (vi y), some (vi n), none], [vi (bz (0 ≤ y ∧ y ≤ 99)), vr (some 90) 10], (I, H), 0, 0)
  refine WP.go 1 (And.intro (fun (b3 : ¬ bz (0 ≤ y ∧ y ≤ 99) = 0) => ?_) (fun (b3 : bz (0 ≤ y ∧ y ≤ 99) = 0) => ?_))
  ·
    show WP (Call d) 214 P X (6, [some (vr (some 90) 10), some (vi y), some (vi n), none], [vr (some 90) 10], (I, H), 0, 0)
    have z3 := bz_e1.mp b3
    refine WP.go 4 (And.intro (And.intro (Nat.le_of_ble_eq_true rfl) (Nat.le_of_ble_eq_true rfl)) (And.intro rfl (?_)))
    show Call d 177 [vi n, vi 0, vi 20] (I, H) _ _
    refine s_12_isIn (by omega)  ?_
    show WP (Call d) 214 P X (10, [some (vr (some 90) 10), some (vi y), some (vi n), none], [vi (bz (0 ≤ n ∧ n ≤ 20)), vr (some 90) 10], (I, H), 0, 0)
    refine WP.go 1 (And.intro (fun (b10 : ¬ bz (0 ≤ n ∧ n ≤ 20) = 0) => ?_) (fun (b10 : bz (0 ≤ n ∧ n ≤ 20) = 0) => ?_))
    ·
      show WP (Call d) 214 P X (13, [some (vr (some 90) 10), some (vi y), some (vi n), none], [vr (some 90) 10], (I, H), 0, 0)
      have z10 := bz_e1.mp b10
      refine WP.go 5 (And.intro (And.intro rfl trivial) (And.intro rfl (And.intro (fun (b17 : ¬ 0 < 0) => ?_) (fun (b17 : 0 < 0) => (absurd b17 (by omega))))))
      show WP (Call d) 214 P X (20, [some (vr (some 90) 10), some (vi y), some (vi n), none], [], ((upI I 90 0 0), H), 0, 0)
      generalize hq_J0 : (upI I 90 0 0) = J0
      have e_J0 : J0 90 = (fun j => if j = 0 then 0 else I 90 j) := by rw [← hq_J0]; exact upI_self _ _ _ _
      have f_J0 : ∀ a, a ≠ 90 → J0 a = I a := fun a q => by rw [← hq_J0]; exact upI_cell q
      have hmf : MF I J0 := MF.t0 hK e_J0 f_J0
      have hth : J0 90 0 = 0 := by rw [e_J0]; rfl
      have hM_1 : J0 91 = μ := (f_J0 91 (by omega)).trans hM
      have hu : ∀ a, a ≠ 91 → J0 a = J0 a := fun _ _ => rfl
      refine WP.go 6 (And.intro rfl (Exists.intro 91 (And.intro hS.r90_1 (Exists.intro (230 + y) (And.intro (wrp_a (by omega) (by omega)) (And.intro (And.intro rfl (And.intro (show 0 ≤ 230 + y from by omega) (show 230 + y < H.2.1 91 from by omega))) (?_)))))))
      refine rw_i (Q := fun x9 => WP (Call d) 214 P X (26, [some (vr (some 90) 10), some (vi y), some (vi n), none], [vi x9], (J0, H), 0, 0)) (congrFun hM_1 _) ?_
      show WP (Call d) 214 P X (26, [some (vr (some 90) 10), some (vi y), some (vi n), none], [vi (μ (230 + y))], (J0, H), 0, 0)
      refine WP.go 8 (And.intro rfl (Exists.intro 91 (And.intro hS.r90_1 (Exists.intro (230 + y) (And.intro (wrp_a (by omega) (by omega)) (And.intro (And.intro rfl (And.intro (show 0 ≤ 230 + y from by omega) (show 230 + y < H.2.1 91 from by omega))) (?_)))))))
      show WP (Call d) 214 P X (34, [some (vr (some 90) 10), some (vi y), some (vi n), some (vi (μ (230 + y)))], [], ((upI J0 91 (230 + y) n), H), 0, 0)
      generalize hq_W34 : (upI J0 91 (230 + y) n) = W34
      have e_W34 : W34 91 = (fun j => if j = (230 + y) then n else J0 91 j) := by rw [← hq_W34]; exact upI_self _ _ _ _
      have f_W34 : ∀ a, a ≠ 91 → W34 a = J0 a := fun a q => by rw [← hq_W34]; exact upI_cell q
      have hM_W34 : W34 91 = st μ (230 + y) n := by
        have x1 : (230 + y) = 230 + y := by omega
        have x2 : n = n := by omega
        rw [e_W34, hM_1, x1, x2]; rfl
      have hu_W34 : ∀ a, a ≠ 91 → W34 a = J0 a := fun a q => (f_W34 a q).trans (hu a q)
      refine WP.go 2 (And.intro (And.intro (Nat.le_of_ble_eq_true rfl) (Nat.le_of_ble_eq_true rfl)) (And.intro trivial (?_)))
      show P (some (vi (μ (230 + y)))) (W34, H)
      exact fin_i (by omega) (h (by omega) _ (MU.of hmf hu_W34 hM_W34) (by rw [hu_W34 90 (by omega)]; exact hth))
    ·
      show WP (Call d) 214 P X (11, [some (vr (some 90) 10), some (vi y), some (vi n), none], [vr (some 90) 10], (I, H), 0, 0)
      have z10 := bz_e0.mp b10
      refine WP.go 6 (And.intro (And.intro rfl trivial) (And.intro rfl (And.intro (fun (b17 : ¬ 0 < 2) => (absurd b17 (by omega))) (fun (b17 : 0 < 2) => ?_))))
      show WP (Call d) 214 P X (18, [some (vr (some 90) 10), some (vi y), some (vi n), none], [], ((upI I 90 0 2), H), 0, 0)
      refine WP.go 2 (And.intro (And.intro (Nat.le_of_ble_eq_true rfl) (Nat.le_of_ble_eq_true rfl)) (And.intro trivial (?_)))
      show P (some (vi 0)) ((upI I 90 0 2), H)
      exact hk2 (by omega) _ 0 (.inl rfl) (MF.th hK _) (upI_same _ _ _ _)
  ·
    show WP (Call d) 214 P X (4, [some (vr (some 90) 10), some (vi y), some (vi n), none], [vr (some 90) 10], (I, H), 0, 0)
    have z3 := bz_e0.mp b3
    refine WP.go 6 (And.intro (And.intro rfl trivial) (And.intro rfl (And.intro (fun (b17 : ¬ 0 < 1) => (absurd b17 (by omega))) (fun (b17 : 0 < 1) => ?_))))
    show WP (Call d) 214 P X (18, [some (vr (some 90) 10), some (vi y), some (vi n), none], [], ((upI I 90 0 1), H), 0, 0)
    refine WP.go 2 (And.intro (And.intro (Nat.le_of_ble_eq_true rfl) (Nat.le_of_ble_eq_true rfl)) (And.intro trivial (?_)))
    show P (some (vi 0)) ((upI I 90 0 1), H)
    exact hk1 (by omega) _ 0 (.inl rfl) (MF.th hK _) (upI_same _ _ _ _)

theorem s_12_let {d : Nat} {P : Option qV → qH → Prop} {X : Nat → qH → Prop} {I : qI} {H : qS} {μ : Int → Int} (hd : 3 ≤ d) {a b x y : Int} (hS : Shp H) (hM : I 91 = μ) (hV : IM μ) (hK : MS I) (hk1 : (¬ ((0 ≤ a ∧ a < μ 3) ∧ (0 ≤ b ∧ b < μ 1) ∧ (0 ≤ x ∧ x < 100) ∧ (0 ≤ y ∧ y < 100))) → ∀ (J : qI) (v : Int), (v = 0 ∨ v = 1) → MF I J → J 90 0 = 1 → P (some (vi v)) (J, H)) (hk2 : (((0 ≤ a ∧ a < μ 3) ∧ (0 ≤ b ∧ b < μ 1) ∧ (0 ≤ x ∧ x < 100) ∧ (0 ≤ y ∧ y < 100)) ∧ y < x) → ∀ (J : qI) (v : Int), (v = 0 ∨ v = 1) → MF I J → J 90 0 = 2 → P (some (vi v)) (J, H)) (hk3 : (((0 ≤ a ∧ a < μ 3) ∧ (0 ≤ b ∧ b < μ 1) ∧ (0 ≤ x ∧ x < 100) ∧ (0 ≤ y ∧ y < 100)) ∧ x ≤ y ∧ ¬ μ 4 < 16) → ∀ (J : qI) (v : Int), (v = 0 ∨ v = 1) → MF I J → J 90 0 = 3 → P (some (vi v)) (J, H)) (h : (((0 ≤ a ∧ a < μ 3) ∧ (0 ≤ b ∧ b < μ 1) ∧ (0 ≤ x ∧ x < 100) ∧ (0 ≤ y ∧ y < 100)) ∧ x ≤ y ∧ μ 4 < 16) → ∀ J : qI, MU I J (uLet μ a b x y) → J 90 0 = 0 → P (some (vi (μ 4))) (J, H)) :
    Call d 231 [vr (some 90) 10, vi a, vi b, vi x, vi y] (I, H) P X := by
  obtain ⟨d, rfl⟩ : ∃ e, d = e + 1 := ⟨d - 1, by omega⟩
  have hl91 := hS.l91
  obtain ⟨tb, h30⟩ : ∃ tb, I 90 30 = tb := ⟨_, rfl⟩
  obtain ⟨mo, h23⟩ : ∃ mo, I 90 23 = mo := ⟨_, rfl⟩
  have htb : 0 ≤ tb ∧ tb ≤ 29 := by have := hK.2.2.2; omega
  have hmo : (-1 : Int) = -1 ∨ (0 ≤ mo ∧ mo ≤ 48) := .inl rfl
  have h22 := hK.1
  have h29 := hK.2.1
  have v1 := hV.n3
  have v2 := hV.n4
  show WP (Call d) 231 P X (0, [some (vr (some 90) 10), some (vi a), some (vi b), some (vi x), some (vi y), none], [], (I, H), 0, 0)
  refine WP.go 7 (And.intro rfl (Exists.intro 91 (And.intro hS.r90_1 (And.intro (And.intro rfl (And.intro (show 0 ≤ 3 from by omega) (show 3 < H.2.1 91 from by omega))) (?_)))))
  refine rw_i (Q := fun x9 => WP (Call d) 231 P X (7, [some (vr (some 90) 10), some (vi a), some (vi b), some (vi x), some (vi y), none], [vi x9, vi 0, vi a, vr (some 90) 10], (I, H), 0, 0)) (congrFun hM _) ?_
  show WP (Call d) 231 P X (7, [some (vr (some 90) 10), some (vi a), some (vi b), some (vi x), some (vi y), none], [vi (μ 3), vi 0, vi a, vr (some 90) 10], (I, H), 0, 0)
  refine WP.go 3 (Exists.intro ((μ 3) - 1) (And.intro (wrp_a (by omega) (by omega)) (And.intro (And.intro (Nat.le_of_ble_eq_true rfl) (Nat.le_of_ble_eq_true rfl)) (And.intro rfl (?_)))))
  show Call d 177 [vi a, vi 0, vi ((μ 3) - 1)] (I, H) _ _
  refine s_12_isIn (by omega)  ?_
  show WP (Call d) 231 P X (10, [some (vr (some 90) 10), some (vi a), some (vi b), some (vi x), some (vi y), none], [vi (bz (0 ≤ a ∧ a ≤ ((μ 3) - 1))), vr (some 90) 10], (I, H), 0, 0)
  refine WP.go 1 (And.intro (fun (b10 : bz (0 ≤ a ∧ a ≤ ((μ 3) - 1)) = 0) => ?_) (fun (b10 : ¬ bz (0 ≤ a ∧ a ≤ ((μ 3) - 1)) = 0) => ?_))
  ·
    show WP (Call d) 231 P X (21, [some (vr (some 90) 10), some (vi a), some (vi b), some (vi x), some (vi y), none], [vr (some 90) 10], (I, H), 0, 0)
    have z10 := bz_e0.mp b10
    refine WP.go 6 (And.intro (And.intro rfl trivial) (And.intro rfl (And.intro (fun (b40 : ¬ 0 < 1) => (absurd b40 (by omega))) (fun (b40 : 0 < 1) => ?_))))
    show WP (Call d) 231 P X (41, [some (vr (some 90) 10), some (vi a), some (vi b), some (vi x), some (vi y), none], [], ((upI I 90 0 1), H), 0, 0)
    refine WP.go 2 (And.intro (And.intro (Nat.le_of_ble_eq_true rfl) (Nat.le_of_ble_eq_true rfl)) (And.intro trivial (?_)))
    show P (some (vi 0)) ((upI I 90 0 1), H)
    exact hk1 (by omega) _ 0 (.inl rfl) (MF.th hK _) (upI_same _ _ _ _)
  ·
    show WP (Call d) 231 P X (11, [some (vr (some 90) 10), some (vi a), some (vi b), some (vi x), some (vi y), none], [vr (some 90) 10], (I, H), 0, 0)
    have z10 := bz_e1.mp b10
    refine WP.go 3 (And.intro (And.intro (Nat.le_of_ble_eq_true rfl) (Nat.le_of_ble_eq_true rfl)) (And.intro rfl (?_)))
    show Call d 180 [vr (some 90) 10, vi b] (I, H) _ _
    refine s_12_isHouse (by omega) hS hM hV ?_
    show WP (Call d) 231 P X (14, [some (vr (some 90) 10), some (vi a), some (vi b), some (vi x), some (vi y), none], [vi (bz (0 ≤ b ∧ b ≤ μ 1 - 1)), vr (some 90) 10], (I, H), 0, 0)
    refine WP.go 1 (And.intro (fun (b14 : bz (0 ≤ b ∧ b ≤ μ 1 - 1) = 0) => ?_) (fun (b14 : ¬ bz (0 ≤ b ∧ b ≤ μ 1 - 1) = 0) => ?_))
    ·
      show WP (Call d) 231 P X (21, [some (vr (some 90) 10), some (vi a), some (vi b), some (vi x), some (vi y), none], [vr (some 90) 10], (I, H), 0, 0)
      have z14 := bz_e0.mp b14
      refine WP.go 6 (And.intro (And.intro rfl trivial) (And.intro rfl (And.intro (fun (b40 : ¬ 0 < 1) => (absurd b40 (by omega))) (fun (b40 : 0 < 1) => ?_))))
      show WP (Call d) 231 P X (41, [some (vr (some 90) 10), some (vi a), some (vi b), some (vi x), some (vi y), none], [], ((upI I 90 0 1), H), 0, 0)
      refine WP.go 2 (And.intro (And.intro (Nat.le_of_ble_eq_true rfl) (Nat.le_of_ble_eq_true rfl)) (And.intro trivial (?_)))
      show P (some (vi 0)) ((upI I 90 0 1), H)
      exact hk1 (by omega) _ 0 (.inl rfl) (MF.th hK _) (upI_same _ _ _ _)
    ·
      show WP (Call d) 231 P X (15, [some (vr (some 90) 10), some (vi a), some (vi b), some (vi x), some (vi y), none], [vr (some 90) 10], (I, H), 0, 0)
      have z14 := bz_e1.mp b14
      refine WP.go 2 (And.intro (And.intro (Nat.le_of_ble_eq_true rfl) (Nat.le_of_ble_eq_true rfl)) (And.intro rfl (?_)))
      show Call d 179 [vi x] (I, H) _ _
      refine s_12_isYear (by omega)  ?_
      show WP (Call d) 231 P X (17, [some (vr (some 90) 10), some (vi a), some (vi b), some (vi x), some (vi y), none], [vi (bz (0 ≤ x ∧ x ≤ 99)), vr (some 90) 10], (I, H), 0, 0)
      refine WP.go 1 (And.intro (fun (b17 : bz (0 ≤ x ∧ x ≤ 99) = 0) => ?_) (fun (b17 : ¬ bz (0 ≤ x ∧ x ≤ 99) = 0) => ?_))
      ·
        show WP (Call d) 231 P X (21, [some (vr (some 90) 10), some (vi a), some (vi b), some (vi x), some (vi y), none], [vr (some 90) 10], (I, H), 0, 0)
        have z17 := bz_e0.mp b17
        refine WP.go 6 (And.intro (And.intro rfl trivial) (And.intro rfl (And.intro (fun (b40 : ¬ 0 < 1) => (absurd b40 (by omega))) (fun (b40 : 0 < 1) => ?_))))
        show WP (Call d) 231 P X (41, [some (vr (some 90) 10), some (vi a), some (vi b), some (vi x), some (vi y), none], [], ((upI I 90 0 1), H), 0, 0)
        refine WP.go 2 (And.intro (And.intro (Nat.le_of_ble_eq_true rfl) (Nat.le_of_ble_eq_true rfl)) (And.intro trivial (?_)))
        show P (some (vi 0)) ((upI I 90 0 1), H)
        exact hk1 (by omega) _ 0 (.inl rfl) (MF.th hK _) (upI_same _ _ _ _)
      ·
        show WP (Call d) 231 P X (18, [some (vr (some 90) 10), some (vi a), some (vi b), some (vi x), some (vi y), none], [vr (some 90) 10], (I, H), 0, 0)
        have z17 := bz_e1.mp b17
        refine WP.go 2 (And.intro (And.intro (Nat.le_of_ble_eq_true rfl) (Nat.le_of_ble_eq_true rfl)) (And.intro rfl (?_)))
        show Call d 179 [vi y] (I, H) _ _
        refine s_12_isYear (by omega)  ?_
        show WP (Call d) 231 P X (20, [some (vr (some 90) 10), some (vi a), some (vi b), some (vi x), some (vi y), none], [vi (bz (0 ≤ y ∧ y ≤ 99)), vr (some 90) 10], (I, H), 0, 0)
        refine WP.go 1 (And.intro (fun (b20 : ¬ bz (0 ≤ y ∧ y ≤ 99) = 0) => ?_) (fun (b20 : bz (0 ≤ y ∧ y ≤ 99) = 0) => ?_))
        ·
          show WP (Call d) 231 P X (23, [some (vr (some 90) 10), some (vi a), some (vi b), some (vi x), some (vi y), none], [vr (some 90) 10], (I, H), 0, 0)
          have z20 := bz_e1.mp b20
          refine WP.go 3 (And.intro (fun (b25 : ¬ y < x) => ?_) (fun (b25 : y < x) => ?_))
          ·
            show WP (Call d) 231 P X (28, [some (vr (some 90) 10), some (vi a), some (vi b), some (vi x), some (vi y), none], [vr (some 90) 10], (I, H), 0, 0)
            refine WP.go 4 (And.intro rfl (Exists.intro 91 (And.intro hS.r90_1 (And.intro (And.intro rfl (And.intro (show 0 ≤ 4 from by omega) (show 4 < H.2.1 91 from by omega))) (?_)))))
            refine rw_i (Q := fun x9 => WP (Call d) 231 P X (32, [some (vr (some 90) 10), some (vi a), some (vi b), some (vi x), some (vi y), none], [vi x9, vr (some 90) 10], (I, H), 0, 0)) (congrFun hM _) ?_
            show WP (Call d) 231 P X (32, [some (vr (some 90) 10), some (vi a), some (vi b), some (vi x), some (vi y), none], [vi (μ 4), vr (some 90) 10], (I, H), 0, 0)
            refine WP.go 2 (And.intro (fun (b33 : ¬ μ 4 = 16) => ?_) (fun (b33 : μ 4 = 16) => ?_))
            ·
              show WP (Call d) 231 P X (36, [some (vr (some 90) 10), some (vi a), some (vi b), some (vi x), some (vi y), none], [vr (some 90) 10], (I, H), 0, 0)
              refine WP.go 5 (And.intro (And.intro rfl trivial) (And.intro rfl (And.intro (fun (b40 : ¬ 0 < 0) => ?_) (fun (b40 : 0 < 0) => (absurd b40 (by omega))))))
              show WP (Call d) 231 P X (43, [some (vr (some 90) 10), some (vi a), some (vi b), some (vi x), some (vi y), none], [], ((upI I 90 0 0), H), 0, 0)
              generalize hq_J0 : (upI I 90 0 0) = J0
              have e_J0 : J0 90 = (fun j => if j = 0 then 0 else I 90 j) := by rw [← hq_J0]; exact upI_self _ _ _ _
              have f_J0 : ∀ a, a ≠ 90 → J0 a = I a := fun a q => by rw [← hq_J0]; exact upI_cell q
              have hmf : MF I J0 := MF.t0 hK e_J0 f_J0
              have hth : J0 90 0 = 0 := by rw [e_J0]; rfl
              have hM_1 : J0 91 = μ := (f_J0 91 (by omega)).trans hM
              have hu : ∀ a, a ≠ 91 → J0 a = J0 a := fun _ _ => rfl
              refine WP.go 6 (And.intro rfl (Exists.intro 91 (And.intro hS.r90_1 (And.intro (And.intro rfl (And.intro (show 0 ≤ 4 from by omega) (show 4 < H.2.1 91 from by omega))) (?_)))))
              refine rw_i (Q := fun x9 => WP (Call d) 231 P X (49, [some (vr (some 90) 10), some (vi a), some (vi b), some (vi x), some (vi y), none], [vi x9, vi 4, vi 330], (J0, H), 0, 0)) (congrFun hM_1 _) ?_
              show WP (Call d) 231 P X (49, [some (vr (some 90) 10), some (vi a), some (vi b), some (vi x), some (vi y), none], [vi (μ 4), vi 4, vi 330], (J0, H), 0, 0)
              refine WP.go 8 (Exists.intro (4 * (μ 4)) (And.intro (wrp_a (by omega) (by omega)) (Exists.intro (330 + (4 * (μ 4))) (And.intro (wrp_a (by omega) (by omega)) (And.intro rfl (Exists.intro 91 (And.intro hS.r90_1 (And.intro (And.intro rfl (And.intro (show 0 ≤ 330 + (4 * (μ 4)) from by omega) (show 330 + (4 * (μ 4)) < H.2.1 91 from by omega))) (?_)))))))))
              show WP (Call d) 231 P X (57, [some (vr (some 90) 10), some (vi a), some (vi b), some (vi x), some (vi y), some (vi (330 + (4 * (μ 4))))], [], ((upI J0 91 (330 + (4 * (μ 4))) a), H), 0, 0)
              generalize hq_W57 : (upI J0 91 (330 + (4 * (μ 4))) a) = W57
              have e_W57 : W57 91 = (fun j => if j = (330 + (4 * (μ 4))) then a else J0 91 j) := by rw [← hq_W57]; exact upI_self _ _ _ _
              have f_W57 : ∀ a, a ≠ 91 → W57 a = J0 a := fun a q => by rw [← hq_W57]; exact upI_cell q
              have hM_W57 : W57 91 = st μ (330 + 4 * μ 4) a := by
                have x1 : (330 + (4 * (μ 4))) = 330 + 4 * μ 4 := by omega
                have x2 : a = a := by omega
                rw [e_W57, hM_1, x1, x2]; rfl
              have hu_W57 : ∀ a, a ≠ 91 → W57 a = J0 a := fun a q => (f_W57 a q).trans (hu a q)
              refine WP.go 7 (And.intro rfl (Exists.intro 91 (And.intro hS.r90_1 (Exists.intro ((330 + (4 * (μ 4))) + 1) (And.intro (wrp_a (by omega) (by omega)) (And.intro (And.intro rfl (And.intro (show 0 ≤ (330 + (4 * (μ 4))) + 1 from by omega) (show (330 + (4 * (μ 4))) + 1 < H.2.1 91 from by omega))) (?_)))))))
              show WP (Call d) 231 P X (64, [some (vr (some 90) 10), some (vi a), some (vi b), some (vi x), some (vi y), some (vi (330 + (4 * (μ 4))))], [], ((upI W57 91 ((330 + (4 * (μ 4))) + 1) b), H), 0, 0)
              generalize hq_W64 : (upI W57 91 ((330 + (4 * (μ 4))) + 1) b) = W64
              have e_W64 : W64 91 = (fun j => if j = ((330 + (4 * (μ 4))) + 1) then b else W57 91 j) := by rw [← hq_W64]; exact upI_self _ _ _ _
              have f_W64 : ∀ a, a ≠ 91 → W64 a = W57 a := fun a q => by rw [← hq_W64]; exact upI_cell q
              have hM_W64 : W64 91 = st (st μ (330 + 4 * μ 4) a) (331 + 4 * μ 4) b := by
                have x1 : ((330 + (4 * (μ 4))) + 1) = 331 + 4 * μ 4 := by omega
                have x2 : b = b := by omega
                rw [e_W64, hM_W57, x1, x2]; rfl
              have hu_W64 : ∀ a, a ≠ 91 → W64 a = J0 a := fun a q => (f_W64 a q).trans (hu_W57 a q)
              refine WP.go 7 (And.intro rfl (Exists.intro 91 (And.intro hS.r90_1 (Exists.intro ((330 + (4 * (μ 4))) + 2) (And.intro (wrp_a (by omega) (by omega)) (And.intro (And.intro rfl (And.intro (show 0 ≤ (330 + (4 * (μ 4))) + 2 from by omega) (show (330 + (4 * (μ 4))) + 2 < H.2.1 91 from by omega))) (?_)))))))
              show WP (Call d) 231 P X (71, [some (vr (some 90) 10), some (vi a), some (vi b), some (vi x), some (vi y), some (vi (330 + (4 * (μ 4))))], [], ((upI W64 91 ((330 + (4 * (μ 4))) + 2) x), H), 0, 0)
              generalize hq_W71 : (upI W64 91 ((330 + (4 * (μ 4))) + 2) x) = W71
              have e_W71 : W71 91 = (fun j => if j = ((330 + (4 * (μ 4))) + 2) then x else W64 91 j) := by rw [← hq_W71]; exact upI_self _ _ _ _
              have f_W71 : ∀ a, a ≠ 91 → W71 a = W64 a := fun a q => by rw [← hq_W71]; exact upI_cell q
              have hM_W71 : W71 91 = st (st (st μ (330 + 4 * μ 4) a) (331 + 4 * μ 4) b) (332 + 4 * μ 4) x := by
                have x1 : ((330 + (4 * (μ 4))) + 2) = 332 + 4 * μ 4 := by omega
                have x2 : x = x := by omega
                rw [e_W71, hM_W64, x1, x2]; rfl
              have hu_W71 : ∀ a, a ≠ 91 → W71 a = J0 a := fun a q => (f_W71 a q).trans (hu_W64 a q)
              refine WP.go 7 (And.intro rfl (Exists.intro 91 (And.intro hS.r90_1 (Exists.intro ((330 + (4 * (μ 4))) + 3) (And.intro (wrp_a (by omega) (by omega)) (And.intro (And.intro rfl (And.intro (show 0 ≤ (330 + (4 * (μ 4))) + 3 from by omega) (show (330 + (4 * (μ 4))) + 3 < H.2.1 91 from by omega))) (?_)))))))
              show WP (Call d) 231 P X (78, [some (vr (some 90) 10), some (vi a), some (vi b), some (vi x), some (vi y), some (vi (330 + (4 * (μ 4))))], [], ((upI W71 91 ((330 + (4 * (μ 4))) + 3) y), H), 0, 0)
              generalize hq_W78 : (upI W71 91 ((330 + (4 * (μ 4))) + 3) y) = W78
              have e_W78 : W78 91 = (fun j => if j = ((330 + (4 * (μ 4))) + 3) then y else W71 91 j) := by rw [← hq_W78]; exact upI_self _ _ _ _
              have f_W78 : ∀ a, a ≠ 91 → W78 a = W71 a := fun a q => by rw [← hq_W78]; exact upI_cell q
              have hM_W78 : W78 91 = st (st (st (st μ (330 + 4 * μ 4) a) (331 + 4 * μ 4) b) (332 + 4 * μ 4) x) (333 + 4 * μ 4) y := by
                have x1 : ((330 + (4 * (μ 4))) + 3) = 333 + 4 * μ 4 := by omega
                have x2 : y = y := by omega
                rw [e_W78, hM_W71, x1, x2]; rfl
              have hu_W78 : ∀ a, a ≠ 91 → W78 a = J0 a := fun a q => (f_W78 a q).trans (hu_W71 a q)
              refine WP.go 5 (And.intro rfl (Exists.intro 91 (And.intro hS.r90_1 (And.intro (And.intro rfl (And.intro (show 0 ≤ 4 from by omega) (show 4 < H.2.1 91 from by omega))) (?_)))))
              refine rw_i (Q := fun x9 => WP (Call d) 231 P X (83, [some (vr (some 90) 10), some (vi a), some (vi b), some (vi x), some (vi y), some (vi (330 + (4 * (μ 4))))], [vi x9, vi 4, vr (some 91) 11], (W78, H), 0, 0)) (show W78 91 4 = μ 4 from (congrFun hM_W78 _).trans (((st_n (by omega)).trans ((st_n (by omega)).trans ((st_n (by omega)).trans ((st_n (by omega)).trans (congrArg μ (by omega)))))))) ?_
              show WP (Call d) 231 P X (83, [some (vr (some 90) 10), some (vi a), some (vi b), some (vi x), some (vi y), some (vi (330 + (4 * (μ 4))))], [vi (μ 4), vi 4, vr (some 91) 11], (W78, H), 0, 0)
              refine WP.go 3 (Exists.intro ((μ 4) + 1) (And.intro (wrp_a (by omega) (by omega)) (And.intro (And.intro rfl (And.intro (show 0 ≤ 4 from by omega) (show 4 < H.2.1 91 from by omega))) (?_))))
              show WP (Call d) 231 P X (86, [some (vr (some 90) 10), some (vi a), some (vi b), some (vi x), some (vi y), some (vi (330 + (4 * (μ 4))))], [], ((upI W78 91 4 ((μ 4) + 1)), H), 0, 0)
              generalize hq_W86 : (upI W78 91 4 ((μ 4) + 1)) = W86
              have e_W86 : W86 91 = (fun j => if j = 4 then ((μ 4) + 1) else W78 91 j) := by rw [← hq_W86]; exact upI_self _ _ _ _
              have f_W86 : ∀ a, a ≠ 91 → W86 a = W78 a := fun a q => by rw [← hq_W86]; exact upI_cell q
              have hM_W86 : W86 91 = st (st (st (st (st μ (330 + 4 * μ 4) a) (331 + 4 * μ 4) b) (332 + 4 * μ 4) x) (333 + 4 * μ 4) y) 4 (1 + μ 4) := by
                have x1 : (4 : Int) = 4 := by omega
                have x2 : ((μ 4) + 1) = 1 + μ 4 := by omega
                rw [e_W86, hM_W78, x1, x2]; rfl
              have hu_W86 : ∀ a, a ≠ 91 → W86 a = J0 a := fun a q => (f_W86 a q).trans (hu_W78 a q)
              refine WP.go 4 (And.intro rfl (Exists.intro 91 (And.intro hS.r90_1 (And.intro (And.intro rfl (And.intro (show 0 ≤ 4 from by omega) (show 4 < H.2.1 91 from by omega))) (?_)))))
              refine rw_i (Q := fun x9 => WP (Call d) 231 P X (90, [some (vr (some 90) 10), some (vi a), some (vi b), some (vi x), some (vi y), some (vi (330 + (4 * (μ 4))))], [vi x9], (W86, H), 0, 0)) (show W86 91 4 = (1 + μ 4) from (congrFun hM_W86 _).trans ((st_e _ _ _))) ?_
              show WP (Call d) 231 P X (90, [some (vr (some 90) 10), some (vi a), some (vi b), some (vi x), some (vi y), some (vi (330 + (4 * (μ 4))))], [vi (1 + μ 4)], (W86, H), 0, 0)
              refine WP.go 3 (Exists.intro ((1 + μ 4) - 1) (And.intro (wrp_a (by omega) (by omega)) (And.intro (And.intro (Nat.le_of_ble_eq_true rfl) (Nat.le_of_ble_eq_true rfl)) (And.intro trivial (?_)))))
              show P (some (vi ((1 + μ 4) - 1))) (W86, H)
              exact fin_i (by omega) (h (by omega) _ (MU.of hmf hu_W86 hM_W86) (by rw [hu_W86 90 (by omega)]; exact hth))
            ·
              show WP (Call d) 231 P X (34, [some (vr (some 90) 10), some (vi a), some (vi b), some (vi x), some (vi y), none], [vr (some 90) 10], (I, H), 0, 0)
              refine WP.go 6 (And.intro (And.intro rfl trivial) (And.intro rfl (And.intro (fun (b40 : ¬ 0 < 3) => (absurd b40 (by omega))) (fun (b40 : 0 < 3) => ?_))))
              show WP (Call d) 231 P X (41, [some (vr (some 90) 10), some (vi a), some (vi b), some (vi x), some (vi y), none], [], ((upI I 90 0 3), H), 0, 0)
              refine WP.go 2 (And.intro (And.intro (Nat.le_of_ble_eq_true rfl) (Nat.le_of_ble_eq_true rfl)) (And.intro trivial (?_)))
              show P (some (vi 0)) ((upI I 90 0 3), H)
              exact hk3 (by omega) _ 0 (.inl rfl) (MF.th hK _) (upI_same _ _ _ _)
          ·
            show WP (Call d) 231 P X (26, [some (vr (some 90) 10), some (vi a), some (vi b), some (vi x), some (vi y), none], [vr (some 90) 10], (I, H), 0, 0)
            refine WP.go 6 (And.intro (And.intro rfl trivial) (And.intro rfl (And.intro (fun (b40 : ¬ 0 < 2) => (absurd b40 (by omega))) (fun (b40 : 0 < 2) => ?_))))
            show WP (Call d) 231 P X (41, [some (vr (some 90) 10), some (vi a), some (vi b), some (vi x), some (vi y), none], [], ((upI I 90 0 2), H), 0, 0)
            refine WP.go 2 (And.intro (And.intro (Nat.le_of_ble_eq_true rfl) (Nat.le_of_ble_eq_true rfl)) (And.intro trivial (?_)))
            show P (some (vi 0)) ((upI I 90 0 2), H)
            exact hk2 (by omega) _ 0 (.inl rfl) (MF.th hK _) (upI_same _ _ _ _)
        ·
          show WP (Call d) 231 P X (21, [some (vr (some 90) 10), some (vi a), some (vi b), some (vi x), some (vi y), none], [vr (some 90) 10], (I, H), 0, 0)
          have z20 := bz_e0.mp b20
          refine WP.go 6 (And.intro (And.intro rfl trivial) (And.intro rfl (And.intro (fun (b40 : ¬ 0 < 1) => (absurd b40 (by omega))) (fun (b40 : 0 < 1) => ?_))))
          show WP (Call d) 231 P X (41, [some (vr (some 90) 10), some (vi a), some (vi b), some (vi x), some (vi y), none], [], ((upI I 90 0 1), H), 0, 0)
          refine WP.go 2 (And.intro (And.intro (Nat.le_of_ble_eq_true rfl) (Nat.le_of_ble_eq_true rfl)) (And.intro trivial (?_)))
          show P (some (vi 0)) ((upI I 90 0 1), H)
          exact hk1 (by omega) _ 0 (.inl rfl) (MF.th hK _) (upI_same _ _ _ _)

theorem s_12_promise {d : Nat} {P : Option qV → qH → Prop} {X : Nat → qH → Prop} {I : qI} {H : qS} {μ : Int → Int} (hd : 3 ≤ d) {w x y : Int} (hS : Shp H) (hM : I 91 = μ) (hV : IM μ) (hK : MS I) (hk1 : (¬ ((0 ≤ w ∧ w < μ 2) ∧ (0 ≤ x ∧ x < 100) ∧ (0 ≤ y ∧ y < 100))) → ∀ (J : qI) (v : Int), (v = 0 ∨ v = 1) → MF I J → J 90 0 = 1 → P (some (vi v)) (J, H)) (hk2 : (((0 ≤ w ∧ w < μ 2) ∧ (0 ≤ x ∧ x < 100) ∧ (0 ≤ y ∧ y < 100)) ∧ y < x) → ∀ (J : qI) (v : Int), (v = 0 ∨ v = 1) → MF I J → J 90 0 = 2 → P (some (vi v)) (J, H)) (hk3 : (((0 ≤ w ∧ w < μ 2) ∧ (0 ≤ x ∧ x < 100) ∧ (0 ≤ y ∧ y < 100)) ∧ x ≤ y ∧ ¬ μ 5 < 16) → ∀ (J : qI) (v : Int), (v = 0 ∨ v = 1) → MF I J → J 90 0 = 3 → P (some (vi v)) (J, H)) (h : (((0 ≤ w ∧ w < μ 2) ∧ (0 ≤ x ∧ x < 100) ∧ (0 ≤ y ∧ y < 100)) ∧ x ≤ y ∧ μ 5 < 16) → ∀ J : qI, MU I J (uPro μ w x y) → J 90 0 = 0 → P (some (vi (μ 5))) (J, H)) :
    Call d 233 [vr (some 90) 10, vi w, vi x, vi y] (I, H) P X := by
  obtain ⟨d, rfl⟩ : ∃ e, d = e + 1 := ⟨d - 1, by omega⟩
  have hl91 := hS.l91
  obtain ⟨tb, h30⟩ : ∃ tb, I 90 30 = tb := ⟨_, rfl⟩
  obtain ⟨mo, h23⟩ : ∃ mo, I 90 23 = mo := ⟨_, rfl⟩
  have htb : 0 ≤ tb ∧ tb ≤ 29 := by have := hK.2.2.2; omega
  have hmo : (-1 : Int) = -1 ∨ (0 ≤ mo ∧ mo ≤ 48) := .inl rfl
  have h22 := hK.1
  have h29 := hK.2.1
  have v2 := hV.n5
  show WP (Call d) 233 P X (0, [some (vr (some 90) 10), some (vi w), some (vi x), some (vi y), none], [], (I, H), 0, 0)
  refine WP.go 4 (And.intro (And.intro (Nat.le_of_ble_eq_true rfl) (Nat.le_of_ble_eq_true rfl)) (And.intro rfl (?_)))
  show Call d 181 [vr (some 90) 10, vi w] (I, H) _ _
  refine s_12_isWindow (by omega) hS hM hV ?_
  show WP (Call d) 233 P X (4, [some (vr (some 90) 10), some (vi w), some (vi x), some (vi y), none], [vi (bz (0 ≤ w ∧ w ≤ μ 2 - 1)), vr (some 90) 10], (I, H), 0, 0)
  refine WP.go 1 (And.intro (fun (b4 : bz (0 ≤ w ∧ w ≤ μ 2 - 1) = 0) => ?_) (fun (b4 : ¬ bz (0 ≤ w ∧ w ≤ μ 2 - 1) = 0) => ?_))
  ·
    show WP (Call d) 233 P X (11, [some (vr (some 90) 10), some (vi w), some (vi x), some (vi y), none], [vr (some 90) 10], (I, H), 0, 0)
    have z4 := bz_e0.mp b4
    refine WP.go 6 (And.intro (And.intro rfl trivial) (And.intro rfl (And.intro (fun (b30 : ¬ 0 < 1) => (absurd b30 (by omega))) (fun (b30 : 0 < 1) => ?_))))
    show WP (Call d) 233 P X (31, [some (vr (some 90) 10), some (vi w), some (vi x), some (vi y), none], [], ((upI I 90 0 1), H), 0, 0)
    refine WP.go 2 (And.intro (And.intro (Nat.le_of_ble_eq_true rfl) (Nat.le_of_ble_eq_true rfl)) (And.intro trivial (?_)))
    show P (some (vi 0)) ((upI I 90 0 1), H)
    exact hk1 (by omega) _ 0 (.inl rfl) (MF.th hK _) (upI_same _ _ _ _)
  ·
    show WP (Call d) 233 P X (5, [some (vr (some 90) 10), some (vi w), some (vi x), some (vi y), none], [vr (some 90) 10], (I, H), 0, 0)
    have z4 := bz_e1.mp b4
    refine WP.go 2 (And.intro (And.intro (Nat.le_of_ble_eq_true rfl) (Nat.le_of_ble_eq_true rfl)) (And.intro rfl (?_)))
    show Call d 179 [vi x] (I, H) _ _
    refine s_12_isYear (by omega)  ?_
    show WP (Call d) 233 P X (7, [some (vr (some 90) 10), some (vi w), some (vi x), some (vi y), none], [vi (bz (0 ≤ x ∧ x ≤ 99)), vr (some 90) 10], (I, H), 0, 0)
    refine WP.go 1 (And.intro (fun (b7 : bz (0 ≤ x ∧ x ≤ 99) = 0) => ?_) (fun (b7 : ¬ bz (0 ≤ x ∧ x ≤ 99) = 0) => ?_))
    ·
      show WP (Call d) 233 P X (11, [some (vr (some 90) 10), some (vi w), some (vi x), some (vi y), none], [vr (some 90) 10], (I, H), 0, 0)
      have z7 := bz_e0.mp b7
      refine WP.go 6 (And.intro (And.intro rfl trivial) (And.intro rfl (And.intro (fun (b30 : ¬ 0 < 1) => (absurd b30 (by omega))) (fun (b30 : 0 < 1) => ?_))))
      show WP (Call d) 233 P X (31, [some (vr (some 90) 10), some (vi w), some (vi x), some (vi y), none], [], ((upI I 90 0 1), H), 0, 0)
      refine WP.go 2 (And.intro (And.intro (Nat.le_of_ble_eq_true rfl) (Nat.le_of_ble_eq_true rfl)) (And.intro trivial (?_)))
      show P (some (vi 0)) ((upI I 90 0 1), H)
      exact hk1 (by omega) _ 0 (.inl rfl) (MF.th hK _) (upI_same _ _ _ _)
    ·
      show WP (Call d) 233 P X (8, [some (vr (some 90) 10), some (vi w), some (vi x), some (vi y), none], [vr (some 90) 10], (I, H), 0, 0)
      have z7 := bz_e1.mp b7
      refine WP.go 2 (And.intro (And.intro (Nat.le_of_ble_eq_true rfl) (Nat.le_of_ble_eq_true rfl)) (And.intro rfl (?_)))
      show Call d 179 [vi y] (I, H) _ _
      refine s_12_isYear (by omega)  ?_
      show WP (Call d) 233 P X (10, [some (vr (some 90) 10), some (vi w), some (vi x), some (vi y), none], [vi (bz (0 ≤ y ∧ y ≤ 99)), vr (some 90) 10], (I, H), 0, 0)
      refine WP.go 1 (And.intro (fun (b10 : ¬ bz (0 ≤ y ∧ y ≤ 99) = 0) => ?_) (fun (b10 : bz (0 ≤ y ∧ y ≤ 99) = 0) => ?_))
      ·
        show WP (Call d) 233 P X (13, [some (vr (some 90) 10), some (vi w), some (vi x), some (vi y), none], [vr (some 90) 10], (I, H), 0, 0)
        have z10 := bz_e1.mp b10
        refine WP.go 3 (And.intro (fun (b15 : ¬ y < x) => ?_) (fun (b15 : y < x) => ?_))
        ·
          show WP (Call d) 233 P X (18, [some (vr (some 90) 10), some (vi w), some (vi x), some (vi y), none], [vr (some 90) 10], (I, H), 0, 0)
          refine WP.go 4 (And.intro rfl (Exists.intro 91 (And.intro hS.r90_1 (And.intro (And.intro rfl (And.intro (show 0 ≤ 5 from by omega) (show 5 < H.2.1 91 from by omega))) (?_)))))
          refine rw_i (Q := fun x9 => WP (Call d) 233 P X (22, [some (vr (some 90) 10), some (vi w), some (vi x), some (vi y), none], [vi x9, vr (some 90) 10], (I, H), 0, 0)) (congrFun hM _) ?_
          show WP (Call d) 233 P X (22, [some (vr (some 90) 10), some (vi w), some (vi x), some (vi y), none], [vi (μ 5), vr (some 90) 10], (I, H), 0, 0)
          refine WP.go 2 (And.intro (fun (b23 : ¬ μ 5 = 16) => ?_) (fun (b23 : μ 5 = 16) => ?_))
          ·
            show WP (Call d) 233 P X (26, [some (vr (some 90) 10), some (vi w), some (vi x), some (vi y), none], [vr (some 90) 10], (I, H), 0, 0)
            refine WP.go 5 (And.intro (And.intro rfl trivial) (And.intro rfl (And.intro (fun (b30 : ¬ 0 < 0) => ?_) (fun (b30 : 0 < 0) => (absurd b30 (by omega))))))
            show WP (Call d) 233 P X (33, [some (vr (some 90) 10), some (vi w), some (vi x), some (vi y), none], [], ((upI I 90 0 0), H), 0, 0)
            generalize hq_J0 : (upI I 90 0 0) = J0
            have e_J0 : J0 90 = (fun j => if j = 0 then 0 else I 90 j) := by rw [← hq_J0]; exact upI_self _ _ _ _
            have f_J0 : ∀ a, a ≠ 90 → J0 a = I a := fun a q => by rw [← hq_J0]; exact upI_cell q
            have hmf : MF I J0 := MF.t0 hK e_J0 f_J0
            have hth : J0 90 0 = 0 := by rw [e_J0]; rfl
            have hM_1 : J0 91 = μ := (f_J0 91 (by omega)).trans hM
            have hu : ∀ a, a ≠ 91 → J0 a = J0 a := fun _ _ => rfl
            refine WP.go 6 (And.intro rfl (Exists.intro 91 (And.intro hS.r90_1 (And.intro (And.intro rfl (And.intro (show 0 ≤ 5 from by omega) (show 5 < H.2.1 91 from by omega))) (?_)))))
            refine rw_i (Q := fun x9 => WP (Call d) 233 P X (39, [some (vr (some 90) 10), some (vi w), some (vi x), some (vi y), none], [vi x9, vi 3, vi 394], (J0, H), 0, 0)) (congrFun hM_1 _) ?_
            show WP (Call d) 233 P X (39, [some (vr (some 90) 10), some (vi w), some (vi x), some (vi y), none], [vi (μ 5), vi 3, vi 394], (J0, H), 0, 0)
            refine WP.go 8 (Exists.intro (3 * (μ 5)) (And.intro (wrp_a (by omega) (by omega)) (Exists.intro (394 + (3 * (μ 5))) (And.intro (wrp_a (by omega) (by omega)) (And.intro rfl (Exists.intro 91 (And.intro hS.r90_1 (And.intro (And.intro rfl (And.intro (show 0 ≤ 394 + (3 * (μ 5)) from by omega) (show 394 + (3 * (μ 5)) < H.2.1 91 from by omega))) (?_)))))))))
            show WP (Call d) 233 P X (47, [some (vr (some 90) 10), some (vi w), some (vi x), some (vi y), some (vi (394 + (3 * (μ 5))))], [], ((upI J0 91 (394 + (3 * (μ 5))) w), H), 0, 0)
            generalize hq_W47 : (upI J0 91 (394 + (3 * (μ 5))) w) = W47
            have e_W47 : W47 91 = (fun j => if j = (394 + (3 * (μ 5))) then w else J0 91 j) := by rw [← hq_W47]; exact upI_self _ _ _ _
            have f_W47 : ∀ a, a ≠ 91 → W47 a = J0 a := fun a q => by rw [← hq_W47]; exact upI_cell q
            have hM_W47 : W47 91 = st μ (394 + 3 * μ 5) w := by
              have x1 : (394 + (3 * (μ 5))) = 394 + 3 * μ 5 := by omega
              have x2 : w = w := by omega
              rw [e_W47, hM_1, x1, x2]; rfl
            have hu_W47 : ∀ a, a ≠ 91 → W47 a = J0 a := fun a q => (f_W47 a q).trans (hu a q)
            refine WP.go 7 (And.intro rfl (Exists.intro 91 (And.intro hS.r90_1 (Exists.intro ((394 + (3 * (μ 5))) + 1) (And.intro (wrp_a (by omega) (by omega)) (And.intro (And.intro rfl (And.intro (show 0 ≤ (394 + (3 * (μ 5))) + 1 from by omega) (show (394 + (3 * (μ 5))) + 1 < H.2.1 91 from by omega))) (?_)))))))
            show WP (Call d) 233 P X (54, [some (vr (some 90) 10), some (vi w), some (vi x), some (vi y), some (vi (394 + (3 * (μ 5))))], [], ((upI W47 91 ((394 + (3 * (μ 5))) + 1) x), H), 0, 0)
            generalize hq_W54 : (upI W47 91 ((394 + (3 * (μ 5))) + 1) x) = W54
            have e_W54 : W54 91 = (fun j => if j = ((394 + (3 * (μ 5))) + 1) then x else W47 91 j) := by rw [← hq_W54]; exact upI_self _ _ _ _
            have f_W54 : ∀ a, a ≠ 91 → W54 a = W47 a := fun a q => by rw [← hq_W54]; exact upI_cell q
            have hM_W54 : W54 91 = st (st μ (394 + 3 * μ 5) w) (395 + 3 * μ 5) x := by
              have x1 : ((394 + (3 * (μ 5))) + 1) = 395 + 3 * μ 5 := by omega
              have x2 : x = x := by omega
              rw [e_W54, hM_W47, x1, x2]; rfl
            have hu_W54 : ∀ a, a ≠ 91 → W54 a = J0 a := fun a q => (f_W54 a q).trans (hu_W47 a q)
            refine WP.go 7 (And.intro rfl (Exists.intro 91 (And.intro hS.r90_1 (Exists.intro ((394 + (3 * (μ 5))) + 2) (And.intro (wrp_a (by omega) (by omega)) (And.intro (And.intro rfl (And.intro (show 0 ≤ (394 + (3 * (μ 5))) + 2 from by omega) (show (394 + (3 * (μ 5))) + 2 < H.2.1 91 from by omega))) (?_)))))))
            show WP (Call d) 233 P X (61, [some (vr (some 90) 10), some (vi w), some (vi x), some (vi y), some (vi (394 + (3 * (μ 5))))], [], ((upI W54 91 ((394 + (3 * (μ 5))) + 2) y), H), 0, 0)
            generalize hq_W61 : (upI W54 91 ((394 + (3 * (μ 5))) + 2) y) = W61
            have e_W61 : W61 91 = (fun j => if j = ((394 + (3 * (μ 5))) + 2) then y else W54 91 j) := by rw [← hq_W61]; exact upI_self _ _ _ _
            have f_W61 : ∀ a, a ≠ 91 → W61 a = W54 a := fun a q => by rw [← hq_W61]; exact upI_cell q
            have hM_W61 : W61 91 = st (st (st μ (394 + 3 * μ 5) w) (395 + 3 * μ 5) x) (396 + 3 * μ 5) y := by
              have x1 : ((394 + (3 * (μ 5))) + 2) = 396 + 3 * μ 5 := by omega
              have x2 : y = y := by omega
              rw [e_W61, hM_W54, x1, x2]; rfl
            have hu_W61 : ∀ a, a ≠ 91 → W61 a = J0 a := fun a q => (f_W61 a q).trans (hu_W54 a q)
            refine WP.go 5 (And.intro rfl (Exists.intro 91 (And.intro hS.r90_1 (And.intro (And.intro rfl (And.intro (show 0 ≤ 5 from by omega) (show 5 < H.2.1 91 from by omega))) (?_)))))
            refine rw_i (Q := fun x9 => WP (Call d) 233 P X (66, [some (vr (some 90) 10), some (vi w), some (vi x), some (vi y), some (vi (394 + (3 * (μ 5))))], [vi x9, vi 5, vr (some 91) 11], (W61, H), 0, 0)) (show W61 91 5 = μ 5 from (congrFun hM_W61 _).trans (((st_n (by omega)).trans ((st_n (by omega)).trans ((st_n (by omega)).trans (congrArg μ (by omega))))))) ?_
            show WP (Call d) 233 P X (66, [some (vr (some 90) 10), some (vi w), some (vi x), some (vi y), some (vi (394 + (3 * (μ 5))))], [vi (μ 5), vi 5, vr (some 91) 11], (W61, H), 0, 0)
            refine WP.go 3 (Exists.intro ((μ 5) + 1) (And.intro (wrp_a (by omega) (by omega)) (And.intro (And.intro rfl (And.intro (show 0 ≤ 5 from by omega) (show 5 < H.2.1 91 from by omega))) (?_))))
            show WP (Call d) 233 P X (69, [some (vr (some 90) 10), some (vi w), some (vi x), some (vi y), some (vi (394 + (3 * (μ 5))))], [], ((upI W61 91 5 ((μ 5) + 1)), H), 0, 0)
            generalize hq_W69 : (upI W61 91 5 ((μ 5) + 1)) = W69
            have e_W69 : W69 91 = (fun j => if j = 5 then ((μ 5) + 1) else W61 91 j) := by rw [← hq_W69]; exact upI_self _ _ _ _
            have f_W69 : ∀ a, a ≠ 91 → W69 a = W61 a := fun a q => by rw [← hq_W69]; exact upI_cell q
            have hM_W69 : W69 91 = st (st (st (st μ (394 + 3 * μ 5) w) (395 + 3 * μ 5) x) (396 + 3 * μ 5) y) 5 (1 + μ 5) := by
              have x1 : (5 : Int) = 5 := by omega
              have x2 : ((μ 5) + 1) = 1 + μ 5 := by omega
              rw [e_W69, hM_W61, x1, x2]; rfl
            have hu_W69 : ∀ a, a ≠ 91 → W69 a = J0 a := fun a q => (f_W69 a q).trans (hu_W61 a q)
            refine WP.go 4 (And.intro rfl (Exists.intro 91 (And.intro hS.r90_1 (And.intro (And.intro rfl (And.intro (show 0 ≤ 5 from by omega) (show 5 < H.2.1 91 from by omega))) (?_)))))
            refine rw_i (Q := fun x9 => WP (Call d) 233 P X (73, [some (vr (some 90) 10), some (vi w), some (vi x), some (vi y), some (vi (394 + (3 * (μ 5))))], [vi x9], (W69, H), 0, 0)) (show W69 91 5 = (1 + μ 5) from (congrFun hM_W69 _).trans ((st_e _ _ _))) ?_
            show WP (Call d) 233 P X (73, [some (vr (some 90) 10), some (vi w), some (vi x), some (vi y), some (vi (394 + (3 * (μ 5))))], [vi (1 + μ 5)], (W69, H), 0, 0)
            refine WP.go 3 (Exists.intro ((1 + μ 5) - 1) (And.intro (wrp_a (by omega) (by omega)) (And.intro (And.intro (Nat.le_of_ble_eq_true rfl) (Nat.le_of_ble_eq_true rfl)) (And.intro trivial (?_)))))
            show P (some (vi ((1 + μ 5) - 1))) (W69, H)
            exact fin_i (by omega) (h (by omega) _ (MU.of hmf hu_W69 hM_W69) (by rw [hu_W69 90 (by omega)]; exact hth))
          ·
            show WP (Call d) 233 P X (24, [some (vr (some 90) 10), some (vi w), some (vi x), some (vi y), none], [vr (some 90) 10], (I, H), 0, 0)
            refine WP.go 6 (And.intro (And.intro rfl trivial) (And.intro rfl (And.intro (fun (b30 : ¬ 0 < 3) => (absurd b30 (by omega))) (fun (b30 : 0 < 3) => ?_))))
            show WP (Call d) 233 P X (31, [some (vr (some 90) 10), some (vi w), some (vi x), some (vi y), none], [], ((upI I 90 0 3), H), 0, 0)
            refine WP.go 2 (And.intro (And.intro (Nat.le_of_ble_eq_true rfl) (Nat.le_of_ble_eq_true rfl)) (And.intro trivial (?_)))
            show P (some (vi 0)) ((upI I 90 0 3), H)
            exact hk3 (by omega) _ 0 (.inl rfl) (MF.th hK _) (upI_same _ _ _ _)
        ·
          show WP (Call d) 233 P X (16, [some (vr (some 90) 10), some (vi w), some (vi x), some (vi y), none], [vr (some 90) 10], (I, H), 0, 0)
          refine WP.go 6 (And.intro (And.intro rfl trivial) (And.intro rfl (And.intro (fun (b30 : ¬ 0 < 2) => (absurd b30 (by omega))) (fun (b30 : 0 < 2) => ?_))))
          show WP (Call d) 233 P X (31, [some (vr (some 90) 10), some (vi w), some (vi x), some (vi y), none], [], ((upI I 90 0 2), H), 0, 0)
          refine WP.go 2 (And.intro (And.intro (Nat.le_of_ble_eq_true rfl) (Nat.le_of_ble_eq_true rfl)) (And.intro trivial (?_)))
          show P (some (vi 0)) ((upI I 90 0 2), H)
          exact hk2 (by omega) _ 0 (.inl rfl) (MF.th hK _) (upI_same _ _ _ _)
      ·
        show WP (Call d) 233 P X (11, [some (vr (some 90) 10), some (vi w), some (vi x), some (vi y), none], [vr (some 90) 10], (I, H), 0, 0)
        have z10 := bz_e0.mp b10
        refine WP.go 6 (And.intro (And.intro rfl trivial) (And.intro rfl (And.intro (fun (b30 : ¬ 0 < 1) => (absurd b30 (by omega))) (fun (b30 : 0 < 1) => ?_))))
        show WP (Call d) 233 P X (31, [some (vr (some 90) 10), some (vi w), some (vi x), some (vi y), none], [], ((upI I 90 0 1), H), 0, 0)
        refine WP.go 2 (And.intro (And.intro (Nat.le_of_ble_eq_true rfl) (Nat.le_of_ble_eq_true rfl)) (And.intro trivial (?_)))
        show P (some (vi 0)) ((upI I 90 0 1), H)
        exact hk1 (by omega) _ 0 (.inl rfl) (MF.th hK _) (upI_same _ _ _ _)

theorem s_12_drain {d : Nat} {P : Option qV → qH → Prop} {X : Nat → qH → Prop} {I : qI} {H : qS} {μ : Int → Int} (hd : 3 ≤ d) {x y : Int} (hS : Shp H) (hM : I 91 = μ) (hV : IM μ) (hK : MS I) (hk1 : (¬ ((0 ≤ x ∧ x < 81) ∧ (0 ≤ y ∧ y < 81))) → ∀ (J : qI) (v : Int), (v = 0 ∨ v = 1) → MF I J → J 90 0 = 1 → P (some (vi v)) (J, H)) (hk2 : (((0 ≤ x ∧ x < 81) ∧ (0 ≤ y ∧ y < 81)) ∧ x = y) → ∀ (J : qI) (v : Int), (v = 0 ∨ v = 1) → MF I J → J 90 0 = 2 → P (some (vi v)) (J, H)) (hk3 : (((0 ≤ x ∧ x < 81) ∧ (0 ≤ y ∧ y < 81)) ∧ x ≠ y ∧ ¬ μ 6 < 8) → ∀ (J : qI) (v : Int), (v = 0 ∨ v = 1) → MF I J → J 90 0 = 3 → P (some (vi v)) (J, H)) (h : (((0 ≤ x ∧ x < 81) ∧ (0 ≤ y ∧ y < 81)) ∧ x ≠ y ∧ μ 6 < 8) → ∀ J : qI, MU I J (uDra μ x y) → J 90 0 = 0 → P (some (vi (μ 6))) (J, H)) :
    Call d 237 [vr (some 90) 10, vi x, vi y] (I, H) P X := by
  obtain ⟨d, rfl⟩ : ∃ e, d = e + 1 := ⟨d - 1, by omega⟩
  have hl91 := hS.l91
  obtain ⟨tb, h30⟩ : ∃ tb, I 90 30 = tb := ⟨_, rfl⟩
  obtain ⟨mo, h23⟩ : ∃ mo, I 90 23 = mo := ⟨_, rfl⟩
  have htb : 0 ≤ tb ∧ tb ≤ 29 := by have := hK.2.2.2; omega
  have hmo : (-1 : Int) = -1 ∨ (0 ≤ mo ∧ mo ≤ 48) := .inl rfl
  have h22 := hK.1
  have h29 := hK.2.1
  have v2 := hV.n6
  show WP (Call d) 237 P X (0, [some (vr (some 90) 10), some (vi x), some (vi y)], [], (I, H), 0, 0)
  refine WP.go 3 (And.intro (And.intro (Nat.le_of_ble_eq_true rfl) (Nat.le_of_ble_eq_true rfl)) (And.intro rfl (?_)))
  show Call d 178 [vi x] (I, H) _ _
  refine s_12_isCell (by omega)  ?_
  show WP (Call d) 237 P X (3, [some (vr (some 90) 10), some (vi x), some (vi y)], [vi (bz (0 ≤ x ∧ x ≤ 80)), vr (some 90) 10], (I, H), 0, 0)
  refine WP.go 1 (And.intro (fun (b3 : bz (0 ≤ x ∧ x ≤ 80) = 0) => ?_) (fun (b3 : ¬ bz (0 ≤ x ∧ x ≤ 80) = 0) => ?_))
  ·
    show WP (Call d) 237 P X (7, [some (vr (some 90) 10), some (vi x), some (vi y)], [vr (some 90) 10], (I, H), 0, 0)
    have z3 := bz_e0.mp b3
    refine WP.go 6 (And.intro (And.intro rfl trivial) (And.intro rfl (And.intro (fun (b26 : ¬ 0 < 1) => (absurd b26 (by omega))) (fun (b26 : 0 < 1) => ?_))))
    show WP (Call d) 237 P X (27, [some (vr (some 90) 10), some (vi x), some (vi y)], [], ((upI I 90 0 1), H), 0, 0)
    refine WP.go 2 (And.intro (And.intro (Nat.le_of_ble_eq_true rfl) (Nat.le_of_ble_eq_true rfl)) (And.intro trivial (?_)))
    show P (some (vi 0)) ((upI I 90 0 1), H)
    exact hk1 (by omega) _ 0 (.inl rfl) (MF.th hK _) (upI_same _ _ _ _)
  ·
    show WP (Call d) 237 P X (4, [some (vr (some 90) 10), some (vi x), some (vi y)], [vr (some 90) 10], (I, H), 0, 0)
    have z3 := bz_e1.mp b3
    refine WP.go 2 (And.intro (And.intro (Nat.le_of_ble_eq_true rfl) (Nat.le_of_ble_eq_true rfl)) (And.intro rfl (?_)))
    show Call d 178 [vi y] (I, H) _ _
    refine s_12_isCell (by omega)  ?_
    show WP (Call d) 237 P X (6, [some (vr (some 90) 10), some (vi x), some (vi y)], [vi (bz (0 ≤ y ∧ y ≤ 80)), vr (some 90) 10], (I, H), 0, 0)
    refine WP.go 1 (And.intro (fun (b6 : ¬ bz (0 ≤ y ∧ y ≤ 80) = 0) => ?_) (fun (b6 : bz (0 ≤ y ∧ y ≤ 80) = 0) => ?_))
    ·
      show WP (Call d) 237 P X (9, [some (vr (some 90) 10), some (vi x), some (vi y)], [vr (some 90) 10], (I, H), 0, 0)
      have z6 := bz_e1.mp b6
      refine WP.go 3 (And.intro (fun (b11 : ¬ x = y) => ?_) (fun (b11 : x = y) => ?_))
      ·
        show WP (Call d) 237 P X (14, [some (vr (some 90) 10), some (vi x), some (vi y)], [vr (some 90) 10], (I, H), 0, 0)
        refine WP.go 4 (And.intro rfl (Exists.intro 91 (And.intro hS.r90_1 (And.intro (And.intro rfl (And.intro (show 0 ≤ 6 from by omega) (show 6 < H.2.1 91 from by omega))) (?_)))))
        refine rw_i (Q := fun x9 => WP (Call d) 237 P X (18, [some (vr (some 90) 10), some (vi x), some (vi y)], [vi x9, vr (some 90) 10], (I, H), 0, 0)) (congrFun hM _) ?_
        show WP (Call d) 237 P X (18, [some (vr (some 90) 10), some (vi x), some (vi y)], [vi (μ 6), vr (some 90) 10], (I, H), 0, 0)
        refine WP.go 2 (And.intro (fun (b19 : ¬ μ 6 = 8) => ?_) (fun (b19 : μ 6 = 8) => ?_))
        ·
          show WP (Call d) 237 P X (22, [some (vr (some 90) 10), some (vi x), some (vi y)], [vr (some 90) 10], (I, H), 0, 0)
          refine WP.go 5 (And.intro (And.intro rfl trivial) (And.intro rfl (And.intro (fun (b26 : ¬ 0 < 0) => ?_) (fun (b26 : 0 < 0) => (absurd b26 (by omega))))))
          show WP (Call d) 237 P X (29, [some (vr (some 90) 10), some (vi x), some (vi y)], [], ((upI I 90 0 0), H), 0, 0)
          generalize hq_J0 : (upI I 90 0 0) = J0
          have e_J0 : J0 90 = (fun j => if j = 0 then 0 else I 90 j) := by rw [← hq_J0]; exact upI_self _ _ _ _
          have f_J0 : ∀ a, a ≠ 90 → J0 a = I a := fun a q => by rw [← hq_J0]; exact upI_cell q
          have hmf : MF I J0 := MF.t0 hK e_J0 f_J0
          have hth : J0 90 0 = 0 := by rw [e_J0]; rfl
          have hM_1 : J0 91 = μ := (f_J0 91 (by omega)).trans hM
          have hu : ∀ a, a ≠ 91 → J0 a = J0 a := fun _ _ => rfl
          refine WP.go 8 (And.intro rfl (Exists.intro 91 (And.intro hS.r90_1 (And.intro rfl (Exists.intro 91 (And.intro hS.r90_1 (And.intro (And.intro rfl (And.intro (show 0 ≤ 6 from by omega) (show 6 < H.2.1 91 from by omega))) (?_))))))))
          refine rw_i (Q := fun x9 => WP (Call d) 237 P X (37, [some (vr (some 90) 10), some (vi x), some (vi y)], [vi x9, vi 2, vi 442, vr (some 91) 11], (J0, H), 0, 0)) (congrFun hM_1 _) ?_
          show WP (Call d) 237 P X (37, [some (vr (some 90) 10), some (vi x), some (vi y)], [vi (μ 6), vi 2, vi 442, vr (some 91) 11], (J0, H), 0, 0)
          refine WP.go 4 (Exists.intro (2 * (μ 6)) (And.intro (wrp_a (by omega) (by omega)) (Exists.intro (442 + (2 * (μ 6))) (And.intro (wrp_a (by omega) (by omega)) (And.intro (And.intro rfl (And.intro (show 0 ≤ 442 + (2 * (μ 6)) from by omega) (show 442 + (2 * (μ 6)) < H.2.1 91 from by omega))) (?_))))))
          show WP (Call d) 237 P X (41, [some (vr (some 90) 10), some (vi x), some (vi y)], [], ((upI J0 91 (442 + (2 * (μ 6))) x), H), 0, 0)
          generalize hq_W41 : (upI J0 91 (442 + (2 * (μ 6))) x) = W41
          have e_W41 : W41 91 = (fun j => if j = (442 + (2 * (μ 6))) then x else J0 91 j) := by rw [← hq_W41]; exact upI_self _ _ _ _
          have f_W41 : ∀ a, a ≠ 91 → W41 a = J0 a := fun a q => by rw [← hq_W41]; exact upI_cell q
          have hM_W41 : W41 91 = st μ (442 + 2 * μ 6) x := by
            have x1 : (442 + (2 * (μ 6))) = 442 + 2 * μ 6 := by omega
            have x2 : x = x := by omega
            rw [e_W41, hM_1, x1, x2]; rfl
          have hu_W41 : ∀ a, a ≠ 91 → W41 a = J0 a := fun a q => (f_W41 a q).trans (hu a q)
          refine WP.go 8 (And.intro rfl (Exists.intro 91 (And.intro hS.r90_1 (And.intro rfl (Exists.intro 91 (And.intro hS.r90_1 (And.intro (And.intro rfl (And.intro (show 0 ≤ 6 from by omega) (show 6 < H.2.1 91 from by omega))) (?_))))))))
          refine rw_i (Q := fun x9 => WP (Call d) 237 P X (49, [some (vr (some 90) 10), some (vi x), some (vi y)], [vi x9, vi 2, vi 442, vr (some 91) 11], (W41, H), 0, 0)) (show W41 91 6 = μ 6 from (congrFun hM_W41 _).trans (((st_n (by omega)).trans (congrArg μ (by omega))))) ?_
          show WP (Call d) 237 P X (49, [some (vr (some 90) 10), some (vi x), some (vi y)], [vi (μ 6), vi 2, vi 442, vr (some 91) 11], (W41, H), 0, 0)
          refine WP.go 6 (Exists.intro (2 * (μ 6)) (And.intro (wrp_a (by omega) (by omega)) (Exists.intro (442 + (2 * (μ 6))) (And.intro (wrp_a (by omega) (by omega)) (Exists.intro ((442 + (2 * (μ 6))) + 1) (And.intro (wrp_a (by omega) (by omega)) (And.intro (And.intro rfl (And.intro (show 0 ≤ (442 + (2 * (μ 6))) + 1 from by omega) (show (442 + (2 * (μ 6))) + 1 < H.2.1 91 from by omega))) (?_))))))))
          show WP (Call d) 237 P X (55, [some (vr (some 90) 10), some (vi x), some (vi y)], [], ((upI W41 91 ((442 + (2 * (μ 6))) + 1) y), H), 0, 0)
          generalize hq_W55 : (upI W41 91 ((442 + (2 * (μ 6))) + 1) y) = W55
          have e_W55 : W55 91 = (fun j => if j = ((442 + (2 * (μ 6))) + 1) then y else W41 91 j) := by rw [← hq_W55]; exact upI_self _ _ _ _
          have f_W55 : ∀ a, a ≠ 91 → W55 a = W41 a := fun a q => by rw [← hq_W55]; exact upI_cell q
          have hM_W55 : W55 91 = st (st μ (442 + 2 * μ 6) x) (443 + 2 * μ 6) y := by
            have x1 : ((442 + (2 * (μ 6))) + 1) = 443 + 2 * μ 6 := by omega
            have x2 : y = y := by omega
            rw [e_W55, hM_W41, x1, x2]; rfl
          have hu_W55 : ∀ a, a ≠ 91 → W55 a = J0 a := fun a q => (f_W55 a q).trans (hu_W41 a q)
          refine WP.go 5 (And.intro rfl (Exists.intro 91 (And.intro hS.r90_1 (And.intro (And.intro rfl (And.intro (show 0 ≤ 6 from by omega) (show 6 < H.2.1 91 from by omega))) (?_)))))
          refine rw_i (Q := fun x9 => WP (Call d) 237 P X (60, [some (vr (some 90) 10), some (vi x), some (vi y)], [vi x9, vi 6, vr (some 91) 11], (W55, H), 0, 0)) (show W55 91 6 = μ 6 from (congrFun hM_W55 _).trans (((st_n (by omega)).trans ((st_n (by omega)).trans (congrArg μ (by omega)))))) ?_
          show WP (Call d) 237 P X (60, [some (vr (some 90) 10), some (vi x), some (vi y)], [vi (μ 6), vi 6, vr (some 91) 11], (W55, H), 0, 0)
          refine WP.go 3 (Exists.intro ((μ 6) + 1) (And.intro (wrp_a (by omega) (by omega)) (And.intro (And.intro rfl (And.intro (show 0 ≤ 6 from by omega) (show 6 < H.2.1 91 from by omega))) (?_))))
          show WP (Call d) 237 P X (63, [some (vr (some 90) 10), some (vi x), some (vi y)], [], ((upI W55 91 6 ((μ 6) + 1)), H), 0, 0)
          generalize hq_W63 : (upI W55 91 6 ((μ 6) + 1)) = W63
          have e_W63 : W63 91 = (fun j => if j = 6 then ((μ 6) + 1) else W55 91 j) := by rw [← hq_W63]; exact upI_self _ _ _ _
          have f_W63 : ∀ a, a ≠ 91 → W63 a = W55 a := fun a q => by rw [← hq_W63]; exact upI_cell q
          have hM_W63 : W63 91 = st (st (st μ (442 + 2 * μ 6) x) (443 + 2 * μ 6) y) 6 (1 + μ 6) := by
            have x1 : (6 : Int) = 6 := by omega
            have x2 : ((μ 6) + 1) = 1 + μ 6 := by omega
            rw [e_W63, hM_W55, x1, x2]; rfl
          have hu_W63 : ∀ a, a ≠ 91 → W63 a = J0 a := fun a q => (f_W63 a q).trans (hu_W55 a q)
          refine WP.go 4 (And.intro rfl (Exists.intro 91 (And.intro hS.r90_1 (And.intro (And.intro rfl (And.intro (show 0 ≤ 6 from by omega) (show 6 < H.2.1 91 from by omega))) (?_)))))
          refine rw_i (Q := fun x9 => WP (Call d) 237 P X (67, [some (vr (some 90) 10), some (vi x), some (vi y)], [vi x9], (W63, H), 0, 0)) (show W63 91 6 = (1 + μ 6) from (congrFun hM_W63 _).trans ((st_e _ _ _))) ?_
          show WP (Call d) 237 P X (67, [some (vr (some 90) 10), some (vi x), some (vi y)], [vi (1 + μ 6)], (W63, H), 0, 0)
          refine WP.go 3 (Exists.intro ((1 + μ 6) - 1) (And.intro (wrp_a (by omega) (by omega)) (And.intro (And.intro (Nat.le_of_ble_eq_true rfl) (Nat.le_of_ble_eq_true rfl)) (And.intro trivial (?_)))))
          show P (some (vi ((1 + μ 6) - 1))) (W63, H)
          exact fin_i (by omega) (h (by omega) _ (MU.of hmf hu_W63 hM_W63) (by rw [hu_W63 90 (by omega)]; exact hth))
        ·
          show WP (Call d) 237 P X (20, [some (vr (some 90) 10), some (vi x), some (vi y)], [vr (some 90) 10], (I, H), 0, 0)
          refine WP.go 6 (And.intro (And.intro rfl trivial) (And.intro rfl (And.intro (fun (b26 : ¬ 0 < 3) => (absurd b26 (by omega))) (fun (b26 : 0 < 3) => ?_))))
          show WP (Call d) 237 P X (27, [some (vr (some 90) 10), some (vi x), some (vi y)], [], ((upI I 90 0 3), H), 0, 0)
          refine WP.go 2 (And.intro (And.intro (Nat.le_of_ble_eq_true rfl) (Nat.le_of_ble_eq_true rfl)) (And.intro trivial (?_)))
          show P (some (vi 0)) ((upI I 90 0 3), H)
          exact hk3 (by omega) _ 0 (.inl rfl) (MF.th hK _) (upI_same _ _ _ _)
      ·
        show WP (Call d) 237 P X (12, [some (vr (some 90) 10), some (vi x), some (vi y)], [vr (some 90) 10], (I, H), 0, 0)
        refine WP.go 6 (And.intro (And.intro rfl trivial) (And.intro rfl (And.intro (fun (b26 : ¬ 0 < 2) => (absurd b26 (by omega))) (fun (b26 : 0 < 2) => ?_))))
        show WP (Call d) 237 P X (27, [some (vr (some 90) 10), some (vi x), some (vi y)], [], ((upI I 90 0 2), H), 0, 0)
        refine WP.go 2 (And.intro (And.intro (Nat.le_of_ble_eq_true rfl) (Nat.le_of_ble_eq_true rfl)) (And.intro trivial (?_)))
        show P (some (vi 0)) ((upI I 90 0 2), H)
        exact hk2 (by omega) _ 0 (.inl rfl) (MF.th hK _) (upI_same _ _ _ _)
    ·
      show WP (Call d) 237 P X (7, [some (vr (some 90) 10), some (vi x), some (vi y)], [vr (some 90) 10], (I, H), 0, 0)
      have z6 := bz_e0.mp b6
      refine WP.go 6 (And.intro (And.intro rfl trivial) (And.intro rfl (And.intro (fun (b26 : ¬ 0 < 1) => (absurd b26 (by omega))) (fun (b26 : 0 < 1) => ?_))))
      show WP (Call d) 237 P X (27, [some (vr (some 90) 10), some (vi x), some (vi y)], [], ((upI I 90 0 1), H), 0, 0)
      refine WP.go 2 (And.intro (And.intro (Nat.le_of_ble_eq_true rfl) (Nat.le_of_ble_eq_true rfl)) (And.intro trivial (?_)))
      show P (some (vi 0)) ((upI I 90 0 1), H)
      exact hk1 (by omega) _ 0 (.inl rfl) (MF.th hK _) (upI_same _ _ _ _)

theorem s_12_wants {d : Nat} {P : Option qV → qH → Prop} {X : Nat → qH → Prop} {I : qI} {H : qS} {μ : Int → Int} (hd : 3 ≤ d) {f x y : Int} (hS : Shp H) (hM : I 91 = μ) (hV : IM μ) (hK : MS I) (hk1 : (¬ ((0 ≤ f ∧ f < μ 1) ∧ (0 ≤ x ∧ x < 100) ∧ (0 ≤ y ∧ y < 100))) → ∀ (J : qI) (v : Int), (v = 0 ∨ v = 1) → MF I J → J 90 0 = 1 → P (none) (J, H)) (hk2 : (((0 ≤ f ∧ f < μ 1) ∧ (0 ≤ x ∧ x < 100) ∧ (0 ≤ y ∧ y < 100)) ∧ y < x) → ∀ (J : qI) (v : Int), (v = 0 ∨ v = 1) → MF I J → J 90 0 = 2 → P (none) (J, H)) (h : (((0 ≤ f ∧ f < μ 1) ∧ (0 ≤ x ∧ x < 100) ∧ (0 ≤ y ∧ y < 100)) ∧ x ≤ y) → ∀ J : qI, MU I J (uWan μ f x y) → J 90 0 = 0 → P (none) (J, H)) :
    Call d 253 [vr (some 90) 10, vi f, vi x, vi y] (I, H) P X := by
  obtain ⟨d, rfl⟩ : ∃ e, d = e + 1 := ⟨d - 1, by omega⟩
  have hl91 := hS.l91
  obtain ⟨tb, h30⟩ : ∃ tb, I 90 30 = tb := ⟨_, rfl⟩
  obtain ⟨mo, h23⟩ : ∃ mo, I 90 23 = mo := ⟨_, rfl⟩
  have htb : 0 ≤ tb ∧ tb ≤ 29 := by have := hK.2.2.2; omega
  have hmo : (-1 : Int) = -1 ∨ (0 ≤ mo ∧ mo ≤ 48) := .inl rfl
  have h22 := hK.1
  have h29 := hK.2.1
  have v2 := hV.n1
  show WP (Call d) 253 P X (0, [some (vr (some 90) 10), some (vi f), some (vi x), some (vi y)], [], (I, H), 0, 0)
  refine WP.go 4 (And.intro (And.intro (Nat.le_of_ble_eq_true rfl) (Nat.le_of_ble_eq_true rfl)) (And.intro rfl (?_)))
  show Call d 180 [vr (some 90) 10, vi f] (I, H) _ _
  refine s_12_isHouse (by omega) hS hM hV ?_
  show WP (Call d) 253 P X (4, [some (vr (some 90) 10), some (vi f), some (vi x), some (vi y)], [vi (bz (0 ≤ f ∧ f ≤ μ 1 - 1)), vr (some 90) 10], (I, H), 0, 0)
  refine WP.go 1 (And.intro (fun (b4 : bz (0 ≤ f ∧ f ≤ μ 1 - 1) = 0) => ?_) (fun (b4 : ¬ bz (0 ≤ f ∧ f ≤ μ 1 - 1) = 0) => ?_))
  ·
    show WP (Call d) 253 P X (11, [some (vr (some 90) 10), some (vi f), some (vi x), some (vi y)], [vr (some 90) 10], (I, H), 0, 0)
    have z4 := bz_e0.mp b4
    refine WP.go 6 (And.intro (And.intro rfl trivial) (And.intro rfl (And.intro (fun (b22 : ¬ 0 < 1) => (absurd b22 (by omega))) (fun (b22 : 0 < 1) => ?_))))
    show WP (Call d) 253 P X (23, [some (vr (some 90) 10), some (vi f), some (vi x), some (vi y)], [], ((upI I 90 0 1), H), 0, 0)
    refine WP.go 1 (And.intro (And.intro (Nat.le_of_ble_eq_true rfl) (Nat.le_of_ble_eq_true rfl)) (?_))
    show P none ((upI I 90 0 1), H)
    exact hk1 (by omega) _ 0 (.inl rfl) (MF.th hK _) (upI_same _ _ _ _)
  ·
    show WP (Call d) 253 P X (5, [some (vr (some 90) 10), some (vi f), some (vi x), some (vi y)], [vr (some 90) 10], (I, H), 0, 0)
    have z4 := bz_e1.mp b4
    refine WP.go 2 (And.intro (And.intro (Nat.le_of_ble_eq_true rfl) (Nat.le_of_ble_eq_true rfl)) (And.intro rfl (?_)))
    show Call d 179 [vi x] (I, H) _ _
    refine s_12_isYear (by omega)  ?_
    show WP (Call d) 253 P X (7, [some (vr (some 90) 10), some (vi f), some (vi x), some (vi y)], [vi (bz (0 ≤ x ∧ x ≤ 99)), vr (some 90) 10], (I, H), 0, 0)
    refine WP.go 1 (And.intro (fun (b7 : bz (0 ≤ x ∧ x ≤ 99) = 0) => ?_) (fun (b7 : ¬ bz (0 ≤ x ∧ x ≤ 99) = 0) => ?_))
    ·
      show WP (Call d) 253 P X (11, [some (vr (some 90) 10), some (vi f), some (vi x), some (vi y)], [vr (some 90) 10], (I, H), 0, 0)
      have z7 := bz_e0.mp b7
      refine WP.go 6 (And.intro (And.intro rfl trivial) (And.intro rfl (And.intro (fun (b22 : ¬ 0 < 1) => (absurd b22 (by omega))) (fun (b22 : 0 < 1) => ?_))))
      show WP (Call d) 253 P X (23, [some (vr (some 90) 10), some (vi f), some (vi x), some (vi y)], [], ((upI I 90 0 1), H), 0, 0)
      refine WP.go 1 (And.intro (And.intro (Nat.le_of_ble_eq_true rfl) (Nat.le_of_ble_eq_true rfl)) (?_))
      show P none ((upI I 90 0 1), H)
      exact hk1 (by omega) _ 0 (.inl rfl) (MF.th hK _) (upI_same _ _ _ _)
    ·
      show WP (Call d) 253 P X (8, [some (vr (some 90) 10), some (vi f), some (vi x), some (vi y)], [vr (some 90) 10], (I, H), 0, 0)
      have z7 := bz_e1.mp b7
      refine WP.go 2 (And.intro (And.intro (Nat.le_of_ble_eq_true rfl) (Nat.le_of_ble_eq_true rfl)) (And.intro rfl (?_)))
      show Call d 179 [vi y] (I, H) _ _
      refine s_12_isYear (by omega)  ?_
      show WP (Call d) 253 P X (10, [some (vr (some 90) 10), some (vi f), some (vi x), some (vi y)], [vi (bz (0 ≤ y ∧ y ≤ 99)), vr (some 90) 10], (I, H), 0, 0)
      refine WP.go 1 (And.intro (fun (b10 : ¬ bz (0 ≤ y ∧ y ≤ 99) = 0) => ?_) (fun (b10 : bz (0 ≤ y ∧ y ≤ 99) = 0) => ?_))
      ·
        show WP (Call d) 253 P X (13, [some (vr (some 90) 10), some (vi f), some (vi x), some (vi y)], [vr (some 90) 10], (I, H), 0, 0)
        have z10 := bz_e1.mp b10
        refine WP.go 3 (And.intro (fun (b15 : ¬ y < x) => ?_) (fun (b15 : y < x) => ?_))
        ·
          show WP (Call d) 253 P X (18, [some (vr (some 90) 10), some (vi f), some (vi x), some (vi y)], [vr (some 90) 10], (I, H), 0, 0)
          refine WP.go 5 (And.intro (And.intro rfl trivial) (And.intro rfl (And.intro (fun (b22 : ¬ 0 < 0) => ?_) (fun (b22 : 0 < 0) => (absurd b22 (by omega))))))
          show WP (Call d) 253 P X (24, [some (vr (some 90) 10), some (vi f), some (vi x), some (vi y)], [], ((upI I 90 0 0), H), 0, 0)
          generalize hq_J0 : (upI I 90 0 0) = J0
          have e_J0 : J0 90 = (fun j => if j = 0 then 0 else I 90 j) := by rw [← hq_J0]; exact upI_self _ _ _ _
          have f_J0 : ∀ a, a ≠ 90 → J0 a = I a := fun a q => by rw [← hq_J0]; exact upI_cell q
          have hmf : MF I J0 := MF.t0 hK e_J0 f_J0
          have hth : J0 90 0 = 0 := by rw [e_J0]; rfl
          have hM_1 : J0 91 = μ := (f_J0 91 (by omega)).trans hM
          have hu : ∀ a, a ≠ 91 → J0 a = J0 a := fun _ _ => rfl
          refine WP.go 9 (And.intro rfl (Exists.intro 91 (And.intro hS.r90_1 (Exists.intro (2 * f) (And.intro (wrp_a (by omega) (by omega)) (Exists.intro (210 + (2 * f)) (And.intro (wrp_a (by omega) (by omega)) (And.intro (And.intro rfl (And.intro (show 0 ≤ 210 + (2 * f) from by omega) (show 210 + (2 * f) < H.2.1 91 from by omega))) (?_)))))))))
          show WP (Call d) 253 P X (33, [some (vr (some 90) 10), some (vi f), some (vi x), some (vi y)], [], ((upI J0 91 (210 + (2 * f)) x), H), 0, 0)
          generalize hq_W33 : (upI J0 91 (210 + (2 * f)) x) = W33
          have e_W33 : W33 91 = (fun j => if j = (210 + (2 * f)) then x else J0 91 j) := by rw [← hq_W33]; exact upI_self _ _ _ _
          have f_W33 : ∀ a, a ≠ 91 → W33 a = J0 a := fun a q => by rw [← hq_W33]; exact upI_cell q
          have hM_W33 : W33 91 = st μ (210 + 2 * f) x := by
            have x1 : (210 + (2 * f)) = 210 + 2 * f := by omega
            have x2 : x = x := by omega
            rw [e_W33, hM_1, x1, x2]; rfl
          have hu_W33 : ∀ a, a ≠ 91 → W33 a = J0 a := fun a q => (f_W33 a q).trans (hu a q)
          refine WP.go 11 (And.intro rfl (Exists.intro 91 (And.intro hS.r90_1 (Exists.intro (2 * f) (And.intro (wrp_a (by omega) (by omega)) (Exists.intro (210 + (2 * f)) (And.intro (wrp_a (by omega) (by omega)) (Exists.intro ((210 + (2 * f)) + 1) (And.intro (wrp_a (by omega) (by omega)) (And.intro (And.intro rfl (And.intro (show 0 ≤ (210 + (2 * f)) + 1 from by omega) (show (210 + (2 * f)) + 1 < H.2.1 91 from by omega))) (?_)))))))))))
          show WP (Call d) 253 P X (44, [some (vr (some 90) 10), some (vi f), some (vi x), some (vi y)], [], ((upI W33 91 ((210 + (2 * f)) + 1) y), H), 0, 0)
          generalize hq_W44 : (upI W33 91 ((210 + (2 * f)) + 1) y) = W44
          have e_W44 : W44 91 = (fun j => if j = ((210 + (2 * f)) + 1) then y else W33 91 j) := by rw [← hq_W44]; exact upI_self _ _ _ _
          have f_W44 : ∀ a, a ≠ 91 → W44 a = W33 a := fun a q => by rw [← hq_W44]; exact upI_cell q
          have hM_W44 : W44 91 = st (st μ (210 + 2 * f) x) (211 + 2 * f) y := by
            have x1 : ((210 + (2 * f)) + 1) = 211 + 2 * f := by omega
            have x2 : y = y := by omega
            rw [e_W44, hM_W33, x1, x2]; rfl
          have hu_W44 : ∀ a, a ≠ 91 → W44 a = J0 a := fun a q => (f_W44 a q).trans (hu_W33 a q)
          refine WP.go 1 (And.intro (And.intro (Nat.le_of_ble_eq_true rfl) (Nat.le_of_ble_eq_true rfl)) (?_))
          show P none (W44, H)
          exact h (by omega) _ (MU.of hmf hu_W44 hM_W44) (by rw [hu_W44 90 (by omega)]; exact hth)
        ·
          show WP (Call d) 253 P X (16, [some (vr (some 90) 10), some (vi f), some (vi x), some (vi y)], [vr (some 90) 10], (I, H), 0, 0)
          refine WP.go 6 (And.intro (And.intro rfl trivial) (And.intro rfl (And.intro (fun (b22 : ¬ 0 < 2) => (absurd b22 (by omega))) (fun (b22 : 0 < 2) => ?_))))
          show WP (Call d) 253 P X (23, [some (vr (some 90) 10), some (vi f), some (vi x), some (vi y)], [], ((upI I 90 0 2), H), 0, 0)
          refine WP.go 1 (And.intro (And.intro (Nat.le_of_ble_eq_true rfl) (Nat.le_of_ble_eq_true rfl)) (?_))
          show P none ((upI I 90 0 2), H)
          exact hk2 (by omega) _ 0 (.inl rfl) (MF.th hK _) (upI_same _ _ _ _)
      ·
        show WP (Call d) 253 P X (11, [some (vr (some 90) 10), some (vi f), some (vi x), some (vi y)], [vr (some 90) 10], (I, H), 0, 0)
        have z10 := bz_e0.mp b10
        refine WP.go 6 (And.intro (And.intro rfl trivial) (And.intro rfl (And.intro (fun (b22 : ¬ 0 < 1) => (absurd b22 (by omega))) (fun (b22 : 0 < 1) => ?_))))
        show WP (Call d) 253 P X (23, [some (vr (some 90) 10), some (vi f), some (vi x), some (vi y)], [], ((upI I 90 0 1), H), 0, 0)
        refine WP.go 1 (And.intro (And.intro (Nat.le_of_ble_eq_true rfl) (Nat.le_of_ble_eq_true rfl)) (?_))
        show P none ((upI I 90 0 1), H)
        exact hk1 (by omega) _ 0 (.inl rfl) (MF.th hK _) (upI_same _ _ _ _)

def lv (v : Int) : Int := if v = 0 then 0 else 1
theorem s_12_paper {d : Nat} {P : Option qV → qH → Prop} {X : Nat → qH → Prop} {I : qI} {H : qS} {μ : Int → Int} (hd : 3 ≤ d) {w hr lt : Int} (hS : Shp H) (hM : I 91 = μ) (hV : IM μ) (hK : MS I) (hk1 : (¬ ((0 ≤ w ∧ w < μ 2) ∧ (0 ≤ hr ∧ hr < 13))) → ∀ (J : qI) (v : Int), (v = 0 ∨ v = 1) → MF I J → J 90 0 = 1 → P (some (vi v)) (J, H)) (hk2 : (((0 ≤ w ∧ w < μ 2) ∧ (0 ≤ hr ∧ hr < 13)) ∧ ¬ μ 7 < 16) → ∀ (J : qI) (v : Int), (v = 0 ∨ v = 1) → MF I J → J 90 0 = 2 → P (some (vi v)) (J, H)) (h : (((0 ≤ w ∧ w < μ 2) ∧ (0 ≤ hr ∧ hr < 13)) ∧ μ 7 < 16) → ∀ J : qI, MU I J (uPap μ w hr (lv lt)) → J 90 0 = 0 → P (some (vi (1 + μ 7))) (J, H)) :
    Call d 261 [vr (some 90) 10, vi w, vi hr, vi lt] (I, H) P X := by
  obtain ⟨d, rfl⟩ : ∃ e, d = e + 1 := ⟨d - 1, by omega⟩
  have hl91 := hS.l91
  obtain ⟨tb, h30⟩ : ∃ tb, I 90 30 = tb := ⟨_, rfl⟩
  obtain ⟨mo, h23⟩ : ∃ mo, I 90 23 = mo := ⟨_, rfl⟩
  have htb : 0 ≤ tb ∧ tb ≤ 29 := by have := hK.2.2.2; omega
  have hmo : (-1 : Int) = -1 ∨ (0 ≤ mo ∧ mo ≤ 48) := .inl rfl
  have h22 := hK.1
  have h29 := hK.2.1
  have v2 := hV.n7
  show WP (Call d) 261 P X (0, [some (vr (some 90) 10), some (vi w), some (vi hr), some (vi lt), none], [], (I, H), 0, 0)
  refine WP.go 4 (And.intro (And.intro (Nat.le_of_ble_eq_true rfl) (Nat.le_of_ble_eq_true rfl)) (And.intro rfl (?_)))
  show Call d 181 [vr (some 90) 10, vi w] (I, H) _ _
  refine s_12_isWindow (by omega) hS hM hV ?_
  show WP (Call d) 261 P X (4, [some (vr (some 90) 10), some (vi w), some (vi hr), some (vi lt), none], [vi (bz (0 ≤ w ∧ w ≤ μ 2 - 1)), vr (some 90) 10], (I, H), 0, 0)
  refine WP.go 1 (And.intro (fun (b4 : bz (0 ≤ w ∧ w ≤ μ 2 - 1) = 0) => ?_) (fun (b4 : ¬ bz (0 ≤ w ∧ w ≤ μ 2 - 1) = 0) => ?_))
  ·
    show WP (Call d) 261 P X (10, [some (vr (some 90) 10), some (vi w), some (vi hr), some (vi lt), none], [vr (some 90) 10], (I, H), 0, 0)
    have z4 := bz_e0.mp b4
    refine WP.go 6 (And.intro (And.intro rfl trivial) (And.intro rfl (And.intro (fun (b24 : ¬ 0 < 1) => (absurd b24 (by omega))) (fun (b24 : 0 < 1) => ?_))))
    show WP (Call d) 261 P X (25, [some (vr (some 90) 10), some (vi w), some (vi hr), some (vi lt), none], [], ((upI I 90 0 1), H), 0, 0)
    refine WP.go 2 (And.intro (And.intro (Nat.le_of_ble_eq_true rfl) (Nat.le_of_ble_eq_true rfl)) (And.intro trivial (?_)))
    show P (some (vi 0)) ((upI I 90 0 1), H)
    exact hk1 (by omega) _ 0 (.inl rfl) (MF.th hK _) (upI_same _ _ _ _)
  ·
    show WP (Call d) 261 P X (5, [some (vr (some 90) 10), some (vi w), some (vi hr), some (vi lt), none], [vr (some 90) 10], (I, H), 0, 0)
    have z4 := bz_e1.mp b4
    refine WP.go 4 (And.intro (And.intro (Nat.le_of_ble_eq_true rfl) (Nat.le_of_ble_eq_true rfl)) (And.intro rfl (?_)))
    show Call d 177 [vi hr, vi 0, vi 12] (I, H) _ _
    refine s_12_isIn (by omega)  ?_
    show WP (Call d) 261 P X (9, [some (vr (some 90) 10), some (vi w), some (vi hr), some (vi lt), none], [vi (bz (0 ≤ hr ∧ hr ≤ 12)), vr (some 90) 10], (I, H), 0, 0)
    refine WP.go 1 (And.intro (fun (b9 : ¬ bz (0 ≤ hr ∧ hr ≤ 12) = 0) => ?_) (fun (b9 : bz (0 ≤ hr ∧ hr ≤ 12) = 0) => ?_))
    ·
      show WP (Call d) 261 P X (12, [some (vr (some 90) 10), some (vi w), some (vi hr), some (vi lt), none], [vr (some 90) 10], (I, H), 0, 0)
      have z9 := bz_e1.mp b9
      refine WP.go 4 (And.intro rfl (Exists.intro 91 (And.intro hS.r90_1 (And.intro (And.intro rfl (And.intro (show 0 ≤ 7 from by omega) (show 7 < H.2.1 91 from by omega))) (?_)))))
      refine rw_i (Q := fun x9 => WP (Call d) 261 P X (16, [some (vr (some 90) 10), some (vi w), some (vi hr), some (vi lt), none], [vi x9, vr (some 90) 10], (I, H), 0, 0)) (congrFun hM _) ?_
      show WP (Call d) 261 P X (16, [some (vr (some 90) 10), some (vi w), some (vi hr), some (vi lt), none], [vi (μ 7), vr (some 90) 10], (I, H), 0, 0)
      refine WP.go 2 (And.intro (fun (b17 : ¬ μ 7 = 16) => ?_) (fun (b17 : μ 7 = 16) => ?_))
      ·
        show WP (Call d) 261 P X (20, [some (vr (some 90) 10), some (vi w), some (vi hr), some (vi lt), none], [vr (some 90) 10], (I, H), 0, 0)
        refine WP.go 5 (And.intro (And.intro rfl trivial) (And.intro rfl (And.intro (fun (b24 : ¬ 0 < 0) => ?_) (fun (b24 : 0 < 0) => (absurd b24 (by omega))))))
        show WP (Call d) 261 P X (27, [some (vr (some 90) 10), some (vi w), some (vi hr), some (vi lt), none], [], ((upI I 90 0 0), H), 0, 0)
        generalize hq_J0 : (upI I 90 0 0) = J0
        have e_J0 : J0 90 = (fun j => if j = 0 then 0 else I 90 j) := by rw [← hq_J0]; exact upI_self _ _ _ _
        have f_J0 : ∀ a, a ≠ 90 → J0 a = I a := fun a q => by rw [← hq_J0]; exact upI_cell q
        have hmf : MF I J0 := MF.t0 hK e_J0 f_J0
        have hth : J0 90 0 = 0 := by rw [e_J0]; rfl
        have hM_1 : J0 91 = μ := (f_J0 91 (by omega)).trans hM
        have hu : ∀ a, a ≠ 91 → J0 a = J0 a := fun _ _ => rfl
        refine WP.go 6 (And.intro rfl (Exists.intro 91 (And.intro hS.r90_1 (And.intro (And.intro rfl (And.intro (show 0 ≤ 7 from by omega) (show 7 < H.2.1 91 from by omega))) (?_)))))
        refine rw_i (Q := fun x9 => WP (Call d) 261 P X (33, [some (vr (some 90) 10), some (vi w), some (vi hr), some (vi lt), none], [vi x9, vi 3, vi 458], (J0, H), 0, 0)) (congrFun hM_1 _) ?_
        show WP (Call d) 261 P X (33, [some (vr (some 90) 10), some (vi w), some (vi hr), some (vi lt), none], [vi (μ 7), vi 3, vi 458], (J0, H), 0, 0)
        refine WP.go 8 (Exists.intro (3 * (μ 7)) (And.intro (wrp_a (by omega) (by omega)) (Exists.intro (458 + (3 * (μ 7))) (And.intro (wrp_a (by omega) (by omega)) (And.intro rfl (Exists.intro 91 (And.intro hS.r90_1 (And.intro (And.intro rfl (And.intro (show 0 ≤ 458 + (3 * (μ 7)) from by omega) (show 458 + (3 * (μ 7)) < H.2.1 91 from by omega))) (?_)))))))))
        show WP (Call d) 261 P X (41, [some (vr (some 90) 10), some (vi w), some (vi hr), some (vi lt), some (vi (458 + (3 * (μ 7))))], [], ((upI J0 91 (458 + (3 * (μ 7))) w), H), 0, 0)
        generalize hq_W41 : (upI J0 91 (458 + (3 * (μ 7))) w) = W41
        have e_W41 : W41 91 = (fun j => if j = (458 + (3 * (μ 7))) then w else J0 91 j) := by rw [← hq_W41]; exact upI_self _ _ _ _
        have f_W41 : ∀ a, a ≠ 91 → W41 a = J0 a := fun a q => by rw [← hq_W41]; exact upI_cell q
        have hM_W41 : W41 91 = st μ (458 + 3 * μ 7) w := by
          have x1 : (458 + (3 * (μ 7))) = 458 + 3 * μ 7 := by omega
          have x2 : w = w := by omega
          rw [e_W41, hM_1, x1, x2]; rfl
        have hu_W41 : ∀ a, a ≠ 91 → W41 a = J0 a := fun a q => (f_W41 a q).trans (hu a q)
        refine WP.go 7 (And.intro rfl (Exists.intro 91 (And.intro hS.r90_1 (Exists.intro ((458 + (3 * (μ 7))) + 1) (And.intro (wrp_a (by omega) (by omega)) (And.intro (And.intro rfl (And.intro (show 0 ≤ (458 + (3 * (μ 7))) + 1 from by omega) (show (458 + (3 * (μ 7))) + 1 < H.2.1 91 from by omega))) (?_)))))))
        show WP (Call d) 261 P X (48, [some (vr (some 90) 10), some (vi w), some (vi hr), some (vi lt), some (vi (458 + (3 * (μ 7))))], [], ((upI W41 91 ((458 + (3 * (μ 7))) + 1) hr), H), 0, 0)
        generalize hq_W48 : (upI W41 91 ((458 + (3 * (μ 7))) + 1) hr) = W48
        have e_W48 : W48 91 = (fun j => if j = ((458 + (3 * (μ 7))) + 1) then hr else W41 91 j) := by rw [← hq_W48]; exact upI_self _ _ _ _
        have f_W48 : ∀ a, a ≠ 91 → W48 a = W41 a := fun a q => by rw [← hq_W48]; exact upI_cell q
        have hM_W48 : W48 91 = st (st μ (458 + 3 * μ 7) w) (459 + 3 * μ 7) hr := by
          have x1 : ((458 + (3 * (μ 7))) + 1) = 459 + 3 * μ 7 := by omega
          have x2 : hr = hr := by omega
          rw [e_W48, hM_W41, x1, x2]; rfl
        have hu_W48 : ∀ a, a ≠ 91 → W48 a = J0 a := fun a q => (f_W48 a q).trans (hu_W41 a q)
        refine WP.go 7 (And.intro rfl (Exists.intro 91 (And.intro hS.r90_1 (Exists.intro ((458 + (3 * (μ 7))) + 2) (And.intro (wrp_a (by omega) (by omega)) (And.intro (fun (b54 : lt = 0) => ?_) (fun (b54 : ¬ lt = 0) => ?_)))))))
        ·
          show WP (Call d) 261 P X (57, [some (vr (some 90) 10), some (vi w), some (vi hr), some (vi lt), some (vi (458 + (3 * (μ 7))))], [vi ((458 + (3 * (μ 7))) + 2), vr (some 91) 11], (W48, H), 0, 0)
          refine WP.go 2 (And.intro (And.intro rfl (And.intro (show 0 ≤ (458 + (3 * (μ 7))) + 2 from by omega) (show (458 + (3 * (μ 7))) + 2 < H.2.1 91 from by omega))) (?_))
          show WP (Call d) 261 P X (59, [some (vr (some 90) 10), some (vi w), some (vi hr), some (vi lt), some (vi (458 + (3 * (μ 7))))], [], ((upI W48 91 ((458 + (3 * (μ 7))) + 2) 0), H), 0, 0)
          generalize hq_W59 : (upI W48 91 ((458 + (3 * (μ 7))) + 2) 0) = W59
          have e_W59 : W59 91 = (fun j => if j = ((458 + (3 * (μ 7))) + 2) then 0 else W48 91 j) := by rw [← hq_W59]; exact upI_self _ _ _ _
          have f_W59 : ∀ a, a ≠ 91 → W59 a = W48 a := fun a q => by rw [← hq_W59]; exact upI_cell q
          have hM_W59 : W59 91 = st (st (st μ (458 + 3 * μ 7) w) (459 + 3 * μ 7) hr) (460 + 3 * μ 7) 0 := by
            have x1 : ((458 + (3 * (μ 7))) + 2) = 460 + 3 * μ 7 := by omega
            have x2 : (0 : Int) = 0 := by omega
            rw [e_W59, hM_W48, x1, x2]; rfl
          have hu_W59 : ∀ a, a ≠ 91 → W59 a = J0 a := fun a q => (f_W59 a q).trans (hu_W48 a q)
          refine WP.go 5 (And.intro rfl (Exists.intro 91 (And.intro hS.r90_1 (And.intro (And.intro rfl (And.intro (show 0 ≤ 7 from by omega) (show 7 < H.2.1 91 from by omega))) (?_)))))
          refine rw_i (Q := fun x9 => WP (Call d) 261 P X (64, [some (vr (some 90) 10), some (vi w), some (vi hr), some (vi lt), some (vi (458 + (3 * (μ 7))))], [vi x9, vi 7, vr (some 91) 11], (W59, H), 0, 0)) (show W59 91 7 = μ 7 from (congrFun hM_W59 _).trans (((st_n (by omega)).trans ((st_n (by omega)).trans ((st_n (by omega)).trans (congrArg μ (by omega))))))) ?_
          show WP (Call d) 261 P X (64, [some (vr (some 90) 10), some (vi w), some (vi hr), some (vi lt), some (vi (458 + (3 * (μ 7))))], [vi (μ 7), vi 7, vr (some 91) 11], (W59, H), 0, 0)
          refine WP.go 3 (Exists.intro ((μ 7) + 1) (And.intro (wrp_a (by omega) (by omega)) (And.intro (And.intro rfl (And.intro (show 0 ≤ 7 from by omega) (show 7 < H.2.1 91 from by omega))) (?_))))
          show WP (Call d) 261 P X (67, [some (vr (some 90) 10), some (vi w), some (vi hr), some (vi lt), some (vi (458 + (3 * (μ 7))))], [], ((upI W59 91 7 ((μ 7) + 1)), H), 0, 0)
          generalize hq_W67 : (upI W59 91 7 ((μ 7) + 1)) = W67
          have e_W67 : W67 91 = (fun j => if j = 7 then ((μ 7) + 1) else W59 91 j) := by rw [← hq_W67]; exact upI_self _ _ _ _
          have f_W67 : ∀ a, a ≠ 91 → W67 a = W59 a := fun a q => by rw [← hq_W67]; exact upI_cell q
          have hM_W67 : W67 91 = st (st (st (st μ (458 + 3 * μ 7) w) (459 + 3 * μ 7) hr) (460 + 3 * μ 7) 0) 7 (1 + μ 7) := by
            have x1 : (7 : Int) = 7 := by omega
            have x2 : ((μ 7) + 1) = 1 + μ 7 := by omega
            rw [e_W67, hM_W59, x1, x2]; rfl
          have hu_W67 : ∀ a, a ≠ 91 → W67 a = J0 a := fun a q => (f_W67 a q).trans (hu_W59 a q)
          refine WP.go 4 (And.intro rfl (Exists.intro 91 (And.intro hS.r90_1 (And.intro (And.intro rfl (And.intro (show 0 ≤ 7 from by omega) (show 7 < H.2.1 91 from by omega))) (?_)))))
          refine rw_i (Q := fun x9 => WP (Call d) 261 P X (71, [some (vr (some 90) 10), some (vi w), some (vi hr), some (vi lt), some (vi (458 + (3 * (μ 7))))], [vi x9], (W67, H), 0, 0)) (show W67 91 7 = (1 + μ 7) from (congrFun hM_W67 _).trans ((st_e _ _ _))) ?_
          show WP (Call d) 261 P X (71, [some (vr (some 90) 10), some (vi w), some (vi hr), some (vi lt), some (vi (458 + (3 * (μ 7))))], [vi (1 + μ 7)], (W67, H), 0, 0)
          refine WP.go 1 (And.intro (And.intro (Nat.le_of_ble_eq_true rfl) (Nat.le_of_ble_eq_true rfl)) (And.intro trivial (?_)))
          show P (some (vi (1 + μ 7))) (W67, H)
          exact fin_i (by omega) (h (by omega) _ (MU.of hmf hu_W67 (by rw [show lv lt = 0 from if_pos b54]; exact hM_W67)) (by rw [hu_W67 90 (by omega)]; exact hth))
        ·
          show WP (Call d) 261 P X (55, [some (vr (some 90) 10), some (vi w), some (vi hr), some (vi lt), some (vi (458 + (3 * (μ 7))))], [vi ((458 + (3 * (μ 7))) + 2), vr (some 91) 11], (W48, H), 0, 0)
          refine WP.go 3 (And.intro (And.intro rfl (And.intro (show 0 ≤ (458 + (3 * (μ 7))) + 2 from by omega) (show (458 + (3 * (μ 7))) + 2 < H.2.1 91 from by omega))) (?_))
          show WP (Call d) 261 P X (59, [some (vr (some 90) 10), some (vi w), some (vi hr), some (vi lt), some (vi (458 + (3 * (μ 7))))], [], ((upI W48 91 ((458 + (3 * (μ 7))) + 2) 1), H), 0, 0)
          generalize hq_W59 : (upI W48 91 ((458 + (3 * (μ 7))) + 2) 1) = W59
          have e_W59 : W59 91 = (fun j => if j = ((458 + (3 * (μ 7))) + 2) then 1 else W48 91 j) := by rw [← hq_W59]; exact upI_self _ _ _ _
          have f_W59 : ∀ a, a ≠ 91 → W59 a = W48 a := fun a q => by rw [← hq_W59]; exact upI_cell q
          have hM_W59 : W59 91 = st (st (st μ (458 + 3 * μ 7) w) (459 + 3 * μ 7) hr) (460 + 3 * μ 7) 1 := by
            have x1 : ((458 + (3 * (μ 7))) + 2) = 460 + 3 * μ 7 := by omega
            have x2 : (1 : Int) = 1 := by omega
            rw [e_W59, hM_W48, x1, x2]; rfl
          have hu_W59 : ∀ a, a ≠ 91 → W59 a = J0 a := fun a q => (f_W59 a q).trans (hu_W48 a q)
          refine WP.go 5 (And.intro rfl (Exists.intro 91 (And.intro hS.r90_1 (And.intro (And.intro rfl (And.intro (show 0 ≤ 7 from by omega) (show 7 < H.2.1 91 from by omega))) (?_)))))
          refine rw_i (Q := fun x9 => WP (Call d) 261 P X (64, [some (vr (some 90) 10), some (vi w), some (vi hr), some (vi lt), some (vi (458 + (3 * (μ 7))))], [vi x9, vi 7, vr (some 91) 11], (W59, H), 0, 0)) (show W59 91 7 = μ 7 from (congrFun hM_W59 _).trans (((st_n (by omega)).trans ((st_n (by omega)).trans ((st_n (by omega)).trans (congrArg μ (by omega))))))) ?_
          show WP (Call d) 261 P X (64, [some (vr (some 90) 10), some (vi w), some (vi hr), some (vi lt), some (vi (458 + (3 * (μ 7))))], [vi (μ 7), vi 7, vr (some 91) 11], (W59, H), 0, 0)
          refine WP.go 3 (Exists.intro ((μ 7) + 1) (And.intro (wrp_a (by omega) (by omega)) (And.intro (And.intro rfl (And.intro (show 0 ≤ 7 from by omega) (show 7 < H.2.1 91 from by omega))) (?_))))
          show WP (Call d) 261 P X (67, [some (vr (some 90) 10), some (vi w), some (vi hr), some (vi lt), some (vi (458 + (3 * (μ 7))))], [], ((upI W59 91 7 ((μ 7) + 1)), H), 0, 0)
          generalize hq_W67 : (upI W59 91 7 ((μ 7) + 1)) = W67
          have e_W67 : W67 91 = (fun j => if j = 7 then ((μ 7) + 1) else W59 91 j) := by rw [← hq_W67]; exact upI_self _ _ _ _
          have f_W67 : ∀ a, a ≠ 91 → W67 a = W59 a := fun a q => by rw [← hq_W67]; exact upI_cell q
          have hM_W67 : W67 91 = st (st (st (st μ (458 + 3 * μ 7) w) (459 + 3 * μ 7) hr) (460 + 3 * μ 7) 1) 7 (1 + μ 7) := by
            have x1 : (7 : Int) = 7 := by omega
            have x2 : ((μ 7) + 1) = 1 + μ 7 := by omega
            rw [e_W67, hM_W59, x1, x2]; rfl
          have hu_W67 : ∀ a, a ≠ 91 → W67 a = J0 a := fun a q => (f_W67 a q).trans (hu_W59 a q)
          refine WP.go 4 (And.intro rfl (Exists.intro 91 (And.intro hS.r90_1 (And.intro (And.intro rfl (And.intro (show 0 ≤ 7 from by omega) (show 7 < H.2.1 91 from by omega))) (?_)))))
          refine rw_i (Q := fun x9 => WP (Call d) 261 P X (71, [some (vr (some 90) 10), some (vi w), some (vi hr), some (vi lt), some (vi (458 + (3 * (μ 7))))], [vi x9], (W67, H), 0, 0)) (show W67 91 7 = (1 + μ 7) from (congrFun hM_W67 _).trans ((st_e _ _ _))) ?_
          show WP (Call d) 261 P X (71, [some (vr (some 90) 10), some (vi w), some (vi hr), some (vi lt), some (vi (458 + (3 * (μ 7))))], [vi (1 + μ 7)], (W67, H), 0, 0)
          refine WP.go 1 (And.intro (And.intro (Nat.le_of_ble_eq_true rfl) (Nat.le_of_ble_eq_true rfl)) (And.intro trivial (?_)))
          show P (some (vi (1 + μ 7))) (W67, H)
          exact fin_i (by omega) (h (by omega) _ (MU.of hmf hu_W67 (by rw [show lv lt = 1 from if_neg b54]; exact hM_W67)) (by rw [hu_W67 90 (by omega)]; exact hth))
      ·
        show WP (Call d) 261 P X (18, [some (vr (some 90) 10), some (vi w), some (vi hr), some (vi lt), none], [vr (some 90) 10], (I, H), 0, 0)
        refine WP.go 6 (And.intro (And.intro rfl trivial) (And.intro rfl (And.intro (fun (b24 : ¬ 0 < 2) => (absurd b24 (by omega))) (fun (b24 : 0 < 2) => ?_))))
        show WP (Call d) 261 P X (25, [some (vr (some 90) 10), some (vi w), some (vi hr), some (vi lt), none], [], ((upI I 90 0 2), H), 0, 0)
        refine WP.go 2 (And.intro (And.intro (Nat.le_of_ble_eq_true rfl) (Nat.le_of_ble_eq_true rfl)) (And.intro trivial (?_)))
        show P (some (vi 0)) ((upI I 90 0 2), H)
        exact hk2 (by omega) _ 0 (.inl rfl) (MF.th hK _) (upI_same _ _ _ _)
    ·
      show WP (Call d) 261 P X (10, [some (vr (some 90) 10), some (vi w), some (vi hr), some (vi lt), none], [vr (some 90) 10], (I, H), 0, 0)
      have z9 := bz_e0.mp b9
      refine WP.go 6 (And.intro (And.intro rfl trivial) (And.intro rfl (And.intro (fun (b24 : ¬ 0 < 1) => (absurd b24 (by omega))) (fun (b24 : 0 < 1) => ?_))))
      show WP (Call d) 261 P X (25, [some (vr (some 90) 10), some (vi w), some (vi hr), some (vi lt), none], [], ((upI I 90 0 1), H), 0, 0)
      refine WP.go 2 (And.intro (And.intro (Nat.le_of_ble_eq_true rfl) (Nat.le_of_ble_eq_true rfl)) (And.intro trivial (?_)))
      show P (some (vi 0)) ((upI I 90 0 1), H)
      exact hk1 (by omega) _ 0 (.inl rfl) (MF.th hK _) (upI_same _ _ _ _)

theorem s_12_push {d : Nat} {P : Option qV → qH → Prop} {X : Nat → qH → Prop} {I : qI} {H : qS} {μ : Int → Int} (hd : 4 ≤ d) {w x y : Int} (hS : Shp H) (hM : I 91 = μ) (hV : IM μ) (hK : MS I) (hk1 : (¬ ((0 ≤ w ∧ w < μ 2) ∧ (0 ≤ x ∧ x < 100) ∧ (0 ≤ y ∧ y < 100))) → ∀ (J : qI) (v : Int), (v = 0 ∨ v = 1) → MF I J → J 90 0 = 1 → P (some (vi v)) (J, H)) (h : ((0 ≤ w ∧ w < μ 2) ∧ (0 ≤ x ∧ x < 100) ∧ (0 ≤ y ∧ y < 100)) → ∀ J : qI, MF I J → J 90 0 = 0 → P (some (vi (fI (fun m => LITp μ (ANG μ x m) (HT μ) w 6 y) 0 49))) (J, H)) :
    Call d 263 [vr (some 90) 10, vi w, vi x, vi y] (I, H) P X := by
  obtain ⟨d, rfl⟩ : ∃ e, d = e + 1 := ⟨d - 1, by omega⟩
  obtain ⟨tb, h30⟩ : ∃ tb, I 90 30 = tb := ⟨_, rfl⟩
  obtain ⟨mo, h23⟩ : ∃ mo, I 90 23 = mo := ⟨_, rfl⟩
  have htb : 0 ≤ tb ∧ tb ≤ 29 := by have := hK.2.2.2; omega
  have hmo : (-1 : Int) = -1 ∨ (0 ≤ mo ∧ mo ≤ 48) := .inl rfl
  have h22 := hK.1
  have h29 := hK.2.1
  show WP (Call d) 263 P X (0, [some (vr (some 90) 10), some (vi w), some (vi x), some (vi y), none, none], [], (I, H), 0, 0)
  refine WP.go 4 (And.intro (And.intro (Nat.le_of_ble_eq_true rfl) (Nat.le_of_ble_eq_true rfl)) (And.intro rfl (?_)))
  show Call d 181 [vr (some 90) 10, vi w] (I, H) _ _
  refine s_12_isWindow (by omega) hS hM hV ?_
  show WP (Call d) 263 P X (4, [some (vr (some 90) 10), some (vi w), some (vi x), some (vi y), none, none], [vi (bz (0 ≤ w ∧ w ≤ μ 2 - 1)), vr (some 90) 10], (I, H), 0, 0)
  refine WP.go 1 (And.intro (fun (b4 : bz (0 ≤ w ∧ w ≤ μ 2 - 1) = 0) => ?_) (fun (b4 : ¬ bz (0 ≤ w ∧ w ≤ μ 2 - 1) = 0) => ?_))
  ·
    show WP (Call d) 263 P X (11, [some (vr (some 90) 10), some (vi w), some (vi x), some (vi y), none, none], [vr (some 90) 10], (I, H), 0, 0)
    have z4 := bz_e0.mp b4
    refine WP.go 6 (And.intro (And.intro rfl trivial) (And.intro rfl (And.intro (fun (b17 : ¬ 0 < 1) => (absurd b17 (by omega))) (fun (b17 : 0 < 1) => ?_))))
    show WP (Call d) 263 P X (18, [some (vr (some 90) 10), some (vi w), some (vi x), some (vi y), none, none], [], ((upI I 90 0 1), H), 0, 0)
    refine WP.go 2 (And.intro (And.intro (Nat.le_of_ble_eq_true rfl) (Nat.le_of_ble_eq_true rfl)) (And.intro trivial (?_)))
    show P (some (vi 0)) ((upI I 90 0 1), H)
    exact hk1 (by omega) _ 0 (.inl rfl) (MF.th hK _) (upI_same _ _ _ _)
  ·
    show WP (Call d) 263 P X (5, [some (vr (some 90) 10), some (vi w), some (vi x), some (vi y), none, none], [vr (some 90) 10], (I, H), 0, 0)
    have z4 := bz_e1.mp b4
    refine WP.go 2 (And.intro (And.intro (Nat.le_of_ble_eq_true rfl) (Nat.le_of_ble_eq_true rfl)) (And.intro rfl (?_)))
    show Call d 179 [vi x] (I, H) _ _
    refine s_12_isYear (by omega)  ?_
    show WP (Call d) 263 P X (7, [some (vr (some 90) 10), some (vi w), some (vi x), some (vi y), none, none], [vi (bz (0 ≤ x ∧ x ≤ 99)), vr (some 90) 10], (I, H), 0, 0)
    refine WP.go 1 (And.intro (fun (b7 : bz (0 ≤ x ∧ x ≤ 99) = 0) => ?_) (fun (b7 : ¬ bz (0 ≤ x ∧ x ≤ 99) = 0) => ?_))
    ·
      show WP (Call d) 263 P X (11, [some (vr (some 90) 10), some (vi w), some (vi x), some (vi y), none, none], [vr (some 90) 10], (I, H), 0, 0)
      have z7 := bz_e0.mp b7
      refine WP.go 6 (And.intro (And.intro rfl trivial) (And.intro rfl (And.intro (fun (b17 : ¬ 0 < 1) => (absurd b17 (by omega))) (fun (b17 : 0 < 1) => ?_))))
      show WP (Call d) 263 P X (18, [some (vr (some 90) 10), some (vi w), some (vi x), some (vi y), none, none], [], ((upI I 90 0 1), H), 0, 0)
      refine WP.go 2 (And.intro (And.intro (Nat.le_of_ble_eq_true rfl) (Nat.le_of_ble_eq_true rfl)) (And.intro trivial (?_)))
      show P (some (vi 0)) ((upI I 90 0 1), H)
      exact hk1 (by omega) _ 0 (.inl rfl) (MF.th hK _) (upI_same _ _ _ _)
    ·
      show WP (Call d) 263 P X (8, [some (vr (some 90) 10), some (vi w), some (vi x), some (vi y), none, none], [vr (some 90) 10], (I, H), 0, 0)
      have z7 := bz_e1.mp b7
      refine WP.go 2 (And.intro (And.intro (Nat.le_of_ble_eq_true rfl) (Nat.le_of_ble_eq_true rfl)) (And.intro rfl (?_)))
      show Call d 179 [vi y] (I, H) _ _
      refine s_12_isYear (by omega)  ?_
      show WP (Call d) 263 P X (10, [some (vr (some 90) 10), some (vi w), some (vi x), some (vi y), none, none], [vi (bz (0 ≤ y ∧ y ≤ 99)), vr (some 90) 10], (I, H), 0, 0)
      refine WP.go 1 (And.intro (fun (b10 : ¬ bz (0 ≤ y ∧ y ≤ 99) = 0) => ?_) (fun (b10 : bz (0 ≤ y ∧ y ≤ 99) = 0) => ?_))
      ·
        show WP (Call d) 263 P X (13, [some (vr (some 90) 10), some (vi w), some (vi x), some (vi y), none, none], [vr (some 90) 10], (I, H), 0, 0)
        have z10 := bz_e1.mp b10
        refine WP.go 5 (And.intro (And.intro rfl trivial) (And.intro rfl (And.intro (fun (b17 : ¬ 0 < 0) => ?_) (fun (b17 : 0 < 0) => (absurd b17 (by omega))))))
        show WP (Call d) 263 P X (20, [some (vr (some 90) 10), some (vi w), some (vi x), some (vi y), none, none], [], ((upI I 90 0 0), H), 0, 0)
        generalize hq_J0 : (upI I 90 0 0) = J0
        have e_J0 : J0 90 = (fun j => if j = 0 then 0 else I 90 j) := by rw [← hq_J0]; exact upI_self _ _ _ _
        have f_J0 : ∀ a, a ≠ 90 → J0 a = I a := fun a q => by rw [← hq_J0]; exact upI_cell q
        have hth : J0 90 0 = 0 := by rw [e_J0]; rfl
        have hm0 : MF I J0 := MF.t0 hK e_J0 f_J0
        refine WP.go 4 ?_
        show WP (Call d) 263 P X (24, [some (vr (some 90) 10), some (vi w), some (vi x), some (vi y), some (vi (-1)), some (vi 0)], [], (J0, H), 0, 0)
        have lp24 : ∀ (n9 : Nat) (K : qI) (g9 : Int) (n : Int) (hm : 49 - n < (n9 : Int)) (iv0 : 0 ≤ n ∧ n ≤ 49) (iv1 : (g9 = -1 ∧ fI (fun m => LITp μ (ANG μ x m) (HT μ) w 6 y) 0 49 = fI (fun m => LITp μ (ANG μ x m) (HT μ) w 6 y) n 49) ∨ (0 ≤ g9 ∧ fI (fun m => LITp μ (ANG μ x m) (HT μ) w 6 y) 0 49 = g9)) (iv2 : (∀ a, a ≠ 90 → a ≠ 96 → K a = J0 a) ∧ (∀ s, s ≠ 22 → s ≠ 23 → K 90 s = J0 90 s) ∧ (0 ≤ K 90 23 ∧ K 90 23 ≤ 48)), WP (Call d) 263 P X (24, [some (vr (some 90) 10), some (vi w), some (vi x), some (vi y), some (vi g9), some (vi n)], [], (K, H), 0, 0) := by
          intro n9
          induction n9 with
          | zero => intro K g9 n hm iv0 iv1 iv2; exact absurd hm (by omega)
          | succ n9 ih24 =>
            intro K g9 n hm iv0 iv1 iv2
            refine WP.go 3 (And.intro (fun (b26 : 48 < n) => ?_) (fun (b26 : ¬ 48 < n) => ?_))
            ·
              show WP (Call d) 263 P X (48, [some (vr (some 90) 10), some (vi w), some (vi x), some (vi y), some (vi g9), some (vi n)], [], (K, H), 0, 0)
              refine WP.go 5 (And.intro (And.intro rfl trivial) (And.intro (And.intro (Nat.le_of_ble_eq_true rfl) (Nat.le_of_ble_eq_true rfl)) (And.intro trivial (?_))))
              show P (some (vi g9)) ((upI K 90 22 (-1)), H)
              exact fin_i (iv1.elim (fun z => z.1.trans (z.2.trans (fI_nil (by omega))).symm) (fun z => z.2.symm)) (h (by omega) _ ⟨fun a q => by rw [upI_cell (by omega), iv2.1 a (by omega) (by omega)]; exact hm0.1 a q, fun s q => by rw [upI_at (.inr (by omega)), iv2.2.1 s (by omega) (by omega)]; exact hm0.2.1 s q, upI_same _ _ _ _, by rw [upI_at (.inr (by omega)), iv2.2.1 29 (by omega) (by omega), e_J0]; exact h29, by rw [upI_at (.inr (by omega))]; exact iv2.2.2, by rw [upI_at (.inr (by omega)), iv2.2.1 30 (by omega) (by omega), e_J0]; have := hK.2.2.2; exact this⟩ (by rw [upI_at (.inr (by omega)), iv2.2.1 0 (by omega) (by omega)]; exact hth))
            ·
              show WP (Call d) 263 P X (27, [some (vr (some 90) 10), some (vi w), some (vi x), some (vi y), some (vi g9), some (vi n)], [], (K, H), 0, 0)
              refine WP.go 3 (And.intro (fun (b29 : ¬ g9 = (-1)) => ?_) (fun (b29 : g9 = (-1)) => ?_))
              ·
                show WP (Call d) 263 P X (48, [some (vr (some 90) 10), some (vi w), some (vi x), some (vi y), some (vi g9), some (vi n)], [], (K, H), 0, 0)
                refine WP.go 5 (And.intro (And.intro rfl trivial) (And.intro (And.intro (Nat.le_of_ble_eq_true rfl) (Nat.le_of_ble_eq_true rfl)) (And.intro trivial (?_))))
                show P (some (vi g9)) ((upI K 90 22 (-1)), H)
                exact fin_i (iv1.elim (fun z => by omega) (fun z => z.2.symm)) (h (by omega) _ ⟨fun a q => by rw [upI_cell (by omega), iv2.1 a (by omega) (by omega)]; exact hm0.1 a q, fun s q => by rw [upI_at (.inr (by omega)), iv2.2.1 s (by omega) (by omega)]; exact hm0.2.1 s q, upI_same _ _ _ _, by rw [upI_at (.inr (by omega)), iv2.2.1 29 (by omega) (by omega), e_J0]; exact h29, by rw [upI_at (.inr (by omega))]; exact iv2.2.2, by rw [upI_at (.inr (by omega)), iv2.2.1 30 (by omega) (by omega), e_J0]; have := hK.2.2.2; exact this⟩ (by rw [upI_at (.inr (by omega)), iv2.2.1 0 (by omega) (by omega)]; exact hth))
              ·
                show WP (Call d) 263 P X (30, [some (vr (some 90) 10), some (vi w), some (vi x), some (vi y), some (vi g9), some (vi n)], [], (K, H), 0, 0)
                refine WP.go 3 (And.intro (And.intro rfl trivial) (?_))
                show WP (Call d) 263 P X (33, [some (vr (some 90) 10), some (vi w), some (vi x), some (vi y), some (vi g9), some (vi n)], [], ((upI K 90 22 x), H), 0, 0)
                generalize hq_J1 : (upI K 90 22 x) = J1
                have e_J1 : J1 90 = (fun j => if j = 22 then x else K 90 j) := by rw [← hq_J1]; exact upI_self _ _ _ _
                have f_J1 : ∀ a, a ≠ 90 → J1 a = K a := fun a q => by rw [← hq_J1]; exact upI_cell q
                refine WP.go 3 (And.intro (And.intro rfl trivial) (?_))
                show WP (Call d) 263 P X (36, [some (vr (some 90) 10), some (vi w), some (vi x), some (vi y), some (vi g9), some (vi n)], [], ((upI J1 90 23 n), H), 0, 0)
                generalize hq_J2 : (upI J1 90 23 n) = J2
                have e_J2 : J2 90 = (fun j => if j = 23 then n else J1 90 j) := by rw [← hq_J2]; exact upI_self _ _ _ _
                have f_J2 : ∀ a, a ≠ 90 → J2 a = J1 a := fun a q => by rw [← hq_J2]; exact upI_cell q
                refine WP.go 2 (And.intro (And.intro (Nat.le_of_ble_eq_true rfl) (Nat.le_of_ble_eq_true rfl)) (And.intro rfl (?_)))
                show Call d 210 [vr (some 90) 10] (J2, H) _ _
                refine s_12_turn (by omega) hS (by rw [f_J2 91 (by omega), f_J1 91 (by omega), iv2.1 91 (by omega) (by omega), f_J0 91 (by omega)]; exact hM) hV (show J2 90 22 = x by rw [e_J2]; show J1 90 22 = x; rw [e_J1]; rfl) (show J2 90 23 = n by rw [e_J2]; rfl) (.inr (by omega)) (fun J37 e37 f37 => ?_)
                show WP (Call d) 263 P X (38, [some (vr (some 90) 10), some (vi w), some (vi x), some (vi y), some (vi g9), some (vi n)], [], (J37, H), 0, 0)
                have eA : ∀ j, 0 ≤ j → j < 100 → J37 96 j = ANG μ x n j := e37
                have hA3 : ∀ y, 0 ≤ y → y < 100 → 0 ≤ J37 96 y ∧ J37 96 y < 96 := fun y q1 q2 => by rw [eA y q1 q2]; exact ANG_bd hV _ _ _
                have hl : LITp μ (J37 96) (HTC μ (-1) tb) w 6 y ↔ LITp μ (ANG μ x n) (HT μ) w 6 y := LITp_congr (eA y (by omega) (by omega)) (HT_i hV tb)
                have hf : g9 = -1 → fI (fun m => LITp μ (ANG μ x m) (HT μ) w 6 y) 0 49 = fI (fun m => LITp μ (ANG μ x m) (HT μ) w 6 y) n 49 := fun q => iv1.elim (fun z => z.2) (fun z => by omega)
                refine WP.go 5 (And.intro (And.intro (Nat.le_of_ble_eq_true rfl) (Nat.le_of_ble_eq_true rfl)) (And.intro rfl (?_)))
                show Call d 218 [vr (some 90) 10, vi w, vi 6, vi y] (J37, H) _ _
                refine s_12_isLit (by omega) hS (by rw [f37 91 (by omega), f_J2 91 (by omega), f_J1 91 (by omega), iv2.1 91 (by omega) (by omega), f_J0 91 (by omega)]; exact hM) hV hA3 (show J37 90 29 = -1 by rw [f37 90 (by omega), e_J2]; show J1 90 29 = -1; rw [e_J1]; show K 90 29 = -1; rw [iv2.2.1 29 (by omega) (by omega), e_J0]; exact h29) (show J37 90 30 = tb by rw [f37 90 (by omega), e_J2]; show J1 90 30 = tb; rw [e_J1]; show K 90 30 = tb; rw [iv2.2.1 30 (by omega) (by omega), e_J0]; exact h30) htb (by omega) (by omega) (by omega) ?_
                show WP (Call d) 263 P X (43, [some (vr (some 90) 10), some (vi w), some (vi x), some (vi y), some (vi g9), some (vi n)], [vi (bz (LITp μ (J37 96) (HTC μ (-1) tb) w 6 y))], (J37, H), 0, 0)
                refine WP.go 1 (And.intro (fun (b43 : bz (LITp μ (J37 96) (HTC μ (-1) tb) w 6 y) = 0) => ?_) (fun (b43 : ¬ bz (LITp μ (J37 96) (HTC μ (-1) tb) w 6 y) = 0) => ?_))
                ·
                  show WP (Call d) 263 P X (46, [some (vr (some 90) 10), some (vi w), some (vi x), some (vi y), some (vi g9), some (vi n)], [], (J37, H), 0, 0)
                  have z43 := bz_e0.mp b43
                  refine WP.go 2 (Exists.intro (n + 1) (And.intro (wrp_a (by omega) (by omega)) (?_)))
                  show WP (Call d) 263 P X (24, [some (vr (some 90) 10), some (vi w), some (vi x), some (vi y), some (vi g9), some (vi (n + 1))], [], (J37, H), 0, 0)
                  exact ih24 J37 g9 (n + 1) (by omega) (by omega) (.inl ⟨by omega, (hf (by omega)).trans (fI_n (by omega) (fun z => bz_e0.mp b43 (hl.mpr z)))⟩) ⟨fun a q1 q2 => by rw [f37 a q2, f_J2 a q1, f_J1 a q1]; exact iv2.1 a q1 q2, fun s q1 q2 => by rw [f37 90 (by omega), e_J2]; show (if s = 23 then _ else J1 90 s) = _; rw [if_neg q2, e_J1]; show (if s = 22 then _ else K 90 s) = _; rw [if_neg q1]; exact iv2.2.1 s q1 q2, by rw [f37 90 (by omega), e_J2]; exact ⟨iv0.1, by show n ≤ 48; omega⟩⟩
                ·
                  show WP (Call d) 263 P X (44, [some (vr (some 90) 10), some (vi w), some (vi x), some (vi y), some (vi g9), some (vi n)], [], (J37, H), 0, 0)
                  have z43 := bz_e1.mp b43
                  refine WP.go 4 (Exists.intro (n + 1) (And.intro (wrp_a (by omega) (by omega)) (?_)))
                  show WP (Call d) 263 P X (24, [some (vr (some 90) 10), some (vi w), some (vi x), some (vi y), some (vi n), some (vi (n + 1))], [], (J37, H), 0, 0)
                  exact ih24 J37 n (n + 1) (by omega) (by omega) (.inr ⟨iv0.1, (hf (by omega)).trans (fI_s (by omega) (hl.mp (bz_e1.mp b43)))⟩) ⟨fun a q1 q2 => by rw [f37 a q2, f_J2 a q1, f_J1 a q1]; exact iv2.1 a q1 q2, fun s q1 q2 => by rw [f37 90 (by omega), e_J2]; show (if s = 23 then _ else J1 90 s) = _; rw [if_neg q2, e_J1]; show (if s = 22 then _ else K 90 s) = _; rw [if_neg q1]; exact iv2.2.1 s q1 q2, by rw [f37 90 (by omega), e_J2]; exact ⟨iv0.1, by show n ≤ 48; omega⟩⟩
        exact lp24 ((49 - 0 : Int).toNat + 1) J0 (-1) 0 (by omega) (by omega) (.inl ⟨rfl, rfl⟩) ⟨fun _ _ _ => rfl, fun _ _ _ => rfl, by rw [e_J0]; exact hK.2.2.1⟩
      ·
        show WP (Call d) 263 P X (11, [some (vr (some 90) 10), some (vi w), some (vi x), some (vi y), none, none], [vr (some 90) 10], (I, H), 0, 0)
        have z10 := bz_e0.mp b10
        refine WP.go 6 (And.intro (And.intro rfl trivial) (And.intro rfl (And.intro (fun (b17 : ¬ 0 < 1) => (absurd b17 (by omega))) (fun (b17 : 0 < 1) => ?_))))
        show WP (Call d) 263 P X (18, [some (vr (some 90) 10), some (vi w), some (vi x), some (vi y), none, none], [], ((upI I 90 0 1), H), 0, 0)
        refine WP.go 2 (And.intro (And.intro (Nat.le_of_ble_eq_true rfl) (Nat.le_of_ble_eq_true rfl)) (And.intro trivial (?_)))
        show P (some (vi 0)) ((upI I 90 0 1), H)
        exact hk1 (by omega) _ 0 (.inl rfl) (MF.th hK _) (upI_same _ _ _ _)

