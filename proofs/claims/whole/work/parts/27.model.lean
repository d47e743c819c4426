theorem HTC_n {μ : Int → Int} {tl b c : Int} (h : hON μ c (μ 1) = -1) : HTC μ tl b c = 0 := if_pos h
theorem HTC_y {μ : Int → Int} {tl b c : Int} (h : ¬ hON μ c (μ 1) = -1) : HTC μ tl b c = μ (121 + 2 * hON μ c (μ 1)) + (if hON μ c (μ 1) = tl then b else 0) := if_neg h
theorem ANG_irr {μ : Int → Int} {pl : Int} (h : pl < 0) (mo mo' y : Int) : ANG μ pl mo y = ANG μ pl mo' y := by
  unfold ANG
  generalize y.toNat = n
  induction n with
  | zero => rfl
  | succ n ih =>
    show nxt μ (angN μ pl mo n) n _ = nxt μ (angN μ pl mo' n) n _
    rw [ih, if_neg (by omega), if_neg (by omega)]
theorem HTC_irr {μ : Int → Int} {tl : Int} (h : tl < 0) (hV : IM μ) (b b' c : Int) : HTC μ tl b c = HTC μ tl b' c := by
  unfold HTC HTk
  have h9 := hV.n1
  rcases hON_r (μ := μ) (c := c) (k := μ 1) (by omega) with ⟨r1, r2⟩ | ⟨r1, r2, r3, r4⟩
  · rw [if_pos r1, if_pos r1]
  · rw [if_neg (by omega), if_neg (by omega), if_neg (by omega), if_neg (by omega)]
/-- light of a house in years -/
noncomputable def BRT (μ A T : Int → Int) (h a b : Int) : Int := sI (fun w => if μ (140 + 3 * w) = h then LGW μ A T w a b else 0) 0 (μ 2)
theorem LGW_1 (μ A T : Int → Int) (w y : Int) : LGW μ A T w y y = LGT μ A T w y := by
  unfold LGW
  rw [sI_succ (Int.le_refl _), sI_nil (Int.le_refl _)]
  omega
theorem BRT_1 (μ A T : Int → Int) (h y : Int) : BRT μ A T h y y = LGH μ A T h y := sI_congr (fun i _ _ => by show (if _ then _ else _) = (if _ then _ else _); rw [LGW_1])
theorem LGW_bd {a b : Int} (h : a ≤ b + 1) (μ A T : Int → Int) (w : Int) : 0 ≤ LGW μ A T w a b ∧ LGW μ A T w a b ≤ 13 * (b + 1 - a) := LGWs_bd h
theorem BRTs_bd {μ A T : Int → Int} {h a b k : Int} (q : 0 ≤ k) (hk : k ≤ 20) (hab : 0 ≤ a ∧ a ≤ b ∧ b < 100) : 0 ≤ sI (fun w => if μ (140 + 3 * w) = h then LGW μ A T w a b else 0) 0 k ∧ sI (fun w => if μ (140 + 3 * w) = h then LGW μ A T w a b else 0) 0 k ≤ 26000 := by
  have := sI_bd (f := fun w => if μ (140 + 3 * w) = h then LGW μ A T w a b else 0) 0 1300 q (fun i _ _ => by have := LGW_bd (a := a) (b := b) (by omega) μ A T i; show 0 ≤ (if μ (140 + 3 * i) = h then LGW μ A T i a b else 0) ∧ (if μ (140 + 3 * i) = h then LGW μ A T i a b else 0) ≤ 1300; split <;> omega)
  omega
/-- bits of what holds below n -/
noncomputable def hbN (p : Int → Prop) : Nat → Int
  | 0 => 0
  | n + 1 => @ite Int (p n) (Classical.propDecidable _) (zor (hbN p n) (zshl 1 n)) (hbN p n)
noncomputable def hB (p : Int → Prop) (k : Int) : Int := hbN p k.toNat
theorem hB_0 (p : Int → Prop) : hB p 0 = 0 := rfl
theorem hB_y {p : Int → Prop} {k : Int} (h : 0 ≤ k) (q : p k) : hB p (k + 1) = zor (hB p k) (zshl 1 k) := by
  unfold hB
  rw [show (k + 1).toNat = k.toNat + 1 by omega]
  show @ite Int (p (k.toNat : Int)) (Classical.propDecidable _) (zor _ (zshl 1 (k.toNat : Int))) _ = _
  rw [show (k.toNat : Int) = k by omega]
  exact if_pos q
theorem hB_n {p : Int → Prop} {k : Int} (h : 0 ≤ k) (q : ¬ p k) : hB p (k + 1) = hB p k := by
  unfold hB
  rw [show (k + 1).toNat = k.toNat + 1 by omega]
  show @ite Int (p (k.toNat : Int)) (Classical.propDecidable _) _ _ = _
  rw [show (k.toNat : Int) = k by omega]
  exact if_neg q
theorem hbN_congr {p q : Int → Prop} : ∀ n : Nat, (∀ i, 0 ≤ i → i < (n : Int) → (p i ↔ q i)) → hbN p n = hbN q n
  | 0, _ => rfl
  | n + 1, h => by
    have h1 := h n (by omega) (by omega)
    have h2 := hbN_congr n (fun i a b => h i a (by omega))
    show @ite Int (p n) (Classical.propDecidable _) _ _ = @ite Int (q n) (Classical.propDecidable _) _ _
    rw [h2]
    rcases Classical.em (p n) with w | w
    · rw [if_pos w, if_pos (h1.mp w)]
    · rw [if_neg w, if_neg (fun z => w (h1.mpr z))]
theorem hB_congr {p q : Int → Prop} {k : Int} (h : ∀ i, 0 ≤ i → i < k → (p i ↔ q i)) : hB p k = hB q k := hbN_congr _ (fun i a b => h i a (by omega))
theorem zor_in (a b : Int) : inR (zor a b) := oi_rng _
theorem zor_z {a : Int} (h : inR a) : zor a 0 = a := by
  unfold zor
  rw [show Int32.ofInt 0 = 0 from rfl, Int32.or_zero]
  exact Int32.toInt_ofInt_of_le (by have := h.1; exact this) (by have := h.2; exact this)
theorem hbN_in (p : Int → Prop) : ∀ n : Nat, inR (hbN p n)
  | 0 => ⟨by show (-2147483648 : Int) ≤ 0; omega, by show (0 : Int) < 2147483648; omega⟩
  | n + 1 => by
    show inR (@ite Int (p n) (Classical.propDecidable _) _ _)
    rcases Classical.em (p n) with w | w
    · rw [if_pos w]; exact zor_in _ _
    · rw [if_neg w]; exact hbN_in p n
theorem hB_in (p : Int → Prop) (k : Int) : inR (hB p k) := hbN_in p _
theorem coff_e {c d k : Int} : coff c d k = -1 ↔ ¬ (0 ≤ c % 9 + k * sx d ∧ c % 9 + k * sx d < 9 ∧ 0 ≤ c / 9 + k * sy d ∧ c / 9 + k * sy d < 9) := by
  unfold coff
  split <;> omega
theorem out_s {u s k j : Int} (h0 : 0 ≤ u) (h1 : u < 9) (hs0 : -1 ≤ s) (hs1 : s ≤ 1) (hk : 0 ≤ k) (hj : k ≤ j) (h : ¬ (0 ≤ u + k * s ∧ u + k * s < 9)) : ¬ (0 ≤ u + j * s ∧ u + j * s < 9) := by
  have hs : s = -1 ∨ s = 0 ∨ s = 1 := by omega
  rcases hs with rfl | rfl | rfl <;> omega
/-- what was beyond the edge stays there -/
theorem coff_o {c d k j : Int} (hc : 0 ≤ c ∧ c < 81) (hk : 0 ≤ k) (hj : k ≤ j) (h : coff c d k = -1) : coff c d j = -1 := by
  rw [coff_e] at h ⊢
  have a1 := @out_s (c % 9) (sx d) k j (by omega) (by omega) (sx_bd d).1 (sx_bd d).2 hk hj
  have a2 := @out_s (c / 9) (sy d) k j (by omega) (by omega) (sy_bd d).1 (sy_bd d).2 hk hj
  intro q
  apply h
  refine ⟨?_, ?_, ?_, ?_⟩
  · exact Classical.byContradiction fun z => a1 (fun w => z w.1) ⟨q.1, q.2.1⟩
  · exact Classical.byContradiction fun z => a1 (fun w => z w.2) ⟨q.1, q.2.1⟩
  · exact Classical.byContradiction fun z => a2 (fun w => z w.1) ⟨q.2.2.1, q.2.2.2⟩
  · exact Classical.byContradiction fun z => a2 (fun w => z w.2) ⟨q.2.2.1, q.2.2.2⟩
theorem s_12_isIn {d : Nat} {P : Option qV → qH → Prop} {X : Nat → qH → Prop} {I : qI} {H : qS} (hd : 1 ≤ d) {v lo hi : Int} (h : P (some (vi (bz (lo ≤ v ∧ v ≤ hi)))) (I, H)) :
    Call d 177 [vi v, vi lo, vi hi] (I, H) P X := by
  obtain ⟨d, rfl⟩ : ∃ e, d = e + 1 := ⟨d - 1, by omega⟩
  show WP (Call d) 177 P X (0, [some (vi v), some (vi lo), some (vi hi)], [], (I, H), 0, 0)
  refine WP.go 3 (And.intro (fun (b2 : v < lo) => ?_) (fun (b2 : ¬ v < lo) => ?_))
  ·
    show WP (Call d) 177 P X (8, [some (vi v), some (vi lo), some (vi hi)], [], (I, H), 0, 0)
    refine WP.go 2 (And.intro (And.intro (Nat.le_of_ble_eq_true rfl) (Nat.le_of_ble_eq_true rfl)) (And.intro (Or.inl rfl) (?_)))
    show P (some (vi 0)) (I, H)
    exact fin_i (by first | rfl | omega | exact zero_bz (by omega) | exact one_bz (by omega)) h
  ·
    show WP (Call d) 177 P X (3, [some (vi v), some (vi lo), some (vi hi)], [], (I, H), 0, 0)
    refine WP.go 3 (And.intro (fun (b5 : hi < v) => ?_) (fun (b5 : ¬ hi < v) => ?_))
    ·
      show WP (Call d) 177 P X (8, [some (vi v), some (vi lo), some (vi hi)], [], (I, H), 0, 0)
      refine WP.go 2 (And.intro (And.intro (Nat.le_of_ble_eq_true rfl) (Nat.le_of_ble_eq_true rfl)) (And.intro (Or.inl rfl) (?_)))
      show P (some (vi 0)) (I, H)
      exact fin_i (by first | rfl | omega | exact zero_bz (by omega) | exact one_bz (by omega)) h
    ·
      show WP (Call d) 177 P X (6, [some (vi v), some (vi lo), some (vi hi)], [], (I, H), 0, 0)
      refine WP.go 3 (And.intro (And.intro (Nat.le_of_ble_eq_true rfl) (Nat.le_of_ble_eq_true rfl)) (And.intro (Or.inr rfl) (?_)))
      show P (some (vi 1)) (I, H)
      exact fin_i (by first | rfl | omega | exact zero_bz (by omega) | exact one_bz (by omega)) h

theorem s_12_isCell {d : Nat} {P : Option qV → qH → Prop} {X : Nat → qH → Prop} {I : qI} {H : qS} (hd : 2 ≤ d) {v : Int} (h : P (some (vi (bz (0 ≤ v ∧ v ≤ 80)))) (I, H)) :
    Call d 178 [vi v] (I, H) P X := by
  obtain ⟨d, rfl⟩ : ∃ e, d = e + 1 := ⟨d - 1, by omega⟩
  show WP (Call d) 178 P X (0, [some (vi v)], [], (I, H), 0, 0)
  refine WP.go 4 (And.intro (And.intro (Nat.le_of_ble_eq_true rfl) (Nat.le_of_ble_eq_true rfl)) (And.intro rfl (?_)))
  show Call d 177 [vi v, vi 0, vi 80] (I, H) _ _
  refine s_12_isIn (by omega)  ?_
  show WP (Call d) 178 P X (4, [some (vi v)], [vi (bz (0 ≤ v ∧ v ≤ 80))], (I, H), 0, 0)
  refine WP.go 1 (And.intro (And.intro (Nat.le_of_ble_eq_true rfl) (Nat.le_of_ble_eq_true rfl)) (And.intro (bz_or _) (?_)))
  show P (some (vi (bz (0 ≤ v ∧ v ≤ 80)))) (I, H)
  exact fin_i (by first | rfl | omega | exact zero_bz (by omega) | exact one_bz (by omega)) h

theorem s_12_isYear {d : Nat} {P : Option qV → qH → Prop} {X : Nat → qH → Prop} {I : qI} {H : qS} (hd : 2 ≤ d) {v : Int} (h : P (some (vi (bz (0 ≤ v ∧ v ≤ 99)))) (I, H)) :
    Call d 179 [vi v] (I, H) P X := by
  obtain ⟨d, rfl⟩ : ∃ e, d = e + 1 := ⟨d - 1, by omega⟩
  show WP (Call d) 179 P X (0, [some (vi v)], [], (I, H), 0, 0)
  refine WP.go 4 (And.intro (And.intro (Nat.le_of_ble_eq_true rfl) (Nat.le_of_ble_eq_true rfl)) (And.intro rfl (?_)))
  show Call d 177 [vi v, vi 0, vi 99] (I, H) _ _
  refine s_12_isIn (by omega)  ?_
  show WP (Call d) 179 P X (4, [some (vi v)], [vi (bz (0 ≤ v ∧ v ≤ 99))], (I, H), 0, 0)
  refine WP.go 1 (And.intro (And.intro (Nat.le_of_ble_eq_true rfl) (Nat.le_of_ble_eq_true rfl)) (And.intro (bz_or _) (?_)))
  show P (some (vi (bz (0 ≤ v ∧ v ≤ 99)))) (I, H)
  exact fin_i (by first | rfl | omega | exact zero_bz (by omega) | exact one_bz (by omega)) h

theorem s_12_dx {d : Nat} {P : Option qV → qH → Prop} {X : Nat → qH → Prop} {I : qI} {H : qS} (hd : 1 ≤ d) {v : Int} (h : P (some (vi (sx v))) (I, H)) :
    Call d 216 [vi v] (I, H) P X := by
  obtain ⟨d, rfl⟩ : ∃ e, d = e + 1 := ⟨d - 1, by omega⟩
  show WP (Call d) 216 P X (0, [some (vi v)], [], (I, H), 0, 0)
  refine WP.go 2 (And.intro (fun (b1 : ¬ 0 < v) => ?_) (fun (b1 : 0 < v) => ?_))
  ·
    show WP (Call d) 216 P X (7, [some (vi v)], [], (I, H), 0, 0)
    refine WP.go 3 (And.intro (fun (b9 : ¬ 4 < v) => ?_) (fun (b9 : 4 < v) => ?_))
    ·
      show WP (Call d) 216 P X (12, [some (vi v)], [], (I, H), 0, 0)
      refine WP.go 2 (And.intro (And.intro (Nat.le_of_ble_eq_true rfl) (Nat.le_of_ble_eq_true rfl)) (And.intro trivial (?_)))
      show P (some (vi 0)) (I, H)
      exact fin_i (by unfold sx; (try split) <;> (try split) <;> omega) h
    ·
      show WP (Call d) 216 P X (10, [some (vi v)], [], (I, H), 0, 0)
      refine WP.go 3 (And.intro (And.intro (Nat.le_of_ble_eq_true rfl) (Nat.le_of_ble_eq_true rfl)) (And.intro trivial (?_)))
      show P (some (vi (-1))) (I, H)
      exact fin_i (by unfold sx; (try split) <;> (try split) <;> omega) h
  ·
    show WP (Call d) 216 P X (2, [some (vi v)], [], (I, H), 0, 0)
    refine WP.go 3 (And.intro (fun (b4 : ¬ v < 4) => ?_) (fun (b4 : v < 4) => ?_))
    ·
      show WP (Call d) 216 P X (7, [some (vi v)], [], (I, H), 0, 0)
      refine WP.go 3 (And.intro (fun (b9 : ¬ 4 < v) => ?_) (fun (b9 : 4 < v) => ?_))
      ·
        show WP (Call d) 216 P X (12, [some (vi v)], [], (I, H), 0, 0)
        refine WP.go 2 (And.intro (And.intro (Nat.le_of_ble_eq_true rfl) (Nat.le_of_ble_eq_true rfl)) (And.intro trivial (?_)))
        show P (some (vi 0)) (I, H)
        exact fin_i (by unfold sx; (try split) <;> (try split) <;> omega) h
      ·
        show WP (Call d) 216 P X (10, [some (vi v)], [], (I, H), 0, 0)
        refine WP.go 3 (And.intro (And.intro (Nat.le_of_ble_eq_true rfl) (Nat.le_of_ble_eq_true rfl)) (And.intro trivial (?_)))
        show P (some (vi (-1))) (I, H)
        exact fin_i (by unfold sx; (try split) <;> (try split) <;> omega) h
    ·
      show WP (Call d) 216 P X (5, [some (vi v)], [], (I, H), 0, 0)
      refine WP.go 3 (And.intro (And.intro (Nat.le_of_ble_eq_true rfl) (Nat.le_of_ble_eq_true rfl)) (And.intro trivial (?_)))
      show P (some (vi 1)) (I, H)
      exact fin_i (by unfold sx; (try split) <;> (try split) <;> omega) h

theorem s_12_dy {d : Nat} {P : Option qV → qH → Prop} {X : Nat → qH → Prop} {I : qI} {H : qS} (hd : 1 ≤ d) {v : Int} (h : P (some (vi (sy v))) (I, H)) :
    Call d 217 [vi v] (I, H) P X := by
  obtain ⟨d, rfl⟩ : ∃ e, d = e + 1 := ⟨d - 1, by omega⟩
  show WP (Call d) 217 P X (0, [some (vi v)], [], (I, H), 0, 0)
  refine WP.go 3 (And.intro (fun (b2 : v < 2) => ?_) (fun (b2 : ¬ v < 2) => ?_))
  ·
    show WP (Call d) 217 P X (6, [some (vi v)], [], (I, H), 0, 0)
    refine WP.go 3 (And.intro (And.intro (Nat.le_of_ble_eq_true rfl) (Nat.le_of_ble_eq_true rfl)) (And.intro trivial (?_)))
    show P (some (vi 1)) (I, H)
    exact fin_i (by unfold sy; (try split) <;> (try split) <;> omega) h
  ·
    show WP (Call d) 217 P X (3, [some (vi v)], [], (I, H), 0, 0)
    refine WP.go 3 (And.intro (fun (b5 : ¬ v = 7) => ?_) (fun (b5 : v = 7) => ?_))
    ·
      show WP (Call d) 217 P X (8, [some (vi v)], [], (I, H), 0, 0)
      refine WP.go 3 (And.intro (fun (b10 : ¬ 2 < v) => ?_) (fun (b10 : 2 < v) => ?_))
      ·
        show WP (Call d) 217 P X (16, [some (vi v)], [], (I, H), 0, 0)
        refine WP.go 2 (And.intro (And.intro (Nat.le_of_ble_eq_true rfl) (Nat.le_of_ble_eq_true rfl)) (And.intro trivial (?_)))
        show P (some (vi 0)) (I, H)
        exact fin_i (by unfold sy; (try split) <;> (try split) <;> omega) h
      ·
        show WP (Call d) 217 P X (11, [some (vi v)], [], (I, H), 0, 0)
        refine WP.go 3 (And.intro (fun (b13 : ¬ v < 6) => ?_) (fun (b13 : v < 6) => ?_))
        ·
          show WP (Call d) 217 P X (16, [some (vi v)], [], (I, H), 0, 0)
          refine WP.go 2 (And.intro (And.intro (Nat.le_of_ble_eq_true rfl) (Nat.le_of_ble_eq_true rfl)) (And.intro trivial (?_)))
          show P (some (vi 0)) (I, H)
          exact fin_i (by unfold sy; (try split) <;> (try split) <;> omega) h
        ·
          show WP (Call d) 217 P X (14, [some (vi v)], [], (I, H), 0, 0)
          refine WP.go 3 (And.intro (And.intro (Nat.le_of_ble_eq_true rfl) (Nat.le_of_ble_eq_true rfl)) (And.intro trivial (?_)))
          show P (some (vi (-1))) (I, H)
          exact fin_i (by unfold sy; (try split) <;> (try split) <;> omega) h
    ·
      show WP (Call d) 217 P X (6, [some (vi v)], [], (I, H), 0, 0)
      refine WP.go 3 (And.intro (And.intro (Nat.le_of_ble_eq_true rfl) (Nat.le_of_ble_eq_true rfl)) (And.intro trivial (?_)))
      show P (some (vi 1)) (I, H)
      exact fin_i (by unfold sy; (try split) <;> (try split) <;> omega) h

theorem s_12_isHouse {d : Nat} {P : Option qV → qH → Prop} {X : Nat → qH → Prop} {I : qI} {H : qS} {μ : Int → Int} (hd : 2 ≤ d) {v : Int} (hS : Shp H) (hM : I 91 = μ) (hV : IM μ) (h : P (some (vi (bz (0 ≤ v ∧ v ≤ μ 1 - 1)))) (I, H)) :
    Call d 180 [vr (some 90) 10, vi v] (I, H) P X := by
  obtain ⟨d, rfl⟩ : ∃ e, d = e + 1 := ⟨d - 1, by omega⟩
  have hl91 := hS.l91
  have v1 := hV.n1
  show WP (Call d) 180 P X (0, [some (vr (some 90) 10), some (vi v)], [], (I, H), 0, 0)
  refine WP.go 6 (And.intro rfl (Exists.intro 91 (And.intro hS.r90_1 (And.intro (And.intro rfl (And.intro (show 0 ≤ 1 from by omega) (show 1 < H.2.1 91 from by omega))) (?_)))))
  refine rw_i (Q := fun x9 => WP (Call d) 180 P X (6, [some (vr (some 90) 10), some (vi v)], [vi x9, vi 0, vi v], (I, H), 0, 0)) (congrFun hM _) ?_
  show WP (Call d) 180 P X (6, [some (vr (some 90) 10), some (vi v)], [vi (μ 1), vi 0, vi v], (I, H), 0, 0)
  refine WP.go 3 (Exists.intro ((μ 1) - 1) (And.intro (wrp_a (by omega) (by omega)) (And.intro (And.intro (Nat.le_of_ble_eq_true rfl) (Nat.le_of_ble_eq_true rfl)) (And.intro rfl (?_)))))
  show Call d 177 [vi v, vi 0, vi ((μ 1) - 1)] (I, H) _ _
  refine s_12_isIn (by omega)  ?_
  show WP (Call d) 180 P X (9, [some (vr (some 90) 10), some (vi v)], [vi (bz (0 ≤ v ∧ v ≤ ((μ 1) - 1)))], (I, H), 0, 0)
  refine WP.go 1 (And.intro (And.intro (Nat.le_of_ble_eq_true rfl) (Nat.le_of_ble_eq_true rfl)) (And.intro (bz_or _) (?_)))
  show P (some (vi (bz (0 ≤ v ∧ v ≤ ((μ 1) - 1))))) (I, H)
  exact fin_i (by first | rfl | omega | exact zero_bz (by omega) | exact one_bz (by omega)) h

theorem s_12_isWindow {d : Nat} {P : Option qV → qH → Prop} {X : Nat → qH → Prop} {I : qI} {H : qS} {μ : Int → Int} (hd : 2 ≤ d) {v : Int} (hS : Shp H) (hM : I 91 = μ) (hV : IM μ) (h : P (some (vi (bz (0 ≤ v ∧ v ≤ μ 2 - 1)))) (I, H)) :
    Call d 181 [vr (some 90) 10, vi v] (I, H) P X := by
  obtain ⟨d, rfl⟩ : ∃ e, d = e + 1 := ⟨d - 1, by omega⟩
  have hl91 := hS.l91
  have v1 := hV.n2
  show WP (Call d) 181 P X (0, [some (vr (some 90) 10), some (vi v)], [], (I, H), 0, 0)
  refine WP.go 6 (And.intro rfl (Exists.intro 91 (And.intro hS.r90_1 (And.intro (And.intro rfl (And.intro (show 0 ≤ 2 from by omega) (show 2 < H.2.1 91 from by omega))) (?_)))))
  refine rw_i (Q := fun x9 => WP (Call d) 181 P X (6, [some (vr (some 90) 10), some (vi v)], [vi x9, vi 0, vi v], (I, H), 0, 0)) (congrFun hM _) ?_
  show WP (Call d) 181 P X (6, [some (vr (some 90) 10), some (vi v)], [vi (μ 2), vi 0, vi v], (I, H), 0, 0)
  refine WP.go 3 (Exists.intro ((μ 2) - 1) (And.intro (wrp_a (by omega) (by omega)) (And.intro (And.intro (Nat.le_of_ble_eq_true rfl) (Nat.le_of_ble_eq_true rfl)) (And.intro rfl (?_)))))
  show Call d 177 [vi v, vi 0, vi ((μ 2) - 1)] (I, H) _ _
  refine s_12_isIn (by omega)  ?_
  show WP (Call d) 181 P X (9, [some (vr (some 90) 10), some (vi v)], [vi (bz (0 ≤ v ∧ v ≤ ((μ 2) - 1)))], (I, H), 0, 0)
  refine WP.go 1 (And.intro (And.intro (Nat.le_of_ble_eq_true rfl) (Nat.le_of_ble_eq_true rfl)) (And.intro (bz_or _) (?_)))
  show P (some (vi (bz (0 ≤ v ∧ v ≤ ((μ 2) - 1))))) (I, H)
  exact fin_i (by first | rfl | omega | exact zero_bz (by omega) | exact one_bz (by omega)) h

theorem s_12_cellOf {d : Nat} {P : Option qV → qH → Prop} {X : Nat → qH → Prop} {I : qI} {H : qS} {μ : Int → Int} (hd : 1 ≤ d) {h9 : Int} (hS : Shp H) (hM : I 91 = μ) (hh : 0 ≤ h9 ∧ h9 < 10) (h : P (some (vi (μ (120 + 2 * h9)))) (I, H)) :
    Call d 182 [vr (some 90) 10, vi h9] (I, H) P X := by
  obtain ⟨d, rfl⟩ : ∃ e, d = e + 1 := ⟨d - 1, by omega⟩
  have hl91 := hS.l91
  show WP (Call d) 182 P X (0, [some (vr (some 90) 10), some (vi h9)], [], (I, H), 0, 0)
  refine WP.go 8 (And.intro rfl (Exists.intro 91 (And.intro hS.r90_1 (Exists.intro (2 * h9) (And.intro (wrp_a (by omega) (by omega)) (Exists.intro (120 + (2 * h9)) (And.intro (wrp_a (by omega) (by omega)) (And.intro (And.intro rfl (And.intro (show 0 ≤ 120 + (2 * h9) from by omega) (show 120 + (2 * h9) < H.2.1 91 from by omega))) (?_)))))))))
  refine rw_i (Q := fun x9 => WP (Call d) 182 P X (8, [some (vr (some 90) 10), some (vi h9)], [vi x9], (I, H), 0, 0)) (show I 91 (120 + (2 * h9)) = μ (120 + 2 * h9) from (congrFun hM _).trans (congrArg μ (by omega))) ?_
  show WP (Call d) 182 P X (8, [some (vr (some 90) 10), some (vi h9)], [vi (μ (120 + 2 * h9))], (I, H), 0, 0)
  refine WP.go 1 (And.intro (And.intro (Nat.le_of_ble_eq_true rfl) (Nat.le_of_ble_eq_true rfl)) (And.intro trivial (?_)))
  show P (some (vi (μ (120 + 2 * h9)))) (I, H)
  exact fin_i (by first | rfl | omega | exact zero_bz (by omega) | exact one_bz (by omega)) h

theorem s_12_heightOf {d : Nat} {P : Option qV → qH → Prop} {X : Nat → qH → Prop} {I : qI} {H : qS} {μ : Int → Int} (hd : 1 ≤ d) {h9 : Int} (hS : Shp H) (hM : I 91 = μ) (hh : 0 ≤ h9 ∧ h9 < 10) (h : P (some (vi (μ (121 + 2 * h9)))) (I, H)) :
    Call d 183 [vr (some 90) 10, vi h9] (I, H) P X := by
  obtain ⟨d, rfl⟩ : ∃ e, d = e + 1 := ⟨d - 1, by omega⟩
  have hl91 := hS.l91
  show WP (Call d) 183 P X (0, [some (vr (some 90) 10), some (vi h9)], [], (I, H), 0, 0)
  refine WP.go 10 (And.intro rfl (Exists.intro 91 (And.intro hS.r90_1 (Exists.intro (2 * h9) (And.intro (wrp_a (by omega) (by omega)) (Exists.intro (120 + (2 * h9)) (And.intro (wrp_a (by omega) (by omega)) (Exists.intro ((120 + (2 * h9)) + 1) (And.intro (wrp_a (by omega) (by omega)) (And.intro (And.intro rfl (And.intro (show 0 ≤ (120 + (2 * h9)) + 1 from by omega) (show (120 + (2 * h9)) + 1 < H.2.1 91 from by omega))) (?_)))))))))))
  refine rw_i (Q := fun x9 => WP (Call d) 183 P X (10, [some (vr (some 90) 10), some (vi h9)], [vi x9], (I, H), 0, 0)) (show I 91 ((120 + (2 * h9)) + 1) = μ (121 + 2 * h9) from (congrFun hM _).trans (congrArg μ (by omega))) ?_
  show WP (Call d) 183 P X (10, [some (vr (some 90) 10), some (vi h9)], [vi (μ (121 + 2 * h9))], (I, H), 0, 0)
  refine WP.go 1 (And.intro (And.intro (Nat.le_of_ble_eq_true rfl) (Nat.le_of_ble_eq_true rfl)) (And.intro trivial (?_)))
  show P (some (vi (μ (121 + 2 * h9)))) (I, H)
  exact fin_i (by first | rfl | omega | exact zero_bz (by omega) | exact one_bz (by omega)) h

theorem s_12_ofWindow_0 {d : Nat} {P : Option qV → qH → Prop} {X : Nat → qH → Prop} {I : qI} {H : qS} {μ : Int → Int} (hd : 1 ≤ d) {w : Int} (hS : Shp H) (hM : I 91 = μ) (hw : 0 ≤ w ∧ w < 20) (h : P (some (vi (μ (140 + 3 * w)))) (I, H)) :
    Call d 184 [vr (some 90) 10, vi w, vi 0] (I, H) P X := by
  obtain ⟨d, rfl⟩ : ∃ e, d = e + 1 := ⟨d - 1, by omega⟩
  have hl91 := hS.l91
  show WP (Call d) 184 P X (0, [some (vr (some 90) 10), some (vi w), some (vi 0)], [], (I, H), 0, 0)
  refine WP.go 10 (And.intro rfl (Exists.intro 91 (And.intro hS.r90_1 (Exists.intro (3 * w) (And.intro (wrp_a (by omega) (by omega)) (Exists.intro (140 + (3 * w)) (And.intro (wrp_a (by omega) (by omega)) (Exists.intro ((140 + (3 * w)) + 0) (And.intro (wrp_a (by omega) (by omega)) (And.intro (And.intro rfl (And.intro (show 0 ≤ (140 + (3 * w)) + 0 from by omega) (show (140 + (3 * w)) + 0 < H.2.1 91 from by omega))) (?_)))))))))))
  refine rw_i (Q := fun x9 => WP (Call d) 184 P X (10, [some (vr (some 90) 10), some (vi w), some (vi 0)], [vi x9], (I, H), 0, 0)) (show I 91 ((140 + (3 * w)) + 0) = μ (140 + 3 * w) from (congrFun hM _).trans (congrArg μ (by omega))) ?_
  show WP (Call d) 184 P X (10, [some (vr (some 90) 10), some (vi w), some (vi 0)], [vi (μ (140 + 3 * w))], (I, H), 0, 0)
  refine WP.go 1 (And.intro (And.intro (Nat.le_of_ble_eq_true rfl) (Nat.le_of_ble_eq_true rfl)) (And.intro trivial (?_)))
  show P (some (vi (μ (140 + 3 * w)))) (I, H)
  exact fin_i (by first | rfl | omega | exact zero_bz (by omega) | exact one_bz (by omega)) h

theorem s_12_ofWindow_1 {d : Nat} {P : Option qV → qH → Prop} {X : Nat → qH → Prop} {I : qI} {H : qS} {μ : Int → Int} (hd : 1 ≤ d) {w : Int} (hS : Shp H) (hM : I 91 = μ) (hw : 0 ≤ w ∧ w < 20) (h : P (some (vi (μ (141 + 3 * w)))) (I, H)) :
    Call d 184 [vr (some 90) 10, vi w, vi 1] (I, H) P X := by
  obtain ⟨d, rfl⟩ : ∃ e, d = e + 1 := ⟨d - 1, by omega⟩
  have hl91 := hS.l91
  show WP (Call d) 184 P X (0, [some (vr (some 90) 10), some (vi w), some (vi 1)], [], (I, H), 0, 0)
  refine WP.go 10 (And.intro rfl (Exists.intro 91 (And.intro hS.r90_1 (Exists.intro (3 * w) (And.intro (wrp_a (by omega) (by omega)) (Exists.intro (140 + (3 * w)) (And.intro (wrp_a (by omega) (by omega)) (Exists.intro ((140 + (3 * w)) + 1) (And.intro (wrp_a (by omega) (by omega)) (And.intro (And.intro rfl (And.intro (show 0 ≤ (140 + (3 * w)) + 1 from by omega) (show (140 + (3 * w)) + 1 < H.2.1 91 from by omega))) (?_)))))))))))
  refine rw_i (Q := fun x9 => WP (Call d) 184 P X (10, [some (vr (some 90) 10), some (vi w), some (vi 1)], [vi x9], (I, H), 0, 0)) (show I 91 ((140 + (3 * w)) + 1) = μ (141 + 3 * w) from (congrFun hM _).trans (congrArg μ (by omega))) ?_
  show WP (Call d) 184 P X (10, [some (vr (some 90) 10), some (vi w), some (vi 1)], [vi (μ (141 + 3 * w))], (I, H), 0, 0)
  refine WP.go 1 (And.intro (And.intro (Nat.le_of_ble_eq_true rfl) (Nat.le_of_ble_eq_true rfl)) (And.intro trivial (?_)))
  show P (some (vi (μ (141 + 3 * w)))) (I, H)
  exact fin_i (by first | rfl | omega | exact zero_bz (by omega) | exact one_bz (by omega)) h

theorem s_12_ofWindow_2 {d : Nat} {P : Option qV → qH → Prop} {X : Nat → qH → Prop} {I : qI} {H : qS} {μ : Int → Int} (hd : 1 ≤ d) {w : Int} (hS : Shp H) (hM : I 91 = μ) (hw : 0 ≤ w ∧ w < 20) (h : P (some (vi (μ (142 + 3 * w)))) (I, H)) :
    Call d 184 [vr (some 90) 10, vi w, vi 2] (I, H) P X := by
  obtain ⟨d, rfl⟩ : ∃ e, d = e + 1 := ⟨d - 1, by omega⟩
  have hl91 := hS.l91
  show WP (Call d) 184 P X (0, [some (vr (some 90) 10), some (vi w), some (vi 2)], [], (I, H), 0, 0)
  refine WP.go 10 (And.intro rfl (Exists.intro 91 (And.intro hS.r90_1 (Exists.intro (3 * w) (And.intro (wrp_a (by omega) (by omega)) (Exists.intro (140 + (3 * w)) (And.intro (wrp_a (by omega) (by omega)) (Exists.intro ((140 + (3 * w)) + 2) (And.intro (wrp_a (by omega) (by omega)) (And.intro (And.intro rfl (And.intro (show 0 ≤ (140 + (3 * w)) + 2 from by omega) (show (140 + (3 * w)) + 2 < H.2.1 91 from by omega))) (?_)))))))))))
  refine rw_i (Q := fun x9 => WP (Call d) 184 P X (10, [some (vr (some 90) 10), some (vi w), some (vi 2)], [vi x9], (I, H), 0, 0)) (show I 91 ((140 + (3 * w)) + 2) = μ (142 + 3 * w) from (congrFun hM _).trans (congrArg μ (by omega))) ?_
  show WP (Call d) 184 P X (10, [some (vr (some 90) 10), some (vi w), some (vi 2)], [vi (μ (142 + 3 * w))], (I, H), 0, 0)
  refine WP.go 1 (And.intro (And.intro (Nat.le_of_ble_eq_true rfl) (Nat.le_of_ble_eq_true rfl)) (And.intro trivial (?_)))
  show P (some (vi (μ (142 + 3 * w)))) (I, H)
  exact fin_i (by first | rfl | omega | exact zero_bz (by omega) | exact one_bz (by omega)) h

theorem s_12_houseOn {d : Nat} {P : Option qV → qH → Prop} {X : Nat → qH → Prop} {I : qI} {H : qS} {μ : Int → Int} (hd : 2 ≤ d) {c : Int} (hS : Shp H) (hM : I 91 = μ) (hV : IM μ) (h : P (some (vi (hON μ c (μ 1)))) (I, H)) :
    Call d 185 [vr (some 90) 10, vi c] (I, H) P X := by
  obtain ⟨d, rfl⟩ : ∃ e, d = e + 1 := ⟨d - 1, by omega⟩
  have hl91 := hS.l91
  have v1 := hV.n1
  show WP (Call d) 185 P X (0, [some (vr (some 90) 10), some (vi c), none], [], (I, H), 0, 0)
  refine WP.go 2 ?_
  show WP (Call d) 185 P X (2, [some (vr (some 90) 10), some (vi c), some (vi 0)], [], (I, H), 0, 0)
  have lp2 : ∀ (n9 : Nat) (k : Int) (hm : μ 1 - k < (n9 : Int)) (iv0 : 0 ≤ k ∧ k ≤ μ 1) (iv1 : hON μ c (μ 1) = fI (fun i => μ (120 + 2 * i) = c) k (μ 1)), WP (Call d) 185 P X (2, [some (vr (some 90) 10), some (vi c), some (vi k)], [], (I, H), 0, 0) := by
    intro n9
    induction n9 with
    | zero => intro k hm iv0 iv1; exact absurd hm (by omega)
    | succ n9 ih2 =>
      intro k hm iv0 iv1
      refine WP.go 5 (And.intro rfl (Exists.intro 91 (And.intro hS.r90_1 (And.intro (And.intro rfl (And.intro (show 0 ≤ 1 from by omega) (show 1 < H.2.1 91 from by omega))) (?_)))))
      refine rw_i (Q := fun x9 => WP (Call d) 185 P X (7, [some (vr (some 90) 10), some (vi c), some (vi k)], [vi x9, vi k], (I, H), 0, 0)) (congrFun hM _) ?_
      show WP (Call d) 185 P X (7, [some (vr (some 90) 10), some (vi c), some (vi k)], [vi (μ 1), vi k], (I, H), 0, 0)
      refine WP.go 1 (And.intro (fun (b7 : ¬ k < μ 1) => ?_) (fun (b7 : k < μ 1) => ?_))
      ·
        show WP (Call d) 185 P X (17, [some (vr (some 90) 10), some (vi c), some (vi k)], [], (I, H), 0, 0)
        refine WP.go 2 (And.intro (And.intro (Nat.le_of_ble_eq_true rfl) (Nat.le_of_ble_eq_true rfl)) (And.intro trivial (?_)))
        show P (some (vi (-1))) (I, H)
        exact fin_i (by rw [iv1, fI_nil (by omega)]) h
      ·
        show WP (Call d) 185 P X (8, [some (vr (some 90) 10), some (vi c), some (vi k)], [], (I, H), 0, 0)
        refine WP.go 3 (And.intro (And.intro (Nat.le_of_ble_eq_true rfl) (Nat.le_of_ble_eq_true rfl)) (And.intro rfl (?_)))
        show Call d 182 [vr (some 90) 10, vi k] (I, H) _ _
        refine s_12_cellOf (by omega) hS hM (by omega) ?_
        show WP (Call d) 185 P X (11, [some (vr (some 90) 10), some (vi c), some (vi k)], [vi (μ (120 + 2 * k))], (I, H), 0, 0)
        refine WP.go 2 (And.intro (fun (b12 : ¬ μ (120 + 2 * k) = c) => ?_) (fun (b12 : μ (120 + 2 * k) = c) => ?_))
        ·
          show WP (Call d) 185 P X (15, [some (vr (some 90) 10), some (vi c), some (vi k)], [], (I, H), 0, 0)
          refine WP.go 2 (Exists.intro (k + 1) (And.intro (wrp_a (by omega) (by omega)) (?_)))
          show WP (Call d) 185 P X (2, [some (vr (some 90) 10), some (vi c), some (vi (k + 1))], [], (I, H), 0, 0)
          exact ih2 (k + 1) (by omega) (by omega) (iv1.trans (fI_n (by omega) b12))
        ·
          show WP (Call d) 185 P X (13, [some (vr (some 90) 10), some (vi c), some (vi k)], [], (I, H), 0, 0)
          refine WP.go 2 (And.intro (And.intro (Nat.le_of_ble_eq_true rfl) (Nat.le_of_ble_eq_true rfl)) (And.intro trivial (?_)))
          show P (some (vi k)) (I, H)
          exact fin_i (iv1.trans (fI_s (by omega) b12)).symm h
  exact lp2 ((μ 1 - 0 : Int).toNat + 1) 0 (by omega) (by omega) rfl

theorem s_12_load {d : Nat} {P : Option qV → qH → Prop} {X : Nat → qH → Prop} {I : qI} {H : qS} {μ : Int → Int} (hd : 2 ≤ d) (hS : Shp H) (hM : I 91 = μ) (hV : IM μ) (h : P (some (vi (LOAD μ))) (I, H)) :
    Call d 209 [vr (some 90) 10] (I, H) P X := by
  obtain ⟨d, rfl⟩ : ∃ e, d = e + 1 := ⟨d - 1, by omega⟩
  have hl91 := hS.l91
  have hn1 := hV.n1
  show WP (Call d) 209 P X (0, [some (vr (some 90) 10), none, none], [], (I, H), 0, 0)
  refine WP.go 4 ?_
  show WP (Call d) 209 P X (4, [some (vr (some 90) 10), some (vi 0), some (vi 0)], [], (I, H), 0, 0)
  have lp4 : ∀ (n9 : Nat) (s9 : Int) (k : Int) (hm : μ 1 - k < (n9 : Int)) (iv0 : 0 ≤ k ∧ k ≤ μ 1) (iv1 : s9 = sI (fun i => μ (121 + 2 * i)) 0 k), WP (Call d) 209 P X (4, [some (vr (some 90) 10), some (vi s9), some (vi k)], [], (I, H), 0, 0) := by
    intro n9
    induction n9 with
    | zero => intro s9 k hm iv0 iv1; exact absurd hm (by omega)
    | succ n9 ih4 =>
      intro s9 k hm iv0 iv1
      have k1 := hsum_bd hV iv0.1 iv0.2
      refine WP.go 5 (And.intro rfl (Exists.intro 91 (And.intro hS.r90_1 (And.intro (And.intro rfl (And.intro (show 0 ≤ 1 from by omega) (show 1 < H.2.1 91 from by omega))) (?_)))))
      refine rw_i (Q := fun x9 => WP (Call d) 209 P X (9, [some (vr (some 90) 10), some (vi s9), some (vi k)], [vi x9, vi k], (I, H), 0, 0)) (congrFun hM _) ?_
      show WP (Call d) 209 P X (9, [some (vr (some 90) 10), some (vi s9), some (vi k)], [vi (μ 1), vi k], (I, H), 0, 0)
      refine WP.go 1 (And.intro (fun (b9 : ¬ k < μ 1) => ?_) (fun (b9 : k < μ 1) => ?_))
      ·
        show WP (Call d) 209 P X (18, [some (vr (some 90) 10), some (vi s9), some (vi k)], [], (I, H), 0, 0)
        refine WP.go 4 (Exists.intro (s9 / 40) (And.intro (tdiv_a (by omega) (by omega) (by omega)) (And.intro (And.intro (Nat.le_of_ble_eq_true rfl) (Nat.le_of_ble_eq_true rfl)) (And.intro trivial (?_)))))
        show P (some (vi (s9 / 40))) (I, H)
        exact fin_i (by unfold LOAD; rw [iv1, show k = μ 1 by omega]) h
      ·
        show WP (Call d) 209 P X (10, [some (vr (some 90) 10), some (vi s9), some (vi k)], [], (I, H), 0, 0)
        have k2 := hV.hh k iv0.1 (by omega)
        refine WP.go 4 (And.intro (And.intro (Nat.le_of_ble_eq_true rfl) (Nat.le_of_ble_eq_true rfl)) (And.intro rfl (?_)))
        show Call d 183 [vr (some 90) 10, vi k] (I, H) _ _
        refine s_12_heightOf (by omega) hS hM (by omega) ?_
        show WP (Call d) 209 P X (14, [some (vr (some 90) 10), some (vi s9), some (vi k)], [vi (μ (121 + 2 * k)), vi s9], (I, H), 0, 0)
        refine WP.go 4 (Exists.intro (s9 + (μ (121 + 2 * k))) (And.intro (wrp_a (by omega) (by omega)) (Exists.intro (k + 1) (And.intro (wrp_a (by omega) (by omega)) (?_)))))
        show WP (Call d) 209 P X (4, [some (vr (some 90) 10), some (vi (s9 + (μ (121 + 2 * k)))), some (vi (k + 1))], [], (I, H), 0, 0)
        exact ih4 (s9 + (μ (121 + 2 * k))) (k + 1) (by omega) (by omega) (by rw [sI_succ (by omega), ← iv1])
  exact lp4 ((μ 1 - 0 : Int).toNat + 1) 0 0 (by omega) (by omega) (sI_nil (by omega)).symm

theorem s_12_stopYear {d : Nat} {P : Option qV → qH → Prop} {X : Nat → qH → Prop} {I : qI} {H : qS} (hd : 1 ≤ d) (hS : Shp H) (h : P (some (vi (STP (I 96)))) (I, H)) :
    Call d 212 [vr (some 90) 10] (I, H) P X := by
  obtain ⟨d, rfl⟩ : ∃ e, d = e + 1 := ⟨d - 1, by omega⟩
  have hl96 := hS.l96
  show WP (Call d) 212 P X (0, [some (vr (some 90) 10), none], [], (I, H), 0, 0)
  refine WP.go 2 ?_
  show WP (Call d) 212 P X (2, [some (vr (some 90) 10), some (vi 99)], [], (I, H), 0, 0)
  have lp2 : ∀ (n9 : Nat) (y : Int) (hm : y < (n9 : Int)) (iv0 : 0 ≤ y ∧ y < 100) (iv1 : STP (I 96) = stN (I 96) y.toNat) (iv2 : I 96 y = I 96 99), WP (Call d) 212 P X (2, [some (vr (some 90) 10), some (vi y)], [], (I, H), 0, 0) := by
    intro n9
    induction n9 with
    | zero => intro y hm iv0 iv1 iv2; exact absurd hm (by omega)
    | succ n9 ih2 =>
      intro y hm iv0 iv1 iv2
      refine WP.go 2 (And.intro (fun (b3 : ¬ 0 < y) => ?_) (fun (b3 : 0 < y) => ?_))
      ·
        show WP (Call d) 212 P X (17, [some (vr (some 90) 10), some (vi y)], [], (I, H), 0, 0)
        refine WP.go 2 (And.intro (And.intro (Nat.le_of_ble_eq_true rfl) (Nat.le_of_ble_eq_true rfl)) (And.intro trivial (?_)))
        show P (some (vi y)) (I, H)
        exact fin_i (by rw [iv1, show y.toNat = 0 by omega, show y = 0 by omega]; rfl) h
      ·
        show WP (Call d) 212 P X (4, [some (vr (some 90) 10), some (vi y)], [], (I, H), 0, 0)
        refine WP.go 11 (And.intro rfl (Exists.intro 96 (And.intro hS.r90_24 (Exists.intro (y - 1) (And.intro (wrp_a (by omega) (by omega)) (And.intro (And.intro rfl (And.intro (show 0 ≤ y - 1 from by omega) (show y - 1 < H.2.1 96 from by omega))) (And.intro rfl (Exists.intro 96 (And.intro hS.r90_24 (And.intro (And.intro rfl (And.intro (show 0 ≤ 99 from by omega) (show 99 < H.2.1 96 from by omega))) (And.intro (fun (b14 : ¬ I 96 (y - 1) = I 96 99) => ?_) (fun (b14 : I 96 (y - 1) = I 96 99) => ?_))))))))))))
        ·
          show WP (Call d) 212 P X (17, [some (vr (some 90) 10), some (vi y)], [], (I, H), 0, 0)
          refine WP.go 2 (And.intro (And.intro (Nat.le_of_ble_eq_true rfl) (Nat.le_of_ble_eq_true rfl)) (And.intro trivial (?_)))
          show P (some (vi y)) (I, H)
          exact fin_i (by rw [iv1, stN_s (by omega), if_neg (fun q => b14 (q.trans iv2))]) h
        ·
          show WP (Call d) 212 P X (15, [some (vr (some 90) 10), some (vi y)], [], (I, H), 0, 0)
          refine WP.go 2 (Exists.intro (y - 1) (And.intro (wrp_a2 (by omega) (by omega) (by omega)) (?_)))
          show WP (Call d) 212 P X (2, [some (vr (some 90) 10), some (vi (y - 1))], [], (I, H), 0, 0)
          exact ih2 (y - 1) (by omega) (by omega) (by rw [iv1, stN_s (by omega), if_pos (b14.trans iv2.symm)]) b14
  exact lp2 ((99 : Int).toNat + 1) 99 (by omega) (by omega) rfl rfl

theorem s_12_towards {d : Nat} {P : Option qV → qH → Prop} {X : Nat → qH → Prop} {I : qI} {H : qS} (hd : 1 ≤ d) {p y : Int} (hS : Shp H) (hA : ∀ y, 0 ≤ y → y < 100 → 0 ≤ I 96 y ∧ I 96 y < 96) (hp : 0 ≤ p ∧ p < 96) (hy : 0 ≤ y ∧ y < 100) (h : P (some (vi (dirOf p ((I 96) y)))) (I, H)) :
    Call d 215 [vr (some 90) 10, vi p, vi y] (I, H) P X := by
  obtain ⟨d, rfl⟩ : ∃ e, d = e + 1 := ⟨d - 1, by omega⟩
  have hl96 := hS.l96
  have a1 := hA y hy.1 hy.2
  show WP (Call d) 215 P X (0, [some (vr (some 90) 10), some (vi p), some (vi y)], [], (I, H), 0, 0)
  refine WP.go 17 (And.intro rfl (Exists.intro 96 (And.intro hS.r90_24 (And.intro (And.intro rfl (And.intro (show 0 ≤ y from by omega) (show y < H.2.1 96 from by omega))) (Exists.intro (p - (I 96 y)) (And.intro (wrp_a (by omega) (by omega)) (Exists.intro ((p - (I 96 y)) + 96) (And.intro (wrp_a (by omega) (by omega)) (Exists.intro (((p - (I 96 y)) + 96) % 96) (And.intro (tmod_a (by omega) (by omega)) (Exists.intro ((((p - (I 96 y)) + 96) % 96) + 6) (And.intro (wrp_a (by omega) (by omega)) (Exists.intro (((((p - (I 96 y)) + 96) % 96) + 6) / 12) (And.intro (tdiv_a (by omega) (by omega) (by omega)) (Exists.intro ((((((p - (I 96 y)) + 96) % 96) + 6) / 12) % 8) (And.intro (tmod_a (by omega) (by omega)) (And.intro (And.intro (Nat.le_of_ble_eq_true rfl) (Nat.le_of_ble_eq_true rfl)) (And.intro trivial (?_)))))))))))))))))))
  show P (some (vi ((((((p - (I 96 y)) + 96) % 96) + 6) / 12) % 8))) (I, H)
  exact fin_i (by unfold dirOf; omega) h

theorem s_12_nameOf {d : Nat} {P : Option qV → qH → Prop} {X : Nat → qH → Prop} {I : qI} {H : qS} (hd : 1 ≤ d) {p y : Int} (hS : Shp H) (hA : ∀ y, 0 ≤ y → y < 100 → 0 ≤ I 96 y ∧ I 96 y < 96) (hp : 0 ≤ p ∧ p < 8) (hy : 0 ≤ y ∧ y < 100) (h : P (some (vi (namOf p ((I 96) y)))) (I, H)) :
    Call d 242 [vr (some 90) 10, vi p, vi y] (I, H) P X := by
  obtain ⟨d, rfl⟩ : ∃ e, d = e + 1 := ⟨d - 1, by omega⟩
  have hl96 := hS.l96
  have a1 := hA y hy.1 hy.2
  show WP (Call d) 242 P X (0, [some (vr (some 90) 10), some (vi p), some (vi y)], [], (I, H), 0, 0)
  refine WP.go 15 (Exists.intro (12 * p) (And.intro (wrp_a (by omega) (by omega)) (And.intro rfl (Exists.intro 96 (And.intro hS.r90_24 (And.intro (And.intro rfl (And.intro (show 0 ≤ y from by omega) (show y < H.2.1 96 from by omega))) (Exists.intro ((12 * p) + (I 96 y)) (And.intro (wrp_a (by omega) (by omega)) (Exists.intro (((12 * p) + (I 96 y)) + 6) (And.intro (wrp_a (by omega) (by omega)) (Exists.intro ((((12 * p) + (I 96 y)) + 6) / 12) (And.intro (tdiv_a (by omega) (by omega) (by omega)) (Exists.intro (((((12 * p) + (I 96 y)) + 6) / 12) % 8) (And.intro (tmod_a (by omega) (by omega)) (And.intro (And.intro (Nat.le_of_ble_eq_true rfl) (Nat.le_of_ble_eq_true rfl)) (And.intro trivial (?_)))))))))))))))))
  show P (some (vi (((((12 * p) + (I 96 y)) + 6) / 12) % 8))) (I, H)
  exact fin_i (by unfold namOf; omega) h

theorem s_12_isLit {d : Nat} {P : Option qV → qH → Prop} {X : Nat → qH → Prop} {I : qI} {H : qS} {μ : Int → Int} {tl tb : Int} (hd : 3 ≤ d) {w hr y9 : Int} (hS : Shp H) (hM : I 91 = μ) (hV : IM μ) (hA : ∀ y, 0 ≤ y → y < 100 → 0 ≤ I 96 y ∧ I 96 y < 96) (h29 : I 90 29 = tl) (h30 : I 90 30 = tb) (htb : 0 ≤ tb ∧ tb ≤ 29) (hw : 0 ≤ w ∧ w < μ 2) (hh : 0 ≤ hr ∧ hr < 13) (hy : 0 ≤ y9 ∧ y9 < 100) (h : P (some (vi (bz (LITp μ (I 96) (HTC μ tl tb) w hr y9)))) (I, H)) :
    Call d 218 [vr (some 90) 10, vi w, vi hr, vi y9] (I, H) P X := by
  obtain ⟨d, rfl⟩ : ∃ e, d = e + 1 := ⟨d - 1, by omega⟩
  have a1 := hA y9 hy.1 hy.2
  have v1 := hV.wf w hw.1 hw.2
  have v2 := hV.wu w hw.1 hw.2
  have v3 := hV.wh w hw.1 hw.2
  have v4 := hV.hc _ v3.1 v3.2
  have v5 := hV.n1
  have v6 := hV.n2
  have m1 := mn_b hr (12 - hr)
  have m2 := dirOf_bd (24 + 4 * hr) (I 96 y9)
  have s1 := sx_bd (dirOf (24 + 4 * hr) (I 96 y9))
  have s2 := sy_bd (dirOf (24 + 4 * hr) (I 96 y9))
  have ho : ((((dirOf (24 + 4 * hr) (I 96 y9)) - (μ (141 + 3 * w))) + 8) % 8 = 0 ∨ (((dirOf (24 + 4 * hr) (I 96 y9)) - (μ (141 + 3 * w))) + 8) % 8 = 1 ∨ (((dirOf (24 + 4 * hr) (I 96 y9)) - (μ (141 + 3 * w))) + 8) % 8 = 7) → (LITp μ (I 96) (HTC μ tl tb) w hr y9 ↔ ¬ SHD (HTC μ tl tb) (μ (120 + 2 * μ (140 + 3 * w))) (μ (142 + 3 * w)) (dirOf (24 + 4 * hr) (I 96 y9)) (1 + mn hr (12 - hr))) := fun q => ⟨fun z => z.2, fun z => ⟨by omega, z⟩⟩
  show WP (Call d) 218 P X (0, [some (vr (some 90) 10), some (vi w), some (vi hr), some (vi y9), none, none, none, none, none, none, none, none], [], (I, H), 0, 0)
  refine WP.go 8 (Exists.intro (4 * hr) (And.intro (wrp_a (by omega) (by omega)) (Exists.intro (24 + (4 * hr)) (And.intro (wrp_a (by omega) (by omega)) (And.intro (And.intro (Nat.le_of_ble_eq_true rfl) (Nat.le_of_ble_eq_true rfl)) (And.intro rfl (?_)))))))
  show Call d 215 [vr (some 90) 10, vi (24 + (4 * hr)), vi y9] (I, H) _ _
  refine s_12_towards (by omega) hS hA (by omega) (by omega) ?_
  show WP (Call d) 218 P X (8, [some (vr (some 90) 10), some (vi w), some (vi hr), some (vi y9), none, none, none, none, none, none, none, none], [vi (dirOf (24 + (4 * hr)) ((I 96) y9))], (I, H), 0, 0)
  refine WP.go 6 (And.intro (And.intro (Nat.le_of_ble_eq_true rfl) (Nat.le_of_ble_eq_true rfl)) (And.intro rfl (?_)))
  show Call d 184 [vr (some 90) 10, vi w, vi 1] (I, H) _ _
  refine s_12_ofWindow_1 (by omega) hS hM (by omega) ?_
  show WP (Call d) 218 P X (14, [some (vr (some 90) 10), some (vi w), some (vi hr), some (vi y9), some (vi (dirOf (24 + (4 * hr)) ((I 96) y9))), none, none, none, none, none, none, none], [vi (μ (141 + 3 * w)), vi (dirOf (24 + (4 * hr)) ((I 96) y9))], (I, H), 0, 0)
  refine WP.go 7 (Exists.intro ((dirOf (24 + (4 * hr)) ((I 96) y9)) - (μ (141 + 3 * w))) (And.intro (wrp_a (by omega) (by omega)) (Exists.intro (((dirOf (24 + (4 * hr)) ((I 96) y9)) - (μ (141 + 3 * w))) + 8) (And.intro (wrp_a (by omega) (by omega)) (Exists.intro ((((dirOf (24 + (4 * hr)) ((I 96) y9)) - (μ (141 + 3 * w))) + 8) % 8) (And.intro (tmod_a (by omega) (by omega)) (?_)))))))
  show WP (Call d) 218 P X (21, [some (vr (some 90) 10), some (vi w), some (vi hr), some (vi y9), some (vi (dirOf (24 + (4 * hr)) ((I 96) y9))), some (vi ((((dirOf (24 + (4 * hr)) ((I 96) y9)) - (μ (141 + 3 * w))) + 8) % 8)), none, none, none, none, none, none], [vi ((((dirOf (24 + (4 * hr)) ((I 96) y9)) - (μ (141 + 3 * w))) + 8) % 8)], (I, H), 0, 0)
  have ih30 : ∀  (qo : (((dirOf (24 + 4 * hr) (I 96 y9)) - (μ (141 + 3 * w))) + 8) % 8 = 0 ∨ (((dirOf (24 + 4 * hr) (I 96 y9)) - (μ (141 + 3 * w))) + 8) % 8 = 1 ∨ (((dirOf (24 + 4 * hr) (I 96 y9)) - (μ (141 + 3 * w))) + 8) % 8 = 7), WP (Call d) 218 P X (30, [some (vr (some 90) 10), some (vi w), some (vi hr), some (vi y9), some (vi (dirOf (24 + (4 * hr)) ((I 96) y9))), some (vi ((((dirOf (24 + (4 * hr)) ((I 96) y9)) - (μ (141 + 3 * w))) + 8) % 8)), none, none, none, none, none, none], [], (I, H), 0, 0) := by
    intro qo
    refine WP.go 5 (Exists.intro (12 - hr) (And.intro (wrp_a (by omega) (by omega)) (?_)))
    show WP (Call d) 218 P X (35, [some (vr (some 90) 10), some (vi w), some (vi hr), some (vi y9), some (vi (dirOf (24 + (4 * hr)) ((I 96) y9))), some (vi ((((dirOf (24 + (4 * hr)) ((I 96) y9)) - (μ (141 + 3 * w))) + 8) % 8)), none, none, none, none, none, none], [vi (12 - hr), vi hr, vi 1], (I, H), 0, 0)
    have ih41 : ∀ (hi : Int) (qh : hi = mn hr (12 - hr)), WP (Call d) 218 P X (41, [some (vr (some 90) 10), some (vi w), some (vi hr), some (vi y9), some (vi (dirOf (24 + (4 * hr)) ((I 96) y9))), some (vi ((((dirOf (24 + (4 * hr)) ((I 96) y9)) - (μ (141 + 3 * w))) + 8) % 8)), none, none, none, none, none, none], [vi hi, vi 1], (I, H), 0, 0) := by
      intro hi qh
      refine WP.go 1 (Exists.intro (1 + hi) (And.intro (wrp_a (by omega) (by omega)) (?_)))
      show WP (Call d) 218 P X (42, [some (vr (some 90) 10), some (vi w), some (vi hr), some (vi y9), some (vi (dirOf (24 + (4 * hr)) ((I 96) y9))), some (vi ((((dirOf (24 + (4 * hr)) ((I 96) y9)) - (μ (141 + 3 * w))) + 8) % 8)), none, none, none, none, none, none], [vi (1 + hi)], (I, H), 0, 0)
      refine rw_i (Q := fun x9 => WP (Call d) 218 P X (42, [some (vr (some 90) 10), some (vi w), some (vi hr), some (vi y9), some (vi (dirOf (24 + (4 * hr)) ((I 96) y9))), some (vi ((((dirOf (24 + (4 * hr)) ((I 96) y9)) - (μ (141 + 3 * w))) + 8) % 8)), none, none, none, none, none, none], [vi x9], (I, H), 0, 0)) (congrArg (1 + ·) qh) ?_
      show WP (Call d) 218 P X (42, [some (vr (some 90) 10), some (vi w), some (vi hr), some (vi y9), some (vi (dirOf (24 + (4 * hr)) ((I 96) y9))), some (vi ((((dirOf (24 + (4 * hr)) ((I 96) y9)) - (μ (141 + 3 * w))) + 8) % 8)), none, none, none, none, none, none], [vi (1 + mn hr (12 - hr))], (I, H), 0, 0)
      refine WP.go 6 (And.intro (And.intro (Nat.le_of_ble_eq_true rfl) (Nat.le_of_ble_eq_true rfl)) (And.intro rfl (?_)))
      show Call d 184 [vr (some 90) 10, vi w, vi 0] (I, H) _ _
      refine s_12_ofWindow_0 (by omega) hS hM (by omega) ?_
      show WP (Call d) 218 P X (48, [some (vr (some 90) 10), some (vi w), some (vi hr), some (vi y9), some (vi (dirOf (24 + (4 * hr)) ((I 96) y9))), some (vi ((((dirOf (24 + (4 * hr)) ((I 96) y9)) - (μ (141 + 3 * w))) + 8) % 8)), some (vi (1 + mn hr (12 - hr))), none, none, none, none, none], [vi (μ (140 + 3 * w)), vr (some 90) 10], (I, H), 0, 0)
      refine WP.go 1 (And.intro (And.intro (Nat.le_of_ble_eq_true rfl) (Nat.le_of_ble_eq_true rfl)) (And.intro rfl (?_)))
      show Call d 182 [vr (some 90) 10, vi (μ (140 + 3 * w))] (I, H) _ _
      refine s_12_cellOf (by omega) hS hM (by omega) ?_
      show WP (Call d) 218 P X (49, [some (vr (some 90) 10), some (vi w), some (vi hr), some (vi y9), some (vi (dirOf (24 + (4 * hr)) ((I 96) y9))), some (vi ((((dirOf (24 + (4 * hr)) ((I 96) y9)) - (μ (141 + 3 * w))) + 8) % 8)), some (vi (1 + mn hr (12 - hr))), none, none, none, none, none], [vi (μ (120 + 2 * (μ (140 + 3 * w))))], (I, H), 0, 0)
      refine WP.go 11 (Exists.intro ((μ (120 + 2 * (μ (140 + 3 * w)))) % 9) (And.intro (tmod_a (by omega) (by omega)) (Exists.intro ((μ (120 + 2 * (μ (140 + 3 * w)))) / 9) (And.intro (tdiv_a (by omega) (by omega) (by omega)) (?_)))))
      show WP (Call d) 218 P X (60, [some (vr (some 90) 10), some (vi w), some (vi hr), some (vi y9), some (vi (dirOf (24 + (4 * hr)) ((I 96) y9))), some (vi ((((dirOf (24 + (4 * hr)) ((I 96) y9)) - (μ (141 + 3 * w))) + 8) % 8)), some (vi (1 + mn hr (12 - hr))), some (vi (μ (120 + 2 * (μ (140 + 3 * w))))), some (vi ((μ (120 + 2 * (μ (140 + 3 * w)))) % 9)), some (vi ((μ (120 + 2 * (μ (140 + 3 * w)))) / 9)), some (vi 1), none], [], (I, H), 0, 0)
      have lp60 : ∀ (n9 : Nat) (x : Int) (y : Int) (k : Int) (hm : 9 - k < (n9 : Int)) (iv0 : 0 ≤ x ∧ x < 9 ∧ 0 ≤ y ∧ y < 9 ∧ 1 ≤ k ∧ k ≤ 9) (iv1 : SHD (HTC μ tl tb) (μ (120 + 2 * μ (140 + 3 * w))) (μ (142 + 3 * w)) (dirOf (24 + 4 * hr) (I 96 y9)) (1 + mn hr (12 - hr)) ↔ shN (HTC μ tl tb) (sx (dirOf (24 + 4 * hr) (I 96 y9))) (sy (dirOf (24 + 4 * hr) (I 96 y9))) (μ (142 + 3 * w)) (1 + mn hr (12 - hr)) (9 - k).toNat k x y), WP (Call d) 218 P X (60, [some (vr (some 90) 10), some (vi w), some (vi hr), some (vi y9), some (vi (dirOf (24 + (4 * hr)) ((I 96) y9))), some (vi ((((dirOf (24 + (4 * hr)) ((I 96) y9)) - (μ (141 + 3 * w))) + 8) % 8)), some (vi (1 + mn hr (12 - hr))), some (vi (μ (120 + 2 * (μ (140 + 3 * w))))), some (vi x), some (vi y), some (vi k), none], [], (I, H), 0, 0) := by
        intro n9
        induction n9 with
        | zero => intro x y k hm iv0 iv1; exact absurd hm (by omega)
        | succ n9 ih60 =>
          intro x y k hm iv0 iv1
          have m3 := mul_b2 (a := k) (b := 1 + mn hr (12 - hr)) (m := 9) (k := 7) (by omega) (by omega) (by omega) (by omega)
          refine WP.go 3 (And.intro (fun (b62 : ¬ k < 9) => ?_) (fun (b62 : k < 9) => ?_))
          ·
            show WP (Call d) 218 P X (121, [some (vr (some 90) 10), some (vi w), some (vi hr), some (vi y9), some (vi (dirOf (24 + (4 * hr)) ((I 96) y9))), some (vi ((((dirOf (24 + (4 * hr)) ((I 96) y9)) - (μ (141 + 3 * w))) + 8) % 8)), some (vi (1 + mn hr (12 - hr))), some (vi (μ (120 + 2 * (μ (140 + 3 * w))))), some (vi x), some (vi y), some (vi k), none], [], (I, H), 0, 0)
            refine WP.go 2 (And.intro (And.intro (Nat.le_of_ble_eq_true rfl) (Nat.le_of_ble_eq_true rfl)) (And.intro (Or.inr rfl) (?_)))
            show P (some (vi 1)) (I, H)
            exact fin_i (one_bz ((ho qo).mpr (fun q => shN_e (by omega) (iv1.mp q)))) h
          ·
            show WP (Call d) 218 P X (63, [some (vr (some 90) 10), some (vi w), some (vi hr), some (vi y9), some (vi (dirOf (24 + (4 * hr)) ((I 96) y9))), some (vi ((((dirOf (24 + (4 * hr)) ((I 96) y9)) - (μ (141 + 3 * w))) + 8) % 8)), some (vi (1 + mn hr (12 - hr))), some (vi (μ (120 + 2 * (μ (140 + 3 * w))))), some (vi x), some (vi y), some (vi k), none], [], (I, H), 0, 0)
            refine WP.go 3 (And.intro (And.intro (Nat.le_of_ble_eq_true rfl) (Nat.le_of_ble_eq_true rfl)) (And.intro rfl (?_)))
            show Call d 216 [vi (dirOf (24 + (4 * hr)) ((I 96) y9))] (I, H) _ _
            refine s_12_dx (by omega)  ?_
            show WP (Call d) 218 P X (66, [some (vr (some 90) 10), some (vi w), some (vi hr), some (vi y9), some (vi (dirOf (24 + (4 * hr)) ((I 96) y9))), some (vi ((((dirOf (24 + (4 * hr)) ((I 96) y9)) - (μ (141 + 3 * w))) + 8) % 8)), some (vi (1 + mn hr (12 - hr))), some (vi (μ (120 + 2 * (μ (140 + 3 * w))))), some (vi x), some (vi y), some (vi k), none], [vi (sx (dirOf (24 + (4 * hr)) ((I 96) y9))), vi x], (I, H), 0, 0)
            refine WP.go 5 (Exists.intro (x + (sx (dirOf (24 + (4 * hr)) ((I 96) y9)))) (And.intro (wrp_a (by omega) (by omega)) (And.intro (And.intro (Nat.le_of_ble_eq_true rfl) (Nat.le_of_ble_eq_true rfl)) (And.intro rfl (?_)))))
            show Call d 217 [vi (dirOf (24 + (4 * hr)) ((I 96) y9))] (I, H) _ _
            refine s_12_dy (by omega)  ?_
            show WP (Call d) 218 P X (71, [some (vr (some 90) 10), some (vi w), some (vi hr), some (vi y9), some (vi (dirOf (24 + (4 * hr)) ((I 96) y9))), some (vi ((((dirOf (24 + (4 * hr)) ((I 96) y9)) - (μ (141 + 3 * w))) + 8) % 8)), some (vi (1 + mn hr (12 - hr))), some (vi (μ (120 + 2 * (μ (140 + 3 * w))))), some (vi (x + (sx (dirOf (24 + (4 * hr)) ((I 96) y9))))), some (vi y), some (vi k), none], [vi (sy (dirOf (24 + (4 * hr)) ((I 96) y9))), vi y], (I, H), 0, 0)
            refine WP.go 6 (Exists.intro (y + (sy (dirOf (24 + (4 * hr)) ((I 96) y9)))) (And.intro (wrp_a (by omega) (by omega)) (And.intro (And.intro (Nat.le_of_ble_eq_true rfl) (Nat.le_of_ble_eq_true rfl)) (And.intro rfl (?_)))))
            show Call d 177 [vi (x + (sx (dirOf (24 + (4 * hr)) ((I 96) y9)))), vi 0, vi 8] (I, H) _ _
            refine s_12_isIn (by omega)  ?_
            show WP (Call d) 218 P X (77, [some (vr (some 90) 10), some (vi w), some (vi hr), some (vi y9), some (vi (dirOf (24 + (4 * hr)) ((I 96) y9))), some (vi ((((dirOf (24 + (4 * hr)) ((I 96) y9)) - (μ (141 + 3 * w))) + 8) % 8)), some (vi (1 + mn hr (12 - hr))), some (vi (μ (120 + 2 * (μ (140 + 3 * w))))), some (vi (x + (sx (dirOf (24 + (4 * hr)) ((I 96) y9))))), some (vi (y + (sy (dirOf (24 + (4 * hr)) ((I 96) y9))))), some (vi k), none], [vi (bz (0 ≤ (x + (sx (dirOf (24 + (4 * hr)) ((I 96) y9)))) ∧ (x + (sx (dirOf (24 + (4 * hr)) ((I 96) y9)))) ≤ 8))], (I, H), 0, 0)
            refine WP.go 1 (And.intro (fun (b77 : bz (0 ≤ (x + (sx (dirOf (24 + (4 * hr)) ((I 96) y9)))) ∧ (x + (sx (dirOf (24 + (4 * hr)) ((I 96) y9)))) ≤ 8) = 0) => ?_) (fun (b77 : ¬ bz (0 ≤ (x + (sx (dirOf (24 + (4 * hr)) ((I 96) y9)))) ∧ (x + (sx (dirOf (24 + (4 * hr)) ((I 96) y9)))) ≤ 8) = 0) => ?_))
            ·
              show WP (Call d) 218 P X (83, [some (vr (some 90) 10), some (vi w), some (vi hr), some (vi y9), some (vi (dirOf (24 + (4 * hr)) ((I 96) y9))), some (vi ((((dirOf (24 + (4 * hr)) ((I 96) y9)) - (μ (141 + 3 * w))) + 8) % 8)), some (vi (1 + mn hr (12 - hr))), some (vi (μ (120 + 2 * (μ (140 + 3 * w))))), some (vi (x + (sx (dirOf (24 + (4 * hr)) ((I 96) y9))))), some (vi (y + (sy (dirOf (24 + (4 * hr)) ((I 96) y9))))), some (vi k), none], [], (I, H), 0, 0)
              have z77 := bz_e0.mp b77
              refine WP.go 2 (And.intro (And.intro (Nat.le_of_ble_eq_true rfl) (Nat.le_of_ble_eq_true rfl)) (And.intro (Or.inr rfl) (?_)))
              show P (some (vi 1)) (I, H)
              exact fin_i (one_bz ((ho qo).mpr (fun q => shN_o (fun z => bz_e0.mp b77 ⟨by omega, by omega⟩) (iv1.mp q)))) h
            ·
              show WP (Call d) 218 P X (78, [some (vr (some 90) 10), some (vi w), some (vi hr), some (vi y9), some (vi (dirOf (24 + (4 * hr)) ((I 96) y9))), some (vi ((((dirOf (24 + (4 * hr)) ((I 96) y9)) - (μ (141 + 3 * w))) + 8) % 8)), some (vi (1 + mn hr (12 - hr))), some (vi (μ (120 + 2 * (μ (140 + 3 * w))))), some (vi (x + (sx (dirOf (24 + (4 * hr)) ((I 96) y9))))), some (vi (y + (sy (dirOf (24 + (4 * hr)) ((I 96) y9))))), some (vi k), none], [], (I, H), 0, 0)
              have z77 := bz_e1.mp b77
              refine WP.go 4 (And.intro (And.intro (Nat.le_of_ble_eq_true rfl) (Nat.le_of_ble_eq_true rfl)) (And.intro rfl (?_)))
              show Call d 177 [vi (y + (sy (dirOf (24 + (4 * hr)) ((I 96) y9)))), vi 0, vi 8] (I, H) _ _
              refine s_12_isIn (by omega)  ?_
              show WP (Call d) 218 P X (82, [some (vr (some 90) 10), some (vi w), some (vi hr), some (vi y9), some (vi (dirOf (24 + (4 * hr)) ((I 96) y9))), some (vi ((((dirOf (24 + (4 * hr)) ((I 96) y9)) - (μ (141 + 3 * w))) + 8) % 8)), some (vi (1 + mn hr (12 - hr))), some (vi (μ (120 + 2 * (μ (140 + 3 * w))))), some (vi (x + (sx (dirOf (24 + (4 * hr)) ((I 96) y9))))), some (vi (y + (sy (dirOf (24 + (4 * hr)) ((I 96) y9))))), some (vi k), none], [vi (bz (0 ≤ (y + (sy (dirOf (24 + (4 * hr)) ((I 96) y9)))) ∧ (y + (sy (dirOf (24 + (4 * hr)) ((I 96) y9)))) ≤ 8))], (I, H), 0, 0)
              refine WP.go 1 (And.intro (fun (b82 : ¬ bz (0 ≤ (y + (sy (dirOf (24 + (4 * hr)) ((I 96) y9)))) ∧ (y + (sy (dirOf (24 + (4 * hr)) ((I 96) y9)))) ≤ 8) = 0) => ?_) (fun (b82 : bz (0 ≤ (y + (sy (dirOf (24 + (4 * hr)) ((I 96) y9)))) ∧ (y + (sy (dirOf (24 + (4 * hr)) ((I 96) y9)))) ≤ 8) = 0) => ?_))
              ·
                show WP (Call d) 218 P X (85, [some (vr (some 90) 10), some (vi w), some (vi hr), some (vi y9), some (vi (dirOf (24 + (4 * hr)) ((I 96) y9))), some (vi ((((dirOf (24 + (4 * hr)) ((I 96) y9)) - (μ (141 + 3 * w))) + 8) % 8)), some (vi (1 + mn hr (12 - hr))), some (vi (μ (120 + 2 * (μ (140 + 3 * w))))), some (vi (x + (sx (dirOf (24 + (4 * hr)) ((I 96) y9))))), some (vi (y + (sy (dirOf (24 + (4 * hr)) ((I 96) y9))))), some (vi k), none], [], (I, H), 0, 0)
                have z82 := bz_e1.mp b82
                have w2 : 0 ≤ x + sx (dirOf (24 + 4 * hr) (I 96 y9)) ∧ x + sx (dirOf (24 + 4 * hr) (I 96 y9)) < 9 ∧ 0 ≤ y + sy (dirOf (24 + 4 * hr) (I 96 y9)) ∧ y + sy (dirOf (24 + 4 * hr) (I 96 y9)) < 9 := by
                  have w3 := bz_e1.mp b77
                  have w4 := bz_e1.mp b82
                  omega
                refine WP.go 7 (Exists.intro (9 * (y + (sy (dirOf (24 + (4 * hr)) ((I 96) y9))))) (And.intro (wrp_a (by omega) (by omega)) (Exists.intro ((9 * (y + (sy (dirOf (24 + (4 * hr)) ((I 96) y9))))) + (x + (sx (dirOf (24 + (4 * hr)) ((I 96) y9))))) (And.intro (wrp_a (by omega) (by omega)) (And.intro (And.intro (Nat.le_of_ble_eq_true rfl) (Nat.le_of_ble_eq_true rfl)) (And.intro rfl (?_)))))))
                show Call d 185 [vr (some 90) 10, vi ((9 * (y + (sy (dirOf (24 + (4 * hr)) ((I 96) y9))))) + (x + (sx (dirOf (24 + (4 * hr)) ((I 96) y9)))))] (I, H) _ _
                refine s_12_houseOn (by omega) hS hM hV ?_
                show WP (Call d) 218 P X (92, [some (vr (some 90) 10), some (vi w), some (vi hr), some (vi y9), some (vi (dirOf (24 + (4 * hr)) ((I 96) y9))), some (vi ((((dirOf (24 + (4 * hr)) ((I 96) y9)) - (μ (141 + 3 * w))) + 8) % 8)), some (vi (1 + mn hr (12 - hr))), some (vi (μ (120 + 2 * (μ (140 + 3 * w))))), some (vi (x + (sx (dirOf (24 + (4 * hr)) ((I 96) y9))))), some (vi (y + (sy (dirOf (24 + (4 * hr)) ((I 96) y9))))), some (vi k), none], [vi (hON μ ((9 * (y + (sy (dirOf (24 + (4 * hr)) ((I 96) y9))))) + (x + (sx (dirOf (24 + (4 * hr)) ((I 96) y9))))) (μ 1))], (I, H), 0, 0)
                refine WP.go 4 (And.intro (fun (b95 : hON μ ((9 * (y + (sy (dirOf (24 + (4 * hr)) ((I 96) y9))))) + (x + (sx (dirOf (24 + (4 * hr)) ((I 96) y9))))) (μ 1) = (-1)) => ?_) (fun (b95 : ¬ hON μ ((9 * (y + (sy (dirOf (24 + (4 * hr)) ((I 96) y9))))) + (x + (sx (dirOf (24 + (4 * hr)) ((I 96) y9))))) (μ 1) = (-1)) => ?_))
                ·
                  show WP (Call d) 218 P X (119, [some (vr (some 90) 10), some (vi w), some (vi hr), some (vi y9), some (vi (dirOf (24 + (4 * hr)) ((I 96) y9))), some (vi ((((dirOf (24 + (4 * hr)) ((I 96) y9)) - (μ (141 + 3 * w))) + 8) % 8)), some (vi (1 + mn hr (12 - hr))), some (vi (μ (120 + 2 * (μ (140 + 3 * w))))), some (vi (x + (sx (dirOf (24 + (4 * hr)) ((I 96) y9))))), some (vi (y + (sy (dirOf (24 + (4 * hr)) ((I 96) y9))))), some (vi k), some (vi (hON μ ((9 * (y + (sy (dirOf (24 + (4 * hr)) ((I 96) y9))))) + (x + (sx (dirOf (24 + (4 * hr)) ((I 96) y9))))) (μ 1)))], [], (I, H), 0, 0)
                  refine WP.go 2 (Exists.intro (k + 1) (And.intro (wrp_a (by omega) (by omega)) (?_)))
                  show WP (Call d) 218 P X (60, [some (vr (some 90) 10), some (vi w), some (vi hr), some (vi y9), some (vi (dirOf (24 + (4 * hr)) ((I 96) y9))), some (vi ((((dirOf (24 + (4 * hr)) ((I 96) y9)) - (μ (141 + 3 * w))) + 8) % 8)), some (vi (1 + mn hr (12 - hr))), some (vi (μ (120 + 2 * (μ (140 + 3 * w))))), some (vi (x + (sx (dirOf (24 + (4 * hr)) ((I 96) y9))))), some (vi (y + (sy (dirOf (24 + (4 * hr)) ((I 96) y9))))), some (vi (k + 1)), some (vi (hON μ ((9 * (y + (sy (dirOf (24 + (4 * hr)) ((I 96) y9))))) + (x + (sx (dirOf (24 + (4 * hr)) ((I 96) y9))))) (μ 1)))], [], (I, H), 0, 0)
                  refine WP.wk (L := [some (vr (some 90) 10), some (vi w), some (vi hr), some (vi y9), some (vi (dirOf (24 + (4 * hr)) ((I 96) y9))), some (vi ((((dirOf (24 + (4 * hr)) ((I 96) y9)) - (μ (141 + 3 * w))) + 8) % 8)), some (vi (1 + mn hr (12 - hr))), some (vi (μ (120 + 2 * (μ (140 + 3 * w))))), some (vi (x + (sx (dirOf (24 + (4 * hr)) ((I 96) y9))))), some (vi (y + (sy (dirOf (24 + (4 * hr)) ((I 96) y9))))), some (vi (k + 1)), none]) (And.intro rfl (And.intro rfl (And.intro rfl (And.intro rfl (And.intro rfl (And.intro rfl (And.intro rfl (And.intro rfl (And.intro rfl (And.intro rfl (And.intro rfl (And.intro trivial (trivial))))))))))))) ?_
                  show WP (Call d) 218 P X (60, [some (vr (some 90) 10), some (vi w), some (vi hr), some (vi y9), some (vi (dirOf (24 + (4 * hr)) ((I 96) y9))), some (vi ((((dirOf (24 + (4 * hr)) ((I 96) y9)) - (μ (141 + 3 * w))) + 8) % 8)), some (vi (1 + mn hr (12 - hr))), some (vi (μ (120 + 2 * (μ (140 + 3 * w))))), some (vi (x + (sx (dirOf (24 + (4 * hr)) ((I 96) y9))))), some (vi (y + (sy (dirOf (24 + (4 * hr)) ((I 96) y9))))), some (vi (k + 1)), none], [], (I, H), 0, 0)
                  exact ih60 (x + (sx (dirOf (24 + (4 * hr)) ((I 96) y9)))) (y + (sy (dirOf (24 + (4 * hr)) ((I 96) y9)))) (k + 1) (by omega) (by omega) (iv1.trans (shN_n (by omega) w2 (by rw [HTC_n b95]; omega)))
                ·
                  show WP (Call d) 218 P X (96, [some (vr (some 90) 10), some (vi w), some (vi hr), some (vi y9), some (vi (dirOf (24 + (4 * hr)) ((I 96) y9))), some (vi ((((dirOf (24 + (4 * hr)) ((I 96) y9)) - (μ (141 + 3 * w))) + 8) % 8)), some (vi (1 + mn hr (12 - hr))), some (vi (μ (120 + 2 * (μ (140 + 3 * w))))), some (vi (x + (sx (dirOf (24 + (4 * hr)) ((I 96) y9))))), some (vi (y + (sy (dirOf (24 + (4 * hr)) ((I 96) y9))))), some (vi k), some (vi (hON μ ((9 * (y + (sy (dirOf (24 + (4 * hr)) ((I 96) y9))))) + (x + (sx (dirOf (24 + (4 * hr)) ((I 96) y9))))) (μ 1)))], [], (I, H), 0, 0)
                  have w5 := (hON_r (μ := μ) (c := 9 * (y + sy (dirOf (24 + 4 * hr) (I 96 y9))) + (x + sx (dirOf (24 + 4 * hr) (I 96 y9)))) (k := μ 1) (by omega)).resolve_left (fun q => b95 q.1)
                  have w6 := hV.hh _ w5.1 w5.2.1
                  refine WP.go 3 (And.intro (And.intro (Nat.le_of_ble_eq_true rfl) (Nat.le_of_ble_eq_true rfl)) (And.intro rfl (?_)))
                  show Call d 183 [vr (some 90) 10, vi (hON μ ((9 * (y + (sy (dirOf (24 + (4 * hr)) ((I 96) y9))))) + (x + (sx (dirOf (24 + (4 * hr)) ((I 96) y9))))) (μ 1))] (I, H) _ _
                  refine s_12_heightOf (by omega) hS hM (by omega) ?_
                  show WP (Call d) 218 P X (99, [some (vr (some 90) 10), some (vi w), some (vi hr), some (vi y9), some (vi (dirOf (24 + (4 * hr)) ((I 96) y9))), some (vi ((((dirOf (24 + (4 * hr)) ((I 96) y9)) - (μ (141 + 3 * w))) + 8) % 8)), some (vi (1 + mn hr (12 - hr))), some (vi (μ (120 + 2 * (μ (140 + 3 * w))))), some (vi (x + (sx (dirOf (24 + (4 * hr)) ((I 96) y9))))), some (vi (y + (sy (dirOf (24 + (4 * hr)) ((I 96) y9))))), some (vi k), some (vi (hON μ ((9 * (y + (sy (dirOf (24 + (4 * hr)) ((I 96) y9))))) + (x + (sx (dirOf (24 + (4 * hr)) ((I 96) y9))))) (μ 1)))], [vi (μ (121 + 2 * (hON μ ((9 * (y + (sy (dirOf (24 + (4 * hr)) ((I 96) y9))))) + (x + (sx (dirOf (24 + (4 * hr)) ((I 96) y9))))) (μ 1))))], (I, H), 0, 0)
                  refine WP.go 3 (And.intro rfl (?_))
                  refine rw_i (Q := fun x9 => WP (Call d) 218 P X (102, [some (vr (some 90) 10), some (vi w), some (vi hr), some (vi y9), some (vi (dirOf (24 + (4 * hr)) ((I 96) y9))), some (vi ((((dirOf (24 + (4 * hr)) ((I 96) y9)) - (μ (141 + 3 * w))) + 8) % 8)), some (vi (1 + mn hr (12 - hr))), some (vi (μ (120 + 2 * (μ (140 + 3 * w))))), some (vi (x + (sx (dirOf (24 + (4 * hr)) ((I 96) y9))))), some (vi (y + (sy (dirOf (24 + (4 * hr)) ((I 96) y9))))), some (vi k), some (vi (hON μ ((9 * (y + (sy (dirOf (24 + (4 * hr)) ((I 96) y9))))) + (x + (sx (dirOf (24 + (4 * hr)) ((I 96) y9))))) (μ 1)))], [vi x9, vi (hON μ ((9 * (y + (sy (dirOf (24 + (4 * hr)) ((I 96) y9))))) + (x + (sx (dirOf (24 + (4 * hr)) ((I 96) y9))))) (μ 1)), vi (μ (121 + 2 * (hON μ ((9 * (y + (sy (dirOf (24 + (4 * hr)) ((I 96) y9))))) + (x + (sx (dirOf (24 + (4 * hr)) ((I 96) y9))))) (μ 1))))], (I, H), 0, 0)) h29 ?_
                  show WP (Call d) 218 P X (102, [some (vr (some 90) 10), some (vi w), some (vi hr), some (vi y9), some (vi (dirOf (24 + (4 * hr)) ((I 96) y9))), some (vi ((((dirOf (24 + (4 * hr)) ((I 96) y9)) - (μ (141 + 3 * w))) + 8) % 8)), some (vi (1 + mn hr (12 - hr))), some (vi (μ (120 + 2 * (μ (140 + 3 * w))))), some (vi (x + (sx (dirOf (24 + (4 * hr)) ((I 96) y9))))), some (vi (y + (sy (dirOf (24 + (4 * hr)) ((I 96) y9))))), some (vi k), some (vi (hON μ ((9 * (y + (sy (dirOf (24 + (4 * hr)) ((I 96) y9))))) + (x + (sx (dirOf (24 + (4 * hr)) ((I 96) y9))))) (μ 1)))], [vi tl, vi (hON μ ((9 * (y + (sy (dirOf (24 + (4 * hr)) ((I 96) y9))))) + (x + (sx (dirOf (24 + (4 * hr)) ((I 96) y9))))) (μ 1)), vi (μ (121 + 2 * (hON μ ((9 * (y + (sy (dirOf (24 + (4 * hr)) ((I 96) y9))))) + (x + (sx (dirOf (24 + (4 * hr)) ((I 96) y9))))) (μ 1))))], (I, H), 0, 0)
                  have ih107 : ∀ (ad : Int) (qa : ad = if hON μ (9 * (y + sy (dirOf (24 + 4 * hr) (I 96 y9))) + (x + sx (dirOf (24 + 4 * hr) (I 96 y9)))) (μ 1) = tl then tb else 0), WP (Call d) 218 P X (107, [some (vr (some 90) 10), some (vi w), some (vi hr), some (vi y9), some (vi (dirOf (24 + (4 * hr)) ((I 96) y9))), some (vi ((((dirOf (24 + (4 * hr)) ((I 96) y9)) - (μ (141 + 3 * w))) + 8) % 8)), some (vi (1 + mn hr (12 - hr))), some (vi (μ (120 + 2 * (μ (140 + 3 * w))))), some (vi (x + (sx (dirOf (24 + (4 * hr)) ((I 96) y9))))), some (vi (y + (sy (dirOf (24 + (4 * hr)) ((I 96) y9))))), some (vi k), some (vi (hON μ ((9 * (y + (sy (dirOf (24 + (4 * hr)) ((I 96) y9))))) + (x + (sx (dirOf (24 + (4 * hr)) ((I 96) y9))))) (μ 1)))], [vi ad, vi (μ (121 + 2 * (hON μ ((9 * (y + (sy (dirOf (24 + (4 * hr)) ((I 96) y9))))) + (x + (sx (dirOf (24 + (4 * hr)) ((I 96) y9))))) (μ 1))))], (I, H), 0, 0) := by
                    intro ad qa
                    have w7 : 0 ≤ ad ∧ ad ≤ 29 := by rw [qa]; split <;> omega
                    refine WP.go 5 (Exists.intro ((μ (121 + 2 * (hON μ ((9 * (y + (sy (dirOf (24 + (4 * hr)) ((I 96) y9))))) + (x + (sx (dirOf (24 + (4 * hr)) ((I 96) y9))))) (μ 1)))) + ad) (And.intro (wrp_a (by omega) (by omega)) (And.intro (And.intro (Nat.le_of_ble_eq_true rfl) (Nat.le_of_ble_eq_true rfl)) (And.intro rfl (?_)))))
                    show Call d 184 [vr (some 90) 10, vi w, vi 2] (I, H) _ _
                    refine s_12_ofWindow_2 (by omega) hS hM (by omega) ?_
                    show WP (Call d) 218 P X (112, [some (vr (some 90) 10), some (vi w), some (vi hr), some (vi y9), some (vi (dirOf (24 + (4 * hr)) ((I 96) y9))), some (vi ((((dirOf (24 + (4 * hr)) ((I 96) y9)) - (μ (141 + 3 * w))) + 8) % 8)), some (vi (1 + mn hr (12 - hr))), some (vi (μ (120 + 2 * (μ (140 + 3 * w))))), some (vi (x + (sx (dirOf (24 + (4 * hr)) ((I 96) y9))))), some (vi (y + (sy (dirOf (24 + (4 * hr)) ((I 96) y9))))), some (vi k), some (vi (hON μ ((9 * (y + (sy (dirOf (24 + (4 * hr)) ((I 96) y9))))) + (x + (sx (dirOf (24 + (4 * hr)) ((I 96) y9))))) (μ 1)))], [vi (μ (142 + 3 * w)), vi ((μ (121 + 2 * (hON μ ((9 * (y + (sy (dirOf (24 + (4 * hr)) ((I 96) y9))))) + (x + (sx (dirOf (24 + (4 * hr)) ((I 96) y9))))) (μ 1)))) + ad)], (I, H), 0, 0)
                    refine WP.go 5 (Exists.intro (((μ (121 + 2 * (hON μ ((9 * (y + (sy (dirOf (24 + (4 * hr)) ((I 96) y9))))) + (x + (sx (dirOf (24 + (4 * hr)) ((I 96) y9))))) (μ 1)))) + ad) - (μ (142 + 3 * w))) (And.intro (wrp_a (by omega) (by omega)) (Exists.intro (k * (1 + mn hr (12 - hr))) (And.intro (wrp_a (by omega) (by omega)) (And.intro (fun (b116 : ¬ k * (1 + mn hr (12 - hr)) < ((μ (121 + 2 * (hON μ ((9 * (y + (sy (dirOf (24 + (4 * hr)) ((I 96) y9))))) + (x + (sx (dirOf (24 + (4 * hr)) ((I 96) y9))))) (μ 1)))) + ad) - (μ (142 + 3 * w))) => ?_) (fun (b116 : k * (1 + mn hr (12 - hr)) < ((μ (121 + 2 * (hON μ ((9 * (y + (sy (dirOf (24 + (4 * hr)) ((I 96) y9))))) + (x + (sx (dirOf (24 + (4 * hr)) ((I 96) y9))))) (μ 1)))) + ad) - (μ (142 + 3 * w))) => ?_))))))
                    ·
                      show WP (Call d) 218 P X (119, [some (vr (some 90) 10), some (vi w), some (vi hr), some (vi y9), some (vi (dirOf (24 + (4 * hr)) ((I 96) y9))), some (vi ((((dirOf (24 + (4 * hr)) ((I 96) y9)) - (μ (141 + 3 * w))) + 8) % 8)), some (vi (1 + mn hr (12 - hr))), some (vi (μ (120 + 2 * (μ (140 + 3 * w))))), some (vi (x + (sx (dirOf (24 + (4 * hr)) ((I 96) y9))))), some (vi (y + (sy (dirOf (24 + (4 * hr)) ((I 96) y9))))), some (vi k), some (vi (hON μ ((9 * (y + (sy (dirOf (24 + (4 * hr)) ((I 96) y9))))) + (x + (sx (dirOf (24 + (4 * hr)) ((I 96) y9))))) (μ 1)))], [], (I, H), 0, 0)
                      refine WP.go 2 (Exists.intro (k + 1) (And.intro (wrp_a (by omega) (by omega)) (?_)))
                      show WP (Call d) 218 P X (60, [some (vr (some 90) 10), some (vi w), some (vi hr), some (vi y9), some (vi (dirOf (24 + (4 * hr)) ((I 96) y9))), some (vi ((((dirOf (24 + (4 * hr)) ((I 96) y9)) - (μ (141 + 3 * w))) + 8) % 8)), some (vi (1 + mn hr (12 - hr))), some (vi (μ (120 + 2 * (μ (140 + 3 * w))))), some (vi (x + (sx (dirOf (24 + (4 * hr)) ((I 96) y9))))), some (vi (y + (sy (dirOf (24 + (4 * hr)) ((I 96) y9))))), some (vi (k + 1)), some (vi (hON μ ((9 * (y + (sy (dirOf (24 + (4 * hr)) ((I 96) y9))))) + (x + (sx (dirOf (24 + (4 * hr)) ((I 96) y9))))) (μ 1)))], [], (I, H), 0, 0)
                      refine WP.wk (L := [some (vr (some 90) 10), some (vi w), some (vi hr), some (vi y9), some (vi (dirOf (24 + (4 * hr)) ((I 96) y9))), some (vi ((((dirOf (24 + (4 * hr)) ((I 96) y9)) - (μ (141 + 3 * w))) + 8) % 8)), some (vi (1 + mn hr (12 - hr))), some (vi (μ (120 + 2 * (μ (140 + 3 * w))))), some (vi (x + (sx (dirOf (24 + (4 * hr)) ((I 96) y9))))), some (vi (y + (sy (dirOf (24 + (4 * hr)) ((I 96) y9))))), some (vi (k + 1)), none]) (And.intro rfl (And.intro rfl (And.intro rfl (And.intro rfl (And.intro rfl (And.intro rfl (And.intro rfl (And.intro rfl (And.intro rfl (And.intro rfl (And.intro rfl (And.intro trivial (trivial))))))))))))) ?_
                      show WP (Call d) 218 P X (60, [some (vr (some 90) 10), some (vi w), some (vi hr), some (vi y9), some (vi (dirOf (24 + (4 * hr)) ((I 96) y9))), some (vi ((((dirOf (24 + (4 * hr)) ((I 96) y9)) - (μ (141 + 3 * w))) + 8) % 8)), some (vi (1 + mn hr (12 - hr))), some (vi (μ (120 + 2 * (μ (140 + 3 * w))))), some (vi (x + (sx (dirOf (24 + (4 * hr)) ((I 96) y9))))), some (vi (y + (sy (dirOf (24 + (4 * hr)) ((I 96) y9))))), some (vi (k + 1)), none], [], (I, H), 0, 0)
                      exact ih60 (x + (sx (dirOf (24 + (4 * hr)) ((I 96) y9)))) (y + (sy (dirOf (24 + (4 * hr)) ((I 96) y9)))) (k + 1) (by omega) (by omega) (iv1.trans (shN_n (by omega) w2 (by rw [HTC_y b95, ← qa]; omega)))
                    ·
                      show WP (Call d) 218 P X (117, [some (vr (some 90) 10), some (vi w), some (vi hr), some (vi y9), some (vi (dirOf (24 + (4 * hr)) ((I 96) y9))), some (vi ((((dirOf (24 + (4 * hr)) ((I 96) y9)) - (μ (141 + 3 * w))) + 8) % 8)), some (vi (1 + mn hr (12 - hr))), some (vi (μ (120 + 2 * (μ (140 + 3 * w))))), some (vi (x + (sx (dirOf (24 + (4 * hr)) ((I 96) y9))))), some (vi (y + (sy (dirOf (24 + (4 * hr)) ((I 96) y9))))), some (vi k), some (vi (hON μ ((9 * (y + (sy (dirOf (24 + (4 * hr)) ((I 96) y9))))) + (x + (sx (dirOf (24 + (4 * hr)) ((I 96) y9))))) (μ 1)))], [], (I, H), 0, 0)
                      refine WP.go 2 (And.intro (And.intro (Nat.le_of_ble_eq_true rfl) (Nat.le_of_ble_eq_true rfl)) (And.intro (Or.inl rfl) (?_)))
                      show P (some (vi 0)) (I, H)
                      exact fin_i (zero_bz (fun q => (ho qo).mp q (iv1.mpr ((shN_s (by omega)).mpr ⟨w2, .inl (by rw [HTC_y b95, ← qa]; omega)⟩)))) h
                  refine WP.go 1 (And.intro (fun (b102 : ¬ hON μ ((9 * (y + (sy (dirOf (24 + (4 * hr)) ((I 96) y9))))) + (x + (sx (dirOf (24 + (4 * hr)) ((I 96) y9))))) (μ 1) = tl) => ?_) (fun (b102 : hON μ ((9 * (y + (sy (dirOf (24 + (4 * hr)) ((I 96) y9))))) + (x + (sx (dirOf (24 + (4 * hr)) ((I 96) y9))))) (μ 1) = tl) => ?_))
                  ·
                    show WP (Call d) 218 P X (106, [some (vr (some 90) 10), some (vi w), some (vi hr), some (vi y9), some (vi (dirOf (24 + (4 * hr)) ((I 96) y9))), some (vi ((((dirOf (24 + (4 * hr)) ((I 96) y9)) - (μ (141 + 3 * w))) + 8) % 8)), some (vi (1 + mn hr (12 - hr))), some (vi (μ (120 + 2 * (μ (140 + 3 * w))))), some (vi (x + (sx (dirOf (24 + (4 * hr)) ((I 96) y9))))), some (vi (y + (sy (dirOf (24 + (4 * hr)) ((I 96) y9))))), some (vi k), some (vi (hON μ ((9 * (y + (sy (dirOf (24 + (4 * hr)) ((I 96) y9))))) + (x + (sx (dirOf (24 + (4 * hr)) ((I 96) y9))))) (μ 1)))], [vi (μ (121 + 2 * (hON μ ((9 * (y + (sy (dirOf (24 + (4 * hr)) ((I 96) y9))))) + (x + (sx (dirOf (24 + (4 * hr)) ((I 96) y9))))) (μ 1))))], (I, H), 0, 0)
                    refine WP.go 1 ?_
                    show WP (Call d) 218 P X (107, [some (vr (some 90) 10), some (vi w), some (vi hr), some (vi y9), some (vi (dirOf (24 + (4 * hr)) ((I 96) y9))), some (vi ((((dirOf (24 + (4 * hr)) ((I 96) y9)) - (μ (141 + 3 * w))) + 8) % 8)), some (vi (1 + mn hr (12 - hr))), some (vi (μ (120 + 2 * (μ (140 + 3 * w))))), some (vi (x + (sx (dirOf (24 + (4 * hr)) ((I 96) y9))))), some (vi (y + (sy (dirOf (24 + (4 * hr)) ((I 96) y9))))), some (vi k), some (vi (hON μ ((9 * (y + (sy (dirOf (24 + (4 * hr)) ((I 96) y9))))) + (x + (sx (dirOf (24 + (4 * hr)) ((I 96) y9))))) (μ 1)))], [vi 0, vi (μ (121 + 2 * (hON μ ((9 * (y + (sy (dirOf (24 + (4 * hr)) ((I 96) y9))))) + (x + (sx (dirOf (24 + (4 * hr)) ((I 96) y9))))) (μ 1))))], (I, H), 0, 0)
                    exact ih107 0 (if_neg b102).symm
                  ·
                    show WP (Call d) 218 P X (103, [some (vr (some 90) 10), some (vi w), some (vi hr), some (vi y9), some (vi (dirOf (24 + (4 * hr)) ((I 96) y9))), some (vi ((((dirOf (24 + (4 * hr)) ((I 96) y9)) - (μ (141 + 3 * w))) + 8) % 8)), some (vi (1 + mn hr (12 - hr))), some (vi (μ (120 + 2 * (μ (140 + 3 * w))))), some (vi (x + (sx (dirOf (24 + (4 * hr)) ((I 96) y9))))), some (vi (y + (sy (dirOf (24 + (4 * hr)) ((I 96) y9))))), some (vi k), some (vi (hON μ ((9 * (y + (sy (dirOf (24 + (4 * hr)) ((I 96) y9))))) + (x + (sx (dirOf (24 + (4 * hr)) ((I 96) y9))))) (μ 1)))], [vi (μ (121 + 2 * (hON μ ((9 * (y + (sy (dirOf (24 + (4 * hr)) ((I 96) y9))))) + (x + (sx (dirOf (24 + (4 * hr)) ((I 96) y9))))) (μ 1))))], (I, H), 0, 0)
                    refine WP.go 2 (And.intro rfl (?_))
                    refine rw_i (Q := fun x9 => WP (Call d) 218 P X (105, [some (vr (some 90) 10), some (vi w), some (vi hr), some (vi y9), some (vi (dirOf (24 + (4 * hr)) ((I 96) y9))), some (vi ((((dirOf (24 + (4 * hr)) ((I 96) y9)) - (μ (141 + 3 * w))) + 8) % 8)), some (vi (1 + mn hr (12 - hr))), some (vi (μ (120 + 2 * (μ (140 + 3 * w))))), some (vi (x + (sx (dirOf (24 + (4 * hr)) ((I 96) y9))))), some (vi (y + (sy (dirOf (24 + (4 * hr)) ((I 96) y9))))), some (vi k), some (vi (hON μ ((9 * (y + (sy (dirOf (24 + (4 * hr)) ((I 96) y9))))) + (x + (sx (dirOf (24 + (4 * hr)) ((I 96) y9))))) (μ 1)))], [vi x9, vi (μ (121 + 2 * (hON μ ((9 * (y + (sy (dirOf (24 + (4 * hr)) ((I 96) y9))))) + (x + (sx (dirOf (24 + (4 * hr)) ((I 96) y9))))) (μ 1))))], (I, H), 0, 0)) h30 ?_
                    show WP (Call d) 218 P X (105, [some (vr (some 90) 10), some (vi w), some (vi hr), some (vi y9), some (vi (dirOf (24 + (4 * hr)) ((I 96) y9))), some (vi ((((dirOf (24 + (4 * hr)) ((I 96) y9)) - (μ (141 + 3 * w))) + 8) % 8)), some (vi (1 + mn hr (12 - hr))), some (vi (μ (120 + 2 * (μ (140 + 3 * w))))), some (vi (x + (sx (dirOf (24 + (4 * hr)) ((I 96) y9))))), some (vi (y + (sy (dirOf (24 + (4 * hr)) ((I 96) y9))))), some (vi k), some (vi (hON μ ((9 * (y + (sy (dirOf (24 + (4 * hr)) ((I 96) y9))))) + (x + (sx (dirOf (24 + (4 * hr)) ((I 96) y9))))) (μ 1)))], [vi tb, vi (μ (121 + 2 * (hON μ ((9 * (y + (sy (dirOf (24 + (4 * hr)) ((I 96) y9))))) + (x + (sx (dirOf (24 + (4 * hr)) ((I 96) y9))))) (μ 1))))], (I, H), 0, 0)
                    refine WP.go 1 ?_
                    show WP (Call d) 218 P X (107, [some (vr (some 90) 10), some (vi w), some (vi hr), some (vi y9), some (vi (dirOf (24 + (4 * hr)) ((I 96) y9))), some (vi ((((dirOf (24 + (4 * hr)) ((I 96) y9)) - (μ (141 + 3 * w))) + 8) % 8)), some (vi (1 + mn hr (12 - hr))), some (vi (μ (120 + 2 * (μ (140 + 3 * w))))), some (vi (x + (sx (dirOf (24 + (4 * hr)) ((I 96) y9))))), some (vi (y + (sy (dirOf (24 + (4 * hr)) ((I 96) y9))))), some (vi k), some (vi (hON μ ((9 * (y + (sy (dirOf (24 + (4 * hr)) ((I 96) y9))))) + (x + (sx (dirOf (24 + (4 * hr)) ((I 96) y9))))) (μ 1)))], [vi tb, vi (μ (121 + 2 * (hON μ ((9 * (y + (sy (dirOf (24 + (4 * hr)) ((I 96) y9))))) + (x + (sx (dirOf (24 + (4 * hr)) ((I 96) y9))))) (μ 1))))], (I, H), 0, 0)
                    exact ih107 tb (if_pos b102).symm
              ·
                show WP (Call d) 218 P X (83, [some (vr (some 90) 10), some (vi w), some (vi hr), some (vi y9), some (vi (dirOf (24 + (4 * hr)) ((I 96) y9))), some (vi ((((dirOf (24 + (4 * hr)) ((I 96) y9)) - (μ (141 + 3 * w))) + 8) % 8)), some (vi (1 + mn hr (12 - hr))), some (vi (μ (120 + 2 * (μ (140 + 3 * w))))), some (vi (x + (sx (dirOf (24 + (4 * hr)) ((I 96) y9))))), some (vi (y + (sy (dirOf (24 + (4 * hr)) ((I 96) y9))))), some (vi k), none], [], (I, H), 0, 0)
                have z82 := bz_e0.mp b82
                refine WP.go 2 (And.intro (And.intro (Nat.le_of_ble_eq_true rfl) (Nat.le_of_ble_eq_true rfl)) (And.intro (Or.inr rfl) (?_)))
                show P (some (vi 1)) (I, H)
                exact fin_i (one_bz ((ho qo).mpr (fun q => shN_o (fun z => bz_e0.mp b82 ⟨by omega, by omega⟩) (iv1.mp q)))) h
      exact lp60 ((9 - 1 : Int).toNat + 1) ((μ (120 + 2 * (μ (140 + 3 * w)))) % 9) ((μ (120 + 2 * (μ (140 + 3 * w)))) / 9) 1 (by omega) (by omega) Iff.rfl
    refine WP.go 1 (And.intro (fun (b35 : ¬ hr < 12 - hr) => ?_) (fun (b35 : hr < 12 - hr) => ?_))
    ·
      show WP (Call d) 218 P X (38, [some (vr (some 90) 10), some (vi w), some (vi hr), some (vi y9), some (vi (dirOf (24 + (4 * hr)) ((I 96) y9))), some (vi ((((dirOf (24 + (4 * hr)) ((I 96) y9)) - (μ (141 + 3 * w))) + 8) % 8)), none, none, none, none, none, none], [vi 1], (I, H), 0, 0)
      refine WP.go 3 (Exists.intro (12 - hr) (And.intro (wrp_a (by omega) (by omega)) (?_)))
      show WP (Call d) 218 P X (41, [some (vr (some 90) 10), some (vi w), some (vi hr), some (vi y9), some (vi (dirOf (24 + (4 * hr)) ((I 96) y9))), some (vi ((((dirOf (24 + (4 * hr)) ((I 96) y9)) - (μ (141 + 3 * w))) + 8) % 8)), none, none, none, none, none, none], [vi (12 - hr), vi 1], (I, H), 0, 0)
      exact ih41 (12 - hr) (by omega)
    ·
      show WP (Call d) 218 P X (36, [some (vr (some 90) 10), some (vi w), some (vi hr), some (vi y9), some (vi (dirOf (24 + (4 * hr)) ((I 96) y9))), some (vi ((((dirOf (24 + (4 * hr)) ((I 96) y9)) - (μ (141 + 3 * w))) + 8) % 8)), none, none, none, none, none, none], [vi 1], (I, H), 0, 0)
      refine WP.go 2 ?_
      show WP (Call d) 218 P X (41, [some (vr (some 90) 10), some (vi w), some (vi hr), some (vi y9), some (vi (dirOf (24 + (4 * hr)) ((I 96) y9))), some (vi ((((dirOf (24 + (4 * hr)) ((I 96) y9)) - (μ (141 + 3 * w))) + 8) % 8)), none, none, none, none, none, none], [vi hr, vi 1], (I, H), 0, 0)
      exact ih41 hr (by omega)
  refine WP.go 1 (And.intro (fun (b21 : (((dirOf (24 + (4 * hr)) ((I 96) y9)) - (μ (141 + 3 * w))) + 8) % 8 = 0) => ?_) (fun (b21 : ¬ (((dirOf (24 + (4 * hr)) ((I 96) y9)) - (μ (141 + 3 * w))) + 8) % 8 = 0) => ?_))
  ·
    show WP (Call d) 218 P X (30, [some (vr (some 90) 10), some (vi w), some (vi hr), some (vi y9), some (vi (dirOf (24 + (4 * hr)) ((I 96) y9))), some (vi ((((dirOf (24 + (4 * hr)) ((I 96) y9)) - (μ (141 + 3 * w))) + 8) % 8)), none, none, none, none, none, none], [], (I, H), 0, 0)
    exact ih30  (by omega)
  ·
    show WP (Call d) 218 P X (22, [some (vr (some 90) 10), some (vi w), some (vi hr), some (vi y9), some (vi (dirOf (24 + (4 * hr)) ((I 96) y9))), some (vi ((((dirOf (24 + (4 * hr)) ((I 96) y9)) - (μ (141 + 3 * w))) + 8) % 8)), none, none, none, none, none, none], [], (I, H), 0, 0)
    refine WP.go 3 (And.intro (fun (b24 : (((dirOf (24 + (4 * hr)) ((I 96) y9)) - (μ (141 + 3 * w))) + 8) % 8 = 1) => ?_) (fun (b24 : ¬ (((dirOf (24 + (4 * hr)) ((I 96) y9)) - (μ (141 + 3 * w))) + 8) % 8 = 1) => ?_))
    ·
      show WP (Call d) 218 P X (30, [some (vr (some 90) 10), some (vi w), some (vi hr), some (vi y9), some (vi (dirOf (24 + (4 * hr)) ((I 96) y9))), some (vi ((((dirOf (24 + (4 * hr)) ((I 96) y9)) - (μ (141 + 3 * w))) + 8) % 8)), none, none, none, none, none, none], [], (I, H), 0, 0)
      exact ih30  (by omega)
    ·
      show WP (Call d) 218 P X (25, [some (vr (some 90) 10), some (vi w), some (vi hr), some (vi y9), some (vi (dirOf (24 + (4 * hr)) ((I 96) y9))), some (vi ((((dirOf (24 + (4 * hr)) ((I 96) y9)) - (μ (141 + 3 * w))) + 8) % 8)), none, none, none, none, none, none], [], (I, H), 0, 0)
      refine WP.go 3 (And.intro (fun (b27 : (((dirOf (24 + (4 * hr)) ((I 96) y9)) - (μ (141 + 3 * w))) + 8) % 8 = 7) => ?_) (fun (b27 : ¬ (((dirOf (24 + (4 * hr)) ((I 96) y9)) - (μ (141 + 3 * w))) + 8) % 8 = 7) => ?_))
      ·
        show WP (Call d) 218 P X (30, [some (vr (some 90) 10), some (vi w), some (vi hr), some (vi y9), some (vi (dirOf (24 + (4 * hr)) ((I 96) y9))), some (vi ((((dirOf (24 + (4 * hr)) ((I 96) y9)) - (μ (141 + 3 * w))) + 8) % 8)), none, none, none, none, none, none], [], (I, H), 0, 0)
        exact ih30  (by omega)
      ·
        show WP (Call d) 218 P X (28, [some (vr (some 90) 10), some (vi w), some (vi hr), some (vi y9), some (vi (dirOf (24 + (4 * hr)) ((I 96) y9))), some (vi ((((dirOf (24 + (4 * hr)) ((I 96) y9)) - (μ (141 + 3 * w))) + 8) % 8)), none, none, none, none, none, none], [], (I, H), 0, 0)
        refine WP.go 2 (And.intro (And.intro (Nat.le_of_ble_eq_true rfl) (Nat.le_of_ble_eq_true rfl)) (And.intro (Or.inl rfl) (?_)))
        show P (some (vi 0)) (I, H)
        exact fin_i (zero_bz (fun q => by have := q.1; omega)) h

