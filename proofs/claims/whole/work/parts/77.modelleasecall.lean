/-- a lease's text laid down, k bytes of it -/
def lbt (μ : Int → Int) (t n : Int) (tb : Int → Int) (k : Int) : Int → Int := fun j => if j = t then n else if t + 1 ≤ j ∧ j < t + 1 + k then tb (j - t - 1) else μ j
theorem lbt_0 {J : qI} {μ : Int → Int} (hM : J 91 = μ) (t n : Int) (tb : Int → Int) : (upI J 91 t n) 91 = lbt μ t n tb 0 := by
  rw [upI_self, hM]
  refine funext fun j => ?_
  unfold lbt
  by_cases z : j = t
  · rw [if_pos z, if_pos z]
  · rw [if_neg z, if_neg z, if_neg (by omega)]
theorem lbt_s {K : qI} {μ : Int → Int} {t n k i : Int} {tb : Int → Int} (hK : K 91 = lbt μ t n tb k) (h : 0 ≤ k) (hi : i = t + 1 + k) : (upI K 91 i (tb k)) 91 = lbt μ t n tb (k + 1) := by
  rw [upI_self, hK]
  refine funext fun j => ?_
  unfold lbt
  by_cases z : j = i
  · rw [if_pos z, if_neg (by omega), if_pos (by omega)]
    exact congrArg tb (by omega)
  · rw [if_neg z]
    by_cases w : j = t
    · rw [if_pos w, if_pos w]
    · rw [if_neg w, if_neg w]
      by_cases x : t + 1 ≤ j ∧ j < t + 1 + k
      · rw [if_pos x, if_pos (by omega)]
      · rw [if_neg x, if_neg (by omega)]
def uLea (μ : Int → Int) (tb : Int → Int) (n : Int) : Int → Int := st (lbt μ (546 + 401 * μ 3) n tb n) 3 (1 + μ 3)
/-- the reference's tape is used up, the wrong byte told, its row is ν; pays may have moved -/
def ML (I J : qI) (w : Int) (ν : Int → Int) : Prop := (∀ a, a < 90 ∨ a = 92 ∨ a = 94 ∨ a = 95 ∨ 100 ≤ a → J a = I a) ∧ (∀ s, s = 3 ∨ (13 ≤ s ∧ s ≤ 15) → J 90 s = I 90 s) ∧ J 90 6 = 0 ∧ J 90 10 = w ∧ MS J ∧ J 91 = ν ∧ (-120000000 ≤ J 90 17 - I 90 17 ∧ J 90 17 - I 90 17 ≤ 120000000)
theorem s_12_lease {d : Nat} {P : Option qV → qH → Prop} {X : Nat → qH → Prop} {I : qI} {H : qS} {μ : Int → Int} (hd : 46 ≤ d) {tb F : Int → Int} {n : Int} (hS : Shp H) (hM : I 91 = μ) (hV : IM μ) (hK : MS I) (h6 : I 90 6 = n) (hnn : 0 ≤ n ∧ n ≤ 400) (hby : ∀ j, 0 ≤ j → j < n → 0 ≤ tb j ∧ tb j ≤ 255) (hta : ∀ j, 0 ≤ j → j < n → I 94 j = tb j) (hfr : FR I F) (hFB : FB F) (hY : -900000000000000 ≤ I 90 17 ∧ I 90 17 ≤ 900000000000000) (h : (((lnT tb n (lln tb n) ls0).1 = -1 → μ 3 < 6 → ∀ J : qI, ML I J (-1) (uLea μ tb n) → J 90 0 = 0 → P (some (vi (μ 3))) (J, H)) ∧ ((lnT tb n (lln tb n) ls0).1 ≠ -1 → ∀ J : qI, ML I J (lnT tb n (lln tb n) ls0).1 μ → J 90 0 = 1 → P (some (vi 0)) (J, H)) ∧ ((lnT tb n (lln tb n) ls0).1 = -1 → ¬ μ 3 < 6 → ∀ J : qI, ML I J (-1) μ → J 90 0 = 2 → P (some (vi 0)) (J, H)))) :
    Call d 206 [vr (some 90) 10] (I, H) P X := by
  obtain ⟨d, rfl⟩ : ∃ e, d = e + 1 := ⟨d - 1, by omega⟩
  have hl91 := hS.l91
  have hl94 := hS.l94
  have hn3 := hV.n3
  show WP (Call d) 206 P X (0, [some (vr (some 90) 10), none, none, none], [], (I, H), 0, 0)
  refine WP.go 9 (And.intro (And.intro rfl trivial) (And.intro (And.intro rfl trivial) (And.intro rfl (?_))))
  refine rw_i (Q := fun x9 => WP (Call d) 206 P X (9, [some (vr (some 90) 10), none, none, none], [vi x9, vr (some 90) 10], ((upI (upI I 90 10 (-1)) 90 7 (-1)), H), 0, 0)) h6 ?_
  show WP (Call d) 206 P X (9, [some (vr (some 90) 10), none, none, none], [vi n, vr (some 90) 10], ((upI (upI I 90 10 (-1)) 90 7 (-1)), H), 0, 0)
  refine WP.go 1 (And.intro (And.intro rfl trivial) (?_))
  show WP (Call d) 206 P X (10, [some (vr (some 90) 10), none, none, none], [], ((upI (upI (upI I 90 10 (-1)) 90 7 (-1)) 90 8 n), H), 0, 0)
  generalize hq_J1 : (upI (upI (upI I 90 10 (-1)) 90 7 (-1)) 90 8 n) = J1
  have e_J1 : J1 90 = (fun j => if j = 8 then n else (upI (upI I 90 10 (-1)) 90 7 (-1)) 90 j) := by rw [← hq_J1]; exact upI_self _ _ _ _
  have f_J1 : ∀ a, a ≠ 90 → J1 a = (upI (upI I 90 10 (-1)) 90 7 (-1)) a := fun a q => by rw [← hq_J1]; exact upI_cell q
  have c90 : ∀ s, s ≠ 7 → s ≠ 8 → s ≠ 10 → J1 90 s = I 90 s := fun s q7 q8 q10 => by rw [e_J1]; refine (if_neg q8).trans ?_; rw [upI_at (.inr q7), upI_at (.inr q10)]
  have ca : ∀ a, a ≠ 90 → J1 a = I a := fun a q => by rw [f_J1 a q, upI_cell q, upI_cell q]
  have hL : LTX J1 tb n := ⟨by rw [e_J1]; rfl, hnn, hby, .inl ⟨by rw [e_J1]; rfl, fun j q0 q1 => by rw [ca 94 (by omega)]; exact hta j q0 q1⟩⟩
  have hF : J1 90 10 = -1 := by rw [e_J1]; rfl
  have h171 : J1 90 17 = I 90 17 := c90 17 (by omega) (by omega) (by omega)
  have hfr1 : FR J1 F := by unfold FR at *; rw [ca 95 (by omega), c90 13 (by omega) (by omega) (by omega), c90 14 (by omega) (by omega) (by omega), c90 15 (by omega) (by omega) (by omega)]; exact hfr
  refine WP.go 3 (And.intro (And.intro (Nat.le_of_ble_eq_true rfl) (Nat.le_of_ble_eq_true rfl)) (And.intro rfl (?_)))
  show Call d 196 [vr (some 90) 10, vi 1] (J1, H) _ _
  refine s_12_lines_1 (by omega) hS hL hF hfr1 hFB rfl rfl (by rw [h171]; exact hY) (fun J12 f12 e12 w12 m12 => ?_)
  show WP (Call d) 206 P X (13, [some (vr (some 90) 10), none, none, none], [], (J12, H), 0, 0)
  have d27 : ∀ s, s ≠ 7 → s ≠ 8 → s ≠ 9 → s ≠ 10 → s ≠ 11 → s ≠ 16 → s ≠ 17 → J12 90 s = I 90 s := fun s q7 q8 q9 q10 q11 q16 q17 => (f12.1 s q9 q10 q11 q16 q17).trans (c90 s q7 q8 q10)
  have dc : ∀ a, a ≠ 90 → J12 a = I a := fun a q1 => by rw [f12.2 a q1, ca a q1]
  have hM12 : J12 91 = μ := (dc 91 (by omega)).trans hM
  have h_1 : J12 90 6 = n := (d27 6 (by omega) (by omega) (by omega) (by omega) (by omega) (by omega) (by omega)).trans h6
  have m12b : -120000000 ≤ J12 90 17 - I 90 17 ∧ J12 90 17 - I 90 17 ≤ 120000000 := by rw [← h171]; exact m12
  refine WP.go 2 (And.intro rfl (?_))
  refine rw_i (Q := fun x9 => WP (Call d) 206 P X (15, [some (vr (some 90) 10), none, none, none], [vi x9], (J12, H), 0, 0)) h_1 ?_
  show WP (Call d) 206 P X (15, [some (vr (some 90) 10), none, none, none], [vi n], (J12, H), 0, 0)
  refine WP.go 7 (And.intro (And.intro rfl trivial) (And.intro rfl (?_)))
  refine rw_i (Q := fun x9 => WP (Call d) 206 P X (22, [some (vr (some 90) 10), some (vi n), none, none], [vi x9, vr (some 90) 10], ((upI J12 90 6 0), H), 0, 0)) e12 ?_
  show WP (Call d) 206 P X (22, [some (vr (some 90) 10), some (vi n), none, none], [vi ((lnT tb n (lln tb n) ls0).1), vr (some 90) 10], ((upI J12 90 6 0), H), 0, 0)
  refine WP.go 2 (And.intro (fun (b23 : (lnT tb n (lln tb n) ls0).1 = (-1)) => ?_) (fun (b23 : ¬ (lnT tb n (lln tb n) ls0).1 = (-1)) => ?_))
  ·
    show WP (Call d) 206 P X (26, [some (vr (some 90) 10), some (vi n), none, none], [vr (some 90) 10], ((upI J12 90 6 0), H), 0, 0)
    refine WP.go 4 (And.intro rfl (Exists.intro 91 (And.intro hS.r90_1 (And.intro (And.intro rfl (And.intro (show 0 ≤ 3 from by omega) (show 3 < H.2.1 91 from by omega))) (?_)))))
    refine rw_i (Q := fun x9 => WP (Call d) 206 P X (30, [some (vr (some 90) 10), some (vi n), none, none], [vi x9, vr (some 90) 10], ((upI J12 90 6 0), H), 0, 0)) (show (upI J12 90 6 0) 91 3 = μ 3 from congrFun hM12 3) ?_
    show WP (Call d) 206 P X (30, [some (vr (some 90) 10), some (vi n), none, none], [vi (μ 3), vr (some 90) 10], ((upI J12 90 6 0), H), 0, 0)
    refine WP.go 2 (And.intro (fun (b31 : ¬ μ 3 = 6) => ?_) (fun (b31 : μ 3 = 6) => ?_))
    ·
      show WP (Call d) 206 P X (34, [some (vr (some 90) 10), some (vi n), none, none], [vr (some 90) 10], ((upI J12 90 6 0), H), 0, 0)
      refine WP.go 5 (And.intro (And.intro rfl trivial) (And.intro rfl (And.intro (fun (b38 : ¬ 0 < 0) => ?_) (fun (b38 : 0 < 0) => (absurd b38 (by omega))))))
      show WP (Call d) 206 P X (41, [some (vr (some 90) 10), some (vi n), none, none], [], ((upI (upI J12 90 6 0) 90 0 0), H), 0, 0)
      generalize hq_J2 : (upI (upI J12 90 6 0) 90 0 0) = J2
      have e_J2 : J2 90 = (fun j => if j = 0 then 0 else (upI J12 90 6 0) 90 j) := by rw [← hq_J2]; exact upI_self _ _ _ _
      have f_J2 : ∀ a, a ≠ 90 → J2 a = (upI J12 90 6 0) a := fun a q => by rw [← hq_J2]; exact upI_cell q
      have d2 : ∀ s, s ≠ 0 → s ≠ 6 → s ≠ 7 → s ≠ 8 → s ≠ 9 → s ≠ 10 → s ≠ 11 → s ≠ 16 → s ≠ 17 → J2 90 s = I 90 s := fun s q0 q6 q7 q8 q9 q10 q11 q16 q17 => by rw [e_J2]; refine (if_neg q0).trans ?_; rw [upI_at (.inr q6)]; exact d27 s q7 q8 q9 q10 q11 q16 q17
      have hM2 : J2 91 = μ := by rw [f_J2 91 (by omega), upI_cell (by omega)]; exact hM12
      refine WP.go 6 (And.intro rfl (Exists.intro 91 (And.intro hS.r90_1 (And.intro (And.intro rfl (And.intro (show 0 ≤ 3 from by omega) (show 3 < H.2.1 91 from by omega))) (?_)))))
      refine rw_i (Q := fun x9 => WP (Call d) 206 P X (47, [some (vr (some 90) 10), some (vi n), none, none], [vi x9, vi 401, vi 546], (J2, H), 0, 0)) (show J2 91 3 = μ 3 from congrFun hM2 3) ?_
      show WP (Call d) 206 P X (47, [some (vr (some 90) 10), some (vi n), none, none], [vi (μ 3), vi 401, vi 546], (J2, H), 0, 0)
      refine WP.go 10 (Exists.intro (401 * (μ 3)) (And.intro (wrp_a (by omega) (by omega)) (Exists.intro (546 + (401 * (μ 3))) (And.intro (wrp_a (by omega) (by omega)) (And.intro rfl (Exists.intro 91 (And.intro hS.r90_1 (And.intro (And.intro rfl (And.intro (show 0 ≤ 546 + (401 * (μ 3)) from by omega) (show 546 + (401 * (μ 3)) < H.2.1 91 from by omega))) (?_)))))))))
      show WP (Call d) 206 P X (57, [some (vr (some 90) 10), some (vi n), some (vi (546 + (401 * (μ 3)))), some (vi 0)], [], ((upI J2 91 (546 + (401 * (μ 3))) n), H), 0, 0)
      have lp57 : ∀ (n9 : Nat) (K : qI) (k : Int) (hm : n - k < (n9 : Int)) (iv0 : 0 ≤ k ∧ k ≤ n) (iv1 : K 91 = lbt μ (546 + 401 * μ 3) n tb k) (iv2 : ∀ a, a ≠ 91 → K a = J2 a), WP (Call d) 206 P X (57, [some (vr (some 90) 10), some (vi n), some (vi (546 + (401 * (μ 3)))), some (vi k)], [], (K, H), 0, 0) := by
        intro n9
        induction n9 with
        | zero => intro K k hm iv0 iv1 iv2; exact absurd hm (by omega)
        | succ n9 ih57 =>
          intro K k hm iv0 iv1 iv2
          refine WP.go 3 (And.intro (fun (b59 : ¬ k < n) => ?_) (fun (b59 : k < n) => ?_))
          ·
            show WP (Call d) 206 P X (74, [some (vr (some 90) 10), some (vi n), some (vi (546 + (401 * (μ 3)))), some (vi k)], [], (K, H), 0, 0)
            refine WP.go 5 (And.intro rfl (Exists.intro 91 (And.intro hS.r90_1 (And.intro (And.intro rfl (And.intro (show 0 ≤ 3 from by omega) (show 3 < H.2.1 91 from by omega))) (?_)))))
            refine rw_i (Q := fun x9 => WP (Call d) 206 P X (79, [some (vr (some 90) 10), some (vi n), some (vi (546 + (401 * (μ 3)))), some (vi k)], [vi x9, vi 3, vr (some 91) 11], (K, H), 0, 0)) (show K 91 3 = μ 3 from (by rw [iv1]; unfold lbt; rw [if_neg (by omega), if_neg (by omega)])) ?_
            show WP (Call d) 206 P X (79, [some (vr (some 90) 10), some (vi n), some (vi (546 + (401 * (μ 3)))), some (vi k)], [vi (μ 3), vi 3, vr (some 91) 11], (K, H), 0, 0)
            refine WP.go 3 (Exists.intro ((μ 3) + 1) (And.intro (wrp_a (by omega) (by omega)) (And.intro (And.intro rfl (And.intro (show 0 ≤ 3 from by omega) (show 3 < H.2.1 91 from by omega))) (?_))))
            show WP (Call d) 206 P X (82, [some (vr (some 90) 10), some (vi n), some (vi (546 + (401 * (μ 3)))), some (vi k)], [], ((upI K 91 3 ((μ 3) + 1)), H), 0, 0)
            generalize hq_J3 : (upI K 91 3 ((μ 3) + 1)) = J3
            have e_J3 : J3 91 = (fun j => if j = 3 then ((μ 3) + 1) else K 91 j) := by rw [← hq_J3]; exact upI_self _ _ _ _
            have f_J3 : ∀ a, a ≠ 91 → J3 a = K a := fun a q => by rw [← hq_J3]; exact upI_cell q
            have d3 : J3 90 = J2 90 := (f_J3 90 (by omega)).trans (iv2 90 (by omega))
            refine WP.go 4 (And.intro rfl (Exists.intro 91 (And.intro hS.r90_1 (And.intro (And.intro rfl (And.intro (show 0 ≤ 3 from by omega) (show 3 < H.2.1 91 from by omega))) (?_)))))
            refine rw_i (Q := fun x9 => WP (Call d) 206 P X (86, [some (vr (some 90) 10), some (vi n), some (vi (546 + (401 * (μ 3)))), some (vi k)], [vi x9], (J3, H), 0, 0)) (show J3 91 3 = μ 3 + 1 from (congrFun e_J3 3).trans (if_pos rfl)) ?_
            show WP (Call d) 206 P X (86, [some (vr (some 90) 10), some (vi n), some (vi (546 + (401 * (μ 3)))), some (vi k)], [vi (μ 3 + 1)], (J3, H), 0, 0)
            refine WP.go 3 (Exists.intro ((μ 3 + 1) - 1) (And.intro (wrp_a (by omega) (by omega)) (And.intro (And.intro (Nat.le_of_ble_eq_true rfl) (Nat.le_of_ble_eq_true rfl)) (And.intro trivial (?_)))))
            show P (some (vi ((μ 3 + 1) - 1))) (J3, H)
            exact fin_i (by omega) (h.1 b23 (by omega) _ ⟨fun a q => by rw [f_J3 a (by omega), iv2 a (by omega), f_J2 a (by omega), upI_cell (by omega)]; exact dc a (by omega), fun s q => (congrFun d3 s).trans (d2 s (by omega) (by omega) (by omega) (by omega) (by omega) (by omega) (by omega) (by omega) (by omega)), by rw [d3, e_J2]; rfl, by rw [d3, e_J2]; exact e12.trans b23, by unfold MS at *; rw [show J3 90 22 = I 90 22 from (congrFun d3 22).trans (d2 22 (by omega) (by omega) (by omega) (by omega) (by omega) (by omega) (by omega) (by omega) (by omega)), show J3 90 23 = I 90 23 from (congrFun d3 23).trans (d2 23 (by omega) (by omega) (by omega) (by omega) (by omega) (by omega) (by omega) (by omega) (by omega)), show J3 90 29 = I 90 29 from (congrFun d3 29).trans (d2 29 (by omega) (by omega) (by omega) (by omega) (by omega) (by omega) (by omega) (by omega) (by omega)), show J3 90 30 = I 90 30 from (congrFun d3 30).trans (d2 30 (by omega) (by omega) (by omega) (by omega) (by omega) (by omega) (by omega) (by omega) (by omega))]; exact hK, by
                rw [e_J3, iv1, show k = n by omega, Int.add_comm (μ 3) 1]; rfl, by rw [show J3 90 17 = J12 90 17 by rw [d3, e_J2]; rfl]; exact m12b⟩ (by rw [d3, e_J2]; rfl))
          ·
            show WP (Call d) 206 P X (60, [some (vr (some 90) 10), some (vi n), some (vi (546 + (401 * (μ 3)))), some (vi k)], [], (K, H), 0, 0)
            refine WP.go 11 (And.intro rfl (Exists.intro 91 (And.intro hS.r90_1 (Exists.intro ((546 + (401 * (μ 3))) + 1) (And.intro (wrp_a (by omega) (by omega)) (Exists.intro (((546 + (401 * (μ 3))) + 1) + k) (And.intro (wrp_a (by omega) (by omega)) (And.intro rfl (Exists.intro 94 (And.intro hS.r90_5 (And.intro (And.intro rfl (And.intro (show 0 ≤ k from by omega) (show k < H.2.1 94 from by omega))) (?_))))))))))))
            refine rw_i (Q := fun x9 => WP (Call d) 206 P X (71, [some (vr (some 90) 10), some (vi n), some (vi (546 + (401 * (μ 3)))), some (vi k)], [vi x9, vi (((546 + (401 * (μ 3))) + 1) + k), vr (some 91) 11], (K, H), 0, 0)) (show K 94 k = tb k from (by rw [iv2 94 (by omega), f_J2 94 (by omega), upI_cell (by omega), dc 94 (by omega)]; exact hta k (by omega) (by omega))) ?_
            show WP (Call d) 206 P X (71, [some (vr (some 90) 10), some (vi n), some (vi (546 + (401 * (μ 3)))), some (vi k)], [vi (tb k), vi (((546 + (401 * (μ 3))) + 1) + k), vr (some 91) 11], (K, H), 0, 0)
            refine WP.go 3 (And.intro (And.intro rfl (And.intro (show 0 ≤ ((546 + (401 * (μ 3))) + 1) + k from by omega) (show ((546 + (401 * (μ 3))) + 1) + k < H.2.1 91 from by omega))) (Exists.intro (k + 1) (And.intro (wrp_a (by omega) (by omega)) (?_))))
            show WP (Call d) 206 P X (57, [some (vr (some 90) 10), some (vi n), some (vi (546 + (401 * (μ 3)))), some (vi (k + 1))], [], ((upI K 91 (((546 + (401 * (μ 3))) + 1) + k) (tb k)), H), 0, 0)
            exact ih57 (upI K 91 (((546 + (401 * (μ 3))) + 1) + k) (tb k)) (k + 1) (by omega) (by omega) (lbt_s iv1 (by omega) (by omega)) (fun a q => (upI_cell q).trans (iv2 a q))
      exact lp57 ((n - 0 : Int).toNat + 1) (upI J2 91 (546 + (401 * (μ 3))) n) 0 (by omega) (by omega) (lbt_0 hM2 _ _ _) (fun a q => upI_cell q)
    ·
      show WP (Call d) 206 P X (32, [some (vr (some 90) 10), some (vi n), none, none], [vr (some 90) 10], ((upI J12 90 6 0), H), 0, 0)
      refine WP.go 6 (And.intro (And.intro rfl trivial) (And.intro rfl (And.intro (fun (b38 : ¬ 0 < 2) => (absurd b38 (by omega))) (fun (b38 : 0 < 2) => ?_))))
      show WP (Call d) 206 P X (39, [some (vr (some 90) 10), some (vi n), none, none], [], ((upI (upI J12 90 6 0) 90 0 2), H), 0, 0)
      generalize hq_Z0 : (upI (upI J12 90 6 0) 90 0 2) = Z0
      have e_Z0 : Z0 90 = (fun j => if j = 0 then 2 else (upI J12 90 6 0) 90 j) := by rw [← hq_Z0]; exact upI_self _ _ _ _
      have f_Z0 : ∀ a, a ≠ 90 → Z0 a = (upI J12 90 6 0) a := fun a q => by rw [← hq_Z0]; exact upI_cell q
      have dz : ∀ s, s ≠ 0 → s ≠ 6 → s ≠ 7 → s ≠ 8 → s ≠ 9 → s ≠ 10 → s ≠ 11 → s ≠ 16 → s ≠ 17 → Z0 90 s = I 90 s := fun s q0 q6 q7 q8 q9 q10 q11 q16 q17 => by rw [e_Z0]; refine (if_neg q0).trans ?_; rw [upI_at (.inr q6)]; exact d27 s q7 q8 q9 q10 q11 q16 q17
      refine WP.go 2 (And.intro (And.intro (Nat.le_of_ble_eq_true rfl) (Nat.le_of_ble_eq_true rfl)) (And.intro trivial (?_)))
      show P (some (vi 0)) (Z0, H)
      exact h.2.2 b23 (by omega) _ ⟨fun a q => by rw [f_Z0 a (by omega), upI_cell (by omega)]; exact dc a (by omega), fun s q => dz s (by omega) (by omega) (by omega) (by omega) (by omega) (by omega) (by omega) (by omega) (by omega), by rw [e_Z0]; rfl, by rw [e_Z0]; exact (e12.trans b23), by unfold MS at *; rw [show Z0 90 22 = I 90 22 from dz 22 (by omega) (by omega) (by omega) (by omega) (by omega) (by omega) (by omega) (by omega) (by omega), show Z0 90 23 = I 90 23 from dz 23 (by omega) (by omega) (by omega) (by omega) (by omega) (by omega) (by omega) (by omega) (by omega), show Z0 90 29 = I 90 29 from dz 29 (by omega) (by omega) (by omega) (by omega) (by omega) (by omega) (by omega) (by omega) (by omega), show Z0 90 30 = I 90 30 from dz 30 (by omega) (by omega) (by omega) (by omega) (by omega) (by omega) (by omega) (by omega) (by omega)]; exact hK, by rw [f_Z0 91 (by omega), upI_cell (by omega)]; exact hM12, by rw [show Z0 90 17 = J12 90 17 by rw [e_Z0]; rfl]; exact m12b⟩ (by rw [e_Z0]; rfl)
  ·
    show WP (Call d) 206 P X (24, [some (vr (some 90) 10), some (vi n), none, none], [vr (some 90) 10], ((upI J12 90 6 0), H), 0, 0)
    refine WP.go 6 (And.intro (And.intro rfl trivial) (And.intro rfl (And.intro (fun (b38 : ¬ 0 < 1) => (absurd b38 (by omega))) (fun (b38 : 0 < 1) => ?_))))
    show WP (Call d) 206 P X (39, [some (vr (some 90) 10), some (vi n), none, none], [], ((upI (upI J12 90 6 0) 90 0 1), H), 0, 0)
    generalize hq_Z0 : (upI (upI J12 90 6 0) 90 0 1) = Z0
    have e_Z0 : Z0 90 = (fun j => if j = 0 then 1 else (upI J12 90 6 0) 90 j) := by rw [← hq_Z0]; exact upI_self _ _ _ _
    have f_Z0 : ∀ a, a ≠ 90 → Z0 a = (upI J12 90 6 0) a := fun a q => by rw [← hq_Z0]; exact upI_cell q
    have dz : ∀ s, s ≠ 0 → s ≠ 6 → s ≠ 7 → s ≠ 8 → s ≠ 9 → s ≠ 10 → s ≠ 11 → s ≠ 16 → s ≠ 17 → Z0 90 s = I 90 s := fun s q0 q6 q7 q8 q9 q10 q11 q16 q17 => by rw [e_Z0]; refine (if_neg q0).trans ?_; rw [upI_at (.inr q6)]; exact d27 s q7 q8 q9 q10 q11 q16 q17
    refine WP.go 2 (And.intro (And.intro (Nat.le_of_ble_eq_true rfl) (Nat.le_of_ble_eq_true rfl)) (And.intro trivial (?_)))
    show P (some (vi 0)) (Z0, H)
    exact h.2.1 b23 _ ⟨fun a q => by rw [f_Z0 a (by omega), upI_cell (by omega)]; exact dc a (by omega), fun s q => dz s (by omega) (by omega) (by omega) (by omega) (by omega) (by omega) (by omega) (by omega) (by omega), by rw [e_Z0]; rfl, by rw [e_Z0]; exact e12, by unfold MS at *; rw [show Z0 90 22 = I 90 22 from dz 22 (by omega) (by omega) (by omega) (by omega) (by omega) (by omega) (by omega) (by omega) (by omega), show Z0 90 23 = I 90 23 from dz 23 (by omega) (by omega) (by omega) (by omega) (by omega) (by omega) (by omega) (by omega) (by omega), show Z0 90 29 = I 90 29 from dz 29 (by omega) (by omega) (by omega) (by omega) (by omega) (by omega) (by omega) (by omega) (by omega), show Z0 90 30 = I 90 30 from dz 30 (by omega) (by omega) (by omega) (by omega) (by omega) (by omega) (by omega) (by omega) (by omega)]; exact hK, by rw [f_Z0 91 (by omega), upI_cell (by omega)]; exact hM12, by rw [show Z0 90 17 = J12 90 17 by rw [e_Z0]; rfl]; exact m12b⟩ (by rw [e_Z0]; rfl)

