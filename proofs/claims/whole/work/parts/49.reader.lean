/-- the things of a text, as they lie in the rows of the object at T -/
def TOK (I : qI) (T : Nat) (tb : Int → Int) (n : Int) : Prop := (1 ≤ I T 2 ∧ I T 2 ≤ 401) ∧ I (T + 2) 0 = sk tb n 0 ∧ (∀ k, 0 ≤ k → k < I T 2 → I (T + 1) k = th tb n (I (T + 2) k) ∧ 0 ≤ I (T + 2) k ∧ I (T + 2) k ≤ n) ∧ (∀ k, 0 ≤ k → k + 1 < I T 2 → I (T + 2) k < n ∧ I (T + 2) (k + 1) = nx tb n (I (T + 2) k)) ∧ I (T + 2) (I T 2 - 1) = n
/-- the reader stands at p -/
def ATP (I : qI) (T : Nat) (p : Int) : Prop := (0 ≤ I T 3 ∧ I T 3 < I T 2) ∧ I (T + 2) (I T 3) = p
theorem TOK.fr {I J : qI} {T : Nat} {tb : Int → Int} {n : Int} (h : TOK I T tb n) (e : J T 2 = I T 2) (e1 : J (T + 1) = I (T + 1)) (e2 : J (T + 2) = I (T + 2)) : TOK J T tb n := by
  unfold TOK at *
  rw [e, e1, e2]
  exact h
theorem TOK.at {I : qI} {T : Nat} {tb : Int → Int} {n p : Int} (h : TOK I T tb n) (a : ATP I T p) : I (T + 1) (I T 3) = th tb n p ∧ 0 ≤ p ∧ p ≤ n := by
  have := h.2.2.1 _ a.1.1 a.1.2
  rw [a.2] at this
  exact this
theorem TOK.nx {I J : qI} {T : Nat} {tb : Int → Int} {n p : Int} (h : TOK I T tb n) (a : ATP I T p) (hp : p < n) (e : J T = fun s => if s = 3 then I T 3 + 1 else I T s) (e2 : J (T + 2) = I (T + 2)) : ATP J T (nx tb n p) := by
  have b := h.2.2.2.2
  have h1 : I T 3 + 1 < I T 2 := by
    rcases Int.lt_or_le (I T 3 + 1) (I T 2) with z | z
    · exact z
    · have w : I T 3 = I T 2 - 1 := by have := a.1.2; omega
      rw [← w, a.2] at b
      omega
  have c := h.2.2.2.1 _ a.1.1 h1
  rw [a.2] at c
  unfold ATP
  rw [e, e2]
  exact ⟨⟨by show 0 ≤ I T 3 + 1; have := a.1.1; omega, h1⟩, c.2⟩
theorem TOK.end {I : qI} {T : Nat} {tb : Int → Int} {n p : Int} (h : TOK I T tb n) (a : ATP I T p) : th tb n p ≠ 3000 → p < n := fun q => by
  have := h.at a
  rcases Int.lt_or_eq_of_le this.2.2 with z | z
  · exact z
  · rw [z] at q; exact absurd (th_e tb n) q
theorem s_6_cut_0 {d : Nat} {P : Option qV → qH → Prop} {X : Nat → qH → Prop} {I : qI} {H : qS} {n k : Int} (hd : 1 ≤ d) (hsz : I 4 1 = n) (hk : 0 ≤ k ∧ k ≤ n) (h : ∀ J : qI, J 4 = (fun s => if s = 1 then k else I 4 s) → (∀ a, a ≠ 4 → J a = I a) → P (some (vi 1)) (J, H)) : Call d 68 [vr (some 4) 5, vi k] (I, H) P X := s_6_cut hd hsz ⟨fun _ => h, fun q => absurd hk q⟩
theorem s_7_keep_T69 {d : Nat} {P : Option qV → qH → Prop} {X : Nat → qH → Prop} {I : qI} {H : qS} (hd : 1 ≤ d) {t9 g9 : Int} (hS : Shp H) (hc : 0 ≤ I 69 2 ∧ I 69 2 ≤ 400) (h : ∀ J : qI, J 69 = (fun s => if s = 2 then I 69 2 + 1 else I 69 s) → J 70 = (fun j => if j = I 69 2 then t9 else I 70 j) → J 71 = (fun j => if j = I 69 2 then g9 else I 71 j) → (∀ a, a ≠ 69 → a ≠ 70 → a ≠ 71 → J a = I a) → P none (J, H)) :
    Call d 71 [vr (some 69) 7, vi t9, vi g9] (I, H) P X := by
  obtain ⟨d, rfl⟩ : ∃ e, d = e + 1 := ⟨d - 1, by omega⟩
  have hl70 := hS.l70
  have hl71 := hS.l71
  show WP (Call d) 71 P X (0, [some (vr (some 69) 7), some (vi t9), some (vi g9)], [], (I, H), 0, 0)
  refine WP.go 3 (And.intro rfl (And.intro (fun (b2 : I 69 2 < 0) => (absurd b2 (by omega))) (fun (b2 : ¬ I 69 2 < 0) => ?_)))
  show WP (Call d) 71 P X (3, [some (vr (some 69) 7), some (vi t9), some (vi g9)], [], (I, H), 0, 0)
  refine WP.go 6 (And.intro rfl (And.intro rfl (Exists.intro 70 (And.intro hS.r69_0 (And.intro (Or.inl rfl) (And.intro (fun (b8 : ¬ I 69 2 < H.2.1 70) => (absurd b8 (by omega))) (fun (b8 : I 69 2 < H.2.1 70) => ?_)))))))
  show WP (Call d) 71 P X (9, [some (vr (some 69) 7), some (vi t9), some (vi g9)], [], (I, H), 0, 0)
  refine WP.go 6 (And.intro rfl (And.intro rfl (Exists.intro 71 (And.intro hS.r69_1 (And.intro (Or.inl rfl) (And.intro (fun (b14 : ¬ I 69 2 < H.2.1 71) => (absurd b14 (by omega))) (fun (b14 : I 69 2 < H.2.1 71) => ?_)))))))
  show WP (Call d) 71 P X (15, [some (vr (some 69) 7), some (vi t9), some (vi g9)], [], (I, H), 0, 0)
  refine WP.go 6 (And.intro rfl (Exists.intro 70 (And.intro hS.r69_0 (And.intro rfl (And.intro (And.intro rfl (And.intro (show 0 ≤ I 69 2 from by omega) (show I 69 2 < H.2.1 70 from by omega))) (?_))))))
  show WP (Call d) 71 P X (21, [some (vr (some 69) 7), some (vi t9), some (vi g9)], [], ((upI I 70 (I 69 2) t9), H), 0, 0)
  generalize hq_J0 : (upI I 70 (I 69 2) t9) = J0
  have e_J0 : J0 70 = (fun j => if j = (I 69 2) then t9 else I 70 j) := by rw [← hq_J0]; exact upI_self _ _ _ _
  have f_J0 : ∀ a, a ≠ 70 → J0 a = I a := fun a q => by rw [← hq_J0]; exact upI_cell q
  have c0 : J0 69 2 = I 69 2 := by rw [f_J0 69 (by omega)]
  refine WP.go 6 (And.intro rfl (Exists.intro 71 (And.intro hS.r69_1 (And.intro rfl (And.intro (And.intro rfl (And.intro (show 0 ≤ J0 69 2 from by omega) (show J0 69 2 < H.2.1 71 from by omega))) (?_))))))
  show WP (Call d) 71 P X (27, [some (vr (some 69) 7), some (vi t9), some (vi g9)], [], ((upI J0 71 (J0 69 2) g9), H), 0, 0)
  generalize hq_J1 : (upI J0 71 (J0 69 2) g9) = J1
  have e_J1 : J1 71 = (fun j => if j = (J0 69 2) then g9 else J0 71 j) := by rw [← hq_J1]; exact upI_self _ _ _ _
  have f_J1 : ∀ a, a ≠ 71 → J1 a = J0 a := fun a q => by rw [← hq_J1]; exact upI_cell q
  have c1 : J1 69 2 = I 69 2 := by rw [f_J1 69 (by omega), c0]
  refine WP.go 7 (And.intro rfl (Exists.intro ((J1 69 2) + 1) (And.intro (wrp_a (by omega) (by omega)) (And.intro (And.intro rfl trivial) (And.intro (And.intro (Nat.le_of_ble_eq_true rfl) (Nat.le_of_ble_eq_true rfl)) (?_))))))
  show P none ((upI J1 69 2 ((J1 69 2) + 1)), H)
  refine h _ (by rw [upI_self, f_J1 69 (by omega), f_J0 69 (by omega)]) (by rw [upI_cell (by omega), f_J1 70 (by omega), e_J0]) (by rw [upI_cell (by omega), e_J1, f_J0 71 (by omega), c0]) (fun a q1 q2 q3 => by rw [upI_cell q1, f_J1 a q3, f_J0 a q2])

theorem s_7_takeFrom_T69 {d : Nat} {P : Option qV → qH → Prop} {X : Nat → qH → Prop} {I : qI} {H : qS} (hd : 4 ≤ d) {n : Int} (hS : Shp H) (hsz : I 4 1 = n) (hnn : 0 ≤ n ∧ n ≤ 400) (hby : ∀ j, 0 ≤ j → j < n → 0 ≤ I 5 j ∧ I 5 j ≤ 255) (h : ∀ J : qI, TOK J 69 (I 5) n → (∀ a, a ≠ 4 → a ≠ 69 → a ≠ 70 → a ≠ 71 → J a = I a) → J 4 = (fun s => if s = 1 then 0 else I 4 s) → (∀ s, s ≠ 2 → J 69 s = I 69 s) → P none (J, H)) :
    Call d 70 [vr (some 69) 7, vr (some 4) 5] (I, H) P X := by
  obtain ⟨d, rfl⟩ : ∃ e, d = e + 1 := ⟨d - 1, by omega⟩
  show WP (Call d) 70 P X (0, [some (vr (some 69) 7), some (vr (some 4) 5), none, none, none], [], (I, H), 0, 0)
  refine WP.go 3 (And.intro (And.intro rfl trivial) (?_))
  show WP (Call d) 70 P X (3, [some (vr (some 69) 7), some (vr (some 4) 5), none, none, none], [], ((upI I 69 2 0), H), 0, 0)
  generalize hq_J0 : (upI I 69 2 0) = J0
  have e_J0 : J0 69 = (fun j => if j = 2 then 0 else I 69 j) := by rw [← hq_J0]; exact upI_self _ _ _ _
  have f_J0 : ∀ a, a ≠ 69 → J0 a = I a := fun a q => by rw [← hq_J0]; exact upI_cell q
  refine WP.go 4 ?_
  show WP (Call d) 70 P X (7, [some (vr (some 69) 7), some (vr (some 4) 5), some (vi 0), some (vi 0), none], [], (J0, H), 0, 0)
  have lp7 : ∀ (n9 : Nat) (K : qI) (pl : Int) (i : Int) (hm : n - pl < (n9 : Int)) (iv0 : 0 ≤ pl ∧ pl ≤ n ∧ 0 ≤ i ∧ i ≤ pl ∧ 0 ≤ K 69 2 ∧ K 69 2 ≤ pl) (iv1 : (K 69 2 = 0 → sk (I 5) n 0 = sk (I 5) n pl) ∧ (0 < K 69 2 → K 71 0 = sk (I 5) n 0 ∧ nx (I 5) n (K 71 (K 69 2 - 1)) = sk (I 5) n pl)) (iv2 : ∀ k, 0 ≤ k → k < K 69 2 → K 70 k = th (I 5) n (K 71 k) ∧ 0 ≤ K 71 k ∧ K 71 k < n) (iv3 : ∀ k, 0 ≤ k → k + 1 < K 69 2 → K 71 (k + 1) = nx (I 5) n (K 71 k)) (iv4 : (∀ a, a ≠ 69 → a ≠ 70 → a ≠ 71 → K a = I a) ∧ (∀ s, s ≠ 2 → K 69 s = I 69 s)), WP (Call d) 70 P X (7, [some (vr (some 69) 7), some (vr (some 4) 5), some (vi pl), some (vi i), none], [], (K, H), 0, 0) := by
    intro n9
    induction n9 with
    | zero => intro K pl i hm iv0 iv1 iv2 iv3 iv4; exact absurd hm (by omega)
    | succ n9 ih7 =>
      intro K pl i hm iv0 iv1 iv2 iv3 iv4
      have h5 : K 5 = I 5 := iv4.1 5 (by omega) (by omega) (by omega)
      have hszk : K 4 1 = n := (congrFun (iv4.1 4 (by omega) (by omega) (by omega)) 1).trans hsz
      have hbyk : ∀ j, 0 ≤ j → j < n → 0 ≤ K 5 j ∧ K 5 j ≤ 255 := by rw [h5]; exact hby
      refine WP.go 3 (And.intro (fun (b9 : ¬ i < 400) => ?_) (fun (b9 : i < 400) => ?_))
      ·
        show WP (Call d) 70 P X (34, [some (vr (some 69) 7), some (vr (some 4) 5), some (vi pl), some (vi i), none], [], (K, H), 0, 0)
        refine WP.go 4 (And.intro (And.intro (Nat.le_of_ble_eq_true rfl) (Nat.le_of_ble_eq_true rfl)) (And.intro rfl (?_)))
        show Call d 65 [vr (some 4) 5] (K, H) _ _
        refine s_6_size (by omega) hszk ?_
        show WP (Call d) 70 P X (38, [some (vr (some 69) 7), some (vr (some 4) 5), some (vi pl), some (vi i), none], [vi n, vi 3000, vr (some 69) 7], (K, H), 0, 0)
        refine WP.go 1 (And.intro (And.intro (Nat.le_of_ble_eq_true rfl) (Nat.le_of_ble_eq_true rfl)) (And.intro rfl (?_)))
        show Call d 71 [vr (some 69) 7, vi 3000, vi n] (K, H) _ _
        refine s_7_keep_T69 (by omega) hS (by omega) (fun J38 e38 f38 g38 k38 => ?_)
        show WP (Call d) 70 P X (39, [some (vr (some 69) 7), some (vr (some 4) 5), some (vi pl), some (vi i), none], [], (J38, H), 0, 0)
        refine WP.go 3 (And.intro (And.intro (Nat.le_of_ble_eq_true rfl) (Nat.le_of_ble_eq_true rfl)) (And.intro rfl (?_)))
        show Call d 68 [vr (some 4) 5, vi 0] (J38, H) _ _
        refine s_6_cut_0 (by omega) ((congrFun (k38 4 (by omega) (by omega) (by omega)) 1).trans hszk) (by omega) (fun J41 e41 f41 => ?_)
        show WP (Call d) 70 P X (42, [some (vr (some 69) 7), some (vr (some 4) 5), some (vi pl), some (vi i), none], [vi 1], (J41, H), 0, 0)
        refine WP.go 2 (And.intro (And.intro (Nat.le_of_ble_eq_true rfl) (Nat.le_of_ble_eq_true rfl)) (?_))
        show P none (J41, H)
        have hpn : pl = n := by omega
        have w2 : J38 69 2 = K 69 2 + 1 := by rw [e38]; rfl
        have skn : sk (I 5) n n = n := fx_e (Int.le_refl _)
        refine h _ ⟨?_, ?_, fun k2 q0 q1 => ?_, fun k2 q0 q1 => ?_, ?_⟩ (fun a q0 q1 q2 q3 => by rw [f41 a q0, k38 a q1 q2 q3, iv4.1 a q1 q2 q3]) (by rw [e41, k38 4 (by omega) (by omega) (by omega), iv4.1 4 (by omega) (by omega) (by omega)]) (fun s q => by rw [f41 69 (by omega), e38]; exact (if_neg q).trans (iv4.2 s q))
        · rw [f41 69 (by omega), w2]; omega
        · rw [f41 71 (by omega), g38]
          show (if (0 : Int) = K 69 2 then n else K 71 0) = _
          by_cases z : (0 : Int) = K 69 2
          · rw [if_pos z, iv1.1 z.symm, hpn, skn]
          · rw [if_neg z]; exact (iv1.2 (by omega)).1
        · rw [f41 69 (by omega), w2] at q1
          rw [f41 70 (by omega), f41 71 (by omega), f38, g38]
          show (if k2 = K 69 2 then 3000 else K 70 k2) = th (I 5) n (if k2 = K 69 2 then n else K 71 k2) ∧ 0 ≤ (if k2 = K 69 2 then n else K 71 k2) ∧ (if k2 = K 69 2 then n else K 71 k2) ≤ n
          by_cases z : k2 = K 69 2
          · rw [if_pos z, if_pos z]; exact ⟨(th_e _ _).symm, by omega, by omega⟩
          · rw [if_neg z, if_neg z]; have w := iv2 k2 q0 (by omega); exact ⟨w.1, w.2.1, by omega⟩
        · rw [f41 69 (by omega), w2] at q1
          rw [f41 71 (by omega), g38]
          show (if k2 = K 69 2 then n else K 71 k2) < n ∧ (if k2 + 1 = K 69 2 then n else K 71 (k2 + 1)) = nx (I 5) n (if k2 = K 69 2 then n else K 71 k2)
          rw [if_neg (show ¬ k2 = K 69 2 by omega)]
          refine ⟨(iv2 k2 q0 (by omega)).2.2, ?_⟩
          by_cases z : k2 + 1 = K 69 2
          · rw [if_pos z, show k2 = K 69 2 - 1 by omega, (iv1.2 (by omega)).2, hpn, skn]
          · rw [if_neg z]; exact iv3 k2 q0 (by omega)
        · rw [f41 69 (by omega), f41 71 (by omega), w2, g38, show K 69 2 + 1 - 1 = K 69 2 by omega]
          exact if_pos rfl
      ·
        show WP (Call d) 70 P X (10, [some (vr (some 69) 7), some (vr (some 4) 5), some (vi pl), some (vi i), none], [], (K, H), 0, 0)
        refine WP.go 3 (And.intro (And.intro (Nat.le_of_ble_eq_true rfl) (Nat.le_of_ble_eq_true rfl)) (And.intro rfl (?_)))
        show Call d 65 [vr (some 4) 5] (K, H) _ _
        refine s_6_size (by omega) hszk ?_
        show WP (Call d) 70 P X (13, [some (vr (some 69) 7), some (vr (some 4) 5), some (vi pl), some (vi i), none], [vi n, vi pl], (K, H), 0, 0)
        refine WP.go 1 (And.intro (fun (b13 : ¬ pl < n) => ?_) (fun (b13 : pl < n) => ?_))
        ·
          show WP (Call d) 70 P X (34, [some (vr (some 69) 7), some (vr (some 4) 5), some (vi pl), some (vi i), none], [], (K, H), 0, 0)
          refine WP.go 4 (And.intro (And.intro (Nat.le_of_ble_eq_true rfl) (Nat.le_of_ble_eq_true rfl)) (And.intro rfl (?_)))
          show Call d 65 [vr (some 4) 5] (K, H) _ _
          refine s_6_size (by omega) hszk ?_
          show WP (Call d) 70 P X (38, [some (vr (some 69) 7), some (vr (some 4) 5), some (vi pl), some (vi i), none], [vi n, vi 3000, vr (some 69) 7], (K, H), 0, 0)
          refine WP.go 1 (And.intro (And.intro (Nat.le_of_ble_eq_true rfl) (Nat.le_of_ble_eq_true rfl)) (And.intro rfl (?_)))
          show Call d 71 [vr (some 69) 7, vi 3000, vi n] (K, H) _ _
          refine s_7_keep_T69 (by omega) hS (by omega) (fun J38_1 e38_1 f38_1 g38_1 k38_1 => ?_)
          show WP (Call d) 70 P X (39, [some (vr (some 69) 7), some (vr (some 4) 5), some (vi pl), some (vi i), none], [], (J38_1, H), 0, 0)
          refine WP.go 3 (And.intro (And.intro (Nat.le_of_ble_eq_true rfl) (Nat.le_of_ble_eq_true rfl)) (And.intro rfl (?_)))
          show Call d 68 [vr (some 4) 5, vi 0] (J38_1, H) _ _
          refine s_6_cut_0 (by omega) ((congrFun (k38_1 4 (by omega) (by omega) (by omega)) 1).trans hszk) (by omega) (fun J41_1 e41_1 f41_1 => ?_)
          show WP (Call d) 70 P X (42, [some (vr (some 69) 7), some (vr (some 4) 5), some (vi pl), some (vi i), none], [vi 1], (J41_1, H), 0, 0)
          refine WP.go 2 (And.intro (And.intro (Nat.le_of_ble_eq_true rfl) (Nat.le_of_ble_eq_true rfl)) (?_))
          show P none (J41_1, H)
          have hpn : pl = n := by omega
          have w2 : J38_1 69 2 = K 69 2 + 1 := by rw [e38_1]; rfl
          have skn : sk (I 5) n n = n := fx_e (Int.le_refl _)
          refine h _ ⟨?_, ?_, fun k2 q0 q1 => ?_, fun k2 q0 q1 => ?_, ?_⟩ (fun a q0 q1 q2 q3 => by rw [f41_1 a q0, k38_1 a q1 q2 q3, iv4.1 a q1 q2 q3]) (by rw [e41_1, k38_1 4 (by omega) (by omega) (by omega), iv4.1 4 (by omega) (by omega) (by omega)]) (fun s q => by rw [f41_1 69 (by omega), e38_1]; exact (if_neg q).trans (iv4.2 s q))
          · rw [f41_1 69 (by omega), w2]; omega
          · rw [f41_1 71 (by omega), g38_1]
            show (if (0 : Int) = K 69 2 then n else K 71 0) = _
            by_cases z : (0 : Int) = K 69 2
            · rw [if_pos z, iv1.1 z.symm, hpn, skn]
            · rw [if_neg z]; exact (iv1.2 (by omega)).1
          · rw [f41_1 69 (by omega), w2] at q1
            rw [f41_1 70 (by omega), f41_1 71 (by omega), f38_1, g38_1]
            show (if k2 = K 69 2 then 3000 else K 70 k2) = th (I 5) n (if k2 = K 69 2 then n else K 71 k2) ∧ 0 ≤ (if k2 = K 69 2 then n else K 71 k2) ∧ (if k2 = K 69 2 then n else K 71 k2) ≤ n
            by_cases z : k2 = K 69 2
            · rw [if_pos z, if_pos z]; exact ⟨(th_e _ _).symm, by omega, by omega⟩
            · rw [if_neg z, if_neg z]; have w := iv2 k2 q0 (by omega); exact ⟨w.1, w.2.1, by omega⟩
          · rw [f41_1 69 (by omega), w2] at q1
            rw [f41_1 71 (by omega), g38_1]
            show (if k2 = K 69 2 then n else K 71 k2) < n ∧ (if k2 + 1 = K 69 2 then n else K 71 (k2 + 1)) = nx (I 5) n (if k2 = K 69 2 then n else K 71 k2)
            rw [if_neg (show ¬ k2 = K 69 2 by omega)]
            refine ⟨(iv2 k2 q0 (by omega)).2.2, ?_⟩
            by_cases z : k2 + 1 = K 69 2
            · rw [if_pos z, show k2 = K 69 2 - 1 by omega, (iv1.2 (by omega)).2, hpn, skn]
            · rw [if_neg z]; exact iv3 k2 q0 (by omega)
          · rw [f41_1 69 (by omega), f41_1 71 (by omega), w2, g38_1, show K 69 2 + 1 - 1 = K 69 2 by omega]
            exact if_pos rfl
        ·
          show WP (Call d) 70 P X (14, [some (vr (some 69) 7), some (vr (some 4) 5), some (vi pl), some (vi i), none], [], (K, H), 0, 0)
          have hlt : pl < n := by omega
          have hbd := bhd_bd (tb := I 5) (n := n) iv0.1 hlt
          have hsp : K 5 pl = 32 → bhd (I 5) n pl = pl + 1 ∧ sk (I 5) n pl = sk (I 5) n (bhd (I 5) n pl) := fun q => by
            rw [h5] at q
            have w := bhd_s (tb := I 5) (n := n) (p := pl) (fun z => by unfold isL at z; omega) (fun z => by unfold isD at z; omega)
            rw [w]
            exact ⟨rfl, fx_n hlt (fun z => z q)⟩
          have htk : ∀ {J : qI}, K 5 pl ≠ 32 → J 69 = (fun s => if s = 2 then K 69 2 + 1 else K 69 s) → (∀ a, a ≠ 69 → a ≠ 70 → a ≠ 71 → J a = K a) → (0 ≤ bhd (I 5) n pl ∧ bhd (I 5) n pl ≤ n ∧ 0 ≤ i + 1 ∧ i + 1 ≤ bhd (I 5) n pl ∧ 0 ≤ J 69 2 ∧ J 69 2 ≤ bhd (I 5) n pl) ∧ (J 71 = (fun j => if j = K 69 2 then pl else K 71 j) → (J 69 2 = 0 → sk (I 5) n 0 = sk (I 5) n (bhd (I 5) n pl)) ∧ (0 < J 69 2 → J 71 0 = sk (I 5) n 0 ∧ nx (I 5) n (J 71 (J 69 2 - 1)) = sk (I 5) n (bhd (I 5) n pl))) ∧ (J 70 = (fun j => if j = K 69 2 then th (I 5) n pl else K 70 j) → J 71 = (fun j => if j = K 69 2 then pl else K 71 j) → ∀ k, 0 ≤ k → k < J 69 2 → J 70 k = th (I 5) n (J 71 k) ∧ 0 ≤ J 71 k ∧ J 71 k < n) ∧ (J 71 = (fun j => if j = K 69 2 then pl else K 71 j) → ∀ k, 0 ≤ k → k + 1 < J 69 2 → J 71 (k + 1) = nx (I 5) n (J 71 k)) ∧ ((∀ a, a ≠ 69 → a ≠ 70 → a ≠ 71 → J a = I a) ∧ (∀ s, s ≠ 2 → J 69 s = I 69 s)) := fun {J} hne e k => by
            have w2 : J 69 2 = K 69 2 + 1 := by rw [e]; rfl
            rw [h5] at hne
            have wp : sk (I 5) n pl = pl := fx_y hlt iv0.1 hne
            rw [w2]
            refine ⟨by omega, fun g => ⟨fun q => by omega, fun q => ⟨?_, ?_⟩⟩, fun f g k2 q0 q1 => ?_, fun g k2 q0 q1 => ?_, fun a q1 q2 q3 => (k a q1 q2 q3).trans (iv4.1 a q1 q2 q3), fun s q => by rw [e]; exact (if_neg q).trans (iv4.2 s q)⟩
            · rw [g]
              show (if (0 : Int) = K 69 2 then pl else K 71 0) = _
              by_cases z : (0 : Int) = K 69 2
              · rw [if_pos z, iv1.1 z.symm, wp]
              · rw [if_neg z]; exact (iv1.2 (by omega)).1
            · rw [g, show K 69 2 + 1 - 1 = K 69 2 by omega]
              show nx (I 5) n (if K 69 2 = K 69 2 then pl else _) = _
              rw [if_pos rfl]; rfl
            · rw [f, g]
              show (if k2 = K 69 2 then _ else _) = th (I 5) n (if k2 = K 69 2 then pl else K 71 k2) ∧ 0 ≤ (if k2 = K 69 2 then pl else K 71 k2) ∧ (if k2 = K 69 2 then pl else K 71 k2) < n
              by_cases z : k2 = K 69 2
              · rw [if_pos z, if_pos z]; exact ⟨rfl, iv0.1, hlt⟩
              · rw [if_neg z, if_neg z]; exact iv2 k2 q0 (by omega)
            · rw [g]
              show (if k2 + 1 = K 69 2 then pl else K 71 (k2 + 1)) = nx (I 5) n (if k2 = K 69 2 then pl else K 71 k2)
              rw [if_neg (show ¬ k2 = K 69 2 by omega)]
              by_cases z : k2 + 1 = K 69 2
              · rw [if_pos z, show k2 = K 69 2 - 1 by omega, (iv1.2 (by omega)).2, wp]
              · rw [if_neg z]; exact iv3 k2 q0 (by omega)
          refine WP.go 3 (And.intro (And.intro (Nat.le_of_ble_eq_true rfl) (Nat.le_of_ble_eq_true rfl)) (And.intro rfl (?_)))
          show Call d 74 [vr (some 4) 5, vi pl] (K, H) _ _
          refine s_7_behindThing (by omega) hS hszk hnn (by omega) ?_
          show WP (Call d) 70 P X (17, [some (vr (some 69) 7), some (vr (some 4) 5), some (vi pl), some (vi i), none], [vi (bhd (K 5) n pl)], (K, H), 0, 0)
          refine WP.go 1 ?_
          show WP (Call d) 70 P X (18, [some (vr (some 69) 7), some (vr (some 4) 5), some (vi pl), some (vi i), some (vi (bhd (K 5) n pl))], [], (K, H), 0, 0)
          refine rw_i (Q := fun x9 => WP (Call d) 70 P X (18, [some (vr (some 69) 7), some (vr (some 4) 5), some (vi pl), some (vi i), some (vi x9)], [], (K, H), 0, 0)) (by rw [h5]) ?_
          show WP (Call d) 70 P X (18, [some (vr (some 69) 7), some (vr (some 4) 5), some (vi pl), some (vi i), some (vi (bhd (I 5) n pl))], [], (K, H), 0, 0)
          refine WP.go 3 (And.intro (And.intro (Nat.le_of_ble_eq_true rfl) (Nat.le_of_ble_eq_true rfl)) (And.intro rfl (?_)))
          show Call d 66 [vr (some 4) 5, vi pl] (K, H) _ _
          refine s_6_at (by omega) hS hszk (by omega) ?_
          show WP (Call d) 70 P X (21, [some (vr (some 69) 7), some (vr (some 4) 5), some (vi pl), some (vi i), some (vi (bhd (I 5) n pl))], [vi (K 5 pl)], (K, H), 0, 0)
          refine WP.go 2 (And.intro (fun (b22 : K 5 pl = 32) => ?_) (fun (b22 : ¬ K 5 pl = 32) => ?_))
          ·
            show WP (Call d) 70 P X (30, [some (vr (some 69) 7), some (vr (some 4) 5), some (vi pl), some (vi i), some (vi (bhd (I 5) n pl))], [], (K, H), 0, 0)
            refine WP.go 4 (Exists.intro (i + 1) (And.intro (wrp_a (by omega) (by omega)) (?_)))
            show WP (Call d) 70 P X (7, [some (vr (some 69) 7), some (vr (some 4) 5), some (vi (bhd (I 5) n pl)), some (vi (i + 1)), some (vi (bhd (I 5) n pl))], [], (K, H), 0, 0)
            refine WP.wk (L := [some (vr (some 69) 7), some (vr (some 4) 5), some (vi (bhd (I 5) n pl)), some (vi (i + 1)), none]) (And.intro rfl (And.intro rfl (And.intro rfl (And.intro rfl (And.intro trivial (trivial)))))) ?_
            show WP (Call d) 70 P X (7, [some (vr (some 69) 7), some (vr (some 4) 5), some (vi (bhd (I 5) n pl)), some (vi (i + 1)), none], [], (K, H), 0, 0)
            exact ih7 K (bhd (I 5) n pl) (i + 1) (by omega) (by have w := hsp b22; omega) ⟨fun q => (iv1.1 q).trans (hsp b22).2, fun q => ⟨(iv1.2 q).1, (iv1.2 q).2.trans (hsp b22).2⟩⟩ iv2 iv3 iv4
          ·
            show WP (Call d) 70 P X (23, [some (vr (some 69) 7), some (vr (some 4) 5), some (vi pl), some (vi i), some (vi (bhd (I 5) n pl))], [], (K, H), 0, 0)
            refine WP.go 5 (And.intro (And.intro (Nat.le_of_ble_eq_true rfl) (Nat.le_of_ble_eq_true rfl)) (And.intro rfl (?_)))
            show Call d 75 [vr (some 4) 5, vi pl, vi (bhd (I 5) n pl)] (K, H) _ _
            refine s_7_thingAt (by omega) hS hszk hnn hbyk (by omega) (by rw [h5]) ?_
            show WP (Call d) 70 P X (28, [some (vr (some 69) 7), some (vr (some 4) 5), some (vi pl), some (vi i), some (vi (bhd (I 5) n pl))], [vi (th (K 5) n pl), vr (some 69) 7], (K, H), 0, 0)
            refine rw_i (Q := fun x9 => WP (Call d) 70 P X (28, [some (vr (some 69) 7), some (vr (some 4) 5), some (vi pl), some (vi i), some (vi (bhd (I 5) n pl))], [vi x9, vr (some 69) 7], (K, H), 0, 0)) (by rw [h5]) ?_
            show WP (Call d) 70 P X (28, [some (vr (some 69) 7), some (vr (some 4) 5), some (vi pl), some (vi i), some (vi (bhd (I 5) n pl))], [vi (th (I 5) n pl), vr (some 69) 7], (K, H), 0, 0)
            refine WP.go 2 (And.intro (And.intro (Nat.le_of_ble_eq_true rfl) (Nat.le_of_ble_eq_true rfl)) (And.intro rfl (?_)))
            show Call d 71 [vr (some 69) 7, vi (th (I 5) n pl), vi pl] (K, H) _ _
            refine s_7_keep_T69 (by omega) hS (by omega) (fun J29 e29 f29 g29 k29 => ?_)
            show WP (Call d) 70 P X (30, [some (vr (some 69) 7), some (vr (some 4) 5), some (vi pl), some (vi i), some (vi (bhd (I 5) n pl))], [], (J29, H), 0, 0)
            refine WP.go 4 (Exists.intro (i + 1) (And.intro (wrp_a (by omega) (by omega)) (?_)))
            show WP (Call d) 70 P X (7, [some (vr (some 69) 7), some (vr (some 4) 5), some (vi (bhd (I 5) n pl)), some (vi (i + 1)), some (vi (bhd (I 5) n pl))], [], (J29, H), 0, 0)
            refine WP.wk (L := [some (vr (some 69) 7), some (vr (some 4) 5), some (vi (bhd (I 5) n pl)), some (vi (i + 1)), none]) (And.intro rfl (And.intro rfl (And.intro rfl (And.intro rfl (And.intro trivial (trivial)))))) ?_
            show WP (Call d) 70 P X (7, [some (vr (some 69) 7), some (vr (some 4) 5), some (vi (bhd (I 5) n pl)), some (vi (i + 1)), none], [], (J29, H), 0, 0)
            exact ih7 J29 (bhd (I 5) n pl) (i + 1) (by omega) (htk b22 e29 k29).1 ((htk b22 e29 k29).2.1 g29) ((htk b22 e29 k29).2.2.1 f29 g29) ((htk b22 e29 k29).2.2.2.1 g29) (htk b22 e29 k29).2.2.2.2
  exact lp7 ((n - 0 : Int).toNat + 1) J0 0 0 (by omega) (by have : J0 69 2 = 0 := (by rw [e_J0]; rfl); omega) (by have w : J0 69 2 = 0 := (by rw [e_J0]; rfl); exact ⟨fun _ => rfl, fun q => absurd q (by omega)⟩) (fun k q0 q1 => by have : J0 69 2 = 0 := (by rw [e_J0]; rfl); omega) (fun k q0 q1 => by have : J0 69 2 = 0 := (by rw [e_J0]; rfl); omega) ⟨fun a q1 q2 q3 => f_J0 a q1, fun s q => by rw [e_J0]; exact if_neg q⟩

theorem s_7_present_T69 {d : Nat} {P : Option qV → qH → Prop} {X : Nat → qH → Prop} {I : qI} {H : qS} (hd : 1 ≤ d) {tb : Int → Int} {n p : Int} (hS : Shp H) (hK : TOK I 69 tb n) (hat : ATP I 69 p) (h : P (some (vi (th tb n p))) (I, H)) :
    Call d 79 [vr (some 69) 7] (I, H) P X := by
  obtain ⟨d, rfl⟩ : ∃ e, d = e + 1 := ⟨d - 1, by omega⟩
  have hl70 := hS.l70
  have w := hK.at hat
  have w1 : I 70 (I 69 3) = th tb n p := w.1
  have w2 := hat.1
  have w3 := hK.1
  show WP (Call d) 79 P X (0, [some (vr (some 69) 7)], [], (I, H), 0, 0)
  refine WP.go 3 (And.intro rfl (And.intro (fun (b2 : I 69 3 < 0) => (absurd b2 (by omega))) (fun (b2 : ¬ I 69 3 < 0) => ?_)))
  show WP (Call d) 79 P X (3, [some (vr (some 69) 7)], [], (I, H), 0, 0)
  refine WP.go 5 (And.intro rfl (And.intro rfl (And.intro (fun (b7 : ¬ I 69 3 < I 69 2) => (absurd b7 (by omega))) (fun (b7 : I 69 3 < I 69 2) => ?_))))
  show WP (Call d) 79 P X (8, [some (vr (some 69) 7)], [], (I, H), 0, 0)
  refine WP.go 6 (And.intro rfl (And.intro rfl (Exists.intro 70 (And.intro hS.r69_0 (And.intro (Or.inl rfl) (And.intro (fun (b13 : ¬ I 69 3 < H.2.1 70) => (absurd b13 (by omega))) (fun (b13 : I 69 3 < H.2.1 70) => ?_)))))))
  show WP (Call d) 79 P X (14, [some (vr (some 69) 7)], [], (I, H), 0, 0)
  refine WP.go 7 (And.intro rfl (Exists.intro 70 (And.intro hS.r69_0 (And.intro rfl (And.intro (And.intro rfl (And.intro (show 0 ≤ I 69 3 from by omega) (show I 69 3 < H.2.1 70 from by omega))) (And.intro (And.intro (Nat.le_of_ble_eq_true rfl) (Nat.le_of_ble_eq_true rfl)) (And.intro trivial (?_))))))))
  show P (some (vi (I 70 (I 69 3)))) (I, H)
  exact fin_i (by exact w.1) h

theorem s_7_begin_T69 {d : Nat} {P : Option qV → qH → Prop} {X : Nat → qH → Prop} {I : qI} {H : qS} (hd : 1 ≤ d) {tb : Int → Int} {n p : Int} (hS : Shp H) (hK : TOK I 69 tb n) (hat : ATP I 69 p) (h : P (some (vi p)) (I, H)) :
    Call d 80 [vr (some 69) 7] (I, H) P X := by
  obtain ⟨d, rfl⟩ : ∃ e, d = e + 1 := ⟨d - 1, by omega⟩
  have hl71 := hS.l71
  have w2 := hat.1
  have w3 := hK.1
  show WP (Call d) 80 P X (0, [some (vr (some 69) 7)], [], (I, H), 0, 0)
  refine WP.go 3 (And.intro rfl (And.intro (fun (b2 : I 69 3 < 0) => (absurd b2 (by omega))) (fun (b2 : ¬ I 69 3 < 0) => ?_)))
  show WP (Call d) 80 P X (3, [some (vr (some 69) 7)], [], (I, H), 0, 0)
  refine WP.go 6 (And.intro rfl (And.intro rfl (Exists.intro 71 (And.intro hS.r69_1 (And.intro (Or.inl rfl) (And.intro (fun (b8 : ¬ I 69 3 < H.2.1 71) => (absurd b8 (by omega))) (fun (b8 : I 69 3 < H.2.1 71) => ?_)))))))
  show WP (Call d) 80 P X (9, [some (vr (some 69) 7)], [], (I, H), 0, 0)
  refine WP.go 7 (And.intro rfl (Exists.intro 71 (And.intro hS.r69_1 (And.intro rfl (And.intro (And.intro rfl (And.intro (show 0 ≤ I 69 3 from by omega) (show I 69 3 < H.2.1 71 from by omega))) (And.intro (And.intro (Nat.le_of_ble_eq_true rfl) (Nat.le_of_ble_eq_true rfl)) (And.intro trivial (?_))))))))
  show P (some (vi (I 71 (I 69 3)))) (I, H)
  exact fin_i (by exact hat.2) h

theorem s_7_skip_T69 {d : Nat} {P : Option qV → qH → Prop} {X : Nat → qH → Prop} {I : qI} {H : qS} (hd : 1 ≤ d) {tb : Int → Int} {n p t9 : Int} (hS : Shp H) (hK : TOK I 69 tb n) (hat : ATP I 69 p) (ht : t9 ≠ 3000) (h : (th tb n p = t9 → ∀ J : qI, (∀ s, s ≠ 3 → J 69 s = I 69 s) → (∀ a, a ≠ 69 → J a = I a) → ATP J 69 (nx tb n p) → P (some (vi 1)) (J, H)) ∧ (¬ th tb n p = t9 → ∀ J : qI, J = upI I 69 3 (I 69 3 + 0) → P (some (vi 0)) (J, H))) :
    Call d 81 [vr (some 69) 7, vi t9] (I, H) P X := by
  obtain ⟨d, rfl⟩ : ∃ e, d = e + 1 := ⟨d - 1, by omega⟩
  have hl70 := hS.l70
  have w := hK.at hat
  have w1 : I 70 (I 69 3) = th tb n p := w.1
  have w2 := hat.1
  have w3 := hK.1
  have w4 := hK.end hat
  show WP (Call d) 81 P X (0, [some (vr (some 69) 7), some (vi t9), none], [], (I, H), 0, 0)
  refine WP.go 3 (And.intro rfl (And.intro (fun (b2 : I 69 3 < 0) => (absurd b2 (by omega))) (fun (b2 : ¬ I 69 3 < 0) => ?_)))
  show WP (Call d) 81 P X (3, [some (vr (some 69) 7), some (vi t9), none], [], (I, H), 0, 0)
  refine WP.go 5 (And.intro rfl (And.intro rfl (And.intro (fun (b7 : ¬ I 69 3 < I 69 2) => (absurd b7 (by omega))) (fun (b7 : I 69 3 < I 69 2) => ?_))))
  show WP (Call d) 81 P X (8, [some (vr (some 69) 7), some (vi t9), none], [], (I, H), 0, 0)
  refine WP.go 6 (And.intro rfl (And.intro rfl (Exists.intro 70 (And.intro hS.r69_0 (And.intro (Or.inl rfl) (And.intro (fun (b13 : ¬ I 69 3 < H.2.1 70) => (absurd b13 (by omega))) (fun (b13 : I 69 3 < H.2.1 70) => ?_)))))))
  show WP (Call d) 81 P X (14, [some (vr (some 69) 7), some (vi t9), none], [], (I, H), 0, 0)
  refine WP.go 7 (And.intro rfl (Exists.intro 70 (And.intro hS.r69_0 (And.intro rfl (And.intro (And.intro rfl (And.intro (show 0 ≤ I 69 3 from by omega) (show I 69 3 < H.2.1 70 from by omega))) (And.intro (fun (b20 : ¬ I 70 (I 69 3) = t9) => ?_) (fun (b20 : I 70 (I 69 3) = t9) => ?_)))))))
  ·
    show WP (Call d) 81 P X (23, [some (vr (some 69) 7), some (vi t9), none], [], (I, H), 0, 0)
    refine WP.go 7 (And.intro rfl (And.intro (fun (b29 : 0 = 0) => ?_) (fun (b29 : ¬ 0 = 0) => (absurd b29 (by omega)))))
    show WP (Call d) 81 P X (32, [some (vr (some 69) 7), some (vi t9), some (vi 0)], [vi (I 69 3), vr (some 69) 7], (I, H), 0, 0)
    refine WP.go 5 (Exists.intro ((I 69 3) + 0) (And.intro (wrp_a (by omega) (by omega)) (And.intro (And.intro rfl trivial) (And.intro (And.intro (Nat.le_of_ble_eq_true rfl) (Nat.le_of_ble_eq_true rfl)) (And.intro (Or.inl rfl) (?_))))))
    show P (some (vi 0)) ((upI I 69 3 ((I 69 3) + 0)), H)
    exact h.2 (fun q => b20 (w.1.trans q)) _ rfl
  ·
    show WP (Call d) 81 P X (21, [some (vr (some 69) 7), some (vi t9), none], [], (I, H), 0, 0)
    refine WP.go 8 (And.intro rfl (And.intro (fun (b29 : 1 = 0) => (absurd b29 (by omega))) (fun (b29 : ¬ 1 = 0) => ?_)))
    show WP (Call d) 81 P X (30, [some (vr (some 69) 7), some (vi t9), some (vi 1)], [vi (I 69 3), vr (some 69) 7], (I, H), 0, 0)
    refine WP.go 6 (Exists.intro ((I 69 3) + 1) (And.intro (wrp_a (by omega) (by omega)) (And.intro (And.intro rfl trivial) (And.intro (And.intro (Nat.le_of_ble_eq_true rfl) (Nat.le_of_ble_eq_true rfl)) (And.intro (Or.inr rfl) (?_))))))
    show P (some (vi 1)) ((upI I 69 3 ((I 69 3) + 1)), H)
    exact h.1 (w.1.symm.trans b20) _ (fun s q => upI_at (.inr q)) (fun a q => upI_cell q) (hK.nx hat (w4 (by rw [← w.1, b20]; exact ht)) (upI_self _ _ _ _) (upI_cell (by omega)))

theorem s_7_take_T69 {d : Nat} {P : Option qV → qH → Prop} {X : Nat → qH → Prop} {I : qI} {H : qS} (hd : 1 ≤ d) {tb : Int → Int} {n p lo hi : Int} (hS : Shp H) (hK : TOK I 69 tb n) (hat : ATP I 69 p) (ht : hi < 3000) (h : ((lo ≤ th tb n p ∧ th tb n p ≤ hi) → ∀ J : qI, (∀ s, s ≠ 3 → J 69 s = I 69 s) → (∀ a, a ≠ 69 → J a = I a) → ATP J 69 (nx tb n p) → P (some (vi (th tb n p))) (J, H)) ∧ (¬ (lo ≤ th tb n p ∧ th tb n p ≤ hi) → P (some (vi (-1))) (I, H))) :
    Call d 82 [vr (some 69) 7, vi lo, vi hi] (I, H) P X := by
  obtain ⟨d, rfl⟩ : ∃ e, d = e + 1 := ⟨d - 1, by omega⟩
  have hl70 := hS.l70
  have w := hK.at hat
  have w1 : I 70 (I 69 3) = th tb n p := w.1
  have w2 := hat.1
  have w3 := hK.1
  have w4 := hK.end hat
  show WP (Call d) 82 P X (0, [some (vr (some 69) 7), some (vi lo), some (vi hi), none], [], (I, H), 0, 0)
  refine WP.go 3 (And.intro rfl (And.intro (fun (b2 : I 69 3 < 0) => (absurd b2 (by omega))) (fun (b2 : ¬ I 69 3 < 0) => ?_)))
  show WP (Call d) 82 P X (3, [some (vr (some 69) 7), some (vi lo), some (vi hi), none], [], (I, H), 0, 0)
  refine WP.go 5 (And.intro rfl (And.intro rfl (And.intro (fun (b7 : ¬ I 69 3 < I 69 2) => (absurd b7 (by omega))) (fun (b7 : I 69 3 < I 69 2) => ?_))))
  show WP (Call d) 82 P X (8, [some (vr (some 69) 7), some (vi lo), some (vi hi), none], [], (I, H), 0, 0)
  refine WP.go 6 (And.intro rfl (And.intro rfl (Exists.intro 70 (And.intro hS.r69_0 (And.intro (Or.inl rfl) (And.intro (fun (b13 : ¬ I 69 3 < H.2.1 70) => (absurd b13 (by omega))) (fun (b13 : I 69 3 < H.2.1 70) => ?_)))))))
  show WP (Call d) 82 P X (14, [some (vr (some 69) 7), some (vi lo), some (vi hi), none], [], (I, H), 0, 0)
  refine WP.go 10 (And.intro rfl (Exists.intro 70 (And.intro hS.r69_0 (And.intro rfl (And.intro (And.intro rfl (And.intro (show 0 ≤ I 69 3 from by omega) (show I 69 3 < H.2.1 70 from by omega))) (And.intro (fun (b24 : I 70 (I 69 3) < lo) => ?_) (fun (b24 : ¬ I 70 (I 69 3) < lo) => ?_)))))))
  ·
    show WP (Call d) 82 P X (28, [some (vr (some 69) 7), some (vi lo), some (vi hi), some (vi (I 70 (I 69 3)))], [], (I, H), 0, 0)
    refine WP.go 2 (And.intro (And.intro (Nat.le_of_ble_eq_true rfl) (Nat.le_of_ble_eq_true rfl)) (And.intro trivial (?_)))
    show P (some (vi (-1))) (I, H)
    exact h.2 (by omega)
  ·
    show WP (Call d) 82 P X (25, [some (vr (some 69) 7), some (vi lo), some (vi hi), some (vi (I 70 (I 69 3)))], [], (I, H), 0, 0)
    refine WP.go 3 (And.intro (fun (b27 : ¬ hi < I 70 (I 69 3)) => ?_) (fun (b27 : hi < I 70 (I 69 3)) => ?_))
    ·
      show WP (Call d) 82 P X (30, [some (vr (some 69) 7), some (vi lo), some (vi hi), some (vi (I 70 (I 69 3)))], [], (I, H), 0, 0)
      refine WP.go 8 (And.intro rfl (Exists.intro ((I 69 3) + 1) (And.intro (wrp_a (by omega) (by omega)) (And.intro (And.intro rfl trivial) (And.intro (And.intro (Nat.le_of_ble_eq_true rfl) (Nat.le_of_ble_eq_true rfl)) (And.intro trivial (?_)))))))
      show P (some (vi (I 70 (I 69 3)))) ((upI I 69 3 ((I 69 3) + 1)), H)
      exact fin_i w.1 (h.1 (by omega) _ (fun s q => upI_at (.inr q)) (fun a q => upI_cell q) (hK.nx hat (w4 (by omega)) (upI_self _ _ _ _) (upI_cell (by omega))))
    ·
      show WP (Call d) 82 P X (28, [some (vr (some 69) 7), some (vi lo), some (vi hi), some (vi (I 70 (I 69 3)))], [], (I, H), 0, 0)
      refine WP.go 2 (And.intro (And.intro (Nat.le_of_ble_eq_true rfl) (Nat.le_of_ble_eq_true rfl)) (And.intro trivial (?_)))
      show P (some (vi (-1))) (I, H)
      exact h.2 (by omega)

theorem s_7_keep_T72 {d : Nat} {P : Option qV → qH → Prop} {X : Nat → qH → Prop} {I : qI} {H : qS} (hd : 1 ≤ d) {t9 g9 : Int} (hS : Shp H) (hc : 0 ≤ I 72 2 ∧ I 72 2 ≤ 400) (h : ∀ J : qI, J 72 = (fun s => if s = 2 then I 72 2 + 1 else I 72 s) → J 73 = (fun j => if j = I 72 2 then t9 else I 73 j) → J 74 = (fun j => if j = I 72 2 then g9 else I 74 j) → (∀ a, a ≠ 72 → a ≠ 73 → a ≠ 74 → J a = I a) → P none (J, H)) :
    Call d 71 [vr (some 72) 3, vi t9, vi g9] (I, H) P X := by
  obtain ⟨d, rfl⟩ : ∃ e, d = e + 1 := ⟨d - 1, by omega⟩
  have hl73 := hS.l73
  have hl74 := hS.l74
  show WP (Call d) 71 P X (0, [some (vr (some 72) 3), some (vi t9), some (vi g9)], [], (I, H), 0, 0)
  refine WP.go 3 (And.intro rfl (And.intro (fun (b2 : I 72 2 < 0) => (absurd b2 (by omega))) (fun (b2 : ¬ I 72 2 < 0) => ?_)))
  show WP (Call d) 71 P X (3, [some (vr (some 72) 3), some (vi t9), some (vi g9)], [], (I, H), 0, 0)
  refine WP.go 6 (And.intro rfl (And.intro rfl (Exists.intro 73 (And.intro hS.r72_0 (And.intro (Or.inl rfl) (And.intro (fun (b8 : ¬ I 72 2 < H.2.1 73) => (absurd b8 (by omega))) (fun (b8 : I 72 2 < H.2.1 73) => ?_)))))))
  show WP (Call d) 71 P X (9, [some (vr (some 72) 3), some (vi t9), some (vi g9)], [], (I, H), 0, 0)
  refine WP.go 6 (And.intro rfl (And.intro rfl (Exists.intro 74 (And.intro hS.r72_1 (And.intro (Or.inl rfl) (And.intro (fun (b14 : ¬ I 72 2 < H.2.1 74) => (absurd b14 (by omega))) (fun (b14 : I 72 2 < H.2.1 74) => ?_)))))))
  show WP (Call d) 71 P X (15, [some (vr (some 72) 3), some (vi t9), some (vi g9)], [], (I, H), 0, 0)
  refine WP.go 6 (And.intro rfl (Exists.intro 73 (And.intro hS.r72_0 (And.intro rfl (And.intro (And.intro rfl (And.intro (show 0 ≤ I 72 2 from by omega) (show I 72 2 < H.2.1 73 from by omega))) (?_))))))
  show WP (Call d) 71 P X (21, [some (vr (some 72) 3), some (vi t9), some (vi g9)], [], ((upI I 73 (I 72 2) t9), H), 0, 0)
  generalize hq_J0 : (upI I 73 (I 72 2) t9) = J0
  have e_J0 : J0 73 = (fun j => if j = (I 72 2) then t9 else I 73 j) := by rw [← hq_J0]; exact upI_self _ _ _ _
  have f_J0 : ∀ a, a ≠ 73 → J0 a = I a := fun a q => by rw [← hq_J0]; exact upI_cell q
  have c0 : J0 72 2 = I 72 2 := by rw [f_J0 72 (by omega)]
  refine WP.go 6 (And.intro rfl (Exists.intro 74 (And.intro hS.r72_1 (And.intro rfl (And.intro (And.intro rfl (And.intro (show 0 ≤ J0 72 2 from by omega) (show J0 72 2 < H.2.1 74 from by omega))) (?_))))))
  show WP (Call d) 71 P X (27, [some (vr (some 72) 3), some (vi t9), some (vi g9)], [], ((upI J0 74 (J0 72 2) g9), H), 0, 0)
  generalize hq_J1 : (upI J0 74 (J0 72 2) g9) = J1
  have e_J1 : J1 74 = (fun j => if j = (J0 72 2) then g9 else J0 74 j) := by rw [← hq_J1]; exact upI_self _ _ _ _
  have f_J1 : ∀ a, a ≠ 74 → J1 a = J0 a := fun a q => by rw [← hq_J1]; exact upI_cell q
  have c1 : J1 72 2 = I 72 2 := by rw [f_J1 72 (by omega), c0]
  refine WP.go 7 (And.intro rfl (Exists.intro ((J1 72 2) + 1) (And.intro (wrp_a (by omega) (by omega)) (And.intro (And.intro rfl trivial) (And.intro (And.intro (Nat.le_of_ble_eq_true rfl) (Nat.le_of_ble_eq_true rfl)) (?_))))))
  show P none ((upI J1 72 2 ((J1 72 2) + 1)), H)
  refine h _ (by rw [upI_self, f_J1 72 (by omega), f_J0 72 (by omega)]) (by rw [upI_cell (by omega), f_J1 73 (by omega), e_J0]) (by rw [upI_cell (by omega), e_J1, f_J0 74 (by omega), c0]) (fun a q1 q2 q3 => by rw [upI_cell q1, f_J1 a q3, f_J0 a q2])

theorem s_7_takeFrom_T72 {d : Nat} {P : Option qV → qH → Prop} {X : Nat → qH → Prop} {I : qI} {H : qS} (hd : 4 ≤ d) {n : Int} (hS : Shp H) (hsz : I 4 1 = n) (hnn : 0 ≤ n ∧ n ≤ 400) (hby : ∀ j, 0 ≤ j → j < n → 0 ≤ I 5 j ∧ I 5 j ≤ 255) (h : ∀ J : qI, TOK J 72 (I 5) n → (∀ a, a ≠ 4 → a ≠ 72 → a ≠ 73 → a ≠ 74 → J a = I a) → J 4 = (fun s => if s = 1 then 0 else I 4 s) → (∀ s, s ≠ 2 → J 72 s = I 72 s) → P none (J, H)) :
    Call d 70 [vr (some 72) 3, vr (some 4) 5] (I, H) P X := by
  obtain ⟨d, rfl⟩ : ∃ e, d = e + 1 := ⟨d - 1, by omega⟩
  show WP (Call d) 70 P X (0, [some (vr (some 72) 3), some (vr (some 4) 5), none, none, none], [], (I, H), 0, 0)
  refine WP.go 3 (And.intro (And.intro rfl trivial) (?_))
  show WP (Call d) 70 P X (3, [some (vr (some 72) 3), some (vr (some 4) 5), none, none, none], [], ((upI I 72 2 0), H), 0, 0)
  generalize hq_J0 : (upI I 72 2 0) = J0
  have e_J0 : J0 72 = (fun j => if j = 2 then 0 else I 72 j) := by rw [← hq_J0]; exact upI_self _ _ _ _
  have f_J0 : ∀ a, a ≠ 72 → J0 a = I a := fun a q => by rw [← hq_J0]; exact upI_cell q
  refine WP.go 4 ?_
  show WP (Call d) 70 P X (7, [some (vr (some 72) 3), some (vr (some 4) 5), some (vi 0), some (vi 0), none], [], (J0, H), 0, 0)
  have lp7 : ∀ (n9 : Nat) (K : qI) (pl : Int) (i : Int) (hm : n - pl < (n9 : Int)) (iv0 : 0 ≤ pl ∧ pl ≤ n ∧ 0 ≤ i ∧ i ≤ pl ∧ 0 ≤ K 72 2 ∧ K 72 2 ≤ pl) (iv1 : (K 72 2 = 0 → sk (I 5) n 0 = sk (I 5) n pl) ∧ (0 < K 72 2 → K 74 0 = sk (I 5) n 0 ∧ nx (I 5) n (K 74 (K 72 2 - 1)) = sk (I 5) n pl)) (iv2 : ∀ k, 0 ≤ k → k < K 72 2 → K 73 k = th (I 5) n (K 74 k) ∧ 0 ≤ K 74 k ∧ K 74 k < n) (iv3 : ∀ k, 0 ≤ k → k + 1 < K 72 2 → K 74 (k + 1) = nx (I 5) n (K 74 k)) (iv4 : (∀ a, a ≠ 72 → a ≠ 73 → a ≠ 74 → K a = I a) ∧ (∀ s, s ≠ 2 → K 72 s = I 72 s)), WP (Call d) 70 P X (7, [some (vr (some 72) 3), some (vr (some 4) 5), some (vi pl), some (vi i), none], [], (K, H), 0, 0) := by
    intro n9
    induction n9 with
    | zero => intro K pl i hm iv0 iv1 iv2 iv3 iv4; exact absurd hm (by omega)
    | succ n9 ih7 =>
      intro K pl i hm iv0 iv1 iv2 iv3 iv4
      have h5 : K 5 = I 5 := iv4.1 5 (by omega) (by omega) (by omega)
      have hszk : K 4 1 = n := (congrFun (iv4.1 4 (by omega) (by omega) (by omega)) 1).trans hsz
      have hbyk : ∀ j, 0 ≤ j → j < n → 0 ≤ K 5 j ∧ K 5 j ≤ 255 := by rw [h5]; exact hby
      refine WP.go 3 (And.intro (fun (b9 : ¬ i < 400) => ?_) (fun (b9 : i < 400) => ?_))
      ·
        show WP (Call d) 70 P X (34, [some (vr (some 72) 3), some (vr (some 4) 5), some (vi pl), some (vi i), none], [], (K, H), 0, 0)
        refine WP.go 4 (And.intro (And.intro (Nat.le_of_ble_eq_true rfl) (Nat.le_of_ble_eq_true rfl)) (And.intro rfl (?_)))
        show Call d 65 [vr (some 4) 5] (K, H) _ _
        refine s_6_size (by omega) hszk ?_
        show WP (Call d) 70 P X (38, [some (vr (some 72) 3), some (vr (some 4) 5), some (vi pl), some (vi i), none], [vi n, vi 3000, vr (some 72) 3], (K, H), 0, 0)
        refine WP.go 1 (And.intro (And.intro (Nat.le_of_ble_eq_true rfl) (Nat.le_of_ble_eq_true rfl)) (And.intro rfl (?_)))
        show Call d 71 [vr (some 72) 3, vi 3000, vi n] (K, H) _ _
        refine s_7_keep_T72 (by omega) hS (by omega) (fun J38 e38 f38 g38 k38 => ?_)
        show WP (Call d) 70 P X (39, [some (vr (some 72) 3), some (vr (some 4) 5), some (vi pl), some (vi i), none], [], (J38, H), 0, 0)
        refine WP.go 3 (And.intro (And.intro (Nat.le_of_ble_eq_true rfl) (Nat.le_of_ble_eq_true rfl)) (And.intro rfl (?_)))
        show Call d 68 [vr (some 4) 5, vi 0] (J38, H) _ _
        refine s_6_cut_0 (by omega) ((congrFun (k38 4 (by omega) (by omega) (by omega)) 1).trans hszk) (by omega) (fun J41 e41 f41 => ?_)
        show WP (Call d) 70 P X (42, [some (vr (some 72) 3), some (vr (some 4) 5), some (vi pl), some (vi i), none], [vi 1], (J41, H), 0, 0)
        refine WP.go 2 (And.intro (And.intro (Nat.le_of_ble_eq_true rfl) (Nat.le_of_ble_eq_true rfl)) (?_))
        show P none (J41, H)
        have hpn : pl = n := by omega
        have w2 : J38 72 2 = K 72 2 + 1 := by rw [e38]; rfl
        have skn : sk (I 5) n n = n := fx_e (Int.le_refl _)
        refine h _ ⟨?_, ?_, fun k2 q0 q1 => ?_, fun k2 q0 q1 => ?_, ?_⟩ (fun a q0 q1 q2 q3 => by rw [f41 a q0, k38 a q1 q2 q3, iv4.1 a q1 q2 q3]) (by rw [e41, k38 4 (by omega) (by omega) (by omega), iv4.1 4 (by omega) (by omega) (by omega)]) (fun s q => by rw [f41 72 (by omega), e38]; exact (if_neg q).trans (iv4.2 s q))
        · rw [f41 72 (by omega), w2]; omega
        · rw [f41 74 (by omega), g38]
          show (if (0 : Int) = K 72 2 then n else K 74 0) = _
          by_cases z : (0 : Int) = K 72 2
          · rw [if_pos z, iv1.1 z.symm, hpn, skn]
          · rw [if_neg z]; exact (iv1.2 (by omega)).1
        · rw [f41 72 (by omega), w2] at q1
          rw [f41 73 (by omega), f41 74 (by omega), f38, g38]
          show (if k2 = K 72 2 then 3000 else K 73 k2) = th (I 5) n (if k2 = K 72 2 then n else K 74 k2) ∧ 0 ≤ (if k2 = K 72 2 then n else K 74 k2) ∧ (if k2 = K 72 2 then n else K 74 k2) ≤ n
          by_cases z : k2 = K 72 2
          · rw [if_pos z, if_pos z]; exact ⟨(th_e _ _).symm, by omega, by omega⟩
          · rw [if_neg z, if_neg z]; have w := iv2 k2 q0 (by omega); exact ⟨w.1, w.2.1, by omega⟩
        · rw [f41 72 (by omega), w2] at q1
          rw [f41 74 (by omega), g38]
          show (if k2 = K 72 2 then n else K 74 k2) < n ∧ (if k2 + 1 = K 72 2 then n else K 74 (k2 + 1)) = nx (I 5) n (if k2 = K 72 2 then n else K 74 k2)
          rw [if_neg (show ¬ k2 = K 72 2 by omega)]
          refine ⟨(iv2 k2 q0 (by omega)).2.2, ?_⟩
          by_cases z : k2 + 1 = K 72 2
          · rw [if_pos z, show k2 = K 72 2 - 1 by omega, (iv1.2 (by omega)).2, hpn, skn]
          · rw [if_neg z]; exact iv3 k2 q0 (by omega)
        · rw [f41 72 (by omega), f41 74 (by omega), w2, g38, show K 72 2 + 1 - 1 = K 72 2 by omega]
          exact if_pos rfl
      ·
        show WP (Call d) 70 P X (10, [some (vr (some 72) 3), some (vr (some 4) 5), some (vi pl), some (vi i), none], [], (K, H), 0, 0)
        refine WP.go 3 (And.intro (And.intro (Nat.le_of_ble_eq_true rfl) (Nat.le_of_ble_eq_true rfl)) (And.intro rfl (?_)))
        show Call d 65 [vr (some 4) 5] (K, H) _ _
        refine s_6_size (by omega) hszk ?_
        show WP (Call d) 70 P X (13, [some (vr (some 72) 3), some (vr (some 4) 5), some (vi pl), some (vi i), none], [vi n, vi pl], (K, H), 0, 0)
        refine WP.go 1 (And.intro (fun (b13 : ¬ pl < n) => ?_) (fun (b13 : pl < n) => ?_))
        ·
          show WP (Call d) 70 P X (34, [some (vr (some 72) 3), some (vr (some 4) 5), some (vi pl), some (vi i), none], [], (K, H), 0, 0)
          refine WP.go 4 (And.intro (And.intro (Nat.le_of_ble_eq_true rfl) (Nat.le_of_ble_eq_true rfl)) (And.intro rfl (?_)))
          show Call d 65 [vr (some 4) 5] (K, H) _ _
          refine s_6_size (by omega) hszk ?_
          show WP (Call d) 70 P X (38, [some (vr (some 72) 3), some (vr (some 4) 5), some (vi pl), some (vi i), none], [vi n, vi 3000, vr (some 72) 3], (K, H), 0, 0)
          refine WP.go 1 (And.intro (And.intro (Nat.le_of_ble_eq_true rfl) (Nat.le_of_ble_eq_true rfl)) (And.intro rfl (?_)))
          show Call d 71 [vr (some 72) 3, vi 3000, vi n] (K, H) _ _
          refine s_7_keep_T72 (by omega) hS (by omega) (fun J38_1 e38_1 f38_1 g38_1 k38_1 => ?_)
          show WP (Call d) 70 P X (39, [some (vr (some 72) 3), some (vr (some 4) 5), some (vi pl), some (vi i), none], [], (J38_1, H), 0, 0)
          refine WP.go 3 (And.intro (And.intro (Nat.le_of_ble_eq_true rfl) (Nat.le_of_ble_eq_true rfl)) (And.intro rfl (?_)))
          show Call d 68 [vr (some 4) 5, vi 0] (J38_1, H) _ _
          refine s_6_cut_0 (by omega) ((congrFun (k38_1 4 (by omega) (by omega) (by omega)) 1).trans hszk) (by omega) (fun J41_1 e41_1 f41_1 => ?_)
          show WP (Call d) 70 P X (42, [some (vr (some 72) 3), some (vr (some 4) 5), some (vi pl), some (vi i), none], [vi 1], (J41_1, H), 0, 0)
          refine WP.go 2 (And.intro (And.intro (Nat.le_of_ble_eq_true rfl) (Nat.le_of_ble_eq_true rfl)) (?_))
          show P none (J41_1, H)
          have hpn : pl = n := by omega
          have w2 : J38_1 72 2 = K 72 2 + 1 := by rw [e38_1]; rfl
          have skn : sk (I 5) n n = n := fx_e (Int.le_refl _)
          refine h _ ⟨?_, ?_, fun k2 q0 q1 => ?_, fun k2 q0 q1 => ?_, ?_⟩ (fun a q0 q1 q2 q3 => by rw [f41_1 a q0, k38_1 a q1 q2 q3, iv4.1 a q1 q2 q3]) (by rw [e41_1, k38_1 4 (by omega) (by omega) (by omega), iv4.1 4 (by omega) (by omega) (by omega)]) (fun s q => by rw [f41_1 72 (by omega), e38_1]; exact (if_neg q).trans (iv4.2 s q))
          · rw [f41_1 72 (by omega), w2]; omega
          · rw [f41_1 74 (by omega), g38_1]
            show (if (0 : Int) = K 72 2 then n else K 74 0) = _
            by_cases z : (0 : Int) = K 72 2
            · rw [if_pos z, iv1.1 z.symm, hpn, skn]
            · rw [if_neg z]; exact (iv1.2 (by omega)).1
          · rw [f41_1 72 (by omega), w2] at q1
            rw [f41_1 73 (by omega), f41_1 74 (by omega), f38_1, g38_1]
            show (if k2 = K 72 2 then 3000 else K 73 k2) = th (I 5) n (if k2 = K 72 2 then n else K 74 k2) ∧ 0 ≤ (if k2 = K 72 2 then n else K 74 k2) ∧ (if k2 = K 72 2 then n else K 74 k2) ≤ n
            by_cases z : k2 = K 72 2
            · rw [if_pos z, if_pos z]; exact ⟨(th_e _ _).symm, by omega, by omega⟩
            · rw [if_neg z, if_neg z]; have w := iv2 k2 q0 (by omega); exact ⟨w.1, w.2.1, by omega⟩
          · rw [f41_1 72 (by omega), w2] at q1
            rw [f41_1 74 (by omega), g38_1]
            show (if k2 = K 72 2 then n else K 74 k2) < n ∧ (if k2 + 1 = K 72 2 then n else K 74 (k2 + 1)) = nx (I 5) n (if k2 = K 72 2 then n else K 74 k2)
            rw [if_neg (show ¬ k2 = K 72 2 by omega)]
            refine ⟨(iv2 k2 q0 (by omega)).2.2, ?_⟩
            by_cases z : k2 + 1 = K 72 2
            · rw [if_pos z, show k2 = K 72 2 - 1 by omega, (iv1.2 (by omega)).2, hpn, skn]
            · rw [if_neg z]; exact iv3 k2 q0 (by omega)
          · rw [f41_1 72 (by omega), f41_1 74 (by omega), w2, g38_1, show K 72 2 + 1 - 1 = K 72 2 by omega]
            exact if_pos rfl
        ·
          show WP (Call d) 70 P X (14, [some (vr (some 72) 3), some (vr (some 4) 5), some (vi pl), some (vi i), none], [], (K, H), 0, 0)
          have hlt : pl < n := by omega
          have hbd := bhd_bd (tb := I 5) (n := n) iv0.1 hlt
          have hsp : K 5 pl = 32 → bhd (I 5) n pl = pl + 1 ∧ sk (I 5) n pl = sk (I 5) n (bhd (I 5) n pl) := fun q => by
            rw [h5] at q
            have w := bhd_s (tb := I 5) (n := n) (p := pl) (fun z => by unfold isL at z; omega) (fun z => by unfold isD at z; omega)
            rw [w]
            exact ⟨rfl, fx_n hlt (fun z => z q)⟩
          have htk : ∀ {J : qI}, K 5 pl ≠ 32 → J 72 = (fun s => if s = 2 then K 72 2 + 1 else K 72 s) → (∀ a, a ≠ 72 → a ≠ 73 → a ≠ 74 → J a = K a) → (0 ≤ bhd (I 5) n pl ∧ bhd (I 5) n pl ≤ n ∧ 0 ≤ i + 1 ∧ i + 1 ≤ bhd (I 5) n pl ∧ 0 ≤ J 72 2 ∧ J 72 2 ≤ bhd (I 5) n pl) ∧ (J 74 = (fun j => if j = K 72 2 then pl else K 74 j) → (J 72 2 = 0 → sk (I 5) n 0 = sk (I 5) n (bhd (I 5) n pl)) ∧ (0 < J 72 2 → J 74 0 = sk (I 5) n 0 ∧ nx (I 5) n (J 74 (J 72 2 - 1)) = sk (I 5) n (bhd (I 5) n pl))) ∧ (J 73 = (fun j => if j = K 72 2 then th (I 5) n pl else K 73 j) → J 74 = (fun j => if j = K 72 2 then pl else K 74 j) → ∀ k, 0 ≤ k → k < J 72 2 → J 73 k = th (I 5) n (J 74 k) ∧ 0 ≤ J 74 k ∧ J 74 k < n) ∧ (J 74 = (fun j => if j = K 72 2 then pl else K 74 j) → ∀ k, 0 ≤ k → k + 1 < J 72 2 → J 74 (k + 1) = nx (I 5) n (J 74 k)) ∧ ((∀ a, a ≠ 72 → a ≠ 73 → a ≠ 74 → J a = I a) ∧ (∀ s, s ≠ 2 → J 72 s = I 72 s)) := fun {J} hne e k => by
            have w2 : J 72 2 = K 72 2 + 1 := by rw [e]; rfl
            rw [h5] at hne
            have wp : sk (I 5) n pl = pl := fx_y hlt iv0.1 hne
            rw [w2]
            refine ⟨by omega, fun g => ⟨fun q => by omega, fun q => ⟨?_, ?_⟩⟩, fun f g k2 q0 q1 => ?_, fun g k2 q0 q1 => ?_, fun a q1 q2 q3 => (k a q1 q2 q3).trans (iv4.1 a q1 q2 q3), fun s q => by rw [e]; exact (if_neg q).trans (iv4.2 s q)⟩
            · rw [g]
              show (if (0 : Int) = K 72 2 then pl else K 74 0) = _
              by_cases z : (0 : Int) = K 72 2
              · rw [if_pos z, iv1.1 z.symm, wp]
              · rw [if_neg z]; exact (iv1.2 (by omega)).1
            · rw [g, show K 72 2 + 1 - 1 = K 72 2 by omega]
              show nx (I 5) n (if K 72 2 = K 72 2 then pl else _) = _
              rw [if_pos rfl]; rfl
            · rw [f, g]
              show (if k2 = K 72 2 then _ else _) = th (I 5) n (if k2 = K 72 2 then pl else K 74 k2) ∧ 0 ≤ (if k2 = K 72 2 then pl else K 74 k2) ∧ (if k2 = K 72 2 then pl else K 74 k2) < n
              by_cases z : k2 = K 72 2
              · rw [if_pos z, if_pos z]; exact ⟨rfl, iv0.1, hlt⟩
              · rw [if_neg z, if_neg z]; exact iv2 k2 q0 (by omega)
            · rw [g]
              show (if k2 + 1 = K 72 2 then pl else K 74 (k2 + 1)) = nx (I 5) n (if k2 = K 72 2 then pl else K 74 k2)
              rw [if_neg (show ¬ k2 = K 72 2 by omega)]
              by_cases z : k2 + 1 = K 72 2
              · rw [if_pos z, show k2 = K 72 2 - 1 by omega, (iv1.2 (by omega)).2, wp]
              · rw [if_neg z]; exact iv3 k2 q0 (by omega)
          refine WP.go 3 (And.intro (And.intro (Nat.le_of_ble_eq_true rfl) (Nat.le_of_ble_eq_true rfl)) (And.intro rfl (?_)))
          show Call d 74 [vr (some 4) 5, vi pl] (K, H) _ _
          refine s_7_behindThing (by omega) hS hszk hnn (by omega) ?_
          show WP (Call d) 70 P X (17, [some (vr (some 72) 3), some (vr (some 4) 5), some (vi pl), some (vi i), none], [vi (bhd (K 5) n pl)], (K, H), 0, 0)
          refine WP.go 1 ?_
          show WP (Call d) 70 P X (18, [some (vr (some 72) 3), some (vr (some 4) 5), some (vi pl), some (vi i), some (vi (bhd (K 5) n pl))], [], (K, H), 0, 0)
          refine rw_i (Q := fun x9 => WP (Call d) 70 P X (18, [some (vr (some 72) 3), some (vr (some 4) 5), some (vi pl), some (vi i), some (vi x9)], [], (K, H), 0, 0)) (by rw [h5]) ?_
          show WP (Call d) 70 P X (18, [some (vr (some 72) 3), some (vr (some 4) 5), some (vi pl), some (vi i), some (vi (bhd (I 5) n pl))], [], (K, H), 0, 0)
          refine WP.go 3 (And.intro (And.intro (Nat.le_of_ble_eq_true rfl) (Nat.le_of_ble_eq_true rfl)) (And.intro rfl (?_)))
          show Call d 66 [vr (some 4) 5, vi pl] (K, H) _ _
          refine s_6_at (by omega) hS hszk (by omega) ?_
          show WP (Call d) 70 P X (21, [some (vr (some 72) 3), some (vr (some 4) 5), some (vi pl), some (vi i), some (vi (bhd (I 5) n pl))], [vi (K 5 pl)], (K, H), 0, 0)
          refine WP.go 2 (And.intro (fun (b22 : K 5 pl = 32) => ?_) (fun (b22 : ¬ K 5 pl = 32) => ?_))
          ·
            show WP (Call d) 70 P X (30, [some (vr (some 72) 3), some (vr (some 4) 5), some (vi pl), some (vi i), some (vi (bhd (I 5) n pl))], [], (K, H), 0, 0)
            refine WP.go 4 (Exists.intro (i + 1) (And.intro (wrp_a (by omega) (by omega)) (?_)))
            show WP (Call d) 70 P X (7, [some (vr (some 72) 3), some (vr (some 4) 5), some (vi (bhd (I 5) n pl)), some (vi (i + 1)), some (vi (bhd (I 5) n pl))], [], (K, H), 0, 0)
            refine WP.wk (L := [some (vr (some 72) 3), some (vr (some 4) 5), some (vi (bhd (I 5) n pl)), some (vi (i + 1)), none]) (And.intro rfl (And.intro rfl (And.intro rfl (And.intro rfl (And.intro trivial (trivial)))))) ?_
            show WP (Call d) 70 P X (7, [some (vr (some 72) 3), some (vr (some 4) 5), some (vi (bhd (I 5) n pl)), some (vi (i + 1)), none], [], (K, H), 0, 0)
            exact ih7 K (bhd (I 5) n pl) (i + 1) (by omega) (by have w := hsp b22; omega) ⟨fun q => (iv1.1 q).trans (hsp b22).2, fun q => ⟨(iv1.2 q).1, (iv1.2 q).2.trans (hsp b22).2⟩⟩ iv2 iv3 iv4
          ·
            show WP (Call d) 70 P X (23, [some (vr (some 72) 3), some (vr (some 4) 5), some (vi pl), some (vi i), some (vi (bhd (I 5) n pl))], [], (K, H), 0, 0)
            refine WP.go 5 (And.intro (And.intro (Nat.le_of_ble_eq_true rfl) (Nat.le_of_ble_eq_true rfl)) (And.intro rfl (?_)))
            show Call d 75 [vr (some 4) 5, vi pl, vi (bhd (I 5) n pl)] (K, H) _ _
            refine s_7_thingAt (by omega) hS hszk hnn hbyk (by omega) (by rw [h5]) ?_
            show WP (Call d) 70 P X (28, [some (vr (some 72) 3), some (vr (some 4) 5), some (vi pl), some (vi i), some (vi (bhd (I 5) n pl))], [vi (th (K 5) n pl), vr (some 72) 3], (K, H), 0, 0)
            refine rw_i (Q := fun x9 => WP (Call d) 70 P X (28, [some (vr (some 72) 3), some (vr (some 4) 5), some (vi pl), some (vi i), some (vi (bhd (I 5) n pl))], [vi x9, vr (some 72) 3], (K, H), 0, 0)) (by rw [h5]) ?_
            show WP (Call d) 70 P X (28, [some (vr (some 72) 3), some (vr (some 4) 5), some (vi pl), some (vi i), some (vi (bhd (I 5) n pl))], [vi (th (I 5) n pl), vr (some 72) 3], (K, H), 0, 0)
            refine WP.go 2 (And.intro (And.intro (Nat.le_of_ble_eq_true rfl) (Nat.le_of_ble_eq_true rfl)) (And.intro rfl (?_)))
            show Call d 71 [vr (some 72) 3, vi (th (I 5) n pl), vi pl] (K, H) _ _
            refine s_7_keep_T72 (by omega) hS (by omega) (fun J29 e29 f29 g29 k29 => ?_)
            show WP (Call d) 70 P X (30, [some (vr (some 72) 3), some (vr (some 4) 5), some (vi pl), some (vi i), some (vi (bhd (I 5) n pl))], [], (J29, H), 0, 0)
            refine WP.go 4 (Exists.intro (i + 1) (And.intro (wrp_a (by omega) (by omega)) (?_)))
            show WP (Call d) 70 P X (7, [some (vr (some 72) 3), some (vr (some 4) 5), some (vi (bhd (I 5) n pl)), some (vi (i + 1)), some (vi (bhd (I 5) n pl))], [], (J29, H), 0, 0)
            refine WP.wk (L := [some (vr (some 72) 3), some (vr (some 4) 5), some (vi (bhd (I 5) n pl)), some (vi (i + 1)), none]) (And.intro rfl (And.intro rfl (And.intro rfl (And.intro rfl (And.intro trivial (trivial)))))) ?_
            show WP (Call d) 70 P X (7, [some (vr (some 72) 3), some (vr (some 4) 5), some (vi (bhd (I 5) n pl)), some (vi (i + 1)), none], [], (J29, H), 0, 0)
            exact ih7 J29 (bhd (I 5) n pl) (i + 1) (by omega) (htk b22 e29 k29).1 ((htk b22 e29 k29).2.1 g29) ((htk b22 e29 k29).2.2.1 f29 g29) ((htk b22 e29 k29).2.2.2.1 g29) (htk b22 e29 k29).2.2.2.2
  exact lp7 ((n - 0 : Int).toNat + 1) J0 0 0 (by omega) (by have : J0 72 2 = 0 := (by rw [e_J0]; rfl); omega) (by have w : J0 72 2 = 0 := (by rw [e_J0]; rfl); exact ⟨fun _ => rfl, fun q => absurd q (by omega)⟩) (fun k q0 q1 => by have : J0 72 2 = 0 := (by rw [e_J0]; rfl); omega) (fun k q0 q1 => by have : J0 72 2 = 0 := (by rw [e_J0]; rfl); omega) ⟨fun a q1 q2 q3 => f_J0 a q1, fun s q => by rw [e_J0]; exact if_neg q⟩

theorem s_7_present_T72 {d : Nat} {P : Option qV → qH → Prop} {X : Nat → qH → Prop} {I : qI} {H : qS} (hd : 1 ≤ d) {tb : Int → Int} {n p : Int} (hS : Shp H) (hK : TOK I 72 tb n) (hat : ATP I 72 p) (h : P (some (vi (th tb n p))) (I, H)) :
    Call d 79 [vr (some 72) 3] (I, H) P X := by
  obtain ⟨d, rfl⟩ : ∃ e, d = e + 1 := ⟨d - 1, by omega⟩
  have hl73 := hS.l73
  have w := hK.at hat
  have w1 : I 73 (I 72 3) = th tb n p := w.1
  have w2 := hat.1
  have w3 := hK.1
  show WP (Call d) 79 P X (0, [some (vr (some 72) 3)], [], (I, H), 0, 0)
  refine WP.go 3 (And.intro rfl (And.intro (fun (b2 : I 72 3 < 0) => (absurd b2 (by omega))) (fun (b2 : ¬ I 72 3 < 0) => ?_)))
  show WP (Call d) 79 P X (3, [some (vr (some 72) 3)], [], (I, H), 0, 0)
  refine WP.go 5 (And.intro rfl (And.intro rfl (And.intro (fun (b7 : ¬ I 72 3 < I 72 2) => (absurd b7 (by omega))) (fun (b7 : I 72 3 < I 72 2) => ?_))))
  show WP (Call d) 79 P X (8, [some (vr (some 72) 3)], [], (I, H), 0, 0)
  refine WP.go 6 (And.intro rfl (And.intro rfl (Exists.intro 73 (And.intro hS.r72_0 (And.intro (Or.inl rfl) (And.intro (fun (b13 : ¬ I 72 3 < H.2.1 73) => (absurd b13 (by omega))) (fun (b13 : I 72 3 < H.2.1 73) => ?_)))))))
  show WP (Call d) 79 P X (14, [some (vr (some 72) 3)], [], (I, H), 0, 0)
  refine WP.go 7 (And.intro rfl (Exists.intro 73 (And.intro hS.r72_0 (And.intro rfl (And.intro (And.intro rfl (And.intro (show 0 ≤ I 72 3 from by omega) (show I 72 3 < H.2.1 73 from by omega))) (And.intro (And.intro (Nat.le_of_ble_eq_true rfl) (Nat.le_of_ble_eq_true rfl)) (And.intro trivial (?_))))))))
  show P (some (vi (I 73 (I 72 3)))) (I, H)
  exact fin_i (by exact w.1) h

theorem s_7_begin_T72 {d : Nat} {P : Option qV → qH → Prop} {X : Nat → qH → Prop} {I : qI} {H : qS} (hd : 1 ≤ d) {tb : Int → Int} {n p : Int} (hS : Shp H) (hK : TOK I 72 tb n) (hat : ATP I 72 p) (h : P (some (vi p)) (I, H)) :
    Call d 80 [vr (some 72) 3] (I, H) P X := by
  obtain ⟨d, rfl⟩ : ∃ e, d = e + 1 := ⟨d - 1, by omega⟩
  have hl74 := hS.l74
  have w2 := hat.1
  have w3 := hK.1
  show WP (Call d) 80 P X (0, [some (vr (some 72) 3)], [], (I, H), 0, 0)
  refine WP.go 3 (And.intro rfl (And.intro (fun (b2 : I 72 3 < 0) => (absurd b2 (by omega))) (fun (b2 : ¬ I 72 3 < 0) => ?_)))
  show WP (Call d) 80 P X (3, [some (vr (some 72) 3)], [], (I, H), 0, 0)
  refine WP.go 6 (And.intro rfl (And.intro rfl (Exists.intro 74 (And.intro hS.r72_1 (And.intro (Or.inl rfl) (And.intro (fun (b8 : ¬ I 72 3 < H.2.1 74) => (absurd b8 (by omega))) (fun (b8 : I 72 3 < H.2.1 74) => ?_)))))))
  show WP (Call d) 80 P X (9, [some (vr (some 72) 3)], [], (I, H), 0, 0)
  refine WP.go 7 (And.intro rfl (Exists.intro 74 (And.intro hS.r72_1 (And.intro rfl (And.intro (And.intro rfl (And.intro (show 0 ≤ I 72 3 from by omega) (show I 72 3 < H.2.1 74 from by omega))) (And.intro (And.intro (Nat.le_of_ble_eq_true rfl) (Nat.le_of_ble_eq_true rfl)) (And.intro trivial (?_))))))))
  show P (some (vi (I 74 (I 72 3)))) (I, H)
  exact fin_i (by exact hat.2) h

theorem s_7_skip_T72 {d : Nat} {P : Option qV → qH → Prop} {X : Nat → qH → Prop} {I : qI} {H : qS} (hd : 1 ≤ d) {tb : Int → Int} {n p t9 : Int} (hS : Shp H) (hK : TOK I 72 tb n) (hat : ATP I 72 p) (ht : t9 ≠ 3000) (h : (th tb n p = t9 → ∀ J : qI, (∀ s, s ≠ 3 → J 72 s = I 72 s) → (∀ a, a ≠ 72 → J a = I a) → ATP J 72 (nx tb n p) → P (some (vi 1)) (J, H)) ∧ (¬ th tb n p = t9 → ∀ J : qI, J = upI I 72 3 (I 72 3 + 0) → P (some (vi 0)) (J, H))) :
    Call d 81 [vr (some 72) 3, vi t9] (I, H) P X := by
  obtain ⟨d, rfl⟩ : ∃ e, d = e + 1 := ⟨d - 1, by omega⟩
  have hl73 := hS.l73
  have w := hK.at hat
  have w1 : I 73 (I 72 3) = th tb n p := w.1
  have w2 := hat.1
  have w3 := hK.1
  have w4 := hK.end hat
  show WP (Call d) 81 P X (0, [some (vr (some 72) 3), some (vi t9), none], [], (I, H), 0, 0)
  refine WP.go 3 (And.intro rfl (And.intro (fun (b2 : I 72 3 < 0) => (absurd b2 (by omega))) (fun (b2 : ¬ I 72 3 < 0) => ?_)))
  show WP (Call d) 81 P X (3, [some (vr (some 72) 3), some (vi t9), none], [], (I, H), 0, 0)
  refine WP.go 5 (And.intro rfl (And.intro rfl (And.intro (fun (b7 : ¬ I 72 3 < I 72 2) => (absurd b7 (by omega))) (fun (b7 : I 72 3 < I 72 2) => ?_))))
  show WP (Call d) 81 P X (8, [some (vr (some 72) 3), some (vi t9), none], [], (I, H), 0, 0)
  refine WP.go 6 (And.intro rfl (And.intro rfl (Exists.intro 73 (And.intro hS.r72_0 (And.intro (Or.inl rfl) (And.intro (fun (b13 : ¬ I 72 3 < H.2.1 73) => (absurd b13 (by omega))) (fun (b13 : I 72 3 < H.2.1 73) => ?_)))))))
  show WP (Call d) 81 P X (14, [some (vr (some 72) 3), some (vi t9), none], [], (I, H), 0, 0)
  refine WP.go 7 (And.intro rfl (Exists.intro 73 (And.intro hS.r72_0 (And.intro rfl (And.intro (And.intro rfl (And.intro (show 0 ≤ I 72 3 from by omega) (show I 72 3 < H.2.1 73 from by omega))) (And.intro (fun (b20 : ¬ I 73 (I 72 3) = t9) => ?_) (fun (b20 : I 73 (I 72 3) = t9) => ?_)))))))
  ·
    show WP (Call d) 81 P X (23, [some (vr (some 72) 3), some (vi t9), none], [], (I, H), 0, 0)
    refine WP.go 7 (And.intro rfl (And.intro (fun (b29 : 0 = 0) => ?_) (fun (b29 : ¬ 0 = 0) => (absurd b29 (by omega)))))
    show WP (Call d) 81 P X (32, [some (vr (some 72) 3), some (vi t9), some (vi 0)], [vi (I 72 3), vr (some 72) 3], (I, H), 0, 0)
    refine WP.go 5 (Exists.intro ((I 72 3) + 0) (And.intro (wrp_a (by omega) (by omega)) (And.intro (And.intro rfl trivial) (And.intro (And.intro (Nat.le_of_ble_eq_true rfl) (Nat.le_of_ble_eq_true rfl)) (And.intro (Or.inl rfl) (?_))))))
    show P (some (vi 0)) ((upI I 72 3 ((I 72 3) + 0)), H)
    exact h.2 (fun q => b20 (w.1.trans q)) _ rfl
  ·
    show WP (Call d) 81 P X (21, [some (vr (some 72) 3), some (vi t9), none], [], (I, H), 0, 0)
    refine WP.go 8 (And.intro rfl (And.intro (fun (b29 : 1 = 0) => (absurd b29 (by omega))) (fun (b29 : ¬ 1 = 0) => ?_)))
    show WP (Call d) 81 P X (30, [some (vr (some 72) 3), some (vi t9), some (vi 1)], [vi (I 72 3), vr (some 72) 3], (I, H), 0, 0)
    refine WP.go 6 (Exists.intro ((I 72 3) + 1) (And.intro (wrp_a (by omega) (by omega)) (And.intro (And.intro rfl trivial) (And.intro (And.intro (Nat.le_of_ble_eq_true rfl) (Nat.le_of_ble_eq_true rfl)) (And.intro (Or.inr rfl) (?_))))))
    show P (some (vi 1)) ((upI I 72 3 ((I 72 3) + 1)), H)
    exact h.1 (w.1.symm.trans b20) _ (fun s q => upI_at (.inr q)) (fun a q => upI_cell q) (hK.nx hat (w4 (by rw [← w.1, b20]; exact ht)) (upI_self _ _ _ _) (upI_cell (by omega)))

theorem s_7_take_T72 {d : Nat} {P : Option qV → qH → Prop} {X : Nat → qH → Prop} {I : qI} {H : qS} (hd : 1 ≤ d) {tb : Int → Int} {n p lo hi : Int} (hS : Shp H) (hK : TOK I 72 tb n) (hat : ATP I 72 p) (ht : hi < 3000) (h : ((lo ≤ th tb n p ∧ th tb n p ≤ hi) → ∀ J : qI, (∀ s, s ≠ 3 → J 72 s = I 72 s) → (∀ a, a ≠ 72 → J a = I a) → ATP J 72 (nx tb n p) → P (some (vi (th tb n p))) (J, H)) ∧ (¬ (lo ≤ th tb n p ∧ th tb n p ≤ hi) → P (some (vi (-1))) (I, H))) :
    Call d 82 [vr (some 72) 3, vi lo, vi hi] (I, H) P X := by
  obtain ⟨d, rfl⟩ : ∃ e, d = e + 1 := ⟨d - 1, by omega⟩
  have hl73 := hS.l73
  have w := hK.at hat
  have w1 : I 73 (I 72 3) = th tb n p := w.1
  have w2 := hat.1
  have w3 := hK.1
  have w4 := hK.end hat
  show WP (Call d) 82 P X (0, [some (vr (some 72) 3), some (vi lo), some (vi hi), none], [], (I, H), 0, 0)
  refine WP.go 3 (And.intro rfl (And.intro (fun (b2 : I 72 3 < 0) => (absurd b2 (by omega))) (fun (b2 : ¬ I 72 3 < 0) => ?_)))
  show WP (Call d) 82 P X (3, [some (vr (some 72) 3), some (vi lo), some (vi hi), none], [], (I, H), 0, 0)
  refine WP.go 5 (And.intro rfl (And.intro rfl (And.intro (fun (b7 : ¬ I 72 3 < I 72 2) => (absurd b7 (by omega))) (fun (b7 : I 72 3 < I 72 2) => ?_))))
  show WP (Call d) 82 P X (8, [some (vr (some 72) 3), some (vi lo), some (vi hi), none], [], (I, H), 0, 0)
  refine WP.go 6 (And.intro rfl (And.intro rfl (Exists.intro 73 (And.intro hS.r72_0 (And.intro (Or.inl rfl) (And.intro (fun (b13 : ¬ I 72 3 < H.2.1 73) => (absurd b13 (by omega))) (fun (b13 : I 72 3 < H.2.1 73) => ?_)))))))
  show WP (Call d) 82 P X (14, [some (vr (some 72) 3), some (vi lo), some (vi hi), none], [], (I, H), 0, 0)
  refine WP.go 10 (And.intro rfl (Exists.intro 73 (And.intro hS.r72_0 (And.intro rfl (And.intro (And.intro rfl (And.intro (show 0 ≤ I 72 3 from by omega) (show I 72 3 < H.2.1 73 from by omega))) (And.intro (fun (b24 : I 73 (I 72 3) < lo) => ?_) (fun (b24 : ¬ I 73 (I 72 3) < lo) => ?_)))))))
  ·
    show WP (Call d) 82 P X (28, [some (vr (some 72) 3), some (vi lo), some (vi hi), some (vi (I 73 (I 72 3)))], [], (I, H), 0, 0)
    refine WP.go 2 (And.intro (And.intro (Nat.le_of_ble_eq_true rfl) (Nat.le_of_ble_eq_true rfl)) (And.intro trivial (?_)))
    show P (some (vi (-1))) (I, H)
    exact h.2 (by omega)
  ·
    show WP (Call d) 82 P X (25, [some (vr (some 72) 3), some (vi lo), some (vi hi), some (vi (I 73 (I 72 3)))], [], (I, H), 0, 0)
    refine WP.go 3 (And.intro (fun (b27 : ¬ hi < I 73 (I 72 3)) => ?_) (fun (b27 : hi < I 73 (I 72 3)) => ?_))
    ·
      show WP (Call d) 82 P X (30, [some (vr (some 72) 3), some (vi lo), some (vi hi), some (vi (I 73 (I 72 3)))], [], (I, H), 0, 0)
      refine WP.go 8 (And.intro rfl (Exists.intro ((I 72 3) + 1) (And.intro (wrp_a (by omega) (by omega)) (And.intro (And.intro rfl trivial) (And.intro (And.intro (Nat.le_of_ble_eq_true rfl) (Nat.le_of_ble_eq_true rfl)) (And.intro trivial (?_)))))))
      show P (some (vi (I 73 (I 72 3)))) ((upI I 72 3 ((I 72 3) + 1)), H)
      exact fin_i w.1 (h.1 (by omega) _ (fun s q => upI_at (.inr q)) (fun a q => upI_cell q) (hK.nx hat (w4 (by omega)) (upI_self _ _ _ _) (upI_cell (by omega))))
    ·
      show WP (Call d) 82 P X (28, [some (vr (some 72) 3), some (vi lo), some (vi hi), some (vi (I 73 (I 72 3)))], [], (I, H), 0, 0)
      refine WP.go 2 (And.intro (And.intro (Nat.le_of_ble_eq_true rfl) (Nat.le_of_ble_eq_true rfl)) (And.intro trivial (?_)))
      show P (some (vi (-1))) (I, H)
      exact h.2 (by omega)

theorem s_7_keep_T76 {d : Nat} {P : Option qV → qH → Prop} {X : Nat → qH → Prop} {I : qI} {H : qS} (hd : 1 ≤ d) {t9 g9 : Int} (hS : Shp H) (hc : 0 ≤ I 76 2 ∧ I 76 2 ≤ 400) (h : ∀ J : qI, J 76 = (fun s => if s = 2 then I 76 2 + 1 else I 76 s) → J 77 = (fun j => if j = I 76 2 then t9 else I 77 j) → J 78 = (fun j => if j = I 76 2 then g9 else I 78 j) → (∀ a, a ≠ 76 → a ≠ 77 → a ≠ 78 → J a = I a) → P none (J, H)) :
    Call d 71 [vr (some 76) 8, vi t9, vi g9] (I, H) P X := by
  obtain ⟨d, rfl⟩ : ∃ e, d = e + 1 := ⟨d - 1, by omega⟩
  have hl77 := hS.l77
  have hl78 := hS.l78
  show WP (Call d) 71 P X (0, [some (vr (some 76) 8), some (vi t9), some (vi g9)], [], (I, H), 0, 0)
  refine WP.go 3 (And.intro rfl (And.intro (fun (b2 : I 76 2 < 0) => (absurd b2 (by omega))) (fun (b2 : ¬ I 76 2 < 0) => ?_)))
  show WP (Call d) 71 P X (3, [some (vr (some 76) 8), some (vi t9), some (vi g9)], [], (I, H), 0, 0)
  refine WP.go 6 (And.intro rfl (And.intro rfl (Exists.intro 77 (And.intro hS.r76_0 (And.intro (Or.inl rfl) (And.intro (fun (b8 : ¬ I 76 2 < H.2.1 77) => (absurd b8 (by omega))) (fun (b8 : I 76 2 < H.2.1 77) => ?_)))))))
  show WP (Call d) 71 P X (9, [some (vr (some 76) 8), some (vi t9), some (vi g9)], [], (I, H), 0, 0)
  refine WP.go 6 (And.intro rfl (And.intro rfl (Exists.intro 78 (And.intro hS.r76_1 (And.intro (Or.inl rfl) (And.intro (fun (b14 : ¬ I 76 2 < H.2.1 78) => (absurd b14 (by omega))) (fun (b14 : I 76 2 < H.2.1 78) => ?_)))))))
  show WP (Call d) 71 P X (15, [some (vr (some 76) 8), some (vi t9), some (vi g9)], [], (I, H), 0, 0)
  refine WP.go 6 (And.intro rfl (Exists.intro 77 (And.intro hS.r76_0 (And.intro rfl (And.intro (And.intro rfl (And.intro (show 0 ≤ I 76 2 from by omega) (show I 76 2 < H.2.1 77 from by omega))) (?_))))))
  show WP (Call d) 71 P X (21, [some (vr (some 76) 8), some (vi t9), some (vi g9)], [], ((upI I 77 (I 76 2) t9), H), 0, 0)
  generalize hq_J0 : (upI I 77 (I 76 2) t9) = J0
  have e_J0 : J0 77 = (fun j => if j = (I 76 2) then t9 else I 77 j) := by rw [← hq_J0]; exact upI_self _ _ _ _
  have f_J0 : ∀ a, a ≠ 77 → J0 a = I a := fun a q => by rw [← hq_J0]; exact upI_cell q
  have c0 : J0 76 2 = I 76 2 := by rw [f_J0 76 (by omega)]
  refine WP.go 6 (And.intro rfl (Exists.intro 78 (And.intro hS.r76_1 (And.intro rfl (And.intro (And.intro rfl (And.intro (show 0 ≤ J0 76 2 from by omega) (show J0 76 2 < H.2.1 78 from by omega))) (?_))))))
  show WP (Call d) 71 P X (27, [some (vr (some 76) 8), some (vi t9), some (vi g9)], [], ((upI J0 78 (J0 76 2) g9), H), 0, 0)
  generalize hq_J1 : (upI J0 78 (J0 76 2) g9) = J1
  have e_J1 : J1 78 = (fun j => if j = (J0 76 2) then g9 else J0 78 j) := by rw [← hq_J1]; exact upI_self _ _ _ _
  have f_J1 : ∀ a, a ≠ 78 → J1 a = J0 a := fun a q => by rw [← hq_J1]; exact upI_cell q
  have c1 : J1 76 2 = I 76 2 := by rw [f_J1 76 (by omega), c0]
  refine WP.go 7 (And.intro rfl (Exists.intro ((J1 76 2) + 1) (And.intro (wrp_a (by omega) (by omega)) (And.intro (And.intro rfl trivial) (And.intro (And.intro (Nat.le_of_ble_eq_true rfl) (Nat.le_of_ble_eq_true rfl)) (?_))))))
  show P none ((upI J1 76 2 ((J1 76 2) + 1)), H)
  refine h _ (by rw [upI_self, f_J1 76 (by omega), f_J0 76 (by omega)]) (by rw [upI_cell (by omega), f_J1 77 (by omega), e_J0]) (by rw [upI_cell (by omega), e_J1, f_J0 78 (by omega), c0]) (fun a q1 q2 q3 => by rw [upI_cell q1, f_J1 a q3, f_J0 a q2])

theorem s_7_takeFrom_T76 {d : Nat} {P : Option qV → qH → Prop} {X : Nat → qH → Prop} {I : qI} {H : qS} (hd : 4 ≤ d) {n : Int} (hS : Shp H) (hsz : I 4 1 = n) (hnn : 0 ≤ n ∧ n ≤ 400) (hby : ∀ j, 0 ≤ j → j < n → 0 ≤ I 5 j ∧ I 5 j ≤ 255) (h : ∀ J : qI, TOK J 76 (I 5) n → (∀ a, a ≠ 4 → a ≠ 76 → a ≠ 77 → a ≠ 78 → J a = I a) → J 4 = (fun s => if s = 1 then 0 else I 4 s) → (∀ s, s ≠ 2 → J 76 s = I 76 s) → P none (J, H)) :
    Call d 70 [vr (some 76) 8, vr (some 4) 5] (I, H) P X := by
  obtain ⟨d, rfl⟩ : ∃ e, d = e + 1 := ⟨d - 1, by omega⟩
  show WP (Call d) 70 P X (0, [some (vr (some 76) 8), some (vr (some 4) 5), none, none, none], [], (I, H), 0, 0)
  refine WP.go 3 (And.intro (And.intro rfl trivial) (?_))
  show WP (Call d) 70 P X (3, [some (vr (some 76) 8), some (vr (some 4) 5), none, none, none], [], ((upI I 76 2 0), H), 0, 0)
  generalize hq_J0 : (upI I 76 2 0) = J0
  have e_J0 : J0 76 = (fun j => if j = 2 then 0 else I 76 j) := by rw [← hq_J0]; exact upI_self _ _ _ _
  have f_J0 : ∀ a, a ≠ 76 → J0 a = I a := fun a q => by rw [← hq_J0]; exact upI_cell q
  refine WP.go 4 ?_
  show WP (Call d) 70 P X (7, [some (vr (some 76) 8), some (vr (some 4) 5), some (vi 0), some (vi 0), none], [], (J0, H), 0, 0)
  have lp7 : ∀ (n9 : Nat) (K : qI) (pl : Int) (i : Int) (hm : n - pl < (n9 : Int)) (iv0 : 0 ≤ pl ∧ pl ≤ n ∧ 0 ≤ i ∧ i ≤ pl ∧ 0 ≤ K 76 2 ∧ K 76 2 ≤ pl) (iv1 : (K 76 2 = 0 → sk (I 5) n 0 = sk (I 5) n pl) ∧ (0 < K 76 2 → K 78 0 = sk (I 5) n 0 ∧ nx (I 5) n (K 78 (K 76 2 - 1)) = sk (I 5) n pl)) (iv2 : ∀ k, 0 ≤ k → k < K 76 2 → K 77 k = th (I 5) n (K 78 k) ∧ 0 ≤ K 78 k ∧ K 78 k < n) (iv3 : ∀ k, 0 ≤ k → k + 1 < K 76 2 → K 78 (k + 1) = nx (I 5) n (K 78 k)) (iv4 : (∀ a, a ≠ 76 → a ≠ 77 → a ≠ 78 → K a = I a) ∧ (∀ s, s ≠ 2 → K 76 s = I 76 s)), WP (Call d) 70 P X (7, [some (vr (some 76) 8), some (vr (some 4) 5), some (vi pl), some (vi i), none], [], (K, H), 0, 0) := by
    intro n9
    induction n9 with
    | zero => intro K pl i hm iv0 iv1 iv2 iv3 iv4; exact absurd hm (by omega)
    | succ n9 ih7 =>
      intro K pl i hm iv0 iv1 iv2 iv3 iv4
      have h5 : K 5 = I 5 := iv4.1 5 (by omega) (by omega) (by omega)
      have hszk : K 4 1 = n := (congrFun (iv4.1 4 (by omega) (by omega) (by omega)) 1).trans hsz
      have hbyk : ∀ j, 0 ≤ j → j < n → 0 ≤ K 5 j ∧ K 5 j ≤ 255 := by rw [h5]; exact hby
      refine WP.go 3 (And.intro (fun (b9 : ¬ i < 400) => ?_) (fun (b9 : i < 400) => ?_))
      ·
        show WP (Call d) 70 P X (34, [some (vr (some 76) 8), some (vr (some 4) 5), some (vi pl), some (vi i), none], [], (K, H), 0, 0)
        refine WP.go 4 (And.intro (And.intro (Nat.le_of_ble_eq_true rfl) (Nat.le_of_ble_eq_true rfl)) (And.intro rfl (?_)))
        show Call d 65 [vr (some 4) 5] (K, H) _ _
        refine s_6_size (by omega) hszk ?_
        show WP (Call d) 70 P X (38, [some (vr (some 76) 8), some (vr (some 4) 5), some (vi pl), some (vi i), none], [vi n, vi 3000, vr (some 76) 8], (K, H), 0, 0)
        refine WP.go 1 (And.intro (And.intro (Nat.le_of_ble_eq_true rfl) (Nat.le_of_ble_eq_true rfl)) (And.intro rfl (?_)))
        show Call d 71 [vr (some 76) 8, vi 3000, vi n] (K, H) _ _
        refine s_7_keep_T76 (by omega) hS (by omega) (fun J38 e38 f38 g38 k38 => ?_)
        show WP (Call d) 70 P X (39, [some (vr (some 76) 8), some (vr (some 4) 5), some (vi pl), some (vi i), none], [], (J38, H), 0, 0)
        refine WP.go 3 (And.intro (And.intro (Nat.le_of_ble_eq_true rfl) (Nat.le_of_ble_eq_true rfl)) (And.intro rfl (?_)))
        show Call d 68 [vr (some 4) 5, vi 0] (J38, H) _ _
        refine s_6_cut_0 (by omega) ((congrFun (k38 4 (by omega) (by omega) (by omega)) 1).trans hszk) (by omega) (fun J41 e41 f41 => ?_)
        show WP (Call d) 70 P X (42, [some (vr (some 76) 8), some (vr (some 4) 5), some (vi pl), some (vi i), none], [vi 1], (J41, H), 0, 0)
        refine WP.go 2 (And.intro (And.intro (Nat.le_of_ble_eq_true rfl) (Nat.le_of_ble_eq_true rfl)) (?_))
        show P none (J41, H)
        have hpn : pl = n := by omega
        have w2 : J38 76 2 = K 76 2 + 1 := by rw [e38]; rfl
        have skn : sk (I 5) n n = n := fx_e (Int.le_refl _)
        refine h _ ⟨?_, ?_, fun k2 q0 q1 => ?_, fun k2 q0 q1 => ?_, ?_⟩ (fun a q0 q1 q2 q3 => by rw [f41 a q0, k38 a q1 q2 q3, iv4.1 a q1 q2 q3]) (by rw [e41, k38 4 (by omega) (by omega) (by omega), iv4.1 4 (by omega) (by omega) (by omega)]) (fun s q => by rw [f41 76 (by omega), e38]; exact (if_neg q).trans (iv4.2 s q))
        · rw [f41 76 (by omega), w2]; omega
        · rw [f41 78 (by omega), g38]
          show (if (0 : Int) = K 76 2 then n else K 78 0) = _
          by_cases z : (0 : Int) = K 76 2
          · rw [if_pos z, iv1.1 z.symm, hpn, skn]
          · rw [if_neg z]; exact (iv1.2 (by omega)).1
        · rw [f41 76 (by omega), w2] at q1
          rw [f41 77 (by omega), f41 78 (by omega), f38, g38]
          show (if k2 = K 76 2 then 3000 else K 77 k2) = th (I 5) n (if k2 = K 76 2 then n else K 78 k2) ∧ 0 ≤ (if k2 = K 76 2 then n else K 78 k2) ∧ (if k2 = K 76 2 then n else K 78 k2) ≤ n
          by_cases z : k2 = K 76 2
          · rw [if_pos z, if_pos z]; exact ⟨(th_e _ _).symm, by omega, by omega⟩
          · rw [if_neg z, if_neg z]; have w := iv2 k2 q0 (by omega); exact ⟨w.1, w.2.1, by omega⟩
        · rw [f41 76 (by omega), w2] at q1
          rw [f41 78 (by omega), g38]
          show (if k2 = K 76 2 then n else K 78 k2) < n ∧ (if k2 + 1 = K 76 2 then n else K 78 (k2 + 1)) = nx (I 5) n (if k2 = K 76 2 then n else K 78 k2)
          rw [if_neg (show ¬ k2 = K 76 2 by omega)]
          refine ⟨(iv2 k2 q0 (by omega)).2.2, ?_⟩
          by_cases z : k2 + 1 = K 76 2
          · rw [if_pos z, show k2 = K 76 2 - 1 by omega, (iv1.2 (by omega)).2, hpn, skn]
          · rw [if_neg z]; exact iv3 k2 q0 (by omega)
        · rw [f41 76 (by omega), f41 78 (by omega), w2, g38, show K 76 2 + 1 - 1 = K 76 2 by omega]
          exact if_pos rfl
      ·
        show WP (Call d) 70 P X (10, [some (vr (some 76) 8), some (vr (some 4) 5), some (vi pl), some (vi i), none], [], (K, H), 0, 0)
        refine WP.go 3 (And.intro (And.intro (Nat.le_of_ble_eq_true rfl) (Nat.le_of_ble_eq_true rfl)) (And.intro rfl (?_)))
        show Call d 65 [vr (some 4) 5] (K, H) _ _
        refine s_6_size (by omega) hszk ?_
        show WP (Call d) 70 P X (13, [some (vr (some 76) 8), some (vr (some 4) 5), some (vi pl), some (vi i), none], [vi n, vi pl], (K, H), 0, 0)
        refine WP.go 1 (And.intro (fun (b13 : ¬ pl < n) => ?_) (fun (b13 : pl < n) => ?_))
        ·
          show WP (Call d) 70 P X (34, [some (vr (some 76) 8), some (vr (some 4) 5), some (vi pl), some (vi i), none], [], (K, H), 0, 0)
          refine WP.go 4 (And.intro (And.intro (Nat.le_of_ble_eq_true rfl) (Nat.le_of_ble_eq_true rfl)) (And.intro rfl (?_)))
          show Call d 65 [vr (some 4) 5] (K, H) _ _
          refine s_6_size (by omega) hszk ?_
          show WP (Call d) 70 P X (38, [some (vr (some 76) 8), some (vr (some 4) 5), some (vi pl), some (vi i), none], [vi n, vi 3000, vr (some 76) 8], (K, H), 0, 0)
          refine WP.go 1 (And.intro (And.intro (Nat.le_of_ble_eq_true rfl) (Nat.le_of_ble_eq_true rfl)) (And.intro rfl (?_)))
          show Call d 71 [vr (some 76) 8, vi 3000, vi n] (K, H) _ _
          refine s_7_keep_T76 (by omega) hS (by omega) (fun J38_1 e38_1 f38_1 g38_1 k38_1 => ?_)
          show WP (Call d) 70 P X (39, [some (vr (some 76) 8), some (vr (some 4) 5), some (vi pl), some (vi i), none], [], (J38_1, H), 0, 0)
          refine WP.go 3 (And.intro (And.intro (Nat.le_of_ble_eq_true rfl) (Nat.le_of_ble_eq_true rfl)) (And.intro rfl (?_)))
          show Call d 68 [vr (some 4) 5, vi 0] (J38_1, H) _ _
          refine s_6_cut_0 (by omega) ((congrFun (k38_1 4 (by omega) (by omega) (by omega)) 1).trans hszk) (by omega) (fun J41_1 e41_1 f41_1 => ?_)
          show WP (Call d) 70 P X (42, [some (vr (some 76) 8), some (vr (some 4) 5), some (vi pl), some (vi i), none], [vi 1], (J41_1, H), 0, 0)
          refine WP.go 2 (And.intro (And.intro (Nat.le_of_ble_eq_true rfl) (Nat.le_of_ble_eq_true rfl)) (?_))
          show P none (J41_1, H)
          have hpn : pl = n := by omega
          have w2 : J38_1 76 2 = K 76 2 + 1 := by rw [e38_1]; rfl
          have skn : sk (I 5) n n = n := fx_e (Int.le_refl _)
          refine h _ ⟨?_, ?_, fun k2 q0 q1 => ?_, fun k2 q0 q1 => ?_, ?_⟩ (fun a q0 q1 q2 q3 => by rw [f41_1 a q0, k38_1 a q1 q2 q3, iv4.1 a q1 q2 q3]) (by rw [e41_1, k38_1 4 (by omega) (by omega) (by omega), iv4.1 4 (by omega) (by omega) (by omega)]) (fun s q => by rw [f41_1 76 (by omega), e38_1]; exact (if_neg q).trans (iv4.2 s q))
          · rw [f41_1 76 (by omega), w2]; omega
          · rw [f41_1 78 (by omega), g38_1]
            show (if (0 : Int) = K 76 2 then n else K 78 0) = _
            by_cases z : (0 : Int) = K 76 2
            · rw [if_pos z, iv1.1 z.symm, hpn, skn]
            · rw [if_neg z]; exact (iv1.2 (by omega)).1
          · rw [f41_1 76 (by omega), w2] at q1
            rw [f41_1 77 (by omega), f41_1 78 (by omega), f38_1, g38_1]
            show (if k2 = K 76 2 then 3000 else K 77 k2) = th (I 5) n (if k2 = K 76 2 then n else K 78 k2) ∧ 0 ≤ (if k2 = K 76 2 then n else K 78 k2) ∧ (if k2 = K 76 2 then n else K 78 k2) ≤ n
            by_cases z : k2 = K 76 2
            · rw [if_pos z, if_pos z]; exact ⟨(th_e _ _).symm, by omega, by omega⟩
            · rw [if_neg z, if_neg z]; have w := iv2 k2 q0 (by omega); exact ⟨w.1, w.2.1, by omega⟩
          · rw [f41_1 76 (by omega), w2] at q1
            rw [f41_1 78 (by omega), g38_1]
            show (if k2 = K 76 2 then n else K 78 k2) < n ∧ (if k2 + 1 = K 76 2 then n else K 78 (k2 + 1)) = nx (I 5) n (if k2 = K 76 2 then n else K 78 k2)
            rw [if_neg (show ¬ k2 = K 76 2 by omega)]
            refine ⟨(iv2 k2 q0 (by omega)).2.2, ?_⟩
            by_cases z : k2 + 1 = K 76 2
            · rw [if_pos z, show k2 = K 76 2 - 1 by omega, (iv1.2 (by omega)).2, hpn, skn]
            · rw [if_neg z]; exact iv3 k2 q0 (by omega)
          · rw [f41_1 76 (by omega), f41_1 78 (by omega), w2, g38_1, show K 76 2 + 1 - 1 = K 76 2 by omega]
            exact if_pos rfl
        ·
          show WP (Call d) 70 P X (14, [some (vr (some 76) 8), some (vr (some 4) 5), some (vi pl), some (vi i), none], [], (K, H), 0, 0)
          have hlt : pl < n := by omega
          have hbd := bhd_bd (tb := I 5) (n := n) iv0.1 hlt
          have hsp : K 5 pl = 32 → bhd (I 5) n pl = pl + 1 ∧ sk (I 5) n pl = sk (I 5) n (bhd (I 5) n pl) := fun q => by
            rw [h5] at q
            have w := bhd_s (tb := I 5) (n := n) (p := pl) (fun z => by unfold isL at z; omega) (fun z => by unfold isD at z; omega)
            rw [w]
            exact ⟨rfl, fx_n hlt (fun z => z q)⟩
          have htk : ∀ {J : qI}, K 5 pl ≠ 32 → J 76 = (fun s => if s = 2 then K 76 2 + 1 else K 76 s) → (∀ a, a ≠ 76 → a ≠ 77 → a ≠ 78 → J a = K a) → (0 ≤ bhd (I 5) n pl ∧ bhd (I 5) n pl ≤ n ∧ 0 ≤ i + 1 ∧ i + 1 ≤ bhd (I 5) n pl ∧ 0 ≤ J 76 2 ∧ J 76 2 ≤ bhd (I 5) n pl) ∧ (J 78 = (fun j => if j = K 76 2 then pl else K 78 j) → (J 76 2 = 0 → sk (I 5) n 0 = sk (I 5) n (bhd (I 5) n pl)) ∧ (0 < J 76 2 → J 78 0 = sk (I 5) n 0 ∧ nx (I 5) n (J 78 (J 76 2 - 1)) = sk (I 5) n (bhd (I 5) n pl))) ∧ (J 77 = (fun j => if j = K 76 2 then th (I 5) n pl else K 77 j) → J 78 = (fun j => if j = K 76 2 then pl else K 78 j) → ∀ k, 0 ≤ k → k < J 76 2 → J 77 k = th (I 5) n (J 78 k) ∧ 0 ≤ J 78 k ∧ J 78 k < n) ∧ (J 78 = (fun j => if j = K 76 2 then pl else K 78 j) → ∀ k, 0 ≤ k → k + 1 < J 76 2 → J 78 (k + 1) = nx (I 5) n (J 78 k)) ∧ ((∀ a, a ≠ 76 → a ≠ 77 → a ≠ 78 → J a = I a) ∧ (∀ s, s ≠ 2 → J 76 s = I 76 s)) := fun {J} hne e k => by
            have w2 : J 76 2 = K 76 2 + 1 := by rw [e]; rfl
            rw [h5] at hne
            have wp : sk (I 5) n pl = pl := fx_y hlt iv0.1 hne
            rw [w2]
            refine ⟨by omega, fun g => ⟨fun q => by omega, fun q => ⟨?_, ?_⟩⟩, fun f g k2 q0 q1 => ?_, fun g k2 q0 q1 => ?_, fun a q1 q2 q3 => (k a q1 q2 q3).trans (iv4.1 a q1 q2 q3), fun s q => by rw [e]; exact (if_neg q).trans (iv4.2 s q)⟩
            · rw [g]
              show (if (0 : Int) = K 76 2 then pl else K 78 0) = _
              by_cases z : (0 : Int) = K 76 2
              · rw [if_pos z, iv1.1 z.symm, wp]
              · rw [if_neg z]; exact (iv1.2 (by omega)).1
            · rw [g, show K 76 2 + 1 - 1 = K 76 2 by omega]
              show nx (I 5) n (if K 76 2 = K 76 2 then pl else _) = _
              rw [if_pos rfl]; rfl
            · rw [f, g]
              show (if k2 = K 76 2 then _ else _) = th (I 5) n (if k2 = K 76 2 then pl else K 78 k2) ∧ 0 ≤ (if k2 = K 76 2 then pl else K 78 k2) ∧ (if k2 = K 76 2 then pl else K 78 k2) < n
              by_cases z : k2 = K 76 2
              · rw [if_pos z, if_pos z]; exact ⟨rfl, iv0.1, hlt⟩
              · rw [if_neg z, if_neg z]; exact iv2 k2 q0 (by omega)
            · rw [g]
              show (if k2 + 1 = K 76 2 then pl else K 78 (k2 + 1)) = nx (I 5) n (if k2 = K 76 2 then pl else K 78 k2)
              rw [if_neg (show ¬ k2 = K 76 2 by omega)]
              by_cases z : k2 + 1 = K 76 2
              · rw [if_pos z, show k2 = K 76 2 - 1 by omega, (iv1.2 (by omega)).2, wp]
              · rw [if_neg z]; exact iv3 k2 q0 (by omega)
          refine WP.go 3 (And.intro (And.intro (Nat.le_of_ble_eq_true rfl) (Nat.le_of_ble_eq_true rfl)) (And.intro rfl (?_)))
          show Call d 74 [vr (some 4) 5, vi pl] (K, H) _ _
          refine s_7_behindThing (by omega) hS hszk hnn (by omega) ?_
          show WP (Call d) 70 P X (17, [some (vr (some 76) 8), some (vr (some 4) 5), some (vi pl), some (vi i), none], [vi (bhd (K 5) n pl)], (K, H), 0, 0)
          refine WP.go 1 ?_
          show WP (Call d) 70 P X (18, [some (vr (some 76) 8), some (vr (some 4) 5), some (vi pl), some (vi i), some (vi (bhd (K 5) n pl))], [], (K, H), 0, 0)
          refine rw_i (Q := fun x9 => WP (Call d) 70 P X (18, [some (vr (some 76) 8), some (vr (some 4) 5), some (vi pl), some (vi i), some (vi x9)], [], (K, H), 0, 0)) (by rw [h5]) ?_
          show WP (Call d) 70 P X (18, [some (vr (some 76) 8), some (vr (some 4) 5), some (vi pl), some (vi i), some (vi (bhd (I 5) n pl))], [], (K, H), 0, 0)
          refine WP.go 3 (And.intro (And.intro (Nat.le_of_ble_eq_true rfl) (Nat.le_of_ble_eq_true rfl)) (And.intro rfl (?_)))
          show Call d 66 [vr (some 4) 5, vi pl] (K, H) _ _
          refine s_6_at (by omega) hS hszk (by omega) ?_
          show WP (Call d) 70 P X (21, [some (vr (some 76) 8), some (vr (some 4) 5), some (vi pl), some (vi i), some (vi (bhd (I 5) n pl))], [vi (K 5 pl)], (K, H), 0, 0)
          refine WP.go 2 (And.intro (fun (b22 : K 5 pl = 32) => ?_) (fun (b22 : ¬ K 5 pl = 32) => ?_))
          ·
            show WP (Call d) 70 P X (30, [some (vr (some 76) 8), some (vr (some 4) 5), some (vi pl), some (vi i), some (vi (bhd (I 5) n pl))], [], (K, H), 0, 0)
            refine WP.go 4 (Exists.intro (i + 1) (And.intro (wrp_a (by omega) (by omega)) (?_)))
            show WP (Call d) 70 P X (7, [some (vr (some 76) 8), some (vr (some 4) 5), some (vi (bhd (I 5) n pl)), some (vi (i + 1)), some (vi (bhd (I 5) n pl))], [], (K, H), 0, 0)
            refine WP.wk (L := [some (vr (some 76) 8), some (vr (some 4) 5), some (vi (bhd (I 5) n pl)), some (vi (i + 1)), none]) (And.intro rfl (And.intro rfl (And.intro rfl (And.intro rfl (And.intro trivial (trivial)))))) ?_
            show WP (Call d) 70 P X (7, [some (vr (some 76) 8), some (vr (some 4) 5), some (vi (bhd (I 5) n pl)), some (vi (i + 1)), none], [], (K, H), 0, 0)
            exact ih7 K (bhd (I 5) n pl) (i + 1) (by omega) (by have w := hsp b22; omega) ⟨fun q => (iv1.1 q).trans (hsp b22).2, fun q => ⟨(iv1.2 q).1, (iv1.2 q).2.trans (hsp b22).2⟩⟩ iv2 iv3 iv4
          ·
            show WP (Call d) 70 P X (23, [some (vr (some 76) 8), some (vr (some 4) 5), some (vi pl), some (vi i), some (vi (bhd (I 5) n pl))], [], (K, H), 0, 0)
            refine WP.go 5 (And.intro (And.intro (Nat.le_of_ble_eq_true rfl) (Nat.le_of_ble_eq_true rfl)) (And.intro rfl (?_)))
            show Call d 75 [vr (some 4) 5, vi pl, vi (bhd (I 5) n pl)] (K, H) _ _
            refine s_7_thingAt (by omega) hS hszk hnn hbyk (by omega) (by rw [h5]) ?_
            show WP (Call d) 70 P X (28, [some (vr (some 76) 8), some (vr (some 4) 5), some (vi pl), some (vi i), some (vi (bhd (I 5) n pl))], [vi (th (K 5) n pl), vr (some 76) 8], (K, H), 0, 0)
            refine rw_i (Q := fun x9 => WP (Call d) 70 P X (28, [some (vr (some 76) 8), some (vr (some 4) 5), some (vi pl), some (vi i), some (vi (bhd (I 5) n pl))], [vi x9, vr (some 76) 8], (K, H), 0, 0)) (by rw [h5]) ?_
            show WP (Call d) 70 P X (28, [some (vr (some 76) 8), some (vr (some 4) 5), some (vi pl), some (vi i), some (vi (bhd (I 5) n pl))], [vi (th (I 5) n pl), vr (some 76) 8], (K, H), 0, 0)
            refine WP.go 2 (And.intro (And.intro (Nat.le_of_ble_eq_true rfl) (Nat.le_of_ble_eq_true rfl)) (And.intro rfl (?_)))
            show Call d 71 [vr (some 76) 8, vi (th (I 5) n pl), vi pl] (K, H) _ _
            refine s_7_keep_T76 (by omega) hS (by omega) (fun J29 e29 f29 g29 k29 => ?_)
            show WP (Call d) 70 P X (30, [some (vr (some 76) 8), some (vr (some 4) 5), some (vi pl), some (vi i), some (vi (bhd (I 5) n pl))], [], (J29, H), 0, 0)
            refine WP.go 4 (Exists.intro (i + 1) (And.intro (wrp_a (by omega) (by omega)) (?_)))
            show WP (Call d) 70 P X (7, [some (vr (some 76) 8), some (vr (some 4) 5), some (vi (bhd (I 5) n pl)), some (vi (i + 1)), some (vi (bhd (I 5) n pl))], [], (J29, H), 0, 0)
            refine WP.wk (L := [some (vr (some 76) 8), some (vr (some 4) 5), some (vi (bhd (I 5) n pl)), some (vi (i + 1)), none]) (And.intro rfl (And.intro rfl (And.intro rfl (And.intro rfl (And.intro trivial (trivial)))))) ?_
            show WP (Call d) 70 P X (7, [some (vr (some 76) 8), some (vr (some 4) 5), some (vi (bhd (I 5) n pl)), some (vi (i + 1)), none], [], (J29, H), 0, 0)
            exact ih7 J29 (bhd (I 5) n pl) (i + 1) (by omega) (htk b22 e29 k29).1 ((htk b22 e29 k29).2.1 g29) ((htk b22 e29 k29).2.2.1 f29 g29) ((htk b22 e29 k29).2.2.2.1 g29) (htk b22 e29 k29).2.2.2.2
  exact lp7 ((n - 0 : Int).toNat + 1) J0 0 0 (by omega) (by have : J0 76 2 = 0 := (by rw [e_J0]; rfl); omega) (by have w : J0 76 2 = 0 := (by rw [e_J0]; rfl); exact ⟨fun _ => rfl, fun q => absurd q (by omega)⟩) (fun k q0 q1 => by have : J0 76 2 = 0 := (by rw [e_J0]; rfl); omega) (fun k q0 q1 => by have : J0 76 2 = 0 := (by rw [e_J0]; rfl); omega) ⟨fun a q1 q2 q3 => f_J0 a q1, fun s q => by rw [e_J0]; exact if_neg q⟩

theorem s_7_present_T76 {d : Nat} {P : Option qV → qH → Prop} {X : Nat → qH → Prop} {I : qI} {H : qS} (hd : 1 ≤ d) {tb : Int → Int} {n p : Int} (hS : Shp H) (hK : TOK I 76 tb n) (hat : ATP I 76 p) (h : P (some (vi (th tb n p))) (I, H)) :
    Call d 79 [vr (some 76) 8] (I, H) P X := by
  obtain ⟨d, rfl⟩ : ∃ e, d = e + 1 := ⟨d - 1, by omega⟩
  have hl77 := hS.l77
  have w := hK.at hat
  have w1 : I 77 (I 76 3) = th tb n p := w.1
  have w2 := hat.1
  have w3 := hK.1
  show WP (Call d) 79 P X (0, [some (vr (some 76) 8)], [], (I, H), 0, 0)
  refine WP.go 3 (And.intro rfl (And.intro (fun (b2 : I 76 3 < 0) => (absurd b2 (by omega))) (fun (b2 : ¬ I 76 3 < 0) => ?_)))
  show WP (Call d) 79 P X (3, [some (vr (some 76) 8)], [], (I, H), 0, 0)
  refine WP.go 5 (And.intro rfl (And.intro rfl (And.intro (fun (b7 : ¬ I 76 3 < I 76 2) => (absurd b7 (by omega))) (fun (b7 : I 76 3 < I 76 2) => ?_))))
  show WP (Call d) 79 P X (8, [some (vr (some 76) 8)], [], (I, H), 0, 0)
  refine WP.go 6 (And.intro rfl (And.intro rfl (Exists.intro 77 (And.intro hS.r76_0 (And.intro (Or.inl rfl) (And.intro (fun (b13 : ¬ I 76 3 < H.2.1 77) => (absurd b13 (by omega))) (fun (b13 : I 76 3 < H.2.1 77) => ?_)))))))
  show WP (Call d) 79 P X (14, [some (vr (some 76) 8)], [], (I, H), 0, 0)
  refine WP.go 7 (And.intro rfl (Exists.intro 77 (And.intro hS.r76_0 (And.intro rfl (And.intro (And.intro rfl (And.intro (show 0 ≤ I 76 3 from by omega) (show I 76 3 < H.2.1 77 from by omega))) (And.intro (And.intro (Nat.le_of_ble_eq_true rfl) (Nat.le_of_ble_eq_true rfl)) (And.intro trivial (?_))))))))
  show P (some (vi (I 77 (I 76 3)))) (I, H)
  exact fin_i (by exact w.1) h

theorem s_7_begin_T76 {d : Nat} {P : Option qV → qH → Prop} {X : Nat → qH → Prop} {I : qI} {H : qS} (hd : 1 ≤ d) {tb : Int → Int} {n p : Int} (hS : Shp H) (hK : TOK I 76 tb n) (hat : ATP I 76 p) (h : P (some (vi p)) (I, H)) :
    Call d 80 [vr (some 76) 8] (I, H) P X := by
  obtain ⟨d, rfl⟩ : ∃ e, d = e + 1 := ⟨d - 1, by omega⟩
  have hl78 := hS.l78
  have w2 := hat.1
  have w3 := hK.1
  show WP (Call d) 80 P X (0, [some (vr (some 76) 8)], [], (I, H), 0, 0)
  refine WP.go 3 (And.intro rfl (And.intro (fun (b2 : I 76 3 < 0) => (absurd b2 (by omega))) (fun (b2 : ¬ I 76 3 < 0) => ?_)))
  show WP (Call d) 80 P X (3, [some (vr (some 76) 8)], [], (I, H), 0, 0)
  refine WP.go 6 (And.intro rfl (And.intro rfl (Exists.intro 78 (And.intro hS.r76_1 (And.intro (Or.inl rfl) (And.intro (fun (b8 : ¬ I 76 3 < H.2.1 78) => (absurd b8 (by omega))) (fun (b8 : I 76 3 < H.2.1 78) => ?_)))))))
  show WP (Call d) 80 P X (9, [some (vr (some 76) 8)], [], (I, H), 0, 0)
  refine WP.go 7 (And.intro rfl (Exists.intro 78 (And.intro hS.r76_1 (And.intro rfl (And.intro (And.intro rfl (And.intro (show 0 ≤ I 76 3 from by omega) (show I 76 3 < H.2.1 78 from by omega))) (And.intro (And.intro (Nat.le_of_ble_eq_true rfl) (Nat.le_of_ble_eq_true rfl)) (And.intro trivial (?_))))))))
  show P (some (vi (I 78 (I 76 3)))) (I, H)
  exact fin_i (by exact hat.2) h

theorem s_7_skip_T76 {d : Nat} {P : Option qV → qH → Prop} {X : Nat → qH → Prop} {I : qI} {H : qS} (hd : 1 ≤ d) {tb : Int → Int} {n p t9 : Int} (hS : Shp H) (hK : TOK I 76 tb n) (hat : ATP I 76 p) (ht : t9 ≠ 3000) (h : (th tb n p = t9 → ∀ J : qI, (∀ s, s ≠ 3 → J 76 s = I 76 s) → (∀ a, a ≠ 76 → J a = I a) → ATP J 76 (nx tb n p) → P (some (vi 1)) (J, H)) ∧ (¬ th tb n p = t9 → ∀ J : qI, J = upI I 76 3 (I 76 3 + 0) → P (some (vi 0)) (J, H))) :
    Call d 81 [vr (some 76) 8, vi t9] (I, H) P X := by
  obtain ⟨d, rfl⟩ : ∃ e, d = e + 1 := ⟨d - 1, by omega⟩
  have hl77 := hS.l77
  have w := hK.at hat
  have w1 : I 77 (I 76 3) = th tb n p := w.1
  have w2 := hat.1
  have w3 := hK.1
  have w4 := hK.end hat
  show WP (Call d) 81 P X (0, [some (vr (some 76) 8), some (vi t9), none], [], (I, H), 0, 0)
  refine WP.go 3 (And.intro rfl (And.intro (fun (b2 : I 76 3 < 0) => (absurd b2 (by omega))) (fun (b2 : ¬ I 76 3 < 0) => ?_)))
  show WP (Call d) 81 P X (3, [some (vr (some 76) 8), some (vi t9), none], [], (I, H), 0, 0)
  refine WP.go 5 (And.intro rfl (And.intro rfl (And.intro (fun (b7 : ¬ I 76 3 < I 76 2) => (absurd b7 (by omega))) (fun (b7 : I 76 3 < I 76 2) => ?_))))
  show WP (Call d) 81 P X (8, [some (vr (some 76) 8), some (vi t9), none], [], (I, H), 0, 0)
  refine WP.go 6 (And.intro rfl (And.intro rfl (Exists.intro 77 (And.intro hS.r76_0 (And.intro (Or.inl rfl) (And.intro (fun (b13 : ¬ I 76 3 < H.2.1 77) => (absurd b13 (by omega))) (fun (b13 : I 76 3 < H.2.1 77) => ?_)))))))
  show WP (Call d) 81 P X (14, [some (vr (some 76) 8), some (vi t9), none], [], (I, H), 0, 0)
  refine WP.go 7 (And.intro rfl (Exists.intro 77 (And.intro hS.r76_0 (And.intro rfl (And.intro (And.intro rfl (And.intro (show 0 ≤ I 76 3 from by omega) (show I 76 3 < H.2.1 77 from by omega))) (And.intro (fun (b20 : ¬ I 77 (I 76 3) = t9) => ?_) (fun (b20 : I 77 (I 76 3) = t9) => ?_)))))))
  ·
    show WP (Call d) 81 P X (23, [some (vr (some 76) 8), some (vi t9), none], [], (I, H), 0, 0)
    refine WP.go 7 (And.intro rfl (And.intro (fun (b29 : 0 = 0) => ?_) (fun (b29 : ¬ 0 = 0) => (absurd b29 (by omega)))))
    show WP (Call d) 81 P X (32, [some (vr (some 76) 8), some (vi t9), some (vi 0)], [vi (I 76 3), vr (some 76) 8], (I, H), 0, 0)
    refine WP.go 5 (Exists.intro ((I 76 3) + 0) (And.intro (wrp_a (by omega) (by omega)) (And.intro (And.intro rfl trivial) (And.intro (And.intro (Nat.le_of_ble_eq_true rfl) (Nat.le_of_ble_eq_true rfl)) (And.intro (Or.inl rfl) (?_))))))
    show P (some (vi 0)) ((upI I 76 3 ((I 76 3) + 0)), H)
    exact h.2 (fun q => b20 (w.1.trans q)) _ rfl
  ·
    show WP (Call d) 81 P X (21, [some (vr (some 76) 8), some (vi t9), none], [], (I, H), 0, 0)
    refine WP.go 8 (And.intro rfl (And.intro (fun (b29 : 1 = 0) => (absurd b29 (by omega))) (fun (b29 : ¬ 1 = 0) => ?_)))
    show WP (Call d) 81 P X (30, [some (vr (some 76) 8), some (vi t9), some (vi 1)], [vi (I 76 3), vr (some 76) 8], (I, H), 0, 0)
    refine WP.go 6 (Exists.intro ((I 76 3) + 1) (And.intro (wrp_a (by omega) (by omega)) (And.intro (And.intro rfl trivial) (And.intro (And.intro (Nat.le_of_ble_eq_true rfl) (Nat.le_of_ble_eq_true rfl)) (And.intro (Or.inr rfl) (?_))))))
    show P (some (vi 1)) ((upI I 76 3 ((I 76 3) + 1)), H)
    exact h.1 (w.1.symm.trans b20) _ (fun s q => upI_at (.inr q)) (fun a q => upI_cell q) (hK.nx hat (w4 (by rw [← w.1, b20]; exact ht)) (upI_self _ _ _ _) (upI_cell (by omega)))

theorem s_7_take_T76 {d : Nat} {P : Option qV → qH → Prop} {X : Nat → qH → Prop} {I : qI} {H : qS} (hd : 1 ≤ d) {tb : Int → Int} {n p lo hi : Int} (hS : Shp H) (hK : TOK I 76 tb n) (hat : ATP I 76 p) (ht : hi < 3000) (h : ((lo ≤ th tb n p ∧ th tb n p ≤ hi) → ∀ J : qI, (∀ s, s ≠ 3 → J 76 s = I 76 s) → (∀ a, a ≠ 76 → J a = I a) → ATP J 76 (nx tb n p) → P (some (vi (th tb n p))) (J, H)) ∧ (¬ (lo ≤ th tb n p ∧ th tb n p ≤ hi) → P (some (vi (-1))) (I, H))) :
    Call d 82 [vr (some 76) 8, vi lo, vi hi] (I, H) P X := by
  obtain ⟨d, rfl⟩ : ∃ e, d = e + 1 := ⟨d - 1, by omega⟩
  have hl77 := hS.l77
  have w := hK.at hat
  have w1 : I 77 (I 76 3) = th tb n p := w.1
  have w2 := hat.1
  have w3 := hK.1
  have w4 := hK.end hat
  show WP (Call d) 82 P X (0, [some (vr (some 76) 8), some (vi lo), some (vi hi), none], [], (I, H), 0, 0)
  refine WP.go 3 (And.intro rfl (And.intro (fun (b2 : I 76 3 < 0) => (absurd b2 (by omega))) (fun (b2 : ¬ I 76 3 < 0) => ?_)))
  show WP (Call d) 82 P X (3, [some (vr (some 76) 8), some (vi lo), some (vi hi), none], [], (I, H), 0, 0)
  refine WP.go 5 (And.intro rfl (And.intro rfl (And.intro (fun (b7 : ¬ I 76 3 < I 76 2) => (absurd b7 (by omega))) (fun (b7 : I 76 3 < I 76 2) => ?_))))
  show WP (Call d) 82 P X (8, [some (vr (some 76) 8), some (vi lo), some (vi hi), none], [], (I, H), 0, 0)
  refine WP.go 6 (And.intro rfl (And.intro rfl (Exists.intro 77 (And.intro hS.r76_0 (And.intro (Or.inl rfl) (And.intro (fun (b13 : ¬ I 76 3 < H.2.1 77) => (absurd b13 (by omega))) (fun (b13 : I 76 3 < H.2.1 77) => ?_)))))))
  show WP (Call d) 82 P X (14, [some (vr (some 76) 8), some (vi lo), some (vi hi), none], [], (I, H), 0, 0)
  refine WP.go 10 (And.intro rfl (Exists.intro 77 (And.intro hS.r76_0 (And.intro rfl (And.intro (And.intro rfl (And.intro (show 0 ≤ I 76 3 from by omega) (show I 76 3 < H.2.1 77 from by omega))) (And.intro (fun (b24 : I 77 (I 76 3) < lo) => ?_) (fun (b24 : ¬ I 77 (I 76 3) < lo) => ?_)))))))
  ·
    show WP (Call d) 82 P X (28, [some (vr (some 76) 8), some (vi lo), some (vi hi), some (vi (I 77 (I 76 3)))], [], (I, H), 0, 0)
    refine WP.go 2 (And.intro (And.intro (Nat.le_of_ble_eq_true rfl) (Nat.le_of_ble_eq_true rfl)) (And.intro trivial (?_)))
    show P (some (vi (-1))) (I, H)
    exact h.2 (by omega)
  ·
    show WP (Call d) 82 P X (25, [some (vr (some 76) 8), some (vi lo), some (vi hi), some (vi (I 77 (I 76 3)))], [], (I, H), 0, 0)
    refine WP.go 3 (And.intro (fun (b27 : ¬ hi < I 77 (I 76 3)) => ?_) (fun (b27 : hi < I 77 (I 76 3)) => ?_))
    ·
      show WP (Call d) 82 P X (30, [some (vr (some 76) 8), some (vi lo), some (vi hi), some (vi (I 77 (I 76 3)))], [], (I, H), 0, 0)
      refine WP.go 8 (And.intro rfl (Exists.intro ((I 76 3) + 1) (And.intro (wrp_a (by omega) (by omega)) (And.intro (And.intro rfl trivial) (And.intro (And.intro (Nat.le_of_ble_eq_true rfl) (Nat.le_of_ble_eq_true rfl)) (And.intro trivial (?_)))))))
      show P (some (vi (I 77 (I 76 3)))) ((upI I 76 3 ((I 76 3) + 1)), H)
      exact fin_i w.1 (h.1 (by omega) _ (fun s q => upI_at (.inr q)) (fun a q => upI_cell q) (hK.nx hat (w4 (by omega)) (upI_self _ _ _ _) (upI_cell (by omega))))
    ·
      show WP (Call d) 82 P X (28, [some (vr (some 76) 8), some (vi lo), some (vi hi), some (vi (I 77 (I 76 3)))], [], (I, H), 0, 0)
      refine WP.go 2 (And.intro (And.intro (Nat.le_of_ble_eq_true rfl) (Nat.le_of_ble_eq_true rfl)) (And.intro trivial (?_)))
      show P (some (vi (-1))) (I, H)
      exact h.2 (by omega)

