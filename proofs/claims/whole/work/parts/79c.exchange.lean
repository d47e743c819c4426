/-- the exchange: the way at hand, how many, the most, the best way -/
def CE (I : qI) (q : SQ) : Prop := (I 85 6 = q.2.1 ∧ I 85 7 = q.2.2.1) ∧ (∀ j, 0 ≤ j → j < 7 → I 88 j = q.1 j) ∧ (∀ j, 0 ≤ j → j < 7 → I 89 j = q.2.2.2 j)
def CEF (I J : qI) : Prop := ∀ a, a ≠ 85 → a ≠ 88 → a ≠ 89 → J a = I a
theorem CEF.rf (I : qI) : CEF I I := fun _ _ _ _ => rfl
theorem CEF.tr {I J K : qI} (h : CEF I J) (g : CEF J K) : CEF I K := fun a b c d => (g a b c d).trans (h a b c d)
def GDS (I : qI) (μ : Int → Int) : Prop := ∀ f h, 0 ≤ f → f < μ 1 → 0 ≤ h → h < μ 1 → I 86 (7 * f + h) = GG μ f h
theorem s_2_keepWay {d : Nat} {P : Option qV → qH → Prop} {X : Nat → qH → Prop} {I : qI} {H : qS} (hd : 1 ≤ d) {q : SQ} {s : Int} (hS : Shp H) (hq : CE I q) (h : ∀ J : qI, CE J (kpC s q) → CEF I J → P none (J, H)) :
    Call d 36 [vr (some 85) 2, vi s] (I, H) P X := by
  obtain ⟨d, rfl⟩ : ∃ e, d = e + 1 := ⟨d - 1, by omega⟩
  have hl89 := hS.l89
  have hl88 := hS.l88
  show WP (Call d) 36 P X (0, [some (vr (some 85) 2), some (vi s), none], [], (I, H), 0, 0)
  refine WP.go 3 (And.intro rfl (?_))
  refine rw_i (Q := fun x9 => WP (Call d) 36 P X (3, [some (vr (some 85) 2), some (vi s), none], [vi x9, vr (some 85) 2], (I, H), 0, 0)) hq.1.1 ?_
  show WP (Call d) 36 P X (3, [some (vr (some 85) 2), some (vi s), none], [vi q.2.1, vr (some 85) 2], (I, H), 0, 0)
  refine WP.go 3 (Exists.intro (wrp (q.2.1 + 1)) (And.intro rfl (And.intro (And.intro rfl trivial) (?_))))
  show WP (Call d) 36 P X (6, [some (vr (some 85) 2), some (vi s), none], [], ((upI I 85 6 (wrp (q.2.1 + 1))), H), 0, 0)
  generalize hq_J0 : (upI I 85 6 (wrp (q.2.1 + 1))) = J0
  have e_J0 : J0 85 = (fun j => if j = 6 then (wrp (q.2.1 + 1)) else I 85 j) := by rw [← hq_J0]; exact upI_self _ _ _ _
  have f_J0 : ∀ a, a ≠ 85 → J0 a = I a := fun a q => by rw [← hq_J0]; exact upI_cell q
  have h7 : J0 85 7 = q.2.2.1 := by rw [e_J0]; exact hq.1.2
  refine WP.go 3 (And.intro rfl (?_))
  refine rw_i (Q := fun x9 => WP (Call d) 36 P X (9, [some (vr (some 85) 2), some (vi s), none], [vi x9, vi s], (J0, H), 0, 0)) h7 ?_
  show WP (Call d) 36 P X (9, [some (vr (some 85) 2), some (vi s), none], [vi q.2.2.1, vi s], (J0, H), 0, 0)
  refine WP.go 1 (And.intro (fun (b9 : ¬ q.2.2.1 < s) => ?_) (fun (b9 : q.2.2.1 < s) => ?_))
  ·
    show WP (Call d) 36 P X (35, [some (vr (some 85) 2), some (vi s), none], [], (J0, H), 0, 0)
    refine WP.go 1 (And.intro (And.intro (Nat.le_of_ble_eq_true rfl) (Nat.le_of_ble_eq_true rfl)) (?_))
    show P none (J0, H)
    refine h _ ⟨⟨?_, ?_⟩, fun j j0 j1 => ?_, fun j j0 j1 => ?_⟩ (fun a q1 q2 q3 => f_J0 a q1)
    · rw [e_J0]; rfl
    · show J0 85 7 = (if q.2.2.1 < s then s else q.2.2.1); rw [if_neg (by omega)]; exact h7
    · rw [f_J0 88 (by omega)]; exact hq.2.1 j j0 j1
    · show J0 89 j = (if q.2.2.1 < s then q.1 else q.2.2.2) j; rw [if_neg (by omega), f_J0 89 (by omega)]; exact hq.2.2 j j0 j1
  ·
    show WP (Call d) 36 P X (10, [some (vr (some 85) 2), some (vi s), none], [], (J0, H), 0, 0)
    refine WP.go 3 (And.intro (And.intro rfl trivial) (?_))
    show WP (Call d) 36 P X (13, [some (vr (some 85) 2), some (vi s), none], [], ((upI J0 85 7 s), H), 0, 0)
    generalize hq_J1 : (upI J0 85 7 s) = J1
    have e_J1 : J1 85 = (fun j => if j = 7 then s else J0 85 j) := by rw [← hq_J1]; exact upI_self _ _ _ _
    have f_J1 : ∀ a, a ≠ 85 → J1 a = J0 a := fun a q => by rw [← hq_J1]; exact upI_cell q
    refine WP.go 2 ?_
    show WP (Call d) 36 P X (15, [some (vr (some 85) 2), some (vi s), some (vi 0)], [], (J1, H), 0, 0)
    have lp15 : ∀ (n9 : Nat) (K : qI) (i : Int) (hm : 7 - i < (n9 : Int)) (iv0 : 0 ≤ i ∧ i ≤ 7) (iv1 : ∀ j, 0 ≤ j → j < i → K 89 j = q.1 j) (iv2 : ∀ a, a ≠ 89 → K a = J1 a), WP (Call d) 36 P X (15, [some (vr (some 85) 2), some (vi s), some (vi i)], [], (K, H), 0, 0) := by
      intro n9
      induction n9 with
      | zero => intro K i hm iv0 iv1 iv2; exact absurd hm (by omega)
      | succ n9 ih15 =>
        intro K i hm iv0 iv1 iv2
        refine WP.go 5 (And.intro rfl (Exists.intro 89 (And.intro hS.r85_5 (And.intro (Or.inl rfl) (And.intro (fun (b19 : ¬ i < H.2.1 89) => ?_) (fun (b19 : i < H.2.1 89) => ?_))))))
        ·
          show WP (Call d) 36 P X (35, [some (vr (some 85) 2), some (vi s), some (vi i)], [], (K, H), 0, 0)
          refine WP.go 1 (And.intro (And.intro (Nat.le_of_ble_eq_true rfl) (Nat.le_of_ble_eq_true rfl)) (?_))
          show P none (K, H)
          refine h _ ⟨⟨?_, ?_⟩, fun j j0 j1 => ?_, fun j j0 j1 => ?_⟩ (fun a q1 q2 q3 => by rw [iv2 a q3, f_J1 a q1, f_J0 a q1])
          · rw [iv2 85 (by omega), e_J1]; show J0 85 6 = _; rw [e_J0]; rfl
          · rw [iv2 85 (by omega), e_J1]; show s = (if q.2.2.1 < s then s else q.2.2.1); rw [if_pos (by omega)]
          · rw [iv2 88 (by omega), f_J1 88 (by omega), f_J0 88 (by omega)]; exact hq.2.1 j j0 j1
          · show K 89 j = (if q.2.2.1 < s then q.1 else q.2.2.2) j; rw [if_pos (by omega)]; exact iv1 j j0 (by omega)
        ·
          show WP (Call d) 36 P X (20, [some (vr (some 85) 2), some (vi s), some (vi i)], [], (K, H), 0, 0)
          refine WP.go 5 (And.intro rfl (Exists.intro 88 (And.intro hS.r85_4 (And.intro (Or.inl rfl) (And.intro (fun (b24 : ¬ i < H.2.1 88) => (absurd b24 (by omega))) (fun (b24 : i < H.2.1 88) => ?_))))))
          show WP (Call d) 36 P X (25, [some (vr (some 85) 2), some (vi s), some (vi i)], [], (K, H), 0, 0)
          refine WP.go 10 (And.intro rfl (Exists.intro 89 (And.intro hS.r85_5 (And.intro rfl (Exists.intro 88 (And.intro hS.r85_4 (And.intro (And.intro rfl (And.intro (show 0 ≤ i from by omega) (show i < H.2.1 88 from by omega))) (And.intro (And.intro rfl (And.intro (show 0 ≤ i from by omega) (show i < H.2.1 89 from by omega))) (Exists.intro (i + 1) (And.intro (wrp_a (by omega) (by omega)) (?_)))))))))))
          show WP (Call d) 36 P X (15, [some (vr (some 85) 2), some (vi s), some (vi (i + 1))], [], ((upI K 89 i (K 88 i)), H), 0, 0)
          exact ih15 (upI K 89 i (K 88 i)) (i + 1) (by omega) (by omega) (cp_s (upI_self _ _ _ _) iv1 (by rw [iv2 88 (by omega), f_J1 88 (by omega), f_J0 88 (by omega)]; exact hq.2.1 i (by omega) (by omega))) (fun a q => (upI_cell q).trans (iv2 a q))
    exact lp15 ((7 - 0 : Int).toNat + 1) J1 0 (by omega) (by omega) (fun j q1 q2 => by omega) (fun _ _ => rfl)

theorem s_2_goodOf {d : Nat} {P : Option qV → qH → Prop} {X : Nat → qH → Prop} {I : qI} {H : qS} {μ : Int → Int} (hd : 1 ≤ d) {f h9 : Int} (hS : Shp H) (h79 : μ 1 ≤ 7) (hg : GDS I μ) (hf : 0 ≤ f ∧ f < μ 1) (hh : 0 ≤ h9 ∧ h9 < μ 1) (h : P (some (vi (GG μ f h9))) (I, H)) :
    Call d 34 [vr (some 85) 2, vi f, vi h9] (I, H) P X := by
  obtain ⟨d, rfl⟩ : ∃ e, d = e + 1 := ⟨d - 1, by omega⟩
  have hl86 := hS.l86
  show WP (Call d) 34 P X (0, [some (vr (some 85) 2), some (vi f), some (vi h9), none], [], (I, H), 0, 0)
  refine WP.go 8 (Exists.intro (7 * f) (And.intro (wrp_a (by omega) (by omega)) (Exists.intro ((7 * f) + h9) (And.intro (wrp_a (by omega) (by omega)) (And.intro (fun (b7 : (7 * f) + h9 < 0) => (absurd b7 (by omega))) (fun (b7 : ¬ (7 * f) + h9 < 0) => ?_))))))
  show WP (Call d) 34 P X (8, [some (vr (some 85) 2), some (vi f), some (vi h9), some (vi ((7 * f) + h9))], [], (I, H), 0, 0)
  refine WP.go 5 (And.intro rfl (Exists.intro 86 (And.intro hS.r85_2 (And.intro (Or.inl rfl) (And.intro (fun (b12 : ¬ (7 * f) + h9 < H.2.1 86) => (absurd b12 (by omega))) (fun (b12 : (7 * f) + h9 < H.2.1 86) => ?_))))))
  show WP (Call d) 34 P X (13, [some (vr (some 85) 2), some (vi f), some (vi h9), some (vi ((7 * f) + h9))], [], (I, H), 0, 0)
  refine WP.go 6 (And.intro rfl (Exists.intro 86 (And.intro hS.r85_2 (And.intro (And.intro rfl (And.intro (show 0 ≤ (7 * f) + h9 from by omega) (show (7 * f) + h9 < H.2.1 86 from by omega))) (And.intro (And.intro (Nat.le_of_ble_eq_true rfl) (Nat.le_of_ble_eq_true rfl)) (And.intro trivial (?_)))))))
  show P (some (vi (I 86 ((7 * f) + h9)))) (I, H)
  exact fin_i (hg f h9 hf.1 hf.2 hh.1 hh.2) h

theorem s_2_setGood {d : Nat} {P : Option qV → qH → Prop} {X : Nat → qH → Prop} {I : qI} {H : qS} (hd : 1 ≤ d) {f h9 v : Int} (hS : Shp H) (hf : 0 ≤ f ∧ f < 7) (hh : 0 ≤ h9 ∧ h9 < 7) (h : ∀ J : qI, J 86 = (fun j => if j = 7 * f + h9 then v else I 86 j) → (∀ a, a ≠ 86 → J a = I a) → P none (J, H)) :
    Call d 33 [vr (some 85) 2, vi f, vi h9, vi v] (I, H) P X := by
  obtain ⟨d, rfl⟩ : ∃ e, d = e + 1 := ⟨d - 1, by omega⟩
  have hl86 := hS.l86
  show WP (Call d) 33 P X (0, [some (vr (some 85) 2), some (vi f), some (vi h9), some (vi v), none], [], (I, H), 0, 0)
  refine WP.go 8 (Exists.intro (7 * f) (And.intro (wrp_a (by omega) (by omega)) (Exists.intro ((7 * f) + h9) (And.intro (wrp_a (by omega) (by omega)) (And.intro (fun (b7 : (7 * f) + h9 < 0) => (absurd b7 (by omega))) (fun (b7 : ¬ (7 * f) + h9 < 0) => ?_))))))
  show WP (Call d) 33 P X (8, [some (vr (some 85) 2), some (vi f), some (vi h9), some (vi v), some (vi ((7 * f) + h9))], [], (I, H), 0, 0)
  refine WP.go 5 (And.intro rfl (Exists.intro 86 (And.intro hS.r85_2 (And.intro (Or.inl rfl) (And.intro (fun (b12 : ¬ (7 * f) + h9 < H.2.1 86) => (absurd b12 (by omega))) (fun (b12 : (7 * f) + h9 < H.2.1 86) => ?_))))))
  show WP (Call d) 33 P X (13, [some (vr (some 85) 2), some (vi f), some (vi h9), some (vi v), some (vi ((7 * f) + h9))], [], (I, H), 0, 0)
  refine WP.go 6 (And.intro rfl (Exists.intro 86 (And.intro hS.r85_2 (And.intro (And.intro rfl (And.intro (show 0 ≤ (7 * f) + h9 from by omega) (show (7 * f) + h9 < H.2.1 86 from by omega))) (And.intro (And.intro (Nat.le_of_ble_eq_true rfl) (Nat.le_of_ble_eq_true rfl)) (?_))))))
  show P none ((upI I 86 ((7 * f) + h9) v), H)
  exact h _ (upI_self _ _ _ _) (fun a q => upI_cell q)

def SC (D k : Nat) (μ : Int → Int) : Prop := ∀ {d : Nat} {P : Option qV → qH → Prop} {X : Nat → qH → Prop} {I : qI} {H : qS} {f t s : Int} {q : SQ}, D ≤ d → Shp H → CE I q → TR 6 I μ → GDS I μ → 0 ≤ f ∧ f + (k : Int) = μ 1 → 0 ≤ t ∧ t < 128 → 0 ≤ s ∧ s ≤ 26000 * f →
  (∀ J : qI, CE J (sw kpC (GG μ) (GL μ) (μ 1) k f t s q) → CEF I J → P none (J, H)) → Call d 35 [vr (some 85) 2, vi f, vi t, vi s] (I, H) P X
theorem s_2_settle_z {d : Nat} {P : Option qV → qH → Prop} {X : Nat → qH → Prop} {I : qI} {H : qS} {μ : Int → Int} (hd : 4 ≤ d) {f t s : Int} {q : SQ} (hS : Shp H) (hq : CE I q) (hT : TR 6 I μ) (hV : IM μ) (h79 : μ 1 ≤ 7) (hf : f = μ 1) (h : ∀ J : qI, CE J (kpC s q) → CEF I J → P none (J, H)) :
    Call d 35 [vr (some 85) 2, vi f, vi t, vi s] (I, H) P X := by
  obtain ⟨d, rfl⟩ : ∃ e, d = e + 1 := ⟨d - 1, by omega⟩
  have hn1 := hV.n1
  show WP (Call d) 35 P X (0, [some (vr (some 85) 2), some (vi f), some (vi t), some (vi s), none, none, none, none], [], (I, H), 0, 0)
  refine WP.go 4 (And.intro rfl (Exists.intro 6 (And.intro hS.r85_0 (And.intro rfl (Exists.intro 11 (And.intro hS.r6_2 (And.intro (And.intro (Nat.le_of_ble_eq_true rfl) (Nat.le_of_ble_eq_true rfl)) (And.intro rfl (?_)))))))))
  show Call d 55 [vr (some 11) 4] (I, H) _ _
  refine s_size_families (by omega) hT ?_
  show WP (Call d) 35 P X (4, [some (vr (some 85) 2), some (vi f), some (vi t), some (vi s), none, none, none, none], [vi (μ 1)], (I, H), 0, 0)
  refine WP.go 4 (And.intro (fun (b7 : ¬ f < μ 1) => ?_) (fun (b7 : f < μ 1) => (absurd b7 (by omega))))
  show WP (Call d) 35 P X (11, [some (vr (some 85) 2), some (vi f), some (vi t), some (vi s), some (vi (μ 1)), none, none, none], [], (I, H), 0, 0)
  refine WP.go 3 (And.intro (And.intro (Nat.le_of_ble_eq_true rfl) (Nat.le_of_ble_eq_true rfl)) (And.intro rfl (?_)))
  show Call d 36 [vr (some 85) 2, vi s] (I, H) _ _
  refine s_2_keepWay (by omega) hS hq (fun J13 e13 f13 => ?_)
  show WP (Call d) 35 P X (14, [some (vr (some 85) 2), some (vi f), some (vi t), some (vi s), some (vi (μ 1)), none, none, none], [], (J13, H), 0, 0)
  have hq_1 : CE J13 _ := e13
  have hc_2 : CEF I J13 := f13
  refine WP.go 1 (And.intro (And.intro (Nat.le_of_ble_eq_true rfl) (Nat.le_of_ble_eq_true rfl)) (?_))
  show P none (J13, H)
  exact h _ hq_1 hc_2

theorem s_2_settle_s {d : Nat} {P : Option qV → qH → Prop} {X : Nat → qH → Prop} {I : qI} {H : qS} {μ : Int → Int} {D k : Nat} {f t s : Int} {q : SQ} (hd : D + 1 ≤ d) (hA : SC D k μ) (hS : Shp H) (hq : CE I q) (hT : TR 6 I μ) (hV : IM μ) (h79 : μ 1 ≤ 7) (hg : GDS I μ) (hf : 0 ≤ f ∧ f + ((k + 1 : Nat) : Int) = μ 1) (ht : 0 ≤ t ∧ t < 128) (hs : 0 ≤ s ∧ s ≤ 26000 * f) (hD : 4 ≤ D) (h : ∀ J : qI, CE J (sw kpC (GG μ) (GL μ) (μ 1) (k + 1) f t s q) → CEF I J → P none (J, H)) :
    Call d 35 [vr (some 85) 2, vi f, vi t, vi s] (I, H) P X := by
  obtain ⟨d, rfl⟩ : ∃ e, d = e + 1 := ⟨d - 1, by omega⟩
  have hl88 := hS.l88
  have hn1 := hV.n1
  have hli := hV.li f hf.1 (by omega)
  show WP (Call d) 35 P X (0, [some (vr (some 85) 2), some (vi f), some (vi t), some (vi s), none, none, none, none], [], (I, H), 0, 0)
  refine WP.go 4 (And.intro rfl (Exists.intro 6 (And.intro hS.r85_0 (And.intro rfl (Exists.intro 11 (And.intro hS.r6_2 (And.intro (And.intro (Nat.le_of_ble_eq_true rfl) (Nat.le_of_ble_eq_true rfl)) (And.intro rfl (?_)))))))))
  show Call d 55 [vr (some 11) 4] (I, H) _ _
  refine s_size_families (by omega) hT ?_
  show WP (Call d) 35 P X (4, [some (vr (some 85) 2), some (vi f), some (vi t), some (vi s), none, none, none, none], [vi (μ 1)], (I, H), 0, 0)
  refine WP.go 4 (And.intro (fun (b7 : ¬ f < μ 1) => (absurd b7 (by omega))) (fun (b7 : f < μ 1) => ?_))
  show WP (Call d) 35 P X (8, [some (vr (some 85) 2), some (vi f), some (vi t), some (vi s), some (vi (μ 1)), none, none, none], [], (I, H), 0, 0)
  refine WP.go 3 (And.intro (fun (b10 : f < 7) => ?_) (fun (b10 : ¬ f < 7) => (absurd b10 (by omega))))
  show WP (Call d) 35 P X (15, [some (vr (some 85) 2), some (vi f), some (vi t), some (vi s), some (vi (μ 1)), none, none, none], [], (I, H), 0, 0)
  refine WP.go 6 (And.intro rfl (Exists.intro 6 (And.intro hS.r85_0 (And.intro (And.intro (Nat.le_of_ble_eq_true rfl) (Nat.le_of_ble_eq_true rfl)) (And.intro rfl (?_))))))
  show Call d 96 [vr (some 6) 6, vi f] (I, H) _ _
  refine s_8_homeOf (by omega) hS (.inl rfl) hT hV (by omega) ?_
  show WP (Call d) 35 P X (21, [some (vr (some 85) 2), some (vi f), some (vi t), some (vi s), some (vi (μ 1)), none, none, none], [vi (μ (200 + f)), vi f, vr (some 85) 2], (I, H), 0, 0)
  refine WP.go 1 (And.intro (And.intro (Nat.le_of_ble_eq_true rfl) (Nat.le_of_ble_eq_true rfl)) (And.intro rfl (?_)))
  show Call d 34 [vr (some 85) 2, vi f, vi (μ (200 + f))] (I, H) _ _
  refine s_2_goodOf (by omega) hS h79 hg (by omega) (by omega) ?_
  show WP (Call d) 35 P X (22, [some (vr (some 85) 2), some (vi f), some (vi t), some (vi s), some (vi (μ 1)), none, none, none], [vi (GG μ f (μ (200 + f)))], (I, H), 0, 0)
  refine WP.go 3 ?_
  show WP (Call d) 35 P X (25, [some (vr (some 85) 2), some (vi f), some (vi t), some (vi s), some (vi (μ 1)), some (vi (GG μ f (μ (200 + f)))), some (vi 0), none], [], (I, H), 0, 0)
  have lp25 : ∀ (n9 : Nat) (K : qI) (h9 : Int) (q9 : SQ) (hm : μ 1 - h9 < (n9 : Int)) (kv0 : 0 ≤ h9 ∧ h9 ≤ μ 1) (kv1 : CE K q9) (kv2 : CEF I K) (kv3 : sw kpC (GG μ) (GL μ) (μ 1) (k + 1) f t s q = swJ (swo (GG μ) (GL μ) f t) (fun h q => sw kpC (GG μ) (GL μ) (μ 1) k (f + 1) (zor t (zshl 1 h)) (s + GG μ f h) (setc q f h)) (μ 1 - h9).toNat h9 q9), WP (Call d) 35 P X (25, [some (vr (some 85) 2), some (vi f), some (vi t), some (vi s), some (vi (μ 1)), some (vi (GG μ f (μ (200 + f)))), some (vi h9), none], [], (K, H), 0, 0) := by
    intro n9
    induction n9 with
    | zero => intro K h9 q9 hm kv0 kv1 kv2 kv3; exact absurd hm (by omega)
    | succ n9 ih25 =>
      intro K h9 q9 hm kv0 kv1 kv2 kv3
      have hgk : GDS K μ := fun f h a b c d => by rw [kv2 86 (by omega) (by omega) (by omega)]; exact hg f h a b c d
      refine WP.go 3 (And.intro (fun (b27 : ¬ h9 < μ 1) => ?_) (fun (b27 : h9 < μ 1) => ?_))
      ·
        show WP (Call d) 35 P X (70, [some (vr (some 85) 2), some (vi f), some (vi t), some (vi s), some (vi (μ 1)), some (vi (GG μ f (μ (200 + f)))), some (vi h9), none], [], (K, H), 0, 0)
        refine WP.go 1 (And.intro (And.intro (Nat.le_of_ble_eq_true rfl) (Nat.le_of_ble_eq_true rfl)) (?_))
        show P none (K, H)
        exact h _ (by rw [kv3, show h9 = μ 1 by omega, swJ_0 (Int.le_refl _)]; exact kv1) kv2
      ·
        show WP (Call d) 35 P X (28, [some (vr (some 85) 2), some (vi f), some (vi t), some (vi s), some (vi (μ 1)), some (vi (GG μ f (μ (200 + f)))), some (vi h9), none], [], (K, H), 0, 0)
        refine WP.go 3 (And.intro (fun (b30 : ¬ h9 < 7) => (absurd b30 (by omega))) (fun (b30 : h9 < 7) => ?_))
        show WP (Call d) 35 P X (31, [some (vr (some 85) 2), some (vi f), some (vi t), some (vi s), some (vi (μ 1)), some (vi (GG μ f (μ (200 + f)))), some (vi h9), none], [], (K, H), 0, 0)
        refine WP.go 4 (And.intro (And.intro (Nat.le_of_ble_eq_true rfl) (Nat.le_of_ble_eq_true rfl)) (And.intro rfl (?_)))
        show Call d 34 [vr (some 85) 2, vi f, vi h9] (K, H) _ _
        refine s_2_goodOf (by omega) hS h79 hgk (by omega) (by omega) ?_
        show WP (Call d) 35 P X (35, [some (vr (some 85) 2), some (vi f), some (vi t), some (vi s), some (vi (μ 1)), some (vi (GG μ f (μ (200 + f)))), some (vi h9), none], [vi (GG μ f h9)], (K, H), 0, 0)
        refine WP.go 7 (And.intro (fun (b41 : ¬ zand (zshr t h9) 1 = 0) => ?_) (fun (b41 : zand (zshr t h9) 1 = 0) => ?_))
        ·
          show WP (Call d) 35 P X (68, [some (vr (some 85) 2), some (vi f), some (vi t), some (vi s), some (vi (μ 1)), some (vi (GG μ f (μ (200 + f)))), some (vi h9), some (vi (GG μ f h9))], [], (K, H), 0, 0)
          refine WP.go 2 (Exists.intro (h9 + 1) (And.intro (wrp_a (by omega) (by omega)) (?_)))
          show WP (Call d) 35 P X (25, [some (vr (some 85) 2), some (vi f), some (vi t), some (vi s), some (vi (μ 1)), some (vi (GG μ f (μ (200 + f)))), some (vi (h9 + 1)), some (vi (GG μ f h9))], [], (K, H), 0, 0)
          refine WP.wk (L := [some (vr (some 85) 2), some (vi f), some (vi t), some (vi s), some (vi (μ 1)), some (vi (GG μ f (μ (200 + f)))), some (vi (h9 + 1)), none]) (And.intro rfl (And.intro rfl (And.intro rfl (And.intro rfl (And.intro rfl (And.intro rfl (And.intro rfl (And.intro trivial (trivial))))))))) ?_
          show WP (Call d) 35 P X (25, [some (vr (some 85) 2), some (vi f), some (vi t), some (vi s), some (vi (μ 1)), some (vi (GG μ f (μ (200 + f)))), some (vi (h9 + 1)), none], [], (K, H), 0, 0)
          exact ih25 K (h9 + 1) _ (by omega) (by omega) kv1 kv2 (kv3.trans ((swJ_s (by omega)).trans (by rw [if_neg (fun z => b41 (of_decide_eq_true z).1)])))
        ·
          show WP (Call d) 35 P X (42, [some (vr (some 85) 2), some (vi f), some (vi t), some (vi s), some (vi (μ 1)), some (vi (GG μ f (μ (200 + f)))), some (vi h9), some (vi (GG μ f h9))], [], (K, H), 0, 0)
          refine WP.go 3 (And.intro (fun (b44 : GG μ f h9 < GG μ f (μ (200 + f))) => ?_) (fun (b44 : ¬ GG μ f h9 < GG μ f (μ (200 + f))) => ?_))
          ·
            show WP (Call d) 35 P X (68, [some (vr (some 85) 2), some (vi f), some (vi t), some (vi s), some (vi (μ 1)), some (vi (GG μ f (μ (200 + f)))), some (vi h9), some (vi (GG μ f h9))], [], (K, H), 0, 0)
            refine WP.go 2 (Exists.intro (h9 + 1) (And.intro (wrp_a (by omega) (by omega)) (?_)))
            show WP (Call d) 35 P X (25, [some (vr (some 85) 2), some (vi f), some (vi t), some (vi s), some (vi (μ 1)), some (vi (GG μ f (μ (200 + f)))), some (vi (h9 + 1)), some (vi (GG μ f h9))], [], (K, H), 0, 0)
            refine WP.wk (L := [some (vr (some 85) 2), some (vi f), some (vi t), some (vi s), some (vi (μ 1)), some (vi (GG μ f (μ (200 + f)))), some (vi (h9 + 1)), none]) (And.intro rfl (And.intro rfl (And.intro rfl (And.intro rfl (And.intro rfl (And.intro rfl (And.intro rfl (And.intro trivial (trivial))))))))) ?_
            show WP (Call d) 35 P X (25, [some (vr (some 85) 2), some (vi f), some (vi t), some (vi s), some (vi (μ 1)), some (vi (GG μ f (μ (200 + f)))), some (vi (h9 + 1)), none], [], (K, H), 0, 0)
            exact ih25 K (h9 + 1) _ (by omega) (by omega) kv1 kv2 (kv3.trans ((swJ_s (by omega)).trans (by rw [if_neg (fun z => by have w := (of_decide_eq_true z).2; have b := b44; unfold GL at w; omega)])))
          ·
            show WP (Call d) 35 P X (45, [some (vr (some 85) 2), some (vi f), some (vi t), some (vi s), some (vi (μ 1)), some (vi (GG μ f (μ (200 + f)))), some (vi h9), some (vi (GG μ f h9))], [], (K, H), 0, 0)
            have hfa := frt_at ht (show 0 ≤ h9 ∧ h9 < 7 by omega) (show 0 ≤ h9 ∧ h9 < 7 by omega)
            have hgb := GG_bd hV (h := h9) (show 0 ≤ f ∧ f < μ 1 by omega)
            refine WP.go 5 (And.intro rfl (Exists.intro 88 (And.intro hS.r85_4 (And.intro (Or.inl rfl) (And.intro (fun (b49 : ¬ f < H.2.1 88) => (absurd b49 (by omega))) (fun (b49 : f < H.2.1 88) => ?_))))))
            show WP (Call d) 35 P X (50, [some (vr (some 85) 2), some (vi f), some (vi t), some (vi s), some (vi (μ 1)), some (vi (GG μ f (μ (200 + f)))), some (vi h9), some (vi (GG μ f h9))], [], (K, H), 0, 0)
            refine WP.go 5 (And.intro rfl (Exists.intro 88 (And.intro hS.r85_4 (And.intro (And.intro rfl (And.intro (show 0 ≤ f from by omega) (show f < H.2.1 88 from by omega))) (?_)))))
            show WP (Call d) 35 P X (55, [some (vr (some 85) 2), some (vi f), some (vi t), some (vi s), some (vi (μ 1)), some (vi (GG μ f (μ (200 + f)))), some (vi h9), some (vi (GG μ f h9))], [], ((upI K 88 f h9), H), 0, 0)
            generalize hq_J0 : (upI K 88 f h9) = J0
            have e_J0 : J0 88 = (fun j => if j = f then h9 else K 88 j) := by rw [← hq_J0]; exact upI_self _ _ _ _
            have f_J0 : ∀ a, a ≠ 88 → J0 a = K a := fun a q => by rw [← hq_J0]; exact upI_cell q
            have hq_1 : CE J0 (setc q9 f h9) := ⟨⟨by rw [f_J0 85 (by omega)]; exact kv1.1.1, by rw [f_J0 85 (by omega)]; exact kv1.1.2⟩, fun j j0 j1 => by rw [e_J0]; show (if j = f then h9 else K 88 j) = (if j = f then h9 else q9.1 j); rw [kv1.2.1 j j0 j1], fun j j0 j1 => by rw [f_J0 89 (by omega)]; exact kv1.2.2 j j0 j1⟩
            have hc_2 : CEF I J0 := fun a q1 q2 q3 => by rw [f_J0 a q2]; exact kv2 a q1 q2 q3
            have hTj : TR 6 J0 μ := hT.fr (fun a q1 q2 => by rw [f_J0 a (by omega)]; exact kv2 a (by omega) (by omega) (by omega))
            have hgj : GDS J0 μ := fun f h a b c d => by rw [f_J0 86 (by omega), kv2 86 (by omega) (by omega) (by omega)]; exact hg f h a b c d
            refine WP.go 13 (Exists.intro (f + 1) (And.intro (wrp_a (by omega) (by omega)) (Exists.intro (s + (GG μ f h9)) (And.intro (wrp_a (by omega) (by omega)) (And.intro (And.intro (Nat.le_of_ble_eq_true rfl) (Nat.le_of_ble_eq_true rfl)) (And.intro rfl (?_)))))))
            show Call d 35 [vr (some 85) 2, vi (f + 1), vi (zor t (zshl 1 h9)), vi (s + (GG μ f h9))] (J0, H) _ _
            refine hA (by omega) hS hq_1 hTj hgj (by omega) hfa.1 (by omega) (fun J67 e67 f67 => ?_)
            show WP (Call d) 35 P X (68, [some (vr (some 85) 2), some (vi f), some (vi t), some (vi s), some (vi (μ 1)), some (vi (GG μ f (μ (200 + f)))), some (vi h9), some (vi (GG μ f h9))], [], (J67, H), 0, 0)
            have hq_3 : CE J67 _ := e67
            have hc_4 : CEF I J67 := hc_2.tr f67
            refine WP.go 2 (Exists.intro (h9 + 1) (And.intro (wrp_a (by omega) (by omega)) (?_)))
            show WP (Call d) 35 P X (25, [some (vr (some 85) 2), some (vi f), some (vi t), some (vi s), some (vi (μ 1)), some (vi (GG μ f (μ (200 + f)))), some (vi (h9 + 1)), some (vi (GG μ f h9))], [], (J67, H), 0, 0)
            refine WP.wk (L := [some (vr (some 85) 2), some (vi f), some (vi t), some (vi s), some (vi (μ 1)), some (vi (GG μ f (μ (200 + f)))), some (vi (h9 + 1)), none]) (And.intro rfl (And.intro rfl (And.intro rfl (And.intro rfl (And.intro rfl (And.intro rfl (And.intro rfl (And.intro trivial (trivial))))))))) ?_
            show WP (Call d) 35 P X (25, [some (vr (some 85) 2), some (vi f), some (vi t), some (vi s), some (vi (μ 1)), some (vi (GG μ f (μ (200 + f)))), some (vi (h9 + 1)), none], [], (J67, H), 0, 0)
            exact ih25 J67 (h9 + 1) _ (by omega) (by omega) hq_3 hc_4 (kv3.trans ((swJ_s (by omega)).trans (by rw [if_pos (show swo (GG μ) (GL μ) f t h9 = true from decide_eq_true ⟨by omega, by unfold GL; omega⟩)])))
  exact lp25 ((μ 1 - 0 : Int).toNat + 1) I 0 q (by omega) (by omega) hq (CEF.rf I) (by rw [show (μ 1 - 0).toNat = (μ 1).toNat by omega]; rfl)

theorem settle_SC {μ : Int → Int} (hV : IM μ) (h7 : μ 1 ≤ 7) (k : Nat) : SC (4 + k) k μ := by
  induction k with
  | zero =>
    intro d P X I H f t s q hd hS hq hT hg hf ht hs h
    exact s_2_settle_z hd hS hq hT hV h7 (by omega) h
  | succ k ih =>
    intro d P X I H f t s q hd hS hq hT hg hf ht hs h
    have a : SC (4 + k) k μ := @ih
    exact s_2_settle_s (D := 4 + k) hd a hS hq hT hV h7 hg hf ht hs (by omega) h
theorem s_2_weigh {d : Nat} {P : Option qV → qH → Prop} {X : Nat → qH → Prop} {I : qI} {H : qS} {μ : Int → Int} (hd : 6 ≤ d) {h9 : Int} (hS : Shp H) (hX : SX I) (hT : TR 6 I μ) (hV : IM μ) (hO : OPN μ (-1) 0 (I 80) (I 81)) (h79 : μ 1 ≤ 7) (hh : 0 ≤ h9 ∧ h9 < μ 1) (h : ∀ J : qI, (∀ f, 0 ≤ f → f < μ 1 → J 86 (7 * f + h9) = GG μ f h9) → (∀ j, (∀ f, 0 ≤ f → f < μ 1 → j ≠ 7 * f + h9) → J 86 j = I 86 j) → (∀ a, a ≠ 86 → a ≠ 87 → J a = I a) → P none (J, H)) :
    Call d 32 [vr (some 85) 2, vi h9] (I, H) P X := by
  obtain ⟨d, rfl⟩ : ∃ e, d = e + 1 := ⟨d - 1, by omega⟩
  have hl87 := hS.l87
  have hn1 := hV.n1
  show WP (Call d) 32 P X (0, [some (vr (some 85) 2), some (vi h9), none, none, none, none, none], [], (I, H), 0, 0)
  refine WP.go 2 ?_
  show WP (Call d) 32 P X (2, [some (vr (some 85) 2), some (vi h9), some (vi 0), none, none, none, none], [], (I, H), 0, 0)
  have lp2 : ∀ (n9 : Nat) (K : qI) (y : Int) (hm : 100 - y < (n9 : Int)) (av0 : 0 ≤ y ∧ y ≤ 100) (av1 : ∀ j, 0 ≤ j → j < y → K 87 j = LGH μ (I 80) (I 81) h9 j) (av2 : ∀ a, a ≠ 87 → K a = I a), WP (Call d) 32 P X (2, [some (vr (some 85) 2), some (vi h9), some (vi y), none, none, none, none], [], (K, H), 0, 0) := by
    intro n9
    induction n9 with
    | zero => intro K y hm av0 av1 av2; exact absurd hm (by omega)
    | succ n9 ih2 =>
      intro K y hm av0 av1 av2
      have hXk : SX K := hX.fr (av2 0 (by omega)) (av2 1 (by omega))
      have hTk : TR 6 K μ := hT.fr (fun a q1 q2 => av2 a (by omega))
      have hAk : AB (K 80) (K 81) := by rw [av2 80 (by omega), av2 81 (by omega)]; exact hO.ab hV
      refine WP.go 5 (And.intro rfl (Exists.intro 87 (And.intro hS.r85_3 (And.intro (Or.inl rfl) (And.intro (fun (b6 : ¬ y < H.2.1 87) => ?_) (fun (b6 : y < H.2.1 87) => ?_))))))
      ·
        show WP (Call d) 32 P X (18, [some (vr (some 85) 2), some (vi h9), some (vi y), none, none, none, none], [], (K, H), 0, 0)
        refine WP.go 2 ?_
        show WP (Call d) 32 P X (20, [some (vr (some 85) 2), some (vi h9), some (vi 0), none, none, none, none], [], (K, H), 0, 0)
        have lp20 : ∀ (n9 : Nat) (L : qI) (f9 : Int) (hm : μ 1 - f9 < (n9 : Int)) (bv0 : 0 ≤ f9 ∧ f9 ≤ μ 1) (bv1 : ∀ f, 0 ≤ f → f < f9 → L 86 (7 * f + h9) = GG μ f h9) (bv2 : ∀ j, (∀ f, 0 ≤ f → f < μ 1 → j ≠ 7 * f + h9) → L 86 j = I 86 j) (bv3 : ∀ a, a ≠ 86 → L a = K a), WP (Call d) 32 P X (20, [some (vr (some 85) 2), some (vi h9), some (vi f9), none, none, none, none], [], (L, H), 0, 0) := by
          intro n9
          induction n9 with
          | zero => intro L f9 hm bv0 bv1 bv2 bv3; exact absurd hm (by omega)
          | succ n9 ih20 =>
            intro L f9 hm bv0 bv1 bv2 bv3
            have hTl : TR 6 L μ := hT.fr (fun a q1 q2 => (bv3 a (by omega)).trans (av2 a (by omega)))
            refine WP.go 5 (And.intro rfl (Exists.intro 6 (And.intro hS.r85_0 (And.intro rfl (Exists.intro 11 (And.intro hS.r6_2 (And.intro (And.intro (Nat.le_of_ble_eq_true rfl) (Nat.le_of_ble_eq_true rfl)) (And.intro rfl (?_)))))))))
            show Call d 55 [vr (some 11) 4] (L, H) _ _
            refine s_size_families (by omega) hTl ?_
            show WP (Call d) 32 P X (25, [some (vr (some 85) 2), some (vi h9), some (vi f9), none, none, none, none], [vi (μ 1), vi f9], (L, H), 0, 0)
            refine WP.go 1 (And.intro (fun (b25 : ¬ f9 < μ 1) => ?_) (fun (b25 : f9 < μ 1) => ?_))
            ·
              show WP (Call d) 32 P X (73, [some (vr (some 85) 2), some (vi h9), some (vi f9), none, none, none, none], [], (L, H), 0, 0)
              refine WP.go 1 (And.intro (And.intro (Nat.le_of_ble_eq_true rfl) (Nat.le_of_ble_eq_true rfl)) (?_))
              show P none (L, H)
              exact h _ (fun f q0 q1 => bv1 f q0 (by omega)) bv2 (fun a q1 q2 => (bv3 a q1).trans (av2 a q2))
            ·
              show WP (Call d) 32 P X (26, [some (vr (some 85) 2), some (vi h9), some (vi f9), none, none, none, none], [], (L, H), 0, 0)
              refine WP.go 3 (And.intro (fun (b28 : ¬ f9 < 7) => (absurd b28 (by omega))) (fun (b28 : f9 < 7) => ?_))
              show WP (Call d) 32 P X (29, [some (vr (some 85) 2), some (vi h9), some (vi f9), none, none, none, none], [], (L, H), 0, 0)
              have v1 := hV.wa f9 bv0.1 (by omega)
              have hmx : mx 0 (μ (210 + 2 * f9)) = μ (210 + 2 * f9) := by have := mx_b 0 (μ (210 + 2 * f9)); omega
              refine WP.go 7 (And.intro rfl (Exists.intro 6 (And.intro hS.r85_0 (And.intro rfl (Exists.intro 11 (And.intro hS.r6_2 (And.intro (And.intro (Nat.le_of_ble_eq_true rfl) (Nat.le_of_ble_eq_true rfl)) (And.intro rfl (?_)))))))))
              show Call d 58 [vr (some 11) 4, vi f9, vi 0] (L, H) _ _
              refine s_get_families0 (by omega) hS (.inl rfl) hTl hV (by omega) ?_
              show WP (Call d) 32 P X (36, [some (vr (some 85) 2), some (vi h9), some (vi f9), none, none, none, none], [vi (μ (210 + 2 * f9)), vi 0], (L, H), 0, 0)
              refine WP.go 1 (And.intro (And.intro (Nat.le_of_ble_eq_true rfl) (Nat.le_of_ble_eq_true rfl)) (?_))
              show WP (Call d) 32 P X (37, [some (vr (some 85) 2), some (vi h9), some (vi f9), none, none, none, none], [vi (mx 0 (μ (210 + 2 * f9)))], (L, H), 0, 0)
              refine rw_i (Q := fun x9 => WP (Call d) 32 P X (37, [some (vr (some 85) 2), some (vi h9), some (vi f9), none, none, none, none], [vi x9], (L, H), 0, 0)) (hmx) ?_
              show WP (Call d) 32 P X (37, [some (vr (some 85) 2), some (vi h9), some (vi f9), none, none, none, none], [vi (μ (210 + 2 * f9))], (L, H), 0, 0)
              refine WP.go 7 (And.intro rfl (Exists.intro 6 (And.intro hS.r85_0 (And.intro rfl (Exists.intro 11 (And.intro hS.r6_2 (And.intro (And.intro (Nat.le_of_ble_eq_true rfl) (Nat.le_of_ble_eq_true rfl)) (And.intro rfl (?_)))))))))
              show Call d 58 [vr (some 11) 4, vi f9, vi 1] (L, H) _ _
              refine s_get_families1 (by omega) hS (.inl rfl) hTl hV (by omega) ?_
              show WP (Call d) 32 P X (44, [some (vr (some 85) 2), some (vi h9), some (vi f9), some (vi (μ (210 + 2 * f9))), none, none, none], [vi (μ (211 + 2 * f9))], (L, H), 0, 0)
              refine WP.go 5 ?_
              show WP (Call d) 32 P X (49, [some (vr (some 85) 2), some (vi h9), some (vi f9), some (vi (μ (210 + 2 * f9))), some (vi (μ (211 + 2 * f9))), some (vi 0), some (vi (μ (210 + 2 * f9)))], [], (L, H), 0, 0)
              have lp49 : ∀ (n9 : Nat) (s9 : Int) (y9 : Int) (hm : μ (211 + 2 * f9) + 1 - y9 < (n9 : Int)) (iv0 : μ (210 + 2 * f9) ≤ y9 ∧ y9 ≤ μ (211 + 2 * f9) + 1) (iv1 : s9 = sI (fun y => LGH μ (I 80) (I 81) h9 y) (μ (210 + 2 * f9)) y9), WP (Call d) 32 P X (49, [some (vr (some 85) 2), some (vi h9), some (vi f9), some (vi (μ (210 + 2 * f9))), some (vi (μ (211 + 2 * f9))), some (vi s9), some (vi y9)], [], (L, H), 0, 0) := by
                intro n9
                induction n9 with
                | zero => intro s9 y9 hm iv0 iv1; exact absurd hm (by omega)
                | succ n9 ih49 =>
                  intro s9 y9 hm iv0 iv1
                  have m1 := sI_bd (f := (fun y => LGH μ (I 80) (I 81) h9 y)) 0 260 iv0.1 (fun i _ _ => LGH_bd hV _ _ _ _)
                  have m2 := LGH_bd hV (I 80) (I 81) h9 y9
                  refine WP.go 3 (And.intro (fun (b51 : μ (211 + 2 * f9) < y9) => ?_) (fun (b51 : ¬ μ (211 + 2 * f9) < y9) => ?_))
                  ·
                    show WP (Call d) 32 P X (66, [some (vr (some 85) 2), some (vi h9), some (vi f9), some (vi (μ (210 + 2 * f9))), some (vi (μ (211 + 2 * f9))), some (vi s9), some (vi y9)], [], (L, H), 0, 0)
                    refine WP.go 5 (And.intro (And.intro (Nat.le_of_ble_eq_true rfl) (Nat.le_of_ble_eq_true rfl)) (And.intro rfl (?_)))
                    show Call d 33 [vr (some 85) 2, vi f9, vi h9, vi s9] (L, H) _ _
                    refine s_2_setGood (by omega) hS (by omega) (by omega) (fun J70 e70 f70 => ?_)
                    show WP (Call d) 32 P X (71, [some (vr (some 85) 2), some (vi h9), some (vi f9), some (vi (μ (210 + 2 * f9))), some (vi (μ (211 + 2 * f9))), some (vi s9), some (vi y9)], [], (J70, H), 0, 0)
                    refine WP.go 2 (Exists.intro (f9 + 1) (And.intro (wrp_a (by omega) (by omega)) (?_)))
                    show WP (Call d) 32 P X (20, [some (vr (some 85) 2), some (vi h9), some (vi (f9 + 1)), some (vi (μ (210 + 2 * f9))), some (vi (μ (211 + 2 * f9))), some (vi s9), some (vi y9)], [], (J70, H), 0, 0)
                    refine WP.wk (L := [some (vr (some 85) 2), some (vi h9), some (vi (f9 + 1)), none, none, none, none]) (And.intro rfl (And.intro rfl (And.intro rfl (And.intro trivial (And.intro trivial (And.intro trivial (And.intro trivial (trivial)))))))) ?_
                    show WP (Call d) 32 P X (20, [some (vr (some 85) 2), some (vi h9), some (vi (f9 + 1)), none, none, none, none], [], (J70, H), 0, 0)
                    exact ih20 J70 (f9 + 1) (by omega) (by omega) (fun f q0 q1 => by rw [e70]; show (if 7 * f + h9 = 7 * f9 + h9 then s9 else L 86 (7 * f + h9)) = _; by_cases z : f = f9; rw [z, if_pos rfl, iv1, show y9 = μ (211 + 2 * f9) + 1 by omega, BRT_e (by omega)]; exact BRT_congr (by omega) (by omega) hO.a hO.t; rw [if_neg (by omega)]; exact bv1 f q0 (by omega)) (fun j q => by rw [e70]; exact (if_neg (q f9 bv0.1 (by omega))).trans (bv2 j q)) (fun a q => (f70 a q).trans (bv3 a q))
                  ·
                    show WP (Call d) 32 P X (52, [some (vr (some 85) 2), some (vi h9), some (vi f9), some (vi (μ (210 + 2 * f9))), some (vi (μ (211 + 2 * f9))), some (vi s9), some (vi y9)], [], (L, H), 0, 0)
                    refine WP.go 5 (And.intro rfl (Exists.intro 87 (And.intro hS.r85_3 (And.intro (Or.inl rfl) (And.intro (fun (b56 : ¬ y9 < H.2.1 87) => (absurd b56 (by omega))) (fun (b56 : y9 < H.2.1 87) => ?_))))))
                    show WP (Call d) 32 P X (57, [some (vr (some 85) 2), some (vi h9), some (vi f9), some (vi (μ (210 + 2 * f9))), some (vi (μ (211 + 2 * f9))), some (vi s9), some (vi y9)], [], (L, H), 0, 0)
                    refine WP.go 5 (And.intro rfl (Exists.intro 87 (And.intro hS.r85_3 (And.intro (And.intro rfl (And.intro (show 0 ≤ y9 from by omega) (show y9 < H.2.1 87 from by omega))) (?_)))))
                    refine rw_i (Q := fun x9 => WP (Call d) 32 P X (62, [some (vr (some 85) 2), some (vi h9), some (vi f9), some (vi (μ (210 + 2 * f9))), some (vi (μ (211 + 2 * f9))), some (vi s9), some (vi y9)], [vi x9, vi s9], (L, H), 0, 0)) (show L 87 y9 = LGH μ (I 80) (I 81) h9 y9 from (by rw [bv3 87 (by omega)]; exact av1 y9 (by omega) (by omega))) ?_
                    show WP (Call d) 32 P X (62, [some (vr (some 85) 2), some (vi h9), some (vi f9), some (vi (μ (210 + 2 * f9))), some (vi (μ (211 + 2 * f9))), some (vi s9), some (vi y9)], [vi (LGH μ (I 80) (I 81) h9 y9), vi s9], (L, H), 0, 0)
                    refine WP.go 4 (Exists.intro (s9 + (LGH μ (I 80) (I 81) h9 y9)) (And.intro (wrp_a (by omega) (by omega)) (Exists.intro (y9 + 1) (And.intro (wrp_a (by omega) (by omega)) (?_)))))
                    show WP (Call d) 32 P X (49, [some (vr (some 85) 2), some (vi h9), some (vi f9), some (vi (μ (210 + 2 * f9))), some (vi (μ (211 + 2 * f9))), some (vi (s9 + (LGH μ (I 80) (I 81) h9 y9))), some (vi (y9 + 1))], [], (L, H), 0, 0)
                    exact ih49 (s9 + (LGH μ (I 80) (I 81) h9 y9)) (y9 + 1) (by omega) (by omega) (by rw [sI_succ (by omega), ← iv1])
              exact lp49 ((μ (211 + 2 * f9) + 1 - (μ (210 + 2 * f9)) : Int).toNat + 1) 0 (μ (210 + 2 * f9)) (by omega) (by omega) (sI_nil (by omega)).symm
        exact lp20 ((μ 1 - 0 : Int).toNat + 1) K 0 (by omega) (by omega) (fun f q1 q2 => by omega) (fun j q => by rw [av2 86 (by omega)]) (fun _ _ => rfl)
      ·
        show WP (Call d) 32 P X (7, [some (vr (some 85) 2), some (vi h9), some (vi y), none, none, none, none], [], (K, H), 0, 0)
        refine WP.go 8 (And.intro rfl (Exists.intro 87 (And.intro hS.r85_3 (And.intro rfl (Exists.intro 79 (And.intro hS.r85_1 (And.intro (And.intro (Nat.le_of_ble_eq_true rfl) (Nat.le_of_ble_eq_true rfl)) (And.intro rfl (?_)))))))))
        show Call d 11 [vr (some 79) 0, vi h9, vi y] (K, H) _ _
        refine s_0_lightOfHouse (by omega) hS hXk hTk hV hAk (by omega) ?_
        show WP (Call d) 32 P X (15, [some (vr (some 85) 2), some (vi h9), some (vi y), none, none, none, none], [vi (LGH μ (K 80) (K 81) h9 y), vi y, vr (some 87) 11], (K, H), 0, 0)
        refine WP.go 3 (And.intro (And.intro rfl (And.intro (show 0 ≤ y from by omega) (show y < H.2.1 87 from by omega))) (Exists.intro (y + 1) (And.intro (wrp_a (by omega) (by omega)) (?_))))
        show WP (Call d) 32 P X (2, [some (vr (some 85) 2), some (vi h9), some (vi (y + 1)), none, none, none, none], [], ((upI K 87 y (LGH μ (K 80) (K 81) h9 y)), H), 0, 0)
        exact ih2 (upI K 87 y (LGH μ (K 80) (K 81) h9 y)) (y + 1) (by omega) (by omega) (cp_s (upI_self _ _ _ _) av1 (by rw [av2 80 (by omega), av2 81 (by omega)])) (fun a q => (upI_cell q).trans (av2 a q))
  exact lp2 ((100 - 0 : Int).toNat + 1) I 0 (by omega) (by omega) (fun j q1 q2 => by omega) (fun _ _ => rfl)

/-- the class's swaps, from what the exchange held -/
noncomputable def CW7 (μ : Int → Int) (c e : Int → Int) : SQ := sw kpC (GG μ) (GL μ) (μ 1) (μ 1).toNat 0 0 0 (c, 0, -1, e)
theorem s_2_search {d : Nat} {P : Option qV → qH → Prop} {X : Nat → qH → Prop} {I : qI} {H : qS} {μ : Int → Int} (hd : 12 ≤ d) (hS : Shp H) (hX : SX I) (hT : TR 6 I μ) (hV : IM μ) (h79 : μ 1 ≤ 7) (h : ∀ (J : qI) (c e : Int → Int), CE J (CW7 μ c e) → CF I J → P none (J, H)) :
    Call d 28 [vr (some 85) 2] (I, H) P X := by
  obtain ⟨d, rfl⟩ : ∃ e, d = e + 1 := ⟨d - 1, by omega⟩
  have hn1 := hV.n1
  show WP (Call d) 28 P X (0, [some (vr (some 85) 2), none], [], (I, H), 0, 0)
  refine WP.go 3 (And.intro rfl (Exists.intro 79 (And.intro hS.r85_1 (And.intro (And.intro (Nat.le_of_ble_eq_true rfl) (Nat.le_of_ble_eq_true rfl)) (And.intro rfl (?_))))))
  show Call d 1 [vr (some 79) 0] (I, H) _ _
  refine s_0_open (by omega) hS hX hT hV (fun J2 e2 f2 => ?_)
  show WP (Call d) 28 P X (3, [some (vr (some 85) 2), none], [], (J2, H), 0, 0)
  have hX_1 : SX J2 := SX.fr hX (f2 0 (by omega) (by omega)) (f2 1 (by omega) (by omega))
  have hT_2 : TR 6 J2 μ := hT.fr (fun a q1 q2 => f2 a (by omega) (by omega))
  have hA_3 : AB (J2 80) (J2 81) := e2.ab hV
  refine WP.go 2 ?_
  show WP (Call d) 28 P X (5, [some (vr (some 85) 2), some (vi 0)], [], (J2, H), 0, 0)
  have lp5 : ∀ (n9 : Nat) (K : qI) (h9 : Int) (hm : μ 1 - h9 < (n9 : Int)) (iv0 : 0 ≤ h9 ∧ h9 ≤ μ 1) (iv1 : ∀ f h, 0 ≤ f → f < μ 1 → 0 ≤ h → h < h9 → K 86 (7 * f + h) = GG μ f h) (iv2 : ∀ a, a ≠ 86 → a ≠ 87 → K a = J2 a), WP (Call d) 28 P X (5, [some (vr (some 85) 2), some (vi h9)], [], (K, H), 0, 0) := by
    intro n9
    induction n9 with
    | zero => intro K h9 hm iv0 iv1 iv2; exact absurd hm (by omega)
    | succ n9 ih5 =>
      intro K h9 hm iv0 iv1 iv2
      have hcf : CF I J2 := CF.op f2
      have hXk : SX K := hX.fr ((iv2 0 (by omega) (by omega)).trans (hcf 0 (by omega))) ((iv2 1 (by omega) (by omega)).trans (hcf 1 (by omega)))
      have hTk : TR 6 K μ := hT.fr (fun a q1 q2 => (iv2 a (by omega) (by omega)).trans (hcf a (by omega)))
      have hOk : OPN μ (-1) 0 (K 80) (K 81) := by rw [iv2 80 (by omega) (by omega), iv2 81 (by omega) (by omega)]; exact e2
      refine WP.go 5 (And.intro rfl (Exists.intro 6 (And.intro hS.r85_0 (And.intro rfl (Exists.intro 7 (And.intro hS.r6_0 (And.intro (And.intro (Nat.le_of_ble_eq_true rfl) (Nat.le_of_ble_eq_true rfl)) (And.intro rfl (?_)))))))))
      show Call d 55 [vr (some 7) 4] (K, H) _ _
      refine s_size_houses (by omega) hTk ?_
      show WP (Call d) 28 P X (10, [some (vr (some 85) 2), some (vi h9)], [vi (μ 1), vi h9], (K, H), 0, 0)
      refine WP.go 1 (And.intro (fun (b10 : ¬ h9 < μ 1) => ?_) (fun (b10 : h9 < μ 1) => ?_))
      ·
        show WP (Call d) 28 P X (19, [some (vr (some 85) 2), some (vi h9)], [], (K, H), 0, 0)
        refine WP.go 7 (And.intro (And.intro rfl trivial) (And.intro (And.intro rfl trivial) (?_)))
        show WP (Call d) 28 P X (26, [some (vr (some 85) 2), some (vi h9)], [vr (some 85) 2], ((upI (upI K 85 6 0) 85 7 (-1)), H), 0, 0)
        generalize hq_J0 : (upI (upI K 85 6 0) 85 7 (-1)) = J0
        have e_J0 : J0 85 = (fun j => if j = 7 then (-1) else (upI K 85 6 0) 85 j) := by rw [← hq_J0]; exact upI_self _ _ _ _
        have f_J0 : ∀ a, a ≠ 85 → J0 a = (upI K 85 6 0) a := fun a q => by rw [← hq_J0]; exact upI_cell q
        have hq0 : CE J0 ((K 88), 0, -1, (K 89)) := ⟨⟨by rw [e_J0]; rfl, by rw [e_J0]; rfl⟩, fun j _ _ => by rw [f_J0 88 (by omega), upI_cell (by omega)], fun j _ _ => by rw [f_J0 89 (by omega), upI_cell (by omega)]⟩
        have hT0 : TR 6 J0 μ := hTk.fr (fun a q1 q2 => by rw [f_J0 a (by omega), upI_cell (by omega)])
        have hg0 : GDS J0 μ := fun f h a b c d => by rw [f_J0 86 (by omega), upI_cell (by omega)]; exact iv1 f h a b c (by omega)
        refine WP.go 4 (And.intro (And.intro (Nat.le_of_ble_eq_true rfl) (Nat.le_of_ble_eq_true rfl)) (And.intro rfl (?_)))
        show Call d 35 [vr (some 85) 2, vi 0, vi 0, vi 0] (J0, H) _ _
        refine (settle_SC hV h79 (μ 1).toNat) (by omega) hS hq0 hT0 hg0 (by omega) (by omega) (by omega) (fun J29 e29 f29 => ?_)
        show WP (Call d) 28 P X (30, [some (vr (some 85) 2), some (vi h9)], [], (J29, H), 0, 0)
        refine WP.go 1 (And.intro (And.intro (Nat.le_of_ble_eq_true rfl) (Nat.le_of_ble_eq_true rfl)) (?_))
        show P none (J29, H)
        exact h J29 (K 88) (K 89) e29 (fun a q => by rw [f29 a (by omega) (by omega) (by omega), f_J0 a (by omega), upI_cell (by omega), iv2 a (by omega) (by omega)]; exact hcf a q)
      ·
        show WP (Call d) 28 P X (11, [some (vr (some 85) 2), some (vi h9)], [], (K, H), 0, 0)
        refine WP.go 3 (And.intro (fun (b13 : ¬ h9 < 7) => (absurd b13 (by omega))) (fun (b13 : h9 < 7) => ?_))
        show WP (Call d) 28 P X (14, [some (vr (some 85) 2), some (vi h9)], [], (K, H), 0, 0)
        refine WP.go 3 (And.intro (And.intro (Nat.le_of_ble_eq_true rfl) (Nat.le_of_ble_eq_true rfl)) (And.intro rfl (?_)))
        show Call d 32 [vr (some 85) 2, vi h9] (K, H) _ _
        refine s_2_weigh (by omega) hS hXk hTk hV hOk h79 (by omega) (fun J16 e16 f16 g16 => ?_)
        show WP (Call d) 28 P X (17, [some (vr (some 85) 2), some (vi h9)], [], (J16, H), 0, 0)
        refine WP.go 2 (Exists.intro (h9 + 1) (And.intro (wrp_a (by omega) (by omega)) (?_)))
        show WP (Call d) 28 P X (5, [some (vr (some 85) 2), some (vi (h9 + 1))], [], (J16, H), 0, 0)
        exact ih5 J16 (h9 + 1) (by omega) (by omega) (fun f h a b q0 q1 => by by_cases z : h = h9; rw [z]; exact e16 f a b; rw [f16 _ (fun f2 a2 b2 => by omega)]; exact iv1 f h a b q0 (by omega)) (fun a q1 q2 => (g16 a q1 q2).trans (iv2 a q1 q2))
  exact lp5 ((μ 1 - 0 : Int).toNat + 1) J2 0 (by omega) (by omega) (fun f h _ _ q1 q2 => by omega) (fun _ _ _ => rfl)

