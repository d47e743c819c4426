/-- the reference's way at hand, how many, the most, the best way -/
def RE (μ : Int → Int) (I : qI) (q : SQ) : Prop := (I 90 27 = q.2.1 ∧ I 90 28 = q.2.2.1) ∧ (∀ j, 0 ≤ j → j < μ 1 → I 97 j = q.1 j) ∧ (∀ j, 0 ≤ j → j < μ 1 → I 98 j = q.2.2.2 j)
def REF (I J : qI) : Prop := (∀ a, a ≠ 90 → a ≠ 97 → a ≠ 98 → J a = I a) ∧ (∀ s, s ≠ 27 → s ≠ 28 → J 90 s = I 90 s)
theorem REF.rf (I : qI) : REF I I := ⟨fun _ _ _ _ => rfl, fun _ _ _ => rfl⟩
theorem REF.tr {I J K : qI} (h : REF I J) (g : REF J K) : REF I K := ⟨fun a b c d => (g.1 a b c d).trans (h.1 a b c d), fun s a b => (g.2 s a b).trans (h.2 s a b)⟩
def GDM (I : qI) (μ : Int → Int) : Prop := ∀ f h, 0 ≤ f → f < μ 1 → 0 ≤ h → h < μ 1 → I 99 (10 * f + h) = GG μ f h
def RSC (D k : Nat) (μ : Int → Int) : Prop := ∀ {d : Nat} {P : Option qV → qH → Prop} {X : Nat → qH → Prop} {I : qI} {H : qS} {f t s : Int} {q : SQ}, D ≤ d → Shp H → I 91 = μ → RE μ I q → GDM I μ → 0 ≤ f ∧ f + (k : Int) = μ 1 → 0 ≤ t ∧ t < 128 → 0 ≤ s ∧ s ≤ 26000 * f →
  (∀ J : qI, RE μ J (sw kpR (GG μ) (GL μ) (μ 1) k f t s q) → REF I J → P none (J, H)) → Call d 256 [vr (some 90) 10, vi f, vi t, vi s] (I, H) P X
theorem s_12_liveOn_z {d : Nat} {P : Option qV → qH → Prop} {X : Nat → qH → Prop} {I : qI} {H : qS} {μ : Int → Int} (hd : 1 ≤ d) {f t s : Int} {q : SQ} (hS : Shp H) (hM : I 91 = μ) (hV : IM μ) (h79 : μ 1 ≤ 7) (hq : RE μ I q) (hf : f = μ 1) (h : ∀ J : qI, RE μ J (kpR s q) → REF I J → P none (J, H)) :
    Call d 256 [vr (some 90) 10, vi f, vi t, vi s] (I, H) P X := by
  obtain ⟨d, rfl⟩ : ∃ e, d = e + 1 := ⟨d - 1, by omega⟩
  have hl91 := hS.l91
  have hl97 := hS.l97
  have hl98 := hS.l98
  have hn1 := hV.n1
  show WP (Call d) 256 P X (0, [some (vr (some 90) 10), some (vi f), some (vi t), some (vi s), none], [], (I, H), 0, 0)
  refine WP.go 5 (And.intro rfl (Exists.intro 91 (And.intro hS.r90_1 (And.intro (And.intro rfl (And.intro (show 0 ≤ 1 from by omega) (show 1 < H.2.1 91 from by omega))) (?_)))))
  refine rw_i (Q := fun x9 => WP (Call d) 256 P X (5, [some (vr (some 90) 10), some (vi f), some (vi t), some (vi s), none], [vi x9, vi f], (I, H), 0, 0)) (congrFun hM _) ?_
  show WP (Call d) 256 P X (5, [some (vr (some 90) 10), some (vi f), some (vi t), some (vi s), none], [vi (μ 1), vi f], (I, H), 0, 0)
  refine WP.go 1 (And.intro (fun (b5 : ¬ f = μ 1) => (absurd b5 (by omega))) (fun (b5 : f = μ 1) => ?_))
  show WP (Call d) 256 P X (6, [some (vr (some 90) 10), some (vi f), some (vi t), some (vi s), none], [], (I, H), 0, 0)
  refine WP.go 6 (And.intro rfl (Exists.intro (wrp ((I 90 27) + 1)) (And.intro rfl (And.intro (And.intro rfl trivial) (?_)))))
  show WP (Call d) 256 P X (12, [some (vr (some 90) 10), some (vi f), some (vi t), some (vi s), none], [], ((upI I 90 27 (wrp ((I 90 27) + 1))), H), 0, 0)
  generalize hq_V0 : (upI I 90 27 (wrp ((I 90 27) + 1))) = V0
  have e_V0 : V0 90 = (fun j => if j = 27 then (wrp ((I 90 27) + 1)) else I 90 j) := by rw [← hq_V0]; exact upI_self _ _ _ _
  have f_V0 : ∀ a, a ≠ 90 → V0 a = I a := fun a q => by rw [← hq_V0]; exact upI_cell q
  have h27 : V0 90 27 = wrp (q.2.1 + 1) := by rw [e_V0]; show wrp (I 90 27 + 1) = _; rw [hq.1.1]
  have h28 : V0 90 28 = q.2.2.1 := by rw [e_V0]; exact hq.1.2
  refine WP.go 3 (And.intro rfl (?_))
  show WP (Call d) 256 P X (15, [some (vr (some 90) 10), some (vi f), some (vi t), some (vi s), none], [vi 1, vi (V0 90 27)], (V0, H), 0, 0)
  have ih21 : ∀  (jq : ¬ (1 < wrp (q.2.1 + 1) ∧ s ≤ q.2.2.1)), WP (Call d) 256 P X (21, [some (vr (some 90) 10), some (vi f), some (vi t), some (vi s), none], [], (V0, H), 0, 0) := by
    intro jq
    refine WP.go 3 (And.intro (And.intro rfl trivial) (?_))
    show WP (Call d) 256 P X (24, [some (vr (some 90) 10), some (vi f), some (vi t), some (vi s), none], [], ((upI V0 90 28 s), H), 0, 0)
    generalize hq_V1 : (upI V0 90 28 s) = V1
    have e_V1 : V1 90 = (fun j => if j = 28 then s else V0 90 j) := by rw [← hq_V1]; exact upI_self _ _ _ _
    have f_V1 : ∀ a, a ≠ 90 → V1 a = V0 a := fun a q => by rw [← hq_V1]; exact upI_cell q
    refine WP.go 2 ?_
    show WP (Call d) 256 P X (26, [some (vr (some 90) 10), some (vi f), some (vi t), some (vi s), some (vi 0)], [], (V1, H), 0, 0)
    have lp26 : ∀ (n9 : Nat) (K : qI) (i : Int) (hm : f - i < (n9 : Int)) (iv0 : 0 ≤ i ∧ i ≤ f) (iv1 : ∀ j, 0 ≤ j → j < i → K 98 j = q.1 j) (iv2 : ∀ a, a ≠ 98 → K a = V1 a), WP (Call d) 256 P X (26, [some (vr (some 90) 10), some (vi f), some (vi t), some (vi s), some (vi i)], [], (K, H), 0, 0) := by
      intro n9
      induction n9 with
      | zero => intro K i hm iv0 iv1 iv2; exact absurd hm (by omega)
      | succ n9 ih26 =>
        intro K i hm iv0 iv1 iv2
        refine WP.go 3 (And.intro (fun (b28 : ¬ i < f) => ?_) (fun (b28 : i < f) => ?_))
        ·
          show WP (Call d) 256 P X (39, [some (vr (some 90) 10), some (vi f), some (vi t), some (vi s), some (vi i)], [], (K, H), 0, 0)
          refine WP.go 1 (And.intro (And.intro (Nat.le_of_ble_eq_true rfl) (Nat.le_of_ble_eq_true rfl)) (?_))
          show P none (K, H)
          refine h _ ⟨⟨?_, ?_⟩, fun j j0 j1 => ?_, fun j j0 j1 => ?_⟩ ⟨fun a q1 q2 q3 => by rw [iv2 a q3, f_V1 a q1, f_V0 a q1], fun s q1 q2 => by rw [iv2 90 (by omega), e_V1]; exact (if_neg q2).trans (by rw [e_V0]; exact if_neg q1)⟩
          · rw [iv2 90 (by omega), e_V1]; exact h27
          · rw [iv2 90 (by omega), e_V1]; show s = (if 1 < wrp (q.2.1 + 1) ∧ s ≤ q.2.2.1 then q.2.2.1 else s); rw [if_neg jq]
          · rw [iv2 97 (by omega), f_V1 97 (by omega), f_V0 97 (by omega)]; exact hq.2.1 j j0 j1
          · show K 98 j = (if 1 < wrp (q.2.1 + 1) ∧ s ≤ q.2.2.1 then q.2.2.2 else q.1) j; rw [if_neg jq]; exact iv1 j j0 (by omega)
        ·
          show WP (Call d) 256 P X (29, [some (vr (some 90) 10), some (vi f), some (vi t), some (vi s), some (vi i)], [], (K, H), 0, 0)
          refine WP.go 10 (And.intro rfl (Exists.intro 98 (And.intro hS.r90_26 (And.intro rfl (Exists.intro 97 (And.intro hS.r90_25 (And.intro (And.intro rfl (And.intro (show 0 ≤ i from by omega) (show i < H.2.1 97 from by omega))) (And.intro (And.intro rfl (And.intro (show 0 ≤ i from by omega) (show i < H.2.1 98 from by omega))) (Exists.intro (i + 1) (And.intro (wrp_a (by omega) (by omega)) (?_)))))))))))
          show WP (Call d) 256 P X (26, [some (vr (some 90) 10), some (vi f), some (vi t), some (vi s), some (vi (i + 1))], [], ((upI K 98 i (K 97 i)), H), 0, 0)
          exact ih26 (upI K 98 i (K 97 i)) (i + 1) (by omega) (by omega) (cp_s (upI_self _ _ _ _) iv1 (by rw [iv2 97 (by omega), f_V1 97 (by omega), f_V0 97 (by omega)]; exact hq.2.1 i (by omega) (by omega))) (fun a q => (upI_cell q).trans (iv2 a q))
    exact lp26 ((f - 0 : Int).toNat + 1) V1 0 (by omega) (by omega) (fun j q1 q2 => by omega) (fun _ _ => rfl)
  refine WP.go 1 (And.intro (fun (b15 : ¬ 1 < V0 90 27) => ?_) (fun (b15 : 1 < V0 90 27) => ?_))
  ·
    show WP (Call d) 256 P X (21, [some (vr (some 90) 10), some (vi f), some (vi t), some (vi s), none], [], (V0, H), 0, 0)
    exact ih21  (fun z => by omega)
  ·
    show WP (Call d) 256 P X (16, [some (vr (some 90) 10), some (vi f), some (vi t), some (vi s), none], [], (V0, H), 0, 0)
    refine WP.go 4 (And.intro rfl (And.intro (fun (b19 : V0 90 28 < s) => ?_) (fun (b19 : ¬ V0 90 28 < s) => ?_)))
    ·
      show WP (Call d) 256 P X (21, [some (vr (some 90) 10), some (vi f), some (vi t), some (vi s), none], [], (V0, H), 0, 0)
      exact ih21  (fun z => by omega)
    ·
      show WP (Call d) 256 P X (20, [some (vr (some 90) 10), some (vi f), some (vi t), some (vi s), none], [], (V0, H), 0, 0)
      refine WP.go 1 (And.intro (And.intro (Nat.le_of_ble_eq_true rfl) (Nat.le_of_ble_eq_true rfl)) (?_))
      show P none (V0, H)
      refine h _ ⟨⟨?_, ?_⟩, fun j j0 j1 => ?_, fun j j0 j1 => ?_⟩ ⟨fun a q1 q2 q3 => f_V0 a q1, fun s q1 q2 => by rw [e_V0]; exact if_neg q1⟩
      · exact h27
      · show V0 90 28 = (if 1 < wrp (q.2.1 + 1) ∧ s ≤ q.2.2.1 then q.2.2.1 else s); rw [if_pos (by omega)]; exact h28
      · rw [f_V0 97 (by omega)]; exact hq.2.1 j j0 j1
      · show V0 98 j = (if 1 < wrp (q.2.1 + 1) ∧ s ≤ q.2.2.1 then q.2.2.2 else q.1) j; rw [if_pos (by omega), f_V0 98 (by omega)]; exact hq.2.2 j j0 j1

theorem s_12_liveOn_s {d : Nat} {P : Option qV → qH → Prop} {X : Nat → qH → Prop} {I : qI} {H : qS} {μ : Int → Int} {D k : Nat} {f t s : Int} {q : SQ} (hd : D + 1 ≤ d) (hA : RSC D k μ) (hS : Shp H) (hM : I 91 = μ) (hV : IM μ) (h79 : μ 1 ≤ 7) (hq : RE μ I q) (hg : GDM I μ) (hf : 0 ≤ f ∧ f + ((k + 1 : Nat) : Int) = μ 1) (ht : 0 ≤ t ∧ t < 128) (hs : 0 ≤ s ∧ s ≤ 26000 * f) (h : ∀ J : qI, RE μ J (sw kpR (GG μ) (GL μ) (μ 1) (k + 1) f t s q) → REF I J → P none (J, H)) :
    Call d 256 [vr (some 90) 10, vi f, vi t, vi s] (I, H) P X := by
  obtain ⟨d, rfl⟩ : ∃ e, d = e + 1 := ⟨d - 1, by omega⟩
  have hl91 := hS.l91
  have hl99 := hS.l99
  have hl97 := hS.l97
  have hn1 := hV.n1
  have hli := hV.li f hf.1 (by omega)
  show WP (Call d) 256 P X (0, [some (vr (some 90) 10), some (vi f), some (vi t), some (vi s), none], [], (I, H), 0, 0)
  refine WP.go 5 (And.intro rfl (Exists.intro 91 (And.intro hS.r90_1 (And.intro (And.intro rfl (And.intro (show 0 ≤ 1 from by omega) (show 1 < H.2.1 91 from by omega))) (?_)))))
  refine rw_i (Q := fun x9 => WP (Call d) 256 P X (5, [some (vr (some 90) 10), some (vi f), some (vi t), some (vi s), none], [vi x9, vi f], (I, H), 0, 0)) (congrFun hM _) ?_
  show WP (Call d) 256 P X (5, [some (vr (some 90) 10), some (vi f), some (vi t), some (vi s), none], [vi (μ 1), vi f], (I, H), 0, 0)
  refine WP.go 1 (And.intro (fun (b5 : ¬ f = μ 1) => ?_) (fun (b5 : f = μ 1) => (absurd b5 (by omega))))
  show WP (Call d) 256 P X (40, [some (vr (some 90) 10), some (vi f), some (vi t), some (vi s), none], [], (I, H), 0, 0)
  refine WP.go 2 ?_
  show WP (Call d) 256 P X (42, [some (vr (some 90) 10), some (vi f), some (vi t), some (vi s), some (vi 0)], [], (I, H), 0, 0)
  have lp42 : ∀ (n9 : Nat) (K : qI) (h9 : Int) (q9 : SQ) (hm : μ 1 - h9 < (n9 : Int)) (kv0 : 0 ≤ h9 ∧ h9 ≤ μ 1) (kv1 : RE μ K q9) (kv2 : REF I K) (kv3 : sw kpR (GG μ) (GL μ) (μ 1) (k + 1) f t s q = swJ (swo (GG μ) (GL μ) f t) (fun h q => sw kpR (GG μ) (GL μ) (μ 1) k (f + 1) (zor t (zshl 1 h)) (s + GG μ f h) (setc q f h)) (μ 1 - h9).toNat h9 q9), WP (Call d) 256 P X (42, [some (vr (some 90) 10), some (vi f), some (vi t), some (vi s), some (vi h9)], [], (K, H), 0, 0) := by
    intro n9
    induction n9 with
    | zero => intro K h9 q9 hm kv0 kv1 kv2 kv3; exact absurd hm (by omega)
    | succ n9 ih42 =>
      intro K h9 q9 hm kv0 kv1 kv2 kv3
      have hgk : GDM K μ := fun f h a b c d => by rw [kv2.1 99 (by omega) (by omega) (by omega)]; exact hg f h a b c d
      have hMk : K 91 = μ := (kv2.1 91 (by omega) (by omega) (by omega)).trans hM
      refine WP.go 5 (And.intro rfl (Exists.intro 91 (And.intro hS.r90_1 (And.intro (And.intro rfl (And.intro (show 0 ≤ 1 from by omega) (show 1 < H.2.1 91 from by omega))) (?_)))))
      refine rw_i (Q := fun x9 => WP (Call d) 256 P X (47, [some (vr (some 90) 10), some (vi f), some (vi t), some (vi s), some (vi h9)], [vi x9, vi h9], (K, H), 0, 0)) (congrFun hMk _) ?_
      show WP (Call d) 256 P X (47, [some (vr (some 90) 10), some (vi f), some (vi t), some (vi s), some (vi h9)], [vi (μ 1), vi h9], (K, H), 0, 0)
      refine WP.go 1 (And.intro (fun (b47 : ¬ h9 < μ 1) => ?_) (fun (b47 : h9 < μ 1) => ?_))
      ·
        show WP (Call d) 256 P X (105, [some (vr (some 90) 10), some (vi f), some (vi t), some (vi s), some (vi h9)], [], (K, H), 0, 0)
        refine WP.go 1 (And.intro (And.intro (Nat.le_of_ble_eq_true rfl) (Nat.le_of_ble_eq_true rfl)) (?_))
        show P none (K, H)
        exact h _ (by rw [kv3, show h9 = μ 1 by omega, swJ_0 (Int.le_refl _)]; exact kv1) kv2
      ·
        show WP (Call d) 256 P X (48, [some (vr (some 90) 10), some (vi f), some (vi t), some (vi s), some (vi h9)], [], (K, H), 0, 0)
        have hfa := frt_at ht (show 0 ≤ h9 ∧ h9 < 7 by omega) (show 0 ≤ h9 ∧ h9 < 7 by omega)
        have hgb := GG_bd hV (h := h9) (show 0 ≤ f ∧ f < μ 1 by omega)
        refine WP.go 7 (And.intro (fun (b54 : zand (zshr t h9) 1 = 1) => ?_) (fun (b54 : ¬ zand (zshr t h9) 1 = 1) => ?_))
        ·
          show WP (Call d) 256 P X (103, [some (vr (some 90) 10), some (vi f), some (vi t), some (vi s), some (vi h9)], [], (K, H), 0, 0)
          refine WP.go 2 (Exists.intro (h9 + 1) (And.intro (wrp_a (by omega) (by omega)) (?_)))
          show WP (Call d) 256 P X (42, [some (vr (some 90) 10), some (vi f), some (vi t), some (vi s), some (vi (h9 + 1))], [], (K, H), 0, 0)
          exact ih42 K (h9 + 1) _ (by omega) (by omega) kv1 kv2 (kv3.trans ((swJ_s (by omega)).trans (by rw [if_neg (fun z => by have w := (of_decide_eq_true z).1; omega)])))
        ·
          show WP (Call d) 256 P X (55, [some (vr (some 90) 10), some (vi f), some (vi t), some (vi s), some (vi h9)], [], (K, H), 0, 0)
          refine WP.go 8 (And.intro rfl (Exists.intro 99 (And.intro hS.r90_31 (Exists.intro (10 * f) (And.intro (wrp_a (by omega) (by omega)) (Exists.intro ((10 * f) + h9) (And.intro (wrp_a (by omega) (by omega)) (And.intro (And.intro rfl (And.intro (show 0 ≤ (10 * f) + h9 from by omega) (show (10 * f) + h9 < H.2.1 99 from by omega))) (?_)))))))))
          refine rw_i (Q := fun x9 => WP (Call d) 256 P X (63, [some (vr (some 90) 10), some (vi f), some (vi t), some (vi s), some (vi h9)], [vi x9], (K, H), 0, 0)) (show K 99 ((10 * f) + h9) = GG μ f h9 from (hgk f h9 (by omega) (by omega) (by omega) (by omega))) ?_
          show WP (Call d) 256 P X (63, [some (vr (some 90) 10), some (vi f), some (vi t), some (vi s), some (vi h9)], [vi (GG μ f h9)], (K, H), 0, 0)
          refine WP.go 11 (And.intro rfl (Exists.intro 99 (And.intro hS.r90_31 (Exists.intro (10 * f) (And.intro (wrp_a (by omega) (by omega)) (And.intro rfl (Exists.intro 91 (And.intro hS.r90_1 (Exists.intro (200 + f) (And.intro (wrp_a (by omega) (by omega)) (And.intro (And.intro rfl (And.intro (show 0 ≤ 200 + f from by omega) (show 200 + f < H.2.1 91 from by omega))) (?_))))))))))))
          refine rw_i (Q := fun x9 => WP (Call d) 256 P X (74, [some (vr (some 90) 10), some (vi f), some (vi t), some (vi s), some (vi h9)], [vi x9, vi (10 * f), vr (some 99) 11, vi (GG μ f h9)], (K, H), 0, 0)) (congrFun hMk _) ?_
          show WP (Call d) 256 P X (74, [some (vr (some 90) 10), some (vi f), some (vi t), some (vi s), some (vi h9)], [vi (μ (200 + f)), vi (10 * f), vr (some 99) 11, vi (GG μ f h9)], (K, H), 0, 0)
          refine WP.go 2 (Exists.intro ((10 * f) + (μ (200 + f))) (And.intro (wrp_a (by omega) (by omega)) (And.intro (And.intro rfl (And.intro (show 0 ≤ (10 * f) + (μ (200 + f)) from by omega) (show (10 * f) + (μ (200 + f)) < H.2.1 99 from by omega))) (?_))))
          refine rw_i (Q := fun x9 => WP (Call d) 256 P X (76, [some (vr (some 90) 10), some (vi f), some (vi t), some (vi s), some (vi h9)], [vi x9, vi (GG μ f h9)], (K, H), 0, 0)) (show K 99 ((10 * f) + (μ (200 + f))) = GL μ f from (hgk f (μ (200 + f)) (by omega) (by omega) (by omega) (by omega))) ?_
          show WP (Call d) 256 P X (76, [some (vr (some 90) 10), some (vi f), some (vi t), some (vi s), some (vi h9)], [vi (GL μ f), vi (GG μ f h9)], (K, H), 0, 0)
          refine WP.go 1 (And.intro (fun (b76 : ¬ GG μ f h9 < GL μ f) => ?_) (fun (b76 : GG μ f h9 < GL μ f) => ?_))
          ·
            show WP (Call d) 256 P X (78, [some (vr (some 90) 10), some (vi f), some (vi t), some (vi s), some (vi h9)], [], (K, H), 0, 0)
            refine WP.go 5 (And.intro rfl (Exists.intro 97 (And.intro hS.r90_25 (And.intro (And.intro rfl (And.intro (show 0 ≤ f from by omega) (show f < H.2.1 97 from by omega))) (?_)))))
            show WP (Call d) 256 P X (83, [some (vr (some 90) 10), some (vi f), some (vi t), some (vi s), some (vi h9)], [], ((upI K 97 f h9), H), 0, 0)
            generalize hq_V0 : (upI K 97 f h9) = V0
            have e_V0 : V0 97 = (fun j => if j = f then h9 else K 97 j) := by rw [← hq_V0]; exact upI_self _ _ _ _
            have f_V0 : ∀ a, a ≠ 97 → V0 a = K a := fun a q => by rw [← hq_V0]; exact upI_cell q
            have hq_1 : RE μ V0 (setc q9 f h9) := ⟨⟨by rw [f_V0 90 (by omega)]; exact kv1.1.1, by rw [f_V0 90 (by omega)]; exact kv1.1.2⟩, fun j j0 j1 => by rw [e_V0]; show (if j = f then h9 else K 97 j) = (if j = f then h9 else q9.1 j); rw [kv1.2.1 j j0 j1], fun j j0 j1 => by rw [f_V0 98 (by omega)]; exact kv1.2.2 j j0 j1⟩
            have hc_2 : REF I V0 := ⟨fun a q1 q2 q3 => by rw [f_V0 a q2]; exact kv2.1 a q1 q2 q3, fun s q1 q2 => by rw [f_V0 90 (by omega)]; exact kv2.2 s q1 q2⟩
            have hMj : V0 91 = μ := (f_V0 91 (by omega)).trans hMk
            have hgj : GDM V0 μ := fun f h a b c d => by rw [f_V0 99 (by omega)]; exact hgk f h a b c d
            refine WP.go 18 (Exists.intro (f + 1) (And.intro (wrp_a (by omega) (by omega)) (And.intro rfl (Exists.intro 99 (And.intro hS.r90_31 (Exists.intro (10 * f) (And.intro (wrp_a (by omega) (by omega)) (Exists.intro ((10 * f) + h9) (And.intro (wrp_a (by omega) (by omega)) (And.intro (And.intro rfl (And.intro (show 0 ≤ (10 * f) + h9 from by omega) (show (10 * f) + h9 < H.2.1 99 from by omega))) (?_)))))))))))
            refine rw_i (Q := fun x9 => WP (Call d) 256 P X (101, [some (vr (some 90) 10), some (vi f), some (vi t), some (vi s), some (vi h9)], [vi x9, vi s, vi (zor t (zshl 1 h9)), vi (f + 1), vr (some 90) 10], (V0, H), 0, 0)) (show V0 99 ((10 * f) + h9) = GG μ f h9 from (hgj f h9 (by omega) (by omega) (by omega) (by omega))) ?_
            show WP (Call d) 256 P X (101, [some (vr (some 90) 10), some (vi f), some (vi t), some (vi s), some (vi h9)], [vi (GG μ f h9), vi s, vi (zor t (zshl 1 h9)), vi (f + 1), vr (some 90) 10], (V0, H), 0, 0)
            refine WP.go 2 (Exists.intro (s + (GG μ f h9)) (And.intro (wrp_a (by omega) (by omega)) (And.intro (And.intro (Nat.le_of_ble_eq_true rfl) (Nat.le_of_ble_eq_true rfl)) (And.intro rfl (?_)))))
            show Call d 256 [vr (some 90) 10, vi (f + 1), vi (zor t (zshl 1 h9)), vi (s + (GG μ f h9))] (V0, H) _ _
            refine hA (by omega) hS hMj hq_1 hgj (by omega) hfa.1 (by omega) (fun J102 e102 f102 => ?_)
            show WP (Call d) 256 P X (103, [some (vr (some 90) 10), some (vi f), some (vi t), some (vi s), some (vi h9)], [], (J102, H), 0, 0)
            have hq_3 : RE μ J102 _ := e102
            have hc_4 : REF I J102 := hc_2.tr f102
            refine WP.go 2 (Exists.intro (h9 + 1) (And.intro (wrp_a (by omega) (by omega)) (?_)))
            show WP (Call d) 256 P X (42, [some (vr (some 90) 10), some (vi f), some (vi t), some (vi s), some (vi (h9 + 1))], [], (J102, H), 0, 0)
            exact ih42 J102 (h9 + 1) _ (by omega) (by omega) hq_3 hc_4 (kv3.trans ((swJ_s (by omega)).trans (by rw [if_pos (show swo (GG μ) (GL μ) f t h9 = true from decide_eq_true ⟨by omega, by omega⟩)])))
          ·
            show WP (Call d) 256 P X (77, [some (vr (some 90) 10), some (vi f), some (vi t), some (vi s), some (vi h9)], [], (K, H), 0, 0)
            refine WP.go 3 (Exists.intro (h9 + 1) (And.intro (wrp_a (by omega) (by omega)) (?_)))
            show WP (Call d) 256 P X (42, [some (vr (some 90) 10), some (vi f), some (vi t), some (vi s), some (vi (h9 + 1))], [], (K, H), 0, 0)
            exact ih42 K (h9 + 1) _ (by omega) (by omega) kv1 kv2 (kv3.trans ((swJ_s (by omega)).trans (by rw [if_neg (fun z => by have w := (of_decide_eq_true z).2; omega)])))
  exact lp42 ((μ 1 - 0 : Int).toNat + 1) I 0 q (by omega) (by omega) hq (REF.rf I) (by rw [show (μ 1 - 0).toNat = (μ 1).toNat by omega]; rfl)

theorem live_RSC {μ : Int → Int} (hV : IM μ) (h7 : μ 1 ≤ 7) (k : Nat) : RSC (1 + k) k μ := by
  induction k with
  | zero =>
    intro d P X I H f t s q hd hS hM hq hg hf ht hs h
    exact s_12_liveOn_z hd hS hM hV h7 hq (by omega) h
  | succ k ih =>
    intro d P X I H f t s q hd hS hM hq hg hf ht hs h
    have a : RSC (1 + k) k μ := @ih
    exact s_12_liveOn_s (D := 1 + k) hd a hS hM hV h7 hq hg hf ht hs h
/-- the reference's swaps, from what it held -/
noncomputable def RW7 (μ : Int → Int) (c e : Int → Int) : SQ := sw kpR (GG μ) (GL μ) (μ 1) (μ 1).toNat 0 0 0 (c, 0, 0, e)
def XF (I J : qI) : Prop := (∀ a, a < 90 ∨ (91 ≤ a ∧ a ≤ 95) ∨ 100 ≤ a → J a = I a) ∧ (∀ s, s ≠ 27 → s ≠ 28 → J 90 s = I 90 s)
theorem s_12_swapAll {d : Nat} {P : Option qV → qH → Prop} {X : Nat → qH → Prop} {I : qI} {H : qS} {μ : Int → Int} {mo tb : Int} (hd : 40 ≤ d) (hS : Shp H) (hM : I 91 = μ) (hV : IM μ) (h79 : μ 1 ≤ 7) (h22 : I 90 22 = -1) (h23 : I 90 23 = mo) (h29 : I 90 29 = -1) (h30 : I 90 30 = tb) (htb : 0 ≤ tb ∧ tb ≤ 29) (hmo : (-1 : Int) = -1 ∨ (0 ≤ mo ∧ mo ≤ 48)) (h : ∀ (J : qI) (c e : Int → Int), RE μ J (RW7 μ c e) → XF I J → P none (J, H)) :
    Call d 257 [vr (some 90) 10] (I, H) P X := by
  obtain ⟨d, rfl⟩ : ∃ e, d = e + 1 := ⟨d - 1, by omega⟩
  have hl91 := hS.l91
  have hl99 := hS.l99
  have hn1 := hV.n1
  show WP (Call d) 257 P X (0, [some (vr (some 90) 10), none, none], [], (I, H), 0, 0)
  refine WP.go 2 (And.intro (And.intro (Nat.le_of_ble_eq_true rfl) (Nat.le_of_ble_eq_true rfl)) (And.intro rfl (?_)))
  show Call d 210 [vr (some 90) 10] (I, H) _ _
  refine s_12_turn (by omega) hS hM hV h22 h23 hmo (fun J1 e1 f1 => ?_)
  show WP (Call d) 257 P X (2, [some (vr (some 90) 10), none, none], [], (J1, H), 0, 0)
  have hMt : J1 91 = μ := (f1 91 (by omega)).trans hM
  have h29t : J1 90 29 = -1 := (congrFun (f1 90 (by omega)) 29).trans h29
  have h30t : J1 90 30 = tb := (congrFun (f1 90 (by omega)) 30).trans h30
  have hAt : ∀ y, 0 ≤ y → y < 100 → 0 ≤ J1 96 y ∧ J1 96 y < 96 := fun y q1 q2 => by rw [e1 y q1 q2]; exact ANG_bd hV _ _ _
  have eA : ∀ y, 0 ≤ y → y < 100 → J1 96 y = AN μ y := fun y q1 q2 => (e1 y q1 q2).trans (ANG_irr (by omega) _ _ _)
  refine WP.go 2 ?_
  show WP (Call d) 257 P X (4, [some (vr (some 90) 10), some (vi 0), none], [], (J1, H), 0, 0)
  have lp4 : ∀ (n9 : Nat) (K : qI) (f9 : Int) (hm : μ 1 - f9 < (n9 : Int)) (iv0 : 0 ≤ f9 ∧ f9 ≤ μ 1) (iv1 : ∀ f h, 0 ≤ f → f < f9 → 0 ≤ h → h < μ 1 → K 99 (10 * f + h) = GG μ f h) (iv2 : ∀ a, a ≠ 99 → K a = J1 a), WP (Call d) 257 P X (4, [some (vr (some 90) 10), some (vi f9), none], [], (K, H), 0, 0) := by
    intro n9
    induction n9 with
    | zero => intro K f9 hm iv0 iv1 iv2; exact absurd hm (by omega)
    | succ n9 ih4 =>
      intro K f9 hm iv0 iv1 iv2
      have hMk : K 91 = μ := (iv2 91 (by omega)).trans hMt
      have h29k : K 90 29 = -1 := (congrFun (iv2 90 (by omega)) 29).trans h29t
      have h30k : K 90 30 = tb := (congrFun (iv2 90 (by omega)) 30).trans h30t
      have hAk : ∀ y, 0 ≤ y → y < 100 → 0 ≤ K 96 y ∧ K 96 y < 96 := by rw [iv2 96 (by omega)]; exact hAt
      refine WP.go 5 (And.intro rfl (Exists.intro 91 (And.intro hS.r90_1 (And.intro (And.intro rfl (And.intro (show 0 ≤ 1 from by omega) (show 1 < H.2.1 91 from by omega))) (?_)))))
      refine rw_i (Q := fun x9 => WP (Call d) 257 P X (9, [some (vr (some 90) 10), some (vi f9), none], [vi x9, vi f9], (K, H), 0, 0)) (congrFun hMk _) ?_
      show WP (Call d) 257 P X (9, [some (vr (some 90) 10), some (vi f9), none], [vi (μ 1), vi f9], (K, H), 0, 0)
      refine WP.go 1 (And.intro (fun (b9 : ¬ f9 < μ 1) => ?_) (fun (b9 : f9 < μ 1) => ?_))
      ·
        show WP (Call d) 257 P X (34, [some (vr (some 90) 10), some (vi f9), none], [], (K, H), 0, 0)
        refine WP.go 3 (And.intro (And.intro rfl trivial) (?_))
        show WP (Call d) 257 P X (37, [some (vr (some 90) 10), some (vi f9), none], [], ((upI K 90 27 0), H), 0, 0)
        generalize hq_V0 : (upI K 90 27 0) = V0
        have e_V0 : V0 90 = (fun j => if j = 27 then 0 else K 90 j) := by rw [← hq_V0]; exact upI_self _ _ _ _
        have f_V0 : ∀ a, a ≠ 90 → V0 a = K a := fun a q => by rw [← hq_V0]; exact upI_cell q
        refine WP.go 3 (And.intro (And.intro rfl trivial) (?_))
        show WP (Call d) 257 P X (40, [some (vr (some 90) 10), some (vi f9), none], [], ((upI V0 90 28 0), H), 0, 0)
        generalize hq_V1 : (upI V0 90 28 0) = V1
        have e_V1 : V1 90 = (fun j => if j = 28 then 0 else V0 90 j) := by rw [← hq_V1]; exact upI_self _ _ _ _
        have f_V1 : ∀ a, a ≠ 90 → V1 a = V0 a := fun a q => by rw [← hq_V1]; exact upI_cell q
        have h0 : ∀ s, s ≠ 27 → s ≠ 28 → V1 90 s = K 90 s := fun s q1 q2 => by rw [e_V1]; exact (if_neg q2).trans (by rw [e_V0]; exact if_neg q1)
        have hw : ∀ a, a ≠ 90 → V1 a = K a := fun a q => (f_V1 a q).trans (f_V0 a q)
        have hM1 : V1 91 = μ := (hw 91 (by omega)).trans hMk
        have hq1 : RE μ V1 ((K 97), 0, 0, (K 98)) := ⟨⟨by rw [e_V1]; show V0 90 27 = 0; rw [e_V0]; rfl, by rw [e_V1]; rfl⟩, fun j _ _ => by rw [hw 97 (by omega)], fun j _ _ => by rw [hw 98 (by omega)]⟩
        have hg1 : GDM V1 μ := fun f h a b c d => by rw [hw 99 (by omega)]; exact iv1 f h a (by omega) c d
        refine WP.go 5 (And.intro (And.intro (Nat.le_of_ble_eq_true rfl) (Nat.le_of_ble_eq_true rfl)) (And.intro rfl (?_)))
        show Call d 256 [vr (some 90) 10, vi 0, vi 0, vi 0] (V1, H) _ _
        refine (live_RSC hV h79 (μ 1).toNat) (by omega) hS hM1 hq1 hg1 (by omega) (by omega) (by omega) (fun J44 e44 f44 => ?_)
        show WP (Call d) 257 P X (45, [some (vr (some 90) 10), some (vi f9), none], [], (J44, H), 0, 0)
        refine WP.go 1 (And.intro (And.intro (Nat.le_of_ble_eq_true rfl) (Nat.le_of_ble_eq_true rfl)) (?_))
        show P none (J44, H)
        exact h J44 (K 97) (K 98) e44 ⟨fun a q => by rw [f44.1 a (by omega) (by omega) (by omega), hw a (by omega), iv2 a (by omega)]; exact f1 a (by omega), fun s q1 q2 => by rw [f44.2 s q1 q2, h0 s q1 q2, iv2 90 (by omega), f1 90 (by omega)]⟩
      ·
        show WP (Call d) 257 P X (10, [some (vr (some 90) 10), some (vi f9), none], [], (K, H), 0, 0)
        refine WP.go 2 ?_
        show WP (Call d) 257 P X (12, [some (vr (some 90) 10), some (vi f9), some (vi 0)], [], (K, H), 0, 0)
        have lp12 : ∀ (n9 : Nat) (L : qI) (h9 : Int) (hm : μ 1 - h9 < (n9 : Int)) (jv0 : 0 ≤ h9 ∧ h9 ≤ μ 1) (jv1 : ∀ h, 0 ≤ h → h < h9 → L 99 (10 * f9 + h) = GG μ f9 h) (jv2 : ∀ f h, 0 ≤ f → f < f9 → 0 ≤ h → h < μ 1 → L 99 (10 * f + h) = GG μ f h) (jv3 : ∀ a, a ≠ 99 → L a = J1 a), WP (Call d) 257 P X (12, [some (vr (some 90) 10), some (vi f9), some (vi h9)], [], (L, H), 0, 0) := by
          intro n9
          induction n9 with
          | zero => intro L h9 hm jv0 jv1 jv2 jv3; exact absurd hm (by omega)
          | succ n9 ih12 =>
            intro L h9 hm jv0 jv1 jv2 jv3
            have hMl : L 91 = μ := (jv3 91 (by omega)).trans hMt
            have h29l : L 90 29 = -1 := (congrFun (jv3 90 (by omega)) 29).trans h29t
            have h30l : L 90 30 = tb := (congrFun (jv3 90 (by omega)) 30).trans h30t
            have hAl : ∀ y, 0 ≤ y → y < 100 → 0 ≤ L 96 y ∧ L 96 y < 96 := by rw [jv3 96 (by omega)]; exact hAt
            refine WP.go 5 (And.intro rfl (Exists.intro 91 (And.intro hS.r90_1 (And.intro (And.intro rfl (And.intro (show 0 ≤ 1 from by omega) (show 1 < H.2.1 91 from by omega))) (?_)))))
            refine rw_i (Q := fun x9 => WP (Call d) 257 P X (17, [some (vr (some 90) 10), some (vi f9), some (vi h9)], [vi x9, vi h9], (L, H), 0, 0)) (congrFun hMl _) ?_
            show WP (Call d) 257 P X (17, [some (vr (some 90) 10), some (vi f9), some (vi h9)], [vi (μ 1), vi h9], (L, H), 0, 0)
            refine WP.go 1 (And.intro (fun (b17 : ¬ h9 < μ 1) => ?_) (fun (b17 : h9 < μ 1) => ?_))
            ·
              show WP (Call d) 257 P X (32, [some (vr (some 90) 10), some (vi f9), some (vi h9)], [], (L, H), 0, 0)
              refine WP.go 2 (Exists.intro (f9 + 1) (And.intro (wrp_a (by omega) (by omega)) (?_)))
              show WP (Call d) 257 P X (4, [some (vr (some 90) 10), some (vi (f9 + 1)), some (vi h9)], [], (L, H), 0, 0)
              refine WP.wk (L := [some (vr (some 90) 10), some (vi (f9 + 1)), none]) (And.intro rfl (And.intro rfl (And.intro trivial (trivial)))) ?_
              show WP (Call d) 257 P X (4, [some (vr (some 90) 10), some (vi (f9 + 1)), none], [], (L, H), 0, 0)
              exact ih4 L (f9 + 1) (by omega) (by omega) (fun f h q0 q1 q2 q3 => by by_cases z : f = f9; rw [z]; exact jv1 h q2 (by omega); exact jv2 f h q0 (by omega) q2 q3) jv3
            ·
              show WP (Call d) 257 P X (18, [some (vr (some 90) 10), some (vi f9), some (vi h9)], [], (L, H), 0, 0)
              have v1 := hV.wa f9 (by omega) (by omega)
              refine WP.go 11 (And.intro rfl (Exists.intro 99 (And.intro hS.r90_31 (Exists.intro (10 * f9) (And.intro (wrp_a (by omega) (by omega)) (Exists.intro ((10 * f9) + h9) (And.intro (wrp_a (by omega) (by omega)) (And.intro (And.intro (Nat.le_of_ble_eq_true rfl) (Nat.le_of_ble_eq_true rfl)) (And.intro rfl (?_))))))))))
              show Call d 254 [vr (some 90) 10, vi f9, vi h9] (L, H) _ _
              refine s_12_goodOf (by omega) hS hMl hV hAl h29l h30l htb (by omega) ?_
              show WP (Call d) 257 P X (29, [some (vr (some 90) 10), some (vi f9), some (vi h9)], [vi (BRT μ (L 96) (HTC μ (-1) tb) h9 (μ (210 + 2 * f9)) (μ (211 + 2 * f9))), vi ((10 * f9) + h9), vr (some 99) 11], (L, H), 0, 0)
              refine rw_i (Q := fun x9 => WP (Call d) 257 P X (29, [some (vr (some 90) 10), some (vi f9), some (vi h9)], [vi x9, vi ((10 * f9) + h9), vr (some 99) 11], (L, H), 0, 0)) (BRT_congr (by omega) (by omega) (by rw [jv3 96 (by omega)]; exact eA) (HT_i hV tb)) ?_
              show WP (Call d) 257 P X (29, [some (vr (some 90) 10), some (vi f9), some (vi h9)], [vi (GG μ f9 h9), vi ((10 * f9) + h9), vr (some 99) 11], (L, H), 0, 0)
              refine WP.go 3 (And.intro (And.intro rfl (And.intro (show 0 ≤ (10 * f9) + h9 from by omega) (show (10 * f9) + h9 < H.2.1 99 from by omega))) (Exists.intro (h9 + 1) (And.intro (wrp_a (by omega) (by omega)) (?_))))
              show WP (Call d) 257 P X (12, [some (vr (some 90) 10), some (vi f9), some (vi (h9 + 1))], [], ((upI L 99 ((10 * f9) + h9) (GG μ f9 h9)), H), 0, 0)
              exact ih12 (upI L 99 ((10 * f9) + h9) (GG μ f9 h9)) (h9 + 1) (by omega) (by omega) (fun h q0 q1 => by rw [upI_self]; show (if 10 * f9 + h = 10 * f9 + h9 then GG μ f9 h9 else L 99 (10 * f9 + h)) = _; by_cases z : h = h9; rw [if_pos (by omega), z]; rw [if_neg (by omega)]; exact jv1 h q0 (by omega)) (fun f h q0 q1 q2 q3 => by rw [upI_self]; show (if 10 * f + h = 10 * f9 + h9 then GG μ f9 h9 else L 99 (10 * f + h)) = _; rw [if_neg (by omega)]; exact jv2 f h q0 q1 q2 q3) (fun a q => (upI_cell q).trans (jv3 a q))
        exact lp12 ((μ 1 - 0 : Int).toNat + 1) K 0 (by omega) (by omega) (fun h q q1 => by omega) iv1 iv2
  exact lp4 ((μ 1 - 0 : Int).toNat + 1) J1 0 (by omega) (by omega) (fun f h _ q _ _ => by omega) (fun _ _ => rfl)

