theorem FCT_congr {μ A A' T T' : Int → Int} {h y : Int} (a : A y = A' y) (e : ∀ c, 0 ≤ c → c < 81 → T c = T' c) (j : Int) : FCT μ A T h y j = FCT μ A' T' h y j := by
  unfold FCT LVL
  rw [LGH_congr a e, bz_c (NOONp_congr a e), bz_c (WDYp_congr a e), a]
/-- what a lease asks of a house and a year, in the town as it is -/
noncomputable def FC (μ : Int → Int) (h y j : Int) : Int := if 0 ≤ j ∧ j < 8 then FCT μ (AN μ) (HT μ) h y j else 0
theorem FC_b {μ : Int → Int} (hV : IM μ) {h y : Int} (hh : 0 ≤ h ∧ h < μ 1) (hy : 0 ≤ y ∧ y < 100) : FB (FC μ h y) := by
  have v1 := hV.hc h hh.1 hh.2
  have v2 := hV.hh h hh.1 hh.2
  have v3 := LVL_bd (c := μ (120 + 2 * h)) (by omega) (by omega) μ (AN μ) y
  have v4 : 0 ≤ AN μ y ∧ AN μ y < 96 := ANG_bd hV _ _ _
  have v5 := LGH_bd hV (AN μ) (HT μ) h y
  refine ⟨fun i q0 q1 => ?_, fun i q0 q1 => ?_⟩
  · unfold FC
    rw [if_pos (by omega)]
    have hi : i = 0 ∨ i = 1 ∨ i = 2 ∨ i = 3 ∨ i = 4 := by omega
    rcases hi with rfl | rfl | rfl | rfl | rfl
    · show 0 ≤ y ∧ y ≤ 300; omega
    · show 0 ≤ LGH μ (AN μ) (HT μ) h y ∧ LGH μ (AN μ) (HT μ) h y ≤ 300; omega
    · show 0 ≤ μ (121 + 2 * h) ∧ μ (121 + 2 * h) ≤ 300; omega
    · show 0 ≤ AN μ y ∧ AN μ y ≤ 300; omega
    · show 0 ≤ LVL μ (AN μ) (μ (120 + 2 * h)) y + 8 ∧ LVL μ (AN μ) (μ (120 + 2 * h)) y + 8 ≤ 300; omega
  · unfold FC
    rw [if_pos (by omega)]
    have hi : i = 5 ∨ i = 6 ∨ i = 7 := by omega
    rcases hi with rfl | rfl | rfl
    · exact bz_or _
    · exact bz_or _
    · exact bz_or _
noncomputable def RNT (μ : Int → Int) (h y : Int) (c : List Int) : Int := rentV (ckR (FC μ h y) c ([], 0, 0))
/-- the code of lease l -/
def LRC (I : qI) (H : qS) (l : Int) (c : List Int) : Prop := ∃ cl9, H.1 26 l = some cl9 ∧ (101 ≤ cl9 ∧ cl9 < H.2.2.2 + 3) ∧ H.2.1 cl9 = (c.length : Int) ∧ c.length ≤ 2147483646 ∧ ∀ i : Nat, i < c.length → I cl9 (i : Int) = c.getD i 0
theorem LRC.fr {I J : qI} {H : qS} {l : Int} {c : List Int} (h : LRC I H l c) (f : ∀ a, 101 ≤ a → J a = I a) : LRC J H l c := by
  obtain ⟨a, h1, h2, h3, h4, h5⟩ := h
  exact ⟨a, h1, h2, h3, h4, fun i hi => by rw [f a h2.1]; exact h5 i hi⟩
def wS (f : Int → Int) (a : Int) : Nat → Int
  | 0 => 0
  | n + 1 => wrp (wS f a n + f (a + n))
def wI (f : Int → Int) (a b : Int) : Int := wS f a (b - a).toNat
theorem wI_nil {f : Int → Int} {a b : Int} (h : b ≤ a) : wI f a b = 0 := by unfold wI; rw [show (b - a).toNat = 0 by omega]; rfl
theorem wI_s {f : Int → Int} {a b : Int} (h : a ≤ b) : wI f a (b + 1) = wrp (wI f a b + f b) := by
  unfold wI
  rw [show (b + 1 - a).toNat = (b - a).toNat + 1 by omega]
  show wrp (wS f a (b - a).toNat + f (a + ((b - a).toNat : Int))) = _
  rw [show a + ((b - a).toNat : Int) = b by omega]
theorem s_8_leaseCode_c {d : Nat} {P : Option qV → qH → Prop} {X : Nat → qH → Prop} {I : qI} {H : qS} (hd : 1 ≤ d) {cl9 : Nat} {l : Int} (hS : Shp H) (hl : 0 ≤ l ∧ l < 6) (hla : H.1 26 l = some cl9) (h : P (some (vr (some cl9) 11)) (I, H)) :
    Call d 90 [vr (some 6) 6, vi l] (I, H) P X := by
  obtain ⟨d, rfl⟩ : ∃ e, d = e + 1 := ⟨d - 1, by omega⟩
  have hl26 := hS.l26
  show WP (Call d) 90 P X (0, [some (vr (some 6) 6), some (vi l)], [], (I, H), 0, 0)
  refine WP.go 2 (And.intro (fun (b1 : l < 0) => (absurd b1 (by omega))) (fun (b1 : ¬ l < 0) => ?_))
  show WP (Call d) 90 P X (2, [some (vr (some 6) 6), some (vi l)], [], (I, H), 0, 0)
  refine WP.go 5 (And.intro rfl (Exists.intro 26 (And.intro hS.r6_11 (And.intro (Or.inr rfl) (And.intro (fun (b6 : ¬ l < H.2.1 26) => (absurd b6 (by omega))) (fun (b6 : l < H.2.1 26) => ?_))))))
  show WP (Call d) 90 P X (7, [some (vr (some 6) 6), some (vi l)], [], (I, H), 0, 0)
  refine WP.go 6 (And.intro rfl (Exists.intro 26 (And.intro hS.r6_11 (And.intro (And.intro rfl (And.intro (show 0 ≤ l from by omega) (show l < H.2.1 26 from by omega))) (And.intro (And.intro (Nat.le_of_ble_eq_true rfl) (Nat.le_of_ble_eq_true rfl)) (?_))))))
  show P (some (vr (H.1 26 l) 11)) (I, H)
  rw [hla]; exact h

theorem s_11_rentIn {d : Nat} {P : Option qV → qH → Prop} {X : Nat → qH → Prop} {I : qI} {H : qS} {μ : Int → Int} (hd : 7 ≤ d) {l h9 y : Int} {c : List Int} (hS : Shp H) (hX : SX I) (hT : TR 6 I μ) (hV : IM μ) (hO : OPN μ (-1) 0 (I 80) (I 81)) (hL : LRC I H l c) (hlr : 0 ≤ l ∧ l < 6) (hh : 0 ≤ h9 ∧ h9 < μ 1) (hy : 0 ≤ y ∧ y < 100) (h : ∀ J : qI, (∀ a, a ≠ 82 → a ≠ 83 → a ≠ 84 → J a = I a) → P (some (vi (RNT μ h9 y c))) (J, H)) :
    Call d 159 [vr (some 3) 9, vi l, vi h9, vi y] (I, H) P X := by
  obtain ⟨d, rfl⟩ : ∃ e, d = e + 1 := ⟨d - 1, by omega⟩
  obtain ⟨cl9, hla, hcl, hl9, hcb, hc9⟩ := hL
  have hA := hO.ab hV
  show WP (Call d) 159 P X (0, [some (vr (some 3) 9), some (vi l), some (vi h9), some (vi y)], [], (I, H), 0, 0)
  refine WP.go 8 (And.intro rfl (Exists.intro 79 (And.intro hS.r3_7 (And.intro rfl (Exists.intro 82 (And.intro hS.r3_8 (And.intro rfl (Exists.intro 83 (And.intro hS.r82_0 (And.intro (And.intro (Nat.le_of_ble_eq_true rfl) (Nat.le_of_ble_eq_true rfl)) (And.intro rfl (?_))))))))))))
  show Call d 19 [vr (some 79) 0, vi h9, vi y, vr (some 83) 11] (I, H) _ _
  refine s_0_tellFacts (by omega) hS hX hT hV hA (by omega) (by omega) (fun J7 e7 f7 => ?_)
  show WP (Call d) 159 P X (8, [some (vr (some 3) 9), some (vi l), some (vi h9), some (vi y)], [], (J7, H), 0, 0)
  refine WP.go 6 (And.intro rfl (Exists.intro 82 (And.intro hS.r3_8 (And.intro rfl (Exists.intro 6 (And.intro hS.r3_4 (And.intro (And.intro (Nat.le_of_ble_eq_true rfl) (Nat.le_of_ble_eq_true rfl)) (And.intro rfl (?_)))))))))
  show Call d 90 [vr (some 6) 6, vi l] (J7, H) _ _
  refine s_8_leaseCode_c (by omega) hS (by omega) hla ?_
  show WP (Call d) 159 P X (14, [some (vr (some 3) 9), some (vi l), some (vi h9), some (vi y)], [vr (some cl9) 11, vr (some 82) 1], (J7, H), 0, 0)
  refine WP.go 1 (And.intro (And.intro (Nat.le_of_ble_eq_true rfl) (Nat.le_of_ble_eq_true rfl)) (And.intro rfl (?_)))
  show Call d 21 [vr (some 82) 1, vr (some cl9) 11] (J7, H) _ _
  refine s_1_rentBy (F := (FC μ h9 y)) (by omega) hS (by omega) (fun i hi => by rw [f7 cl9 (by omega)]; exact hc9 i hi) (by omega) (fun k q0 q1 => by rw [e7 k q0 q1]; unfold FC; rw [if_pos ⟨q0, q1⟩]; exact FCT_congr (hO.1 y (by omega) (by omega)) hO.2 k) (fun k q => if_neg q) (by omega) (fun J14 g14 => ?_)
  show WP (Call d) 159 P X (15, [some (vr (some 3) 9), some (vi l), some (vi h9), some (vi y)], [vi (rentV (ckR (FC μ h9 y) c ([], 0, 0)))], (J14, H), 0, 0)
  refine WP.go 1 (And.intro (And.intro (Nat.le_of_ble_eq_true rfl) (Nat.le_of_ble_eq_true rfl)) (And.intro trivial (?_)))
  show P (some (vi (rentV (ckR (FC μ h9 y) c ([], 0, 0))))) (J14, H)
  exact h _ (fun a q1 q2 q3 => (g14 a q1 q3).trans (f7 a q2))

theorem s_11_rent {d : Nat} {P : Option qV → qH → Prop} {X : Nat → qH → Prop} {I : qI} {H : qS} {μ : Int → Int} (hd : 8 ≤ d) {l h9 y : Int} {cs : Int → List Int} (hS : Shp H) (hX : SX I) (hT : TR 6 I μ) (hV : IM μ) (hL : ∀ l, 0 ≤ l → l < μ 3 → LRC I H l (cs l)) (h : ((0 ≤ l ∧ l < μ 3) ∧ (0 ≤ h9 ∧ h9 < μ 1) ∧ (0 ≤ y ∧ y < 100)) → ∀ J : qI, CF I J → P (some (vi (RNT μ h9 y (cs l)))) (J, H)) (hx1 : ¬ ((0 ≤ l ∧ l < μ 3) ∧ (0 ≤ h9 ∧ h9 < μ 1) ∧ (0 ≤ y ∧ y < 100)) → X 1 (I, H)) :
    Call d 129 [vr (some 3) 9, vi l, vi h9, vi y] (I, H) P X := by
  obtain ⟨d, rfl⟩ : ∃ e, d = e + 1 := ⟨d - 1, by omega⟩
  have hn3 := hV.n3
  show WP (Call d) 129 P X (0, [some (vr (some 3) 9), some (vi l), some (vi h9), some (vi y)], [], (I, H), 0, 0)
  refine WP.go 3 (And.intro (And.intro (Nat.le_of_ble_eq_true rfl) (Nat.le_of_ble_eq_true rfl)) (And.intro rfl (?_)))
  show Call d 170 [vr (some 3) 9, vi l] (I, H) _ _
  refine s_11_needLease (by omega) hS hT (fun q2 => ?_) (fun q9 => hx1 (by omega))
  show WP (Call d) 129 P X (3, [some (vr (some 3) 9), some (vi l), some (vi h9), some (vi y)], [], (I, H), 1, 6)
  refine WP.go 3 (And.intro (And.intro (Nat.le_of_ble_eq_true rfl) (Nat.le_of_ble_eq_true rfl)) (And.intro rfl (?_)))
  show Call d 167 [vr (some 3) 9, vi h9] (I, H) _ _
  refine s_11_needHouse (by omega) hS hT (fun q5 => ?_) (fun q9 => hx1 (by omega))
  show WP (Call d) 129 P X (6, [some (vr (some 3) 9), some (vi l), some (vi h9), some (vi y)], [], (I, H), 2, 12)
  refine WP.go 2 (And.intro (And.intro (Nat.le_of_ble_eq_true rfl) (Nat.le_of_ble_eq_true rfl)) (And.intro rfl (?_)))
  show Call d 165 [vi y] (I, H) _ _
  refine s_11_needYear (by omega)  (fun q7 => ?_) (fun q9 => hx1 (by omega))
  show WP (Call d) 129 P X (8, [some (vr (some 3) 9), some (vi l), some (vi h9), some (vi y)], [], (I, H), 3, 18)
  refine WP.go 3 (And.intro rfl (Exists.intro 79 (And.intro hS.r3_7 (And.intro (And.intro (Nat.le_of_ble_eq_true rfl) (Nat.le_of_ble_eq_true rfl)) (And.intro rfl (?_))))))
  show Call d 1 [vr (some 79) 0] (I, H) _ _
  refine s_0_open (by omega) hS hX hT hV (fun J10 e10 f10 => ?_)
  show WP (Call d) 129 P X (11, [some (vr (some 3) 9), some (vi l), some (vi h9), some (vi y)], [], (J10, H), 3, 18)
  have hX_1 : SX J10 := SX.fr hX (f10 0 (by omega) (by omega)) (f10 1 (by omega) (by omega))
  have hT_2 : TR 6 J10 μ := hT.fr (fun a q1 q2 => f10 a (by omega) (by omega))
  have hA_3 : AB (J10 80) (J10 81) := e10.ab hV
  refine WP.go 5 (And.intro (And.intro (Nat.le_of_ble_eq_true rfl) (Nat.le_of_ble_eq_true rfl)) (And.intro rfl (?_)))
  show Call d 159 [vr (some 3) 9, vi l, vi h9, vi y] (J10, H) _ _
  refine s_11_rentIn (c := (cs l)) (by omega) hS hX_1 hT_2 hV e10 ((hL l (by omega) (by omega)).fr (fun a q => f10 a (by omega) (by omega))) (by omega) (by omega) (by omega) (fun J15 g15 => ?_)
  show WP (Call d) 129 P X (16, [some (vr (some 3) 9), some (vi l), some (vi h9), some (vi y)], [vi (RNT μ h9 y (cs l))], (J15, H), 3, 18)
  refine WP.go 1 (And.intro (And.intro (Nat.le_of_ble_eq_true rfl) (Nat.le_of_ble_eq_true rfl)) (And.intro trivial (?_)))
  show P (some (vi (RNT μ h9 y (cs l)))) (J15, H)
  exact h (by omega) _ (fun a q => (g15 a (by omega) (by omega) (by omega)).trans (f10 a (by omega) (by omega)))

theorem s_11_due {d : Nat} {P : Option qV → qH → Prop} {X : Nat → qH → Prop} {I : qI} {H : qS} {μ : Int → Int} (hd : 8 ≤ d) {k : Int} {cs : Int → List Int} (hS : Shp H) (hX : SX I) (hT : TR 6 I μ) (hV : IM μ) (hL : ∀ l, 0 ≤ l → l < μ 3 → LRC I H l (cs l)) (h : ((0 ≤ k ∧ k < μ 4)) → ∀ J : qI, CF I J → P (some (vi (wI (fun y => RNT μ (μ (331 + 4 * k)) y (cs (μ (330 + 4 * k)))) (μ (332 + 4 * k)) (μ (333 + 4 * k) + 1)))) (J, H)) (hx1 : ¬ ((0 ≤ k ∧ k < μ 4)) → X 1 (I, H)) :
    Call d 131 [vr (some 3) 9, vi k] (I, H) P X := by
  obtain ⟨d, rfl⟩ : ∃ e, d = e + 1 := ⟨d - 1, by omega⟩
  have hn3 := hV.n3
  have hn4 := hV.n4
  show WP (Call d) 131 P X (0, [some (vr (some 3) 9), some (vi k), none, none, none, none, none], [], (I, H), 0, 0)
  refine WP.go 5 (And.intro rfl (Exists.intro 6 (And.intro hS.r3_4 (And.intro rfl (Exists.intro 13 (And.intro hS.r6_3 (And.intro (And.intro (Nat.le_of_ble_eq_true rfl) (Nat.le_of_ble_eq_true rfl)) (And.intro rfl (?_)))))))))
  show Call d 56 [vr (some 13) 4, vi k] (I, H) _ _
  refine s_has_lets (by omega) hT ?_
  show WP (Call d) 131 P X (5, [some (vr (some 3) 9), some (vi k), none, none, none, none, none], [vi (bz (0 ≤ k ∧ k < μ 4))], (I, H), 0, 0)
  refine WP.go 1 (And.intro (And.intro (Nat.le_of_ble_eq_true rfl) (Nat.le_of_ble_eq_true rfl)) (And.intro rfl (?_)))
  show Call d 163 [vi (bz (0 ≤ k ∧ k < μ 4))] (I, H) _ _
  refine s_11_needThere_b (by omega)  (fun q5 => ?_) (fun q9 => hx1 (by omega))
  show WP (Call d) 131 P X (6, [some (vr (some 3) 9), some (vi k), none, none, none, none, none], [], (I, H), 1, 6)
  refine WP.go 1 ?_
  show WP (Call d) 131 P X (7, [some (vr (some 3) 9), some (vi k), none, none, none, none, none], [vr (some 3) 9], (I, H), 1, 6)
  have w1 := hV.le k (by omega) (by omega)
  have w2 := hV.lh k (by omega) (by omega)
  have w3 := hV.ly k (by omega) (by omega)
  refine WP.go 5 (And.intro rfl (Exists.intro 6 (And.intro hS.r3_4 (And.intro rfl (Exists.intro 13 (And.intro hS.r6_3 (And.intro (And.intro (Nat.le_of_ble_eq_true rfl) (Nat.le_of_ble_eq_true rfl)) (And.intro rfl (?_)))))))))
  show Call d 58 [vr (some 13) 4, vi k, vi 2] (I, H) _ _
  refine s_get_lets2 (by omega) hS (.inl rfl) hT hV (by omega) ?_
  show WP (Call d) 131 P X (12, [some (vr (some 3) 9), some (vi k), none, none, none, none, none], [vi (μ (331 + 4 * k))], (I, H), 1, 6)
  refine WP.go 7 (And.intro rfl (Exists.intro 6 (And.intro hS.r3_4 (And.intro rfl (Exists.intro 13 (And.intro hS.r6_3 (And.intro (And.intro (Nat.le_of_ble_eq_true rfl) (Nat.le_of_ble_eq_true rfl)) (And.intro rfl (?_)))))))))
  show Call d 58 [vr (some 13) 4, vi k, vi 3] (I, H) _ _
  refine s_get_lets3 (by omega) hS (.inl rfl) hT hV (by omega) ?_
  show WP (Call d) 131 P X (19, [some (vr (some 3) 9), some (vi k), some (vi (μ (331 + 4 * k))), none, none, none, none], [vi (μ (330 + 4 * k))], (I, H), 1, 6)
  refine WP.go 7 (And.intro rfl (Exists.intro 6 (And.intro hS.r3_4 (And.intro rfl (Exists.intro 13 (And.intro hS.r6_3 (And.intro (And.intro (Nat.le_of_ble_eq_true rfl) (Nat.le_of_ble_eq_true rfl)) (And.intro rfl (?_)))))))))
  show Call d 58 [vr (some 13) 4, vi k, vi 1] (I, H) _ _
  refine s_get_lets1 (by omega) hS (.inl rfl) hT hV (by omega) ?_
  show WP (Call d) 131 P X (26, [some (vr (some 3) 9), some (vi k), some (vi (μ (331 + 4 * k))), some (vi (μ (330 + 4 * k))), none, none, none], [vi (μ (333 + 4 * k))], (I, H), 1, 6)
  refine WP.go 4 (And.intro rfl (Exists.intro 79 (And.intro hS.r3_7 (And.intro (And.intro (Nat.le_of_ble_eq_true rfl) (Nat.le_of_ble_eq_true rfl)) (And.intro rfl (?_))))))
  show Call d 1 [vr (some 79) 0] (I, H) _ _
  refine s_0_open (by omega) hS hX hT hV (fun J29 e29 f29 => ?_)
  show WP (Call d) 131 P X (30, [some (vr (some 3) 9), some (vi k), some (vi (μ (331 + 4 * k))), some (vi (μ (330 + 4 * k))), some (vi (μ (333 + 4 * k))), none, none], [], (J29, H), 1, 6)
  have hX_1 : SX J29 := SX.fr hX (f29 0 (by omega) (by omega)) (f29 1 (by omega) (by omega))
  have hT_2 : TR 6 J29 μ := hT.fr (fun a q1 q2 => f29 a (by omega) (by omega))
  have hA_3 : AB (J29 80) (J29 81) := e29.ab hV
  refine WP.go 8 (And.intro rfl (Exists.intro 6 (And.intro hS.r3_4 (And.intro rfl (Exists.intro 13 (And.intro hS.r6_3 (And.intro (And.intro (Nat.le_of_ble_eq_true rfl) (Nat.le_of_ble_eq_true rfl)) (And.intro rfl (?_)))))))))
  show Call d 58 [vr (some 13) 4, vi k, vi 0] (J29, H) _ _
  refine s_get_lets0 (by omega) hS (.inl rfl) hT_2 hV (by omega) ?_
  show WP (Call d) 131 P X (38, [some (vr (some 3) 9), some (vi k), some (vi (μ (331 + 4 * k))), some (vi (μ (330 + 4 * k))), some (vi (μ (333 + 4 * k))), some (vi 0), none], [vi (μ (332 + 4 * k))], (J29, H), 1, 6)
  refine WP.go 1 ?_
  show WP (Call d) 131 P X (39, [some (vr (some 3) 9), some (vi k), some (vi (μ (331 + 4 * k))), some (vi (μ (330 + 4 * k))), some (vi (μ (333 + 4 * k))), some (vi 0), some (vi (μ (332 + 4 * k)))], [], (J29, H), 1, 6)
  have lp39 : ∀ (n9 : Nat) (K : qI) (s9 : Int) (y : Int) (hm : μ (333 + 4 * k) + 1 - y < (n9 : Int)) (iv0 : μ (332 + 4 * k) ≤ y ∧ y ≤ μ (333 + 4 * k) + 1) (iv1 : s9 = wI (fun y => RNT μ (μ (331 + 4 * k)) y (cs (μ (330 + 4 * k)))) (μ (332 + 4 * k)) y) (iv2 : ∀ a, a ≠ 82 → a ≠ 83 → a ≠ 84 → K a = J29 a), WP (Call d) 131 P X (39, [some (vr (some 3) 9), some (vi k), some (vi (μ (331 + 4 * k))), some (vi (μ (330 + 4 * k))), some (vi (μ (333 + 4 * k))), some (vi s9), some (vi y)], [], (K, H), 1, 6) := by
    intro n9
    induction n9 with
    | zero => intro K s9 y hm iv0 iv1 iv2; exact absurd hm (by omega)
    | succ n9 ih39 =>
      intro K s9 y hm iv0 iv1 iv2
      have hXk : SX K := hX_1.fr (iv2 0 (by omega) (by omega) (by omega)) (iv2 1 (by omega) (by omega) (by omega))
      have hTk : TR 6 K μ := hT_2.fr (fun a q1 q2 => iv2 a (by omega) (by omega) (by omega))
      have hOk : OPN μ (-1) 0 (K 80) (K 81) := by rw [iv2 80 (by omega) (by omega) (by omega), iv2 81 (by omega) (by omega) (by omega)]; exact e29
      refine WP.go 3 (And.intro (fun (b41 : μ (333 + 4 * k) < y) => ?_) (fun (b41 : ¬ μ (333 + 4 * k) < y) => ?_))
      ·
        show WP (Call d) 131 P X (55, [some (vr (some 3) 9), some (vi k), some (vi (μ (331 + 4 * k))), some (vi (μ (330 + 4 * k))), some (vi (μ (333 + 4 * k))), some (vi s9), some (vi y)], [], (K, H), 1, 6)
        refine WP.go 2 (And.intro (And.intro (Nat.le_of_ble_eq_true rfl) (Nat.le_of_ble_eq_true rfl)) (And.intro trivial (?_)))
        show P (some (vi s9)) (K, H)
        exact fin_i (by rw [iv1, show y = μ (333 + 4 * k) + 1 by omega]) (h (by omega) _ (fun a q => (iv2 a (by omega) (by omega) (by omega)).trans (f29 a (by omega) (by omega))))
      ·
        show WP (Call d) 131 P X (42, [some (vr (some 3) 9), some (vi k), some (vi (μ (331 + 4 * k))), some (vi (μ (330 + 4 * k))), some (vi (μ (333 + 4 * k))), some (vi s9), some (vi y)], [], (K, H), 1, 6)
        refine WP.go 3 (And.intro (fun (b44 : ¬ y < 100) => (absurd b44 (by omega))) (fun (b44 : y < 100) => ?_))
        show WP (Call d) 131 P X (45, [some (vr (some 3) 9), some (vi k), some (vi (μ (331 + 4 * k))), some (vi (μ (330 + 4 * k))), some (vi (μ (333 + 4 * k))), some (vi s9), some (vi y)], [], (K, H), 1, 6)
        refine WP.go 6 (And.intro (And.intro (Nat.le_of_ble_eq_true rfl) (Nat.le_of_ble_eq_true rfl)) (And.intro rfl (?_)))
        show Call d 159 [vr (some 3) 9, vi (μ (330 + 4 * k)), vi (μ (331 + 4 * k)), vi y] (K, H) _ _
        refine s_11_rentIn (c := (cs (μ (330 + 4 * k)))) (by omega) hS hXk hTk hV hOk ((hL _ w1.1 w1.2).fr (fun a q => (iv2 a (by omega) (by omega) (by omega)).trans (f29 a (by omega) (by omega)))) (by omega) (by omega) (by omega) (fun J50 g50 => ?_)
        show WP (Call d) 131 P X (51, [some (vr (some 3) 9), some (vi k), some (vi (μ (331 + 4 * k))), some (vi (μ (330 + 4 * k))), some (vi (μ (333 + 4 * k))), some (vi s9), some (vi y)], [vi (RNT μ (μ (331 + 4 * k)) y (cs (μ (330 + 4 * k)))), vi s9], (J50, H), 1, 6)
        refine WP.go 4 (Exists.intro (wrp (s9 + (RNT μ (μ (331 + 4 * k)) y (cs (μ (330 + 4 * k)))))) (And.intro rfl (Exists.intro (y + 1) (And.intro (wrp_a (by omega) (by omega)) (?_)))))
        show WP (Call d) 131 P X (39, [some (vr (some 3) 9), some (vi k), some (vi (μ (331 + 4 * k))), some (vi (μ (330 + 4 * k))), some (vi (μ (333 + 4 * k))), some (vi (wrp (s9 + (RNT μ (μ (331 + 4 * k)) y (cs (μ (330 + 4 * k))))))), some (vi (y + 1))], [], (J50, H), 1, 6)
        exact ih39 J50 (wrp (s9 + (RNT μ (μ (331 + 4 * k)) y (cs (μ (330 + 4 * k)))))) (y + 1) (by omega) (by omega) (by rw [wI_s (by omega), ← iv1]) (fun a q1 q2 q3 => (g50 a q1 q2 q3).trans (iv2 a q1 q2 q3))
  exact lp39 ((μ (333 + 4 * k) + 1 - (μ (332 + 4 * k)) : Int).toNat + 1) J29 0 (μ (332 + 4 * k)) (by omega) (by omega) (wI_nil (Int.le_refl _)).symm (fun _ _ _ _ => rfl)

