theorem bz_01 (p : Prop) : bz p = 0 ∨ bz p = 1 := (Classical.em p).elim (fun h => .inr (bz_1 h)) (fun h => .inl (bz_0 h))
theorem s_12_end {d : Nat} {P : Option qV → qH → Prop} {X : Nat → qH → Prop} {I : qI} {H : qS} (hd : 2 ≤ d) {n k : Int} (hS : Shp H) (h6 : I 90 6 = n) (h : ((0 ≤ k ∧ k ≤ n) → ∀ J : qI, J 90 = (fun s => if s = 6 then k else if s = 0 then 0 else I 90 s) → (∀ a, a ≠ 90 → J a = I a) → P (some (vi 1)) (J, H)) ∧ (¬ (0 ≤ k ∧ k ≤ n) → ∀ J : qI, J 90 = (fun s => if s = 0 then 0 else I 90 s) → (∀ a, a ≠ 90 → J a = I a) → P (some (vi 0)) (J, H))) :
    Call d 187 [vr (some 90) 10, vi k] (I, H) P X := by
  obtain ⟨d, rfl⟩ : ∃ e, d = e + 1 := ⟨d - 1, by omega⟩
  show WP (Call d) 187 P X (0, [some (vr (some 90) 10), some (vi k)], [], (I, H), 0, 0)
  refine WP.go 3 (And.intro (And.intro rfl trivial) (?_))
  show WP (Call d) 187 P X (3, [some (vr (some 90) 10), some (vi k)], [], ((upI I 90 0 0), H), 0, 0)
  generalize hq_J0 : (upI I 90 0 0) = J0
  have e_J0 : J0 90 = (fun j => if j = 0 then 0 else I 90 j) := by rw [← hq_J0]; exact upI_self _ _ _ _
  have f_J0 : ∀ a, a ≠ 90 → J0 a = I a := fun a q => by rw [← hq_J0]; exact upI_cell q
  have h60 : J0 90 6 = n := by rw [e_J0]; exact h6
  refine WP.go 4 (And.intro rfl (?_))
  refine rw_i (Q := fun x9 => WP (Call d) 187 P X (7, [some (vr (some 90) 10), some (vi k)], [vi x9, vi 0, vi k], (J0, H), 0, 0)) h60 ?_
  show WP (Call d) 187 P X (7, [some (vr (some 90) 10), some (vi k)], [vi n, vi 0, vi k], (J0, H), 0, 0)
  refine WP.go 1 (And.intro (And.intro (Nat.le_of_ble_eq_true rfl) (Nat.le_of_ble_eq_true rfl)) (And.intro rfl (?_)))
  show Call d 177 [vi k, vi 0, vi n] (J0, H) _ _
  refine s_12_isIn (by omega)  ?_
  show WP (Call d) 187 P X (8, [some (vr (some 90) 10), some (vi k)], [vi (bz (0 ≤ k ∧ k ≤ n))], (J0, H), 0, 0)
  refine WP.go 1 (And.intro (fun (b8 : ¬ bz (0 ≤ k ∧ k ≤ n) = 0) => ?_) (fun (b8 : bz (0 ≤ k ∧ k ≤ n) = 0) => ?_))
  ·
    show WP (Call d) 187 P X (11, [some (vr (some 90) 10), some (vi k)], [], (J0, H), 0, 0)
    have z8 := bz_e1.mp b8
    refine WP.go 3 (And.intro (And.intro rfl trivial) (?_))
    show WP (Call d) 187 P X (14, [some (vr (some 90) 10), some (vi k)], [], ((upI J0 90 6 k), H), 0, 0)
    generalize hq_J1 : (upI J0 90 6 k) = J1
    have e_J1 : J1 90 = (fun j => if j = 6 then k else J0 90 j) := by rw [← hq_J1]; exact upI_self _ _ _ _
    have f_J1 : ∀ a, a ≠ 90 → J1 a = J0 a := fun a q => by rw [← hq_J1]; exact upI_cell q
    refine WP.go 2 (And.intro (And.intro (Nat.le_of_ble_eq_true rfl) (Nat.le_of_ble_eq_true rfl)) (And.intro (Or.inr rfl) (?_)))
    show P (some (vi 1)) (J1, H)
    exact h.1 (by omega) _ (by rw [e_J1, e_J0]) (fun a q => (f_J1 a q).trans (f_J0 a q))
  ·
    show WP (Call d) 187 P X (9, [some (vr (some 90) 10), some (vi k)], [], (J0, H), 0, 0)
    have z8 := bz_e0.mp b8
    refine WP.go 2 (And.intro (And.intro (Nat.le_of_ble_eq_true rfl) (Nat.le_of_ble_eq_true rfl)) (And.intro (Or.inl rfl) (?_)))
    show P (some (vi 0)) (J0, H)
    exact h.2 (by omega) _ e_J0 f_J0

set_option maxRecDepth 20000 in
theorem hl_town {d : Nat} {P : Option qV → qH → Prop} {X : Nat → qH → Prop} {I : qI} {H : qS} {μ : Int → Int} {n : Int} (hd : 44 ≤ d) (hS : Shp H) (hX : SX I) (hT : TR 6 I μ) (hV : IM μ) (hC : CT 27 I) (hsz : I 4 1 = n) (hnn : 0 ≤ n ∧ n ≤ 400) (hby : ∀ j, 0 ≤ j → j < n → 0 ≤ I 5 j ∧ I 5 j ≤ 255) (h : (lnT (I 5) n (tln (I 5) n) μ).1 = -1 → μ 0 < 12 → ∀ (J : qI) (G : qS), CV I H J G (-1) → TR 6 J (uTex (lnT (I 5) n (tln (I 5) n) μ).2) → P (some (vi 0)) (upI J 100 0 (1 + (lnT (I 5) n (tln (I 5) n) μ).2 0), G)) (hy0 : ¬ (lnT (I 5) n (tln (I 5) n) μ).1 = -1 → ∀ (J : qI) (G : qS), CV I H J G (lnT (I 5) n (tln (I 5) n) μ).1 → TR 6 J μ → P (some (vi 1)) (J, G)) (hy2 : (lnT (I 5) n (tln (I 5) n) μ).1 = -1 → ¬ μ 0 < 12 → ∀ (J : qI) (G : qS), CV I H J G (-1) → TR 6 J μ → P (some (vi 2)) (J, G)) :
    Call d 268 [vr (some 3) 9, vr (some 100) 13] (I, H) P X := by
  obtain ⟨d, rfl⟩ : ∃ e, d = e + 1 := ⟨d - 1, by omega⟩
  show WP (Call d) 268 P X (0, [some (vr (some 3) 9), some (vr (some 100) 13), none], [], (I, H), 0, 0)
  refine WP.go 4 (And.intro (And.intro (show 2 ≤ 2 from by decide) (show 12 ≤ 12 from by decide)) (And.intro rfl ?_))
  show Call d 118 [vr (some 3) 9] (I, H) _ _
  refine s_11_town (by omega) hS hX hT hV hC hsz hnn hby hy0 hy2 (fun v1 v2 J G v3 v4 => ?_)
  show WP (Call d) 268 P X (4, [some (vr (some 3) 9), some (vr (some 100) 13), none], [vi (1 + (lnT (I 5) n (tln (I 5) n) μ).2 0), vi 0, vr (some 100) 13], (J, G), 2, 12)
  refine WP.go 5 (And.intro (And.intro rfl (And.intro (by decide) (show (0 : Int) < G.2.1 100 from by rw [show G.2 = H.2 from v3.2.2.2.2.2.2.2, hS.l100]; decide))) (And.intro (And.intro (show 2 ≤ 2 from by decide) (show 12 ≤ 12 from by decide)) (And.intro trivial ?_)))
  exact h v1 v2 J G v3 v4
set_option maxRecDepth 20000 in
theorem hl_lease {d : Nat} {P : Option qV → qH → Prop} {X : Nat → qH → Prop} {I : qI} {H : qS} {μ : Int → Int} {tb : Int → Int} {n : Int} (hd : 44 ≤ d) (hS : Shp H) (hT : TR 6 I μ) (hV : IM μ) (hsz : I 4 1 = n) (hnn : 0 ≤ n ∧ n ≤ 400) (hby : ∀ j, 0 ≤ j → j < n → 0 ≤ I 5 j ∧ I 5 j ≤ 255) (hag : ∀ j, 0 ≤ j → j < n → I 5 j = tb j) (h : (lnT tb n (lln tb n) ls0).1 = -1 → μ 3 < 6 → ∀ (J : qI) (G : qS), CN I H J G μ (lnT tb n (lln tb n) ls0).2.1 → P (some (vi 0)) (upI J 100 0 (μ 3), G)) (hy0 : ¬ (lnT tb n (lln tb n) ls0).1 = -1 → ∀ J : qI, CL I J (lnT tb n (lln tb n) ls0).1 → P (some (vi 1)) (J, H)) (hy2 : (lnT tb n (lln tb n) ls0).1 = -1 → ¬ μ 3 < 6 → ∀ J : qI, CL I J (-1) → P (some (vi 2)) (J, H)) :
    Call d 269 [vr (some 3) 9, vr (some 100) 13] (I, H) P X := by
  obtain ⟨d, rfl⟩ : ∃ e, d = e + 1 := ⟨d - 1, by omega⟩
  show WP (Call d) 269 P X (0, [some (vr (some 3) 9), some (vr (some 100) 13), none], [], (I, H), 0, 0)
  refine WP.go 4 (And.intro (And.intro (show 3 ≤ 3 from by decide) (show 912 ≤ 912 from by decide)) (And.intro rfl ?_))
  show Call d 119 [vr (some 3) 9] (I, H) _ _
  refine s_11_lease (by omega) hS hT hV hsz hnn hby hag hy0 hy2 (fun v1 v2 J G v3 => ?_)
  show WP (Call d) 269 P X (4, [some (vr (some 3) 9), some (vr (some 100) 13), none], [vi (μ 3), vi 0, vr (some 100) 13], (J, G), 3, 912)
  refine WP.go 5 (And.intro (And.intro rfl (And.intro (by decide) (show (0 : Int) < G.2.1 100 from by rw [v3.2.2.2.2.2.2.2.2.2.2.2.l100]; decide))) (And.intro (And.intro (show 3 ≤ 3 from by decide) (show 912 ≤ 912 from by decide)) (And.intro trivial ?_)))
  exact h v1 v2 J G v3
set_option maxRecDepth 20000 in
theorem hl_look {d : Nat} {P : Option qV → qH → Prop} {X : Nat → qH → Prop} {I : qI} {H : qS} {μ : Int → Int} {h9 wh : Int} (hd : 5 ≤ d) (hS : Shp H) (hT : TR 6 I μ) (hV : IM μ) (h : ((0 ≤ h9 ∧ h9 < μ 1) ∧ 0 ≤ wh ∧ wh < 4) → P (some (vi 0)) (upI I 100 0 (LOOK4 μ h9 wh), H)) (hx1 : ¬ (0 ≤ h9 ∧ h9 < μ 1) → P (some (vi 1)) (I, H)) (hx3 : (0 ≤ h9 ∧ h9 < μ 1) ∧ ¬ (0 ≤ wh ∧ wh < 4) → P (some (vi 2)) (I, H)) :
    Call d 270 [vr (some 3) 9, vi h9, vi wh, vr (some 100) 13] (I, H) P X := by
  obtain ⟨d, rfl⟩ : ∃ e, d = e + 1 := ⟨d - 1, by omega⟩
  show WP (Call d) 270 P X (0, [some (vr (some 3) 9), some (vi h9), some (vi wh), some (vr (some 100) 13), none], [], (I, H), 0, 0)
  refine WP.go 6 (And.intro (And.intro (show 2 ≤ 2 from by decide) (show 12 ≤ 12 from by decide)) (And.intro rfl ?_))
  show Call d 121 [vr (some 3) 9, vi h9, vi wh] (I, H) _ _
  refine s_11_look (by omega) hS hT hV (fun v1 => ?_) hx1 hx3
  show WP (Call d) 270 P X (6, [some (vr (some 3) 9), some (vi h9), some (vi wh), some (vr (some 100) 13), none], [vi (LOOK4 μ h9 wh), vi 0, vr (some 100) 13], (I, H), 2, 12)
  refine WP.go 5 (And.intro (And.intro rfl (And.intro (by decide) (show (0 : Int) < H.2.1 100 from by rw [hS.l100]; decide))) (And.intro (And.intro (show 2 ≤ 2 from by decide) (show 12 ≤ 12 from by decide)) (And.intro trivial ?_)))
  exact h v1
set_option maxRecDepth 20000 in
theorem hl_angle {d : Nat} {P : Option qV → qH → Prop} {X : Nat → qH → Prop} {I : qI} {H : qS} {μ : Int → Int} {y : Int} (hd : 7 ≤ d) (hS : Shp H) (hX : SX I) (hT : TR 6 I μ) (hV : IM μ) (h : ((0 ≤ y ∧ y < 100)) → ∀ J : qI, CF I J → P (some (vi 0)) (upI J 100 0 (AN μ y), H)) (hx1 : ¬ ((0 ≤ y ∧ y < 100)) → P (some (vi 1)) (I, H)) :
    Call d 271 [vr (some 3) 9, vi y, vr (some 100) 13] (I, H) P X := by
  obtain ⟨d, rfl⟩ : ∃ e, d = e + 1 := ⟨d - 1, by omega⟩
  show WP (Call d) 271 P X (0, [some (vr (some 3) 9), some (vi y), some (vr (some 100) 13), none], [], (I, H), 0, 0)
  refine WP.go 5 (And.intro (And.intro (show 1 ≤ 1 from by decide) (show 6 ≤ 6 from by decide)) (And.intro rfl ?_))
  show Call d 122 [vr (some 3) 9, vi y] (I, H) _ _
  refine s_11_angle (by omega) hS hX hT hV (fun v1 J v2 => ?_) hx1
  show WP (Call d) 271 P X (5, [some (vr (some 3) 9), some (vi y), some (vr (some 100) 13), none], [vi (AN μ y), vi 0, vr (some 100) 13], (J, H), 1, 6)
  refine WP.go 5 (And.intro (And.intro rfl (And.intro (by decide) (show (0 : Int) < H.2.1 100 from by rw [hS.l100]; decide))) (And.intro (And.intro (show 1 ≤ 1 from by decide) (show 6 ≤ 6 from by decide)) (And.intro trivial ?_)))
  exact h v1 J v2
set_option maxRecDepth 20000 in
theorem hl_rope {d : Nat} {P : Option qV → qH → Prop} {X : Nat → qH → Prop} {I : qI} {H : qS} {μ : Int → Int} {y n : Int} (hd : 4 ≤ d) (hS : Shp H) (hX : SX I) (hT : TR 6 I μ) (hV : IM μ) (h : ((0 ≤ y ∧ y < 100) ∧ 0 ≤ n ∧ n ≤ 20) → ∀ J : qI, CU I J (uRope μ y n) → P (some (vi 0)) (upI J 100 0 (μ (230 + y)), H)) (hx1 : ¬ ((0 ≤ y ∧ y < 100)) → P (some (vi 1)) (I, H)) (hx0 : (0 ≤ y ∧ y < 100) ∧ ¬ (0 ≤ n ∧ n ≤ 20) → P (some (vi 2)) (I, H)) :
    Call d 272 [vr (some 3) 9, vi y, vi n, vr (some 100) 13] (I, H) P X := by
  obtain ⟨d, rfl⟩ : ∃ e, d = e + 1 := ⟨d - 1, by omega⟩
  show WP (Call d) 272 P X (0, [some (vr (some 3) 9), some (vi y), some (vi n), some (vr (some 100) 13), none], [], (I, H), 0, 0)
  refine WP.go 6 (And.intro (And.intro (show 2 ≤ 2 from by decide) (show 12 ≤ 12 from by decide)) (And.intro rfl ?_))
  show Call d 124 [vr (some 3) 9, vi y, vi n] (I, H) _ _
  refine s_11_rope (by omega) hS hX hT hV (fun v1 J v2 => ?_) hx1 hx0
  show WP (Call d) 272 P X (6, [some (vr (some 3) 9), some (vi y), some (vi n), some (vr (some 100) 13), none], [vi (μ (230 + y)), vi 0, vr (some 100) 13], (J, H), 2, 12)
  refine WP.go 5 (And.intro (And.intro rfl (And.intro (by decide) (show (0 : Int) < H.2.1 100 from by rw [hS.l100]; decide))) (And.intro (And.intro (show 2 ≤ 2 from by decide) (show 12 ≤ 12 from by decide)) (And.intro trivial ?_)))
  exact h v1 J v2
set_option maxRecDepth 20000 in
theorem hl_lit {d : Nat} {P : Option qV → qH → Prop} {X : Nat → qH → Prop} {I : qI} {H : qS} {μ : Int → Int} {w hr y : Int} (hd : 7 ≤ d) (hS : Shp H) (hX : SX I) (hT : TR 6 I μ) (hV : IM μ) (h : ((0 ≤ w ∧ w < μ 2) ∧ (0 ≤ hr ∧ hr < 13) ∧ (0 ≤ y ∧ y < 100)) → ∀ J : qI, CF I J → P (some (vi 0)) (upI J 100 0 (bz (LITp μ (AN μ) (HT μ) w hr y)), H)) (hx1 : ¬ ((0 ≤ w ∧ w < μ 2) ∧ (0 ≤ hr ∧ hr < 13) ∧ (0 ≤ y ∧ y < 100)) → P (some (vi 1)) (I, H)) :
    Call d 273 [vr (some 3) 9, vi w, vi hr, vi y, vr (some 100) 13] (I, H) P X := by
  obtain ⟨d, rfl⟩ : ∃ e, d = e + 1 := ⟨d - 1, by omega⟩
  show WP (Call d) 273 P X (0, [some (vr (some 3) 9), some (vi w), some (vi hr), some (vi y), some (vr (some 100) 13), none], [], (I, H), 0, 0)
  refine WP.go 7 (And.intro (And.intro (show 3 ≤ 3 from by decide) (show 18 ≤ 18 from by decide)) (And.intro rfl ?_))
  show Call d 125 [vr (some 3) 9, vi w, vi hr, vi y] (I, H) _ _
  refine s_11_lit (by omega) hS hX hT hV (fun v1 J v2 => ?_) hx1
  show WP (Call d) 273 P X (7, [some (vr (some 3) 9), some (vi w), some (vi hr), some (vi y), some (vr (some 100) 13), none], [vi (bz (LITp μ (AN μ) (HT μ) w hr y)), vi 0, vr (some 100) 13], (J, H), 3, 18)
  rcases bz_01 (LITp μ (AN μ) (HT μ) w hr y) with z | z
  · have h9 := h v1 J v2
    rw [z] at h9 ⊢
    refine WP.go 1 (And.intro (fun _ => ?_) (fun q => absurd rfl q))
    refine WP.go 5 (And.intro (And.intro rfl (And.intro (by decide) (show (0 : Int) < H.2.1 100 from by rw [hS.l100]; decide))) (And.intro (And.intro (show 3 ≤ 3 from by decide) (show 18 ≤ 18 from by decide)) (And.intro trivial ?_)))
    exact h9
  · have h9 := h v1 J v2
    rw [z] at h9 ⊢
    refine WP.go 1 (And.intro (fun q => absurd q (by decide)) (fun _ => ?_))
    refine WP.go 6 (And.intro (And.intro rfl (And.intro (by decide) (show (0 : Int) < H.2.1 100 from by rw [hS.l100]; decide))) (And.intro (And.intro (show 3 ≤ 3 from by decide) (show 18 ≤ 18 from by decide)) (And.intro trivial ?_)))
    exact h9
set_option maxRecDepth 20000 in
theorem hl_light {d : Nat} {P : Option qV → qH → Prop} {X : Nat → qH → Prop} {I : qI} {H : qS} {μ : Int → Int} {w a b : Int} (hd : 7 ≤ d) (hS : Shp H) (hX : SX I) (hT : TR 6 I μ) (hV : IM μ) (h : ((0 ≤ w ∧ w < μ 2) ∧ (0 ≤ a ∧ a < 100) ∧ (0 ≤ b ∧ b < 100) ∧ a ≤ b) → ∀ J : qI, CF I J → P (some (vi 0)) (upI J 100 0 (LGW μ (AN μ) (HT μ) w a b), H)) (hx1 : ¬ ((0 ≤ w ∧ w < μ 2) ∧ (0 ≤ a ∧ a < 100) ∧ (0 ≤ b ∧ b < 100)) → P (some (vi 1)) (I, H)) (hx0 : ((0 ≤ w ∧ w < μ 2) ∧ (0 ≤ a ∧ a < 100) ∧ (0 ≤ b ∧ b < 100)) ∧ b < a → P (some (vi 2)) (I, H)) :
    Call d 274 [vr (some 3) 9, vi w, vi a, vi b, vr (some 100) 13] (I, H) P X := by
  obtain ⟨d, rfl⟩ : ∃ e, d = e + 1 := ⟨d - 1, by omega⟩
  show WP (Call d) 274 P X (0, [some (vr (some 3) 9), some (vi w), some (vi a), some (vi b), some (vr (some 100) 13), none], [], (I, H), 0, 0)
  refine WP.go 7 (And.intro (And.intro (show 4 ≤ 4 from by decide) (show 24 ≤ 24 from by decide)) (And.intro rfl ?_))
  show Call d 126 [vr (some 3) 9, vi w, vi a, vi b] (I, H) _ _
  refine s_11_light (by omega) hS hX hT hV (fun v1 J v2 => ?_) hx1 hx0
  show WP (Call d) 274 P X (7, [some (vr (some 3) 9), some (vi w), some (vi a), some (vi b), some (vr (some 100) 13), none], [vi (LGW μ (AN μ) (HT μ) w a b), vi 0, vr (some 100) 13], (J, H), 4, 24)
  refine WP.go 5 (And.intro (And.intro rfl (And.intro (by decide) (show (0 : Int) < H.2.1 100 from by rw [hS.l100]; decide))) (And.intro (And.intro (show 4 ≤ 4 from by decide) (show 24 ≤ 24 from by decide)) (And.intro trivial ?_)))
  exact h v1 J v2
set_option maxRecDepth 20000 in
theorem hl_bright {d : Nat} {P : Option qV → qH → Prop} {X : Nat → qH → Prop} {I : qI} {H : qS} {μ : Int → Int} {h9 y : Int} (hd : 7 ≤ d) (hS : Shp H) (hX : SX I) (hT : TR 6 I μ) (hV : IM μ) (h : ((0 ≤ h9 ∧ h9 < μ 1) ∧ (0 ≤ y ∧ y < 100)) → ∀ J : qI, CF I J → P (some (vi 0)) (upI J 100 0 (LGH μ (AN μ) (HT μ) h9 y), H)) (hx1 : ¬ ((0 ≤ h9 ∧ h9 < μ 1) ∧ (0 ≤ y ∧ y < 100)) → P (some (vi 1)) (I, H)) :
    Call d 275 [vr (some 3) 9, vi h9, vi y, vr (some 100) 13] (I, H) P X := by
  obtain ⟨d, rfl⟩ : ∃ e, d = e + 1 := ⟨d - 1, by omega⟩
  show WP (Call d) 275 P X (0, [some (vr (some 3) 9), some (vi h9), some (vi y), some (vr (some 100) 13), none], [], (I, H), 0, 0)
  refine WP.go 6 (And.intro (And.intro (show 2 ≤ 2 from by decide) (show 12 ≤ 12 from by decide)) (And.intro rfl ?_))
  show Call d 127 [vr (some 3) 9, vi h9, vi y] (I, H) _ _
  refine s_11_bright (by omega) hS hX hT hV (fun v1 J v2 => ?_) hx1
  show WP (Call d) 275 P X (6, [some (vr (some 3) 9), some (vi h9), some (vi y), some (vr (some 100) 13), none], [vi (LGH μ (AN μ) (HT μ) h9 y), vi 0, vr (some 100) 13], (J, H), 2, 12)
  refine WP.go 5 (And.intro (And.intro rfl (And.intro (by decide) (show (0 : Int) < H.2.1 100 from by rw [hS.l100]; decide))) (And.intro (And.intro (show 2 ≤ 2 from by decide) (show 12 ≤ 12 from by decide)) (And.intro trivial ?_)))
  exact h v1 J v2
set_option maxRecDepth 20000 in
theorem hl_houses {d : Nat} {P : Option qV → qH → Prop} {X : Nat → qH → Prop} {I : qI} {H : qS} {μ : Int → Int} {y wh : Int} (hd : 8 ≤ d) (hS : Shp H) (hX : SX I) (hT : TR 6 I μ) (hV : IM μ) (h : ((0 ≤ y ∧ y < 100) ∧ 0 ≤ wh ∧ wh < 3) → ∀ J : qI, CF I J → P (some (vi 0)) (upI J 100 0 (hB (HSP μ (AN μ) (HT μ) y wh) (μ 1)), H)) (hx1 : ¬ (0 ≤ y ∧ y < 100) → P (some (vi 1)) (I, H)) (hx3 : (0 ≤ y ∧ y < 100) ∧ ¬ (0 ≤ wh ∧ wh < 3) → P (some (vi 2)) (I, H)) :
    Call d 276 [vr (some 3) 9, vi y, vi wh, vr (some 100) 13] (I, H) P X := by
  obtain ⟨d, rfl⟩ : ∃ e, d = e + 1 := ⟨d - 1, by omega⟩
  show WP (Call d) 276 P X (0, [some (vr (some 3) 9), some (vi y), some (vi wh), some (vr (some 100) 13), none], [], (I, H), 0, 0)
  refine WP.go 6 (And.intro (And.intro (show 2 ≤ 2 from by decide) (show 12 ≤ 12 from by decide)) (And.intro rfl ?_))
  show Call d 128 [vr (some 3) 9, vi y, vi wh] (I, H) _ _
  refine s_11_houses (by omega) hS hX hT hV (fun v1 J v2 => ?_) hx1 hx3
  show WP (Call d) 276 P X (6, [some (vr (some 3) 9), some (vi y), some (vi wh), some (vr (some 100) 13), none], [vi (hB (HSP μ (AN μ) (HT μ) y wh) (μ 1)), vi 0, vr (some 100) 13], (J, H), 2, 12)
  refine WP.go 5 (And.intro (And.intro rfl (And.intro (by decide) (show (0 : Int) < H.2.1 100 from by rw [hS.l100]; decide))) (And.intro (And.intro (show 2 ≤ 2 from by decide) (show 12 ≤ 12 from by decide)) (And.intro trivial ?_)))
  exact h v1 J v2
set_option maxRecDepth 20000 in
theorem hl_rent {d : Nat} {P : Option qV → qH → Prop} {X : Nat → qH → Prop} {I : qI} {H : qS} {μ : Int → Int} {l h9 y : Int} {cs : Int → List Int} (hd : 9 ≤ d) (hS : Shp H) (hX : SX I) (hT : TR 6 I μ) (hV : IM μ) (hL : ∀ l, 0 ≤ l → l < μ 3 → LRC I H l (cs l)) (h : ((0 ≤ l ∧ l < μ 3) ∧ (0 ≤ h9 ∧ h9 < μ 1) ∧ (0 ≤ y ∧ y < 100)) → ∀ J : qI, CF I J → P (some (vi 0)) (upI J 100 0 (RNT μ h9 y (cs l)), H)) (hx1 : ¬ ((0 ≤ l ∧ l < μ 3) ∧ (0 ≤ h9 ∧ h9 < μ 1) ∧ (0 ≤ y ∧ y < 100)) → P (some (vi 1)) (I, H)) :
    Call d 277 [vr (some 3) 9, vi l, vi h9, vi y, vr (some 100) 13] (I, H) P X := by
  obtain ⟨d, rfl⟩ : ∃ e, d = e + 1 := ⟨d - 1, by omega⟩
  show WP (Call d) 277 P X (0, [some (vr (some 3) 9), some (vi l), some (vi h9), some (vi y), some (vr (some 100) 13), none], [], (I, H), 0, 0)
  refine WP.go 7 (And.intro (And.intro (show 3 ≤ 3 from by decide) (show 18 ≤ 18 from by decide)) (And.intro rfl ?_))
  show Call d 129 [vr (some 3) 9, vi l, vi h9, vi y] (I, H) _ _
  refine s_11_rent (by omega) hS hX hT hV hL (fun v1 J v2 => ?_) hx1
  show WP (Call d) 277 P X (7, [some (vr (some 3) 9), some (vi l), some (vi h9), some (vi y), some (vr (some 100) 13), none], [vi (RNT μ h9 y (cs l)), vi 0, vr (some 100) 13], (J, H), 3, 18)
  refine WP.go 5 (And.intro (And.intro rfl (And.intro (by decide) (show (0 : Int) < H.2.1 100 from by rw [hS.l100]; decide))) (And.intro (And.intro (show 3 ≤ 3 from by decide) (show 18 ≤ 18 from by decide)) (And.intro trivial ?_)))
  exact h v1 J v2
set_option maxRecDepth 20000 in
theorem hl_let {d : Nat} {P : Option qV → qH → Prop} {X : Nat → qH → Prop} {I : qI} {H : qS} {μ : Int → Int} {a b x y : Int} (hd : 5 ≤ d) (hS : Shp H) (hX : SX I) (hT : TR 6 I μ) (hV : IM μ) (h : (((0 ≤ a ∧ a < μ 3) ∧ (0 ≤ b ∧ b < μ 1) ∧ (0 ≤ x ∧ x < 100) ∧ (0 ≤ y ∧ y < 100)) ∧ x ≤ y ∧ μ 4 < 16) → ∀ J : qI, CU I J (uLet μ a b x y) → P (some (vi 0)) (upI J 100 0 (μ 4), H)) (hx1 : ¬ ((0 ≤ a ∧ a < μ 3) ∧ (0 ≤ b ∧ b < μ 1) ∧ (0 ≤ x ∧ x < 100) ∧ (0 ≤ y ∧ y < 100)) → P (some (vi 1)) (I, H)) (hx0 : ((0 ≤ a ∧ a < μ 3) ∧ (0 ≤ b ∧ b < μ 1) ∧ (0 ≤ x ∧ x < 100) ∧ (0 ≤ y ∧ y < 100)) ∧ y < x → P (some (vi 2)) (I, H)) (hx2 : ((0 ≤ a ∧ a < μ 3) ∧ (0 ≤ b ∧ b < μ 1) ∧ (0 ≤ x ∧ x < 100) ∧ (0 ≤ y ∧ y < 100)) ∧ x ≤ y ∧ ¬ μ 4 < 16 → P (some (vi 3)) (I, H)) :
    Call d 278 [vr (some 3) 9, vi a, vi b, vi x, vi y, vr (some 100) 13] (I, H) P X := by
  obtain ⟨d, rfl⟩ : ∃ e, d = e + 1 := ⟨d - 1, by omega⟩
  show WP (Call d) 278 P X (0, [some (vr (some 3) 9), some (vi a), some (vi b), some (vi x), some (vi y), some (vr (some 100) 13), none], [], (I, H), 0, 0)
  refine WP.go 8 (And.intro (And.intro (show 6 ≤ 6 from by decide) (show 36 ≤ 36 from by decide)) (And.intro rfl ?_))
  show Call d 130 [vr (some 3) 9, vi a, vi b, vi x, vi y] (I, H) _ _
  refine s_11_let (by omega) hS hX hT hV (fun v1 J v2 => ?_) hx1 hx0 hx2
  show WP (Call d) 278 P X (8, [some (vr (some 3) 9), some (vi a), some (vi b), some (vi x), some (vi y), some (vr (some 100) 13), none], [vi (μ 4), vi 0, vr (some 100) 13], (J, H), 6, 36)
  refine WP.go 5 (And.intro (And.intro rfl (And.intro (by decide) (show (0 : Int) < H.2.1 100 from by rw [hS.l100]; decide))) (And.intro (And.intro (show 6 ≤ 6 from by decide) (show 36 ≤ 36 from by decide)) (And.intro trivial ?_)))
  exact h v1 J v2
set_option maxRecDepth 20000 in
theorem hl_due {d : Nat} {P : Option qV → qH → Prop} {X : Nat → qH → Prop} {I : qI} {H : qS} {μ : Int → Int} {k : Int} {cs : Int → List Int} (hd : 9 ≤ d) (hS : Shp H) (hX : SX I) (hT : TR 6 I μ) (hV : IM μ) (hL : ∀ l, 0 ≤ l → l < μ 3 → LRC I H l (cs l)) (h : ((0 ≤ k ∧ k < μ 4)) → ∀ J : qI, CF I J → P (some (vi 0)) (upI J 100 0 (wI (fun y => RNT μ (μ (331 + 4 * k)) y (cs (μ (330 + 4 * k)))) (μ (332 + 4 * k)) (μ (333 + 4 * k) + 1)), H)) (hx1 : ¬ ((0 ≤ k ∧ k < μ 4)) → P (some (vi 1)) (I, H)) :
    Call d 279 [vr (some 3) 9, vi k, vr (some 100) 13] (I, H) P X := by
  obtain ⟨d, rfl⟩ : ∃ e, d = e + 1 := ⟨d - 1, by omega⟩
  show WP (Call d) 279 P X (0, [some (vr (some 3) 9), some (vi k), some (vr (some 100) 13), none], [], (I, H), 0, 0)
  refine WP.go 5 (And.intro (And.intro (show 1 ≤ 1 from by decide) (show 6 ≤ 6 from by decide)) (And.intro rfl ?_))
  show Call d 131 [vr (some 3) 9, vi k] (I, H) _ _
  refine s_11_due (by omega) hS hX hT hV hL (fun v1 J v2 => ?_) hx1
  show WP (Call d) 279 P X (5, [some (vr (some 3) 9), some (vi k), some (vr (some 100) 13), none], [vi (wI (fun y => RNT μ (μ (331 + 4 * k)) y (cs (μ (330 + 4 * k)))) (μ (332 + 4 * k)) (μ (333 + 4 * k) + 1)), vi 0, vr (some 100) 13], (J, H), 1, 6)
  refine WP.go 5 (And.intro (And.intro rfl (And.intro (by decide) (show (0 : Int) < H.2.1 100 from by rw [hS.l100]; decide))) (And.intro (And.intro (show 1 ≤ 1 from by decide) (show 6 ≤ 6 from by decide)) (And.intro trivial ?_)))
  exact h v1 J v2
set_option maxRecDepth 20000 in
theorem hl_promise {d : Nat} {P : Option qV → qH → Prop} {X : Nat → qH → Prop} {I : qI} {H : qS} {μ : Int → Int} {w x y : Int} (hd : 5 ≤ d) (hS : Shp H) (hX : SX I) (hT : TR 6 I μ) (hV : IM μ) (h : (((0 ≤ w ∧ w < μ 2) ∧ (0 ≤ x ∧ x < 100) ∧ (0 ≤ y ∧ y < 100)) ∧ x ≤ y ∧ μ 5 < 16) → ∀ J : qI, CU I J (uPro μ w x y) → P (some (vi 0)) (upI J 100 0 (μ 5), H)) (hx1 : ¬ ((0 ≤ w ∧ w < μ 2) ∧ (0 ≤ x ∧ x < 100) ∧ (0 ≤ y ∧ y < 100)) → P (some (vi 1)) (I, H)) (hx0 : ((0 ≤ w ∧ w < μ 2) ∧ (0 ≤ x ∧ x < 100) ∧ (0 ≤ y ∧ y < 100)) ∧ y < x → P (some (vi 2)) (I, H)) (hx2 : ((0 ≤ w ∧ w < μ 2) ∧ (0 ≤ x ∧ x < 100) ∧ (0 ≤ y ∧ y < 100)) ∧ x ≤ y ∧ ¬ μ 5 < 16 → P (some (vi 3)) (I, H)) :
    Call d 280 [vr (some 3) 9, vi w, vi x, vi y, vr (some 100) 13] (I, H) P X := by
  obtain ⟨d, rfl⟩ : ∃ e, d = e + 1 := ⟨d - 1, by omega⟩
  show WP (Call d) 280 P X (0, [some (vr (some 3) 9), some (vi w), some (vi x), some (vi y), some (vr (some 100) 13), none], [], (I, H), 0, 0)
  refine WP.go 7 (And.intro (And.intro (show 5 ≤ 5 from by decide) (show 30 ≤ 30 from by decide)) (And.intro rfl ?_))
  show Call d 132 [vr (some 3) 9, vi w, vi x, vi y] (I, H) _ _
  refine s_11_promise (by omega) hS hX hT hV (fun v1 J v2 => ?_) hx1 hx0 hx2
  show WP (Call d) 280 P X (7, [some (vr (some 3) 9), some (vi w), some (vi x), some (vi y), some (vr (some 100) 13), none], [vi (μ 5), vi 0, vr (some 100) 13], (J, H), 5, 30)
  refine WP.go 5 (And.intro (And.intro rfl (And.intro (by decide) (show (0 : Int) < H.2.1 100 from by rw [hS.l100]; decide))) (And.intro (And.intro (show 5 ≤ 5 from by decide) (show 30 ≤ 30 from by decide)) (And.intro trivial ?_)))
  exact h v1 J v2
set_option maxRecDepth 20000 in
theorem hl_broken {d : Nat} {P : Option qV → qH → Prop} {X : Nat → qH → Prop} {I : qI} {H : qS} {μ : Int → Int} {k : Int} (hd : 7 ≤ d) (hS : Shp H) (hX : SX I) (hT : TR 6 I μ) (hV : IM μ) (h : ((0 ≤ k ∧ k < μ 5)) → ∀ J : qI, CF I J → P (some (vi 0)) (upI J 100 0 (fI (fun y => ¬ LITp μ (AN μ) (HT μ) (μ (394 + 3 * k)) 6 y) (μ (395 + 3 * k)) (μ (396 + 3 * k) + 1)), H)) (hx1 : ¬ ((0 ≤ k ∧ k < μ 5)) → P (some (vi 1)) (I, H)) :
    Call d 281 [vr (some 3) 9, vi k, vr (some 100) 13] (I, H) P X := by
  obtain ⟨d, rfl⟩ : ∃ e, d = e + 1 := ⟨d - 1, by omega⟩
  show WP (Call d) 281 P X (0, [some (vr (some 3) 9), some (vi k), some (vr (some 100) 13), none], [], (I, H), 0, 0)
  refine WP.go 5 (And.intro (And.intro (show 1 ≤ 1 from by decide) (show 6 ≤ 6 from by decide)) (And.intro rfl ?_))
  show Call d 133 [vr (some 3) 9, vi k] (I, H) _ _
  refine s_11_broken (by omega) hS hX hT hV (fun v1 J v2 => ?_) hx1
  show WP (Call d) 281 P X (5, [some (vr (some 3) 9), some (vi k), some (vr (some 100) 13), none], [vi (fI (fun y => ¬ LITp μ (AN μ) (HT μ) (μ (394 + 3 * k)) 6 y) (μ (395 + 3 * k)) (μ (396 + 3 * k) + 1)), vi 0, vr (some 100) 13], (J, H), 1, 6)
  refine WP.go 5 (And.intro (And.intro rfl (And.intro (by decide) (show (0 : Int) < H.2.1 100 from by rw [hS.l100]; decide))) (And.intro (And.intro (show 1 ≤ 1 from by decide) (show 6 ≤ 6 from by decide)) (And.intro trivial ?_)))
  exact h v1 J v2
set_option maxRecDepth 20000 in
theorem hl_level {d : Nat} {P : Option qV → qH → Prop} {X : Nat → qH → Prop} {I : qI} {H : qS} {μ : Int → Int} {c y : Int} (hd : 7 ≤ d) (hS : Shp H) (hX : SX I) (hT : TR 6 I μ) (hV : IM μ) (h : ((0 ≤ c ∧ c < 81) ∧ (0 ≤ y ∧ y < 100)) → ∀ J : qI, CF I J → P (some (vi 0)) (upI J 100 0 (LVL μ (AN μ) c y), H)) (hx1 : ¬ ((0 ≤ c ∧ c < 81) ∧ (0 ≤ y ∧ y < 100)) → P (some (vi 1)) (I, H)) :
    Call d 282 [vr (some 3) 9, vi c, vi y, vr (some 100) 13] (I, H) P X := by
  obtain ⟨d, rfl⟩ : ∃ e, d = e + 1 := ⟨d - 1, by omega⟩
  show WP (Call d) 282 P X (0, [some (vr (some 3) 9), some (vi c), some (vi y), some (vr (some 100) 13), none], [], (I, H), 0, 0)
  refine WP.go 6 (And.intro (And.intro (show 2 ≤ 2 from by decide) (show 12 ≤ 12 from by decide)) (And.intro rfl ?_))
  show Call d 135 [vr (some 3) 9, vi c, vi y] (I, H) _ _
  refine s_11_level (by omega) hS hX hT hV (fun v1 J v2 => ?_) hx1
  show WP (Call d) 282 P X (6, [some (vr (some 3) 9), some (vi c), some (vi y), some (vr (some 100) 13), none], [vi (LVL μ (AN μ) c y), vi 0, vr (some 100) 13], (J, H), 2, 12)
  refine WP.go 5 (And.intro (And.intro rfl (And.intro (by decide) (show (0 : Int) < H.2.1 100 from by rw [hS.l100]; decide))) (And.intro (And.intro (show 2 ≤ 2 from by decide) (show 12 ≤ 12 from by decide)) (And.intro trivial ?_)))
  exact h v1 J v2
set_option maxRecDepth 20000 in
theorem hl_drain {d : Nat} {P : Option qV → qH → Prop} {X : Nat → qH → Prop} {I : qI} {H : qS} {μ : Int → Int} {x y : Int} (hd : 4 ≤ d) (hS : Shp H) (hX : SX I) (hT : TR 6 I μ) (hV : IM μ) (h : (((0 ≤ x ∧ x < 81) ∧ (0 ≤ y ∧ y < 81)) ∧ x ≠ y ∧ μ 6 < 8) → ∀ J : qI, CU I J (uDra μ x y) → P (some (vi 0)) (upI J 100 0 (μ 6), H)) (hx1 : ¬ ((0 ≤ x ∧ x < 81) ∧ (0 ≤ y ∧ y < 81)) → P (some (vi 1)) (I, H)) (hx0 : ((0 ≤ x ∧ x < 81) ∧ (0 ≤ y ∧ y < 81)) ∧ x = y → P (some (vi 2)) (I, H)) (hx2 : ((0 ≤ x ∧ x < 81) ∧ (0 ≤ y ∧ y < 81)) ∧ x ≠ y ∧ ¬ μ 6 < 8 → P (some (vi 3)) (I, H)) :
    Call d 283 [vr (some 3) 9, vi x, vi y, vr (some 100) 13] (I, H) P X := by
  obtain ⟨d, rfl⟩ : ∃ e, d = e + 1 := ⟨d - 1, by omega⟩
  show WP (Call d) 283 P X (0, [some (vr (some 3) 9), some (vi x), some (vi y), some (vr (some 100) 13), none], [], (I, H), 0, 0)
  refine WP.go 6 (And.intro (And.intro (show 4 ≤ 4 from by decide) (show 24 ≤ 24 from by decide)) (And.intro rfl ?_))
  show Call d 136 [vr (some 3) 9, vi x, vi y] (I, H) _ _
  refine s_11_drain (by omega) hS hX hT hV (fun v1 J v2 => ?_) hx1 hx0 hx2
  show WP (Call d) 283 P X (6, [some (vr (some 3) 9), some (vi x), some (vi y), some (vr (some 100) 13), none], [vi (μ 6), vi 0, vr (some 100) 13], (J, H), 4, 24)
  refine WP.go 5 (And.intro (And.intro rfl (And.intro (by decide) (show (0 : Int) < H.2.1 100 from by rw [hS.l100]; decide))) (And.intro (And.intro (show 4 ≤ 4 from by decide) (show 24 ≤ 24 from by decide)) (And.intro trivial ?_)))
  exact h v1 J v2
set_option maxRecDepth 20000 in
theorem hl_runs {d : Nat} {P : Option qV → qH → Prop} {X : Nat → qH → Prop} {I : qI} {H : qS} {μ : Int → Int} {k y : Int} (hd : 7 ≤ d) (hS : Shp H) (hX : SX I) (hT : TR 6 I μ) (hV : IM μ) (h : ((0 ≤ k ∧ k < μ 6) ∧ (0 ≤ y ∧ y < 100)) → ∀ J : qI, CF I J → P (some (vi 0)) (upI J 100 0 (bz (RUNp μ (AN μ) k y)), H)) (hx1 : ¬ ((0 ≤ k ∧ k < μ 6) ∧ (0 ≤ y ∧ y < 100)) → P (some (vi 1)) (I, H)) :
    Call d 284 [vr (some 3) 9, vi k, vi y, vr (some 100) 13] (I, H) P X := by
  obtain ⟨d, rfl⟩ : ∃ e, d = e + 1 := ⟨d - 1, by omega⟩
  show WP (Call d) 284 P X (0, [some (vr (some 3) 9), some (vi k), some (vi y), some (vr (some 100) 13), none], [], (I, H), 0, 0)
  refine WP.go 6 (And.intro (And.intro (show 2 ≤ 2 from by decide) (show 12 ≤ 12 from by decide)) (And.intro rfl ?_))
  show Call d 137 [vr (some 3) 9, vi k, vi y] (I, H) _ _
  refine s_11_runs (by omega) hS hX hT hV (fun v1 J v2 => ?_) hx1
  show WP (Call d) 284 P X (6, [some (vr (some 3) 9), some (vi k), some (vi y), some (vr (some 100) 13), none], [vi (bz (RUNp μ (AN μ) k y)), vi 0, vr (some 100) 13], (J, H), 2, 12)
  rcases bz_01 (RUNp μ (AN μ) k y) with z | z
  · have h9 := h v1 J v2
    rw [z] at h9 ⊢
    refine WP.go 1 (And.intro (fun _ => ?_) (fun q => absurd rfl q))
    refine WP.go 5 (And.intro (And.intro rfl (And.intro (by decide) (show (0 : Int) < H.2.1 100 from by rw [hS.l100]; decide))) (And.intro (And.intro (show 2 ≤ 2 from by decide) (show 12 ≤ 12 from by decide)) (And.intro trivial ?_)))
    exact h9
  · have h9 := h v1 J v2
    rw [z] at h9 ⊢
    refine WP.go 1 (And.intro (fun q => absurd q (by decide)) (fun _ => ?_))
    refine WP.go 6 (And.intro (And.intro rfl (And.intro (by decide) (show (0 : Int) < H.2.1 100 from by rw [hS.l100]; decide))) (And.intro (And.intro (show 2 ≤ 2 from by decide) (show 12 ≤ 12 from by decide)) (And.intro trivial ?_)))
    exact h9
set_option maxRecDepth 20000 in
theorem hl_uphill {d : Nat} {P : Option qV → qH → Prop} {X : Nat → qH → Prop} {I : qI} {H : qS} {μ : Int → Int} {k v : Int} (hd : 7 ≤ d) (hS : Shp H) (hX : SX I) (hT : TR 6 I μ) (hV : IM μ) (h : ((0 ≤ k ∧ k < μ 6)) → ∀ J : qI, CF I J → P (some (vi 0)) (upI J 100 0 (UPH μ (AN μ) k v), H)) (hx1 : ¬ ((0 ≤ k ∧ k < μ 6)) → P (some (vi 1)) (I, H)) :
    Call d 285 [vr (some 3) 9, vi k, vi v, vr (some 100) 13] (I, H) P X := by
  obtain ⟨d, rfl⟩ : ∃ e, d = e + 1 := ⟨d - 1, by omega⟩
  show WP (Call d) 285 P X (0, [some (vr (some 3) 9), some (vi k), some (vi v), some (vr (some 100) 13), none], [], (I, H), 0, 0)
  refine WP.go 6 (And.intro (And.intro (show 1 ≤ 1 from by decide) (show 6 ≤ 6 from by decide)) (And.intro rfl ?_))
  show Call d 138 [vr (some 3) 9, vi k, vi v] (I, H) _ _
  refine s_11_uphill (by omega) hS hX hT hV (fun v1 J v2 => ?_) hx1
  show WP (Call d) 285 P X (6, [some (vr (some 3) 9), some (vi k), some (vi v), some (vr (some 100) 13), none], [vi (UPH μ (AN μ) k v), vi 0, vr (some 100) 13], (J, H), 1, 6)
  refine WP.go 5 (And.intro (And.intro rfl (And.intro (by decide) (show (0 : Int) < H.2.1 100 from by rw [hS.l100]; decide))) (And.intro (And.intro (show 1 ≤ 1 from by decide) (show 6 ≤ 6 from by decide)) (And.intro trivial ?_)))
  exact h v1 J v2
set_option maxRecDepth 20000 in
theorem hl_pool {d : Nat} {P : Option qV → qH → Prop} {X : Nat → qH → Prop} {I : qI} {H : qS} {μ : Int → Int} {c y : Int} (hd : 7 ≤ d) (hS : Shp H) (hX : SX I) (hT : TR 6 I μ) (hV : IM μ) (h : ((0 ≤ c ∧ c < 81) ∧ (0 ≤ y ∧ y < 100)) → ∀ J : qI, CF I J → P (some (vi 0)) (upI J 100 0 (POOL μ (AN μ) (HT μ) c y), H)) (hx1 : ¬ ((0 ≤ c ∧ c < 81) ∧ (0 ≤ y ∧ y < 100)) → P (some (vi 1)) (I, H)) :
    Call d 286 [vr (some 3) 9, vi c, vi y, vr (some 100) 13] (I, H) P X := by
  obtain ⟨d, rfl⟩ : ∃ e, d = e + 1 := ⟨d - 1, by omega⟩
  show WP (Call d) 286 P X (0, [some (vr (some 3) 9), some (vi c), some (vi y), some (vr (some 100) 13), none], [], (I, H), 0, 0)
  refine WP.go 6 (And.intro (And.intro (show 2 ≤ 2 from by decide) (show 12 ≤ 12 from by decide)) (And.intro rfl ?_))
  show Call d 139 [vr (some 3) 9, vi c, vi y] (I, H) _ _
  refine s_11_pool (by omega) hS hX hT hV (fun v1 J v2 => ?_) hx1
  show WP (Call d) 286 P X (6, [some (vr (some 3) 9), some (vi c), some (vi y), some (vr (some 100) 13), none], [vi (POOL μ (AN μ) (HT μ) c y), vi 0, vr (some 100) 13], (J, H), 2, 12)
  refine WP.go 5 (And.intro (And.intro rfl (And.intro (by decide) (show (0 : Int) < H.2.1 100 from by rw [hS.l100]; decide))) (And.intro (And.intro (show 2 ≤ 2 from by decide) (show 12 ≤ 12 from by decide)) (And.intro trivial ?_)))
  exact h v1 J v2
set_option maxRecDepth 20000 in
theorem hl_name {d : Nat} {P : Option qV → qH → Prop} {X : Nat → qH → Prop} {I : qI} {H : qS} {μ : Int → Int} {p y un : Int} (hd : 7 ≤ d) (hS : Shp H) (hX : SX I) (hT : TR 6 I μ) (hV : IM μ) (h : ((0 ≤ p ∧ p < 8) ∧ (0 ≤ y ∧ y < 100)) → ∀ J : qI, CF I J → P (some (vi 0)) (upI J 100 0 (NAM μ (AN μ) p y un), H)) (hx1 : ¬ ((0 ≤ p ∧ p < 8) ∧ (0 ≤ y ∧ y < 100)) → P (some (vi 1)) (I, H)) :
    Call d 287 [vr (some 3) 9, vi p, vi y, vi un, vr (some 100) 13] (I, H) P X := by
  obtain ⟨d, rfl⟩ : ∃ e, d = e + 1 := ⟨d - 1, by omega⟩
  show WP (Call d) 287 P X (0, [some (vr (some 3) 9), some (vi p), some (vi y), some (vi un), some (vr (some 100) 13), none], [], (I, H), 0, 0)
  refine WP.go 7 (And.intro (And.intro (show 2 ≤ 2 from by decide) (show 12 ≤ 12 from by decide)) (And.intro rfl ?_))
  show Call d 140 [vr (some 3) 9, vi p, vi y, vi un] (I, H) _ _
  refine s_11_name (by omega) hS hX hT hV (fun v1 J v2 => ?_) hx1
  show WP (Call d) 287 P X (7, [some (vr (some 3) 9), some (vi p), some (vi y), some (vi un), some (vr (some 100) 13), none], [vi (NAM μ (AN μ) p y un), vi 0, vr (some 100) 13], (J, H), 2, 12)
  refine WP.go 5 (And.intro (And.intro rfl (And.intro (by decide) (show (0 : Int) < H.2.1 100 from by rw [hS.l100]; decide))) (And.intro (And.intro (show 2 ≤ 2 from by decide) (show 12 ≤ 12 from by decide)) (And.intro trivial ?_)))
  exact h v1 J v2
set_option maxRecDepth 20000 in
theorem hl_walk {d : Nat} {P : Option qV → qH → Prop} {X : Nat → qH → Prop} {I : qI} {H : qS} {μ : Int → Int} {n c y : Int} (hd : 44 ≤ d) (hS : Shp H) (hX : SX I) (hT : TR 6 I μ) (hV : IM μ) (hsz : I 4 1 = n) (hnn : 0 ≤ n ∧ n ≤ 400) (hby : ∀ j, 0 ≤ j → j < n → 0 ≤ I 5 j ∧ I 5 j ≤ 255) (h : ((0 ≤ c ∧ c < 81) ∧ (0 ≤ y ∧ y < 100)) → (lnT (I 5) n (wln (I 5) n (AN μ y)) c).1 = -1 → ∀ J : qI, CW I J (-1) → P (some (vi 0)) (upI J 100 0 ((lnT (I 5) n (wln (I 5) n (AN μ y)) c).2), H)) (hy1 : ¬ ((0 ≤ c ∧ c < 81) ∧ (0 ≤ y ∧ y < 100)) → ∀ J : qI, CW I J (I 3 11) → P (some (vi 1)) (J, H)) (hy0 : ((0 ≤ c ∧ c < 81) ∧ (0 ≤ y ∧ y < 100)) → ¬ (lnT (I 5) n (wln (I 5) n (AN μ y)) c).1 = -1 → ∀ J : qI, CW I J (lnT (I 5) n (wln (I 5) n (AN μ y)) c).1 → P (some (vi 2)) (J, H)) :
    Call d 288 [vr (some 3) 9, vi c, vi y, vr (some 100) 13] (I, H) P X := by
  obtain ⟨d, rfl⟩ : ∃ e, d = e + 1 := ⟨d - 1, by omega⟩
  show WP (Call d) 288 P X (0, [some (vr (some 3) 9), some (vi c), some (vi y), some (vr (some 100) 13), none], [], (I, H), 0, 0)
  refine WP.go 6 (And.intro (And.intro (show 3 ≤ 3 from by decide) (show 18 ≤ 18 from by decide)) (And.intro rfl ?_))
  show Call d 141 [vr (some 3) 9, vi c, vi y] (I, H) _ _
  refine s_11_walk (by omega) hS hX hT hV hsz hnn hby hy1 hy0 (fun v1 v2 J v3 => ?_)
  show WP (Call d) 288 P X (6, [some (vr (some 3) 9), some (vi c), some (vi y), some (vr (some 100) 13), none], [vi ((lnT (I 5) n (wln (I 5) n (AN μ y)) c).2), vi 0, vr (some 100) 13], (J, H), 3, 18)
  refine WP.go 5 (And.intro (And.intro rfl (And.intro (by decide) (show (0 : Int) < H.2.1 100 from by rw [hS.l100]; decide))) (And.intro (And.intro (show 3 ≤ 3 from by decide) (show 18 ≤ 18 from by decide)) (And.intro trivial ?_)))
  exact h v1 v2 J v3
set_option maxRecDepth 20000 in
theorem hl_build {d : Nat} {P : Option qV → qH → Prop} {X : Nat → qH → Prop} {I : qI} {H : qS} {μ : Int → Int} {h9 b : Int} (hd : 5 ≤ d) (hS : Shp H) (hX : SX I) (hT : TR 6 I μ) (hV : IM μ) (h : ((0 ≤ h9 ∧ h9 < μ 1) ∧ (1 ≤ b ∧ b < 30 ∧ μ (121 + 2 * h9) + b ≤ 30)) → ∀ J : qI, CU I J (uBld μ h9 b) → P (some (vi 0)) (upI J 100 0 (μ (121 + 2 * h9) + b), H)) (hx1 : ¬ ((0 ≤ h9 ∧ h9 < μ 1)) → P (some (vi 1)) (I, H)) (hx0 : (0 ≤ h9 ∧ h9 < μ 1) ∧ ¬ (1 ≤ b ∧ b < 30 ∧ μ (121 + 2 * h9) + b ≤ 30) → P (some (vi 2)) (I, H)) :
    Call d 289 [vr (some 3) 9, vi h9, vi b, vr (some 100) 13] (I, H) P X := by
  obtain ⟨d, rfl⟩ : ∃ e, d = e + 1 := ⟨d - 1, by omega⟩
  show WP (Call d) 289 P X (0, [some (vr (some 3) 9), some (vi h9), some (vi b), some (vr (some 100) 13), none], [], (I, H), 0, 0)
  refine WP.go 6 (And.intro (And.intro (show 2 ≤ 2 from by decide) (show 12 ≤ 12 from by decide)) (And.intro rfl ?_))
  show Call d 142 [vr (some 3) 9, vi h9, vi b] (I, H) _ _
  refine s_11_build (by omega) hS hX hT hV (fun v1 J v2 => ?_) hx1 hx0
  show WP (Call d) 289 P X (6, [some (vr (some 3) 9), some (vi h9), some (vi b), some (vr (some 100) 13), none], [vi (μ (121 + 2 * h9) + b), vi 0, vr (some 100) 13], (J, H), 2, 12)
  refine WP.go 5 (And.intro (And.intro rfl (And.intro (by decide) (show (0 : Int) < H.2.1 100 from by rw [hS.l100]; decide))) (And.intro (And.intro (show 2 ≤ 2 from by decide) (show 12 ≤ 12 from by decide)) (And.intro trivial ?_)))
  exact h v1 J v2
set_option maxRecDepth 20000 in
theorem hl_lost {d : Nat} {P : Option qV → qH → Prop} {X : Nat → qH → Prop} {I : qI} {H : qS} {μ : Int → Int} {h9 b w x y : Int} (hd : 8 ≤ d) (hS : Shp H) (hX : SX I) (hT : TR 6 I μ) (hV : IM μ) (h : (((0 ≤ h9 ∧ h9 < μ 1) ∧ (0 ≤ w ∧ w < μ 2) ∧ (0 ≤ x ∧ x < 100) ∧ (0 ≤ y ∧ y < 100)) ∧ (1 ≤ b ∧ b < 30 ∧ μ (121 + 2 * h9) + b ≤ 30) ∧ x ≤ y) → ∀ J : qI, CF I J → P (some (vi 0)) (upI J 100 0 (LST μ h9 b w x y), H)) (hx1 : ¬ ((0 ≤ h9 ∧ h9 < μ 1) ∧ (0 ≤ w ∧ w < μ 2) ∧ (0 ≤ x ∧ x < 100) ∧ (0 ≤ y ∧ y < 100)) → P (some (vi 1)) (I, H)) (hx0 : ((0 ≤ h9 ∧ h9 < μ 1) ∧ (0 ≤ w ∧ w < μ 2) ∧ (0 ≤ x ∧ x < 100) ∧ (0 ≤ y ∧ y < 100)) ∧ ¬ ((1 ≤ b ∧ b < 30 ∧ μ (121 + 2 * h9) + b ≤ 30) ∧ x ≤ y) → P (some (vi 2)) (I, H)) :
    Call d 290 [vr (some 3) 9, vi h9, vi b, vi w, vi x, vi y, vr (some 100) 13] (I, H) P X := by
  obtain ⟨d, rfl⟩ : ∃ e, d = e + 1 := ⟨d - 1, by omega⟩
  show WP (Call d) 290 P X (0, [some (vr (some 3) 9), some (vi h9), some (vi b), some (vi w), some (vi x), some (vi y), some (vr (some 100) 13), none], [], (I, H), 0, 0)
  refine WP.go 9 (And.intro (And.intro (show 6 ≤ 6 from by decide) (show 36 ≤ 36 from by decide)) (And.intro rfl ?_))
  show Call d 144 [vr (some 3) 9, vi h9, vi b, vi w, vi x, vi y] (I, H) _ _
  refine s_11_lost (by omega) hS hX hT hV (fun v1 J v2 => ?_) hx1 hx0
  show WP (Call d) 290 P X (9, [some (vr (some 3) 9), some (vi h9), some (vi b), some (vi w), some (vi x), some (vi y), some (vr (some 100) 13), none], [vi (LST μ h9 b w x y), vi 0, vr (some 100) 13], (J, H), 6, 36)
  refine WP.go 5 (And.intro (And.intro rfl (And.intro (by decide) (show (0 : Int) < H.2.1 100 from by rw [hS.l100]; decide))) (And.intro (And.intro (show 6 ≤ 6 from by decide) (show 36 ≤ 36 from by decide)) (And.intro trivial ?_)))
  exact h v1 J v2
set_option maxRecDepth 20000 in
theorem hl_takes {d : Nat} {P : Option qV → qH → Prop} {X : Nat → qH → Prop} {I : qI} {H : qS} {μ : Int → Int} {h9 b x y : Int} (hd : 8 ≤ d) (hS : Shp H) (hX : SX I) (hT : TR 6 I μ) (hV : IM μ) (h : (((0 ≤ h9 ∧ h9 < μ 1) ∧ (0 ≤ x ∧ x < 100) ∧ (0 ≤ y ∧ y < 100)) ∧ (1 ≤ b ∧ b < 30 ∧ μ (121 + 2 * h9) + b ≤ 30) ∧ x ≤ y) → ∀ J : qI, CF I J → P (some (vi 0)) (upI J 100 0 (hB (fun w => 0 < LST μ h9 b w x y) (μ 2)), H)) (hx1 : ¬ ((0 ≤ h9 ∧ h9 < μ 1) ∧ (0 ≤ x ∧ x < 100) ∧ (0 ≤ y ∧ y < 100)) → P (some (vi 1)) (I, H)) (hx0 : ((0 ≤ h9 ∧ h9 < μ 1) ∧ (0 ≤ x ∧ x < 100) ∧ (0 ≤ y ∧ y < 100)) ∧ ¬ ((1 ≤ b ∧ b < 30 ∧ μ (121 + 2 * h9) + b ≤ 30) ∧ x ≤ y) → P (some (vi 2)) (I, H)) :
    Call d 291 [vr (some 3) 9, vi h9, vi b, vi x, vi y, vr (some 100) 13] (I, H) P X := by
  obtain ⟨d, rfl⟩ : ∃ e, d = e + 1 := ⟨d - 1, by omega⟩
  show WP (Call d) 291 P X (0, [some (vr (some 3) 9), some (vi h9), some (vi b), some (vi x), some (vi y), some (vr (some 100) 13), none], [], (I, H), 0, 0)
  refine WP.go 8 (And.intro (And.intro (show 5 ≤ 5 from by decide) (show 30 ≤ 30 from by decide)) (And.intro rfl ?_))
  show Call d 145 [vr (some 3) 9, vi h9, vi b, vi x, vi y] (I, H) _ _
  refine s_11_takes (by omega) hS hX hT hV (fun v1 J v2 => ?_) hx1 hx0
  show WP (Call d) 291 P X (8, [some (vr (some 3) 9), some (vi h9), some (vi b), some (vi x), some (vi y), some (vr (some 100) 13), none], [vi (hB (fun w => 0 < LST μ h9 b w x y) (μ 2)), vi 0, vr (some 100) 13], (J, H), 5, 30)
  refine WP.go 5 (And.intro (And.intro rfl (And.intro (by decide) (show (0 : Int) < H.2.1 100 from by rw [hS.l100]; decide))) (And.intro (And.intro (show 5 ≤ 5 from by decide) (show 30 ≤ 30 from by decide)) (And.intro trivial ?_)))
  exact h v1 J v2
set_option maxRecDepth 20000 in
theorem hl_gable {d : Nat} {P : Option qV → qH → Prop} {X : Nat → qH → Prop} {I : qI} {H : qS} {μ : Int → Int} {h9 w x y : Int} (hd : 8 ≤ d) (hS : Shp H) (hX : SX I) (hT : TR 6 I μ) (hV : IM μ) (h : (((0 ≤ h9 ∧ h9 < μ 1) ∧ (0 ≤ w ∧ w < μ 2) ∧ (0 ≤ x ∧ x < 100) ∧ (0 ≤ y ∧ y < 100)) ∧ x ≤ y) → ∀ J : qI, CF I J → P (some (vi 0)) (upI J 100 0 (GAB μ h9 w x y), H)) (hx1 : ¬ ((0 ≤ h9 ∧ h9 < μ 1) ∧ (0 ≤ w ∧ w < μ 2) ∧ (0 ≤ x ∧ x < 100) ∧ (0 ≤ y ∧ y < 100)) → P (some (vi 1)) (I, H)) (hx0 : ((0 ≤ h9 ∧ h9 < μ 1) ∧ (0 ≤ w ∧ w < μ 2) ∧ (0 ≤ x ∧ x < 100) ∧ (0 ≤ y ∧ y < 100)) ∧ y < x → P (some (vi 2)) (I, H)) :
    Call d 292 [vr (some 3) 9, vi h9, vi w, vi x, vi y, vr (some 100) 13] (I, H) P X := by
  obtain ⟨d, rfl⟩ : ∃ e, d = e + 1 := ⟨d - 1, by omega⟩
  show WP (Call d) 292 P X (0, [some (vr (some 3) 9), some (vi h9), some (vi w), some (vi x), some (vi y), some (vr (some 100) 13), none], [], (I, H), 0, 0)
  refine WP.go 8 (And.intro (And.intro (show 5 ≤ 5 from by decide) (show 30 ≤ 30 from by decide)) (And.intro rfl ?_))
  show Call d 146 [vr (some 3) 9, vi h9, vi w, vi x, vi y] (I, H) _ _
  refine s_11_gable (by omega) hS hX hT hV (fun v1 J v2 => ?_) hx1 hx0
  show WP (Call d) 292 P X (8, [some (vr (some 3) 9), some (vi h9), some (vi w), some (vi x), some (vi y), some (vr (some 100) 13), none], [vi (GAB μ h9 w x y), vi 0, vr (some 100) 13], (J, H), 5, 30)
  refine WP.go 5 (And.intro (And.intro rfl (And.intro (by decide) (show (0 : Int) < H.2.1 100 from by rw [hS.l100]; decide))) (And.intro (And.intro (show 5 ≤ 5 from by decide) (show 30 ≤ 30 from by decide)) (And.intro trivial ?_)))
  exact h v1 J v2
set_option maxRecDepth 20000 in
theorem hl_wants {d : Nat} {P : Option qV → qH → Prop} {X : Nat → qH → Prop} {I : qI} {H : qS} {μ : Int → Int} {f x y : Int} (hd : 5 ≤ d) (hS : Shp H) (hX : SX I) (hT : TR 6 I μ) (hV : IM μ) (h : (((0 ≤ f ∧ f < μ 1) ∧ (0 ≤ x ∧ x < 100) ∧ (0 ≤ y ∧ y < 100)) ∧ x ≤ y) → ∀ J : qI, CU I J (uWan μ f x y) → P (some (vi 0)) (J, H)) (hx1 : ¬ ((0 ≤ f ∧ f < μ 1) ∧ (0 ≤ x ∧ x < 100) ∧ (0 ≤ y ∧ y < 100)) → P (some (vi 1)) (I, H)) (hx0 : ((0 ≤ f ∧ f < μ 1) ∧ (0 ≤ x ∧ x < 100) ∧ (0 ≤ y ∧ y < 100)) ∧ y < x → P (some (vi 2)) (I, H)) :
    Call d 293 [vr (some 3) 9, vi f, vi x, vi y] (I, H) P X := by
  obtain ⟨d, rfl⟩ : ∃ e, d = e + 1 := ⟨d - 1, by omega⟩
  show WP (Call d) 293 P X (0, [some (vr (some 3) 9), some (vi f), some (vi x), some (vi y), none], [], (I, H), 0, 0)
  refine WP.go 5 (And.intro (And.intro (show 4 ≤ 4 from by decide) (show 24 ≤ 24 from by decide)) (And.intro rfl ?_))
  show Call d 147 [vr (some 3) 9, vi f, vi x, vi y] (I, H) _ _
  refine s_11_wants (by omega) hS hX hT hV (fun v1 J v2 => ?_) hx1 hx0
  refine WP.go 3 (And.intro (And.intro (show 4 ≤ 4 from by decide) (show 24 ≤ 24 from by decide)) (And.intro trivial ?_))
  exact h v1 J v2
set_option maxRecDepth 20000 in
theorem hl_good {d : Nat} {P : Option qV → qH → Prop} {X : Nat → qH → Prop} {I : qI} {H : qS} {μ : Int → Int} {f h9 : Int} (hd : 7 ≤ d) (hS : Shp H) (hX : SX I) (hT : TR 6 I μ) (hV : IM μ) (h : ((0 ≤ f ∧ f < μ 1) ∧ (0 ≤ h9 ∧ h9 < μ 1)) → ∀ J : qI, CF I J → P (some (vi 0)) (upI J 100 0 (BRT μ (AN μ) (HT μ) h9 (μ (210 + 2 * f)) (μ (211 + 2 * f))), H)) (hx1 : ¬ ((0 ≤ f ∧ f < μ 1) ∧ (0 ≤ h9 ∧ h9 < μ 1)) → P (some (vi 1)) (I, H)) :
    Call d 294 [vr (some 3) 9, vi f, vi h9, vr (some 100) 13] (I, H) P X := by
  obtain ⟨d, rfl⟩ : ∃ e, d = e + 1 := ⟨d - 1, by omega⟩
  show WP (Call d) 294 P X (0, [some (vr (some 3) 9), some (vi f), some (vi h9), some (vr (some 100) 13), none], [], (I, H), 0, 0)
  refine WP.go 6 (And.intro (And.intro (show 2 ≤ 2 from by decide) (show 12 ≤ 12 from by decide)) (And.intro rfl ?_))
  show Call d 148 [vr (some 3) 9, vi f, vi h9] (I, H) _ _
  refine s_11_good (by omega) hS hX hT hV (fun v1 J v2 => ?_) hx1
  show WP (Call d) 294 P X (6, [some (vr (some 3) 9), some (vi f), some (vi h9), some (vr (some 100) 13), none], [vi (BRT μ (AN μ) (HT μ) h9 (μ (210 + 2 * f)) (μ (211 + 2 * f))), vi 0, vr (some 100) 13], (J, H), 2, 12)
  refine WP.go 5 (And.intro (And.intro rfl (And.intro (by decide) (show (0 : Int) < H.2.1 100 from by rw [hS.l100]; decide))) (And.intro (And.intro (show 2 ≤ 2 from by decide) (show 12 ≤ 12 from by decide)) (And.intro trivial ?_)))
  exact h v1 J v2
set_option maxRecDepth 20000 in
theorem hl_swaps {d : Nat} {P : Option qV → qH → Prop} {X : Nat → qH → Prop} {I : qI} {H : qS} {μ : Int → Int} {fm wh : Int} (hd : 15 ≤ d) (hS : Shp H) (hX : SX I) (hT : TR 6 I μ) (hV : IM μ) (h : ((fm = -1 ∨ (0 ≤ fm ∧ fm < μ 1)) ∧ (0 ≤ wh ∧ wh ≤ 1)) → ∀ J : qI, CF I J → P (some (vi 0)) (upI J 100 0 (SWA μ fm wh), H)) (hx1 : ¬ (fm = -1 ∨ (0 ≤ fm ∧ fm < μ 1)) → P (some (vi 1)) (I, H)) (hx3 : (fm = -1 ∨ (0 ≤ fm ∧ fm < μ 1)) ∧ ¬ (0 ≤ wh ∧ wh ≤ 1) → P (some (vi 2)) (I, H)) :
    Call d 295 [vr (some 3) 9, vi fm, vi wh, vr (some 100) 13] (I, H) P X := by
  obtain ⟨d, rfl⟩ : ∃ e, d = e + 1 := ⟨d - 1, by omega⟩
  show WP (Call d) 295 P X (0, [some (vr (some 3) 9), some (vi fm), some (vi wh), some (vr (some 100) 13), none], [], (I, H), 0, 0)
  refine WP.go 6 (And.intro (And.intro (show 2 ≤ 2 from by decide) (show 12 ≤ 12 from by decide)) (And.intro rfl ?_))
  show Call d 149 [vr (some 3) 9, vi fm, vi wh] (I, H) _ _
  refine s_11_swaps (by omega) hS hX hT hV (fun v1 J v2 => ?_) hx1 hx3
  show WP (Call d) 295 P X (6, [some (vr (some 3) 9), some (vi fm), some (vi wh), some (vr (some 100) 13), none], [vi (SWA μ fm wh), vi 0, vr (some 100) 13], (J, H), 2, 12)
  refine WP.go 5 (And.intro (And.intro rfl (And.intro (by decide) (show (0 : Int) < H.2.1 100 from by rw [hS.l100]; decide))) (And.intro (And.intro (show 2 ≤ 2 from by decide) (show 12 ≤ 12 from by decide)) (And.intro trivial ?_)))
  exact h v1 J v2
set_option maxRecDepth 20000 in
theorem hl_paper {d : Nat} {P : Option qV → qH → Prop} {X : Nat → qH → Prop} {I : qI} {H : qS} {μ : Int → Int} {w hr lt : Int} (hd : 4 ≤ d) (hS : Shp H) (hX : SX I) (hT : TR 6 I μ) (hV : IM μ) (h : (((0 ≤ w ∧ w < μ 2) ∧ (0 ≤ hr ∧ hr < 13)) ∧ μ 7 < 16) → ∀ J : qI, CU I J (uPap μ w hr (lv lt)) → P (some (vi 0)) (upI J 100 0 (1 + μ 7), H)) (hx1 : ¬ ((0 ≤ w ∧ w < μ 2) ∧ (0 ≤ hr ∧ hr < 13)) → P (some (vi 1)) (I, H)) (hx2 : ((0 ≤ w ∧ w < μ 2) ∧ (0 ≤ hr ∧ hr < 13)) ∧ ¬ μ 7 < 16 → P (some (vi 2)) (I, H)) :
    Call d 296 [vr (some 3) 9, vi w, vi hr, vi lt, vr (some 100) 13] (I, H) P X := by
  obtain ⟨d, rfl⟩ : ∃ e, d = e + 1 := ⟨d - 1, by omega⟩
  show WP (Call d) 296 P X (0, [some (vr (some 3) 9), some (vi w), some (vi hr), some (vi lt), some (vr (some 100) 13), none], [], (I, H), 0, 0)
  refine WP.go 7 (And.intro (And.intro (show 3 ≤ 3 from by decide) (show 18 ≤ 18 from by decide)) (And.intro rfl ?_))
  show Call d 152 [vr (some 3) 9, vi w, vi hr, vi lt] (I, H) _ _
  refine s_11_paper (by omega) hS hX hT hV (fun v1 J v2 => ?_) hx1 hx2
  show WP (Call d) 296 P X (7, [some (vr (some 3) 9), some (vi w), some (vi hr), some (vi lt), some (vr (some 100) 13), none], [vi (1 + μ 7), vi 0, vr (some 100) 13], (J, H), 3, 18)
  refine WP.go 5 (And.intro (And.intro rfl (And.intro (by decide) (show (0 : Int) < H.2.1 100 from by rw [hS.l100]; decide))) (And.intro (And.intro (show 3 ≤ 3 from by decide) (show 18 ≤ 18 from by decide)) (And.intro trivial ?_)))
  exact h v1 J v2
set_option maxRecDepth 20000 in
theorem hl_years {d : Nat} {P : Option qV → qH → Prop} {X : Nat → qH → Prop} {I : qI} {H : qS} {μ : Int → Int} {k : Int} (hd : 7 ≤ d) (hS : Shp H) (hX : SX I) (hT : TR 6 I μ) (hV : IM μ) (h : (-1 ≤ k) → ∀ J : qI, CF I J → P (some (vi 0)) (upI J 100 0 (yeN (FITp μ (AN μ) (HT μ)) k 100 0 0), H)) (hx0 : k < -1 → P (some (vi 1)) (I, H)) :
    Call d 297 [vr (some 3) 9, vi k, vr (some 100) 13] (I, H) P X := by
  obtain ⟨d, rfl⟩ : ∃ e, d = e + 1 := ⟨d - 1, by omega⟩
  show WP (Call d) 297 P X (0, [some (vr (some 3) 9), some (vi k), some (vr (some 100) 13), none], [], (I, H), 0, 0)
  refine WP.go 5 (And.intro (And.intro (show 1 ≤ 1 from by decide) (show 6 ≤ 6 from by decide)) (And.intro rfl ?_))
  show Call d 153 [vr (some 3) 9, vi k] (I, H) _ _
  refine s_11_years (by omega) hS hX hT hV (fun v1 J v2 => ?_) hx0
  show WP (Call d) 297 P X (5, [some (vr (some 3) 9), some (vi k), some (vr (some 100) 13), none], [vi (yeN (FITp μ (AN μ) (HT μ)) k 100 0 0), vi 0, vr (some 100) 13], (J, H), 1, 6)
  refine WP.go 5 (And.intro (And.intro rfl (And.intro (by decide) (show (0 : Int) < H.2.1 100 from by rw [hS.l100]; decide))) (And.intro (And.intro (show 1 ≤ 1 from by decide) (show 6 ≤ 6 from by decide)) (And.intro trivial ?_)))
  exact h v1 J v2
set_option maxRecDepth 20000 in
theorem hl_push {d : Nat} {P : Option qV → qH → Prop} {X : Nat → qH → Prop} {I : qI} {H : qS} {μ : Int → Int} {w x y : Int} (hd : 6 ≤ d) (hS : Shp H) (hX : SX I) (hT : TR 6 I μ) (hV : IM μ) (h : ((0 ≤ w ∧ w < μ 2) ∧ (0 ≤ x ∧ x < 100) ∧ (0 ≤ y ∧ y < 100)) → ∀ J : qI, CF I J → P (some (vi 0)) (upI J 100 0 (fI (fun m => LITp μ (ANG μ x m) (HT μ) w 6 y) 0 49), H)) (hx1 : ¬ ((0 ≤ w ∧ w < μ 2) ∧ (0 ≤ x ∧ x < 100) ∧ (0 ≤ y ∧ y < 100)) → P (some (vi 1)) (I, H)) :
    Call d 298 [vr (some 3) 9, vi w, vi x, vi y, vr (some 100) 13] (I, H) P X := by
  obtain ⟨d, rfl⟩ : ∃ e, d = e + 1 := ⟨d - 1, by omega⟩
  show WP (Call d) 298 P X (0, [some (vr (some 3) 9), some (vi w), some (vi x), some (vi y), some (vr (some 100) 13), none], [], (I, H), 0, 0)
  refine WP.go 7 (And.intro (And.intro (show 3 ≤ 3 from by decide) (show 18 ≤ 18 from by decide)) (And.intro rfl ?_))
  show Call d 154 [vr (some 3) 9, vi w, vi x, vi y] (I, H) _ _
  refine s_11_push (by omega) hS hX hT hV (fun v1 J v2 => ?_) hx1
  show WP (Call d) 298 P X (7, [some (vr (some 3) 9), some (vi w), some (vi x), some (vi y), some (vr (some 100) 13), none], [vi (fI (fun m => LITp μ (ANG μ x m) (HT μ) w 6 y) 0 49), vi 0, vr (some 100) 13], (J, H), 3, 18)
  refine WP.go 5 (And.intro (And.intro rfl (And.intro (by decide) (show (0 : Int) < H.2.1 100 from by rw [hS.l100]; decide))) (And.intro (And.intro (show 3 ≤ 3 from by decide) (show 18 ≤ 18 from by decide)) (And.intro trivial ?_)))
  exact h v1 J v2
