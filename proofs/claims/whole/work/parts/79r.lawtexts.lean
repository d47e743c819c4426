theorem CV.shp {I J : qI} {H G : qS} {w : Int} (c : CV I H J G w) (h : Shp H) : Shp G :=
  h.up (fun a z q1 q2 _ => c.2.2.2.2.2.1 a z q1 q2) c.2.2.2.2.2.2.2
theorem FRN {I J : qI} {H G : qS} {μ : Int → Int} {c : List Int} (v : CN I H J G μ c) (h : Shp H) : ∀ a, a = 2 ∨ a = 5 ∨ a = 91 ∨ a = 94 ∨ a = 95 ∨ a = 90 → J a = I a := fun a q => v.2.1 a (by have := h.2.2; omega)
set_option maxRecDepth 20000 in
theorem law_2 {d : Nat} {P : Option qV → qH → Prop} {X : Nat → qH → Prop} {I : qI} {H : qS} {f : Int → Int} {L i : Int} {x5 x6 : Option qV} {c s : Nat} (hd : 100 ≤ d) (hI : LI f L i I H) (hi : 0 ≤ i ∧ i + 6 ≤ L ∧ L ≤ 3072) (hc : (c : Int) ≤ 1000 + 100 * i ∧ (s : Int) ≤ 40000 + 2000 * i) (h : ∀ (K : qI) (G : qS) (y5 y6 : Option qV) (c9 s9 : Nat), LI f L (i + 6) K G → (c9 ≤ c + 90 ∧ s9 ≤ s + 9000) → WP (Call d) 299 P X (1689, [some (vr (some 2) 102), some (vr (some 3) 9), some (vr (some 90) 10), some (vr (some 100) 13), some (vi i), y5, y6], [], (K, G), c9, s9)) :
    WP (Call d) 299 P X (99, [some (vr (some 2) 102), some (vr (some 3) 9), some (vr (some 90) 10), some (vr (some 100) 13), some (vi i), x5, x6], [], (I, H), c, s) := by
  obtain ⟨hS, hX, ⟨hf2, hl2⟩, ⟨hT, hV, hO, hLL⟩, ⟨hC, hC2⟩, hK, hKP, hTP, hFX, h10⟩ := id hI
  have hl100 := hS.l100
  generalize hM : I 91 = μ at *
  obtain ⟨n, hn⟩ : ∃ n, I 4 1 = n := ⟨_, rfl⟩
  obtain ⟨t1, t2, t3, t4⟩ := hTP
  rw [hn] at t1 t2 t3 t4
  refine WP.go 3 (And.intro (And.intro (show c + 2 ≤ 601024 from by omega) (show s + 12 ≤ 7293034 from by omega)) (And.intro rfl (?_)))
  show Call d 268 [vr (some 3) 9, vr (some 100) 13] (I, H) _ _
  refine hl_town (by omega) hS hX hT hV hC hn t2 t4 (fun v1 v2 J G v3 v4 => ?_) (fun v1 J G v3 v4 => ?_) (fun v1 v2 J G v3 v4 => ?_)
  ·
    show WP (Call d) 299 P X (102, [some (vr (some 2) 102), some (vr (some 3) 9), some (vr (some 90) 10), some (vr (some 100) 13), some (vi i), x5, x6], [vi 0], (upI J 100 0 (1 + (lnT (I 5) n (tln (I 5) n) μ).2 0), G), c + 2, s + 12)
    obtain ⟨K0, hK0⟩ : ∃ K0, K0 = upI J 100 0 (1 + (lnT (I 5) n (tln (I 5) n) μ).2 0) := ⟨_, rfl⟩
    suffices q9 : WP (Call d) 299 P X (102, [some (vr (some 2) 102), some (vr (some 3) 9), some (vr (some 90) 10), some (vr (some 100) 13), some (vi i), x5, x6], [vi 0], (K0, G), c + 2, s + 12) by rw [hK0] at q9; exact q9
    have ke : ∀ a, a ≠ 100 → K0 a = J a := fun a q => by rw [hK0]; exact upI_cell q
    have k1 : K0 100 0 = 1 + (lnT (I 5) n (tln (I 5) n) μ).2 0 := by rw [hK0]; exact upI_same _ _ _ _
    have kf : ∀ a, a = 2 ∨ a = 5 ∨ a = 91 ∨ a = 94 ∨ a = 95 ∨ a = 90 → K0 a = I a := fun a q => (ke a (by omega)).trans (v3.2.1 a (by omega))
    have hSk : Shp G := v3.shp hS
    have k2 : K0 2 = I 2 := kf 2 (by omega)
    have hMk : K0 91 = μ := (kf 91 (by omega)).trans hM
    have hKk : MS K0 := by unfold MS at *; rw [kf 90 (by omega)]; exact hK
    have k6 : K0 90 6 = n := by rw [kf 90 (by omega)]; exact t1
    have k94 : ∀ j, 0 ≤ j → j < n → K0 94 j = I 5 j := fun j q0 q1 => by rw [kf 94 (by omega)]; exact t3 j q0 q1
    refine WP.go 1 ?_
    show WP (Call d) 299 P X (103, [some (vr (some 2) 102), some (vr (some 3) 9), some (vr (some 90) 10), some (vr (some 100) 13), some (vi i), some (vi 0), x6], [], (K0, G), c + 2, s + 12)
    refine WP.go 1 (?_)
    show WP (Call d) 299 P X (104, [some (vr (some 2) 102), some (vr (some 3) 9), some (vr (some 90) 10), some (vr (some 100) 13), some (vi i), some (vi 0), x6], [vr (some 90) 10], (K0, G), c + 2, s + 12)
    refine WP.go 1 (And.intro (And.intro (show c + 2 + 0 ≤ 601024 from by omega) (show s + 12 + 0 ≤ 7293034 from by omega)) (And.intro rfl (?_)))
    show Call d 197 [vr (some 90) 10] (K0, G) _ _
    refine s_12_town (by omega) (tb := I 5) hSk hMk hV hKk k6 t2 t4 k94 ⟨fun _ _ K r1 r2 => ?_, fun q => absurd v1 q, fun _ q => absurd v2 q⟩
    show WP (Call d) 299 P X (105, [some (vr (some 2) 102), some (vr (some 3) 9), some (vr (some 90) 10), some (vr (some 100) 13), some (vi i), some (vi 0), x6], [vi (1 + (lnT (I 5) n (tln (I 5) n) μ).2 0)], (K, G), c + 2 + 0, s + 12 + 0)
    have kk : K 100 = K0 100 := r1.1 100 (by omega)
    have k100 : K 100 0 = 1 + (lnT (I 5) n (tln (I 5) n) μ).2 0 := by rw [kk, k1]
    refine WP.go 3 (And.intro (And.intro (show c + 2 + 0 + 0 ≤ 601024 from by omega) (show s + 12 + 0 + 0 ≤ 7293034 from by omega)) (And.intro rfl ?_))
    show Call d 176 [vr (some 90) 10] (K, G) _ _
    refine s_12_thrown (by omega) hSk ?_
    show WP (Call d) 299 P X (108, [some (vr (some 2) 102), some (vr (some 3) 9), some (vr (some 90) 10), some (vr (some 100) 13), some (vi i), some (vi 0), some (vi (1 + (lnT (I 5) n (tln (I 5) n) μ).2 0))], [vi (K 90 0)], (K, G), c + 2 + 0 + 0, s + 12 + 0 + 0)
    refine WP.go 2 (And.intro (fun _ => ?_) (fun q => absurd r2 q))
    refine WP.go 2 (And.intro (fun q => absurd rfl q) (fun _ => ?_))
    refine WP.go 7 (And.intro (And.intro rfl (And.intro (by decide) (show (0 : Int) < G.2.1 100 from by rw [hSk.l100]; decide))) (And.intro (fun _ => ?_) (fun q => absurd (zcmp_e k100) q)))
    refine WP.go 1 ?_
    show WP (Call d) 299 P X (1689, [some (vr (some 2) 102), some (vr (some 3) 9), some (vr (some 90) 10), some (vr (some 100) 13), some (vi i), some (vi 0), some (vi (1 + (lnT (I 5) n (tln (I 5) n) μ).2 0))], [], (K, G), c + 2 + 0 + 0, s + 12 + 0 + 0)
    exact h _ _ _ _ _ _ (hI.t v3 v4 ke r1 (IM_uTex (tln_q hV).1 (by rw [(tln_q hV).2]; exact v2)) (by rw [hM]; exact (town_hi hV).1) (by rw [hM]; exact (town_hi hV).2)) ⟨by omega, by omega⟩
  ·
    show WP (Call d) 299 P X (102, [some (vr (some 2) 102), some (vr (some 3) 9), some (vr (some 90) 10), some (vr (some 100) 13), some (vi i), x5, x6], [vi 1], (J, G), c + 2, s + 12)
    obtain ⟨K0, hK0⟩ : ∃ K0, K0 = J := ⟨_, rfl⟩
    suffices q9 : WP (Call d) 299 P X (102, [some (vr (some 2) 102), some (vr (some 3) 9), some (vr (some 90) 10), some (vr (some 100) 13), some (vi i), x5, x6], [vi 1], (K0, G), c + 2, s + 12) by rw [hK0] at q9; exact q9
    have ke : ∀ a, a ≠ 100 → K0 a = J a := fun a q => by rw [hK0]
    have kf : ∀ a, a = 2 ∨ a = 5 ∨ a = 91 ∨ a = 94 ∨ a = 95 ∨ a = 90 → K0 a = I a := fun a q => (ke a (by omega)).trans (v3.2.1 a (by omega))
    have hSk : Shp G := v3.shp hS
    have k2 : K0 2 = I 2 := kf 2 (by omega)
    have hMk : K0 91 = μ := (kf 91 (by omega)).trans hM
    have hKk : MS K0 := by unfold MS at *; rw [kf 90 (by omega)]; exact hK
    have k6 : K0 90 6 = n := by rw [kf 90 (by omega)]; exact t1
    have k94 : ∀ j, 0 ≤ j → j < n → K0 94 j = I 5 j := fun j q0 q1 => by rw [kf 94 (by omega)]; exact t3 j q0 q1
    refine WP.go 1 ?_
    show WP (Call d) 299 P X (103, [some (vr (some 2) 102), some (vr (some 3) 9), some (vr (some 90) 10), some (vr (some 100) 13), some (vi i), some (vi 1), x6], [], (K0, G), c + 2, s + 12)
    refine WP.go 1 (?_)
    show WP (Call d) 299 P X (104, [some (vr (some 2) 102), some (vr (some 3) 9), some (vr (some 90) 10), some (vr (some 100) 13), some (vi i), some (vi 1), x6], [vr (some 90) 10], (K0, G), c + 2, s + 12)
    refine WP.go 1 (And.intro (And.intro (show c + 2 + 0 ≤ 601024 from by omega) (show s + 12 + 0 ≤ 7293034 from by omega)) (And.intro rfl (?_)))
    show Call d 197 [vr (some 90) 10] (K0, G) _ _
    refine s_12_town (by omega) (tb := I 5) hSk hMk hV hKk k6 t2 t4 k94 ⟨fun q => absurd q v1, fun _ K r1 r2 => ?_, fun q => absurd q v1⟩
    show WP (Call d) 299 P X (105, [some (vr (some 2) 102), some (vr (some 3) 9), some (vr (some 90) 10), some (vr (some 100) 13), some (vi i), some (vi 1), x6], [vi (0)], (K, G), c + 2 + 0, s + 12 + 0)
    refine WP.go 3 (And.intro (And.intro (show c + 2 + 0 + 0 ≤ 601024 from by omega) (show s + 12 + 0 + 0 ≤ 7293034 from by omega)) (And.intro rfl ?_))
    show Call d 176 [vr (some 90) 10] (K, G) _ _
    refine s_12_thrown (by omega) hSk ?_
    show WP (Call d) 299 P X (108, [some (vr (some 2) 102), some (vr (some 3) 9), some (vr (some 90) 10), some (vr (some 100) 13), some (vi i), some (vi 1), some (vi (0))], [vi (K 90 0)], (K, G), c + 2 + 0 + 0, s + 12 + 0 + 0)
    refine WP.go 2 (And.intro (fun _ => ?_) (fun q => absurd r2 q))
    refine WP.go 2 (And.intro (fun _ => ?_) (fun q => absurd q (by decide)))
    refine WP.go 1 ?_
    show WP (Call d) 299 P X (1689, [some (vr (some 2) 102), some (vr (some 3) 9), some (vr (some 90) 10), some (vr (some 100) 13), some (vi i), some (vi 1), some (vi (0))], [], (K, G), c + 2 + 0 + 0, s + 12 + 0 + 0)
    exact h _ _ _ _ _ _ (hI.t v3 v4 ke r1 hV (by rw [hM]; exact fun _ _ => rfl) (by rw [hM])) ⟨by omega, by omega⟩
  ·
    show WP (Call d) 299 P X (102, [some (vr (some 2) 102), some (vr (some 3) 9), some (vr (some 90) 10), some (vr (some 100) 13), some (vi i), x5, x6], [vi 2], (J, G), c + 2, s + 12)
    obtain ⟨K0, hK0⟩ : ∃ K0, K0 = J := ⟨_, rfl⟩
    suffices q9 : WP (Call d) 299 P X (102, [some (vr (some 2) 102), some (vr (some 3) 9), some (vr (some 90) 10), some (vr (some 100) 13), some (vi i), x5, x6], [vi 2], (K0, G), c + 2, s + 12) by rw [hK0] at q9; exact q9
    have ke : ∀ a, a ≠ 100 → K0 a = J a := fun a q => by rw [hK0]
    have kf : ∀ a, a = 2 ∨ a = 5 ∨ a = 91 ∨ a = 94 ∨ a = 95 ∨ a = 90 → K0 a = I a := fun a q => (ke a (by omega)).trans (v3.2.1 a (by omega))
    have hSk : Shp G := v3.shp hS
    have k2 : K0 2 = I 2 := kf 2 (by omega)
    have hMk : K0 91 = μ := (kf 91 (by omega)).trans hM
    have hKk : MS K0 := by unfold MS at *; rw [kf 90 (by omega)]; exact hK
    have k6 : K0 90 6 = n := by rw [kf 90 (by omega)]; exact t1
    have k94 : ∀ j, 0 ≤ j → j < n → K0 94 j = I 5 j := fun j q0 q1 => by rw [kf 94 (by omega)]; exact t3 j q0 q1
    refine WP.go 1 ?_
    show WP (Call d) 299 P X (103, [some (vr (some 2) 102), some (vr (some 3) 9), some (vr (some 90) 10), some (vr (some 100) 13), some (vi i), some (vi 2), x6], [], (K0, G), c + 2, s + 12)
    refine WP.go 1 (?_)
    show WP (Call d) 299 P X (104, [some (vr (some 2) 102), some (vr (some 3) 9), some (vr (some 90) 10), some (vr (some 100) 13), some (vi i), some (vi 2), x6], [vr (some 90) 10], (K0, G), c + 2, s + 12)
    refine WP.go 1 (And.intro (And.intro (show c + 2 + 0 ≤ 601024 from by omega) (show s + 12 + 0 ≤ 7293034 from by omega)) (And.intro rfl (?_)))
    show Call d 197 [vr (some 90) 10] (K0, G) _ _
    refine s_12_town (by omega) (tb := I 5) hSk hMk hV hKk k6 t2 t4 k94 ⟨fun _ q => absurd q v2, fun q => absurd v1 q, fun _ _ K r1 r2 => ?_⟩
    show WP (Call d) 299 P X (105, [some (vr (some 2) 102), some (vr (some 3) 9), some (vr (some 90) 10), some (vr (some 100) 13), some (vi i), some (vi 2), x6], [vi (0)], (K, G), c + 2 + 0, s + 12 + 0)
    refine WP.go 3 (And.intro (And.intro (show c + 2 + 0 + 0 ≤ 601024 from by omega) (show s + 12 + 0 + 0 ≤ 7293034 from by omega)) (And.intro rfl ?_))
    show Call d 176 [vr (some 90) 10] (K, G) _ _
    refine s_12_thrown (by omega) hSk ?_
    show WP (Call d) 299 P X (108, [some (vr (some 2) 102), some (vr (some 3) 9), some (vr (some 90) 10), some (vr (some 100) 13), some (vi i), some (vi 2), some (vi (0))], [vi (K 90 0)], (K, G), c + 2 + 0 + 0, s + 12 + 0 + 0)
    refine WP.go 2 (And.intro (fun _ => ?_) (fun q => absurd r2 q))
    refine WP.go 2 (And.intro (fun _ => ?_) (fun q => absurd q (by decide)))
    refine WP.go 1 ?_
    show WP (Call d) 299 P X (1689, [some (vr (some 2) 102), some (vr (some 3) 9), some (vr (some 90) 10), some (vr (some 100) 13), some (vi i), some (vi 2), some (vi (0))], [], (K, G), c + 2 + 0 + 0, s + 12 + 0 + 0)
    exact h _ _ _ _ _ _ (hI.t v3 v4 ke r1 hV (by rw [hM]; exact fun _ _ => rfl) (by rw [hM])) ⟨by omega, by omega⟩

set_option maxRecDepth 20000 in
theorem law_3 {d : Nat} {P : Option qV → qH → Prop} {X : Nat → qH → Prop} {I : qI} {H : qS} {f : Int → Int} {L i : Int} {x5 x6 : Option qV} {c s : Nat} (hd : 100 ≤ d) (hI : LI f L i I H) (hi : 0 ≤ i ∧ i + 6 ≤ L ∧ L ≤ 3072) (hc : (c : Int) ≤ 1000 + 100 * i ∧ (s : Int) ≤ 40000 + 2000 * i) (h : ∀ (K : qI) (G : qS) (y5 y6 : Option qV) (c9 s9 : Nat), LI f L (i + 6) K G → (c9 ≤ c + 90 ∧ s9 ≤ s + 9000) → WP (Call d) 299 P X (1689, [some (vr (some 2) 102), some (vr (some 3) 9), some (vr (some 90) 10), some (vr (some 100) 13), some (vi i), y5, y6], [], (K, G), c9, s9)) :
    WP (Call d) 299 P X (124, [some (vr (some 2) 102), some (vr (some 3) 9), some (vr (some 90) 10), some (vr (some 100) 13), some (vi i), x5, x6], [], (I, H), c, s) := by
  obtain ⟨hS, hX, ⟨hf2, hl2⟩, ⟨hT, hV, hO, hLL⟩, ⟨hC, hC2⟩, hK, hKP, hTP, hFX, h10⟩ := id hI
  have hl100 := hS.l100
  generalize hM : I 91 = μ at *
  obtain ⟨n, hn⟩ : ∃ n, I 4 1 = n := ⟨_, rfl⟩
  obtain ⟨t1, t2, t3, t4⟩ := hTP
  rw [hn] at t1 t2 t3 t4
  obtain ⟨⟨F, hFB, hFR⟩, hFY⟩ := hFX
  have hag : ∀ j, 0 ≤ j → j < n → I 5 j = tpe (I 5) n j := fun j q0 q1 => (if_pos ⟨q0, q1⟩).symm
  have hbt : ∀ j, 0 ≤ j → j < n → 0 ≤ tpe (I 5) n j ∧ tpe (I 5) n j ≤ 255 := fun j q0 q1 => by rw [← hag j q0 q1]; exact t4 j q0 q1
  refine WP.go 3 (And.intro (And.intro (show c + 3 ≤ 601024 from by omega) (show s + 912 ≤ 7293034 from by omega)) (And.intro rfl (?_)))
  show Call d 269 [vr (some 3) 9, vr (some 100) 13] (I, H) _ _
  refine hl_lease (by omega) hS hT hV hn t2 t4 hag (fun v1 v2 J G v3 => ?_) (fun v1 J v3 => ?_) (fun v1 v2 J v3 => ?_)
  ·
    show WP (Call d) 299 P X (127, [some (vr (some 2) 102), some (vr (some 3) 9), some (vr (some 90) 10), some (vr (some 100) 13), some (vi i), x5, x6], [vi 0], (upI J 100 0 (μ 3), G), c + 3, s + 912)
    obtain ⟨K0, hK0⟩ : ∃ K0, K0 = upI J 100 0 (μ 3) := ⟨_, rfl⟩
    suffices q9 : WP (Call d) 299 P X (127, [some (vr (some 2) 102), some (vr (some 3) 9), some (vr (some 90) 10), some (vr (some 100) 13), some (vi i), x5, x6], [vi 0], (K0, G), c + 3, s + 912) by rw [hK0] at q9; exact q9
    have ke : ∀ a, a ≠ 100 → K0 a = J a := fun a q => by rw [hK0]; exact upI_cell q
    have k1 : K0 100 0 = μ 3 := by rw [hK0]; exact upI_same _ _ _ _
    have kf : ∀ a, a = 2 ∨ a = 5 ∨ a = 91 ∨ a = 94 ∨ a = 95 ∨ a = 90 → K0 a = I a := fun a q => (ke a (by omega)).trans (FRN v3 hS a (by omega))
    have hSk : Shp G := v3.2.2.2.2.2.2.2.2.2.2.2
    have k2 : K0 2 = I 2 := kf 2 (by omega)
    have hMk : K0 91 = μ := (kf 91 (by omega)).trans hM
    have hKk : MS K0 := by unfold MS at *; rw [kf 90 (by omega)]; exact hK
    have k6 : K0 90 6 = n := by rw [kf 90 (by omega)]; exact t1
    have k94 : ∀ j, 0 ≤ j → j < n → K0 94 j = I 5 j := fun j q0 q1 => by rw [kf 94 (by omega)]; exact t3 j q0 q1
    have k95 : ∀ j, 0 ≤ j → j < n → K0 94 j = tpe (I 5) n j := fun j q0 q1 => (k94 j q0 q1).trans (hag j q0 q1)
    have hfr : FR K0 F := by unfold FR at *; rw [kf 95 (by omega), kf 90 (by omega)]; exact hFR
    have hY : -900000000000000 ≤ K0 90 17 ∧ K0 90 17 ≤ 900000000000000 := by rw [kf 90 (by omega)]; omega
    refine WP.go 1 ?_
    show WP (Call d) 299 P X (128, [some (vr (some 2) 102), some (vr (some 3) 9), some (vr (some 90) 10), some (vr (some 100) 13), some (vi i), some (vi 0), x6], [], (K0, G), c + 3, s + 912)
    refine WP.go 1 (?_)
    show WP (Call d) 299 P X (129, [some (vr (some 2) 102), some (vr (some 3) 9), some (vr (some 90) 10), some (vr (some 100) 13), some (vi i), some (vi 0), x6], [vr (some 90) 10], (K0, G), c + 3, s + 912)
    refine WP.go 1 (And.intro (And.intro (show c + 3 + 0 ≤ 601024 from by omega) (show s + 912 + 0 ≤ 7293034 from by omega)) (And.intro rfl (?_)))
    show Call d 206 [vr (some 90) 10] (K0, G) _ _
    refine s_12_lease (by omega) (tb := tpe (I 5) n) hSk hMk hV hKk k6 t2 hbt k95 hfr hFB hY ⟨fun _ _ K r1 r2 => ?_, fun q => absurd v1 q, fun _ q => absurd v2 q⟩
    show WP (Call d) 299 P X (130, [some (vr (some 2) 102), some (vr (some 3) 9), some (vr (some 90) 10), some (vr (some 100) 13), some (vi i), some (vi 0), x6], [vi (μ 3)], (K, G), c + 3 + 0, s + 912 + 0)
    have kk : K 100 = K0 100 := r1.1 100 (by omega)
    have k100 : K 100 0 = μ 3 := by rw [kk, k1]
    refine WP.go 3 (And.intro (And.intro (show c + 3 + 0 + 0 ≤ 601024 from by omega) (show s + 912 + 0 + 0 ≤ 7293034 from by omega)) (And.intro rfl ?_))
    show Call d 176 [vr (some 90) 10] (K, G) _ _
    refine s_12_thrown (by omega) hSk ?_
    show WP (Call d) 299 P X (133, [some (vr (some 2) 102), some (vr (some 3) 9), some (vr (some 90) 10), some (vr (some 100) 13), some (vi i), some (vi 0), some (vi (μ 3))], [vi (K 90 0)], (K, G), c + 3 + 0 + 0, s + 912 + 0 + 0)
    refine WP.go 2 (And.intro (fun _ => ?_) (fun q => absurd r2 q))
    refine WP.go 2 (And.intro (fun q => absurd rfl q) (fun _ => ?_))
    refine WP.go 7 (And.intro (And.intro rfl (And.intro (by decide) (show (0 : Int) < G.2.1 100 from by rw [hSk.l100]; decide))) (And.intro (fun _ => ?_) (fun q => absurd (zcmp_e k100) q)))
    refine WP.go 1 ?_
    show WP (Call d) 299 P X (1689, [some (vr (some 2) 102), some (vr (some 3) 9), some (vr (some 90) 10), some (vr (some 100) 13), some (vi i), some (vi 0), some (vi (μ 3))], [], (K, G), c + 3 + 0 + 0, s + 912 + 0 + 0)
    exact h _ _ _ _ _ _ (hI.l1 t2 t4 v1 (by rw [hM]; exact v2) (by rw [hM]; exact v3) ke (by rw [hM]; exact r1)) ⟨by omega, by omega⟩
  ·
    show WP (Call d) 299 P X (127, [some (vr (some 2) 102), some (vr (some 3) 9), some (vr (some 90) 10), some (vr (some 100) 13), some (vi i), x5, x6], [vi 1], (J, H), c + 3, s + 912)
    obtain ⟨K0, hK0⟩ : ∃ K0, K0 = J := ⟨_, rfl⟩
    suffices q9 : WP (Call d) 299 P X (127, [some (vr (some 2) 102), some (vr (some 3) 9), some (vr (some 90) 10), some (vr (some 100) 13), some (vi i), x5, x6], [vi 1], (K0, H), c + 3, s + 912) by rw [hK0] at q9; exact q9
    have ke : ∀ a, a ≠ 100 → K0 a = J a := fun a q => by rw [hK0]
    have kf : ∀ a, a = 2 ∨ a = 5 ∨ a = 91 ∨ a = 94 ∨ a = 95 ∨ a = 90 → K0 a = I a := fun a q => (ke a (by omega)).trans (v3.1 a (by omega))
    have hSk := hS
    have k2 : K0 2 = I 2 := kf 2 (by omega)
    have hMk : K0 91 = μ := (kf 91 (by omega)).trans hM
    have hKk : MS K0 := by unfold MS at *; rw [kf 90 (by omega)]; exact hK
    have k6 : K0 90 6 = n := by rw [kf 90 (by omega)]; exact t1
    have k94 : ∀ j, 0 ≤ j → j < n → K0 94 j = I 5 j := fun j q0 q1 => by rw [kf 94 (by omega)]; exact t3 j q0 q1
    have k95 : ∀ j, 0 ≤ j → j < n → K0 94 j = tpe (I 5) n j := fun j q0 q1 => (k94 j q0 q1).trans (hag j q0 q1)
    have hfr : FR K0 F := by unfold FR at *; rw [kf 95 (by omega), kf 90 (by omega)]; exact hFR
    have hY : -900000000000000 ≤ K0 90 17 ∧ K0 90 17 ≤ 900000000000000 := by rw [kf 90 (by omega)]; omega
    refine WP.go 1 ?_
    show WP (Call d) 299 P X (128, [some (vr (some 2) 102), some (vr (some 3) 9), some (vr (some 90) 10), some (vr (some 100) 13), some (vi i), some (vi 1), x6], [], (K0, H), c + 3, s + 912)
    refine WP.go 1 (?_)
    show WP (Call d) 299 P X (129, [some (vr (some 2) 102), some (vr (some 3) 9), some (vr (some 90) 10), some (vr (some 100) 13), some (vi i), some (vi 1), x6], [vr (some 90) 10], (K0, H), c + 3, s + 912)
    refine WP.go 1 (And.intro (And.intro (show c + 3 + 0 ≤ 601024 from by omega) (show s + 912 + 0 ≤ 7293034 from by omega)) (And.intro rfl (?_)))
    show Call d 206 [vr (some 90) 10] (K0, H) _ _
    refine s_12_lease (by omega) (tb := tpe (I 5) n) hSk hMk hV hKk k6 t2 hbt k95 hfr hFB hY ⟨fun q => absurd q v1, fun _ K r1 r2 => ?_, fun q => absurd q v1⟩
    show WP (Call d) 299 P X (130, [some (vr (some 2) 102), some (vr (some 3) 9), some (vr (some 90) 10), some (vr (some 100) 13), some (vi i), some (vi 1), x6], [vi (0)], (K, H), c + 3 + 0, s + 912 + 0)
    refine WP.go 3 (And.intro (And.intro (show c + 3 + 0 + 0 ≤ 601024 from by omega) (show s + 912 + 0 + 0 ≤ 7293034 from by omega)) (And.intro rfl ?_))
    show Call d 176 [vr (some 90) 10] (K, H) _ _
    refine s_12_thrown (by omega) hS ?_
    show WP (Call d) 299 P X (133, [some (vr (some 2) 102), some (vr (some 3) 9), some (vr (some 90) 10), some (vr (some 100) 13), some (vi i), some (vi 1), some (vi (0))], [vi (K 90 0)], (K, H), c + 3 + 0 + 0, s + 912 + 0 + 0)
    refine WP.go 2 (And.intro (fun _ => ?_) (fun q => absurd r2 q))
    refine WP.go 2 (And.intro (fun _ => ?_) (fun q => absurd q (by decide)))
    refine WP.go 1 ?_
    show WP (Call d) 299 P X (1689, [some (vr (some 2) 102), some (vr (some 3) 9), some (vr (some 90) 10), some (vr (some 100) 13), some (vi i), some (vi 1), some (vi (0))], [], (K, H), c + 3 + 0 + 0, s + 912 + 0 + 0)
    exact h _ _ _ _ _ _ (hI.l0 v3 ke (by rw [hM]; exact r1)) ⟨by omega, by omega⟩
  ·
    show WP (Call d) 299 P X (127, [some (vr (some 2) 102), some (vr (some 3) 9), some (vr (some 90) 10), some (vr (some 100) 13), some (vi i), x5, x6], [vi 2], (J, H), c + 3, s + 912)
    obtain ⟨K0, hK0⟩ : ∃ K0, K0 = J := ⟨_, rfl⟩
    suffices q9 : WP (Call d) 299 P X (127, [some (vr (some 2) 102), some (vr (some 3) 9), some (vr (some 90) 10), some (vr (some 100) 13), some (vi i), x5, x6], [vi 2], (K0, H), c + 3, s + 912) by rw [hK0] at q9; exact q9
    have ke : ∀ a, a ≠ 100 → K0 a = J a := fun a q => by rw [hK0]
    have kf : ∀ a, a = 2 ∨ a = 5 ∨ a = 91 ∨ a = 94 ∨ a = 95 ∨ a = 90 → K0 a = I a := fun a q => (ke a (by omega)).trans (v3.1 a (by omega))
    have hSk := hS
    have k2 : K0 2 = I 2 := kf 2 (by omega)
    have hMk : K0 91 = μ := (kf 91 (by omega)).trans hM
    have hKk : MS K0 := by unfold MS at *; rw [kf 90 (by omega)]; exact hK
    have k6 : K0 90 6 = n := by rw [kf 90 (by omega)]; exact t1
    have k94 : ∀ j, 0 ≤ j → j < n → K0 94 j = I 5 j := fun j q0 q1 => by rw [kf 94 (by omega)]; exact t3 j q0 q1
    have k95 : ∀ j, 0 ≤ j → j < n → K0 94 j = tpe (I 5) n j := fun j q0 q1 => (k94 j q0 q1).trans (hag j q0 q1)
    have hfr : FR K0 F := by unfold FR at *; rw [kf 95 (by omega), kf 90 (by omega)]; exact hFR
    have hY : -900000000000000 ≤ K0 90 17 ∧ K0 90 17 ≤ 900000000000000 := by rw [kf 90 (by omega)]; omega
    refine WP.go 1 ?_
    show WP (Call d) 299 P X (128, [some (vr (some 2) 102), some (vr (some 3) 9), some (vr (some 90) 10), some (vr (some 100) 13), some (vi i), some (vi 2), x6], [], (K0, H), c + 3, s + 912)
    refine WP.go 1 (?_)
    show WP (Call d) 299 P X (129, [some (vr (some 2) 102), some (vr (some 3) 9), some (vr (some 90) 10), some (vr (some 100) 13), some (vi i), some (vi 2), x6], [vr (some 90) 10], (K0, H), c + 3, s + 912)
    refine WP.go 1 (And.intro (And.intro (show c + 3 + 0 ≤ 601024 from by omega) (show s + 912 + 0 ≤ 7293034 from by omega)) (And.intro rfl (?_)))
    show Call d 206 [vr (some 90) 10] (K0, H) _ _
    refine s_12_lease (by omega) (tb := tpe (I 5) n) hSk hMk hV hKk k6 t2 hbt k95 hfr hFB hY ⟨fun _ q => absurd q v2, fun q => absurd v1 q, fun _ _ K r1 r2 => ?_⟩
    show WP (Call d) 299 P X (130, [some (vr (some 2) 102), some (vr (some 3) 9), some (vr (some 90) 10), some (vr (some 100) 13), some (vi i), some (vi 2), x6], [vi (0)], (K, H), c + 3 + 0, s + 912 + 0)
    refine WP.go 3 (And.intro (And.intro (show c + 3 + 0 + 0 ≤ 601024 from by omega) (show s + 912 + 0 + 0 ≤ 7293034 from by omega)) (And.intro rfl ?_))
    show Call d 176 [vr (some 90) 10] (K, H) _ _
    refine s_12_thrown (by omega) hS ?_
    show WP (Call d) 299 P X (133, [some (vr (some 2) 102), some (vr (some 3) 9), some (vr (some 90) 10), some (vr (some 100) 13), some (vi i), some (vi 2), some (vi (0))], [vi (K 90 0)], (K, H), c + 3 + 0 + 0, s + 912 + 0 + 0)
    refine WP.go 2 (And.intro (fun _ => ?_) (fun q => absurd r2 q))
    refine WP.go 2 (And.intro (fun _ => ?_) (fun q => absurd q (by decide)))
    refine WP.go 1 ?_
    show WP (Call d) 299 P X (1689, [some (vr (some 2) 102), some (vr (some 3) 9), some (vr (some 90) 10), some (vr (some 100) 13), some (vi i), some (vi 2), some (vi (0))], [], (K, H), c + 3 + 0 + 0, s + 912 + 0 + 0)
    exact h _ _ _ _ _ _ (hI.l0 v3 ke (by rw [hM]; exact r1)) ⟨by omega, by omega⟩

set_option maxRecDepth 20000 in
theorem law_25 {d : Nat} {P : Option qV → qH → Prop} {X : Nat → qH → Prop} {I : qI} {H : qS} {f : Int → Int} {L i : Int} {x5 x6 : Option qV} {c s : Nat} (hd : 100 ≤ d) (hI : LI f L i I H) (hi : 0 ≤ i ∧ i + 6 ≤ L ∧ L ≤ 3072) (hc : (c : Int) ≤ 1000 + 100 * i ∧ (s : Int) ≤ 40000 + 2000 * i) (h : ∀ (K : qI) (G : qS) (y5 y6 : Option qV) (c9 s9 : Nat), LI f L (i + 6) K G → (c9 ≤ c + 90 ∧ s9 ≤ s + 9000) → WP (Call d) 299 P X (1689, [some (vr (some 2) 102), some (vr (some 3) 9), some (vr (some 90) 10), some (vr (some 100) 13), some (vi i), y5, y6], [], (K, G), c9, s9)) :
    WP (Call d) 299 P X (1042, [some (vr (some 2) 102), some (vr (some 3) 9), some (vr (some 90) 10), some (vr (some 100) 13), some (vi i), x5, x6], [], (I, H), c, s) := by
  obtain ⟨hS, hX, ⟨hf2, hl2⟩, ⟨hT, hV, hO, hLL⟩, ⟨hC, hC2⟩, hK, hKP, hTP, hFX, h10⟩ := id hI
  have hl100 := hS.l100
  generalize hM : I 91 = μ at *
  obtain ⟨n, hn⟩ : ∃ n, I 4 1 = n := ⟨_, rfl⟩
  obtain ⟨t1, t2, t3, t4⟩ := hTP
  rw [hn] at t1 t2 t3 t4
  refine WP.go 13 (Exists.intro (i + 1) (And.intro (wrp_a (by omega) (by omega)) (And.intro (And.intro rfl (And.intro (show 0 ≤ i + 1 from by omega) (show i + 1 < H.2.1 2 from by rw [hl2]; omega))) (Exists.intro (i + 2) (And.intro (wrp_a (by omega) (by omega)) (And.intro (And.intro rfl (And.intro (show 0 ≤ i + 2 from by omega) (show i + 2 < H.2.1 2 from by rw [hl2]; omega))) (And.intro (And.intro (show c + 3 ≤ 601024 from by omega) (show s + 18 ≤ 7293034 from by omega)) (And.intro rfl (?_)))))))))
  show Call d 288 [vr (some 3) 9, vi (I 2 (i + 1)), vi (I 2 (i + 2)), vr (some 100) 13] (I, H) _ _
  refine hl_walk (by omega) hS hX hT hV hn t2 t4 (fun v1 v2 J v3 => ?_) (fun v1 J v3 => ?_) (fun v1 v2 J v3 => ?_)
  ·
    show WP (Call d) 299 P X (1055, [some (vr (some 2) 102), some (vr (some 3) 9), some (vr (some 90) 10), some (vr (some 100) 13), some (vi i), x5, x6], [vi 0], (upI J 100 0 ((lnT (I 5) n (wln (I 5) n (AN μ (I 2 (i + 2)))) (I 2 (i + 1))).2), H), c + 3, s + 18)
    obtain ⟨K0, hK0⟩ : ∃ K0, K0 = upI J 100 0 ((lnT (I 5) n (wln (I 5) n (AN μ (I 2 (i + 2)))) (I 2 (i + 1))).2) := ⟨_, rfl⟩
    suffices q9 : WP (Call d) 299 P X (1055, [some (vr (some 2) 102), some (vr (some 3) 9), some (vr (some 90) 10), some (vr (some 100) 13), some (vi i), x5, x6], [vi 0], (K0, H), c + 3, s + 18) by rw [hK0] at q9; exact q9
    have ke : ∀ a, a ≠ 100 → K0 a = J a := fun a q => by rw [hK0]; exact upI_cell q
    have k1 : K0 100 0 = (lnT (I 5) n (wln (I 5) n (AN μ (I 2 (i + 2)))) (I 2 (i + 1))).2 := by rw [hK0]; exact upI_same _ _ _ _
    have kf : ∀ a, a = 2 ∨ a = 5 ∨ a = 91 ∨ a = 94 ∨ a = 95 ∨ a = 90 → K0 a = I a := fun a q => (ke a (by omega)).trans (v3.1 a (by omega))
    have hSk := hS
    have k2 : K0 2 = I 2 := kf 2 (by omega)
    have hMk : K0 91 = μ := (kf 91 (by omega)).trans hM
    have hKk : MS K0 := by unfold MS at *; rw [kf 90 (by omega)]; exact hK
    have k6 : K0 90 6 = n := by rw [kf 90 (by omega)]; exact t1
    have k94 : ∀ j, 0 ≤ j → j < n → K0 94 j = I 5 j := fun j q0 q1 => by rw [kf 94 (by omega)]; exact t3 j q0 q1
    refine WP.go 1 ?_
    show WP (Call d) 299 P X (1056, [some (vr (some 2) 102), some (vr (some 3) 9), some (vr (some 90) 10), some (vr (some 100) 13), some (vi i), some (vi 0), x6], [], (K0, H), c + 3, s + 18)
    refine WP.go 11 (Exists.intro (i + 1) (And.intro (wrp_a (by omega) (by omega)) (And.intro (And.intro rfl (And.intro (show 0 ≤ i + 1 from by omega) (show i + 1 < H.2.1 2 from by rw [hl2]; omega))) (Exists.intro (i + 2) (And.intro (wrp_a (by omega) (by omega)) (And.intro (And.intro rfl (And.intro (show 0 ≤ i + 2 from by omega) (show i + 2 < H.2.1 2 from by rw [hl2]; omega))) (?_)))))))
    show WP (Call d) 299 P X (1067, [some (vr (some 2) 102), some (vr (some 3) 9), some (vr (some 90) 10), some (vr (some 100) 13), some (vi i), some (vi 0), x6], [vi (K0 2 (i + 2)), vi (K0 2 (i + 1)), vr (some 90) 10], (K0, H), c + 3, s + 18)
    rw [k2]
    refine WP.go 1 (And.intro (And.intro (show c + 3 + 0 ≤ 601024 from by omega) (show s + 18 + 0 ≤ 7293034 from by omega)) (And.intro rfl (?_)))
    show Call d 245 [vr (some 90) 10, vi (I 2 (i + 1)), vi (I 2 (i + 2))] (K0, H) _ _
    refine s_12_walk (by omega) (tb := I 5) hSk hMk hV hKk k6 t2 t4 k94 ⟨fun _ _ K r1 r2 => ?_, fun _ q => absurd v2 q, fun q => absurd v1 q⟩
    show WP (Call d) 299 P X (1068, [some (vr (some 2) 102), some (vr (some 3) 9), some (vr (some 90) 10), some (vr (some 100) 13), some (vi i), some (vi 0), x6], [vi ((lnT (I 5) n (wln (I 5) n (AN μ (I 2 (i + 2)))) (I 2 (i + 1))).2)], (K, H), c + 3 + 0, s + 18 + 0)
    have kk : K 100 = K0 100 := r1.1 100 (by omega)
    have k100 : K 100 0 = (lnT (I 5) n (wln (I 5) n (AN μ (I 2 (i + 2)))) (I 2 (i + 1))).2 := by rw [kk, k1]
    refine WP.go 3 (And.intro (And.intro (show c + 3 + 0 + 0 ≤ 601024 from by omega) (show s + 18 + 0 + 0 ≤ 7293034 from by omega)) (And.intro rfl ?_))
    show Call d 176 [vr (some 90) 10] (K, H) _ _
    refine s_12_thrown (by omega) hS ?_
    show WP (Call d) 299 P X (1071, [some (vr (some 2) 102), some (vr (some 3) 9), some (vr (some 90) 10), some (vr (some 100) 13), some (vi i), some (vi 0), some (vi ((lnT (I 5) n (wln (I 5) n (AN μ (I 2 (i + 2)))) (I 2 (i + 1))).2))], [vi (K 90 0)], (K, H), c + 3 + 0 + 0, s + 18 + 0 + 0)
    refine WP.go 2 (And.intro (fun _ => ?_) (fun q => absurd r2 q))
    refine WP.go 2 (And.intro (fun q => absurd rfl q) (fun _ => ?_))
    refine WP.go 7 (And.intro (And.intro rfl (And.intro (by decide) (show (0 : Int) < H.2.1 100 from by rw [hl100]; decide))) (And.intro (fun _ => ?_) (fun q => absurd (zcmp_e k100) q)))
    refine WP.go 1 ?_
    show WP (Call d) 299 P X (1689, [some (vr (some 2) 102), some (vr (some 3) 9), some (vr (some 90) 10), some (vr (some 100) 13), some (vi i), some (vi 0), some (vi ((lnT (I 5) n (wln (I 5) n (AN μ (I 2 (i + 2)))) (I 2 (i + 1))).2))], [], (K, H), c + 3 + 0 + 0, s + 18 + 0 + 0)
    exact h _ _ _ _ _ _ (hI.w v3 ke r1) ⟨by omega, by omega⟩
  ·
    show WP (Call d) 299 P X (1055, [some (vr (some 2) 102), some (vr (some 3) 9), some (vr (some 90) 10), some (vr (some 100) 13), some (vi i), x5, x6], [vi 1], (J, H), c + 3, s + 18)
    obtain ⟨K0, hK0⟩ : ∃ K0, K0 = J := ⟨_, rfl⟩
    suffices q9 : WP (Call d) 299 P X (1055, [some (vr (some 2) 102), some (vr (some 3) 9), some (vr (some 90) 10), some (vr (some 100) 13), some (vi i), x5, x6], [vi 1], (K0, H), c + 3, s + 18) by rw [hK0] at q9; exact q9
    have ke : ∀ a, a ≠ 100 → K0 a = J a := fun a q => by rw [hK0]
    have kf : ∀ a, a = 2 ∨ a = 5 ∨ a = 91 ∨ a = 94 ∨ a = 95 ∨ a = 90 → K0 a = I a := fun a q => (ke a (by omega)).trans (v3.1 a (by omega))
    have hSk := hS
    have k2 : K0 2 = I 2 := kf 2 (by omega)
    have hMk : K0 91 = μ := (kf 91 (by omega)).trans hM
    have hKk : MS K0 := by unfold MS at *; rw [kf 90 (by omega)]; exact hK
    have k6 : K0 90 6 = n := by rw [kf 90 (by omega)]; exact t1
    have k94 : ∀ j, 0 ≤ j → j < n → K0 94 j = I 5 j := fun j q0 q1 => by rw [kf 94 (by omega)]; exact t3 j q0 q1
    refine WP.go 1 ?_
    show WP (Call d) 299 P X (1056, [some (vr (some 2) 102), some (vr (some 3) 9), some (vr (some 90) 10), some (vr (some 100) 13), some (vi i), some (vi 1), x6], [], (K0, H), c + 3, s + 18)
    refine WP.go 11 (Exists.intro (i + 1) (And.intro (wrp_a (by omega) (by omega)) (And.intro (And.intro rfl (And.intro (show 0 ≤ i + 1 from by omega) (show i + 1 < H.2.1 2 from by rw [hl2]; omega))) (Exists.intro (i + 2) (And.intro (wrp_a (by omega) (by omega)) (And.intro (And.intro rfl (And.intro (show 0 ≤ i + 2 from by omega) (show i + 2 < H.2.1 2 from by rw [hl2]; omega))) (?_)))))))
    show WP (Call d) 299 P X (1067, [some (vr (some 2) 102), some (vr (some 3) 9), some (vr (some 90) 10), some (vr (some 100) 13), some (vi i), some (vi 1), x6], [vi (K0 2 (i + 2)), vi (K0 2 (i + 1)), vr (some 90) 10], (K0, H), c + 3, s + 18)
    rw [k2]
    refine WP.go 1 (And.intro (And.intro (show c + 3 + 0 ≤ 601024 from by omega) (show s + 18 + 0 ≤ 7293034 from by omega)) (And.intro rfl (?_)))
    show Call d 245 [vr (some 90) 10, vi (I 2 (i + 1)), vi (I 2 (i + 2))] (K0, H) _ _
    refine s_12_walk (by omega) (tb := I 5) hSk hMk hV hKk k6 t2 t4 k94 ⟨fun q => absurd q v1, fun q => absurd q v1, fun _ K r1 r2 => ?_⟩
    show WP (Call d) 299 P X (1068, [some (vr (some 2) 102), some (vr (some 3) 9), some (vr (some 90) 10), some (vr (some 100) 13), some (vi i), some (vi 1), x6], [vi (0)], (K, H), c + 3 + 0, s + 18 + 0)
    rw [show K0 90 10 = I 3 11 from by rw [kf 90 (by omega)]; exact h10] at r1
    refine WP.go 3 (And.intro (And.intro (show c + 3 + 0 + 0 ≤ 601024 from by omega) (show s + 18 + 0 + 0 ≤ 7293034 from by omega)) (And.intro rfl ?_))
    show Call d 176 [vr (some 90) 10] (K, H) _ _
    refine s_12_thrown (by omega) hS ?_
    show WP (Call d) 299 P X (1071, [some (vr (some 2) 102), some (vr (some 3) 9), some (vr (some 90) 10), some (vr (some 100) 13), some (vi i), some (vi 1), some (vi (0))], [vi (K 90 0)], (K, H), c + 3 + 0 + 0, s + 18 + 0 + 0)
    refine WP.go 2 (And.intro (fun _ => ?_) (fun q => absurd r2 q))
    refine WP.go 2 (And.intro (fun _ => ?_) (fun q => absurd q (by decide)))
    refine WP.go 1 ?_
    show WP (Call d) 299 P X (1689, [some (vr (some 2) 102), some (vr (some 3) 9), some (vr (some 90) 10), some (vr (some 100) 13), some (vi i), some (vi 1), some (vi (0))], [], (K, H), c + 3 + 0 + 0, s + 18 + 0 + 0)
    exact h _ _ _ _ _ _ (hI.w v3 ke r1) ⟨by omega, by omega⟩
  ·
    show WP (Call d) 299 P X (1055, [some (vr (some 2) 102), some (vr (some 3) 9), some (vr (some 90) 10), some (vr (some 100) 13), some (vi i), x5, x6], [vi 2], (J, H), c + 3, s + 18)
    obtain ⟨K0, hK0⟩ : ∃ K0, K0 = J := ⟨_, rfl⟩
    suffices q9 : WP (Call d) 299 P X (1055, [some (vr (some 2) 102), some (vr (some 3) 9), some (vr (some 90) 10), some (vr (some 100) 13), some (vi i), x5, x6], [vi 2], (K0, H), c + 3, s + 18) by rw [hK0] at q9; exact q9
    have ke : ∀ a, a ≠ 100 → K0 a = J a := fun a q => by rw [hK0]
    have kf : ∀ a, a = 2 ∨ a = 5 ∨ a = 91 ∨ a = 94 ∨ a = 95 ∨ a = 90 → K0 a = I a := fun a q => (ke a (by omega)).trans (v3.1 a (by omega))
    have hSk := hS
    have k2 : K0 2 = I 2 := kf 2 (by omega)
    have hMk : K0 91 = μ := (kf 91 (by omega)).trans hM
    have hKk : MS K0 := by unfold MS at *; rw [kf 90 (by omega)]; exact hK
    have k6 : K0 90 6 = n := by rw [kf 90 (by omega)]; exact t1
    have k94 : ∀ j, 0 ≤ j → j < n → K0 94 j = I 5 j := fun j q0 q1 => by rw [kf 94 (by omega)]; exact t3 j q0 q1
    refine WP.go 1 ?_
    show WP (Call d) 299 P X (1056, [some (vr (some 2) 102), some (vr (some 3) 9), some (vr (some 90) 10), some (vr (some 100) 13), some (vi i), some (vi 2), x6], [], (K0, H), c + 3, s + 18)
    refine WP.go 11 (Exists.intro (i + 1) (And.intro (wrp_a (by omega) (by omega)) (And.intro (And.intro rfl (And.intro (show 0 ≤ i + 1 from by omega) (show i + 1 < H.2.1 2 from by rw [hl2]; omega))) (Exists.intro (i + 2) (And.intro (wrp_a (by omega) (by omega)) (And.intro (And.intro rfl (And.intro (show 0 ≤ i + 2 from by omega) (show i + 2 < H.2.1 2 from by rw [hl2]; omega))) (?_)))))))
    show WP (Call d) 299 P X (1067, [some (vr (some 2) 102), some (vr (some 3) 9), some (vr (some 90) 10), some (vr (some 100) 13), some (vi i), some (vi 2), x6], [vi (K0 2 (i + 2)), vi (K0 2 (i + 1)), vr (some 90) 10], (K0, H), c + 3, s + 18)
    rw [k2]
    refine WP.go 1 (And.intro (And.intro (show c + 3 + 0 ≤ 601024 from by omega) (show s + 18 + 0 ≤ 7293034 from by omega)) (And.intro rfl (?_)))
    show Call d 245 [vr (some 90) 10, vi (I 2 (i + 1)), vi (I 2 (i + 2))] (K0, H) _ _
    refine s_12_walk (by omega) (tb := I 5) hSk hMk hV hKk k6 t2 t4 k94 ⟨fun _ q => absurd q v2, fun _ _ K r1 r2 => ?_, fun q => absurd v1 q⟩
    show WP (Call d) 299 P X (1068, [some (vr (some 2) 102), some (vr (some 3) 9), some (vr (some 90) 10), some (vr (some 100) 13), some (vi i), some (vi 2), x6], [vi (0)], (K, H), c + 3 + 0, s + 18 + 0)
    refine WP.go 3 (And.intro (And.intro (show c + 3 + 0 + 0 ≤ 601024 from by omega) (show s + 18 + 0 + 0 ≤ 7293034 from by omega)) (And.intro rfl ?_))
    show Call d 176 [vr (some 90) 10] (K, H) _ _
    refine s_12_thrown (by omega) hS ?_
    show WP (Call d) 299 P X (1071, [some (vr (some 2) 102), some (vr (some 3) 9), some (vr (some 90) 10), some (vr (some 100) 13), some (vi i), some (vi 2), some (vi (0))], [vi (K 90 0)], (K, H), c + 3 + 0 + 0, s + 18 + 0 + 0)
    refine WP.go 2 (And.intro (fun _ => ?_) (fun q => absurd r2 q))
    refine WP.go 2 (And.intro (fun _ => ?_) (fun q => absurd q (by decide)))
    refine WP.go 1 ?_
    show WP (Call d) 299 P X (1689, [some (vr (some 2) 102), some (vr (some 3) 9), some (vr (some 90) 10), some (vr (some 100) 13), some (vi i), some (vi 2), some (vi (0))], [], (K, H), c + 3 + 0 + 0, s + 18 + 0 + 0)
    exact h _ _ _ _ _ _ (hI.w v3 ke r1) ⟨by omega, by omega⟩

set_option maxRecDepth 20000 in
theorem law_40 {d : Nat} {P : Option qV → qH → Prop} {X : Nat → qH → Prop} {I : qI} {H : qS} {f : Int → Int} {L i : Int} {x5 x6 : Option qV} {c s : Nat} (hd : 100 ≤ d) (hI : LI f L i I H) (hi : 0 ≤ i ∧ i + 6 ≤ L ∧ L ≤ 3072) (hc : (c : Int) ≤ 1000 + 100 * i ∧ (s : Int) ≤ 40000 + 2000 * i) (h : ∀ (K : qI) (G : qS) (y5 y6 : Option qV) (c9 s9 : Nat), LI f L (i + 6) K G → (c9 ≤ c + 90 ∧ s9 ≤ s + 9000) → WP (Call d) 299 P X (1689, [some (vr (some 2) 102), some (vr (some 3) 9), some (vr (some 90) 10), some (vr (some 100) 13), some (vi i), y5, y6], [], (K, G), c9, s9)) :
    WP (Call d) 299 P X (1660, [some (vr (some 2) 102), some (vr (some 3) 9), some (vr (some 90) 10), some (vr (some 100) 13), some (vi i), x5, x6], [], (I, H), c, s) := by
  obtain ⟨hS, hX, ⟨hf2, hl2⟩, ⟨hT, hV, hO, hLL⟩, ⟨hC, hC2⟩, hK, hKP, hTP, hFX, h10⟩ := id hI
  have hl100 := hS.l100
  generalize hM : I 91 = μ at *
  refine WP.go 2 (And.intro (And.intro (show c + 0 ≤ 601024 from by omega) (show s + 0 ≤ 7293034 from by omega)) (And.intro rfl (?_)))
  show Call d 156 [vr (some 3) 9] (I, H) _ _
  refine s_11_image (by omega) hS (fun J G v1 v2 v3 v4 v5 => ?_)
  show WP (Call d) 299 P X (1662, [some (vr (some 2) 102), some (vr (some 3) 9), some (vr (some 90) 10), some (vr (some 100) 13), some (vi i), x5, x6], [], (upI J 3 10 1, G), c + 0, s + 0)
  have hSk : Shp G := hS.up (fun a z _ _ q => v3 a z q) v4
  obtain ⟨K0, hK0⟩ : ∃ K0, K0 = upI J 3 10 1 := ⟨_, rfl⟩
  suffices q9 : WP (Call d) 299 P X (1662, [some (vr (some 2) 102), some (vr (some 3) 9), some (vr (some 90) 10), some (vr (some 100) 13), some (vi i), x5, x6], [], (K0, G), c + 0, s + 0) by rw [hK0] at q9; exact q9
  have hKk : MS K0 := by unfold MS at *; rw [hK0, upI_cell (by omega), v5 90 (by omega)]; exact hK
  refine WP.go 1 (?_)
  show WP (Call d) 299 P X (1663, [some (vr (some 2) 102), some (vr (some 3) 9), some (vr (some 90) 10), some (vr (some 100) 13), some (vi i), x5, x6], [vr (some 90) 10], (K0, G), c + 0, s + 0)
  refine WP.go 1 (And.intro (And.intro (show c + 0 + 0 ≤ 601024 from by omega) (show s + 0 + 0 ≤ 7293034 from by omega)) (And.intro rfl (?_)))
  show Call d 265 [vr (some 90) 10] (K0, G) _ _
  refine s_12_image (by omega) hSk hKk (fun K r1 r2 r3 r4 => ?_)
  show WP (Call d) 299 P X (1664, [some (vr (some 2) 102), some (vr (some 3) 9), some (vr (some 90) 10), some (vr (some 100) 13), some (vi i), x5, x6], [], (K, G), c + 0 + 0, s + 0 + 0)
  refine WP.go 1 ?_
  show WP (Call d) 299 P X (1689, [some (vr (some 2) 102), some (vr (some 3) 9), some (vr (some 90) 10), some (vr (some 100) 13), some (vi i), x5, x6], [], (K, G), c + 0 + 0, s + 0 + 0)
  rw [hK0] at r1 r2 r3
  exact h _ _ _ _ _ _ (hI.im v1 v2 v3 v4 v5 r1 r2 r3 r4) ⟨by omega, by omega⟩

set_option maxRecDepth 20000 in
theorem law_41 {d : Nat} {P : Option qV → qH → Prop} {X : Nat → qH → Prop} {I : qI} {H : qS} {f : Int → Int} {L i : Int} {x5 x6 : Option qV} {c s : Nat} (hd : 100 ≤ d) (hI : LI f L i I H) (hi : 0 ≤ i ∧ i + 6 ≤ L ∧ L ≤ 3072) (hc : (c : Int) ≤ 1000 + 100 * i ∧ (s : Int) ≤ 40000 + 2000 * i) (h : ∀ (K : qI) (G : qS) (y5 y6 : Option qV) (c9 s9 : Nat), LI f L (i + 6) K G → (c9 ≤ c + 90 ∧ s9 ≤ s + 9000) → WP (Call d) 299 P X (1689, [some (vr (some 2) 102), some (vr (some 3) 9), some (vr (some 90) 10), some (vr (some 100) 13), some (vi i), y5, y6], [], (K, G), c9, s9)) :
    WP (Call d) 299 P X (1665, [some (vr (some 2) 102), some (vr (some 3) 9), some (vr (some 90) 10), some (vr (some 100) 13), some (vi i), x5, x6], [], (I, H), c, s) := by
  obtain ⟨hS, hX, ⟨hf2, hl2⟩, ⟨hT, hV, hO, hLL⟩, ⟨hC, hC2⟩, hK, hKP, hTP, hFX, h10⟩ := id hI
  have hl100 := hS.l100
  generalize hM : I 91 = μ at *
  refine WP.go 2 (And.intro (And.intro (show c + 0 ≤ 601024 from by omega) (show s + 0 ≤ 7293034 from by omega)) (And.intro rfl (?_)))
  show Call d 157 [vr (some 3) 9] (I, H) _ _
  refine s_11_back (by omega) hS ⟨fun v0 => ?_, fun v0 J G v1 v2 v3 v4 v5 => ?_⟩
  ·
    show WP (Call d) 299 P X (1667, [some (vr (some 2) 102), some (vr (some 3) 9), some (vr (some 90) 10), some (vr (some 100) 13), some (vi i), x5, x6], [vi 0], (I, H), c + 0, s + 0)
    have hSk := hS
    obtain ⟨K0, hK0⟩ : ∃ K0, K0 = I := ⟨_, rfl⟩
    suffices q9 : WP (Call d) 299 P X (1667, [some (vr (some 2) 102), some (vr (some 3) 9), some (vr (some 90) 10), some (vr (some 100) 13), some (vi i), x5, x6], [vi 0], (K0, H), c + 0, s + 0) by rw [hK0] at q9; exact q9
    have k9 : K0 90 = I 90 := by rw [hK0]
    have hKk : MS K0 := by unfold MS at *; rw [k9]; exact hK
    have k3 : K0 90 3 = I 3 10 := by rw [k9]; exact hKP.1
    refine WP.go 1 (?_)
    show WP (Call d) 299 P X (1668, [some (vr (some 2) 102), some (vr (some 3) 9), some (vr (some 90) 10), some (vr (some 100) 13), some (vi i), x5, x6], [vr (some 90) 10, vi 0], (K0, H), c + 0, s + 0)
    refine WP.go 1 (And.intro (And.intro (show c + 0 + 0 ≤ 601024 from by omega) (show s + 0 + 0 ≤ 7293034 from by omega)) (And.intro rfl (?_)))
    show Call d 266 [vr (some 90) 10] (K0, H) _ _
    refine s_12_back (by omega) hSk hKk ⟨fun _ K r1 => ?_, fun q => absurd (k3.trans v0) q⟩
    show WP (Call d) 299 P X (1669, [some (vr (some 2) 102), some (vr (some 3) 9), some (vr (some 90) 10), some (vr (some 100) 13), some (vi i), x5, x6], [vi 0, vi 0], (K, H), c + 0 + 0, s + 0 + 0)
    refine WP.go 1 (And.intro (fun _ => ?_) (fun q => absurd (show (0 : Int) = 0 from rfl) q))
    show WP (Call d) 299 P X (1689, [some (vr (some 2) 102), some (vr (some 3) 9), some (vr (some 90) 10), some (vr (some 100) 13), some (vi i), x5, x6], [], (K, H), c + 0 + 0, s + 0 + 0)
    rw [hK0] at r1
    exact h _ _ _ _ _ _ (hI.m (CF.rf I) r1) ⟨by omega, by omega⟩
  ·
    show WP (Call d) 299 P X (1667, [some (vr (some 2) 102), some (vr (some 3) 9), some (vr (some 90) 10), some (vr (some 100) 13), some (vi i), x5, x6], [vi 1], (J, G), c + 0, s + 0)
    have hSk : Shp G := hS.up (fun a z q _ _ => v3 a z q) v4
    obtain ⟨K0, hK0⟩ : ∃ K0, K0 = J := ⟨_, rfl⟩
    suffices q9 : WP (Call d) 299 P X (1667, [some (vr (some 2) 102), some (vr (some 3) 9), some (vr (some 90) 10), some (vr (some 100) 13), some (vi i), x5, x6], [vi 1], (K0, G), c + 0, s + 0) by rw [hK0] at q9; exact q9
    have k9 : K0 90 = I 90 := by rw [hK0]; exact v5 90 (by omega)
    have hKk : MS K0 := by unfold MS at *; rw [k9]; exact hK
    have k3 : K0 90 3 = I 3 10 := by rw [k9]; exact hKP.1
    refine WP.go 1 (?_)
    show WP (Call d) 299 P X (1668, [some (vr (some 2) 102), some (vr (some 3) 9), some (vr (some 90) 10), some (vr (some 100) 13), some (vi i), x5, x6], [vr (some 90) 10, vi 1], (K0, G), c + 0, s + 0)
    refine WP.go 1 (And.intro (And.intro (show c + 0 + 0 ≤ 601024 from by omega) (show s + 0 + 0 ≤ 7293034 from by omega)) (And.intro rfl (?_)))
    show Call d 266 [vr (some 90) 10] (K0, G) _ _
    refine s_12_back (by omega) hSk hKk ⟨fun q => absurd (k3.symm.trans q) v0, fun _ K r1 r2 => ?_⟩
    show WP (Call d) 299 P X (1669, [some (vr (some 2) 102), some (vr (some 3) 9), some (vr (some 90) 10), some (vr (some 100) 13), some (vi i), x5, x6], [vi 1, vi 1], (K, G), c + 0 + 0, s + 0 + 0)
    refine WP.go 1 (And.intro (fun _ => ?_) (fun q => absurd (show (1 : Int) = 1 from rfl) q))
    show WP (Call d) 299 P X (1689, [some (vr (some 2) 102), some (vr (some 3) 9), some (vr (some 90) 10), some (vr (some 100) 13), some (vi i), x5, x6], [], (K, G), c + 0 + 0, s + 0 + 0)
    rw [hK0] at r1 r2
    exact h _ _ _ _ _ _ (hI.bk v0 v1 v2 v3 v4 v5 r1 r2) ⟨by omega, by omega⟩

