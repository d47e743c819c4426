set_option maxRecDepth 20000 in
theorem law_7 {d : Nat} {P : Option qV → qH → Prop} {X : Nat → qH → Prop} {I : qI} {H : qS} {f : Int → Int} {L i : Int} {x5 x6 : Option qV} {c s : Nat} (hd : 100 ≤ d) (hI : LI f L i I H) (hi : 0 ≤ i ∧ i + 6 ≤ L ∧ L ≤ 3072) (hc : (c : Int) ≤ 1000 + 100 * i ∧ (s : Int) ≤ 40000 + 2000 * i) (h : ∀ (K : qI) (G : qS) (y5 y6 : Option qV) (c9 s9 : Nat), LI f L (i + 6) K G → (c9 ≤ c + 90 ∧ s9 ≤ s + 9000) → WP (Call d) 299 P X (1689, [some (vr (some 2) 102), some (vr (some 3) 9), some (vr (some 90) 10), some (vr (some 100) 13), some (vi i), y5, y6], [], (K, G), c9, s9)) :
    WP (Call d) 299 P X (236, [some (vr (some 2) 102), some (vr (some 3) 9), some (vr (some 90) 10), some (vr (some 100) 13), some (vi i), x5, x6], [], (I, H), c, s) := by
  obtain ⟨hS, hX, ⟨hf2, hl2⟩, ⟨hT, hV, hO, hLL⟩, ⟨hC, hC2⟩, hK, hKP, hTP, hFX, h10⟩ := id hI
  have hl100 := hS.l100
  generalize hM : I 91 = μ at *
  refine WP.go 2 (And.intro (And.intro (show c + 0 ≤ 601024 from by omega) (show s + 0 ≤ 7293034 from by omega)) (And.intro rfl (?_)))
  show Call d 123 [vr (some 3) 9] (I, H) _ _
  refine s_11_stop (by omega) hS hX hT hV (fun J v1 => ?_)
  ·
    show WP (Call d) 299 P X (238, [some (vr (some 2) 102), some (vr (some 3) 9), some (vr (some 90) 10), some (vr (some 100) 13), some (vi i), x5, x6], [vi (STP (AN μ))], (J, H), c + 0, s + 0)
    obtain ⟨K0, hK0⟩ : ∃ K0, K0 = J := ⟨_, rfl⟩
    have kf : ∀ a, a < 6 ∨ 90 ≤ a → K0 a = I a := fun a q => by rw [hK0]; exact v1 a (by omega)
    suffices q9 : WP (Call d) 299 P X (238, [some (vr (some 2) 102), some (vr (some 3) 9), some (vr (some 90) 10), some (vr (some 100) 13), some (vi i), x5, x6], [vi (STP (AN μ))], (K0, H), c + 0, s + 0) by rw [hK0] at q9; exact q9
    have k2 : K0 2 = I 2 := kf 2 (by omega)
    have hMk : K0 91 = μ := (kf 91 (by omega)).trans hM
    have hKk : MS K0 := by unfold MS at *; rw [kf 90 (by omega)]; exact hK
    refine WP.go 1 (?_)
    show WP (Call d) 299 P X (239, [some (vr (some 2) 102), some (vr (some 3) 9), some (vr (some 90) 10), some (vr (some 100) 13), some (vi i), x5, x6], [vr (some 90) 10, vi (STP (AN μ))], (K0, H), c + 0, s + 0)
    refine WP.go 1 (And.intro (And.intro (show c + 0 + 0 ≤ 601024 from by omega) (show s + 0 + 0 ≤ 7293034 from by omega)) (And.intro rfl (?_)))
    show Call d 213 [vr (some 90) 10] (K0, H) _ _
    refine s_12_stop (by omega) hS hMk hV hKk (fun K r1 r2 => ?_)
    show WP (Call d) 299 P X (240, [some (vr (some 2) 102), some (vr (some 3) 9), some (vr (some 90) 10), some (vr (some 100) 13), some (vi i), x5, x6], [vi (STP (AN μ)), vi (STP (AN μ))], (K, H), c + 0 + 0, s + 0 + 0)
    refine WP.go 1 (And.intro (fun _ => ?_) (fun q => absurd (show (STP (AN μ) : Int) = STP (AN μ) from rfl) q))
    show WP (Call d) 299 P X (1689, [some (vr (some 2) 102), some (vr (some 3) 9), some (vr (some 90) 10), some (vr (some 100) 13), some (vi i), x5, x6], [], (K, H), c + 0 + 0, s + 0 + 0)
    rw [hK0] at r1
    exact h _ _ _ _ _ _ (hI.m v1 r1) ⟨by omega, by omega⟩

set_option maxRecDepth 20000 in
theorem law_18 {d : Nat} {P : Option qV → qH → Prop} {X : Nat → qH → Prop} {I : qI} {H : qS} {f : Int → Int} {L i : Int} {x5 x6 : Option qV} {c s : Nat} (hd : 100 ≤ d) (hI : LI f L i I H) (hi : 0 ≤ i ∧ i + 6 ≤ L ∧ L ≤ 3072) (hc : (c : Int) ≤ 1000 + 100 * i ∧ (s : Int) ≤ 40000 + 2000 * i) (h : ∀ (K : qI) (G : qS) (y5 y6 : Option qV) (c9 s9 : Nat), LI f L (i + 6) K G → (c9 ≤ c + 90 ∧ s9 ≤ s + 9000) → WP (Call d) 299 P X (1689, [some (vr (some 2) 102), some (vr (some 3) 9), some (vr (some 90) 10), some (vr (some 100) 13), some (vi i), y5, y6], [], (K, G), c9, s9)) :
    WP (Call d) 299 P X (736, [some (vr (some 2) 102), some (vr (some 3) 9), some (vr (some 90) 10), some (vr (some 100) 13), some (vi i), x5, x6], [], (I, H), c, s) := by
  obtain ⟨hS, hX, ⟨hf2, hl2⟩, ⟨hT, hV, hO, hLL⟩, ⟨hC, hC2⟩, hK, hKP, hTP, hFX, h10⟩ := id hI
  have hl100 := hS.l100
  generalize hM : I 91 = μ at *
  refine WP.go 2 (And.intro (And.intro (show c + 0 ≤ 601024 from by omega) (show s + 0 ≤ 7293034 from by omega)) (And.intro rfl (?_)))
  show Call d 134 [vr (some 3) 9] (I, H) _ _
  refine s_11_twice (by omega) hS hX hT hV (fun J v1 => ?_)
  ·
    show WP (Call d) 299 P X (738, [some (vr (some 2) 102), some (vr (some 3) 9), some (vr (some 90) 10), some (vr (some 100) 13), some (vi i), x5, x6], [vi (TWI μ)], (J, H), c + 0, s + 0)
    obtain ⟨K0, hK0⟩ : ∃ K0, K0 = J := ⟨_, rfl⟩
    have kf : ∀ a, a < 6 ∨ 90 ≤ a → K0 a = I a := fun a q => by rw [hK0]; exact v1 a (by omega)
    suffices q9 : WP (Call d) 299 P X (738, [some (vr (some 2) 102), some (vr (some 3) 9), some (vr (some 90) 10), some (vr (some 100) 13), some (vi i), x5, x6], [vi (TWI μ)], (K0, H), c + 0, s + 0) by rw [hK0] at q9; exact q9
    have k2 : K0 2 = I 2 := kf 2 (by omega)
    have hMk : K0 91 = μ := (kf 91 (by omega)).trans hM
    have hKk : MS K0 := by unfold MS at *; rw [kf 90 (by omega)]; exact hK
    refine WP.go 1 (?_)
    show WP (Call d) 299 P X (739, [some (vr (some 2) 102), some (vr (some 3) 9), some (vr (some 90) 10), some (vr (some 100) 13), some (vi i), x5, x6], [vr (some 90) 10, vi (TWI μ)], (K0, H), c + 0, s + 0)
    refine WP.go 1 (And.intro (And.intro (show c + 0 + 0 ≤ 601024 from by omega) (show s + 0 + 0 ≤ 7293034 from by omega)) (And.intro rfl (?_)))
    show Call d 235 [vr (some 90) 10] (K0, H) _ _
    refine s_12_twice (by omega) hS hMk hV hKk (fun K r1 r2 => ?_)
    show WP (Call d) 299 P X (740, [some (vr (some 2) 102), some (vr (some 3) 9), some (vr (some 90) 10), some (vr (some 100) 13), some (vi i), x5, x6], [vi (TWI μ), vi (TWI μ)], (K, H), c + 0 + 0, s + 0 + 0)
    refine WP.go 1 (And.intro (fun _ => ?_) (fun q => absurd (show (TWI μ : Int) = TWI μ from rfl) q))
    show WP (Call d) 299 P X (1689, [some (vr (some 2) 102), some (vr (some 3) 9), some (vr (some 90) 10), some (vr (some 100) 13), some (vi i), x5, x6], [], (K, H), c + 0 + 0, s + 0 + 0)
    rw [hK0] at r1
    exact h _ _ _ _ _ _ (hI.m v1 r1) ⟨by omega, by omega⟩

set_option maxRecDepth 20000 in
theorem law_35 {d : Nat} {P : Option qV → qH → Prop} {X : Nat → qH → Prop} {I : qI} {H : qS} {f : Int → Int} {L i : Int} {x5 x6 : Option qV} {c s : Nat} (hd : 100 ≤ d) (hI : LI f L i I H) (hi : 0 ≤ i ∧ i + 6 ≤ L ∧ L ≤ 3072) (hc : (c : Int) ≤ 1000 + 100 * i ∧ (s : Int) ≤ 40000 + 2000 * i) (h : ∀ (K : qI) (G : qS) (y5 y6 : Option qV) (c9 s9 : Nat), LI f L (i + 6) K G → (c9 ≤ c + 90 ∧ s9 ≤ s + 9000) → WP (Call d) 299 P X (1689, [some (vr (some 2) 102), some (vr (some 3) 9), some (vr (some 90) 10), some (vr (some 100) 13), some (vi i), y5, y6], [], (K, G), c9, s9)) :
    WP (Call d) 299 P X (1483, [some (vr (some 2) 102), some (vr (some 3) 9), some (vr (some 90) 10), some (vr (some 100) 13), some (vi i), x5, x6], [], (I, H), c, s) := by
  obtain ⟨hS, hX, ⟨hf2, hl2⟩, ⟨hT, hV, hO, hLL⟩, ⟨hC, hC2⟩, hK, hKP, hTP, hFX, h10⟩ := id hI
  have hl100 := hS.l100
  generalize hM : I 91 = μ at *
  refine WP.go 2 (And.intro (And.intro (show c + 0 ≤ 601024 from by omega) (show s + 0 ≤ 7293034 from by omega)) (And.intro rfl (?_)))
  show Call d 151 [vr (some 3) 9] (I, H) _ _
  refine s_11_left (by omega) hS hX hT hV (fun J v1 => ?_)
  ·
    show WP (Call d) 299 P X (1485, [some (vr (some 2) 102), some (vr (some 3) 9), some (vr (some 90) 10), some (vr (some 100) 13), some (vi i), x5, x6], [vi (hB (fun i => LGH μ (AN μ) (HT μ) i (STP (AN μ)) = 0) (μ 1))], (J, H), c + 0, s + 0)
    obtain ⟨K0, hK0⟩ : ∃ K0, K0 = J := ⟨_, rfl⟩
    have kf : ∀ a, a < 6 ∨ 90 ≤ a → K0 a = I a := fun a q => by rw [hK0]; exact v1 a (by omega)
    suffices q9 : WP (Call d) 299 P X (1485, [some (vr (some 2) 102), some (vr (some 3) 9), some (vr (some 90) 10), some (vr (some 100) 13), some (vi i), x5, x6], [vi (hB (fun i => LGH μ (AN μ) (HT μ) i (STP (AN μ)) = 0) (μ 1))], (K0, H), c + 0, s + 0) by rw [hK0] at q9; exact q9
    have k2 : K0 2 = I 2 := kf 2 (by omega)
    have hMk : K0 91 = μ := (kf 91 (by omega)).trans hM
    have hKk : MS K0 := by unfold MS at *; rw [kf 90 (by omega)]; exact hK
    refine WP.go 1 (?_)
    show WP (Call d) 299 P X (1486, [some (vr (some 2) 102), some (vr (some 3) 9), some (vr (some 90) 10), some (vr (some 100) 13), some (vi i), x5, x6], [vr (some 90) 10, vi (hB (fun i => LGH μ (AN μ) (HT μ) i (STP (AN μ)) = 0) (μ 1))], (K0, H), c + 0, s + 0)
    refine WP.go 1 (And.intro (And.intro (show c + 0 + 0 ≤ 601024 from by omega) (show s + 0 + 0 ≤ 7293034 from by omega)) (And.intro rfl (?_)))
    show Call d 260 [vr (some 90) 10] (K0, H) _ _
    refine s_12_left (by omega) hS hMk hV hKk (fun K r1 r2 => ?_)
    show WP (Call d) 299 P X (1487, [some (vr (some 2) 102), some (vr (some 3) 9), some (vr (some 90) 10), some (vr (some 100) 13), some (vi i), x5, x6], [vi (hB (fun i => LGH μ (AN μ) (HT μ) i (STP (AN μ)) = 0) (μ 1)), vi (hB (fun i => LGH μ (AN μ) (HT μ) i (STP (AN μ)) = 0) (μ 1))], (K, H), c + 0 + 0, s + 0 + 0)
    refine WP.go 1 (And.intro (fun _ => ?_) (fun q => absurd (show (hB (fun i => LGH μ (AN μ) (HT μ) i (STP (AN μ)) = 0) (μ 1) : Int) = hB (fun i => LGH μ (AN μ) (HT μ) i (STP (AN μ)) = 0) (μ 1) from rfl) q))
    show WP (Call d) 299 P X (1689, [some (vr (some 2) 102), some (vr (some 3) 9), some (vr (some 90) 10), some (vr (some 100) 13), some (vi i), x5, x6], [], (K, H), c + 0 + 0, s + 0 + 0)
    rw [hK0] at r1
    exact h _ _ _ _ _ _ (hI.m v1 r1) ⟨by omega, by omega⟩

set_option maxRecDepth 20000 in
theorem law_4 {d : Nat} {P : Option qV → qH → Prop} {X : Nat → qH → Prop} {I : qI} {H : qS} {f : Int → Int} {L i : Int} {x5 x6 : Option qV} {c s : Nat} (hd : 100 ≤ d) (hI : LI f L i I H) (hi : 0 ≤ i ∧ i + 6 ≤ L ∧ L ≤ 3072) (hc : (c : Int) ≤ 1000 + 100 * i ∧ (s : Int) ≤ 40000 + 2000 * i) (h : ∀ (K : qI) (G : qS) (y5 y6 : Option qV) (c9 s9 : Nat), LI f L (i + 6) K G → (c9 ≤ c + 90 ∧ s9 ≤ s + 9000) → WP (Call d) 299 P X (1689, [some (vr (some 2) 102), some (vr (some 3) 9), some (vr (some 90) 10), some (vr (some 100) 13), some (vi i), y5, y6], [], (K, G), c9, s9)) :
    WP (Call d) 299 P X (149, [some (vr (some 2) 102), some (vr (some 3) 9), some (vr (some 90) 10), some (vr (some 100) 13), some (vi i), x5, x6], [], (I, H), c, s) := by
  obtain ⟨hS, hX, ⟨hf2, hl2⟩, ⟨hT, hV, hO, hLL⟩, ⟨hC, hC2⟩, hK, hKP, hTP, hFX, h10⟩ := id hI
  have hl100 := hS.l100
  generalize hM : I 91 = μ at *
  refine WP.go 2 (And.intro (And.intro (show c + 0 ≤ 601024 from by omega) (show s + 0 ≤ 7293034 from by omega)) (And.intro rfl (?_)))
  show Call d 120 [vr (some 3) 9] (I, H) _ _
  refine s_11_fault (by omega)  ?_
  ·
    show WP (Call d) 299 P X (151, [some (vr (some 2) 102), some (vr (some 3) 9), some (vr (some 90) 10), some (vr (some 100) 13), some (vi i), x5, x6], [vi (I 3 11)], (I, H), c + 0, s + 0)
    obtain ⟨K0, hK0⟩ : ∃ K0, K0 = I := ⟨_, rfl⟩
    have kf : ∀ a, a < 6 ∨ 90 ≤ a → K0 a = I a := fun a q => by rw [hK0]
    suffices q9 : WP (Call d) 299 P X (151, [some (vr (some 2) 102), some (vr (some 3) 9), some (vr (some 90) 10), some (vr (some 100) 13), some (vi i), x5, x6], [vi (I 3 11)], (K0, H), c + 0, s + 0) by rw [hK0] at q9; exact q9
    have k2 : K0 2 = I 2 := kf 2 (by omega)
    have hMk : K0 91 = μ := (kf 91 (by omega)).trans hM
    have hKk : MS K0 := by unfold MS at *; rw [kf 90 (by omega)]; exact hK
    refine WP.go 1 (?_)
    show WP (Call d) 299 P X (152, [some (vr (some 2) 102), some (vr (some 3) 9), some (vr (some 90) 10), some (vr (some 100) 13), some (vi i), x5, x6], [vr (some 90) 10, vi (I 3 11)], (K0, H), c + 0, s + 0)
    refine WP.go 1 (And.intro (And.intro (show c + 0 + 0 ≤ 601024 from by omega) (show s + 0 + 0 ≤ 7293034 from by omega)) (And.intro rfl (?_)))
    show Call d 207 [vr (some 90) 10] (K0, H) _ _
    refine s_12_fault (by omega) hS hMk hV hKk (fun K r1 r2 => ?_)
    show WP (Call d) 299 P X (153, [some (vr (some 2) 102), some (vr (some 3) 9), some (vr (some 90) 10), some (vr (some 100) 13), some (vi i), x5, x6], [vi (K0 90 10), vi (I 3 11)], (K, H), c + 0 + 0, s + 0 + 0)
    refine WP.go 1 (And.intro (fun _ => ?_) (fun q => absurd (show (I 3 11 : Int) = K0 90 10 from (by rw [kf 90 (by omega)]; exact h10.symm)) q))
    show WP (Call d) 299 P X (1689, [some (vr (some 2) 102), some (vr (some 3) 9), some (vr (some 90) 10), some (vr (some 100) 13), some (vi i), x5, x6], [], (K, H), c + 0 + 0, s + 0 + 0)
    rw [hK0] at r1
    exact h _ _ _ _ _ _ (hI.m (CF.rf I) r1) ⟨by omega, by omega⟩

set_option maxRecDepth 20000 in
theorem law_42 {d : Nat} {P : Option qV → qH → Prop} {X : Nat → qH → Prop} {I : qI} {H : qS} {f : Int → Int} {L i : Int} {x5 x6 : Option qV} {c s : Nat} (hd : 100 ≤ d) (hI : LI f L i I H) (hi : 0 ≤ i ∧ i + 6 ≤ L ∧ L ≤ 3072) (hc : (c : Int) ≤ 1000 + 100 * i ∧ (s : Int) ≤ 40000 + 2000 * i) (h : ∀ (K : qI) (G : qS) (y5 y6 : Option qV) (c9 s9 : Nat), LI f L (i + 6) K G → (c9 ≤ c + 90 ∧ s9 ≤ s + 9000) → WP (Call d) 299 P X (1689, [some (vr (some 2) 102), some (vr (some 3) 9), some (vr (some 90) 10), some (vr (some 100) 13), some (vi i), y5, y6], [], (K, G), c9, s9)) :
    WP (Call d) 299 P X (1672, [some (vr (some 2) 102), some (vr (some 3) 9), some (vr (some 90) 10), some (vr (some 100) 13), some (vi i), x5, x6], [], (I, H), c, s) := by
  obtain ⟨hS, hX, ⟨hf2, hl2⟩, ⟨hT, hV, hO, hLL⟩, ⟨hC, hC2⟩, hK, hKP, hTP, hFX, h10⟩ := id hI
  have hl100 := hS.l100
  generalize hM : I 91 = μ at *
  refine WP.go 7 (Exists.intro (i + 1) (And.intro (wrp_a (by omega) (by omega)) (And.intro (And.intro rfl (And.intro (show 0 ≤ i + 1 from by omega) (show i + 1 < H.2.1 2 from by rw [hl2]; omega))) (And.intro (And.intro (show c + 0 ≤ 601024 from by omega) (show s + 0 ≤ 7293034 from by omega)) (And.intro rfl (?_))))))
  show Call d 158 [vr (some 3) 9, vi (I 2 (i + 1))] (I, H) _ _
  refine s_11_count (by omega) hS hT hV ?_
  ·
    show WP (Call d) 299 P X (1679, [some (vr (some 2) 102), some (vr (some 3) 9), some (vr (some 90) 10), some (vr (some 100) 13), some (vi i), x5, x6], [vi (CNT μ (I 2 (i + 1)))], (I, H), c + 0, s + 0)
    obtain ⟨K0, hK0⟩ : ∃ K0, K0 = I := ⟨_, rfl⟩
    have kf : ∀ a, a < 6 ∨ 90 ≤ a → K0 a = I a := fun a q => by rw [hK0]
    suffices q9 : WP (Call d) 299 P X (1679, [some (vr (some 2) 102), some (vr (some 3) 9), some (vr (some 90) 10), some (vr (some 100) 13), some (vi i), x5, x6], [vi (CNT μ (I 2 (i + 1)))], (K0, H), c + 0, s + 0) by rw [hK0] at q9; exact q9
    have k2 : K0 2 = I 2 := kf 2 (by omega)
    have hMk : K0 91 = μ := (kf 91 (by omega)).trans hM
    have hKk : MS K0 := by unfold MS at *; rw [kf 90 (by omega)]; exact hK
    refine WP.go 6 (Exists.intro (i + 1) (And.intro (wrp_a (by omega) (by omega)) (And.intro (And.intro rfl (And.intro (show 0 ≤ i + 1 from by omega) (show i + 1 < H.2.1 2 from by rw [hl2]; omega))) (?_))))
    show WP (Call d) 299 P X (1685, [some (vr (some 2) 102), some (vr (some 3) 9), some (vr (some 90) 10), some (vr (some 100) 13), some (vi i), x5, x6], [vi (K0 2 (i + 1)), vr (some 90) 10, vi (CNT μ (I 2 (i + 1)))], (K0, H), c + 0, s + 0)
    rw [k2]
    refine WP.go 1 (And.intro (And.intro (show c + 0 + 0 ≤ 601024 from by omega) (show s + 0 + 0 ≤ 7293034 from by omega)) (And.intro rfl (?_)))
    show Call d 267 [vr (some 90) 10, vi (I 2 (i + 1))] (K0, H) _ _
    refine s_12_count (by omega) hS hMk hV hKk (fun K r1 r2 => ?_)
    show WP (Call d) 299 P X (1686, [some (vr (some 2) 102), some (vr (some 3) 9), some (vr (some 90) 10), some (vr (some 100) 13), some (vi i), x5, x6], [vi (CNT μ (I 2 (i + 1))), vi (CNT μ (I 2 (i + 1)))], (K, H), c + 0 + 0, s + 0 + 0)
    refine WP.go 1 (And.intro (fun _ => ?_) (fun q => absurd (show (CNT μ (I 2 (i + 1)) : Int) = CNT μ (I 2 (i + 1)) from rfl) q))
    show WP (Call d) 299 P X (1689, [some (vr (some 2) 102), some (vr (some 3) 9), some (vr (some 90) 10), some (vr (some 100) 13), some (vi i), x5, x6], [], (K, H), c + 0 + 0, s + 0 + 0)
    rw [hK0] at r1
    exact h _ _ _ _ _ _ (hI.m (CF.rf I) r1) ⟨by omega, by omega⟩

set_option maxRecDepth 20000 in
theorem law_39 {d : Nat} {P : Option qV → qH → Prop} {X : Nat → qH → Prop} {I : qI} {H : qS} {f : Int → Int} {L i : Int} {x5 x6 : Option qV} {c s : Nat} (hd : 100 ≤ d) (hI : LI f L i I H) (hi : 0 ≤ i ∧ i + 6 ≤ L ∧ L ≤ 3072) (hc : (c : Int) ≤ 1000 + 100 * i ∧ (s : Int) ≤ 40000 + 2000 * i) (h : ∀ (K : qI) (G : qS) (y5 y6 : Option qV) (c9 s9 : Nat), LI f L (i + 6) K G → (c9 ≤ c + 90 ∧ s9 ≤ s + 9000) → WP (Call d) 299 P X (1689, [some (vr (some 2) 102), some (vr (some 3) 9), some (vr (some 90) 10), some (vr (some 100) 13), some (vi i), y5, y6], [], (K, G), c9, s9)) :
    WP (Call d) 299 P X (1643, [some (vr (some 2) 102), some (vr (some 3) 9), some (vr (some 90) 10), some (vr (some 100) 13), some (vi i), x5, x6], [], (I, H), c, s) := by
  obtain ⟨hS, hX, ⟨hf2, hl2⟩, ⟨hT, hV, hO, hLL⟩, ⟨hC, hC2⟩, hK, hKP, hTP, hFX, h10⟩ := id hI
  have hl100 := hS.l100
  generalize hM : I 91 = μ at *
  refine WP.go 7 (Exists.intro (i + 1) (And.intro (wrp_a (by omega) (by omega)) (And.intro (And.intro rfl (And.intro (show 0 ≤ i + 1 from by omega) (show i + 1 < H.2.1 2 from by rw [hl2]; omega))) (And.intro (And.intro (show c + 0 ≤ 601024 from by omega) (show s + 0 ≤ 7293034 from by omega)) (And.intro rfl (?_))))))
  show Call d 155 [vr (some 3) 9, vi (I 2 (i + 1))] (I, H) _ _
  refine s_11_blow (by omega) hS hX hT hV (fun J v1 => ?_)
  ·
    show WP (Call d) 299 P X (1650, [some (vr (some 2) 102), some (vr (some 3) 9), some (vr (some 90) 10), some (vr (some 100) 13), some (vi i), x5, x6], [vi (BLO (I 2 (i + 1)))], (J, H), c + 0, s + 0)
    obtain ⟨K0, hK0⟩ : ∃ K0, K0 = J := ⟨_, rfl⟩
    have kf : ∀ a, a < 6 ∨ 90 ≤ a → K0 a = I a := fun a q => by rw [hK0]; exact v1.1 a (by omega)
    suffices q9 : WP (Call d) 299 P X (1650, [some (vr (some 2) 102), some (vr (some 3) 9), some (vr (some 90) 10), some (vr (some 100) 13), some (vi i), x5, x6], [vi (BLO (I 2 (i + 1)))], (K0, H), c + 0, s + 0) by rw [hK0] at q9; exact q9
    have k2 : K0 2 = I 2 := kf 2 (by omega)
    have hMk : K0 91 = μ := (kf 91 (by omega)).trans hM
    have hKk : MS K0 := by unfold MS at *; rw [kf 90 (by omega)]; exact hK
    refine WP.go 6 (Exists.intro (i + 1) (And.intro (wrp_a (by omega) (by omega)) (And.intro (And.intro rfl (And.intro (show 0 ≤ i + 1 from by omega) (show i + 1 < H.2.1 2 from by rw [hl2]; omega))) (?_))))
    show WP (Call d) 299 P X (1656, [some (vr (some 2) 102), some (vr (some 3) 9), some (vr (some 90) 10), some (vr (some 100) 13), some (vi i), x5, x6], [vi (K0 2 (i + 1)), vr (some 90) 10, vi (BLO (I 2 (i + 1)))], (K0, H), c + 0, s + 0)
    rw [k2]
    refine WP.go 1 (And.intro (And.intro (show c + 0 + 0 ≤ 601024 from by omega) (show s + 0 + 0 ≤ 7293034 from by omega)) (And.intro rfl (?_)))
    show Call d 264 [vr (some 90) 10, vi (I 2 (i + 1))] (K0, H) _ _
    refine s_12_blow (by omega) hS hMk hV hKk (fun K r1 r2 => ?_)
    show WP (Call d) 299 P X (1657, [some (vr (some 2) 102), some (vr (some 3) 9), some (vr (some 90) 10), some (vr (some 100) 13), some (vi i), x5, x6], [vi (BLO (I 2 (i + 1))), vi (BLO (I 2 (i + 1)))], (K, H), c + 0 + 0, s + 0 + 0)
    refine WP.go 1 (And.intro (fun _ => ?_) (fun q => absurd (show (BLO (I 2 (i + 1)) : Int) = BLO (I 2 (i + 1)) from rfl) q))
    show WP (Call d) 299 P X (1689, [some (vr (some 2) 102), some (vr (some 3) 9), some (vr (some 90) 10), some (vr (some 100) 13), some (vi i), x5, x6], [], (K, H), c + 0 + 0, s + 0 + 0)
    rw [hK0] at r1
    exact h _ _ _ _ _ _ (hI.u0 v1 r1 (IM_uBlow hV) (by rw [hM]; exact (uBlow_hi hV).1) (by rw [hM]; exact (uBlow_hi hV).2)) ⟨by omega, by omega⟩

set_option maxRecDepth 20000 in
theorem law_27 {d : Nat} {P : Option qV → qH → Prop} {X : Nat → qH → Prop} {I : qI} {H : qS} {f : Int → Int} {L i : Int} {x5 x6 : Option qV} {c s : Nat} (hd : 100 ≤ d) (hI : LI f L i I H) (hi : 0 ≤ i ∧ i + 6 ≤ L ∧ L ≤ 3072) (hc : (c : Int) ≤ 1000 + 100 * i ∧ (s : Int) ≤ 40000 + 2000 * i) (h : ∀ (K : qI) (G : qS) (y5 y6 : Option qV) (c9 s9 : Nat), LI f L (i + 6) K G → (c9 ≤ c + 90 ∧ s9 ≤ s + 9000) → WP (Call d) 299 P X (1689, [some (vr (some 2) 102), some (vr (some 3) 9), some (vr (some 90) 10), some (vr (some 100) 13), some (vi i), y5, y6], [], (K, G), c9, s9)) :
    WP (Call d) 299 P X (1132, [some (vr (some 2) 102), some (vr (some 3) 9), some (vr (some 90) 10), some (vr (some 100) 13), some (vi i), x5, x6], [], (I, H), c, s) := by
  obtain ⟨hS, hX, ⟨hf2, hl2⟩, ⟨hT, hV, hO, hLL⟩, ⟨hC, hC2⟩, hK, hKP, hTP, hFX, h10⟩ := id hI
  have hl100 := hS.l100
  generalize hM : I 91 = μ at *
  refine WP.go 2 (And.intro (And.intro (show c + 0 ≤ 601024 from by omega) (show s + 0 ≤ 7293034 from by omega)) (And.intro rfl (?_)))
  show Call d 143 [vr (some 3) 9] (I, H) _ _
  refine s_11_undo (by omega) hS hT hV ⟨fun v0 => ?_, fun v0 J v1 => ?_⟩
  ·
    show WP (Call d) 299 P X (1134, [some (vr (some 2) 102), some (vr (some 3) 9), some (vr (some 90) 10), some (vr (some 100) 13), some (vi i), x5, x6], [vi (-1)], (I, H), c + 0, s + 0)
    obtain ⟨K0, hK0⟩ : ∃ K0, K0 = I := ⟨_, rfl⟩
    have kf : ∀ a, a < 6 ∨ 90 ≤ a → K0 a = I a := fun a q => by rw [hK0]
    suffices q9 : WP (Call d) 299 P X (1134, [some (vr (some 2) 102), some (vr (some 3) 9), some (vr (some 90) 10), some (vr (some 100) 13), some (vi i), x5, x6], [vi (-1)], (K0, H), c + 0, s + 0) by rw [hK0] at q9; exact q9
    have k2 : K0 2 = I 2 := kf 2 (by omega)
    have hMk : K0 91 = μ := (kf 91 (by omega)).trans hM
    have hKk : MS K0 := by unfold MS at *; rw [kf 90 (by omega)]; exact hK
    refine WP.go 1 (?_)
    show WP (Call d) 299 P X (1135, [some (vr (some 2) 102), some (vr (some 3) 9), some (vr (some 90) 10), some (vr (some 100) 13), some (vi i), x5, x6], [vr (some 90) 10, vi (-1)], (K0, H), c + 0, s + 0)
    refine WP.go 1 (And.intro (And.intro (show c + 0 + 0 ≤ 601024 from by omega) (show s + 0 + 0 ≤ 7293034 from by omega)) (And.intro rfl (?_)))
    show Call d 248 [vr (some 90) 10] (K0, H) _ _
    refine s_12_undo (by omega) hS hMk hV hKk ⟨fun _ K r1 r2 => ?_, fun q => False.elim (by omega)⟩
    show WP (Call d) 299 P X (1136, [some (vr (some 2) 102), some (vr (some 3) 9), some (vr (some 90) 10), some (vr (some 100) 13), some (vi i), x5, x6], [vi (-1), vi (-1)], (K, H), c + 0 + 0, s + 0 + 0)
    refine WP.go 1 (And.intro (fun _ => ?_) (fun q => absurd (show (-1 : Int) = -1 from rfl) q))
    show WP (Call d) 299 P X (1689, [some (vr (some 2) 102), some (vr (some 3) 9), some (vr (some 90) 10), some (vr (some 100) 13), some (vi i), x5, x6], [], (K, H), c + 0 + 0, s + 0 + 0)
    rw [hK0] at r1
    exact h _ _ _ _ _ _ (hI.m (CF.rf I) r1) ⟨by omega, by omega⟩
  ·
    show WP (Call d) 299 P X (1134, [some (vr (some 2) 102), some (vr (some 3) 9), some (vr (some 90) 10), some (vr (some 100) 13), some (vi i), x5, x6], [vi (μ (504 + 2 * μ 8))], (J, H), c + 0, s + 0)
    obtain ⟨K0, hK0⟩ : ∃ K0, K0 = J := ⟨_, rfl⟩
    have kf : ∀ a, a < 6 ∨ 90 ≤ a → K0 a = I a := fun a q => by rw [hK0]; exact v1.1 a (by omega)
    suffices q9 : WP (Call d) 299 P X (1134, [some (vr (some 2) 102), some (vr (some 3) 9), some (vr (some 90) 10), some (vr (some 100) 13), some (vi i), x5, x6], [vi (μ (504 + 2 * μ 8))], (K0, H), c + 0, s + 0) by rw [hK0] at q9; exact q9
    have k2 : K0 2 = I 2 := kf 2 (by omega)
    have hMk : K0 91 = μ := (kf 91 (by omega)).trans hM
    have hKk : MS K0 := by unfold MS at *; rw [kf 90 (by omega)]; exact hK
    refine WP.go 1 (?_)
    show WP (Call d) 299 P X (1135, [some (vr (some 2) 102), some (vr (some 3) 9), some (vr (some 90) 10), some (vr (some 100) 13), some (vi i), x5, x6], [vr (some 90) 10, vi (μ (504 + 2 * μ 8))], (K0, H), c + 0, s + 0)
    refine WP.go 1 (And.intro (And.intro (show c + 0 + 0 ≤ 601024 from by omega) (show s + 0 + 0 ≤ 7293034 from by omega)) (And.intro rfl (?_)))
    show Call d 248 [vr (some 90) 10] (K0, H) _ _
    refine s_12_undo (by omega) hS hMk hV hKk ⟨fun q => False.elim (by omega), fun _ K r1 r2 => ?_⟩
    show WP (Call d) 299 P X (1136, [some (vr (some 2) 102), some (vr (some 3) 9), some (vr (some 90) 10), some (vr (some 100) 13), some (vi i), x5, x6], [vi (μ (504 + 2 * μ 8)), vi (μ (504 + 2 * μ 8))], (K, H), c + 0 + 0, s + 0 + 0)
    refine WP.go 1 (And.intro (fun _ => ?_) (fun q => absurd (show (μ (504 + 2 * μ 8) : Int) = μ (504 + 2 * μ 8) from rfl) q))
    show WP (Call d) 299 P X (1689, [some (vr (some 2) 102), some (vr (some 3) 9), some (vr (some 90) 10), some (vr (some 100) 13), some (vi i), x5, x6], [], (K, H), c + 0 + 0, s + 0 + 0)
    rw [hK0] at r1
    exact h _ _ _ _ _ _ (hI.u0 v1 r1 (IM_uUnd hV v0) (by rw [hM]; exact (uUnd_hi hV v0).1) (by rw [hM]; exact (uUnd_hi hV v0).2)) ⟨by omega, by omega⟩

set_option maxRecDepth 20000 in
theorem law_34 {d : Nat} {P : Option qV → qH → Prop} {X : Nat → qH → Prop} {I : qI} {H : qS} {f : Int → Int} {L i : Int} {x5 x6 : Option qV} {c s : Nat} (hd : 100 ≤ d) (hI : LI f L i I H) (hi : 0 ≤ i ∧ i + 6 ≤ L ∧ L ≤ 3072) (hc : (c : Int) ≤ 1000 + 100 * i ∧ (s : Int) ≤ 40000 + 2000 * i) (h : ∀ (K : qI) (G : qS) (y5 y6 : Option qV) (c9 s9 : Nat), LI f L (i + 6) K G → (c9 ≤ c + 90 ∧ s9 ≤ s + 9000) → WP (Call d) 299 P X (1689, [some (vr (some 2) 102), some (vr (some 3) 9), some (vr (some 90) 10), some (vr (some 100) 13), some (vi i), y5, y6], [], (K, G), c9, s9)) :
    WP (Call d) 299 P X (1476, [some (vr (some 2) 102), some (vr (some 3) 9), some (vr (some 90) 10), some (vr (some 100) 13), some (vi i), x5, x6], [], (I, H), c, s) := by
  obtain ⟨hS, hX, ⟨hf2, hl2⟩, ⟨hT, hV, hO, hLL⟩, ⟨hC, hC2⟩, hK, hKP, hTP, hFX, h10⟩ := id hI
  have hl100 := hS.l100
  generalize hM : I 91 = μ at *
  refine WP.go 2 (And.intro (And.intro (show c + 0 ≤ 601024 from by omega) (show s + 0 ≤ 7293034 from by omega)) (And.intro rfl (?_)))
  show Call d 150 [vr (some 3) 9] (I, H) _ _
  refine s_11_move (by omega) hS hX hT hV ⟨fun v0 => ?_, fun v0 J v1 => ?_⟩
  ·
    show WP (Call d) 299 P X (1478, [some (vr (some 2) 102), some (vr (some 3) 9), some (vr (some 90) 10), some (vr (some 100) 13), some (vi i), x5, x6], [vi (-3)], (I, H), c + 0, s + 0)
    obtain ⟨K0, hK0⟩ : ∃ K0, K0 = I := ⟨_, rfl⟩
    have kf : ∀ a, a < 6 ∨ 90 ≤ a → K0 a = I a := fun a q => by rw [hK0]
    suffices q9 : WP (Call d) 299 P X (1478, [some (vr (some 2) 102), some (vr (some 3) 9), some (vr (some 90) 10), some (vr (some 100) 13), some (vi i), x5, x6], [vi (-3)], (K0, H), c + 0, s + 0) by rw [hK0] at q9; exact q9
    have k2 : K0 2 = I 2 := kf 2 (by omega)
    have hMk : K0 91 = μ := (kf 91 (by omega)).trans hM
    have hKk : MS K0 := by unfold MS at *; rw [kf 90 (by omega)]; exact hK
    refine WP.go 1 (?_)
    show WP (Call d) 299 P X (1479, [some (vr (some 2) 102), some (vr (some 3) 9), some (vr (some 90) 10), some (vr (some 100) 13), some (vi i), x5, x6], [vr (some 90) 10, vi (-3)], (K0, H), c + 0, s + 0)
    refine WP.go 1 (And.intro (And.intro (show c + 0 + 0 ≤ 601024 from by omega) (show s + 0 + 0 ≤ 7293034 from by omega)) (And.intro rfl (?_)))
    show Call d 259 [vr (some 90) 10] (K0, H) _ _
    refine s_12_move (by omega) hS hMk hV hKk ⟨fun _ K r1 r2 => ?_, fun q => False.elim (by omega)⟩
    show WP (Call d) 299 P X (1480, [some (vr (some 2) 102), some (vr (some 3) 9), some (vr (some 90) 10), some (vr (some 100) 13), some (vi i), x5, x6], [vi (-3), vi (-3)], (K, H), c + 0 + 0, s + 0 + 0)
    refine WP.go 1 (And.intro (fun _ => ?_) (fun q => absurd (show (-3 : Int) = -3 from rfl) q))
    show WP (Call d) 299 P X (1689, [some (vr (some 2) 102), some (vr (some 3) 9), some (vr (some 90) 10), some (vr (some 100) 13), some (vi i), x5, x6], [], (K, H), c + 0 + 0, s + 0 + 0)
    rw [hK0] at r1
    exact h _ _ _ _ _ _ (hI.m (CF.rf I) r1) ⟨by omega, by omega⟩
  ·
    show WP (Call d) 299 P X (1478, [some (vr (some 2) 102), some (vr (some 3) 9), some (vr (some 90) 10), some (vr (some 100) 13), some (vi i), x5, x6], [vi (MVC μ)], (J, H), c + 0, s + 0)
    obtain ⟨K0, hK0⟩ : ∃ K0, K0 = J := ⟨_, rfl⟩
    have kf : ∀ a, a < 6 ∨ 90 ≤ a → K0 a = I a := fun a q => by rw [hK0]; exact v1.1 a (by omega)
    suffices q9 : WP (Call d) 299 P X (1478, [some (vr (some 2) 102), some (vr (some 3) 9), some (vr (some 90) 10), some (vr (some 100) 13), some (vi i), x5, x6], [vi (MVC μ)], (K0, H), c + 0, s + 0) by rw [hK0] at q9; exact q9
    have k2 : K0 2 = I 2 := kf 2 (by omega)
    have hMk : K0 91 = μ := (kf 91 (by omega)).trans hM
    have hKk : MS K0 := by unfold MS at *; rw [kf 90 (by omega)]; exact hK
    refine WP.go 1 (?_)
    show WP (Call d) 299 P X (1479, [some (vr (some 2) 102), some (vr (some 3) 9), some (vr (some 90) 10), some (vr (some 100) 13), some (vi i), x5, x6], [vr (some 90) 10, vi (MVC μ)], (K0, H), c + 0, s + 0)
    refine WP.go 1 (And.intro (And.intro (show c + 0 + 0 ≤ 601024 from by omega) (show s + 0 + 0 ≤ 7293034 from by omega)) (And.intro rfl (?_)))
    show Call d 259 [vr (some 90) 10] (K0, H) _ _
    refine s_12_move (by omega) hS hMk hV hKk ⟨fun q => False.elim (by omega), fun _ K r1 r2 => ?_⟩
    show WP (Call d) 299 P X (1480, [some (vr (some 2) 102), some (vr (some 3) 9), some (vr (some 90) 10), some (vr (some 100) 13), some (vi i), x5, x6], [vi (MVC μ), vi (MVC μ)], (K, H), c + 0 + 0, s + 0 + 0)
    refine WP.go 1 (And.intro (fun _ => ?_) (fun q => absurd (show (MVC μ : Int) = MVC μ from rfl) q))
    show WP (Call d) 299 P X (1689, [some (vr (some 2) 102), some (vr (some 3) 9), some (vr (some 90) 10), some (vr (some 100) 13), some (vi i), x5, x6], [], (K, H), c + 0 + 0, s + 0 + 0)
    rw [hK0] at r1
    exact h _ _ _ _ _ _ (hI.u0 v1 r1 (IM_uMov hV v0) (by rw [hM]; exact (uMov_hi hV).1) (by rw [hM]; exact (uMov_hi hV).2)) ⟨by omega, by omega⟩

set_option maxRecDepth 20000 in
theorem law_0 {d : Nat} {P : Option qV → qH → Prop} {X : Nat → qH → Prop} {I : qI} {H : qS} {f : Int → Int} {L i : Int} {x5 x6 : Option qV} {c s : Nat} (hd : 100 ≤ d) (hI : LI f L i I H) (hi : 0 ≤ i ∧ i + 6 ≤ L ∧ L ≤ 3072) (hc : (c : Int) ≤ 1000 + 100 * i ∧ (s : Int) ≤ 40000 + 2000 * i) (h : ∀ (K : qI) (G : qS) (y5 y6 : Option qV) (c9 s9 : Nat), LI f L (i + 6) K G → (c9 ≤ c + 90 ∧ s9 ≤ s + 9000) → WP (Call d) 299 P X (1689, [some (vr (some 2) 102), some (vr (some 3) 9), some (vr (some 90) 10), some (vr (some 100) 13), some (vi i), y5, y6], [], (K, G), c9, s9)) :
    WP (Call d) 299 P X (25, [some (vr (some 2) 102), some (vr (some 3) 9), some (vr (some 90) 10), some (vr (some 100) 13), some (vi i), x5, x6], [], (I, H), c, s) := by
  obtain ⟨hS, hX, ⟨hf2, hl2⟩, ⟨hT, hV, hO, hLL⟩, ⟨hC, hC2⟩, hK, hKP, hTP, hFX, h10⟩ := id hI
  have hl100 := hS.l100
  generalize hM : I 91 = μ at *
  obtain ⟨n, hn⟩ : ∃ n, I 4 1 = n := ⟨_, rfl⟩
  obtain ⟨t1, t2, t3, t4⟩ := hTP
  rw [hn] at t1 t2 t3 t4
  refine WP.go 27 (Exists.intro (i + 1) (And.intro (wrp_a (by omega) (by omega)) (And.intro (And.intro rfl (And.intro (show 0 ≤ i + 1 from by omega) (show i + 1 < H.2.1 2 from by rw [hl2]; omega))) (Exists.intro (i + 2) (And.intro (wrp_a (by omega) (by omega)) (And.intro (And.intro rfl (And.intro (show 0 ≤ i + 2 from by omega) (show i + 2 < H.2.1 2 from by rw [hl2]; omega))) (Exists.intro (i + 3) (And.intro (wrp_a (by omega) (by omega)) (And.intro (And.intro rfl (And.intro (show 0 ≤ i + 3 from by omega) (show i + 3 < H.2.1 2 from by rw [hl2]; omega))) (Exists.intro (i + 4) (And.intro (wrp_a (by omega) (by omega)) (And.intro (And.intro rfl (And.intro (show 0 ≤ i + 4 from by omega) (show i + 4 < H.2.1 2 from by rw [hl2]; omega))) (Exists.intro (i + 5) (And.intro (wrp_a (by omega) (by omega)) (And.intro (And.intro rfl (And.intro (show 0 ≤ i + 5 from by omega) (show i + 5 < H.2.1 2 from by rw [hl2]; omega))) (And.intro (And.intro (show c + 0 ≤ 601024 from by omega) (show s + 0 ≤ 7293034 from by omega)) (And.intro rfl (?_))))))))))))))))))
  show Call d 116 [vr (some 3) 9, vi (I 2 (i + 1)), vi (I 2 (i + 2)), vi (I 2 (i + 3)), vi (I 2 (i + 4)), vi (I 2 (i + 5))] (I, H) _ _
  refine s_11_feed (by omega) hS hn t2 ⟨fun v0 => ?_, fun v0 J v1 v2 v3 => ?_⟩
  ·
    show WP (Call d) 299 P X (52, [some (vr (some 2) 102), some (vr (some 3) 9), some (vr (some 90) 10), some (vr (some 100) 13), some (vi i), x5, x6], [vi (-1)], (I, H), c + 0, s + 0)
    obtain ⟨K0, hK0⟩ : ∃ K0, K0 = I := ⟨_, rfl⟩
    have kf : ∀ a, a < 6 ∨ 90 ≤ a → K0 a = I a := fun a q => by rw [hK0]
    suffices q9 : WP (Call d) 299 P X (52, [some (vr (some 2) 102), some (vr (some 3) 9), some (vr (some 90) 10), some (vr (some 100) 13), some (vi i), x5, x6], [vi (-1)], (K0, H), c + 0, s + 0) by rw [hK0] at q9; exact q9
    have k2 : K0 2 = I 2 := kf 2 (by omega)
    have k6 : K0 90 6 = n := by rw [kf 90 (by omega)]; exact t1
    have hMk : K0 91 = μ := (kf 91 (by omega)).trans hM
    have hKk : MS K0 := by unfold MS at *; rw [kf 90 (by omega)]; exact hK
    refine WP.go 26 (Exists.intro (i + 1) (And.intro (wrp_a (by omega) (by omega)) (And.intro (And.intro rfl (And.intro (show 0 ≤ i + 1 from by omega) (show i + 1 < H.2.1 2 from by rw [hl2]; omega))) (Exists.intro (i + 2) (And.intro (wrp_a (by omega) (by omega)) (And.intro (And.intro rfl (And.intro (show 0 ≤ i + 2 from by omega) (show i + 2 < H.2.1 2 from by rw [hl2]; omega))) (Exists.intro (i + 3) (And.intro (wrp_a (by omega) (by omega)) (And.intro (And.intro rfl (And.intro (show 0 ≤ i + 3 from by omega) (show i + 3 < H.2.1 2 from by rw [hl2]; omega))) (Exists.intro (i + 4) (And.intro (wrp_a (by omega) (by omega)) (And.intro (And.intro rfl (And.intro (show 0 ≤ i + 4 from by omega) (show i + 4 < H.2.1 2 from by rw [hl2]; omega))) (Exists.intro (i + 5) (And.intro (wrp_a (by omega) (by omega)) (And.intro (And.intro rfl (And.intro (show 0 ≤ i + 5 from by omega) (show i + 5 < H.2.1 2 from by rw [hl2]; omega))) (?_))))))))))))))))
    show WP (Call d) 299 P X (78, [some (vr (some 2) 102), some (vr (some 3) 9), some (vr (some 90) 10), some (vr (some 100) 13), some (vi i), x5, x6], [vi (K0 2 (i + 5)), vi (K0 2 (i + 4)), vi (K0 2 (i + 3)), vi (K0 2 (i + 2)), vi (K0 2 (i + 1)), vr (some 90) 10, vi (-1)], (K0, H), c + 0, s + 0)
    rw [k2]
    refine WP.go 1 (And.intro (And.intro (show c + 0 + 0 ≤ 601024 from by omega) (show s + 0 + 0 ≤ 7293034 from by omega)) (And.intro rfl (?_)))
    show Call d 186 [vr (some 90) 10, vi (I 2 (i + 1)), vi (I 2 (i + 2)), vi (I 2 (i + 3)), vi (I 2 (i + 4)), vi (I 2 (i + 5))] (K0, H) _ _
    refine s_12_feed (by omega) hS hKk k6 t2 ⟨fun _ K r1 => ?_, fun q => False.elim (by omega)⟩
    show WP (Call d) 299 P X (79, [some (vr (some 2) 102), some (vr (some 3) 9), some (vr (some 90) 10), some (vr (some 100) 13), some (vi i), x5, x6], [vi (-1), vi (-1)], (K, H), c + 0 + 0, s + 0 + 0)
    refine WP.go 1 (And.intro (fun _ => ?_) (fun q => absurd (show (-1 : Int) = -1 from rfl) q))
    show WP (Call d) 299 P X (1689, [some (vr (some 2) 102), some (vr (some 3) 9), some (vr (some 90) 10), some (vr (some 100) 13), some (vi i), x5, x6], [], (K, H), c + 0 + 0, s + 0 + 0)
    rw [hK0] at r1
    exact h _ _ _ _ _ _ (hI.m (CF.rf I) r1) ⟨by omega, by omega⟩
  ·
    show WP (Call d) 299 P X (52, [some (vr (some 2) 102), some (vr (some 3) 9), some (vr (some 90) 10), some (vr (some 100) 13), some (vi i), x5, x6], [vi (n + 20)], (J, H), c + 0, s + 0)
    obtain ⟨K0, hK0⟩ : ∃ K0, K0 = J := ⟨_, rfl⟩
    have kf : ∀ a, a < 4 ∨ 90 ≤ a → K0 a = I a := fun a q => by rw [hK0]; exact v3 a (by omega) (by omega)
    suffices q9 : WP (Call d) 299 P X (52, [some (vr (some 2) 102), some (vr (some 3) 9), some (vr (some 90) 10), some (vr (some 100) 13), some (vi i), x5, x6], [vi (n + 20)], (K0, H), c + 0, s + 0) by rw [hK0] at q9; exact q9
    have k2 : K0 2 = I 2 := kf 2 (by omega)
    have k6 : K0 90 6 = n := by rw [kf 90 (by omega)]; exact t1
    have hMk : K0 91 = μ := (kf 91 (by omega)).trans hM
    have hKk : MS K0 := by unfold MS at *; rw [kf 90 (by omega)]; exact hK
    refine WP.go 26 (Exists.intro (i + 1) (And.intro (wrp_a (by omega) (by omega)) (And.intro (And.intro rfl (And.intro (show 0 ≤ i + 1 from by omega) (show i + 1 < H.2.1 2 from by rw [hl2]; omega))) (Exists.intro (i + 2) (And.intro (wrp_a (by omega) (by omega)) (And.intro (And.intro rfl (And.intro (show 0 ≤ i + 2 from by omega) (show i + 2 < H.2.1 2 from by rw [hl2]; omega))) (Exists.intro (i + 3) (And.intro (wrp_a (by omega) (by omega)) (And.intro (And.intro rfl (And.intro (show 0 ≤ i + 3 from by omega) (show i + 3 < H.2.1 2 from by rw [hl2]; omega))) (Exists.intro (i + 4) (And.intro (wrp_a (by omega) (by omega)) (And.intro (And.intro rfl (And.intro (show 0 ≤ i + 4 from by omega) (show i + 4 < H.2.1 2 from by rw [hl2]; omega))) (Exists.intro (i + 5) (And.intro (wrp_a (by omega) (by omega)) (And.intro (And.intro rfl (And.intro (show 0 ≤ i + 5 from by omega) (show i + 5 < H.2.1 2 from by rw [hl2]; omega))) (?_))))))))))))))))
    show WP (Call d) 299 P X (78, [some (vr (some 2) 102), some (vr (some 3) 9), some (vr (some 90) 10), some (vr (some 100) 13), some (vi i), x5, x6], [vi (K0 2 (i + 5)), vi (K0 2 (i + 4)), vi (K0 2 (i + 3)), vi (K0 2 (i + 2)), vi (K0 2 (i + 1)), vr (some 90) 10, vi (n + 20)], (K0, H), c + 0, s + 0)
    rw [k2]
    refine WP.go 1 (And.intro (And.intro (show c + 0 + 0 ≤ 601024 from by omega) (show s + 0 + 0 ≤ 7293034 from by omega)) (And.intro rfl (?_)))
    show Call d 186 [vr (some 90) 10, vi (I 2 (i + 1)), vi (I 2 (i + 2)), vi (I 2 (i + 3)), vi (I 2 (i + 4)), vi (I 2 (i + 5))] (K0, H) _ _
    refine s_12_feed (by omega) hS hKk k6 t2 ⟨fun q => False.elim (by omega), fun _ K r1 r2 r3 => ?_⟩
    show WP (Call d) 299 P X (79, [some (vr (some 2) 102), some (vr (some 3) 9), some (vr (some 90) 10), some (vr (some 100) 13), some (vi i), x5, x6], [vi (n + 20), vi (n + 20)], (K, H), c + 0 + 0, s + 0 + 0)
    refine WP.go 1 (And.intro (fun _ => ?_) (fun q => absurd (show (n + 20 : Int) = n + 20 from rfl) q))
    show WP (Call d) 299 P X (1689, [some (vr (some 2) 102), some (vr (some 3) 9), some (vr (some 90) 10), some (vr (some 100) 13), some (vi i), x5, x6], [], (K, H), c + 0 + 0, s + 0 + 0)
    rw [hK0] at r1 r3
    exact h _ _ _ _ _ _ (hI.f1 hn v1 v2 v3 v0 r1 r2 r3) ⟨by omega, by omega⟩

set_option maxRecDepth 20000 in
theorem law_1 {d : Nat} {P : Option qV → qH → Prop} {X : Nat → qH → Prop} {I : qI} {H : qS} {f : Int → Int} {L i : Int} {x5 x6 : Option qV} {c s : Nat} (hd : 100 ≤ d) (hI : LI f L i I H) (hi : 0 ≤ i ∧ i + 6 ≤ L ∧ L ≤ 3072) (hc : (c : Int) ≤ 1000 + 100 * i ∧ (s : Int) ≤ 40000 + 2000 * i) (h : ∀ (K : qI) (G : qS) (y5 y6 : Option qV) (c9 s9 : Nat), LI f L (i + 6) K G → (c9 ≤ c + 90 ∧ s9 ≤ s + 9000) → WP (Call d) 299 P X (1689, [some (vr (some 2) 102), some (vr (some 3) 9), some (vr (some 90) 10), some (vr (some 100) 13), some (vi i), y5, y6], [], (K, G), c9, s9)) :
    WP (Call d) 299 P X (82, [some (vr (some 2) 102), some (vr (some 3) 9), some (vr (some 90) 10), some (vr (some 100) 13), some (vi i), x5, x6], [], (I, H), c, s) := by
  obtain ⟨hS, hX, ⟨hf2, hl2⟩, ⟨hT, hV, hO, hLL⟩, ⟨hC, hC2⟩, hK, hKP, hTP, hFX, h10⟩ := id hI
  have hl100 := hS.l100
  generalize hM : I 91 = μ at *
  obtain ⟨n, hn⟩ : ∃ n, I 4 1 = n := ⟨_, rfl⟩
  obtain ⟨t1, t2, t3, t4⟩ := hTP
  rw [hn] at t1 t2 t3 t4
  refine WP.go 7 (Exists.intro (i + 1) (And.intro (wrp_a (by omega) (by omega)) (And.intro (And.intro rfl (And.intro (show 0 ≤ i + 1 from by omega) (show i + 1 < H.2.1 2 from by rw [hl2]; omega))) (And.intro (And.intro (show c + 0 ≤ 601024 from by omega) (show s + 0 ≤ 7293034 from by omega)) (And.intro rfl (?_))))))
  show Call d 117 [vr (some 3) 9, vi (I 2 (i + 1))] (I, H) _ _
  refine s_11_end (by omega) hS hn ⟨fun v0 J v1 v2 => ?_, fun v0 => ?_⟩
  ·
    show WP (Call d) 299 P X (89, [some (vr (some 2) 102), some (vr (some 3) 9), some (vr (some 90) 10), some (vr (some 100) 13), some (vi i), x5, x6], [vi (1)], (J, H), c + 0, s + 0)
    obtain ⟨K0, hK0⟩ : ∃ K0, K0 = J := ⟨_, rfl⟩
    have kf : ∀ a, a < 4 ∨ 90 ≤ a → K0 a = I a := fun a q => by rw [hK0]; exact v2 a (by omega)
    suffices q9 : WP (Call d) 299 P X (89, [some (vr (some 2) 102), some (vr (some 3) 9), some (vr (some 90) 10), some (vr (some 100) 13), some (vi i), x5, x6], [vi (1)], (K0, H), c + 0, s + 0) by rw [hK0] at q9; exact q9
    have k2 : K0 2 = I 2 := kf 2 (by omega)
    have k6 : K0 90 6 = n := by rw [kf 90 (by omega)]; exact t1
    have hMk : K0 91 = μ := (kf 91 (by omega)).trans hM
    have hKk : MS K0 := by unfold MS at *; rw [kf 90 (by omega)]; exact hK
    refine WP.go 6 (Exists.intro (i + 1) (And.intro (wrp_a (by omega) (by omega)) (And.intro (And.intro rfl (And.intro (show 0 ≤ i + 1 from by omega) (show i + 1 < H.2.1 2 from by rw [hl2]; omega))) (?_))))
    show WP (Call d) 299 P X (95, [some (vr (some 2) 102), some (vr (some 3) 9), some (vr (some 90) 10), some (vr (some 100) 13), some (vi i), x5, x6], [vi (K0 2 (i + 1)), vr (some 90) 10, vi (1)], (K0, H), c + 0, s + 0)
    rw [k2]
    refine WP.go 1 (And.intro (And.intro (show c + 0 + 0 ≤ 601024 from by omega) (show s + 0 + 0 ≤ 7293034 from by omega)) (And.intro rfl (?_)))
    show Call d 187 [vr (some 90) 10, vi (I 2 (i + 1))] (K0, H) _ _
    refine s_12_end (by omega) hS k6 ⟨fun _ K r1 r2 => ?_, fun q => absurd v0 q⟩
    show WP (Call d) 299 P X (96, [some (vr (some 2) 102), some (vr (some 3) 9), some (vr (some 90) 10), some (vr (some 100) 13), some (vi i), x5, x6], [vi (1), vi (1)], (K, H), c + 0 + 0, s + 0 + 0)
    refine WP.go 1 (And.intro (fun _ => ?_) (fun q => absurd (show (1 : Int) = 1 from rfl) q))
    show WP (Call d) 299 P X (1689, [some (vr (some 2) 102), some (vr (some 3) 9), some (vr (some 90) 10), some (vr (some 100) 13), some (vi i), x5, x6], [], (K, H), c + 0 + 0, s + 0 + 0)
    rw [hK0] at r1 r2
    exact h _ _ _ _ _ _ (hI.e1 (by rw [hn]; exact v0) v1 v2 r1 r2) ⟨by omega, by omega⟩
  ·
    show WP (Call d) 299 P X (89, [some (vr (some 2) 102), some (vr (some 3) 9), some (vr (some 90) 10), some (vr (some 100) 13), some (vi i), x5, x6], [vi (0)], (I, H), c + 0, s + 0)
    obtain ⟨K0, hK0⟩ : ∃ K0, K0 = I := ⟨_, rfl⟩
    have kf : ∀ a, a < 6 ∨ 90 ≤ a → K0 a = I a := fun a q => by rw [hK0]
    suffices q9 : WP (Call d) 299 P X (89, [some (vr (some 2) 102), some (vr (some 3) 9), some (vr (some 90) 10), some (vr (some 100) 13), some (vi i), x5, x6], [vi (0)], (K0, H), c + 0, s + 0) by rw [hK0] at q9; exact q9
    have k2 : K0 2 = I 2 := kf 2 (by omega)
    have k6 : K0 90 6 = n := by rw [kf 90 (by omega)]; exact t1
    have hMk : K0 91 = μ := (kf 91 (by omega)).trans hM
    have hKk : MS K0 := by unfold MS at *; rw [kf 90 (by omega)]; exact hK
    refine WP.go 6 (Exists.intro (i + 1) (And.intro (wrp_a (by omega) (by omega)) (And.intro (And.intro rfl (And.intro (show 0 ≤ i + 1 from by omega) (show i + 1 < H.2.1 2 from by rw [hl2]; omega))) (?_))))
    show WP (Call d) 299 P X (95, [some (vr (some 2) 102), some (vr (some 3) 9), some (vr (some 90) 10), some (vr (some 100) 13), some (vi i), x5, x6], [vi (K0 2 (i + 1)), vr (some 90) 10, vi (0)], (K0, H), c + 0, s + 0)
    rw [k2]
    refine WP.go 1 (And.intro (And.intro (show c + 0 + 0 ≤ 601024 from by omega) (show s + 0 + 0 ≤ 7293034 from by omega)) (And.intro rfl (?_)))
    show Call d 187 [vr (some 90) 10, vi (I 2 (i + 1))] (K0, H) _ _
    refine s_12_end (by omega) hS k6 ⟨fun q => absurd q v0, fun _ K r1 r2 => ?_⟩
    show WP (Call d) 299 P X (96, [some (vr (some 2) 102), some (vr (some 3) 9), some (vr (some 90) 10), some (vr (some 100) 13), some (vi i), x5, x6], [vi (0), vi (0)], (K, H), c + 0 + 0, s + 0 + 0)
    refine WP.go 1 (And.intro (fun _ => ?_) (fun q => absurd (show (0 : Int) = 0 from rfl) q))
    show WP (Call d) 299 P X (1689, [some (vr (some 2) 102), some (vr (some 3) 9), some (vr (some 90) 10), some (vr (some 100) 13), some (vi i), x5, x6], [], (K, H), c + 0 + 0, s + 0 + 0)
    rw [hK0] at r1 r2
    exact h _ _ _ _ _ _ (hI.m (CF.rf I) (MF.z hK r1 r2)) ⟨by omega, by omega⟩

