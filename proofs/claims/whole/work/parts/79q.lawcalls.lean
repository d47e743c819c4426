set_option maxRecDepth 20000 in
theorem law_13 {d : Nat} {P : Option qV → qH → Prop} {X : Nat → qH → Prop} {I : qI} {H : qS} {f : Int → Int} {L i : Int} {x5 x6 : Option qV} {c s : Nat} (hd : 100 ≤ d) (hI : LI f L i I H) (hi : 0 ≤ i ∧ i + 6 ≤ L ∧ L ≤ 3072) (hc : (c : Int) ≤ 1000 + 100 * i ∧ (s : Int) ≤ 40000 + 2000 * i) (h : ∀ (K : qI) (G : qS) (y5 y6 : Option qV) (c9 s9 : Nat), LI f L (i + 6) K G → (c9 ≤ c + 90 ∧ s9 ≤ s + 9000) → WP (Call d) 299 P X (1689, [some (vr (some 2) 102), some (vr (some 3) 9), some (vr (some 90) 10), some (vr (some 100) 13), some (vi i), y5, y6], [], (K, G), c9, s9)) :
    WP (Call d) 299 P X (491, [some (vr (some 2) 102), some (vr (some 3) 9), some (vr (some 90) 10), some (vr (some 100) 13), some (vi i), x5, x6], [], (I, H), c, s) := by
  obtain ⟨hS, hX, ⟨hf2, hl2⟩, ⟨hT, hV, hO, hLL⟩, ⟨hC, hC2⟩, hK, hKP, hTP, hFX, h10⟩ := id hI
  have hl100 := hS.l100
  generalize hM : I 91 = μ at *
  refine WP.go 18 (Exists.intro (i + 1) (And.intro (wrp_a (by omega) (by omega)) (And.intro (And.intro rfl (And.intro (show 0 ≤ i + 1 from by omega) (show i + 1 < H.2.1 2 from by rw [hl2]; omega))) (Exists.intro (i + 2) (And.intro (wrp_a (by omega) (by omega)) (And.intro (And.intro rfl (And.intro (show 0 ≤ i + 2 from by omega) (show i + 2 < H.2.1 2 from by rw [hl2]; omega))) (Exists.intro (i + 3) (And.intro (wrp_a (by omega) (by omega)) (And.intro (And.intro rfl (And.intro (show 0 ≤ i + 3 from by omega) (show i + 3 < H.2.1 2 from by rw [hl2]; omega))) (And.intro (And.intro (show c + 3 ≤ 601024 from by omega) (show s + 18 ≤ 7293034 from by omega)) (And.intro rfl (?_))))))))))))
  show Call d 277 [vr (some 3) 9, vi (I 2 (i + 1)), vi (I 2 (i + 2)), vi (I 2 (i + 3)), vr (some 100) 13] (I, H) _ _
  refine hl_rent (cs := LCo μ) (by omega) hS hX hT hV hLL (fun v1 J v2 => ?_) (fun v1 => ?_)
  ·
    show WP (Call d) 299 P X (509, [some (vr (some 2) 102), some (vr (some 3) 9), some (vr (some 90) 10), some (vr (some 100) 13), some (vi i), x5, x6], [vi 0], (upI J 100 0 (RNT μ ((I 2 (i + 2))) ((I 2 (i + 3))) (LCo μ ((I 2 (i + 1))))), H), c + 3, s + 18)
    obtain ⟨K0, hK0⟩ : ∃ K0, K0 = upI J 100 0 (RNT μ ((I 2 (i + 2))) ((I 2 (i + 3))) (LCo μ ((I 2 (i + 1))))) := ⟨_, rfl⟩
    rw [← hK0]
    have ke : ∀ a, a ≠ 100 → K0 a = J a := fun a q => by rw [hK0]; exact upI_cell q
    have k1 : K0 100 0 = RNT μ ((I 2 (i + 2))) ((I 2 (i + 3))) (LCo μ ((I 2 (i + 1)))) := by rw [hK0]; exact upI_same _ _ _ _
    have kf : ∀ a, a < 6 ∨ (90 ≤ a ∧ a ≠ 100) → K0 a = I a := fun a q => (ke a (by omega)).trans (v2 a (by omega))
    have k2 : K0 2 = I 2 := kf 2 (by omega)
    have hMk : K0 91 = μ := (kf 91 (by omega)).trans hM
    have hKk : MS K0 := by unfold MS at *; rw [kf 90 (by omega)]; exact hK
    refine WP.go 1 ?_
    show WP (Call d) 299 P X (510, [some (vr (some 2) 102), some (vr (some 3) 9), some (vr (some 90) 10), some (vr (some 100) 13), some (vi i), some (vi 0), x6], [], (K0, H), c + 3, s + 18)
    refine WP.go 16 (Exists.intro (i + 1) (And.intro (wrp_a (by omega) (by omega)) (And.intro (And.intro rfl (And.intro (show 0 ≤ i + 1 from by omega) (show i + 1 < H.2.1 2 from by rw [hl2]; omega))) (Exists.intro (i + 2) (And.intro (wrp_a (by omega) (by omega)) (And.intro (And.intro rfl (And.intro (show 0 ≤ i + 2 from by omega) (show i + 2 < H.2.1 2 from by rw [hl2]; omega))) (Exists.intro (i + 3) (And.intro (wrp_a (by omega) (by omega)) (And.intro (And.intro rfl (And.intro (show 0 ≤ i + 3 from by omega) (show i + 3 < H.2.1 2 from by rw [hl2]; omega))) (?_))))))))))
    show WP (Call d) 299 P X (526, [some (vr (some 2) 102), some (vr (some 3) 9), some (vr (some 90) 10), some (vr (some 100) 13), some (vi i), some (vi 0), x6], [vi (K0 2 (i + 3)), vi (K0 2 (i + 2)), vi (K0 2 (i + 1)), vr (some 90) 10], (K0, H), c + 3, s + 18)
    rw [k2]
    refine WP.go 1 (And.intro (And.intro (show c + 3 + 0 ≤ 601024 from by omega) (show s + 18 + 0 ≤ 7293034 from by omega)) (And.intro rfl (?_)))
    show Call d 230 [vr (some 90) 10, vi (I 2 (i + 1)), vi (I 2 (i + 2)), vi (I 2 (i + 3))] (K0, H) _ _
    refine s_12_rent (by omega) hS hMk hV hKk hO (fun q => False.elim (by omega)) (fun r0 K r2 r3 => ?_)
    show WP (Call d) 299 P X (527, [some (vr (some 2) 102), some (vr (some 3) 9), some (vr (some 90) 10), some (vr (some 100) 13), some (vi i), some (vi 0), x6], [vi (RNT μ ((I 2 (i + 2))) ((I 2 (i + 3))) (LCo μ ((I 2 (i + 1)))))], (K, H), c + 3 + 0, s + 18 + 0)
    have kk : K 100 = K0 100 := r2.1 100 (by omega)
    have k100 : K 100 0 = RNT μ ((I 2 (i + 2))) ((I 2 (i + 3))) (LCo μ ((I 2 (i + 1)))) := by rw [kk, k1]
    rw [hK0] at r2
    refine WP.go 3 (And.intro (And.intro (show c + 3 + 0 + 0 ≤ 601024 from by omega) (show s + 18 + 0 + 0 ≤ 7293034 from by omega)) (And.intro rfl ?_))
    show Call d 176 [vr (some 90) 10] (K, H) _ _
    refine s_12_thrown (by omega) hS ?_
    show WP (Call d) 299 P X (530, [some (vr (some 2) 102), some (vr (some 3) 9), some (vr (some 90) 10), some (vr (some 100) 13), some (vi i), some (vi 0), some (vi (RNT μ ((I 2 (i + 2))) ((I 2 (i + 3))) (LCo μ ((I 2 (i + 1))))))], [vi (K 90 0)], (K, H), c + 3 + 0 + 0, s + 18 + 0 + 0)
    refine WP.go 2 (And.intro (fun _ => ?_) (fun q => absurd r3 q))
    refine WP.go 2 (And.intro (fun q => absurd rfl q) (fun _ => ?_))
    refine WP.go 7 (And.intro (And.intro rfl (And.intro (by decide) (show (0 : Int) < H.2.1 100 from by rw [hl100]; decide))) (And.intro (fun _ => ?_) (fun q => absurd (zcmp_e k100) q)))
    refine WP.go 1 ?_
    show WP (Call d) 299 P X (1689, [some (vr (some 2) 102), some (vr (some 3) 9), some (vr (some 90) 10), some (vr (some 100) 13), some (vi i), some (vi 0), some (vi (RNT μ ((I 2 (i + 2))) ((I 2 (i + 3))) (LCo μ ((I 2 (i + 1))))))], [], (K, H), c + 3 + 0 + 0, s + 18 + 0 + 0)
    exact h _ _ _ _ _ _ (hI.r hi.1 v2 r2) ⟨by omega, by omega⟩
  ·
    show WP (Call d) 299 P X (509, [some (vr (some 2) 102), some (vr (some 3) 9), some (vr (some 90) 10), some (vr (some 100) 13), some (vi i), x5, x6], [vi 1], (I, H), c + 3, s + 18)
    obtain ⟨K0, hK0⟩ : ∃ K0, K0 = I := ⟨_, rfl⟩
    rw [← hK0]
    have kf : ∀ a, a < 6 ∨ (90 ≤ a ∧ a ≠ 100) → K0 a = I a := fun a q => by rw [hK0]
    have k2 : K0 2 = I 2 := kf 2 (by omega)
    have hMk : K0 91 = μ := (kf 91 (by omega)).trans hM
    have hKk : MS K0 := by unfold MS at *; rw [kf 90 (by omega)]; exact hK
    refine WP.go 1 ?_
    show WP (Call d) 299 P X (510, [some (vr (some 2) 102), some (vr (some 3) 9), some (vr (some 90) 10), some (vr (some 100) 13), some (vi i), some (vi 1), x6], [], (K0, H), c + 3, s + 18)
    refine WP.go 16 (Exists.intro (i + 1) (And.intro (wrp_a (by omega) (by omega)) (And.intro (And.intro rfl (And.intro (show 0 ≤ i + 1 from by omega) (show i + 1 < H.2.1 2 from by rw [hl2]; omega))) (Exists.intro (i + 2) (And.intro (wrp_a (by omega) (by omega)) (And.intro (And.intro rfl (And.intro (show 0 ≤ i + 2 from by omega) (show i + 2 < H.2.1 2 from by rw [hl2]; omega))) (Exists.intro (i + 3) (And.intro (wrp_a (by omega) (by omega)) (And.intro (And.intro rfl (And.intro (show 0 ≤ i + 3 from by omega) (show i + 3 < H.2.1 2 from by rw [hl2]; omega))) (?_))))))))))
    show WP (Call d) 299 P X (526, [some (vr (some 2) 102), some (vr (some 3) 9), some (vr (some 90) 10), some (vr (some 100) 13), some (vi i), some (vi 1), x6], [vi (K0 2 (i + 3)), vi (K0 2 (i + 2)), vi (K0 2 (i + 1)), vr (some 90) 10], (K0, H), c + 3, s + 18)
    rw [k2]
    refine WP.go 1 (And.intro (And.intro (show c + 3 + 0 ≤ 601024 from by omega) (show s + 18 + 0 ≤ 7293034 from by omega)) (And.intro rfl (?_)))
    show Call d 230 [vr (some 90) 10, vi (I 2 (i + 1)), vi (I 2 (i + 2)), vi (I 2 (i + 3))] (K0, H) _ _
    refine s_12_rent (by omega) hS hMk hV hKk hO (fun r0 K v r3 r4 r5 => ?_) (fun q => False.elim (by omega))
    show WP (Call d) 299 P X (527, [some (vr (some 2) 102), some (vr (some 3) 9), some (vr (some 90) 10), some (vr (some 100) 13), some (vi i), some (vi 1), x6], [vi (v)], (K, H), c + 3 + 0, s + 18 + 0)
    rw [hK0] at r4
    refine WP.go 3 (And.intro (And.intro (show c + 3 + 0 + 0 ≤ 601024 from by omega) (show s + 18 + 0 + 0 ≤ 7293034 from by omega)) (And.intro rfl ?_))
    show Call d 176 [vr (some 90) 10] (K, H) _ _
    refine s_12_thrown (by omega) hS ?_
    show WP (Call d) 299 P X (530, [some (vr (some 2) 102), some (vr (some 3) 9), some (vr (some 90) 10), some (vr (some 100) 13), some (vi i), some (vi 1), some (vi (v))], [vi (K 90 0)], (K, H), c + 3 + 0 + 0, s + 18 + 0 + 0)
    refine WP.go 2 (And.intro (fun _ => ?_) (fun q => absurd r5 q))
    refine WP.go 2 (And.intro (fun _ => ?_) (fun q => absurd q (by decide)))
    refine WP.go 1 ?_
    show WP (Call d) 299 P X (1689, [some (vr (some 2) 102), some (vr (some 3) 9), some (vr (some 90) 10), some (vr (some 100) 13), some (vi i), some (vi 1), some (vi (v))], [], (K, H), c + 3 + 0 + 0, s + 18 + 0 + 0)
    exact h _ _ _ _ _ _ (hI.m (CF.rf I) r4) ⟨by omega, by omega⟩

set_option maxRecDepth 20000 in
theorem law_15 {d : Nat} {P : Option qV → qH → Prop} {X : Nat → qH → Prop} {I : qI} {H : qS} {f : Int → Int} {L i : Int} {x5 x6 : Option qV} {c s : Nat} (hd : 100 ≤ d) (hI : LI f L i I H) (hi : 0 ≤ i ∧ i + 6 ≤ L ∧ L ≤ 3072) (hc : (c : Int) ≤ 1000 + 100 * i ∧ (s : Int) ≤ 40000 + 2000 * i) (h : ∀ (K : qI) (G : qS) (y5 y6 : Option qV) (c9 s9 : Nat), LI f L (i + 6) K G → (c9 ≤ c + 90 ∧ s9 ≤ s + 9000) → WP (Call d) 299 P X (1689, [some (vr (some 2) 102), some (vr (some 3) 9), some (vr (some 90) 10), some (vr (some 100) 13), some (vi i), y5, y6], [], (K, G), c9, s9)) :
    WP (Call d) 299 P X (611, [some (vr (some 2) 102), some (vr (some 3) 9), some (vr (some 90) 10), some (vr (some 100) 13), some (vi i), x5, x6], [], (I, H), c, s) := by
  obtain ⟨hS, hX, ⟨hf2, hl2⟩, ⟨hT, hV, hO, hLL⟩, ⟨hC, hC2⟩, hK, hKP, hTP, hFX, h10⟩ := id hI
  have hl100 := hS.l100
  generalize hM : I 91 = μ at *
  refine WP.go 8 (Exists.intro (i + 1) (And.intro (wrp_a (by omega) (by omega)) (And.intro (And.intro rfl (And.intro (show 0 ≤ i + 1 from by omega) (show i + 1 < H.2.1 2 from by rw [hl2]; omega))) (And.intro (And.intro (show c + 1 ≤ 601024 from by omega) (show s + 6 ≤ 7293034 from by omega)) (And.intro rfl (?_))))))
  show Call d 279 [vr (some 3) 9, vi (I 2 (i + 1)), vr (some 100) 13] (I, H) _ _
  refine hl_due (cs := LCo μ) (by omega) hS hX hT hV hLL (fun v1 J v2 => ?_) (fun v1 => ?_)
  ·
    show WP (Call d) 299 P X (619, [some (vr (some 2) 102), some (vr (some 3) 9), some (vr (some 90) 10), some (vr (some 100) 13), some (vi i), x5, x6], [vi 0], (upI J 100 0 (wI (fun y => RNT μ (μ (331 + 4 * ((I 2 (i + 1))))) y (LCo μ (μ (330 + 4 * ((I 2 (i + 1))))))) (μ (332 + 4 * ((I 2 (i + 1))))) (μ (333 + 4 * ((I 2 (i + 1)))) + 1)), H), c + 1, s + 6)
    obtain ⟨K0, hK0⟩ : ∃ K0, K0 = upI J 100 0 (wI (fun y => RNT μ (μ (331 + 4 * ((I 2 (i + 1))))) y (LCo μ (μ (330 + 4 * ((I 2 (i + 1))))))) (μ (332 + 4 * ((I 2 (i + 1))))) (μ (333 + 4 * ((I 2 (i + 1)))) + 1)) := ⟨_, rfl⟩
    rw [← hK0]
    have ke : ∀ a, a ≠ 100 → K0 a = J a := fun a q => by rw [hK0]; exact upI_cell q
    have k1 : K0 100 0 = wI (fun y => RNT μ (μ (331 + 4 * ((I 2 (i + 1))))) y (LCo μ (μ (330 + 4 * ((I 2 (i + 1))))))) (μ (332 + 4 * ((I 2 (i + 1))))) (μ (333 + 4 * ((I 2 (i + 1)))) + 1) := by rw [hK0]; exact upI_same _ _ _ _
    have kf : ∀ a, a < 6 ∨ (90 ≤ a ∧ a ≠ 100) → K0 a = I a := fun a q => (ke a (by omega)).trans (v2 a (by omega))
    have k2 : K0 2 = I 2 := kf 2 (by omega)
    have hMk : K0 91 = μ := (kf 91 (by omega)).trans hM
    have hKk : MS K0 := by unfold MS at *; rw [kf 90 (by omega)]; exact hK
    refine WP.go 1 ?_
    show WP (Call d) 299 P X (620, [some (vr (some 2) 102), some (vr (some 3) 9), some (vr (some 90) 10), some (vr (some 100) 13), some (vi i), some (vi 0), x6], [], (K0, H), c + 1, s + 6)
    refine WP.go 6 (Exists.intro (i + 1) (And.intro (wrp_a (by omega) (by omega)) (And.intro (And.intro rfl (And.intro (show 0 ≤ i + 1 from by omega) (show i + 1 < H.2.1 2 from by rw [hl2]; omega))) (?_))))
    show WP (Call d) 299 P X (626, [some (vr (some 2) 102), some (vr (some 3) 9), some (vr (some 90) 10), some (vr (some 100) 13), some (vi i), some (vi 0), x6], [vi (K0 2 (i + 1)), vr (some 90) 10], (K0, H), c + 1, s + 6)
    rw [k2]
    refine WP.go 1 (And.intro (And.intro (show c + 1 + 0 ≤ 601024 from by omega) (show s + 6 + 0 ≤ 7293034 from by omega)) (And.intro rfl (?_)))
    show Call d 232 [vr (some 90) 10, vi (I 2 (i + 1))] (K0, H) _ _
    refine s_12_due (by omega) hS hMk hV hKk hO (fun q => False.elim (by omega)) (fun r0 K r2 r3 => ?_)
    show WP (Call d) 299 P X (627, [some (vr (some 2) 102), some (vr (some 3) 9), some (vr (some 90) 10), some (vr (some 100) 13), some (vi i), some (vi 0), x6], [vi (wI (fun y => RNT μ (μ (331 + 4 * ((I 2 (i + 1))))) y (LCo μ (μ (330 + 4 * ((I 2 (i + 1))))))) (μ (332 + 4 * ((I 2 (i + 1))))) (μ (333 + 4 * ((I 2 (i + 1)))) + 1))], (K, H), c + 1 + 0, s + 6 + 0)
    have kk : K 100 = K0 100 := r2.1 100 (by omega)
    have k100 : K 100 0 = wI (fun y => RNT μ (μ (331 + 4 * ((I 2 (i + 1))))) y (LCo μ (μ (330 + 4 * ((I 2 (i + 1))))))) (μ (332 + 4 * ((I 2 (i + 1))))) (μ (333 + 4 * ((I 2 (i + 1)))) + 1) := by rw [kk, k1]
    rw [hK0] at r2
    refine WP.go 3 (And.intro (And.intro (show c + 1 + 0 + 0 ≤ 601024 from by omega) (show s + 6 + 0 + 0 ≤ 7293034 from by omega)) (And.intro rfl ?_))
    show Call d 176 [vr (some 90) 10] (K, H) _ _
    refine s_12_thrown (by omega) hS ?_
    show WP (Call d) 299 P X (630, [some (vr (some 2) 102), some (vr (some 3) 9), some (vr (some 90) 10), some (vr (some 100) 13), some (vi i), some (vi 0), some (vi (wI (fun y => RNT μ (μ (331 + 4 * ((I 2 (i + 1))))) y (LCo μ (μ (330 + 4 * ((I 2 (i + 1))))))) (μ (332 + 4 * ((I 2 (i + 1))))) (μ (333 + 4 * ((I 2 (i + 1)))) + 1)))], [vi (K 90 0)], (K, H), c + 1 + 0 + 0, s + 6 + 0 + 0)
    refine WP.go 2 (And.intro (fun _ => ?_) (fun q => absurd r3 q))
    refine WP.go 2 (And.intro (fun q => absurd rfl q) (fun _ => ?_))
    refine WP.go 7 (And.intro (And.intro rfl (And.intro (by decide) (show (0 : Int) < H.2.1 100 from by rw [hl100]; decide))) (And.intro (fun _ => ?_) (fun q => absurd (zcmp_e k100) q)))
    refine WP.go 1 ?_
    show WP (Call d) 299 P X (1689, [some (vr (some 2) 102), some (vr (some 3) 9), some (vr (some 90) 10), some (vr (some 100) 13), some (vi i), some (vi 0), some (vi (wI (fun y => RNT μ (μ (331 + 4 * ((I 2 (i + 1))))) y (LCo μ (μ (330 + 4 * ((I 2 (i + 1))))))) (μ (332 + 4 * ((I 2 (i + 1))))) (μ (333 + 4 * ((I 2 (i + 1)))) + 1)))], [], (K, H), c + 1 + 0 + 0, s + 6 + 0 + 0)
    exact h _ _ _ _ _ _ (hI.r hi.1 v2 r2) ⟨by omega, by omega⟩
  ·
    show WP (Call d) 299 P X (619, [some (vr (some 2) 102), some (vr (some 3) 9), some (vr (some 90) 10), some (vr (some 100) 13), some (vi i), x5, x6], [vi 1], (I, H), c + 1, s + 6)
    obtain ⟨K0, hK0⟩ : ∃ K0, K0 = I := ⟨_, rfl⟩
    rw [← hK0]
    have kf : ∀ a, a < 6 ∨ (90 ≤ a ∧ a ≠ 100) → K0 a = I a := fun a q => by rw [hK0]
    have k2 : K0 2 = I 2 := kf 2 (by omega)
    have hMk : K0 91 = μ := (kf 91 (by omega)).trans hM
    have hKk : MS K0 := by unfold MS at *; rw [kf 90 (by omega)]; exact hK
    refine WP.go 1 ?_
    show WP (Call d) 299 P X (620, [some (vr (some 2) 102), some (vr (some 3) 9), some (vr (some 90) 10), some (vr (some 100) 13), some (vi i), some (vi 1), x6], [], (K0, H), c + 1, s + 6)
    refine WP.go 6 (Exists.intro (i + 1) (And.intro (wrp_a (by omega) (by omega)) (And.intro (And.intro rfl (And.intro (show 0 ≤ i + 1 from by omega) (show i + 1 < H.2.1 2 from by rw [hl2]; omega))) (?_))))
    show WP (Call d) 299 P X (626, [some (vr (some 2) 102), some (vr (some 3) 9), some (vr (some 90) 10), some (vr (some 100) 13), some (vi i), some (vi 1), x6], [vi (K0 2 (i + 1)), vr (some 90) 10], (K0, H), c + 1, s + 6)
    rw [k2]
    refine WP.go 1 (And.intro (And.intro (show c + 1 + 0 ≤ 601024 from by omega) (show s + 6 + 0 ≤ 7293034 from by omega)) (And.intro rfl (?_)))
    show Call d 232 [vr (some 90) 10, vi (I 2 (i + 1))] (K0, H) _ _
    refine s_12_due (by omega) hS hMk hV hKk hO (fun r0 K v r3 r4 r5 => ?_) (fun q => False.elim (by omega))
    show WP (Call d) 299 P X (627, [some (vr (some 2) 102), some (vr (some 3) 9), some (vr (some 90) 10), some (vr (some 100) 13), some (vi i), some (vi 1), x6], [vi (v)], (K, H), c + 1 + 0, s + 6 + 0)
    rw [hK0] at r4
    refine WP.go 3 (And.intro (And.intro (show c + 1 + 0 + 0 ≤ 601024 from by omega) (show s + 6 + 0 + 0 ≤ 7293034 from by omega)) (And.intro rfl ?_))
    show Call d 176 [vr (some 90) 10] (K, H) _ _
    refine s_12_thrown (by omega) hS ?_
    show WP (Call d) 299 P X (630, [some (vr (some 2) 102), some (vr (some 3) 9), some (vr (some 90) 10), some (vr (some 100) 13), some (vi i), some (vi 1), some (vi (v))], [vi (K 90 0)], (K, H), c + 1 + 0 + 0, s + 6 + 0 + 0)
    refine WP.go 2 (And.intro (fun _ => ?_) (fun q => absurd r5 q))
    refine WP.go 2 (And.intro (fun _ => ?_) (fun q => absurd q (by decide)))
    refine WP.go 1 ?_
    show WP (Call d) 299 P X (1689, [some (vr (some 2) 102), some (vr (some 3) 9), some (vr (some 90) 10), some (vr (some 100) 13), some (vi i), some (vi 1), some (vi (v))], [], (K, H), c + 1 + 0 + 0, s + 6 + 0 + 0)
    exact h _ _ _ _ _ _ (hI.m (CF.rf I) r4) ⟨by omega, by omega⟩

set_option maxRecDepth 20000 in
theorem law_22t {d : Nat} {P : Option qV → qH → Prop} {X : Nat → qH → Prop} {I : qI} {H : qS} {f : Int → Int} {L i : Int} {x5 x6 : Option qV} {c s : Nat} (hd : 100 ≤ d) (hI : LI f L i I H) (hi : 0 ≤ i ∧ i + 6 ≤ L ∧ L ≤ 3072) (hc : (c : Int) ≤ 1000 + 100 * i ∧ (s : Int) ≤ 40000 + 2000 * i) (h : ∀ (K : qI) (G : qS) (y5 y6 : Option qV) (c9 s9 : Nat), LI f L (i + 6) K G → (c9 ≤ c + 90 ∧ s9 ≤ s + 9000) → WP (Call d) 299 P X (1689, [some (vr (some 2) 102), some (vr (some 3) 9), some (vr (some 90) 10), some (vr (some 100) 13), some (vi i), y5, y6], [], (K, G), c9, s9)) (zb : I 2 (i + 2) = 0) :
    WP (Call d) 299 P X (881, [some (vr (some 2) 102), some (vr (some 3) 9), some (vr (some 90) 10), some (vr (some 100) 13), some (vi i), x5, x6], [], (I, H), c, s) := by
  obtain ⟨hS, hX, ⟨hf2, hl2⟩, ⟨hT, hV, hO, hLL⟩, ⟨hC, hC2⟩, hK, hKP, hTP, hFX, h10⟩ := id hI
  have hl100 := hS.l100
  generalize hM : I 91 = μ at *
  refine WP.go 11 (Exists.intro (i + 1) (And.intro (wrp_a (by omega) (by omega)) (And.intro (And.intro rfl (And.intro (show 0 ≤ i + 1 from by omega) (show i + 1 < H.2.1 2 from by rw [hl2]; omega))) (Exists.intro (i + 2) (And.intro (wrp_a (by omega) (by omega)) (And.intro (And.intro rfl (And.intro (show 0 ≤ i + 2 from by omega) (show i + 2 < H.2.1 2 from by rw [hl2]; omega))) (?_)))))))
  show WP (Call d) 299 P X (892, [some (vr (some 2) 102), some (vr (some 3) 9), some (vr (some 90) 10), some (vr (some 100) 13), some (vi i), x5, x6], [vi (I 2 (i + 2)), vi (I 2 (i + 1)), vr (some 3) 9], (I, H), c, s)
  refine WP.go 1 (And.intro (fun _ => ?_) (fun q => absurd zb q))
  show WP (Call d) 299 P X (895, [some (vr (some 2) 102), some (vr (some 3) 9), some (vr (some 90) 10), some (vr (some 100) 13), some (vi i), x5, x6], [vi (I 2 (i + 1)), vr (some 3) 9], (I, H), c, s)
  refine WP.go 3 (And.intro (And.intro (show c + 1 ≤ 601024 from by omega) (show s + 6 ≤ 7293034 from by omega)) (And.intro rfl (?_)))
  show Call d 285 [vr (some 3) 9, vi (I 2 (i + 1)), vi 0, vr (some 100) 13] (I, H) _ _
  refine hl_uphill (by omega) hS hX hT hV (fun v1 J v2 => ?_) (fun v1 => ?_)
  ·
    show WP (Call d) 299 P X (898, [some (vr (some 2) 102), some (vr (some 3) 9), some (vr (some 90) 10), some (vr (some 100) 13), some (vi i), x5, x6], [vi 0], (upI J 100 0 (UPH μ (AN μ) ((I 2 (i + 1))) (0)), H), c + 1, s + 6)
    obtain ⟨K0, hK0⟩ : ∃ K0, K0 = upI J 100 0 (UPH μ (AN μ) ((I 2 (i + 1))) (0)) := ⟨_, rfl⟩
    rw [← hK0]
    have ke : ∀ a, a ≠ 100 → K0 a = J a := fun a q => by rw [hK0]; exact upI_cell q
    have k1 : K0 100 0 = UPH μ (AN μ) ((I 2 (i + 1))) (0) := by rw [hK0]; exact upI_same _ _ _ _
    have kf : ∀ a, a < 6 ∨ (90 ≤ a ∧ a ≠ 100) → K0 a = I a := fun a q => (ke a (by omega)).trans (v2 a (by omega))
    have k2 : K0 2 = I 2 := kf 2 (by omega)
    have zk : K0 2 (i + 2) = 0 := by rw [k2]; exact zb
    have hMk : K0 91 = μ := (kf 91 (by omega)).trans hM
    have hKk : MS K0 := by unfold MS at *; rw [kf 90 (by omega)]; exact hK
    refine WP.go 1 ?_
    show WP (Call d) 299 P X (899, [some (vr (some 2) 102), some (vr (some 3) 9), some (vr (some 90) 10), some (vr (some 100) 13), some (vi i), some (vi 0), x6], [], (K0, H), c + 1, s + 6)
    refine WP.go 11 (Exists.intro (i + 1) (And.intro (wrp_a (by omega) (by omega)) (And.intro (And.intro rfl (And.intro (show 0 ≤ i + 1 from by omega) (show i + 1 < H.2.1 2 from by rw [hl2]; omega))) (Exists.intro (i + 2) (And.intro (wrp_a (by omega) (by omega)) (And.intro (And.intro rfl (And.intro (show 0 ≤ i + 2 from by omega) (show i + 2 < H.2.1 2 from by rw [hl2]; omega))) (?_)))))))
    show WP (Call d) 299 P X (910, [some (vr (some 2) 102), some (vr (some 3) 9), some (vr (some 90) 10), some (vr (some 100) 13), some (vi i), some (vi 0), x6], [vi (K0 2 (i + 2)), vi (K0 2 (i + 1)), vr (some 90) 10], (K0, H), c + 1, s + 6)
    refine WP.go 1 (And.intro (fun _ => ?_) (fun q => absurd zk q))
    show WP (Call d) 299 P X (913, [some (vr (some 2) 102), some (vr (some 3) 9), some (vr (some 90) 10), some (vr (some 100) 13), some (vi i), some (vi 0), x6], [vi (K0 2 (i + 1)), vr (some 90) 10], (K0, H), c + 1, s + 6)
    refine WP.go 1 (?_)
    show WP (Call d) 299 P X (914, [some (vr (some 2) 102), some (vr (some 3) 9), some (vr (some 90) 10), some (vr (some 100) 13), some (vi i), some (vi 0), x6], [vi 0, vi (K0 2 (i + 1)), vr (some 90) 10], (K0, H), c + 1, s + 6)
    rw [k2]
    refine WP.go 1 (And.intro (And.intro (show c + 1 + 0 ≤ 601024 from by omega) (show s + 6 + 0 ≤ 7293034 from by omega)) (And.intro rfl (?_)))
    show Call d 240 [vr (some 90) 10, vi (I 2 (i + 1)), vi 0] (K0, H) _ _
    refine s_12_uphill (by omega) hS hMk hV hKk (fun q => False.elim (by omega)) (fun r0 K r2 r3 => ?_)
    show WP (Call d) 299 P X (915, [some (vr (some 2) 102), some (vr (some 3) 9), some (vr (some 90) 10), some (vr (some 100) 13), some (vi i), some (vi 0), x6], [vi (UPH μ (AN μ) ((I 2 (i + 1))) (0))], (K, H), c + 1 + 0, s + 6 + 0)
    have kk : K 100 = K0 100 := r2.1 100 (by omega)
    have k100 : K 100 0 = UPH μ (AN μ) ((I 2 (i + 1))) (0) := by rw [kk, k1]
    rw [hK0] at r2
    refine WP.go 3 (And.intro (And.intro (show c + 1 + 0 + 0 ≤ 601024 from by omega) (show s + 6 + 0 + 0 ≤ 7293034 from by omega)) (And.intro rfl ?_))
    show Call d 176 [vr (some 90) 10] (K, H) _ _
    refine s_12_thrown (by omega) hS ?_
    show WP (Call d) 299 P X (918, [some (vr (some 2) 102), some (vr (some 3) 9), some (vr (some 90) 10), some (vr (some 100) 13), some (vi i), some (vi 0), some (vi (UPH μ (AN μ) ((I 2 (i + 1))) (0)))], [vi (K 90 0)], (K, H), c + 1 + 0 + 0, s + 6 + 0 + 0)
    refine WP.go 2 (And.intro (fun _ => ?_) (fun q => absurd r3 q))
    refine WP.go 2 (And.intro (fun q => absurd rfl q) (fun _ => ?_))
    refine WP.go 7 (And.intro (And.intro rfl (And.intro (by decide) (show (0 : Int) < H.2.1 100 from by rw [hl100]; decide))) (And.intro (fun _ => ?_) (fun q => absurd (zcmp_e k100) q)))
    refine WP.go 1 ?_
    show WP (Call d) 299 P X (1689, [some (vr (some 2) 102), some (vr (some 3) 9), some (vr (some 90) 10), some (vr (some 100) 13), some (vi i), some (vi 0), some (vi (UPH μ (AN μ) ((I 2 (i + 1))) (0)))], [], (K, H), c + 1 + 0 + 0, s + 6 + 0 + 0)
    exact h _ _ _ _ _ _ (hI.q v2 r2) ⟨by omega, by omega⟩
  ·
    show WP (Call d) 299 P X (898, [some (vr (some 2) 102), some (vr (some 3) 9), some (vr (some 90) 10), some (vr (some 100) 13), some (vi i), x5, x6], [vi 1], (I, H), c + 1, s + 6)
    obtain ⟨K0, hK0⟩ : ∃ K0, K0 = I := ⟨_, rfl⟩
    rw [← hK0]
    have kf : ∀ a, a < 6 ∨ (90 ≤ a ∧ a ≠ 100) → K0 a = I a := fun a q => by rw [hK0]
    have k2 : K0 2 = I 2 := kf 2 (by omega)
    have zk : K0 2 (i + 2) = 0 := by rw [k2]; exact zb
    have hMk : K0 91 = μ := (kf 91 (by omega)).trans hM
    have hKk : MS K0 := by unfold MS at *; rw [kf 90 (by omega)]; exact hK
    refine WP.go 1 ?_
    show WP (Call d) 299 P X (899, [some (vr (some 2) 102), some (vr (some 3) 9), some (vr (some 90) 10), some (vr (some 100) 13), some (vi i), some (vi 1), x6], [], (K0, H), c + 1, s + 6)
    refine WP.go 11 (Exists.intro (i + 1) (And.intro (wrp_a (by omega) (by omega)) (And.intro (And.intro rfl (And.intro (show 0 ≤ i + 1 from by omega) (show i + 1 < H.2.1 2 from by rw [hl2]; omega))) (Exists.intro (i + 2) (And.intro (wrp_a (by omega) (by omega)) (And.intro (And.intro rfl (And.intro (show 0 ≤ i + 2 from by omega) (show i + 2 < H.2.1 2 from by rw [hl2]; omega))) (?_)))))))
    show WP (Call d) 299 P X (910, [some (vr (some 2) 102), some (vr (some 3) 9), some (vr (some 90) 10), some (vr (some 100) 13), some (vi i), some (vi 1), x6], [vi (K0 2 (i + 2)), vi (K0 2 (i + 1)), vr (some 90) 10], (K0, H), c + 1, s + 6)
    refine WP.go 1 (And.intro (fun _ => ?_) (fun q => absurd zk q))
    show WP (Call d) 299 P X (913, [some (vr (some 2) 102), some (vr (some 3) 9), some (vr (some 90) 10), some (vr (some 100) 13), some (vi i), some (vi 1), x6], [vi (K0 2 (i + 1)), vr (some 90) 10], (K0, H), c + 1, s + 6)
    refine WP.go 1 (?_)
    show WP (Call d) 299 P X (914, [some (vr (some 2) 102), some (vr (some 3) 9), some (vr (some 90) 10), some (vr (some 100) 13), some (vi i), some (vi 1), x6], [vi 0, vi (K0 2 (i + 1)), vr (some 90) 10], (K0, H), c + 1, s + 6)
    rw [k2]
    refine WP.go 1 (And.intro (And.intro (show c + 1 + 0 ≤ 601024 from by omega) (show s + 6 + 0 ≤ 7293034 from by omega)) (And.intro rfl (?_)))
    show Call d 240 [vr (some 90) 10, vi (I 2 (i + 1)), vi 0] (K0, H) _ _
    refine s_12_uphill (by omega) hS hMk hV hKk (fun r0 K v r3 r4 r5 => ?_) (fun q => False.elim (by omega))
    show WP (Call d) 299 P X (915, [some (vr (some 2) 102), some (vr (some 3) 9), some (vr (some 90) 10), some (vr (some 100) 13), some (vi i), some (vi 1), x6], [vi (v)], (K, H), c + 1 + 0, s + 6 + 0)
    rw [hK0] at r4
    refine WP.go 3 (And.intro (And.intro (show c + 1 + 0 + 0 ≤ 601024 from by omega) (show s + 6 + 0 + 0 ≤ 7293034 from by omega)) (And.intro rfl ?_))
    show Call d 176 [vr (some 90) 10] (K, H) _ _
    refine s_12_thrown (by omega) hS ?_
    show WP (Call d) 299 P X (918, [some (vr (some 2) 102), some (vr (some 3) 9), some (vr (some 90) 10), some (vr (some 100) 13), some (vi i), some (vi 1), some (vi (v))], [vi (K 90 0)], (K, H), c + 1 + 0 + 0, s + 6 + 0 + 0)
    refine WP.go 2 (And.intro (fun _ => ?_) (fun q => absurd r5 q))
    refine WP.go 2 (And.intro (fun _ => ?_) (fun q => absurd q (by decide)))
    refine WP.go 1 ?_
    show WP (Call d) 299 P X (1689, [some (vr (some 2) 102), some (vr (some 3) 9), some (vr (some 90) 10), some (vr (some 100) 13), some (vi i), some (vi 1), some (vi (v))], [], (K, H), c + 1 + 0 + 0, s + 6 + 0 + 0)
    exact h _ _ _ _ _ _ (hI.m (CF.rf I) r4) ⟨by omega, by omega⟩

set_option maxRecDepth 20000 in
theorem law_22f {d : Nat} {P : Option qV → qH → Prop} {X : Nat → qH → Prop} {I : qI} {H : qS} {f : Int → Int} {L i : Int} {x5 x6 : Option qV} {c s : Nat} (hd : 100 ≤ d) (hI : LI f L i I H) (hi : 0 ≤ i ∧ i + 6 ≤ L ∧ L ≤ 3072) (hc : (c : Int) ≤ 1000 + 100 * i ∧ (s : Int) ≤ 40000 + 2000 * i) (h : ∀ (K : qI) (G : qS) (y5 y6 : Option qV) (c9 s9 : Nat), LI f L (i + 6) K G → (c9 ≤ c + 90 ∧ s9 ≤ s + 9000) → WP (Call d) 299 P X (1689, [some (vr (some 2) 102), some (vr (some 3) 9), some (vr (some 90) 10), some (vr (some 100) 13), some (vi i), y5, y6], [], (K, G), c9, s9)) (zb : ¬ I 2 (i + 2) = 0) :
    WP (Call d) 299 P X (881, [some (vr (some 2) 102), some (vr (some 3) 9), some (vr (some 90) 10), some (vr (some 100) 13), some (vi i), x5, x6], [], (I, H), c, s) := by
  obtain ⟨hS, hX, ⟨hf2, hl2⟩, ⟨hT, hV, hO, hLL⟩, ⟨hC, hC2⟩, hK, hKP, hTP, hFX, h10⟩ := id hI
  have hl100 := hS.l100
  generalize hM : I 91 = μ at *
  refine WP.go 11 (Exists.intro (i + 1) (And.intro (wrp_a (by omega) (by omega)) (And.intro (And.intro rfl (And.intro (show 0 ≤ i + 1 from by omega) (show i + 1 < H.2.1 2 from by rw [hl2]; omega))) (Exists.intro (i + 2) (And.intro (wrp_a (by omega) (by omega)) (And.intro (And.intro rfl (And.intro (show 0 ≤ i + 2 from by omega) (show i + 2 < H.2.1 2 from by rw [hl2]; omega))) (?_)))))))
  show WP (Call d) 299 P X (892, [some (vr (some 2) 102), some (vr (some 3) 9), some (vr (some 90) 10), some (vr (some 100) 13), some (vi i), x5, x6], [vi (I 2 (i + 2)), vi (I 2 (i + 1)), vr (some 3) 9], (I, H), c, s)
  refine WP.go 1 (And.intro (fun q => absurd q zb) (fun _ => ?_))
  show WP (Call d) 299 P X (893, [some (vr (some 2) 102), some (vr (some 3) 9), some (vr (some 90) 10), some (vr (some 100) 13), some (vi i), x5, x6], [vi (I 2 (i + 1)), vr (some 3) 9], (I, H), c, s)
  refine WP.go 4 (And.intro (And.intro (show c + 1 ≤ 601024 from by omega) (show s + 6 ≤ 7293034 from by omega)) (And.intro rfl (?_)))
  show Call d 285 [vr (some 3) 9, vi (I 2 (i + 1)), vi 1, vr (some 100) 13] (I, H) _ _
  refine hl_uphill (by omega) hS hX hT hV (fun v1 J v2 => ?_) (fun v1 => ?_)
  ·
    show WP (Call d) 299 P X (898, [some (vr (some 2) 102), some (vr (some 3) 9), some (vr (some 90) 10), some (vr (some 100) 13), some (vi i), x5, x6], [vi 0], (upI J 100 0 (UPH μ (AN μ) ((I 2 (i + 1))) (1)), H), c + 1, s + 6)
    obtain ⟨K0, hK0⟩ : ∃ K0, K0 = upI J 100 0 (UPH μ (AN μ) ((I 2 (i + 1))) (1)) := ⟨_, rfl⟩
    rw [← hK0]
    have ke : ∀ a, a ≠ 100 → K0 a = J a := fun a q => by rw [hK0]; exact upI_cell q
    have k1 : K0 100 0 = UPH μ (AN μ) ((I 2 (i + 1))) (1) := by rw [hK0]; exact upI_same _ _ _ _
    have kf : ∀ a, a < 6 ∨ (90 ≤ a ∧ a ≠ 100) → K0 a = I a := fun a q => (ke a (by omega)).trans (v2 a (by omega))
    have k2 : K0 2 = I 2 := kf 2 (by omega)
    have zk : ¬ K0 2 (i + 2) = 0 := by rw [k2]; exact zb
    have hMk : K0 91 = μ := (kf 91 (by omega)).trans hM
    have hKk : MS K0 := by unfold MS at *; rw [kf 90 (by omega)]; exact hK
    refine WP.go 1 ?_
    show WP (Call d) 299 P X (899, [some (vr (some 2) 102), some (vr (some 3) 9), some (vr (some 90) 10), some (vr (some 100) 13), some (vi i), some (vi 0), x6], [], (K0, H), c + 1, s + 6)
    refine WP.go 11 (Exists.intro (i + 1) (And.intro (wrp_a (by omega) (by omega)) (And.intro (And.intro rfl (And.intro (show 0 ≤ i + 1 from by omega) (show i + 1 < H.2.1 2 from by rw [hl2]; omega))) (Exists.intro (i + 2) (And.intro (wrp_a (by omega) (by omega)) (And.intro (And.intro rfl (And.intro (show 0 ≤ i + 2 from by omega) (show i + 2 < H.2.1 2 from by rw [hl2]; omega))) (?_)))))))
    show WP (Call d) 299 P X (910, [some (vr (some 2) 102), some (vr (some 3) 9), some (vr (some 90) 10), some (vr (some 100) 13), some (vi i), some (vi 0), x6], [vi (K0 2 (i + 2)), vi (K0 2 (i + 1)), vr (some 90) 10], (K0, H), c + 1, s + 6)
    refine WP.go 1 (And.intro (fun q => absurd q zk) (fun _ => ?_))
    show WP (Call d) 299 P X (911, [some (vr (some 2) 102), some (vr (some 3) 9), some (vr (some 90) 10), some (vr (some 100) 13), some (vi i), some (vi 0), x6], [vi (K0 2 (i + 1)), vr (some 90) 10], (K0, H), c + 1, s + 6)
    refine WP.go 2 (?_)
    show WP (Call d) 299 P X (914, [some (vr (some 2) 102), some (vr (some 3) 9), some (vr (some 90) 10), some (vr (some 100) 13), some (vi i), some (vi 0), x6], [vi 1, vi (K0 2 (i + 1)), vr (some 90) 10], (K0, H), c + 1, s + 6)
    rw [k2]
    refine WP.go 1 (And.intro (And.intro (show c + 1 + 0 ≤ 601024 from by omega) (show s + 6 + 0 ≤ 7293034 from by omega)) (And.intro rfl (?_)))
    show Call d 240 [vr (some 90) 10, vi (I 2 (i + 1)), vi 1] (K0, H) _ _
    refine s_12_uphill (by omega) hS hMk hV hKk (fun q => False.elim (by omega)) (fun r0 K r2 r3 => ?_)
    show WP (Call d) 299 P X (915, [some (vr (some 2) 102), some (vr (some 3) 9), some (vr (some 90) 10), some (vr (some 100) 13), some (vi i), some (vi 0), x6], [vi (UPH μ (AN μ) ((I 2 (i + 1))) (1))], (K, H), c + 1 + 0, s + 6 + 0)
    have kk : K 100 = K0 100 := r2.1 100 (by omega)
    have k100 : K 100 0 = UPH μ (AN μ) ((I 2 (i + 1))) (1) := by rw [kk, k1]
    rw [hK0] at r2
    refine WP.go 3 (And.intro (And.intro (show c + 1 + 0 + 0 ≤ 601024 from by omega) (show s + 6 + 0 + 0 ≤ 7293034 from by omega)) (And.intro rfl ?_))
    show Call d 176 [vr (some 90) 10] (K, H) _ _
    refine s_12_thrown (by omega) hS ?_
    show WP (Call d) 299 P X (918, [some (vr (some 2) 102), some (vr (some 3) 9), some (vr (some 90) 10), some (vr (some 100) 13), some (vi i), some (vi 0), some (vi (UPH μ (AN μ) ((I 2 (i + 1))) (1)))], [vi (K 90 0)], (K, H), c + 1 + 0 + 0, s + 6 + 0 + 0)
    refine WP.go 2 (And.intro (fun _ => ?_) (fun q => absurd r3 q))
    refine WP.go 2 (And.intro (fun q => absurd rfl q) (fun _ => ?_))
    refine WP.go 7 (And.intro (And.intro rfl (And.intro (by decide) (show (0 : Int) < H.2.1 100 from by rw [hl100]; decide))) (And.intro (fun _ => ?_) (fun q => absurd (zcmp_e k100) q)))
    refine WP.go 1 ?_
    show WP (Call d) 299 P X (1689, [some (vr (some 2) 102), some (vr (some 3) 9), some (vr (some 90) 10), some (vr (some 100) 13), some (vi i), some (vi 0), some (vi (UPH μ (AN μ) ((I 2 (i + 1))) (1)))], [], (K, H), c + 1 + 0 + 0, s + 6 + 0 + 0)
    exact h _ _ _ _ _ _ (hI.q v2 r2) ⟨by omega, by omega⟩
  ·
    show WP (Call d) 299 P X (898, [some (vr (some 2) 102), some (vr (some 3) 9), some (vr (some 90) 10), some (vr (some 100) 13), some (vi i), x5, x6], [vi 1], (I, H), c + 1, s + 6)
    obtain ⟨K0, hK0⟩ : ∃ K0, K0 = I := ⟨_, rfl⟩
    rw [← hK0]
    have kf : ∀ a, a < 6 ∨ (90 ≤ a ∧ a ≠ 100) → K0 a = I a := fun a q => by rw [hK0]
    have k2 : K0 2 = I 2 := kf 2 (by omega)
    have zk : ¬ K0 2 (i + 2) = 0 := by rw [k2]; exact zb
    have hMk : K0 91 = μ := (kf 91 (by omega)).trans hM
    have hKk : MS K0 := by unfold MS at *; rw [kf 90 (by omega)]; exact hK
    refine WP.go 1 ?_
    show WP (Call d) 299 P X (899, [some (vr (some 2) 102), some (vr (some 3) 9), some (vr (some 90) 10), some (vr (some 100) 13), some (vi i), some (vi 1), x6], [], (K0, H), c + 1, s + 6)
    refine WP.go 11 (Exists.intro (i + 1) (And.intro (wrp_a (by omega) (by omega)) (And.intro (And.intro rfl (And.intro (show 0 ≤ i + 1 from by omega) (show i + 1 < H.2.1 2 from by rw [hl2]; omega))) (Exists.intro (i + 2) (And.intro (wrp_a (by omega) (by omega)) (And.intro (And.intro rfl (And.intro (show 0 ≤ i + 2 from by omega) (show i + 2 < H.2.1 2 from by rw [hl2]; omega))) (?_)))))))
    show WP (Call d) 299 P X (910, [some (vr (some 2) 102), some (vr (some 3) 9), some (vr (some 90) 10), some (vr (some 100) 13), some (vi i), some (vi 1), x6], [vi (K0 2 (i + 2)), vi (K0 2 (i + 1)), vr (some 90) 10], (K0, H), c + 1, s + 6)
    refine WP.go 1 (And.intro (fun q => absurd q zk) (fun _ => ?_))
    show WP (Call d) 299 P X (911, [some (vr (some 2) 102), some (vr (some 3) 9), some (vr (some 90) 10), some (vr (some 100) 13), some (vi i), some (vi 1), x6], [vi (K0 2 (i + 1)), vr (some 90) 10], (K0, H), c + 1, s + 6)
    refine WP.go 2 (?_)
    show WP (Call d) 299 P X (914, [some (vr (some 2) 102), some (vr (some 3) 9), some (vr (some 90) 10), some (vr (some 100) 13), some (vi i), some (vi 1), x6], [vi 1, vi (K0 2 (i + 1)), vr (some 90) 10], (K0, H), c + 1, s + 6)
    rw [k2]
    refine WP.go 1 (And.intro (And.intro (show c + 1 + 0 ≤ 601024 from by omega) (show s + 6 + 0 ≤ 7293034 from by omega)) (And.intro rfl (?_)))
    show Call d 240 [vr (some 90) 10, vi (I 2 (i + 1)), vi 1] (K0, H) _ _
    refine s_12_uphill (by omega) hS hMk hV hKk (fun r0 K v r3 r4 r5 => ?_) (fun q => False.elim (by omega))
    show WP (Call d) 299 P X (915, [some (vr (some 2) 102), some (vr (some 3) 9), some (vr (some 90) 10), some (vr (some 100) 13), some (vi i), some (vi 1), x6], [vi (v)], (K, H), c + 1 + 0, s + 6 + 0)
    rw [hK0] at r4
    refine WP.go 3 (And.intro (And.intro (show c + 1 + 0 + 0 ≤ 601024 from by omega) (show s + 6 + 0 + 0 ≤ 7293034 from by omega)) (And.intro rfl ?_))
    show Call d 176 [vr (some 90) 10] (K, H) _ _
    refine s_12_thrown (by omega) hS ?_
    show WP (Call d) 299 P X (918, [some (vr (some 2) 102), some (vr (some 3) 9), some (vr (some 90) 10), some (vr (some 100) 13), some (vi i), some (vi 1), some (vi (v))], [vi (K 90 0)], (K, H), c + 1 + 0 + 0, s + 6 + 0 + 0)
    refine WP.go 2 (And.intro (fun _ => ?_) (fun q => absurd r5 q))
    refine WP.go 2 (And.intro (fun _ => ?_) (fun q => absurd q (by decide)))
    refine WP.go 1 ?_
    show WP (Call d) 299 P X (1689, [some (vr (some 2) 102), some (vr (some 3) 9), some (vr (some 90) 10), some (vr (some 100) 13), some (vi i), some (vi 1), some (vi (v))], [], (K, H), c + 1 + 0 + 0, s + 6 + 0 + 0)
    exact h _ _ _ _ _ _ (hI.m (CF.rf I) r4) ⟨by omega, by omega⟩

set_option maxRecDepth 20000 in
theorem law_24t {d : Nat} {P : Option qV → qH → Prop} {X : Nat → qH → Prop} {I : qI} {H : qS} {f : Int → Int} {L i : Int} {x5 x6 : Option qV} {c s : Nat} (hd : 100 ≤ d) (hI : LI f L i I H) (hi : 0 ≤ i ∧ i + 6 ≤ L ∧ L ≤ 3072) (hc : (c : Int) ≤ 1000 + 100 * i ∧ (s : Int) ≤ 40000 + 2000 * i) (h : ∀ (K : qI) (G : qS) (y5 y6 : Option qV) (c9 s9 : Nat), LI f L (i + 6) K G → (c9 ≤ c + 90 ∧ s9 ≤ s + 9000) → WP (Call d) 299 P X (1689, [some (vr (some 2) 102), some (vr (some 3) 9), some (vr (some 90) 10), some (vr (some 100) 13), some (vi i), y5, y6], [], (K, G), c9, s9)) (zb : I 2 (i + 3) = 0) :
    WP (Call d) 299 P X (979, [some (vr (some 2) 102), some (vr (some 3) 9), some (vr (some 90) 10), some (vr (some 100) 13), some (vi i), x5, x6], [], (I, H), c, s) := by
  obtain ⟨hS, hX, ⟨hf2, hl2⟩, ⟨hT, hV, hO, hLL⟩, ⟨hC, hC2⟩, hK, hKP, hTP, hFX, h10⟩ := id hI
  have hl100 := hS.l100
  generalize hM : I 91 = μ at *
  refine WP.go 16 (Exists.intro (i + 1) (And.intro (wrp_a (by omega) (by omega)) (And.intro (And.intro rfl (And.intro (show 0 ≤ i + 1 from by omega) (show i + 1 < H.2.1 2 from by rw [hl2]; omega))) (Exists.intro (i + 2) (And.intro (wrp_a (by omega) (by omega)) (And.intro (And.intro rfl (And.intro (show 0 ≤ i + 2 from by omega) (show i + 2 < H.2.1 2 from by rw [hl2]; omega))) (Exists.intro (i + 3) (And.intro (wrp_a (by omega) (by omega)) (And.intro (And.intro rfl (And.intro (show 0 ≤ i + 3 from by omega) (show i + 3 < H.2.1 2 from by rw [hl2]; omega))) (?_))))))))))
  show WP (Call d) 299 P X (995, [some (vr (some 2) 102), some (vr (some 3) 9), some (vr (some 90) 10), some (vr (some 100) 13), some (vi i), x5, x6], [vi (I 2 (i + 3)), vi (I 2 (i + 2)), vi (I 2 (i + 1)), vr (some 3) 9], (I, H), c, s)
  refine WP.go 1 (And.intro (fun _ => ?_) (fun q => absurd zb q))
  show WP (Call d) 299 P X (998, [some (vr (some 2) 102), some (vr (some 3) 9), some (vr (some 90) 10), some (vr (some 100) 13), some (vi i), x5, x6], [vi (I 2 (i + 2)), vi (I 2 (i + 1)), vr (some 3) 9], (I, H), c, s)
  refine WP.go 3 (And.intro (And.intro (show c + 2 ≤ 601024 from by omega) (show s + 12 ≤ 7293034 from by omega)) (And.intro rfl (?_)))
  show Call d 287 [vr (some 3) 9, vi (I 2 (i + 1)), vi (I 2 (i + 2)), vi 0, vr (some 100) 13] (I, H) _ _
  refine hl_name (by omega) hS hX hT hV (fun v1 J v2 => ?_) (fun v1 => ?_)
  ·
    show WP (Call d) 299 P X (1001, [some (vr (some 2) 102), some (vr (some 3) 9), some (vr (some 90) 10), some (vr (some 100) 13), some (vi i), x5, x6], [vi 0], (upI J 100 0 (NAM μ (AN μ) ((I 2 (i + 1))) ((I 2 (i + 2))) (0)), H), c + 2, s + 12)
    obtain ⟨K0, hK0⟩ : ∃ K0, K0 = upI J 100 0 (NAM μ (AN μ) ((I 2 (i + 1))) ((I 2 (i + 2))) (0)) := ⟨_, rfl⟩
    rw [← hK0]
    have ke : ∀ a, a ≠ 100 → K0 a = J a := fun a q => by rw [hK0]; exact upI_cell q
    have k1 : K0 100 0 = NAM μ (AN μ) ((I 2 (i + 1))) ((I 2 (i + 2))) (0) := by rw [hK0]; exact upI_same _ _ _ _
    have kf : ∀ a, a < 6 ∨ (90 ≤ a ∧ a ≠ 100) → K0 a = I a := fun a q => (ke a (by omega)).trans (v2 a (by omega))
    have k2 : K0 2 = I 2 := kf 2 (by omega)
    have zk : K0 2 (i + 3) = 0 := by rw [k2]; exact zb
    have hMk : K0 91 = μ := (kf 91 (by omega)).trans hM
    have hKk : MS K0 := by unfold MS at *; rw [kf 90 (by omega)]; exact hK
    refine WP.go 1 ?_
    show WP (Call d) 299 P X (1002, [some (vr (some 2) 102), some (vr (some 3) 9), some (vr (some 90) 10), some (vr (some 100) 13), some (vi i), some (vi 0), x6], [], (K0, H), c + 2, s + 12)
    refine WP.go 16 (Exists.intro (i + 1) (And.intro (wrp_a (by omega) (by omega)) (And.intro (And.intro rfl (And.intro (show 0 ≤ i + 1 from by omega) (show i + 1 < H.2.1 2 from by rw [hl2]; omega))) (Exists.intro (i + 2) (And.intro (wrp_a (by omega) (by omega)) (And.intro (And.intro rfl (And.intro (show 0 ≤ i + 2 from by omega) (show i + 2 < H.2.1 2 from by rw [hl2]; omega))) (Exists.intro (i + 3) (And.intro (wrp_a (by omega) (by omega)) (And.intro (And.intro rfl (And.intro (show 0 ≤ i + 3 from by omega) (show i + 3 < H.2.1 2 from by rw [hl2]; omega))) (?_))))))))))
    show WP (Call d) 299 P X (1018, [some (vr (some 2) 102), some (vr (some 3) 9), some (vr (some 90) 10), some (vr (some 100) 13), some (vi i), some (vi 0), x6], [vi (K0 2 (i + 3)), vi (K0 2 (i + 2)), vi (K0 2 (i + 1)), vr (some 90) 10], (K0, H), c + 2, s + 12)
    refine WP.go 1 (And.intro (fun _ => ?_) (fun q => absurd zk q))
    show WP (Call d) 299 P X (1021, [some (vr (some 2) 102), some (vr (some 3) 9), some (vr (some 90) 10), some (vr (some 100) 13), some (vi i), some (vi 0), x6], [vi (K0 2 (i + 2)), vi (K0 2 (i + 1)), vr (some 90) 10], (K0, H), c + 2, s + 12)
    refine WP.go 1 (?_)
    show WP (Call d) 299 P X (1022, [some (vr (some 2) 102), some (vr (some 3) 9), some (vr (some 90) 10), some (vr (some 100) 13), some (vi i), some (vi 0), x6], [vi 0, vi (K0 2 (i + 2)), vi (K0 2 (i + 1)), vr (some 90) 10], (K0, H), c + 2, s + 12)
    rw [k2]
    refine WP.go 1 (And.intro (And.intro (show c + 2 + 0 ≤ 601024 from by omega) (show s + 12 + 0 ≤ 7293034 from by omega)) (And.intro rfl (?_)))
    show Call d 243 [vr (some 90) 10, vi (I 2 (i + 1)), vi (I 2 (i + 2)), vi 0] (K0, H) _ _
    refine s_12_name (by omega) hS hMk hV hKk (fun q => False.elim (by omega)) (fun r0 K r2 r3 => ?_)
    show WP (Call d) 299 P X (1023, [some (vr (some 2) 102), some (vr (some 3) 9), some (vr (some 90) 10), some (vr (some 100) 13), some (vi i), some (vi 0), x6], [vi (NAM μ (AN μ) ((I 2 (i + 1))) ((I 2 (i + 2))) (0))], (K, H), c + 2 + 0, s + 12 + 0)
    have kk : K 100 = K0 100 := r2.1 100 (by omega)
    have k100 : K 100 0 = NAM μ (AN μ) ((I 2 (i + 1))) ((I 2 (i + 2))) (0) := by rw [kk, k1]
    rw [hK0] at r2
    refine WP.go 3 (And.intro (And.intro (show c + 2 + 0 + 0 ≤ 601024 from by omega) (show s + 12 + 0 + 0 ≤ 7293034 from by omega)) (And.intro rfl ?_))
    show Call d 176 [vr (some 90) 10] (K, H) _ _
    refine s_12_thrown (by omega) hS ?_
    show WP (Call d) 299 P X (1026, [some (vr (some 2) 102), some (vr (some 3) 9), some (vr (some 90) 10), some (vr (some 100) 13), some (vi i), some (vi 0), some (vi (NAM μ (AN μ) ((I 2 (i + 1))) ((I 2 (i + 2))) (0)))], [vi (K 90 0)], (K, H), c + 2 + 0 + 0, s + 12 + 0 + 0)
    refine WP.go 2 (And.intro (fun _ => ?_) (fun q => absurd r3 q))
    refine WP.go 2 (And.intro (fun q => absurd rfl q) (fun _ => ?_))
    refine WP.go 7 (And.intro (And.intro rfl (And.intro (by decide) (show (0 : Int) < H.2.1 100 from by rw [hl100]; decide))) (And.intro (fun _ => ?_) (fun q => absurd (zcmp_e k100) q)))
    refine WP.go 1 ?_
    show WP (Call d) 299 P X (1689, [some (vr (some 2) 102), some (vr (some 3) 9), some (vr (some 90) 10), some (vr (some 100) 13), some (vi i), some (vi 0), some (vi (NAM μ (AN μ) ((I 2 (i + 1))) ((I 2 (i + 2))) (0)))], [], (K, H), c + 2 + 0 + 0, s + 12 + 0 + 0)
    exact h _ _ _ _ _ _ (hI.q v2 r2) ⟨by omega, by omega⟩
  ·
    show WP (Call d) 299 P X (1001, [some (vr (some 2) 102), some (vr (some 3) 9), some (vr (some 90) 10), some (vr (some 100) 13), some (vi i), x5, x6], [vi 1], (I, H), c + 2, s + 12)
    obtain ⟨K0, hK0⟩ : ∃ K0, K0 = I := ⟨_, rfl⟩
    rw [← hK0]
    have kf : ∀ a, a < 6 ∨ (90 ≤ a ∧ a ≠ 100) → K0 a = I a := fun a q => by rw [hK0]
    have k2 : K0 2 = I 2 := kf 2 (by omega)
    have zk : K0 2 (i + 3) = 0 := by rw [k2]; exact zb
    have hMk : K0 91 = μ := (kf 91 (by omega)).trans hM
    have hKk : MS K0 := by unfold MS at *; rw [kf 90 (by omega)]; exact hK
    refine WP.go 1 ?_
    show WP (Call d) 299 P X (1002, [some (vr (some 2) 102), some (vr (some 3) 9), some (vr (some 90) 10), some (vr (some 100) 13), some (vi i), some (vi 1), x6], [], (K0, H), c + 2, s + 12)
    refine WP.go 16 (Exists.intro (i + 1) (And.intro (wrp_a (by omega) (by omega)) (And.intro (And.intro rfl (And.intro (show 0 ≤ i + 1 from by omega) (show i + 1 < H.2.1 2 from by rw [hl2]; omega))) (Exists.intro (i + 2) (And.intro (wrp_a (by omega) (by omega)) (And.intro (And.intro rfl (And.intro (show 0 ≤ i + 2 from by omega) (show i + 2 < H.2.1 2 from by rw [hl2]; omega))) (Exists.intro (i + 3) (And.intro (wrp_a (by omega) (by omega)) (And.intro (And.intro rfl (And.intro (show 0 ≤ i + 3 from by omega) (show i + 3 < H.2.1 2 from by rw [hl2]; omega))) (?_))))))))))
    show WP (Call d) 299 P X (1018, [some (vr (some 2) 102), some (vr (some 3) 9), some (vr (some 90) 10), some (vr (some 100) 13), some (vi i), some (vi 1), x6], [vi (K0 2 (i + 3)), vi (K0 2 (i + 2)), vi (K0 2 (i + 1)), vr (some 90) 10], (K0, H), c + 2, s + 12)
    refine WP.go 1 (And.intro (fun _ => ?_) (fun q => absurd zk q))
    show WP (Call d) 299 P X (1021, [some (vr (some 2) 102), some (vr (some 3) 9), some (vr (some 90) 10), some (vr (some 100) 13), some (vi i), some (vi 1), x6], [vi (K0 2 (i + 2)), vi (K0 2 (i + 1)), vr (some 90) 10], (K0, H), c + 2, s + 12)
    refine WP.go 1 (?_)
    show WP (Call d) 299 P X (1022, [some (vr (some 2) 102), some (vr (some 3) 9), some (vr (some 90) 10), some (vr (some 100) 13), some (vi i), some (vi 1), x6], [vi 0, vi (K0 2 (i + 2)), vi (K0 2 (i + 1)), vr (some 90) 10], (K0, H), c + 2, s + 12)
    rw [k2]
    refine WP.go 1 (And.intro (And.intro (show c + 2 + 0 ≤ 601024 from by omega) (show s + 12 + 0 ≤ 7293034 from by omega)) (And.intro rfl (?_)))
    show Call d 243 [vr (some 90) 10, vi (I 2 (i + 1)), vi (I 2 (i + 2)), vi 0] (K0, H) _ _
    refine s_12_name (by omega) hS hMk hV hKk (fun r0 K v r3 r4 r5 => ?_) (fun q => False.elim (by omega))
    show WP (Call d) 299 P X (1023, [some (vr (some 2) 102), some (vr (some 3) 9), some (vr (some 90) 10), some (vr (some 100) 13), some (vi i), some (vi 1), x6], [vi (v)], (K, H), c + 2 + 0, s + 12 + 0)
    rw [hK0] at r4
    refine WP.go 3 (And.intro (And.intro (show c + 2 + 0 + 0 ≤ 601024 from by omega) (show s + 12 + 0 + 0 ≤ 7293034 from by omega)) (And.intro rfl ?_))
    show Call d 176 [vr (some 90) 10] (K, H) _ _
    refine s_12_thrown (by omega) hS ?_
    show WP (Call d) 299 P X (1026, [some (vr (some 2) 102), some (vr (some 3) 9), some (vr (some 90) 10), some (vr (some 100) 13), some (vi i), some (vi 1), some (vi (v))], [vi (K 90 0)], (K, H), c + 2 + 0 + 0, s + 12 + 0 + 0)
    refine WP.go 2 (And.intro (fun _ => ?_) (fun q => absurd r5 q))
    refine WP.go 2 (And.intro (fun _ => ?_) (fun q => absurd q (by decide)))
    refine WP.go 1 ?_
    show WP (Call d) 299 P X (1689, [some (vr (some 2) 102), some (vr (some 3) 9), some (vr (some 90) 10), some (vr (some 100) 13), some (vi i), some (vi 1), some (vi (v))], [], (K, H), c + 2 + 0 + 0, s + 12 + 0 + 0)
    exact h _ _ _ _ _ _ (hI.m (CF.rf I) r4) ⟨by omega, by omega⟩

set_option maxRecDepth 20000 in
theorem law_24f {d : Nat} {P : Option qV → qH → Prop} {X : Nat → qH → Prop} {I : qI} {H : qS} {f : Int → Int} {L i : Int} {x5 x6 : Option qV} {c s : Nat} (hd : 100 ≤ d) (hI : LI f L i I H) (hi : 0 ≤ i ∧ i + 6 ≤ L ∧ L ≤ 3072) (hc : (c : Int) ≤ 1000 + 100 * i ∧ (s : Int) ≤ 40000 + 2000 * i) (h : ∀ (K : qI) (G : qS) (y5 y6 : Option qV) (c9 s9 : Nat), LI f L (i + 6) K G → (c9 ≤ c + 90 ∧ s9 ≤ s + 9000) → WP (Call d) 299 P X (1689, [some (vr (some 2) 102), some (vr (some 3) 9), some (vr (some 90) 10), some (vr (some 100) 13), some (vi i), y5, y6], [], (K, G), c9, s9)) (zb : ¬ I 2 (i + 3) = 0) :
    WP (Call d) 299 P X (979, [some (vr (some 2) 102), some (vr (some 3) 9), some (vr (some 90) 10), some (vr (some 100) 13), some (vi i), x5, x6], [], (I, H), c, s) := by
  obtain ⟨hS, hX, ⟨hf2, hl2⟩, ⟨hT, hV, hO, hLL⟩, ⟨hC, hC2⟩, hK, hKP, hTP, hFX, h10⟩ := id hI
  have hl100 := hS.l100
  generalize hM : I 91 = μ at *
  refine WP.go 16 (Exists.intro (i + 1) (And.intro (wrp_a (by omega) (by omega)) (And.intro (And.intro rfl (And.intro (show 0 ≤ i + 1 from by omega) (show i + 1 < H.2.1 2 from by rw [hl2]; omega))) (Exists.intro (i + 2) (And.intro (wrp_a (by omega) (by omega)) (And.intro (And.intro rfl (And.intro (show 0 ≤ i + 2 from by omega) (show i + 2 < H.2.1 2 from by rw [hl2]; omega))) (Exists.intro (i + 3) (And.intro (wrp_a (by omega) (by omega)) (And.intro (And.intro rfl (And.intro (show 0 ≤ i + 3 from by omega) (show i + 3 < H.2.1 2 from by rw [hl2]; omega))) (?_))))))))))
  show WP (Call d) 299 P X (995, [some (vr (some 2) 102), some (vr (some 3) 9), some (vr (some 90) 10), some (vr (some 100) 13), some (vi i), x5, x6], [vi (I 2 (i + 3)), vi (I 2 (i + 2)), vi (I 2 (i + 1)), vr (some 3) 9], (I, H), c, s)
  refine WP.go 1 (And.intro (fun q => absurd q zb) (fun _ => ?_))
  show WP (Call d) 299 P X (996, [some (vr (some 2) 102), some (vr (some 3) 9), some (vr (some 90) 10), some (vr (some 100) 13), some (vi i), x5, x6], [vi (I 2 (i + 2)), vi (I 2 (i + 1)), vr (some 3) 9], (I, H), c, s)
  refine WP.go 4 (And.intro (And.intro (show c + 2 ≤ 601024 from by omega) (show s + 12 ≤ 7293034 from by omega)) (And.intro rfl (?_)))
  show Call d 287 [vr (some 3) 9, vi (I 2 (i + 1)), vi (I 2 (i + 2)), vi 1, vr (some 100) 13] (I, H) _ _
  refine hl_name (by omega) hS hX hT hV (fun v1 J v2 => ?_) (fun v1 => ?_)
  ·
    show WP (Call d) 299 P X (1001, [some (vr (some 2) 102), some (vr (some 3) 9), some (vr (some 90) 10), some (vr (some 100) 13), some (vi i), x5, x6], [vi 0], (upI J 100 0 (NAM μ (AN μ) ((I 2 (i + 1))) ((I 2 (i + 2))) (1)), H), c + 2, s + 12)
    obtain ⟨K0, hK0⟩ : ∃ K0, K0 = upI J 100 0 (NAM μ (AN μ) ((I 2 (i + 1))) ((I 2 (i + 2))) (1)) := ⟨_, rfl⟩
    rw [← hK0]
    have ke : ∀ a, a ≠ 100 → K0 a = J a := fun a q => by rw [hK0]; exact upI_cell q
    have k1 : K0 100 0 = NAM μ (AN μ) ((I 2 (i + 1))) ((I 2 (i + 2))) (1) := by rw [hK0]; exact upI_same _ _ _ _
    have kf : ∀ a, a < 6 ∨ (90 ≤ a ∧ a ≠ 100) → K0 a = I a := fun a q => (ke a (by omega)).trans (v2 a (by omega))
    have k2 : K0 2 = I 2 := kf 2 (by omega)
    have zk : ¬ K0 2 (i + 3) = 0 := by rw [k2]; exact zb
    have hMk : K0 91 = μ := (kf 91 (by omega)).trans hM
    have hKk : MS K0 := by unfold MS at *; rw [kf 90 (by omega)]; exact hK
    refine WP.go 1 ?_
    show WP (Call d) 299 P X (1002, [some (vr (some 2) 102), some (vr (some 3) 9), some (vr (some 90) 10), some (vr (some 100) 13), some (vi i), some (vi 0), x6], [], (K0, H), c + 2, s + 12)
    refine WP.go 16 (Exists.intro (i + 1) (And.intro (wrp_a (by omega) (by omega)) (And.intro (And.intro rfl (And.intro (show 0 ≤ i + 1 from by omega) (show i + 1 < H.2.1 2 from by rw [hl2]; omega))) (Exists.intro (i + 2) (And.intro (wrp_a (by omega) (by omega)) (And.intro (And.intro rfl (And.intro (show 0 ≤ i + 2 from by omega) (show i + 2 < H.2.1 2 from by rw [hl2]; omega))) (Exists.intro (i + 3) (And.intro (wrp_a (by omega) (by omega)) (And.intro (And.intro rfl (And.intro (show 0 ≤ i + 3 from by omega) (show i + 3 < H.2.1 2 from by rw [hl2]; omega))) (?_))))))))))
    show WP (Call d) 299 P X (1018, [some (vr (some 2) 102), some (vr (some 3) 9), some (vr (some 90) 10), some (vr (some 100) 13), some (vi i), some (vi 0), x6], [vi (K0 2 (i + 3)), vi (K0 2 (i + 2)), vi (K0 2 (i + 1)), vr (some 90) 10], (K0, H), c + 2, s + 12)
    refine WP.go 1 (And.intro (fun q => absurd q zk) (fun _ => ?_))
    show WP (Call d) 299 P X (1019, [some (vr (some 2) 102), some (vr (some 3) 9), some (vr (some 90) 10), some (vr (some 100) 13), some (vi i), some (vi 0), x6], [vi (K0 2 (i + 2)), vi (K0 2 (i + 1)), vr (some 90) 10], (K0, H), c + 2, s + 12)
    refine WP.go 2 (?_)
    show WP (Call d) 299 P X (1022, [some (vr (some 2) 102), some (vr (some 3) 9), some (vr (some 90) 10), some (vr (some 100) 13), some (vi i), some (vi 0), x6], [vi 1, vi (K0 2 (i + 2)), vi (K0 2 (i + 1)), vr (some 90) 10], (K0, H), c + 2, s + 12)
    rw [k2]
    refine WP.go 1 (And.intro (And.intro (show c + 2 + 0 ≤ 601024 from by omega) (show s + 12 + 0 ≤ 7293034 from by omega)) (And.intro rfl (?_)))
    show Call d 243 [vr (some 90) 10, vi (I 2 (i + 1)), vi (I 2 (i + 2)), vi 1] (K0, H) _ _
    refine s_12_name (by omega) hS hMk hV hKk (fun q => False.elim (by omega)) (fun r0 K r2 r3 => ?_)
    show WP (Call d) 299 P X (1023, [some (vr (some 2) 102), some (vr (some 3) 9), some (vr (some 90) 10), some (vr (some 100) 13), some (vi i), some (vi 0), x6], [vi (NAM μ (AN μ) ((I 2 (i + 1))) ((I 2 (i + 2))) (1))], (K, H), c + 2 + 0, s + 12 + 0)
    have kk : K 100 = K0 100 := r2.1 100 (by omega)
    have k100 : K 100 0 = NAM μ (AN μ) ((I 2 (i + 1))) ((I 2 (i + 2))) (1) := by rw [kk, k1]
    rw [hK0] at r2
    refine WP.go 3 (And.intro (And.intro (show c + 2 + 0 + 0 ≤ 601024 from by omega) (show s + 12 + 0 + 0 ≤ 7293034 from by omega)) (And.intro rfl ?_))
    show Call d 176 [vr (some 90) 10] (K, H) _ _
    refine s_12_thrown (by omega) hS ?_
    show WP (Call d) 299 P X (1026, [some (vr (some 2) 102), some (vr (some 3) 9), some (vr (some 90) 10), some (vr (some 100) 13), some (vi i), some (vi 0), some (vi (NAM μ (AN μ) ((I 2 (i + 1))) ((I 2 (i + 2))) (1)))], [vi (K 90 0)], (K, H), c + 2 + 0 + 0, s + 12 + 0 + 0)
    refine WP.go 2 (And.intro (fun _ => ?_) (fun q => absurd r3 q))
    refine WP.go 2 (And.intro (fun q => absurd rfl q) (fun _ => ?_))
    refine WP.go 7 (And.intro (And.intro rfl (And.intro (by decide) (show (0 : Int) < H.2.1 100 from by rw [hl100]; decide))) (And.intro (fun _ => ?_) (fun q => absurd (zcmp_e k100) q)))
    refine WP.go 1 ?_
    show WP (Call d) 299 P X (1689, [some (vr (some 2) 102), some (vr (some 3) 9), some (vr (some 90) 10), some (vr (some 100) 13), some (vi i), some (vi 0), some (vi (NAM μ (AN μ) ((I 2 (i + 1))) ((I 2 (i + 2))) (1)))], [], (K, H), c + 2 + 0 + 0, s + 12 + 0 + 0)
    exact h _ _ _ _ _ _ (hI.q v2 r2) ⟨by omega, by omega⟩
  ·
    show WP (Call d) 299 P X (1001, [some (vr (some 2) 102), some (vr (some 3) 9), some (vr (some 90) 10), some (vr (some 100) 13), some (vi i), x5, x6], [vi 1], (I, H), c + 2, s + 12)
    obtain ⟨K0, hK0⟩ : ∃ K0, K0 = I := ⟨_, rfl⟩
    rw [← hK0]
    have kf : ∀ a, a < 6 ∨ (90 ≤ a ∧ a ≠ 100) → K0 a = I a := fun a q => by rw [hK0]
    have k2 : K0 2 = I 2 := kf 2 (by omega)
    have zk : ¬ K0 2 (i + 3) = 0 := by rw [k2]; exact zb
    have hMk : K0 91 = μ := (kf 91 (by omega)).trans hM
    have hKk : MS K0 := by unfold MS at *; rw [kf 90 (by omega)]; exact hK
    refine WP.go 1 ?_
    show WP (Call d) 299 P X (1002, [some (vr (some 2) 102), some (vr (some 3) 9), some (vr (some 90) 10), some (vr (some 100) 13), some (vi i), some (vi 1), x6], [], (K0, H), c + 2, s + 12)
    refine WP.go 16 (Exists.intro (i + 1) (And.intro (wrp_a (by omega) (by omega)) (And.intro (And.intro rfl (And.intro (show 0 ≤ i + 1 from by omega) (show i + 1 < H.2.1 2 from by rw [hl2]; omega))) (Exists.intro (i + 2) (And.intro (wrp_a (by omega) (by omega)) (And.intro (And.intro rfl (And.intro (show 0 ≤ i + 2 from by omega) (show i + 2 < H.2.1 2 from by rw [hl2]; omega))) (Exists.intro (i + 3) (And.intro (wrp_a (by omega) (by omega)) (And.intro (And.intro rfl (And.intro (show 0 ≤ i + 3 from by omega) (show i + 3 < H.2.1 2 from by rw [hl2]; omega))) (?_))))))))))
    show WP (Call d) 299 P X (1018, [some (vr (some 2) 102), some (vr (some 3) 9), some (vr (some 90) 10), some (vr (some 100) 13), some (vi i), some (vi 1), x6], [vi (K0 2 (i + 3)), vi (K0 2 (i + 2)), vi (K0 2 (i + 1)), vr (some 90) 10], (K0, H), c + 2, s + 12)
    refine WP.go 1 (And.intro (fun q => absurd q zk) (fun _ => ?_))
    show WP (Call d) 299 P X (1019, [some (vr (some 2) 102), some (vr (some 3) 9), some (vr (some 90) 10), some (vr (some 100) 13), some (vi i), some (vi 1), x6], [vi (K0 2 (i + 2)), vi (K0 2 (i + 1)), vr (some 90) 10], (K0, H), c + 2, s + 12)
    refine WP.go 2 (?_)
    show WP (Call d) 299 P X (1022, [some (vr (some 2) 102), some (vr (some 3) 9), some (vr (some 90) 10), some (vr (some 100) 13), some (vi i), some (vi 1), x6], [vi 1, vi (K0 2 (i + 2)), vi (K0 2 (i + 1)), vr (some 90) 10], (K0, H), c + 2, s + 12)
    rw [k2]
    refine WP.go 1 (And.intro (And.intro (show c + 2 + 0 ≤ 601024 from by omega) (show s + 12 + 0 ≤ 7293034 from by omega)) (And.intro rfl (?_)))
    show Call d 243 [vr (some 90) 10, vi (I 2 (i + 1)), vi (I 2 (i + 2)), vi 1] (K0, H) _ _
    refine s_12_name (by omega) hS hMk hV hKk (fun r0 K v r3 r4 r5 => ?_) (fun q => False.elim (by omega))
    show WP (Call d) 299 P X (1023, [some (vr (some 2) 102), some (vr (some 3) 9), some (vr (some 90) 10), some (vr (some 100) 13), some (vi i), some (vi 1), x6], [vi (v)], (K, H), c + 2 + 0, s + 12 + 0)
    rw [hK0] at r4
    refine WP.go 3 (And.intro (And.intro (show c + 2 + 0 + 0 ≤ 601024 from by omega) (show s + 12 + 0 + 0 ≤ 7293034 from by omega)) (And.intro rfl ?_))
    show Call d 176 [vr (some 90) 10] (K, H) _ _
    refine s_12_thrown (by omega) hS ?_
    show WP (Call d) 299 P X (1026, [some (vr (some 2) 102), some (vr (some 3) 9), some (vr (some 90) 10), some (vr (some 100) 13), some (vi i), some (vi 1), some (vi (v))], [vi (K 90 0)], (K, H), c + 2 + 0 + 0, s + 12 + 0 + 0)
    refine WP.go 2 (And.intro (fun _ => ?_) (fun q => absurd r5 q))
    refine WP.go 2 (And.intro (fun _ => ?_) (fun q => absurd q (by decide)))
    refine WP.go 1 ?_
    show WP (Call d) 299 P X (1689, [some (vr (some 2) 102), some (vr (some 3) 9), some (vr (some 90) 10), some (vr (some 100) 13), some (vi i), some (vi 1), some (vi (v))], [], (K, H), c + 2 + 0 + 0, s + 12 + 0 + 0)
    exact h _ _ _ _ _ _ (hI.m (CF.rf I) r4) ⟨by omega, by omega⟩

set_option maxRecDepth 20000 in
theorem law_36t {d : Nat} {P : Option qV → qH → Prop} {X : Nat → qH → Prop} {I : qI} {H : qS} {f : Int → Int} {L i : Int} {x5 x6 : Option qV} {c s : Nat} (hd : 100 ≤ d) (hI : LI f L i I H) (hi : 0 ≤ i ∧ i + 6 ≤ L ∧ L ≤ 3072) (hc : (c : Int) ≤ 1000 + 100 * i ∧ (s : Int) ≤ 40000 + 2000 * i) (h : ∀ (K : qI) (G : qS) (y5 y6 : Option qV) (c9 s9 : Nat), LI f L (i + 6) K G → (c9 ≤ c + 90 ∧ s9 ≤ s + 9000) → WP (Call d) 299 P X (1689, [some (vr (some 2) 102), some (vr (some 3) 9), some (vr (some 90) 10), some (vr (some 100) 13), some (vi i), y5, y6], [], (K, G), c9, s9)) (zb : I 2 (i + 3) = 0) :
    WP (Call d) 299 P X (1490, [some (vr (some 2) 102), some (vr (some 3) 9), some (vr (some 90) 10), some (vr (some 100) 13), some (vi i), x5, x6], [], (I, H), c, s) := by
  obtain ⟨hS, hX, ⟨hf2, hl2⟩, ⟨hT, hV, hO, hLL⟩, ⟨hC, hC2⟩, hK, hKP, hTP, hFX, h10⟩ := id hI
  have hl100 := hS.l100
  generalize hM : I 91 = μ at *
  refine WP.go 16 (Exists.intro (i + 1) (And.intro (wrp_a (by omega) (by omega)) (And.intro (And.intro rfl (And.intro (show 0 ≤ i + 1 from by omega) (show i + 1 < H.2.1 2 from by rw [hl2]; omega))) (Exists.intro (i + 2) (And.intro (wrp_a (by omega) (by omega)) (And.intro (And.intro rfl (And.intro (show 0 ≤ i + 2 from by omega) (show i + 2 < H.2.1 2 from by rw [hl2]; omega))) (Exists.intro (i + 3) (And.intro (wrp_a (by omega) (by omega)) (And.intro (And.intro rfl (And.intro (show 0 ≤ i + 3 from by omega) (show i + 3 < H.2.1 2 from by rw [hl2]; omega))) (?_))))))))))
  show WP (Call d) 299 P X (1506, [some (vr (some 2) 102), some (vr (some 3) 9), some (vr (some 90) 10), some (vr (some 100) 13), some (vi i), x5, x6], [vi (I 2 (i + 3)), vi (I 2 (i + 2)), vi (I 2 (i + 1)), vr (some 3) 9], (I, H), c, s)
  refine WP.go 1 (And.intro (fun _ => ?_) (fun q => absurd zb q))
  show WP (Call d) 299 P X (1509, [some (vr (some 2) 102), some (vr (some 3) 9), some (vr (some 90) 10), some (vr (some 100) 13), some (vi i), x5, x6], [vi (I 2 (i + 2)), vi (I 2 (i + 1)), vr (some 3) 9], (I, H), c, s)
  refine WP.go 3 (And.intro (And.intro (show c + 3 ≤ 601024 from by omega) (show s + 18 ≤ 7293034 from by omega)) (And.intro rfl (?_)))
  show Call d 296 [vr (some 3) 9, vi (I 2 (i + 1)), vi (I 2 (i + 2)), vi 0, vr (some 100) 13] (I, H) _ _
  refine hl_paper (by omega) hS hX hT hV (fun v1 J v2 => ?_) (fun v1 => ?_) (fun v1 => ?_)
  ·
    show WP (Call d) 299 P X (1512, [some (vr (some 2) 102), some (vr (some 3) 9), some (vr (some 90) 10), some (vr (some 100) 13), some (vi i), x5, x6], [vi 0], (upI J 100 0 (1 + μ 7), H), c + 3, s + 18)
    obtain ⟨K0, hK0⟩ : ∃ K0, K0 = upI J 100 0 (1 + μ 7) := ⟨_, rfl⟩
    rw [← hK0]
    have ke : ∀ a, a ≠ 100 → K0 a = J a := fun a q => by rw [hK0]; exact upI_cell q
    have k1 : K0 100 0 = 1 + μ 7 := by rw [hK0]; exact upI_same _ _ _ _
    have kf : ∀ a, a < 6 ∨ (90 ≤ a ∧ a ≠ 100) → K0 a = I a := fun a q => (ke a (by omega)).trans (v2.1 a (by omega))
    have k2 : K0 2 = I 2 := kf 2 (by omega)
    have zk : K0 2 (i + 3) = 0 := by rw [k2]; exact zb
    have hMk : K0 91 = μ := (kf 91 (by omega)).trans hM
    have hKk : MS K0 := by unfold MS at *; rw [kf 90 (by omega)]; exact hK
    refine WP.go 1 ?_
    show WP (Call d) 299 P X (1513, [some (vr (some 2) 102), some (vr (some 3) 9), some (vr (some 90) 10), some (vr (some 100) 13), some (vi i), some (vi 0), x6], [], (K0, H), c + 3, s + 18)
    refine WP.go 16 (Exists.intro (i + 1) (And.intro (wrp_a (by omega) (by omega)) (And.intro (And.intro rfl (And.intro (show 0 ≤ i + 1 from by omega) (show i + 1 < H.2.1 2 from by rw [hl2]; omega))) (Exists.intro (i + 2) (And.intro (wrp_a (by omega) (by omega)) (And.intro (And.intro rfl (And.intro (show 0 ≤ i + 2 from by omega) (show i + 2 < H.2.1 2 from by rw [hl2]; omega))) (Exists.intro (i + 3) (And.intro (wrp_a (by omega) (by omega)) (And.intro (And.intro rfl (And.intro (show 0 ≤ i + 3 from by omega) (show i + 3 < H.2.1 2 from by rw [hl2]; omega))) (?_))))))))))
    show WP (Call d) 299 P X (1529, [some (vr (some 2) 102), some (vr (some 3) 9), some (vr (some 90) 10), some (vr (some 100) 13), some (vi i), some (vi 0), x6], [vi (K0 2 (i + 3)), vi (K0 2 (i + 2)), vi (K0 2 (i + 1)), vr (some 90) 10], (K0, H), c + 3, s + 18)
    refine WP.go 1 (And.intro (fun _ => ?_) (fun q => absurd zk q))
    show WP (Call d) 299 P X (1532, [some (vr (some 2) 102), some (vr (some 3) 9), some (vr (some 90) 10), some (vr (some 100) 13), some (vi i), some (vi 0), x6], [vi (K0 2 (i + 2)), vi (K0 2 (i + 1)), vr (some 90) 10], (K0, H), c + 3, s + 18)
    refine WP.go 1 (?_)
    show WP (Call d) 299 P X (1533, [some (vr (some 2) 102), some (vr (some 3) 9), some (vr (some 90) 10), some (vr (some 100) 13), some (vi i), some (vi 0), x6], [vi 0, vi (K0 2 (i + 2)), vi (K0 2 (i + 1)), vr (some 90) 10], (K0, H), c + 3, s + 18)
    rw [k2]
    refine WP.go 1 (And.intro (And.intro (show c + 3 + 0 ≤ 601024 from by omega) (show s + 18 + 0 ≤ 7293034 from by omega)) (And.intro rfl (?_)))
    show Call d 261 [vr (some 90) 10, vi (I 2 (i + 1)), vi (I 2 (i + 2)), vi 0] (K0, H) _ _
    refine s_12_paper (by omega) hS hMk hV hKk (fun q => False.elim (by omega)) (fun q => False.elim (by omega)) (fun r0 K r2 r3 => ?_)
    show WP (Call d) 299 P X (1534, [some (vr (some 2) 102), some (vr (some 3) 9), some (vr (some 90) 10), some (vr (some 100) 13), some (vi i), some (vi 0), x6], [vi (1 + μ 7)], (K, H), c + 3 + 0, s + 18 + 0)
    have kk : K 100 = K0 100 := r2.1 100 (by omega)
    have k100 : K 100 0 = 1 + μ 7 := by rw [kk, k1]
    rw [hK0] at r2
    refine WP.go 3 (And.intro (And.intro (show c + 3 + 0 + 0 ≤ 601024 from by omega) (show s + 18 + 0 + 0 ≤ 7293034 from by omega)) (And.intro rfl ?_))
    show Call d 176 [vr (some 90) 10] (K, H) _ _
    refine s_12_thrown (by omega) hS ?_
    show WP (Call d) 299 P X (1537, [some (vr (some 2) 102), some (vr (some 3) 9), some (vr (some 90) 10), some (vr (some 100) 13), some (vi i), some (vi 0), some (vi (1 + μ 7))], [vi (K 90 0)], (K, H), c + 3 + 0 + 0, s + 18 + 0 + 0)
    refine WP.go 2 (And.intro (fun _ => ?_) (fun q => absurd r3 q))
    refine WP.go 2 (And.intro (fun q => absurd rfl q) (fun _ => ?_))
    refine WP.go 7 (And.intro (And.intro rfl (And.intro (by decide) (show (0 : Int) < H.2.1 100 from by rw [hl100]; decide))) (And.intro (fun _ => ?_) (fun q => absurd (zcmp_e k100) q)))
    refine WP.go 1 ?_
    show WP (Call d) 299 P X (1689, [some (vr (some 2) 102), some (vr (some 3) 9), some (vr (some 90) 10), some (vr (some 100) 13), some (vi i), some (vi 0), some (vi (1 + μ 7))], [], (K, H), c + 3 + 0 + 0, s + 18 + 0 + 0)
    exact h _ _ _ _ _ _ (hI.u v2 r2 (IM_uPap hV ⟨v1.1, (by unfold lv; split <;> omega), v1.2⟩) (by rw [hM]; exact (uPap_hi hV v1.2).1) (by rw [hM]; exact (uPap_hi hV v1.2).2)) ⟨by omega, by omega⟩
  ·
    show WP (Call d) 299 P X (1512, [some (vr (some 2) 102), some (vr (some 3) 9), some (vr (some 90) 10), some (vr (some 100) 13), some (vi i), x5, x6], [vi 1], (I, H), c + 3, s + 18)
    obtain ⟨K0, hK0⟩ : ∃ K0, K0 = I := ⟨_, rfl⟩
    rw [← hK0]
    have kf : ∀ a, a < 6 ∨ (90 ≤ a ∧ a ≠ 100) → K0 a = I a := fun a q => by rw [hK0]
    have k2 : K0 2 = I 2 := kf 2 (by omega)
    have zk : K0 2 (i + 3) = 0 := by rw [k2]; exact zb
    have hMk : K0 91 = μ := (kf 91 (by omega)).trans hM
    have hKk : MS K0 := by unfold MS at *; rw [kf 90 (by omega)]; exact hK
    refine WP.go 1 ?_
    show WP (Call d) 299 P X (1513, [some (vr (some 2) 102), some (vr (some 3) 9), some (vr (some 90) 10), some (vr (some 100) 13), some (vi i), some (vi 1), x6], [], (K0, H), c + 3, s + 18)
    refine WP.go 16 (Exists.intro (i + 1) (And.intro (wrp_a (by omega) (by omega)) (And.intro (And.intro rfl (And.intro (show 0 ≤ i + 1 from by omega) (show i + 1 < H.2.1 2 from by rw [hl2]; omega))) (Exists.intro (i + 2) (And.intro (wrp_a (by omega) (by omega)) (And.intro (And.intro rfl (And.intro (show 0 ≤ i + 2 from by omega) (show i + 2 < H.2.1 2 from by rw [hl2]; omega))) (Exists.intro (i + 3) (And.intro (wrp_a (by omega) (by omega)) (And.intro (And.intro rfl (And.intro (show 0 ≤ i + 3 from by omega) (show i + 3 < H.2.1 2 from by rw [hl2]; omega))) (?_))))))))))
    show WP (Call d) 299 P X (1529, [some (vr (some 2) 102), some (vr (some 3) 9), some (vr (some 90) 10), some (vr (some 100) 13), some (vi i), some (vi 1), x6], [vi (K0 2 (i + 3)), vi (K0 2 (i + 2)), vi (K0 2 (i + 1)), vr (some 90) 10], (K0, H), c + 3, s + 18)
    refine WP.go 1 (And.intro (fun _ => ?_) (fun q => absurd zk q))
    show WP (Call d) 299 P X (1532, [some (vr (some 2) 102), some (vr (some 3) 9), some (vr (some 90) 10), some (vr (some 100) 13), some (vi i), some (vi 1), x6], [vi (K0 2 (i + 2)), vi (K0 2 (i + 1)), vr (some 90) 10], (K0, H), c + 3, s + 18)
    refine WP.go 1 (?_)
    show WP (Call d) 299 P X (1533, [some (vr (some 2) 102), some (vr (some 3) 9), some (vr (some 90) 10), some (vr (some 100) 13), some (vi i), some (vi 1), x6], [vi 0, vi (K0 2 (i + 2)), vi (K0 2 (i + 1)), vr (some 90) 10], (K0, H), c + 3, s + 18)
    rw [k2]
    refine WP.go 1 (And.intro (And.intro (show c + 3 + 0 ≤ 601024 from by omega) (show s + 18 + 0 ≤ 7293034 from by omega)) (And.intro rfl (?_)))
    show Call d 261 [vr (some 90) 10, vi (I 2 (i + 1)), vi (I 2 (i + 2)), vi 0] (K0, H) _ _
    refine s_12_paper (by omega) hS hMk hV hKk (fun r0 K v r3 r4 r5 => ?_) (fun q => False.elim (by omega)) (fun q => False.elim (by omega))
    show WP (Call d) 299 P X (1534, [some (vr (some 2) 102), some (vr (some 3) 9), some (vr (some 90) 10), some (vr (some 100) 13), some (vi i), some (vi 1), x6], [vi (v)], (K, H), c + 3 + 0, s + 18 + 0)
    rw [hK0] at r4
    refine WP.go 3 (And.intro (And.intro (show c + 3 + 0 + 0 ≤ 601024 from by omega) (show s + 18 + 0 + 0 ≤ 7293034 from by omega)) (And.intro rfl ?_))
    show Call d 176 [vr (some 90) 10] (K, H) _ _
    refine s_12_thrown (by omega) hS ?_
    show WP (Call d) 299 P X (1537, [some (vr (some 2) 102), some (vr (some 3) 9), some (vr (some 90) 10), some (vr (some 100) 13), some (vi i), some (vi 1), some (vi (v))], [vi (K 90 0)], (K, H), c + 3 + 0 + 0, s + 18 + 0 + 0)
    refine WP.go 2 (And.intro (fun _ => ?_) (fun q => absurd r5 q))
    refine WP.go 2 (And.intro (fun _ => ?_) (fun q => absurd q (by decide)))
    refine WP.go 1 ?_
    show WP (Call d) 299 P X (1689, [some (vr (some 2) 102), some (vr (some 3) 9), some (vr (some 90) 10), some (vr (some 100) 13), some (vi i), some (vi 1), some (vi (v))], [], (K, H), c + 3 + 0 + 0, s + 18 + 0 + 0)
    exact h _ _ _ _ _ _ (hI.m (CF.rf I) r4) ⟨by omega, by omega⟩
  ·
    show WP (Call d) 299 P X (1512, [some (vr (some 2) 102), some (vr (some 3) 9), some (vr (some 90) 10), some (vr (some 100) 13), some (vi i), x5, x6], [vi 2], (I, H), c + 3, s + 18)
    obtain ⟨K0, hK0⟩ : ∃ K0, K0 = I := ⟨_, rfl⟩
    rw [← hK0]
    have kf : ∀ a, a < 6 ∨ (90 ≤ a ∧ a ≠ 100) → K0 a = I a := fun a q => by rw [hK0]
    have k2 : K0 2 = I 2 := kf 2 (by omega)
    have zk : K0 2 (i + 3) = 0 := by rw [k2]; exact zb
    have hMk : K0 91 = μ := (kf 91 (by omega)).trans hM
    have hKk : MS K0 := by unfold MS at *; rw [kf 90 (by omega)]; exact hK
    refine WP.go 1 ?_
    show WP (Call d) 299 P X (1513, [some (vr (some 2) 102), some (vr (some 3) 9), some (vr (some 90) 10), some (vr (some 100) 13), some (vi i), some (vi 2), x6], [], (K0, H), c + 3, s + 18)
    refine WP.go 16 (Exists.intro (i + 1) (And.intro (wrp_a (by omega) (by omega)) (And.intro (And.intro rfl (And.intro (show 0 ≤ i + 1 from by omega) (show i + 1 < H.2.1 2 from by rw [hl2]; omega))) (Exists.intro (i + 2) (And.intro (wrp_a (by omega) (by omega)) (And.intro (And.intro rfl (And.intro (show 0 ≤ i + 2 from by omega) (show i + 2 < H.2.1 2 from by rw [hl2]; omega))) (Exists.intro (i + 3) (And.intro (wrp_a (by omega) (by omega)) (And.intro (And.intro rfl (And.intro (show 0 ≤ i + 3 from by omega) (show i + 3 < H.2.1 2 from by rw [hl2]; omega))) (?_))))))))))
    show WP (Call d) 299 P X (1529, [some (vr (some 2) 102), some (vr (some 3) 9), some (vr (some 90) 10), some (vr (some 100) 13), some (vi i), some (vi 2), x6], [vi (K0 2 (i + 3)), vi (K0 2 (i + 2)), vi (K0 2 (i + 1)), vr (some 90) 10], (K0, H), c + 3, s + 18)
    refine WP.go 1 (And.intro (fun _ => ?_) (fun q => absurd zk q))
    show WP (Call d) 299 P X (1532, [some (vr (some 2) 102), some (vr (some 3) 9), some (vr (some 90) 10), some (vr (some 100) 13), some (vi i), some (vi 2), x6], [vi (K0 2 (i + 2)), vi (K0 2 (i + 1)), vr (some 90) 10], (K0, H), c + 3, s + 18)
    refine WP.go 1 (?_)
    show WP (Call d) 299 P X (1533, [some (vr (some 2) 102), some (vr (some 3) 9), some (vr (some 90) 10), some (vr (some 100) 13), some (vi i), some (vi 2), x6], [vi 0, vi (K0 2 (i + 2)), vi (K0 2 (i + 1)), vr (some 90) 10], (K0, H), c + 3, s + 18)
    rw [k2]
    refine WP.go 1 (And.intro (And.intro (show c + 3 + 0 ≤ 601024 from by omega) (show s + 18 + 0 ≤ 7293034 from by omega)) (And.intro rfl (?_)))
    show Call d 261 [vr (some 90) 10, vi (I 2 (i + 1)), vi (I 2 (i + 2)), vi 0] (K0, H) _ _
    refine s_12_paper (by omega) hS hMk hV hKk (fun q => False.elim (by omega)) (fun r0 K v r3 r4 r5 => ?_) (fun q => False.elim (by omega))
    show WP (Call d) 299 P X (1534, [some (vr (some 2) 102), some (vr (some 3) 9), some (vr (some 90) 10), some (vr (some 100) 13), some (vi i), some (vi 2), x6], [vi (v)], (K, H), c + 3 + 0, s + 18 + 0)
    rw [hK0] at r4
    refine WP.go 3 (And.intro (And.intro (show c + 3 + 0 + 0 ≤ 601024 from by omega) (show s + 18 + 0 + 0 ≤ 7293034 from by omega)) (And.intro rfl ?_))
    show Call d 176 [vr (some 90) 10] (K, H) _ _
    refine s_12_thrown (by omega) hS ?_
    show WP (Call d) 299 P X (1537, [some (vr (some 2) 102), some (vr (some 3) 9), some (vr (some 90) 10), some (vr (some 100) 13), some (vi i), some (vi 2), some (vi (v))], [vi (K 90 0)], (K, H), c + 3 + 0 + 0, s + 18 + 0 + 0)
    refine WP.go 2 (And.intro (fun _ => ?_) (fun q => absurd r5 q))
    refine WP.go 2 (And.intro (fun _ => ?_) (fun q => absurd q (by decide)))
    refine WP.go 1 ?_
    show WP (Call d) 299 P X (1689, [some (vr (some 2) 102), some (vr (some 3) 9), some (vr (some 90) 10), some (vr (some 100) 13), some (vi i), some (vi 2), some (vi (v))], [], (K, H), c + 3 + 0 + 0, s + 18 + 0 + 0)
    exact h _ _ _ _ _ _ (hI.m (CF.rf I) r4) ⟨by omega, by omega⟩

set_option maxRecDepth 20000 in
theorem law_36f {d : Nat} {P : Option qV → qH → Prop} {X : Nat → qH → Prop} {I : qI} {H : qS} {f : Int → Int} {L i : Int} {x5 x6 : Option qV} {c s : Nat} (hd : 100 ≤ d) (hI : LI f L i I H) (hi : 0 ≤ i ∧ i + 6 ≤ L ∧ L ≤ 3072) (hc : (c : Int) ≤ 1000 + 100 * i ∧ (s : Int) ≤ 40000 + 2000 * i) (h : ∀ (K : qI) (G : qS) (y5 y6 : Option qV) (c9 s9 : Nat), LI f L (i + 6) K G → (c9 ≤ c + 90 ∧ s9 ≤ s + 9000) → WP (Call d) 299 P X (1689, [some (vr (some 2) 102), some (vr (some 3) 9), some (vr (some 90) 10), some (vr (some 100) 13), some (vi i), y5, y6], [], (K, G), c9, s9)) (zb : ¬ I 2 (i + 3) = 0) :
    WP (Call d) 299 P X (1490, [some (vr (some 2) 102), some (vr (some 3) 9), some (vr (some 90) 10), some (vr (some 100) 13), some (vi i), x5, x6], [], (I, H), c, s) := by
  obtain ⟨hS, hX, ⟨hf2, hl2⟩, ⟨hT, hV, hO, hLL⟩, ⟨hC, hC2⟩, hK, hKP, hTP, hFX, h10⟩ := id hI
  have hl100 := hS.l100
  generalize hM : I 91 = μ at *
  refine WP.go 16 (Exists.intro (i + 1) (And.intro (wrp_a (by omega) (by omega)) (And.intro (And.intro rfl (And.intro (show 0 ≤ i + 1 from by omega) (show i + 1 < H.2.1 2 from by rw [hl2]; omega))) (Exists.intro (i + 2) (And.intro (wrp_a (by omega) (by omega)) (And.intro (And.intro rfl (And.intro (show 0 ≤ i + 2 from by omega) (show i + 2 < H.2.1 2 from by rw [hl2]; omega))) (Exists.intro (i + 3) (And.intro (wrp_a (by omega) (by omega)) (And.intro (And.intro rfl (And.intro (show 0 ≤ i + 3 from by omega) (show i + 3 < H.2.1 2 from by rw [hl2]; omega))) (?_))))))))))
  show WP (Call d) 299 P X (1506, [some (vr (some 2) 102), some (vr (some 3) 9), some (vr (some 90) 10), some (vr (some 100) 13), some (vi i), x5, x6], [vi (I 2 (i + 3)), vi (I 2 (i + 2)), vi (I 2 (i + 1)), vr (some 3) 9], (I, H), c, s)
  refine WP.go 1 (And.intro (fun q => absurd q zb) (fun _ => ?_))
  show WP (Call d) 299 P X (1507, [some (vr (some 2) 102), some (vr (some 3) 9), some (vr (some 90) 10), some (vr (some 100) 13), some (vi i), x5, x6], [vi (I 2 (i + 2)), vi (I 2 (i + 1)), vr (some 3) 9], (I, H), c, s)
  refine WP.go 4 (And.intro (And.intro (show c + 3 ≤ 601024 from by omega) (show s + 18 ≤ 7293034 from by omega)) (And.intro rfl (?_)))
  show Call d 296 [vr (some 3) 9, vi (I 2 (i + 1)), vi (I 2 (i + 2)), vi 1, vr (some 100) 13] (I, H) _ _
  refine hl_paper (by omega) hS hX hT hV (fun v1 J v2 => ?_) (fun v1 => ?_) (fun v1 => ?_)
  ·
    show WP (Call d) 299 P X (1512, [some (vr (some 2) 102), some (vr (some 3) 9), some (vr (some 90) 10), some (vr (some 100) 13), some (vi i), x5, x6], [vi 0], (upI J 100 0 (1 + μ 7), H), c + 3, s + 18)
    obtain ⟨K0, hK0⟩ : ∃ K0, K0 = upI J 100 0 (1 + μ 7) := ⟨_, rfl⟩
    rw [← hK0]
    have ke : ∀ a, a ≠ 100 → K0 a = J a := fun a q => by rw [hK0]; exact upI_cell q
    have k1 : K0 100 0 = 1 + μ 7 := by rw [hK0]; exact upI_same _ _ _ _
    have kf : ∀ a, a < 6 ∨ (90 ≤ a ∧ a ≠ 100) → K0 a = I a := fun a q => (ke a (by omega)).trans (v2.1 a (by omega))
    have k2 : K0 2 = I 2 := kf 2 (by omega)
    have zk : ¬ K0 2 (i + 3) = 0 := by rw [k2]; exact zb
    have hMk : K0 91 = μ := (kf 91 (by omega)).trans hM
    have hKk : MS K0 := by unfold MS at *; rw [kf 90 (by omega)]; exact hK
    refine WP.go 1 ?_
    show WP (Call d) 299 P X (1513, [some (vr (some 2) 102), some (vr (some 3) 9), some (vr (some 90) 10), some (vr (some 100) 13), some (vi i), some (vi 0), x6], [], (K0, H), c + 3, s + 18)
    refine WP.go 16 (Exists.intro (i + 1) (And.intro (wrp_a (by omega) (by omega)) (And.intro (And.intro rfl (And.intro (show 0 ≤ i + 1 from by omega) (show i + 1 < H.2.1 2 from by rw [hl2]; omega))) (Exists.intro (i + 2) (And.intro (wrp_a (by omega) (by omega)) (And.intro (And.intro rfl (And.intro (show 0 ≤ i + 2 from by omega) (show i + 2 < H.2.1 2 from by rw [hl2]; omega))) (Exists.intro (i + 3) (And.intro (wrp_a (by omega) (by omega)) (And.intro (And.intro rfl (And.intro (show 0 ≤ i + 3 from by omega) (show i + 3 < H.2.1 2 from by rw [hl2]; omega))) (?_))))))))))
    show WP (Call d) 299 P X (1529, [some (vr (some 2) 102), some (vr (some 3) 9), some (vr (some 90) 10), some (vr (some 100) 13), some (vi i), some (vi 0), x6], [vi (K0 2 (i + 3)), vi (K0 2 (i + 2)), vi (K0 2 (i + 1)), vr (some 90) 10], (K0, H), c + 3, s + 18)
    refine WP.go 1 (And.intro (fun q => absurd q zk) (fun _ => ?_))
    show WP (Call d) 299 P X (1530, [some (vr (some 2) 102), some (vr (some 3) 9), some (vr (some 90) 10), some (vr (some 100) 13), some (vi i), some (vi 0), x6], [vi (K0 2 (i + 2)), vi (K0 2 (i + 1)), vr (some 90) 10], (K0, H), c + 3, s + 18)
    refine WP.go 2 (?_)
    show WP (Call d) 299 P X (1533, [some (vr (some 2) 102), some (vr (some 3) 9), some (vr (some 90) 10), some (vr (some 100) 13), some (vi i), some (vi 0), x6], [vi 1, vi (K0 2 (i + 2)), vi (K0 2 (i + 1)), vr (some 90) 10], (K0, H), c + 3, s + 18)
    rw [k2]
    refine WP.go 1 (And.intro (And.intro (show c + 3 + 0 ≤ 601024 from by omega) (show s + 18 + 0 ≤ 7293034 from by omega)) (And.intro rfl (?_)))
    show Call d 261 [vr (some 90) 10, vi (I 2 (i + 1)), vi (I 2 (i + 2)), vi 1] (K0, H) _ _
    refine s_12_paper (by omega) hS hMk hV hKk (fun q => False.elim (by omega)) (fun q => False.elim (by omega)) (fun r0 K r2 r3 => ?_)
    show WP (Call d) 299 P X (1534, [some (vr (some 2) 102), some (vr (some 3) 9), some (vr (some 90) 10), some (vr (some 100) 13), some (vi i), some (vi 0), x6], [vi (1 + μ 7)], (K, H), c + 3 + 0, s + 18 + 0)
    have kk : K 100 = K0 100 := r2.1 100 (by omega)
    have k100 : K 100 0 = 1 + μ 7 := by rw [kk, k1]
    rw [hK0] at r2
    refine WP.go 3 (And.intro (And.intro (show c + 3 + 0 + 0 ≤ 601024 from by omega) (show s + 18 + 0 + 0 ≤ 7293034 from by omega)) (And.intro rfl ?_))
    show Call d 176 [vr (some 90) 10] (K, H) _ _
    refine s_12_thrown (by omega) hS ?_
    show WP (Call d) 299 P X (1537, [some (vr (some 2) 102), some (vr (some 3) 9), some (vr (some 90) 10), some (vr (some 100) 13), some (vi i), some (vi 0), some (vi (1 + μ 7))], [vi (K 90 0)], (K, H), c + 3 + 0 + 0, s + 18 + 0 + 0)
    refine WP.go 2 (And.intro (fun _ => ?_) (fun q => absurd r3 q))
    refine WP.go 2 (And.intro (fun q => absurd rfl q) (fun _ => ?_))
    refine WP.go 7 (And.intro (And.intro rfl (And.intro (by decide) (show (0 : Int) < H.2.1 100 from by rw [hl100]; decide))) (And.intro (fun _ => ?_) (fun q => absurd (zcmp_e k100) q)))
    refine WP.go 1 ?_
    show WP (Call d) 299 P X (1689, [some (vr (some 2) 102), some (vr (some 3) 9), some (vr (some 90) 10), some (vr (some 100) 13), some (vi i), some (vi 0), some (vi (1 + μ 7))], [], (K, H), c + 3 + 0 + 0, s + 18 + 0 + 0)
    exact h _ _ _ _ _ _ (hI.u v2 r2 (IM_uPap hV ⟨v1.1, (by unfold lv; split <;> omega), v1.2⟩) (by rw [hM]; exact (uPap_hi hV v1.2).1) (by rw [hM]; exact (uPap_hi hV v1.2).2)) ⟨by omega, by omega⟩
  ·
    show WP (Call d) 299 P X (1512, [some (vr (some 2) 102), some (vr (some 3) 9), some (vr (some 90) 10), some (vr (some 100) 13), some (vi i), x5, x6], [vi 1], (I, H), c + 3, s + 18)
    obtain ⟨K0, hK0⟩ : ∃ K0, K0 = I := ⟨_, rfl⟩
    rw [← hK0]
    have kf : ∀ a, a < 6 ∨ (90 ≤ a ∧ a ≠ 100) → K0 a = I a := fun a q => by rw [hK0]
    have k2 : K0 2 = I 2 := kf 2 (by omega)
    have zk : ¬ K0 2 (i + 3) = 0 := by rw [k2]; exact zb
    have hMk : K0 91 = μ := (kf 91 (by omega)).trans hM
    have hKk : MS K0 := by unfold MS at *; rw [kf 90 (by omega)]; exact hK
    refine WP.go 1 ?_
    show WP (Call d) 299 P X (1513, [some (vr (some 2) 102), some (vr (some 3) 9), some (vr (some 90) 10), some (vr (some 100) 13), some (vi i), some (vi 1), x6], [], (K0, H), c + 3, s + 18)
    refine WP.go 16 (Exists.intro (i + 1) (And.intro (wrp_a (by omega) (by omega)) (And.intro (And.intro rfl (And.intro (show 0 ≤ i + 1 from by omega) (show i + 1 < H.2.1 2 from by rw [hl2]; omega))) (Exists.intro (i + 2) (And.intro (wrp_a (by omega) (by omega)) (And.intro (And.intro rfl (And.intro (show 0 ≤ i + 2 from by omega) (show i + 2 < H.2.1 2 from by rw [hl2]; omega))) (Exists.intro (i + 3) (And.intro (wrp_a (by omega) (by omega)) (And.intro (And.intro rfl (And.intro (show 0 ≤ i + 3 from by omega) (show i + 3 < H.2.1 2 from by rw [hl2]; omega))) (?_))))))))))
    show WP (Call d) 299 P X (1529, [some (vr (some 2) 102), some (vr (some 3) 9), some (vr (some 90) 10), some (vr (some 100) 13), some (vi i), some (vi 1), x6], [vi (K0 2 (i + 3)), vi (K0 2 (i + 2)), vi (K0 2 (i + 1)), vr (some 90) 10], (K0, H), c + 3, s + 18)
    refine WP.go 1 (And.intro (fun q => absurd q zk) (fun _ => ?_))
    show WP (Call d) 299 P X (1530, [some (vr (some 2) 102), some (vr (some 3) 9), some (vr (some 90) 10), some (vr (some 100) 13), some (vi i), some (vi 1), x6], [vi (K0 2 (i + 2)), vi (K0 2 (i + 1)), vr (some 90) 10], (K0, H), c + 3, s + 18)
    refine WP.go 2 (?_)
    show WP (Call d) 299 P X (1533, [some (vr (some 2) 102), some (vr (some 3) 9), some (vr (some 90) 10), some (vr (some 100) 13), some (vi i), some (vi 1), x6], [vi 1, vi (K0 2 (i + 2)), vi (K0 2 (i + 1)), vr (some 90) 10], (K0, H), c + 3, s + 18)
    rw [k2]
    refine WP.go 1 (And.intro (And.intro (show c + 3 + 0 ≤ 601024 from by omega) (show s + 18 + 0 ≤ 7293034 from by omega)) (And.intro rfl (?_)))
    show Call d 261 [vr (some 90) 10, vi (I 2 (i + 1)), vi (I 2 (i + 2)), vi 1] (K0, H) _ _
    refine s_12_paper (by omega) hS hMk hV hKk (fun r0 K v r3 r4 r5 => ?_) (fun q => False.elim (by omega)) (fun q => False.elim (by omega))
    show WP (Call d) 299 P X (1534, [some (vr (some 2) 102), some (vr (some 3) 9), some (vr (some 90) 10), some (vr (some 100) 13), some (vi i), some (vi 1), x6], [vi (v)], (K, H), c + 3 + 0, s + 18 + 0)
    rw [hK0] at r4
    refine WP.go 3 (And.intro (And.intro (show c + 3 + 0 + 0 ≤ 601024 from by omega) (show s + 18 + 0 + 0 ≤ 7293034 from by omega)) (And.intro rfl ?_))
    show Call d 176 [vr (some 90) 10] (K, H) _ _
    refine s_12_thrown (by omega) hS ?_
    show WP (Call d) 299 P X (1537, [some (vr (some 2) 102), some (vr (some 3) 9), some (vr (some 90) 10), some (vr (some 100) 13), some (vi i), some (vi 1), some (vi (v))], [vi (K 90 0)], (K, H), c + 3 + 0 + 0, s + 18 + 0 + 0)
    refine WP.go 2 (And.intro (fun _ => ?_) (fun q => absurd r5 q))
    refine WP.go 2 (And.intro (fun _ => ?_) (fun q => absurd q (by decide)))
    refine WP.go 1 ?_
    show WP (Call d) 299 P X (1689, [some (vr (some 2) 102), some (vr (some 3) 9), some (vr (some 90) 10), some (vr (some 100) 13), some (vi i), some (vi 1), some (vi (v))], [], (K, H), c + 3 + 0 + 0, s + 18 + 0 + 0)
    exact h _ _ _ _ _ _ (hI.m (CF.rf I) r4) ⟨by omega, by omega⟩
  ·
    show WP (Call d) 299 P X (1512, [some (vr (some 2) 102), some (vr (some 3) 9), some (vr (some 90) 10), some (vr (some 100) 13), some (vi i), x5, x6], [vi 2], (I, H), c + 3, s + 18)
    obtain ⟨K0, hK0⟩ : ∃ K0, K0 = I := ⟨_, rfl⟩
    rw [← hK0]
    have kf : ∀ a, a < 6 ∨ (90 ≤ a ∧ a ≠ 100) → K0 a = I a := fun a q => by rw [hK0]
    have k2 : K0 2 = I 2 := kf 2 (by omega)
    have zk : ¬ K0 2 (i + 3) = 0 := by rw [k2]; exact zb
    have hMk : K0 91 = μ := (kf 91 (by omega)).trans hM
    have hKk : MS K0 := by unfold MS at *; rw [kf 90 (by omega)]; exact hK
    refine WP.go 1 ?_
    show WP (Call d) 299 P X (1513, [some (vr (some 2) 102), some (vr (some 3) 9), some (vr (some 90) 10), some (vr (some 100) 13), some (vi i), some (vi 2), x6], [], (K0, H), c + 3, s + 18)
    refine WP.go 16 (Exists.intro (i + 1) (And.intro (wrp_a (by omega) (by omega)) (And.intro (And.intro rfl (And.intro (show 0 ≤ i + 1 from by omega) (show i + 1 < H.2.1 2 from by rw [hl2]; omega))) (Exists.intro (i + 2) (And.intro (wrp_a (by omega) (by omega)) (And.intro (And.intro rfl (And.intro (show 0 ≤ i + 2 from by omega) (show i + 2 < H.2.1 2 from by rw [hl2]; omega))) (Exists.intro (i + 3) (And.intro (wrp_a (by omega) (by omega)) (And.intro (And.intro rfl (And.intro (show 0 ≤ i + 3 from by omega) (show i + 3 < H.2.1 2 from by rw [hl2]; omega))) (?_))))))))))
    show WP (Call d) 299 P X (1529, [some (vr (some 2) 102), some (vr (some 3) 9), some (vr (some 90) 10), some (vr (some 100) 13), some (vi i), some (vi 2), x6], [vi (K0 2 (i + 3)), vi (K0 2 (i + 2)), vi (K0 2 (i + 1)), vr (some 90) 10], (K0, H), c + 3, s + 18)
    refine WP.go 1 (And.intro (fun q => absurd q zk) (fun _ => ?_))
    show WP (Call d) 299 P X (1530, [some (vr (some 2) 102), some (vr (some 3) 9), some (vr (some 90) 10), some (vr (some 100) 13), some (vi i), some (vi 2), x6], [vi (K0 2 (i + 2)), vi (K0 2 (i + 1)), vr (some 90) 10], (K0, H), c + 3, s + 18)
    refine WP.go 2 (?_)
    show WP (Call d) 299 P X (1533, [some (vr (some 2) 102), some (vr (some 3) 9), some (vr (some 90) 10), some (vr (some 100) 13), some (vi i), some (vi 2), x6], [vi 1, vi (K0 2 (i + 2)), vi (K0 2 (i + 1)), vr (some 90) 10], (K0, H), c + 3, s + 18)
    rw [k2]
    refine WP.go 1 (And.intro (And.intro (show c + 3 + 0 ≤ 601024 from by omega) (show s + 18 + 0 ≤ 7293034 from by omega)) (And.intro rfl (?_)))
    show Call d 261 [vr (some 90) 10, vi (I 2 (i + 1)), vi (I 2 (i + 2)), vi 1] (K0, H) _ _
    refine s_12_paper (by omega) hS hMk hV hKk (fun q => False.elim (by omega)) (fun r0 K v r3 r4 r5 => ?_) (fun q => False.elim (by omega))
    show WP (Call d) 299 P X (1534, [some (vr (some 2) 102), some (vr (some 3) 9), some (vr (some 90) 10), some (vr (some 100) 13), some (vi i), some (vi 2), x6], [vi (v)], (K, H), c + 3 + 0, s + 18 + 0)
    rw [hK0] at r4
    refine WP.go 3 (And.intro (And.intro (show c + 3 + 0 + 0 ≤ 601024 from by omega) (show s + 18 + 0 + 0 ≤ 7293034 from by omega)) (And.intro rfl ?_))
    show Call d 176 [vr (some 90) 10] (K, H) _ _
    refine s_12_thrown (by omega) hS ?_
    show WP (Call d) 299 P X (1537, [some (vr (some 2) 102), some (vr (some 3) 9), some (vr (some 90) 10), some (vr (some 100) 13), some (vi i), some (vi 2), some (vi (v))], [vi (K 90 0)], (K, H), c + 3 + 0 + 0, s + 18 + 0 + 0)
    refine WP.go 2 (And.intro (fun _ => ?_) (fun q => absurd r5 q))
    refine WP.go 2 (And.intro (fun _ => ?_) (fun q => absurd q (by decide)))
    refine WP.go 1 ?_
    show WP (Call d) 299 P X (1689, [some (vr (some 2) 102), some (vr (some 3) 9), some (vr (some 90) 10), some (vr (some 100) 13), some (vi i), some (vi 2), some (vi (v))], [], (K, H), c + 3 + 0 + 0, s + 18 + 0 + 0)
    exact h _ _ _ _ _ _ (hI.m (CF.rf I) r4) ⟨by omega, by omega⟩

