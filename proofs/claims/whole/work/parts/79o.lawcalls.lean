set_option maxRecDepth 20000 in
theorem law_8 {d : Nat} {P : Option qV → qH → Prop} {X : Nat → qH → Prop} {I : qI} {H : qS} {f : Int → Int} {L i : Int} {x5 x6 : Option qV} {c s : Nat} (hd : 100 ≤ d) (hI : LI f L i I H) (hi : 0 ≤ i ∧ i + 6 ≤ L ∧ L ≤ 3072) (hc : (c : Int) ≤ 1000 + 100 * i ∧ (s : Int) ≤ 40000 + 2000 * i) (h : ∀ (K : qI) (G : qS) (y5 y6 : Option qV) (c9 s9 : Nat), LI f L (i + 6) K G → (c9 ≤ c + 90 ∧ s9 ≤ s + 9000) → WP (Call d) 299 P X (1689, [some (vr (some 2) 102), some (vr (some 3) 9), some (vr (some 90) 10), some (vr (some 100) 13), some (vi i), y5, y6], [], (K, G), c9, s9)) :
    WP (Call d) 299 P X (243, [some (vr (some 2) 102), some (vr (some 3) 9), some (vr (some 90) 10), some (vr (some 100) 13), some (vi i), x5, x6], [], (I, H), c, s) := by
  obtain ⟨hS, hX, ⟨hf2, hl2⟩, ⟨hT, hV, hO, hLL⟩, ⟨hC, hC2⟩, hK, hKP, hTP, hFX, h10⟩ := id hI
  have hl100 := hS.l100
  generalize hM : I 91 = μ at *
  refine WP.go 13 (Exists.intro (i + 1) (And.intro (wrp_a (by omega) (by omega)) (And.intro (And.intro rfl (And.intro (show 0 ≤ i + 1 from by omega) (show i + 1 < H.2.1 2 from by rw [hl2]; omega))) (Exists.intro (i + 2) (And.intro (wrp_a (by omega) (by omega)) (And.intro (And.intro rfl (And.intro (show 0 ≤ i + 2 from by omega) (show i + 2 < H.2.1 2 from by rw [hl2]; omega))) (And.intro (And.intro (show c + 2 ≤ 601024 from by omega) (show s + 12 ≤ 7293034 from by omega)) (And.intro rfl (?_)))))))))
  show Call d 272 [vr (some 3) 9, vi (I 2 (i + 1)), vi (I 2 (i + 2)), vr (some 100) 13] (I, H) _ _
  refine hl_rope (by omega) hS hX hT hV (fun v1 J v2 => ?_) (fun v1 => ?_) (fun v1 => ?_)
  ·
    show WP (Call d) 299 P X (256, [some (vr (some 2) 102), some (vr (some 3) 9), some (vr (some 90) 10), some (vr (some 100) 13), some (vi i), x5, x6], [vi 0], (upI J 100 0 (μ (230 + ((I 2 (i + 1))))), H), c + 2, s + 12)
    obtain ⟨K0, hK0⟩ : ∃ K0, K0 = upI J 100 0 (μ (230 + ((I 2 (i + 1))))) := ⟨_, rfl⟩
    rw [← hK0]
    have ke : ∀ a, a ≠ 100 → K0 a = J a := fun a q => by rw [hK0]; exact upI_cell q
    have k1 : K0 100 0 = μ (230 + ((I 2 (i + 1)))) := by rw [hK0]; exact upI_same _ _ _ _
    have kf : ∀ a, a < 6 ∨ (90 ≤ a ∧ a ≠ 100) → K0 a = I a := fun a q => (ke a (by omega)).trans (v2.1 a (by omega))
    have k2 : K0 2 = I 2 := kf 2 (by omega)
    have hMk : K0 91 = μ := (kf 91 (by omega)).trans hM
    have hKk : MS K0 := by unfold MS at *; rw [kf 90 (by omega)]; exact hK
    refine WP.go 1 ?_
    show WP (Call d) 299 P X (257, [some (vr (some 2) 102), some (vr (some 3) 9), some (vr (some 90) 10), some (vr (some 100) 13), some (vi i), some (vi 0), x6], [], (K0, H), c + 2, s + 12)
    refine WP.go 11 (Exists.intro (i + 1) (And.intro (wrp_a (by omega) (by omega)) (And.intro (And.intro rfl (And.intro (show 0 ≤ i + 1 from by omega) (show i + 1 < H.2.1 2 from by rw [hl2]; omega))) (Exists.intro (i + 2) (And.intro (wrp_a (by omega) (by omega)) (And.intro (And.intro rfl (And.intro (show 0 ≤ i + 2 from by omega) (show i + 2 < H.2.1 2 from by rw [hl2]; omega))) (?_)))))))
    show WP (Call d) 299 P X (268, [some (vr (some 2) 102), some (vr (some 3) 9), some (vr (some 90) 10), some (vr (some 100) 13), some (vi i), some (vi 0), x6], [vi (K0 2 (i + 2)), vi (K0 2 (i + 1)), vr (some 90) 10], (K0, H), c + 2, s + 12)
    rw [k2]
    refine WP.go 1 (And.intro (And.intro (show c + 2 + 0 ≤ 601024 from by omega) (show s + 12 + 0 ≤ 7293034 from by omega)) (And.intro rfl (?_)))
    show Call d 214 [vr (some 90) 10, vi (I 2 (i + 1)), vi (I 2 (i + 2))] (K0, H) _ _
    refine s_12_rope (by omega) hS hMk hV hKk (fun q => False.elim (by omega)) (fun q => False.elim (by omega)) (fun r0 K r2 r3 => ?_)
    show WP (Call d) 299 P X (269, [some (vr (some 2) 102), some (vr (some 3) 9), some (vr (some 90) 10), some (vr (some 100) 13), some (vi i), some (vi 0), x6], [vi (μ (230 + ((I 2 (i + 1)))))], (K, H), c + 2 + 0, s + 12 + 0)
    have kk : K 100 = K0 100 := r2.1 100 (by omega)
    have k100 : K 100 0 = μ (230 + ((I 2 (i + 1)))) := by rw [kk, k1]
    rw [hK0] at r2
    refine WP.go 3 (And.intro (And.intro (show c + 2 + 0 + 0 ≤ 601024 from by omega) (show s + 12 + 0 + 0 ≤ 7293034 from by omega)) (And.intro rfl ?_))
    show Call d 176 [vr (some 90) 10] (K, H) _ _
    refine s_12_thrown (by omega) hS ?_
    show WP (Call d) 299 P X (272, [some (vr (some 2) 102), some (vr (some 3) 9), some (vr (some 90) 10), some (vr (some 100) 13), some (vi i), some (vi 0), some (vi (μ (230 + ((I 2 (i + 1))))))], [vi (K 90 0)], (K, H), c + 2 + 0 + 0, s + 12 + 0 + 0)
    refine WP.go 2 (And.intro (fun _ => ?_) (fun q => absurd r3 q))
    refine WP.go 2 (And.intro (fun q => absurd rfl q) (fun _ => ?_))
    refine WP.go 7 (And.intro (And.intro rfl (And.intro (by decide) (show (0 : Int) < H.2.1 100 from by rw [hl100]; decide))) (And.intro (fun _ => ?_) (fun q => absurd (zcmp_e k100) q)))
    refine WP.go 1 ?_
    show WP (Call d) 299 P X (1689, [some (vr (some 2) 102), some (vr (some 3) 9), some (vr (some 90) 10), some (vr (some 100) 13), some (vi i), some (vi 0), some (vi (μ (230 + ((I 2 (i + 1))))))], [], (K, H), c + 2 + 0 + 0, s + 12 + 0 + 0)
    exact h _ _ _ _ _ _ (hI.u v2 r2 (IM_uRope hV v1) (by rw [hM]; exact (uRope_hi hV v1).1) (by rw [hM]; exact (uRope_hi hV v1).2)) ⟨by omega, by omega⟩
  ·
    show WP (Call d) 299 P X (256, [some (vr (some 2) 102), some (vr (some 3) 9), some (vr (some 90) 10), some (vr (some 100) 13), some (vi i), x5, x6], [vi 1], (I, H), c + 2, s + 12)
    obtain ⟨K0, hK0⟩ : ∃ K0, K0 = I := ⟨_, rfl⟩
    rw [← hK0]
    have kf : ∀ a, a < 6 ∨ (90 ≤ a ∧ a ≠ 100) → K0 a = I a := fun a q => by rw [hK0]
    have k2 : K0 2 = I 2 := kf 2 (by omega)
    have hMk : K0 91 = μ := (kf 91 (by omega)).trans hM
    have hKk : MS K0 := by unfold MS at *; rw [kf 90 (by omega)]; exact hK
    refine WP.go 1 ?_
    show WP (Call d) 299 P X (257, [some (vr (some 2) 102), some (vr (some 3) 9), some (vr (some 90) 10), some (vr (some 100) 13), some (vi i), some (vi 1), x6], [], (K0, H), c + 2, s + 12)
    refine WP.go 11 (Exists.intro (i + 1) (And.intro (wrp_a (by omega) (by omega)) (And.intro (And.intro rfl (And.intro (show 0 ≤ i + 1 from by omega) (show i + 1 < H.2.1 2 from by rw [hl2]; omega))) (Exists.intro (i + 2) (And.intro (wrp_a (by omega) (by omega)) (And.intro (And.intro rfl (And.intro (show 0 ≤ i + 2 from by omega) (show i + 2 < H.2.1 2 from by rw [hl2]; omega))) (?_)))))))
    show WP (Call d) 299 P X (268, [some (vr (some 2) 102), some (vr (some 3) 9), some (vr (some 90) 10), some (vr (some 100) 13), some (vi i), some (vi 1), x6], [vi (K0 2 (i + 2)), vi (K0 2 (i + 1)), vr (some 90) 10], (K0, H), c + 2, s + 12)
    rw [k2]
    refine WP.go 1 (And.intro (And.intro (show c + 2 + 0 ≤ 601024 from by omega) (show s + 12 + 0 ≤ 7293034 from by omega)) (And.intro rfl (?_)))
    show Call d 214 [vr (some 90) 10, vi (I 2 (i + 1)), vi (I 2 (i + 2))] (K0, H) _ _
    refine s_12_rope (by omega) hS hMk hV hKk (fun r0 K v r3 r4 r5 => ?_) (fun q => False.elim (by omega)) (fun q => False.elim (by omega))
    show WP (Call d) 299 P X (269, [some (vr (some 2) 102), some (vr (some 3) 9), some (vr (some 90) 10), some (vr (some 100) 13), some (vi i), some (vi 1), x6], [vi (v)], (K, H), c + 2 + 0, s + 12 + 0)
    rw [hK0] at r4
    refine WP.go 3 (And.intro (And.intro (show c + 2 + 0 + 0 ≤ 601024 from by omega) (show s + 12 + 0 + 0 ≤ 7293034 from by omega)) (And.intro rfl ?_))
    show Call d 176 [vr (some 90) 10] (K, H) _ _
    refine s_12_thrown (by omega) hS ?_
    show WP (Call d) 299 P X (272, [some (vr (some 2) 102), some (vr (some 3) 9), some (vr (some 90) 10), some (vr (some 100) 13), some (vi i), some (vi 1), some (vi (v))], [vi (K 90 0)], (K, H), c + 2 + 0 + 0, s + 12 + 0 + 0)
    refine WP.go 2 (And.intro (fun _ => ?_) (fun q => absurd r5 q))
    refine WP.go 2 (And.intro (fun _ => ?_) (fun q => absurd q (by decide)))
    refine WP.go 1 ?_
    show WP (Call d) 299 P X (1689, [some (vr (some 2) 102), some (vr (some 3) 9), some (vr (some 90) 10), some (vr (some 100) 13), some (vi i), some (vi 1), some (vi (v))], [], (K, H), c + 2 + 0 + 0, s + 12 + 0 + 0)
    exact h _ _ _ _ _ _ (hI.m (CF.rf I) r4) ⟨by omega, by omega⟩
  ·
    show WP (Call d) 299 P X (256, [some (vr (some 2) 102), some (vr (some 3) 9), some (vr (some 90) 10), some (vr (some 100) 13), some (vi i), x5, x6], [vi 2], (I, H), c + 2, s + 12)
    obtain ⟨K0, hK0⟩ : ∃ K0, K0 = I := ⟨_, rfl⟩
    rw [← hK0]
    have kf : ∀ a, a < 6 ∨ (90 ≤ a ∧ a ≠ 100) → K0 a = I a := fun a q => by rw [hK0]
    have k2 : K0 2 = I 2 := kf 2 (by omega)
    have hMk : K0 91 = μ := (kf 91 (by omega)).trans hM
    have hKk : MS K0 := by unfold MS at *; rw [kf 90 (by omega)]; exact hK
    refine WP.go 1 ?_
    show WP (Call d) 299 P X (257, [some (vr (some 2) 102), some (vr (some 3) 9), some (vr (some 90) 10), some (vr (some 100) 13), some (vi i), some (vi 2), x6], [], (K0, H), c + 2, s + 12)
    refine WP.go 11 (Exists.intro (i + 1) (And.intro (wrp_a (by omega) (by omega)) (And.intro (And.intro rfl (And.intro (show 0 ≤ i + 1 from by omega) (show i + 1 < H.2.1 2 from by rw [hl2]; omega))) (Exists.intro (i + 2) (And.intro (wrp_a (by omega) (by omega)) (And.intro (And.intro rfl (And.intro (show 0 ≤ i + 2 from by omega) (show i + 2 < H.2.1 2 from by rw [hl2]; omega))) (?_)))))))
    show WP (Call d) 299 P X (268, [some (vr (some 2) 102), some (vr (some 3) 9), some (vr (some 90) 10), some (vr (some 100) 13), some (vi i), some (vi 2), x6], [vi (K0 2 (i + 2)), vi (K0 2 (i + 1)), vr (some 90) 10], (K0, H), c + 2, s + 12)
    rw [k2]
    refine WP.go 1 (And.intro (And.intro (show c + 2 + 0 ≤ 601024 from by omega) (show s + 12 + 0 ≤ 7293034 from by omega)) (And.intro rfl (?_)))
    show Call d 214 [vr (some 90) 10, vi (I 2 (i + 1)), vi (I 2 (i + 2))] (K0, H) _ _
    refine s_12_rope (by omega) hS hMk hV hKk (fun q => False.elim (by omega)) (fun r0 K v r3 r4 r5 => ?_) (fun q => False.elim (by omega))
    show WP (Call d) 299 P X (269, [some (vr (some 2) 102), some (vr (some 3) 9), some (vr (some 90) 10), some (vr (some 100) 13), some (vi i), some (vi 2), x6], [vi (v)], (K, H), c + 2 + 0, s + 12 + 0)
    rw [hK0] at r4
    refine WP.go 3 (And.intro (And.intro (show c + 2 + 0 + 0 ≤ 601024 from by omega) (show s + 12 + 0 + 0 ≤ 7293034 from by omega)) (And.intro rfl ?_))
    show Call d 176 [vr (some 90) 10] (K, H) _ _
    refine s_12_thrown (by omega) hS ?_
    show WP (Call d) 299 P X (272, [some (vr (some 2) 102), some (vr (some 3) 9), some (vr (some 90) 10), some (vr (some 100) 13), some (vi i), some (vi 2), some (vi (v))], [vi (K 90 0)], (K, H), c + 2 + 0 + 0, s + 12 + 0 + 0)
    refine WP.go 2 (And.intro (fun _ => ?_) (fun q => absurd r5 q))
    refine WP.go 2 (And.intro (fun _ => ?_) (fun q => absurd q (by decide)))
    refine WP.go 1 ?_
    show WP (Call d) 299 P X (1689, [some (vr (some 2) 102), some (vr (some 3) 9), some (vr (some 90) 10), some (vr (some 100) 13), some (vi i), some (vi 2), some (vi (v))], [], (K, H), c + 2 + 0 + 0, s + 12 + 0 + 0)
    exact h _ _ _ _ _ _ (hI.m (CF.rf I) r4) ⟨by omega, by omega⟩

set_option maxRecDepth 20000 in
theorem law_14 {d : Nat} {P : Option qV → qH → Prop} {X : Nat → qH → Prop} {I : qI} {H : qS} {f : Int → Int} {L i : Int} {x5 x6 : Option qV} {c s : Nat} (hd : 100 ≤ d) (hI : LI f L i I H) (hi : 0 ≤ i ∧ i + 6 ≤ L ∧ L ≤ 3072) (hc : (c : Int) ≤ 1000 + 100 * i ∧ (s : Int) ≤ 40000 + 2000 * i) (h : ∀ (K : qI) (G : qS) (y5 y6 : Option qV) (c9 s9 : Nat), LI f L (i + 6) K G → (c9 ≤ c + 90 ∧ s9 ≤ s + 9000) → WP (Call d) 299 P X (1689, [some (vr (some 2) 102), some (vr (some 3) 9), some (vr (some 90) 10), some (vr (some 100) 13), some (vi i), y5, y6], [], (K, G), c9, s9)) :
    WP (Call d) 299 P X (546, [some (vr (some 2) 102), some (vr (some 3) 9), some (vr (some 90) 10), some (vr (some 100) 13), some (vi i), x5, x6], [], (I, H), c, s) := by
  obtain ⟨hS, hX, ⟨hf2, hl2⟩, ⟨hT, hV, hO, hLL⟩, ⟨hC, hC2⟩, hK, hKP, hTP, hFX, h10⟩ := id hI
  have hl100 := hS.l100
  generalize hM : I 91 = μ at *
  refine WP.go 23 (Exists.intro (i + 1) (And.intro (wrp_a (by omega) (by omega)) (And.intro (And.intro rfl (And.intro (show 0 ≤ i + 1 from by omega) (show i + 1 < H.2.1 2 from by rw [hl2]; omega))) (Exists.intro (i + 2) (And.intro (wrp_a (by omega) (by omega)) (And.intro (And.intro rfl (And.intro (show 0 ≤ i + 2 from by omega) (show i + 2 < H.2.1 2 from by rw [hl2]; omega))) (Exists.intro (i + 3) (And.intro (wrp_a (by omega) (by omega)) (And.intro (And.intro rfl (And.intro (show 0 ≤ i + 3 from by omega) (show i + 3 < H.2.1 2 from by rw [hl2]; omega))) (Exists.intro (i + 4) (And.intro (wrp_a (by omega) (by omega)) (And.intro (And.intro rfl (And.intro (show 0 ≤ i + 4 from by omega) (show i + 4 < H.2.1 2 from by rw [hl2]; omega))) (And.intro (And.intro (show c + 6 ≤ 601024 from by omega) (show s + 36 ≤ 7293034 from by omega)) (And.intro rfl (?_)))))))))))))))
  show Call d 278 [vr (some 3) 9, vi (I 2 (i + 1)), vi (I 2 (i + 2)), vi (I 2 (i + 3)), vi (I 2 (i + 4)), vr (some 100) 13] (I, H) _ _
  refine hl_let (by omega) hS hX hT hV (fun v1 J v2 => ?_) (fun v1 => ?_) (fun v1 => ?_) (fun v1 => ?_)
  ·
    show WP (Call d) 299 P X (569, [some (vr (some 2) 102), some (vr (some 3) 9), some (vr (some 90) 10), some (vr (some 100) 13), some (vi i), x5, x6], [vi 0], (upI J 100 0 (μ 4), H), c + 6, s + 36)
    obtain ⟨K0, hK0⟩ : ∃ K0, K0 = upI J 100 0 (μ 4) := ⟨_, rfl⟩
    rw [← hK0]
    have ke : ∀ a, a ≠ 100 → K0 a = J a := fun a q => by rw [hK0]; exact upI_cell q
    have k1 : K0 100 0 = μ 4 := by rw [hK0]; exact upI_same _ _ _ _
    have kf : ∀ a, a < 6 ∨ (90 ≤ a ∧ a ≠ 100) → K0 a = I a := fun a q => (ke a (by omega)).trans (v2.1 a (by omega))
    have k2 : K0 2 = I 2 := kf 2 (by omega)
    have hMk : K0 91 = μ := (kf 91 (by omega)).trans hM
    have hKk : MS K0 := by unfold MS at *; rw [kf 90 (by omega)]; exact hK
    refine WP.go 1 ?_
    show WP (Call d) 299 P X (570, [some (vr (some 2) 102), some (vr (some 3) 9), some (vr (some 90) 10), some (vr (some 100) 13), some (vi i), some (vi 0), x6], [], (K0, H), c + 6, s + 36)
    refine WP.go 21 (Exists.intro (i + 1) (And.intro (wrp_a (by omega) (by omega)) (And.intro (And.intro rfl (And.intro (show 0 ≤ i + 1 from by omega) (show i + 1 < H.2.1 2 from by rw [hl2]; omega))) (Exists.intro (i + 2) (And.intro (wrp_a (by omega) (by omega)) (And.intro (And.intro rfl (And.intro (show 0 ≤ i + 2 from by omega) (show i + 2 < H.2.1 2 from by rw [hl2]; omega))) (Exists.intro (i + 3) (And.intro (wrp_a (by omega) (by omega)) (And.intro (And.intro rfl (And.intro (show 0 ≤ i + 3 from by omega) (show i + 3 < H.2.1 2 from by rw [hl2]; omega))) (Exists.intro (i + 4) (And.intro (wrp_a (by omega) (by omega)) (And.intro (And.intro rfl (And.intro (show 0 ≤ i + 4 from by omega) (show i + 4 < H.2.1 2 from by rw [hl2]; omega))) (?_)))))))))))))
    show WP (Call d) 299 P X (591, [some (vr (some 2) 102), some (vr (some 3) 9), some (vr (some 90) 10), some (vr (some 100) 13), some (vi i), some (vi 0), x6], [vi (K0 2 (i + 4)), vi (K0 2 (i + 3)), vi (K0 2 (i + 2)), vi (K0 2 (i + 1)), vr (some 90) 10], (K0, H), c + 6, s + 36)
    rw [k2]
    refine WP.go 1 (And.intro (And.intro (show c + 6 + 0 ≤ 601024 from by omega) (show s + 36 + 0 ≤ 7293034 from by omega)) (And.intro rfl (?_)))
    show Call d 231 [vr (some 90) 10, vi (I 2 (i + 1)), vi (I 2 (i + 2)), vi (I 2 (i + 3)), vi (I 2 (i + 4))] (K0, H) _ _
    refine s_12_let (by omega) hS hMk hV hKk (fun q => False.elim (by omega)) (fun q => False.elim (by omega)) (fun q => False.elim (by omega)) (fun r0 K r2 r3 => ?_)
    show WP (Call d) 299 P X (592, [some (vr (some 2) 102), some (vr (some 3) 9), some (vr (some 90) 10), some (vr (some 100) 13), some (vi i), some (vi 0), x6], [vi (μ 4)], (K, H), c + 6 + 0, s + 36 + 0)
    have kk : K 100 = K0 100 := r2.1 100 (by omega)
    have k100 : K 100 0 = μ 4 := by rw [kk, k1]
    rw [hK0] at r2
    refine WP.go 3 (And.intro (And.intro (show c + 6 + 0 + 0 ≤ 601024 from by omega) (show s + 36 + 0 + 0 ≤ 7293034 from by omega)) (And.intro rfl ?_))
    show Call d 176 [vr (some 90) 10] (K, H) _ _
    refine s_12_thrown (by omega) hS ?_
    show WP (Call d) 299 P X (595, [some (vr (some 2) 102), some (vr (some 3) 9), some (vr (some 90) 10), some (vr (some 100) 13), some (vi i), some (vi 0), some (vi (μ 4))], [vi (K 90 0)], (K, H), c + 6 + 0 + 0, s + 36 + 0 + 0)
    refine WP.go 2 (And.intro (fun _ => ?_) (fun q => absurd r3 q))
    refine WP.go 2 (And.intro (fun q => absurd rfl q) (fun _ => ?_))
    refine WP.go 7 (And.intro (And.intro rfl (And.intro (by decide) (show (0 : Int) < H.2.1 100 from by rw [hl100]; decide))) (And.intro (fun _ => ?_) (fun q => absurd (zcmp_e k100) q)))
    refine WP.go 1 ?_
    show WP (Call d) 299 P X (1689, [some (vr (some 2) 102), some (vr (some 3) 9), some (vr (some 90) 10), some (vr (some 100) 13), some (vi i), some (vi 0), some (vi (μ 4))], [], (K, H), c + 6 + 0 + 0, s + 36 + 0 + 0)
    exact h _ _ _ _ _ _ (hI.u v2 r2 (IM_uLet hV v1) (by rw [hM]; exact (uLet_hi hV v1.2.2).1) (by rw [hM]; exact (uLet_hi hV v1.2.2).2)) ⟨by omega, by omega⟩
  ·
    show WP (Call d) 299 P X (569, [some (vr (some 2) 102), some (vr (some 3) 9), some (vr (some 90) 10), some (vr (some 100) 13), some (vi i), x5, x6], [vi 1], (I, H), c + 6, s + 36)
    obtain ⟨K0, hK0⟩ : ∃ K0, K0 = I := ⟨_, rfl⟩
    rw [← hK0]
    have kf : ∀ a, a < 6 ∨ (90 ≤ a ∧ a ≠ 100) → K0 a = I a := fun a q => by rw [hK0]
    have k2 : K0 2 = I 2 := kf 2 (by omega)
    have hMk : K0 91 = μ := (kf 91 (by omega)).trans hM
    have hKk : MS K0 := by unfold MS at *; rw [kf 90 (by omega)]; exact hK
    refine WP.go 1 ?_
    show WP (Call d) 299 P X (570, [some (vr (some 2) 102), some (vr (some 3) 9), some (vr (some 90) 10), some (vr (some 100) 13), some (vi i), some (vi 1), x6], [], (K0, H), c + 6, s + 36)
    refine WP.go 21 (Exists.intro (i + 1) (And.intro (wrp_a (by omega) (by omega)) (And.intro (And.intro rfl (And.intro (show 0 ≤ i + 1 from by omega) (show i + 1 < H.2.1 2 from by rw [hl2]; omega))) (Exists.intro (i + 2) (And.intro (wrp_a (by omega) (by omega)) (And.intro (And.intro rfl (And.intro (show 0 ≤ i + 2 from by omega) (show i + 2 < H.2.1 2 from by rw [hl2]; omega))) (Exists.intro (i + 3) (And.intro (wrp_a (by omega) (by omega)) (And.intro (And.intro rfl (And.intro (show 0 ≤ i + 3 from by omega) (show i + 3 < H.2.1 2 from by rw [hl2]; omega))) (Exists.intro (i + 4) (And.intro (wrp_a (by omega) (by omega)) (And.intro (And.intro rfl (And.intro (show 0 ≤ i + 4 from by omega) (show i + 4 < H.2.1 2 from by rw [hl2]; omega))) (?_)))))))))))))
    show WP (Call d) 299 P X (591, [some (vr (some 2) 102), some (vr (some 3) 9), some (vr (some 90) 10), some (vr (some 100) 13), some (vi i), some (vi 1), x6], [vi (K0 2 (i + 4)), vi (K0 2 (i + 3)), vi (K0 2 (i + 2)), vi (K0 2 (i + 1)), vr (some 90) 10], (K0, H), c + 6, s + 36)
    rw [k2]
    refine WP.go 1 (And.intro (And.intro (show c + 6 + 0 ≤ 601024 from by omega) (show s + 36 + 0 ≤ 7293034 from by omega)) (And.intro rfl (?_)))
    show Call d 231 [vr (some 90) 10, vi (I 2 (i + 1)), vi (I 2 (i + 2)), vi (I 2 (i + 3)), vi (I 2 (i + 4))] (K0, H) _ _
    refine s_12_let (by omega) hS hMk hV hKk (fun r0 K v r3 r4 r5 => ?_) (fun q => False.elim (by omega)) (fun q => False.elim (by omega)) (fun q => False.elim (by omega))
    show WP (Call d) 299 P X (592, [some (vr (some 2) 102), some (vr (some 3) 9), some (vr (some 90) 10), some (vr (some 100) 13), some (vi i), some (vi 1), x6], [vi (v)], (K, H), c + 6 + 0, s + 36 + 0)
    rw [hK0] at r4
    refine WP.go 3 (And.intro (And.intro (show c + 6 + 0 + 0 ≤ 601024 from by omega) (show s + 36 + 0 + 0 ≤ 7293034 from by omega)) (And.intro rfl ?_))
    show Call d 176 [vr (some 90) 10] (K, H) _ _
    refine s_12_thrown (by omega) hS ?_
    show WP (Call d) 299 P X (595, [some (vr (some 2) 102), some (vr (some 3) 9), some (vr (some 90) 10), some (vr (some 100) 13), some (vi i), some (vi 1), some (vi (v))], [vi (K 90 0)], (K, H), c + 6 + 0 + 0, s + 36 + 0 + 0)
    refine WP.go 2 (And.intro (fun _ => ?_) (fun q => absurd r5 q))
    refine WP.go 2 (And.intro (fun _ => ?_) (fun q => absurd q (by decide)))
    refine WP.go 1 ?_
    show WP (Call d) 299 P X (1689, [some (vr (some 2) 102), some (vr (some 3) 9), some (vr (some 90) 10), some (vr (some 100) 13), some (vi i), some (vi 1), some (vi (v))], [], (K, H), c + 6 + 0 + 0, s + 36 + 0 + 0)
    exact h _ _ _ _ _ _ (hI.m (CF.rf I) r4) ⟨by omega, by omega⟩
  ·
    show WP (Call d) 299 P X (569, [some (vr (some 2) 102), some (vr (some 3) 9), some (vr (some 90) 10), some (vr (some 100) 13), some (vi i), x5, x6], [vi 2], (I, H), c + 6, s + 36)
    obtain ⟨K0, hK0⟩ : ∃ K0, K0 = I := ⟨_, rfl⟩
    rw [← hK0]
    have kf : ∀ a, a < 6 ∨ (90 ≤ a ∧ a ≠ 100) → K0 a = I a := fun a q => by rw [hK0]
    have k2 : K0 2 = I 2 := kf 2 (by omega)
    have hMk : K0 91 = μ := (kf 91 (by omega)).trans hM
    have hKk : MS K0 := by unfold MS at *; rw [kf 90 (by omega)]; exact hK
    refine WP.go 1 ?_
    show WP (Call d) 299 P X (570, [some (vr (some 2) 102), some (vr (some 3) 9), some (vr (some 90) 10), some (vr (some 100) 13), some (vi i), some (vi 2), x6], [], (K0, H), c + 6, s + 36)
    refine WP.go 21 (Exists.intro (i + 1) (And.intro (wrp_a (by omega) (by omega)) (And.intro (And.intro rfl (And.intro (show 0 ≤ i + 1 from by omega) (show i + 1 < H.2.1 2 from by rw [hl2]; omega))) (Exists.intro (i + 2) (And.intro (wrp_a (by omega) (by omega)) (And.intro (And.intro rfl (And.intro (show 0 ≤ i + 2 from by omega) (show i + 2 < H.2.1 2 from by rw [hl2]; omega))) (Exists.intro (i + 3) (And.intro (wrp_a (by omega) (by omega)) (And.intro (And.intro rfl (And.intro (show 0 ≤ i + 3 from by omega) (show i + 3 < H.2.1 2 from by rw [hl2]; omega))) (Exists.intro (i + 4) (And.intro (wrp_a (by omega) (by omega)) (And.intro (And.intro rfl (And.intro (show 0 ≤ i + 4 from by omega) (show i + 4 < H.2.1 2 from by rw [hl2]; omega))) (?_)))))))))))))
    show WP (Call d) 299 P X (591, [some (vr (some 2) 102), some (vr (some 3) 9), some (vr (some 90) 10), some (vr (some 100) 13), some (vi i), some (vi 2), x6], [vi (K0 2 (i + 4)), vi (K0 2 (i + 3)), vi (K0 2 (i + 2)), vi (K0 2 (i + 1)), vr (some 90) 10], (K0, H), c + 6, s + 36)
    rw [k2]
    refine WP.go 1 (And.intro (And.intro (show c + 6 + 0 ≤ 601024 from by omega) (show s + 36 + 0 ≤ 7293034 from by omega)) (And.intro rfl (?_)))
    show Call d 231 [vr (some 90) 10, vi (I 2 (i + 1)), vi (I 2 (i + 2)), vi (I 2 (i + 3)), vi (I 2 (i + 4))] (K0, H) _ _
    refine s_12_let (by omega) hS hMk hV hKk (fun q => False.elim (by omega)) (fun r0 K v r3 r4 r5 => ?_) (fun q => False.elim (by omega)) (fun q => False.elim (by omega))
    show WP (Call d) 299 P X (592, [some (vr (some 2) 102), some (vr (some 3) 9), some (vr (some 90) 10), some (vr (some 100) 13), some (vi i), some (vi 2), x6], [vi (v)], (K, H), c + 6 + 0, s + 36 + 0)
    rw [hK0] at r4
    refine WP.go 3 (And.intro (And.intro (show c + 6 + 0 + 0 ≤ 601024 from by omega) (show s + 36 + 0 + 0 ≤ 7293034 from by omega)) (And.intro rfl ?_))
    show Call d 176 [vr (some 90) 10] (K, H) _ _
    refine s_12_thrown (by omega) hS ?_
    show WP (Call d) 299 P X (595, [some (vr (some 2) 102), some (vr (some 3) 9), some (vr (some 90) 10), some (vr (some 100) 13), some (vi i), some (vi 2), some (vi (v))], [vi (K 90 0)], (K, H), c + 6 + 0 + 0, s + 36 + 0 + 0)
    refine WP.go 2 (And.intro (fun _ => ?_) (fun q => absurd r5 q))
    refine WP.go 2 (And.intro (fun _ => ?_) (fun q => absurd q (by decide)))
    refine WP.go 1 ?_
    show WP (Call d) 299 P X (1689, [some (vr (some 2) 102), some (vr (some 3) 9), some (vr (some 90) 10), some (vr (some 100) 13), some (vi i), some (vi 2), some (vi (v))], [], (K, H), c + 6 + 0 + 0, s + 36 + 0 + 0)
    exact h _ _ _ _ _ _ (hI.m (CF.rf I) r4) ⟨by omega, by omega⟩
  ·
    show WP (Call d) 299 P X (569, [some (vr (some 2) 102), some (vr (some 3) 9), some (vr (some 90) 10), some (vr (some 100) 13), some (vi i), x5, x6], [vi 3], (I, H), c + 6, s + 36)
    obtain ⟨K0, hK0⟩ : ∃ K0, K0 = I := ⟨_, rfl⟩
    rw [← hK0]
    have kf : ∀ a, a < 6 ∨ (90 ≤ a ∧ a ≠ 100) → K0 a = I a := fun a q => by rw [hK0]
    have k2 : K0 2 = I 2 := kf 2 (by omega)
    have hMk : K0 91 = μ := (kf 91 (by omega)).trans hM
    have hKk : MS K0 := by unfold MS at *; rw [kf 90 (by omega)]; exact hK
    refine WP.go 1 ?_
    show WP (Call d) 299 P X (570, [some (vr (some 2) 102), some (vr (some 3) 9), some (vr (some 90) 10), some (vr (some 100) 13), some (vi i), some (vi 3), x6], [], (K0, H), c + 6, s + 36)
    refine WP.go 21 (Exists.intro (i + 1) (And.intro (wrp_a (by omega) (by omega)) (And.intro (And.intro rfl (And.intro (show 0 ≤ i + 1 from by omega) (show i + 1 < H.2.1 2 from by rw [hl2]; omega))) (Exists.intro (i + 2) (And.intro (wrp_a (by omega) (by omega)) (And.intro (And.intro rfl (And.intro (show 0 ≤ i + 2 from by omega) (show i + 2 < H.2.1 2 from by rw [hl2]; omega))) (Exists.intro (i + 3) (And.intro (wrp_a (by omega) (by omega)) (And.intro (And.intro rfl (And.intro (show 0 ≤ i + 3 from by omega) (show i + 3 < H.2.1 2 from by rw [hl2]; omega))) (Exists.intro (i + 4) (And.intro (wrp_a (by omega) (by omega)) (And.intro (And.intro rfl (And.intro (show 0 ≤ i + 4 from by omega) (show i + 4 < H.2.1 2 from by rw [hl2]; omega))) (?_)))))))))))))
    show WP (Call d) 299 P X (591, [some (vr (some 2) 102), some (vr (some 3) 9), some (vr (some 90) 10), some (vr (some 100) 13), some (vi i), some (vi 3), x6], [vi (K0 2 (i + 4)), vi (K0 2 (i + 3)), vi (K0 2 (i + 2)), vi (K0 2 (i + 1)), vr (some 90) 10], (K0, H), c + 6, s + 36)
    rw [k2]
    refine WP.go 1 (And.intro (And.intro (show c + 6 + 0 ≤ 601024 from by omega) (show s + 36 + 0 ≤ 7293034 from by omega)) (And.intro rfl (?_)))
    show Call d 231 [vr (some 90) 10, vi (I 2 (i + 1)), vi (I 2 (i + 2)), vi (I 2 (i + 3)), vi (I 2 (i + 4))] (K0, H) _ _
    refine s_12_let (by omega) hS hMk hV hKk (fun q => False.elim (by omega)) (fun q => False.elim (by omega)) (fun r0 K v r3 r4 r5 => ?_) (fun q => False.elim (by omega))
    show WP (Call d) 299 P X (592, [some (vr (some 2) 102), some (vr (some 3) 9), some (vr (some 90) 10), some (vr (some 100) 13), some (vi i), some (vi 3), x6], [vi (v)], (K, H), c + 6 + 0, s + 36 + 0)
    rw [hK0] at r4
    refine WP.go 3 (And.intro (And.intro (show c + 6 + 0 + 0 ≤ 601024 from by omega) (show s + 36 + 0 + 0 ≤ 7293034 from by omega)) (And.intro rfl ?_))
    show Call d 176 [vr (some 90) 10] (K, H) _ _
    refine s_12_thrown (by omega) hS ?_
    show WP (Call d) 299 P X (595, [some (vr (some 2) 102), some (vr (some 3) 9), some (vr (some 90) 10), some (vr (some 100) 13), some (vi i), some (vi 3), some (vi (v))], [vi (K 90 0)], (K, H), c + 6 + 0 + 0, s + 36 + 0 + 0)
    refine WP.go 2 (And.intro (fun _ => ?_) (fun q => absurd r5 q))
    refine WP.go 2 (And.intro (fun _ => ?_) (fun q => absurd q (by decide)))
    refine WP.go 1 ?_
    show WP (Call d) 299 P X (1689, [some (vr (some 2) 102), some (vr (some 3) 9), some (vr (some 90) 10), some (vr (some 100) 13), some (vi i), some (vi 3), some (vi (v))], [], (K, H), c + 6 + 0 + 0, s + 36 + 0 + 0)
    exact h _ _ _ _ _ _ (hI.m (CF.rf I) r4) ⟨by omega, by omega⟩

set_option maxRecDepth 20000 in
theorem law_16 {d : Nat} {P : Option qV → qH → Prop} {X : Nat → qH → Prop} {I : qI} {H : qS} {f : Int → Int} {L i : Int} {x5 x6 : Option qV} {c s : Nat} (hd : 100 ≤ d) (hI : LI f L i I H) (hi : 0 ≤ i ∧ i + 6 ≤ L ∧ L ≤ 3072) (hc : (c : Int) ≤ 1000 + 100 * i ∧ (s : Int) ≤ 40000 + 2000 * i) (h : ∀ (K : qI) (G : qS) (y5 y6 : Option qV) (c9 s9 : Nat), LI f L (i + 6) K G → (c9 ≤ c + 90 ∧ s9 ≤ s + 9000) → WP (Call d) 299 P X (1689, [some (vr (some 2) 102), some (vr (some 3) 9), some (vr (some 90) 10), some (vr (some 100) 13), some (vi i), y5, y6], [], (K, G), c9, s9)) :
    WP (Call d) 299 P X (646, [some (vr (some 2) 102), some (vr (some 3) 9), some (vr (some 90) 10), some (vr (some 100) 13), some (vi i), x5, x6], [], (I, H), c, s) := by
  obtain ⟨hS, hX, ⟨hf2, hl2⟩, ⟨hT, hV, hO, hLL⟩, ⟨hC, hC2⟩, hK, hKP, hTP, hFX, h10⟩ := id hI
  have hl100 := hS.l100
  generalize hM : I 91 = μ at *
  refine WP.go 18 (Exists.intro (i + 1) (And.intro (wrp_a (by omega) (by omega)) (And.intro (And.intro rfl (And.intro (show 0 ≤ i + 1 from by omega) (show i + 1 < H.2.1 2 from by rw [hl2]; omega))) (Exists.intro (i + 2) (And.intro (wrp_a (by omega) (by omega)) (And.intro (And.intro rfl (And.intro (show 0 ≤ i + 2 from by omega) (show i + 2 < H.2.1 2 from by rw [hl2]; omega))) (Exists.intro (i + 3) (And.intro (wrp_a (by omega) (by omega)) (And.intro (And.intro rfl (And.intro (show 0 ≤ i + 3 from by omega) (show i + 3 < H.2.1 2 from by rw [hl2]; omega))) (And.intro (And.intro (show c + 5 ≤ 601024 from by omega) (show s + 30 ≤ 7293034 from by omega)) (And.intro rfl (?_))))))))))))
  show Call d 280 [vr (some 3) 9, vi (I 2 (i + 1)), vi (I 2 (i + 2)), vi (I 2 (i + 3)), vr (some 100) 13] (I, H) _ _
  refine hl_promise (by omega) hS hX hT hV (fun v1 J v2 => ?_) (fun v1 => ?_) (fun v1 => ?_) (fun v1 => ?_)
  ·
    show WP (Call d) 299 P X (664, [some (vr (some 2) 102), some (vr (some 3) 9), some (vr (some 90) 10), some (vr (some 100) 13), some (vi i), x5, x6], [vi 0], (upI J 100 0 (μ 5), H), c + 5, s + 30)
    obtain ⟨K0, hK0⟩ : ∃ K0, K0 = upI J 100 0 (μ 5) := ⟨_, rfl⟩
    rw [← hK0]
    have ke : ∀ a, a ≠ 100 → K0 a = J a := fun a q => by rw [hK0]; exact upI_cell q
    have k1 : K0 100 0 = μ 5 := by rw [hK0]; exact upI_same _ _ _ _
    have kf : ∀ a, a < 6 ∨ (90 ≤ a ∧ a ≠ 100) → K0 a = I a := fun a q => (ke a (by omega)).trans (v2.1 a (by omega))
    have k2 : K0 2 = I 2 := kf 2 (by omega)
    have hMk : K0 91 = μ := (kf 91 (by omega)).trans hM
    have hKk : MS K0 := by unfold MS at *; rw [kf 90 (by omega)]; exact hK
    refine WP.go 1 ?_
    show WP (Call d) 299 P X (665, [some (vr (some 2) 102), some (vr (some 3) 9), some (vr (some 90) 10), some (vr (some 100) 13), some (vi i), some (vi 0), x6], [], (K0, H), c + 5, s + 30)
    refine WP.go 16 (Exists.intro (i + 1) (And.intro (wrp_a (by omega) (by omega)) (And.intro (And.intro rfl (And.intro (show 0 ≤ i + 1 from by omega) (show i + 1 < H.2.1 2 from by rw [hl2]; omega))) (Exists.intro (i + 2) (And.intro (wrp_a (by omega) (by omega)) (And.intro (And.intro rfl (And.intro (show 0 ≤ i + 2 from by omega) (show i + 2 < H.2.1 2 from by rw [hl2]; omega))) (Exists.intro (i + 3) (And.intro (wrp_a (by omega) (by omega)) (And.intro (And.intro rfl (And.intro (show 0 ≤ i + 3 from by omega) (show i + 3 < H.2.1 2 from by rw [hl2]; omega))) (?_))))))))))
    show WP (Call d) 299 P X (681, [some (vr (some 2) 102), some (vr (some 3) 9), some (vr (some 90) 10), some (vr (some 100) 13), some (vi i), some (vi 0), x6], [vi (K0 2 (i + 3)), vi (K0 2 (i + 2)), vi (K0 2 (i + 1)), vr (some 90) 10], (K0, H), c + 5, s + 30)
    rw [k2]
    refine WP.go 1 (And.intro (And.intro (show c + 5 + 0 ≤ 601024 from by omega) (show s + 30 + 0 ≤ 7293034 from by omega)) (And.intro rfl (?_)))
    show Call d 233 [vr (some 90) 10, vi (I 2 (i + 1)), vi (I 2 (i + 2)), vi (I 2 (i + 3))] (K0, H) _ _
    refine s_12_promise (by omega) hS hMk hV hKk (fun q => False.elim (by omega)) (fun q => False.elim (by omega)) (fun q => False.elim (by omega)) (fun r0 K r2 r3 => ?_)
    show WP (Call d) 299 P X (682, [some (vr (some 2) 102), some (vr (some 3) 9), some (vr (some 90) 10), some (vr (some 100) 13), some (vi i), some (vi 0), x6], [vi (μ 5)], (K, H), c + 5 + 0, s + 30 + 0)
    have kk : K 100 = K0 100 := r2.1 100 (by omega)
    have k100 : K 100 0 = μ 5 := by rw [kk, k1]
    rw [hK0] at r2
    refine WP.go 3 (And.intro (And.intro (show c + 5 + 0 + 0 ≤ 601024 from by omega) (show s + 30 + 0 + 0 ≤ 7293034 from by omega)) (And.intro rfl ?_))
    show Call d 176 [vr (some 90) 10] (K, H) _ _
    refine s_12_thrown (by omega) hS ?_
    show WP (Call d) 299 P X (685, [some (vr (some 2) 102), some (vr (some 3) 9), some (vr (some 90) 10), some (vr (some 100) 13), some (vi i), some (vi 0), some (vi (μ 5))], [vi (K 90 0)], (K, H), c + 5 + 0 + 0, s + 30 + 0 + 0)
    refine WP.go 2 (And.intro (fun _ => ?_) (fun q => absurd r3 q))
    refine WP.go 2 (And.intro (fun q => absurd rfl q) (fun _ => ?_))
    refine WP.go 7 (And.intro (And.intro rfl (And.intro (by decide) (show (0 : Int) < H.2.1 100 from by rw [hl100]; decide))) (And.intro (fun _ => ?_) (fun q => absurd (zcmp_e k100) q)))
    refine WP.go 1 ?_
    show WP (Call d) 299 P X (1689, [some (vr (some 2) 102), some (vr (some 3) 9), some (vr (some 90) 10), some (vr (some 100) 13), some (vi i), some (vi 0), some (vi (μ 5))], [], (K, H), c + 5 + 0 + 0, s + 30 + 0 + 0)
    exact h _ _ _ _ _ _ (hI.u v2 r2 (IM_uPro hV v1) (by rw [hM]; exact (uPro_hi hV v1.2.2).1) (by rw [hM]; exact (uPro_hi hV v1.2.2).2)) ⟨by omega, by omega⟩
  ·
    show WP (Call d) 299 P X (664, [some (vr (some 2) 102), some (vr (some 3) 9), some (vr (some 90) 10), some (vr (some 100) 13), some (vi i), x5, x6], [vi 1], (I, H), c + 5, s + 30)
    obtain ⟨K0, hK0⟩ : ∃ K0, K0 = I := ⟨_, rfl⟩
    rw [← hK0]
    have kf : ∀ a, a < 6 ∨ (90 ≤ a ∧ a ≠ 100) → K0 a = I a := fun a q => by rw [hK0]
    have k2 : K0 2 = I 2 := kf 2 (by omega)
    have hMk : K0 91 = μ := (kf 91 (by omega)).trans hM
    have hKk : MS K0 := by unfold MS at *; rw [kf 90 (by omega)]; exact hK
    refine WP.go 1 ?_
    show WP (Call d) 299 P X (665, [some (vr (some 2) 102), some (vr (some 3) 9), some (vr (some 90) 10), some (vr (some 100) 13), some (vi i), some (vi 1), x6], [], (K0, H), c + 5, s + 30)
    refine WP.go 16 (Exists.intro (i + 1) (And.intro (wrp_a (by omega) (by omega)) (And.intro (And.intro rfl (And.intro (show 0 ≤ i + 1 from by omega) (show i + 1 < H.2.1 2 from by rw [hl2]; omega))) (Exists.intro (i + 2) (And.intro (wrp_a (by omega) (by omega)) (And.intro (And.intro rfl (And.intro (show 0 ≤ i + 2 from by omega) (show i + 2 < H.2.1 2 from by rw [hl2]; omega))) (Exists.intro (i + 3) (And.intro (wrp_a (by omega) (by omega)) (And.intro (And.intro rfl (And.intro (show 0 ≤ i + 3 from by omega) (show i + 3 < H.2.1 2 from by rw [hl2]; omega))) (?_))))))))))
    show WP (Call d) 299 P X (681, [some (vr (some 2) 102), some (vr (some 3) 9), some (vr (some 90) 10), some (vr (some 100) 13), some (vi i), some (vi 1), x6], [vi (K0 2 (i + 3)), vi (K0 2 (i + 2)), vi (K0 2 (i + 1)), vr (some 90) 10], (K0, H), c + 5, s + 30)
    rw [k2]
    refine WP.go 1 (And.intro (And.intro (show c + 5 + 0 ≤ 601024 from by omega) (show s + 30 + 0 ≤ 7293034 from by omega)) (And.intro rfl (?_)))
    show Call d 233 [vr (some 90) 10, vi (I 2 (i + 1)), vi (I 2 (i + 2)), vi (I 2 (i + 3))] (K0, H) _ _
    refine s_12_promise (by omega) hS hMk hV hKk (fun r0 K v r3 r4 r5 => ?_) (fun q => False.elim (by omega)) (fun q => False.elim (by omega)) (fun q => False.elim (by omega))
    show WP (Call d) 299 P X (682, [some (vr (some 2) 102), some (vr (some 3) 9), some (vr (some 90) 10), some (vr (some 100) 13), some (vi i), some (vi 1), x6], [vi (v)], (K, H), c + 5 + 0, s + 30 + 0)
    rw [hK0] at r4
    refine WP.go 3 (And.intro (And.intro (show c + 5 + 0 + 0 ≤ 601024 from by omega) (show s + 30 + 0 + 0 ≤ 7293034 from by omega)) (And.intro rfl ?_))
    show Call d 176 [vr (some 90) 10] (K, H) _ _
    refine s_12_thrown (by omega) hS ?_
    show WP (Call d) 299 P X (685, [some (vr (some 2) 102), some (vr (some 3) 9), some (vr (some 90) 10), some (vr (some 100) 13), some (vi i), some (vi 1), some (vi (v))], [vi (K 90 0)], (K, H), c + 5 + 0 + 0, s + 30 + 0 + 0)
    refine WP.go 2 (And.intro (fun _ => ?_) (fun q => absurd r5 q))
    refine WP.go 2 (And.intro (fun _ => ?_) (fun q => absurd q (by decide)))
    refine WP.go 1 ?_
    show WP (Call d) 299 P X (1689, [some (vr (some 2) 102), some (vr (some 3) 9), some (vr (some 90) 10), some (vr (some 100) 13), some (vi i), some (vi 1), some (vi (v))], [], (K, H), c + 5 + 0 + 0, s + 30 + 0 + 0)
    exact h _ _ _ _ _ _ (hI.m (CF.rf I) r4) ⟨by omega, by omega⟩
  ·
    show WP (Call d) 299 P X (664, [some (vr (some 2) 102), some (vr (some 3) 9), some (vr (some 90) 10), some (vr (some 100) 13), some (vi i), x5, x6], [vi 2], (I, H), c + 5, s + 30)
    obtain ⟨K0, hK0⟩ : ∃ K0, K0 = I := ⟨_, rfl⟩
    rw [← hK0]
    have kf : ∀ a, a < 6 ∨ (90 ≤ a ∧ a ≠ 100) → K0 a = I a := fun a q => by rw [hK0]
    have k2 : K0 2 = I 2 := kf 2 (by omega)
    have hMk : K0 91 = μ := (kf 91 (by omega)).trans hM
    have hKk : MS K0 := by unfold MS at *; rw [kf 90 (by omega)]; exact hK
    refine WP.go 1 ?_
    show WP (Call d) 299 P X (665, [some (vr (some 2) 102), some (vr (some 3) 9), some (vr (some 90) 10), some (vr (some 100) 13), some (vi i), some (vi 2), x6], [], (K0, H), c + 5, s + 30)
    refine WP.go 16 (Exists.intro (i + 1) (And.intro (wrp_a (by omega) (by omega)) (And.intro (And.intro rfl (And.intro (show 0 ≤ i + 1 from by omega) (show i + 1 < H.2.1 2 from by rw [hl2]; omega))) (Exists.intro (i + 2) (And.intro (wrp_a (by omega) (by omega)) (And.intro (And.intro rfl (And.intro (show 0 ≤ i + 2 from by omega) (show i + 2 < H.2.1 2 from by rw [hl2]; omega))) (Exists.intro (i + 3) (And.intro (wrp_a (by omega) (by omega)) (And.intro (And.intro rfl (And.intro (show 0 ≤ i + 3 from by omega) (show i + 3 < H.2.1 2 from by rw [hl2]; omega))) (?_))))))))))
    show WP (Call d) 299 P X (681, [some (vr (some 2) 102), some (vr (some 3) 9), some (vr (some 90) 10), some (vr (some 100) 13), some (vi i), some (vi 2), x6], [vi (K0 2 (i + 3)), vi (K0 2 (i + 2)), vi (K0 2 (i + 1)), vr (some 90) 10], (K0, H), c + 5, s + 30)
    rw [k2]
    refine WP.go 1 (And.intro (And.intro (show c + 5 + 0 ≤ 601024 from by omega) (show s + 30 + 0 ≤ 7293034 from by omega)) (And.intro rfl (?_)))
    show Call d 233 [vr (some 90) 10, vi (I 2 (i + 1)), vi (I 2 (i + 2)), vi (I 2 (i + 3))] (K0, H) _ _
    refine s_12_promise (by omega) hS hMk hV hKk (fun q => False.elim (by omega)) (fun r0 K v r3 r4 r5 => ?_) (fun q => False.elim (by omega)) (fun q => False.elim (by omega))
    show WP (Call d) 299 P X (682, [some (vr (some 2) 102), some (vr (some 3) 9), some (vr (some 90) 10), some (vr (some 100) 13), some (vi i), some (vi 2), x6], [vi (v)], (K, H), c + 5 + 0, s + 30 + 0)
    rw [hK0] at r4
    refine WP.go 3 (And.intro (And.intro (show c + 5 + 0 + 0 ≤ 601024 from by omega) (show s + 30 + 0 + 0 ≤ 7293034 from by omega)) (And.intro rfl ?_))
    show Call d 176 [vr (some 90) 10] (K, H) _ _
    refine s_12_thrown (by omega) hS ?_
    show WP (Call d) 299 P X (685, [some (vr (some 2) 102), some (vr (some 3) 9), some (vr (some 90) 10), some (vr (some 100) 13), some (vi i), some (vi 2), some (vi (v))], [vi (K 90 0)], (K, H), c + 5 + 0 + 0, s + 30 + 0 + 0)
    refine WP.go 2 (And.intro (fun _ => ?_) (fun q => absurd r5 q))
    refine WP.go 2 (And.intro (fun _ => ?_) (fun q => absurd q (by decide)))
    refine WP.go 1 ?_
    show WP (Call d) 299 P X (1689, [some (vr (some 2) 102), some (vr (some 3) 9), some (vr (some 90) 10), some (vr (some 100) 13), some (vi i), some (vi 2), some (vi (v))], [], (K, H), c + 5 + 0 + 0, s + 30 + 0 + 0)
    exact h _ _ _ _ _ _ (hI.m (CF.rf I) r4) ⟨by omega, by omega⟩
  ·
    show WP (Call d) 299 P X (664, [some (vr (some 2) 102), some (vr (some 3) 9), some (vr (some 90) 10), some (vr (some 100) 13), some (vi i), x5, x6], [vi 3], (I, H), c + 5, s + 30)
    obtain ⟨K0, hK0⟩ : ∃ K0, K0 = I := ⟨_, rfl⟩
    rw [← hK0]
    have kf : ∀ a, a < 6 ∨ (90 ≤ a ∧ a ≠ 100) → K0 a = I a := fun a q => by rw [hK0]
    have k2 : K0 2 = I 2 := kf 2 (by omega)
    have hMk : K0 91 = μ := (kf 91 (by omega)).trans hM
    have hKk : MS K0 := by unfold MS at *; rw [kf 90 (by omega)]; exact hK
    refine WP.go 1 ?_
    show WP (Call d) 299 P X (665, [some (vr (some 2) 102), some (vr (some 3) 9), some (vr (some 90) 10), some (vr (some 100) 13), some (vi i), some (vi 3), x6], [], (K0, H), c + 5, s + 30)
    refine WP.go 16 (Exists.intro (i + 1) (And.intro (wrp_a (by omega) (by omega)) (And.intro (And.intro rfl (And.intro (show 0 ≤ i + 1 from by omega) (show i + 1 < H.2.1 2 from by rw [hl2]; omega))) (Exists.intro (i + 2) (And.intro (wrp_a (by omega) (by omega)) (And.intro (And.intro rfl (And.intro (show 0 ≤ i + 2 from by omega) (show i + 2 < H.2.1 2 from by rw [hl2]; omega))) (Exists.intro (i + 3) (And.intro (wrp_a (by omega) (by omega)) (And.intro (And.intro rfl (And.intro (show 0 ≤ i + 3 from by omega) (show i + 3 < H.2.1 2 from by rw [hl2]; omega))) (?_))))))))))
    show WP (Call d) 299 P X (681, [some (vr (some 2) 102), some (vr (some 3) 9), some (vr (some 90) 10), some (vr (some 100) 13), some (vi i), some (vi 3), x6], [vi (K0 2 (i + 3)), vi (K0 2 (i + 2)), vi (K0 2 (i + 1)), vr (some 90) 10], (K0, H), c + 5, s + 30)
    rw [k2]
    refine WP.go 1 (And.intro (And.intro (show c + 5 + 0 ≤ 601024 from by omega) (show s + 30 + 0 ≤ 7293034 from by omega)) (And.intro rfl (?_)))
    show Call d 233 [vr (some 90) 10, vi (I 2 (i + 1)), vi (I 2 (i + 2)), vi (I 2 (i + 3))] (K0, H) _ _
    refine s_12_promise (by omega) hS hMk hV hKk (fun q => False.elim (by omega)) (fun q => False.elim (by omega)) (fun r0 K v r3 r4 r5 => ?_) (fun q => False.elim (by omega))
    show WP (Call d) 299 P X (682, [some (vr (some 2) 102), some (vr (some 3) 9), some (vr (some 90) 10), some (vr (some 100) 13), some (vi i), some (vi 3), x6], [vi (v)], (K, H), c + 5 + 0, s + 30 + 0)
    rw [hK0] at r4
    refine WP.go 3 (And.intro (And.intro (show c + 5 + 0 + 0 ≤ 601024 from by omega) (show s + 30 + 0 + 0 ≤ 7293034 from by omega)) (And.intro rfl ?_))
    show Call d 176 [vr (some 90) 10] (K, H) _ _
    refine s_12_thrown (by omega) hS ?_
    show WP (Call d) 299 P X (685, [some (vr (some 2) 102), some (vr (some 3) 9), some (vr (some 90) 10), some (vr (some 100) 13), some (vi i), some (vi 3), some (vi (v))], [vi (K 90 0)], (K, H), c + 5 + 0 + 0, s + 30 + 0 + 0)
    refine WP.go 2 (And.intro (fun _ => ?_) (fun q => absurd r5 q))
    refine WP.go 2 (And.intro (fun _ => ?_) (fun q => absurd q (by decide)))
    refine WP.go 1 ?_
    show WP (Call d) 299 P X (1689, [some (vr (some 2) 102), some (vr (some 3) 9), some (vr (some 90) 10), some (vr (some 100) 13), some (vi i), some (vi 3), some (vi (v))], [], (K, H), c + 5 + 0 + 0, s + 30 + 0 + 0)
    exact h _ _ _ _ _ _ (hI.m (CF.rf I) r4) ⟨by omega, by omega⟩

set_option maxRecDepth 20000 in
theorem law_20 {d : Nat} {P : Option qV → qH → Prop} {X : Nat → qH → Prop} {I : qI} {H : qS} {f : Int → Int} {L i : Int} {x5 x6 : Option qV} {c s : Nat} (hd : 100 ≤ d) (hI : LI f L i I H) (hi : 0 ≤ i ∧ i + 6 ≤ L ∧ L ≤ 3072) (hc : (c : Int) ≤ 1000 + 100 * i ∧ (s : Int) ≤ 40000 + 2000 * i) (h : ∀ (K : qI) (G : qS) (y5 y6 : Option qV) (c9 s9 : Nat), LI f L (i + 6) K G → (c9 ≤ c + 90 ∧ s9 ≤ s + 9000) → WP (Call d) 299 P X (1689, [some (vr (some 2) 102), some (vr (some 3) 9), some (vr (some 90) 10), some (vr (some 100) 13), some (vi i), y5, y6], [], (K, G), c9, s9)) :
    WP (Call d) 299 P X (788, [some (vr (some 2) 102), some (vr (some 3) 9), some (vr (some 90) 10), some (vr (some 100) 13), some (vi i), x5, x6], [], (I, H), c, s) := by
  obtain ⟨hS, hX, ⟨hf2, hl2⟩, ⟨hT, hV, hO, hLL⟩, ⟨hC, hC2⟩, hK, hKP, hTP, hFX, h10⟩ := id hI
  have hl100 := hS.l100
  generalize hM : I 91 = μ at *
  refine WP.go 13 (Exists.intro (i + 1) (And.intro (wrp_a (by omega) (by omega)) (And.intro (And.intro rfl (And.intro (show 0 ≤ i + 1 from by omega) (show i + 1 < H.2.1 2 from by rw [hl2]; omega))) (Exists.intro (i + 2) (And.intro (wrp_a (by omega) (by omega)) (And.intro (And.intro rfl (And.intro (show 0 ≤ i + 2 from by omega) (show i + 2 < H.2.1 2 from by rw [hl2]; omega))) (And.intro (And.intro (show c + 4 ≤ 601024 from by omega) (show s + 24 ≤ 7293034 from by omega)) (And.intro rfl (?_)))))))))
  show Call d 283 [vr (some 3) 9, vi (I 2 (i + 1)), vi (I 2 (i + 2)), vr (some 100) 13] (I, H) _ _
  refine hl_drain (by omega) hS hX hT hV (fun v1 J v2 => ?_) (fun v1 => ?_) (fun v1 => ?_) (fun v1 => ?_)
  ·
    show WP (Call d) 299 P X (801, [some (vr (some 2) 102), some (vr (some 3) 9), some (vr (some 90) 10), some (vr (some 100) 13), some (vi i), x5, x6], [vi 0], (upI J 100 0 (μ 6), H), c + 4, s + 24)
    obtain ⟨K0, hK0⟩ : ∃ K0, K0 = upI J 100 0 (μ 6) := ⟨_, rfl⟩
    rw [← hK0]
    have ke : ∀ a, a ≠ 100 → K0 a = J a := fun a q => by rw [hK0]; exact upI_cell q
    have k1 : K0 100 0 = μ 6 := by rw [hK0]; exact upI_same _ _ _ _
    have kf : ∀ a, a < 6 ∨ (90 ≤ a ∧ a ≠ 100) → K0 a = I a := fun a q => (ke a (by omega)).trans (v2.1 a (by omega))
    have k2 : K0 2 = I 2 := kf 2 (by omega)
    have hMk : K0 91 = μ := (kf 91 (by omega)).trans hM
    have hKk : MS K0 := by unfold MS at *; rw [kf 90 (by omega)]; exact hK
    refine WP.go 1 ?_
    show WP (Call d) 299 P X (802, [some (vr (some 2) 102), some (vr (some 3) 9), some (vr (some 90) 10), some (vr (some 100) 13), some (vi i), some (vi 0), x6], [], (K0, H), c + 4, s + 24)
    refine WP.go 11 (Exists.intro (i + 1) (And.intro (wrp_a (by omega) (by omega)) (And.intro (And.intro rfl (And.intro (show 0 ≤ i + 1 from by omega) (show i + 1 < H.2.1 2 from by rw [hl2]; omega))) (Exists.intro (i + 2) (And.intro (wrp_a (by omega) (by omega)) (And.intro (And.intro rfl (And.intro (show 0 ≤ i + 2 from by omega) (show i + 2 < H.2.1 2 from by rw [hl2]; omega))) (?_)))))))
    show WP (Call d) 299 P X (813, [some (vr (some 2) 102), some (vr (some 3) 9), some (vr (some 90) 10), some (vr (some 100) 13), some (vi i), some (vi 0), x6], [vi (K0 2 (i + 2)), vi (K0 2 (i + 1)), vr (some 90) 10], (K0, H), c + 4, s + 24)
    rw [k2]
    refine WP.go 1 (And.intro (And.intro (show c + 4 + 0 ≤ 601024 from by omega) (show s + 24 + 0 ≤ 7293034 from by omega)) (And.intro rfl (?_)))
    show Call d 237 [vr (some 90) 10, vi (I 2 (i + 1)), vi (I 2 (i + 2))] (K0, H) _ _
    refine s_12_drain (by omega) hS hMk hV hKk (fun q => False.elim (by omega)) (fun q => False.elim (by omega)) (fun q => False.elim (by omega)) (fun r0 K r2 r3 => ?_)
    show WP (Call d) 299 P X (814, [some (vr (some 2) 102), some (vr (some 3) 9), some (vr (some 90) 10), some (vr (some 100) 13), some (vi i), some (vi 0), x6], [vi (μ 6)], (K, H), c + 4 + 0, s + 24 + 0)
    have kk : K 100 = K0 100 := r2.1 100 (by omega)
    have k100 : K 100 0 = μ 6 := by rw [kk, k1]
    rw [hK0] at r2
    refine WP.go 3 (And.intro (And.intro (show c + 4 + 0 + 0 ≤ 601024 from by omega) (show s + 24 + 0 + 0 ≤ 7293034 from by omega)) (And.intro rfl ?_))
    show Call d 176 [vr (some 90) 10] (K, H) _ _
    refine s_12_thrown (by omega) hS ?_
    show WP (Call d) 299 P X (817, [some (vr (some 2) 102), some (vr (some 3) 9), some (vr (some 90) 10), some (vr (some 100) 13), some (vi i), some (vi 0), some (vi (μ 6))], [vi (K 90 0)], (K, H), c + 4 + 0 + 0, s + 24 + 0 + 0)
    refine WP.go 2 (And.intro (fun _ => ?_) (fun q => absurd r3 q))
    refine WP.go 2 (And.intro (fun q => absurd rfl q) (fun _ => ?_))
    refine WP.go 7 (And.intro (And.intro rfl (And.intro (by decide) (show (0 : Int) < H.2.1 100 from by rw [hl100]; decide))) (And.intro (fun _ => ?_) (fun q => absurd (zcmp_e k100) q)))
    refine WP.go 1 ?_
    show WP (Call d) 299 P X (1689, [some (vr (some 2) 102), some (vr (some 3) 9), some (vr (some 90) 10), some (vr (some 100) 13), some (vi i), some (vi 0), some (vi (μ 6))], [], (K, H), c + 4 + 0 + 0, s + 24 + 0 + 0)
    exact h _ _ _ _ _ _ (hI.u v2 r2 (IM_uDra hV v1) (by rw [hM]; exact (uDra_hi hV v1.2.2).1) (by rw [hM]; exact (uDra_hi hV v1.2.2).2)) ⟨by omega, by omega⟩
  ·
    show WP (Call d) 299 P X (801, [some (vr (some 2) 102), some (vr (some 3) 9), some (vr (some 90) 10), some (vr (some 100) 13), some (vi i), x5, x6], [vi 1], (I, H), c + 4, s + 24)
    obtain ⟨K0, hK0⟩ : ∃ K0, K0 = I := ⟨_, rfl⟩
    rw [← hK0]
    have kf : ∀ a, a < 6 ∨ (90 ≤ a ∧ a ≠ 100) → K0 a = I a := fun a q => by rw [hK0]
    have k2 : K0 2 = I 2 := kf 2 (by omega)
    have hMk : K0 91 = μ := (kf 91 (by omega)).trans hM
    have hKk : MS K0 := by unfold MS at *; rw [kf 90 (by omega)]; exact hK
    refine WP.go 1 ?_
    show WP (Call d) 299 P X (802, [some (vr (some 2) 102), some (vr (some 3) 9), some (vr (some 90) 10), some (vr (some 100) 13), some (vi i), some (vi 1), x6], [], (K0, H), c + 4, s + 24)
    refine WP.go 11 (Exists.intro (i + 1) (And.intro (wrp_a (by omega) (by omega)) (And.intro (And.intro rfl (And.intro (show 0 ≤ i + 1 from by omega) (show i + 1 < H.2.1 2 from by rw [hl2]; omega))) (Exists.intro (i + 2) (And.intro (wrp_a (by omega) (by omega)) (And.intro (And.intro rfl (And.intro (show 0 ≤ i + 2 from by omega) (show i + 2 < H.2.1 2 from by rw [hl2]; omega))) (?_)))))))
    show WP (Call d) 299 P X (813, [some (vr (some 2) 102), some (vr (some 3) 9), some (vr (some 90) 10), some (vr (some 100) 13), some (vi i), some (vi 1), x6], [vi (K0 2 (i + 2)), vi (K0 2 (i + 1)), vr (some 90) 10], (K0, H), c + 4, s + 24)
    rw [k2]
    refine WP.go 1 (And.intro (And.intro (show c + 4 + 0 ≤ 601024 from by omega) (show s + 24 + 0 ≤ 7293034 from by omega)) (And.intro rfl (?_)))
    show Call d 237 [vr (some 90) 10, vi (I 2 (i + 1)), vi (I 2 (i + 2))] (K0, H) _ _
    refine s_12_drain (by omega) hS hMk hV hKk (fun r0 K v r3 r4 r5 => ?_) (fun q => False.elim (by omega)) (fun q => False.elim (by omega)) (fun q => False.elim (by omega))
    show WP (Call d) 299 P X (814, [some (vr (some 2) 102), some (vr (some 3) 9), some (vr (some 90) 10), some (vr (some 100) 13), some (vi i), some (vi 1), x6], [vi (v)], (K, H), c + 4 + 0, s + 24 + 0)
    rw [hK0] at r4
    refine WP.go 3 (And.intro (And.intro (show c + 4 + 0 + 0 ≤ 601024 from by omega) (show s + 24 + 0 + 0 ≤ 7293034 from by omega)) (And.intro rfl ?_))
    show Call d 176 [vr (some 90) 10] (K, H) _ _
    refine s_12_thrown (by omega) hS ?_
    show WP (Call d) 299 P X (817, [some (vr (some 2) 102), some (vr (some 3) 9), some (vr (some 90) 10), some (vr (some 100) 13), some (vi i), some (vi 1), some (vi (v))], [vi (K 90 0)], (K, H), c + 4 + 0 + 0, s + 24 + 0 + 0)
    refine WP.go 2 (And.intro (fun _ => ?_) (fun q => absurd r5 q))
    refine WP.go 2 (And.intro (fun _ => ?_) (fun q => absurd q (by decide)))
    refine WP.go 1 ?_
    show WP (Call d) 299 P X (1689, [some (vr (some 2) 102), some (vr (some 3) 9), some (vr (some 90) 10), some (vr (some 100) 13), some (vi i), some (vi 1), some (vi (v))], [], (K, H), c + 4 + 0 + 0, s + 24 + 0 + 0)
    exact h _ _ _ _ _ _ (hI.m (CF.rf I) r4) ⟨by omega, by omega⟩
  ·
    show WP (Call d) 299 P X (801, [some (vr (some 2) 102), some (vr (some 3) 9), some (vr (some 90) 10), some (vr (some 100) 13), some (vi i), x5, x6], [vi 2], (I, H), c + 4, s + 24)
    obtain ⟨K0, hK0⟩ : ∃ K0, K0 = I := ⟨_, rfl⟩
    rw [← hK0]
    have kf : ∀ a, a < 6 ∨ (90 ≤ a ∧ a ≠ 100) → K0 a = I a := fun a q => by rw [hK0]
    have k2 : K0 2 = I 2 := kf 2 (by omega)
    have hMk : K0 91 = μ := (kf 91 (by omega)).trans hM
    have hKk : MS K0 := by unfold MS at *; rw [kf 90 (by omega)]; exact hK
    refine WP.go 1 ?_
    show WP (Call d) 299 P X (802, [some (vr (some 2) 102), some (vr (some 3) 9), some (vr (some 90) 10), some (vr (some 100) 13), some (vi i), some (vi 2), x6], [], (K0, H), c + 4, s + 24)
    refine WP.go 11 (Exists.intro (i + 1) (And.intro (wrp_a (by omega) (by omega)) (And.intro (And.intro rfl (And.intro (show 0 ≤ i + 1 from by omega) (show i + 1 < H.2.1 2 from by rw [hl2]; omega))) (Exists.intro (i + 2) (And.intro (wrp_a (by omega) (by omega)) (And.intro (And.intro rfl (And.intro (show 0 ≤ i + 2 from by omega) (show i + 2 < H.2.1 2 from by rw [hl2]; omega))) (?_)))))))
    show WP (Call d) 299 P X (813, [some (vr (some 2) 102), some (vr (some 3) 9), some (vr (some 90) 10), some (vr (some 100) 13), some (vi i), some (vi 2), x6], [vi (K0 2 (i + 2)), vi (K0 2 (i + 1)), vr (some 90) 10], (K0, H), c + 4, s + 24)
    rw [k2]
    refine WP.go 1 (And.intro (And.intro (show c + 4 + 0 ≤ 601024 from by omega) (show s + 24 + 0 ≤ 7293034 from by omega)) (And.intro rfl (?_)))
    show Call d 237 [vr (some 90) 10, vi (I 2 (i + 1)), vi (I 2 (i + 2))] (K0, H) _ _
    refine s_12_drain (by omega) hS hMk hV hKk (fun q => False.elim (by omega)) (fun r0 K v r3 r4 r5 => ?_) (fun q => False.elim (by omega)) (fun q => False.elim (by omega))
    show WP (Call d) 299 P X (814, [some (vr (some 2) 102), some (vr (some 3) 9), some (vr (some 90) 10), some (vr (some 100) 13), some (vi i), some (vi 2), x6], [vi (v)], (K, H), c + 4 + 0, s + 24 + 0)
    rw [hK0] at r4
    refine WP.go 3 (And.intro (And.intro (show c + 4 + 0 + 0 ≤ 601024 from by omega) (show s + 24 + 0 + 0 ≤ 7293034 from by omega)) (And.intro rfl ?_))
    show Call d 176 [vr (some 90) 10] (K, H) _ _
    refine s_12_thrown (by omega) hS ?_
    show WP (Call d) 299 P X (817, [some (vr (some 2) 102), some (vr (some 3) 9), some (vr (some 90) 10), some (vr (some 100) 13), some (vi i), some (vi 2), some (vi (v))], [vi (K 90 0)], (K, H), c + 4 + 0 + 0, s + 24 + 0 + 0)
    refine WP.go 2 (And.intro (fun _ => ?_) (fun q => absurd r5 q))
    refine WP.go 2 (And.intro (fun _ => ?_) (fun q => absurd q (by decide)))
    refine WP.go 1 ?_
    show WP (Call d) 299 P X (1689, [some (vr (some 2) 102), some (vr (some 3) 9), some (vr (some 90) 10), some (vr (some 100) 13), some (vi i), some (vi 2), some (vi (v))], [], (K, H), c + 4 + 0 + 0, s + 24 + 0 + 0)
    exact h _ _ _ _ _ _ (hI.m (CF.rf I) r4) ⟨by omega, by omega⟩
  ·
    show WP (Call d) 299 P X (801, [some (vr (some 2) 102), some (vr (some 3) 9), some (vr (some 90) 10), some (vr (some 100) 13), some (vi i), x5, x6], [vi 3], (I, H), c + 4, s + 24)
    obtain ⟨K0, hK0⟩ : ∃ K0, K0 = I := ⟨_, rfl⟩
    rw [← hK0]
    have kf : ∀ a, a < 6 ∨ (90 ≤ a ∧ a ≠ 100) → K0 a = I a := fun a q => by rw [hK0]
    have k2 : K0 2 = I 2 := kf 2 (by omega)
    have hMk : K0 91 = μ := (kf 91 (by omega)).trans hM
    have hKk : MS K0 := by unfold MS at *; rw [kf 90 (by omega)]; exact hK
    refine WP.go 1 ?_
    show WP (Call d) 299 P X (802, [some (vr (some 2) 102), some (vr (some 3) 9), some (vr (some 90) 10), some (vr (some 100) 13), some (vi i), some (vi 3), x6], [], (K0, H), c + 4, s + 24)
    refine WP.go 11 (Exists.intro (i + 1) (And.intro (wrp_a (by omega) (by omega)) (And.intro (And.intro rfl (And.intro (show 0 ≤ i + 1 from by omega) (show i + 1 < H.2.1 2 from by rw [hl2]; omega))) (Exists.intro (i + 2) (And.intro (wrp_a (by omega) (by omega)) (And.intro (And.intro rfl (And.intro (show 0 ≤ i + 2 from by omega) (show i + 2 < H.2.1 2 from by rw [hl2]; omega))) (?_)))))))
    show WP (Call d) 299 P X (813, [some (vr (some 2) 102), some (vr (some 3) 9), some (vr (some 90) 10), some (vr (some 100) 13), some (vi i), some (vi 3), x6], [vi (K0 2 (i + 2)), vi (K0 2 (i + 1)), vr (some 90) 10], (K0, H), c + 4, s + 24)
    rw [k2]
    refine WP.go 1 (And.intro (And.intro (show c + 4 + 0 ≤ 601024 from by omega) (show s + 24 + 0 ≤ 7293034 from by omega)) (And.intro rfl (?_)))
    show Call d 237 [vr (some 90) 10, vi (I 2 (i + 1)), vi (I 2 (i + 2))] (K0, H) _ _
    refine s_12_drain (by omega) hS hMk hV hKk (fun q => False.elim (by omega)) (fun q => False.elim (by omega)) (fun r0 K v r3 r4 r5 => ?_) (fun q => False.elim (by omega))
    show WP (Call d) 299 P X (814, [some (vr (some 2) 102), some (vr (some 3) 9), some (vr (some 90) 10), some (vr (some 100) 13), some (vi i), some (vi 3), x6], [vi (v)], (K, H), c + 4 + 0, s + 24 + 0)
    rw [hK0] at r4
    refine WP.go 3 (And.intro (And.intro (show c + 4 + 0 + 0 ≤ 601024 from by omega) (show s + 24 + 0 + 0 ≤ 7293034 from by omega)) (And.intro rfl ?_))
    show Call d 176 [vr (some 90) 10] (K, H) _ _
    refine s_12_thrown (by omega) hS ?_
    show WP (Call d) 299 P X (817, [some (vr (some 2) 102), some (vr (some 3) 9), some (vr (some 90) 10), some (vr (some 100) 13), some (vi i), some (vi 3), some (vi (v))], [vi (K 90 0)], (K, H), c + 4 + 0 + 0, s + 24 + 0 + 0)
    refine WP.go 2 (And.intro (fun _ => ?_) (fun q => absurd r5 q))
    refine WP.go 2 (And.intro (fun _ => ?_) (fun q => absurd q (by decide)))
    refine WP.go 1 ?_
    show WP (Call d) 299 P X (1689, [some (vr (some 2) 102), some (vr (some 3) 9), some (vr (some 90) 10), some (vr (some 100) 13), some (vi i), some (vi 3), some (vi (v))], [], (K, H), c + 4 + 0 + 0, s + 24 + 0 + 0)
    exact h _ _ _ _ _ _ (hI.m (CF.rf I) r4) ⟨by omega, by omega⟩

set_option maxRecDepth 20000 in
theorem law_26 {d : Nat} {P : Option qV → qH → Prop} {X : Nat → qH → Prop} {I : qI} {H : qS} {f : Int → Int} {L i : Int} {x5 x6 : Option qV} {c s : Nat} (hd : 100 ≤ d) (hI : LI f L i I H) (hi : 0 ≤ i ∧ i + 6 ≤ L ∧ L ≤ 3072) (hc : (c : Int) ≤ 1000 + 100 * i ∧ (s : Int) ≤ 40000 + 2000 * i) (h : ∀ (K : qI) (G : qS) (y5 y6 : Option qV) (c9 s9 : Nat), LI f L (i + 6) K G → (c9 ≤ c + 90 ∧ s9 ≤ s + 9000) → WP (Call d) 299 P X (1689, [some (vr (some 2) 102), some (vr (some 3) 9), some (vr (some 90) 10), some (vr (some 100) 13), some (vi i), y5, y6], [], (K, G), c9, s9)) :
    WP (Call d) 299 P X (1087, [some (vr (some 2) 102), some (vr (some 3) 9), some (vr (some 90) 10), some (vr (some 100) 13), some (vi i), x5, x6], [], (I, H), c, s) := by
  obtain ⟨hS, hX, ⟨hf2, hl2⟩, ⟨hT, hV, hO, hLL⟩, ⟨hC, hC2⟩, hK, hKP, hTP, hFX, h10⟩ := id hI
  have hl100 := hS.l100
  generalize hM : I 91 = μ at *
  refine WP.go 13 (Exists.intro (i + 1) (And.intro (wrp_a (by omega) (by omega)) (And.intro (And.intro rfl (And.intro (show 0 ≤ i + 1 from by omega) (show i + 1 < H.2.1 2 from by rw [hl2]; omega))) (Exists.intro (i + 2) (And.intro (wrp_a (by omega) (by omega)) (And.intro (And.intro rfl (And.intro (show 0 ≤ i + 2 from by omega) (show i + 2 < H.2.1 2 from by rw [hl2]; omega))) (And.intro (And.intro (show c + 2 ≤ 601024 from by omega) (show s + 12 ≤ 7293034 from by omega)) (And.intro rfl (?_)))))))))
  show Call d 289 [vr (some 3) 9, vi (I 2 (i + 1)), vi (I 2 (i + 2)), vr (some 100) 13] (I, H) _ _
  refine hl_build (by omega) hS hX hT hV (fun v1 J v2 => ?_) (fun v1 => ?_) (fun v1 => ?_)
  ·
    show WP (Call d) 299 P X (1100, [some (vr (some 2) 102), some (vr (some 3) 9), some (vr (some 90) 10), some (vr (some 100) 13), some (vi i), x5, x6], [vi 0], (upI J 100 0 (μ (121 + 2 * ((I 2 (i + 1)))) + ((I 2 (i + 2)))), H), c + 2, s + 12)
    obtain ⟨K0, hK0⟩ : ∃ K0, K0 = upI J 100 0 (μ (121 + 2 * ((I 2 (i + 1)))) + ((I 2 (i + 2)))) := ⟨_, rfl⟩
    rw [← hK0]
    have ke : ∀ a, a ≠ 100 → K0 a = J a := fun a q => by rw [hK0]; exact upI_cell q
    have k1 : K0 100 0 = μ (121 + 2 * ((I 2 (i + 1)))) + ((I 2 (i + 2))) := by rw [hK0]; exact upI_same _ _ _ _
    have kf : ∀ a, a < 6 ∨ (90 ≤ a ∧ a ≠ 100) → K0 a = I a := fun a q => (ke a (by omega)).trans (v2.1 a (by omega))
    have k2 : K0 2 = I 2 := kf 2 (by omega)
    have hMk : K0 91 = μ := (kf 91 (by omega)).trans hM
    have hKk : MS K0 := by unfold MS at *; rw [kf 90 (by omega)]; exact hK
    refine WP.go 1 ?_
    show WP (Call d) 299 P X (1101, [some (vr (some 2) 102), some (vr (some 3) 9), some (vr (some 90) 10), some (vr (some 100) 13), some (vi i), some (vi 0), x6], [], (K0, H), c + 2, s + 12)
    refine WP.go 11 (Exists.intro (i + 1) (And.intro (wrp_a (by omega) (by omega)) (And.intro (And.intro rfl (And.intro (show 0 ≤ i + 1 from by omega) (show i + 1 < H.2.1 2 from by rw [hl2]; omega))) (Exists.intro (i + 2) (And.intro (wrp_a (by omega) (by omega)) (And.intro (And.intro rfl (And.intro (show 0 ≤ i + 2 from by omega) (show i + 2 < H.2.1 2 from by rw [hl2]; omega))) (?_)))))))
    show WP (Call d) 299 P X (1112, [some (vr (some 2) 102), some (vr (some 3) 9), some (vr (some 90) 10), some (vr (some 100) 13), some (vi i), some (vi 0), x6], [vi (K0 2 (i + 2)), vi (K0 2 (i + 1)), vr (some 90) 10], (K0, H), c + 2, s + 12)
    rw [k2]
    refine WP.go 1 (And.intro (And.intro (show c + 2 + 0 ≤ 601024 from by omega) (show s + 12 + 0 ≤ 7293034 from by omega)) (And.intro rfl (?_)))
    show Call d 247 [vr (some 90) 10, vi (I 2 (i + 1)), vi (I 2 (i + 2))] (K0, H) _ _
    refine s_12_build (by omega) hS hMk hV hKk (fun q => False.elim (by omega)) (fun q => False.elim (by omega)) (fun r0 K r2 r3 => ?_)
    show WP (Call d) 299 P X (1113, [some (vr (some 2) 102), some (vr (some 3) 9), some (vr (some 90) 10), some (vr (some 100) 13), some (vi i), some (vi 0), x6], [vi (μ (121 + 2 * ((I 2 (i + 1)))) + ((I 2 (i + 2))))], (K, H), c + 2 + 0, s + 12 + 0)
    have kk : K 100 = K0 100 := r2.1 100 (by omega)
    have k100 : K 100 0 = μ (121 + 2 * ((I 2 (i + 1)))) + ((I 2 (i + 2))) := by rw [kk, k1]
    rw [hK0] at r2
    refine WP.go 3 (And.intro (And.intro (show c + 2 + 0 + 0 ≤ 601024 from by omega) (show s + 12 + 0 + 0 ≤ 7293034 from by omega)) (And.intro rfl ?_))
    show Call d 176 [vr (some 90) 10] (K, H) _ _
    refine s_12_thrown (by omega) hS ?_
    show WP (Call d) 299 P X (1116, [some (vr (some 2) 102), some (vr (some 3) 9), some (vr (some 90) 10), some (vr (some 100) 13), some (vi i), some (vi 0), some (vi (μ (121 + 2 * ((I 2 (i + 1)))) + ((I 2 (i + 2)))))], [vi (K 90 0)], (K, H), c + 2 + 0 + 0, s + 12 + 0 + 0)
    refine WP.go 2 (And.intro (fun _ => ?_) (fun q => absurd r3 q))
    refine WP.go 2 (And.intro (fun q => absurd rfl q) (fun _ => ?_))
    refine WP.go 7 (And.intro (And.intro rfl (And.intro (by decide) (show (0 : Int) < H.2.1 100 from by rw [hl100]; decide))) (And.intro (fun _ => ?_) (fun q => absurd (zcmp_e k100) q)))
    refine WP.go 1 ?_
    show WP (Call d) 299 P X (1689, [some (vr (some 2) 102), some (vr (some 3) 9), some (vr (some 90) 10), some (vr (some 100) 13), some (vi i), some (vi 0), some (vi (μ (121 + 2 * ((I 2 (i + 1)))) + ((I 2 (i + 2)))))], [], (K, H), c + 2 + 0 + 0, s + 12 + 0 + 0)
    exact h _ _ _ _ _ _ (hI.u v2 r2 (IM_uBld hV v1.1 v1.2) (by rw [hM]; exact (uBld_hi hV v1.1).1) (by rw [hM]; exact (uBld_hi hV v1.1).2)) ⟨by omega, by omega⟩
  ·
    show WP (Call d) 299 P X (1100, [some (vr (some 2) 102), some (vr (some 3) 9), some (vr (some 90) 10), some (vr (some 100) 13), some (vi i), x5, x6], [vi 1], (I, H), c + 2, s + 12)
    obtain ⟨K0, hK0⟩ : ∃ K0, K0 = I := ⟨_, rfl⟩
    rw [← hK0]
    have kf : ∀ a, a < 6 ∨ (90 ≤ a ∧ a ≠ 100) → K0 a = I a := fun a q => by rw [hK0]
    have k2 : K0 2 = I 2 := kf 2 (by omega)
    have hMk : K0 91 = μ := (kf 91 (by omega)).trans hM
    have hKk : MS K0 := by unfold MS at *; rw [kf 90 (by omega)]; exact hK
    refine WP.go 1 ?_
    show WP (Call d) 299 P X (1101, [some (vr (some 2) 102), some (vr (some 3) 9), some (vr (some 90) 10), some (vr (some 100) 13), some (vi i), some (vi 1), x6], [], (K0, H), c + 2, s + 12)
    refine WP.go 11 (Exists.intro (i + 1) (And.intro (wrp_a (by omega) (by omega)) (And.intro (And.intro rfl (And.intro (show 0 ≤ i + 1 from by omega) (show i + 1 < H.2.1 2 from by rw [hl2]; omega))) (Exists.intro (i + 2) (And.intro (wrp_a (by omega) (by omega)) (And.intro (And.intro rfl (And.intro (show 0 ≤ i + 2 from by omega) (show i + 2 < H.2.1 2 from by rw [hl2]; omega))) (?_)))))))
    show WP (Call d) 299 P X (1112, [some (vr (some 2) 102), some (vr (some 3) 9), some (vr (some 90) 10), some (vr (some 100) 13), some (vi i), some (vi 1), x6], [vi (K0 2 (i + 2)), vi (K0 2 (i + 1)), vr (some 90) 10], (K0, H), c + 2, s + 12)
    rw [k2]
    refine WP.go 1 (And.intro (And.intro (show c + 2 + 0 ≤ 601024 from by omega) (show s + 12 + 0 ≤ 7293034 from by omega)) (And.intro rfl (?_)))
    show Call d 247 [vr (some 90) 10, vi (I 2 (i + 1)), vi (I 2 (i + 2))] (K0, H) _ _
    refine s_12_build (by omega) hS hMk hV hKk (fun r0 K v r3 r4 r5 => ?_) (fun q => False.elim (by omega)) (fun q => False.elim (by omega))
    show WP (Call d) 299 P X (1113, [some (vr (some 2) 102), some (vr (some 3) 9), some (vr (some 90) 10), some (vr (some 100) 13), some (vi i), some (vi 1), x6], [vi (v)], (K, H), c + 2 + 0, s + 12 + 0)
    rw [hK0] at r4
    refine WP.go 3 (And.intro (And.intro (show c + 2 + 0 + 0 ≤ 601024 from by omega) (show s + 12 + 0 + 0 ≤ 7293034 from by omega)) (And.intro rfl ?_))
    show Call d 176 [vr (some 90) 10] (K, H) _ _
    refine s_12_thrown (by omega) hS ?_
    show WP (Call d) 299 P X (1116, [some (vr (some 2) 102), some (vr (some 3) 9), some (vr (some 90) 10), some (vr (some 100) 13), some (vi i), some (vi 1), some (vi (v))], [vi (K 90 0)], (K, H), c + 2 + 0 + 0, s + 12 + 0 + 0)
    refine WP.go 2 (And.intro (fun _ => ?_) (fun q => absurd r5 q))
    refine WP.go 2 (And.intro (fun _ => ?_) (fun q => absurd q (by decide)))
    refine WP.go 1 ?_
    show WP (Call d) 299 P X (1689, [some (vr (some 2) 102), some (vr (some 3) 9), some (vr (some 90) 10), some (vr (some 100) 13), some (vi i), some (vi 1), some (vi (v))], [], (K, H), c + 2 + 0 + 0, s + 12 + 0 + 0)
    exact h _ _ _ _ _ _ (hI.m (CF.rf I) r4) ⟨by omega, by omega⟩
  ·
    show WP (Call d) 299 P X (1100, [some (vr (some 2) 102), some (vr (some 3) 9), some (vr (some 90) 10), some (vr (some 100) 13), some (vi i), x5, x6], [vi 2], (I, H), c + 2, s + 12)
    obtain ⟨K0, hK0⟩ : ∃ K0, K0 = I := ⟨_, rfl⟩
    rw [← hK0]
    have kf : ∀ a, a < 6 ∨ (90 ≤ a ∧ a ≠ 100) → K0 a = I a := fun a q => by rw [hK0]
    have k2 : K0 2 = I 2 := kf 2 (by omega)
    have hMk : K0 91 = μ := (kf 91 (by omega)).trans hM
    have hKk : MS K0 := by unfold MS at *; rw [kf 90 (by omega)]; exact hK
    refine WP.go 1 ?_
    show WP (Call d) 299 P X (1101, [some (vr (some 2) 102), some (vr (some 3) 9), some (vr (some 90) 10), some (vr (some 100) 13), some (vi i), some (vi 2), x6], [], (K0, H), c + 2, s + 12)
    refine WP.go 11 (Exists.intro (i + 1) (And.intro (wrp_a (by omega) (by omega)) (And.intro (And.intro rfl (And.intro (show 0 ≤ i + 1 from by omega) (show i + 1 < H.2.1 2 from by rw [hl2]; omega))) (Exists.intro (i + 2) (And.intro (wrp_a (by omega) (by omega)) (And.intro (And.intro rfl (And.intro (show 0 ≤ i + 2 from by omega) (show i + 2 < H.2.1 2 from by rw [hl2]; omega))) (?_)))))))
    show WP (Call d) 299 P X (1112, [some (vr (some 2) 102), some (vr (some 3) 9), some (vr (some 90) 10), some (vr (some 100) 13), some (vi i), some (vi 2), x6], [vi (K0 2 (i + 2)), vi (K0 2 (i + 1)), vr (some 90) 10], (K0, H), c + 2, s + 12)
    rw [k2]
    refine WP.go 1 (And.intro (And.intro (show c + 2 + 0 ≤ 601024 from by omega) (show s + 12 + 0 ≤ 7293034 from by omega)) (And.intro rfl (?_)))
    show Call d 247 [vr (some 90) 10, vi (I 2 (i + 1)), vi (I 2 (i + 2))] (K0, H) _ _
    refine s_12_build (by omega) hS hMk hV hKk (fun q => False.elim (by omega)) (fun r0 K v r3 r4 r5 => ?_) (fun q => False.elim (by omega))
    show WP (Call d) 299 P X (1113, [some (vr (some 2) 102), some (vr (some 3) 9), some (vr (some 90) 10), some (vr (some 100) 13), some (vi i), some (vi 2), x6], [vi (v)], (K, H), c + 2 + 0, s + 12 + 0)
    rw [hK0] at r4
    refine WP.go 3 (And.intro (And.intro (show c + 2 + 0 + 0 ≤ 601024 from by omega) (show s + 12 + 0 + 0 ≤ 7293034 from by omega)) (And.intro rfl ?_))
    show Call d 176 [vr (some 90) 10] (K, H) _ _
    refine s_12_thrown (by omega) hS ?_
    show WP (Call d) 299 P X (1116, [some (vr (some 2) 102), some (vr (some 3) 9), some (vr (some 90) 10), some (vr (some 100) 13), some (vi i), some (vi 2), some (vi (v))], [vi (K 90 0)], (K, H), c + 2 + 0 + 0, s + 12 + 0 + 0)
    refine WP.go 2 (And.intro (fun _ => ?_) (fun q => absurd r5 q))
    refine WP.go 2 (And.intro (fun _ => ?_) (fun q => absurd q (by decide)))
    refine WP.go 1 ?_
    show WP (Call d) 299 P X (1689, [some (vr (some 2) 102), some (vr (some 3) 9), some (vr (some 90) 10), some (vr (some 100) 13), some (vi i), some (vi 2), some (vi (v))], [], (K, H), c + 2 + 0 + 0, s + 12 + 0 + 0)
    exact h _ _ _ _ _ _ (hI.m (CF.rf I) r4) ⟨by omega, by omega⟩

set_option maxRecDepth 20000 in
theorem law_31 {d : Nat} {P : Option qV → qH → Prop} {X : Nat → qH → Prop} {I : qI} {H : qS} {f : Int → Int} {L i : Int} {x5 x6 : Option qV} {c s : Nat} (hd : 100 ≤ d) (hI : LI f L i I H) (hi : 0 ≤ i ∧ i + 6 ≤ L ∧ L ≤ 3072) (hc : (c : Int) ≤ 1000 + 100 * i ∧ (s : Int) ≤ 40000 + 2000 * i) (h : ∀ (K : qI) (G : qS) (y5 y6 : Option qV) (c9 s9 : Nat), LI f L (i + 6) K G → (c9 ≤ c + 90 ∧ s9 ≤ s + 9000) → WP (Call d) 299 P X (1689, [some (vr (some 2) 102), some (vr (some 3) 9), some (vr (some 90) 10), some (vr (some 100) 13), some (vi i), y5, y6], [], (K, G), c9, s9)) :
    WP (Call d) 299 P X (1344, [some (vr (some 2) 102), some (vr (some 3) 9), some (vr (some 90) 10), some (vr (some 100) 13), some (vi i), x5, x6], [], (I, H), c, s) := by
  obtain ⟨hS, hX, ⟨hf2, hl2⟩, ⟨hT, hV, hO, hLL⟩, ⟨hC, hC2⟩, hK, hKP, hTP, hFX, h10⟩ := id hI
  have hl100 := hS.l100
  generalize hM : I 91 = μ at *
  refine WP.go 17 (Exists.intro (i + 1) (And.intro (wrp_a (by omega) (by omega)) (And.intro (And.intro rfl (And.intro (show 0 ≤ i + 1 from by omega) (show i + 1 < H.2.1 2 from by rw [hl2]; omega))) (Exists.intro (i + 2) (And.intro (wrp_a (by omega) (by omega)) (And.intro (And.intro rfl (And.intro (show 0 ≤ i + 2 from by omega) (show i + 2 < H.2.1 2 from by rw [hl2]; omega))) (Exists.intro (i + 3) (And.intro (wrp_a (by omega) (by omega)) (And.intro (And.intro rfl (And.intro (show 0 ≤ i + 3 from by omega) (show i + 3 < H.2.1 2 from by rw [hl2]; omega))) (And.intro (And.intro (show c + 4 ≤ 601024 from by omega) (show s + 24 ≤ 7293034 from by omega)) (And.intro rfl (?_))))))))))))
  show Call d 293 [vr (some 3) 9, vi (I 2 (i + 1)), vi (I 2 (i + 2)), vi (I 2 (i + 3))] (I, H) _ _
  refine hl_wants (by omega) hS hX hT hV (fun v1 J v2 => ?_) (fun v1 => ?_) (fun v1 => ?_)
  ·
    show WP (Call d) 299 P X (1361, [some (vr (some 2) 102), some (vr (some 3) 9), some (vr (some 90) 10), some (vr (some 100) 13), some (vi i), x5, x6], [vi 0], (J, H), c + 4, s + 24)
    obtain ⟨K0, hK0⟩ : ∃ K0, K0 = J := ⟨_, rfl⟩
    rw [← hK0]
    have ke : ∀ a, a ≠ 100 → K0 a = J a := fun a q => by rw [hK0]
    have kf : ∀ a, a < 6 ∨ (90 ≤ a ∧ a ≠ 100) → K0 a = I a := fun a q => (ke a (by omega)).trans (v2.1 a (by omega))
    have k2 : K0 2 = I 2 := kf 2 (by omega)
    have hMk : K0 91 = μ := (kf 91 (by omega)).trans hM
    have hKk : MS K0 := by unfold MS at *; rw [kf 90 (by omega)]; exact hK
    refine WP.go 1 ?_
    show WP (Call d) 299 P X (1362, [some (vr (some 2) 102), some (vr (some 3) 9), some (vr (some 90) 10), some (vr (some 100) 13), some (vi i), some (vi 0), x6], [], (K0, H), c + 4, s + 24)
    refine WP.go 16 (Exists.intro (i + 1) (And.intro (wrp_a (by omega) (by omega)) (And.intro (And.intro rfl (And.intro (show 0 ≤ i + 1 from by omega) (show i + 1 < H.2.1 2 from by rw [hl2]; omega))) (Exists.intro (i + 2) (And.intro (wrp_a (by omega) (by omega)) (And.intro (And.intro rfl (And.intro (show 0 ≤ i + 2 from by omega) (show i + 2 < H.2.1 2 from by rw [hl2]; omega))) (Exists.intro (i + 3) (And.intro (wrp_a (by omega) (by omega)) (And.intro (And.intro rfl (And.intro (show 0 ≤ i + 3 from by omega) (show i + 3 < H.2.1 2 from by rw [hl2]; omega))) (?_))))))))))
    show WP (Call d) 299 P X (1378, [some (vr (some 2) 102), some (vr (some 3) 9), some (vr (some 90) 10), some (vr (some 100) 13), some (vi i), some (vi 0), x6], [vi (K0 2 (i + 3)), vi (K0 2 (i + 2)), vi (K0 2 (i + 1)), vr (some 90) 10], (K0, H), c + 4, s + 24)
    rw [k2]
    refine WP.go 1 (And.intro (And.intro (show c + 4 + 0 ≤ 601024 from by omega) (show s + 24 + 0 ≤ 7293034 from by omega)) (And.intro rfl (?_)))
    show Call d 253 [vr (some 90) 10, vi (I 2 (i + 1)), vi (I 2 (i + 2)), vi (I 2 (i + 3))] (K0, H) _ _
    refine s_12_wants (by omega) hS hMk hV hKk (fun q => False.elim (by omega)) (fun q => False.elim (by omega)) (fun r0 K r2 r3 => ?_)
    show WP (Call d) 299 P X (1379, [some (vr (some 2) 102), some (vr (some 3) 9), some (vr (some 90) 10), some (vr (some 100) 13), some (vi i), some (vi 0), x6], [], (K, H), c + 4 + 0, s + 24 + 0)
    have k100 := 0
    rw [hK0] at r2
    refine WP.go 2 (And.intro (And.intro (show c + 4 + 0 + 0 ≤ 601024 from by omega) (show s + 24 + 0 + 0 ≤ 7293034 from by omega)) (And.intro rfl ?_))
    show Call d 176 [vr (some 90) 10] (K, H) _ _
    refine s_12_thrown (by omega) hS ?_
    show WP (Call d) 299 P X (1381, [some (vr (some 2) 102), some (vr (some 3) 9), some (vr (some 90) 10), some (vr (some 100) 13), some (vi i), some (vi 0), x6], [vi (K 90 0)], (K, H), c + 4 + 0 + 0, s + 24 + 0 + 0)
    refine WP.go 2 (And.intro (fun _ => ?_) (fun q => absurd r3 q))
    refine WP.go 1 ?_
    show WP (Call d) 299 P X (1689, [some (vr (some 2) 102), some (vr (some 3) 9), some (vr (some 90) 10), some (vr (some 100) 13), some (vi i), some (vi 0), x6], [], (K, H), c + 4 + 0 + 0, s + 24 + 0 + 0)
    exact h _ _ _ _ _ _ (hI.u0 v2 r2 (IM_uWan hV v1) (by rw [hM]; exact (uWan_hi hV v1.1.1).1) (by rw [hM]; exact (uWan_hi hV v1.1.1).2)) ⟨by omega, by omega⟩
  ·
    show WP (Call d) 299 P X (1361, [some (vr (some 2) 102), some (vr (some 3) 9), some (vr (some 90) 10), some (vr (some 100) 13), some (vi i), x5, x6], [vi 1], (I, H), c + 4, s + 24)
    obtain ⟨K0, hK0⟩ : ∃ K0, K0 = I := ⟨_, rfl⟩
    rw [← hK0]
    have kf : ∀ a, a < 6 ∨ (90 ≤ a ∧ a ≠ 100) → K0 a = I a := fun a q => by rw [hK0]
    have k2 : K0 2 = I 2 := kf 2 (by omega)
    have hMk : K0 91 = μ := (kf 91 (by omega)).trans hM
    have hKk : MS K0 := by unfold MS at *; rw [kf 90 (by omega)]; exact hK
    refine WP.go 1 ?_
    show WP (Call d) 299 P X (1362, [some (vr (some 2) 102), some (vr (some 3) 9), some (vr (some 90) 10), some (vr (some 100) 13), some (vi i), some (vi 1), x6], [], (K0, H), c + 4, s + 24)
    refine WP.go 16 (Exists.intro (i + 1) (And.intro (wrp_a (by omega) (by omega)) (And.intro (And.intro rfl (And.intro (show 0 ≤ i + 1 from by omega) (show i + 1 < H.2.1 2 from by rw [hl2]; omega))) (Exists.intro (i + 2) (And.intro (wrp_a (by omega) (by omega)) (And.intro (And.intro rfl (And.intro (show 0 ≤ i + 2 from by omega) (show i + 2 < H.2.1 2 from by rw [hl2]; omega))) (Exists.intro (i + 3) (And.intro (wrp_a (by omega) (by omega)) (And.intro (And.intro rfl (And.intro (show 0 ≤ i + 3 from by omega) (show i + 3 < H.2.1 2 from by rw [hl2]; omega))) (?_))))))))))
    show WP (Call d) 299 P X (1378, [some (vr (some 2) 102), some (vr (some 3) 9), some (vr (some 90) 10), some (vr (some 100) 13), some (vi i), some (vi 1), x6], [vi (K0 2 (i + 3)), vi (K0 2 (i + 2)), vi (K0 2 (i + 1)), vr (some 90) 10], (K0, H), c + 4, s + 24)
    rw [k2]
    refine WP.go 1 (And.intro (And.intro (show c + 4 + 0 ≤ 601024 from by omega) (show s + 24 + 0 ≤ 7293034 from by omega)) (And.intro rfl (?_)))
    show Call d 253 [vr (some 90) 10, vi (I 2 (i + 1)), vi (I 2 (i + 2)), vi (I 2 (i + 3))] (K0, H) _ _
    refine s_12_wants (by omega) hS hMk hV hKk (fun r0 K v r3 r4 r5 => ?_) (fun q => False.elim (by omega)) (fun q => False.elim (by omega))
    show WP (Call d) 299 P X (1379, [some (vr (some 2) 102), some (vr (some 3) 9), some (vr (some 90) 10), some (vr (some 100) 13), some (vi i), some (vi 1), x6], [], (K, H), c + 4 + 0, s + 24 + 0)
    rw [hK0] at r4
    refine WP.go 2 (And.intro (And.intro (show c + 4 + 0 + 0 ≤ 601024 from by omega) (show s + 24 + 0 + 0 ≤ 7293034 from by omega)) (And.intro rfl ?_))
    show Call d 176 [vr (some 90) 10] (K, H) _ _
    refine s_12_thrown (by omega) hS ?_
    show WP (Call d) 299 P X (1381, [some (vr (some 2) 102), some (vr (some 3) 9), some (vr (some 90) 10), some (vr (some 100) 13), some (vi i), some (vi 1), x6], [vi (K 90 0)], (K, H), c + 4 + 0 + 0, s + 24 + 0 + 0)
    refine WP.go 2 (And.intro (fun _ => ?_) (fun q => absurd r5 q))
    refine WP.go 1 ?_
    show WP (Call d) 299 P X (1689, [some (vr (some 2) 102), some (vr (some 3) 9), some (vr (some 90) 10), some (vr (some 100) 13), some (vi i), some (vi 1), x6], [], (K, H), c + 4 + 0 + 0, s + 24 + 0 + 0)
    exact h _ _ _ _ _ _ (hI.m (CF.rf I) r4) ⟨by omega, by omega⟩
  ·
    show WP (Call d) 299 P X (1361, [some (vr (some 2) 102), some (vr (some 3) 9), some (vr (some 90) 10), some (vr (some 100) 13), some (vi i), x5, x6], [vi 2], (I, H), c + 4, s + 24)
    obtain ⟨K0, hK0⟩ : ∃ K0, K0 = I := ⟨_, rfl⟩
    rw [← hK0]
    have kf : ∀ a, a < 6 ∨ (90 ≤ a ∧ a ≠ 100) → K0 a = I a := fun a q => by rw [hK0]
    have k2 : K0 2 = I 2 := kf 2 (by omega)
    have hMk : K0 91 = μ := (kf 91 (by omega)).trans hM
    have hKk : MS K0 := by unfold MS at *; rw [kf 90 (by omega)]; exact hK
    refine WP.go 1 ?_
    show WP (Call d) 299 P X (1362, [some (vr (some 2) 102), some (vr (some 3) 9), some (vr (some 90) 10), some (vr (some 100) 13), some (vi i), some (vi 2), x6], [], (K0, H), c + 4, s + 24)
    refine WP.go 16 (Exists.intro (i + 1) (And.intro (wrp_a (by omega) (by omega)) (And.intro (And.intro rfl (And.intro (show 0 ≤ i + 1 from by omega) (show i + 1 < H.2.1 2 from by rw [hl2]; omega))) (Exists.intro (i + 2) (And.intro (wrp_a (by omega) (by omega)) (And.intro (And.intro rfl (And.intro (show 0 ≤ i + 2 from by omega) (show i + 2 < H.2.1 2 from by rw [hl2]; omega))) (Exists.intro (i + 3) (And.intro (wrp_a (by omega) (by omega)) (And.intro (And.intro rfl (And.intro (show 0 ≤ i + 3 from by omega) (show i + 3 < H.2.1 2 from by rw [hl2]; omega))) (?_))))))))))
    show WP (Call d) 299 P X (1378, [some (vr (some 2) 102), some (vr (some 3) 9), some (vr (some 90) 10), some (vr (some 100) 13), some (vi i), some (vi 2), x6], [vi (K0 2 (i + 3)), vi (K0 2 (i + 2)), vi (K0 2 (i + 1)), vr (some 90) 10], (K0, H), c + 4, s + 24)
    rw [k2]
    refine WP.go 1 (And.intro (And.intro (show c + 4 + 0 ≤ 601024 from by omega) (show s + 24 + 0 ≤ 7293034 from by omega)) (And.intro rfl (?_)))
    show Call d 253 [vr (some 90) 10, vi (I 2 (i + 1)), vi (I 2 (i + 2)), vi (I 2 (i + 3))] (K0, H) _ _
    refine s_12_wants (by omega) hS hMk hV hKk (fun q => False.elim (by omega)) (fun r0 K v r3 r4 r5 => ?_) (fun q => False.elim (by omega))
    show WP (Call d) 299 P X (1379, [some (vr (some 2) 102), some (vr (some 3) 9), some (vr (some 90) 10), some (vr (some 100) 13), some (vi i), some (vi 2), x6], [], (K, H), c + 4 + 0, s + 24 + 0)
    rw [hK0] at r4
    refine WP.go 2 (And.intro (And.intro (show c + 4 + 0 + 0 ≤ 601024 from by omega) (show s + 24 + 0 + 0 ≤ 7293034 from by omega)) (And.intro rfl ?_))
    show Call d 176 [vr (some 90) 10] (K, H) _ _
    refine s_12_thrown (by omega) hS ?_
    show WP (Call d) 299 P X (1381, [some (vr (some 2) 102), some (vr (some 3) 9), some (vr (some 90) 10), some (vr (some 100) 13), some (vi i), some (vi 2), x6], [vi (K 90 0)], (K, H), c + 4 + 0 + 0, s + 24 + 0 + 0)
    refine WP.go 2 (And.intro (fun _ => ?_) (fun q => absurd r5 q))
    refine WP.go 1 ?_
    show WP (Call d) 299 P X (1689, [some (vr (some 2) 102), some (vr (some 3) 9), some (vr (some 90) 10), some (vr (some 100) 13), some (vi i), some (vi 2), x6], [], (K, H), c + 4 + 0 + 0, s + 24 + 0 + 0)
    exact h _ _ _ _ _ _ (hI.m (CF.rf I) r4) ⟨by omega, by omega⟩

