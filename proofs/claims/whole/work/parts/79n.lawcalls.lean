theorem zcmp_e {a b : Int} (h : a = b) : zcmp a b = 0 := by subst h; unfold zcmp; rw [if_neg (by omega), if_pos rfl]
theorem LI.s {f : Int → Int} {L i : Int} {I : qI} {H : qS} (h : LI f L i I H) : LI f L (i + 6) I H := h.qf (fun _ _ => rfl) (fun _ _ => rfl) h.2.2.2.2.2.1 (h.2.2.2.2.2.2.2.2.1.fr rfl (fun _ _ => rfl))
set_option maxRecDepth 20000 in
theorem law_5 {d : Nat} {P : Option qV → qH → Prop} {X : Nat → qH → Prop} {I : qI} {H : qS} {f : Int → Int} {L i : Int} {x5 x6 : Option qV} {c s : Nat} (hd : 100 ≤ d) (hI : LI f L i I H) (hi : 0 ≤ i ∧ i + 6 ≤ L ∧ L ≤ 3072) (hc : (c : Int) ≤ 1000 + 100 * i ∧ (s : Int) ≤ 40000 + 2000 * i) (h : ∀ (K : qI) (G : qS) (y5 y6 : Option qV) (c9 s9 : Nat), LI f L (i + 6) K G → (c9 ≤ c + 90 ∧ s9 ≤ s + 9000) → WP (Call d) 299 P X (1689, [some (vr (some 2) 102), some (vr (some 3) 9), some (vr (some 90) 10), some (vr (some 100) 13), some (vi i), y5, y6], [], (K, G), c9, s9)) :
    WP (Call d) 299 P X (156, [some (vr (some 2) 102), some (vr (some 3) 9), some (vr (some 90) 10), some (vr (some 100) 13), some (vi i), x5, x6], [], (I, H), c, s) := by
  obtain ⟨hS, hX, ⟨hf2, hl2⟩, ⟨hT, hV, hO, hLL⟩, ⟨hC, hC2⟩, hK, hKP, hTP, hFX, h10⟩ := id hI
  have hl100 := hS.l100
  generalize hM : I 91 = μ at *
  refine WP.go 13 (Exists.intro (i + 1) (And.intro (wrp_a (by omega) (by omega)) (And.intro (And.intro rfl (And.intro (show 0 ≤ i + 1 from by omega) (show i + 1 < H.2.1 2 from by rw [hl2]; omega))) (Exists.intro (i + 2) (And.intro (wrp_a (by omega) (by omega)) (And.intro (And.intro rfl (And.intro (show 0 ≤ i + 2 from by omega) (show i + 2 < H.2.1 2 from by rw [hl2]; omega))) (And.intro (And.intro (show c + 2 ≤ 601024 from by omega) (show s + 12 ≤ 7293034 from by omega)) (And.intro rfl (?_)))))))))
  show Call d 270 [vr (some 3) 9, vi (I 2 (i + 1)), vi (I 2 (i + 2)), vr (some 100) 13] (I, H) _ _
  refine hl_look (by omega) hS hT hV (fun v1 => ?_) (fun v1 => ?_) (fun v1 => ?_)
  ·
    show WP (Call d) 299 P X (169, [some (vr (some 2) 102), some (vr (some 3) 9), some (vr (some 90) 10), some (vr (some 100) 13), some (vi i), x5, x6], [vi 0], (upI I 100 0 (LOOK4 μ ((I 2 (i + 1))) ((I 2 (i + 2)))), H), c + 2, s + 12)
    obtain ⟨K0, hK0⟩ : ∃ K0, K0 = upI I 100 0 (LOOK4 μ ((I 2 (i + 1))) ((I 2 (i + 2)))) := ⟨_, rfl⟩
    rw [← hK0]
    have ke : ∀ a, a ≠ 100 → K0 a = I a := fun a q => by rw [hK0]; exact upI_cell q
    have k1 : K0 100 0 = LOOK4 μ ((I 2 (i + 1))) ((I 2 (i + 2))) := by rw [hK0]; exact upI_same _ _ _ _
    have kf : ∀ a, a < 6 ∨ (90 ≤ a ∧ a ≠ 100) → K0 a = I a := fun a q => ke a (by omega)
    have k2 : K0 2 = I 2 := kf 2 (by omega)
    have hMk : K0 91 = μ := (kf 91 (by omega)).trans hM
    have hKk : MS K0 := by unfold MS at *; rw [kf 90 (by omega)]; exact hK
    refine WP.go 1 ?_
    show WP (Call d) 299 P X (170, [some (vr (some 2) 102), some (vr (some 3) 9), some (vr (some 90) 10), some (vr (some 100) 13), some (vi i), some (vi 0), x6], [], (K0, H), c + 2, s + 12)
    refine WP.go 11 (Exists.intro (i + 1) (And.intro (wrp_a (by omega) (by omega)) (And.intro (And.intro rfl (And.intro (show 0 ≤ i + 1 from by omega) (show i + 1 < H.2.1 2 from by rw [hl2]; omega))) (Exists.intro (i + 2) (And.intro (wrp_a (by omega) (by omega)) (And.intro (And.intro rfl (And.intro (show 0 ≤ i + 2 from by omega) (show i + 2 < H.2.1 2 from by rw [hl2]; omega))) (?_)))))))
    show WP (Call d) 299 P X (181, [some (vr (some 2) 102), some (vr (some 3) 9), some (vr (some 90) 10), some (vr (some 100) 13), some (vi i), some (vi 0), x6], [vi (K0 2 (i + 2)), vi (K0 2 (i + 1)), vr (some 90) 10], (K0, H), c + 2, s + 12)
    rw [k2]
    refine WP.go 1 (And.intro (And.intro (show c + 2 + 0 ≤ 601024 from by omega) (show s + 12 + 0 ≤ 7293034 from by omega)) (And.intro rfl (?_)))
    show Call d 208 [vr (some 90) 10, vi (I 2 (i + 1)), vi (I 2 (i + 2))] (K0, H) _ _
    refine s_12_look (by omega) hS hMk hV hKk (fun q => False.elim (by omega)) (fun q => False.elim (by omega)) (fun r0 K r2 r3 => ?_)
    show WP (Call d) 299 P X (182, [some (vr (some 2) 102), some (vr (some 3) 9), some (vr (some 90) 10), some (vr (some 100) 13), some (vi i), some (vi 0), x6], [vi (LOOK4 μ ((I 2 (i + 1))) ((I 2 (i + 2))))], (K, H), c + 2 + 0, s + 12 + 0)
    have kk : K 100 = K0 100 := r2.1 100 (by omega)
    have k100 : K 100 0 = LOOK4 μ ((I 2 (i + 1))) ((I 2 (i + 2))) := by rw [kk, k1]
    rw [hK0] at r2
    refine WP.go 3 (And.intro (And.intro (show c + 2 + 0 + 0 ≤ 601024 from by omega) (show s + 12 + 0 + 0 ≤ 7293034 from by omega)) (And.intro rfl ?_))
    show Call d 176 [vr (some 90) 10] (K, H) _ _
    refine s_12_thrown (by omega) hS ?_
    show WP (Call d) 299 P X (185, [some (vr (some 2) 102), some (vr (some 3) 9), some (vr (some 90) 10), some (vr (some 100) 13), some (vi i), some (vi 0), some (vi (LOOK4 μ ((I 2 (i + 1))) ((I 2 (i + 2)))))], [vi (K 90 0)], (K, H), c + 2 + 0 + 0, s + 12 + 0 + 0)
    refine WP.go 2 (And.intro (fun _ => ?_) (fun q => absurd r3 q))
    refine WP.go 2 (And.intro (fun q => absurd rfl q) (fun _ => ?_))
    refine WP.go 7 (And.intro (And.intro rfl (And.intro (by decide) (show (0 : Int) < H.2.1 100 from by rw [hl100]; decide))) (And.intro (fun _ => ?_) (fun q => absurd (zcmp_e k100) q)))
    refine WP.go 1 ?_
    show WP (Call d) 299 P X (1689, [some (vr (some 2) 102), some (vr (some 3) 9), some (vr (some 90) 10), some (vr (some 100) 13), some (vi i), some (vi 0), some (vi (LOOK4 μ ((I 2 (i + 1))) ((I 2 (i + 2)))))], [], (K, H), c + 2 + 0 + 0, s + 12 + 0 + 0)
    exact h _ _ _ _ _ _ (hI.q (CF.rf I) r2) ⟨by omega, by omega⟩
  ·
    show WP (Call d) 299 P X (169, [some (vr (some 2) 102), some (vr (some 3) 9), some (vr (some 90) 10), some (vr (some 100) 13), some (vi i), x5, x6], [vi 1], (I, H), c + 2, s + 12)
    obtain ⟨K0, hK0⟩ : ∃ K0, K0 = I := ⟨_, rfl⟩
    rw [← hK0]
    have kf : ∀ a, a < 6 ∨ (90 ≤ a ∧ a ≠ 100) → K0 a = I a := fun a q => by rw [hK0]
    have k2 : K0 2 = I 2 := kf 2 (by omega)
    have hMk : K0 91 = μ := (kf 91 (by omega)).trans hM
    have hKk : MS K0 := by unfold MS at *; rw [kf 90 (by omega)]; exact hK
    refine WP.go 1 ?_
    show WP (Call d) 299 P X (170, [some (vr (some 2) 102), some (vr (some 3) 9), some (vr (some 90) 10), some (vr (some 100) 13), some (vi i), some (vi 1), x6], [], (K0, H), c + 2, s + 12)
    refine WP.go 11 (Exists.intro (i + 1) (And.intro (wrp_a (by omega) (by omega)) (And.intro (And.intro rfl (And.intro (show 0 ≤ i + 1 from by omega) (show i + 1 < H.2.1 2 from by rw [hl2]; omega))) (Exists.intro (i + 2) (And.intro (wrp_a (by omega) (by omega)) (And.intro (And.intro rfl (And.intro (show 0 ≤ i + 2 from by omega) (show i + 2 < H.2.1 2 from by rw [hl2]; omega))) (?_)))))))
    show WP (Call d) 299 P X (181, [some (vr (some 2) 102), some (vr (some 3) 9), some (vr (some 90) 10), some (vr (some 100) 13), some (vi i), some (vi 1), x6], [vi (K0 2 (i + 2)), vi (K0 2 (i + 1)), vr (some 90) 10], (K0, H), c + 2, s + 12)
    rw [k2]
    refine WP.go 1 (And.intro (And.intro (show c + 2 + 0 ≤ 601024 from by omega) (show s + 12 + 0 ≤ 7293034 from by omega)) (And.intro rfl (?_)))
    show Call d 208 [vr (some 90) 10, vi (I 2 (i + 1)), vi (I 2 (i + 2))] (K0, H) _ _
    refine s_12_look (by omega) hS hMk hV hKk (fun r0 K v r3 r4 r5 => ?_) (fun q => False.elim (by omega)) (fun q => False.elim (by omega))
    show WP (Call d) 299 P X (182, [some (vr (some 2) 102), some (vr (some 3) 9), some (vr (some 90) 10), some (vr (some 100) 13), some (vi i), some (vi 1), x6], [vi (v)], (K, H), c + 2 + 0, s + 12 + 0)
    rw [hK0] at r4
    refine WP.go 3 (And.intro (And.intro (show c + 2 + 0 + 0 ≤ 601024 from by omega) (show s + 12 + 0 + 0 ≤ 7293034 from by omega)) (And.intro rfl ?_))
    show Call d 176 [vr (some 90) 10] (K, H) _ _
    refine s_12_thrown (by omega) hS ?_
    show WP (Call d) 299 P X (185, [some (vr (some 2) 102), some (vr (some 3) 9), some (vr (some 90) 10), some (vr (some 100) 13), some (vi i), some (vi 1), some (vi (v))], [vi (K 90 0)], (K, H), c + 2 + 0 + 0, s + 12 + 0 + 0)
    refine WP.go 2 (And.intro (fun _ => ?_) (fun q => absurd r5 q))
    refine WP.go 2 (And.intro (fun _ => ?_) (fun q => absurd q (by decide)))
    refine WP.go 1 ?_
    show WP (Call d) 299 P X (1689, [some (vr (some 2) 102), some (vr (some 3) 9), some (vr (some 90) 10), some (vr (some 100) 13), some (vi i), some (vi 1), some (vi (v))], [], (K, H), c + 2 + 0 + 0, s + 12 + 0 + 0)
    exact h _ _ _ _ _ _ (hI.m (CF.rf I) r4) ⟨by omega, by omega⟩
  ·
    show WP (Call d) 299 P X (169, [some (vr (some 2) 102), some (vr (some 3) 9), some (vr (some 90) 10), some (vr (some 100) 13), some (vi i), x5, x6], [vi 2], (I, H), c + 2, s + 12)
    obtain ⟨K0, hK0⟩ : ∃ K0, K0 = I := ⟨_, rfl⟩
    rw [← hK0]
    have kf : ∀ a, a < 6 ∨ (90 ≤ a ∧ a ≠ 100) → K0 a = I a := fun a q => by rw [hK0]
    have k2 : K0 2 = I 2 := kf 2 (by omega)
    have hMk : K0 91 = μ := (kf 91 (by omega)).trans hM
    have hKk : MS K0 := by unfold MS at *; rw [kf 90 (by omega)]; exact hK
    refine WP.go 1 ?_
    show WP (Call d) 299 P X (170, [some (vr (some 2) 102), some (vr (some 3) 9), some (vr (some 90) 10), some (vr (some 100) 13), some (vi i), some (vi 2), x6], [], (K0, H), c + 2, s + 12)
    refine WP.go 11 (Exists.intro (i + 1) (And.intro (wrp_a (by omega) (by omega)) (And.intro (And.intro rfl (And.intro (show 0 ≤ i + 1 from by omega) (show i + 1 < H.2.1 2 from by rw [hl2]; omega))) (Exists.intro (i + 2) (And.intro (wrp_a (by omega) (by omega)) (And.intro (And.intro rfl (And.intro (show 0 ≤ i + 2 from by omega) (show i + 2 < H.2.1 2 from by rw [hl2]; omega))) (?_)))))))
    show WP (Call d) 299 P X (181, [some (vr (some 2) 102), some (vr (some 3) 9), some (vr (some 90) 10), some (vr (some 100) 13), some (vi i), some (vi 2), x6], [vi (K0 2 (i + 2)), vi (K0 2 (i + 1)), vr (some 90) 10], (K0, H), c + 2, s + 12)
    rw [k2]
    refine WP.go 1 (And.intro (And.intro (show c + 2 + 0 ≤ 601024 from by omega) (show s + 12 + 0 ≤ 7293034 from by omega)) (And.intro rfl (?_)))
    show Call d 208 [vr (some 90) 10, vi (I 2 (i + 1)), vi (I 2 (i + 2))] (K0, H) _ _
    refine s_12_look (by omega) hS hMk hV hKk (fun q => False.elim (by omega)) (fun r0 K v r3 r4 r5 => ?_) (fun q => False.elim (by omega))
    show WP (Call d) 299 P X (182, [some (vr (some 2) 102), some (vr (some 3) 9), some (vr (some 90) 10), some (vr (some 100) 13), some (vi i), some (vi 2), x6], [vi (v)], (K, H), c + 2 + 0, s + 12 + 0)
    rw [hK0] at r4
    refine WP.go 3 (And.intro (And.intro (show c + 2 + 0 + 0 ≤ 601024 from by omega) (show s + 12 + 0 + 0 ≤ 7293034 from by omega)) (And.intro rfl ?_))
    show Call d 176 [vr (some 90) 10] (K, H) _ _
    refine s_12_thrown (by omega) hS ?_
    show WP (Call d) 299 P X (185, [some (vr (some 2) 102), some (vr (some 3) 9), some (vr (some 90) 10), some (vr (some 100) 13), some (vi i), some (vi 2), some (vi (v))], [vi (K 90 0)], (K, H), c + 2 + 0 + 0, s + 12 + 0 + 0)
    refine WP.go 2 (And.intro (fun _ => ?_) (fun q => absurd r5 q))
    refine WP.go 2 (And.intro (fun _ => ?_) (fun q => absurd q (by decide)))
    refine WP.go 1 ?_
    show WP (Call d) 299 P X (1689, [some (vr (some 2) 102), some (vr (some 3) 9), some (vr (some 90) 10), some (vr (some 100) 13), some (vi i), some (vi 2), some (vi (v))], [], (K, H), c + 2 + 0 + 0, s + 12 + 0 + 0)
    exact h _ _ _ _ _ _ (hI.m (CF.rf I) r4) ⟨by omega, by omega⟩

set_option maxRecDepth 20000 in
theorem law_6 {d : Nat} {P : Option qV → qH → Prop} {X : Nat → qH → Prop} {I : qI} {H : qS} {f : Int → Int} {L i : Int} {x5 x6 : Option qV} {c s : Nat} (hd : 100 ≤ d) (hI : LI f L i I H) (hi : 0 ≤ i ∧ i + 6 ≤ L ∧ L ≤ 3072) (hc : (c : Int) ≤ 1000 + 100 * i ∧ (s : Int) ≤ 40000 + 2000 * i) (h : ∀ (K : qI) (G : qS) (y5 y6 : Option qV) (c9 s9 : Nat), LI f L (i + 6) K G → (c9 ≤ c + 90 ∧ s9 ≤ s + 9000) → WP (Call d) 299 P X (1689, [some (vr (some 2) 102), some (vr (some 3) 9), some (vr (some 90) 10), some (vr (some 100) 13), some (vi i), y5, y6], [], (K, G), c9, s9)) :
    WP (Call d) 299 P X (201, [some (vr (some 2) 102), some (vr (some 3) 9), some (vr (some 90) 10), some (vr (some 100) 13), some (vi i), x5, x6], [], (I, H), c, s) := by
  obtain ⟨hS, hX, ⟨hf2, hl2⟩, ⟨hT, hV, hO, hLL⟩, ⟨hC, hC2⟩, hK, hKP, hTP, hFX, h10⟩ := id hI
  have hl100 := hS.l100
  generalize hM : I 91 = μ at *
  refine WP.go 8 (Exists.intro (i + 1) (And.intro (wrp_a (by omega) (by omega)) (And.intro (And.intro rfl (And.intro (show 0 ≤ i + 1 from by omega) (show i + 1 < H.2.1 2 from by rw [hl2]; omega))) (And.intro (And.intro (show c + 1 ≤ 601024 from by omega) (show s + 6 ≤ 7293034 from by omega)) (And.intro rfl (?_))))))
  show Call d 271 [vr (some 3) 9, vi (I 2 (i + 1)), vr (some 100) 13] (I, H) _ _
  refine hl_angle (by omega) hS hX hT hV (fun v1 J v2 => ?_) (fun v1 => ?_)
  ·
    show WP (Call d) 299 P X (209, [some (vr (some 2) 102), some (vr (some 3) 9), some (vr (some 90) 10), some (vr (some 100) 13), some (vi i), x5, x6], [vi 0], (upI J 100 0 (AN μ ((I 2 (i + 1)))), H), c + 1, s + 6)
    obtain ⟨K0, hK0⟩ : ∃ K0, K0 = upI J 100 0 (AN μ ((I 2 (i + 1)))) := ⟨_, rfl⟩
    rw [← hK0]
    have ke : ∀ a, a ≠ 100 → K0 a = J a := fun a q => by rw [hK0]; exact upI_cell q
    have k1 : K0 100 0 = AN μ ((I 2 (i + 1))) := by rw [hK0]; exact upI_same _ _ _ _
    have kf : ∀ a, a < 6 ∨ (90 ≤ a ∧ a ≠ 100) → K0 a = I a := fun a q => (ke a (by omega)).trans (v2 a (by omega))
    have k2 : K0 2 = I 2 := kf 2 (by omega)
    have hMk : K0 91 = μ := (kf 91 (by omega)).trans hM
    have hKk : MS K0 := by unfold MS at *; rw [kf 90 (by omega)]; exact hK
    refine WP.go 1 ?_
    show WP (Call d) 299 P X (210, [some (vr (some 2) 102), some (vr (some 3) 9), some (vr (some 90) 10), some (vr (some 100) 13), some (vi i), some (vi 0), x6], [], (K0, H), c + 1, s + 6)
    refine WP.go 6 (Exists.intro (i + 1) (And.intro (wrp_a (by omega) (by omega)) (And.intro (And.intro rfl (And.intro (show 0 ≤ i + 1 from by omega) (show i + 1 < H.2.1 2 from by rw [hl2]; omega))) (?_))))
    show WP (Call d) 299 P X (216, [some (vr (some 2) 102), some (vr (some 3) 9), some (vr (some 90) 10), some (vr (some 100) 13), some (vi i), some (vi 0), x6], [vi (K0 2 (i + 1)), vr (some 90) 10], (K0, H), c + 1, s + 6)
    rw [k2]
    refine WP.go 1 (And.intro (And.intro (show c + 1 + 0 ≤ 601024 from by omega) (show s + 6 + 0 ≤ 7293034 from by omega)) (And.intro rfl (?_)))
    show Call d 211 [vr (some 90) 10, vi (I 2 (i + 1))] (K0, H) _ _
    refine s_12_angle (by omega) hS hMk hV hKk (fun q => False.elim (by omega)) (fun r0 K r2 r3 => ?_)
    show WP (Call d) 299 P X (217, [some (vr (some 2) 102), some (vr (some 3) 9), some (vr (some 90) 10), some (vr (some 100) 13), some (vi i), some (vi 0), x6], [vi (AN μ ((I 2 (i + 1))))], (K, H), c + 1 + 0, s + 6 + 0)
    have kk : K 100 = K0 100 := r2.1 100 (by omega)
    have k100 : K 100 0 = AN μ ((I 2 (i + 1))) := by rw [kk, k1]
    rw [hK0] at r2
    refine WP.go 3 (And.intro (And.intro (show c + 1 + 0 + 0 ≤ 601024 from by omega) (show s + 6 + 0 + 0 ≤ 7293034 from by omega)) (And.intro rfl ?_))
    show Call d 176 [vr (some 90) 10] (K, H) _ _
    refine s_12_thrown (by omega) hS ?_
    show WP (Call d) 299 P X (220, [some (vr (some 2) 102), some (vr (some 3) 9), some (vr (some 90) 10), some (vr (some 100) 13), some (vi i), some (vi 0), some (vi (AN μ ((I 2 (i + 1)))))], [vi (K 90 0)], (K, H), c + 1 + 0 + 0, s + 6 + 0 + 0)
    refine WP.go 2 (And.intro (fun _ => ?_) (fun q => absurd r3 q))
    refine WP.go 2 (And.intro (fun q => absurd rfl q) (fun _ => ?_))
    refine WP.go 7 (And.intro (And.intro rfl (And.intro (by decide) (show (0 : Int) < H.2.1 100 from by rw [hl100]; decide))) (And.intro (fun _ => ?_) (fun q => absurd (zcmp_e k100) q)))
    refine WP.go 1 ?_
    show WP (Call d) 299 P X (1689, [some (vr (some 2) 102), some (vr (some 3) 9), some (vr (some 90) 10), some (vr (some 100) 13), some (vi i), some (vi 0), some (vi (AN μ ((I 2 (i + 1)))))], [], (K, H), c + 1 + 0 + 0, s + 6 + 0 + 0)
    exact h _ _ _ _ _ _ (hI.q v2 r2) ⟨by omega, by omega⟩
  ·
    show WP (Call d) 299 P X (209, [some (vr (some 2) 102), some (vr (some 3) 9), some (vr (some 90) 10), some (vr (some 100) 13), some (vi i), x5, x6], [vi 1], (I, H), c + 1, s + 6)
    obtain ⟨K0, hK0⟩ : ∃ K0, K0 = I := ⟨_, rfl⟩
    rw [← hK0]
    have kf : ∀ a, a < 6 ∨ (90 ≤ a ∧ a ≠ 100) → K0 a = I a := fun a q => by rw [hK0]
    have k2 : K0 2 = I 2 := kf 2 (by omega)
    have hMk : K0 91 = μ := (kf 91 (by omega)).trans hM
    have hKk : MS K0 := by unfold MS at *; rw [kf 90 (by omega)]; exact hK
    refine WP.go 1 ?_
    show WP (Call d) 299 P X (210, [some (vr (some 2) 102), some (vr (some 3) 9), some (vr (some 90) 10), some (vr (some 100) 13), some (vi i), some (vi 1), x6], [], (K0, H), c + 1, s + 6)
    refine WP.go 6 (Exists.intro (i + 1) (And.intro (wrp_a (by omega) (by omega)) (And.intro (And.intro rfl (And.intro (show 0 ≤ i + 1 from by omega) (show i + 1 < H.2.1 2 from by rw [hl2]; omega))) (?_))))
    show WP (Call d) 299 P X (216, [some (vr (some 2) 102), some (vr (some 3) 9), some (vr (some 90) 10), some (vr (some 100) 13), some (vi i), some (vi 1), x6], [vi (K0 2 (i + 1)), vr (some 90) 10], (K0, H), c + 1, s + 6)
    rw [k2]
    refine WP.go 1 (And.intro (And.intro (show c + 1 + 0 ≤ 601024 from by omega) (show s + 6 + 0 ≤ 7293034 from by omega)) (And.intro rfl (?_)))
    show Call d 211 [vr (some 90) 10, vi (I 2 (i + 1))] (K0, H) _ _
    refine s_12_angle (by omega) hS hMk hV hKk (fun r0 K v r3 r4 r5 => ?_) (fun q => False.elim (by omega))
    show WP (Call d) 299 P X (217, [some (vr (some 2) 102), some (vr (some 3) 9), some (vr (some 90) 10), some (vr (some 100) 13), some (vi i), some (vi 1), x6], [vi (v)], (K, H), c + 1 + 0, s + 6 + 0)
    rw [hK0] at r4
    refine WP.go 3 (And.intro (And.intro (show c + 1 + 0 + 0 ≤ 601024 from by omega) (show s + 6 + 0 + 0 ≤ 7293034 from by omega)) (And.intro rfl ?_))
    show Call d 176 [vr (some 90) 10] (K, H) _ _
    refine s_12_thrown (by omega) hS ?_
    show WP (Call d) 299 P X (220, [some (vr (some 2) 102), some (vr (some 3) 9), some (vr (some 90) 10), some (vr (some 100) 13), some (vi i), some (vi 1), some (vi (v))], [vi (K 90 0)], (K, H), c + 1 + 0 + 0, s + 6 + 0 + 0)
    refine WP.go 2 (And.intro (fun _ => ?_) (fun q => absurd r5 q))
    refine WP.go 2 (And.intro (fun _ => ?_) (fun q => absurd q (by decide)))
    refine WP.go 1 ?_
    show WP (Call d) 299 P X (1689, [some (vr (some 2) 102), some (vr (some 3) 9), some (vr (some 90) 10), some (vr (some 100) 13), some (vi i), some (vi 1), some (vi (v))], [], (K, H), c + 1 + 0 + 0, s + 6 + 0 + 0)
    exact h _ _ _ _ _ _ (hI.m (CF.rf I) r4) ⟨by omega, by omega⟩

set_option maxRecDepth 20000 in
theorem law_9 {d : Nat} {P : Option qV → qH → Prop} {X : Nat → qH → Prop} {I : qI} {H : qS} {f : Int → Int} {L i : Int} {x5 x6 : Option qV} {c s : Nat} (hd : 100 ≤ d) (hI : LI f L i I H) (hi : 0 ≤ i ∧ i + 6 ≤ L ∧ L ≤ 3072) (hc : (c : Int) ≤ 1000 + 100 * i ∧ (s : Int) ≤ 40000 + 2000 * i) (h : ∀ (K : qI) (G : qS) (y5 y6 : Option qV) (c9 s9 : Nat), LI f L (i + 6) K G → (c9 ≤ c + 90 ∧ s9 ≤ s + 9000) → WP (Call d) 299 P X (1689, [some (vr (some 2) 102), some (vr (some 3) 9), some (vr (some 90) 10), some (vr (some 100) 13), some (vi i), y5, y6], [], (K, G), c9, s9)) :
    WP (Call d) 299 P X (288, [some (vr (some 2) 102), some (vr (some 3) 9), some (vr (some 90) 10), some (vr (some 100) 13), some (vi i), x5, x6], [], (I, H), c, s) := by
  obtain ⟨hS, hX, ⟨hf2, hl2⟩, ⟨hT, hV, hO, hLL⟩, ⟨hC, hC2⟩, hK, hKP, hTP, hFX, h10⟩ := id hI
  have hl100 := hS.l100
  generalize hM : I 91 = μ at *
  refine WP.go 18 (Exists.intro (i + 1) (And.intro (wrp_a (by omega) (by omega)) (And.intro (And.intro rfl (And.intro (show 0 ≤ i + 1 from by omega) (show i + 1 < H.2.1 2 from by rw [hl2]; omega))) (Exists.intro (i + 2) (And.intro (wrp_a (by omega) (by omega)) (And.intro (And.intro rfl (And.intro (show 0 ≤ i + 2 from by omega) (show i + 2 < H.2.1 2 from by rw [hl2]; omega))) (Exists.intro (i + 3) (And.intro (wrp_a (by omega) (by omega)) (And.intro (And.intro rfl (And.intro (show 0 ≤ i + 3 from by omega) (show i + 3 < H.2.1 2 from by rw [hl2]; omega))) (And.intro (And.intro (show c + 3 ≤ 601024 from by omega) (show s + 18 ≤ 7293034 from by omega)) (And.intro rfl (?_))))))))))))
  show Call d 273 [vr (some 3) 9, vi (I 2 (i + 1)), vi (I 2 (i + 2)), vi (I 2 (i + 3)), vr (some 100) 13] (I, H) _ _
  refine hl_lit (by omega) hS hX hT hV (fun v1 J v2 => ?_) (fun v1 => ?_)
  ·
    show WP (Call d) 299 P X (306, [some (vr (some 2) 102), some (vr (some 3) 9), some (vr (some 90) 10), some (vr (some 100) 13), some (vi i), x5, x6], [vi 0], (upI J 100 0 (bz (LITp μ (AN μ) (HT μ) ((I 2 (i + 1))) ((I 2 (i + 2))) ((I 2 (i + 3))))), H), c + 3, s + 18)
    obtain ⟨K0, hK0⟩ : ∃ K0, K0 = upI J 100 0 (bz (LITp μ (AN μ) (HT μ) ((I 2 (i + 1))) ((I 2 (i + 2))) ((I 2 (i + 3))))) := ⟨_, rfl⟩
    rw [← hK0]
    have ke : ∀ a, a ≠ 100 → K0 a = J a := fun a q => by rw [hK0]; exact upI_cell q
    have k1 : K0 100 0 = bz (LITp μ (AN μ) (HT μ) ((I 2 (i + 1))) ((I 2 (i + 2))) ((I 2 (i + 3)))) := by rw [hK0]; exact upI_same _ _ _ _
    have kf : ∀ a, a < 6 ∨ (90 ≤ a ∧ a ≠ 100) → K0 a = I a := fun a q => (ke a (by omega)).trans (v2 a (by omega))
    have k2 : K0 2 = I 2 := kf 2 (by omega)
    have hMk : K0 91 = μ := (kf 91 (by omega)).trans hM
    have hKk : MS K0 := by unfold MS at *; rw [kf 90 (by omega)]; exact hK
    refine WP.go 1 ?_
    show WP (Call d) 299 P X (307, [some (vr (some 2) 102), some (vr (some 3) 9), some (vr (some 90) 10), some (vr (some 100) 13), some (vi i), some (vi 0), x6], [], (K0, H), c + 3, s + 18)
    refine WP.go 16 (Exists.intro (i + 1) (And.intro (wrp_a (by omega) (by omega)) (And.intro (And.intro rfl (And.intro (show 0 ≤ i + 1 from by omega) (show i + 1 < H.2.1 2 from by rw [hl2]; omega))) (Exists.intro (i + 2) (And.intro (wrp_a (by omega) (by omega)) (And.intro (And.intro rfl (And.intro (show 0 ≤ i + 2 from by omega) (show i + 2 < H.2.1 2 from by rw [hl2]; omega))) (Exists.intro (i + 3) (And.intro (wrp_a (by omega) (by omega)) (And.intro (And.intro rfl (And.intro (show 0 ≤ i + 3 from by omega) (show i + 3 < H.2.1 2 from by rw [hl2]; omega))) (?_))))))))))
    show WP (Call d) 299 P X (323, [some (vr (some 2) 102), some (vr (some 3) 9), some (vr (some 90) 10), some (vr (some 100) 13), some (vi i), some (vi 0), x6], [vi (K0 2 (i + 3)), vi (K0 2 (i + 2)), vi (K0 2 (i + 1)), vr (some 90) 10], (K0, H), c + 3, s + 18)
    rw [k2]
    refine WP.go 1 (And.intro (And.intro (show c + 3 + 0 ≤ 601024 from by omega) (show s + 18 + 0 ≤ 7293034 from by omega)) (And.intro rfl (?_)))
    show Call d 220 [vr (some 90) 10, vi (I 2 (i + 1)), vi (I 2 (i + 2)), vi (I 2 (i + 3))] (K0, H) _ _
    refine s_12_lit (by omega) hS hMk hV hKk (fun q => False.elim (by omega)) (fun r0 K r2 r3 => ?_)
    show WP (Call d) 299 P X (324, [some (vr (some 2) 102), some (vr (some 3) 9), some (vr (some 90) 10), some (vr (some 100) 13), some (vi i), some (vi 0), x6], [vi (bz (LITp μ (AN μ) (HT μ) ((I 2 (i + 1))) ((I 2 (i + 2))) ((I 2 (i + 3)))))], (K, H), c + 3 + 0, s + 18 + 0)
    have kk : K 100 = K0 100 := r2.1 100 (by omega)
    have k100 : K 100 0 = bz (LITp μ (AN μ) (HT μ) ((I 2 (i + 1))) ((I 2 (i + 2))) ((I 2 (i + 3)))) := by rw [kk, k1]
    rw [hK0] at r2
    refine WP.go 3 (And.intro (And.intro (show c + 3 + 0 + 0 ≤ 601024 from by omega) (show s + 18 + 0 + 0 ≤ 7293034 from by omega)) (And.intro rfl ?_))
    show Call d 176 [vr (some 90) 10] (K, H) _ _
    refine s_12_thrown (by omega) hS ?_
    show WP (Call d) 299 P X (327, [some (vr (some 2) 102), some (vr (some 3) 9), some (vr (some 90) 10), some (vr (some 100) 13), some (vi i), some (vi 0), some (vi (bz (LITp μ (AN μ) (HT μ) ((I 2 (i + 1))) ((I 2 (i + 2))) ((I 2 (i + 3))))))], [vi (K 90 0)], (K, H), c + 3 + 0 + 0, s + 18 + 0 + 0)
    refine WP.go 2 (And.intro (fun _ => ?_) (fun q => absurd r3 q))
    refine WP.go 2 (And.intro (fun q => absurd rfl q) (fun _ => ?_))
    rcases bz_01 (LITp μ (AN μ) (HT μ) ((I 2 (i + 1))) ((I 2 (i + 2))) ((I 2 (i + 3)))) with zz | zz
    · refine WP.go 8 (And.intro (And.intro rfl (And.intro (by decide) (show (0 : Int) < H.2.1 100 from by rw [hl100]; decide))) (And.intro (fun _ => And.intro (fun _ => ?_) (fun q => absurd (zcmp_e (k100.trans zz)) q)) (fun q => absurd zz q)))
      refine WP.go 1 ?_
      show WP (Call d) 299 P X (1689, [some (vr (some 2) 102), some (vr (some 3) 9), some (vr (some 90) 10), some (vr (some 100) 13), some (vi i), some (vi 0), some (vi (bz (LITp μ (AN μ) (HT μ) ((I 2 (i + 1))) ((I 2 (i + 2))) ((I 2 (i + 3))))))], [], (K, H), c + 3 + 0 + 0, s + 18 + 0 + 0)
      exact h _ _ _ _ _ _ (hI.q v2 r2) ⟨by omega, by omega⟩
    · refine WP.go 9 (And.intro (And.intro rfl (And.intro (by decide) (show (0 : Int) < H.2.1 100 from by rw [hl100]; decide))) (And.intro (fun q => absurd q (by rw [zz]; decide)) (fun _ => And.intro (fun _ => ?_) (fun q => absurd (zcmp_e (k100.trans zz)) q))))
      refine WP.go 1 ?_
      show WP (Call d) 299 P X (1689, [some (vr (some 2) 102), some (vr (some 3) 9), some (vr (some 90) 10), some (vr (some 100) 13), some (vi i), some (vi 0), some (vi (bz (LITp μ (AN μ) (HT μ) ((I 2 (i + 1))) ((I 2 (i + 2))) ((I 2 (i + 3))))))], [], (K, H), c + 3 + 0 + 0, s + 18 + 0 + 0)
      exact h _ _ _ _ _ _ (hI.q v2 r2) ⟨by omega, by omega⟩
  ·
    show WP (Call d) 299 P X (306, [some (vr (some 2) 102), some (vr (some 3) 9), some (vr (some 90) 10), some (vr (some 100) 13), some (vi i), x5, x6], [vi 1], (I, H), c + 3, s + 18)
    obtain ⟨K0, hK0⟩ : ∃ K0, K0 = I := ⟨_, rfl⟩
    rw [← hK0]
    have kf : ∀ a, a < 6 ∨ (90 ≤ a ∧ a ≠ 100) → K0 a = I a := fun a q => by rw [hK0]
    have k2 : K0 2 = I 2 := kf 2 (by omega)
    have hMk : K0 91 = μ := (kf 91 (by omega)).trans hM
    have hKk : MS K0 := by unfold MS at *; rw [kf 90 (by omega)]; exact hK
    refine WP.go 1 ?_
    show WP (Call d) 299 P X (307, [some (vr (some 2) 102), some (vr (some 3) 9), some (vr (some 90) 10), some (vr (some 100) 13), some (vi i), some (vi 1), x6], [], (K0, H), c + 3, s + 18)
    refine WP.go 16 (Exists.intro (i + 1) (And.intro (wrp_a (by omega) (by omega)) (And.intro (And.intro rfl (And.intro (show 0 ≤ i + 1 from by omega) (show i + 1 < H.2.1 2 from by rw [hl2]; omega))) (Exists.intro (i + 2) (And.intro (wrp_a (by omega) (by omega)) (And.intro (And.intro rfl (And.intro (show 0 ≤ i + 2 from by omega) (show i + 2 < H.2.1 2 from by rw [hl2]; omega))) (Exists.intro (i + 3) (And.intro (wrp_a (by omega) (by omega)) (And.intro (And.intro rfl (And.intro (show 0 ≤ i + 3 from by omega) (show i + 3 < H.2.1 2 from by rw [hl2]; omega))) (?_))))))))))
    show WP (Call d) 299 P X (323, [some (vr (some 2) 102), some (vr (some 3) 9), some (vr (some 90) 10), some (vr (some 100) 13), some (vi i), some (vi 1), x6], [vi (K0 2 (i + 3)), vi (K0 2 (i + 2)), vi (K0 2 (i + 1)), vr (some 90) 10], (K0, H), c + 3, s + 18)
    rw [k2]
    refine WP.go 1 (And.intro (And.intro (show c + 3 + 0 ≤ 601024 from by omega) (show s + 18 + 0 ≤ 7293034 from by omega)) (And.intro rfl (?_)))
    show Call d 220 [vr (some 90) 10, vi (I 2 (i + 1)), vi (I 2 (i + 2)), vi (I 2 (i + 3))] (K0, H) _ _
    refine s_12_lit (by omega) hS hMk hV hKk (fun r0 K v r3 r4 r5 => ?_) (fun q => False.elim (by omega))
    show WP (Call d) 299 P X (324, [some (vr (some 2) 102), some (vr (some 3) 9), some (vr (some 90) 10), some (vr (some 100) 13), some (vi i), some (vi 1), x6], [vi (v)], (K, H), c + 3 + 0, s + 18 + 0)
    rw [hK0] at r4
    refine WP.go 3 (And.intro (And.intro (show c + 3 + 0 + 0 ≤ 601024 from by omega) (show s + 18 + 0 + 0 ≤ 7293034 from by omega)) (And.intro rfl ?_))
    show Call d 176 [vr (some 90) 10] (K, H) _ _
    refine s_12_thrown (by omega) hS ?_
    show WP (Call d) 299 P X (327, [some (vr (some 2) 102), some (vr (some 3) 9), some (vr (some 90) 10), some (vr (some 100) 13), some (vi i), some (vi 1), some (vi (v))], [vi (K 90 0)], (K, H), c + 3 + 0 + 0, s + 18 + 0 + 0)
    refine WP.go 2 (And.intro (fun _ => ?_) (fun q => absurd r5 q))
    refine WP.go 2 (And.intro (fun _ => ?_) (fun q => absurd q (by decide)))
    refine WP.go 1 ?_
    show WP (Call d) 299 P X (1689, [some (vr (some 2) 102), some (vr (some 3) 9), some (vr (some 90) 10), some (vr (some 100) 13), some (vi i), some (vi 1), some (vi (v))], [], (K, H), c + 3 + 0 + 0, s + 18 + 0 + 0)
    exact h _ _ _ _ _ _ (hI.m (CF.rf I) r4) ⟨by omega, by omega⟩

set_option maxRecDepth 20000 in
theorem law_10 {d : Nat} {P : Option qV → qH → Prop} {X : Nat → qH → Prop} {I : qI} {H : qS} {f : Int → Int} {L i : Int} {x5 x6 : Option qV} {c s : Nat} (hd : 100 ≤ d) (hI : LI f L i I H) (hi : 0 ≤ i ∧ i + 6 ≤ L ∧ L ≤ 3072) (hc : (c : Int) ≤ 1000 + 100 * i ∧ (s : Int) ≤ 40000 + 2000 * i) (h : ∀ (K : qI) (G : qS) (y5 y6 : Option qV) (c9 s9 : Nat), LI f L (i + 6) K G → (c9 ≤ c + 90 ∧ s9 ≤ s + 9000) → WP (Call d) 299 P X (1689, [some (vr (some 2) 102), some (vr (some 3) 9), some (vr (some 90) 10), some (vr (some 100) 13), some (vi i), y5, y6], [], (K, G), c9, s9)) :
    WP (Call d) 299 P X (346, [some (vr (some 2) 102), some (vr (some 3) 9), some (vr (some 90) 10), some (vr (some 100) 13), some (vi i), x5, x6], [], (I, H), c, s) := by
  obtain ⟨hS, hX, ⟨hf2, hl2⟩, ⟨hT, hV, hO, hLL⟩, ⟨hC, hC2⟩, hK, hKP, hTP, hFX, h10⟩ := id hI
  have hl100 := hS.l100
  generalize hM : I 91 = μ at *
  refine WP.go 18 (Exists.intro (i + 1) (And.intro (wrp_a (by omega) (by omega)) (And.intro (And.intro rfl (And.intro (show 0 ≤ i + 1 from by omega) (show i + 1 < H.2.1 2 from by rw [hl2]; omega))) (Exists.intro (i + 2) (And.intro (wrp_a (by omega) (by omega)) (And.intro (And.intro rfl (And.intro (show 0 ≤ i + 2 from by omega) (show i + 2 < H.2.1 2 from by rw [hl2]; omega))) (Exists.intro (i + 3) (And.intro (wrp_a (by omega) (by omega)) (And.intro (And.intro rfl (And.intro (show 0 ≤ i + 3 from by omega) (show i + 3 < H.2.1 2 from by rw [hl2]; omega))) (And.intro (And.intro (show c + 4 ≤ 601024 from by omega) (show s + 24 ≤ 7293034 from by omega)) (And.intro rfl (?_))))))))))))
  show Call d 274 [vr (some 3) 9, vi (I 2 (i + 1)), vi (I 2 (i + 2)), vi (I 2 (i + 3)), vr (some 100) 13] (I, H) _ _
  refine hl_light (by omega) hS hX hT hV (fun v1 J v2 => ?_) (fun v1 => ?_) (fun v1 => ?_)
  ·
    show WP (Call d) 299 P X (364, [some (vr (some 2) 102), some (vr (some 3) 9), some (vr (some 90) 10), some (vr (some 100) 13), some (vi i), x5, x6], [vi 0], (upI J 100 0 (LGW μ (AN μ) (HT μ) ((I 2 (i + 1))) ((I 2 (i + 2))) ((I 2 (i + 3)))), H), c + 4, s + 24)
    obtain ⟨K0, hK0⟩ : ∃ K0, K0 = upI J 100 0 (LGW μ (AN μ) (HT μ) ((I 2 (i + 1))) ((I 2 (i + 2))) ((I 2 (i + 3)))) := ⟨_, rfl⟩
    rw [← hK0]
    have ke : ∀ a, a ≠ 100 → K0 a = J a := fun a q => by rw [hK0]; exact upI_cell q
    have k1 : K0 100 0 = LGW μ (AN μ) (HT μ) ((I 2 (i + 1))) ((I 2 (i + 2))) ((I 2 (i + 3))) := by rw [hK0]; exact upI_same _ _ _ _
    have kf : ∀ a, a < 6 ∨ (90 ≤ a ∧ a ≠ 100) → K0 a = I a := fun a q => (ke a (by omega)).trans (v2 a (by omega))
    have k2 : K0 2 = I 2 := kf 2 (by omega)
    have hMk : K0 91 = μ := (kf 91 (by omega)).trans hM
    have hKk : MS K0 := by unfold MS at *; rw [kf 90 (by omega)]; exact hK
    refine WP.go 1 ?_
    show WP (Call d) 299 P X (365, [some (vr (some 2) 102), some (vr (some 3) 9), some (vr (some 90) 10), some (vr (some 100) 13), some (vi i), some (vi 0), x6], [], (K0, H), c + 4, s + 24)
    refine WP.go 16 (Exists.intro (i + 1) (And.intro (wrp_a (by omega) (by omega)) (And.intro (And.intro rfl (And.intro (show 0 ≤ i + 1 from by omega) (show i + 1 < H.2.1 2 from by rw [hl2]; omega))) (Exists.intro (i + 2) (And.intro (wrp_a (by omega) (by omega)) (And.intro (And.intro rfl (And.intro (show 0 ≤ i + 2 from by omega) (show i + 2 < H.2.1 2 from by rw [hl2]; omega))) (Exists.intro (i + 3) (And.intro (wrp_a (by omega) (by omega)) (And.intro (And.intro rfl (And.intro (show 0 ≤ i + 3 from by omega) (show i + 3 < H.2.1 2 from by rw [hl2]; omega))) (?_))))))))))
    show WP (Call d) 299 P X (381, [some (vr (some 2) 102), some (vr (some 3) 9), some (vr (some 90) 10), some (vr (some 100) 13), some (vi i), some (vi 0), x6], [vi (K0 2 (i + 3)), vi (K0 2 (i + 2)), vi (K0 2 (i + 1)), vr (some 90) 10], (K0, H), c + 4, s + 24)
    rw [k2]
    refine WP.go 1 (And.intro (And.intro (show c + 4 + 0 ≤ 601024 from by omega) (show s + 24 + 0 ≤ 7293034 from by omega)) (And.intro rfl (?_)))
    show Call d 221 [vr (some 90) 10, vi (I 2 (i + 1)), vi (I 2 (i + 2)), vi (I 2 (i + 3))] (K0, H) _ _
    refine s_12_light (by omega) hS hMk hV hKk (fun q => False.elim (by omega)) (fun q => False.elim (by omega)) (fun r0 K r2 r3 => ?_)
    show WP (Call d) 299 P X (382, [some (vr (some 2) 102), some (vr (some 3) 9), some (vr (some 90) 10), some (vr (some 100) 13), some (vi i), some (vi 0), x6], [vi (LGW μ (AN μ) (HT μ) ((I 2 (i + 1))) ((I 2 (i + 2))) ((I 2 (i + 3))))], (K, H), c + 4 + 0, s + 24 + 0)
    have kk : K 100 = K0 100 := r2.1 100 (by omega)
    have k100 : K 100 0 = LGW μ (AN μ) (HT μ) ((I 2 (i + 1))) ((I 2 (i + 2))) ((I 2 (i + 3))) := by rw [kk, k1]
    rw [hK0] at r2
    refine WP.go 3 (And.intro (And.intro (show c + 4 + 0 + 0 ≤ 601024 from by omega) (show s + 24 + 0 + 0 ≤ 7293034 from by omega)) (And.intro rfl ?_))
    show Call d 176 [vr (some 90) 10] (K, H) _ _
    refine s_12_thrown (by omega) hS ?_
    show WP (Call d) 299 P X (385, [some (vr (some 2) 102), some (vr (some 3) 9), some (vr (some 90) 10), some (vr (some 100) 13), some (vi i), some (vi 0), some (vi (LGW μ (AN μ) (HT μ) ((I 2 (i + 1))) ((I 2 (i + 2))) ((I 2 (i + 3)))))], [vi (K 90 0)], (K, H), c + 4 + 0 + 0, s + 24 + 0 + 0)
    refine WP.go 2 (And.intro (fun _ => ?_) (fun q => absurd r3 q))
    refine WP.go 2 (And.intro (fun q => absurd rfl q) (fun _ => ?_))
    refine WP.go 7 (And.intro (And.intro rfl (And.intro (by decide) (show (0 : Int) < H.2.1 100 from by rw [hl100]; decide))) (And.intro (fun _ => ?_) (fun q => absurd (zcmp_e k100) q)))
    refine WP.go 1 ?_
    show WP (Call d) 299 P X (1689, [some (vr (some 2) 102), some (vr (some 3) 9), some (vr (some 90) 10), some (vr (some 100) 13), some (vi i), some (vi 0), some (vi (LGW μ (AN μ) (HT μ) ((I 2 (i + 1))) ((I 2 (i + 2))) ((I 2 (i + 3)))))], [], (K, H), c + 4 + 0 + 0, s + 24 + 0 + 0)
    exact h _ _ _ _ _ _ (hI.q v2 r2) ⟨by omega, by omega⟩
  ·
    show WP (Call d) 299 P X (364, [some (vr (some 2) 102), some (vr (some 3) 9), some (vr (some 90) 10), some (vr (some 100) 13), some (vi i), x5, x6], [vi 1], (I, H), c + 4, s + 24)
    obtain ⟨K0, hK0⟩ : ∃ K0, K0 = I := ⟨_, rfl⟩
    rw [← hK0]
    have kf : ∀ a, a < 6 ∨ (90 ≤ a ∧ a ≠ 100) → K0 a = I a := fun a q => by rw [hK0]
    have k2 : K0 2 = I 2 := kf 2 (by omega)
    have hMk : K0 91 = μ := (kf 91 (by omega)).trans hM
    have hKk : MS K0 := by unfold MS at *; rw [kf 90 (by omega)]; exact hK
    refine WP.go 1 ?_
    show WP (Call d) 299 P X (365, [some (vr (some 2) 102), some (vr (some 3) 9), some (vr (some 90) 10), some (vr (some 100) 13), some (vi i), some (vi 1), x6], [], (K0, H), c + 4, s + 24)
    refine WP.go 16 (Exists.intro (i + 1) (And.intro (wrp_a (by omega) (by omega)) (And.intro (And.intro rfl (And.intro (show 0 ≤ i + 1 from by omega) (show i + 1 < H.2.1 2 from by rw [hl2]; omega))) (Exists.intro (i + 2) (And.intro (wrp_a (by omega) (by omega)) (And.intro (And.intro rfl (And.intro (show 0 ≤ i + 2 from by omega) (show i + 2 < H.2.1 2 from by rw [hl2]; omega))) (Exists.intro (i + 3) (And.intro (wrp_a (by omega) (by omega)) (And.intro (And.intro rfl (And.intro (show 0 ≤ i + 3 from by omega) (show i + 3 < H.2.1 2 from by rw [hl2]; omega))) (?_))))))))))
    show WP (Call d) 299 P X (381, [some (vr (some 2) 102), some (vr (some 3) 9), some (vr (some 90) 10), some (vr (some 100) 13), some (vi i), some (vi 1), x6], [vi (K0 2 (i + 3)), vi (K0 2 (i + 2)), vi (K0 2 (i + 1)), vr (some 90) 10], (K0, H), c + 4, s + 24)
    rw [k2]
    refine WP.go 1 (And.intro (And.intro (show c + 4 + 0 ≤ 601024 from by omega) (show s + 24 + 0 ≤ 7293034 from by omega)) (And.intro rfl (?_)))
    show Call d 221 [vr (some 90) 10, vi (I 2 (i + 1)), vi (I 2 (i + 2)), vi (I 2 (i + 3))] (K0, H) _ _
    refine s_12_light (by omega) hS hMk hV hKk (fun r0 K v r3 r4 r5 => ?_) (fun q => False.elim (by omega)) (fun q => False.elim (by omega))
    show WP (Call d) 299 P X (382, [some (vr (some 2) 102), some (vr (some 3) 9), some (vr (some 90) 10), some (vr (some 100) 13), some (vi i), some (vi 1), x6], [vi (v)], (K, H), c + 4 + 0, s + 24 + 0)
    rw [hK0] at r4
    refine WP.go 3 (And.intro (And.intro (show c + 4 + 0 + 0 ≤ 601024 from by omega) (show s + 24 + 0 + 0 ≤ 7293034 from by omega)) (And.intro rfl ?_))
    show Call d 176 [vr (some 90) 10] (K, H) _ _
    refine s_12_thrown (by omega) hS ?_
    show WP (Call d) 299 P X (385, [some (vr (some 2) 102), some (vr (some 3) 9), some (vr (some 90) 10), some (vr (some 100) 13), some (vi i), some (vi 1), some (vi (v))], [vi (K 90 0)], (K, H), c + 4 + 0 + 0, s + 24 + 0 + 0)
    refine WP.go 2 (And.intro (fun _ => ?_) (fun q => absurd r5 q))
    refine WP.go 2 (And.intro (fun _ => ?_) (fun q => absurd q (by decide)))
    refine WP.go 1 ?_
    show WP (Call d) 299 P X (1689, [some (vr (some 2) 102), some (vr (some 3) 9), some (vr (some 90) 10), some (vr (some 100) 13), some (vi i), some (vi 1), some (vi (v))], [], (K, H), c + 4 + 0 + 0, s + 24 + 0 + 0)
    exact h _ _ _ _ _ _ (hI.m (CF.rf I) r4) ⟨by omega, by omega⟩
  ·
    show WP (Call d) 299 P X (364, [some (vr (some 2) 102), some (vr (some 3) 9), some (vr (some 90) 10), some (vr (some 100) 13), some (vi i), x5, x6], [vi 2], (I, H), c + 4, s + 24)
    obtain ⟨K0, hK0⟩ : ∃ K0, K0 = I := ⟨_, rfl⟩
    rw [← hK0]
    have kf : ∀ a, a < 6 ∨ (90 ≤ a ∧ a ≠ 100) → K0 a = I a := fun a q => by rw [hK0]
    have k2 : K0 2 = I 2 := kf 2 (by omega)
    have hMk : K0 91 = μ := (kf 91 (by omega)).trans hM
    have hKk : MS K0 := by unfold MS at *; rw [kf 90 (by omega)]; exact hK
    refine WP.go 1 ?_
    show WP (Call d) 299 P X (365, [some (vr (some 2) 102), some (vr (some 3) 9), some (vr (some 90) 10), some (vr (some 100) 13), some (vi i), some (vi 2), x6], [], (K0, H), c + 4, s + 24)
    refine WP.go 16 (Exists.intro (i + 1) (And.intro (wrp_a (by omega) (by omega)) (And.intro (And.intro rfl (And.intro (show 0 ≤ i + 1 from by omega) (show i + 1 < H.2.1 2 from by rw [hl2]; omega))) (Exists.intro (i + 2) (And.intro (wrp_a (by omega) (by omega)) (And.intro (And.intro rfl (And.intro (show 0 ≤ i + 2 from by omega) (show i + 2 < H.2.1 2 from by rw [hl2]; omega))) (Exists.intro (i + 3) (And.intro (wrp_a (by omega) (by omega)) (And.intro (And.intro rfl (And.intro (show 0 ≤ i + 3 from by omega) (show i + 3 < H.2.1 2 from by rw [hl2]; omega))) (?_))))))))))
    show WP (Call d) 299 P X (381, [some (vr (some 2) 102), some (vr (some 3) 9), some (vr (some 90) 10), some (vr (some 100) 13), some (vi i), some (vi 2), x6], [vi (K0 2 (i + 3)), vi (K0 2 (i + 2)), vi (K0 2 (i + 1)), vr (some 90) 10], (K0, H), c + 4, s + 24)
    rw [k2]
    refine WP.go 1 (And.intro (And.intro (show c + 4 + 0 ≤ 601024 from by omega) (show s + 24 + 0 ≤ 7293034 from by omega)) (And.intro rfl (?_)))
    show Call d 221 [vr (some 90) 10, vi (I 2 (i + 1)), vi (I 2 (i + 2)), vi (I 2 (i + 3))] (K0, H) _ _
    refine s_12_light (by omega) hS hMk hV hKk (fun q => False.elim (by omega)) (fun r0 K v r3 r4 r5 => ?_) (fun q => False.elim (by omega))
    show WP (Call d) 299 P X (382, [some (vr (some 2) 102), some (vr (some 3) 9), some (vr (some 90) 10), some (vr (some 100) 13), some (vi i), some (vi 2), x6], [vi (v)], (K, H), c + 4 + 0, s + 24 + 0)
    rw [hK0] at r4
    refine WP.go 3 (And.intro (And.intro (show c + 4 + 0 + 0 ≤ 601024 from by omega) (show s + 24 + 0 + 0 ≤ 7293034 from by omega)) (And.intro rfl ?_))
    show Call d 176 [vr (some 90) 10] (K, H) _ _
    refine s_12_thrown (by omega) hS ?_
    show WP (Call d) 299 P X (385, [some (vr (some 2) 102), some (vr (some 3) 9), some (vr (some 90) 10), some (vr (some 100) 13), some (vi i), some (vi 2), some (vi (v))], [vi (K 90 0)], (K, H), c + 4 + 0 + 0, s + 24 + 0 + 0)
    refine WP.go 2 (And.intro (fun _ => ?_) (fun q => absurd r5 q))
    refine WP.go 2 (And.intro (fun _ => ?_) (fun q => absurd q (by decide)))
    refine WP.go 1 ?_
    show WP (Call d) 299 P X (1689, [some (vr (some 2) 102), some (vr (some 3) 9), some (vr (some 90) 10), some (vr (some 100) 13), some (vi i), some (vi 2), some (vi (v))], [], (K, H), c + 4 + 0 + 0, s + 24 + 0 + 0)
    exact h _ _ _ _ _ _ (hI.m (CF.rf I) r4) ⟨by omega, by omega⟩

set_option maxRecDepth 20000 in
theorem law_11 {d : Nat} {P : Option qV → qH → Prop} {X : Nat → qH → Prop} {I : qI} {H : qS} {f : Int → Int} {L i : Int} {x5 x6 : Option qV} {c s : Nat} (hd : 100 ≤ d) (hI : LI f L i I H) (hi : 0 ≤ i ∧ i + 6 ≤ L ∧ L ≤ 3072) (hc : (c : Int) ≤ 1000 + 100 * i ∧ (s : Int) ≤ 40000 + 2000 * i) (h : ∀ (K : qI) (G : qS) (y5 y6 : Option qV) (c9 s9 : Nat), LI f L (i + 6) K G → (c9 ≤ c + 90 ∧ s9 ≤ s + 9000) → WP (Call d) 299 P X (1689, [some (vr (some 2) 102), some (vr (some 3) 9), some (vr (some 90) 10), some (vr (some 100) 13), some (vi i), y5, y6], [], (K, G), c9, s9)) :
    WP (Call d) 299 P X (401, [some (vr (some 2) 102), some (vr (some 3) 9), some (vr (some 90) 10), some (vr (some 100) 13), some (vi i), x5, x6], [], (I, H), c, s) := by
  obtain ⟨hS, hX, ⟨hf2, hl2⟩, ⟨hT, hV, hO, hLL⟩, ⟨hC, hC2⟩, hK, hKP, hTP, hFX, h10⟩ := id hI
  have hl100 := hS.l100
  generalize hM : I 91 = μ at *
  refine WP.go 13 (Exists.intro (i + 1) (And.intro (wrp_a (by omega) (by omega)) (And.intro (And.intro rfl (And.intro (show 0 ≤ i + 1 from by omega) (show i + 1 < H.2.1 2 from by rw [hl2]; omega))) (Exists.intro (i + 2) (And.intro (wrp_a (by omega) (by omega)) (And.intro (And.intro rfl (And.intro (show 0 ≤ i + 2 from by omega) (show i + 2 < H.2.1 2 from by rw [hl2]; omega))) (And.intro (And.intro (show c + 2 ≤ 601024 from by omega) (show s + 12 ≤ 7293034 from by omega)) (And.intro rfl (?_)))))))))
  show Call d 275 [vr (some 3) 9, vi (I 2 (i + 1)), vi (I 2 (i + 2)), vr (some 100) 13] (I, H) _ _
  refine hl_bright (by omega) hS hX hT hV (fun v1 J v2 => ?_) (fun v1 => ?_)
  ·
    show WP (Call d) 299 P X (414, [some (vr (some 2) 102), some (vr (some 3) 9), some (vr (some 90) 10), some (vr (some 100) 13), some (vi i), x5, x6], [vi 0], (upI J 100 0 (LGH μ (AN μ) (HT μ) ((I 2 (i + 1))) ((I 2 (i + 2)))), H), c + 2, s + 12)
    obtain ⟨K0, hK0⟩ : ∃ K0, K0 = upI J 100 0 (LGH μ (AN μ) (HT μ) ((I 2 (i + 1))) ((I 2 (i + 2)))) := ⟨_, rfl⟩
    rw [← hK0]
    have ke : ∀ a, a ≠ 100 → K0 a = J a := fun a q => by rw [hK0]; exact upI_cell q
    have k1 : K0 100 0 = LGH μ (AN μ) (HT μ) ((I 2 (i + 1))) ((I 2 (i + 2))) := by rw [hK0]; exact upI_same _ _ _ _
    have kf : ∀ a, a < 6 ∨ (90 ≤ a ∧ a ≠ 100) → K0 a = I a := fun a q => (ke a (by omega)).trans (v2 a (by omega))
    have k2 : K0 2 = I 2 := kf 2 (by omega)
    have hMk : K0 91 = μ := (kf 91 (by omega)).trans hM
    have hKk : MS K0 := by unfold MS at *; rw [kf 90 (by omega)]; exact hK
    refine WP.go 1 ?_
    show WP (Call d) 299 P X (415, [some (vr (some 2) 102), some (vr (some 3) 9), some (vr (some 90) 10), some (vr (some 100) 13), some (vi i), some (vi 0), x6], [], (K0, H), c + 2, s + 12)
    refine WP.go 11 (Exists.intro (i + 1) (And.intro (wrp_a (by omega) (by omega)) (And.intro (And.intro rfl (And.intro (show 0 ≤ i + 1 from by omega) (show i + 1 < H.2.1 2 from by rw [hl2]; omega))) (Exists.intro (i + 2) (And.intro (wrp_a (by omega) (by omega)) (And.intro (And.intro rfl (And.intro (show 0 ≤ i + 2 from by omega) (show i + 2 < H.2.1 2 from by rw [hl2]; omega))) (?_)))))))
    show WP (Call d) 299 P X (426, [some (vr (some 2) 102), some (vr (some 3) 9), some (vr (some 90) 10), some (vr (some 100) 13), some (vi i), some (vi 0), x6], [vi (K0 2 (i + 2)), vi (K0 2 (i + 1)), vr (some 90) 10], (K0, H), c + 2, s + 12)
    rw [k2]
    refine WP.go 1 (And.intro (And.intro (show c + 2 + 0 ≤ 601024 from by omega) (show s + 12 + 0 ≤ 7293034 from by omega)) (And.intro rfl (?_)))
    show Call d 223 [vr (some 90) 10, vi (I 2 (i + 1)), vi (I 2 (i + 2))] (K0, H) _ _
    refine s_12_bright (by omega) hS hMk hV hKk (fun q => False.elim (by omega)) (fun r0 K r2 r3 => ?_)
    show WP (Call d) 299 P X (427, [some (vr (some 2) 102), some (vr (some 3) 9), some (vr (some 90) 10), some (vr (some 100) 13), some (vi i), some (vi 0), x6], [vi (LGH μ (AN μ) (HT μ) ((I 2 (i + 1))) ((I 2 (i + 2))))], (K, H), c + 2 + 0, s + 12 + 0)
    have kk : K 100 = K0 100 := r2.1 100 (by omega)
    have k100 : K 100 0 = LGH μ (AN μ) (HT μ) ((I 2 (i + 1))) ((I 2 (i + 2))) := by rw [kk, k1]
    rw [hK0] at r2
    refine WP.go 3 (And.intro (And.intro (show c + 2 + 0 + 0 ≤ 601024 from by omega) (show s + 12 + 0 + 0 ≤ 7293034 from by omega)) (And.intro rfl ?_))
    show Call d 176 [vr (some 90) 10] (K, H) _ _
    refine s_12_thrown (by omega) hS ?_
    show WP (Call d) 299 P X (430, [some (vr (some 2) 102), some (vr (some 3) 9), some (vr (some 90) 10), some (vr (some 100) 13), some (vi i), some (vi 0), some (vi (LGH μ (AN μ) (HT μ) ((I 2 (i + 1))) ((I 2 (i + 2)))))], [vi (K 90 0)], (K, H), c + 2 + 0 + 0, s + 12 + 0 + 0)
    refine WP.go 2 (And.intro (fun _ => ?_) (fun q => absurd r3 q))
    refine WP.go 2 (And.intro (fun q => absurd rfl q) (fun _ => ?_))
    refine WP.go 7 (And.intro (And.intro rfl (And.intro (by decide) (show (0 : Int) < H.2.1 100 from by rw [hl100]; decide))) (And.intro (fun _ => ?_) (fun q => absurd (zcmp_e k100) q)))
    refine WP.go 1 ?_
    show WP (Call d) 299 P X (1689, [some (vr (some 2) 102), some (vr (some 3) 9), some (vr (some 90) 10), some (vr (some 100) 13), some (vi i), some (vi 0), some (vi (LGH μ (AN μ) (HT μ) ((I 2 (i + 1))) ((I 2 (i + 2)))))], [], (K, H), c + 2 + 0 + 0, s + 12 + 0 + 0)
    exact h _ _ _ _ _ _ (hI.q v2 r2) ⟨by omega, by omega⟩
  ·
    show WP (Call d) 299 P X (414, [some (vr (some 2) 102), some (vr (some 3) 9), some (vr (some 90) 10), some (vr (some 100) 13), some (vi i), x5, x6], [vi 1], (I, H), c + 2, s + 12)
    obtain ⟨K0, hK0⟩ : ∃ K0, K0 = I := ⟨_, rfl⟩
    rw [← hK0]
    have kf : ∀ a, a < 6 ∨ (90 ≤ a ∧ a ≠ 100) → K0 a = I a := fun a q => by rw [hK0]
    have k2 : K0 2 = I 2 := kf 2 (by omega)
    have hMk : K0 91 = μ := (kf 91 (by omega)).trans hM
    have hKk : MS K0 := by unfold MS at *; rw [kf 90 (by omega)]; exact hK
    refine WP.go 1 ?_
    show WP (Call d) 299 P X (415, [some (vr (some 2) 102), some (vr (some 3) 9), some (vr (some 90) 10), some (vr (some 100) 13), some (vi i), some (vi 1), x6], [], (K0, H), c + 2, s + 12)
    refine WP.go 11 (Exists.intro (i + 1) (And.intro (wrp_a (by omega) (by omega)) (And.intro (And.intro rfl (And.intro (show 0 ≤ i + 1 from by omega) (show i + 1 < H.2.1 2 from by rw [hl2]; omega))) (Exists.intro (i + 2) (And.intro (wrp_a (by omega) (by omega)) (And.intro (And.intro rfl (And.intro (show 0 ≤ i + 2 from by omega) (show i + 2 < H.2.1 2 from by rw [hl2]; omega))) (?_)))))))
    show WP (Call d) 299 P X (426, [some (vr (some 2) 102), some (vr (some 3) 9), some (vr (some 90) 10), some (vr (some 100) 13), some (vi i), some (vi 1), x6], [vi (K0 2 (i + 2)), vi (K0 2 (i + 1)), vr (some 90) 10], (K0, H), c + 2, s + 12)
    rw [k2]
    refine WP.go 1 (And.intro (And.intro (show c + 2 + 0 ≤ 601024 from by omega) (show s + 12 + 0 ≤ 7293034 from by omega)) (And.intro rfl (?_)))
    show Call d 223 [vr (some 90) 10, vi (I 2 (i + 1)), vi (I 2 (i + 2))] (K0, H) _ _
    refine s_12_bright (by omega) hS hMk hV hKk (fun r0 K v r3 r4 r5 => ?_) (fun q => False.elim (by omega))
    show WP (Call d) 299 P X (427, [some (vr (some 2) 102), some (vr (some 3) 9), some (vr (some 90) 10), some (vr (some 100) 13), some (vi i), some (vi 1), x6], [vi (v)], (K, H), c + 2 + 0, s + 12 + 0)
    rw [hK0] at r4
    refine WP.go 3 (And.intro (And.intro (show c + 2 + 0 + 0 ≤ 601024 from by omega) (show s + 12 + 0 + 0 ≤ 7293034 from by omega)) (And.intro rfl ?_))
    show Call d 176 [vr (some 90) 10] (K, H) _ _
    refine s_12_thrown (by omega) hS ?_
    show WP (Call d) 299 P X (430, [some (vr (some 2) 102), some (vr (some 3) 9), some (vr (some 90) 10), some (vr (some 100) 13), some (vi i), some (vi 1), some (vi (v))], [vi (K 90 0)], (K, H), c + 2 + 0 + 0, s + 12 + 0 + 0)
    refine WP.go 2 (And.intro (fun _ => ?_) (fun q => absurd r5 q))
    refine WP.go 2 (And.intro (fun _ => ?_) (fun q => absurd q (by decide)))
    refine WP.go 1 ?_
    show WP (Call d) 299 P X (1689, [some (vr (some 2) 102), some (vr (some 3) 9), some (vr (some 90) 10), some (vr (some 100) 13), some (vi i), some (vi 1), some (vi (v))], [], (K, H), c + 2 + 0 + 0, s + 12 + 0 + 0)
    exact h _ _ _ _ _ _ (hI.m (CF.rf I) r4) ⟨by omega, by omega⟩

set_option maxRecDepth 20000 in
theorem law_12 {d : Nat} {P : Option qV → qH → Prop} {X : Nat → qH → Prop} {I : qI} {H : qS} {f : Int → Int} {L i : Int} {x5 x6 : Option qV} {c s : Nat} (hd : 100 ≤ d) (hI : LI f L i I H) (hi : 0 ≤ i ∧ i + 6 ≤ L ∧ L ≤ 3072) (hc : (c : Int) ≤ 1000 + 100 * i ∧ (s : Int) ≤ 40000 + 2000 * i) (h : ∀ (K : qI) (G : qS) (y5 y6 : Option qV) (c9 s9 : Nat), LI f L (i + 6) K G → (c9 ≤ c + 90 ∧ s9 ≤ s + 9000) → WP (Call d) 299 P X (1689, [some (vr (some 2) 102), some (vr (some 3) 9), some (vr (some 90) 10), some (vr (some 100) 13), some (vi i), y5, y6], [], (K, G), c9, s9)) :
    WP (Call d) 299 P X (446, [some (vr (some 2) 102), some (vr (some 3) 9), some (vr (some 90) 10), some (vr (some 100) 13), some (vi i), x5, x6], [], (I, H), c, s) := by
  obtain ⟨hS, hX, ⟨hf2, hl2⟩, ⟨hT, hV, hO, hLL⟩, ⟨hC, hC2⟩, hK, hKP, hTP, hFX, h10⟩ := id hI
  have hl100 := hS.l100
  generalize hM : I 91 = μ at *
  refine WP.go 13 (Exists.intro (i + 1) (And.intro (wrp_a (by omega) (by omega)) (And.intro (And.intro rfl (And.intro (show 0 ≤ i + 1 from by omega) (show i + 1 < H.2.1 2 from by rw [hl2]; omega))) (Exists.intro (i + 2) (And.intro (wrp_a (by omega) (by omega)) (And.intro (And.intro rfl (And.intro (show 0 ≤ i + 2 from by omega) (show i + 2 < H.2.1 2 from by rw [hl2]; omega))) (And.intro (And.intro (show c + 2 ≤ 601024 from by omega) (show s + 12 ≤ 7293034 from by omega)) (And.intro rfl (?_)))))))))
  show Call d 276 [vr (some 3) 9, vi (I 2 (i + 1)), vi (I 2 (i + 2)), vr (some 100) 13] (I, H) _ _
  refine hl_houses (by omega) hS hX hT hV (fun v1 J v2 => ?_) (fun v1 => ?_) (fun v1 => ?_)
  ·
    show WP (Call d) 299 P X (459, [some (vr (some 2) 102), some (vr (some 3) 9), some (vr (some 90) 10), some (vr (some 100) 13), some (vi i), x5, x6], [vi 0], (upI J 100 0 (hB (HSP μ (AN μ) (HT μ) ((I 2 (i + 1))) ((I 2 (i + 2)))) (μ 1)), H), c + 2, s + 12)
    obtain ⟨K0, hK0⟩ : ∃ K0, K0 = upI J 100 0 (hB (HSP μ (AN μ) (HT μ) ((I 2 (i + 1))) ((I 2 (i + 2)))) (μ 1)) := ⟨_, rfl⟩
    rw [← hK0]
    have ke : ∀ a, a ≠ 100 → K0 a = J a := fun a q => by rw [hK0]; exact upI_cell q
    have k1 : K0 100 0 = hB (HSP μ (AN μ) (HT μ) ((I 2 (i + 1))) ((I 2 (i + 2)))) (μ 1) := by rw [hK0]; exact upI_same _ _ _ _
    have kf : ∀ a, a < 6 ∨ (90 ≤ a ∧ a ≠ 100) → K0 a = I a := fun a q => (ke a (by omega)).trans (v2 a (by omega))
    have k2 : K0 2 = I 2 := kf 2 (by omega)
    have hMk : K0 91 = μ := (kf 91 (by omega)).trans hM
    have hKk : MS K0 := by unfold MS at *; rw [kf 90 (by omega)]; exact hK
    refine WP.go 1 ?_
    show WP (Call d) 299 P X (460, [some (vr (some 2) 102), some (vr (some 3) 9), some (vr (some 90) 10), some (vr (some 100) 13), some (vi i), some (vi 0), x6], [], (K0, H), c + 2, s + 12)
    refine WP.go 11 (Exists.intro (i + 1) (And.intro (wrp_a (by omega) (by omega)) (And.intro (And.intro rfl (And.intro (show 0 ≤ i + 1 from by omega) (show i + 1 < H.2.1 2 from by rw [hl2]; omega))) (Exists.intro (i + 2) (And.intro (wrp_a (by omega) (by omega)) (And.intro (And.intro rfl (And.intro (show 0 ≤ i + 2 from by omega) (show i + 2 < H.2.1 2 from by rw [hl2]; omega))) (?_)))))))
    show WP (Call d) 299 P X (471, [some (vr (some 2) 102), some (vr (some 3) 9), some (vr (some 90) 10), some (vr (some 100) 13), some (vi i), some (vi 0), x6], [vi (K0 2 (i + 2)), vi (K0 2 (i + 1)), vr (some 90) 10], (K0, H), c + 2, s + 12)
    rw [k2]
    refine WP.go 1 (And.intro (And.intro (show c + 2 + 0 ≤ 601024 from by omega) (show s + 12 + 0 ≤ 7293034 from by omega)) (And.intro rfl (?_)))
    show Call d 227 [vr (some 90) 10, vi (I 2 (i + 1)), vi (I 2 (i + 2))] (K0, H) _ _
    refine s_12_houses (by omega) hS hMk hV hKk (fun q => False.elim (by omega)) (fun q => False.elim (by omega)) (fun r0 K r2 r3 => ?_)
    show WP (Call d) 299 P X (472, [some (vr (some 2) 102), some (vr (some 3) 9), some (vr (some 90) 10), some (vr (some 100) 13), some (vi i), some (vi 0), x6], [vi (hB (HSP μ (AN μ) (HT μ) ((I 2 (i + 1))) ((I 2 (i + 2)))) (μ 1))], (K, H), c + 2 + 0, s + 12 + 0)
    have kk : K 100 = K0 100 := r2.1 100 (by omega)
    have k100 : K 100 0 = hB (HSP μ (AN μ) (HT μ) ((I 2 (i + 1))) ((I 2 (i + 2)))) (μ 1) := by rw [kk, k1]
    rw [hK0] at r2
    refine WP.go 3 (And.intro (And.intro (show c + 2 + 0 + 0 ≤ 601024 from by omega) (show s + 12 + 0 + 0 ≤ 7293034 from by omega)) (And.intro rfl ?_))
    show Call d 176 [vr (some 90) 10] (K, H) _ _
    refine s_12_thrown (by omega) hS ?_
    show WP (Call d) 299 P X (475, [some (vr (some 2) 102), some (vr (some 3) 9), some (vr (some 90) 10), some (vr (some 100) 13), some (vi i), some (vi 0), some (vi (hB (HSP μ (AN μ) (HT μ) ((I 2 (i + 1))) ((I 2 (i + 2)))) (μ 1)))], [vi (K 90 0)], (K, H), c + 2 + 0 + 0, s + 12 + 0 + 0)
    refine WP.go 2 (And.intro (fun _ => ?_) (fun q => absurd r3 q))
    refine WP.go 2 (And.intro (fun q => absurd rfl q) (fun _ => ?_))
    refine WP.go 7 (And.intro (And.intro rfl (And.intro (by decide) (show (0 : Int) < H.2.1 100 from by rw [hl100]; decide))) (And.intro (fun _ => ?_) (fun q => absurd (zcmp_e k100) q)))
    refine WP.go 1 ?_
    show WP (Call d) 299 P X (1689, [some (vr (some 2) 102), some (vr (some 3) 9), some (vr (some 90) 10), some (vr (some 100) 13), some (vi i), some (vi 0), some (vi (hB (HSP μ (AN μ) (HT μ) ((I 2 (i + 1))) ((I 2 (i + 2)))) (μ 1)))], [], (K, H), c + 2 + 0 + 0, s + 12 + 0 + 0)
    exact h _ _ _ _ _ _ (hI.q v2 r2) ⟨by omega, by omega⟩
  ·
    show WP (Call d) 299 P X (459, [some (vr (some 2) 102), some (vr (some 3) 9), some (vr (some 90) 10), some (vr (some 100) 13), some (vi i), x5, x6], [vi 1], (I, H), c + 2, s + 12)
    obtain ⟨K0, hK0⟩ : ∃ K0, K0 = I := ⟨_, rfl⟩
    rw [← hK0]
    have kf : ∀ a, a < 6 ∨ (90 ≤ a ∧ a ≠ 100) → K0 a = I a := fun a q => by rw [hK0]
    have k2 : K0 2 = I 2 := kf 2 (by omega)
    have hMk : K0 91 = μ := (kf 91 (by omega)).trans hM
    have hKk : MS K0 := by unfold MS at *; rw [kf 90 (by omega)]; exact hK
    refine WP.go 1 ?_
    show WP (Call d) 299 P X (460, [some (vr (some 2) 102), some (vr (some 3) 9), some (vr (some 90) 10), some (vr (some 100) 13), some (vi i), some (vi 1), x6], [], (K0, H), c + 2, s + 12)
    refine WP.go 11 (Exists.intro (i + 1) (And.intro (wrp_a (by omega) (by omega)) (And.intro (And.intro rfl (And.intro (show 0 ≤ i + 1 from by omega) (show i + 1 < H.2.1 2 from by rw [hl2]; omega))) (Exists.intro (i + 2) (And.intro (wrp_a (by omega) (by omega)) (And.intro (And.intro rfl (And.intro (show 0 ≤ i + 2 from by omega) (show i + 2 < H.2.1 2 from by rw [hl2]; omega))) (?_)))))))
    show WP (Call d) 299 P X (471, [some (vr (some 2) 102), some (vr (some 3) 9), some (vr (some 90) 10), some (vr (some 100) 13), some (vi i), some (vi 1), x6], [vi (K0 2 (i + 2)), vi (K0 2 (i + 1)), vr (some 90) 10], (K0, H), c + 2, s + 12)
    rw [k2]
    refine WP.go 1 (And.intro (And.intro (show c + 2 + 0 ≤ 601024 from by omega) (show s + 12 + 0 ≤ 7293034 from by omega)) (And.intro rfl (?_)))
    show Call d 227 [vr (some 90) 10, vi (I 2 (i + 1)), vi (I 2 (i + 2))] (K0, H) _ _
    refine s_12_houses (by omega) hS hMk hV hKk (fun r0 K v r3 r4 r5 => ?_) (fun q => False.elim (by omega)) (fun q => False.elim (by omega))
    show WP (Call d) 299 P X (472, [some (vr (some 2) 102), some (vr (some 3) 9), some (vr (some 90) 10), some (vr (some 100) 13), some (vi i), some (vi 1), x6], [vi (v)], (K, H), c + 2 + 0, s + 12 + 0)
    rw [hK0] at r4
    refine WP.go 3 (And.intro (And.intro (show c + 2 + 0 + 0 ≤ 601024 from by omega) (show s + 12 + 0 + 0 ≤ 7293034 from by omega)) (And.intro rfl ?_))
    show Call d 176 [vr (some 90) 10] (K, H) _ _
    refine s_12_thrown (by omega) hS ?_
    show WP (Call d) 299 P X (475, [some (vr (some 2) 102), some (vr (some 3) 9), some (vr (some 90) 10), some (vr (some 100) 13), some (vi i), some (vi 1), some (vi (v))], [vi (K 90 0)], (K, H), c + 2 + 0 + 0, s + 12 + 0 + 0)
    refine WP.go 2 (And.intro (fun _ => ?_) (fun q => absurd r5 q))
    refine WP.go 2 (And.intro (fun _ => ?_) (fun q => absurd q (by decide)))
    refine WP.go 1 ?_
    show WP (Call d) 299 P X (1689, [some (vr (some 2) 102), some (vr (some 3) 9), some (vr (some 90) 10), some (vr (some 100) 13), some (vi i), some (vi 1), some (vi (v))], [], (K, H), c + 2 + 0 + 0, s + 12 + 0 + 0)
    exact h _ _ _ _ _ _ (hI.m (CF.rf I) r4) ⟨by omega, by omega⟩
  ·
    show WP (Call d) 299 P X (459, [some (vr (some 2) 102), some (vr (some 3) 9), some (vr (some 90) 10), some (vr (some 100) 13), some (vi i), x5, x6], [vi 2], (I, H), c + 2, s + 12)
    obtain ⟨K0, hK0⟩ : ∃ K0, K0 = I := ⟨_, rfl⟩
    rw [← hK0]
    have kf : ∀ a, a < 6 ∨ (90 ≤ a ∧ a ≠ 100) → K0 a = I a := fun a q => by rw [hK0]
    have k2 : K0 2 = I 2 := kf 2 (by omega)
    have hMk : K0 91 = μ := (kf 91 (by omega)).trans hM
    have hKk : MS K0 := by unfold MS at *; rw [kf 90 (by omega)]; exact hK
    refine WP.go 1 ?_
    show WP (Call d) 299 P X (460, [some (vr (some 2) 102), some (vr (some 3) 9), some (vr (some 90) 10), some (vr (some 100) 13), some (vi i), some (vi 2), x6], [], (K0, H), c + 2, s + 12)
    refine WP.go 11 (Exists.intro (i + 1) (And.intro (wrp_a (by omega) (by omega)) (And.intro (And.intro rfl (And.intro (show 0 ≤ i + 1 from by omega) (show i + 1 < H.2.1 2 from by rw [hl2]; omega))) (Exists.intro (i + 2) (And.intro (wrp_a (by omega) (by omega)) (And.intro (And.intro rfl (And.intro (show 0 ≤ i + 2 from by omega) (show i + 2 < H.2.1 2 from by rw [hl2]; omega))) (?_)))))))
    show WP (Call d) 299 P X (471, [some (vr (some 2) 102), some (vr (some 3) 9), some (vr (some 90) 10), some (vr (some 100) 13), some (vi i), some (vi 2), x6], [vi (K0 2 (i + 2)), vi (K0 2 (i + 1)), vr (some 90) 10], (K0, H), c + 2, s + 12)
    rw [k2]
    refine WP.go 1 (And.intro (And.intro (show c + 2 + 0 ≤ 601024 from by omega) (show s + 12 + 0 ≤ 7293034 from by omega)) (And.intro rfl (?_)))
    show Call d 227 [vr (some 90) 10, vi (I 2 (i + 1)), vi (I 2 (i + 2))] (K0, H) _ _
    refine s_12_houses (by omega) hS hMk hV hKk (fun q => False.elim (by omega)) (fun r0 K v r3 r4 r5 => ?_) (fun q => False.elim (by omega))
    show WP (Call d) 299 P X (472, [some (vr (some 2) 102), some (vr (some 3) 9), some (vr (some 90) 10), some (vr (some 100) 13), some (vi i), some (vi 2), x6], [vi (v)], (K, H), c + 2 + 0, s + 12 + 0)
    rw [hK0] at r4
    refine WP.go 3 (And.intro (And.intro (show c + 2 + 0 + 0 ≤ 601024 from by omega) (show s + 12 + 0 + 0 ≤ 7293034 from by omega)) (And.intro rfl ?_))
    show Call d 176 [vr (some 90) 10] (K, H) _ _
    refine s_12_thrown (by omega) hS ?_
    show WP (Call d) 299 P X (475, [some (vr (some 2) 102), some (vr (some 3) 9), some (vr (some 90) 10), some (vr (some 100) 13), some (vi i), some (vi 2), some (vi (v))], [vi (K 90 0)], (K, H), c + 2 + 0 + 0, s + 12 + 0 + 0)
    refine WP.go 2 (And.intro (fun _ => ?_) (fun q => absurd r5 q))
    refine WP.go 2 (And.intro (fun _ => ?_) (fun q => absurd q (by decide)))
    refine WP.go 1 ?_
    show WP (Call d) 299 P X (1689, [some (vr (some 2) 102), some (vr (some 3) 9), some (vr (some 90) 10), some (vr (some 100) 13), some (vi i), some (vi 2), some (vi (v))], [], (K, H), c + 2 + 0 + 0, s + 12 + 0 + 0)
    exact h _ _ _ _ _ _ (hI.m (CF.rf I) r4) ⟨by omega, by omega⟩

set_option maxRecDepth 20000 in
theorem law_17 {d : Nat} {P : Option qV → qH → Prop} {X : Nat → qH → Prop} {I : qI} {H : qS} {f : Int → Int} {L i : Int} {x5 x6 : Option qV} {c s : Nat} (hd : 100 ≤ d) (hI : LI f L i I H) (hi : 0 ≤ i ∧ i + 6 ≤ L ∧ L ≤ 3072) (hc : (c : Int) ≤ 1000 + 100 * i ∧ (s : Int) ≤ 40000 + 2000 * i) (h : ∀ (K : qI) (G : qS) (y5 y6 : Option qV) (c9 s9 : Nat), LI f L (i + 6) K G → (c9 ≤ c + 90 ∧ s9 ≤ s + 9000) → WP (Call d) 299 P X (1689, [some (vr (some 2) 102), some (vr (some 3) 9), some (vr (some 90) 10), some (vr (some 100) 13), some (vi i), y5, y6], [], (K, G), c9, s9)) :
    WP (Call d) 299 P X (701, [some (vr (some 2) 102), some (vr (some 3) 9), some (vr (some 90) 10), some (vr (some 100) 13), some (vi i), x5, x6], [], (I, H), c, s) := by
  obtain ⟨hS, hX, ⟨hf2, hl2⟩, ⟨hT, hV, hO, hLL⟩, ⟨hC, hC2⟩, hK, hKP, hTP, hFX, h10⟩ := id hI
  have hl100 := hS.l100
  generalize hM : I 91 = μ at *
  refine WP.go 8 (Exists.intro (i + 1) (And.intro (wrp_a (by omega) (by omega)) (And.intro (And.intro rfl (And.intro (show 0 ≤ i + 1 from by omega) (show i + 1 < H.2.1 2 from by rw [hl2]; omega))) (And.intro (And.intro (show c + 1 ≤ 601024 from by omega) (show s + 6 ≤ 7293034 from by omega)) (And.intro rfl (?_))))))
  show Call d 281 [vr (some 3) 9, vi (I 2 (i + 1)), vr (some 100) 13] (I, H) _ _
  refine hl_broken (by omega) hS hX hT hV (fun v1 J v2 => ?_) (fun v1 => ?_)
  ·
    show WP (Call d) 299 P X (709, [some (vr (some 2) 102), some (vr (some 3) 9), some (vr (some 90) 10), some (vr (some 100) 13), some (vi i), x5, x6], [vi 0], (upI J 100 0 (fI (fun y => ¬ LITp μ (AN μ) (HT μ) (μ (394 + 3 * ((I 2 (i + 1))))) 6 y) (μ (395 + 3 * ((I 2 (i + 1))))) (μ (396 + 3 * ((I 2 (i + 1)))) + 1)), H), c + 1, s + 6)
    obtain ⟨K0, hK0⟩ : ∃ K0, K0 = upI J 100 0 (fI (fun y => ¬ LITp μ (AN μ) (HT μ) (μ (394 + 3 * ((I 2 (i + 1))))) 6 y) (μ (395 + 3 * ((I 2 (i + 1))))) (μ (396 + 3 * ((I 2 (i + 1)))) + 1)) := ⟨_, rfl⟩
    rw [← hK0]
    have ke : ∀ a, a ≠ 100 → K0 a = J a := fun a q => by rw [hK0]; exact upI_cell q
    have k1 : K0 100 0 = fI (fun y => ¬ LITp μ (AN μ) (HT μ) (μ (394 + 3 * ((I 2 (i + 1))))) 6 y) (μ (395 + 3 * ((I 2 (i + 1))))) (μ (396 + 3 * ((I 2 (i + 1)))) + 1) := by rw [hK0]; exact upI_same _ _ _ _
    have kf : ∀ a, a < 6 ∨ (90 ≤ a ∧ a ≠ 100) → K0 a = I a := fun a q => (ke a (by omega)).trans (v2 a (by omega))
    have k2 : K0 2 = I 2 := kf 2 (by omega)
    have hMk : K0 91 = μ := (kf 91 (by omega)).trans hM
    have hKk : MS K0 := by unfold MS at *; rw [kf 90 (by omega)]; exact hK
    refine WP.go 1 ?_
    show WP (Call d) 299 P X (710, [some (vr (some 2) 102), some (vr (some 3) 9), some (vr (some 90) 10), some (vr (some 100) 13), some (vi i), some (vi 0), x6], [], (K0, H), c + 1, s + 6)
    refine WP.go 6 (Exists.intro (i + 1) (And.intro (wrp_a (by omega) (by omega)) (And.intro (And.intro rfl (And.intro (show 0 ≤ i + 1 from by omega) (show i + 1 < H.2.1 2 from by rw [hl2]; omega))) (?_))))
    show WP (Call d) 299 P X (716, [some (vr (some 2) 102), some (vr (some 3) 9), some (vr (some 90) 10), some (vr (some 100) 13), some (vi i), some (vi 0), x6], [vi (K0 2 (i + 1)), vr (some 90) 10], (K0, H), c + 1, s + 6)
    rw [k2]
    refine WP.go 1 (And.intro (And.intro (show c + 1 + 0 ≤ 601024 from by omega) (show s + 6 + 0 ≤ 7293034 from by omega)) (And.intro rfl (?_)))
    show Call d 234 [vr (some 90) 10, vi (I 2 (i + 1))] (K0, H) _ _
    refine s_12_broken (by omega) hS hMk hV hKk (fun q => False.elim (by omega)) (fun r0 K r2 r3 => ?_)
    show WP (Call d) 299 P X (717, [some (vr (some 2) 102), some (vr (some 3) 9), some (vr (some 90) 10), some (vr (some 100) 13), some (vi i), some (vi 0), x6], [vi (fI (fun y => ¬ LITp μ (AN μ) (HT μ) (μ (394 + 3 * ((I 2 (i + 1))))) 6 y) (μ (395 + 3 * ((I 2 (i + 1))))) (μ (396 + 3 * ((I 2 (i + 1)))) + 1))], (K, H), c + 1 + 0, s + 6 + 0)
    have kk : K 100 = K0 100 := r2.1 100 (by omega)
    have k100 : K 100 0 = fI (fun y => ¬ LITp μ (AN μ) (HT μ) (μ (394 + 3 * ((I 2 (i + 1))))) 6 y) (μ (395 + 3 * ((I 2 (i + 1))))) (μ (396 + 3 * ((I 2 (i + 1)))) + 1) := by rw [kk, k1]
    rw [hK0] at r2
    refine WP.go 3 (And.intro (And.intro (show c + 1 + 0 + 0 ≤ 601024 from by omega) (show s + 6 + 0 + 0 ≤ 7293034 from by omega)) (And.intro rfl ?_))
    show Call d 176 [vr (some 90) 10] (K, H) _ _
    refine s_12_thrown (by omega) hS ?_
    show WP (Call d) 299 P X (720, [some (vr (some 2) 102), some (vr (some 3) 9), some (vr (some 90) 10), some (vr (some 100) 13), some (vi i), some (vi 0), some (vi (fI (fun y => ¬ LITp μ (AN μ) (HT μ) (μ (394 + 3 * ((I 2 (i + 1))))) 6 y) (μ (395 + 3 * ((I 2 (i + 1))))) (μ (396 + 3 * ((I 2 (i + 1)))) + 1)))], [vi (K 90 0)], (K, H), c + 1 + 0 + 0, s + 6 + 0 + 0)
    refine WP.go 2 (And.intro (fun _ => ?_) (fun q => absurd r3 q))
    refine WP.go 2 (And.intro (fun q => absurd rfl q) (fun _ => ?_))
    refine WP.go 7 (And.intro (And.intro rfl (And.intro (by decide) (show (0 : Int) < H.2.1 100 from by rw [hl100]; decide))) (And.intro (fun _ => ?_) (fun q => absurd (zcmp_e k100) q)))
    refine WP.go 1 ?_
    show WP (Call d) 299 P X (1689, [some (vr (some 2) 102), some (vr (some 3) 9), some (vr (some 90) 10), some (vr (some 100) 13), some (vi i), some (vi 0), some (vi (fI (fun y => ¬ LITp μ (AN μ) (HT μ) (μ (394 + 3 * ((I 2 (i + 1))))) 6 y) (μ (395 + 3 * ((I 2 (i + 1))))) (μ (396 + 3 * ((I 2 (i + 1)))) + 1)))], [], (K, H), c + 1 + 0 + 0, s + 6 + 0 + 0)
    exact h _ _ _ _ _ _ (hI.q v2 r2) ⟨by omega, by omega⟩
  ·
    show WP (Call d) 299 P X (709, [some (vr (some 2) 102), some (vr (some 3) 9), some (vr (some 90) 10), some (vr (some 100) 13), some (vi i), x5, x6], [vi 1], (I, H), c + 1, s + 6)
    obtain ⟨K0, hK0⟩ : ∃ K0, K0 = I := ⟨_, rfl⟩
    rw [← hK0]
    have kf : ∀ a, a < 6 ∨ (90 ≤ a ∧ a ≠ 100) → K0 a = I a := fun a q => by rw [hK0]
    have k2 : K0 2 = I 2 := kf 2 (by omega)
    have hMk : K0 91 = μ := (kf 91 (by omega)).trans hM
    have hKk : MS K0 := by unfold MS at *; rw [kf 90 (by omega)]; exact hK
    refine WP.go 1 ?_
    show WP (Call d) 299 P X (710, [some (vr (some 2) 102), some (vr (some 3) 9), some (vr (some 90) 10), some (vr (some 100) 13), some (vi i), some (vi 1), x6], [], (K0, H), c + 1, s + 6)
    refine WP.go 6 (Exists.intro (i + 1) (And.intro (wrp_a (by omega) (by omega)) (And.intro (And.intro rfl (And.intro (show 0 ≤ i + 1 from by omega) (show i + 1 < H.2.1 2 from by rw [hl2]; omega))) (?_))))
    show WP (Call d) 299 P X (716, [some (vr (some 2) 102), some (vr (some 3) 9), some (vr (some 90) 10), some (vr (some 100) 13), some (vi i), some (vi 1), x6], [vi (K0 2 (i + 1)), vr (some 90) 10], (K0, H), c + 1, s + 6)
    rw [k2]
    refine WP.go 1 (And.intro (And.intro (show c + 1 + 0 ≤ 601024 from by omega) (show s + 6 + 0 ≤ 7293034 from by omega)) (And.intro rfl (?_)))
    show Call d 234 [vr (some 90) 10, vi (I 2 (i + 1))] (K0, H) _ _
    refine s_12_broken (by omega) hS hMk hV hKk (fun r0 K v r3 r4 r5 => ?_) (fun q => False.elim (by omega))
    show WP (Call d) 299 P X (717, [some (vr (some 2) 102), some (vr (some 3) 9), some (vr (some 90) 10), some (vr (some 100) 13), some (vi i), some (vi 1), x6], [vi (v)], (K, H), c + 1 + 0, s + 6 + 0)
    rw [hK0] at r4
    refine WP.go 3 (And.intro (And.intro (show c + 1 + 0 + 0 ≤ 601024 from by omega) (show s + 6 + 0 + 0 ≤ 7293034 from by omega)) (And.intro rfl ?_))
    show Call d 176 [vr (some 90) 10] (K, H) _ _
    refine s_12_thrown (by omega) hS ?_
    show WP (Call d) 299 P X (720, [some (vr (some 2) 102), some (vr (some 3) 9), some (vr (some 90) 10), some (vr (some 100) 13), some (vi i), some (vi 1), some (vi (v))], [vi (K 90 0)], (K, H), c + 1 + 0 + 0, s + 6 + 0 + 0)
    refine WP.go 2 (And.intro (fun _ => ?_) (fun q => absurd r5 q))
    refine WP.go 2 (And.intro (fun _ => ?_) (fun q => absurd q (by decide)))
    refine WP.go 1 ?_
    show WP (Call d) 299 P X (1689, [some (vr (some 2) 102), some (vr (some 3) 9), some (vr (some 90) 10), some (vr (some 100) 13), some (vi i), some (vi 1), some (vi (v))], [], (K, H), c + 1 + 0 + 0, s + 6 + 0 + 0)
    exact h _ _ _ _ _ _ (hI.m (CF.rf I) r4) ⟨by omega, by omega⟩

set_option maxRecDepth 20000 in
theorem law_19 {d : Nat} {P : Option qV → qH → Prop} {X : Nat → qH → Prop} {I : qI} {H : qS} {f : Int → Int} {L i : Int} {x5 x6 : Option qV} {c s : Nat} (hd : 100 ≤ d) (hI : LI f L i I H) (hi : 0 ≤ i ∧ i + 6 ≤ L ∧ L ≤ 3072) (hc : (c : Int) ≤ 1000 + 100 * i ∧ (s : Int) ≤ 40000 + 2000 * i) (h : ∀ (K : qI) (G : qS) (y5 y6 : Option qV) (c9 s9 : Nat), LI f L (i + 6) K G → (c9 ≤ c + 90 ∧ s9 ≤ s + 9000) → WP (Call d) 299 P X (1689, [some (vr (some 2) 102), some (vr (some 3) 9), some (vr (some 90) 10), some (vr (some 100) 13), some (vi i), y5, y6], [], (K, G), c9, s9)) :
    WP (Call d) 299 P X (743, [some (vr (some 2) 102), some (vr (some 3) 9), some (vr (some 90) 10), some (vr (some 100) 13), some (vi i), x5, x6], [], (I, H), c, s) := by
  obtain ⟨hS, hX, ⟨hf2, hl2⟩, ⟨hT, hV, hO, hLL⟩, ⟨hC, hC2⟩, hK, hKP, hTP, hFX, h10⟩ := id hI
  have hl100 := hS.l100
  generalize hM : I 91 = μ at *
  refine WP.go 13 (Exists.intro (i + 1) (And.intro (wrp_a (by omega) (by omega)) (And.intro (And.intro rfl (And.intro (show 0 ≤ i + 1 from by omega) (show i + 1 < H.2.1 2 from by rw [hl2]; omega))) (Exists.intro (i + 2) (And.intro (wrp_a (by omega) (by omega)) (And.intro (And.intro rfl (And.intro (show 0 ≤ i + 2 from by omega) (show i + 2 < H.2.1 2 from by rw [hl2]; omega))) (And.intro (And.intro (show c + 2 ≤ 601024 from by omega) (show s + 12 ≤ 7293034 from by omega)) (And.intro rfl (?_)))))))))
  show Call d 282 [vr (some 3) 9, vi (I 2 (i + 1)), vi (I 2 (i + 2)), vr (some 100) 13] (I, H) _ _
  refine hl_level (by omega) hS hX hT hV (fun v1 J v2 => ?_) (fun v1 => ?_)
  ·
    show WP (Call d) 299 P X (756, [some (vr (some 2) 102), some (vr (some 3) 9), some (vr (some 90) 10), some (vr (some 100) 13), some (vi i), x5, x6], [vi 0], (upI J 100 0 (LVL μ (AN μ) ((I 2 (i + 1))) ((I 2 (i + 2)))), H), c + 2, s + 12)
    obtain ⟨K0, hK0⟩ : ∃ K0, K0 = upI J 100 0 (LVL μ (AN μ) ((I 2 (i + 1))) ((I 2 (i + 2)))) := ⟨_, rfl⟩
    rw [← hK0]
    have ke : ∀ a, a ≠ 100 → K0 a = J a := fun a q => by rw [hK0]; exact upI_cell q
    have k1 : K0 100 0 = LVL μ (AN μ) ((I 2 (i + 1))) ((I 2 (i + 2))) := by rw [hK0]; exact upI_same _ _ _ _
    have kf : ∀ a, a < 6 ∨ (90 ≤ a ∧ a ≠ 100) → K0 a = I a := fun a q => (ke a (by omega)).trans (v2 a (by omega))
    have k2 : K0 2 = I 2 := kf 2 (by omega)
    have hMk : K0 91 = μ := (kf 91 (by omega)).trans hM
    have hKk : MS K0 := by unfold MS at *; rw [kf 90 (by omega)]; exact hK
    refine WP.go 1 ?_
    show WP (Call d) 299 P X (757, [some (vr (some 2) 102), some (vr (some 3) 9), some (vr (some 90) 10), some (vr (some 100) 13), some (vi i), some (vi 0), x6], [], (K0, H), c + 2, s + 12)
    refine WP.go 11 (Exists.intro (i + 1) (And.intro (wrp_a (by omega) (by omega)) (And.intro (And.intro rfl (And.intro (show 0 ≤ i + 1 from by omega) (show i + 1 < H.2.1 2 from by rw [hl2]; omega))) (Exists.intro (i + 2) (And.intro (wrp_a (by omega) (by omega)) (And.intro (And.intro rfl (And.intro (show 0 ≤ i + 2 from by omega) (show i + 2 < H.2.1 2 from by rw [hl2]; omega))) (?_)))))))
    show WP (Call d) 299 P X (768, [some (vr (some 2) 102), some (vr (some 3) 9), some (vr (some 90) 10), some (vr (some 100) 13), some (vi i), some (vi 0), x6], [vi (K0 2 (i + 2)), vi (K0 2 (i + 1)), vr (some 90) 10], (K0, H), c + 2, s + 12)
    rw [k2]
    refine WP.go 1 (And.intro (And.intro (show c + 2 + 0 ≤ 601024 from by omega) (show s + 12 + 0 ≤ 7293034 from by omega)) (And.intro rfl (?_)))
    show Call d 236 [vr (some 90) 10, vi (I 2 (i + 1)), vi (I 2 (i + 2))] (K0, H) _ _
    refine s_12_level (by omega) hS hMk hV hKk (fun q => False.elim (by omega)) (fun r0 K r2 r3 => ?_)
    show WP (Call d) 299 P X (769, [some (vr (some 2) 102), some (vr (some 3) 9), some (vr (some 90) 10), some (vr (some 100) 13), some (vi i), some (vi 0), x6], [vi (LVL μ (AN μ) ((I 2 (i + 1))) ((I 2 (i + 2))))], (K, H), c + 2 + 0, s + 12 + 0)
    have kk : K 100 = K0 100 := r2.1 100 (by omega)
    have k100 : K 100 0 = LVL μ (AN μ) ((I 2 (i + 1))) ((I 2 (i + 2))) := by rw [kk, k1]
    rw [hK0] at r2
    refine WP.go 3 (And.intro (And.intro (show c + 2 + 0 + 0 ≤ 601024 from by omega) (show s + 12 + 0 + 0 ≤ 7293034 from by omega)) (And.intro rfl ?_))
    show Call d 176 [vr (some 90) 10] (K, H) _ _
    refine s_12_thrown (by omega) hS ?_
    show WP (Call d) 299 P X (772, [some (vr (some 2) 102), some (vr (some 3) 9), some (vr (some 90) 10), some (vr (some 100) 13), some (vi i), some (vi 0), some (vi (LVL μ (AN μ) ((I 2 (i + 1))) ((I 2 (i + 2)))))], [vi (K 90 0)], (K, H), c + 2 + 0 + 0, s + 12 + 0 + 0)
    refine WP.go 2 (And.intro (fun _ => ?_) (fun q => absurd r3 q))
    refine WP.go 2 (And.intro (fun q => absurd rfl q) (fun _ => ?_))
    refine WP.go 7 (And.intro (And.intro rfl (And.intro (by decide) (show (0 : Int) < H.2.1 100 from by rw [hl100]; decide))) (And.intro (fun _ => ?_) (fun q => absurd (zcmp_e k100) q)))
    refine WP.go 1 ?_
    show WP (Call d) 299 P X (1689, [some (vr (some 2) 102), some (vr (some 3) 9), some (vr (some 90) 10), some (vr (some 100) 13), some (vi i), some (vi 0), some (vi (LVL μ (AN μ) ((I 2 (i + 1))) ((I 2 (i + 2)))))], [], (K, H), c + 2 + 0 + 0, s + 12 + 0 + 0)
    exact h _ _ _ _ _ _ (hI.q v2 r2) ⟨by omega, by omega⟩
  ·
    show WP (Call d) 299 P X (756, [some (vr (some 2) 102), some (vr (some 3) 9), some (vr (some 90) 10), some (vr (some 100) 13), some (vi i), x5, x6], [vi 1], (I, H), c + 2, s + 12)
    obtain ⟨K0, hK0⟩ : ∃ K0, K0 = I := ⟨_, rfl⟩
    rw [← hK0]
    have kf : ∀ a, a < 6 ∨ (90 ≤ a ∧ a ≠ 100) → K0 a = I a := fun a q => by rw [hK0]
    have k2 : K0 2 = I 2 := kf 2 (by omega)
    have hMk : K0 91 = μ := (kf 91 (by omega)).trans hM
    have hKk : MS K0 := by unfold MS at *; rw [kf 90 (by omega)]; exact hK
    refine WP.go 1 ?_
    show WP (Call d) 299 P X (757, [some (vr (some 2) 102), some (vr (some 3) 9), some (vr (some 90) 10), some (vr (some 100) 13), some (vi i), some (vi 1), x6], [], (K0, H), c + 2, s + 12)
    refine WP.go 11 (Exists.intro (i + 1) (And.intro (wrp_a (by omega) (by omega)) (And.intro (And.intro rfl (And.intro (show 0 ≤ i + 1 from by omega) (show i + 1 < H.2.1 2 from by rw [hl2]; omega))) (Exists.intro (i + 2) (And.intro (wrp_a (by omega) (by omega)) (And.intro (And.intro rfl (And.intro (show 0 ≤ i + 2 from by omega) (show i + 2 < H.2.1 2 from by rw [hl2]; omega))) (?_)))))))
    show WP (Call d) 299 P X (768, [some (vr (some 2) 102), some (vr (some 3) 9), some (vr (some 90) 10), some (vr (some 100) 13), some (vi i), some (vi 1), x6], [vi (K0 2 (i + 2)), vi (K0 2 (i + 1)), vr (some 90) 10], (K0, H), c + 2, s + 12)
    rw [k2]
    refine WP.go 1 (And.intro (And.intro (show c + 2 + 0 ≤ 601024 from by omega) (show s + 12 + 0 ≤ 7293034 from by omega)) (And.intro rfl (?_)))
    show Call d 236 [vr (some 90) 10, vi (I 2 (i + 1)), vi (I 2 (i + 2))] (K0, H) _ _
    refine s_12_level (by omega) hS hMk hV hKk (fun r0 K v r3 r4 r5 => ?_) (fun q => False.elim (by omega))
    show WP (Call d) 299 P X (769, [some (vr (some 2) 102), some (vr (some 3) 9), some (vr (some 90) 10), some (vr (some 100) 13), some (vi i), some (vi 1), x6], [vi (v)], (K, H), c + 2 + 0, s + 12 + 0)
    rw [hK0] at r4
    refine WP.go 3 (And.intro (And.intro (show c + 2 + 0 + 0 ≤ 601024 from by omega) (show s + 12 + 0 + 0 ≤ 7293034 from by omega)) (And.intro rfl ?_))
    show Call d 176 [vr (some 90) 10] (K, H) _ _
    refine s_12_thrown (by omega) hS ?_
    show WP (Call d) 299 P X (772, [some (vr (some 2) 102), some (vr (some 3) 9), some (vr (some 90) 10), some (vr (some 100) 13), some (vi i), some (vi 1), some (vi (v))], [vi (K 90 0)], (K, H), c + 2 + 0 + 0, s + 12 + 0 + 0)
    refine WP.go 2 (And.intro (fun _ => ?_) (fun q => absurd r5 q))
    refine WP.go 2 (And.intro (fun _ => ?_) (fun q => absurd q (by decide)))
    refine WP.go 1 ?_
    show WP (Call d) 299 P X (1689, [some (vr (some 2) 102), some (vr (some 3) 9), some (vr (some 90) 10), some (vr (some 100) 13), some (vi i), some (vi 1), some (vi (v))], [], (K, H), c + 2 + 0 + 0, s + 12 + 0 + 0)
    exact h _ _ _ _ _ _ (hI.m (CF.rf I) r4) ⟨by omega, by omega⟩

set_option maxRecDepth 20000 in
theorem law_21 {d : Nat} {P : Option qV → qH → Prop} {X : Nat → qH → Prop} {I : qI} {H : qS} {f : Int → Int} {L i : Int} {x5 x6 : Option qV} {c s : Nat} (hd : 100 ≤ d) (hI : LI f L i I H) (hi : 0 ≤ i ∧ i + 6 ≤ L ∧ L ≤ 3072) (hc : (c : Int) ≤ 1000 + 100 * i ∧ (s : Int) ≤ 40000 + 2000 * i) (h : ∀ (K : qI) (G : qS) (y5 y6 : Option qV) (c9 s9 : Nat), LI f L (i + 6) K G → (c9 ≤ c + 90 ∧ s9 ≤ s + 9000) → WP (Call d) 299 P X (1689, [some (vr (some 2) 102), some (vr (some 3) 9), some (vr (some 90) 10), some (vr (some 100) 13), some (vi i), y5, y6], [], (K, G), c9, s9)) :
    WP (Call d) 299 P X (833, [some (vr (some 2) 102), some (vr (some 3) 9), some (vr (some 90) 10), some (vr (some 100) 13), some (vi i), x5, x6], [], (I, H), c, s) := by
  obtain ⟨hS, hX, ⟨hf2, hl2⟩, ⟨hT, hV, hO, hLL⟩, ⟨hC, hC2⟩, hK, hKP, hTP, hFX, h10⟩ := id hI
  have hl100 := hS.l100
  generalize hM : I 91 = μ at *
  refine WP.go 13 (Exists.intro (i + 1) (And.intro (wrp_a (by omega) (by omega)) (And.intro (And.intro rfl (And.intro (show 0 ≤ i + 1 from by omega) (show i + 1 < H.2.1 2 from by rw [hl2]; omega))) (Exists.intro (i + 2) (And.intro (wrp_a (by omega) (by omega)) (And.intro (And.intro rfl (And.intro (show 0 ≤ i + 2 from by omega) (show i + 2 < H.2.1 2 from by rw [hl2]; omega))) (And.intro (And.intro (show c + 2 ≤ 601024 from by omega) (show s + 12 ≤ 7293034 from by omega)) (And.intro rfl (?_)))))))))
  show Call d 284 [vr (some 3) 9, vi (I 2 (i + 1)), vi (I 2 (i + 2)), vr (some 100) 13] (I, H) _ _
  refine hl_runs (by omega) hS hX hT hV (fun v1 J v2 => ?_) (fun v1 => ?_)
  ·
    show WP (Call d) 299 P X (846, [some (vr (some 2) 102), some (vr (some 3) 9), some (vr (some 90) 10), some (vr (some 100) 13), some (vi i), x5, x6], [vi 0], (upI J 100 0 (bz (RUNp μ (AN μ) ((I 2 (i + 1))) ((I 2 (i + 2))))), H), c + 2, s + 12)
    obtain ⟨K0, hK0⟩ : ∃ K0, K0 = upI J 100 0 (bz (RUNp μ (AN μ) ((I 2 (i + 1))) ((I 2 (i + 2))))) := ⟨_, rfl⟩
    rw [← hK0]
    have ke : ∀ a, a ≠ 100 → K0 a = J a := fun a q => by rw [hK0]; exact upI_cell q
    have k1 : K0 100 0 = bz (RUNp μ (AN μ) ((I 2 (i + 1))) ((I 2 (i + 2)))) := by rw [hK0]; exact upI_same _ _ _ _
    have kf : ∀ a, a < 6 ∨ (90 ≤ a ∧ a ≠ 100) → K0 a = I a := fun a q => (ke a (by omega)).trans (v2 a (by omega))
    have k2 : K0 2 = I 2 := kf 2 (by omega)
    have hMk : K0 91 = μ := (kf 91 (by omega)).trans hM
    have hKk : MS K0 := by unfold MS at *; rw [kf 90 (by omega)]; exact hK
    refine WP.go 1 ?_
    show WP (Call d) 299 P X (847, [some (vr (some 2) 102), some (vr (some 3) 9), some (vr (some 90) 10), some (vr (some 100) 13), some (vi i), some (vi 0), x6], [], (K0, H), c + 2, s + 12)
    refine WP.go 11 (Exists.intro (i + 1) (And.intro (wrp_a (by omega) (by omega)) (And.intro (And.intro rfl (And.intro (show 0 ≤ i + 1 from by omega) (show i + 1 < H.2.1 2 from by rw [hl2]; omega))) (Exists.intro (i + 2) (And.intro (wrp_a (by omega) (by omega)) (And.intro (And.intro rfl (And.intro (show 0 ≤ i + 2 from by omega) (show i + 2 < H.2.1 2 from by rw [hl2]; omega))) (?_)))))))
    show WP (Call d) 299 P X (858, [some (vr (some 2) 102), some (vr (some 3) 9), some (vr (some 90) 10), some (vr (some 100) 13), some (vi i), some (vi 0), x6], [vi (K0 2 (i + 2)), vi (K0 2 (i + 1)), vr (some 90) 10], (K0, H), c + 2, s + 12)
    rw [k2]
    refine WP.go 1 (And.intro (And.intro (show c + 2 + 0 ≤ 601024 from by omega) (show s + 12 + 0 ≤ 7293034 from by omega)) (And.intro rfl (?_)))
    show Call d 239 [vr (some 90) 10, vi (I 2 (i + 1)), vi (I 2 (i + 2))] (K0, H) _ _
    refine s_12_runs (by omega) hS hMk hV hKk (fun q => False.elim (by omega)) (fun r0 K r2 r3 => ?_)
    show WP (Call d) 299 P X (859, [some (vr (some 2) 102), some (vr (some 3) 9), some (vr (some 90) 10), some (vr (some 100) 13), some (vi i), some (vi 0), x6], [vi (bz (RUNp μ (AN μ) ((I 2 (i + 1))) ((I 2 (i + 2)))))], (K, H), c + 2 + 0, s + 12 + 0)
    have kk : K 100 = K0 100 := r2.1 100 (by omega)
    have k100 : K 100 0 = bz (RUNp μ (AN μ) ((I 2 (i + 1))) ((I 2 (i + 2)))) := by rw [kk, k1]
    rw [hK0] at r2
    refine WP.go 3 (And.intro (And.intro (show c + 2 + 0 + 0 ≤ 601024 from by omega) (show s + 12 + 0 + 0 ≤ 7293034 from by omega)) (And.intro rfl ?_))
    show Call d 176 [vr (some 90) 10] (K, H) _ _
    refine s_12_thrown (by omega) hS ?_
    show WP (Call d) 299 P X (862, [some (vr (some 2) 102), some (vr (some 3) 9), some (vr (some 90) 10), some (vr (some 100) 13), some (vi i), some (vi 0), some (vi (bz (RUNp μ (AN μ) ((I 2 (i + 1))) ((I 2 (i + 2))))))], [vi (K 90 0)], (K, H), c + 2 + 0 + 0, s + 12 + 0 + 0)
    refine WP.go 2 (And.intro (fun _ => ?_) (fun q => absurd r3 q))
    refine WP.go 2 (And.intro (fun q => absurd rfl q) (fun _ => ?_))
    rcases bz_01 (RUNp μ (AN μ) ((I 2 (i + 1))) ((I 2 (i + 2)))) with zz | zz
    · refine WP.go 8 (And.intro (And.intro rfl (And.intro (by decide) (show (0 : Int) < H.2.1 100 from by rw [hl100]; decide))) (And.intro (fun _ => And.intro (fun _ => ?_) (fun q => absurd (zcmp_e (k100.trans zz)) q)) (fun q => absurd zz q)))
      refine WP.go 1 ?_
      show WP (Call d) 299 P X (1689, [some (vr (some 2) 102), some (vr (some 3) 9), some (vr (some 90) 10), some (vr (some 100) 13), some (vi i), some (vi 0), some (vi (bz (RUNp μ (AN μ) ((I 2 (i + 1))) ((I 2 (i + 2))))))], [], (K, H), c + 2 + 0 + 0, s + 12 + 0 + 0)
      exact h _ _ _ _ _ _ (hI.q v2 r2) ⟨by omega, by omega⟩
    · refine WP.go 9 (And.intro (And.intro rfl (And.intro (by decide) (show (0 : Int) < H.2.1 100 from by rw [hl100]; decide))) (And.intro (fun q => absurd q (by rw [zz]; decide)) (fun _ => And.intro (fun _ => ?_) (fun q => absurd (zcmp_e (k100.trans zz)) q))))
      refine WP.go 1 ?_
      show WP (Call d) 299 P X (1689, [some (vr (some 2) 102), some (vr (some 3) 9), some (vr (some 90) 10), some (vr (some 100) 13), some (vi i), some (vi 0), some (vi (bz (RUNp μ (AN μ) ((I 2 (i + 1))) ((I 2 (i + 2))))))], [], (K, H), c + 2 + 0 + 0, s + 12 + 0 + 0)
      exact h _ _ _ _ _ _ (hI.q v2 r2) ⟨by omega, by omega⟩
  ·
    show WP (Call d) 299 P X (846, [some (vr (some 2) 102), some (vr (some 3) 9), some (vr (some 90) 10), some (vr (some 100) 13), some (vi i), x5, x6], [vi 1], (I, H), c + 2, s + 12)
    obtain ⟨K0, hK0⟩ : ∃ K0, K0 = I := ⟨_, rfl⟩
    rw [← hK0]
    have kf : ∀ a, a < 6 ∨ (90 ≤ a ∧ a ≠ 100) → K0 a = I a := fun a q => by rw [hK0]
    have k2 : K0 2 = I 2 := kf 2 (by omega)
    have hMk : K0 91 = μ := (kf 91 (by omega)).trans hM
    have hKk : MS K0 := by unfold MS at *; rw [kf 90 (by omega)]; exact hK
    refine WP.go 1 ?_
    show WP (Call d) 299 P X (847, [some (vr (some 2) 102), some (vr (some 3) 9), some (vr (some 90) 10), some (vr (some 100) 13), some (vi i), some (vi 1), x6], [], (K0, H), c + 2, s + 12)
    refine WP.go 11 (Exists.intro (i + 1) (And.intro (wrp_a (by omega) (by omega)) (And.intro (And.intro rfl (And.intro (show 0 ≤ i + 1 from by omega) (show i + 1 < H.2.1 2 from by rw [hl2]; omega))) (Exists.intro (i + 2) (And.intro (wrp_a (by omega) (by omega)) (And.intro (And.intro rfl (And.intro (show 0 ≤ i + 2 from by omega) (show i + 2 < H.2.1 2 from by rw [hl2]; omega))) (?_)))))))
    show WP (Call d) 299 P X (858, [some (vr (some 2) 102), some (vr (some 3) 9), some (vr (some 90) 10), some (vr (some 100) 13), some (vi i), some (vi 1), x6], [vi (K0 2 (i + 2)), vi (K0 2 (i + 1)), vr (some 90) 10], (K0, H), c + 2, s + 12)
    rw [k2]
    refine WP.go 1 (And.intro (And.intro (show c + 2 + 0 ≤ 601024 from by omega) (show s + 12 + 0 ≤ 7293034 from by omega)) (And.intro rfl (?_)))
    show Call d 239 [vr (some 90) 10, vi (I 2 (i + 1)), vi (I 2 (i + 2))] (K0, H) _ _
    refine s_12_runs (by omega) hS hMk hV hKk (fun r0 K v r3 r4 r5 => ?_) (fun q => False.elim (by omega))
    show WP (Call d) 299 P X (859, [some (vr (some 2) 102), some (vr (some 3) 9), some (vr (some 90) 10), some (vr (some 100) 13), some (vi i), some (vi 1), x6], [vi (v)], (K, H), c + 2 + 0, s + 12 + 0)
    rw [hK0] at r4
    refine WP.go 3 (And.intro (And.intro (show c + 2 + 0 + 0 ≤ 601024 from by omega) (show s + 12 + 0 + 0 ≤ 7293034 from by omega)) (And.intro rfl ?_))
    show Call d 176 [vr (some 90) 10] (K, H) _ _
    refine s_12_thrown (by omega) hS ?_
    show WP (Call d) 299 P X (862, [some (vr (some 2) 102), some (vr (some 3) 9), some (vr (some 90) 10), some (vr (some 100) 13), some (vi i), some (vi 1), some (vi (v))], [vi (K 90 0)], (K, H), c + 2 + 0 + 0, s + 12 + 0 + 0)
    refine WP.go 2 (And.intro (fun _ => ?_) (fun q => absurd r5 q))
    refine WP.go 2 (And.intro (fun _ => ?_) (fun q => absurd q (by decide)))
    refine WP.go 1 ?_
    show WP (Call d) 299 P X (1689, [some (vr (some 2) 102), some (vr (some 3) 9), some (vr (some 90) 10), some (vr (some 100) 13), some (vi i), some (vi 1), some (vi (v))], [], (K, H), c + 2 + 0 + 0, s + 12 + 0 + 0)
    exact h _ _ _ _ _ _ (hI.m (CF.rf I) r4) ⟨by omega, by omega⟩

set_option maxRecDepth 20000 in
theorem law_23 {d : Nat} {P : Option qV → qH → Prop} {X : Nat → qH → Prop} {I : qI} {H : qS} {f : Int → Int} {L i : Int} {x5 x6 : Option qV} {c s : Nat} (hd : 100 ≤ d) (hI : LI f L i I H) (hi : 0 ≤ i ∧ i + 6 ≤ L ∧ L ≤ 3072) (hc : (c : Int) ≤ 1000 + 100 * i ∧ (s : Int) ≤ 40000 + 2000 * i) (h : ∀ (K : qI) (G : qS) (y5 y6 : Option qV) (c9 s9 : Nat), LI f L (i + 6) K G → (c9 ≤ c + 90 ∧ s9 ≤ s + 9000) → WP (Call d) 299 P X (1689, [some (vr (some 2) 102), some (vr (some 3) 9), some (vr (some 90) 10), some (vr (some 100) 13), some (vi i), y5, y6], [], (K, G), c9, s9)) :
    WP (Call d) 299 P X (934, [some (vr (some 2) 102), some (vr (some 3) 9), some (vr (some 90) 10), some (vr (some 100) 13), some (vi i), x5, x6], [], (I, H), c, s) := by
  obtain ⟨hS, hX, ⟨hf2, hl2⟩, ⟨hT, hV, hO, hLL⟩, ⟨hC, hC2⟩, hK, hKP, hTP, hFX, h10⟩ := id hI
  have hl100 := hS.l100
  generalize hM : I 91 = μ at *
  refine WP.go 13 (Exists.intro (i + 1) (And.intro (wrp_a (by omega) (by omega)) (And.intro (And.intro rfl (And.intro (show 0 ≤ i + 1 from by omega) (show i + 1 < H.2.1 2 from by rw [hl2]; omega))) (Exists.intro (i + 2) (And.intro (wrp_a (by omega) (by omega)) (And.intro (And.intro rfl (And.intro (show 0 ≤ i + 2 from by omega) (show i + 2 < H.2.1 2 from by rw [hl2]; omega))) (And.intro (And.intro (show c + 2 ≤ 601024 from by omega) (show s + 12 ≤ 7293034 from by omega)) (And.intro rfl (?_)))))))))
  show Call d 286 [vr (some 3) 9, vi (I 2 (i + 1)), vi (I 2 (i + 2)), vr (some 100) 13] (I, H) _ _
  refine hl_pool (by omega) hS hX hT hV (fun v1 J v2 => ?_) (fun v1 => ?_)
  ·
    show WP (Call d) 299 P X (947, [some (vr (some 2) 102), some (vr (some 3) 9), some (vr (some 90) 10), some (vr (some 100) 13), some (vi i), x5, x6], [vi 0], (upI J 100 0 (POOL μ (AN μ) (HT μ) ((I 2 (i + 1))) ((I 2 (i + 2)))), H), c + 2, s + 12)
    obtain ⟨K0, hK0⟩ : ∃ K0, K0 = upI J 100 0 (POOL μ (AN μ) (HT μ) ((I 2 (i + 1))) ((I 2 (i + 2)))) := ⟨_, rfl⟩
    rw [← hK0]
    have ke : ∀ a, a ≠ 100 → K0 a = J a := fun a q => by rw [hK0]; exact upI_cell q
    have k1 : K0 100 0 = POOL μ (AN μ) (HT μ) ((I 2 (i + 1))) ((I 2 (i + 2))) := by rw [hK0]; exact upI_same _ _ _ _
    have kf : ∀ a, a < 6 ∨ (90 ≤ a ∧ a ≠ 100) → K0 a = I a := fun a q => (ke a (by omega)).trans (v2 a (by omega))
    have k2 : K0 2 = I 2 := kf 2 (by omega)
    have hMk : K0 91 = μ := (kf 91 (by omega)).trans hM
    have hKk : MS K0 := by unfold MS at *; rw [kf 90 (by omega)]; exact hK
    refine WP.go 1 ?_
    show WP (Call d) 299 P X (948, [some (vr (some 2) 102), some (vr (some 3) 9), some (vr (some 90) 10), some (vr (some 100) 13), some (vi i), some (vi 0), x6], [], (K0, H), c + 2, s + 12)
    refine WP.go 11 (Exists.intro (i + 1) (And.intro (wrp_a (by omega) (by omega)) (And.intro (And.intro rfl (And.intro (show 0 ≤ i + 1 from by omega) (show i + 1 < H.2.1 2 from by rw [hl2]; omega))) (Exists.intro (i + 2) (And.intro (wrp_a (by omega) (by omega)) (And.intro (And.intro rfl (And.intro (show 0 ≤ i + 2 from by omega) (show i + 2 < H.2.1 2 from by rw [hl2]; omega))) (?_)))))))
    show WP (Call d) 299 P X (959, [some (vr (some 2) 102), some (vr (some 3) 9), some (vr (some 90) 10), some (vr (some 100) 13), some (vi i), some (vi 0), x6], [vi (K0 2 (i + 2)), vi (K0 2 (i + 1)), vr (some 90) 10], (K0, H), c + 2, s + 12)
    rw [k2]
    refine WP.go 1 (And.intro (And.intro (show c + 2 + 0 ≤ 601024 from by omega) (show s + 12 + 0 ≤ 7293034 from by omega)) (And.intro rfl (?_)))
    show Call d 241 [vr (some 90) 10, vi (I 2 (i + 1)), vi (I 2 (i + 2))] (K0, H) _ _
    refine s_12_pool (by omega) hS hMk hV hKk (fun q => False.elim (by omega)) (fun r0 K r2 r3 => ?_)
    show WP (Call d) 299 P X (960, [some (vr (some 2) 102), some (vr (some 3) 9), some (vr (some 90) 10), some (vr (some 100) 13), some (vi i), some (vi 0), x6], [vi (POOL μ (AN μ) (HT μ) ((I 2 (i + 1))) ((I 2 (i + 2))))], (K, H), c + 2 + 0, s + 12 + 0)
    have kk : K 100 = K0 100 := r2.1 100 (by omega)
    have k100 : K 100 0 = POOL μ (AN μ) (HT μ) ((I 2 (i + 1))) ((I 2 (i + 2))) := by rw [kk, k1]
    rw [hK0] at r2
    refine WP.go 3 (And.intro (And.intro (show c + 2 + 0 + 0 ≤ 601024 from by omega) (show s + 12 + 0 + 0 ≤ 7293034 from by omega)) (And.intro rfl ?_))
    show Call d 176 [vr (some 90) 10] (K, H) _ _
    refine s_12_thrown (by omega) hS ?_
    show WP (Call d) 299 P X (963, [some (vr (some 2) 102), some (vr (some 3) 9), some (vr (some 90) 10), some (vr (some 100) 13), some (vi i), some (vi 0), some (vi (POOL μ (AN μ) (HT μ) ((I 2 (i + 1))) ((I 2 (i + 2)))))], [vi (K 90 0)], (K, H), c + 2 + 0 + 0, s + 12 + 0 + 0)
    refine WP.go 2 (And.intro (fun _ => ?_) (fun q => absurd r3 q))
    refine WP.go 2 (And.intro (fun q => absurd rfl q) (fun _ => ?_))
    refine WP.go 7 (And.intro (And.intro rfl (And.intro (by decide) (show (0 : Int) < H.2.1 100 from by rw [hl100]; decide))) (And.intro (fun _ => ?_) (fun q => absurd (zcmp_e k100) q)))
    refine WP.go 1 ?_
    show WP (Call d) 299 P X (1689, [some (vr (some 2) 102), some (vr (some 3) 9), some (vr (some 90) 10), some (vr (some 100) 13), some (vi i), some (vi 0), some (vi (POOL μ (AN μ) (HT μ) ((I 2 (i + 1))) ((I 2 (i + 2)))))], [], (K, H), c + 2 + 0 + 0, s + 12 + 0 + 0)
    exact h _ _ _ _ _ _ (hI.q v2 r2) ⟨by omega, by omega⟩
  ·
    show WP (Call d) 299 P X (947, [some (vr (some 2) 102), some (vr (some 3) 9), some (vr (some 90) 10), some (vr (some 100) 13), some (vi i), x5, x6], [vi 1], (I, H), c + 2, s + 12)
    obtain ⟨K0, hK0⟩ : ∃ K0, K0 = I := ⟨_, rfl⟩
    rw [← hK0]
    have kf : ∀ a, a < 6 ∨ (90 ≤ a ∧ a ≠ 100) → K0 a = I a := fun a q => by rw [hK0]
    have k2 : K0 2 = I 2 := kf 2 (by omega)
    have hMk : K0 91 = μ := (kf 91 (by omega)).trans hM
    have hKk : MS K0 := by unfold MS at *; rw [kf 90 (by omega)]; exact hK
    refine WP.go 1 ?_
    show WP (Call d) 299 P X (948, [some (vr (some 2) 102), some (vr (some 3) 9), some (vr (some 90) 10), some (vr (some 100) 13), some (vi i), some (vi 1), x6], [], (K0, H), c + 2, s + 12)
    refine WP.go 11 (Exists.intro (i + 1) (And.intro (wrp_a (by omega) (by omega)) (And.intro (And.intro rfl (And.intro (show 0 ≤ i + 1 from by omega) (show i + 1 < H.2.1 2 from by rw [hl2]; omega))) (Exists.intro (i + 2) (And.intro (wrp_a (by omega) (by omega)) (And.intro (And.intro rfl (And.intro (show 0 ≤ i + 2 from by omega) (show i + 2 < H.2.1 2 from by rw [hl2]; omega))) (?_)))))))
    show WP (Call d) 299 P X (959, [some (vr (some 2) 102), some (vr (some 3) 9), some (vr (some 90) 10), some (vr (some 100) 13), some (vi i), some (vi 1), x6], [vi (K0 2 (i + 2)), vi (K0 2 (i + 1)), vr (some 90) 10], (K0, H), c + 2, s + 12)
    rw [k2]
    refine WP.go 1 (And.intro (And.intro (show c + 2 + 0 ≤ 601024 from by omega) (show s + 12 + 0 ≤ 7293034 from by omega)) (And.intro rfl (?_)))
    show Call d 241 [vr (some 90) 10, vi (I 2 (i + 1)), vi (I 2 (i + 2))] (K0, H) _ _
    refine s_12_pool (by omega) hS hMk hV hKk (fun r0 K v r3 r4 r5 => ?_) (fun q => False.elim (by omega))
    show WP (Call d) 299 P X (960, [some (vr (some 2) 102), some (vr (some 3) 9), some (vr (some 90) 10), some (vr (some 100) 13), some (vi i), some (vi 1), x6], [vi (v)], (K, H), c + 2 + 0, s + 12 + 0)
    rw [hK0] at r4
    refine WP.go 3 (And.intro (And.intro (show c + 2 + 0 + 0 ≤ 601024 from by omega) (show s + 12 + 0 + 0 ≤ 7293034 from by omega)) (And.intro rfl ?_))
    show Call d 176 [vr (some 90) 10] (K, H) _ _
    refine s_12_thrown (by omega) hS ?_
    show WP (Call d) 299 P X (963, [some (vr (some 2) 102), some (vr (some 3) 9), some (vr (some 90) 10), some (vr (some 100) 13), some (vi i), some (vi 1), some (vi (v))], [vi (K 90 0)], (K, H), c + 2 + 0 + 0, s + 12 + 0 + 0)
    refine WP.go 2 (And.intro (fun _ => ?_) (fun q => absurd r5 q))
    refine WP.go 2 (And.intro (fun _ => ?_) (fun q => absurd q (by decide)))
    refine WP.go 1 ?_
    show WP (Call d) 299 P X (1689, [some (vr (some 2) 102), some (vr (some 3) 9), some (vr (some 90) 10), some (vr (some 100) 13), some (vi i), some (vi 1), some (vi (v))], [], (K, H), c + 2 + 0 + 0, s + 12 + 0 + 0)
    exact h _ _ _ _ _ _ (hI.m (CF.rf I) r4) ⟨by omega, by omega⟩

set_option maxRecDepth 20000 in
theorem law_28 {d : Nat} {P : Option qV → qH → Prop} {X : Nat → qH → Prop} {I : qI} {H : qS} {f : Int → Int} {L i : Int} {x5 x6 : Option qV} {c s : Nat} (hd : 100 ≤ d) (hI : LI f L i I H) (hi : 0 ≤ i ∧ i + 6 ≤ L ∧ L ≤ 3072) (hc : (c : Int) ≤ 1000 + 100 * i ∧ (s : Int) ≤ 40000 + 2000 * i) (h : ∀ (K : qI) (G : qS) (y5 y6 : Option qV) (c9 s9 : Nat), LI f L (i + 6) K G → (c9 ≤ c + 90 ∧ s9 ≤ s + 9000) → WP (Call d) 299 P X (1689, [some (vr (some 2) 102), some (vr (some 3) 9), some (vr (some 90) 10), some (vr (some 100) 13), some (vi i), y5, y6], [], (K, G), c9, s9)) :
    WP (Call d) 299 P X (1139, [some (vr (some 2) 102), some (vr (some 3) 9), some (vr (some 90) 10), some (vr (some 100) 13), some (vi i), x5, x6], [], (I, H), c, s) := by
  obtain ⟨hS, hX, ⟨hf2, hl2⟩, ⟨hT, hV, hO, hLL⟩, ⟨hC, hC2⟩, hK, hKP, hTP, hFX, h10⟩ := id hI
  have hl100 := hS.l100
  generalize hM : I 91 = μ at *
  refine WP.go 28 (Exists.intro (i + 1) (And.intro (wrp_a (by omega) (by omega)) (And.intro (And.intro rfl (And.intro (show 0 ≤ i + 1 from by omega) (show i + 1 < H.2.1 2 from by rw [hl2]; omega))) (Exists.intro (i + 2) (And.intro (wrp_a (by omega) (by omega)) (And.intro (And.intro rfl (And.intro (show 0 ≤ i + 2 from by omega) (show i + 2 < H.2.1 2 from by rw [hl2]; omega))) (Exists.intro (i + 3) (And.intro (wrp_a (by omega) (by omega)) (And.intro (And.intro rfl (And.intro (show 0 ≤ i + 3 from by omega) (show i + 3 < H.2.1 2 from by rw [hl2]; omega))) (Exists.intro (i + 4) (And.intro (wrp_a (by omega) (by omega)) (And.intro (And.intro rfl (And.intro (show 0 ≤ i + 4 from by omega) (show i + 4 < H.2.1 2 from by rw [hl2]; omega))) (Exists.intro (i + 5) (And.intro (wrp_a (by omega) (by omega)) (And.intro (And.intro rfl (And.intro (show 0 ≤ i + 5 from by omega) (show i + 5 < H.2.1 2 from by rw [hl2]; omega))) (And.intro (And.intro (show c + 6 ≤ 601024 from by omega) (show s + 36 ≤ 7293034 from by omega)) (And.intro rfl (?_))))))))))))))))))
  show Call d 290 [vr (some 3) 9, vi (I 2 (i + 1)), vi (I 2 (i + 2)), vi (I 2 (i + 3)), vi (I 2 (i + 4)), vi (I 2 (i + 5)), vr (some 100) 13] (I, H) _ _
  refine hl_lost (by omega) hS hX hT hV (fun v1 J v2 => ?_) (fun v1 => ?_) (fun v1 => ?_)
  ·
    show WP (Call d) 299 P X (1167, [some (vr (some 2) 102), some (vr (some 3) 9), some (vr (some 90) 10), some (vr (some 100) 13), some (vi i), x5, x6], [vi 0], (upI J 100 0 (LST μ ((I 2 (i + 1))) ((I 2 (i + 2))) ((I 2 (i + 3))) ((I 2 (i + 4))) ((I 2 (i + 5)))), H), c + 6, s + 36)
    obtain ⟨K0, hK0⟩ : ∃ K0, K0 = upI J 100 0 (LST μ ((I 2 (i + 1))) ((I 2 (i + 2))) ((I 2 (i + 3))) ((I 2 (i + 4))) ((I 2 (i + 5)))) := ⟨_, rfl⟩
    rw [← hK0]
    have ke : ∀ a, a ≠ 100 → K0 a = J a := fun a q => by rw [hK0]; exact upI_cell q
    have k1 : K0 100 0 = LST μ ((I 2 (i + 1))) ((I 2 (i + 2))) ((I 2 (i + 3))) ((I 2 (i + 4))) ((I 2 (i + 5))) := by rw [hK0]; exact upI_same _ _ _ _
    have kf : ∀ a, a < 6 ∨ (90 ≤ a ∧ a ≠ 100) → K0 a = I a := fun a q => (ke a (by omega)).trans (v2 a (by omega))
    have k2 : K0 2 = I 2 := kf 2 (by omega)
    have hMk : K0 91 = μ := (kf 91 (by omega)).trans hM
    have hKk : MS K0 := by unfold MS at *; rw [kf 90 (by omega)]; exact hK
    refine WP.go 1 ?_
    show WP (Call d) 299 P X (1168, [some (vr (some 2) 102), some (vr (some 3) 9), some (vr (some 90) 10), some (vr (some 100) 13), some (vi i), some (vi 0), x6], [], (K0, H), c + 6, s + 36)
    refine WP.go 26 (Exists.intro (i + 1) (And.intro (wrp_a (by omega) (by omega)) (And.intro (And.intro rfl (And.intro (show 0 ≤ i + 1 from by omega) (show i + 1 < H.2.1 2 from by rw [hl2]; omega))) (Exists.intro (i + 2) (And.intro (wrp_a (by omega) (by omega)) (And.intro (And.intro rfl (And.intro (show 0 ≤ i + 2 from by omega) (show i + 2 < H.2.1 2 from by rw [hl2]; omega))) (Exists.intro (i + 3) (And.intro (wrp_a (by omega) (by omega)) (And.intro (And.intro rfl (And.intro (show 0 ≤ i + 3 from by omega) (show i + 3 < H.2.1 2 from by rw [hl2]; omega))) (Exists.intro (i + 4) (And.intro (wrp_a (by omega) (by omega)) (And.intro (And.intro rfl (And.intro (show 0 ≤ i + 4 from by omega) (show i + 4 < H.2.1 2 from by rw [hl2]; omega))) (Exists.intro (i + 5) (And.intro (wrp_a (by omega) (by omega)) (And.intro (And.intro rfl (And.intro (show 0 ≤ i + 5 from by omega) (show i + 5 < H.2.1 2 from by rw [hl2]; omega))) (?_))))))))))))))))
    show WP (Call d) 299 P X (1194, [some (vr (some 2) 102), some (vr (some 3) 9), some (vr (some 90) 10), some (vr (some 100) 13), some (vi i), some (vi 0), x6], [vi (K0 2 (i + 5)), vi (K0 2 (i + 4)), vi (K0 2 (i + 3)), vi (K0 2 (i + 2)), vi (K0 2 (i + 1)), vr (some 90) 10], (K0, H), c + 6, s + 36)
    rw [k2]
    refine WP.go 1 (And.intro (And.intro (show c + 6 + 0 ≤ 601024 from by omega) (show s + 36 + 0 ≤ 7293034 from by omega)) (And.intro rfl (?_)))
    show Call d 250 [vr (some 90) 10, vi (I 2 (i + 1)), vi (I 2 (i + 2)), vi (I 2 (i + 3)), vi (I 2 (i + 4)), vi (I 2 (i + 5))] (K0, H) _ _
    refine s_12_lost (by omega) hS hMk hV hKk (fun q => False.elim (by omega)) (fun q => False.elim (by omega)) (fun r0 K r2 r3 => ?_)
    show WP (Call d) 299 P X (1195, [some (vr (some 2) 102), some (vr (some 3) 9), some (vr (some 90) 10), some (vr (some 100) 13), some (vi i), some (vi 0), x6], [vi (LST μ ((I 2 (i + 1))) ((I 2 (i + 2))) ((I 2 (i + 3))) ((I 2 (i + 4))) ((I 2 (i + 5))))], (K, H), c + 6 + 0, s + 36 + 0)
    have kk : K 100 = K0 100 := r2.1 100 (by omega)
    have k100 : K 100 0 = LST μ ((I 2 (i + 1))) ((I 2 (i + 2))) ((I 2 (i + 3))) ((I 2 (i + 4))) ((I 2 (i + 5))) := by rw [kk, k1]
    rw [hK0] at r2
    refine WP.go 3 (And.intro (And.intro (show c + 6 + 0 + 0 ≤ 601024 from by omega) (show s + 36 + 0 + 0 ≤ 7293034 from by omega)) (And.intro rfl ?_))
    show Call d 176 [vr (some 90) 10] (K, H) _ _
    refine s_12_thrown (by omega) hS ?_
    show WP (Call d) 299 P X (1198, [some (vr (some 2) 102), some (vr (some 3) 9), some (vr (some 90) 10), some (vr (some 100) 13), some (vi i), some (vi 0), some (vi (LST μ ((I 2 (i + 1))) ((I 2 (i + 2))) ((I 2 (i + 3))) ((I 2 (i + 4))) ((I 2 (i + 5)))))], [vi (K 90 0)], (K, H), c + 6 + 0 + 0, s + 36 + 0 + 0)
    refine WP.go 2 (And.intro (fun _ => ?_) (fun q => absurd r3 q))
    refine WP.go 2 (And.intro (fun q => absurd rfl q) (fun _ => ?_))
    refine WP.go 7 (And.intro (And.intro rfl (And.intro (by decide) (show (0 : Int) < H.2.1 100 from by rw [hl100]; decide))) (And.intro (fun _ => ?_) (fun q => absurd (zcmp_e k100) q)))
    refine WP.go 1 ?_
    show WP (Call d) 299 P X (1689, [some (vr (some 2) 102), some (vr (some 3) 9), some (vr (some 90) 10), some (vr (some 100) 13), some (vi i), some (vi 0), some (vi (LST μ ((I 2 (i + 1))) ((I 2 (i + 2))) ((I 2 (i + 3))) ((I 2 (i + 4))) ((I 2 (i + 5)))))], [], (K, H), c + 6 + 0 + 0, s + 36 + 0 + 0)
    exact h _ _ _ _ _ _ (hI.q v2 r2) ⟨by omega, by omega⟩
  ·
    show WP (Call d) 299 P X (1167, [some (vr (some 2) 102), some (vr (some 3) 9), some (vr (some 90) 10), some (vr (some 100) 13), some (vi i), x5, x6], [vi 1], (I, H), c + 6, s + 36)
    obtain ⟨K0, hK0⟩ : ∃ K0, K0 = I := ⟨_, rfl⟩
    rw [← hK0]
    have kf : ∀ a, a < 6 ∨ (90 ≤ a ∧ a ≠ 100) → K0 a = I a := fun a q => by rw [hK0]
    have k2 : K0 2 = I 2 := kf 2 (by omega)
    have hMk : K0 91 = μ := (kf 91 (by omega)).trans hM
    have hKk : MS K0 := by unfold MS at *; rw [kf 90 (by omega)]; exact hK
    refine WP.go 1 ?_
    show WP (Call d) 299 P X (1168, [some (vr (some 2) 102), some (vr (some 3) 9), some (vr (some 90) 10), some (vr (some 100) 13), some (vi i), some (vi 1), x6], [], (K0, H), c + 6, s + 36)
    refine WP.go 26 (Exists.intro (i + 1) (And.intro (wrp_a (by omega) (by omega)) (And.intro (And.intro rfl (And.intro (show 0 ≤ i + 1 from by omega) (show i + 1 < H.2.1 2 from by rw [hl2]; omega))) (Exists.intro (i + 2) (And.intro (wrp_a (by omega) (by omega)) (And.intro (And.intro rfl (And.intro (show 0 ≤ i + 2 from by omega) (show i + 2 < H.2.1 2 from by rw [hl2]; omega))) (Exists.intro (i + 3) (And.intro (wrp_a (by omega) (by omega)) (And.intro (And.intro rfl (And.intro (show 0 ≤ i + 3 from by omega) (show i + 3 < H.2.1 2 from by rw [hl2]; omega))) (Exists.intro (i + 4) (And.intro (wrp_a (by omega) (by omega)) (And.intro (And.intro rfl (And.intro (show 0 ≤ i + 4 from by omega) (show i + 4 < H.2.1 2 from by rw [hl2]; omega))) (Exists.intro (i + 5) (And.intro (wrp_a (by omega) (by omega)) (And.intro (And.intro rfl (And.intro (show 0 ≤ i + 5 from by omega) (show i + 5 < H.2.1 2 from by rw [hl2]; omega))) (?_))))))))))))))))
    show WP (Call d) 299 P X (1194, [some (vr (some 2) 102), some (vr (some 3) 9), some (vr (some 90) 10), some (vr (some 100) 13), some (vi i), some (vi 1), x6], [vi (K0 2 (i + 5)), vi (K0 2 (i + 4)), vi (K0 2 (i + 3)), vi (K0 2 (i + 2)), vi (K0 2 (i + 1)), vr (some 90) 10], (K0, H), c + 6, s + 36)
    rw [k2]
    refine WP.go 1 (And.intro (And.intro (show c + 6 + 0 ≤ 601024 from by omega) (show s + 36 + 0 ≤ 7293034 from by omega)) (And.intro rfl (?_)))
    show Call d 250 [vr (some 90) 10, vi (I 2 (i + 1)), vi (I 2 (i + 2)), vi (I 2 (i + 3)), vi (I 2 (i + 4)), vi (I 2 (i + 5))] (K0, H) _ _
    refine s_12_lost (by omega) hS hMk hV hKk (fun r0 K v r3 r4 r5 => ?_) (fun q => False.elim (by omega)) (fun q => False.elim (by omega))
    show WP (Call d) 299 P X (1195, [some (vr (some 2) 102), some (vr (some 3) 9), some (vr (some 90) 10), some (vr (some 100) 13), some (vi i), some (vi 1), x6], [vi (v)], (K, H), c + 6 + 0, s + 36 + 0)
    rw [hK0] at r4
    refine WP.go 3 (And.intro (And.intro (show c + 6 + 0 + 0 ≤ 601024 from by omega) (show s + 36 + 0 + 0 ≤ 7293034 from by omega)) (And.intro rfl ?_))
    show Call d 176 [vr (some 90) 10] (K, H) _ _
    refine s_12_thrown (by omega) hS ?_
    show WP (Call d) 299 P X (1198, [some (vr (some 2) 102), some (vr (some 3) 9), some (vr (some 90) 10), some (vr (some 100) 13), some (vi i), some (vi 1), some (vi (v))], [vi (K 90 0)], (K, H), c + 6 + 0 + 0, s + 36 + 0 + 0)
    refine WP.go 2 (And.intro (fun _ => ?_) (fun q => absurd r5 q))
    refine WP.go 2 (And.intro (fun _ => ?_) (fun q => absurd q (by decide)))
    refine WP.go 1 ?_
    show WP (Call d) 299 P X (1689, [some (vr (some 2) 102), some (vr (some 3) 9), some (vr (some 90) 10), some (vr (some 100) 13), some (vi i), some (vi 1), some (vi (v))], [], (K, H), c + 6 + 0 + 0, s + 36 + 0 + 0)
    exact h _ _ _ _ _ _ (hI.m (CF.rf I) r4) ⟨by omega, by omega⟩
  ·
    show WP (Call d) 299 P X (1167, [some (vr (some 2) 102), some (vr (some 3) 9), some (vr (some 90) 10), some (vr (some 100) 13), some (vi i), x5, x6], [vi 2], (I, H), c + 6, s + 36)
    obtain ⟨K0, hK0⟩ : ∃ K0, K0 = I := ⟨_, rfl⟩
    rw [← hK0]
    have kf : ∀ a, a < 6 ∨ (90 ≤ a ∧ a ≠ 100) → K0 a = I a := fun a q => by rw [hK0]
    have k2 : K0 2 = I 2 := kf 2 (by omega)
    have hMk : K0 91 = μ := (kf 91 (by omega)).trans hM
    have hKk : MS K0 := by unfold MS at *; rw [kf 90 (by omega)]; exact hK
    refine WP.go 1 ?_
    show WP (Call d) 299 P X (1168, [some (vr (some 2) 102), some (vr (some 3) 9), some (vr (some 90) 10), some (vr (some 100) 13), some (vi i), some (vi 2), x6], [], (K0, H), c + 6, s + 36)
    refine WP.go 26 (Exists.intro (i + 1) (And.intro (wrp_a (by omega) (by omega)) (And.intro (And.intro rfl (And.intro (show 0 ≤ i + 1 from by omega) (show i + 1 < H.2.1 2 from by rw [hl2]; omega))) (Exists.intro (i + 2) (And.intro (wrp_a (by omega) (by omega)) (And.intro (And.intro rfl (And.intro (show 0 ≤ i + 2 from by omega) (show i + 2 < H.2.1 2 from by rw [hl2]; omega))) (Exists.intro (i + 3) (And.intro (wrp_a (by omega) (by omega)) (And.intro (And.intro rfl (And.intro (show 0 ≤ i + 3 from by omega) (show i + 3 < H.2.1 2 from by rw [hl2]; omega))) (Exists.intro (i + 4) (And.intro (wrp_a (by omega) (by omega)) (And.intro (And.intro rfl (And.intro (show 0 ≤ i + 4 from by omega) (show i + 4 < H.2.1 2 from by rw [hl2]; omega))) (Exists.intro (i + 5) (And.intro (wrp_a (by omega) (by omega)) (And.intro (And.intro rfl (And.intro (show 0 ≤ i + 5 from by omega) (show i + 5 < H.2.1 2 from by rw [hl2]; omega))) (?_))))))))))))))))
    show WP (Call d) 299 P X (1194, [some (vr (some 2) 102), some (vr (some 3) 9), some (vr (some 90) 10), some (vr (some 100) 13), some (vi i), some (vi 2), x6], [vi (K0 2 (i + 5)), vi (K0 2 (i + 4)), vi (K0 2 (i + 3)), vi (K0 2 (i + 2)), vi (K0 2 (i + 1)), vr (some 90) 10], (K0, H), c + 6, s + 36)
    rw [k2]
    refine WP.go 1 (And.intro (And.intro (show c + 6 + 0 ≤ 601024 from by omega) (show s + 36 + 0 ≤ 7293034 from by omega)) (And.intro rfl (?_)))
    show Call d 250 [vr (some 90) 10, vi (I 2 (i + 1)), vi (I 2 (i + 2)), vi (I 2 (i + 3)), vi (I 2 (i + 4)), vi (I 2 (i + 5))] (K0, H) _ _
    refine s_12_lost (by omega) hS hMk hV hKk (fun q => False.elim (by omega)) (fun r0 K v r3 r4 r5 => ?_) (fun q => False.elim (by omega))
    show WP (Call d) 299 P X (1195, [some (vr (some 2) 102), some (vr (some 3) 9), some (vr (some 90) 10), some (vr (some 100) 13), some (vi i), some (vi 2), x6], [vi (v)], (K, H), c + 6 + 0, s + 36 + 0)
    rw [hK0] at r4
    refine WP.go 3 (And.intro (And.intro (show c + 6 + 0 + 0 ≤ 601024 from by omega) (show s + 36 + 0 + 0 ≤ 7293034 from by omega)) (And.intro rfl ?_))
    show Call d 176 [vr (some 90) 10] (K, H) _ _
    refine s_12_thrown (by omega) hS ?_
    show WP (Call d) 299 P X (1198, [some (vr (some 2) 102), some (vr (some 3) 9), some (vr (some 90) 10), some (vr (some 100) 13), some (vi i), some (vi 2), some (vi (v))], [vi (K 90 0)], (K, H), c + 6 + 0 + 0, s + 36 + 0 + 0)
    refine WP.go 2 (And.intro (fun _ => ?_) (fun q => absurd r5 q))
    refine WP.go 2 (And.intro (fun _ => ?_) (fun q => absurd q (by decide)))
    refine WP.go 1 ?_
    show WP (Call d) 299 P X (1689, [some (vr (some 2) 102), some (vr (some 3) 9), some (vr (some 90) 10), some (vr (some 100) 13), some (vi i), some (vi 2), some (vi (v))], [], (K, H), c + 6 + 0 + 0, s + 36 + 0 + 0)
    exact h _ _ _ _ _ _ (hI.m (CF.rf I) r4) ⟨by omega, by omega⟩

set_option maxRecDepth 20000 in
theorem law_29 {d : Nat} {P : Option qV → qH → Prop} {X : Nat → qH → Prop} {I : qI} {H : qS} {f : Int → Int} {L i : Int} {x5 x6 : Option qV} {c s : Nat} (hd : 100 ≤ d) (hI : LI f L i I H) (hi : 0 ≤ i ∧ i + 6 ≤ L ∧ L ≤ 3072) (hc : (c : Int) ≤ 1000 + 100 * i ∧ (s : Int) ≤ 40000 + 2000 * i) (h : ∀ (K : qI) (G : qS) (y5 y6 : Option qV) (c9 s9 : Nat), LI f L (i + 6) K G → (c9 ≤ c + 90 ∧ s9 ≤ s + 9000) → WP (Call d) 299 P X (1689, [some (vr (some 2) 102), some (vr (some 3) 9), some (vr (some 90) 10), some (vr (some 100) 13), some (vi i), y5, y6], [], (K, G), c9, s9)) :
    WP (Call d) 299 P X (1214, [some (vr (some 2) 102), some (vr (some 3) 9), some (vr (some 90) 10), some (vr (some 100) 13), some (vi i), x5, x6], [], (I, H), c, s) := by
  obtain ⟨hS, hX, ⟨hf2, hl2⟩, ⟨hT, hV, hO, hLL⟩, ⟨hC, hC2⟩, hK, hKP, hTP, hFX, h10⟩ := id hI
  have hl100 := hS.l100
  generalize hM : I 91 = μ at *
  refine WP.go 23 (Exists.intro (i + 1) (And.intro (wrp_a (by omega) (by omega)) (And.intro (And.intro rfl (And.intro (show 0 ≤ i + 1 from by omega) (show i + 1 < H.2.1 2 from by rw [hl2]; omega))) (Exists.intro (i + 2) (And.intro (wrp_a (by omega) (by omega)) (And.intro (And.intro rfl (And.intro (show 0 ≤ i + 2 from by omega) (show i + 2 < H.2.1 2 from by rw [hl2]; omega))) (Exists.intro (i + 3) (And.intro (wrp_a (by omega) (by omega)) (And.intro (And.intro rfl (And.intro (show 0 ≤ i + 3 from by omega) (show i + 3 < H.2.1 2 from by rw [hl2]; omega))) (Exists.intro (i + 4) (And.intro (wrp_a (by omega) (by omega)) (And.intro (And.intro rfl (And.intro (show 0 ≤ i + 4 from by omega) (show i + 4 < H.2.1 2 from by rw [hl2]; omega))) (And.intro (And.intro (show c + 5 ≤ 601024 from by omega) (show s + 30 ≤ 7293034 from by omega)) (And.intro rfl (?_)))))))))))))))
  show Call d 291 [vr (some 3) 9, vi (I 2 (i + 1)), vi (I 2 (i + 2)), vi (I 2 (i + 3)), vi (I 2 (i + 4)), vr (some 100) 13] (I, H) _ _
  refine hl_takes (by omega) hS hX hT hV (fun v1 J v2 => ?_) (fun v1 => ?_) (fun v1 => ?_)
  ·
    show WP (Call d) 299 P X (1237, [some (vr (some 2) 102), some (vr (some 3) 9), some (vr (some 90) 10), some (vr (some 100) 13), some (vi i), x5, x6], [vi 0], (upI J 100 0 (hB (fun w => 0 < LST μ ((I 2 (i + 1))) ((I 2 (i + 2))) w ((I 2 (i + 3))) ((I 2 (i + 4)))) (μ 2)), H), c + 5, s + 30)
    obtain ⟨K0, hK0⟩ : ∃ K0, K0 = upI J 100 0 (hB (fun w => 0 < LST μ ((I 2 (i + 1))) ((I 2 (i + 2))) w ((I 2 (i + 3))) ((I 2 (i + 4)))) (μ 2)) := ⟨_, rfl⟩
    rw [← hK0]
    have ke : ∀ a, a ≠ 100 → K0 a = J a := fun a q => by rw [hK0]; exact upI_cell q
    have k1 : K0 100 0 = hB (fun w => 0 < LST μ ((I 2 (i + 1))) ((I 2 (i + 2))) w ((I 2 (i + 3))) ((I 2 (i + 4)))) (μ 2) := by rw [hK0]; exact upI_same _ _ _ _
    have kf : ∀ a, a < 6 ∨ (90 ≤ a ∧ a ≠ 100) → K0 a = I a := fun a q => (ke a (by omega)).trans (v2 a (by omega))
    have k2 : K0 2 = I 2 := kf 2 (by omega)
    have hMk : K0 91 = μ := (kf 91 (by omega)).trans hM
    have hKk : MS K0 := by unfold MS at *; rw [kf 90 (by omega)]; exact hK
    refine WP.go 1 ?_
    show WP (Call d) 299 P X (1238, [some (vr (some 2) 102), some (vr (some 3) 9), some (vr (some 90) 10), some (vr (some 100) 13), some (vi i), some (vi 0), x6], [], (K0, H), c + 5, s + 30)
    refine WP.go 21 (Exists.intro (i + 1) (And.intro (wrp_a (by omega) (by omega)) (And.intro (And.intro rfl (And.intro (show 0 ≤ i + 1 from by omega) (show i + 1 < H.2.1 2 from by rw [hl2]; omega))) (Exists.intro (i + 2) (And.intro (wrp_a (by omega) (by omega)) (And.intro (And.intro rfl (And.intro (show 0 ≤ i + 2 from by omega) (show i + 2 < H.2.1 2 from by rw [hl2]; omega))) (Exists.intro (i + 3) (And.intro (wrp_a (by omega) (by omega)) (And.intro (And.intro rfl (And.intro (show 0 ≤ i + 3 from by omega) (show i + 3 < H.2.1 2 from by rw [hl2]; omega))) (Exists.intro (i + 4) (And.intro (wrp_a (by omega) (by omega)) (And.intro (And.intro rfl (And.intro (show 0 ≤ i + 4 from by omega) (show i + 4 < H.2.1 2 from by rw [hl2]; omega))) (?_)))))))))))))
    show WP (Call d) 299 P X (1259, [some (vr (some 2) 102), some (vr (some 3) 9), some (vr (some 90) 10), some (vr (some 100) 13), some (vi i), some (vi 0), x6], [vi (K0 2 (i + 4)), vi (K0 2 (i + 3)), vi (K0 2 (i + 2)), vi (K0 2 (i + 1)), vr (some 90) 10], (K0, H), c + 5, s + 30)
    rw [k2]
    refine WP.go 1 (And.intro (And.intro (show c + 5 + 0 ≤ 601024 from by omega) (show s + 30 + 0 ≤ 7293034 from by omega)) (And.intro rfl (?_)))
    show Call d 251 [vr (some 90) 10, vi (I 2 (i + 1)), vi (I 2 (i + 2)), vi (I 2 (i + 3)), vi (I 2 (i + 4))] (K0, H) _ _
    refine s_12_takes (by omega) hS hMk hV hKk (fun q => False.elim (by omega)) (fun q => False.elim (by omega)) (fun r0 K r2 r3 => ?_)
    show WP (Call d) 299 P X (1260, [some (vr (some 2) 102), some (vr (some 3) 9), some (vr (some 90) 10), some (vr (some 100) 13), some (vi i), some (vi 0), x6], [vi (hB (fun w => 0 < LST μ ((I 2 (i + 1))) ((I 2 (i + 2))) w ((I 2 (i + 3))) ((I 2 (i + 4)))) (μ 2))], (K, H), c + 5 + 0, s + 30 + 0)
    have kk : K 100 = K0 100 := r2.1 100 (by omega)
    have k100 : K 100 0 = hB (fun w => 0 < LST μ ((I 2 (i + 1))) ((I 2 (i + 2))) w ((I 2 (i + 3))) ((I 2 (i + 4)))) (μ 2) := by rw [kk, k1]
    rw [hK0] at r2
    refine WP.go 3 (And.intro (And.intro (show c + 5 + 0 + 0 ≤ 601024 from by omega) (show s + 30 + 0 + 0 ≤ 7293034 from by omega)) (And.intro rfl ?_))
    show Call d 176 [vr (some 90) 10] (K, H) _ _
    refine s_12_thrown (by omega) hS ?_
    show WP (Call d) 299 P X (1263, [some (vr (some 2) 102), some (vr (some 3) 9), some (vr (some 90) 10), some (vr (some 100) 13), some (vi i), some (vi 0), some (vi (hB (fun w => 0 < LST μ ((I 2 (i + 1))) ((I 2 (i + 2))) w ((I 2 (i + 3))) ((I 2 (i + 4)))) (μ 2)))], [vi (K 90 0)], (K, H), c + 5 + 0 + 0, s + 30 + 0 + 0)
    refine WP.go 2 (And.intro (fun _ => ?_) (fun q => absurd r3 q))
    refine WP.go 2 (And.intro (fun q => absurd rfl q) (fun _ => ?_))
    refine WP.go 7 (And.intro (And.intro rfl (And.intro (by decide) (show (0 : Int) < H.2.1 100 from by rw [hl100]; decide))) (And.intro (fun _ => ?_) (fun q => absurd (zcmp_e k100) q)))
    refine WP.go 1 ?_
    show WP (Call d) 299 P X (1689, [some (vr (some 2) 102), some (vr (some 3) 9), some (vr (some 90) 10), some (vr (some 100) 13), some (vi i), some (vi 0), some (vi (hB (fun w => 0 < LST μ ((I 2 (i + 1))) ((I 2 (i + 2))) w ((I 2 (i + 3))) ((I 2 (i + 4)))) (μ 2)))], [], (K, H), c + 5 + 0 + 0, s + 30 + 0 + 0)
    exact h _ _ _ _ _ _ (hI.q v2 r2) ⟨by omega, by omega⟩
  ·
    show WP (Call d) 299 P X (1237, [some (vr (some 2) 102), some (vr (some 3) 9), some (vr (some 90) 10), some (vr (some 100) 13), some (vi i), x5, x6], [vi 1], (I, H), c + 5, s + 30)
    obtain ⟨K0, hK0⟩ : ∃ K0, K0 = I := ⟨_, rfl⟩
    rw [← hK0]
    have kf : ∀ a, a < 6 ∨ (90 ≤ a ∧ a ≠ 100) → K0 a = I a := fun a q => by rw [hK0]
    have k2 : K0 2 = I 2 := kf 2 (by omega)
    have hMk : K0 91 = μ := (kf 91 (by omega)).trans hM
    have hKk : MS K0 := by unfold MS at *; rw [kf 90 (by omega)]; exact hK
    refine WP.go 1 ?_
    show WP (Call d) 299 P X (1238, [some (vr (some 2) 102), some (vr (some 3) 9), some (vr (some 90) 10), some (vr (some 100) 13), some (vi i), some (vi 1), x6], [], (K0, H), c + 5, s + 30)
    refine WP.go 21 (Exists.intro (i + 1) (And.intro (wrp_a (by omega) (by omega)) (And.intro (And.intro rfl (And.intro (show 0 ≤ i + 1 from by omega) (show i + 1 < H.2.1 2 from by rw [hl2]; omega))) (Exists.intro (i + 2) (And.intro (wrp_a (by omega) (by omega)) (And.intro (And.intro rfl (And.intro (show 0 ≤ i + 2 from by omega) (show i + 2 < H.2.1 2 from by rw [hl2]; omega))) (Exists.intro (i + 3) (And.intro (wrp_a (by omega) (by omega)) (And.intro (And.intro rfl (And.intro (show 0 ≤ i + 3 from by omega) (show i + 3 < H.2.1 2 from by rw [hl2]; omega))) (Exists.intro (i + 4) (And.intro (wrp_a (by omega) (by omega)) (And.intro (And.intro rfl (And.intro (show 0 ≤ i + 4 from by omega) (show i + 4 < H.2.1 2 from by rw [hl2]; omega))) (?_)))))))))))))
    show WP (Call d) 299 P X (1259, [some (vr (some 2) 102), some (vr (some 3) 9), some (vr (some 90) 10), some (vr (some 100) 13), some (vi i), some (vi 1), x6], [vi (K0 2 (i + 4)), vi (K0 2 (i + 3)), vi (K0 2 (i + 2)), vi (K0 2 (i + 1)), vr (some 90) 10], (K0, H), c + 5, s + 30)
    rw [k2]
    refine WP.go 1 (And.intro (And.intro (show c + 5 + 0 ≤ 601024 from by omega) (show s + 30 + 0 ≤ 7293034 from by omega)) (And.intro rfl (?_)))
    show Call d 251 [vr (some 90) 10, vi (I 2 (i + 1)), vi (I 2 (i + 2)), vi (I 2 (i + 3)), vi (I 2 (i + 4))] (K0, H) _ _
    refine s_12_takes (by omega) hS hMk hV hKk (fun r0 K v r3 r4 r5 => ?_) (fun q => False.elim (by omega)) (fun q => False.elim (by omega))
    show WP (Call d) 299 P X (1260, [some (vr (some 2) 102), some (vr (some 3) 9), some (vr (some 90) 10), some (vr (some 100) 13), some (vi i), some (vi 1), x6], [vi (v)], (K, H), c + 5 + 0, s + 30 + 0)
    rw [hK0] at r4
    refine WP.go 3 (And.intro (And.intro (show c + 5 + 0 + 0 ≤ 601024 from by omega) (show s + 30 + 0 + 0 ≤ 7293034 from by omega)) (And.intro rfl ?_))
    show Call d 176 [vr (some 90) 10] (K, H) _ _
    refine s_12_thrown (by omega) hS ?_
    show WP (Call d) 299 P X (1263, [some (vr (some 2) 102), some (vr (some 3) 9), some (vr (some 90) 10), some (vr (some 100) 13), some (vi i), some (vi 1), some (vi (v))], [vi (K 90 0)], (K, H), c + 5 + 0 + 0, s + 30 + 0 + 0)
    refine WP.go 2 (And.intro (fun _ => ?_) (fun q => absurd r5 q))
    refine WP.go 2 (And.intro (fun _ => ?_) (fun q => absurd q (by decide)))
    refine WP.go 1 ?_
    show WP (Call d) 299 P X (1689, [some (vr (some 2) 102), some (vr (some 3) 9), some (vr (some 90) 10), some (vr (some 100) 13), some (vi i), some (vi 1), some (vi (v))], [], (K, H), c + 5 + 0 + 0, s + 30 + 0 + 0)
    exact h _ _ _ _ _ _ (hI.m (CF.rf I) r4) ⟨by omega, by omega⟩
  ·
    show WP (Call d) 299 P X (1237, [some (vr (some 2) 102), some (vr (some 3) 9), some (vr (some 90) 10), some (vr (some 100) 13), some (vi i), x5, x6], [vi 2], (I, H), c + 5, s + 30)
    obtain ⟨K0, hK0⟩ : ∃ K0, K0 = I := ⟨_, rfl⟩
    rw [← hK0]
    have kf : ∀ a, a < 6 ∨ (90 ≤ a ∧ a ≠ 100) → K0 a = I a := fun a q => by rw [hK0]
    have k2 : K0 2 = I 2 := kf 2 (by omega)
    have hMk : K0 91 = μ := (kf 91 (by omega)).trans hM
    have hKk : MS K0 := by unfold MS at *; rw [kf 90 (by omega)]; exact hK
    refine WP.go 1 ?_
    show WP (Call d) 299 P X (1238, [some (vr (some 2) 102), some (vr (some 3) 9), some (vr (some 90) 10), some (vr (some 100) 13), some (vi i), some (vi 2), x6], [], (K0, H), c + 5, s + 30)
    refine WP.go 21 (Exists.intro (i + 1) (And.intro (wrp_a (by omega) (by omega)) (And.intro (And.intro rfl (And.intro (show 0 ≤ i + 1 from by omega) (show i + 1 < H.2.1 2 from by rw [hl2]; omega))) (Exists.intro (i + 2) (And.intro (wrp_a (by omega) (by omega)) (And.intro (And.intro rfl (And.intro (show 0 ≤ i + 2 from by omega) (show i + 2 < H.2.1 2 from by rw [hl2]; omega))) (Exists.intro (i + 3) (And.intro (wrp_a (by omega) (by omega)) (And.intro (And.intro rfl (And.intro (show 0 ≤ i + 3 from by omega) (show i + 3 < H.2.1 2 from by rw [hl2]; omega))) (Exists.intro (i + 4) (And.intro (wrp_a (by omega) (by omega)) (And.intro (And.intro rfl (And.intro (show 0 ≤ i + 4 from by omega) (show i + 4 < H.2.1 2 from by rw [hl2]; omega))) (?_)))))))))))))
    show WP (Call d) 299 P X (1259, [some (vr (some 2) 102), some (vr (some 3) 9), some (vr (some 90) 10), some (vr (some 100) 13), some (vi i), some (vi 2), x6], [vi (K0 2 (i + 4)), vi (K0 2 (i + 3)), vi (K0 2 (i + 2)), vi (K0 2 (i + 1)), vr (some 90) 10], (K0, H), c + 5, s + 30)
    rw [k2]
    refine WP.go 1 (And.intro (And.intro (show c + 5 + 0 ≤ 601024 from by omega) (show s + 30 + 0 ≤ 7293034 from by omega)) (And.intro rfl (?_)))
    show Call d 251 [vr (some 90) 10, vi (I 2 (i + 1)), vi (I 2 (i + 2)), vi (I 2 (i + 3)), vi (I 2 (i + 4))] (K0, H) _ _
    refine s_12_takes (by omega) hS hMk hV hKk (fun q => False.elim (by omega)) (fun r0 K v r3 r4 r5 => ?_) (fun q => False.elim (by omega))
    show WP (Call d) 299 P X (1260, [some (vr (some 2) 102), some (vr (some 3) 9), some (vr (some 90) 10), some (vr (some 100) 13), some (vi i), some (vi 2), x6], [vi (v)], (K, H), c + 5 + 0, s + 30 + 0)
    rw [hK0] at r4
    refine WP.go 3 (And.intro (And.intro (show c + 5 + 0 + 0 ≤ 601024 from by omega) (show s + 30 + 0 + 0 ≤ 7293034 from by omega)) (And.intro rfl ?_))
    show Call d 176 [vr (some 90) 10] (K, H) _ _
    refine s_12_thrown (by omega) hS ?_
    show WP (Call d) 299 P X (1263, [some (vr (some 2) 102), some (vr (some 3) 9), some (vr (some 90) 10), some (vr (some 100) 13), some (vi i), some (vi 2), some (vi (v))], [vi (K 90 0)], (K, H), c + 5 + 0 + 0, s + 30 + 0 + 0)
    refine WP.go 2 (And.intro (fun _ => ?_) (fun q => absurd r5 q))
    refine WP.go 2 (And.intro (fun _ => ?_) (fun q => absurd q (by decide)))
    refine WP.go 1 ?_
    show WP (Call d) 299 P X (1689, [some (vr (some 2) 102), some (vr (some 3) 9), some (vr (some 90) 10), some (vr (some 100) 13), some (vi i), some (vi 2), some (vi (v))], [], (K, H), c + 5 + 0 + 0, s + 30 + 0 + 0)
    exact h _ _ _ _ _ _ (hI.m (CF.rf I) r4) ⟨by omega, by omega⟩

set_option maxRecDepth 20000 in
theorem law_30 {d : Nat} {P : Option qV → qH → Prop} {X : Nat → qH → Prop} {I : qI} {H : qS} {f : Int → Int} {L i : Int} {x5 x6 : Option qV} {c s : Nat} (hd : 100 ≤ d) (hI : LI f L i I H) (hi : 0 ≤ i ∧ i + 6 ≤ L ∧ L ≤ 3072) (hc : (c : Int) ≤ 1000 + 100 * i ∧ (s : Int) ≤ 40000 + 2000 * i) (h : ∀ (K : qI) (G : qS) (y5 y6 : Option qV) (c9 s9 : Nat), LI f L (i + 6) K G → (c9 ≤ c + 90 ∧ s9 ≤ s + 9000) → WP (Call d) 299 P X (1689, [some (vr (some 2) 102), some (vr (some 3) 9), some (vr (some 90) 10), some (vr (some 100) 13), some (vi i), y5, y6], [], (K, G), c9, s9)) :
    WP (Call d) 299 P X (1279, [some (vr (some 2) 102), some (vr (some 3) 9), some (vr (some 90) 10), some (vr (some 100) 13), some (vi i), x5, x6], [], (I, H), c, s) := by
  obtain ⟨hS, hX, ⟨hf2, hl2⟩, ⟨hT, hV, hO, hLL⟩, ⟨hC, hC2⟩, hK, hKP, hTP, hFX, h10⟩ := id hI
  have hl100 := hS.l100
  generalize hM : I 91 = μ at *
  refine WP.go 23 (Exists.intro (i + 1) (And.intro (wrp_a (by omega) (by omega)) (And.intro (And.intro rfl (And.intro (show 0 ≤ i + 1 from by omega) (show i + 1 < H.2.1 2 from by rw [hl2]; omega))) (Exists.intro (i + 2) (And.intro (wrp_a (by omega) (by omega)) (And.intro (And.intro rfl (And.intro (show 0 ≤ i + 2 from by omega) (show i + 2 < H.2.1 2 from by rw [hl2]; omega))) (Exists.intro (i + 3) (And.intro (wrp_a (by omega) (by omega)) (And.intro (And.intro rfl (And.intro (show 0 ≤ i + 3 from by omega) (show i + 3 < H.2.1 2 from by rw [hl2]; omega))) (Exists.intro (i + 4) (And.intro (wrp_a (by omega) (by omega)) (And.intro (And.intro rfl (And.intro (show 0 ≤ i + 4 from by omega) (show i + 4 < H.2.1 2 from by rw [hl2]; omega))) (And.intro (And.intro (show c + 5 ≤ 601024 from by omega) (show s + 30 ≤ 7293034 from by omega)) (And.intro rfl (?_)))))))))))))))
  show Call d 292 [vr (some 3) 9, vi (I 2 (i + 1)), vi (I 2 (i + 2)), vi (I 2 (i + 3)), vi (I 2 (i + 4)), vr (some 100) 13] (I, H) _ _
  refine hl_gable (by omega) hS hX hT hV (fun v1 J v2 => ?_) (fun v1 => ?_) (fun v1 => ?_)
  ·
    show WP (Call d) 299 P X (1302, [some (vr (some 2) 102), some (vr (some 3) 9), some (vr (some 90) 10), some (vr (some 100) 13), some (vi i), x5, x6], [vi 0], (upI J 100 0 (GAB μ ((I 2 (i + 1))) ((I 2 (i + 2))) ((I 2 (i + 3))) ((I 2 (i + 4)))), H), c + 5, s + 30)
    obtain ⟨K0, hK0⟩ : ∃ K0, K0 = upI J 100 0 (GAB μ ((I 2 (i + 1))) ((I 2 (i + 2))) ((I 2 (i + 3))) ((I 2 (i + 4)))) := ⟨_, rfl⟩
    rw [← hK0]
    have ke : ∀ a, a ≠ 100 → K0 a = J a := fun a q => by rw [hK0]; exact upI_cell q
    have k1 : K0 100 0 = GAB μ ((I 2 (i + 1))) ((I 2 (i + 2))) ((I 2 (i + 3))) ((I 2 (i + 4))) := by rw [hK0]; exact upI_same _ _ _ _
    have kf : ∀ a, a < 6 ∨ (90 ≤ a ∧ a ≠ 100) → K0 a = I a := fun a q => (ke a (by omega)).trans (v2 a (by omega))
    have k2 : K0 2 = I 2 := kf 2 (by omega)
    have hMk : K0 91 = μ := (kf 91 (by omega)).trans hM
    have hKk : MS K0 := by unfold MS at *; rw [kf 90 (by omega)]; exact hK
    refine WP.go 1 ?_
    show WP (Call d) 299 P X (1303, [some (vr (some 2) 102), some (vr (some 3) 9), some (vr (some 90) 10), some (vr (some 100) 13), some (vi i), some (vi 0), x6], [], (K0, H), c + 5, s + 30)
    refine WP.go 21 (Exists.intro (i + 1) (And.intro (wrp_a (by omega) (by omega)) (And.intro (And.intro rfl (And.intro (show 0 ≤ i + 1 from by omega) (show i + 1 < H.2.1 2 from by rw [hl2]; omega))) (Exists.intro (i + 2) (And.intro (wrp_a (by omega) (by omega)) (And.intro (And.intro rfl (And.intro (show 0 ≤ i + 2 from by omega) (show i + 2 < H.2.1 2 from by rw [hl2]; omega))) (Exists.intro (i + 3) (And.intro (wrp_a (by omega) (by omega)) (And.intro (And.intro rfl (And.intro (show 0 ≤ i + 3 from by omega) (show i + 3 < H.2.1 2 from by rw [hl2]; omega))) (Exists.intro (i + 4) (And.intro (wrp_a (by omega) (by omega)) (And.intro (And.intro rfl (And.intro (show 0 ≤ i + 4 from by omega) (show i + 4 < H.2.1 2 from by rw [hl2]; omega))) (?_)))))))))))))
    show WP (Call d) 299 P X (1324, [some (vr (some 2) 102), some (vr (some 3) 9), some (vr (some 90) 10), some (vr (some 100) 13), some (vi i), some (vi 0), x6], [vi (K0 2 (i + 4)), vi (K0 2 (i + 3)), vi (K0 2 (i + 2)), vi (K0 2 (i + 1)), vr (some 90) 10], (K0, H), c + 5, s + 30)
    rw [k2]
    refine WP.go 1 (And.intro (And.intro (show c + 5 + 0 ≤ 601024 from by omega) (show s + 30 + 0 ≤ 7293034 from by omega)) (And.intro rfl (?_)))
    show Call d 252 [vr (some 90) 10, vi (I 2 (i + 1)), vi (I 2 (i + 2)), vi (I 2 (i + 3)), vi (I 2 (i + 4))] (K0, H) _ _
    refine s_12_gable (by omega) hS hMk hV hKk (fun q => False.elim (by omega)) (fun q => False.elim (by omega)) (fun r0 K r2 r3 => ?_)
    show WP (Call d) 299 P X (1325, [some (vr (some 2) 102), some (vr (some 3) 9), some (vr (some 90) 10), some (vr (some 100) 13), some (vi i), some (vi 0), x6], [vi (GAB μ ((I 2 (i + 1))) ((I 2 (i + 2))) ((I 2 (i + 3))) ((I 2 (i + 4))))], (K, H), c + 5 + 0, s + 30 + 0)
    have kk : K 100 = K0 100 := r2.1 100 (by omega)
    have k100 : K 100 0 = GAB μ ((I 2 (i + 1))) ((I 2 (i + 2))) ((I 2 (i + 3))) ((I 2 (i + 4))) := by rw [kk, k1]
    rw [hK0] at r2
    refine WP.go 3 (And.intro (And.intro (show c + 5 + 0 + 0 ≤ 601024 from by omega) (show s + 30 + 0 + 0 ≤ 7293034 from by omega)) (And.intro rfl ?_))
    show Call d 176 [vr (some 90) 10] (K, H) _ _
    refine s_12_thrown (by omega) hS ?_
    show WP (Call d) 299 P X (1328, [some (vr (some 2) 102), some (vr (some 3) 9), some (vr (some 90) 10), some (vr (some 100) 13), some (vi i), some (vi 0), some (vi (GAB μ ((I 2 (i + 1))) ((I 2 (i + 2))) ((I 2 (i + 3))) ((I 2 (i + 4)))))], [vi (K 90 0)], (K, H), c + 5 + 0 + 0, s + 30 + 0 + 0)
    refine WP.go 2 (And.intro (fun _ => ?_) (fun q => absurd r3 q))
    refine WP.go 2 (And.intro (fun q => absurd rfl q) (fun _ => ?_))
    refine WP.go 7 (And.intro (And.intro rfl (And.intro (by decide) (show (0 : Int) < H.2.1 100 from by rw [hl100]; decide))) (And.intro (fun _ => ?_) (fun q => absurd (zcmp_e k100) q)))
    refine WP.go 1 ?_
    show WP (Call d) 299 P X (1689, [some (vr (some 2) 102), some (vr (some 3) 9), some (vr (some 90) 10), some (vr (some 100) 13), some (vi i), some (vi 0), some (vi (GAB μ ((I 2 (i + 1))) ((I 2 (i + 2))) ((I 2 (i + 3))) ((I 2 (i + 4)))))], [], (K, H), c + 5 + 0 + 0, s + 30 + 0 + 0)
    exact h _ _ _ _ _ _ (hI.q v2 r2) ⟨by omega, by omega⟩
  ·
    show WP (Call d) 299 P X (1302, [some (vr (some 2) 102), some (vr (some 3) 9), some (vr (some 90) 10), some (vr (some 100) 13), some (vi i), x5, x6], [vi 1], (I, H), c + 5, s + 30)
    obtain ⟨K0, hK0⟩ : ∃ K0, K0 = I := ⟨_, rfl⟩
    rw [← hK0]
    have kf : ∀ a, a < 6 ∨ (90 ≤ a ∧ a ≠ 100) → K0 a = I a := fun a q => by rw [hK0]
    have k2 : K0 2 = I 2 := kf 2 (by omega)
    have hMk : K0 91 = μ := (kf 91 (by omega)).trans hM
    have hKk : MS K0 := by unfold MS at *; rw [kf 90 (by omega)]; exact hK
    refine WP.go 1 ?_
    show WP (Call d) 299 P X (1303, [some (vr (some 2) 102), some (vr (some 3) 9), some (vr (some 90) 10), some (vr (some 100) 13), some (vi i), some (vi 1), x6], [], (K0, H), c + 5, s + 30)
    refine WP.go 21 (Exists.intro (i + 1) (And.intro (wrp_a (by omega) (by omega)) (And.intro (And.intro rfl (And.intro (show 0 ≤ i + 1 from by omega) (show i + 1 < H.2.1 2 from by rw [hl2]; omega))) (Exists.intro (i + 2) (And.intro (wrp_a (by omega) (by omega)) (And.intro (And.intro rfl (And.intro (show 0 ≤ i + 2 from by omega) (show i + 2 < H.2.1 2 from by rw [hl2]; omega))) (Exists.intro (i + 3) (And.intro (wrp_a (by omega) (by omega)) (And.intro (And.intro rfl (And.intro (show 0 ≤ i + 3 from by omega) (show i + 3 < H.2.1 2 from by rw [hl2]; omega))) (Exists.intro (i + 4) (And.intro (wrp_a (by omega) (by omega)) (And.intro (And.intro rfl (And.intro (show 0 ≤ i + 4 from by omega) (show i + 4 < H.2.1 2 from by rw [hl2]; omega))) (?_)))))))))))))
    show WP (Call d) 299 P X (1324, [some (vr (some 2) 102), some (vr (some 3) 9), some (vr (some 90) 10), some (vr (some 100) 13), some (vi i), some (vi 1), x6], [vi (K0 2 (i + 4)), vi (K0 2 (i + 3)), vi (K0 2 (i + 2)), vi (K0 2 (i + 1)), vr (some 90) 10], (K0, H), c + 5, s + 30)
    rw [k2]
    refine WP.go 1 (And.intro (And.intro (show c + 5 + 0 ≤ 601024 from by omega) (show s + 30 + 0 ≤ 7293034 from by omega)) (And.intro rfl (?_)))
    show Call d 252 [vr (some 90) 10, vi (I 2 (i + 1)), vi (I 2 (i + 2)), vi (I 2 (i + 3)), vi (I 2 (i + 4))] (K0, H) _ _
    refine s_12_gable (by omega) hS hMk hV hKk (fun r0 K v r3 r4 r5 => ?_) (fun q => False.elim (by omega)) (fun q => False.elim (by omega))
    show WP (Call d) 299 P X (1325, [some (vr (some 2) 102), some (vr (some 3) 9), some (vr (some 90) 10), some (vr (some 100) 13), some (vi i), some (vi 1), x6], [vi (v)], (K, H), c + 5 + 0, s + 30 + 0)
    rw [hK0] at r4
    refine WP.go 3 (And.intro (And.intro (show c + 5 + 0 + 0 ≤ 601024 from by omega) (show s + 30 + 0 + 0 ≤ 7293034 from by omega)) (And.intro rfl ?_))
    show Call d 176 [vr (some 90) 10] (K, H) _ _
    refine s_12_thrown (by omega) hS ?_
    show WP (Call d) 299 P X (1328, [some (vr (some 2) 102), some (vr (some 3) 9), some (vr (some 90) 10), some (vr (some 100) 13), some (vi i), some (vi 1), some (vi (v))], [vi (K 90 0)], (K, H), c + 5 + 0 + 0, s + 30 + 0 + 0)
    refine WP.go 2 (And.intro (fun _ => ?_) (fun q => absurd r5 q))
    refine WP.go 2 (And.intro (fun _ => ?_) (fun q => absurd q (by decide)))
    refine WP.go 1 ?_
    show WP (Call d) 299 P X (1689, [some (vr (some 2) 102), some (vr (some 3) 9), some (vr (some 90) 10), some (vr (some 100) 13), some (vi i), some (vi 1), some (vi (v))], [], (K, H), c + 5 + 0 + 0, s + 30 + 0 + 0)
    exact h _ _ _ _ _ _ (hI.m (CF.rf I) r4) ⟨by omega, by omega⟩
  ·
    show WP (Call d) 299 P X (1302, [some (vr (some 2) 102), some (vr (some 3) 9), some (vr (some 90) 10), some (vr (some 100) 13), some (vi i), x5, x6], [vi 2], (I, H), c + 5, s + 30)
    obtain ⟨K0, hK0⟩ : ∃ K0, K0 = I := ⟨_, rfl⟩
    rw [← hK0]
    have kf : ∀ a, a < 6 ∨ (90 ≤ a ∧ a ≠ 100) → K0 a = I a := fun a q => by rw [hK0]
    have k2 : K0 2 = I 2 := kf 2 (by omega)
    have hMk : K0 91 = μ := (kf 91 (by omega)).trans hM
    have hKk : MS K0 := by unfold MS at *; rw [kf 90 (by omega)]; exact hK
    refine WP.go 1 ?_
    show WP (Call d) 299 P X (1303, [some (vr (some 2) 102), some (vr (some 3) 9), some (vr (some 90) 10), some (vr (some 100) 13), some (vi i), some (vi 2), x6], [], (K0, H), c + 5, s + 30)
    refine WP.go 21 (Exists.intro (i + 1) (And.intro (wrp_a (by omega) (by omega)) (And.intro (And.intro rfl (And.intro (show 0 ≤ i + 1 from by omega) (show i + 1 < H.2.1 2 from by rw [hl2]; omega))) (Exists.intro (i + 2) (And.intro (wrp_a (by omega) (by omega)) (And.intro (And.intro rfl (And.intro (show 0 ≤ i + 2 from by omega) (show i + 2 < H.2.1 2 from by rw [hl2]; omega))) (Exists.intro (i + 3) (And.intro (wrp_a (by omega) (by omega)) (And.intro (And.intro rfl (And.intro (show 0 ≤ i + 3 from by omega) (show i + 3 < H.2.1 2 from by rw [hl2]; omega))) (Exists.intro (i + 4) (And.intro (wrp_a (by omega) (by omega)) (And.intro (And.intro rfl (And.intro (show 0 ≤ i + 4 from by omega) (show i + 4 < H.2.1 2 from by rw [hl2]; omega))) (?_)))))))))))))
    show WP (Call d) 299 P X (1324, [some (vr (some 2) 102), some (vr (some 3) 9), some (vr (some 90) 10), some (vr (some 100) 13), some (vi i), some (vi 2), x6], [vi (K0 2 (i + 4)), vi (K0 2 (i + 3)), vi (K0 2 (i + 2)), vi (K0 2 (i + 1)), vr (some 90) 10], (K0, H), c + 5, s + 30)
    rw [k2]
    refine WP.go 1 (And.intro (And.intro (show c + 5 + 0 ≤ 601024 from by omega) (show s + 30 + 0 ≤ 7293034 from by omega)) (And.intro rfl (?_)))
    show Call d 252 [vr (some 90) 10, vi (I 2 (i + 1)), vi (I 2 (i + 2)), vi (I 2 (i + 3)), vi (I 2 (i + 4))] (K0, H) _ _
    refine s_12_gable (by omega) hS hMk hV hKk (fun q => False.elim (by omega)) (fun r0 K v r3 r4 r5 => ?_) (fun q => False.elim (by omega))
    show WP (Call d) 299 P X (1325, [some (vr (some 2) 102), some (vr (some 3) 9), some (vr (some 90) 10), some (vr (some 100) 13), some (vi i), some (vi 2), x6], [vi (v)], (K, H), c + 5 + 0, s + 30 + 0)
    rw [hK0] at r4
    refine WP.go 3 (And.intro (And.intro (show c + 5 + 0 + 0 ≤ 601024 from by omega) (show s + 30 + 0 + 0 ≤ 7293034 from by omega)) (And.intro rfl ?_))
    show Call d 176 [vr (some 90) 10] (K, H) _ _
    refine s_12_thrown (by omega) hS ?_
    show WP (Call d) 299 P X (1328, [some (vr (some 2) 102), some (vr (some 3) 9), some (vr (some 90) 10), some (vr (some 100) 13), some (vi i), some (vi 2), some (vi (v))], [vi (K 90 0)], (K, H), c + 5 + 0 + 0, s + 30 + 0 + 0)
    refine WP.go 2 (And.intro (fun _ => ?_) (fun q => absurd r5 q))
    refine WP.go 2 (And.intro (fun _ => ?_) (fun q => absurd q (by decide)))
    refine WP.go 1 ?_
    show WP (Call d) 299 P X (1689, [some (vr (some 2) 102), some (vr (some 3) 9), some (vr (some 90) 10), some (vr (some 100) 13), some (vi i), some (vi 2), some (vi (v))], [], (K, H), c + 5 + 0 + 0, s + 30 + 0 + 0)
    exact h _ _ _ _ _ _ (hI.m (CF.rf I) r4) ⟨by omega, by omega⟩

set_option maxRecDepth 20000 in
theorem law_32 {d : Nat} {P : Option qV → qH → Prop} {X : Nat → qH → Prop} {I : qI} {H : qS} {f : Int → Int} {L i : Int} {x5 x6 : Option qV} {c s : Nat} (hd : 100 ≤ d) (hI : LI f L i I H) (hi : 0 ≤ i ∧ i + 6 ≤ L ∧ L ≤ 3072) (hc : (c : Int) ≤ 1000 + 100 * i ∧ (s : Int) ≤ 40000 + 2000 * i) (h : ∀ (K : qI) (G : qS) (y5 y6 : Option qV) (c9 s9 : Nat), LI f L (i + 6) K G → (c9 ≤ c + 90 ∧ s9 ≤ s + 9000) → WP (Call d) 299 P X (1689, [some (vr (some 2) 102), some (vr (some 3) 9), some (vr (some 90) 10), some (vr (some 100) 13), some (vi i), y5, y6], [], (K, G), c9, s9)) :
    WP (Call d) 299 P X (1386, [some (vr (some 2) 102), some (vr (some 3) 9), some (vr (some 90) 10), some (vr (some 100) 13), some (vi i), x5, x6], [], (I, H), c, s) := by
  obtain ⟨hS, hX, ⟨hf2, hl2⟩, ⟨hT, hV, hO, hLL⟩, ⟨hC, hC2⟩, hK, hKP, hTP, hFX, h10⟩ := id hI
  have hl100 := hS.l100
  generalize hM : I 91 = μ at *
  refine WP.go 13 (Exists.intro (i + 1) (And.intro (wrp_a (by omega) (by omega)) (And.intro (And.intro rfl (And.intro (show 0 ≤ i + 1 from by omega) (show i + 1 < H.2.1 2 from by rw [hl2]; omega))) (Exists.intro (i + 2) (And.intro (wrp_a (by omega) (by omega)) (And.intro (And.intro rfl (And.intro (show 0 ≤ i + 2 from by omega) (show i + 2 < H.2.1 2 from by rw [hl2]; omega))) (And.intro (And.intro (show c + 2 ≤ 601024 from by omega) (show s + 12 ≤ 7293034 from by omega)) (And.intro rfl (?_)))))))))
  show Call d 294 [vr (some 3) 9, vi (I 2 (i + 1)), vi (I 2 (i + 2)), vr (some 100) 13] (I, H) _ _
  refine hl_good (by omega) hS hX hT hV (fun v1 J v2 => ?_) (fun v1 => ?_)
  ·
    show WP (Call d) 299 P X (1399, [some (vr (some 2) 102), some (vr (some 3) 9), some (vr (some 90) 10), some (vr (some 100) 13), some (vi i), x5, x6], [vi 0], (upI J 100 0 (BRT μ (AN μ) (HT μ) ((I 2 (i + 2))) (μ (210 + 2 * ((I 2 (i + 1))))) (μ (211 + 2 * ((I 2 (i + 1)))))), H), c + 2, s + 12)
    obtain ⟨K0, hK0⟩ : ∃ K0, K0 = upI J 100 0 (BRT μ (AN μ) (HT μ) ((I 2 (i + 2))) (μ (210 + 2 * ((I 2 (i + 1))))) (μ (211 + 2 * ((I 2 (i + 1)))))) := ⟨_, rfl⟩
    rw [← hK0]
    have ke : ∀ a, a ≠ 100 → K0 a = J a := fun a q => by rw [hK0]; exact upI_cell q
    have k1 : K0 100 0 = BRT μ (AN μ) (HT μ) ((I 2 (i + 2))) (μ (210 + 2 * ((I 2 (i + 1))))) (μ (211 + 2 * ((I 2 (i + 1))))) := by rw [hK0]; exact upI_same _ _ _ _
    have kf : ∀ a, a < 6 ∨ (90 ≤ a ∧ a ≠ 100) → K0 a = I a := fun a q => (ke a (by omega)).trans (v2 a (by omega))
    have k2 : K0 2 = I 2 := kf 2 (by omega)
    have hMk : K0 91 = μ := (kf 91 (by omega)).trans hM
    have hKk : MS K0 := by unfold MS at *; rw [kf 90 (by omega)]; exact hK
    refine WP.go 1 ?_
    show WP (Call d) 299 P X (1400, [some (vr (some 2) 102), some (vr (some 3) 9), some (vr (some 90) 10), some (vr (some 100) 13), some (vi i), some (vi 0), x6], [], (K0, H), c + 2, s + 12)
    refine WP.go 11 (Exists.intro (i + 1) (And.intro (wrp_a (by omega) (by omega)) (And.intro (And.intro rfl (And.intro (show 0 ≤ i + 1 from by omega) (show i + 1 < H.2.1 2 from by rw [hl2]; omega))) (Exists.intro (i + 2) (And.intro (wrp_a (by omega) (by omega)) (And.intro (And.intro rfl (And.intro (show 0 ≤ i + 2 from by omega) (show i + 2 < H.2.1 2 from by rw [hl2]; omega))) (?_)))))))
    show WP (Call d) 299 P X (1411, [some (vr (some 2) 102), some (vr (some 3) 9), some (vr (some 90) 10), some (vr (some 100) 13), some (vi i), some (vi 0), x6], [vi (K0 2 (i + 2)), vi (K0 2 (i + 1)), vr (some 90) 10], (K0, H), c + 2, s + 12)
    rw [k2]
    refine WP.go 1 (And.intro (And.intro (show c + 2 + 0 ≤ 601024 from by omega) (show s + 12 + 0 ≤ 7293034 from by omega)) (And.intro rfl (?_)))
    show Call d 255 [vr (some 90) 10, vi (I 2 (i + 1)), vi (I 2 (i + 2))] (K0, H) _ _
    refine s_12_good (by omega) hS hMk hV hKk (fun q => False.elim (by omega)) (fun r0 K r2 r3 => ?_)
    show WP (Call d) 299 P X (1412, [some (vr (some 2) 102), some (vr (some 3) 9), some (vr (some 90) 10), some (vr (some 100) 13), some (vi i), some (vi 0), x6], [vi (BRT μ (AN μ) (HT μ) ((I 2 (i + 2))) (μ (210 + 2 * ((I 2 (i + 1))))) (μ (211 + 2 * ((I 2 (i + 1))))))], (K, H), c + 2 + 0, s + 12 + 0)
    have kk : K 100 = K0 100 := r2.1 100 (by omega)
    have k100 : K 100 0 = BRT μ (AN μ) (HT μ) ((I 2 (i + 2))) (μ (210 + 2 * ((I 2 (i + 1))))) (μ (211 + 2 * ((I 2 (i + 1))))) := by rw [kk, k1]
    rw [hK0] at r2
    refine WP.go 3 (And.intro (And.intro (show c + 2 + 0 + 0 ≤ 601024 from by omega) (show s + 12 + 0 + 0 ≤ 7293034 from by omega)) (And.intro rfl ?_))
    show Call d 176 [vr (some 90) 10] (K, H) _ _
    refine s_12_thrown (by omega) hS ?_
    show WP (Call d) 299 P X (1415, [some (vr (some 2) 102), some (vr (some 3) 9), some (vr (some 90) 10), some (vr (some 100) 13), some (vi i), some (vi 0), some (vi (BRT μ (AN μ) (HT μ) ((I 2 (i + 2))) (μ (210 + 2 * ((I 2 (i + 1))))) (μ (211 + 2 * ((I 2 (i + 1)))))))], [vi (K 90 0)], (K, H), c + 2 + 0 + 0, s + 12 + 0 + 0)
    refine WP.go 2 (And.intro (fun _ => ?_) (fun q => absurd r3 q))
    refine WP.go 2 (And.intro (fun q => absurd rfl q) (fun _ => ?_))
    refine WP.go 7 (And.intro (And.intro rfl (And.intro (by decide) (show (0 : Int) < H.2.1 100 from by rw [hl100]; decide))) (And.intro (fun _ => ?_) (fun q => absurd (zcmp_e k100) q)))
    refine WP.go 1 ?_
    show WP (Call d) 299 P X (1689, [some (vr (some 2) 102), some (vr (some 3) 9), some (vr (some 90) 10), some (vr (some 100) 13), some (vi i), some (vi 0), some (vi (BRT μ (AN μ) (HT μ) ((I 2 (i + 2))) (μ (210 + 2 * ((I 2 (i + 1))))) (μ (211 + 2 * ((I 2 (i + 1)))))))], [], (K, H), c + 2 + 0 + 0, s + 12 + 0 + 0)
    exact h _ _ _ _ _ _ (hI.q v2 r2) ⟨by omega, by omega⟩
  ·
    show WP (Call d) 299 P X (1399, [some (vr (some 2) 102), some (vr (some 3) 9), some (vr (some 90) 10), some (vr (some 100) 13), some (vi i), x5, x6], [vi 1], (I, H), c + 2, s + 12)
    obtain ⟨K0, hK0⟩ : ∃ K0, K0 = I := ⟨_, rfl⟩
    rw [← hK0]
    have kf : ∀ a, a < 6 ∨ (90 ≤ a ∧ a ≠ 100) → K0 a = I a := fun a q => by rw [hK0]
    have k2 : K0 2 = I 2 := kf 2 (by omega)
    have hMk : K0 91 = μ := (kf 91 (by omega)).trans hM
    have hKk : MS K0 := by unfold MS at *; rw [kf 90 (by omega)]; exact hK
    refine WP.go 1 ?_
    show WP (Call d) 299 P X (1400, [some (vr (some 2) 102), some (vr (some 3) 9), some (vr (some 90) 10), some (vr (some 100) 13), some (vi i), some (vi 1), x6], [], (K0, H), c + 2, s + 12)
    refine WP.go 11 (Exists.intro (i + 1) (And.intro (wrp_a (by omega) (by omega)) (And.intro (And.intro rfl (And.intro (show 0 ≤ i + 1 from by omega) (show i + 1 < H.2.1 2 from by rw [hl2]; omega))) (Exists.intro (i + 2) (And.intro (wrp_a (by omega) (by omega)) (And.intro (And.intro rfl (And.intro (show 0 ≤ i + 2 from by omega) (show i + 2 < H.2.1 2 from by rw [hl2]; omega))) (?_)))))))
    show WP (Call d) 299 P X (1411, [some (vr (some 2) 102), some (vr (some 3) 9), some (vr (some 90) 10), some (vr (some 100) 13), some (vi i), some (vi 1), x6], [vi (K0 2 (i + 2)), vi (K0 2 (i + 1)), vr (some 90) 10], (K0, H), c + 2, s + 12)
    rw [k2]
    refine WP.go 1 (And.intro (And.intro (show c + 2 + 0 ≤ 601024 from by omega) (show s + 12 + 0 ≤ 7293034 from by omega)) (And.intro rfl (?_)))
    show Call d 255 [vr (some 90) 10, vi (I 2 (i + 1)), vi (I 2 (i + 2))] (K0, H) _ _
    refine s_12_good (by omega) hS hMk hV hKk (fun r0 K v r3 r4 r5 => ?_) (fun q => False.elim (by omega))
    show WP (Call d) 299 P X (1412, [some (vr (some 2) 102), some (vr (some 3) 9), some (vr (some 90) 10), some (vr (some 100) 13), some (vi i), some (vi 1), x6], [vi (v)], (K, H), c + 2 + 0, s + 12 + 0)
    rw [hK0] at r4
    refine WP.go 3 (And.intro (And.intro (show c + 2 + 0 + 0 ≤ 601024 from by omega) (show s + 12 + 0 + 0 ≤ 7293034 from by omega)) (And.intro rfl ?_))
    show Call d 176 [vr (some 90) 10] (K, H) _ _
    refine s_12_thrown (by omega) hS ?_
    show WP (Call d) 299 P X (1415, [some (vr (some 2) 102), some (vr (some 3) 9), some (vr (some 90) 10), some (vr (some 100) 13), some (vi i), some (vi 1), some (vi (v))], [vi (K 90 0)], (K, H), c + 2 + 0 + 0, s + 12 + 0 + 0)
    refine WP.go 2 (And.intro (fun _ => ?_) (fun q => absurd r5 q))
    refine WP.go 2 (And.intro (fun _ => ?_) (fun q => absurd q (by decide)))
    refine WP.go 1 ?_
    show WP (Call d) 299 P X (1689, [some (vr (some 2) 102), some (vr (some 3) 9), some (vr (some 90) 10), some (vr (some 100) 13), some (vi i), some (vi 1), some (vi (v))], [], (K, H), c + 2 + 0 + 0, s + 12 + 0 + 0)
    exact h _ _ _ _ _ _ (hI.m (CF.rf I) r4) ⟨by omega, by omega⟩

set_option maxRecDepth 20000 in
theorem law_33 {d : Nat} {P : Option qV → qH → Prop} {X : Nat → qH → Prop} {I : qI} {H : qS} {f : Int → Int} {L i : Int} {x5 x6 : Option qV} {c s : Nat} (hd : 100 ≤ d) (hI : LI f L i I H) (hi : 0 ≤ i ∧ i + 6 ≤ L ∧ L ≤ 3072) (hc : (c : Int) ≤ 1000 + 100 * i ∧ (s : Int) ≤ 40000 + 2000 * i) (h : ∀ (K : qI) (G : qS) (y5 y6 : Option qV) (c9 s9 : Nat), LI f L (i + 6) K G → (c9 ≤ c + 90 ∧ s9 ≤ s + 9000) → WP (Call d) 299 P X (1689, [some (vr (some 2) 102), some (vr (some 3) 9), some (vr (some 90) 10), some (vr (some 100) 13), some (vi i), y5, y6], [], (K, G), c9, s9)) :
    WP (Call d) 299 P X (1431, [some (vr (some 2) 102), some (vr (some 3) 9), some (vr (some 90) 10), some (vr (some 100) 13), some (vi i), x5, x6], [], (I, H), c, s) := by
  obtain ⟨hS, hX, ⟨hf2, hl2⟩, ⟨hT, hV, hO, hLL⟩, ⟨hC, hC2⟩, hK, hKP, hTP, hFX, h10⟩ := id hI
  have hl100 := hS.l100
  generalize hM : I 91 = μ at *
  refine WP.go 13 (Exists.intro (i + 1) (And.intro (wrp_a (by omega) (by omega)) (And.intro (And.intro rfl (And.intro (show 0 ≤ i + 1 from by omega) (show i + 1 < H.2.1 2 from by rw [hl2]; omega))) (Exists.intro (i + 2) (And.intro (wrp_a (by omega) (by omega)) (And.intro (And.intro rfl (And.intro (show 0 ≤ i + 2 from by omega) (show i + 2 < H.2.1 2 from by rw [hl2]; omega))) (And.intro (And.intro (show c + 2 ≤ 601024 from by omega) (show s + 12 ≤ 7293034 from by omega)) (And.intro rfl (?_)))))))))
  show Call d 295 [vr (some 3) 9, vi (I 2 (i + 1)), vi (I 2 (i + 2)), vr (some 100) 13] (I, H) _ _
  refine hl_swaps (by omega) hS hX hT hV (fun v1 J v2 => ?_) (fun v1 => ?_) (fun v1 => ?_)
  ·
    show WP (Call d) 299 P X (1444, [some (vr (some 2) 102), some (vr (some 3) 9), some (vr (some 90) 10), some (vr (some 100) 13), some (vi i), x5, x6], [vi 0], (upI J 100 0 (SWA μ ((I 2 (i + 1))) ((I 2 (i + 2)))), H), c + 2, s + 12)
    obtain ⟨K0, hK0⟩ : ∃ K0, K0 = upI J 100 0 (SWA μ ((I 2 (i + 1))) ((I 2 (i + 2)))) := ⟨_, rfl⟩
    rw [← hK0]
    have ke : ∀ a, a ≠ 100 → K0 a = J a := fun a q => by rw [hK0]; exact upI_cell q
    have k1 : K0 100 0 = SWA μ ((I 2 (i + 1))) ((I 2 (i + 2))) := by rw [hK0]; exact upI_same _ _ _ _
    have kf : ∀ a, a < 6 ∨ (90 ≤ a ∧ a ≠ 100) → K0 a = I a := fun a q => (ke a (by omega)).trans (v2 a (by omega))
    have k2 : K0 2 = I 2 := kf 2 (by omega)
    have hMk : K0 91 = μ := (kf 91 (by omega)).trans hM
    have hKk : MS K0 := by unfold MS at *; rw [kf 90 (by omega)]; exact hK
    refine WP.go 1 ?_
    show WP (Call d) 299 P X (1445, [some (vr (some 2) 102), some (vr (some 3) 9), some (vr (some 90) 10), some (vr (some 100) 13), some (vi i), some (vi 0), x6], [], (K0, H), c + 2, s + 12)
    refine WP.go 11 (Exists.intro (i + 1) (And.intro (wrp_a (by omega) (by omega)) (And.intro (And.intro rfl (And.intro (show 0 ≤ i + 1 from by omega) (show i + 1 < H.2.1 2 from by rw [hl2]; omega))) (Exists.intro (i + 2) (And.intro (wrp_a (by omega) (by omega)) (And.intro (And.intro rfl (And.intro (show 0 ≤ i + 2 from by omega) (show i + 2 < H.2.1 2 from by rw [hl2]; omega))) (?_)))))))
    show WP (Call d) 299 P X (1456, [some (vr (some 2) 102), some (vr (some 3) 9), some (vr (some 90) 10), some (vr (some 100) 13), some (vi i), some (vi 0), x6], [vi (K0 2 (i + 2)), vi (K0 2 (i + 1)), vr (some 90) 10], (K0, H), c + 2, s + 12)
    rw [k2]
    refine WP.go 1 (And.intro (And.intro (show c + 2 + 0 ≤ 601024 from by omega) (show s + 12 + 0 ≤ 7293034 from by omega)) (And.intro rfl (?_)))
    show Call d 258 [vr (some 90) 10, vi (I 2 (i + 1)), vi (I 2 (i + 2))] (K0, H) _ _
    refine s_12_swaps (by omega) hS hMk hV hKk (fun q => False.elim (by omega)) (fun q => False.elim (by omega)) (fun r0 K r2 r3 => ?_)
    show WP (Call d) 299 P X (1457, [some (vr (some 2) 102), some (vr (some 3) 9), some (vr (some 90) 10), some (vr (some 100) 13), some (vi i), some (vi 0), x6], [vi (SWA μ ((I 2 (i + 1))) ((I 2 (i + 2))))], (K, H), c + 2 + 0, s + 12 + 0)
    have kk : K 100 = K0 100 := r2.1 100 (by omega)
    have k100 : K 100 0 = SWA μ ((I 2 (i + 1))) ((I 2 (i + 2))) := by rw [kk, k1]
    rw [hK0] at r2
    refine WP.go 3 (And.intro (And.intro (show c + 2 + 0 + 0 ≤ 601024 from by omega) (show s + 12 + 0 + 0 ≤ 7293034 from by omega)) (And.intro rfl ?_))
    show Call d 176 [vr (some 90) 10] (K, H) _ _
    refine s_12_thrown (by omega) hS ?_
    show WP (Call d) 299 P X (1460, [some (vr (some 2) 102), some (vr (some 3) 9), some (vr (some 90) 10), some (vr (some 100) 13), some (vi i), some (vi 0), some (vi (SWA μ ((I 2 (i + 1))) ((I 2 (i + 2)))))], [vi (K 90 0)], (K, H), c + 2 + 0 + 0, s + 12 + 0 + 0)
    refine WP.go 2 (And.intro (fun _ => ?_) (fun q => absurd r3 q))
    refine WP.go 2 (And.intro (fun q => absurd rfl q) (fun _ => ?_))
    refine WP.go 7 (And.intro (And.intro rfl (And.intro (by decide) (show (0 : Int) < H.2.1 100 from by rw [hl100]; decide))) (And.intro (fun _ => ?_) (fun q => absurd (zcmp_e k100) q)))
    refine WP.go 1 ?_
    show WP (Call d) 299 P X (1689, [some (vr (some 2) 102), some (vr (some 3) 9), some (vr (some 90) 10), some (vr (some 100) 13), some (vi i), some (vi 0), some (vi (SWA μ ((I 2 (i + 1))) ((I 2 (i + 2)))))], [], (K, H), c + 2 + 0 + 0, s + 12 + 0 + 0)
    exact h _ _ _ _ _ _ (hI.q v2 r2) ⟨by omega, by omega⟩
  ·
    show WP (Call d) 299 P X (1444, [some (vr (some 2) 102), some (vr (some 3) 9), some (vr (some 90) 10), some (vr (some 100) 13), some (vi i), x5, x6], [vi 1], (I, H), c + 2, s + 12)
    obtain ⟨K0, hK0⟩ : ∃ K0, K0 = I := ⟨_, rfl⟩
    rw [← hK0]
    have kf : ∀ a, a < 6 ∨ (90 ≤ a ∧ a ≠ 100) → K0 a = I a := fun a q => by rw [hK0]
    have k2 : K0 2 = I 2 := kf 2 (by omega)
    have hMk : K0 91 = μ := (kf 91 (by omega)).trans hM
    have hKk : MS K0 := by unfold MS at *; rw [kf 90 (by omega)]; exact hK
    refine WP.go 1 ?_
    show WP (Call d) 299 P X (1445, [some (vr (some 2) 102), some (vr (some 3) 9), some (vr (some 90) 10), some (vr (some 100) 13), some (vi i), some (vi 1), x6], [], (K0, H), c + 2, s + 12)
    refine WP.go 11 (Exists.intro (i + 1) (And.intro (wrp_a (by omega) (by omega)) (And.intro (And.intro rfl (And.intro (show 0 ≤ i + 1 from by omega) (show i + 1 < H.2.1 2 from by rw [hl2]; omega))) (Exists.intro (i + 2) (And.intro (wrp_a (by omega) (by omega)) (And.intro (And.intro rfl (And.intro (show 0 ≤ i + 2 from by omega) (show i + 2 < H.2.1 2 from by rw [hl2]; omega))) (?_)))))))
    show WP (Call d) 299 P X (1456, [some (vr (some 2) 102), some (vr (some 3) 9), some (vr (some 90) 10), some (vr (some 100) 13), some (vi i), some (vi 1), x6], [vi (K0 2 (i + 2)), vi (K0 2 (i + 1)), vr (some 90) 10], (K0, H), c + 2, s + 12)
    rw [k2]
    refine WP.go 1 (And.intro (And.intro (show c + 2 + 0 ≤ 601024 from by omega) (show s + 12 + 0 ≤ 7293034 from by omega)) (And.intro rfl (?_)))
    show Call d 258 [vr (some 90) 10, vi (I 2 (i + 1)), vi (I 2 (i + 2))] (K0, H) _ _
    refine s_12_swaps (by omega) hS hMk hV hKk (fun r0 K v r3 r4 r5 => ?_) (fun q => False.elim (by omega)) (fun q => False.elim (by omega))
    show WP (Call d) 299 P X (1457, [some (vr (some 2) 102), some (vr (some 3) 9), some (vr (some 90) 10), some (vr (some 100) 13), some (vi i), some (vi 1), x6], [vi (v)], (K, H), c + 2 + 0, s + 12 + 0)
    rw [hK0] at r4
    refine WP.go 3 (And.intro (And.intro (show c + 2 + 0 + 0 ≤ 601024 from by omega) (show s + 12 + 0 + 0 ≤ 7293034 from by omega)) (And.intro rfl ?_))
    show Call d 176 [vr (some 90) 10] (K, H) _ _
    refine s_12_thrown (by omega) hS ?_
    show WP (Call d) 299 P X (1460, [some (vr (some 2) 102), some (vr (some 3) 9), some (vr (some 90) 10), some (vr (some 100) 13), some (vi i), some (vi 1), some (vi (v))], [vi (K 90 0)], (K, H), c + 2 + 0 + 0, s + 12 + 0 + 0)
    refine WP.go 2 (And.intro (fun _ => ?_) (fun q => absurd r5 q))
    refine WP.go 2 (And.intro (fun _ => ?_) (fun q => absurd q (by decide)))
    refine WP.go 1 ?_
    show WP (Call d) 299 P X (1689, [some (vr (some 2) 102), some (vr (some 3) 9), some (vr (some 90) 10), some (vr (some 100) 13), some (vi i), some (vi 1), some (vi (v))], [], (K, H), c + 2 + 0 + 0, s + 12 + 0 + 0)
    exact h _ _ _ _ _ _ (hI.m (CF.rf I) r4) ⟨by omega, by omega⟩
  ·
    show WP (Call d) 299 P X (1444, [some (vr (some 2) 102), some (vr (some 3) 9), some (vr (some 90) 10), some (vr (some 100) 13), some (vi i), x5, x6], [vi 2], (I, H), c + 2, s + 12)
    obtain ⟨K0, hK0⟩ : ∃ K0, K0 = I := ⟨_, rfl⟩
    rw [← hK0]
    have kf : ∀ a, a < 6 ∨ (90 ≤ a ∧ a ≠ 100) → K0 a = I a := fun a q => by rw [hK0]
    have k2 : K0 2 = I 2 := kf 2 (by omega)
    have hMk : K0 91 = μ := (kf 91 (by omega)).trans hM
    have hKk : MS K0 := by unfold MS at *; rw [kf 90 (by omega)]; exact hK
    refine WP.go 1 ?_
    show WP (Call d) 299 P X (1445, [some (vr (some 2) 102), some (vr (some 3) 9), some (vr (some 90) 10), some (vr (some 100) 13), some (vi i), some (vi 2), x6], [], (K0, H), c + 2, s + 12)
    refine WP.go 11 (Exists.intro (i + 1) (And.intro (wrp_a (by omega) (by omega)) (And.intro (And.intro rfl (And.intro (show 0 ≤ i + 1 from by omega) (show i + 1 < H.2.1 2 from by rw [hl2]; omega))) (Exists.intro (i + 2) (And.intro (wrp_a (by omega) (by omega)) (And.intro (And.intro rfl (And.intro (show 0 ≤ i + 2 from by omega) (show i + 2 < H.2.1 2 from by rw [hl2]; omega))) (?_)))))))
    show WP (Call d) 299 P X (1456, [some (vr (some 2) 102), some (vr (some 3) 9), some (vr (some 90) 10), some (vr (some 100) 13), some (vi i), some (vi 2), x6], [vi (K0 2 (i + 2)), vi (K0 2 (i + 1)), vr (some 90) 10], (K0, H), c + 2, s + 12)
    rw [k2]
    refine WP.go 1 (And.intro (And.intro (show c + 2 + 0 ≤ 601024 from by omega) (show s + 12 + 0 ≤ 7293034 from by omega)) (And.intro rfl (?_)))
    show Call d 258 [vr (some 90) 10, vi (I 2 (i + 1)), vi (I 2 (i + 2))] (K0, H) _ _
    refine s_12_swaps (by omega) hS hMk hV hKk (fun q => False.elim (by omega)) (fun r0 K v r3 r4 r5 => ?_) (fun q => False.elim (by omega))
    show WP (Call d) 299 P X (1457, [some (vr (some 2) 102), some (vr (some 3) 9), some (vr (some 90) 10), some (vr (some 100) 13), some (vi i), some (vi 2), x6], [vi (v)], (K, H), c + 2 + 0, s + 12 + 0)
    rw [hK0] at r4
    refine WP.go 3 (And.intro (And.intro (show c + 2 + 0 + 0 ≤ 601024 from by omega) (show s + 12 + 0 + 0 ≤ 7293034 from by omega)) (And.intro rfl ?_))
    show Call d 176 [vr (some 90) 10] (K, H) _ _
    refine s_12_thrown (by omega) hS ?_
    show WP (Call d) 299 P X (1460, [some (vr (some 2) 102), some (vr (some 3) 9), some (vr (some 90) 10), some (vr (some 100) 13), some (vi i), some (vi 2), some (vi (v))], [vi (K 90 0)], (K, H), c + 2 + 0 + 0, s + 12 + 0 + 0)
    refine WP.go 2 (And.intro (fun _ => ?_) (fun q => absurd r5 q))
    refine WP.go 2 (And.intro (fun _ => ?_) (fun q => absurd q (by decide)))
    refine WP.go 1 ?_
    show WP (Call d) 299 P X (1689, [some (vr (some 2) 102), some (vr (some 3) 9), some (vr (some 90) 10), some (vr (some 100) 13), some (vi i), some (vi 2), some (vi (v))], [], (K, H), c + 2 + 0 + 0, s + 12 + 0 + 0)
    exact h _ _ _ _ _ _ (hI.m (CF.rf I) r4) ⟨by omega, by omega⟩

set_option maxRecDepth 20000 in
theorem law_37 {d : Nat} {P : Option qV → qH → Prop} {X : Nat → qH → Prop} {I : qI} {H : qS} {f : Int → Int} {L i : Int} {x5 x6 : Option qV} {c s : Nat} (hd : 100 ≤ d) (hI : LI f L i I H) (hi : 0 ≤ i ∧ i + 6 ≤ L ∧ L ≤ 3072) (hc : (c : Int) ≤ 1000 + 100 * i ∧ (s : Int) ≤ 40000 + 2000 * i) (h : ∀ (K : qI) (G : qS) (y5 y6 : Option qV) (c9 s9 : Nat), LI f L (i + 6) K G → (c9 ≤ c + 90 ∧ s9 ≤ s + 9000) → WP (Call d) 299 P X (1689, [some (vr (some 2) 102), some (vr (some 3) 9), some (vr (some 90) 10), some (vr (some 100) 13), some (vi i), y5, y6], [], (K, G), c9, s9)) :
    WP (Call d) 299 P X (1553, [some (vr (some 2) 102), some (vr (some 3) 9), some (vr (some 90) 10), some (vr (some 100) 13), some (vi i), x5, x6], [], (I, H), c, s) := by
  obtain ⟨hS, hX, ⟨hf2, hl2⟩, ⟨hT, hV, hO, hLL⟩, ⟨hC, hC2⟩, hK, hKP, hTP, hFX, h10⟩ := id hI
  have hl100 := hS.l100
  generalize hM : I 91 = μ at *
  refine WP.go 8 (Exists.intro (i + 1) (And.intro (wrp_a (by omega) (by omega)) (And.intro (And.intro rfl (And.intro (show 0 ≤ i + 1 from by omega) (show i + 1 < H.2.1 2 from by rw [hl2]; omega))) (And.intro (And.intro (show c + 1 ≤ 601024 from by omega) (show s + 6 ≤ 7293034 from by omega)) (And.intro rfl (?_))))))
  show Call d 297 [vr (some 3) 9, vi (I 2 (i + 1)), vr (some 100) 13] (I, H) _ _
  refine hl_years (by omega) hS hX hT hV (fun v1 J v2 => ?_) (fun v1 => ?_)
  ·
    show WP (Call d) 299 P X (1561, [some (vr (some 2) 102), some (vr (some 3) 9), some (vr (some 90) 10), some (vr (some 100) 13), some (vi i), x5, x6], [vi 0], (upI J 100 0 (yeN (FITp μ (AN μ) (HT μ)) ((I 2 (i + 1))) 100 0 0), H), c + 1, s + 6)
    obtain ⟨K0, hK0⟩ : ∃ K0, K0 = upI J 100 0 (yeN (FITp μ (AN μ) (HT μ)) ((I 2 (i + 1))) 100 0 0) := ⟨_, rfl⟩
    rw [← hK0]
    have ke : ∀ a, a ≠ 100 → K0 a = J a := fun a q => by rw [hK0]; exact upI_cell q
    have k1 : K0 100 0 = yeN (FITp μ (AN μ) (HT μ)) ((I 2 (i + 1))) 100 0 0 := by rw [hK0]; exact upI_same _ _ _ _
    have kf : ∀ a, a < 6 ∨ (90 ≤ a ∧ a ≠ 100) → K0 a = I a := fun a q => (ke a (by omega)).trans (v2 a (by omega))
    have k2 : K0 2 = I 2 := kf 2 (by omega)
    have hMk : K0 91 = μ := (kf 91 (by omega)).trans hM
    have hKk : MS K0 := by unfold MS at *; rw [kf 90 (by omega)]; exact hK
    refine WP.go 1 ?_
    show WP (Call d) 299 P X (1562, [some (vr (some 2) 102), some (vr (some 3) 9), some (vr (some 90) 10), some (vr (some 100) 13), some (vi i), some (vi 0), x6], [], (K0, H), c + 1, s + 6)
    refine WP.go 6 (Exists.intro (i + 1) (And.intro (wrp_a (by omega) (by omega)) (And.intro (And.intro rfl (And.intro (show 0 ≤ i + 1 from by omega) (show i + 1 < H.2.1 2 from by rw [hl2]; omega))) (?_))))
    show WP (Call d) 299 P X (1568, [some (vr (some 2) 102), some (vr (some 3) 9), some (vr (some 90) 10), some (vr (some 100) 13), some (vi i), some (vi 0), x6], [vi (K0 2 (i + 1)), vr (some 90) 10], (K0, H), c + 1, s + 6)
    rw [k2]
    refine WP.go 1 (And.intro (And.intro (show c + 1 + 0 ≤ 601024 from by omega) (show s + 6 + 0 ≤ 7293034 from by omega)) (And.intro rfl (?_)))
    show Call d 262 [vr (some 90) 10, vi (I 2 (i + 1))] (K0, H) _ _
    refine s_12_years (by omega) hS hMk hV hKk (fun q => False.elim (by omega)) (fun r0 K r2 r3 => ?_)
    show WP (Call d) 299 P X (1569, [some (vr (some 2) 102), some (vr (some 3) 9), some (vr (some 90) 10), some (vr (some 100) 13), some (vi i), some (vi 0), x6], [vi (yeN (FITp μ (AN μ) (HT μ)) ((I 2 (i + 1))) 100 0 0)], (K, H), c + 1 + 0, s + 6 + 0)
    have kk : K 100 = K0 100 := r2.1 100 (by omega)
    have k100 : K 100 0 = yeN (FITp μ (AN μ) (HT μ)) ((I 2 (i + 1))) 100 0 0 := by rw [kk, k1]
    rw [hK0] at r2
    refine WP.go 3 (And.intro (And.intro (show c + 1 + 0 + 0 ≤ 601024 from by omega) (show s + 6 + 0 + 0 ≤ 7293034 from by omega)) (And.intro rfl ?_))
    show Call d 176 [vr (some 90) 10] (K, H) _ _
    refine s_12_thrown (by omega) hS ?_
    show WP (Call d) 299 P X (1572, [some (vr (some 2) 102), some (vr (some 3) 9), some (vr (some 90) 10), some (vr (some 100) 13), some (vi i), some (vi 0), some (vi (yeN (FITp μ (AN μ) (HT μ)) ((I 2 (i + 1))) 100 0 0))], [vi (K 90 0)], (K, H), c + 1 + 0 + 0, s + 6 + 0 + 0)
    refine WP.go 2 (And.intro (fun _ => ?_) (fun q => absurd r3 q))
    refine WP.go 2 (And.intro (fun q => absurd rfl q) (fun _ => ?_))
    refine WP.go 7 (And.intro (And.intro rfl (And.intro (by decide) (show (0 : Int) < H.2.1 100 from by rw [hl100]; decide))) (And.intro (fun _ => ?_) (fun q => absurd (zcmp_e k100) q)))
    refine WP.go 1 ?_
    show WP (Call d) 299 P X (1689, [some (vr (some 2) 102), some (vr (some 3) 9), some (vr (some 90) 10), some (vr (some 100) 13), some (vi i), some (vi 0), some (vi (yeN (FITp μ (AN μ) (HT μ)) ((I 2 (i + 1))) 100 0 0))], [], (K, H), c + 1 + 0 + 0, s + 6 + 0 + 0)
    exact h _ _ _ _ _ _ (hI.q v2 r2) ⟨by omega, by omega⟩
  ·
    show WP (Call d) 299 P X (1561, [some (vr (some 2) 102), some (vr (some 3) 9), some (vr (some 90) 10), some (vr (some 100) 13), some (vi i), x5, x6], [vi 1], (I, H), c + 1, s + 6)
    obtain ⟨K0, hK0⟩ : ∃ K0, K0 = I := ⟨_, rfl⟩
    rw [← hK0]
    have kf : ∀ a, a < 6 ∨ (90 ≤ a ∧ a ≠ 100) → K0 a = I a := fun a q => by rw [hK0]
    have k2 : K0 2 = I 2 := kf 2 (by omega)
    have hMk : K0 91 = μ := (kf 91 (by omega)).trans hM
    have hKk : MS K0 := by unfold MS at *; rw [kf 90 (by omega)]; exact hK
    refine WP.go 1 ?_
    show WP (Call d) 299 P X (1562, [some (vr (some 2) 102), some (vr (some 3) 9), some (vr (some 90) 10), some (vr (some 100) 13), some (vi i), some (vi 1), x6], [], (K0, H), c + 1, s + 6)
    refine WP.go 6 (Exists.intro (i + 1) (And.intro (wrp_a (by omega) (by omega)) (And.intro (And.intro rfl (And.intro (show 0 ≤ i + 1 from by omega) (show i + 1 < H.2.1 2 from by rw [hl2]; omega))) (?_))))
    show WP (Call d) 299 P X (1568, [some (vr (some 2) 102), some (vr (some 3) 9), some (vr (some 90) 10), some (vr (some 100) 13), some (vi i), some (vi 1), x6], [vi (K0 2 (i + 1)), vr (some 90) 10], (K0, H), c + 1, s + 6)
    rw [k2]
    refine WP.go 1 (And.intro (And.intro (show c + 1 + 0 ≤ 601024 from by omega) (show s + 6 + 0 ≤ 7293034 from by omega)) (And.intro rfl (?_)))
    show Call d 262 [vr (some 90) 10, vi (I 2 (i + 1))] (K0, H) _ _
    refine s_12_years (by omega) hS hMk hV hKk (fun r0 K v r3 r4 r5 => ?_) (fun q => False.elim (by omega))
    show WP (Call d) 299 P X (1569, [some (vr (some 2) 102), some (vr (some 3) 9), some (vr (some 90) 10), some (vr (some 100) 13), some (vi i), some (vi 1), x6], [vi (v)], (K, H), c + 1 + 0, s + 6 + 0)
    rw [hK0] at r4
    refine WP.go 3 (And.intro (And.intro (show c + 1 + 0 + 0 ≤ 601024 from by omega) (show s + 6 + 0 + 0 ≤ 7293034 from by omega)) (And.intro rfl ?_))
    show Call d 176 [vr (some 90) 10] (K, H) _ _
    refine s_12_thrown (by omega) hS ?_
    show WP (Call d) 299 P X (1572, [some (vr (some 2) 102), some (vr (some 3) 9), some (vr (some 90) 10), some (vr (some 100) 13), some (vi i), some (vi 1), some (vi (v))], [vi (K 90 0)], (K, H), c + 1 + 0 + 0, s + 6 + 0 + 0)
    refine WP.go 2 (And.intro (fun _ => ?_) (fun q => absurd r5 q))
    refine WP.go 2 (And.intro (fun _ => ?_) (fun q => absurd q (by decide)))
    refine WP.go 1 ?_
    show WP (Call d) 299 P X (1689, [some (vr (some 2) 102), some (vr (some 3) 9), some (vr (some 90) 10), some (vr (some 100) 13), some (vi i), some (vi 1), some (vi (v))], [], (K, H), c + 1 + 0 + 0, s + 6 + 0 + 0)
    exact h _ _ _ _ _ _ (hI.m (CF.rf I) r4) ⟨by omega, by omega⟩

set_option maxRecDepth 20000 in
theorem law_38 {d : Nat} {P : Option qV → qH → Prop} {X : Nat → qH → Prop} {I : qI} {H : qS} {f : Int → Int} {L i : Int} {x5 x6 : Option qV} {c s : Nat} (hd : 100 ≤ d) (hI : LI f L i I H) (hi : 0 ≤ i ∧ i + 6 ≤ L ∧ L ≤ 3072) (hc : (c : Int) ≤ 1000 + 100 * i ∧ (s : Int) ≤ 40000 + 2000 * i) (h : ∀ (K : qI) (G : qS) (y5 y6 : Option qV) (c9 s9 : Nat), LI f L (i + 6) K G → (c9 ≤ c + 90 ∧ s9 ≤ s + 9000) → WP (Call d) 299 P X (1689, [some (vr (some 2) 102), some (vr (some 3) 9), some (vr (some 90) 10), some (vr (some 100) 13), some (vi i), y5, y6], [], (K, G), c9, s9)) :
    WP (Call d) 299 P X (1588, [some (vr (some 2) 102), some (vr (some 3) 9), some (vr (some 90) 10), some (vr (some 100) 13), some (vi i), x5, x6], [], (I, H), c, s) := by
  obtain ⟨hS, hX, ⟨hf2, hl2⟩, ⟨hT, hV, hO, hLL⟩, ⟨hC, hC2⟩, hK, hKP, hTP, hFX, h10⟩ := id hI
  have hl100 := hS.l100
  generalize hM : I 91 = μ at *
  refine WP.go 18 (Exists.intro (i + 1) (And.intro (wrp_a (by omega) (by omega)) (And.intro (And.intro rfl (And.intro (show 0 ≤ i + 1 from by omega) (show i + 1 < H.2.1 2 from by rw [hl2]; omega))) (Exists.intro (i + 2) (And.intro (wrp_a (by omega) (by omega)) (And.intro (And.intro rfl (And.intro (show 0 ≤ i + 2 from by omega) (show i + 2 < H.2.1 2 from by rw [hl2]; omega))) (Exists.intro (i + 3) (And.intro (wrp_a (by omega) (by omega)) (And.intro (And.intro rfl (And.intro (show 0 ≤ i + 3 from by omega) (show i + 3 < H.2.1 2 from by rw [hl2]; omega))) (And.intro (And.intro (show c + 3 ≤ 601024 from by omega) (show s + 18 ≤ 7293034 from by omega)) (And.intro rfl (?_))))))))))))
  show Call d 298 [vr (some 3) 9, vi (I 2 (i + 1)), vi (I 2 (i + 2)), vi (I 2 (i + 3)), vr (some 100) 13] (I, H) _ _
  refine hl_push (by omega) hS hX hT hV (fun v1 J v2 => ?_) (fun v1 => ?_)
  ·
    show WP (Call d) 299 P X (1606, [some (vr (some 2) 102), some (vr (some 3) 9), some (vr (some 90) 10), some (vr (some 100) 13), some (vi i), x5, x6], [vi 0], (upI J 100 0 (fI (fun m => LITp μ (ANG μ ((I 2 (i + 2))) m) (HT μ) ((I 2 (i + 1))) 6 ((I 2 (i + 3)))) 0 49), H), c + 3, s + 18)
    obtain ⟨K0, hK0⟩ : ∃ K0, K0 = upI J 100 0 (fI (fun m => LITp μ (ANG μ ((I 2 (i + 2))) m) (HT μ) ((I 2 (i + 1))) 6 ((I 2 (i + 3)))) 0 49) := ⟨_, rfl⟩
    rw [← hK0]
    have ke : ∀ a, a ≠ 100 → K0 a = J a := fun a q => by rw [hK0]; exact upI_cell q
    have k1 : K0 100 0 = fI (fun m => LITp μ (ANG μ ((I 2 (i + 2))) m) (HT μ) ((I 2 (i + 1))) 6 ((I 2 (i + 3)))) 0 49 := by rw [hK0]; exact upI_same _ _ _ _
    have kf : ∀ a, a < 6 ∨ (90 ≤ a ∧ a ≠ 100) → K0 a = I a := fun a q => (ke a (by omega)).trans (v2 a (by omega))
    have k2 : K0 2 = I 2 := kf 2 (by omega)
    have hMk : K0 91 = μ := (kf 91 (by omega)).trans hM
    have hKk : MS K0 := by unfold MS at *; rw [kf 90 (by omega)]; exact hK
    refine WP.go 1 ?_
    show WP (Call d) 299 P X (1607, [some (vr (some 2) 102), some (vr (some 3) 9), some (vr (some 90) 10), some (vr (some 100) 13), some (vi i), some (vi 0), x6], [], (K0, H), c + 3, s + 18)
    refine WP.go 16 (Exists.intro (i + 1) (And.intro (wrp_a (by omega) (by omega)) (And.intro (And.intro rfl (And.intro (show 0 ≤ i + 1 from by omega) (show i + 1 < H.2.1 2 from by rw [hl2]; omega))) (Exists.intro (i + 2) (And.intro (wrp_a (by omega) (by omega)) (And.intro (And.intro rfl (And.intro (show 0 ≤ i + 2 from by omega) (show i + 2 < H.2.1 2 from by rw [hl2]; omega))) (Exists.intro (i + 3) (And.intro (wrp_a (by omega) (by omega)) (And.intro (And.intro rfl (And.intro (show 0 ≤ i + 3 from by omega) (show i + 3 < H.2.1 2 from by rw [hl2]; omega))) (?_))))))))))
    show WP (Call d) 299 P X (1623, [some (vr (some 2) 102), some (vr (some 3) 9), some (vr (some 90) 10), some (vr (some 100) 13), some (vi i), some (vi 0), x6], [vi (K0 2 (i + 3)), vi (K0 2 (i + 2)), vi (K0 2 (i + 1)), vr (some 90) 10], (K0, H), c + 3, s + 18)
    rw [k2]
    refine WP.go 1 (And.intro (And.intro (show c + 3 + 0 ≤ 601024 from by omega) (show s + 18 + 0 ≤ 7293034 from by omega)) (And.intro rfl (?_)))
    show Call d 263 [vr (some 90) 10, vi (I 2 (i + 1)), vi (I 2 (i + 2)), vi (I 2 (i + 3))] (K0, H) _ _
    refine s_12_push (by omega) hS hMk hV hKk (fun q => False.elim (by omega)) (fun r0 K r2 r3 => ?_)
    show WP (Call d) 299 P X (1624, [some (vr (some 2) 102), some (vr (some 3) 9), some (vr (some 90) 10), some (vr (some 100) 13), some (vi i), some (vi 0), x6], [vi (fI (fun m => LITp μ (ANG μ ((I 2 (i + 2))) m) (HT μ) ((I 2 (i + 1))) 6 ((I 2 (i + 3)))) 0 49)], (K, H), c + 3 + 0, s + 18 + 0)
    have kk : K 100 = K0 100 := r2.1 100 (by omega)
    have k100 : K 100 0 = fI (fun m => LITp μ (ANG μ ((I 2 (i + 2))) m) (HT μ) ((I 2 (i + 1))) 6 ((I 2 (i + 3)))) 0 49 := by rw [kk, k1]
    rw [hK0] at r2
    refine WP.go 3 (And.intro (And.intro (show c + 3 + 0 + 0 ≤ 601024 from by omega) (show s + 18 + 0 + 0 ≤ 7293034 from by omega)) (And.intro rfl ?_))
    show Call d 176 [vr (some 90) 10] (K, H) _ _
    refine s_12_thrown (by omega) hS ?_
    show WP (Call d) 299 P X (1627, [some (vr (some 2) 102), some (vr (some 3) 9), some (vr (some 90) 10), some (vr (some 100) 13), some (vi i), some (vi 0), some (vi (fI (fun m => LITp μ (ANG μ ((I 2 (i + 2))) m) (HT μ) ((I 2 (i + 1))) 6 ((I 2 (i + 3)))) 0 49))], [vi (K 90 0)], (K, H), c + 3 + 0 + 0, s + 18 + 0 + 0)
    refine WP.go 2 (And.intro (fun _ => ?_) (fun q => absurd r3 q))
    refine WP.go 2 (And.intro (fun q => absurd rfl q) (fun _ => ?_))
    refine WP.go 7 (And.intro (And.intro rfl (And.intro (by decide) (show (0 : Int) < H.2.1 100 from by rw [hl100]; decide))) (And.intro (fun _ => ?_) (fun q => absurd (zcmp_e k100) q)))
    refine WP.go 1 ?_
    show WP (Call d) 299 P X (1689, [some (vr (some 2) 102), some (vr (some 3) 9), some (vr (some 90) 10), some (vr (some 100) 13), some (vi i), some (vi 0), some (vi (fI (fun m => LITp μ (ANG μ ((I 2 (i + 2))) m) (HT μ) ((I 2 (i + 1))) 6 ((I 2 (i + 3)))) 0 49))], [], (K, H), c + 3 + 0 + 0, s + 18 + 0 + 0)
    exact h _ _ _ _ _ _ (hI.q v2 r2) ⟨by omega, by omega⟩
  ·
    show WP (Call d) 299 P X (1606, [some (vr (some 2) 102), some (vr (some 3) 9), some (vr (some 90) 10), some (vr (some 100) 13), some (vi i), x5, x6], [vi 1], (I, H), c + 3, s + 18)
    obtain ⟨K0, hK0⟩ : ∃ K0, K0 = I := ⟨_, rfl⟩
    rw [← hK0]
    have kf : ∀ a, a < 6 ∨ (90 ≤ a ∧ a ≠ 100) → K0 a = I a := fun a q => by rw [hK0]
    have k2 : K0 2 = I 2 := kf 2 (by omega)
    have hMk : K0 91 = μ := (kf 91 (by omega)).trans hM
    have hKk : MS K0 := by unfold MS at *; rw [kf 90 (by omega)]; exact hK
    refine WP.go 1 ?_
    show WP (Call d) 299 P X (1607, [some (vr (some 2) 102), some (vr (some 3) 9), some (vr (some 90) 10), some (vr (some 100) 13), some (vi i), some (vi 1), x6], [], (K0, H), c + 3, s + 18)
    refine WP.go 16 (Exists.intro (i + 1) (And.intro (wrp_a (by omega) (by omega)) (And.intro (And.intro rfl (And.intro (show 0 ≤ i + 1 from by omega) (show i + 1 < H.2.1 2 from by rw [hl2]; omega))) (Exists.intro (i + 2) (And.intro (wrp_a (by omega) (by omega)) (And.intro (And.intro rfl (And.intro (show 0 ≤ i + 2 from by omega) (show i + 2 < H.2.1 2 from by rw [hl2]; omega))) (Exists.intro (i + 3) (And.intro (wrp_a (by omega) (by omega)) (And.intro (And.intro rfl (And.intro (show 0 ≤ i + 3 from by omega) (show i + 3 < H.2.1 2 from by rw [hl2]; omega))) (?_))))))))))
    show WP (Call d) 299 P X (1623, [some (vr (some 2) 102), some (vr (some 3) 9), some (vr (some 90) 10), some (vr (some 100) 13), some (vi i), some (vi 1), x6], [vi (K0 2 (i + 3)), vi (K0 2 (i + 2)), vi (K0 2 (i + 1)), vr (some 90) 10], (K0, H), c + 3, s + 18)
    rw [k2]
    refine WP.go 1 (And.intro (And.intro (show c + 3 + 0 ≤ 601024 from by omega) (show s + 18 + 0 ≤ 7293034 from by omega)) (And.intro rfl (?_)))
    show Call d 263 [vr (some 90) 10, vi (I 2 (i + 1)), vi (I 2 (i + 2)), vi (I 2 (i + 3))] (K0, H) _ _
    refine s_12_push (by omega) hS hMk hV hKk (fun r0 K v r3 r4 r5 => ?_) (fun q => False.elim (by omega))
    show WP (Call d) 299 P X (1624, [some (vr (some 2) 102), some (vr (some 3) 9), some (vr (some 90) 10), some (vr (some 100) 13), some (vi i), some (vi 1), x6], [vi (v)], (K, H), c + 3 + 0, s + 18 + 0)
    rw [hK0] at r4
    refine WP.go 3 (And.intro (And.intro (show c + 3 + 0 + 0 ≤ 601024 from by omega) (show s + 18 + 0 + 0 ≤ 7293034 from by omega)) (And.intro rfl ?_))
    show Call d 176 [vr (some 90) 10] (K, H) _ _
    refine s_12_thrown (by omega) hS ?_
    show WP (Call d) 299 P X (1627, [some (vr (some 2) 102), some (vr (some 3) 9), some (vr (some 90) 10), some (vr (some 100) 13), some (vi i), some (vi 1), some (vi (v))], [vi (K 90 0)], (K, H), c + 3 + 0 + 0, s + 18 + 0 + 0)
    refine WP.go 2 (And.intro (fun _ => ?_) (fun q => absurd r5 q))
    refine WP.go 2 (And.intro (fun _ => ?_) (fun q => absurd q (by decide)))
    refine WP.go 1 ?_
    show WP (Call d) 299 P X (1689, [some (vr (some 2) 102), some (vr (some 3) 9), some (vr (some 90) 10), some (vr (some 100) 13), some (vi i), some (vi 1), some (vi (v))], [], (K, H), c + 3 + 0 + 0, s + 18 + 0 + 0)
    exact h _ _ _ _ _ _ (hI.m (CF.rf I) r4) ⟨by omega, by omega⟩

