theorem zcmp_e {a b : Int} (h : a = b) : zcmp a b = 0 := by subst h; unfold zcmp; rw [if_neg (by omega), if_pos rfl]
theorem LI.s {f : Int → Int} {L i : Int} {I : qI} {H : qS} (h : LI f L i I H) : LI f L (i + 6) I H := h.qf (fun _ _ => rfl) (fun _ _ => rfl) h.2.2.2.2.2.1 (h.2.2.2.2.2.2.2.2.1.fr rfl (fun _ _ => rfl))
set_option maxRecDepth 20000 in
theorem law_6 {d : Nat} {P : Option qV → qH → Prop} {X : Nat → qH → Prop} {I : qI} {H : qS} {f : Int → Int} {L i : Int} {x5 x6 : Option qV} {c s : Nat} (hd : 100 ≤ d) (hI : LI f L i I H) (hi : 0 ≤ i ∧ i + 6 ≤ L ∧ L ≤ 3072) (hc : (c : Int) ≤ 1000 + 100 * i ∧ (s : Int) ≤ 40000 + 2000 * i) (h : ∀ (K : qI) (G : qS) (y5 y6 : Option qV) (c9 s9 : Nat), LI f L (i + 6) K G → (c9 ≤ c + 90 ∧ s9 ≤ s + 9000) → WP (Call d) 299 P X (1689, [some (vr (some 2) 102), some (vr (some 3) 9), some (vr (some 90) 10), some (vr (some 100) 13), some (vi i), y5, y6], [], (K, G), c9, s9)) :
    WP (Call d) 299 P X (201, [some (vr (some 2) 102), some (vr (some 3) 9), some (vr (some 90) 10), some (vr (some 100) 13), some (vi i), x5, x6], [], (I, H), c, s) := by
  obtain ⟨hS, hX, ⟨hf2, hl2⟩, ⟨hT, hV, hO, hLL⟩, ⟨hC, hC2⟩, hK, hKP, hTP, hFX, h10⟩ := id hI
  have hl100 := hS.l100
  generalize hM : I 91 = μ at *
  refine WP.go 8 (Exists.intro (i + 1) (And.intro (wrp_a (by omega) (by omega)) (And.intro (And.intro rfl (And.intro (show 0 ≤ i + 1 from by omega) (show i + 1 < H.2.1 2 from by rw [hl2]; omega))) (And.intro (And.intro (show c + 1 ≤ 601024 from by omega) (show s + 6 ≤ 7293034 from by omega)) (And.intro rfl (?_))))))
  show Call d 271 [vr (some 3) 9, vi (I 2 (i + 1)), vr (some 100) 13] (I, H) _ _
  refine hl_angle (by omega) hS hX hT hV (fun v1 J v2 => ?_) (fun v1 => ?_)
  ·
    show WP (Call d) 299 P X (209, [some (vr (some 2) 102), some (vr (some 3) 9), some (vr (some 90) 10), some (vr (some 100) 13), some (vi i), x5, x6], [vi 0], (upI J 100 0 (AN μ ((I 2 (i + 1)))), H), c + 1, s + 6)
    obtain ⟨K0, hK0⟩ : ∃ K0, K0 = upI J 100 0 (AN μ ((I 2 (i + 1)))) := ⟨_, rfl⟩
    rw [← hK0]
    have ke : ∀ a, a ≠ 100 → K0 a = J a := fun a q => by rw [hK0]; exact upI_cell q
    have k1 : K0 100 0 = AN μ ((I 2 (i + 1))) := by rw [hK0]; exact upI_same _ _ _ _
    have kf : ∀ a, a < 6 ∨ (90 ≤ a ∧ a ≠ 100) → K0 a = I a := fun a q => (ke a (by omega)).trans (v2 a (by omega))
    have k2 : K0 2 = I 2 := kf 2 (by omega)
    have hMk : K0 91 = μ := (kf 91 (by omega)).trans hM
    have hKk : MS K0 := by unfold MS at *; rw [kf 90 (by omega)]; exact hK
    refine WP.go 1 ?_
    show WP (Call d) 299 P X (210, [some (vr (some 2) 102), some (vr (some 3) 9), some (vr (some 90) 10), some (vr (some 100) 13), some (vi i), some (vi 0), x6], [], (K0, H), c + 1, s + 6)
    refine WP.go 6 (Exists.intro (i + 1) (And.intro (wrp_a (by omega) (by omega)) (And.intro (And.intro rfl (And.intro (show 0 ≤ i + 1 from by omega) (show i + 1 < H.2.1 2 from by rw [hl2]; omega))) (?_))))
    show WP (Call d) 299 P X (216, [some (vr (some 2) 102), some (vr (some 3) 9), some (vr (some 90) 10), some (vr (some 100) 13), some (vi i), some (vi 0), x6], [vi (K0 2 (i + 1)), vr (some 90) 10], (K0, H), c + 1, s + 6)
    rw [k2]
    refine WP.go 1 (And.intro (And.intro (show c + 1 + 0 ≤ 601024 from by omega) (show s + 6 + 0 ≤ 7293034 from by omega)) (And.intro rfl (?_)))
    show Call d 211 [vr (some 90) 10, vi (I 2 (i + 1))] (K0, H) _ _
    refine s_12_angle (by omega) hS hMk hV hKk (fun q => False.elim (by omega)) (fun r0 K r2 r3 => ?_)
    show WP (Call d) 299 P X (217, [some (vr (some 2) 102), some (vr (some 3) 9), some (vr (some 90) 10), some (vr (some 100) 13), some (vi i), some (vi 0), x6], [vi (AN μ ((I 2 (i + 1))))], (K, H), c + 1 + 0, s + 6 + 0)
    have kk : K 100 = K0 100 := r2.1 100 (by omega)
    have k100 : K 100 0 = AN μ ((I 2 (i + 1))) := by rw [kk, k1]
    rw [hK0] at r2
    refine WP.go 3 (And.intro (And.intro (show c + 1 + 0 + 0 ≤ 601024 from by omega) (show s + 6 + 0 + 0 ≤ 7293034 from by omega)) (And.intro rfl ?_))
    show Call d 176 [vr (some 90) 10] (K, H) _ _
    refine s_12_thrown (by omega) hS ?_
    show WP (Call d) 299 P X (220, [some (vr (some 2) 102), some (vr (some 3) 9), some (vr (some 90) 10), some (vr (some 100) 13), some (vi i), some (vi 0), some (vi (AN μ ((I 2 (i + 1)))))], [vi (K 90 0)], (K, H), c + 1 + 0 + 0, s + 6 + 0 + 0)
    refine WP.go 2 (And.intro (fun _ => ?_) (fun q => absurd r3 q))
    refine WP.go 2 (And.intro (fun q => absurd rfl q) (fun _ => ?_))
    refine WP.go 7 (And.intro (And.intro rfl (And.intro (by decide) (show (0 : Int) < H.2.1 100 from by rw [hl100]; decide))) (And.intro (fun _ => ?_) (fun q => absurd (zcmp_e k100) q)))
    refine WP.go 1 ?_
    show WP (Call d) 299 P X (1689, [some (vr (some 2) 102), some (vr (some 3) 9), some (vr (some 90) 10), some (vr (some 100) 13), some (vi i), some (vi 0), some (vi (AN μ ((I 2 (i + 1)))))], [], (K, H), c + 1 + 0 + 0, s + 6 + 0 + 0)
    exact h _ _ _ _ _ _ (hI.q v2 r2) ⟨by omega, by omega⟩
  ·
    show WP (Call d) 299 P X (209, [some (vr (some 2) 102), some (vr (some 3) 9), some (vr (some 90) 10), some (vr (some 100) 13), some (vi i), x5, x6], [vi 1], (I, H), c + 1, s + 6)
    obtain ⟨K0, hK0⟩ : ∃ K0, K0 = I := ⟨_, rfl⟩
    rw [← hK0]
    have kf : ∀ a, a < 6 ∨ (90 ≤ a ∧ a ≠ 100) → K0 a = I a := fun a q => by rw [hK0]
    have k2 : K0 2 = I 2 := kf 2 (by omega)
    have hMk : K0 91 = μ := (kf 91 (by omega)).trans hM
    have hKk : MS K0 := by unfold MS at *; rw [kf 90 (by omega)]; exact hK
    refine WP.go 1 ?_
    show WP (Call d) 299 P X (210, [some (vr (some 2) 102), some (vr (some 3) 9), some (vr (some 90) 10), some (vr (some 100) 13), some (vi i), some (vi 1), x6], [], (K0, H), c + 1, s + 6)
    refine WP.go 6 (Exists.intro (i + 1) (And.intro (wrp_a (by omega) (by omega)) (And.intro (And.intro rfl (And.intro (show 0 ≤ i + 1 from by omega) (show i + 1 < H.2.1 2 from by rw [hl2]; omega))) (?_))))
    show WP (Call d) 299 P X (216, [some (vr (some 2) 102), some (vr (some 3) 9), some (vr (some 90) 10), some (vr (some 100) 13), some (vi i), some (vi 1), x6], [vi (K0 2 (i + 1)), vr (some 90) 10], (K0, H), c + 1, s + 6)
    rw [k2]
    refine WP.go 1 (And.intro (And.intro (show c + 1 + 0 ≤ 601024 from by omega) (show s + 6 + 0 ≤ 7293034 from by omega)) (And.intro rfl (?_)))
    show Call d 211 [vr (some 90) 10, vi (I 2 (i + 1))] (K0, H) _ _
    refine s_12_angle (by omega) hS hMk hV hKk (fun r0 K v r3 r4 r5 => ?_) (fun q => False.elim (by omega))
    show WP (Call d) 299 P X (217, [some (vr (some 2) 102), some (vr (some 3) 9), some (vr (some 90) 10), some (vr (some 100) 13), some (vi i), some (vi 1), x6], [vi (v)], (K, H), c + 1 + 0, s + 6 + 0)
    rw [hK0] at r4
    refine WP.go 3 (And.intro (And.intro (show c + 1 + 0 + 0 ≤ 601024 from by omega) (show s + 6 + 0 + 0 ≤ 7293034 from by omega)) (And.intro rfl ?_))
    show Call d 176 [vr (some 90) 10] (K, H) _ _
    refine s_12_thrown (by omega) hS ?_
    show WP (Call d) 299 P X (220, [some (vr (some 2) 102), some (vr (some 3) 9), some (vr (some 90) 10), some (vr (some 100) 13), some (vi i), some (vi 1), some (vi (v))], [vi (K 90 0)], (K, H), c + 1 + 0 + 0, s + 6 + 0 + 0)
    refine WP.go 2 (And.intro (fun _ => ?_) (fun q => absurd r5 q))
    refine WP.go 2 (And.intro (fun _ => ?_) (fun q => absurd q (by decide)))
    refine WP.go 1 ?_
    show WP (Call d) 299 P X (1689, [some (vr (some 2) 102), some (vr (some 3) 9), some (vr (some 90) 10), some (vr (some 100) 13), some (vi i), some (vi 1), some (vi (v))], [], (K, H), c + 1 + 0 + 0, s + 6 + 0 + 0)
    exact h _ _ _ _ _ _ (hI.m (CF.rf I) r4) ⟨by omega, by omega⟩

