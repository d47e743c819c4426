theorem fdT_bd {tb : Int → Int} {n a b c d e : Int} (h : ∀ j, 0 ≤ j → j < n → 0 ≤ tb j ∧ tb j ≤ 255) : ∀ j, 0 ≤ j → j < n + 20 → 0 ≤ fdT tb n a b c d e j ∧ fdT tb n a b c d e j ≤ 255 := fun j q0 q1 => by
  unfold fdT
  split
  · exact byt_bd _ _
  · split
    · exact byt_bd _ _
    · split
      · exact byt_bd _ _
      · split
        · exact byt_bd _ _
        · split
          · exact byt_bd _ _
          · exact h j q0 (by omega)
theorem fdT_cg {tb tc : Int → Int} {n a b c d e : Int} (h : ∀ j, 0 ≤ j → j < n → tb j = tc j) : ∀ j, 0 ≤ j → j < n + 20 → fdT tb n a b c d e j = fdT tc n a b c d e j := fun j q0 q1 => by
  unfold fdT
  split
  · rfl
  · split
    · rfl
    · split
      · rfl
      · split
        · rfl
        · split
          · rfl
          · exact h j q0 (by omega)
theorem LI.f1 {f : Int → Int} {L i : Int} {I J K : qI} {H : qS} {n a b c d e : Int} (h : LI f L i I H) (hn : I 4 1 = n) (j4 : J 4 1 = n + 20) (j5 : J 5 = fdT (I 5) n a b c d e) (jo : ∀ a, a ≠ 4 → a ≠ 5 → J a = I a) (hb : n + 20 ≤ 400) (m : MT J K) (m6 : K 90 6 = n + 20) (m9 : ∀ j, K 94 j = fdT (J 94) n a b c d e j) : LI f L (i + 6) K H := by
  obtain ⟨h1, h2, h3, ⟨h4, h5, h6, h7⟩, ⟨h8, h9⟩, hm, h10, h11, hx, h12⟩ := h
  obtain ⟨m1, m2, m3⟩ := m
  obtain ⟨t1, t2, t3, t4⟩ := h11
  rw [hn] at t1 t2 t3 t4
  have a : ∀ a, a < 4 ∨ (6 ≤ a ∧ a < 90) ∨ a = 91 ∨ a = 92 ∨ a = 95 ∨ 100 ≤ a → K a = I a := fun b q => (m1 b (by omega)).trans (jo b (by omega) (by omega))
  have k9 : ∀ s, s = 3 ∨ s = 10 ∨ s = 17 ∨ (13 ≤ s ∧ s ≤ 15) → K 90 s = I 90 s := fun s q => (m2 s q).trans (by rw [jo 90 (by omega) (by omega)])
  have k4 : K 4 1 = n + 20 := by rw [m1 4 (by omega)]; exact j4
  have k5 : K 5 = _ := (m1 5 (by omega)).trans j5
  refine ⟨h1, h2.fr (a 0 (by omega)) (a 1 (by omega)), ⟨(a 2 (by omega)).trans h3.1, h3.2⟩, ?_, ⟨h8.fr (fun b q1 q2 => a b (by omega)), h9.fr (fun b q1 q2 => a b (by omega))⟩, m3, ?_, ?_, hx.fr (a 95 (by omega)) (fun s q => k9 s (by omega)), by rw [k9 10 (by omega), a 3 (by omega)]; exact h12⟩
  · rw [a 91 (by omega)]
    exact ⟨h4.fr (fun b q1 q2 => a b (by omega)), h5, h6, h7.fr (fun b q1 q2 => a b (by omega)) (fun _ _ _ => rfl) (fun _ _ _ => rfl) (Nat.le_refl _)⟩
  · exact h10.fr (k9 3 (by omega)) (by rw [a 3 (by omega)]) (a 92 (by omega)) (fun b q1 q2 => a b (by omega)) (fun b q1 q2 => a b (by omega)) (fun _ => rfl) (fun _ _ _ => rfl) (Nat.le_refl _)
  · unfold TP
    rw [k4, m6, k5]
    refine ⟨rfl, ⟨by omega, hb⟩, fun j q0 q1 => ?_, fdT_bd t4⟩
    rw [m9 j, jo 94 (by omega) (by omega)]
    exact fdT_cg t3 j q0 q1
theorem LI.e1 {f : Int → Int} {L i : Int} {I J K : qI} {H : qS} {k : Int} (h : LI f L i I H) (hk : 0 ≤ k ∧ k ≤ I 4 1) (j4 : J 4 = fun s => if s = 1 then k else I 4 s) (jo : ∀ a, a ≠ 4 → J a = I a) (m9 : K 90 = fun s => if s = 6 then k else if s = 0 then 0 else J 90 s) (mo : ∀ a, a ≠ 90 → K a = J a) : LI f L (i + 6) K H := by
  obtain ⟨h1, h2, h3, ⟨h4, h5, h6, h7⟩, ⟨h8, h9⟩, hm, h10, h11, hx, h12⟩ := h
  obtain ⟨t1, t2, t3, t4⟩ := h11
  have a : ∀ a, a ≠ 4 → a ≠ 90 → K a = I a := fun b q1 q2 => (mo b q2).trans (jo b q1)
  have k9 : ∀ s, s ≠ 6 → s ≠ 0 → K 90 s = I 90 s := fun s q1 q2 => by rw [m9, ← jo 90 (by omega)]; exact (if_neg q1).trans (if_neg q2)
  have k4 : K 4 1 = k := by rw [mo 4 (by omega), j4]; rfl
  have k6 : K 90 6 = k := by rw [m9]; rfl
  refine ⟨h1, h2.fr (a 0 (by omega) (by omega)) (a 1 (by omega) (by omega)), ⟨(a 2 (by omega) (by omega)).trans h3.1, h3.2⟩, ?_, ⟨h8.fr (fun b q1 q2 => a b (by omega) (by omega)), h9.fr (fun b q1 q2 => a b (by omega) (by omega))⟩, ?_, ?_, ?_, hx.fr (a 95 (by omega) (by omega)) (fun s q => k9 s (by omega) (by omega)), by rw [k9 10 (by omega) (by omega), a 3 (by omega) (by omega)]; exact h12⟩
  · rw [a 91 (by omega) (by omega)]
    exact ⟨h4.fr (fun b q1 q2 => a b (by omega) (by omega)), h5, h6, h7.fr (fun b q1 q2 => a b (by omega) (by omega)) (fun _ _ _ => rfl) (fun _ _ _ => rfl) (Nat.le_refl _)⟩
  · unfold MS at *
    rw [k9 22 (by omega) (by omega), k9 23 (by omega) (by omega), k9 29 (by omega) (by omega), k9 30 (by omega) (by omega)]
    exact hm
  · exact h10.fr (k9 3 (by omega) (by omega)) (by rw [a 3 (by omega) (by omega)]) (a 92 (by omega) (by omega)) (fun b q1 q2 => a b (by omega) (by omega)) (fun b q1 q2 => a b (by omega) (by omega)) (fun _ => rfl) (fun _ _ _ => rfl) (Nat.le_refl _)
  · unfold TP
    rw [k4, k6, a 94 (by omega) (by omega), a 5 (by omega) (by omega)]
    exact ⟨rfl, ⟨hk.1, by omega⟩, fun j q0 q1 => t3 j q0 (by omega), fun j q0 q1 => t4 j q0 (by omega)⟩
theorem MF.z {I K : qI} (hK : MS I) (e : K 90 = fun s => if s = 0 then 0 else I 90 s) (mo : ∀ a, a ≠ 90 → K a = I a) : MF I K := MF.t0 hK e mo
theorem LI.im {f : Int → Int} {L i : Int} {I J K : qI} {H G : qS} (h : LI f L i I H) (c : CPY 48 6 I J) (c1 : ∀ l, 0 ≤ l → l < 6 → G.1 68 l = H.1 26 l) (c2 : ∀ a z, a ≠ 68 → G.1 a z = H.1 a z) (c3 : G.2 = H.2) (c4 : ∀ a, a < 48 ∨ 69 ≤ a → J a = I a)
    (m1 : (∀ a, a < 90 ∨ a = 94 ∨ a = 95 ∨ 100 ≤ a → K a = (upI J 3 10 1) a) ∧ (∀ s, s = 6 ∨ s = 10 ∨ s = 17 ∨ (13 ≤ s ∧ s ≤ 15) → K 90 s = (upI J 3 10 1) 90 s) ∧ MS K) (m2 : K 91 = (upI J 3 10 1) 91) (m3 : ∀ j, 0 ≤ j → j < 2952 → K 92 j = (upI J 3 10 1) 91 j) (m4 : K 90 3 = 1) : LI f L (i + 6) K G := by
  obtain ⟨h1, h2, h3, ⟨h4, h5, h6, h7⟩, ⟨h8, h9⟩, hm, h10, h11, hx, h12⟩ := h
  obtain ⟨m1, m5, m6⟩ := m1
  have n6 := h5.n3
  have g1 : G.2.1 = H.2.1 := by rw [c3]
  have g2 : H.2.2.2 ≤ G.2.2.2 := by rw [c3]; exact Nat.le_refl _
  have b : ∀ a, a ≠ 3 → a < 90 ∨ a = 94 ∨ a = 95 ∨ 100 ≤ a → K a = J a := fun b q1 q2 => (m1 b q2).trans (upI_cell q1)
  have a : ∀ a, a ≠ 3 → a < 48 ∨ (69 ≤ a ∧ a < 90) ∨ a = 94 ∨ a = 95 ∨ 100 ≤ a → K a = I a := fun x q1 q2 => (b x q1 (by omega)).trans (c4 x (by omega))
  have k3 : K 3 = fun j => if j = 10 then 1 else I 3 j := (m1 3 (by omega)).trans (by rw [upI_self, c4 3 (by omega)])
  have k9 : ∀ s, s = 6 ∨ s = 10 ∨ s = 17 ∨ (13 ≤ s ∧ s ≤ 15) → K 90 s = I 90 s := fun s q => (m5 s q).trans (by rw [upI_cell (by omega), c4 90 (by omega)])
  have e1 : K 91 = I 91 := m2.trans ((upI_cell (by omega)).trans (c4 91 (by omega)))
  have e2 : ∀ j, 0 ≤ j → j < 2952 → K 92 j = I 91 j := fun j q0 q1 => (m3 j q0 q1).trans (by rw [upI_cell (by omega), c4 91 (by omega)])
  have l7 : LL 26 K G (I 91) := h7.fr (fun b q1 q2 => a b (by omega) (by omega)) (fun l _ _ => c2 26 l (by omega)) (fun _ _ _ => by rw [g1]) g2
  have l8 : LL 68 K G (I 91) := h7.fr (fun b q1 q2 => a b (by omega) (by omega)) (fun l q0 q1 => c1 l q0 (by omega)) (fun _ _ _ => by rw [g1]) g2
  refine ⟨h1.up (fun a z _ _ q => c2 a z q) c3, h2.fr (a 0 (by omega) (by omega)) (a 1 (by omega) (by omega)), ⟨(a 2 (by omega) (by omega)).trans h3.1, by rw [g1]; exact h3.2⟩, ?_, ⟨h8.fr (fun b q1 q2 => a b (by omega) (by omega)), ?_⟩, m6, ⟨by rw [m4, k3]; rfl, fun _ => ?_⟩, h11.fr (k9 6 (by omega)) (a 4 (by omega) (by omega)) (a 5 (by omega) (by omega)) (a 94 (by omega) (by omega)), hx.fr (a 95 (by omega) (by omega)) (fun s q => k9 s (by omega)), by rw [k9 10 (by omega), k3]; exact h12⟩
  · rw [e1]
    exact ⟨h4.fr (fun b q1 q2 => a b (by omega) (by omega)), h5, h6, l7⟩
  · have t : TR 48 J (I 91) := c.tr h4 h9 h5
    exact t.c.fr (fun x q1 q2 => b x (by omega) (by omega))
  · have t : TR 48 J (I 91) := c.tr h4 h9 h5
    have lw : ∀ j, 0 ≤ j ∧ j < 546 → K 92 j = I 91 j := fun j q => e2 j q.1 (by omega)
    exact ⟨TR_lw (t.fr (fun x q1 q2 => b x (by omega) (by omega))) h5 lw, IM_lw h5 lw, h6.cg n6.2 (fun j q0 q1 => e2 j (by omega) q1) (e2 3 (by omega) (by omega)), l8.cg h6 n6.2 (fun j q0 q1 => e2 j (by omega) q1) (e2 3 (by omega) (by omega))⟩
theorem LI.bk {f : Int → Int} {L i : Int} {I J K : qI} {H G : qS} (h : LI f L i I H) (z : ¬ I 3 10 = 0) (c : CPY 6 48 I J) (c1 : ∀ l, 0 ≤ l → l < 6 → G.1 26 l = H.1 68 l) (c2 : ∀ a z, a ≠ 26 → G.1 a z = H.1 a z) (c3 : G.2 = H.2) (c4 : ∀ a, a < 6 ∨ 27 ≤ a → J a = I a)
    (m1 : (∀ a, a < 90 ∨ a = 92 ∨ a = 94 ∨ a = 95 ∨ 100 ≤ a → K a = J a) ∧ (∀ s, s = 3 ∨ s = 6 ∨ s = 10 ∨ s = 17 ∨ (13 ≤ s ∧ s ≤ 15) → K 90 s = J 90 s) ∧ MS K) (m3 : ∀ j, 0 ≤ j → j < 2952 → K 91 j = J 92 j) : LI f L (i + 6) K G := by
  obtain ⟨h1, h2, h3, ⟨h4, h5, h6, h7⟩, ⟨h8, h9⟩, hm, h10, h11, hx, h12⟩ := h
  obtain ⟨m1, m5, m6⟩ := m1
  obtain ⟨k1, k2⟩ := h10
  obtain ⟨p1, p2, p3, p4⟩ := k2 z
  have n6 := p2.n3
  have g1 : G.2.1 = H.2.1 := by rw [c3]
  have g2 : H.2.2.2 ≤ G.2.2.2 := by rw [c3]; exact Nat.le_refl _
  have a : ∀ a, a < 6 ∨ (27 ≤ a ∧ a < 90) ∨ a = 92 ∨ a = 94 ∨ a = 95 ∨ 100 ≤ a → K a = I a := fun x q => (m1 x (by omega)).trans (c4 x (by omega))
  have k9 : ∀ s, s = 3 ∨ s = 6 ∨ s = 10 ∨ s = 17 ∨ (13 ≤ s ∧ s ≤ 15) → K 90 s = I 90 s := fun s q => (m5 s q).trans (by rw [c4 90 (by omega)])
  have e2 : ∀ j, 0 ≤ j → j < 2952 → K 91 j = I 92 j := fun j q0 q1 => (m3 j q0 q1).trans (by rw [c4 92 (by omega)])
  have lw : ∀ j, 0 ≤ j ∧ j < 546 → K 91 j = I 92 j := fun j q => e2 j q.1 (by omega)
  have t : TR 6 J (I 92) := c.tr p1 h4.c p2
  refine ⟨h1.up (fun a z q _ _ => c2 a z q) c3, h2.fr (a 0 (by omega)) (a 1 (by omega)), ⟨(a 2 (by omega)).trans h3.1, by rw [g1]; exact h3.2⟩, ?_, ⟨h8.fr (fun b q1 q2 => a b (by omega)), h9.fr (fun b q1 q2 => a b (by omega))⟩, m6, ?_, h11.fr (k9 6 (by omega)) (a 4 (by omega)) (a 5 (by omega)) (a 94 (by omega)), hx.fr (a 95 (by omega)) (fun s q => k9 s (by omega)), by rw [k9 10 (by omega), a 3 (by omega)]; exact h12⟩
  · refine ⟨TR_lw (t.fr (fun x q1 q2 => m1 x (by omega))) p2 lw, IM_lw p2 lw, p3.cg n6.2 (fun j q0 q1 => e2 j (by omega) q1) (e2 3 (by omega) (by omega)), ?_⟩
    exact (p4.fr (r' := 26) (fun b q1 q2 => a b (by omega)) (fun l q0 q1 => c1 l q0 (by omega)) (fun _ _ _ => by rw [g1]) g2).cg p3 n6.2 (fun j q0 q1 => e2 j (by omega) q1) (e2 3 (by omega) (by omega))
  · exact KP.fr ⟨k1, k2⟩ (k9 3 (by omega)) (by rw [a 3 (by omega)]) (a 92 (by omega)) (fun b q1 q2 => a b (by omega)) (fun b q1 q2 => a b (by omega)) (fun l => c2 68 l (by omega)) (fun _ _ _ => by rw [g1]) g2
theorem uRope_hi {μ : Int → Int} {y n : Int} (hV : IM μ) (q : (0 ≤ y ∧ y < 100) ∧ 0 ≤ n ∧ n ≤ 20) : (∀ j, 546 ≤ j → uRope μ y n j = μ j) ∧ uRope μ y n 3 = μ 3 := by
  have n1 := hV.n1
  have n4 := hV.n4
  have n5 := hV.n5
  have n6 := hV.n6
  have n7 := hV.n7
  have n8 := hV.n8
  exact ⟨fun j q => uRope_o μ y n j (by omega), uRope_o μ y n 3 (by omega)⟩
theorem uLet_hi {μ : Int → Int} {a b c d : Int} (hV : IM μ) (q : μ 4 < 16) : (∀ j, 546 ≤ j → uLet μ a b c d j = μ j) ∧ uLet μ a b c d 3 = μ 3 := by
  have n1 := hV.n1
  have n4 := hV.n4
  have n5 := hV.n5
  have n6 := hV.n6
  have n7 := hV.n7
  have n8 := hV.n8
  exact ⟨fun j q => uLet_o μ a b c d j (by omega), uLet_o μ a b c d 3 (by omega)⟩
theorem uPro_hi {μ : Int → Int} {a b c : Int} (hV : IM μ) (q : μ 5 < 16) : (∀ j, 546 ≤ j → uPro μ a b c j = μ j) ∧ uPro μ a b c 3 = μ 3 := by
  have n1 := hV.n1
  have n4 := hV.n4
  have n5 := hV.n5
  have n6 := hV.n6
  have n7 := hV.n7
  have n8 := hV.n8
  exact ⟨fun j q => uPro_o μ a b c j (by omega), uPro_o μ a b c 3 (by omega)⟩
theorem uDra_hi {μ : Int → Int} {a b : Int} (hV : IM μ) (q : μ 6 < 8) : (∀ j, 546 ≤ j → uDra μ a b j = μ j) ∧ uDra μ a b 3 = μ 3 := by
  have n1 := hV.n1
  have n4 := hV.n4
  have n5 := hV.n5
  have n6 := hV.n6
  have n7 := hV.n7
  have n8 := hV.n8
  exact ⟨fun j q => uDra_o μ a b j (by omega), uDra_o μ a b 3 (by omega)⟩
theorem uPap_hi {μ : Int → Int} {a b c : Int} (hV : IM μ) (q : μ 7 < 16) : (∀ j, 546 ≤ j → uPap μ a b c j = μ j) ∧ uPap μ a b c 3 = μ 3 := by
  have n1 := hV.n1
  have n4 := hV.n4
  have n5 := hV.n5
  have n6 := hV.n6
  have n7 := hV.n7
  have n8 := hV.n8
  exact ⟨fun j q => uPap_o μ a b c j (by omega), uPap_o μ a b c 3 (by omega)⟩
theorem uWan_hi {μ : Int → Int} {f a b : Int} (hV : IM μ) (q : 0 ≤ f ∧ f < μ 1) : (∀ j, 546 ≤ j → uWan μ f a b j = μ j) ∧ uWan μ f a b 3 = μ 3 := by
  have n1 := hV.n1
  have n4 := hV.n4
  have n5 := hV.n5
  have n6 := hV.n6
  have n7 := hV.n7
  have n8 := hV.n8
  exact ⟨fun j q => uWan_o μ f a b j (by omega), uWan_o μ f a b 3 (by omega)⟩
theorem uBlow_hi {μ : Int → Int} {s : Int} (hV : IM μ)  : (∀ j, 546 ≤ j → uBlow μ s j = μ j) ∧ uBlow μ s 3 = μ 3 := by
  have n1 := hV.n1
  have n4 := hV.n4
  have n5 := hV.n5
  have n6 := hV.n6
  have n7 := hV.n7
  have n8 := hV.n8
  exact ⟨fun j q => uBlow_o μ s j (by omega), uBlow_o μ s 3 (by omega)⟩
theorem uUnd_hi {μ : Int → Int} (hV : IM μ) (q : 1 ≤ μ 8) : (∀ j, 546 ≤ j → uUnd μ j = μ j) ∧ uUnd μ 3 = μ 3 := by
  have n1 := hV.n1
  have n8 := hV.n8
  have u := (und_h hV q).1
  exact ⟨fun j q => uUnd_o μ j (by omega), uUnd_o μ 3 (by omega)⟩
theorem uMov_hi {μ : Int → Int} (hV : IM μ)  : (∀ j, 546 ≤ j → uMov μ j = μ j) ∧ uMov μ 3 = μ 3 := by
  have n1 := hV.n1
  have n8 := hV.n8
  exact ⟨fun j q => uMov_o μ j (by omega), uMov_o μ 3 (by omega)⟩
theorem uBld_hi {μ : Int → Int} {h n : Int} (hV : IM μ) (q : 0 ≤ h ∧ h < μ 1) : (∀ j, 546 ≤ j → uBld μ h n j = μ j) ∧ uBld μ h n 3 = μ 3 := by
  have n1 := hV.n1
  have n4 := hV.n4
  have n5 := hV.n5
  have n6 := hV.n6
  have n7 := hV.n7
  have n8 := hV.n8
  unfold uBld
  split
  · exact ⟨fun j w => uBlB_o (by omega) j (by omega), uBlB_o (by omega) 3 (by omega)⟩
  · exact ⟨fun j w => uBlA_o μ h n j (by omega), uBlA_o μ h n 3 (by omega)⟩
theorem town_hi {tb : Int → Int} {n : Int} {μ : Int → Int} (hV : IM μ) : (∀ j, 546 ≤ j → uTex (lnT tb n (tln tb n) μ).2 j = μ j) ∧ uTex (lnT tb n (tln tb n) μ).2 3 = μ 3 :=
  ⟨fun j q => (uTex_o _ j (by omega)).trans (tln_hq hV j (by omega)), (uTex_o _ 3 (by omega)).trans (tln_3q hV)⟩
