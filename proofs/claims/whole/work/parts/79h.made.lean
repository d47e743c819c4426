def k11 (n : Nat) (_x0 : Nat) (g : qH) : qH := (gS 3 11 (-1) (gS 3 10 0 (gR 3 9 85 (k2 83 85 6 79 (gN 82 0 2 (gR 3 8 82 (k1 80 82 (gN 79 0 1 (gR 3 7 79 (k0 77 79 6 (gN 76 0 0 (gR 3 3 76 (k10 74 76 (gN 73 0 8 (gR 3 2 72 (k3 70 72 (gN 69 0 3 (gR 3 1 69 (k9 67 69 27 (gN 66 0 7 (gR 3 6 48 (k8 46 48 (gN 45 0 6 (gR 3 5 27 (k8 25 27 (gN 24 0 6 (gR 3 4 6 (k8 4 6 (gN 3 0 6 (gR 3 0 4 (k6 2 4 (gN 1 0 5 g))))))))))))))))))))))))))))))))
set_option maxRecDepth 20000 in
theorem c_11 {d : Nat} {P : Option qV → qH → Prop} {X : Nat → qH → Prop} {g : qH} (hd : 3 ≤ d) (hn : g.2.2.2.2 = 1) (h : P none (k11 1 3 g)) :
    Call d 115 [vr (some 3) 9] g P X := by
  obtain ⟨d, rfl⟩ : ∃ e, d = e + 1 := ⟨d - 1, by omega⟩
  obtain ⟨I, R, Ln, K, m⟩ := g
  have hn : 1 = m := hn.symm
  subst hn
  show WP (Call d) 115 P X (0, [some (vr (some 3) 9)], [], (I, (R, Ln, K, 1)), 0, 0)
  refine WP.go 4 (And.intro (And.intro (show 1 ≤ 86 from by decide) (show 2 ≤ 12000 from by decide)) (?_))
  show WP (Call d) 115 P X (4, [some (vr (some 3) 9)], [vr (some 4) 5, vr (some 3) 9], (gN 1 0 5 (I, (R, Ln, K, 1))), 1, 2)
  refine WP.go 2 (And.intro (And.intro (show 2 ≤ 86 from by decide) (show 402 ≤ 12000 from by decide)) (And.intro rfl (?_)))
  show Call d 64 [vr (some 4) 5] (gN 1 0 5 (I, (R, Ln, K, 1))) _ _
  refine c_6 (n := 2) (by omega) rfl ?_
  show WP (Call d) 115 P X (6, [some (vr (some 3) 9)], [vr (some 4) 5, vr (some 3) 9], (k6 2 4 (gN 1 0 5 (I, (R, Ln, K, 1)))), 2, 402)
  refine WP.go 3 (And.intro (And.intro rfl rfl) (And.intro (And.intro (show 3 ≤ 86 from by decide) (show 416 ≤ 12000 from by decide)) (?_)))
  show WP (Call d) 115 P X (9, [some (vr (some 3) 9)], [vr (some 6) 6, vr (some 3) 9], (gN 3 0 6 (gR 3 0 4 (k6 2 4 (gN 1 0 5 (I, (R, Ln, K, 1)))))), 3, 416)
  refine WP.go 2 (And.intro (And.intro (show 23 ≤ 86 from by decide) (show 1416 ≤ 12000 from by decide)) (And.intro rfl (?_)))
  show Call d 83 [vr (some 6) 6] (gN 3 0 6 (gR 3 0 4 (k6 2 4 (gN 1 0 5 (I, (R, Ln, K, 1)))))) _ _
  refine c_8 (n := 4) (by omega) rfl ?_
  show WP (Call d) 115 P X (11, [some (vr (some 3) 9)], [vr (some 6) 6, vr (some 3) 9], (k8 4 6 (gN 3 0 6 (gR 3 0 4 (k6 2 4 (gN 1 0 5 (I, (R, Ln, K, 1))))))), 23, 1416)
  refine WP.go 3 (And.intro (And.intro rfl rfl) (And.intro (And.intro (show 24 ≤ 86 from by decide) (show 1430 ≤ 12000 from by decide)) (?_)))
  show WP (Call d) 115 P X (14, [some (vr (some 3) 9)], [vr (some 27) 6, vr (some 3) 9], (gN 24 0 6 (gR 3 4 6 (k8 4 6 (gN 3 0 6 (gR 3 0 4 (k6 2 4 (gN 1 0 5 (I, (R, Ln, K, 1))))))))), 24, 1430)
  refine WP.go 2 (And.intro (And.intro (show 44 ≤ 86 from by decide) (show 2430 ≤ 12000 from by decide)) (And.intro rfl (?_)))
  show Call d 83 [vr (some 27) 6] (gN 24 0 6 (gR 3 4 6 (k8 4 6 (gN 3 0 6 (gR 3 0 4 (k6 2 4 (gN 1 0 5 (I, (R, Ln, K, 1))))))))) _ _
  refine c_8 (n := 25) (by omega) rfl ?_
  show WP (Call d) 115 P X (16, [some (vr (some 3) 9)], [vr (some 27) 6, vr (some 3) 9], (k8 25 27 (gN 24 0 6 (gR 3 4 6 (k8 4 6 (gN 3 0 6 (gR 3 0 4 (k6 2 4 (gN 1 0 5 (I, (R, Ln, K, 1)))))))))), 44, 2430)
  refine WP.go 3 (And.intro (And.intro rfl rfl) (And.intro (And.intro (show 45 ≤ 86 from by decide) (show 2444 ≤ 12000 from by decide)) (?_)))
  show WP (Call d) 115 P X (19, [some (vr (some 3) 9)], [vr (some 48) 6, vr (some 3) 9], (gN 45 0 6 (gR 3 5 27 (k8 25 27 (gN 24 0 6 (gR 3 4 6 (k8 4 6 (gN 3 0 6 (gR 3 0 4 (k6 2 4 (gN 1 0 5 (I, (R, Ln, K, 1)))))))))))), 45, 2444)
  refine WP.go 2 (And.intro (And.intro (show 65 ≤ 86 from by decide) (show 3444 ≤ 12000 from by decide)) (And.intro rfl (?_)))
  show Call d 83 [vr (some 48) 6] (gN 45 0 6 (gR 3 5 27 (k8 25 27 (gN 24 0 6 (gR 3 4 6 (k8 4 6 (gN 3 0 6 (gR 3 0 4 (k6 2 4 (gN 1 0 5 (I, (R, Ln, K, 1)))))))))))) _ _
  refine c_8 (n := 46) (by omega) rfl ?_
  show WP (Call d) 115 P X (21, [some (vr (some 3) 9)], [vr (some 48) 6, vr (some 3) 9], (k8 46 48 (gN 45 0 6 (gR 3 5 27 (k8 25 27 (gN 24 0 6 (gR 3 4 6 (k8 4 6 (gN 3 0 6 (gR 3 0 4 (k6 2 4 (gN 1 0 5 (I, (R, Ln, K, 1))))))))))))), 65, 3444)
  refine WP.go 3 (And.intro (And.intro rfl rfl) (And.intro (And.intro (show 66 ≤ 86 from by decide) (show 3449 ≤ 12000 from by decide)) (?_)))
  show WP (Call d) 115 P X (24, [some (vr (some 3) 9)], [vr (some 69) 7, vr (some 3) 9], (gN 66 0 7 (gR 3 6 48 (k8 46 48 (gN 45 0 6 (gR 3 5 27 (k8 25 27 (gN 24 0 6 (gR 3 4 6 (k8 4 6 (gN 3 0 6 (gR 3 0 4 (k6 2 4 (gN 1 0 5 (I, (R, Ln, K, 1))))))))))))))), 66, 3449)
  refine WP.go 4 (And.intro rfl (Exists.intro 27 (And.intro rfl (And.intro (And.intro (show 68 ≤ 86 from by decide) (show 4349 ≤ 12000 from by decide)) (And.intro rfl (?_))))))
  show Call d 105 [vr (some 69) 7, vr (some 27) 6] (gN 66 0 7 (gR 3 6 48 (k8 46 48 (gN 45 0 6 (gR 3 5 27 (k8 25 27 (gN 24 0 6 (gR 3 4 6 (k8 4 6 (gN 3 0 6 (gR 3 0 4 (k6 2 4 (gN 1 0 5 (I, (R, Ln, K, 1))))))))))))))) _ _
  refine c_9 (n := 67) (by omega) rfl ?_
  show WP (Call d) 115 P X (28, [some (vr (some 3) 9)], [vr (some 69) 7, vr (some 3) 9], (k9 67 69 27 (gN 66 0 7 (gR 3 6 48 (k8 46 48 (gN 45 0 6 (gR 3 5 27 (k8 25 27 (gN 24 0 6 (gR 3 4 6 (k8 4 6 (gN 3 0 6 (gR 3 0 4 (k6 2 4 (gN 1 0 5 (I, (R, Ln, K, 1)))))))))))))))), 68, 4349)
  refine WP.go 3 (And.intro (And.intro rfl rfl) (And.intro (And.intro (show 69 ≤ 86 from by decide) (show 4355 ≤ 12000 from by decide)) (?_)))
  show WP (Call d) 115 P X (31, [some (vr (some 3) 9)], [vr (some 72) 3, vr (some 3) 9], (gN 69 0 3 (gR 3 1 69 (k9 67 69 27 (gN 66 0 7 (gR 3 6 48 (k8 46 48 (gN 45 0 6 (gR 3 5 27 (k8 25 27 (gN 24 0 6 (gR 3 4 6 (k8 4 6 (gN 3 0 6 (gR 3 0 4 (k6 2 4 (gN 1 0 5 (I, (R, Ln, K, 1)))))))))))))))))), 69, 4355)
  refine WP.go 2 (And.intro (And.intro (show 72 ≤ 86 from by decide) (show 6155 ≤ 12000 from by decide)) (And.intro rfl (?_)))
  show Call d 37 [vr (some 72) 3] (gN 69 0 3 (gR 3 1 69 (k9 67 69 27 (gN 66 0 7 (gR 3 6 48 (k8 46 48 (gN 45 0 6 (gR 3 5 27 (k8 25 27 (gN 24 0 6 (gR 3 4 6 (k8 4 6 (gN 3 0 6 (gR 3 0 4 (k6 2 4 (gN 1 0 5 (I, (R, Ln, K, 1)))))))))))))))))) _ _
  refine c_3 (n := 70) (by omega) rfl ?_
  show WP (Call d) 115 P X (33, [some (vr (some 3) 9)], [vr (some 72) 3, vr (some 3) 9], (k3 70 72 (gN 69 0 3 (gR 3 1 69 (k9 67 69 27 (gN 66 0 7 (gR 3 6 48 (k8 46 48 (gN 45 0 6 (gR 3 5 27 (k8 25 27 (gN 24 0 6 (gR 3 4 6 (k8 4 6 (gN 3 0 6 (gR 3 0 4 (k6 2 4 (gN 1 0 5 (I, (R, Ln, K, 1))))))))))))))))))), 72, 6155)
  refine WP.go 3 (And.intro (And.intro rfl rfl) (And.intro (And.intro (show 73 ≤ 86 from by decide) (show 6161 ≤ 12000 from by decide)) (?_)))
  show WP (Call d) 115 P X (36, [some (vr (some 3) 9)], [vr (some 76) 8, vr (some 3) 9], (gN 73 0 8 (gR 3 2 72 (k3 70 72 (gN 69 0 3 (gR 3 1 69 (k9 67 69 27 (gN 66 0 7 (gR 3 6 48 (k8 46 48 (gN 45 0 6 (gR 3 5 27 (k8 25 27 (gN 24 0 6 (gR 3 4 6 (k8 4 6 (gN 3 0 6 (gR 3 0 4 (k6 2 4 (gN 1 0 5 (I, (R, Ln, K, 1))))))))))))))))))))), 73, 6161)
  refine WP.go 2 (And.intro (And.intro (show 75 ≤ 86 from by decide) (show 7061 ≤ 12000 from by decide)) (And.intro rfl (?_)))
  show Call d 111 [vr (some 76) 8] (gN 73 0 8 (gR 3 2 72 (k3 70 72 (gN 69 0 3 (gR 3 1 69 (k9 67 69 27 (gN 66 0 7 (gR 3 6 48 (k8 46 48 (gN 45 0 6 (gR 3 5 27 (k8 25 27 (gN 24 0 6 (gR 3 4 6 (k8 4 6 (gN 3 0 6 (gR 3 0 4 (k6 2 4 (gN 1 0 5 (I, (R, Ln, K, 1))))))))))))))))))))) _ _
  refine c_10 (n := 74) (by omega) rfl ?_
  show WP (Call d) 115 P X (38, [some (vr (some 3) 9)], [vr (some 76) 8, vr (some 3) 9], (k10 74 76 (gN 73 0 8 (gR 3 2 72 (k3 70 72 (gN 69 0 3 (gR 3 1 69 (k9 67 69 27 (gN 66 0 7 (gR 3 6 48 (k8 46 48 (gN 45 0 6 (gR 3 5 27 (k8 25 27 (gN 24 0 6 (gR 3 4 6 (k8 4 6 (gN 3 0 6 (gR 3 0 4 (k6 2 4 (gN 1 0 5 (I, (R, Ln, K, 1)))))))))))))))))))))), 75, 7061)
  refine WP.go 3 (And.intro (And.intro rfl rfl) (And.intro (And.intro (show 76 ≤ 86 from by decide) (show 7064 ≤ 12000 from by decide)) (?_)))
  show WP (Call d) 115 P X (41, [some (vr (some 3) 9)], [vr (some 79) 0, vr (some 3) 9], (gN 76 0 0 (gR 3 3 76 (k10 74 76 (gN 73 0 8 (gR 3 2 72 (k3 70 72 (gN 69 0 3 (gR 3 1 69 (k9 67 69 27 (gN 66 0 7 (gR 3 6 48 (k8 46 48 (gN 45 0 6 (gR 3 5 27 (k8 25 27 (gN 24 0 6 (gR 3 4 6 (k8 4 6 (gN 3 0 6 (gR 3 0 4 (k6 2 4 (gN 1 0 5 (I, (R, Ln, K, 1)))))))))))))))))))))))), 76, 7064)
  refine WP.go 4 (And.intro rfl (Exists.intro 6 (And.intro rfl (And.intro (And.intro (show 78 ≤ 86 from by decide) (show 7264 ≤ 12000 from by decide)) (And.intro rfl (?_))))))
  show Call d 0 [vr (some 79) 0, vr (some 6) 6] (gN 76 0 0 (gR 3 3 76 (k10 74 76 (gN 73 0 8 (gR 3 2 72 (k3 70 72 (gN 69 0 3 (gR 3 1 69 (k9 67 69 27 (gN 66 0 7 (gR 3 6 48 (k8 46 48 (gN 45 0 6 (gR 3 5 27 (k8 25 27 (gN 24 0 6 (gR 3 4 6 (k8 4 6 (gN 3 0 6 (gR 3 0 4 (k6 2 4 (gN 1 0 5 (I, (R, Ln, K, 1)))))))))))))))))))))))) _ _
  refine c_0 (n := 77) (by omega) rfl ?_
  show WP (Call d) 115 P X (45, [some (vr (some 3) 9)], [vr (some 79) 0, vr (some 3) 9], (k0 77 79 6 (gN 76 0 0 (gR 3 3 76 (k10 74 76 (gN 73 0 8 (gR 3 2 72 (k3 70 72 (gN 69 0 3 (gR 3 1 69 (k9 67 69 27 (gN 66 0 7 (gR 3 6 48 (k8 46 48 (gN 45 0 6 (gR 3 5 27 (k8 25 27 (gN 24 0 6 (gR 3 4 6 (k8 4 6 (gN 3 0 6 (gR 3 0 4 (k6 2 4 (gN 1 0 5 (I, (R, Ln, K, 1))))))))))))))))))))))))), 78, 7264)
  refine WP.go 3 (And.intro (And.intro rfl rfl) (And.intro (And.intro (show 79 ≤ 86 from by decide) (show 7269 ≤ 12000 from by decide)) (?_)))
  show WP (Call d) 115 P X (48, [some (vr (some 3) 9)], [vr (some 82) 1, vr (some 3) 9], (gN 79 0 1 (gR 3 7 79 (k0 77 79 6 (gN 76 0 0 (gR 3 3 76 (k10 74 76 (gN 73 0 8 (gR 3 2 72 (k3 70 72 (gN 69 0 3 (gR 3 1 69 (k9 67 69 27 (gN 66 0 7 (gR 3 6 48 (k8 46 48 (gN 45 0 6 (gR 3 5 27 (k8 25 27 (gN 24 0 6 (gR 3 4 6 (k8 4 6 (gN 3 0 6 (gR 3 0 4 (k6 2 4 (gN 1 0 5 (I, (R, Ln, K, 1))))))))))))))))))))))))))), 79, 7269)
  refine WP.go 2 (And.intro (And.intro (show 81 ≤ 86 from by decide) (show 7369 ≤ 12000 from by decide)) (And.intro rfl (?_)))
  show Call d 20 [vr (some 82) 1] (gN 79 0 1 (gR 3 7 79 (k0 77 79 6 (gN 76 0 0 (gR 3 3 76 (k10 74 76 (gN 73 0 8 (gR 3 2 72 (k3 70 72 (gN 69 0 3 (gR 3 1 69 (k9 67 69 27 (gN 66 0 7 (gR 3 6 48 (k8 46 48 (gN 45 0 6 (gR 3 5 27 (k8 25 27 (gN 24 0 6 (gR 3 4 6 (k8 4 6 (gN 3 0 6 (gR 3 0 4 (k6 2 4 (gN 1 0 5 (I, (R, Ln, K, 1))))))))))))))))))))))))))) _ _
  refine c_1 (n := 80) (by omega) rfl ?_
  show WP (Call d) 115 P X (50, [some (vr (some 3) 9)], [vr (some 82) 1, vr (some 3) 9], (k1 80 82 (gN 79 0 1 (gR 3 7 79 (k0 77 79 6 (gN 76 0 0 (gR 3 3 76 (k10 74 76 (gN 73 0 8 (gR 3 2 72 (k3 70 72 (gN 69 0 3 (gR 3 1 69 (k9 67 69 27 (gN 66 0 7 (gR 3 6 48 (k8 46 48 (gN 45 0 6 (gR 3 5 27 (k8 25 27 (gN 24 0 6 (gR 3 4 6 (k8 4 6 (gN 3 0 6 (gR 3 0 4 (k6 2 4 (gN 1 0 5 (I, (R, Ln, K, 1)))))))))))))))))))))))))))), 81, 7369)
  refine WP.go 3 (And.intro (And.intro rfl rfl) (And.intro (And.intro (show 82 ≤ 86 from by decide) (show 7377 ≤ 12000 from by decide)) (?_)))
  show WP (Call d) 115 P X (53, [some (vr (some 3) 9)], [vr (some 85) 2, vr (some 3) 9], (gN 82 0 2 (gR 3 8 82 (k1 80 82 (gN 79 0 1 (gR 3 7 79 (k0 77 79 6 (gN 76 0 0 (gR 3 3 76 (k10 74 76 (gN 73 0 8 (gR 3 2 72 (k3 70 72 (gN 69 0 3 (gR 3 1 69 (k9 67 69 27 (gN 66 0 7 (gR 3 6 48 (k8 46 48 (gN 45 0 6 (gR 3 5 27 (k8 25 27 (gN 24 0 6 (gR 3 4 6 (k8 4 6 (gN 3 0 6 (gR 3 0 4 (k6 2 4 (gN 1 0 5 (I, (R, Ln, K, 1)))))))))))))))))))))))))))))), 82, 7377)
  refine WP.go 6 (And.intro rfl (Exists.intro 6 (And.intro rfl (And.intro rfl (Exists.intro 79 (And.intro rfl (And.intro (And.intro (show 86 ≤ 86 from by decide) (show 7577 ≤ 12000 from by decide)) (And.intro rfl (?_)))))))))
  show Call d 27 [vr (some 85) 2, vr (some 6) 6, vr (some 79) 0] (gN 82 0 2 (gR 3 8 82 (k1 80 82 (gN 79 0 1 (gR 3 7 79 (k0 77 79 6 (gN 76 0 0 (gR 3 3 76 (k10 74 76 (gN 73 0 8 (gR 3 2 72 (k3 70 72 (gN 69 0 3 (gR 3 1 69 (k9 67 69 27 (gN 66 0 7 (gR 3 6 48 (k8 46 48 (gN 45 0 6 (gR 3 5 27 (k8 25 27 (gN 24 0 6 (gR 3 4 6 (k8 4 6 (gN 3 0 6 (gR 3 0 4 (k6 2 4 (gN 1 0 5 (I, (R, Ln, K, 1)))))))))))))))))))))))))))))) _ _
  refine c_2 (n := 83) (by omega) rfl ?_
  show WP (Call d) 115 P X (59, [some (vr (some 3) 9)], [vr (some 85) 2, vr (some 3) 9], (k2 83 85 6 79 (gN 82 0 2 (gR 3 8 82 (k1 80 82 (gN 79 0 1 (gR 3 7 79 (k0 77 79 6 (gN 76 0 0 (gR 3 3 76 (k10 74 76 (gN 73 0 8 (gR 3 2 72 (k3 70 72 (gN 69 0 3 (gR 3 1 69 (k9 67 69 27 (gN 66 0 7 (gR 3 6 48 (k8 46 48 (gN 45 0 6 (gR 3 5 27 (k8 25 27 (gN 24 0 6 (gR 3 4 6 (k8 4 6 (gN 3 0 6 (gR 3 0 4 (k6 2 4 (gN 1 0 5 (I, (R, Ln, K, 1))))))))))))))))))))))))))))))), 86, 7577)
  refine WP.go 8 (And.intro (And.intro rfl rfl) (And.intro (And.intro rfl (Or.inl rfl)) (And.intro (And.intro rfl trivial) (And.intro (And.intro (show 86 ≤ 86 from by decide) (show 7577 ≤ 12000 from by decide)) (?_)))))
  exact h
theorem k11_ag {g h : qH} (q : AG g h) : AG (k11 1 3 g) (k11 1 3 h) := by
  unfold k11
  repeat first | exact q | apply gS_ag | apply gR_ag | apply gN_ag | apply k0_ag | apply k1_ag | apply k2_ag | apply k7_3_ag | apply k7_7_ag | apply k7_8_ag | apply k6_ag | apply k8_ag | apply k3_ag | apply k9_ag | apply k10_ag | (unfold k5)
theorem k11_s2 {g h : qH} (q : SC2 g h) : SC2 g (k11 1 3 h) := by
  unfold k11
  repeat first | exact q | refine gS_s2 ?_ (by omega) | refine gR_s2 ?_ | refine gN_s2 ?_ | refine k5_s2 ?_ (by omega) | refine k0_s2 ?_ (by omega) (by omega) | refine k1_s2 ?_ (by omega) | refine k2_s2 ?_ (by omega) (by omega) (by omega) | refine k7_3_s2 ?_ (by omega) | refine k7_7_s2 ?_ (by omega) | refine k7_8_s2 ?_ (by omega) | refine k6_s2 ?_ (by omega) | refine k8_s2 ?_ (by omega) | refine k3_s2 ?_ (by omega) | refine k9_s2 ?_ (by omega) (by omega) | refine k10_s2 ?_ (by omega)
def k12 (n : Nat) (_x0 : Nat) (g : qH) : qH := (gS 91 13 72 (gS 91 12 48 (gS 91 11 (-1) (gS 91 10 3 (gR 90 31 99 (gN 96 100 11 (gS 90 29 (-1) (gR 90 26 98 (gN 95 10 11 (gR 90 25 97 (gN 94 10 11 (gR 90 24 96 (gN 93 100 11 (gS 90 22 (-1) (gR 90 12 95 (gN 92 5 11 (gS 90 10 (-1) (gR 90 5 94 (gN 91 400 11 (gR 90 4 93 (gN 90 230 11 (gR 90 2 92 (gN 89 2952 11 (gR 90 1 91 (gN 88 2952 11 g)))))))))))))))))))))))))
set_option maxRecDepth 20000 in
theorem c_12 {d : Nat} {P : Option qV → qH → Prop} {X : Nat → qH → Prop} {g : qH} (hd : 1 ≤ d) (hn : g.2.2.2.2 = 88) (h : P none (k12 88 90 g)) :
    Call d 175 [vr (some 90) 10] g P X := by
  obtain ⟨d, rfl⟩ : ∃ e, d = e + 1 := ⟨d - 1, by omega⟩
  obtain ⟨I, R, Ln, K, m⟩ := g
  have hn : 88 = m := hn.symm
  subst hn
  show WP (Call d) 175 P X (0, [some (vr (some 90) 10)], [], (I, (R, Ln, K, 88)), 0, 0)
  refine WP.go 5 (And.intro (And.intro (And.intro (by decide) (by decide)) (And.intro (show 1 ≤ 9 from by decide) (show 2952 ≤ 16000 from by decide))) (?_))
  show WP (Call d) 175 P X (5, [some (vr (some 90) 10)], [vr (some 91) 11, vr (some 90) 10], (gN 88 2952 11 (I, (R, Ln, K, 88))), 1, 2952)
  refine WP.go 4 (And.intro (And.intro rfl rfl) (And.intro (And.intro (And.intro (by decide) (by decide)) (And.intro (show 2 ≤ 9 from by decide) (show 5904 ≤ 16000 from by decide))) (?_)))
  show WP (Call d) 175 P X (9, [some (vr (some 90) 10)], [vr (some 92) 11, vr (some 90) 10], (gN 89 2952 11 (gR 90 1 91 (gN 88 2952 11 (I, (R, Ln, K, 88))))), 2, 5904)
  refine WP.go 4 (And.intro (And.intro rfl rfl) (And.intro (And.intro (And.intro (by decide) (by decide)) (And.intro (show 3 ≤ 9 from by decide) (show 6134 ≤ 16000 from by decide))) (?_)))
  show WP (Call d) 175 P X (13, [some (vr (some 90) 10)], [vr (some 93) 11, vr (some 90) 10], (gN 90 230 11 (gR 90 2 92 (gN 89 2952 11 (gR 90 1 91 (gN 88 2952 11 (I, (R, Ln, K, 88))))))), 3, 6134)
  refine WP.go 4 (And.intro (And.intro rfl rfl) (And.intro (And.intro (And.intro (by decide) (by decide)) (And.intro (show 4 ≤ 9 from by decide) (show 6534 ≤ 16000 from by decide))) (?_)))
  show WP (Call d) 175 P X (17, [some (vr (some 90) 10)], [vr (some 94) 11, vr (some 90) 10], (gN 91 400 11 (gR 90 4 93 (gN 90 230 11 (gR 90 2 92 (gN 89 2952 11 (gR 90 1 91 (gN 88 2952 11 (I, (R, Ln, K, 88))))))))), 4, 6534)
  refine WP.go 7 (And.intro (And.intro rfl rfl) (And.intro (And.intro rfl trivial) (And.intro (And.intro (And.intro (by decide) (by decide)) (And.intro (show 5 ≤ 9 from by decide) (show 6539 ≤ 16000 from by decide))) (?_))))
  show WP (Call d) 175 P X (24, [some (vr (some 90) 10)], [vr (some 95) 11, vr (some 90) 10], (gN 92 5 11 (gS 90 10 (-1) (gR 90 5 94 (gN 91 400 11 (gR 90 4 93 (gN 90 230 11 (gR 90 2 92 (gN 89 2952 11 (gR 90 1 91 (gN 88 2952 11 (I, (R, Ln, K, 88)))))))))))), 5, 6539)
  refine WP.go 7 (And.intro (And.intro rfl rfl) (And.intro (And.intro rfl trivial) (And.intro (And.intro (And.intro (by decide) (by decide)) (And.intro (show 6 ≤ 9 from by decide) (show 6639 ≤ 16000 from by decide))) (?_))))
  show WP (Call d) 175 P X (31, [some (vr (some 90) 10)], [vr (some 96) 11, vr (some 90) 10], (gN 93 100 11 (gS 90 22 (-1) (gR 90 12 95 (gN 92 5 11 (gS 90 10 (-1) (gR 90 5 94 (gN 91 400 11 (gR 90 4 93 (gN 90 230 11 (gR 90 2 92 (gN 89 2952 11 (gR 90 1 91 (gN 88 2952 11 (I, (R, Ln, K, 88))))))))))))))), 6, 6639)
  refine WP.go 4 (And.intro (And.intro rfl rfl) (And.intro (And.intro (And.intro (by decide) (by decide)) (And.intro (show 7 ≤ 9 from by decide) (show 6649 ≤ 16000 from by decide))) (?_)))
  show WP (Call d) 175 P X (35, [some (vr (some 90) 10)], [vr (some 97) 11, vr (some 90) 10], (gN 94 10 11 (gR 90 24 96 (gN 93 100 11 (gS 90 22 (-1) (gR 90 12 95 (gN 92 5 11 (gS 90 10 (-1) (gR 90 5 94 (gN 91 400 11 (gR 90 4 93 (gN 90 230 11 (gR 90 2 92 (gN 89 2952 11 (gR 90 1 91 (gN 88 2952 11 (I, (R, Ln, K, 88))))))))))))))))), 7, 6649)
  refine WP.go 4 (And.intro (And.intro rfl rfl) (And.intro (And.intro (And.intro (by decide) (by decide)) (And.intro (show 8 ≤ 9 from by decide) (show 6659 ≤ 16000 from by decide))) (?_)))
  show WP (Call d) 175 P X (39, [some (vr (some 90) 10)], [vr (some 98) 11, vr (some 90) 10], (gN 95 10 11 (gR 90 25 97 (gN 94 10 11 (gR 90 24 96 (gN 93 100 11 (gS 90 22 (-1) (gR 90 12 95 (gN 92 5 11 (gS 90 10 (-1) (gR 90 5 94 (gN 91 400 11 (gR 90 4 93 (gN 90 230 11 (gR 90 2 92 (gN 89 2952 11 (gR 90 1 91 (gN 88 2952 11 (I, (R, Ln, K, 88))))))))))))))))))), 8, 6659)
  refine WP.go 7 (And.intro (And.intro rfl rfl) (And.intro (And.intro rfl trivial) (And.intro (And.intro (And.intro (by decide) (by decide)) (And.intro (show 9 ≤ 9 from by decide) (show 6759 ≤ 16000 from by decide))) (?_))))
  show WP (Call d) 175 P X (46, [some (vr (some 90) 10)], [vr (some 99) 11, vr (some 90) 10], (gN 96 100 11 (gS 90 29 (-1) (gR 90 26 98 (gN 95 10 11 (gR 90 25 97 (gN 94 10 11 (gR 90 24 96 (gN 93 100 11 (gS 90 22 (-1) (gR 90 12 95 (gN 92 5 11 (gS 90 10 (-1) (gR 90 5 94 (gN 91 400 11 (gR 90 4 93 (gN 90 230 11 (gR 90 2 92 (gN 89 2952 11 (gR 90 1 91 (gN 88 2952 11 (I, (R, Ln, K, 88)))))))))))))))))))))), 9, 6759)
  refine WP.go 6 (And.intro (And.intro rfl rfl) (And.intro rfl (Exists.intro 91 (And.intro rfl (And.intro (And.intro rfl (And.intro (by decide) (show (10 : Int) < 2952 from by decide))) (?_))))))
  show WP (Call d) 175 P X (52, [some (vr (some 90) 10)], [], (gS 91 10 3 (gR 90 31 99 (gN 96 100 11 (gS 90 29 (-1) (gR 90 26 98 (gN 95 10 11 (gR 90 25 97 (gN 94 10 11 (gR 90 24 96 (gN 93 100 11 (gS 90 22 (-1) (gR 90 12 95 (gN 92 5 11 (gS 90 10 (-1) (gR 90 5 94 (gN 91 400 11 (gR 90 4 93 (gN 90 230 11 (gR 90 2 92 (gN 89 2952 11 (gR 90 1 91 (gN 88 2952 11 (I, (R, Ln, K, 88)))))))))))))))))))))))), 9, 6759)
  refine WP.go 5 (And.intro rfl (Exists.intro 91 (And.intro rfl (And.intro (And.intro rfl (And.intro (by decide) (show (11 : Int) < 2952 from by decide))) (?_)))))
  show WP (Call d) 175 P X (57, [some (vr (some 90) 10)], [], (gS 91 11 (-1) (gS 91 10 3 (gR 90 31 99 (gN 96 100 11 (gS 90 29 (-1) (gR 90 26 98 (gN 95 10 11 (gR 90 25 97 (gN 94 10 11 (gR 90 24 96 (gN 93 100 11 (gS 90 22 (-1) (gR 90 12 95 (gN 92 5 11 (gS 90 10 (-1) (gR 90 5 94 (gN 91 400 11 (gR 90 4 93 (gN 90 230 11 (gR 90 2 92 (gN 89 2952 11 (gR 90 1 91 (gN 88 2952 11 (I, (R, Ln, K, 88))))))))))))))))))))))))), 9, 6759)
  refine WP.go 5 (And.intro rfl (Exists.intro 91 (And.intro rfl (And.intro (And.intro rfl (And.intro (by decide) (show (12 : Int) < 2952 from by decide))) (?_)))))
  show WP (Call d) 175 P X (62, [some (vr (some 90) 10)], [], (gS 91 12 48 (gS 91 11 (-1) (gS 91 10 3 (gR 90 31 99 (gN 96 100 11 (gS 90 29 (-1) (gR 90 26 98 (gN 95 10 11 (gR 90 25 97 (gN 94 10 11 (gR 90 24 96 (gN 93 100 11 (gS 90 22 (-1) (gR 90 12 95 (gN 92 5 11 (gS 90 10 (-1) (gR 90 5 94 (gN 91 400 11 (gR 90 4 93 (gN 90 230 11 (gR 90 2 92 (gN 89 2952 11 (gR 90 1 91 (gN 88 2952 11 (I, (R, Ln, K, 88)))))))))))))))))))))))))), 9, 6759)
  refine WP.go 5 (And.intro rfl (Exists.intro 91 (And.intro rfl (And.intro (And.intro rfl (And.intro (by decide) (show (13 : Int) < 2952 from by decide))) (?_)))))
  show WP (Call d) 175 P X (67, [some (vr (some 90) 10)], [], (gS 91 13 72 (gS 91 12 48 (gS 91 11 (-1) (gS 91 10 3 (gR 90 31 99 (gN 96 100 11 (gS 90 29 (-1) (gR 90 26 98 (gN 95 10 11 (gR 90 25 97 (gN 94 10 11 (gR 90 24 96 (gN 93 100 11 (gS 90 22 (-1) (gR 90 12 95 (gN 92 5 11 (gS 90 10 (-1) (gR 90 5 94 (gN 91 400 11 (gR 90 4 93 (gN 90 230 11 (gR 90 2 92 (gN 89 2952 11 (gR 90 1 91 (gN 88 2952 11 (I, (R, Ln, K, 88))))))))))))))))))))))))))), 9, 6759)
  refine WP.go 1 (And.intro (And.intro (show 9 ≤ 9 from by decide) (show 6759 ≤ 16000 from by decide)) (?_))
  exact h
theorem k12_ag {g h : qH} (q : AG g h) : AG (k12 88 90 g) (k12 88 90 h) := by
  unfold k12
  repeat first | exact q | apply gS_ag | apply gR_ag | apply gN_ag | apply k0_ag | apply k1_ag | apply k2_ag | apply k7_3_ag | apply k7_7_ag | apply k7_8_ag | apply k6_ag | apply k8_ag | apply k3_ag | apply k9_ag | apply k10_ag | apply k11_ag | (unfold k5)
theorem k12_s2 {g h : qH} (q : SC2 g h) : SC2 g (k12 88 90 h) := by
  unfold k12
  repeat first | exact q | refine gS_s2 ?_ (by omega) | refine gR_s2 ?_ | refine gN_s2 ?_ | refine k5_s2 ?_ (by omega) | refine k0_s2 ?_ (by omega) (by omega) | refine k1_s2 ?_ (by omega) | refine k2_s2 ?_ (by omega) (by omega) (by omega) | refine k7_3_s2 ?_ (by omega) | refine k7_7_s2 ?_ (by omega) | refine k7_8_s2 ?_ (by omega) | refine k6_s2 ?_ (by omega) | refine k8_s2 ?_ (by omega) | refine k3_s2 ?_ (by omega) | refine k9_s2 ?_ (by omega) (by omega) | refine k10_s2 ?_ (by omega) | refine k11_s2 ?_
