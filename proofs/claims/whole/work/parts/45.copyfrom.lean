theorem s_8_dial_raw {d : Nat} {P : Option qV → qH → Prop} {X : Nat → qH → Prop} {I : qI} {H : qS} {n : Nat} (hd : 1 ≤ d) {r : Int} (hS : Shp H) (hn : isT n) (hr : 0 ≤ r ∧ r < 5) (h : P (some (vi (I (n + 17) r))) (I, H)) :
    Call d 84 [vr (some n) 6, vi r] (I, H) P X := by
  obtain ⟨d, rfl⟩ : ∃ e, d = e + 1 := ⟨d - 1, by omega⟩
  have hl := hS.tl17 hn
  show WP (Call d) 84 P X (0, [some (vr (some n) 6), some (vi r)], [], (I, H), 0, 0)
  refine WP.go 2 (And.intro (fun (b1 : r < 0) => (absurd b1 (by omega))) (fun (b1 : ¬ r < 0) => ?_))
  show WP (Call d) 84 P X (2, [some (vr (some n) 6), some (vi r)], [], (I, H), 0, 0)
  refine WP.go 5 (And.intro rfl (Exists.intro (n + 17) (And.intro (hS.t8 hn) (And.intro (Or.inl rfl) (And.intro (fun (b6 : ¬ r < H.2.1 (n + 17)) => (absurd b6 (by omega))) (fun (b6 : r < H.2.1 (n + 17)) => ?_))))))
  show WP (Call d) 84 P X (7, [some (vr (some n) 6), some (vi r)], [], (I, H), 0, 0)
  refine WP.go 6 (And.intro rfl (Exists.intro (n + 17) (And.intro (hS.t8 hn) (And.intro (And.intro rfl (And.intro (show 0 ≤ r from by omega) (show r < H.2.1 (n + 17) from by omega))) (And.intro (And.intro (Nat.le_of_ble_eq_true rfl) (Nat.le_of_ble_eq_true rfl)) (And.intro trivial (?_)))))))
  show P (some (vi (I (n + 17) r))) (I, H)
  exact fin_i (by first | rfl | omega | exact zero_bz (by omega) | exact one_bz (by omega)) h

theorem s_8_windIn_raw {d : Nat} {P : Option qV → qH → Prop} {X : Nat → qH → Prop} {I : qI} {H : qS} {n : Nat} (hd : 1 ≤ d) {r : Int} (hS : Shp H) (hn : isT n) (hr : 0 ≤ r ∧ r < 100) (h : P (some (vi (I (n + 18) r))) (I, H)) :
    Call d 86 [vr (some n) 6, vi r] (I, H) P X := by
  obtain ⟨d, rfl⟩ : ∃ e, d = e + 1 := ⟨d - 1, by omega⟩
  have hl := hS.tl18 hn
  show WP (Call d) 86 P X (0, [some (vr (some n) 6), some (vi r)], [], (I, H), 0, 0)
  refine WP.go 2 (And.intro (fun (b1 : r < 0) => (absurd b1 (by omega))) (fun (b1 : ¬ r < 0) => ?_))
  show WP (Call d) 86 P X (2, [some (vr (some n) 6), some (vi r)], [], (I, H), 0, 0)
  refine WP.go 5 (And.intro rfl (Exists.intro (n + 18) (And.intro (hS.t9 hn) (And.intro (Or.inl rfl) (And.intro (fun (b6 : ¬ r < H.2.1 (n + 18)) => (absurd b6 (by omega))) (fun (b6 : r < H.2.1 (n + 18)) => ?_))))))
  show WP (Call d) 86 P X (7, [some (vr (some n) 6), some (vi r)], [], (I, H), 0, 0)
  refine WP.go 6 (And.intro rfl (Exists.intro (n + 18) (And.intro (hS.t9 hn) (And.intro (And.intro rfl (And.intro (show 0 ≤ r from by omega) (show r < H.2.1 (n + 18) from by omega))) (And.intro (And.intro (Nat.le_of_ble_eq_true rfl) (Nat.le_of_ble_eq_true rfl)) (And.intro trivial (?_)))))))
  show P (some (vi (I (n + 18) r))) (I, H)
  exact fin_i (by first | rfl | omega | exact zero_bz (by omega) | exact one_bz (by omega)) h

theorem s_8_ropesIn_raw {d : Nat} {P : Option qV → qH → Prop} {X : Nat → qH → Prop} {I : qI} {H : qS} {n : Nat} (hd : 1 ≤ d) {r : Int} (hS : Shp H) (hn : isT n) (hr : 0 ≤ r ∧ r < 100) (h : P (some (vi (I (n + 19) r))) (I, H)) :
    Call d 88 [vr (some n) 6, vi r] (I, H) P X := by
  obtain ⟨d, rfl⟩ : ∃ e, d = e + 1 := ⟨d - 1, by omega⟩
  have hl := hS.tl19 hn
  show WP (Call d) 88 P X (0, [some (vr (some n) 6), some (vi r)], [], (I, H), 0, 0)
  refine WP.go 2 (And.intro (fun (b1 : r < 0) => (absurd b1 (by omega))) (fun (b1 : ¬ r < 0) => ?_))
  show WP (Call d) 88 P X (2, [some (vr (some n) 6), some (vi r)], [], (I, H), 0, 0)
  refine WP.go 5 (And.intro rfl (Exists.intro (n + 19) (And.intro (hS.t10 hn) (And.intro (Or.inl rfl) (And.intro (fun (b6 : ¬ r < H.2.1 (n + 19)) => (absurd b6 (by omega))) (fun (b6 : r < H.2.1 (n + 19)) => ?_))))))
  show WP (Call d) 88 P X (7, [some (vr (some n) 6), some (vi r)], [], (I, H), 0, 0)
  refine WP.go 6 (And.intro rfl (Exists.intro (n + 19) (And.intro (hS.t10 hn) (And.intro (And.intro rfl (And.intro (show 0 ≤ r from by omega) (show r < H.2.1 (n + 19) from by omega))) (And.intro (And.intro (Nat.le_of_ble_eq_true rfl) (Nat.le_of_ble_eq_true rfl)) (And.intro trivial (?_)))))))
  show P (some (vi (I (n + 19) r))) (I, H)
  exact fin_i (by first | rfl | omega | exact zero_bz (by omega) | exact one_bz (by omega)) h

theorem Shp.up {H G : qS} (h : Shp H) (e : ∀ a z, a ≠ 26 → a ≠ 47 → a ≠ 68 → G.1 a z = H.1 a z) (e2 : G.2 = H.2) : Shp G :=
  ⟨fun q hq => by
    have h1 : q.1 ≠ 26 ∧ q.1 ≠ 47 ∧ q.1 ≠ 68 := by
      have h2 : ∀ q ∈ RT, q.1 ≠ 26 ∧ q.1 ≠ 47 ∧ q.1 ≠ 68 := by decide
      exact h2 q hq
    rw [e _ _ h1.1 h1.2.1 h1.2.2]; exact h.1 q hq, fun q hq => by rw [e2]; exact h.2.1 q hq, by rw [e2]; exact h.2.2⟩
theorem isT_sep {n m : Nat} (hn : isT n) (hm : isT m) (h : n ≠ m) : m + 21 ≤ n ∨ n + 21 ≤ m := by
  rcases hn with rfl | rfl | rfl <;> rcases hm with rfl | rfl | rfl <;> omega
theorem s_8_copyFrom {d : Nat} {P : Option qV → qH → Prop} {X : Nat → qH → Prop} {I : qI} {H : qS} {n m : Nat} (hd : 2 ≤ d) (hS : Shp H) (hn : isT n) (hm9 : isT m) (hne : n ≠ m) (h : ∀ (J : qI) (G : qS), CPY n m I J → (∀ l, 0 ≤ l → l < 6 → G.1 (n + 20) l = H.1 (m + 20) l) → (∀ a z, a ≠ n + 20 → G.1 a z = H.1 a z) → G.2 = H.2 → (∀ a, a < n ∨ n + 21 ≤ a → J a = I a) → P none (J, G)) :
    Call d 104 [vr (some n) 6, vr (some m) 6] (I, H) P X := by
  obtain ⟨d, rfl⟩ : ∃ e, d = e + 1 := ⟨d - 1, by omega⟩
  have hd9 := isT_sep hn hm9 hne
  have hl17 := hS.tl17 hn
  have hl20 := hS.tl20 hn
  show WP (Call d) 104 P X (0, [some (vr (some n) 6), some (vr (some m) 6), none], [], (I, H), 0, 0)
  refine WP.go 5 (And.intro rfl (Exists.intro (n + 1) (And.intro (hS.t0 hn) (And.intro rfl (Exists.intro (m + 1) (And.intro (hS.t0 hm9) (And.intro (And.intro (Nat.le_of_ble_eq_true rfl) (Nat.le_of_ble_eq_true rfl)) (And.intro rfl (?_)))))))))
  show Call d 63 [vr (some (n + 1)) 4, vr (some (m + 1)) 4] (I, H) _ _
  refine s_5_copyFrom (by omega) (hS.u0 hn) (hS.u0 hm9) (hS.ul0 hn) (hS.ul0 hm9) (by omega) (by omega) (fun J4 e4 g4 f4 => ?_)
  show WP (Call d) 104 P X (5, [some (vr (some n) 6), some (vr (some m) 6), none], [], (J4, H), 0, 0)
  refine WP.go 5 (And.intro rfl (Exists.intro (n + 3) (And.intro (hS.t1 hn) (And.intro rfl (Exists.intro (m + 3) (And.intro (hS.t1 hm9) (And.intro (And.intro (Nat.le_of_ble_eq_true rfl) (Nat.le_of_ble_eq_true rfl)) (And.intro rfl (?_)))))))))
  show Call d 63 [vr (some (n + 3)) 4, vr (some (m + 3)) 4] (J4, H) _ _
  refine s_5_copyFrom (by omega) (hS.u1 hn) (hS.u1 hm9) (hS.ul1 hn) (hS.ul1 hm9) (by omega) (by omega) (fun J9 e9 g9 f9 => ?_)
  show WP (Call d) 104 P X (10, [some (vr (some n) 6), some (vr (some m) 6), none], [], (J9, H), 0, 0)
  refine WP.go 5 (And.intro rfl (Exists.intro (n + 5) (And.intro (hS.t2 hn) (And.intro rfl (Exists.intro (m + 5) (And.intro (hS.t2 hm9) (And.intro (And.intro (Nat.le_of_ble_eq_true rfl) (Nat.le_of_ble_eq_true rfl)) (And.intro rfl (?_)))))))))
  show Call d 63 [vr (some (n + 5)) 4, vr (some (m + 5)) 4] (J9, H) _ _
  refine s_5_copyFrom (by omega) (hS.u2 hn) (hS.u2 hm9) (hS.ul2 hn) (hS.ul2 hm9) (by omega) (by omega) (fun J14 e14 g14 f14 => ?_)
  show WP (Call d) 104 P X (15, [some (vr (some n) 6), some (vr (some m) 6), none], [], (J14, H), 0, 0)
  refine WP.go 5 (And.intro rfl (Exists.intro (n + 7) (And.intro (hS.t3 hn) (And.intro rfl (Exists.intro (m + 7) (And.intro (hS.t3 hm9) (And.intro (And.intro (Nat.le_of_ble_eq_true rfl) (Nat.le_of_ble_eq_true rfl)) (And.intro rfl (?_)))))))))
  show Call d 63 [vr (some (n + 7)) 4, vr (some (m + 7)) 4] (J14, H) _ _
  refine s_5_copyFrom (by omega) (hS.u3 hn) (hS.u3 hm9) (hS.ul3 hn) (hS.ul3 hm9) (by omega) (by omega) (fun J19 e19 g19 f19 => ?_)
  show WP (Call d) 104 P X (20, [some (vr (some n) 6), some (vr (some m) 6), none], [], (J19, H), 0, 0)
  refine WP.go 5 (And.intro rfl (Exists.intro (n + 9) (And.intro (hS.t4 hn) (And.intro rfl (Exists.intro (m + 9) (And.intro (hS.t4 hm9) (And.intro (And.intro (Nat.le_of_ble_eq_true rfl) (Nat.le_of_ble_eq_true rfl)) (And.intro rfl (?_)))))))))
  show Call d 63 [vr (some (n + 9)) 4, vr (some (m + 9)) 4] (J19, H) _ _
  refine s_5_copyFrom (by omega) (hS.u4 hn) (hS.u4 hm9) (hS.ul4 hn) (hS.ul4 hm9) (by omega) (by omega) (fun J24 e24 g24 f24 => ?_)
  show WP (Call d) 104 P X (25, [some (vr (some n) 6), some (vr (some m) 6), none], [], (J24, H), 0, 0)
  refine WP.go 5 (And.intro rfl (Exists.intro (n + 11) (And.intro (hS.t5 hn) (And.intro rfl (Exists.intro (m + 11) (And.intro (hS.t5 hm9) (And.intro (And.intro (Nat.le_of_ble_eq_true rfl) (Nat.le_of_ble_eq_true rfl)) (And.intro rfl (?_)))))))))
  show Call d 63 [vr (some (n + 11)) 4, vr (some (m + 11)) 4] (J24, H) _ _
  refine s_5_copyFrom (by omega) (hS.u5 hn) (hS.u5 hm9) (hS.ul5 hn) (hS.ul5 hm9) (by omega) (by omega) (fun J29 e29 g29 f29 => ?_)
  show WP (Call d) 104 P X (30, [some (vr (some n) 6), some (vr (some m) 6), none], [], (J29, H), 0, 0)
  refine WP.go 5 (And.intro rfl (Exists.intro (n + 13) (And.intro (hS.t6 hn) (And.intro rfl (Exists.intro (m + 13) (And.intro (hS.t6 hm9) (And.intro (And.intro (Nat.le_of_ble_eq_true rfl) (Nat.le_of_ble_eq_true rfl)) (And.intro rfl (?_)))))))))
  show Call d 63 [vr (some (n + 13)) 4, vr (some (m + 13)) 4] (J29, H) _ _
  refine s_5_copyFrom (by omega) (hS.u6 hn) (hS.u6 hm9) (hS.ul6 hn) (hS.ul6 hm9) (by omega) (by omega) (fun J34 e34 g34 f34 => ?_)
  show WP (Call d) 104 P X (35, [some (vr (some n) 6), some (vr (some m) 6), none], [], (J34, H), 0, 0)
  refine WP.go 5 (And.intro rfl (Exists.intro (n + 15) (And.intro (hS.t7 hn) (And.intro rfl (Exists.intro (m + 15) (And.intro (hS.t7 hm9) (And.intro (And.intro (Nat.le_of_ble_eq_true rfl) (Nat.le_of_ble_eq_true rfl)) (And.intro rfl (?_)))))))))
  show Call d 63 [vr (some (n + 15)) 4, vr (some (m + 15)) 4] (J34, H) _ _
  refine s_5_copyFrom (by omega) (hS.u7 hn) (hS.u7 hm9) (hS.ul7 hn) (hS.ul7 hm9) (by omega) (by omega) (fun J39 e39 g39 f39 => ?_)
  show WP (Call d) 104 P X (40, [some (vr (some n) 6), some (vr (some m) 6), none], [], (J39, H), 0, 0)
  have r1 : J39 (n + 1) = fun s => if s = 3 then I (m + 1) 3 else I (n + 1) s := by rw [f39 (n + 1) (by omega) (by omega), f34 (n + 1) (by omega) (by omega), f29 (n + 1) (by omega) (by omega), f24 (n + 1) (by omega) (by omega), f19 (n + 1) (by omega) (by omega), f14 (n + 1) (by omega) (by omega), f9 (n + 1) (by omega) (by omega), e4]
  have c1 : ∀ j, 0 ≤ j → j < 20 → J39 (n + 2) j = I (m + 2) j := fun j q0 q1 => by rw [f39 (n + 2) (by omega) (by omega), f34 (n + 2) (by omega) (by omega), f29 (n + 2) (by omega) (by omega), f24 (n + 2) (by omega) (by omega), f19 (n + 2) (by omega) (by omega), f14 (n + 2) (by omega) (by omega), f9 (n + 2) (by omega) (by omega), g4 j q0 q1]
  have r3 : J39 (n + 3) = fun s => if s = 3 then I (m + 3) 3 else I (n + 3) s := by rw [f39 (n + 3) (by omega) (by omega), f34 (n + 3) (by omega) (by omega), f29 (n + 3) (by omega) (by omega), f24 (n + 3) (by omega) (by omega), f19 (n + 3) (by omega) (by omega), f14 (n + 3) (by omega) (by omega), e9, f4 (m + 3) (by omega) (by omega), f4 (n + 3) (by omega) (by omega)]
  have c3 : ∀ j, 0 ≤ j → j < 60 → J39 (n + 4) j = I (m + 4) j := fun j q0 q1 => by rw [f39 (n + 4) (by omega) (by omega), f34 (n + 4) (by omega) (by omega), f29 (n + 4) (by omega) (by omega), f24 (n + 4) (by omega) (by omega), f19 (n + 4) (by omega) (by omega), f14 (n + 4) (by omega) (by omega), g9 j q0 q1, f4 (m + 4) (by omega) (by omega)]
  have r5 : J39 (n + 5) = fun s => if s = 3 then I (m + 5) 3 else I (n + 5) s := by rw [f39 (n + 5) (by omega) (by omega), f34 (n + 5) (by omega) (by omega), f29 (n + 5) (by omega) (by omega), f24 (n + 5) (by omega) (by omega), f19 (n + 5) (by omega) (by omega), e14, f9 (m + 5) (by omega) (by omega), f4 (m + 5) (by omega) (by omega), f9 (n + 5) (by omega) (by omega), f4 (n + 5) (by omega) (by omega)]
  have c5 : ∀ j, 0 ≤ j → j < 30 → J39 (n + 6) j = I (m + 6) j := fun j q0 q1 => by rw [f39 (n + 6) (by omega) (by omega), f34 (n + 6) (by omega) (by omega), f29 (n + 6) (by omega) (by omega), f24 (n + 6) (by omega) (by omega), f19 (n + 6) (by omega) (by omega), g14 j q0 q1, f9 (m + 6) (by omega) (by omega), f4 (m + 6) (by omega) (by omega)]
  have r7 : J39 (n + 7) = fun s => if s = 3 then I (m + 7) 3 else I (n + 7) s := by rw [f39 (n + 7) (by omega) (by omega), f34 (n + 7) (by omega) (by omega), f29 (n + 7) (by omega) (by omega), f24 (n + 7) (by omega) (by omega), e19, f14 (m + 7) (by omega) (by omega), f9 (m + 7) (by omega) (by omega), f4 (m + 7) (by omega) (by omega), f14 (n + 7) (by omega) (by omega), f9 (n + 7) (by omega) (by omega), f4 (n + 7) (by omega) (by omega)]
  have c7 : ∀ j, 0 ≤ j → j < 64 → J39 (n + 8) j = I (m + 8) j := fun j q0 q1 => by rw [f39 (n + 8) (by omega) (by omega), f34 (n + 8) (by omega) (by omega), f29 (n + 8) (by omega) (by omega), f24 (n + 8) (by omega) (by omega), g19 j q0 q1, f14 (m + 8) (by omega) (by omega), f9 (m + 8) (by omega) (by omega), f4 (m + 8) (by omega) (by omega)]
  have r9 : J39 (n + 9) = fun s => if s = 3 then I (m + 9) 3 else I (n + 9) s := by rw [f39 (n + 9) (by omega) (by omega), f34 (n + 9) (by omega) (by omega), f29 (n + 9) (by omega) (by omega), e24, f19 (m + 9) (by omega) (by omega), f14 (m + 9) (by omega) (by omega), f9 (m + 9) (by omega) (by omega), f4 (m + 9) (by omega) (by omega), f19 (n + 9) (by omega) (by omega), f14 (n + 9) (by omega) (by omega), f9 (n + 9) (by omega) (by omega), f4 (n + 9) (by omega) (by omega)]
  have c9 : ∀ j, 0 ≤ j → j < 48 → J39 (n + 10) j = I (m + 10) j := fun j q0 q1 => by rw [f39 (n + 10) (by omega) (by omega), f34 (n + 10) (by omega) (by omega), f29 (n + 10) (by omega) (by omega), g24 j q0 q1, f19 (m + 10) (by omega) (by omega), f14 (m + 10) (by omega) (by omega), f9 (m + 10) (by omega) (by omega), f4 (m + 10) (by omega) (by omega)]
  have r11 : J39 (n + 11) = fun s => if s = 3 then I (m + 11) 3 else I (n + 11) s := by rw [f39 (n + 11) (by omega) (by omega), f34 (n + 11) (by omega) (by omega), e29, f24 (m + 11) (by omega) (by omega), f19 (m + 11) (by omega) (by omega), f14 (m + 11) (by omega) (by omega), f9 (m + 11) (by omega) (by omega), f4 (m + 11) (by omega) (by omega), f24 (n + 11) (by omega) (by omega), f19 (n + 11) (by omega) (by omega), f14 (n + 11) (by omega) (by omega), f9 (n + 11) (by omega) (by omega), f4 (n + 11) (by omega) (by omega)]
  have c11 : ∀ j, 0 ≤ j → j < 16 → J39 (n + 12) j = I (m + 12) j := fun j q0 q1 => by rw [f39 (n + 12) (by omega) (by omega), f34 (n + 12) (by omega) (by omega), g29 j q0 q1, f24 (m + 12) (by omega) (by omega), f19 (m + 12) (by omega) (by omega), f14 (m + 12) (by omega) (by omega), f9 (m + 12) (by omega) (by omega), f4 (m + 12) (by omega) (by omega)]
  have r13 : J39 (n + 13) = fun s => if s = 3 then I (m + 13) 3 else I (n + 13) s := by rw [f39 (n + 13) (by omega) (by omega), e34, f29 (m + 13) (by omega) (by omega), f24 (m + 13) (by omega) (by omega), f19 (m + 13) (by omega) (by omega), f14 (m + 13) (by omega) (by omega), f9 (m + 13) (by omega) (by omega), f4 (m + 13) (by omega) (by omega), f29 (n + 13) (by omega) (by omega), f24 (n + 13) (by omega) (by omega), f19 (n + 13) (by omega) (by omega), f14 (n + 13) (by omega) (by omega), f9 (n + 13) (by omega) (by omega), f4 (n + 13) (by omega) (by omega)]
  have c13 : ∀ j, 0 ≤ j → j < 48 → J39 (n + 14) j = I (m + 14) j := fun j q0 q1 => by rw [f39 (n + 14) (by omega) (by omega), g34 j q0 q1, f29 (m + 14) (by omega) (by omega), f24 (m + 14) (by omega) (by omega), f19 (m + 14) (by omega) (by omega), f14 (m + 14) (by omega) (by omega), f9 (m + 14) (by omega) (by omega), f4 (m + 14) (by omega) (by omega)]
  have r15 : J39 (n + 15) = fun s => if s = 3 then I (m + 15) 3 else I (n + 15) s := by rw [e39, f34 (m + 15) (by omega) (by omega), f29 (m + 15) (by omega) (by omega), f24 (m + 15) (by omega) (by omega), f19 (m + 15) (by omega) (by omega), f14 (m + 15) (by omega) (by omega), f9 (m + 15) (by omega) (by omega), f4 (m + 15) (by omega) (by omega), f34 (n + 15) (by omega) (by omega), f29 (n + 15) (by omega) (by omega), f24 (n + 15) (by omega) (by omega), f19 (n + 15) (by omega) (by omega), f14 (n + 15) (by omega) (by omega), f9 (n + 15) (by omega) (by omega), f4 (n + 15) (by omega) (by omega)]
  have c15 : ∀ j, 0 ≤ j → j < 40 → J39 (n + 16) j = I (m + 16) j := fun j q0 q1 => by rw [g39 j q0 q1, f34 (m + 16) (by omega) (by omega), f29 (m + 16) (by omega) (by omega), f24 (m + 16) (by omega) (by omega), f19 (m + 16) (by omega) (by omega), f14 (m + 16) (by omega) (by omega), f9 (m + 16) (by omega) (by omega), f4 (m + 16) (by omega) (by omega)]
  have hfr : ∀ a, (a < n + 1 ∨ n + 17 ≤ a) → J39 a = I a := fun a q => by rw [f39 a (by omega) (by omega), f34 a (by omega) (by omega), f29 a (by omega) (by omega), f24 a (by omega) (by omega), f19 a (by omega) (by omega), f14 a (by omega) (by omega), f9 a (by omega) (by omega), f4 a (by omega) (by omega)]
  refine WP.go 2 ?_
  show WP (Call d) 104 P X (42, [some (vr (some n) 6), some (vr (some m) 6), some (vi 0)], [], (J39, H), 0, 0)
  have lp42 : ∀ (n9 : Nat) (D : qI) (i : Int) (hm : 5 - i < (n9 : Int)) (xv0 : 0 ≤ i ∧ i ≤ 5) (xv1 : ∀ j, 0 ≤ j → j < i → D (n + 17) j = I (m + 17) j) (xv2 : ∀ a, a ≠ n + 17 → D a = J39 a), WP (Call d) 104 P X (42, [some (vr (some n) 6), some (vr (some m) 6), some (vi i)], [], (D, H), 0, 0) := by
    intro n9
    induction n9 with
    | zero => intro D i hm xv0 xv1 xv2; exact absurd hm (by omega)
    | succ n9 ih42 =>
      intro D i hm xv0 xv1 xv2
      refine WP.go 5 (And.intro rfl (Exists.intro (n + 17) (And.intro (hS.t8 hn) (And.intro (Or.inl rfl) (And.intro (fun (b46 : ¬ i < H.2.1 (n + 17)) => ?_) (fun (b46 : i < H.2.1 (n + 17)) => ?_))))))
      ·
        show WP (Call d) 104 P X (56, [some (vr (some n) 6), some (vr (some m) 6), some (vi i)], [], (D, H), 0, 0)
        refine WP.go 2 ?_
        show WP (Call d) 104 P X (58, [some (vr (some n) 6), some (vr (some m) 6), some (vi 0)], [], (D, H), 0, 0)
        have lp58 : ∀ (n9 : Nat) (E : qI) (y : Int) (hm : 100 - y < (n9 : Int)) (yv0 : 0 ≤ y ∧ y ≤ 100) (yv1 : ∀ j, 0 ≤ j → j < y → E (n + 18) j = I (m + 18) j) (yv2 : ∀ j, 0 ≤ j → j < y → E (n + 19) j = I (m + 19) j) (yv3 : ∀ a, a ≠ n + 18 → a ≠ n + 19 → E a = D a), WP (Call d) 104 P X (58, [some (vr (some n) 6), some (vr (some m) 6), some (vi y)], [], (E, H), 0, 0) := by
          intro n9
          induction n9 with
          | zero => intro E y hm yv0 yv1 yv2 yv3; exact absurd hm (by omega)
          | succ n9 ih58 =>
            intro E y hm yv0 yv1 yv2 yv3
            refine WP.go 3 (And.intro (fun (b60 : ¬ y < 100) => ?_) (fun (b60 : y < 100) => ?_))
            ·
              show WP (Call d) 104 P X (75, [some (vr (some n) 6), some (vr (some m) 6), some (vi y)], [], (E, H), 0, 0)
              refine WP.go 2 ?_
              show WP (Call d) 104 P X (77, [some (vr (some n) 6), some (vr (some m) 6), some (vi 0)], [], (E, H), 0, 0)
              have lp77 : ∀ (n9 : Nat) (G : qS) (l : Int) (hm : 6 - l < (n9 : Int)) (gv : 0 ≤ l ∧ l ≤ 6) (gv0 : ∀ a z, a ≠ n + 20 → G.1 a z = H.1 a z) (gv1 : ∀ j, 0 ≤ j → j < l → G.1 (n + 20) j = H.1 (m + 20) j) (gv2 : G.2 = H.2), WP (Call d) 104 P X (77, [some (vr (some n) 6), some (vr (some m) 6), some (vi l)], [], (E, G), 0, 0) := by
                intro n9
                induction n9 with
                | zero => intro G l hm gv gv0 gv1 gv2; exact absurd hm (by omega)
                | succ n9 ih77 =>
                  intro G l hm gv gv0 gv1 gv2
                  have hSg : Shp G := hS.up (fun a z q1 q2 q3 => gv0 a z (by rcases hn with rfl | rfl | rfl <;> omega)) gv2
                  have hl20g := hSg.tl20 hn
                  refine WP.go 5 (And.intro rfl (Exists.intro (n + 20) (And.intro (hSg.t11 hn) (And.intro (Or.inr rfl) (And.intro (fun (b81 : ¬ l < G.2.1 (n + 20)) => ?_) (fun (b81 : l < G.2.1 (n + 20)) => ?_))))))
                  ·
                    show WP (Call d) 104 P X (91, [some (vr (some n) 6), some (vr (some m) 6), some (vi l)], [], (E, G), 0, 0)
                    refine WP.go 9 (And.intro rfl (And.intro (And.intro rfl trivial) (And.intro rfl (And.intro (And.intro rfl trivial) (And.intro (And.intro (Nat.le_of_ble_eq_true rfl) (Nat.le_of_ble_eq_true rfl)) (?_))))))
                    show P none ((upI (upI E n 12 (E m 12)) n 13 ((upI E n 12 (E m 12)) m 13)), G)
                    refine h _ _ ⟨?_, ?_, ⟨fun j q0 q1 => by rw [upI_cell (by omega), upI_cell (by omega), yv3 _ (by omega) (by omega), xv2 _ (by omega)]; exact c1 j q0 q1, fun j q0 q1 => by rw [upI_cell (by omega), upI_cell (by omega), yv3 _ (by omega) (by omega), xv2 _ (by omega)]; exact c3 j q0 q1, fun j q0 q1 => by rw [upI_cell (by omega), upI_cell (by omega), yv3 _ (by omega) (by omega), xv2 _ (by omega)]; exact c5 j q0 q1, fun j q0 q1 => by rw [upI_cell (by omega), upI_cell (by omega), yv3 _ (by omega) (by omega), xv2 _ (by omega)]; exact c7 j q0 q1, fun j q0 q1 => by rw [upI_cell (by omega), upI_cell (by omega), yv3 _ (by omega) (by omega), xv2 _ (by omega)]; exact c9 j q0 q1, fun j q0 q1 => by rw [upI_cell (by omega), upI_cell (by omega), yv3 _ (by omega) (by omega), xv2 _ (by omega)]; exact c11 j q0 q1, fun j q0 q1 => by rw [upI_cell (by omega), upI_cell (by omega), yv3 _ (by omega) (by omega), xv2 _ (by omega)]; exact c13 j q0 q1, fun j q0 q1 => by rw [upI_cell (by omega), upI_cell (by omega), yv3 _ (by omega) (by omega), xv2 _ (by omega)]; exact c15 j q0 q1⟩, ?_, ?_, ?_, ?_, ?_⟩ (fun j q0 q1 => gv1 j q0 (by omega)) gv0 gv2 (fun a q => ?_)
                    · intro k q s z
                      rcases q with rfl | rfl | rfl | rfl | rfl | rfl | rfl | rfl
                      · rw [upI_cell (by omega), upI_cell (by omega), yv3 _ (by omega) (by omega), xv2 _ (by omega), r1]; exact if_neg z
                      · rw [upI_cell (by omega), upI_cell (by omega), yv3 _ (by omega) (by omega), xv2 _ (by omega), r3]; exact if_neg z
                      · rw [upI_cell (by omega), upI_cell (by omega), yv3 _ (by omega) (by omega), xv2 _ (by omega), r5]; exact if_neg z
                      · rw [upI_cell (by omega), upI_cell (by omega), yv3 _ (by omega) (by omega), xv2 _ (by omega), r7]; exact if_neg z
                      · rw [upI_cell (by omega), upI_cell (by omega), yv3 _ (by omega) (by omega), xv2 _ (by omega), r9]; exact if_neg z
                      · rw [upI_cell (by omega), upI_cell (by omega), yv3 _ (by omega) (by omega), xv2 _ (by omega), r11]; exact if_neg z
                      · rw [upI_cell (by omega), upI_cell (by omega), yv3 _ (by omega) (by omega), xv2 _ (by omega), r13]; exact if_neg z
                      · rw [upI_cell (by omega), upI_cell (by omega), yv3 _ (by omega) (by omega), xv2 _ (by omega), r15]; exact if_neg z
                    · intro k q
                      rcases q with rfl | rfl | rfl | rfl | rfl | rfl | rfl | rfl
                      · rw [upI_cell (by omega), upI_cell (by omega), yv3 _ (by omega) (by omega), xv2 _ (by omega), r1]; exact if_pos rfl
                      · rw [upI_cell (by omega), upI_cell (by omega), yv3 _ (by omega) (by omega), xv2 _ (by omega), r3]; exact if_pos rfl
                      · rw [upI_cell (by omega), upI_cell (by omega), yv3 _ (by omega) (by omega), xv2 _ (by omega), r5]; exact if_pos rfl
                      · rw [upI_cell (by omega), upI_cell (by omega), yv3 _ (by omega) (by omega), xv2 _ (by omega), r7]; exact if_pos rfl
                      · rw [upI_cell (by omega), upI_cell (by omega), yv3 _ (by omega) (by omega), xv2 _ (by omega), r9]; exact if_pos rfl
                      · rw [upI_cell (by omega), upI_cell (by omega), yv3 _ (by omega) (by omega), xv2 _ (by omega), r11]; exact if_pos rfl
                      · rw [upI_cell (by omega), upI_cell (by omega), yv3 _ (by omega) (by omega), xv2 _ (by omega), r13]; exact if_pos rfl
                      · rw [upI_cell (by omega), upI_cell (by omega), yv3 _ (by omega) (by omega), xv2 _ (by omega), r15]; exact if_pos rfl
                    · intro j q0 q1; rw [upI_cell (by omega), upI_cell (by omega), yv3 _ (by omega) (by omega)]; exact xv1 j q0 (by omega)
                    · intro j q0 q1; rw [upI_cell (by omega), upI_cell (by omega)]; exact yv1 j q0 (by omega)
                    · intro j q0 q1; rw [upI_cell (by omega), upI_cell (by omega)]; exact yv2 j q0 (by omega)
                    · rw [upI_at (.inr (by omega)), upI_same, yv3 m (by omega) (by omega), xv2 m (by omega), hfr m (by omega)]
                    · rw [upI_same, upI_at (.inl (by omega)), yv3 m (by omega) (by omega), xv2 m (by omega), hfr m (by omega)]
                    · rw [upI_cell (by omega), upI_cell (by omega), yv3 a (by omega) (by omega), xv2 a (by omega), hfr a (by omega)]
                  ·
                    show WP (Call d) 104 P X (82, [some (vr (some n) 6), some (vr (some m) 6), some (vi l)], [], (E, G), 0, 0)
                    refine WP.go 6 (And.intro rfl (Exists.intro (n + 20) (And.intro (hSg.t11 hn) (And.intro (And.intro (Nat.le_of_ble_eq_true rfl) (Nat.le_of_ble_eq_true rfl)) (And.intro rfl (?_))))))
                    show Call d 90 [vr (some m) 6, vi l] (E, G) _ _
                    refine s_8_leaseCode (by omega) hSg hm9 (by omega) ?_
                    show WP (Call d) 104 P X (88, [some (vr (some n) 6), some (vr (some m) 6), some (vi l)], [vr (G.1 (m + 20) l) 11, vi l, vr (some (n + 20)) 12], (E, G), 0, 0)
                    refine WP.go 3 (And.intro (And.intro (And.intro rfl rfl) (And.intro (show 0 ≤ l from by omega) (show l < G.2.1 (n + 20) from by omega))) (Exists.intro (l + 1) (And.intro (wrp_a (by omega) (by omega)) (?_))))
                    show WP (Call d) 104 P X (77, [some (vr (some n) 6), some (vr (some m) 6), some (vi (l + 1))], [], (E, (upR G.1 (n + 20) l (G.1 (m + 20) l), G.2)), 0, 0)
                    exact ih77 (upR G.1 (n + 20) l (G.1 (m + 20) l), G.2) (l + 1) (by omega) (by omega) (fun a z q => (if_neg (fun w => q w.1)).trans (gv0 a z q)) (fun j q1 q2 => by show (if n + 20 = n + 20 ∧ j = l then G.1 (m + 20) l else G.1 (n + 20) j) = _; by_cases w : j = l; rw [if_pos ⟨rfl, w⟩, w, gv0 _ _ (by omega)]; rw [if_neg (fun x => w x.2)]; exact gv1 j q1 (by omega)) gv2
              exact lp77 ((6 - 0 : Int).toNat + 1) H 0 (by omega) (by omega) (fun _ _ _ => rfl) (fun j q1 q2 => by omega) rfl
            ·
              show WP (Call d) 104 P X (61, [some (vr (some n) 6), some (vr (some m) 6), some (vi y)], [], (E, H), 0, 0)
              refine WP.go 5 (And.intro (And.intro (Nat.le_of_ble_eq_true rfl) (Nat.le_of_ble_eq_true rfl)) (And.intro rfl (?_)))
              show Call d 86 [vr (some m) 6, vi y] (E, H) _ _
              refine s_8_windIn_raw (by omega) hS hm9 (by omega) ?_
              show WP (Call d) 104 P X (66, [some (vr (some n) 6), some (vr (some m) 6), some (vi y)], [vi (E (m + 18) y), vi y, vr (some n) 6], (E, H), 0, 0)
              refine WP.go 1 (And.intro (And.intro (Nat.le_of_ble_eq_true rfl) (Nat.le_of_ble_eq_true rfl)) (And.intro rfl (?_)))
              show Call d 87 [vr (some n) 6, vi y, vi (E (m + 18) y)] (E, H) _ _
              refine s_8_setWind (by omega) hS hn (by omega) (fun J66 e66 f66 => ?_)
              show WP (Call d) 104 P X (67, [some (vr (some n) 6), some (vr (some m) 6), some (vi y)], [], (J66, H), 0, 0)
              refine WP.go 5 (And.intro (And.intro (Nat.le_of_ble_eq_true rfl) (Nat.le_of_ble_eq_true rfl)) (And.intro rfl (?_)))
              show Call d 88 [vr (some m) 6, vi y] (J66, H) _ _
              refine s_8_ropesIn_raw (by omega) hS hm9 (by omega) ?_
              show WP (Call d) 104 P X (72, [some (vr (some n) 6), some (vr (some m) 6), some (vi y)], [vi (J66 (m + 19) y), vi y, vr (some n) 6], (J66, H), 0, 0)
              refine WP.go 1 (And.intro (And.intro (Nat.le_of_ble_eq_true rfl) (Nat.le_of_ble_eq_true rfl)) (And.intro rfl (?_)))
              show Call d 89 [vr (some n) 6, vi y, vi (J66 (m + 19) y)] (J66, H) _ _
              refine s_8_setRopes (by omega) hS hn (by omega) (fun J72 e72 f72 => ?_)
              show WP (Call d) 104 P X (73, [some (vr (some n) 6), some (vr (some m) 6), some (vi y)], [], (J72, H), 0, 0)
              refine WP.go 2 (Exists.intro (y + 1) (And.intro (wrp_a (by omega) (by omega)) (?_)))
              show WP (Call d) 104 P X (58, [some (vr (some n) 6), some (vr (some m) 6), some (vi (y + 1))], [], (J72, H), 0, 0)
              exact ih58 J72 (y + 1) (by omega) (by omega) (cp_s ((f72 (n + 18) (by omega)).trans e66) yv1 (by rw [yv3 (m + 18) (by omega) (by omega), xv2 (m + 18) (by omega), hfr (m + 18) (by omega)])) (cp_s (e72.trans (by rw [f66 (n + 19) (by omega)])) yv2 (by rw [f66 (m + 19) (by omega), yv3 (m + 19) (by omega) (by omega), xv2 (m + 19) (by omega), hfr (m + 19) (by omega)])) (fun a q1 q2 => by rw [f72 a q2, f66 a q1]; exact yv3 a q1 q2)
        exact lp58 ((100 - 0 : Int).toNat + 1) D 0 (by omega) (by omega) (fun j q1 q2 => by omega) (fun j q1 q2 => by omega) (fun _ _ _ => rfl)
      ·
        show WP (Call d) 104 P X (47, [some (vr (some n) 6), some (vr (some m) 6), some (vi i)], [], (D, H), 0, 0)
        refine WP.go 6 (And.intro rfl (Exists.intro (n + 17) (And.intro (hS.t8 hn) (And.intro (And.intro (Nat.le_of_ble_eq_true rfl) (Nat.le_of_ble_eq_true rfl)) (And.intro rfl (?_))))))
        show Call d 84 [vr (some m) 6, vi i] (D, H) _ _
        refine s_8_dial_raw (by omega) hS hm9 (by omega) ?_
        show WP (Call d) 104 P X (53, [some (vr (some n) 6), some (vr (some m) 6), some (vi i)], [vi (D (m + 17) i), vi i, vr (some (n + 17)) 11], (D, H), 0, 0)
        refine WP.go 3 (And.intro (And.intro rfl (And.intro (show 0 ≤ i from by omega) (show i < H.2.1 (n + 17) from by omega))) (Exists.intro (i + 1) (And.intro (wrp_a (by omega) (by omega)) (?_))))
        show WP (Call d) 104 P X (42, [some (vr (some n) 6), some (vr (some m) 6), some (vi (i + 1))], [], ((upI D (n + 17) i (D (m + 17) i)), H), 0, 0)
        exact ih42 (upI D (n + 17) i (D (m + 17) i)) (i + 1) (by omega) (by omega) (cp_s (upI_self _ _ _ _) xv1 (by rw [xv2 (m + 17) (by omega), hfr (m + 17) (by omega)])) (fun a q => by rw [upI_cell q]; exact xv2 a q)
  exact lp42 ((5 - 0 : Int).toNat + 1) J39 0 (by omega) (by omega) (fun j q1 q2 => by omega) (fun _ _ => rfl)

