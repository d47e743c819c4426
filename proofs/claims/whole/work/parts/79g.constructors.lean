/-! the constructors: heaps as they are made -/
def gS (a : Nat) (s v : Int) (g : qH) : qH := (upI g.1 a s v, g.2)
def gR (a : Nat) (s : Int) (b : Nat) (g : qH) : qH := (g.1, (upR g.2.1 a s (some b), g.2.2))
def gN (n : Nat) (v : Int) (k : Nat) (g : qH) : qH := (up1 g.1 (n + 3) (fun _ => 0), (up1 g.2.1 (n + 3) (fun _ => none), up1 g.2.2.1 (n + 3) v, up1 g.2.2.2.1 (n + 3) k, n + 1))
/-- the same from cell 3 on -/
def AG (g h : qH) : Prop := (∀ a, 3 ≤ a → g.1 a = h.1 a) ∧ (∀ a, 3 ≤ a → g.2.1 a = h.2.1 a) ∧ (∀ a, 3 ≤ a → g.2.2.1 a = h.2.2.1 a)
theorem gS_ag {a : Nat} {s v : Int} {g h : qH} (q : AG g h) : AG (gS a s v g) (gS a s v h) :=
  ⟨fun b z => by funext j; show (if b = a ∧ j = s then v else g.1 b j) = (if b = a ∧ j = s then v else h.1 b j); rw [q.1 b z], q.2⟩
theorem gR_ag {a : Nat} {s : Int} {c : Nat} {g h : qH} (q : AG g h) : AG (gR a s c g) (gR a s c h) :=
  ⟨q.1, fun b z => by funext j; show (if b = a ∧ j = s then some c else g.2.1 b j) = (if b = a ∧ j = s then some c else h.2.1 b j); rw [q.2.1 b z], q.2.2⟩
theorem gN_ag {n : Nat} {v : Int} {k : Nat} {g h : qH} (q : AG g h) : AG (gN n v k g) (gN n v k h) :=
  ⟨fun b z => by show (if b = n + 3 then _ else g.1 b) = (if b = n + 3 then _ else h.1 b); rw [q.1 b z], fun b z => by show (if b = n + 3 then _ else g.2.1 b) = (if b = n + 3 then _ else h.2.1 b); rw [q.2.1 b z], fun b z => by show (if b = n + 3 then _ else g.2.2.1 b) = (if b = n + 3 then _ else h.2.2.1 b); rw [q.2.2 b z]⟩
/-- the step rows and the script are left alone -/
def SC2 (g h : qH) : Prop := ∀ b, b < 3 → h.1 b = g.1 b ∧ h.2.2.1 b = g.2.2.1 b
theorem SC2.rf (g : qH) : SC2 g g := fun _ _ => ⟨rfl, rfl⟩
theorem gS_s2 {a : Nat} {s v : Int} {g h : qH} (q : SC2 g h) (z : 3 ≤ a) : SC2 g (gS a s v h) := fun b w => ⟨by rw [← (q b w).1]; funext j; show (if b = a ∧ j = s then v else h.1 b j) = h.1 b j; exact if_neg (by omega), (q b w).2⟩
theorem gR_s2 {a : Nat} {s : Int} {c : Nat} {g h : qH} (q : SC2 g h) : SC2 g (gR a s c h) := q
theorem gN_s2 {n : Nat} {v : Int} {k : Nat} {g h : qH} (q : SC2 g h) : SC2 g (gN n v k h) := fun b w => ⟨by rw [← (q b w).1]; show (if b = n + 3 then (fun _ => 0) else h.1 b) = h.1 b; exact if_neg (by omega), by rw [← (q b w).2]; show (if b = n + 3 then v else h.2.2.1 b) = h.2.2.1 b; exact if_neg (by omega)⟩
def k5 (n a : Nat) (p q v : Int) (g : qH) : qH := gS a 3 0 (gR a 2 (n + 3) (gN n v 11 (gS a 1 q (gS a 0 p g))))
theorem k5_s2 {n a : Nat} {p q v : Int} {g h : qH} (w : SC2 g h) (z : 3 ≤ a) : SC2 g (k5 n a p q v h) := gS_s2 (gR_s2 (gN_s2 (gS_s2 (gS_s2 w z) z))) z
theorem c_5 {d : Nat} {P : Option qV → qH → Prop} {X : Nat → qH → Prop} {g : qH} {n a : Nat} {p q v : Int} (hd : 1 ≤ d) (hn : g.2.2.2.2 = n) (hv : wrp (p * q) = v) (h0 : 0 ≤ v ∧ v ≤ 64) (h : P none (k5 n a p q v g)) :
    Call d 54 [vr (some a) 4, vi p, vi q] g P X := by
  obtain ⟨d, rfl⟩ : ∃ e, d = e + 1 := ⟨d - 1, by omega⟩
  obtain ⟨I, R, Ln, K, m⟩ := g
  have hn : n = m := hn.symm
  subst hn
  show WP (Call d) 54 P X (0, [some (vr (some a) 4), some (vi p), some (vi q)], [], (I, (R, Ln, K, n)), 0, 0)
  refine WP.go 14 (And.intro (And.intro rfl trivial) (And.intro (And.intro rfl trivial) (Exists.intro v (And.intro hv.symm (And.intro (And.intro (Nat.le_of_ble_eq_true rfl) (Nat.le_of_ble_eq_true rfl)) ?_)))))
  refine rw_i (Q := fun x9 => WP (Call d) 54 P X (14, [some (vr (some a) 4), some (vi p), some (vi q)], [vi x9, vr (some a) 4], gS a 1 q (gS a 0 p (I, (R, Ln, K, n))), 0, 0)) (show (if (0 : Int) < v then v else 0) = v by split <;> omega) ?_
  refine WP.go 1 (And.intro (And.intro (by omega) (And.intro (Nat.le_of_ble_eq_true rfl) (show 0 + v.toNat ≤ 64 by omega))) ?_)
  refine WP.go 5 (And.intro (And.intro rfl rfl) (And.intro (And.intro rfl trivial) (And.intro (And.intro (Nat.le_of_ble_eq_true rfl) (show 0 + v.toNat ≤ 64 by omega)) ?_)))
  exact h
def k0 (n : Nat) (a : Nat) (t : Nat) (g : qH) : qH := (gR a 2 (n + 4) (gN (n + 1) 81 11 (gR a 1 (n + 3) (gN n 100 11 (gR a 0 t g)))))
theorem c_0 {d : Nat} {P : Option qV → qH → Prop} {X : Nat → qH → Prop} {g : qH} {n a t : Nat} (hd : 1 ≤ d) (hn : g.2.2.2.2 = n) (h : P none (k0 n a t g)) :
    Call d 0 [vr (some a) 0, vr (some t) 6] g P X := by
  obtain ⟨d, rfl⟩ : ∃ e, d = e + 1 := ⟨d - 1, by omega⟩
  obtain ⟨I, R, Ln, K, m⟩ := g
  have hn : n = m := hn.symm
  subst hn
  show WP (Call d) 0 P X (0, [some (vr (some a) 0), some (vr (some t) 6)], [], (I, (R, Ln, K, n)), 0, 0)
  refine WP.go 8 (And.intro (And.intro rfl rfl) (And.intro (And.intro (And.intro (by decide) (by decide)) (And.intro (show 1 ≤ 2 from by decide) (show 100 ≤ 200 from by decide))) (?_)))
  show WP (Call d) 0 P X (8, [some (vr (some a) 0), some (vr (some t) 6)], [vr (some (n + 3)) 11, vr (some a) 0], (gN n 100 11 (gR a 0 t (I, (R, Ln, K, n)))), 1, 100)
  refine WP.go 4 (And.intro (And.intro rfl rfl) (And.intro (And.intro (And.intro (by decide) (by decide)) (And.intro (show 2 ≤ 2 from by decide) (show 181 ≤ 200 from by decide))) (?_)))
  show WP (Call d) 0 P X (12, [some (vr (some a) 0), some (vr (some t) 6)], [vr (some (n + 4)) 11, vr (some a) 0], (gN (n + 1) 81 11 (gR a 1 (n + 3) (gN n 100 11 (gR a 0 t (I, (R, Ln, K, n)))))), 2, 181)
  refine WP.go 2 (And.intro (And.intro rfl rfl) (And.intro (And.intro (show 2 ≤ 2 from by decide) (show 181 ≤ 200 from by decide)) (?_)))
  exact h
theorem k0_ag {n a t : Nat} {g h : qH} (q : AG g h) : AG (k0 n a t g) (k0 n a t h) := by
  unfold k0
  repeat first | exact q | apply gS_ag | apply gR_ag | apply gN_ag | (unfold k5)
theorem k0_s2 {n a t : Nat} {g h : qH} (q : SC2 g h) (za : 3 ≤ a) (zt : 3 ≤ t) : SC2 g (k0 n a t h) := by
  unfold k0
  repeat first | exact q | refine gS_s2 ?_ (by omega) | refine gR_s2 ?_ | refine gN_s2 ?_ | refine k5_s2 ?_ (by omega)
def k1 (n : Nat) (a : Nat) (g : qH) : qH := (gS a 4 0 (gS a 3 0 (gS a 2 0 (gR a 1 (n + 4) (gN (n + 1) 64 11 (gR a 0 (n + 3) (gN n 8 11 g)))))))
theorem c_1 {d : Nat} {P : Option qV → qH → Prop} {X : Nat → qH → Prop} {g : qH} {n a : Nat} (hd : 1 ≤ d) (hn : g.2.2.2.2 = n) (h : P none (k1 n a g)) :
    Call d 20 [vr (some a) 1] g P X := by
  obtain ⟨d, rfl⟩ : ∃ e, d = e + 1 := ⟨d - 1, by omega⟩
  obtain ⟨I, R, Ln, K, m⟩ := g
  have hn : n = m := hn.symm
  subst hn
  show WP (Call d) 20 P X (0, [some (vr (some a) 1)], [], (I, (R, Ln, K, n)), 0, 0)
  refine WP.go 5 (And.intro (And.intro (And.intro (by decide) (by decide)) (And.intro (show 1 ≤ 2 from by decide) (show 8 ≤ 100 from by decide))) (?_))
  show WP (Call d) 20 P X (5, [some (vr (some a) 1)], [vr (some (n + 3)) 11, vr (some a) 1], (gN n 8 11 (I, (R, Ln, K, n))), 1, 8)
  refine WP.go 4 (And.intro (And.intro rfl rfl) (And.intro (And.intro (And.intro (by decide) (by decide)) (And.intro (show 2 ≤ 2 from by decide) (show 72 ≤ 100 from by decide))) (?_)))
  show WP (Call d) 20 P X (9, [some (vr (some a) 1)], [vr (some (n + 4)) 11, vr (some a) 1], (gN (n + 1) 64 11 (gR a 0 (n + 3) (gN n 8 11 (I, (R, Ln, K, n))))), 2, 72)
  refine WP.go 11 (And.intro (And.intro rfl rfl) (And.intro (And.intro rfl trivial) (And.intro (And.intro rfl trivial) (And.intro (And.intro rfl (Or.inl rfl)) (And.intro (And.intro (show 2 ≤ 2 from by decide) (show 72 ≤ 100 from by decide)) (?_))))))
  exact h
theorem k1_ag {n a : Nat} {g h : qH} (q : AG g h) : AG (k1 n a g) (k1 n a h) := by
  unfold k1
  repeat first | exact q | apply gS_ag | apply gR_ag | apply gN_ag | apply k0_ag | (unfold k5)
theorem k1_s2 {n a : Nat} {g h : qH} (q : SC2 g h) (za : 3 ≤ a) : SC2 g (k1 n a h) := by
  unfold k1
  repeat first | exact q | refine gS_s2 ?_ (by omega) | refine gR_s2 ?_ | refine gN_s2 ?_ | refine k5_s2 ?_ (by omega) | refine k0_s2 ?_ (by omega) (by omega)
def k2 (n : Nat) (a : Nat) (t : Nat) (m : Nat) (g : qH) : qH := (gS a 7 (-1) (gS a 6 0 (gR a 5 (n + 6) (gN (n + 3) 7 11 (gR a 4 (n + 5) (gN (n + 2) 7 11 (gR a 3 (n + 4) (gN (n + 1) 100 11 (gR a 2 (n + 3) (gN n 49 11 (gR a 1 m (gR a 0 t g))))))))))))
theorem c_2 {d : Nat} {P : Option qV → qH → Prop} {X : Nat → qH → Prop} {g : qH} {n a t m : Nat} (hd : 1 ≤ d) (hn : g.2.2.2.2 = n) (h : P none (k2 n a t m g)) :
    Call d 27 [vr (some a) 2, vr (some t) 6, vr (some m) 0] g P X := by
  obtain ⟨d, rfl⟩ : ∃ e, d = e + 1 := ⟨d - 1, by omega⟩
  obtain ⟨I, R, Ln, K, m⟩ := g
  have hn : n = m := hn.symm
  subst hn
  show WP (Call d) 27 P X (0, [some (vr (some a) 2), some (vr (some t) 6), some (vr (some m) 0)], [], (I, (R, Ln, K, n)), 0, 0)
  refine WP.go 11 (And.intro (And.intro rfl rfl) (And.intro (And.intro rfl rfl) (And.intro (And.intro (And.intro (by decide) (by decide)) (And.intro (show 1 ≤ 4 from by decide) (show 49 ≤ 200 from by decide))) (?_))))
  show WP (Call d) 27 P X (11, [some (vr (some a) 2), some (vr (some t) 6), some (vr (some m) 0)], [vr (some (n + 3)) 11, vr (some a) 2], (gN n 49 11 (gR a 1 m (gR a 0 t (I, (R, Ln, K, n))))), 1, 49)
  refine WP.go 4 (And.intro (And.intro rfl rfl) (And.intro (And.intro (And.intro (by decide) (by decide)) (And.intro (show 2 ≤ 4 from by decide) (show 149 ≤ 200 from by decide))) (?_)))
  show WP (Call d) 27 P X (15, [some (vr (some a) 2), some (vr (some t) 6), some (vr (some m) 0)], [vr (some (n + 4)) 11, vr (some a) 2], (gN (n + 1) 100 11 (gR a 2 (n + 3) (gN n 49 11 (gR a 1 m (gR a 0 t (I, (R, Ln, K, n))))))), 2, 149)
  refine WP.go 4 (And.intro (And.intro rfl rfl) (And.intro (And.intro (And.intro (by decide) (by decide)) (And.intro (show 3 ≤ 4 from by decide) (show 156 ≤ 200 from by decide))) (?_)))
  show WP (Call d) 27 P X (19, [some (vr (some a) 2), some (vr (some t) 6), some (vr (some m) 0)], [vr (some (n + 5)) 11, vr (some a) 2], (gN (n + 2) 7 11 (gR a 3 (n + 4) (gN (n + 1) 100 11 (gR a 2 (n + 3) (gN n 49 11 (gR a 1 m (gR a 0 t (I, (R, Ln, K, n))))))))), 3, 156)
  refine WP.go 4 (And.intro (And.intro rfl rfl) (And.intro (And.intro (And.intro (by decide) (by decide)) (And.intro (show 4 ≤ 4 from by decide) (show 163 ≤ 200 from by decide))) (?_)))
  show WP (Call d) 27 P X (23, [some (vr (some a) 2), some (vr (some t) 6), some (vr (some m) 0)], [vr (some (n + 6)) 11, vr (some a) 2], (gN (n + 3) 7 11 (gR a 4 (n + 5) (gN (n + 2) 7 11 (gR a 3 (n + 4) (gN (n + 1) 100 11 (gR a 2 (n + 3) (gN n 49 11 (gR a 1 m (gR a 0 t (I, (R, Ln, K, n))))))))))), 4, 163)
  refine WP.go 8 (And.intro (And.intro rfl rfl) (And.intro (And.intro rfl trivial) (And.intro (And.intro rfl trivial) (And.intro (And.intro (show 4 ≤ 4 from by decide) (show 163 ≤ 200 from by decide)) (?_)))))
  exact h
theorem k2_ag {n a t m : Nat} {g h : qH} (q : AG g h) : AG (k2 n a t m g) (k2 n a t m h) := by
  unfold k2
  repeat first | exact q | apply gS_ag | apply gR_ag | apply gN_ag | apply k0_ag | apply k1_ag | (unfold k5)
theorem k2_s2 {n a t m : Nat} {g h : qH} (q : SC2 g h) (za : 3 ≤ a) (zt : 3 ≤ t) (zm : 3 ≤ m) : SC2 g (k2 n a t m h) := by
  unfold k2
  repeat first | exact q | refine gS_s2 ?_ (by omega) | refine gR_s2 ?_ | refine gN_s2 ?_ | refine k5_s2 ?_ (by omega) | refine k0_s2 ?_ (by omega) (by omega) | refine k1_s2 ?_ (by omega)
def k7_3 (n : Nat) (a : Nat) (g : qH) : qH := (gS a 3 0 (gS a 2 0 (gR a 1 (n + 4) (gN (n + 1) 401 11 (gR a 0 (n + 3) (gN n 401 11 g))))))
theorem c_7_3 {d : Nat} {P : Option qV → qH → Prop} {X : Nat → qH → Prop} {g : qH} {n a : Nat} (hd : 1 ≤ d) (hn : g.2.2.2.2 = n) (h : P none (k7_3 n a g)) :
    Call d 69 [vr (some a) 3] g P X := by
  obtain ⟨d, rfl⟩ : ∃ e, d = e + 1 := ⟨d - 1, by omega⟩
  obtain ⟨I, R, Ln, K, m⟩ := g
  have hn : n = m := hn.symm
  subst hn
  show WP (Call d) 69 P X (0, [some (vr (some a) 3)], [], (I, (R, Ln, K, n)), 0, 0)
  refine WP.go 5 (And.intro (And.intro (And.intro (by decide) (by decide)) (And.intro (show 1 ≤ 2 from by decide) (show 401 ≤ 900 from by decide))) (?_))
  show WP (Call d) 69 P X (5, [some (vr (some a) 3)], [vr (some (n + 3)) 11, vr (some a) 3], (gN n 401 11 (I, (R, Ln, K, n))), 1, 401)
  refine WP.go 4 (And.intro (And.intro rfl rfl) (And.intro (And.intro (And.intro (by decide) (by decide)) (And.intro (show 2 ≤ 2 from by decide) (show 802 ≤ 900 from by decide))) (?_)))
  show WP (Call d) 69 P X (9, [some (vr (some a) 3)], [vr (some (n + 4)) 11, vr (some a) 3], (gN (n + 1) 401 11 (gR a 0 (n + 3) (gN n 401 11 (I, (R, Ln, K, n))))), 2, 802)
  refine WP.go 8 (And.intro (And.intro rfl rfl) (And.intro (And.intro rfl trivial) (And.intro (And.intro rfl trivial) (And.intro (And.intro (show 2 ≤ 2 from by decide) (show 802 ≤ 900 from by decide)) (?_)))))
  exact h
theorem k7_3_ag {n a : Nat} {g h : qH} (q : AG g h) : AG (k7_3 n a g) (k7_3 n a h) := by
  unfold k7_3
  repeat first | exact q | apply gS_ag | apply gR_ag | apply gN_ag | apply k0_ag | apply k1_ag | apply k2_ag | (unfold k5)
theorem k7_3_s2 {n a : Nat} {g h : qH} (q : SC2 g h) (za : 3 ≤ a) : SC2 g (k7_3 n a h) := by
  unfold k7_3
  repeat first | exact q | refine gS_s2 ?_ (by omega) | refine gR_s2 ?_ | refine gN_s2 ?_ | refine k5_s2 ?_ (by omega) | refine k0_s2 ?_ (by omega) (by omega) | refine k1_s2 ?_ (by omega) | refine k2_s2 ?_ (by omega) (by omega) (by omega)
def k7_7 (n : Nat) (a : Nat) (g : qH) : qH := (gS a 3 0 (gS a 2 0 (gR a 1 (n + 4) (gN (n + 1) 401 11 (gR a 0 (n + 3) (gN n 401 11 g))))))
theorem c_7_7 {d : Nat} {P : Option qV → qH → Prop} {X : Nat → qH → Prop} {g : qH} {n a : Nat} (hd : 1 ≤ d) (hn : g.2.2.2.2 = n) (h : P none (k7_7 n a g)) :
    Call d 69 [vr (some a) 7] g P X := by
  obtain ⟨d, rfl⟩ : ∃ e, d = e + 1 := ⟨d - 1, by omega⟩
  obtain ⟨I, R, Ln, K, m⟩ := g
  have hn : n = m := hn.symm
  subst hn
  show WP (Call d) 69 P X (0, [some (vr (some a) 7)], [], (I, (R, Ln, K, n)), 0, 0)
  refine WP.go 5 (And.intro (And.intro (And.intro (by decide) (by decide)) (And.intro (show 1 ≤ 2 from by decide) (show 401 ≤ 900 from by decide))) (?_))
  show WP (Call d) 69 P X (5, [some (vr (some a) 7)], [vr (some (n + 3)) 11, vr (some a) 7], (gN n 401 11 (I, (R, Ln, K, n))), 1, 401)
  refine WP.go 4 (And.intro (And.intro rfl rfl) (And.intro (And.intro (And.intro (by decide) (by decide)) (And.intro (show 2 ≤ 2 from by decide) (show 802 ≤ 900 from by decide))) (?_)))
  show WP (Call d) 69 P X (9, [some (vr (some a) 7)], [vr (some (n + 4)) 11, vr (some a) 7], (gN (n + 1) 401 11 (gR a 0 (n + 3) (gN n 401 11 (I, (R, Ln, K, n))))), 2, 802)
  refine WP.go 8 (And.intro (And.intro rfl rfl) (And.intro (And.intro rfl trivial) (And.intro (And.intro rfl trivial) (And.intro (And.intro (show 2 ≤ 2 from by decide) (show 802 ≤ 900 from by decide)) (?_)))))
  exact h
theorem k7_7_ag {n a : Nat} {g h : qH} (q : AG g h) : AG (k7_7 n a g) (k7_7 n a h) := by
  unfold k7_7
  repeat first | exact q | apply gS_ag | apply gR_ag | apply gN_ag | apply k0_ag | apply k1_ag | apply k2_ag | apply k7_3_ag | (unfold k5)
theorem k7_7_s2 {n a : Nat} {g h : qH} (q : SC2 g h) (za : 3 ≤ a) : SC2 g (k7_7 n a h) := by
  unfold k7_7
  repeat first | exact q | refine gS_s2 ?_ (by omega) | refine gR_s2 ?_ | refine gN_s2 ?_ | refine k5_s2 ?_ (by omega) | refine k0_s2 ?_ (by omega) (by omega) | refine k1_s2 ?_ (by omega) | refine k2_s2 ?_ (by omega) (by omega) (by omega) | refine k7_3_s2 ?_ (by omega)
def k7_8 (n : Nat) (a : Nat) (g : qH) : qH := (gS a 3 0 (gS a 2 0 (gR a 1 (n + 4) (gN (n + 1) 401 11 (gR a 0 (n + 3) (gN n 401 11 g))))))
theorem c_7_8 {d : Nat} {P : Option qV → qH → Prop} {X : Nat → qH → Prop} {g : qH} {n a : Nat} (hd : 1 ≤ d) (hn : g.2.2.2.2 = n) (h : P none (k7_8 n a g)) :
    Call d 69 [vr (some a) 8] g P X := by
  obtain ⟨d, rfl⟩ : ∃ e, d = e + 1 := ⟨d - 1, by omega⟩
  obtain ⟨I, R, Ln, K, m⟩ := g
  have hn : n = m := hn.symm
  subst hn
  show WP (Call d) 69 P X (0, [some (vr (some a) 8)], [], (I, (R, Ln, K, n)), 0, 0)
  refine WP.go 5 (And.intro (And.intro (And.intro (by decide) (by decide)) (And.intro (show 1 ≤ 2 from by decide) (show 401 ≤ 900 from by decide))) (?_))
  show WP (Call d) 69 P X (5, [some (vr (some a) 8)], [vr (some (n + 3)) 11, vr (some a) 8], (gN n 401 11 (I, (R, Ln, K, n))), 1, 401)
  refine WP.go 4 (And.intro (And.intro rfl rfl) (And.intro (And.intro (And.intro (by decide) (by decide)) (And.intro (show 2 ≤ 2 from by decide) (show 802 ≤ 900 from by decide))) (?_)))
  show WP (Call d) 69 P X (9, [some (vr (some a) 8)], [vr (some (n + 4)) 11, vr (some a) 8], (gN (n + 1) 401 11 (gR a 0 (n + 3) (gN n 401 11 (I, (R, Ln, K, n))))), 2, 802)
  refine WP.go 8 (And.intro (And.intro rfl rfl) (And.intro (And.intro rfl trivial) (And.intro (And.intro rfl trivial) (And.intro (And.intro (show 2 ≤ 2 from by decide) (show 802 ≤ 900 from by decide)) (?_)))))
  exact h
theorem k7_8_ag {n a : Nat} {g h : qH} (q : AG g h) : AG (k7_8 n a g) (k7_8 n a h) := by
  unfold k7_8
  repeat first | exact q | apply gS_ag | apply gR_ag | apply gN_ag | apply k0_ag | apply k1_ag | apply k2_ag | apply k7_3_ag | apply k7_7_ag | (unfold k5)
theorem k7_8_s2 {n a : Nat} {g h : qH} (q : SC2 g h) (za : 3 ≤ a) : SC2 g (k7_8 n a h) := by
  unfold k7_8
  repeat first | exact q | refine gS_s2 ?_ (by omega) | refine gR_s2 ?_ | refine gN_s2 ?_ | refine k5_s2 ?_ (by omega) | refine k0_s2 ?_ (by omega) (by omega) | refine k1_s2 ?_ (by omega) | refine k2_s2 ?_ (by omega) (by omega) (by omega) | refine k7_3_s2 ?_ (by omega) | refine k7_7_s2 ?_ (by omega)
def k6 (n : Nat) (a : Nat) (g : qH) : qH := (gS a 1 0 (gR a 0 (n + 3) (gN n 400 11 g)))
theorem c_6 {d : Nat} {P : Option qV → qH → Prop} {X : Nat → qH → Prop} {g : qH} {n a : Nat} (hd : 1 ≤ d) (hn : g.2.2.2.2 = n) (h : P none (k6 n a g)) :
    Call d 64 [vr (some a) 5] g P X := by
  obtain ⟨d, rfl⟩ : ∃ e, d = e + 1 := ⟨d - 1, by omega⟩
  obtain ⟨I, R, Ln, K, m⟩ := g
  have hn : n = m := hn.symm
  subst hn
  show WP (Call d) 64 P X (0, [some (vr (some a) 5)], [], (I, (R, Ln, K, n)), 0, 0)
  refine WP.go 5 (And.intro (And.intro (And.intro (by decide) (by decide)) (And.intro (show 1 ≤ 1 from by decide) (show 400 ≤ 400 from by decide))) (?_))
  show WP (Call d) 64 P X (5, [some (vr (some a) 5)], [vr (some (n + 3)) 11, vr (some a) 5], (gN n 400 11 (I, (R, Ln, K, n))), 1, 400)
  refine WP.go 5 (And.intro (And.intro rfl rfl) (And.intro (And.intro rfl trivial) (And.intro (And.intro (show 1 ≤ 1 from by decide) (show 400 ≤ 400 from by decide)) (?_))))
  exact h
theorem k6_ag {n a : Nat} {g h : qH} (q : AG g h) : AG (k6 n a g) (k6 n a h) := by
  unfold k6
  repeat first | exact q | apply gS_ag | apply gR_ag | apply gN_ag | apply k0_ag | apply k1_ag | apply k2_ag | apply k7_3_ag | apply k7_7_ag | apply k7_8_ag | (unfold k5)
theorem k6_s2 {n a : Nat} {g h : qH} (q : SC2 g h) (za : 3 ≤ a) : SC2 g (k6 n a h) := by
  unfold k6
  repeat first | exact q | refine gS_s2 ?_ (by omega) | refine gR_s2 ?_ | refine gN_s2 ?_ | refine k5_s2 ?_ (by omega) | refine k0_s2 ?_ (by omega) (by omega) | refine k1_s2 ?_ (by omega) | refine k2_s2 ?_ (by omega) (by omega) (by omega) | refine k7_3_s2 ?_ (by omega) | refine k7_7_s2 ?_ (by omega) | refine k7_8_s2 ?_ (by omega)
def k8 (n : Nat) (a : Nat) (g : qH) : qH := (gS a 13 0 (gS a 12 0 (gR a 11 (n + 22) (gN (n + 19) 6 12 (gR a 10 (n + 21) (gN (n + 18) 100 11 (gR a 9 (n + 20) (gN (n + 17) 100 11 (gR a 8 (n + 19) (gS (n + 19) 4 72 (gS (n + 19) 3 48 (gS (n + 19) 2 (-1) (gS (n + 19) 1 3 (gS (n + 19) 0 0 (gN (n + 16) 5 11 (gR a 7 (n + 17) (k5 (n + 15) (n + 17) 20 2 40 (gN (n + 14) 0 4 (gR a 6 (n + 15) (k5 (n + 13) (n + 15) 16 3 48 (gN (n + 12) 0 4 (gR a 5 (n + 13) (k5 (n + 11) (n + 13) 8 2 16 (gN (n + 10) 0 4 (gR a 4 (n + 11) (k5 (n + 9) (n + 11) 16 3 48 (gN (n + 8) 0 4 (gR a 3 (n + 9) (k5 (n + 7) (n + 9) 16 4 64 (gN (n + 6) 0 4 (gR a 2 (n + 7) (k5 (n + 5) (n + 7) 10 3 30 (gN (n + 4) 0 4 (gR a 1 (n + 5) (k5 (n + 3) (n + 5) 20 3 60 (gN (n + 2) 0 4 (gR a 0 (n + 3) (k5 (n + 1) (n + 3) 10 2 20 (gN n 0 4 g)))))))))))))))))))))))))))))))))))))))
theorem c_8 {d : Nat} {P : Option qV → qH → Prop} {X : Nat → qH → Prop} {g : qH} {n a : Nat} (hd : 2 ≤ d) (hn : g.2.2.2.2 = n) (h : P none (k8 n a g)) :
    Call d 83 [vr (some a) 6] g P X := by
  obtain ⟨d, rfl⟩ : ∃ e, d = e + 1 := ⟨d - 1, by omega⟩
  obtain ⟨I, R, Ln, K, m⟩ := g
  have hn : n = m := hn.symm
  subst hn
  show WP (Call d) 83 P X (0, [some (vr (some a) 6)], [], (I, (R, Ln, K, n)), 0, 0)
  refine WP.go 4 (And.intro (And.intro (show 1 ≤ 20 from by decide) (show 4 ≤ 1000 from by decide)) (?_))
  show WP (Call d) 83 P X (4, [some (vr (some a) 6)], [vr (some (n + 3)) 4, vr (some a) 6], (gN n 0 4 (I, (R, Ln, K, n))), 1, 4)
  refine WP.go 4 (And.intro (And.intro (show 2 ≤ 20 from by decide) (show 68 ≤ 1000 from by decide)) (And.intro rfl (?_)))
  show Call d 54 [vr (some (n + 3)) 4, vi 10, vi 2] (gN n 0 4 (I, (R, Ln, K, n))) _ _
  refine c_5 (n := n + 1) (v := 20) (by omega) rfl (by decide) (by decide) ?_
  show WP (Call d) 83 P X (8, [some (vr (some a) 6)], [vr (some (n + 3)) 4, vr (some a) 6], (k5 (n + 1) (n + 3) 10 2 20 (gN n 0 4 (I, (R, Ln, K, n)))), 2, 68)
  refine WP.go 3 (And.intro (And.intro rfl rfl) (And.intro (And.intro (show 3 ≤ 20 from by decide) (show 72 ≤ 1000 from by decide)) (?_)))
  show WP (Call d) 83 P X (11, [some (vr (some a) 6)], [vr (some (n + 5)) 4, vr (some a) 6], (gN (n + 2) 0 4 (gR a 0 (n + 3) (k5 (n + 1) (n + 3) 10 2 20 (gN n 0 4 (I, (R, Ln, K, n)))))), 3, 72)
  refine WP.go 4 (And.intro (And.intro (show 4 ≤ 20 from by decide) (show 136 ≤ 1000 from by decide)) (And.intro rfl (?_)))
  show Call d 54 [vr (some (n + 5)) 4, vi 20, vi 3] (gN (n + 2) 0 4 (gR a 0 (n + 3) (k5 (n + 1) (n + 3) 10 2 20 (gN n 0 4 (I, (R, Ln, K, n)))))) _ _
  refine c_5 (n := n + 3) (v := 60) (by omega) rfl (by decide) (by decide) ?_
  show WP (Call d) 83 P X (15, [some (vr (some a) 6)], [vr (some (n + 5)) 4, vr (some a) 6], (k5 (n + 3) (n + 5) 20 3 60 (gN (n + 2) 0 4 (gR a 0 (n + 3) (k5 (n + 1) (n + 3) 10 2 20 (gN n 0 4 (I, (R, Ln, K, n))))))), 4, 136)
  refine WP.go 3 (And.intro (And.intro rfl rfl) (And.intro (And.intro (show 5 ≤ 20 from by decide) (show 140 ≤ 1000 from by decide)) (?_)))
  show WP (Call d) 83 P X (18, [some (vr (some a) 6)], [vr (some (n + 7)) 4, vr (some a) 6], (gN (n + 4) 0 4 (gR a 1 (n + 5) (k5 (n + 3) (n + 5) 20 3 60 (gN (n + 2) 0 4 (gR a 0 (n + 3) (k5 (n + 1) (n + 3) 10 2 20 (gN n 0 4 (I, (R, Ln, K, n))))))))), 5, 140)
  refine WP.go 4 (And.intro (And.intro (show 6 ≤ 20 from by decide) (show 204 ≤ 1000 from by decide)) (And.intro rfl (?_)))
  show Call d 54 [vr (some (n + 7)) 4, vi 10, vi 3] (gN (n + 4) 0 4 (gR a 1 (n + 5) (k5 (n + 3) (n + 5) 20 3 60 (gN (n + 2) 0 4 (gR a 0 (n + 3) (k5 (n + 1) (n + 3) 10 2 20 (gN n 0 4 (I, (R, Ln, K, n))))))))) _ _
  refine c_5 (n := n + 5) (v := 30) (by omega) rfl (by decide) (by decide) ?_
  show WP (Call d) 83 P X (22, [some (vr (some a) 6)], [vr (some (n + 7)) 4, vr (some a) 6], (k5 (n + 5) (n + 7) 10 3 30 (gN (n + 4) 0 4 (gR a 1 (n + 5) (k5 (n + 3) (n + 5) 20 3 60 (gN (n + 2) 0 4 (gR a 0 (n + 3) (k5 (n + 1) (n + 3) 10 2 20 (gN n 0 4 (I, (R, Ln, K, n)))))))))), 6, 204)
  refine WP.go 3 (And.intro (And.intro rfl rfl) (And.intro (And.intro (show 7 ≤ 20 from by decide) (show 208 ≤ 1000 from by decide)) (?_)))
  show WP (Call d) 83 P X (25, [some (vr (some a) 6)], [vr (some (n + 9)) 4, vr (some a) 6], (gN (n + 6) 0 4 (gR a 2 (n + 7) (k5 (n + 5) (n + 7) 10 3 30 (gN (n + 4) 0 4 (gR a 1 (n + 5) (k5 (n + 3) (n + 5) 20 3 60 (gN (n + 2) 0 4 (gR a 0 (n + 3) (k5 (n + 1) (n + 3) 10 2 20 (gN n 0 4 (I, (R, Ln, K, n)))))))))))), 7, 208)
  refine WP.go 4 (And.intro (And.intro (show 8 ≤ 20 from by decide) (show 272 ≤ 1000 from by decide)) (And.intro rfl (?_)))
  show Call d 54 [vr (some (n + 9)) 4, vi 16, vi 4] (gN (n + 6) 0 4 (gR a 2 (n + 7) (k5 (n + 5) (n + 7) 10 3 30 (gN (n + 4) 0 4 (gR a 1 (n + 5) (k5 (n + 3) (n + 5) 20 3 60 (gN (n + 2) 0 4 (gR a 0 (n + 3) (k5 (n + 1) (n + 3) 10 2 20 (gN n 0 4 (I, (R, Ln, K, n)))))))))))) _ _
  refine c_5 (n := n + 7) (v := 64) (by omega) rfl (by decide) (by decide) ?_
  show WP (Call d) 83 P X (29, [some (vr (some a) 6)], [vr (some (n + 9)) 4, vr (some a) 6], (k5 (n + 7) (n + 9) 16 4 64 (gN (n + 6) 0 4 (gR a 2 (n + 7) (k5 (n + 5) (n + 7) 10 3 30 (gN (n + 4) 0 4 (gR a 1 (n + 5) (k5 (n + 3) (n + 5) 20 3 60 (gN (n + 2) 0 4 (gR a 0 (n + 3) (k5 (n + 1) (n + 3) 10 2 20 (gN n 0 4 (I, (R, Ln, K, n))))))))))))), 8, 272)
  refine WP.go 3 (And.intro (And.intro rfl rfl) (And.intro (And.intro (show 9 ≤ 20 from by decide) (show 276 ≤ 1000 from by decide)) (?_)))
  show WP (Call d) 83 P X (32, [some (vr (some a) 6)], [vr (some (n + 11)) 4, vr (some a) 6], (gN (n + 8) 0 4 (gR a 3 (n + 9) (k5 (n + 7) (n + 9) 16 4 64 (gN (n + 6) 0 4 (gR a 2 (n + 7) (k5 (n + 5) (n + 7) 10 3 30 (gN (n + 4) 0 4 (gR a 1 (n + 5) (k5 (n + 3) (n + 5) 20 3 60 (gN (n + 2) 0 4 (gR a 0 (n + 3) (k5 (n + 1) (n + 3) 10 2 20 (gN n 0 4 (I, (R, Ln, K, n))))))))))))))), 9, 276)
  refine WP.go 4 (And.intro (And.intro (show 10 ≤ 20 from by decide) (show 340 ≤ 1000 from by decide)) (And.intro rfl (?_)))
  show Call d 54 [vr (some (n + 11)) 4, vi 16, vi 3] (gN (n + 8) 0 4 (gR a 3 (n + 9) (k5 (n + 7) (n + 9) 16 4 64 (gN (n + 6) 0 4 (gR a 2 (n + 7) (k5 (n + 5) (n + 7) 10 3 30 (gN (n + 4) 0 4 (gR a 1 (n + 5) (k5 (n + 3) (n + 5) 20 3 60 (gN (n + 2) 0 4 (gR a 0 (n + 3) (k5 (n + 1) (n + 3) 10 2 20 (gN n 0 4 (I, (R, Ln, K, n))))))))))))))) _ _
  refine c_5 (n := n + 9) (v := 48) (by omega) rfl (by decide) (by decide) ?_
  show WP (Call d) 83 P X (36, [some (vr (some a) 6)], [vr (some (n + 11)) 4, vr (some a) 6], (k5 (n + 9) (n + 11) 16 3 48 (gN (n + 8) 0 4 (gR a 3 (n + 9) (k5 (n + 7) (n + 9) 16 4 64 (gN (n + 6) 0 4 (gR a 2 (n + 7) (k5 (n + 5) (n + 7) 10 3 30 (gN (n + 4) 0 4 (gR a 1 (n + 5) (k5 (n + 3) (n + 5) 20 3 60 (gN (n + 2) 0 4 (gR a 0 (n + 3) (k5 (n + 1) (n + 3) 10 2 20 (gN n 0 4 (I, (R, Ln, K, n)))))))))))))))), 10, 340)
  refine WP.go 3 (And.intro (And.intro rfl rfl) (And.intro (And.intro (show 11 ≤ 20 from by decide) (show 344 ≤ 1000 from by decide)) (?_)))
  show WP (Call d) 83 P X (39, [some (vr (some a) 6)], [vr (some (n + 13)) 4, vr (some a) 6], (gN (n + 10) 0 4 (gR a 4 (n + 11) (k5 (n + 9) (n + 11) 16 3 48 (gN (n + 8) 0 4 (gR a 3 (n + 9) (k5 (n + 7) (n + 9) 16 4 64 (gN (n + 6) 0 4 (gR a 2 (n + 7) (k5 (n + 5) (n + 7) 10 3 30 (gN (n + 4) 0 4 (gR a 1 (n + 5) (k5 (n + 3) (n + 5) 20 3 60 (gN (n + 2) 0 4 (gR a 0 (n + 3) (k5 (n + 1) (n + 3) 10 2 20 (gN n 0 4 (I, (R, Ln, K, n)))))))))))))))))), 11, 344)
  refine WP.go 4 (And.intro (And.intro (show 12 ≤ 20 from by decide) (show 408 ≤ 1000 from by decide)) (And.intro rfl (?_)))
  show Call d 54 [vr (some (n + 13)) 4, vi 8, vi 2] (gN (n + 10) 0 4 (gR a 4 (n + 11) (k5 (n + 9) (n + 11) 16 3 48 (gN (n + 8) 0 4 (gR a 3 (n + 9) (k5 (n + 7) (n + 9) 16 4 64 (gN (n + 6) 0 4 (gR a 2 (n + 7) (k5 (n + 5) (n + 7) 10 3 30 (gN (n + 4) 0 4 (gR a 1 (n + 5) (k5 (n + 3) (n + 5) 20 3 60 (gN (n + 2) 0 4 (gR a 0 (n + 3) (k5 (n + 1) (n + 3) 10 2 20 (gN n 0 4 (I, (R, Ln, K, n)))))))))))))))))) _ _
  refine c_5 (n := n + 11) (v := 16) (by omega) rfl (by decide) (by decide) ?_
  show WP (Call d) 83 P X (43, [some (vr (some a) 6)], [vr (some (n + 13)) 4, vr (some a) 6], (k5 (n + 11) (n + 13) 8 2 16 (gN (n + 10) 0 4 (gR a 4 (n + 11) (k5 (n + 9) (n + 11) 16 3 48 (gN (n + 8) 0 4 (gR a 3 (n + 9) (k5 (n + 7) (n + 9) 16 4 64 (gN (n + 6) 0 4 (gR a 2 (n + 7) (k5 (n + 5) (n + 7) 10 3 30 (gN (n + 4) 0 4 (gR a 1 (n + 5) (k5 (n + 3) (n + 5) 20 3 60 (gN (n + 2) 0 4 (gR a 0 (n + 3) (k5 (n + 1) (n + 3) 10 2 20 (gN n 0 4 (I, (R, Ln, K, n))))))))))))))))))), 12, 408)
  refine WP.go 3 (And.intro (And.intro rfl rfl) (And.intro (And.intro (show 13 ≤ 20 from by decide) (show 412 ≤ 1000 from by decide)) (?_)))
  show WP (Call d) 83 P X (46, [some (vr (some a) 6)], [vr (some (n + 15)) 4, vr (some a) 6], (gN (n + 12) 0 4 (gR a 5 (n + 13) (k5 (n + 11) (n + 13) 8 2 16 (gN (n + 10) 0 4 (gR a 4 (n + 11) (k5 (n + 9) (n + 11) 16 3 48 (gN (n + 8) 0 4 (gR a 3 (n + 9) (k5 (n + 7) (n + 9) 16 4 64 (gN (n + 6) 0 4 (gR a 2 (n + 7) (k5 (n + 5) (n + 7) 10 3 30 (gN (n + 4) 0 4 (gR a 1 (n + 5) (k5 (n + 3) (n + 5) 20 3 60 (gN (n + 2) 0 4 (gR a 0 (n + 3) (k5 (n + 1) (n + 3) 10 2 20 (gN n 0 4 (I, (R, Ln, K, n))))))))))))))))))))), 13, 412)
  refine WP.go 4 (And.intro (And.intro (show 14 ≤ 20 from by decide) (show 476 ≤ 1000 from by decide)) (And.intro rfl (?_)))
  show Call d 54 [vr (some (n + 15)) 4, vi 16, vi 3] (gN (n + 12) 0 4 (gR a 5 (n + 13) (k5 (n + 11) (n + 13) 8 2 16 (gN (n + 10) 0 4 (gR a 4 (n + 11) (k5 (n + 9) (n + 11) 16 3 48 (gN (n + 8) 0 4 (gR a 3 (n + 9) (k5 (n + 7) (n + 9) 16 4 64 (gN (n + 6) 0 4 (gR a 2 (n + 7) (k5 (n + 5) (n + 7) 10 3 30 (gN (n + 4) 0 4 (gR a 1 (n + 5) (k5 (n + 3) (n + 5) 20 3 60 (gN (n + 2) 0 4 (gR a 0 (n + 3) (k5 (n + 1) (n + 3) 10 2 20 (gN n 0 4 (I, (R, Ln, K, n))))))))))))))))))))) _ _
  refine c_5 (n := n + 13) (v := 48) (by omega) rfl (by decide) (by decide) ?_
  show WP (Call d) 83 P X (50, [some (vr (some a) 6)], [vr (some (n + 15)) 4, vr (some a) 6], (k5 (n + 13) (n + 15) 16 3 48 (gN (n + 12) 0 4 (gR a 5 (n + 13) (k5 (n + 11) (n + 13) 8 2 16 (gN (n + 10) 0 4 (gR a 4 (n + 11) (k5 (n + 9) (n + 11) 16 3 48 (gN (n + 8) 0 4 (gR a 3 (n + 9) (k5 (n + 7) (n + 9) 16 4 64 (gN (n + 6) 0 4 (gR a 2 (n + 7) (k5 (n + 5) (n + 7) 10 3 30 (gN (n + 4) 0 4 (gR a 1 (n + 5) (k5 (n + 3) (n + 5) 20 3 60 (gN (n + 2) 0 4 (gR a 0 (n + 3) (k5 (n + 1) (n + 3) 10 2 20 (gN n 0 4 (I, (R, Ln, K, n)))))))))))))))))))))), 14, 476)
  refine WP.go 3 (And.intro (And.intro rfl rfl) (And.intro (And.intro (show 15 ≤ 20 from by decide) (show 480 ≤ 1000 from by decide)) (?_)))
  show WP (Call d) 83 P X (53, [some (vr (some a) 6)], [vr (some (n + 17)) 4, vr (some a) 6], (gN (n + 14) 0 4 (gR a 6 (n + 15) (k5 (n + 13) (n + 15) 16 3 48 (gN (n + 12) 0 4 (gR a 5 (n + 13) (k5 (n + 11) (n + 13) 8 2 16 (gN (n + 10) 0 4 (gR a 4 (n + 11) (k5 (n + 9) (n + 11) 16 3 48 (gN (n + 8) 0 4 (gR a 3 (n + 9) (k5 (n + 7) (n + 9) 16 4 64 (gN (n + 6) 0 4 (gR a 2 (n + 7) (k5 (n + 5) (n + 7) 10 3 30 (gN (n + 4) 0 4 (gR a 1 (n + 5) (k5 (n + 3) (n + 5) 20 3 60 (gN (n + 2) 0 4 (gR a 0 (n + 3) (k5 (n + 1) (n + 3) 10 2 20 (gN n 0 4 (I, (R, Ln, K, n)))))))))))))))))))))))), 15, 480)
  refine WP.go 4 (And.intro (And.intro (show 16 ≤ 20 from by decide) (show 544 ≤ 1000 from by decide)) (And.intro rfl (?_)))
  show Call d 54 [vr (some (n + 17)) 4, vi 20, vi 2] (gN (n + 14) 0 4 (gR a 6 (n + 15) (k5 (n + 13) (n + 15) 16 3 48 (gN (n + 12) 0 4 (gR a 5 (n + 13) (k5 (n + 11) (n + 13) 8 2 16 (gN (n + 10) 0 4 (gR a 4 (n + 11) (k5 (n + 9) (n + 11) 16 3 48 (gN (n + 8) 0 4 (gR a 3 (n + 9) (k5 (n + 7) (n + 9) 16 4 64 (gN (n + 6) 0 4 (gR a 2 (n + 7) (k5 (n + 5) (n + 7) 10 3 30 (gN (n + 4) 0 4 (gR a 1 (n + 5) (k5 (n + 3) (n + 5) 20 3 60 (gN (n + 2) 0 4 (gR a 0 (n + 3) (k5 (n + 1) (n + 3) 10 2 20 (gN n 0 4 (I, (R, Ln, K, n)))))))))))))))))))))))) _ _
  refine c_5 (n := n + 15) (v := 40) (by omega) rfl (by decide) (by decide) ?_
  show WP (Call d) 83 P X (57, [some (vr (some a) 6)], [vr (some (n + 17)) 4, vr (some a) 6], (k5 (n + 15) (n + 17) 20 2 40 (gN (n + 14) 0 4 (gR a 6 (n + 15) (k5 (n + 13) (n + 15) 16 3 48 (gN (n + 12) 0 4 (gR a 5 (n + 13) (k5 (n + 11) (n + 13) 8 2 16 (gN (n + 10) 0 4 (gR a 4 (n + 11) (k5 (n + 9) (n + 11) 16 3 48 (gN (n + 8) 0 4 (gR a 3 (n + 9) (k5 (n + 7) (n + 9) 16 4 64 (gN (n + 6) 0 4 (gR a 2 (n + 7) (k5 (n + 5) (n + 7) 10 3 30 (gN (n + 4) 0 4 (gR a 1 (n + 5) (k5 (n + 3) (n + 5) 20 3 60 (gN (n + 2) 0 4 (gR a 0 (n + 3) (k5 (n + 1) (n + 3) 10 2 20 (gN n 0 4 (I, (R, Ln, K, n))))))))))))))))))))))))), 16, 544)
  refine WP.go 4 (And.intro (And.intro rfl rfl) (And.intro (And.intro (And.intro (by decide) (by decide)) (And.intro (show 17 ≤ 20 from by decide) (show 549 ≤ 1000 from by decide))) (?_)))
  show WP (Call d) 83 P X (61, [some (vr (some a) 6)], [vr (some (n + 19)) 11, vr (some a) 6], (gN (n + 16) 5 11 (gR a 7 (n + 17) (k5 (n + 15) (n + 17) 20 2 40 (gN (n + 14) 0 4 (gR a 6 (n + 15) (k5 (n + 13) (n + 15) 16 3 48 (gN (n + 12) 0 4 (gR a 5 (n + 13) (k5 (n + 11) (n + 13) 8 2 16 (gN (n + 10) 0 4 (gR a 4 (n + 11) (k5 (n + 9) (n + 11) 16 3 48 (gN (n + 8) 0 4 (gR a 3 (n + 9) (k5 (n + 7) (n + 9) 16 4 64 (gN (n + 6) 0 4 (gR a 2 (n + 7) (k5 (n + 5) (n + 7) 10 3 30 (gN (n + 4) 0 4 (gR a 1 (n + 5) (k5 (n + 3) (n + 5) 20 3 60 (gN (n + 2) 0 4 (gR a 0 (n + 3) (k5 (n + 1) (n + 3) 10 2 20 (gN n 0 4 (I, (R, Ln, K, n))))))))))))))))))))))))))), 17, 549)
  refine WP.go 4 (And.intro (And.intro rfl (And.intro (by decide) (show (0 : Int) < (if ((n + 19) : Nat) = (n + 19) then (5 : Int) else _) from by rw [if_pos rfl]; decide))) (?_))
  show WP (Call d) 83 P X (65, [some (vr (some a) 6)], [vr (some (n + 19)) 11, vr (some a) 6], (gS (n + 19) 0 0 (gN (n + 16) 5 11 (gR a 7 (n + 17) (k5 (n + 15) (n + 17) 20 2 40 (gN (n + 14) 0 4 (gR a 6 (n + 15) (k5 (n + 13) (n + 15) 16 3 48 (gN (n + 12) 0 4 (gR a 5 (n + 13) (k5 (n + 11) (n + 13) 8 2 16 (gN (n + 10) 0 4 (gR a 4 (n + 11) (k5 (n + 9) (n + 11) 16 3 48 (gN (n + 8) 0 4 (gR a 3 (n + 9) (k5 (n + 7) (n + 9) 16 4 64 (gN (n + 6) 0 4 (gR a 2 (n + 7) (k5 (n + 5) (n + 7) 10 3 30 (gN (n + 4) 0 4 (gR a 1 (n + 5) (k5 (n + 3) (n + 5) 20 3 60 (gN (n + 2) 0 4 (gR a 0 (n + 3) (k5 (n + 1) (n + 3) 10 2 20 (gN n 0 4 (I, (R, Ln, K, n)))))))))))))))))))))))))))), 17, 549)
  refine WP.go 4 (And.intro (And.intro rfl (And.intro (by decide) (show (1 : Int) < (if ((n + 19) : Nat) = (n + 19) then (5 : Int) else _) from by rw [if_pos rfl]; decide))) (?_))
  show WP (Call d) 83 P X (69, [some (vr (some a) 6)], [vr (some (n + 19)) 11, vr (some a) 6], (gS (n + 19) 1 3 (gS (n + 19) 0 0 (gN (n + 16) 5 11 (gR a 7 (n + 17) (k5 (n + 15) (n + 17) 20 2 40 (gN (n + 14) 0 4 (gR a 6 (n + 15) (k5 (n + 13) (n + 15) 16 3 48 (gN (n + 12) 0 4 (gR a 5 (n + 13) (k5 (n + 11) (n + 13) 8 2 16 (gN (n + 10) 0 4 (gR a 4 (n + 11) (k5 (n + 9) (n + 11) 16 3 48 (gN (n + 8) 0 4 (gR a 3 (n + 9) (k5 (n + 7) (n + 9) 16 4 64 (gN (n + 6) 0 4 (gR a 2 (n + 7) (k5 (n + 5) (n + 7) 10 3 30 (gN (n + 4) 0 4 (gR a 1 (n + 5) (k5 (n + 3) (n + 5) 20 3 60 (gN (n + 2) 0 4 (gR a 0 (n + 3) (k5 (n + 1) (n + 3) 10 2 20 (gN n 0 4 (I, (R, Ln, K, n))))))))))))))))))))))))))))), 17, 549)
  refine WP.go 4 (And.intro (And.intro rfl (And.intro (by decide) (show (2 : Int) < (if ((n + 19) : Nat) = (n + 19) then (5 : Int) else _) from by rw [if_pos rfl]; decide))) (?_))
  show WP (Call d) 83 P X (73, [some (vr (some a) 6)], [vr (some (n + 19)) 11, vr (some a) 6], (gS (n + 19) 2 (-1) (gS (n + 19) 1 3 (gS (n + 19) 0 0 (gN (n + 16) 5 11 (gR a 7 (n + 17) (k5 (n + 15) (n + 17) 20 2 40 (gN (n + 14) 0 4 (gR a 6 (n + 15) (k5 (n + 13) (n + 15) 16 3 48 (gN (n + 12) 0 4 (gR a 5 (n + 13) (k5 (n + 11) (n + 13) 8 2 16 (gN (n + 10) 0 4 (gR a 4 (n + 11) (k5 (n + 9) (n + 11) 16 3 48 (gN (n + 8) 0 4 (gR a 3 (n + 9) (k5 (n + 7) (n + 9) 16 4 64 (gN (n + 6) 0 4 (gR a 2 (n + 7) (k5 (n + 5) (n + 7) 10 3 30 (gN (n + 4) 0 4 (gR a 1 (n + 5) (k5 (n + 3) (n + 5) 20 3 60 (gN (n + 2) 0 4 (gR a 0 (n + 3) (k5 (n + 1) (n + 3) 10 2 20 (gN n 0 4 (I, (R, Ln, K, n)))))))))))))))))))))))))))))), 17, 549)
  refine WP.go 4 (And.intro (And.intro rfl (And.intro (by decide) (show (3 : Int) < (if ((n + 19) : Nat) = (n + 19) then (5 : Int) else _) from by rw [if_pos rfl]; decide))) (?_))
  show WP (Call d) 83 P X (77, [some (vr (some a) 6)], [vr (some (n + 19)) 11, vr (some a) 6], (gS (n + 19) 3 48 (gS (n + 19) 2 (-1) (gS (n + 19) 1 3 (gS (n + 19) 0 0 (gN (n + 16) 5 11 (gR a 7 (n + 17) (k5 (n + 15) (n + 17) 20 2 40 (gN (n + 14) 0 4 (gR a 6 (n + 15) (k5 (n + 13) (n + 15) 16 3 48 (gN (n + 12) 0 4 (gR a 5 (n + 13) (k5 (n + 11) (n + 13) 8 2 16 (gN (n + 10) 0 4 (gR a 4 (n + 11) (k5 (n + 9) (n + 11) 16 3 48 (gN (n + 8) 0 4 (gR a 3 (n + 9) (k5 (n + 7) (n + 9) 16 4 64 (gN (n + 6) 0 4 (gR a 2 (n + 7) (k5 (n + 5) (n + 7) 10 3 30 (gN (n + 4) 0 4 (gR a 1 (n + 5) (k5 (n + 3) (n + 5) 20 3 60 (gN (n + 2) 0 4 (gR a 0 (n + 3) (k5 (n + 1) (n + 3) 10 2 20 (gN n 0 4 (I, (R, Ln, K, n))))))))))))))))))))))))))))))), 17, 549)
  refine WP.go 4 (And.intro (And.intro rfl (And.intro (by decide) (show (4 : Int) < (if ((n + 19) : Nat) = (n + 19) then (5 : Int) else _) from by rw [if_pos rfl]; decide))) (?_))
  show WP (Call d) 83 P X (81, [some (vr (some a) 6)], [vr (some (n + 19)) 11, vr (some a) 6], (gS (n + 19) 4 72 (gS (n + 19) 3 48 (gS (n + 19) 2 (-1) (gS (n + 19) 1 3 (gS (n + 19) 0 0 (gN (n + 16) 5 11 (gR a 7 (n + 17) (k5 (n + 15) (n + 17) 20 2 40 (gN (n + 14) 0 4 (gR a 6 (n + 15) (k5 (n + 13) (n + 15) 16 3 48 (gN (n + 12) 0 4 (gR a 5 (n + 13) (k5 (n + 11) (n + 13) 8 2 16 (gN (n + 10) 0 4 (gR a 4 (n + 11) (k5 (n + 9) (n + 11) 16 3 48 (gN (n + 8) 0 4 (gR a 3 (n + 9) (k5 (n + 7) (n + 9) 16 4 64 (gN (n + 6) 0 4 (gR a 2 (n + 7) (k5 (n + 5) (n + 7) 10 3 30 (gN (n + 4) 0 4 (gR a 1 (n + 5) (k5 (n + 3) (n + 5) 20 3 60 (gN (n + 2) 0 4 (gR a 0 (n + 3) (k5 (n + 1) (n + 3) 10 2 20 (gN n 0 4 (I, (R, Ln, K, n)))))))))))))))))))))))))))))))), 17, 549)
  refine WP.go 4 (And.intro (And.intro rfl rfl) (And.intro (And.intro (And.intro (by decide) (by decide)) (And.intro (show 18 ≤ 20 from by decide) (show 649 ≤ 1000 from by decide))) (?_)))
  show WP (Call d) 83 P X (85, [some (vr (some a) 6)], [vr (some (n + 20)) 11, vr (some a) 6], (gN (n + 17) 100 11 (gR a 8 (n + 19) (gS (n + 19) 4 72 (gS (n + 19) 3 48 (gS (n + 19) 2 (-1) (gS (n + 19) 1 3 (gS (n + 19) 0 0 (gN (n + 16) 5 11 (gR a 7 (n + 17) (k5 (n + 15) (n + 17) 20 2 40 (gN (n + 14) 0 4 (gR a 6 (n + 15) (k5 (n + 13) (n + 15) 16 3 48 (gN (n + 12) 0 4 (gR a 5 (n + 13) (k5 (n + 11) (n + 13) 8 2 16 (gN (n + 10) 0 4 (gR a 4 (n + 11) (k5 (n + 9) (n + 11) 16 3 48 (gN (n + 8) 0 4 (gR a 3 (n + 9) (k5 (n + 7) (n + 9) 16 4 64 (gN (n + 6) 0 4 (gR a 2 (n + 7) (k5 (n + 5) (n + 7) 10 3 30 (gN (n + 4) 0 4 (gR a 1 (n + 5) (k5 (n + 3) (n + 5) 20 3 60 (gN (n + 2) 0 4 (gR a 0 (n + 3) (k5 (n + 1) (n + 3) 10 2 20 (gN n 0 4 (I, (R, Ln, K, n)))))))))))))))))))))))))))))))))), 18, 649)
  refine WP.go 4 (And.intro (And.intro rfl rfl) (And.intro (And.intro (And.intro (by decide) (by decide)) (And.intro (show 19 ≤ 20 from by decide) (show 749 ≤ 1000 from by decide))) (?_)))
  show WP (Call d) 83 P X (89, [some (vr (some a) 6)], [vr (some (n + 21)) 11, vr (some a) 6], (gN (n + 18) 100 11 (gR a 9 (n + 20) (gN (n + 17) 100 11 (gR a 8 (n + 19) (gS (n + 19) 4 72 (gS (n + 19) 3 48 (gS (n + 19) 2 (-1) (gS (n + 19) 1 3 (gS (n + 19) 0 0 (gN (n + 16) 5 11 (gR a 7 (n + 17) (k5 (n + 15) (n + 17) 20 2 40 (gN (n + 14) 0 4 (gR a 6 (n + 15) (k5 (n + 13) (n + 15) 16 3 48 (gN (n + 12) 0 4 (gR a 5 (n + 13) (k5 (n + 11) (n + 13) 8 2 16 (gN (n + 10) 0 4 (gR a 4 (n + 11) (k5 (n + 9) (n + 11) 16 3 48 (gN (n + 8) 0 4 (gR a 3 (n + 9) (k5 (n + 7) (n + 9) 16 4 64 (gN (n + 6) 0 4 (gR a 2 (n + 7) (k5 (n + 5) (n + 7) 10 3 30 (gN (n + 4) 0 4 (gR a 1 (n + 5) (k5 (n + 3) (n + 5) 20 3 60 (gN (n + 2) 0 4 (gR a 0 (n + 3) (k5 (n + 1) (n + 3) 10 2 20 (gN n 0 4 (I, (R, Ln, K, n)))))))))))))))))))))))))))))))))))), 19, 749)
  refine WP.go 4 (And.intro (And.intro rfl rfl) (And.intro (And.intro (And.intro (by decide) (by decide)) (And.intro (show 20 ≤ 20 from by decide) (show 755 ≤ 1000 from by decide))) (?_)))
  show WP (Call d) 83 P X (93, [some (vr (some a) 6)], [vr (some (n + 22)) 12, vr (some a) 6], (gN (n + 19) 6 12 (gR a 10 (n + 21) (gN (n + 18) 100 11 (gR a 9 (n + 20) (gN (n + 17) 100 11 (gR a 8 (n + 19) (gS (n + 19) 4 72 (gS (n + 19) 3 48 (gS (n + 19) 2 (-1) (gS (n + 19) 1 3 (gS (n + 19) 0 0 (gN (n + 16) 5 11 (gR a 7 (n + 17) (k5 (n + 15) (n + 17) 20 2 40 (gN (n + 14) 0 4 (gR a 6 (n + 15) (k5 (n + 13) (n + 15) 16 3 48 (gN (n + 12) 0 4 (gR a 5 (n + 13) (k5 (n + 11) (n + 13) 8 2 16 (gN (n + 10) 0 4 (gR a 4 (n + 11) (k5 (n + 9) (n + 11) 16 3 48 (gN (n + 8) 0 4 (gR a 3 (n + 9) (k5 (n + 7) (n + 9) 16 4 64 (gN (n + 6) 0 4 (gR a 2 (n + 7) (k5 (n + 5) (n + 7) 10 3 30 (gN (n + 4) 0 4 (gR a 1 (n + 5) (k5 (n + 3) (n + 5) 20 3 60 (gN (n + 2) 0 4 (gR a 0 (n + 3) (k5 (n + 1) (n + 3) 10 2 20 (gN n 0 4 (I, (R, Ln, K, n)))))))))))))))))))))))))))))))))))))), 20, 755)
  refine WP.go 8 (And.intro (And.intro rfl rfl) (And.intro (And.intro rfl trivial) (And.intro (And.intro rfl trivial) (And.intro (And.intro (show 20 ≤ 20 from by decide) (show 755 ≤ 1000 from by decide)) (?_)))))
  exact h
theorem k8_ag {n a : Nat} {g h : qH} (q : AG g h) : AG (k8 n a g) (k8 n a h) := by
  unfold k8
  repeat first | exact q | apply gS_ag | apply gR_ag | apply gN_ag | apply k0_ag | apply k1_ag | apply k2_ag | apply k7_3_ag | apply k7_7_ag | apply k7_8_ag | apply k6_ag | (unfold k5)
theorem k8_s2 {n a : Nat} {g h : qH} (q : SC2 g h) (za : 3 ≤ a) : SC2 g (k8 n a h) := by
  unfold k8
  repeat first | exact q | refine gS_s2 ?_ (by omega) | refine gR_s2 ?_ | refine gN_s2 ?_ | refine k5_s2 ?_ (by omega) | refine k0_s2 ?_ (by omega) (by omega) | refine k1_s2 ?_ (by omega) | refine k2_s2 ?_ (by omega) (by omega) (by omega) | refine k7_3_s2 ?_ (by omega) | refine k7_7_s2 ?_ (by omega) | refine k7_8_s2 ?_ (by omega) | refine k6_s2 ?_ (by omega)
def k3 (n : Nat) (a : Nat) (g : qH) : qH := (gS a 5 0 (gR a 4 (n + 5) (gN (n + 2) 800 11 (k7_3 n a g))))
theorem c_3 {d : Nat} {P : Option qV → qH → Prop} {X : Nat → qH → Prop} {g : qH} {n a : Nat} (hd : 2 ≤ d) (hn : g.2.2.2.2 = n) (h : P none (k3 n a g)) :
    Call d 37 [vr (some a) 3] g P X := by
  obtain ⟨d, rfl⟩ : ∃ e, d = e + 1 := ⟨d - 1, by omega⟩
  obtain ⟨I, R, Ln, K, m⟩ := g
  have hn : n = m := hn.symm
  subst hn
  show WP (Call d) 37 P X (0, [some (vr (some a) 3)], [], (I, (R, Ln, K, n)), 0, 0)
  refine WP.go 2 (And.intro (And.intro (show 2 ≤ 3 from by decide) (show 900 ≤ 1800 from by decide)) (And.intro rfl (?_)))
  show Call d 69 [vr (some a) 3] (I, (R, Ln, K, n)) _ _
  refine c_7_3 (n := n) (by omega) rfl ?_
  show WP (Call d) 37 P X (2, [some (vr (some a) 3)], [], (k7_3 n a (I, (R, Ln, K, n))), 2, 900)
  refine WP.go 3 (And.intro (And.intro (And.intro (by decide) (by decide)) (And.intro (show 3 ≤ 3 from by decide) (show 1700 ≤ 1800 from by decide))) (?_))
  show WP (Call d) 37 P X (5, [some (vr (some a) 3)], [vr (some (n + 5)) 11, vr (some a) 3], (gN (n + 2) 800 11 (k7_3 n a (I, (R, Ln, K, n)))), 3, 1700)
  refine WP.go 5 (And.intro (And.intro rfl rfl) (And.intro (And.intro rfl trivial) (And.intro (And.intro (show 3 ≤ 3 from by decide) (show 1700 ≤ 1800 from by decide)) (?_))))
  exact h
theorem k3_ag {n a : Nat} {g h : qH} (q : AG g h) : AG (k3 n a g) (k3 n a h) := by
  unfold k3
  repeat first | exact q | apply gS_ag | apply gR_ag | apply gN_ag | apply k0_ag | apply k1_ag | apply k2_ag | apply k7_3_ag | apply k7_7_ag | apply k7_8_ag | apply k6_ag | apply k8_ag | (unfold k5)
theorem k3_s2 {n a : Nat} {g h : qH} (q : SC2 g h) (za : 3 ≤ a) : SC2 g (k3 n a h) := by
  unfold k3
  repeat first | exact q | refine gS_s2 ?_ (by omega) | refine gR_s2 ?_ | refine gN_s2 ?_ | refine k5_s2 ?_ (by omega) | refine k0_s2 ?_ (by omega) (by omega) | refine k1_s2 ?_ (by omega) | refine k2_s2 ?_ (by omega) (by omega) (by omega) | refine k7_3_s2 ?_ (by omega) | refine k7_7_s2 ?_ (by omega) | refine k7_8_s2 ?_ (by omega) | refine k6_s2 ?_ (by omega) | refine k8_s2 ?_ (by omega)
def k9 (n : Nat) (a : Nat) (t : Nat) (g : qH) : qH := (gR a 4 t (k7_7 n a g))
theorem c_9 {d : Nat} {P : Option qV → qH → Prop} {X : Nat → qH → Prop} {g : qH} {n a t : Nat} (hd : 2 ≤ d) (hn : g.2.2.2.2 = n) (h : P none (k9 n a t g)) :
    Call d 105 [vr (some a) 7, vr (some t) 6] g P X := by
  obtain ⟨d, rfl⟩ : ∃ e, d = e + 1 := ⟨d - 1, by omega⟩
  obtain ⟨I, R, Ln, K, m⟩ := g
  have hn : n = m := hn.symm
  subst hn
  show WP (Call d) 105 P X (0, [some (vr (some a) 7), some (vr (some t) 6)], [], (I, (R, Ln, K, n)), 0, 0)
  refine WP.go 2 (And.intro (And.intro (show 2 ≤ 2 from by decide) (show 900 ≤ 900 from by decide)) (And.intro rfl (?_)))
  show Call d 69 [vr (some a) 7] (I, (R, Ln, K, n)) _ _
  refine c_7_7 (n := n) (by omega) rfl ?_
  show WP (Call d) 105 P X (2, [some (vr (some a) 7), some (vr (some t) 6)], [], (k7_7 n a (I, (R, Ln, K, n))), 2, 900)
  refine WP.go 4 (And.intro (And.intro rfl rfl) (And.intro (And.intro (show 2 ≤ 2 from by decide) (show 900 ≤ 900 from by decide)) (?_)))
  exact h
theorem k9_ag {n a t : Nat} {g h : qH} (q : AG g h) : AG (k9 n a t g) (k9 n a t h) := by
  unfold k9
  repeat first | exact q | apply gS_ag | apply gR_ag | apply gN_ag | apply k0_ag | apply k1_ag | apply k2_ag | apply k7_3_ag | apply k7_7_ag | apply k7_8_ag | apply k6_ag | apply k8_ag | apply k3_ag | (unfold k5)
theorem k9_s2 {n a t : Nat} {g h : qH} (q : SC2 g h) (za : 3 ≤ a) (zt : 3 ≤ t) : SC2 g (k9 n a t h) := by
  unfold k9
  repeat first | exact q | refine gS_s2 ?_ (by omega) | refine gR_s2 ?_ | refine gN_s2 ?_ | refine k5_s2 ?_ (by omega) | refine k0_s2 ?_ (by omega) (by omega) | refine k1_s2 ?_ (by omega) | refine k2_s2 ?_ (by omega) (by omega) (by omega) | refine k7_3_s2 ?_ (by omega) | refine k7_7_s2 ?_ (by omega) | refine k7_8_s2 ?_ (by omega) | refine k6_s2 ?_ (by omega) | refine k8_s2 ?_ (by omega) | refine k3_s2 ?_ (by omega)
def k10 (n : Nat) (a : Nat) (g : qH) : qH := (gS a 5 0 (gS a 4 (-1) (k7_8 n a g)))
theorem c_10 {d : Nat} {P : Option qV → qH → Prop} {X : Nat → qH → Prop} {g : qH} {n a : Nat} (hd : 2 ≤ d) (hn : g.2.2.2.2 = n) (h : P none (k10 n a g)) :
    Call d 111 [vr (some a) 8] g P X := by
  obtain ⟨d, rfl⟩ : ∃ e, d = e + 1 := ⟨d - 1, by omega⟩
  obtain ⟨I, R, Ln, K, m⟩ := g
  have hn : n = m := hn.symm
  subst hn
  show WP (Call d) 111 P X (0, [some (vr (some a) 8)], [], (I, (R, Ln, K, n)), 0, 0)
  refine WP.go 2 (And.intro (And.intro (show 2 ≤ 2 from by decide) (show 900 ≤ 900 from by decide)) (And.intro rfl (?_)))
  show Call d 69 [vr (some a) 8] (I, (R, Ln, K, n)) _ _
  refine c_7_8 (n := n) (by omega) rfl ?_
  show WP (Call d) 111 P X (2, [some (vr (some a) 8)], [], (k7_8 n a (I, (R, Ln, K, n))), 2, 900)
  refine WP.go 7 (And.intro (And.intro rfl trivial) (And.intro (And.intro rfl trivial) (And.intro (And.intro (show 2 ≤ 2 from by decide) (show 900 ≤ 900 from by decide)) (?_))))
  exact h
theorem k10_ag {n a : Nat} {g h : qH} (q : AG g h) : AG (k10 n a g) (k10 n a h) := by
  unfold k10
  repeat first | exact q | apply gS_ag | apply gR_ag | apply gN_ag | apply k0_ag | apply k1_ag | apply k2_ag | apply k7_3_ag | apply k7_7_ag | apply k7_8_ag | apply k6_ag | apply k8_ag | apply k3_ag | apply k9_ag | (unfold k5)
theorem k10_s2 {n a : Nat} {g h : qH} (q : SC2 g h) (za : 3 ≤ a) : SC2 g (k10 n a h) := by
  unfold k10
  repeat first | exact q | refine gS_s2 ?_ (by omega) | refine gR_s2 ?_ | refine gN_s2 ?_ | refine k5_s2 ?_ (by omega) | refine k0_s2 ?_ (by omega) (by omega) | refine k1_s2 ?_ (by omega) | refine k2_s2 ?_ (by omega) (by omega) (by omega) | refine k7_3_s2 ?_ (by omega) | refine k7_7_s2 ?_ (by omega) | refine k7_8_s2 ?_ (by omega) | refine k6_s2 ?_ (by omega) | refine k8_s2 ?_ (by omega) | refine k3_s2 ?_ (by omega) | refine k9_s2 ?_ (by omega) (by omega)
