theorem zor_v {a b : Int} (ha : a = 0 ∨ a = 1) (hb : b = 0 ∨ b = 1) : zor a b = 0 ∨ zor a b = 1 := by
  rcases ha with rfl | rfl <;> rcases hb with rfl | rfl <;> decide
abbrev CKQ := List Int × Int × Int
/-- the clerk's stack, sum and void -/
def CKR (I : qI) (q : CKQ) : Prop := (I 82 2 = (q.1.length : Int) ∧ q.1.length ≤ 64) ∧ (∀ j : Nat, j < q.1.length → I 84 ((q.1.length : Int) - 1 - j) = q.1.getD j 0) ∧ I 82 3 = q.2.1 ∧ I 82 4 = q.2.2 ∧ (q.2.2 = 0 ∨ q.2.2 = 1)
def CKF (I J : qI) : Prop := ∀ a, a ≠ 82 → a ≠ 84 → J a = I a
theorem CKF.rf (I : qI) : CKF I I := fun _ _ _ => rfl
theorem CKF.tr {I J K : qI} (h : CKF I J) (g : CKF J K) : CKF I K := fun a q w => (g a q w).trans (h a q w)
theorem CKR.lay {I J : qI} {s : List Int} {S V v : Int} (h : CKR I (s, S, V)) (hl : s.length < 64) (e : J 82 = fun t => if t = 2 then (s.length : Int) + 1 else I 82 t) (f : J 84 = fun j => if j = (s.length : Int) then v else I 84 j) : CKR J (v :: s, S, V) := by
  obtain ⟨h1, h2, h3, h4, h5⟩ := h
  refine ⟨⟨by rw [e]; rfl, hl⟩, fun j hj => ?_, by rw [e]; exact h3, by rw [e]; exact h4, h5⟩
  rw [f]
  show (if ((s.length + 1 : Nat) : Int) - 1 - j = (s.length : Int) then v else I 84 (((s.length + 1 : Nat) : Int) - 1 - j)) = _
  cases j with
  | zero => rw [if_pos (by omega)]; rfl
  | succ j =>
    have hj : j + 1 < s.length + 1 := hj
    rw [if_neg (by omega), show ((s.length + 1 : Nat) : Int) - 1 - ((j + 1 : Nat) : Int) = (s.length : Int) - 1 - j by omega]
    exact h2 j (show j < s.length by omega)
theorem CKR.lift {I J : qI} {a : Int} {s : List Int} {S V : Int} (h : CKR I (a :: s, S, V)) (e : J 82 = fun t => if t = 2 then (s.length : Int) else I 82 t) (f : J 84 = I 84) : CKR J (s, S, V) ∧ I 84 (s.length : Int) = a := by
  obtain ⟨h1, h2, h3, h4, h5⟩ := h
  have hl : s.length + 1 ≤ 64 := h1.2
  refine ⟨⟨⟨by rw [e]; rfl, by show s.length ≤ 64; omega⟩, fun j hj => ?_, by rw [e]; exact h3, by rw [e]; exact h4, h5⟩, ?_⟩
  · have := h2 (j + 1) (by show j + 1 < s.length + 1; have : j < s.length := hj; omega)
    rw [f]
    show I 84 ((s.length : Int) - 1 - j) = s.getD j 0
    rw [show (((a :: s, S, V) : CKQ).1.length : Int) - 1 - ((j + 1 : Nat) : Int) = (s.length : Int) - 1 - j by show ((s.length + 1 : Nat) : Int) - 1 - ((j + 1 : Nat) : Int) = _; omega] at this
    exact this
  · have := h2 0 (by show 0 < s.length + 1; omega)
    rw [show (((a :: s, S, V) : CKQ).1.length : Int) - 1 - ((0 : Nat) : Int) = (s.length : Int) by show ((s.length + 1 : Nat) : Int) - 1 - ((0 : Nat) : Int) = _; omega] at this
    exact this
theorem CKR.up {I J : qI} {s : List Int} {S V S' V' : Int} (h : CKR I (s, S, V)) (e : ∀ t, t ≠ 3 → t ≠ 4 → J 82 t = I 82 t) (e3 : J 82 3 = S') (e4 : J 82 4 = V') (hv : V' = 0 ∨ V' = 1) (f : J 84 = I 84) : CKR J (s, S', V') := by
  obtain ⟨h1, h2, h3, h4, h5⟩ := h
  exact ⟨⟨by rw [e 2 (by omega) (by omega)]; exact h1.1, h1.2⟩, fun j hj => by rw [f]; exact h2 j hj, e3, e4, hv⟩
theorem ckS_j {F : Int → Int} {x : Int} {q : CKQ} (h : 2000 ≤ x) (h1 : x ≠ 2006) (h2 : x ≠ 2007) (h3 : x ≠ 2008) (h4 : x ≠ 2009) : ckS F x q = (ckP q.1.tail.tail (ckJ x (q.1.tail.headD 0) (q.1.headD 0)), q.2) := by
  unfold ckS
  rw [if_neg (by omega), if_neg (by omega), if_neg h1, if_neg h4, if_neg h2, if_neg h3]
theorem s_1_lay {d : Nat} {P : Option qV → qH → Prop} {X : Nat → qH → Prop} {I : qI} {H : qS} (hd : 1 ≤ d) {s : List Int} {S V : Int} {v : Int} (hS : Shp H) (hq : CKR I (s, S, V)) (h : ∀ J : qI, CKR J (ckP s v, S, V) → CKF I J → P none (J, H)) :
    Call d 23 [vr (some 82) 1, vi v] (I, H) P X := by
  obtain ⟨d, rfl⟩ : ∃ e, d = e + 1 := ⟨d - 1, by omega⟩
  have hl84 := hS.l84
  have hl := hq.1.2
  have hb : (s.length : Int) ≤ 64 := by have : s.length ≤ 64 := hl; omega
  show WP (Call d) 23 P X (0, [some (vr (some 82) 1), some (vi v)], [], (I, H), 0, 0)
  refine WP.go 2 (And.intro rfl (?_))
  refine rw_i (Q := fun x9 => WP (Call d) 23 P X (2, [some (vr (some 82) 1), some (vi v)], [vi x9], (I, H), 0, 0)) hq.1.1 ?_
  show WP (Call d) 23 P X (2, [some (vr (some 82) 1), some (vi v)], [vi (s.length : Int)], (I, H), 0, 0)
  refine WP.go 1 (And.intro (fun (b2 : (s.length : Int) < 0) => (absurd b2 (by omega))) (fun (b2 : ¬ (s.length : Int) < 0) => ?_))
  show WP (Call d) 23 P X (3, [some (vr (some 82) 1), some (vi v)], [], (I, H), 0, 0)
  refine WP.go 2 (And.intro rfl (?_))
  refine rw_i (Q := fun x9 => WP (Call d) 23 P X (5, [some (vr (some 82) 1), some (vi v)], [vi x9], (I, H), 0, 0)) hq.1.1 ?_
  show WP (Call d) 23 P X (5, [some (vr (some 82) 1), some (vi v)], [vi (s.length : Int)], (I, H), 0, 0)
  refine WP.go 4 (And.intro rfl (Exists.intro 84 (And.intro hS.r82_1 (And.intro (Or.inl rfl) (And.intro (fun (b8 : ¬ (s.length : Int) < H.2.1 84) => ?_) (fun (b8 : (s.length : Int) < H.2.1 84) => ?_))))))
  ·
    show WP (Call d) 23 P X (21, [some (vr (some 82) 1), some (vi v)], [], (I, H), 0, 0)
    refine WP.go 1 (And.intro (And.intro (Nat.le_of_ble_eq_true rfl) (Nat.le_of_ble_eq_true rfl)) (?_))
    show P none (I, H)
    exact h _ (by rw [show ckP s v = s from if_neg (by omega)]; exact hq) (CKF.rf I)
  ·
    show WP (Call d) 23 P X (9, [some (vr (some 82) 1), some (vi v)], [], (I, H), 0, 0)
    refine WP.go 4 (And.intro rfl (Exists.intro 84 (And.intro hS.r82_1 (And.intro rfl (?_)))))
    refine rw_i (Q := fun x9 => WP (Call d) 23 P X (13, [some (vr (some 82) 1), some (vi v)], [vi x9, vr (some 84) 11], (I, H), 0, 0)) hq.1.1 ?_
    show WP (Call d) 23 P X (13, [some (vr (some 82) 1), some (vi v)], [vi (s.length : Int), vr (some 84) 11], (I, H), 0, 0)
    refine WP.go 5 (And.intro (And.intro rfl (And.intro (show 0 ≤ (s.length : Int) from by omega) (show (s.length : Int) < H.2.1 84 from by omega))) (And.intro rfl (?_)))
    refine rw_i (Q := fun x9 => WP (Call d) 23 P X (18, [some (vr (some 82) 1), some (vi v)], [vi x9, vr (some 82) 1], ((upI I 84 (s.length : Int) v), H), 0, 0)) hq.1.1 ?_
    show WP (Call d) 23 P X (18, [some (vr (some 82) 1), some (vi v)], [vi (s.length : Int), vr (some 82) 1], ((upI I 84 (s.length : Int) v), H), 0, 0)
    refine WP.go 4 (Exists.intro ((s.length : Int) + 1) (And.intro (wrp_a (by omega) (by omega)) (And.intro (And.intro rfl trivial) (And.intro (And.intro (Nat.le_of_ble_eq_true rfl) (Nat.le_of_ble_eq_true rfl)) (?_)))))
    show P none ((upI (upI I 84 (s.length : Int) v) 82 2 ((s.length : Int) + 1)), H)
    exact h _ (by rw [show ckP s v = v :: s from if_pos (by omega)]; exact hq.lay (by omega) (by rw [upI_self, upI_cell (by omega)]) (by rw [upI_cell (by omega), upI_self])) (fun a q1 q2 => by rw [upI_cell q1, upI_cell q2])

theorem s_1_lift {d : Nat} {P : Option qV → qH → Prop} {X : Nat → qH → Prop} {I : qI} {H : qS} (hd : 1 ≤ d) {s : List Int} {S V : Int} (hS : Shp H) (hq : CKR I (s, S, V)) (h : ∀ J : qI, CKR J (s.tail, S, V) → CKF I J → P (some (vi (s.headD 0))) (J, H)) :
    Call d 24 [vr (some 82) 1] (I, H) P X := by
  obtain ⟨d, rfl⟩ : ∃ e, d = e + 1 := ⟨d - 1, by omega⟩
  have hl84 := hS.l84
  have hl := hq.1.2
  have hb : (s.length : Int) ≤ 64 := by have : s.length ≤ 64 := hl; omega
  show WP (Call d) 24 P X (0, [some (vr (some 82) 1)], [], (I, H), 0, 0)
  refine WP.go 2 (And.intro rfl (?_))
  refine rw_i (Q := fun x9 => WP (Call d) 24 P X (2, [some (vr (some 82) 1)], [vi x9], (I, H), 0, 0)) hq.1.1 ?_
  show WP (Call d) 24 P X (2, [some (vr (some 82) 1)], [vi (s.length : Int)], (I, H), 0, 0)
  refine WP.go 1 (And.intro (fun (b2 : ¬ 0 < (s.length : Int)) => ?_) (fun (b2 : 0 < (s.length : Int)) => ?_))
  ·
    show WP (Call d) 24 P X (9, [some (vr (some 82) 1)], [], (I, H), 0, 0)
    refine WP.go 2 (And.intro (And.intro (Nat.le_of_ble_eq_true rfl) (Nat.le_of_ble_eq_true rfl)) (And.intro trivial (?_)))
    show P (some (vi 0)) (I, H)
    have hs : s = [] := List.eq_nil_of_length_eq_zero (by omega)
    subst hs
    exact h _ hq (CKF.rf I)
  ·
    show WP (Call d) 24 P X (3, [some (vr (some 82) 1)], [], (I, H), 0, 0)
    refine WP.go 2 (And.intro rfl (?_))
    refine rw_i (Q := fun x9 => WP (Call d) 24 P X (5, [some (vr (some 82) 1)], [vi x9], (I, H), 0, 0)) hq.1.1 ?_
    show WP (Call d) 24 P X (5, [some (vr (some 82) 1)], [vi (s.length : Int)], (I, H), 0, 0)
    refine WP.go 4 (And.intro rfl (Exists.intro 84 (And.intro hS.r82_1 (And.intro (Or.inl rfl) (And.intro (fun (b8 : ¬ H.2.1 84 < (s.length : Int)) => ?_) (fun (b8 : H.2.1 84 < (s.length : Int)) => ?_))))))
    ·
      show WP (Call d) 24 P X (11, [some (vr (some 82) 1)], [], (I, H), 0, 0)
      obtain ⟨a, s, rfl⟩ : ∃ a t, s = a :: t := by
        cases s with
        | nil => exact absurd b2 (by show ¬ (0 : Int) < ((0 : Nat) : Int); omega)
        | cons a t => exact ⟨a, t, rfl⟩
      have hw : ((a :: s).length : Int) = (s.length : Int) + 1 := rfl
      refine WP.go 5 (And.intro rfl (Exists.intro ((s.length : Int)) (And.intro (by show (s.length : Int) = wrp (I 82 2 - 1); rw [show I 82 2 = (s.length : Int) + 1 from hq.1.1]; exact wrp_a2 (by omega) (by omega) (by omega)) ?_)))
      show WP (Call d) 24 P X (16, [some (vr (some 82) 1)], [vi (s.length : Int), vr (some 82) 1], (I, H), 0, 0)
      refine WP.go 1 (And.intro (And.intro rfl trivial) ?_)
      show WP (Call d) 24 P X (17, [some (vr (some 82) 1)], [], (upI I 82 2 (s.length : Int), H), 0, 0)
      generalize hq_J0 : upI I 82 2 (s.length : Int) = J0
      have e_J0 : J0 82 = (fun t => if t = 2 then (s.length : Int) else I 82 t) := by rw [← hq_J0]; exact upI_self _ _ _ _
      have f_J0 : ∀ a, a ≠ 82 → J0 a = I a := fun a q => by rw [← hq_J0]; exact upI_cell q
      have hlift := hq.lift e_J0 (f_J0 84 (by omega))
      refine WP.go 4 (And.intro rfl (Exists.intro 84 (And.intro hS.r82_1 (And.intro rfl ?_))))
      show WP (Call d) 24 P X (21, [some (vr (some 82) 1)], [vi (J0 82 2), vr (some 84) 11], (J0, H), 0, 0)
      refine rw_i (Q := fun x9 => WP (Call d) 24 P X (21, [some (vr (some 82) 1)], [vi x9, vr (some 84) 11], (J0, H), 0, 0)) (show J0 82 2 = (s.length : Int) by rw [e_J0]; rfl) ?_
      have hl84 := hS.l84
      refine WP.go 1 (And.intro (And.intro rfl (And.intro (show (0 : Int) ≤ (s.length : Int) by omega) (show (s.length : Int) < H.2.1 84 by omega))) ?_)
      show WP (Call d) 24 P X (22, [some (vr (some 82) 1)], [vi (J0 84 (s.length : Int))], (J0, H), 0, 0)
      refine WP.go 1 (And.intro (And.intro (Nat.le_of_ble_eq_true rfl) (Nat.le_of_ble_eq_true rfl)) (And.intro trivial ?_))
      show P (some (vi (J0 84 (s.length : Int)))) (J0, H)
      exact fin_i (show J0 84 (s.length : Int) = a by rw [f_J0 84 (by omega)]; exact hlift.2) (h _ hlift.1 (fun b q1 _ => f_J0 b q1))
    ·
      show WP (Call d) 24 P X (9, [some (vr (some 82) 1)], [], (I, H), 0, 0)
      refine WP.go 2 (And.intro (And.intro (Nat.le_of_ble_eq_true rfl) (Nat.le_of_ble_eq_true rfl)) (And.intro trivial (?_)))
      show P (some (vi 0)) (I, H)
      exact absurd b8 (by omega)

theorem s_1_factOf {d : Nat} {P : Option qV → qH → Prop} {X : Nat → qH → Prop} {I : qI} {H : qS} (hd : 1 ≤ d) {k : Int} (hS : Shp H) (hk : 0 ≤ k ∧ k < 8) (h : P (some (vi (I 83 k))) (I, H)) :
    Call d 22 [vr (some 82) 1, vi k] (I, H) P X := by
  obtain ⟨d, rfl⟩ : ∃ e, d = e + 1 := ⟨d - 1, by omega⟩
  have hl83 := hS.l83
  show WP (Call d) 22 P X (0, [some (vr (some 82) 1), some (vi k)], [], (I, H), 0, 0)
  refine WP.go 2 (And.intro (fun (b1 : k < 0) => (absurd b1 (by omega))) (fun (b1 : ¬ k < 0) => ?_))
  show WP (Call d) 22 P X (2, [some (vr (some 82) 1), some (vi k)], [], (I, H), 0, 0)
  refine WP.go 5 (And.intro rfl (Exists.intro 83 (And.intro hS.r82_0 (And.intro (Or.inl rfl) (And.intro (fun (b6 : ¬ k < H.2.1 83) => (absurd b6 (by omega))) (fun (b6 : k < H.2.1 83) => ?_))))))
  show WP (Call d) 22 P X (7, [some (vr (some 82) 1), some (vi k)], [], (I, H), 0, 0)
  refine WP.go 6 (And.intro rfl (Exists.intro 83 (And.intro hS.r82_0 (And.intro (And.intro rfl (And.intro (show 0 ≤ k from by omega) (show k < H.2.1 83 from by omega))) (And.intro (And.intro (Nat.le_of_ble_eq_true rfl) (Nat.le_of_ble_eq_true rfl)) (And.intro trivial (?_)))))))
  show P (some (vi (I 83 k))) (I, H)
  exact fin_i (by first | rfl | omega | exact zero_bz (by omega) | exact one_bz (by omega)) h

theorem s_1_joined {d : Nat} {P : Option qV → qH → Prop} {X : Nat → qH → Prop} {I : qI} {H : qS} (hd : 1 ≤ d) {x a b : Int} (h : P (some (vi (ckJ x a b))) (I, H)) :
    Call d 26 [vi x, vi a, vi b] (I, H) P X := by
  obtain ⟨d, rfl⟩ : ∃ e, d = e + 1 := ⟨d - 1, by omega⟩
  show WP (Call d) 26 P X (0, [some (vi x), some (vi a), some (vi b)], [], (I, H), 0, 0)
  refine WP.go 2 (And.intro (fun (b1 : x < 2000 ∨ 2005 ≤ x) => ?_) (And.intro (fun (b1 : x = 2000) => ?_) (And.intro (fun (b1 : x = 2001) => ?_) (And.intro (fun (b1 : x = 2002) => ?_) (And.intro (fun (b1 : x = 2003) => ?_) (And.intro (fun (b1 : x = 2004) => ?_) (trivial)))))))
  ·
    show WP (Call d) 26 P X (28, [some (vi x), some (vi a), some (vi b)], [], (I, H), 0, 0)
    refine WP.go 4 (And.intro (And.intro (Nat.le_of_ble_eq_true rfl) (Nat.le_of_ble_eq_true rfl)) (And.intro trivial (?_)))
    show P (some (vi (zor a b))) (I, H)
    exact fin_i (show zor a b = ckJ x a b by unfold ckJ; rw [if_neg (by omega), if_neg (by omega), if_neg (by omega), if_neg (by omega), if_neg (by omega)]) h
  ·
    show WP (Call d) 26 P X (2, [some (vi x), some (vi a), some (vi b)], [], (I, H), 0, 0)
    refine WP.go 4 (Exists.intro (wrp (a + b)) (And.intro rfl (And.intro (And.intro (Nat.le_of_ble_eq_true rfl) (Nat.le_of_ble_eq_true rfl)) (And.intro trivial (?_)))))
    show P (some (vi (wrp (a + b)))) (I, H)
    rw [b1] at h; exact h
  ·
    show WP (Call d) 26 P X (6, [some (vi x), some (vi a), some (vi b)], [], (I, H), 0, 0)
    refine WP.go 4 (Exists.intro (wrp (a * b)) (And.intro rfl (And.intro (And.intro (Nat.le_of_ble_eq_true rfl) (Nat.le_of_ble_eq_true rfl)) (And.intro trivial (?_)))))
    show P (some (vi (wrp (a * b)))) (I, H)
    rw [b1] at h; exact h
  ·
    show WP (Call d) 26 P X (10, [some (vi x), some (vi a), some (vi b)], [], (I, H), 0, 0)
    refine WP.go 3 (And.intro (fun (b12 : ¬ a < b) => ?_) (fun (b12 : a < b) => ?_))
    ·
      show WP (Call d) 26 P X (15, [some (vi x), some (vi a), some (vi b)], [], (I, H), 0, 0)
      refine WP.go 2 (And.intro (And.intro (Nat.le_of_ble_eq_true rfl) (Nat.le_of_ble_eq_true rfl)) (And.intro trivial (?_)))
      show P (some (vi 0)) (I, H)
      rw [b1] at h; rw [show ckJ 2002 a b = 0 by show (if a < b then (1 : Int) else 0) = 0; exact if_neg (by omega)] at h; exact h
    ·
      show WP (Call d) 26 P X (13, [some (vi x), some (vi a), some (vi b)], [], (I, H), 0, 0)
      refine WP.go 3 (And.intro (And.intro (Nat.le_of_ble_eq_true rfl) (Nat.le_of_ble_eq_true rfl)) (And.intro trivial (?_)))
      show P (some (vi 1)) (I, H)
      rw [b1] at h; rw [show ckJ 2002 a b = 1 by show (if a < b then (1 : Int) else 0) = 1; exact if_pos (by omega)] at h; exact h
  ·
    show WP (Call d) 26 P X (17, [some (vi x), some (vi a), some (vi b)], [], (I, H), 0, 0)
    refine WP.go 3 (And.intro (fun (b19 : ¬ b < a) => ?_) (fun (b19 : b < a) => ?_))
    ·
      show WP (Call d) 26 P X (22, [some (vi x), some (vi a), some (vi b)], [], (I, H), 0, 0)
      refine WP.go 2 (And.intro (And.intro (Nat.le_of_ble_eq_true rfl) (Nat.le_of_ble_eq_true rfl)) (And.intro trivial (?_)))
      show P (some (vi 0)) (I, H)
      rw [b1] at h; rw [show ckJ 2003 a b = 0 by show (if b < a then (1 : Int) else 0) = 0; exact if_neg (by omega)] at h; exact h
    ·
      show WP (Call d) 26 P X (20, [some (vi x), some (vi a), some (vi b)], [], (I, H), 0, 0)
      refine WP.go 3 (And.intro (And.intro (Nat.le_of_ble_eq_true rfl) (Nat.le_of_ble_eq_true rfl)) (And.intro trivial (?_)))
      show P (some (vi 1)) (I, H)
      rw [b1] at h; rw [show ckJ 2003 a b = 1 by show (if b < a then (1 : Int) else 0) = 1; exact if_pos (by omega)] at h; exact h
  ·
    show WP (Call d) 26 P X (24, [some (vi x), some (vi a), some (vi b)], [], (I, H), 0, 0)
    refine WP.go 4 (And.intro (And.intro (Nat.le_of_ble_eq_true rfl) (Nat.le_of_ble_eq_true rfl)) (And.intro trivial (?_)))
    show P (some (vi (zand a b))) (I, H)
    rw [b1] at h; exact h

theorem s_1_work {d : Nat} {P : Option qV → qH → Prop} {X : Nat → qH → Prop} {I : qI} {H : qS} {F : Int → Int} (hd : 2 ≤ d) {s : List Int} {S V : Int} {x : Int} (hS : Shp H) (hq : CKR I (s, S, V)) (hx : 2000 ≤ x) (h : ∀ J : qI, CKR J (ckS F x (s, S, V)) → CKF I J → P none (J, H)) :
    Call d 25 [vr (some 82) 1, vi x] (I, H) P X := by
  obtain ⟨d, rfl⟩ : ∃ e, d = e + 1 := ⟨d - 1, by omega⟩
  have hc := CKF.rf I
  show WP (Call d) 25 P X (0, [some (vr (some 82) 1), some (vi x), none], [], (I, H), 0, 0)
  refine WP.go 2 (And.intro (And.intro (Nat.le_of_ble_eq_true rfl) (Nat.le_of_ble_eq_true rfl)) (And.intro rfl (?_)))
  show Call d 24 [vr (some 82) 1] (I, H) _ _
  refine s_1_lift (by omega) hS hq (fun J1 e1 f1 => ?_)
  show WP (Call d) 25 P X (2, [some (vr (some 82) 1), some (vi x), none], [vi (s.headD 0)], (J1, H), 0, 0)
  have hq_1 : CKR J1 (s.tail, S, V) := e1
  have hc_2 : CKF I J1 := hc.tr f1
  refine WP.go 3 (And.intro (fun (b4 : x < 2006 ∨ 2010 ≤ x) => ?_) (And.intro (fun (b4 : x = 2006) => ?_) (And.intro (fun (b4 : x = 2007) => ?_) (And.intro (fun (b4 : x = 2008) => ?_) (And.intro (fun (b4 : x = 2009) => ?_) (trivial))))))
  ·
    show WP (Call d) 25 P X (44, [some (vr (some 82) 1), some (vi x), some (vi (s.headD 0))], [], (J1, H), 0, 0)
    refine WP.go 4 (And.intro (And.intro (Nat.le_of_ble_eq_true rfl) (Nat.le_of_ble_eq_true rfl)) (And.intro rfl (?_)))
    show Call d 24 [vr (some 82) 1] (J1, H) _ _
    refine s_1_lift (by omega) hS hq_1 (fun J47 e47 f47 => ?_)
    show WP (Call d) 25 P X (48, [some (vr (some 82) 1), some (vi x), some (vi (s.headD 0))], [vi ((s.tail).headD 0), vi x, vr (some 82) 1], (J47, H), 0, 0)
    have hq_3 : CKR J47 ((s.tail).tail, S, V) := e47
    have hc_4 : CKF I J47 := hc_2.tr f47
    refine WP.go 2 (And.intro (And.intro (Nat.le_of_ble_eq_true rfl) (Nat.le_of_ble_eq_true rfl)) (And.intro rfl (?_)))
    show Call d 26 [vi x, vi ((s.tail).headD 0), vi (s.headD 0)] (J47, H) _ _
    refine s_1_joined (by omega)  ?_
    show WP (Call d) 25 P X (50, [some (vr (some 82) 1), some (vi x), some (vi (s.headD 0))], [vi (ckJ x ((s.tail).headD 0) (s.headD 0)), vr (some 82) 1], (J47, H), 0, 0)
    refine WP.go 1 (And.intro (And.intro (Nat.le_of_ble_eq_true rfl) (Nat.le_of_ble_eq_true rfl)) (And.intro rfl (?_)))
    show Call d 23 [vr (some 82) 1, vi (ckJ x ((s.tail).headD 0) (s.headD 0))] (J47, H) _ _
    refine s_1_lay (by omega) hS hq_3 (fun J50 e50 f50 => ?_)
    show WP (Call d) 25 P X (51, [some (vr (some 82) 1), some (vi x), some (vi (s.headD 0))], [], (J50, H), 0, 0)
    have hq_5 : CKR J50 (ckP ((s.tail).tail) (ckJ x ((s.tail).headD 0) (s.headD 0)), S, V) := e50
    have hc_6 : CKF I J50 := hc_4.tr f50
    refine WP.go 1 (And.intro (And.intro (Nat.le_of_ble_eq_true rfl) (Nat.le_of_ble_eq_true rfl)) (?_))
    show P none (J50, H)
    refine h _ (by rw [ckS_j hx (by omega) (by omega) (by omega) (by omega)]; exact hq_5) hc_6
  ·
    show WP (Call d) 25 P X (5, [some (vr (some 82) 1), some (vi x), some (vi (s.headD 0))], [], (J1, H), 0, 0)
    refine WP.go 3 (And.intro (fun (b7 : ¬ (s.headD 0) = 0) => ?_) (fun (b7 : (s.headD 0) = 0) => ?_))
    ·
      show WP (Call d) 25 P X (10, [some (vr (some 82) 1), some (vi x), some (vi (s.headD 0))], [vr (some 82) 1], (J1, H), 0, 0)
      refine WP.go 2 (And.intro (And.intro (Nat.le_of_ble_eq_true rfl) (Nat.le_of_ble_eq_true rfl)) (And.intro rfl (?_)))
      show Call d 23 [vr (some 82) 1, vi 0] (J1, H) _ _
      refine s_1_lay (by omega) hS hq_1 (fun J11 e11 f11 => ?_)
      show WP (Call d) 25 P X (12, [some (vr (some 82) 1), some (vi x), some (vi (s.headD 0))], [], (J11, H), 0, 0)
      have hq_7 : CKR J11 (ckP (s.tail) 0, S, V) := e11
      have hc_8 : CKF I J11 := hc_2.tr f11
      refine WP.go 2 (And.intro (And.intro (Nat.le_of_ble_eq_true rfl) (Nat.le_of_ble_eq_true rfl)) (?_))
      show P none (J11, H)
      refine h _ (by rw [b4]; show CKR _ (ckP s.tail (if s.headD 0 = 0 then 1 else 0), S, V); rw [if_neg b7]; exact hq_7) hc_8
    ·
      show WP (Call d) 25 P X (8, [some (vr (some 82) 1), some (vi x), some (vi (s.headD 0))], [vr (some 82) 1], (J1, H), 0, 0)
      refine WP.go 3 (And.intro (And.intro (Nat.le_of_ble_eq_true rfl) (Nat.le_of_ble_eq_true rfl)) (And.intro rfl (?_)))
      show Call d 23 [vr (some 82) 1, vi 1] (J1, H) _ _
      refine s_1_lay (by omega) hS hq_1 (fun J11_1 e11_1 f11_1 => ?_)
      show WP (Call d) 25 P X (12, [some (vr (some 82) 1), some (vi x), some (vi (s.headD 0))], [], (J11_1, H), 0, 0)
      have hq_9 : CKR J11_1 (ckP (s.tail) 1, S, V) := e11_1
      have hc_10 : CKF I J11_1 := hc_2.tr f11_1
      refine WP.go 2 (And.intro (And.intro (Nat.le_of_ble_eq_true rfl) (Nat.le_of_ble_eq_true rfl)) (?_))
      show P none (J11_1, H)
      refine h _ (by rw [b4]; show CKR _ (ckP s.tail (if s.headD 0 = 0 then 1 else 0), S, V); rw [if_pos (by omega)]; exact hq_9) hc_10
  ·
    show WP (Call d) 25 P X (24, [some (vr (some 82) 1), some (vi x), some (vi (s.headD 0))], [], (J1, H), 0, 0)
    refine WP.go 3 (And.intro rfl (?_))
    refine rw_i (Q := fun x9 => WP (Call d) 25 P X (27, [some (vr (some 82) 1), some (vi x), some (vi (s.headD 0))], [vi x9, vr (some 82) 1], (J1, H), 0, 0)) (e1.2.2.1) ?_
    show WP (Call d) 25 P X (27, [some (vr (some 82) 1), some (vi x), some (vi (s.headD 0))], [vi S, vr (some 82) 1], (J1, H), 0, 0)
    refine WP.go 3 (And.intro (And.intro (Nat.le_of_ble_eq_true rfl) (Nat.le_of_ble_eq_true rfl)) (And.intro rfl (?_)))
    show Call d 24 [vr (some 82) 1] (J1, H) _ _
    refine s_1_lift (by omega) hS hq_1 (fun J29 e29 f29 => ?_)
    show WP (Call d) 25 P X (30, [some (vr (some 82) 1), some (vi x), some (vi (s.headD 0))], [vi ((s.tail).headD 0), vi (s.headD 0), vi S, vr (some 82) 1], (J29, H), 0, 0)
    have hq_11 : CKR J29 ((s.tail).tail, S, V) := e29
    have hc_12 : CKF I J29 := hc_2.tr f29
    refine WP.go 5 (Exists.intro (wrp ((s.headD 0) * ((s.tail).headD 0))) (And.intro rfl (Exists.intro (wrp (S + (wrp ((s.headD 0) * ((s.tail).headD 0))))) (And.intro rfl (And.intro (And.intro rfl trivial) (And.intro (And.intro (Nat.le_of_ble_eq_true rfl) (Nat.le_of_ble_eq_true rfl)) (?_)))))))
    show P none ((upI J29 82 3 (wrp (S + (wrp ((s.headD 0) * ((s.tail).headD 0)))))), H)
    refine h _ (by rw [b4]; show CKR _ (s.tail.tail, wrp (S + wrp (s.headD 0 * s.tail.headD 0)), V); exact CKR.up hq_11 (fun t q1 q2 => upI_at (.inr q1)) (upI_same _ _ _ _) ((upI_at (.inr (by omega))).trans hq_11.2.2.2.1) hq_11.2.2.2.2 (upI_cell (by omega))) (hc_12.tr (fun a q1 _ => upI_cell q1))
  ·
    show WP (Call d) 25 P X (34, [some (vr (some 82) 1), some (vi x), some (vi (s.headD 0))], [], (J1, H), 0, 0)
    refine WP.go 3 (And.intro rfl (?_))
    refine rw_i (Q := fun x9 => WP (Call d) 25 P X (37, [some (vr (some 82) 1), some (vi x), some (vi (s.headD 0))], [vi x9, vr (some 82) 1], (J1, H), 0, 0)) (e1.2.2.1) ?_
    show WP (Call d) 25 P X (37, [some (vr (some 82) 1), some (vi x), some (vi (s.headD 0))], [vi S, vr (some 82) 1], (J1, H), 0, 0)
    refine WP.go 3 (And.intro (And.intro (Nat.le_of_ble_eq_true rfl) (Nat.le_of_ble_eq_true rfl)) (And.intro rfl (?_)))
    show Call d 24 [vr (some 82) 1] (J1, H) _ _
    refine s_1_lift (by omega) hS hq_1 (fun J39 e39 f39 => ?_)
    show WP (Call d) 25 P X (40, [some (vr (some 82) 1), some (vi x), some (vi (s.headD 0))], [vi ((s.tail).headD 0), vi (s.headD 0), vi S, vr (some 82) 1], (J39, H), 0, 0)
    have hq_13 : CKR J39 ((s.tail).tail, S, V) := e39
    have hc_14 : CKF I J39 := hc_2.tr f39
    refine WP.go 5 (Exists.intro (wrp ((s.headD 0) * ((s.tail).headD 0))) (And.intro rfl (Exists.intro (wrp (S - (wrp ((s.headD 0) * ((s.tail).headD 0))))) (And.intro rfl (And.intro (And.intro rfl trivial) (And.intro (And.intro (Nat.le_of_ble_eq_true rfl) (Nat.le_of_ble_eq_true rfl)) (?_)))))))
    show P none ((upI J39 82 3 (wrp (S - (wrp ((s.headD 0) * ((s.tail).headD 0)))))), H)
    refine h _ (by rw [b4]; show CKR _ (s.tail.tail, wrp (S - wrp (s.headD 0 * s.tail.headD 0)), V); exact CKR.up hq_13 (fun t q1 q2 => upI_at (.inr q1)) (upI_same _ _ _ _) ((upI_at (.inr (by omega))).trans hq_13.2.2.2.1) hq_13.2.2.2.2 (upI_cell (by omega))) (hc_14.tr (fun a q1 _ => upI_cell q1))
  ·
    show WP (Call d) 25 P X (13, [some (vr (some 82) 1), some (vi x), some (vi (s.headD 0))], [], (J1, H), 0, 0)
    refine WP.go 3 (And.intro rfl (?_))
    refine rw_i (Q := fun x9 => WP (Call d) 25 P X (16, [some (vr (some 82) 1), some (vi x), some (vi (s.headD 0))], [vi x9, vr (some 82) 1], (J1, H), 0, 0)) (e1.2.2.2.1) ?_
    show WP (Call d) 25 P X (16, [some (vr (some 82) 1), some (vi x), some (vi (s.headD 0))], [vi V, vr (some 82) 1], (J1, H), 0, 0)
    refine WP.go 2 (And.intro (fun (b17 : (s.headD 0) = 0) => ?_) (fun (b17 : ¬ (s.headD 0) = 0) => ?_))
    ·
      show WP (Call d) 25 P X (20, [some (vr (some 82) 1), some (vi x), some (vi (s.headD 0))], [vi V, vr (some 82) 1], (J1, H), 0, 0)
      refine WP.go 5 (And.intro (And.intro rfl (zor_v e1.2.2.2.2 (.inl rfl))) (And.intro (And.intro (Nat.le_of_ble_eq_true rfl) (Nat.le_of_ble_eq_true rfl)) (?_)))
      show P none ((upI J1 82 4 (zor V 0)), H)
      have z9 : zor V 0 = V := by rcases hq_1.2.2.2.2 with z | z <;> rw [show V = _ from z] <;> decide
      refine h _ (by rw [b4]; show CKR _ (s.tail, S, if s.headD 0 = 0 then V else 1); rw [if_pos b17, z9]; exact CKR.up hq_1 (fun t q1 q2 => upI_at (.inr q2)) ((upI_at (.inr (by omega))).trans hq_1.2.2.1) (upI_same _ _ _ _) hq_1.2.2.2.2 (upI_cell (by omega))) (hc_2.tr (fun a q1 _ => upI_cell q1))
    ·
      show WP (Call d) 25 P X (18, [some (vr (some 82) 1), some (vi x), some (vi (s.headD 0))], [vi V, vr (some 82) 1], (J1, H), 0, 0)
      refine WP.go 6 (And.intro (And.intro rfl (zor_v e1.2.2.2.2 (.inr rfl))) (And.intro (And.intro (Nat.le_of_ble_eq_true rfl) (Nat.le_of_ble_eq_true rfl)) (?_)))
      show P none ((upI J1 82 4 (zor V 1)), H)
      have z9 : zor V 1 = 1 := by rcases hq_1.2.2.2.2 with z | z <;> rw [show V = _ from z] <;> decide
      refine h _ (by rw [b4]; show CKR _ (s.tail, S, if s.headD 0 = 0 then V else 1); rw [if_neg b17, z9]; exact CKR.up hq_1 (fun t q1 q2 => upI_at (.inr q2)) ((upI_at (.inr (by omega))).trans hq_1.2.2.1) (upI_same _ _ _ _) (.inr rfl) (upI_cell (by omega))) (hc_2.tr (fun a q1 _ => upI_cell q1))

def rentV (q : CKQ) : Int := if q.2.2 = 0 then mx 0 q.2.1 else 0
theorem s_1_factOf_F {d : Nat} {P : Option qV → qH → Prop} {X : Nat → qH → Prop} {I : qI} {H : qS} {F : Int → Int} (hd : 1 ≤ d) {k : Int} (hS : Shp H) (hF : ∀ k, 0 ≤ k → k < 8 → I 83 k = F k) (hF0 : ∀ k, ¬ (0 ≤ k ∧ k < 8) → F k = 0) (h : P (some (vi (F k))) (I, H)) :
    Call d 22 [vr (some 82) 1, vi k] (I, H) P X := by
  obtain ⟨d, rfl⟩ : ∃ e, d = e + 1 := ⟨d - 1, by omega⟩
  have hl83 := hS.l83
  show WP (Call d) 22 P X (0, [some (vr (some 82) 1), some (vi k)], [], (I, H), 0, 0)
  refine WP.go 2 (And.intro (fun (b1 : k < 0) => ?_) (fun (b1 : ¬ k < 0) => ?_))
  ·
    show WP (Call d) 22 P X (12, [some (vr (some 82) 1), some (vi k)], [], (I, H), 0, 0)
    refine WP.go 2 (And.intro (And.intro (Nat.le_of_ble_eq_true rfl) (Nat.le_of_ble_eq_true rfl)) (And.intro trivial (?_)))
    show P (some (vi 0)) (I, H)
    exact fin_i (hF0 k (by omega)).symm h
  ·
    show WP (Call d) 22 P X (2, [some (vr (some 82) 1), some (vi k)], [], (I, H), 0, 0)
    refine WP.go 5 (And.intro rfl (Exists.intro 83 (And.intro hS.r82_0 (And.intro (Or.inl rfl) (And.intro (fun (b6 : ¬ k < H.2.1 83) => ?_) (fun (b6 : k < H.2.1 83) => ?_))))))
    ·
      show WP (Call d) 22 P X (12, [some (vr (some 82) 1), some (vi k)], [], (I, H), 0, 0)
      refine WP.go 2 (And.intro (And.intro (Nat.le_of_ble_eq_true rfl) (Nat.le_of_ble_eq_true rfl)) (And.intro trivial (?_)))
      show P (some (vi 0)) (I, H)
      exact fin_i (hF0 k (by omega)).symm h
    ·
      show WP (Call d) 22 P X (7, [some (vr (some 82) 1), some (vi k)], [], (I, H), 0, 0)
      refine WP.go 6 (And.intro rfl (Exists.intro 83 (And.intro hS.r82_0 (And.intro (And.intro rfl (And.intro (show 0 ≤ k from by omega) (show k < H.2.1 83 from by omega))) (And.intro (And.intro (Nat.le_of_ble_eq_true rfl) (Nat.le_of_ble_eq_true rfl)) (And.intro trivial (?_)))))))
      show P (some (vi (I 83 k))) (I, H)
      exact fin_i (hF k (by omega) (by omega)) h

theorem s_1_rentBy {d : Nat} {P : Option qV → qH → Prop} {X : Nat → qH → Prop} {I : qI} {H : qS} {F : Int → Int} (hd : 3 ≤ d) {cl9 : Nat} {c : List Int} (hS : Shp H) (hl9 : H.2.1 cl9 = (c.length : Int)) (hc9 : ∀ i : Nat, i < c.length → I cl9 (i : Int) = c.getD i 0) (hcl : 101 ≤ cl9) (hF : ∀ k, 0 ≤ k → k < 8 → I 83 k = F k) (hF0 : ∀ k, ¬ (0 ≤ k ∧ k < 8) → F k = 0) (hcb : c.length ≤ 2147483646) (h : ∀ J : qI, CKF I J → P (some (vi (rentV (ckR F c ([], 0, 0))))) (J, H)) :
    Call d 21 [vr (some 82) 1, vr (some cl9) 11] (I, H) P X := by
  obtain ⟨d, rfl⟩ : ∃ e, d = e + 1 := ⟨d - 1, by omega⟩
  show WP (Call d) 21 P X (0, [some (vr (some 82) 1), some (vr (some cl9) 11), none, none], [], (I, H), 0, 0)
  refine WP.go 9 (And.intro (And.intro rfl trivial) (And.intro (And.intro rfl trivial) (And.intro (And.intro rfl (Or.inl rfl)) (?_))))
  show WP (Call d) 21 P X (9, [some (vr (some 82) 1), some (vr (some cl9) 11), none, none], [], ((upI (upI (upI I 82 2 0) 82 3 0) 82 4 0), H), 0, 0)
  generalize hq_J0 : (upI (upI (upI I 82 2 0) 82 3 0) 82 4 0) = J0
  have e_J0 : J0 82 = (fun j => if j = 4 then 0 else (upI (upI I 82 2 0) 82 3 0) 82 j) := by rw [← hq_J0]; exact upI_self _ _ _ _
  have f_J0 : ∀ a, a ≠ 82 → J0 a = (upI (upI I 82 2 0) 82 3 0) a := fun a q => by rw [← hq_J0]; exact upI_cell q
  have hq : CKR J0 ([], 0, 0) := ⟨⟨by rw [e_J0]; rfl, Nat.zero_le _⟩, fun j hj => absurd hj (Nat.not_lt_zero j), by rw [e_J0]; rfl, by rw [e_J0]; rfl, .inl rfl⟩
  have hc : CKF I J0 := fun a q1 q2 => by rw [f_J0 a q1, upI_cell q1, upI_cell q1]
  refine WP.go 2 ?_
  show WP (Call d) 21 P X (11, [some (vr (some 82) 1), some (vr (some cl9) 11), some (vi 0), none], [], (J0, H), 0, 0)
  have lp11 : ∀ (n9 : Nat) (K : qI) (i : Int) (l9 : List Int) (q9 : CKQ) (hm : (c.length : Int) - i < (n9 : Int)) (kv0 : 0 ≤ i ∧ i + (l9.length : Int) = (c.length : Int)) (kv1 : CKR K q9) (kv2 : CKF I K) (kv3 : ckR F c ([], 0, 0) = ckR F l9 q9) (kv4 : ∀ j : Nat, j < l9.length → I cl9 (i + (j : Int)) = l9.getD j 0) (kvl : c.length ≤ 2147483646), WP (Call d) 21 P X (11, [some (vr (some 82) 1), some (vr (some cl9) 11), some (vi i), none], [], (K, H), 0, 0) := by
    intro n9
    induction n9 with
    | zero => intro K i l9 q9 hm kv0 kv1 kv2 kv3 kv4 kvl; exact absurd hm (by omega)
    | succ n9 ih11 =>
      intro K i l9 q9 hm kv0 kv1 kv2 kv3 kv4 kvl
      obtain ⟨s, S, V⟩ := q9
      refine WP.go 6 (And.intro (Or.inl rfl) (And.intro (fun (b16 : ¬ i < H.2.1 cl9) => ?_) (fun (b16 : i < H.2.1 cl9) => ?_)))
      ·
        show WP (Call d) 21 P X (44, [some (vr (some 82) 1), some (vr (some cl9) 11), some (vi i), none], [], (K, H), 0, 0)
        refine WP.go 2 (And.intro rfl (?_))
        refine rw_i (Q := fun x9 => WP (Call d) 21 P X (46, [some (vr (some 82) 1), some (vr (some cl9) 11), some (vi i), none], [vi x9], (K, H), 0, 0)) kv1.2.2.2.1 ?_
        show WP (Call d) 21 P X (46, [some (vr (some 82) 1), some (vr (some cl9) 11), some (vi i), none], [vi V], (K, H), 0, 0)
        refine WP.go 1 (And.intro (fun (b46 : V = 0) => ?_) (fun (b46 : ¬ V = 0) => ?_))
        ·
          show WP (Call d) 21 P X (49, [some (vr (some 82) 1), some (vr (some cl9) 11), some (vi i), none], [], (K, H), 0, 0)
          refine WP.go 3 (And.intro rfl (?_))
          refine rw_i (Q := fun x9 => WP (Call d) 21 P X (52, [some (vr (some 82) 1), some (vr (some cl9) 11), some (vi i), none], [vi x9, vi 0], (K, H), 0, 0)) kv1.2.2.1 ?_
          show WP (Call d) 21 P X (52, [some (vr (some 82) 1), some (vr (some cl9) 11), some (vi i), none], [vi S, vi 0], (K, H), 0, 0)
          refine WP.go 2 (And.intro (And.intro (Nat.le_of_ble_eq_true rfl) (Nat.le_of_ble_eq_true rfl)) (And.intro (And.intro (Nat.le_of_ble_eq_true rfl) (Nat.le_of_ble_eq_true rfl)) (And.intro trivial (?_))))
          show P (some (vi (mx 0 S))) (K, H)
          have hl0 : l9 = [] := List.eq_nil_of_length_eq_zero (by omega)
          subst hl0
          have r9 : ckR F c ([], 0, 0) = (s, S, V) := kv3
          exact fin_i (by rw [r9]; exact (if_pos b46).symm) (h _ kv2)
        ·
          show WP (Call d) 21 P X (47, [some (vr (some 82) 1), some (vr (some cl9) 11), some (vi i), none], [], (K, H), 0, 0)
          refine WP.go 3 (And.intro (And.intro (Nat.le_of_ble_eq_true rfl) (Nat.le_of_ble_eq_true rfl)) (And.intro trivial (?_)))
          show P (some (vi 0)) (K, H)
          have hl0 : l9 = [] := List.eq_nil_of_length_eq_zero (by omega)
          subst hl0
          have r9 : ckR F c ([], 0, 0) = (s, S, V) := kv3
          exact fin_i (by rw [r9]; exact (if_neg b46).symm) (h _ kv2)
      ·
        show WP (Call d) 21 P X (17, [some (vr (some 82) 1), some (vr (some cl9) 11), some (vi i), none], [], (K, H), 0, 0)
        obtain ⟨x, l, rfl⟩ : ∃ x t, l9 = x :: t := by
          cases l9 with
          | nil => exact absurd kv0.2 (by show ¬ (i + ((0 : Nat) : Int) = _); omega)
          | cons x t => exact ⟨x, t, rfl⟩
        have hlx : ((x :: l).length : Int) = (l.length : Int) + 1 := rfl
        refine WP.go 3 (And.intro (And.intro rfl (And.intro (show 0 ≤ i from by omega) (show i < H.2.1 cl9 from by omega))) (?_))
        refine rw_i (Q := fun x9 => WP (Call d) 21 P X (20, [some (vr (some 82) 1), some (vr (some cl9) 11), some (vi i), none], [vi x9], (K, H), 0, 0)) (show K cl9 i = x from (by rw [kv2 cl9 (by omega) (by omega)]; have w := kv4 0 (Nat.succ_pos _); rw [show i + ((0 : Nat) : Int) = i by omega] at w; exact w)) ?_
        show WP (Call d) 21 P X (20, [some (vr (some 82) 1), some (vr (some cl9) 11), some (vi i), none], [vi x], (K, H), 0, 0)
        refine WP.go 4 (And.intro (fun (b23 : ¬ x < 1000) => ?_) (fun (b23 : x < 1000) => ?_))
        ·
          show WP (Call d) 21 P X (28, [some (vr (some 82) 1), some (vr (some cl9) 11), some (vi i), some (vi x)], [], (K, H), 0, 0)
          refine WP.go 3 (And.intro (fun (b30 : ¬ x < 2000) => ?_) (fun (b30 : x < 2000) => ?_))
          ·
            show WP (Call d) 21 P X (39, [some (vr (some 82) 1), some (vr (some cl9) 11), some (vi i), some (vi x)], [], (K, H), 0, 0)
            refine WP.go 3 (And.intro (And.intro (Nat.le_of_ble_eq_true rfl) (Nat.le_of_ble_eq_true rfl)) (And.intro rfl (?_)))
            show Call d 25 [vr (some 82) 1, vi x] (K, H) _ _
            refine s_1_work (F := F) (by omega) hS kv1 (by omega) (fun J41 e41 f41 => ?_)
            show WP (Call d) 21 P X (42, [some (vr (some 82) 1), some (vr (some cl9) 11), some (vi i), some (vi x)], [], (J41, H), 0, 0)
            have hq_1 : CKR J41 (ckS F x (s, S, V)) := e41
            have hc_2 : CKF I J41 := kv2.tr f41
            refine WP.go 2 (Exists.intro (i + 1) (And.intro (wrp_a (by omega) (by omega)) (?_)))
            show WP (Call d) 21 P X (11, [some (vr (some 82) 1), some (vr (some cl9) 11), some (vi (i + 1)), some (vi x)], [], (J41, H), 0, 0)
            refine WP.wk (L := [some (vr (some 82) 1), some (vr (some cl9) 11), some (vi (i + 1)), none]) (And.intro rfl (And.intro rfl (And.intro rfl (And.intro trivial (trivial))))) ?_
            show WP (Call d) 21 P X (11, [some (vr (some 82) 1), some (vr (some cl9) 11), some (vi (i + 1)), none], [], (J41, H), 0, 0)
            exact ih11 J41 (i + 1) l _ (by omega) (by have w := kv0.2; have w2 : ((x :: l).length : Int) = (l.length : Int) + 1 := rfl; omega) hq_1 hc_2 (kv3.trans rfl) (fun j hj => by have w := kv4 (j + 1) (Nat.succ_lt_succ hj); rw [show i + ((j + 1 : Nat) : Int) = i + 1 + j by omega] at w; exact w) kvl
          ·
            show WP (Call d) 21 P X (31, [some (vr (some 82) 1), some (vr (some cl9) 11), some (vi i), some (vi x)], [], (K, H), 0, 0)
            refine WP.go 6 (Exists.intro (x - 1000) (And.intro (wrp_a (by omega) (by omega)) (And.intro (And.intro (Nat.le_of_ble_eq_true rfl) (Nat.le_of_ble_eq_true rfl)) (And.intro rfl (?_)))))
            show Call d 22 [vr (some 82) 1, vi (x - 1000)] (K, H) _ _
            refine s_1_factOf_F (by omega) hS (fun k9 a9 b9 => by rw [kv2 83 (by omega) (by omega)]; exact hF k9 a9 b9) hF0 ?_
            show WP (Call d) 21 P X (37, [some (vr (some 82) 1), some (vr (some cl9) 11), some (vi i), some (vi x)], [vi (F (x - 1000)), vr (some 82) 1], (K, H), 0, 0)
            refine WP.go 1 (And.intro (And.intro (Nat.le_of_ble_eq_true rfl) (Nat.le_of_ble_eq_true rfl)) (And.intro rfl (?_)))
            show Call d 23 [vr (some 82) 1, vi (F (x - 1000))] (K, H) _ _
            refine s_1_lay (by omega) hS kv1 (fun J37 e37 f37 => ?_)
            show WP (Call d) 21 P X (38, [some (vr (some 82) 1), some (vr (some cl9) 11), some (vi i), some (vi x)], [], (J37, H), 0, 0)
            have hq_3 : CKR J37 (ckP s (F (x - 1000)), S, V) := e37
            have hc_4 : CKF I J37 := kv2.tr f37
            refine WP.go 3 (Exists.intro (i + 1) (And.intro (wrp_a (by omega) (by omega)) (?_)))
            show WP (Call d) 21 P X (11, [some (vr (some 82) 1), some (vr (some cl9) 11), some (vi (i + 1)), some (vi x)], [], (J37, H), 0, 0)
            refine WP.wk (L := [some (vr (some 82) 1), some (vr (some cl9) 11), some (vi (i + 1)), none]) (And.intro rfl (And.intro rfl (And.intro rfl (And.intro trivial (trivial))))) ?_
            show WP (Call d) 21 P X (11, [some (vr (some 82) 1), some (vr (some cl9) 11), some (vi (i + 1)), none], [], (J37, H), 0, 0)
            exact ih11 J37 (i + 1) l _ (by omega) (by have w := kv0.2; have w2 : ((x :: l).length : Int) = (l.length : Int) + 1 := rfl; omega) hq_3 hc_4 (kv3.trans (by show ckR F l (ckS F x (s, S, V)) = _; rw [show ckS F x (s, S, V) = (ckP s (F (x - 1000)), S, V) from (if_neg (by omega)).trans (if_pos (by omega))])) (fun j hj => by have w := kv4 (j + 1) (Nat.succ_lt_succ hj); rw [show i + ((j + 1 : Nat) : Int) = i + 1 + j by omega] at w; exact w) kvl
        ·
          show WP (Call d) 21 P X (24, [some (vr (some 82) 1), some (vr (some cl9) 11), some (vi i), some (vi x)], [], (K, H), 0, 0)
          refine WP.go 3 (And.intro (And.intro (Nat.le_of_ble_eq_true rfl) (Nat.le_of_ble_eq_true rfl)) (And.intro rfl (?_)))
          show Call d 23 [vr (some 82) 1, vi x] (K, H) _ _
          refine s_1_lay (by omega) hS kv1 (fun J26 e26 f26 => ?_)
          show WP (Call d) 21 P X (27, [some (vr (some 82) 1), some (vr (some cl9) 11), some (vi i), some (vi x)], [], (J26, H), 0, 0)
          have hq_5 : CKR J26 (ckP s x, S, V) := e26
          have hc_6 : CKF I J26 := kv2.tr f26
          refine WP.go 3 (Exists.intro (i + 1) (And.intro (wrp_a (by omega) (by omega)) (?_)))
          show WP (Call d) 21 P X (11, [some (vr (some 82) 1), some (vr (some cl9) 11), some (vi (i + 1)), some (vi x)], [], (J26, H), 0, 0)
          refine WP.wk (L := [some (vr (some 82) 1), some (vr (some cl9) 11), some (vi (i + 1)), none]) (And.intro rfl (And.intro rfl (And.intro rfl (And.intro trivial (trivial))))) ?_
          show WP (Call d) 21 P X (11, [some (vr (some 82) 1), some (vr (some cl9) 11), some (vi (i + 1)), none], [], (J26, H), 0, 0)
          exact ih11 J26 (i + 1) l _ (by omega) (by have w := kv0.2; have w2 : ((x :: l).length : Int) = (l.length : Int) + 1 := rfl; omega) hq_5 hc_6 (kv3.trans (by show ckR F l (ckS F x (s, S, V)) = _; rw [show ckS F x (s, S, V) = (ckP s x, S, V) from if_pos (by omega)])) (fun j hj => by have w := kv4 (j + 1) (Nat.succ_lt_succ hj); rw [show i + ((j + 1 : Nat) : Int) = i + 1 + j by omega] at w; exact w) kvl
  exact lp11 (((c.length : Int) - 0 : Int).toNat + 1) J0 0 c ([], 0, 0) (by omega) (by omega) hq hc rfl (fun j hj => by rw [show (0 : Int) + (j : Int) = j by omega]; exact hc9 j hj) hcb

