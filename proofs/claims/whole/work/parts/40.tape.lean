/-- a byte of a number, the highest first -/
def byt (v k : Int) : Int := zand (zushr v (24 - 8 * k)) 255
theorem byt_e {v k q : Int} (h : q = 24 - 8 * k) : zand (zushr v q) 255 = byt v k := by subst h; rfl
theorem zand_bd (a : Int) (m : Nat) (hm : m < 2147483648) : 0 ≤ zand a (m : Int) ∧ zand a (m : Int) ≤ m := by
  unfold zand
  have e : (Int32.ofInt a &&& Int32.ofInt (m : Int)).toInt = (Int32.ofInt a &&& Int32.ofInt (m : Int)).toBitVec.toInt := rfl
  rw [e]
  have e2 : (Int32.ofInt a &&& Int32.ofInt (m : Int)).toBitVec = (Int32.ofInt a).toBitVec &&& (Int32.ofInt (m : Int)).toBitVec := rfl
  rw [e2]
  have e3 : (Int32.ofInt (m : Int)).toBitVec = BitVec.ofNat 32 m := rfl
  rw [e3]
  have h1 : ((Int32.ofInt a).toBitVec &&& BitVec.ofNat 32 m).toNat ≤ m := by
    rw [BitVec.toNat_and, BitVec.toNat_ofNat, Nat.mod_eq_of_lt (by omega)]
    exact Nat.and_le_right
  have h2 : ((Int32.ofInt a).toBitVec &&& BitVec.ofNat 32 m).toInt = (((Int32.ofInt a).toBitVec &&& BitVec.ofNat 32 m).toNat : Int) := BitVec.toInt_eq_toNat_of_lt (by omega)
  rw [h2]
  omega
theorem byt_bd (v k : Int) : 0 ≤ byt v k ∧ byt v k ≤ 255 := zand_bd _ 255 (by omega)
/-- twenty bytes behind n -/
def fdT (tb : Int → Int) (n a b c d e j : Int) : Int := if n + 16 ≤ j ∧ j < n + 20 then byt e (j - (n + 16)) else if n + 12 ≤ j ∧ j < n + 16 then byt d (j - (n + 12)) else if n + 8 ≤ j ∧ j < n + 12 then byt c (j - (n + 8)) else if n + 4 ≤ j ∧ j < n + 8 then byt b (j - (n + 4)) else if n ≤ j ∧ j < n + 4 then byt a (j - n) else tb j
theorem s_6_append {d : Nat} {P : Option qV → qH → Prop} {X : Nat → qH → Prop} {I : qI} {H : qS} (hd : 1 ≤ d) {n v : Int} (hS : Shp H) (hsz : I 4 1 = n) (hn : 0 ≤ n ∧ n + 4 ≤ 400) (h : ∀ J : qI, J 4 = (fun s => if s = 1 then n + 4 else I 4 s) → J 5 = (fun j => if n ≤ j ∧ j < n + 4 then byt v (j - n) else I 5 j) → (∀ a, a ≠ 4 → a ≠ 5 → J a = I a) → P none (J, H)) :
    Call d 67 [vr (some 4) 5, vi v] (I, H) P X := by
  obtain ⟨d, rfl⟩ : ∃ e, d = e + 1 := ⟨d - 1, by omega⟩
  have hl5 := hS.l5
  show WP (Call d) 67 P X (0, [some (vr (some 4) 5), some (vi v), none], [], (I, H), 0, 0)
  refine WP.go 4 (And.intro (fun (b3 : 24 < 0) => (absurd b3 (by omega))) (fun (b3 : ¬ 24 < 0) => ?_))
  show WP (Call d) 67 P X (4, [some (vr (some 4) 5), some (vi v), some (vi 24)], [], (I, H), 0, 0)
  refine WP.go 2 (And.intro rfl (?_))
  refine rw_i (Q := fun x9 => WP (Call d) 67 P X (6, [some (vr (some 4) 5), some (vi v), some (vi 24)], [vi x9], (I, H), 0, 0)) hsz ?_
  show WP (Call d) 67 P X (6, [some (vr (some 4) 5), some (vi v), some (vi 24)], [vi n], (I, H), 0, 0)
  refine WP.go 1 (And.intro (fun (b6 : n < 0) => (absurd b6 (by omega))) (fun (b6 : ¬ n < 0) => ?_))
  show WP (Call d) 67 P X (7, [some (vr (some 4) 5), some (vi v), some (vi 24)], [], (I, H), 0, 0)
  refine WP.go 2 (And.intro rfl (?_))
  refine rw_i (Q := fun x9 => WP (Call d) 67 P X (9, [some (vr (some 4) 5), some (vi v), some (vi 24)], [vi x9], (I, H), 0, 0)) hsz ?_
  show WP (Call d) 67 P X (9, [some (vr (some 4) 5), some (vi v), some (vi 24)], [vi n], (I, H), 0, 0)
  refine WP.go 4 (And.intro rfl (Exists.intro 5 (And.intro hS.r4_0 (And.intro (Or.inl rfl) (And.intro (fun (b12 : ¬ n < H.2.1 5) => (absurd b12 (by omega))) (fun (b12 : n < H.2.1 5) => ?_))))))
  show WP (Call d) 67 P X (13, [some (vr (some 4) 5), some (vi v), some (vi 24)], [], (I, H), 0, 0)
  refine WP.go 4 (And.intro rfl (Exists.intro 5 (And.intro hS.r4_0 (And.intro rfl (?_)))))
  refine rw_i (Q := fun x9 => WP (Call d) 67 P X (17, [some (vr (some 4) 5), some (vi v), some (vi 24)], [vi x9, vr (some 5) 11], (I, H), 0, 0)) hsz ?_
  show WP (Call d) 67 P X (17, [some (vr (some 4) 5), some (vi v), some (vi 24)], [vi n, vr (some 5) 11], (I, H), 0, 0)
  refine WP.go 6 (And.intro (And.intro rfl (And.intro (show 0 ≤ n from by omega) (show n < H.2.1 5 from by omega))) (?_))
  show WP (Call d) 67 P X (23, [some (vr (some 4) 5), some (vi v), some (vi 24)], [], ((upI I 5 n (zand (zushr v 24) 255)), H), 0, 0)
  generalize hq_A0 : (upI I 5 n (zand (zushr v 24) 255)) = A0
  have e_A0 : A0 5 = (fun j => if j = n then (zand (zushr v 24) 255) else I 5 j) := by rw [← hq_A0]; exact upI_self _ _ _ _
  have f_A0 : ∀ a, a ≠ 5 → A0 a = I a := fun a q => by rw [← hq_A0]; exact upI_cell q
  have hsz_1 : A0 4 1 = n := (congrFun (f_A0 4 (by omega)) 1).trans hsz
  refine WP.go 3 (And.intro rfl (?_))
  refine rw_i (Q := fun x9 => WP (Call d) 67 P X (26, [some (vr (some 4) 5), some (vi v), some (vi 24)], [vi x9, vr (some 4) 5], (A0, H), 0, 0)) hsz_1 ?_
  show WP (Call d) 67 P X (26, [some (vr (some 4) 5), some (vi v), some (vi 24)], [vi n, vr (some 4) 5], (A0, H), 0, 0)
  refine WP.go 3 (Exists.intro (n + 1) (And.intro (wrp_a (by omega) (by omega)) (And.intro (And.intro rfl trivial) (?_))))
  show WP (Call d) 67 P X (29, [some (vr (some 4) 5), some (vi v), some (vi 24)], [], ((upI A0 4 1 (n + 1)), H), 0, 0)
  generalize hq_B0 : (upI A0 4 1 (n + 1)) = B0
  have e_B0 : B0 4 = (fun j => if j = 1 then (n + 1) else A0 4 j) := by rw [← hq_B0]; exact upI_self _ _ _ _
  have f_B0 : ∀ a, a ≠ 4 → B0 a = A0 a := fun a q => by rw [← hq_B0]; exact upI_cell q
  have hsz_2 : B0 4 1 = n + 1 := by rw [e_B0]; show n + 1 = n + 1; omega
  refine WP.go 4 (Exists.intro 16 (And.intro (wrp_a2 (by omega) (by omega) (by omega)) (And.intro (fun (b3 : 16 < 0) => (absurd b3 (by omega))) (fun (b3 : ¬ 16 < 0) => ?_))))
  show WP (Call d) 67 P X (4, [some (vr (some 4) 5), some (vi v), some (vi 16)], [], (B0, H), 0, 0)
  refine WP.go 2 (And.intro rfl (?_))
  refine rw_i (Q := fun x9 => WP (Call d) 67 P X (6, [some (vr (some 4) 5), some (vi v), some (vi 16)], [vi x9], (B0, H), 0, 0)) hsz_2 ?_
  show WP (Call d) 67 P X (6, [some (vr (some 4) 5), some (vi v), some (vi 16)], [vi (n + 1)], (B0, H), 0, 0)
  refine WP.go 1 (And.intro (fun (b6 : n + 1 < 0) => (absurd b6 (by omega))) (fun (b6 : ¬ n + 1 < 0) => ?_))
  show WP (Call d) 67 P X (7, [some (vr (some 4) 5), some (vi v), some (vi 16)], [], (B0, H), 0, 0)
  refine WP.go 2 (And.intro rfl (?_))
  refine rw_i (Q := fun x9 => WP (Call d) 67 P X (9, [some (vr (some 4) 5), some (vi v), some (vi 16)], [vi x9], (B0, H), 0, 0)) hsz_2 ?_
  show WP (Call d) 67 P X (9, [some (vr (some 4) 5), some (vi v), some (vi 16)], [vi (n + 1)], (B0, H), 0, 0)
  refine WP.go 4 (And.intro rfl (Exists.intro 5 (And.intro hS.r4_0 (And.intro (Or.inl rfl) (And.intro (fun (b12 : ¬ n + 1 < H.2.1 5) => (absurd b12 (by omega))) (fun (b12 : n + 1 < H.2.1 5) => ?_))))))
  show WP (Call d) 67 P X (13, [some (vr (some 4) 5), some (vi v), some (vi 16)], [], (B0, H), 0, 0)
  refine WP.go 4 (And.intro rfl (Exists.intro 5 (And.intro hS.r4_0 (And.intro rfl (?_)))))
  refine rw_i (Q := fun x9 => WP (Call d) 67 P X (17, [some (vr (some 4) 5), some (vi v), some (vi 16)], [vi x9, vr (some 5) 11], (B0, H), 0, 0)) hsz_2 ?_
  show WP (Call d) 67 P X (17, [some (vr (some 4) 5), some (vi v), some (vi 16)], [vi (n + 1), vr (some 5) 11], (B0, H), 0, 0)
  refine WP.go 6 (And.intro (And.intro rfl (And.intro (show 0 ≤ n + 1 from by omega) (show n + 1 < H.2.1 5 from by omega))) (?_))
  show WP (Call d) 67 P X (23, [some (vr (some 4) 5), some (vi v), some (vi 16)], [], ((upI B0 5 (n + 1) (zand (zushr v 16) 255)), H), 0, 0)
  generalize hq_A1 : (upI B0 5 (n + 1) (zand (zushr v 16) 255)) = A1
  have e_A1 : A1 5 = (fun j => if j = (n + 1) then (zand (zushr v 16) 255) else B0 5 j) := by rw [← hq_A1]; exact upI_self _ _ _ _
  have f_A1 : ∀ a, a ≠ 5 → A1 a = B0 a := fun a q => by rw [← hq_A1]; exact upI_cell q
  have hsz_3 : A1 4 1 = n + 1 := (congrFun (f_A1 4 (by omega)) 1).trans hsz_2
  refine WP.go 3 (And.intro rfl (?_))
  refine rw_i (Q := fun x9 => WP (Call d) 67 P X (26, [some (vr (some 4) 5), some (vi v), some (vi 16)], [vi x9, vr (some 4) 5], (A1, H), 0, 0)) hsz_3 ?_
  show WP (Call d) 67 P X (26, [some (vr (some 4) 5), some (vi v), some (vi 16)], [vi (n + 1), vr (some 4) 5], (A1, H), 0, 0)
  refine WP.go 3 (Exists.intro ((n + 1) + 1) (And.intro (wrp_a (by omega) (by omega)) (And.intro (And.intro rfl trivial) (?_))))
  show WP (Call d) 67 P X (29, [some (vr (some 4) 5), some (vi v), some (vi 16)], [], ((upI A1 4 1 ((n + 1) + 1)), H), 0, 0)
  generalize hq_B1 : (upI A1 4 1 ((n + 1) + 1)) = B1
  have e_B1 : B1 4 = (fun j => if j = 1 then ((n + 1) + 1) else A1 4 j) := by rw [← hq_B1]; exact upI_self _ _ _ _
  have f_B1 : ∀ a, a ≠ 4 → B1 a = A1 a := fun a q => by rw [← hq_B1]; exact upI_cell q
  have hsz_4 : B1 4 1 = n + 2 := by rw [e_B1]; show n + 1 + 1 = n + 2; omega
  refine WP.go 4 (Exists.intro 8 (And.intro (wrp_a2 (by omega) (by omega) (by omega)) (And.intro (fun (b3 : 8 < 0) => (absurd b3 (by omega))) (fun (b3 : ¬ 8 < 0) => ?_))))
  show WP (Call d) 67 P X (4, [some (vr (some 4) 5), some (vi v), some (vi 8)], [], (B1, H), 0, 0)
  refine WP.go 2 (And.intro rfl (?_))
  refine rw_i (Q := fun x9 => WP (Call d) 67 P X (6, [some (vr (some 4) 5), some (vi v), some (vi 8)], [vi x9], (B1, H), 0, 0)) hsz_4 ?_
  show WP (Call d) 67 P X (6, [some (vr (some 4) 5), some (vi v), some (vi 8)], [vi (n + 2)], (B1, H), 0, 0)
  refine WP.go 1 (And.intro (fun (b6 : n + 2 < 0) => (absurd b6 (by omega))) (fun (b6 : ¬ n + 2 < 0) => ?_))
  show WP (Call d) 67 P X (7, [some (vr (some 4) 5), some (vi v), some (vi 8)], [], (B1, H), 0, 0)
  refine WP.go 2 (And.intro rfl (?_))
  refine rw_i (Q := fun x9 => WP (Call d) 67 P X (9, [some (vr (some 4) 5), some (vi v), some (vi 8)], [vi x9], (B1, H), 0, 0)) hsz_4 ?_
  show WP (Call d) 67 P X (9, [some (vr (some 4) 5), some (vi v), some (vi 8)], [vi (n + 2)], (B1, H), 0, 0)
  refine WP.go 4 (And.intro rfl (Exists.intro 5 (And.intro hS.r4_0 (And.intro (Or.inl rfl) (And.intro (fun (b12 : ¬ n + 2 < H.2.1 5) => (absurd b12 (by omega))) (fun (b12 : n + 2 < H.2.1 5) => ?_))))))
  show WP (Call d) 67 P X (13, [some (vr (some 4) 5), some (vi v), some (vi 8)], [], (B1, H), 0, 0)
  refine WP.go 4 (And.intro rfl (Exists.intro 5 (And.intro hS.r4_0 (And.intro rfl (?_)))))
  refine rw_i (Q := fun x9 => WP (Call d) 67 P X (17, [some (vr (some 4) 5), some (vi v), some (vi 8)], [vi x9, vr (some 5) 11], (B1, H), 0, 0)) hsz_4 ?_
  show WP (Call d) 67 P X (17, [some (vr (some 4) 5), some (vi v), some (vi 8)], [vi (n + 2), vr (some 5) 11], (B1, H), 0, 0)
  refine WP.go 6 (And.intro (And.intro rfl (And.intro (show 0 ≤ n + 2 from by omega) (show n + 2 < H.2.1 5 from by omega))) (?_))
  show WP (Call d) 67 P X (23, [some (vr (some 4) 5), some (vi v), some (vi 8)], [], ((upI B1 5 (n + 2) (zand (zushr v 8) 255)), H), 0, 0)
  generalize hq_A2 : (upI B1 5 (n + 2) (zand (zushr v 8) 255)) = A2
  have e_A2 : A2 5 = (fun j => if j = (n + 2) then (zand (zushr v 8) 255) else B1 5 j) := by rw [← hq_A2]; exact upI_self _ _ _ _
  have f_A2 : ∀ a, a ≠ 5 → A2 a = B1 a := fun a q => by rw [← hq_A2]; exact upI_cell q
  have hsz_5 : A2 4 1 = n + 2 := (congrFun (f_A2 4 (by omega)) 1).trans hsz_4
  refine WP.go 3 (And.intro rfl (?_))
  refine rw_i (Q := fun x9 => WP (Call d) 67 P X (26, [some (vr (some 4) 5), some (vi v), some (vi 8)], [vi x9, vr (some 4) 5], (A2, H), 0, 0)) hsz_5 ?_
  show WP (Call d) 67 P X (26, [some (vr (some 4) 5), some (vi v), some (vi 8)], [vi (n + 2), vr (some 4) 5], (A2, H), 0, 0)
  refine WP.go 3 (Exists.intro ((n + 2) + 1) (And.intro (wrp_a (by omega) (by omega)) (And.intro (And.intro rfl trivial) (?_))))
  show WP (Call d) 67 P X (29, [some (vr (some 4) 5), some (vi v), some (vi 8)], [], ((upI A2 4 1 ((n + 2) + 1)), H), 0, 0)
  generalize hq_B2 : (upI A2 4 1 ((n + 2) + 1)) = B2
  have e_B2 : B2 4 = (fun j => if j = 1 then ((n + 2) + 1) else A2 4 j) := by rw [← hq_B2]; exact upI_self _ _ _ _
  have f_B2 : ∀ a, a ≠ 4 → B2 a = A2 a := fun a q => by rw [← hq_B2]; exact upI_cell q
  have hsz_6 : B2 4 1 = n + 3 := by rw [e_B2]; show n + 2 + 1 = n + 3; omega
  refine WP.go 4 (Exists.intro 0 (And.intro (wrp_a2 (by omega) (by omega) (by omega)) (And.intro (fun (b3 : 0 < 0) => (absurd b3 (by omega))) (fun (b3 : ¬ 0 < 0) => ?_))))
  show WP (Call d) 67 P X (4, [some (vr (some 4) 5), some (vi v), some (vi 0)], [], (B2, H), 0, 0)
  refine WP.go 2 (And.intro rfl (?_))
  refine rw_i (Q := fun x9 => WP (Call d) 67 P X (6, [some (vr (some 4) 5), some (vi v), some (vi 0)], [vi x9], (B2, H), 0, 0)) hsz_6 ?_
  show WP (Call d) 67 P X (6, [some (vr (some 4) 5), some (vi v), some (vi 0)], [vi (n + 3)], (B2, H), 0, 0)
  refine WP.go 1 (And.intro (fun (b6 : n + 3 < 0) => (absurd b6 (by omega))) (fun (b6 : ¬ n + 3 < 0) => ?_))
  show WP (Call d) 67 P X (7, [some (vr (some 4) 5), some (vi v), some (vi 0)], [], (B2, H), 0, 0)
  refine WP.go 2 (And.intro rfl (?_))
  refine rw_i (Q := fun x9 => WP (Call d) 67 P X (9, [some (vr (some 4) 5), some (vi v), some (vi 0)], [vi x9], (B2, H), 0, 0)) hsz_6 ?_
  show WP (Call d) 67 P X (9, [some (vr (some 4) 5), some (vi v), some (vi 0)], [vi (n + 3)], (B2, H), 0, 0)
  refine WP.go 4 (And.intro rfl (Exists.intro 5 (And.intro hS.r4_0 (And.intro (Or.inl rfl) (And.intro (fun (b12 : ¬ n + 3 < H.2.1 5) => (absurd b12 (by omega))) (fun (b12 : n + 3 < H.2.1 5) => ?_))))))
  show WP (Call d) 67 P X (13, [some (vr (some 4) 5), some (vi v), some (vi 0)], [], (B2, H), 0, 0)
  refine WP.go 4 (And.intro rfl (Exists.intro 5 (And.intro hS.r4_0 (And.intro rfl (?_)))))
  refine rw_i (Q := fun x9 => WP (Call d) 67 P X (17, [some (vr (some 4) 5), some (vi v), some (vi 0)], [vi x9, vr (some 5) 11], (B2, H), 0, 0)) hsz_6 ?_
  show WP (Call d) 67 P X (17, [some (vr (some 4) 5), some (vi v), some (vi 0)], [vi (n + 3), vr (some 5) 11], (B2, H), 0, 0)
  refine WP.go 6 (And.intro (And.intro rfl (And.intro (show 0 ≤ n + 3 from by omega) (show n + 3 < H.2.1 5 from by omega))) (?_))
  show WP (Call d) 67 P X (23, [some (vr (some 4) 5), some (vi v), some (vi 0)], [], ((upI B2 5 (n + 3) (zand (zushr v 0) 255)), H), 0, 0)
  generalize hq_A3 : (upI B2 5 (n + 3) (zand (zushr v 0) 255)) = A3
  have e_A3 : A3 5 = (fun j => if j = (n + 3) then (zand (zushr v 0) 255) else B2 5 j) := by rw [← hq_A3]; exact upI_self _ _ _ _
  have f_A3 : ∀ a, a ≠ 5 → A3 a = B2 a := fun a q => by rw [← hq_A3]; exact upI_cell q
  have hsz_7 : A3 4 1 = n + 3 := (congrFun (f_A3 4 (by omega)) 1).trans hsz_6
  refine WP.go 3 (And.intro rfl (?_))
  refine rw_i (Q := fun x9 => WP (Call d) 67 P X (26, [some (vr (some 4) 5), some (vi v), some (vi 0)], [vi x9, vr (some 4) 5], (A3, H), 0, 0)) hsz_7 ?_
  show WP (Call d) 67 P X (26, [some (vr (some 4) 5), some (vi v), some (vi 0)], [vi (n + 3), vr (some 4) 5], (A3, H), 0, 0)
  refine WP.go 3 (Exists.intro ((n + 3) + 1) (And.intro (wrp_a (by omega) (by omega)) (And.intro (And.intro rfl trivial) (?_))))
  show WP (Call d) 67 P X (29, [some (vr (some 4) 5), some (vi v), some (vi 0)], [], ((upI A3 4 1 ((n + 3) + 1)), H), 0, 0)
  generalize hq_B3 : (upI A3 4 1 ((n + 3) + 1)) = B3
  have e_B3 : B3 4 = (fun j => if j = 1 then ((n + 3) + 1) else A3 4 j) := by rw [← hq_B3]; exact upI_self _ _ _ _
  have f_B3 : ∀ a, a ≠ 4 → B3 a = A3 a := fun a q => by rw [← hq_B3]; exact upI_cell q
  have hsz_8 : B3 4 1 = n + 4 := by rw [e_B3]; show n + 3 + 1 = n + 4; omega
  refine WP.go 4 (Exists.intro (-8) (And.intro (wrp_a2 (by omega) (by omega) (by omega)) (And.intro (fun (b3 : (-8) < 0) => ?_) (fun (b3 : ¬ (-8) < 0) => (absurd b3 (by omega))))))
  show WP (Call d) 67 P X (31, [some (vr (some 4) 5), some (vi v), some (vi (-8))], [], (B3, H), 0, 0)
  refine WP.go 1 (And.intro (And.intro (Nat.le_of_ble_eq_true rfl) (Nat.le_of_ble_eq_true rfl)) (?_))
  show P none (B3, H)
  refine h _ (funext fun s => ?_) (funext fun j => ?_) (fun a q1 q2 => by rw [f_B3 a q1, f_A3 a q2, f_B2 a q1, f_A2 a q2, f_B1 a q1, f_A1 a q2, f_B0 a q1, f_A0 a q2])
  · rw [e_B3, f_A3 4 (by omega), e_B2, f_A2 4 (by omega), e_B1, f_A1 4 (by omega), e_B0, f_A0 4 (by omega)]
    show (if s = 1 then n + 3 + 1 else if s = 1 then n + 2 + 1 else if s = 1 then n + 1 + 1 else if s = 1 then n + 1 else I 4 s) = _
    by_cases z : s = 1
    · rw [if_pos z, if_pos z]; omega
    · rw [if_neg z, if_neg z, if_neg z, if_neg z, if_neg z]
  · rw [f_B3 5 (by omega), e_A3, f_B2 5 (by omega), e_A2, f_B1 5 (by omega), e_A1, f_B0 5 (by omega), e_A0]
    show (if j = n + 3 then zand (zushr v 0) 255 else if j = n + 2 then zand (zushr v 8) 255 else if j = n + 1 then zand (zushr v 16) 255 else if j = n then zand (zushr v 24) 255 else I 5 j) = _
    by_cases z3 : j = n + 3
    · rw [if_pos z3, if_pos (by omega)]; exact byt_e (by omega)
    by_cases z2 : j = n + 2
    · rw [if_neg z3, if_pos z2, if_pos (by omega)]; exact byt_e (by omega)
    by_cases z1 : j = n + 1
    · rw [if_neg z3, if_neg z2, if_pos z1, if_pos (by omega)]; exact byt_e (by omega)
    by_cases z0 : j = n
    · rw [if_neg z3, if_neg z2, if_neg z1, if_pos z0, if_pos (by omega)]; exact byt_e (by omega)
    · rw [if_neg z3, if_neg z2, if_neg z1, if_neg z0, if_neg (by omega)]

theorem s_6_size {d : Nat} {P : Option qV → qH → Prop} {X : Nat → qH → Prop} {I : qI} {H : qS} (hd : 1 ≤ d) {n : Int} (hsz : I 4 1 = n) (h : P (some (vi n)) (I, H)) :
    Call d 65 [vr (some 4) 5] (I, H) P X := by
  obtain ⟨d, rfl⟩ : ∃ e, d = e + 1 := ⟨d - 1, by omega⟩
  show WP (Call d) 65 P X (0, [some (vr (some 4) 5)], [], (I, H), 0, 0)
  refine WP.go 3 (And.intro rfl (And.intro (And.intro (Nat.le_of_ble_eq_true rfl) (Nat.le_of_ble_eq_true rfl)) (And.intro trivial (?_))))
  show P (some (vi (I 4 1))) (I, H)
  exact fin_i (by exact hsz) h

theorem s_6_at {d : Nat} {P : Option qV → qH → Prop} {X : Nat → qH → Prop} {I : qI} {H : qS} (hd : 1 ≤ d) {n p : Int} (hS : Shp H) (hsz : I 4 1 = n) (hp : 0 ≤ p ∧ p < n ∧ n ≤ 400) (h : P (some (vi (I 5 p))) (I, H)) :
    Call d 66 [vr (some 4) 5, vi p] (I, H) P X := by
  obtain ⟨d, rfl⟩ : ∃ e, d = e + 1 := ⟨d - 1, by omega⟩
  have hl5 := hS.l5
  show WP (Call d) 66 P X (0, [some (vr (some 4) 5), some (vi p)], [], (I, H), 0, 0)
  refine WP.go 2 (And.intro (fun (b1 : p < 0) => (absurd b1 (by omega))) (fun (b1 : ¬ p < 0) => ?_))
  show WP (Call d) 66 P X (2, [some (vr (some 4) 5), some (vi p)], [], (I, H), 0, 0)
  refine WP.go 3 (And.intro rfl (?_))
  refine rw_i (Q := fun x9 => WP (Call d) 66 P X (5, [some (vr (some 4) 5), some (vi p)], [vi x9, vi p], (I, H), 0, 0)) hsz ?_
  show WP (Call d) 66 P X (5, [some (vr (some 4) 5), some (vi p)], [vi n, vi p], (I, H), 0, 0)
  refine WP.go 1 (And.intro (fun (b5 : ¬ p < n) => (absurd b5 (by omega))) (fun (b5 : p < n) => ?_))
  show WP (Call d) 66 P X (6, [some (vr (some 4) 5), some (vi p)], [], (I, H), 0, 0)
  refine WP.go 5 (And.intro rfl (Exists.intro 5 (And.intro hS.r4_0 (And.intro (Or.inl rfl) (And.intro (fun (b10 : ¬ p < H.2.1 5) => (absurd b10 (by omega))) (fun (b10 : p < H.2.1 5) => ?_))))))
  show WP (Call d) 66 P X (11, [some (vr (some 4) 5), some (vi p)], [], (I, H), 0, 0)
  refine WP.go 6 (And.intro rfl (Exists.intro 5 (And.intro hS.r4_0 (And.intro (And.intro rfl (And.intro (show 0 ≤ p from by omega) (show p < H.2.1 5 from by omega))) (And.intro (And.intro (Nat.le_of_ble_eq_true rfl) (Nat.le_of_ble_eq_true rfl)) (And.intro trivial (?_)))))))
  show P (some (vi (I 5 p))) (I, H)
  exact fin_i (by first | rfl | omega | exact zero_bz (by omega) | exact one_bz (by omega)) h

theorem s_6_cut {d : Nat} {P : Option qV → qH → Prop} {X : Nat → qH → Prop} {I : qI} {H : qS} (hd : 1 ≤ d) {n k : Int} (hsz : I 4 1 = n) (h : ((0 ≤ k ∧ k ≤ n) → ∀ J : qI, J 4 = (fun s => if s = 1 then k else I 4 s) → (∀ a, a ≠ 4 → J a = I a) → P (some (vi 1)) (J, H)) ∧ (¬ (0 ≤ k ∧ k ≤ n) → P (some (vi 0)) (I, H))) :
    Call d 68 [vr (some 4) 5, vi k] (I, H) P X := by
  obtain ⟨d, rfl⟩ : ∃ e, d = e + 1 := ⟨d - 1, by omega⟩
  show WP (Call d) 68 P X (0, [some (vr (some 4) 5), some (vi k)], [], (I, H), 0, 0)
  refine WP.go 2 (And.intro (fun (b1 : k < 0) => ?_) (fun (b1 : ¬ k < 0) => ?_))
  ·
    show WP (Call d) 68 P X (6, [some (vr (some 4) 5), some (vi k)], [], (I, H), 0, 0)
    refine WP.go 2 (And.intro (And.intro (Nat.le_of_ble_eq_true rfl) (Nat.le_of_ble_eq_true rfl)) (And.intro (Or.inl rfl) (?_)))
    show P (some (vi 0)) (I, H)
    exact h.2 (by omega)
  ·
    show WP (Call d) 68 P X (2, [some (vr (some 4) 5), some (vi k)], [], (I, H), 0, 0)
    refine WP.go 3 (And.intro rfl (?_))
    refine rw_i (Q := fun x9 => WP (Call d) 68 P X (5, [some (vr (some 4) 5), some (vi k)], [vi x9, vi k], (I, H), 0, 0)) hsz ?_
    show WP (Call d) 68 P X (5, [some (vr (some 4) 5), some (vi k)], [vi n, vi k], (I, H), 0, 0)
    refine WP.go 1 (And.intro (fun (b5 : ¬ n < k) => ?_) (fun (b5 : n < k) => ?_))
    ·
      show WP (Call d) 68 P X (8, [some (vr (some 4) 5), some (vi k)], [], (I, H), 0, 0)
      refine WP.go 5 (And.intro (And.intro rfl trivial) (And.intro (And.intro (Nat.le_of_ble_eq_true rfl) (Nat.le_of_ble_eq_true rfl)) (And.intro (Or.inr rfl) (?_))))
      show P (some (vi 1)) ((upI I 4 1 k), H)
      exact h.1 (by omega) _ (upI_self _ _ _ _) (fun a q => upI_cell q)
    ·
      show WP (Call d) 68 P X (6, [some (vr (some 4) 5), some (vi k)], [], (I, H), 0, 0)
      refine WP.go 2 (And.intro (And.intro (Nat.le_of_ble_eq_true rfl) (Nat.le_of_ble_eq_true rfl)) (And.intro (Or.inl rfl) (?_)))
      show P (some (vi 0)) (I, H)
      exact h.2 (by omega)

theorem s_11_feed {d : Nat} {P : Option qV → qH → Prop} {X : Nat → qH → Prop} {I : qI} {H : qS} (hd : 2 ≤ d) {n a b c d9 e9 : Int} (hS : Shp H) (hsz : I 4 1 = n) (hn : 0 ≤ n ∧ n ≤ 400) (h : (400 < n + 20 → P (some (vi (-1))) (I, H)) ∧ (n + 20 ≤ 400 → ∀ J : qI, J 4 1 = n + 20 → J 5 = fdT (I 5) n a b c d9 e9 → (∀ a, a ≠ 4 → a ≠ 5 → J a = I a) → P (some (vi (n + 20))) (J, H))) :
    Call d 116 [vr (some 3) 9, vi a, vi b, vi c, vi d9, vi e9] (I, H) P X := by
  obtain ⟨d, rfl⟩ : ∃ e, d = e + 1 := ⟨d - 1, by omega⟩
  show WP (Call d) 116 P X (0, [some (vr (some 3) 9), some (vi a), some (vi b), some (vi c), some (vi d9), some (vi e9)], [], (I, H), 0, 0)
  refine WP.go 3 (And.intro rfl (Exists.intro 4 (And.intro hS.r3_0 (And.intro (And.intro (Nat.le_of_ble_eq_true rfl) (Nat.le_of_ble_eq_true rfl)) (And.intro rfl (?_))))))
  show Call d 65 [vr (some 4) 5] (I, H) _ _
  refine s_6_size (by omega) hsz ?_
  show WP (Call d) 116 P X (3, [some (vr (some 3) 9), some (vi a), some (vi b), some (vi c), some (vi d9), some (vi e9)], [vi n], (I, H), 0, 0)
  refine WP.go 4 (Exists.intro (n + 20) (And.intro (wrp_a (by omega) (by omega)) (And.intro (fun (b6 : ¬ 400 < n + 20) => ?_) (fun (b6 : 400 < n + 20) => ?_))))
  ·
    show WP (Call d) 116 P X (9, [some (vr (some 3) 9), some (vi a), some (vi b), some (vi c), some (vi d9), some (vi e9)], [], (I, H), 0, 0)
    refine WP.go 4 (And.intro rfl (Exists.intro 4 (And.intro hS.r3_0 (And.intro (And.intro (Nat.le_of_ble_eq_true rfl) (Nat.le_of_ble_eq_true rfl)) (And.intro rfl (?_))))))
    show Call d 67 [vr (some 4) 5, vi a] (I, H) _ _
    refine s_6_append (by omega) hS hsz (by omega) (fun J12 e12 f12 g12 => ?_)
    show WP (Call d) 116 P X (13, [some (vr (some 3) 9), some (vi a), some (vi b), some (vi c), some (vi d9), some (vi e9)], [], (J12, H), 0, 0)
    have hsz_1 : J12 4 1 = n + 4 := by rw [e12]; show n + 4 = n + 4; omega
    refine WP.go 4 (And.intro rfl (Exists.intro 4 (And.intro hS.r3_0 (And.intro (And.intro (Nat.le_of_ble_eq_true rfl) (Nat.le_of_ble_eq_true rfl)) (And.intro rfl (?_))))))
    show Call d 67 [vr (some 4) 5, vi b] (J12, H) _ _
    refine s_6_append (by omega) hS hsz_1 (by omega) (fun J16 e16 f16 g16 => ?_)
    show WP (Call d) 116 P X (17, [some (vr (some 3) 9), some (vi a), some (vi b), some (vi c), some (vi d9), some (vi e9)], [], (J16, H), 0, 0)
    have hsz_2 : J16 4 1 = n + 8 := by rw [e16]; show n + 4 + 4 = n + 8; omega
    refine WP.go 4 (And.intro rfl (Exists.intro 4 (And.intro hS.r3_0 (And.intro (And.intro (Nat.le_of_ble_eq_true rfl) (Nat.le_of_ble_eq_true rfl)) (And.intro rfl (?_))))))
    show Call d 67 [vr (some 4) 5, vi c] (J16, H) _ _
    refine s_6_append (by omega) hS hsz_2 (by omega) (fun J20 e20 f20 g20 => ?_)
    show WP (Call d) 116 P X (21, [some (vr (some 3) 9), some (vi a), some (vi b), some (vi c), some (vi d9), some (vi e9)], [], (J20, H), 0, 0)
    have hsz_3 : J20 4 1 = n + 12 := by rw [e20]; show n + 8 + 4 = n + 12; omega
    refine WP.go 4 (And.intro rfl (Exists.intro 4 (And.intro hS.r3_0 (And.intro (And.intro (Nat.le_of_ble_eq_true rfl) (Nat.le_of_ble_eq_true rfl)) (And.intro rfl (?_))))))
    show Call d 67 [vr (some 4) 5, vi d9] (J20, H) _ _
    refine s_6_append (by omega) hS hsz_3 (by omega) (fun J24 e24 f24 g24 => ?_)
    show WP (Call d) 116 P X (25, [some (vr (some 3) 9), some (vi a), some (vi b), some (vi c), some (vi d9), some (vi e9)], [], (J24, H), 0, 0)
    have hsz_4 : J24 4 1 = n + 16 := by rw [e24]; show n + 12 + 4 = n + 16; omega
    refine WP.go 4 (And.intro rfl (Exists.intro 4 (And.intro hS.r3_0 (And.intro (And.intro (Nat.le_of_ble_eq_true rfl) (Nat.le_of_ble_eq_true rfl)) (And.intro rfl (?_))))))
    show Call d 67 [vr (some 4) 5, vi e9] (J24, H) _ _
    refine s_6_append (by omega) hS hsz_4 (by omega) (fun J28 e28 f28 g28 => ?_)
    show WP (Call d) 116 P X (29, [some (vr (some 3) 9), some (vi a), some (vi b), some (vi c), some (vi d9), some (vi e9)], [], (J28, H), 0, 0)
    have hsz_5 : J28 4 1 = n + 20 := by rw [e28]; show n + 16 + 4 = n + 20; omega
    refine WP.go 3 (And.intro rfl (Exists.intro 4 (And.intro hS.r3_0 (And.intro (And.intro (Nat.le_of_ble_eq_true rfl) (Nat.le_of_ble_eq_true rfl)) (And.intro rfl (?_))))))
    show Call d 65 [vr (some 4) 5] (J28, H) _ _
    refine s_6_size (by omega) hsz_5 ?_
    show WP (Call d) 116 P X (32, [some (vr (some 3) 9), some (vi a), some (vi b), some (vi c), some (vi d9), some (vi e9)], [vi (n + 20)], (J28, H), 0, 0)
    refine WP.go 1 (And.intro (And.intro (Nat.le_of_ble_eq_true rfl) (Nat.le_of_ble_eq_true rfl)) (And.intro trivial (?_)))
    show P (some (vi (n + 20))) (J28, H)
    refine fin_i rfl (h.2 (by omega) _ ?_ (funext fun j => ?_) (fun a q1 q2 => by rw [g28 a q1 q2, g24 a q1 q2, g20 a q1 q2, g16 a q1 q2, g12 a q1 q2]))
    · exact hsz_5
    · rw [f28, f24, f20, f16, f12]
      unfold fdT
      rw [show n + 4 + 4 = n + 8 by omega, show n + 8 + 4 = n + 12 by omega, show n + 12 + 4 = n + 16 by omega, show n + 16 + 4 = n + 20 by omega]
  ·
    show WP (Call d) 116 P X (7, [some (vr (some 3) 9), some (vi a), some (vi b), some (vi c), some (vi d9), some (vi e9)], [], (I, H), 0, 0)
    refine WP.go 2 (And.intro (And.intro (Nat.le_of_ble_eq_true rfl) (Nat.le_of_ble_eq_true rfl)) (And.intro trivial (?_)))
    show P (some (vi (-1))) (I, H)
    exact h.1 (by omega)

theorem s_11_end {d : Nat} {P : Option qV → qH → Prop} {X : Nat → qH → Prop} {I : qI} {H : qS} (hd : 2 ≤ d) {n k : Int} (hS : Shp H) (hsz : I 4 1 = n) (h : ((0 ≤ k ∧ k ≤ n) → ∀ J : qI, J 4 = (fun s => if s = 1 then k else I 4 s) → (∀ a, a ≠ 4 → J a = I a) → P (some (vi 1)) (J, H)) ∧ (¬ (0 ≤ k ∧ k ≤ n) → P (some (vi 0)) (I, H))) :
    Call d 117 [vr (some 3) 9, vi k] (I, H) P X := by
  obtain ⟨d, rfl⟩ : ∃ e, d = e + 1 := ⟨d - 1, by omega⟩
  show WP (Call d) 117 P X (0, [some (vr (some 3) 9), some (vi k)], [], (I, H), 0, 0)
  refine WP.go 4 (And.intro rfl (Exists.intro 4 (And.intro hS.r3_0 (And.intro (And.intro (Nat.le_of_ble_eq_true rfl) (Nat.le_of_ble_eq_true rfl)) (And.intro rfl ?_)))))
  show Call d 68 [vr (some 4) 5, vi k] (I, H) _ _
  refine s_6_cut (by omega) hsz ⟨fun q J e f => ?_, fun q => ?_⟩
  · show WP (Call d) 117 P X (4, [some (vr (some 3) 9), some (vi k)], [vi 1], (J, H), 0, 0)
    refine WP.go 1 (And.intro (And.intro (Nat.le_of_ble_eq_true rfl) (Nat.le_of_ble_eq_true rfl)) (And.intro (Or.inr rfl) ?_))
    exact h.1 q J e f
  · show WP (Call d) 117 P X (4, [some (vr (some 3) 9), some (vi k)], [vi 0], (I, H), 0, 0)
    refine WP.go 1 (And.intro (And.intro (Nat.le_of_ble_eq_true rfl) (Nat.le_of_ble_eq_true rfl)) (And.intro (Or.inl rfl) ?_))
    exact h.2 q

theorem s_11_fault {d : Nat} {P : Option qV → qH → Prop} {X : Nat → qH → Prop} {I : qI} {H : qS} (hd : 1 ≤ d) (h : P (some (vi (I 3 11))) (I, H)) :
    Call d 120 [vr (some 3) 9] (I, H) P X := by
  obtain ⟨d, rfl⟩ : ∃ e, d = e + 1 := ⟨d - 1, by omega⟩
  show WP (Call d) 120 P X (0, [some (vr (some 3) 9)], [], (I, H), 0, 0)
  refine WP.go 3 (And.intro rfl (And.intro (And.intro (Nat.le_of_ble_eq_true rfl) (Nat.le_of_ble_eq_true rfl)) (And.intro trivial (?_))))
  show P (some (vi (I 3 11))) (I, H)
  exact fin_i (by first | rfl | omega | exact zero_bz (by omega) | exact one_bz (by omega)) h

