/-- but for the reader, void and pays, all is as it was -/
def FS (I J : qI) : Prop := (∀ s, s ≠ 9 → s ≠ 10 → s ≠ 11 → s ≠ 16 → s ≠ 17 → J 90 s = I 90 s) ∧ (∀ a, a ≠ 90 → J a = I a)
theorem FS.rf (I : qI) : FS I I := ⟨fun _ _ _ _ _ _ => rfl, fun _ _ => rfl⟩
theorem FS.tr {I J K : qI} (h : FS I J) (g : FS J K) : FS I K := ⟨fun s a b c d e => (g.1 s a b c d e).trans (h.1 s a b c d e), fun a q => (g.2 a q).trans (h.2 a q)⟩
theorem FA.fs {I J : qI} (h : FA I J) : FS I J := ⟨fun s a b c _ _ => h.1 s a b c, h.2⟩
theorem FS.lt {I J : qI} {tb : Int → Int} {n : Int} (f : FS I J) (h : LTX I tb n) : LTX J tb n := h.fr (f.1 7 (by omega) (by omega) (by omega) (by omega) (by omega)) (f.1 8 (by omega) (by omega) (by omega) (by omega) (by omega)) (f.2 94 (by omega)) (f.2 91 (by omega))
theorem FS.fr {I J : qI} {F : Int → Int} (f : FS I J) (h : FR I F) : FR J F := by
  unfold FR at *
  rw [f.2 95 (by omega), f.1 13 (by omega) (by omega) (by omega) (by omega) (by omega), f.1 14 (by omega) (by omega) (by omega) (by omega) (by omega), f.1 15 (by omega) (by omega) (by omega) (by omega) (by omega)]
  exact h
def vd (v W : Int) : Int := if v = 0 then W else 1
theorem lease_tail {d : Nat} {P : Option qV → qH → Prop} {X : Nat → qH → Prop} {I : qI} {H : qS} (hd : 40 ≤ d) {tb F : Int → Int} {n p vo py N t9 Y sf vf W : Int} (hS : Shp H) (hL : LTX I tb n) (hR : RAT I tb n p) (hF : I 90 10 = -1) (h11 : I 90 11 = 0) (hfr : FR I F) (hFB : FB F) (h17 : I 90 17 = Y + sf) (h16 : I 90 16 = vd vf W) (hN : 0 ≤ N ∧ N ≤ 299700) (hY : -1000000000000000 ≤ Y + sf ∧ Y + sf ≤ 1000000000000000) (hk : ((vo = 1 ∧ py = 0 ∧ t9 = 1011 ∧ N = 0) ∨ (vo = 0 ∧ py = 1 ∧ t9 = 1009) ∨ (vo = 0 ∧ py = 0 ∧ t9 = 1010))) (h : ((lcon tb n p).1 = -1 → ∀ J : qI, FS I J → RAT J tb n (lcon tb n p).2.2.2 → J 90 10 = -1 → J 90 11 = 0 → J 90 17 = Y + (sf + lch t9 N ((lcon tb n p).2.2.1 F)) → J 90 16 = vd (if t9 = 1011 ∧ (lcon tb n p).2.2.1 F ≠ 0 then 1 else vf) W → P none (J, H)) ∧ ((lcon tb n p).1 ≠ -1 → ∀ J : qI, FS I J → J 90 10 = (lcon tb n p).1 → (0 ≤ J 90 9 ∧ J 90 9 ≤ n + 6) → J 90 17 = I 90 17 → J 90 16 = I 90 16 → P none (J, H))) :
    WP (Call d) 205 P X (72, [some (vr (some 90) 10), some (vi vo), some (vi py), some (vl N), none, none], [], (I, H), 0, 0) := by
  have hu := FA.rf I
  have hpb := hR.bd
  have hb := hR.1
  have hn := hL.2.1
  refine WP.go 2 (And.intro rfl (?_))
  refine rw_i (Q := fun x9 => WP (Call d) 205 P X (74, [some (vr (some 90) 10), some (vi vo), some (vi py), some (vl N), none, none], [vi x9], (I, H), 0, 0)) hF ?_
  show WP (Call d) 205 P X (74, [some (vr (some 90) 10), some (vi vo), some (vi py), some (vl N), none, none], [vi (-1)], (I, H), 0, 0)
  refine WP.go 2 (And.intro (fun (b75 : ¬ (-1) = (-1)) => (absurd b75 (by omega))) (fun (b75 : (-1) = (-1)) => ?_))
  show WP (Call d) 205 P X (76, [some (vr (some 90) 10), some (vi vo), some (vi py), some (vl N), none, none], [], (I, H), 0, 0)
  refine WP.go 3 (And.intro (And.intro (Nat.le_of_ble_eq_true rfl) (Nat.le_of_ble_eq_true rfl)) (And.intro rfl (?_)))
  show Call d 191 [vr (some 90) 10, vr (some 24) 100] (I, H) _ _
  refine s_12_has (by omega) hS hL hR (by omega) ⟨(fun q78 J78 e78 f78 => ?_), (fun q78_1 J78_1 e78_1 f78_1 => ?_)⟩
  ·
    show WP (Call d) 205 P X (79, [some (vr (some 90) 10), some (vi vo), some (vi py), some (vl N), none, none], [vi 1], (J78, H), 0, 0)
    have hL_1 : LTX J78 tb n := f78.lt hL
    have pb9 := hR.bd
    have nb9 := nx_bd (tb := tb) pb9.1 (th_lt (tb := tb) pb9.2.1 (fun z => absurd (q78.symm.trans z) (by decide)))
    have hR_2 : RAT J78 tb n (nx tb n p) := rat_go hR (fun z => absurd (q78.symm.trans z) (by decide)) e78
    have hF_3 : J78 90 10 = _ := (f78.1 10 (by omega)).trans hF
    have hu_4 : FA I J78 := hu.n f78
    have h_5 : J78 90 11 = _ := (f78.1 11 (by omega)).trans h11
    have hb_6 : 0 ≤ J78 90 9 ∧ J78 90 9 ≤ n := hR_2.1
    refine WP.go 1 (And.intro (fun (b79 : 1 = 0) => (absurd b79 (by omega))) (fun (b79 : ¬ 1 = 0) => ?_))
    show WP (Call d) 205 P X (80, [some (vr (some 90) 10), some (vi vo), some (vi py), some (vl N), none, none], [], (J78, H), 0, 0)
    refine WP.go 2 (And.intro (And.intro (Nat.le_of_ble_eq_true rfl) (Nat.le_of_ble_eq_true rfl)) (And.intro rfl (?_)))
    show Call d 204 [vr (some 90) 10] (J78, H) _ _
    refine (many0_MC hL.2.1.2 hFB) (by omega) hS hL_1 hR_2 hF_3 h_5 (hu_4.fr hfr) ⟨(fun q81 J81 e81 f81 => ?_), (fun q81_1 J81_1 v81 e81_1 b81 f81_1 g81 vb81 => ?_)⟩
    ·
      show WP (Call d) 205 P X (82, [some (vr (some 90) 10), some (vi vo), some (vi py), some (vl N), none, none], [vi ((pAny tb n (pAt tb n 6) (nx tb n p)).2.2.1 F)], (J81, H), 0, 0)
      have hL_7 : LTX J81 tb n := f81.lt hL_1
      have pb9 := hR_2.bd
      have gd9 := pAny_gd (tb := tb) hL.2.1.2 (by omega) (pAt_gd hL.2.1.2 6) (p := (nx tb n p)) (by omega) (by omega) q81
      have ga9 := gd9.1
      have gb9 := gd9.2.1
      have gv9 := vb_1 (gd9.2.2.2 F hFB).1
      have hR_8 : RAT J81 tb n (pAny tb n (pAt tb n 6) (nx tb n p)).2.2.2 := e81
      have hF_9 : J81 90 10 = _ := (f81.1 10 (by omega)).trans hF_3
      have hu_10 : FA I J81 := hu_4.n f81
      have h_11 : J81 90 11 = _ := (f81.1 11 (by omega)).trans h_5
      have hb_12 : 0 ≤ J81 90 9 ∧ J81 90 9 ≤ n := hR_8.1
      refine WP.go 1 (And.intro (fun (b82 : (pAny tb n (pAt tb n 6) (nx tb n p)).2.2.1 F = 0) => ?_) (fun (b82 : ¬ (pAny tb n (pAt tb n 6) (nx tb n p)).2.2.1 F = 0) => ?_))
      ·
        show WP (Call d) 205 P X (85, [some (vr (some 90) 10), some (vi vo), some (vi py), some (vl N), none, none], [], (J81, H), 0, 0)
        refine WP.go 4 (And.intro (fun (b88 : 0 = 0) => ?_) (fun (b88 : ¬ 0 = 0) => (absurd b88 (by omega))))
        show WP (Call d) 205 P X (93, [some (vr (some 90) 10), some (vi vo), some (vi py), some (vl N), none, some (vi 0)], [], (J81, H), 0, 0)
        refine WP.go 1 (And.intro (And.intro (Nat.le_of_ble_eq_true rfl) (Nat.le_of_ble_eq_true rfl)) (?_))
        show P none (J81, H)
        have r8 := lcon_i q78
        exact h.1 (by rw [r8]; exact q81) _ hu_10.fs (by rw [r8]; exact hR_8) hF_9 h_11 (by rw [r8, b82, (hu_10.1 17 (by omega) (by omega) (by omega)).trans h17]; unfold lch; split <;> (try split) <;> (try split) <;> omega) (by rw [r8, b82, if_neg (fun z => z.2 rfl)]; exact (hu_10.1 16 (by omega) (by omega) (by omega)).trans h16)
      ·
        show WP (Call d) 205 P X (83, [some (vr (some 90) 10), some (vi vo), some (vi py), some (vl N), none, none], [], (J81, H), 0, 0)
        refine WP.go 5 (And.intro (fun (b88 : 1 = 0) => (absurd b88 (by omega))) (fun (b88 : ¬ 1 = 0) => ?_))
        show WP (Call d) 205 P X (89, [some (vr (some 90) 10), some (vi vo), some (vi py), some (vl N), none, some (vi 1)], [], (J81, H), 0, 0)
        refine WP.go 2 (And.intro rfl (?_))
        refine rw_i (Q := fun x9 => WP (Call d) 205 P X (91, [some (vr (some 90) 10), some (vi vo), some (vi py), some (vl N), none, some (vi 1)], [vi x9], (J81, H), 0, 0)) hF_9 ?_
        show WP (Call d) 205 P X (91, [some (vr (some 90) 10), some (vi vo), some (vi py), some (vl N), none, some (vi 1)], [vi (-1)], (J81, H), 0, 0)
        refine WP.go 2 (And.intro (fun (b92 : (-1) = (-1)) => ?_) (fun (b92 : ¬ (-1) = (-1)) => (absurd b92 (by omega))))
        show WP (Call d) 205 P X (94, [some (vr (some 90) 10), some (vi vo), some (vi py), some (vl N), none, some (vi 1)], [], (J81, H), 0, 0)
        refine WP.go 2 (And.intro (fun (b95 : vo = 0) => ?_) (fun (b95 : ¬ vo = 0) => ?_))
        ·
          show WP (Call d) 205 P X (99, [some (vr (some 90) 10), some (vi vo), some (vi py), some (vl N), none, some (vi 1)], [], (J81, H), 0, 0)
          refine WP.go 3 (And.intro rfl (?_))
          refine rw_i (Q := fun x9 => WP (Call d) 205 P X (102, [some (vr (some 90) 10), some (vi vo), some (vi py), some (vl N), none, some (vi 1)], [vl x9, vr (some 90) 10], (J81, H), 0, 0)) ((hu_10.1 17 (by omega) (by omega) (by omega)).trans h17) ?_
          show WP (Call d) 205 P X (102, [some (vr (some 90) 10), some (vi vo), some (vi py), some (vl N), none, some (vi 1)], [vl (Y + sf), vr (some 90) 10], (J81, H), 0, 0)
          refine WP.go 2 (And.intro (fun (b103 : py = 0) => ?_) (fun (b103 : ¬ py = 0) => ?_))
          ·
            show WP (Call d) 205 P X (106, [some (vr (some 90) 10), some (vi vo), some (vi py), some (vl N), none, some (vi 1)], [vl (Y + sf), vr (some 90) 10], (J81, H), 0, 0)
            refine WP.go 4 (And.intro (And.intro (by omega) (by omega)) (And.intro (And.intro (by omega) (by omega)) (And.intro rfl (?_))))
            show WP (Call d) 205 P X (110, [some (vr (some 90) 10), some (vi vo), some (vi py), some (vl N), none, some (vi 1)], [], ((upI J81 90 17 ((Y + sf) + (-N))), H), 0, 0)
            generalize hq_Z0 : (upI J81 90 17 ((Y + sf) + (-N))) = Z0
            have e_Z0 : Z0 90 = (fun j => if j = 17 then ((Y + sf) + (-N)) else J81 90 j) := by rw [← hq_Z0]; exact upI_self _ _ _ _
            have f_Z0 : ∀ a, a ≠ 90 → Z0 a = J81 a := fun a q => by rw [← hq_Z0]; exact upI_cell q
            refine WP.go 1 (And.intro (And.intro (Nat.le_of_ble_eq_true rfl) (Nat.le_of_ble_eq_true rfl)) (?_))
            show P none (Z0, H)
            have r8 := lcon_i q78
            have v8 : (pAny tb n (pAt tb n 6) (nx tb n p)).2.2.1 F = 1 := by omega
            exact h.1 (by rw [r8]; exact q81) _ ⟨fun s q1 q2 q3 q4 q5 => by rw [e_Z0]; refine (if_neg q5).trans ?_; exact hu_10.1 s q1 q2 q3, fun a q => by rw [f_Z0 a q]; exact hu_10.2 a q⟩ (by rw [r8]; exact hR_8.cp (by rw [e_Z0]; rfl)) (by rw [e_Z0]; exact hF_9) (by rw [e_Z0]; exact h_11) (by rw [e_Z0, r8]; show Y + sf + -N = Y + (sf + lch t9 N ((pAny tb n (pAt tb n 6) (nx tb n p)).2.2.1 F)); unfold lch; split <;> (try split) <;> (try split) <;> omega) (by rw [r8]; rw [e_Z0, if_neg (fun z => by have z1 := z.1; omega)]; exact (hu_10.1 16 (by omega) (by omega) (by omega)).trans h16)
          ·
            show WP (Call d) 205 P X (104, [some (vr (some 90) 10), some (vi vo), some (vi py), some (vl N), none, some (vi 1)], [vl (Y + sf), vr (some 90) 10], (J81, H), 0, 0)
            refine WP.go 4 (And.intro (And.intro (by omega) (by omega)) (And.intro rfl (?_)))
            show WP (Call d) 205 P X (110, [some (vr (some 90) 10), some (vi vo), some (vi py), some (vl N), none, some (vi 1)], [], ((upI J81 90 17 ((Y + sf) + N)), H), 0, 0)
            generalize hq_Z0 : (upI J81 90 17 ((Y + sf) + N)) = Z0
            have e_Z0 : Z0 90 = (fun j => if j = 17 then ((Y + sf) + N) else J81 90 j) := by rw [← hq_Z0]; exact upI_self _ _ _ _
            have f_Z0 : ∀ a, a ≠ 90 → Z0 a = J81 a := fun a q => by rw [← hq_Z0]; exact upI_cell q
            refine WP.go 1 (And.intro (And.intro (Nat.le_of_ble_eq_true rfl) (Nat.le_of_ble_eq_true rfl)) (?_))
            show P none (Z0, H)
            have r8 := lcon_i q78
            have v8 : (pAny tb n (pAt tb n 6) (nx tb n p)).2.2.1 F = 1 := by omega
            exact h.1 (by rw [r8]; exact q81) _ ⟨fun s q1 q2 q3 q4 q5 => by rw [e_Z0]; refine (if_neg q5).trans ?_; exact hu_10.1 s q1 q2 q3, fun a q => by rw [f_Z0 a q]; exact hu_10.2 a q⟩ (by rw [r8]; exact hR_8.cp (by rw [e_Z0]; rfl)) (by rw [e_Z0]; exact hF_9) (by rw [e_Z0]; exact h_11) (by rw [e_Z0, r8]; show Y + sf + N = Y + (sf + lch t9 N ((pAny tb n (pAt tb n 6) (nx tb n p)).2.2.1 F)); unfold lch; split <;> (try split) <;> (try split) <;> omega) (by rw [r8]; rw [e_Z0, if_neg (fun z => by have z1 := z.1; omega)]; exact (hu_10.1 16 (by omega) (by omega) (by omega)).trans h16)
        ·
          show WP (Call d) 205 P X (96, [some (vr (some 90) 10), some (vi vo), some (vi py), some (vl N), none, some (vi 1)], [], (J81, H), 0, 0)
          refine WP.go 6 (And.intro (And.intro rfl (Or.inr rfl)) (And.intro rfl (?_)))
          refine rw_i (Q := fun x9 => WP (Call d) 205 P X (102, [some (vr (some 90) 10), some (vi vo), some (vi py), some (vl N), none, some (vi 1)], [vl x9, vr (some 90) 10], ((upI J81 90 16 1), H), 0, 0)) ((hu_10.1 17 (by omega) (by omega) (by omega)).trans h17) ?_
          show WP (Call d) 205 P X (102, [some (vr (some 90) 10), some (vi vo), some (vi py), some (vl N), none, some (vi 1)], [vl (Y + sf), vr (some 90) 10], ((upI J81 90 16 1), H), 0, 0)
          refine WP.go 2 (And.intro (fun (b103 : py = 0) => ?_) (fun (b103 : ¬ py = 0) => ?_))
          ·
            show WP (Call d) 205 P X (106, [some (vr (some 90) 10), some (vi vo), some (vi py), some (vl N), none, some (vi 1)], [vl (Y + sf), vr (some 90) 10], ((upI J81 90 16 1), H), 0, 0)
            refine WP.go 4 (And.intro (And.intro (by omega) (by omega)) (And.intro (And.intro (by omega) (by omega)) (And.intro rfl (?_))))
            show WP (Call d) 205 P X (110, [some (vr (some 90) 10), some (vi vo), some (vi py), some (vl N), none, some (vi 1)], [], ((upI (upI J81 90 16 1) 90 17 ((Y + sf) + (-N))), H), 0, 0)
            generalize hq_Z0 : (upI (upI J81 90 16 1) 90 17 ((Y + sf) + (-N))) = Z0
            have e_Z0 : Z0 90 = (fun j => if j = 17 then ((Y + sf) + (-N)) else (upI J81 90 16 1) 90 j) := by rw [← hq_Z0]; exact upI_self _ _ _ _
            have f_Z0 : ∀ a, a ≠ 90 → Z0 a = (upI J81 90 16 1) a := fun a q => by rw [← hq_Z0]; exact upI_cell q
            refine WP.go 1 (And.intro (And.intro (Nat.le_of_ble_eq_true rfl) (Nat.le_of_ble_eq_true rfl)) (?_))
            show P none (Z0, H)
            have r8 := lcon_i q78
            have v8 : (pAny tb n (pAt tb n 6) (nx tb n p)).2.2.1 F = 1 := by omega
            exact h.1 (by rw [r8]; exact q81) _ ⟨fun s q1 q2 q3 q4 q5 => by rw [e_Z0]; refine (if_neg q5).trans ?_; rw [upI_at (.inr q4)]; exact hu_10.1 s q1 q2 q3, fun a q => by rw [f_Z0 a q, upI_cell q]; exact hu_10.2 a q⟩ (by rw [r8]; exact hR_8.cp (by rw [e_Z0]; rfl)) (by rw [e_Z0]; exact hF_9) (by rw [e_Z0]; exact h_11) (by rw [e_Z0, r8]; show Y + sf + -N = Y + (sf + lch t9 N ((pAny tb n (pAt tb n 6) (nx tb n p)).2.2.1 F)); unfold lch; split <;> (try split) <;> (try split) <;> omega) (by rw [r8]; rw [e_Z0]; show (1 : Int) = _; rw [if_pos ⟨by omega, by show (pAny tb n (pAt tb n 6) (nx tb n p)).2.2.1 F ≠ 0; omega⟩]; rfl)
          ·
            show WP (Call d) 205 P X (104, [some (vr (some 90) 10), some (vi vo), some (vi py), some (vl N), none, some (vi 1)], [vl (Y + sf), vr (some 90) 10], ((upI J81 90 16 1), H), 0, 0)
            refine WP.go 4 (And.intro (And.intro (by omega) (by omega)) (And.intro rfl (?_)))
            show WP (Call d) 205 P X (110, [some (vr (some 90) 10), some (vi vo), some (vi py), some (vl N), none, some (vi 1)], [], ((upI (upI J81 90 16 1) 90 17 ((Y + sf) + N)), H), 0, 0)
            generalize hq_Z0 : (upI (upI J81 90 16 1) 90 17 ((Y + sf) + N)) = Z0
            have e_Z0 : Z0 90 = (fun j => if j = 17 then ((Y + sf) + N) else (upI J81 90 16 1) 90 j) := by rw [← hq_Z0]; exact upI_self _ _ _ _
            have f_Z0 : ∀ a, a ≠ 90 → Z0 a = (upI J81 90 16 1) a := fun a q => by rw [← hq_Z0]; exact upI_cell q
            refine WP.go 1 (And.intro (And.intro (Nat.le_of_ble_eq_true rfl) (Nat.le_of_ble_eq_true rfl)) (?_))
            show P none (Z0, H)
            have r8 := lcon_i q78
            have v8 : (pAny tb n (pAt tb n 6) (nx tb n p)).2.2.1 F = 1 := by omega
            exact h.1 (by rw [r8]; exact q81) _ ⟨fun s q1 q2 q3 q4 q5 => by rw [e_Z0]; refine (if_neg q5).trans ?_; rw [upI_at (.inr q4)]; exact hu_10.1 s q1 q2 q3, fun a q => by rw [f_Z0 a q, upI_cell q]; exact hu_10.2 a q⟩ (by rw [r8]; exact hR_8.cp (by rw [e_Z0]; rfl)) (by rw [e_Z0]; exact hF_9) (by rw [e_Z0]; exact h_11) (by rw [e_Z0, r8]; show Y + sf + N = Y + (sf + lch t9 N ((pAny tb n (pAt tb n 6) (nx tb n p)).2.2.1 F)); unfold lch; split <;> (try split) <;> (try split) <;> omega) (by rw [r8]; rw [e_Z0]; show (1 : Int) = _; rw [if_pos ⟨by omega, by show (pAny tb n (pAt tb n 6) (nx tb n p)).2.2.1 F ≠ 0; omega⟩]; rfl)
    ·
      show WP (Call d) 205 P X (82, [some (vr (some 90) 10), some (vi vo), some (vi py), some (vl N), none, none], [vi v81], (J81_1, H), 0, 0)
      have h_13 : J81_1 90 11 = 0 := g81
      have hL_14 : LTX J81_1 tb n := f81_1.lt hL_1
      have hF_15 : J81_1 90 10 = (pAny tb n (pAt tb n 6) (nx tb n p)).1 := e81_1
      have hu_16 : FA I J81_1 := hu_4.tr f81_1
      have hb_17 : 0 ≤ J81_1 90 9 ∧ J81_1 90 9 ≤ n + 6 - 0 := b81
      refine WP.go 1 (And.intro (fun (b82 : v81 = 0) => ?_) (fun (b82 : ¬ v81 = 0) => ?_))
      ·
        show WP (Call d) 205 P X (85, [some (vr (some 90) 10), some (vi vo), some (vi py), some (vl N), none, none], [], (J81_1, H), 0, 0)
        refine WP.go 4 (And.intro (fun (b88 : 0 = 0) => ?_) (fun (b88 : ¬ 0 = 0) => (absurd b88 (by omega))))
        show WP (Call d) 205 P X (93, [some (vr (some 90) 10), some (vi vo), some (vi py), some (vl N), none, some (vi 0)], [], (J81_1, H), 0, 0)
        refine WP.go 1 (And.intro (And.intro (Nat.le_of_ble_eq_true rfl) (Nat.le_of_ble_eq_true rfl)) (?_))
        show P none (J81_1, H)
        have r8 := lcon_i q78
        exact h.2 (by rw [r8]; exact q81_1) _ hu_16.fs (by rw [r8]; exact hF_15) ⟨hb_17.1, by have w8 := hb_17.2; omega⟩ (hu_16.1 17 (by omega) (by omega) (by omega)) (hu_16.1 16 (by omega) (by omega) (by omega))
      ·
        show WP (Call d) 205 P X (83, [some (vr (some 90) 10), some (vi vo), some (vi py), some (vl N), none, none], [], (J81_1, H), 0, 0)
        refine WP.go 5 (And.intro (fun (b88 : 1 = 0) => (absurd b88 (by omega))) (fun (b88 : ¬ 1 = 0) => ?_))
        show WP (Call d) 205 P X (89, [some (vr (some 90) 10), some (vi vo), some (vi py), some (vl N), none, some (vi 1)], [], (J81_1, H), 0, 0)
        refine WP.go 2 (And.intro rfl (?_))
        refine rw_i (Q := fun x9 => WP (Call d) 205 P X (91, [some (vr (some 90) 10), some (vi vo), some (vi py), some (vl N), none, some (vi 1)], [vi x9], (J81_1, H), 0, 0)) hF_15 ?_
        show WP (Call d) 205 P X (91, [some (vr (some 90) 10), some (vi vo), some (vi py), some (vl N), none, some (vi 1)], [vi ((pAny tb n (pAt tb n 6) (nx tb n p)).1)], (J81_1, H), 0, 0)
        refine WP.go 2 (And.intro (fun (b92 : (pAny tb n (pAt tb n 6) (nx tb n p)).1 = (-1)) => (absurd b92 (by omega))) (fun (b92 : ¬ (pAny tb n (pAt tb n 6) (nx tb n p)).1 = (-1)) => ?_))
        show WP (Call d) 205 P X (93, [some (vr (some 90) 10), some (vi vo), some (vi py), some (vl N), none, some (vi 1)], [], (J81_1, H), 0, 0)
        refine WP.go 1 (And.intro (And.intro (Nat.le_of_ble_eq_true rfl) (Nat.le_of_ble_eq_true rfl)) (?_))
        show P none (J81_1, H)
        have r8 := lcon_i q78
        exact h.2 (by rw [r8]; exact q81_1) _ hu_16.fs (by rw [r8]; exact hF_15) ⟨hb_17.1, by have w8 := hb_17.2; omega⟩ (hu_16.1 17 (by omega) (by omega) (by omega)) (hu_16.1 16 (by omega) (by omega) (by omega))
  ·
    show WP (Call d) 205 P X (79, [some (vr (some 90) 10), some (vi vo), some (vi py), some (vl N), none, none], [vi 0], (J78_1, H), 0, 0)
    have hL_18 : LTX J78_1 tb n := f78_1.lt hL
    have hR_19 : RAT J78_1 tb n p := RAT.of hR.bd e78_1
    have h_20 : J78_1 90 9 = p := e78_1
    have hF_21 : J78_1 90 10 = _ := (f78_1.1 10 (by omega)).trans hF
    have hu_22 : FA I J78_1 := hu.n f78_1
    have h_23 : J78_1 90 11 = _ := (f78_1.1 11 (by omega)).trans h11
    have hb_24 : 0 ≤ J78_1 90 9 ∧ J78_1 90 9 ≤ n := hR_19.1
    refine WP.go 1 (And.intro (fun (b79 : 0 = 0) => ?_) (fun (b79 : ¬ 0 = 0) => (absurd b79 (by omega))))
    show WP (Call d) 205 P X (83, [some (vr (some 90) 10), some (vi vo), some (vi py), some (vl N), none, none], [], (J78_1, H), 0, 0)
    refine WP.go 5 (And.intro (fun (b88 : 1 = 0) => (absurd b88 (by omega))) (fun (b88 : ¬ 1 = 0) => ?_))
    show WP (Call d) 205 P X (89, [some (vr (some 90) 10), some (vi vo), some (vi py), some (vl N), none, some (vi 1)], [], (J78_1, H), 0, 0)
    refine WP.go 2 (And.intro rfl (?_))
    refine rw_i (Q := fun x9 => WP (Call d) 205 P X (91, [some (vr (some 90) 10), some (vi vo), some (vi py), some (vl N), none, some (vi 1)], [vi x9], (J78_1, H), 0, 0)) hF_21 ?_
    show WP (Call d) 205 P X (91, [some (vr (some 90) 10), some (vi vo), some (vi py), some (vl N), none, some (vi 1)], [vi (-1)], (J78_1, H), 0, 0)
    refine WP.go 2 (And.intro (fun (b92 : (-1) = (-1)) => ?_) (fun (b92 : ¬ (-1) = (-1)) => (absurd b92 (by omega))))
    show WP (Call d) 205 P X (94, [some (vr (some 90) 10), some (vi vo), some (vi py), some (vl N), none, some (vi 1)], [], (J78_1, H), 0, 0)
    refine WP.go 2 (And.intro (fun (b95 : vo = 0) => ?_) (fun (b95 : ¬ vo = 0) => ?_))
    ·
      show WP (Call d) 205 P X (99, [some (vr (some 90) 10), some (vi vo), some (vi py), some (vl N), none, some (vi 1)], [], (J78_1, H), 0, 0)
      refine WP.go 3 (And.intro rfl (?_))
      refine rw_i (Q := fun x9 => WP (Call d) 205 P X (102, [some (vr (some 90) 10), some (vi vo), some (vi py), some (vl N), none, some (vi 1)], [vl x9, vr (some 90) 10], (J78_1, H), 0, 0)) ((hu_22.1 17 (by omega) (by omega) (by omega)).trans h17) ?_
      show WP (Call d) 205 P X (102, [some (vr (some 90) 10), some (vi vo), some (vi py), some (vl N), none, some (vi 1)], [vl (Y + sf), vr (some 90) 10], (J78_1, H), 0, 0)
      refine WP.go 2 (And.intro (fun (b103 : py = 0) => ?_) (fun (b103 : ¬ py = 0) => ?_))
      ·
        show WP (Call d) 205 P X (106, [some (vr (some 90) 10), some (vi vo), some (vi py), some (vl N), none, some (vi 1)], [vl (Y + sf), vr (some 90) 10], (J78_1, H), 0, 0)
        refine WP.go 4 (And.intro (And.intro (by omega) (by omega)) (And.intro (And.intro (by omega) (by omega)) (And.intro rfl (?_))))
        show WP (Call d) 205 P X (110, [some (vr (some 90) 10), some (vi vo), some (vi py), some (vl N), none, some (vi 1)], [], ((upI J78_1 90 17 ((Y + sf) + (-N))), H), 0, 0)
        generalize hq_Z0 : (upI J78_1 90 17 ((Y + sf) + (-N))) = Z0
        have e_Z0 : Z0 90 = (fun j => if j = 17 then ((Y + sf) + (-N)) else J78_1 90 j) := by rw [← hq_Z0]; exact upI_self _ _ _ _
        have f_Z0 : ∀ a, a ≠ 90 → Z0 a = J78_1 a := fun a q => by rw [← hq_Z0]; exact upI_cell q
        refine WP.go 1 (And.intro (And.intro (Nat.le_of_ble_eq_true rfl) (Nat.le_of_ble_eq_true rfl)) (?_))
        show P none (Z0, H)
        have r8 := lcon_n q78_1
        exact h.1 (by rw [r8]) _ ⟨fun s q1 q2 q3 q4 q5 => by rw [e_Z0]; refine (if_neg q5).trans ?_; exact hu_22.1 s q1 q2 q3, fun a q => by rw [f_Z0 a q]; exact hu_22.2 a q⟩ (by rw [r8]; exact hR_19.cp (by rw [e_Z0]; rfl)) (by rw [e_Z0]; exact hF_21) (by rw [e_Z0]; exact h_23) (by rw [e_Z0, r8]; show Y + sf + -N = Y + (sf + lch t9 N (1)); unfold lch; split <;> (try split) <;> (try split) <;> omega) (by rw [r8]; rw [e_Z0, if_neg (fun z => by have z1 := z.1; omega)]; exact (hu_22.1 16 (by omega) (by omega) (by omega)).trans h16)
      ·
        show WP (Call d) 205 P X (104, [some (vr (some 90) 10), some (vi vo), some (vi py), some (vl N), none, some (vi 1)], [vl (Y + sf), vr (some 90) 10], (J78_1, H), 0, 0)
        refine WP.go 4 (And.intro (And.intro (by omega) (by omega)) (And.intro rfl (?_)))
        show WP (Call d) 205 P X (110, [some (vr (some 90) 10), some (vi vo), some (vi py), some (vl N), none, some (vi 1)], [], ((upI J78_1 90 17 ((Y + sf) + N)), H), 0, 0)
        generalize hq_Z0 : (upI J78_1 90 17 ((Y + sf) + N)) = Z0
        have e_Z0 : Z0 90 = (fun j => if j = 17 then ((Y + sf) + N) else J78_1 90 j) := by rw [← hq_Z0]; exact upI_self _ _ _ _
        have f_Z0 : ∀ a, a ≠ 90 → Z0 a = J78_1 a := fun a q => by rw [← hq_Z0]; exact upI_cell q
        refine WP.go 1 (And.intro (And.intro (Nat.le_of_ble_eq_true rfl) (Nat.le_of_ble_eq_true rfl)) (?_))
        show P none (Z0, H)
        have r8 := lcon_n q78_1
        exact h.1 (by rw [r8]) _ ⟨fun s q1 q2 q3 q4 q5 => by rw [e_Z0]; refine (if_neg q5).trans ?_; exact hu_22.1 s q1 q2 q3, fun a q => by rw [f_Z0 a q]; exact hu_22.2 a q⟩ (by rw [r8]; exact hR_19.cp (by rw [e_Z0]; rfl)) (by rw [e_Z0]; exact hF_21) (by rw [e_Z0]; exact h_23) (by rw [e_Z0, r8]; show Y + sf + N = Y + (sf + lch t9 N (1)); unfold lch; split <;> (try split) <;> (try split) <;> omega) (by rw [r8]; rw [e_Z0, if_neg (fun z => by have z1 := z.1; omega)]; exact (hu_22.1 16 (by omega) (by omega) (by omega)).trans h16)
    ·
      show WP (Call d) 205 P X (96, [some (vr (some 90) 10), some (vi vo), some (vi py), some (vl N), none, some (vi 1)], [], (J78_1, H), 0, 0)
      refine WP.go 6 (And.intro (And.intro rfl (Or.inr rfl)) (And.intro rfl (?_)))
      refine rw_i (Q := fun x9 => WP (Call d) 205 P X (102, [some (vr (some 90) 10), some (vi vo), some (vi py), some (vl N), none, some (vi 1)], [vl x9, vr (some 90) 10], ((upI J78_1 90 16 1), H), 0, 0)) ((hu_22.1 17 (by omega) (by omega) (by omega)).trans h17) ?_
      show WP (Call d) 205 P X (102, [some (vr (some 90) 10), some (vi vo), some (vi py), some (vl N), none, some (vi 1)], [vl (Y + sf), vr (some 90) 10], ((upI J78_1 90 16 1), H), 0, 0)
      refine WP.go 2 (And.intro (fun (b103 : py = 0) => ?_) (fun (b103 : ¬ py = 0) => ?_))
      ·
        show WP (Call d) 205 P X (106, [some (vr (some 90) 10), some (vi vo), some (vi py), some (vl N), none, some (vi 1)], [vl (Y + sf), vr (some 90) 10], ((upI J78_1 90 16 1), H), 0, 0)
        refine WP.go 4 (And.intro (And.intro (by omega) (by omega)) (And.intro (And.intro (by omega) (by omega)) (And.intro rfl (?_))))
        show WP (Call d) 205 P X (110, [some (vr (some 90) 10), some (vi vo), some (vi py), some (vl N), none, some (vi 1)], [], ((upI (upI J78_1 90 16 1) 90 17 ((Y + sf) + (-N))), H), 0, 0)
        generalize hq_Z0 : (upI (upI J78_1 90 16 1) 90 17 ((Y + sf) + (-N))) = Z0
        have e_Z0 : Z0 90 = (fun j => if j = 17 then ((Y + sf) + (-N)) else (upI J78_1 90 16 1) 90 j) := by rw [← hq_Z0]; exact upI_self _ _ _ _
        have f_Z0 : ∀ a, a ≠ 90 → Z0 a = (upI J78_1 90 16 1) a := fun a q => by rw [← hq_Z0]; exact upI_cell q
        refine WP.go 1 (And.intro (And.intro (Nat.le_of_ble_eq_true rfl) (Nat.le_of_ble_eq_true rfl)) (?_))
        show P none (Z0, H)
        have r8 := lcon_n q78_1
        exact h.1 (by rw [r8]) _ ⟨fun s q1 q2 q3 q4 q5 => by rw [e_Z0]; refine (if_neg q5).trans ?_; rw [upI_at (.inr q4)]; exact hu_22.1 s q1 q2 q3, fun a q => by rw [f_Z0 a q, upI_cell q]; exact hu_22.2 a q⟩ (by rw [r8]; exact hR_19.cp (by rw [e_Z0]; rfl)) (by rw [e_Z0]; exact hF_21) (by rw [e_Z0]; exact h_23) (by rw [e_Z0, r8]; show Y + sf + -N = Y + (sf + lch t9 N (1)); unfold lch; split <;> (try split) <;> (try split) <;> omega) (by rw [r8]; rw [e_Z0]; show (1 : Int) = _; rw [if_pos ⟨by omega, by show 1 ≠ 0; omega⟩]; rfl)
      ·
        show WP (Call d) 205 P X (104, [some (vr (some 90) 10), some (vi vo), some (vi py), some (vl N), none, some (vi 1)], [vl (Y + sf), vr (some 90) 10], ((upI J78_1 90 16 1), H), 0, 0)
        refine WP.go 4 (And.intro (And.intro (by omega) (by omega)) (And.intro rfl (?_)))
        show WP (Call d) 205 P X (110, [some (vr (some 90) 10), some (vi vo), some (vi py), some (vl N), none, some (vi 1)], [], ((upI (upI J78_1 90 16 1) 90 17 ((Y + sf) + N)), H), 0, 0)
        generalize hq_Z0 : (upI (upI J78_1 90 16 1) 90 17 ((Y + sf) + N)) = Z0
        have e_Z0 : Z0 90 = (fun j => if j = 17 then ((Y + sf) + N) else (upI J78_1 90 16 1) 90 j) := by rw [← hq_Z0]; exact upI_self _ _ _ _
        have f_Z0 : ∀ a, a ≠ 90 → Z0 a = (upI J78_1 90 16 1) a := fun a q => by rw [← hq_Z0]; exact upI_cell q
        refine WP.go 1 (And.intro (And.intro (Nat.le_of_ble_eq_true rfl) (Nat.le_of_ble_eq_true rfl)) (?_))
        show P none (Z0, H)
        have r8 := lcon_n q78_1
        exact h.1 (by rw [r8]) _ ⟨fun s q1 q2 q3 q4 q5 => by rw [e_Z0]; refine (if_neg q5).trans ?_; rw [upI_at (.inr q4)]; exact hu_22.1 s q1 q2 q3, fun a q => by rw [f_Z0 a q, upI_cell q]; exact hu_22.2 a q⟩ (by rw [r8]; exact hR_19.cp (by rw [e_Z0]; rfl)) (by rw [e_Z0]; exact hF_21) (by rw [e_Z0]; exact h_23) (by rw [e_Z0, r8]; show Y + sf + N = Y + (sf + lch t9 N (1)); unfold lch; split <;> (try split) <;> (try split) <;> omega) (by rw [r8]; rw [e_Z0]; show (1 : Int) = _; rw [if_pos ⟨by omega, by show 1 ≠ 0; omega⟩]; rfl)

set_option maxHeartbeats 2000000 in
theorem s_12_leaseLine {d : Nat} {P : Option qV → qH → Prop} {X : Nat → qH → Prop} {I : qI} {H : qS} (hd : 42 ≤ d) {tb F : Int → Int} {n p Y W : Int} {c9 : LSt} (hS : Shp H) (hL : LTX I tb n) (hR : RAT I tb n p) (hF : I 90 10 = -1) (h11 : I 90 11 = 0) (hfr : FR I F) (hFB : FB F) (h17 : I 90 17 = Y + c9.2.1 F) (h16 : I 90 16 = vd (c9.2.2 F) W) (hY : -1000000000000000 ≤ Y + c9.2.1 F ∧ Y + c9.2.1 F ≤ 1000000000000000) (h : ((lln tb n p c9).1 = -1 → ∀ J : qI, FS I J → RAT J tb n (lln tb n p c9).2.2 → J 90 10 = -1 → J 90 11 = 0 → J 90 17 = Y + (lln tb n p c9).2.1.2.1 F → J 90 16 = vd ((lln tb n p c9).2.1.2.2 F) W → P none (J, H)) ∧ ((lln tb n p c9).1 ≠ -1 → ∀ J : qI, FS I J → J 90 10 = (lln tb n p c9).1 → (0 ≤ J 90 9 ∧ J 90 9 ≤ n + 6) → J 90 17 = I 90 17 → J 90 16 = I 90 16 → P none (J, H))) :
    Call d 205 [vr (some 90) 10] (I, H) P X := by
  obtain ⟨d, rfl⟩ : ∃ e, d = e + 1 := ⟨d - 1, by omega⟩
  have hl95 := hS.l95
  have hu := FA.rf I
  have hpb := hR.bd
  have hb := hR.1
  have hn := hL.2.1
  show WP (Call d) 205 P X (0, [some (vr (some 90) 10), none, none, none, none, none], [], (I, H), 0, 0)
  refine WP.go 3 (And.intro (And.intro (Nat.le_of_ble_eq_true rfl) (Nat.le_of_ble_eq_true rfl)) (And.intro rfl (?_)))
  show Call d 191 [vr (some 90) 10, vr (some 21) 100] (I, H) _ _
  refine s_12_has (by omega) hS hL hR (by omega) ⟨(fun q2 J2 e2 f2 => ?_), (fun q2_1 J2_1 e2_1 f2_1 => ?_)⟩
  ·
    show WP (Call d) 205 P X (3, [some (vr (some 90) 10), none, none, none, none, none], [vi 1], (J2, H), 0, 0)
    have hL_1 : LTX J2 tb n := f2.lt hL
    have pb9 := hR.bd
    have nb9 := nx_bd (tb := tb) pb9.1 (th_lt (tb := tb) pb9.2.1 (fun z => absurd (q2.symm.trans z) (by decide)))
    have hR_2 : RAT J2 tb n (nx tb n p) := rat_go hR (fun z => absurd (q2.symm.trans z) (by decide)) e2
    have hF_3 : J2 90 10 = _ := (f2.1 10 (by omega)).trans hF
    have hu_4 : FA I J2 := hu.n f2
    have h_5 : J2 90 11 = _ := (f2.1 11 (by omega)).trans h11
    have hb_6 : 0 ≤ J2 90 9 ∧ J2 90 9 ≤ n := hR_2.1
    refine WP.go 3 (And.intro (fun (b5 : ¬ 1 = 0) => ?_) (fun (b5 : 1 = 0) => (absurd b5 (by omega))))
    show WP (Call d) 205 P X (12, [some (vr (some 90) 10), some (vi 1), none, none, none, none], [], (J2, H), 0, 0)
    refine WP.go 4 (And.intro (fun (b15 : ¬ 1 = 0) => ?_) (fun (b15 : 1 = 0) => (absurd b15 (by omega))))
    show WP (Call d) 205 P X (27, [some (vr (some 90) 10), some (vi 1), some (vi 0), none, none, none], [], (J2, H), 0, 0)
    refine WP.go 2 (And.intro (fun (b28 : 1 = 0) => (absurd b28 (by omega))) (fun (b28 : ¬ 1 = 0) => ?_))
    show WP (Call d) 205 P X (29, [some (vr (some 90) 10), some (vi 1), some (vi 0), none, none, none], [], (J2, H), 0, 0)
    refine WP.go 5 (And.intro (fun (b38 : ¬ 1 = 0) => ?_) (fun (b38 : 1 = 0) => (absurd b38 (by omega))))
    show WP (Call d) 205 P X (72, [some (vr (some 90) 10), some (vi 1), some (vi 0), some (vl 0), none, none], [], (J2, H), 0, 0)
    have t2 : th tb n p = 1011 := q2
    refine WP.wk (L := [some (vr (some 90) 10), some (vi 1), some (vi 0), some (vl 0), none, none]) (And.intro rfl (And.intro rfl (And.intro rfl (And.intro rfl (And.intro trivial (And.intro trivial trivial)))))) ?_
    have k9 : 1009 ≤ th tb n p ∧ th tb n p ≤ 1011 := by omega
    refine lease_tail (t9 := th tb n p) (Y := Y) (sf := c9.2.1 F) (vf := c9.2.2 F) (W := W) (by omega) hS hL_1 hR_2 hF_3 h_5 (hu_4.fr hfr) hFB ((hu_4.1 17 (by omega) (by omega) (by omega)).trans h17) ((hu_4.1 16 (by omega) (by omega) (by omega)).trans h16) (by omega) hY (by omega) ⟨fun z9 J9 g1 g2 g3 g4 g5 g6 => ?_, fun z9 J9 g1 g2 g3 g4 g5 => ?_⟩
    · have r8 := lln_4 (c := c9) (a := (-1, [], (fun _ => 0), nx tb n p)) (b := lcon tb n (nx tb n p)) k9 (lamt_v t2) rfl rfl z9
      exact h.1 (by rw [r8]) _ (hu_4.fs.tr g1) (by rw [r8]; exact g2) g3 g4 (by rw [r8]; exact g5) (by rw [r8]; exact g6)
    · have r8 := lln_3 (c := c9) (a := (-1, [], (fun _ => 0), nx tb n p)) (b := lcon tb n (nx tb n p)) k9 (lamt_v t2) rfl rfl z9
      exact h.2 (by rw [r8]; exact z9) _ (hu_4.fs.tr g1) (by rw [r8]; exact g2) g3 (g4.trans (hu_4.1 17 (by omega) (by omega) (by omega))) (g5.trans (hu_4.1 16 (by omega) (by omega) (by omega)))
  ·
    show WP (Call d) 205 P X (3, [some (vr (some 90) 10), none, none, none, none, none], [vi 0], (J2_1, H), 0, 0)
    have hL_7 : LTX J2_1 tb n := f2_1.lt hL
    have hR_8 : RAT J2_1 tb n p := RAT.of hR.bd e2_1
    have h_9 : J2_1 90 9 = p := e2_1
    have hF_10 : J2_1 90 10 = _ := (f2_1.1 10 (by omega)).trans hF
    have hu_11 : FA I J2_1 := hu.n f2_1
    have h_12 : J2_1 90 11 = _ := (f2_1.1 11 (by omega)).trans h11
    have hb_13 : 0 ≤ J2_1 90 9 ∧ J2_1 90 9 ≤ n := hR_8.1
    refine WP.go 3 (And.intro (fun (b5 : ¬ 0 = 0) => (absurd b5 (by omega))) (fun (b5 : 0 = 0) => ?_))
    show WP (Call d) 205 P X (6, [some (vr (some 90) 10), some (vi 0), none, none, none, none], [], (J2_1, H), 0, 0)
    refine WP.go 3 (And.intro (And.intro (Nat.le_of_ble_eq_true rfl) (Nat.le_of_ble_eq_true rfl)) (And.intro rfl (?_)))
    show Call d 191 [vr (some 90) 10, vr (some 22) 100] (J2_1, H) _ _
    refine s_12_has (by omega) hS hL_7 hR_8 (by omega) ⟨(fun q8 J8 e8 f8 => ?_), (fun q8_1 J8_1 e8_1 f8_1 => ?_)⟩
    ·
      show WP (Call d) 205 P X (9, [some (vr (some 90) 10), some (vi 0), none, none, none, none], [vi 1], (J8, H), 0, 0)
      have hL_14 : LTX J8 tb n := f8.lt hL_7
      have pb9 := hR_8.bd
      have nb9 := nx_bd (tb := tb) pb9.1 (th_lt (tb := tb) pb9.2.1 (fun z => absurd (q8.symm.trans z) (by decide)))
      have hR_15 : RAT J8 tb n (nx tb n p) := rat_go hR_8 (fun z => absurd (q8.symm.trans z) (by decide)) e8
      have hF_16 : J8 90 10 = _ := (f8.1 10 (by omega)).trans hF_10
      have hu_17 : FA I J8 := hu_11.n f8
      have h_18 : J8 90 11 = _ := (f8.1 11 (by omega)).trans h_12
      have hb_19 : 0 ≤ J8 90 9 ∧ J8 90 9 ≤ n := hR_15.1
      refine WP.go 1 (And.intro (fun (b9 : 1 = 0) => (absurd b9 (by omega))) (fun (b9 : ¬ 1 = 0) => ?_))
      show WP (Call d) 205 P X (10, [some (vr (some 90) 10), some (vi 0), none, none, none, none], [], (J8, H), 0, 0)
      refine WP.go 5 (And.intro (fun (b15 : ¬ 0 = 0) => (absurd b15 (by omega))) (fun (b15 : 0 = 0) => ?_))
      show WP (Call d) 205 P X (16, [some (vr (some 90) 10), some (vi 0), some (vi 1), none, none, none], [], (J8, H), 0, 0)
      refine WP.go 2 (And.intro (fun (b17 : ¬ 1 = 0) => ?_) (fun (b17 : 1 = 0) => (absurd b17 (by omega))))
      show WP (Call d) 205 P X (27, [some (vr (some 90) 10), some (vi 0), some (vi 1), none, none, none], [], (J8, H), 0, 0)
      refine WP.go 2 (And.intro (fun (b28 : 0 = 0) => ?_) (fun (b28 : ¬ 0 = 0) => (absurd b28 (by omega))))
      show WP (Call d) 205 P X (31, [some (vr (some 90) 10), some (vi 0), some (vi 1), none, none, none], [], (J8, H), 0, 0)
      refine WP.go 4 (And.intro (And.intro (Nat.le_of_ble_eq_true rfl) (Nat.le_of_ble_eq_true rfl)) (And.intro rfl (?_)))
      show Call d 193 [vr (some 90) 10, vi 0, vi 999] (J8, H) _ _
      refine s_12_figures (by omega) hS hL_14 hR_15 hF_16 (by omega) ⟨(fun q34 J34 e34 f34 => ?_), (fun q34_1 J34_1 v34 e34_1 b34 vb34 s34 f34_1 => ?_)⟩
      ·
        show WP (Call d) 205 P X (35, [some (vr (some 90) 10), some (vi 0), some (vi 1), none, none, none], [vi (th tb n (nx tb n p))], (J34, H), 0, 0)
        have hL_20 : LTX J34 tb n := f34.lt hL_14
        have pb9 := hR_15.bd
        have nb9 := nx_bd (tb := tb) pb9.1 (th_lt (tb := tb) pb9.2.1 (by have w := q34; omega))
        have hR_21 : RAT J34 tb n (nx tb n (nx tb n p)) := rat_go hR_15 (fun z => by have w := q34; omega) e34
        have hF_22 : J34 90 10 = _ := (f34.1 10 (by omega)).trans hF_16
        have hu_23 : FA I J34 := hu_17.n f34
        have h_24 : J34 90 11 = _ := (f34.1 11 (by omega)).trans h_18
        have hb_25 : 0 ≤ J34 90 9 ∧ J34 90 9 ≤ n := hR_21.1
        refine WP.go 4 (And.intro (fun (b38 : ¬ 0 = 0) => (absurd b38 (by omega))) (fun (b38 : 0 = 0) => ?_))
        show WP (Call d) 205 P X (39, [some (vr (some 90) 10), some (vi 0), some (vi 1), some (vl (th tb n (nx tb n p))), none, none], [], (J34, H), 0, 0)
        refine WP.go 2 (And.intro rfl (?_))
        refine rw_i (Q := fun x9 => WP (Call d) 205 P X (41, [some (vr (some 90) 10), some (vi 0), some (vi 1), some (vl (th tb n (nx tb n p))), none, none], [vi x9], (J34, H), 0, 0)) hF_22 ?_
        show WP (Call d) 205 P X (41, [some (vr (some 90) 10), some (vi 0), some (vi 1), some (vl (th tb n (nx tb n p))), none, none], [vi (-1)], (J34, H), 0, 0)
        refine WP.go 2 (And.intro (fun (b42 : ¬ (-1) = (-1)) => (absurd b42 (by omega))) (fun (b42 : (-1) = (-1)) => ?_))
        show WP (Call d) 205 P X (43, [some (vr (some 90) 10), some (vi 0), some (vi 1), some (vl (th tb n (nx tb n p))), none, none], [], (J34, H), 0, 0)
        refine WP.go 3 (And.intro (And.intro (Nat.le_of_ble_eq_true rfl) (Nat.le_of_ble_eq_true rfl)) (And.intro rfl (?_)))
        show Call d 190 [vr (some 90) 10, vi 42] (J34, H) _ _
        refine s_12_isSign (by omega) hS hL_20 hR_21 ⟨by omega, by unfold isL; omega, by unfold isD; omega⟩ (fun J45 e45 f45 => ?_)
        show WP (Call d) 205 P X (46, [some (vr (some 90) 10), some (vi 0), some (vi 1), some (vl (th tb n (nx tb n p))), none, none], [vi (bz (th tb n (nx tb n (nx tb n p)) = 2000 + 42))], (J45, H), 0, 0)
        have hL_26 : LTX J45 tb n := f45.lt hL_20
        have hR_27 : RAT J45 tb n (nx tb n (nx tb n p)) := RAT.of hR_21.bd e45
        have h_28 : J45 90 9 = (nx tb n (nx tb n p)) := e45
        have hF_29 : J45 90 10 = _ := (f45.1 10 (by omega)).trans hF_22
        have hu_30 : FA I J45 := hu_23.n f45
        have h_31 : J45 90 11 = _ := (f45.1 11 (by omega)).trans h_24
        have hb_32 : 0 ≤ J45 90 9 ∧ J45 90 9 ≤ n := hR_27.1
        refine WP.go 1 (And.intro (fun (b46 : bz (th tb n (nx tb n (nx tb n p)) = 2000 + 42) = 0) => ?_) (fun (b46 : ¬ bz (th tb n (nx tb n (nx tb n p)) = 2000 + 42) = 0) => ?_))
        ·
          show WP (Call d) 205 P X (72, [some (vr (some 90) 10), some (vi 0), some (vi 1), some (vl (th tb n (nx tb n p))), none, none], [], (J45, H), 0, 0)
          have z46 := bz_e0.mp b46
          have t2 : th tb n p ≠ 1011 := q2_1
          have t8 : th tb n p = 1009 := q8
          refine WP.wk (L := [some (vr (some 90) 10), some (vi 0), some (vi 1), some (vl (th tb n (nx tb n p))), none, none]) (And.intro rfl (And.intro rfl (And.intro rfl (And.intro rfl (And.intro trivial (And.intro trivial trivial)))))) ?_
          have k9 : 1009 ≤ th tb n p ∧ th tb n p ≤ 1011 := by omega
          refine lease_tail (t9 := th tb n p) (Y := Y) (sf := c9.2.1 F) (vf := c9.2.2 F) (W := W) (by omega) hS hL_26 hR_27 hF_29 h_31 (hu_30.fr hfr) hFB ((hu_30.1 17 (by omega) (by omega) (by omega)).trans h17) ((hu_30.1 16 (by omega) (by omega) (by omega)).trans h16) (by omega) hY (by omega) ⟨fun z9 J9 g1 g2 g3 g4 g5 g6 => ?_, fun z9 J9 g1 g2 g3 g4 g5 => ?_⟩
          · have r8 := lln_4 (c := c9) (a := (-1, [th tb n (nx tb n p)], (fun _ => th tb n (nx tb n p)), nx tb n (nx tb n p))) (b := lcon tb n (nx tb n (nx tb n p))) k9 ((lamt_a (show th tb n p ≠ 1011 by omega)).trans (pAmt_2 q34 (show th tb n (nx tb n (nx tb n p)) ≠ 2042 from z46))) rfl rfl z9
            exact h.1 (by rw [r8]) _ (hu_30.fs.tr g1) (by rw [r8]; exact g2) g3 g4 (by rw [r8]; exact g5) (by rw [r8]; exact g6)
          · have r8 := lln_3 (c := c9) (a := (-1, [th tb n (nx tb n p)], (fun _ => th tb n (nx tb n p)), nx tb n (nx tb n p))) (b := lcon tb n (nx tb n (nx tb n p))) k9 ((lamt_a (show th tb n p ≠ 1011 by omega)).trans (pAmt_2 q34 (show th tb n (nx tb n (nx tb n p)) ≠ 2042 from z46))) rfl rfl z9
            exact h.2 (by rw [r8]; exact z9) _ (hu_30.fs.tr g1) (by rw [r8]; exact g2) g3 (g4.trans (hu_30.1 17 (by omega) (by omega) (by omega))) (g5.trans (hu_30.1 16 (by omega) (by omega) (by omega)))
        ·
          show WP (Call d) 205 P X (47, [some (vr (some 90) 10), some (vi 0), some (vi 1), some (vl (th tb n (nx tb n p))), none, none], [], (J45, H), 0, 0)
          have z46 := bz_e1.mp b46
          refine WP.go 3 (And.intro rfl (?_))
          refine rw_i (Q := fun x9 => WP (Call d) 205 P X (50, [some (vr (some 90) 10), some (vi 0), some (vi 1), some (vl (th tb n (nx tb n p))), none, none], [vi x9, vr (some 90) 10], (J45, H), 0, 0)) h_28 ?_
          show WP (Call d) 205 P X (50, [some (vr (some 90) 10), some (vi 0), some (vi 1), some (vl (th tb n (nx tb n p))), none, none], [vi (nx tb n (nx tb n p)), vr (some 90) 10], (J45, H), 0, 0)
          refine WP.go 3 (Exists.intro ((nx tb n (nx tb n p)) + 1) (And.intro (wrp_a (by omega) (by omega)) (And.intro (And.intro rfl trivial) (?_))))
          show WP (Call d) 205 P X (53, [some (vr (some 90) 10), some (vi 0), some (vi 1), some (vl (th tb n (nx tb n p))), none, none], [], ((upI J45 90 9 ((nx tb n (nx tb n p)) + 1)), H), 0, 0)
          generalize hq_B0 : (upI J45 90 9 ((nx tb n (nx tb n p)) + 1)) = B0
          have e_B0 : B0 90 = (fun j => if j = 9 then ((nx tb n (nx tb n p)) + 1) else J45 90 j) := by rw [← hq_B0]; exact upI_self _ _ _ _
          have f_B0 : ∀ a, a ≠ 90 → B0 a = J45 a := fun a q => by rw [← hq_B0]; exact upI_cell q
          have hu_33 : FA I B0 := hu_30.o (.inl rfl) e_B0 f_B0
          have hL_34 : LTX B0 tb n := hL_26.fr (by rw [e_B0]; rfl) (by rw [e_B0]; rfl) (f_B0 94 (by omega)) (f_B0 91 (by omega))
          have hF_35 : B0 90 10 = -1 := by rw [e_B0]; exact hF_29
          have h_36 : B0 90 11 = 0 := by rw [e_B0]; exact h_31
          have b99 : B0 90 9 = (nx tb n (nx tb n p)) + 1 := by rw [e_B0]; rfl
          have hpb9 := hR_27.bd
          have s99 := nx_semi hpb9.1 hpb9.2.1 hL_34.2.2.1 (c := 42) ⟨by omega, by unfold isL; omega, by unfold isD; omega⟩ z46
          have nb9 := nx_bd (tb := tb) hpb9.1 s99.1
          have hR_37 : RAT B0 tb n (nx tb n (nx tb n (nx tb n p))) := ⟨by rw [b99]; omega, by rw [b99]; exact s99.2.symm⟩
          have hb_38 : 0 ≤ B0 90 9 ∧ B0 90 9 ≤ n := hR_37.1
          refine WP.go 2 (And.intro (And.intro (Nat.le_of_ble_eq_true rfl) (Nat.le_of_ble_eq_true rfl)) (And.intro rfl (?_)))
          show Call d 198 [vr (some 90) 10] (B0, H) _ _
          refine s_12_factAt (by omega) hS hL_34 hR_37 hF_35 h_36 ⟨(fun q54 J54 e54 f54 => ?_), (fun q54_1 J54_1 e54_1 f54_1 => ?_)⟩
          ·
            show WP (Call d) 205 P X (55, [some (vr (some 90) 10), some (vi 0), some (vi 1), some (vl (th tb n (nx tb n p))), none, none], [vi (th tb n (nx tb n (nx tb n (nx tb n p))) - 1016)], (J54, H), 0, 0)
            have hL_39 : LTX J54 tb n := f54.lt hL_34
            have pb9 := hR_37.bd
            have nb9 := nx_bd (tb := tb) pb9.1 (th_lt (tb := tb) pb9.2.1 (by have w := q54; omega))
            have hR_40 : RAT J54 tb n (nx tb n (nx tb n (nx tb n (nx tb n p)))) := e54
            have hF_41 : J54 90 10 = _ := (f54.1 10 (by omega)).trans hF_35
            have hu_42 : FA I J54 := hu_33.n f54
            have h_43 : J54 90 11 = _ := (f54.1 11 (by omega)).trans h_36
            have hb_44 : 0 ≤ J54 90 9 ∧ J54 90 9 ≤ n := hR_40.1
            refine WP.go 4 (And.intro (fun (b58 : ¬ (th tb n (nx tb n (nx tb n (nx tb n p))) - 1016) = (-1)) => ?_) (fun (b58 : (th tb n (nx tb n (nx tb n (nx tb n p))) - 1016) = (-1)) => (absurd b58 (by omega))))
            show WP (Call d) 205 P X (64, [some (vr (some 90) 10), some (vi 0), some (vi 1), some (vl (th tb n (nx tb n p))), none, some (vi (th tb n (nx tb n (nx tb n (nx tb n p))) - 1016))], [], (J54, H), 0, 0)
            refine WP.go 5 (And.intro rfl (Exists.intro 95 (And.intro hS.r90_12 (And.intro (And.intro rfl (And.intro (show 0 ≤ (th tb n (nx tb n (nx tb n (nx tb n p))) - 1016) from by omega) (show (th tb n (nx tb n (nx tb n (nx tb n p))) - 1016) < H.2.1 95 from by omega))) (?_)))))
            refine rw_i (Q := fun x9 => WP (Call d) 205 P X (69, [some (vr (some 90) 10), some (vi 0), some (vi 1), some (vl (th tb n (nx tb n p))), none, some (vi (th tb n (nx tb n (nx tb n (nx tb n p))) - 1016))], [vi x9, vl (th tb n (nx tb n p))], (J54, H), 0, 0)) (show J54 95 (th tb n (nx tb n (nx tb n (nx tb n p))) - 1016) = F (th tb n (nx tb n (nx tb n (nx tb n p))) - 1016) from (hu_42.fr hfr).1 _ (by omega) (by omega)) ?_
            show WP (Call d) 205 P X (69, [some (vr (some 90) 10), some (vi 0), some (vi 1), some (vl (th tb n (nx tb n p))), none, some (vi (th tb n (nx tb n (nx tb n (nx tb n p))) - 1016))], [vi (F (th tb n (nx tb n (nx tb n (nx tb n p))) - 1016)), vl (th tb n (nx tb n p))], (J54, H), 0, 0)
            refine WP.go 1 ?_
            show WP (Call d) 205 P X (70, [some (vr (some 90) 10), some (vi 0), some (vi 1), some (vl (th tb n (nx tb n p))), none, some (vi (th tb n (nx tb n (nx tb n (nx tb n p))) - 1016))], [vl (F (th tb n (nx tb n (nx tb n (nx tb n p))) - 1016)), vl (th tb n (nx tb n p))], (J54, H), 0, 0)
            have mb9 := mul_b (m := 0) (show 0 ≤ th tb n (nx tb n p) ∧ th tb n (nx tb n p) ≤ 999 by omega) (hFB.1 (th tb n (nx tb n (nx tb n (nx tb n p))) - 1016) (by omega) (by omega))
            refine WP.go 2 (And.intro (And.intro (by omega) (by omega)) (?_))
            show WP (Call d) 205 P X (72, [some (vr (some 90) 10), some (vi 0), some (vi 1), some (vl ((th tb n (nx tb n p)) * (F (th tb n (nx tb n (nx tb n (nx tb n p))) - 1016)))), none, some (vi (th tb n (nx tb n (nx tb n (nx tb n p))) - 1016))], [], (J54, H), 0, 0)
            have t2 : th tb n p ≠ 1011 := q2_1
            have t8 : th tb n p = 1009 := q8
            refine WP.wk (L := [some (vr (some 90) 10), some (vi 0), some (vi 1), some (vl (th tb n (nx tb n p) * F (th tb n (nx tb n (nx tb n (nx tb n p))) - 1016))), none, none]) (And.intro rfl (And.intro rfl (And.intro rfl (And.intro rfl (And.intro trivial (And.intro trivial trivial)))))) ?_
            have k9 : 1009 ≤ th tb n p ∧ th tb n p ≤ 1011 := by omega
            refine lease_tail (t9 := th tb n p) (Y := Y) (sf := c9.2.1 F) (vf := c9.2.2 F) (W := W) (by omega) hS hL_39 hR_40 hF_41 h_43 (hu_42.fr hfr) hFB ((hu_42.1 17 (by omega) (by omega) (by omega)).trans h17) ((hu_42.1 16 (by omega) (by omega) (by omega)).trans h16) (by omega) hY (by omega) ⟨fun z9 J9 g1 g2 g3 g4 g5 g6 => ?_, fun z9 J9 g1 g2 g3 g4 g5 => ?_⟩
            · have r8 := lln_4 (c := c9) (a := (-1, [th tb n (nx tb n p), 1000 + (th tb n (nx tb n (nx tb n (nx tb n p))) - 1016), 2001], (fun F => th tb n (nx tb n p) * F (th tb n (nx tb n (nx tb n (nx tb n p))) - 1016)), (nx tb n (nx tb n (nx tb n (nx tb n p)))))) (b := lcon tb n (nx tb n (nx tb n (nx tb n (nx tb n p))))) k9 ((lamt_a (show th tb n p ≠ 1011 by omega)).trans (pAmt_4 q34 (show th tb n (nx tb n (nx tb n p)) = 2042 from z46) q54)) rfl rfl z9
              exact h.1 (by rw [r8]) _ (hu_42.fs.tr g1) (by rw [r8]; exact g2) g3 g4 (by rw [r8]; exact g5) (by rw [r8]; exact g6)
            · have r8 := lln_3 (c := c9) (a := (-1, [th tb n (nx tb n p), 1000 + (th tb n (nx tb n (nx tb n (nx tb n p))) - 1016), 2001], (fun F => th tb n (nx tb n p) * F (th tb n (nx tb n (nx tb n (nx tb n p))) - 1016)), (nx tb n (nx tb n (nx tb n (nx tb n p)))))) (b := lcon tb n (nx tb n (nx tb n (nx tb n (nx tb n p))))) k9 ((lamt_a (show th tb n p ≠ 1011 by omega)).trans (pAmt_4 q34 (show th tb n (nx tb n (nx tb n p)) = 2042 from z46) q54)) rfl rfl z9
              exact h.2 (by rw [r8]; exact z9) _ (hu_42.fs.tr g1) (by rw [r8]; exact g2) g3 (g4.trans (hu_42.1 17 (by omega) (by omega) (by omega))) (g5.trans (hu_42.1 16 (by omega) (by omega) (by omega)))
          ·
            show WP (Call d) 205 P X (55, [some (vr (some 90) 10), some (vi 0), some (vi 1), some (vl (th tb n (nx tb n p))), none, none], [vi (-1)], (J54_1, H), 0, 0)
            have hL_45 : LTX J54_1 tb n := f54_1.lt hL_34
            have hR_46 : RAT J54_1 tb n (nx tb n (nx tb n (nx tb n p))) := RAT.of hR_37.bd e54_1
            have h_47 : J54_1 90 9 = (nx tb n (nx tb n (nx tb n p))) := e54_1
            have hF_48 : J54_1 90 10 = _ := (f54_1.1 10 (by omega)).trans hF_35
            have hu_49 : FA I J54_1 := hu_33.n f54_1
            have h_50 : J54_1 90 11 = _ := (f54_1.1 11 (by omega)).trans h_36
            have hb_51 : 0 ≤ J54_1 90 9 ∧ J54_1 90 9 ≤ n := hR_46.1
            refine WP.go 4 (And.intro (fun (b58 : ¬ (-1) = (-1)) => (absurd b58 (by omega))) (fun (b58 : (-1) = (-1)) => ?_))
            show WP (Call d) 205 P X (59, [some (vr (some 90) 10), some (vi 0), some (vi 1), some (vl (th tb n (nx tb n p))), none, some (vi (-1))], [], (J54_1, H), 0, 0)
            refine WP.go 3 (And.intro rfl (?_))
            refine rw_i (Q := fun x9 => WP (Call d) 205 P X (62, [some (vr (some 90) 10), some (vi 0), some (vi 1), some (vl (th tb n (nx tb n p))), none, some (vi (-1))], [vi x9, vr (some 90) 10], (J54_1, H), 0, 0)) h_47 ?_
            show WP (Call d) 205 P X (62, [some (vr (some 90) 10), some (vi 0), some (vi 1), some (vl (th tb n (nx tb n p))), none, some (vi (-1))], [vi (nx tb n (nx tb n (nx tb n p))), vr (some 90) 10], (J54_1, H), 0, 0)
            refine WP.go 1 (And.intro (And.intro (Nat.le_of_ble_eq_true rfl) (Nat.le_of_ble_eq_true rfl)) (And.intro rfl (?_)))
            show Call d 192 [vr (some 90) 10, vi (nx tb n (nx tb n (nx tb n p)))] (J54_1, H) _ _
            refine s_12_wrong (by omega) hF_48 (fun J62 e62 f62 => ?_)
            show WP (Call d) 205 P X (63, [some (vr (some 90) 10), some (vi 0), some (vi 1), some (vl (th tb n (nx tb n p))), none, some (vi (-1))], [], (J62, H), 0, 0)
            have hF_52 : J62 90 10 = (nx tb n (nx tb n (nx tb n p))) := by rw [e62]; rfl
            have hu_53 : FA I J62 := hu_49.o (.inr (.inl rfl)) e62 f62
            have hb_54 : 0 ≤ J62 90 9 ∧ J62 90 9 ≤ n := by rw [e62]; exact hb_51
            refine WP.go 1 ?_
            show WP (Call d) 205 P X (72, [some (vr (some 90) 10), some (vi 0), some (vi 1), some (vl (th tb n (nx tb n p))), none, some (vi (-1))], [], (J62, H), 0, 0)
            refine WP.go 2 (And.intro rfl (?_))
            refine rw_i (Q := fun x9 => WP (Call d) 205 P X (74, [some (vr (some 90) 10), some (vi 0), some (vi 1), some (vl (th tb n (nx tb n p))), none, some (vi (-1))], [vi x9], (J62, H), 0, 0)) hF_52 ?_
            show WP (Call d) 205 P X (74, [some (vr (some 90) 10), some (vi 0), some (vi 1), some (vl (th tb n (nx tb n p))), none, some (vi (-1))], [vi (nx tb n (nx tb n (nx tb n p)))], (J62, H), 0, 0)
            refine WP.go 2 (And.intro (fun (b75 : ¬ (nx tb n (nx tb n (nx tb n p))) = (-1)) => ?_) (fun (b75 : (nx tb n (nx tb n (nx tb n p))) = (-1)) => (absurd b75 (by omega))))
            show WP (Call d) 205 P X (85, [some (vr (some 90) 10), some (vi 0), some (vi 1), some (vl (th tb n (nx tb n p))), none, some (vi (-1))], [], (J62, H), 0, 0)
            refine WP.go 4 (And.intro (fun (b88 : 0 = 0) => ?_) (fun (b88 : ¬ 0 = 0) => (absurd b88 (by omega))))
            show WP (Call d) 205 P X (93, [some (vr (some 90) 10), some (vi 0), some (vi 1), some (vl (th tb n (nx tb n p))), none, some (vi 0)], [], (J62, H), 0, 0)
            refine WP.go 1 (And.intro (And.intro (Nat.le_of_ble_eq_true rfl) (Nat.le_of_ble_eq_true rfl)) (?_))
            show P none (J62, H)
            have t2 : th tb n p ≠ 1011 := q2_1
            have t8 : th tb n p = 1009 := q8
            have k9 : 1009 ≤ th tb n p ∧ th tb n p ≤ 1011 := by omega
            have r7 : lamt tb n p = rE (nx tb n (nx tb n (nx tb n p))) := (lamt_a (show th tb n p ≠ 1011 by omega)).trans (pAmt_3 q34 (show th tb n (nx tb n (nx tb n p)) = 2042 from z46) q54_1)
            have r8 := lln_2 (c := c9) k9 r7 (show (nx tb n (nx tb n (nx tb n p))) ≠ -1 by omega)
            exact h.2 (by rw [r8]; show (nx tb n (nx tb n (nx tb n p))) ≠ -1; omega) _ hu_53.fs (by rw [r8]; exact hF_52) ⟨hb_54.1, by have w8 := hb_54.2; omega⟩ (hu_53.1 17 (by omega) (by omega) (by omega)) (hu_53.1 16 (by omega) (by omega) (by omega))
      ·
        show WP (Call d) 205 P X (35, [some (vr (some 90) 10), some (vi 0), some (vi 1), none, none, none], [vi v34], (J34_1, H), 0, 0)
        have hF_55 : J34_1 90 10 = (nx tb n p) := e34_1
        have pb9 := hR_15.bd
        have hu_56 : FA I J34_1 := hu_17.g s34 f34_1
        have hb_57 : 0 ≤ J34_1 90 9 ∧ J34_1 90 9 ≤ n := b34
        have h_58 : J34_1 90 11 = _ := (s34 11 (by omega) (by omega)).trans h_18
        have hL_59 : LTX J34_1 tb n := hL_14.fr (s34 7 (by omega) (by omega)) (s34 8 (by omega) (by omega)) (f34_1 94 (by omega)) (f34_1 91 (by omega))
        refine WP.go 4 (And.intro (fun (b38 : ¬ 0 = 0) => (absurd b38 (by omega))) (fun (b38 : 0 = 0) => ?_))
        show WP (Call d) 205 P X (39, [some (vr (some 90) 10), some (vi 0), some (vi 1), some (vl v34), none, none], [], (J34_1, H), 0, 0)
        refine WP.go 2 (And.intro rfl (?_))
        refine rw_i (Q := fun x9 => WP (Call d) 205 P X (41, [some (vr (some 90) 10), some (vi 0), some (vi 1), some (vl v34), none, none], [vi x9], (J34_1, H), 0, 0)) hF_55 ?_
        show WP (Call d) 205 P X (41, [some (vr (some 90) 10), some (vi 0), some (vi 1), some (vl v34), none, none], [vi (nx tb n p)], (J34_1, H), 0, 0)
        refine WP.go 2 (And.intro (fun (b42 : ¬ (nx tb n p) = (-1)) => ?_) (fun (b42 : (nx tb n p) = (-1)) => (absurd b42 (by omega))))
        show WP (Call d) 205 P X (72, [some (vr (some 90) 10), some (vi 0), some (vi 1), some (vl v34), none, none], [], (J34_1, H), 0, 0)
        refine WP.go 2 (And.intro rfl (?_))
        refine rw_i (Q := fun x9 => WP (Call d) 205 P X (74, [some (vr (some 90) 10), some (vi 0), some (vi 1), some (vl v34), none, none], [vi x9], (J34_1, H), 0, 0)) hF_55 ?_
        show WP (Call d) 205 P X (74, [some (vr (some 90) 10), some (vi 0), some (vi 1), some (vl v34), none, none], [vi (nx tb n p)], (J34_1, H), 0, 0)
        refine WP.go 2 (And.intro (fun (b75 : ¬ (nx tb n p) = (-1)) => ?_) (fun (b75 : (nx tb n p) = (-1)) => (absurd b75 (by omega))))
        show WP (Call d) 205 P X (85, [some (vr (some 90) 10), some (vi 0), some (vi 1), some (vl v34), none, none], [], (J34_1, H), 0, 0)
        refine WP.go 4 (And.intro (fun (b88 : 0 = 0) => ?_) (fun (b88 : ¬ 0 = 0) => (absurd b88 (by omega))))
        show WP (Call d) 205 P X (93, [some (vr (some 90) 10), some (vi 0), some (vi 1), some (vl v34), none, some (vi 0)], [], (J34_1, H), 0, 0)
        refine WP.go 1 (And.intro (And.intro (Nat.le_of_ble_eq_true rfl) (Nat.le_of_ble_eq_true rfl)) (?_))
        show P none (J34_1, H)
        have t2 : th tb n p ≠ 1011 := q2_1
        have t8 : th tb n p = 1009 := q8
        have k9 : 1009 ≤ th tb n p ∧ th tb n p ≤ 1011 := by omega
        have r7 : lamt tb n p = rE (nx tb n p) := (lamt_a (show th tb n p ≠ 1011 by omega)).trans (pAmt_1 q34_1)
        have r8 := lln_2 (c := c9) k9 r7 (show (nx tb n p) ≠ -1 by omega)
        exact h.2 (by rw [r8]; show (nx tb n p) ≠ -1; omega) _ hu_56.fs (by rw [r8]; exact hF_55) ⟨hb_57.1, by have w8 := hb_57.2; omega⟩ (hu_56.1 17 (by omega) (by omega) (by omega)) (hu_56.1 16 (by omega) (by omega) (by omega))
    ·
      show WP (Call d) 205 P X (9, [some (vr (some 90) 10), some (vi 0), none, none, none, none], [vi 0], (J8_1, H), 0, 0)
      have hL_60 : LTX J8_1 tb n := f8_1.lt hL_7
      have hR_61 : RAT J8_1 tb n p := RAT.of hR_8.bd e8_1
      have h_62 : J8_1 90 9 = p := e8_1
      have hF_63 : J8_1 90 10 = _ := (f8_1.1 10 (by omega)).trans hF_10
      have hu_64 : FA I J8_1 := hu_11.n f8_1
      have h_65 : J8_1 90 11 = _ := (f8_1.1 11 (by omega)).trans h_12
      have hb_66 : 0 ≤ J8_1 90 9 ∧ J8_1 90 9 ≤ n := hR_61.1
      refine WP.go 1 (And.intro (fun (b9 : 0 = 0) => ?_) (fun (b9 : ¬ 0 = 0) => (absurd b9 (by omega))))
      show WP (Call d) 205 P X (12, [some (vr (some 90) 10), some (vi 0), none, none, none, none], [], (J8_1, H), 0, 0)
      refine WP.go 4 (And.intro (fun (b15 : ¬ 0 = 0) => (absurd b15 (by omega))) (fun (b15 : 0 = 0) => ?_))
      show WP (Call d) 205 P X (16, [some (vr (some 90) 10), some (vi 0), some (vi 0), none, none, none], [], (J8_1, H), 0, 0)
      refine WP.go 2 (And.intro (fun (b17 : ¬ 0 = 0) => (absurd b17 (by omega))) (fun (b17 : 0 = 0) => ?_))
      show WP (Call d) 205 P X (18, [some (vr (some 90) 10), some (vi 0), some (vi 0), none, none, none], [], (J8_1, H), 0, 0)
      refine WP.go 3 (And.intro (And.intro (Nat.le_of_ble_eq_true rfl) (Nat.le_of_ble_eq_true rfl)) (And.intro rfl (?_)))
      show Call d 191 [vr (some 90) 10, vr (some 23) 100] (J8_1, H) _ _
      refine s_12_has (by omega) hS hL_60 hR_61 (by omega) ⟨(fun q20 J20 e20 f20 => ?_), (fun q20_1 J20_1 e20_1 f20_1 => ?_)⟩
      ·
        show WP (Call d) 205 P X (21, [some (vr (some 90) 10), some (vi 0), some (vi 0), none, none, none], [vi 1], (J20, H), 0, 0)
        have hL_67 : LTX J20 tb n := f20.lt hL_60
        have pb9 := hR_61.bd
        have nb9 := nx_bd (tb := tb) pb9.1 (th_lt (tb := tb) pb9.2.1 (fun z => absurd (q20.symm.trans z) (by decide)))
        have hR_68 : RAT J20 tb n (nx tb n p) := rat_go hR_61 (fun z => absurd (q20.symm.trans z) (by decide)) e20
        have hF_69 : J20 90 10 = _ := (f20.1 10 (by omega)).trans hF_63
        have hu_70 : FA I J20 := hu_64.n f20
        have h_71 : J20 90 11 = _ := (f20.1 11 (by omega)).trans h_65
        have hb_72 : 0 ≤ J20 90 9 ∧ J20 90 9 ≤ n := hR_68.1
        refine WP.go 1 (And.intro (fun (b21 : ¬ 1 = 0) => ?_) (fun (b21 : 1 = 0) => (absurd b21 (by omega))))
        show WP (Call d) 205 P X (27, [some (vr (some 90) 10), some (vi 0), some (vi 0), none, none, none], [], (J20, H), 0, 0)
        refine WP.go 2 (And.intro (fun (b28 : 0 = 0) => ?_) (fun (b28 : ¬ 0 = 0) => (absurd b28 (by omega))))
        show WP (Call d) 205 P X (31, [some (vr (some 90) 10), some (vi 0), some (vi 0), none, none, none], [], (J20, H), 0, 0)
        refine WP.go 4 (And.intro (And.intro (Nat.le_of_ble_eq_true rfl) (Nat.le_of_ble_eq_true rfl)) (And.intro rfl (?_)))
        show Call d 193 [vr (some 90) 10, vi 0, vi 999] (J20, H) _ _
        refine s_12_figures (by omega) hS hL_67 hR_68 hF_69 (by omega) ⟨(fun q34_2 J34_2 e34_2 f34_2 => ?_), (fun q34_3 J34_3 v34_1 e34_3 b34_1 vb34_1 s34_1 f34_3 => ?_)⟩
        ·
          show WP (Call d) 205 P X (35, [some (vr (some 90) 10), some (vi 0), some (vi 0), none, none, none], [vi (th tb n (nx tb n p))], (J34_2, H), 0, 0)
          have hL_73 : LTX J34_2 tb n := f34_2.lt hL_67
          have pb9 := hR_68.bd
          have nb9 := nx_bd (tb := tb) pb9.1 (th_lt (tb := tb) pb9.2.1 (by have w := q34_2; omega))
          have hR_74 : RAT J34_2 tb n (nx tb n (nx tb n p)) := rat_go hR_68 (fun z => by have w := q34_2; omega) e34_2
          have hF_75 : J34_2 90 10 = _ := (f34_2.1 10 (by omega)).trans hF_69
          have hu_76 : FA I J34_2 := hu_70.n f34_2
          have h_77 : J34_2 90 11 = _ := (f34_2.1 11 (by omega)).trans h_71
          have hb_78 : 0 ≤ J34_2 90 9 ∧ J34_2 90 9 ≤ n := hR_74.1
          refine WP.go 4 (And.intro (fun (b38 : ¬ 0 = 0) => (absurd b38 (by omega))) (fun (b38 : 0 = 0) => ?_))
          show WP (Call d) 205 P X (39, [some (vr (some 90) 10), some (vi 0), some (vi 0), some (vl (th tb n (nx tb n p))), none, none], [], (J34_2, H), 0, 0)
          refine WP.go 2 (And.intro rfl (?_))
          refine rw_i (Q := fun x9 => WP (Call d) 205 P X (41, [some (vr (some 90) 10), some (vi 0), some (vi 0), some (vl (th tb n (nx tb n p))), none, none], [vi x9], (J34_2, H), 0, 0)) hF_75 ?_
          show WP (Call d) 205 P X (41, [some (vr (some 90) 10), some (vi 0), some (vi 0), some (vl (th tb n (nx tb n p))), none, none], [vi (-1)], (J34_2, H), 0, 0)
          refine WP.go 2 (And.intro (fun (b42 : ¬ (-1) = (-1)) => (absurd b42 (by omega))) (fun (b42 : (-1) = (-1)) => ?_))
          show WP (Call d) 205 P X (43, [some (vr (some 90) 10), some (vi 0), some (vi 0), some (vl (th tb n (nx tb n p))), none, none], [], (J34_2, H), 0, 0)
          refine WP.go 3 (And.intro (And.intro (Nat.le_of_ble_eq_true rfl) (Nat.le_of_ble_eq_true rfl)) (And.intro rfl (?_)))
          show Call d 190 [vr (some 90) 10, vi 42] (J34_2, H) _ _
          refine s_12_isSign (by omega) hS hL_73 hR_74 ⟨by omega, by unfold isL; omega, by unfold isD; omega⟩ (fun J45_1 e45_1 f45_1 => ?_)
          show WP (Call d) 205 P X (46, [some (vr (some 90) 10), some (vi 0), some (vi 0), some (vl (th tb n (nx tb n p))), none, none], [vi (bz (th tb n (nx tb n (nx tb n p)) = 2000 + 42))], (J45_1, H), 0, 0)
          have hL_79 : LTX J45_1 tb n := f45_1.lt hL_73
          have hR_80 : RAT J45_1 tb n (nx tb n (nx tb n p)) := RAT.of hR_74.bd e45_1
          have h_81 : J45_1 90 9 = (nx tb n (nx tb n p)) := e45_1
          have hF_82 : J45_1 90 10 = _ := (f45_1.1 10 (by omega)).trans hF_75
          have hu_83 : FA I J45_1 := hu_76.n f45_1
          have h_84 : J45_1 90 11 = _ := (f45_1.1 11 (by omega)).trans h_77
          have hb_85 : 0 ≤ J45_1 90 9 ∧ J45_1 90 9 ≤ n := hR_80.1
          refine WP.go 1 (And.intro (fun (b46 : bz (th tb n (nx tb n (nx tb n p)) = 2000 + 42) = 0) => ?_) (fun (b46 : ¬ bz (th tb n (nx tb n (nx tb n p)) = 2000 + 42) = 0) => ?_))
          ·
            show WP (Call d) 205 P X (72, [some (vr (some 90) 10), some (vi 0), some (vi 0), some (vl (th tb n (nx tb n p))), none, none], [], (J45_1, H), 0, 0)
            have z46 := bz_e0.mp b46
            have t2 : th tb n p ≠ 1011 := q2_1
            have t8 : th tb n p ≠ 1009 := q8_1
            have t20 : th tb n p = 1010 := q20
            refine WP.wk (L := [some (vr (some 90) 10), some (vi 0), some (vi 0), some (vl (th tb n (nx tb n p))), none, none]) (And.intro rfl (And.intro rfl (And.intro rfl (And.intro rfl (And.intro trivial (And.intro trivial trivial)))))) ?_
            have k9 : 1009 ≤ th tb n p ∧ th tb n p ≤ 1011 := by omega
            refine lease_tail (t9 := th tb n p) (Y := Y) (sf := c9.2.1 F) (vf := c9.2.2 F) (W := W) (by omega) hS hL_79 hR_80 hF_82 h_84 (hu_83.fr hfr) hFB ((hu_83.1 17 (by omega) (by omega) (by omega)).trans h17) ((hu_83.1 16 (by omega) (by omega) (by omega)).trans h16) (by omega) hY (by omega) ⟨fun z9 J9 g1 g2 g3 g4 g5 g6 => ?_, fun z9 J9 g1 g2 g3 g4 g5 => ?_⟩
            · have r8 := lln_4 (c := c9) (a := (-1, [th tb n (nx tb n p)], (fun _ => th tb n (nx tb n p)), nx tb n (nx tb n p))) (b := lcon tb n (nx tb n (nx tb n p))) k9 ((lamt_a (show th tb n p ≠ 1011 by omega)).trans (pAmt_2 q34_2 (show th tb n (nx tb n (nx tb n p)) ≠ 2042 from z46))) rfl rfl z9
              exact h.1 (by rw [r8]) _ (hu_83.fs.tr g1) (by rw [r8]; exact g2) g3 g4 (by rw [r8]; exact g5) (by rw [r8]; exact g6)
            · have r8 := lln_3 (c := c9) (a := (-1, [th tb n (nx tb n p)], (fun _ => th tb n (nx tb n p)), nx tb n (nx tb n p))) (b := lcon tb n (nx tb n (nx tb n p))) k9 ((lamt_a (show th tb n p ≠ 1011 by omega)).trans (pAmt_2 q34_2 (show th tb n (nx tb n (nx tb n p)) ≠ 2042 from z46))) rfl rfl z9
              exact h.2 (by rw [r8]; exact z9) _ (hu_83.fs.tr g1) (by rw [r8]; exact g2) g3 (g4.trans (hu_83.1 17 (by omega) (by omega) (by omega))) (g5.trans (hu_83.1 16 (by omega) (by omega) (by omega)))
          ·
            show WP (Call d) 205 P X (47, [some (vr (some 90) 10), some (vi 0), some (vi 0), some (vl (th tb n (nx tb n p))), none, none], [], (J45_1, H), 0, 0)
            have z46 := bz_e1.mp b46
            refine WP.go 3 (And.intro rfl (?_))
            refine rw_i (Q := fun x9 => WP (Call d) 205 P X (50, [some (vr (some 90) 10), some (vi 0), some (vi 0), some (vl (th tb n (nx tb n p))), none, none], [vi x9, vr (some 90) 10], (J45_1, H), 0, 0)) h_81 ?_
            show WP (Call d) 205 P X (50, [some (vr (some 90) 10), some (vi 0), some (vi 0), some (vl (th tb n (nx tb n p))), none, none], [vi (nx tb n (nx tb n p)), vr (some 90) 10], (J45_1, H), 0, 0)
            refine WP.go 3 (Exists.intro ((nx tb n (nx tb n p)) + 1) (And.intro (wrp_a (by omega) (by omega)) (And.intro (And.intro rfl trivial) (?_))))
            show WP (Call d) 205 P X (53, [some (vr (some 90) 10), some (vi 0), some (vi 0), some (vl (th tb n (nx tb n p))), none, none], [], ((upI J45_1 90 9 ((nx tb n (nx tb n p)) + 1)), H), 0, 0)
            generalize hq_B0 : (upI J45_1 90 9 ((nx tb n (nx tb n p)) + 1)) = B0
            have e_B0 : B0 90 = (fun j => if j = 9 then ((nx tb n (nx tb n p)) + 1) else J45_1 90 j) := by rw [← hq_B0]; exact upI_self _ _ _ _
            have f_B0 : ∀ a, a ≠ 90 → B0 a = J45_1 a := fun a q => by rw [← hq_B0]; exact upI_cell q
            have hu_86 : FA I B0 := hu_83.o (.inl rfl) e_B0 f_B0
            have hL_87 : LTX B0 tb n := hL_79.fr (by rw [e_B0]; rfl) (by rw [e_B0]; rfl) (f_B0 94 (by omega)) (f_B0 91 (by omega))
            have hF_88 : B0 90 10 = -1 := by rw [e_B0]; exact hF_82
            have h_89 : B0 90 11 = 0 := by rw [e_B0]; exact h_84
            have b99 : B0 90 9 = (nx tb n (nx tb n p)) + 1 := by rw [e_B0]; rfl
            have hpb9 := hR_80.bd
            have s99 := nx_semi hpb9.1 hpb9.2.1 hL_87.2.2.1 (c := 42) ⟨by omega, by unfold isL; omega, by unfold isD; omega⟩ z46
            have nb9 := nx_bd (tb := tb) hpb9.1 s99.1
            have hR_90 : RAT B0 tb n (nx tb n (nx tb n (nx tb n p))) := ⟨by rw [b99]; omega, by rw [b99]; exact s99.2.symm⟩
            have hb_91 : 0 ≤ B0 90 9 ∧ B0 90 9 ≤ n := hR_90.1
            refine WP.go 2 (And.intro (And.intro (Nat.le_of_ble_eq_true rfl) (Nat.le_of_ble_eq_true rfl)) (And.intro rfl (?_)))
            show Call d 198 [vr (some 90) 10] (B0, H) _ _
            refine s_12_factAt (by omega) hS hL_87 hR_90 hF_88 h_89 ⟨(fun q54_2 J54_2 e54_2 f54_2 => ?_), (fun q54_3 J54_3 e54_3 f54_3 => ?_)⟩
            ·
              show WP (Call d) 205 P X (55, [some (vr (some 90) 10), some (vi 0), some (vi 0), some (vl (th tb n (nx tb n p))), none, none], [vi (th tb n (nx tb n (nx tb n (nx tb n p))) - 1016)], (J54_2, H), 0, 0)
              have hL_92 : LTX J54_2 tb n := f54_2.lt hL_87
              have pb9 := hR_90.bd
              have nb9 := nx_bd (tb := tb) pb9.1 (th_lt (tb := tb) pb9.2.1 (by have w := q54_2; omega))
              have hR_93 : RAT J54_2 tb n (nx tb n (nx tb n (nx tb n (nx tb n p)))) := e54_2
              have hF_94 : J54_2 90 10 = _ := (f54_2.1 10 (by omega)).trans hF_88
              have hu_95 : FA I J54_2 := hu_86.n f54_2
              have h_96 : J54_2 90 11 = _ := (f54_2.1 11 (by omega)).trans h_89
              have hb_97 : 0 ≤ J54_2 90 9 ∧ J54_2 90 9 ≤ n := hR_93.1
              refine WP.go 4 (And.intro (fun (b58 : ¬ (th tb n (nx tb n (nx tb n (nx tb n p))) - 1016) = (-1)) => ?_) (fun (b58 : (th tb n (nx tb n (nx tb n (nx tb n p))) - 1016) = (-1)) => (absurd b58 (by omega))))
              show WP (Call d) 205 P X (64, [some (vr (some 90) 10), some (vi 0), some (vi 0), some (vl (th tb n (nx tb n p))), none, some (vi (th tb n (nx tb n (nx tb n (nx tb n p))) - 1016))], [], (J54_2, H), 0, 0)
              refine WP.go 5 (And.intro rfl (Exists.intro 95 (And.intro hS.r90_12 (And.intro (And.intro rfl (And.intro (show 0 ≤ (th tb n (nx tb n (nx tb n (nx tb n p))) - 1016) from by omega) (show (th tb n (nx tb n (nx tb n (nx tb n p))) - 1016) < H.2.1 95 from by omega))) (?_)))))
              refine rw_i (Q := fun x9 => WP (Call d) 205 P X (69, [some (vr (some 90) 10), some (vi 0), some (vi 0), some (vl (th tb n (nx tb n p))), none, some (vi (th tb n (nx tb n (nx tb n (nx tb n p))) - 1016))], [vi x9, vl (th tb n (nx tb n p))], (J54_2, H), 0, 0)) (show J54_2 95 (th tb n (nx tb n (nx tb n (nx tb n p))) - 1016) = F (th tb n (nx tb n (nx tb n (nx tb n p))) - 1016) from (hu_95.fr hfr).1 _ (by omega) (by omega)) ?_
              show WP (Call d) 205 P X (69, [some (vr (some 90) 10), some (vi 0), some (vi 0), some (vl (th tb n (nx tb n p))), none, some (vi (th tb n (nx tb n (nx tb n (nx tb n p))) - 1016))], [vi (F (th tb n (nx tb n (nx tb n (nx tb n p))) - 1016)), vl (th tb n (nx tb n p))], (J54_2, H), 0, 0)
              refine WP.go 1 ?_
              show WP (Call d) 205 P X (70, [some (vr (some 90) 10), some (vi 0), some (vi 0), some (vl (th tb n (nx tb n p))), none, some (vi (th tb n (nx tb n (nx tb n (nx tb n p))) - 1016))], [vl (F (th tb n (nx tb n (nx tb n (nx tb n p))) - 1016)), vl (th tb n (nx tb n p))], (J54_2, H), 0, 0)
              have mb9 := mul_b (m := 0) (show 0 ≤ th tb n (nx tb n p) ∧ th tb n (nx tb n p) ≤ 999 by omega) (hFB.1 (th tb n (nx tb n (nx tb n (nx tb n p))) - 1016) (by omega) (by omega))
              refine WP.go 2 (And.intro (And.intro (by omega) (by omega)) (?_))
              show WP (Call d) 205 P X (72, [some (vr (some 90) 10), some (vi 0), some (vi 0), some (vl ((th tb n (nx tb n p)) * (F (th tb n (nx tb n (nx tb n (nx tb n p))) - 1016)))), none, some (vi (th tb n (nx tb n (nx tb n (nx tb n p))) - 1016))], [], (J54_2, H), 0, 0)
              have t2 : th tb n p ≠ 1011 := q2_1
              have t8 : th tb n p ≠ 1009 := q8_1
              have t20 : th tb n p = 1010 := q20
              refine WP.wk (L := [some (vr (some 90) 10), some (vi 0), some (vi 0), some (vl (th tb n (nx tb n p) * F (th tb n (nx tb n (nx tb n (nx tb n p))) - 1016))), none, none]) (And.intro rfl (And.intro rfl (And.intro rfl (And.intro rfl (And.intro trivial (And.intro trivial trivial)))))) ?_
              have k9 : 1009 ≤ th tb n p ∧ th tb n p ≤ 1011 := by omega
              refine lease_tail (t9 := th tb n p) (Y := Y) (sf := c9.2.1 F) (vf := c9.2.2 F) (W := W) (by omega) hS hL_92 hR_93 hF_94 h_96 (hu_95.fr hfr) hFB ((hu_95.1 17 (by omega) (by omega) (by omega)).trans h17) ((hu_95.1 16 (by omega) (by omega) (by omega)).trans h16) (by omega) hY (by omega) ⟨fun z9 J9 g1 g2 g3 g4 g5 g6 => ?_, fun z9 J9 g1 g2 g3 g4 g5 => ?_⟩
              · have r8 := lln_4 (c := c9) (a := (-1, [th tb n (nx tb n p), 1000 + (th tb n (nx tb n (nx tb n (nx tb n p))) - 1016), 2001], (fun F => th tb n (nx tb n p) * F (th tb n (nx tb n (nx tb n (nx tb n p))) - 1016)), (nx tb n (nx tb n (nx tb n (nx tb n p)))))) (b := lcon tb n (nx tb n (nx tb n (nx tb n (nx tb n p))))) k9 ((lamt_a (show th tb n p ≠ 1011 by omega)).trans (pAmt_4 q34_2 (show th tb n (nx tb n (nx tb n p)) = 2042 from z46) q54_2)) rfl rfl z9
                exact h.1 (by rw [r8]) _ (hu_95.fs.tr g1) (by rw [r8]; exact g2) g3 g4 (by rw [r8]; exact g5) (by rw [r8]; exact g6)
              · have r8 := lln_3 (c := c9) (a := (-1, [th tb n (nx tb n p), 1000 + (th tb n (nx tb n (nx tb n (nx tb n p))) - 1016), 2001], (fun F => th tb n (nx tb n p) * F (th tb n (nx tb n (nx tb n (nx tb n p))) - 1016)), (nx tb n (nx tb n (nx tb n (nx tb n p)))))) (b := lcon tb n (nx tb n (nx tb n (nx tb n (nx tb n p))))) k9 ((lamt_a (show th tb n p ≠ 1011 by omega)).trans (pAmt_4 q34_2 (show th tb n (nx tb n (nx tb n p)) = 2042 from z46) q54_2)) rfl rfl z9
                exact h.2 (by rw [r8]; exact z9) _ (hu_95.fs.tr g1) (by rw [r8]; exact g2) g3 (g4.trans (hu_95.1 17 (by omega) (by omega) (by omega))) (g5.trans (hu_95.1 16 (by omega) (by omega) (by omega)))
            ·
              show WP (Call d) 205 P X (55, [some (vr (some 90) 10), some (vi 0), some (vi 0), some (vl (th tb n (nx tb n p))), none, none], [vi (-1)], (J54_3, H), 0, 0)
              have hL_98 : LTX J54_3 tb n := f54_3.lt hL_87
              have hR_99 : RAT J54_3 tb n (nx tb n (nx tb n (nx tb n p))) := RAT.of hR_90.bd e54_3
              have h_100 : J54_3 90 9 = (nx tb n (nx tb n (nx tb n p))) := e54_3
              have hF_101 : J54_3 90 10 = _ := (f54_3.1 10 (by omega)).trans hF_88
              have hu_102 : FA I J54_3 := hu_86.n f54_3
              have h_103 : J54_3 90 11 = _ := (f54_3.1 11 (by omega)).trans h_89
              have hb_104 : 0 ≤ J54_3 90 9 ∧ J54_3 90 9 ≤ n := hR_99.1
              refine WP.go 4 (And.intro (fun (b58 : ¬ (-1) = (-1)) => (absurd b58 (by omega))) (fun (b58 : (-1) = (-1)) => ?_))
              show WP (Call d) 205 P X (59, [some (vr (some 90) 10), some (vi 0), some (vi 0), some (vl (th tb n (nx tb n p))), none, some (vi (-1))], [], (J54_3, H), 0, 0)
              refine WP.go 3 (And.intro rfl (?_))
              refine rw_i (Q := fun x9 => WP (Call d) 205 P X (62, [some (vr (some 90) 10), some (vi 0), some (vi 0), some (vl (th tb n (nx tb n p))), none, some (vi (-1))], [vi x9, vr (some 90) 10], (J54_3, H), 0, 0)) h_100 ?_
              show WP (Call d) 205 P X (62, [some (vr (some 90) 10), some (vi 0), some (vi 0), some (vl (th tb n (nx tb n p))), none, some (vi (-1))], [vi (nx tb n (nx tb n (nx tb n p))), vr (some 90) 10], (J54_3, H), 0, 0)
              refine WP.go 1 (And.intro (And.intro (Nat.le_of_ble_eq_true rfl) (Nat.le_of_ble_eq_true rfl)) (And.intro rfl (?_)))
              show Call d 192 [vr (some 90) 10, vi (nx tb n (nx tb n (nx tb n p)))] (J54_3, H) _ _
              refine s_12_wrong (by omega) hF_101 (fun J62_1 e62_1 f62_1 => ?_)
              show WP (Call d) 205 P X (63, [some (vr (some 90) 10), some (vi 0), some (vi 0), some (vl (th tb n (nx tb n p))), none, some (vi (-1))], [], (J62_1, H), 0, 0)
              have hF_105 : J62_1 90 10 = (nx tb n (nx tb n (nx tb n p))) := by rw [e62_1]; rfl
              have hu_106 : FA I J62_1 := hu_102.o (.inr (.inl rfl)) e62_1 f62_1
              have hb_107 : 0 ≤ J62_1 90 9 ∧ J62_1 90 9 ≤ n := by rw [e62_1]; exact hb_104
              refine WP.go 1 ?_
              show WP (Call d) 205 P X (72, [some (vr (some 90) 10), some (vi 0), some (vi 0), some (vl (th tb n (nx tb n p))), none, some (vi (-1))], [], (J62_1, H), 0, 0)
              refine WP.go 2 (And.intro rfl (?_))
              refine rw_i (Q := fun x9 => WP (Call d) 205 P X (74, [some (vr (some 90) 10), some (vi 0), some (vi 0), some (vl (th tb n (nx tb n p))), none, some (vi (-1))], [vi x9], (J62_1, H), 0, 0)) hF_105 ?_
              show WP (Call d) 205 P X (74, [some (vr (some 90) 10), some (vi 0), some (vi 0), some (vl (th tb n (nx tb n p))), none, some (vi (-1))], [vi (nx tb n (nx tb n (nx tb n p)))], (J62_1, H), 0, 0)
              refine WP.go 2 (And.intro (fun (b75 : ¬ (nx tb n (nx tb n (nx tb n p))) = (-1)) => ?_) (fun (b75 : (nx tb n (nx tb n (nx tb n p))) = (-1)) => (absurd b75 (by omega))))
              show WP (Call d) 205 P X (85, [some (vr (some 90) 10), some (vi 0), some (vi 0), some (vl (th tb n (nx tb n p))), none, some (vi (-1))], [], (J62_1, H), 0, 0)
              refine WP.go 4 (And.intro (fun (b88 : 0 = 0) => ?_) (fun (b88 : ¬ 0 = 0) => (absurd b88 (by omega))))
              show WP (Call d) 205 P X (93, [some (vr (some 90) 10), some (vi 0), some (vi 0), some (vl (th tb n (nx tb n p))), none, some (vi 0)], [], (J62_1, H), 0, 0)
              refine WP.go 1 (And.intro (And.intro (Nat.le_of_ble_eq_true rfl) (Nat.le_of_ble_eq_true rfl)) (?_))
              show P none (J62_1, H)
              have t2 : th tb n p ≠ 1011 := q2_1
              have t8 : th tb n p ≠ 1009 := q8_1
              have t20 : th tb n p = 1010 := q20
              have k9 : 1009 ≤ th tb n p ∧ th tb n p ≤ 1011 := by omega
              have r7 : lamt tb n p = rE (nx tb n (nx tb n (nx tb n p))) := (lamt_a (show th tb n p ≠ 1011 by omega)).trans (pAmt_3 q34_2 (show th tb n (nx tb n (nx tb n p)) = 2042 from z46) q54_3)
              have r8 := lln_2 (c := c9) k9 r7 (show (nx tb n (nx tb n (nx tb n p))) ≠ -1 by omega)
              exact h.2 (by rw [r8]; show (nx tb n (nx tb n (nx tb n p))) ≠ -1; omega) _ hu_106.fs (by rw [r8]; exact hF_105) ⟨hb_107.1, by have w8 := hb_107.2; omega⟩ (hu_106.1 17 (by omega) (by omega) (by omega)) (hu_106.1 16 (by omega) (by omega) (by omega))
        ·
          show WP (Call d) 205 P X (35, [some (vr (some 90) 10), some (vi 0), some (vi 0), none, none, none], [vi v34_1], (J34_3, H), 0, 0)
          have hF_108 : J34_3 90 10 = (nx tb n p) := e34_3
          have pb9 := hR_68.bd
          have hu_109 : FA I J34_3 := hu_70.g s34_1 f34_3
          have hb_110 : 0 ≤ J34_3 90 9 ∧ J34_3 90 9 ≤ n := b34_1
          have h_111 : J34_3 90 11 = _ := (s34_1 11 (by omega) (by omega)).trans h_71
          have hL_112 : LTX J34_3 tb n := hL_67.fr (s34_1 7 (by omega) (by omega)) (s34_1 8 (by omega) (by omega)) (f34_3 94 (by omega)) (f34_3 91 (by omega))
          refine WP.go 4 (And.intro (fun (b38 : ¬ 0 = 0) => (absurd b38 (by omega))) (fun (b38 : 0 = 0) => ?_))
          show WP (Call d) 205 P X (39, [some (vr (some 90) 10), some (vi 0), some (vi 0), some (vl v34_1), none, none], [], (J34_3, H), 0, 0)
          refine WP.go 2 (And.intro rfl (?_))
          refine rw_i (Q := fun x9 => WP (Call d) 205 P X (41, [some (vr (some 90) 10), some (vi 0), some (vi 0), some (vl v34_1), none, none], [vi x9], (J34_3, H), 0, 0)) hF_108 ?_
          show WP (Call d) 205 P X (41, [some (vr (some 90) 10), some (vi 0), some (vi 0), some (vl v34_1), none, none], [vi (nx tb n p)], (J34_3, H), 0, 0)
          refine WP.go 2 (And.intro (fun (b42 : ¬ (nx tb n p) = (-1)) => ?_) (fun (b42 : (nx tb n p) = (-1)) => (absurd b42 (by omega))))
          show WP (Call d) 205 P X (72, [some (vr (some 90) 10), some (vi 0), some (vi 0), some (vl v34_1), none, none], [], (J34_3, H), 0, 0)
          refine WP.go 2 (And.intro rfl (?_))
          refine rw_i (Q := fun x9 => WP (Call d) 205 P X (74, [some (vr (some 90) 10), some (vi 0), some (vi 0), some (vl v34_1), none, none], [vi x9], (J34_3, H), 0, 0)) hF_108 ?_
          show WP (Call d) 205 P X (74, [some (vr (some 90) 10), some (vi 0), some (vi 0), some (vl v34_1), none, none], [vi (nx tb n p)], (J34_3, H), 0, 0)
          refine WP.go 2 (And.intro (fun (b75 : ¬ (nx tb n p) = (-1)) => ?_) (fun (b75 : (nx tb n p) = (-1)) => (absurd b75 (by omega))))
          show WP (Call d) 205 P X (85, [some (vr (some 90) 10), some (vi 0), some (vi 0), some (vl v34_1), none, none], [], (J34_3, H), 0, 0)
          refine WP.go 4 (And.intro (fun (b88 : 0 = 0) => ?_) (fun (b88 : ¬ 0 = 0) => (absurd b88 (by omega))))
          show WP (Call d) 205 P X (93, [some (vr (some 90) 10), some (vi 0), some (vi 0), some (vl v34_1), none, some (vi 0)], [], (J34_3, H), 0, 0)
          refine WP.go 1 (And.intro (And.intro (Nat.le_of_ble_eq_true rfl) (Nat.le_of_ble_eq_true rfl)) (?_))
          show P none (J34_3, H)
          have t2 : th tb n p ≠ 1011 := q2_1
          have t8 : th tb n p ≠ 1009 := q8_1
          have t20 : th tb n p = 1010 := q20
          have k9 : 1009 ≤ th tb n p ∧ th tb n p ≤ 1011 := by omega
          have r7 : lamt tb n p = rE (nx tb n p) := (lamt_a (show th tb n p ≠ 1011 by omega)).trans (pAmt_1 q34_3)
          have r8 := lln_2 (c := c9) k9 r7 (show (nx tb n p) ≠ -1 by omega)
          exact h.2 (by rw [r8]; show (nx tb n p) ≠ -1; omega) _ hu_109.fs (by rw [r8]; exact hF_108) ⟨hb_110.1, by have w8 := hb_110.2; omega⟩ (hu_109.1 17 (by omega) (by omega) (by omega)) (hu_109.1 16 (by omega) (by omega) (by omega))
      ·
        show WP (Call d) 205 P X (21, [some (vr (some 90) 10), some (vi 0), some (vi 0), none, none, none], [vi 0], (J20_1, H), 0, 0)
        have hL_113 : LTX J20_1 tb n := f20_1.lt hL_60
        have hR_114 : RAT J20_1 tb n p := RAT.of hR_61.bd e20_1
        have h_115 : J20_1 90 9 = p := e20_1
        have hF_116 : J20_1 90 10 = _ := (f20_1.1 10 (by omega)).trans hF_63
        have hu_117 : FA I J20_1 := hu_64.n f20_1
        have h_118 : J20_1 90 11 = _ := (f20_1.1 11 (by omega)).trans h_65
        have hb_119 : 0 ≤ J20_1 90 9 ∧ J20_1 90 9 ≤ n := hR_114.1
        refine WP.go 1 (And.intro (fun (b21 : ¬ 0 = 0) => (absurd b21 (by omega))) (fun (b21 : 0 = 0) => ?_))
        show WP (Call d) 205 P X (22, [some (vr (some 90) 10), some (vi 0), some (vi 0), none, none, none], [], (J20_1, H), 0, 0)
        refine WP.go 3 (And.intro rfl (?_))
        refine rw_i (Q := fun x9 => WP (Call d) 205 P X (25, [some (vr (some 90) 10), some (vi 0), some (vi 0), none, none, none], [vi x9, vr (some 90) 10], (J20_1, H), 0, 0)) h_115 ?_
        show WP (Call d) 205 P X (25, [some (vr (some 90) 10), some (vi 0), some (vi 0), none, none, none], [vi p, vr (some 90) 10], (J20_1, H), 0, 0)
        refine WP.go 1 (And.intro (And.intro (Nat.le_of_ble_eq_true rfl) (Nat.le_of_ble_eq_true rfl)) (And.intro rfl (?_)))
        show Call d 192 [vr (some 90) 10, vi p] (J20_1, H) _ _
        refine s_12_wrong (by omega) hF_116 (fun J25 e25 f25 => ?_)
        show WP (Call d) 205 P X (26, [some (vr (some 90) 10), some (vi 0), some (vi 0), none, none, none], [], (J25, H), 0, 0)
        have hF_120 : J25 90 10 = p := by rw [e25]; rfl
        have hu_121 : FA I J25 := hu_117.o (.inr (.inl rfl)) e25 f25
        have hb_122 : 0 ≤ J25 90 9 ∧ J25 90 9 ≤ n := by rw [e25]; exact hb_119
        refine WP.go 1 (And.intro (And.intro (Nat.le_of_ble_eq_true rfl) (Nat.le_of_ble_eq_true rfl)) (?_))
        show P none (J25, H)
        have t2 : th tb n p ≠ 1011 := q2_1
        have t8 : th tb n p ≠ 1009 := q8_1
        have t20 : th tb n p ≠ 1010 := q20_1
        have r8 := lln_1 (tb := tb) (n := n) (p := p) (c := c9) (by omega)
        exact h.2 (by rw [r8]; show p ≠ -1; omega) _ hu_121.fs (by rw [r8]; exact hF_120) ⟨hb_122.1, by have w8 := hb_122.2; omega⟩ (hu_121.1 17 (by omega) (by omega) (by omega)) (hu_121.1 16 (by omega) (by omega) (by omega))

