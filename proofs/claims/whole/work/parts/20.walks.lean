/-! WALKS OVER THE ABSTRACT MACHINE: small laws; the fixed cells -/
theorem wrp_a {x : Int} (h1 : -2147483648 ≤ x) (h2 : x < 2147483648) : x = wrp x := by unfold wrp; omega
theorem wrp_a2 {x y : Int} (h1 : -2147483648 ≤ x) (h2 : x < 2147483648) (e : x = y) : x = wrp y := by subst e; exact wrp_a h1 h2
theorem tdiv_a {a b : Int} (h1 : 0 ≤ a) (h2 : a < 2147483648) (h3 : 0 < b) : b ≠ 0 ∧ a / b = wrp (Int.tdiv a b) := by
  refine ⟨by omega, ?_⟩
  rw [Int.tdiv_eq_ediv_of_nonneg h1]
  have h4 : 0 ≤ a / b := Int.ediv_nonneg h1 (by omega)
  have h5 : a / b ≤ a := Int.ediv_le_self b h1
  exact wrp_a (by omega) (by omega)
theorem tmod_a {a b : Int} (h1 : 0 ≤ a) (h3 : 0 < b) : b ≠ 0 ∧ a % b = Int.tmod a b := ⟨by omega, (Int.tmod_eq_emod_of_nonneg h1).symm⟩
theorem fin_i {P : Option qV → qH → Prop} {g : qH} {v w : Int} (e : v = w) (h : P (some (vi w)) g) : P (some (vi v)) g := e ▸ h
theorem rw_i {a b : Int} {Q : Int → Prop} (e : a = b) (h : Q b) : Q a := e ▸ h
theorem rw_o {a b : Option Nat} {Q : Option Nat → Prop} (e : a = b) (h : Q b) : Q a := e ▸ h
def mx (a b : Int) : Int := if a < b then b else a
def mn (a b : Int) : Int := if b < a then b else a
theorem mx_l {a b : Int} (h : a < b) : mx a b = b := if_pos h
theorem mx_g {a b : Int} (h : ¬ a < b) : mx a b = a := if_neg h
theorem mn_l {a b : Int} (h : b < a) : mn a b = b := if_pos h
theorem mn_g {a b : Int} (h : ¬ b < a) : mn a b = a := if_neg h
theorem mx_b (a b : Int) : a ≤ mx a b ∧ b ≤ mx a b ∧ (mx a b = a ∨ mx a b = b) := by unfold mx; split <;> omega
theorem mn_b (a b : Int) : mn a b ≤ a ∧ mn a b ≤ b ∧ (mn a b = a ∨ mn a b = b) := by unfold mn; split <;> omega
/-- a truth as a number -/
noncomputable def bz (p : Prop) : Int := @ite Int p (Classical.propDecidable p) 1 0
theorem bz_1 {p : Prop} (h : p) : bz p = 1 := if_pos h
theorem bz_0 {p : Prop} (h : ¬ p) : bz p = 0 := if_neg h
theorem bz_or (p : Prop) : bz p = 0 ∨ bz p = 1 := (Classical.em p).elim (fun h => .inr (bz_1 h)) (fun h => .inl (bz_0 h))
theorem bz_e0 {p : Prop} : bz p = 0 ↔ ¬ p := ⟨fun h q => by rw [bz_1 q] at h; omega, bz_0⟩
theorem bz_e1 {p : Prop} : ¬ bz p = 0 ↔ p := ⟨fun h => Classical.byContradiction (fun q => h (bz_0 q)), fun h q => by rw [bz_1 h] at q; omega⟩
theorem bz_eq1 {p : Prop} : bz p = 1 ↔ p := ⟨fun h => bz_e1.mp (by omega), bz_1⟩
theorem bz_c {p q : Prop} (h : p ↔ q) : bz p = bz q := by rw [show p = q from propext h]
theorem one_bz {p : Prop} (h : p) : (1 : Int) = bz p := (bz_1 h).symm
theorem zero_bz {p : Prop} (h : ¬ p) : (0 : Int) = bz p := (bz_0 h).symm
/-! forgetting locals -/
def nlo : Option qV → Prop
  | some (.inr (.inl _)) => False
  | _ => True
def Lw : List (Option qV) → List (Option qV) → Prop
  | [], [] => True
  | none :: L, y :: L' => nlo y ∧ Lw L L'
  | some x :: L, y :: L' => y = some x ∧ Lw L L'
  | _, _ => False
theorem Lw_at : ∀ {L L' : List (Option qV)}, Lw L L' → ∀ p, (L.getD p none = none ∧ nlo (L'.getD p none)) ∨ (∃ x, L.getD p none = some x ∧ L'.getD p none = some x)
  | [], [], _, p => .inl ⟨by simp, by simp [nlo]⟩
  | none :: _, _ :: _, h, 0 => .inl ⟨rfl, h.1⟩
  | some x :: _, _ :: _, h, 0 => .inr ⟨x, rfl, h.1⟩
  | none :: _, _ :: _, h, p + 1 => by simpa using Lw_at h.2 p
  | some x :: _, _ :: _, h, p + 1 => by simpa using Lw_at h.2 p
  | [], _ :: _, h, _ => h.elim
  | none :: _, [], h, _ => h.elim
  | some _ :: _, [], h, _ => h.elim
theorem Lw_set : ∀ {L L' : List (Option qV)}, Lw L L' → ∀ (p : Nat) (v : Option qV), Lw (L.set p v) (L'.set p v)
  | [], [], _, _, _ => trivial
  | none :: L, y :: L', h, 0, none => ⟨trivial, h.2⟩
  | none :: L, y :: L', h, 0, some v => ⟨rfl, h.2⟩
  | some x :: L, y :: L', h, 0, none => ⟨trivial, h.2⟩
  | some x :: L, y :: L', h, 0, some v => ⟨rfl, h.2⟩
  | none :: _, _ :: _, h, p + 1, v => ⟨h.1, Lw_set h.2 p v⟩
  | some _ :: _, _ :: _, h, p + 1, v => ⟨h.1, Lw_set h.2 p v⟩
  | [], _ :: _, h, _, _ => h.elim
  | none :: _, [], h, _, _ => h.elim
  | some _ :: _, [], h, _, _ => h.elim
theorem Lw_lnl {L L' : List (Option qV)} (h : Lw L L') (p : Nat) (q : lnl L p = true) : lnl L' p = true := by
  cases p with
  | zero => rfl
  | succ p =>
    have q2 : (match L.getD p none with | some (.inr (.inl _)) => false | _ => true) = true := q
    show (match L'.getD p none with | some (.inr (.inl _)) => false | _ => true) = true
    rcases Lw_at h p with ⟨h1, h2⟩ | ⟨x, h1, h2⟩
    · revert h2
      generalize L'.getD p none = y
      intro h2
      match y, h2 with
      | none, _ => rfl
      | some (.inl _), _ => rfl
      | some (.inr (.inr _)), _ => rfl
    · rw [h1] at q2
      rw [h2]
      exact q2
set_option maxHeartbeats 4000000 in
theorem stA_wk {C : qC} (hC : mono C) {M : Nat} {P : Option qV → qH → Prop} {X : Nat → qH → Prop} {L L' : List (Option qV)} (hL : Lw L L') {K K' : qT → Prop} (hK : ∀ n L L' S g c s, Lw L L' → K (n, L, S, g, c, s) → K' (n, L', S, g, c, s)) (op : Nat) (z : Int) (p q r n : Nat) (S : List qV) (I : qI) (H : qS) (c s : Nat) :
    stA C M P X op z p q r n L S I H c s K → stA C M P X op z p q r n L' S I H c s K' := by
  have hk : ∀ {n S g c s}, K (n, L, S, g, c, s) → K' (n, L', S, g, c, s) := fun h => hK _ _ _ _ _ _ _ hL h
  intro h
  unfold stA at h
  split at h
  case h_69 => exact h.elim
  case h_29 => exact ⟨h.1, h.2.1, bf_mono (fun h2 => hC _ _ _ _ _ _ _ (fun v g h => hk h) (fun _ _ q => q) h2) h.2.2⟩
  case h_53 =>
    split at h
    · exact ⟨fun e => hk (h.1 e), swt_mono (fun t h => hk h) _ _ _ h.2⟩
    · exact h.elim
  case h_61 => exact h
  case h_68 =>
    split at h
    · rename_i a k S'
      split at h
      case h_4 => exact h.elim
      all_goals
        refine ⟨h.1, ?_⟩
        have h2 := h.2
        revert h2
        cases Nat.ble _ 4 with
        | false => exact id
        | true => exact fun h2 => hC _ _ _ _ _ _ _ (fun v g h => hk h) (fun _ _ q => q) h2
    · exact h.elim
  case h_1 =>
    split at h
    · rename_i v heq
      rcases Lw_at hL p with ⟨h1, h2⟩ | ⟨x, h1, h2⟩
      · rw [h1] at heq; exact (nomatch heq)
      · rw [h1] at heq; cases heq; unfold stA; simp only [h2]; exact hk h
    · exact h.elim
  case h_2 =>
    split at h
    · rename_i v _ heq
      rcases Lw_at hL p with ⟨h1, h2⟩ | ⟨x, h1, h2⟩
      · rw [h1] at heq; exact (nomatch heq)
      · rw [h1] at heq; cases heq; unfold stA; simp only [h2]; exact hk h
    · exact h.elim
  case h_3 =>
    split at h
    · rename_i v heq
      rcases Lw_at hL p with ⟨h1, h2⟩ | ⟨x, h1, h2⟩
      · rw [h1] at heq; exact (nomatch heq)
      · rw [h1] at heq; cases heq; unfold stA; simp only [h2]; exact hk h
    · exact h.elim
  case h_4 =>
    split at h
    · unfold stA
      revert h
      cases hq : lnl L p with
      | false => exact False.elim
      | true => rw [Lw_lnl hL p hq]; exact fun h => hK _ _ _ _ _ _ _ (Lw_set hL p _) h
    · exact h.elim
  case h_5 =>
    split at h
    · unfold stA
      revert h
      cases hq : lnl L p with
      | false => exact False.elim
      | true => rw [Lw_lnl hL p hq]; exact fun h => hK _ _ _ _ _ _ _ (Lw_set hL p _) h
    · exact h.elim
  case h_6 =>
    split at h
    · unfold stA
      revert h
      cases hq : lnl L p with
      | false => exact False.elim
      | true => rw [Lw_lnl hL p hq]; exact fun h => hK _ _ _ _ _ _ _ (Lw_set (Lw_set hL p _) _ _) h
    · exact h.elim
  case h_54 =>
    split at h
    · rename_i a heq
      rcases Lw_at hL p with ⟨h1, h2⟩ | ⟨x, h1, h2⟩
      · rw [h1] at heq; exact (nomatch heq)
      · rw [h1] at heq; cases heq; unfold stA; simp only [h2]
        obtain ⟨v, e, h⟩ := h
        exact ⟨v, e, hK _ _ _ _ _ _ _ (Lw_set hL p _) h⟩
    · exact h.elim
  all_goals first
    | exact hk h
    | exact ⟨h.1, hk h.2⟩
    | (split at h <;> first | exact h.elim | exact hk h | exact ⟨h.1, hk h.2⟩ | exact h | exact bf_mono hk h | exact ⟨h.1, bf_mono hk h.2⟩ | (obtain ⟨v, h1, h2⟩ := h; exact ⟨v, h1, bf_mono hk h2⟩) | (obtain ⟨v, h1, h2⟩ := h; exact ⟨v, h1, hk h2⟩) | (obtain ⟨h0, v, h1, h2⟩ := h; exact ⟨h0, v, h1, hk h2⟩) | (split at h <;> first | exact h.elim | exact hk h | exact ⟨fun e => hk (h.1 e), fun e => hk (h.2 e)⟩))
theorem WP.wk {d M : Nat} {P : Option qV → qH → Prop} {X : Nat → qH → Prop} {n : Nat} {L L' : List (Option qV)} {S : List qV} {g : qH} {c s : Nat} (hL : Lw L L') (h : WP (Call d) M P X (n, L, S, g, c, s)) : WP (Call d) M P X (n, L', S, g, c, s) := by
  refine h (fun t => ∀ L', Lw t.2.1 L' → WP (Call d) M P X (t.1, L', t.2.2)) (fun u hu L' hL' => ?_) L' hL
  refine WP.step (Call.mono d) ?_
  unfold stp at hu ⊢
  exact stA_wk (Call.mono d) hL' (K' := WP (Call d) M P X) (fun n L L' S g c s hl hz => hz L' hl) _ _ _ _ _ _ _ _ _ _ _ hu
theorem upI_same (I : qI) (a : Nat) (k v : Int) : upI I a k v a k = v := if_pos ⟨rfl, rfl⟩
theorem upI_self (I : qI) (a : Nat) (k v : Int) : upI I a k v a = fun j => if j = k then v else I a j := funext fun j => by
  unfold upI
  by_cases h : j = k
  · rw [if_pos ⟨rfl, h⟩, if_pos h]
  · rw [if_neg (fun e => h e.2), if_neg h]
theorem upI_cell {I : qI} {a b : Nat} {k v : Int} (h : b ≠ a) : upI I a k v b = I b := funext fun j => if_neg (fun e => h e.1)
theorem upI_at {I : qI} {a b : Nat} {k v j : Int} (h : b ≠ a ∨ j ≠ k) : upI I a k v b j = I b j := if_neg (fun e => h.elim (fun q => q e.1) (fun q => q e.2))

/-! the fixed cells: what the fields of references hold, how long the rows are -/
def RT : List (Nat × Int × Nat) := [(3, 0, 4), (3, 1, 69), (3, 2, 72), (3, 3, 76), (3, 4, 6), (3, 5, 27), (3, 6, 48), (3, 7, 79), (3, 8, 82), (3, 9, 85), (4, 0, 5), (6, 0, 7), (6, 1, 9), (6, 2, 11), (6, 3, 13), (6, 4, 15), (6, 5, 17), (6, 6, 19), (6, 7, 21), (6, 8, 23), (6, 9, 24), (6, 10, 25), (6, 11, 26), (7, 2, 8), (9, 2, 10), (11, 2, 12), (13, 2, 14), (15, 2, 16), (17, 2, 18), (19, 2, 20), (21, 2, 22), (27, 0, 28), (27, 1, 30), (27, 2, 32), (27, 3, 34), (27, 4, 36), (27, 5, 38), (27, 6, 40), (27, 7, 42), (27, 8, 44), (27, 9, 45), (27, 10, 46), (27, 11, 47), (28, 2, 29), (30, 2, 31), (32, 2, 33), (34, 2, 35), (36, 2, 37), (38, 2, 39), (40, 2, 41), (42, 2, 43), (48, 0, 49), (48, 1, 51), (48, 2, 53), (48, 3, 55), (48, 4, 57), (48, 5, 59), (48, 6, 61), (48, 7, 63), (48, 8, 65), (48, 9, 66), (48, 10, 67), (48, 11, 68), (49, 2, 50), (51, 2, 52), (53, 2, 54), (55, 2, 56), (57, 2, 58), (59, 2, 60), (61, 2, 62), (63, 2, 64), (69, 0, 70), (69, 1, 71), (69, 4, 27), (72, 0, 73), (72, 1, 74), (72, 4, 75), (76, 0, 77), (76, 1, 78), (79, 0, 6), (79, 1, 80), (79, 2, 81), (82, 0, 83), (82, 1, 84), (85, 0, 6), (85, 1, 79), (85, 2, 86), (85, 3, 87), (85, 4, 88), (85, 5, 89), (90, 1, 91), (90, 2, 92), (90, 4, 93), (90, 5, 94), (90, 12, 95), (90, 24, 96), (90, 25, 97), (90, 26, 98), (90, 31, 99)]
def LT : List (Nat × Int) := [(0, 8), (1, 8), (5, 400), (8, 20), (10, 60), (12, 30), (14, 64), (16, 48), (18, 16), (20, 48), (22, 40), (23, 5), (24, 100), (25, 100), (26, 6), (29, 20), (31, 60), (33, 30), (35, 64), (37, 48), (39, 16), (41, 48), (43, 40), (44, 5), (45, 100), (46, 100), (47, 6), (50, 20), (52, 60), (54, 30), (56, 64), (58, 48), (60, 16), (62, 48), (64, 40), (65, 5), (66, 100), (67, 100), (68, 6), (70, 401), (71, 401), (73, 401), (74, 401), (75, 800), (77, 401), (78, 401), (80, 100), (81, 81), (83, 8), (84, 64), (86, 49), (87, 100), (88, 7), (89, 7), (91, 2952), (92, 2952), (93, 230), (94, 400), (95, 5), (96, 100), (97, 10), (98, 10), (99, 100), (100, 1)]
def Shp (H : qS) : Prop := (∀ q ∈ RT, H.1 q.1 q.2.1 = some q.2.2) ∧ (∀ q ∈ LT, H.2.1 q.1 = q.2) ∧ 98 ≤ H.2.2.2
theorem Shp.r3_0 {H : qS} (h : Shp H) : H.1 3 0 = some 4 := h.1 (3, 0, 4) (List.mem_of_getElem? (i := 0) rfl)
theorem Shp.r3_1 {H : qS} (h : Shp H) : H.1 3 1 = some 69 := h.1 (3, 1, 69) (List.mem_of_getElem? (i := 1) rfl)
theorem Shp.r3_2 {H : qS} (h : Shp H) : H.1 3 2 = some 72 := h.1 (3, 2, 72) (List.mem_of_getElem? (i := 2) rfl)
theorem Shp.r3_3 {H : qS} (h : Shp H) : H.1 3 3 = some 76 := h.1 (3, 3, 76) (List.mem_of_getElem? (i := 3) rfl)
theorem Shp.r3_4 {H : qS} (h : Shp H) : H.1 3 4 = some 6 := h.1 (3, 4, 6) (List.mem_of_getElem? (i := 4) rfl)
theorem Shp.r3_5 {H : qS} (h : Shp H) : H.1 3 5 = some 27 := h.1 (3, 5, 27) (List.mem_of_getElem? (i := 5) rfl)
theorem Shp.r3_6 {H : qS} (h : Shp H) : H.1 3 6 = some 48 := h.1 (3, 6, 48) (List.mem_of_getElem? (i := 6) rfl)
theorem Shp.r3_7 {H : qS} (h : Shp H) : H.1 3 7 = some 79 := h.1 (3, 7, 79) (List.mem_of_getElem? (i := 7) rfl)
theorem Shp.r3_8 {H : qS} (h : Shp H) : H.1 3 8 = some 82 := h.1 (3, 8, 82) (List.mem_of_getElem? (i := 8) rfl)
theorem Shp.r3_9 {H : qS} (h : Shp H) : H.1 3 9 = some 85 := h.1 (3, 9, 85) (List.mem_of_getElem? (i := 9) rfl)
theorem Shp.r4_0 {H : qS} (h : Shp H) : H.1 4 0 = some 5 := h.1 (4, 0, 5) (List.mem_of_getElem? (i := 10) rfl)
theorem Shp.r6_0 {H : qS} (h : Shp H) : H.1 6 0 = some 7 := h.1 (6, 0, 7) (List.mem_of_getElem? (i := 11) rfl)
theorem Shp.r6_1 {H : qS} (h : Shp H) : H.1 6 1 = some 9 := h.1 (6, 1, 9) (List.mem_of_getElem? (i := 12) rfl)
theorem Shp.r6_2 {H : qS} (h : Shp H) : H.1 6 2 = some 11 := h.1 (6, 2, 11) (List.mem_of_getElem? (i := 13) rfl)
theorem Shp.r6_3 {H : qS} (h : Shp H) : H.1 6 3 = some 13 := h.1 (6, 3, 13) (List.mem_of_getElem? (i := 14) rfl)
theorem Shp.r6_4 {H : qS} (h : Shp H) : H.1 6 4 = some 15 := h.1 (6, 4, 15) (List.mem_of_getElem? (i := 15) rfl)
theorem Shp.r6_5 {H : qS} (h : Shp H) : H.1 6 5 = some 17 := h.1 (6, 5, 17) (List.mem_of_getElem? (i := 16) rfl)
theorem Shp.r6_6 {H : qS} (h : Shp H) : H.1 6 6 = some 19 := h.1 (6, 6, 19) (List.mem_of_getElem? (i := 17) rfl)
theorem Shp.r6_7 {H : qS} (h : Shp H) : H.1 6 7 = some 21 := h.1 (6, 7, 21) (List.mem_of_getElem? (i := 18) rfl)
theorem Shp.r6_8 {H : qS} (h : Shp H) : H.1 6 8 = some 23 := h.1 (6, 8, 23) (List.mem_of_getElem? (i := 19) rfl)
theorem Shp.r6_9 {H : qS} (h : Shp H) : H.1 6 9 = some 24 := h.1 (6, 9, 24) (List.mem_of_getElem? (i := 20) rfl)
theorem Shp.r6_10 {H : qS} (h : Shp H) : H.1 6 10 = some 25 := h.1 (6, 10, 25) (List.mem_of_getElem? (i := 21) rfl)
theorem Shp.r6_11 {H : qS} (h : Shp H) : H.1 6 11 = some 26 := h.1 (6, 11, 26) (List.mem_of_getElem? (i := 22) rfl)
theorem Shp.r7_2 {H : qS} (h : Shp H) : H.1 7 2 = some 8 := h.1 (7, 2, 8) (List.mem_of_getElem? (i := 23) rfl)
theorem Shp.r9_2 {H : qS} (h : Shp H) : H.1 9 2 = some 10 := h.1 (9, 2, 10) (List.mem_of_getElem? (i := 24) rfl)
theorem Shp.r11_2 {H : qS} (h : Shp H) : H.1 11 2 = some 12 := h.1 (11, 2, 12) (List.mem_of_getElem? (i := 25) rfl)
theorem Shp.r13_2 {H : qS} (h : Shp H) : H.1 13 2 = some 14 := h.1 (13, 2, 14) (List.mem_of_getElem? (i := 26) rfl)
theorem Shp.r15_2 {H : qS} (h : Shp H) : H.1 15 2 = some 16 := h.1 (15, 2, 16) (List.mem_of_getElem? (i := 27) rfl)
theorem Shp.r17_2 {H : qS} (h : Shp H) : H.1 17 2 = some 18 := h.1 (17, 2, 18) (List.mem_of_getElem? (i := 28) rfl)
theorem Shp.r19_2 {H : qS} (h : Shp H) : H.1 19 2 = some 20 := h.1 (19, 2, 20) (List.mem_of_getElem? (i := 29) rfl)
theorem Shp.r21_2 {H : qS} (h : Shp H) : H.1 21 2 = some 22 := h.1 (21, 2, 22) (List.mem_of_getElem? (i := 30) rfl)
theorem Shp.r27_0 {H : qS} (h : Shp H) : H.1 27 0 = some 28 := h.1 (27, 0, 28) (List.mem_of_getElem? (i := 31) rfl)
theorem Shp.r27_1 {H : qS} (h : Shp H) : H.1 27 1 = some 30 := h.1 (27, 1, 30) (List.mem_of_getElem? (i := 32) rfl)
theorem Shp.r27_2 {H : qS} (h : Shp H) : H.1 27 2 = some 32 := h.1 (27, 2, 32) (List.mem_of_getElem? (i := 33) rfl)
theorem Shp.r27_3 {H : qS} (h : Shp H) : H.1 27 3 = some 34 := h.1 (27, 3, 34) (List.mem_of_getElem? (i := 34) rfl)
theorem Shp.r27_4 {H : qS} (h : Shp H) : H.1 27 4 = some 36 := h.1 (27, 4, 36) (List.mem_of_getElem? (i := 35) rfl)
theorem Shp.r27_5 {H : qS} (h : Shp H) : H.1 27 5 = some 38 := h.1 (27, 5, 38) (List.mem_of_getElem? (i := 36) rfl)
theorem Shp.r27_6 {H : qS} (h : Shp H) : H.1 27 6 = some 40 := h.1 (27, 6, 40) (List.mem_of_getElem? (i := 37) rfl)
theorem Shp.r27_7 {H : qS} (h : Shp H) : H.1 27 7 = some 42 := h.1 (27, 7, 42) (List.mem_of_getElem? (i := 38) rfl)
theorem Shp.r27_8 {H : qS} (h : Shp H) : H.1 27 8 = some 44 := h.1 (27, 8, 44) (List.mem_of_getElem? (i := 39) rfl)
theorem Shp.r27_9 {H : qS} (h : Shp H) : H.1 27 9 = some 45 := h.1 (27, 9, 45) (List.mem_of_getElem? (i := 40) rfl)
theorem Shp.r27_10 {H : qS} (h : Shp H) : H.1 27 10 = some 46 := h.1 (27, 10, 46) (List.mem_of_getElem? (i := 41) rfl)
theorem Shp.r27_11 {H : qS} (h : Shp H) : H.1 27 11 = some 47 := h.1 (27, 11, 47) (List.mem_of_getElem? (i := 42) rfl)
theorem Shp.r28_2 {H : qS} (h : Shp H) : H.1 28 2 = some 29 := h.1 (28, 2, 29) (List.mem_of_getElem? (i := 43) rfl)
theorem Shp.r30_2 {H : qS} (h : Shp H) : H.1 30 2 = some 31 := h.1 (30, 2, 31) (List.mem_of_getElem? (i := 44) rfl)
theorem Shp.r32_2 {H : qS} (h : Shp H) : H.1 32 2 = some 33 := h.1 (32, 2, 33) (List.mem_of_getElem? (i := 45) rfl)
theorem Shp.r34_2 {H : qS} (h : Shp H) : H.1 34 2 = some 35 := h.1 (34, 2, 35) (List.mem_of_getElem? (i := 46) rfl)
theorem Shp.r36_2 {H : qS} (h : Shp H) : H.1 36 2 = some 37 := h.1 (36, 2, 37) (List.mem_of_getElem? (i := 47) rfl)
theorem Shp.r38_2 {H : qS} (h : Shp H) : H.1 38 2 = some 39 := h.1 (38, 2, 39) (List.mem_of_getElem? (i := 48) rfl)
theorem Shp.r40_2 {H : qS} (h : Shp H) : H.1 40 2 = some 41 := h.1 (40, 2, 41) (List.mem_of_getElem? (i := 49) rfl)
theorem Shp.r42_2 {H : qS} (h : Shp H) : H.1 42 2 = some 43 := h.1 (42, 2, 43) (List.mem_of_getElem? (i := 50) rfl)
theorem Shp.r48_0 {H : qS} (h : Shp H) : H.1 48 0 = some 49 := h.1 (48, 0, 49) (List.mem_of_getElem? (i := 51) rfl)
theorem Shp.r48_1 {H : qS} (h : Shp H) : H.1 48 1 = some 51 := h.1 (48, 1, 51) (List.mem_of_getElem? (i := 52) rfl)
theorem Shp.r48_2 {H : qS} (h : Shp H) : H.1 48 2 = some 53 := h.1 (48, 2, 53) (List.mem_of_getElem? (i := 53) rfl)
theorem Shp.r48_3 {H : qS} (h : Shp H) : H.1 48 3 = some 55 := h.1 (48, 3, 55) (List.mem_of_getElem? (i := 54) rfl)
theorem Shp.r48_4 {H : qS} (h : Shp H) : H.1 48 4 = some 57 := h.1 (48, 4, 57) (List.mem_of_getElem? (i := 55) rfl)
theorem Shp.r48_5 {H : qS} (h : Shp H) : H.1 48 5 = some 59 := h.1 (48, 5, 59) (List.mem_of_getElem? (i := 56) rfl)
theorem Shp.r48_6 {H : qS} (h : Shp H) : H.1 48 6 = some 61 := h.1 (48, 6, 61) (List.mem_of_getElem? (i := 57) rfl)
theorem Shp.r48_7 {H : qS} (h : Shp H) : H.1 48 7 = some 63 := h.1 (48, 7, 63) (List.mem_of_getElem? (i := 58) rfl)
theorem Shp.r48_8 {H : qS} (h : Shp H) : H.1 48 8 = some 65 := h.1 (48, 8, 65) (List.mem_of_getElem? (i := 59) rfl)
theorem Shp.r48_9 {H : qS} (h : Shp H) : H.1 48 9 = some 66 := h.1 (48, 9, 66) (List.mem_of_getElem? (i := 60) rfl)
theorem Shp.r48_10 {H : qS} (h : Shp H) : H.1 48 10 = some 67 := h.1 (48, 10, 67) (List.mem_of_getElem? (i := 61) rfl)
theorem Shp.r48_11 {H : qS} (h : Shp H) : H.1 48 11 = some 68 := h.1 (48, 11, 68) (List.mem_of_getElem? (i := 62) rfl)
theorem Shp.r49_2 {H : qS} (h : Shp H) : H.1 49 2 = some 50 := h.1 (49, 2, 50) (List.mem_of_getElem? (i := 63) rfl)
theorem Shp.r51_2 {H : qS} (h : Shp H) : H.1 51 2 = some 52 := h.1 (51, 2, 52) (List.mem_of_getElem? (i := 64) rfl)
theorem Shp.r53_2 {H : qS} (h : Shp H) : H.1 53 2 = some 54 := h.1 (53, 2, 54) (List.mem_of_getElem? (i := 65) rfl)
theorem Shp.r55_2 {H : qS} (h : Shp H) : H.1 55 2 = some 56 := h.1 (55, 2, 56) (List.mem_of_getElem? (i := 66) rfl)
theorem Shp.r57_2 {H : qS} (h : Shp H) : H.1 57 2 = some 58 := h.1 (57, 2, 58) (List.mem_of_getElem? (i := 67) rfl)
theorem Shp.r59_2 {H : qS} (h : Shp H) : H.1 59 2 = some 60 := h.1 (59, 2, 60) (List.mem_of_getElem? (i := 68) rfl)
theorem Shp.r61_2 {H : qS} (h : Shp H) : H.1 61 2 = some 62 := h.1 (61, 2, 62) (List.mem_of_getElem? (i := 69) rfl)
theorem Shp.r63_2 {H : qS} (h : Shp H) : H.1 63 2 = some 64 := h.1 (63, 2, 64) (List.mem_of_getElem? (i := 70) rfl)
theorem Shp.r69_0 {H : qS} (h : Shp H) : H.1 69 0 = some 70 := h.1 (69, 0, 70) (List.mem_of_getElem? (i := 71) rfl)
theorem Shp.r69_1 {H : qS} (h : Shp H) : H.1 69 1 = some 71 := h.1 (69, 1, 71) (List.mem_of_getElem? (i := 72) rfl)
theorem Shp.r69_4 {H : qS} (h : Shp H) : H.1 69 4 = some 27 := h.1 (69, 4, 27) (List.mem_of_getElem? (i := 73) rfl)
theorem Shp.r72_0 {H : qS} (h : Shp H) : H.1 72 0 = some 73 := h.1 (72, 0, 73) (List.mem_of_getElem? (i := 74) rfl)
theorem Shp.r72_1 {H : qS} (h : Shp H) : H.1 72 1 = some 74 := h.1 (72, 1, 74) (List.mem_of_getElem? (i := 75) rfl)
theorem Shp.r72_4 {H : qS} (h : Shp H) : H.1 72 4 = some 75 := h.1 (72, 4, 75) (List.mem_of_getElem? (i := 76) rfl)
theorem Shp.r76_0 {H : qS} (h : Shp H) : H.1 76 0 = some 77 := h.1 (76, 0, 77) (List.mem_of_getElem? (i := 77) rfl)
theorem Shp.r76_1 {H : qS} (h : Shp H) : H.1 76 1 = some 78 := h.1 (76, 1, 78) (List.mem_of_getElem? (i := 78) rfl)
theorem Shp.r79_0 {H : qS} (h : Shp H) : H.1 79 0 = some 6 := h.1 (79, 0, 6) (List.mem_of_getElem? (i := 79) rfl)
theorem Shp.r79_1 {H : qS} (h : Shp H) : H.1 79 1 = some 80 := h.1 (79, 1, 80) (List.mem_of_getElem? (i := 80) rfl)
theorem Shp.r79_2 {H : qS} (h : Shp H) : H.1 79 2 = some 81 := h.1 (79, 2, 81) (List.mem_of_getElem? (i := 81) rfl)
theorem Shp.r82_0 {H : qS} (h : Shp H) : H.1 82 0 = some 83 := h.1 (82, 0, 83) (List.mem_of_getElem? (i := 82) rfl)
theorem Shp.r82_1 {H : qS} (h : Shp H) : H.1 82 1 = some 84 := h.1 (82, 1, 84) (List.mem_of_getElem? (i := 83) rfl)
theorem Shp.r85_0 {H : qS} (h : Shp H) : H.1 85 0 = some 6 := h.1 (85, 0, 6) (List.mem_of_getElem? (i := 84) rfl)
theorem Shp.r85_1 {H : qS} (h : Shp H) : H.1 85 1 = some 79 := h.1 (85, 1, 79) (List.mem_of_getElem? (i := 85) rfl)
theorem Shp.r85_2 {H : qS} (h : Shp H) : H.1 85 2 = some 86 := h.1 (85, 2, 86) (List.mem_of_getElem? (i := 86) rfl)
theorem Shp.r85_3 {H : qS} (h : Shp H) : H.1 85 3 = some 87 := h.1 (85, 3, 87) (List.mem_of_getElem? (i := 87) rfl)
theorem Shp.r85_4 {H : qS} (h : Shp H) : H.1 85 4 = some 88 := h.1 (85, 4, 88) (List.mem_of_getElem? (i := 88) rfl)
theorem Shp.r85_5 {H : qS} (h : Shp H) : H.1 85 5 = some 89 := h.1 (85, 5, 89) (List.mem_of_getElem? (i := 89) rfl)
theorem Shp.r90_1 {H : qS} (h : Shp H) : H.1 90 1 = some 91 := h.1 (90, 1, 91) (List.mem_of_getElem? (i := 90) rfl)
theorem Shp.r90_2 {H : qS} (h : Shp H) : H.1 90 2 = some 92 := h.1 (90, 2, 92) (List.mem_of_getElem? (i := 91) rfl)
theorem Shp.r90_4 {H : qS} (h : Shp H) : H.1 90 4 = some 93 := h.1 (90, 4, 93) (List.mem_of_getElem? (i := 92) rfl)
theorem Shp.r90_5 {H : qS} (h : Shp H) : H.1 90 5 = some 94 := h.1 (90, 5, 94) (List.mem_of_getElem? (i := 93) rfl)
theorem Shp.r90_12 {H : qS} (h : Shp H) : H.1 90 12 = some 95 := h.1 (90, 12, 95) (List.mem_of_getElem? (i := 94) rfl)
theorem Shp.r90_24 {H : qS} (h : Shp H) : H.1 90 24 = some 96 := h.1 (90, 24, 96) (List.mem_of_getElem? (i := 95) rfl)
theorem Shp.r90_25 {H : qS} (h : Shp H) : H.1 90 25 = some 97 := h.1 (90, 25, 97) (List.mem_of_getElem? (i := 96) rfl)
theorem Shp.r90_26 {H : qS} (h : Shp H) : H.1 90 26 = some 98 := h.1 (90, 26, 98) (List.mem_of_getElem? (i := 97) rfl)
theorem Shp.r90_31 {H : qS} (h : Shp H) : H.1 90 31 = some 99 := h.1 (90, 31, 99) (List.mem_of_getElem? (i := 98) rfl)
theorem Shp.l0 {H : qS} (h : Shp H) : H.2.1 0 = 8 := h.2.1 (0, 8) (List.mem_of_getElem? (i := 0) rfl)
theorem Shp.l1 {H : qS} (h : Shp H) : H.2.1 1 = 8 := h.2.1 (1, 8) (List.mem_of_getElem? (i := 1) rfl)
theorem Shp.l5 {H : qS} (h : Shp H) : H.2.1 5 = 400 := h.2.1 (5, 400) (List.mem_of_getElem? (i := 2) rfl)
theorem Shp.l8 {H : qS} (h : Shp H) : H.2.1 8 = 20 := h.2.1 (8, 20) (List.mem_of_getElem? (i := 3) rfl)
theorem Shp.l10 {H : qS} (h : Shp H) : H.2.1 10 = 60 := h.2.1 (10, 60) (List.mem_of_getElem? (i := 4) rfl)
theorem Shp.l12 {H : qS} (h : Shp H) : H.2.1 12 = 30 := h.2.1 (12, 30) (List.mem_of_getElem? (i := 5) rfl)
theorem Shp.l14 {H : qS} (h : Shp H) : H.2.1 14 = 64 := h.2.1 (14, 64) (List.mem_of_getElem? (i := 6) rfl)
theorem Shp.l16 {H : qS} (h : Shp H) : H.2.1 16 = 48 := h.2.1 (16, 48) (List.mem_of_getElem? (i := 7) rfl)
theorem Shp.l18 {H : qS} (h : Shp H) : H.2.1 18 = 16 := h.2.1 (18, 16) (List.mem_of_getElem? (i := 8) rfl)
theorem Shp.l20 {H : qS} (h : Shp H) : H.2.1 20 = 48 := h.2.1 (20, 48) (List.mem_of_getElem? (i := 9) rfl)
theorem Shp.l22 {H : qS} (h : Shp H) : H.2.1 22 = 40 := h.2.1 (22, 40) (List.mem_of_getElem? (i := 10) rfl)
theorem Shp.l23 {H : qS} (h : Shp H) : H.2.1 23 = 5 := h.2.1 (23, 5) (List.mem_of_getElem? (i := 11) rfl)
theorem Shp.l24 {H : qS} (h : Shp H) : H.2.1 24 = 100 := h.2.1 (24, 100) (List.mem_of_getElem? (i := 12) rfl)
theorem Shp.l25 {H : qS} (h : Shp H) : H.2.1 25 = 100 := h.2.1 (25, 100) (List.mem_of_getElem? (i := 13) rfl)
theorem Shp.l26 {H : qS} (h : Shp H) : H.2.1 26 = 6 := h.2.1 (26, 6) (List.mem_of_getElem? (i := 14) rfl)
theorem Shp.l29 {H : qS} (h : Shp H) : H.2.1 29 = 20 := h.2.1 (29, 20) (List.mem_of_getElem? (i := 15) rfl)
theorem Shp.l31 {H : qS} (h : Shp H) : H.2.1 31 = 60 := h.2.1 (31, 60) (List.mem_of_getElem? (i := 16) rfl)
theorem Shp.l33 {H : qS} (h : Shp H) : H.2.1 33 = 30 := h.2.1 (33, 30) (List.mem_of_getElem? (i := 17) rfl)
theorem Shp.l35 {H : qS} (h : Shp H) : H.2.1 35 = 64 := h.2.1 (35, 64) (List.mem_of_getElem? (i := 18) rfl)
theorem Shp.l37 {H : qS} (h : Shp H) : H.2.1 37 = 48 := h.2.1 (37, 48) (List.mem_of_getElem? (i := 19) rfl)
theorem Shp.l39 {H : qS} (h : Shp H) : H.2.1 39 = 16 := h.2.1 (39, 16) (List.mem_of_getElem? (i := 20) rfl)
theorem Shp.l41 {H : qS} (h : Shp H) : H.2.1 41 = 48 := h.2.1 (41, 48) (List.mem_of_getElem? (i := 21) rfl)
theorem Shp.l43 {H : qS} (h : Shp H) : H.2.1 43 = 40 := h.2.1 (43, 40) (List.mem_of_getElem? (i := 22) rfl)
theorem Shp.l44 {H : qS} (h : Shp H) : H.2.1 44 = 5 := h.2.1 (44, 5) (List.mem_of_getElem? (i := 23) rfl)
theorem Shp.l45 {H : qS} (h : Shp H) : H.2.1 45 = 100 := h.2.1 (45, 100) (List.mem_of_getElem? (i := 24) rfl)
theorem Shp.l46 {H : qS} (h : Shp H) : H.2.1 46 = 100 := h.2.1 (46, 100) (List.mem_of_getElem? (i := 25) rfl)
theorem Shp.l47 {H : qS} (h : Shp H) : H.2.1 47 = 6 := h.2.1 (47, 6) (List.mem_of_getElem? (i := 26) rfl)
theorem Shp.l50 {H : qS} (h : Shp H) : H.2.1 50 = 20 := h.2.1 (50, 20) (List.mem_of_getElem? (i := 27) rfl)
theorem Shp.l52 {H : qS} (h : Shp H) : H.2.1 52 = 60 := h.2.1 (52, 60) (List.mem_of_getElem? (i := 28) rfl)
theorem Shp.l54 {H : qS} (h : Shp H) : H.2.1 54 = 30 := h.2.1 (54, 30) (List.mem_of_getElem? (i := 29) rfl)
theorem Shp.l56 {H : qS} (h : Shp H) : H.2.1 56 = 64 := h.2.1 (56, 64) (List.mem_of_getElem? (i := 30) rfl)
theorem Shp.l58 {H : qS} (h : Shp H) : H.2.1 58 = 48 := h.2.1 (58, 48) (List.mem_of_getElem? (i := 31) rfl)
theorem Shp.l60 {H : qS} (h : Shp H) : H.2.1 60 = 16 := h.2.1 (60, 16) (List.mem_of_getElem? (i := 32) rfl)
theorem Shp.l62 {H : qS} (h : Shp H) : H.2.1 62 = 48 := h.2.1 (62, 48) (List.mem_of_getElem? (i := 33) rfl)
theorem Shp.l64 {H : qS} (h : Shp H) : H.2.1 64 = 40 := h.2.1 (64, 40) (List.mem_of_getElem? (i := 34) rfl)
theorem Shp.l65 {H : qS} (h : Shp H) : H.2.1 65 = 5 := h.2.1 (65, 5) (List.mem_of_getElem? (i := 35) rfl)
theorem Shp.l66 {H : qS} (h : Shp H) : H.2.1 66 = 100 := h.2.1 (66, 100) (List.mem_of_getElem? (i := 36) rfl)
theorem Shp.l67 {H : qS} (h : Shp H) : H.2.1 67 = 100 := h.2.1 (67, 100) (List.mem_of_getElem? (i := 37) rfl)
theorem Shp.l68 {H : qS} (h : Shp H) : H.2.1 68 = 6 := h.2.1 (68, 6) (List.mem_of_getElem? (i := 38) rfl)
theorem Shp.l70 {H : qS} (h : Shp H) : H.2.1 70 = 401 := h.2.1 (70, 401) (List.mem_of_getElem? (i := 39) rfl)
theorem Shp.l71 {H : qS} (h : Shp H) : H.2.1 71 = 401 := h.2.1 (71, 401) (List.mem_of_getElem? (i := 40) rfl)
theorem Shp.l73 {H : qS} (h : Shp H) : H.2.1 73 = 401 := h.2.1 (73, 401) (List.mem_of_getElem? (i := 41) rfl)
theorem Shp.l74 {H : qS} (h : Shp H) : H.2.1 74 = 401 := h.2.1 (74, 401) (List.mem_of_getElem? (i := 42) rfl)
theorem Shp.l75 {H : qS} (h : Shp H) : H.2.1 75 = 800 := h.2.1 (75, 800) (List.mem_of_getElem? (i := 43) rfl)
theorem Shp.l77 {H : qS} (h : Shp H) : H.2.1 77 = 401 := h.2.1 (77, 401) (List.mem_of_getElem? (i := 44) rfl)
theorem Shp.l78 {H : qS} (h : Shp H) : H.2.1 78 = 401 := h.2.1 (78, 401) (List.mem_of_getElem? (i := 45) rfl)
theorem Shp.l80 {H : qS} (h : Shp H) : H.2.1 80 = 100 := h.2.1 (80, 100) (List.mem_of_getElem? (i := 46) rfl)
theorem Shp.l81 {H : qS} (h : Shp H) : H.2.1 81 = 81 := h.2.1 (81, 81) (List.mem_of_getElem? (i := 47) rfl)
theorem Shp.l83 {H : qS} (h : Shp H) : H.2.1 83 = 8 := h.2.1 (83, 8) (List.mem_of_getElem? (i := 48) rfl)
theorem Shp.l84 {H : qS} (h : Shp H) : H.2.1 84 = 64 := h.2.1 (84, 64) (List.mem_of_getElem? (i := 49) rfl)
theorem Shp.l86 {H : qS} (h : Shp H) : H.2.1 86 = 49 := h.2.1 (86, 49) (List.mem_of_getElem? (i := 50) rfl)
theorem Shp.l87 {H : qS} (h : Shp H) : H.2.1 87 = 100 := h.2.1 (87, 100) (List.mem_of_getElem? (i := 51) rfl)
theorem Shp.l88 {H : qS} (h : Shp H) : H.2.1 88 = 7 := h.2.1 (88, 7) (List.mem_of_getElem? (i := 52) rfl)
theorem Shp.l89 {H : qS} (h : Shp H) : H.2.1 89 = 7 := h.2.1 (89, 7) (List.mem_of_getElem? (i := 53) rfl)
theorem Shp.l91 {H : qS} (h : Shp H) : H.2.1 91 = 2952 := h.2.1 (91, 2952) (List.mem_of_getElem? (i := 54) rfl)
theorem Shp.l92 {H : qS} (h : Shp H) : H.2.1 92 = 2952 := h.2.1 (92, 2952) (List.mem_of_getElem? (i := 55) rfl)
theorem Shp.l93 {H : qS} (h : Shp H) : H.2.1 93 = 230 := h.2.1 (93, 230) (List.mem_of_getElem? (i := 56) rfl)
theorem Shp.l94 {H : qS} (h : Shp H) : H.2.1 94 = 400 := h.2.1 (94, 400) (List.mem_of_getElem? (i := 57) rfl)
theorem Shp.l95 {H : qS} (h : Shp H) : H.2.1 95 = 5 := h.2.1 (95, 5) (List.mem_of_getElem? (i := 58) rfl)
theorem Shp.l96 {H : qS} (h : Shp H) : H.2.1 96 = 100 := h.2.1 (96, 100) (List.mem_of_getElem? (i := 59) rfl)
theorem Shp.l97 {H : qS} (h : Shp H) : H.2.1 97 = 10 := h.2.1 (97, 10) (List.mem_of_getElem? (i := 60) rfl)
theorem Shp.l98 {H : qS} (h : Shp H) : H.2.1 98 = 10 := h.2.1 (98, 10) (List.mem_of_getElem? (i := 61) rfl)
theorem Shp.l99 {H : qS} (h : Shp H) : H.2.1 99 = 100 := h.2.1 (99, 100) (List.mem_of_getElem? (i := 62) rfl)
theorem Shp.l100 {H : qS} (h : Shp H) : H.2.1 100 = 1 := h.2.1 (100, 1) (List.mem_of_getElem? (i := 63) rfl)
/-- the towns: now, draft, kept -/
def isT (n : Nat) : Prop := n = 6 ∨ n = 27 ∨ n = 48
theorem Shp.t0 {H : qS} {n : Nat} (h : Shp H) (hn : isT n) : H.1 n 0 = some (n + 1) := by
  rcases hn with rfl | rfl | rfl
  · exact h.r6_0
  · exact h.r27_0
  · exact h.r48_0
theorem Shp.t1 {H : qS} {n : Nat} (h : Shp H) (hn : isT n) : H.1 n 1 = some (n + 3) := by
  rcases hn with rfl | rfl | rfl
  · exact h.r6_1
  · exact h.r27_1
  · exact h.r48_1
theorem Shp.t2 {H : qS} {n : Nat} (h : Shp H) (hn : isT n) : H.1 n 2 = some (n + 5) := by
  rcases hn with rfl | rfl | rfl
  · exact h.r6_2
  · exact h.r27_2
  · exact h.r48_2
theorem Shp.t3 {H : qS} {n : Nat} (h : Shp H) (hn : isT n) : H.1 n 3 = some (n + 7) := by
  rcases hn with rfl | rfl | rfl
  · exact h.r6_3
  · exact h.r27_3
  · exact h.r48_3
theorem Shp.t4 {H : qS} {n : Nat} (h : Shp H) (hn : isT n) : H.1 n 4 = some (n + 9) := by
  rcases hn with rfl | rfl | rfl
  · exact h.r6_4
  · exact h.r27_4
  · exact h.r48_4
theorem Shp.t5 {H : qS} {n : Nat} (h : Shp H) (hn : isT n) : H.1 n 5 = some (n + 11) := by
  rcases hn with rfl | rfl | rfl
  · exact h.r6_5
  · exact h.r27_5
  · exact h.r48_5
theorem Shp.t6 {H : qS} {n : Nat} (h : Shp H) (hn : isT n) : H.1 n 6 = some (n + 13) := by
  rcases hn with rfl | rfl | rfl
  · exact h.r6_6
  · exact h.r27_6
  · exact h.r48_6
theorem Shp.t7 {H : qS} {n : Nat} (h : Shp H) (hn : isT n) : H.1 n 7 = some (n + 15) := by
  rcases hn with rfl | rfl | rfl
  · exact h.r6_7
  · exact h.r27_7
  · exact h.r48_7
theorem Shp.t8 {H : qS} {n : Nat} (h : Shp H) (hn : isT n) : H.1 n 8 = some (n + 17) := by
  rcases hn with rfl | rfl | rfl
  · exact h.r6_8
  · exact h.r27_8
  · exact h.r48_8
theorem Shp.t9 {H : qS} {n : Nat} (h : Shp H) (hn : isT n) : H.1 n 9 = some (n + 18) := by
  rcases hn with rfl | rfl | rfl
  · exact h.r6_9
  · exact h.r27_9
  · exact h.r48_9
theorem Shp.t10 {H : qS} {n : Nat} (h : Shp H) (hn : isT n) : H.1 n 10 = some (n + 19) := by
  rcases hn with rfl | rfl | rfl
  · exact h.r6_10
  · exact h.r27_10
  · exact h.r48_10
theorem Shp.t11 {H : qS} {n : Nat} (h : Shp H) (hn : isT n) : H.1 n 11 = some (n + 20) := by
  rcases hn with rfl | rfl | rfl
  · exact h.r6_11
  · exact h.r27_11
  · exact h.r48_11
theorem Shp.u0 {H : qS} {n : Nat} (h : Shp H) (hn : isT n) : H.1 (n + 1) 2 = some (n + 2) := by
  rcases hn with rfl | rfl | rfl
  · exact h.r7_2
  · exact h.r28_2
  · exact h.r49_2
theorem Shp.ul0 {H : qS} {n : Nat} (h : Shp H) (hn : isT n) : H.2.1 (n + 2) = 20 := by
  rcases hn with rfl | rfl | rfl
  · exact h.l8
  · exact h.l29
  · exact h.l50
theorem Shp.u1 {H : qS} {n : Nat} (h : Shp H) (hn : isT n) : H.1 (n + 3) 2 = some (n + 4) := by
  rcases hn with rfl | rfl | rfl
  · exact h.r9_2
  · exact h.r30_2
  · exact h.r51_2
theorem Shp.ul1 {H : qS} {n : Nat} (h : Shp H) (hn : isT n) : H.2.1 (n + 4) = 60 := by
  rcases hn with rfl | rfl | rfl
  · exact h.l10
  · exact h.l31
  · exact h.l52
theorem Shp.u2 {H : qS} {n : Nat} (h : Shp H) (hn : isT n) : H.1 (n + 5) 2 = some (n + 6) := by
  rcases hn with rfl | rfl | rfl
  · exact h.r11_2
  · exact h.r32_2
  · exact h.r53_2
theorem Shp.ul2 {H : qS} {n : Nat} (h : Shp H) (hn : isT n) : H.2.1 (n + 6) = 30 := by
  rcases hn with rfl | rfl | rfl
  · exact h.l12
  · exact h.l33
  · exact h.l54
theorem Shp.u3 {H : qS} {n : Nat} (h : Shp H) (hn : isT n) : H.1 (n + 7) 2 = some (n + 8) := by
  rcases hn with rfl | rfl | rfl
  · exact h.r13_2
  · exact h.r34_2
  · exact h.r55_2
theorem Shp.ul3 {H : qS} {n : Nat} (h : Shp H) (hn : isT n) : H.2.1 (n + 8) = 64 := by
  rcases hn with rfl | rfl | rfl
  · exact h.l14
  · exact h.l35
  · exact h.l56
theorem Shp.u4 {H : qS} {n : Nat} (h : Shp H) (hn : isT n) : H.1 (n + 9) 2 = some (n + 10) := by
  rcases hn with rfl | rfl | rfl
  · exact h.r15_2
  · exact h.r36_2
  · exact h.r57_2
theorem Shp.ul4 {H : qS} {n : Nat} (h : Shp H) (hn : isT n) : H.2.1 (n + 10) = 48 := by
  rcases hn with rfl | rfl | rfl
  · exact h.l16
  · exact h.l37
  · exact h.l58
theorem Shp.u5 {H : qS} {n : Nat} (h : Shp H) (hn : isT n) : H.1 (n + 11) 2 = some (n + 12) := by
  rcases hn with rfl | rfl | rfl
  · exact h.r17_2
  · exact h.r38_2
  · exact h.r59_2
theorem Shp.ul5 {H : qS} {n : Nat} (h : Shp H) (hn : isT n) : H.2.1 (n + 12) = 16 := by
  rcases hn with rfl | rfl | rfl
  · exact h.l18
  · exact h.l39
  · exact h.l60
theorem Shp.u6 {H : qS} {n : Nat} (h : Shp H) (hn : isT n) : H.1 (n + 13) 2 = some (n + 14) := by
  rcases hn with rfl | rfl | rfl
  · exact h.r19_2
  · exact h.r40_2
  · exact h.r61_2
theorem Shp.ul6 {H : qS} {n : Nat} (h : Shp H) (hn : isT n) : H.2.1 (n + 14) = 48 := by
  rcases hn with rfl | rfl | rfl
  · exact h.l20
  · exact h.l41
  · exact h.l62
theorem Shp.u7 {H : qS} {n : Nat} (h : Shp H) (hn : isT n) : H.1 (n + 15) 2 = some (n + 16) := by
  rcases hn with rfl | rfl | rfl
  · exact h.r21_2
  · exact h.r42_2
  · exact h.r63_2
theorem Shp.ul7 {H : qS} {n : Nat} (h : Shp H) (hn : isT n) : H.2.1 (n + 16) = 40 := by
  rcases hn with rfl | rfl | rfl
  · exact h.l22
  · exact h.l43
  · exact h.l64
theorem Shp.tl17 {H : qS} {n : Nat} (h : Shp H) (hn : isT n) : H.2.1 (n + 17) = 5 := by
  rcases hn with rfl | rfl | rfl
  · exact h.l23
  · exact h.l44
  · exact h.l65
theorem Shp.tl18 {H : qS} {n : Nat} (h : Shp H) (hn : isT n) : H.2.1 (n + 18) = 100 := by
  rcases hn with rfl | rfl | rfl
  · exact h.l24
  · exact h.l45
  · exact h.l66
theorem Shp.tl19 {H : qS} {n : Nat} (h : Shp H) (hn : isT n) : H.2.1 (n + 19) = 100 := by
  rcases hn with rfl | rfl | rfl
  · exact h.l25
  · exact h.l46
  · exact h.l67
theorem Shp.tl20 {H : qS} {n : Nat} (h : Shp H) (hn : isT n) : H.2.1 (n + 20) = 6 := by
  rcases hn with rfl | rfl | rfl
  · exact h.l26
  · exact h.l47
  · exact h.l68
