/-! bytes that agree below n say the same -/
theorem fx_cg {q r : Int → Prop} {p n : Int} (h : ∀ i, p ≤ i → i < n → (q i ↔ r i)) : fx q p n = fx r p n := by
  unfold fx
  rw [fI_congr h]
theorem sk_cg {tb tc : Int → Int} {n p : Int} (h : ∀ j, 0 ≤ j → j < n → tb j = tc j) (h0 : 0 ≤ p) : sk tb n p = sk tc n p := fx_cg (fun i a b => by rw [h i (by omega) b])
theorem wE_cg {tb tc : Int → Int} {n p : Int} (h : ∀ j, 0 ≤ j → j < n → tb j = tc j) (h0 : 0 ≤ p) : wE tb n p = wE tc n p := fx_cg (fun i a b => by rw [h i (by omega) b])
theorem dE_cg {tb tc : Int → Int} {n p : Int} (h : ∀ j, 0 ≤ j → j < n → tb j = tc j) (h0 : 0 ≤ p) : dE tb n p = dE tc n p := fx_cg (fun i a b => by rw [h i (by omega) b])
theorem bhd_cg {tb tc : Int → Int} {n p : Int} (h : ∀ j, 0 ≤ j → j < n → tb j = tc j) (h0 : 0 ≤ p) (hp : p < n) : bhd tb n p = bhd tc n p := by
  unfold bhd
  rw [h p h0 hp, wE_cg h (by omega), dE_cg h (by omega)]
theorem nv_cg {tb tc : Int → Int} {n p : Int} (h : ∀ j, 0 ≤ j → j < n → tb j = tc j) (h0 : 0 ≤ p) : ∀ k : Nat, p + k ≤ n → nv tb p k = nv tc p k
  | 0, _ => rfl
  | k + 1, q => by
    show 10 * nv tb p k + tb (p + k) - 48 = 10 * nv tc p k + tc (p + k) - 48
    rw [nv_cg h h0 k (by omega), h (p + k) (by omega) (by omega)]
theorem wAt_cg {tb tc : Int → Int} {n p len : Int} (h : ∀ j, 0 ≤ j → j < n → tb j = tc j) (h0 : 0 ≤ p) (hl : p + len ≤ n) : ∀ (m : Nat) (i w fit : Int), -1 ≤ fit → wAt tb p len m i w fit = wAt tc p len m i w fit
  | 0, _, _, _, _ => rfl
  | m + 1, i, w, fit, hf => by
    unfold wAt
    rw [wAt_cg h h0 hl m (i + 1) (w + 1) 0 (by omega), wAt_cg h h0 hl m (i + 1) w (-1) (by omega), wAt_cg h h0 hl m (i + 1) w (fit + 1) (by omega)]
    by_cases a : sch 0 i = 32
    · rw [if_pos a, if_pos a]
    · rw [if_neg a, if_neg a]
      by_cases b : fit = -1
      · rw [if_pos b, if_pos b]
      · rw [if_neg b, if_neg b]
        by_cases c : fit < len
        · rw [h (p + fit) (by omega) (by omega)]
        · rw [if_neg (fun z => c z.1), if_neg (fun z => c z.1)]
theorem th_cg {tb tc : Int → Int} {n p : Int} (h : ∀ j, 0 ≤ j → j < n → tb j = tc j) (h0 : 0 ≤ p) (hp : p ≤ n) : th tb n p = th tc n p := by
  rcases Int.lt_or_eq_of_le hp with z | z
  · have b := bhd_bd (tb := tc) h0 z
    unfold th wdI nvI
    rw [bhd_cg h h0 z, h p h0 z, wAt_cg h h0 (by omega) 147 0 1000 0 (by omega), nv_cg h h0 _ (by omega)]
  · rw [z, th_e, th_e]
theorem nx_cg {tb tc : Int → Int} {n p : Int} (h : ∀ j, 0 ≤ j → j < n → tb j = tc j) (h0 : 0 ≤ p) (hp : p < n) : nx tb n p = nx tc n p := by
  have b := bhd_bd (tb := tc) h0 hp
  unfold nx
  rw [bhd_cg h h0 hp, sk_cg h (by omega)]
theorem TOK.cg {I : qI} {T : Nat} {tb tc : Int → Int} {n : Int} (k : TOK I T tb n) (h : ∀ j, 0 ≤ j → j < n → tb j = tc j) : TOK I T tc n := by
  obtain ⟨a1, a2, a3, a4, a5⟩ := k
  refine ⟨a1, a2.trans (sk_cg h (by omega)), fun j q0 q1 => ?_, fun j q0 q1 => ?_, a5⟩
  · have b := a3 j q0 q1
    exact ⟨b.1.trans (th_cg h b.2.1 b.2.2), b.2⟩
  · have b := a4 j q0 q1
    have c := a3 j q0 (by omega)
    exact ⟨b.1, b.2.trans (nx_cg h c.2.1 b.1)⟩
/-- the code so far -/
def COD (I : qI) (c : List Int) : Prop := I 72 5 = (c.length : Int) ∧ ∀ i : Nat, i < c.length → I 75 (i : Int) = c.getD i 0
theorem COD.fr {I J : qI} {c : List Int} (h : COD I c) (e : J 72 5 = I 72 5) (e2 : J 75 = I 75) : COD J c := by
  unfold COD at *
  rw [e, e2]
  exact h
theorem getD_l {c : List Int} {x : Int} {i : Nat} (h : i < c.length) : (c ++ [x]).getD i 0 = c.getD i 0 := by
  rw [List.getD_eq_getElem?_getD, List.getD_eq_getElem?_getD, List.getElem?_append_left h]
theorem getD_e {c : List Int} {x : Int} : (c ++ [x]).getD c.length 0 = x := by
  rw [List.getD_eq_getElem?_getD, List.getElem?_append_right (Nat.le_refl _), Nat.sub_self]
  rfl
theorem COD.put {I J : qI} {c : List Int} {x : Int} (h : COD I c) (e : J 72 5 = I 72 5 + 1) (f : J 75 = fun j => if j = I 72 5 then x else I 75 j) : COD J (c ++ [x]) := by
  have h1 := h.1
  refine ⟨by rw [e, h1, List.length_append]; rfl, fun i hi => ?_⟩
  rw [f, h1]
  show (if (i : Int) = (c.length : Int) then x else I 75 (i : Int)) = _
  rw [List.length_append] at hi
  by_cases z : i = c.length
  · rw [if_pos (by omega), z, getD_e]
  · have : i < c.length := by have : i < c.length + 1 := hi; omega
    rw [if_neg (by omega), getD_l this]
    exact h.2 i this
/-- the reading of a lease changes its reader alone -/
def FRL (I J : qI) : Prop := (∀ s, s ≠ 3 → s ≠ 5 → J 72 s = I 72 s) ∧ (∀ a, a ≠ 72 → a ≠ 75 → J a = I a)
theorem FRL.rf (I : qI) : FRL I I := ⟨fun _ _ _ => rfl, fun _ _ _ => rfl⟩
theorem FRL.tr {I J K : qI} (h : FRL I J) (g : FRL J K) : FRL I K := ⟨fun s a b => (g.1 s a b).trans (h.1 s a b), fun a q w => (g.2 a q w).trans (h.2 a q w)⟩
theorem FRL.tk {I J : qI} {tb : Int → Int} {n : Int} (f : FRL I J) (h : TOK I 72 tb n) : TOK J 72 tb n := h.fr (f.1 2 (by omega) (by omega)) (f.2 73 (by omega) (by omega)) (f.2 74 (by omega) (by omega))
theorem FRL.p5 {I J : qI} {p : Int} (f : ∀ s, s ≠ 5 → J 72 s = I 72 s) (g : ∀ a, a ≠ 72 → a ≠ 75 → J a = I a) (h : ATP I 72 p) : ATP J 72 p := by
  unfold ATP at *
  rw [f 3 (by omega), f 2 (by omega), g 74 (by omega) (by omega)]
  exact h
theorem rE_1 (w : Int) : (rE w).1 = w := rfl
theorem pPart_1 {tb : Int → Int} {n p : Int} (h : 0 ≤ th tb n p ∧ th tb n p ≤ 999) : pPart tb n p = (-1, [th tb n p], (fun _ => th tb n p), nx tb n p) := if_pos h
theorem pPart_2 {tb : Int → Int} {n p : Int} (h : 1016 ≤ th tb n p ∧ th tb n p ≤ 1020) : pPart tb n p = (-1, [1000 + (th tb n p - 1016)], (fun F => F (th tb n p - 1016)), nx tb n p) := (if_neg (by omega)).trans (if_pos h)
theorem pPart_3 {tb : Int → Int} {n p : Int} (h : ¬ (0 ≤ th tb n p ∧ th tb n p ≤ 999)) (h2 : ¬ (1016 ≤ th tb n p ∧ th tb n p ≤ 1020)) : pPart tb n p = rE p := (if_neg h).trans (if_neg h2)
theorem s_3_put {d : Nat} {P : Option qV → qH → Prop} {X : Nat → qH → Prop} {I : qI} {H : qS} (hd : 1 ≤ d) {c : List Int} {v9 : Int} (hS : Shp H) (hco : COD I c) (hcl : c.length < 800) (h : ∀ J : qI, COD J (c ++ [v9]) → (∀ s, s ≠ 5 → J 72 s = I 72 s) → (∀ a, a ≠ 72 → a ≠ 75 → J a = I a) → P none (J, H)) :
    Call d 40 [vr (some 72) 3, vi v9] (I, H) P X := by
  obtain ⟨d, rfl⟩ : ∃ e, d = e + 1 := ⟨d - 1, by omega⟩
  have hl75 := hS.l75
  obtain ⟨k, hk⟩ : ∃ k : Int, I 72 5 = k := ⟨_, rfl⟩
  have hck : (c.length : Int) = k := hco.1.symm.trans hk
  show WP (Call d) 40 P X (0, [some (vr (some 72) 3), some (vi v9)], [], (I, H), 0, 0)
  refine WP.go 2 (And.intro rfl (?_))
  refine rw_i (Q := fun x9 => WP (Call d) 40 P X (2, [some (vr (some 72) 3), some (vi v9)], [vi x9], (I, H), 0, 0)) hk ?_
  show WP (Call d) 40 P X (2, [some (vr (some 72) 3), some (vi v9)], [vi k], (I, H), 0, 0)
  refine WP.go 1 (And.intro (fun (b2 : k < 0) => (absurd b2 (by omega))) (fun (b2 : ¬ k < 0) => ?_))
  show WP (Call d) 40 P X (3, [some (vr (some 72) 3), some (vi v9)], [], (I, H), 0, 0)
  refine WP.go 2 (And.intro rfl (?_))
  refine rw_i (Q := fun x9 => WP (Call d) 40 P X (5, [some (vr (some 72) 3), some (vi v9)], [vi x9], (I, H), 0, 0)) hk ?_
  show WP (Call d) 40 P X (5, [some (vr (some 72) 3), some (vi v9)], [vi k], (I, H), 0, 0)
  refine WP.go 4 (And.intro rfl (Exists.intro 75 (And.intro hS.r72_4 (And.intro (Or.inl rfl) (And.intro (fun (b8 : ¬ k < H.2.1 75) => (absurd b8 (by omega))) (fun (b8 : k < H.2.1 75) => ?_))))))
  show WP (Call d) 40 P X (9, [some (vr (some 72) 3), some (vi v9)], [], (I, H), 0, 0)
  refine WP.go 4 (And.intro rfl (Exists.intro 75 (And.intro hS.r72_4 (And.intro rfl (?_)))))
  refine rw_i (Q := fun x9 => WP (Call d) 40 P X (13, [some (vr (some 72) 3), some (vi v9)], [vi x9, vr (some 75) 11], (I, H), 0, 0)) hk ?_
  show WP (Call d) 40 P X (13, [some (vr (some 72) 3), some (vi v9)], [vi k, vr (some 75) 11], (I, H), 0, 0)
  refine WP.go 5 (And.intro (And.intro rfl (And.intro (show 0 ≤ k from by omega) (show k < H.2.1 75 from by omega))) (And.intro rfl (?_)))
  refine rw_i (Q := fun x9 => WP (Call d) 40 P X (18, [some (vr (some 72) 3), some (vi v9)], [vi x9, vr (some 72) 3], ((upI I 75 k v9), H), 0, 0)) hk ?_
  show WP (Call d) 40 P X (18, [some (vr (some 72) 3), some (vi v9)], [vi k, vr (some 72) 3], ((upI I 75 k v9), H), 0, 0)
  refine WP.go 4 (Exists.intro (k + 1) (And.intro (wrp_a (by omega) (by omega)) (And.intro (And.intro rfl trivial) (And.intro (And.intro (Nat.le_of_ble_eq_true rfl) (Nat.le_of_ble_eq_true rfl)) (?_)))))
  show P none ((upI (upI I 75 k v9) 72 5 (k + 1)), H)
  exact h _ (hco.put ((upI_same _ _ _ _).trans (by rw [hk])) (by rw [upI_cell (by omega), upI_self, hk])) (fun s q => by rw [upI_at (.inr q), upI_cell (by omega)]) (fun a q1 q2 => by rw [upI_cell q1, upI_cell q2])

def J9 (i : Int) (r s : RS) : RS := if i = 0 then s else (-1, r.2.1 ++ s.2.1 ++ [2000], (fun F => r.2.2.1 F + s.2.2.1 F), s.2.2.2)
theorem J9_1 {i : Int} {r s : RS} (h : s.1 = -1) : (J9 i r s).1 = -1 := by
  unfold J9
  split
  · exact h
  · rfl
theorem J9_p (i : Int) (r s : RS) : (J9 i r s).2.2.2 = s.2.2.2 := by
  unfold J9
  split <;> rfl
noncomputable def PS (tb : Int → Int) (n i q : Int) (r : RS) : RS := if (pPart tb n q).1 ≠ -1 then rE (pPart tb n q).1 else pLo tb n 2043 2000 (fun a b => a + b) (pPart tb n) (400 - i).toNat (J9 i r (pPart tb n q))
theorem pPart_rE {tb : Int → Int} {n q : Int} (h : (pPart tb n q).1 ≠ -1) : pPart tb n q = rE q := by
  unfold pPart at *
  split
  · rename_i z; rw [if_pos z] at h; exact absurd rfl h
  · rename_i z
    rw [if_neg z] at h
    split
    · rename_i w; rw [if_pos w] at h; exact absurd rfl h
    · rfl
theorem PS_0 (tb : Int → Int) (n p : Int) (r : RS) : pSum tb n p = PS tb n 0 p r := by
  unfold PS pSum
  by_cases e : (pPart tb n p).1 ≠ -1
  · rw [if_pos e, pLo_e 400 e, pPart_rE e]; rfl
  · rw [if_neg e]; rfl
theorem PS_x {tb : Int → Int} {n i q : Int} {r : RS} (h : ¬ (0 ≤ th tb n q ∧ th tb n q ≤ 999)) (h2 : ¬ (1016 ≤ th tb n q ∧ th tb n q ≤ 1020)) (hq : 0 ≤ q) : PS tb n i q r = rE q := by
  unfold PS
  rw [pPart_3 h h2, if_pos (by show q ≠ -1; omega)]
  rfl
theorem PS_e {tb : Int → Int} {n i q : Int} {r s : RS} (hs : pPart tb n q = s) (h : s.1 = -1) (h2 : th tb n s.2.2.2 ≠ 2043) : PS tb n i q r = J9 i r s := by
  unfold PS
  rw [hs, if_neg (fun z => z h)]
  exact pLo_n _ (J9_1 h) (by rw [J9_p]; exact h2)
theorem PS_s {tb : Int → Int} {n i q : Int} {r s : RS} (hs : pPart tb n q = s) (hi : 0 ≤ i ∧ i < 400) (h : s.1 = -1) (h2 : th tb n s.2.2.2 = 2043) : PS tb n i q r = PS tb n (i + 1) (nx tb n s.2.2.2) (J9 i r s) := by
  have e : PS tb n i q r = pLo tb n 2043 2000 (fun a b => a + b) (pPart tb n) (400 - i).toNat (J9 i r s) := by unfold PS; rw [hs, if_neg (fun z => z h)]
  have hp := J9_p i r s
  have h3 : th tb n (J9 i r s).2.2.2 = 2043 := by rw [hp]; exact h2
  rw [e]
  unfold PS
  by_cases x : (pPart tb n (nx tb n s.2.2.2)).1 ≠ -1
  · rw [if_pos x, pLo_x hi.2 (J9_1 h) h3 (by rw [hp]; exact x), hp]
  · rw [if_neg x, pLo_y hi.2 (J9_1 h) h3 (by rw [hp]; exact Classical.not_not.mp x), hp]
    rw [show J9 (i + 1) (J9 i r s) (pPart tb n (nx tb n s.2.2.2)) = _ from if_neg (by omega)]
/-- the code, in the midst of a sum -/
def CC (c c9 : List Int) (i : Int) (r : RS) : Prop := ∀ s : RS, c9 ++ s.2.1 ++ (if i = 0 then [] else [2000]) = c ++ (J9 i r s).2.1
theorem CC_0 (c : List Int) (r : RS) : CC c c 0 r := fun s => List.append_nil _
theorem CC_s {c c9 : List Int} {i : Int} {r : RS} (hi : 0 ≤ i) (h : CC c c9 i r) (s : RS) : CC c (c9 ++ s.2.1 ++ (if i = 0 then [] else [2000])) (i + 1) (J9 i r s) := fun t => by
  rw [if_neg (show ¬ i + 1 = 0 by omega), h s, show J9 (i + 1) (J9 i r s) t = _ from if_neg (by omega)]
  simp only [List.append_assoc]
theorem s_3_readSum {d : Nat} {P : Option qV → qH → Prop} {X : Nat → qH → Prop} {I : qI} {H : qS} (hd : 2 ≤ d) {tb : Int → Int} {n p : Int} {c : List Int} (hS : Shp H) (hK : TOK I 72 tb n) (hat : ATP I 72 p) (hco : COD I c) (hcl : (c.length : Int) ≤ 2 * p) (hn4 : n ≤ 400) (h : ((pSum tb n p).1 ≠ -1 → ∀ J : qI, ATP J 72 (pSum tb n p).1 → FRL I J → P (some (vi 0)) (J, H)) ∧ ((pSum tb n p).1 = -1 → ∀ J : qI, ATP J 72 (pSum tb n p).2.2.2 → COD J (c ++ (pSum tb n p).2.1) → FRL I J → P (some (vi 1)) (J, H))) :
    Call d 48 [vr (some 72) 3] (I, H) P X := by
  obtain ⟨d, rfl⟩ : ∃ e, d = e + 1 := ⟨d - 1, by omega⟩
  have hu := FRL.rf I
  have hpb := (hK.at hat).2
  show WP (Call d) 48 P X (0, [some (vr (some 72) 3), none, none, none], [], (I, H), 0, 0)
  refine WP.go 2 ?_
  show WP (Call d) 48 P X (2, [some (vr (some 72) 3), some (vi 0), none, none], [], (I, H), 0, 0)
  have lp2 : ∀ (n9 : Nat) (K : qI) (i : Int) (q9 : Int) (c9 : List Int) (r9 : RS) (hm : 400 - i < (n9 : Int)) (kv0 : 0 ≤ i ∧ i ≤ 400 ∧ i ≤ q9) (kv1 : TOK K 72 tb n) (kv2 : ATP K 72 q9) (kv3 : COD K c9) (kv4 : FRL I K) (kv5 : pSum tb n p = PS tb n i q9 r9) (kv6 : CC c c9 i r9) (kv7 : (c9.length : Int) ≤ 2 * q9), WP (Call d) 48 P X (2, [some (vr (some 72) 3), some (vi i), none, none], [], (K, H), 0, 0) := by
    intro n9
    induction n9 with
    | zero => intro K i q9 c9 r9 hm kv0 kv1 kv2 kv3 kv4 kv5 kv6 kv7; exact absurd hm (by omega)
    | succ n9 ih2 =>
      intro K i q9 c9 r9 hm kv0 kv1 kv2 kv3 kv4 kv5 kv6 kv7
      have qb9 := (kv1.at kv2).2
      refine WP.go 3 (And.intro (fun (b4 : ¬ i < 400) => ?_) (fun (b4 : i < 400) => ?_))
      ·
        show WP (Call d) 48 P X (45, [some (vr (some 72) 3), some (vi i), none, none], [], (K, H), 0, 0)
        refine WP.go 2 (And.intro (And.intro (Nat.le_of_ble_eq_true rfl) (Nat.le_of_ble_eq_true rfl)) (And.intro (Or.inl rfl) (?_)))
        show P (some (vi 0)) (K, H)
        have t9 : th tb n q9 = 3000 := by rw [show q9 = n by omega]; exact th_e tb n
        have r8 : pSum tb n p = rE q9 := kv5.trans (PS_x (by omega) (by omega) (by omega))
        exact h.1 (by rw [r8]; show q9 ≠ -1; omega) _ (by rw [r8]; exact kv2) kv4
      ·
        show WP (Call d) 48 P X (5, [some (vr (some 72) 3), some (vi i), none, none], [], (K, H), 0, 0)
        refine WP.go 4 (And.intro (And.intro (Nat.le_of_ble_eq_true rfl) (Nat.le_of_ble_eq_true rfl)) (And.intro rfl (?_)))
        show Call d 82 [vr (some 72) 3, vi 0, vi 999] (K, H) _ _
        refine s_7_take_T72 (by omega) hS kv1 kv2 (by omega) ⟨(fun q8 J8 e8 f8 g8 => ?_), (fun q8_1 => ?_)⟩
        ·
          show WP (Call d) 48 P X (9, [some (vr (some 72) 3), some (vi i), none, none], [vi (th tb n q9)], (J8, H), 0, 0)
          have nb9 := nx_bd (tb := tb) (n := n) (p := q9) (kv1.at kv2).2.1 (th_lt (tb := tb) (kv1.at kv2).2.2 (by have w9 := q8; omega))
          have hK_1 : TOK J8 72 tb n := kv1.fr (e8 2 (by omega)) (f8 73 (by omega)) (f8 74 (by omega))
          have hat_2 : ATP J8 72 (nx tb n q9) := g8
          have pb9 := (hK_1.at hat_2).2
          have hco_3 : COD J8 c9 := kv3.fr (e8 5 (by omega)) (f8 75 (by omega))
          have hu_4 : FRL I J8 := kv4.tr ⟨fun s9 a9 _ => e8 s9 a9, fun a9 q9 _ => f8 a9 q9⟩
          refine WP.go 4 (And.intro (fun (b12 : ¬ th tb n q9 = (-1)) => ?_) (fun (b12 : th tb n q9 = (-1)) => (absurd b12 (by omega))))
          show WP (Call d) 48 P X (29, [some (vr (some 72) 3), some (vi i), some (vi (th tb n q9)), none], [], (J8, H), 0, 0)
          refine WP.go 3 (And.intro (And.intro (Nat.le_of_ble_eq_true rfl) (Nat.le_of_ble_eq_true rfl)) (And.intro rfl (?_)))
          show Call d 40 [vr (some 72) 3, vi (th tb n q9)] (J8, H) _ _
          refine s_3_put (by omega) hS hco_3 (by (try simp only [List.length_append, List.length_cons, List.length_nil]); omega) (fun J31 e31 f31 g31 => ?_)
          show WP (Call d) 48 P X (32, [some (vr (some 72) 3), some (vi i), some (vi (th tb n q9)), none], [], (J31, H), 0, 0)
          have hK_5 : TOK J31 72 tb n := hK_1.fr (f31 2 (by omega)) (g31 73 (by omega) (by omega)) (g31 74 (by omega) (by omega))
          have hat_6 : ATP J31 72 (nx tb n q9) := FRL.p5 f31 g31 hat_2
          have hco_7 : COD J31 (c9 ++ [(th tb n q9)]) := e31
          have hu_8 : FRL I J31 := hu_4.tr ⟨fun s9 _ b9 => f31 s9 b9, g31⟩
          refine WP.go 2 (And.intro (fun (b33 : ¬ 0 < i) => ?_) (fun (b33 : 0 < i) => ?_))
          ·
            show WP (Call d) 48 P X (37, [some (vr (some 72) 3), some (vi i), some (vi (th tb n q9)), none], [], (J31, H), 0, 0)
            refine WP.go 3 (And.intro (And.intro (Nat.le_of_ble_eq_true rfl) (Nat.le_of_ble_eq_true rfl)) (And.intro rfl (?_)))
            show Call d 81 [vr (some 72) 3, vi 2043] (J31, H) _ _
            refine s_skip_T72 (by omega) hS hK_5 hat_6 (by omega) ⟨(fun q39 J39 e39 f39 g39 => ?_), (fun q39_1 => ?_)⟩
            ·
              show WP (Call d) 48 P X (40, [some (vr (some 72) 3), some (vi i), some (vi (th tb n q9)), none], [vi 1], (J39, H), 0, 0)
              have nb9 := nx_bd (tb := tb) (n := n) (p := (nx tb n q9)) (hK_5.at hat_6).2.1 (th_lt (tb := tb) (hK_5.at hat_6).2.2 (by have w9 := q39; omega))
              have hK_9 : TOK J39 72 tb n := hK_5.fr (e39 2 (by omega)) (f39 73 (by omega)) (f39 74 (by omega))
              have hat_10 : ATP J39 72 (nx tb n (nx tb n q9)) := g39
              have pb9 := (hK_9.at hat_10).2
              have hco_11 : COD J39 (c9 ++ [(th tb n q9)]) := hco_7.fr (e39 5 (by omega)) (f39 75 (by omega))
              have hu_12 : FRL I J39 := hu_8.tr ⟨fun s9 a9 _ => e39 s9 a9, fun a9 q9 _ => f39 a9 q9⟩
              refine WP.go 1 (And.intro (fun (b40 : ¬ 1 = 0) => ?_) (fun (b40 : 1 = 0) => (absurd b40 (by omega))))
              show WP (Call d) 48 P X (43, [some (vr (some 72) 3), some (vi i), some (vi (th tb n q9)), none], [], (J39, H), 0, 0)
              refine WP.go 2 (Exists.intro (i + 1) (And.intro (wrp_a (by omega) (by omega)) (?_)))
              show WP (Call d) 48 P X (2, [some (vr (some 72) 3), some (vi (i + 1)), some (vi (th tb n q9)), none], [], (J39, H), 0, 0)
              refine WP.wk (L := [some (vr (some 72) 3), some (vi (i + 1)), none, none]) (And.intro rfl (And.intro rfl (And.intro trivial (And.intro trivial (trivial))))) ?_
              show WP (Call d) 48 P X (2, [some (vr (some 72) 3), some (vi (i + 1)), none, none], [], (J39, H), 0, 0)
              exact ih2 J39 (i + 1) _ _ _ (by omega) (by omega) hK_9 hat_10 hco_11 hu_12 (kv5.trans (PS_s (r := r9) (s := ((-1, [th tb n q9], (fun _ => th tb n q9), nx tb n q9) : RS)) (pPart_1 q8) (by omega) rfl q39)) (by have w := CC_s (by omega) kv6 ((-1, [th tb n q9], (fun _ => th tb n q9), nx tb n q9) : RS); rw [if_pos (by omega), List.append_nil] at w; exact w) (by (try simp only [List.length_append, List.length_cons, List.length_nil]); omega)
            ·
              show WP (Call d) 48 P X (40, [some (vr (some 72) 3), some (vi i), some (vi (th tb n q9)), none], [vi 0], (J31, H), 0, 0)
              refine WP.go 1 (And.intro (fun (b40 : ¬ 0 = 0) => (absurd b40 (by omega))) (fun (b40 : 0 = 0) => ?_))
              show WP (Call d) 48 P X (41, [some (vr (some 72) 3), some (vi i), some (vi (th tb n q9)), none], [], (J31, H), 0, 0)
              refine WP.go 2 (And.intro (And.intro (Nat.le_of_ble_eq_true rfl) (Nat.le_of_ble_eq_true rfl)) (And.intro (Or.inr rfl) (?_)))
              show P (some (vi 1)) (J31, H)
              have r8 : pSum tb n p = J9 i r9 ((-1, [th tb n q9], (fun _ => th tb n q9), nx tb n q9) : RS) := kv5.trans (PS_e (s := ((-1, [th tb n q9], (fun _ => th tb n q9), nx tb n q9) : RS)) (pPart_1 q8) rfl q39_1)
              have cw := kv6 ((-1, [th tb n q9], (fun _ => th tb n q9), nx tb n q9) : RS)
              rw [if_pos (by omega), List.append_nil] at cw
              exact h.2 (by rw [r8]; exact J9_1 rfl) _ (by rw [r8, J9_p]; exact hat_6) (by rw [r8, ← cw]; exact hco_7) hu_8
          ·
            show WP (Call d) 48 P X (34, [some (vr (some 72) 3), some (vi i), some (vi (th tb n q9)), none], [], (J31, H), 0, 0)
            refine WP.go 3 (And.intro (And.intro (Nat.le_of_ble_eq_true rfl) (Nat.le_of_ble_eq_true rfl)) (And.intro rfl (?_)))
            show Call d 40 [vr (some 72) 3, vi 2000] (J31, H) _ _
            refine s_3_put (by omega) hS hco_7 (by (try simp only [List.length_append, List.length_cons, List.length_nil]); omega) (fun J36 e36 f36 g36 => ?_)
            show WP (Call d) 48 P X (37, [some (vr (some 72) 3), some (vi i), some (vi (th tb n q9)), none], [], (J36, H), 0, 0)
            have hK_13 : TOK J36 72 tb n := hK_5.fr (f36 2 (by omega)) (g36 73 (by omega) (by omega)) (g36 74 (by omega) (by omega))
            have hat_14 : ATP J36 72 (nx tb n q9) := FRL.p5 f36 g36 hat_6
            have hco_15 : COD J36 ((c9 ++ [(th tb n q9)]) ++ [2000]) := e36
            have hu_16 : FRL I J36 := hu_8.tr ⟨fun s9 _ b9 => f36 s9 b9, g36⟩
            refine WP.go 3 (And.intro (And.intro (Nat.le_of_ble_eq_true rfl) (Nat.le_of_ble_eq_true rfl)) (And.intro rfl (?_)))
            show Call d 81 [vr (some 72) 3, vi 2043] (J36, H) _ _
            refine s_skip_T72 (by omega) hS hK_13 hat_14 (by omega) ⟨(fun q39_2 J39_1 e39_1 f39_1 g39_1 => ?_), (fun q39_3 => ?_)⟩
            ·
              show WP (Call d) 48 P X (40, [some (vr (some 72) 3), some (vi i), some (vi (th tb n q9)), none], [vi 1], (J39_1, H), 0, 0)
              have nb9 := nx_bd (tb := tb) (n := n) (p := (nx tb n q9)) (hK_13.at hat_14).2.1 (th_lt (tb := tb) (hK_13.at hat_14).2.2 (by have w9 := q39_2; omega))
              have hK_17 : TOK J39_1 72 tb n := hK_13.fr (e39_1 2 (by omega)) (f39_1 73 (by omega)) (f39_1 74 (by omega))
              have hat_18 : ATP J39_1 72 (nx tb n (nx tb n q9)) := g39_1
              have pb9 := (hK_17.at hat_18).2
              have hco_19 : COD J39_1 ((c9 ++ [(th tb n q9)]) ++ [2000]) := hco_15.fr (e39_1 5 (by omega)) (f39_1 75 (by omega))
              have hu_20 : FRL I J39_1 := hu_16.tr ⟨fun s9 a9 _ => e39_1 s9 a9, fun a9 q9 _ => f39_1 a9 q9⟩
              refine WP.go 1 (And.intro (fun (b40 : ¬ 1 = 0) => ?_) (fun (b40 : 1 = 0) => (absurd b40 (by omega))))
              show WP (Call d) 48 P X (43, [some (vr (some 72) 3), some (vi i), some (vi (th tb n q9)), none], [], (J39_1, H), 0, 0)
              refine WP.go 2 (Exists.intro (i + 1) (And.intro (wrp_a (by omega) (by omega)) (?_)))
              show WP (Call d) 48 P X (2, [some (vr (some 72) 3), some (vi (i + 1)), some (vi (th tb n q9)), none], [], (J39_1, H), 0, 0)
              refine WP.wk (L := [some (vr (some 72) 3), some (vi (i + 1)), none, none]) (And.intro rfl (And.intro rfl (And.intro trivial (And.intro trivial (trivial))))) ?_
              show WP (Call d) 48 P X (2, [some (vr (some 72) 3), some (vi (i + 1)), none, none], [], (J39_1, H), 0, 0)
              exact ih2 J39_1 (i + 1) _ _ _ (by omega) (by omega) hK_17 hat_18 hco_19 hu_20 (kv5.trans (PS_s (r := r9) (s := ((-1, [th tb n q9], (fun _ => th tb n q9), nx tb n q9) : RS)) (pPart_1 q8) (by omega) rfl q39_2)) (by have w := CC_s (by omega) kv6 ((-1, [th tb n q9], (fun _ => th tb n q9), nx tb n q9) : RS); rw [if_neg (by omega)] at w; exact w) (by (try simp only [List.length_append, List.length_cons, List.length_nil]); omega)
            ·
              show WP (Call d) 48 P X (40, [some (vr (some 72) 3), some (vi i), some (vi (th tb n q9)), none], [vi 0], (J36, H), 0, 0)
              refine WP.go 1 (And.intro (fun (b40 : ¬ 0 = 0) => (absurd b40 (by omega))) (fun (b40 : 0 = 0) => ?_))
              show WP (Call d) 48 P X (41, [some (vr (some 72) 3), some (vi i), some (vi (th tb n q9)), none], [], (J36, H), 0, 0)
              refine WP.go 2 (And.intro (And.intro (Nat.le_of_ble_eq_true rfl) (Nat.le_of_ble_eq_true rfl)) (And.intro (Or.inr rfl) (?_)))
              show P (some (vi 1)) (J36, H)
              have r8 : pSum tb n p = J9 i r9 ((-1, [th tb n q9], (fun _ => th tb n q9), nx tb n q9) : RS) := kv5.trans (PS_e (s := ((-1, [th tb n q9], (fun _ => th tb n q9), nx tb n q9) : RS)) (pPart_1 q8) rfl q39_3)
              have cw := kv6 ((-1, [th tb n q9], (fun _ => th tb n q9), nx tb n q9) : RS)
              rw [if_neg (by omega)] at cw
              exact h.2 (by rw [r8]; exact J9_1 rfl) _ (by rw [r8, J9_p]; exact hat_14) (by rw [r8, ← cw]; exact hco_15) hu_16
        ·
          show WP (Call d) 48 P X (9, [some (vr (some 72) 3), some (vi i), none, none], [vi (-1)], (K, H), 0, 0)
          refine WP.go 4 (And.intro (fun (b12 : ¬ (-1) = (-1)) => (absurd b12 (by omega))) (fun (b12 : (-1) = (-1)) => ?_))
          show WP (Call d) 48 P X (13, [some (vr (some 72) 3), some (vi i), some (vi (-1)), none], [], (K, H), 0, 0)
          refine WP.go 4 (And.intro (And.intro (Nat.le_of_ble_eq_true rfl) (Nat.le_of_ble_eq_true rfl)) (And.intro rfl (?_)))
          show Call d 82 [vr (some 72) 3, vi 1016, vi 1020] (K, H) _ _
          refine s_7_take_T72 (by omega) hS kv1 kv2 (by omega) ⟨(fun q16 J16 e16 f16 g16 => ?_), (fun q16_1 => ?_)⟩
          ·
            show WP (Call d) 48 P X (17, [some (vr (some 72) 3), some (vi i), some (vi (-1)), none], [vi (th tb n q9)], (J16, H), 0, 0)
            have nb9 := nx_bd (tb := tb) (n := n) (p := q9) (kv1.at kv2).2.1 (th_lt (tb := tb) (kv1.at kv2).2.2 (by have w9 := q16; omega))
            have hK_21 : TOK J16 72 tb n := kv1.fr (e16 2 (by omega)) (f16 73 (by omega)) (f16 74 (by omega))
            have hat_22 : ATP J16 72 (nx tb n q9) := g16
            have pb9 := (hK_21.at hat_22).2
            have hco_23 : COD J16 c9 := kv3.fr (e16 5 (by omega)) (f16 75 (by omega))
            have hu_24 : FRL I J16 := kv4.tr ⟨fun s9 a9 _ => e16 s9 a9, fun a9 q9 _ => f16 a9 q9⟩
            refine WP.go 4 (And.intro (fun (b20 : ¬ th tb n q9 = (-1)) => ?_) (fun (b20 : th tb n q9 = (-1)) => (absurd b20 (by omega))))
            show WP (Call d) 48 P X (23, [some (vr (some 72) 3), some (vi i), some (vi (-1)), some (vi (th tb n q9))], [], (J16, H), 0, 0)
            refine WP.go 9 (Exists.intro (1000 + (th tb n q9)) (And.intro (wrp_a (by omega) (by omega)) (Exists.intro ((1000 + (th tb n q9)) - 1016) (And.intro (wrp_a (by omega) (by omega)) (And.intro (And.intro (Nat.le_of_ble_eq_true rfl) (Nat.le_of_ble_eq_true rfl)) (And.intro rfl (?_)))))))
            show Call d 40 [vr (some 72) 3, vi ((1000 + (th tb n q9)) - 1016)] (J16, H) _ _
            refine s_3_put (by omega) hS hco_23 (by (try simp only [List.length_append, List.length_cons, List.length_nil]); omega) (fun J31_1 e31_1 f31_1 g31_1 => ?_)
            show WP (Call d) 48 P X (32, [some (vr (some 72) 3), some (vi i), some (vi ((1000 + (th tb n q9)) - 1016)), some (vi (th tb n q9))], [], (J31_1, H), 0, 0)
            have hK_25 : TOK J31_1 72 tb n := hK_21.fr (f31_1 2 (by omega)) (g31_1 73 (by omega) (by omega)) (g31_1 74 (by omega) (by omega))
            have hat_26 : ATP J31_1 72 (nx tb n q9) := FRL.p5 f31_1 g31_1 hat_22
            have hco_27 : COD J31_1 (c9 ++ [((1000 + (th tb n q9)) - 1016)]) := e31_1
            have hu_28 : FRL I J31_1 := hu_24.tr ⟨fun s9 _ b9 => f31_1 s9 b9, g31_1⟩
            have hco_29 : COD J31_1 (c9 ++ [(1000 + (th tb n q9 - 1016))]) := by rw [show (1000 + (th tb n q9 - 1016)) = ((1000 + (th tb n q9)) - 1016) by omega]; exact hco_27
            refine WP.go 2 (And.intro (fun (b33 : ¬ 0 < i) => ?_) (fun (b33 : 0 < i) => ?_))
            ·
              show WP (Call d) 48 P X (37, [some (vr (some 72) 3), some (vi i), some (vi ((1000 + (th tb n q9)) - 1016)), some (vi (th tb n q9))], [], (J31_1, H), 0, 0)
              refine WP.go 3 (And.intro (And.intro (Nat.le_of_ble_eq_true rfl) (Nat.le_of_ble_eq_true rfl)) (And.intro rfl (?_)))
              show Call d 81 [vr (some 72) 3, vi 2043] (J31_1, H) _ _
              refine s_skip_T72 (by omega) hS hK_25 hat_26 (by omega) ⟨(fun q39_4 J39_2 e39_2 f39_2 g39_2 => ?_), (fun q39_5 => ?_)⟩
              ·
                show WP (Call d) 48 P X (40, [some (vr (some 72) 3), some (vi i), some (vi ((1000 + (th tb n q9)) - 1016)), some (vi (th tb n q9))], [vi 1], (J39_2, H), 0, 0)
                have nb9 := nx_bd (tb := tb) (n := n) (p := (nx tb n q9)) (hK_25.at hat_26).2.1 (th_lt (tb := tb) (hK_25.at hat_26).2.2 (by have w9 := q39_4; omega))
                have hK_30 : TOK J39_2 72 tb n := hK_25.fr (e39_2 2 (by omega)) (f39_2 73 (by omega)) (f39_2 74 (by omega))
                have hat_31 : ATP J39_2 72 (nx tb n (nx tb n q9)) := g39_2
                have pb9 := (hK_30.at hat_31).2
                have hco_32 : COD J39_2 (c9 ++ [(1000 + (th tb n q9 - 1016))]) := hco_29.fr (e39_2 5 (by omega)) (f39_2 75 (by omega))
                have hu_33 : FRL I J39_2 := hu_28.tr ⟨fun s9 a9 _ => e39_2 s9 a9, fun a9 q9 _ => f39_2 a9 q9⟩
                refine WP.go 1 (And.intro (fun (b40 : ¬ 1 = 0) => ?_) (fun (b40 : 1 = 0) => (absurd b40 (by omega))))
                show WP (Call d) 48 P X (43, [some (vr (some 72) 3), some (vi i), some (vi ((1000 + (th tb n q9)) - 1016)), some (vi (th tb n q9))], [], (J39_2, H), 0, 0)
                refine WP.go 2 (Exists.intro (i + 1) (And.intro (wrp_a (by omega) (by omega)) (?_)))
                show WP (Call d) 48 P X (2, [some (vr (some 72) 3), some (vi (i + 1)), some (vi ((1000 + (th tb n q9)) - 1016)), some (vi (th tb n q9))], [], (J39_2, H), 0, 0)
                refine WP.wk (L := [some (vr (some 72) 3), some (vi (i + 1)), none, none]) (And.intro rfl (And.intro rfl (And.intro trivial (And.intro trivial (trivial))))) ?_
                show WP (Call d) 48 P X (2, [some (vr (some 72) 3), some (vi (i + 1)), none, none], [], (J39_2, H), 0, 0)
                exact ih2 J39_2 (i + 1) _ _ _ (by omega) (by omega) hK_30 hat_31 hco_32 hu_33 (kv5.trans (PS_s (r := r9) (s := ((-1, [1000 + (th tb n q9 - 1016)], (fun F => F (th tb n q9 - 1016)), nx tb n q9) : RS)) (pPart_2 q16) (by omega) rfl q39_4)) (by have w := CC_s (by omega) kv6 ((-1, [1000 + (th tb n q9 - 1016)], (fun F => F (th tb n q9 - 1016)), nx tb n q9) : RS); rw [if_pos (by omega), List.append_nil] at w; exact w) (by (try simp only [List.length_append, List.length_cons, List.length_nil]); omega)
              ·
                show WP (Call d) 48 P X (40, [some (vr (some 72) 3), some (vi i), some (vi ((1000 + (th tb n q9)) - 1016)), some (vi (th tb n q9))], [vi 0], (J31_1, H), 0, 0)
                refine WP.go 1 (And.intro (fun (b40 : ¬ 0 = 0) => (absurd b40 (by omega))) (fun (b40 : 0 = 0) => ?_))
                show WP (Call d) 48 P X (41, [some (vr (some 72) 3), some (vi i), some (vi ((1000 + (th tb n q9)) - 1016)), some (vi (th tb n q9))], [], (J31_1, H), 0, 0)
                refine WP.go 2 (And.intro (And.intro (Nat.le_of_ble_eq_true rfl) (Nat.le_of_ble_eq_true rfl)) (And.intro (Or.inr rfl) (?_)))
                show P (some (vi 1)) (J31_1, H)
                have r8 : pSum tb n p = J9 i r9 ((-1, [1000 + (th tb n q9 - 1016)], (fun F => F (th tb n q9 - 1016)), nx tb n q9) : RS) := kv5.trans (PS_e (s := ((-1, [1000 + (th tb n q9 - 1016)], (fun F => F (th tb n q9 - 1016)), nx tb n q9) : RS)) (pPart_2 q16) rfl q39_5)
                have cw := kv6 ((-1, [1000 + (th tb n q9 - 1016)], (fun F => F (th tb n q9 - 1016)), nx tb n q9) : RS)
                rw [if_pos (by omega), List.append_nil] at cw
                exact h.2 (by rw [r8]; exact J9_1 rfl) _ (by rw [r8, J9_p]; exact hat_26) (by rw [r8, ← cw]; exact hco_29) hu_28
            ·
              show WP (Call d) 48 P X (34, [some (vr (some 72) 3), some (vi i), some (vi ((1000 + (th tb n q9)) - 1016)), some (vi (th tb n q9))], [], (J31_1, H), 0, 0)
              refine WP.go 3 (And.intro (And.intro (Nat.le_of_ble_eq_true rfl) (Nat.le_of_ble_eq_true rfl)) (And.intro rfl (?_)))
              show Call d 40 [vr (some 72) 3, vi 2000] (J31_1, H) _ _
              refine s_3_put (by omega) hS hco_29 (by (try simp only [List.length_append, List.length_cons, List.length_nil]); omega) (fun J36_1 e36_1 f36_1 g36_1 => ?_)
              show WP (Call d) 48 P X (37, [some (vr (some 72) 3), some (vi i), some (vi ((1000 + (th tb n q9)) - 1016)), some (vi (th tb n q9))], [], (J36_1, H), 0, 0)
              have hK_34 : TOK J36_1 72 tb n := hK_25.fr (f36_1 2 (by omega)) (g36_1 73 (by omega) (by omega)) (g36_1 74 (by omega) (by omega))
              have hat_35 : ATP J36_1 72 (nx tb n q9) := FRL.p5 f36_1 g36_1 hat_26
              have hco_36 : COD J36_1 ((c9 ++ [(1000 + (th tb n q9 - 1016))]) ++ [2000]) := e36_1
              have hu_37 : FRL I J36_1 := hu_28.tr ⟨fun s9 _ b9 => f36_1 s9 b9, g36_1⟩
              refine WP.go 3 (And.intro (And.intro (Nat.le_of_ble_eq_true rfl) (Nat.le_of_ble_eq_true rfl)) (And.intro rfl (?_)))
              show Call d 81 [vr (some 72) 3, vi 2043] (J36_1, H) _ _
              refine s_skip_T72 (by omega) hS hK_34 hat_35 (by omega) ⟨(fun q39_6 J39_3 e39_3 f39_3 g39_3 => ?_), (fun q39_7 => ?_)⟩
              ·
                show WP (Call d) 48 P X (40, [some (vr (some 72) 3), some (vi i), some (vi ((1000 + (th tb n q9)) - 1016)), some (vi (th tb n q9))], [vi 1], (J39_3, H), 0, 0)
                have nb9 := nx_bd (tb := tb) (n := n) (p := (nx tb n q9)) (hK_34.at hat_35).2.1 (th_lt (tb := tb) (hK_34.at hat_35).2.2 (by have w9 := q39_6; omega))
                have hK_38 : TOK J39_3 72 tb n := hK_34.fr (e39_3 2 (by omega)) (f39_3 73 (by omega)) (f39_3 74 (by omega))
                have hat_39 : ATP J39_3 72 (nx tb n (nx tb n q9)) := g39_3
                have pb9 := (hK_38.at hat_39).2
                have hco_40 : COD J39_3 ((c9 ++ [(1000 + (th tb n q9 - 1016))]) ++ [2000]) := hco_36.fr (e39_3 5 (by omega)) (f39_3 75 (by omega))
                have hu_41 : FRL I J39_3 := hu_37.tr ⟨fun s9 a9 _ => e39_3 s9 a9, fun a9 q9 _ => f39_3 a9 q9⟩
                refine WP.go 1 (And.intro (fun (b40 : ¬ 1 = 0) => ?_) (fun (b40 : 1 = 0) => (absurd b40 (by omega))))
                show WP (Call d) 48 P X (43, [some (vr (some 72) 3), some (vi i), some (vi ((1000 + (th tb n q9)) - 1016)), some (vi (th tb n q9))], [], (J39_3, H), 0, 0)
                refine WP.go 2 (Exists.intro (i + 1) (And.intro (wrp_a (by omega) (by omega)) (?_)))
                show WP (Call d) 48 P X (2, [some (vr (some 72) 3), some (vi (i + 1)), some (vi ((1000 + (th tb n q9)) - 1016)), some (vi (th tb n q9))], [], (J39_3, H), 0, 0)
                refine WP.wk (L := [some (vr (some 72) 3), some (vi (i + 1)), none, none]) (And.intro rfl (And.intro rfl (And.intro trivial (And.intro trivial (trivial))))) ?_
                show WP (Call d) 48 P X (2, [some (vr (some 72) 3), some (vi (i + 1)), none, none], [], (J39_3, H), 0, 0)
                exact ih2 J39_3 (i + 1) _ _ _ (by omega) (by omega) hK_38 hat_39 hco_40 hu_41 (kv5.trans (PS_s (r := r9) (s := ((-1, [1000 + (th tb n q9 - 1016)], (fun F => F (th tb n q9 - 1016)), nx tb n q9) : RS)) (pPart_2 q16) (by omega) rfl q39_6)) (by have w := CC_s (by omega) kv6 ((-1, [1000 + (th tb n q9 - 1016)], (fun F => F (th tb n q9 - 1016)), nx tb n q9) : RS); rw [if_neg (by omega)] at w; exact w) (by (try simp only [List.length_append, List.length_cons, List.length_nil]); omega)
              ·
                show WP (Call d) 48 P X (40, [some (vr (some 72) 3), some (vi i), some (vi ((1000 + (th tb n q9)) - 1016)), some (vi (th tb n q9))], [vi 0], (J36_1, H), 0, 0)
                refine WP.go 1 (And.intro (fun (b40 : ¬ 0 = 0) => (absurd b40 (by omega))) (fun (b40 : 0 = 0) => ?_))
                show WP (Call d) 48 P X (41, [some (vr (some 72) 3), some (vi i), some (vi ((1000 + (th tb n q9)) - 1016)), some (vi (th tb n q9))], [], (J36_1, H), 0, 0)
                refine WP.go 2 (And.intro (And.intro (Nat.le_of_ble_eq_true rfl) (Nat.le_of_ble_eq_true rfl)) (And.intro (Or.inr rfl) (?_)))
                show P (some (vi 1)) (J36_1, H)
                have r8 : pSum tb n p = J9 i r9 ((-1, [1000 + (th tb n q9 - 1016)], (fun F => F (th tb n q9 - 1016)), nx tb n q9) : RS) := kv5.trans (PS_e (s := ((-1, [1000 + (th tb n q9 - 1016)], (fun F => F (th tb n q9 - 1016)), nx tb n q9) : RS)) (pPart_2 q16) rfl q39_7)
                have cw := kv6 ((-1, [1000 + (th tb n q9 - 1016)], (fun F => F (th tb n q9 - 1016)), nx tb n q9) : RS)
                rw [if_neg (by omega)] at cw
                exact h.2 (by rw [r8]; exact J9_1 rfl) _ (by rw [r8, J9_p]; exact hat_35) (by rw [r8, ← cw]; exact hco_36) hu_37
          ·
            show WP (Call d) 48 P X (17, [some (vr (some 72) 3), some (vi i), some (vi (-1)), none], [vi (-1)], (K, H), 0, 0)
            refine WP.go 4 (And.intro (fun (b20 : ¬ (-1) = (-1)) => (absurd b20 (by omega))) (fun (b20 : (-1) = (-1)) => ?_))
            show WP (Call d) 48 P X (21, [some (vr (some 72) 3), some (vi i), some (vi (-1)), some (vi (-1))], [], (K, H), 0, 0)
            refine WP.go 2 (And.intro (And.intro (Nat.le_of_ble_eq_true rfl) (Nat.le_of_ble_eq_true rfl)) (And.intro (Or.inl rfl) (?_)))
            show P (some (vi 0)) (K, H)
            have r8 : pSum tb n p = rE q9 := kv5.trans (PS_x q8_1 q16_1 (by omega))
            exact h.1 (by rw [r8]; show q9 ≠ -1; omega) _ (by rw [r8]; exact kv2) kv4
  exact lp2 ((400 - 0 : Int).toNat + 1) I 0 p c (rE 0) (by omega) (by omega) hK hat hco hu (PS_0 _ _ _ _) (CC_0 _ _) (by omega)

theorem pAmt_1 {tb : Int → Int} {n p : Int} (h : ¬ (0 ≤ th tb n p ∧ th tb n p ≤ 999)) : pAmt tb n p = rE p := if_pos h
theorem pAmt_2 {tb : Int → Int} {n p : Int} (h : 0 ≤ th tb n p ∧ th tb n p ≤ 999) (h2 : th tb n (nx tb n p) ≠ 2042) : pAmt tb n p = (-1, [th tb n p], (fun _ => th tb n p), nx tb n p) := (if_neg (fun z => z h)).trans (if_pos h2)
theorem pAmt_3 {tb : Int → Int} {n p : Int} (h : 0 ≤ th tb n p ∧ th tb n p ≤ 999) (h2 : th tb n (nx tb n p) = 2042) (h3 : ¬ (1016 ≤ th tb n (nx tb n (nx tb n p)) ∧ th tb n (nx tb n (nx tb n p)) ≤ 1020)) : pAmt tb n p = rE (nx tb n (nx tb n p)) := (if_neg (fun z => z h)).trans ((if_neg (fun z => z h2)).trans (if_pos h3))
theorem pAmt_4 {tb : Int → Int} {n p : Int} (h : 0 ≤ th tb n p ∧ th tb n p ≤ 999) (h2 : th tb n (nx tb n p) = 2042) (h3 : 1016 ≤ th tb n (nx tb n (nx tb n p)) ∧ th tb n (nx tb n (nx tb n p)) ≤ 1020) : pAmt tb n p = (-1, [th tb n p, 1000 + (th tb n (nx tb n (nx tb n p)) - 1016), 2001], (fun F => th tb n p * F (th tb n (nx tb n (nx tb n p)) - 1016)), nx tb n (nx tb n (nx tb n p))) := (if_neg (fun z => z h)).trans ((if_neg (fun z => z h2)).trans (if_neg (fun z => z h3)))
theorem s_3_readAmount {d : Nat} {P : Option qV → qH → Prop} {X : Nat → qH → Prop} {I : qI} {H : qS} (hd : 2 ≤ d) {tb : Int → Int} {n p : Int} {c : List Int} (hS : Shp H) (hK : TOK I 72 tb n) (hat : ATP I 72 p) (hco : COD I c) (hcl : (c.length : Int) ≤ 2 * p) (hn4 : n ≤ 400) (h : ((pAmt tb n p).1 ≠ -1 → ∀ J : qI, ATP J 72 (pAmt tb n p).1 → FRL I J → P (some (vi 0)) (J, H)) ∧ ((pAmt tb n p).1 = -1 → ∀ J : qI, ATP J 72 (pAmt tb n p).2.2.2 → COD J (c ++ (pAmt tb n p).2.1) → FRL I J → P (some (vi 1)) (J, H))) :
    Call d 42 [vr (some 72) 3] (I, H) P X := by
  obtain ⟨d, rfl⟩ : ∃ e, d = e + 1 := ⟨d - 1, by omega⟩
  have hu := FRL.rf I
  have hpb := (hK.at hat).2
  show WP (Call d) 42 P X (0, [some (vr (some 72) 3), none, none], [], (I, H), 0, 0)
  refine WP.go 4 (And.intro (And.intro (Nat.le_of_ble_eq_true rfl) (Nat.le_of_ble_eq_true rfl)) (And.intro rfl (?_)))
  show Call d 82 [vr (some 72) 3, vi 0, vi 999] (I, H) _ _
  refine s_7_take_T72 (by omega) hS hK hat (by omega) ⟨(fun q3 J3 e3 f3 g3 => ?_), (fun q3_1 => ?_)⟩
  ·
    show WP (Call d) 42 P X (4, [some (vr (some 72) 3), none, none], [vi (th tb n p)], (J3, H), 0, 0)
    have nb9 := nx_bd (tb := tb) (n := n) (p := p) (hK.at hat).2.1 (th_lt (tb := tb) (hK.at hat).2.2 (by have w9 := q3; omega))
    have hK_1 : TOK J3 72 tb n := hK.fr (e3 2 (by omega)) (f3 73 (by omega)) (f3 74 (by omega))
    have hat_2 : ATP J3 72 (nx tb n p) := g3
    have pb9 := (hK_1.at hat_2).2
    have hco_3 : COD J3 c := hco.fr (e3 5 (by omega)) (f3 75 (by omega))
    have hu_4 : FRL I J3 := hu.tr ⟨fun s9 a9 _ => e3 s9 a9, fun a9 q9 _ => f3 a9 q9⟩
    refine WP.go 4 (And.intro (fun (b7 : ¬ th tb n p = (-1)) => ?_) (fun (b7 : th tb n p = (-1)) => (absurd b7 (by omega))))
    show WP (Call d) 42 P X (10, [some (vr (some 72) 3), some (vi (th tb n p)), none], [], (J3, H), 0, 0)
    refine WP.go 3 (And.intro (And.intro (Nat.le_of_ble_eq_true rfl) (Nat.le_of_ble_eq_true rfl)) (And.intro rfl (?_)))
    show Call d 40 [vr (some 72) 3, vi (th tb n p)] (J3, H) _ _
    refine s_3_put (by omega) hS hco_3 (by (try simp only [List.length_append, List.length_cons, List.length_nil]); omega) (fun J12 e12 f12 g12 => ?_)
    show WP (Call d) 42 P X (13, [some (vr (some 72) 3), some (vi (th tb n p)), none], [], (J12, H), 0, 0)
    have hK_5 : TOK J12 72 tb n := hK_1.fr (f12 2 (by omega)) (g12 73 (by omega) (by omega)) (g12 74 (by omega) (by omega))
    have hat_6 : ATP J12 72 (nx tb n p) := FRL.p5 f12 g12 hat_2
    have hco_7 : COD J12 (c ++ [(th tb n p)]) := e12
    have hu_8 : FRL I J12 := hu_4.tr ⟨fun s9 _ b9 => f12 s9 b9, g12⟩
    refine WP.go 3 (And.intro (And.intro (Nat.le_of_ble_eq_true rfl) (Nat.le_of_ble_eq_true rfl)) (And.intro rfl (?_)))
    show Call d 81 [vr (some 72) 3, vi 2042] (J12, H) _ _
    refine s_skip_T72 (by omega) hS hK_5 hat_6 (by omega) ⟨(fun q15 J15 e15 f15 g15 => ?_), (fun q15_1 => ?_)⟩
    ·
      show WP (Call d) 42 P X (16, [some (vr (some 72) 3), some (vi (th tb n p)), none], [vi 1], (J15, H), 0, 0)
      have nb9 := nx_bd (tb := tb) (n := n) (p := (nx tb n p)) (hK_5.at hat_6).2.1 (th_lt (tb := tb) (hK_5.at hat_6).2.2 (by have w9 := q15; omega))
      have hK_9 : TOK J15 72 tb n := hK_5.fr (e15 2 (by omega)) (f15 73 (by omega)) (f15 74 (by omega))
      have hat_10 : ATP J15 72 (nx tb n (nx tb n p)) := g15
      have pb9 := (hK_9.at hat_10).2
      have hco_11 : COD J15 (c ++ [(th tb n p)]) := hco_7.fr (e15 5 (by omega)) (f15 75 (by omega))
      have hu_12 : FRL I J15 := hu_8.tr ⟨fun s9 a9 _ => e15 s9 a9, fun a9 q9 _ => f15 a9 q9⟩
      refine WP.go 1 (And.intro (fun (b16 : ¬ 1 = 0) => ?_) (fun (b16 : 1 = 0) => (absurd b16 (by omega))))
      show WP (Call d) 42 P X (19, [some (vr (some 72) 3), some (vi (th tb n p)), none], [], (J15, H), 0, 0)
      refine WP.go 4 (And.intro (And.intro (Nat.le_of_ble_eq_true rfl) (Nat.le_of_ble_eq_true rfl)) (And.intro rfl (?_)))
      show Call d 82 [vr (some 72) 3, vi 1016, vi 1020] (J15, H) _ _
      refine s_7_take_T72 (by omega) hS hK_9 hat_10 (by omega) ⟨(fun q22 J22 e22 f22 g22 => ?_), (fun q22_1 => ?_)⟩
      ·
        show WP (Call d) 42 P X (23, [some (vr (some 72) 3), some (vi (th tb n p)), none], [vi (th tb n (nx tb n (nx tb n p)))], (J22, H), 0, 0)
        have nb9 := nx_bd (tb := tb) (n := n) (p := (nx tb n (nx tb n p))) (hK_9.at hat_10).2.1 (th_lt (tb := tb) (hK_9.at hat_10).2.2 (by have w9 := q22; omega))
        have hK_13 : TOK J22 72 tb n := hK_9.fr (e22 2 (by omega)) (f22 73 (by omega)) (f22 74 (by omega))
        have hat_14 : ATP J22 72 (nx tb n (nx tb n (nx tb n p))) := g22
        have pb9 := (hK_13.at hat_14).2
        have hco_15 : COD J22 (c ++ [(th tb n p)]) := hco_11.fr (e22 5 (by omega)) (f22 75 (by omega))
        have hu_16 : FRL I J22 := hu_12.tr ⟨fun s9 a9 _ => e22 s9 a9, fun a9 q9 _ => f22 a9 q9⟩
        refine WP.go 4 (And.intro (fun (b26 : ¬ th tb n (nx tb n (nx tb n p)) = (-1)) => ?_) (fun (b26 : th tb n (nx tb n (nx tb n p)) = (-1)) => (absurd b26 (by omega))))
        show WP (Call d) 42 P X (29, [some (vr (some 72) 3), some (vi (th tb n p)), some (vi (th tb n (nx tb n (nx tb n p))))], [], (J22, H), 0, 0)
        refine WP.go 7 (Exists.intro (1000 + (th tb n (nx tb n (nx tb n p)))) (And.intro (wrp_a (by omega) (by omega)) (Exists.intro ((1000 + (th tb n (nx tb n (nx tb n p)))) - 1016) (And.intro (wrp_a (by omega) (by omega)) (And.intro (And.intro (Nat.le_of_ble_eq_true rfl) (Nat.le_of_ble_eq_true rfl)) (And.intro rfl (?_)))))))
        show Call d 40 [vr (some 72) 3, vi ((1000 + (th tb n (nx tb n (nx tb n p)))) - 1016)] (J22, H) _ _
        refine s_3_put (by omega) hS hco_15 (by (try simp only [List.length_append, List.length_cons, List.length_nil]); omega) (fun J35 e35 f35 g35 => ?_)
        show WP (Call d) 42 P X (36, [some (vr (some 72) 3), some (vi (th tb n p)), some (vi (th tb n (nx tb n (nx tb n p))))], [], (J35, H), 0, 0)
        have hK_17 : TOK J35 72 tb n := hK_13.fr (f35 2 (by omega)) (g35 73 (by omega) (by omega)) (g35 74 (by omega) (by omega))
        have hat_18 : ATP J35 72 (nx tb n (nx tb n (nx tb n p))) := FRL.p5 f35 g35 hat_14
        have hco_19 : COD J35 ((c ++ [(th tb n p)]) ++ [((1000 + (th tb n (nx tb n (nx tb n p)))) - 1016)]) := e35
        have hu_20 : FRL I J35 := hu_16.tr ⟨fun s9 _ b9 => f35 s9 b9, g35⟩
        have hco_21 : COD J35 ((c ++ [(th tb n p)]) ++ [(1000 + (th tb n (nx tb n (nx tb n p)) - 1016))]) := by rw [show (1000 + (th tb n (nx tb n (nx tb n p)) - 1016)) = ((1000 + (th tb n (nx tb n (nx tb n p)))) - 1016) by omega]; exact hco_19
        refine WP.go 3 (And.intro (And.intro (Nat.le_of_ble_eq_true rfl) (Nat.le_of_ble_eq_true rfl)) (And.intro rfl (?_)))
        show Call d 40 [vr (some 72) 3, vi 2001] (J35, H) _ _
        refine s_3_put (by omega) hS hco_21 (by (try simp only [List.length_append, List.length_cons, List.length_nil]); omega) (fun J38 e38 f38 g38 => ?_)
        show WP (Call d) 42 P X (39, [some (vr (some 72) 3), some (vi (th tb n p)), some (vi (th tb n (nx tb n (nx tb n p))))], [], (J38, H), 0, 0)
        have hK_22 : TOK J38 72 tb n := hK_17.fr (f38 2 (by omega)) (g38 73 (by omega) (by omega)) (g38 74 (by omega) (by omega))
        have hat_23 : ATP J38 72 (nx tb n (nx tb n (nx tb n p))) := FRL.p5 f38 g38 hat_18
        have hco_24 : COD J38 (((c ++ [(th tb n p)]) ++ [(1000 + (th tb n (nx tb n (nx tb n p)) - 1016))]) ++ [2001]) := e38
        have hu_25 : FRL I J38 := hu_20.tr ⟨fun s9 _ b9 => f38 s9 b9, g38⟩
        refine WP.go 2 (And.intro (And.intro (Nat.le_of_ble_eq_true rfl) (Nat.le_of_ble_eq_true rfl)) (And.intro (Or.inr rfl) (?_)))
        show P (some (vi 1)) (J38, H)
        have r8 := pAmt_4 q3 q15 q22
        exact h.2 (by rw [r8]) _ (by rw [r8]; exact hat_23) (by rw [r8]; simpa only [List.append_assoc, List.cons_append, List.nil_append] using hco_24) hu_25
      ·
        show WP (Call d) 42 P X (23, [some (vr (some 72) 3), some (vi (th tb n p)), none], [vi (-1)], (J15, H), 0, 0)
        refine WP.go 4 (And.intro (fun (b26 : ¬ (-1) = (-1)) => (absurd b26 (by omega))) (fun (b26 : (-1) = (-1)) => ?_))
        show WP (Call d) 42 P X (27, [some (vr (some 72) 3), some (vi (th tb n p)), some (vi (-1))], [], (J15, H), 0, 0)
        refine WP.go 2 (And.intro (And.intro (Nat.le_of_ble_eq_true rfl) (Nat.le_of_ble_eq_true rfl)) (And.intro (Or.inl rfl) (?_)))
        show P (some (vi 0)) (J15, H)
        have r8 := pAmt_3 q3 q15 q22_1
        exact h.1 (by rw [r8]; show (nx tb n (nx tb n p)) ≠ -1; omega) _ (by rw [r8]; exact hat_10) hu_12
    ·
      show WP (Call d) 42 P X (16, [some (vr (some 72) 3), some (vi (th tb n p)), none], [vi 0], (J12, H), 0, 0)
      refine WP.go 1 (And.intro (fun (b16 : ¬ 0 = 0) => (absurd b16 (by omega))) (fun (b16 : 0 = 0) => ?_))
      show WP (Call d) 42 P X (17, [some (vr (some 72) 3), some (vi (th tb n p)), none], [], (J12, H), 0, 0)
      refine WP.go 2 (And.intro (And.intro (Nat.le_of_ble_eq_true rfl) (Nat.le_of_ble_eq_true rfl)) (And.intro (Or.inr rfl) (?_)))
      show P (some (vi 1)) (J12, H)
      have r8 := pAmt_2 q3 q15_1
      exact h.2 (by rw [r8]) _ (by rw [r8]; exact hat_6) (by rw [r8]; simpa only [List.append_assoc, List.cons_append, List.nil_append] using hco_7) hu_8
  ·
    show WP (Call d) 42 P X (4, [some (vr (some 72) 3), none, none], [vi (-1)], (I, H), 0, 0)
    refine WP.go 4 (And.intro (fun (b7 : ¬ (-1) = (-1)) => (absurd b7 (by omega))) (fun (b7 : (-1) = (-1)) => ?_))
    show WP (Call d) 42 P X (8, [some (vr (some 72) 3), some (vi (-1)), none], [], (I, H), 0, 0)
    refine WP.go 2 (And.intro (And.intro (Nat.le_of_ble_eq_true rfl) (Nat.le_of_ble_eq_true rfl)) (And.intro (Or.inl rfl) (?_)))
    show P (some (vi 0)) (I, H)
    have r8 := pAmt_1 q3_1
    exact h.1 (by rw [r8]; show p ≠ -1; omega) _ (by rw [r8]; exact hat) hu

