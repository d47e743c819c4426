/-! a lease, pure: what its text says (code, value), and the clerk's reckoning by the code -/
/-- wrong byte or -1, code, value by facts, place behind -/
abbrev RS := Int × List Int × ((Int → Int) → Int) × Int
def rE (w : Int) : RS := (w, [], (fun _ => 0), w)
/-- more of the same, each behind a sign or word -/
noncomputable def pLo (tb : Int → Int) (n sep opc : Int) (op : Int → Int → Int) (A : Int → RS) : Nat → RS → RS
  | 0, r => r
  | m + 1, r => if r.1 ≠ -1 then r else if th tb n r.2.2.2 ≠ sep then r else if (A (nx tb n r.2.2.2)).1 ≠ -1 then rE (A (nx tb n r.2.2.2)).1 else pLo tb n sep opc op A m (-1, r.2.1 ++ (A (nx tb n r.2.2.2)).2.1 ++ [opc], (fun F => op (r.2.2.1 F) ((A (nx tb n r.2.2.2)).2.2.1 F)), (A (nx tb n r.2.2.2)).2.2.2)
section
variable {tb : Int → Int} {n sep opc : Int} {op : Int → Int → Int} {A : Int → RS} {r : RS} {i : Int}
theorem pLo_e (m : Nat) (h : r.1 ≠ -1) : pLo tb n sep opc op A m r = r := by
  cases m with
  | zero => rfl
  | succ m => exact if_pos h
theorem pLo_n (m : Nat) (h : r.1 = -1) (h2 : th tb n r.2.2.2 ≠ sep) : pLo tb n sep opc op A m r = r := by
  cases m with
  | zero => rfl
  | succ m => exact (if_neg (fun z => z h)).trans (if_pos h2)
theorem pLo_x (hi : i < 400) (h : r.1 = -1) (h2 : th tb n r.2.2.2 = sep) (h3 : (A (nx tb n r.2.2.2)).1 ≠ -1) : pLo tb n sep opc op A (400 - i).toNat r = rE (A (nx tb n r.2.2.2)).1 := by
  rw [show (400 - i).toNat = (400 - (i + 1)).toNat + 1 by omega]
  exact (if_neg (fun z => z h)).trans ((if_neg (fun z => z h2)).trans (if_pos h3))
theorem pLo_y (hi : i < 400) (h : r.1 = -1) (h2 : th tb n r.2.2.2 = sep) (h3 : (A (nx tb n r.2.2.2)).1 = -1) : pLo tb n sep opc op A (400 - i).toNat r = pLo tb n sep opc op A (400 - (i + 1)).toNat (-1, r.2.1 ++ (A (nx tb n r.2.2.2)).2.1 ++ [opc], (fun F => op (r.2.2.1 F) ((A (nx tb n r.2.2.2)).2.2.1 F)), (A (nx tb n r.2.2.2)).2.2.2) := by
  rw [show (400 - i).toNat = (400 - (i + 1)).toNat + 1 by omega]
  exact (if_neg (fun z => z h)).trans ((if_neg (fun z => z h2)).trans (if_neg (fun z => z h3)))
end
noncomputable def pPart (tb : Int → Int) (n p : Int) : RS := if 0 ≤ th tb n p ∧ th tb n p ≤ 999 then (-1, [th tb n p], (fun _ => th tb n p), nx tb n p) else if 1016 ≤ th tb n p ∧ th tb n p ≤ 1020 then (-1, [1000 + (th tb n p - 1016)], (fun F => F (th tb n p - 1016)), nx tb n p) else rE p
noncomputable def pSum (tb : Int → Int) (n p : Int) : RS := pLo tb n 2043 2000 (fun a b => a + b) (pPart tb n) 400 (pPart tb n p)
noncomputable def pCmp (tb : Int → Int) (n : Int) (s : RS) : RS := if s.1 ≠ -1 then rE s.1 else if ¬ (th tb n s.2.2.2 = 2060 ∨ th tb n s.2.2.2 = 2062) then rE s.2.2.2 else if (pSum tb n (nx tb n s.2.2.2)).1 ≠ -1 then rE (pSum tb n (nx tb n s.2.2.2)).1 else
  (-1, s.2.1 ++ (pSum tb n (nx tb n s.2.2.2)).2.1 ++ [if th tb n s.2.2.2 = 2060 then 2002 else 2003], (fun F => if th tb n s.2.2.2 = 2060 then (if s.2.2.1 F < (pSum tb n (nx tb n s.2.2.2)).2.2.1 F then 1 else 0) else (if (pSum tb n (nx tb n s.2.2.2)).2.2.1 F < s.2.2.1 F then 1 else 0)), (pSum tb n (nx tb n s.2.2.2)).2.2.2)
noncomputable def pPlain (tb : Int → Int) (n p : Int) : RS := if 1021 ≤ th tb n p ∧ th tb n p ≤ 1023 then (-1, [1005 + (th tb n p - 1021)], (fun F => F (5 + (th tb n p - 1021))), nx tb n p) else pCmp tb n (pSum tb n p)
def opA (a b : Int) : Int := if a ≠ 0 ∧ b ≠ 0 then 1 else 0
def opO (a b : Int) : Int := if a ≠ 0 ∨ b ≠ 0 then 1 else 0
noncomputable def pAll (tb : Int → Int) (n : Int) (A : Int → RS) (p : Int) : RS := pLo tb n 1014 2004 opA A 400 (A p)
noncomputable def pAny (tb : Int → Int) (n : Int) (A : Int → RS) (p : Int) : RS := pLo tb n 1013 2005 opO (pAll tb n A) 400 (pAll tb n A p)
noncomputable def pNeg (r : RS) : RS := if r.1 ≠ -1 then rE r.1 else (-1, r.2.1 ++ [2006], (fun F => if r.2.2.1 F = 0 then 1 else 0), r.2.2.2)
noncomputable def pBrc (tb : Int → Int) (n : Int) (r : RS) : RS := if r.1 ≠ -1 then rE r.1 else if th tb n r.2.2.2 = 2041 then (-1, r.2.1, r.2.2.1, nx tb n r.2.2.2) else rE r.2.2.2
/-- an ATOM, with room for so many more ( and not -/
noncomputable def pAt (tb : Int → Int) (n : Int) : Nat → Int → RS
  | 0, p => if th tb n p = 1015 ∨ th tb n p = 2040 then rE p else pPlain tb n p
  | k + 1, p => if th tb n p = 1015 then pNeg (pAt tb n k (nx tb n p)) else if th tb n p = 2040 then pBrc tb n (pAny tb n (pAt tb n k) (nx tb n p)) else pPlain tb n p
noncomputable def pAmt (tb : Int → Int) (n p : Int) : RS := if ¬ (0 ≤ th tb n p ∧ th tb n p ≤ 999) then rE p else if th tb n (nx tb n p) ≠ 2042 then (-1, [th tb n p], (fun _ => th tb n p), nx tb n p) else if ¬ (1016 ≤ th tb n (nx tb n (nx tb n p)) ∧ th tb n (nx tb n (nx tb n p)) ≤ 1020) then rE (nx tb n (nx tb n p)) else (-1, [th tb n p, 1000 + (th tb n (nx tb n (nx tb n p)) - 1016), 2001], (fun F => th tb n p * F (th tb n (nx tb n (nx tb n p)) - 1016)), nx tb n (nx tb n (nx tb n p)))
/-- the clerk: stack, sum, void -/
def ckJ (x a b : Int) : Int := if x = 2000 then wrp (a + b) else if x = 2001 then wrp (a * b) else if x = 2002 then (if a < b then 1 else 0) else if x = 2003 then (if b < a then 1 else 0) else if x = 2004 then zand a b else zor a b
def ckP (s : List Int) (v : Int) : List Int := if s.length < 64 then v :: s else s
def ckS (F : Int → Int) (x : Int) (q : List Int × Int × Int) : List Int × Int × Int :=
  if x < 1000 then (ckP q.1 x, q.2) else if x < 2000 then (ckP q.1 (F (x - 1000)), q.2) else
  if x = 2006 then (ckP q.1.tail (if q.1.headD 0 = 0 then 1 else 0), q.2) else if x = 2009 then (q.1.tail, q.2.1, if q.1.headD 0 = 0 then q.2.2 else 1) else
  if x = 2007 then (q.1.tail.tail, wrp (q.2.1 + wrp (q.1.headD 0 * q.1.tail.headD 0)), q.2.2) else if x = 2008 then (q.1.tail.tail, wrp (q.2.1 - wrp (q.1.headD 0 * q.1.tail.headD 0)), q.2.2) else
  (ckP q.1.tail.tail (ckJ x (q.1.tail.headD 0) (q.1.headD 0)), q.2)
def ckR (F : Int → Int) (l : List Int) (q : List Int × Int × Int) : List Int × Int × Int := l.foldl (fun q x => ckS F x q) q
theorem ckR_app (F : Int → Int) (l1 l2 : List Int) (q : List Int × Int × Int) : ckR F (l1 ++ l2) q = ckR F l2 (ckR F l1 q) := List.foldl_append
theorem ckR_1 (F : Int → Int) (x : Int) (q : List Int × Int × Int) : ckR F [x] q = ckS F x q := rfl
theorem ckP_1 {s : List Int} {v : Int} (h : s.length + 1 ≤ 64) : ckP s v = v :: s := if_pos (by omega)
def FB (F : Int → Int) : Prop := (∀ i, 0 ≤ i → i < 5 → 0 ≤ F i ∧ F i ≤ 300) ∧ (∀ i, 5 ≤ i → i < 8 → F i = 0 ∨ F i = 1)
def VB (bo : Bool) (a w : Int) : Prop := 0 ≤ a ∧ (bo = true → a ≤ 1) ∧ a ≤ 1000 * w
/-- what was read from p on is good: it goes on, its code is short and lays its value -/
def GD (n : Int) (bo : Bool) (m : Nat) (p : Int) (r : RS) : Prop := r.1 = -1 → p < r.2.2.2 ∧ r.2.2.2 ≤ n ∧ (r.2.1.length : Int) ≤ (r.2.2.2 - p) ∧ ∀ F, FB F → VB bo (r.2.2.1 F) (r.2.2.2 - p) ∧ ∀ (σ : List Int) (S V : Int), σ.length + m ≤ 64 → ckR F r.2.1 (σ, S, V) = (r.2.2.1 F :: σ, S, V)
theorem GD.wk {n : Int} {bo : Bool} {m k : Nat} {p : Int} {r : RS} (h : GD n bo m p r) (hk : m ≤ k) : GD n bo k p r := fun e => ⟨(h e).1, (h e).2.1, (h e).2.2.1, fun F hF => ⟨((h e).2.2.2 F hF).1, fun σ S V q => ((h e).2.2.2 F hF).2 σ S V (by omega)⟩⟩
theorem GD.rE {n : Int} {bo : Bool} {m : Nat} {p w : Int} (h : w ≠ -1) : GD n bo m p (rE w) := fun e => absurd e h
/-- farther on it is good from p on, too -/
theorem GD.lo {n : Int} {bo : Bool} {m : Nat} {p p' : Int} {r : RS} (h : GD n bo m p' r) (hp : p ≤ p') : GD n bo m p r := fun e => by
  obtain ⟨a1, a2, a3, a4⟩ := h e
  refine ⟨by omega, a2, by omega, fun F hF => ⟨?_, (a4 F hF).2⟩⟩
  have b := (a4 F hF).1
  exact ⟨b.1, b.2.1, by have := b.2.2; omega⟩
theorem th_lt {tb : Int → Int} {n p : Int} (hp : p ≤ n) (h : th tb n p ≠ 3000) : p < n := by
  rcases Int.lt_or_eq_of_le hp with z | z
  · exact z
  · rw [z] at h; exact absurd (th_e tb n) h
theorem pLo_gd {tb : Int → Int} {n sep opc : Int} {op : Int → Int → Int} {A : Int → RS} {bo : Bool} {m : Nat} {p0 : Int} (hn : n ≤ 400) (h0 : 0 ≤ p0) (hs : sep ≠ 3000) (hm : 1 ≤ m) (hA : ∀ p, 0 ≤ p → p ≤ n → GD n bo m p (A p))
    (hop : ∀ a b u w : Int, 1 ≤ u → 1 ≤ w → u + w ≤ 400 → VB bo a u → VB bo b w → VB bo (op a b) (u + w) ∧ ∀ (F : Int → Int) (σ : List Int) (S V : Int), σ.length + 1 ≤ 64 → ckS F opc (b :: a :: σ, S, V) = (op a b :: σ, S, V)) : ∀ (k : Nat) (r : RS), GD n bo (m + 1) p0 r → GD n bo (m + 1) p0 (pLo tb n sep opc op A k r)
  | 0, _, h => h
  | k + 1, r, h => by
    unfold pLo
    split
    · exact h
    · rename_i q1
      split
      · exact h
      · rename_i q2
        split
        · rename_i q3; exact GD.rE q3
        · rename_i q3
          refine pLo_gd hn h0 hs hm hA hop k _ ?_
          have e1 : r.1 = -1 := Classical.not_not.mp q1
          have e2 : th tb n r.2.2.2 = sep := Classical.not_not.mp q2
          obtain ⟨a1, a2, a3, a4⟩ := h e1
          have lt := th_lt (tb := tb) a2 (by rw [e2]; exact hs)
          have nb := nx_bd (tb := tb) (show 0 ≤ r.2.2.2 by omega) lt
          have hb := hA (nx tb n r.2.2.2) (by omega) nb.2
          generalize A (nx tb n r.2.2.2) = s at *
          obtain ⟨b1, b2, b3, b4⟩ := hb (Classical.not_not.mp q3)
          intro _
          show p0 < s.2.2.2 ∧ s.2.2.2 ≤ n ∧ (((r.2.1 ++ s.2.1 ++ [opc]).length : Nat) : Int) ≤ (s.2.2.2 - p0) ∧ ∀ F, FB F → VB bo (op (r.2.2.1 F) (s.2.2.1 F)) (s.2.2.2 - p0) ∧ ∀ (σ : List Int) (S V : Int), σ.length + (m + 1) ≤ 64 → ckR F (r.2.1 ++ s.2.1 ++ [opc]) (σ, S, V) = (op (r.2.2.1 F) (s.2.2.1 F) :: σ, S, V)
          refine ⟨by omega, b2, by simp only [List.length_append, List.length_cons, List.length_nil]; omega, fun F hF => ?_⟩
          have o := hop (r.2.2.1 F) (s.2.2.1 F) (r.2.2.2 - p0) (s.2.2.2 - nx tb n r.2.2.2) (by omega) (by omega) (by omega) (a4 F hF).1 (b4 F hF).1
          refine ⟨⟨o.1.1, o.1.2.1, by have := o.1.2.2; omega⟩, fun σ S V hσ => ?_⟩
          rw [ckR_app, ckR_app, (a4 F hF).2 σ S V hσ, (b4 F hF).2 (r.2.2.1 F :: σ) S V (by show σ.length + 1 + m ≤ 64; omega)]
          exact o.2 F σ S V (by omega)
theorem hop_sum : ∀ a b u w : Int, 1 ≤ u → 1 ≤ w → u + w ≤ 400 → VB false a u → VB false b w → VB false (a + b) (u + w) ∧ ∀ (F : Int → Int) (σ : List Int) (S V : Int), σ.length + 1 ≤ 64 → ckS F 2000 (b :: a :: σ, S, V) = ((a + b) :: σ, S, V) := fun a b u w hu hw huw ha hb => by
  have a1 := ha.1
  have a2 := ha.2.2
  have b1 := hb.1
  have b2 := hb.2.2
  refine ⟨⟨by omega, fun z => absurd z (by decide), by omega⟩, fun F σ S V q => ?_⟩
  show (ckP σ (wrp (a + b)), S, V) = _
  rw [ckP_1 q, ← wrp_a (by omega) (by omega)]
theorem vb_1 {a w : Int} (h : VB true a w) : a = 0 ∨ a = 1 := by
  have := h.1
  have := h.2.1 rfl
  omega
theorem hop_all : ∀ a b u w : Int, 1 ≤ u → 1 ≤ w → u + w ≤ 400 → VB true a u → VB true b w → VB true (opA a b) (u + w) ∧ ∀ (F : Int → Int) (σ : List Int) (S V : Int), σ.length + 1 ≤ 64 → ckS F 2004 (b :: a :: σ, S, V) = (opA a b :: σ, S, V) := fun a b u w hu hw huw ha hb => by
  have h1 : zand a b = opA a b := by
    rcases vb_1 ha with rfl | rfl <;> rcases vb_1 hb with rfl | rfl <;> decide
  have h2 : 0 ≤ opA a b ∧ opA a b ≤ 1 := by unfold opA; split <;> omega
  refine ⟨⟨h2.1, fun _ => h2.2, by omega⟩, fun F σ S V q => ?_⟩
  show (ckP σ (zand a b), S, V) = _
  rw [ckP_1 q, h1]
theorem hop_any : ∀ a b u w : Int, 1 ≤ u → 1 ≤ w → u + w ≤ 400 → VB true a u → VB true b w → VB true (opO a b) (u + w) ∧ ∀ (F : Int → Int) (σ : List Int) (S V : Int), σ.length + 1 ≤ 64 → ckS F 2005 (b :: a :: σ, S, V) = (opO a b :: σ, S, V) := fun a b u w hu hw huw ha hb => by
  have h1 : zor a b = opO a b := by
    rcases vb_1 ha with rfl | rfl <;> rcases vb_1 hb with rfl | rfl <;> decide
  have h2 : 0 ≤ opO a b ∧ opO a b ≤ 1 := by unfold opO; split <;> omega
  refine ⟨⟨h2.1, fun _ => h2.2, by omega⟩, fun F σ S V q => ?_⟩
  show (ckP σ (zor a b), S, V) = _
  rw [ckP_1 q, h1]
/-- a number or fact laid down -/
theorem ckS_n {F : Int → Int} {x : Int} {σ : List Int} {S V : Int} (h : x < 1000) (q : σ.length + 1 ≤ 64) : ckS F x (σ, S, V) = (x :: σ, S, V) := by
  unfold ckS
  rw [if_pos h]
  show (ckP σ x, S, V) = _
  rw [ckP_1 q]
theorem ckS_f {F : Int → Int} {x k : Int} {σ : List Int} {S V : Int} (e : x = 1000 + k) (h : 0 ≤ k ∧ k < 1000) (q : σ.length + 1 ≤ 64) : ckS F x (σ, S, V) = (F k :: σ, S, V) := by
  unfold ckS
  rw [if_neg (by omega), if_pos (by omega)]
  show (ckP σ (F (x - 1000)), S, V) = _
  rw [ckP_1 q, show x - 1000 = k by omega]
section
variable {tb : Int → Int} {n : Int}
theorem pPart_gd {p : Int} (h0 : 0 ≤ p) (hp : p ≤ n) : GD n false 1 p (pPart tb n p) := by
  unfold pPart
  split
  · rename_i q
    have nb := nx_bd (tb := tb) h0 (th_lt (tb := tb) hp (by omega))
    intro _
    refine ⟨nb.1, nb.2, ?_, fun F hF => ⟨⟨q.1, fun z => absurd z (by decide), ?_⟩, fun σ S V hσ => ckS_n (by show th tb n p < 1000; omega) hσ⟩⟩
    · show ((1 : Nat) : Int) ≤ (nx tb n p - p); omega
    · show th tb n p ≤ 1000 * (nx tb n p - p); omega
  · split
    · rename_i q
      have nb := nx_bd (tb := tb) h0 (th_lt (tb := tb) hp (by omega))
      intro _
      refine ⟨nb.1, nb.2, ?_, fun F hF => ⟨⟨?_, fun z => absurd z (by decide), ?_⟩, fun σ S V hσ => ckS_f rfl (by omega) hσ⟩⟩
      · show ((1 : Nat) : Int) ≤ (nx tb n p - p); omega
      · exact (hF.1 _ (by omega) (by omega)).1
      · have := hF.1 (th tb n p - 1016) (by omega) (by omega)
        show F (th tb n p - 1016) ≤ 1000 * (nx tb n p - p); omega
    · exact GD.rE (by omega)
theorem pSum_gd {p : Int} (hn : n ≤ 400) (h0 : 0 ≤ p) (hp : p ≤ n) : GD n false 2 p (pSum tb n p) := pLo_gd hn h0 (by omega) (by omega) (fun _ a b => pPart_gd a b) hop_sum 400 _ ((pPart_gd h0 hp).wk (by omega))
theorem pCmp_gd {p : Int} {s : RS} (hn : n ≤ 400) (h0 : 0 ≤ p) (hs : GD n false 2 p s) : GD n true 3 p (pCmp tb n s) := by
  unfold pCmp
  split
  · rename_i q; exact GD.rE q
  · rename_i q1
    obtain ⟨a1, a2, a3, a4⟩ := hs (Classical.not_not.mp q1)
    split
    · exact GD.rE (by omega)
    · rename_i q2
      have q2 := Classical.not_not.mp q2
      split
      · rename_i q; exact GD.rE q
      · rename_i q3
        have nb := nx_bd (tb := tb) (show 0 ≤ s.2.2.2 by omega) (th_lt (tb := tb) a2 (by omega))
        have ht := pSum_gd (tb := tb) (p := nx tb n s.2.2.2) hn (by omega) nb.2
        generalize pSum tb n (nx tb n s.2.2.2) = t at *
        obtain ⟨b1, b2, b3, b4⟩ := ht (Classical.not_not.mp q3)
        intro _
        show p < t.2.2.2 ∧ t.2.2.2 ≤ n ∧ (((s.2.1 ++ t.2.1 ++ [if th tb n s.2.2.2 = 2060 then 2002 else 2003]).length : Nat) : Int) ≤ (t.2.2.2 - p) ∧ ∀ F, FB F → VB true (if th tb n s.2.2.2 = 2060 then (if s.2.2.1 F < t.2.2.1 F then 1 else 0) else (if t.2.2.1 F < s.2.2.1 F then 1 else 0)) (t.2.2.2 - p) ∧ ∀ (σ : List Int) (S V : Int), σ.length + 3 ≤ 64 → ckR F (s.2.1 ++ t.2.1 ++ [if th tb n s.2.2.2 = 2060 then 2002 else 2003]) (σ, S, V) = ((if th tb n s.2.2.2 = 2060 then (if s.2.2.1 F < t.2.2.1 F then 1 else 0) else (if t.2.2.1 F < s.2.2.1 F then 1 else 0)) :: σ, S, V)
        refine ⟨by omega, b2, by simp only [List.length_append, List.length_cons, List.length_nil]; omega, fun F hF => ⟨?_, fun σ S V hσ => ?_⟩⟩
        · refine ⟨?_, fun _ => ?_, ?_⟩
          · split <;> split <;> omega
          · split <;> split <;> omega
          · split <;> split <;> omega
        · rw [ckR_app, ckR_app, (a4 F hF).2 σ S V (by omega), (b4 F hF).2 (s.2.2.1 F :: σ) S V (by show σ.length + 1 + 2 ≤ 64; omega), ckR_1]
          by_cases w : th tb n s.2.2.2 = 2060
          · rw [if_pos w, if_pos w]
            show (ckP σ (if s.2.2.1 F < t.2.2.1 F then 1 else 0), S, V) = _
            rw [ckP_1 (by omega)]
          · rw [if_neg w, if_neg w]
            show (ckP σ (if t.2.2.1 F < s.2.2.1 F then 1 else 0), S, V) = _
            rw [ckP_1 (by omega)]
theorem pPlain_gd {p : Int} (hn : n ≤ 400) (h0 : 0 ≤ p) (hp : p ≤ n) : GD n true 3 p (pPlain tb n p) := by
  unfold pPlain
  split
  · rename_i q
    have nb := nx_bd (tb := tb) h0 (th_lt (tb := tb) hp (by omega))
    intro _
    refine ⟨nb.1, nb.2, ?_, fun F hF => ?_⟩
    · show ((1 : Nat) : Int) ≤ (nx tb n p - p); omega
    · have z := hF.2 (5 + (th tb n p - 1021)) (by omega) (by omega)
      refine ⟨⟨?_, fun _ => ?_, ?_⟩, fun σ S V hσ => ckS_f (by show 1005 + (th tb n p - 1021) = 1000 + (5 + (th tb n p - 1021)); omega) (by omega) (by omega)⟩
      · show 0 ≤ F (5 + (th tb n p - 1021)); omega
      · show F (5 + (th tb n p - 1021)) ≤ 1; omega
      · show F (5 + (th tb n p - 1021)) ≤ 1000 * (nx tb n p - p); omega
  · exact pCmp_gd hn h0 (pSum_gd hn h0 hp)
theorem pAll_gd {A : Int → RS} {m : Nat} (hn : n ≤ 400) (hm : 1 ≤ m) (hA : ∀ p, 0 ≤ p → p ≤ n → GD n true m p (A p)) {p : Int} (h0 : 0 ≤ p) (hp : p ≤ n) : GD n true (m + 1) p (pAll tb n A p) := pLo_gd hn h0 (by omega) hm hA hop_all 400 _ ((hA p h0 hp).wk (by omega))
theorem pAny_gd {A : Int → RS} {m : Nat} (hn : n ≤ 400) (hm : 1 ≤ m) (hA : ∀ p, 0 ≤ p → p ≤ n → GD n true m p (A p)) {p : Int} (h0 : 0 ≤ p) (hp : p ≤ n) : GD n true (m + 2) p (pAny tb n A p) := pLo_gd hn h0 (by omega) (by omega) (fun _ a b => pAll_gd hn hm hA a b) hop_any 400 _ ((pAll_gd hn hm hA h0 hp).wk (by omega))
theorem pNeg_gd {m : Nat} {p p' : Int} {r : RS} (hp : p < p') (hm : 1 ≤ m) (hr : GD n true m p' r) : GD n true m p (pNeg r) := by
  unfold pNeg
  split
  · rename_i q; exact GD.rE q
  · rename_i q
    obtain ⟨a1, a2, a3, a4⟩ := hr (Classical.not_not.mp q)
    intro _
    show p < r.2.2.2 ∧ r.2.2.2 ≤ n ∧ (((r.2.1 ++ [2006]).length : Nat) : Int) ≤ (r.2.2.2 - p) ∧ ∀ F, FB F → VB true (if r.2.2.1 F = 0 then 1 else 0) (r.2.2.2 - p) ∧ ∀ (σ : List Int) (S V : Int), σ.length + m ≤ 64 → ckR F (r.2.1 ++ [2006]) (σ, S, V) = ((if r.2.2.1 F = 0 then 1 else 0) :: σ, S, V)
    refine ⟨by omega, a2, by simp only [List.length_append, List.length_cons, List.length_nil]; omega, fun F hF => ⟨⟨?_, fun _ => ?_, ?_⟩, fun σ S V hσ => ?_⟩⟩
    · split <;> omega
    · split <;> omega
    · split <;> omega
    · rw [ckR_app, (a4 F hF).2 σ S V hσ, ckR_1]
      show (ckP σ (if r.2.2.1 F = 0 then 1 else 0), S, V) = _
      rw [ckP_1 (by omega)]
theorem pBrc_gd {m : Nat} {p p' : Int} {r : RS} (hp : p < p') (h0 : 0 ≤ p) (hr : GD n true m p' r) : GD n true m p (pBrc tb n r) := by
  unfold pBrc
  split
  · rename_i q; exact GD.rE q
  · rename_i q
    obtain ⟨a1, a2, a3, a4⟩ := hr (Classical.not_not.mp q)
    split
    · rename_i q2
      have nb := nx_bd (tb := tb) (show 0 ≤ r.2.2.2 by omega) (th_lt (tb := tb) a2 (by omega))
      intro _
      refine ⟨by show p < nx tb n r.2.2.2; omega, nb.2, by show ((r.2.1.length : Nat) : Int) ≤ (nx tb n r.2.2.2 - p); omega, fun F hF => ⟨⟨(a4 F hF).1.1, (a4 F hF).1.2.1, ?_⟩, (a4 F hF).2⟩⟩
      have := (a4 F hF).1.2.2
      show r.2.2.1 F ≤ 1000 * (nx tb n r.2.2.2 - p)
      omega
    · exact GD.rE (by omega)
theorem pAt_gd (hn : n ≤ 400) : ∀ (k : Nat) (p : Int), 0 ≤ p → p ≤ n → GD n true (3 + 2 * k) p (pAt tb n k p)
  | 0, p, h0, hp => by
    unfold pAt
    split
    · exact GD.rE (by omega)
    · exact pPlain_gd hn h0 hp
  | k + 1, p, h0, hp => by
    unfold pAt
    split
    · rename_i q
      have nb := nx_bd (tb := tb) h0 (th_lt (tb := tb) hp (by omega))
      exact (pNeg_gd nb.1 (by omega) (pAt_gd hn k _ (by omega) nb.2)).wk (by omega)
    · split
      · rename_i q
        have nb := nx_bd (tb := tb) h0 (th_lt (tb := tb) hp (by omega))
        exact (pBrc_gd nb.1 h0 (pAny_gd hn (by omega) (pAt_gd hn k) (by omega) nb.2)).wk (by omega)
      · exact (pPlain_gd hn h0 hp).wk (by omega)
/-- the amount of a line -/
def AD (n p : Int) (r : RS) : Prop := r.1 = -1 → p ≤ r.2.2.2 ∧ r.2.2.2 ≤ n ∧ (r.2.1.length : Int) ≤ (r.2.2.2 - p) ∧ ∀ F, FB F → (0 ≤ r.2.2.1 F ∧ r.2.2.1 F ≤ 299700)
theorem mul_b {a b m : Int} (ha : 0 ≤ a ∧ a ≤ 999) (hb : 0 ≤ b ∧ b ≤ 300) : 0 ≤ a * b ∧ a * b ≤ 299700 :=
  ⟨Int.mul_nonneg ha.1 hb.1, Int.le_trans (Int.mul_le_mul ha.2 hb.2 hb.1 (by omega)) (by omega)⟩
theorem pAmt_gd {p : Int} (h0 : 0 ≤ p) (hp : p ≤ n) : AD n p (pAmt tb n p) ∧ ((pAmt tb n p).1 = -1 → ∀ F, FB F → ∀ (σ : List Int) (S V : Int), σ.length + 2 ≤ 64 → ckR F (pAmt tb n p).2.1 (σ, S, V) = ((pAmt tb n p).2.2.1 F :: σ, S, V)) := by
  unfold pAmt
  split
  · exact ⟨fun z => by have : p = -1 := z; omega, fun z => by have : p = -1 := z; omega⟩
  · rename_i q1
    have q1 := Classical.not_not.mp q1
    have nb := nx_bd (tb := tb) h0 (th_lt (tb := tb) hp (by omega))
    split
    · refine ⟨fun _ => ⟨by show p ≤ nx tb n p; omega, nb.2, by show ((1 : Nat) : Int) ≤ (nx tb n p - p); omega, fun F hF => ⟨q1.1, by show th tb n p ≤ 299700; omega⟩⟩, fun _ F hF σ S V hσ => ckS_n (by omega) (by omega)⟩
    · rename_i q2
      have q2 := Classical.not_not.mp q2
      have nc := nx_bd (tb := tb) (n := n) (p := nx tb n p) (by omega) (th_lt (tb := tb) nb.2 (by omega))
      split
      · exact ⟨fun z => by have : nx tb n (nx tb n p) = -1 := z; omega, fun z => by have : nx tb n (nx tb n p) = -1 := z; omega⟩
      · rename_i q3
        have q3 := Classical.not_not.mp q3
        have nd := nx_bd (tb := tb) (n := n) (p := nx tb n (nx tb n p)) (by omega) (th_lt (tb := tb) nc.2 (by omega))
        refine ⟨fun _ => ⟨by show p ≤ nx tb n (nx tb n (nx tb n p)); omega, nd.2, by show ((3 : Nat) : Int) ≤ (nx tb n (nx tb n (nx tb n p)) - p); omega, fun F hF => mul_b (m := 0) q1 (hF.1 _ (by omega) (by omega))⟩, fun _ F hF σ S V hσ => ?_⟩
        have mb := mul_b (m := 0) q1 (hF.1 (th tb n (nx tb n (nx tb n p)) - 1016) (by omega) (by omega))
        show ckS F 2001 (ckS F (1000 + (th tb n (nx tb n (nx tb n p)) - 1016)) (ckS F (th tb n p) (σ, S, V))) = _
        have s1 := ckS_n (F := F) (x := th tb n p) (σ := σ) (S := S) (V := V) (by omega) (by omega)
        have s2 := ckS_f (F := F) (x := 1000 + (th tb n (nx tb n (nx tb n p)) - 1016)) (k := th tb n (nx tb n (nx tb n p)) - 1016) (σ := th tb n p :: σ) (S := S) (V := V) rfl (by omega) (by show σ.length + 1 + 1 ≤ 64; omega)
        rw [s1, s2]
        show (ckP σ (wrp (th tb n p * F (th tb n (nx tb n (nx tb n p)) - 1016))), S, V) = _
        rw [ckP_1 (by omega), ← wrp_a (by omega) (by omega)]
noncomputable def lamt (tb : Int → Int) (n p : Int) : RS := if th tb n p = 1011 then (-1, [], (fun _ => 0), nx tb n p) else pAmt tb n (nx tb n p)
noncomputable def lcon (tb : Int → Int) (n p : Int) : RS := if th tb n p = 1012 then pAny tb n (pAt tb n 6) (nx tb n p) else (-1, [1], (fun _ => 1), p)
/-- code, sum and void of the lines so far -/
abbrev LSt := List Int × ((Int → Int) → Int) × ((Int → Int) → Int)
def lch (t a c : Int) : Int := if t = 1011 then 0 else if c = 0 then 0 else if t = 1009 then a else -a
noncomputable def lln (tb : Int → Int) (n p : Int) (c : LSt) : Int × LSt × Int := if ¬ (1009 ≤ th tb n p ∧ th tb n p ≤ 1011) then (p, c, p) else if (lamt tb n p).1 ≠ -1 then ((lamt tb n p).1, c, p) else if (lcon tb n (lamt tb n p).2.2.2).1 ≠ -1 then ((lcon tb n (lamt tb n p).2.2.2).1, c, p) else
  (-1, (c.1 ++ ((lamt tb n p).2.1 ++ ((lcon tb n (lamt tb n p).2.2.2).2.1 ++ [2007 + (th tb n p - 1009)])), (fun F => c.2.1 F + lch (th tb n p) ((lamt tb n p).2.2.1 F) ((lcon tb n (lamt tb n p).2.2.2).2.2.1 F)), (fun F => if th tb n p = 1011 ∧ (lcon tb n (lamt tb n p).2.2.2).2.2.1 F ≠ 0 then 1 else c.2.2 F)), (lcon tb n (lamt tb n p).2.2.2).2.2.2)
theorem lln_c {p : Int} {c : LSt} (h : (lln tb n p c).1 ≠ -1) : (lln tb n p c).2.1 = c := by
  unfold lln at *
  split
  · rfl
  · split
    · rfl
    · split
      · rfl
      · rename_i q1 q2 q3
        rw [if_neg q1, if_neg q2, if_neg q3] at h
        exact absurd rfl h
theorem lamt_gd {p : Int} (h0 : 0 ≤ p) (hp : p ≤ n) (ht : 1009 ≤ th tb n p ∧ th tb n p ≤ 1011) : AD n (nx tb n p) (lamt tb n p) ∧ ((lamt tb n p).1 = -1 → ∀ F, FB F → ∀ (S V : Int), ckR F (lamt tb n p).2.1 ([], S, V) = (if th tb n p = 1011 then [] else [(lamt tb n p).2.2.1 F], S, V)) := by
  have nb := nx_bd (tb := tb) h0 (th_lt (tb := tb) hp (by omega))
  unfold lamt
  split
  · rename_i q
    exact ⟨fun _ => ⟨Int.le_refl _, nb.2, by show ((0 : Nat) : Int) ≤ (nx tb n p - nx tb n p); omega, fun F _ => ⟨Int.le_refl _, by show (0 : Int) ≤ 299700; omega⟩⟩, fun _ F _ S V => rfl⟩
  · rename_i q
    have a := pAmt_gd (tb := tb) (n := n) (p := nx tb n p) (by omega) nb.2
    exact ⟨a.1, fun e F hF S V => a.2 e F hF [] S V (by show 0 + 2 ≤ 64; omega)⟩
/-- the condition of a line -/
theorem lcon_gd {p : Int} (hn : n ≤ 400) (h0 : 0 ≤ p) (hp : p ≤ n) (e : (lcon tb n p).1 = -1) : p ≤ (lcon tb n p).2.2.2 ∧ (lcon tb n p).2.2.2 ≤ n ∧ ((lcon tb n p).2.1.length : Int) ≤ ((lcon tb n p).2.2.2 - p) + 1 ∧ ∀ F, FB F → ((lcon tb n p).2.2.1 F = 0 ∨ (lcon tb n p).2.2.1 F = 1) ∧ ∀ (σ : List Int) (S V : Int), σ.length ≤ 40 → ckR F (lcon tb n p).2.1 (σ, S, V) = ((lcon tb n p).2.2.1 F :: σ, S, V) := by
  unfold lcon at *
  split
  · rename_i q
    rw [if_pos q] at e
    have nb := nx_bd (tb := tb) h0 (th_lt (tb := tb) hp (by omega))
    obtain ⟨a1, a2, a3, a4⟩ := pAny_gd (tb := tb) hn (by omega) (pAt_gd (tb := tb) hn 6) (p := nx tb n p) (by omega) nb.2 e
    exact ⟨by omega, a2, by omega, fun F hF => ⟨vb_1 (a4 F hF).1, fun σ S V hσ => (a4 F hF).2 σ S V (by omega)⟩⟩
  · exact ⟨Int.le_refl _, hp, by show ((1 : Nat) : Int) ≤ (p - p) + 1; omega, fun F hF => ⟨.inr rfl, fun σ S V hσ => by show ckS F 1 (σ, S, V) = (1 :: σ, S, V); exact ckS_n (by omega) (by omega)⟩⟩
/-- the lines so far are good -/
def LG (p q : Int) (c : LSt) : Prop := (c.1.length : Int) ≤ q ∧ ∀ F, FB F → ckR F c.1 ([], 0, 0) = ([], c.2.1 F, c.2.2 F) ∧ (-(300000 * p) ≤ c.2.1 F ∧ c.2.1 F ≤ 300000 * p) ∧ (c.2.2 F = 0 ∨ c.2.2 F = 1)
theorem LG.up {p q p' q' : Int} {c : LSt} (h : LG p q c) (hp : p ≤ p') (hq : q ≤ q') : LG p' q' c := ⟨by have := h.1; omega, fun F hF => by
  obtain ⟨a1, a2, a3⟩ := h.2 F hF
  exact ⟨a1, by omega, a3⟩⟩
theorem lln_lg {p : Int} {c : LSt} (hn : n ≤ 400) (h0 : 0 ≤ p) (hp : p ≤ n) (h : LG p p c) (e : (lln tb n p c).1 = -1) : p < (lln tb n p c).2.2 ∧ (lln tb n p c).2.2 ≤ n ∧ LG (lln tb n p c).2.2 ((lln tb n p c).2.2 + 1) (lln tb n p c).2.1 := by
  unfold lln at *
  split
  · rename_i q; rw [if_pos q] at e; have : p = -1 := e; omega
  · rename_i q1
    rw [if_neg q1] at e
    have q1 := Classical.not_not.mp q1
    split
    · rename_i q; rw [if_pos q] at e; exact absurd e q
    · rename_i q2
      rw [if_neg q2] at e
      have q2 := Classical.not_not.mp q2
      split
      · rename_i q; rw [if_pos q] at e; exact absurd e q
      · rename_i q3
        have q3 := Classical.not_not.mp q3
        have nb := nx_bd (tb := tb) h0 (th_lt (tb := tb) hp (by omega))
        have ha := lamt_gd (tb := tb) h0 hp q1
        generalize lamt tb n p = am at *
        obtain ⟨a1, a2, a3, a4⟩ := ha.1 q2
        have hc := lcon_gd (tb := tb) hn (show 0 ≤ am.2.2.2 by omega) a2 q3
        generalize lcon tb n am.2.2.2 = co at *
        obtain ⟨c1, c2, c3, c4⟩ := hc
        have h1 := h.1
        refine ⟨by show p < co.2.2.2; omega, c2, ?_, fun F hF => ?_⟩
        · show (((c.1 ++ (am.2.1 ++ (co.2.1 ++ [2007 + (th tb n p - 1009)]))).length : Nat) : Int) ≤ co.2.2.2 + 1
          simp only [List.length_append, List.length_cons, List.length_nil]; omega
        · obtain ⟨l1, l2, l3⟩ := h.2 F hF
          have m1 := a4 F hF
          have m2 := (c4 F hF).1
          show ckR F (c.1 ++ (am.2.1 ++ (co.2.1 ++ [2007 + (th tb n p - 1009)]))) ([], 0, 0) = ([], c.2.1 F + lch (th tb n p) (am.2.2.1 F) (co.2.2.1 F), if th tb n p = 1011 ∧ co.2.2.1 F ≠ 0 then 1 else c.2.2 F) ∧ (-(300000 * co.2.2.2) ≤ c.2.1 F + lch (th tb n p) (am.2.2.1 F) (co.2.2.1 F) ∧ c.2.1 F + lch (th tb n p) (am.2.2.1 F) (co.2.2.1 F) ≤ 300000 * co.2.2.2) ∧ ((if th tb n p = 1011 ∧ co.2.2.1 F ≠ 0 then 1 else c.2.2 F) = 0 ∨ (if th tb n p = 1011 ∧ co.2.2.1 F ≠ 0 then 1 else c.2.2 F) = 1)
          refine ⟨?_, ?_, by split <;> omega⟩
          · rw [ckR_app, ckR_app, ckR_app, l1, ha.2 q2 F hF]
            rw [(c4 F hF).2 _ _ _ (by split; exact Nat.zero_le _; exact Nat.le_of_ble_eq_true rfl), ckR_1]
            have ht : th tb n p = 1009 ∨ th tb n p = 1010 ∨ th tb n p = 1011 := by omega
            rcases ht with t | t | t
            · rw [t, if_neg (by omega), if_neg (by omega)]
              show ([], wrp (c.2.1 F + wrp (co.2.2.1 F * am.2.2.1 F)), c.2.2 F) = (([] : List Int), c.2.1 F + lch 1009 (am.2.2.1 F) (co.2.2.1 F), c.2.2 F)
              have e1 : wrp (c.2.1 F + wrp (co.2.2.1 F * am.2.2.1 F)) = c.2.1 F + lch 1009 (am.2.2.1 F) (co.2.2.1 F) := by
                rcases m2 with z | z
                · rw [z, Int.zero_mul, ← wrp_a (x := 0) (by omega) (by omega), ← wrp_a (by omega) (by omega)]; rfl
                · rw [z, Int.one_mul, ← wrp_a (x := am.2.2.1 F) (by omega) (by omega), ← wrp_a (by omega) (by omega)]; rfl
              rw [e1]
            · rw [t, if_neg (by omega), if_neg (by omega)]
              show ([], wrp (c.2.1 F - wrp (co.2.2.1 F * am.2.2.1 F)), c.2.2 F) = (([] : List Int), c.2.1 F + lch 1010 (am.2.2.1 F) (co.2.2.1 F), c.2.2 F)
              have e1 : wrp (c.2.1 F - wrp (co.2.2.1 F * am.2.2.1 F)) = c.2.1 F + lch 1010 (am.2.2.1 F) (co.2.2.1 F) := by
                rcases m2 with z | z
                · rw [z, Int.zero_mul, ← wrp_a (x := 0) (by omega) (by omega), ← wrp_a (by omega) (by omega)]; show c.2.1 F - 0 = c.2.1 F + 0; omega
                · rw [z, Int.one_mul, ← wrp_a (x := am.2.2.1 F) (by omega) (by omega), ← wrp_a (by omega) (by omega)]; show c.2.1 F - am.2.2.1 F = c.2.1 F + -(am.2.2.1 F); omega
              rw [e1]
            · rw [t, if_pos rfl]
              show ([], c.2.1 F, if co.2.2.1 F = 0 then c.2.2 F else 1) = (([] : List Int), c.2.1 F + 0, if (1011 : Int) = 1011 ∧ co.2.2.1 F ≠ 0 then 1 else c.2.2 F)
              rw [Int.add_zero]
              rcases m2 with z | z
              · rw [if_pos z, if_neg (fun w => w.2 z)]
              · rw [if_neg (by omega), if_pos ⟨rfl, by omega⟩]
          · unfold lch; split <;> (try split) <;> (try split) <;> omega
theorem lnL_lg (hn : n ≤ 400) : ∀ (k : Nat) (p : Int) (c : LSt), 0 ≤ p → p ≤ n → LG p p c → LG n (n + 1) (lnL tb n (lln tb n) k p c).2
  | 0, _, _, _, hp, h => h.up hp (by omega)
  | k + 1, p, c, h0, hp, h => by
    unfold lnL
    split
    · rename_i q; show LG n (n + 1) (lln tb n p c).2.1; rw [lln_c q]; exact h.up hp (by omega)
    · rename_i q
      obtain ⟨a1, a2, a3⟩ := lln_lg hn h0 hp h (Classical.not_not.mp q)
      split
      · exact a3.up a2 (by omega)
      · split
        · rename_i q2
          have nb := nx_bd (tb := tb) (show 0 ≤ (lln tb n p c).2.2 by omega) (th_lt (tb := tb) a2 (by omega))
          exact lnL_lg hn k _ _ (by omega) nb.2 (a3.up (by omega) (by omega))
        · exact a3.up a2 (by omega)
def ls0 : LSt := ([], (fun _ => 0), (fun _ => 0))
theorem ls0_lg {p q : Int} (h : 0 ≤ p) (hq : 0 ≤ q) : LG p q ls0 := ⟨by show ((0 : Nat) : Int) ≤ q; omega, fun F _ => ⟨rfl, by show -(300000 * p) ≤ 0 ∧ (0 : Int) ≤ 300000 * p; omega, .inl rfl⟩⟩
theorem lnT_lg (hn : 0 ≤ n ∧ n ≤ 400) : LG n (n + 1) (lnT tb n (lln tb n) ls0).2 := by
  unfold lnT
  split
  · exact ls0_lg hn.1 (by omega)
  · have b := sk_bd (tb := tb) (n := n) (p := 0) (by omega) hn.1
    exact lnL_lg hn.2 12 _ _ (by omega) b.2 (ls0_lg (by omega) (by omega))
end
