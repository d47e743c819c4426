/-! the best way is a way: no house twice -/
def frv (t h i : Nat) : Bool := decide (zand (zshr (zor (t : Int) (zshl 1 (h : Int))) (h : Int)) 1 = 1) && (decide (zand (zshr (t : Int) (i : Int)) 1 = 0) || decide (zand (zshr (zor (t : Int) (zshl 1 (h : Int))) (i : Int)) 1 = 1))
theorem frv_ok : (List.range 128).all (fun t => (List.range 7).all (fun h => (List.range 7).all (fun i => frv t h i))) = true := by decide +kernel
theorem frv_at {t h i : Int} (ht : 0 ≤ t ∧ t < 128) (hh : 0 ≤ h ∧ h < 7) (hi : 0 ≤ i ∧ i < 7) : zand (zshr (zor t (zshl 1 h)) h) 1 = 1 ∧ (zand (zshr t i) 1 = 1 → zand (zshr (zor t (zshl 1 h)) i) 1 = 1) := by
  have a := List.all_eq_true.mp (List.all_eq_true.mp (List.all_eq_true.mp frv_ok t.toNat (List.mem_range.mpr (by omega))) h.toNat (List.mem_range.mpr (by omega))) i.toNat (List.mem_range.mpr (by omega))
  unfold frv at a
  rw [show ((t.toNat : Nat) : Int) = t by omega, show ((h.toNat : Nat) : Int) = h by omega, show ((i.toNat : Nat) : Int) = i by omega] at a
  rw [Bool.and_eq_true, Bool.or_eq_true] at a
  refine ⟨of_decide_eq_true a.1, fun z => ?_⟩
  rcases a.2 with x | x
  · have := of_decide_eq_true x; omega
  · exact of_decide_eq_true x
def WOK (N : Int) (w : Int → Int) (f : Int) : Prop := (∀ j, 0 ≤ j → j < f → 0 ≤ w j ∧ w j < N) ∧ ∀ i j, 0 ≤ i → i < f → 0 ≤ j → j < f → w i = w j → i = j
/-- the way so far is one-to-one, its houses are taken; so is the best -/
def SI (N f t : Int) (q : SQ) : Prop := WOK N q.1 f ∧ (∀ j, 0 ≤ j → j < f → zand (zshr t (q.1 j)) 1 = 1) ∧ (q.2.2.1 = -1 ∨ (0 ≤ q.2.2.1 ∧ WOK N q.2.2.2 N))
theorem SI.nx {N f t h : Int} {q : SQ} (hN : N ≤ 7) (ht : 0 ≤ t ∧ t < 128) (hh : 0 ≤ h ∧ h < N) (hf : 0 ≤ f) (s : SI N f t q) (hz : zand (zshr t h) 1 = 0) : SI N (f + 1) (zor t (zshl 1 h)) (setc q f h) := by
  obtain ⟨⟨a1, a2⟩, b, c⟩ := s
  have e : ∀ j, (setc q f h).1 j = if j = f then h else q.1 j := fun _ => rfl
  have ne : ∀ j, 0 ≤ j → j < f → q.1 j ≠ h := fun j j0 j1 w => by have := b j j0 j1; rw [w] at this; omega
  refine ⟨⟨fun j j0 j1 => ?_, fun i j i0 i1 j0 j1 w => ?_⟩, fun j j0 j1 => ?_, c⟩
  · rw [e]; by_cases z : j = f
    · rw [if_pos z]; exact hh
    · rw [if_neg z]; exact a1 j j0 (by omega)
  · rw [e, e] at w
    by_cases z : i = f
    · by_cases y : j = f
      · omega
      · rw [if_pos z, if_neg y] at w; exact absurd w.symm (ne j j0 (by omega))
    · by_cases y : j = f
      · rw [if_neg z, if_pos y] at w; exact absurd w (ne i i0 (by omega))
      · rw [if_neg z, if_neg y] at w; exact a2 i j i0 (by omega) j0 (by omega) w
  · rw [e]; by_cases z : j = f
    · rw [if_pos z]; exact (frv_at ht (show 0 ≤ h ∧ h < 7 by omega) (show 0 ≤ h ∧ h < 7 by omega)).1
    · rw [if_neg z]; have aj := a1 j j0 (by omega); exact (frv_at ht (show 0 ≤ h ∧ h < 7 by omega) (show 0 ≤ q.1 j ∧ q.1 j < 7 by omega)).2 (b j j0 (by omega))
theorem sw_cur (G : Int → Int → Int) (L : Int → Int) (N : Int) : ∀ (k : Nat) (f t s : Int) (q : SQ) (j : Int), j < f → (sw kpC G L N k f t s q).1 j = q.1 j
  | 0, _, _, _, _, _, _ => rfl
  | k + 1, f, t, s, q, j, hj => by
    have loop : ∀ (m : Nat) (h9 : Int) (q : SQ), (swJ (swo G L f t) (fun h q => sw kpC G L N k (f + 1) (zor t (zshl 1 h)) (s + G f h) (setc q f h)) m h9 q).1 j = q.1 j := by
      intro m
      induction m with
      | zero => intro h9 q; rfl
      | succ m ih =>
        intro h9 q
        refine (ih (h9 + 1) _).trans ?_
        by_cases z : swo G L f t h9 = true
        · rw [if_pos z]
          exact (sw_cur G L N k (f + 1) _ _ (setc q f h9) j (by omega)).trans (if_neg (by omega))
        · rw [if_neg z]
    exact loop N.toNat 0 q
theorem sw_inj {G : Int → Int → Int} {L : Int → Int} {N : Int} (hN : 0 ≤ N ∧ N ≤ 7) (hG : ∀ f h, 0 ≤ f → f < N → 0 ≤ h → h < N → 0 ≤ G f h) : ∀ (k : Nat) (f t s : Int) (q : SQ), 0 ≤ f → f + k = N → 0 ≤ s → (0 ≤ t ∧ t < 128) → SI N f t q → SI N f t (sw kpC G L N k f t s q)
  | 0, f, t, s, q, hf, hk, hs, ht, h => by
    have e : f = N := by omega
    subst e
    obtain ⟨a, b, c⟩ := h
    refine ⟨a, b, ?_⟩
    show (if q.2.2.1 < s then s else q.2.2.1) = -1 ∨ (0 ≤ (if q.2.2.1 < s then s else q.2.2.1) ∧ WOK f (if q.2.2.1 < s then q.1 else q.2.2.2) f)
    by_cases z : q.2.2.1 < s
    · rw [if_pos z, if_pos z]; exact .inr ⟨hs, a⟩
    · rw [if_neg z, if_neg z]; exact c
  | k + 1, f, t, s, q, hf, hk, hs, ht, h => by
    have loop : ∀ (m : Nat) (h9 : Int) (q : SQ), 0 ≤ h9 → h9 + m ≤ N → SI N f t q → SI N f t (swJ (swo G L f t) (fun h q => sw kpC G L N k (f + 1) (zor t (zshl 1 h)) (s + G f h) (setc q f h)) m h9 q) := by
      intro m
      induction m with
      | zero => intro h9 q _ _ h; exact h
      | succ m ih =>
        intro h9 q a0 a1 h
        refine ih (h9 + 1) _ (by omega) (by omega) ?_
        by_cases z : swo G L f t h9 = true
        · rw [if_pos z]
          have zz := of_decide_eq_true z
          have n1 := h.nx hN.2 ht (show 0 ≤ h9 ∧ h9 < N by omega) hf zz.1
          have fa := frt_at ht (show 0 ≤ h9 ∧ h9 < 7 by omega) (show 0 ≤ h9 ∧ h9 < 7 by omega)
          have r := sw_inj hN hG (L := L) k (f + 1) (zor t (zshl 1 h9)) (s + G f h9) (setc q f h9) (by omega) (by omega) (by have := hG f h9 hf (by omega) a0 (by omega); omega) fa.1 n1
          have keep := sw_cur G L N k (f + 1) (zor t (zshl 1 h9)) (s + G f h9) (setc q f h9)
          obtain ⟨⟨x1, x2⟩, y, c⟩ := h
          have kj : ∀ j, 0 ≤ j → j < f → (sw kpC G L N k (f + 1) (zor t (zshl 1 h9)) (s + G f h9) (setc q f h9)).1 j = q.1 j := fun j j0 j1 => by
            rw [keep j (by omega)]; exact if_neg (by omega)
          refine ⟨⟨fun j j0 j1 => by show 0 ≤ (sw _ _ _ _ k _ _ _ _).1 j ∧ (sw _ _ _ _ k _ _ _ _).1 j < N; rw [kj j j0 j1]; exact x1 j j0 j1, fun i j i0 i1 j0 j1 w => x2 i j i0 i1 j0 j1 ((kj i i0 i1).symm.trans (w.trans (kj j j0 j1)))⟩, fun j j0 j1 => by show zand (zshr t ((sw _ _ _ _ k _ _ _ _).1 j)) 1 = 1; rw [kj j j0 j1]; exact y j j0 j1, r.2.2⟩
        · rw [if_neg z]; exact h
    exact loop N.toNat 0 q (by omega) (by omega) h
/-- the swaps of a town -/
noncomputable def GG (μ : Int → Int) (f h : Int) : Int := BRT μ (AN μ) (HT μ) h (μ (210 + 2 * f)) (μ (211 + 2 * f))
noncomputable def GL (μ : Int → Int) (f : Int) : Int := GG μ f (μ (200 + f))
noncomputable def RW (μ : Int → Int) : SQ := sw kpR (GG μ) (GL μ) (μ 1) (μ 1).toNat 0 0 0 ((fun _ => 0), 0, 0, (fun _ => 0))
theorem GG_bd {μ : Int → Int} (hV : IM μ) {f h : Int} (hf : 0 ≤ f ∧ f < μ 1) : 0 ≤ GG μ f h ∧ GG μ f h ≤ 26000 := by
  have a := hV.wa f hf.1 hf.2
  have b := hV.n2
  exact BRTs_bd b.1 b.2 (by omega)
theorem sw_c {μ : Int → Int} (hV : IM μ) (h7 : μ 1 ≤ 7) (c e : Int → Int) : (sw kpC (GG μ) (GL μ) (μ 1) (μ 1).toNat 0 0 0 (c, 0, -1, e)).2.1 = (RW μ).2.1 ∧ (sw kpC (GG μ) (GL μ) (μ 1) (μ 1).toNat 0 0 0 (c, 0, -1, e)).2.2.1 = (RW μ).2.2.1 ∧ ∀ j, 0 ≤ j → j < μ 1 → (sw kpC (GG μ) (GL μ) (μ 1) (μ 1).toNat 0 0 0 (c, 0, -1, e)).2.2.2 j = (RW μ).2.2.2 j :=
  sw_eq (v := fun f => μ (200 + f)) ⟨hV.n1.1, h7⟩ (fun f h a b _ _ => (GG_bd hV ⟨a, b⟩).1) (fun f a b => hV.li f a b) (fun f g a b c d => hV.lj f g a b c d) (fun f _ _ => rfl)
theorem sw_r {μ : Int → Int} (hV : IM μ) (h7 : μ 1 ≤ 7) (c e : Int → Int) : (sw kpR (GG μ) (GL μ) (μ 1) (μ 1).toNat 0 0 0 (c, 0, 0, e)).2.1 = (RW μ).2.1 ∧ (sw kpR (GG μ) (GL μ) (μ 1) (μ 1).toNat 0 0 0 (c, 0, 0, e)).2.2.1 = (RW μ).2.2.1 ∧ ∀ j, 0 ≤ j → j < μ 1 → (sw kpR (GG μ) (GL μ) (μ 1) (μ 1).toNat 0 0 0 (c, 0, 0, e)).2.2.2 j = (RW μ).2.2.2 j := by
  have a := sw_eq (c := fun _ => 0) (e := fun _ => 0) (c' := c) (e' := e) (G := GG μ) (L := GL μ) (N := μ 1) (v := fun f => μ (200 + f)) ⟨hV.n1.1, h7⟩ (fun f h a b _ _ => (GG_bd hV ⟨a, b⟩).1) (fun f a b => hV.li f a b) (fun f g a b c d => hV.lj f g a b c d) (fun f _ _ => rfl)
  have b := sw_c hV h7 (fun _ => 0) (fun _ => 0)
  exact ⟨a.1.symm.trans b.1, a.2.1.symm.trans b.2.1, fun j j0 j1 => (a.2.2 j j0 j1).symm.trans (b.2.2 j j0 j1)⟩
theorem RW_ok {μ : Int → Int} (hV : IM μ) (h7 : μ 1 ≤ 7) : WOK (μ 1) (RW μ).2.2.2 (μ 1) := by
  have hn := hV.n1
  have hG : ∀ f h, 0 ≤ f → f < μ 1 → 0 ≤ h → h < μ 1 → 0 ≤ GG μ f h := fun f h a b _ _ => (GG_bd hV ⟨a, b⟩).1
  have a := sw_inj (L := GL μ) ⟨hn.1, h7⟩ hG (μ 1).toNat 0 0 0 ((fun _ => 0), 0, -1, (fun _ => 0)) (by omega) (by omega) (by omega) (by omega) ⟨⟨fun j j0 j1 => by omega, fun i j i0 i1 j0 j1 _ => by omega⟩, fun j j0 j1 => by omega, .inl rfl⟩
  have b := sw_c hV h7 (fun _ => 0) (fun _ => 0)
  have c7 := cp_7 (k := (μ 1).toNat) (by omega)
  have m := sw_rel ⟨hn.1, h7⟩ hG (L := GL μ) (μ 1).toNat 0 0 0 0 ((fun _ => 0), 0, -1, (fun _ => 0)) ((fun _ => 0), 0, 0, (fun _ => 0)) (by omega) (by omega) (by omega) (by omega) ⟨fun j j0 j1 => by omega, rfl, by show (0 : Int) ≤ 0 ∧ (0 : Int) ≤ 0; omega, .inl ⟨rfl, rfl⟩⟩
  have one := sw_one (v := fun f => μ (200 + f)) ⟨hn.1, h7⟩ (fun f a b => hV.li f a b) (fun f g a b c d => hV.lj f g a b c d) (fun f _ _ => rfl) (μ 1).toNat 0 0 0 0 (G := GG μ) (L := GL μ) ((fun _ => 0), 0, -1, (fun _ => 0)) (by omega) (by omega) (by omega) (fun j j0 j1 => by
    have vj := hV.li j j0 j1
    show zand (zshr 0 (μ (200 + j))) 1 = 0
    have : μ (200 + j) = 0 ∨ μ (200 + j) = 1 ∨ μ (200 + j) = 2 ∨ μ (200 + j) = 3 ∨ μ (200 + j) = 4 ∨ μ (200 + j) = 5 ∨ μ (200 + j) = 6 := by omega
    rcases this with z | z | z | z | z | z | z <;> rw [z] <;> decide) (Int.le_refl _) (Int.le_refl _) (by omega)
  have one : 1 ≤ (sw kpC (GG μ) (GL μ) (μ 1) (μ 1).toNat 0 0 0 ((fun _ => 0), 0, -1, (fun _ => 0))).2.1 := one
  have ok : WOK (μ 1) (sw kpC (GG μ) (GL μ) (μ 1) (μ 1).toNat 0 0 0 ((fun _ => 0), 0, -1, (fun _ => 0))).2.2.2 (μ 1) := by
    rcases m.2.2.2 with x | x
    · omega
    · rcases a.2.2 with y | y
      · omega
      · exact y.2
  exact ⟨fun j j0 j1 => by rw [← b.2.2 j j0 j1]; exact ok.1 j j0 j1, fun i j i0 i1 j0 j1 w => ok.2 i j i0 i1 j0 j1 (by rw [b.2.2 i i0 i1, b.2.2 j j0 j1]; exact w)⟩
