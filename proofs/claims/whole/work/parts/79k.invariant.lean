/-- the lease's code lies in a cell told by row r -/
def LRK (r : Nat) (I : qI) (H : qS) (l : Int) (c : List Int) : Prop := ∃ cl9, H.1 r l = some cl9 ∧ (101 ≤ cl9 ∧ cl9 < H.2.2.2 + 3) ∧ H.2.1 cl9 = (c.length : Int) ∧ c.length ≤ 2147483646 ∧ ∀ i : Nat, i < c.length → I cl9 (i : Int) = c.getD i 0
theorem LRK.fr {r r' : Nat} {I J : qI} {H G : qS} {l : Int} {c : List Int} (h : LRK r I H l c) (f : ∀ a, 101 ≤ a → a < H.2.2.2 + 3 → J a = I a) (e : G.1 r' l = H.1 r l) (g : ∀ a, 101 ≤ a → a < H.2.2.2 + 3 → G.2.1 a = H.2.1 a) (n : H.2.2.2 ≤ G.2.2.2) : LRK r' J G l c := by
  obtain ⟨a, h1, h2, h3, h4, h5⟩ := h
  exact ⟨a, e.trans h1, ⟨h2.1, by omega⟩, (g a h2.1 h2.2).trans h3, h4, fun i hi => by rw [f a h2.1 h2.2]; exact h5 i hi⟩
def LL (r : Nat) (I : qI) (H : qS) (μ : Int → Int) : Prop := ∀ l, 0 ≤ l → l < μ 3 → LRK r I H l (LCo μ l)
theorem LL.fr {r r' : Nat} {I J : qI} {H G : qS} {μ : Int → Int} (h : LL r I H μ) (f : ∀ a, 101 ≤ a → a < H.2.2.2 + 3 → J a = I a) (e : ∀ l, 0 ≤ l → l < μ 3 → G.1 r' l = H.1 r l) (g : ∀ a, 101 ≤ a → a < H.2.2.2 + 3 → G.2.1 a = H.2.1 a) (n : H.2.2.2 ≤ G.2.2.2) : LL r' J G μ :=
  fun l q0 q1 => (h l q0 q1).fr f (e l q0 q1) g n
theorem LU_cg {μ ν : Int → Int} {l : Int} (hn : μ (546 + 401 * l) ≤ 400) (h : ∀ j, 546 + 401 * l ≤ j → j < 947 + 401 * l → ν j = μ j) : LU ν l = LU μ l := by
  unfold LU
  rw [h (546 + 401 * l) (by omega) (by omega), show (fun k0 => if 0 ≤ k0 ∧ k0 < μ (546 + 401 * l) then ν (547 + 401 * l + k0) else 0) = (fun k0 => if 0 ≤ k0 ∧ k0 < μ (546 + 401 * l) then μ (547 + 401 * l + k0) else 0) from funext fun k0 => by
    by_cases z : 0 ≤ k0 ∧ k0 < μ (546 + 401 * l)
    · rw [if_pos z, if_pos z, h _ (by omega) (by omega)]
    · rw [if_neg z, if_neg z]]
theorem LOK.cg {μ ν : Int → Int} (k : LOK μ) (h6 : μ 3 ≤ 6) (h : ∀ j, 546 ≤ j → j < 2952 → ν j = μ j) (h3 : ν 3 = μ 3) : LOK ν := fun l q0 q1 => by
  rw [h3] at q1
  have w := k l q0 q1
  rw [LU_cg w.1.2 (fun j a b => h j (by omega) (by omega)), h (546 + 401 * l) (by omega) (by omega)]
  exact ⟨w.1, fun j a b => by rw [h _ (by omega) (by omega)]; exact w.2.1 j a b, w.2.2⟩
theorem LL.cg {r : Nat} {I : qI} {H : qS} {μ ν : Int → Int} (k : LL r I H μ) (o : LOK μ) (h6 : μ 3 ≤ 6) (h : ∀ j, 546 ≤ j → j < 2952 → ν j = μ j) (h3 : ν 3 = μ 3) : LL r I H ν := fun l q0 q1 => by
  rw [h3] at q1
  unfold LCo
  rw [LU_cg (o l q0 q1).1.2 (fun j a b => h j (by omega) (by omega))]
  exact k l q0 q1
theorem tln_3 {tb : Int → Int} {n p : Int} {μ : Int → Int} (hV : IM μ) : (tln tb n p μ).2.1 3 = μ 3 := by
  have n1 := hV.n1
  have n2 := hV.n2
  unfold tln
  split
  · rfl
  · rename_i q
    split
    · unfold thou
      split
      · rfl
      · split
        · rfl
        · exact uHou_o _ _ _ (by omega) 3 (by omega)
    · split
      · unfold twin
        split
        · rfl
        · split
          · rfl
          · split
            · rfl
            · exact uWin_o _ _ _ _ (by omega) 3 (by omega)
      · split
        · unfold twnd
          split
          · rfl
          · split
            · rfl
            · split
              · rfl
              · exact uWnd_o _ _ _ _ 3 (by omega)
        · by_cases w : 0 ≤ th tb n (nx tb n p) ∧ th tb n (nx tb n p) ≤ (if th tb n p = 1003 then 20 else 95)
          · rw [tdia_2 w]; exact uDia_o _ _ _ 3 (by omega)
          · rw [tdia_1 w]
theorem tln_3q {tb : Int → Int} {n : Int} {μ : Int → Int} (hV : IM μ) : (lnT tb n (tln tb n) μ).2 3 = μ 3 :=
  (lnT_inv (fun c => IM c ∧ c 3 = μ 3) (fun p c h => ⟨tln_im h.1, (tln_3 h.1).trans h.2⟩) (tb := tb) (n := n) (ln := tln tb n) ⟨hV, rfl⟩).2
/-- what was kept -/
def KP (I : qI) (H : qS) : Prop := I 90 3 = I 3 10 ∧ (¬ I 3 10 = 0 → TR 48 I (I 92) ∧ IM (I 92) ∧ LOK (I 92) ∧ LL 68 I H (I 92))
theorem KP.fr {I J : qI} {H G : qS} (h : KP I H) (e : J 90 3 = I 90 3) (e3 : J 3 10 = I 3 10) (e2 : J 92 = I 92) (k : ∀ a, 48 ≤ a → a < 69 → J a = I a) (f : ∀ a, 101 ≤ a → a < H.2.2.2 + 3 → J a = I a) (q : ∀ l, G.1 68 l = H.1 68 l) (g : ∀ a, 101 ≤ a → a < H.2.2.2 + 3 → G.2.1 a = H.2.1 a) (n : H.2.2.2 ≤ G.2.2.2) : KP J G := by
  refine ⟨by rw [e, e3]; exact h.1, fun z => ?_⟩
  rw [e3] at z
  obtain ⟨a, b, c, d⟩ := h.2 z
  rw [e2]
  exact ⟨a.fr (fun x x1 x2 => k x x1 (by omega)), b, c, d.fr f (fun l _ _ => q l) g n⟩
/-- the tapes -/
def TP (I : qI) : Prop := I 90 6 = I 4 1 ∧ (0 ≤ I 4 1 ∧ I 4 1 ≤ 400) ∧ (∀ j, 0 ≤ j → j < I 4 1 → I 94 j = I 5 j) ∧ (∀ j, 0 ≤ j → j < I 4 1 → 0 ≤ I 5 j ∧ I 5 j ≤ 255)
theorem TP.fr {I J : qI} (h : TP I) (e : J 90 6 = I 90 6) (e4 : J 4 = I 4) (e5 : J 5 = I 5) (e9 : J 94 = I 94) : TP J := by
  unfold TP at *
  rw [e, e4, e5, e9]
  exact h
theorem TP.z {J : qI} (e : J 90 6 = 0) (e4 : J 4 1 = 0) : TP J := by
  unfold TP
  rw [e, e4]
  exact ⟨rfl, ⟨by omega, by omega⟩, fun j a b => absurd b (by omega), fun j a b => absurd b (by omega)⟩
def FX (i : Int) (I : qI) : Prop := (∃ F, FB F ∧ FR I F) ∧ (-200000000 * (i + 1) ≤ I 90 17 ∧ I 90 17 ≤ 200000000 * (i + 1))
theorem FX.fr {i : Int} {I J : qI} (h : FX i I) (e : J 95 = I 95) (f : ∀ s, s = 17 ∨ (13 ≤ s ∧ s ≤ 15) → J 90 s = I 90 s) : FX (i + 6) J := by
  obtain ⟨⟨F, a, b⟩, c⟩ := h
  refine ⟨⟨F, a, ?_⟩, by rw [f 17 (by omega)]; omega⟩
  unfold FR at *
  rw [e, f 13 (by omega), f 14 (by omega), f 15 (by omega)]
  exact b
theorem FX.of {i : Int} {J : qI} (h : FE J) (hi : 0 ≤ i) : FX (i + 6) J := ⟨h.1, by have := h.2; omega⟩
/-- the law's invariant: script f of length L, place i -/
def LI (f : Int → Int) (L i : Int) (I : qI) (H : qS) : Prop :=
  Shp H ∧ SX I ∧ (I 2 = f ∧ H.2.1 2 = L) ∧ (TR 6 I (I 91) ∧ IM (I 91) ∧ LOK (I 91) ∧ LL 26 I H (I 91)) ∧ (CT 27 I ∧ CT 48 I) ∧ MS I ∧ KP I H ∧ TP I ∧ FX i I ∧ I 90 10 = I 3 11
theorem LI.lr {f : Int → Int} {L i : Int} {I : qI} {H : qS} (h : LI f L i I H) : ∀ l, 0 ≤ l → l < I 91 3 → LRC I H l (LCo (I 91) l) := h.2.2.2.1.2.2.2
/-- a question: of what counts nothing changes -/
theorem LI.qf {f : Int → Int} {L i : Int} {I K : qI} {H : qS} (h : LI f L i I H) (a : ∀ a, a < 79 ∨ a = 91 ∨ a = 92 ∨ a = 94 ∨ 101 ≤ a → K a = I a) (s : ∀ s, s = 3 ∨ s = 6 ∨ s = 10 → K 90 s = I 90 s) (m : MS K) (x : FX (i + 6) K) : LI f L (i + 6) K H := by
  obtain ⟨h1, h2, h3, ⟨h4, h5, h6, h7⟩, ⟨h8, h9⟩, _, h10, h11, _, h12⟩ := h
  refine ⟨h1, h2.fr (a 0 (by omega)) (a 1 (by omega)), ⟨(a 2 (by omega)).trans h3.1, h3.2⟩, ?_, ⟨h8.fr (fun b q1 q2 => a b (by omega)), h9.fr (fun b q1 q2 => a b (by omega))⟩, m, ?_, ?_, x, by rw [s 10 (by omega), a 3 (by omega)]; exact h12⟩
  · rw [a 91 (by omega)]
    exact ⟨h4.fr (fun b q1 q2 => a b (by omega)), h5, h6, h7.fr (fun b q1 q2 => a b (by omega)) (fun _ _ _ => rfl) (fun _ _ _ => rfl) (Nat.le_refl _)⟩
  · exact h10.fr (s 3 (by omega)) (by rw [a 3 (by omega)]) (a 92 (by omega)) (fun b q1 q2 => a b (by omega)) (fun b q1 q2 => a b (by omega)) (fun _ => rfl) (fun _ _ _ => rfl) (Nat.le_refl _)
  · exact h11.fr (s 6 (by omega)) (a 4 (by omega)) (a 5 (by omega)) (a 94 (by omega))
theorem LI.q {f : Int → Int} {L i : Int} {I J K : qI} {H : qS} {v : Int} (h : LI f L i I H) (c : CF I J) (m : MF (upI J 100 0 v) K) : LI f L (i + 6) K H :=
  h.qf (fun a q => (m.1 a (by omega)).trans ((upI_cell (by omega)).trans (c a (by omega)))) (fun s q => (m.2.1 s (by omega)).trans (by rw [upI_cell (by omega), c 90 (by omega)])) m.2.2
    (h.2.2.2.2.2.2.2.2.1.fr ((m.1 95 (by omega)).trans ((upI_cell (by omega)).trans (c 95 (by omega)))) (fun s q => (m.2.1 s (by omega)).trans (by rw [upI_cell (by omega), c 90 (by omega)])))
theorem LI.m {f : Int → Int} {L i : Int} {I J K : qI} {H : qS} (h : LI f L i I H) (c : CF I J) (m : MF J K) : LI f L (i + 6) K H :=
  h.qf (fun a q => (m.1 a (by omega)).trans (c a (by omega))) (fun s q => (m.2.1 s (by omega)).trans (by rw [c 90 (by omega)])) m.2.2
    (h.2.2.2.2.2.2.2.2.1.fr ((m.1 95 (by omega)).trans (c 95 (by omega))) (fun s q => (m.2.1 s (by omega)).trans (by rw [c 90 (by omega)])))
theorem LI.r {f : Int → Int} {L i : Int} {I J K : qI} {H : qS} {v : Int} (h : LI f L i I H) (hi : 0 ≤ i) (c : CF I J) (m : MR (upI J 100 0 v) K) : LI f L (i + 6) K H :=
  h.qf (fun a q => (m.1 a (by omega)).trans ((upI_cell (by omega)).trans (c a (by omega)))) (fun s q => (m.2.1 s (by omega)).trans (by rw [upI_cell (by omega), c 90 (by omega)])) m.2.2.1 (FX.of m.2.2.2 hi)
/-- an update: the row is ν -/
theorem LI.uf {f : Int → Int} {L i : Int} {I K : qI} {H : qS} {ν : Int → Int} (h : LI f L i I H) (a : ∀ a, a < 6 ∨ (27 ≤ a ∧ a < 79) ∨ a = 92 ∨ a = 94 ∨ 101 ≤ a → K a = I a) (s : ∀ s, s = 3 ∨ s = 6 ∨ s = 10 → K 90 s = I 90 s) (m : MS K) (x : FX (i + 6) K) (e : K 91 = ν) (t : TR 6 K ν) (v : IM ν) (n : ∀ j, 546 ≤ j → ν j = I 91 j) (n3 : ν 3 = I 91 3) : LI f L (i + 6) K H := by
  obtain ⟨h1, h2, h3, ⟨h4, h5, h6, h7⟩, ⟨h8, h9⟩, _, h10, h11, _, h12⟩ := h
  refine ⟨h1, h2.fr (a 0 (by omega)) (a 1 (by omega)), ⟨(a 2 (by omega)).trans h3.1, h3.2⟩, ?_, ⟨h8.fr (fun b q1 q2 => a b (by omega)), h9.fr (fun b q1 q2 => a b (by omega))⟩, m, ?_, ?_, x, by rw [s 10 (by omega), a 3 (by omega)]; exact h12⟩
  · rw [e]
    exact ⟨t, v, h6.cg h5.n3.2 (fun j q _ => n j q) n3, (h7.fr (fun b q1 q2 => a b (by omega)) (fun _ _ _ => rfl) (fun _ _ _ => rfl) (Nat.le_refl _)).cg h6 h5.n3.2 (fun j q _ => n j q) n3⟩
  · exact h10.fr (s 3 (by omega)) (by rw [a 3 (by omega)]) (a 92 (by omega)) (fun b q1 q2 => a b (by omega)) (fun b q1 q2 => a b (by omega)) (fun _ => rfl) (fun _ _ _ => rfl) (Nat.le_refl _)
  · exact h11.fr (s 6 (by omega)) (a 4 (by omega)) (a 5 (by omega)) (a 94 (by omega))
theorem LI.u0 {f : Int → Int} {L i : Int} {I J K : qI} {H : qS} {ν : Int → Int} (h : LI f L i I H) (c : CU I J ν) (m : MU J K ν) (v : IM ν) (n : ∀ j, 546 ≤ j → ν j = I 91 j) (n3 : ν 3 = I 91 3) : LI f L (i + 6) K H :=
  h.uf (fun a q => (m.1 a (by omega)).trans (c.1 a (by omega))) (fun s q => (m.2.1 s (by omega)).trans (by rw [c.1 90 (by omega)])) m.2.2.1
    (h.2.2.2.2.2.2.2.2.1.fr ((m.1 95 (by omega)).trans (c.1 95 (by omega))) (fun s q => (m.2.1 s (by omega)).trans (by rw [c.1 90 (by omega)]))) m.2.2.2 (c.2.fr (fun a q1 q2 => m.1 a (by omega))) v n n3
theorem LI.u {f : Int → Int} {L i : Int} {I J K : qI} {H : qS} {ν : Int → Int} {w : Int} (h : LI f L i I H) (c : CU I J ν) (m : MU (upI J 100 0 w) K ν) (v : IM ν) (n : ∀ j, 546 ≤ j → ν j = I 91 j) (n3 : ν 3 = I 91 3) : LI f L (i + 6) K H :=
  h.uf (fun a q => (m.1 a (by omega)).trans ((upI_cell (by omega)).trans (c.1 a (by omega)))) (fun s q => (m.2.1 s (by omega)).trans (by rw [upI_cell (by omega), c.1 90 (by omega)])) m.2.2.1
    (h.2.2.2.2.2.2.2.2.1.fr ((m.1 95 (by omega)).trans ((upI_cell (by omega)).trans (c.1 95 (by omega)))) (fun s q => (m.2.1 s (by omega)).trans (by rw [upI_cell (by omega), c.1 90 (by omega)]))) m.2.2.2 (c.2.fr (fun a q1 q2 => (m.1 a (by omega)).trans (upI_cell (by omega)))) v n n3
