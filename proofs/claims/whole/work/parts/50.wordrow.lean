/-! the row of words: which word stands at p -/
def WT : List (Nat × Nat) := [(0, 5), (6, 6), (13, 5), (19, 4), (24, 3), (28, 3), (32, 5), (38, 4), (43, 4), (48, 3), (52, 4), (57, 4), (62, 2), (65, 2), (68, 3), (72, 3), (76, 4), (81, 5), (87, 6), (94, 4), (99, 5), (105, 4), (110, 5), (116, 5), (122, 2), (125, 5), (131, 4), (136, 5), (142, 4)]
/-- the word of a text constant -/
def wq (q : Nat) : Nat := [0, 0, 1, 2, 3, 4, 5, 6, 7, 8, 16, 17, 18, 19, 20, 21, 22, 23, 15, 14, 13, 11, 9, 10, 12, 24, 25, 26, 27, 28].getD q 0
/-- this word is the one from p on -/
def MTW (tb : Int → Int) (p len : Int) (a : Nat × Nat) : Prop := len = a.2 ∧ ∀ j : Nat, j < a.2 → tb (p + j) = sch 0 (a.1 + j)
noncomputable def wfm (tb : Int → Int) (p len : Int) : List (Nat × Nat) → Int → Int
  | [], _ => 3001
  | a :: l, w => @ite Int (MTW tb p len a) (Classical.propDecidable _) w (wfm tb p len l (w + 1))
def wok : List (Nat × Nat) → Nat → Bool
  | [], i => Nat.beq i 147
  | a :: l, i => Nat.beq a.1 i && ((List.range a.2).all (fun j => !(decide (sch 0 (i + j : Nat) = 32))) && (decide (sch 0 (i + a.2 : Nat) = 32) && (Nat.ble (i + a.2 + 1) 147 && wok l (i + a.2 + 1))))
theorem WT_ok : wok WT 0 = true := by decide +kernel
theorem wAt_x {tb : Int → Int} {p len i w fit : Int} (h : i < 147) : wAt tb p len (147 - i).toNat i w fit = if sch 0 i = 32 then (if fit = len then w else wAt tb p len (147 - (i + 1)).toNat (i + 1) (w + 1) 0) else if fit = -1 then wAt tb p len (147 - (i + 1)).toNat (i + 1) w (-1) else if fit < len ∧ sch 0 i = tb (p + fit) then wAt tb p len (147 - (i + 1)).toNat (i + 1) w (fit + 1) else wAt tb p len (147 - (i + 1)).toNat (i + 1) w (-1) := wAt_s h
/-- a word that doesn't fit is passed over -/
theorem wAt_pass {tb : Int → Int} {p len w : Int} (hl : 0 ≤ len) : ∀ (m : Nat) (i : Int), i + m < 147 → (∀ j : Nat, j < m → sch 0 (i + j) ≠ 32) → sch 0 (i + m) = 32 → wAt tb p len (147 - i).toNat i w (-1) = wAt tb p len (147 - (i + m + 1)).toNat (i + m + 1) (w + 1) 0
  | 0, i, hb, _, he => by
    rw [wAt_x (by omega), if_pos (by have := he; rw [show i + ((0 : Nat) : Int) = i by omega] at this; exact this), if_neg (by omega), show i + ((0 : Nat) : Int) = i by omega]
  | m + 1, i, hb, hs, he => by
    rw [wAt_x (by omega), if_neg (by have := hs 0 (by omega); rw [show i + ((0 : Nat) : Int) = i by omega] at this; exact this), if_pos rfl]
    have := wAt_pass (tb := tb) (p := p) (w := w) hl m (i + 1) (by omega) (fun j q => by have := hs (j + 1) (by omega); rw [show i + ((j + 1 : Nat) : Int) = i + 1 + j by omega] at this; exact this) (by rw [show i + 1 + (m : Int) = i + ((m + 1 : Nat) : Int) by omega]; exact he)
    rw [this, show i + ((m + 1 : Nat) : Int) = i + 1 + (m : Int) by omega]
/-- from the k-th letter of a word on -/
theorem wAt_word {tb : Int → Int} {p len w : Int} (hl : 0 ≤ len) (i : Int) : ∀ (m k : Nat), i + k + m < 147 → (∀ j : Nat, j < m → sch 0 (i + k + j) ≠ 32) → sch 0 (i + k + m) = 32 → (k : Int) ≤ len →
    (((len = k + m ∧ ∀ j : Nat, j < m → tb (p + k + j) = sch 0 (i + k + j)) → wAt tb p len (147 - (i + k)).toNat (i + k) w k = w) ∧ (¬ (len = k + m ∧ ∀ j : Nat, j < m → tb (p + k + j) = sch 0 (i + k + j)) → wAt tb p len (147 - (i + k)).toNat (i + k) w k = wAt tb p len (147 - (i + k + m + 1)).toNat (i + k + m + 1) (w + 1) 0))
  | 0, k, hb, _, he, hk => by
    have e : sch 0 (i + k) = 32 := by have := he; rw [show i + (k : Int) + ((0 : Nat) : Int) = i + k by omega] at this; exact this
    rw [wAt_x (by omega), if_pos e]
    refine ⟨fun q => if_pos (by have := q.1; omega), fun q => ?_⟩
    rw [if_neg (fun z => q ⟨by omega, fun j hj => absurd hj (by omega)⟩), show i + (k : Int) + ((0 : Nat) : Int) = i + k by omega]
  | m + 1, k, hb, hs, he, hk => by
    have e : ¬ sch 0 (i + k) = 32 := by have := hs 0 (by omega); rw [show i + (k : Int) + ((0 : Nat) : Int) = i + k by omega] at this; exact this
    rw [wAt_x (by omega), if_neg e, if_neg (by omega)]
    by_cases g : (k : Int) < len ∧ sch 0 (i + k) = tb (p + k)
    · rw [if_pos g]
      have r := wAt_word (tb := tb) (p := p) (w := w) hl i m (k + 1) (by omega) (fun j q => by have := hs (j + 1) (by omega); rw [show i + (k : Int) + ((j + 1 : Nat) : Int) = i + ((k + 1 : Nat) : Int) + j by omega] at this; exact this) (by rw [show i + ((k + 1 : Nat) : Int) + (m : Int) = i + k + ((m + 1 : Nat) : Int) by omega]; exact he) (by omega)
      rw [show i + ((k + 1 : Nat) : Int) = i + k + 1 by omega, show ((k + 1 : Nat) : Int) = (k : Int) + 1 by omega] at r
      have iff1 : (len = (k : Int) + ((m + 1 : Nat) : Int) ∧ ∀ j : Nat, j < m + 1 → tb (p + k + j) = sch 0 (i + k + j)) ↔ (len = (k : Int) + 1 + m ∧ ∀ j : Nat, j < m → tb (p + (k + 1) + j) = sch 0 (i + k + 1 + j)) :=
        ⟨fun q => ⟨by omega, fun j hj => by have := q.2 (j + 1) (by omega); rw [show p + (k : Int) + ((j + 1 : Nat) : Int) = p + (k + 1) + j by omega, show i + (k : Int) + ((j + 1 : Nat) : Int) = i + k + 1 + j by omega] at this; exact this⟩,
         fun q => ⟨by omega, fun j hj => by
          cases j with
          | zero => rw [show p + (k : Int) + ((0 : Nat) : Int) = p + k by omega, show i + (k : Int) + ((0 : Nat) : Int) = i + k by omega]; exact g.2.symm
          | succ j => have := q.2 j (by omega); rw [show p + (k : Int) + ((j + 1 : Nat) : Int) = p + (k + 1) + j by omega, show i + (k : Int) + ((j + 1 : Nat) : Int) = i + k + 1 + j by omega]; exact this⟩⟩
      rw [iff1]
      refine ⟨r.1, fun q => ?_⟩
      rw [r.2 q, show i + (k : Int) + ((m + 1 : Nat) : Int) + 1 = i + k + 1 + m + 1 by omega]
    · rw [if_neg g]
      have nq : ¬ (len = (k : Int) + ((m + 1 : Nat) : Int) ∧ ∀ j : Nat, j < m + 1 → tb (p + k + j) = sch 0 (i + k + j)) := fun q => g ⟨by omega, by have := q.2 0 (by omega); rw [show p + (k : Int) + ((0 : Nat) : Int) = p + k by omega, show i + (k : Int) + ((0 : Nat) : Int) = i + k by omega] at this; exact this.symm⟩
      refine ⟨fun q => absurd q nq, fun _ => ?_⟩
      have r := wAt_pass (tb := tb) (p := p) (w := w) hl m (i + k + 1) (by omega) (fun j q => by have := hs (j + 1) (by omega); rw [show i + (k : Int) + ((j + 1 : Nat) : Int) = i + k + 1 + j by omega] at this; exact this) (by rw [show i + (k : Int) + 1 + (m : Int) = i + k + ((m + 1 : Nat) : Int) by omega]; exact he)
      rw [r, show i + (k : Int) + 1 + (m : Int) + 1 = i + k + ((m + 1 : Nat) : Int) + 1 by omega]
theorem wAt_wfm {tb : Int → Int} {p len : Int} (hl : 0 ≤ len) : ∀ (l : List (Nat × Nat)) (i : Nat) (w : Int), wok l i = true → wAt tb p len (147 - (i : Int)).toNat i w 0 = wfm tb p len l w
  | [], i, w, h => by
    have : i = 147 := Nat.eq_of_beq_eq_true h
    subst this
    rfl
  | a :: l, i, w, h => by
    unfold wok at h
    rw [Bool.and_eq_true, Bool.and_eq_true, Bool.and_eq_true, Bool.and_eq_true] at h
    obtain ⟨h1, h2, h3, h4, h5⟩ := h
    have e1 : a.1 = i := Nat.eq_of_beq_eq_true h1
    have e2 : ∀ j : Nat, j < a.2 → sch 0 ((i : Int) + j) ≠ 32 := fun j q => by
      have := List.all_eq_true.mp h2 j (List.mem_range.mpr q)
      have z : ¬ sch 0 ((i + j : Nat) : Int) = 32 := by simpa using this
      rw [show ((i + j : Nat) : Int) = (i : Int) + j by omega] at z
      exact z
    have e3 : sch 0 ((i : Int) + a.2) = 32 := by have z := of_decide_eq_true h3; rw [show ((i + a.2 : Nat) : Int) = (i : Int) + a.2 by omega] at z; exact z
    have e4 : i + a.2 + 1 ≤ 147 := Nat.le_of_ble_eq_true h4
    have r := wAt_word (tb := tb) (p := p) (w := w) hl (i : Int) a.2 0 (by omega) (fun j q => by rw [show (i : Int) + ((0 : Nat) : Int) + j = (i : Int) + j by omega]; exact e2 j q) (by rw [show (i : Int) + ((0 : Nat) : Int) + a.2 = (i : Int) + a.2 by omega]; exact e3) (by omega)
    have iff1 : (len = ((0 : Nat) : Int) + (a.2 : Int) ∧ ∀ j : Nat, j < a.2 → tb (p + ((0 : Nat) : Int) + j) = sch 0 ((i : Int) + ((0 : Nat) : Int) + j)) ↔ MTW tb p len a := by
      unfold MTW
      rw [e1]
      exact ⟨fun q => ⟨by have := q.1; omega, fun j hj => by have := q.2 j hj; rw [show p + ((0 : Nat) : Int) + (j : Int) = p + j by omega, show (i : Int) + ((0 : Nat) : Int) + (j : Int) = i + j by omega] at this; exact this⟩, fun q => ⟨by have := q.1; omega, fun j hj => by rw [show p + ((0 : Nat) : Int) + (j : Int) = p + j by omega, show (i : Int) + ((0 : Nat) : Int) + (j : Int) = i + j by omega]; exact q.2 j hj⟩⟩
    rw [iff1, show (i : Int) + ((0 : Nat) : Int) = i by omega] at r
    show _ = @ite Int (MTW tb p len a) (Classical.propDecidable _) w (wfm tb p len l (w + 1))
    rcases Classical.em (MTW tb p len a) with q | q
    · rw [if_pos q]; exact r.1 q
    · rw [if_neg q]
      have := wAt_wfm (tb := tb) (p := p) hl l (i + a.2 + 1) (w + 1) h5
      rw [show ((i + a.2 + 1 : Nat) : Int) = (i : Int) + a.2 + 1 by omega] at this
      exact (r.2 q).trans this
theorem wdI_wfm {tb : Int → Int} {p e : Int} (h : p ≤ e) : wdI tb p e = wfm tb p (e - p) WT 1000 := wAt_wfm (by omega) WT 0 1000 WT_ok
theorem wfm_bd {tb : Int → Int} {p len : Int} : ∀ (l : List (Nat × Nat)) (w : Int), wfm tb p len l w = 3001 ∨ (w ≤ wfm tb p len l w ∧ wfm tb p len l w < w + l.length)
  | [], w => .inl rfl
  | a :: l, w => by
    show @ite Int (MTW tb p len a) (Classical.propDecidable _) w _ = 3001 ∨ (w ≤ @ite Int (MTW tb p len a) (Classical.propDecidable _) w _ ∧ @ite Int (MTW tb p len a) (Classical.propDecidable _) w _ < w + ((l.length + 1 : Nat) : Int))
    rcases Classical.em (MTW tb p len a) with q | q
    · rw [if_pos q]; exact .inr ⟨Int.le_refl _, by omega⟩
    · rw [if_neg q]
      rcases wfm_bd (tb := tb) (p := p) (len := len) l (w + 1) with z | z
      · exact .inl z
      · exact .inr ⟨by omega, by omega⟩
def smw (a b : Nat × Nat) : Bool := Nat.beq a.2 b.2 && (List.range a.2).all (fun j => decide (sch 0 ((a.1 + j : Nat) : Int) = sch 0 ((b.1 + j : Nat) : Int)))
theorem MTW_u {tb : Int → Int} {p len : Int} {a b : Nat × Nat} (h : smw a b = false) (ha : MTW tb p len a) (hb : MTW tb p len b) : False := by
  have e : a.2 = b.2 := by have := ha.1; have := hb.1; omega
  have : smw a b = true := by
    unfold smw
    rw [Bool.and_eq_true]
    refine ⟨by rw [e]; exact Nat.beq_refl _, List.all_eq_true.mpr (fun j hj => decide_eq_true ?_)⟩
    have hj := List.mem_range.mp hj
    rw [show ((a.1 + j : Nat) : Int) = (a.1 : Int) + j by omega, show ((b.1 + j : Nat) : Int) = (b.1 : Int) + j by omega, ← ha.2 j hj, ← hb.2 j (by omega)]
  rw [h] at this
  cases this
theorem wfm_at {tb : Int → Int} {p len : Int} : ∀ (l : List (Nat × Nat)) (w : Int) (m : Nat) (a : Nat × Nat), l[m]? = some a → (∀ k b, k < m → l[k]? = some b → smw b a = false) → w + m < 3001 → (wfm tb p len l w = w + m ↔ MTW tb p len a)
  | [], _, _, _, h, _, _ => by simp at h
  | c :: l, w, 0, a, h, _, hw => by
    have e : c = a := by simpa using h
    subst e
    show @ite Int (MTW tb p len c) (Classical.propDecidable _) w _ = w + ((0 : Nat) : Int) ↔ _
    rcases Classical.em (MTW tb p len c) with q | q
    · rw [if_pos q]; exact ⟨fun _ => q, fun _ => by omega⟩
    · rw [if_neg q]
      refine ⟨fun z => ?_, fun z => absurd z q⟩
      rcases wfm_bd (tb := tb) (p := p) (len := len) l (w + 1) with y | y <;> omega
  | c :: l, w, m + 1, a, h, hd, hw => by
    have h2 : l[m]? = some a := by simpa using h
    have r := wfm_at (tb := tb) (p := p) (len := len) l (w + 1) m a h2 (fun k b hk hb => hd (k + 1) b (by omega) (by simpa using hb)) (by omega)
    show @ite Int (MTW tb p len c) (Classical.propDecidable _) w _ = w + ((m + 1 : Nat) : Int) ↔ _
    rcases Classical.em (MTW tb p len c) with q | q
    · rw [if_pos q]
      exact ⟨fun z => absurd z (by omega), fun z => (MTW_u (hd 0 c (by omega) (by simp)) q z).elim⟩
    · rw [if_neg q, ← r]
      exact ⟨fun z => by omega, fun z => by omega⟩
def dst : Nat → Bool := fun m => (List.range m).all (fun k => !(smw (WT.getD k (0, 0)) (WT.getD m (0, 0))))
theorem dst_ok : (List.range 29).all dst = true := by decide +kernel
theorem WT_len : WT.length = 29 := by decide
theorem wdI_at {tb : Int → Int} {p e : Int} (h : p ≤ e) {m : Nat} (hm : m < 29) : wdI tb p e = 1000 + m ↔ MTW tb p (e - p) (WT.getD m (0, 0)) := by
  rw [wdI_wfm h]
  have g : ∀ k, k < 29 → WT[k]? = some (WT.getD k (0, 0)) := fun k hk => by
    rw [List.getD_eq_getElem?_getD, List.getElem?_eq_getElem (by rw [WT_len]; exact hk)]; rfl
  refine wfm_at WT 1000 m _ (g m hm) (fun k b hk hb => ?_) (by omega)
  rw [g k (by omega)] at hb
  cases hb
  have a := List.all_eq_true.mp dst_ok m (List.mem_range.mpr hm)
  have b := List.all_eq_true.mp a k (List.mem_range.mpr hk)
  simpa using b
theorem wdI_bd {tb : Int → Int} {p e : Int} (h : p ≤ e) : wdI tb p e = 3001 ∨ (1000 ≤ wdI tb p e ∧ wdI tb p e < 1029) := by
  rw [wdI_wfm h]
  have := wfm_bd (tb := tb) (p := p) (len := e - p) WT 1000
  rw [WT_len] at this
  omega
def cst (q : Nat) : Bool := decide (slen q = ((WT.getD (wq q) (0, 0)).2 : Nat)) && ((List.range (WT.getD (wq q) (0, 0)).2).all (fun j => decide (sch q ((j : Nat) : Int) = sch 0 (((WT.getD (wq q) (0, 0)).1 + j : Nat) : Int))) && (Nat.blt (wq q) 29 && Nat.ble 1 (WT.getD (wq q) (0, 0)).2))
theorem cst_ok : (List.range' 1 29).all cst = true := by decide +kernel
/-- the text constant q is the word at p -/
theorem wword_at {tb : Int → Int} {p e : Int} (h : p ≤ e) {q : Nat} (h1 : 1 ≤ q) (h2 : q < 30) : (e - p = slen q ∧ ∀ j, 0 ≤ j → j < slen q → tb (p + j) = sch q j) ↔ wdI tb p e = 1000 + wq q := by
  have c := List.all_eq_true.mp cst_ok q (List.mem_range'_1.mpr ⟨h1, by omega⟩)
  unfold cst at c
  rw [Bool.and_eq_true, Bool.and_eq_true, Bool.and_eq_true] at c
  obtain ⟨c1, c2, c3, c4⟩ := c
  have c1 := of_decide_eq_true c1
  have c3 : wq q < 29 := Nat.le_of_ble_eq_true c3
  rw [wdI_at h c3]
  unfold MTW
  rw [c1]
  have c2' : ∀ j : Nat, j < (WT.getD (wq q) (0, 0)).2 → sch q (j : Int) = sch 0 (((WT.getD (wq q) (0, 0)).1 : Int) + j) := fun j hj => by
    have := of_decide_eq_true (List.all_eq_true.mp c2 j (List.mem_range.mpr hj))
    rw [show (((WT.getD (wq q) (0, 0)).1 + j : Nat) : Int) = ((WT.getD (wq q) (0, 0)).1 : Int) + j by omega] at this
    exact this
  refine and_congr_right (fun _ => ⟨fun z j hj => by rw [z j (by omega) (by omega)]; exact c2' j hj, fun z j j0 j1 => ?_⟩)
  have e1 : ((j.toNat : Nat) : Int) = j := by omega
  have := z j.toNat (by omega)
  rw [← c2' j.toNat (by omega), e1] at this
  exact this
theorem slen_1 {q : Nat} (h1 : 1 ≤ q) (h2 : q < 30) : 1 ≤ slen q := by
  have c := List.all_eq_true.mp cst_ok q (List.mem_range'_1.mpr ⟨h1, by omega⟩)
  unfold cst at c
  rw [Bool.and_eq_true, Bool.and_eq_true, Bool.and_eq_true] at c
  have := of_decide_eq_true c.1
  have := Nat.le_of_ble_eq_true c.2.2.2
  omega
/-- the word at p, as the reference looks -/
theorem th_word {tb : Int → Int} {n p : Int} (h0 : 0 ≤ p) (hp : p ≤ n) (hb : ∀ j, 0 ≤ j → j < n → 0 ≤ tb j ∧ tb j ≤ 255) {q : Nat} (h1 : 1 ≤ q) (h2 : q < 30) : (wE tb n p - p = slen q ∧ ∀ j, 0 ≤ j → j < slen q → tb (p + j) = sch q j) ↔ th tb n p = 1000 + wq q := by
  have s1 := slen_1 h1 h2
  have hw : wq q < 29 := by
    have c := List.all_eq_true.mp cst_ok q (List.mem_range'_1.mpr ⟨h1, by omega⟩)
    unfold cst at c
    rw [Bool.and_eq_true, Bool.and_eq_true, Bool.and_eq_true] at c
    exact Nat.le_of_ble_eq_true c.2.2.1
  rcases Int.lt_or_eq_of_le hp with z | z
  · rcases Classical.em (isL (tb p)) with w | w
    · have e : wE tb n p = bhd tb n p := (fx_n z (fun x => x w)).trans (bhd_l w).symm
      have b := bhd_bd (tb := tb) h0 z
      rw [e, th_l (by omega) w]
      exact wword_at (by omega) h1 h2
    · have e : wE tb n p = p := fx_y z h0 w
      rw [e]
      refine ⟨fun x => by have := x.1; omega, fun x => ?_⟩
      rcases Classical.em (isD (tb p)) with y | y
      · rw [th_d (by omega) y] at x
        split at x
        · omega
        · have := nvI_bd (tb := tb) (show p ≤ bhd tb n p by have := bhd_bd (tb := tb) h0 z; omega) (by omega) (bhd_dig h0 z y)
          omega
      · rw [th_s (by omega) w y] at x
        have := hb p h0 z
        omega
  · subst z
    rw [th_e]
    refine ⟨fun x => ?_, fun x => by omega⟩
    have : wE tb p p = p := fx_e (Int.le_refl _)
    rw [this] at x
    have := x.1
    omega
theorem th_bd {tb : Int → Int} {n p : Int} (h0 : 0 ≤ p) (hp : p ≤ n) (hb : ∀ j, 0 ≤ j → j < n → 0 ≤ tb j ∧ tb j ≤ 255) : (p = n ∧ th tb n p = 3000) ∨ (p < n ∧ isL (tb p) ∧ (th tb n p = 3001 ∨ (1000 ≤ th tb n p ∧ th tb n p < 1029))) ∨ (p < n ∧ isD (tb p) ∧ ((th tb n p = 3001 ∧ 3 < bhd tb n p - p) ∨ (0 ≤ th tb n p ∧ th tb n p ≤ 999 ∧ bhd tb n p - p ≤ 3 ∧ th tb n p = nvI tb p (bhd tb n p)))) ∨ (p < n ∧ ¬ isL (tb p) ∧ ¬ isD (tb p) ∧ th tb n p = 2000 + tb p ∧ 2000 ≤ th tb n p ∧ th tb n p ≤ 2255) := by
  rcases Int.lt_or_eq_of_le hp with z | z
  · have b := bhd_bd (tb := tb) h0 z
    rcases Classical.em (isL (tb p)) with w | w
    · refine .inr (.inl ⟨z, w, ?_⟩)
      rw [th_l (by omega) w]
      exact wdI_bd (by omega)
    · rcases Classical.em (isD (tb p)) with y | y
      · refine .inr (.inr (.inl ⟨z, y, ?_⟩))
        rw [th_d (by omega) y]
        by_cases x : 3 < bhd tb n p - p
        · rw [if_pos x]; exact .inl ⟨rfl, x⟩
        · rw [if_neg x]
          have := nvI_bd (tb := tb) (show p ≤ bhd tb n p by omega) (by omega) (bhd_dig h0 z y)
          exact .inr ⟨this.1, this.2.2 (by omega), by omega, rfl⟩
      · refine .inr (.inr (.inr ⟨z, w, y, th_s (by omega) w y, ?_⟩))
        rw [th_s (by omega) w y]
        have := hb p h0 z
        omega
  · exact .inl ⟨z, by rw [z]; exact th_e tb n⟩
theorem th_sign {tb : Int → Int} {n p c : Int} (h0 : 0 ≤ p) (hp : p ≤ n) (hb : ∀ j, 0 ≤ j → j < n → 0 ≤ tb j ∧ tb j ≤ 255) (hc : 0 ≤ c ∧ c ≤ 255) (hl : ¬ isL c) (hd : ¬ isD c) : (p < n ∧ tb p = c) ↔ th tb n p = 2000 + c := by
  rcases th_bd h0 hp hb with ⟨a, b⟩ | ⟨a, b, c2⟩ | ⟨a, b, c2⟩ | ⟨a, b, c2, d, e⟩
  · exact ⟨fun q => by omega, fun q => by omega⟩
  · exact ⟨fun q => absurd (q.2 ▸ b) hl, fun q => by omega⟩
  · exact ⟨fun q => absurd (q.2 ▸ b) hd, fun q => by omega⟩
  · exact ⟨fun q => by omega, fun q => ⟨a, by omega⟩⟩
