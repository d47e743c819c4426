/-! texts: bytes tb below n; the things in them -/
noncomputable def fx (q : Int → Prop) (p n : Int) : Int := if fI q p n = -1 then n else fI q p n
theorem fx_y {q : Int → Prop} {p n : Int} (h : p < n) (h0 : 0 ≤ p) (w : q p) : fx q p n = p := by
  unfold fx
  rw [fI_s h w, if_neg (by omega)]
theorem fx_n {q : Int → Prop} {p n : Int} (h : p < n) (w : ¬ q p) : fx q p n = fx q (p + 1) n := by
  unfold fx
  rw [fI_n h w]
theorem fx_e {q : Int → Prop} {p n : Int} (h : n ≤ p) : fx q p n = n := by
  unfold fx
  rw [fI_nil h, if_pos rfl]
theorem fx_r {q : Int → Prop} {p n : Int} (h : p ≤ n) (h0 : 0 ≤ p) : p ≤ fx q p n ∧ fx q p n ≤ n ∧ (fx q p n < n → q (fx q p n)) ∧ ∀ i, p ≤ i → i < fx q p n → ¬ q i := by
  unfold fx
  rcases fI_r (p := q) h with ⟨r1, r2⟩ | ⟨r1, r2, r3, r4⟩
  · rw [if_pos r1]; exact ⟨h, Int.le_refl _, fun z => absurd z (by omega), r2⟩
  · rw [if_neg (by omega)]; exact ⟨r1, by omega, fun _ => r3, r4⟩
/-- the first such place is told by what it is -/
theorem fx_u {q : Int → Prop} {p n k : Int} (h0 : 0 ≤ p) (hk : p ≤ k ∧ k ≤ n) (h1 : k < n → q k) (h2 : ∀ i, p ≤ i → i < k → ¬ q i) : fx q p n = k := by
  obtain ⟨r1, r2, r3, r4⟩ := fx_r (q := q) (show p ≤ n by omega) h0
  rcases Int.lt_trichotomy (fx q p n) k with z | z | z
  · exact absurd (r3 (by omega)) (h2 _ r1 z)
  · exact z
  · exact absurd (h1 (by omega)) (r4 k hk.1 z)
def isL (c : Int) : Prop := 97 ≤ c ∧ c ≤ 122
def isD (c : Int) : Prop := 48 ≤ c ∧ c ≤ 57
noncomputable def sk (tb : Int → Int) (n p : Int) : Int := fx (fun k => tb k ≠ 32) p n
noncomputable def wE (tb : Int → Int) (n p : Int) : Int := fx (fun k => ¬ isL (tb k)) p n
noncomputable def dE (tb : Int → Int) (n p : Int) : Int := fx (fun k => ¬ isD (tb k)) p n
noncomputable def bhd (tb : Int → Int) (n p : Int) : Int := @ite Int (isL (tb p)) (Classical.propDecidable _) (wE tb n (p + 1)) (@ite Int (isD (tb p)) (Classical.propDecidable _) (dE tb n (p + 1)) (p + 1))
theorem bhd_l {tb : Int → Int} {n p : Int} (h : isL (tb p)) : bhd tb n p = wE tb n (p + 1) := if_pos h
theorem LD {c : Int} (h : isD c) : ¬ isL c := fun q => by unfold isL isD at *; omega
theorem bhd_d {tb : Int → Int} {n p : Int} (h : isD (tb p)) : bhd tb n p = dE tb n (p + 1) := (if_neg (LD h)).trans (if_pos h)
theorem bhd_s {tb : Int → Int} {n p : Int} (h : ¬ isL (tb p)) (h2 : ¬ isD (tb p)) : bhd tb n p = p + 1 := (if_neg h).trans (if_neg h2)
theorem bhd_bd {tb : Int → Int} {n p : Int} (h0 : 0 ≤ p) (h : p < n) : p < bhd tb n p ∧ bhd tb n p ≤ n := by
  rcases Classical.em (isL (tb p)) with q | q
  · rw [bhd_l q]; have := fx_r (q := fun k => ¬ isL (tb k)) (show p + 1 ≤ n by omega) (by omega); unfold wE; omega
  · rcases Classical.em (isD (tb p)) with z | z
    · rw [bhd_d z]; have := fx_r (q := fun k => ¬ isD (tb k)) (show p + 1 ≤ n by omega) (by omega); unfold dE; omega
    · rw [bhd_s q z]; omega
/-- a number of k digits -/
def nv (tb : Int → Int) (p : Int) : Nat → Int
  | 0 => 0
  | k + 1 => 10 * nv tb p k + tb (p + k) - 48
def nvI (tb : Int → Int) (p e : Int) : Int := nv tb p (e - p).toNat
theorem nvI_s {tb : Int → Int} {p e : Int} (h : p ≤ e) : nvI tb p (e + 1) = 10 * nvI tb p e + tb e - 48 := by
  unfold nvI
  rw [show (e + 1 - p).toNat = (e - p).toNat + 1 by omega]
  show 10 * nv tb p (e - p).toNat + tb (p + ((e - p).toNat : Int)) - 48 = _
  rw [show p + ((e - p).toNat : Int) = e by omega]
theorem nvI_0 (tb : Int → Int) (p : Int) : nvI tb p p = 0 := by unfold nvI; rw [show (p - p).toNat = 0 by omega]; rfl
theorem nvI_bd {tb : Int → Int} {p e : Int} (h : p ≤ e) (h4 : e ≤ p + 4) (hd : ∀ i, p ≤ i → i < e → isD (tb i)) : 0 ≤ nvI tb p e ∧ nvI tb p e ≤ 9999 ∧ (e ≤ p + 3 → nvI tb p e ≤ 999) := by
  have g : ∀ i, p ≤ i → i < e → 48 ≤ tb i ∧ tb i ≤ 57 := hd
  have he : e = p ∨ e = p + 1 ∨ e = p + 1 + 1 ∨ e = p + 1 + 1 + 1 ∨ e = p + 1 + 1 + 1 + 1 := by omega
  rcases he with rfl | rfl | rfl | rfl | rfl
  · rw [nvI_0]; omega
  · rw [nvI_s (by omega), nvI_0]; have := g p (by omega) (by omega); omega
  · rw [nvI_s (by omega), nvI_s (by omega), nvI_0]; have := g p (by omega) (by omega); have := g (p + 1) (by omega) (by omega); omega
  · rw [nvI_s (by omega), nvI_s (by omega), nvI_s (by omega), nvI_0]; have := g p (by omega) (by omega); have := g (p + 1) (by omega) (by omega); have := g (p + 1 + 1) (by omega) (by omega); omega
  · rw [nvI_s (by omega), nvI_s (by omega), nvI_s (by omega), nvI_s (by omega), nvI_0]; have := g p (by omega) (by omega); have := g (p + 1) (by omega) (by omega); have := g (p + 1 + 1) (by omega) (by omega); have := g (p + 1 + 1 + 1) (by omega) (by omega); omega
/-- a word's place, as the class looks it up in the row of words -/
def wAt (tb : Int → Int) (p len : Int) : Nat → Int → Int → Int → Int
  | 0, _, _, _ => 3001
  | m + 1, i, w, fit => if sch 0 i = 32 then (if fit = len then w else wAt tb p len m (i + 1) (w + 1) 0) else if fit = -1 then wAt tb p len m (i + 1) w (-1) else if fit < len ∧ sch 0 i = tb (p + fit) then wAt tb p len m (i + 1) w (fit + 1) else wAt tb p len m (i + 1) w (-1)
def wdI (tb : Int → Int) (p e : Int) : Int := wAt tb p (e - p) 147 0 1000 0
theorem wAt_s {tb : Int → Int} {p len i w fit : Int} (h : i < 147) : wAt tb p len (147 - i).toNat i w fit = if sch 0 i = 32 then (if fit = len then w else wAt tb p len (147 - (i + 1)).toNat (i + 1) (w + 1) 0) else if fit = -1 then wAt tb p len (147 - (i + 1)).toNat (i + 1) w (-1) else if fit < len ∧ sch 0 i = tb (p + fit) then wAt tb p len (147 - (i + 1)).toNat (i + 1) w (fit + 1) else wAt tb p len (147 - (i + 1)).toNat (i + 1) w (-1) := by
  rw [show (147 - i).toNat = (147 - (i + 1)).toNat + 1 by omega]
  rfl
/-- the thing at p -/
noncomputable def th (tb : Int → Int) (n p : Int) : Int := if p = n then 3000 else @ite Int (isL (tb p)) (Classical.propDecidable _) (wdI tb p (bhd tb n p)) (@ite Int (isD (tb p)) (Classical.propDecidable _) (if 3 < bhd tb n p - p then 3001 else nvI tb p (bhd tb n p)) (2000 + tb p))
noncomputable def nx (tb : Int → Int) (n p : Int) : Int := sk tb n (bhd tb n p)
theorem th_e (tb : Int → Int) (n : Int) : th tb n n = 3000 := if_pos rfl
theorem th_l {tb : Int → Int} {n p : Int} (h : p ≠ n) (q : isL (tb p)) : th tb n p = wdI tb p (bhd tb n p) := (if_neg h).trans (if_pos q)
theorem th_d {tb : Int → Int} {n p : Int} (h : p ≠ n) (q : isD (tb p)) : th tb n p = if 3 < bhd tb n p - p then 3001 else nvI tb p (bhd tb n p) := (if_neg h).trans ((if_neg (LD q)).trans (if_pos q))
theorem th_s {tb : Int → Int} {n p : Int} (h : p ≠ n) (q : ¬ isL (tb p)) (q2 : ¬ isD (tb p)) : th tb n p = 2000 + tb p := (if_neg h).trans ((if_neg q).trans (if_neg q2))
theorem sk_bd {tb : Int → Int} {n p : Int} (h0 : 0 ≤ p) (h : p ≤ n) : p ≤ sk tb n p ∧ sk tb n p ≤ n := by
  have := fx_r (q := fun k => tb k ≠ 32) h h0
  unfold sk
  omega
theorem sk_sk {tb : Int → Int} {n p : Int} (h0 : 0 ≤ p) (h : p ≤ n) : sk tb n (sk tb n p) = sk tb n p := by
  obtain ⟨r1, r2, r3, r4⟩ := fx_r (q := fun k => tb k ≠ 32) h h0
  rcases Int.lt_or_eq_of_le r2 with z | z
  · exact fx_y z (Int.le_trans h0 r1) (r3 z)
  · show fx _ (fx _ p n) n = fx _ p n
    rw [z]; exact fx_e (Int.le_refl _)
theorem nx_bd {tb : Int → Int} {n p : Int} (h0 : 0 ≤ p) (h : p < n) : p < nx tb n p ∧ nx tb n p ≤ n := by
  have a := bhd_bd (tb := tb) h0 h
  have b := sk_bd (tb := tb) (show 0 ≤ bhd tb n p by omega) a.2
  unfold nx
  omega
theorem nx_sk {tb : Int → Int} {n p : Int} (h0 : 0 ≤ p) (h : p < n) : sk tb n (nx tb n p) = nx tb n p := by
  have a := bhd_bd (tb := tb) h0 h
  exact sk_sk (by omega) a.2
