/-! THE BYTECODE DOES WHAT THE ABSTRACT MACHINE DOES: values, cells, states -/
theorem oi_bm (z : Int) : (Int32.ofInt z).toInt = z.bmod 4294967296 := Int32.toInt_ofInt
theorem ol_bm (z : Int) : (Int64.ofInt z).toInt = z.bmod 18446744073709551616 := Int64.toInt_ofInt
theorem oi_toInt {z : Int} (h : inR z) : (Int32.ofInt z).toInt = z := by
  rw [oi_bm, Int.bmod_eq_of_le (by have := h.1; omega) (by have := h.2; omega)]
theorem oi_as (x : Int32) : Int32.ofInt x.toInt = x := Int32.ofInt_toInt x
theorem oi_rng (x : Int32) : inR x.toInt := by
  have h1 := Int32.le_toInt x
  have h2 := Int32.toInt_lt x
  exact ⟨by omega, by omega⟩
theorem ol_toInt {z : Int} (h : inL z) : (Int64.ofInt z).toInt = z := by
  rw [ol_bm, Int.bmod_eq_of_le (by have := h.1; omega) (by have := h.2; omega)]
theorem ol_rng (x : Int64) : inL x.toInt := by
  have h1 := Int64.le_toInt x
  have h2 := Int64.toInt_lt x
  exact ⟨by omega, by omega⟩
theorem inR_L {z : Int} (h : inR z) : inL z := by unfold inR at h; unfold inL; omega
theorem wrp_in (z : Int) : inR (wrp z) := by unfold inR wrp; omega
theorem wrp_of {z : Int} (h : inR z) : wrp z = z := by unfold inR at h; unfold wrp; omega
theorem oi_wrp (z : Int) : Int32.ofInt (wrp z) = Int32.ofInt z := by
  apply Int32.toInt_inj.mp
  rw [oi_bm, oi_bm]
  unfold wrp
  rw [Int.bmod_def, Int.bmod_def]
  split <;> split <;> omega
theorem oi_add (a b : Int) : Int32.ofInt (wrp (a + b)) = Int32.ofInt a + Int32.ofInt b := by rw [oi_wrp, Int32.ofInt_add]
theorem oi_sub (a b : Int) : Int32.ofInt (wrp (a - b)) = Int32.ofInt a - Int32.ofInt b := by rw [oi_wrp, Int32.ofInt_sub]
theorem oi_mul (a b : Int) : Int32.ofInt (wrp (a * b)) = Int32.ofInt a * Int32.ofInt b := by rw [oi_wrp, Int32.ofInt_mul]
theorem oi_neg (a : Int) : Int32.ofInt (wrp (-a)) = -Int32.ofInt a := by rw [oi_wrp, Int32.ofInt_neg]
theorem oi_eq {a b : Int} (ha : inR a) (hb : inR b) : Int32.ofInt a = Int32.ofInt b ↔ a = b :=
  ⟨fun h => by rw [← oi_toInt ha, ← oi_toInt hb, h], fun h => by rw [h]⟩
theorem oi_lt {a b : Int} (ha : inR a) (hb : inR b) : Int32.ofInt a < Int32.ofInt b ↔ a < b := by
  rw [Int32.lt_iff_toInt_lt, oi_toInt ha, oi_toInt hb]
theorem oi_le {a b : Int} (ha : inR a) (hb : inR b) : Int32.ofInt a ≤ Int32.ofInt b ↔ a ≤ b := by
  rw [Int32.le_iff_toInt_le, oi_toInt ha, oi_toInt hb]
theorem in0 : inR 0 := ⟨by decide, by decide⟩
theorem oi_0 : Int32.ofInt 0 = 0 := rfl
theorem oi_div {a b : Int} (ha : inR a) (hb : inR b) : Int32.ofInt (wrp (a.tdiv b)) = Int32.ofInt a / Int32.ofInt b := by
  apply Int32.toInt_inj.mp
  rw [oi_wrp, Int32.toInt_ofInt, Int32.toInt_div, oi_toInt ha, oi_toInt hb]
theorem oi_rem {a b : Int} (ha : inR a) (hb : inR b) : Int32.ofInt (a.tmod b) = Int32.ofInt a - Int32.ofInt a / Int32.ofInt b * Int32.ofInt b := by
  rw [← oi_div ha hb, oi_wrp, ← Int32.ofInt_mul, ← Int32.ofInt_sub]
  congr 1
  have := Int.mul_tdiv_add_tmod a b
  rw [Int.mul_comm b] at this
  omega
theorem tmod_in {a b : Int} (ha : inR a) (hb : inR b) (h0 : b ≠ 0) : inR (a.tmod b) := by
  unfold inR at *
  rcases Int.lt_or_gt_of_ne h0 with h | h
  · have h1 := tmod_bounds (a := a) (M := -b) (by omega)
    rw [Int.tmod_neg] at h1
    omega
  · have h1 := tmod_bounds (a := a) (M := b) h
    omega
theorem oi_clamp {i : Int} (h0 : 0 ≤ i) (h : inR i) : (Int32.ofInt i).toNatClampNeg = i.toNat := by
  show (Int32.ofInt i).toInt.toNat = i.toNat
  rw [oi_toInt h]
theorem oi_in {i : Int} {n : Nat} (h0 : 0 ≤ i) (hi : inR i) (h : i.toNat < n) : vp_in (Int32.ofInt i) n := by
  rintro (h1 | h1)
  · rw [← oi_0, oi_lt hi in0] at h1
    omega
  · rw [oi_clamp h0 hi] at h1
    omega
/-- what a value is in the machine: ad, adT, adS: where cells, static rows, texts lie -/
def cv (ad adT adS : Nat → Nat) : qV → Value
  | .inl z => .int (Int32.ofInt z)
  | .inr (.inl z) => .long (Int64.ofInt z)
  | .inr (.inr (none, _)) => .null
  | .inr (.inr (some a, k)) => .ref (if k = 100 then adS a else if k = 101 ∨ k = 102 then adT a else ad a)
def wr (H : qS) (a k : Nat) : Prop := if k = 100 then a < nstr else if k = 101 then a < 2 else if k = 102 then a = 2 else 3 ≤ a ∧ a < H.2.2.2 + 3 ∧ H.2.2.1 a = k
/-- a value speaks of what is there -/
def wv (H : qS) : qV → Prop
  | .inl z => inR z
  | .inr (.inl z) => inL z
  | .inr (.inr (none, k)) => k = 11
  | .inr (.inr (some a, k)) => wr H a k
def fvl (ad : Nat → Nat) (I : qI) (H : qS) (a k j : Nat) : Value := if ftp k j = 0 then .int (Int32.ofInt (I a j)) else if ftp k j = 1 then va_rf ((H.1 a j).map ad) else .long (Int64.ofInt (I a j))
/-- what cell a holds -/
def ecl (cI cJ cL : ClassId) (ad : Nat → Nat) (I : qI) (H : qS) (a : Nat) : va_E :=
  if H.2.2.1 a < 11 then .inr (H.2.2.1 a, (List.range (nfl (H.2.2.1 a))).map (fvl ad I H a (H.2.2.1 a)))
  else if H.2.2.1 a = 11 then .inl (cI, (H.2.1 a).toNat, .inl (fun j => Int32.ofInt (I a j)))
  else if H.2.2.1 a = 12 then .inl (cJ, (H.2.1 a).toNat, .inr (.inr (.inr (.inr (fun j => (H.1 a j).map ad)))))
  else .inl (cL, (H.2.1 a).toNat, .inr (.inl (fun j => Int64.ofInt (I a j))))
def pool (cI cJ cL : ClassId) (ad : Nat → Nat) (g : qH) : va_W := (List.range g.2.2.2.2).map (fun i => (ad (i + 3), ecl cI cJ cL ad g.1 g.2 (i + 3)))
/-- slots that hold longs -/
def lng (k : Nat) (j : Int) : Bool := Nat.beq k 13 || (Nat.beq k 10 && decide (j = 17))
def stX : Nat → Int := fun j => [0, 1, 1, 1, 0, -1, -1, -1].getD j 0
def stY : Nat → Int := fun j => [1, 1, 0, -1, -1, -1, 0, 1].getD j 0
/-- the heap speaks of what is there; the static rows and the script (L ints xs) are as they are -/
def whp (L : Nat) (xs : Nat → Int32) (g : qH) : Prop :=
  (∀ a j, inL (g.1 a j)) ∧ (∀ a j, lng (g.2.2.2.1 a) j = false → inR (g.1 a j)) ∧
  (∀ a j b, 3 ≤ a → a < g.2.2.2.2 + 3 → g.2.1 a j = some b → 3 ≤ b ∧ b < g.2.2.2.2 + 3 ∧ g.2.2.2.1 b = fkd (g.2.2.2.1 a) j) ∧
  (∀ a, 0 ≤ g.2.2.1 a ∧ g.2.2.1 a ≤ 100000) ∧ (∀ a, g.2.2.2.1 a < 14) ∧
  g.2.2.1 0 = 8 ∧ g.2.2.1 1 = 8 ∧ g.2.2.1 2 = (L : Int) ∧ (∀ j : Nat, j < 8 → g.1 0 j = stX j) ∧ (∀ j : Nat, j < 8 → g.1 1 j = stY j) ∧ (∀ j : Nat, j < L → g.1 2 j = (xs j).toInt) ∧ g.2.2.2.1 0 = 11 ∧ g.2.2.2.1 1 = 11 ∧ g.2.2.2.1 2 = 11 ∧ L ≤ 3072
def ext (ad ad' : Nat → Nat) (H H' : qS) : Prop := H.2.2.2 ≤ H'.2.2.2 ∧ ∀ a, a < H.2.2.2 + 3 → ad' a = ad a ∧ H'.2.2.1 a = H.2.2.1 a
theorem ext.rf {ad : Nat → Nat} {H : qS} : ext ad ad H H := ⟨Nat.le_refl _, fun _ _ => ⟨rfl, rfl⟩⟩
theorem ext.tr {ad ad' ad'' : Nat → Nat} {H H' H'' : qS} (h : ext ad ad' H H') (h' : ext ad' ad'' H' H'') : ext ad ad'' H H'' :=
  ⟨Nat.le_trans h.1 h'.1, fun a ha => ⟨((h'.2 a (by have := h.1; omega)).1).trans (h.2 a ha).1, ((h'.2 a (by have := h.1; omega)).2).trans (h.2 a ha).2⟩⟩
theorem wv.ext {ad ad' : Nat → Nat} {H H' : qS} (h : ext ad ad' H H') {v : qV} (hv : wv H v) : wv H' v := by
  match v, hv with
  | .inl _, hv => exact hv
  | .inr (.inl _), hv => exact hv
  | .inr (.inr (none, _)), hv => exact hv
  | .inr (.inr (some a, k)), hv =>
    have hv : wr H a k := hv
    show wr H' a k
    unfold wr at hv ⊢
    by_cases h1 : k = 100
    · simpa only [h1, if_true] using hv
    · by_cases h2 : k = 101
      · simpa [h2] using hv
      · by_cases h3 : k = 102
        · simpa [h3] using hv
        · simp only [h1, h2, h3, if_false] at hv ⊢
          exact ⟨hv.1, by have := h.1; omega, by rw [(h.2 a hv.2.1).2]; exact hv.2.2⟩
theorem cv.ext {ad ad' adT adS : Nat → Nat} {H H' : qS} (h : ext ad ad' H H') {v : qV} (hv : wv H v) : cv ad' adT adS v = cv ad adT adS v := by
  match v, hv with
  | .inl _, hv => rfl
  | .inr (.inl _), hv => rfl
  | .inr (.inr (none, _)), hv => rfl
  | .inr (.inr (some a, k)), hv =>
    have hv : wr H a k := hv
    unfold wr at hv
    unfold cv
    by_cases h1 : k = 100
    · simp [h1]
    · by_cases h2 : k = 101
      · simp [h2]
      · by_cases h3 : k = 102
        · simp [h3]
        · simp only [h1, h2, h3, if_false] at hv
          simp [h1, h2, h3, (h.2 a hv.2.1).1]
theorem cv_cat {ad adT adS : Nat → Nat} (v : qV) : (cv ad adT adS v).category = match v with | .inr (.inl _) => 2 | _ => 1 := by
  match v with
  | .inl _ => rfl
  | .inr (.inl _) => rfl
  | .inr (.inr (none, _)) => rfl
  | .inr (.inr (some a, k)) => rfl
