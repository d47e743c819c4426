/-! light, wind, level: pure words over the reference's row μ, the angles A and the heights on cells T -/
theorem bz_b (p : Prop) : 0 ≤ bz p ∧ bz p ≤ 1 := by rcases bz_or p with h | h <;> omega
theorem mul_b2 {a b m k : Int} (h0 : 0 ≤ a) (h1 : a ≤ m) (h2 : 0 ≤ b) (h3 : b ≤ k) : 0 ≤ a * b ∧ a * b ≤ m * k :=
  ⟨Int.mul_nonneg h0 h2, Int.mul_le_mul h1 h3 h2 (by omega)⟩
def shN (T : Int → Int) (dx dy up high : Int) : Nat → Int → Int → Int → Prop
  | 0, _, _, _ => False
  | n + 1, k, x, y => (0 ≤ x + dx ∧ x + dx < 9 ∧ 0 ≤ y + dy ∧ y + dy < 9) ∧ (k * high < T (9 * (y + dy) + (x + dx)) - up ∨ shN T dx dy up high n (k + 1) (x + dx) (y + dy))
theorem shN_s {T : Int → Int} {dx dy up high k x y : Int} (h : k < 9) : shN T dx dy up high (9 - k).toNat k x y ↔ (0 ≤ x + dx ∧ x + dx < 9 ∧ 0 ≤ y + dy ∧ y + dy < 9) ∧ (k * high < T (9 * (y + dy) + (x + dx)) - up ∨ shN T dx dy up high (9 - (k + 1)).toNat (k + 1) (x + dx) (y + dy)) := by
  rw [show (9 - k).toNat = (9 - (k + 1)).toNat + 1 by omega]
  exact Iff.rfl
theorem shN_o {T : Int → Int} {dx dy up high k x y : Int} (h : ¬ (0 ≤ x + dx ∧ x + dx < 9 ∧ 0 ≤ y + dy ∧ y + dy < 9)) : ¬ shN T dx dy up high (9 - k).toNat k x y := by
  intro q
  cases hn : (9 - k).toNat with
  | zero => rw [hn] at q; exact q
  | succ n => rw [hn] at q; exact h q.1
theorem shN_n {T : Int → Int} {dx dy up high k x y : Int} (h : k < 9) (h1 : 0 ≤ x + dx ∧ x + dx < 9 ∧ 0 ≤ y + dy ∧ y + dy < 9) (h2 : ¬ k * high < T (9 * (y + dy) + (x + dx)) - up) : shN T dx dy up high (9 - k).toNat k x y ↔ shN T dx dy up high (9 - (k + 1)).toNat (k + 1) (x + dx) (y + dy) :=
  (shN_s h).trans ⟨fun q => q.2.resolve_left h2, fun q => ⟨h1, .inr q⟩⟩
theorem shN_e {T : Int → Int} {dx dy up high k x y : Int} (h : 9 ≤ k) : ¬ shN T dx dy up high (9 - k).toNat k x y := by
  rw [show (9 - k).toNat = 0 by omega]
  exact id
theorem shN_congr {T T' : Int → Int} {dx dy up high : Int} (e : ∀ c, 0 ≤ c → c < 81 → T c = T' c) : ∀ (n : Nat) (k x y : Int), shN T dx dy up high n k x y ↔ shN T' dx dy up high n k x y
  | 0, _, _, _ => Iff.rfl
  | n + 1, k, x, y => by
    show (_ ∧ _) ↔ (_ ∧ _)
    refine and_congr_right (fun h => ?_)
    rw [e _ (by omega) (by omega), shN_congr e n]
/-- no light, for a house in the sun's way -/
def SHD (T : Int → Int) (c up d high : Int) : Prop := shN T (sx d) (sy d) up high 8 1 (c % 9) (c / 9)
theorem SHD_congr {T T' : Int → Int} (e : ∀ c, 0 ≤ c → c < 81 → T c = T' c) (c up d high : Int) : SHD T c up d high ↔ SHD T' c up d high := shN_congr e _ _ _ _
/-- a window is lit -/
def LITp (μ A T : Int → Int) (w hr y : Int) : Prop :=
  ((dirOf (24 + 4 * hr) (A y) - μ (141 + 3 * w)) % 8 = 0 ∨ (dirOf (24 + 4 * hr) (A y) - μ (141 + 3 * w)) % 8 = 1 ∨ (dirOf (24 + 4 * hr) (A y) - μ (141 + 3 * w)) % 8 = 7) ∧
  ¬ SHD T (μ (120 + 2 * μ (140 + 3 * w))) (μ (142 + 3 * w)) (dirOf (24 + 4 * hr) (A y)) (1 + mn hr (12 - hr))
theorem LITp_congr {μ A A' T T' : Int → Int} {w hr y : Int} (a : A y = A' y) (e : ∀ c, 0 ≤ c → c < 81 → T c = T' c) : LITp μ A T w hr y ↔ LITp μ A' T' w hr y := by
  unfold LITp
  rw [a]
  exact and_congr_right (fun _ => not_congr (SHD_congr e _ _ _ _))
noncomputable def LGT (μ A T : Int → Int) (w y : Int) : Int := sI (fun hr => bz (LITp μ A T w hr y)) 0 13
theorem LGT_congr {μ A A' T T' : Int → Int} {w y : Int} (a : A y = A' y) (e : ∀ c, 0 ≤ c → c < 81 → T c = T' c) : LGT μ A T w y = LGT μ A' T' w y := sI_congr (fun _ _ _ => bz_c (LITp_congr a e))
theorem LGTs_bd {μ A T : Int → Int} {w y k : Int} (h : 0 ≤ k) : 0 ≤ sI (fun hr => bz (LITp μ A T w hr y)) 0 k ∧ sI (fun hr => bz (LITp μ A T w hr y)) 0 k ≤ k := by
  have := sI_bd (f := fun hr => bz (LITp μ A T w hr y)) 0 1 h (fun i _ _ => bz_b _)
  omega
theorem LGT_bd (μ A T : Int → Int) (w y : Int) : 0 ≤ LGT μ A T w y ∧ LGT μ A T w y ≤ 13 := LGTs_bd (by omega)
/-- light of a window in years -/
noncomputable def LGW (μ A T : Int → Int) (w a b : Int) : Int := sI (fun y => LGT μ A T w y) a (b + 1)
theorem LGWs_bd {μ A T : Int → Int} {w a k : Int} (h : a ≤ k) : 0 ≤ sI (fun y => LGT μ A T w y) a k ∧ sI (fun y => LGT μ A T w y) a k ≤ 13 * (k - a) := by
  have := sI_bd (f := fun y => LGT μ A T w y) 0 13 h (fun i _ _ => LGT_bd _ _ _ _ _)
  omega
theorem LGW_congr {μ A A' T T' : Int → Int} {w a b : Int} (h0 : 0 ≤ a) (h1 : b < 100) (hA : ∀ y, 0 ≤ y → y < 100 → A y = A' y) (e : ∀ c, 0 ≤ c → c < 81 → T c = T' c) : LGW μ A T w a b = LGW μ A' T' w a b := sI_congr (fun i q1 q2 => LGT_congr (hA i (by omega) (by omega)) e)
/-- light of a house -/
noncomputable def LGH (μ A T : Int → Int) (h y : Int) : Int := sI (fun w => if μ (140 + 3 * w) = h then LGT μ A T w y else 0) 0 (μ 2)
theorem LGHs_bd {μ A T : Int → Int} {h y k : Int} (q : 0 ≤ k) : 0 ≤ sI (fun w => if μ (140 + 3 * w) = h then LGT μ A T w y else 0) 0 k ∧ sI (fun w => if μ (140 + 3 * w) = h then LGT μ A T w y else 0) 0 k ≤ 13 * k := by
  have := sI_bd (f := fun w => if μ (140 + 3 * w) = h then LGT μ A T w y else 0) 0 13 q (fun i _ _ => by have := LGT_bd μ A T i y; split <;> omega)
  omega
theorem LGH_bd {μ : Int → Int} (hV : IM μ) (A T : Int → Int) (h y : Int) : 0 ≤ LGH μ A T h y ∧ LGH μ A T h y ≤ 260 := by
  have := LGHs_bd (μ := μ) (A := A) (T := T) (h := h) (y := y) hV.n2.1
  have := hV.n2
  unfold LGH
  omega
theorem LGH_congr {μ A A' T T' : Int → Int} {h y : Int} (a : A y = A' y) (e : ∀ c, 0 ≤ c → c < 81 → T c = T' c) : LGH μ A T h y = LGH μ A' T' h y := sI_congr (fun i _ _ => by show (if _ then _ else _) = (if _ then _ else _); rw [LGT_congr a e])
def NOONp (μ A T : Int → Int) (h y : Int) : Prop := ∃ w, 0 ≤ w ∧ w < μ 2 ∧ μ (140 + 3 * w) = h ∧ LITp μ A T w 6 y
theorem NOONp_congr {μ A A' T T' : Int → Int} {h y : Int} (a : A y = A' y) (e : ∀ c, 0 ≤ c → c < 81 → T c = T' c) : NOONp μ A T h y ↔ NOONp μ A' T' h y :=
  exists_congr (fun w => and_congr_right (fun _ => and_congr_right (fun _ => and_congr_right (fun _ => LITp_congr a e))))
/-- 0 beyond the plate -/
def onP (T : Int → Int) (c : Int) : Int := if 0 ≤ c ∧ c < 81 then T c else 0
def WDYp (μ A T : Int → Int) (h y : Int) : Prop := ∀ k, 1 ≤ k → k < 4 → onP T (coff (μ (120 + 2 * h)) (dirOf (μ 13) (A y)) k) < μ (121 + 2 * h)
theorem onP_congr {T T' : Int → Int} (e : ∀ c, 0 ≤ c → c < 81 → T c = T' c) (c : Int) : onP T c = onP T' c := by
  unfold onP
  split
  · rename_i h; exact e c h.1 h.2
  · rfl
theorem WDYp_congr {μ A A' T T' : Int → Int} {h y : Int} (a : A y = A' y) (e : ∀ c, 0 ≤ c → c < 81 → T c = T' c) : WDYp μ A T h y ↔ WDYp μ A' T' h y := by
  unfold WDYp
  rw [a]
  exact ⟨fun q k h1 h2 => by rw [← onP_congr e]; exact q k h1 h2, fun q k h1 h2 => by rw [onP_congr e]; exact q k h1 h2⟩
def LVL (μ A : Int → Int) (c y : Int) : Int := -((c % 9 - 4) * sx (dirOf (μ 12) (A y)) + (c / 9 - 4) * sy (dirOf (μ 12) (A y)))
theorem LVL_bd {c : Int} (h0 : 0 ≤ c) (h1 : c < 81) (μ A : Int → Int) (y : Int) : -8 ≤ LVL μ A c y ∧ LVL μ A c y ≤ 8 := by
  have g : ∀ (u s : Int), -4 ≤ u → u ≤ 4 → -1 ≤ s → s ≤ 1 → -4 ≤ u * s ∧ u * s ≤ 4 := fun u s q1 q2 q3 q4 => by
    have hs : s = -1 ∨ s = 0 ∨ s = 1 := by omega
    rcases hs with rfl | rfl | rfl <;> omega
  have k1 := g (c % 9 - 4) (sx (dirOf (μ 12) (A y))) (by omega) (by omega) (sx_bd _).1 (sx_bd _).2
  have k2 := g (c / 9 - 4) (sy (dirOf (μ 12) (A y))) (by omega) (by omega) (sy_bd _).1 (sy_bd _).2
  unfold LVL
  omega
def RUNp (μ A : Int → Int) (k y : Int) : Prop := LVL μ A (μ (443 + 2 * k)) y < LVL μ A (μ (442 + 2 * k)) y
def plN (T : Int → Int) (d : Int) : Nat → Int → Int
  | 0, c => c
  | n + 1, c => if coff c d 1 = -1 ∨ 0 < T (coff c d 1) then c else plN T d n (coff c d 1)
theorem plN_s {T : Int → Int} {d i c : Int} (h : i < 9) : plN T d (9 - i).toNat c = if coff c d 1 = -1 ∨ 0 < T (coff c d 1) then c else plN T d (9 - (i + 1)).toNat (coff c d 1) := by
  rw [show (9 - i).toNat = (9 - (i + 1)).toNat + 1 by omega]
  rfl
def POOL (μ A T : Int → Int) (c y : Int) : Int := plN T (dirOf (μ 12) (A y)) 8 c
theorem coff_bd (c d k : Int) : coff c d k = -1 ∨ (0 ≤ coff c d k ∧ coff c d k < 81) := by unfold coff; split <;> omega
theorem plN_congr {T T' : Int → Int} (e : ∀ c, 0 ≤ c → c < 81 → T c = T' c) (d : Int) : ∀ (n : Nat) (c : Int), plN T d n c = plN T' d n c
  | 0, _ => rfl
  | n + 1, c => by
    show (if _ then _ else _) = (if _ then _ else _)
    rw [plN_congr e d n]
    rcases coff_bd c d 1 with h | h
    · rw [if_pos (.inl h), if_pos (.inl h)]
    · rw [e _ h.1 h.2]
def FITp (μ A T : Int → Int) (y : Int) : Prop := ∀ p, 0 ≤ p → p < μ 7 → (LITp μ A T (μ (458 + 3 * p)) (μ (459 + 3 * p)) y ↔ μ (460 + 3 * p) = 1)
theorem FITp_congr {μ A A' T T' : Int → Int} {y : Int} (a : A y = A' y) (e : ∀ c, 0 ≤ c → c < 81 → T c = T' c) : FITp μ A T y ↔ FITp μ A' T' y := by
  unfold FITp
  exact ⟨fun q p h1 h2 => (LITp_congr a e).symm.trans (q p h1 h2), fun q p h1 h2 => (LITp_congr a e).trans (q p h1 h2)⟩
/-- the first year from which on the angle is as in n -/
def stN (A : Int → Int) : Nat → Int
  | 0 => 0
  | n + 1 => if A n = A ((n + 1 : Nat) : Int) then stN A n else ((n + 1 : Nat) : Int)
def STP (A : Int → Int) : Int := stN A 99
theorem stN_s {A : Int → Int} {y : Int} (h : 0 < y) : stN A y.toNat = if A (y - 1) = A y then stN A (y - 1).toNat else y := by
  have hn : y.toNat = (y - 1).toNat + 1 := by omega
  rw [hn]
  show (if A (((y - 1).toNat : Nat) : Int) = A ((((y - 1).toNat + 1 : Nat)) : Int) then _ else ((((y - 1).toNat + 1 : Nat)) : Int)) = _
  rw [show (((y - 1).toNat : Nat) : Int) = y - 1 by omega, show ((((y - 1).toNat + 1 : Nat)) : Int) = y by omega]
theorem stN_bd (A : Int → Int) : ∀ n : Nat, 0 ≤ stN A n ∧ stN A n ≤ n
  | 0 => ⟨Int.le_refl _, Int.le_refl _⟩
  | n + 1 => by
    have := stN_bd A n
    unfold stN
    split <;> omega
theorem stN_congr {A A' : Int → Int} : ∀ n : Nat, (∀ y, 0 ≤ y → y ≤ (n : Int) → A y = A' y) → stN A n = stN A' n
  | 0, _ => rfl
  | n + 1, h => by
    show (if _ then _ else _) = (if _ then _ else _)
    rw [h n (by omega) (by omega), h ((n + 1 : Nat) : Int) (by omega) (by omega), stN_congr n (fun y h1 h2 => h y h1 (by omega))]
theorem STP_congr {A A' : Int → Int} (h : ∀ y, 0 ≤ y → y < 100 → A y = A' y) : STP A = STP A' := stN_congr 99 (fun y h1 h2 => h y h1 (by omega))
theorem STP_bd (A : Int → Int) : 0 ≤ STP A ∧ STP A < 100 := by have := stN_bd A 99; unfold STP; omega
/-- the house on a cell out of the first k -/
noncomputable def hON (μ : Int → Int) (c k : Int) : Int := fI (fun i => μ (120 + 2 * i) = c) 0 k
/-- heights on cells, of the first k houses, one of them higher -/
noncomputable def HTk (μ : Int → Int) (tl bym k c : Int) : Int := if hON μ c k = -1 then 0 else μ (121 + 2 * hON μ c k) + (if hON μ c k = tl then bym else 0)
noncomputable def HTC (μ : Int → Int) (tl bym c : Int) : Int := HTk μ tl bym (μ 1) c
theorem hON_z (μ : Int → Int) (c : Int) : hON μ c 0 = -1 := fI_nil (by omega)
theorem hON_r {μ : Int → Int} {c k : Int} (h : 0 ≤ k) : (hON μ c k = -1 ∧ ∀ i, 0 ≤ i → i < k → ¬ μ (120 + 2 * i) = c) ∨ (0 ≤ hON μ c k ∧ hON μ c k < k ∧ μ (120 + 2 * hON μ c k) = c ∧ ∀ i, 0 ≤ i → i < hON μ c k → ¬ μ (120 + 2 * i) = c) := fI_r h
theorem hON_u {μ : Int → Int} (hV : IM μ) {k h : Int} (hk : k ≤ μ 1) (h0 : 0 ≤ h) (h1 : h < k) : hON μ (μ (120 + 2 * h)) k = h := by
  rcases hON_r (μ := μ) (c := μ (120 + 2 * h)) (k := k) (by omega) with ⟨q1, q2⟩ | ⟨q1, q2, q3, q4⟩
  · exact absurd rfl (q2 h h0 h1)
  · exact hV.hd _ _ q1 (by omega) h0 (by omega) q3
theorem hON_f {μ : Int → Int} (hV : IM μ) {k : Int} (h0 : 0 ≤ k) (h1 : k < μ 1) : hON μ (μ (120 + 2 * k)) k = -1 := by
  rcases hON_r (μ := μ) (c := μ (120 + 2 * k)) (k := k) h0 with ⟨q1, q2⟩ | ⟨q1, q2, q3, q4⟩
  · exact q1
  · have := hV.hd _ _ q1 (by omega) h0 h1 q3
    omega
theorem hON_s {μ : Int → Int} {c k : Int} (h0 : 0 ≤ k) (hc : ¬ μ (120 + 2 * k) = c) : hON μ c (k + 1) = hON μ c k := by
  rcases hON_r (μ := μ) (c := c) (k := k) h0 with ⟨q1, q2⟩ | ⟨q1, q2, q3, q4⟩
  · rcases hON_r (μ := μ) (c := c) (k := k + 1) (by omega) with ⟨r1, r2⟩ | ⟨r1, r2, r3, r4⟩
    · rw [q1, r1]
    · rcases Int.lt_or_eq_of_le (show hON μ c (k + 1) ≤ k by omega) with z | z
      · exact absurd r3 (q2 _ r1 z)
      · rw [z] at r3; exact absurd r3 hc
  · rcases hON_r (μ := μ) (c := c) (k := k + 1) (by omega) with ⟨r1, r2⟩ | ⟨r1, r2, r3, r4⟩
    · exact absurd q3 (r2 _ q1 (by omega))
    · rcases Int.lt_trichotomy (hON μ c (k + 1)) (hON μ c k) with z | z | z
      · exact absurd r3 (q4 _ r1 z)
      · exact z
      · exact absurd q3 (r4 _ q1 z)
theorem HTk_s {μ : Int → Int} (hV : IM μ) {k c : Int} (h0 : 0 ≤ k) (h1 : k < μ 1) : HTk μ (-1) 0 (k + 1) c = if c = μ (120 + 2 * k) then μ (121 + 2 * k) else HTk μ (-1) 0 k c := by
  unfold HTk
  by_cases h : c = μ (120 + 2 * k)
  · rw [if_pos h, h, hON_u hV (by omega) h0 (by omega), if_neg (by omega), if_neg (by omega), Int.add_zero]
  · rw [if_neg h, hON_s h0 (fun q => h q.symm)]
theorem HTk_f {μ : Int → Int} (hV : IM μ) {k : Int} (h0 : 0 ≤ k) (h1 : k < μ 1) (tl b : Int) : HTk μ tl b k (μ (120 + 2 * k)) = 0 := by
  unfold HTk
  rw [hON_f hV h0 h1, if_pos rfl]
theorem HTC_r {μ : Int → Int} (hV : IM μ) {h : Int} (h0 : 0 ≤ h) (h1 : h < μ 1) (b c : Int) : HTC μ h b c = if c = μ (120 + 2 * h) then HTC μ (-1) 0 c + b else HTC μ (-1) 0 c := by
  unfold HTC HTk
  have h9 := hV.n1
  by_cases q : c = μ (120 + 2 * h)
  · have z : ¬ h = -1 := by omega
    rw [if_pos q, q, hON_u hV (Int.le_refl _) h0 h1]
    simp [z]
  · rw [if_neg q]
    have : ¬ hON μ c (μ 1) = h := by
      intro z
      rcases hON_r (μ := μ) (c := c) (k := μ 1) (by omega) with ⟨r1, r2⟩ | ⟨r1, r2, r3, r4⟩
      · omega
      · rw [z] at r3; exact q r3.symm
    rw [if_neg this]
    by_cases z : hON μ c (μ 1) = -1
    · rw [if_pos z, if_pos z]
    · rw [if_neg z, if_neg z, if_neg (show ¬ hON μ c (μ 1) = -1 from z)]
theorem HTC_bd {μ : Int → Int} (hV : IM μ) {tl b : Int} (hb : 0 ≤ b ∧ b ≤ 30) (c : Int) : 0 ≤ HTC μ tl b c ∧ HTC μ tl b c ≤ 60 := by
  unfold HTC HTk
  have h9 := hV.n1
  rcases hON_r (μ := μ) (c := c) (k := μ 1) (by omega) with ⟨r1, r2⟩ | ⟨r1, r2, r3, r4⟩
  · rw [if_pos r1]; omega
  · have := hV.hh _ r1 r2
    rw [if_neg (by omega)]
    split <;> omega
/-- angles and heights in their bounds -/
def AB (A T : Int → Int) : Prop := (∀ y, 0 ≤ y → y < 100 → 0 ≤ A y ∧ A y < 96) ∧ (∀ c, 0 ≤ c → c < 81 → 0 ≤ T c ∧ T c ≤ 60)
