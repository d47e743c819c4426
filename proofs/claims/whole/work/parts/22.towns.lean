/-- the fixed numbers of a town -/
def CT (n : Nat) (I : qI) : Prop :=
  (I (n + 1) 0 = 10) ∧
  (I (n + 1) 1 = 2) ∧
  (I (n + 3) 0 = 20) ∧
  (I (n + 3) 1 = 3) ∧
  (I (n + 5) 0 = 10) ∧
  (I (n + 5) 1 = 3) ∧
  (I (n + 7) 0 = 16) ∧
  (I (n + 7) 1 = 4) ∧
  (I (n + 9) 0 = 16) ∧
  (I (n + 9) 1 = 3) ∧
  (I (n + 11) 0 = 8) ∧
  (I (n + 11) 1 = 2) ∧
  (I (n + 13) 0 = 16) ∧
  (I (n + 13) 1 = 3) ∧
  (I (n + 15) 0 = 20) ∧
  (I (n + 15) 1 = 2)
theorem CT.a1 {n : Nat} {I : qI} (h : CT n I) : I (n + 1) 0 = 10 := h.1
theorem CT.b1 {n : Nat} {I : qI} (h : CT n I) : I (n + 1) 1 = 2 := h.2.1
theorem CT.a3 {n : Nat} {I : qI} (h : CT n I) : I (n + 3) 0 = 20 := h.2.2.1
theorem CT.b3 {n : Nat} {I : qI} (h : CT n I) : I (n + 3) 1 = 3 := h.2.2.2.1
theorem CT.a5 {n : Nat} {I : qI} (h : CT n I) : I (n + 5) 0 = 10 := h.2.2.2.2.1
theorem CT.b5 {n : Nat} {I : qI} (h : CT n I) : I (n + 5) 1 = 3 := h.2.2.2.2.2.1
theorem CT.a7 {n : Nat} {I : qI} (h : CT n I) : I (n + 7) 0 = 16 := h.2.2.2.2.2.2.1
theorem CT.b7 {n : Nat} {I : qI} (h : CT n I) : I (n + 7) 1 = 4 := h.2.2.2.2.2.2.2.1
theorem CT.a9 {n : Nat} {I : qI} (h : CT n I) : I (n + 9) 0 = 16 := h.2.2.2.2.2.2.2.2.1
theorem CT.b9 {n : Nat} {I : qI} (h : CT n I) : I (n + 9) 1 = 3 := h.2.2.2.2.2.2.2.2.2.1
theorem CT.a11 {n : Nat} {I : qI} (h : CT n I) : I (n + 11) 0 = 8 := h.2.2.2.2.2.2.2.2.2.2.1
theorem CT.b11 {n : Nat} {I : qI} (h : CT n I) : I (n + 11) 1 = 2 := h.2.2.2.2.2.2.2.2.2.2.2.1
theorem CT.a13 {n : Nat} {I : qI} (h : CT n I) : I (n + 13) 0 = 16 := h.2.2.2.2.2.2.2.2.2.2.2.2.1
theorem CT.b13 {n : Nat} {I : qI} (h : CT n I) : I (n + 13) 1 = 3 := h.2.2.2.2.2.2.2.2.2.2.2.2.2.1
theorem CT.a15 {n : Nat} {I : qI} (h : CT n I) : I (n + 15) 0 = 20 := h.2.2.2.2.2.2.2.2.2.2.2.2.2.2.1
theorem CT.b15 {n : Nat} {I : qI} (h : CT n I) : I (n + 15) 1 = 2 := h.2.2.2.2.2.2.2.2.2.2.2.2.2.2.2
/-- the town at n is told by the reference's row (without the leases' texts) -/
def TR (n : Nat) (I : qI) (μ : Int → Int) : Prop :=
  (CT n I) ∧
  (I (n + 1) 3 = μ 1) ∧
  (I (n + 3) 3 = μ 2) ∧
  (I (n + 5) 3 = μ 1) ∧
  (I (n + 7) 3 = μ 4) ∧
  (I (n + 9) 3 = μ 5) ∧
  (I (n + 11) 3 = μ 6) ∧
  (I (n + 13) 3 = μ 7) ∧
  (I (n + 15) 3 = μ 8) ∧
  (I n 12 = μ 3) ∧
  (I n 13 = μ 0) ∧
  (∀ r, 0 ≤ r → r < μ 1 → I (n + 2) (r * 2 + 0) = μ (120 + 2 * r) ∧ I (n + 2) (r * 2 + 1) = μ (121 + 2 * r)) ∧
  (∀ r, 0 ≤ r → r < μ 2 → I (n + 4) (r * 3 + 0) = μ (140 + 3 * r) ∧ I (n + 4) (r * 3 + 1) = μ (141 + 3 * r) ∧ I (n + 4) (r * 3 + 2) = μ (142 + 3 * r)) ∧
  (∀ r, 0 ≤ r → r < μ 1 → I (n + 6) (r * 3 + 0) = μ (210 + 2 * r) ∧ I (n + 6) (r * 3 + 1) = μ (211 + 2 * r) ∧ I (n + 6) (r * 3 + 2) = μ (200 + r)) ∧
  (∀ r, 0 ≤ r → r < μ 4 → I (n + 8) (r * 4 + 0) = μ (332 + 4 * r) ∧ I (n + 8) (r * 4 + 1) = μ (333 + 4 * r) ∧ I (n + 8) (r * 4 + 2) = μ (331 + 4 * r) ∧ I (n + 8) (r * 4 + 3) = μ (330 + 4 * r)) ∧
  (∀ r, 0 ≤ r → r < μ 5 → I (n + 10) (r * 3 + 0) = μ (395 + 3 * r) ∧ I (n + 10) (r * 3 + 1) = μ (396 + 3 * r) ∧ I (n + 10) (r * 3 + 2) = μ (394 + 3 * r)) ∧
  (∀ r, 0 ≤ r → r < μ 6 → I (n + 12) (r * 2 + 0) = μ (442 + 2 * r) ∧ I (n + 12) (r * 2 + 1) = μ (443 + 2 * r)) ∧
  (∀ r, 0 ≤ r → r < μ 7 → I (n + 14) (r * 3 + 0) = μ (458 + 3 * r) ∧ I (n + 14) (r * 3 + 1) = μ (459 + 3 * r) ∧ I (n + 14) (r * 3 + 2) = μ (460 + 3 * r)) ∧
  (∀ r, 0 ≤ r → r < μ 8 → I (n + 16) (r * 2 + 0) = μ (506 + 2 * r) ∧ I (n + 16) (r * 2 + 1) = μ (507 + 2 * r)) ∧
  (∀ i, 0 ≤ i → i < 5 → I (n + 17) i = μ (9 + i)) ∧
  (∀ y, 0 ≤ y → y < 100 → I (n + 18) y = μ (20 + y)) ∧
  (∀ y, 0 ≤ y → y < 100 → I (n + 19) y = μ (230 + y))
theorem TR.c {n : Nat} {I : qI} {μ : Int → Int} (h : TR n I μ) : CT n I := h.1
theorem TR.r1 {n : Nat} {I : qI} {μ : Int → Int} (h : TR n I μ) : I (n + 1) 3 = μ 1 := h.2.1
theorem TR.r3 {n : Nat} {I : qI} {μ : Int → Int} (h : TR n I μ) : I (n + 3) 3 = μ 2 := h.2.2.1
theorem TR.r5 {n : Nat} {I : qI} {μ : Int → Int} (h : TR n I μ) : I (n + 5) 3 = μ 1 := h.2.2.2.1
theorem TR.r7 {n : Nat} {I : qI} {μ : Int → Int} (h : TR n I μ) : I (n + 7) 3 = μ 4 := h.2.2.2.2.1
theorem TR.r9 {n : Nat} {I : qI} {μ : Int → Int} (h : TR n I μ) : I (n + 9) 3 = μ 5 := h.2.2.2.2.2.1
theorem TR.r11 {n : Nat} {I : qI} {μ : Int → Int} (h : TR n I μ) : I (n + 11) 3 = μ 6 := h.2.2.2.2.2.2.1
theorem TR.r13 {n : Nat} {I : qI} {μ : Int → Int} (h : TR n I μ) : I (n + 13) 3 = μ 7 := h.2.2.2.2.2.2.2.1
theorem TR.r15 {n : Nat} {I : qI} {μ : Int → Int} (h : TR n I μ) : I (n + 15) 3 = μ 8 := h.2.2.2.2.2.2.2.2.1
theorem TR.lc {n : Nat} {I : qI} {μ : Int → Int} (h : TR n I μ) : I n 12 = μ 3 := h.2.2.2.2.2.2.2.2.2.1
theorem TR.tx {n : Nat} {I : qI} {μ : Int → Int} (h : TR n I μ) : I n 13 = μ 0 := h.2.2.2.2.2.2.2.2.2.2.1
theorem TR.q1 {n : Nat} {I : qI} {μ : Int → Int} (h : TR n I μ) : ∀ r, 0 ≤ r → r < μ 1 → I (n + 2) (r * 2 + 0) = μ (120 + 2 * r) ∧ I (n + 2) (r * 2 + 1) = μ (121 + 2 * r) := h.2.2.2.2.2.2.2.2.2.2.2.1
theorem TR.q3 {n : Nat} {I : qI} {μ : Int → Int} (h : TR n I μ) : ∀ r, 0 ≤ r → r < μ 2 → I (n + 4) (r * 3 + 0) = μ (140 + 3 * r) ∧ I (n + 4) (r * 3 + 1) = μ (141 + 3 * r) ∧ I (n + 4) (r * 3 + 2) = μ (142 + 3 * r) := h.2.2.2.2.2.2.2.2.2.2.2.2.1
theorem TR.q5 {n : Nat} {I : qI} {μ : Int → Int} (h : TR n I μ) : ∀ r, 0 ≤ r → r < μ 1 → I (n + 6) (r * 3 + 0) = μ (210 + 2 * r) ∧ I (n + 6) (r * 3 + 1) = μ (211 + 2 * r) ∧ I (n + 6) (r * 3 + 2) = μ (200 + r) := h.2.2.2.2.2.2.2.2.2.2.2.2.2.1
theorem TR.q7 {n : Nat} {I : qI} {μ : Int → Int} (h : TR n I μ) : ∀ r, 0 ≤ r → r < μ 4 → I (n + 8) (r * 4 + 0) = μ (332 + 4 * r) ∧ I (n + 8) (r * 4 + 1) = μ (333 + 4 * r) ∧ I (n + 8) (r * 4 + 2) = μ (331 + 4 * r) ∧ I (n + 8) (r * 4 + 3) = μ (330 + 4 * r) := h.2.2.2.2.2.2.2.2.2.2.2.2.2.2.1
theorem TR.q9 {n : Nat} {I : qI} {μ : Int → Int} (h : TR n I μ) : ∀ r, 0 ≤ r → r < μ 5 → I (n + 10) (r * 3 + 0) = μ (395 + 3 * r) ∧ I (n + 10) (r * 3 + 1) = μ (396 + 3 * r) ∧ I (n + 10) (r * 3 + 2) = μ (394 + 3 * r) := h.2.2.2.2.2.2.2.2.2.2.2.2.2.2.2.1
theorem TR.q11 {n : Nat} {I : qI} {μ : Int → Int} (h : TR n I μ) : ∀ r, 0 ≤ r → r < μ 6 → I (n + 12) (r * 2 + 0) = μ (442 + 2 * r) ∧ I (n + 12) (r * 2 + 1) = μ (443 + 2 * r) := h.2.2.2.2.2.2.2.2.2.2.2.2.2.2.2.2.1
theorem TR.q13 {n : Nat} {I : qI} {μ : Int → Int} (h : TR n I μ) : ∀ r, 0 ≤ r → r < μ 7 → I (n + 14) (r * 3 + 0) = μ (458 + 3 * r) ∧ I (n + 14) (r * 3 + 1) = μ (459 + 3 * r) ∧ I (n + 14) (r * 3 + 2) = μ (460 + 3 * r) := h.2.2.2.2.2.2.2.2.2.2.2.2.2.2.2.2.2.1
theorem TR.q15 {n : Nat} {I : qI} {μ : Int → Int} (h : TR n I μ) : ∀ r, 0 ≤ r → r < μ 8 → I (n + 16) (r * 2 + 0) = μ (506 + 2 * r) ∧ I (n + 16) (r * 2 + 1) = μ (507 + 2 * r) := h.2.2.2.2.2.2.2.2.2.2.2.2.2.2.2.2.2.2.1
theorem TR.di {n : Nat} {I : qI} {μ : Int → Int} (h : TR n I μ) : ∀ i, 0 ≤ i → i < 5 → I (n + 17) i = μ (9 + i) := h.2.2.2.2.2.2.2.2.2.2.2.2.2.2.2.2.2.2.2.1
theorem TR.wi {n : Nat} {I : qI} {μ : Int → Int} (h : TR n I μ) : ∀ y, 0 ≤ y → y < 100 → I (n + 18) y = μ (20 + y) := h.2.2.2.2.2.2.2.2.2.2.2.2.2.2.2.2.2.2.2.2.1
theorem TR.ro {n : Nat} {I : qI} {μ : Int → Int} (h : TR n I μ) : ∀ y, 0 ≤ y → y < 100 → I (n + 19) y = μ (230 + y) := h.2.2.2.2.2.2.2.2.2.2.2.2.2.2.2.2.2.2.2.2.2
theorem CT.fr {n : Nat} {I J : qI} (h : CT n I) (f : ∀ a, n ≤ a → a < n + 21 → J a = I a) : CT n J := by
  unfold CT at *
  rw [f (n + 1) (by omega) (by omega)]
  rw [f (n + 3) (by omega) (by omega)]
  rw [f (n + 5) (by omega) (by omega)]
  rw [f (n + 7) (by omega) (by omega)]
  rw [f (n + 9) (by omega) (by omega)]
  rw [f (n + 11) (by omega) (by omega)]
  rw [f (n + 13) (by omega) (by omega)]
  rw [f (n + 15) (by omega) (by omega)]
  exact h
theorem TR.fr {n : Nat} {I J : qI} {μ : Int → Int} (h : TR n I μ) (f : ∀ a, n ≤ a → a < n + 21 → J a = I a) : TR n J μ := by
  refine ⟨h.c.fr f, ?_⟩
  have h2 := h.2
  rw [f (n + 1) (by omega) (by omega)]
  rw [f (n + 3) (by omega) (by omega)]
  rw [f (n + 5) (by omega) (by omega)]
  rw [f (n + 7) (by omega) (by omega)]
  rw [f (n + 9) (by omega) (by omega)]
  rw [f (n + 11) (by omega) (by omega)]
  rw [f (n + 13) (by omega) (by omega)]
  rw [f (n + 15) (by omega) (by omega)]
  rw [f n (by omega) (by omega)]
  rw [f (n + 2) (by omega) (by omega)]
  rw [f (n + 4) (by omega) (by omega)]
  rw [f (n + 6) (by omega) (by omega)]
  rw [f (n + 8) (by omega) (by omega)]
  rw [f (n + 10) (by omega) (by omega)]
  rw [f (n + 12) (by omega) (by omega)]
  rw [f (n + 14) (by omega) (by omega)]
  rw [f (n + 16) (by omega) (by omega)]
  rw [f (n + 17) (by omega) (by omega)]
  rw [f (n + 18) (by omega) (by omega)]
  rw [f (n + 19) (by omega) (by omega)]
  exact h2
/-- what the buildings that can be undone have made of a house -/
def bsum (μ : Int → Int) (h k : Int) : Int := sI (fun i => if μ (506 + 2 * i) = h then μ (507 + 2 * i) else 0) 0 k
/-- the reference's row keeps its bounds -/
def IM (μ : Int → Int) : Prop :=
  (0 ≤ μ 0 ∧ μ 0 ≤ 12) ∧
  (0 ≤ μ 1 ∧ μ 1 ≤ 10) ∧
  (0 ≤ μ 2 ∧ μ 2 ≤ 20) ∧
  (0 ≤ μ 3 ∧ μ 3 ≤ 6) ∧
  (0 ≤ μ 4 ∧ μ 4 ≤ 16) ∧
  (0 ≤ μ 5 ∧ μ 5 ≤ 16) ∧
  (0 ≤ μ 6 ∧ μ 6 ≤ 8) ∧
  (0 ≤ μ 7 ∧ μ 7 ≤ 16) ∧
  (0 ≤ μ 8 ∧ μ 8 ≤ 20) ∧
  (0 ≤ μ 9 ∧ μ 9 < 96) ∧
  (0 ≤ μ 10 ∧ μ 10 ≤ 20) ∧
  (-1 ≤ μ 11 ∧ μ 11 < 96) ∧
  (0 ≤ μ 12 ∧ μ 12 < 96) ∧
  (0 ≤ μ 13 ∧ μ 13 < 96) ∧
  (∀ y, 0 ≤ y → y < 100 → -20 ≤ μ (20 + y) ∧ μ (20 + y) ≤ 20) ∧
  (∀ y, 0 ≤ y → y < 100 → 0 ≤ μ (230 + y) ∧ μ (230 + y) ≤ 20) ∧
  (∀ h, 0 ≤ h → h < μ 1 → 0 ≤ μ (120 + 2 * h) ∧ μ (120 + 2 * h) ≤ 80) ∧
  (∀ h, 0 ≤ h → h < μ 1 → 1 ≤ μ (121 + 2 * h) ∧ μ (121 + 2 * h) ≤ 30) ∧
  (∀ h k, 0 ≤ h → h < μ 1 → 0 ≤ k → k < μ 1 → μ (120 + 2 * h) = μ (120 + 2 * k) → h = k) ∧
  (∀ w, 0 ≤ w → w < μ 2 → 0 ≤ μ (140 + 3 * w) ∧ μ (140 + 3 * w) < μ 1) ∧
  (∀ w, 0 ≤ w → w < μ 2 → 0 ≤ μ (141 + 3 * w) ∧ μ (141 + 3 * w) ≤ 7) ∧
  (∀ w, 0 ≤ w → w < μ 2 → 0 ≤ μ (142 + 3 * w) ∧ μ (142 + 3 * w) ≤ 29) ∧
  (∀ f, 0 ≤ f → f < μ 1 → 0 ≤ μ (200 + f) ∧ μ (200 + f) < μ 1) ∧
  (∀ f k, 0 ≤ f → f < μ 1 → 0 ≤ k → k < μ 1 → μ (200 + f) = μ (200 + k) → f = k) ∧
  (∀ f, 0 ≤ f → f < μ 1 → 0 ≤ μ (210 + 2 * f) ∧ μ (210 + 2 * f) ≤ μ (211 + 2 * f) ∧ μ (211 + 2 * f) < 100) ∧
  (∀ l, 0 ≤ l → l < μ 4 → 0 ≤ μ (330 + 4 * l) ∧ μ (330 + 4 * l) < μ 3) ∧
  (∀ l, 0 ≤ l → l < μ 4 → 0 ≤ μ (331 + 4 * l) ∧ μ (331 + 4 * l) < μ 1) ∧
  (∀ l, 0 ≤ l → l < μ 4 → 0 ≤ μ (332 + 4 * l) ∧ μ (332 + 4 * l) ≤ μ (333 + 4 * l) ∧ μ (333 + 4 * l) < 100) ∧
  (∀ p, 0 ≤ p → p < μ 5 → 0 ≤ μ (394 + 3 * p) ∧ μ (394 + 3 * p) < μ 2) ∧
  (∀ p, 0 ≤ p → p < μ 5 → 0 ≤ μ (395 + 3 * p) ∧ μ (395 + 3 * p) ≤ μ (396 + 3 * p) ∧ μ (396 + 3 * p) < 100) ∧
  (∀ d, 0 ≤ d → d < μ 6 → 0 ≤ μ (442 + 2 * d) ∧ μ (442 + 2 * d) ≤ 80) ∧
  (∀ d, 0 ≤ d → d < μ 6 → 0 ≤ μ (443 + 2 * d) ∧ μ (443 + 2 * d) ≤ 80) ∧
  (∀ p, 0 ≤ p → p < μ 7 → 0 ≤ μ (458 + 3 * p) ∧ μ (458 + 3 * p) < μ 2) ∧
  (∀ p, 0 ≤ p → p < μ 7 → 0 ≤ μ (459 + 3 * p) ∧ μ (459 + 3 * p) ≤ 12) ∧
  (∀ p, 0 ≤ p → p < μ 7 → μ (460 + 3 * p) = 0 ∨ μ (460 + 3 * p) = 1) ∧
  (∀ b, 0 ≤ b → b < μ 8 → 0 ≤ μ (506 + 2 * b) ∧ μ (506 + 2 * b) < μ 1) ∧
  (∀ b, 0 ≤ b → b < μ 8 → 1 ≤ μ (507 + 2 * b) ∧ μ (507 + 2 * b) ≤ 29) ∧
  (∀ h, 0 ≤ h → h < μ 1 → 1 + bsum μ h (μ 8) ≤ μ (121 + 2 * h))
theorem IM.n0 {μ : Int → Int} (h : IM μ) : 0 ≤ μ 0 ∧ μ 0 ≤ 12 := h.1
theorem IM.n1 {μ : Int → Int} (h : IM μ) : 0 ≤ μ 1 ∧ μ 1 ≤ 10 := h.2.1
theorem IM.n2 {μ : Int → Int} (h : IM μ) : 0 ≤ μ 2 ∧ μ 2 ≤ 20 := h.2.2.1
theorem IM.n3 {μ : Int → Int} (h : IM μ) : 0 ≤ μ 3 ∧ μ 3 ≤ 6 := h.2.2.2.1
theorem IM.n4 {μ : Int → Int} (h : IM μ) : 0 ≤ μ 4 ∧ μ 4 ≤ 16 := h.2.2.2.2.1
theorem IM.n5 {μ : Int → Int} (h : IM μ) : 0 ≤ μ 5 ∧ μ 5 ≤ 16 := h.2.2.2.2.2.1
theorem IM.n6 {μ : Int → Int} (h : IM μ) : 0 ≤ μ 6 ∧ μ 6 ≤ 8 := h.2.2.2.2.2.2.1
theorem IM.n7 {μ : Int → Int} (h : IM μ) : 0 ≤ μ 7 ∧ μ 7 ≤ 16 := h.2.2.2.2.2.2.2.1
theorem IM.n8 {μ : Int → Int} (h : IM μ) : 0 ≤ μ 8 ∧ μ 8 ≤ 20 := h.2.2.2.2.2.2.2.2.1
theorem IM.st {μ : Int → Int} (h : IM μ) : 0 ≤ μ 9 ∧ μ 9 < 96 := h.2.2.2.2.2.2.2.2.2.1
theorem IM.ra {μ : Int → Int} (h : IM μ) : 0 ≤ μ 10 ∧ μ 10 ≤ 20 := h.2.2.2.2.2.2.2.2.2.2.1
theorem IM.ba {μ : Int → Int} (h : IM μ) : -1 ≤ μ 11 ∧ μ 11 < 96 := h.2.2.2.2.2.2.2.2.2.2.2.1
theorem IM.se {μ : Int → Int} (h : IM μ) : 0 ≤ μ 12 ∧ μ 12 < 96 := h.2.2.2.2.2.2.2.2.2.2.2.2.1
theorem IM.gu {μ : Int → Int} (h : IM μ) : 0 ≤ μ 13 ∧ μ 13 < 96 := h.2.2.2.2.2.2.2.2.2.2.2.2.2.1
theorem IM.wi {μ : Int → Int} (h : IM μ) : ∀ y, 0 ≤ y → y < 100 → -20 ≤ μ (20 + y) ∧ μ (20 + y) ≤ 20 := h.2.2.2.2.2.2.2.2.2.2.2.2.2.2.1
theorem IM.ro {μ : Int → Int} (h : IM μ) : ∀ y, 0 ≤ y → y < 100 → 0 ≤ μ (230 + y) ∧ μ (230 + y) ≤ 20 := h.2.2.2.2.2.2.2.2.2.2.2.2.2.2.2.1
theorem IM.hc {μ : Int → Int} (h : IM μ) : ∀ h, 0 ≤ h → h < μ 1 → 0 ≤ μ (120 + 2 * h) ∧ μ (120 + 2 * h) ≤ 80 := h.2.2.2.2.2.2.2.2.2.2.2.2.2.2.2.2.1
theorem IM.hh {μ : Int → Int} (h : IM μ) : ∀ h, 0 ≤ h → h < μ 1 → 1 ≤ μ (121 + 2 * h) ∧ μ (121 + 2 * h) ≤ 30 := h.2.2.2.2.2.2.2.2.2.2.2.2.2.2.2.2.2.1
theorem IM.hd {μ : Int → Int} (h : IM μ) : ∀ h k, 0 ≤ h → h < μ 1 → 0 ≤ k → k < μ 1 → μ (120 + 2 * h) = μ (120 + 2 * k) → h = k := h.2.2.2.2.2.2.2.2.2.2.2.2.2.2.2.2.2.2.1
theorem IM.wh {μ : Int → Int} (h : IM μ) : ∀ w, 0 ≤ w → w < μ 2 → 0 ≤ μ (140 + 3 * w) ∧ μ (140 + 3 * w) < μ 1 := h.2.2.2.2.2.2.2.2.2.2.2.2.2.2.2.2.2.2.2.1
theorem IM.wf {μ : Int → Int} (h : IM μ) : ∀ w, 0 ≤ w → w < μ 2 → 0 ≤ μ (141 + 3 * w) ∧ μ (141 + 3 * w) ≤ 7 := h.2.2.2.2.2.2.2.2.2.2.2.2.2.2.2.2.2.2.2.2.1
theorem IM.wu {μ : Int → Int} (h : IM μ) : ∀ w, 0 ≤ w → w < μ 2 → 0 ≤ μ (142 + 3 * w) ∧ μ (142 + 3 * w) ≤ 29 := h.2.2.2.2.2.2.2.2.2.2.2.2.2.2.2.2.2.2.2.2.2.1
theorem IM.li {μ : Int → Int} (h : IM μ) : ∀ f, 0 ≤ f → f < μ 1 → 0 ≤ μ (200 + f) ∧ μ (200 + f) < μ 1 := h.2.2.2.2.2.2.2.2.2.2.2.2.2.2.2.2.2.2.2.2.2.2.1
theorem IM.lj {μ : Int → Int} (h : IM μ) : ∀ f k, 0 ≤ f → f < μ 1 → 0 ≤ k → k < μ 1 → μ (200 + f) = μ (200 + k) → f = k := h.2.2.2.2.2.2.2.2.2.2.2.2.2.2.2.2.2.2.2.2.2.2.2.1
theorem IM.wa {μ : Int → Int} (h : IM μ) : ∀ f, 0 ≤ f → f < μ 1 → 0 ≤ μ (210 + 2 * f) ∧ μ (210 + 2 * f) ≤ μ (211 + 2 * f) ∧ μ (211 + 2 * f) < 100 := h.2.2.2.2.2.2.2.2.2.2.2.2.2.2.2.2.2.2.2.2.2.2.2.2.1
theorem IM.le {μ : Int → Int} (h : IM μ) : ∀ l, 0 ≤ l → l < μ 4 → 0 ≤ μ (330 + 4 * l) ∧ μ (330 + 4 * l) < μ 3 := h.2.2.2.2.2.2.2.2.2.2.2.2.2.2.2.2.2.2.2.2.2.2.2.2.2.1
theorem IM.lh {μ : Int → Int} (h : IM μ) : ∀ l, 0 ≤ l → l < μ 4 → 0 ≤ μ (331 + 4 * l) ∧ μ (331 + 4 * l) < μ 1 := h.2.2.2.2.2.2.2.2.2.2.2.2.2.2.2.2.2.2.2.2.2.2.2.2.2.2.1
theorem IM.ly {μ : Int → Int} (h : IM μ) : ∀ l, 0 ≤ l → l < μ 4 → 0 ≤ μ (332 + 4 * l) ∧ μ (332 + 4 * l) ≤ μ (333 + 4 * l) ∧ μ (333 + 4 * l) < 100 := h.2.2.2.2.2.2.2.2.2.2.2.2.2.2.2.2.2.2.2.2.2.2.2.2.2.2.2.1
theorem IM.pw {μ : Int → Int} (h : IM μ) : ∀ p, 0 ≤ p → p < μ 5 → 0 ≤ μ (394 + 3 * p) ∧ μ (394 + 3 * p) < μ 2 := h.2.2.2.2.2.2.2.2.2.2.2.2.2.2.2.2.2.2.2.2.2.2.2.2.2.2.2.2.1
theorem IM.py {μ : Int → Int} (h : IM μ) : ∀ p, 0 ≤ p → p < μ 5 → 0 ≤ μ (395 + 3 * p) ∧ μ (395 + 3 * p) ≤ μ (396 + 3 * p) ∧ μ (396 + 3 * p) < 100 := h.2.2.2.2.2.2.2.2.2.2.2.2.2.2.2.2.2.2.2.2.2.2.2.2.2.2.2.2.2.1
theorem IM.da {μ : Int → Int} (h : IM μ) : ∀ d, 0 ≤ d → d < μ 6 → 0 ≤ μ (442 + 2 * d) ∧ μ (442 + 2 * d) ≤ 80 := h.2.2.2.2.2.2.2.2.2.2.2.2.2.2.2.2.2.2.2.2.2.2.2.2.2.2.2.2.2.2.1
theorem IM.db {μ : Int → Int} (h : IM μ) : ∀ d, 0 ≤ d → d < μ 6 → 0 ≤ μ (443 + 2 * d) ∧ μ (443 + 2 * d) ≤ 80 := h.2.2.2.2.2.2.2.2.2.2.2.2.2.2.2.2.2.2.2.2.2.2.2.2.2.2.2.2.2.2.2.1
theorem IM.pp {μ : Int → Int} (h : IM μ) : ∀ p, 0 ≤ p → p < μ 7 → 0 ≤ μ (458 + 3 * p) ∧ μ (458 + 3 * p) < μ 2 := h.2.2.2.2.2.2.2.2.2.2.2.2.2.2.2.2.2.2.2.2.2.2.2.2.2.2.2.2.2.2.2.2.1
theorem IM.ph {μ : Int → Int} (h : IM μ) : ∀ p, 0 ≤ p → p < μ 7 → 0 ≤ μ (459 + 3 * p) ∧ μ (459 + 3 * p) ≤ 12 := h.2.2.2.2.2.2.2.2.2.2.2.2.2.2.2.2.2.2.2.2.2.2.2.2.2.2.2.2.2.2.2.2.2.1
theorem IM.pl {μ : Int → Int} (h : IM μ) : ∀ p, 0 ≤ p → p < μ 7 → μ (460 + 3 * p) = 0 ∨ μ (460 + 3 * p) = 1 := h.2.2.2.2.2.2.2.2.2.2.2.2.2.2.2.2.2.2.2.2.2.2.2.2.2.2.2.2.2.2.2.2.2.2.1
theorem IM.bh {μ : Int → Int} (h : IM μ) : ∀ b, 0 ≤ b → b < μ 8 → 0 ≤ μ (506 + 2 * b) ∧ μ (506 + 2 * b) < μ 1 := h.2.2.2.2.2.2.2.2.2.2.2.2.2.2.2.2.2.2.2.2.2.2.2.2.2.2.2.2.2.2.2.2.2.2.2.1
theorem IM.bm {μ : Int → Int} (h : IM μ) : ∀ b, 0 ≤ b → b < μ 8 → 1 ≤ μ (507 + 2 * b) ∧ μ (507 + 2 * b) ≤ 29 := h.2.2.2.2.2.2.2.2.2.2.2.2.2.2.2.2.2.2.2.2.2.2.2.2.2.2.2.2.2.2.2.2.2.2.2.2.1
theorem IM.bs {μ : Int → Int} (h : IM μ) : ∀ h, 0 ≤ h → h < μ 1 → 1 + bsum μ h (μ 8) ≤ μ (121 + 2 * h) := h.2.2.2.2.2.2.2.2.2.2.2.2.2.2.2.2.2.2.2.2.2.2.2.2.2.2.2.2.2.2.2.2.2.2.2.2.2
theorem s_5_set_x {d : Nat} {P : Option qV → qH → Prop} {X : Nat → qH → Prop} {I : qI} {H : qS} (hd : 1 ≤ d) {t : Nat} {n w r c v : Int} (h1 : I t 1 = w) (h3 : I t 3 = n) (hrow : 0 ≤ r ∧ r < n) (hc : w ≤ c) (hw : 0 ≤ w ∧ w ≤ 4 ∧ 0 ≤ c ∧ c ≤ 4 ∧ n ≤ 100 ∧ 0 ≤ r * w ∧ r * w ≤ 400) (h : P none (I, H)) :
    Call d 59 [vr (some t) 4, vi r, vi c, vi v] (I, H) P X := by
  obtain ⟨d, rfl⟩ : ∃ e, d = e + 1 := ⟨d - 1, by omega⟩
  show WP (Call d) 59 P X (0, [some (vr (some t) 4), some (vi r), some (vi c), some (vi v), none], [], (I, H), 0, 0)
  refine WP.go 3 (And.intro rfl (?_))
  refine rw_i (Q := fun x9 => WP (Call d) 59 P X (3, [some (vr (some t) 4), some (vi r), some (vi c), some (vi v), none], [vi x9, vi r], (I, H), 0, 0)) h1 ?_
  show WP (Call d) 59 P X (3, [some (vr (some t) 4), some (vi r), some (vi c), some (vi v), none], [vi w, vi r], (I, H), 0, 0)
  refine WP.go 6 (Exists.intro (r * w) (And.intro (wrp_a (by omega) (by omega)) (Exists.intro ((r * w) + c) (And.intro (wrp_a (by omega) (by omega)) (And.intro (fun (b8 : r < 0) => (absurd b8 (by omega))) (fun (b8 : ¬ r < 0) => ?_))))))
  show WP (Call d) 59 P X (9, [some (vr (some t) 4), some (vi r), some (vi c), some (vi v), some (vi ((r * w) + c))], [], (I, H), 0, 0)
  refine WP.go 4 (And.intro rfl (And.intro (fun (b12 : ¬ r < I t 3) => (absurd b12 (by omega))) (fun (b12 : r < I t 3) => ?_)))
  show WP (Call d) 59 P X (13, [some (vr (some t) 4), some (vi r), some (vi c), some (vi v), some (vi ((r * w) + c))], [], (I, H), 0, 0)
  refine WP.go 3 (And.intro rfl (?_))
  refine rw_i (Q := fun x9 => WP (Call d) 59 P X (16, [some (vr (some t) 4), some (vi r), some (vi c), some (vi v), some (vi ((r * w) + c))], [vi x9, vi c], (I, H), 0, 0)) h1 ?_
  show WP (Call d) 59 P X (16, [some (vr (some t) 4), some (vi r), some (vi c), some (vi v), some (vi ((r * w) + c))], [vi w, vi c], (I, H), 0, 0)
  refine WP.go 1 (And.intro (fun (b16 : ¬ c < w) => ?_) (fun (b16 : c < w) => (absurd b16 (by omega))))
  show WP (Call d) 59 P X (29, [some (vr (some t) 4), some (vi r), some (vi c), some (vi v), some (vi ((r * w) + c))], [], (I, H), 0, 0)
  refine WP.go 1 (And.intro (And.intro (Nat.le_of_ble_eq_true rfl) (Nat.le_of_ble_eq_true rfl)) (?_))
  show P none (I, H)
  exact h

theorem s_5_add_w2 {d : Nat} {P : Option qV → qH → Prop} {X : Nat → qH → Prop} {I : qI} {H : qS} (hd : 2 ≤ d) {t : Nat} {n l m v0 v1 v2 v3 : Int} (hr : H.1 t 2 = some (t + 1)) (h0 : I t 0 = m) (h1 : I t 1 = 2) (h3 : I t 3 = n) (hl : H.2.1 (t + 1) = l) (hn : 0 ≤ n ∧ n < m) (hb : m * 2 ≤ l ∧ l ≤ 1000 ∧ m ≤ 50) (h : ∀ J : qI, J t = (fun s => if s = 3 then n + 1 else I t s) → J (t + 1) = (fun j => if j = n * 2 + 1 then v1 else (if j = n * 2 + 0 then v0 else I (t + 1) j)) → (∀ a, a ≠ t → a ≠ t + 1 → J a = I a) → P (some (vi n)) (J, H)) :
    Call d 60 [vr (some t) 4, vi v0, vi v1, vi v2, vi v3] (I, H) P X := by
  obtain ⟨d, rfl⟩ : ∃ e, d = e + 1 := ⟨d - 1, by omega⟩
  show WP (Call d) 60 P X (0, [some (vr (some t) 4), some (vi v0), some (vi v1), some (vi v2), some (vi v3), none], [], (I, H), 0, 0)
  refine WP.go 2 (And.intro (And.intro (Nat.le_of_ble_eq_true rfl) (Nat.le_of_ble_eq_true rfl)) (And.intro rfl (?_)))
  show Call d 57 [vr (some t) 4] (I, H) _ _
  refine s_5_hasRoom (by omega) (by omega) (by omega) ?_
  show WP (Call d) 60 P X (2, [some (vr (some t) 4), some (vi v0), some (vi v1), some (vi v2), some (vi v3), none], [vi (bz (n < m))], (I, H), 0, 0)
  refine WP.go 1 (And.intro (fun (b2 : ¬ bz (n < m) = 0) => ?_) (fun (b2 : bz (n < m) = 0) => (by rw [bz_e0] at b2; omega)))
  show WP (Call d) 60 P X (5, [some (vr (some t) 4), some (vi v0), some (vi v1), some (vi v2), some (vi v3), none], [], (I, H), 0, 0)
  have z2 := bz_e1.mp b2
  refine WP.go 2 (And.intro rfl (?_))
  refine rw_i (Q := fun x9 => WP (Call d) 60 P X (7, [some (vr (some t) 4), some (vi v0), some (vi v1), some (vi v2), some (vi v3), none], [vi x9], (I, H), 0, 0)) h3 ?_
  show WP (Call d) 60 P X (7, [some (vr (some t) 4), some (vi v0), some (vi v1), some (vi v2), some (vi v3), none], [vi n], (I, H), 0, 0)
  refine WP.go 4 (And.intro rfl (?_))
  refine rw_i (Q := fun x9 => WP (Call d) 60 P X (11, [some (vr (some t) 4), some (vi v0), some (vi v1), some (vi v2), some (vi v3), some (vi n)], [vi x9, vr (some t) 4], (I, H), 0, 0)) h3 ?_
  show WP (Call d) 60 P X (11, [some (vr (some t) 4), some (vi v0), some (vi v1), some (vi v2), some (vi v3), some (vi n)], [vi n, vr (some t) 4], (I, H), 0, 0)
  refine WP.go 3 (Exists.intro (n + 1) (And.intro (wrp_a (by omega) (by omega)) (And.intro (And.intro rfl trivial) (?_))))
  show WP (Call d) 60 P X (14, [some (vr (some t) 4), some (vi v0), some (vi v1), some (vi v2), some (vi v3), some (vi n)], [], ((upI I t 3 (n + 1)), H), 0, 0)
  generalize hq_J0 : (upI I t 3 (n + 1)) = J0
  have e_J0 : J0 t = (fun j => if j = 3 then (n + 1) else I t j) := by rw [← hq_J0]; exact upI_self _ _ _ _
  have f_J0 : ∀ a, a ≠ t → J0 a = I a := fun a q => by rw [← hq_J0]; exact upI_cell q
  have h1_0 : J0 t 1 = 2 := by rw [e_J0]; exact h1
  have h3_0 : J0 t 3 = n + 1 := by rw [e_J0]; exact if_pos rfl
  refine WP.go 5 (And.intro (And.intro (Nat.le_of_ble_eq_true rfl) (Nat.le_of_ble_eq_true rfl)) (And.intro rfl (?_)))
  show Call d 59 [vr (some t) 4, vi n, vi 0, vi v0] (J0, H) _ _
  refine s_5_set_w2 (by omega) (by omega) h1_0 h3_0 (by omega) (by omega) (by omega) (by omega) (fun J18 e18 f18 => ?_)
  show WP (Call d) 60 P X (19, [some (vr (some t) 4), some (vi v0), some (vi v1), some (vi v2), some (vi v3), some (vi n)], [], (J18, H), 0, 0)
  have h1_1 : J18 t 1 = 2 := by rw [f18 t (by omega)]; exact h1_0
  have h3_1 : J18 t 3 = n + 1 := by rw [f18 t (by omega)]; exact h3_0
  have e_1 := e18
  have f_1 := f18
  refine WP.go 5 (And.intro (And.intro (Nat.le_of_ble_eq_true rfl) (Nat.le_of_ble_eq_true rfl)) (And.intro rfl (?_)))
  show Call d 59 [vr (some t) 4, vi n, vi 1, vi v1] (J18, H) _ _
  refine s_5_set_w2 (by omega) (by omega) h1_1 h3_1 (by omega) (by omega) (by omega) (by omega) (fun J23 e23 f23 => ?_)
  show WP (Call d) 60 P X (24, [some (vr (some t) 4), some (vi v0), some (vi v1), some (vi v2), some (vi v3), some (vi n)], [], (J23, H), 0, 0)
  have h1_2 : J23 t 1 = 2 := by rw [f23 t (by omega)]; exact h1_1
  have h3_2 : J23 t 3 = n + 1 := by rw [f23 t (by omega)]; exact h3_1
  have e_2 := e23
  have f_2 := f23
  refine WP.go 5 (And.intro (And.intro (Nat.le_of_ble_eq_true rfl) (Nat.le_of_ble_eq_true rfl)) (And.intro rfl (?_)))
  show Call d 59 [vr (some t) 4, vi n, vi 2, vi v2] (J23, H) _ _
  refine s_5_set_x (by omega) h1_2 h3_2 (by omega) (by omega) (by omega) ?_
  show WP (Call d) 60 P X (29, [some (vr (some t) 4), some (vi v0), some (vi v1), some (vi v2), some (vi v3), some (vi n)], [], (J23, H), 0, 0)
  refine WP.go 5 (And.intro (And.intro (Nat.le_of_ble_eq_true rfl) (Nat.le_of_ble_eq_true rfl)) (And.intro rfl (?_)))
  show Call d 59 [vr (some t) 4, vi n, vi 3, vi v3] (J23, H) _ _
  refine s_5_set_x (by omega) h1_2 h3_2 (by omega) (by omega) (by omega) ?_
  show WP (Call d) 60 P X (34, [some (vr (some t) 4), some (vi v0), some (vi v1), some (vi v2), some (vi v3), some (vi n)], [], (J23, H), 0, 0)
  refine WP.go 2 (And.intro (And.intro (Nat.le_of_ble_eq_true rfl) (Nat.le_of_ble_eq_true rfl)) (And.intro trivial (?_)))
  show P (some (vi n)) (J23, H)
  exact h _ (by rw [f_2 t (by omega), f_1 t (by omega), e_J0]) (by rw [e_2, e_1, f_J0 (t + 1) (by omega)]) (fun a q1 q2 => by rw [f_2 a q2, f_1 a q2, f_J0 a q1])

theorem s_5_add_w3 {d : Nat} {P : Option qV → qH → Prop} {X : Nat → qH → Prop} {I : qI} {H : qS} (hd : 2 ≤ d) {t : Nat} {n l m v0 v1 v2 v3 : Int} (hr : H.1 t 2 = some (t + 1)) (h0 : I t 0 = m) (h1 : I t 1 = 3) (h3 : I t 3 = n) (hl : H.2.1 (t + 1) = l) (hn : 0 ≤ n ∧ n < m) (hb : m * 3 ≤ l ∧ l ≤ 1000 ∧ m ≤ 50) (h : ∀ J : qI, J t = (fun s => if s = 3 then n + 1 else I t s) → J (t + 1) = (fun j => if j = n * 3 + 2 then v2 else (if j = n * 3 + 1 then v1 else (if j = n * 3 + 0 then v0 else I (t + 1) j))) → (∀ a, a ≠ t → a ≠ t + 1 → J a = I a) → P (some (vi n)) (J, H)) :
    Call d 60 [vr (some t) 4, vi v0, vi v1, vi v2, vi v3] (I, H) P X := by
  obtain ⟨d, rfl⟩ : ∃ e, d = e + 1 := ⟨d - 1, by omega⟩
  show WP (Call d) 60 P X (0, [some (vr (some t) 4), some (vi v0), some (vi v1), some (vi v2), some (vi v3), none], [], (I, H), 0, 0)
  refine WP.go 2 (And.intro (And.intro (Nat.le_of_ble_eq_true rfl) (Nat.le_of_ble_eq_true rfl)) (And.intro rfl (?_)))
  show Call d 57 [vr (some t) 4] (I, H) _ _
  refine s_5_hasRoom (by omega) (by omega) (by omega) ?_
  show WP (Call d) 60 P X (2, [some (vr (some t) 4), some (vi v0), some (vi v1), some (vi v2), some (vi v3), none], [vi (bz (n < m))], (I, H), 0, 0)
  refine WP.go 1 (And.intro (fun (b2 : ¬ bz (n < m) = 0) => ?_) (fun (b2 : bz (n < m) = 0) => (by rw [bz_e0] at b2; omega)))
  show WP (Call d) 60 P X (5, [some (vr (some t) 4), some (vi v0), some (vi v1), some (vi v2), some (vi v3), none], [], (I, H), 0, 0)
  have z2 := bz_e1.mp b2
  refine WP.go 2 (And.intro rfl (?_))
  refine rw_i (Q := fun x9 => WP (Call d) 60 P X (7, [some (vr (some t) 4), some (vi v0), some (vi v1), some (vi v2), some (vi v3), none], [vi x9], (I, H), 0, 0)) h3 ?_
  show WP (Call d) 60 P X (7, [some (vr (some t) 4), some (vi v0), some (vi v1), some (vi v2), some (vi v3), none], [vi n], (I, H), 0, 0)
  refine WP.go 4 (And.intro rfl (?_))
  refine rw_i (Q := fun x9 => WP (Call d) 60 P X (11, [some (vr (some t) 4), some (vi v0), some (vi v1), some (vi v2), some (vi v3), some (vi n)], [vi x9, vr (some t) 4], (I, H), 0, 0)) h3 ?_
  show WP (Call d) 60 P X (11, [some (vr (some t) 4), some (vi v0), some (vi v1), some (vi v2), some (vi v3), some (vi n)], [vi n, vr (some t) 4], (I, H), 0, 0)
  refine WP.go 3 (Exists.intro (n + 1) (And.intro (wrp_a (by omega) (by omega)) (And.intro (And.intro rfl trivial) (?_))))
  show WP (Call d) 60 P X (14, [some (vr (some t) 4), some (vi v0), some (vi v1), some (vi v2), some (vi v3), some (vi n)], [], ((upI I t 3 (n + 1)), H), 0, 0)
  generalize hq_J0 : (upI I t 3 (n + 1)) = J0
  have e_J0 : J0 t = (fun j => if j = 3 then (n + 1) else I t j) := by rw [← hq_J0]; exact upI_self _ _ _ _
  have f_J0 : ∀ a, a ≠ t → J0 a = I a := fun a q => by rw [← hq_J0]; exact upI_cell q
  have h1_0 : J0 t 1 = 3 := by rw [e_J0]; exact h1
  have h3_0 : J0 t 3 = n + 1 := by rw [e_J0]; exact if_pos rfl
  refine WP.go 5 (And.intro (And.intro (Nat.le_of_ble_eq_true rfl) (Nat.le_of_ble_eq_true rfl)) (And.intro rfl (?_)))
  show Call d 59 [vr (some t) 4, vi n, vi 0, vi v0] (J0, H) _ _
  refine s_5_set_w3 (by omega) (by omega) h1_0 h3_0 (by omega) (by omega) (by omega) (by omega) (fun J18 e18 f18 => ?_)
  show WP (Call d) 60 P X (19, [some (vr (some t) 4), some (vi v0), some (vi v1), some (vi v2), some (vi v3), some (vi n)], [], (J18, H), 0, 0)
  have h1_1 : J18 t 1 = 3 := by rw [f18 t (by omega)]; exact h1_0
  have h3_1 : J18 t 3 = n + 1 := by rw [f18 t (by omega)]; exact h3_0
  have e_1 := e18
  have f_1 := f18
  refine WP.go 5 (And.intro (And.intro (Nat.le_of_ble_eq_true rfl) (Nat.le_of_ble_eq_true rfl)) (And.intro rfl (?_)))
  show Call d 59 [vr (some t) 4, vi n, vi 1, vi v1] (J18, H) _ _
  refine s_5_set_w3 (by omega) (by omega) h1_1 h3_1 (by omega) (by omega) (by omega) (by omega) (fun J23 e23 f23 => ?_)
  show WP (Call d) 60 P X (24, [some (vr (some t) 4), some (vi v0), some (vi v1), some (vi v2), some (vi v3), some (vi n)], [], (J23, H), 0, 0)
  have h1_2 : J23 t 1 = 3 := by rw [f23 t (by omega)]; exact h1_1
  have h3_2 : J23 t 3 = n + 1 := by rw [f23 t (by omega)]; exact h3_1
  have e_2 := e23
  have f_2 := f23
  refine WP.go 5 (And.intro (And.intro (Nat.le_of_ble_eq_true rfl) (Nat.le_of_ble_eq_true rfl)) (And.intro rfl (?_)))
  show Call d 59 [vr (some t) 4, vi n, vi 2, vi v2] (J23, H) _ _
  refine s_5_set_w3 (by omega) (by omega) h1_2 h3_2 (by omega) (by omega) (by omega) (by omega) (fun J28 e28 f28 => ?_)
  show WP (Call d) 60 P X (29, [some (vr (some t) 4), some (vi v0), some (vi v1), some (vi v2), some (vi v3), some (vi n)], [], (J28, H), 0, 0)
  have h1_3 : J28 t 1 = 3 := by rw [f28 t (by omega)]; exact h1_2
  have h3_3 : J28 t 3 = n + 1 := by rw [f28 t (by omega)]; exact h3_2
  have e_3 := e28
  have f_3 := f28
  refine WP.go 5 (And.intro (And.intro (Nat.le_of_ble_eq_true rfl) (Nat.le_of_ble_eq_true rfl)) (And.intro rfl (?_)))
  show Call d 59 [vr (some t) 4, vi n, vi 3, vi v3] (J28, H) _ _
  refine s_5_set_x (by omega) h1_3 h3_3 (by omega) (by omega) (by omega) ?_
  show WP (Call d) 60 P X (34, [some (vr (some t) 4), some (vi v0), some (vi v1), some (vi v2), some (vi v3), some (vi n)], [], (J28, H), 0, 0)
  refine WP.go 2 (And.intro (And.intro (Nat.le_of_ble_eq_true rfl) (Nat.le_of_ble_eq_true rfl)) (And.intro trivial (?_)))
  show P (some (vi n)) (J28, H)
  exact h _ (by rw [f_3 t (by omega), f_2 t (by omega), f_1 t (by omega), e_J0]) (by rw [e_3, e_2, e_1, f_J0 (t + 1) (by omega)]) (fun a q1 q2 => by rw [f_3 a q2, f_2 a q2, f_1 a q2, f_J0 a q1])

theorem s_5_add_w4 {d : Nat} {P : Option qV → qH → Prop} {X : Nat → qH → Prop} {I : qI} {H : qS} (hd : 2 ≤ d) {t : Nat} {n l m v0 v1 v2 v3 : Int} (hr : H.1 t 2 = some (t + 1)) (h0 : I t 0 = m) (h1 : I t 1 = 4) (h3 : I t 3 = n) (hl : H.2.1 (t + 1) = l) (hn : 0 ≤ n ∧ n < m) (hb : m * 4 ≤ l ∧ l ≤ 1000 ∧ m ≤ 50) (h : ∀ J : qI, J t = (fun s => if s = 3 then n + 1 else I t s) → J (t + 1) = (fun j => if j = n * 4 + 3 then v3 else (if j = n * 4 + 2 then v2 else (if j = n * 4 + 1 then v1 else (if j = n * 4 + 0 then v0 else I (t + 1) j)))) → (∀ a, a ≠ t → a ≠ t + 1 → J a = I a) → P (some (vi n)) (J, H)) :
    Call d 60 [vr (some t) 4, vi v0, vi v1, vi v2, vi v3] (I, H) P X := by
  obtain ⟨d, rfl⟩ : ∃ e, d = e + 1 := ⟨d - 1, by omega⟩
  show WP (Call d) 60 P X (0, [some (vr (some t) 4), some (vi v0), some (vi v1), some (vi v2), some (vi v3), none], [], (I, H), 0, 0)
  refine WP.go 2 (And.intro (And.intro (Nat.le_of_ble_eq_true rfl) (Nat.le_of_ble_eq_true rfl)) (And.intro rfl (?_)))
  show Call d 57 [vr (some t) 4] (I, H) _ _
  refine s_5_hasRoom (by omega) (by omega) (by omega) ?_
  show WP (Call d) 60 P X (2, [some (vr (some t) 4), some (vi v0), some (vi v1), some (vi v2), some (vi v3), none], [vi (bz (n < m))], (I, H), 0, 0)
  refine WP.go 1 (And.intro (fun (b2 : ¬ bz (n < m) = 0) => ?_) (fun (b2 : bz (n < m) = 0) => (by rw [bz_e0] at b2; omega)))
  show WP (Call d) 60 P X (5, [some (vr (some t) 4), some (vi v0), some (vi v1), some (vi v2), some (vi v3), none], [], (I, H), 0, 0)
  have z2 := bz_e1.mp b2
  refine WP.go 2 (And.intro rfl (?_))
  refine rw_i (Q := fun x9 => WP (Call d) 60 P X (7, [some (vr (some t) 4), some (vi v0), some (vi v1), some (vi v2), some (vi v3), none], [vi x9], (I, H), 0, 0)) h3 ?_
  show WP (Call d) 60 P X (7, [some (vr (some t) 4), some (vi v0), some (vi v1), some (vi v2), some (vi v3), none], [vi n], (I, H), 0, 0)
  refine WP.go 4 (And.intro rfl (?_))
  refine rw_i (Q := fun x9 => WP (Call d) 60 P X (11, [some (vr (some t) 4), some (vi v0), some (vi v1), some (vi v2), some (vi v3), some (vi n)], [vi x9, vr (some t) 4], (I, H), 0, 0)) h3 ?_
  show WP (Call d) 60 P X (11, [some (vr (some t) 4), some (vi v0), some (vi v1), some (vi v2), some (vi v3), some (vi n)], [vi n, vr (some t) 4], (I, H), 0, 0)
  refine WP.go 3 (Exists.intro (n + 1) (And.intro (wrp_a (by omega) (by omega)) (And.intro (And.intro rfl trivial) (?_))))
  show WP (Call d) 60 P X (14, [some (vr (some t) 4), some (vi v0), some (vi v1), some (vi v2), some (vi v3), some (vi n)], [], ((upI I t 3 (n + 1)), H), 0, 0)
  generalize hq_J0 : (upI I t 3 (n + 1)) = J0
  have e_J0 : J0 t = (fun j => if j = 3 then (n + 1) else I t j) := by rw [← hq_J0]; exact upI_self _ _ _ _
  have f_J0 : ∀ a, a ≠ t → J0 a = I a := fun a q => by rw [← hq_J0]; exact upI_cell q
  have h1_0 : J0 t 1 = 4 := by rw [e_J0]; exact h1
  have h3_0 : J0 t 3 = n + 1 := by rw [e_J0]; exact if_pos rfl
  refine WP.go 5 (And.intro (And.intro (Nat.le_of_ble_eq_true rfl) (Nat.le_of_ble_eq_true rfl)) (And.intro rfl (?_)))
  show Call d 59 [vr (some t) 4, vi n, vi 0, vi v0] (J0, H) _ _
  refine s_5_set_w4 (by omega) (by omega) h1_0 h3_0 (by omega) (by omega) (by omega) (by omega) (fun J18 e18 f18 => ?_)
  show WP (Call d) 60 P X (19, [some (vr (some t) 4), some (vi v0), some (vi v1), some (vi v2), some (vi v3), some (vi n)], [], (J18, H), 0, 0)
  have h1_1 : J18 t 1 = 4 := by rw [f18 t (by omega)]; exact h1_0
  have h3_1 : J18 t 3 = n + 1 := by rw [f18 t (by omega)]; exact h3_0
  have e_1 := e18
  have f_1 := f18
  refine WP.go 5 (And.intro (And.intro (Nat.le_of_ble_eq_true rfl) (Nat.le_of_ble_eq_true rfl)) (And.intro rfl (?_)))
  show Call d 59 [vr (some t) 4, vi n, vi 1, vi v1] (J18, H) _ _
  refine s_5_set_w4 (by omega) (by omega) h1_1 h3_1 (by omega) (by omega) (by omega) (by omega) (fun J23 e23 f23 => ?_)
  show WP (Call d) 60 P X (24, [some (vr (some t) 4), some (vi v0), some (vi v1), some (vi v2), some (vi v3), some (vi n)], [], (J23, H), 0, 0)
  have h1_2 : J23 t 1 = 4 := by rw [f23 t (by omega)]; exact h1_1
  have h3_2 : J23 t 3 = n + 1 := by rw [f23 t (by omega)]; exact h3_1
  have e_2 := e23
  have f_2 := f23
  refine WP.go 5 (And.intro (And.intro (Nat.le_of_ble_eq_true rfl) (Nat.le_of_ble_eq_true rfl)) (And.intro rfl (?_)))
  show Call d 59 [vr (some t) 4, vi n, vi 2, vi v2] (J23, H) _ _
  refine s_5_set_w4 (by omega) (by omega) h1_2 h3_2 (by omega) (by omega) (by omega) (by omega) (fun J28 e28 f28 => ?_)
  show WP (Call d) 60 P X (29, [some (vr (some t) 4), some (vi v0), some (vi v1), some (vi v2), some (vi v3), some (vi n)], [], (J28, H), 0, 0)
  have h1_3 : J28 t 1 = 4 := by rw [f28 t (by omega)]; exact h1_2
  have h3_3 : J28 t 3 = n + 1 := by rw [f28 t (by omega)]; exact h3_2
  have e_3 := e28
  have f_3 := f28
  refine WP.go 5 (And.intro (And.intro (Nat.le_of_ble_eq_true rfl) (Nat.le_of_ble_eq_true rfl)) (And.intro rfl (?_)))
  show Call d 59 [vr (some t) 4, vi n, vi 3, vi v3] (J28, H) _ _
  refine s_5_set_w4 (by omega) (by omega) h1_3 h3_3 (by omega) (by omega) (by omega) (by omega) (fun J33 e33 f33 => ?_)
  show WP (Call d) 60 P X (34, [some (vr (some t) 4), some (vi v0), some (vi v1), some (vi v2), some (vi v3), some (vi n)], [], (J33, H), 0, 0)
  have h1_4 : J33 t 1 = 4 := by rw [f33 t (by omega)]; exact h1_3
  have h3_4 : J33 t 3 = n + 1 := by rw [f33 t (by omega)]; exact h3_3
  have e_4 := e33
  have f_4 := f33
  refine WP.go 2 (And.intro (And.intro (Nat.le_of_ble_eq_true rfl) (Nat.le_of_ble_eq_true rfl)) (And.intro trivial (?_)))
  show P (some (vi n)) (J33, H)
  exact h _ (by rw [f_4 t (by omega), f_3 t (by omega), f_2 t (by omega), f_1 t (by omega), e_J0]) (by rw [e_4, e_3, e_2, e_1, f_J0 (t + 1) (by omega)]) (fun a q1 q2 => by rw [f_4 a q2, f_3 a q2, f_2 a q2, f_1 a q2, f_J0 a q1])

theorem s_5_dropLast {d : Nat} {P : Option qV → qH → Prop} {X : Nat → qH → Prop} {I : qI} {H : qS} (hd : 1 ≤ d) {t : Nat} {n : Int} (h3 : I t 3 = n) (hn : 1 ≤ n ∧ n ≤ 100) (h : ∀ J : qI, J t = (fun s => if s = 3 then n - 1 else I t s) → (∀ a, a ≠ t → J a = I a) → P none (J, H)) :
    Call d 62 [vr (some t) 4] (I, H) P X := by
  obtain ⟨d, rfl⟩ : ∃ e, d = e + 1 := ⟨d - 1, by omega⟩
  show WP (Call d) 62 P X (0, [some (vr (some t) 4)], [], (I, H), 0, 0)
  refine WP.go 4 (And.intro rfl (?_))
  refine rw_i (Q := fun x9 => WP (Call d) 62 P X (4, [some (vr (some t) 4)], [vi x9, vi 0, vr (some t) 4], (I, H), 0, 0)) h3 ?_
  show WP (Call d) 62 P X (4, [some (vr (some t) 4)], [vi n, vi 0, vr (some t) 4], (I, H), 0, 0)
  refine WP.go 5 (Exists.intro (n - 1) (And.intro (wrp_a (by omega) (by omega)) (And.intro (And.intro (Nat.le_of_ble_eq_true rfl) (Nat.le_of_ble_eq_true rfl)) (And.intro (And.intro rfl trivial) (And.intro (And.intro (Nat.le_of_ble_eq_true rfl) (Nat.le_of_ble_eq_true rfl)) (?_))))))
  show P none ((upI I t 3 (mx 0 (n - 1))), H)
  rw [show mx 0 (n - 1) = n - 1 by have := mx_b 0 (n - 1); omega]
  exact h _ (upI_self _ _ _ _) (fun a q => upI_cell q)

theorem s_5_dropFirst {d : Nat} {P : Option qV → qH → Prop} {X : Nat → qH → Prop} {I : qI} {H : qS} (hd : 2 ≤ d) {t : Nat} {n : Int} (hr : H.1 t 2 = some (t + 1)) (h1 : I t 1 = 2) (h3 : I t 3 = n) (hl : H.2.1 (t + 1) = 40) (hn : 1 ≤ n ∧ n ≤ 100) (h : ∀ J : qI, J t = (fun s => if s = 3 then n - 1 else I t s) → (∀ j, 0 ≤ j → j < 38 → J (t + 1) j = I (t + 1) (j + 2)) → (∀ a, a ≠ t → a ≠ t + 1 → J a = I a) → P none (J, H)) :
    Call d 61 [vr (some t) 4] (I, H) P X := by
  obtain ⟨d, rfl⟩ : ∃ e, d = e + 1 := ⟨d - 1, by omega⟩
  show WP (Call d) 61 P X (0, [some (vr (some t) 4), none], [], (I, H), 0, 0)
  refine WP.go 2 ?_
  show WP (Call d) 61 P X (2, [some (vr (some t) 4), some (vi 0)], [], (I, H), 0, 0)
  have lp2 : ∀ (n9 : Nat) (J : qI) (i : Int) (hm : 38 - i < (n9 : Int)) (iv0 : 0 ≤ i ∧ i ≤ 38) (iv1 : ∀ j, 0 ≤ j → j < 40 → J (t + 1) j = if j < i then I (t + 1) (j + 2) else I (t + 1) j) (iv2 : ∀ a, a ≠ t + 1 → J a = I a), WP (Call d) 61 P X (2, [some (vr (some t) 4), some (vi i)], [], (J, H), 0, 0) := by
    intro n9
    induction n9 with
    | zero => intro J i hm iv0 iv1 iv2; exact absurd hm (by omega)
    | succ n9 ih2 =>
      intro J i hm iv0 iv1 iv2
      have k1 : J t 1 = 2 := by rw [iv2 t (by omega)]; exact h1
      refine WP.go 3 (And.intro rfl (?_))
      refine rw_i (Q := fun x9 => WP (Call d) 61 P X (5, [some (vr (some t) 4), some (vi i)], [vi x9, vi i], (J, H), 0, 0)) k1 ?_
      show WP (Call d) 61 P X (5, [some (vr (some t) 4), some (vi i)], [vi 2, vi i], (J, H), 0, 0)
      refine WP.go 5 (Exists.intro (i + 2) (And.intro (wrp_a (by omega) (by omega)) (And.intro rfl (Exists.intro (t + 1) (And.intro hr (And.intro (Or.inl rfl) (And.intro (fun (b9 : ¬ i + 2 < H.2.1 (t + 1)) => ?_) (fun (b9 : i + 2 < H.2.1 (t + 1)) => ?_))))))))
      ·
        show WP (Call d) 61 P X (23, [some (vr (some t) 4), some (vi i)], [], (J, H), 0, 0)
        refine WP.go 2 (And.intro (And.intro (Nat.le_of_ble_eq_true rfl) (Nat.le_of_ble_eq_true rfl)) (And.intro rfl (?_)))
        show Call d 62 [vr (some t) 4] (J, H) _ _
        refine s_5_dropLast (by omega) ((congrFun (iv2 t (by omega)) 3).trans h3) (by omega) (fun J24 e24 f24 => ?_)
        show WP (Call d) 61 P X (25, [some (vr (some t) 4), some (vi i)], [], (J24, H), 0, 0)
        refine WP.go 1 (And.intro (And.intro (Nat.le_of_ble_eq_true rfl) (Nat.le_of_ble_eq_true rfl)) (?_))
        show P none (J24, H)
        exact h _ (by rw [e24, iv2 t (by omega)]) (fun j q1 q2 => by rw [f24 (t + 1) (by omega), iv1 j q1 (by omega), if_pos (by omega)]) (fun a q1 q2 => by rw [f24 a q1, iv2 a q2])
      ·
        show WP (Call d) 61 P X (10, [some (vr (some t) 4), some (vi i)], [], (J, H), 0, 0)
        refine WP.go 8 (And.intro rfl (Exists.intro (t + 1) (And.intro hr (And.intro rfl (Exists.intro (t + 1) (And.intro hr (And.intro rfl (?_))))))))
        refine rw_i (Q := fun x9 => WP (Call d) 61 P X (18, [some (vr (some t) 4), some (vi i)], [vi x9, vi i, vr (some (t + 1)) 11, vi i, vr (some (t + 1)) 11], (J, H), 0, 0)) k1 ?_
        show WP (Call d) 61 P X (18, [some (vr (some t) 4), some (vi i)], [vi 2, vi i, vr (some (t + 1)) 11, vi i, vr (some (t + 1)) 11], (J, H), 0, 0)
        refine WP.go 5 (Exists.intro (i + 2) (And.intro (wrp_a (by omega) (by omega)) (And.intro (And.intro rfl (And.intro (show 0 ≤ i + 2 from by omega) (show i + 2 < H.2.1 (t + 1) from by omega))) (And.intro (And.intro rfl (And.intro (show 0 ≤ i from by omega) (show i < H.2.1 (t + 1) from by omega))) (Exists.intro (i + 1) (And.intro (wrp_a (by omega) (by omega)) (?_)))))))
        show WP (Call d) 61 P X (2, [some (vr (some t) 4), some (vi (i + 1))], [], ((upI J (t + 1) i (J (t + 1) (i + 2))), H), 0, 0)
        exact ih2 (upI J (t + 1) i (J (t + 1) (i + 2))) (i + 1) (by omega) (by omega) (cp_w (upI_self _ _ _ _) iv1 (by rw [iv1 _ (by omega) (by omega), if_neg (by omega)])) (fun a q => by rw [upI_cell q]; exact iv2 a q)
  exact lp2 ((38 - 0 : Int).toNat + 1) I 0 (by omega) (by omega) (fun j q1 q2 => by rw [if_neg (by omega)]) (fun _ _ => rfl)

theorem s_5_copyFrom {d : Nat} {P : Option qV → qH → Prop} {X : Nat → qH → Prop} {I : qI} {H : qS} (hd : 1 ≤ d) {t u : Nat} {l : Int} (hr : H.1 t 2 = some (t + 1)) (hu : H.1 u 2 = some (u + 1)) (hl : H.2.1 (t + 1) = l) (hl2 : H.2.1 (u + 1) = l) (hlb : 0 ≤ l ∧ l ≤ 1000) (hne : u ≠ t ∧ u ≠ t + 1 ∧ u + 1 ≠ t) (h : ∀ J : qI, J t = (fun s => if s = 3 then I u 3 else I t s) → (∀ j, 0 ≤ j → j < l → J (t + 1) j = I (u + 1) j) → (∀ a, a ≠ t → a ≠ t + 1 → J a = I a) → P none (J, H)) :
    Call d 63 [vr (some t) 4, vr (some u) 4] (I, H) P X := by
  obtain ⟨d, rfl⟩ : ∃ e, d = e + 1 := ⟨d - 1, by omega⟩
  show WP (Call d) 63 P X (0, [some (vr (some t) 4), some (vr (some u) 4), none], [], (I, H), 0, 0)
  refine WP.go 4 (And.intro rfl (And.intro (And.intro rfl trivial) (?_)))
  show WP (Call d) 63 P X (4, [some (vr (some t) 4), some (vr (some u) 4), none], [], ((upI I t 3 (I u 3)), H), 0, 0)
  generalize hq_J0 : (upI I t 3 (I u 3)) = J0
  have e_J0 : J0 t = (fun j => if j = 3 then (I u 3) else I t j) := by rw [← hq_J0]; exact upI_self _ _ _ _
  have f_J0 : ∀ a, a ≠ t → J0 a = I a := fun a q => by rw [← hq_J0]; exact upI_cell q
  refine WP.go 2 ?_
  show WP (Call d) 63 P X (6, [some (vr (some t) 4), some (vr (some u) 4), some (vi 0)], [], (J0, H), 0, 0)
  have lp6 : ∀ (n9 : Nat) (J : qI) (i : Int) (hm : l - i < (n9 : Int)) (iv0 : 0 ≤ i ∧ i ≤ l) (iv1 : ∀ j, 0 ≤ j → j < i → J (t + 1) j = I (u + 1) j) (iv2 : ∀ a, a ≠ t + 1 → J a = J0 a), WP (Call d) 63 P X (6, [some (vr (some t) 4), some (vr (some u) 4), some (vi i)], [], (J, H), 0, 0) := by
    intro n9
    induction n9 with
    | zero => intro J i hm iv0 iv1 iv2; exact absurd hm (by omega)
    | succ n9 ih6 =>
      intro J i hm iv0 iv1 iv2
      refine WP.go 5 (And.intro rfl (Exists.intro (t + 1) (And.intro hr (And.intro (Or.inl rfl) (And.intro (fun (b10 : ¬ i < H.2.1 (t + 1)) => ?_) (fun (b10 : i < H.2.1 (t + 1)) => ?_))))))
      ·
        show WP (Call d) 63 P X (26, [some (vr (some t) 4), some (vr (some u) 4), some (vi i)], [], (J, H), 0, 0)
        refine WP.go 1 (And.intro (And.intro (Nat.le_of_ble_eq_true rfl) (Nat.le_of_ble_eq_true rfl)) (?_))
        show P none (J, H)
        exact h _ (by rw [iv2 t (by omega), e_J0]) (fun j q1 q2 => iv1 j q1 (by omega)) (fun a q1 q2 => by rw [iv2 a q2, f_J0 a q1])
      ·
        show WP (Call d) 63 P X (11, [some (vr (some t) 4), some (vr (some u) 4), some (vi i)], [], (J, H), 0, 0)
        refine WP.go 5 (And.intro rfl (Exists.intro (u + 1) (And.intro hu (And.intro (Or.inl rfl) (And.intro (fun (b15 : ¬ i < H.2.1 (u + 1)) => ?_) (fun (b15 : i < H.2.1 (u + 1)) => ?_))))))
        ·
          show WP (Call d) 63 P X (26, [some (vr (some t) 4), some (vr (some u) 4), some (vi i)], [], (J, H), 0, 0)
          refine WP.go 1 (And.intro (And.intro (Nat.le_of_ble_eq_true rfl) (Nat.le_of_ble_eq_true rfl)) (?_))
          show P none (J, H)
          exact h _ (by rw [iv2 t (by omega), e_J0]) (fun j q1 q2 => iv1 j q1 (by omega)) (fun a q1 q2 => by rw [iv2 a q2, f_J0 a q1])
        ·
          show WP (Call d) 63 P X (16, [some (vr (some t) 4), some (vr (some u) 4), some (vi i)], [], (J, H), 0, 0)
          refine WP.go 10 (And.intro rfl (Exists.intro (t + 1) (And.intro hr (And.intro rfl (Exists.intro (u + 1) (And.intro hu (And.intro (And.intro rfl (And.intro (show 0 ≤ i from by omega) (show i < H.2.1 (u + 1) from by omega))) (And.intro (And.intro rfl (And.intro (show 0 ≤ i from by omega) (show i < H.2.1 (t + 1) from by omega))) (Exists.intro (i + 1) (And.intro (wrp_a (by omega) (by omega)) (?_)))))))))))
          show WP (Call d) 63 P X (6, [some (vr (some t) 4), some (vr (some u) 4), some (vi (i + 1))], [], ((upI J (t + 1) i (J (u + 1) i)), H), 0, 0)
          exact ih6 (upI J (t + 1) i (J (u + 1) i)) (i + 1) (by omega) (by omega) (cp_s (upI_self _ _ _ _) iv1 (by rw [iv2 (u + 1) (by omega), f_J0 (u + 1) (by omega)])) (fun a q => by rw [upI_cell q]; exact iv2 a q)
  exact lp6 ((l - 0 : Int).toNat + 1) J0 0 (by omega) (by omega) (fun j q1 q2 => by omega) (fun _ _ => rfl)

