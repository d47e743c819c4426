/-! sums and searches -/
def sm (f : Int → Int) (a : Int) : Nat → Int
  | 0 => 0
  | n + 1 => sm f a n + f (a + n)
def sI (f : Int → Int) (a b : Int) : Int := sm f a (b - a).toNat
theorem sI_nil {f : Int → Int} {a b : Int} (h : b ≤ a) : sI f a b = 0 := by unfold sI; rw [show (b - a).toNat = 0 by omega]; rfl
theorem sI_succ {f : Int → Int} {a b : Int} (h : a ≤ b) : sI f a (b + 1) = sI f a b + f b := by
  unfold sI
  rw [show (b + 1 - a).toNat = (b - a).toNat + 1 by omega]
  show sm f a (b - a).toNat + f (a + ((b - a).toNat : Int)) = _
  rw [show a + ((b - a).toNat : Int) = b by omega]
theorem sm_congr {f g : Int → Int} {a : Int} : ∀ (n : Nat), (∀ i, a ≤ i → i < a + n → f i = g i) → sm f a n = sm g a n
  | 0, _ => rfl
  | n + 1, h => by
    show sm f a n + f (a + n) = sm g a n + g (a + n)
    rw [sm_congr n (fun i h1 h2 => h i h1 (by omega)), h (a + n) (by omega) (by omega)]
theorem sI_congr {f g : Int → Int} {a b : Int} (h : ∀ i, a ≤ i → i < b → f i = g i) : sI f a b = sI g a b := sm_congr _ (fun i h1 h2 => h i h1 (by omega))
theorem sm_bd {f : Int → Int} {a lo hi : Int} : ∀ (n : Nat), (∀ i, a ≤ i → i < a + n → lo ≤ f i ∧ f i ≤ hi) → lo * n ≤ sm f a n ∧ sm f a n ≤ hi * n
  | 0, _ => by simp [sm]
  | n + 1, h => by
    have h1 := sm_bd n (fun i h1 h2 => h i h1 (by omega))
    have h2 := h (a + n) (by omega) (by omega)
    show lo * ((n + 1 : Nat) : Int) ≤ sm f a n + f (a + n) ∧ sm f a n + f (a + n) ≤ hi * ((n + 1 : Nat) : Int)
    rw [show ((n + 1 : Nat) : Int) = (n : Int) + 1 by omega, Int.mul_add, Int.mul_add]
    omega
theorem sI_bd {f : Int → Int} {a b : Int} (lo hi : Int) (hab : a ≤ b) (h : ∀ i, a ≤ i → i < b → lo ≤ f i ∧ f i ≤ hi) : lo * (b - a) ≤ sI f a b ∧ sI f a b ≤ hi * (b - a) := by
  have := sm_bd (f := f) (lo := lo) (hi := hi) (b - a).toNat (fun i h1 h2 => h i h1 (by omega))
  rw [show (((b - a).toNat : Nat) : Int) = b - a by omega] at this
  exact this
theorem sI_0 {f : Int → Int} {a b : Int} (h : ∀ i, a ≤ i → i < b → f i = 0) : sI f a b = 0 := by
  rcases Int.lt_or_le a b with q | q
  · have := sI_bd 0 0 (by omega : a ≤ b) (fun i h1 h2 => by have := h i h1 h2; show 0 ≤ f i ∧ f i ≤ 0; omega)
    omega
  · exact sI_nil q
/-- the first place with p out of n from a on; -1 -/
noncomputable def fs (p : Int → Prop) : Nat → Int → Int
  | 0, _ => -1
  | n + 1, a => @ite Int (p a) (Classical.propDecidable _) a (fs p n (a + 1))
theorem fs_s {p : Int → Prop} {n : Nat} {a : Int} (h : p a) : fs p (n + 1) a = a := if_pos h
theorem fs_n {p : Int → Prop} {n : Nat} {a : Int} (h : ¬ p a) : fs p (n + 1) a = fs p n (a + 1) := if_neg h
/-- the first from a on below b -/
noncomputable def fI (p : Int → Prop) (a b : Int) : Int := fs p (b - a).toNat a
theorem fI_nil {p : Int → Prop} {a b : Int} (h : b ≤ a) : fI p a b = -1 := by unfold fI; rw [show (b - a).toNat = 0 by omega]; rfl
theorem fI_s {p : Int → Prop} {a b : Int} (h : a < b) (q : p a) : fI p a b = a := by unfold fI; rw [show (b - a).toNat = (b - (a + 1)).toNat + 1 by omega]; exact fs_s q
theorem fI_n {p : Int → Prop} {a b : Int} (h : a < b) (q : ¬ p a) : fI p a b = fI p (a + 1) b := by unfold fI; rw [show (b - a).toNat = (b - (a + 1)).toNat + 1 by omega]; exact fs_n q
theorem fs_congr {p q : Int → Prop} : ∀ (n : Nat) (a : Int), (∀ i, a ≤ i → i < a + n → (p i ↔ q i)) → fs p n a = fs q n a
  | 0, _, _ => rfl
  | n + 1, a, h => by
    have h1 := h a (by omega) (by omega)
    rcases Classical.em (p a) with w | w
    · rw [fs_s w, fs_s (h1.mp w)]
    · rw [fs_n w, fs_n (fun z => w (h1.mpr z)), fs_congr n (a + 1) (fun i g1 g2 => h i (by omega) (by omega))]
theorem fI_congr {p q : Int → Prop} {a b : Int} (h : ∀ i, a ≤ i → i < b → (p i ↔ q i)) : fI p a b = fI q a b := fs_congr _ _ (fun i h1 h2 => h i h1 (by omega))
theorem fs_r {p : Int → Prop} : ∀ (n : Nat) (a : Int), (fs p n a = -1 ∧ ∀ i, a ≤ i → i < a + n → ¬ p i) ∨ (a ≤ fs p n a ∧ fs p n a < a + n ∧ p (fs p n a) ∧ ∀ i, a ≤ i → i < fs p n a → ¬ p i)
  | 0, a => .inl ⟨rfl, fun i h1 h2 => by omega⟩
  | n + 1, a => by
    rcases Classical.em (p a) with w | w
    · rw [fs_s w]; exact .inr ⟨by omega, by omega, w, fun i h1 h2 => by omega⟩
    · rw [fs_n w]
      rcases fs_r n (a + 1) with ⟨h1, h2⟩ | ⟨h1, h2, h3, h4⟩
      · exact .inl ⟨h1, fun i g1 g2 => by
          rcases Int.lt_or_eq_of_le g1 with g | g
          · exact h2 i (by omega) (by omega)
          · exact g ▸ w⟩
      · exact .inr ⟨by omega, by omega, h3, fun i g1 g2 => by
          rcases Int.lt_or_eq_of_le g1 with g | g
          · exact h4 i (by omega) g2
          · exact g ▸ w⟩
theorem fI_r {p : Int → Prop} {a b : Int} (hab : a ≤ b) : (fI p a b = -1 ∧ ∀ i, a ≤ i → i < b → ¬ p i) ∨ (a ≤ fI p a b ∧ fI p a b < b ∧ p (fI p a b) ∧ ∀ i, a ≤ i → i < fI p a b → ¬ p i) := by
  have := fs_r (p := p) (b - a).toNat a
  rw [show a + (((b - a).toNat : Nat) : Int) = b by omega] at this
  exact this
/-! rows written one after another -/
theorem cp_s {f f' g : Int → Int} {i v : Int} (e : f' = fun j => if j = i then v else f j) (h : ∀ j, 0 ≤ j → j < i → f j = g j) (hv : v = g i) : ∀ j, 0 ≤ j → j < i + 1 → f' j = g j := fun j h1 h2 => by
  rw [e]
  show (if j = i then v else f j) = g j
  by_cases q : j = i
  · rw [if_pos q, hv, q]
  · rw [if_neg q, h j h1 (by omega)]
theorem cp_w {f f' g k : Int → Int} {i v m : Int} (e : f' = fun j => if j = i then v else f j) (h : ∀ j, 0 ≤ j → j < m → f j = if j < i then g j else k j) (hv : v = g i) : ∀ j, 0 ≤ j → j < m → f' j = if j < i + 1 then g j else k j := fun j h1 h2 => by
  rw [e]
  show (if j = i then v else f j) = _
  by_cases q : j = i
  · rw [if_pos q, if_pos (by omega), hv, q]
  · rw [if_neg q, h j h1 h2]
    by_cases z : j < i
    · rw [if_pos z, if_pos (by omega)]
    · rw [if_neg z, if_neg (by omega)]
/-! the plate -/
def sx (d : Int) : Int := if 0 < d ∧ d < 4 then 1 else if 4 < d then -1 else 0
def sy (d : Int) : Int := if d < 2 ∨ d = 7 then 1 else if 2 < d ∧ d < 6 then -1 else 0
def dirOf (p a : Int) : Int := ((p - a) % 96 + 6) / 12 % 8
def namOf (d a : Int) : Int := (12 * d + a + 6) / 12 % 8
theorem sx_bd (d : Int) : -1 ≤ sx d ∧ sx d ≤ 1 := by unfold sx; split <;> (try split) <;> omega
theorem sy_bd (d : Int) : -1 ≤ sy d ∧ sy d ≤ 1 := by unfold sy; split <;> (try split) <;> omega
theorem dirOf_bd (p a : Int) : 0 ≤ dirOf p a ∧ dirOf p a < 8 := by unfold dirOf; omega
/-- the rows of steps -/
def SX (I : qI) : Prop := (∀ j, 0 ≤ j → j < 8 → I 0 j = sx j) ∧ (∀ j, 0 ≤ j → j < 8 → I 1 j = sy j)
/-- the cell so far off; -1 beyond the edge -/
def coff (c d k : Int) : Int := if 0 ≤ c % 9 + k * sx d ∧ c % 9 + k * sx d < 9 ∧ 0 ≤ c / 9 + k * sy d ∧ c / 9 + k * sy d < 9 then 9 * (c / 9 + k * sy d) + (c % 9 + k * sx d) else -1
theorem mul_bd {k s m : Int} (h0 : 0 ≤ k) (h1 : k ≤ m) (h2 : -1 ≤ s) (h3 : s ≤ 1) : -m ≤ k * s ∧ k * s ≤ m := by
  have hs : s = -1 ∨ s = 0 ∨ s = 1 := by omega
  rcases hs with rfl | rfl | rfl
  · rw [show k * (-1) = -k by omega]; omega
  · rw [Int.mul_zero]; omega
  · rw [Int.mul_one]; omega

theorem s_4_stepX {d : Nat} {P : Option qV → qH → Prop} {X : Nat → qH → Prop} {I : qI} {H : qS} (hd : 1 ≤ d) {d0 : Int} (hS : Shp H) (hX : SX I) (hd0 : 0 ≤ d0 ∧ d0 < 8) (h : P (some (vi (sx d0))) (I, H)) :
    Call d 49 [vi d0] (I, H) P X := by
  obtain ⟨d, rfl⟩ : ∃ e, d = e + 1 := ⟨d - 1, by omega⟩
  have hl0 := hS.l0
  show WP (Call d) 49 P X (0, [some (vi d0)], [], (I, H), 0, 0)
  refine WP.go 2 (And.intro (fun (b1 : d0 < 0) => (absurd b1 (by omega))) (fun (b1 : ¬ d0 < 0) => ?_))
  show WP (Call d) 49 P X (2, [some (vi d0)], [], (I, H), 0, 0)
  refine WP.go 4 (And.intro (Or.inl rfl) (And.intro (fun (b5 : ¬ d0 < H.2.1 0) => (absurd b5 (by omega))) (fun (b5 : d0 < H.2.1 0) => ?_)))
  show WP (Call d) 49 P X (6, [some (vi d0)], [], (I, H), 0, 0)
  refine WP.go 5 (And.intro (And.intro rfl (And.intro (show 0 ≤ d0 from by omega) (show d0 < H.2.1 0 from by omega))) (And.intro (And.intro (Nat.le_of_ble_eq_true rfl) (Nat.le_of_ble_eq_true rfl)) (And.intro trivial (?_))))
  show P (some (vi (I 0 d0))) (I, H)
  exact fin_i (hX.1 _ (by omega) (by omega)) h

theorem s_4_stepY {d : Nat} {P : Option qV → qH → Prop} {X : Nat → qH → Prop} {I : qI} {H : qS} (hd : 1 ≤ d) {d0 : Int} (hS : Shp H) (hX : SX I) (hd0 : 0 ≤ d0 ∧ d0 < 8) (h : P (some (vi (sy d0))) (I, H)) :
    Call d 50 [vi d0] (I, H) P X := by
  obtain ⟨d, rfl⟩ : ∃ e, d = e + 1 := ⟨d - 1, by omega⟩
  have hl1 := hS.l1
  show WP (Call d) 50 P X (0, [some (vi d0)], [], (I, H), 0, 0)
  refine WP.go 2 (And.intro (fun (b1 : d0 < 0) => (absurd b1 (by omega))) (fun (b1 : ¬ d0 < 0) => ?_))
  show WP (Call d) 50 P X (2, [some (vi d0)], [], (I, H), 0, 0)
  refine WP.go 4 (And.intro (Or.inl rfl) (And.intro (fun (b5 : ¬ d0 < H.2.1 1) => (absurd b5 (by omega))) (fun (b5 : d0 < H.2.1 1) => ?_)))
  show WP (Call d) 50 P X (6, [some (vi d0)], [], (I, H), 0, 0)
  refine WP.go 5 (And.intro (And.intro rfl (And.intro (show 0 ≤ d0 from by omega) (show d0 < H.2.1 1 from by omega))) (And.intro (And.intro (Nat.le_of_ble_eq_true rfl) (Nat.le_of_ble_eq_true rfl)) (And.intro trivial (?_))))
  show P (some (vi (I 1 d0))) (I, H)
  exact fin_i (hX.2 _ (by omega) (by omega)) h

theorem s_4_directionOf {d : Nat} {P : Option qV → qH → Prop} {X : Nat → qH → Prop} {I : qI} {H : qS} (hd : 1 ≤ d) {p a : Int} (hp : 0 ≤ p ∧ p < 96) (ha : 0 ≤ a ∧ a < 96) (h : P (some (vi (dirOf p a))) (I, H)) :
    Call d 51 [vi p, vi a] (I, H) P X := by
  obtain ⟨d, rfl⟩ : ∃ e, d = e + 1 := ⟨d - 1, by omega⟩
  show WP (Call d) 51 P X (0, [some (vi p), some (vi a)], [], (I, H), 0, 0)
  refine WP.go 12 (Exists.intro (p - a) (And.intro (wrp_a (by omega) (by omega)) (Exists.intro ((p - a) % 96) (And.intro (And.intro (And.intro (by omega) rfl) (And.intro (Nat.le_of_ble_eq_true rfl) (Nat.le_of_ble_eq_true rfl))) (Exists.intro (((p - a) % 96) + 6) (And.intro (wrp_a (by omega) (by omega)) (Exists.intro ((((p - a) % 96) + 6) / 12) (And.intro (tdiv_a (by omega) (by omega) (by omega)) (Exists.intro (((((p - a) % 96) + 6) / 12) % 8) (And.intro (tmod_a (by omega) (by omega)) (And.intro (And.intro (Nat.le_of_ble_eq_true rfl) (Nat.le_of_ble_eq_true rfl)) (And.intro trivial (?_)))))))))))))
  show P (some (vi (((((p - a) % 96) + 6) / 12) % 8))) (I, H)
  exact fin_i (by rfl) h

theorem s_4_nameOf {d : Nat} {P : Option qV → qH → Prop} {X : Nat → qH → Prop} {I : qI} {H : qS} (hd : 1 ≤ d) {p a : Int} (hp : 0 ≤ p ∧ p < 8) (ha : 0 ≤ a ∧ a < 96) (h : P (some (vi (namOf p a))) (I, H)) :
    Call d 52 [vi p, vi a] (I, H) P X := by
  obtain ⟨d, rfl⟩ : ∃ e, d = e + 1 := ⟨d - 1, by omega⟩
  show WP (Call d) 52 P X (0, [some (vi p), some (vi a)], [], (I, H), 0, 0)
  refine WP.go 12 (Exists.intro (12 * p) (And.intro (wrp_a (by omega) (by omega)) (Exists.intro ((12 * p) + a) (And.intro (wrp_a (by omega) (by omega)) (Exists.intro (((12 * p) + a) + 6) (And.intro (wrp_a (by omega) (by omega)) (Exists.intro ((((12 * p) + a) + 6) / 12) (And.intro (tdiv_a (by omega) (by omega) (by omega)) (Exists.intro (((((12 * p) + a) + 6) / 12) % 8) (And.intro (tmod_a (by omega) (by omega)) (And.intro (And.intro (Nat.le_of_ble_eq_true rfl) (Nat.le_of_ble_eq_true rfl)) (And.intro trivial (?_)))))))))))))
  show P (some (vi (((((12 * p) + a) + 6) / 12) % 8))) (I, H)
  exact fin_i (by rfl) h

theorem s_4_cellOff {d : Nat} {P : Option qV → qH → Prop} {X : Nat → qH → Prop} {I : qI} {H : qS} (hd : 2 ≤ d) {c p k : Int} (hS : Shp H) (hX : SX I) (hc : 0 ≤ c ∧ c < 81) (hp : 0 ≤ p ∧ p < 8) (hk : 0 ≤ k ∧ k < 100) (h : P (some (vi (coff c p k))) (I, H)) :
    Call d 53 [vi c, vi p, vi k] (I, H) P X := by
  obtain ⟨d, rfl⟩ : ∃ e, d = e + 1 := ⟨d - 1, by omega⟩
  have m1 := mul_bd hk.1 (Int.le_of_lt hk.2) (sx_bd p).1 (sx_bd p).2
  have m2 := mul_bd hk.1 (Int.le_of_lt hk.2) (sy_bd p).1 (sy_bd p).2
  show WP (Call d) 53 P X (0, [some (vi c), some (vi p), some (vi k), none, none], [], (I, H), 0, 0)
  refine WP.go 6 (Exists.intro (c % 9) (And.intro (tmod_a (by omega) (by omega)) (And.intro (And.intro (Nat.le_of_ble_eq_true rfl) (Nat.le_of_ble_eq_true rfl)) (And.intro rfl (?_)))))
  show Call d 49 [vi p] (I, H) _ _
  refine s_4_stepX (by omega) hS hX (by omega) ?_
  show WP (Call d) 53 P X (6, [some (vi c), some (vi p), some (vi k), none, none], [vi (sx p), vi k, vi (c % 9)], (I, H), 0, 0)
  refine WP.go 9 (Exists.intro (k * (sx p)) (And.intro (wrp_a (by omega) (by omega)) (Exists.intro ((c % 9) + (k * (sx p))) (And.intro (wrp_a (by omega) (by omega)) (Exists.intro (c / 9) (And.intro (tdiv_a (by omega) (by omega) (by omega)) (And.intro (And.intro (Nat.le_of_ble_eq_true rfl) (Nat.le_of_ble_eq_true rfl)) (And.intro rfl (?_)))))))))
  show Call d 50 [vi p] (I, H) _ _
  refine s_4_stepY (by omega) hS hX (by omega) ?_
  show WP (Call d) 53 P X (15, [some (vi c), some (vi p), some (vi k), some (vi ((c % 9) + (k * (sx p)))), none], [vi (sy p), vi k, vi (c / 9)], (I, H), 0, 0)
  refine WP.go 5 (Exists.intro (k * (sy p)) (And.intro (wrp_a (by omega) (by omega)) (Exists.intro ((c / 9) + (k * (sy p))) (And.intro (wrp_a (by omega) (by omega)) (And.intro (fun (b19 : (c % 9) + (k * (sx p)) < 0) => ?_) (fun (b19 : ¬ (c % 9) + (k * (sx p)) < 0) => ?_))))))
  ·
    show WP (Call d) 53 P X (34, [some (vi c), some (vi p), some (vi k), some (vi ((c % 9) + (k * (sx p)))), some (vi ((c / 9) + (k * (sy p))))], [], (I, H), 0, 0)
    refine WP.go 2 (And.intro (And.intro (Nat.le_of_ble_eq_true rfl) (Nat.le_of_ble_eq_true rfl)) (And.intro trivial (?_)))
    show P (some (vi (-1))) (I, H)
    exact fin_i (by unfold coff; split <;> omega) h
  ·
    show WP (Call d) 53 P X (20, [some (vi c), some (vi p), some (vi k), some (vi ((c % 9) + (k * (sx p)))), some (vi ((c / 9) + (k * (sy p))))], [], (I, H), 0, 0)
    refine WP.go 3 (And.intro (fun (b22 : ¬ (c % 9) + (k * (sx p)) < 9) => ?_) (fun (b22 : (c % 9) + (k * (sx p)) < 9) => ?_))
    ·
      show WP (Call d) 53 P X (34, [some (vi c), some (vi p), some (vi k), some (vi ((c % 9) + (k * (sx p)))), some (vi ((c / 9) + (k * (sy p))))], [], (I, H), 0, 0)
      refine WP.go 2 (And.intro (And.intro (Nat.le_of_ble_eq_true rfl) (Nat.le_of_ble_eq_true rfl)) (And.intro trivial (?_)))
      show P (some (vi (-1))) (I, H)
      exact fin_i (by unfold coff; split <;> omega) h
    ·
      show WP (Call d) 53 P X (23, [some (vi c), some (vi p), some (vi k), some (vi ((c % 9) + (k * (sx p)))), some (vi ((c / 9) + (k * (sy p))))], [], (I, H), 0, 0)
      refine WP.go 2 (And.intro (fun (b24 : (c / 9) + (k * (sy p)) < 0) => ?_) (fun (b24 : ¬ (c / 9) + (k * (sy p)) < 0) => ?_))
      ·
        show WP (Call d) 53 P X (34, [some (vi c), some (vi p), some (vi k), some (vi ((c % 9) + (k * (sx p)))), some (vi ((c / 9) + (k * (sy p))))], [], (I, H), 0, 0)
        refine WP.go 2 (And.intro (And.intro (Nat.le_of_ble_eq_true rfl) (Nat.le_of_ble_eq_true rfl)) (And.intro trivial (?_)))
        show P (some (vi (-1))) (I, H)
        exact fin_i (by unfold coff; split <;> omega) h
      ·
        show WP (Call d) 53 P X (25, [some (vi c), some (vi p), some (vi k), some (vi ((c % 9) + (k * (sx p)))), some (vi ((c / 9) + (k * (sy p))))], [], (I, H), 0, 0)
        refine WP.go 3 (And.intro (fun (b27 : ¬ (c / 9) + (k * (sy p)) < 9) => ?_) (fun (b27 : (c / 9) + (k * (sy p)) < 9) => ?_))
        ·
          show WP (Call d) 53 P X (34, [some (vi c), some (vi p), some (vi k), some (vi ((c % 9) + (k * (sx p)))), some (vi ((c / 9) + (k * (sy p))))], [], (I, H), 0, 0)
          refine WP.go 2 (And.intro (And.intro (Nat.le_of_ble_eq_true rfl) (Nat.le_of_ble_eq_true rfl)) (And.intro trivial (?_)))
          show P (some (vi (-1))) (I, H)
          exact fin_i (by unfold coff; split <;> omega) h
        ·
          show WP (Call d) 53 P X (28, [some (vi c), some (vi p), some (vi k), some (vi ((c % 9) + (k * (sx p)))), some (vi ((c / 9) + (k * (sy p))))], [], (I, H), 0, 0)
          refine WP.go 7 (Exists.intro (9 * ((c / 9) + (k * (sy p)))) (And.intro (wrp_a (by omega) (by omega)) (Exists.intro ((9 * ((c / 9) + (k * (sy p)))) + ((c % 9) + (k * (sx p)))) (And.intro (wrp_a (by omega) (by omega)) (And.intro (And.intro (Nat.le_of_ble_eq_true rfl) (Nat.le_of_ble_eq_true rfl)) (And.intro trivial (?_)))))))
          show P (some (vi ((9 * ((c / 9) + (k * (sy p)))) + ((c % 9) + (k * (sx p)))))) (I, H)
          exact fin_i (by unfold coff; split <;> omega) h

theorem s_5_size {d : Nat} {P : Option qV → qH → Prop} {X : Nat → qH → Prop} {I : qI} {H : qS} (hd : 1 ≤ d) {t : Nat} {n : Int} (h3 : I t 3 = n) (h : P (some (vi n)) (I, H)) :
    Call d 55 [vr (some t) 4] (I, H) P X := by
  obtain ⟨d, rfl⟩ : ∃ e, d = e + 1 := ⟨d - 1, by omega⟩
  show WP (Call d) 55 P X (0, [some (vr (some t) 4)], [], (I, H), 0, 0)
  refine WP.go 3 (And.intro rfl (And.intro (And.intro (Nat.le_of_ble_eq_true rfl) (Nat.le_of_ble_eq_true rfl)) (And.intro trivial (?_))))
  show P (some (vi (I t 3))) (I, H)
  exact fin_i (by exact h3) h

theorem s_5_has {d : Nat} {P : Option qV → qH → Prop} {X : Nat → qH → Prop} {I : qI} {H : qS} (hd : 1 ≤ d) {t : Nat} {n r : Int} (h3 : I t 3 = n) (h : P (some (vi (bz (0 ≤ r ∧ r < n)))) (I, H)) :
    Call d 56 [vr (some t) 4, vi r] (I, H) P X := by
  obtain ⟨d, rfl⟩ : ∃ e, d = e + 1 := ⟨d - 1, by omega⟩
  show WP (Call d) 56 P X (0, [some (vr (some t) 4), some (vi r)], [], (I, H), 0, 0)
  refine WP.go 2 (And.intro (fun (b1 : r < 0) => ?_) (fun (b1 : ¬ r < 0) => ?_))
  ·
    show WP (Call d) 56 P X (8, [some (vr (some t) 4), some (vi r)], [], (I, H), 0, 0)
    refine WP.go 2 (And.intro (And.intro (Nat.le_of_ble_eq_true rfl) (Nat.le_of_ble_eq_true rfl)) (And.intro (Or.inl rfl) (?_)))
    show P (some (vi 0)) (I, H)
    exact fin_i (by first | rfl | omega | exact zero_bz (by omega) | exact one_bz (by omega)) h
  ·
    show WP (Call d) 56 P X (2, [some (vr (some t) 4), some (vi r)], [], (I, H), 0, 0)
    refine WP.go 4 (And.intro rfl (And.intro (fun (b5 : ¬ r < I t 3) => ?_) (fun (b5 : r < I t 3) => ?_)))
    ·
      show WP (Call d) 56 P X (8, [some (vr (some t) 4), some (vi r)], [], (I, H), 0, 0)
      refine WP.go 2 (And.intro (And.intro (Nat.le_of_ble_eq_true rfl) (Nat.le_of_ble_eq_true rfl)) (And.intro (Or.inl rfl) (?_)))
      show P (some (vi 0)) (I, H)
      exact fin_i (by first | rfl | omega | exact zero_bz (by omega) | exact one_bz (by omega)) h
    ·
      show WP (Call d) 56 P X (6, [some (vr (some t) 4), some (vi r)], [], (I, H), 0, 0)
      refine WP.go 3 (And.intro (And.intro (Nat.le_of_ble_eq_true rfl) (Nat.le_of_ble_eq_true rfl)) (And.intro (Or.inr rfl) (?_)))
      show P (some (vi 1)) (I, H)
      exact fin_i (by first | rfl | omega | exact zero_bz (by omega) | exact one_bz (by omega)) h

theorem s_5_hasRoom {d : Nat} {P : Option qV → qH → Prop} {X : Nat → qH → Prop} {I : qI} {H : qS} (hd : 1 ≤ d) {t : Nat} {n l : Int} (h0 : I t 0 = l) (h3 : I t 3 = n) (h : P (some (vi (bz (n < l)))) (I, H)) :
    Call d 57 [vr (some t) 4] (I, H) P X := by
  obtain ⟨d, rfl⟩ : ∃ e, d = e + 1 := ⟨d - 1, by omega⟩
  show WP (Call d) 57 P X (0, [some (vr (some t) 4)], [], (I, H), 0, 0)
  refine WP.go 5 (And.intro rfl (And.intro rfl (And.intro (fun (b4 : ¬ I t 3 < I t 0) => ?_) (fun (b4 : I t 3 < I t 0) => ?_))))
  ·
    show WP (Call d) 57 P X (7, [some (vr (some t) 4)], [], (I, H), 0, 0)
    refine WP.go 2 (And.intro (And.intro (Nat.le_of_ble_eq_true rfl) (Nat.le_of_ble_eq_true rfl)) (And.intro (Or.inl rfl) (?_)))
    show P (some (vi 0)) (I, H)
    exact fin_i (by first | rfl | omega | exact zero_bz (by omega) | exact one_bz (by omega)) h
  ·
    show WP (Call d) 57 P X (5, [some (vr (some t) 4)], [], (I, H), 0, 0)
    refine WP.go 3 (And.intro (And.intro (Nat.le_of_ble_eq_true rfl) (Nat.le_of_ble_eq_true rfl)) (And.intro (Or.inr rfl) (?_)))
    show P (some (vi 1)) (I, H)
    exact fin_i (by first | rfl | omega | exact zero_bz (by omega) | exact one_bz (by omega)) h

theorem s_5_get_w2 {d : Nat} {P : Option qV → qH → Prop} {X : Nat → qH → Prop} {I : qI} {H : qS} (hd : 1 ≤ d) {t : Nat} {n l r c : Int} (hr : H.1 t 2 = some (t + 1)) (h1 : I t 1 = 2) (h3 : I t 3 = n) (hl : H.2.1 (t + 1) = l) (hrow : 0 ≤ r ∧ r < n) (hc : 0 ≤ c ∧ c < 2) (hb : n * 2 ≤ l ∧ l ≤ 1000) (h : P (some (vi (I (t + 1) (r * 2 + c)))) (I, H)) :
    Call d 58 [vr (some t) 4, vi r, vi c] (I, H) P X := by
  obtain ⟨d, rfl⟩ : ∃ e, d = e + 1 := ⟨d - 1, by omega⟩
  show WP (Call d) 58 P X (0, [some (vr (some t) 4), some (vi r), some (vi c), none], [], (I, H), 0, 0)
  refine WP.go 3 (And.intro rfl (?_))
  refine rw_i (Q := fun x9 => WP (Call d) 58 P X (3, [some (vr (some t) 4), some (vi r), some (vi c), none], [vi x9, vi r], (I, H), 0, 0)) h1 ?_
  show WP (Call d) 58 P X (3, [some (vr (some t) 4), some (vi r), some (vi c), none], [vi 2, vi r], (I, H), 0, 0)
  refine WP.go 6 (Exists.intro (r * 2) (And.intro (wrp_a (by omega) (by omega)) (Exists.intro ((r * 2) + c) (And.intro (wrp_a (by omega) (by omega)) (And.intro (fun (b8 : r < 0) => (absurd b8 (by omega))) (fun (b8 : ¬ r < 0) => ?_))))))
  show WP (Call d) 58 P X (9, [some (vr (some t) 4), some (vi r), some (vi c), some (vi ((r * 2) + c))], [], (I, H), 0, 0)
  refine WP.go 4 (And.intro rfl (And.intro (fun (b12 : ¬ r < I t 3) => (absurd b12 (by omega))) (fun (b12 : r < I t 3) => ?_)))
  show WP (Call d) 58 P X (13, [some (vr (some t) 4), some (vi r), some (vi c), some (vi ((r * 2) + c))], [], (I, H), 0, 0)
  refine WP.go 2 (And.intro (fun (b14 : (r * 2) + c < 0) => (absurd b14 (by omega))) (fun (b14 : ¬ (r * 2) + c < 0) => ?_))
  show WP (Call d) 58 P X (15, [some (vr (some t) 4), some (vi r), some (vi c), some (vi ((r * 2) + c))], [], (I, H), 0, 0)
  refine WP.go 5 (And.intro rfl (Exists.intro (t + 1) (And.intro hr (And.intro (Or.inl rfl) (And.intro (fun (b19 : ¬ (r * 2) + c < H.2.1 (t + 1)) => (absurd b19 (by omega))) (fun (b19 : (r * 2) + c < H.2.1 (t + 1)) => ?_))))))
  show WP (Call d) 58 P X (20, [some (vr (some t) 4), some (vi r), some (vi c), some (vi ((r * 2) + c))], [], (I, H), 0, 0)
  refine WP.go 6 (And.intro rfl (Exists.intro (t + 1) (And.intro hr (And.intro (And.intro rfl (And.intro (show 0 ≤ (r * 2) + c from by omega) (show (r * 2) + c < H.2.1 (t + 1) from by omega))) (And.intro (And.intro (Nat.le_of_ble_eq_true rfl) (Nat.le_of_ble_eq_true rfl)) (And.intro trivial (?_)))))))
  show P (some (vi (I (t + 1) ((r * 2) + c)))) (I, H)
  exact fin_i (by first | rfl | omega | exact zero_bz (by omega) | exact one_bz (by omega)) h

theorem s_5_set_w2 {d : Nat} {P : Option qV → qH → Prop} {X : Nat → qH → Prop} {I : qI} {H : qS} (hd : 1 ≤ d) {t : Nat} {n l r c v : Int} (hr : H.1 t 2 = some (t + 1)) (h1 : I t 1 = 2) (h3 : I t 3 = n) (hl : H.2.1 (t + 1) = l) (hrow : 0 ≤ r ∧ r < n) (hc : 0 ≤ c ∧ c < 2) (hb : n * 2 ≤ l ∧ l ≤ 1000) (h : ∀ J : qI, J (t + 1) = (fun j => if j = r * 2 + c then v else I (t + 1) j) → (∀ a, a ≠ t + 1 → J a = I a) → P none (J, H)) :
    Call d 59 [vr (some t) 4, vi r, vi c, vi v] (I, H) P X := by
  obtain ⟨d, rfl⟩ : ∃ e, d = e + 1 := ⟨d - 1, by omega⟩
  show WP (Call d) 59 P X (0, [some (vr (some t) 4), some (vi r), some (vi c), some (vi v), none], [], (I, H), 0, 0)
  refine WP.go 3 (And.intro rfl (?_))
  refine rw_i (Q := fun x9 => WP (Call d) 59 P X (3, [some (vr (some t) 4), some (vi r), some (vi c), some (vi v), none], [vi x9, vi r], (I, H), 0, 0)) h1 ?_
  show WP (Call d) 59 P X (3, [some (vr (some t) 4), some (vi r), some (vi c), some (vi v), none], [vi 2, vi r], (I, H), 0, 0)
  refine WP.go 6 (Exists.intro (r * 2) (And.intro (wrp_a (by omega) (by omega)) (Exists.intro ((r * 2) + c) (And.intro (wrp_a (by omega) (by omega)) (And.intro (fun (b8 : r < 0) => (absurd b8 (by omega))) (fun (b8 : ¬ r < 0) => ?_))))))
  show WP (Call d) 59 P X (9, [some (vr (some t) 4), some (vi r), some (vi c), some (vi v), some (vi ((r * 2) + c))], [], (I, H), 0, 0)
  refine WP.go 4 (And.intro rfl (And.intro (fun (b12 : ¬ r < I t 3) => (absurd b12 (by omega))) (fun (b12 : r < I t 3) => ?_)))
  show WP (Call d) 59 P X (13, [some (vr (some t) 4), some (vi r), some (vi c), some (vi v), some (vi ((r * 2) + c))], [], (I, H), 0, 0)
  refine WP.go 3 (And.intro rfl (?_))
  refine rw_i (Q := fun x9 => WP (Call d) 59 P X (16, [some (vr (some t) 4), some (vi r), some (vi c), some (vi v), some (vi ((r * 2) + c))], [vi x9, vi c], (I, H), 0, 0)) h1 ?_
  show WP (Call d) 59 P X (16, [some (vr (some t) 4), some (vi r), some (vi c), some (vi v), some (vi ((r * 2) + c))], [vi 2, vi c], (I, H), 0, 0)
  refine WP.go 1 (And.intro (fun (b16 : ¬ c < 2) => (absurd b16 (by omega))) (fun (b16 : c < 2) => ?_))
  show WP (Call d) 59 P X (17, [some (vr (some t) 4), some (vi r), some (vi c), some (vi v), some (vi ((r * 2) + c))], [], (I, H), 0, 0)
  refine WP.go 2 (And.intro (fun (b18 : (r * 2) + c < 0) => (absurd b18 (by omega))) (fun (b18 : ¬ (r * 2) + c < 0) => ?_))
  show WP (Call d) 59 P X (19, [some (vr (some t) 4), some (vi r), some (vi c), some (vi v), some (vi ((r * 2) + c))], [], (I, H), 0, 0)
  refine WP.go 5 (And.intro rfl (Exists.intro (t + 1) (And.intro hr (And.intro (Or.inl rfl) (And.intro (fun (b23 : ¬ (r * 2) + c < H.2.1 (t + 1)) => (absurd b23 (by omega))) (fun (b23 : (r * 2) + c < H.2.1 (t + 1)) => ?_))))))
  show WP (Call d) 59 P X (24, [some (vr (some t) 4), some (vi r), some (vi c), some (vi v), some (vi ((r * 2) + c))], [], (I, H), 0, 0)
  refine WP.go 6 (And.intro rfl (Exists.intro (t + 1) (And.intro hr (And.intro (And.intro rfl (And.intro (show 0 ≤ (r * 2) + c from by omega) (show (r * 2) + c < H.2.1 (t + 1) from by omega))) (And.intro (And.intro (Nat.le_of_ble_eq_true rfl) (Nat.le_of_ble_eq_true rfl)) (?_))))))
  show P none ((upI I (t + 1) ((r * 2) + c) v), H)
  exact h _ (upI_self _ _ _ _) (fun a q => upI_cell q)

theorem s_5_get_w3 {d : Nat} {P : Option qV → qH → Prop} {X : Nat → qH → Prop} {I : qI} {H : qS} (hd : 1 ≤ d) {t : Nat} {n l r c : Int} (hr : H.1 t 2 = some (t + 1)) (h1 : I t 1 = 3) (h3 : I t 3 = n) (hl : H.2.1 (t + 1) = l) (hrow : 0 ≤ r ∧ r < n) (hc : 0 ≤ c ∧ c < 3) (hb : n * 3 ≤ l ∧ l ≤ 1000) (h : P (some (vi (I (t + 1) (r * 3 + c)))) (I, H)) :
    Call d 58 [vr (some t) 4, vi r, vi c] (I, H) P X := by
  obtain ⟨d, rfl⟩ : ∃ e, d = e + 1 := ⟨d - 1, by omega⟩
  show WP (Call d) 58 P X (0, [some (vr (some t) 4), some (vi r), some (vi c), none], [], (I, H), 0, 0)
  refine WP.go 3 (And.intro rfl (?_))
  refine rw_i (Q := fun x9 => WP (Call d) 58 P X (3, [some (vr (some t) 4), some (vi r), some (vi c), none], [vi x9, vi r], (I, H), 0, 0)) h1 ?_
  show WP (Call d) 58 P X (3, [some (vr (some t) 4), some (vi r), some (vi c), none], [vi 3, vi r], (I, H), 0, 0)
  refine WP.go 6 (Exists.intro (r * 3) (And.intro (wrp_a (by omega) (by omega)) (Exists.intro ((r * 3) + c) (And.intro (wrp_a (by omega) (by omega)) (And.intro (fun (b8 : r < 0) => (absurd b8 (by omega))) (fun (b8 : ¬ r < 0) => ?_))))))
  show WP (Call d) 58 P X (9, [some (vr (some t) 4), some (vi r), some (vi c), some (vi ((r * 3) + c))], [], (I, H), 0, 0)
  refine WP.go 4 (And.intro rfl (And.intro (fun (b12 : ¬ r < I t 3) => (absurd b12 (by omega))) (fun (b12 : r < I t 3) => ?_)))
  show WP (Call d) 58 P X (13, [some (vr (some t) 4), some (vi r), some (vi c), some (vi ((r * 3) + c))], [], (I, H), 0, 0)
  refine WP.go 2 (And.intro (fun (b14 : (r * 3) + c < 0) => (absurd b14 (by omega))) (fun (b14 : ¬ (r * 3) + c < 0) => ?_))
  show WP (Call d) 58 P X (15, [some (vr (some t) 4), some (vi r), some (vi c), some (vi ((r * 3) + c))], [], (I, H), 0, 0)
  refine WP.go 5 (And.intro rfl (Exists.intro (t + 1) (And.intro hr (And.intro (Or.inl rfl) (And.intro (fun (b19 : ¬ (r * 3) + c < H.2.1 (t + 1)) => (absurd b19 (by omega))) (fun (b19 : (r * 3) + c < H.2.1 (t + 1)) => ?_))))))
  show WP (Call d) 58 P X (20, [some (vr (some t) 4), some (vi r), some (vi c), some (vi ((r * 3) + c))], [], (I, H), 0, 0)
  refine WP.go 6 (And.intro rfl (Exists.intro (t + 1) (And.intro hr (And.intro (And.intro rfl (And.intro (show 0 ≤ (r * 3) + c from by omega) (show (r * 3) + c < H.2.1 (t + 1) from by omega))) (And.intro (And.intro (Nat.le_of_ble_eq_true rfl) (Nat.le_of_ble_eq_true rfl)) (And.intro trivial (?_)))))))
  show P (some (vi (I (t + 1) ((r * 3) + c)))) (I, H)
  exact fin_i (by first | rfl | omega | exact zero_bz (by omega) | exact one_bz (by omega)) h

theorem s_5_set_w3 {d : Nat} {P : Option qV → qH → Prop} {X : Nat → qH → Prop} {I : qI} {H : qS} (hd : 1 ≤ d) {t : Nat} {n l r c v : Int} (hr : H.1 t 2 = some (t + 1)) (h1 : I t 1 = 3) (h3 : I t 3 = n) (hl : H.2.1 (t + 1) = l) (hrow : 0 ≤ r ∧ r < n) (hc : 0 ≤ c ∧ c < 3) (hb : n * 3 ≤ l ∧ l ≤ 1000) (h : ∀ J : qI, J (t + 1) = (fun j => if j = r * 3 + c then v else I (t + 1) j) → (∀ a, a ≠ t + 1 → J a = I a) → P none (J, H)) :
    Call d 59 [vr (some t) 4, vi r, vi c, vi v] (I, H) P X := by
  obtain ⟨d, rfl⟩ : ∃ e, d = e + 1 := ⟨d - 1, by omega⟩
  show WP (Call d) 59 P X (0, [some (vr (some t) 4), some (vi r), some (vi c), some (vi v), none], [], (I, H), 0, 0)
  refine WP.go 3 (And.intro rfl (?_))
  refine rw_i (Q := fun x9 => WP (Call d) 59 P X (3, [some (vr (some t) 4), some (vi r), some (vi c), some (vi v), none], [vi x9, vi r], (I, H), 0, 0)) h1 ?_
  show WP (Call d) 59 P X (3, [some (vr (some t) 4), some (vi r), some (vi c), some (vi v), none], [vi 3, vi r], (I, H), 0, 0)
  refine WP.go 6 (Exists.intro (r * 3) (And.intro (wrp_a (by omega) (by omega)) (Exists.intro ((r * 3) + c) (And.intro (wrp_a (by omega) (by omega)) (And.intro (fun (b8 : r < 0) => (absurd b8 (by omega))) (fun (b8 : ¬ r < 0) => ?_))))))
  show WP (Call d) 59 P X (9, [some (vr (some t) 4), some (vi r), some (vi c), some (vi v), some (vi ((r * 3) + c))], [], (I, H), 0, 0)
  refine WP.go 4 (And.intro rfl (And.intro (fun (b12 : ¬ r < I t 3) => (absurd b12 (by omega))) (fun (b12 : r < I t 3) => ?_)))
  show WP (Call d) 59 P X (13, [some (vr (some t) 4), some (vi r), some (vi c), some (vi v), some (vi ((r * 3) + c))], [], (I, H), 0, 0)
  refine WP.go 3 (And.intro rfl (?_))
  refine rw_i (Q := fun x9 => WP (Call d) 59 P X (16, [some (vr (some t) 4), some (vi r), some (vi c), some (vi v), some (vi ((r * 3) + c))], [vi x9, vi c], (I, H), 0, 0)) h1 ?_
  show WP (Call d) 59 P X (16, [some (vr (some t) 4), some (vi r), some (vi c), some (vi v), some (vi ((r * 3) + c))], [vi 3, vi c], (I, H), 0, 0)
  refine WP.go 1 (And.intro (fun (b16 : ¬ c < 3) => (absurd b16 (by omega))) (fun (b16 : c < 3) => ?_))
  show WP (Call d) 59 P X (17, [some (vr (some t) 4), some (vi r), some (vi c), some (vi v), some (vi ((r * 3) + c))], [], (I, H), 0, 0)
  refine WP.go 2 (And.intro (fun (b18 : (r * 3) + c < 0) => (absurd b18 (by omega))) (fun (b18 : ¬ (r * 3) + c < 0) => ?_))
  show WP (Call d) 59 P X (19, [some (vr (some t) 4), some (vi r), some (vi c), some (vi v), some (vi ((r * 3) + c))], [], (I, H), 0, 0)
  refine WP.go 5 (And.intro rfl (Exists.intro (t + 1) (And.intro hr (And.intro (Or.inl rfl) (And.intro (fun (b23 : ¬ (r * 3) + c < H.2.1 (t + 1)) => (absurd b23 (by omega))) (fun (b23 : (r * 3) + c < H.2.1 (t + 1)) => ?_))))))
  show WP (Call d) 59 P X (24, [some (vr (some t) 4), some (vi r), some (vi c), some (vi v), some (vi ((r * 3) + c))], [], (I, H), 0, 0)
  refine WP.go 6 (And.intro rfl (Exists.intro (t + 1) (And.intro hr (And.intro (And.intro rfl (And.intro (show 0 ≤ (r * 3) + c from by omega) (show (r * 3) + c < H.2.1 (t + 1) from by omega))) (And.intro (And.intro (Nat.le_of_ble_eq_true rfl) (Nat.le_of_ble_eq_true rfl)) (?_))))))
  show P none ((upI I (t + 1) ((r * 3) + c) v), H)
  exact h _ (upI_self _ _ _ _) (fun a q => upI_cell q)

theorem s_5_get_w4 {d : Nat} {P : Option qV → qH → Prop} {X : Nat → qH → Prop} {I : qI} {H : qS} (hd : 1 ≤ d) {t : Nat} {n l r c : Int} (hr : H.1 t 2 = some (t + 1)) (h1 : I t 1 = 4) (h3 : I t 3 = n) (hl : H.2.1 (t + 1) = l) (hrow : 0 ≤ r ∧ r < n) (hc : 0 ≤ c ∧ c < 4) (hb : n * 4 ≤ l ∧ l ≤ 1000) (h : P (some (vi (I (t + 1) (r * 4 + c)))) (I, H)) :
    Call d 58 [vr (some t) 4, vi r, vi c] (I, H) P X := by
  obtain ⟨d, rfl⟩ : ∃ e, d = e + 1 := ⟨d - 1, by omega⟩
  show WP (Call d) 58 P X (0, [some (vr (some t) 4), some (vi r), some (vi c), none], [], (I, H), 0, 0)
  refine WP.go 3 (And.intro rfl (?_))
  refine rw_i (Q := fun x9 => WP (Call d) 58 P X (3, [some (vr (some t) 4), some (vi r), some (vi c), none], [vi x9, vi r], (I, H), 0, 0)) h1 ?_
  show WP (Call d) 58 P X (3, [some (vr (some t) 4), some (vi r), some (vi c), none], [vi 4, vi r], (I, H), 0, 0)
  refine WP.go 6 (Exists.intro (r * 4) (And.intro (wrp_a (by omega) (by omega)) (Exists.intro ((r * 4) + c) (And.intro (wrp_a (by omega) (by omega)) (And.intro (fun (b8 : r < 0) => (absurd b8 (by omega))) (fun (b8 : ¬ r < 0) => ?_))))))
  show WP (Call d) 58 P X (9, [some (vr (some t) 4), some (vi r), some (vi c), some (vi ((r * 4) + c))], [], (I, H), 0, 0)
  refine WP.go 4 (And.intro rfl (And.intro (fun (b12 : ¬ r < I t 3) => (absurd b12 (by omega))) (fun (b12 : r < I t 3) => ?_)))
  show WP (Call d) 58 P X (13, [some (vr (some t) 4), some (vi r), some (vi c), some (vi ((r * 4) + c))], [], (I, H), 0, 0)
  refine WP.go 2 (And.intro (fun (b14 : (r * 4) + c < 0) => (absurd b14 (by omega))) (fun (b14 : ¬ (r * 4) + c < 0) => ?_))
  show WP (Call d) 58 P X (15, [some (vr (some t) 4), some (vi r), some (vi c), some (vi ((r * 4) + c))], [], (I, H), 0, 0)
  refine WP.go 5 (And.intro rfl (Exists.intro (t + 1) (And.intro hr (And.intro (Or.inl rfl) (And.intro (fun (b19 : ¬ (r * 4) + c < H.2.1 (t + 1)) => (absurd b19 (by omega))) (fun (b19 : (r * 4) + c < H.2.1 (t + 1)) => ?_))))))
  show WP (Call d) 58 P X (20, [some (vr (some t) 4), some (vi r), some (vi c), some (vi ((r * 4) + c))], [], (I, H), 0, 0)
  refine WP.go 6 (And.intro rfl (Exists.intro (t + 1) (And.intro hr (And.intro (And.intro rfl (And.intro (show 0 ≤ (r * 4) + c from by omega) (show (r * 4) + c < H.2.1 (t + 1) from by omega))) (And.intro (And.intro (Nat.le_of_ble_eq_true rfl) (Nat.le_of_ble_eq_true rfl)) (And.intro trivial (?_)))))))
  show P (some (vi (I (t + 1) ((r * 4) + c)))) (I, H)
  exact fin_i (by first | rfl | omega | exact zero_bz (by omega) | exact one_bz (by omega)) h

theorem s_5_set_w4 {d : Nat} {P : Option qV → qH → Prop} {X : Nat → qH → Prop} {I : qI} {H : qS} (hd : 1 ≤ d) {t : Nat} {n l r c v : Int} (hr : H.1 t 2 = some (t + 1)) (h1 : I t 1 = 4) (h3 : I t 3 = n) (hl : H.2.1 (t + 1) = l) (hrow : 0 ≤ r ∧ r < n) (hc : 0 ≤ c ∧ c < 4) (hb : n * 4 ≤ l ∧ l ≤ 1000) (h : ∀ J : qI, J (t + 1) = (fun j => if j = r * 4 + c then v else I (t + 1) j) → (∀ a, a ≠ t + 1 → J a = I a) → P none (J, H)) :
    Call d 59 [vr (some t) 4, vi r, vi c, vi v] (I, H) P X := by
  obtain ⟨d, rfl⟩ : ∃ e, d = e + 1 := ⟨d - 1, by omega⟩
  show WP (Call d) 59 P X (0, [some (vr (some t) 4), some (vi r), some (vi c), some (vi v), none], [], (I, H), 0, 0)
  refine WP.go 3 (And.intro rfl (?_))
  refine rw_i (Q := fun x9 => WP (Call d) 59 P X (3, [some (vr (some t) 4), some (vi r), some (vi c), some (vi v), none], [vi x9, vi r], (I, H), 0, 0)) h1 ?_
  show WP (Call d) 59 P X (3, [some (vr (some t) 4), some (vi r), some (vi c), some (vi v), none], [vi 4, vi r], (I, H), 0, 0)
  refine WP.go 6 (Exists.intro (r * 4) (And.intro (wrp_a (by omega) (by omega)) (Exists.intro ((r * 4) + c) (And.intro (wrp_a (by omega) (by omega)) (And.intro (fun (b8 : r < 0) => (absurd b8 (by omega))) (fun (b8 : ¬ r < 0) => ?_))))))
  show WP (Call d) 59 P X (9, [some (vr (some t) 4), some (vi r), some (vi c), some (vi v), some (vi ((r * 4) + c))], [], (I, H), 0, 0)
  refine WP.go 4 (And.intro rfl (And.intro (fun (b12 : ¬ r < I t 3) => (absurd b12 (by omega))) (fun (b12 : r < I t 3) => ?_)))
  show WP (Call d) 59 P X (13, [some (vr (some t) 4), some (vi r), some (vi c), some (vi v), some (vi ((r * 4) + c))], [], (I, H), 0, 0)
  refine WP.go 3 (And.intro rfl (?_))
  refine rw_i (Q := fun x9 => WP (Call d) 59 P X (16, [some (vr (some t) 4), some (vi r), some (vi c), some (vi v), some (vi ((r * 4) + c))], [vi x9, vi c], (I, H), 0, 0)) h1 ?_
  show WP (Call d) 59 P X (16, [some (vr (some t) 4), some (vi r), some (vi c), some (vi v), some (vi ((r * 4) + c))], [vi 4, vi c], (I, H), 0, 0)
  refine WP.go 1 (And.intro (fun (b16 : ¬ c < 4) => (absurd b16 (by omega))) (fun (b16 : c < 4) => ?_))
  show WP (Call d) 59 P X (17, [some (vr (some t) 4), some (vi r), some (vi c), some (vi v), some (vi ((r * 4) + c))], [], (I, H), 0, 0)
  refine WP.go 2 (And.intro (fun (b18 : (r * 4) + c < 0) => (absurd b18 (by omega))) (fun (b18 : ¬ (r * 4) + c < 0) => ?_))
  show WP (Call d) 59 P X (19, [some (vr (some t) 4), some (vi r), some (vi c), some (vi v), some (vi ((r * 4) + c))], [], (I, H), 0, 0)
  refine WP.go 5 (And.intro rfl (Exists.intro (t + 1) (And.intro hr (And.intro (Or.inl rfl) (And.intro (fun (b23 : ¬ (r * 4) + c < H.2.1 (t + 1)) => (absurd b23 (by omega))) (fun (b23 : (r * 4) + c < H.2.1 (t + 1)) => ?_))))))
  show WP (Call d) 59 P X (24, [some (vr (some t) 4), some (vi r), some (vi c), some (vi v), some (vi ((r * 4) + c))], [], (I, H), 0, 0)
  refine WP.go 6 (And.intro rfl (Exists.intro (t + 1) (And.intro hr (And.intro (And.intro rfl (And.intro (show 0 ≤ (r * 4) + c from by omega) (show (r * 4) + c < H.2.1 (t + 1) from by omega))) (And.intro (And.intro (Nat.le_of_ble_eq_true rfl) (Nat.le_of_ble_eq_true rfl)) (?_))))))
  show P none ((upI I (t + 1) ((r * 4) + c) v), H)
  exact h _ (upI_self _ _ _ _) (fun a q => upI_cell q)

