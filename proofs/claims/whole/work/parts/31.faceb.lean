/-- houses, as bits, of a year -/
def HSP (μ A T : Int → Int) (y wh i : Int) : Prop := (wh = 0 → LGH μ A T i y = 0) ∧ (wh = 1 → WDYp μ A T i y) ∧ (wh = 2 → NOONp μ A T i y)
theorem HSP_congr {μ A A' T T' : Int → Int} {y wh i : Int} (a : A y = A' y) (e : ∀ c, 0 ≤ c → c < 81 → T c = T' c) : HSP μ A T y wh i ↔ HSP μ A' T' y wh i := by
  unfold HSP
  rw [LGH_congr a e, propext (WDYp_congr (h := i) a e), propext (NOONp_congr (h := i) a e)]
/-- pairs of promises -/
def TWp (μ : Int → Int) (i k : Int) : Prop := μ (140 + 3 * μ (394 + 3 * i)) = μ (140 + 3 * μ (394 + 3 * k)) ∧ μ (395 + 3 * i) ≤ μ (396 + 3 * k) ∧ μ (395 + 3 * k) ≤ μ (396 + 3 * i)
noncomputable def TWI (μ : Int → Int) : Int := sI (fun k => sI (fun i => bz (TWp μ i k)) 0 k) 0 (μ 5)
/-- uphill: the longest row so far, its begin -/
noncomputable def upF (p : Int → Prop) : Nat → Int → Int → Int → Int → Int × Int
  | 0, _, _, lo, be => (lo, be)
  | n + 1, y, row, lo, be => @ite _ (p y) (Classical.propDecidable _) (upF p n (y + 1) 0 lo be) (if lo < row + 1 then upF p n (y + 1) (row + 1) (row + 1) (y - (row + 1) + 1) else upF p n (y + 1) (row + 1) lo be)
theorem upF_y {p : Int → Prop} {y row lo be : Int} (h : y < 100) (q : p y) : upF p (100 - y).toNat y row lo be = upF p (100 - (y + 1)).toNat (y + 1) 0 lo be := by
  rw [show (100 - y).toNat = (100 - (y + 1)).toNat + 1 by omega]
  exact if_pos q
theorem upF_g {p : Int → Prop} {y row lo be : Int} (h : y < 100) (q : ¬ p y) (g : lo < row + 1) : upF p (100 - y).toNat y row lo be = upF p (100 - (y + 1)).toNat (y + 1) (row + 1) (row + 1) (y - (row + 1) + 1) := by
  rw [show (100 - y).toNat = (100 - (y + 1)).toNat + 1 by omega]
  exact (if_neg q).trans (if_pos g)
theorem upF_l {p : Int → Prop} {y row lo be : Int} (h : y < 100) (q : ¬ p y) (g : ¬ lo < row + 1) : upF p (100 - y).toNat y row lo be = upF p (100 - (y + 1)).toNat (y + 1) (row + 1) lo be := by
  rw [show (100 - y).toNat = (100 - (y + 1)).toNat + 1 by omega]
  exact (if_neg q).trans (if_neg g)
theorem upF_congr {p q : Int → Prop} : ∀ (n : Nat) (y row lo be : Int), (∀ i, y ≤ i → i < y + n → (p i ↔ q i)) → upF p n y row lo be = upF q n y row lo be
  | 0, _, _, _, _, _ => rfl
  | n + 1, y, row, lo, be, h => by
    have h1 := h y (by omega) (by omega)
    have h2 : ∀ row lo be, upF p n (y + 1) row lo be = upF q n (y + 1) row lo be := fun row lo be => upF_congr n (y + 1) row lo be (fun i a b => h i (by omega) (by omega))
    show @ite _ (p y) (Classical.propDecidable _) _ _ = @ite _ (q y) (Classical.propDecidable _) _ _
    rw [h2, h2, h2]
    rcases Classical.em (p y) with w | w
    · rw [if_pos w, if_pos (h1.mp w)]
    · rw [if_neg w, if_neg (fun z => w (h1.mpr z))]
noncomputable def UPH (μ A : Int → Int) (k first : Int) : Int := if first = 0 then (upF (RUNp μ A k) 100 0 0 0 (-1)).1 else (upF (RUNp μ A k) 100 0 0 0 (-1)).2
/-- the last one in a row with p behind y -/
noncomputable def laN (p : Int → Prop) : Nat → Int → Int
  | 0, y => y
  | n + 1, y => @ite _ (p (y + 1)) (Classical.propDecidable _) (laN p n (y + 1)) y
theorem laN_y {p : Int → Prop} {m y : Int} (h : y < m) (q : p (y + 1)) : laN p (m - y).toNat y = laN p (m - (y + 1)).toNat (y + 1) := by
  rw [show (m - y).toNat = (m - (y + 1)).toNat + 1 by omega]
  exact if_pos q
theorem laN_n {p : Int → Prop} {m y : Int} (q : ¬ p (y + 1)) : laN p (m - y).toNat y = y := by
  cases (m - y).toNat with
  | zero => rfl
  | succ n => exact if_neg q
theorem laN_e {p : Int → Prop} {m y : Int} (h : m ≤ y) : laN p (m - y).toNat y = y := by rw [show (m - y).toNat = 0 by omega]; rfl
theorem laN_congr {p q : Int → Prop} : ∀ (n : Nat) (y : Int), (∀ i, y < i → i ≤ y + n → (p i ↔ q i)) → laN p n y = laN q n y
  | 0, _, _ => rfl
  | n + 1, y, h => by
    have h1 := h (y + 1) (by omega) (by omega)
    show @ite _ (p (y + 1)) (Classical.propDecidable _) _ _ = @ite _ (q (y + 1)) (Classical.propDecidable _) _ _
    rw [laN_congr n (y + 1) (fun i a b => h i (by omega) (by omega))]
    rcases Classical.em (p (y + 1)) with w | w
    · rw [if_pos w, if_pos (h1.mp w)]
    · rw [if_neg w, if_neg (fun z => w (h1.mpr z))]
theorem laN_r {p : Int → Prop} : ∀ (n : Nat) (y : Int), y ≤ laN p n y ∧ laN p n y ≤ y + n ∧ (∀ i, y < i → i ≤ laN p n y → p i) ∧ (laN p n y < y + n → ¬ p (laN p n y + 1))
  | 0, y => ⟨Int.le_refl _, by show y ≤ y + 0; omega, fun i a b => by have b : i ≤ y := b; omega, fun q => by have q : y < y + 0 := q; omega⟩
  | n + 1, y => by
    rcases Classical.em (p (y + 1)) with w | w
    · have e : laN p (n + 1) y = laN p n (y + 1) := if_pos w
      obtain ⟨r1, r2, r3, r4⟩ := laN_r (p := p) n (y + 1)
      rw [e]
      refine ⟨by omega, by omega, fun i a b => ?_, fun q => r4 (by omega)⟩
      rcases Int.lt_or_eq_of_le (show y + 1 ≤ i by omega) with z | z
      · exact r3 i z b
      · exact z ▸ w
    · have e : laN p (n + 1) y = y := if_neg w
      rw [e]
      exact ⟨Int.le_refl _, by omega, fun i a b => by omega, fun _ => w⟩
noncomputable def NAM (μ A : Int → Int) (d y un : Int) : Int := if un = 0 then namOf d (A y) else laN (fun i => namOf d (A i) = namOf d (A y)) (99 - y).toNat y
/-- the k-th that fits -/
noncomputable def yeN (p : Int → Prop) (k : Int) : Nat → Int → Int → Int
  | 0, _, fit => if k = -1 then fit else -1
  | n + 1, y, fit => @ite _ (p y) (Classical.propDecidable _) (if fit = k then y else yeN p k n (y + 1) (fit + 1)) (yeN p k n (y + 1) fit)
theorem yeN_n {p : Int → Prop} {k y fit : Int} (h : y < 100) (q : ¬ p y) : yeN p k (100 - y).toNat y fit = yeN p k (100 - (y + 1)).toNat (y + 1) fit := by
  rw [show (100 - y).toNat = (100 - (y + 1)).toNat + 1 by omega]
  exact if_neg q
theorem yeN_y {p : Int → Prop} {k y fit : Int} (h : y < 100) (q : p y) (g : ¬ fit = k) : yeN p k (100 - y).toNat y fit = yeN p k (100 - (y + 1)).toNat (y + 1) (fit + 1) := by
  rw [show (100 - y).toNat = (100 - (y + 1)).toNat + 1 by omega]
  exact (if_pos q).trans (if_neg g)
theorem yeN_f {p : Int → Prop} {k y fit : Int} (h : y < 100) (q : p y) (g : fit = k) : yeN p k (100 - y).toNat y fit = y := by
  rw [show (100 - y).toNat = (100 - (y + 1)).toNat + 1 by omega]
  exact (if_pos q).trans (if_pos g)
theorem yeN_congr {p q : Int → Prop} {k : Int} : ∀ (n : Nat) (y fit : Int), (∀ i, y ≤ i → i < y + n → (p i ↔ q i)) → yeN p k n y fit = yeN q k n y fit
  | 0, _, _, _ => rfl
  | n + 1, y, fit, h => by
    have h1 := h y (by omega) (by omega)
    have h2 : ∀ fit, yeN p k n (y + 1) fit = yeN q k n (y + 1) fit := fun fit => yeN_congr n (y + 1) fit (fun i a b => h i (by omega) (by omega))
    show @ite _ (p y) (Classical.propDecidable _) _ _ = @ite _ (q y) (Classical.propDecidable _) _ _
    rw [h2, h2]
    rcases Classical.em (p y) with w | w
    · rw [if_pos w, if_pos (h1.mp w)]
    · rw [if_neg w, if_neg (fun z => w (h1.mpr z))]
theorem sm_add {f g : Int → Int} {a : Int} : ∀ n : Nat, sm (fun i => f i + g i) a n = sm f a n + sm g a n
  | 0 => rfl
  | n + 1 => by
    show sm (fun i => f i + g i) a n + (f (a + n) + g (a + n)) = (sm f a n + f (a + n)) + (sm g a n + g (a + n))
    rw [sm_add n]
    omega
theorem sI_add {f g : Int → Int} {a b : Int} : sI (fun i => f i + g i) a b = sI f a b + sI g a b := sm_add _
/-- year by year as window by window -/
theorem BRT_y (μ A T : Int → Int) (h a : Int) : ∀ n : Nat, sI (fun y => LGH μ A T h y) a (a + n) = BRT μ A T h a (a + n - 1)
  | 0 => by
    rw [sI_nil (by omega)]
    refine (sI_0 (fun i _ _ => ?_)).symm
    show (if _ then LGW μ A T i a (a + ((0 : Nat) : Int) - 1) else 0) = 0
    split
    · exact sI_nil (by omega)
    · rfl
  | n + 1 => by
    rw [show a + ((n + 1 : Nat) : Int) = (a + n) + 1 by omega, sI_succ (by omega), BRT_y μ A T h a n, show a + (n : Int) + 1 - 1 = a + n by omega]
    unfold BRT LGH
    rw [← sI_add]
    refine sI_congr (fun i _ _ => ?_)
    show (if _ then _ else _) + (if _ then _ else _) = (if _ then LGW μ A T i a (a + n) else 0)
    split
    · unfold LGW
      rw [show a + (n : Int) - 1 + 1 = a + n by omega, sI_succ (by omega)]
    · rfl
theorem BRT_e {a b : Int} (hab : a ≤ b + 1) (μ A T : Int → Int) (h : Int) : sI (fun y => LGH μ A T h y) a (b + 1) = BRT μ A T h a b := by
  have := BRT_y μ A T h a (b + 1 - a).toNat
  rw [show a + (((b + 1 - a).toNat : Nat) : Int) = b + 1 by omega, show b + 1 - 1 = b by omega] at this
  exact this
theorem BRT_congr {μ A A' T T' : Int → Int} {h a b : Int} (h0 : 0 ≤ a) (h1 : b < 100) (hA : ∀ y, 0 ≤ y → y < 100 → A y = A' y) (e : ∀ c, 0 ≤ c → c < 81 → T c = T' c) : BRT μ A T h a b = BRT μ A' T' h a b := sI_congr (fun i _ _ => by show (if _ then _ else _) = (if _ then _ else _); rw [LGW_congr h0 h1 hA e])
def LOOK (μ : Int → Int) (h9 wh : Int) : Int := if wh = 0 then μ (120 + 2 * h9) else if wh = 1 then μ (121 + 2 * h9) else sI (fun i => if μ (140 + 3 * i) = h9 then 1 else 0) 0 (μ 2)
noncomputable def LOOK4 (μ : Int → Int) (h9 wh : Int) : Int := if wh = 3 then fI (fun i => μ (200 + i) = h9) 0 (μ 1) else LOOK μ h9 wh
def CNT (μ : Int → Int) (wh : Int) : Int := if wh = 0 then μ 1 else if wh = 1 then μ 2 else if wh = 2 then μ 3 else if wh = 3 then μ 0 else if wh = 4 then μ 4 else if wh = 5 then μ 5 else if wh = 6 then μ 6 else if wh = 7 then μ 7 else if wh = 8 then μ 8 else if wh = 9 then LOAD μ else -1
/-- light lost -/
noncomputable def LST (μ : Int → Int) (h9 b w x y : Int) : Int := LGW μ (AN μ) (HT μ) w x y - LGW μ (AN μ) (HTC μ h9 b) w x y
theorem s_11_look {d : Nat} {P : Option qV → qH → Prop} {X : Nat → qH → Prop} {I : qI} {H : qS} {μ : Int → Int} (hd : 4 ≤ d) {h9 wh : Int} (hS : Shp H) (hT : TR 6 I μ) (hV : IM μ) (h : ((0 ≤ h9 ∧ h9 < μ 1) ∧ 0 ≤ wh ∧ wh < 4) → P (some (vi (LOOK4 μ h9 wh))) (I, H)) (hx1 : ¬ (0 ≤ h9 ∧ h9 < μ 1) → X 1 (I, H)) (hx3 : (0 ≤ h9 ∧ h9 < μ 1) ∧ ¬ (0 ≤ wh ∧ wh < 4) → X 3 (I, H)) :
    Call d 121 [vr (some 3) 9, vi h9, vi wh] (I, H) P X := by
  obtain ⟨d, rfl⟩ : ∃ e, d = e + 1 := ⟨d - 1, by omega⟩
  show WP (Call d) 121 P X (0, [some (vr (some 3) 9), some (vi h9), some (vi wh)], [], (I, H), 0, 0)
  refine WP.go 3 (And.intro (And.intro (Nat.le_of_ble_eq_true rfl) (Nat.le_of_ble_eq_true rfl)) (And.intro rfl (?_)))
  show Call d 167 [vr (some 3) 9, vi h9] (I, H) _ _
  refine s_11_needHouse (by omega) hS hT (fun q2 => ?_) (fun q9 => hx1 (by omega))
  show WP (Call d) 121 P X (3, [some (vr (some 3) 9), some (vi h9), some (vi wh)], [], (I, H), 1, 6)
  refine WP.go 2 (And.intro (fun (b4 : wh < 0 ∨ 4 ≤ wh) => ?_) (And.intro (fun (b4 : wh = 0) => ?_) (And.intro (fun (b4 : wh = 1) => ?_) (And.intro (fun (b4 : wh = 2) => ?_) (And.intro (fun (b4 : wh = 3) => ?_) (trivial))))))
  ·
    show WP (Call d) 121 P X (25, [some (vr (some 3) 9), some (vi h9), some (vi wh)], [], (I, H), 1, 6)
    refine WP.go 1 (And.intro (And.intro (Nat.le_of_ble_eq_true rfl) (Nat.le_of_ble_eq_true rfl)) (?_))
    show X 3 (I, H)
    exact hx3 (by omega)
  ·
    show WP (Call d) 121 P X (5, [some (vr (some 3) 9), some (vi h9), some (vi wh)], [], (I, H), 1, 6)
    refine WP.go 4 (And.intro rfl (Exists.intro 6 (And.intro hS.r3_4 (And.intro (And.intro (Nat.le_of_ble_eq_true rfl) (Nat.le_of_ble_eq_true rfl)) (And.intro rfl (?_))))))
    show Call d 93 [vr (some 6) 6, vi h9] (I, H) _ _
    refine s_8_cellOf (by omega) hS (.inl rfl) hT hV (by omega) ?_
    show WP (Call d) 121 P X (9, [some (vr (some 3) 9), some (vi h9), some (vi wh)], [vi (μ (120 + 2 * h9))], (I, H), 1, 6)
    refine WP.go 1 (And.intro (And.intro (Nat.le_of_ble_eq_true rfl) (Nat.le_of_ble_eq_true rfl)) (And.intro trivial (?_)))
    show P (some (vi (μ (120 + 2 * h9)))) (I, H)
    exact fin_i (by rw [b4]; rfl) (h (by omega))
  ·
    show WP (Call d) 121 P X (10, [some (vr (some 3) 9), some (vi h9), some (vi wh)], [], (I, H), 1, 6)
    refine WP.go 4 (And.intro rfl (Exists.intro 6 (And.intro hS.r3_4 (And.intro (And.intro (Nat.le_of_ble_eq_true rfl) (Nat.le_of_ble_eq_true rfl)) (And.intro rfl (?_))))))
    show Call d 94 [vr (some 6) 6, vi h9] (I, H) _ _
    refine s_8_heightOf (by omega) hS (.inl rfl) hT hV (by omega) ?_
    show WP (Call d) 121 P X (14, [some (vr (some 3) 9), some (vi h9), some (vi wh)], [vi (μ (121 + 2 * h9))], (I, H), 1, 6)
    refine WP.go 1 (And.intro (And.intro (Nat.le_of_ble_eq_true rfl) (Nat.le_of_ble_eq_true rfl)) (And.intro trivial (?_)))
    show P (some (vi (μ (121 + 2 * h9)))) (I, H)
    exact fin_i (by rw [b4]; rfl) (h (by omega))
  ·
    show WP (Call d) 121 P X (15, [some (vr (some 3) 9), some (vi h9), some (vi wh)], [], (I, H), 1, 6)
    refine WP.go 4 (And.intro rfl (Exists.intro 6 (And.intro hS.r3_4 (And.intro (And.intro (Nat.le_of_ble_eq_true rfl) (Nat.le_of_ble_eq_true rfl)) (And.intro rfl (?_))))))
    show Call d 98 [vr (some 6) 6, vi h9] (I, H) _ _
    refine s_8_windowsOf (by omega) hS (.inl rfl) hT hV ?_
    show WP (Call d) 121 P X (19, [some (vr (some 3) 9), some (vi h9), some (vi wh)], [vi (sI (fun i => if μ (140 + 3 * i) = h9 then 1 else 0) 0 (μ 2))], (I, H), 1, 6)
    refine WP.go 1 (And.intro (And.intro (Nat.le_of_ble_eq_true rfl) (Nat.le_of_ble_eq_true rfl)) (And.intro trivial (?_)))
    show P (some (vi (sI (fun i => if μ (140 + 3 * i) = h9 then 1 else 0) 0 (μ 2)))) (I, H)
    exact fin_i (by rw [b4]; rfl) (h (by omega))
  ·
    show WP (Call d) 121 P X (20, [some (vr (some 3) 9), some (vi h9), some (vi wh)], [], (I, H), 1, 6)
    refine WP.go 4 (And.intro rfl (Exists.intro 6 (And.intro hS.r3_4 (And.intro (And.intro (Nat.le_of_ble_eq_true rfl) (Nat.le_of_ble_eq_true rfl)) (And.intro rfl (?_))))))
    show Call d 99 [vr (some 6) 6, vi h9] (I, H) _ _
    refine s_8_familyIn (by omega) hS (.inl rfl) hT hV ?_
    show WP (Call d) 121 P X (24, [some (vr (some 3) 9), some (vi h9), some (vi wh)], [vi (fI (fun i => μ (200 + i) = h9) 0 (μ 1))], (I, H), 1, 6)
    refine WP.go 1 (And.intro (And.intro (Nat.le_of_ble_eq_true rfl) (Nat.le_of_ble_eq_true rfl)) (And.intro trivial (?_)))
    show P (some (vi (fI (fun i => μ (200 + i) = h9) 0 (μ 1)))) (I, H)
    exact fin_i (by rw [b4]; rfl) (h (by omega))

theorem s_11_count {d : Nat} {P : Option qV → qH → Prop} {X : Nat → qH → Prop} {I : qI} {H : qS} {μ : Int → Int} (hd : 4 ≤ d) {wh : Int} (hS : Shp H) (hT : TR 6 I μ) (hV : IM μ) (h : P (some (vi (CNT μ wh))) (I, H)) :
    Call d 158 [vr (some 3) 9, vi wh] (I, H) P X := by
  obtain ⟨d, rfl⟩ : ∃ e, d = e + 1 := ⟨d - 1, by omega⟩
  show WP (Call d) 158 P X (0, [some (vr (some 3) 9), some (vi wh)], [], (I, H), 0, 0)
  refine WP.go 2 (And.intro (fun (b1 : wh < 0 ∨ 10 ≤ wh) => ?_) (And.intro (fun (b1 : wh = 0) => ?_) (And.intro (fun (b1 : wh = 1) => ?_) (And.intro (fun (b1 : wh = 2) => ?_) (And.intro (fun (b1 : wh = 3) => ?_) (And.intro (fun (b1 : wh = 4) => ?_) (And.intro (fun (b1 : wh = 5) => ?_) (And.intro (fun (b1 : wh = 6) => ?_) (And.intro (fun (b1 : wh = 7) => ?_) (And.intro (fun (b1 : wh = 8) => ?_) (And.intro (fun (b1 : wh = 9) => ?_) (trivial))))))))))))
  ·
    show WP (Call d) 158 P X (49, [some (vr (some 3) 9), some (vi wh)], [], (I, H), 0, 0)
    refine WP.go 2 (And.intro (And.intro (Nat.le_of_ble_eq_true rfl) (Nat.le_of_ble_eq_true rfl)) (And.intro trivial (?_)))
    show P (some (vi (-1))) (I, H)
    exact fin_i (by unfold CNT; repeat (rw [if_neg (by omega)])) h
  ·
    show WP (Call d) 158 P X (2, [some (vr (some 3) 9), some (vi wh)], [], (I, H), 0, 0)
    refine WP.go 4 (And.intro rfl (Exists.intro 6 (And.intro hS.r3_4 (And.intro rfl (Exists.intro 7 (And.intro hS.r6_0 (And.intro (And.intro (Nat.le_of_ble_eq_true rfl) (Nat.le_of_ble_eq_true rfl)) (And.intro rfl (?_)))))))))
    show Call d 55 [vr (some 7) 4] (I, H) _ _
    refine s_size_houses (by omega) hT ?_
    show WP (Call d) 158 P X (6, [some (vr (some 3) 9), some (vi wh)], [vi (μ 1)], (I, H), 0, 0)
    refine WP.go 1 (And.intro (And.intro (Nat.le_of_ble_eq_true rfl) (Nat.le_of_ble_eq_true rfl)) (And.intro trivial (?_)))
    show P (some (vi (μ 1))) (I, H)
    exact fin_i (by rw [b1]; rfl) h
  ·
    show WP (Call d) 158 P X (7, [some (vr (some 3) 9), some (vi wh)], [], (I, H), 0, 0)
    refine WP.go 4 (And.intro rfl (Exists.intro 6 (And.intro hS.r3_4 (And.intro rfl (Exists.intro 9 (And.intro hS.r6_1 (And.intro (And.intro (Nat.le_of_ble_eq_true rfl) (Nat.le_of_ble_eq_true rfl)) (And.intro rfl (?_)))))))))
    show Call d 55 [vr (some 9) 4] (I, H) _ _
    refine s_size_windows (by omega) hT ?_
    show WP (Call d) 158 P X (11, [some (vr (some 3) 9), some (vi wh)], [vi (μ 2)], (I, H), 0, 0)
    refine WP.go 1 (And.intro (And.intro (Nat.le_of_ble_eq_true rfl) (Nat.le_of_ble_eq_true rfl)) (And.intro trivial (?_)))
    show P (some (vi (μ 2))) (I, H)
    exact fin_i (by rw [b1]; rfl) h
  ·
    show WP (Call d) 158 P X (12, [some (vr (some 3) 9), some (vi wh)], [], (I, H), 0, 0)
    refine WP.go 3 (And.intro rfl (Exists.intro 6 (And.intro hS.r3_4 (And.intro rfl (?_)))))
    refine rw_i (Q := fun x9 => WP (Call d) 158 P X (15, [some (vr (some 3) 9), some (vi wh)], [vi x9], (I, H), 0, 0)) hT.lc ?_
    show WP (Call d) 158 P X (15, [some (vr (some 3) 9), some (vi wh)], [vi (μ 3)], (I, H), 0, 0)
    refine WP.go 1 (And.intro (And.intro (Nat.le_of_ble_eq_true rfl) (Nat.le_of_ble_eq_true rfl)) (And.intro trivial (?_)))
    show P (some (vi (μ 3))) (I, H)
    exact fin_i (by rw [b1]; rfl) h
  ·
    show WP (Call d) 158 P X (16, [some (vr (some 3) 9), some (vi wh)], [], (I, H), 0, 0)
    refine WP.go 3 (And.intro rfl (Exists.intro 6 (And.intro hS.r3_4 (And.intro rfl (?_)))))
    refine rw_i (Q := fun x9 => WP (Call d) 158 P X (19, [some (vr (some 3) 9), some (vi wh)], [vi x9], (I, H), 0, 0)) hT.tx ?_
    show WP (Call d) 158 P X (19, [some (vr (some 3) 9), some (vi wh)], [vi (μ 0)], (I, H), 0, 0)
    refine WP.go 1 (And.intro (And.intro (Nat.le_of_ble_eq_true rfl) (Nat.le_of_ble_eq_true rfl)) (And.intro trivial (?_)))
    show P (some (vi (μ 0))) (I, H)
    exact fin_i (by rw [b1]; rfl) h
  ·
    show WP (Call d) 158 P X (20, [some (vr (some 3) 9), some (vi wh)], [], (I, H), 0, 0)
    refine WP.go 4 (And.intro rfl (Exists.intro 6 (And.intro hS.r3_4 (And.intro rfl (Exists.intro 13 (And.intro hS.r6_3 (And.intro (And.intro (Nat.le_of_ble_eq_true rfl) (Nat.le_of_ble_eq_true rfl)) (And.intro rfl (?_)))))))))
    show Call d 55 [vr (some 13) 4] (I, H) _ _
    refine s_size_lets (by omega) hT ?_
    show WP (Call d) 158 P X (24, [some (vr (some 3) 9), some (vi wh)], [vi (μ 4)], (I, H), 0, 0)
    refine WP.go 1 (And.intro (And.intro (Nat.le_of_ble_eq_true rfl) (Nat.le_of_ble_eq_true rfl)) (And.intro trivial (?_)))
    show P (some (vi (μ 4))) (I, H)
    exact fin_i (by rw [b1]; rfl) h
  ·
    show WP (Call d) 158 P X (25, [some (vr (some 3) 9), some (vi wh)], [], (I, H), 0, 0)
    refine WP.go 4 (And.intro rfl (Exists.intro 6 (And.intro hS.r3_4 (And.intro rfl (Exists.intro 15 (And.intro hS.r6_4 (And.intro (And.intro (Nat.le_of_ble_eq_true rfl) (Nat.le_of_ble_eq_true rfl)) (And.intro rfl (?_)))))))))
    show Call d 55 [vr (some 15) 4] (I, H) _ _
    refine s_size_promises (by omega) hT ?_
    show WP (Call d) 158 P X (29, [some (vr (some 3) 9), some (vi wh)], [vi (μ 5)], (I, H), 0, 0)
    refine WP.go 1 (And.intro (And.intro (Nat.le_of_ble_eq_true rfl) (Nat.le_of_ble_eq_true rfl)) (And.intro trivial (?_)))
    show P (some (vi (μ 5))) (I, H)
    exact fin_i (by rw [b1]; rfl) h
  ·
    show WP (Call d) 158 P X (30, [some (vr (some 3) 9), some (vi wh)], [], (I, H), 0, 0)
    refine WP.go 4 (And.intro rfl (Exists.intro 6 (And.intro hS.r3_4 (And.intro rfl (Exists.intro 17 (And.intro hS.r6_5 (And.intro (And.intro (Nat.le_of_ble_eq_true rfl) (Nat.le_of_ble_eq_true rfl)) (And.intro rfl (?_)))))))))
    show Call d 55 [vr (some 17) 4] (I, H) _ _
    refine s_size_drains (by omega) hT ?_
    show WP (Call d) 158 P X (34, [some (vr (some 3) 9), some (vi wh)], [vi (μ 6)], (I, H), 0, 0)
    refine WP.go 1 (And.intro (And.intro (Nat.le_of_ble_eq_true rfl) (Nat.le_of_ble_eq_true rfl)) (And.intro trivial (?_)))
    show P (some (vi (μ 6))) (I, H)
    exact fin_i (by rw [b1]; rfl) h
  ·
    show WP (Call d) 158 P X (35, [some (vr (some 3) 9), some (vi wh)], [], (I, H), 0, 0)
    refine WP.go 4 (And.intro rfl (Exists.intro 6 (And.intro hS.r3_4 (And.intro rfl (Exists.intro 19 (And.intro hS.r6_6 (And.intro (And.intro (Nat.le_of_ble_eq_true rfl) (Nat.le_of_ble_eq_true rfl)) (And.intro rfl (?_)))))))))
    show Call d 55 [vr (some 19) 4] (I, H) _ _
    refine s_size_papers (by omega) hT ?_
    show WP (Call d) 158 P X (39, [some (vr (some 3) 9), some (vi wh)], [vi (μ 7)], (I, H), 0, 0)
    refine WP.go 1 (And.intro (And.intro (Nat.le_of_ble_eq_true rfl) (Nat.le_of_ble_eq_true rfl)) (And.intro trivial (?_)))
    show P (some (vi (μ 7))) (I, H)
    exact fin_i (by rw [b1]; rfl) h
  ·
    show WP (Call d) 158 P X (40, [some (vr (some 3) 9), some (vi wh)], [], (I, H), 0, 0)
    refine WP.go 4 (And.intro rfl (Exists.intro 6 (And.intro hS.r3_4 (And.intro rfl (Exists.intro 21 (And.intro hS.r6_7 (And.intro (And.intro (Nat.le_of_ble_eq_true rfl) (Nat.le_of_ble_eq_true rfl)) (And.intro rfl (?_)))))))))
    show Call d 55 [vr (some 21) 4] (I, H) _ _
    refine s_size_buildings (by omega) hT ?_
    show WP (Call d) 158 P X (44, [some (vr (some 3) 9), some (vi wh)], [vi (μ 8)], (I, H), 0, 0)
    refine WP.go 1 (And.intro (And.intro (Nat.le_of_ble_eq_true rfl) (Nat.le_of_ble_eq_true rfl)) (And.intro trivial (?_)))
    show P (some (vi (μ 8))) (I, H)
    exact fin_i (by rw [b1]; rfl) h
  ·
    show WP (Call d) 158 P X (45, [some (vr (some 3) 9), some (vi wh)], [], (I, H), 0, 0)
    refine WP.go 3 (And.intro rfl (Exists.intro 6 (And.intro hS.r3_4 (And.intro (And.intro (Nat.le_of_ble_eq_true rfl) (Nat.le_of_ble_eq_true rfl)) (And.intro rfl (?_))))))
    show Call d 100 [vr (some 6) 6] (I, H) _ _
    refine s_8_load (by omega) hS (.inl rfl) hT hV ?_
    show WP (Call d) 158 P X (48, [some (vr (some 3) 9), some (vi wh)], [vi (LOAD μ)], (I, H), 0, 0)
    refine WP.go 1 (And.intro (And.intro (Nat.le_of_ble_eq_true rfl) (Nat.le_of_ble_eq_true rfl)) (And.intro trivial (?_)))
    show P (some (vi (LOAD μ))) (I, H)
    exact fin_i (by rw [b1]; rfl) h

theorem s_11_houses {d : Nat} {P : Option qV → qH → Prop} {X : Nat → qH → Prop} {I : qI} {H : qS} {μ : Int → Int} (hd : 7 ≤ d) {y wh : Int} (hS : Shp H) (hX : SX I) (hT : TR 6 I μ) (hV : IM μ) (h : ((0 ≤ y ∧ y < 100) ∧ 0 ≤ wh ∧ wh < 3) → ∀ J : qI, CF I J → P (some (vi (hB (HSP μ (AN μ) (HT μ) y wh) (μ 1)))) (J, H)) (hx1 : ¬ (0 ≤ y ∧ y < 100) → X 1 (I, H)) (hx3 : (0 ≤ y ∧ y < 100) ∧ ¬ (0 ≤ wh ∧ wh < 3) → X 3 (I, H)) :
    Call d 128 [vr (some 3) 9, vi y, vi wh] (I, H) P X := by
  obtain ⟨d, rfl⟩ : ∃ e, d = e + 1 := ⟨d - 1, by omega⟩
  have v1 := hV.n1
  show WP (Call d) 128 P X (0, [some (vr (some 3) 9), some (vi y), some (vi wh), none, none, none], [], (I, H), 0, 0)
  refine WP.go 2 (And.intro (And.intro (Nat.le_of_ble_eq_true rfl) (Nat.le_of_ble_eq_true rfl)) (And.intro rfl (?_)))
  show Call d 165 [vi y] (I, H) _ _
  refine s_11_needYear (by omega)  (fun q1 => ?_) (fun q9 => hx1 (by omega))
  show WP (Call d) 128 P X (2, [some (vr (some 3) 9), some (vi y), some (vi wh), none, none, none], [], (I, H), 1, 6)
  refine WP.go 2 (And.intro (fun (b3 : wh < 0) => ?_) (fun (b3 : ¬ wh < 0) => ?_))
  ·
    show WP (Call d) 128 P X (7, [some (vr (some 3) 9), some (vi y), some (vi wh), none, none, none], [], (I, H), 1, 6)
    refine WP.go 1 (And.intro (And.intro (Nat.le_of_ble_eq_true rfl) (Nat.le_of_ble_eq_true rfl)) (?_))
    show X 3 (I, H)
    exact hx3 (by omega)
  ·
    show WP (Call d) 128 P X (4, [some (vr (some 3) 9), some (vi y), some (vi wh), none, none, none], [], (I, H), 1, 6)
    refine WP.go 3 (And.intro (fun (b6 : ¬ 2 < wh) => ?_) (fun (b6 : 2 < wh) => ?_))
    ·
      show WP (Call d) 128 P X (11, [some (vr (some 3) 9), some (vi y), some (vi wh), none, none, none], [], (I, H), 1, 6)
      refine WP.go 3 (And.intro rfl (Exists.intro 79 (And.intro hS.r3_7 (And.intro (And.intro (Nat.le_of_ble_eq_true rfl) (Nat.le_of_ble_eq_true rfl)) (And.intro rfl (?_))))))
      show Call d 1 [vr (some 79) 0] (I, H) _ _
      refine s_0_open (by omega) hS hX hT hV (fun J13 e13 f13 => ?_)
      show WP (Call d) 128 P X (14, [some (vr (some 3) 9), some (vi y), some (vi wh), none, none, none], [], (J13, H), 1, 6)
      have hX_1 : SX J13 := SX.fr hX (f13 0 (by omega) (by omega)) (f13 1 (by omega) (by omega))
      have hT_2 : TR 6 J13 μ := hT.fr (fun a q1 q2 => f13 a (by omega) (by omega))
      have hA_3 : AB (J13 80) (J13 81) := e13.ab hV
      refine WP.go 4 ?_
      show WP (Call d) 128 P X (18, [some (vr (some 3) 9), some (vi y), some (vi wh), some (vi 0), some (vi 0), none], [], (J13, H), 1, 6)
      have lp18 : ∀ (n9 : Nat) (s9 : Int) (k : Int) (hm : μ 1 - k < (n9 : Int)) (iv0 : 0 ≤ k ∧ k ≤ μ 1) (iv1 : s9 = hB (HSP μ (J13 80) (J13 81) y wh) k), WP (Call d) 128 P X (18, [some (vr (some 3) 9), some (vi y), some (vi wh), some (vi s9), some (vi k), none], [], (J13, H), 1, 6) := by
        intro n9
        induction n9 with
        | zero => intro s9 k hm iv0 iv1; exact absurd hm (by omega)
        | succ n9 ih18 =>
          intro s9 k hm iv0 iv1
          refine WP.go 5 (And.intro rfl (Exists.intro 6 (And.intro hS.r3_4 (And.intro rfl (Exists.intro 7 (And.intro hS.r6_0 (And.intro (And.intro (Nat.le_of_ble_eq_true rfl) (Nat.le_of_ble_eq_true rfl)) (And.intro rfl (?_)))))))))
          show Call d 55 [vr (some 7) 4] (J13, H) _ _
          refine s_size_houses (by omega) hT_2 ?_
          show WP (Call d) 128 P X (23, [some (vr (some 3) 9), some (vi y), some (vi wh), some (vi s9), some (vi k), none], [vi (μ 1), vi k], (J13, H), 1, 6)
          refine WP.go 1 (And.intro (fun (b23 : ¬ k < μ 1) => ?_) (fun (b23 : k < μ 1) => ?_))
          ·
            show WP (Call d) 128 P X (59, [some (vr (some 3) 9), some (vi y), some (vi wh), some (vi s9), some (vi k), none], [], (J13, H), 1, 6)
            refine WP.go 2 (And.intro (And.intro (Nat.le_of_ble_eq_true rfl) (Nat.le_of_ble_eq_true rfl)) (And.intro trivial (?_)))
            show P (some (vi s9)) (J13, H)
            exact fin_i (by rw [iv1, show k = μ 1 by omega]; exact hB_congr (fun i _ _ => HSP_congr (e13.a _ (by omega) (by omega)) e13.t)) (h (by omega) _ (CF.op f13))
          ·
            show WP (Call d) 128 P X (24, [some (vr (some 3) 9), some (vi y), some (vi wh), some (vi s9), some (vi k), none], [], (J13, H), 1, 6)
            refine WP.go 2 (And.intro (fun (b25 : ¬ wh = 0) => ?_) (fun (b25 : wh = 0) => ?_))
            ·
              show WP (Call d) 128 P X (32, [some (vr (some 3) 9), some (vi y), some (vi wh), some (vi s9), some (vi k), none], [], (J13, H), 1, 6)
              refine WP.go 3 (And.intro (fun (b34 : ¬ wh = 1) => ?_) (fun (b34 : wh = 1) => ?_))
              ·
                show WP (Call d) 128 P X (41, [some (vr (some 3) 9), some (vi y), some (vi wh), some (vi s9), some (vi k), none], [], (J13, H), 1, 6)
                refine WP.go 5 (And.intro rfl (Exists.intro 79 (And.intro hS.r3_7 (And.intro (And.intro (Nat.le_of_ble_eq_true rfl) (Nat.le_of_ble_eq_true rfl)) (And.intro rfl (?_))))))
                show Call d 13 [vr (some 79) 0, vi k, vi y] (J13, H) _ _
                refine s_0_hasNoon (by omega) hS hX_1 hT_2 hV hA_3 (by omega) ?_
                show WP (Call d) 128 P X (46, [some (vr (some 3) 9), some (vi y), some (vi wh), some (vi s9), some (vi k), none], [vi (bz (NOONp μ (J13 80) (J13 81) k y))], (J13, H), 1, 6)
                refine WP.go 4 (And.intro (fun (b49 : bz (NOONp μ (J13 80) (J13 81) k y) = 0) => ?_) (fun (b49 : ¬ bz (NOONp μ (J13 80) (J13 81) k y) = 0) => ?_))
                ·
                  show WP (Call d) 128 P X (54, [some (vr (some 3) 9), some (vi y), some (vi wh), some (vi s9), some (vi k), some (vi (bz (NOONp μ (J13 80) (J13 81) k y)))], [vi s9], (J13, H), 1, 6)
                  have z49 := bz_e0.mp b49
                  refine WP.go 5 (Exists.intro (k + 1) (And.intro (wrp_a (by omega) (by omega)) (?_)))
                  show WP (Call d) 128 P X (18, [some (vr (some 3) 9), some (vi y), some (vi wh), some (vi (zor s9 0)), some (vi (k + 1)), some (vi (bz (NOONp μ (J13 80) (J13 81) k y)))], [], (J13, H), 1, 6)
                  refine WP.wk (L := [some (vr (some 3) 9), some (vi y), some (vi wh), some (vi (zor s9 0)), some (vi (k + 1)), none]) (And.intro rfl (And.intro rfl (And.intro rfl (And.intro rfl (And.intro rfl (And.intro trivial (trivial))))))) ?_
                  show WP (Call d) 128 P X (18, [some (vr (some 3) 9), some (vi y), some (vi wh), some (vi (zor s9 0)), some (vi (k + 1)), none], [], (J13, H), 1, 6)
                  exact ih18 (zor s9 0) (k + 1) (by omega) (by omega) (by rw [iv1, zor_0, hB_n (p := HSP μ (J13 80) (J13 81) y wh) (by omega) (fun z => bz_e0.mp b49 (z.2.2 (by omega)))])
                ·
                  show WP (Call d) 128 P X (50, [some (vr (some 3) 9), some (vi y), some (vi wh), some (vi s9), some (vi k), some (vi (bz (NOONp μ (J13 80) (J13 81) k y)))], [vi s9], (J13, H), 1, 6)
                  have z49 := bz_e1.mp b49
                  refine WP.go 8 (Exists.intro (k + 1) (And.intro (wrp_a (by omega) (by omega)) (?_)))
                  show WP (Call d) 128 P X (18, [some (vr (some 3) 9), some (vi y), some (vi wh), some (vi (zor s9 (zshl 1 k))), some (vi (k + 1)), some (vi (bz (NOONp μ (J13 80) (J13 81) k y)))], [], (J13, H), 1, 6)
                  refine WP.wk (L := [some (vr (some 3) 9), some (vi y), some (vi wh), some (vi (zor s9 (zshl 1 k))), some (vi (k + 1)), none]) (And.intro rfl (And.intro rfl (And.intro rfl (And.intro rfl (And.intro rfl (And.intro trivial (trivial))))))) ?_
                  show WP (Call d) 128 P X (18, [some (vr (some 3) 9), some (vi y), some (vi wh), some (vi (zor s9 (zshl 1 k))), some (vi (k + 1)), none], [], (J13, H), 1, 6)
                  exact ih18 (zor s9 (zshl 1 k)) (k + 1) (by omega) (by omega) (by rw [iv1, hB_y (p := HSP μ (J13 80) (J13 81) y wh) (by omega) ⟨fun z => absurd z (by omega), fun z => absurd z (by omega), fun _ => bz_e1.mp b49⟩])
              ·
                show WP (Call d) 128 P X (35, [some (vr (some 3) 9), some (vi y), some (vi wh), some (vi s9), some (vi k), none], [], (J13, H), 1, 6)
                refine WP.go 5 (And.intro rfl (Exists.intro 79 (And.intro hS.r3_7 (And.intro (And.intro (Nat.le_of_ble_eq_true rfl) (Nat.le_of_ble_eq_true rfl)) (And.intro rfl (?_))))))
                show Call d 14 [vr (some 79) 0, vi k, vi y] (J13, H) _ _
                refine s_0_isWindy (by omega) hS hX_1 hT_2 hV hA_3 (by omega) (by omega) ?_
                show WP (Call d) 128 P X (40, [some (vr (some 3) 9), some (vi y), some (vi wh), some (vi s9), some (vi k), none], [vi (bz (WDYp μ (J13 80) (J13 81) k y))], (J13, H), 1, 6)
                refine WP.go 5 (And.intro (fun (b49 : bz (WDYp μ (J13 80) (J13 81) k y) = 0) => ?_) (fun (b49 : ¬ bz (WDYp μ (J13 80) (J13 81) k y) = 0) => ?_))
                ·
                  show WP (Call d) 128 P X (54, [some (vr (some 3) 9), some (vi y), some (vi wh), some (vi s9), some (vi k), some (vi (bz (WDYp μ (J13 80) (J13 81) k y)))], [vi s9], (J13, H), 1, 6)
                  have z49 := bz_e0.mp b49
                  refine WP.go 5 (Exists.intro (k + 1) (And.intro (wrp_a (by omega) (by omega)) (?_)))
                  show WP (Call d) 128 P X (18, [some (vr (some 3) 9), some (vi y), some (vi wh), some (vi (zor s9 0)), some (vi (k + 1)), some (vi (bz (WDYp μ (J13 80) (J13 81) k y)))], [], (J13, H), 1, 6)
                  refine WP.wk (L := [some (vr (some 3) 9), some (vi y), some (vi wh), some (vi (zor s9 0)), some (vi (k + 1)), none]) (And.intro rfl (And.intro rfl (And.intro rfl (And.intro rfl (And.intro rfl (And.intro trivial (trivial))))))) ?_
                  show WP (Call d) 128 P X (18, [some (vr (some 3) 9), some (vi y), some (vi wh), some (vi (zor s9 0)), some (vi (k + 1)), none], [], (J13, H), 1, 6)
                  exact ih18 (zor s9 0) (k + 1) (by omega) (by omega) (by rw [iv1, zor_0, hB_n (p := HSP μ (J13 80) (J13 81) y wh) (by omega) (fun z => bz_e0.mp b49 (z.2.1 (by omega)))])
                ·
                  show WP (Call d) 128 P X (50, [some (vr (some 3) 9), some (vi y), some (vi wh), some (vi s9), some (vi k), some (vi (bz (WDYp μ (J13 80) (J13 81) k y)))], [vi s9], (J13, H), 1, 6)
                  have z49 := bz_e1.mp b49
                  refine WP.go 8 (Exists.intro (k + 1) (And.intro (wrp_a (by omega) (by omega)) (?_)))
                  show WP (Call d) 128 P X (18, [some (vr (some 3) 9), some (vi y), some (vi wh), some (vi (zor s9 (zshl 1 k))), some (vi (k + 1)), some (vi (bz (WDYp μ (J13 80) (J13 81) k y)))], [], (J13, H), 1, 6)
                  refine WP.wk (L := [some (vr (some 3) 9), some (vi y), some (vi wh), some (vi (zor s9 (zshl 1 k))), some (vi (k + 1)), none]) (And.intro rfl (And.intro rfl (And.intro rfl (And.intro rfl (And.intro rfl (And.intro trivial (trivial))))))) ?_
                  show WP (Call d) 128 P X (18, [some (vr (some 3) 9), some (vi y), some (vi wh), some (vi (zor s9 (zshl 1 k))), some (vi (k + 1)), none], [], (J13, H), 1, 6)
                  exact ih18 (zor s9 (zshl 1 k)) (k + 1) (by omega) (by omega) (by rw [iv1, hB_y (p := HSP μ (J13 80) (J13 81) y wh) (by omega) ⟨fun z => absurd z (by omega), fun _ => bz_e1.mp b49, fun z => absurd z (by omega)⟩])
            ·
              show WP (Call d) 128 P X (26, [some (vr (some 3) 9), some (vi y), some (vi wh), some (vi s9), some (vi k), none], [], (J13, H), 1, 6)
              refine WP.go 5 (And.intro rfl (Exists.intro 79 (And.intro hS.r3_7 (And.intro (And.intro (Nat.le_of_ble_eq_true rfl) (Nat.le_of_ble_eq_true rfl)) (And.intro rfl (?_))))))
              show Call d 12 [vr (some 79) 0, vi k, vi y] (J13, H) _ _
              refine s_0_isInFrost (by omega) hS hX_1 hT_2 hV hA_3 (by omega) ?_
              show WP (Call d) 128 P X (31, [some (vr (some 3) 9), some (vi y), some (vi wh), some (vi s9), some (vi k), none], [vi (bz (LGH μ (J13 80) (J13 81) k y = 0))], (J13, H), 1, 6)
              refine WP.go 5 (And.intro (fun (b49 : bz (LGH μ (J13 80) (J13 81) k y = 0) = 0) => ?_) (fun (b49 : ¬ bz (LGH μ (J13 80) (J13 81) k y = 0) = 0) => ?_))
              ·
                show WP (Call d) 128 P X (54, [some (vr (some 3) 9), some (vi y), some (vi wh), some (vi s9), some (vi k), some (vi (bz (LGH μ (J13 80) (J13 81) k y = 0)))], [vi s9], (J13, H), 1, 6)
                have z49 := bz_e0.mp b49
                refine WP.go 5 (Exists.intro (k + 1) (And.intro (wrp_a (by omega) (by omega)) (?_)))
                show WP (Call d) 128 P X (18, [some (vr (some 3) 9), some (vi y), some (vi wh), some (vi (zor s9 0)), some (vi (k + 1)), some (vi (bz (LGH μ (J13 80) (J13 81) k y = 0)))], [], (J13, H), 1, 6)
                refine WP.wk (L := [some (vr (some 3) 9), some (vi y), some (vi wh), some (vi (zor s9 0)), some (vi (k + 1)), none]) (And.intro rfl (And.intro rfl (And.intro rfl (And.intro rfl (And.intro rfl (And.intro trivial (trivial))))))) ?_
                show WP (Call d) 128 P X (18, [some (vr (some 3) 9), some (vi y), some (vi wh), some (vi (zor s9 0)), some (vi (k + 1)), none], [], (J13, H), 1, 6)
                exact ih18 (zor s9 0) (k + 1) (by omega) (by omega) (by rw [iv1, zor_0, hB_n (p := HSP μ (J13 80) (J13 81) y wh) (by omega) (fun z => bz_e0.mp b49 (z.1 (by omega)))])
              ·
                show WP (Call d) 128 P X (50, [some (vr (some 3) 9), some (vi y), some (vi wh), some (vi s9), some (vi k), some (vi (bz (LGH μ (J13 80) (J13 81) k y = 0)))], [vi s9], (J13, H), 1, 6)
                have z49 := bz_e1.mp b49
                refine WP.go 8 (Exists.intro (k + 1) (And.intro (wrp_a (by omega) (by omega)) (?_)))
                show WP (Call d) 128 P X (18, [some (vr (some 3) 9), some (vi y), some (vi wh), some (vi (zor s9 (zshl 1 k))), some (vi (k + 1)), some (vi (bz (LGH μ (J13 80) (J13 81) k y = 0)))], [], (J13, H), 1, 6)
                refine WP.wk (L := [some (vr (some 3) 9), some (vi y), some (vi wh), some (vi (zor s9 (zshl 1 k))), some (vi (k + 1)), none]) (And.intro rfl (And.intro rfl (And.intro rfl (And.intro rfl (And.intro rfl (And.intro trivial (trivial))))))) ?_
                show WP (Call d) 128 P X (18, [some (vr (some 3) 9), some (vi y), some (vi wh), some (vi (zor s9 (zshl 1 k))), some (vi (k + 1)), none], [], (J13, H), 1, 6)
                exact ih18 (zor s9 (zshl 1 k)) (k + 1) (by omega) (by omega) (by rw [iv1, hB_y (p := HSP μ (J13 80) (J13 81) y wh) (by omega) ⟨fun _ => bz_e1.mp b49, fun z => absurd z (by omega), fun z => absurd z (by omega)⟩])
      exact lp18 ((μ 1 - 0 : Int).toNat + 1) 0 0 (by omega) (by omega) rfl
    ·
      show WP (Call d) 128 P X (7, [some (vr (some 3) 9), some (vi y), some (vi wh), none, none, none], [], (I, H), 1, 6)
      refine WP.go 1 (And.intro (And.intro (Nat.le_of_ble_eq_true rfl) (Nat.le_of_ble_eq_true rfl)) (?_))
      show X 3 (I, H)
      exact hx3 (by omega)

theorem s_11_left {d : Nat} {P : Option qV → qH → Prop} {X : Nat → qH → Prop} {I : qI} {H : qS} {μ : Int → Int} (hd : 7 ≤ d) (hS : Shp H) (hX : SX I) (hT : TR 6 I μ) (hV : IM μ) (h : ∀ J : qI, CF I J → P (some (vi (hB (fun i => LGH μ (AN μ) (HT μ) i (STP (AN μ)) = 0) (μ 1)))) (J, H)) :
    Call d 151 [vr (some 3) 9] (I, H) P X := by
  obtain ⟨d, rfl⟩ : ∃ e, d = e + 1 := ⟨d - 1, by omega⟩
  have v1 := hV.n1
  show WP (Call d) 151 P X (0, [some (vr (some 3) 9), none, none, none], [], (I, H), 0, 0)
  refine WP.go 3 (And.intro rfl (Exists.intro 79 (And.intro hS.r3_7 (And.intro (And.intro (Nat.le_of_ble_eq_true rfl) (Nat.le_of_ble_eq_true rfl)) (And.intro rfl (?_))))))
  show Call d 1 [vr (some 79) 0] (I, H) _ _
  refine s_0_open (by omega) hS hX hT hV (fun J2 e2 f2 => ?_)
  show WP (Call d) 151 P X (3, [some (vr (some 3) 9), none, none, none], [], (J2, H), 0, 0)
  have hX_1 : SX J2 := SX.fr hX (f2 0 (by omega) (by omega)) (f2 1 (by omega) (by omega))
  have hT_2 : TR 6 J2 μ := hT.fr (fun a q1 q2 => f2 a (by omega) (by omega))
  have hA_3 : AB (J2 80) (J2 81) := e2.ab hV
  refine WP.go 3 (And.intro rfl (Exists.intro 79 (And.intro hS.r3_7 (And.intro (And.intro (Nat.le_of_ble_eq_true rfl) (Nat.le_of_ble_eq_true rfl)) (And.intro rfl (?_))))))
  show Call d 5 [vr (some 79) 0] (J2, H) _ _
  refine s_0_stopYear (by omega) hS ?_
  show WP (Call d) 151 P X (6, [some (vr (some 3) 9), none, none, none], [vi (STP (J2 80))], (J2, H), 0, 0)
  have v2 := STP_bd (J2 80)
  refine WP.go 5 ?_
  show WP (Call d) 151 P X (11, [some (vr (some 3) 9), some (vi (STP (J2 80))), some (vi 0), some (vi 0)], [], (J2, H), 0, 0)
  have lp11 : ∀ (n9 : Nat) (s9 : Int) (k : Int) (hm : μ 1 - k < (n9 : Int)) (iv0 : 0 ≤ k ∧ k ≤ μ 1) (iv1 : s9 = hB (fun i => LGH μ (J2 80) (J2 81) i (STP (J2 80)) = 0) k), WP (Call d) 151 P X (11, [some (vr (some 3) 9), some (vi (STP (J2 80))), some (vi s9), some (vi k)], [], (J2, H), 0, 0) := by
    intro n9
    induction n9 with
    | zero => intro s9 k hm iv0 iv1; exact absurd hm (by omega)
    | succ n9 ih11 =>
      intro s9 k hm iv0 iv1
      refine WP.go 5 (And.intro rfl (Exists.intro 6 (And.intro hS.r3_4 (And.intro rfl (Exists.intro 7 (And.intro hS.r6_0 (And.intro (And.intro (Nat.le_of_ble_eq_true rfl) (Nat.le_of_ble_eq_true rfl)) (And.intro rfl (?_)))))))))
      show Call d 55 [vr (some 7) 4] (J2, H) _ _
      refine s_size_houses (by omega) hT_2 ?_
      show WP (Call d) 151 P X (16, [some (vr (some 3) 9), some (vi (STP (J2 80))), some (vi s9), some (vi k)], [vi (μ 1), vi k], (J2, H), 0, 0)
      refine WP.go 1 (And.intro (fun (b16 : ¬ k < μ 1) => ?_) (fun (b16 : k < μ 1) => ?_))
      ·
        show WP (Call d) 151 P X (33, [some (vr (some 3) 9), some (vi (STP (J2 80))), some (vi s9), some (vi k)], [], (J2, H), 0, 0)
        refine WP.go 2 (And.intro (And.intro (Nat.le_of_ble_eq_true rfl) (Nat.le_of_ble_eq_true rfl)) (And.intro trivial (?_)))
        show P (some (vi s9)) (J2, H)
        exact fin_i (by rw [iv1, show k = μ 1 by omega, STP_congr e2.a]; exact hB_congr (fun i _ _ => by rw [LGH_congr (e2.a _ (STP_bd _).1 (STP_bd _).2) e2.t])) (h _ (CF.op f2))
      ·
        show WP (Call d) 151 P X (17, [some (vr (some 3) 9), some (vi (STP (J2 80))), some (vi s9), some (vi k)], [], (J2, H), 0, 0)
        refine WP.go 6 (And.intro rfl (Exists.intro 79 (And.intro hS.r3_7 (And.intro (And.intro (Nat.le_of_ble_eq_true rfl) (Nat.le_of_ble_eq_true rfl)) (And.intro rfl (?_))))))
        show Call d 12 [vr (some 79) 0, vi k, vi (STP (J2 80))] (J2, H) _ _
        refine s_0_isInFrost (by omega) hS hX_1 hT_2 hV hA_3 (by omega) ?_
        show WP (Call d) 151 P X (23, [some (vr (some 3) 9), some (vi (STP (J2 80))), some (vi s9), some (vi k)], [vi (bz (LGH μ (J2 80) (J2 81) k (STP (J2 80)) = 0)), vi s9], (J2, H), 0, 0)
        refine WP.go 1 (And.intro (fun (b23 : bz (LGH μ (J2 80) (J2 81) k (STP (J2 80)) = 0) = 0) => ?_) (fun (b23 : ¬ bz (LGH μ (J2 80) (J2 81) k (STP (J2 80)) = 0) = 0) => ?_))
        ·
          show WP (Call d) 151 P X (28, [some (vr (some 3) 9), some (vi (STP (J2 80))), some (vi s9), some (vi k)], [vi s9], (J2, H), 0, 0)
          have z23 := bz_e0.mp b23
          refine WP.go 5 (Exists.intro (k + 1) (And.intro (wrp_a (by omega) (by omega)) (?_)))
          show WP (Call d) 151 P X (11, [some (vr (some 3) 9), some (vi (STP (J2 80))), some (vi (zor s9 0)), some (vi (k + 1))], [], (J2, H), 0, 0)
          exact ih11 (zor s9 0) (k + 1) (by omega) (by omega) (by rw [iv1, zor_0, hB_n (p := fun i => LGH μ (J2 80) (J2 81) i (STP (J2 80)) = 0) (by omega) (bz_e0.mp b23)])
        ·
          show WP (Call d) 151 P X (24, [some (vr (some 3) 9), some (vi (STP (J2 80))), some (vi s9), some (vi k)], [vi s9], (J2, H), 0, 0)
          have z23 := bz_e1.mp b23
          refine WP.go 8 (Exists.intro (k + 1) (And.intro (wrp_a (by omega) (by omega)) (?_)))
          show WP (Call d) 151 P X (11, [some (vr (some 3) 9), some (vi (STP (J2 80))), some (vi (zor s9 (zshl 1 k))), some (vi (k + 1))], [], (J2, H), 0, 0)
          exact ih11 (zor s9 (zshl 1 k)) (k + 1) (by omega) (by omega) (by rw [iv1, hB_y (p := fun i => LGH μ (J2 80) (J2 81) i (STP (J2 80)) = 0) (by omega) (bz_e1.mp b23)])
  exact lp11 ((μ 1 - 0 : Int).toNat + 1) 0 0 (by omega) (by omega) rfl

theorem s_11_broken {d : Nat} {P : Option qV → qH → Prop} {X : Nat → qH → Prop} {I : qI} {H : qS} {μ : Int → Int} (hd : 6 ≤ d) {k : Int} (hS : Shp H) (hX : SX I) (hT : TR 6 I μ) (hV : IM μ) (h : ((0 ≤ k ∧ k < μ 5)) → ∀ J : qI, CF I J → P (some (vi (fI (fun y => ¬ LITp μ (AN μ) (HT μ) (μ (394 + 3 * k)) 6 y) (μ (395 + 3 * k)) (μ (396 + 3 * k) + 1)))) (J, H)) (hx1 : ¬ ((0 ≤ k ∧ k < μ 5)) → X 1 (I, H)) :
    Call d 133 [vr (some 3) 9, vi k] (I, H) P X := by
  obtain ⟨d, rfl⟩ : ∃ e, d = e + 1 := ⟨d - 1, by omega⟩
  show WP (Call d) 133 P X (0, [some (vr (some 3) 9), some (vi k), none, none, none], [], (I, H), 0, 0)
  refine WP.go 5 (And.intro rfl (Exists.intro 6 (And.intro hS.r3_4 (And.intro rfl (Exists.intro 15 (And.intro hS.r6_4 (And.intro (And.intro (Nat.le_of_ble_eq_true rfl) (Nat.le_of_ble_eq_true rfl)) (And.intro rfl (?_)))))))))
  show Call d 56 [vr (some 15) 4, vi k] (I, H) _ _
  refine s_has_promises (by omega) hT ?_
  show WP (Call d) 133 P X (5, [some (vr (some 3) 9), some (vi k), none, none, none], [vi (bz (0 ≤ k ∧ k < μ 5))], (I, H), 0, 0)
  refine WP.go 1 (And.intro (And.intro (Nat.le_of_ble_eq_true rfl) (Nat.le_of_ble_eq_true rfl)) (And.intro rfl (?_)))
  show Call d 163 [vi (bz (0 ≤ k ∧ k < μ 5))] (I, H) _ _
  refine s_11_needThere_b (by omega)  (fun q5 => ?_) (fun q9 => hx1 (by omega))
  show WP (Call d) 133 P X (6, [some (vr (some 3) 9), some (vi k), none, none, none], [], (I, H), 1, 6)
  have v1 := hV.pw k (by omega) (by omega)
  have v2 := hV.py k (by omega) (by omega)
  have hcg : ∀ {A T : Int → Int}, OPN μ (-1) 0 A T → fI (fun y => ¬ LITp μ A T (μ (394 + 3 * k)) 6 y) (μ (395 + 3 * k)) (μ (396 + 3 * k) + 1) = fI (fun y => ¬ LITp μ (AN μ) (HT μ) (μ (394 + 3 * k)) 6 y) (μ (395 + 3 * k)) (μ (396 + 3 * k) + 1) := fun e => fI_congr (fun i q1 q2 => not_congr (LITp_congr (e.a i (by omega) (by omega)) e.t))
  refine WP.go 6 (And.intro rfl (Exists.intro 6 (And.intro hS.r3_4 (And.intro rfl (Exists.intro 15 (And.intro hS.r6_4 (And.intro (And.intro (Nat.le_of_ble_eq_true rfl) (Nat.le_of_ble_eq_true rfl)) (And.intro rfl (?_)))))))))
  show Call d 58 [vr (some 15) 4, vi k, vi 2] (I, H) _ _
  refine s_get_promises2 (by omega) hS (.inl rfl) hT hV (by omega) ?_
  show WP (Call d) 133 P X (12, [some (vr (some 3) 9), some (vi k), none, none, none], [vi (μ (394 + 3 * k))], (I, H), 1, 6)
  refine WP.go 7 (And.intro rfl (Exists.intro 6 (And.intro hS.r3_4 (And.intro rfl (Exists.intro 15 (And.intro hS.r6_4 (And.intro (And.intro (Nat.le_of_ble_eq_true rfl) (Nat.le_of_ble_eq_true rfl)) (And.intro rfl (?_)))))))))
  show Call d 58 [vr (some 15) 4, vi k, vi 1] (I, H) _ _
  refine s_get_promises1 (by omega) hS (.inl rfl) hT hV (by omega) ?_
  show WP (Call d) 133 P X (19, [some (vr (some 3) 9), some (vi k), some (vi (μ (394 + 3 * k))), none, none], [vi (μ (396 + 3 * k))], (I, H), 1, 6)
  refine WP.go 4 (And.intro rfl (Exists.intro 79 (And.intro hS.r3_7 (And.intro (And.intro (Nat.le_of_ble_eq_true rfl) (Nat.le_of_ble_eq_true rfl)) (And.intro rfl (?_))))))
  show Call d 1 [vr (some 79) 0] (I, H) _ _
  refine s_0_open (by omega) hS hX hT hV (fun J22 e22 f22 => ?_)
  show WP (Call d) 133 P X (23, [some (vr (some 3) 9), some (vi k), some (vi (μ (394 + 3 * k))), some (vi (μ (396 + 3 * k))), none], [], (J22, H), 1, 6)
  have hX_1 : SX J22 := SX.fr hX (f22 0 (by omega) (by omega)) (f22 1 (by omega) (by omega))
  have hT_2 : TR 6 J22 μ := hT.fr (fun a q1 q2 => f22 a (by omega) (by omega))
  have hA_3 : AB (J22 80) (J22 81) := e22.ab hV
  refine WP.go 6 (And.intro rfl (Exists.intro 6 (And.intro hS.r3_4 (And.intro rfl (Exists.intro 15 (And.intro hS.r6_4 (And.intro (And.intro (Nat.le_of_ble_eq_true rfl) (Nat.le_of_ble_eq_true rfl)) (And.intro rfl (?_)))))))))
  show Call d 58 [vr (some 15) 4, vi k, vi 0] (J22, H) _ _
  refine s_get_promises0 (by omega) hS (.inl rfl) hT_2 hV (by omega) ?_
  show WP (Call d) 133 P X (29, [some (vr (some 3) 9), some (vi k), some (vi (μ (394 + 3 * k))), some (vi (μ (396 + 3 * k))), none], [vi (μ (395 + 3 * k))], (J22, H), 1, 6)
  refine WP.go 1 ?_
  show WP (Call d) 133 P X (30, [some (vr (some 3) 9), some (vi k), some (vi (μ (394 + 3 * k))), some (vi (μ (396 + 3 * k))), some (vi (μ (395 + 3 * k)))], [], (J22, H), 1, 6)
  have lp30 : ∀ (n9 : Nat) (y : Int) (hm : μ (396 + 3 * k) + 1 - y < (n9 : Int)) (iv0 : μ (395 + 3 * k) ≤ y ∧ y ≤ μ (396 + 3 * k) + 1) (iv1 : fI (fun y => ¬ LITp μ (J22 80) (J22 81) (μ (394 + 3 * k)) 6 y) (μ (395 + 3 * k)) (μ (396 + 3 * k) + 1) = fI (fun y => ¬ LITp μ (J22 80) (J22 81) (μ (394 + 3 * k)) 6 y) y (μ (396 + 3 * k) + 1)), WP (Call d) 133 P X (30, [some (vr (some 3) 9), some (vi k), some (vi (μ (394 + 3 * k))), some (vi (μ (396 + 3 * k))), some (vi y)], [], (J22, H), 1, 6) := by
    intro n9
    induction n9 with
    | zero => intro y hm iv0 iv1; exact absurd hm (by omega)
    | succ n9 ih30 =>
      intro y hm iv0 iv1
      refine WP.go 3 (And.intro (fun (b32 : μ (396 + 3 * k) < y) => ?_) (fun (b32 : ¬ μ (396 + 3 * k) < y) => ?_))
      ·
        show WP (Call d) 133 P X (47, [some (vr (some 3) 9), some (vi k), some (vi (μ (394 + 3 * k))), some (vi (μ (396 + 3 * k))), some (vi y)], [], (J22, H), 1, 6)
        refine WP.go 2 (And.intro (And.intro (Nat.le_of_ble_eq_true rfl) (Nat.le_of_ble_eq_true rfl)) (And.intro trivial (?_)))
        show P (some (vi (-1))) (J22, H)
        exact fin_i ((hcg e22).symm.trans (iv1.trans (fI_nil (by omega)))).symm (h (by omega) _ (CF.op f22))
      ·
        show WP (Call d) 133 P X (33, [some (vr (some 3) 9), some (vi k), some (vi (μ (394 + 3 * k))), some (vi (μ (396 + 3 * k))), some (vi y)], [], (J22, H), 1, 6)
        refine WP.go 3 (And.intro (fun (b35 : ¬ y < 100) => (absurd b35 (by omega))) (fun (b35 : y < 100) => ?_))
        show WP (Call d) 133 P X (36, [some (vr (some 3) 9), some (vi k), some (vi (μ (394 + 3 * k))), some (vi (μ (396 + 3 * k))), some (vi y)], [], (J22, H), 1, 6)
        refine WP.go 6 (And.intro rfl (Exists.intro 79 (And.intro hS.r3_7 (And.intro (And.intro (Nat.le_of_ble_eq_true rfl) (Nat.le_of_ble_eq_true rfl)) (And.intro rfl (?_))))))
        show Call d 6 [vr (some 79) 0, vi (μ (394 + 3 * k)), vi 6, vi y] (J22, H) _ _
        refine s_0_isLit (by omega) hS hX_1 hT_2 hV hA_3 (by omega) (by omega) (by omega) ?_
        show WP (Call d) 133 P X (42, [some (vr (some 3) 9), some (vi k), some (vi (μ (394 + 3 * k))), some (vi (μ (396 + 3 * k))), some (vi y)], [vi (bz (LITp μ (J22 80) (J22 81) (μ (394 + 3 * k)) 6 y))], (J22, H), 1, 6)
        refine WP.go 1 (And.intro (fun (b42 : ¬ bz (LITp μ (J22 80) (J22 81) (μ (394 + 3 * k)) 6 y) = 0) => ?_) (fun (b42 : bz (LITp μ (J22 80) (J22 81) (μ (394 + 3 * k)) 6 y) = 0) => ?_))
        ·
          show WP (Call d) 133 P X (45, [some (vr (some 3) 9), some (vi k), some (vi (μ (394 + 3 * k))), some (vi (μ (396 + 3 * k))), some (vi y)], [], (J22, H), 1, 6)
          have z42 := bz_e1.mp b42
          refine WP.go 2 (Exists.intro (y + 1) (And.intro (wrp_a (by omega) (by omega)) (?_)))
          show WP (Call d) 133 P X (30, [some (vr (some 3) 9), some (vi k), some (vi (μ (394 + 3 * k))), some (vi (μ (396 + 3 * k))), some (vi (y + 1))], [], (J22, H), 1, 6)
          exact ih30 (y + 1) (by omega) (by omega) (iv1.trans (fI_n (by omega) (fun z => z (bz_e1.mp b42))))
        ·
          show WP (Call d) 133 P X (43, [some (vr (some 3) 9), some (vi k), some (vi (μ (394 + 3 * k))), some (vi (μ (396 + 3 * k))), some (vi y)], [], (J22, H), 1, 6)
          have z42 := bz_e0.mp b42
          refine WP.go 2 (And.intro (And.intro (Nat.le_of_ble_eq_true rfl) (Nat.le_of_ble_eq_true rfl)) (And.intro trivial (?_)))
          show P (some (vi y)) (J22, H)
          exact fin_i ((hcg e22).symm.trans (iv1.trans (fI_s (by omega) (bz_e0.mp b42)))).symm (h (by omega) _ (CF.op f22))
  exact lp30 ((μ (396 + 3 * k) + 1 - (μ (395 + 3 * k)) : Int).toNat + 1) (μ (395 + 3 * k)) (by omega) (by omega) rfl

