/-! the law's entry, as the machine sees it -/
def H00 (L : Nat) : qS := (fun _ _ => none, fun a => if a < 2 then 8 else if a = 2 then (L : Int) else 0, fun _ => 11, 0)
def I00 (L : Nat) (xs : Nat → Int32) : qI := fun a j => if a = 0 then (if 0 ≤ j ∧ j < 8 then stX j.toNat else 0) else if a = 1 then (if 0 ≤ j ∧ j < 8 then stY j.toNat else 0) else if a = 2 then (if 0 ≤ j ∧ j < L then (xs j.toNat).toInt else 0) else 0
theorem stX_in (n : Nat) (h : n < 8) : inR (stX n) := by
  match n, h with
  | 0, _ => exact ⟨by decide, by decide⟩
  | 1, _ => exact ⟨by decide, by decide⟩
  | 2, _ => exact ⟨by decide, by decide⟩
  | 3, _ => exact ⟨by decide, by decide⟩
  | 4, _ => exact ⟨by decide, by decide⟩
  | 5, _ => exact ⟨by decide, by decide⟩
  | 6, _ => exact ⟨by decide, by decide⟩
  | 7, _ => exact ⟨by decide, by decide⟩
theorem stY_in (n : Nat) (h : n < 8) : inR (stY n) := by
  match n, h with
  | 0, _ => exact ⟨by decide, by decide⟩
  | 1, _ => exact ⟨by decide, by decide⟩
  | 2, _ => exact ⟨by decide, by decide⟩
  | 3, _ => exact ⟨by decide, by decide⟩
  | 4, _ => exact ⟨by decide, by decide⟩
  | 5, _ => exact ⟨by decide, by decide⟩
  | 6, _ => exact ⟨by decide, by decide⟩
  | 7, _ => exact ⟨by decide, by decide⟩
theorem I00_in (L : Nat) (xs : Nat → Int32) (a : Nat) (j : Int) : inR (I00 L xs a j) := by
  unfold I00
  split
  · split
    · exact stX_in _ (by omega)
    · exact in0
  · split
    · split
      · exact stY_in _ (by omega)
      · exact in0
    · split
      · split
        · exact oi_rng _
        · exact in0
      · exact in0
theorem whp00 (L : Nat) (xs : Nat → Int32) (hL : L ≤ 3072) : whp L xs (I00 L xs, H00 L) := by
  refine ⟨fun a j => inR_L (I00_in L xs a j), fun a j _ => I00_in L xs a j, fun a j b _ _ h => (nomatch h), fun a => ?_, fun a => by show 11 < 14; decide, rfl, rfl, rfl, fun j hj => ?_, fun j hj => ?_, fun j hj => ?_, rfl, rfl, rfl, hL⟩
  · show 0 ≤ (if a < 2 then 8 else if a = 2 then (L : Int) else 0) ∧ (if a < 2 then 8 else if a = 2 then (L : Int) else 0) ≤ 100000
    split
    · omega
    · split <;> omega
  · show I00 L xs 0 (j : Int) = _
    unfold I00
    rw [if_pos rfl, if_pos ⟨by omega, by omega⟩]; rfl
  · show I00 L xs 1 (j : Int) = _
    unfold I00
    rw [if_neg (by omega), if_pos rfl, if_pos ⟨by omega, by omega⟩]; rfl
  · show I00 L xs 2 (j : Int) = _
    unfold I00
    rw [if_neg (by omega), if_neg (by omega), if_pos rfl, if_pos ⟨by omega, by omega⟩]; rfl
theorem start_sta (T : TblOK) {args : Array Value} {s : State} {b L : Nat} {xs : Nat → Int32} (hL : L ≤ 3072) (hN : ∀ w ∈ NAR, w.before args s = true) (hT : ∀ w ∈ LWT, w.before args s = true) (hX : va_X b L xs s s.heap) (hbl : b < s.heap.size) :
    ∃ G : qG, Sta G s ∧ G.2.2.1 = s.heap.size ∧ G.2.2.2.2.2.1 2 = b ∧ Rl G (fun _ => 0) (I00 L xs, H00 L) s.heap := by
  have hts : ∀ w ∈ BIG, w.before args s = true := fun w hw => hT w (big_in w hw)
  have hO : va_OA s := st_O9 hT
  obtain ⟨D, cI, cJ, cL, hK⟩ := st_K T hts hO
  obtain ⟨tX, x1, x2⟩ := st_X hN hT hts
  obtain ⟨tY, y1, y2⟩ := st_Y hN hT hts
  obtain ⟨⟨s1, s2⟩, s3, s4⟩ := st_S hN hT hts
  obtain ⟨ad, hS⟩ := st_T hN hT
  refine ⟨(D, (cI, cJ, cL), s.heap.size, L, xs, fun a => if a = 0 then tX else if a = 1 then tY else b, fun i => (ad i).1, fun i => (ad i).2, fun _ => 0, H00 L), ⟨hK, ⟨x1, x2⟩, ⟨y1, y2⟩, ⟨hX, hbl, fun h => ?_⟩, ⟨fun i hi => (hS i hi).1, fun i hi => (hS i hi).2⟩, ⟨s1, s2⟩, ⟨s3, s4⟩, ⟨va_Nw.of rfl (hT _ (List.mem_of_getElem? (i := 753) (by decide +kernel))), st_Nw hT, st_Nc hN⟩, hO⟩, rfl, rfl, ?_⟩
  · have h : s.heap.size ≤ b := h
    omega
  · exact ⟨fun k q h => (by simp [gpl, pool, H00] at h), ⟨fun i j p q h => (by simp [gpl, pool, H00] at h), fun k q h => (by simp [gpl, pool, H00] at h)⟩, whp00 L xs hL, Nat.le_refl _, ext.rf⟩
