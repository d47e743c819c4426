/-! the pool of cells: read, written, grown -/
/-- where things lie: class numbers, classes of arrays, the first new address, the script, static rows, texts and their bytes; the cells at the method's entry -/
abbrev qG : Type := va_G × (ClassId × ClassId × ClassId) × Nat × Nat × (Nat → Int32) × (Nat → Nat) × (Nat → Nat) × (Nat → Nat) × (Nat → Nat) × qS
/-- the same, at another method's entry -/
abbrev gW (G : qG) (ad : Nat → Nat) (h : qS) : qG := (G.1, G.2.1, G.2.2.1, G.2.2.2.1, G.2.2.2.2.1, G.2.2.2.2.2.1, G.2.2.2.2.2.2.1, G.2.2.2.2.2.2.2.1, ad, h)
abbrev gA (G : qG) : Nat → Prop := fun q => G.2.2.1 ≤ q
abbrev gpl (G : qG) (ad : Nat → Nat) (g : qH) : va_W := pool G.2.1.1 G.2.1.2.1 G.2.1.2.2 ad g
abbrev gcl (G : qG) (ad : Nat → Nat) (I : qI) (H : qS) (a : Nat) : va_E := ecl G.2.1.1 G.2.1.2.1 G.2.1.2.2 ad I H a
abbrev gcv (G : qG) (ad : Nat → Nat) : qV → Value := cv ad G.2.2.2.2.2.1 G.2.2.2.2.2.2.1
/-- the heap H holds g, its cells where ad says -/
def Rl (G : qG) (ad : Nat → Nat) (g : qH) (H : Heap) : Prop := va_P G.1 vwCl (gpl G ad g) H ∧ va_D (gA G) (gpl G ad g) ∧ whp G.2.2.2.1 G.2.2.2.2.1 g ∧ G.2.2.1 ≤ H.size ∧ ext G.2.2.2.2.2.2.2.2.1 ad G.2.2.2.2.2.2.2.2.2 g.2
theorem pool_get {G : qG} {ad : Nat → Nat} {g : qH} {a : Nat} (h3 : 3 ≤ a) (hn : a < g.2.2.2.2 + 3) : (gpl G ad g)[a - 3]? = some (ad a, gcl G ad g.1 g.2 a) := by
  unfold gpl pool
  rw [List.getElem?_map, List.getElem?_range (by omega)]
  simp only [Option.map_some, show a - 3 + 3 = a by omega]
theorem pool_len {G : qG} {ad : Nat → Nat} {g : qH} : (gpl G ad g).length = g.2.2.2.2 := by simp [pool]
theorem pool_upd {G : qG} {ad : Nat → Nat} {g g' : qH} {a : Nat} (h3 : 3 ≤ a) (hn : a < g.2.2.2.2 + 3) (hc : g'.2.2.2.2 = g.2.2.2.2) (h : ∀ b, b ≠ a → gcl G ad g'.1 g'.2 b = gcl G ad g.1 g.2 b) :
    gpl G ad g' = (gpl G ad g).set (a - 3) (ad a, gcl G ad g'.1 g'.2 a) := by
  apply List.ext_getElem?
  intro i
  rw [List.getElem?_set]
  by_cases hi : i < g.2.2.2.2
  · have h1 := pool_get (G := G) (ad := ad) (g := g') (a := i + 3) (by omega) (by omega)
    have h2 := pool_get (G := G) (ad := ad) (g := g) (a := i + 3) (by omega) (by omega)
    simp only [Nat.add_sub_cancel] at h1 h2
    by_cases he : a - 3 = i
    · have hea : i + 3 = a := by omega
      rw [if_pos he, pool_len, if_pos (by omega), h1, hea]
    · rw [if_neg he, h1, h2, h (i + 3) (by omega)]
  · have h1 : (gpl G ad g')[i]? = none := List.getElem?_eq_none (by rw [pool_len]; omega)
    have h2 : (gpl G ad g)[i]? = none := List.getElem?_eq_none (by rw [pool_len]; omega)
    rw [h1, h2, if_neg (by omega)]
theorem range_set {α : Type} (f : Nat → α) (N j : Nat) (v : α) : ((List.range N).map f).set j v = (List.range N).map (fun i => if i = j then v else f i) := by
  apply List.ext_getElem?
  intro i
  rw [List.getElem?_set, List.getElem?_map, List.getElem?_map]
  by_cases hi : i < N
  · rw [List.getElem?_range hi]
    by_cases he : j = i
    · simp [he, hi]
    · simp [he, Ne.symm he]
  · rw [List.getElem?_eq_none (by simpa using hi)]
    simp only [List.length_map, List.length_range, Option.map_none]
    split
    · rw [if_neg (by omega)]
    · rfl
theorem upI_ne {I : qI} {a b : Nat} {k z : Int} (h : b ≠ a) : upI I a k z b = I b := by
  funext j
  unfold upI
  rw [if_neg (fun q => h q.1)]
theorem upI_eq {I : qI} {a : Nat} {k z j : Int} : upI I a k z a j = if j = k then z else I a j := by
  unfold upI
  simp
theorem gcl_I {G : qG} {ad : Nat → Nat} {I I' : qI} {H : qS} {b : Nat} (h : I' b = I b) : gcl G ad I' H b = gcl G ad I H b := by
  unfold gcl ecl fvl
  rw [h]
theorem whp.upI {L : Nat} {xs : Nat → Int32} {I : qI} {H : qS} {a : Nat} {k z : Int} (h : whp L xs (I, H)) (h3 : 3 ≤ a) (hz : inL z) (hr : lng (H.2.2.1 a) k = false → inR z) : whp L xs (_root_.Jvm.Pilot.@@N@@.upI I a k z, H) := by
  obtain ⟨h1, h2, h4, h5, h6, h7, h8, h9, h10, h11, h12, h13⟩ := h
  refine ⟨fun b j => ?_, fun b j hl => ?_, h4, h5, h6, h7, h8, h9, fun j hj => ?_, fun j hj => ?_, fun j hj => ?_, h13⟩
  · show inL (_root_.Jvm.Pilot.@@N@@.upI I a k z b j)
    unfold _root_.Jvm.Pilot.@@N@@.upI
    split
    · exact hz
    · exact h1 b j
  · show inR (_root_.Jvm.Pilot.@@N@@.upI I a k z b j)
    unfold _root_.Jvm.Pilot.@@N@@.upI
    split
    · rename_i e
      obtain ⟨rfl, rfl⟩ := e
      exact hr hl
    · exact h2 b j hl
  · show _root_.Jvm.Pilot.@@N@@.upI I a k z 0 j = _
    rw [upI_ne (by omega)]; exact h10 j hj
  · show _root_.Jvm.Pilot.@@N@@.upI I a k z 1 j = _
    rw [upI_ne (by omega)]; exact h11 j hj
  · show _root_.Jvm.Pilot.@@N@@.upI I a k z 2 j = _
    rw [upI_ne (by omega)]; exact h12 j hj
/-- a field that is a number is set -/
theorem ecl_putI {G : qG} {ad : Nat → Nat} {I : qI} {H : qS} {a j : Nat} {z : Int} (hk : H.2.2.1 a < 11) (ht : ftp (H.2.2.1 a) j = 0) :
    gcl G ad (upI I a j z) H a = .inr (H.2.2.1 a, ((List.range (nfl (H.2.2.1 a))).map (fvl ad I H a (H.2.2.1 a))).set j (.int (Int32.ofInt z))) := by
  unfold gcl ecl
  rw [if_pos hk, range_set]
  congr 2
  apply List.map_congr_left
  intro i _
  by_cases he : i = j
  · subst he
    rw [if_pos rfl]
    unfold fvl
    rw [if_pos ht, upI_eq, if_pos rfl]
  · rw [if_neg he]
    have e : upI I a j z a i = I a i := by rw [upI_eq, if_neg (by omega)]
    simp only [fvl, e]
theorem ecl_putL {G : qG} {ad : Nat → Nat} {I : qI} {H : qS} {a j : Nat} {z : Int} (hk : H.2.2.1 a < 11) (ht : ftp (H.2.2.1 a) j = 2) :
    gcl G ad (upI I a j z) H a = .inr (H.2.2.1 a, ((List.range (nfl (H.2.2.1 a))).map (fvl ad I H a (H.2.2.1 a))).set j (.long (Int64.ofInt z))) := by
  unfold gcl ecl
  rw [if_pos hk, range_set]
  congr 2
  apply List.map_congr_left
  intro i _
  by_cases he : i = j
  · subst he
    rw [if_pos rfl]
    unfold fvl
    rw [if_neg (by omega), if_neg (by omega), upI_eq, if_pos rfl]
  · rw [if_neg he]
    have e : upI I a j z a i = I a i := by rw [upI_eq, if_neg (by omega)]
    simp only [fvl, e]
theorem upR_ne {R : Nat → Int → Option Nat} {a b : Nat} {k : Int} {o : Option Nat} (h : b ≠ a) : upR R a k o b = R b := by
  funext j
  unfold upR
  rw [if_neg (fun q => h q.1)]
theorem upR_eq {R : Nat → Int → Option Nat} {a : Nat} {k j : Int} {o : Option Nat} : upR R a k o a j = if j = k then o else R a j := by
  unfold upR
  simp
theorem ecl_putR {G : qG} {ad : Nat → Nat} {I : qI} {H : qS} {a j : Nat} {o : Option Nat} (hk : H.2.2.1 a < 11) (ht : ftp (H.2.2.1 a) j = 1) :
    gcl G ad I (upR H.1 a j o, H.2) a = .inr (H.2.2.1 a, ((List.range (nfl (H.2.2.1 a))).map (fvl ad I H a (H.2.2.1 a))).set j (va_rf (o.map ad))) := by
  unfold gcl ecl
  rw [if_pos hk, range_set]
  congr 2
  apply List.map_congr_left
  intro i _
  by_cases he : i = j
  · subst he
    rw [if_pos rfl]
    unfold fvl
    dsimp only
    rw [if_neg (by omega), if_pos ht, upR_eq, if_pos rfl]
  · rw [if_neg he]
    have e : upR H.1 a j o a i = H.1 a i := by rw [upR_eq, if_neg (by omega)]
    simp only [fvl, e]
theorem gcl_R {G : qG} {ad : Nat → Nat} {I : qI} {H : qS} {R : Nat → Int → Option Nat} {b : Nat} (h : R b = H.1 b) : gcl G ad I (R, H.2) b = gcl G ad I H b := by
  unfold gcl ecl fvl
  simp only [h]
theorem whp.upR {L : Nat} {xs : Nat → Int32} {I : qI} {H : qS} {a : Nat} {k : Int} {o : Option Nat} (h : whp L xs (I, H)) (ho : ∀ b, o = some b → 3 ≤ b ∧ b < H.2.2.2 + 3 ∧ H.2.2.1 b = fkd (H.2.2.1 a) k) : whp L xs (I, (_root_.Jvm.Pilot.@@N@@.upR H.1 a k o, H.2)) := by
  obtain ⟨h1, h2, h4, h5⟩ := h
  refine ⟨h1, h2, fun b j c h3 hn hb => ?_, h5⟩
  replace hb : (if b = a ∧ j = k then o else H.1 b j) = some c := hb
  by_cases e : b = a ∧ j = k
  · rw [if_pos e] at hb
    obtain ⟨rfl, rfl⟩ := e
    exact ho c hb
  · rw [if_neg e] at hb
    exact h4 b j c h3 hn hb
theorem ecl_putA {G : qG} {ad : Nat → Nat} {I : qI} {H : qS} {a : Nat} {i z : Int} (hk : H.2.2.1 a = 11) (h0 : 0 ≤ i) :
    gcl G ad (upI I a i z) H a = .inl (G.2.1.1, (H.2.1 a).toNat, .inl (upd (fun j : Nat => Int32.ofInt (I a j)) i.toNat (Int32.ofInt z))) := by
  unfold gcl ecl
  rw [if_neg (by omega), if_pos hk]
  congr 4
  funext j
  rw [upI_eq]
  unfold upd
  by_cases he : (j : Int) = i
  · rw [if_pos he, if_pos (by omega)]
  · rw [if_neg he, if_neg (by omega)]
theorem ecl_putJ {G : qG} {ad : Nat → Nat} {I : qI} {H : qS} {a : Nat} {i z : Int} (hk : H.2.2.1 a = 13) (h0 : 0 ≤ i) :
    gcl G ad (upI I a i z) H a = .inl (G.2.1.2.2, (H.2.1 a).toNat, .inr (.inl (vp_updL (fun j : Nat => Int64.ofInt (I a j)) i.toNat (Int64.ofInt z)))) := by
  unfold gcl ecl
  rw [if_neg (by omega), if_neg (by omega), if_neg (by omega)]
  congr 5
  funext j
  rw [upI_eq]
  unfold vp_updL
  by_cases he : (j : Int) = i
  · rw [if_pos he, if_pos (by omega)]
  · rw [if_neg he, if_neg (by omega)]
theorem ecl_putQ {G : qG} {ad : Nat → Nat} {I : qI} {H : qS} {a : Nat} {i : Int} {o : Option Nat} (hk : H.2.2.1 a = 12) (h0 : 0 ≤ i) :
    gcl G ad I (upR H.1 a i o, H.2) a = .inl (G.2.1.2.1, (H.2.1 a).toNat, .inr (.inr (.inr (.inr (va_up (fun j : Nat => (H.1 a j).map ad) i.toNat (o.map ad)))))) := by
  unfold gcl ecl
  rw [if_neg (by show ¬ H.2.2.1 a < 11; omega), if_neg (by show ¬ H.2.2.1 a = 11; omega), if_pos hk]
  congr 7
  funext j
  show Option.map ad (upR H.1 a i o a j) = _
  rw [upR_eq]
  unfold va_up
  by_cases he : (j : Int) = i
  · rw [if_pos he, if_pos (by omega)]
  · rw [if_neg he, if_neg (by omega)]
/-! a new cell -/
theorem pool_new {G : qG} {ad : Nat → Nat} {I I' : qI} {H : qS} {n : Int} {k q : Nat} {L : Nat} {xs : Nat → Int32} (hw : whp L xs (I, H)) (hI : ∀ b, b ≠ H.2.2.2 + 3 → I' b = I b) :
    gpl G (up1 ad (H.2.2.2 + 3) q) (I', nwS H n k) = gpl G ad (I, H) ++ [(q, gcl G (up1 ad (H.2.2.2 + 3) q) I' (nwS H n k) (H.2.2.2 + 3))] := by
  unfold gpl pool
  show (List.range (H.2.2.2 + 1)).map _ = _
  rw [List.range_succ, List.map_append, List.map_singleton]
  congr 1
  · apply List.map_congr_left
    intro i hi
    have hi : i < H.2.2.2 := List.mem_range.mp hi
    have e1 : up1 ad (H.2.2.2 + 3) q (i + 3) = ad (i + 3) := by unfold up1; rw [if_neg (by omega)]
    have e2 : ∀ {α : Type} (f : Nat → α) (v : α), up1 f (H.2.2.2 + 3) v (i + 3) = f (i + 3) := by intro α f v; unfold up1; rw [if_neg (by omega)]
    have e3 : ∀ j, (H.1 (i + 3) j).map (up1 ad (H.2.2.2 + 3) q) = (H.1 (i + 3) j).map ad := by
      intro j
      cases hb : H.1 (i + 3) j with
      | none => rfl
      | some b =>
        have hlt := (hw.2.2.1 (i + 3) j b (by omega) (by show i + 3 < H.2.2.2 + 3; omega) hb).2.1
        have hlt : b < H.2.2.2 + 3 := hlt
        simp only [Option.map_some]
        unfold up1
        rw [if_neg (by omega)]
    rw [e1]
    congr 1
    unfold ecl fvl nwS
    simp only [e2, e3, hI (i + 3) (by omega)]
  · simp [up1]
theorem ext_new {ad : Nat → Nat} {H : qS} {n : Int} {k q : Nat} : ext ad (up1 ad (H.2.2.2 + 3) q) H (nwS H n k) := by
  refine ⟨Nat.le_succ _, fun a ha => ⟨?_, ?_⟩⟩
  · unfold up1; rw [if_neg (by omega)]
  · show up1 H.2.2.1 (H.2.2.2 + 3) k a = _
    unfold up1; rw [if_neg (by omega)]
theorem whp.new {L : Nat} {xs : Nat → Int32} {I : qI} {H : qS} {n : Int} {k : Nat} {f : Int → Int} (h : whp L xs (I, H)) (hn : 0 ≤ n ∧ n ≤ 100000) (hk : k < 14) (hf : ∀ j, inR (f j)) : whp L xs (nwI I H f, nwS H n k) := by
  obtain ⟨h1, h2, h4, h5, h6, h7, h8, h9, h10, h11, h12, h13, h14, h15, h16⟩ := h
  have u : ∀ {α : Type} (f : Nat → α) (v : α) (a : Nat), up1 f (H.2.2.2 + 3) v a = if a = H.2.2.2 + 3 then v else f a := fun f v a => rfl
  refine ⟨fun a j => ?_, fun a j hl => ?_, fun a j b h3 ha hb => ?_, fun a => ?_, fun a => ?_, ?_, ?_, ?_, fun j hj => ?_, fun j hj => ?_, fun j hj => ?_, ?_, ?_, ?_, h16⟩
  · show inL (up1 I (H.2.2.2 + 3) f a j)
    rw [u]; split
    · exact inR_L (hf j)
    · exact h1 a j
  · show inR (up1 I (H.2.2.2 + 3) f a j)
    have hl : lng (up1 H.2.2.1 (H.2.2.2 + 3) k a) j = false := hl
    rw [u] at hl ⊢; split
    · exact hf j
    · rename_i hne
      rw [if_neg hne] at hl
      exact h2 a j hl
  · have hb : up1 H.1 (H.2.2.2 + 3) (fun _ => none) a j = some b := hb
    have ha : a < H.2.2.2 + 1 + 3 := ha
    rw [u] at hb
    split at hb
    · cases hb
    · rename_i hne
      obtain ⟨q1, q2, q3⟩ := h4 a j b h3 (by show a < H.2.2.2 + 3; omega) hb
      have q2 : b < H.2.2.2 + 3 := q2
      refine ⟨q1, by show b < H.2.2.2 + 1 + 3; omega, ?_⟩
      show up1 H.2.2.1 (H.2.2.2 + 3) k b = fkd (up1 H.2.2.1 (H.2.2.2 + 3) k a) j
      rw [u, u, if_neg (by omega), if_neg hne]
      exact q3
  · show 0 ≤ up1 H.2.1 (H.2.2.2 + 3) n a ∧ up1 H.2.1 (H.2.2.2 + 3) n a ≤ 100000
    rw [u]; split
    · exact hn
    · exact h5 a
  · show up1 H.2.2.1 (H.2.2.2 + 3) k a < 14
    rw [u]; split
    · exact hk
    · exact h6 a
  · show up1 H.2.1 (H.2.2.2 + 3) n 0 = 8
    rw [u, if_neg (by omega)]; exact h7
  · show up1 H.2.1 (H.2.2.2 + 3) n 1 = 8
    rw [u, if_neg (by omega)]; exact h8
  · show up1 H.2.1 (H.2.2.2 + 3) n 2 = _
    rw [u, if_neg (by omega)]; exact h9
  · show up1 I (H.2.2.2 + 3) f 0 j = _
    rw [u, if_neg (by omega)]; exact h10 j hj
  · show up1 I (H.2.2.2 + 3) f 1 j = _
    rw [u, if_neg (by omega)]; exact h11 j hj
  · show up1 I (H.2.2.2 + 3) f 2 j = _
    rw [u, if_neg (by omega)]; exact h12 j hj
  · show up1 H.2.2.1 (H.2.2.2 + 3) k 0 = 11
    rw [u, if_neg (by omega)]; exact h13
  · show up1 H.2.2.1 (H.2.2.2 + 3) k 1 = 11
    rw [u, if_neg (by omega)]; exact h14
  · show up1 H.2.2.1 (H.2.2.2 + 3) k 2 = 11
    rw [u, if_neg (by omega)]; exact h15
