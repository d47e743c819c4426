/-! what holds at the entry of the law -/
section START
variable {args : Array Value} {s : State}
abbrev NAR : List Cond := flatC (Jvm.Cond.and given_1 narrow_1)
theorem wn_0 : Cond.instantiable (rx 0) (nfl 0) ∈ BIG := big_of 285 (by decide +kernel) (by decide +kernel)
theorem wn_1 : Cond.instantiable (rx 1) (nfl 1) ∈ BIG := big_of 301 (by decide +kernel) (by decide +kernel)
theorem wn_2 : Cond.instantiable (rx 2) (nfl 2) ∈ BIG := big_of 324 (by decide +kernel) (by decide +kernel)
theorem wn_3 : Cond.instantiable (rx 3) (nfl 3) ∈ BIG := big_of 251 (by decide +kernel) (by decide +kernel)
theorem wn_4 : Cond.instantiable (rx 4) (nfl 4) ∈ BIG := big_of 141 (by decide +kernel) (by decide +kernel)
theorem wn_5 : Cond.instantiable (rx 5) (nfl 5) ∈ BIG := big_of 121 (by decide +kernel) (by decide +kernel)
theorem wn_6 : Cond.instantiable (rx 6) (nfl 6) ∈ BIG := big_of 135 (by decide +kernel) (by decide +kernel)
theorem wn_7 : Cond.instantiable (rx 7) (nfl 7) ∈ BIG := big_of 226 (by decide +kernel) (by decide +kernel)
theorem wn_8 : Cond.instantiable (rx 8) (nfl 8) ∈ BIG := big_of 268 (by decide +kernel) (by decide +kernel)
theorem wn_9 : Cond.instantiable (rx 9) (nfl 9) ∈ BIG := big_of 113 (by decide +kernel) (by decide +kernel)
theorem wn_10 : Cond.instantiable (rx 10) (nfl 10) ∈ BIG := big_of 1404 (by decide +kernel) (by decide +kernel)
theorem wn_at : ∀ k, k < 11 → Cond.instantiable (rx k) (nfl k) ∈ BIG := lt11 wn_0 wn_1 wn_2 wn_3 wn_4 wn_5 wn_6 wn_7 wn_8 wn_9 wn_10
theorem st_D (T : TblOK) (hts : ∀ w ∈ BIG, w.before args s = true) : ∃ D : va_G, ∀ k, k < 11 → u_Kn s (rx k) (tx k) (nfl k) (D.1 k) (D.2 k) := by
  have h : ∀ k, ∃ q : ClassId × (Nat → Nat), k < 11 → u_Kn s (rx k) (tx k) (nfl k) q.1 q.2 := by
    intro k
    by_cases hk : k < 11
    · obtain ⟨cC, iS, h⟩ := u_known (ws := BIG) hts (T.1 k hk) (hts _ (wn_at k hk))
      exact ⟨(cC, iS), fun _ => h⟩
    · obtain ⟨cC, iS, h⟩ := u_known (ws := BIG) hts (T.1 0 (by decide)) (hts _ (wn_at 0 (by decide)))
      exact ⟨(cC, iS), fun q => absurd q hk⟩
  obtain ⟨f, hf⟩ := Classical.axiomOfChoice h
  exact ⟨(fun k => (f k).1, fun k => (f k).2), hf⟩
theorem st_A {ty : FieldType} (h : (Cond.arrayClass ty).before args s = true) : ∃ cA : ClassId, ArrOfT s cA ty ∧ s.vm.findClass ("[" ++ ty.toString) = some cA := by
  obtain ⟨c, k, comp, h1, h2, h3⟩ := Cond.arrayClass_spec (args := args) (first := s) (o := none) (s := s) (idx := []) h
  exact ⟨c, fun n z => ⟨fun k h => (by cases h), k, h2, comp, h3⟩, h1⟩
theorem st_O (h : va_OA s) : ∃ cA : ClassId, ArrOfT s cA (.array .int) ∧ s.vm.findClass ("[" ++ (FieldType.array .int).toString) = some cA := by
  obtain ⟨comp, c, k, h1, h2, h3, h4, h5⟩ := arrayOverA_spec h
  exact ⟨c, fun n z => ⟨fun k h => (by cases h), k, h3, comp, h4⟩, h5⟩
theorem cl_len {c : Nat} {q : vw_C} (h : vwCl[c]? = some q) : c < 11 ∧ q = (rx c, tx c, nfl c) := by
  have hl : c < vwCl.length := (List.getElem?_eq_some_iff.mp h).1
  have h11 : c < 11 := hl
  exact ⟨h11, Option.some.inj (h.symm.trans (cl_at c h11))⟩
theorem st_K (T : TblOK) (hts : ∀ w ∈ BIG, w.before args s = true) (hO : va_OA s) : ∃ (D : va_G) (cI cJ cL : ClassId), va_K D vwCl [(cI, .int), (cJ, .array .int), (cL, .long)] s := by
  obtain ⟨D, hD⟩ := st_D T hts
  obtain ⟨cI, i1, i2⟩ := st_A (hts _ wd_ai)
  obtain ⟨cL, l1, l2⟩ := st_A (hts _ wd_al)
  obtain ⟨cJ, j1, j2⟩ := st_O hO
  refine ⟨D, cI, cJ, cL, fun c q hq => ?_, fun k q hk => ?_⟩
  · obtain ⟨h11, rfl⟩ := cl_len hq
    exact hD c h11
  · match k, hk with
    | 0, hk => cases hk; exact ⟨i1, i2⟩
    | 1, hk => cases hk; exact ⟨j1, j2⟩
    | 2, hk => cases hk; exact ⟨l1, l2⟩
    | k + 3, hk => simp at hk
theorem st_Nw (hT : ∀ w ∈ LWT, w.before args s = true) : NwA s := by
  have h : ∀ (i : Nat) (w : Cond), LWT[i]? = some w → w.onTables = true → va_Nw w s := fun i w q ho => va_Nw.of ho (hT w (List.mem_of_getElem? q))
  exact List.forall_mem_cons.mpr ⟨h 884 _ (by decide +kernel) rfl, List.forall_mem_cons.mpr ⟨h 886 _ (by decide +kernel) rfl, List.forall_mem_cons.mpr ⟨h 888 _ (by decide +kernel) rfl, List.forall_mem_cons.mpr ⟨h 883 _ (by decide +kernel) rfl, List.forall_mem_cons.mpr ⟨h 1026 _ (by decide +kernel) rfl, List.forall_mem_cons.mpr ⟨h 951 _ (by decide +kernel) rfl, List.forall_mem_cons.mpr ⟨h 1053 _ (by decide +kernel) rfl, fun _ q => nomatch q⟩⟩⟩⟩⟩⟩⟩
theorem st_Nc (hN : ∀ w ∈ NAR, w.before args s = true) : NcA s := by
  have h : ∀ i j, i < 4 → j < 4 → i ≠ j → Cond.not (.castable (exN i) (exN j)) ∈ NAR := by
    intro i j hi hj hij
    match i, j, hi, hj, hij with
    | 0, 0, _, _, h => exact absurd rfl h
    | 0, 1, _, _, h => exact List.mem_of_elem_eq_true (by decide +kernel)
    | 0, 2, _, _, h => exact List.mem_of_elem_eq_true (by decide +kernel)
    | 0, 3, _, _, h => exact List.mem_of_elem_eq_true (by decide +kernel)
    | 1, 0, _, _, h => exact List.mem_of_elem_eq_true (by decide +kernel)
    | 1, 1, _, _, h => exact absurd rfl h
    | 1, 2, _, _, h => exact List.mem_of_elem_eq_true (by decide +kernel)
    | 1, 3, _, _, h => exact List.mem_of_elem_eq_true (by decide +kernel)
    | 2, 0, _, _, h => exact List.mem_of_elem_eq_true (by decide +kernel)
    | 2, 1, _, _, h => exact List.mem_of_elem_eq_true (by decide +kernel)
    | 2, 2, _, _, h => exact absurd rfl h
    | 2, 3, _, _, h => exact List.mem_of_elem_eq_true (by decide +kernel)
    | 3, 0, _, _, h => exact List.mem_of_elem_eq_true (by decide +kernel)
    | 3, 1, _, _, h => exact List.mem_of_elem_eq_true (by decide +kernel)
    | 3, 2, _, _, h => exact List.mem_of_elem_eq_true (by decide +kernel)
    | 3, 3, _, _, h => exact absurd rfl h
    | i + 4, _, h, _, _ => omega
    | _, j + 4, _, h, _ => omega
  exact fun i j hi hj hij => va_Nc.of (hN _ (h i j hi hj hij))
end START
