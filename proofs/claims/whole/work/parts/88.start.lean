/-! what holds at the entry of the law -/
section START
variable {args : Array Value} {s : State}
abbrev NAR : List Cond := flatC (Jvm.Cond.and given_1 narrow_1)
theorem wn_0 : Cond.instantiable (rx 0) (nfl 0) ∈ BIG := big_of 285 (by decide +kernel) (by decide +kernel)
theorem wn_1 : Cond.instantiable (rx 1) (nfl 1) ∈ BIG := big_of 301 (by decide +kernel) (by decide +kernel)
theorem wn_2 : Cond.instantiable (rx 2) (nfl 2) ∈ BIG := big_of 324 (by decide +kernel) (by decide +kernel)
theorem wn_3 : Cond.instantiable (rx 3) (nfl 3) ∈ BIG := big_of 251 (by decide +kernel) (by decide +kernel)
theorem wn_4 : Cond.instantiable (rx 4) (nfl 4) ∈ BIG := big_of 141 (by decide +kernel) (by decide +kernel)
theorem wn_5 : Cond.instantiable (rx 5) (nfl 5) ∈ BIG := big_of 121 (by decide +kernel) (by decide +kernel)
theorem wn_6 : Cond.instantiable (rx 6) (nfl 6) ∈ BIG := big_of 135 (by decide +kernel) (by decide +kernel)
theorem wn_7 : Cond.instantiable (rx 7) (nfl 7) ∈ BIG := big_of 226 (by decide +kernel) (by decide +kernel)
theorem wn_8 : Cond.instantiable (rx 8) (nfl 8) ∈ BIG := big_of 268 (by decide +kernel) (by decide +kernel)
theorem wn_9 : Cond.instantiable (rx 9) (nfl 9) ∈ BIG := big_of 113 (by decide +kernel) (by decide +kernel)
theorem wn_10 : Cond.instantiable (rx 10) (nfl 10) ∈ BIG := big_of 1404 (by decide +kernel) (by decide +kernel)
theorem wn_at : ∀ k, k < 11 → Cond.instantiable (rx k) (nfl k) ∈ BIG := lt11 wn_0 wn_1 wn_2 wn_3 wn_4 wn_5 wn_6 wn_7 wn_8 wn_9 wn_10
theorem st_D (T : TblOK) (hts : ∀ w ∈ BIG, w.before args s = true) : ∃ D : va_G, ∀ k, k < 11 → u_Kn s (rx k) (tx k) (nfl k) (D.1 k) (D.2 k) := by
  have h : ∀ k, ∃ q : ClassId × (Nat → Nat), k < 11 → u_Kn s (rx k) (tx k) (nfl k) q.1 q.2 := by
    intro k
    by_cases hk : k < 11
    · obtain ⟨cC, iS, h⟩ := u_known (ws := BIG) hts (T.1 k hk) (hts _ (wn_at k hk))
      exact ⟨(cC, iS), fun _ => h⟩
    · obtain ⟨cC, iS, h⟩ := u_known (ws := BIG) hts (T.1 0 (by decide)) (hts _ (wn_at 0 (by decide)))
      exact ⟨(cC, iS), fun q => absurd q hk⟩
  obtain ⟨f, hf⟩ := Classical.axiomOfChoice h
  exact ⟨(fun k => (f k).1, fun k => (f k).2), hf⟩
theorem st_A {ty : FieldType} (h : (Cond.arrayClass ty).before args s = true) : ∃ cA : ClassId, ArrOfT s cA ty ∧ s.vm.findClass ("[" ++ ty.toString) = some cA := by
  obtain ⟨c, k, comp, h1, h2, h3⟩ := Cond.arrayClass_spec (args := args) (first := s) (o := none) (s := s) (idx := []) h
  exact ⟨c, fun n z => ⟨fun k h => (by cases h), k, h2, comp, h3⟩, h1⟩
theorem st_O (h : va_OA s) : ∃ cA : ClassId, ArrOfT s cA (.array .int) ∧ s.vm.findClass ("[" ++ (FieldType.array .int).toString) = some cA := by
  obtain ⟨comp, c, k, h1, h2, h3, h4, h5⟩ := arrayOverA_spec h
  exact ⟨c, fun n z => ⟨fun k h => (by cases h), k, h3, comp, h4⟩, h5⟩
theorem cl_len {c : Nat} {q : vw_C} (h : vwCl[c]? = some q) : c < 11 ∧ q = (rx c, tx c, nfl c) := by
  have hl : c < vwCl.length := (List.getElem?_eq_some_iff.mp h).1
  have h11 : c < 11 := hl
  exact ⟨h11, Option.some.inj (h.symm.trans (cl_at c h11))⟩
theorem st_K (T : TblOK) (hts : ∀ w ∈ BIG, w.before args s = true) (hO : va_OA s) : ∃ (D : va_G) (cI cJ cL : ClassId), va_K D vwCl [(cI, .int), (cJ, .array .int), (cL, .long)] s := by
  obtain ⟨D, hD⟩ := st_D T hts
  obtain ⟨cI, i1, i2⟩ := st_A (hts _ wd_ai)
  obtain ⟨cL, l1, l2⟩ := st_A (hts _ wd_al)
  obtain ⟨cJ, j1, j2⟩ := st_O hO
  refine ⟨D, cI, cJ, cL, fun c q hq => ?_, fun k q hk => ?_⟩
  · obtain ⟨h11, rfl⟩ := cl_len hq
    exact hD c h11
  · match k, hk with
    | 0, hk => cases hk; exact ⟨i1, i2⟩
    | 1, hk => cases hk; exact ⟨j1, j2⟩
    | 2, hk => cases hk; exact ⟨l1, l2⟩
    | k + 3, hk => simp at hk
theorem st_Nw (hT : ∀ w ∈ LWT, w.before args s = true) : NwA s := by
  have h : ∀ (i : Nat) (w : Cond), LWT[i]? = some w → w.onTables = true → va_Nw w s := fun i w q ho => va_Nw.of ho (hT w (List.mem_of_getElem? q))
  exact List.forall_mem_cons.mpr ⟨h 884 _ (by decide +kernel) rfl, List.forall_mem_cons.mpr ⟨h 886 _ (by decide +kernel) rfl, List.forall_mem_cons.mpr ⟨h 888 _ (by decide +kernel) rfl, List.forall_mem_cons.mpr ⟨h 883 _ (by decide +kernel) rfl, List.forall_mem_cons.mpr ⟨h 1026 _ (by decide +kernel) rfl, List.forall_mem_cons.mpr ⟨h 951 _ (by decide +kernel) rfl, List.forall_mem_cons.mpr ⟨h 1053 _ (by decide +kernel) rfl, fun _ q => nomatch q⟩⟩⟩⟩⟩⟩⟩
theorem st_Nc (hN : ∀ w ∈ NAR, w.before args s = true) : NcA s := by
  have h : ∀ i j, i < 4 → j < 4 → i ≠ j → Cond.not (.castable (exN i) (exN j)) ∈ NAR := by
    intro i j hi hj hij
    match i, j, hi, hj, hij with
    | 0, 0, _, _, h => exact absurd rfl h
    | 0, 1, _, _, h => exact List.mem_of_elem_eq_true (by decide +kernel)
    | 0, 2, _, _, h => exact List.mem_of_elem_eq_true (by decide +kernel)
    | 0, 3, _, _, h => exact List.mem_of_elem_eq_true (by decide +kernel)
    | 1, 0, _, _, h => exact List.mem_of_elem_eq_true (by decide +kernel)
    | 1, 1, _, _, h => exact absurd rfl h
    | 1, 2, _, _, h => exact List.mem_of_elem_eq_true (by decide +kernel)
    | 1, 3, _, _, h => exact List.mem_of_elem_eq_true (by decide +kernel)
    | 2, 0, _, _, h => exact List.mem_of_elem_eq_true (by decide +kernel)
    | 2, 1, _, _, h => exact List.mem_of_elem_eq_true (by decide +kernel)
    | 2, 2, _, _, h => exact absurd rfl h
    | 2, 3, _, _, h => exact List.mem_of_elem_eq_true (by decide +kernel)
    | 3, 0, _, _, h => exact List.mem_of_elem_eq_true (by decide +kernel)
    | 3, 1, _, _, h => exact List.mem_of_elem_eq_true (by decide +kernel)
    | 3, 2, _, _, h => exact List.mem_of_elem_eq_true (by decide +kernel)
    | 3, 3, _, _, h => exact absurd rfl h
    | i + 4, _, h, _, _ => omega
    | _, j + 4, _, h, _ => omega
  exact fun i j hi hj hij => va_Nc.of (hN _ (h i j hi hj hij))
theorem st_O9 (hT : ∀ w ∈ LWT, w.before args s = true) : va_OA s := hT (Cond.arrayOver (.array .int)) (List.mem_of_getElem? (i := 163) (by decide +kernel))
abbrev tmX : Term := .static "PlateTown$Plate" "STEPS_X" "[I"
abbrev tmY : Term := .static "PlateTown$Plate" "STEPS_Y" "[I"
theorem nr_X : ((NAR.contains (.arrayOf tmX .int) && NAR.contains (.eq (.length tmX) (.int (Int32.ofNat 8)))) && (List.range 8).all (fun j => NAR.contains (.eq (.elem tmX (.int (Int32.ofNat j))) (.int (Int32.ofInt (stX j)))))) = true := by decide +kernel
theorem nr_Y : ((NAR.contains (.arrayOf tmY .int) && NAR.contains (.eq (.length tmY) (.int (Int32.ofNat 8)))) && (List.range 8).all (fun j => NAR.contains (.eq (.elem tmY (.int (Int32.ofNat j))) (.int (Int32.ofInt (stY j)))))) = true := by decide +kernel
theorem wp_i : Cond.initialized "PlateTown$Plate" ∈ BIG := big_of 102 (by decide +kernel) (by decide +kernel)
theorem wq_i : Cond.initialized "java/lang/Throwable" ∈ BIG := big_of 103 (by decide +kernel) (by decide +kernel)
theorem st_X (hN : ∀ w ∈ NAR, w.before args s = true) (hT : ∀ w ∈ LWT, w.before args s = true) (hts : ∀ w ∈ BIG, w.before args s = true) : ∃ t : Nat, va_Z "PlateTown$Plate" "STEPS_X" "[I" (.ref t) (fun q => s.heap.size ≤ q) s s.heap ∧ va_T .int t 8 (fun j => .int (Int32.ofInt (stX j))) (fun q => s.heap.size ≤ q) s s.heap := by
  have hA : ∀ a : Nat, a < s.heap.size → ¬ s.heap.size ≤ a := fun a h => by omega
  have h := nr_X
  simp only [Bool.and_eq_true] at h
  obtain ⟨⟨h1, h2⟩, h3⟩ := h
  obtain ⟨t, ht, hTT⟩ := va_Tof (f := fun j => .int (Int32.ofInt (stX j))) (A := fun q => s.heap.size ≤ q) (by decide) (hN _ (List.mem_of_elem_eq_true h1)) (va_eqt (hN _ (List.mem_of_elem_eq_true h2))) (fun j hj => va_eqt (hN _ (List.mem_of_elem_eq_true (List.all_eq_true.mp h3 j (List.mem_range.mpr hj))))) hA
  exact ⟨t, va_Zof (hT _ (List.mem_of_getElem? (i := 561) (by decide +kernel))) (hts _ wp_i) ht hA, hTT⟩
theorem st_Y (hN : ∀ w ∈ NAR, w.before args s = true) (hT : ∀ w ∈ LWT, w.before args s = true) (hts : ∀ w ∈ BIG, w.before args s = true) : ∃ t : Nat, va_Z "PlateTown$Plate" "STEPS_Y" "[I" (.ref t) (fun q => s.heap.size ≤ q) s s.heap ∧ va_T .int t 8 (fun j => .int (Int32.ofInt (stY j))) (fun q => s.heap.size ≤ q) s s.heap := by
  have hA : ∀ a : Nat, a < s.heap.size → ¬ s.heap.size ≤ a := fun a h => by omega
  have h := nr_Y
  simp only [Bool.and_eq_true] at h
  obtain ⟨⟨h1, h2⟩, h3⟩ := h
  obtain ⟨t, ht, hTT⟩ := va_Tof (f := fun j => .int (Int32.ofInt (stY j))) (A := fun q => s.heap.size ≤ q) (by decide) (hN _ (List.mem_of_elem_eq_true h1)) (va_eqt (hN _ (List.mem_of_elem_eq_true h2))) (fun j hj => va_eqt (hN _ (List.mem_of_elem_eq_true (List.all_eq_true.mp h3 j (List.mem_range.mpr hj))))) hA
  exact ⟨t, va_Zof (hT _ (List.mem_of_getElem? (i := 566) (by decide +kernel))) (hts _ wp_i) ht hA, hTT⟩
theorem nr_S : (NAR.contains (.eq (.static "java/lang/String" "COMPACT_STRINGS" "Z") (.int 1)) && (NAR.contains (.isRef (.static "jdk/internal/util/Preconditions" "SIOOBE_FORMATTER" "Ljava/util/function/BiFunction;")) && (NAR.contains (.isRef (.static Bundle.tN "UNASSIGNED_STACK" Bundle.steD)) && NAR.contains (.isRef (.static Bundle.tN "SUPPRESSED_SENTINEL" Bundle.listD))))) = true := by decide +kernel
theorem st_S (hN : ∀ w ∈ NAR, w.before args s = true) (hT : ∀ w ∈ LWT, w.before args s = true) (hts : ∀ w ∈ BIG, w.before args s = true) : (va_Z "java/lang/String" "COMPACT_STRINGS" "Z" (.int 1) (fun q => s.heap.size ≤ q) s s.heap ∧ va_Zq "jdk/internal/util/Preconditions" "SIOOBE_FORMATTER" "Ljava/util/function/BiFunction;" (fun q => s.heap.size ≤ q) s s.heap) ∧ (vx_Zq Bundle.tN "UNASSIGNED_STACK" Bundle.steD (fun q => s.heap.size ≤ q) s s.heap ∧ vx_Zq Bundle.tN "SUPPRESSED_SENTINEL" Bundle.listD (fun q => s.heap.size ≤ q) s s.heap) := by
  have hA : ∀ a : Nat, a < s.heap.size → ¬ s.heap.size ≤ a := fun a h => by omega
  have h := nr_S
  simp only [Bool.and_eq_true] at h
  obtain ⟨h1, h2, h3, h4⟩ := h
  exact ⟨⟨va_Zof (hT _ (List.mem_of_getElem? (i := 692) (by decide +kernel))) (hts _ wi_S) (va_eqt (hN _ (List.mem_of_elem_eq_true h1))) hA, va_Zqof (hT _ (List.mem_of_getElem? (i := 708) (by decide +kernel))) (hts _ wi_P) (hN _ (List.mem_of_elem_eq_true h2)) hA⟩,
    vx_Zqof (hT _ (List.mem_of_getElem? (i := 908) (by decide +kernel))) (hts _ wq_i) (hN _ (List.mem_of_elem_eq_true h3)) hA, vx_Zqof (hT _ (List.mem_of_getElem? (i := 910) (by decide +kernel))) (hts _ wq_i) (hN _ (List.mem_of_elem_eq_true h4)) hA⟩
abbrev tmS (i : Nat) : Term := .string (cnm (sln i).1) (sln i).2
abbrev tmV (i : Nat) : Term := .field (tmS i) "java/lang/String" "value" "[B"
def subs (l : List Cond) (y : Cond) : List Cond := match l with
  | [] => []
  | x :: xs => bif x == y then xs else x :: xs
def subl (m l : List Cond) : Bool := (m.foldl subs l).isEmpty
theorem subl_mem : ∀ (m : List Cond) {l : List Cond}, subl m l = true → ∀ w ∈ l, w ∈ m
  | [], l, h, w, hw => by
    have h0 : l = [] := List.isEmpty_iff.mp h
    subst h0
    cases hw
  | y :: ys, [], _, w, hw => by cases hw
  | y :: ys, x :: xs, h, w, hw => by
    have h : subl ys (bif x == y then xs else x :: xs) = true := h
    cases e : x == y with
    | true =>
      rw [e] at h
      rcases List.mem_cons.mp hw with rfl | hw
      · rw [eq_of_beq e]; exact List.mem_cons_self
      · exact List.mem_cons_of_mem _ (subl_mem ys h w hw)
    | false =>
      rw [e] at h
      exact List.mem_cons_of_mem _ (subl_mem ys h w hw)
def wStr (i : Nat) : List Cond := [.exactly (tmS i) "java/lang/String", .eq (.field (tmS i) "java/lang/String" "coder" "B") (.int 0), .arrayOf (tmV i) .byte, .eq (.length (tmV i)) (.int (Int32.ofNat (slnL.getD i 0)))] ++ (List.range (slnL.getD i 0)).map (fun j => .eq (.elem (tmV i) (.int (Int32.ofNat j))) (.int ((sbyL.getD i []).getD j 0)))
def nrs (i : Nat) : Bool := subl NAR (wStr i) && LWT.contains (.stringRef (cnm (sln i).1) (sln i).2 (stx i))
theorem nrs_0 : nrs 0 = true := by decide +kernel
theorem nrs_1 : (List.range' 1 15).all nrs = true := by decide +kernel
theorem nrs_2 : (List.range' 16 20).all (fun i => !(Nat.blt i nstr) || nrs i) = true := by decide +kernel
theorem nrs_at {i : Nat} (hi : i < nstr) : nrs i = true := by
  by_cases h0 : i = 0
  · subst h0; exact nrs_0
  by_cases h1 : i < 16
  · exact List.all_eq_true.mp nrs_1 i (List.mem_range'_1.mpr ⟨by omega, by omega⟩)
  · have h9 : nstr ≤ 36 := by decide
    have h2 := List.all_eq_true.mp nrs_2 i (List.mem_range'_1.mpr ⟨by omega, by omega⟩)
    rw [Bool.or_eq_true] at h2
    rcases h2 with h2 | h2
    · have h3 : Nat.blt i nstr = true := Nat.ble_eq_true_of_le hi
      rw [h3] at h2
      cases h2
    · exact h2
theorem st_T (hN : ∀ w ∈ NAR, w.before args s = true) (hT : ∀ w ∈ LWT, w.before args s = true) : ∃ ad : Nat → Nat × Nat, ∀ i, i < nstr → vk_S 1 [slnL.getD i 0] [sbyL.getD i []] (fun _ => (ad i).1) (fun _ => (ad i).2) (fun q => s.heap.size ≤ q) s s.heap ∧ vk_R (cnm (sln i).1) (sln i).2 (stx i) (ad i).1 s := by
  have hA : ∀ a : Nat, a < s.heap.size → ¬ s.heap.size ≤ a := fun a h => by omega
  have key : ∀ i, ∃ q : Nat × Nat, i < nstr → vk_S 1 [slnL.getD i 0] [sbyL.getD i []] (fun _ => q.1) (fun _ => q.2) (fun q => s.heap.size ≤ q) s s.heap ∧ vk_R (cnm (sln i).1) (sln i).2 (stx i) q.1 s := by
    intro i
    by_cases hi : i < nstr
    · have h := nrs_at hi
      unfold nrs at h
      rw [Bool.and_eq_true] at h
      obtain ⟨h, h6⟩ := h
      have hm := subl_mem _ h
      have h1 : Cond.exactly (tmS i) "java/lang/String" ∈ NAR := hm _ (by unfold wStr; simp)
      have h2 : Cond.eq (.field (tmS i) "java/lang/String" "coder" "B") (.int 0) ∈ NAR := hm _ (by unfold wStr; simp)
      have h3 : Cond.arrayOf (tmV i) .byte ∈ NAR := hm _ (by unfold wStr; simp)
      have h4 : Cond.eq (.length (tmV i)) (.int (Int32.ofNat (slnL.getD i 0))) ∈ NAR := hm _ (by unfold wStr; simp)
      have h5 : ∀ j, j < slnL.getD i 0 → Cond.eq (.elem (tmV i) (.int (Int32.ofNat j))) (.int ((sbyL.getD i []).getD j 0)) ∈ NAR := fun j hj => hm _ (List.mem_append_right _ (List.mem_map.mpr ⟨j, List.mem_range.mpr hj, rfl⟩))
      have hz : ∀ k : Nat, k < 1 → k = 0 := fun k hk => by omega
      obtain ⟨adK, adV, ⟨g1, g2⟩, g3⟩ := vk_Sof (args := args) (s := s) (N := 1) (tm := fun _ => tmS i) (len := [slnL.getD i 0]) (byt := [sbyL.getD i []]) (A := fun q => s.heap.size ≤ q)
        (fun k hk => by rw [hz k hk]; show slnL.getD i 0 < 2 ^ 31; rw [slnL_at hi]; have := (sl_at hi).1; omega) (fun k hk => hN _ h1) (fun k hk => hN _ h2) (fun k hk => hN _ h3)
        (fun k hk => by rw [hz k hk]; exact hN _ h4) (fun k hk j hj => by rw [hz k hk] at hj ⊢; exact hN _ (h5 j hj)) (fun a b ha hb hab => absurd ((hz a ha).trans (hz b hb).symm) hab) hA
      refine ⟨(adK 0, adV 0), fun _ => ⟨⟨fun k hk => ?_, fun a b ha hb _ => (hz a ha).trans (hz b hb).symm⟩, vk_R.of (hT _ (List.mem_of_elem_eq_true h6)) (g3 0 (by omega))⟩⟩
      rw [hz k hk]
      exact g1 0 (by omega)
    · exact ⟨(0, 0), fun q => absurd q hi⟩
  obtain ⟨f, hf⟩ := Classical.axiomOfChoice key
  exact ⟨f, hf⟩
end START
