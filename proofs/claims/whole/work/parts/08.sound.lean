/-! where a method stands; what its steps do: locals, numbers, branches -/
def stx : Nat → String := fun k => ["house window start rate bar sea gusts wind calm pay less void if or and not year light height turn level noon frost windy go north east south west ", "house", "window", "start", "rate", "bar", "sea", "gusts", "wind", "calm", "year", "light", "height", "turn", "level", "noon", "frost", "windy", "not", "and", "or", "void", "pay", "less", "if", "go", "north", "east", "south", "west"].getD k ""
def slnL : List Nat := (List.range nstr).map (fun k => (slen k).toNat)
def sbyL : List (List Int32) := (List.range nstr).map (fun k => (sbyt k).map Int32.ofInt)
def va_OA (U : State) : Prop := (Cond.arrayOver (.array .int)).before #[] U = true
theorem va_OA.moved {u U : State} (hvm : u.vm.Alike U.vm) (h : va_OA u) : va_OA U := by
  obtain ⟨comp, c, k, h1, h2, h3, h4, h5⟩ := arrayOverA_spec h
  obtain ⟨k', hk', he⟩ := hvm.2.2 _ _ h3
  have hi : (U.vm.classes.findIdx? fun (x : Class) => match x.kind with | .array component _ => component == comp | _ => false) = some c := by
    refine (va_idx_bare U.vm comp).symm.trans ?_
    first | rw [hvm.bare_eq] | rw [← hvm.bare_eq]
    exact (va_idx_bare u.vm comp).trans h2
  have hkind : k'.kind = .array comp (.array .int) := by rw [he]; exact h4
  have f1 : U.vm.findClass (FieldType.array .int).toString = some comp := by rw [hvm.findClass]; exact h1
  have f2 : U.vm.findClass ("[" ++ (FieldType.array .int).toString) = some c := by rw [hvm.findClass]; exact h5
  unfold va_OA Cond.before Cond.holds
  simp only [Cond.value]
  rw [f1, Option.bind_some]
  refine (congrArg (fun o : Option Nat => (o.bind (fun c => (U.vm.classes[c]?).map fun (k : Class) => match k.kind with | .array _ ty => decide (ty = FieldType.array .int) && decide (U.vm.findClass ("[" ++ (FieldType.array .int).toString) = some c) | _ => false) == some true)) hi).trans ?_
  simp [hk', hkind, f2]
def dRL : Cond := .declares ⟨"PlateTown$Text", "readLine", "()Z"⟩
/-- the exceptions, by number -/
def exN : Nat → String
  | 0 => "java/lang/IllegalArgumentException"
  | 1 => "java/lang/IndexOutOfBoundsException"
  | 2 => "java/lang/UnsupportedOperationException"
  | _ => "java/util/NoSuchElementException"
def nwL : List Cond := [.declares ⟨"java/lang/RuntimeException", "<init>", "()V"⟩, .declares ⟨"java/lang/Exception", "<init>", "()V"⟩, .declares ⟨"java/lang/Throwable", "<init>", "()V"⟩, .castable (exN 0) (exN 0), .castable (exN 1) (exN 1), .castable (exN 2) (exN 2), .castable (exN 3) (exN 3)]
def NwA (s : State) : Prop := ∀ w ∈ nwL, va_Nw w s
theorem NwA.next {s U : State} (h : NwA s) (hW : s.WarmedH U.vm) : NwA U := by
  obtain ⟨h1, h⟩ := List.forall_mem_cons.mp h
  obtain ⟨h2, h⟩ := List.forall_mem_cons.mp h
  obtain ⟨h3, h⟩ := List.forall_mem_cons.mp h
  obtain ⟨h4, h⟩ := List.forall_mem_cons.mp h
  obtain ⟨h5, h⟩ := List.forall_mem_cons.mp h
  obtain ⟨h6, h⟩ := List.forall_mem_cons.mp h
  obtain ⟨h7, h⟩ := List.forall_mem_cons.mp h
  exact List.forall_mem_cons.mpr ⟨va_Nw.warmD hW h1, List.forall_mem_cons.mpr ⟨va_Nw.warmD hW h2, List.forall_mem_cons.mpr ⟨va_Nw.warmD hW h3, List.forall_mem_cons.mpr ⟨va_Nw.warmC hW h4, List.forall_mem_cons.mpr ⟨va_Nw.warmC hW h5, List.forall_mem_cons.mpr ⟨va_Nw.warmC hW h6, List.forall_mem_cons.mpr ⟨va_Nw.warmC hW h7, fun _ q => nomatch q⟩⟩⟩⟩⟩⟩⟩
def NcA (s : State) : Prop := ∀ i j, i < 4 → j < 4 → i ≠ j → va_Nc (exN i) (exN j) s
/-- what holds of a state behind the launch: classes, static rows, the script, texts -/
def Sta (G : qG) (s : State) : Prop :=
  va_K G.1 vwCl [(G.2.1.1, .int), (G.2.1.2.1, .array .int), (G.2.1.2.2, .long)] s ∧
  (va_Z "PlateTown$Plate" "STEPS_X" "[I" (.ref (G.2.2.2.2.2.1 0)) (gA G) s s.heap ∧ va_T .int (G.2.2.2.2.2.1 0) 8 (fun j => .int (Int32.ofInt (stX j))) (gA G) s s.heap) ∧
  (va_Z "PlateTown$Plate" "STEPS_Y" "[I" (.ref (G.2.2.2.2.2.1 1)) (gA G) s s.heap ∧ va_T .int (G.2.2.2.2.2.1 1) 8 (fun j => .int (Int32.ofInt (stY j))) (gA G) s s.heap) ∧
  (va_X (G.2.2.2.2.2.1 2) G.2.2.2.1 G.2.2.2.2.1 s s.heap ∧ G.2.2.2.2.2.1 2 < s.heap.size ∧ ¬ gA G (G.2.2.2.2.2.1 2)) ∧
  ((∀ i, i < nstr → vk_S 1 [slnL.getD i 0] [sbyL.getD i []] (fun _ => G.2.2.2.2.2.2.1 i) (fun _ => G.2.2.2.2.2.2.2.1 i) (gA G) s s.heap) ∧ ∀ i, i < nstr → vk_R (cnm (sln i).1) (sln i).2 (stx i) (G.2.2.2.2.2.2.1 i) s) ∧
  (va_Z "java/lang/String" "COMPACT_STRINGS" "Z" (.int 1) (gA G) s s.heap ∧ va_Zq "jdk/internal/util/Preconditions" "SIOOBE_FORMATTER" "Ljava/util/function/BiFunction;" (gA G) s s.heap) ∧
  (vx_Zq Bundle.tN "UNASSIGNED_STACK" Bundle.steD (gA G) s s.heap ∧ vx_Zq Bundle.tN "SUPPRESSED_SENTINEL" Bundle.listD (gA G) s s.heap) ∧
  (va_Nw dRL s ∧ NwA s ∧ NcA s) ∧ va_OA s
theorem Sta.next {G : qG} {s U : State} {H : Heap} {locs : List Loc} (h : Sta G s) (hS : va_S (gA G) s.heap H locs) (hU : U.heap = H) (hW : s.WarmedH U.vm) : Sta G U := by
  obtain ⟨h1, ⟨h2, h3⟩, ⟨h4, h5⟩, ⟨h6, h7, h8⟩, ⟨h9, h10⟩, ⟨h11, h18⟩, ⟨h12, h13⟩, ⟨h14, h16, h17⟩, h15⟩ := h
  subst hU
  exact ⟨h1.moved hW.alike, ⟨(h2.kept hS.2.1).moved hW.alike, (h3.kept hS.2.1).moved hW.alike⟩, ⟨(h4.kept hS.2.1).moved hW.alike, (h5.kept hS.2.1).moved hW.alike⟩,
    ⟨(h6.kept (hS.2.1 _ h7 h8)).moved hW.alike, Nat.lt_of_lt_of_le h7 hS.1, h8⟩, ⟨fun i hi => ((h9 i hi).kept hS.2.1).moved hW.alike, fun i hi => (h10 i hi).warm hW⟩, ⟨(h11.kept hS.2.1).moved hW.alike, (h18.kept hS.2.1).moved hW.alike⟩,
    ⟨(h12.kept hS.2.1).moved hW.alike, (h13.kept hS.2.1).moved hW.alike⟩, ⟨va_Nw.warmD hW h14, h16.next hW, fun i j hi hj hij => (h17 i j hi hj hij).moved hW.alike⟩, h15.moved hW.alike⟩
theorem Sta.same {G : qG} {u U : State} (h : Sta G u) (hv : U.vm = u.vm) (hh : U.heap = u.heap) : Sta G U :=
  h.next va_S.rf hh (by rw [hv]; exact State.WarmedH.refl u)
/-- the locals that are known, as the kit lists them -/
def lvl (G : qG) (ad : Nat → Nat) (L : List (Option qV)) : List (Nat × Value) := (List.range L.length).filterMap (fun i => (L.getD i none).map (fun v => (i, gcv G ad v)))
theorem getD_lt {α : Type} {L : List (Option α)} {i : Nat} {v : α} (h : L.getD i none = some v) : i < L.length := by
  rcases Nat.lt_or_ge i L.length with q | q
  · exact q
  · rw [List.getD_eq_getElem?_getD, List.getElem?_eq_none q] at h
    cases h
theorem lvl_mem {G : qG} {ad : Nat → Nat} {L : List (Option qV)} {i : Nat} {w : Value} : (i, w) ∈ lvl G ad L ↔ ∃ v, L.getD i none = some v ∧ w = gcv G ad v := by
  unfold lvl
  rw [List.mem_filterMap]
  constructor
  · rintro ⟨j, -, hj⟩
    cases hv : L.getD j none with
    | none => rw [hv] at hj; cases hj
    | some v =>
      rw [hv] at hj
      cases hj
      exact ⟨v, hv, rfl⟩
  · rintro ⟨v, hv, rfl⟩
    exact ⟨i, List.mem_range.mpr (getD_lt hv), by rw [hv]; rfl⟩
theorem lv_weak {ls : Array Slot} {n : Nat} {l l' : List (Nat × Value)} (h : lv_has ls n l) (hw : ∀ q ∈ l', q ∈ l) : lv_has ls n l' := ⟨h.1, h.2.1, fun q hq => h.2.2 q (hw q hq)⟩
theorem lvl_at {G : qG} {ad : Nat → Nat} {L : List (Option qV)} {ls : Array Slot} {n i : Nat} {v : qV} (h : lv_has ls n (lvl G ad L)) (hv : L.getD i none = some v) : ls[i]? = some (.val (gcv G ad v)) := h.2.2 _ (lvl_mem.mpr ⟨v, hv, rfl⟩)
theorem getD_set {L : List (Option qV)} {i j : Nat} {o : Option qV} {v : qV} (h : (L.set i o).getD j none = some v) : (j = i ∧ o = some v) ∨ (j ≠ i ∧ L.getD j none = some v) := by
  rw [List.getD_eq_getElem?_getD, List.getElem?_set] at h
  by_cases hij : i = j
  · subst hij
    rw [if_pos rfl] at h
    split at h
    · exact Or.inl ⟨rfl, h⟩
    · cases h
  · rw [if_neg hij] at h
    exact Or.inr ⟨fun q => hij q.symm, by rw [List.getD_eq_getElem?_getD]; exact h⟩
theorem lnl_no {L : List (Option qV)} {p j : Nat} {v : qV} (h : lnl L p = true) (hv : L.getD j none = some v) (hj : j + 1 = p) : ∀ z, v ≠ vl z := by
  subst hj
  rintro z rfl
  unfold lnl at h
  dsimp only at h
  rw [hv] at h
  cases h
theorem lvl_set1 {G : qG} {ad : Nat → Nat} {L : List (Option qV)} {ls : Array Slot} {n i : Nat} {v : qV} (hn : lnl L i = true)
    (h : lv_has ls n ((i, gcv G ad v) :: (lvl G ad L).filter (fun q => !(q.1 == i) && !(q.1 + 1 == i && q.2.category == 2)))) : lv_has ls n (lvl G ad (lst L i v)) := by
  refine lv_weak h ?_
  rintro ⟨j, w⟩ hq
  obtain ⟨u, hu, rfl⟩ := lvl_mem.mp hq
  rcases getD_set (L := L) (i := i) (o := some v) hu with ⟨rfl, e⟩ | ⟨hj, e⟩
  · cases e
    exact List.mem_cons_self
  · refine List.mem_cons_of_mem _ (List.mem_filter.mpr ⟨lvl_mem.mpr ⟨u, e, rfl⟩, ?_⟩)
    by_cases h2 : j + 1 = i
    · have hc : (gcv G ad u).category = 1 := by
        rw [cv_cat]
        match u, lnl_no hn e h2 with
        | .inl _, _ => rfl
        | .inr (.inl z), q => exact absurd rfl (q z)
        | .inr (.inr _), _ => rfl
      simp [hj, hc]
    · simp [hj, h2]
theorem lvl_set2 {G : qG} {ad : Nat → Nat} {L : List (Option qV)} {ls : Array Slot} {n i : Nat} {v : qV} (hn : lnl L i = true)
    (h : lv_has ls n ((i, gcv G ad v) :: (lvl G ad L).filter (fun q => !(q.1 == i) && (!(q.1 == i + 1) && !(q.1 + 1 == i && q.2.category == 2))))) : lv_has ls n (lvl G ad ((lst L i v).set (i + 1) none)) := by
  refine lv_weak h ?_
  rintro ⟨j, w⟩ hq
  obtain ⟨u, hu, rfl⟩ := lvl_mem.mp hq
  rcases getD_set (L := lst L i v) (i := i + 1) (o := none) hu with ⟨rfl, e0⟩ | ⟨hj1, e1⟩
  · cases e0
  · rcases getD_set (L := L) (i := i) (o := some v) e1 with ⟨rfl, e2⟩ | ⟨hj, e⟩
    · cases e2
      exact List.mem_cons_self
    · refine List.mem_cons_of_mem _ (List.mem_filter.mpr ⟨lvl_mem.mpr ⟨u, e, rfl⟩, ?_⟩)
      by_cases h2 : j + 1 = i
      · have hc : (gcv G ad u).category = 1 := by
          rw [cv_cat]
          match u, lnl_no hn e h2 with
          | .inl _, _ => rfl
          | .inr (.inl z), q => exact absurd rfl (q z)
          | .inr (.inr _), _ => rfl
        simp [hj, hj1, hc]
      · simp [hj, hj1, h2]
def hhT (M : Nat) : List (Nat × Nat × Nat × Nat) := if hnd M = [] then [] else hhM M
/-- what is fixed while a method runs -/
def Fx (G : qG) (M : Nat) (p : Program) (l : Launch) (R : Room) (s : State) (m : MethodId) (args : Array Value) (meth : Method) (c : Code) : Prop :=
  TblOK ∧ p.tables.exec = Jvm.exec ∧ c.code = bM M ∧ c.maxLocals = mxl M ∧ s.vm.findClass (cnm (clM M)) = some m.cls ∧ (∀ w ∈ BIG, w.before args s = true) ∧ Sta G s ∧
  (R.cells = mcM M ∧ R.slots = msM M) ∧ (20 ≤ R.frames ∧ 300 ≤ R.locals) ∧ M ≤ nL_law ∧ meth.name = (yM M).name ∧ G.2.2.1 ≤ s.heap.size ∧ l.stackTraces = false ∧ meth.locks = false ∧ meth.sig.returnType = rtM M ∧ c.exceptionTable.toList = tableOf (hhT M)
/-- from t on the machine comes to its end -/
def Snd (G : qG) (M : Nat) (p : Program) (l : Launch) (e : _root_.Jvm.Env) (R : Room) (s : State) (m : MethodId) (args : Array Value) (below : List Frame) (meth : Method) (c : Code) (Qf : State → Prop) (t : qT) : Prop :=
  t.1 < szM M → ∀ (ad : Nat → Nat) (H : Heap) (locs : List Loc) (ls : Array Slot), Rl G ad t.2.2.2.1 H → va_S (gA G) s.heap H locs → lv_has ls (mxl M) (lvl G ad t.2.1) → (∀ i v, t.2.1.getD i none = some v → wv t.2.2.2.1.2 v) → (∀ v ∈ t.2.2.1, wv t.2.2.2.1.2 v) →
    W p l e R s m args below meth c H locs t.2.2.2.2.1 t.2.2.2.2.2 Qf (F0 m (pcM M t.1) ls (t.2.2.1.map (gcv G ad)))
theorem dk_of (T : TblOK) {M n : Nat} (hM : M ≤ nL_law) (hn : n < szM M) {op : Nat} {z : Int} {p q r : Nat} (hc : cdM M n = (op, z, p, q, r)) (h52 : Nat.beq op 52 = false) :
    decode (bM M) (pcM M n) = .ok (iOf op z p q r (ofM M n)) ∧ pcM M (n + 1) = pcM M n + (iOf op z p q r (ofM M n)).2 ∧ sok M n op z p q r = true ∧ nok M n op z p = true := by
  have h := T.2.2.2.2.2.1 M hM n hn
  unfold dck at h
  rw [hc] at h
  dsimp only at h
  rw [h52, cond_false, Bool.and_eq_true, Bool.and_eq_true] at h
  obtain ⟨h1, h2, h3⟩ := h
  unfold dok at h1
  rw [Bool.and_eq_true, decide_eq_true_eq] at h1
  exact ⟨h1.1, Nat.eq_of_beq_eq_true h1.2, h2, h3⟩
