/-! the words of the tables that the machine's links rest on -/
/-- a private method of a class above the receiver's own is selected as it stands -/
theorem selP {C : String} {y : MethodName} {o nm ds : String} {s : State} {args : Array Value} {n : Nat} (hy : y.cls ≠ "java/lang/invoke/MethodHandle" ∧ y.cls ≠ "java/lang/invoke/VarHandle")
    (hins : (Cond.instantiable C n).before args s = true) (hpriv : (Cond.privateMethod y).before args s = true) (hinst : (Cond.instanceMethod y).before args s = true) (hsame : (Cond.sameMethod y.cls o nm ds).before args s = true) :
    (Cond.selects C y y).before args s = true := by
  obtain ⟨c, k, hc, hk, -, -, -, -⟩ := Cond.instantiable_spec hins
  obtain ⟨mk, methM, hnamed, hmethM, -, -⟩ := Cond.instanceMethod_spec hinst
  have hfound : s.methodFound? y.cls y.name y.desc = some mk := State.methodFound?_of_named hnamed hy
  obtain ⟨cn, ck, r1, hcn, hck, hni, -, -⟩ := Cond.sameMethod_found hsame
  have hcls : mk.cls = cn := Option.some.inj ((findClass_of_methodNamed hnamed).symm.trans hcn)
  have hsel : selectMethod {} s.vm c mk = .method mk := selectMethod_private hmethM (Cond.privateMethod_at hpriv mk methM hnamed hmethM)
  simp only [Cond.before, Cond.holds, Cond.value, hc, hfound, hnamed, hsel, hcls, hck]
  simp; exact hni
def xsl : List (String × MethodName) := [("PlateTown$LeaseText", ⟨"PlateTown$Text", "keep", "(II)V"⟩), ("PlateTown$TownText", ⟨"PlateTown$Text", "keep", "(II)V"⟩), ("PlateTown$WalkText", ⟨"PlateTown$Text", "keep", "(II)V"⟩), ("PlateTown$LeaseText", ⟨"PlateTown$Text", "begin", "()I"⟩), ("PlateTown$TownText", ⟨"PlateTown$Text", "begin", "()I"⟩), ("PlateTown$WalkText", ⟨"PlateTown$Text", "begin", "()I"⟩)]
def LWT : List Cond := xsl.map (fun q => Cond.selects q.1 q.2 q.2) ++ lw_tbl
theorem lwt_ok {args : Array Value} {s : State} (h : ∀ w ∈ lw_tbl, w.before args s = true) : ∀ w ∈ LWT, w.before args s = true := by
  intro w hw
  rcases List.mem_append.mp hw with hw | hw
  · obtain ⟨q, hq, rfl⟩ := List.mem_map.mp hw
    have hT : ∀ (i : Nat) (w : Cond), lw_tbl[i]? = some w → w.before args s = true := fun i w q => h w (List.mem_of_getElem? q)
    have hs := hT 741 (.sameMethod "PlateTown$Text" "PlateTown$Text" "present" "()I") (by decide +kernel)
    have key : ∀ q ∈ xsl, (Cond.selects q.1 q.2 q.2).before args s = true := List.forall_mem_cons.mpr ⟨selP ⟨by decide +kernel, by decide +kernel⟩ (hT 245 (.instantiable "PlateTown$LeaseText" 6) (by decide +kernel)) (hT 729 (.privateMethod ⟨"PlateTown$Text", "keep", "(II)V"⟩) (by decide +kernel)) (hT 730 (.instanceMethod ⟨"PlateTown$Text", "keep", "(II)V"⟩) (by decide +kernel)) hs, List.forall_mem_cons.mpr ⟨selP ⟨by decide +kernel, by decide +kernel⟩ (hT 220 (.instantiable "PlateTown$TownText" 5) (by decide +kernel)) (hT 729 (.privateMethod ⟨"PlateTown$Text", "keep", "(II)V"⟩) (by decide +kernel)) (hT 730 (.instanceMethod ⟨"PlateTown$Text", "keep", "(II)V"⟩) (by decide +kernel)) hs, List.forall_mem_cons.mpr ⟨selP ⟨by decide +kernel, by decide +kernel⟩ (hT 262 (.instantiable "PlateTown$WalkText" 6) (by decide +kernel)) (hT 729 (.privateMethod ⟨"PlateTown$Text", "keep", "(II)V"⟩) (by decide +kernel)) (hT 730 (.instanceMethod ⟨"PlateTown$Text", "keep", "(II)V"⟩) (by decide +kernel)) hs, List.forall_mem_cons.mpr ⟨selP ⟨by decide +kernel, by decide +kernel⟩ (hT 245 (.instantiable "PlateTown$LeaseText" 6) (by decide +kernel)) (hT 867 (.privateMethod ⟨"PlateTown$Text", "begin", "()I"⟩) (by decide +kernel)) (hT 868 (.instanceMethod ⟨"PlateTown$Text", "begin", "()I"⟩) (by decide +kernel)) hs, List.forall_mem_cons.mpr ⟨selP ⟨by decide +kernel, by decide +kernel⟩ (hT 220 (.instantiable "PlateTown$TownText" 5) (by decide +kernel)) (hT 867 (.privateMethod ⟨"PlateTown$Text", "begin", "()I"⟩) (by decide +kernel)) (hT 868 (.instanceMethod ⟨"PlateTown$Text", "begin", "()I"⟩) (by decide +kernel)) hs, List.forall_mem_cons.mpr ⟨selP ⟨by decide +kernel, by decide +kernel⟩ (hT 262 (.instantiable "PlateTown$WalkText" 6) (by decide +kernel)) (hT 867 (.privateMethod ⟨"PlateTown$Text", "begin", "()I"⟩) (by decide +kernel)) (hT 868 (.instanceMethod ⟨"PlateTown$Text", "begin", "()I"⟩) (by decide +kernel)) hs, fun _ h => absurd h List.not_mem_nil⟩⟩⟩⟩⟩⟩
    exact key q hq
  · exact h w hw
def BIG : List Cond := LWT.filter goodWord
theorem big_of {w : Cond} (i : Nat) (h : LWT[i]? = some w) (g : goodWord w = true) : w ∈ BIG := List.mem_filter.mpr ⟨List.mem_of_getElem? h, g⟩
theorem big_in : ∀ w ∈ BIG, w ∈ LWT := fun _ h => (List.mem_filter.mp h).1
theorem big_good {w : Cond} (h : w ∈ BIG) : goodWord w = true := (List.mem_filter.mp h).2
theorem goodIn_big (l : List Cond) (h : ∀ w ∈ l, w ∈ BIG) : GoodIn BIG l := fun w hw => ⟨h w hw, good_of_word (big_good (h w hw))⟩
theorem lt11 {P : Nat → Prop} (h0 : P 0) (h1 : P 1) (h2 : P 2) (h3 : P 3) (h4 : P 4) (h5 : P 5) (h6 : P 6) (h7 : P 7) (h8 : P 8) (h9 : P 9) (h10 : P 10) (k : Nat) (h : k < 11) : P k := by
  match k, h with
  | 0, _ => exact h0
  | 1, _ => exact h1
  | 2, _ => exact h2
  | 3, _ => exact h3
  | 4, _ => exact h4
  | 5, _ => exact h5
  | 6, _ => exact h6
  | 7, _ => exact h7
  | 8, _ => exact h8
  | 9, _ => exact h9
  | 10, _ => exact h10
  | k + 11, h => exact absurd h (by omega)
theorem cl_at : ∀ k, k < 11 → vwCl[k]? = some (rx k, tx k, nfl k) := lt11 rfl rfl rfl rfl rfl rfl rfl rfl rfl rfl rfl
theorem ty_ok : ∀ k, k < 11 → ∀ j, j < nfl k → parseFieldDescriptor (tx k j).2.2.1 = some (tyx k j) := lt11 tyX0_ok tyX1_ok tyX2_ok tyX3_ok tyX5_ok tyX6_ok tyX8_ok tyX9_ok tyX10_ok tyX11_ok tyX12_ok
theorem nm_ok : ∀ k, k < 11 → ∀ a, a < nfl k → ∀ b, b < nfl k → a ≠ b → (tx k a).2.1 ≠ (tx k b).2.1 := lt11 nmX0 nmX1 nmX2 nmX3 nmX5 nmX6 nmX8 nmX9 nmX10 nmX11 nmX12
theorem ftp_ty : ∀ k, k < 11 → ∀ j, j < nfl k → (ftp k j = 0 ∧ (tyx k j = .int ∨ tyx k j = .boolean)) ∨ (ftp k j = 1 ∧ ((∃ n, tyx k j = .object n) ∨ ∃ t, tyx k j = .array t)) ∨ (ftp k j = 2 ∧ tyx k j = .long) := by
  refine lt11 ?_ ?_ ?_ ?_ ?_ ?_ ?_ ?_ ?_ ?_ ?_ <;> intro j hj
  · match j, hj with
    | 0, _ => exact Or.inr (Or.inl ⟨rfl, Or.inl ⟨_, rfl⟩⟩)
    | 1, _ => exact Or.inr (Or.inl ⟨rfl, Or.inr ⟨_, rfl⟩⟩)
    | 2, _ => exact Or.inr (Or.inl ⟨rfl, Or.inr ⟨_, rfl⟩⟩)
    | j + 3, hj => exact absurd hj (by show ¬ j + 3 < 3; omega)
  · match j, hj with
    | 0, _ => exact Or.inr (Or.inl ⟨rfl, Or.inr ⟨_, rfl⟩⟩)
    | 1, _ => exact Or.inr (Or.inl ⟨rfl, Or.inr ⟨_, rfl⟩⟩)
    | 2, _ => exact Or.inl ⟨rfl, Or.inl rfl⟩
    | 3, _ => exact Or.inl ⟨rfl, Or.inl rfl⟩
    | 4, _ => exact Or.inl ⟨rfl, Or.inr rfl⟩
    | j + 5, hj => exact absurd hj (by show ¬ j + 5 < 5; omega)
  · match j, hj with
    | 0, _ => exact Or.inr (Or.inl ⟨rfl, Or.inl ⟨_, rfl⟩⟩)
    | 1, _ => exact Or.inr (Or.inl ⟨rfl, Or.inl ⟨_, rfl⟩⟩)
    | 2, _ => exact Or.inr (Or.inl ⟨rfl, Or.inr ⟨_, rfl⟩⟩)
    | 3, _ => exact Or.inr (Or.inl ⟨rfl, Or.inr ⟨_, rfl⟩⟩)
    | 4, _ => exact Or.inr (Or.inl ⟨rfl, Or.inr ⟨_, rfl⟩⟩)
    | 5, _ => exact Or.inr (Or.inl ⟨rfl, Or.inr ⟨_, rfl⟩⟩)
    | 6, _ => exact Or.inl ⟨rfl, Or.inl rfl⟩
    | 7, _ => exact Or.inl ⟨rfl, Or.inl rfl⟩
    | j + 8, hj => exact absurd hj (by show ¬ j + 8 < 8; omega)
  · match j, hj with
    | 0, _ => exact Or.inr (Or.inl ⟨rfl, Or.inr ⟨_, rfl⟩⟩)
    | 1, _ => exact Or.inr (Or.inl ⟨rfl, Or.inr ⟨_, rfl⟩⟩)
    | 2, _ => exact Or.inl ⟨rfl, Or.inl rfl⟩
    | 3, _ => exact Or.inl ⟨rfl, Or.inl rfl⟩
    | 4, _ => exact Or.inr (Or.inl ⟨rfl, Or.inr ⟨_, rfl⟩⟩)
    | 5, _ => exact Or.inl ⟨rfl, Or.inl rfl⟩
    | j + 6, hj => exact absurd hj (by show ¬ j + 6 < 6; omega)
  · match j, hj with
    | 0, _ => exact Or.inl ⟨rfl, Or.inl rfl⟩
    | 1, _ => exact Or.inl ⟨rfl, Or.inl rfl⟩
    | 2, _ => exact Or.inr (Or.inl ⟨rfl, Or.inr ⟨_, rfl⟩⟩)
    | 3, _ => exact Or.inl ⟨rfl, Or.inl rfl⟩
    | j + 4, hj => exact absurd hj (by show ¬ j + 4 < 4; omega)
  · match j, hj with
    | 0, _ => exact Or.inr (Or.inl ⟨rfl, Or.inr ⟨_, rfl⟩⟩)
    | 1, _ => exact Or.inl ⟨rfl, Or.inl rfl⟩
    | j + 2, hj => exact absurd hj (by show ¬ j + 2 < 2; omega)
  · match j, hj with
    | 0, _ => exact Or.inr (Or.inl ⟨rfl, Or.inl ⟨_, rfl⟩⟩)
    | 1, _ => exact Or.inr (Or.inl ⟨rfl, Or.inl ⟨_, rfl⟩⟩)
    | 2, _ => exact Or.inr (Or.inl ⟨rfl, Or.inl ⟨_, rfl⟩⟩)
    | 3, _ => exact Or.inr (Or.inl ⟨rfl, Or.inl ⟨_, rfl⟩⟩)
    | 4, _ => exact Or.inr (Or.inl ⟨rfl, Or.inl ⟨_, rfl⟩⟩)
    | 5, _ => exact Or.inr (Or.inl ⟨rfl, Or.inl ⟨_, rfl⟩⟩)
    | 6, _ => exact Or.inr (Or.inl ⟨rfl, Or.inl ⟨_, rfl⟩⟩)
    | 7, _ => exact Or.inr (Or.inl ⟨rfl, Or.inl ⟨_, rfl⟩⟩)
    | 8, _ => exact Or.inr (Or.inl ⟨rfl, Or.inr ⟨_, rfl⟩⟩)
    | 9, _ => exact Or.inr (Or.inl ⟨rfl, Or.inr ⟨_, rfl⟩⟩)
    | 10, _ => exact Or.inr (Or.inl ⟨rfl, Or.inr ⟨_, rfl⟩⟩)
    | 11, _ => exact Or.inr (Or.inl ⟨rfl, Or.inr ⟨_, rfl⟩⟩)
    | 12, _ => exact Or.inl ⟨rfl, Or.inl rfl⟩
    | 13, _ => exact Or.inl ⟨rfl, Or.inl rfl⟩
    | j + 14, hj => exact absurd hj (by show ¬ j + 14 < 14; omega)
  · match j, hj with
    | 0, _ => exact Or.inr (Or.inl ⟨rfl, Or.inr ⟨_, rfl⟩⟩)
    | 1, _ => exact Or.inr (Or.inl ⟨rfl, Or.inr ⟨_, rfl⟩⟩)
    | 2, _ => exact Or.inl ⟨rfl, Or.inl rfl⟩
    | 3, _ => exact Or.inl ⟨rfl, Or.inl rfl⟩
    | 4, _ => exact Or.inr (Or.inl ⟨rfl, Or.inl ⟨_, rfl⟩⟩)
    | j + 5, hj => exact absurd hj (by show ¬ j + 5 < 5; omega)
  · match j, hj with
    | 0, _ => exact Or.inr (Or.inl ⟨rfl, Or.inr ⟨_, rfl⟩⟩)
    | 1, _ => exact Or.inr (Or.inl ⟨rfl, Or.inr ⟨_, rfl⟩⟩)
    | 2, _ => exact Or.inl ⟨rfl, Or.inl rfl⟩
    | 3, _ => exact Or.inl ⟨rfl, Or.inl rfl⟩
    | 4, _ => exact Or.inl ⟨rfl, Or.inl rfl⟩
    | 5, _ => exact Or.inl ⟨rfl, Or.inl rfl⟩
    | j + 6, hj => exact absurd hj (by show ¬ j + 6 < 6; omega)
  · match j, hj with
    | 0, _ => exact Or.inr (Or.inl ⟨rfl, Or.inl ⟨_, rfl⟩⟩)
    | 1, _ => exact Or.inr (Or.inl ⟨rfl, Or.inl ⟨_, rfl⟩⟩)
    | 2, _ => exact Or.inr (Or.inl ⟨rfl, Or.inl ⟨_, rfl⟩⟩)
    | 3, _ => exact Or.inr (Or.inl ⟨rfl, Or.inl ⟨_, rfl⟩⟩)
    | 4, _ => exact Or.inr (Or.inl ⟨rfl, Or.inl ⟨_, rfl⟩⟩)
    | 5, _ => exact Or.inr (Or.inl ⟨rfl, Or.inl ⟨_, rfl⟩⟩)
    | 6, _ => exact Or.inr (Or.inl ⟨rfl, Or.inl ⟨_, rfl⟩⟩)
    | 7, _ => exact Or.inr (Or.inl ⟨rfl, Or.inl ⟨_, rfl⟩⟩)
    | 8, _ => exact Or.inr (Or.inl ⟨rfl, Or.inl ⟨_, rfl⟩⟩)
    | 9, _ => exact Or.inr (Or.inl ⟨rfl, Or.inl ⟨_, rfl⟩⟩)
    | 10, _ => exact Or.inl ⟨rfl, Or.inr rfl⟩
    | 11, _ => exact Or.inl ⟨rfl, Or.inl rfl⟩
    | j + 12, hj => exact absurd hj (by show ¬ j + 12 < 12; omega)
  · match j, hj with
    | 0, _ => exact Or.inl ⟨rfl, Or.inl rfl⟩
    | 1, _ => exact Or.inr (Or.inl ⟨rfl, Or.inr ⟨_, rfl⟩⟩)
    | 2, _ => exact Or.inr (Or.inl ⟨rfl, Or.inr ⟨_, rfl⟩⟩)
    | 3, _ => exact Or.inl ⟨rfl, Or.inr rfl⟩
    | 4, _ => exact Or.inr (Or.inl ⟨rfl, Or.inr ⟨_, rfl⟩⟩)
    | 5, _ => exact Or.inr (Or.inl ⟨rfl, Or.inr ⟨_, rfl⟩⟩)
    | 6, _ => exact Or.inl ⟨rfl, Or.inl rfl⟩
    | 7, _ => exact Or.inl ⟨rfl, Or.inl rfl⟩
    | 8, _ => exact Or.inl ⟨rfl, Or.inl rfl⟩
    | 9, _ => exact Or.inl ⟨rfl, Or.inl rfl⟩
    | 10, _ => exact Or.inl ⟨rfl, Or.inl rfl⟩
    | 11, _ => exact Or.inl ⟨rfl, Or.inl rfl⟩
    | 12, _ => exact Or.inr (Or.inl ⟨rfl, Or.inr ⟨_, rfl⟩⟩)
    | 13, _ => exact Or.inl ⟨rfl, Or.inr rfl⟩
    | 14, _ => exact Or.inl ⟨rfl, Or.inr rfl⟩
    | 15, _ => exact Or.inl ⟨rfl, Or.inr rfl⟩
    | 16, _ => exact Or.inl ⟨rfl, Or.inr rfl⟩
    | 17, _ => exact Or.inr (Or.inr ⟨rfl, rfl⟩)
    | 18, _ => exact Or.inl ⟨rfl, Or.inl rfl⟩
    | 19, _ => exact Or.inl ⟨rfl, Or.inl rfl⟩
    | 20, _ => exact Or.inl ⟨rfl, Or.inl rfl⟩
    | 21, _ => exact Or.inl ⟨rfl, Or.inr rfl⟩
    | 22, _ => exact Or.inl ⟨rfl, Or.inl rfl⟩
    | 23, _ => exact Or.inl ⟨rfl, Or.inl rfl⟩
    | 24, _ => exact Or.inr (Or.inl ⟨rfl, Or.inr ⟨_, rfl⟩⟩)
    | 25, _ => exact Or.inr (Or.inl ⟨rfl, Or.inr ⟨_, rfl⟩⟩)
    | 26, _ => exact Or.inr (Or.inl ⟨rfl, Or.inr ⟨_, rfl⟩⟩)
    | 27, _ => exact Or.inl ⟨rfl, Or.inl rfl⟩
    | 28, _ => exact Or.inl ⟨rfl, Or.inl rfl⟩
    | 29, _ => exact Or.inl ⟨rfl, Or.inl rfl⟩
    | 30, _ => exact Or.inl ⟨rfl, Or.inl rfl⟩
    | 31, _ => exact Or.inr (Or.inl ⟨rfl, Or.inr ⟨_, rfl⟩⟩)
    | j + 32, hj => exact absurd hj (by show ¬ j + 32 < 32; omega)
/-- a class's fields are laid as the table says -/

theorem kOk_eq {p k : Nat} (hp : p ≠ 99) (h : kOk p k = true) : k = p := by
  unfold kOk at h
  have h9 : Nat.beq p 99 = false := by
    cases h9 : Nat.beq p 99 with
    | false => rfl
    | true => exact absurd (Nat.eq_of_beq_eq_true h9) hp
  rw [h9] at h
  simp only [Bool.false_and, Bool.or_false] at h
  exact (Nat.eq_of_beq_eq_true h).symm
theorem kOk_99 {k : Nat} (h : kOk 99 k = true) : k = 99 ∨ k = 3 ∨ k = 7 ∨ k = 8 := by
  unfold kOk at h
  simp only [Bool.or_eq_true, Bool.and_eq_true] at h
  rcases h with h | ⟨-, h | h | h⟩
  · exact Or.inl (Nat.eq_of_beq_eq_true h).symm
  · exact Or.inr (Or.inl (Nat.eq_of_beq_eq_true h))
  · exact Or.inr (Or.inr (Or.inl (Nat.eq_of_beq_eq_true h)))
  · exact Or.inr (Or.inr (Or.inr (Nat.eq_of_beq_eq_true h)))
/-- a field's link: (pool entry, kind code, slot) -/
def FOK (c : Nat) (e : Nat × Nat × Nat) : Prop := (e.2.1 < 11 ∨ e.2.1 = 99) ∧ ∀ k, k < 14 → kOk e.2.1 k = true → k < 11 ∧ e.2.2 < nfl k ∧ tx k e.2.2 = tx e.2.1 e.2.2 ∧ fkd k e.2.2 = fkd e.2.1 e.2.2 ∧ ftp k e.2.2 = ftp e.2.1 e.2.2 ∧ Cond.fieldLink (cnm c) e.1 (tx k e.2.2).1 (tx k e.2.2).2.1 (tx k e.2.2).2.2.1 ∈ BIG
theorem FOK.of {c i p s : Nat} (hp : p ≠ 99) (h1 : p < 11) (h2 : s < nfl p) (h : Cond.fieldLink (cnm c) i (tx p s).1 (tx p s).2.1 (tx p s).2.2.1 ∈ BIG) : FOK c (i, p, s) := by
  refine ⟨Or.inl h1, ?_⟩
  intro k _ hk
  cases kOk_eq hp hk
  exact ⟨h1, h2, rfl, rfl, rfl, h⟩
theorem FOK.txt {c i s : Nat} (h3 : s < nfl 3 ∧ tx 3 s = tx 99 s ∧ fkd 3 s = fkd 99 s ∧ ftp 3 s = ftp 99 s) (h7 : s < nfl 7 ∧ tx 7 s = tx 99 s ∧ fkd 7 s = fkd 99 s ∧ ftp 7 s = ftp 99 s) (h8 : s < nfl 8 ∧ tx 8 s = tx 99 s ∧ fkd 8 s = fkd 99 s ∧ ftp 8 s = ftp 99 s) (h : Cond.fieldLink (cnm c) i (tx 99 s).1 (tx 99 s).2.1 (tx 99 s).2.2.1 ∈ BIG) : FOK c (i, 99, s) := by
  refine ⟨Or.inr rfl, ?_⟩
  intro k hl hk
  rcases kOk_99 hk with rfl | rfl | rfl | rfl
  · omega
  · exact ⟨by decide, h3.1, h3.2.1, h3.2.2.1, h3.2.2.2, by rw [h3.2.1]; exact h⟩
  · exact ⟨by decide, h7.1, h7.2.1, h7.2.2.1, h7.2.2.2, by rw [h7.2.1]; exact h⟩
  · exact ⟨by decide, h8.1, h8.2.1, h8.2.2.1, h8.2.2.2, by rw [h8.2.1]; exact h⟩
def COK (c : Nat) (e : Nat × Nat) : Prop := e.2 < 11 ∧ Cond.classLink (cnm c) e.1 (rx e.2) ∈ BIG ∧ Cond.instantiable (rx e.2) (nfl e.2) ∈ BIG ∧ Cond.initialized (rx e.2) ∈ BIG
/-- a call's link that selects by the receiver's class k -/
def VOK (c i y k : Nat) : Prop := (Cond.methodLink (cnm c) i (yM y) ∈ BIG ∧ Cond.instanceMethod (yM y) ∈ BIG ∧ Cond.selects (yM y).cls (yM y) (yM y) ∈ BIG ∧ (yM y).cls = rx k) ∨
  ∃ x : MethodName, Cond.methodLink (cnm c) i x ∈ BIG ∧ Cond.sameMethod x.cls (yM y).cls x.name x.desc ∈ BIG ∧ Cond.selects (rx k) x (yM y) ∈ BIG ∧ Cond.instanceMethod (yM y) ∈ BIG ∧ yM y = ⟨(yM y).cls, x.name, x.desc⟩
/-- a call's link: (pool entry, callee, how) -/
def MOK (c : Nat) (e : Nat × Nat × Nat) : Prop := match e.2.2 with
  | 0 => Cond.methodLink (cnm c) e.1 (yM e.2.1) ∈ BIG ∧ Cond.static (yM e.2.1) ∈ BIG
  | 1 => Cond.methodLink (cnm c) e.1 (yM e.2.1) ∈ BIG ∧ Cond.instanceMethod (yM e.2.1) ∈ BIG ∧ (yM e.2.1).name = "<init>" ∧ rtM e.2.1 = none
  | r + 2 => if nth (r + 2) = true then ∀ k, k < 14 → kOk r k = true → k < 11 ∧ VOK c e.1 e.2.1 k
    else r < 11 ∧ Cond.methodLink (cnm c) e.1 (yM e.2.1) ∈ BIG ∧ Cond.instanceMethod (yM e.2.1) ∈ BIG ∧ Cond.selects (yM e.2.1).cls (yM e.2.1) (yM e.2.1) ∈ BIG ∧ (yM e.2.1).cls = rx r
/-- the exception tables, as the claim has them -/
def hhM : Nat → List (Nat × Nat × Nat × Nat) := fun M => [[(0, 8, 11, 13), (0, 8, 14, 15)], [(0, 8, 11, 13), (0, 8, 14, 15)], [(0, 10, 13, 24), (0, 10, 17, 26)], [(0, 9, 12, 24)], [(0, 10, 13, 24), (0, 10, 17, 13)], [(0, 19, 22, 24)], [(0, 12, 15, 24), (0, 12, 19, 13)], [(0, 10, 13, 24)], [(0, 10, 13, 24), (0, 10, 17, 26)], [(0, 12, 15, 24)], [(0, 14, 17, 24), (0, 14, 21, 13), (0, 14, 25, 15)], [(0, 9, 12, 24)], [(0, 12, 15, 24), (0, 12, 19, 13), (0, 12, 23, 15)], [(0, 9, 12, 24)], [(0, 10, 13, 24)], [(0, 10, 13, 24), (0, 10, 17, 13), (0, 10, 21, 15)], [(0, 17, 20, 24)], [(0, 10, 13, 24)], [(0, 10, 13, 24)], [(0, 12, 15, 24)], [(0, 10, 13, 24), (0, 10, 17, 13)], [(0, 10, 13, 24), (0, 10, 17, 13)], [(0, 16, 19, 24), (0, 16, 23, 13)], [(0, 14, 17, 24), (0, 14, 21, 13)], [(0, 14, 17, 24), (0, 14, 21, 13)], [(0, 7, 10, 24), (0, 7, 14, 13)], [(0, 10, 13, 24)], [(0, 10, 13, 24), (0, 10, 17, 26)], [(0, 12, 15, 24), (0, 12, 19, 15)], [(0, 9, 12, 13)], [(0, 12, 15, 24)]].getD (M - 268) []
/-- a method's own words -/
def YOK (M : Nat) : Prop := (if hnd M = [] then Cond.code (yM M) (bM M) (mxl M) (rtM M) ∈ BIG else ∃ hh, hhM M = hh ∧ Cond.codeWith (yM M) (bM M) (mxl M) (rtM M) hh ∈ BIG) ∧ Cond.initialized (yM M).cls ∈ BIG ∧ plainName (yM M).cls = true ∧ ((yM M).cls ≠ "java/lang/invoke/MethodHandle" ∧ (yM M).cls ≠ "java/lang/invoke/VarHandle") ∧ (parseMethodDescriptor (yM M).desc).map (fun d => d.parameters.length) = some (naM M) ∧ (yM M).cls = cnm (clM M) ∧ clM M < 14 ∧ mxl M ≤ 22
/-- every word that a step rests on stands in the tables -/
def TblOK : Prop := (∀ k, k < 11 → ∀ w ∈ u_ws (rx k) (tx k) (nfl k), w ∈ BIG) ∧ (∀ c, c < 14 → ∀ e ∈ lkF c, FOK c e) ∧ (∀ c, c < 14 → ∀ e ∈ lkC c, COK c e) ∧ (∀ c, c < 14 → ∀ e ∈ lkM c, MOK c e) ∧ (∀ M, M < 299 → YOK M) ∧ (∀ M, M ≤ 299 → ∀ n, n < szM M → dck M n = true) ∧ Cond.constant (cnm 9) 323 (Int32.ofInt 1103515245) ∈ BIG ∧ Cond.constant (cnm 10) 328 (Int32.ofInt 1103515245) ∈ BIG
