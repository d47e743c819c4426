/-! small facts of the tables -/
theorem clM_all : (List.range (nL_law + 1)).all (fun M => Nat.blt (clM M) 14) = true := by decide +kernel
theorem clM_lt (T : TblOK) {M : Nat} (hM : M ≤ nL_law) : clM M < 14 := Nat.le_of_ble_eq_true (List.all_eq_true.mp clM_all M (List.mem_range.mpr (Nat.lt_succ_of_le hM)))
theorem lng_all : ∀ k, k < 11 → (List.range (nfl k)).all (fun j => (Nat.beq (ftp k j) 2) == lng k j) = true := lt11 (by decide +kernel) (by decide +kernel) (by decide +kernel) (by decide +kernel) (by decide +kernel) (by decide +kernel) (by decide +kernel) (by decide +kernel) (by decide +kernel) (by decide +kernel) (by decide +kernel)
theorem lng_at {k j : Nat} (hk : k < 11) (hj : j < nfl k) : Nat.beq (ftp k j) 2 = lng k j := by
  have h := List.all_eq_true.mp (lng_all k hk) j (List.mem_range.mpr hj)
  exact eq_of_beq h
theorem ftp_lng {k j : Nat} {z : Int} (hk : k < 11) (hj : j < nfl k) (h : ftp k j = 2) (e : (j : Int) = z) : lng k z = true := by
  rw [← e, ← lng_at hk hj, h]; rfl
theorem fkd_all : ∀ k, k < 11 → (List.range (nfl k)).all (fun j => Nat.blt (fkd k j) 14) = true := lt11 (by decide +kernel) (by decide +kernel) (by decide +kernel) (by decide +kernel) (by decide +kernel) (by decide +kernel) (by decide +kernel) (by decide +kernel) (by decide +kernel) (by decide +kernel) (by decide +kernel)
theorem fkd_lt {k j : Nat} {z : Int} (hk : k < 11) (hj : j < nfl k) (e : (j : Int) = z) : fkd k z < 14 := by
  rw [← e]
  exact Nat.le_of_ble_eq_true (List.all_eq_true.mp (fkd_all k hk) j (List.mem_range.mpr hj))
theorem ftp_lng0 {k j : Nat} {z : Int} (hk : k < 11) (hj : j < nfl k) (h : ftp k j ≠ 2) (e : (j : Int) = z) : lng k z = false := by
  rw [← e, ← lng_at hk hj]
  cases h9 : Nat.beq (ftp k j) 2 with
  | false => rfl
  | true => exact absurd (Nat.eq_of_beq_eq_true h9) h
theorem tyx_same {p k j : Nat} (h : kOk p k = true) (hp : p < 11 ∨ p = 99) (h14 : k < 14) (hk : k < 11) (hj : j < nfl k) (e : tx k j = tx p j) : tyx k j = tyx p j := by
  have h1 := ty_ok k hk j hj
  by_cases h9 : p = 99
  · subst h9
    have hj6 : j < nfl 3 := by
      rcases kOk_99 h with rfl | rfl | rfl | rfl
      · omega
      · exact hj
      · exact Nat.lt_of_lt_of_le hj (by decide)
      · exact hj
    have h2 := ty_ok 3 (by decide) j hj6
    rw [e] at h1
    exact Option.some.inj (h1.symm.trans h2)
  · rw [kOk_eq h9 h]
/-! laws that the steps on cells want -/
theorem own_of {G : qG} {ad : Nat → Nat} {I : qI} {H : qS} {Hp : Heap} {p0 a k : Nat} (hR : Rl G ad (I, H) Hp) (hw : wr H a k) (hk : kOk p0 k = true) (hp : p0 < 11 ∨ p0 = 99) :
    k < 14 ∧ 3 ≤ a ∧ a < H.2.2.2 + 3 ∧ H.2.2.1 a = k ∧ gcv G ad (vr (some a) k) = .ref (ad a) := by
  have hk99 : k ≤ 99 := by
    by_cases h9 : p0 = 99
    · subst h9
      rcases kOk_99 hk with rfl | rfl | rfl | rfl <;> omega
    · rw [kOk_eq h9 hk]
      omega
  unfold wr at hw
  rw [if_neg (by omega), if_neg (by omega), if_neg (by omega)] at hw
  obtain ⟨h1, h2, h3⟩ := hw
  refine ⟨by rw [← h3]; exact hR.2.2.1.2.2.2.2.1 a, h1, h2, h3, ?_⟩
  show Value.ref (if k = 100 then _ else if k = 101 ∨ k = 102 then _ else ad a) = _
  rw [if_neg (by omega), if_neg (by omega)]
theorem arr_of {G : qG} {ad : Nat → Nat} {H : qS} {a k : Nat} (hw : wr H a k) (hk : k < 14) : 3 ≤ a ∧ a < H.2.2.2 + 3 ∧ H.2.2.1 a = k ∧ gcv G ad (vr (some a) k) = .ref (ad a) := by
  unfold wr at hw
  rw [if_neg (by omega), if_neg (by omega), if_neg (by omega)] at hw
  obtain ⟨h1, h2, h3⟩ := hw
  refine ⟨h1, h2, h3, ?_⟩
  show Value.ref (if k = 100 then _ else if k = 101 ∨ k = 102 then _ else ad a) = _
  rw [if_neg (by omega), if_neg (by omega)]
theorem gcl_obj {G : qG} {ad : Nat → Nat} {I : qI} {H : qS} {a k : Nat} (h : H.2.2.1 a = k) (hk : k < 11) : gcl G ad I H a = .inr (k, (List.range (nfl k)).map (fvl ad I H a k)) := by
  unfold gcl ecl
  rw [if_pos (by omega), h]
theorem gcl_int {G : qG} {ad : Nat → Nat} {I : qI} {H : qS} {a : Nat} (h : H.2.2.1 a = 11) : gcl G ad I H a = .inl (G.2.1.1, (H.2.1 a).toNat, .inl (fun j : Nat => Int32.ofInt (I a j))) := by
  unfold gcl ecl
  rw [if_neg (by omega), if_pos h]
theorem gcl_lng {G : qG} {ad : Nat → Nat} {I : qI} {H : qS} {a : Nat} (h : H.2.2.1 a = 13) : gcl G ad I H a = .inl (G.2.1.2.2, (H.2.1 a).toNat, .inr (.inl (fun j : Nat => Int64.ofInt (I a j)))) := by
  unfold gcl ecl
  rw [if_neg (by omega), if_neg (by omega), if_neg (by omega)]
theorem gcl_row {G : qG} {ad : Nat → Nat} {I : qI} {H : qS} {a : Nat} (h : H.2.2.1 a = 12) : gcl G ad I H a = .inl (G.2.1.2.1, (H.2.1 a).toNat, .inr (.inr (.inr (.inr (fun j : Nat => (H.1 a j).map ad))))) := by
  unfold gcl ecl
  rw [if_neg (by omega), if_neg (by omega), if_pos h]
theorem fs_at {ad : Nat → Nat} {I : qI} {H : qS} {a k j : Nat} (hj : j < nfl k) : ((List.range (nfl k)).map (fvl ad I H a k))[j]? = some (fvl ad I H a k j) := by
  rw [List.getElem?_map, List.getElem?_range hj]; rfl
/-- a cell written: the heap holds the new picture -/
theorem Rl.put {G : qG} {ad : Nat → Nat} {g g' : qH} {Hp H1 : Heap} {a : Nat} {en : va_E} (hR : Rl G ad g Hp) (h3 : 3 ≤ a) (hn : a < g.2.2.2.2 + 3) (hc : g'.2.2 = g.2.2) (ho : ∀ b, b ≠ a → gcl G ad g'.1 g'.2 b = gcl G ad g.1 g.2 b) (he : gcl G ad g'.1 g'.2 a = en)
    (hw : whp G.2.2.2.1 G.2.2.2.2.1 g') (hP : va_P G.1 vwCl ((gpl G ad g).set (a - 3) (ad a, en)) H1) (hD : va_D (gA G) ((gpl G ad g).set (a - 3) (ad a, en))) (hsz : G.2.2.1 ≤ H1.size) : Rl G ad g' H1 := by
  have e := pool_upd (G := G) (ad := ad) h3 hn (congrArg (fun x => x.2.2) hc) ho
  rw [he] at e
  refine ⟨by rw [e]; exact hP, by rw [e]; exact hD, hw, hsz, ?_⟩
  obtain ⟨x1, x2⟩ := hR.2.2.2.2
  unfold ext
  rw [hc]
  exact ⟨x1, x2⟩
theorem ty_fits {ty : FieldType} (h : (∃ n, ty = .object n) ∨ ∃ t, ty = .array t) (r : Option Nat) : narrow ty (va_rf r) = va_rf r ∧ fits ty (va_rf r) = true := by
  rcases h with ⟨n, rfl⟩ | ⟨t, rfl⟩ <;> cases r <;> exact ⟨rfl, rfl⟩
section ROWS
variable {p : Program} {l : Launch} {e : Env} {R : Room} {s : State} {m : MethodId} {args : Array Value} {below : List Frame} {meth : Method} {c : Code} {H : Heap} {locs : List Loc} {cells slots : Nat} {Q : State → Prop}
variable {cc : ByteArray} {pc : Nat} {ls : Array Slot} {rest : List Value} {D : va_G} {cl : List vw_C} {A : Nat → Prop} {a : Nat} {tys : List (ClassId × FieldType)} {ws : va_W} {H0 : Heap}
/-- rows of rows: read -/
theorem rw_aald (hexec : p.tables.exec = Jvm.exec) (hb : c.code = cc) (hK : va_K D cl tys s) (hP : va_P D cl ws H) (q0 t0 : Nat) {cA : ClassId} {n : Nat} {f : Nat → Option Nat} (ha : ws[q0]? = some (a, .inl (cA, n, .inr (.inr (.inr (.inr f)))))) (ht : tys[t0]? = some (cA, .array .int)) {i : Int32} (hin : vp_in i n) (hdg : decode cc pc = .ok (.aaload, 1))
    (kk : W p l e R s m args below meth c H locs cells slots Q (F0 m (pc + 1) ls (va_rf (f i.toNatClampNeg) :: rest))) : W p l e R s m args below meth c H locs cells slots Q (F0 m pc ls (.int i :: .ref a :: rest)) := by
  have hlt : i.toNatClampNeg < n := Nat.not_le.mp fun q => hin (Or.inr q)
  exact W.aald (v := va_rf (f i.toNatClampNeg)) (ty := .array .int) hexec hb (hP q0 _ ha) ((hK.2 t0 _ ht).1 n (fun j => va_rf (f j))) rfl (fun q => by cases q) (by show ¬ (i < 0 ∨ (arrV _ _ _).slots.size ≤ _); rw [arrV_size]; exact hin) (by show (arrV _ _ _).slots[_]? = _; rw [arrV_read _ _ hlt]) rfl rfl hdg kk
theorem rw_put {f : Nat → Option Nat} {cA : ClassId} {n q0 : Nat} {i : Int32} {r : Option Nat} {H1 : Heap} (hP : va_P D cl ws H) (hD : va_D A ws) (hS : va_S A H0 H locs) (ha : ws[q0]? = some (a, .inl (cA, n, .inr (.inr (.inr (.inr f))))))
    (ee : H1[a]? = some ((vp_cell cA (n, .inr (.inr (.inr (.inr f))))).setSlot i.toNatClampNeg (va_rf r))) (zz : H1.size = H.size) (oq : ∀ q, q ≠ a → H1[q]? = H[q]?) :
    va_P D cl (ws.set q0 (a, .inl (cA, n, .inr (.inr (.inr (.inr (va_up f i.toNatClampNeg r))))))) H1 ∧ va_D A (ws.set q0 (a, .inl (cA, n, .inr (.inr (.inr (.inr (va_up f i.toNatClampNeg r))))))) ∧ va_S A H0 H1 (locs ++ [⟨a, i.toNatClampNeg⟩]) := by
  refine ⟨hP.set hD ha ?_ oq, hD.set ha, hS.put zz oq (hD.2 q0 _ ha)⟩
  show H1[a]? = some (vp_cell _ _)
  rw [ee]
  rw [vp_cell_q, vp_cell_q, arrV_store]
  congr 2
  funext q
  by_cases hq : q = i.toNatClampNeg
  · subst hq
    simp [updV, va_up, va_rf]
  · simp [updV, va_up, hq]
/-- rows of rows: null put -/
theorem rw_aastN (hexec : p.tables.exec = Jvm.exec) (hb : c.code = cc) (hK : va_K D cl tys s) (hP : va_P D cl ws H) (hD : va_D A ws) (hS : va_S A H0 H locs) (q0 t0 : Nat) {cA : ClassId} {n : Nat} {f : Nat → Option Nat} (ha : ws[q0]? = some (a, .inl (cA, n, .inr (.inr (.inr (.inr f)))))) (ht : tys[t0]? = some (cA, .array .int)) {i : Int32} (hin : vp_in i n) (hdg : decode cc pc = .ok (.aastore, 1))
    (kk : ∀ (H1 : Heap) (locs1 : List Loc), va_P D cl (ws.set q0 (a, .inl (cA, n, .inr (.inr (.inr (.inr (va_up f i.toNatClampNeg none))))))) H1 → va_D A (ws.set q0 (a, .inl (cA, n, .inr (.inr (.inr (.inr (va_up f i.toNatClampNeg none))))))) → va_S A H0 H1 locs1 → W p l e R s m args below meth c H1 locs1 cells slots Q (F0 m (pc + 1) ls rest)) : W p l e R s m args below meth c H locs cells slots Q (F0 m pc ls (.null :: .int i :: .ref a :: rest)) := by
  intro T hT X
  have hcell : T.heap[a]? = some (vp_cell cA (n, .inr (.inr (.inr (.inr f))))) := by rw [hT]; exact hP q0 _ ha
  have harr := (hK.2 t0 _ ht).1 n (fun j => va_rf (f j))
  have hTa := State.isArrayOf_alike X.warmed.alike harr
  have hin' : ¬ (i < 0 ∨ (vp_cell cA (n, .inr (.inr (.inr (.inr f))))).slots.size ≤ i.toNatClampNeg) := by show ¬ (i < 0 ∨ (arrV _ _ _).slots.size ≤ _); rw [arrV_size]; exact hin
  have hfit : T.fitsSlot (vp_cell cA (n, .inr (.inr (.inr (.inr f))))).cls (vp_cell cA (n, .inr (.inr (.inr (.inr f))))).vm i.toNatClampNeg .null = true := by
    obtain ⟨hobj, k, hk, comp, hkind⟩ := hTa
    have hk : T.vm.classes[(vp_cell cA (n, .inr (.inr (.inr (.inr f))))).cls]? = some k := hk
    show T.fitsSlot _ .none _ _ = true
    simp [State.fitsSlot, State.slotType?, hk, hkind, fits]
  have X' := X.stored hcell i.toNatClampNeg .null
  have hlt : a < T.heap.size := (Array.getElem?_eq_some_iff.mp hcell).1
  obtain ⟨k1, k2, k3⟩ := rw_put (r := none) hP hD hS ha (heapAt_setCell_self (s := T) _ hlt) (by rw [size_setCell, hT]) (fun q hq => by rw [heapAt_setCell_ne _ (Ne.symm hq), hT])
  obtain ⟨t', a1, b1⟩ := kk _ _ k1 k2 k3 _ rfl X'
  refine ⟨t', ?_, b1⟩
  subst hb
  jvm_step X.here [hexec, hdg]
  refine aastore.wp_of_null (c := vp_cell cA (n, .inr (.inr (.inr (.inr f))))) (t := .array .int) X.here.top rfl hcell hTa hin' (fun q => by cases q) (Nat.not_le.mp fun q => hin' (Or.inr q)) hfit ?_
  intro acts
  rw [afterInstr_ok]
  exact a1
/-- rows of rows: a row put -/
theorem rw_aast (hexec : p.tables.exec = Jvm.exec) (hb : c.code = cc) (hK : va_K D cl tys s) (hO : va_OA s) (hP : va_P D cl ws H) (hD : va_D A ws) (hS : va_S A H0 H locs) (q0 t0 q1 t1 : Nat) {cA cB : ClassId} {n v : Nat} {x : vp_A} {f : Nat → Option Nat} (ha : ws[q0]? = some (a, .inl (cA, n, .inr (.inr (.inr (.inr f)))))) (ht : tys[t0]? = some (cA, .array .int))
    (hv : ws[q1]? = some (v, .inl (cB, x))) (ht1 : tys[t1]? = some (cB, .int)) {i : Int32} (hin : vp_in i n) (hdg : decode cc pc = .ok (.aastore, 1))
    (kk : ∀ (H1 : Heap) (locs1 : List Loc), va_P D cl (ws.set q0 (a, .inl (cA, n, .inr (.inr (.inr (.inr (va_up f i.toNatClampNeg (some v)))))))) H1 → va_D A (ws.set q0 (a, .inl (cA, n, .inr (.inr (.inr (.inr (va_up f i.toNatClampNeg (some v)))))))) → va_S A H0 H1 locs1 → W p l e R s m args below meth c H1 locs1 cells slots Q (F0 m (pc + 1) ls rest)) : W p l e R s m args below meth c H locs cells slots Q (F0 m pc ls (.ref v :: .int i :: .ref a :: rest)) := by
  have hlt : i.toNatClampNeg < n := Nat.not_le.mp fun q => hin (Or.inr q)
  have h0 : ¬ i < 0 := fun q => hin (Or.inl q)
  obtain ⟨comp, c2, kA, g1, -, g3, g4, g5⟩ := arrayOverA_spec hO
  have hcA : s.vm.findClass ("[" ++ (FieldType.array .int).toString) = some cA := (hK.2 t0 _ ht).2
  have hcB : s.vm.findClass ("[" ++ FieldType.int.toString) = some cB := (hK.2 t1 _ ht1).2
  have e1 : c2 = cA := Option.some.inj (g5.symm.trans hcA)
  have e2 : comp = cB := Option.some.inj (g1.symm.trans (by rw [← hcB]; rfl))
  subst e1; subst e2
  obtain ⟨kB, hkB, -⟩ := Vm.findClass_spec hcB
  have hcell : H[v]? = some (vp_cell comp x) := hP q1 _ hv
  have hcls : (vp_cell comp x).cls = comp := by obtain ⟨xn, y | y | y | y | y⟩ := x <;> rfl
  have hvm : (vp_cell comp x).vm = .none := by obtain ⟨xn, y | y | y | y | y⟩ := x <;> rfl
  refine W.aast hexec hb (hP q0 _ ha) (fun q h => by cases h) (fun h => by cases h) g3 g4 rfl hkB ⟨h0, by show _ < (arrV _ _ _).slots.size; rw [arrV_size]; exact hlt⟩ hcell (fun q h => by rw [hvm] at h; cases h) (by rw [hcls]; exact hkB) (by rw [hcls]; exact va_asg _ _) rfl rfl hdg fun H1 ee zz oq => ?_
  obtain ⟨k1, k2, k3⟩ := rw_put (r := some v) hP hD hS ha ee zz oq
  exact kk H1 _ k1 k2 k3
/-- an array of rows made -/
theorem rw_anew (hexec : p.tables.exec = Jvm.exec) (hb : c.code = cc) {own : String} {index : Nat} (hown : s.vm.findClass own = some m.cls) (hclink : (Cond.classLink own index "[I").before args s = true) (hO : va_OA s) (hP : va_P D cl ws H) (hD : va_D A ws) (hS : va_S A H0 H locs) (hA : ∀ q, H0.size ≤ q → A q)
    {cA : ClassId} (hcA : s.vm.findClass ("[" ++ (FieldType.array .int).toString) = some cA) {n : Int32} {N' : Nat} (hn : ¬ n < 0) (hN : n.toNatClampNeg = N') (hbytes : N' * 4 ≤ 536870912) (hcells : cells + 1 ≤ R.cells) (hslots : slots + N' ≤ R.slots) (hdg : decode cc pc = .ok (.anewarray index, 3))
    (kk : ∀ (q : Nat) (H1 : Heap), va_P D cl (ws ++ [(q, .inl (cA, N', .inr (.inr (.inr (.inr (fun _ => none))))))]) H1 → va_D A (ws ++ [(q, .inl (cA, N', .inr (.inr (.inr (.inr (fun _ => none))))))]) → va_S A H0 H1 locs → H.size ≤ H1.size →
      W p l e R s m args below meth c H1 locs (cells + 1) (slots + N') Q (F0 m (pc + 3) ls (.ref q :: rest))) : W p l e R s m args below meth c H locs cells slots Q (F0 m pc ls (.int n :: rest)) := by
  subst hN
  refine W.anewA (t := .int) hexec hb hown hclink hO rfl hdg rfl hn hbytes hcells hslots fun cA' kA comp f1 f2 f3 f4 => ?_
  have e1 : cA' = cA := Option.some.inj (f1.symm.trans hcA)
  subst e1
  generalize hH1 : H.push ({ cls := cA', slots := Array.replicate n.toNatClampNeg .null, vm := .none } : Cell) = H1
  have z1 : H1.size = H.size + 1 := by rw [← hH1, Array.size_push]
  have e1 : H1[H.size]? = some (arrV cA' n.toNatClampNeg (fun _ => .null)) := by rw [← hH1, Array.getElem?_push_size, ← arrV_new]
  have o1 : ∀ q : Nat, q < H.size → H1[q]? = H[q]? := fun q hq => by rw [← hH1, Array.getElem?_push, if_neg (Nat.ne_of_lt hq)]
  have hk : ∀ (k : Nat) (x : Nat × va_E), ws[k]? = some x → H1[x.1]? = H[x.1]? := fun k x hx => o1 x.1 ((hP k x hx).lt)
  refine kk H.size H1 ((hP.kept hk).app (fun k x hx => ?_)) (hD.push hP rfl (hA _ hS.1)) ⟨Nat.le_trans hS.1 (by omega), fun x h1 h2 => (o1 x (Nat.lt_of_lt_of_le h1 hS.1)).trans (hS.2.1 x h1 h2), hS.2.2⟩ (by omega)
  have hz : k < 1 := (List.getElem?_eq_some_iff.mp hx).1
  rw [show k = 0 by omega] at hx
  cases hx
  exact e1
end ROWS
/-! one step each: cells -/
section OPS
variable {G : qG} {M : Nat} {p : Program} {l : Launch} {e : Env} {R : Room} {s : State} {m : MethodId} {args : Array Value} {below : List Frame} {meth : Method} {c : Code} {Qf : State → Prop} {C : qC} {P : Option qV → qH → Prop} {X : Nat → qH → Prop}
variable {n : Nat} {z0 : Int} {p0 q0 r0 : Nat} {L : List (Option qV)} {S : List qV} {I : qI} {H : qS} {c' s' : Nat}
theorem so_10 (F : Fx G M p l R s m args meth c) (hc : cdM M n = (10, z0, p0, q0, r0)) (h : stA C M P X 10 z0 p0 q0 r0 n L S I H c' s' (Snd G M p l e R s m args below meth c Qf)) : Snd G M p l e R s m args below meth c Qf (n, L, S, (I, H), c', s') := by
  intro hn ad Hp locs ls hR hS hl hwl hws
  obtain ⟨T, hx, hb, hml, hown, hts, hE, hRm, hRf, hM, hnm, hbs, -⟩ := F
  obtain ⟨hd, hpc, hso, hk⟩ := dk_of T hM hn hc rfl
  have hn1 : n + 1 < szM M := Nat.le_of_ble_eq_true hk
  simp only [iOf] at hd hpc
  unfold sok at hso
  simp only [Bool.and_eq_true, decide_eq_true_eq] at hso
  obtain ⟨hin, hz0, hft⟩ := hso
  have hft := Nat.eq_of_beq_eq_true hft
  obtain ⟨hp99, hF⟩ := T.2.1 (clM M) (clM_lt T hM) _ (List.mem_of_elem_eq_true hin)
  match S, h, hws with
  | .inr (.inr (some a, k)) :: S, h, hws =>
    have hw : wr H a k := hws _ List.mem_cons_self
    have hws' : ∀ x ∈ S, wv H x := fun x hx => hws x (List.mem_cons_of_mem _ hx)
    replace h : kOk p0 k = true ∧ Snd G M p l e R s m args below meth c Qf (n + 1, L, vi (I a z0) :: S, (I, H), c', s') := h
    obtain ⟨hk14, h3, hlt, hka, hcv⟩ := own_of hR hw h.1 hp99
    obtain ⟨h11, hj, etx, efk, eft, hlk⟩ := hF k hk14 h.1
    have ezz : ((z0.toNat : Nat) : Int) = z0 := Int.toNat_of_nonneg hz0
    replace eft : ftp k z0.toNat = ftp p0 z0.toNat := eft
    replace efk : fkd k (z0.toNat : Nat) = fkd p0 (z0.toNat : Nat) := efk
    replace etx : tx k z0.toNat = tx p0 z0.toNat := etx
    replace hj : z0.toNat < nfl k := hj
    rw [List.map_cons, hcv]
    refine va_get (D := G.1) (ci := k) (v := fvl ad I H a k z0.toNat) (C := rx k) (T := tx k) (N := nfl k) hx hb hts (T.1 k h11) hown hE.1 hR.1 (a - 3) ((pool_get h3 hlt).trans (by rw [gcl_obj hka h11])) (cl_at k h11) z0.toNat hj (hts _ hlk) (fun _ h9 => h9) (fs_at hj) hd ?_
    rw [← hpc]
    have e9 : fvl ad I H a k z0.toNat = gcv G ad (vi (I a z0)) := by
      unfold fvl
      rw [if_pos (by rw [eft]; exact hft), ezz]; rfl
    rw [e9]
    refine h.2 hn1 ad Hp locs ls hR hS hl hwl (fun x hx => ?_)
    rcases List.mem_cons.mp hx with rfl | hx
    · exact hR.2.2.1.2.1 a z0 (by rw [hka]; exact ftp_lng0 h11 hj (by rw [eft, hft]; decide) ezz)
    · exact hws' x hx
  | [], h, _ => exact h.elim
  | .inl _ :: _, h, _ => exact h.elim
  | .inr (.inl _) :: _, h, _ => exact h.elim
  | .inr (.inr (none, _)) :: _, h, _ => exact h.elim
theorem so_11 (F : Fx G M p l R s m args meth c) (hc : cdM M n = (11, z0, p0, q0, r0)) (h : stA C M P X 11 z0 p0 q0 r0 n L S I H c' s' (Snd G M p l e R s m args below meth c Qf)) : Snd G M p l e R s m args below meth c Qf (n, L, S, (I, H), c', s') := by
  intro hn ad Hp locs ls hR hS hl hwl hws
  obtain ⟨T, hx, hb, hml, hown, hts, hE, hRm, hRf, hM, hnm, hbs, -⟩ := F
  obtain ⟨hd, hpc, hso, hk⟩ := dk_of T hM hn hc rfl
  have hn1 : n + 1 < szM M := Nat.le_of_ble_eq_true hk
  simp only [iOf] at hd hpc
  unfold sok at hso
  simp only [Bool.and_eq_true, decide_eq_true_eq] at hso
  obtain ⟨hin, hz0, hft⟩ := hso
  have hft := Nat.eq_of_beq_eq_true hft
  obtain ⟨hp99, hF⟩ := T.2.1 (clM M) (clM_lt T hM) _ (List.mem_of_elem_eq_true hin)
  match S, h, hws with
  | .inr (.inr (some a, k)) :: S, h, hws =>
    have hw : wr H a k := hws _ List.mem_cons_self
    have hws' : ∀ x ∈ S, wv H x := fun x hx => hws x (List.mem_cons_of_mem _ hx)
    replace h : kOk p0 k = true ∧ ∃ b, H.1 a z0 = some b ∧ Snd G M p l e R s m args below meth c Qf (n + 1, L, vr (some b) (fkd p0 z0) :: S, (I, H), c', s') := h
    obtain ⟨hk14, h3, hlt, hka, hcv⟩ := own_of hR hw h.1 hp99
    obtain ⟨h11, hj, etx, efk, eft, hlk⟩ := hF k hk14 h.1
    have ezz : ((z0.toNat : Nat) : Int) = z0 := Int.toNat_of_nonneg hz0
    replace eft : ftp k z0.toNat = ftp p0 z0.toNat := eft
    replace efk : fkd k (z0.toNat : Nat) = fkd p0 (z0.toNat : Nat) := efk
    replace etx : tx k z0.toNat = tx p0 z0.toNat := etx
    replace hj : z0.toNat < nfl k := hj
    rw [List.map_cons, hcv]
    refine va_get (D := G.1) (ci := k) (v := fvl ad I H a k z0.toNat) (C := rx k) (T := tx k) (N := nfl k) hx hb hts (T.1 k h11) hown hE.1 hR.1 (a - 3) ((pool_get h3 hlt).trans (by rw [gcl_obj hka h11])) (cl_at k h11) z0.toNat hj (hts _ hlk) (fun _ h9 => h9) (fs_at hj) hd ?_
    rw [← hpc]
    obtain ⟨b, hb9, h2⟩ := h.2
    obtain ⟨w1, w2, w3⟩ := hR.2.2.1.2.2.1 a z0 b h3 hlt hb9
    have hfk : fkd p0 z0 = fkd k z0 := by rw [ezz] at efk; exact efk.symm
    have w3 : H.2.2.1 b = fkd p0 z0 := by rw [hfk, ← hka]; exact w3
    have w4 : fkd p0 z0 < 14 := by rw [← w3]; exact hR.2.2.1.2.2.2.2.1 b
    have w5 : wr H b (fkd p0 z0) := by unfold wr; rw [if_neg (by omega), if_neg (by omega), if_neg (by omega)]; exact ⟨w1, w2, w3⟩
    have e9 : fvl ad I H a k z0.toNat = gcv G ad (vr (some b) (fkd p0 z0)) := by
      unfold fvl
      rw [if_neg (by rw [eft, hft]; decide), if_pos (by rw [eft]; exact hft), ezz, hb9, (arr_of w5 w4).2.2.2]; rfl
    rw [e9]
    refine h2 hn1 ad Hp locs ls hR hS hl hwl (fun x hx => ?_)
    rcases List.mem_cons.mp hx with rfl | hx
    · exact w5
    · exact hws' x hx
  | [], h, _ => exact h.elim
  | .inl _ :: _, h, _ => exact h.elim
  | .inr (.inl _) :: _, h, _ => exact h.elim
  | .inr (.inr (none, _)) :: _, h, _ => exact h.elim
theorem so_12 (F : Fx G M p l R s m args meth c) (hc : cdM M n = (12, z0, p0, q0, r0)) (h : stA C M P X 12 z0 p0 q0 r0 n L S I H c' s' (Snd G M p l e R s m args below meth c Qf)) : Snd G M p l e R s m args below meth c Qf (n, L, S, (I, H), c', s') := by
  intro hn ad Hp locs ls hR hS hl hwl hws
  obtain ⟨T, hx, hb, hml, hown, hts, hE, hRm, hRf, hM, hnm, hbs, -⟩ := F
  obtain ⟨hd, hpc, hso, hk⟩ := dk_of T hM hn hc rfl
  have hn1 : n + 1 < szM M := Nat.le_of_ble_eq_true hk
  simp only [iOf] at hd hpc
  unfold sok at hso
  simp only [Bool.and_eq_true, decide_eq_true_eq] at hso
  obtain ⟨hin, hz0, hft⟩ := hso
  have hft := Nat.eq_of_beq_eq_true hft
  obtain ⟨hp99, hF⟩ := T.2.1 (clM M) (clM_lt T hM) _ (List.mem_of_elem_eq_true hin)
  match S, h, hws with
  | .inr (.inr (some a, k)) :: S, h, hws =>
    have hw : wr H a k := hws _ List.mem_cons_self
    have hws' : ∀ x ∈ S, wv H x := fun x hx => hws x (List.mem_cons_of_mem _ hx)
    replace h : kOk p0 k = true ∧ Snd G M p l e R s m args below meth c Qf (n + 1, L, vl (I a z0) :: S, (I, H), c', s') := h
    obtain ⟨hk14, h3, hlt, hka, hcv⟩ := own_of hR hw h.1 hp99
    obtain ⟨h11, hj, etx, efk, eft, hlk⟩ := hF k hk14 h.1
    have ezz : ((z0.toNat : Nat) : Int) = z0 := Int.toNat_of_nonneg hz0
    replace eft : ftp k z0.toNat = ftp p0 z0.toNat := eft
    replace efk : fkd k (z0.toNat : Nat) = fkd p0 (z0.toNat : Nat) := efk
    replace etx : tx k z0.toNat = tx p0 z0.toNat := etx
    replace hj : z0.toNat < nfl k := hj
    rw [List.map_cons, hcv]
    refine va_get (D := G.1) (ci := k) (v := fvl ad I H a k z0.toNat) (C := rx k) (T := tx k) (N := nfl k) hx hb hts (T.1 k h11) hown hE.1 hR.1 (a - 3) ((pool_get h3 hlt).trans (by rw [gcl_obj hka h11])) (cl_at k h11) z0.toNat hj (hts _ hlk) (fun _ h9 => h9) (fs_at hj) hd ?_
    rw [← hpc]
    have e9 : fvl ad I H a k z0.toNat = gcv G ad (vl (I a z0)) := by
      unfold fvl
      rw [if_neg (by rw [eft, hft]; decide), if_neg (by rw [eft, hft]; decide), ezz]; rfl
    rw [e9]
    refine h.2 hn1 ad Hp locs ls hR hS hl hwl (fun x hx => ?_)
    rcases List.mem_cons.mp hx with rfl | hx
    · exact hR.2.2.1.1 a z0
    · exact hws' x hx
  | [], h, _ => exact h.elim
  | .inl _ :: _, h, _ => exact h.elim
  | .inr (.inl _) :: _, h, _ => exact h.elim
  | .inr (.inr (none, _)) :: _, h, _ => exact h.elim
theorem so_13 (F : Fx G M p l R s m args meth c) (hc : cdM M n = (13, z0, p0, q0, r0)) (h : stA C M P X 13 z0 p0 q0 r0 n L S I H c' s' (Snd G M p l e R s m args below meth c Qf)) : Snd G M p l e R s m args below meth c Qf (n, L, S, (I, H), c', s') := by
  intro hn ad Hp locs ls hR hS hl hwl hws
  obtain ⟨T, hx, hb, hml, hown, hts, hE, hRm, hRf, hM, hnm, hbs, -⟩ := F
  obtain ⟨hd, hpc, hso, hk⟩ := dk_of T hM hn hc rfl
  have hn1 : n + 1 < szM M := Nat.le_of_ble_eq_true hk
  simp only [iOf] at hd hpc
  unfold sok at hso
  simp only [Bool.and_eq_true, decide_eq_true_eq] at hso
  obtain ⟨hin, ⟨⟨hz0, hft⟩, hfin⟩, hbl⟩ := hso
  have hft := Nat.eq_of_beq_eq_true hft
  obtain ⟨hp99, hF⟩ := T.2.1 (clM M) (clM_lt T hM) _ (List.mem_of_elem_eq_true hin)
  match S, h, hws with
  | .inl v :: .inr (.inr (some a, k)) :: S, h, hws =>
    have hv := hws _ List.mem_cons_self
    have hw : wr H a k := hws _ (List.mem_cons_of_mem _ List.mem_cons_self)
    have hws' : ∀ x ∈ S, wv H x := fun x hx => hws x (List.mem_cons_of_mem _ (List.mem_cons_of_mem _ hx))
    replace h : (kOk p0 k = true ∧ (bif fbl p0 z0 then v = 0 ∨ v = 1 else True)) ∧ Snd G M p l e R s m args below meth c Qf (n + 1, L, S, (upI I a z0 v, H), c', s') := h
    obtain ⟨hk14, h3, hlt, hka, hcv⟩ := own_of hR hw h.1.1 hp99
    obtain ⟨h11, hj, etx, efk, eft, hlk⟩ := hF k hk14 h.1.1
    have ezz : ((z0.toNat : Nat) : Int) = z0 := Int.toNat_of_nonneg hz0
    replace eft : ftp k z0.toNat = ftp p0 z0.toNat := eft
    replace efk : fkd k (z0.toNat : Nat) = fkd p0 (z0.toNat : Nat) := efk
    replace etx : tx k z0.toNat = tx p0 z0.toNat := etx
    replace hj : z0.toNat < nfl k := hj
    have hfk : fkd p0 z0 = fkd k z0 := by rw [ezz] at efk; exact efk.symm
    have hftk : ftp k z0.toNat = 0 := by rw [eft]; exact hft
    have hty : narrow (tyx k z0.toNat) (.int (Int32.ofInt v)) = .int (Int32.ofInt v) ∧ fits (tyx k z0.toNat) (.int (Int32.ofInt v)) = true := by
      rcases ftp_ty k h11 _ hj with ⟨-, h9 | h9⟩ | ⟨h9, -⟩ | ⟨h9, -⟩
      · rw [h9]; exact ⟨rfl, rfl⟩
      · have h8 : v = 0 ∨ v = 1 := by
          have h7 := h.1.2
          rcases hbl with hbl | hbl
          · rw [hbl] at h7; exact h7
          · rw [tyx_same h.1.1 hp99 hk14 h11 hj etx, hbl] at h9; cases h9
        rw [h9]
        rcases h8 with rfl | rfl <;> exact ⟨rfl, rfl⟩
      · rw [hftk] at h9; cases h9
      · rw [hftk] at h9; cases h9
    have hput : ∀ (H1 : Heap) (locs1 : List Loc), va_P G.1 vwCl ((gpl G ad (I, H)).set (a - 3) (ad a, .inr (k, ((List.range (nfl k)).map (fvl ad I H a k)).set z0.toNat (.int (Int32.ofInt v))))) H1 → va_D (gA G) ((gpl G ad (I, H)).set (a - 3) (ad a, .inr (k, ((List.range (nfl k)).map (fvl ad I H a k)).set z0.toNat (.int (Int32.ofInt v))))) → va_S (gA G) s.heap H1 locs1 → W p l e R s m args below meth c H1 locs1 c' s' Qf (F0 m (pcM M n + 3) ls (S.map (gcv G ad))) := by
      intro H1 locs1 hP1 hD1 hS1
      rw [← hpc]
      refine h.2 hn1 ad H1 locs1 ls (hR.put h3 hlt rfl ?_ ?_ ?_ hP1 hD1 (Nat.le_trans hbs hS1.1)) hS1 hl hwl hws'
      · exact fun b hb9 => gcl_I (upI_ne hb9)
      · show gcl G ad (upI I a z0 v) H a = _
        have e := ecl_putI (G := G) (ad := ad) (I := I) (H := H) (a := a) (j := z0.toNat) (z := v) (by rw [hka]; exact h11) (by rw [hka]; exact hftk)
        rw [ezz, hka] at e
        exact e
      · exact hR.2.2.1.upI h3 (inR_L hv) (fun _ => hv)
    have e7 : (.inr (H.2.2.1 a, (List.range (nfl (H.2.2.1 a))).map (fvl ad I H a (H.2.2.1 a))) : va_E) = .inr (k, (List.range (nfl k)).map (fvl ad I H a k)) := by rw [hka]
    rw [List.map_cons, List.map_cons, hcv, show gcv G ad (.inl v) = .int (Int32.ofInt v) from rfl]
    rcases hfin with hfin | ⟨hfin1, hfin2⟩
    · exact va_put (D := G.1) (ci := k) (v := .int (Int32.ofInt v)) (ty := tyx k z0.toNat) (C := rx k) (T := tx k) (N := nfl k) hx hb hts (T.1 k h11) (tyx k) (ty_ok k h11) (nm_ok k h11) hown hE.1 hR.1 hR.2.1 hS (a - 3) ((pool_get h3 hlt).trans (by rw [gcl_obj hka h11])) (cl_at k h11) z0.toNat hj (hts _ hlk) (fun _ h9 => h9) (by rw [etx]; exact hfin) (ty_ok k h11 _ hj) hty.1 hty.2 (by simpa using hj) hd hput
    · by_cases hff : (tx k z0.toNat).2.2.2 = false
      · exact va_put (D := G.1) (ci := k) (v := .int (Int32.ofInt v)) (ty := tyx k z0.toNat) (C := rx k) (T := tx k) (N := nfl k) hx hb hts (T.1 k h11) (tyx k) (ty_ok k h11) (nm_ok k h11) hown hE.1 hR.1 hR.2.1 hS (a - 3) ((pool_get h3 hlt).trans (by rw [gcl_obj hka h11])) (cl_at k h11) z0.toNat hj (hts _ hlk) (fun _ h9 => h9) hff (ty_ok k h11 _ hj) hty.1 hty.2 (by simpa using hj) hd hput
      · exact va_putF (D := G.1) (ci := k) (v := .int (Int32.ofInt v)) (ty := tyx k z0.toNat) (C := rx k) (T := tx k) (N := nfl k) hx hb hts (T.1 k h11) (tyx k) (ty_ok k h11) (nm_ok k h11) hown hE.1 hR.1 hR.2.1 hS (a - 3) ((pool_get h3 hlt).trans (by rw [gcl_obj hka h11])) (cl_at k h11) z0.toNat hj (hts _ hlk) (fun _ h9 => h9) (by simpa using hff) (by rw [hnm]; exact hfin1) (by rw [etx]; exact hfin2) (ty_ok k h11 _ hj) hty.1 hty.2 (by simpa using hj) hd hput
  | [], h, _ => exact h.elim
  | .inl _ :: [], h, _ => exact h.elim
  | .inl _ :: .inl _ :: _, h, _ => exact h.elim
  | .inl _ :: .inr (.inl _) :: _, h, _ => exact h.elim
  | .inl _ :: .inr (.inr (none, _)) :: _, h, _ => exact h.elim
  | .inr _ :: _, h, _ => exact h.elim
theorem so_14 (F : Fx G M p l R s m args meth c) (hc : cdM M n = (14, z0, p0, q0, r0)) (h : stA C M P X 14 z0 p0 q0 r0 n L S I H c' s' (Snd G M p l e R s m args below meth c Qf)) : Snd G M p l e R s m args below meth c Qf (n, L, S, (I, H), c', s') := by
  intro hn ad Hp locs ls hR hS hl hwl hws
  obtain ⟨T, hx, hb, hml, hown, hts, hE, hRm, hRf, hM, hnm, hbs, -⟩ := F
  obtain ⟨hd, hpc, hso, hk⟩ := dk_of T hM hn hc rfl
  have hn1 : n + 1 < szM M := Nat.le_of_ble_eq_true hk
  simp only [iOf] at hd hpc
  unfold sok at hso
  simp only [Bool.and_eq_true, decide_eq_true_eq] at hso
  obtain ⟨hin, ⟨hz0, hft⟩, hfin⟩ := hso
  have hft := Nat.eq_of_beq_eq_true hft
  obtain ⟨hp99, hF⟩ := T.2.1 (clM M) (clM_lt T hM) _ (List.mem_of_elem_eq_true hin)
  match S, h, hws with
  | .inr (.inr (some b, j9)) :: .inr (.inr (some a, k)) :: S, h, hws =>
    have hv := hws _ List.mem_cons_self
    have hw : wr H a k := hws _ (List.mem_cons_of_mem _ List.mem_cons_self)
    have hws' : ∀ x ∈ S, wv H x := fun x hx => hws x (List.mem_cons_of_mem _ (List.mem_cons_of_mem _ hx))
    replace h : (kOk p0 k = true ∧ j9 = fkd p0 z0) ∧ Snd G M p l e R s m args below meth c Qf (n + 1, L, S, (I, (upR H.1 a z0 (some b), H.2)), c', s') := h
    obtain ⟨hk14, h3, hlt, hka, hcv⟩ := own_of hR hw h.1.1 hp99
    obtain ⟨h11, hj, etx, efk, eft, hlk⟩ := hF k hk14 h.1.1
    have ezz : ((z0.toNat : Nat) : Int) = z0 := Int.toNat_of_nonneg hz0
    replace eft : ftp k z0.toNat = ftp p0 z0.toNat := eft
    replace efk : fkd k (z0.toNat : Nat) = fkd p0 (z0.toNat : Nat) := efk
    replace etx : tx k z0.toNat = tx p0 z0.toNat := etx
    replace hj : z0.toNat < nfl k := hj
    have hfk : fkd p0 z0 = fkd k z0 := by rw [ezz] at efk; exact efk.symm
    have hftk : ftp k z0.toNat = 1 := by rw [eft]; exact hft
    have hv : wr H b j9 := hv
    have hj14 : j9 < 14 := by rw [h.1.2, hfk]; exact fkd_lt h11 hj ezz
    obtain ⟨v3, vlt, vka, vcv⟩ := arr_of (G := G) (ad := ad) hv hj14
    have hty : narrow (tyx k z0.toNat) (va_rf ((some b).map ad)) = va_rf ((some b).map ad) ∧ fits (tyx k z0.toNat) (va_rf ((some b).map ad)) = true := by
      rcases ftp_ty k h11 _ hj with ⟨h9, -⟩ | ⟨-, h9⟩ | ⟨h9, -⟩
      · rw [hftk] at h9; cases h9
      · exact ty_fits h9 _
      · rw [hftk] at h9; cases h9
    have hput : ∀ (H1 : Heap) (locs1 : List Loc), va_P G.1 vwCl ((gpl G ad (I, H)).set (a - 3) (ad a, .inr (k, ((List.range (nfl k)).map (fvl ad I H a k)).set z0.toNat (va_rf ((some b).map ad))))) H1 → va_D (gA G) ((gpl G ad (I, H)).set (a - 3) (ad a, .inr (k, ((List.range (nfl k)).map (fvl ad I H a k)).set z0.toNat (va_rf ((some b).map ad))))) → va_S (gA G) s.heap H1 locs1 → W p l e R s m args below meth c H1 locs1 c' s' Qf (F0 m (pcM M n + 3) ls (S.map (gcv G ad))) := by
      intro H1 locs1 hP1 hD1 hS1
      rw [← hpc]
      refine h.2 hn1 ad H1 locs1 ls (hR.put h3 hlt rfl ?_ ?_ ?_ hP1 hD1 (Nat.le_trans hbs hS1.1)) hS1 hl hwl hws'
      · exact fun b9 hb9 => gcl_R (upR_ne hb9)
      · show gcl G ad I (upR H.1 a z0 (some b), H.2) a = _
        have e := ecl_putR (G := G) (ad := ad) (I := I) (H := H) (a := a) (j := z0.toNat) (o := some b) (by rw [hka]; exact h11) (by rw [hka]; exact hftk)
        rw [ezz, hka] at e
        exact e
      · refine hR.2.2.1.upR (fun b9 hb9 => ?_)
        cases hb9
        exact ⟨v3, vlt, by rw [hka, ← hfk, ← h.1.2]; exact vka⟩
    have e7 : (.inr (H.2.2.1 a, (List.range (nfl (H.2.2.1 a))).map (fvl ad I H a (H.2.2.1 a))) : va_E) = .inr (k, (List.range (nfl k)).map (fvl ad I H a k)) := by rw [hka]
    rw [List.map_cons, List.map_cons, hcv, show gcv G ad (.inr (.inr (some b, j9))) = va_rf ((some b).map ad) from vcv]
    rcases hfin with hfin | ⟨hfin1, hfin2⟩
    · exact va_put (D := G.1) (ci := k) (v := va_rf ((some b).map ad)) (ty := tyx k z0.toNat) (C := rx k) (T := tx k) (N := nfl k) hx hb hts (T.1 k h11) (tyx k) (ty_ok k h11) (nm_ok k h11) hown hE.1 hR.1 hR.2.1 hS (a - 3) ((pool_get h3 hlt).trans (by rw [gcl_obj hka h11])) (cl_at k h11) z0.toNat hj (hts _ hlk) (fun _ h9 => h9) (by rw [etx]; exact hfin) (ty_ok k h11 _ hj) hty.1 hty.2 (by simpa using hj) hd hput
    · by_cases hff : (tx k z0.toNat).2.2.2 = false
      · exact va_put (D := G.1) (ci := k) (v := va_rf ((some b).map ad)) (ty := tyx k z0.toNat) (C := rx k) (T := tx k) (N := nfl k) hx hb hts (T.1 k h11) (tyx k) (ty_ok k h11) (nm_ok k h11) hown hE.1 hR.1 hR.2.1 hS (a - 3) ((pool_get h3 hlt).trans (by rw [gcl_obj hka h11])) (cl_at k h11) z0.toNat hj (hts _ hlk) (fun _ h9 => h9) hff (ty_ok k h11 _ hj) hty.1 hty.2 (by simpa using hj) hd hput
      · exact va_putF (D := G.1) (ci := k) (v := va_rf ((some b).map ad)) (ty := tyx k z0.toNat) (C := rx k) (T := tx k) (N := nfl k) hx hb hts (T.1 k h11) (tyx k) (ty_ok k h11) (nm_ok k h11) hown hE.1 hR.1 hR.2.1 hS (a - 3) ((pool_get h3 hlt).trans (by rw [gcl_obj hka h11])) (cl_at k h11) z0.toNat hj (hts _ hlk) (fun _ h9 => h9) (by simpa using hff) (by rw [hnm]; exact hfin1) (by rw [etx]; exact hfin2) (ty_ok k h11 _ hj) hty.1 hty.2 (by simpa using hj) hd hput
  | [], h, _ => exact h.elim
  | .inl _ :: _, h, _ => exact h.elim
  | .inr (.inl _) :: _, h, _ => exact h.elim
  | .inr (.inr (none, _)) :: _, h, _ => exact h.elim
  | .inr (.inr (some _, _)) :: [], h, _ => exact h.elim
  | .inr (.inr (some _, _)) :: .inl _ :: _, h, _ => exact h.elim
  | .inr (.inr (some _, _)) :: .inr (.inl _) :: _, h, _ => exact h.elim
  | .inr (.inr (some _, _)) :: .inr (.inr (none, _)) :: _, h, _ => exact h.elim
theorem so_15 (F : Fx G M p l R s m args meth c) (hc : cdM M n = (15, z0, p0, q0, r0)) (h : stA C M P X 15 z0 p0 q0 r0 n L S I H c' s' (Snd G M p l e R s m args below meth c Qf)) : Snd G M p l e R s m args below meth c Qf (n, L, S, (I, H), c', s') := by
  intro hn ad Hp locs ls hR hS hl hwl hws
  obtain ⟨T, hx, hb, hml, hown, hts, hE, hRm, hRf, hM, hnm, hbs, -⟩ := F
  obtain ⟨hd, hpc, hso, hk⟩ := dk_of T hM hn hc rfl
  have hn1 : n + 1 < szM M := Nat.le_of_ble_eq_true hk
  simp only [iOf] at hd hpc
  unfold sok at hso
  simp only [Bool.and_eq_true, decide_eq_true_eq] at hso
  obtain ⟨hin, ⟨hz0, hft⟩, hfin⟩ := hso
  have hft := Nat.eq_of_beq_eq_true hft
  obtain ⟨hp99, hF⟩ := T.2.1 (clM M) (clM_lt T hM) _ (List.mem_of_elem_eq_true hin)
  match S, h, hws with
  | .inr (.inl v) :: .inr (.inr (some a, k)) :: S, h, hws =>
    have hv := hws _ List.mem_cons_self
    have hw : wr H a k := hws _ (List.mem_cons_of_mem _ List.mem_cons_self)
    have hws' : ∀ x ∈ S, wv H x := fun x hx => hws x (List.mem_cons_of_mem _ (List.mem_cons_of_mem _ hx))
    replace h : kOk p0 k = true ∧ Snd G M p l e R s m args below meth c Qf (n + 1, L, S, (upI I a z0 v, H), c', s') := h
    obtain ⟨hk14, h3, hlt, hka, hcv⟩ := own_of hR hw h.1 hp99
    obtain ⟨h11, hj, etx, efk, eft, hlk⟩ := hF k hk14 h.1
    have ezz : ((z0.toNat : Nat) : Int) = z0 := Int.toNat_of_nonneg hz0
    replace eft : ftp k z0.toNat = ftp p0 z0.toNat := eft
    replace efk : fkd k (z0.toNat : Nat) = fkd p0 (z0.toNat : Nat) := efk
    replace etx : tx k z0.toNat = tx p0 z0.toNat := etx
    replace hj : z0.toNat < nfl k := hj
    have hfk : fkd p0 z0 = fkd k z0 := by rw [ezz] at efk; exact efk.symm
    have hftk : ftp k z0.toNat = 2 := by rw [eft]; exact hft
    have hty : narrow (tyx k z0.toNat) (.long (Int64.ofInt v)) = .long (Int64.ofInt v) ∧ fits (tyx k z0.toNat) (.long (Int64.ofInt v)) = true := by
      rcases ftp_ty k h11 _ hj with ⟨h9, -⟩ | ⟨h9, -⟩ | ⟨-, h9⟩
      · rw [hftk] at h9; cases h9
      · rw [hftk] at h9; cases h9
      · rw [h9]; exact ⟨rfl, rfl⟩
    have hput : ∀ (H1 : Heap) (locs1 : List Loc), va_P G.1 vwCl ((gpl G ad (I, H)).set (a - 3) (ad a, .inr (k, ((List.range (nfl k)).map (fvl ad I H a k)).set z0.toNat (.long (Int64.ofInt v))))) H1 → va_D (gA G) ((gpl G ad (I, H)).set (a - 3) (ad a, .inr (k, ((List.range (nfl k)).map (fvl ad I H a k)).set z0.toNat (.long (Int64.ofInt v))))) → va_S (gA G) s.heap H1 locs1 → W p l e R s m args below meth c H1 locs1 c' s' Qf (F0 m (pcM M n + 3) ls (S.map (gcv G ad))) := by
      intro H1 locs1 hP1 hD1 hS1
      rw [← hpc]
      refine h.2 hn1 ad H1 locs1 ls (hR.put h3 hlt rfl ?_ ?_ ?_ hP1 hD1 (Nat.le_trans hbs hS1.1)) hS1 hl hwl hws'
      · exact fun b hb9 => gcl_I (upI_ne hb9)
      · show gcl G ad (upI I a z0 v) H a = _
        have e := ecl_putL (G := G) (ad := ad) (I := I) (H := H) (a := a) (j := z0.toNat) (z := v) (by rw [hka]; exact h11) (by rw [hka]; exact hftk)
        rw [ezz, hka] at e
        exact e
      · refine hR.2.2.1.upI h3 hv (fun q => ?_)
        rw [hka] at q
        rw [ftp_lng h11 hj hftk ezz] at q
        cases q
    have e7 : (.inr (H.2.2.1 a, (List.range (nfl (H.2.2.1 a))).map (fvl ad I H a (H.2.2.1 a))) : va_E) = .inr (k, (List.range (nfl k)).map (fvl ad I H a k)) := by rw [hka]
    rw [List.map_cons, List.map_cons, hcv, show gcv G ad (.inr (.inl v)) = .long (Int64.ofInt v) from rfl]
    rcases hfin with hfin | ⟨hfin1, hfin2⟩
    · exact va_put (D := G.1) (ci := k) (v := .long (Int64.ofInt v)) (ty := tyx k z0.toNat) (C := rx k) (T := tx k) (N := nfl k) hx hb hts (T.1 k h11) (tyx k) (ty_ok k h11) (nm_ok k h11) hown hE.1 hR.1 hR.2.1 hS (a - 3) ((pool_get h3 hlt).trans (by rw [gcl_obj hka h11])) (cl_at k h11) z0.toNat hj (hts _ hlk) (fun _ h9 => h9) (by rw [etx]; exact hfin) (ty_ok k h11 _ hj) hty.1 hty.2 (by simpa using hj) hd hput
    · by_cases hff : (tx k z0.toNat).2.2.2 = false
      · exact va_put (D := G.1) (ci := k) (v := .long (Int64.ofInt v)) (ty := tyx k z0.toNat) (C := rx k) (T := tx k) (N := nfl k) hx hb hts (T.1 k h11) (tyx k) (ty_ok k h11) (nm_ok k h11) hown hE.1 hR.1 hR.2.1 hS (a - 3) ((pool_get h3 hlt).trans (by rw [gcl_obj hka h11])) (cl_at k h11) z0.toNat hj (hts _ hlk) (fun _ h9 => h9) hff (ty_ok k h11 _ hj) hty.1 hty.2 (by simpa using hj) hd hput
      · exact va_putF (D := G.1) (ci := k) (v := .long (Int64.ofInt v)) (ty := tyx k z0.toNat) (C := rx k) (T := tx k) (N := nfl k) hx hb hts (T.1 k h11) (tyx k) (ty_ok k h11) (nm_ok k h11) hown hE.1 hR.1 hR.2.1 hS (a - 3) ((pool_get h3 hlt).trans (by rw [gcl_obj hka h11])) (cl_at k h11) z0.toNat hj (hts _ hlk) (fun _ h9 => h9) (by simpa using hff) (by rw [hnm]; exact hfin1) (by rw [etx]; exact hfin2) (ty_ok k h11 _ hj) hty.1 hty.2 (by simpa using hj) hd hput
  | [], h, _ => exact h.elim
  | .inl _ :: _, h, _ => exact h.elim
  | .inr (.inr _) :: _, h, _ => exact h.elim
  | .inr (.inl _) :: [], h, _ => exact h.elim
  | .inr (.inl _) :: .inl _ :: _, h, _ => exact h.elim
  | .inr (.inl _) :: .inr (.inl _) :: _, h, _ => exact h.elim
  | .inr (.inl _) :: .inr (.inr (none, _)) :: _, h, _ => exact h.elim
end OPS
