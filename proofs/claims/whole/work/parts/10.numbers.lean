/-! laws that the steps on numbers want -/
section PRE
variable {p : Program} {l : Launch} {e : Env} {R : Room} {s : State} {m : MethodId} {args : Array Value} {below : List Frame} {meth : Method} {c : Code} {H : Heap} {locs : List Loc} {cells slots : Nat} {Q : State → Prop}
theorem rw_ldcS {cc : ByteArray} {pc : Nat} {ls : Array Slot} {rest : List Value} (hexec : p.tables.exec = Jvm.exec) (hb : c.code = cc) {own tx : String} {index q : Nat} (hown : s.vm.findClass own = some m.cls) (hZ : vk_R own index tx q s) (hdg : decode cc pc = .ok (.ldc_w index, 3))
    (k : W p l e R s m args below meth c H locs cells slots Q (F0 m (pc + 3) ls (.ref q :: rest))) : W p l e R s m args below meth c H locs cells slots Q (F0 m pc ls rest) := by
  intro T hT X
  obtain ⟨t, a1, b1⟩ := k T hT X
  exact ⟨t, Stand.ldcStringW X hexec hown (text := tx) (a := q) hZ.1 hZ.2 (g := F0 m pc ls rest) rfl (by rw [hb]; exact hdg) t a1, b1⟩
end PRE
theorem ol_cmp {a b : Int} (ha : inL a) (hb : inL b) : lg_cmp (Int64.ofInt a) (Int64.ofInt b) = Int32.ofInt (zcmp a b) := by
  unfold lg_cmp zcmp
  have h1 : Int64.ofInt b < Int64.ofInt a ↔ b < a := by rw [Int64.lt_iff_toInt_lt, ol_toInt ha, ol_toInt hb]
  have h2 : Int64.ofInt a < Int64.ofInt b ↔ a < b := by rw [Int64.lt_iff_toInt_lt, ol_toInt ha, ol_toInt hb]
  have h3 : Int64.ofInt a = Int64.ofInt b ↔ a = b := ⟨fun h => by rw [← ol_toInt ha, ← ol_toInt hb, h], fun h => by rw [h]⟩
  simp only [h1, h2, h3]
  rcases Int.lt_trichotomy a b with h | h | h
  · simp [h, Int.not_lt.mpr (Int.le_of_lt h), Int.ne_of_lt h]
  · simp [h]
  · simp [h, Int.not_lt.mpr (Int.le_of_lt h), Ne.symm (Int.ne_of_lt h)]
/-- a number set where a number was: what stood before it isn't touched -/
theorem lvl_set0 {G : qG} {ad : Nat → Nat} {L : List (Option qV)} {ls ls' : Array Slot} {n i : Nat} {a v : Int}
    (h : lv_has ls' n ((i, gcv G ad (vi v)) :: (lvl G ad L).filter (fun q => !(q.1 == i) && !(q.1 + 1 == i && q.2.category == 2)))) (h0 : lv_has ls n (lvl G ad L)) (ha : L.getD i none = some (vi a)) : lv_has ls' n (lvl G ad (lst L i (vi v))) := by
  refine lv_weak h ?_
  rintro ⟨j, w⟩ hq
  obtain ⟨u, hu, rfl⟩ := lvl_mem.mp hq
  rcases getD_set (L := L) (i := i) (o := some (vi v)) hu with ⟨rfl, e⟩ | ⟨hj, e⟩
  · cases e
    exact List.mem_cons_self
  · refine List.mem_cons_of_mem _ (List.mem_filter.mpr ⟨lvl_mem.mpr ⟨u, e, rfl⟩, ?_⟩)
    by_cases h2 : j + 1 = i
    · have hc : (gcv G ad u).category ≠ 2 := by
        intro q
        have h3 := h0.2.1.1 j _ (lvl_at h0 e) q
        rw [h2, lvl_at h0 ha] at h3
        cases h3
      simp [hj, hc]
    · simp [hj, h2]
/-! one step each: numbers, branches -/
section OPS
variable {G : qG} {M : Nat} {p : Program} {l : Launch} {e : Env} {R : Room} {s : State} {m : MethodId} {args : Array Value} {below : List Frame} {meth : Method} {c : Code} {Qf : State → Prop} {C : qC} {P : Option qV → qH → Prop} {X : Nat → qH → Prop}
variable {n : Nat} {z0 : Int} {p0 q0 r0 : Nat} {L : List (Option qV)} {S : List qV} {I : qI} {H : qS} {c' s' : Nat}
theorem so_6 (F : Fx G M p l R s m args meth c) (hc : cdM M n = (6, z0, p0, q0, r0)) (h : stA C M P X 6 z0 p0 q0 r0 n L S I H c' s' (Snd G M p l e R s m args below meth c Qf)) : Snd G M p l e R s m args below meth c Qf (n, L, S, (I, H), c', s') := by
  intro hn ad Hp locs ls hR hS hl hwl hws
  obtain ⟨T, hx, hb, hml, hown, hts, hE, -, -, hM, -⟩ := F
  obtain ⟨hd, hpc, hso, hk⟩ := dk_of T hM hn hc rfl
  have hn1 : n + 1 < szM M := Nat.le_of_ble_eq_true hk
  have hz : inR z0 := by
    unfold sok at hso
    simp only [Bool.or_eq_true, Bool.and_eq_true, decide_eq_true_eq] at hso
    rcases hso with ⟨⟨h1, h2⟩, -⟩ | ⟨rfl, -⟩
    · exact ⟨by omega, by omega⟩
    · exact ⟨by decide, by decide⟩
  have k := (show Snd G M p l e R s m args below meth c Qf (n + 1, L, vi z0 :: S, (I, H), c', s') from h) hn1 ad Hp locs ls hR hS hl hwl (fun x hx => by rcases List.mem_cons.mp hx with rfl | hx; exact hz; exact hws x hx)
  unfold sok at hso
  simp only [Bool.or_eq_true, Bool.and_eq_true, decide_eq_true_eq] at hso
  by_cases e0 : r0 = 0
  · simp only [iOf, if_pos e0] at hd hpc
    refine lv_iconst (v := Int32.ofInt z0) hx hb hd rfl ?_
    rw [← hpc]; exact k
  by_cases e1 : r0 = 1
  · simp only [iOf, if_neg e0, if_pos e1] at hd hpc
    refine lv_bipush (v := Int32.ofInt z0) hx hb hd ?_ ?_
    · rcases hso with ⟨⟨h1, h2⟩, ⟨-, -⟩, h3⟩ | ⟨-, h3, -⟩
      · rw [e1] at h3
        simp only [show Nat.beq 1 1 = true from rfl, Bool.not_true, Bool.false_eq_true, false_or] at h3
        apply Int32.toInt_inj.mp
        rw [oi_toInt hz, Int8.toInt_toInt32]
        rw [Int8.toInt_ofInt_of_le (by omega) (by omega)]
      · have := Nat.le_of_ble_eq_true h3; omega
    · rw [← hpc]; exact k
  by_cases e2 : r0 = 2
  · simp only [iOf, if_neg e0, if_neg e1, if_pos e2] at hd hpc
    refine lv_sipush (v := Int32.ofInt z0) hx hb hd ?_ ?_
    · have h12 : -32768 ≤ z0 ∧ z0 ≤ 32767 := by
        rcases hso with ⟨h1, -⟩ | ⟨-, h3, -⟩
        · exact h1
        · have := Nat.le_of_ble_eq_true h3; omega
      apply Int32.toInt_inj.mp
      rw [oi_toInt hz, Int16.toInt_toInt32]
      rw [Int16.toInt_ofInt_of_le (by omega) (by omega)]
    · rw [← hpc]; exact k
  have hcst : z0 = 1103515245 ∧ ((clM M = 9 ∧ q0 = 323) ∨ (clM M = 10 ∧ q0 = 328)) := by
    rcases hso with ⟨-, ⟨h3, -⟩, -⟩ | ⟨h1, -, h3⟩
    · have := Nat.le_of_ble_eq_true h3; omega
    · refine ⟨h1, ?_⟩
      rcases h3 with ⟨a, b⟩ | ⟨a, b⟩
      · exact Or.inl ⟨Nat.eq_of_beq_eq_true a, Nat.eq_of_beq_eq_true b⟩
      · exact Or.inr ⟨Nat.eq_of_beq_eq_true a, Nat.eq_of_beq_eq_true b⟩
  have hcon : (Cond.constant (cnm (clM M)) q0 (Int32.ofInt z0)).before args s = true := by
    obtain ⟨rfl, ⟨h1, rfl⟩ | ⟨h1, rfl⟩⟩ := hcst
    · rw [h1]; exact hts _ (T.2.2.2.2.2.2.1)
    · rw [h1]; exact hts _ T.2.2.2.2.2.2.2
  by_cases e3 : r0 = 3
  · simp only [iOf, if_neg e0, if_neg e1, if_neg e2, if_pos e3] at hd hpc
    refine lv_ldc hx hb hown hcon hd ?_
    rw [← hpc]; exact k
  · simp only [iOf, if_neg e0, if_neg e1, if_neg e2, if_neg e3] at hd hpc
    refine lv_ldcw hx hb hown hcon hd ?_
    rw [← hpc]; exact k
theorem so_7 (F : Fx G M p l R s m args meth c) (hc : cdM M n = (7, z0, p0, q0, r0)) (h : stA C M P X 7 z0 p0 q0 r0 n L S I H c' s' (Snd G M p l e R s m args below meth c Qf)) : Snd G M p l e R s m args below meth c Qf (n, L, S, (I, H), c', s') := by
  intro hn ad Hp locs ls hR hS hl hwl hws
  obtain ⟨T, hx, hb, hml, hown, hts, hE, -, -, hM, -⟩ := F
  obtain ⟨hd, hpc, hso, hk⟩ := dk_of T hM hn hc rfl
  have hn1 : n + 1 < szM M := Nat.le_of_ble_eq_true hk
  have hp : p0 < 2 := Nat.le_of_ble_eq_true hso
  have k := (show Snd G M p l e R s m args below meth c Qf (n + 1, L, vl p0 :: S, (I, H), c', s') from h) hn1 ad Hp locs ls hR hS hl hwl (fun x hx => by rcases List.mem_cons.mp hx with rfl | hx; exact ⟨by omega, by omega⟩; exact hws x hx)
  simp only [iOf] at hd hpc
  refine lv_lconst (v := Int64.ofInt p0) hx hb hd ?_ ?_
  · rcases (show p0 = 0 ∨ p0 = 1 by omega) with rfl | rfl <;> rfl
  · rw [← hpc]; exact k
theorem so_8 (F : Fx G M p l R s m args meth c) (hc : cdM M n = (8, z0, p0, q0, r0)) (h : stA C M P X 8 z0 p0 q0 r0 n L S I H c' s' (Snd G M p l e R s m args below meth c Qf)) : Snd G M p l e R s m args below meth c Qf (n, L, S, (I, H), c', s') := by
  intro hn ad Hp locs ls hR hS hl hwl hws
  obtain ⟨T, hx, hb, hml, hown, hts, hE, -, -, hM, -⟩ := F
  obtain ⟨hd, hpc, hso, hk⟩ := dk_of T hM hn hc rfl
  have hn1 : n + 1 < szM M := Nat.le_of_ble_eq_true hk
  unfold sok at hso
  simp only [Bool.and_eq_true, decide_eq_true_eq] at hso
  obtain ⟨hp, hq⟩ := hso
  have hp : p0 < nstr := Nat.le_of_ble_eq_true hp
  have k := (show Snd G M p l e R s m args below meth c Qf (n + 1, L, vr (some p0) 100 :: S, (I, H), c', s') from h) hn1 ad Hp locs ls hR hS hl hwl (fun x hx => by rcases List.mem_cons.mp hx with rfl | hx; exact (show wr _ _ _ by unfold wr; rw [if_pos rfl]; exact hp); exact hws x hx)
  have hZ := hE.2.2.2.2.1.2 p0 hp
  rw [hq] at hZ
  by_cases e0 : r0 = 0
  · simp only [iOf, if_pos e0] at hd hpc
    refine va_ldcS hx hb hown hZ hd ?_
    rw [← hpc]; exact k
  · simp only [iOf, if_neg e0] at hd hpc
    refine rw_ldcS hx hb hown hZ hd ?_
    rw [← hpc]; exact k
theorem so_9 (F : Fx G M p l R s m args meth c) (hc : cdM M n = (9, z0, p0, q0, r0)) (h : stA C M P X 9 z0 p0 q0 r0 n L S I H c' s' (Snd G M p l e R s m args below meth c Qf)) : Snd G M p l e R s m args below meth c Qf (n, L, S, (I, H), c', s') := by
  intro hn ad Hp locs ls hR hS hl hwl hws
  obtain ⟨T, hx, hb, hml, hown, hts, hE, -, -, hM, -⟩ := F
  obtain ⟨hd, hpc, hso, hk⟩ := dk_of T hM hn hc rfl
  have hn1 : n + 1 < szM M := Nat.le_of_ble_eq_true hk
  have k := (show Snd G M p l e R s m args below meth c Qf (n + 1, L, vr none 11 :: S, (I, H), c', s') from h) hn1 ad Hp locs ls hR hS hl hwl (fun x hx => by rcases List.mem_cons.mp hx with rfl | hx; exact (rfl : 11 = 11); exact hws x hx)
  simp only [iOf] at hd hpc
  refine lv_null hx hb hd ?_
  rw [← hpc]; exact k
theorem so_30 (F : Fx G M p l R s m args meth c) (hc : cdM M n = (30, z0, p0, q0, r0)) (h : stA C M P X 30 z0 p0 q0 r0 n L S I H c' s' (Snd G M p l e R s m args below meth c Qf)) : Snd G M p l e R s m args below meth c Qf (n, L, S, (I, H), c', s') := by
  intro hn ad Hp locs ls hR hS hl hwl hws
  obtain ⟨T, hx, hb, hml, hown, hts, hE, -, -, hM, -⟩ := F
  obtain ⟨hd, hpc, hso, hk⟩ := dk_of T hM hn hc rfl
  have hn1 : n + 1 < szM M := Nat.le_of_ble_eq_true hk
  match S, h, hws with
  | .inl b :: .inl a :: S, h, hws =>
    have ha := hws _ (List.mem_cons_of_mem _ List.mem_cons_self)
    have hbb := hws _ List.mem_cons_self
    have ha : inR a := ha
    have hbb : inR b := hbb
    have hws' : ∀ x ∈ S, wv H x := fun x hx => hws x (List.mem_cons_of_mem _ (List.mem_cons_of_mem _ hx))
    simp only [iOf] at hd hpc
    replace h : ∃ v, v = wrp (a + b) ∧ Snd G M p l e R s m args below meth c Qf (n + 1, L, vi v :: S, (I, H), c', s') := h
    obtain ⟨v, hv, h⟩ := h
    have k := h hn1 ad Hp locs ls hR hS hl hwl (fun x hx => by rcases List.mem_cons.mp hx with rfl | hx; exact (show inR v from by rw [hv]; exact wrp_in _); exact hws' x hx)
    refine lv_iadd (x := Int32.ofInt a) (y := Int32.ofInt b) hx hb hd ?_
    rw [← hpc, show Int32.ofInt a + Int32.ofInt b = Int32.ofInt v from by rw [hv, oi_add]]; exact k
  | [], h, _ => exact h.elim
  | .inl _ :: [], h, _ => exact h.elim
  | .inl _ :: .inr _ :: _, h, _ => exact h.elim
  | .inr _ :: _, h, _ => exact h.elim
theorem so_31 (F : Fx G M p l R s m args meth c) (hc : cdM M n = (31, z0, p0, q0, r0)) (h : stA C M P X 31 z0 p0 q0 r0 n L S I H c' s' (Snd G M p l e R s m args below meth c Qf)) : Snd G M p l e R s m args below meth c Qf (n, L, S, (I, H), c', s') := by
  intro hn ad Hp locs ls hR hS hl hwl hws
  obtain ⟨T, hx, hb, hml, hown, hts, hE, -, -, hM, -⟩ := F
  obtain ⟨hd, hpc, hso, hk⟩ := dk_of T hM hn hc rfl
  have hn1 : n + 1 < szM M := Nat.le_of_ble_eq_true hk
  match S, h, hws with
  | .inl b :: .inl a :: S, h, hws =>
    have ha := hws _ (List.mem_cons_of_mem _ List.mem_cons_self)
    have hbb := hws _ List.mem_cons_self
    have ha : inR a := ha
    have hbb : inR b := hbb
    have hws' : ∀ x ∈ S, wv H x := fun x hx => hws x (List.mem_cons_of_mem _ (List.mem_cons_of_mem _ hx))
    simp only [iOf] at hd hpc
    replace h : ∃ v, v = wrp (a - b) ∧ Snd G M p l e R s m args below meth c Qf (n + 1, L, vi v :: S, (I, H), c', s') := h
    obtain ⟨v, hv, h⟩ := h
    have k := h hn1 ad Hp locs ls hR hS hl hwl (fun x hx => by rcases List.mem_cons.mp hx with rfl | hx; exact (show inR v from by rw [hv]; exact wrp_in _); exact hws' x hx)
    refine lv_isub (x := Int32.ofInt a) (y := Int32.ofInt b) hx hb hd ?_
    rw [← hpc, show Int32.ofInt a - Int32.ofInt b = Int32.ofInt v from by rw [hv, oi_sub]]; exact k
  | [], h, _ => exact h.elim
  | .inl _ :: [], h, _ => exact h.elim
  | .inl _ :: .inr _ :: _, h, _ => exact h.elim
  | .inr _ :: _, h, _ => exact h.elim
theorem so_32 (F : Fx G M p l R s m args meth c) (hc : cdM M n = (32, z0, p0, q0, r0)) (h : stA C M P X 32 z0 p0 q0 r0 n L S I H c' s' (Snd G M p l e R s m args below meth c Qf)) : Snd G M p l e R s m args below meth c Qf (n, L, S, (I, H), c', s') := by
  intro hn ad Hp locs ls hR hS hl hwl hws
  obtain ⟨T, hx, hb, hml, hown, hts, hE, -, -, hM, -⟩ := F
  obtain ⟨hd, hpc, hso, hk⟩ := dk_of T hM hn hc rfl
  have hn1 : n + 1 < szM M := Nat.le_of_ble_eq_true hk
  match S, h, hws with
  | .inl b :: .inl a :: S, h, hws =>
    have ha := hws _ (List.mem_cons_of_mem _ List.mem_cons_self)
    have hbb := hws _ List.mem_cons_self
    have ha : inR a := ha
    have hbb : inR b := hbb
    have hws' : ∀ x ∈ S, wv H x := fun x hx => hws x (List.mem_cons_of_mem _ (List.mem_cons_of_mem _ hx))
    simp only [iOf] at hd hpc
    replace h : ∃ v, v = wrp (a * b) ∧ Snd G M p l e R s m args below meth c Qf (n + 1, L, vi v :: S, (I, H), c', s') := h
    obtain ⟨v, hv, h⟩ := h
    have k := h hn1 ad Hp locs ls hR hS hl hwl (fun x hx => by rcases List.mem_cons.mp hx with rfl | hx; exact (show inR v from by rw [hv]; exact wrp_in _); exact hws' x hx)
    refine lv_imul (x := Int32.ofInt a) (y := Int32.ofInt b) hx hb hd ?_
    rw [← hpc, show Int32.ofInt a * Int32.ofInt b = Int32.ofInt v from by rw [hv, oi_mul]]; exact k
  | [], h, _ => exact h.elim
  | .inl _ :: [], h, _ => exact h.elim
  | .inl _ :: .inr _ :: _, h, _ => exact h.elim
  | .inr _ :: _, h, _ => exact h.elim
theorem so_33 (F : Fx G M p l R s m args meth c) (hc : cdM M n = (33, z0, p0, q0, r0)) (h : stA C M P X 33 z0 p0 q0 r0 n L S I H c' s' (Snd G M p l e R s m args below meth c Qf)) : Snd G M p l e R s m args below meth c Qf (n, L, S, (I, H), c', s') := by
  intro hn ad Hp locs ls hR hS hl hwl hws
  obtain ⟨T, hx, hb, hml, hown, hts, hE, -, -, hM, -⟩ := F
  obtain ⟨hd, hpc, hso, hk⟩ := dk_of T hM hn hc rfl
  have hn1 : n + 1 < szM M := Nat.le_of_ble_eq_true hk
  match S, h, hws with
  | .inl b :: .inl a :: S, h, hws =>
    have ha := hws _ (List.mem_cons_of_mem _ List.mem_cons_self)
    have hbb := hws _ List.mem_cons_self
    have ha : inR a := ha
    have hbb : inR b := hbb
    have hws' : ∀ x ∈ S, wv H x := fun x hx => hws x (List.mem_cons_of_mem _ (List.mem_cons_of_mem _ hx))
    simp only [iOf] at hd hpc
    replace h : ∃ v, (b ≠ 0 ∧ v = wrp (Int.tdiv a b)) ∧ Snd G M p l e R s m args below meth c Qf (n + 1, L, vi v :: S, (I, H), c', s') := h
    obtain ⟨v, hv, h⟩ := h
    have k := h hn1 ad Hp locs ls hR hS hl hwl (fun x hx => by rcases List.mem_cons.mp hx with rfl | hx; exact (show inR v from by rw [hv.2]; exact wrp_in _); exact hws' x hx)
    have hne : ¬ Int32.ofInt b = 0 := fun q => hv.1 ((oi_eq hbb in0).mp (by rw [q]; rfl))
    refine lv_idiv (x := Int32.ofInt a) (y := Int32.ofInt b) hx hb hd hne ?_
    rw [← hpc, show Int32.ofInt a / Int32.ofInt b = Int32.ofInt v from by rw [hv.2, oi_div ha hbb]]; exact k
  | [], h, _ => exact h.elim
  | .inl _ :: [], h, _ => exact h.elim
  | .inl _ :: .inr _ :: _, h, _ => exact h.elim
  | .inr _ :: _, h, _ => exact h.elim
theorem so_34 (F : Fx G M p l R s m args meth c) (hc : cdM M n = (34, z0, p0, q0, r0)) (h : stA C M P X 34 z0 p0 q0 r0 n L S I H c' s' (Snd G M p l e R s m args below meth c Qf)) : Snd G M p l e R s m args below meth c Qf (n, L, S, (I, H), c', s') := by
  intro hn ad Hp locs ls hR hS hl hwl hws
  obtain ⟨T, hx, hb, hml, hown, hts, hE, -, -, hM, -⟩ := F
  obtain ⟨hd, hpc, hso, hk⟩ := dk_of T hM hn hc rfl
  have hn1 : n + 1 < szM M := Nat.le_of_ble_eq_true hk
  match S, h, hws with
  | .inl b :: .inl a :: S, h, hws =>
    have ha := hws _ (List.mem_cons_of_mem _ List.mem_cons_self)
    have hbb := hws _ List.mem_cons_self
    have ha : inR a := ha
    have hbb : inR b := hbb
    have hws' : ∀ x ∈ S, wv H x := fun x hx => hws x (List.mem_cons_of_mem _ (List.mem_cons_of_mem _ hx))
    simp only [iOf] at hd hpc
    replace h : ∃ v, (b ≠ 0 ∧ v = Int.tmod a b) ∧ Snd G M p l e R s m args below meth c Qf (n + 1, L, vi v :: S, (I, H), c', s') := h
    obtain ⟨v, hv, h⟩ := h
    have k := h hn1 ad Hp locs ls hR hS hl hwl (fun x hx => by rcases List.mem_cons.mp hx with rfl | hx; exact (show inR v from by rw [hv.2]; exact tmod_in ha hbb hv.1); exact hws' x hx)
    have hne : ¬ Int32.ofInt b = 0 := fun q => hv.1 ((oi_eq hbb in0).mp (by rw [q]; rfl))
    refine lv_irem (x := Int32.ofInt a) (y := Int32.ofInt b) hx hb hd hne ?_
    rw [← hpc, show Int32.ofInt a - Int32.ofInt a / Int32.ofInt b * Int32.ofInt b = Int32.ofInt v from by rw [hv.2, oi_rem ha hbb]]; exact k
  | [], h, _ => exact h.elim
  | .inl _ :: [], h, _ => exact h.elim
  | .inl _ :: .inr _ :: _, h, _ => exact h.elim
  | .inr _ :: _, h, _ => exact h.elim
theorem so_35 (F : Fx G M p l R s m args meth c) (hc : cdM M n = (35, z0, p0, q0, r0)) (h : stA C M P X 35 z0 p0 q0 r0 n L S I H c' s' (Snd G M p l e R s m args below meth c Qf)) : Snd G M p l e R s m args below meth c Qf (n, L, S, (I, H), c', s') := by
  intro hn ad Hp locs ls hR hS hl hwl hws
  obtain ⟨T, hx, hb, hml, hown, hts, hE, -, -, hM, -⟩ := F
  obtain ⟨hd, hpc, hso, hk⟩ := dk_of T hM hn hc rfl
  have hn1 : n + 1 < szM M := Nat.le_of_ble_eq_true hk
  match S, h, hws with
  | .inl a :: S, h, hws =>
    simp only [iOf] at hd hpc
    replace h : ∃ v, v = wrp (-a) ∧ Snd G M p l e R s m args below meth c Qf (n + 1, L, vi v :: S, (I, H), c', s') := h
    obtain ⟨v, hv, h⟩ := h
    have k := h hn1 ad Hp locs ls hR hS hl hwl (fun x hx => by rcases List.mem_cons.mp hx with rfl | hx; exact (show inR v by rw [hv]; exact wrp_in _); exact hws x (List.mem_cons_of_mem _ hx))
    refine lv_ineg (x := Int32.ofInt a) hx hb hd ?_
    rw [← hpc, show -Int32.ofInt a = Int32.ofInt v by rw [hv, oi_neg]]; exact k
  | [], h, _ => exact h.elim
  | .inr _ :: _, h, _ => exact h.elim
theorem so_36 (F : Fx G M p l R s m args meth c) (hc : cdM M n = (36, z0, p0, q0, r0)) (h : stA C M P X 36 z0 p0 q0 r0 n L S I H c' s' (Snd G M p l e R s m args below meth c Qf)) : Snd G M p l e R s m args below meth c Qf (n, L, S, (I, H), c', s') := by
  intro hn ad Hp locs ls hR hS hl hwl hws
  obtain ⟨T, hx, hb, hml, hown, hts, hE, -, -, hM, -⟩ := F
  obtain ⟨hd, hpc, hso, hk⟩ := dk_of T hM hn hc rfl
  have hn1 : n + 1 < szM M := Nat.le_of_ble_eq_true hk
  match S, h, hws with
  | .inl b :: .inl a :: S, h, hws =>
    have ha := hws _ (List.mem_cons_of_mem _ List.mem_cons_self)
    have hbb := hws _ List.mem_cons_self
    have ha : inR a := ha
    have hbb : inR b := hbb
    have hws' : ∀ x ∈ S, wv H x := fun x hx => hws x (List.mem_cons_of_mem _ (List.mem_cons_of_mem _ hx))
    simp only [iOf] at hd hpc
    have k := (show Snd G M p l e R s m args below meth c Qf (n + 1, L, vi (zshl a b) :: S, (I, H), c', s') from h) hn1 ad Hp locs ls hR hS hl hwl (fun x hx => by rcases List.mem_cons.mp hx with rfl | hx; exact oi_rng _; exact hws' x hx)
    refine lv_ishl (x := Int32.ofInt a) (y := Int32.ofInt b) hx hb hd ?_
    rw [← hpc]
    have e2 : (gcv G ad (vi (zshl a b))) = .int (Int32.ofInt a <<< (Int32.ofInt b &&& 31)) := by show Value.int (Int32.ofInt (zshl a b)) = _; unfold zshl; rw [oi_as]
    rw [List.map_cons, e2] at k
    exact k
  | [], h, _ => exact h.elim
  | .inl _ :: [], h, _ => exact h.elim
  | .inl _ :: .inr _ :: _, h, _ => exact h.elim
  | .inr _ :: _, h, _ => exact h.elim
theorem so_37 (F : Fx G M p l R s m args meth c) (hc : cdM M n = (37, z0, p0, q0, r0)) (h : stA C M P X 37 z0 p0 q0 r0 n L S I H c' s' (Snd G M p l e R s m args below meth c Qf)) : Snd G M p l e R s m args below meth c Qf (n, L, S, (I, H), c', s') := by
  intro hn ad Hp locs ls hR hS hl hwl hws
  obtain ⟨T, hx, hb, hml, hown, hts, hE, -, -, hM, -⟩ := F
  obtain ⟨hd, hpc, hso, hk⟩ := dk_of T hM hn hc rfl
  have hn1 : n + 1 < szM M := Nat.le_of_ble_eq_true hk
  match S, h, hws with
  | .inl b :: .inl a :: S, h, hws =>
    have ha := hws _ (List.mem_cons_of_mem _ List.mem_cons_self)
    have hbb := hws _ List.mem_cons_self
    have ha : inR a := ha
    have hbb : inR b := hbb
    have hws' : ∀ x ∈ S, wv H x := fun x hx => hws x (List.mem_cons_of_mem _ (List.mem_cons_of_mem _ hx))
    simp only [iOf] at hd hpc
    have k := (show Snd G M p l e R s m args below meth c Qf (n + 1, L, vi (zshr a b) :: S, (I, H), c', s') from h) hn1 ad Hp locs ls hR hS hl hwl (fun x hx => by rcases List.mem_cons.mp hx with rfl | hx; exact oi_rng _; exact hws' x hx)
    refine lv_ishr (x := Int32.ofInt a) (y := Int32.ofInt b) hx hb hd ?_
    rw [← hpc]
    have e2 : (gcv G ad (vi (zshr a b))) = .int (Int32.ofInt a >>> (Int32.ofInt b &&& 31)) := by show Value.int (Int32.ofInt (zshr a b)) = _; unfold zshr; rw [oi_as]
    rw [List.map_cons, e2] at k
    exact k
  | [], h, _ => exact h.elim
  | .inl _ :: [], h, _ => exact h.elim
  | .inl _ :: .inr _ :: _, h, _ => exact h.elim
  | .inr _ :: _, h, _ => exact h.elim
theorem so_38 (F : Fx G M p l R s m args meth c) (hc : cdM M n = (38, z0, p0, q0, r0)) (h : stA C M P X 38 z0 p0 q0 r0 n L S I H c' s' (Snd G M p l e R s m args below meth c Qf)) : Snd G M p l e R s m args below meth c Qf (n, L, S, (I, H), c', s') := by
  intro hn ad Hp locs ls hR hS hl hwl hws
  obtain ⟨T, hx, hb, hml, hown, hts, hE, -, -, hM, -⟩ := F
  obtain ⟨hd, hpc, hso, hk⟩ := dk_of T hM hn hc rfl
  have hn1 : n + 1 < szM M := Nat.le_of_ble_eq_true hk
  match S, h, hws with
  | .inl b :: .inl a :: S, h, hws =>
    have ha := hws _ (List.mem_cons_of_mem _ List.mem_cons_self)
    have hbb := hws _ List.mem_cons_self
    have ha : inR a := ha
    have hbb : inR b := hbb
    have hws' : ∀ x ∈ S, wv H x := fun x hx => hws x (List.mem_cons_of_mem _ (List.mem_cons_of_mem _ hx))
    simp only [iOf] at hd hpc
    have k := (show Snd G M p l e R s m args below meth c Qf (n + 1, L, vi (zushr a b) :: S, (I, H), c', s') from h) hn1 ad Hp locs ls hR hS hl hwl (fun x hx => by rcases List.mem_cons.mp hx with rfl | hx; exact oi_rng _; exact hws' x hx)
    refine lv_iushr (x := Int32.ofInt a) (y := Int32.ofInt b) hx hb hd rfl ?_
    rw [← hpc]
    have e2 : (gcv G ad (vi (zushr a b))) = .int (((Int32.ofInt a).toUInt32 >>> ((Int32.ofInt b).toUInt32 &&& Int32.toUInt32 31)).toInt32) := by show Value.int (Int32.ofInt (zushr a b)) = _; unfold zushr; rw [oi_as]
    rw [List.map_cons, e2] at k
    exact k
  | [], h, _ => exact h.elim
  | .inl _ :: [], h, _ => exact h.elim
  | .inl _ :: .inr _ :: _, h, _ => exact h.elim
  | .inr _ :: _, h, _ => exact h.elim
theorem so_39 (F : Fx G M p l R s m args meth c) (hc : cdM M n = (39, z0, p0, q0, r0)) (h : stA C M P X 39 z0 p0 q0 r0 n L S I H c' s' (Snd G M p l e R s m args below meth c Qf)) : Snd G M p l e R s m args below meth c Qf (n, L, S, (I, H), c', s') := by
  intro hn ad Hp locs ls hR hS hl hwl hws
  obtain ⟨T, hx, hb, hml, hown, hts, hE, -, -, hM, -⟩ := F
  obtain ⟨hd, hpc, hso, hk⟩ := dk_of T hM hn hc rfl
  have hn1 : n + 1 < szM M := Nat.le_of_ble_eq_true hk
  match S, h, hws with
  | .inl b :: .inl a :: S, h, hws =>
    have ha := hws _ (List.mem_cons_of_mem _ List.mem_cons_self)
    have hbb := hws _ List.mem_cons_self
    have ha : inR a := ha
    have hbb : inR b := hbb
    have hws' : ∀ x ∈ S, wv H x := fun x hx => hws x (List.mem_cons_of_mem _ (List.mem_cons_of_mem _ hx))
    simp only [iOf] at hd hpc
    have k := (show Snd G M p l e R s m args below meth c Qf (n + 1, L, vi (zand a b) :: S, (I, H), c', s') from h) hn1 ad Hp locs ls hR hS hl hwl (fun x hx => by rcases List.mem_cons.mp hx with rfl | hx; exact oi_rng _; exact hws' x hx)
    refine lv_iand (x := Int32.ofInt a) (y := Int32.ofInt b) hx hb hd ?_
    rw [← hpc]
    have e2 : (gcv G ad (vi (zand a b))) = .int (Int32.ofInt a &&& Int32.ofInt b) := by show Value.int (Int32.ofInt (zand a b)) = _; unfold zand; rw [oi_as]
    rw [List.map_cons, e2] at k
    exact k
  | [], h, _ => exact h.elim
  | .inl _ :: [], h, _ => exact h.elim
  | .inl _ :: .inr _ :: _, h, _ => exact h.elim
  | .inr _ :: _, h, _ => exact h.elim
theorem so_40 (F : Fx G M p l R s m args meth c) (hc : cdM M n = (40, z0, p0, q0, r0)) (h : stA C M P X 40 z0 p0 q0 r0 n L S I H c' s' (Snd G M p l e R s m args below meth c Qf)) : Snd G M p l e R s m args below meth c Qf (n, L, S, (I, H), c', s') := by
  intro hn ad Hp locs ls hR hS hl hwl hws
  obtain ⟨T, hx, hb, hml, hown, hts, hE, -, -, hM, -⟩ := F
  obtain ⟨hd, hpc, hso, hk⟩ := dk_of T hM hn hc rfl
  have hn1 : n + 1 < szM M := Nat.le_of_ble_eq_true hk
  match S, h, hws with
  | .inl b :: .inl a :: S, h, hws =>
    have ha := hws _ (List.mem_cons_of_mem _ List.mem_cons_self)
    have hbb := hws _ List.mem_cons_self
    have ha : inR a := ha
    have hbb : inR b := hbb
    have hws' : ∀ x ∈ S, wv H x := fun x hx => hws x (List.mem_cons_of_mem _ (List.mem_cons_of_mem _ hx))
    simp only [iOf] at hd hpc
    have k := (show Snd G M p l e R s m args below meth c Qf (n + 1, L, vi (zor a b) :: S, (I, H), c', s') from h) hn1 ad Hp locs ls hR hS hl hwl (fun x hx => by rcases List.mem_cons.mp hx with rfl | hx; exact oi_rng _; exact hws' x hx)
    refine lv_ior (x := Int32.ofInt a) (y := Int32.ofInt b) hx hb hd ?_
    rw [← hpc]
    have e2 : (gcv G ad (vi (zor a b))) = .int (Int32.ofInt a ||| Int32.ofInt b) := by show Value.int (Int32.ofInt (zor a b)) = _; unfold zor; rw [oi_as]
    rw [List.map_cons, e2] at k
    exact k
  | [], h, _ => exact h.elim
  | .inl _ :: [], h, _ => exact h.elim
  | .inl _ :: .inr _ :: _, h, _ => exact h.elim
  | .inr _ :: _, h, _ => exact h.elim
theorem so_41 (F : Fx G M p l R s m args meth c) (hc : cdM M n = (41, z0, p0, q0, r0)) (h : stA C M P X 41 z0 p0 q0 r0 n L S I H c' s' (Snd G M p l e R s m args below meth c Qf)) : Snd G M p l e R s m args below meth c Qf (n, L, S, (I, H), c', s') := by
  intro hn ad Hp locs ls hR hS hl hwl hws
  obtain ⟨T, hx, hb, hml, hown, hts, hE, -, -, hM, -⟩ := F
  obtain ⟨hd, hpc, hso, hk⟩ := dk_of T hM hn hc rfl
  have hn1 : n + 1 < szM M := Nat.le_of_ble_eq_true hk
  match S, h, hws with
  | .inl b :: .inl a :: S, h, hws =>
    have ha := hws _ (List.mem_cons_of_mem _ List.mem_cons_self)
    have hbb := hws _ List.mem_cons_self
    have ha : inR a := ha
    have hbb : inR b := hbb
    have hws' : ∀ x ∈ S, wv H x := fun x hx => hws x (List.mem_cons_of_mem _ (List.mem_cons_of_mem _ hx))
    simp only [iOf] at hd hpc
    have k := (show Snd G M p l e R s m args below meth c Qf (n + 1, L, vi (zxor a b) :: S, (I, H), c', s') from h) hn1 ad Hp locs ls hR hS hl hwl (fun x hx => by rcases List.mem_cons.mp hx with rfl | hx; exact oi_rng _; exact hws' x hx)
    refine lv_ixor (x := Int32.ofInt a) (y := Int32.ofInt b) hx hb hd ?_
    rw [← hpc]
    have e2 : (gcv G ad (vi (zxor a b))) = .int (Int32.ofInt a ^^^ Int32.ofInt b) := by show Value.int (Int32.ofInt (zxor a b)) = _; unfold zxor; rw [oi_as]
    rw [List.map_cons, e2] at k
    exact k
  | [], h, _ => exact h.elim
  | .inl _ :: [], h, _ => exact h.elim
  | .inl _ :: .inr _ :: _, h, _ => exact h.elim
  | .inr _ :: _, h, _ => exact h.elim
theorem so_42 (F : Fx G M p l R s m args meth c) (hc : cdM M n = (42, z0, p0, q0, r0)) (h : stA C M P X 42 z0 p0 q0 r0 n L S I H c' s' (Snd G M p l e R s m args below meth c Qf)) : Snd G M p l e R s m args below meth c Qf (n, L, S, (I, H), c', s') := by
  intro hn ad Hp locs ls hR hS hl hwl hws
  obtain ⟨T, hx, hb, hml, hown, hts, hE, -, -, hM, -⟩ := F
  obtain ⟨hd, hpc, hso, hk⟩ := dk_of T hM hn hc rfl
  have hn1 : n + 1 < szM M := Nat.le_of_ble_eq_true hk
  match S, h, hws with
  | .inl a :: S, h, hws =>
    simp only [iOf] at hd hpc
    have ha : inR a := hws _ List.mem_cons_self
    have k := (show Snd G M p l e R s m args below meth c Qf (n + 1, L, vl a :: S, (I, H), c', s') from h) hn1 ad Hp locs ls hR hS hl hwl (fun x hx => by rcases List.mem_cons.mp hx with rfl | hx; exact inR_L ha; exact hws x (List.mem_cons_of_mem _ hx))
    refine lv_i2l (x := Int32.ofInt a) (v := Int64.ofInt a) hx hb hd ?_ ?_
    · apply Int64.toInt_inj.mp
      rw [ol_toInt (inR_L ha), Int32.toInt_toInt64, oi_toInt ha]
    · rw [← hpc]; exact k
  | [], h, _ => exact h.elim
  | .inr _ :: _, h, _ => exact h.elim
theorem so_43 (F : Fx G M p l R s m args meth c) (hc : cdM M n = (43, z0, p0, q0, r0)) (h : stA C M P X 43 z0 p0 q0 r0 n L S I H c' s' (Snd G M p l e R s m args below meth c Qf)) : Snd G M p l e R s m args below meth c Qf (n, L, S, (I, H), c', s') := by
  intro hn ad Hp locs ls hR hS hl hwl hws
  obtain ⟨T, hx, hb, hml, hown, hts, hE, -, -, hM, -⟩ := F
  obtain ⟨hd, hpc, hso, hk⟩ := dk_of T hM hn hc rfl
  have hn1 : n + 1 < szM M := Nat.le_of_ble_eq_true hk
  match S, h, hws with
  | .inr (.inl a) :: S, h, hws =>
    simp only [iOf] at hd hpc
    have ha : inL a := hws _ List.mem_cons_self
    replace h : inR a ∧ Snd G M p l e R s m args below meth c Qf (n + 1, L, vi a :: S, (I, H), c', s') := h
    have k := h.2 hn1 ad Hp locs ls hR hS hl hwl (fun x hx => by rcases List.mem_cons.mp hx with rfl | hx; exact h.1; exact hws x (List.mem_cons_of_mem _ hx))
    refine lv_l2i (x := Int64.ofInt a) (v := Int32.ofInt a) hx hb hd ?_ ?_
    · apply Int32.toInt_inj.mp
      rw [oi_toInt h.1, Int64.toInt_toInt32, ol_toInt ha, Int.bmod_eq_of_le (by have := h.1.1; omega) (by have := h.1.2; omega)]
    · rw [← hpc]; exact k
  | [], h, _ => exact h.elim
  | .inl _ :: _, h, _ => exact h.elim
  | .inr (.inr _) :: _, h, _ => exact h.elim
theorem so_44 (F : Fx G M p l R s m args meth c) (hc : cdM M n = (44, z0, p0, q0, r0)) (h : stA C M P X 44 z0 p0 q0 r0 n L S I H c' s' (Snd G M p l e R s m args below meth c Qf)) : Snd G M p l e R s m args below meth c Qf (n, L, S, (I, H), c', s') := by
  intro hn ad Hp locs ls hR hS hl hwl hws
  obtain ⟨T, hx, hb, hml, hown, hts, hE, -, -, hM, -⟩ := F
  obtain ⟨hd, hpc, hso, hk⟩ := dk_of T hM hn hc rfl
  have hn1 : n + 1 < szM M := Nat.le_of_ble_eq_true hk
  match S, h, hws with
  | .inr (.inl b) :: .inr (.inl a) :: S, h, hws =>
    have ha := hws _ (List.mem_cons_of_mem _ List.mem_cons_self)
    have hbb := hws _ List.mem_cons_self
    have ha : inL a := ha
    have hbb : inL b := hbb
    have hws' : ∀ x ∈ S, wv H x := fun x hx => hws x (List.mem_cons_of_mem _ (List.mem_cons_of_mem _ hx))
    simp only [iOf] at hd hpc
    have hz : inR (zcmp a b) := by unfold zcmp; split; exact ⟨by decide, by decide⟩; split; exact ⟨by decide, by decide⟩; exact ⟨by decide, by decide⟩
    have k := (show Snd G M p l e R s m args below meth c Qf (n + 1, L, vi (zcmp a b) :: S, (I, H), c', s') from h) hn1 ad Hp locs ls hR hS hl hwl (fun x hx => by rcases List.mem_cons.mp hx with rfl | hx; exact hz; exact hws' x hx)
    refine W.lcmp (x := Int64.ofInt a) (y := Int64.ofInt b) hx hb hd ?_
    rw [← hpc, ol_cmp ha hbb]
    exact k
  | [], h, _ => exact h.elim
  | .inl _ :: _, h, _ => exact h.elim
  | .inr (.inr _) :: _, h, _ => exact h.elim
  | .inr (.inl _) :: [], h, _ => exact h.elim
  | .inr (.inl _) :: .inl _ :: _, h, _ => exact h.elim
  | .inr (.inl _) :: .inr (.inr _) :: _, h, _ => exact h.elim
theorem so_45 (F : Fx G M p l R s m args meth c) (hc : cdM M n = (45, z0, p0, q0, r0)) (h : stA C M P X 45 z0 p0 q0 r0 n L S I H c' s' (Snd G M p l e R s m args below meth c Qf)) : Snd G M p l e R s m args below meth c Qf (n, L, S, (I, H), c', s') := by
  intro hn ad Hp locs ls hR hS hl hwl hws
  obtain ⟨T, hx, hb, hml, hown, hts, hE, -, -, hM, -⟩ := F
  obtain ⟨hd, hpc, hso, hk⟩ := dk_of T hM hn hc rfl
  have hn1 : n + 1 < szM M := Nat.le_of_ble_eq_true hk
  match S, h, hws with
  | .inr (.inl b) :: .inr (.inl a) :: S, h, hws =>
    have ha := hws _ (List.mem_cons_of_mem _ List.mem_cons_self)
    have hbb := hws _ List.mem_cons_self
    have ha : inL a := ha
    have hbb : inL b := hbb
    have hws' : ∀ x ∈ S, wv H x := fun x hx => hws x (List.mem_cons_of_mem _ (List.mem_cons_of_mem _ hx))
    simp only [iOf] at hd hpc
    replace h : inL (a + b) ∧ Snd G M p l e R s m args below meth c Qf (n + 1, L, vl (a + b) :: S, (I, H), c', s') := h
    have k := h.2 hn1 ad Hp locs ls hR hS hl hwl (fun x hx => by rcases List.mem_cons.mp hx with rfl | hx; exact h.1; exact hws' x hx)
    refine lv_ladd (x := Int64.ofInt a) (y := Int64.ofInt b) hx hb hd ?_
    rw [← hpc, ← Int64.ofInt_add]
    exact k
  | [], h, _ => exact h.elim
  | .inl _ :: _, h, _ => exact h.elim
  | .inr (.inr _) :: _, h, _ => exact h.elim
  | .inr (.inl _) :: [], h, _ => exact h.elim
  | .inr (.inl _) :: .inl _ :: _, h, _ => exact h.elim
  | .inr (.inl _) :: .inr (.inr _) :: _, h, _ => exact h.elim
theorem so_46 (F : Fx G M p l R s m args meth c) (hc : cdM M n = (46, z0, p0, q0, r0)) (h : stA C M P X 46 z0 p0 q0 r0 n L S I H c' s' (Snd G M p l e R s m args below meth c Qf)) : Snd G M p l e R s m args below meth c Qf (n, L, S, (I, H), c', s') := by
  intro hn ad Hp locs ls hR hS hl hwl hws
  obtain ⟨T, hx, hb, hml, hown, hts, hE, -, -, hM, -⟩ := F
  obtain ⟨hd, hpc, hso, hk⟩ := dk_of T hM hn hc rfl
  have hn1 : n + 1 < szM M := Nat.le_of_ble_eq_true hk
  match S, h, hws with
  | .inr (.inl b) :: .inr (.inl a) :: S, h, hws =>
    have ha := hws _ (List.mem_cons_of_mem _ List.mem_cons_self)
    have hbb := hws _ List.mem_cons_self
    have ha : inL a := ha
    have hbb : inL b := hbb
    have hws' : ∀ x ∈ S, wv H x := fun x hx => hws x (List.mem_cons_of_mem _ (List.mem_cons_of_mem _ hx))
    simp only [iOf] at hd hpc
    replace h : inL (a * b) ∧ Snd G M p l e R s m args below meth c Qf (n + 1, L, vl (a * b) :: S, (I, H), c', s') := h
    have k := h.2 hn1 ad Hp locs ls hR hS hl hwl (fun x hx => by rcases List.mem_cons.mp hx with rfl | hx; exact h.1; exact hws' x hx)
    refine lv_lmul (x := Int64.ofInt a) (y := Int64.ofInt b) hx hb hd ?_
    rw [← hpc, ← Int64.ofInt_mul]
    exact k
  | [], h, _ => exact h.elim
  | .inl _ :: _, h, _ => exact h.elim
  | .inr (.inr _) :: _, h, _ => exact h.elim
  | .inr (.inl _) :: [], h, _ => exact h.elim
  | .inr (.inl _) :: .inl _ :: _, h, _ => exact h.elim
  | .inr (.inl _) :: .inr (.inr _) :: _, h, _ => exact h.elim
theorem so_47 (F : Fx G M p l R s m args meth c) (hc : cdM M n = (47, z0, p0, q0, r0)) (h : stA C M P X 47 z0 p0 q0 r0 n L S I H c' s' (Snd G M p l e R s m args below meth c Qf)) : Snd G M p l e R s m args below meth c Qf (n, L, S, (I, H), c', s') := by
  intro hn ad Hp locs ls hR hS hl hwl hws
  obtain ⟨T, hx, hb, hml, hown, hts, hE, -, -, hM, -⟩ := F
  obtain ⟨hd, hpc, hso, hk⟩ := dk_of T hM hn hc rfl
  have hn1 : n + 1 < szM M := Nat.le_of_ble_eq_true hk
  match S, h, hws with
  | .inr (.inl a) :: S, h, hws =>
    simp only [iOf] at hd hpc
    replace h : inL (-a) ∧ Snd G M p l e R s m args below meth c Qf (n + 1, L, vl (-a) :: S, (I, H), c', s') := h
    have k := h.2 hn1 ad Hp locs ls hR hS hl hwl (fun x hx => by rcases List.mem_cons.mp hx with rfl | hx; exact h.1; exact hws x (List.mem_cons_of_mem _ hx))
    refine lv_lneg (x := Int64.ofInt a) hx hb hd ?_
    rw [← hpc, ← Int64.ofInt_neg]
    exact k
  | [], h, _ => exact h.elim
  | .inl _ :: _, h, _ => exact h.elim
  | .inr (.inr _) :: _, h, _ => exact h.elim
theorem so_48 (F : Fx G M p l R s m args meth c) (hc : cdM M n = (48, z0, p0, q0, r0)) (h : stA C M P X 48 z0 p0 q0 r0 n L S I H c' s' (Snd G M p l e R s m args below meth c Qf)) : Snd G M p l e R s m args below meth c Qf (n, L, S, (I, H), c', s') := by
  intro hn ad Hp locs ls hR hS hl hwl hws
  obtain ⟨T, hx, hb, hml, hown, hts, hE, -, -, hM, -⟩ := F
  obtain ⟨hd, hpc, hso, hk⟩ := dk_of T hM hn hc rfl
  have hk := (Bool.and_eq_true _ _).mp hk
  have hn1 : n + 1 < szM M := Nat.le_of_ble_eq_true hk.2
  have hp1 : p0 < szM M := Nat.le_of_ble_eq_true hk.1
  have ho : (pcM M n : Int) + ofM M n p0 = (pcM M p0 : Int) := by unfold ofM; omega
  match S, h, hws with
  | .inl a :: S, h, hws =>
    have ha : inR a := hws _ List.mem_cons_self
    have hbb : inR 0 := in0
    have hws' : ∀ x ∈ S, wv H x := fun x hx => hws x (List.mem_cons_of_mem _ hx)
    have kj := fun (q : Snd G M p l e R s m args below meth c Qf (p0, L, S, (I, H), c', s')) => q hp1 ad Hp locs ls hR hS hl hwl hws'
    have kn := fun (q : Snd G M p l e R s m args below meth c Qf (n + 1, L, S, (I, H), c', s')) => q hn1 ad Hp locs ls hR hS hl hwl hws'
    match r0, h, hd, hpc with
    | 0, h, hd, hpc =>
      simp [iOf] at hd hpc
      replace h : (a = 0 → Snd G M p l e R s m args below meth c Qf (p0, L, S, (I, H), c', s')) ∧ (¬ a = 0 → Snd G M p l e R s m args below meth c Qf (n + 1, L, S, (I, H), c', s')) := h
      refine lv_if_eq (x := Int32.ofInt a) hx hb hd ho (fun q => kj (h.1 ((oi_eq ha hbb).mp q))) (fun q => ?_)
      rw [← hpc]; exact kn (h.2 (fun w => q ((oi_eq ha hbb).mpr w)))
    | 1, h, hd, hpc =>
      simp [iOf] at hd hpc
      replace h : (¬ a = 0 → Snd G M p l e R s m args below meth c Qf (p0, L, S, (I, H), c', s')) ∧ (a = 0 → Snd G M p l e R s m args below meth c Qf (n + 1, L, S, (I, H), c', s')) := h
      refine lv_if_ne (x := Int32.ofInt a) hx hb hd ho (fun q => kj (h.1 (fun w => q ((oi_eq ha hbb).mpr w)))) (fun q => ?_)
      rw [← hpc]; exact kn (h.2 ((oi_eq ha hbb).mp q))
    | 2, h, hd, hpc =>
      simp [iOf] at hd hpc
      replace h : (a < 0 → Snd G M p l e R s m args below meth c Qf (p0, L, S, (I, H), c', s')) ∧ (¬ a < 0 → Snd G M p l e R s m args below meth c Qf (n + 1, L, S, (I, H), c', s')) := h
      refine lv_if_lt (x := Int32.ofInt a) hx hb hd ho (fun q => kj (h.1 ((oi_lt ha hbb).mp q))) (fun q => ?_)
      rw [← hpc]; exact kn (h.2 (fun w => q ((oi_lt ha hbb).mpr w)))
    | 3, h, hd, hpc =>
      simp [iOf] at hd hpc
      replace h : (¬ a < 0 → Snd G M p l e R s m args below meth c Qf (p0, L, S, (I, H), c', s')) ∧ (a < 0 → Snd G M p l e R s m args below meth c Qf (n + 1, L, S, (I, H), c', s')) := h
      refine lv_if_ge (x := Int32.ofInt a) hx hb hd ho (fun q => kj (h.1 (fun w => absurd q (Int32.not_le.mpr ((oi_lt ha hbb).mpr w))))) (fun q => ?_)
      rw [← hpc]; exact kn (h.2 ((oi_lt ha hbb).mp (Int32.not_le.mp q)))
    | 4, h, hd, hpc =>
      simp [iOf] at hd hpc
      replace h : (0 < a → Snd G M p l e R s m args below meth c Qf (p0, L, S, (I, H), c', s')) ∧ (¬ 0 < a → Snd G M p l e R s m args below meth c Qf (n + 1, L, S, (I, H), c', s')) := h
      refine lv_if_gt (x := Int32.ofInt a) hx hb hd ho (fun q => kj (h.1 ((oi_lt hbb ha).mp q))) (fun q => ?_)
      rw [← hpc]; exact kn (h.2 (fun w => q ((oi_lt hbb ha).mpr w)))
    | 5, h, hd, hpc =>
      simp [iOf] at hd hpc
      replace h : (¬ 0 < a → Snd G M p l e R s m args below meth c Qf (p0, L, S, (I, H), c', s')) ∧ (0 < a → Snd G M p l e R s m args below meth c Qf (n + 1, L, S, (I, H), c', s')) := h
      refine lv_if_le (x := Int32.ofInt a) hx hb hd ho (fun q => kj (h.1 (fun w => absurd q (Int32.not_le.mpr ((oi_lt hbb ha).mpr w))))) (fun q => ?_)
      rw [← hpc]; exact kn (h.2 ((oi_lt hbb ha).mp (Int32.not_le.mp q)))
    | r + 6, h, _, _ => exact h.elim
  | [], h, _ => exact h.elim
  | .inr _ :: _, h, _ => exact h.elim
theorem so_49 (F : Fx G M p l R s m args meth c) (hc : cdM M n = (49, z0, p0, q0, r0)) (h : stA C M P X 49 z0 p0 q0 r0 n L S I H c' s' (Snd G M p l e R s m args below meth c Qf)) : Snd G M p l e R s m args below meth c Qf (n, L, S, (I, H), c', s') := by
  intro hn ad Hp locs ls hR hS hl hwl hws
  obtain ⟨T, hx, hb, hml, hown, hts, hE, -, -, hM, -⟩ := F
  obtain ⟨hd, hpc, hso, hk⟩ := dk_of T hM hn hc rfl
  have hk := (Bool.and_eq_true _ _).mp hk
  have hn1 : n + 1 < szM M := Nat.le_of_ble_eq_true hk.2
  have hp1 : p0 < szM M := Nat.le_of_ble_eq_true hk.1
  have ho : (pcM M n : Int) + ofM M n p0 = (pcM M p0 : Int) := by unfold ofM; omega
  match S, h, hws with
  | .inl b :: .inl a :: S, h, hws =>
    have ha := hws _ (List.mem_cons_of_mem _ List.mem_cons_self)
    have hbb := hws _ List.mem_cons_self
    have ha : inR a := ha
    have hbb : inR b := hbb
    have hws' : ∀ x ∈ S, wv H x := fun x hx => hws x (List.mem_cons_of_mem _ (List.mem_cons_of_mem _ hx))
    have kj := fun (q : Snd G M p l e R s m args below meth c Qf (p0, L, S, (I, H), c', s')) => q hp1 ad Hp locs ls hR hS hl hwl hws'
    have kn := fun (q : Snd G M p l e R s m args below meth c Qf (n + 1, L, S, (I, H), c', s')) => q hn1 ad Hp locs ls hR hS hl hwl hws'
    match r0, h, hd, hpc with
    | 0, h, hd, hpc =>
      simp [iOf] at hd hpc
      replace h : (a = b → Snd G M p l e R s m args below meth c Qf (p0, L, S, (I, H), c', s')) ∧ (¬ a = b → Snd G M p l e R s m args below meth c Qf (n + 1, L, S, (I, H), c', s')) := h
      refine lv_icmp_eq (x := Int32.ofInt a) (y := Int32.ofInt b) hx hb hd ho (fun q => kj (h.1 ((oi_eq ha hbb).mp q))) (fun q => ?_)
      rw [← hpc]; exact kn (h.2 (fun w => q ((oi_eq ha hbb).mpr w)))
    | 1, h, hd, hpc =>
      simp [iOf] at hd hpc
      replace h : (¬ a = b → Snd G M p l e R s m args below meth c Qf (p0, L, S, (I, H), c', s')) ∧ (a = b → Snd G M p l e R s m args below meth c Qf (n + 1, L, S, (I, H), c', s')) := h
      refine lv_icmp_ne (x := Int32.ofInt a) (y := Int32.ofInt b) hx hb hd ho (fun q => kj (h.1 (fun w => q ((oi_eq ha hbb).mpr w)))) (fun q => ?_)
      rw [← hpc]; exact kn (h.2 ((oi_eq ha hbb).mp q))
    | 2, h, hd, hpc =>
      simp [iOf] at hd hpc
      replace h : (a < b → Snd G M p l e R s m args below meth c Qf (p0, L, S, (I, H), c', s')) ∧ (¬ a < b → Snd G M p l e R s m args below meth c Qf (n + 1, L, S, (I, H), c', s')) := h
      refine lv_icmp_lt (x := Int32.ofInt a) (y := Int32.ofInt b) hx hb hd ho (fun q => kj (h.1 ((oi_lt ha hbb).mp q))) (fun q => ?_)
      rw [← hpc]; exact kn (h.2 (fun w => q ((oi_lt ha hbb).mpr w)))
    | 3, h, hd, hpc =>
      simp [iOf] at hd hpc
      replace h : (¬ a < b → Snd G M p l e R s m args below meth c Qf (p0, L, S, (I, H), c', s')) ∧ (a < b → Snd G M p l e R s m args below meth c Qf (n + 1, L, S, (I, H), c', s')) := h
      refine lv_icmp_ge (x := Int32.ofInt a) (y := Int32.ofInt b) hx hb hd ho (fun q => kj (h.1 (fun w => absurd q (Int32.not_le.mpr ((oi_lt ha hbb).mpr w))))) (fun q => ?_)
      rw [← hpc]; exact kn (h.2 ((oi_lt ha hbb).mp (Int32.not_le.mp q)))
    | 4, h, hd, hpc =>
      simp [iOf] at hd hpc
      replace h : (b < a → Snd G M p l e R s m args below meth c Qf (p0, L, S, (I, H), c', s')) ∧ (¬ b < a → Snd G M p l e R s m args below meth c Qf (n + 1, L, S, (I, H), c', s')) := h
      refine lv_icmp_gt (x := Int32.ofInt a) (y := Int32.ofInt b) hx hb hd ho (fun q => kj (h.1 ((oi_lt hbb ha).mp q))) (fun q => ?_)
      rw [← hpc]; exact kn (h.2 (fun w => q ((oi_lt hbb ha).mpr w)))
    | 5, h, hd, hpc =>
      simp [iOf] at hd hpc
      replace h : (¬ b < a → Snd G M p l e R s m args below meth c Qf (p0, L, S, (I, H), c', s')) ∧ (b < a → Snd G M p l e R s m args below meth c Qf (n + 1, L, S, (I, H), c', s')) := h
      refine lv_icmp_le (x := Int32.ofInt a) (y := Int32.ofInt b) hx hb hd ho (fun q => kj (h.1 (fun w => absurd q (Int32.not_le.mpr ((oi_lt hbb ha).mpr w))))) (fun q => ?_)
      rw [← hpc]; exact kn (h.2 ((oi_lt hbb ha).mp (Int32.not_le.mp q)))
    | r + 6, h, _, _ => exact h.elim
  | [], h, _ => exact h.elim
  | .inl _ :: [], h, _ => exact h.elim
  | .inl _ :: .inr _ :: _, h, _ => exact h.elim
  | .inr _ :: _, h, _ => exact h.elim
theorem so_50 (F : Fx G M p l R s m args meth c) (hc : cdM M n = (50, z0, p0, q0, r0)) (h : stA C M P X 50 z0 p0 q0 r0 n L S I H c' s' (Snd G M p l e R s m args below meth c Qf)) : Snd G M p l e R s m args below meth c Qf (n, L, S, (I, H), c', s') := by
  intro hn ad Hp locs ls hR hS hl hwl hws
  obtain ⟨T, hx, hb, hml, hown, hts, hE, -, -, hM, -⟩ := F
  obtain ⟨hd, hpc, hso, hk⟩ := dk_of T hM hn hc rfl
  have hk := (Bool.and_eq_true _ _).mp hk
  have hn1 : n + 1 < szM M := Nat.le_of_ble_eq_true hk.2
  have hp1 : p0 < szM M := Nat.le_of_ble_eq_true hk.1
  have ho : (pcM M n : Int) + ofM M n p0 = (pcM M p0 : Int) := by unfold ofM; omega
  simp only [iOf] at hd hpc
  match S, h, hws with
  | .inr (.inr (none, k)) :: S, h, hws => exact lv_ifnullN hx hb hd ho ((show Snd G M p l e R s m args below meth c Qf (p0, L, S, (I, H), c', s') from h) hp1 ad Hp locs ls hR hS hl hwl (fun x hx => hws x (List.mem_cons_of_mem _ hx)))
  | .inr (.inr (some a, k)) :: S, h, hws =>
    refine lv_ifnull hx hb hd ?_
    rw [← hpc]; exact (show Snd G M p l e R s m args below meth c Qf (n + 1, L, S, (I, H), c', s') from h) hn1 ad Hp locs ls hR hS hl hwl (fun x hx => hws x (List.mem_cons_of_mem _ hx))
  | [], h, _ => exact h.elim
  | .inl _ :: _, h, _ => exact h.elim
  | .inr (.inl _) :: _, h, _ => exact h.elim
theorem so_51 (F : Fx G M p l R s m args meth c) (hc : cdM M n = (51, z0, p0, q0, r0)) (h : stA C M P X 51 z0 p0 q0 r0 n L S I H c' s' (Snd G M p l e R s m args below meth c Qf)) : Snd G M p l e R s m args below meth c Qf (n, L, S, (I, H), c', s') := by
  intro hn ad Hp locs ls hR hS hl hwl hws
  obtain ⟨T, hx, hb, hml, hown, hts, hE, -, -, hM, -⟩ := F
  obtain ⟨hd, hpc, hso, hk⟩ := dk_of T hM hn hc rfl
  have hp1 : p0 < szM M := Nat.le_of_ble_eq_true hk
  have ho : (pcM M n : Int) + ofM M n p0 = (pcM M p0 : Int) := by unfold ofM; omega
  simp only [iOf] at hd hpc
  exact lv_goto hx hb hd ho ((show Snd G M p l e R s m args below meth c Qf (p0, L, S, (I, H), c', s') from h) hp1 ad Hp locs ls hR hS hl hwl hws)
theorem so_53 (F : Fx G M p l R s m args meth c) (hc : cdM M n = (53, z0, p0, q0, r0)) (h : stA C M P X 53 z0 p0 q0 r0 n L S I H c' s' (Snd G M p l e R s m args below meth c Qf)) : Snd G M p l e R s m args below meth c Qf (n, L, S, (I, H), c', s') := by
  intro hn ad Hp locs ls hR hS hl hwl hws
  obtain ⟨T, hx, hb, hml, hown, hts, hE, -, -, hM, -⟩ := F
  obtain ⟨hd, hpc, hso, hk⟩ := dk_of T hM hn hc rfl
  have hn1 : n + 1 < szM M := Nat.le_of_ble_eq_true hk
  unfold sok at hso
  simp only [Bool.and_eq_true, decide_eq_true_eq] at hso
  obtain ⟨⟨hp, hz1⟩, hz2⟩ := hso
  have hp : p0 < mxl M := Nat.le_of_ble_eq_true hp
  simp only [iOf] at hd hpc
  replace h : (match L.getD p0 none with | some (.inl a) => ∃ v, v = wrp (a + z0) ∧ Snd G M p l e R s m args below meth c Qf (n + 1, lst L p0 (vi v), S, (I, H), c', s') | _ => False) := h
  split at h
  case h_2 => exact h.elim
  rename_i a ha
  obtain ⟨v, hv, h⟩ := h
  have hvR : inR v := by rw [hv]; exact wrp_in _
  obtain ⟨k9, hk9⟩ := List.getElem?_of_mem (lvl_mem (G := G) (ad := ad) |>.mpr ⟨_, ha, rfl⟩)
  have hln : lnl L p0 = true ∨ lnl L p0 = false := by cases lnl L p0 <;> simp
  refine lv_iinc (v := Int32.ofInt v) (x := Int32.ofInt a) hx hb hd hl hk9 ?_ hp rfl (fun ls' hl' => ?_)
  · rw [hv, oi_add]
  · rw [← hpc]
    refine h hn1 ad Hp locs ls' hR hS ?_ (wl_set hwl hvR) hws
    rcases hln with hln | hln
    · exact lvl_set1 hln hl'
    · exact lvl_set0 hl' hl ha
theorem so_54 (F : Fx G M p l R s m args meth c) (hc : cdM M n = (54, z0, p0, q0, r0)) (h : stA C M P X 54 z0 p0 q0 r0 n L S I H c' s' (Snd G M p l e R s m args below meth c Qf)) : Snd G M p l e R s m args below meth c Qf (n, L, S, (I, H), c', s') := by
  intro hn ad Hp locs ls hR hS hl hwl hws
  obtain ⟨T, hx, hb, hml, hown, hts, hE, -, -, hM, -⟩ := F
  obtain ⟨hd, hpc, hso, hk⟩ := dk_of T hM hn hc rfl
  have hn1 : n + 1 < szM M := Nat.le_of_ble_eq_true hk
  simp only [iOf] at hd hpc
  match S, h, hws with
  | .inl v :: S, h, hws =>
    refine lv_dup (va := gcv G ad (vi v)) hx hb hd (cv_cat _) ?_
    rw [← hpc]; exact (show Snd G M p l e R s m args below meth c Qf (n + 1, L, vi v :: vi v :: S, (I, H), c', s') from h) hn1 ad Hp locs ls hR hS hl hwl (fun x hx => by rcases List.mem_cons.mp hx with rfl | hx; exact hws _ List.mem_cons_self; exact hws x hx)
  | .inr (.inr v) :: S, h, hws =>
    refine lv_dup (va := gcv G ad (.inr (.inr v))) hx hb hd (cv_cat _) ?_
    rw [← hpc]; exact (show Snd G M p l e R s m args below meth c Qf (n + 1, L, .inr (.inr v) :: .inr (.inr v) :: S, (I, H), c', s') from h) hn1 ad Hp locs ls hR hS hl hwl (fun x hx => by rcases List.mem_cons.mp hx with rfl | hx; exact hws _ List.mem_cons_self; exact hws x hx)
  | [], h, _ => exact h.elim
  | .inr (.inl _) :: _, h, _ => exact h.elim
theorem so_55 (F : Fx G M p l R s m args meth c) (hc : cdM M n = (55, z0, p0, q0, r0)) (h : stA C M P X 55 z0 p0 q0 r0 n L S I H c' s' (Snd G M p l e R s m args below meth c Qf)) : Snd G M p l e R s m args below meth c Qf (n, L, S, (I, H), c', s') := by
  intro hn ad Hp locs ls hR hS hl hwl hws
  obtain ⟨T, hx, hb, hml, hown, hts, hE, -, -, hM, -⟩ := F
  obtain ⟨hd, hpc, hso, hk⟩ := dk_of T hM hn hc rfl
  have hn1 : n + 1 < szM M := Nat.le_of_ble_eq_true hk
  simp only [iOf] at hd hpc
  match S, h, hws with
  | .inl v :: .inr (.inr (some a, k)) :: S, h, hws =>
    refine lv_dup2_11 (va := gcv G ad (vi v)) (vb := gcv G ad (vr (some a) k)) hx hb hd (cv_cat _) (cv_cat _) ?_
    rw [← hpc]; exact (show Snd G M p l e R s m args below meth c Qf (n + 1, L, vi v :: vr (some a) k :: vi v :: vr (some a) k :: S, (I, H), c', s') from h) hn1 ad Hp locs ls hR hS hl hwl (fun x hx => by rcases List.mem_cons.mp hx with rfl | hx; exact hws _ List.mem_cons_self; rcases List.mem_cons.mp hx with rfl | hx; exact hws _ (List.mem_cons_of_mem _ List.mem_cons_self); exact hws x hx)
  | [], h, _ => exact h.elim
  | .inl _ :: [], h, _ => exact h.elim
  | .inl _ :: .inl _ :: _, h, _ => exact h.elim
  | .inl _ :: .inr (.inl _) :: _, h, _ => exact h.elim
  | .inl _ :: .inr (.inr (none, _)) :: _, h, _ => exact h.elim
  | .inr _ :: _, h, _ => exact h.elim
theorem so_56 (F : Fx G M p l R s m args meth c) (hc : cdM M n = (56, z0, p0, q0, r0)) (h : stA C M P X 56 z0 p0 q0 r0 n L S I H c' s' (Snd G M p l e R s m args below meth c Qf)) : Snd G M p l e R s m args below meth c Qf (n, L, S, (I, H), c', s') := by
  intro hn ad Hp locs ls hR hS hl hwl hws
  obtain ⟨T, hx, hb, hml, hown, hts, hE, -, -, hM, -⟩ := F
  obtain ⟨hd, hpc, hso, hk⟩ := dk_of T hM hn hc rfl
  have hn1 : n + 1 < szM M := Nat.le_of_ble_eq_true hk
  simp only [iOf] at hd hpc
  match S, h, hws with
  | .inl v :: S, h, hws =>
    refine lv_pop (va := gcv G ad (vi v)) hx hb hd (cv_cat _) ?_
    rw [← hpc]; exact (show Snd G M p l e R s m args below meth c Qf (n + 1, L, S, (I, H), c', s') from h) hn1 ad Hp locs ls hR hS hl hwl (fun x hx => hws x (List.mem_cons_of_mem _ hx))
  | .inr (.inr v) :: S, h, hws =>
    refine lv_pop (va := gcv G ad (.inr (.inr v))) hx hb hd (cv_cat _) ?_
    rw [← hpc]; exact (show Snd G M p l e R s m args below meth c Qf (n + 1, L, S, (I, H), c', s') from h) hn1 ad Hp locs ls hR hS hl hwl (fun x hx => hws x (List.mem_cons_of_mem _ hx))
  | [], h, _ => exact h.elim
  | .inr (.inl _) :: _, h, _ => exact h.elim
end OPS
