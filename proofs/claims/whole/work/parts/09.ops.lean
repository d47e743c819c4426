/-! one step each: the machine does it -/
section OPS
variable {G : qG} {M : Nat} {p : Program} {l : Launch} {e : Env} {R : Room} {s : State} {m : MethodId} {args : Array Value} {below : List Frame} {meth : Method} {c : Code} {Qf : State → Prop} {C : qC} {P : Option qV → qH → Prop} {X : Nat → qH → Prop}
variable {n : Nat} {z0 : Int} {p0 q0 r0 : Nat} {L : List (Option qV)} {S : List qV} {I : qI} {H : qS} {c' s' : Nat}
theorem nok_next {op : Nat} (h : nok M n op z0 p0 = true) (ho : Nat.blt (n + 1) (szM M) = true → True) (hb : nok M n op z0 p0 = Nat.blt (n + 1) (szM M)) : n + 1 < szM M := by
  rw [hb] at h
  exact Nat.le_of_ble_eq_true h
theorem fin4 {a : Nat} (h : a < 4) : ((Fin.ofNat 4 a : Fin 4) : Nat) = a := Nat.mod_eq_of_lt h
theorem so_0 (F : Fx G M p l R s m args meth c) (hc : cdM M n = (0, z0, p0, q0, r0)) (h : stA C M P X 0 z0 p0 q0 r0 n L S I H c' s' (Snd G M p l e R s m args below meth c Qf)) : Snd G M p l e R s m args below meth c Qf (n, L, S, (I, H), c', s') := by
  intro hn ad Hp locs ls hR hS hl hwl hws
  obtain ⟨T, hx, hb, hml, hown, hts, hE, -, -, hM, -⟩ := F
  obtain ⟨hd, hpc, -, hk⟩ := dk_of T hM hn hc rfl
  have hn1 : n + 1 < szM M := Nat.le_of_ble_eq_true hk
  replace h : (match L.getD p0 none with | some (.inl v) => Snd G M p l e R s m args below meth c Qf (n + 1, L, vi v :: S, (I, H), c', s') | _ => False) := h
  split at h
  case h_2 => exact h.elim
  rename_i v hv
  have k := h hn1 ad Hp locs ls hR hS hl hwl (fun x hx => by rcases List.mem_cons.mp hx with rfl | hx; exact hwl p0 _ hv; exact hws x hx)
  by_cases h4 : p0 < 4
  · simp only [iOf, if_pos h4] at hd hpc
    refine lv_iload_n (x := Int32.ofInt v) hx hb hd (fin4 h4) (lvl_at hl hv) ?_
    rw [← hpc]; exact k
  · simp only [iOf, if_neg h4] at hd hpc
    refine lv_iload (x := Int32.ofInt v) hx hb hd (lvl_at hl hv) ?_
    rw [← hpc]; exact k
theorem so_1 (F : Fx G M p l R s m args meth c) (hc : cdM M n = (1, z0, p0, q0, r0)) (h : stA C M P X 1 z0 p0 q0 r0 n L S I H c' s' (Snd G M p l e R s m args below meth c Qf)) : Snd G M p l e R s m args below meth c Qf (n, L, S, (I, H), c', s') := by
  intro hn ad Hp locs ls hR hS hl hwl hws
  obtain ⟨T, hx, hb, hml, hown, hts, hE, -, -, hM, -⟩ := F
  obtain ⟨hd, hpc, -, hk⟩ := dk_of T hM hn hc rfl
  have hn1 : n + 1 < szM M := Nat.le_of_ble_eq_true hk
  replace h : (match L.getD p0 none with | some (.inr (.inr (some a, k))) => Snd G M p l e R s m args below meth c Qf (n + 1, L, vr (some a) k :: S, (I, H), c', s') | _ => False) := h
  split at h
  case h_2 => exact h.elim
  rename_i a k0 hv
  have k := h hn1 ad Hp locs ls hR hS hl hwl (fun x hx => by rcases List.mem_cons.mp hx with rfl | hx; exact hwl p0 _ hv; exact hws x hx)
  by_cases h4 : p0 < 4
  · simp only [iOf, if_pos h4] at hd hpc
    refine lv_aload_n hx hb hd (fin4 h4) (lvl_at hl hv) ?_
    rw [← hpc]; exact k
  · simp only [iOf, if_neg h4] at hd hpc
    refine lv_aload hx hb hd (lvl_at hl hv) ?_
    rw [← hpc]; exact k
theorem so_2 (F : Fx G M p l R s m args meth c) (hc : cdM M n = (2, z0, p0, q0, r0)) (h : stA C M P X 2 z0 p0 q0 r0 n L S I H c' s' (Snd G M p l e R s m args below meth c Qf)) : Snd G M p l e R s m args below meth c Qf (n, L, S, (I, H), c', s') := by
  intro hn ad Hp locs ls hR hS hl hwl hws
  obtain ⟨T, hx, hb, hml, hown, hts, hE, -, -, hM, -⟩ := F
  obtain ⟨hd, hpc, hso, hk⟩ := dk_of T hM hn hc rfl
  have hn1 : n + 1 < szM M := Nat.le_of_ble_eq_true hk
  have h4 : p0 < 4 := Nat.le_of_ble_eq_true hso
  replace h : (match L.getD p0 none with | some (.inr (.inl v)) => Snd G M p l e R s m args below meth c Qf (n + 1, L, vl v :: S, (I, H), c', s') | _ => False) := h
  split at h
  case h_2 => exact h.elim
  rename_i v hv
  have k := h hn1 ad Hp locs ls hR hS hl hwl (fun x hx => by rcases List.mem_cons.mp hx with rfl | hx; exact hwl p0 _ hv; exact hws x hx)
  simp only [iOf] at hd hpc
  refine lv_lload_n (x := Int64.ofInt v) hx hb hd (fin4 h4) (lvl_at hl hv) ?_
  rw [← hpc]; exact k
theorem wl_set {H : qS} {v : qV} {i : Nat} (hwl : ∀ i v, L.getD i none = some v → wv H v) (hv : wv H v) : ∀ j u, (lst L i v).getD j none = some u → wv H u := by
  intro j u hu
  rcases getD_set (L := L) (i := i) (o := some v) hu with ⟨-, e⟩ | ⟨-, e⟩
  · cases e; exact hv
  · exact hwl j u e
theorem so_3 (F : Fx G M p l R s m args meth c) (hc : cdM M n = (3, z0, p0, q0, r0)) (h : stA C M P X 3 z0 p0 q0 r0 n L S I H c' s' (Snd G M p l e R s m args below meth c Qf)) : Snd G M p l e R s m args below meth c Qf (n, L, S, (I, H), c', s') := by
  intro hn ad Hp locs ls hR hS hl hwl hws
  obtain ⟨T, hx, hb, hml, hown, hts, hE, -, -, hM, -⟩ := F
  obtain ⟨hd, hpc, hso, hk⟩ := dk_of T hM hn hc rfl
  have hn1 : n + 1 < szM M := Nat.le_of_ble_eq_true hk
  have hp : p0 < mxl M := Nat.le_of_ble_eq_true hso
  match S, h, hws with
  | .inl v :: S, h, hws =>
    replace h : (bif lnl L p0 then Snd G M p l e R s m args below meth c Qf (n + 1, lst L p0 (vi v), S, (I, H), c', s') else False) := h
    cases hln : lnl L p0 with
    | false => rw [hln] at h; exact h.elim
    | true =>
      rw [hln, cond_true] at h
      have hv := hws _ List.mem_cons_self
      have k := fun ls' (hl' : lv_has ls' (mxl M) _) => h hn1 ad Hp locs ls' hR hS (lvl_set1 hln hl') (wl_set hwl hv) (fun x hx => hws x (List.mem_cons_of_mem _ hx))
      by_cases h4 : p0 < 4
      · simp only [iOf, if_pos h4] at hd hpc
        refine lv_istore_n (x := Int32.ofInt v) hx hb hd (fin4 h4) hl hp rfl (fun ls' hl' => ?_)
        rw [← hpc]; exact k ls' hl'
      · simp only [iOf, if_neg h4] at hd hpc
        refine lv_istore (x := Int32.ofInt v) hx hb hd hl hp rfl (fun ls' hl' => ?_)
        rw [← hpc]; exact k ls' hl'
  | [], h, _ => exact h.elim
  | .inr _ :: _, h, _ => exact h.elim
theorem so_4 (F : Fx G M p l R s m args meth c) (hc : cdM M n = (4, z0, p0, q0, r0)) (h : stA C M P X 4 z0 p0 q0 r0 n L S I H c' s' (Snd G M p l e R s m args below meth c Qf)) : Snd G M p l e R s m args below meth c Qf (n, L, S, (I, H), c', s') := by
  intro hn ad Hp locs ls hR hS hl hwl hws
  obtain ⟨T, hx, hb, hml, hown, hts, hE, -, -, hM, -⟩ := F
  obtain ⟨hd, hpc, hso, hk⟩ := dk_of T hM hn hc rfl
  have hn1 : n + 1 < szM M := Nat.le_of_ble_eq_true hk
  have hp : p0 < mxl M := Nat.le_of_ble_eq_true hso
  match S, h, hws with
  | .inr (.inr (some a, k0)) :: S, h, hws =>
    replace h : (bif lnl L p0 then Snd G M p l e R s m args below meth c Qf (n + 1, lst L p0 (vr (some a) k0), S, (I, H), c', s') else False) := h
    cases hln : lnl L p0 with
    | false => rw [hln] at h; exact h.elim
    | true =>
      rw [hln, cond_true] at h
      have hv := hws _ List.mem_cons_self
      have k := fun ls' (hl' : lv_has ls' (mxl M) _) => h hn1 ad Hp locs ls' hR hS (lvl_set1 hln hl') (wl_set hwl hv) (fun x hx => hws x (List.mem_cons_of_mem _ hx))
      by_cases h4 : p0 < 4
      · simp only [iOf, if_pos h4] at hd hpc
        refine lv_astore_n hx hb hd (fin4 h4) hl hp rfl (fun ls' hl' => ?_)
        rw [← hpc]; exact k ls' hl'
      · simp only [iOf, if_neg h4] at hd hpc
        refine lv_astore hx hb hd hl hp rfl (fun ls' hl' => ?_)
        rw [← hpc]; exact k ls' hl'
  | [], h, _ => exact h.elim
  | .inl _ :: _, h, _ => exact h.elim
  | .inr (.inl _) :: _, h, _ => exact h.elim
  | .inr (.inr (none, _)) :: _, h, _ => exact h.elim
theorem so_5 (F : Fx G M p l R s m args meth c) (hc : cdM M n = (5, z0, p0, q0, r0)) (h : stA C M P X 5 z0 p0 q0 r0 n L S I H c' s' (Snd G M p l e R s m args below meth c Qf)) : Snd G M p l e R s m args below meth c Qf (n, L, S, (I, H), c', s') := by
  intro hn ad Hp locs ls hR hS hl hwl hws
  obtain ⟨T, hx, hb, hml, hown, hts, hE, -, -, hM, -⟩ := F
  obtain ⟨hd, hpc, hso, hk⟩ := dk_of T hM hn hc rfl
  have hn1 : n + 1 < szM M := Nat.le_of_ble_eq_true hk
  obtain ⟨h4, hp⟩ := (Bool.and_eq_true _ _).mp hso
  have h4 : p0 < 4 := Nat.le_of_ble_eq_true h4
  have hp : p0 + 1 < mxl M := Nat.le_of_ble_eq_true hp
  match S, h, hws with
  | .inr (.inl v) :: S, h, hws =>
    replace h : (bif lnl L p0 then Snd G M p l e R s m args below meth c Qf (n + 1, (lst L p0 (vl v)).set (p0 + 1) none, S, (I, H), c', s') else False) := h
    cases hln : lnl L p0 with
    | false => rw [hln] at h; exact h.elim
    | true =>
      rw [hln, cond_true] at h
      have hv := hws _ List.mem_cons_self
      simp only [iOf] at hd hpc
      refine lv_lstore_n (x := Int64.ofInt v) hx hb hd (fin4 h4) hl hp rfl (fun ls' hl' => ?_)
      rw [← hpc]
      refine h hn1 ad Hp locs ls' hR hS (lvl_set2 hln hl') (fun j u hu => ?_) (fun x hx => hws x (List.mem_cons_of_mem _ hx))
      rcases getD_set (L := lst L p0 (vl v)) (i := p0 + 1) (o := none) hu with ⟨-, e0⟩ | ⟨-, e1⟩
      · cases e0
      · exact wl_set hwl hv j u e1
  | [], h, _ => exact h.elim
  | .inl _ :: _, h, _ => exact h.elim
  | .inr (.inr _) :: _, h, _ => exact h.elim
end OPS
