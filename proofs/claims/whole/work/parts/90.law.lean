/-! the law's walk, out of the machine's -/
theorem law_go (T : TblOK) (hH : HckOK) {p : Program} {e : Env} {s : State} {m : MethodId} {below : List Frame} {meth : Method} {c : Code} {l : Launch} (hst : l.stackTraces = false) {b L : Nat} {xs : Nat → Int32} (hL : L ≤ 3072) (hx : p.tables.exec = Jvm.exec) (hb : c.code = bM 299) (hrt : meth.sig.returnType = rtM 299) (hml : c.maxLocals = 7)
    (hown : s.vm.findClass (cnm (clM 299)) = some m.cls) (hnm : meth.name = (yM 299).name) (hex : c.exceptionTable.toList = []) (hts0 : ∀ w ∈ lw_tbl, w.before #[Value.ref b] s = true) (hX : va_X b L xs s s.heap) (hbl : b < s.heap.size) (hlk : meth.locks = false) (hN : ∀ w ∈ NAR, w.before #[Value.ref b] s = true)
    (FUN : WP (Call 2000) 299 (fun v _ => v = some (vi 1)) (fun _ _ => False) (0, ent 299 [vr (some 2) 102], [], (I00 L xs, H00 L), 0, 0)) :
    ∃ G : qG, G.2.2.1 = s.heap.size ∧ W p l e room_1 s m #[Value.ref b] below meth c s.heap [] 0 0 (vx_MQ below (PostQ G (fun v _ => v = some (vi 1))) (PostX G (fun _ _ => False)) #[Value.ref b] s (mcM 299) (msM 299) (gA G)) (entryFrame m ([Value.ref b] : List Value).toArray 7) := by
  have hT := lwt_ok hts0
  obtain ⟨G, hS, hG1, hG2, hR⟩ := start_sta T hL hN hT hX hbl
  refine ⟨G, hG1, ?_⟩
  have F : Fx G 299 p l room_1 s m #[Value.ref b] meth c := ⟨T, hx, hb, hml, hown, fun w hw => hT w (big_in w hw), hS, ⟨rfl, rfl⟩, ⟨by decide, by decide⟩, Nat.le_refl _, hnm, Nat.le_of_eq hG1, hst, hlk, hrt, by rw [hex]; rfl⟩
  have hl := ent_has (G := G) (ad := fun _ => 0) (M := 299) (as := [vr (some 2) 102]) rfl (by decide)
  have e1 : [vr (some 2) 102].map (gcv G (fun _ => 0)) = [Value.ref b] := by
    show [Value.ref (G.2.2.2.2.2.1 2)] = _
    rw [hG2]
  rw [e1] at hl
  rw [lg_entry_eq]
  refine walk_ok F hH (sound T hH hst 2000) ⟨by decide, by decide⟩ FUN hR hl (fun i v hv => ?_)
  have h9 := ent_at hv
  match i, h9 with
  | 0, h9 => cases h9; exact (rfl : (2 : Nat) = 2)
  | i + 1, h9 => simp at h9
