/-! THE BYTECODE DOES WHAT THE ABSTRACT MACHINE DOES -/
theorem pc0_all : (List.range (nL_law + 1)).all (fun M => Nat.beq (pcM M 0) 0 && Nat.blt 0 (szM M)) = true := by decide +kernel
theorem pc0 {M : Nat} (hM : M ≤ nL_law) : pcM M 0 = 0 ∧ 0 < szM M := by
  have h := List.all_eq_true.mp pc0_all M (List.mem_range.mpr (Nat.lt_succ_of_le hM))
  rw [Bool.and_eq_true] at h
  exact ⟨Nat.eq_of_beq_eq_true h.1, Nat.le_of_ble_eq_true h.2⟩
section STEP
variable {G : qG} {M : Nat} {p : Program} {l : Launch} {e : Env} {R : Room} {s : State} {m : MethodId} {args : Array Value} {below : List Frame} {meth : Method} {c : Code} {P : Option qV → qH → Prop} {X : Nat → qH → Prop} {d : Nat}
theorem stA_far {C : qC} {k : Nat} {z : Int} {p0 q r n : Nat} {L : List (Option qV)} {S : List qV} {I : qI} {H : qS} {c' s' : Nat} {K : qT → Prop} (h : stA C M P X (k + 68) z p0 q r n L S I H c' s' K) : False := h
set_option maxHeartbeats 1000000 in
theorem snd_step (F : Fx G M p l R s m args meth c) (hH : HckOK) (hI : SoundAt l d) (hRR : d + 1 + 20 ≤ R.frames ∧ 41 * (d + 1) + 300 ≤ R.locals) (t : qT) (h : stp (Call d) M P X t (Snd G M p l e R s m args below meth c (vx_MQ below (PostQ G P) (PostX G X) args s (mcM M) (msM M) (gA G)))) : Snd G M p l e R s m args below meth c (vx_MQ below (PostQ G P) (PostX G X) args s (mcM M) (msM M) (gA G)) t := by
  obtain ⟨n, L, S, ⟨I, H⟩, c', s'⟩ := t
  obtain ⟨⟨op, z, p0, q, r⟩, hc⟩ : ∃ w, cdM M n = w := ⟨_, rfl⟩
  unfold stp at h
  dsimp only at h
  rw [hc] at h
  match op, hc, h with
  | 0, hc, h => exact so_0 F hc h
  | 1, hc, h => exact so_1 F hc h
  | 2, hc, h => exact so_2 F hc h
  | 3, hc, h => exact so_3 F hc h
  | 4, hc, h => exact so_4 F hc h
  | 5, hc, h => exact so_5 F hc h
  | 6, hc, h => exact so_6 F hc h
  | 7, hc, h => exact so_7 F hc h
  | 8, hc, h => exact so_8 F hc h
  | 9, hc, h => exact so_9 F hc h
  | 10, hc, h => exact so_10 F hc h
  | 11, hc, h => exact so_11 F hc h
  | 12, hc, h => exact so_12 F hc h
  | 13, hc, h => exact so_13 F hc h
  | 14, hc, h => exact so_14 F hc h
  | 15, hc, h => exact so_15 F hc h
  | 16, hc, h => exact so_16 F hc h
  | 17, hc, h => exact so_17 F hc h
  | 18, hc, h => exact so_18 F hc h
  | 19, hc, h => exact so_19 F hc h
  | 20, hc, h => exact so_20 F hc h
  | 21, hc, h => exact so_21 F hc h
  | 22, hc, h => exact so_22 F hc h
  | 23, hc, h => exact so_23 F hc h
  | 24, hc, h => exact so_24 F hc h
  | 25, hc, h => exact so_25 F hc h
  | 26, hc, h => exact so_26 F hc h
  | 27, hc, h => exact so_27 F hc h
  | 28, hc, h => exact so_28 F hH hI hRR hc h
  | 29, hc, h => exact so_29 F hc h
  | 30, hc, h => exact so_30 F hc h
  | 31, hc, h => exact so_31 F hc h
  | 32, hc, h => exact so_32 F hc h
  | 33, hc, h => exact so_33 F hc h
  | 34, hc, h => exact so_34 F hc h
  | 35, hc, h => exact so_35 F hc h
  | 36, hc, h => exact so_36 F hc h
  | 37, hc, h => exact so_37 F hc h
  | 38, hc, h => exact so_38 F hc h
  | 39, hc, h => exact so_39 F hc h
  | 40, hc, h => exact so_40 F hc h
  | 41, hc, h => exact so_41 F hc h
  | 42, hc, h => exact so_42 F hc h
  | 43, hc, h => exact so_43 F hc h
  | 44, hc, h => exact so_44 F hc h
  | 45, hc, h => exact so_45 F hc h
  | 46, hc, h => exact so_46 F hc h
  | 47, hc, h => exact so_47 F hc h
  | 48, hc, h => exact so_48 F hc h
  | 49, hc, h => exact so_49 F hc h
  | 50, hc, h => exact so_50 F hc h
  | 51, hc, h => exact so_51 F hc h
  | 52, hc, h => exact so_52 F hc h
  | 53, hc, h => exact so_53 F hc h
  | 54, hc, h => exact so_54 F hc h
  | 55, hc, h => exact so_55 F hc h
  | 56, hc, h => exact so_56 F hc h
  | 57, hc, h => exact so_57 F hc h
  | 58, hc, h => exact so_58 F hc h
  | 59, hc, h => exact so_59 F hc h
  | 60, hc, h => exact so_60 F hc h
  | 61, hc, h => exact so_61 F hc h
  | 62, hc, h => exact so_62 F hc h
  | 63, hc, h => exact so_63 F hc h
  | 64, hc, h => exact so_64 F hc h
  | 65, hc, h => exact so_65 F hc h
  | 66, hc, h => exact so_66 F hc h
  | 67, hc, h => exact so_67 F hI hRR hc h
  | k + 68, hc, h => exact (stA_far h).elim
/-- a method's walk, from its entry to its end -/
theorem walk_ok (F : Fx G M p l R s m args meth c) (hH : HckOK) (hI : SoundAt l d) (hRR : d + 1 + 20 ≤ R.frames ∧ 41 * (d + 1) + 300 ≤ R.locals) {as : List qV} {g : qH} (h : WP (Call d) M P X (0, ent M as, [], g, 0, 0)) {ad : Nat → Nat} (hR : Rl G ad g s.heap) {ls : Array Slot} (hl : lv_has ls (mxl M) (lvl G ad (ent M as))) (hw : ∀ i v, (ent M as).getD i none = some v → wv g.2 v) :
    W p l e R s m args below meth c s.heap [] 0 0 (vx_MQ below (PostQ G P) (PostX G X) args s (mcM M) (msM M) (gA G)) (F0 m 0 ls []) := by
  have hM : M ≤ nL_law := F.2.2.2.2.2.2.2.2.2.1
  have k := h _ (fun u hu => snd_step (e := e) (below := below) F hH hI hRR u hu) (pc0 hM).2 ad s.heap [] ls hR va_S.rf hl hw (fun v hv => nomatch hv)
  rw [show pcM M (0, ent M as, ([] : List qV), g, 0, 0).1 = 0 from (pc0 hM).1] at k
  exact k
end STEP
theorem ent_at {M : Nat} {as : List qV} {i : Nat} {v : qV} (h : (ent M as).getD i none = some v) : as[i]? = some v := by
  unfold ent at h
  rw [List.getD_eq_getElem?_getD, List.getElem?_append] at h
  split at h
  · rename_i hlt
    rw [List.getElem?_map] at h
    cases ha : as[i]? with
    | none => rw [ha] at h; cases h
    | some w => rw [ha] at h; cases h; rfl
  · rw [List.getElem?_replicate] at h
    split at h <;> cases h
theorem lg_len : ∀ vs : List Value, (∀ v ∈ vs, v.category = 1) → (lg_sl vs).length = vs.length
  | [], _ => rfl
  | v :: vs, h => by
    have h1 := h v List.mem_cons_self
    have h2 := lg_len vs (fun w hw => h w (List.mem_cons_of_mem _ hw))
    have e : lg_sl (v :: vs) = (if v.category = 2 then [Slot.val v, Slot.second] else [Slot.val v]) ++ lg_sl vs := rfl
    rw [e, h1, List.length_append, h2, List.length_cons]
    show 1 + vs.length = vs.length + 1
    omega
theorem lv_args_at : ∀ (vs : List Value) (k j : Nat) (w : Value), (∀ v ∈ vs, v.category = 1) → vs[j]? = some w → (k + j, w) ∈ lv_args k vs
  | [], _, _, _, _, h => by simp at h
  | v :: vs, k, 0, w, _, h => by
    cases h
    exact List.mem_cons_self
  | v :: vs, k, j + 1, w, hc, h => by
    have h1 := hc v List.mem_cons_self
    have h2 := lv_args_at vs (k + 1) j w (fun x hx => hc x (List.mem_cons_of_mem _ hx)) (by simpa using h)
    have e : lv_args k (v :: vs) = (k, v) :: lv_args (k + 1) vs := by
      show (k, v) :: lv_args (if v.category = 2 then k + 2 else k + 1) vs = _
      rw [h1]; rfl
    rw [e, show k + (j + 1) = k + 1 + j by omega]
    exact List.mem_cons_of_mem _ h2
/-- the locals at the entry -/
theorem ent_has {G : qG} {ad : Nat → Nat} {M : Nat} {as : List qV} (hn : nlg as = true) (hlen : as.length ≤ mxl M) :
    lv_has ((lg_sl (as.map (gcv G ad)) ++ List.replicate (mxl M - (lg_sl (as.map (gcv G ad))).length) Slot.unset).toArray) (mxl M) (lvl G ad (ent M as)) := by
  have hc : ∀ v ∈ as.map (gcv G ad), v.category = 1 := nlg_cat hn
  have h := lv_entry (as.map (gcv G ad)) (n := mxl M) (by rw [lg_len _ hc, List.length_map]; exact hlen)
  refine lv_weak h ?_
  rintro ⟨i, w⟩ hq
  obtain ⟨v, hv, rfl⟩ := lvl_mem.mp hq
  have h2 := lv_args_at (as.map (gcv G ad)) 0 i (gcv G ad v) hc (by rw [List.getElem?_map, ent_at hv]; rfl)
  rw [Nat.zero_add] at h2
  exact h2
theorem sound (T : TblOK) (hH : HckOK) {l : Launch} (hst : l.stackTraces = false) : ∀ d, SoundAt l d := by
  intro d
  induction d with
  | zero => exact fun _ _ _ _ _ _ _ _ h => h.elim
  | succ d ih =>
    intro M hM G ad as g P X h hasw hasn hasl
    obtain ⟨hcd, hini, hpl, hne, hpar, hcls, hc14, hmx⟩ := T.2.2.2.2.1 M hM
    have hw : ∀ i v, (ent M as).getD i none = some v → wv g.2 v := fun i v hv => hasw v (List.mem_of_getElem? (ent_at hv))
    have main : ∀ (p : Program) (e : Env) (s : State) (m : MethodId) (below : List Frame) (meth : Method) (c : Code), p.tables.exec = Jvm.exec → c.code = bM M → c.maxLocals = mxl M → s.vm.findClass (yM M).cls = some m.cls → (∀ w ∈ BIG, w.before (as.map (gcv G ad)).toArray s = true) → Sta G s → Rl (gW G ad g.2) ad g s.heap → meth.name = (yM M).name → meth.locks = false → meth.sig.returnType = rtM M → c.exceptionTable.toList = tableOf (hhT M) →
        W p l e (rmM (d + 1) M) s m (as.map (gcv G ad)).toArray below meth c s.heap [] 0 0 (vx_MQ below (PostQ (gW G ad g.2) P) (PostX (gW G ad g.2) X) (as.map (gcv G ad)).toArray s (mcM M) (msM M) (gA G)) (entryFrame m (as.map (gcv G ad)).toArray (mxl M)) := by
      intro p e s m below meth c hx hb hml hown hts hE hR hnm hlk hrt hex
      have F : Fx (gW G ad g.2) M p l (rmM (d + 1) M) s m (as.map (gcv G ad)).toArray meth c :=
        ⟨T, hx, hb, hml, by rw [← hcls]; exact hown, hts, hE, ⟨rfl, rfl⟩, ⟨by show 20 ≤ d + 1 + 20; omega, by show 300 ≤ 41 * (d + 1) + 300; omega⟩, Nat.le_of_lt hM, hnm, hR.2.2.2.1, hst, hlk, hrt, hex⟩
      rw [lg_entry_eq]
      exact walk_ok F hH ih ⟨Nat.le_refl _, Nat.le_refl _⟩ h hR (ent_has (G := G) hasn hasl) hw
    by_cases h0 : hnd M = []
    · rw [if_pos h0] at hcd
      refine vx_ofW (cc := bM M) (maxL := mxl M) (ret := rtM M) (ws' := BIG) hpl (by unfold wsM; rw [if_pos h0]) ?_
      intro p e s m args below meth c s₁ B hml hte hP
      obtain ⟨ha, hE, hR⟩ := hP
      subst ha
      refine main p e s m below meth c B.exec B.bytes hml (findClass_of_methodNamed B.named) (fun w hw => atoms_spec B.pre w (List.mem_cons_of_mem _ hw)) hE hR (name_of_methodNamed B.named B.method).1 B.notSynchronized B.returns ?_
      unfold hhT
      rw [if_pos h0]
      cases hz : c.exceptionTable.toList with
      | nil => rfl
      | cons x xs => exact (hte x (by rw [hz]; exact List.mem_cons_self)).elim
    · rw [if_neg h0] at hcd
      refine vx_ofWH (cc := bM M) (maxL := mxl M) (ret := rtM M) (hh := hhM M) (ws' := BIG) hpl (by unfold wsM; rw [if_neg h0]) ?_
      intro p e s m args below meth c s₁ B hml hP
      obtain ⟨ha, hE, hR⟩ := hP
      subst ha
      refine main p e s m below meth c B.exec B.bytes hml (findClass_of_methodNamed B.named) (fun w hw => atoms_spec B.pre w (List.mem_cons_of_mem _ hw)) hE hR (name_of_methodNamed B.named B.method).1 B.notSynchronized B.returns ?_
      unfold hhT
      rw [if_neg h0]
      exact vx_table (x := yM M) B (atoms_spec B.pre _ (by unfold wsM; rw [if_neg h0]; exact List.mem_cons_self))
