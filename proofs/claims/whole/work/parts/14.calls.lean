/-! calls: what comes back, what is thrown and caught -/
def hcE (M : Nat) (x : Nat × Nat × Nat × Nat × Int) (y : Nat × Nat × Nat × Nat) : Bool := Nat.beq (pcM M x.2.2.1) y.2.2.1 && (Nat.blt (x.2.2.1 + 2) (szM M) && (Nat.blt x.2.2.2.1 4 && (Nat.beq (cdM M x.2.2.1).1 4 && (Nat.beq (cdM M (x.2.2.1 + 1)).1 6 && (decide ((cdM M (x.2.2.1 + 1)).2.1 = x.2.2.2.2) && (Nat.beq (cdM M (x.2.2.1 + 2)).1 57 && ((([(13, 0), (24, 1), (15, 2), (26, 3)] : List (Nat × Nat)).contains (y.2.2.2, x.2.2.2.1)) && (List.range (szM M)).all (fun n => covers ⟨y.1, y.2.1, y.2.2.1, y.2.2.2⟩ (pcM M n) == (Nat.ble x.1 n && Nat.blt n x.2.1)))))))))
def hcL (M : Nat) : List (Nat × Nat × Nat × Nat × Int) → List (Nat × Nat × Nat × Nat) → Bool
  | [], [] => true
  | x :: xs, y :: ys => hcE M x y && hcL M xs ys
  | _, _ => false
/-- the handlers of M are as its table has them -/
def hck (M : Nat) : Bool := (hnd M).isEmpty || (Nat.beq (clM M) 13 && (!(rbM M) && hcL M (hnd M) (hhM M)))
def HckOK : Prop := ∀ M, M ≤ nL_law → hck M = true
theorem wd_hc : ∀ x ∈ ([(13, 0), (24, 1), (15, 2), (26, 3)] : List (Nat × Nat)), Cond.classLink (cnm 13) x.1 (exN x.2) ∈ BIG := List.forall_mem_cons.mpr ⟨big_of 650 (by decide +kernel) (by decide +kernel), List.forall_mem_cons.mpr ⟨big_of 1007 (by decide +kernel) (by decide +kernel), List.forall_mem_cons.mpr ⟨big_of 651 (by decide +kernel) (by decide +kernel), List.forall_mem_cons.mpr ⟨big_of 1008 (by decide +kernel) (by decide +kernel), fun _ q => nomatch q⟩⟩⟩⟩
def wsM (M : Nat) : List Cond := (if hnd M = [] then Cond.code (yM M) (bM M) (mxl M) (rtM M) else Cond.codeWith (yM M) (bM M) (mxl M) (rtM M) (hhM M)) :: BIG
def rmM (d M : Nat) : Room := { frames := d + 20, locals := 41 * d + 300, cells := mcM M, slots := msM M }
section RUN
variable {G : qG} {M : Nat} {p : Program} {l : Launch} {e : Env} {R : Room} {s : State} {m : MethodId} {args : Array Value} {below : List Frame} {meth : Method} {c : Code} {Qf : State → Prop}
variable {I : qI} {H : qS} {c' s' mc ms pc : Nat} {ad : Nat → Nat} {Hp : Heap} {locs : List Loc} {ls : Array Slot} {st0 rest : List Value} {aa : Array Value} {P' : Option qV → qH → Prop} {X' : Nat → qH → Prop}
theorem Rl.up {g' : qH} {ad' : Nat → Nat} {H1 H2 : Heap} (hR : Rl G ad (I, H) Hp) (h : Rl (gW G ad H) ad' g' H1) (e1 : H2 = H1) : Rl G ad' g' H2 ∧ ext ad ad' H g'.2 := by
  subst e1
  exact ⟨⟨h.1, h.2.1, h.2.2.1, h.2.2.2.1, hR.2.2.2.2.tr h.2.2.2.2⟩, h.2.2.2.2⟩
theorem run_vx (hr : vx_Run p l e R s m args below meth c Hp locs c' s' mc ms (F0 m pc ls st0) rest (PostQ (gW G ad H) P' aa) (PostX (gW G ad H) X') (gA G)) (hS : va_S (gA G) s.heap Hp locs) (hR : Rl G ad (I, H) Hp)
    (kx : ∀ (ce : Cell) (q9 : Addr) (k : Nat) (g' : qH) (ad' : Nat → Nat) (H1 : Heap) (locs1 : List Loc), k < 4 → X' k g' → Rl G ad' g' H1 → va_S (gA G) s.heap H1 locs1 → H1[q9]? = some ce → ce.vm = .none → s.vm.findClass (exN k) = some ce.cls → vx_W p l e R s m args below meth c H1 locs1 (c' + mc) (s' + ms) Qf (F0 m pc ls rest) q9)
    (kk : ∀ (v : Option qV) (g' : qH) (ad' : Nat → Nat) (H1 : Heap) (locs1 : List Loc), P' v g' → Rl G ad' g' H1 → ext ad ad' H g'.2 → (∀ x, v = some x → wv g'.2 x) → va_S (gA G) s.heap H1 locs1 → W p l e R s m args below meth c H1 locs1 (c' + mc) (s' + ms) Qf (F0 m (pc + 3) ls ((v.map (gcv G ad')).toList ++ rest))) :
    W p l e R s m args below meth c Hp locs c' s' Qf (F0 m pc ls st0) := by
  intro T hT X
  rcases hr T hT X with ⟨v, st₀, t, T', L, h0, X', hL, e1, e2, ⟨v', g', ad', ho, hp, hRl, hw, hF⟩, st⟩ | ⟨q, st₀, t, T', L, E, ce, h0, X', hL, e1, e2, ⟨k, g', ad', hk, hE, hx, hRl, hF⟩, hce, hcv, hcl, st⟩
  · cases ho
    obtain ⟨k1, k2, k3⟩ := vx_keep (A1 := gA G) h0 e1 hS (fun _ _ h => h) (fun _ h => h) hL hF
    obtain ⟨q1, q2⟩ := hR.up hRl e1
    obtain ⟨t2, a1, b1⟩ := kk v' g' ad' T'.heap (locs ++ L) hp q1 q2 hw k3 T' rfl X'
    exact ⟨t2, st t2 a1, b1⟩
  · subst hE
    obtain ⟨k1, k2, k3⟩ := vx_keep (A1 := gA G) h0 e1 hS (fun _ _ h => h) (fun _ h => h) hL hF
    obtain ⟨q1, q2⟩ := hR.up hRl e1
    obtain ⟨t2, a1, b1⟩ := kx ce q k g' ad' T'.heap (locs ++ L) hk hx q1 k3 (by rw [e1]; exact hce) hcv hcl T' rfl X'
    exact ⟨t2, st.trans a1, b1⟩
theorem run_va (hr : va_Run p l e R s m args below meth c Hp locs c' s' mc ms (F0 m pc ls st0) rest (PostQ (gW G ad H) P' aa) (gA G)) (hS : va_S (gA G) s.heap Hp locs) (hR : Rl G ad (I, H) Hp)
    (kk : ∀ (v : Option qV) (g' : qH) (ad' : Nat → Nat) (H1 : Heap) (locs1 : List Loc), P' v g' → Rl G ad' g' H1 → ext ad ad' H g'.2 → (∀ x, v = some x → wv g'.2 x) → va_S (gA G) s.heap H1 locs1 → W p l e R s m args below meth c H1 locs1 (c' + mc) (s' + ms) Qf (F0 m (pc + 3) ls ((v.map (gcv G ad')).toList ++ rest))) :
    W p l e R s m args below meth c Hp locs c' s' Qf (F0 m pc ls st0) := by
  intro T hT X
  obtain ⟨v, st₀, t, T', L, h0, X', hL, e1, e2, ⟨v', g', ad', ho, hp, hRl, hw, hF⟩, st⟩ := hr T hT X
  cases ho
  obtain ⟨k1, k2, k3⟩ := vx_keep (A1 := gA G) h0 e1 hS (fun _ _ h => h) (fun _ h => h) hL hF
  obtain ⟨q1, q2⟩ := hR.up hRl e1
  obtain ⟨t2, a1, b1⟩ := kk v' g' ad' T'.heap (locs ++ L) hp q1 q2 hw k3 T' rfl X'
  exact ⟨t2, st t2 a1, b1⟩
/-- it goes on behind a call -/
theorem snd_back {n' c1 s1 : Nat} {L : List (Option qV)} {Sr : List qV} {v : Option qV} {g' : qH} {ad' : Nat → Nat} {H1 : Heap} {locs1 : List Loc} (h : Snd G M p l e R s m args below meth c Qf (n', L, v.toList ++ Sr, g', c1, s1)) (hn : n' < szM M) (hR : Rl G ad' g' H1) (hx : ext ad ad' H g'.2) (hv : ∀ x, v = some x → wv g'.2 x) (hS : va_S (gA G) s.heap H1 locs1)
    (hl : lv_has ls (mxl M) (lvl G ad L)) (hwl : ∀ i v, L.getD i none = some v → wv H v) (hws : ∀ x ∈ Sr, wv H x) : W p l e R s m args below meth c H1 locs1 c1 s1 Qf (F0 m (pcM M n') ls ((v.map (gcv G ad')).toList ++ Sr.map (gcv G ad))) := by
  have e1 : (v.toList ++ Sr).map (gcv G ad') = (v.map (gcv G ad')).toList ++ Sr.map (gcv G ad) := by
    rw [List.map_append, map_ext hx hws]
    cases v <;> rfl
  rw [← e1]
  refine h hn ad' H1 locs1 ls hR hS (by rw [lvl_ext hx hwl]; exact hl) (fun i v hv => (hwl i v hv).ext hx) (fun x hx9 => ?_)
  rcases List.mem_append.mp hx9 with h9 | h9
  · exact hv x (by cases v with
      | none => cases h9
      | some y => rw [Option.toList_some, List.mem_singleton] at h9; rw [h9])
  · exact (hws x h9).ext hx
end RUN
section THROW
variable {G : qG} {M : Nat} {p : Program} {l : Launch} {e : Env} {R : Room} {s : State} {m : MethodId} {args : Array Value} {below : List Frame} {meth : Method} {c : Code} {P : Option qV → qH → Prop} {X : Nat → qH → Prop}
variable {n : Nat} {g : qH} {c1 s1 k : Nat} {ad : Nat → Nat} {Hp : Heap} {locs : List Loc} {ls : Array Slot} {rest : List Value} {lv : List (Nat × Value)} {ce : Cell} {q9 : Addr}
/-- a handler: the exception is put down, the answer given -/
theorem hand_ok {x : Nat × Nat × Nat × Nat × Int} {y : Nat × Nat × Nat × Nat} (F : Fx G M p l R s m args meth c) (hz : hcE M x y = true) (hrb : rbM M = false) {z : Int} (hp : P (some (vi x.2.2.2.2)) g) (hc1 : c1 ≤ mcM M) (hs1 : s1 ≤ msM M) (hR : Rl G ad g Hp) (hS : va_S (gA G) s.heap Hp locs) (hl : lv_has ls (mxl M) lv) :
    W p l e R s m args below meth c Hp locs c1 s1 (vx_MQ below (PostQ G P) (PostX G X) args s (mcM M) (msM M) (gA G)) (F0 m y.2.2.1 ls [.ref q9]) := by
  unfold hcE at hz
  simp only [Bool.and_eq_true] at hz
  obtain ⟨h1, h2, h3, h4, h5, h6, h7, -, -⟩ := hz
  have h1 := Nat.eq_of_beq_eq_true h1
  have h2 : x.2.2.1 + 2 < szM M := Nat.le_of_ble_eq_true h2
  have h4 := Nat.eq_of_beq_eq_true h4
  have h5 := Nat.eq_of_beq_eq_true h5
  have h6 := of_decide_eq_true h6
  have h7 := Nat.eq_of_beq_eq_true h7
  rw [← h1]
  obtain ⟨T, hx, hb, hml, hown, hts, hE, -, -, hM, -⟩ := id F
  obtain ⟨⟨op, z4, p4, q4, r4⟩, e4⟩ : ∃ w, cdM M x.2.2.1 = w := ⟨_, rfl⟩
  obtain ⟨⟨op5, z5, p5, q5, r5⟩, e5⟩ : ∃ w, cdM M (x.2.2.1 + 1) = w := ⟨_, rfl⟩
  obtain ⟨⟨op6, z6, p6, q6, r6⟩, e6⟩ : ∃ w, cdM M (x.2.2.1 + 2) = w := ⟨_, rfl⟩
  rw [e4] at h4
  rw [e5] at h5 h6
  rw [e6] at h7
  cases h4
  cases h5
  cases h7
  replace h6 : z5 = x.2.2.2.2 := h6
  subst h6
  have k2 : Snd G M p l e R s m args below meth c (vx_MQ below (PostQ G P) (PostX G X) args s (mcM M) (msM M) (gA G)) (x.2.2.1 + 2, [], [vi x.2.2.2.2], (g.1, g.2), c1, s1) :=
    so_57 (C := fun _ _ _ _ _ => False) F e6 ⟨⟨hc1, hs1⟩, by rw [hrb]; trivial, hp⟩
  have k1 := so_6 (C := fun _ _ _ _ _ => False) (P := P) (X := X) F e5 (show stA _ M P X 6 x.2.2.2.2 p5 q5 r5 (x.2.2.1 + 1) [] [] g.1 g.2 c1 s1 (Snd G M p l e R s m args below meth c (vx_MQ below (PostQ G P) (PostX G X) args s (mcM M) (msM M) (gA G))) from k2)
  have k := fun ls' (hl' : lv_has ls' (mxl M) (lvl G ad [])) => k1 (show x.2.2.1 + 1 < szM M by omega) ad Hp locs ls' hR hS hl' (fun i v h => by simp at h) (fun v h => nomatch h)
  obtain ⟨hd, hpc, hso, hk⟩ := dk_of T hM (show x.2.2.1 < szM M by omega) e4 rfl
  have hp : p4 < mxl M := Nat.le_of_ble_eq_true hso
  by_cases h4 : p4 < 4
  · simp only [iOf, if_pos h4] at hd hpc
    refine lv_astore_n hx hb hd (fin4 h4) hl hp rfl (fun ls' hl' => ?_)
    rw [← hpc]; exact k ls' (lv_weak hl' (fun q hq => nomatch hq))
  · simp only [iOf, if_neg h4] at hd hpc
    refine lv_astore hx hb hd hl hp rfl (fun ls' hl' => ?_)
    rw [← hpc]; exact k ls' (lv_weak hl' (fun q hq => nomatch hq))
theorem thr_list (F : Fx G M p l R s m args meth c) (hn : n < szM M) (hrb : rbM M = false) (hc13 : clM M = 13) (hc1 : c1 ≤ mcM M) (hs1 : s1 ≤ msM M) (hk4 : k < 4) (hR : Rl G ad g Hp) (hS : va_S (gA G) s.heap Hp locs) (hl : lv_has ls (mxl M) lv) (hce : Hp[q9]? = some ce) (hcv : ce.vm = .none) (hcl : s.vm.findClass (exN k) = some ce.cls) :
    ∀ (xs : List (Nat × Nat × Nat × Nat × Int)) (ys : List (Nat × Nat × Nat × Nat)) (pre : List ExceptionTableEntry), hcL M xs ys = true → c.exceptionTable.toList = pre ++ tableOf ys →
      (∀ z ∈ pre, covers z (pcM M n) = false ∨ (z.catchType ≠ 0 ∧ ∃ nm : String, (Cond.classLink (cnm (clM M)) z.catchType nm).before args s = true ∧ va_Nc (exN k) nm s)) → (match hfd n k xs with | some y => P (some (vi y)) g | none => X k g) →
      vx_W p l e R s m args below meth c Hp locs c1 s1 (vx_MQ below (PostQ G P) (PostX G X) args s (mcM M) (msM M) (gA G)) (F0 m (pcM M n) ls rest) q9
  | [], [], pre, _, ht, hpass, hp => by
    obtain ⟨T, hx, hb, hml, hown, hts, hE, hRm, hRf, hM, hnm, hbs, hst, hlk, -⟩ := F
    exact vx_outP hown hlk (fun z hz => hpass z (by rw [ht] at hz; simpa [tableOf] using hz)) hce hcv hcl (fun t ht9 _ => ⟨k, g, ad, hk4, rfl, hp, by rw [ht9]; exact hR, hS.F ht9⟩) hS.2.2 hc1 hs1
  | [], _ :: _, _, h, _, _, _ => by cases h
  | _ :: _, [], _, h, _, _, _ => by cases h
  | x :: xs, y :: ys, pre, h, ht, hpass, hp => by
    have h' : (hcE M x y && hcL M xs ys) = true := h
    rw [Bool.and_eq_true] at h'
    obtain ⟨hz, hrest⟩ := h'
    obtain ⟨T, hx, hb, hml, hown, hts, hE, -⟩ := id F
    have hz' := hz
    unfold hcE at hz'
    simp only [Bool.and_eq_true] at hz'
    obtain ⟨-, -, h3, -, -, -, -, h8, h9⟩ := hz'
    have h3 : x.2.2.2.1 < 4 := Nat.le_of_ble_eq_true h3
    have hcov : covers ⟨y.1, y.2.1, y.2.2.1, y.2.2.2⟩ (pcM M n) = (Nat.ble x.1 n && Nat.blt n x.2.1) := eq_of_beq (List.all_eq_true.mp h9 n (List.mem_range.mpr hn))
    have hmem := List.mem_of_elem_eq_true h8
    have hlink := hts _ (wd_hc _ hmem)
    have hct : y.2.2.2 ≠ 0 := by
      have q : ([(13, 0), (24, 1), (15, 2), (26, 3)] : List (Nat × Nat)).all (fun x => Nat.blt 0 x.1) = true := by decide
      have := Nat.le_of_ble_eq_true (List.all_eq_true.mp q _ hmem)
      omega
    have ht' : c.exceptionTable.toList = pre ++ ⟨y.1, y.2.1, y.2.2.1, y.2.2.2⟩ :: tableOf ys := ht
    cases hq : (Nat.ble x.1 n && Nat.blt n x.2.1) && Nat.beq x.2.2.2.1 k with
    | true =>
      have hq' := hq
      rw [Bool.and_eq_true] at hq'
      have hek := Nat.eq_of_beq_eq_true hq'.2
      have hp' : P (some (vi x.2.2.2.2)) g := by
        have e9 : hfd n k (x :: xs) = some x.2.2.2.2 := by
          show (bif (Nat.ble x.1 n && Nat.blt n x.2.1) && Nat.beq x.2.2.2.1 k then some x.2.2.2.2 else hfd n k xs) = _
          rw [hq]; rfl
        rw [e9] at hp
        exact hp
      have hcast : (Cond.castable (exN k) (exN x.2.2.2.1)).before args s = true := by
        rw [hek]
        have hN := hE.2.2.2.2.2.2.2.1.2.1
        refine va_Nw.use rfl (hN _ ?_)
        match k, hk4 with
        | 0, _ => simp [nwL]
        | 1, _ => simp [nwL]
        | 2, _ => simp [nwL]
        | 3, _ => simp [nwL]
      exact vx_catch hown pre _ (tableOf ys) ht' hpass (hcov.trans hq'.1) hct (by rw [hc13]; exact hlink) hcast hce hcv hcl (hand_ok F hz hrb (z := 0) hp' hc1 hs1 hR hS hl)
    | false =>
      have hp' : (match hfd n k xs with | some y => P (some (vi y)) g | none => X k g) := by
        have e9 : hfd n k (x :: xs) = hfd n k xs := by
          show (bif (Nat.ble x.1 n && Nat.blt n x.2.1) && Nat.beq x.2.2.2.1 k then some x.2.2.2.2 else hfd n k xs) = _
          rw [hq]; rfl
        rw [e9] at hp
        exact hp
      refine thr_list F hn hrb hc13 hc1 hs1 hk4 hR hS hl hce hcv hcl xs ys (pre ++ [⟨y.1, y.2.1, y.2.2.1, y.2.2.2⟩]) hrest (by rw [ht', List.append_assoc]; rfl) (fun z hz9 => ?_) hp'
      rcases List.mem_append.mp hz9 with hz9 | hz9
      · exact hpass z hz9
      · rw [List.mem_singleton] at hz9
        subst hz9
        rcases (Bool.and_eq_false_iff).mp hq with q | q
        · exact Or.inl (hcov.trans q)
        · refine Or.inr ⟨hct, exN x.2.2.2.1, by rw [hc13]; exact hlink, hE.2.2.2.2.2.2.2.1.2.2 k x.2.2.2.1 hk4 h3 (fun e9 => ?_)⟩
          rw [e9, Nat.beq_refl] at q
          cases q
theorem thr_ok (F : Fx G M p l R s m args meth c) (hH : HckOK) (hn : n < szM M) (hc1 : c1 ≤ mcM M) (hs1 : s1 ≤ msM M) (hk4 : k < 4) (hR : Rl G ad g Hp) (hS : va_S (gA G) s.heap Hp locs) (hl : lv_has ls (mxl M) lv) (hce : Hp[q9]? = some ce) (hcv : ce.vm = .none) (hcl : s.vm.findClass (exN k) = some ce.cls)
    (hp : match hfd n k (hnd M) with | some y => P (some (vi y)) g | none => X k g) :
    vx_W p l e R s m args below meth c Hp locs c1 s1 (vx_MQ below (PostQ G P) (PostX G X) args s (mcM M) (msM M) (gA G)) (F0 m (pcM M n) ls rest) q9 := by
  obtain ⟨T, hx, hb, hml, hown, hts, hE, hRm, hRf, hM, hnm, hbs, hst, hlk, hrt, hex⟩ := id F
  have hh := hH M hM
  unfold hck at hh
  by_cases h0 : hnd M = []
  · rw [h0] at hp
    refine vx_outP hown hlk (fun z hz => ?_) hce hcv hcl (fun t ht9 _ => ⟨k, g, ad, hk4, rfl, hp, by rw [ht9]; exact hR, hS.F ht9⟩) hS.2.2 hc1 hs1
    rw [hex] at hz
    unfold hhT at hz
    rw [if_pos h0] at hz
    cases hz
  · rw [Bool.or_eq_true, List.isEmpty_iff, Bool.and_eq_true, Bool.and_eq_true] at hh
    rcases hh with hh | ⟨h13, hb9, hcl9⟩
    · exact absurd hh h0
    · unfold hhT at hex
      rw [if_neg h0] at hex
      have hb8 : rbM M = false := by
        cases h9 : rbM M with
        | false => rfl
        | true => rw [h9] at hb9; cases hb9
      obtain ⟨xs, hxs⟩ : ∃ xs, hnd M = xs := ⟨_, rfl⟩
      obtain ⟨ys, hys⟩ : ∃ ys, hhM M = ys := ⟨_, rfl⟩
      rw [hxs] at hp hcl9
      rw [hys] at hcl9 hex
      exact thr_list F hn hb8 (Nat.eq_of_beq_eq_true h13) hc1 hs1 hk4 hR hS hl hce hcv hcl xs ys [] hcl9 hex (fun z hz => absurd hz List.not_mem_nil) hp
end THROW
