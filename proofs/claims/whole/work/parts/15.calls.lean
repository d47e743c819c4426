/-! calls of own methods -/
abbrev rdx : MethodName := ⟨"PlateTown$Text", "readLine", "()Z"⟩
theorem wd_r0 : Cond.methodLink (cnm 12) 76 rdx ∈ BIG := big_of 752 (by decide +kernel) (by decide +kernel)
theorem wd_r1 : Cond.sameMethod "PlateTown$Text" "PlateTown$Text" "readLine" "()Z" ∈ BIG := big_of 754 (by decide +kernel) (by decide +kernel)
theorem wd_rs3 : Cond.selects (rx 3) rdx (yM 41) ∈ BIG := big_of 755 (by decide +kernel) (by decide +kernel)
theorem wd_ri3 : Cond.instanceMethod (yM 41) ∈ BIG := big_of 756 (by decide +kernel) (by decide +kernel)
theorem wd_rs7 : Cond.selects (rx 7) rdx (yM 106) ∈ BIG := big_of 806 (by decide +kernel) (by decide +kernel)
theorem wd_ri7 : Cond.instanceMethod (yM 106) ∈ BIG := big_of 807 (by decide +kernel) (by decide +kernel)
theorem wd_rs8 : Cond.selects (rx 8) rdx (yM 114) ∈ BIG := big_of 857 (by decide +kernel) (by decide +kernel)
theorem wd_ri8 : Cond.instanceMethod (yM 114) ∈ BIG := big_of 858 (by decide +kernel) (by decide +kernel)
/-- every method keeps its contract, d calls deep -/
def SoundAt (l : Launch) (d : Nat) : Prop := ∀ p0 : Nat, p0 < nL_law → ∀ (G : qG) (ad : Nat → Nat) (as : List qV) (g : qH) (P' : Option qV → qH → Prop) (X' : Nat → qH → Prop), Call d p0 as g P' X' → (∀ v ∈ as, wv g.2 v) → nlg as = true → as.length ≤ mxl p0 →
  vx_Met l (yM p0) (wsM p0) (rmM d p0) (PreQ G ad as g) (PostQ (gW G ad g.2) P') (PostX (gW G ad g.2) X') (mcM p0) (msM p0) (gA G)
theorem met_of {l : Launch} {y : MethodName} {ws : List Cond} {rm : Room} {Pc : Array Value → State → Prop} {Qc : Array Value → State → Outcome → State → Prop} {G : qG} {mc ms : Nat} {free : Addr → Prop} (h : vx_Met l y ws rm Pc Qc (PostX G (fun _ _ => False)) mc ms free) : Met l y ws rm Pc Qc mc ms free := by
  refine MetFree.imp h (fun a st o t hq => ?_)
  rcases hq with h9 | ⟨q, rfl, E, ce, L, ⟨k, g', ad', -, -, hf, -⟩, -⟩
  · exact h9
  · exact hf.elim
theorem ws_big (T : TblOK) {p0 : Nat} (h : p0 < nL_law) : ∀ w ∈ wsM p0, w ∈ BIG := by
  have hy := (T.2.2.2.2.1 p0 h).1
  intro w hw
  unfold wsM at hw
  rcases List.mem_cons.mp hw with rfl | hw
  · by_cases h0 : hnd p0 = []
    · rw [if_pos h0] at hy ⊢; exact hy
    · rw [if_neg h0] at hy ⊢
      obtain ⟨hh, rfl, hy⟩ := hy
      exact hy
  · exact hw
theorem big_ap {A B : List Cond} (hA : ∀ w ∈ A, w ∈ BIG) (hB : ∀ w ∈ B, w ∈ BIG) : GoodIn BIG (A ++ B) := goodIn_big _ (fun w hw => (List.mem_append.mp hw).elim (hA w) (hB w))
theorem nlg_cat {G : qG} {ad : Nat → Nat} : ∀ {as : List qV}, nlg as = true → ∀ v ∈ as.map (gcv G ad), v.category = 1
  | [], _, v, h => by cases h
  | .inl _ :: as, h, v, hv => by
    rcases List.mem_cons.mp (by rw [List.map_cons] at hv; exact hv) with rfl | hv
    · rfl
    · exact nlg_cat (as := as) h v hv
  | .inr (.inl _) :: _, h, _, _ => by cases h
  | .inr (.inr (o, k)) :: as, h, v, hv => by
    rcases List.mem_cons.mp (by rw [List.map_cons] at hv; exact hv) with rfl | hv
    · cases o <;> rfl
    · exact nlg_cat (as := as) h v hv
theorem nlg_rev : ∀ {S : List qV}, nlg S = true ↔ ∀ v ∈ S, ∀ z, v ≠ vl z
  | [] => ⟨fun _ v h => (nomatch h), fun _ => rfl⟩
  | .inl a :: S => by
    have h := nlg_rev (S := S)
    constructor
    · intro q v hv z
      rcases List.mem_cons.mp hv with rfl | hv
      · exact fun e => by cases e
      · exact h.mp q v hv z
    · intro q
      exact h.mpr (fun v hv => q v (List.mem_cons_of_mem _ hv))
  | .inr (.inl a) :: S => ⟨fun h => (by cases h), fun h => absurd rfl (h _ List.mem_cons_self a)⟩
  | .inr (.inr a) :: S => by
    have h := nlg_rev (S := S)
    constructor
    · intro q v hv z
      rcases List.mem_cons.mp hv with rfl | hv
      · exact fun e => by cases e
      · exact h.mp q v hv z
    · intro q
      exact h.mpr (fun v hv => q v (List.mem_cons_of_mem _ hv))
/-- the stack before a call: arguments, then the rest -/
theorem stk_s {G : qG} {ad : Nat → Nat} {S : List qV} {q : Nat} : S.map (gcv G ad) = (((S.take q).reverse).map (gcv G ad)).reverse ++ (S.drop q).map (gcv G ad) := by
  rw [List.map_reverse, List.reverse_reverse, ← List.map_append, List.take_append_drop]
theorem stk_i {S : List qV} {q : Nat} {w : qV} (h : S[q]? = some w) : (S.take (q + 1)).reverse = w :: (S.take q).reverse ∧ S = S.take q ++ w :: S.drop (q + 1) := by
  obtain ⟨hlt, he⟩ := List.getElem?_eq_some_iff.mp h
  have e1 : S.take (q + 1) = S.take q ++ [w] := by rw [List.take_succ, h]; rfl
  refine ⟨by rw [e1, List.reverse_append]; rfl, ?_⟩
  have e2 := List.take_append_drop (q + 1) S
  rw [e1, List.append_assoc] at e2
  exact e2.symm
section OPS
variable {G : qG} {M : Nat} {p : Program} {l : Launch} {e : Env} {R : Room} {s : State} {m : MethodId} {args : Array Value} {below : List Frame} {meth : Method} {c : Code} {P : Option qV → qH → Prop} {X : Nat → qH → Prop}
variable {n : Nat} {z0 : Int} {p0 q0 r0 : Nat} {L : List (Option qV)} {S : List qV} {I : qI} {H : qS} {c' s' d : Nat}
/-- the receiver's cell -/
theorem recv_at {ad : Nat → Nat} {Hp : Heap} {b k : Nat} (hE : Sta G s) (hR : Rl G ad (I, H) Hp) (h11 : k < 11) (h3 : 3 ≤ b) (hlt : b < H.2.2.2 + 3) (hka : H.2.2.1 b = k) : ∃ cellB : Cell, Hp[ad b]? = some cellB ∧ cellB.vm.isStatics = false ∧ s.vm.findClass (rx k) = some cellB.cls := by
  obtain ⟨r, hr, cell, h1, h2, h4, -⟩ := hR.1 (b - 3) _ ((pool_get h3 hlt).trans (by rw [gcl_obj hka h11]))
  exact ⟨cell, h1, by rw [h4]; rfl, by rw [h2]; exact (hE.1.1 k _ (cl_at k h11)).2.1⟩
theorem so_28 (F : Fx G M p l R s m args meth c) (hH : HckOK) (hI : SoundAt l d) (hRR : d + 1 + 20 ≤ R.frames ∧ 41 * (d + 1) + 300 ≤ R.locals) (hc : cdM M n = (28, z0, p0, q0, r0))
    (h : stA (Call d) M P X 28 z0 p0 q0 r0 n L S I H c' s' (Snd G M p l e R s m args below meth c (vx_MQ below (PostQ G P) (PostX G X) args s (mcM M) (msM M) (gA G)))) : Snd G M p l e R s m args below meth c (vx_MQ below (PostQ G P) (PostX G X) args s (mcM M) (msM M) (gA G)) (n, L, S, (I, H), c', s') := by
  intro hn ad Hp locs ls hR hS hl hwl hws
  obtain ⟨T, hx, hb, hml, hown, hts, hE, hRm, hRf, hM, hnm, hbs, hst, hlk, hrt, hex⟩ := id F
  obtain ⟨hd, hpc, hso, hk⟩ := dk_of T hM hn hc rfl
  have hn1 : n + 1 < szM M := Nat.le_of_ble_eq_true hk
  have hpc3 : pcM M (n + 1) = pcM M n + 3 := by
    simp only [iOf] at hpc
    rw [hpc]
    split
    · rfl
    · split <;> rfl
  unfold sok at hso
  simp only [Bool.and_eq_true, Bool.or_eq_true] at hso
  obtain ⟨⟨⟨hlkM, hq⟩, hqm, hp299⟩, hhn⟩ := hso
  have hq := Nat.eq_of_beq_eq_true hq
  have hqm := Nat.le_of_ble_eq_true hqm
  have hp299 : p0 < nL_law := Nat.le_of_ble_eq_true hp299
  have hMOK := T.2.2.2.1 (clM M) (clM_lt T hM) _ (List.mem_of_elem_eq_true hlkM)
  obtain ⟨-, hini, hpl, hne, hpar, hcls, -, hmx⟩ := T.2.2.2.2.1 p0 hp299
  obtain ⟨⟨hcc, hss⟩, hrcv, h⟩ := (show (c' + mcM p0 ≤ mcM M ∧ s' + msM p0 ≤ msM M) ∧ rcv r0 q0 S = true ∧ (bif Nat.ble q0 S.length && (Nat.ble (S.length - q0) 4 && nlg (S.take q0)) then Call d p0 (S.take q0).reverse (I, H) (fun v g => Snd G M p l e R s m args below meth c (vx_MQ below (PostQ G P) (PostX G X) args s (mcM M) (msM M) (gA G)) (n + 1, L, v.toList ++ S.drop q0, g, c' + mcM p0, s' + msM p0)) (fun E g => bif nth r0 then False else match hfd n E (hnd M) with | some y => P (some (vi y)) g | none => X E g) else False) from h)
  obtain ⟨hbb, h⟩ := bf_get h
  simp only [Bool.and_eq_true] at hbb
  obtain ⟨hqS, hS4, hnl⟩ := hbb
  have hqS := Nat.le_of_ble_eq_true hqS
  have hS4 := Nat.le_of_ble_eq_true hS4
  have hasl : (S.take q0).reverse.length = q0 := by rw [List.length_reverse, List.length_take]; omega
  have hasw : ∀ v ∈ (S.take q0).reverse, wv H v := fun v hv => hws v (List.mem_of_mem_take (List.mem_reverse.mp hv))
  have hasn : nlg (S.take q0).reverse = true := nlg_rev.mpr (fun v hv => nlg_rev.mp hnl v (List.mem_reverse.mp hv))
  have hdw : ∀ x ∈ S.drop q0, wv H x := fun v hv => hws v (List.mem_of_mem_drop hv)
  have hcs : 2 * 0 + (((S.drop q0).map (gcv G ad)).map (fun v => v.category)).sum ≤ 8 := by
    have h1 := cat_le G ad (S.drop q0)
    rw [List.length_drop] at h1
    omega
  have hS28 : CallFix p m c (bM M) (mxl M) s args BIG (cnm (clM M)) := ⟨hx, hb, hml, hown, hts⟩
  have hroom : (rmM d p0).frames + 1 ≤ R.frames ∧ 8 + (mxl p0 + 11) + (rmM d p0).locals ≤ R.locals := by
    constructor
    · show d + 20 + 1 ≤ R.frames; omega
    · show 8 + (mxl p0 + 11) + (41 * d + 300) ≤ R.locals; omega
  have hf : c' + mcM p0 ≤ R.cells ∧ s' + msM p0 ≤ R.slots := by rw [hRm.1, hRm.2]; exact ⟨hcc, hss⟩
  have hPcx : ∀ U : State, U.heap = Hp → s.WarmedH U.vm → PreQ G ad (S.take q0).reverse (I, H) (((S.take q0).reverse).map (gcv G ad)).toArray U := fun U hU hW => ⟨rfl, hE.next hS hU hW, by rw [hU]; exact ⟨hR.1, hR.2.1, hR.2.2.1, hR.2.2.2.1, ext.rf⟩⟩
  have kk : ∀ (v : Option qV) (g' : qH) (ad' : Nat → Nat) (H1 : Heap) (locs1 : List Loc), Snd G M p l e R s m args below meth c (vx_MQ below (PostQ G P) (PostX G X) args s (mcM M) (msM M) (gA G)) (n + 1, L, v.toList ++ S.drop q0, g', c' + mcM p0, s' + msM p0) → Rl G ad' g' H1 → ext ad ad' H g'.2 → (∀ x, v = some x → wv g'.2 x) → va_S (gA G) s.heap H1 locs1 → W p l e R s m args below meth c H1 locs1 (c' + mcM p0) (s' + msM p0) (vx_MQ below (PostQ G P) (PostX G X) args s (mcM M) (msM M) (gA G)) (F0 m (pcM M n + 3) ls ((v.map (gcv G ad')).toList ++ (S.drop q0).map (gcv G ad))) := by
    intro v g' ad' H1 locs1 k1 k2 k3 k4 k5
    rw [← hpc3]
    exact snd_back k1 hn1 k2 k3 k4 k5 hl hwl hdw
  have hwsb := ws_big T hp299
  simp only [iOf] at hd
  match r0, hhn, hMOK, hrcv, hq, h, hd with
  | 0, _, hMOK, _, hq, h, hd =>
    replace hq : q0 = naM p0 := hq
    have kx : ∀ (ce : Cell) (q9 : Addr) (k : Nat) (g' : qH) (ad' : Nat → Nat) (H1 : Heap) (locs1 : List Loc), k < 4 → (bif nth 0 then False else match hfd n k (hnd M) with | some y => P (some (vi y)) g' | none => X k g') → Rl G ad' g' H1 → va_S (gA G) s.heap H1 locs1 → H1[q9]? = some ce → ce.vm = .none → s.vm.findClass (exN k) = some ce.cls → vx_W p l e R s m args below meth c H1 locs1 (c' + mcM p0) (s' + msM p0) (vx_MQ below (PostQ G P) (PostX G X) args s (mcM M) (msM M) (gA G)) (F0 m (pcM M n) ls ((S.drop q0).map (gcv G ad))) q9 :=
      fun ce q9 k g' ad' H1 locs1 a1 a2 a3 a4 a5 a6 a7 => thr_ok F hH hn hcc hss a1 a3 a4 hl a5 a6 a7 a2
    have hM0 := hI p0 hp299 G ad _ (I, H) _ _ h hasw hasn (by rw [hasl]; exact hqm)
    obtain ⟨w1, w2⟩ := (show Cond.methodLink (cnm (clM M)) z0.toNat (yM p0) ∈ BIG ∧ Cond.static (yM p0) ∈ BIG from hMOK)
    have hgi : GoodIn BIG (va_wsS (cnm (clM M)) z0.toNat (yM p0) (wsM p0)) := big_ap (List.forall_mem_cons.mpr ⟨w1, List.forall_mem_cons.mpr ⟨w2, List.forall_mem_cons.mpr ⟨hini, fun _ q => nomatch q⟩⟩⟩) hwsb
    have hpar9 : (parseMethodDescriptor (yM p0).desc).map (fun d => d.parameters.length) = some (naM p0) := hpar
    have hlen : (((S.take q0).reverse).map (gcv G ad)).length = naM p0 := by rw [List.length_map, hasl, hq]
    by_cases h0 : hnd p0 = []
    · have hw : wsM p0 = Cond.code (yM p0) (bM p0) (mxl p0) (rtM p0) :: BIG := by unfold wsM; rw [if_pos h0]
      have cw := va_cwS (R := R) (mc := mcM p0) (ms := msM p0) (naM p0) hts hgi hw rfl rfl ⟨hne.1, hne.2, hpar9⟩ hroom
      exact run_vx (vx_runS (g := F0 m (pcM M n) ls (S.map (gcv G ad))) hS28 hM0 cw ⟨PreQ.blind, hPcx⟩ rfl hlen hl.1 stk_s hcs hd hf) hS hR kx kk
    · have hw : wsM p0 = Cond.codeWith (yM p0) (bM p0) (mxl p0) (rtM p0) (hhM p0) :: BIG := by unfold wsM; rw [if_neg h0]
      have cw := vx_cwSW (R := R) (mc := mcM p0) (ms := msM p0) (naM p0) hts hgi hw rfl rfl ⟨hne.1, hne.2, hpar9⟩ hroom
      exact run_vx (vx_runSX (g := F0 m (pcM M n) ls (S.map (gcv G ad))) hS28 hM0 cw ⟨PreQ.blind, hPcx⟩ rfl hlen hl.1 stk_s hcs hd hf) hS hR kx kk
  | 1, hhn, hMOK, hrcv, hq, h, hd =>
    replace hq : q0 = naM p0 + 1 := hq
    subst hq
    have h0 : hnd p0 = [] := by
      rcases hhn with hhn | hhn
      · cases hhn
      · exact List.isEmpty_iff.mp hhn
    have hw : wsM p0 = Cond.code (yM p0) (bM p0) (mxl p0) (rtM p0) :: BIG := by unfold wsM; rw [if_pos h0]
    obtain ⟨w1, w2, w3, w4⟩ := (show Cond.methodLink (cnm (clM M)) z0.toNat (yM p0) ∈ BIG ∧ Cond.instanceMethod (yM p0) ∈ BIG ∧ (yM p0).name = "<init>" ∧ rtM p0 = none from hMOK)
    have hM0 := met_of (G := gW G ad H) (hI p0 hp299 G ad _ (I, H) _ (fun _ _ => False) (Call.mono d _ _ _ _ _ _ _ (fun _ _ q => q) (fun _ _ q => q) h) hasw hasn (by rw [hasl]; exact hqm))
    have hget : ∃ b k, S[naM p0]? = some (.inr (.inr (some b, k))) := by
      have hlt : naM p0 < S.length := by omega
      have e1 := List.getElem?_eq_getElem hlt
      replace hrcv : (match S.getD (naM p0 + 1 - 1) (.inl 0) with | .inr (.inr (some _, _)) => true | _ => false) = true := hrcv
      rw [Nat.add_sub_cancel, List.getD_eq_getElem?_getD, e1, Option.getD_some] at hrcv
      rw [e1]
      match S[naM p0], hrcv with
      | .inr (.inr (some b, k)), _ => exact ⟨b, k, rfl⟩
    obtain ⟨b, k, hget⟩ := hget
    obtain ⟨st1, st2⟩ := stk_i hget
    obtain ⟨b', hb'⟩ : ∃ b', gcv G ad (.inr (.inr (some b, k))) = .ref b' := ⟨_, rfl⟩
    have hcall := callB_of (R := R) (mc := mcM p0) (ms := msM p0) (rm := rmM d p0) (naM p0) hts (goodIn_big _ hwsb) hw rfl rfl (hts _ hini) (hts _ w1) ⟨hne.1, hne.2, hpar⟩ hroom
    rw [w4] at hcall
    refine run_va (va_runI (g := F0 m (pcM M n) ls (S.map (gcv G ad))) (b := b') (As := ((S.take (naM p0)).reverse).map (gcv G ad)) hS28 hM0 ⟨hcall, w3, hts _ w2⟩ ⟨PreQ.blind, fun U hU hW => ?_⟩ rfl (by rw [List.length_map, List.length_reverse, List.length_take]; omega) hl.1 ?_ hcs hd hf) hS hR kk
    · have h9 := hPcx U hU hW
      rw [st1, List.map_cons, hb'] at h9
      rw [st1]
      exact h9
    · show S.map (gcv G ad) = (((S.take (naM p0)).reverse).map (gcv G ad)).reverse ++ .ref b' :: (S.drop (naM p0 + 1)).map (gcv G ad)
      rw [List.map_reverse, List.reverse_reverse, ← hb', ← List.map_cons, ← List.map_append, ← st2]
  | r + 2, hhn, hMOK, hrcv, hq, h, hd =>
    replace hq : q0 = naM p0 + 1 := hq
    subst hq
    have h0 : hnd p0 = [] := by
      rcases hhn with hhn | hhn
      · cases hhn
      · exact List.isEmpty_iff.mp hhn
    have hw : wsM p0 = Cond.code (yM p0) (bM p0) (mxl p0) (rtM p0) :: BIG := by unfold wsM; rw [if_pos h0]
    have hget : ∃ b k, S[naM p0]? = some (.inr (.inr (some b, k))) ∧ kOk r k = true := by
      have hlt : naM p0 < S.length := by omega
      have e1 := List.getElem?_eq_getElem hlt
      replace hrcv : (match S.getD (naM p0 + 1 - 1) (.inl 0) with | .inr (.inr (some _, j)) => kOk r j | _ => false) = true := hrcv
      rw [Nat.add_sub_cancel, List.getD_eq_getElem?_getD, e1, Option.getD_some] at hrcv
      rw [e1]
      match S[naM p0], hrcv with
      | .inr (.inr (some b, k)), hk9 => exact ⟨b, k, rfl, hk9⟩
    obtain ⟨b, k, hget, hkOk⟩ := hget
    obtain ⟨st1, st2⟩ := stk_i hget
    have hwb : wr H b k := hws _ (List.mem_of_getElem? hget)
    have hMOK' : if nth (r + 2) = true then ∀ k, k < 14 → kOk r k = true → k < 11 ∧ VOK (clM M) z0.toNat p0 k
      else r < 11 ∧ Cond.methodLink (cnm (clM M)) z0.toNat (yM p0) ∈ BIG ∧ Cond.instanceMethod (yM p0) ∈ BIG ∧ Cond.selects (yM p0).cls (yM p0) (yM p0) ∈ BIG ∧ (yM p0).cls = rx r := hMOK
    have hstk : S.map (gcv G ad) = (((S.take (naM p0)).reverse).map (gcv G ad)).reverse ++ gcv G ad (.inr (.inr (some b, k))) :: (S.drop (naM p0 + 1)).map (gcv G ad) := by
      rw [List.map_reverse, List.reverse_reverse, ← List.map_cons, ← List.map_append, ← st2]
    have hlen : (((S.take (naM p0)).reverse).map (gcv G ad)).length = naM p0 := by rw [List.length_map, List.length_reverse, List.length_take]; omega
    have hgv : ∀ C : String, Cond.methodLink (cnm (clM M)) z0.toNat (yM p0) ∈ BIG → Cond.instanceMethod (yM p0) ∈ BIG → Cond.selects (yM p0).cls (yM p0) (yM p0) ∈ BIG → (yM p0).cls = C → CallW R s args (cnm (clM M)) C z0.toNat (yM p0) (bM p0) (mxl p0) (rtM p0) (wsM p0) (rmM d p0) (mcM p0) (msM p0) (naM p0) := by
      intro C w1 w2 w3 w4
      refine cwV (naM p0) hts (goodIn_big _ (fun w hw9 => ?_)) hw rfl rfl ⟨w4, hne.1, hne.2, hpar⟩ hroom
      unfold wsV at hw9
      rcases List.mem_append.mp hw9 with hw9 | hw9
      · subst w4
        simp only [List.mem_cons, List.not_mem_nil, or_false] at hw9
        rcases hw9 with rfl | rfl | rfl | rfl <;> assumption
      · exact hwsb w hw9
    by_cases hnt : nth (r + 2) = true
    · rw [if_pos hnt] at hMOK'
      have hr9 : r = 3 ∨ r = 7 ∨ r = 8 ∨ r = 99 := by
        unfold nth at hnt
        simp only [Bool.or_eq_true] at hnt
        rcases hnt with q | q | q | q | q
        · have := Nat.eq_of_beq_eq_true q; omega
        · have := Nat.eq_of_beq_eq_true q; omega
        · have := Nat.eq_of_beq_eq_true q; omega
        · have := Nat.eq_of_beq_eq_true q; omega
        · have := Nat.eq_of_beq_eq_true q; omega
      obtain ⟨hk14, h3, hlt, hka, hcv⟩ := own_of hR hwb hkOk (by omega)
      obtain ⟨h11, hv⟩ := hMOK' k hk14 hkOk
      have hM0 := met_of (G := gW G ad H) (hI p0 hp299 G ad _ (I, H) _ (fun _ _ => False) (Call.mono d _ _ _ _ _ _ _ (fun _ _ q => q) (fun _ _ q => by rw [hnt] at q; exact q) h) hasw hasn (by rw [hasl]; exact hqm))
      rw [show gcv G ad (.inr (.inr (some b, k))) = .ref (ad b) from hcv] at hstk
      have hpv : PreV s Hp (rx k) (ad b) (PreQ G ad (S.take (naM p0 + 1)).reverse (I, H)) (((S.take (naM p0)).reverse).map (gcv G ad)) := by
        refine ⟨PreQ.blind, recv_at hE hR h11 h3 hlt hka, fun U hU hW => ?_⟩
        have h9 := hPcx U hU hW
        rw [st1, List.map_cons, show gcv G ad (.inr (.inr (some b, k))) = .ref (ad b) from hcv] at h9
        rw [st1]
        exact h9
      have hd' : decode (bM M) (pcM M n) = .ok (.invokevirtual z0.toNat, 3) := hd
      rcases hv with ⟨w1, w2, w3, w4⟩ | ⟨x, w1, w2, w3, w4, w5⟩
      · exact run_va (va_runV (g := F0 m (pcM M n) ls (S.map (gcv G ad))) (b := ad b) (C := rx k) hS28 hM0 (hgv _ w1 w2 w3 w4) hpv rfl hlen hl.1 hstk hcs hd' hf) hS hR kk
      · have hxd : (yM p0).desc = x.desc := by rw [w5]
        have cw := va_cwU (R := R) (s := s) (args := args) (own := cnm (clM M)) (C := rx k) (owner := (yM p0).cls) (index := z0.toNat) (x := x) (y := yM p0) (mc := mcM p0) (ms := msM p0) (rm := rmM d p0) (naM p0) hts
          (big_ap (List.forall_mem_cons.mpr ⟨w1, List.forall_mem_cons.mpr ⟨w2, List.forall_mem_cons.mpr ⟨w3, List.forall_mem_cons.mpr ⟨w4, List.forall_mem_cons.mpr ⟨hini, fun _ q => nomatch q⟩⟩⟩⟩⟩) hwsb) hw rfl rfl w5 ⟨hne.1, hne.2, by rw [← hxd]; exact hpar⟩ hroom
        exact run_va (va_runU (g := F0 m (pcM M n) ls (S.map (gcv G ad))) (b := ad b) hS28 hM0 cw hpv rfl hlen hl.1 hstk hcs hd' hf) hS hR kk
    · rw [if_neg hnt] at hMOK'
      obtain ⟨h11, w1, w2, w3, w4⟩ := hMOK'
      have hkr : k = r := kOk_eq (by omega) hkOk
      subst hkr
      obtain ⟨hk14, h3, hlt, hka, hcv⟩ := own_of hR hwb hkOk (by omega)
      have hnf : nth (k + 2) = false := by
        cases hz : nth (k + 2) with
        | false => rfl
        | true => exact absurd hz hnt
      have kx : ∀ (ce : Cell) (q9 : Addr) (k9 : Nat) (g' : qH) (ad' : Nat → Nat) (H1 : Heap) (locs1 : List Loc), k9 < 4 → (bif nth (k + 2) then False else match hfd n k9 (hnd M) with | some y => P (some (vi y)) g' | none => X k9 g') → Rl G ad' g' H1 → va_S (gA G) s.heap H1 locs1 → H1[q9]? = some ce → ce.vm = .none → s.vm.findClass (exN k9) = some ce.cls → vx_W p l e R s m args below meth c H1 locs1 (c' + mcM p0) (s' + msM p0) (vx_MQ below (PostQ G P) (PostX G X) args s (mcM M) (msM M) (gA G)) (F0 m (pcM M n) ls ((S.drop (naM p0 + 1)).map (gcv G ad))) q9 := by
        intro ce q9 k9 g' ad' H1 locs1 a1 a2 a3 a4 a5 a6 a7
        rw [hnf] at a2
        exact thr_ok F hH hn hcc hss a1 a3 a4 hl a5 a6 a7 a2
      have hM0 := hI p0 hp299 G ad _ (I, H) _ _ h hasw hasn (by rw [hasl]; exact hqm)
      rw [show gcv G ad (.inr (.inr (some b, k))) = .ref (ad b) from hcv] at hstk
      have hpv : PreV s Hp (rx k) (ad b) (PreQ G ad (S.take (naM p0 + 1)).reverse (I, H)) (((S.take (naM p0)).reverse).map (gcv G ad)) := by
        refine ⟨PreQ.blind, recv_at hE hR h11 h3 hlt hka, fun U hU hW => ?_⟩
        have h9 := hPcx U hU hW
        rw [st1, List.map_cons, show gcv G ad (.inr (.inr (some b, k))) = .ref (ad b) from hcv] at h9
        rw [st1]
        exact h9
      exact run_vx (vx_runV (g := F0 m (pcM M n) ls (S.map (gcv G ad))) (b := ad b) (C := rx k) hS28 hM0 (hgv _ w1 w2 w3 w4) hpv rfl hlen hl.1 hstk hcs hd hf) hS hR kx kk
end OPS
