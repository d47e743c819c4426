/-! ends: what a method owes; returns, throws, switches, small calls -/
theorem wd_oi : ∀ x ∈ ([(0, 3), (1, 1), (2, 3), (4, 3), (5, 3), (6, 3), (9, 1), (10, 1), (12, 5)] : List (Nat × Nat)), Cond.methodLink (cnm x.1) x.2 Lib.objectInit ∈ BIG := List.forall_mem_cons.mpr ⟨big_of 289 (by decide +kernel) (by decide +kernel), List.forall_mem_cons.mpr ⟨big_of 305 (by decide +kernel) (by decide +kernel), List.forall_mem_cons.mpr ⟨big_of 328 (by decide +kernel) (by decide +kernel), List.forall_mem_cons.mpr ⟨big_of 145 (by decide +kernel) (by decide +kernel), List.forall_mem_cons.mpr ⟨big_of 125 (by decide +kernel) (by decide +kernel), List.forall_mem_cons.mpr ⟨big_of 139 (by decide +kernel) (by decide +kernel), List.forall_mem_cons.mpr ⟨big_of 117 (by decide +kernel) (by decide +kernel), List.forall_mem_cons.mpr ⟨big_of 1408 (by decide +kernel) (by decide +kernel), List.forall_mem_cons.mpr ⟨big_of 233 (by decide +kernel) (by decide +kernel), fun _ q => nomatch q⟩⟩⟩⟩⟩⟩⟩⟩⟩
theorem wd_oi1 : Cond.instanceMethod Lib.objectInit ∈ BIG := big_of 118 (by decide +kernel) (by decide +kernel)
theorem wd_oi2 : Cond.code Lib.objectInit ⟨#[0xb1]⟩ 1 none ∈ BIG := big_of 119 (by decide +kernel) (by decide +kernel)
theorem wd_mx : ∀ x ∈ ([(1, 38), (2, 74), (3, 21), (4, 18), (6, 116)] : List (Nat × Nat)), Cond.methodLink (cnm x.1) x.2 Lib.Math.max.name ∈ BIG := List.forall_mem_cons.mpr ⟨big_of 1188 (by decide +kernel) (by decide +kernel), List.forall_mem_cons.mpr ⟨big_of 572 (by decide +kernel) (by decide +kernel), List.forall_mem_cons.mpr ⟨big_of 985 (by decide +kernel) (by decide +kernel), List.forall_mem_cons.mpr ⟨big_of 146 (by decide +kernel) (by decide +kernel), List.forall_mem_cons.mpr ⟨big_of 463 (by decide +kernel) (by decide +kernel), fun _ q => nomatch q⟩⟩⟩⟩⟩
theorem wd_mx1 : Cond.static Lib.Math.max.name ∈ BIG := big_of 147 (by decide +kernel) (by decide +kernel)
theorem wd_mx2 : Cond.code Lib.Math.max.name Lib.Math.max.code 2 (some .int) ∈ BIG := big_of 148 (by decide +kernel) (by decide +kernel)
theorem wd_mi : ∀ x ∈ ([(0, 78), (6, 111)] : List (Nat × Nat)), Cond.methodLink (cnm x.1) x.2 Lib.Math.min.name ∈ BIG := List.forall_mem_cons.mpr ⟨big_of 552 (by decide +kernel) (by decide +kernel), List.forall_mem_cons.mpr ⟨big_of 460 (by decide +kernel) (by decide +kernel), fun _ q => nomatch q⟩⟩
theorem wd_mi1 : Cond.static Lib.Math.min.name ∈ BIG := big_of 461 (by decide +kernel) (by decide +kernel)
theorem wd_mi2 : Cond.code Lib.Math.min.name Lib.Math.min.code 2 (some .int) ∈ BIG := big_of 462 (by decide +kernel) (by decide +kernel)
theorem wd_mt : Cond.initialized "java/lang/Math" ∈ BIG := big_of 89 (by decide +kernel) (by decide +kernel)
def thN : List String := ["java/lang/RuntimeException", "java/lang/Exception"]
theorem th_0 : (Cond.classLink "PlateTown" 162 (exN 0) :: Cond.initialized (exN 0) :: vx_at0 "PlateTown" 164 (exN 0) thN).all (fun w => (LWT.contains w && goodWord w || nwL.contains w) && vx_ot w) = true := by decide +kernel
theorem th_1 : (Cond.classLink "PlateTown" 352 (exN 1) :: Cond.initialized (exN 1) :: vx_at0 "PlateTown" 354 (exN 1) thN).all (fun w => (LWT.contains w && goodWord w || nwL.contains w) && vx_ot w) = true := by decide +kernel
theorem th_2 : (Cond.classLink "PlateTown" 355 (exN 2) :: Cond.initialized (exN 2) :: vx_at0 "PlateTown" 357 (exN 2) thN).all (fun w => (LWT.contains w && goodWord w || nwL.contains w) && vx_ot w) = true := by decide +kernel
theorem th_3 : (Cond.classLink "PlateTown" 147 (exN 3) :: Cond.initialized (exN 3) :: vx_at0 "PlateTown" 149 (exN 3) thN).all (fun w => (LWT.contains w && goodWord w || nwL.contains w) && vx_ot w) = true := by decide +kernel
theorem th_all : ∀ x ∈ ([(0, 162, 164), (1, 352, 354), (2, 355, 357), (3, 147, 149)] : List (Nat × Nat × Nat)), (Cond.classLink "PlateTown" x.2.1 (exN x.1) :: Cond.initialized (exN x.1) :: vx_at0 "PlateTown" x.2.2 (exN x.1) thN).all (fun w => (LWT.contains w && goodWord w || nwL.contains w) && vx_ot w) = true := List.forall_mem_cons.mpr ⟨th_0, List.forall_mem_cons.mpr ⟨th_1, List.forall_mem_cons.mpr ⟨th_2, List.forall_mem_cons.mpr ⟨th_3, fun _ q => nomatch q⟩⟩⟩⟩
theorem th_bef {x : Nat × Nat × Nat} (hx : x ∈ ([(0, 162, 164), (1, 352, 354), (2, 355, 357), (3, 147, 149)] : List (Nat × Nat × Nat))) {args : Array Value} {s : State} (hts : ∀ w ∈ BIG, w.before args s = true) (hN : NwA s) :
    ∀ w ∈ (Cond.classLink "PlateTown" x.2.1 (exN x.1) :: Cond.initialized (exN x.1) :: vx_at0 "PlateTown" x.2.2 (exN x.1) thN), w.before args s = true ∧ vx_ot w = true := by
  intro w hw
  have h := List.all_eq_true.mp (th_all x hx) w hw
  rw [Bool.and_eq_true, Bool.or_eq_true, Bool.and_eq_true] at h
  refine ⟨?_, h.2⟩
  rcases h.1 with ⟨h1, h2⟩ | h1
  · exact hts _ (List.mem_filter.mpr ⟨List.mem_of_elem_eq_true h1, h2⟩)
  · have h3 := hN w (List.mem_of_elem_eq_true h1)
    exact va_Nw.use (by simp only [vx_ot, Bool.or_eq_true] at h; rcases h.2 with q | q
                        · exact q
                        · have h4 : (nwL.all (fun w => w.onTables)) = true := by decide +kernel
                          exact List.all_eq_true.mp h4 w (List.mem_of_elem_eq_true h1)) h3
/-- what a method asks where it is called -/
def PreQ (G : qG) (ad : Nat → Nat) (as : List qV) (g : qH) : Array Value → State → Prop := fun a t => a = (as.map (gcv G ad)).toArray ∧ Sta G t ∧ Rl (gW G ad g.2) ad g t.heap
/-- what it owes: it came back with v, .. -/
def PostQ (G : qG) (Q : Option qV → qH → Prop) : Array Value → State → Outcome → State → Prop := fun _ st o t => ∃ (v : Option qV) (g : qH) (ad : Nat → Nat), o = .returned (v.map (gcv G ad)) ∧ Q v g ∧ Rl G ad g t.heap ∧ (∀ x, v = some x → wv g.2 x) ∧ va_F (gA G) st t
/-- .. or threw exception k -/
def PostX (G : qG) (X : Nat → qH → Prop) : String → State → State → Prop := fun E st t => ∃ (k : Nat) (g : qH) (ad : Nat → Nat), k < 4 ∧ E = exN k ∧ X k g ∧ Rl G ad g t.heap ∧ va_F (gA G) st t
theorem PreQ.blind {G : qG} {ad : Nat → Nat} {as : List qV} {g : qH} : FrameBlind (PreQ G ad as g) := fun a U g' mk h => ⟨h.1, h.2.1.same rfl rfl, h.2.2⟩
theorem W.wid9 {p : Program} {l : Launch} {e : Env} {R : Room} {s : State} {m : MethodId} {args : Array Value} {below : List Frame} {meth : Method} {c : Code} {H : Heap} {locs : List Loc} {cells slots k n : Nat} {Q : State → Prop} {g : JFrame} (h1 : cells ≤ k) (h2 : slots ≤ n) (kk : W p l e R s m args below meth c H locs k n Q g) : W p l e R s m args below meth c H locs cells slots Q g := fun T hT X => kk T hT (stand_widen X h1 h2)
theorem cat_le (G : qG) (ad : Nat → Nat) : ∀ S : List qV, ((S.map (gcv G ad)).map (fun v => v.category)).sum ≤ 2 * S.length
  | [] => Nat.le_refl _
  | v :: S => by
    have h := cat_le G ad S
    have h2 : (gcv G ad v).category ≤ 2 := by
      match v with
      | .inl _ => exact Nat.le_succ 1
      | .inr (.inl _) => exact Nat.le_refl 2
      | .inr (.inr (none, _)) => exact Nat.le_succ 1
      | .inr (.inr (some _, _)) => exact Nat.le_succ 1
    simp only [List.map_cons, List.sum_cons, List.length_cons]
    omega
theorem bf_get {b : Bool} {A : Prop} (h : bif b then A else False) : b = true ∧ A := by
  cases b with
  | false => exact h.elim
  | true => exact ⟨rfl, h⟩
theorem Snd.gA_locs {G : qG} {s : State} {Hp : Heap} {locs : List Loc} (hS : va_S (gA G) s.heap Hp locs) : ∀ q ∈ locs, gA G q.base := hS.2.2
section OPS
variable {G : qG} {M : Nat} {p : Program} {l : Launch} {e : Env} {R : Room} {s : State} {m : MethodId} {args : Array Value} {below : List Frame} {meth : Method} {c : Code} {Qf : State → Prop} {C : qC} {P : Option qV → qH → Prop} {X : Nat → qH → Prop}
variable {n : Nat} {z0 : Int} {p0 q0 r0 : Nat} {L : List (Option qV)} {S : List qV} {I : qI} {H : qS} {c' s' : Nat}
theorem so_29 (F : Fx G M p l R s m args meth c) (hc : cdM M n = (29, z0, p0, q0, r0)) (h : stA C M P X 29 z0 p0 q0 r0 n L S I H c' s' (Snd G M p l e R s m args below meth c Qf)) : Snd G M p l e R s m args below meth c Qf (n, L, S, (I, H), c', s') := by
  intro hn ad Hp locs ls hR hS hl hwl hws
  obtain ⟨T, hx, hb, hml, hown, hts, hE, hRm, hRf, hM, hnm, hbs, hst, hlk, hrt, hex⟩ := F
  obtain ⟨hd, hpc, hso, hk⟩ := dk_of T hM hn hc rfl
  have hn1 : n + 1 < szM M := Nat.le_of_ble_eq_true hk
  simp only [iOf] at hd hpc
  have hin := of_decide_eq_true hso
  match S, h, hws with
  | .inr (.inr (some a, k)) :: S, h, hws =>
    have hws' : ∀ x ∈ S, wv H x := fun x hx => hws x (List.mem_cons_of_mem _ hx)
    obtain ⟨h8, h⟩ := bf_get (show (bif Nat.ble S.length 8 then Snd G M p l e R s m args below meth c Qf (n + 1, L, S, (I, H), c', s') else False) from h)
    have h8 := Nat.le_of_ble_eq_true h8
    have hcs := cat_le G ad S
    rw [List.map_cons]
    refine W.objInit hx hb hown (hts _ (wd_oi _ hin)) (hts _ wd_oi1) (hts _ wd_oi2) (g := F0 m (pcM M n) ls _) rfl (hl.1.trans hml.symm) (show _ = Value.ref _ :: _ from rfl) hd (by omega) (by show 2 * 0 + _ + 12 ≤ _; omega) ?_
    show W _ _ _ _ _ _ _ _ _ _ _ _ _ _ _ (F0 m (pcM M n + 3) ls (S.map (gcv G ad)))
    rw [← hpc]
    exact h hn1 ad Hp locs ls hR hS hl hwl hws'
  | [], h, _ => exact h.elim
  | .inl _ :: _, h, _ => exact h.elim
  | .inr (.inl _) :: _, h, _ => exact h.elim
  | .inr (.inr (none, _)) :: _, h, _ => exact h.elim
theorem so_64 (F : Fx G M p l R s m args meth c) (hc : cdM M n = (64, z0, p0, q0, r0)) (h : stA C M P X 64 z0 p0 q0 r0 n L S I H c' s' (Snd G M p l e R s m args below meth c Qf)) : Snd G M p l e R s m args below meth c Qf (n, L, S, (I, H), c', s') := by
  intro hn ad Hp locs ls hR hS hl hwl hws
  obtain ⟨T, hx, hb, hml, hown, hts, hE, hRm, hRf, hM, hnm, hbs, hst, hlk, hrt, hex⟩ := F
  obtain ⟨hd, hpc, hso, hk⟩ := dk_of T hM hn hc rfl
  have hn1 : n + 1 < szM M := Nat.le_of_ble_eq_true hk
  simp only [iOf] at hd hpc
  have hin := of_decide_eq_true hso
  match S, h, hws with
  | .inl b :: .inl a :: S, h, hws =>
    have hb9 : inR b := hws _ List.mem_cons_self
    have ha9 : inR a := hws _ (List.mem_cons_of_mem _ List.mem_cons_self)
    have hws' : ∀ x ∈ S, wv H x := fun x hx => hws x (List.mem_cons_of_mem _ (List.mem_cons_of_mem _ hx))
    obtain ⟨hle, h⟩ := (show (c' ≤ mcM M ∧ s' ≤ msM M) ∧ (bif Nat.ble S.length 8 then Snd G M p l e R s m args below meth c Qf (n + 1, L, vi (if a < b then b else a) :: S, (I, H), c', s') else False) from h)
    obtain ⟨h8, h⟩ := bf_get h
    have h8 := Nat.le_of_ble_eq_true h8
    have hcs := cat_le G ad S
    rw [List.map_cons, List.map_cons, show gcv G ad (.inl b) = .int (Int32.ofInt b) from rfl, show gcv G ad (.inl a) = .int (Int32.ofInt a) from rfl]
    refine va_mmax hx hb (hml.trans hl.1.symm) hown (hts _ (wd_mx _ hin)) (hts _ wd_mx1) (hts _ wd_mt) (hts _ wd_mx2) (by omega) (by omega) (by rw [hRm.1]; exact hle.1) (by rw [hRm.2]; exact hle.2) hd ?_
    have e9 : (if Int32.ofInt a < Int32.ofInt b then Int32.ofInt b else Int32.ofInt a) = Int32.ofInt (if a < b then b else a) := by
      by_cases q : a < b
      · rw [if_pos q, if_pos (by rw [oi_lt (by assumption) (by assumption)]; exact q)]
      · rw [if_neg q, if_neg (by rw [oi_lt (by assumption) (by assumption)]; exact q)]
    rw [e9, ← hpc]
    refine h hn1 ad Hp locs ls hR hS hl hwl (fun x hx => ?_)
    rcases List.mem_cons.mp hx with rfl | hx
    · show inR (if a < b then b else a)
      split <;> assumption
    · exact hws' x hx
  | [], h, _ => exact h.elim
  | .inr _ :: _, h, _ => exact h.elim
  | .inl _ :: [], h, _ => exact h.elim
  | .inl _ :: .inr _ :: _, h, _ => exact h.elim
theorem so_65 (F : Fx G M p l R s m args meth c) (hc : cdM M n = (65, z0, p0, q0, r0)) (h : stA C M P X 65 z0 p0 q0 r0 n L S I H c' s' (Snd G M p l e R s m args below meth c Qf)) : Snd G M p l e R s m args below meth c Qf (n, L, S, (I, H), c', s') := by
  intro hn ad Hp locs ls hR hS hl hwl hws
  obtain ⟨T, hx, hb, hml, hown, hts, hE, hRm, hRf, hM, hnm, hbs, hst, hlk, hrt, hex⟩ := F
  obtain ⟨hd, hpc, hso, hk⟩ := dk_of T hM hn hc rfl
  have hn1 : n + 1 < szM M := Nat.le_of_ble_eq_true hk
  simp only [iOf] at hd hpc
  have hin := of_decide_eq_true hso
  match S, h, hws with
  | .inl b :: .inl a :: S, h, hws =>
    have hb9 : inR b := hws _ List.mem_cons_self
    have ha9 : inR a := hws _ (List.mem_cons_of_mem _ List.mem_cons_self)
    have hws' : ∀ x ∈ S, wv H x := fun x hx => hws x (List.mem_cons_of_mem _ (List.mem_cons_of_mem _ hx))
    obtain ⟨hle, h⟩ := (show (c' ≤ mcM M ∧ s' ≤ msM M) ∧ (bif Nat.ble S.length 8 then Snd G M p l e R s m args below meth c Qf (n + 1, L, vi (if b < a then b else a) :: S, (I, H), c', s') else False) from h)
    obtain ⟨h8, h⟩ := bf_get h
    have h8 := Nat.le_of_ble_eq_true h8
    have hcs := cat_le G ad S
    rw [List.map_cons, List.map_cons, show gcv G ad (.inl b) = .int (Int32.ofInt b) from rfl, show gcv G ad (.inl a) = .int (Int32.ofInt a) from rfl]
    refine va_mmin hx hb (hml.trans hl.1.symm) hown (hts _ (wd_mi _ hin)) (hts _ wd_mi1) (hts _ wd_mt) (hts _ wd_mi2) (by omega) (by omega) (by rw [hRm.1]; exact hle.1) (by rw [hRm.2]; exact hle.2) hd ?_
    have e9 : (if Int32.ofInt b < Int32.ofInt a then Int32.ofInt b else Int32.ofInt a) = Int32.ofInt (if b < a then b else a) := by
      by_cases q : b < a
      · rw [if_pos q, if_pos (by rw [oi_lt (by assumption) (by assumption)]; exact q)]
      · rw [if_neg q, if_neg (by rw [oi_lt (by assumption) (by assumption)]; exact q)]
    rw [e9, ← hpc]
    refine h hn1 ad Hp locs ls hR hS hl hwl (fun x hx => ?_)
    rcases List.mem_cons.mp hx with rfl | hx
    · show inR (if b < a then b else a)
      split <;> assumption
    · exact hws' x hx
  | [], h, _ => exact h.elim
  | .inr _ :: _, h, _ => exact h.elim
  | .inl _ :: [], h, _ => exact h.elim
  | .inl _ :: .inr _ :: _, h, _ => exact h.elim
theorem swt_at {K : Nat → Prop} {a : Int} : ∀ {l : List Nat} {v : Int} {i t : Nat}, swt K a v l → l[i]? = some t → a = v + i → K t
  | [], _, _, _, _, h, _ => by simp at h
  | x :: l, v, 0, t, hs, h, e => by
    cases h
    exact hs.1 (by omega)
  | x :: l, v, i + 1, t, hs, h, e => swt_at hs.2 (i := i) (by simpa using h) (by omega)
theorem dk_52 (T : TblOK) {M n : Nat} (hM : M ≤ nL_law) (hn : n < szM M) {z : Int} {p q r : Nat} (hc : cdM M n = (52, z, p, q, r)) :
    decode (bM M) (pcM M n) = .ok (swi M n z.toNat, pcM M (n + 1) - pcM M n) ∧ nok M n 52 z p = true := by
  have h := T.2.2.2.2.2.1 M hM n hn
  unfold dck at h
  rw [hc] at h
  dsimp only at h
  rw [show Nat.beq 52 52 = true from rfl, cond_true, Bool.and_eq_true, Bool.and_eq_true] at h
  obtain ⟨h1, h2, h3⟩ := h
  unfold dok at h1
  rw [Bool.and_eq_true, decide_eq_true_eq] at h1
  exact ⟨h1.1, h3⟩
theorem so_52 (F : Fx G M p l R s m args meth c) (hc : cdM M n = (52, z0, p0, q0, r0)) (h : stA C M P X 52 z0 p0 q0 r0 n L S I H c' s' (Snd G M p l e R s m args below meth c Qf)) : Snd G M p l e R s m args below meth c Qf (n, L, S, (I, H), c', s') := by
  intro hn ad Hp locs ls hR hS hl hwl hws
  obtain ⟨T, hx, hb, hml, hown, hts, hE, hRm, hRf, hM, hnm, hbs, hst, hlk, hrt, hex⟩ := F
  obtain ⟨hd, hk⟩ := dk_52 T hM hn hc
  unfold nok at hk
  simp only [Bool.and_eq_true] at hk
  have hk1 : (tsw z0.toNat).2.2 < szM M := Nat.le_of_ble_eq_true hk.1
  match S, h, hws with
  | .inl a :: S, h, hws =>
    have ha : inR a := hws _ List.mem_cons_self
    have hws' : ∀ x ∈ S, wv H x := fun x hx => hws x (List.mem_cons_of_mem _ hx)
    obtain ⟨h1, h2⟩ := (show ((a < (tsw z0.toNat).1 ∨ (tsw z0.toNat).1 + (tsw z0.toNat).2.1.length ≤ a) → Snd G M p l e R s m args below meth c Qf ((tsw z0.toNat).2.2, L, S, (I, H), c', s')) ∧ swt (fun t => Snd G M p l e R s m args below meth c Qf (t, L, S, (I, H), c', s')) a (tsw z0.toNat).1 (tsw z0.toNat).2.1 from h)
    rw [List.map_cons, show gcv G ad (.inl a) = .int (Int32.ofInt a) from rfl]
    unfold swi at hd
    by_cases ho : a < (tsw z0.toNat).1 ∨ (tsw z0.toNat).1 + (tsw z0.toNat).2.1.length ≤ a
    · refine lv_tableOut hx hb hd (by rw [oi_toInt ha]; omega) (tgt := pcM M (tsw z0.toNat).2.2) (by unfold ofM; omega) ?_
      exact h1 ho hk1 ad Hp locs ls hR hS hl hwl hws'
    · have hi : (a - (tsw z0.toNat).1).toNat < (tsw z0.toNat).2.1.length := by omega
      have ht := List.getElem?_eq_getElem hi
      generalize (tsw z0.toNat).2.1[(a - (tsw z0.toNat).1).toNat] = t at ht
      have ht1 : t < szM M := Nat.le_of_ble_eq_true (List.all_eq_true.mp hk.2 t (List.mem_of_getElem? ht))
      refine lv_tableIn hx hb hd (off := ofM M n t) (tgt := pcM M t) (by rw [oi_toInt ha]; omega) (by rw [oi_toInt ha]; omega) (by rw [oi_toInt ha, List.getElem?_toArray, List.getElem?_map, ht]; rfl) (by show (pcM M n : Int) + ofM M n t = _; unfold ofM; omega) ?_
      exact swt_at h2 ht (by omega) ht1 ad Hp locs ls hR hS hl hwl hws'
  | [], h, _ => exact h.elim
  | .inr _ :: _, h, _ => exact h.elim
theorem so_57 (F : Fx G M p l R s m args meth c) (hc : cdM M n = (57, z0, p0, q0, r0)) (h : stA C M P X 57 z0 p0 q0 r0 n L S I H c' s' (Snd G M p l e R s m args below meth c (vx_MQ below (PostQ G P) (PostX G X) args s (mcM M) (msM M) (gA G)))) : Snd G M p l e R s m args below meth c (vx_MQ below (PostQ G P) (PostX G X) args s (mcM M) (msM M) (gA G)) (n, L, S, (I, H), c', s') := by
  intro hn ad Hp locs ls hR hS hl hwl hws
  obtain ⟨T, hx, hb, hml, hown, hts, hE, hRm, hRf, hM, hnm, hbs, hst, hlk, hrt, hex⟩ := F
  obtain ⟨hd, hpc, hso, hk⟩ := dk_of T hM hn hc rfl
  simp only [iOf] at hd
  have hty := of_decide_eq_true hso
  match S, h, hws with
  | [.inl v], h, hws =>
    have hv : inR v := hws _ List.mem_cons_self
    obtain ⟨⟨hc1, hs1⟩, hbo, hp⟩ := (show (c' ≤ mcM M ∧ s' ≤ msM M) ∧ (bif rbM M then v = 0 ∨ v = 1 else True) ∧ P (some (vi v)) (I, H) from h)
    refine W.wid9 hc1 hs1 (vx_ret (W.zret hx hb (hrt.trans hty) ?_ (fun t ht _ => ⟨some (vi v), (I, H), ad, rfl, hp, by rw [ht]; exact hR, fun x hx => by cases hx; exact hv, hS.F ht⟩) hS.2.2 hd hlk))
    cases hrb : rbM M with
    | false => rfl
    | true =>
      rw [hrb] at hbo
      rcases hbo with rfl | rfl <;> rfl
  | [], h, _ => exact h.elim
  | .inr _ :: _, h, _ => exact h.elim
  | .inl _ :: _ :: _, h, _ => exact h.elim
theorem so_58 (F : Fx G M p l R s m args meth c) (hc : cdM M n = (58, z0, p0, q0, r0)) (h : stA C M P X 58 z0 p0 q0 r0 n L S I H c' s' (Snd G M p l e R s m args below meth c (vx_MQ below (PostQ G P) (PostX G X) args s (mcM M) (msM M) (gA G)))) : Snd G M p l e R s m args below meth c (vx_MQ below (PostQ G P) (PostX G X) args s (mcM M) (msM M) (gA G)) (n, L, S, (I, H), c', s') := by
  intro hn ad Hp locs ls hR hS hl hwl hws
  obtain ⟨T, hx, hb, hml, hown, hts, hE, hRm, hRf, hM, hnm, hbs, hst, hlk, hrt, hex⟩ := F
  obtain ⟨hd, hpc, hso, hk⟩ := dk_of T hM hn hc rfl
  simp only [iOf] at hd
  match S, h, hws with
  | [.inr (.inr v)], h, hws =>
    have hv : wv H (.inr (.inr v)) := hws _ List.mem_cons_self
    obtain ⟨⟨hc1, hs1⟩, hp⟩ := (show (c' ≤ mcM M ∧ s' ≤ msM M) ∧ P (some (.inr (.inr v))) (I, H) from h)
    have hvv : gcv G ad (.inr (.inr v)) = .null ∨ ∃ a, gcv G ad (.inr (.inr v)) = .ref a := by
      match v with
      | (none, _) => exact Or.inl rfl
      | (some _, _) => exact Or.inr ⟨_, rfl⟩
    have fin : ∀ t : State, t.heap = Hp → s.WarmedH t.vm → PostQ G P args s (.returned (some (gcv G ad (.inr (.inr v))))) t := fun t ht _ => ⟨some (.inr (.inr v)), (I, H), ad, rfl, hp, by rw [ht]; exact hR, fun x hx => by cases hx; exact hv, hS.F ht⟩
    have hso : (match rtM M with | some (.object _) => true | some (.array _) => true | _ => false) = true := hso
    split at hso
    · rename_i nm hq
      exact W.wid9 hc1 hs1 (vx_ret (W.aret hx hb (hrt.trans hq) (Or.inl ⟨nm, rfl⟩) hvv fin hS.2.2 hd hlk))
    · rename_i nm hq
      exact W.wid9 hc1 hs1 (vx_ret (W.aret hx hb (hrt.trans hq) (Or.inr ⟨nm, rfl⟩) hvv fin hS.2.2 hd hlk))
    · cases hso
  | [], h, _ => exact h.elim
  | .inl _ :: _, h, _ => exact h.elim
  | .inr (.inl _) :: _, h, _ => exact h.elim
  | .inr (.inr _) :: _ :: _, h, _ => exact h.elim
theorem so_59 (F : Fx G M p l R s m args meth c) (hc : cdM M n = (59, z0, p0, q0, r0)) (h : stA C M P X 59 z0 p0 q0 r0 n L S I H c' s' (Snd G M p l e R s m args below meth c (vx_MQ below (PostQ G P) (PostX G X) args s (mcM M) (msM M) (gA G)))) : Snd G M p l e R s m args below meth c (vx_MQ below (PostQ G P) (PostX G X) args s (mcM M) (msM M) (gA G)) (n, L, S, (I, H), c', s') := by
  intro hn ad Hp locs ls hR hS hl hwl hws
  obtain ⟨T, hx, hb, hml, hown, hts, hE, hRm, hRf, hM, hnm, hbs, hst, hlk, hrt, hex⟩ := F
  obtain ⟨hd, hpc, hso, hk⟩ := dk_of T hM hn hc rfl
  simp only [iOf] at hd
  match S, h, hws with
  | [], h, hws =>
    obtain ⟨⟨hc1, hs1⟩, hp⟩ := (show (c' ≤ mcM M ∧ s' ≤ msM M) ∧ P none (I, H) from h)
    have hso : (rtM M).isNone = true := hso
    exact W.wid9 hc1 hs1 (vx_ret (W.vret hx hb (hrt.trans (Option.isNone_iff_eq_none.mp hso)) (fun t ht _ => ⟨none, (I, H), ad, rfl, hp, by rw [ht]; exact hR, fun x hx => (nomatch hx), hS.F ht⟩) hS.2.2 hd hlk))
  | _ :: _, h, _ => exact h.elim
theorem so_60 (F : Fx G M p l R s m args meth c) (hc : cdM M n = (60, z0, p0, q0, r0)) (h : stA C M P X 60 z0 p0 q0 r0 n L S I H c' s' (Snd G M p l e R s m args below meth c (vx_MQ below (PostQ G P) (PostX G X) args s (mcM M) (msM M) (gA G)))) : Snd G M p l e R s m args below meth c (vx_MQ below (PostQ G P) (PostX G X) args s (mcM M) (msM M) (gA G)) (n, L, S, (I, H), c', s') := by
  intro hn ad Hp locs ls hR hS hl hwl hws
  obtain ⟨T, hx, hb, hml, hown, hts, hE, hRm, hRf, hM, hnm, hbs, hst, hlk, hrt, hex⟩ := F
  obtain ⟨hd, hpc, hso, hk⟩ := dk_of T hM hn hc rfl
  simp only [iOf] at hd hpc
  obtain ⟨⟨hc1, hs1⟩, h⟩ := (show (c' + 1 ≤ mcM M ∧ s' + 6 ≤ msM M) ∧ (bif Nat.ble S.length 4 then X p0 (I, H) else False) from h)
  obtain ⟨h4, hp⟩ := bf_get h
  have h4 := Nat.le_of_ble_eq_true h4
  have hcs := cat_le G ad S
  unfold sok at hso
  simp only [Bool.and_eq_true, decide_eq_true_eq] at hso
  obtain ⟨⟨⟨⟨⟨⟨e1, e2⟩, e3⟩, e4⟩, e5⟩, e6⟩, e7⟩ := hso
  have e4 : n + 3 < szM M := Nat.le_of_ble_eq_true e4
  have e5 := Nat.eq_of_beq_eq_true e5
  obtain ⟨d1, g1, -, -⟩ := dk_of T hM (show n + 1 < szM M by omega) e1 rfl
  obtain ⟨d2, g2, -, -⟩ := dk_of T hM (show n + 2 < szM M by omega) e2 rfl
  obtain ⟨d3, g3, -, -⟩ := dk_of T hM e4 e3 rfl
  simp only [iOf] at d1 g1 d2 g2 d3 g3
  replace g1 : pcM M (n + 2) = pcM M (n + 1) + 1 := g1
  replace g2 : pcM M (n + 3) = pcM M (n + 2) + 3 := g2
  have hxx := th_bef (x := (p0, q0, r0)) e6 hts hE.2.2.2.2.2.2.2.1.2.1
  have hp4 : p0 < 4 := by
    have h9 : ([(0, 162, 164), (1, 352, 354), (2, 355, 357), (3, 147, 149)] : List (Nat × Nat × Nat)).all (fun x => Nat.blt x.1 4) = true := by decide
    exact Nat.le_of_ble_eq_true (List.all_eq_true.mp h9 _ e6)
  have hown' : s.vm.findClass "PlateTown" = some m.cls := by rw [e5] at hown; exact hown
  refine vx_throw0 (cls := exN p0) (names := thN) (ik := q0) (ic := r0) hx hb hst hown' ?_ ?_ (hxx _ List.mem_cons_self).1 (hxx _ (List.mem_cons_of_mem _ List.mem_cons_self)).1 (fun w hw => (hxx w (List.mem_cons_of_mem _ (List.mem_cons_of_mem _ hw))).1) (fun w hw => (hxx w hw).2) hE.2.2.2.2.2.2.1.1 hE.2.2.2.2.2.2.1.2 hS (hl.1.trans hml.symm) hd
    (by rw [show pcM M n + 3 = pcM M (n + 1) by omega]; exact d1) (by rw [show pcM M n + 4 = pcM M (n + 2) by omega]; exact d2) (by rw [show pcM M n + 7 = pcM M (n + 3) by omega]; exact d3) ?_ ?_ ?_ (by rw [hRm.1]; exact hc1) (by rw [hRm.2]; exact hs1) hlk ?_ hS.2.2 hc1 hs1
  · match p0, hp4 with
    | 0, _ => decide +kernel
    | 1, _ => decide +kernel
    | 2, _ => decide +kernel
    | 3, _ => decide +kernel
  · decide +kernel
  · intro x hx9
    rw [hex] at hx9
    unfold hhT at hx9
    rw [if_pos e7] at hx9
    cases hx9
  · show 2 + 3 < R.frames
    omega
  · show ((S.map (gcv G ad)).map (fun v => v.category)).sum + (13 * (2 + 1) + 42) ≤ R.locals
    omega
  · intro t ht1 ht2 ht3
    refine ⟨p0, (I, H), ad, hp4, rfl, hp, ⟨hR.1.kept (fun k x hx9 => ht3 _ (vx_lt hR.1 hx9)), hR.2.1, hR.2.2.1, Nat.le_trans hR.2.2.2.1 ht2, hR.2.2.2.2⟩, Nat.le_trans hS.1 ht2, fun q hq1 hq2 => ?_⟩
    rw [ht3 q (Nat.lt_of_lt_of_le hq1 hS.1)]
    exact hS.2.1 q hq1 hq2
end OPS
