/-! steps that call the JDK -/
theorem wd_le : ∀ x ∈ ([(10, 76), (12, 64)] : List (Nat × Nat)), Cond.methodLink (cnm x.1) x.2 jLE ∈ BIG := List.forall_mem_cons.mpr ⟨big_of 1550 (by decide +kernel) (by decide +kernel), List.forall_mem_cons.mpr ⟨big_of 683 (by decide +kernel) (by decide +kernel), fun _ q => nomatch q⟩⟩
theorem wd_ch : ∀ x ∈ ([(10, 82), (12, 69)] : List (Nat × Nat)), Cond.methodLink (cnm x.1) x.2 jCH ∈ BIG := List.forall_mem_cons.mpr ⟨big_of 1551 (by decide +kernel) (by decide +kernel), List.forall_mem_cons.mpr ⟨big_of 693 (by decide +kernel) (by decide +kernel), fun _ q => nomatch q⟩⟩
theorem wd_fm : ∀ x ∈ ([(0, 73), (6, 121), (11, 18)] : List (Nat × Nat)), Cond.methodLink (cnm x.1) x.2 jFM ∈ BIG := List.forall_mem_cons.mpr ⟨big_of 551 (by decide +kernel) (by decide +kernel), List.forall_mem_cons.mpr ⟨big_of 464 (by decide +kernel) (by decide +kernel), List.forall_mem_cons.mpr ⟨big_of 549 (by decide +kernel) (by decide +kernel), fun _ q => nomatch q⟩⟩⟩
theorem wd_cp : ∀ x ∈ ([(3, 27)] : List (Nat × Nat)), Cond.methodLink (cnm x.1) x.2 jCP ∈ BIG := List.forall_mem_cons.mpr ⟨big_of 986 (by decide +kernel) (by decide +kernel), fun _ q => nomatch q⟩
theorem sl_all : (List.range nstr).all (fun i => decide (0 ≤ slen i) && decide (slen i ≤ 1000) && decide ((sbyt i).length = (slen i).toNat) && (sbyt i).all (fun b => decide (0 ≤ b) && decide (b < 128))) = true := by decide +kernel
theorem sl_at {i : Nat} (hi : i < nstr) : (0 ≤ slen i ∧ slen i ≤ 1000) ∧ (sbyt i).length = (slen i).toNat ∧ ∀ b ∈ sbyt i, 0 ≤ b ∧ b < 128 := by
  have h := List.all_eq_true.mp sl_all i (List.mem_range.mpr hi)
  simp only [Bool.and_eq_true, decide_eq_true_eq] at h
  exact ⟨⟨h.1.1.1, h.1.1.2⟩, h.1.2, fun b hb => by have := List.all_eq_true.mp h.2 b hb; simpa using this⟩
theorem slnL_at {i : Nat} (hi : i < nstr) : slnL.getD i 0 = (slen i).toNat := by
  unfold slnL
  rw [List.getD_eq_getElem?_getD, List.getElem?_map, List.getElem?_range hi]; rfl
theorem sbyL_at {i j : Nat} (hi : i < nstr) : (sbyL.getD i []).getD j 0 = Int32.ofInt ((sbyt i).getD j 0) := by
  have e : sbyL.getD i [] = (sbyt i).map Int32.ofInt := by
    unfold sbyL
    rw [List.getD_eq_getElem?_getD, List.getElem?_map, List.getElem?_range hi]; rfl
  rw [e, List.getD_eq_getElem?_getD, List.getElem?_map, List.getD_eq_getElem?_getD]
  cases (sbyt i)[j]? <;> rfl
theorem chr_all : (List.range 128).all (fun k => decide (((Int32.ofInt (k : Int) &&& 255).toUInt32 % 65536).toInt32 = Int32.ofInt (k : Int)) && decide (narrow .char (.int (Int32.ofInt (k : Int))) = .int (Int32.ofInt (k : Int)))) = true := by decide +kernel
theorem chr_at {b : Int} (h : 0 ≤ b ∧ b < 128) : ((Int32.ofInt b &&& 255).toUInt32 % 65536).toInt32 = Int32.ofInt b ∧ narrow .char (.int (Int32.ofInt b)) = .int (Int32.ofInt b) := by
  have h2 := List.all_eq_true.mp chr_all b.toNat (List.mem_range.mpr (by omega))
  rw [Bool.and_eq_true, decide_eq_true_eq, decide_eq_true_eq, Int.toNat_of_nonneg h.1] at h2
  exact h2
theorem nn_msb (x : Int32) : 0 ≤ x ↔ x.toBitVec.msb = false := by
  rw [Int32.le_iff_toInt_le, BitVec.msb_eq_toInt]
  show 0 ≤ x.toBitVec.toInt ↔ _
  simp
theorem fmod_mod {a b : Int} (ha : inR a) (hb : inR b) (h0 : 0 < b) : _root_.Jvm.Free.MCB.fmod (Int32.ofInt a) (Int32.ofInt b) = Int32.ofInt (a % b) := by
  have hbn : ¬ b = 0 := by omega
  have h1 := Int.emod_nonneg a hbn
  have h2 := Int.emod_lt_of_pos a h0
  have e1 : _root_.Jvm.Free.MCB.remI (Int32.ofInt a) (Int32.ofInt b) = Int32.ofInt (a.tmod b) := (oi_rem ha hb).symm
  have h4 := @Int.tmod_eq_emod a b
  have h3 := tmod_bounds (a := a) h0
  have hbn2 : (b.natAbs : Int) = b := by omega
  have hx : 0 ≤ (Int32.ofInt a ^^^ Int32.ofInt b) ↔ 0 ≤ a := by
    have hbb : (Int32.ofInt b).toBitVec.msb = false := (nn_msb _).mp (by rw [← oi_0, oi_le in0 hb]; omega)
    rw [nn_msb, Int32.toBitVec_xor, BitVec.msb_xor, hbb, Bool.xor_false, ← nn_msb, ← oi_0, oi_le in0 ha]
  unfold _root_.Jvm.Free.MCB.fmod
  rw [e1]
  have ht : inR (a.tmod b) := tmod_in ha hb hbn
  by_cases h : 0 ≤ a
  · rw [if_pos (hx.mpr h)]
    congr 1
    rw [if_pos (Or.inl h)] at h4
    omega
  · rw [if_neg (fun q => h (hx.mp q))]
    by_cases hz : a.tmod b = 0
    · rw [if_pos (by rw [hz]; rfl)]
      congr 1
      split at h4 <;> omega
    · rw [if_neg (fun q => hz (by rw [← oi_0, oi_eq ht in0] at q; exact q)), ← Int32.ofInt_add]
      congr 1
      split at h4
      · rename_i h5
        rcases h5 with h5 | h5
        · omega
        · exact absurd (Int.tmod_eq_zero_of_dvd h5) hz
      · omega
section OPS
variable {G : qG} {M : Nat} {p : Program} {l : Launch} {e : Env} {R : Room} {s : State} {m : MethodId} {args : Array Value} {below : List Frame} {meth : Method} {c : Code} {Qf : State → Prop} {C : qC} {P : Option qV → qH → Prop} {X : Nat → qH → Prop}
variable {n : Nat} {z0 : Int} {p0 q0 r0 : Nat} {L : List (Option qV)} {S : List qV} {I : qI} {H : qS} {c' s' d : Nat}
theorem so_66 (F : Fx G M p l R s m args meth c) (hc : cdM M n = (66, z0, p0, q0, r0)) (h : stA C M P X 66 z0 p0 q0 r0 n L S I H c' s' (Snd G M p l e R s m args below meth c Qf)) : Snd G M p l e R s m args below meth c Qf (n, L, S, (I, H), c', s') := by
  intro hn ad Hp locs ls hR hS hl hwl hws
  obtain ⟨T, hx, hb, hml, hown, hts, hE, hRm, hRf, hM, hnm, hbs, hst, hlk, hrt, hex⟩ := id F
  obtain ⟨hd, hpc, hso, hk⟩ := dk_of T hM hn hc rfl
  have hn1 : n + 1 < szM M := Nat.le_of_ble_eq_true hk
  simp only [iOf] at hd hpc
  have hin := of_decide_eq_true hso
  match S, h, hws with
  | .inl b :: .inl a :: S, h, hws =>
    have hb9 : inR b := hws _ List.mem_cons_self
    have ha9 : inR a := hws _ (List.mem_cons_of_mem _ List.mem_cons_self)
    have hws' : ∀ x ∈ S, wv H x := fun x hx => hws x (List.mem_cons_of_mem _ (List.mem_cons_of_mem _ hx))
    obtain ⟨v, ⟨⟨h0, hv⟩, hle⟩, h⟩ := (show ∃ v, ((0 < b ∧ v = a % b) ∧ c' ≤ mcM M ∧ s' ≤ msM M) ∧ (bif Nat.ble S.length 4 then Snd G M p l e R s m args below meth c Qf (n + 1, L, vi v :: S, (I, H), c', s') else False) from h)
    obtain ⟨h4, h⟩ := bf_get h
    have h4 := Nat.le_of_ble_eq_true h4
    have hcs := cat_le G ad S
    subst hv
    have hvv : inR (a % b) := by
      have h1 := Int.emod_nonneg a (show b ≠ 0 by omega)
      have h2 := Int.emod_lt_of_pos a h0
      unfold inR at hb9 ⊢
      omega
    have hbz : Int32.ofInt b ≠ 0 := fun q => by
      rw [← oi_0, oi_eq hb9 in0] at q
      omega
    rw [List.map_cons, List.map_cons, show gcv G ad (.inl b) = .int (Int32.ofInt b) from rfl, show gcv G ad (.inl a) = .int (Int32.ofInt a) from rfl]
    intro T0 hT0 X0
    have hK := _root_.Jvm.Free.MCB.FloorMod.pays (l := l) (R := R) (p := p) (e := e) (below := below) (s := s) (args := args) (W := 8) (len := 3) (by omega) (by omega) (hts _ jFM_c) (hts _ wd_mt)
    obtain ⟨v9, vm₁, ⟨U', l2, c2, s2⟩, hW₁, X', ⟨⟨q1, q2, q3, q4⟩, q5⟩, st⟩ := callS X0 hx (own := cnm (clM M)) (index := q0) (y := jFM) (bytes := prog_22_method_50_code) (maxL := 3) (ret := some .int) hown (hts _ (wd_fm _ hin)) (hts _ jFM_s) (hts _ wd_mt) (hts _ jFM_c) ⟨by decide, by decide⟩ hK (g := F0 m (pcM M n) ls (.int (Int32.ofInt b) :: .int (Int32.ofInt a) :: S.map (gcv G ad))) rfl (hl.1.trans hml.symm) (argsL := [.int (Int32.ofInt a), .int (Int32.ofInt b)]) (rest := S.map (gcv G ad)) (fun sig hs => by
        have h9 : (parseMethodDescriptor "(II)I").map (fun d => d.parameters.length) = some 2 := by decide +kernel
        rw [show jFM.desc = "(II)I" from rfl] at hs
        rw [hs] at h9
        exact (Option.some.inj h9).symm) rfl (by show 2 * 0 + _ ≤ 8; omega) (by rw [hb]; exact hd) (fun vm₁ hW₁ => ⟨by rw [hRm.1]; exact hle.1, by rw [hRm.2]; exact hle.2, (Int32.ofInt a, Int32.ofInt b), rfl, hbz⟩)
    have q6 := q5 (Int32.ofInt a, Int32.ofInt b) ⟨rfl, hbz⟩
    dsimp only [Pt.U, Pt.locs, Pt.cells, Pt.slots] at X' q1 q2 q3 q4 st
    rw [q2, q3, q4] at X'
    rw [q6, fmod_mod ha9 hb9 h0] at st
    have k := h hn1 ad Hp locs ls hR hS hl hwl (fun x hx => by
      rcases List.mem_cons.mp hx with rfl | hx
      · exact hvv
      · exact hws' x hx)
    obtain ⟨t, a1, b1⟩ := k U' (q1.trans hT0) X'
    refine ⟨t, st t ?_, b1⟩
    rw [hpc] at a1
    exact a1
  | [], h, _ => exact h.elim
  | .inr _ :: _, h, _ => exact h.elim
  | .inl _ :: [], h, _ => exact h.elim
  | .inl _ :: .inr _ :: _, h, _ => exact h.elim
theorem so_61 (F : Fx G M p l R s m args meth c) (hc : cdM M n = (61, z0, p0, q0, r0)) (h : stA C M P X 61 z0 p0 q0 r0 n L S I H c' s' (Snd G M p l e R s m args below meth c Qf)) : Snd G M p l e R s m args below meth c Qf (n, L, S, (I, H), c', s') := by
  intro hn ad Hp locs ls hR hS hl hwl hws
  obtain ⟨T, hx, hb, hml, hown, hts, hE, hRm, hRf, hM, hnm, hbs, hst, hlk, hrt, hex⟩ := id F
  obtain ⟨hd, hpc, hso, hk⟩ := dk_of T hM hn hc rfl
  have hn1 : n + 1 < szM M := Nat.le_of_ble_eq_true hk
  simp only [iOf] at hd hpc
  have hin := of_decide_eq_true hso
  match S, h, hws with
  | .inr (.inr (some a, k9)) :: S, h, hws =>
    by_cases hk9 : k9 = 100
    case neg =>
      have q' : (match (.inr (.inr (some a, k9)) :: S : List qV) with | .inr (.inr (some a, 100)) :: S => (c' ≤ mcM M ∧ s' ≤ msM M) ∧ (bif Nat.ble S.length 4 then Snd G M p l e R s m args below meth c Qf (n + 1, L, vi (slen a) :: S, (I, H), c', s') else False) | _ => False) := h
      split at q'
      · rename_i heq
        cases heq
        exact absurd rfl hk9
      · exact q'.elim
    subst hk9
    have hw : a < nstr := hws _ List.mem_cons_self
    have hws' : ∀ x ∈ S, wv H x := fun x hx => hws x (List.mem_cons_of_mem _ hx)
    obtain ⟨hle, h⟩ := (show (c' ≤ mcM M ∧ s' ≤ msM M) ∧ (bif Nat.ble S.length 4 then Snd G M p l e R s m args below meth c Qf (n + 1, L, vi (slen a) :: S, (I, H), c', s') else False) from h)
    obtain ⟨h4, h⟩ := bf_get h
    have h4 := Nat.le_of_ble_eq_true h4
    have hcs := cat_le G ad S
    obtain ⟨⟨hs0, hs1⟩, -, -⟩ := sl_at hw
    refine j_virt (G := G) (le_met (l := l) hw) ⟨hx, hb, hml, hown, hts⟩ hE hS (vk_recv (i := 0) (hE.2.2.2.2.1.1 a hw) Nat.one_pos hS) (wd_le _ hin) jLE_i jLE_v jLE_c ⟨rfl, rfl⟩ (n := 0) ⟨rfl, by decide, by decide, by decide +kernel⟩ ⟨by show 2 + 1 ≤ R.frames; omega, by show 8 + (1 + 11) + 80 ≤ R.locals; omega⟩ rfl hl.1 (rest := S.map (gcv G ad)) (by omega) hd ⟨by rw [hRm.1]; exact hle.1, by rw [hRm.2]; exact hle.2⟩ rfl ?_
    have k := h hn1 ad Hp locs ls hR hS hl hwl (fun x hx => by
      rcases List.mem_cons.mp hx with rfl | hx
      · exact ⟨by show -2147483648 ≤ slen a; omega, by show slen a < 2147483648; omega⟩
      · exact hws' x hx)
    rw [hpc] at k
    rw [slnL_at hw, on_len hs0]
    exact k
  | [], h, _ => exact h.elim
  | .inl _ :: _, h, _ => exact h.elim
  | .inr (.inl _) :: _, h, _ => exact h.elim
  | .inr (.inr (none, _)) :: _, h, _ => exact h.elim
theorem so_62 (F : Fx G M p l R s m args meth c) (hc : cdM M n = (62, z0, p0, q0, r0)) (h : stA C M P X 62 z0 p0 q0 r0 n L S I H c' s' (Snd G M p l e R s m args below meth c Qf)) : Snd G M p l e R s m args below meth c Qf (n, L, S, (I, H), c', s') := by
  intro hn ad Hp locs ls hR hS hl hwl hws
  obtain ⟨T, hx, hb, hml, hown, hts, hE, hRm, hRf, hM, hnm, hbs, hst, hlk, hrt, hex⟩ := id F
  obtain ⟨hd, hpc, hso, hk⟩ := dk_of T hM hn hc rfl
  have hn1 : n + 1 < szM M := Nat.le_of_ble_eq_true hk
  simp only [iOf] at hd hpc
  have hin := of_decide_eq_true hso
  match S, h, hws with
  | .inl i :: .inr (.inr (some a, k9)) :: S, h, hws =>
    by_cases hk9 : k9 = 100
    case neg =>
      have q' : (match (.inl i :: .inr (.inr (some a, k9)) :: S : List qV) with | .inl i :: .inr (.inr (some a, 100)) :: S => ((0 ≤ i ∧ i < slen a) ∧ c' ≤ mcM M ∧ s' ≤ msM M) ∧ (bif Nat.ble S.length 4 then Snd G M p l e R s m args below meth c Qf (n + 1, L, vi (sch a i) :: S, (I, H), c', s') else False) | _ => False) := h
      split at q'
      · rename_i heq
        cases heq
        exact absurd rfl hk9
      · exact q'.elim
    subst hk9
    have hi : inR i := hws _ List.mem_cons_self
    have hw : a < nstr := hws _ (List.mem_cons_of_mem _ List.mem_cons_self)
    have hws' : ∀ x ∈ S, wv H x := fun x hx => hws x (List.mem_cons_of_mem _ (List.mem_cons_of_mem _ hx))
    obtain ⟨⟨⟨h0, h1⟩, hle⟩, h⟩ := (show ((0 ≤ i ∧ i < slen a) ∧ c' ≤ mcM M ∧ s' ≤ msM M) ∧ (bif Nat.ble S.length 4 then Snd G M p l e R s m args below meth c Qf (n + 1, L, vi (sch a i) :: S, (I, H), c', s') else False) from h)
    obtain ⟨h4, h⟩ := bf_get h
    have h4 := Nat.le_of_ble_eq_true h4
    have hcs := cat_le G ad S
    obtain ⟨⟨hs0, hs1⟩, hsl, hsb⟩ := sl_at hw
    have hsr : inR (slen a) := ⟨by omega, by omega⟩
    have hbm : 0 ≤ sch a i ∧ sch a i < 128 := by
      unfold sch
      have hlt : i.toNat < (sbyt a).length := by omega
      rw [List.getD_eq_getElem?_getD, List.getElem?_eq_getElem hlt]
      exact hsb _ (List.getElem_mem hlt)
    obtain ⟨hv, hnr⟩ := chr_at hbm
    refine j_virt (G := G) (ch_met (l := l) hw (x := Int32.ofInt i) (b := Int32.ofInt (sch a i)) (by rw [← oi_0, oi_lt hi in0]; omega) (by rw [slnL_at hw, on_len hs0, oi_lt hi hsr]; exact h1) (by rw [slnL_at hw]; exact oi_in h0 hi (by omega)) (by rw [sbyL_at hw, oi_clamp h0 hi]; rfl) hv hnr) ⟨hx, hb, hml, hown, hts⟩ hE hS (vk_recv (i := 0) (hE.2.2.2.2.1.1 a hw) Nat.one_pos hS) (wd_ch _ hin) jCH_i jCH_v jCH_c ⟨rfl, rfl⟩ (n := 1) ⟨rfl, by decide, by decide, by decide +kernel⟩ ⟨by show 4 + 1 ≤ R.frames; omega, by show 8 + (2 + 11) + 160 ≤ R.locals; omega⟩ rfl hl.1 (rest := S.map (gcv G ad)) (by omega) hd ⟨by rw [hRm.1]; exact hle.1, by rw [hRm.2]; exact hle.2⟩ rfl ?_
    have k := h hn1 ad Hp locs ls hR hS hl hwl (fun x hx => by
      rcases List.mem_cons.mp hx with rfl | hx
      · exact ⟨by show -2147483648 ≤ sch a i; omega, by show sch a i < 2147483648; omega⟩
      · exact hws' x hx)
    rw [hpc] at k
    exact k
  | [], h, _ => exact h.elim
  | .inr _ :: _, h, _ => exact h.elim
  | .inl _ :: [], h, _ => exact h.elim
  | .inl _ :: .inl _ :: _, h, _ => exact h.elim
  | .inl _ :: .inr (.inl _) :: _, h, _ => exact h.elim
  | .inl _ :: .inr (.inr (none, _)) :: _, h, _ => exact h.elim
theorem rd_one {k q9 : Nat} (F : Fx G M p l R s m args meth c) (hI : SoundAt l d) (hRR : d + 1 + 20 ≤ R.frames ∧ 41 * (d + 1) + 300 ≤ R.locals) (hk11 : k < 11) (hq : q9 < nL_law) (hq0 : hnd q9 = []) (hq1 : 1 ≤ mxl q9) (wS : Cond.selects (rx k) rdx (yM q9) ∈ BIG) (wI : Cond.instanceMethod (yM q9) ∈ BIG) (h12 : clM M = 12) (hn : n < szM M) (hn1 : n + 1 < szM M) (hd : decode (bM M) (pcM M n) = .ok (.invokevirtual 76, 3)) (hpc : pcM M (n + 1) = pcM M n + 3)
    {a : Nat} (h : (c' + mcM q9 ≤ mcM M ∧ s' + msM q9 ≤ msM M) ∧ (bif Nat.ble S.length 4 then Call d q9 [vr (some a) k] (I, H) (fun v g => Snd G M p l e R s m args below meth c Qf (n + 1, L, v.toList ++ S, g, c' + mcM q9, s' + msM q9)) (fun _ _ => False) else False))
    {ad : Nat → Nat} {Hp : Heap} {locs : List Loc} {ls : Array Slot} (hR : Rl G ad (I, H) Hp) (hS : va_S (gA G) s.heap Hp locs) (hl : lv_has ls (mxl M) (lvl G ad L)) (hwl : ∀ i v, L.getD i none = some v → wv H v) (hw : wr H a k) (hws : ∀ x ∈ S, wv H x) :
    W p l e R s m args below meth c Hp locs c' s' Qf (F0 m (pcM M n) ls (gcv G ad (vr (some a) k) :: S.map (gcv G ad))) := by
  obtain ⟨T, hx, hb, hml, hown, hts, hE, hRm, hRf, hM, hnm, hbs, hst, hlk, hrt, hex⟩ := id F
  obtain ⟨⟨hcc, hss⟩, h⟩ := h
  obtain ⟨h4, h⟩ := bf_get h
  have h4 := Nat.le_of_ble_eq_true h4
  have hcs := cat_le G ad S
  obtain ⟨h3, hlt, hka, hcv⟩ := arr_of (G := G) (ad := ad) hw (by omega)
  obtain ⟨-, hini, hpl, hne, hpar, hcls, -, hmx⟩ := T.2.2.2.2.1 q9 hq
  have hroom : (rmM d q9).frames + 1 ≤ R.frames ∧ 8 + (mxl q9 + 11) + (rmM d q9).locals ≤ R.locals := by
    constructor
    · show d + 20 + 1 ≤ R.frames; omega
    · show 8 + (mxl q9 + 11) + (41 * d + 300) ≤ R.locals; omega
  have hw9 : wsM q9 = Cond.code (yM q9) (bM q9) (mxl q9) (rtM q9) :: BIG := by unfold wsM; rw [if_pos hq0]
  have hM0 := met_of (G := gW G ad H) (hI q9 hq G ad _ (I, H) _ (fun _ _ => False) h (fun v hv => by rw [List.mem_singleton] at hv; subst hv; exact hw) rfl hq1)
  rw [h12] at hown
  have cw := va_cwA (R := R) (s := s) (args := args) (own := cnm 12) (C := rx k) (owner := "PlateTown$Text") (index := 76) (x := rdx) (y := yM q9) (mc := mcM q9) (ms := msM q9) (rm := rmM d q9) 0 hts
    (big_ap (List.forall_mem_cons.mpr ⟨wd_r0, List.forall_mem_cons.mpr ⟨wd_r1, List.forall_mem_cons.mpr ⟨wS, List.forall_mem_cons.mpr ⟨wI, List.forall_mem_cons.mpr ⟨hini, fun _ q => nomatch q⟩⟩⟩⟩⟩) (ws_big T hq)) hw9 rfl rfl hE.2.2.2.2.2.2.2.1.1 ⟨by decide, by decide, by decide +kernel⟩ hroom
  rw [show gcv G ad (vr (some a) k) = .ref (ad a) from hcv]
  refine run_va (va_runU (g := F0 m (pcM M n) ls (.ref (ad a) :: S.map (gcv G ad))) (b := ad a) (As := []) (rest := S.map (gcv G ad)) ⟨hx, hb, hml, hown, hts⟩ hM0 cw ⟨PreQ.blind, recv_at hE hR hk11 h3 hlt hka, fun U hU hW => ⟨by show _ = #[gcv G ad (vr (some a) k)]; rw [show gcv G ad (vr (some a) k) = .ref (ad a) from hcv], hE.next hS hU hW, by rw [hU]; exact ⟨hR.1, hR.2.1, hR.2.2.1, hR.2.2.2.1, ext.rf⟩⟩⟩ rfl rfl hl.1 rfl (by show 2 * 0 + _ ≤ 8; omega) hd (by rw [hRm.1, hRm.2]; exact ⟨hcc, hss⟩)) hS hR ?_
  intro v g' ad' H1 locs1 k1 k2 k3 k4 k5
  rw [← hpc]
  exact snd_back k1 hn1 k2 k3 k4 k5 hl hwl hws
theorem so_67 (F : Fx G M p l R s m args meth c) (hI : SoundAt l d) (hRR : d + 1 + 20 ≤ R.frames ∧ 41 * (d + 1) + 300 ≤ R.locals) (hc : cdM M n = (67, z0, p0, q0, r0)) (h : stA (Call d) M P X 67 z0 p0 q0 r0 n L S I H c' s' (Snd G M p l e R s m args below meth c Qf)) : Snd G M p l e R s m args below meth c Qf (n, L, S, (I, H), c', s') := by
  intro hn ad Hp locs ls hR hS hl hwl hws
  obtain ⟨T, hx, hb, hml, hown, hts, hE, hRm, hRf, hM, hnm, hbs, hst, hlk, hrt, hex⟩ := id F
  obtain ⟨hd, hpc, hso, hk⟩ := dk_of T hM hn hc rfl
  have hn1 : n + 1 < szM M := Nat.le_of_ble_eq_true hk
  simp only [iOf] at hd hpc
  unfold sok at hso
  simp only [Bool.and_eq_true, decide_eq_true_eq] at hso
  have h12 := Nat.eq_of_beq_eq_true hso.1
  have hz := hso.2
  subst hz
  match S, h, hws with
  | .inr (.inr (some a, k)) :: S, h, hws =>
    have hw : wr H a k := hws _ List.mem_cons_self
    have hws' : ∀ x ∈ S, wv H x := fun x hx => hws x (List.mem_cons_of_mem _ hx)
    rw [List.map_cons]
    match k, h, hw with
    | 3, h, hw => exact rd_one F hI hRR (by decide) (by decide) rfl (by decide) wd_rs3 wd_ri3 h12 hn hn1 hd hpc h hR hS hl hwl hw hws'
    | 7, h, hw => exact rd_one F hI hRR (by decide) (by decide) rfl (by decide) wd_rs7 wd_ri7 h12 hn hn1 hd hpc h hR hS hl hwl hw hws'
    | 8, h, hw => exact rd_one F hI hRR (by decide) (by decide) rfl (by decide) wd_rs8 wd_ri8 h12 hn hn1 hd hpc h hR hS hl hwl hw hws'
    | 0, h, _ => exact h.elim
    | 1, h, _ => exact h.elim
    | 2, h, _ => exact h.elim
    | 4, h, _ => exact h.elim
    | 5, h, _ => exact h.elim
    | 6, h, _ => exact h.elim
    | k + 9, h, _ => exact h.elim
  | [], h, _ => exact h.elim
  | .inl _ :: _, h, _ => exact h.elim
  | .inr (.inl _) :: _, h, _ => exact h.elim
  | .inr (.inr (none, _)) :: _, h, _ => exact h.elim
end OPS
