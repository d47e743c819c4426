/-! steps on arrays, new cells -/
theorem wd_sx : Cond.fieldLink "PlateTown$Plate" 9 "PlateTown$Plate" "STEPS_X" "[I" ∈ BIG := big_of 560 (by decide +kernel) (by decide +kernel)
theorem wd_sy : Cond.fieldLink "PlateTown$Plate" 15 "PlateTown$Plate" "STEPS_Y" "[I" ∈ BIG := big_of 565 (by decide +kernel) (by decide +kernel)
theorem wd_ai : Cond.arrayClass .int ∈ BIG := big_of 133 (by decide +kernel) (by decide +kernel)
theorem wd_al : Cond.arrayClass .long ∈ BIG := big_of 1901 (by decide +kernel) (by decide +kernel)
theorem wd_cl : Cond.classLink "PlateTown$Town" 51 "[I" ∈ BIG := big_of 162 (by decide +kernel) (by decide +kernel)
theorem on_nat (n : Nat) : Int32.ofNat n = Int32.ofInt (n : Int) := rfl
theorem on_len {z : Int} (h : 0 ≤ z) : Int32.ofNat z.toNat = Int32.ofInt z := by rw [on_nat, Int.toNat_of_nonneg h]
theorem kAr_or {k : Nat} (h : kAr k = true) : k = 11 ∨ k = 101 ∨ k = 102 := by
  unfold kAr at h
  simp only [Bool.or_eq_true] at h
  rcases h with h | h | h
  · exact Or.inl (Nat.eq_of_beq_eq_true h)
  · exact Or.inr (Or.inl (Nat.eq_of_beq_eq_true h))
  · exact Or.inr (Or.inr (Nat.eq_of_beq_eq_true h))
theorem in_len {z : Int} (h : 0 ≤ z ∧ z ≤ 100000) : inR z := ⟨by omega, by omega⟩
theorem fm_congr {α β : Type} {f g : α → Option β} : ∀ l : List α, (∀ x ∈ l, f x = g x) → l.filterMap f = l.filterMap g
  | [], _ => rfl
  | x :: l, h => by
    rw [List.filterMap_cons, List.filterMap_cons, h x List.mem_cons_self, fm_congr l (fun y hy => h y (List.mem_cons_of_mem _ hy))]
theorem lvl_ext {G : qG} {ad ad' : Nat → Nat} {H H' : qS} {L : List (Option qV)} (h : ext ad ad' H H') (hw : ∀ i v, L.getD i none = some v → wv H v) : lvl G ad' L = lvl G ad L := by
  unfold lvl
  apply fm_congr
  intro i _
  cases hv : L.getD i none with
  | none => rfl
  | some v =>
    simp only [Option.map_some]
    show some (i, gcv G ad' v) = some (i, gcv G ad v)
    rw [show gcv G ad' v = gcv G ad v from cv.ext h (hw i v hv)]
theorem map_ext {G : qG} {ad ad' : Nat → Nat} {H H' : qS} {S : List qV} (h : ext ad ad' H H') (hw : ∀ v ∈ S, wv H v) : S.map (gcv G ad') = S.map (gcv G ad) :=
  List.map_congr_left (fun v hv => cv.ext h (hw v hv))
/-- a cell made: the heap holds the new picture -/
theorem Rl.new {G : qG} {ad : Nat → Nat} {I : qI} {H : qS} {Hp H1 : Heap} {q k : Nat} {n : Int} {f : Int → Int} {en : va_E} (hR : Rl G ad (I, H) Hp) (hn : 0 ≤ n ∧ n ≤ 100000) (hk : k < 14) (hf : ∀ j, inR (f j)) (he : gcl G (up1 ad (H.2.2.2 + 3) q) (nwI I H f) (nwS H n k) (H.2.2.2 + 3) = en)
    (hP : va_P G.1 vwCl (gpl G ad (I, H) ++ [(q, en)]) H1) (hD : va_D (gA G) (gpl G ad (I, H) ++ [(q, en)])) (hsz : G.2.2.1 ≤ H1.size) : Rl G (up1 ad (H.2.2.2 + 3) q) (nwI I H f, nwS H n k) H1 := by
  have e := pool_new (G := G) (ad := ad) (I := I) (I' := nwI I H f) (H := H) (n := n) (k := k) (q := q) hR.2.2.1 (fun b hb => by unfold nwI up1; rw [if_neg hb])
  rw [he] at e
  exact ⟨by rw [e]; exact hP, by rw [e]; exact hD, hR.2.2.1.new hn hk hf, hsz, hR.2.2.2.2.tr ext_new⟩
theorem up1_eq {α : Type} {f : Nat → α} {a : Nat} {v : α} : up1 f a v a = v := by unfold up1; rw [if_pos rfl]
section NEW
variable {G : qG} {M : Nat} {p : Program} {l : Launch} {e : Env} {R : Room} {s : State} {m : MethodId} {args : Array Value} {below : List Frame} {meth : Method} {c : Code} {Qf : State → Prop}
theorem snd_new {n' : Nat} {L : List (Option qV)} {S : List qV} {I : qI} {H : qS} {c1 s1 q k : Nat} {nn : Int} {f : Int → Int} {ad : Nat → Nat} {Hp H1 : Heap} {locs : List Loc} {ls : Array Slot} {en : va_E} (h : Snd G M p l e R s m args below meth c Qf (n', L, vr (some (H.2.2.2 + 3)) k :: S, (nwI I H f, nwS H nn k), c1, s1)) (hn : n' < szM M)
    (hR : Rl G ad (I, H) Hp) (hl : lv_has ls (mxl M) (lvl G ad L)) (hwl : ∀ i v, L.getD i none = some v → wv H v) (hws : ∀ v ∈ S, wv H v) (hb : 0 ≤ nn ∧ nn ≤ 100000) (hk : k < 14) (hf : ∀ j, inR (f j)) (he : gcl G (up1 ad (H.2.2.2 + 3) q) (nwI I H f) (nwS H nn k) (H.2.2.2 + 3) = en)
    (hP : va_P G.1 vwCl (gpl G ad (I, H) ++ [(q, en)]) H1) (hD : va_D (gA G) (gpl G ad (I, H) ++ [(q, en)])) (hbs : G.2.2.1 ≤ s.heap.size) (hS1 : va_S (gA G) s.heap H1 locs) :
    W p l e R s m args below meth c H1 locs c1 s1 Qf (F0 m (pcM M n') ls (.ref q :: S.map (gcv G ad))) := by
  have hx : ext ad (up1 ad (H.2.2.2 + 3) q) H (nwS H nn k) := ext_new
  have e1 : (vr (some (H.2.2.2 + 3)) k :: S).map (gcv G (up1 ad (H.2.2.2 + 3) q)) = .ref q :: S.map (gcv G ad) := by
    rw [List.map_cons, map_ext hx hws]
    congr 1
    show Value.ref (if k = 100 then _ else if k = 101 ∨ k = 102 then _ else up1 ad (H.2.2.2 + 3) q (H.2.2.2 + 3)) = _
    rw [if_neg (by omega), if_neg (by omega), up1_eq]
  rw [← e1]
  refine h hn _ H1 locs ls (hR.new hb hk hf he hP hD (Nat.le_trans hbs hS1.1)) hS1 (by rw [lvl_ext hx hwl]; exact hl) (fun i v hv => (hwl i v hv).ext hx) (fun v hv => ?_)
  rcases List.mem_cons.mp hv with rfl | hv
  · show wr (nwS H nn k) _ k
    unfold wr
    rw [if_neg (by omega), if_neg (by omega), if_neg (by omega)]
    exact ⟨by omega, by show H.2.2.2 + 3 < H.2.2.2 + 1 + 3; omega, up1_eq⟩
  · exact (hws v hv).ext hx
end NEW
section OPS
variable {G : qG} {M : Nat} {p : Program} {l : Launch} {e : Env} {R : Room} {s : State} {m : MethodId} {args : Array Value} {below : List Frame} {meth : Method} {c : Code} {Qf : State → Prop} {C : qC} {P : Option qV → qH → Prop} {X : Nat → qH → Prop}
variable {n : Nat} {z0 : Int} {p0 q0 r0 : Nat} {L : List (Option qV)} {S : List qV} {I : qI} {H : qS} {c' s' : Nat}
theorem so_16 (F : Fx G M p l R s m args meth c) (hc : cdM M n = (16, z0, p0, q0, r0)) (h : stA C M P X 16 z0 p0 q0 r0 n L S I H c' s' (Snd G M p l e R s m args below meth c Qf)) : Snd G M p l e R s m args below meth c Qf (n, L, S, (I, H), c', s') := by
  intro hn ad Hp locs ls hR hS hl hwl hws
  obtain ⟨T, hx, hb, hml, hown, hts, hE, hRm, hRf, hM, hnm, hbs, -⟩ := F
  obtain ⟨hd, hpc, hso, hk⟩ := dk_of T hM hn hc rfl
  have hn1 : n + 1 < szM M := Nat.le_of_ble_eq_true hk
  simp only [iOf] at hd hpc
  unfold sok at hso
  simp only [Bool.and_eq_true, Bool.or_eq_true] at hso
  obtain ⟨h11, h9⟩ := hso
  have h11 := Nat.eq_of_beq_eq_true h11
  replace h : Snd G M p l e R s m args below meth c Qf (n + 1, L, vr (some p0) 101 :: S, (I, H), c', s') := h
  rw [h11] at hown
  rcases h9 with ⟨e1, e2⟩ | ⟨e1, e2⟩
  · cases Nat.eq_of_beq_eq_true e1
    cases Nat.eq_of_beq_eq_true e2
    refine va_gets hx hb hE.2.1.1 hS hown (hts _ wd_sx) (fun _ h9 => h9) hd ?_
    rw [← hpc]
    refine h hn1 ad Hp locs ls hR hS hl hwl (fun x hx => ?_)
    rcases List.mem_cons.mp hx with rfl | hx
    · show (0 : Nat) < 2; omega
    · exact hws x hx
  · cases Nat.eq_of_beq_eq_true e1
    cases Nat.eq_of_beq_eq_true e2
    refine va_gets hx hb hE.2.2.1.1 hS hown (hts _ wd_sy) (fun _ h9 => h9) hd ?_
    rw [← hpc]
    refine h hn1 ad Hp locs ls hR hS hl hwl (fun x hx => ?_)
    rcases List.mem_cons.mp hx with rfl | hx
    · show (1 : Nat) < 2; omega
    · exact hws x hx
theorem so_17 (F : Fx G M p l R s m args meth c) (hc : cdM M n = (17, z0, p0, q0, r0)) (h : stA C M P X 17 z0 p0 q0 r0 n L S I H c' s' (Snd G M p l e R s m args below meth c Qf)) : Snd G M p l e R s m args below meth c Qf (n, L, S, (I, H), c', s') := by
  intro hn ad Hp locs ls hR hS hl hwl hws
  obtain ⟨T, hx, hb, hml, hown, hts, hE, hRm, hRf, hM, hnm, hbs, -⟩ := F
  obtain ⟨hd, hpc, hso, hk⟩ := dk_of T hM hn hc rfl
  have hn1 : n + 1 < szM M := Nat.le_of_ble_eq_true hk
  simp only [iOf] at hd hpc
  match S, h, hws with
  | .inr (.inr (some a, k)) :: S, h, hws =>
    have hw : wr H a k := hws _ List.mem_cons_self
    have hws' : ∀ x ∈ S, wv H x := fun x hx => hws x (List.mem_cons_of_mem _ hx)
    replace h : (kAr k = true ∨ k = 12) ∧ Snd G M p l e R s m args below meth c Qf (n + 1, L, vi (H.2.1 a) :: S, (I, H), c', s') := h
    have hz := hR.2.2.1.2.2.2.1 a
    have fin : W p l e R s m args below meth c Hp locs c' s' Qf (F0 m (pcM M n + 1) ls (.int (Int32.ofInt (H.2.1 a)) :: S.map (gcv G ad))) := by
      rw [← hpc]
      refine h.2 hn1 ad Hp locs ls hR hS hl hwl (fun x hx => ?_)
      rcases List.mem_cons.mp hx with rfl | hx
      · exact in_len hz
      · exact hws' x hx
    rw [List.map_cons]
    have hkk : k = 11 ∨ k = 101 ∨ k = 102 ∨ k = 12 := by
      rcases h.1 with q | q
      · rcases kAr_or q with q | q | q
        · exact Or.inl q
        · exact Or.inr (Or.inl q)
        · exact Or.inr (Or.inr (Or.inl q))
      · exact Or.inr (Or.inr (Or.inr q))
    rcases hkk with rfl | rfl | rfl | rfl
    · obtain ⟨h3, hlt, hka, hcv⟩ := arr_of (G := G) (ad := ad) hw (by decide)
      rw [show gcv G ad (.inr (.inr (some a, 11))) = .ref (ad a) from hcv]
      exact va_alen hx hb hE.1 hR.1 (a - 3) 0 ((pool_get h3 hlt).trans (by rw [gcl_int hka])) rfl (on_len hz.1) hd fin
    · have ha : a < 2 := hw
      rw [show gcv G ad (.inr (.inr (some a, 101))) = .ref (G.2.2.2.2.2.1 a) from rfl]
      rcases (show a = 0 ∨ a = 1 by omega) with rfl | rfl
      · exact va_tlen hx hb hE.2.1.2 hS (by rw [hR.2.2.1.2.2.2.2.2.1]; rfl) hd fin
      · exact va_tlen hx hb hE.2.2.1.2 hS (by rw [hR.2.2.1.2.2.2.2.2.2.1]; rfl) hd fin
    · have ha : a = 2 := hw
      subst ha
      rw [show gcv G ad (.inr (.inr (some 2, 102))) = .ref (G.2.2.2.2.2.1 2) from rfl]
      refine va_slen hx hb hE.2.2.2.1.1 hE.2.2.2.1.2.1 hE.2.2.2.1.2.2 hS hd ?_
      rw [hR.2.2.1.2.2.2.2.2.2.2.1] at fin
      exact fin
    · obtain ⟨h3, hlt, hka, hcv⟩ := arr_of (G := G) (ad := ad) hw (by decide)
      rw [show gcv G ad (.inr (.inr (some a, 12))) = .ref (ad a) from hcv]
      exact va_alen hx hb hE.1 hR.1 (a - 3) 1 ((pool_get h3 hlt).trans (by rw [gcl_row hka])) rfl (on_len hz.1) hd fin
  | [], h, _ => exact h.elim
  | .inl _ :: _, h, _ => exact h.elim
  | .inr (.inl _) :: _, h, _ => exact h.elim
  | .inr (.inr (none, _)) :: _, h, _ => exact h.elim
theorem so_18 (F : Fx G M p l R s m args meth c) (hc : cdM M n = (18, z0, p0, q0, r0)) (h : stA C M P X 18 z0 p0 q0 r0 n L S I H c' s' (Snd G M p l e R s m args below meth c Qf)) : Snd G M p l e R s m args below meth c Qf (n, L, S, (I, H), c', s') := by
  intro hn ad Hp locs ls hR hS hl hwl hws
  obtain ⟨T, hx, hb, hml, hown, hts, hE, hRm, hRf, hM, hnm, hbs, -⟩ := F
  obtain ⟨hd, hpc, hso, hk⟩ := dk_of T hM hn hc rfl
  have hn1 : n + 1 < szM M := Nat.le_of_ble_eq_true hk
  simp only [iOf] at hd hpc
  match S, h, hws with
  | .inl i :: .inr (.inr (some a, k)) :: S, h, hws =>
    have hi : inR i := hws _ List.mem_cons_self
    have hw : wr H a k := hws _ (List.mem_cons_of_mem _ List.mem_cons_self)
    have hws' : ∀ x ∈ S, wv H x := fun x hx => hws x (List.mem_cons_of_mem _ (List.mem_cons_of_mem _ hx))
    replace h : (kAr k = true ∧ 0 ≤ i ∧ i < H.2.1 a) ∧ Snd G M p l e R s m args below meth c Qf (n + 1, L, vi (I a i) :: S, (I, H), c', s') := h
    obtain ⟨⟨hkk, h0, hi1⟩, h⟩ := h
    have hin : vp_in (Int32.ofInt i) (H.2.1 a).toNat := oi_in h0 hi (by omega)
    have hcl : (Int32.ofInt i).toNatClampNeg = i.toNat := oi_clamp h0 hi
    have ez : ((i.toNat : Nat) : Int) = i := Int.toNat_of_nonneg h0
    have fin : inR (I a i) → W p l e R s m args below meth c Hp locs c' s' Qf (F0 m (pcM M n + 1) ls (.int (Int32.ofInt (I a i)) :: S.map (gcv G ad))) := by
      intro hr
      rw [← hpc]
      refine h hn1 ad Hp locs ls hR hS hl hwl (fun x hx => ?_)
      rcases List.mem_cons.mp hx with rfl | hx
      · exact hr
      · exact hws' x hx
    rw [List.map_cons, List.map_cons, show gcv G ad (.inl i) = .int (Int32.ofInt i) from rfl]
    rcases kAr_or hkk with rfl | rfl | rfl
    · obtain ⟨h3, hlt, hka, hcv⟩ := arr_of (G := G) (ad := ad) hw (by decide)
      rw [show gcv G ad (.inr (.inr (some a, 11))) = .ref (ad a) from hcv]
      refine va_iald hx hb hE.1 hR.1 (a - 3) 0 ((pool_get h3 hlt).trans (by rw [gcl_int hka])) rfl hin hd ?_
      rw [hcl, ez]
      exact fin (hR.2.2.1.2.1 a i (by rw [hka]; rfl))
    · have ha : a < 2 := hw
      rw [show gcv G ad (.inr (.inr (some a, 101))) = .ref (G.2.2.2.2.2.1 a) from rfl]
      rcases (show a = 0 ∨ a = 1 by omega) with rfl | rfl
      · have e8 : H.2.1 0 = 8 := hR.2.2.1.2.2.2.2.2.1
        rw [e8] at hi1 hin
        refine va_ti hx hb hE.2.1.2 hS hin rfl hd ?_
        have e9 : I 0 i = stX i.toNat := by
          have e7 := hR.2.2.1.2.2.2.2.2.2.2.2.1 i.toNat (by omega)
          rwa [ez] at e7
        rw [hcl, ← e9]
        exact fin (hR.2.2.1.2.1 0 i (by rw [hR.2.2.1.2.2.2.2.2.2.2.2.2.2.2.1]; rfl))
      · have e8 : H.2.1 1 = 8 := hR.2.2.1.2.2.2.2.2.2.1
        rw [e8] at hi1 hin
        refine va_ti hx hb hE.2.2.1.2 hS hin rfl hd ?_
        have e9 : I 1 i = stY i.toNat := by
          have e7 := hR.2.2.1.2.2.2.2.2.2.2.2.2.1 i.toNat (by omega)
          rwa [ez] at e7
        rw [hcl, ← e9]
        exact fin (hR.2.2.1.2.1 1 i (by rw [hR.2.2.1.2.2.2.2.2.2.2.2.2.2.2.2.1]; rfl))
    · have ha : a = 2 := hw
      subst ha
      rw [show gcv G ad (.inr (.inr (some 2, 102))) = .ref (G.2.2.2.2.2.1 2) from rfl]
      have e8 : H.2.1 2 = (G.2.2.2.1 : Int) := hR.2.2.1.2.2.2.2.2.2.2.1
      rw [e8] at hi1 hin
      refine va_sld hx hb hE.2.2.2.1.1 hE.2.2.2.1.2.1 hE.2.2.2.1.2.2 hS hin hd ?_
      have e9 : I 2 i = (G.2.2.2.2.1 i.toNat).toInt := by
        have e7 := hR.2.2.1.2.2.2.2.2.2.2.2.2.2.1 i.toNat (by omega)
        rwa [ez] at e7
      have f9 := fin (hR.2.2.1.2.1 2 i (by rw [hR.2.2.1.2.2.2.2.2.2.2.2.2.2.2.2.2.1]; rfl))
      rw [e9, oi_as] at f9
      rw [hcl]
      exact f9
  | [], h, _ => exact h.elim
  | .inl _ :: [], h, _ => exact h.elim
  | .inl _ :: .inl _ :: _, h, _ => exact h.elim
  | .inl _ :: .inr (.inl _) :: _, h, _ => exact h.elim
  | .inl _ :: .inr (.inr (none, _)) :: _, h, _ => exact h.elim
  | .inr _ :: _, h, _ => exact h.elim
theorem so_20 (F : Fx G M p l R s m args meth c) (hc : cdM M n = (20, z0, p0, q0, r0)) (h : stA C M P X 20 z0 p0 q0 r0 n L S I H c' s' (Snd G M p l e R s m args below meth c Qf)) : Snd G M p l e R s m args below meth c Qf (n, L, S, (I, H), c', s') := by
  intro hn ad Hp locs ls hR hS hl hwl hws
  obtain ⟨T, hx, hb, hml, hown, hts, hE, hRm, hRf, hM, hnm, hbs, -⟩ := F
  obtain ⟨hd, hpc, hso, hk⟩ := dk_of T hM hn hc rfl
  have hn1 : n + 1 < szM M := Nat.le_of_ble_eq_true hk
  simp only [iOf] at hd hpc
  match S, h, hws with
  | .inl i :: .inr (.inr (some a, k)) :: S, h, hws =>
    have hi : inR i := hws _ List.mem_cons_self
    have hw : wr H a k := hws _ (List.mem_cons_of_mem _ List.mem_cons_self)
    have hws' : ∀ x ∈ S, wv H x := fun x hx => hws x (List.mem_cons_of_mem _ (List.mem_cons_of_mem _ hx))
    replace h : (k = 13 ∧ 0 ≤ i ∧ i < H.2.1 a) ∧ Snd G M p l e R s m args below meth c Qf (n + 1, L, vl (I a i) :: S, (I, H), c', s') := h
    obtain ⟨⟨hkk, h0, hi1⟩, h⟩ := h
    subst hkk
    have hin : vp_in (Int32.ofInt i) (H.2.1 a).toNat := oi_in h0 hi (by omega)
    have hcl : (Int32.ofInt i).toNatClampNeg = i.toNat := oi_clamp h0 hi
    have ez : ((i.toNat : Nat) : Int) = i := Int.toNat_of_nonneg h0
    obtain ⟨h3, hlt, hka, hcv⟩ := arr_of (G := G) (ad := ad) hw (by decide)
    rw [List.map_cons, List.map_cons, show gcv G ad (.inl i) = .int (Int32.ofInt i) from rfl, show gcv G ad (.inr (.inr (some a, 13))) = .ref (ad a) from hcv]
    refine va_lald hx hb hE.1 hR.1 (a - 3) 2 ((pool_get h3 hlt).trans (by rw [gcl_lng hka])) rfl hin hd ?_
    rw [hcl, ez, ← hpc]
    refine h hn1 ad Hp locs ls hR hS hl hwl (fun x hx => ?_)
    rcases List.mem_cons.mp hx with rfl | hx
    · exact hR.2.2.1.1 a i
    · exact hws' x hx
  | [], h, _ => exact h.elim
  | .inl _ :: [], h, _ => exact h.elim
  | .inl _ :: .inl _ :: _, h, _ => exact h.elim
  | .inl _ :: .inr (.inl _) :: _, h, _ => exact h.elim
  | .inl _ :: .inr (.inr (none, _)) :: _, h, _ => exact h.elim
  | .inr _ :: _, h, _ => exact h.elim
theorem so_22 (F : Fx G M p l R s m args meth c) (hc : cdM M n = (22, z0, p0, q0, r0)) (h : stA C M P X 22 z0 p0 q0 r0 n L S I H c' s' (Snd G M p l e R s m args below meth c Qf)) : Snd G M p l e R s m args below meth c Qf (n, L, S, (I, H), c', s') := by
  intro hn ad Hp locs ls hR hS hl hwl hws
  obtain ⟨T, hx, hb, hml, hown, hts, hE, hRm, hRf, hM, hnm, hbs, -⟩ := F
  obtain ⟨hd, hpc, hso, hk⟩ := dk_of T hM hn hc rfl
  have hn1 : n + 1 < szM M := Nat.le_of_ble_eq_true hk
  simp only [iOf] at hd hpc
  match S, h, hws with
  | .inl i :: .inr (.inr (some a, k)) :: S, h, hws =>
    have hi : inR i := hws _ List.mem_cons_self
    have hw : wr H a k := hws _ (List.mem_cons_of_mem _ List.mem_cons_self)
    have hws' : ∀ x ∈ S, wv H x := fun x hx => hws x (List.mem_cons_of_mem _ (List.mem_cons_of_mem _ hx))
    replace h : (k = 12 ∧ 0 ≤ i ∧ i < H.2.1 a) ∧ Snd G M p l e R s m args below meth c Qf (n + 1, L, vr (H.1 a i) 11 :: S, (I, H), c', s') := h
    obtain ⟨⟨hkk, h0, hi1⟩, h⟩ := h
    subst hkk
    have hin : vp_in (Int32.ofInt i) (H.2.1 a).toNat := oi_in h0 hi (by omega)
    have hcl : (Int32.ofInt i).toNatClampNeg = i.toNat := oi_clamp h0 hi
    have ez : ((i.toNat : Nat) : Int) = i := Int.toNat_of_nonneg h0
    obtain ⟨h3, hlt, hka, hcv⟩ := arr_of (G := G) (ad := ad) hw (by decide)
    rw [List.map_cons, List.map_cons, show gcv G ad (.inl i) = .int (Int32.ofInt i) from rfl, show gcv G ad (.inr (.inr (some a, 12))) = .ref (ad a) from hcv]
    refine rw_aald hx hb hE.1 hR.1 (a - 3) 1 ((pool_get h3 hlt).trans (by rw [gcl_row hka])) rfl hin hd ?_
    have key : va_rf ((H.1 a i).map ad) = gcv G ad (vr (H.1 a i) 11) ∧ wv H (vr (H.1 a i) 11) := by
      cases hb9 : H.1 a i with
      | none => exact ⟨rfl, rfl⟩
      | some b =>
        obtain ⟨w1, w2, w3⟩ := hR.2.2.1.2.2.1 a i b h3 hlt hb9
        have w3 : H.2.2.1 b = 11 := by
          have w4 : H.2.2.1 b = fkd (H.2.2.1 a) i := w3
          rw [w4, hka]; rfl
        have w5 : wr H b 11 := by unfold wr; rw [if_neg (by omega), if_neg (by omega), if_neg (by omega)]; exact ⟨w1, w2, w3⟩
        exact ⟨(arr_of w5 (by decide)).2.2.2.symm, w5⟩
    rw [hcl, ez, key.1, ← hpc]
    refine h hn1 ad Hp locs ls hR hS hl hwl (fun x hx => ?_)
    rcases List.mem_cons.mp hx with rfl | hx
    · exact key.2
    · exact hws' x hx
  | [], h, _ => exact h.elim
  | .inl _ :: [], h, _ => exact h.elim
  | .inl _ :: .inl _ :: _, h, _ => exact h.elim
  | .inl _ :: .inr (.inl _) :: _, h, _ => exact h.elim
  | .inl _ :: .inr (.inr (none, _)) :: _, h, _ => exact h.elim
  | .inr _ :: _, h, _ => exact h.elim
theorem so_19 (F : Fx G M p l R s m args meth c) (hc : cdM M n = (19, z0, p0, q0, r0)) (h : stA C M P X 19 z0 p0 q0 r0 n L S I H c' s' (Snd G M p l e R s m args below meth c Qf)) : Snd G M p l e R s m args below meth c Qf (n, L, S, (I, H), c', s') := by
  intro hn ad Hp locs ls hR hS hl hwl hws
  obtain ⟨T, hx, hb, hml, hown, hts, hE, hRm, hRf, hM, hnm, hbs, -⟩ := F
  obtain ⟨hd, hpc, hso, hk⟩ := dk_of T hM hn hc rfl
  have hn1 : n + 1 < szM M := Nat.le_of_ble_eq_true hk
  simp only [iOf] at hd hpc
  match S, h, hws with
  | .inl v :: .inl i :: .inr (.inr (some a, k)) :: S, h, hws =>
    have hv : inR v := hws _ List.mem_cons_self
    have hi : inR i := hws _ (List.mem_cons_of_mem _ List.mem_cons_self)
    have hw : wr H a k := hws _ (List.mem_cons_of_mem _ (List.mem_cons_of_mem _ List.mem_cons_self))
    have hws' : ∀ x ∈ S, wv H x := fun x hx => hws x (List.mem_cons_of_mem _ (List.mem_cons_of_mem _ (List.mem_cons_of_mem _ hx)))
    replace h : (k = 11 ∧ 0 ≤ i ∧ i < H.2.1 a) ∧ Snd G M p l e R s m args below meth c Qf (n + 1, L, S, (upI I a i v, H), c', s') := h
    obtain ⟨⟨hkk, h0, hi1⟩, h⟩ := h
    subst hkk
    have hin : vp_in (Int32.ofInt i) (H.2.1 a).toNat := oi_in h0 hi (by omega)
    have hcl : (Int32.ofInt i).toNatClampNeg = i.toNat := oi_clamp h0 hi
    obtain ⟨h3, hlt, hka, hcv⟩ := arr_of (G := G) (ad := ad) hw (by decide)
    rw [List.map_cons, List.map_cons, List.map_cons, show gcv G ad (.inl v) = .int (Int32.ofInt v) from rfl, show gcv G ad (.inl i) = .int (Int32.ofInt i) from rfl, show gcv G ad (.inr (.inr (some a, 11))) = .ref (ad a) from hcv]
    refine va_iast hx hb hE.1 hR.1 hR.2.1 hS (a - 3) 0 ((pool_get h3 hlt).trans (by rw [gcl_int hka])) rfl hin hd (fun H1 locs1 hP1 hD1 hS1 => ?_)
    rw [hcl] at hP1 hD1
    rw [← hpc]
    exact h hn1 ad H1 locs1 ls (hR.put (g' := (upI I a i v, H)) h3 hlt rfl (fun b hb9 => gcl_I (upI_ne hb9)) (ecl_putA hka h0) (hR.2.2.1.upI h3 (inR_L hv) (fun _ => hv)) hP1 hD1 (Nat.le_trans hbs hS1.1)) hS1 hl hwl hws'
  | [], h, _ => exact h.elim
  | .inr _ :: _, h, _ => exact h.elim
  | .inl _ :: [], h, _ => exact h.elim
  | .inl _ :: .inr _ :: _, h, _ => exact h.elim
  | .inl _ :: .inl _ :: [], h, _ => exact h.elim
  | .inl _ :: .inl _ :: .inl _ :: _, h, _ => exact h.elim
  | .inl _ :: .inl _ :: .inr (.inl _) :: _, h, _ => exact h.elim
  | .inl _ :: .inl _ :: .inr (.inr (none, _)) :: _, h, _ => exact h.elim
theorem so_21 (F : Fx G M p l R s m args meth c) (hc : cdM M n = (21, z0, p0, q0, r0)) (h : stA C M P X 21 z0 p0 q0 r0 n L S I H c' s' (Snd G M p l e R s m args below meth c Qf)) : Snd G M p l e R s m args below meth c Qf (n, L, S, (I, H), c', s') := by
  intro hn ad Hp locs ls hR hS hl hwl hws
  obtain ⟨T, hx, hb, hml, hown, hts, hE, hRm, hRf, hM, hnm, hbs, -⟩ := F
  obtain ⟨hd, hpc, hso, hk⟩ := dk_of T hM hn hc rfl
  have hn1 : n + 1 < szM M := Nat.le_of_ble_eq_true hk
  simp only [iOf] at hd hpc
  match S, h, hws with
  | .inr (.inl v) :: .inl i :: .inr (.inr (some a, k)) :: S, h, hws =>
    have hv : inL v := hws _ List.mem_cons_self
    have hi : inR i := hws _ (List.mem_cons_of_mem _ List.mem_cons_self)
    have hw : wr H a k := hws _ (List.mem_cons_of_mem _ (List.mem_cons_of_mem _ List.mem_cons_self))
    have hws' : ∀ x ∈ S, wv H x := fun x hx => hws x (List.mem_cons_of_mem _ (List.mem_cons_of_mem _ (List.mem_cons_of_mem _ hx)))
    replace h : (k = 13 ∧ 0 ≤ i ∧ i < H.2.1 a) ∧ Snd G M p l e R s m args below meth c Qf (n + 1, L, S, (upI I a i v, H), c', s') := h
    obtain ⟨⟨hkk, h0, hi1⟩, h⟩ := h
    subst hkk
    have hin : vp_in (Int32.ofInt i) (H.2.1 a).toNat := oi_in h0 hi (by omega)
    have hcl : (Int32.ofInt i).toNatClampNeg = i.toNat := oi_clamp h0 hi
    obtain ⟨h3, hlt, hka, hcv⟩ := arr_of (G := G) (ad := ad) hw (by decide)
    rw [List.map_cons, List.map_cons, List.map_cons, show gcv G ad (.inr (.inl v)) = .long (Int64.ofInt v) from rfl, show gcv G ad (.inl i) = .int (Int32.ofInt i) from rfl, show gcv G ad (.inr (.inr (some a, 13))) = .ref (ad a) from hcv]
    refine va_last hx hb hE.1 hR.1 hR.2.1 hS (a - 3) 2 ((pool_get h3 hlt).trans (by rw [gcl_lng hka])) rfl hin hd (fun H1 locs1 hP1 hD1 hS1 => ?_)
    rw [hcl] at hP1 hD1
    rw [← hpc]
    exact h hn1 ad H1 locs1 ls (hR.put (g' := (upI I a i v, H)) h3 hlt rfl (fun b hb9 => gcl_I (upI_ne hb9)) (ecl_putJ hka h0) (hR.2.2.1.upI h3 hv (fun q => by rw [hka] at q; cases q)) hP1 hD1 (Nat.le_trans hbs hS1.1)) hS1 hl hwl hws'
  | [], h, _ => exact h.elim
  | .inl _ :: _, h, _ => exact h.elim
  | .inr (.inr _) :: _, h, _ => exact h.elim
  | .inr (.inl _) :: [], h, _ => exact h.elim
  | .inr (.inl _) :: .inr _ :: _, h, _ => exact h.elim
  | .inr (.inl _) :: .inl _ :: [], h, _ => exact h.elim
  | .inr (.inl _) :: .inl _ :: .inl _ :: _, h, _ => exact h.elim
  | .inr (.inl _) :: .inl _ :: .inr (.inl _) :: _, h, _ => exact h.elim
  | .inr (.inl _) :: .inl _ :: .inr (.inr (none, _)) :: _, h, _ => exact h.elim
theorem so_23 (F : Fx G M p l R s m args meth c) (hc : cdM M n = (23, z0, p0, q0, r0)) (h : stA C M P X 23 z0 p0 q0 r0 n L S I H c' s' (Snd G M p l e R s m args below meth c Qf)) : Snd G M p l e R s m args below meth c Qf (n, L, S, (I, H), c', s') := by
  intro hn ad Hp locs ls hR hS hl hwl hws
  obtain ⟨T, hx, hb, hml, hown, hts, hE, hRm, hRf, hM, hnm, hbs, -⟩ := F
  obtain ⟨hd, hpc, hso, hk⟩ := dk_of T hM hn hc rfl
  have hn1 : n + 1 < szM M := Nat.le_of_ble_eq_true hk
  simp only [iOf] at hd hpc
  match S, h, hws with
  | .inr (.inr (o, j)) :: .inl i :: .inr (.inr (some a, k)) :: S, h, hws =>
    have hv : wv H (.inr (.inr (o, j))) := hws _ List.mem_cons_self
    have hi : inR i := hws _ (List.mem_cons_of_mem _ List.mem_cons_self)
    have hw : wr H a k := hws _ (List.mem_cons_of_mem _ (List.mem_cons_of_mem _ List.mem_cons_self))
    have hws' : ∀ x ∈ S, wv H x := fun x hx => hws x (List.mem_cons_of_mem _ (List.mem_cons_of_mem _ (List.mem_cons_of_mem _ hx)))
    replace h : ((k = 12 ∧ j = 11) ∧ 0 ≤ i ∧ i < H.2.1 a) ∧ Snd G M p l e R s m args below meth c Qf (n + 1, L, S, (I, (upR H.1 a i o, H.2)), c', s') := h
    obtain ⟨⟨⟨hkk, hjj⟩, h0, hi1⟩, h⟩ := h
    subst hkk
    subst hjj
    have hin : vp_in (Int32.ofInt i) (H.2.1 a).toNat := oi_in h0 hi (by omega)
    have hcl : (Int32.ofInt i).toNatClampNeg = i.toNat := oi_clamp h0 hi
    obtain ⟨h3, hlt, hka, hcv⟩ := arr_of (G := G) (ad := ad) hw (by decide)
    rw [List.map_cons, List.map_cons, List.map_cons, show gcv G ad (.inl i) = .int (Int32.ofInt i) from rfl, show gcv G ad (.inr (.inr (some a, 12))) = .ref (ad a) from hcv]
    match o, hv, h with
    | none, hv, h =>
      refine rw_aastN hx hb hE.1 hR.1 hR.2.1 hS (a - 3) 1 ((pool_get h3 hlt).trans (by rw [gcl_row hka])) rfl hin hd (fun H1 locs1 hP1 hD1 hS1 => ?_)
      rw [hcl] at hP1 hD1
      rw [← hpc]
      exact h hn1 ad H1 locs1 ls (hR.put (g' := (I, (upR H.1 a i none, H.2))) h3 hlt rfl (fun b hb9 => gcl_R (upR_ne hb9)) (ecl_putQ hka h0) (hR.2.2.1.upR (fun b9 hb9 => by cases hb9)) hP1 hD1 (Nat.le_trans hbs hS1.1)) hS1 hl hwl hws'
    | some b, hv, h =>
      obtain ⟨v3, vlt, vka, vcv⟩ := arr_of (G := G) (ad := ad) (show wr H b 11 from hv) (by decide)
      rw [show gcv G ad (.inr (.inr (some b, 11))) = .ref (ad b) from vcv]
      refine rw_aast hx hb hE.1 hE.2.2.2.2.2.2.2.2 hR.1 hR.2.1 hS (a - 3) 1 (b - 3) 0 ((pool_get h3 hlt).trans (by rw [gcl_row hka])) rfl ((pool_get v3 vlt).trans (by rw [gcl_int vka])) rfl hin hd (fun H1 locs1 hP1 hD1 hS1 => ?_)
      rw [hcl] at hP1 hD1
      rw [← hpc]
      refine h hn1 ad H1 locs1 ls (hR.put (g' := (I, (upR H.1 a i (some b), H.2))) h3 hlt rfl (fun b hb9 => gcl_R (upR_ne hb9)) (ecl_putQ hka h0) (hR.2.2.1.upR (fun b9 hb9 => ?_)) hP1 hD1 (Nat.le_trans hbs hS1.1)) hS1 hl hwl hws'
      cases hb9
      exact ⟨v3, vlt, by rw [hka]; exact vka⟩
  | [], h, _ => exact h.elim
  | .inl _ :: _, h, _ => exact h.elim
  | .inr (.inl _) :: _, h, _ => exact h.elim
  | .inr (.inr _) :: [], h, _ => exact h.elim
  | .inr (.inr _) :: .inr _ :: _, h, _ => exact h.elim
  | .inr (.inr _) :: .inl _ :: [], h, _ => exact h.elim
  | .inr (.inr _) :: .inl _ :: .inl _ :: _, h, _ => exact h.elim
  | .inr (.inr _) :: .inl _ :: .inr (.inl _) :: _, h, _ => exact h.elim
  | .inr (.inr _) :: .inl _ :: .inr (.inr (none, _)) :: _, h, _ => exact h.elim
theorem so_24 (F : Fx G M p l R s m args meth c) (hc : cdM M n = (24, z0, p0, q0, r0)) (h : stA C M P X 24 z0 p0 q0 r0 n L S I H c' s' (Snd G M p l e R s m args below meth c Qf)) : Snd G M p l e R s m args below meth c Qf (n, L, S, (I, H), c', s') := by
  intro hn ad Hp locs ls hR hS hl hwl hws
  obtain ⟨T, hx, hb, hml, hown, hts, hE, hRm, hRf, hM, hnm, hbs, -⟩ := F
  obtain ⟨hd, hpc, hso, hk⟩ := dk_of T hM hn hc rfl
  have hn1 : n + 1 < szM M := Nat.le_of_ble_eq_true hk
  simp only [iOf] at hd hpc
  match S, h, hws with
  | .inl v :: S, h, hws =>
    have hv : inR v := hws _ List.mem_cons_self
    have hws' : ∀ x ∈ S, wv H x := fun x hx => hws x (List.mem_cons_of_mem _ hx)
    replace h : ((0 ≤ v ∧ v ≤ 100000) ∧ c' + 1 ≤ mcM M ∧ s' + v.toNat ≤ msM M) ∧ Snd G M p l e R s m args below meth c Qf (n + 1, L, vr (some (H.2.2.2 + 3)) 11 :: S, (nwI I H (fun _ => 0), nwS H v 11), c' + 1, s' + v.toNat) := h
    obtain ⟨⟨hvb, hcc, hss⟩, h⟩ := h
    rw [List.map_cons, show gcv G ad (.inl v) = .int (Int32.ofInt v) from rfl]
    have hn0 : ¬ Int32.ofInt v < 0 := by rw [← oi_0, oi_lt hv in0]; omega
    have hcl : (Int32.ofInt v).toNatClampNeg = v.toNat := oi_clamp hvb.1 hv
    refine va_newa (atype := .int) (ty := .int) (a0 := (v.toNat, .inl (fun _ => 0))) hx hb (hts _ wd_ai) rfl hE.1 hR.1 hR.2.1 hS (fun q hq => Nat.le_trans hbs hq) (fun _ => rfl) hn0 hcl (by show v.toNat * 4 ≤ _; omega) (by rw [hRm.1]; exact hcc) (by rw [hRm.2]; exact hss) hd (fun q cA H1 hK1 hP1 hD1 hS1 => ?_)
    have e1 : cA = G.2.1.1 := Option.some.inj ((show s.vm.findClass ("[" ++ (.int : FieldType).toString) = some cA from (hK1.2 3 _ rfl).2).symm.trans (hE.1.2 0 _ rfl).2)
    subst e1
    rw [← hpc]
    refine snd_new h hn1 hR hl hwl hws' hvb (by decide) (fun _ => in0) ?_ hP1 hD1 hbs hS1
    rw [gcl_int (show (nwS H v 11).2.2.1 (H.2.2.2 + 3) = 11 from up1_eq)]
    congr 3
    · exact congrArg Int.toNat (show up1 H.2.1 (H.2.2.2 + 3) v (H.2.2.2 + 3) = v from up1_eq)
    · congr 1; funext j; show Int32.ofInt (up1 I (H.2.2.2 + 3) (fun _ => 0) (H.2.2.2 + 3) j) = 0; rw [up1_eq]; rfl
  | [], h, _ => exact h.elim
  | .inr _ :: _, h, _ => exact h.elim
theorem so_25 (F : Fx G M p l R s m args meth c) (hc : cdM M n = (25, z0, p0, q0, r0)) (h : stA C M P X 25 z0 p0 q0 r0 n L S I H c' s' (Snd G M p l e R s m args below meth c Qf)) : Snd G M p l e R s m args below meth c Qf (n, L, S, (I, H), c', s') := by
  intro hn ad Hp locs ls hR hS hl hwl hws
  obtain ⟨T, hx, hb, hml, hown, hts, hE, hRm, hRf, hM, hnm, hbs, -⟩ := F
  obtain ⟨hd, hpc, hso, hk⟩ := dk_of T hM hn hc rfl
  have hn1 : n + 1 < szM M := Nat.le_of_ble_eq_true hk
  simp only [iOf] at hd hpc
  match S, h, hws with
  | .inl v :: S, h, hws =>
    have hv : inR v := hws _ List.mem_cons_self
    have hws' : ∀ x ∈ S, wv H x := fun x hx => hws x (List.mem_cons_of_mem _ hx)
    replace h : ((0 ≤ v ∧ v ≤ 100000) ∧ c' + 1 ≤ mcM M ∧ s' + v.toNat ≤ msM M) ∧ Snd G M p l e R s m args below meth c Qf (n + 1, L, vr (some (H.2.2.2 + 3)) 13 :: S, (nwI I H (fun _ => 0), nwS H v 13), c' + 1, s' + v.toNat) := h
    obtain ⟨⟨hvb, hcc, hss⟩, h⟩ := h
    rw [List.map_cons, show gcv G ad (.inl v) = .int (Int32.ofInt v) from rfl]
    have hn0 : ¬ Int32.ofInt v < 0 := by rw [← oi_0, oi_lt hv in0]; omega
    have hcl : (Int32.ofInt v).toNatClampNeg = v.toNat := oi_clamp hvb.1 hv
    refine va_newa (atype := .long) (ty := .long) (a0 := (v.toNat, .inr (.inl (fun _ => 0)))) hx hb (hts _ wd_al) rfl hE.1 hR.1 hR.2.1 hS (fun q hq => Nat.le_trans hbs hq) (fun _ => rfl) hn0 hcl (by show v.toNat * 8 ≤ _; omega) (by rw [hRm.1]; exact hcc) (by rw [hRm.2]; exact hss) hd (fun q cA H1 hK1 hP1 hD1 hS1 => ?_)
    have e1 : cA = G.2.1.2.2 := Option.some.inj ((show s.vm.findClass ("[" ++ (.long : FieldType).toString) = some cA from (hK1.2 3 _ rfl).2).symm.trans (hE.1.2 2 _ rfl).2)
    subst e1
    rw [← hpc]
    refine snd_new h hn1 hR hl hwl hws' hvb (by decide) (fun _ => in0) ?_ hP1 hD1 hbs hS1
    rw [gcl_lng (show (nwS H v 13).2.2.1 (H.2.2.2 + 3) = 13 from up1_eq)]
    congr 3
    · exact congrArg Int.toNat (show up1 H.2.1 (H.2.2.2 + 3) v (H.2.2.2 + 3) = v from up1_eq)
    · congr 2; funext j; show Int64.ofInt (up1 I (H.2.2.2 + 3) (fun _ => 0) (H.2.2.2 + 3) j) = 0; rw [up1_eq]; rfl
  | [], h, _ => exact h.elim
  | .inr _ :: _, h, _ => exact h.elim
theorem so_26 (F : Fx G M p l R s m args meth c) (hc : cdM M n = (26, z0, p0, q0, r0)) (h : stA C M P X 26 z0 p0 q0 r0 n L S I H c' s' (Snd G M p l e R s m args below meth c Qf)) : Snd G M p l e R s m args below meth c Qf (n, L, S, (I, H), c', s') := by
  intro hn ad Hp locs ls hR hS hl hwl hws
  obtain ⟨T, hx, hb, hml, hown, hts, hE, hRm, hRf, hM, hnm, hbs, -⟩ := F
  obtain ⟨hd, hpc, hso, hk⟩ := dk_of T hM hn hc rfl
  have hn1 : n + 1 < szM M := Nat.le_of_ble_eq_true hk
  simp only [iOf] at hd hpc
  match S, h, hws with
  | .inl v :: S, h, hws =>
    have hv : inR v := hws _ List.mem_cons_self
    have hws' : ∀ x ∈ S, wv H x := fun x hx => hws x (List.mem_cons_of_mem _ hx)
    replace h : ((0 ≤ v ∧ v ≤ 100000) ∧ c' + 1 ≤ mcM M ∧ s' + v.toNat ≤ msM M) ∧ Snd G M p l e R s m args below meth c Qf (n + 1, L, vr (some (H.2.2.2 + 3)) 12 :: S, (nwI I H (fun _ => 0), nwS H v 12), c' + 1, s' + v.toNat) := h
    obtain ⟨⟨hvb, hcc, hss⟩, h⟩ := h
    rw [List.map_cons, show gcv G ad (.inl v) = .int (Int32.ofInt v) from rfl]
    have hn0 : ¬ Int32.ofInt v < 0 := by rw [← oi_0, oi_lt hv in0]; omega
    have hcl : (Int32.ofInt v).toNatClampNeg = v.toNat := oi_clamp hvb.1 hv
    unfold sok at hso
    simp only [Bool.and_eq_true] at hso
    have h6 := Nat.eq_of_beq_eq_true hso.1
    have h7 := Nat.eq_of_beq_eq_true hso.2
    rw [h6] at hown
    rw [h7] at hd
    refine rw_anew hx hb hown (hts _ wd_cl) hE.2.2.2.2.2.2.2.2 hR.1 hR.2.1 hS (fun q hq => Nat.le_trans hbs hq) (hE.1.2 1 _ rfl).2 hn0 hcl (by omega) (by rw [hRm.1]; exact hcc) (by rw [hRm.2]; exact hss) hd (fun q H1 hP1 hD1 hS1 hsz => ?_)
    rw [← hpc]
    refine snd_new h hn1 hR hl hwl hws' hvb (by decide) (fun _ => in0) ?_ hP1 hD1 hbs hS1
    rw [gcl_row (show (nwS H v 12).2.2.1 (H.2.2.2 + 3) = 12 from up1_eq)]
    congr 3
    · exact congrArg Int.toNat (show up1 H.2.1 (H.2.2.2 + 3) v (H.2.2.2 + 3) = v from up1_eq)
    · congr 5; funext j; show Option.map _ (up1 H.1 (H.2.2.2 + 3) (fun _ => none) (H.2.2.2 + 3) j) = none; rw [up1_eq]; rfl
  | [], h, _ => exact h.elim
  | .inr _ :: _, h, _ => exact h.elim
theorem so_27 (F : Fx G M p l R s m args meth c) (hc : cdM M n = (27, z0, p0, q0, r0)) (h : stA C M P X 27 z0 p0 q0 r0 n L S I H c' s' (Snd G M p l e R s m args below meth c Qf)) : Snd G M p l e R s m args below meth c Qf (n, L, S, (I, H), c', s') := by
  intro hn ad Hp locs ls hR hS hl hwl hws
  obtain ⟨T, hx, hb, hml, hown, hts, hE, hRm, hRf, hM, hnm, hbs, -⟩ := F
  obtain ⟨hd, hpc, hso, hk⟩ := dk_of T hM hn hc rfl
  have hn1 : n + 1 < szM M := Nat.le_of_ble_eq_true hk
  simp only [iOf] at hd hpc
  unfold sok at hso
  obtain ⟨h11, w1, w2, w3⟩ := T.2.2.1 (clM M) (clM_lt T hM) _ (List.mem_of_elem_eq_true hso)
  replace h11 : p0 < 11 := h11
  replace w1 : Cond.classLink (cnm (clM M)) q0 (rx p0) ∈ BIG := w1
  replace w2 : Cond.instantiable (rx p0) (nfl p0) ∈ BIG := w2
  replace w3 : Cond.initialized (rx p0) ∈ BIG := w3
  replace h : (c' + 1 ≤ mcM M ∧ s' + nfl p0 ≤ msM M) ∧ Snd G M p l e R s m args below meth c Qf (n + 1, L, vr (some (H.2.2.2 + 3)) p0 :: S, (nwI I H (fun _ => 0), nwS H 0 p0), c' + 1, s' + nfl p0) := h
  obtain ⟨⟨hcc, hss⟩, h⟩ := h
  have ek : ∀ q, (List.range (nfl p0)).map (fvl (up1 ad (H.2.2.2 + 3) q) (nwI I H (fun _ => 0)) (nwS H 0 p0) (H.2.2.2 + 3) p0) = (List.range (nfl p0)).map (fun j => if ftp p0 j = 0 then .int 0 else if ftp p0 j = 1 then .null else .long 0) := by
    intro q
    apply List.map_congr_left
    intro j _
    unfold fvl
    have e1 : nwI I H (fun _ => 0) (H.2.2.2 + 3) j = 0 := by unfold nwI; rw [up1_eq]
    have e2 : (nwS H 0 p0).1 (H.2.2.2 + 3) j = none := by show up1 H.1 _ _ _ j = none; rw [up1_eq]
    rw [e1, e2]
    rfl
  refine va_new (ci := p0) (fs := (List.range (nfl p0)).map (fun j => if ftp p0 j = 0 then .int 0 else if ftp p0 j = 1 then .null else .long 0)) (C := rx p0) (T := tx p0) (N := nfl p0) hx hb hts (T.1 p0 h11) (tyx p0) (ty_ok p0 h11) hown (hts _ w1) (hts _ w2) (hts _ w3) hE.1 hR.1 hR.2.1 hS (fun q hq => Nat.le_trans hbs hq) (cl_at p0 h11) (fun j hj => ?_) (by rw [hRm.1]; exact hcc) (by rw [hRm.2]; exact hss) hd (fun q H1 hP1 hD1 hS1 => ?_)
  · unfold vp_V
    rw [List.getD_eq_getElem?_getD, List.getElem?_map, List.getElem?_range hj, Option.map_some, Option.getD_some]
    rcases ftp_ty p0 h11 j hj with ⟨h9, h8 | h8⟩ | ⟨h9, ⟨_, h8⟩ | ⟨_, h8⟩⟩ | ⟨h9, h8⟩ <;> rw [h9, h8] <;> rfl
  · rw [← hpc]
    refine snd_new h hn1 hR hl hwl hws ⟨by omega, by omega⟩ (by omega) (fun _ => in0) ?_ hP1 hD1 hbs hS1
    rw [gcl_obj (show (nwS H 0 p0).2.2.1 (H.2.2.2 + 3) = p0 from up1_eq) h11, ek]
end OPS
