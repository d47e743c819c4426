/-! Arrays.copyOf -/
def rmC : Room := { frames := 3, locals := 150, cells := 1, slots := 900 }
theorem set_last {α : Type} {l : List α} {x y : α} : (l ++ [x]).set l.length y = l ++ [y] := by
  rw [List.set_append_right _ _ (Nat.le_refl _), Nat.sub_self]; rfl
theorem cp_met {l : Launch} {G : qG} {ad : Nat → Nat} {a : Nat} {v : Int} {I : qI} {H : qS} (hw : wr H a 11) (hv : 0 ≤ v ∧ v < H.2.1 a ∧ v ≤ 900) (hvr : inR v) : Met l jCP (Cond.code jCP prog_32_method_123_code 3 (some (.array .int)) :: BIG) rmC (PreQ G ad [vr (some a) 11, vi v] (I, H))
    (PostQ (gW G ad H) (fun r g' => r = some (vr (some (H.2.2.2 + 3)) 11) ∧ g' = (nwI I H (fun j => if 0 ≤ j ∧ j < v then I a j else 0), nwS H v 11))) 1 900 (gA G) := by
  refine Met.ofW (by decide +kernel) rfl ?_
  intro p e s m args below meth c s₁ B hml hP
  obtain ⟨ha, hE, hR⟩ := hP
  subst ha
  have hx := B.exec
  have hb := B.bytes
  have hown : s.vm.findClass "java/util/Arrays" = some m.cls := findClass_of_methodNamed B.named
  have hts : ∀ w ∈ BIG, w.before _ s = true := fun w hw => atoms_spec B.pre w (List.mem_cons_of_mem _ hw)
  have hlk := B.notSynchronized
  have hrt := B.returns
  obtain ⟨h3, hlt, hka, hcv⟩ := arr_of (G := G) (ad := ad) hw (by decide)
  have hlen := hR.2.2.1.2.2.2.1 a
  have hlr : inR (H.2.1 a) := in_len hlen
  have hS0 : va_S (gA G) s.heap s.heap [] := va_S.rf
  have hbs : G.2.2.1 ≤ s.heap.size := hR.2.2.2.1
  have hcl : (Int32.ofInt v).toNatClampNeg = v.toNat := oi_clamp hv.1 hvr
  have hn0 : ¬ Int32.ofInt v < 0 := by rw [← oi_0, oi_lt hvr in0]; omega
  have hpa : (gpl G ad (I, H))[a - 3]? = some (ad a, .inl (G.2.1.1, (H.2.1 a).toNat, .inl (fun j : Nat => Int32.ofInt (I a j)))) := (pool_get h3 hlt).trans (by rw [gcl_int hka])
  have hP0 : va_P G.1 vwCl (gpl G ad (I, H)) s.heap := hR.1
  have hD0 : va_D (gA G) (gpl G ad (I, H)) := hR.2.1
  rw [show ([vr (some a) 11, vi v].map (gcv G ad)).toArray = [.ref (ad a), .int (Int32.ofInt v)].toArray by rw [← hcv]; rfl, lg_entry_eq]
  have hl := lv_entry [.ref (ad a), .int (Int32.ofInt v)] (n := 3) (Nat.le_succ 2)
  generalize ((lg_sl [.ref (ad a), .int (Int32.ofInt v)] ++ List.replicate (3 - (lg_sl [.ref (ad a), .int (Int32.ofInt v)]).length) Slot.unset).toArray) = ls at hl ⊢
  have hl0 : ls[0]? = some (.val (.ref (ad a))) := lv_at hl 0 rfl
  have hl1 : ls[1]? = some (.val (.int (Int32.ofInt v))) := lv_at hl 1 rfl
  refine lv_iload_n (x := Int32.ofInt v) hx hb jCP_0 rfl hl1 ?_
  refine lv_aload_n hx hb jCP_1 rfl hl0 ?_
  refine va_alen hx hb hE.1 hP0 (a - 3) 0 hpa rfl (on_len hlen.1) jCP_2 ?_
  refine lv_icmp_ne (x := Int32.ofInt v) (y := Int32.ofInt (H.2.1 a)) (tgt := 14) hx hb jCP_3 rfl (fun _ => ?_) (fun q => absurd ((oi_eq hvr hlr).mp (by simpa using q)) (by omega))
  refine lv_iload_n (x := Int32.ofInt v) hx hb jCP_14 rfl hl1 ?_
  refine va_newa (atype := .int) (ty := .int) (a0 := (v.toNat, .inl (fun _ => 0))) hx hb (hts _ wd_ai) rfl hE.1 hP0 hD0 hS0 (fun q hq => Nat.le_trans hbs hq) (fun _ => rfl) hn0 hcl (by show v.toNat * 4 ≤ _; omega) (Nat.le_refl 1) (by show 0 + v.toNat ≤ 900; omega) jCP_15 (fun q cA H1 hK1 hP1 hD1 hS1 => ?_)
  have e1 : cA = G.2.1.1 := Option.some.inj ((show s.vm.findClass ("[" ++ (.int : FieldType).toString) = some cA from (hK1.2 3 _ rfl).2).symm.trans (hE.1.2 0 _ rfl).2)
  subst e1
  refine lv_astore_n hx hb jCP_17 rfl hl (by decide) rfl (fun ls' hl' => ?_)
  have hl9 : lv_has ls' 3 [(0, .ref (ad a)), (1, .int (Int32.ofInt v)), (2, .ref q)] := by
    refine lv_weak hl' (fun z hz => ?_)
    simp only [List.mem_cons, List.not_mem_nil, or_false] at hz
    rcases hz with rfl | rfl | rfl
    · exact List.mem_cons_of_mem _ (List.mem_filter.mpr ⟨by simp [lv_args, Value.category], by simp⟩)
    · exact List.mem_cons_of_mem _ (List.mem_filter.mpr ⟨by simp [lv_args, Value.category], by simp [Value.category]⟩)
    · exact List.mem_cons_self
  have m0 : ls'[0]? = some (.val (.ref (ad a))) := lv_at hl9 0 rfl
  have m1 : ls'[1]? = some (.val (.int (Int32.ofInt v))) := lv_at hl9 1 rfl
  have m2 : ls'[2]? = some (.val (.ref q)) := lv_at hl9 2 rfl
  have hll : (gpl G ad (I, H)).length = H.2.2.2 := pool_len
  have hp0 : (gpl G ad (I, H) ++ [(q, .inl (G.2.1.1, (v.toNat, .inl (fun _ => 0))))])[a - 3]? = some (ad a, .inl (G.2.1.1, (H.2.1 a).toNat, .inl (fun j : Nat => Int32.ofInt (I a j)))) := by
    rw [List.getElem?_append_left (by omega)]; exact hpa
  have hp1 : (gpl G ad (I, H) ++ [(q, (.inl (G.2.1.1, (v.toNat, .inl (fun _ => 0))) : va_E))])[(gpl G ad (I, H)).length]? = some (q, .inl (G.2.1.1, (v.toNat, .inl (fun _ => 0)))) := by
    rw [List.getElem?_append_right (Nat.le_refl _), Nat.sub_self]; rfl
  refine lv_aload_n hx hb jCP_18 rfl m0 ?_
  refine lv_iconst (v := 0) hx hb jCP_19 rfl ?_
  refine lv_aload_n hx hb jCP_20 rfl m2 ?_
  refine lv_iconst (v := 0) hx hb jCP_21 rfl ?_
  refine lv_aload_n hx hb jCP_22 rfl m0 ?_
  refine va_alen hx hb hK1 hP1 (a - 3) 0 hp0 rfl (on_len hlen.1) jCP_23 ?_
  refine lv_iload_n (x := Int32.ofInt v) hx hb jCP_24 rfl m1 ?_
  refine va_mmin hx hb (hml.trans hl9.1.symm) hown (hts _ jl_mi) (hts _ wd_mi1) (hts _ wd_mt) (hts _ wd_mi2) (by show 1 ≤ 3; omega) (by show 4 + 13 ≤ 150; omega) (Nat.le_refl 1) (by show 0 + v.toNat ≤ 900; omega) jCP_25 ?_
  rw [if_pos (show Int32.ofInt v < Int32.ofInt (H.2.1 a) by rw [oi_lt hvr hlr]; exact hv.2.1)]
  refine va_copyi hx hb (hml.trans hl9.1.symm) hown (hts _ jl_ac) (hts _ jn_ac) (hts _ js_ac) (hts _ wi_Y) hK1 hP1 hD1 hS1 (a - 3) (gpl G ad (I, H)).length 0 3 hp0 hp1 rfl rfl rfl (by decide) (by decide) hn0 (by rw [hcl]; show 0 + v.toNat ≤ (H.2.1 a).toNat; omega) (by rw [hcl]; show 0 + v.toNat ≤ v.toNat; omega) (fun _ _ => rfl) (by show 1 ≤ 3; omega) (by decide +kernel) jCP_28 (fun H2 locs2 hP2 hD2 hS2 => ?_)
  rw [set_last] at hP2 hD2
  refine lv_aload_n hx hb jCP_31 rfl m2 ?_
  have fin : Rl (gW G ad H) (up1 ad (H.2.2.2 + 3) q) (nwI I H (fun j => if 0 ≤ j ∧ j < v then I a j else 0), nwS H v 11) H2 := by
    refine hR.new (q := q) ⟨hv.1, by omega⟩ (by decide) (fun j => ?_) ?_ hP2 hD2 (Nat.le_trans hbs hS2.1)
    · split
      · exact hR.2.2.1.2.1 a j (by rw [hka]; rfl)
      · exact in0
    · refine (gcl_int (G := G) (show (nwS H v 11).2.2.1 (H.2.2.2 + 3) = 11 from up1_eq)).trans ?_
      congr 3
      · exact congrArg Int.toNat (show up1 H.2.1 (H.2.2.2 + 3) v (H.2.2.2 + 3) = v from up1_eq)
      · congr 1
        funext j
        show Int32.ofInt (up1 I (H.2.2.2 + 3) (fun j => if 0 ≤ j ∧ j < v then I a j else 0) (H.2.2.2 + 3) j) = va_cpy _ _ _ _ _ j
        rw [up1_eq, hcl]
        unfold va_cpy
        by_cases hj : (j : Int) < v
        · rw [if_pos ⟨by omega, hj⟩, if_pos (by constructor <;> first | exact Nat.zero_le _ | (show j < 0 + v.toNat; omega))]
          congr 2
          show (j : Int) = ((0 + (j - 0) : Nat) : Int)
          omega
        · rw [if_neg (fun z => hj z.2), if_neg (fun z => by have z2 : j < 0 + v.toNat := z.2; omega)]
          rfl
  refine W.wid9 (k := 1) (n := 900) (Nat.le_refl 1) (by show 0 + v.toNat ≤ 900; omega) ?_
  refine W.aret hx hb hrt (Or.inr ⟨_, rfl⟩) (Or.inr ⟨q, rfl⟩) (fun t ht _ => ⟨some (vr (some (H.2.2.2 + 3)) 11), _, up1 ad (H.2.2.2 + 3) q, ?_, ⟨rfl, rfl⟩, by rw [ht]; exact fin, fun x hx9 => ?_, hS2.F ht⟩) hS2.2.2 jCP_32 hlk
  · show Outcome.returned (some (.ref q)) = .returned (some (.ref (up1 ad (H.2.2.2 + 3) q (H.2.2.2 + 3))))
    rw [up1_eq]
  · cases hx9
    show wr (nwS H v 11) _ 11
    unfold wr
    rw [if_neg (by omega), if_neg (by omega), if_neg (by omega)]
    exact ⟨by omega, by show H.2.2.2 + 3 < H.2.2.2 + 1 + 3; omega, up1_eq⟩
section OPS
variable {G : qG} {M : Nat} {p : Program} {l : Launch} {e : Env} {R : Room} {s : State} {m : MethodId} {args : Array Value} {below : List Frame} {meth : Method} {c : Code} {Qf : State → Prop} {C : qC} {P : Option qV → qH → Prop} {X : Nat → qH → Prop}
variable {n : Nat} {z0 : Int} {p0 q0 r0 : Nat} {L : List (Option qV)} {S : List qV} {I : qI} {H : qS} {c' s' d : Nat}
theorem so_63 (F : Fx G M p l R s m args meth c) (hc : cdM M n = (63, z0, p0, q0, r0)) (h : stA C M P X 63 z0 p0 q0 r0 n L S I H c' s' (Snd G M p l e R s m args below meth c Qf)) : Snd G M p l e R s m args below meth c Qf (n, L, S, (I, H), c', s') := by
  intro hn ad Hp locs ls hR hS hl hwl hws
  obtain ⟨T, hx, hb, hml, hown, hts, hE, hRm, hRf, hM, hnm, hbs, hst, hlk, hrt, hex⟩ := id F
  obtain ⟨hd, hpc, hso, hk⟩ := dk_of T hM hn hc rfl
  have hn1 : n + 1 < szM M := Nat.le_of_ble_eq_true hk
  simp only [iOf] at hd hpc
  have hin := of_decide_eq_true hso
  match S, h, hws with
  | .inl v :: .inr (.inr (some a, k9)) :: S, h, hws =>
    have hvr : inR v := hws _ List.mem_cons_self
    have hw : wr H a k9 := hws _ (List.mem_cons_of_mem _ List.mem_cons_self)
    have hws' : ∀ x ∈ S, wv H x := fun x hx => hws x (List.mem_cons_of_mem _ (List.mem_cons_of_mem _ hx))
    by_cases hk9 : k9 = 11
    case neg =>
      have q' : (match (.inl v :: .inr (.inr (some a, k9)) :: S : List qV) with | .inl v :: .inr (.inr (some a, 11)) :: S => ((0 ≤ v ∧ v < H.2.1 a ∧ v ≤ 900) ∧ c' + 1 ≤ mcM M ∧ s' + 900 ≤ msM M) ∧ (bif Nat.ble S.length 4 then Snd G M p l e R s m args below meth c Qf (n + 1, L, vr (some (H.2.2.2 + 3)) 11 :: S, (nwI I H (fun j => if 0 ≤ j ∧ j < v then I a j else 0), nwS H v 11), c' + 1, s' + 900) else False) | _ => False) := h
      split at q'
      · rename_i heq
        cases heq
        exact absurd rfl hk9
      · exact q'.elim
    subst hk9
    obtain ⟨⟨hv, hcc, hss⟩, h⟩ := (show ((0 ≤ v ∧ v < H.2.1 a ∧ v ≤ 900) ∧ c' + 1 ≤ mcM M ∧ s' + 900 ≤ msM M) ∧ (bif Nat.ble S.length 4 then Snd G M p l e R s m args below meth c Qf (n + 1, L, vr (some (H.2.2.2 + 3)) 11 :: S, (nwI I H (fun j => if 0 ≤ j ∧ j < v then I a j else 0), nwS H v 11), c' + 1, s' + 900) else False) from h)
    obtain ⟨h4, h⟩ := bf_get h
    have h4 := Nat.le_of_ble_eq_true h4
    have hcs := cat_le G ad S
    have hrA : rmC.frames + 1 ≤ R.frames ∧ 8 + (3 + 11) + rmC.locals ≤ R.locals := ⟨by show 3 + 1 ≤ R.frames; omega, by show 8 + (3 + 11) + 150 ≤ R.locals; omega⟩
    have cw := va_cwS (R := R) (s := s) (args := args) (own := cnm (clM M)) (index := q0) (y := jCP) (rm := rmC) (mc := 1) (ms := 900) (bytes := prog_32_method_123_code) (maxL := 3) (ret := some (.array .int)) (ws := Cond.code jCP prog_32_method_123_code 3 (some (.array .int)) :: BIG) 2 hts (big_ap (List.forall_mem_cons.mpr ⟨wd_cp _ hin, List.forall_mem_cons.mpr ⟨jCP_s, List.forall_mem_cons.mpr ⟨wi_A, fun _ q => nomatch q⟩⟩⟩) (List.forall_mem_cons.mpr ⟨jCP_c, fun _ h => h⟩)) rfl rfl rfl ⟨by decide, by decide, by decide +kernel⟩ hrA
    refine run_va (G := G) (va_runS (As := [vr (some a) 11, vi v].map (gcv G ad)) (rest := S.map (gcv G ad)) (g := F0 m (pcM M n) ls ((.inl v :: .inr (.inr (some a, 11)) :: S).map (gcv G ad))) ⟨hx, hb, hml, hown, hts⟩ (cp_met (l := l) (G := G) (ad := ad) (I := I) hw hv hvr) cw ⟨PreQ.blind, fun U hU hW => ⟨rfl, hE.next hS hU hW, by rw [hU]; exact ⟨hR.1, hR.2.1, hR.2.2.1, hR.2.2.2.1, ext.rf⟩⟩⟩ rfl rfl hl.1 rfl (by show 2 * 0 + _ ≤ 8; omega) hd (by rw [hRm.1, hRm.2]; exact ⟨hcc, hss⟩)) hS hR ?_
    intro v' g' ad' H1 locs1 k1 k2 k3 k4 k5
    obtain ⟨rfl, rfl⟩ := k1
    rw [← hpc]
    exact snd_back (Sr := S) h hn1 k2 k3 k4 k5 hl hwl hws'
  | [], h, _ => exact h.elim
  | .inr _ :: _, h, _ => exact h.elim
  | .inl _ :: [], h, _ => exact h.elim
  | .inl _ :: .inl _ :: _, h, _ => exact h.elim
  | .inl _ :: .inr (.inl _) :: _, h, _ => exact h.elim
  | .inl _ :: .inr (.inr (none, _)) :: _, h, _ => exact h.elim
end OPS
