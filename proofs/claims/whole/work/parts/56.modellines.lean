theorem th_3000 {tb : Int → Int} {n p : Int} (h0 : 0 ≤ p) (hp : p ≤ n) (hb : ∀ j, 0 ≤ j → j < n → 0 ≤ tb j ∧ tb j ≤ 255) : th tb n p = 3000 ↔ p = n := by
  refine ⟨fun q => ?_, fun q => by rw [q]; exact th_e tb n⟩
  rcases th_bd h0 hp hb with x | x | x | x <;> omega
theorem nx_semi {tb : Int → Int} {n p : Int} (h0 : 0 ≤ p) (hp : p ≤ n) (hb : ∀ j, 0 ≤ j → j < n → 0 ≤ tb j ∧ tb j ≤ 255) {c : Int} (hc : (0 ≤ c ∧ c ≤ 255) ∧ ¬ isL c ∧ ¬ isD c) (q : th tb n p = 2000 + c) : p < n ∧ nx tb n p = sk tb n (p + 1) := by
  have w := (th_sign h0 hp hb hc.1 hc.2.1 hc.2.2).mpr q
  refine ⟨w.1, ?_⟩
  unfold nx
  rw [bhd_s (by rw [w.2]; exact hc.2.1) (by rw [w.2]; exact hc.2.2)]
theorem WRel.le {I : qI} {c k m : Int} (h : WRel I c k) (q : k ≤ m) : WRel I c m := ⟨h.1, h.2.1, h.2.2.1, by have := h.2.2.2.1; omega, by have := h.2.2.2.2; omega⟩
def FL (I J : qI) : Prop := (∀ s, s ≠ 9 → s ≠ 10 → s ≠ 11 → s ≠ 19 → s ≠ 20 → s ≠ 21 → J 90 s = I 90 s) ∧ (∀ a, a ≠ 90 → J a = I a)
theorem FL.rf (I : qI) : FL I I := ⟨fun _ _ _ _ _ _ _ => rfl, fun _ _ => rfl⟩
theorem FL.w {I J K : qI} (h : FL I J) (g : FW J K) : FL I K := ⟨fun s a b c d e f => (g.1 s a b d e f).trans (h.1 s a b c d e f), fun a q => (g.2 a q).trans (h.2 a q)⟩
theorem FL.n {I J K : qI} (h : FL I J) (g : F9 J K) : FL I K := h.w g.fw
theorem FL.o {I J K : qI} (h : FL I J) {s : Int} (hs : s = 9 ∨ s = 10 ∨ s = 11) {v : Int} (e : K 90 = fun t => if t = s then v else J 90 t) (f : ∀ a, a ≠ 90 → K a = J a) : FL I K := ⟨fun t a b c d e' f' => by rw [e]; exact (if_neg (by omega)).trans (h.1 t a b c d e' f'), fun a q => (f a q).trans (h.2 a q)⟩
theorem s_12_lines_2 {d : Nat} {P : Option qV → qH → Prop} {X : Nat → qH → Prop} {I : qI} {H : qS} (hd : 62 ≤ d) {tb : Int → Int} {n yw c : Int} (hS : Shp H) (hL : LTX I tb n) (hF : I 90 10 = -1) (hA : ∀ y, 0 ≤ y → y < 100 → 0 ≤ I 96 y ∧ I 96 y < 96) (h18 : I 90 18 = yw) (hyw : 0 ≤ yw ∧ yw < 100) (hw : WRel I c 0) (hcc : c = -1 ∨ (0 ≤ c ∧ c < 81)) (h : ∀ J : qI, FL I J → J 90 10 = (lnT tb n (wln tb n (I 96 yw)) c).1 → ((lnT tb n (wln tb n (I 96 yw)) c).1 = -1 → WRel J (lnT tb n (wln tb n (I 96 yw)) c).2 13) → P none (J, H)) :
    Call d 196 [vr (some 90) 10, vi 2] (I, H) P X := by
  obtain ⟨d, rfl⟩ : ∃ e, d = e + 1 := ⟨d - 1, by omega⟩
  have hn := hL.2.1
  have hv := FL.rf I
  show WP (Call d) 196 P X (0, [some (vr (some 90) 10), some (vi 2), none, none], [], (I, H), 0, 0)
  refine WP.go 3 (And.intro (And.intro rfl trivial) (?_))
  show WP (Call d) 196 P X (3, [some (vr (some 90) 10), some (vi 2), none, none], [], ((upI I 90 9 0), H), 0, 0)
  generalize hq_A0 : (upI I 90 9 0) = A0
  have e_A0 : A0 90 = (fun j => if j = 9 then 0 else I 90 j) := by rw [← hq_A0]; exact upI_self _ _ _ _
  have f_A0 : ∀ a, a ≠ 90 → A0 a = I a := fun a q => by rw [← hq_A0]; exact upI_cell q
  have hv_1 : FL I A0 := hv.o (.inl rfl) e_A0 f_A0
  have hw_2 : WRel A0 c 0 := hw.fr (by rw [e_A0]; rfl) (by rw [e_A0]; rfl) (by rw [e_A0]; rfl)
  refine WP.go 3 (And.intro (And.intro rfl trivial) (?_))
  show WP (Call d) 196 P X (6, [some (vr (some 90) 10), some (vi 2), none, none], [], ((upI A0 90 11 0), H), 0, 0)
  generalize hq_A1 : (upI A0 90 11 0) = A1
  have e_A1 : A1 90 = (fun j => if j = 11 then 0 else A0 90 j) := by rw [← hq_A1]; exact upI_self _ _ _ _
  have f_A1 : ∀ a, a ≠ 90 → A1 a = A0 a := fun a q => by rw [← hq_A1]; exact upI_cell q
  have hv_3 : FL I A1 := hv_1.o (.inr (.inr rfl)) e_A1 f_A1
  have hL_4 : LTX A1 tb n := hL.fr (hv_3.1 7 (by omega) (by omega) (by omega) (by omega) (by omega) (by omega)) (hv_3.1 8 (by omega) (by omega) (by omega) (by omega) (by omega) (by omega)) (hv_3.2 94 (by omega)) (hv_3.2 91 (by omega))
  have hF_5 : A1 90 10 = -1 := by rw [e_A1]; show A0 90 10 = -1; rw [e_A0]; exact hF
  have a19 : A1 90 9 = 0 := by rw [e_A1]; show A0 90 9 = 0; rw [e_A0]; rfl
  have hR_6 : RAT A1 tb n (sk tb n 0) := ⟨by rw [a19]; omega, by rw [a19]⟩
  have hw_7 : WRel A1 c 0 := hw_2.fr (by rw [e_A1]; rfl) (by rw [e_A1]; rfl) (by rw [e_A1]; rfl)
  refine WP.go 2 (And.intro (And.intro (Nat.le_of_ble_eq_true rfl) (Nat.le_of_ble_eq_true rfl)) (And.intro rfl (?_)))
  show Call d 189 [vr (some 90) 10] (A1, H) _ _
  refine s_12_skip (by omega) hS hL_4 hR_6 (fun J7 e7 f7 => ?_)
  show WP (Call d) 196 P X (8, [some (vr (some 90) 10), some (vi 2), none, none], [], (J7, H), 0, 0)
  have hL_8 : LTX J7 tb n := f7.lt hL_4
  have h_9 : J7 90 9 = (sk tb n 0) := e7
  have hR_10 : RAT J7 tb n (sk tb n 0) := RAT.of hR_6.bd e7
  have hv_11 : FL I J7 := hv_3.n f7
  have hF_12 : J7 90 10 = _ := (f7.1 10 (by omega)).trans hF_5
  have hw_13 : WRel J7 _ _ := f7.wr hw_7
  refine WP.go 1 ?_
  show WP (Call d) 196 P X (9, [some (vr (some 90) 10), some (vi 2), none, none], [vr (some 90) 10], (J7, H), 0, 0)
  have h8 : J7 90 8 = n := hL_8.1
  refine WP.go 1 (And.intro rfl (?_))
  refine rw_i (Q := fun x9 => WP (Call d) 196 P X (10, [some (vr (some 90) 10), some (vi 2), none, none], [vi x9], (J7, H), 0, 0)) h_9 ?_
  show WP (Call d) 196 P X (10, [some (vr (some 90) 10), some (vi 2), none, none], [vi (sk tb n 0)], (J7, H), 0, 0)
  refine WP.go 2 (And.intro rfl (?_))
  refine rw_i (Q := fun x9 => WP (Call d) 196 P X (12, [some (vr (some 90) 10), some (vi 2), none, none], [vi x9, vi (sk tb n 0)], (J7, H), 0, 0)) h8 ?_
  show WP (Call d) 196 P X (12, [some (vr (some 90) 10), some (vi 2), none, none], [vi n, vi (sk tb n 0)], (J7, H), 0, 0)
  refine WP.go 1 (And.intro (fun (b12 : ¬ (sk tb n 0) < n) => ?_) (fun (b12 : (sk tb n 0) < n) => ?_))
  ·
    show WP (Call d) 196 P X (15, [some (vr (some 90) 10), some (vi 2), none, none], [], (J7, H), 0, 0)
    refine WP.go 4 ?_
    show WP (Call d) 196 P X (19, [some (vr (some 90) 10), some (vi 2), some (vi 0), some (vi 0)], [], (J7, H), 0, 0)
    refine WP.go 2 (And.intro (fun (b20 : 0 = 0) => ?_) (fun (b20 : ¬ 0 = 0) => (absurd b20 (by omega))))
    show WP (Call d) 196 P X (79, [some (vr (some 90) 10), some (vi 2), some (vi 0), some (vi 0)], [], (J7, H), 0, 0)
    refine WP.go 1 (And.intro (And.intro (Nat.le_of_ble_eq_true rfl) (Nat.le_of_ble_eq_true rfl)) (?_))
    show P none (J7, H)
    have b9 := hR_10.bd
    have r9 : (lnT tb n (wln tb n (I 96 yw)) c) = (-1, c) := if_pos ((th_3000 b9.1 b9.2.1 hL_8.2.2.1).mpr (by omega))
    exact h _ hv_11 (by rw [r9]; exact hF_12) (fun _ => by rw [r9]; exact hw_13.le (by omega))
  ·
    show WP (Call d) 196 P X (13, [some (vr (some 90) 10), some (vi 2), none, none], [], (J7, H), 0, 0)
    refine WP.go 5 ?_
    show WP (Call d) 196 P X (19, [some (vr (some 90) 10), some (vi 2), some (vi 1), some (vi 0)], [], (J7, H), 0, 0)
    have lp19 : ∀ (n9 : Nat) (K : qI) (i : Int) (c9 : Int) (p9 : Int) (hm : 13 - i < (n9 : Int)) (kv0 : 0 ≤ i ∧ i ≤ 12) (kv1 : LTX K tb n) (kv2 : RAT K tb n p9) (kv3 : K 90 10 = -1) (kv4 : WRel K c9 i) (kv5 : c9 = -1 ∨ (0 ≤ c9 ∧ c9 < 81)) (kv6 : FL I K) (kv7 : (lnT tb n (wln tb n (I 96 yw)) c) = lnL tb n (wln tb n (I 96 yw)) (12 - i).toNat p9 c9), WP (Call d) 196 P X (19, [some (vr (some 90) 10), some (vi 2), some (vi 1), some (vi i)], [], (K, H), 0, 0) := by
      intro n9
      induction n9 with
      | zero => intro K i c9 p9 hm kv0 kv1 kv2 kv3 kv4 kv5 kv6 kv7; exact absurd hm (by omega)
      | succ n9 ih19 =>
        intro K i c9 p9 hm kv0 kv1 kv2 kv3 kv4 kv5 kv6 kv7
        have hb29 := kv2.bd
        refine WP.go 2 (And.intro (fun (b20 : 1 = 0) => (absurd b20 (by omega))) (fun (b20 : ¬ 1 = 0) => ?_))
        show WP (Call d) 196 P X (21, [some (vr (some 90) 10), some (vi 2), some (vi 1), some (vi i)], [], (K, H), 0, 0)
        refine WP.go 2 (And.intro rfl (?_))
        refine rw_i (Q := fun x9 => WP (Call d) 196 P X (23, [some (vr (some 90) 10), some (vi 2), some (vi 1), some (vi i)], [vi x9], (K, H), 0, 0)) kv3 ?_
        show WP (Call d) 196 P X (23, [some (vr (some 90) 10), some (vi 2), some (vi 1), some (vi i)], [vi (-1)], (K, H), 0, 0)
        refine WP.go 2 (And.intro (fun (b24 : ¬ (-1) = (-1)) => (absurd b24 (by omega))) (fun (b24 : (-1) = (-1)) => ?_))
        show WP (Call d) 196 P X (25, [some (vr (some 90) 10), some (vi 2), some (vi 1), some (vi i)], [], (K, H), 0, 0)
        refine WP.go 2 (And.intro (And.intro (Nat.le_of_ble_eq_true rfl) (Nat.le_of_ble_eq_true rfl)) (And.intro rfl (?_)))
        show Call d 189 [vr (some 90) 10] (K, H) _ _
        refine s_12_skip (by omega) hS kv1 kv2 (fun J26 e26 f26 => ?_)
        show WP (Call d) 196 P X (27, [some (vr (some 90) 10), some (vi 2), some (vi 1), some (vi i)], [], (J26, H), 0, 0)
        have hL_14 : LTX J26 tb n := f26.lt kv1
        have h_15 : J26 90 9 = p9 := e26
        have hR_16 : RAT J26 tb n p9 := RAT.of kv2.bd e26
        have hv_17 : FL I J26 := kv6.n f26
        have hF_18 : J26 90 10 = _ := (f26.1 10 (by omega)).trans kv3
        have hw_19 : WRel J26 _ _ := f26.wr kv4
        refine WP.go 3 (And.intro (fun (b29 : ¬ i = 12) => ?_) (fun (b29 : i = 12) => ?_))
        ·
          show WP (Call d) 196 P X (35, [some (vr (some 90) 10), some (vi 2), some (vi 1), some (vi i)], [], (J26, H), 0, 0)
          refine WP.go 2 (And.intro (fun (b36 : ¬ 2 = 0) => ?_) (fun (b36 : 2 = 0) => (absurd b36 (by omega))))
          show WP (Call d) 196 P X (40, [some (vr (some 90) 10), some (vi 2), some (vi 1), some (vi i)], [], (J26, H), 0, 0)
          refine WP.go 3 (And.intro (fun (b42 : ¬ 2 = 1) => ?_) (fun (b42 : 2 = 1) => (absurd b42 (by omega))))
          show WP (Call d) 196 P X (46, [some (vr (some 90) 10), some (vi 2), some (vi 1), some (vi i)], [], (J26, H), 0, 0)
          have h96j : J26 96 = I 96 := hv_17.2 96 (by omega)
          have hAj : ∀ y, 0 ≤ y → y < 100 → 0 ≤ J26 96 y ∧ J26 96 y < 96 := by rw [h96j]; exact hA
          have h18j : J26 90 18 = yw := (hv_17.1 18 (by omega) (by omega) (by omega) (by omega) (by omega) (by omega)).trans h18
          refine WP.go 2 (And.intro (And.intro (Nat.le_of_ble_eq_true rfl) (Nat.le_of_ble_eq_true rfl)) (And.intro rfl (?_)))
          show Call d 244 [vr (some 90) 10] (J26, H) _ _
          refine s_12_walkLine (by omega) hS hL_14 hR_16 hF_18 hAj h18j hyw hw_19 (by omega) kv5 ⟨(fun q47 J47 f47 r47 e47 w47 => ?_), (fun q47_1 J47_1 f47_1 e47_1 b47 => ?_)⟩
          ·
            show WP (Call d) 196 P X (48, [some (vr (some 90) 10), some (vi 2), some (vi 1), some (vi i)], [], (J47, H), 0, 0)
            have hL_20 : LTX J47 tb n := f47.lt hL_14
            have hR_21 : RAT J47 tb n (wln tb n (I 96 yw) p9 c9).2.2 := by have w9 := r47; rw [h96j] at w9; exact w9
            have hF_22 : J47 90 10 = -1 := e47
            have hv_23 : FL I J47 := hv_17.w f47
            have q9 : (wln tb n (I 96 yw) p9 c9).1 = -1 := by have w9 := q47; rw [h96j] at w9; exact w9
            have hw_24 : WRel J47 (wln tb n (I 96 yw) p9 c9).2.1 (i + 1) := by have w9 := w47; rw [h96j] at w9; exact w9
            refine WP.go 3 (Exists.intro (i + 1) (And.intro (wrp_a (by omega) (by omega)) (And.intro (And.intro (Nat.le_of_ble_eq_true rfl) (Nat.le_of_ble_eq_true rfl)) (And.intro rfl (?_)))))
            show Call d 189 [vr (some 90) 10] (J47, H) _ _
            refine s_12_skip (by omega) hS hL_20 hR_21 (fun J50 e50 f50 => ?_)
            show WP (Call d) 196 P X (51, [some (vr (some 90) 10), some (vi 2), some (vi 1), some (vi (i + 1))], [], (J50, H), 0, 0)
            have hL_25 : LTX J50 tb n := f50.lt hL_20
            have h_26 : J50 90 9 = (wln tb n (I 96 yw) p9 c9).2.2 := e50
            have hR_27 : RAT J50 tb n (wln tb n (I 96 yw) p9 c9).2.2 := RAT.of hR_21.bd e50
            have hv_28 : FL I J50 := hv_23.n f50
            have hF_29 : J50 90 10 = _ := (f50.1 10 (by omega)).trans hF_22
            have hw_30 : WRel J50 _ _ := f50.wr hw_24
            refine WP.go 2 (And.intro rfl (?_))
            refine rw_i (Q := fun x9 => WP (Call d) 196 P X (53, [some (vr (some 90) 10), some (vi 2), some (vi 1), some (vi (i + 1))], [vi x9], (J50, H), 0, 0)) hF_29 ?_
            show WP (Call d) 196 P X (53, [some (vr (some 90) 10), some (vi 2), some (vi 1), some (vi (i + 1))], [vi (-1)], (J50, H), 0, 0)
            refine WP.go 2 (And.intro (fun (b54 : ¬ (-1) = (-1)) => (absurd b54 (by omega))) (fun (b54 : (-1) = (-1)) => ?_))
            show WP (Call d) 196 P X (55, [some (vr (some 90) 10), some (vi 2), some (vi 1), some (vi (i + 1))], [], (J50, H), 0, 0)
            refine WP.go 1 ?_
            show WP (Call d) 196 P X (56, [some (vr (some 90) 10), some (vi 2), some (vi 1), some (vi (i + 1))], [vr (some 90) 10], (J50, H), 0, 0)
            have h8 : J50 90 8 = n := hL_25.1
            have hpb := hR_27.bd
            have hte := th_3000 hpb.1 hpb.2.1 hL_25.2.2.1
            refine WP.go 1 (And.intro rfl (?_))
            refine rw_i (Q := fun x9 => WP (Call d) 196 P X (57, [some (vr (some 90) 10), some (vi 2), some (vi 1), some (vi (i + 1))], [vi x9], (J50, H), 0, 0)) h_26 ?_
            show WP (Call d) 196 P X (57, [some (vr (some 90) 10), some (vi 2), some (vi 1), some (vi (i + 1))], [vi ((wln tb n (I 96 yw) p9 c9).2.2)], (J50, H), 0, 0)
            refine WP.go 2 (And.intro rfl (?_))
            refine rw_i (Q := fun x9 => WP (Call d) 196 P X (59, [some (vr (some 90) 10), some (vi 2), some (vi 1), some (vi (i + 1))], [vi x9, vi ((wln tb n (I 96 yw) p9 c9).2.2)], (J50, H), 0, 0)) h8 ?_
            show WP (Call d) 196 P X (59, [some (vr (some 90) 10), some (vi 2), some (vi 1), some (vi (i + 1))], [vi n, vi ((wln tb n (I 96 yw) p9 c9).2.2)], (J50, H), 0, 0)
            refine WP.go 1 (And.intro (fun (b59 : ¬ (wln tb n (I 96 yw) p9 c9).2.2 = n) => ?_) (fun (b59 : (wln tb n (I 96 yw) p9 c9).2.2 = n) => ?_))
            ·
              show WP (Call d) 196 P X (63, [some (vr (some 90) 10), some (vi 2), some (vi 1), some (vi (i + 1))], [], (J50, H), 0, 0)
              refine WP.go 3 (And.intro (And.intro (Nat.le_of_ble_eq_true rfl) (Nat.le_of_ble_eq_true rfl)) (And.intro rfl (?_)))
              show Call d 190 [vr (some 90) 10, vi 59] (J50, H) _ _
              refine s_12_isSign (by omega) hS hL_25 hR_27 ⟨by omega, by unfold isL; omega, by unfold isD; omega⟩ (fun J65 e65 f65 => ?_)
              show WP (Call d) 196 P X (66, [some (vr (some 90) 10), some (vi 2), some (vi 1), some (vi (i + 1))], [vi (bz (th tb n (wln tb n (I 96 yw) p9 c9).2.2 = 2000 + 59))], (J65, H), 0, 0)
              have hL_31 : LTX J65 tb n := f65.lt hL_25
              have hR_32 : RAT J65 tb n (wln tb n (I 96 yw) p9 c9).2.2 := RAT.of hR_27.bd e65
              have h_33 : J65 90 9 = (wln tb n (I 96 yw) p9 c9).2.2 := e65
              have hv_34 : FL I J65 := hv_28.n f65
              have hF_35 : J65 90 10 = _ := (f65.1 10 (by omega)).trans hF_29
              have hw_36 : WRel J65 _ _ := f65.wr hw_30
              refine WP.go 1 (And.intro (fun (b66 : bz (th tb n (wln tb n (I 96 yw) p9 c9).2.2 = 2000 + 59) = 0) => ?_) (fun (b66 : ¬ bz (th tb n (wln tb n (I 96 yw) p9 c9).2.2 = 2000 + 59) = 0) => ?_))
              ·
                show WP (Call d) 196 P X (74, [some (vr (some 90) 10), some (vi 2), some (vi 1), some (vi (i + 1))], [], (J65, H), 0, 0)
                have z66 := bz_e0.mp b66
                refine WP.go 3 (And.intro rfl (?_))
                refine rw_i (Q := fun x9 => WP (Call d) 196 P X (77, [some (vr (some 90) 10), some (vi 2), some (vi 1), some (vi (i + 1))], [vi x9, vr (some 90) 10], (J65, H), 0, 0)) h_33 ?_
                show WP (Call d) 196 P X (77, [some (vr (some 90) 10), some (vi 2), some (vi 1), some (vi (i + 1))], [vi ((wln tb n (I 96 yw) p9 c9).2.2), vr (some 90) 10], (J65, H), 0, 0)
                refine WP.go 1 (And.intro (And.intro (Nat.le_of_ble_eq_true rfl) (Nat.le_of_ble_eq_true rfl)) (And.intro rfl (?_)))
                show Call d 192 [vr (some 90) 10, vi ((wln tb n (I 96 yw) p9 c9).2.2)] (J65, H) _ _
                refine s_12_wrong (by omega) hF_35 (fun J77 e77 f77 => ?_)
                show WP (Call d) 196 P X (78, [some (vr (some 90) 10), some (vi 2), some (vi 1), some (vi (i + 1))], [], (J77, H), 0, 0)
                have hF_37 : J77 90 10 = ((wln tb n (I 96 yw) p9 c9).2.2) := by rw [e77]; rfl
                have hv_38 : FL I J77 := hv_34.o (.inr (.inl rfl)) e77 f77
                have hL_39 : LTX J77 tb n := hL_31.fr (by rw [e77]; rfl) (by rw [e77]; rfl) (f77 94 (by omega)) (f77 91 (by omega))
                have hR_40 : RAT J77 tb n (wln tb n (I 96 yw) p9 c9).2.2 := hR_32.cp (by rw [e77]; rfl)
                have hw_41 : WRel J77 _ _ := hw_36.fr (by rw [e77]; rfl) (by rw [e77]; rfl) (by rw [e77]; rfl)
                refine WP.go 1 ?_
                show WP (Call d) 196 P X (19, [some (vr (some 90) 10), some (vi 2), some (vi 1), some (vi (i + 1))], [], (J77, H), 0, 0)
                refine WP.go 2 (And.intro (fun (b20 : 1 = 0) => (absurd b20 (by omega))) (fun (b20 : ¬ 1 = 0) => ?_))
                show WP (Call d) 196 P X (21, [some (vr (some 90) 10), some (vi 2), some (vi 1), some (vi (i + 1))], [], (J77, H), 0, 0)
                refine WP.go 2 (And.intro rfl (?_))
                refine rw_i (Q := fun x9 => WP (Call d) 196 P X (23, [some (vr (some 90) 10), some (vi 2), some (vi 1), some (vi (i + 1))], [vi x9], (J77, H), 0, 0)) hF_37 ?_
                show WP (Call d) 196 P X (23, [some (vr (some 90) 10), some (vi 2), some (vi 1), some (vi (i + 1))], [vi ((wln tb n (I 96 yw) p9 c9).2.2)], (J77, H), 0, 0)
                refine WP.go 2 (And.intro (fun (b24 : ¬ ((wln tb n (I 96 yw) p9 c9).2.2) = (-1)) => ?_) (fun (b24 : ((wln tb n (I 96 yw) p9 c9).2.2) = (-1)) => (absurd b24 (by omega))))
                show WP (Call d) 196 P X (79, [some (vr (some 90) 10), some (vi 2), some (vi 1), some (vi (i + 1))], [], (J77, H), 0, 0)
                refine WP.go 1 (And.intro (And.intro (Nat.le_of_ble_eq_true rfl) (Nat.le_of_ble_eq_true rfl)) (?_))
                show P none (J77, H)
                have r9 : (lnT tb n (wln tb n (I 96 yw)) c) = ((wln tb n (I 96 yw) p9 c9).2.2, (wln tb n (I 96 yw) p9 c9).2.1) := kv7.trans (by rw [lnL_s (by omega), if_neg (fun z => z q9), if_neg (fun z => b59 (hte.mp z)), if_neg (show ¬ th tb n (wln tb n (I 96 yw) p9 c9).2.2 = 2059 from z66)])
                exact h _ hv_38 (by rw [r9]; exact hF_37) (fun q => absurd q (by rw [r9]; show (wln tb n (I 96 yw) p9 c9).2.2 ≠ -1; omega))
              ·
                show WP (Call d) 196 P X (67, [some (vr (some 90) 10), some (vi 2), some (vi 1), some (vi (i + 1))], [], (J65, H), 0, 0)
                have z66 := bz_e1.mp b66
                refine WP.go 3 (And.intro rfl (?_))
                refine rw_i (Q := fun x9 => WP (Call d) 196 P X (70, [some (vr (some 90) 10), some (vi 2), some (vi 1), some (vi (i + 1))], [vi x9, vr (some 90) 10], (J65, H), 0, 0)) h_33 ?_
                show WP (Call d) 196 P X (70, [some (vr (some 90) 10), some (vi 2), some (vi 1), some (vi (i + 1))], [vi ((wln tb n (I 96 yw) p9 c9).2.2), vr (some 90) 10], (J65, H), 0, 0)
                refine WP.go 3 (Exists.intro (((wln tb n (I 96 yw) p9 c9).2.2) + 1) (And.intro (wrp_a (by omega) (by omega)) (And.intro (And.intro rfl trivial) (?_))))
                show WP (Call d) 196 P X (73, [some (vr (some 90) 10), some (vi 2), some (vi 1), some (vi (i + 1))], [], ((upI J65 90 9 (((wln tb n (I 96 yw) p9 c9).2.2) + 1)), H), 0, 0)
                generalize hq_B0 : (upI J65 90 9 (((wln tb n (I 96 yw) p9 c9).2.2) + 1)) = B0
                have e_B0 : B0 90 = (fun j => if j = 9 then (((wln tb n (I 96 yw) p9 c9).2.2) + 1) else J65 90 j) := by rw [← hq_B0]; exact upI_self _ _ _ _
                have f_B0 : ∀ a, a ≠ 90 → B0 a = J65 a := fun a q => by rw [← hq_B0]; exact upI_cell q
                have hv_42 : FL I B0 := hv_34.o (.inl rfl) e_B0 f_B0
                have hL_43 : LTX B0 tb n := hL_31.fr (by rw [e_B0]; rfl) (by rw [e_B0]; rfl) (f_B0 94 (by omega)) (f_B0 91 (by omega))
                have hF_44 : B0 90 10 = -1 := by rw [e_B0]; exact hF_35
                have b99 : B0 90 9 = (wln tb n (I 96 yw) p9 c9).2.2 + 1 := by rw [e_B0]; rfl
                have s99 := nx_semi hpb.1 hpb.2.1 hL_43.2.2.1 (c := 59) ⟨by omega, by unfold isL; omega, by unfold isD; omega⟩ z66
                have hR_45 : RAT B0 tb n (nx tb n (wln tb n (I 96 yw) p9 c9).2.2) := ⟨by rw [b99]; omega, by rw [b99]; exact s99.2.symm⟩
                have hw_46 : WRel B0 _ _ := hw_36.fr (by rw [e_B0]; rfl) (by rw [e_B0]; rfl) (by rw [e_B0]; rfl)
                refine WP.go 1 ?_
                show WP (Call d) 196 P X (19, [some (vr (some 90) 10), some (vi 2), some (vi 1), some (vi (i + 1))], [], (B0, H), 0, 0)
                exact ih19 B0 (i + 1) ((wln tb n (I 96 yw) p9 c9).2.1) (nx tb n (wln tb n (I 96 yw) p9 c9).2.2) (by omega) (by omega) hL_43 hR_45 hF_44 hw_46 (wln_c kv5) hv_42 (kv7.trans (by rw [lnL_s (by omega), if_neg (fun z => z q9), if_neg (fun z => b59 (hte.mp z)), if_pos (show th tb n (wln tb n (I 96 yw) p9 c9).2.2 = 2059 from z66)]))
            ·
              show WP (Call d) 196 P X (60, [some (vr (some 90) 10), some (vi 2), some (vi 1), some (vi (i + 1))], [], (J50, H), 0, 0)
              refine WP.go 3 ?_
              show WP (Call d) 196 P X (19, [some (vr (some 90) 10), some (vi 2), some (vi 0), some (vi (i + 1))], [], (J50, H), 0, 0)
              refine WP.go 2 (And.intro (fun (b20 : 0 = 0) => ?_) (fun (b20 : ¬ 0 = 0) => (absurd b20 (by omega))))
              show WP (Call d) 196 P X (79, [some (vr (some 90) 10), some (vi 2), some (vi 0), some (vi (i + 1))], [], (J50, H), 0, 0)
              refine WP.go 1 (And.intro (And.intro (Nat.le_of_ble_eq_true rfl) (Nat.le_of_ble_eq_true rfl)) (?_))
              show P none (J50, H)
              have r9 : (lnT tb n (wln tb n (I 96 yw)) c) = (-1, (wln tb n (I 96 yw) p9 c9).2.1) := kv7.trans (by rw [lnL_s (by omega), if_neg (fun z => z q9), if_pos (hte.mpr b59)])
              exact h _ hv_28 (by rw [r9]; exact hF_29) (fun _ => by rw [r9]; exact hw_30.le (by omega))
          ·
            show WP (Call d) 196 P X (48, [some (vr (some 90) 10), some (vi 2), some (vi 1), some (vi i)], [], (J47_1, H), 0, 0)
            have hL_47 : LTX J47_1 tb n := f47_1.lt hL_14
            have hF_48 : J47_1 90 10 = (wln tb n (I 96 yw) p9 c9).1 := by have w9 := e47_1; rw [h96j] at w9; exact w9
            have hv_49 : FL I J47_1 := hv_17.w f47_1
            have hR_50 : RAT J47_1 tb n (sk tb n (J47_1 90 9)) := ⟨b47, rfl⟩
            have q9 : (wln tb n (I 96 yw) p9 c9).1 ≠ -1 := by have w9 := q47_1; rw [h96j] at w9; exact w9
            refine WP.go 3 (Exists.intro (i + 1) (And.intro (wrp_a (by omega) (by omega)) (And.intro (And.intro (Nat.le_of_ble_eq_true rfl) (Nat.le_of_ble_eq_true rfl)) (And.intro rfl (?_)))))
            show Call d 189 [vr (some 90) 10] (J47_1, H) _ _
            refine s_12_skip (by omega) hS hL_47 hR_50 (fun J50_1 e50_1 f50_1 => ?_)
            show WP (Call d) 196 P X (51, [some (vr (some 90) 10), some (vi 2), some (vi 1), some (vi (i + 1))], [], (J50_1, H), 0, 0)
            have hL_51 : LTX J50_1 tb n := f50_1.lt hL_47
            have h_52 : J50_1 90 9 = (sk tb n (J47_1 90 9)) := e50_1
            have hR_53 : RAT J50_1 tb n (sk tb n (J47_1 90 9)) := RAT.of hR_50.bd e50_1
            have hv_54 : FL I J50_1 := hv_49.n f50_1
            have hF_55 : J50_1 90 10 = _ := (f50_1.1 10 (by omega)).trans hF_48
            refine WP.go 2 (And.intro rfl (?_))
            refine rw_i (Q := fun x9 => WP (Call d) 196 P X (53, [some (vr (some 90) 10), some (vi 2), some (vi 1), some (vi (i + 1))], [vi x9], (J50_1, H), 0, 0)) hF_55 ?_
            show WP (Call d) 196 P X (53, [some (vr (some 90) 10), some (vi 2), some (vi 1), some (vi (i + 1))], [vi ((wln tb n (I 96 yw) p9 c9).1)], (J50_1, H), 0, 0)
            refine WP.go 2 (And.intro (fun (b54 : ¬ (wln tb n (I 96 yw) p9 c9).1 = (-1)) => ?_) (fun (b54 : (wln tb n (I 96 yw) p9 c9).1 = (-1)) => (absurd b54 (by omega))))
            show WP (Call d) 196 P X (60, [some (vr (some 90) 10), some (vi 2), some (vi 1), some (vi (i + 1))], [], (J50_1, H), 0, 0)
            refine WP.go 3 ?_
            show WP (Call d) 196 P X (19, [some (vr (some 90) 10), some (vi 2), some (vi 0), some (vi (i + 1))], [], (J50_1, H), 0, 0)
            refine WP.go 2 (And.intro (fun (b20 : 0 = 0) => ?_) (fun (b20 : ¬ 0 = 0) => (absurd b20 (by omega))))
            show WP (Call d) 196 P X (79, [some (vr (some 90) 10), some (vi 2), some (vi 0), some (vi (i + 1))], [], (J50_1, H), 0, 0)
            refine WP.go 1 (And.intro (And.intro (Nat.le_of_ble_eq_true rfl) (Nat.le_of_ble_eq_true rfl)) (?_))
            show P none (J50_1, H)
            have r9 : (lnT tb n (wln tb n (I 96 yw)) c) = ((wln tb n (I 96 yw) p9 c9).1, (wln tb n (I 96 yw) p9 c9).2.1) := kv7.trans (by rw [lnL_s (by omega), if_pos q9])
            exact h _ hv_54 (by rw [r9]; exact hF_55) (fun q => absurd q (by rw [r9]; exact q9))
        ·
          show WP (Call d) 196 P X (30, [some (vr (some 90) 10), some (vi 2), some (vi 1), some (vi i)], [], (J26, H), 0, 0)
          refine WP.go 3 (And.intro rfl (?_))
          refine rw_i (Q := fun x9 => WP (Call d) 196 P X (33, [some (vr (some 90) 10), some (vi 2), some (vi 1), some (vi i)], [vi x9, vr (some 90) 10], (J26, H), 0, 0)) h_15 ?_
          show WP (Call d) 196 P X (33, [some (vr (some 90) 10), some (vi 2), some (vi 1), some (vi i)], [vi p9, vr (some 90) 10], (J26, H), 0, 0)
          refine WP.go 1 (And.intro (And.intro (Nat.le_of_ble_eq_true rfl) (Nat.le_of_ble_eq_true rfl)) (And.intro rfl (?_)))
          show Call d 192 [vr (some 90) 10, vi p9] (J26, H) _ _
          refine s_12_wrong (by omega) hF_18 (fun J33 e33 f33 => ?_)
          show WP (Call d) 196 P X (34, [some (vr (some 90) 10), some (vi 2), some (vi 1), some (vi i)], [], (J33, H), 0, 0)
          have hF_56 : J33 90 10 = p9 := by rw [e33]; rfl
          have hv_57 : FL I J33 := hv_17.o (.inr (.inl rfl)) e33 f33
          have hL_58 : LTX J33 tb n := hL_14.fr (by rw [e33]; rfl) (by rw [e33]; rfl) (f33 94 (by omega)) (f33 91 (by omega))
          have hR_59 : RAT J33 tb n p9 := hR_16.cp (by rw [e33]; rfl)
          have hw_60 : WRel J33 _ _ := hw_19.fr (by rw [e33]; rfl) (by rw [e33]; rfl) (by rw [e33]; rfl)
          refine WP.go 4 (Exists.intro (i + 1) (And.intro (wrp_a (by omega) (by omega)) (And.intro (And.intro (Nat.le_of_ble_eq_true rfl) (Nat.le_of_ble_eq_true rfl)) (And.intro rfl (?_)))))
          show Call d 189 [vr (some 90) 10] (J33, H) _ _
          refine s_12_skip (by omega) hS hL_58 hR_59 (fun J50_2 e50_2 f50_2 => ?_)
          show WP (Call d) 196 P X (51, [some (vr (some 90) 10), some (vi 2), some (vi 1), some (vi (i + 1))], [], (J50_2, H), 0, 0)
          have hL_61 : LTX J50_2 tb n := f50_2.lt hL_58
          have h_62 : J50_2 90 9 = p9 := e50_2
          have hR_63 : RAT J50_2 tb n p9 := RAT.of hR_59.bd e50_2
          have hv_64 : FL I J50_2 := hv_57.n f50_2
          have hF_65 : J50_2 90 10 = _ := (f50_2.1 10 (by omega)).trans hF_56
          have hw_66 : WRel J50_2 _ _ := f50_2.wr hw_60
          refine WP.go 2 (And.intro rfl (?_))
          refine rw_i (Q := fun x9 => WP (Call d) 196 P X (53, [some (vr (some 90) 10), some (vi 2), some (vi 1), some (vi (i + 1))], [vi x9], (J50_2, H), 0, 0)) hF_65 ?_
          show WP (Call d) 196 P X (53, [some (vr (some 90) 10), some (vi 2), some (vi 1), some (vi (i + 1))], [vi p9], (J50_2, H), 0, 0)
          refine WP.go 2 (And.intro (fun (b54 : ¬ p9 = (-1)) => ?_) (fun (b54 : p9 = (-1)) => (absurd b54 (by omega))))
          show WP (Call d) 196 P X (60, [some (vr (some 90) 10), some (vi 2), some (vi 1), some (vi (i + 1))], [], (J50_2, H), 0, 0)
          refine WP.go 3 ?_
          show WP (Call d) 196 P X (19, [some (vr (some 90) 10), some (vi 2), some (vi 0), some (vi (i + 1))], [], (J50_2, H), 0, 0)
          refine WP.go 2 (And.intro (fun (b20 : 0 = 0) => ?_) (fun (b20 : ¬ 0 = 0) => (absurd b20 (by omega))))
          show WP (Call d) 196 P X (79, [some (vr (some 90) 10), some (vi 2), some (vi 0), some (vi (i + 1))], [], (J50_2, H), 0, 0)
          refine WP.go 1 (And.intro (And.intro (Nat.le_of_ble_eq_true rfl) (Nat.le_of_ble_eq_true rfl)) (?_))
          show P none (J50_2, H)
          have b9 := kv2.bd
          have r9 : (lnT tb n (wln tb n (I 96 yw)) c) = (p9, c9) := kv7.trans (lnL_0 (by omega))
          exact h _ hv_64 (by rw [r9]; exact hF_65) (fun q => absurd q (by rw [r9]; show p9 ≠ -1; omega))
    exact lp19 ((13 - 0 : Int).toNat + 1) J7 0 c (sk tb n 0) (by omega) (by omega) hL_8 hR_10 hF_12 hw_13 hcc hv_11 (if_neg (fun q => by have b := hR_10.bd; have := (th_3000 b.1 b.2.1 hL_8.2.2.1).mp q; omega))

