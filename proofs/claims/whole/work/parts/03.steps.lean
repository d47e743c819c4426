/-! THE ABSTRACT MACHINE'S LAWS -/
theorem swt_mono {K K' : Nat → Prop} (h : ∀ t, K t → K' t) (a : Int) : ∀ (l : List Nat) (v : Int), swt K a v l → swt K' a v l
  | [], _, _ => trivial
  | t :: l, v, q => ⟨fun e => h t (q.1 e), swt_mono h a l (v + 1) q.2⟩
theorem bf_mono {b : Bool} {A A' : Prop} (h : A → A') : (bif b then A else False) → (bif b then A' else False) := by
  cases b with
  | false => exact id
  | true => exact h
def mono (C : qC) : Prop := ∀ (M : Nat) (as : List qV) (g : qH) (P P' : Option qV → qH → Prop) (X X' : Nat → qH → Prop), (∀ v g, P v g → P' v g) → (∀ E g, X E g → X' E g) → C M as g P X → C M as g P' X'
set_option maxHeartbeats 4000000 in
theorem stA_mono {C : qC} (hC : mono C) {M : Nat} {P P' : Option qV → qH → Prop} {X X' : Nat → qH → Prop} (hP : ∀ v g, P v g → P' v g) (hX : ∀ E g, X E g → X' E g) {K K' : qT → Prop} (hK : ∀ t, K t → K' t) (op : Nat) (z : Int) (p q r n : Nat) (L : List (Option qV)) (S : List qV) (I : qI) (H : qS) (c s : Nat) :
    stA C M P X op z p q r n L S I H c s K → stA C M P' X' op z p q r n L S I H c s K' := by
  have hx : ∀ (E : Nat) (g : qH), (bif nth r then False else match hfd n E (hnd M) with | some y => P (some (vi y)) g | none => X E g) → (bif nth r then False else match hfd n E (hnd M) with | some y => P' (some (vi y)) g | none => X' E g) := by
    intro E g
    cases nth r with
    | true => exact id
    | false =>
      cases hfd n E (hnd M) with
      | none => exact hX E g
      | some y => exact hP _ g
  intro h
  unfold stA at h
  split at h
  case h_69 => exact h.elim
  case h_29 =>
    exact ⟨h.1, h.2.1, bf_mono (fun h2 => hC _ _ _ _ _ _ _ (fun v g hk => hK _ hk) hx h2) h.2.2⟩
  case h_53 =>
    split at h
    · exact ⟨fun e => hK _ (h.1 e), swt_mono (fun t => hK _) _ _ _ h.2⟩
    · exact h.elim
  case h_61 =>
    refine ⟨h.1, ?_⟩
    have h2 := h.2
    revert h2
    cases Nat.ble S.length 4 with
    | false => exact id
    | true => exact fun h2 => hX _ _ h2
  case h_68 =>
    split at h
    · rename_i a k S'
      split at h
      case h_4 => exact h.elim
      all_goals
        refine ⟨h.1, ?_⟩
        have h2 := h.2
        revert h2
        cases Nat.ble _ 4 with
        | false => exact id
        | true => exact fun h2 => hC _ _ _ _ _ _ _ (fun v g hk => hK _ hk) (fun _ _ q => q) h2
    · exact h.elim
  all_goals first
    | exact hK _ h
    | exact ⟨h.1, hK _ h.2⟩
    | (split at h <;> first | exact h.elim | exact hK _ h | exact ⟨h.1, hK _ h.2⟩ | exact ⟨h.1, hP _ _ h.2⟩ | exact bf_mono (hK _) h | exact ⟨h.1, bf_mono (hK _) h.2⟩ | (obtain ⟨v, h1, h2⟩ := h; exact ⟨v, h1, bf_mono (hK _) h2⟩) | exact ⟨h.1, h.2.1, hP _ _ h.2.2⟩ | (obtain ⟨v, h1, h2⟩ := h; exact ⟨v, h1, hK _ h2⟩) | (obtain ⟨h0, v, h1, h2⟩ := h; exact ⟨h0, v, h1, hK _ h2⟩) | (split at h <;> first | exact h.elim | exact hK _ h | exact ⟨fun e => hK _ (h.1 e), fun e => hK _ (h.2 e)⟩) | (rename_i heq; unfold stA; simp only [heq]; first | exact hK _ h | (obtain ⟨v, h1, h2⟩ := h; exact ⟨v, h1, hK _ h2⟩)) | (unfold stA; revert h; cases lnl L p with | false => exact id | true => exact fun h => hK _ h))

theorem stp_mono {C : qC} (hC : mono C) {M : Nat} {P P' : Option qV → qH → Prop} {X X' : Nat → qH → Prop} (hP : ∀ v g, P v g → P' v g) (hX : ∀ E g, X E g → X' E g) {K K' : qT → Prop} (hK : ∀ t, K t → K' t) (t : qT) : stp C M P X t K → stp C M P' X' t K' := by
  unfold stp
  exact stA_mono hC hP hX hK _ _ _ _ _ _ _ _ _ _ _ _
theorem WP.step {C : qC} (hC : mono C) {M : Nat} {P : Option qV → qH → Prop} {X : Nat → qH → Prop} {t : qT} (h : stp C M P X t (WP C M P X)) : WP C M P X t := by
  intro Z hZ
  exact hZ t (stp_mono hC (fun _ _ q => q) (fun _ _ q => q) (fun u (q : WP C M P X u) => q Z hZ) t h)
theorem WP.mono {C : qC} (hC : mono C) {M : Nat} {P P' : Option qV → qH → Prop} {X X' : Nat → qH → Prop} (hP : ∀ v g, P v g → P' v g) (hX : ∀ E g, X E g → X' E g) {t : qT} (h : WP C M P X t) : WP C M P' X' t := by
  intro Z hZ
  exact h Z (fun u q => hZ u (stp_mono hC hP hX (fun _ x => x) u q))
theorem Call.mono : ∀ d : Nat, _root_.Jvm.Pilot.@@N@@.mono (Call d)
  | 0 => fun _ _ _ _ _ _ _ _ _ h => h
  | d + 1 => fun _ _ _ _ _ _ _ hP hX h => WP.mono (Call.mono d) hP hX h
theorem WP.go {d M : Nat} {P : Option qV → qH → Prop} {X : Nat → qH → Prop} : ∀ (k : Nat) {t : qT}, rnn (Call d) M P X (WP (Call d) M P X) k t → WP (Call d) M P X t
  | 0, _, h => h
  | k + 1, t, h => WP.step (Call.mono d) (stp_mono (Call.mono d) (fun _ _ q => q) (fun _ _ q => q) (fun u (q : rnn (Call d) M P X (WP (Call d) M P X) k u) => WP.go k q) t h)
