/-! the law's end -/
theorem law_end {G : qG} {s t : State} {below : List Frame} {a9 : Array Value} (hG : G.2.2.1 = s.heap.size) (h : vx_MQ below (PostQ G (fun v _ => v = some (vi 1))) (PostX G (fun _ _ => False)) a9 s (mcM 299) (msM 299) (gA G) t) :
    ∃ o, t.status = .running ∧ Ended t below o ∧ o = .returned (some (.int 1)) ∧ Framed s o t [] 601024 7293034 := by
  obtain ⟨o, h1, h2, h3⟩ := h
  rcases h3 with ⟨⟨v, g, ad, ho, hv, -⟩, L, ⟨hr, hW, hs⟩, hL⟩ | ⟨q, -, E, ce, L, ⟨k, g, ad, -, -, hf, -⟩, -⟩
  · refine ⟨o, h1, h2, by rw [ho, hv]; rfl, hr, hW, ?_⟩
    obtain ⟨e1, e2, e3, e4, e5, e6⟩ := hs
    refine ⟨e1, e2, e3, e4, e5, fun a c h => ?_⟩
    obtain ⟨c9, r1, r2, r3, r4⟩ := e6 a c h
    refine ⟨c9, r1, r2, r3, fun i hi => r4 i (fun hm => ?_)⟩
    have q1 : G.2.2.1 ≤ a := hL _ hm
    have q2 := (Array.getElem?_eq_some_iff.mp h).1
    omega
  · exact hf.elim
