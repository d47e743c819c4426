theorem s_size_houses {d : Nat} {P : Option qV → qH → Prop} {X : Nat → qH → Prop} {I : qI} {H : qS} {n : Nat} {μ : Int → Int} (hd : 1 ≤ d) (hT : TR n I μ) (h : P (some (vi (μ 1))) (I, H)) : Call d 55 [vr (some (n + 1)) 4] (I, H) P X := s_5_size hd hT.r1 h
theorem s_has_houses {d : Nat} {P : Option qV → qH → Prop} {X : Nat → qH → Prop} {I : qI} {H : qS} {n : Nat} {μ : Int → Int} {r : Int} (hd : 1 ≤ d) (hT : TR n I μ) (h : P (some (vi (bz (0 ≤ r ∧ r < μ 1)))) (I, H)) : Call d 56 [vr (some (n + 1)) 4, vi r] (I, H) P X := s_5_has hd hT.r1 h
theorem s_hasRoom_houses {d : Nat} {P : Option qV → qH → Prop} {X : Nat → qH → Prop} {I : qI} {H : qS} {n : Nat} {μ : Int → Int} (hd : 1 ≤ d) (hT : TR n I μ) (h : P (some (vi (bz (μ 1 < 10)))) (I, H)) : Call d 57 [vr (some (n + 1)) 4] (I, H) P X := s_5_hasRoom hd hT.c.a1 hT.r1 h
theorem s_get_houses0 {d : Nat} {P : Option qV → qH → Prop} {X : Nat → qH → Prop} {I : qI} {H : qS} {n : Nat} {μ : Int → Int} {r : Int} (hd : 1 ≤ d) (hS : Shp H) (hn : isT n) (hT : TR n I μ) (hV : IM μ) (hr : 0 ≤ r ∧ r < μ 1) (h : P (some (vi (μ (120 + 2 * r)))) (I, H)) : Call d 58 [vr (some (n + 1)) 4, vi r, vi 0] (I, H) P X := by
  have := hV.n1
  exact s_5_get_w2 hd (hS.u0 hn) hT.c.b1 hT.r1 (hS.ul0 hn) hr (by omega) (by omega) (fin_i (hT.q1 r hr.1 hr.2).1 h)
theorem s_get_houses1 {d : Nat} {P : Option qV → qH → Prop} {X : Nat → qH → Prop} {I : qI} {H : qS} {n : Nat} {μ : Int → Int} {r : Int} (hd : 1 ≤ d) (hS : Shp H) (hn : isT n) (hT : TR n I μ) (hV : IM μ) (hr : 0 ≤ r ∧ r < μ 1) (h : P (some (vi (μ (121 + 2 * r)))) (I, H)) : Call d 58 [vr (some (n + 1)) 4, vi r, vi 1] (I, H) P X := by
  have := hV.n1
  exact s_5_get_w2 hd (hS.u0 hn) hT.c.b1 hT.r1 (hS.ul0 hn) hr (by omega) (by omega) (fin_i (hT.q1 r hr.1 hr.2).2 h)
theorem s_size_windows {d : Nat} {P : Option qV → qH → Prop} {X : Nat → qH → Prop} {I : qI} {H : qS} {n : Nat} {μ : Int → Int} (hd : 1 ≤ d) (hT : TR n I μ) (h : P (some (vi (μ 2))) (I, H)) : Call d 55 [vr (some (n + 3)) 4] (I, H) P X := s_5_size hd hT.r3 h
theorem s_has_windows {d : Nat} {P : Option qV → qH → Prop} {X : Nat → qH → Prop} {I : qI} {H : qS} {n : Nat} {μ : Int → Int} {r : Int} (hd : 1 ≤ d) (hT : TR n I μ) (h : P (some (vi (bz (0 ≤ r ∧ r < μ 2)))) (I, H)) : Call d 56 [vr (some (n + 3)) 4, vi r] (I, H) P X := s_5_has hd hT.r3 h
theorem s_hasRoom_windows {d : Nat} {P : Option qV → qH → Prop} {X : Nat → qH → Prop} {I : qI} {H : qS} {n : Nat} {μ : Int → Int} (hd : 1 ≤ d) (hT : TR n I μ) (h : P (some (vi (bz (μ 2 < 20)))) (I, H)) : Call d 57 [vr (some (n + 3)) 4] (I, H) P X := s_5_hasRoom hd hT.c.a3 hT.r3 h
theorem s_get_windows0 {d : Nat} {P : Option qV → qH → Prop} {X : Nat → qH → Prop} {I : qI} {H : qS} {n : Nat} {μ : Int → Int} {r : Int} (hd : 1 ≤ d) (hS : Shp H) (hn : isT n) (hT : TR n I μ) (hV : IM μ) (hr : 0 ≤ r ∧ r < μ 2) (h : P (some (vi (μ (140 + 3 * r)))) (I, H)) : Call d 58 [vr (some (n + 3)) 4, vi r, vi 0] (I, H) P X := by
  have := hV.n2
  exact s_5_get_w3 hd (hS.u1 hn) hT.c.b3 hT.r3 (hS.ul1 hn) hr (by omega) (by omega) (fin_i (hT.q3 r hr.1 hr.2).1 h)
theorem s_get_windows1 {d : Nat} {P : Option qV → qH → Prop} {X : Nat → qH → Prop} {I : qI} {H : qS} {n : Nat} {μ : Int → Int} {r : Int} (hd : 1 ≤ d) (hS : Shp H) (hn : isT n) (hT : TR n I μ) (hV : IM μ) (hr : 0 ≤ r ∧ r < μ 2) (h : P (some (vi (μ (141 + 3 * r)))) (I, H)) : Call d 58 [vr (some (n + 3)) 4, vi r, vi 1] (I, H) P X := by
  have := hV.n2
  exact s_5_get_w3 hd (hS.u1 hn) hT.c.b3 hT.r3 (hS.ul1 hn) hr (by omega) (by omega) (fin_i (hT.q3 r hr.1 hr.2).2.1 h)
theorem s_get_windows2 {d : Nat} {P : Option qV → qH → Prop} {X : Nat → qH → Prop} {I : qI} {H : qS} {n : Nat} {μ : Int → Int} {r : Int} (hd : 1 ≤ d) (hS : Shp H) (hn : isT n) (hT : TR n I μ) (hV : IM μ) (hr : 0 ≤ r ∧ r < μ 2) (h : P (some (vi (μ (142 + 3 * r)))) (I, H)) : Call d 58 [vr (some (n + 3)) 4, vi r, vi 2] (I, H) P X := by
  have := hV.n2
  exact s_5_get_w3 hd (hS.u1 hn) hT.c.b3 hT.r3 (hS.ul1 hn) hr (by omega) (by omega) (fin_i (hT.q3 r hr.1 hr.2).2.2 h)
theorem s_size_families {d : Nat} {P : Option qV → qH → Prop} {X : Nat → qH → Prop} {I : qI} {H : qS} {n : Nat} {μ : Int → Int} (hd : 1 ≤ d) (hT : TR n I μ) (h : P (some (vi (μ 1))) (I, H)) : Call d 55 [vr (some (n + 5)) 4] (I, H) P X := s_5_size hd hT.r5 h
theorem s_has_families {d : Nat} {P : Option qV → qH → Prop} {X : Nat → qH → Prop} {I : qI} {H : qS} {n : Nat} {μ : Int → Int} {r : Int} (hd : 1 ≤ d) (hT : TR n I μ) (h : P (some (vi (bz (0 ≤ r ∧ r < μ 1)))) (I, H)) : Call d 56 [vr (some (n + 5)) 4, vi r] (I, H) P X := s_5_has hd hT.r5 h
theorem s_hasRoom_families {d : Nat} {P : Option qV → qH → Prop} {X : Nat → qH → Prop} {I : qI} {H : qS} {n : Nat} {μ : Int → Int} (hd : 1 ≤ d) (hT : TR n I μ) (h : P (some (vi (bz (μ 1 < 10)))) (I, H)) : Call d 57 [vr (some (n + 5)) 4] (I, H) P X := s_5_hasRoom hd hT.c.a5 hT.r5 h
theorem s_get_families0 {d : Nat} {P : Option qV → qH → Prop} {X : Nat → qH → Prop} {I : qI} {H : qS} {n : Nat} {μ : Int → Int} {r : Int} (hd : 1 ≤ d) (hS : Shp H) (hn : isT n) (hT : TR n I μ) (hV : IM μ) (hr : 0 ≤ r ∧ r < μ 1) (h : P (some (vi (μ (210 + 2 * r)))) (I, H)) : Call d 58 [vr (some (n + 5)) 4, vi r, vi 0] (I, H) P X := by
  have := hV.n1
  exact s_5_get_w3 hd (hS.u2 hn) hT.c.b5 hT.r5 (hS.ul2 hn) hr (by omega) (by omega) (fin_i (hT.q5 r hr.1 hr.2).1 h)
theorem s_get_families1 {d : Nat} {P : Option qV → qH → Prop} {X : Nat → qH → Prop} {I : qI} {H : qS} {n : Nat} {μ : Int → Int} {r : Int} (hd : 1 ≤ d) (hS : Shp H) (hn : isT n) (hT : TR n I μ) (hV : IM μ) (hr : 0 ≤ r ∧ r < μ 1) (h : P (some (vi (μ (211 + 2 * r)))) (I, H)) : Call d 58 [vr (some (n + 5)) 4, vi r, vi 1] (I, H) P X := by
  have := hV.n1
  exact s_5_get_w3 hd (hS.u2 hn) hT.c.b5 hT.r5 (hS.ul2 hn) hr (by omega) (by omega) (fin_i (hT.q5 r hr.1 hr.2).2.1 h)
theorem s_get_families2 {d : Nat} {P : Option qV → qH → Prop} {X : Nat → qH → Prop} {I : qI} {H : qS} {n : Nat} {μ : Int → Int} {r : Int} (hd : 1 ≤ d) (hS : Shp H) (hn : isT n) (hT : TR n I μ) (hV : IM μ) (hr : 0 ≤ r ∧ r < μ 1) (h : P (some (vi (μ (200 + r)))) (I, H)) : Call d 58 [vr (some (n + 5)) 4, vi r, vi 2] (I, H) P X := by
  have := hV.n1
  exact s_5_get_w3 hd (hS.u2 hn) hT.c.b5 hT.r5 (hS.ul2 hn) hr (by omega) (by omega) (fin_i (hT.q5 r hr.1 hr.2).2.2 h)
theorem s_size_lets {d : Nat} {P : Option qV → qH → Prop} {X : Nat → qH → Prop} {I : qI} {H : qS} {n : Nat} {μ : Int → Int} (hd : 1 ≤ d) (hT : TR n I μ) (h : P (some (vi (μ 4))) (I, H)) : Call d 55 [vr (some (n + 7)) 4] (I, H) P X := s_5_size hd hT.r7 h
theorem s_has_lets {d : Nat} {P : Option qV → qH → Prop} {X : Nat → qH → Prop} {I : qI} {H : qS} {n : Nat} {μ : Int → Int} {r : Int} (hd : 1 ≤ d) (hT : TR n I μ) (h : P (some (vi (bz (0 ≤ r ∧ r < μ 4)))) (I, H)) : Call d 56 [vr (some (n + 7)) 4, vi r] (I, H) P X := s_5_has hd hT.r7 h
theorem s_hasRoom_lets {d : Nat} {P : Option qV → qH → Prop} {X : Nat → qH → Prop} {I : qI} {H : qS} {n : Nat} {μ : Int → Int} (hd : 1 ≤ d) (hT : TR n I μ) (h : P (some (vi (bz (μ 4 < 16)))) (I, H)) : Call d 57 [vr (some (n + 7)) 4] (I, H) P X := s_5_hasRoom hd hT.c.a7 hT.r7 h
theorem s_get_lets0 {d : Nat} {P : Option qV → qH → Prop} {X : Nat → qH → Prop} {I : qI} {H : qS} {n : Nat} {μ : Int → Int} {r : Int} (hd : 1 ≤ d) (hS : Shp H) (hn : isT n) (hT : TR n I μ) (hV : IM μ) (hr : 0 ≤ r ∧ r < μ 4) (h : P (some (vi (μ (332 + 4 * r)))) (I, H)) : Call d 58 [vr (some (n + 7)) 4, vi r, vi 0] (I, H) P X := by
  have := hV.n4
  exact s_5_get_w4 hd (hS.u3 hn) hT.c.b7 hT.r7 (hS.ul3 hn) hr (by omega) (by omega) (fin_i (hT.q7 r hr.1 hr.2).1 h)
theorem s_get_lets1 {d : Nat} {P : Option qV → qH → Prop} {X : Nat → qH → Prop} {I : qI} {H : qS} {n : Nat} {μ : Int → Int} {r : Int} (hd : 1 ≤ d) (hS : Shp H) (hn : isT n) (hT : TR n I μ) (hV : IM μ) (hr : 0 ≤ r ∧ r < μ 4) (h : P (some (vi (μ (333 + 4 * r)))) (I, H)) : Call d 58 [vr (some (n + 7)) 4, vi r, vi 1] (I, H) P X := by
  have := hV.n4
  exact s_5_get_w4 hd (hS.u3 hn) hT.c.b7 hT.r7 (hS.ul3 hn) hr (by omega) (by omega) (fin_i (hT.q7 r hr.1 hr.2).2.1 h)
theorem s_get_lets2 {d : Nat} {P : Option qV → qH → Prop} {X : Nat → qH → Prop} {I : qI} {H : qS} {n : Nat} {μ : Int → Int} {r : Int} (hd : 1 ≤ d) (hS : Shp H) (hn : isT n) (hT : TR n I μ) (hV : IM μ) (hr : 0 ≤ r ∧ r < μ 4) (h : P (some (vi (μ (331 + 4 * r)))) (I, H)) : Call d 58 [vr (some (n + 7)) 4, vi r, vi 2] (I, H) P X := by
  have := hV.n4
  exact s_5_get_w4 hd (hS.u3 hn) hT.c.b7 hT.r7 (hS.ul3 hn) hr (by omega) (by omega) (fin_i (hT.q7 r hr.1 hr.2).2.2.1 h)
theorem s_get_lets3 {d : Nat} {P : Option qV → qH → Prop} {X : Nat → qH → Prop} {I : qI} {H : qS} {n : Nat} {μ : Int → Int} {r : Int} (hd : 1 ≤ d) (hS : Shp H) (hn : isT n) (hT : TR n I μ) (hV : IM μ) (hr : 0 ≤ r ∧ r < μ 4) (h : P (some (vi (μ (330 + 4 * r)))) (I, H)) : Call d 58 [vr (some (n + 7)) 4, vi r, vi 3] (I, H) P X := by
  have := hV.n4
  exact s_5_get_w4 hd (hS.u3 hn) hT.c.b7 hT.r7 (hS.ul3 hn) hr (by omega) (by omega) (fin_i (hT.q7 r hr.1 hr.2).2.2.2 h)
theorem s_size_promises {d : Nat} {P : Option qV → qH → Prop} {X : Nat → qH → Prop} {I : qI} {H : qS} {n : Nat} {μ : Int → Int} (hd : 1 ≤ d) (hT : TR n I μ) (h : P (some (vi (μ 5))) (I, H)) : Call d 55 [vr (some (n + 9)) 4] (I, H) P X := s_5_size hd hT.r9 h
theorem s_has_promises {d : Nat} {P : Option qV → qH → Prop} {X : Nat → qH → Prop} {I : qI} {H : qS} {n : Nat} {μ : Int → Int} {r : Int} (hd : 1 ≤ d) (hT : TR n I μ) (h : P (some (vi (bz (0 ≤ r ∧ r < μ 5)))) (I, H)) : Call d 56 [vr (some (n + 9)) 4, vi r] (I, H) P X := s_5_has hd hT.r9 h
theorem s_hasRoom_promises {d : Nat} {P : Option qV → qH → Prop} {X : Nat → qH → Prop} {I : qI} {H : qS} {n : Nat} {μ : Int → Int} (hd : 1 ≤ d) (hT : TR n I μ) (h : P (some (vi (bz (μ 5 < 16)))) (I, H)) : Call d 57 [vr (some (n + 9)) 4] (I, H) P X := s_5_hasRoom hd hT.c.a9 hT.r9 h
theorem s_get_promises0 {d : Nat} {P : Option qV → qH → Prop} {X : Nat → qH → Prop} {I : qI} {H : qS} {n : Nat} {μ : Int → Int} {r : Int} (hd : 1 ≤ d) (hS : Shp H) (hn : isT n) (hT : TR n I μ) (hV : IM μ) (hr : 0 ≤ r ∧ r < μ 5) (h : P (some (vi (μ (395 + 3 * r)))) (I, H)) : Call d 58 [vr (some (n + 9)) 4, vi r, vi 0] (I, H) P X := by
  have := hV.n5
  exact s_5_get_w3 hd (hS.u4 hn) hT.c.b9 hT.r9 (hS.ul4 hn) hr (by omega) (by omega) (fin_i (hT.q9 r hr.1 hr.2).1 h)
theorem s_get_promises1 {d : Nat} {P : Option qV → qH → Prop} {X : Nat → qH → Prop} {I : qI} {H : qS} {n : Nat} {μ : Int → Int} {r : Int} (hd : 1 ≤ d) (hS : Shp H) (hn : isT n) (hT : TR n I μ) (hV : IM μ) (hr : 0 ≤ r ∧ r < μ 5) (h : P (some (vi (μ (396 + 3 * r)))) (I, H)) : Call d 58 [vr (some (n + 9)) 4, vi r, vi 1] (I, H) P X := by
  have := hV.n5
  exact s_5_get_w3 hd (hS.u4 hn) hT.c.b9 hT.r9 (hS.ul4 hn) hr (by omega) (by omega) (fin_i (hT.q9 r hr.1 hr.2).2.1 h)
theorem s_get_promises2 {d : Nat} {P : Option qV → qH → Prop} {X : Nat → qH → Prop} {I : qI} {H : qS} {n : Nat} {μ : Int → Int} {r : Int} (hd : 1 ≤ d) (hS : Shp H) (hn : isT n) (hT : TR n I μ) (hV : IM μ) (hr : 0 ≤ r ∧ r < μ 5) (h : P (some (vi (μ (394 + 3 * r)))) (I, H)) : Call d 58 [vr (some (n + 9)) 4, vi r, vi 2] (I, H) P X := by
  have := hV.n5
  exact s_5_get_w3 hd (hS.u4 hn) hT.c.b9 hT.r9 (hS.ul4 hn) hr (by omega) (by omega) (fin_i (hT.q9 r hr.1 hr.2).2.2 h)
theorem s_size_drains {d : Nat} {P : Option qV → qH → Prop} {X : Nat → qH → Prop} {I : qI} {H : qS} {n : Nat} {μ : Int → Int} (hd : 1 ≤ d) (hT : TR n I μ) (h : P (some (vi (μ 6))) (I, H)) : Call d 55 [vr (some (n + 11)) 4] (I, H) P X := s_5_size hd hT.r11 h
theorem s_has_drains {d : Nat} {P : Option qV → qH → Prop} {X : Nat → qH → Prop} {I : qI} {H : qS} {n : Nat} {μ : Int → Int} {r : Int} (hd : 1 ≤ d) (hT : TR n I μ) (h : P (some (vi (bz (0 ≤ r ∧ r < μ 6)))) (I, H)) : Call d 56 [vr (some (n + 11)) 4, vi r] (I, H) P X := s_5_has hd hT.r11 h
theorem s_hasRoom_drains {d : Nat} {P : Option qV → qH → Prop} {X : Nat → qH → Prop} {I : qI} {H : qS} {n : Nat} {μ : Int → Int} (hd : 1 ≤ d) (hT : TR n I μ) (h : P (some (vi (bz (μ 6 < 8)))) (I, H)) : Call d 57 [vr (some (n + 11)) 4] (I, H) P X := s_5_hasRoom hd hT.c.a11 hT.r11 h
theorem s_get_drains0 {d : Nat} {P : Option qV → qH → Prop} {X : Nat → qH → Prop} {I : qI} {H : qS} {n : Nat} {μ : Int → Int} {r : Int} (hd : 1 ≤ d) (hS : Shp H) (hn : isT n) (hT : TR n I μ) (hV : IM μ) (hr : 0 ≤ r ∧ r < μ 6) (h : P (some (vi (μ (442 + 2 * r)))) (I, H)) : Call d 58 [vr (some (n + 11)) 4, vi r, vi 0] (I, H) P X := by
  have := hV.n6
  exact s_5_get_w2 hd (hS.u5 hn) hT.c.b11 hT.r11 (hS.ul5 hn) hr (by omega) (by omega) (fin_i (hT.q11 r hr.1 hr.2).1 h)
theorem s_get_drains1 {d : Nat} {P : Option qV → qH → Prop} {X : Nat → qH → Prop} {I : qI} {H : qS} {n : Nat} {μ : Int → Int} {r : Int} (hd : 1 ≤ d) (hS : Shp H) (hn : isT n) (hT : TR n I μ) (hV : IM μ) (hr : 0 ≤ r ∧ r < μ 6) (h : P (some (vi (μ (443 + 2 * r)))) (I, H)) : Call d 58 [vr (some (n + 11)) 4, vi r, vi 1] (I, H) P X := by
  have := hV.n6
  exact s_5_get_w2 hd (hS.u5 hn) hT.c.b11 hT.r11 (hS.ul5 hn) hr (by omega) (by omega) (fin_i (hT.q11 r hr.1 hr.2).2 h)
theorem s_size_papers {d : Nat} {P : Option qV → qH → Prop} {X : Nat → qH → Prop} {I : qI} {H : qS} {n : Nat} {μ : Int → Int} (hd : 1 ≤ d) (hT : TR n I μ) (h : P (some (vi (μ 7))) (I, H)) : Call d 55 [vr (some (n + 13)) 4] (I, H) P X := s_5_size hd hT.r13 h
theorem s_has_papers {d : Nat} {P : Option qV → qH → Prop} {X : Nat → qH → Prop} {I : qI} {H : qS} {n : Nat} {μ : Int → Int} {r : Int} (hd : 1 ≤ d) (hT : TR n I μ) (h : P (some (vi (bz (0 ≤ r ∧ r < μ 7)))) (I, H)) : Call d 56 [vr (some (n + 13)) 4, vi r] (I, H) P X := s_5_has hd hT.r13 h
theorem s_hasRoom_papers {d : Nat} {P : Option qV → qH → Prop} {X : Nat → qH → Prop} {I : qI} {H : qS} {n : Nat} {μ : Int → Int} (hd : 1 ≤ d) (hT : TR n I μ) (h : P (some (vi (bz (μ 7 < 16)))) (I, H)) : Call d 57 [vr (some (n + 13)) 4] (I, H) P X := s_5_hasRoom hd hT.c.a13 hT.r13 h
theorem s_get_papers0 {d : Nat} {P : Option qV → qH → Prop} {X : Nat → qH → Prop} {I : qI} {H : qS} {n : Nat} {μ : Int → Int} {r : Int} (hd : 1 ≤ d) (hS : Shp H) (hn : isT n) (hT : TR n I μ) (hV : IM μ) (hr : 0 ≤ r ∧ r < μ 7) (h : P (some (vi (μ (458 + 3 * r)))) (I, H)) : Call d 58 [vr (some (n + 13)) 4, vi r, vi 0] (I, H) P X := by
  have := hV.n7
  exact s_5_get_w3 hd (hS.u6 hn) hT.c.b13 hT.r13 (hS.ul6 hn) hr (by omega) (by omega) (fin_i (hT.q13 r hr.1 hr.2).1 h)
theorem s_get_papers1 {d : Nat} {P : Option qV → qH → Prop} {X : Nat → qH → Prop} {I : qI} {H : qS} {n : Nat} {μ : Int → Int} {r : Int} (hd : 1 ≤ d) (hS : Shp H) (hn : isT n) (hT : TR n I μ) (hV : IM μ) (hr : 0 ≤ r ∧ r < μ 7) (h : P (some (vi (μ (459 + 3 * r)))) (I, H)) : Call d 58 [vr (some (n + 13)) 4, vi r, vi 1] (I, H) P X := by
  have := hV.n7
  exact s_5_get_w3 hd (hS.u6 hn) hT.c.b13 hT.r13 (hS.ul6 hn) hr (by omega) (by omega) (fin_i (hT.q13 r hr.1 hr.2).2.1 h)
theorem s_get_papers2 {d : Nat} {P : Option qV → qH → Prop} {X : Nat → qH → Prop} {I : qI} {H : qS} {n : Nat} {μ : Int → Int} {r : Int} (hd : 1 ≤ d) (hS : Shp H) (hn : isT n) (hT : TR n I μ) (hV : IM μ) (hr : 0 ≤ r ∧ r < μ 7) (h : P (some (vi (μ (460 + 3 * r)))) (I, H)) : Call d 58 [vr (some (n + 13)) 4, vi r, vi 2] (I, H) P X := by
  have := hV.n7
  exact s_5_get_w3 hd (hS.u6 hn) hT.c.b13 hT.r13 (hS.ul6 hn) hr (by omega) (by omega) (fin_i (hT.q13 r hr.1 hr.2).2.2 h)
theorem s_size_buildings {d : Nat} {P : Option qV → qH → Prop} {X : Nat → qH → Prop} {I : qI} {H : qS} {n : Nat} {μ : Int → Int} (hd : 1 ≤ d) (hT : TR n I μ) (h : P (some (vi (μ 8))) (I, H)) : Call d 55 [vr (some (n + 15)) 4] (I, H) P X := s_5_size hd hT.r15 h
theorem s_has_buildings {d : Nat} {P : Option qV → qH → Prop} {X : Nat → qH → Prop} {I : qI} {H : qS} {n : Nat} {μ : Int → Int} {r : Int} (hd : 1 ≤ d) (hT : TR n I μ) (h : P (some (vi (bz (0 ≤ r ∧ r < μ 8)))) (I, H)) : Call d 56 [vr (some (n + 15)) 4, vi r] (I, H) P X := s_5_has hd hT.r15 h
theorem s_hasRoom_buildings {d : Nat} {P : Option qV → qH → Prop} {X : Nat → qH → Prop} {I : qI} {H : qS} {n : Nat} {μ : Int → Int} (hd : 1 ≤ d) (hT : TR n I μ) (h : P (some (vi (bz (μ 8 < 20)))) (I, H)) : Call d 57 [vr (some (n + 15)) 4] (I, H) P X := s_5_hasRoom hd hT.c.a15 hT.r15 h
theorem s_get_buildings0 {d : Nat} {P : Option qV → qH → Prop} {X : Nat → qH → Prop} {I : qI} {H : qS} {n : Nat} {μ : Int → Int} {r : Int} (hd : 1 ≤ d) (hS : Shp H) (hn : isT n) (hT : TR n I μ) (hV : IM μ) (hr : 0 ≤ r ∧ r < μ 8) (h : P (some (vi (μ (506 + 2 * r)))) (I, H)) : Call d 58 [vr (some (n + 15)) 4, vi r, vi 0] (I, H) P X := by
  have := hV.n8
  exact s_5_get_w2 hd (hS.u7 hn) hT.c.b15 hT.r15 (hS.ul7 hn) hr (by omega) (by omega) (fin_i (hT.q15 r hr.1 hr.2).1 h)
theorem s_get_buildings1 {d : Nat} {P : Option qV → qH → Prop} {X : Nat → qH → Prop} {I : qI} {H : qS} {n : Nat} {μ : Int → Int} {r : Int} (hd : 1 ≤ d) (hS : Shp H) (hn : isT n) (hT : TR n I μ) (hV : IM μ) (hr : 0 ≤ r ∧ r < μ 8) (h : P (some (vi (μ (507 + 2 * r)))) (I, H)) : Call d 58 [vr (some (n + 15)) 4, vi r, vi 1] (I, H) P X := by
  have := hV.n8
  exact s_5_get_w2 hd (hS.u7 hn) hT.c.b15 hT.r15 (hS.ul7 hn) hr (by omega) (by omega) (fin_i (hT.q15 r hr.1 hr.2).2 h)
theorem s_8_cellOf {d : Nat} {P : Option qV → qH → Prop} {X : Nat → qH → Prop} {I : qI} {H : qS} {n : Nat} {μ : Int → Int} (hd : 2 ≤ d) {r : Int} (hS : Shp H) (hn : isT n) (hT : TR n I μ) (hV : IM μ) (hr : 0 ≤ r ∧ r < μ 1) (h : P (some (vi (μ (120 + 2 * r)))) (I, H)) :
    Call d 93 [vr (some n) 6, vi r] (I, H) P X := by
  obtain ⟨d, rfl⟩ : ∃ e, d = e + 1 := ⟨d - 1, by omega⟩
  show WP (Call d) 93 P X (0, [some (vr (some n) 6), some (vi r)], [], (I, H), 0, 0)
  refine WP.go 5 (And.intro rfl (Exists.intro (n + 1) (And.intro (hS.t0 hn) (And.intro (And.intro (Nat.le_of_ble_eq_true rfl) (Nat.le_of_ble_eq_true rfl)) (And.intro rfl (?_))))))
  show Call d 58 [vr (some (n + 1)) 4, vi r, vi 0] (I, H) _ _
  refine s_get_houses0 (by omega) hS hn hT hV (by omega) ?_
  show WP (Call d) 93 P X (5, [some (vr (some n) 6), some (vi r)], [vi (μ (120 + 2 * r))], (I, H), 0, 0)
  refine WP.go 1 (And.intro (And.intro (Nat.le_of_ble_eq_true rfl) (Nat.le_of_ble_eq_true rfl)) (And.intro trivial (?_)))
  show P (some (vi (μ (120 + 2 * r)))) (I, H)
  exact fin_i (by first | rfl | omega | exact zero_bz (by omega) | exact one_bz (by omega)) h

theorem s_8_heightOf {d : Nat} {P : Option qV → qH → Prop} {X : Nat → qH → Prop} {I : qI} {H : qS} {n : Nat} {μ : Int → Int} (hd : 2 ≤ d) {r : Int} (hS : Shp H) (hn : isT n) (hT : TR n I μ) (hV : IM μ) (hr : 0 ≤ r ∧ r < μ 1) (h : P (some (vi (μ (121 + 2 * r)))) (I, H)) :
    Call d 94 [vr (some n) 6, vi r] (I, H) P X := by
  obtain ⟨d, rfl⟩ : ∃ e, d = e + 1 := ⟨d - 1, by omega⟩
  show WP (Call d) 94 P X (0, [some (vr (some n) 6), some (vi r)], [], (I, H), 0, 0)
  refine WP.go 5 (And.intro rfl (Exists.intro (n + 1) (And.intro (hS.t0 hn) (And.intro (And.intro (Nat.le_of_ble_eq_true rfl) (Nat.le_of_ble_eq_true rfl)) (And.intro rfl (?_))))))
  show Call d 58 [vr (some (n + 1)) 4, vi r, vi 1] (I, H) _ _
  refine s_get_houses1 (by omega) hS hn hT hV (by omega) ?_
  show WP (Call d) 94 P X (5, [some (vr (some n) 6), some (vi r)], [vi (μ (121 + 2 * r))], (I, H), 0, 0)
  refine WP.go 1 (And.intro (And.intro (Nat.le_of_ble_eq_true rfl) (Nat.le_of_ble_eq_true rfl)) (And.intro trivial (?_)))
  show P (some (vi (μ (121 + 2 * r)))) (I, H)
  exact fin_i (by first | rfl | omega | exact zero_bz (by omega) | exact one_bz (by omega)) h

theorem s_8_houseOf {d : Nat} {P : Option qV → qH → Prop} {X : Nat → qH → Prop} {I : qI} {H : qS} {n : Nat} {μ : Int → Int} (hd : 2 ≤ d) {r : Int} (hS : Shp H) (hn : isT n) (hT : TR n I μ) (hV : IM μ) (hr : 0 ≤ r ∧ r < μ 2) (h : P (some (vi (μ (140 + 3 * r)))) (I, H)) :
    Call d 95 [vr (some n) 6, vi r] (I, H) P X := by
  obtain ⟨d, rfl⟩ : ∃ e, d = e + 1 := ⟨d - 1, by omega⟩
  show WP (Call d) 95 P X (0, [some (vr (some n) 6), some (vi r)], [], (I, H), 0, 0)
  refine WP.go 5 (And.intro rfl (Exists.intro (n + 3) (And.intro (hS.t1 hn) (And.intro (And.intro (Nat.le_of_ble_eq_true rfl) (Nat.le_of_ble_eq_true rfl)) (And.intro rfl (?_))))))
  show Call d 58 [vr (some (n + 3)) 4, vi r, vi 0] (I, H) _ _
  refine s_get_windows0 (by omega) hS hn hT hV (by omega) ?_
  show WP (Call d) 95 P X (5, [some (vr (some n) 6), some (vi r)], [vi (μ (140 + 3 * r))], (I, H), 0, 0)
  refine WP.go 1 (And.intro (And.intro (Nat.le_of_ble_eq_true rfl) (Nat.le_of_ble_eq_true rfl)) (And.intro trivial (?_)))
  show P (some (vi (μ (140 + 3 * r)))) (I, H)
  exact fin_i (by first | rfl | omega | exact zero_bz (by omega) | exact one_bz (by omega)) h

theorem s_8_homeOf {d : Nat} {P : Option qV → qH → Prop} {X : Nat → qH → Prop} {I : qI} {H : qS} {n : Nat} {μ : Int → Int} (hd : 2 ≤ d) {r : Int} (hS : Shp H) (hn : isT n) (hT : TR n I μ) (hV : IM μ) (hr : 0 ≤ r ∧ r < μ 1) (h : P (some (vi (μ (200 + r)))) (I, H)) :
    Call d 96 [vr (some n) 6, vi r] (I, H) P X := by
  obtain ⟨d, rfl⟩ : ∃ e, d = e + 1 := ⟨d - 1, by omega⟩
  show WP (Call d) 96 P X (0, [some (vr (some n) 6), some (vi r)], [], (I, H), 0, 0)
  refine WP.go 5 (And.intro rfl (Exists.intro (n + 5) (And.intro (hS.t2 hn) (And.intro (And.intro (Nat.le_of_ble_eq_true rfl) (Nat.le_of_ble_eq_true rfl)) (And.intro rfl (?_))))))
  show Call d 58 [vr (some (n + 5)) 4, vi r, vi 2] (I, H) _ _
  refine s_get_families2 (by omega) hS hn hT hV (by omega) ?_
  show WP (Call d) 96 P X (5, [some (vr (some n) 6), some (vi r)], [vi (μ (200 + r))], (I, H), 0, 0)
  refine WP.go 1 (And.intro (And.intro (Nat.le_of_ble_eq_true rfl) (Nat.le_of_ble_eq_true rfl)) (And.intro trivial (?_)))
  show P (some (vi (μ (200 + r)))) (I, H)
  exact fin_i (by first | rfl | omega | exact zero_bz (by omega) | exact one_bz (by omega)) h

theorem s_8_dial {d : Nat} {P : Option qV → qH → Prop} {X : Nat → qH → Prop} {I : qI} {H : qS} {n : Nat} {μ : Int → Int} (hd : 1 ≤ d) {r : Int} (hS : Shp H) (hn : isT n) (hT : TR n I μ) (hV : IM μ) (hr : 0 ≤ r ∧ r < 5) (h : P (some (vi (μ (9 + r)))) (I, H)) :
    Call d 84 [vr (some n) 6, vi r] (I, H) P X := by
  obtain ⟨d, rfl⟩ : ∃ e, d = e + 1 := ⟨d - 1, by omega⟩
  have hl := hS.tl17 hn
  show WP (Call d) 84 P X (0, [some (vr (some n) 6), some (vi r)], [], (I, H), 0, 0)
  refine WP.go 2 (And.intro (fun (b1 : r < 0) => (absurd b1 (by omega))) (fun (b1 : ¬ r < 0) => ?_))
  show WP (Call d) 84 P X (2, [some (vr (some n) 6), some (vi r)], [], (I, H), 0, 0)
  refine WP.go 5 (And.intro rfl (Exists.intro (n + 17) (And.intro (hS.t8 hn) (And.intro (Or.inl rfl) (And.intro (fun (b6 : ¬ r < H.2.1 (n + 17)) => (absurd b6 (by omega))) (fun (b6 : r < H.2.1 (n + 17)) => ?_))))))
  show WP (Call d) 84 P X (7, [some (vr (some n) 6), some (vi r)], [], (I, H), 0, 0)
  refine WP.go 6 (And.intro rfl (Exists.intro (n + 17) (And.intro (hS.t8 hn) (And.intro (And.intro rfl (And.intro (show 0 ≤ r from by omega) (show r < H.2.1 (n + 17) from by omega))) (And.intro (And.intro (Nat.le_of_ble_eq_true rfl) (Nat.le_of_ble_eq_true rfl)) (And.intro trivial (?_)))))))
  show P (some (vi (I (n + 17) r))) (I, H)
  exact fin_i (by exact hT.di r hr.1 hr.2) h

theorem s_dial_0 {d : Nat} {P : Option qV → qH → Prop} {X : Nat → qH → Prop} {I : qI} {H : qS} {n : Nat} {μ : Int → Int} (hd : 1 ≤ d) (hS : Shp H) (hn : isT n) (hT : TR n I μ) (hV : IM μ) (h : P (some (vi (μ 9))) (I, H)) : Call d 84 [vr (some n) 6, vi 0] (I, H) P X := s_8_dial hd hS hn hT hV (by omega) h
theorem s_dial_1 {d : Nat} {P : Option qV → qH → Prop} {X : Nat → qH → Prop} {I : qI} {H : qS} {n : Nat} {μ : Int → Int} (hd : 1 ≤ d) (hS : Shp H) (hn : isT n) (hT : TR n I μ) (hV : IM μ) (h : P (some (vi (μ 10))) (I, H)) : Call d 84 [vr (some n) 6, vi 1] (I, H) P X := s_8_dial hd hS hn hT hV (by omega) h
theorem s_dial_2 {d : Nat} {P : Option qV → qH → Prop} {X : Nat → qH → Prop} {I : qI} {H : qS} {n : Nat} {μ : Int → Int} (hd : 1 ≤ d) (hS : Shp H) (hn : isT n) (hT : TR n I μ) (hV : IM μ) (h : P (some (vi (μ 11))) (I, H)) : Call d 84 [vr (some n) 6, vi 2] (I, H) P X := s_8_dial hd hS hn hT hV (by omega) h
theorem s_dial_3 {d : Nat} {P : Option qV → qH → Prop} {X : Nat → qH → Prop} {I : qI} {H : qS} {n : Nat} {μ : Int → Int} (hd : 1 ≤ d) (hS : Shp H) (hn : isT n) (hT : TR n I μ) (hV : IM μ) (h : P (some (vi (μ 12))) (I, H)) : Call d 84 [vr (some n) 6, vi 3] (I, H) P X := s_8_dial hd hS hn hT hV (by omega) h
theorem s_dial_4 {d : Nat} {P : Option qV → qH → Prop} {X : Nat → qH → Prop} {I : qI} {H : qS} {n : Nat} {μ : Int → Int} (hd : 1 ≤ d) (hS : Shp H) (hn : isT n) (hT : TR n I μ) (hV : IM μ) (h : P (some (vi (μ 13))) (I, H)) : Call d 84 [vr (some n) 6, vi 4] (I, H) P X := s_8_dial hd hS hn hT hV (by omega) h
theorem s_8_windIn {d : Nat} {P : Option qV → qH → Prop} {X : Nat → qH → Prop} {I : qI} {H : qS} {n : Nat} {μ : Int → Int} (hd : 1 ≤ d) {r : Int} (hS : Shp H) (hn : isT n) (hT : TR n I μ) (hV : IM μ) (hr : 0 ≤ r ∧ r < 100) (h : P (some (vi (μ (20 + r)))) (I, H)) :
    Call d 86 [vr (some n) 6, vi r] (I, H) P X := by
  obtain ⟨d, rfl⟩ : ∃ e, d = e + 1 := ⟨d - 1, by omega⟩
  have hl := hS.tl18 hn
  show WP (Call d) 86 P X (0, [some (vr (some n) 6), some (vi r)], [], (I, H), 0, 0)
  refine WP.go 2 (And.intro (fun (b1 : r < 0) => (absurd b1 (by omega))) (fun (b1 : ¬ r < 0) => ?_))
  show WP (Call d) 86 P X (2, [some (vr (some n) 6), some (vi r)], [], (I, H), 0, 0)
  refine WP.go 5 (And.intro rfl (Exists.intro (n + 18) (And.intro (hS.t9 hn) (And.intro (Or.inl rfl) (And.intro (fun (b6 : ¬ r < H.2.1 (n + 18)) => (absurd b6 (by omega))) (fun (b6 : r < H.2.1 (n + 18)) => ?_))))))
  show WP (Call d) 86 P X (7, [some (vr (some n) 6), some (vi r)], [], (I, H), 0, 0)
  refine WP.go 6 (And.intro rfl (Exists.intro (n + 18) (And.intro (hS.t9 hn) (And.intro (And.intro rfl (And.intro (show 0 ≤ r from by omega) (show r < H.2.1 (n + 18) from by omega))) (And.intro (And.intro (Nat.le_of_ble_eq_true rfl) (Nat.le_of_ble_eq_true rfl)) (And.intro trivial (?_)))))))
  show P (some (vi (I (n + 18) r))) (I, H)
  exact fin_i (by exact hT.wi r hr.1 hr.2) h

theorem s_8_ropesIn {d : Nat} {P : Option qV → qH → Prop} {X : Nat → qH → Prop} {I : qI} {H : qS} {n : Nat} {μ : Int → Int} (hd : 1 ≤ d) {r : Int} (hS : Shp H) (hn : isT n) (hT : TR n I μ) (hV : IM μ) (hr : 0 ≤ r ∧ r < 100) (h : P (some (vi (μ (230 + r)))) (I, H)) :
    Call d 88 [vr (some n) 6, vi r] (I, H) P X := by
  obtain ⟨d, rfl⟩ : ∃ e, d = e + 1 := ⟨d - 1, by omega⟩
  have hl := hS.tl19 hn
  show WP (Call d) 88 P X (0, [some (vr (some n) 6), some (vi r)], [], (I, H), 0, 0)
  refine WP.go 2 (And.intro (fun (b1 : r < 0) => (absurd b1 (by omega))) (fun (b1 : ¬ r < 0) => ?_))
  show WP (Call d) 88 P X (2, [some (vr (some n) 6), some (vi r)], [], (I, H), 0, 0)
  refine WP.go 5 (And.intro rfl (Exists.intro (n + 19) (And.intro (hS.t10 hn) (And.intro (Or.inl rfl) (And.intro (fun (b6 : ¬ r < H.2.1 (n + 19)) => (absurd b6 (by omega))) (fun (b6 : r < H.2.1 (n + 19)) => ?_))))))
  show WP (Call d) 88 P X (7, [some (vr (some n) 6), some (vi r)], [], (I, H), 0, 0)
  refine WP.go 6 (And.intro rfl (Exists.intro (n + 19) (And.intro (hS.t10 hn) (And.intro (And.intro rfl (And.intro (show 0 ≤ r from by omega) (show r < H.2.1 (n + 19) from by omega))) (And.intro (And.intro (Nat.le_of_ble_eq_true rfl) (Nat.le_of_ble_eq_true rfl)) (And.intro trivial (?_)))))))
  show P (some (vi (I (n + 19) r))) (I, H)
  exact fin_i (by exact hT.ro r hr.1 hr.2) h

theorem s_8_setDial {d : Nat} {P : Option qV → qH → Prop} {X : Nat → qH → Prop} {I : qI} {H : qS} {n : Nat} (hd : 1 ≤ d) {r v : Int} (hS : Shp H) (hn : isT n) (hr : 0 ≤ r ∧ r < 5) (h : ∀ J : qI, J (n + 17) = (fun j => if j = r then v else I (n + 17) j) → (∀ a, a ≠ n + 17 → J a = I a) → P none (J, H)) :
    Call d 85 [vr (some n) 6, vi r, vi v] (I, H) P X := by
  obtain ⟨d, rfl⟩ : ∃ e, d = e + 1 := ⟨d - 1, by omega⟩
  have hl := hS.tl17 hn
  show WP (Call d) 85 P X (0, [some (vr (some n) 6), some (vi r), some (vi v)], [], (I, H), 0, 0)
  refine WP.go 2 (And.intro (fun (b1 : r < 0) => (absurd b1 (by omega))) (fun (b1 : ¬ r < 0) => ?_))
  show WP (Call d) 85 P X (2, [some (vr (some n) 6), some (vi r), some (vi v)], [], (I, H), 0, 0)
  refine WP.go 5 (And.intro rfl (Exists.intro (n + 17) (And.intro (hS.t8 hn) (And.intro (Or.inl rfl) (And.intro (fun (b6 : ¬ r < H.2.1 (n + 17)) => (absurd b6 (by omega))) (fun (b6 : r < H.2.1 (n + 17)) => ?_))))))
  show WP (Call d) 85 P X (7, [some (vr (some n) 6), some (vi r), some (vi v)], [], (I, H), 0, 0)
  refine WP.go 6 (And.intro rfl (Exists.intro (n + 17) (And.intro (hS.t8 hn) (And.intro (And.intro rfl (And.intro (show 0 ≤ r from by omega) (show r < H.2.1 (n + 17) from by omega))) (And.intro (And.intro (Nat.le_of_ble_eq_true rfl) (Nat.le_of_ble_eq_true rfl)) (?_))))))
  show P none ((upI I (n + 17) r v), H)
  exact h _ (upI_self _ _ _ _) (fun a q => upI_cell q)

theorem s_8_setWind {d : Nat} {P : Option qV → qH → Prop} {X : Nat → qH → Prop} {I : qI} {H : qS} {n : Nat} (hd : 1 ≤ d) {r v : Int} (hS : Shp H) (hn : isT n) (hr : 0 ≤ r ∧ r < 100) (h : ∀ J : qI, J (n + 18) = (fun j => if j = r then v else I (n + 18) j) → (∀ a, a ≠ n + 18 → J a = I a) → P none (J, H)) :
    Call d 87 [vr (some n) 6, vi r, vi v] (I, H) P X := by
  obtain ⟨d, rfl⟩ : ∃ e, d = e + 1 := ⟨d - 1, by omega⟩
  have hl := hS.tl18 hn
  show WP (Call d) 87 P X (0, [some (vr (some n) 6), some (vi r), some (vi v)], [], (I, H), 0, 0)
  refine WP.go 2 (And.intro (fun (b1 : r < 0) => (absurd b1 (by omega))) (fun (b1 : ¬ r < 0) => ?_))
  show WP (Call d) 87 P X (2, [some (vr (some n) 6), some (vi r), some (vi v)], [], (I, H), 0, 0)
  refine WP.go 5 (And.intro rfl (Exists.intro (n + 18) (And.intro (hS.t9 hn) (And.intro (Or.inl rfl) (And.intro (fun (b6 : ¬ r < H.2.1 (n + 18)) => (absurd b6 (by omega))) (fun (b6 : r < H.2.1 (n + 18)) => ?_))))))
  show WP (Call d) 87 P X (7, [some (vr (some n) 6), some (vi r), some (vi v)], [], (I, H), 0, 0)
  refine WP.go 6 (And.intro rfl (Exists.intro (n + 18) (And.intro (hS.t9 hn) (And.intro (And.intro rfl (And.intro (show 0 ≤ r from by omega) (show r < H.2.1 (n + 18) from by omega))) (And.intro (And.intro (Nat.le_of_ble_eq_true rfl) (Nat.le_of_ble_eq_true rfl)) (?_))))))
  show P none ((upI I (n + 18) r v), H)
  exact h _ (upI_self _ _ _ _) (fun a q => upI_cell q)

theorem s_8_setRopes {d : Nat} {P : Option qV → qH → Prop} {X : Nat → qH → Prop} {I : qI} {H : qS} {n : Nat} (hd : 1 ≤ d) {r v : Int} (hS : Shp H) (hn : isT n) (hr : 0 ≤ r ∧ r < 100) (h : ∀ J : qI, J (n + 19) = (fun j => if j = r then v else I (n + 19) j) → (∀ a, a ≠ n + 19 → J a = I a) → P none (J, H)) :
    Call d 89 [vr (some n) 6, vi r, vi v] (I, H) P X := by
  obtain ⟨d, rfl⟩ : ∃ e, d = e + 1 := ⟨d - 1, by omega⟩
  have hl := hS.tl19 hn
  show WP (Call d) 89 P X (0, [some (vr (some n) 6), some (vi r), some (vi v)], [], (I, H), 0, 0)
  refine WP.go 2 (And.intro (fun (b1 : r < 0) => (absurd b1 (by omega))) (fun (b1 : ¬ r < 0) => ?_))
  show WP (Call d) 89 P X (2, [some (vr (some n) 6), some (vi r), some (vi v)], [], (I, H), 0, 0)
  refine WP.go 5 (And.intro rfl (Exists.intro (n + 19) (And.intro (hS.t10 hn) (And.intro (Or.inl rfl) (And.intro (fun (b6 : ¬ r < H.2.1 (n + 19)) => (absurd b6 (by omega))) (fun (b6 : r < H.2.1 (n + 19)) => ?_))))))
  show WP (Call d) 89 P X (7, [some (vr (some n) 6), some (vi r), some (vi v)], [], (I, H), 0, 0)
  refine WP.go 6 (And.intro rfl (Exists.intro (n + 19) (And.intro (hS.t10 hn) (And.intro (And.intro rfl (And.intro (show 0 ≤ r from by omega) (show r < H.2.1 (n + 19) from by omega))) (And.intro (And.intro (Nat.le_of_ble_eq_true rfl) (Nat.le_of_ble_eq_true rfl)) (?_))))))
  show P none ((upI I (n + 19) r v), H)
  exact h _ (upI_self _ _ _ _) (fun a q => upI_cell q)

theorem s_8_leaseCode {d : Nat} {P : Option qV → qH → Prop} {X : Nat → qH → Prop} {I : qI} {H : qS} {n : Nat} (hd : 1 ≤ d) {r : Int} (hS : Shp H) (hn : isT n) (hr : 0 ≤ r ∧ r < 6) (h : P (some (vr (H.1 (n + 20) r) 11)) (I, H)) :
    Call d 90 [vr (some n) 6, vi r] (I, H) P X := by
  obtain ⟨d, rfl⟩ : ∃ e, d = e + 1 := ⟨d - 1, by omega⟩
  have hl := hS.tl20 hn
  show WP (Call d) 90 P X (0, [some (vr (some n) 6), some (vi r)], [], (I, H), 0, 0)
  refine WP.go 2 (And.intro (fun (b1 : r < 0) => (absurd b1 (by omega))) (fun (b1 : ¬ r < 0) => ?_))
  show WP (Call d) 90 P X (2, [some (vr (some n) 6), some (vi r)], [], (I, H), 0, 0)
  refine WP.go 5 (And.intro rfl (Exists.intro (n + 20) (And.intro (hS.t11 hn) (And.intro (Or.inr rfl) (And.intro (fun (b6 : ¬ r < H.2.1 (n + 20)) => (absurd b6 (by omega))) (fun (b6 : r < H.2.1 (n + 20)) => ?_))))))
  show WP (Call d) 90 P X (7, [some (vr (some n) 6), some (vi r)], [], (I, H), 0, 0)
  refine WP.go 6 (And.intro rfl (Exists.intro (n + 20) (And.intro (hS.t11 hn) (And.intro (And.intro rfl (And.intro (show 0 ≤ r from by omega) (show r < H.2.1 (n + 20) from by omega))) (And.intro (And.intro (Nat.le_of_ble_eq_true rfl) (Nat.le_of_ble_eq_true rfl)) (?_))))))
  show P (some (vr (H.1 (n + 20) r) 11)) (I, H)
  exact h

theorem s_8_hasHouseOn {d : Nat} {P : Option qV → qH → Prop} {X : Nat → qH → Prop} {I : qI} {H : qS} {n : Nat} {μ : Int → Int} (hd : 3 ≤ d) {c : Int} (hS : Shp H) (hn : isT n) (hT : TR n I μ) (hV : IM μ) (h : P (some (vi (bz (fI (fun i => μ (120 + 2 * i) = c) 0 (μ 1) ≠ -1)))) (I, H)) :
    Call d 97 [vr (some n) 6, vi c] (I, H) P X := by
  obtain ⟨d, rfl⟩ : ∃ e, d = e + 1 := ⟨d - 1, by omega⟩
  have hn1 := hV.n1
  show WP (Call d) 97 P X (0, [some (vr (some n) 6), some (vi c), none], [], (I, H), 0, 0)
  refine WP.go 2 ?_
  show WP (Call d) 97 P X (2, [some (vr (some n) 6), some (vi c), some (vi 0)], [], (I, H), 0, 0)
  have lp2 : ∀ (n9 : Nat) (h9 : Int) (hm : μ 1 - h9 < (n9 : Int)) (iv0 : 0 ≤ h9 ∧ h9 ≤ μ 1) (iv1 : fI (fun i => μ (120 + 2 * i) = c) 0 (μ 1) = fI (fun i => μ (120 + 2 * i) = c) h9 (μ 1)), WP (Call d) 97 P X (2, [some (vr (some n) 6), some (vi c), some (vi h9)], [], (I, H), 0, 0) := by
    intro n9
    induction n9 with
    | zero => intro h9 hm iv0 iv1; exact absurd hm (by omega)
    | succ n9 ih2 =>
      intro h9 hm iv0 iv1
      refine WP.go 4 (And.intro rfl (Exists.intro (n + 1) (And.intro (hS.t0 hn) (And.intro (And.intro (Nat.le_of_ble_eq_true rfl) (Nat.le_of_ble_eq_true rfl)) (And.intro rfl (?_))))))
      show Call d 55 [vr (some (n + 1)) 4] (I, H) _ _
      refine s_size_houses (by omega) hT ?_
      show WP (Call d) 97 P X (6, [some (vr (some n) 6), some (vi c), some (vi h9)], [vi (μ 1), vi h9], (I, H), 0, 0)
      refine WP.go 1 (And.intro (fun (b6 : ¬ h9 < μ 1) => ?_) (fun (b6 : h9 < μ 1) => ?_))
      ·
        show WP (Call d) 97 P X (16, [some (vr (some n) 6), some (vi c), some (vi h9)], [], (I, H), 0, 0)
        refine WP.go 2 (And.intro (And.intro (Nat.le_of_ble_eq_true rfl) (Nat.le_of_ble_eq_true rfl)) (And.intro (Or.inl rfl) (?_)))
        show P (some (vi 0)) (I, H)
        exact fin_i (zero_bz (fun q => q (by rw [iv1, fI_nil (by omega)]))) h
      ·
        show WP (Call d) 97 P X (7, [some (vr (some n) 6), some (vi c), some (vi h9)], [], (I, H), 0, 0)
        refine WP.go 3 (And.intro (And.intro (Nat.le_of_ble_eq_true rfl) (Nat.le_of_ble_eq_true rfl)) (And.intro rfl (?_)))
        show Call d 93 [vr (some n) 6, vi h9] (I, H) _ _
        refine s_8_cellOf (by omega) hS hn hT hV (by omega) ?_
        show WP (Call d) 97 P X (10, [some (vr (some n) 6), some (vi c), some (vi h9)], [vi (μ (120 + 2 * h9))], (I, H), 0, 0)
        refine WP.go 2 (And.intro (fun (b11 : ¬ μ (120 + 2 * h9) = c) => ?_) (fun (b11 : μ (120 + 2 * h9) = c) => ?_))
        ·
          show WP (Call d) 97 P X (14, [some (vr (some n) 6), some (vi c), some (vi h9)], [], (I, H), 0, 0)
          refine WP.go 2 (Exists.intro (h9 + 1) (And.intro (wrp_a (by omega) (by omega)) (?_)))
          show WP (Call d) 97 P X (2, [some (vr (some n) 6), some (vi c), some (vi (h9 + 1))], [], (I, H), 0, 0)
          exact ih2 (h9 + 1) (by omega) (by omega) (iv1.trans (fI_n (by omega) b11))
        ·
          show WP (Call d) 97 P X (12, [some (vr (some n) 6), some (vi c), some (vi h9)], [], (I, H), 0, 0)
          refine WP.go 2 (And.intro (And.intro (Nat.le_of_ble_eq_true rfl) (Nat.le_of_ble_eq_true rfl)) (And.intro (Or.inr rfl) (?_)))
          show P (some (vi 1)) (I, H)
          exact fin_i (one_bz (by have q := iv1.trans (fI_s (by omega) b11); omega)) h
  exact lp2 ((μ 1 - 0 : Int).toNat + 1) 0 (by omega) (by omega) rfl

theorem s_8_familyIn {d : Nat} {P : Option qV → qH → Prop} {X : Nat → qH → Prop} {I : qI} {H : qS} {n : Nat} {μ : Int → Int} (hd : 3 ≤ d) {c : Int} (hS : Shp H) (hn : isT n) (hT : TR n I μ) (hV : IM μ) (h : P (some (vi (fI (fun i => μ (200 + i) = c) 0 (μ 1)))) (I, H)) :
    Call d 99 [vr (some n) 6, vi c] (I, H) P X := by
  obtain ⟨d, rfl⟩ : ∃ e, d = e + 1 := ⟨d - 1, by omega⟩
  have hn1 := hV.n1
  show WP (Call d) 99 P X (0, [some (vr (some n) 6), some (vi c), none], [], (I, H), 0, 0)
  refine WP.go 2 ?_
  show WP (Call d) 99 P X (2, [some (vr (some n) 6), some (vi c), some (vi 0)], [], (I, H), 0, 0)
  have lp2 : ∀ (n9 : Nat) (h9 : Int) (hm : μ 1 - h9 < (n9 : Int)) (iv0 : 0 ≤ h9 ∧ h9 ≤ μ 1) (iv1 : fI (fun i => μ (200 + i) = c) 0 (μ 1) = fI (fun i => μ (200 + i) = c) h9 (μ 1)), WP (Call d) 99 P X (2, [some (vr (some n) 6), some (vi c), some (vi h9)], [], (I, H), 0, 0) := by
    intro n9
    induction n9 with
    | zero => intro h9 hm iv0 iv1; exact absurd hm (by omega)
    | succ n9 ih2 =>
      intro h9 hm iv0 iv1
      refine WP.go 4 (And.intro rfl (Exists.intro (n + 5) (And.intro (hS.t2 hn) (And.intro (And.intro (Nat.le_of_ble_eq_true rfl) (Nat.le_of_ble_eq_true rfl)) (And.intro rfl (?_))))))
      show Call d 55 [vr (some (n + 5)) 4] (I, H) _ _
      refine s_size_families (by omega) hT ?_
      show WP (Call d) 99 P X (6, [some (vr (some n) 6), some (vi c), some (vi h9)], [vi (μ 1), vi h9], (I, H), 0, 0)
      refine WP.go 1 (And.intro (fun (b6 : ¬ h9 < μ 1) => ?_) (fun (b6 : h9 < μ 1) => ?_))
      ·
        show WP (Call d) 99 P X (16, [some (vr (some n) 6), some (vi c), some (vi h9)], [], (I, H), 0, 0)
        refine WP.go 2 (And.intro (And.intro (Nat.le_of_ble_eq_true rfl) (Nat.le_of_ble_eq_true rfl)) (And.intro trivial (?_)))
        show P (some (vi (-1))) (I, H)
        exact fin_i (by rw [iv1, fI_nil (by omega)]) h
      ·
        show WP (Call d) 99 P X (7, [some (vr (some n) 6), some (vi c), some (vi h9)], [], (I, H), 0, 0)
        refine WP.go 3 (And.intro (And.intro (Nat.le_of_ble_eq_true rfl) (Nat.le_of_ble_eq_true rfl)) (And.intro rfl (?_)))
        show Call d 96 [vr (some n) 6, vi h9] (I, H) _ _
        refine s_8_homeOf (by omega) hS hn hT hV (by omega) ?_
        show WP (Call d) 99 P X (10, [some (vr (some n) 6), some (vi c), some (vi h9)], [vi (μ (200 + h9))], (I, H), 0, 0)
        refine WP.go 2 (And.intro (fun (b11 : ¬ μ (200 + h9) = c) => ?_) (fun (b11 : μ (200 + h9) = c) => ?_))
        ·
          show WP (Call d) 99 P X (14, [some (vr (some n) 6), some (vi c), some (vi h9)], [], (I, H), 0, 0)
          refine WP.go 2 (Exists.intro (h9 + 1) (And.intro (wrp_a (by omega) (by omega)) (?_)))
          show WP (Call d) 99 P X (2, [some (vr (some n) 6), some (vi c), some (vi (h9 + 1))], [], (I, H), 0, 0)
          exact ih2 (h9 + 1) (by omega) (by omega) (iv1.trans (fI_n (by omega) b11))
        ·
          show WP (Call d) 99 P X (12, [some (vr (some n) 6), some (vi c), some (vi h9)], [], (I, H), 0, 0)
          refine WP.go 2 (And.intro (And.intro (Nat.le_of_ble_eq_true rfl) (Nat.le_of_ble_eq_true rfl)) (And.intro trivial (?_)))
          show P (some (vi h9)) (I, H)
          exact fin_i (iv1.trans (fI_s (by omega) b11)).symm h
  exact lp2 ((μ 1 - 0 : Int).toNat + 1) 0 (by omega) (by omega) rfl

theorem s_8_windowsOf {d : Nat} {P : Option qV → qH → Prop} {X : Nat → qH → Prop} {I : qI} {H : qS} {n : Nat} {μ : Int → Int} (hd : 3 ≤ d) {c : Int} (hS : Shp H) (hn : isT n) (hT : TR n I μ) (hV : IM μ) (h : P (some (vi (sI (fun i => if μ (140 + 3 * i) = c then 1 else 0) 0 (μ 2)))) (I, H)) :
    Call d 98 [vr (some n) 6, vi c] (I, H) P X := by
  obtain ⟨d, rfl⟩ : ∃ e, d = e + 1 := ⟨d - 1, by omega⟩
  have hn1 := hV.n2
  show WP (Call d) 98 P X (0, [some (vr (some n) 6), some (vi c), none, none], [], (I, H), 0, 0)
  refine WP.go 4 ?_
  show WP (Call d) 98 P X (4, [some (vr (some n) 6), some (vi c), some (vi 0), some (vi 0)], [], (I, H), 0, 0)
  have lp4 : ∀ (n9 : Nat) (s9 : Int) (h9 : Int) (hm : μ 2 - h9 < (n9 : Int)) (iv0 : 0 ≤ h9 ∧ h9 ≤ μ 2) (iv1 : s9 = sI (fun i => if μ (140 + 3 * i) = c then 1 else 0) 0 h9), WP (Call d) 98 P X (4, [some (vr (some n) 6), some (vi c), some (vi s9), some (vi h9)], [], (I, H), 0, 0) := by
    intro n9
    induction n9 with
    | zero => intro s9 h9 hm iv0 iv1; exact absurd hm (by omega)
    | succ n9 ih4 =>
      intro s9 h9 hm iv0 iv1
      have k1 := sI_bd (f := fun i => if μ (140 + 3 * i) = c then 1 else 0) 0 1 iv0.1 (fun i _ _ => by split <;> omega)
      refine WP.go 4 (And.intro rfl (Exists.intro (n + 3) (And.intro (hS.t1 hn) (And.intro (And.intro (Nat.le_of_ble_eq_true rfl) (Nat.le_of_ble_eq_true rfl)) (And.intro rfl (?_))))))
      show Call d 55 [vr (some (n + 3)) 4] (I, H) _ _
      refine s_size_windows (by omega) hT ?_
      show WP (Call d) 98 P X (8, [some (vr (some n) 6), some (vi c), some (vi s9), some (vi h9)], [vi (μ 2), vi h9], (I, H), 0, 0)
      refine WP.go 1 (And.intro (fun (b8 : ¬ h9 < μ 2) => ?_) (fun (b8 : h9 < μ 2) => ?_))
      ·
        show WP (Call d) 98 P X (22, [some (vr (some n) 6), some (vi c), some (vi s9), some (vi h9)], [], (I, H), 0, 0)
        refine WP.go 2 (And.intro (And.intro (Nat.le_of_ble_eq_true rfl) (Nat.le_of_ble_eq_true rfl)) (And.intro trivial (?_)))
        show P (some (vi s9)) (I, H)
        exact fin_i (by rw [iv1, show h9 = μ 2 by omega]) h
      ·
        show WP (Call d) 98 P X (9, [some (vr (some n) 6), some (vi c), some (vi s9), some (vi h9)], [], (I, H), 0, 0)
        refine WP.go 4 (And.intro (And.intro (Nat.le_of_ble_eq_true rfl) (Nat.le_of_ble_eq_true rfl)) (And.intro rfl (?_)))
        show Call d 95 [vr (some n) 6, vi h9] (I, H) _ _
        refine s_8_houseOf (by omega) hS hn hT hV (by omega) ?_
        show WP (Call d) 98 P X (13, [some (vr (some n) 6), some (vi c), some (vi s9), some (vi h9)], [vi (μ (140 + 3 * h9)), vi s9], (I, H), 0, 0)
        refine WP.go 2 (And.intro (fun (b14 : ¬ μ (140 + 3 * h9) = c) => ?_) (fun (b14 : μ (140 + 3 * h9) = c) => ?_))
        ·
          show WP (Call d) 98 P X (17, [some (vr (some n) 6), some (vi c), some (vi s9), some (vi h9)], [vi s9], (I, H), 0, 0)
          refine WP.go 5 (Exists.intro (s9 + 0) (And.intro (wrp_a (by omega) (by omega)) (Exists.intro (h9 + 1) (And.intro (wrp_a (by omega) (by omega)) (?_)))))
          show WP (Call d) 98 P X (4, [some (vr (some n) 6), some (vi c), some (vi (s9 + 0)), some (vi (h9 + 1))], [], (I, H), 0, 0)
          exact ih4 (s9 + 0) (h9 + 1) (by omega) (by omega) (by rw [sI_succ (by omega), ← iv1, if_neg b14])
        ·
          show WP (Call d) 98 P X (15, [some (vr (some n) 6), some (vi c), some (vi s9), some (vi h9)], [vi s9], (I, H), 0, 0)
          refine WP.go 6 (Exists.intro (s9 + 1) (And.intro (wrp_a (by omega) (by omega)) (Exists.intro (h9 + 1) (And.intro (wrp_a (by omega) (by omega)) (?_)))))
          show WP (Call d) 98 P X (4, [some (vr (some n) 6), some (vi c), some (vi (s9 + 1)), some (vi (h9 + 1))], [], (I, H), 0, 0)
          exact ih4 (s9 + 1) (h9 + 1) (by omega) (by omega) (by rw [sI_succ (by omega), ← iv1, if_pos b14])
  exact lp4 ((μ 2 - 0 : Int).toNat + 1) 0 0 (by omega) (by omega) (sI_nil (by omega)).symm

def LOAD (μ : Int → Int) : Int := sI (fun i => μ (121 + 2 * i)) 0 (μ 1) / 40
theorem hsum_bd {μ : Int → Int} (hV : IM μ) {k : Int} (h0 : 0 ≤ k) (h1 : k ≤ μ 1) : 0 ≤ sI (fun i => μ (121 + 2 * i)) 0 k ∧ sI (fun i => μ (121 + 2 * i)) 0 k ≤ 300 := by
  have hn1 := hV.n1
  have k1 := sI_bd (f := fun i => μ (121 + 2 * i)) 0 30 h0 (fun i h2 h3 => by have := hV.hh i h2 (by omega); show 0 ≤ μ (121 + 2 * i) ∧ μ (121 + 2 * i) ≤ 30; omega)
  omega
theorem LOAD_bd {μ : Int → Int} (hV : IM μ) : 0 ≤ LOAD μ ∧ LOAD μ ≤ 7 := by
  have := hsum_bd hV hV.n1.1 (Int.le_refl _)
  unfold LOAD
  omega
theorem s_8_load {d : Nat} {P : Option qV → qH → Prop} {X : Nat → qH → Prop} {I : qI} {H : qS} {n : Nat} {μ : Int → Int} (hd : 3 ≤ d) (hS : Shp H) (hn : isT n) (hT : TR n I μ) (hV : IM μ) (h : P (some (vi (LOAD μ))) (I, H)) :
    Call d 100 [vr (some n) 6] (I, H) P X := by
  obtain ⟨d, rfl⟩ : ∃ e, d = e + 1 := ⟨d - 1, by omega⟩
  have hn1 := hV.n1
  show WP (Call d) 100 P X (0, [some (vr (some n) 6), none, none], [], (I, H), 0, 0)
  refine WP.go 4 ?_
  show WP (Call d) 100 P X (4, [some (vr (some n) 6), some (vi 0), some (vi 0)], [], (I, H), 0, 0)
  have lp4 : ∀ (n9 : Nat) (s9 : Int) (h9 : Int) (hm : μ 1 - h9 < (n9 : Int)) (iv0 : 0 ≤ h9 ∧ h9 ≤ μ 1) (iv1 : s9 = sI (fun i => μ (121 + 2 * i)) 0 h9), WP (Call d) 100 P X (4, [some (vr (some n) 6), some (vi s9), some (vi h9)], [], (I, H), 0, 0) := by
    intro n9
    induction n9 with
    | zero => intro s9 h9 hm iv0 iv1; exact absurd hm (by omega)
    | succ n9 ih4 =>
      intro s9 h9 hm iv0 iv1
      have k1 := hsum_bd hV iv0.1 iv0.2
      refine WP.go 4 (And.intro rfl (Exists.intro (n + 1) (And.intro (hS.t0 hn) (And.intro (And.intro (Nat.le_of_ble_eq_true rfl) (Nat.le_of_ble_eq_true rfl)) (And.intro rfl (?_))))))
      show Call d 55 [vr (some (n + 1)) 4] (I, H) _ _
      refine s_size_houses (by omega) hT ?_
      show WP (Call d) 100 P X (8, [some (vr (some n) 6), some (vi s9), some (vi h9)], [vi (μ 1), vi h9], (I, H), 0, 0)
      refine WP.go 1 (And.intro (fun (b8 : ¬ h9 < μ 1) => ?_) (fun (b8 : h9 < μ 1) => ?_))
      ·
        show WP (Call d) 100 P X (17, [some (vr (some n) 6), some (vi s9), some (vi h9)], [], (I, H), 0, 0)
        refine WP.go 4 (Exists.intro (s9 / 40) (And.intro (tdiv_a (by omega) (by omega) (by omega)) (And.intro (And.intro (Nat.le_of_ble_eq_true rfl) (Nat.le_of_ble_eq_true rfl)) (And.intro trivial (?_)))))
        show P (some (vi (s9 / 40))) (I, H)
        exact fin_i (by unfold LOAD; rw [iv1, show h9 = μ 1 by omega]) h
      ·
        show WP (Call d) 100 P X (9, [some (vr (some n) 6), some (vi s9), some (vi h9)], [], (I, H), 0, 0)
        have k2 := hV.hh h9 iv0.1 (by omega)
        refine WP.go 4 (And.intro (And.intro (Nat.le_of_ble_eq_true rfl) (Nat.le_of_ble_eq_true rfl)) (And.intro rfl (?_)))
        show Call d 94 [vr (some n) 6, vi h9] (I, H) _ _
        refine s_8_heightOf (by omega) hS hn hT hV (by omega) ?_
        show WP (Call d) 100 P X (13, [some (vr (some n) 6), some (vi s9), some (vi h9)], [vi (μ (121 + 2 * h9)), vi s9], (I, H), 0, 0)
        refine WP.go 4 (Exists.intro (s9 + (μ (121 + 2 * h9))) (And.intro (wrp_a (by omega) (by omega)) (Exists.intro (h9 + 1) (And.intro (wrp_a (by omega) (by omega)) (?_)))))
        show WP (Call d) 100 P X (4, [some (vr (some n) 6), some (vi (s9 + (μ (121 + 2 * h9)))), some (vi (h9 + 1))], [], (I, H), 0, 0)
        exact ih4 (s9 + (μ (121 + 2 * h9))) (h9 + 1) (by omega) (by omega) (by rw [sI_succ (by omega), ← iv1])
  exact lp4 ((μ 1 - 0 : Int).toNat + 1) 0 0 (by omega) (by omega) (sI_nil (by omega)).symm

def clp (t : Int) : Int := if t < 0 then 0 else if 48 < t then 48 else t
/-- the angle a year after -/
def nxt (μ : Int → Int) (a y pull : Int) : Int :=
  if μ 11 ≠ -1 ∧ (μ 11 - a) % 96 ≤ clp (μ 10 + μ (20 + y) + μ (230 + y) + pull) then μ 11 else (a + clp (μ 10 + μ (20 + y) + μ (230 + y) + pull)) % 96
theorem nxt_bd {μ : Int → Int} (hV : IM μ) (a y p : Int) : 0 ≤ nxt μ a y p ∧ nxt μ a y p < 96 := by
  have := hV.ba
  unfold nxt
  split <;> omega
/-- the angles, ropes of a year pl as if so much more -/
def angN (μ : Int → Int) (pl mo : Int) : Nat → Int
  | 0 => μ 9
  | n + 1 => nxt μ (angN μ pl mo n) n (if (n : Int) = pl then mo - LOAD μ else -LOAD μ)
def ANG (μ : Int → Int) (pl mo y : Int) : Int := angN μ pl mo y.toNat
theorem ANG_0 (μ : Int → Int) (pl mo : Int) : ANG μ pl mo 0 = μ 9 := rfl
theorem ANG_s (μ : Int → Int) (pl mo : Int) {y : Int} (h : 0 ≤ y) : ANG μ pl mo (y + 1) = nxt μ (ANG μ pl mo y) y (if y = pl then mo - LOAD μ else -LOAD μ) := by
  unfold ANG
  rw [show (y + 1).toNat = y.toNat + 1 by omega]
  show nxt μ (angN μ pl mo y.toNat) (y.toNat : Int) (if (y.toNat : Int) = pl then _ else _) = _
  rw [show (y.toNat : Int) = y by omega]
theorem ANG_bd {μ : Int → Int} (hV : IM μ) (pl mo y : Int) : 0 ≤ ANG μ pl mo y ∧ ANG μ pl mo y < 96 := by
  unfold ANG
  cases y.toNat with
  | zero => exact hV.st
  | succ n => exact nxt_bd hV _ _ _
theorem s_8_nextAngle {d : Nat} {P : Option qV → qH → Prop} {X : Nat → qH → Prop} {I : qI} {H : qS} {n : Nat} {μ : Int → Int} (hd : 2 ≤ d) {a y p : Int} (hS : Shp H) (hn : isT n) (hT : TR n I μ) (hV : IM μ) (ha : 0 ≤ a ∧ a < 96) (hy : 0 ≤ y ∧ y < 100) (hp : -100 ≤ p ∧ p ≤ 100) (h : P (some (vi (nxt μ a y p))) (I, H)) :
    Call d 103 [vr (some n) 6, vi a, vi y, vi p] (I, H) P X := by
  obtain ⟨d, rfl⟩ : ∃ e, d = e + 1 := ⟨d - 1, by omega⟩
  have v1 := hV.ra
  have v2 := hV.ba
  have v3 := hV.wi y hy.1 hy.2
  have v4 := hV.ro y hy.1 hy.2
  have hc : mx 0 (mn 48 (((μ 10 + μ (20 + y)) + μ (230 + y)) + p)) = clp (μ 10 + μ (20 + y) + μ (230 + y) + p) := by unfold clp mx mn; split <;> split <;> (try split) <;> omega
  have hk : 0 ≤ clp (μ 10 + μ (20 + y) + μ (230 + y) + p) ∧ clp (μ 10 + μ (20 + y) + μ (230 + y) + p) ≤ 48 := by unfold clp; split <;> (try split) <;> omega
  show WP (Call d) 103 P X (0, [some (vr (some n) 6), some (vi a), some (vi y), some (vi p), none, none], [], (I, H), 0, 0)
  refine WP.go 5 (And.intro (And.intro (Nat.le_of_ble_eq_true rfl) (Nat.le_of_ble_eq_true rfl)) (And.intro rfl (?_)))
  show Call d 84 [vr (some n) 6, vi 1] (I, H) _ _
  refine s_dial_1 (by omega) hS hn hT hV ?_
  show WP (Call d) 103 P X (5, [some (vr (some n) 6), some (vi a), some (vi y), some (vi p), none, none], [vi (μ 10), vi 48, vi 0], (I, H), 0, 0)
  refine WP.go 3 (And.intro (And.intro (Nat.le_of_ble_eq_true rfl) (Nat.le_of_ble_eq_true rfl)) (And.intro rfl (?_)))
  show Call d 86 [vr (some n) 6, vi y] (I, H) _ _
  refine s_8_windIn (by omega) hS hn hT hV (by omega) ?_
  show WP (Call d) 103 P X (8, [some (vr (some n) 6), some (vi a), some (vi y), some (vi p), none, none], [vi (μ (20 + y)), vi (μ 10), vi 48, vi 0], (I, H), 0, 0)
  refine WP.go 4 (Exists.intro ((μ 10) + (μ (20 + y))) (And.intro (wrp_a (by omega) (by omega)) (And.intro (And.intro (Nat.le_of_ble_eq_true rfl) (Nat.le_of_ble_eq_true rfl)) (And.intro rfl (?_)))))
  show Call d 88 [vr (some n) 6, vi y] (I, H) _ _
  refine s_8_ropesIn (by omega) hS hn hT hV (by omega) ?_
  show WP (Call d) 103 P X (12, [some (vr (some n) 6), some (vi a), some (vi y), some (vi p), none, none], [vi (μ (230 + y)), vi ((μ 10) + (μ (20 + y))), vi 48, vi 0], (I, H), 0, 0)
  refine WP.go 6 (Exists.intro (((μ 10) + (μ (20 + y))) + (μ (230 + y))) (And.intro (wrp_a (by omega) (by omega)) (Exists.intro ((((μ 10) + (μ (20 + y))) + (μ (230 + y))) + p) (And.intro (wrp_a (by omega) (by omega)) (And.intro (And.intro (Nat.le_of_ble_eq_true rfl) (Nat.le_of_ble_eq_true rfl)) (And.intro (And.intro (Nat.le_of_ble_eq_true rfl) (Nat.le_of_ble_eq_true rfl)) (?_)))))))
  show WP (Call d) 103 P X (18, [some (vr (some n) 6), some (vi a), some (vi y), some (vi p), some (vi (mx 0 (mn 48 ((((μ 10) + (μ (20 + y))) + (μ (230 + y))) + p)))), none], [], (I, H), 0, 0)
  refine rw_i (Q := fun x9 => WP (Call d) 103 P X (18, [some (vr (some n) 6), some (vi a), some (vi y), some (vi p), some (vi x9), none], [], (I, H), 0, 0)) (hc) ?_
  show WP (Call d) 103 P X (18, [some (vr (some n) 6), some (vi a), some (vi y), some (vi p), some (vi (clp (μ 10 + μ (20 + y) + μ (230 + y) + p))), none], [], (I, H), 0, 0)
  refine WP.go 3 (And.intro (And.intro (Nat.le_of_ble_eq_true rfl) (Nat.le_of_ble_eq_true rfl)) (And.intro rfl (?_)))
  show Call d 84 [vr (some n) 6, vi 2] (I, H) _ _
  refine s_dial_2 (by omega) hS hn hT hV ?_
  show WP (Call d) 103 P X (21, [some (vr (some n) 6), some (vi a), some (vi y), some (vi p), some (vi (clp (μ 10 + μ (20 + y) + μ (230 + y) + p))), none], [vi (μ 11)], (I, H), 0, 0)
  refine WP.go 4 (And.intro (fun (b24 : μ 11 = (-1)) => ?_) (fun (b24 : ¬ μ 11 = (-1)) => ?_))
  ·
    show WP (Call d) 103 P X (34, [some (vr (some n) 6), some (vi a), some (vi y), some (vi p), some (vi (clp (μ 10 + μ (20 + y) + μ (230 + y) + p))), some (vi (μ 11))], [], (I, H), 0, 0)
    refine WP.go 6 (Exists.intro (a + (clp (μ 10 + μ (20 + y) + μ (230 + y) + p))) (And.intro (wrp_a (by omega) (by omega)) (Exists.intro ((a + (clp (μ 10 + μ (20 + y) + μ (230 + y) + p))) % 96) (And.intro (tmod_a (by omega) (by omega)) (And.intro (And.intro (Nat.le_of_ble_eq_true rfl) (Nat.le_of_ble_eq_true rfl)) (And.intro trivial (?_)))))))
    show P (some (vi ((a + (clp (μ 10 + μ (20 + y) + μ (230 + y) + p))) % 96))) (I, H)
    exact fin_i (by unfold nxt; rw [if_neg (fun q => q.1 (by omega))]) h
  ·
    show WP (Call d) 103 P X (25, [some (vr (some n) 6), some (vi a), some (vi y), some (vi p), some (vi (clp (μ 10 + μ (20 + y) + μ (230 + y) + p))), some (vi (μ 11))], [], (I, H), 0, 0)
    refine WP.go 7 (Exists.intro ((μ 11) - a) (And.intro (wrp_a (by omega) (by omega)) (Exists.intro (((μ 11) - a) % 96) (And.intro (And.intro (And.intro (by omega) rfl) (And.intro (Nat.le_of_ble_eq_true rfl) (Nat.le_of_ble_eq_true rfl))) (And.intro (fun (b31 : clp (μ 10 + μ (20 + y) + μ (230 + y) + p) < ((μ 11) - a) % 96) => ?_) (fun (b31 : ¬ clp (μ 10 + μ (20 + y) + μ (230 + y) + p) < ((μ 11) - a) % 96) => ?_))))))
    ·
      show WP (Call d) 103 P X (34, [some (vr (some n) 6), some (vi a), some (vi y), some (vi p), some (vi (clp (μ 10 + μ (20 + y) + μ (230 + y) + p))), some (vi (μ 11))], [], (I, H), 0, 0)
      refine WP.go 6 (Exists.intro (a + (clp (μ 10 + μ (20 + y) + μ (230 + y) + p))) (And.intro (wrp_a (by omega) (by omega)) (Exists.intro ((a + (clp (μ 10 + μ (20 + y) + μ (230 + y) + p))) % 96) (And.intro (tmod_a (by omega) (by omega)) (And.intro (And.intro (Nat.le_of_ble_eq_true rfl) (Nat.le_of_ble_eq_true rfl)) (And.intro trivial (?_)))))))
      show P (some (vi ((a + (clp (μ 10 + μ (20 + y) + μ (230 + y) + p))) % 96))) (I, H)
      exact fin_i (by unfold nxt; rw [if_neg (fun q => by omega)]) h
    ·
      show WP (Call d) 103 P X (32, [some (vr (some n) 6), some (vi a), some (vi y), some (vi p), some (vi (clp (μ 10 + μ (20 + y) + μ (230 + y) + p))), some (vi (μ 11))], [], (I, H), 0, 0)
      refine WP.go 2 (And.intro (And.intro (Nat.le_of_ble_eq_true rfl) (Nat.le_of_ble_eq_true rfl)) (And.intro trivial (?_)))
      show P (some (vi (μ 11))) (I, H)
      exact fin_i (by unfold nxt; rw [if_pos ⟨by omega, by omega⟩]) h

