/-! the members of the JDK that are called -/
abbrev jCO : MethodName := ⟨"java/lang/String", "coder", "()B"⟩
abbrev jLE : MethodName := ⟨"java/lang/String", "length", "()I"⟩
abbrev jCH : MethodName := ⟨"java/lang/String", "charAt", "(I)C"⟩
abbrev jIL : MethodName := ⟨"java/lang/String", "isLatin1", "()Z"⟩
abbrev jCI : MethodName := ⟨"java/lang/String", "checkIndex", "(II)V"⟩
abbrev jLC : MethodName := ⟨"java/lang/StringLatin1", "charAt", "([BI)C"⟩
abbrev jPI : MethodName := ⟨"jdk/internal/util/Preconditions", "checkIndex", "(IILjava/util/function/BiFunction;)I"⟩
abbrev jFM : MethodName := ⟨"java/lang/Math", "floorMod", "(II)I"⟩
abbrev jCP : MethodName := ⟨"java/util/Arrays", "copyOf", "([II)[I"⟩
theorem jCO_c : Cond.code jCO prog_24_method_152_code 1 (some .byte) ∈ BIG := big_of 690 (by decide +kernel) (by decide +kernel)
theorem jCO_i : Cond.instanceMethod jCO ∈ BIG := big_of 688 (by decide +kernel) (by decide +kernel)
theorem jCO_v : Cond.selects "java/lang/String" jCO jCO ∈ BIG := big_of 689 (by decide +kernel) (by decide +kernel)
theorem jLE_c : Cond.code jLE prog_24_method_54_code 1 (some .int) ∈ BIG := big_of 686 (by decide +kernel) (by decide +kernel)
theorem jLE_i : Cond.instanceMethod jLE ∈ BIG := big_of 684 (by decide +kernel) (by decide +kernel)
theorem jLE_v : Cond.selects "java/lang/String" jLE jLE ∈ BIG := big_of 685 (by decide +kernel) (by decide +kernel)
theorem jCH_c : Cond.code jCH prog_24_method_56_code 2 (some .char) ∈ BIG := big_of 696 (by decide +kernel) (by decide +kernel)
theorem jCH_i : Cond.instanceMethod jCH ∈ BIG := big_of 694 (by decide +kernel) (by decide +kernel)
theorem jCH_v : Cond.selects "java/lang/String" jCH jCH ∈ BIG := big_of 695 (by decide +kernel) (by decide +kernel)
theorem jIL_c : Cond.code jIL prog_24_method_154_code 1 (some .boolean) ∈ BIG := big_of 700 (by decide +kernel) (by decide +kernel)
theorem jIL_i : Cond.instanceMethod jIL ∈ BIG := big_of 698 (by decide +kernel) (by decide +kernel)
theorem jIL_v : Cond.selects "java/lang/String" jIL jIL ∈ BIG := big_of 699 (by decide +kernel) (by decide +kernel)
theorem jCI_c : Cond.code jCI prog_24_method_155_code 2 none ∈ BIG := big_of 706 (by decide +kernel) (by decide +kernel)
theorem jCI_s : Cond.static jCI ∈ BIG := big_of 705 (by decide +kernel) (by decide +kernel)
theorem jLC_c : Cond.code jLC prog_25_method_2_code 2 (some .char) ∈ BIG := big_of 703 (by decide +kernel) (by decide +kernel)
theorem jLC_s : Cond.static jLC ∈ BIG := big_of 702 (by decide +kernel) (by decide +kernel)
theorem jPI_c : Cond.code jPI prog_34_method_11_code 3 (some .int) ∈ BIG := big_of 711 (by decide +kernel) (by decide +kernel)
theorem jPI_s : Cond.static jPI ∈ BIG := big_of 710 (by decide +kernel) (by decide +kernel)
theorem jFM_c : Cond.code jFM prog_22_method_50_code 3 (some .int) ∈ BIG := big_of 466 (by decide +kernel) (by decide +kernel)
theorem jFM_s : Cond.static jFM ∈ BIG := big_of 465 (by decide +kernel) (by decide +kernel)
theorem jCP_c : Cond.code jCP prog_32_method_123_code 3 (some (.array .int)) ∈ BIG := big_of 988 (by decide +kernel) (by decide +kernel)
theorem jCP_s : Cond.static jCP ∈ BIG := big_of 987 (by decide +kernel) (by decide +kernel)
theorem wi_S : Cond.initialized "java/lang/String" ∈ BIG := big_of 98 (by decide +kernel) (by decide +kernel)
theorem wi_L : Cond.initialized "java/lang/StringLatin1" ∈ BIG := big_of 99 (by decide +kernel) (by decide +kernel)
theorem wi_P : Cond.initialized "jdk/internal/util/Preconditions" ∈ BIG := big_of 100 (by decide +kernel) (by decide +kernel)
theorem wi_A : Cond.initialized "java/util/Arrays" ∈ BIG := big_of 108 (by decide +kernel) (by decide +kernel)
theorem wi_Y : Cond.initialized "java/lang/System" ∈ BIG := big_of 109 (by decide +kernel) (by decide +kernel)
theorem jl_co : Cond.methodLink "java/lang/String" 335 jCO ∈ BIG := big_of 687 (by decide +kernel) (by decide +kernel)
theorem jl_il : Cond.methodLink "java/lang/String" 492 jIL ∈ BIG := big_of 697 (by decide +kernel) (by decide +kernel)
theorem jl_lc : Cond.methodLink "java/lang/String" 495 jLC ∈ BIG := big_of 701 (by decide +kernel) (by decide +kernel)
theorem jl_ci : Cond.methodLink "java/lang/StringLatin1" 9 jCI ∈ BIG := big_of 704 (by decide +kernel) (by decide +kernel)
theorem jl_pi : Cond.methodLink "java/lang/String" 1059 jPI ∈ BIG := big_of 709 (by decide +kernel) (by decide +kernel)
theorem jl_mi : Cond.methodLink "java/util/Arrays" 304 Lib.Math.min.name ∈ BIG := big_of 996 (by decide +kernel) (by decide +kernel)
theorem jl_ac : Cond.methodLink "java/util/Arrays" 150 arraycopyName ∈ BIG := big_of 997 (by decide +kernel) (by decide +kernel)
theorem jf_v : Cond.fieldLink "java/lang/String" 9 "java/lang/String" "value" "[B" ∈ BIG := big_of 1926 (by decide +kernel) (by decide +kernel)
theorem jf_c : Cond.fieldLink "java/lang/String" 15 "java/lang/String" "coder" "B" ∈ BIG := big_of 1927 (by decide +kernel) (by decide +kernel)
theorem jf_k : Cond.fieldLink "java/lang/String" 38 "java/lang/String" "COMPACT_STRINGS" "Z" ∈ BIG := big_of 691 (by decide +kernel) (by decide +kernel)
theorem jf_f : Cond.fieldLink "java/lang/String" 1053 "jdk/internal/util/Preconditions" "SIOOBE_FORMATTER" "Ljava/util/function/BiFunction;" ∈ BIG := big_of 707 (by decide +kernel) (by decide +kernel)
theorem jn_ac : Cond.native arraycopyName ∈ BIG := big_of 999 (by decide +kernel) (by decide +kernel)
theorem js_ac : Cond.static arraycopyName ∈ BIG := big_of 998 (by decide +kernel) (by decide +kernel)
theorem jCO_0 : decode prog_24_method_152_code 0 = .ok (.getstatic 38, 3) := by decide +kernel
theorem jCO_3 : decode prog_24_method_152_code 3 = .ok (.ifCond .eq 10, 3) := by decide +kernel
theorem jCO_6 : decode prog_24_method_152_code 6 = .ok (.aload_n 0, 1) := by decide +kernel
theorem jCO_7 : decode prog_24_method_152_code 7 = .ok (.getfield 15, 3) := by decide +kernel
theorem jCO_10 : decode prog_24_method_152_code 10 = .ok (.goto 4, 3) := by decide +kernel
theorem jCO_13 : decode prog_24_method_152_code 13 = .ok (.iconst 1, 1) := by decide +kernel
theorem jCO_14 : decode prog_24_method_152_code 14 = .ok (.ireturn, 1) := by decide +kernel
theorem jLE_0 : decode prog_24_method_54_code 0 = .ok (.aload_n 0, 1) := by decide +kernel
theorem jLE_1 : decode prog_24_method_54_code 1 = .ok (.getfield 9, 3) := by decide +kernel
theorem jLE_4 : decode prog_24_method_54_code 4 = .ok (.arraylength, 1) := by decide +kernel
theorem jLE_5 : decode prog_24_method_54_code 5 = .ok (.aload_n 0, 1) := by decide +kernel
theorem jLE_6 : decode prog_24_method_54_code 6 = .ok (.invokevirtual 335, 3) := by decide +kernel
theorem jLE_9 : decode prog_24_method_54_code 9 = .ok (.ishr, 1) := by decide +kernel
theorem jLE_10 : decode prog_24_method_54_code 10 = .ok (.ireturn, 1) := by decide +kernel
theorem jCH_0 : decode prog_24_method_56_code 0 = .ok (.aload_n 0, 1) := by decide +kernel
theorem jCH_1 : decode prog_24_method_56_code 1 = .ok (.invokevirtual 492, 3) := by decide +kernel
theorem jCH_4 : decode prog_24_method_56_code 4 = .ok (.ifCond .eq 12, 3) := by decide +kernel
theorem jCH_7 : decode prog_24_method_56_code 7 = .ok (.aload_n 0, 1) := by decide +kernel
theorem jCH_8 : decode prog_24_method_56_code 8 = .ok (.getfield 9, 3) := by decide +kernel
theorem jCH_11 : decode prog_24_method_56_code 11 = .ok (.iload_n 1, 1) := by decide +kernel
theorem jCH_12 : decode prog_24_method_56_code 12 = .ok (.invokestatic 495, 3) := by decide +kernel
theorem jCH_15 : decode prog_24_method_56_code 15 = .ok (.ireturn, 1) := by decide +kernel
theorem jIL_0 : decode prog_24_method_154_code 0 = .ok (.getstatic 38, 3) := by decide +kernel
theorem jIL_3 : decode prog_24_method_154_code 3 = .ok (.ifCond .eq 14, 3) := by decide +kernel
theorem jIL_6 : decode prog_24_method_154_code 6 = .ok (.aload_n 0, 1) := by decide +kernel
theorem jIL_7 : decode prog_24_method_154_code 7 = .ok (.getfield 15, 3) := by decide +kernel
theorem jIL_10 : decode prog_24_method_154_code 10 = .ok (.ifCond .ne 7, 3) := by decide +kernel
theorem jIL_13 : decode prog_24_method_154_code 13 = .ok (.iconst 1, 1) := by decide +kernel
theorem jIL_14 : decode prog_24_method_154_code 14 = .ok (.goto 4, 3) := by decide +kernel
theorem jIL_18 : decode prog_24_method_154_code 18 = .ok (.ireturn, 1) := by decide +kernel
theorem jCI_0 : decode prog_24_method_155_code 0 = .ok (.iload_n 0, 1) := by decide +kernel
theorem jCI_1 : decode prog_24_method_155_code 1 = .ok (.iload_n 1, 1) := by decide +kernel
theorem jCI_2 : decode prog_24_method_155_code 2 = .ok (.getstatic 1053, 3) := by decide +kernel
theorem jCI_5 : decode prog_24_method_155_code 5 = .ok (.invokestatic 1059, 3) := by decide +kernel
theorem jCI_8 : decode prog_24_method_155_code 8 = .ok (.pop, 1) := by decide +kernel
theorem jCI_9 : decode prog_24_method_155_code 9 = .ok (.return_, 1) := by decide +kernel
theorem jLC_0 : decode prog_25_method_2_code 0 = .ok (.iload_n 1, 1) := by decide +kernel
theorem jLC_1 : decode prog_25_method_2_code 1 = .ok (.aload_n 0, 1) := by decide +kernel
theorem jLC_2 : decode prog_25_method_2_code 2 = .ok (.arraylength, 1) := by decide +kernel
theorem jLC_3 : decode prog_25_method_2_code 3 = .ok (.invokestatic 9, 3) := by decide +kernel
theorem jLC_6 : decode prog_25_method_2_code 6 = .ok (.aload_n 0, 1) := by decide +kernel
theorem jLC_7 : decode prog_25_method_2_code 7 = .ok (.iload_n 1, 1) := by decide +kernel
theorem jLC_8 : decode prog_25_method_2_code 8 = .ok (.baload, 1) := by decide +kernel
theorem jLC_9 : decode prog_25_method_2_code 9 = .ok (.sipush 255, 3) := by decide +kernel
theorem jLC_12 : decode prog_25_method_2_code 12 = .ok (.iand, 1) := by decide +kernel
theorem jLC_13 : decode prog_25_method_2_code 13 = .ok (.i2c, 1) := by decide +kernel
theorem jLC_14 : decode prog_25_method_2_code 14 = .ok (.ireturn, 1) := by decide +kernel
theorem jPI_0 : decode prog_34_method_11_code 0 = .ok (.iload_n 0, 1) := by decide +kernel
theorem jPI_1 : decode prog_34_method_11_code 1 = .ok (.ifCond .lt 8, 3) := by decide +kernel
theorem jPI_4 : decode prog_34_method_11_code 4 = .ok (.iload_n 0, 1) := by decide +kernel
theorem jPI_5 : decode prog_34_method_11_code 5 = .ok (.iload_n 1, 1) := by decide +kernel
theorem jPI_6 : decode prog_34_method_11_code 6 = .ok (.if_icmp .lt 10, 3) := by decide +kernel
theorem jPI_16 : decode prog_34_method_11_code 16 = .ok (.iload_n 0, 1) := by decide +kernel
theorem jPI_17 : decode prog_34_method_11_code 17 = .ok (.ireturn, 1) := by decide +kernel
theorem jCP_0 : decode prog_32_method_123_code 0 = .ok (.iload_n 1, 1) := by decide +kernel
theorem jCP_1 : decode prog_32_method_123_code 1 = .ok (.aload_n 0, 1) := by decide +kernel
theorem jCP_2 : decode prog_32_method_123_code 2 = .ok (.arraylength, 1) := by decide +kernel
theorem jCP_3 : decode prog_32_method_123_code 3 = .ok (.if_icmp .ne 11, 3) := by decide +kernel
theorem jCP_14 : decode prog_32_method_123_code 14 = .ok (.iload_n 1, 1) := by decide +kernel
theorem jCP_15 : decode prog_32_method_123_code 15 = .ok (.newarray .int, 2) := by decide +kernel
theorem jCP_17 : decode prog_32_method_123_code 17 = .ok (.astore_n 2, 1) := by decide +kernel
theorem jCP_18 : decode prog_32_method_123_code 18 = .ok (.aload_n 0, 1) := by decide +kernel
theorem jCP_19 : decode prog_32_method_123_code 19 = .ok (.iconst 0, 1) := by decide +kernel
theorem jCP_20 : decode prog_32_method_123_code 20 = .ok (.aload_n 2, 1) := by decide +kernel
theorem jCP_21 : decode prog_32_method_123_code 21 = .ok (.iconst 0, 1) := by decide +kernel
theorem jCP_22 : decode prog_32_method_123_code 22 = .ok (.aload_n 0, 1) := by decide +kernel
theorem jCP_23 : decode prog_32_method_123_code 23 = .ok (.arraylength, 1) := by decide +kernel
theorem jCP_24 : decode prog_32_method_123_code 24 = .ok (.iload_n 1, 1) := by decide +kernel
theorem jCP_25 : decode prog_32_method_123_code 25 = .ok (.invokestatic 304, 3) := by decide +kernel
theorem jCP_28 : decode prog_32_method_123_code 28 = .ok (.invokestatic 150, 3) := by decide +kernel
theorem jCP_31 : decode prog_32_method_123_code 31 = .ok (.aload_n 2, 1) := by decide +kernel
theorem jCP_32 : decode prog_32_method_123_code 32 = .ok (.areturn, 1) := by decide +kernel
def JPre (G : qG) (vals : List Value) : Array Value → State → Prop := fun a t => a = vals.toArray ∧ Sta G t
def JPost (v : Option Value) : Array Value → State → Outcome → State → Prop := fun _ st o t => o = .returned v ∧ t.heap = st.heap
theorem JPre.blind {G : qG} {vals : List Value} : FrameBlind (JPre G vals) := fun a U g' mk h => ⟨h.1, h.2.same rfl rfl⟩
def rmJ (k : Nat) : Room := { frames := k, locals := 40 * k, cells := 0, slots := 0 }
theorem jm_of {l : Launch} {G : qG} {y : MethodName} {cc : ByteArray} {maxL : Nat} {ret : Option FieldType} {rm : Room} {vals : List Value} {v : Option Value} (hy : plainName y.cls = true) (hlen : (lg_sl vals).length ≤ maxL)
    (body : ∀ (p : Program) (e : Env) (s : State) (m : MethodId) (args : Array Value) (below : List Frame) (meth : Method) (c : Code) (ls : Array Slot), p.tables.exec = Jvm.exec → c.code = cc → c.maxLocals = maxL → s.vm.findClass y.cls = some m.cls → (∀ w ∈ BIG, w.before args s = true) → Sta G s → meth.sig.returnType = ret → meth.locks = false → lv_has ls maxL (lv_args 0 vals) → va_S (gA G) s.heap s.heap [] →
      W p l e rm s m args below meth c s.heap [] 0 0 (MQ below (JPost v) args s 0 0 (fun _ => False)) (F0 m 0 ls [])) : Met l y (Cond.code y cc maxL ret :: BIG) rm (JPre G vals) (JPost v) 0 0 (fun _ => False) := by
  refine Met.ofW hy rfl ?_
  intro p e s m args below meth c s₁ B hml hP
  obtain ⟨ha, hE⟩ := hP
  subst ha
  rw [lg_entry_eq]
  exact body p e s m _ below meth c _ B.exec B.bytes hml (findClass_of_methodNamed B.named) (fun w hw => atoms_spec B.pre w (List.mem_cons_of_mem _ hw)) hE B.returns B.notSynchronized (lv_entry vals hlen) va_S.rf
section J
variable {G : qG} {p : Program} {l : Launch} {e : Env} {R : Room} {s : State} {m : MethodId} {args : Array Value} {below : List Frame} {meth : Method} {c : Code} {Q : State → Prop}
variable {c' s' pc : Nat} {Hp : Heap} {locs : List Loc} {ls : Array Slot} {st0 rest : List Value} {aa : Array Value} {v : Option Value}
theorem j_run (hr : va_Run p l e R s m args below meth c Hp locs c' s' 0 0 (F0 m pc ls st0) rest (JPost v aa) (fun _ => False)) (kk : W p l e R s m args below meth c Hp locs c' s' Q (F0 m (pc + 3) ls (v.toList ++ rest))) : W p l e R s m args below meth c Hp locs c' s' Q (F0 m pc ls st0) := by
  intro T hT X
  obtain ⟨v', st₀, t, T', L, h0, X', hL, e1, e2, ⟨ho, hh⟩, st⟩ := hr T hT X
  cases ho
  have hL0 : L = [] := by
    cases L with
    | nil => rfl
    | cons x L => exact (hL x List.mem_cons_self).elim
  subst hL0
  rw [List.append_nil] at X'
  obtain ⟨t2, a1, b1⟩ := kk T' (by rw [e1, hh, h0]) X'
  exact ⟨t2, st t2 a1, b1⟩
theorem j_preS {vals : List Value} (hE : Sta G s) (hS : va_S (gA G) s.heap Hp locs) : PreS s Hp (JPre G vals) vals := ⟨JPre.blind, fun U hU hW => ⟨rfl, hE.next hS hU hW⟩⟩
theorem j_preV {b : Nat} {vals : List Value} (hE : Sta G s) (hS : va_S (gA G) s.heap Hp locs) (hb : ∃ cell : Cell, Hp[b]? = some cell ∧ cell.vm.isStatics = false ∧ s.vm.findClass "java/lang/String" = some cell.cls) : PreV s Hp "java/lang/String" b (JPre G (.ref b :: vals)) vals := ⟨JPre.blind, hb, fun U hU hW => ⟨rfl, hE.next hS hU hW⟩⟩
theorem j_static {own : String} {index n maxL nL : Nat} {y : MethodName} {cc bytes : ByteArray} {ret : Option FieldType} {rm : Room} {As : List Value} (hM : Met l y (Cond.code y bytes maxL ret :: BIG) rm (JPre G As) (JPost v) 0 0 (fun _ => False)) (hS0 : CallFix p m c cc nL s args BIG own) (hE : Sta G s) (hS : va_S (gA G) s.heap Hp locs)
    (w1 : Cond.methodLink own index y ∈ BIG) (w2 : Cond.static y ∈ BIG) (w3 : Cond.initialized y.cls ∈ BIG) (w4 : Cond.code y bytes maxL ret ∈ BIG) (hrm : rm.cells = 0 ∧ rm.slots = 0) (hd : y.cls ≠ "java/lang/invoke/MethodHandle" ∧ y.cls ≠ "java/lang/invoke/VarHandle" ∧ (parseMethodDescriptor y.desc).map (fun d => d.parameters.length) = some n)
    (hR : rm.frames + 1 ≤ R.frames ∧ 8 + (maxL + 11) + rm.locals ≤ R.locals) (hn : As.length = n) (hsz : ls.size = nL) (hW : (rest.map fun v => v.category).sum ≤ 8) (hdg : decode cc pc = .ok (.invokestatic index, 3)) (hf : c' ≤ R.cells ∧ s' ≤ R.slots) (hst : st0 = As.reverse ++ rest)
    (kk : W p l e R s m args below meth c Hp locs c' s' Q (F0 m (pc + 3) ls (v.toList ++ rest))) : W p l e R s m args below meth c Hp locs c' s' Q (F0 m pc ls st0) := by
  have cw := va_cwS (R := R) (mc := 0) (ms := 0) n hS0.2.2.2.2 (big_ap (A := [.methodLink own index y, .static y, .initialized y.cls]) (List.forall_mem_cons.mpr ⟨w1, List.forall_mem_cons.mpr ⟨w2, List.forall_mem_cons.mpr ⟨w3, fun _ q => nomatch q⟩⟩⟩) (B := Cond.code y bytes maxL ret :: BIG) (List.forall_mem_cons.mpr ⟨w4, fun _ h => h⟩)) rfl hrm.1 hrm.2 hd hR
  exact j_run (va_runS (g := F0 m pc ls st0) hS0 hM cw (j_preS hE hS) rfl hn hsz hst (by show 2 * 0 + _ ≤ _; omega) hdg hf) kk
theorem j_virt {own : String} {index n maxL nL b : Nat} {y : MethodName} {cc bytes : ByteArray} {ret : Option FieldType} {rm : Room} {As : List Value} (hM : Met l y (Cond.code y bytes maxL ret :: BIG) rm (JPre G (.ref b :: As)) (JPost v) 0 0 (fun _ => False)) (hS0 : CallFix p m c cc nL s args BIG own) (hE : Sta G s) (hS : va_S (gA G) s.heap Hp locs)
    (hb : ∃ cell : Cell, Hp[b]? = some cell ∧ cell.vm.isStatics = false ∧ s.vm.findClass "java/lang/String" = some cell.cls)
    (w1 : Cond.methodLink own index y ∈ BIG) (w2 : Cond.instanceMethod y ∈ BIG) (w3 : Cond.selects "java/lang/String" y y ∈ BIG) (w4 : Cond.code y bytes maxL ret ∈ BIG) (hrm : rm.cells = 0 ∧ rm.slots = 0) (hd : y.cls = "java/lang/String" ∧ y.cls ≠ "java/lang/invoke/MethodHandle" ∧ y.cls ≠ "java/lang/invoke/VarHandle" ∧ (parseMethodDescriptor y.desc).map (fun d => d.parameters.length) = some n)
    (hR : rm.frames + 1 ≤ R.frames ∧ 8 + (maxL + 11) + rm.locals ≤ R.locals) (hn : As.length = n) (hsz : ls.size = nL) (hW : (rest.map fun v => v.category).sum ≤ 8) (hdg : decode cc pc = .ok (.invokevirtual index, 3)) (hf : c' ≤ R.cells ∧ s' ≤ R.slots) (hst : st0 = As.reverse ++ .ref b :: rest)
    (kk : W p l e R s m args below meth c Hp locs c' s' Q (F0 m (pc + 3) ls (v.toList ++ rest))) : W p l e R s m args below meth c Hp locs c' s' Q (F0 m pc ls st0) := by
  have cw := cwV (R := R) (own := own) (C := "java/lang/String") (index := index) (y := y) (rm := rm) (mc := 0) (ms := 0) n hS0.2.2.2.2 (goodIn_big _ (fun w hw => by
    unfold wsV at hw
    rcases List.mem_append.mp hw with hw | hw
    · simp only [List.mem_cons, List.not_mem_nil, or_false] at hw
      rcases hw with rfl | rfl | rfl | rfl
      · exact w1
      · exact w2
      · exact w3
      · exact wi_S
    · exact (List.mem_cons.mp hw).elim (fun q => by rw [q]; exact w4) (fun q => q))) (ws := Cond.code y bytes maxL ret :: BIG) rfl hrm.1 hrm.2 hd hR
  exact j_run (va_runV (g := F0 m pc ls st0) hS0 hM cw (j_preV hE hS hb) rfl hn hsz hst (by show 2 * 0 + _ ≤ _; omega) hdg hf) kk
end J
section M
variable {G : qG} {l : Launch}
theorem co_met {i : Nat} (hi : i < nstr) : Met l jCO (Cond.code jCO prog_24_method_152_code 1 (some .byte) :: BIG) (rmJ 1) (JPre G [.ref (G.2.2.2.2.2.2.1 i)]) (JPost (some (.int 0))) 0 0 (fun _ => False) := by
  refine jm_of (by decide +kernel) (Nat.le_refl _) ?_
  intro p e s m args below meth c ls hx hb hml hown hts hE hrt hlk hl hS
  refine va_gets hx hb hE.2.2.2.2.2.1.1 hS hown (hts _ jf_k) (fun _ h9 => h9) jCO_0 ?_
  refine lv_if_eq (x := 1) (tgt := 13) hx hb jCO_3 rfl (fun q => by cases q) (fun _ => ?_)
  refine lv_aload_n hx hb jCO_6 rfl (lv_at hl 0 rfl) ?_
  refine vk_getf hx hb ((hE.2.2.2.2.1.1 i hi).1 0 Nat.one_pos).2.1 hS hown (hts _ jf_c) (fun _ h9 => h9) jCO_7 ?_
  refine lv_goto (tgt := 14) hx hb jCO_10 rfl ?_
  exact W.zret hx hb hrt rfl (fun t ht _ => ⟨rfl, ht⟩) (fun q hq => nomatch hq) jCO_14 hlk
theorem le_met {i : Nat} (hi : i < nstr) : Met l jLE (Cond.code jLE prog_24_method_54_code 1 (some .int) :: BIG) (rmJ 2) (JPre G [.ref (G.2.2.2.2.2.2.1 i)]) (JPost (some (.int (Int32.ofNat (slnL.getD i 0))))) 0 0 (fun _ => False) := by
  refine jm_of (by decide +kernel) (Nat.le_refl _) ?_
  intro p e s m args below meth c ls hx hb hml hown hts hE hrt hlk hl hS
  refine lv_aload_n hx hb jLE_0 rfl (lv_at hl 0 rfl) ?_
  refine vk_getf hx hb ((hE.2.2.2.2.1.1 i hi).1 0 Nat.one_pos).2.2.1 hS hown (hts _ jf_v) (fun _ h9 => h9) jLE_1 ?_
  refine va_tlen hx hb ((hE.2.2.2.2.1.1 i hi).1 0 Nat.one_pos).2.2.2 hS rfl jLE_4 ?_
  refine lv_aload_n hx hb jLE_5 rfl (lv_at hl 0 rfl) ?_
  refine j_virt (co_met hi) ⟨hx, hb, hml, hown, hts⟩ hE hS (vk_recv (i := 0) (hE.2.2.2.2.1.1 i hi) Nat.one_pos hS) jl_co jCO_i jCO_v jCO_c ⟨rfl, rfl⟩ ⟨rfl, by decide, by decide, by decide +kernel⟩ ⟨by decide, by decide⟩ rfl hl.1 (by show (1 : Nat) ≤ 8; omega) jLE_6 ⟨Nat.le_refl _, Nat.le_refl _⟩ rfl ?_
  refine lv_ishr hx hb jLE_9 ?_
  refine W.zret hx hb hrt rfl (fun t ht _ => ⟨?_, ht⟩) (fun q hq => nomatch hq) jLE_10 hlk
  congr 3
  exact Int32.shiftRight_zero
theorem il_met {i : Nat} (hi : i < nstr) : Met l jIL (Cond.code jIL prog_24_method_154_code 1 (some .boolean) :: BIG) (rmJ 1) (JPre G [.ref (G.2.2.2.2.2.2.1 i)]) (JPost (some (.int 1))) 0 0 (fun _ => False) := by
  refine jm_of (by decide +kernel) (Nat.le_refl _) ?_
  intro p e s m args below meth c ls hx hb hml hown hts hE hrt hlk hl hS
  refine va_gets hx hb hE.2.2.2.2.2.1.1 hS hown (hts _ jf_k) (fun _ h9 => h9) jIL_0 ?_
  refine lv_if_eq (x := 1) (tgt := 17) hx hb jIL_3 rfl (fun q => by cases q) (fun _ => ?_)
  refine lv_aload_n hx hb jIL_6 rfl (lv_at hl 0 rfl) ?_
  refine vk_getf hx hb ((hE.2.2.2.2.1.1 i hi).1 0 Nat.one_pos).2.1 hS hown (hts _ jf_c) (fun _ h9 => h9) jIL_7 ?_
  refine lv_if_ne (x := 0) (tgt := 17) hx hb jIL_10 rfl (fun q => absurd rfl q) (fun _ => ?_)
  refine lv_iconst (v := 1) hx hb jIL_13 rfl ?_
  refine lv_goto (tgt := 18) hx hb jIL_14 rfl ?_
  exact W.zret hx hb hrt rfl (fun t ht _ => ⟨rfl, ht⟩) (fun q hq => nomatch hq) jIL_18 hlk
theorem lg3 {x y : Int32} {f : Value} (hf : f.category = 1) : (lg_sl [.int x, .int y, f]).length ≤ 3 := by
  have e1 : (Value.int x).category = 1 := rfl
  have e2 : (Value.int y).category = 1 := rfl
  simp [lg_sl, hf, e1, e2]
theorem pi_met {x y : Int32} {f : Value} (hf : f.category = 1) (h0 : ¬ x < 0) (h1 : x < y) : Met l jPI (Cond.code jPI prog_34_method_11_code 3 (some .int) :: BIG) (rmJ 1) (JPre G [.int x, .int y, f]) (JPost (some (.int x))) 0 0 (fun _ => False) := by
  refine jm_of (by decide +kernel) (lg3 hf) ?_
  intro p e s m args below meth c ls hx hb hml hown hts hE hrt hlk hl hS
  refine lv_iload_n (x := x) hx hb jPI_0 rfl (lv_at hl 0 rfl) ?_
  refine lv_if_lt (x := x) (tgt := 9) hx hb jPI_1 rfl (fun q => absurd q h0) (fun _ => ?_)
  refine lv_iload_n (x := x) hx hb jPI_4 rfl (lv_at hl 0 rfl) ?_
  refine lv_iload_n (x := y) hx hb jPI_5 rfl (lv_at hl 1 rfl) ?_
  refine lv_icmp_lt (x := x) (y := y) (tgt := 16) hx hb jPI_6 rfl (fun _ => ?_) (fun q => absurd h1 q)
  refine lv_iload_n (x := x) hx hb jPI_16 rfl (lv_at hl 0 rfl) ?_
  exact W.zret hx hb hrt rfl (fun t ht _ => ⟨rfl, ht⟩) (fun q hq => nomatch hq) jPI_17 hlk
theorem ci_met {x y : Int32} (h0 : ¬ x < 0) (h1 : x < y) : Met l jCI (Cond.code jCI prog_24_method_155_code 2 none :: BIG) (rmJ 2) (JPre G [.int x, .int y]) (JPost none) 0 0 (fun _ => False) := by
  refine jm_of (by decide +kernel) (Nat.le_refl _) ?_
  intro p e s m args below meth c ls hx hb hml hown hts hE hrt hlk hl hS
  refine lv_iload_n (x := x) hx hb jCI_0 rfl (lv_at hl 0 rfl) ?_
  refine lv_iload_n (x := y) hx hb jCI_1 rfl (lv_at hl 1 rfl) ?_
  have fin : ∀ f : Value, f.category = 1 → W p l e (rmJ 2) s m args below meth c s.heap [] 0 0 (MQ below (JPost none) args s 0 0 (fun _ => False)) (F0 m (2 + 3) ls [f, .int y, .int x]) := by
    intro f hf
    refine j_static (n := 3) (pi_met hf h0 h1) ⟨hx, hb, hml, hown, hts⟩ hE hS jl_pi jPI_s wi_P jPI_c ⟨rfl, rfl⟩ ⟨by decide, by decide, by decide +kernel⟩ ⟨by decide, by decide⟩ rfl hl.1 (rest := []) (by decide) jCI_5 ⟨Nat.le_refl _, Nat.le_refl _⟩ rfl ?_
    refine lv_pop hx hb jCI_8 rfl ?_
    exact W.vret hx hb hrt (fun t ht _ => ⟨rfl, ht⟩) (fun q hq => nomatch hq) jCI_9 hlk
  rcases hE.2.2.2.2.2.1.2 with hz | ⟨t, hz⟩
  · refine va_gets hx hb hz hS hown (hts _ jf_f) (fun _ h9 => h9) jCI_2 (fin _ rfl)
  · refine va_gets hx hb hz hS hown (hts _ jf_f) (fun _ h9 => h9) jCI_2 (fin _ rfl)
theorem lc_met {i : Nat} (hi : i < nstr) {x : Int32} (h0 : ¬ x < 0) (h1 : x < Int32.ofNat (slnL.getD i 0)) (hin : vp_in x (slnL.getD i 0)) {b : Int32} (hb9 : ((sbyL.getD i []).getD x.toNatClampNeg 0) = b) (hv : ((b &&& 255).toUInt32 % 65536).toInt32 = b) (hnr : narrow .char (.int b) = .int b) : Met l jLC (Cond.code jLC prog_25_method_2_code 2 (some .char) :: BIG) (rmJ 3) (JPre G [.ref (G.2.2.2.2.2.2.2.1 i), .int x]) (JPost (some (.int b))) 0 0 (fun _ => False) := by
  refine jm_of (by decide +kernel) (Nat.le_refl _) ?_
  intro p e s m args below meth c ls hx hb hml hown hts hE hrt hlk hl hS
  refine lv_iload_n (x := x) hx hb jLC_0 rfl (lv_at hl 1 rfl) ?_
  refine lv_aload_n hx hb jLC_1 rfl (lv_at hl 0 rfl) ?_
  refine va_tlen hx hb ((hE.2.2.2.2.1.1 i hi).1 0 Nat.one_pos).2.2.2 hS rfl jLC_2 ?_
  refine j_static (n := 2) (ci_met h0 h1) ⟨hx, hb, hml, hown, hts⟩ hE hS jl_ci jCI_s wi_S jCI_c ⟨rfl, rfl⟩ ⟨by decide, by decide, by decide +kernel⟩ ⟨by decide, by decide⟩ rfl hl.1 (rest := []) (by decide) jLC_3 ⟨Nat.le_refl _, Nat.le_refl _⟩ rfl ?_
  refine lv_aload_n hx hb jLC_6 rfl (lv_at hl 0 rfl) ?_
  refine lv_iload_n (x := x) hx hb jLC_7 rfl (lv_at hl 1 rfl) ?_
  refine va_tb hx hb ((hE.2.2.2.2.1.1 i hi).1 0 Nat.one_pos).2.2.2 hS hin (v := .int b) (by show Value.int ((sbyL.getD i []).getD x.toNatClampNeg 0) = _; rw [hb9]) jLC_8 ?_
  refine lv_sipush (v := 255) hx hb jLC_9 rfl ?_
  refine lv_iand hx hb jLC_12 ?_
  refine lv_i2c (v := b) hx hb jLC_13 hv ?_
  exact W.zret hx hb hrt hnr (fun t ht _ => ⟨rfl, ht⟩) (fun q hq => nomatch hq) jLC_14 hlk
theorem ch_met {i : Nat} (hi : i < nstr) {x : Int32} (h0 : ¬ x < 0) (h1 : x < Int32.ofNat (slnL.getD i 0)) (hin : vp_in x (slnL.getD i 0)) {b : Int32} (hb9 : ((sbyL.getD i []).getD x.toNatClampNeg 0) = b) (hv : ((b &&& 255).toUInt32 % 65536).toInt32 = b) (hnr : narrow .char (.int b) = .int b) : Met l jCH (Cond.code jCH prog_24_method_56_code 2 (some .char) :: BIG) (rmJ 4) (JPre G [.ref (G.2.2.2.2.2.2.1 i), .int x]) (JPost (some (.int b))) 0 0 (fun _ => False) := by
  refine jm_of (by decide +kernel) (Nat.le_refl _) ?_
  intro p e s m args below meth c ls hx hb hml hown hts hE hrt hlk hl hS
  refine lv_aload_n hx hb jCH_0 rfl (lv_at hl 0 rfl) ?_
  refine j_virt (il_met hi) ⟨hx, hb, hml, hown, hts⟩ hE hS (vk_recv (i := 0) (hE.2.2.2.2.1.1 i hi) Nat.one_pos hS) jl_il jIL_i jIL_v jIL_c ⟨rfl, rfl⟩ ⟨rfl, by decide, by decide, by decide +kernel⟩ ⟨by decide, by decide⟩ (As := []) rfl hl.1 (rest := []) (by decide) jCH_1 ⟨Nat.le_refl _, Nat.le_refl _⟩ rfl ?_
  refine lv_if_eq (x := 1) (tgt := 16) hx hb jCH_4 rfl (fun q => by cases q) (fun _ => ?_)
  refine lv_aload_n hx hb jCH_7 rfl (lv_at hl 0 rfl) ?_
  refine vk_getf hx hb ((hE.2.2.2.2.1.1 i hi).1 0 Nat.one_pos).2.2.1 hS hown (hts _ jf_v) (fun _ h9 => h9) jCH_8 ?_
  refine lv_iload_n (x := x) hx hb jCH_11 rfl (lv_at hl 1 rfl) ?_
  refine j_static (n := 2) (lc_met hi h0 h1 hin hb9 hv hnr) ⟨hx, hb, hml, hown, hts⟩ hE hS jl_lc jLC_s wi_L jLC_c ⟨rfl, rfl⟩ ⟨by decide, by decide, by decide +kernel⟩ ⟨by decide, by decide⟩ rfl hl.1 (rest := []) (by decide) jCH_12 ⟨Nat.le_refl _, Nat.le_refl _⟩ rfl ?_
  exact W.zret hx hb hrt hnr (fun t ht _ => ⟨rfl, ht⟩) (fun q hq => nomatch hq) jCH_15 hlk
end M
