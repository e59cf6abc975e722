
/-! A CLASS OF EXCEPTIONS WHOSE CONSTRUCTOR CALLS HER SUPERCLASS BY ANOTHER INDEX: java.util.NoSuchElementException -/
section NS
abbrev nsB : ByteArray := prog_26_method_4_code
theorem nsB_0 : decode nsB 0 = .ok (.aload_n 0, 1) := by decide +kernel
theorem nsB_1 : decode nsB 1 = .ok (.aload_n 1, 1) := by decide +kernel
theorem nsB_2 : decode nsB 2 = .ok (.invokespecial 13, 3) := by decide +kernel
theorem nsB_5 : decode nsB 5 = .ok (.return_, 1) := by decide +kernel
abbrev eRT : String := "java/lang/RuntimeException"
abbrev eEX : String := "java/lang/Exception"
/-- her constructor's words, the chain above her, and her own -/
def nsP : List Cond := Bundle.passSAtoms eNS eRT 13 nsB
def nsC : List Cond := Bundle.chainSAtoms eRT [eEX]
def nsO (own : String) (ic : Nat) : List Cond := [.methodLink own ic (Bundle.initS eNS), .instantiable eNS 6, .selects eNS Bundle.tFill0 Bundle.tFill0, .selects eNS Bundle.tFill Bundle.tFill,
  .lays eNS Bundle.tN "cause" "Ljava/lang/Throwable;", .lays eNS Bundle.tN "stackTrace" Bundle.steD, .lays eNS Bundle.tN "suppressedExceptions" Bundle.listD, .lays eNS Bundle.tN "detailMessage" "Ljava/lang/String;",
  .isRef (.static Bundle.tN "UNASSIGNED_STACK" Bundle.steD), .isRef (.static Bundle.tN "SUPPRESSED_SENTINEL" Bundle.listD),
  .fieldLink Bundle.tN 198 Bundle.tN "backtrace" "Ljava/lang/Object;", .lays Bundle.tN Bundle.tN "backtrace" "Ljava/lang/Object;", .lays eNS Bundle.tN "backtrace" "Ljava/lang/Object;"]
def nsW (own : String) (ic : Nat) : List Cond := Bundle.throwableAtoms ++ (Bundle.throwableSAtoms ++ (nsP ++ (nsC ++ nsO own ic)))
variable {p : Program} {l : Launch} {e : Env} {R : Room} {s : State} {m : MethodId} {args : Array Value} {below : List Frame} {meth : Method} {c : Code} {U : State} {locs : List Loc} {cells slots : Nat}
theorem ns_sel {t : MethodName} {x : MethodId} {own : ClassId} (X : Stand p l e R s m args below meth c U locs cells slots) (hf : s.vm.findClass eNS = some own) (hn : s.methodNamed? t = some x) (ht : t.cls ≠ "java/lang/invoke/MethodHandle" ∧ t.cls ≠ "java/lang/invoke/VarHandle") (hw : (Cond.selects eNS t t).before args s = true) : selectMethod e.platform s.vm own x = .method x := by
  obtain ⟨k1, k2, k3, h1, h2, h3, h4, -⟩ := Cond.selects_spec hw
  have e1 := Option.some.inj (h1.symm.trans hf)
  have e2 := Option.some.inj (h2.symm.trans (State.methodFound?_of_named hn ht))
  have e3 := Option.some.inj (h3.symm.trans hn)
  rw [e1, e2, e3] at h4
  rw [Launch.admits_selectMethod X.admits]
  exact h4
set_option maxHeartbeats 1000000 in
theorem ns_ctor (X : Stand p l e R s m args below meth c U locs cells slots) (hx : p.tables.exec = Jvm.exec) (htr : e.platform.stackTraces = false) {own : String} {ic : Nat} (hown : s.vm.findClass own = some m.cls) (hw : ∀ w ∈ nsW own ic, w.before args s = true)
    (hlocs : ∀ x ∈ locs, ∀ cell, s.heap[x.base]? = some cell → cell.vm.isStatics = false) {a : Addr} {cX : ClassId} {kX : Class} (hfX : s.vm.findClass eNS = some cX) (hkX : s.vm.classes[cX]? = some kX) (hcell : U.heap[a]? = some (freshCell cX kX)) (hnew : s.heap.size ≤ a) {msg : Value} (hmsg : msg.isRef = true)
    {f : JFrame} (hf : f.method = m) (hsize : f.locals.size = c.maxLocals) (hlk : f.locked = none) (hen : f.entered = []) {rest : List Value} (hst : f.stack = msg :: .ref a :: .ref a :: rest) (hd1 : decode c.code f.pc = .ok (.invokespecial ic, 3)) (hd2 : decode c.code (f.pc + 3) = .ok (.athrow, 1)) (hout : ∀ x ∈ c.exceptionTable.toList, covers x (f.pc + 3) = false)
    (hRf : 5 < R.frames) (hRl : 2 * f.monitorRoom + ((Value.ref a :: rest).map fun v => v.category).sum + 81 ≤ R.locals) (hlocks : meth.locks = false) :
    ∃ T : State, Steps p.tables e below (U.setTop f) T ∧ T.status = .running ∧ Ended T below (.threw a) ∧ s.WarmedH T.vm ∧ s.sameButNew ({ T with vm := s.vm } : State) locs cells slots ∧ ∃ ce, T.heap[a]? = some ce ∧ s.vm.findClass eNS = some ce.cls ∧ ce.vm = .none := by
  have p1 : e.platform.frameOwnsMonitors = true := by rw [X.admits.platform]
  have p2 : e.platform.finalization = false := by rw [X.admits.platform]
  have p3 : e.platform.magicAccessors = ({} : Platform).magicAccessors := by rw [X.admits.platform]
  have hA : ∀ w ∈ Bundle.throwableAtoms, w.before args s = true := fun w h => hw w (List.mem_append_left _ h)
  have hB : ∀ w ∈ Bundle.throwableSAtoms, w.before args s = true := fun w h => hw w (List.mem_append_right _ (List.mem_append_left _ h))
  have hP : ∀ w ∈ Bundle.passSAtoms eNS eRT 13 nsB, w.before args s = true := fun w h => hw w (List.mem_append_right _ (List.mem_append_right _ (List.mem_append_left _ h)))
  have hC : ∀ w ∈ Bundle.chainSAtoms eRT [eEX], w.before args s = true := fun w h => hw w (List.mem_append_right _ (List.mem_append_right _ (List.mem_append_right _ (List.mem_append_left _ h))))
  have hO : ∀ w ∈ nsO own ic, w.before args s = true := fun w h => hw w (List.mem_append_right _ (List.mem_append_right _ (List.mem_append_right _ (List.mem_append_right _ h))))
  have o : ∀ k, ∀ w : Cond, (nsO own ic)[k]? = some w → w.holds args s none s [] = true := fun k w h => hO w (List.mem_of_getElem? h)
  obtain ⟨T, Z0, L, -, Y⟩ := ThrowableC.of_atoms (args := args) p1 p2 p3 hA
  obtain ⟨Z, M, LZ, LM, hnZ⟩ := Init0T.ofS_atoms (args := args) p3 L Y hB
  obtain ⟨P0, K0, hm0, hs0⟩ := PassC.ofS_atoms (args := args) (s := s) p3 (X := eNS) (Y := eRT) (by decide +kernel) (by decide) nsB_0 nsB_1 nsB_2 nsB_5 hP
  obtain ⟨P1, Ps, hlen, K1, hK, hm1, hl1, hl2⟩ := Bundle.chainS (args := args) p3 hnZ [eEX] eRT (by decide +kernel) (by decide +kernel) hC
  have hfound : s.vm.findClass eNS = some P0.m.cls := findClass_of_methodNamed hm0
  have hcX : cX = P0.m.cls := Option.some.inj (hfX.symm.trans hfound)
  subst hcX
  obtain ⟨c1, k1, hc1, hk1, hord, -, -, hn6⟩ := Cond.instantiable_spec (o 1 _ rfl)
  have e1 : c1 = P0.m.cls := Option.some.inj (hc1.symm.trans hfound)
  subst e1
  have e2 : k1 = kX := Option.some.inj (hk1.symm.trans hkX)
  subst e2
  have s0 := ns_sel X hfound Y.fill0 (by decide) (o 2 _ rfl)
  have s1 := ns_sel X hfound Y.fill (by decide) (o 3 _ rfl)
  obtain ⟨cS0, hcS0, hiS⟩ := Y.statics
  obtain ⟨u0, hu0⟩ := Cond.staticRefV Y.unassigned L.unassignedStatic L.statics hcS0 hiS (o 8 _ rfl)
  obtain ⟨u1, hu1⟩ := Cond.staticRefV Y.sentinel L.sentinelStatic L.statics hcS0 hiS (o 9 _ rfl)
  obtain ⟨ci, i, fB, hkB, hgB, haB, hsB, -, hnB, htB, hfB⟩ := Cond.ownField (t := .object "java/lang/Object") Y.found L.cls (by decide +kernel) (o 10 _ rfl) (o 11 _ rfl) e.platform p3
  obtain ⟨cS, hcS, heS, -, hkeep⟩ := X.same.2.2.2.2.2 T.aS cS0 hcS0
  have hcS : U.heap[T.aS]? = some cS := hcS
  have hnot : ∀ i, (⟨T.aS, i⟩ : Loc) ∉ locs := fun i h => by
    have := hlocs _ h cS0 hcS0
    rw [hiS] at this; cases this
  have hknown : cS.vm ≠ .unknown := by
    rw [heS]; intro h
    rw [show cS0.vm = .unknown from h] at hiS
    cases hiS
  have hne : T.aS ≠ a := Nat.ne_of_lt (Nat.lt_of_lt_of_le (Array.getElem?_eq_some_iff.mp hcS0).1 hnew)
  obtain ⟨iM, hfM⟩ := Y.msg
  obtain ⟨tyC, dC, hdC, gC⟩ := Cond.laysAt hfound hkX Y.cause (o 4 _ rfl)
  obtain ⟨tyS, dS, hdS, gS⟩ := Cond.laysAt hfound hkX Y.stack (o 5 _ rfl)
  obtain ⟨tyP, dP, hdP, gP⟩ := Cond.laysAt hfound hkX Y.supp (o 6 _ rfl)
  obtain ⟨tyM, dM, hdM, gM⟩ := Cond.laysAt hfound hkX hfM (o 7 _ rfl)
  obtain ⟨tyB, dB, hdB, gB⟩ := Cond.laysAt hfound hkX hfB (o 12 _ rfl)
  have bC := Cond.laysApart hdB hdC gB gC (by rw [hnB, Y.causeName]; decide)
  have bS := Cond.laysApart hdB hdS gB gS (by rw [hnB, Y.stackName]; decide)
  have bP := Cond.laysApart hdB hdP gB gP (by rw [hnB, Y.suppName]; decide)
  have hskip : SkipFacts T e.platform s (fun u => u) u0 ((preparedCellV T.toThrowableT (freshCell P0.m.cls k1) a u0 u1).withEntry U.cur) := by
    refine ⟨{ ci198 := ci, i198 := i, fBack := fB }, ⟨hkB, hgB, haB, hsB⟩, ?_, fun _ _ => rfl⟩
    have h := fresh_default (c := P0.m.cls) tyB
    rw [htB] at h
    simpa [preparedCellV, Cell.setSlot, Cell.withEntry, Array.getElem?_setIfInBounds, bC, bS, bP, bC.symm, bS.symm, bP.symm, defaultValue] using h
  obtain ⟨tm, mC, cC, kC, vm1, hnC, -, -, -, -, -, -, -, hW1, st1⟩ := Steps.initColdS (tb := p.tables) (e := e) (below := below) (s := s) (U := U) X.here hx X.warmed p3 hown (t := Bundle.initS eNS) rfl rfl ⟨by decide, by decide⟩ (o 0 _ rfl) (hP _ (List.mem_of_getElem? (i := 0) rfl)) (bytes := nsB) (maxL := 2) (hP _ (List.mem_of_getElem? (i := 1) rfl)) (f := f) hf (a := a) (msg := msg) (rest := .ref a :: rest) hst hd1
  have e3 : tm = P0.m := Option.some.inj (hnC.symm.trans hm0)
  subst e3
  have X1 := X.noted hW1
  have e4 : P0.sup = P1.m := Option.some.inj (hs0.symm.trans hm1)
  obtain ⟨vm2, X2, st2⟩ := X1.ctorMessageOffV hx (g := { f with stack := .ref a :: rest }) hf hsize T L Z LZ M LM (P0 :: P1 :: Ps)
    (fun P h => by
      rcases List.mem_cons.mp h with rfl | h
      · exact K0
      · rcases List.mem_cons.mp h with rfl | h
        · exact K1
        · exact hK P h) ⟨e4, hl1, hl2⟩ (u0 := u0) (sen := u1) (self := a) hmsg (cell := freshCell P0.m.cls k1) (cellS := cS) hcell (fun _ => by simp) (by simp) rfl rfl s0 s1 hcS hne hknown (by rw [hkeep _ (hnot _)]; exact hu0) (by rw [hkeep _ (hnot _)]; exact hu1)
    (Takes.of_laid hkX hord tyC (by rw [Y.causeType]; rfl)) (Takes.of_laid hkX hord tyS (by rw [Y.stackType]; exact fits_refV_array _ u0)) (Takes.of_laid hkX hord tyP (by rw [Y.suppType]; exact fits_refV_object _ u1)) (Takes.of_laid hkX hord tyM (by rw [Y.msgType]; exact fits_refV_object _ ⟨msg, hmsg⟩)) Y.objLocals hskip htr [] hd1
    (by simp only [List.length_cons, hlen, List.length_nil]; omega) (by simp only [List.length_cons, hlen, List.length_nil]; exact hRl)
  obtain ⟨q1, q2, q3, q4, q5⟩ := X2.athrowLeaves hx (g := { f with stack := .ref a :: rest, pc := f.pc + 3 }) hf hlk hen hout (a := a) (rest := rest) rfl hd2
  have hlt : a < ((U.setVm vm1).setVm vm2).heap.size := (Array.getElem?_eq_some_iff.mp hcell).1
  have hU := heapAt_setCell_self (s := (U.setVm vm1).setVm vm2) (plainBareV T.toThrowableT (freshCell P0.m.cls k1) a u0 u1 msg) hlt
  refine ⟨_, st1 _ (fun acts => ?_), q2, q3, q4, q5.weaken (fun y hy h9 => ?_) (Nat.le_refl _) (Nat.le_refl _), _, hU, hfound, rfl⟩
  · rw [doInvoke_state]; exact st2 _ q1
  · rcases List.mem_append.mp hy with h | h
    · exact h
    · have hb : y.base = a := by
        simp only [List.mem_cons, List.not_mem_nil, or_false] at h
        rcases h with rfl | rfl | rfl | rfl | rfl <;> rfl
      rw [hb] at h9
      exact absurd h9 (Nat.not_lt.mpr hnew)
def nsF : List Cond := (nsW "CasebookSteps" 240).filter vx_no
theorem nsF_fl : ∀ w ∈ nsF, w ∈ fl := by decide +kernel
theorem nsF_ot : ∀ w ∈ nsF, vx_ot w = true := by decide +kernel
theorem ns_ot0 : vx_ot (Cond.classLink "CasebookSteps" 236 eNS) = true ∧ vx_ot (Cond.initialized eNS) = true := by decide +kernel
variable {H H0 : Heap} {Q : State → Prop} {cc : ByteArray} {pc : Nat} {ls : Array Slot} {rest : List Value} {g : xG} {mc ms : Nat} {dm : List Nat → Prop} {I : xI} {F : xF} {n0 : Nat}
set_option maxHeartbeats 1000000 in
/-- throw new NoSuchElementException("text") -/
theorem x_thrNS {is : Nat} {text : String} {Post : Heap → Prop} (hx : p.tables.exec = Jvm.exec) (hb : c.code = cc) (hst : l.stackTraces = false) (hown : s.vm.findClass "CasebookSteps" = some m.cls) (hE : xE g s s.heap) (hS : va_S (gA g) s.heap H locs) (hH : xR g dm I F n0 H) (hsize : ls.size = c.maxLocals) (hs : (is, text) ∈ xStr)
    (d0 : decode cc pc = .ok (.new 236, 3)) (d3 : decode cc (pc + 3) = .ok (.dup, 1)) (d4 : decode cc (pc + 4) = .ok (.ldc is, 2)) (d6 : decode cc (pc + 6) = .ok (.invokespecial 240, 3)) (d9 : decode cc (pc + 9) = .ok (.athrow, 1)) (hout : ∀ (q : Nat), ∀ x ∈ c.exceptionTable.toList, covers x q = false) (hlocks : meth.locks = false)
    (hRf : 5 < R.frames) (hRl : (rest.map fun v => v.category).sum + 82 ≤ R.locals) (hRc : cells + 1 ≤ R.cells) (hRs : slots + 6 ≤ R.slots) (hc : cells + 1 ≤ mc) (hsl : slots + 6 ≤ ms) (hp : ∀ H1, xG_ g dm I F n0 H1 → Post H1) : W p l e R s m args below meth c H locs cells slots (vx_MQ below xNo (xTX g eNS Post) args s mc ms (gA g)) (F0 m pc ls rest) := by
  obtain ⟨sa, hsa⟩ := hE.2.2.2.2.1 _ hs
  intro T hT X
  have htr : e.platform.stackTraces = false := (show e.platform.stackTraces = l.stackTraces by rw [X.admits.platform]).trans hst
  have Y := vx_rebase X (R' := { frames := R.frames, locals := R.locals, cells := 1, slots := 6 }) (Nat.le_refl _) (Nat.le_refl _) hRc hRs
  obtain ⟨s', hA⟩ : ∃ z, z = (T.setVm s.vm).setFrames (.invoking m args :: below) := ⟨_, rfl⟩
  rw [← hA] at Y
  have hvm : s'.vm = s.vm := by rw [hA]; rfl
  have hhp : s'.heap = H := by rw [hA]; exact hT
  have hW0 : s.WarmedH s'.vm := by rw [hvm]; exact State.WarmedH.refl s
  have hF : ∀ w ∈ nsF, w.before args s' = true := fun w hw => vx_ot_at hW0 hvm.symm (nsF_ot w hw) (hE.tf args w (nsF_fl w hw))
  have hk : (Cond.classLink "CasebookSteps" 236 eNS).before args s' = true := vx_ot_at hW0 hvm.symm ns_ot0.1 (hE.ts args _ tw695)
  have hi : (Cond.initialized eNS).before args s' = true := vx_ot_at hW0 hvm.symm ns_ot0.2 (hE.ts args _ tw10)
  have hU : vx_Zq Bundle.tN "UNASSIGNED_STACK" Bundle.steD (gA g) s' s'.heap := by rw [hhp]; exact vx_Zq.moved hW0.alike (hE.2.2.2.2.2.1.kept hS.2.1)
  have hN : vx_Zq Bundle.tN "SUPPRESSED_SENTINEL" Bundle.listD (gA g) s' s'.heap := by rw [hhp]; exact vx_Zq.moved hW0.alike (hE.2.2.2.2.2.2.1.kept hS.2.1)
  have h : ∀ w ∈ nsW "CasebookSteps" 240, w.before args s' = true := vx_own hF (vx_isRefq hU.1) (vx_isRefq hN.1) hU.2.word hN.2.word
  have hown' : s'.vm.findClass "CasebookSteps" = some m.cls := by rw [hvm]; exact hown
  have hins : (Cond.instantiable eNS 6).before args s' = true := h _ (List.mem_append_right _ (List.mem_append_right _ (List.mem_append_right _ (List.mem_append_right _ (List.mem_of_getElem? (i := 1) rfl)))))
  obtain ⟨vm₁, cX, kX, hfX, hkX, -, -, X₁, st1⟩ := Y.newCold hx (own := "CasebookSteps") (C := eNS) (index := 236) (n := 6) hown' hk hins hi (g := F0 m pc ls rest) rfl (by rw [hb]; exact d0) (Nat.le_refl _) (Nat.le_refl _)
  generalize hT1 : (T.setVm vm₁).pushCell { cls := cX, slots := kX.instanceTypes.map defaultValue, vm := .none } = T1 at X₁ st1
  have hcat : (Value.ref T.heap.size).category = 1 := rfl
  have hcellA : T1.heap[T.heap.size]? = some (freshCell cX kX) := by rw [← hT1]; exact State.heap_pushCell_size _ _
  have d3' : decode c.code (pc + 3) = .ok (.dup, 1) := by rw [hb]; exact d3
  have d4' : decode c.code (pc + 4) = .ok (.ldc is, 2) := by rw [hb]; exact d4
  have hstr : vk_R "CasebookSteps" is text sa s' := vk_R.warm hW0 hsa
  obtain ⟨U, hsteps, hrun, hend, hW, hsame, ce, hce, hccls, hcvm⟩ := ns_ctor X₁ hx htr (own := "CasebookSteps") (ic := 240) hown' h (fun x hx => nomatch hx) hfX hkX hcellA (by rw [hhp, hT]; exact Nat.le_refl _) (msg := .ref sa) rfl
    (f := { method := m, pc := pc + 6, locals := ls, stack := .ref sa :: .ref T.heap.size :: .ref T.heap.size :: rest, locked := none }) rfl hsize rfl rfl (rest := rest) rfl
    (by rw [hb]; exact d6) (by rw [hb]; exact d9) (hout _) hRf (by simp only [List.map_cons, List.sum_cons, hcat]; show 2 * 0 + _ + _ ≤ _; omega) hlocks
  obtain ⟨f1, f2⟩ := vx_frame hsame
  rw [hhp] at f1 f2
  have hWs : s.WarmedH U.vm := State.WarmedH.trans hW0 hW
  have hcl : s.vm.findClass eNS = some ce.cls := by
    rw [hvm] at hccls
    exact hccls
  have hall : s.sameButNew ({ U with vm := s.vm } : State) locs mc ms := by
    subst hA
    obtain ⟨e1, e2⟩ := hsame
    rw [State.setFrames_setFrames] at e1
    have h3 := X.same.trans (show (T.setVm s.vm).sameButNew ({ U with vm := s.vm } : State) [] (0 + 1) (0 + 6) from ⟨e1, e2⟩)
    rw [List.append_nil] at h3
    exact h3.mono hc hsl
  have hz : H.size ≤ U.heap.size := f1
  have ho : ∀ q : Nat, q < H.size → U.heap[q]? = H[q]? := fun q hq => f2 q hq (fun z hz => nomatch hz)
  have hF2 : va_F (gA g) s U := ⟨Nat.le_trans hS.1 hz, fun q h1 h2 => (ho q (Nat.lt_of_lt_of_le h1 hS.1)).trans (hS.2.1 q h1 h2)⟩
  refine ⟨U, ?_, .threw T.heap.size, hrun, hend, Or.inr ⟨T.heap.size, rfl, eNS, ce, locs, ⟨rfl, hp _ (hH.grow hz ho), hF2⟩, hce, hcvm, hcl, hWs, hall, hS.2.2⟩⟩
  refine st1 _ ?_
  show Steps p.tables e below (T1.setTop { method := m, pc := pc + 3, locals := ls, stack := .ref T.heap.size :: rest, locked := none }) _
  jvm_step X₁.here [X₁.here.top, hx, d3', Value.category]
  exact X₁.ldcString hx (own := "CasebookSteps") (text := text) (index := is) (a := sa) hown' hstr.1 hstr.2
    (g := { method := m, pc := pc + 4, locals := ls, stack := .ref T.heap.size :: .ref T.heap.size :: rest, locked := none }) rfl d4' _ hsteps
end NS

set_option maxHeartbeats 1000000 in
set_option maxRecDepth 100000 in
theorem t_X6_daysLeft_n (l : Launch) (hst : l.stackTraces = false) (g : xG) (h : xS) (I : xI) (n : Nat) (hW : xWs0 h I) (hC : xWc h I) (c : Nat) (hc : c < sNc h) (hf : (sFew (vP I (sPl h c)) (gX I c) (sSz h (sPl h c))) = -1) : xTc l yX6_daysLeft (xws yX6_daysLeft cX6_daysLeft 3 (some FieldType.int)) 6 90 g [.ref (ga g [0]), .int (nI c)] (xR g (xD h) I (xFh h) n) eNS (xG_ g (xD h) I (xFh h) n) 1 6 := by
  refine xTc.of (by decide) (Nat.le_of_ble_eq_true rfl) ?_
  intro P_ e_ s m_ bl_ mt_ cd_ ls hx hb hr hown hlocks hml hout hE hK hts hH hS hl
  have hl : lv_has ls 3 [(0, .ref (ga g [0])), (1, .int (nI c))] := hl
  have hpp := (hC.2.2 c hc).1
  have hch := (hC.2.2 c hc).2
  have hWp := hW.2.2 _ hpp
  have h4 := hC.1
  have h3 := hW.1
  have h8 := hWp.1
  rw [← sX_get I c] at hH
  refine lv_aload_n hx hb dX6_daysLeft_0 rfl (lv_at hl 0 rfl) ?_
  refine lv_iload_n hx hb dX6_daysLeft_1 rfl (lv_at hl 1 rfl) ?_
  refine x_V1 hx hb hml hown hE hS hl.1 cyX6_existingCase tw571 (c_X6_existingCase l g h (sX I c (gX I c)) n c hc h4 hC.2.1) ⟨Nat.le_of_ble_eq_true rfl, Nat.le_of_ble_eq_true rfl⟩ ⟨Nat.le_of_ble_eq_true rfl, Nat.le_of_ble_eq_true rfl⟩ (x_recv hK hH (id := [0]) (by first | trivial | (simp only [xD]; omega) | (simp [xD]; done) | (simp [xD]; omega)) (ci := 6) rfl (by decide) rfl) hH rfl rfl (Nat.le_of_ble_eq_true rfl) dX6_daysLeft_2 (fun H locs hH hS => ?_)
  refine x_V1 hx hb hml hown hE hS hl.1 cyX0_fewestDaysUntilLate tw755 (c_X0_fewestDaysUntilLate l g h I n c (gX I c) (Or.inl hc) (sPl h c) rfl hpp hWp hch) ⟨Nat.le_of_ble_eq_true rfl, Nat.le_of_ble_eq_true rfl⟩ ⟨Nat.le_of_ble_eq_true rfl, Nat.le_of_ble_eq_true rfl⟩ (x_recv hK hH (id := [11, c, 0]) (by first | trivial | (simp only [xD]; omega) | (simp [xD]; done) | (simp [xD]; omega)) (ci := 0) rfl (by decide) rfl) hH rfl rfl (Nat.le_of_ble_eq_true rfl) dX6_daysLeft_5 (fun H locs hH hS => ?_)
  refine lv_istore_n (lv' := [(2, .int (sFew (vP I (sPl h c)) (gX I c) (sSz h (sPl h c)))), (0, .ref (ga g [0])), (1, .int (nI c))]) hx hb dX6_daysLeft_8 rfl hl (by decide) rfl (fun ls hl => ?_)
  refine lv_iload_n hx hb dX6_daysLeft_9 rfl (lv_at hl 0 rfl) ?_
  refine lv_iconst (v := (-1)) hx hb dX6_daysLeft_10 (by decide) ?_
  refine lv_icmp_ne (tgt := 24) hx hb dX6_daysLeft_11 (by decide) (fun q_ => absurd q_ (fun z_ => z_ hf)) (fun _ => ?_)
  rw [sX_get] at hH
  exact x_thrNS (text := "no active task that is not late") hx hb hst hown hE hS hH (hl.1.trans hml.symm)  (List.mem_of_getElem? (i := 22) rfl) dX6_daysLeft_14 dX6_daysLeft_17 dX6_daysLeft_18 dX6_daysLeft_20 dX6_daysLeft_23 hout hlocks (Nat.le_of_ble_eq_true rfl) (Nat.le_of_ble_eq_true rfl) (Nat.le_of_ble_eq_true rfl) (Nat.le_of_ble_eq_true rfl) (Nat.le_of_ble_eq_true rfl) (Nat.le_of_ble_eq_true rfl) (fun _ hq => hq)

set_option maxHeartbeats 1000000 in
set_option maxRecDepth 100000 in
theorem t_X6_holds_n (l : Launch) (hst : l.stackTraces = false) (g : xG) (h : xS) (I : xI) (n : Nat) (hW : xWs0 h I) (hC : xWc h I) (c : Nat) (hc : c < sNc h) (j : Nat) (hj : j < sSz h (sPl h c)) (w : Nat) (hw : w < 2) (x : Int32) (hx0 : x < 0 ∨ nI (sCn h (sPl h c) j w) ≤ x) (f : Int32) (hf : (f = 0 ∧ w = 1) ∨ (¬ f = 0 ∧ w = 0))  : xTc l yX6_holds (xws yX6_holds cX6_holds 9 (some FieldType.boolean)) 6 90 g [.ref (ga g [0]), .int (nI c), .int (nI j), .int f, .int x] (xR g (xD h) I (xFh h) n) eNS (xG_ g (xD h) I (xFh h) n) 1 6 := by
  refine xTc.of (by decide) (Nat.le_of_ble_eq_true rfl) ?_
  intro P_ e_ s m_ bl_ mt_ cd_ ls hx hb hr hown hlocks hml hout hE hK hts hH hS hl
  have hl : lv_has ls 9 [(0, .ref (ga g [0])), (1, .int (nI c)), (2, .int (nI j)), (3, .int f), (4, .int x)] := hl
  have hpp := (hC.2.2 c hc).1
  have hch := (hC.2.2 c hc).2
  have hWp := hW.2.2 _ hpp
  have h4 := hC.1
  have h3 := hW.1
  have h8 := hWp.1
  rw [← sX_get I c] at hH
  have hws := hWp.2.2.2 j hj
  rcases hf with ⟨hf, hw1⟩ | ⟨hf, hw1⟩ <;> subst hw1
  · skip
    refine lv_aload_n hx hb dX6_holds_0 rfl (lv_at hl 0 rfl) ?_
    refine lv_iload_n hx hb dX6_holds_1 rfl (lv_at hl 1 rfl) ?_
    refine x_V1 hx hb hml hown hE hS hl.1 cyX6_existingCase tw571 (c_X6_existingCase l g h (sX I c (gX I c)) n c hc h4 hC.2.1) ⟨Nat.le_of_ble_eq_true rfl, Nat.le_of_ble_eq_true rfl⟩ ⟨Nat.le_of_ble_eq_true rfl, Nat.le_of_ble_eq_true rfl⟩ (x_recv hK hH (id := [0]) (by first | trivial | (simp only [xD]; omega) | (simp [xD]; done) | (simp [xD]; omega)) (ci := 6) rfl (by decide) rfl) hH rfl rfl (Nat.le_of_ble_eq_true rfl) dX6_holds_2 (fun H locs hH hS => ?_)
    refine lv_astore (lv' := [(5, .ref (ga g [11, c, 0])), (0, .ref (ga g [0])), (1, .int (nI c)), (2, .int (nI j)), (3, .int f), (4, .int x)]) hx hb dX6_holds_5 hl (by decide) rfl (fun ls hl => ?_)
    refine lv_aload hx hb dX6_holds_7 (lv_at hl 0 rfl) ?_
    refine x_get (C := RX0) (T := TX0) (N := 11) (ci := 0) hx hb hts iu0 hown hK hH (id := [11, c, 0]) (by first | trivial | (simp only [xD]; omega) | (simp [xD]; done) | (simp [xD]; omega)) rfl rfl (by decide) 0 (by decide) (hts _ tw91) (fun _ h9 => h9) (sX_at _ _ _ _) (v := .ref (ga g [5, sPl h c])) rfl dX6_holds_9 ?_
    refine lv_iload_n hx hb dX6_holds_12 rfl (lv_at hl 3 rfl) ?_
    refine x_S1 hx hb hml hown hE hS hl.1 cyX6_existingStep tw372 (c_X6_existingStep l g h (sX I c (gX I c)) n (sPl h c) j hpp hj h8 hWp.2.2.1) ⟨Nat.le_of_ble_eq_true rfl, Nat.le_of_ble_eq_true rfl⟩ ⟨Nat.le_of_ble_eq_true rfl, Nat.le_of_ble_eq_true rfl⟩ hH rfl rfl (Nat.le_of_ble_eq_true rfl) dX6_holds_13 (fun H locs hH hS => ?_)
    refine lv_astore (lv' := [(6, .ref (ga g [7, sPl h c, j])), (5, .ref (ga g [11, c, 0])), (0, .ref (ga g [0])), (1, .int (nI c)), (2, .int (nI j)), (3, .int f), (4, .int x)]) hx hb dX6_holds_16 hl (by decide) rfl (fun ls hl => ?_)
    refine lv_iload_n hx hb dX6_holds_18 rfl (lv_at hl 5 rfl) ?_
    refine lv_if_eq (tgt := 30) hx hb dX6_holds_19 (by decide) (fun _ => ?_) (fun q_ => absurd hf q_)
    refine lv_aload hx hb dX6_holds_30 (lv_at hl 0 rfl) ?_
    refine x_get (C := RX5) (T := TX5) (N := 7) (ci := 5) hx hb hts iu5 hown hK hH (id := [7, sPl h c, j]) (by first | trivial | (simp only [xD]; omega) | (simp [xD]; done) | (simp [xD]; omega)) rfl rfl (by decide) 3 (by decide) (hts _ tw334) (fun _ h9 => h9) rfl (v := .ref (ga g [8, sPl h c, j, 1])) rfl dX6_holds_32 ?_
    refine lv_astore (lv' := [(7, .ref (ga g [8, sPl h c, j, 1])), (6, .ref (ga g [7, sPl h c, j])), (5, .ref (ga g [11, c, 0])), (0, .ref (ga g [0])), (1, .int (nI c)), (2, .int (nI j)), (3, .int f), (4, .int x)]) hx hb dX6_holds_35 hl (by decide) rfl (fun ls hl => ?_)
    refine lv_aload hx hb dX6_holds_37 (lv_at hl 0 rfl) ?_
    refine lv_iload hx hb dX6_holds_39 (lv_at hl 7 rfl) ?_
    refine x_V1 hx hb hml hown hE hS hl.1 cyX2_at tw694 (c_X2_at_no l g h (sX I c (gX I c)) n (sPl h c) j 1 x hpp hj (by decide) (hws.2.2 1 (by decide)).1 hx0) ⟨Nat.le_of_ble_eq_true rfl, Nat.le_of_ble_eq_true rfl⟩ ⟨Nat.le_of_ble_eq_true rfl, Nat.le_of_ble_eq_true rfl⟩ (x_recv hK hH (id := [8, sPl h c, j, 1]) (by first | trivial | (simp only [xD]; omega) | (simp [xD]; done) | (simp [xD]; omega)) (ci := 2) rfl (by decide) rfl) hH rfl rfl (Nat.le_of_ble_eq_true rfl) dX6_holds_41 (fun H locs hH hS => ?_)
    refine lv_astoreN (lv' := [(8, .null), (7, .ref (ga g [8, sPl h c, j, 1])), (6, .ref (ga g [7, sPl h c, j])), (5, .ref (ga g [11, c, 0])), (0, .ref (ga g [0])), (1, .int (nI c)), (2, .int (nI j)), (3, .int f), (4, .int x)]) hx hb dX6_holds_44 hl (by decide) rfl (fun ls hl => ?_)
    refine lv_aloadN hx hb dX6_holds_46 (lv_at hl 0 rfl) ?_
    refine lv_ifnonnullN hx hb dX6_holds_48 ?_
    rw [sX_get] at hH
    exact x_thrNS (text := "the step has no such condition") hx hb hst hown hE hS hH (hl.1.trans hml.symm)  (List.mem_of_getElem? (i := 23) rfl) dX6_holds_51 dX6_holds_54 dX6_holds_55 dX6_holds_57 dX6_holds_60 hout hlocks (Nat.le_of_ble_eq_true rfl) (Nat.le_of_ble_eq_true rfl) (Nat.le_of_ble_eq_true rfl) (Nat.le_of_ble_eq_true rfl) (Nat.le_of_ble_eq_true rfl) (Nat.le_of_ble_eq_true rfl) (fun _ hq => hq)
  · skip
    refine lv_aload_n hx hb dX6_holds_0 rfl (lv_at hl 0 rfl) ?_
    refine lv_iload_n hx hb dX6_holds_1 rfl (lv_at hl 1 rfl) ?_
    refine x_V1 hx hb hml hown hE hS hl.1 cyX6_existingCase tw571 (c_X6_existingCase l g h (sX I c (gX I c)) n c hc h4 hC.2.1) ⟨Nat.le_of_ble_eq_true rfl, Nat.le_of_ble_eq_true rfl⟩ ⟨Nat.le_of_ble_eq_true rfl, Nat.le_of_ble_eq_true rfl⟩ (x_recv hK hH (id := [0]) (by first | trivial | (simp only [xD]; omega) | (simp [xD]; done) | (simp [xD]; omega)) (ci := 6) rfl (by decide) rfl) hH rfl rfl (Nat.le_of_ble_eq_true rfl) dX6_holds_2 (fun H locs hH hS => ?_)
    refine lv_astore (lv' := [(5, .ref (ga g [11, c, 0])), (0, .ref (ga g [0])), (1, .int (nI c)), (2, .int (nI j)), (3, .int f), (4, .int x)]) hx hb dX6_holds_5 hl (by decide) rfl (fun ls hl => ?_)
    refine lv_aload hx hb dX6_holds_7 (lv_at hl 0 rfl) ?_
    refine x_get (C := RX0) (T := TX0) (N := 11) (ci := 0) hx hb hts iu0 hown hK hH (id := [11, c, 0]) (by first | trivial | (simp only [xD]; omega) | (simp [xD]; done) | (simp [xD]; omega)) rfl rfl (by decide) 0 (by decide) (hts _ tw91) (fun _ h9 => h9) (sX_at _ _ _ _) (v := .ref (ga g [5, sPl h c])) rfl dX6_holds_9 ?_
    refine lv_iload_n hx hb dX6_holds_12 rfl (lv_at hl 3 rfl) ?_
    refine x_S1 hx hb hml hown hE hS hl.1 cyX6_existingStep tw372 (c_X6_existingStep l g h (sX I c (gX I c)) n (sPl h c) j hpp hj h8 hWp.2.2.1) ⟨Nat.le_of_ble_eq_true rfl, Nat.le_of_ble_eq_true rfl⟩ ⟨Nat.le_of_ble_eq_true rfl, Nat.le_of_ble_eq_true rfl⟩ hH rfl rfl (Nat.le_of_ble_eq_true rfl) dX6_holds_13 (fun H locs hH hS => ?_)
    refine lv_astore (lv' := [(6, .ref (ga g [7, sPl h c, j])), (5, .ref (ga g [11, c, 0])), (0, .ref (ga g [0])), (1, .int (nI c)), (2, .int (nI j)), (3, .int f), (4, .int x)]) hx hb dX6_holds_16 hl (by decide) rfl (fun ls hl => ?_)
    refine lv_iload_n hx hb dX6_holds_18 rfl (lv_at hl 5 rfl) ?_
    refine lv_if_eq (tgt := 30) hx hb dX6_holds_19 (by decide) (fun q_ => absurd q_ hf) (fun _ => ?_)
    refine lv_aload hx hb dX6_holds_22 (lv_at hl 0 rfl) ?_
    refine x_get (C := RX5) (T := TX5) (N := 7) (ci := 5) hx hb hts iu5 hown hK hH (id := [7, sPl h c, j]) (by first | trivial | (simp only [xD]; omega) | (simp [xD]; done) | (simp [xD]; omega)) rfl rfl (by decide) 2 (by decide) (hts _ tw331) (fun _ h9 => h9) rfl (v := .ref (ga g [8, sPl h c, j, 0])) rfl dX6_holds_24 ?_
    refine lv_goto (tgt := 35) hx hb dX6_holds_27 (by decide) ?_
    refine lv_astore (lv' := [(7, .ref (ga g [8, sPl h c, j, 0])), (6, .ref (ga g [7, sPl h c, j])), (5, .ref (ga g [11, c, 0])), (0, .ref (ga g [0])), (1, .int (nI c)), (2, .int (nI j)), (3, .int f), (4, .int x)]) hx hb dX6_holds_35 hl (by decide) rfl (fun ls hl => ?_)
    refine lv_aload hx hb dX6_holds_37 (lv_at hl 0 rfl) ?_
    refine lv_iload hx hb dX6_holds_39 (lv_at hl 7 rfl) ?_
    refine x_V1 hx hb hml hown hE hS hl.1 cyX2_at tw694 (c_X2_at_no l g h (sX I c (gX I c)) n (sPl h c) j 0 x hpp hj (by decide) (hws.2.2 0 (by decide)).1 hx0) ⟨Nat.le_of_ble_eq_true rfl, Nat.le_of_ble_eq_true rfl⟩ ⟨Nat.le_of_ble_eq_true rfl, Nat.le_of_ble_eq_true rfl⟩ (x_recv hK hH (id := [8, sPl h c, j, 0]) (by first | trivial | (simp only [xD]; omega) | (simp [xD]; done) | (simp [xD]; omega)) (ci := 2) rfl (by decide) rfl) hH rfl rfl (Nat.le_of_ble_eq_true rfl) dX6_holds_41 (fun H locs hH hS => ?_)
    refine lv_astoreN (lv' := [(8, .null), (7, .ref (ga g [8, sPl h c, j, 0])), (6, .ref (ga g [7, sPl h c, j])), (5, .ref (ga g [11, c, 0])), (0, .ref (ga g [0])), (1, .int (nI c)), (2, .int (nI j)), (3, .int f), (4, .int x)]) hx hb dX6_holds_44 hl (by decide) rfl (fun ls hl => ?_)
    refine lv_aloadN hx hb dX6_holds_46 (lv_at hl 0 rfl) ?_
    refine lv_ifnonnullN hx hb dX6_holds_48 ?_
    rw [sX_get] at hH
    exact x_thrNS (text := "the step has no such condition") hx hb hst hown hE hS hH (hl.1.trans hml.symm)  (List.mem_of_getElem? (i := 23) rfl) dX6_holds_51 dX6_holds_54 dX6_holds_55 dX6_holds_57 dX6_holds_60 hout hlocks (Nat.le_of_ble_eq_true rfl) (Nat.le_of_ble_eq_true rfl) (Nat.le_of_ble_eq_true rfl) (Nat.le_of_ble_eq_true rfl) (Nat.le_of_ble_eq_true rfl) (Nat.le_of_ble_eq_true rfl) (fun _ hq => hq)
