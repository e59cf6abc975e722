section
-- ===== PART A: goes FIRST, ahead of the names: the tables' words, and 'selects' of the private methods out of them =====
/-- a private method of a class that the tables say can be made, by its rows of tables_1 -/
def lw_okq (q : MethodName × Nat) : Prop := (q.1.cls ≠ "java/lang/invoke/MethodHandle" ∧ q.1.cls ≠ "java/lang/invoke/VarHandle") ∧ Cond.instantiable q.1.cls q.2 ∈ tables_1 ∧ Cond.privateMethod q.1 ∈ tables_1 ∧ Cond.instanceMethod q.1 ∈ tables_1
theorem lw_p0 : lw_okq (⟨"CasebookSteps", "caseAt", "(I)LCasebookSteps$Case;"⟩, 6) := ⟨⟨by decide +kernel, by decide +kernel⟩, List.mem_of_getElem? (i := 18) (by decide +kernel), List.mem_of_getElem? (i := 155) (by decide +kernel), List.mem_of_getElem? (i := 156) (by decide +kernel)⟩
theorem lw_p1 : lw_okq (⟨"java/lang/Throwable", "fillInStackTrace", "(I)Ljava/lang/Throwable;"⟩, 6) := ⟨⟨by decide +kernel, by decide +kernel⟩, List.mem_of_getElem? (i := 215) (by decide +kernel), List.mem_of_getElem? (i := 213) (by decide +kernel), List.mem_of_getElem? (i := 214) (by decide +kernel)⟩
theorem lw_p2 : lw_okq (⟨"CasebookSteps", "existingPlan", "(I)LCasebookSteps$Plan;"⟩, 6) := ⟨⟨by decide +kernel, by decide +kernel⟩, List.mem_of_getElem? (i := 18) (by decide +kernel), List.mem_of_getElem? (i := 254) (by decide +kernel), List.mem_of_getElem? (i := 255) (by decide +kernel)⟩
theorem lw_p3 : lw_okq (⟨"CasebookSteps", "planAt", "(I)LCasebookSteps$Plan;"⟩, 6) := ⟨⟨by decide +kernel, by decide +kernel⟩, List.mem_of_getElem? (i := 18) (by decide +kernel), List.mem_of_getElem? (i := 258) (by decide +kernel), List.mem_of_getElem? (i := 259) (by decide +kernel)⟩
theorem lw_p4 : lw_okq (⟨"CasebookSteps", "noteAndDo", "(ILCasebookSteps$Case;III)V"⟩, 6) := ⟨⟨by decide +kernel, by decide +kernel⟩, List.mem_of_getElem? (i := 18) (by decide +kernel), List.mem_of_getElem? (i := 500) (by decide +kernel), List.mem_of_getElem? (i := 501) (by decide +kernel)⟩
theorem lw_p5 : lw_okq (⟨"CasebookSteps", "letHappen", "(LCasebookSteps$Case;III)V"⟩, 6) := ⟨⟨by decide +kernel, by decide +kernel⟩, List.mem_of_getElem? (i := 18) (by decide +kernel), List.mem_of_getElem? (i := 508) (by decide +kernel), List.mem_of_getElem? (i := 509) (by decide +kernel)⟩
theorem lw_p6 : lw_okq (⟨"CasebookSteps", "existingCase", "(I)LCasebookSteps$Case;"⟩, 6) := ⟨⟨by decide +kernel, by decide +kernel⟩, List.mem_of_getElem? (i := 18) (by decide +kernel), List.mem_of_getElem? (i := 587) (by decide +kernel), List.mem_of_getElem? (i := 588) (by decide +kernel)⟩
theorem lw_p7 : lw_okq (⟨"CasebookSteps", "lateTasksOfAll", "()I"⟩, 6) := ⟨⟨by decide +kernel, by decide +kernel⟩, List.mem_of_getElem? (i := 18) (by decide +kernel), List.mem_of_getElem? (i := 646) (by decide +kernel), List.mem_of_getElem? (i := 647) (by decide +kernel)⟩
theorem lw_p8 : lw_okq (⟨"CasebookSteps", "caseWithStep", "(II)LCasebookSteps$Case;"⟩, 6) := ⟨⟨by decide +kernel, by decide +kernel⟩, List.mem_of_getElem? (i := 18) (by decide +kernel), List.mem_of_getElem? (i := 665) (by decide +kernel), List.mem_of_getElem? (i := 666) (by decide +kernel)⟩
theorem lw_p9 : lw_okq (⟨"CasebookSteps", "replay", "(I)V"⟩, 6) := ⟨⟨by decide +kernel, by decide +kernel⟩, List.mem_of_getElem? (i := 18) (by decide +kernel), List.mem_of_getElem? (i := 676) (by decide +kernel), List.mem_of_getElem? (i := 677) (by decide +kernel)⟩
theorem lw_p10 : lw_okq (⟨"CasebookStepsModel", "raises", "(I)I"⟩, 24) := ⟨⟨by decide +kernel, by decide +kernel⟩, List.mem_of_getElem? (i := 824) (by decide +kernel), List.mem_of_getElem? (i := 922) (by decide +kernel), List.mem_of_getElem? (i := 923) (by decide +kernel)⟩
theorem lw_p11 : lw_okq (⟨"CasebookStepsModel", "isPlan", "(I)Z"⟩, 24) := ⟨⟨by decide +kernel, by decide +kernel⟩, List.mem_of_getElem? (i := 824) (by decide +kernel), List.mem_of_getElem? (i := 930) (by decide +kernel), List.mem_of_getElem? (i := 931) (by decide +kernel)⟩
theorem lw_p12 : lw_okq (⟨"CasebookStepsModel", "isStep", "(II)Z"⟩, 24) := ⟨⟨by decide +kernel, by decide +kernel⟩, List.mem_of_getElem? (i := 824) (by decide +kernel), List.mem_of_getElem? (i := 937) (by decide +kernel), List.mem_of_getElem? (i := 938) (by decide +kernel)⟩
theorem lw_p13 : lw_okq (⟨"CasebookStepsModel", "isCondition", "(ICII)Z"⟩, 24) := ⟨⟨by decide +kernel, by decide +kernel⟩, List.mem_of_getElem? (i := 824) (by decide +kernel), List.mem_of_getElem? (i := 945) (by decide +kernel), List.mem_of_getElem? (i := 946) (by decide +kernel)⟩
theorem lw_p14 : lw_okq (⟨"CasebookStepsModel", "adds", "(IIICII)I"⟩, 24) := ⟨⟨by decide +kernel, by decide +kernel⟩, List.mem_of_getElem? (i := 824) (by decide +kernel), List.mem_of_getElem? (i := 949) (by decide +kernel), List.mem_of_getElem? (i := 950) (by decide +kernel)⟩
theorem lw_p15 : lw_okq (⟨"CasebookStepsModel", "flag", "(IICZ)Z"⟩, 24) := ⟨⟨by decide +kernel, by decide +kernel⟩, List.mem_of_getElem? (i := 824) (by decide +kernel), List.mem_of_getElem? (i := 961) (by decide +kernel), List.mem_of_getElem? (i := 962) (by decide +kernel)⟩
def lw_privs_1 : List (MethodName × Nat) := [(⟨"CasebookSteps", "caseAt", "(I)LCasebookSteps$Case;"⟩, 6), (⟨"java/lang/Throwable", "fillInStackTrace", "(I)Ljava/lang/Throwable;"⟩, 6), (⟨"CasebookSteps", "existingPlan", "(I)LCasebookSteps$Plan;"⟩, 6), (⟨"CasebookSteps", "planAt", "(I)LCasebookSteps$Plan;"⟩, 6), (⟨"CasebookSteps", "noteAndDo", "(ILCasebookSteps$Case;III)V"⟩, 6), (⟨"CasebookSteps", "letHappen", "(LCasebookSteps$Case;III)V"⟩, 6), (⟨"CasebookSteps", "existingCase", "(I)LCasebookSteps$Case;"⟩, 6), (⟨"CasebookSteps", "lateTasksOfAll", "()I"⟩, 6), (⟨"CasebookSteps", "caseWithStep", "(II)LCasebookSteps$Case;"⟩, 6), (⟨"CasebookSteps", "replay", "(I)V"⟩, 6), (⟨"CasebookStepsModel", "raises", "(I)I"⟩, 24), (⟨"CasebookStepsModel", "isPlan", "(I)Z"⟩, 24), (⟨"CasebookStepsModel", "isStep", "(II)Z"⟩, 24), (⟨"CasebookStepsModel", "isCondition", "(ICII)Z"⟩, 24), (⟨"CasebookStepsModel", "adds", "(IIICII)I"⟩, 24), (⟨"CasebookStepsModel", "flag", "(IICZ)Z"⟩, 24)]
theorem lw_r1 : ∀ q ∈ lw_privs_1, lw_okq q := List.forall_mem_cons.mpr ⟨lw_p0, List.forall_mem_cons.mpr ⟨lw_p1, List.forall_mem_cons.mpr ⟨lw_p2, List.forall_mem_cons.mpr ⟨lw_p3, List.forall_mem_cons.mpr ⟨lw_p4, List.forall_mem_cons.mpr ⟨lw_p5, List.forall_mem_cons.mpr ⟨lw_p6, List.forall_mem_cons.mpr ⟨lw_p7, List.forall_mem_cons.mpr ⟨lw_p8, List.forall_mem_cons.mpr ⟨lw_p9, List.forall_mem_cons.mpr ⟨lw_p10, List.forall_mem_cons.mpr ⟨lw_p11, List.forall_mem_cons.mpr ⟨lw_p12, List.forall_mem_cons.mpr ⟨lw_p13, List.forall_mem_cons.mpr ⟨lw_p14, List.forall_mem_cons.mpr ⟨lw_p15, fun _ h => absurd h List.not_mem_nil⟩⟩⟩⟩⟩⟩⟩⟩⟩⟩⟩⟩⟩⟩⟩⟩
theorem lw_p16 : lw_okq (⟨"CasebookStepsModel", "goes", "(I)V"⟩, 24) := ⟨⟨by decide +kernel, by decide +kernel⟩, List.mem_of_getElem? (i := 824) (by decide +kernel), List.mem_of_getElem? (i := 985) (by decide +kernel), List.mem_of_getElem? (i := 986) (by decide +kernel)⟩
theorem lw_p17 : lw_okq (⟨"CasebookStepsModel", "looks", "(II)Z"⟩, 24) := ⟨⟨by decide +kernel, by decide +kernel⟩, List.mem_of_getElem? (i := 824) (by decide +kernel), List.mem_of_getElem? (i := 989) (by decide +kernel), List.mem_of_getElem? (i := 990) (by decide +kernel)⟩
theorem lw_p18 : lw_okq (⟨"CasebookStepsModel", "holdsOne", "(III)Z"⟩, 24) := ⟨⟨by decide +kernel, by decide +kernel⟩, List.mem_of_getElem? (i := 824) (by decide +kernel), List.mem_of_getElem? (i := 993) (by decide +kernel), List.mem_of_getElem? (i := 994) (by decide +kernel)⟩
theorem lw_p19 : lw_okq (⟨"CasebookStepsModel", "holdsNow", "(III)Z"⟩, 24) := ⟨⟨by decide +kernel, by decide +kernel⟩, List.mem_of_getElem? (i := 824) (by decide +kernel), List.mem_of_getElem? (i := 997) (by decide +kernel), List.mem_of_getElem? (i := 998) (by decide +kernel)⟩
theorem lw_p20 : lw_okq (⟨"CasebookStepsModel", "becomes", "(IIC)V"⟩, 24) := ⟨⟨by decide +kernel, by decide +kernel⟩, List.mem_of_getElem? (i := 824) (by decide +kernel), List.mem_of_getElem? (i := 1001) (by decide +kernel), List.mem_of_getElem? (i := 1002) (by decide +kernel)⟩
theorem lw_p21 : lw_okq (⟨"CasebookStepsModel", "closes", "(II)V"⟩, 24) := ⟨⟨by decide +kernel, by decide +kernel⟩, List.mem_of_getElem? (i := 824) (by decide +kernel), List.mem_of_getElem? (i := 1005) (by decide +kernel), List.mem_of_getElem? (i := 1006) (by decide +kernel)⟩
theorem lw_p22 : lw_okq (⟨"CasebookStepsModel", "isDone", "(II)Z"⟩, 24) := ⟨⟨by decide +kernel, by decide +kernel⟩, List.mem_of_getElem? (i := 824) (by decide +kernel), List.mem_of_getElem? (i := 1009) (by decide +kernel), List.mem_of_getElem? (i := 1010) (by decide +kernel)⟩
theorem lw_p23 : lw_okq (⟨"CasebookStepsModel", "isCase", "(I)Z"⟩, 24) := ⟨⟨by decide +kernel, by decide +kernel⟩, List.mem_of_getElem? (i := 824) (by decide +kernel), List.mem_of_getElem? (i := 1017) (by decide +kernel), List.mem_of_getElem? (i := 1018) (by decide +kernel)⟩
theorem lw_p24 : lw_okq (⟨"CasebookStepsModel", "keeps", "(I)V"⟩, 24) := ⟨⟨by decide +kernel, by decide +kernel⟩, List.mem_of_getElem? (i := 824) (by decide +kernel), List.mem_of_getElem? (i := 1025) (by decide +kernel), List.mem_of_getElem? (i := 1026) (by decide +kernel)⟩
theorem lw_p25 : lw_okq (⟨"CasebookStepsModel", "changed", "(II)I"⟩, 24) := ⟨⟨by decide +kernel, by decide +kernel⟩, List.mem_of_getElem? (i := 824) (by decide +kernel), List.mem_of_getElem? (i := 1029) (by decide +kernel), List.mem_of_getElem? (i := 1030) (by decide +kernel)⟩
theorem lw_p26 : lw_okq (⟨"CasebookStepsModel", "isStepOf", "(II)Z"⟩, 24) := ⟨⟨by decide +kernel, by decide +kernel⟩, List.mem_of_getElem? (i := 824) (by decide +kernel), List.mem_of_getElem? (i := 1037) (by decide +kernel), List.mem_of_getElem? (i := 1038) (by decide +kernel)⟩
theorem lw_p27 : lw_okq (⟨"CasebookStepsModel", "isLateNow", "(II)Z"⟩, 24) := ⟨⟨by decide +kernel, by decide +kernel⟩, List.mem_of_getElem? (i := 824) (by decide +kernel), List.mem_of_getElem? (i := 1053) (by decide +kernel), List.mem_of_getElem? (i := 1054) (by decide +kernel)⟩
theorem lw_p28 : lw_okq (⟨"CasebookStepsModel", "lacks", "(II)Z"⟩, 24) := ⟨⟨by decide +kernel, by decide +kernel⟩, List.mem_of_getElem? (i := 824) (by decide +kernel), List.mem_of_getElem? (i := 1061) (by decide +kernel), List.mem_of_getElem? (i := 1062) (by decide +kernel)⟩
theorem lw_p29 : lw_okq (⟨"CasebookStepsModel", "misses", "(I)Z"⟩, 24) := ⟨⟨by decide +kernel, by decide +kernel⟩, List.mem_of_getElem? (i := 824) (by decide +kernel), List.mem_of_getElem? (i := 1091) (by decide +kernel), List.mem_of_getElem? (i := 1092) (by decide +kernel)⟩
theorem lw_p30 : lw_okq (⟨"CasebookStepsModel", "inState", "(IC)I"⟩, 24) := ⟨⟨by decide +kernel, by decide +kernel⟩, List.mem_of_getElem? (i := 824) (by decide +kernel), List.mem_of_getElem? (i := 1103) (by decide +kernel), List.mem_of_getElem? (i := 1104) (by decide +kernel)⟩
def lw_privs_2 : List (MethodName × Nat) := [(⟨"CasebookStepsModel", "goes", "(I)V"⟩, 24), (⟨"CasebookStepsModel", "looks", "(II)Z"⟩, 24), (⟨"CasebookStepsModel", "holdsOne", "(III)Z"⟩, 24), (⟨"CasebookStepsModel", "holdsNow", "(III)Z"⟩, 24), (⟨"CasebookStepsModel", "becomes", "(IIC)V"⟩, 24), (⟨"CasebookStepsModel", "closes", "(II)V"⟩, 24), (⟨"CasebookStepsModel", "isDone", "(II)Z"⟩, 24), (⟨"CasebookStepsModel", "isCase", "(I)Z"⟩, 24), (⟨"CasebookStepsModel", "keeps", "(I)V"⟩, 24), (⟨"CasebookStepsModel", "changed", "(II)I"⟩, 24), (⟨"CasebookStepsModel", "isStepOf", "(II)Z"⟩, 24), (⟨"CasebookStepsModel", "isLateNow", "(II)Z"⟩, 24), (⟨"CasebookStepsModel", "lacks", "(II)Z"⟩, 24), (⟨"CasebookStepsModel", "misses", "(I)Z"⟩, 24), (⟨"CasebookStepsModel", "inState", "(IC)I"⟩, 24)]
theorem lw_r2 : ∀ q ∈ lw_privs_2, lw_okq q := List.forall_mem_cons.mpr ⟨lw_p16, List.forall_mem_cons.mpr ⟨lw_p17, List.forall_mem_cons.mpr ⟨lw_p18, List.forall_mem_cons.mpr ⟨lw_p19, List.forall_mem_cons.mpr ⟨lw_p20, List.forall_mem_cons.mpr ⟨lw_p21, List.forall_mem_cons.mpr ⟨lw_p22, List.forall_mem_cons.mpr ⟨lw_p23, List.forall_mem_cons.mpr ⟨lw_p24, List.forall_mem_cons.mpr ⟨lw_p25, List.forall_mem_cons.mpr ⟨lw_p26, List.forall_mem_cons.mpr ⟨lw_p27, List.forall_mem_cons.mpr ⟨lw_p28, List.forall_mem_cons.mpr ⟨lw_p29, List.forall_mem_cons.mpr ⟨lw_p30, fun _ h => absurd h List.not_mem_nil⟩⟩⟩⟩⟩⟩⟩⟩⟩⟩⟩⟩⟩⟩⟩
def lw_privs : List (MethodName × Nat) := lw_privs_1 ++ (lw_privs_2)
def lw_tbl : List Cond := k2_sels lw_privs ++ tables_1
theorem lw_privs_ok : ∀ q ∈ lw_privs, lw_okq q := by
  show ∀ q ∈ lw_privs_1 ++ (lw_privs_2), lw_okq q
  exact List.forall_mem_append.mpr ⟨lw_r1, lw_r2⟩
/-- the streams that the claim lets the run draw from -/
abbrev lw_cs : List Choice := [Jvm.Choice.named "NaN.bits"]
theorem lw_bits : nanBits ∈ lw_cs := by first | decide | exact List.mem_cons_self | simp [lw_cs, nanBits]
-- ===== end of PART A; then your names; then what follows =====
end
section
/-! ===== BEGIN exceptions that leave a method, and their catching by the caller (launches without stack traces) ===== -/
section VXA
/-! The laws vx_back, vx_callV, vx_callS, vx_callSW, vx_throw0, vx_throwS follow proofs of the library, with one case more: JvmDerived/Free/Laws.lean (Back.of_free), Shelf42/LK1.lean (callV, callS), Shelf/KitTraced.lean (throwNew0V, throwNewS). -/
/-- where a method has thrown q: the class by its name, the cell, what was written, the world -/
def vx_T (XC : String → State → State → Prop) (st : State) (q : Addr) (t : State) (mc ms : Nat) (free : Addr → Prop) : Prop :=
  ∃ (E : String) (ce : Cell) (L : List Loc), XC E st t ∧ t.heap[q]? = some ce ∧ ce.vm = .none ∧ st.vm.findClass E = some ce.cls ∧ st.WarmedH t.vm ∧ st.sameButNew ({ t with vm := st.vm } : State) L mc ms ∧ ∀ z ∈ L, free z.base
def vx_Q (Qc : Array Value → State → Outcome → State → Prop) (XC : String → State → State → Prop) (mc ms : Nat) (free : Addr → Prop) : Array Value → State → Outcome → State → Prop := fun a st o t =>
  (Qc a st o t ∧ ∃ L, FrameEnd st o t L mc ms ∧ ∀ q ∈ L, free q.base) ∨ ∃ q, o = .threw q ∧ vx_T XC st q t mc ms free
/-- a callee that returns or throws -/
def vx_Met (l : Launch) (y : MethodName) (ws : List Cond) (rm : Room) (Pc : Array Value → State → Prop) (Qc : Array Value → State → Outcome → State → Prop) (XC : String → State → State → Prop) (mc ms : Nat) (free : Addr → Prop) : Prop :=
  MetFree l y (headSpec ws rm) Pc (fun _ _ _ _ _ => True) (vx_Q Qc XC mc ms free)
def vx_Post (XC : String → State → State → Prop) (mc ms : Nat) (free : Addr → Prop) : Pt → Array Value → Addr → Pt → Prop := fun A a q B =>
  ∃ (g : JFrame) (mk : MethodId) (t : State) (L : List Loc) (E : String) (ce : Cell), B.U.heap = t.heap ∧ B.U.vm = t.vm ∧ XC E (A.U.calling g mk a) t ∧ t.heap[q]? = some ce ∧ ce.vm = .none ∧ A.U.vm.findClass E = some ce.cls ∧ B.locs = A.locs ++ L ∧ (∀ z ∈ L, free z.base) ∧ B.cells = A.cells + mc ∧ B.slots = A.slots + ms
def vx_Back (l : Launch) (R : Room) (p : Program) (e : Env) (below : List Frame) (s : State) (sargs : Array Value) (y : MethodName) (len W9 : Nat)
    (Pre : Pt → Array Value → Prop) (Post : Pt → Array Value → Option Value → Pt → Prop) (PostX : Pt → Array Value → Addr → Pt → Prop) : Prop :=
  ∀ (m : MethodId) (meth : Method) (c : Code) (A : Pt) (g : JFrame) (ig : Instr) (mk : MethodId) (a : Array Value),
    Stand p l e R s m sargs below meth c A.U A.locs A.cells A.slots → g.method = m → g.locals.size = c.maxLocals → decode c.code g.pc = .ok (ig, len) →
    2 * g.monitorRoom + (g.stack.map fun v => v.category).sum ≤ W9 → A.U.methodNamed? y = some mk → Pre A a →
    (∃ (v : Option Value) (B : Pt), Stand p l e R s m sargs below meth c B.U B.locs B.cells B.slots ∧ Post A a v B ∧
      Steps p.tables e below (doInvoke e (A.U.setTop g) [] mk a).1 (B.U.setTop { g with pc := g.pc + len, stack := v.toList ++ g.stack })) ∨
    (∃ (q : Addr) (B : Pt), Stand p l e R s m sargs below meth c B.U B.locs B.cells B.slots ∧ PostX A a q B ∧
      Steps p.tables e below (doInvoke e (A.U.setTop g) [] mk a).1 ((B.U.setTop g).pushFrame (.throwing q)))
section Payer
variable {l : Launch} {R : Room} {p : Program} {e : Env} {below : List Frame} {s : State} {sargs : Array Value} {y : MethodName} {len W9 : Nat}
theorem vx_back {ws : List Cond} {rm : Room} {Pc : Array Value → State → Prop} {Qc : Array Value → State → Outcome → State → Prop} {XC : String → State → State → Prop} {mc ms : Nat} {free : Addr → Prop} {bytes : ByteArray} {maxL : Nat} {ret : Option FieldType}
    (hM : vx_Met l y ws rm Pc Qc XC mc ms free) (hblind : FrameBlind Pc) (hrc : rm.cells = mc) (hrs : rm.slots = ms)
    (hframes : rm.frames + 1 ≤ R.frames) (hlocals : W9 + (maxL + 11) + rm.locals ≤ R.locals)
    (hws : ∀ w ∈ ws, ∀ a' U, s.WarmedH U.vm → w.before a' U = true) (hcode : Cond.code y bytes maxL ret ∈ ws) (hinit : ∀ a' U, s.WarmedH U.vm → (Cond.initialized y.cls).before a' U = true) :
    vx_Back l R p e below s sargs y len W9 (PreOf R mc ms Pc) (PostOf Qc mc ms free) (vx_Post XC mc ms free) := by
  intro m meth c A g ig mk a X hg hsize hdg hW hn hp
  have h1 : (headSpec ws rm).pre.before a A.U = true := atoms_intro fun w hw => hws w hw _ _ X.warmed
  have h2 : (Cond.code y bytes maxL ret).before a A.U = true := hws _ hcode _ _ X.warmed
  have h3 : (Cond.initialized y.cls).before a A.U = true := hinit _ _ X.warmed
  have h4 : A.cells + (headSpec ws rm).room.cells ≤ R.cells := by rw [show (headSpec ws rm).room.cells = mc from hrc]; exact hp.1
  have h5 : A.slots + (headSpec ws rm).room.slots ≤ R.slots := by rw [show (headSpec ws rm).room.slots = ms from hrs]; exact hp.2.1
  have hPc : Pc a (A.U.calling g mk a) := hblind _ _ _ _ hp.2.2
  obtain ⟨U, Ls, c0, s0⟩ := A
  dsimp only [Pt.U, Pt.locs, Pt.cells, Pt.slots] at h1 h2 h3 h4 h5 X hn hPc ⊢
  obtain ⟨methY, cY, hmY, hcY, -, hlY, -, -, -, -⟩ := Cond.code_spec hn h2
  obtain ⟨kY, hkY, -⟩ := className_of_methodNamed hn
  have hinitY : kY.init = .initialized := Cond.initialized_spec (findClass_of_methodNamed hn) hkY h3
  have h : At U g.method c below := by rw [hg]; exact X.here
  have hlocals9 : W9 + (maxL + 11) + (headSpec ws rm).room.locals ≤ R.locals := hlocals
  have happ : (headSpec ws rm).appliesLoose y e.platform (U.calling g mk a) = true :=
    Spec.appliesLoose_calling (g := g) h hdg hn hkY hinitY
      (X.room_calling (g := g) (R' := (headSpec ws rm).room) hsize hmY hcY hframes (by rw [hlY]; omega) h4 h5) h1
  obtain ⟨mid, hmid⟩ := h.above
  have hfr : (U.setTop g).frames = (.java g :: mid) ++ below := by rw [State.frames_setTop' g h.top, hmid]; rfl
  obtain ⟨o, s₂, hsteps, -, hend, hq⟩ := Steps.callFree hM p X.admits X.cas X.clock (acts := []) hfr happ hPc trivial
  have hq' : vx_Q Qc XC mc ms free a (U.calling g mk a) o s₂ := hq
  rw [State.frames_setTop' g h.top] at hend
  obtain ⟨g₀, hg0⟩ := Option.isSome_iff_exists.mp h.top
  obtain ⟨r, hr⟩ := State.topJava?_eq_some.mp hg0
  have hr' : (({ U with heap := s₂.heap, slotsUsed := s₂.slotsUsed } : State).setVm s₂.vm).frames = .java g₀ :: r := hr
  rcases hq' with ⟨hqc, L, hfe, hL⟩ | ⟨q, rfl, E, ce, L, hx, hce, hcv, hcl, hW₂, hsm, hL⟩
  · obtain ⟨⟨v, rfl⟩, hW₂, e2, q2, q3, q4, q5, q6⟩ := id hfe
    have e3 : s₂ = ({ (U.calling g mk a).setFrames s₂.frames with heap := s₂.heap, slotsUsed := s₂.slotsUsed } : State).setVm s₂.vm := by
      have : s₂ = ({ s₂ with vm := (U.calling g mk a).vm } : State).setVm s₂.vm := rfl
      rw [e2] at this
      exact this
    obtain ⟨c₂, i₂, len₂, hc₂, hd₂, hf₂⟩ := hend
    have hW' : U.WarmedH s₂.vm := hW₂
    have hcc : c₂ = c := by
      have h1 : s₂.code? g.method = U.code? g.method := by
        rw [State.code?_eq, State.code?_eq, hW'.alike.method?]
      exact Option.some.inj (hc₂.symm.trans (h1.trans h.code))
    subst hcc
    have hlen : len₂ = len := by rw [hdg] at hd₂; cases hd₂; rfl
    subst hlen
    have hs₂ : s₂ = (({ U with heap := s₂.heap, slotsUsed := s₂.slotsUsed } : State).setVm s₂.vm).setTop { g with pc := g.pc + len₂, stack := v.toList ++ g.stack } := by
      refine e3.trans ?_
      rw [hf₂, State.calling_eq h.top, State.setFrames_setFrames, State.setTop_of_frames _ hr', hr]
      rfl
    have hsame : U.sameButNew ({ U with heap := s₂.heap, slotsUsed := s₂.slotsUsed } : State) L mc ms := by
      refine ⟨?_, q2, q3, q4, q5, q6⟩
      obtain ⟨t, ht, -⟩ := State.frames_cons hr
      show ({ U with heap := s₂.heap, slotsUsed := s₂.slotsUsed } : State) = { U.setFrames U.frames with heap := s₂.heap, slotsUsed := s₂.slotsUsed }
      rw [State.setFrames_self ht]
    subst hg
    refine Or.inl ⟨v, ⟨(({ U with heap := s₂.heap, slotsUsed := s₂.slotsUsed } : State).setVm s₂.vm), Ls ++ L, c0 + mc, s0 + ms⟩,
      ⟨X.admits, X.cas, X.clock, X.frames, X.room, X.hears, X.method, X.code, (X.here.setHeapUsed s₂.heap s₂.slotsUsed).setVm hW'.alike, X.tail, State.WarmedH.trans X.warmed hW', X.limits, X.bytes, X.same.trans (hsame.setVm s.vm)⟩,
      ⟨g, mk, s₂, L, rfl, rfl, hqc, rfl, hL, rfl, rfl⟩, ?_⟩
    show Steps p.tables e below _ ((({ U with heap := s₂.heap, slotsUsed := s₂.slotsUsed } : State).setVm s₂.vm).setTop { g with pc := g.pc + len₂, stack := v.toList ++ g.stack })
    rw [← hs₂]
    exact hsteps
  · obtain ⟨e2, q2, q3, q4, q5, q6⟩ := id hsm
    have e3 : s₂ = ({ (U.calling g mk a).setFrames s₂.frames with heap := s₂.heap, slotsUsed := s₂.slotsUsed } : State).setVm s₂.vm := by
      have : s₂ = ({ s₂ with vm := (U.calling g mk a).vm } : State).setVm s₂.vm := rfl
      rw [e2] at this
      exact this
    have hf₂ : s₂.frames = .throwing q :: .java g :: U.frames.tail := hend
    have hW' : U.WarmedH s₂.vm := hW₂
    have hs₂ : s₂ = ((({ U with heap := s₂.heap, slotsUsed := s₂.slotsUsed } : State).setVm s₂.vm).setTop g).pushFrame (.throwing q) := by
      refine e3.trans ?_
      rw [hf₂, State.calling_eq h.top, State.setFrames_setFrames, State.pushFrame, State.frames_setTop _ hr', State.setTop_of_frames _ hr', State.setFrames_setFrames, hr]
      rfl
    have hsame : U.sameButNew ({ U with heap := s₂.heap, slotsUsed := s₂.slotsUsed } : State) L mc ms := by
      refine ⟨?_, q2, q3, q4, q5, q6⟩
      obtain ⟨t, ht, -⟩ := State.frames_cons hr
      show ({ U with heap := s₂.heap, slotsUsed := s₂.slotsUsed } : State) = { U.setFrames U.frames with heap := s₂.heap, slotsUsed := s₂.slotsUsed }
      rw [State.setFrames_self ht]
    subst hg
    refine Or.inr ⟨q, ⟨(({ U with heap := s₂.heap, slotsUsed := s₂.slotsUsed } : State).setVm s₂.vm), Ls ++ L, c0 + mc, s0 + ms⟩,
      ⟨X.admits, X.cas, X.clock, X.frames, X.room, X.hears, X.method, X.code, (X.here.setHeapUsed s₂.heap s₂.slotsUsed).setVm hW'.alike, X.tail, State.WarmedH.trans X.warmed hW', X.limits, X.bytes, X.same.trans (hsame.setVm s.vm)⟩,
      ⟨g, mk, s₂, L, E, ce, rfl, rfl, hx, hce, hcv, hcl, rfl, hL, rfl, rfl⟩, ?_⟩
    show Steps p.tables e below _ (((({ U with heap := s₂.heap, slotsUsed := s₂.slotsUsed } : State).setVm s₂.vm).setTop g).pushFrame (.throwing q))
    rw [← hs₂]
    exact hsteps
end Payer
section Calls
variable {p : Program} {l : Launch} {e : Env} {R : Room} {s : State} {m : MethodId} {args : Array Value} {below : List Frame} {meth : Method} {c : Code} {T : State} {locs : List Loc} {cells slots : Nat}
theorem vx_callV (X : Stand p l e R s m args below meth c T locs cells slots) (hexec : p.tables.exec = Jvm.exec) {own C : String} {index : Nat} {y : MethodName} {bytes : ByteArray} {maxL : Nat} {ret : Option FieldType}
    (hown : s.vm.findClass own = some m.cls) (hlink : (Cond.methodLink own index y).before args s = true) (hinst : (Cond.instanceMethod y).before args s = true) (hsel : (Cond.selects C y y).before args s = true)
    (hcode : (Cond.code y bytes maxL ret).before args s = true) (hy : y.cls ≠ "java/lang/invoke/MethodHandle" ∧ y.cls ≠ "java/lang/invoke/VarHandle")
    {W9 : Nat} {Pre : Pt → Array Value → Prop} {Post : Pt → Array Value → Option Value → Pt → Prop} {PostX : Pt → Array Value → Addr → Pt → Prop} (hK : vx_Back l R p e below s args y 3 W9 Pre Post PostX)
    {b : Addr} {cellB : Cell} (hcell : T.heap[b]? = some cellB) (hobj : cellB.vm.isStatics = false) (hcls : s.vm.findClass C = some cellB.cls)
    {g : JFrame} (hg : g.method = m) (hsize : g.locals.size = c.maxLocals) {argsL rest : List Value} (hlen : ∀ sig, parseMethodDescriptor y.desc = some sig → argsL.length = sig.parameters.length)
    (hstack : g.stack = argsL.reverse ++ .ref b :: rest) (hW : 2 * g.monitorRoom + (rest.map fun v => v.category).sum ≤ W9) (hdg : decode c.code g.pc = .ok (.invokevirtual index, 3))
    (hpre : ∀ vm₁, s.WarmedH vm₁ → Pre ⟨T.setVm vm₁, locs, cells, slots⟩ (Value.ref b :: argsL).toArray) :
    (∃ (v : Option Value) (vm₁ : Vm) (B : Pt), s.WarmedH vm₁ ∧ Stand p l e R s m args below meth c B.U B.locs B.cells B.slots ∧ Post ⟨T.setVm vm₁, locs, cells, slots⟩ (Value.ref b :: argsL).toArray v B ∧
      ∀ target, Steps p.tables e below (B.U.setTop { g with pc := g.pc + 3, stack := v.toList ++ rest }) target → Steps p.tables e below (T.setTop g) target) ∨
    (∃ (q : Addr) (vm₁ : Vm) (B : Pt), s.WarmedH vm₁ ∧ Stand p l e R s m args below meth c B.U B.locs B.cells B.slots ∧ PostX ⟨T.setVm vm₁, locs, cells, slots⟩ (Value.ref b :: argsL).toArray q B ∧
      Steps p.tables e below (T.setTop g) ((B.U.setTop { g with stack := rest }).pushFrame (.throwing q))) := by
  obtain ⟨mk, methM, hnamed, hmethM, hstM, habM⟩ := Cond.instanceMethod_spec hinst
  obtain ⟨methM', cM, hmethM', -, -, -, -, -, -, hsigM⟩ := Cond.code_spec hnamed hcode
  cases hmethM.symm.trans hmethM'
  obtain ⟨c2, r2, m2, q1, q2, q3, q4, kP, hkP, hkPi⟩ := Cond.selects_spec hsel
  cases hcls.symm.trans q1
  cases (State.methodFound?_of_named hnamed hy).symm.trans q2
  cases hnamed.symm.trans q3
  have hselP : selectMethod e.platform s.vm cellB.cls mk = .method mk := by rw [Launch.admits_selectMethod X.admits]; exact q4
  obtain ⟨vm₁, X₁, hstep₁⟩ := X.invokevirtual hexec hown hlink hnamed hmethM hstM hkP hkPi hy (a := b) (cell := cellB) hcell
    (fun z h => by rw [h] at hobj; cases hobj) hselP hmethM habM hkP hkPi (g := g) hg (argsL := argsL) (rest := rest) (hlen _ hsigM) hstack hdg
  rcases hK m meth c ⟨T.setVm vm₁, locs, cells, slots⟩ { g with stack := rest } (.invokevirtual index) mk (Value.ref b :: argsL).toArray X₁ hg hsize hdg hW (X₁.named hnamed) (hpre vm₁ X₁.warmed) with ⟨v, B, X', hpost, hsteps⟩ | ⟨q, B, X', hpost, hsteps⟩
  · exact Or.inl ⟨v, vm₁, B, X₁.warmed, X', hpost, fun target h => hstep₁ _ fun acts => by rw [doInvoke_state]; exact hsteps.trans h⟩
  · exact Or.inr ⟨q, vm₁, B, X₁.warmed, X', hpost, hstep₁ _ fun acts => by rw [doInvoke_state]; exact hsteps⟩
theorem vx_callS (X : Stand p l e R s m args below meth c T locs cells slots) (hexec : p.tables.exec = Jvm.exec) {own : String} {index : Nat} {y : MethodName} {bytes : ByteArray} {maxL : Nat} {ret : Option FieldType}
    (hown : s.vm.findClass own = some m.cls) (hlink : (Cond.methodLink own index y).before args s = true) (hstat : (Cond.static y).before args s = true) (hinit : (Cond.initialized y.cls).before args s = true)
    (hcode : (Cond.code y bytes maxL ret).before args s = true) (hy : y.cls ≠ "java/lang/invoke/MethodHandle" ∧ y.cls ≠ "java/lang/invoke/VarHandle")
    {W9 : Nat} {Pre : Pt → Array Value → Prop} {Post : Pt → Array Value → Option Value → Pt → Prop} {PostX : Pt → Array Value → Addr → Pt → Prop} (hK : vx_Back l R p e below s args y 3 W9 Pre Post PostX)
    {g : JFrame} (hg : g.method = m) (hsize : g.locals.size = c.maxLocals) {argsL rest : List Value} (hlen : ∀ sig, parseMethodDescriptor y.desc = some sig → argsL.length = sig.parameters.length)
    (hstack : g.stack = argsL.reverse ++ rest) (hW : 2 * g.monitorRoom + (rest.map fun v => v.category).sum ≤ W9) (hdg : decode c.code g.pc = .ok (.invokestatic index, 3))
    (hpre : ∀ vm₁, s.WarmedH vm₁ → Pre ⟨T.setVm vm₁, locs, cells, slots⟩ argsL.toArray) :
    (∃ (v : Option Value) (vm₁ : Vm) (B : Pt), s.WarmedH vm₁ ∧ Stand p l e R s m args below meth c B.U B.locs B.cells B.slots ∧ Post ⟨T.setVm vm₁, locs, cells, slots⟩ argsL.toArray v B ∧
      ∀ target, Steps p.tables e below (B.U.setTop { g with pc := g.pc + 3, stack := v.toList ++ rest }) target → Steps p.tables e below (T.setTop g) target) ∨
    (∃ (q : Addr) (vm₁ : Vm) (B : Pt), s.WarmedH vm₁ ∧ Stand p l e R s m args below meth c B.U B.locs B.cells B.slots ∧ PostX ⟨T.setVm vm₁, locs, cells, slots⟩ argsL.toArray q B ∧
      Steps p.tables e below (T.setTop g) ((B.U.setTop { g with stack := rest }).pushFrame (.throwing q))) := by
  obtain ⟨mk, hnamed⟩ := Cond.code_named hcode
  obtain ⟨methM, cM, hmethM, -, -, -, -, -, -, hsigM⟩ := Cond.code_spec hnamed hcode
  have hstatic : methM.isStatic = true := Cond.static_spec hnamed hmethM hstat
  obtain ⟨kP, hkP, -⟩ := className_of_methodNamed hnamed
  have hinitP : kP.init = .initialized := Cond.initialized_spec (findClass_of_methodNamed hnamed) hkP hinit
  obtain ⟨vm₁, X₁, hstep₁⟩ := X.invokestatic hexec hown hlink hnamed hmethM hstatic hkP hinitP hy (g := g) hg (argsL := argsL) (rest := rest) (hlen _ hsigM) hstack hdg
  rcases hK m meth c ⟨T.setVm vm₁, locs, cells, slots⟩ { g with stack := rest } (.invokestatic index) mk argsL.toArray X₁ hg hsize hdg hW (X₁.named hnamed) (hpre vm₁ X₁.warmed) with ⟨v, B, X', hpost, hsteps⟩ | ⟨q, B, X', hpost, hsteps⟩
  · exact Or.inl ⟨v, vm₁, B, X₁.warmed, X', hpost, fun target h => hstep₁ _ fun acts => by rw [doInvoke_state]; exact hsteps.trans h⟩
  · exact Or.inr ⟨q, vm₁, B, X₁.warmed, X', hpost, hstep₁ _ fun acts => by rw [doInvoke_state]; exact hsteps⟩
end Calls
theorem vx_cls {s : State} {T : State} {vm₁ : Vm} {E : String} {k : ClassId} (hW : s.WarmedH vm₁) (h : (T.setVm vm₁).vm.findClass E = some k) : s.vm.findClass E = some k := by
  have h1 : vm₁.findClass E = some k := h
  rw [hW.alike.findClass] at h1
  exact h1
/-- the method's frame g, with q thrown over it -/
def vx_W (p : Program) (l : Launch) (e : Env) (R : Room) (s : State) (m : MethodId) (args : Array Value) (below : List Frame) (meth : Method) (c : Code) (H : Heap) (locs : List Loc) (cells slots : Nat) (Q : State → Prop) (g : JFrame) (q : Addr) : Prop :=
  ∀ T : State, T.heap = H → Stand p l e R s m args below meth c T locs cells slots → ∃ t, Steps p.tables e below ((T.setTop g).pushFrame (.throwing q)) t ∧ Q t
def vx_Run (p : Program) (l : Launch) (e : Env) (R : Room) (s : State) (m : MethodId) (args : Array Value) (below : List Frame) (meth : Method) (c : Code) (H : Heap) (locs : List Loc) (cells slots mc ms : Nat) (g : JFrame) (rest : List Value) (Qa : State → Outcome → State → Prop) (XC : String → State → State → Prop) (free : Addr → Prop) : Prop :=
  ∀ T : State, T.heap = H → Stand p l e R s m args below meth c T locs cells slots →
    (∃ (v : Option Value) (st₀ t T' : State) (L : List Loc), st₀.heap = H ∧ Stand p l e R s m args below meth c T' (locs ++ L) (cells + mc) (slots + ms) ∧ (∀ q ∈ L, free q.base) ∧ T'.heap = t.heap ∧ T'.vm = t.vm ∧ Qa st₀ (.returned v) t ∧
      Goes p e below T g T' { g with pc := g.pc + 3, stack := v.toList ++ rest }) ∨
    (∃ (q : Addr) (st₀ t T' : State) (L : List Loc) (E : String) (ce : Cell), st₀.heap = H ∧ Stand p l e R s m args below meth c T' (locs ++ L) (cells + mc) (slots + ms) ∧ (∀ z ∈ L, free z.base) ∧ T'.heap = t.heap ∧ T'.vm = t.vm ∧ XC E st₀ t ∧ t.heap[q]? = some ce ∧ ce.vm = .none ∧ s.vm.findClass E = some ce.cls ∧
      Steps p.tables e below (T.setTop g) ((T'.setTop { g with stack := rest }).pushFrame (.throwing q)))
def vx_X {S : Type} (px : S → Prop) (B : String → S → State → Prop) (A : Nat → Prop) : String → State → State → Prop := fun E st t => ∃ u : S, px u ∧ B E u t ∧ va_F A st t
section Runs
variable {p : Program} {l : Launch} {e : Env} {R : Room} {s : State} {m : MethodId} {args : Array Value} {below : List Frame} {meth : Method} {c : Code} {H : Heap} {locs : List Loc} {cells slots : Nat}
variable {y : MethodName} {bytes cc : ByteArray} {maxL nL mc ms n index : Nat} {ret : Option FieldType} {ws : List Cond} {rm : Room} {Pc : Array Value → State → Prop} {Qc : Array Value → State → Outcome → State → Prop} {XC : String → State → State → Prop} {free : Addr → Prop} {Ts : List Cond} {own C : String} {b : Addr} {As rest : List Value} {g : JFrame}
theorem vx_callBack (cb : CallB R s args own index y bytes maxL ret ws rm mc ms n) (hM : vx_Met l y ws rm Pc Qc XC mc ms free) (hbl : FrameBlind Pc) : vx_Back l R p e below s args y 3 8 (PreOf R mc ms Pc) (PostOf Qc mc ms free) (vx_Post XC mc ms free) := by
  obtain ⟨hrc, hrs, hfr, hlo, hws, hcw, -, hini, -⟩ := cb
  exact vx_back (bytes := bytes) (maxL := maxL) (ret := ret) hM hbl hrc hrs hfr hlo hws hcw (fun a' U hW => word_at hW (Or.inl (by first | rfl | simp [Cond.onTables, Cond.keeps, Cond.steady])) hini)
theorem vx_runV (S : CallFix p m c cc nL s args Ts own) (hM : vx_Met l y ws rm Pc Qc XC mc ms free) (cw : CallW R s args own C index y bytes maxL ret ws rm mc ms n) (hp : PreV s H C b Pc As)
    (hg : g.method = m) (hn : As.length = n) (hsize : g.locals.size = nL) (hstack : g.stack = As.reverse ++ .ref b :: rest) (hW : 2 * g.monitorRoom + (rest.map fun v => v.category).sum ≤ 8) (hdg : decode cc g.pc = .ok (.invokevirtual index, 3)) (hf : cells + mc ≤ R.cells ∧ slots + ms ≤ R.slots) :
    vx_Run p l e R s m args below meth c H locs cells slots mc ms g rest (Qc (Value.ref b :: As).toArray) XC free := by
  have hK : vx_Back l R p e below s args y 3 8 (PreOf R mc ms Pc) (PostOf Qc mc ms free) (vx_Post XC mc ms free) := vx_callBack cw.1 hM hp.1
  obtain ⟨⟨-, -, -, -, -, -, hcode, -, hy, hlen, hl⟩, hin, hse⟩ := cw
  obtain ⟨hx, hb, hml, ho, -⟩ := S
  obtain ⟨-, ⟨cellB, hcB, hoB, hclB⟩, hPc⟩ := hp
  intro T hT X
  rcases vx_callV X hx (C := C) (bytes := bytes) (maxL := maxL) (ret := ret) ho hl hin hse hcode hy hK (by rw [hT]; exact hcB) hoB hclB hg (hsize.trans hml.symm) (argsL := As) (rest := rest) (fun sig h => hn.trans (hlen sig h)) hstack hW (by rw [hb]; exact hdg)
    (fun vm₁ hW₁ => ⟨hf.1, hf.2, hPc (T.setVm vm₁) hT hW₁⟩) with ⟨v, vm₁, ⟨U', l2, c2, s2⟩, hW₁, X', ⟨g', mk, t, L, e1, e2, hq, h1, hL, h2, h3⟩, st⟩ | ⟨q, vm₁, ⟨U', l2, c2, s2⟩, hW₁, X', ⟨g', mk, t, L, E, ce, e1, e2, hq, hce, hcv, hcl, h1, hL, h2, h3⟩, st⟩
  · dsimp only [Pt.U, Pt.locs, Pt.cells, Pt.slots] at X' e1 e2 h1 h2 h3 st
    subst h1; subst h2; subst h3
    exact Or.inl ⟨v, (T.setVm vm₁).calling g' mk (Value.ref b :: As).toArray, t, U', L, hT, X', hL, e1, e2, hq, st⟩
  · dsimp only [Pt.U, Pt.locs, Pt.cells, Pt.slots] at X' e1 e2 h1 h2 h3 st hcl
    subst h1; subst h2; subst h3
    exact Or.inr ⟨q, (T.setVm vm₁).calling g' mk (Value.ref b :: As).toArray, t, U', L, E, ce, hT, X', hL, e1, e2, hq, hce, hcv, vx_cls hW₁ hcl, st⟩
theorem vx_runS (S : CallFix p m c cc nL s args Ts own) (hM : vx_Met l y ws rm Pc Qc XC mc ms free) (cw : CallB R s args own index y bytes maxL ret ws rm mc ms n ∧ (Cond.static y).before args s = true) (hp : PreS s H Pc As)
    (hg : g.method = m) (hn : As.length = n) (hsize : g.locals.size = nL) (hstack : g.stack = As.reverse ++ rest) (hW : 2 * g.monitorRoom + (rest.map fun v => v.category).sum ≤ 8) (hdg : decode cc g.pc = .ok (.invokestatic index, 3)) (hf : cells + mc ≤ R.cells ∧ slots + ms ≤ R.slots) :
    vx_Run p l e R s m args below meth c H locs cells slots mc ms g rest (Qc As.toArray) XC free := by
  have hK : vx_Back l R p e below s args y 3 8 (PreOf R mc ms Pc) (PostOf Qc mc ms free) (vx_Post XC mc ms free) := vx_callBack cw.1 hM hp.1
  obtain ⟨⟨-, -, -, -, -, -, hcode, hini, hy, hlen, hl⟩, hstt⟩ := cw
  obtain ⟨hx, hb, hml, ho, -⟩ := S
  intro T hT X
  rcases vx_callS X hx (bytes := bytes) (maxL := maxL) (ret := ret) ho hl hstt hini hcode hy hK hg (hsize.trans hml.symm) (argsL := As) (rest := rest) (fun sig h => hn.trans (hlen sig h)) hstack hW (by rw [hb]; exact hdg)
    (fun vm₁ hW₁ => ⟨hf.1, hf.2, hp.2 (T.setVm vm₁) hT hW₁⟩) with ⟨v, vm₁, ⟨U', l2, c2, s2⟩, hW₁, X', ⟨g', mk, t, L, e1, e2, hq, h1, hL, h2, h3⟩, st⟩ | ⟨q, vm₁, ⟨U', l2, c2, s2⟩, hW₁, X', ⟨g', mk, t, L, E, ce, e1, e2, hq, hce, hcv, hcl, h1, hL, h2, h3⟩, st⟩
  · dsimp only [Pt.U, Pt.locs, Pt.cells, Pt.slots] at X' e1 e2 h1 h2 h3 st
    subst h1; subst h2; subst h3
    exact Or.inl ⟨v, (T.setVm vm₁).calling g' mk As.toArray, t, U', L, hT, X', hL, e1, e2, hq, st⟩
  · dsimp only [Pt.U, Pt.locs, Pt.cells, Pt.slots] at X' e1 e2 h1 h2 h3 st hcl
    subst h1; subst h2; subst h3
    exact Or.inr ⟨q, (T.setVm vm₁).calling g' mk As.toArray, t, U', L, E, ce, hT, X', hL, e1, e2, hq, hce, hcv, vx_cls hW₁ hcl, st⟩
end Runs
section Rows
variable {p : Program} {l : Launch} {e : Env} {R : Room} {s : State} {m : MethodId} {args : Array Value} {below : List Frame} {meth : Method} {c : Code} {H : Heap} {locs : List Loc} {cells slots : Nat} {Q : State → Prop}
variable {mc ms : Nat} {free : Addr → Prop} {A0 A1 : Nat → Prop} {H0 : Heap} {a : Array Value} {pc : Nat} {ls : Array Slot} {st0 rest : List Value}
theorem vx_keep {st₀ t T' : State} {L : List Loc} (h0 : st₀.heap = H) (e1 : T'.heap = t.heap) (hS : va_S A0 H0 H locs) (hA : ∀ q, q < H.size → A1 q → A0 q) (hf : ∀ q, free q → A0 q) (hL : ∀ q ∈ L, free q.base) (hF : va_F A1 st₀ t) :
    H.size ≤ T'.heap.size ∧ (∀ q : Nat, q < H.size → ¬ A1 q → T'.heap[q]? = H[q]?) ∧ va_S A0 H0 T'.heap (locs ++ L) := by
  obtain ⟨hz, hk⟩ := hF
  rw [h0] at hz hk
  exact ⟨by rw [e1]; exact hz, fun q h1 h2 => by rw [e1]; exact hk q h1 h2,
    ⟨Nat.le_trans hS.1 (by rw [e1]; exact hz), fun q h1 h2 => by rw [e1, hk q (Nat.lt_of_lt_of_le h1 hS.1) (fun z => h2 (hA q (Nat.lt_of_lt_of_le h1 hS.1) z))]; exact hS.2.1 q h1 h2, fun q hq => by
      rcases List.mem_append.mp hq with h | h
      · exact hS.2.2 q h
      · exact hf _ (hL q h)⟩⟩
theorem vx_calli {S SX : Type} {post : Int32 → S → Prop} {px : SX → Prop} {B : S → State → Prop} {BX : String → SX → State → Prop} {AX : Nat → Prop} (hr : vx_Run p l e R s m args below meth c H locs cells slots mc ms (F0 m pc ls st0) rest (va_Qi post B A1 a) (vx_X px BX AX) free) (hS : va_S A0 H0 H locs) (hA : ∀ q, q < H.size → A1 q → A0 q) (hf : ∀ q, free q → A0 q) (hAX : ∀ q, q < H.size → AX q → A0 q)
    (kx : ∀ (E : String) (ce : Cell) (q9 : Addr) (u : SX) (t : State) (H1 : Heap) (locs1 : List Loc), t.heap = H1 → s.vm.Alike t.vm → px u → BX E u t → H.size ≤ H1.size → (∀ q : Nat, q < H.size → ¬ AX q → H1[q]? = H[q]?) → va_S A0 H0 H1 locs1 → H1[q9]? = some ce → ce.vm = .none → s.vm.findClass E = some ce.cls → vx_W p l e R s m args below meth c H1 locs1 (cells + mc) (slots + ms) Q (F0 m pc ls rest) q9)
    (kk : ∀ (r : Int32) (u : S) (t : State) (H1 : Heap) (locs1 : List Loc), t.heap = H1 → s.vm.Alike t.vm → post r u → B u t → H.size ≤ H1.size → (∀ q : Nat, q < H.size → ¬ A1 q → H1[q]? = H[q]?) → va_S A0 H0 H1 locs1 → W p l e R s m args below meth c H1 locs1 (cells + mc) (slots + ms) Q (F0 m (pc + 3) ls (.int r :: rest))) : W p l e R s m args below meth c H locs cells slots Q (F0 m pc ls st0) := by
  intro T hT X
  rcases hr T hT X with ⟨v, st₀, t, T', L, h0, X', hL, e1, e2, ⟨⟨r, u, hv, hp, hb⟩, hF⟩, st⟩ | ⟨q, st₀, t, T', L, E, ce, h0, X', hL, e1, e2, ⟨u, hp, hb, hF⟩, hce, hcv, hcl, st⟩
  · cases hv
    obtain ⟨k1, k2, k3⟩ := vx_keep h0 e1 hS hA hf hL hF
    obtain ⟨t2, a1, b1⟩ := kk r u t T'.heap (locs ++ L) e1.symm (by rw [← e2]; exact X'.warmed.alike) hp hb k1 k2 k3 T' rfl X'
    exact ⟨t2, st t2 a1, b1⟩
  · obtain ⟨k1, k2, k3⟩ := vx_keep h0 e1 hS hAX hf hL hF
    obtain ⟨t2, a1, b1⟩ := kx E ce q u t T'.heap (locs ++ L) e1.symm (by rw [← e2]; exact X'.warmed.alike) hp hb k1 k2 k3 (by rw [e1]; exact hce) hcv hcl T' rfl X'
    exact ⟨t2, st.trans a1, b1⟩
theorem vx_calll {S SX : Type} {post : Int64 → S → Prop} {px : SX → Prop} {B : S → State → Prop} {BX : String → SX → State → Prop} {AX : Nat → Prop} (hr : vx_Run p l e R s m args below meth c H locs cells slots mc ms (F0 m pc ls st0) rest (va_Ql post B A1 a) (vx_X px BX AX) free) (hS : va_S A0 H0 H locs) (hA : ∀ q, q < H.size → A1 q → A0 q) (hf : ∀ q, free q → A0 q) (hAX : ∀ q, q < H.size → AX q → A0 q)
    (kx : ∀ (E : String) (ce : Cell) (q9 : Addr) (u : SX) (t : State) (H1 : Heap) (locs1 : List Loc), t.heap = H1 → s.vm.Alike t.vm → px u → BX E u t → H.size ≤ H1.size → (∀ q : Nat, q < H.size → ¬ AX q → H1[q]? = H[q]?) → va_S A0 H0 H1 locs1 → H1[q9]? = some ce → ce.vm = .none → s.vm.findClass E = some ce.cls → vx_W p l e R s m args below meth c H1 locs1 (cells + mc) (slots + ms) Q (F0 m pc ls rest) q9)
    (kk : ∀ (r : Int64) (u : S) (t : State) (H1 : Heap) (locs1 : List Loc), t.heap = H1 → s.vm.Alike t.vm → post r u → B u t → H.size ≤ H1.size → (∀ q : Nat, q < H.size → ¬ A1 q → H1[q]? = H[q]?) → va_S A0 H0 H1 locs1 → W p l e R s m args below meth c H1 locs1 (cells + mc) (slots + ms) Q (F0 m (pc + 3) ls (.long r :: rest))) : W p l e R s m args below meth c H locs cells slots Q (F0 m pc ls st0) := by
  intro T hT X
  rcases hr T hT X with ⟨v, st₀, t, T', L, h0, X', hL, e1, e2, ⟨⟨r, u, hv, hp, hb⟩, hF⟩, st⟩ | ⟨q, st₀, t, T', L, E, ce, h0, X', hL, e1, e2, ⟨u, hp, hb, hF⟩, hce, hcv, hcl, st⟩
  · cases hv
    obtain ⟨k1, k2, k3⟩ := vx_keep h0 e1 hS hA hf hL hF
    obtain ⟨t2, a1, b1⟩ := kk r u t T'.heap (locs ++ L) e1.symm (by rw [← e2]; exact X'.warmed.alike) hp hb k1 k2 k3 T' rfl X'
    exact ⟨t2, st t2 a1, b1⟩
  · obtain ⟨k1, k2, k3⟩ := vx_keep h0 e1 hS hAX hf hL hF
    obtain ⟨t2, a1, b1⟩ := kx E ce q u t T'.heap (locs ++ L) e1.symm (by rw [← e2]; exact X'.warmed.alike) hp hb k1 k2 k3 (by rw [e1]; exact hce) hcv hcl T' rfl X'
    exact ⟨t2, st.trans a1, b1⟩
theorem vx_callf {S SX : Type} {post : UInt32 → S → Prop} {px : SX → Prop} {B : S → State → Prop} {BX : String → SX → State → Prop} {AX : Nat → Prop} (hr : vx_Run p l e R s m args below meth c H locs cells slots mc ms (F0 m pc ls st0) rest (va_Qf post B A1 a) (vx_X px BX AX) free) (hS : va_S A0 H0 H locs) (hA : ∀ q, q < H.size → A1 q → A0 q) (hf : ∀ q, free q → A0 q) (hAX : ∀ q, q < H.size → AX q → A0 q)
    (kx : ∀ (E : String) (ce : Cell) (q9 : Addr) (u : SX) (t : State) (H1 : Heap) (locs1 : List Loc), t.heap = H1 → s.vm.Alike t.vm → px u → BX E u t → H.size ≤ H1.size → (∀ q : Nat, q < H.size → ¬ AX q → H1[q]? = H[q]?) → va_S A0 H0 H1 locs1 → H1[q9]? = some ce → ce.vm = .none → s.vm.findClass E = some ce.cls → vx_W p l e R s m args below meth c H1 locs1 (cells + mc) (slots + ms) Q (F0 m pc ls rest) q9)
    (kk : ∀ (r : UInt32) (u : S) (t : State) (H1 : Heap) (locs1 : List Loc), t.heap = H1 → s.vm.Alike t.vm → post r u → B u t → H.size ≤ H1.size → (∀ q : Nat, q < H.size → ¬ A1 q → H1[q]? = H[q]?) → va_S A0 H0 H1 locs1 → W p l e R s m args below meth c H1 locs1 (cells + mc) (slots + ms) Q (F0 m (pc + 3) ls (.float r :: rest))) : W p l e R s m args below meth c H locs cells slots Q (F0 m pc ls st0) := by
  intro T hT X
  rcases hr T hT X with ⟨v, st₀, t, T', L, h0, X', hL, e1, e2, ⟨⟨r, u, hv, hp, hb⟩, hF⟩, st⟩ | ⟨q, st₀, t, T', L, E, ce, h0, X', hL, e1, e2, ⟨u, hp, hb, hF⟩, hce, hcv, hcl, st⟩
  · cases hv
    obtain ⟨k1, k2, k3⟩ := vx_keep h0 e1 hS hA hf hL hF
    obtain ⟨t2, a1, b1⟩ := kk r u t T'.heap (locs ++ L) e1.symm (by rw [← e2]; exact X'.warmed.alike) hp hb k1 k2 k3 T' rfl X'
    exact ⟨t2, st t2 a1, b1⟩
  · obtain ⟨k1, k2, k3⟩ := vx_keep h0 e1 hS hAX hf hL hF
    obtain ⟨t2, a1, b1⟩ := kx E ce q u t T'.heap (locs ++ L) e1.symm (by rw [← e2]; exact X'.warmed.alike) hp hb k1 k2 k3 (by rw [e1]; exact hce) hcv hcl T' rfl X'
    exact ⟨t2, st.trans a1, b1⟩
theorem vx_calld {S SX : Type} {post : UInt64 → S → Prop} {px : SX → Prop} {B : S → State → Prop} {BX : String → SX → State → Prop} {AX : Nat → Prop} (hr : vx_Run p l e R s m args below meth c H locs cells slots mc ms (F0 m pc ls st0) rest (va_Qd post B A1 a) (vx_X px BX AX) free) (hS : va_S A0 H0 H locs) (hA : ∀ q, q < H.size → A1 q → A0 q) (hf : ∀ q, free q → A0 q) (hAX : ∀ q, q < H.size → AX q → A0 q)
    (kx : ∀ (E : String) (ce : Cell) (q9 : Addr) (u : SX) (t : State) (H1 : Heap) (locs1 : List Loc), t.heap = H1 → s.vm.Alike t.vm → px u → BX E u t → H.size ≤ H1.size → (∀ q : Nat, q < H.size → ¬ AX q → H1[q]? = H[q]?) → va_S A0 H0 H1 locs1 → H1[q9]? = some ce → ce.vm = .none → s.vm.findClass E = some ce.cls → vx_W p l e R s m args below meth c H1 locs1 (cells + mc) (slots + ms) Q (F0 m pc ls rest) q9)
    (kk : ∀ (r : UInt64) (u : S) (t : State) (H1 : Heap) (locs1 : List Loc), t.heap = H1 → s.vm.Alike t.vm → post r u → B u t → H.size ≤ H1.size → (∀ q : Nat, q < H.size → ¬ A1 q → H1[q]? = H[q]?) → va_S A0 H0 H1 locs1 → W p l e R s m args below meth c H1 locs1 (cells + mc) (slots + ms) Q (F0 m (pc + 3) ls (.double r :: rest))) : W p l e R s m args below meth c H locs cells slots Q (F0 m pc ls st0) := by
  intro T hT X
  rcases hr T hT X with ⟨v, st₀, t, T', L, h0, X', hL, e1, e2, ⟨⟨r, u, hv, hp, hb⟩, hF⟩, st⟩ | ⟨q, st₀, t, T', L, E, ce, h0, X', hL, e1, e2, ⟨u, hp, hb, hF⟩, hce, hcv, hcl, st⟩
  · cases hv
    obtain ⟨k1, k2, k3⟩ := vx_keep h0 e1 hS hA hf hL hF
    obtain ⟨t2, a1, b1⟩ := kk r u t T'.heap (locs ++ L) e1.symm (by rw [← e2]; exact X'.warmed.alike) hp hb k1 k2 k3 T' rfl X'
    exact ⟨t2, st t2 a1, b1⟩
  · obtain ⟨k1, k2, k3⟩ := vx_keep h0 e1 hS hAX hf hL hF
    obtain ⟨t2, a1, b1⟩ := kx E ce q u t T'.heap (locs ++ L) e1.symm (by rw [← e2]; exact X'.warmed.alike) hp hb k1 k2 k3 (by rw [e1]; exact hce) hcv hcl T' rfl X'
    exact ⟨t2, st.trans a1, b1⟩
theorem vx_callv {S SX : Type} {post : S → Prop} {px : SX → Prop} {B : S → State → Prop} {BX : String → SX → State → Prop} {AX : Nat → Prop} (hr : vx_Run p l e R s m args below meth c H locs cells slots mc ms (F0 m pc ls st0) rest (va_Qv post B A1 a) (vx_X px BX AX) free) (hS : va_S A0 H0 H locs) (hA : ∀ q, q < H.size → A1 q → A0 q) (hf : ∀ q, free q → A0 q) (hAX : ∀ q, q < H.size → AX q → A0 q)
    (kx : ∀ (E : String) (ce : Cell) (q9 : Addr) (u : SX) (t : State) (H1 : Heap) (locs1 : List Loc), t.heap = H1 → s.vm.Alike t.vm → px u → BX E u t → H.size ≤ H1.size → (∀ q : Nat, q < H.size → ¬ AX q → H1[q]? = H[q]?) → va_S A0 H0 H1 locs1 → H1[q9]? = some ce → ce.vm = .none → s.vm.findClass E = some ce.cls → vx_W p l e R s m args below meth c H1 locs1 (cells + mc) (slots + ms) Q (F0 m pc ls rest) q9)
    (kk : ∀ (u : S) (t : State) (H1 : Heap) (locs1 : List Loc), t.heap = H1 → s.vm.Alike t.vm → post u → B u t → H.size ≤ H1.size → (∀ q : Nat, q < H.size → ¬ A1 q → H1[q]? = H[q]?) → va_S A0 H0 H1 locs1 → W p l e R s m args below meth c H1 locs1 (cells + mc) (slots + ms) Q (F0 m (pc + 3) ls (rest))) : W p l e R s m args below meth c H locs cells slots Q (F0 m pc ls st0) := by
  intro T hT X
  rcases hr T hT X with ⟨v, st₀, t, T', L, h0, X', hL, e1, e2, ⟨⟨u, hv, hp, hb⟩, hF⟩, st⟩ | ⟨q, st₀, t, T', L, E, ce, h0, X', hL, e1, e2, ⟨u, hp, hb, hF⟩, hce, hcv, hcl, st⟩
  · cases hv
    obtain ⟨k1, k2, k3⟩ := vx_keep h0 e1 hS hA hf hL hF
    obtain ⟨t2, a1, b1⟩ := kk u t T'.heap (locs ++ L) e1.symm (by rw [← e2]; exact X'.warmed.alike) hp hb k1 k2 k3 T' rfl X'
    exact ⟨t2, st t2 a1, b1⟩
  · obtain ⟨k1, k2, k3⟩ := vx_keep h0 e1 hS hAX hf hL hF
    obtain ⟨t2, a1, b1⟩ := kx E ce q u t T'.heap (locs ++ L) e1.symm (by rw [← e2]; exact X'.warmed.alike) hp hb k1 k2 k3 (by rw [e1]; exact hce) hcv hcl T' rfl X'
    exact ⟨t2, st.trans a1, b1⟩
/-- caught by the row x of this method's table; the rows ahead don't take it -/
theorem vx_catch {own name : String} {E : String} {ce : Cell} {q : Addr} (hown : s.vm.findClass own = some m.cls) (pre : List ExceptionTableEntry) (x : ExceptionTableEntry) (suf : List ExceptionTableEntry) (hsplit : c.exceptionTable.toList = pre ++ x :: suf)
    (hpass : ∀ z ∈ pre, covers z pc = false ∨ (z.catchType ≠ 0 ∧ ∃ nm : String, (Cond.classLink own z.catchType nm).before args s = true ∧ va_Nc E nm s)) (hx : covers x pc = true) (h0 : x.catchType ≠ 0)
    (hlink : (Cond.classLink own x.catchType name).before args s = true) (hcast : (Cond.castable E name).before args s = true) (hcell : H[q]? = some ce) (hv : ce.vm = .none) (hcl : s.vm.findClass E = some ce.cls)
    (kk : W p l e R s m args below meth c H locs cells slots Q (F0 m x.handlerPc ls [.ref q])) : vx_W p l e R s m args below meth c H locs cells slots Q (F0 m pc ls rest) q := by
  intro T hT X
  have hpl : e.platform.magicAccessors = ({} : Platform).magicAccessors := by rw [X.admits.platform]
  obtain ⟨c3, c4, hc3, hc4, hasg⟩ := Cond.castable_spec hcast
  cases Option.some.inj (hc3.symm.trans hcl)
  obtain ⟨c5, hc5, hcl5⟩ := Cond.classLink_spec hown hlink e.platform hpl
  cases Option.some.inj (hc4.symm.trans hc5)
  obtain ⟨vm', X', st⟩ := X.thenCaughtThrough q (g := F0 m pc ls rest) rfl (Steps.refl _) (by rw [hT]; exact hcell) (by rw [hv]; rfl) (by obtain ⟨k9, h9, -⟩ := Vm.findClass_spec hcl; exact ⟨k9, h9⟩) pre x suf hsplit
    (fun z hz => by
      rcases hpass z hz with h | ⟨hz0, nm, hl1, hn1⟩
      · exact Or.inl h
      · obtain ⟨c6, hc6, hcl6⟩ := Cond.classLink_spec hown hl1 e.platform hpl
        obtain ⟨a8, b8, h1, h2, h3⟩ := hn1
        cases Option.some.inj (h1.symm.trans hcl)
        cases Option.some.inj (h2.symm.trans hc6)
        exact Or.inr ⟨hz0, _, hcl6, h3⟩) hx (Or.inr ⟨h0, c4, hcl5, hasg⟩)
  obtain ⟨t, a1, b1⟩ := kk (T.setVm vm') hT X'
  exact ⟨t, st.trans a1, b1⟩
end Rows
section Ends
variable {p : Program} {l : Launch} {e : Env} {R : Room} {s : State} {m : MethodId} {args : Array Value} {below : List Frame} {meth : Method} {c : Code} {H : Heap} {locs : List Loc} {cells slots : Nat} {Q : State → Prop}
variable {mc ms : Nat} {free : Addr → Prop} {A0 A1 : Nat → Prop} {H0 : Heap} {a : Array Value} {ls : Array Slot} {st0 rest : List Value}
variable {Qc : Array Value → State → Outcome → State → Prop} {XC : String → State → State → Prop}
/-- what a body that may throw owes at its end -/
def vx_MQ (below : List Frame) (Qc : Array Value → State → Outcome → State → Prop) (XC : String → State → State → Prop) (a : Array Value) (s : State) (mc ms : Nat) (free : Addr → Prop) : State → Prop := fun t =>
  ∃ o, t.status = .running ∧ Ended t below o ∧ vx_Q Qc XC mc ms free a s o t
theorem vx_ret {g : JFrame} {mc ms : Nat} (k : W p l e R s m args below meth c H locs cells slots (MQ below Qc args s mc ms free) g) : W p l e R s m args below meth c H locs cells slots (vx_MQ below Qc XC args s mc ms free) g := by
  intro T hT X
  obtain ⟨t, a1, o, b1, b2, b3, b4⟩ := k T hT X
  exact ⟨t, a1, o, b1, b2, Or.inl ⟨b3, b4⟩⟩
/-- not caught here: it goes on to the caller -/
theorem vx_widen {g : JFrame} {q : Addr} {k n : Nat} (h1 : cells ≤ k) (h2 : slots ≤ n) (kk : vx_W p l e R s m args below meth c H locs k n Q g q) : vx_W p l e R s m args below meth c H locs cells slots Q g q := fun T hT X => kk T hT (stand_widen X h1 h2)
theorem vx_out {pc : Nat} {E : String} {ce : Cell} {q : Addr} {mc ms : Nat} (hout : ∀ x ∈ c.exceptionTable.toList, covers x pc = false) (hlocks : meth.locks = false) (hcell : H[q]? = some ce) (hv : ce.vm = .none) (hcl : s.vm.findClass E = some ce.cls)
    (hx : ∀ t : State, t.heap = H → s.vm.Alike t.vm → XC E s t) (hf : ∀ z ∈ locs, free z.base) (hc : cells ≤ mc) (hs : slots ≤ ms) :
    vx_W p l e R s m args below meth c H locs cells slots (vx_MQ below Qc XC args s mc ms free) (F0 m pc ls rest) q := by
  intro T hT X
  obtain ⟨st1, hrun, hend, hW, hsm⟩ := X.leaveThrown q (g := F0 m pc ls rest) rfl rfl rfl hout hlocks
  have hcell9 : (T.setFrames (.throwing q :: below)).heap[q]? = some ce := by
    show T.heap[q]? = some ce
    rw [hT]; exact hcell
  exact ⟨_, st1, .threw q, hrun, hend, Or.inr ⟨q, rfl, E, ce, locs, hx _ hT hW.alike, hcell9, hv, hcl, hW, hsm.mono hc hs, hf⟩⟩
theorem vx_frame {U : State} {k n : Nat} (h : s.sameButNew ({ U with vm := s.vm } : State) locs k n) : s.heap.size ≤ U.heap.size ∧ ∀ q : Nat, q < s.heap.size → (∀ z ∈ locs, z.base ≠ q) → U.heap[q]? = s.heap[q]? := by
  obtain ⟨-, h2, -, -, -, h6⟩ := h
  refine ⟨h2, fun q hq hz => ?_⟩
  obtain ⟨c9, e1, e2, e3, e4⟩ := h6 q _ (Array.getElem?_eq_getElem hq)
  have hs : c9.slots = (s.heap[q]).slots := Array.ext_getElem? fun i => e4 i fun hm => hz _ hm rfl
  have h9 : c9 = s.heap[q] := by
    rw [hs] at e2
    exact e2
  have e5 : U.heap[q]? = some c9 := e1
  rw [e5, h9, Array.getElem?_eq_getElem hq]
/-- the words of a throw but the four that speak of the heap -/
def vx_no (w : Cond) : Bool := decide (w ≠ .isRef (.static Bundle.tN "UNASSIGNED_STACK" Bundle.steD)) && decide (w ≠ .isRef (.static Bundle.tN "SUPPRESSED_SENTINEL" Bundle.listD)) && decide (w ≠ .laysStatic Bundle.tN "UNASSIGNED_STACK" Bundle.steD) && decide (w ≠ .laysStatic Bundle.tN "SUPPRESSED_SENTINEL" Bundle.listD)
def vx_at0 (own : String) (ic : Nat) (X : String) (names : List String) : List Cond := (Bundle.ownAtoms0 own ic X names).filter vx_no
def vx_atS (own : String) (ic : Nat) (X : String) (names : List String) : List Cond := (Bundle.ownAtoms own ic X names).filter vx_no
/-- a word that the tables alone decide, or a good one -/
def vx_ot (w : Cond) : Bool := w.onTables || goodWord w
theorem vx_ot_at {args a' : Array Value} {s U : State} {w : Cond} (hW : s.WarmedH U.vm) (hvm : s.vm = U.vm) (hg : vx_ot w = true) (h : w.before args s = true) : w.before a' U = true := by
  simp only [vx_ot, Bool.or_eq_true] at hg
  rcases hg with hg | hg
  · exact va_tabs hg hvm h
  · exact word_at hW (good_of_word hg) h
/-- a list's words: the good ones out of the method's own list, the others by premises of their own -/
theorem vx_hat {args : Array Value} {s : State} {L B : List Cond} (h1 : ∀ w ∈ L.filter goodWord, w.before args s = true) (h2 : ∀ w ∈ L.filter (fun w => !goodWord w), w ∈ B) (h3 : ∀ w ∈ B, w.before args s = true) : ∀ w ∈ L, w.before args s = true := by
  intro w hw
  by_cases g : goodWord w = true
  · exact h1 w (List.mem_filter.mpr ⟨hw, g⟩)
  · refine h3 w (h2 w (List.mem_filter.mpr ⟨hw, ?_⟩))
    show (!goodWord w) = true
    cases hgw : goodWord w
    · rfl
    · exact absurd hgw g
theorem vx_c {args : Array Value} {s : State} {w : Cond} {B : List Cond} (h : w.before args s = true) (t : ∀ w ∈ B, w.before args s = true) : ∀ w' ∈ w :: B, w'.before args s = true := fun w' h' => (List.mem_cons.mp h').elim (fun e => by rw [e]; exact h) (t w')
theorem vx_n {args : Array Value} {s : State} : ∀ w ∈ ([] : List Cond), w.before args s = true := fun _ h => nomatch h
theorem vx_own {args : Array Value} {s : State} {L : List Cond} (h1 : ∀ w ∈ L.filter vx_no, w.before args s = true)
    (hU : (Cond.isRef (.static Bundle.tN "UNASSIGNED_STACK" Bundle.steD)).before args s = true) (hN : (Cond.isRef (.static Bundle.tN "SUPPRESSED_SENTINEL" Bundle.listD)).before args s = true)
    (lU : (Cond.laysStatic Bundle.tN "UNASSIGNED_STACK" Bundle.steD).before args s = true) (lN : (Cond.laysStatic Bundle.tN "SUPPRESSED_SENTINEL" Bundle.listD).before args s = true) : ∀ w ∈ L, w.before args s = true := by
  intro w hw
  by_cases e1 : w = .isRef (.static Bundle.tN "UNASSIGNED_STACK" Bundle.steD)
  · rw [e1]; exact hU
  · by_cases e2 : w = .isRef (.static Bundle.tN "SUPPRESSED_SENTINEL" Bundle.listD)
    · rw [e2]; exact hN
    · by_cases e3 : w = .laysStatic Bundle.tN "UNASSIGNED_STACK" Bundle.steD
      · rw [e3]; exact lU
      · by_cases e4 : w = .laysStatic Bundle.tN "SUPPRESSED_SENTINEL" Bundle.listD
        · rw [e4]; exact lN
        · exact h1 w (List.mem_filter.mpr ⟨hw, by unfold vx_no; rw [decide_eq_true e1, decide_eq_true e2, decide_eq_true e3, decide_eq_true e4]; rfl⟩)
/-- where a static field lies, its class's statics cell in H -/
def vx_L (C n d : String) (A : Nat → Prop) (U : State) (H : Heap) : Prop := ∃ (c : ClassId) (k : Class) (i : Nat) (f : Field) (a : Nat) (cell : Cell), U.vm.findClass C = some c ∧ U.fieldFound? C n d = some (c, k, i, f) ∧ f.isStatic = true ∧ k.statics = some a ∧ H[a]? = some cell ∧ cell.vm.isStatics = true ∧ cell.cls = c ∧ f.slot < cell.slots.size ∧ k.staticTypes[f.slot]? = some f.type ∧ ¬ A a
theorem vx_L.moved {C n d : String} {A : Nat → Prop} {u U : State} {H : Heap} (hvm : u.vm.Alike U.vm) (h : vx_L C n d A u H) : vx_L C n d A U H := by
  obtain ⟨c, k, i, f, a, cell, h1, h2, h3, h4, h5, h6, h7, h8, h9, h10⟩ := h
  obtain ⟨k', hi', he⟩ := State.fieldFound?_setVm hvm h2
  exact ⟨c, k', i, f, a, cell, by rw [hvm.findClass]; exact h1, hi', h3, by rw [he]; exact h4, h5, h6, h7, h8, by rw [he]; exact h9, h10⟩
theorem vx_L.kept {C n d : String} {A : Nat → Prop} {U : State} {H H1 : Heap} (h : vx_L C n d A U H) (hq : ∀ a : Nat, a < H.size → ¬ A a → H1[a]? = H[a]?) : vx_L C n d A U H1 := by
  obtain ⟨c, k, i, f, a, cell, h1, h2, h3, h4, h5, h6, h7, h8, h9, h10⟩ := h
  exact ⟨c, k, i, f, a, cell, h1, h2, h3, h4, by rw [hq a (Array.getElem?_eq_some_iff.mp h5).1 h10]; exact h5, h6, h7, h8, h9, h10⟩
theorem vx_L.narrow {C n d : String} {A B : Nat → Prop} {U : State} {H : Heap} (h : vx_L C n d A U H) (hAB : ∀ q, B q → A q) : vx_L C n d B U H := by
  obtain ⟨c, k, i, f, a, cell, h1, h2, h3, h4, h5, h6, h7, h8, h9, h10⟩ := h
  exact ⟨c, k, i, f, a, cell, h1, h2, h3, h4, h5, h6, h7, h8, h9, fun z => h10 (hAB _ z)⟩
theorem vx_L.word {C n d : String} {A : Nat → Prop} {s : State} {args : Array Value} (h : vx_L C n d A s s.heap) : (Cond.laysStatic C n d).before args s = true := by
  obtain ⟨c, k, i, f, a, cell, h1, h2, h3, h4, h5, h6, h7, h8, h9, -⟩ := h
  show (Cond.laysStatic C n d).holds args s none s [] = true
  exact Cond.laysStatic_of h1 h2 h3 h4 h5 h6 h7 h8 h9
/-- .. and what it holds: null or some reference -/
def vx_Zq (C n d : String) (A : Nat → Prop) (U : State) (H : Heap) : Prop := va_Zq C n d A U H ∧ vx_L C n d A U H
theorem vx_Zq.moved {C n d : String} {A : Nat → Prop} {u U : State} {H : Heap} (hvm : u.vm.Alike U.vm) (h : vx_Zq C n d A u H) : vx_Zq C n d A U H := ⟨va_Zq.moved hvm h.1, vx_L.moved hvm h.2⟩
theorem vx_Zq.kept {C n d : String} {A : Nat → Prop} {U : State} {H H1 : Heap} (h : vx_Zq C n d A U H) (hq : ∀ a : Nat, a < H.size → ¬ A a → H1[a]? = H[a]?) : vx_Zq C n d A U H1 := ⟨va_Zq.kept h.1 hq, vx_L.kept h.2 hq⟩
theorem vx_Zq.narrow {C n d : String} {A B : Nat → Prop} {U : State} {H : Heap} (h : vx_Zq C n d A U H) (hAB : ∀ q, B q → A q) : vx_Zq C n d B U H := ⟨va_Zq.narrow h.1 hAB, vx_L.narrow h.2 hAB⟩
theorem vx_Zqof {args : Array Value} {s : State} {C n d : String} {A : Nat → Prop} (hl : (Cond.laysStatic C n d).before args s = true) (hini : (Cond.initialized C).before args s = true) (h : (Cond.isRef (.static C n d)).before args s = true) (hA : ∀ a : Nat, a < s.heap.size → ¬ A a) : vx_Zq C n d A s s.heap := by
  refine ⟨va_Zqof hl hini h hA, ?_⟩
  obtain ⟨c, k, i, f, a, cell, h1, h2, h3, h4, h5, h6, h7, h8, h9⟩ := Cond.laysStatic_spec hl
  exact ⟨c, k, i, f, a, cell, h1, h2, h3, h4, h5, h6, h7, h8, h9, hA a (Array.getElem?_eq_some_iff.mp h5).1⟩
theorem vx_isRef {C n d : String} {v : Value} {A : Nat → Prop} {s : State} {args : Array Value} (h : va_Z C n d v A s s.heap) (hv : v.isRef = true) : (Cond.isRef (.static C n d)).before args s = true := by
  obtain ⟨cf, kf, fi, f, a, cell, h1, h2, h3, h4, h5, h6, h7, -⟩ := h
  have he : (Term.static C n d).eval args s none [] s = some v := by
    simp [Term.eval, State.fieldNamed?, h1, h2, h4, h5, h6, h7]
  simp only [Cond.before, Cond.holds, Cond.value, he]
  cases v <;> simp_all [Value.isRef]
theorem vx_isRefq {C n d : String} {A : Nat → Prop} {s : State} {args : Array Value} (h : va_Zq C n d A s s.heap) : (Cond.isRef (.static C n d)).before args s = true := by
  rcases h with h | ⟨t, h⟩
  · exact vx_isRef h rfl
  · exact vx_isRef h rfl
/-- the same frame, seen from here: as if the method were called anew in this heap -/
theorem vx_rebase {T : State} (X : Stand p l e R s m args below meth c T locs cells slots) {R' : Room} (hf : R'.frames ≤ R.frames) (hl : R'.locals ≤ R.locals) (hc : cells + R'.cells ≤ R.cells) (hs : slots + R'.slots ≤ R.slots) :
    Stand p l e R' ((T.setVm s.vm).setFrames (.invoking m args :: below)) m args below meth c T [] 0 0 := by
  have htop : (T.setVm s.vm).topJava?.isSome := X.here.top
  have hF : ((T.setVm s.vm).setFrames (.invoking m args :: below)).frames = .invoking m args :: below := State.frames_setFrames _ (State.cur_lt_of_top htop)
  obtain ⟨g₀, hg0⟩ := Option.isSome_iff_exists.mp htop
  obtain ⟨r, hr⟩ := State.topJava?_eq_some.mp hg0
  have hl9 : e.platform.stackLimits (T.setVm s.vm).me = e.platform.stackLimits s.me := X.limits
  have hb9 : (T.setVm s.vm).me.stackBytes = s.me.stackBytes := X.bytes
  refine ⟨X.admits, X.cas, X.clock, hF, ?_, X.hears, X.method, X.code, X.here, X.tail, X.warmed, ?_, ?_, ?_⟩
  · have h := X.room
    have hU : ((T.setVm s.vm).setFrames (.invoking m args :: below)).localsInUse = s.localsInUse := by
      rw [State.localsInUse_invoking hF (meth := meth) (c := c) X.method X.code, State.localsInUse_invoking X.frames X.method X.code]
    simp only [State.hasRoom, Bool.and_eq_true, decide_eq_true_eq] at h ⊢
    obtain ⟨⟨⟨⟨h1, h2, h3, h4, h5, h6⟩, h7⟩, h8⟩, h9⟩ := h
    rw [X.frames, List.length_cons] at h2 h3
    have q1 := X.heapSize
    have q2 := X.used
    simp only [hF, hU, List.length_cons, State.stackLimits_setFrames, State.stackBytes_setFrames, hl9, hb9]
    refine ⟨⟨⟨⟨by omega, by omega, by omega, by omega, by omega, h6⟩, ?_⟩, ?_⟩, X.book⟩
    · show T.heap.size + R'.cells ≤ e.platform.maxCells
      omega
    · show T.slotsUsed + R'.slots ≤ e.platform.maxSlots
      omega
  · rw [State.stackLimits_setFrames]; rfl
  · rw [State.stackBytes_setFrames]; rfl
  · refine ⟨?_, Nat.le_refl _, Nat.le_refl _, ?_, ?_, fun a c9 h9 => ⟨c9, h9, rfl, rfl, fun _ _ => rfl⟩⟩
    · obtain ⟨t, ht, -⟩ := State.frames_cons hr
      show T.setVm s.vm = { ((T.setVm s.vm).setFrames (.invoking m args :: below)).setFrames (T.setVm s.vm).frames with heap := T.heap, slotsUsed := T.slotsUsed }
      rw [State.setFrames_setFrames, State.setFrames_self ht]
      rfl
    · show T.slotsUsed = T.slotsUsed + ((T.heap.toList.drop T.heap.size).map (·.slots.size)).sum
      rw [List.drop_eq_nil_of_le (Nat.le_of_eq Array.length_toList)]
      rfl
    · show ((T.heap.toList.drop T.heap.size).map (·.slots.size)).sum ≤ 0
      rw [List.drop_eq_nil_of_le (Nat.le_of_eq Array.length_toList)]
      exact Nat.le_refl _
/-- 'throw new E()': new; dup; invokespecial; athrow -/
theorem vx_throw0 {cc : ByteArray} {pc : Nat} (hexec : p.tables.exec = Jvm.exec) (hb : c.code = cc) (hl : l.stackTraces = false) {own cls : String} {names : List String} {ik ic mc ms : Nat} {A : Nat → Prop}
    (hown : s.vm.findClass own = some m.cls) (hcls : Bundle.fit cls = true) (hnames : ∀ n ∈ names, Bundle.fit n = true)
    (hk : (Cond.classLink own ik cls).before args s = true) (hini : (Cond.initialized cls).before args s = true) (hat : ∀ w ∈ vx_at0 own ic cls names, w.before args s = true)
    (hgood : ∀ w ∈ Cond.classLink own ik cls :: Cond.initialized cls :: vx_at0 own ic cls names, vx_ot w = true)
    (hU : vx_Zq Bundle.tN "UNASSIGNED_STACK" Bundle.steD A s s.heap) (hN : vx_Zq Bundle.tN "SUPPRESSED_SENTINEL" Bundle.listD A s s.heap) (hS : va_S A s.heap H locs) (hsize : ls.size = c.maxLocals)
    (d0 : decode cc pc = .ok (.new ik, 3)) (d3 : decode cc (pc + 3) = .ok (.dup, 1)) (d4 : decode cc (pc + 4) = .ok (.invokespecial ic, 3)) (d7 : decode cc (pc + 7) = .ok (.athrow, 1))
    (hout : ∀ x ∈ c.exceptionTable.toList, covers x (pc + 7) = false)
    (hRframes : names.length + 3 < R.frames) (hRlocals : (rest.map fun v => v.category).sum + (13 * (names.length + 1) + 42) ≤ R.locals) (hRcells : cells + 1 ≤ R.cells) (hRslots : slots + 6 ≤ R.slots) (hlocks : meth.locks = false)
    (hx : ∀ t : State, s.vm.Alike t.vm → H.size ≤ t.heap.size → (∀ q : Nat, q < H.size → t.heap[q]? = H[q]?) → XC cls s t)
    (hf : ∀ z ∈ locs, free z.base) (hc : cells + 1 ≤ mc) (hs : slots + 6 ≤ ms) :
    W p l e R s m args below meth c H locs cells slots (vx_MQ below Qc XC args s mc ms free) (F0 m pc ls rest) := by
  intro T hT X
  have htr : e.platform.stackTraces = false := (show e.platform.stackTraces = l.stackTraces by rw [X.admits.platform]).trans hl
  have Y := vx_rebase X (R' := { frames := R.frames, locals := R.locals, cells := 1, slots := 6 }) (Nat.le_refl _) (Nat.le_refl _) hRcells hRslots
  obtain ⟨s', hA⟩ : ∃ z, z = (T.setVm s.vm).setFrames (.invoking m args :: below) := ⟨_, rfl⟩
  rw [← hA] at Y
  have hvm : s'.vm = s.vm := by rw [hA]; rfl
  have hhp : s'.heap = H := by rw [hA]; exact hT
  have hW0 : s.WarmedH s'.vm := by rw [hvm]; exact State.WarmedH.refl s
  have hat' : ∀ w ∈ vx_at0 own ic cls names, w.before args s' = true := fun w hw => vx_ot_at hW0 hvm.symm (hgood w (List.mem_cons_of_mem _ (List.mem_cons_of_mem _ hw))) (hat w hw)
  have hk' : (Cond.classLink own ik cls).before args s' = true := vx_ot_at hW0 hvm.symm (hgood _ List.mem_cons_self) hk
  have hini' : (Cond.initialized cls).before args s' = true := vx_ot_at hW0 hvm.symm (hgood _ (List.mem_cons_of_mem _ List.mem_cons_self)) hini
  have hU' : vx_Zq Bundle.tN "UNASSIGNED_STACK" Bundle.steD A s' s'.heap := by rw [hhp]; exact vx_Zq.moved hW0.alike (hU.kept hS.2.1)
  have hN' : vx_Zq Bundle.tN "SUPPRESSED_SENTINEL" Bundle.listD A s' s'.heap := by rw [hhp]; exact vx_Zq.moved hW0.alike (hN.kept hS.2.1)
  have h : ∀ w ∈ Bundle.ownAtoms0 own ic cls names, w.before args s' = true := vx_own hat' (vx_isRefq hU'.1) (vx_isRefq hN'.1) hU'.2.word hN'.2.word
  have hown' : s'.vm.findClass own = some m.cls := by rw [hvm]; exact hown
  have hins : (Cond.instantiable cls 6).before args s' = true := h _ (by simp [Bundle.ownAtoms0])
  obtain ⟨vm₁, cX, kX, hfX, hkX, -, -, X₁, st1⟩ := Y.newCold hexec (own := own) (C := cls) (index := ik) (n := 6) hown' hk' hins hini'
    (g := F0 m pc ls rest) rfl (by rw [hb]; exact d0) (Nat.le_refl _) (Nat.le_refl _)
  generalize hT1 : (T.setVm vm₁).pushCell { cls := cX, slots := kX.instanceTypes.map defaultValue, vm := .none } = T1 at X₁ st1
  have hcat : (Value.ref T.heap.size).category = 1 := rfl
  have hcellA : T1.heap[T.heap.size]? = some (freshCell cX kX) := by rw [← hT1]; exact State.heap_pushCell_size _ _
  have d3' : decode c.code (pc + 3) = .ok (.dup, 1) := by rw [hb]; exact d3
  obtain ⟨U, hsteps, hrun, hend, hW, hsame, ce, hce, hO⟩ := X₁.ctorThrow0 hexec htr (own := own) (cls := cls) (names := names) (ic := ic) hown' hcls hnames h (fun x hx => nomatch hx) hfX hkX hcellA (by rw [hhp, hT]; exact Nat.le_refl _)
    (g := { method := m, pc := pc + 4, locals := ls, stack := .ref T.heap.size :: .ref T.heap.size :: rest, locked := none }) rfl hsize rfl rfl (rest := rest) rfl
    (by rw [hb]; exact d4) (by rw [hb]; exact d7) hout hRframes (by simp only [List.map_cons, List.sum_cons, hcat]; omega) hlocks
  obtain ⟨f1, f2⟩ := vx_frame hsame
  rw [hhp] at f1 f2
  have hWs : s.WarmedH U.vm := State.WarmedH.trans hW0 hW
  have hcl : s.vm.findClass cls = some ce.cls := by
    have h9 := hO.cls
    rw [hvm] at h9
    exact h9
  have hall : s.sameButNew ({ U with vm := s.vm } : State) locs mc ms := by
    subst hA
    obtain ⟨e1, e2⟩ := hsame
    rw [State.setFrames_setFrames] at e1
    have h2 : (T.setVm s.vm).sameButNew ({ U with vm := s.vm } : State) [] (0 + 1) (0 + 6) := ⟨e1, e2⟩
    have h3 := X.same.trans h2
    rw [List.append_nil] at h3
    exact h3.mono hc hs
  refine ⟨U, ?_, .threw T.heap.size, hrun, hend, Or.inr ⟨T.heap.size, rfl, cls, ce, locs, hx U hWs.alike f1 (fun q hq => f2 q hq (fun z hz => nomatch hz)), hce, hO.vm, hcl, hWs, hall, hf⟩⟩
  refine st1 _ ?_
  show Steps p.tables e below (T1.setTop { method := m, pc := pc + 3, locals := ls, stack := .ref T.heap.size :: rest, locked := none }) _
  jvm_step X₁.here [X₁.here.top, hexec, d3', Value.category]
  exact hsteps
/-- 'throw new E("text")': new; dup; ldc; invokespecial; athrow -/
theorem vx_throwS {cc : ByteArray} {pc : Nat} (hexec : p.tables.exec = Jvm.exec) (hb : c.code = cc) (hl : l.stackTraces = false) {own cls text : String} {names : List String} {ik is ic mc ms sa : Nat} {A : Nat → Prop}
    (hown : s.vm.findClass own = some m.cls) (hcls : Bundle.fit cls = true) (hnames : ∀ n ∈ names, Bundle.fit n = true)
    (hk : (Cond.classLink own ik cls).before args s = true) (hini : (Cond.initialized cls).before args s = true) (hstr : vk_R own is text sa s) (hat : ∀ w ∈ vx_atS own ic cls names, w.before args s = true)
    (hgood : ∀ w ∈ Cond.classLink own ik cls :: Cond.initialized cls :: vx_atS own ic cls names, vx_ot w = true)
    (hU : vx_Zq Bundle.tN "UNASSIGNED_STACK" Bundle.steD A s s.heap) (hN : vx_Zq Bundle.tN "SUPPRESSED_SENTINEL" Bundle.listD A s s.heap) (hS : va_S A s.heap H locs) (hsize : ls.size = c.maxLocals)
    (d0 : decode cc pc = .ok (.new ik, 3)) (d3 : decode cc (pc + 3) = .ok (.dup, 1)) (d4 : decode cc (pc + 4) = .ok (.ldc is, 2)) (d6 : decode cc (pc + 6) = .ok (.invokespecial ic, 3)) (d9 : decode cc (pc + 9) = .ok (.athrow, 1))
    (hout : ∀ x ∈ c.exceptionTable.toList, covers x (pc + 9) = false)
    (hRframes : names.length + 3 < R.frames) (hRlocals : (rest.map fun v => v.category).sum + (13 * (names.length + 1) + 43) ≤ R.locals) (hRcells : cells + 1 ≤ R.cells) (hRslots : slots + 6 ≤ R.slots) (hlocks : meth.locks = false)
    (hx : ∀ t : State, s.vm.Alike t.vm → H.size ≤ t.heap.size → (∀ q : Nat, q < H.size → t.heap[q]? = H[q]?) → XC cls s t)
    (hf : ∀ z ∈ locs, free z.base) (hc : cells + 1 ≤ mc) (hs : slots + 6 ≤ ms) :
    W p l e R s m args below meth c H locs cells slots (vx_MQ below Qc XC args s mc ms free) (F0 m pc ls rest) := by
  intro T hT X
  have htr : e.platform.stackTraces = false := (show e.platform.stackTraces = l.stackTraces by rw [X.admits.platform]).trans hl
  have Y := vx_rebase X (R' := { frames := R.frames, locals := R.locals, cells := 1, slots := 6 }) (Nat.le_refl _) (Nat.le_refl _) hRcells hRslots
  obtain ⟨s', hA⟩ : ∃ z, z = (T.setVm s.vm).setFrames (.invoking m args :: below) := ⟨_, rfl⟩
  rw [← hA] at Y
  have hvm : s'.vm = s.vm := by rw [hA]; rfl
  have hhp : s'.heap = H := by rw [hA]; exact hT
  have hW0 : s.WarmedH s'.vm := by rw [hvm]; exact State.WarmedH.refl s
  have hat' : ∀ w ∈ vx_atS own ic cls names, w.before args s' = true := fun w hw => vx_ot_at hW0 hvm.symm (hgood w (List.mem_cons_of_mem _ (List.mem_cons_of_mem _ hw))) (hat w hw)
  have hk' : (Cond.classLink own ik cls).before args s' = true := vx_ot_at hW0 hvm.symm (hgood _ List.mem_cons_self) hk
  have hini' : (Cond.initialized cls).before args s' = true := vx_ot_at hW0 hvm.symm (hgood _ (List.mem_cons_of_mem _ List.mem_cons_self)) hini
  have hU' : vx_Zq Bundle.tN "UNASSIGNED_STACK" Bundle.steD A s' s'.heap := by rw [hhp]; exact vx_Zq.moved hW0.alike (hU.kept hS.2.1)
  have hN' : vx_Zq Bundle.tN "SUPPRESSED_SENTINEL" Bundle.listD A s' s'.heap := by rw [hhp]; exact vx_Zq.moved hW0.alike (hN.kept hS.2.1)
  have h : ∀ w ∈ Bundle.ownAtoms own ic cls names, w.before args s' = true := vx_own hat' (vx_isRefq hU'.1) (vx_isRefq hN'.1) hU'.2.word hN'.2.word
  have hown' : s'.vm.findClass own = some m.cls := by rw [hvm]; exact hown
  have hins : (Cond.instantiable cls 6).before args s' = true := h _ (by simp [Bundle.ownAtoms])
  obtain ⟨vm₁, cX, kX, hfX, hkX, -, -, X₁, st1⟩ := Y.newCold hexec (own := own) (C := cls) (index := ik) (n := 6) hown' hk' hins hini'
    (g := F0 m pc ls rest) rfl (by rw [hb]; exact d0) (Nat.le_refl _) (Nat.le_refl _)
  generalize hT1 : (T.setVm vm₁).pushCell { cls := cX, slots := kX.instanceTypes.map defaultValue, vm := .none } = T1 at X₁ st1
  have hcat : (Value.ref T.heap.size).category = 1 := rfl
  have hcellA : T1.heap[T.heap.size]? = some (freshCell cX kX) := by rw [← hT1]; exact State.heap_pushCell_size _ _
  have d3' : decode c.code (pc + 3) = .ok (.dup, 1) := by rw [hb]; exact d3
  have d4' : decode c.code (pc + 4) = .ok (.ldc is, 2) := by rw [hb]; exact d4
  have hstr' : vk_R own is text sa s' := vk_R.warm hW0 hstr
  obtain ⟨U, hsteps, hrun, hend, hW, hsame, ce, hce, hO⟩ := X₁.ctorThrowS hexec htr (own := own) (cls := cls) (names := names) (ic := ic) hown' hcls hnames h (fun x hx => nomatch hx) hfX hkX hcellA (by rw [hhp, hT]; exact Nat.le_refl _) (msg := .ref sa) rfl
    (g := { method := m, pc := pc + 6, locals := ls, stack := .ref sa :: .ref T.heap.size :: .ref T.heap.size :: rest, locked := none }) rfl hsize rfl rfl (rest := rest) rfl
    (by rw [hb]; exact d6) (by rw [hb]; exact d9) hout hRframes (by simp only [List.map_cons, List.sum_cons, hcat]; omega) hlocks
  obtain ⟨f1, f2⟩ := vx_frame hsame
  rw [hhp] at f1 f2
  have hWs : s.WarmedH U.vm := State.WarmedH.trans hW0 hW
  have hcl : s.vm.findClass cls = some ce.cls := by
    have h9 := hO.cls
    rw [hvm] at h9
    exact h9
  have hall : s.sameButNew ({ U with vm := s.vm } : State) locs mc ms := by
    subst hA
    obtain ⟨e1, e2⟩ := hsame
    rw [State.setFrames_setFrames] at e1
    have h2 : (T.setVm s.vm).sameButNew ({ U with vm := s.vm } : State) [] (0 + 1) (0 + 6) := ⟨e1, e2⟩
    have h3 := X.same.trans h2
    rw [List.append_nil] at h3
    exact h3.mono hc hs
  refine ⟨U, ?_, .threw T.heap.size, hrun, hend, Or.inr ⟨T.heap.size, rfl, cls, ce, locs, hx U hWs.alike f1 (fun q hq => f2 q hq (fun z hz => nomatch hz)), hce, hO.vm, hcl, hWs, hall, hf⟩⟩
  refine st1 _ ?_
  show Steps p.tables e below (T1.setTop { method := m, pc := pc + 3, locals := ls, stack := .ref T.heap.size :: rest, locked := none }) _
  jvm_step X₁.here [X₁.here.top, hexec, d3', Value.category]
  exact X₁.ldcString hexec (own := own) (text := text) (index := is) (a := sa) hown' hstr'.1 hstr'.2
    (g := { method := m, pc := pc + 4, locals := ls, stack := .ref T.heap.size :: .ref T.heap.size :: rest, locked := none }) rfl d4' _ hsteps
/-- 'throw new E("text")', the text by a wide index -/
theorem vx_throwSW {cc : ByteArray} {pc : Nat} (hexec : p.tables.exec = Jvm.exec) (hb : c.code = cc) (hl : l.stackTraces = false) {own cls text : String} {names : List String} {ik is ic mc ms sa : Nat} {A : Nat → Prop}
    (hown : s.vm.findClass own = some m.cls) (hcls : Bundle.fit cls = true) (hnames : ∀ n ∈ names, Bundle.fit n = true)
    (hk : (Cond.classLink own ik cls).before args s = true) (hini : (Cond.initialized cls).before args s = true) (hstr : vk_R own is text sa s) (hat : ∀ w ∈ vx_atS own ic cls names, w.before args s = true)
    (hgood : ∀ w ∈ Cond.classLink own ik cls :: Cond.initialized cls :: vx_atS own ic cls names, vx_ot w = true)
    (hU : vx_Zq Bundle.tN "UNASSIGNED_STACK" Bundle.steD A s s.heap) (hN : vx_Zq Bundle.tN "SUPPRESSED_SENTINEL" Bundle.listD A s s.heap) (hS : va_S A s.heap H locs) (hsize : ls.size = c.maxLocals)
    (d0 : decode cc pc = .ok (.new ik, 3)) (d3 : decode cc (pc + 3) = .ok (.dup, 1)) (d4 : decode cc (pc + 4) = .ok (.ldc_w is, 3)) (d7 : decode cc (pc + 7) = .ok (.invokespecial ic, 3)) (d10 : decode cc (pc + 10) = .ok (.athrow, 1))
    (hout : ∀ x ∈ c.exceptionTable.toList, covers x (pc + 10) = false)
    (hRframes : names.length + 3 < R.frames) (hRlocals : (rest.map fun v => v.category).sum + (13 * (names.length + 1) + 43) ≤ R.locals) (hRcells : cells + 1 ≤ R.cells) (hRslots : slots + 6 ≤ R.slots) (hlocks : meth.locks = false)
    (hx : ∀ t : State, s.vm.Alike t.vm → H.size ≤ t.heap.size → (∀ q : Nat, q < H.size → t.heap[q]? = H[q]?) → XC cls s t)
    (hf : ∀ z ∈ locs, free z.base) (hc : cells + 1 ≤ mc) (hs : slots + 6 ≤ ms) :
    W p l e R s m args below meth c H locs cells slots (vx_MQ below Qc XC args s mc ms free) (F0 m pc ls rest) := by
  intro T hT X
  have htr : e.platform.stackTraces = false := (show e.platform.stackTraces = l.stackTraces by rw [X.admits.platform]).trans hl
  have Y := vx_rebase X (R' := { frames := R.frames, locals := R.locals, cells := 1, slots := 6 }) (Nat.le_refl _) (Nat.le_refl _) hRcells hRslots
  obtain ⟨s', hA⟩ : ∃ z, z = (T.setVm s.vm).setFrames (.invoking m args :: below) := ⟨_, rfl⟩
  rw [← hA] at Y
  have hvm : s'.vm = s.vm := by rw [hA]; rfl
  have hhp : s'.heap = H := by rw [hA]; exact hT
  have hW0 : s.WarmedH s'.vm := by rw [hvm]; exact State.WarmedH.refl s
  have hat' : ∀ w ∈ vx_atS own ic cls names, w.before args s' = true := fun w hw => vx_ot_at hW0 hvm.symm (hgood w (List.mem_cons_of_mem _ (List.mem_cons_of_mem _ hw))) (hat w hw)
  have hk' : (Cond.classLink own ik cls).before args s' = true := vx_ot_at hW0 hvm.symm (hgood _ List.mem_cons_self) hk
  have hini' : (Cond.initialized cls).before args s' = true := vx_ot_at hW0 hvm.symm (hgood _ (List.mem_cons_of_mem _ List.mem_cons_self)) hini
  have hU' : vx_Zq Bundle.tN "UNASSIGNED_STACK" Bundle.steD A s' s'.heap := by rw [hhp]; exact vx_Zq.moved hW0.alike (hU.kept hS.2.1)
  have hN' : vx_Zq Bundle.tN "SUPPRESSED_SENTINEL" Bundle.listD A s' s'.heap := by rw [hhp]; exact vx_Zq.moved hW0.alike (hN.kept hS.2.1)
  have h : ∀ w ∈ Bundle.ownAtoms own ic cls names, w.before args s' = true := vx_own hat' (vx_isRefq hU'.1) (vx_isRefq hN'.1) hU'.2.word hN'.2.word
  have hown' : s'.vm.findClass own = some m.cls := by rw [hvm]; exact hown
  have hins : (Cond.instantiable cls 6).before args s' = true := h _ (by simp [Bundle.ownAtoms])
  obtain ⟨vm₁, cX, kX, hfX, hkX, -, -, X₁, st1⟩ := Y.newCold hexec (own := own) (C := cls) (index := ik) (n := 6) hown' hk' hins hini'
    (g := F0 m pc ls rest) rfl (by rw [hb]; exact d0) (Nat.le_refl _) (Nat.le_refl _)
  generalize hT1 : (T.setVm vm₁).pushCell { cls := cX, slots := kX.instanceTypes.map defaultValue, vm := .none } = T1 at X₁ st1
  have hcat : (Value.ref T.heap.size).category = 1 := rfl
  have hcellA : T1.heap[T.heap.size]? = some (freshCell cX kX) := by rw [← hT1]; exact State.heap_pushCell_size _ _
  have d3' : decode c.code (pc + 3) = .ok (.dup, 1) := by rw [hb]; exact d3
  have d4' : decode c.code (pc + 4) = .ok (.ldc_w is, 3) := by rw [hb]; exact d4
  have hstr' : vk_R own is text sa s' := vk_R.warm hW0 hstr
  obtain ⟨U, hsteps, hrun, hend, hW, hsame, ce, hce, hO⟩ := X₁.ctorThrowS hexec htr (own := own) (cls := cls) (names := names) (ic := ic) hown' hcls hnames h (fun x hx => nomatch hx) hfX hkX hcellA (by rw [hhp, hT]; exact Nat.le_refl _) (msg := .ref sa) rfl
    (g := { method := m, pc := pc + 7, locals := ls, stack := .ref sa :: .ref T.heap.size :: .ref T.heap.size :: rest, locked := none }) rfl hsize rfl rfl (rest := rest) rfl
    (by rw [hb]; exact d7) (by rw [hb]; exact d10) hout hRframes (by simp only [List.map_cons, List.sum_cons, hcat]; omega) hlocks
  obtain ⟨f1, f2⟩ := vx_frame hsame
  rw [hhp] at f1 f2
  have hWs : s.WarmedH U.vm := State.WarmedH.trans hW0 hW
  have hcl : s.vm.findClass cls = some ce.cls := by
    have h9 := hO.cls
    rw [hvm] at h9
    exact h9
  have hall : s.sameButNew ({ U with vm := s.vm } : State) locs mc ms := by
    subst hA
    obtain ⟨e1, e2⟩ := hsame
    rw [State.setFrames_setFrames] at e1
    have h2 : (T.setVm s.vm).sameButNew ({ U with vm := s.vm } : State) [] (0 + 1) (0 + 6) := ⟨e1, e2⟩
    have h3 := X.same.trans h2
    rw [List.append_nil] at h3
    exact h3.mono hc hs
  refine ⟨U, ?_, .threw T.heap.size, hrun, hend, Or.inr ⟨T.heap.size, rfl, cls, ce, locs, hx U hWs.alike f1 (fun q hq => f2 q hq (fun z hz => nomatch hz)), hce, hO.vm, hcl, hWs, hall, hf⟩⟩
  refine st1 _ ?_
  show Steps p.tables e below (T1.setTop { method := m, pc := pc + 3, locals := ls, stack := .ref T.heap.size :: rest, locked := none }) _
  jvm_step X₁.here [X₁.here.top, hexec, d3', Value.category]
  exact X₁.ldcStringW hexec (own := own) (text := text) (index := is) (a := sa) hown' hstr'.1 hstr'.2
    (g := { method := m, pc := pc + 4, locals := ls, stack := .ref T.heap.size :: .ref T.heap.size :: rest, locked := none }) rfl d4' _ hsteps
end Ends
section Bodies
variable {l : Launch}
theorem vx_ofW {y : MethodName} {ws ws' : List Cond} {rm : Room} {Pc : Array Value → State → Prop} {Qc : Array Value → State → Outcome → State → Prop} {XC : String → State → State → Prop} {mc ms : Nat} {free : Addr → Prop} {cc : ByteArray} {maxL : Nat} {ret : Option FieldType}
    (hy : plainName y.cls = true) (hw : ws = Cond.code y cc maxL ret :: ws')
    (body : ∀ p e s m args below meth c s₁, BodyLoose p l y (headSpec ws rm) cc maxL ret e s m args below meth c s₁ → c.maxLocals = maxL → (∀ x ∈ c.exceptionTable.toList, False) → Pc args s →
      W p l e (headSpec ws rm).room s m args below meth c s.heap [] 0 0 (vx_MQ below Qc XC args s mc ms free) (entryFrame m args maxL)) : vx_Met l y ws rm Pc Qc XC mc ms free := by
  refine MetFree.of_bodyS (code := cc) (maxLocals := maxL) (ret := ret) hy ?_ ?_
  · intro args s m h hn
    obtain ⟨meth, c, h1, h2, h3, h4, h5, h6, -, -⟩ := Cond.code_spec hn (atoms_spec (ws := ws) h _ (by rw [hw]; exact List.mem_cons_self))
    exact ⟨meth, c, h1, h2, h3, h4, h5, h6⟩
  · intro p e s m args below meth c s₁ B hml hP _
    have hh0 : s₁.heap = s.heap := by rw [B.state]; rfl
    have ht : ∀ x ∈ c.exceptionTable.toList, False := by
      obtain ⟨meth9, c9, h1, h2, -, -, -, -, h7, -⟩ := Cond.code_spec B.named (atoms_spec (ws := ws) B.pre _ (by rw [hw]; exact List.mem_cons_self))
      cases Option.some.inj (h1.symm.trans B.method)
      cases Option.some.inj (h2.symm.trans (Stand.of_body B).code)
      intro x hx
      rw [Array.isEmpty_iff.mp h7] at hx
      cases hx
    obtain ⟨t, a1, o, b1, b2, b3⟩ := body p e s m args below meth c s₁ B hml ht hP s₁ hh0 (Stand.of_body B)
    exact ⟨t, o, a1, b1, b2, b3⟩
/-- the table of a body with handlers -/
theorem vx_table {p : Program} {x y : MethodName} {S : Spec} {cc bytes : ByteArray} {maxL maxL' : Nat} {ret ret' : Option FieldType} {e : Env} {s s₁ : State} {m : MethodId} {args : Array Value} {below : List Frame} {meth : Method} {c : Code} {hh : List (Nat × Nat × Nat × Nat)}
    (B : BodyLoose p l y S cc maxL ret e s m args below meth c s₁) (h : (Cond.codeWith y bytes maxL' ret' hh).before args s = true) : c.exceptionTable.toList = tableOf hh := by
  obtain ⟨m9, meth9, c9, hn9, h1, h2, -, -, h6, -⟩ := Cond.codeWith_spec h
  cases Option.some.inj (hn9.symm.trans B.named)
  cases Option.some.inj (h1.symm.trans B.method)
  cases Option.some.inj (h2.symm.trans (Stand.of_body B).code)
  rw [← h6, table_eq]
end Bodies
end VXA
/-! ===== END ===== -/
/-! ===== BEGIN a static call of a method with an exception table ===== -/
section VXS
variable {p : Program} {l : Launch} {e : Env} {R : Room} {s : State} {m : MethodId} {args : Array Value} {below : List Frame} {meth : Method} {c : Code} {T : State} {H : Heap} {locs : List Loc} {cells slots : Nat}
abbrev vx_CSW (R : Room) (s : State) (args : Array Value) (own : String) (index : Nat) (y : MethodName) (bytes : ByteArray) (maxL : Nat) (ret : Option FieldType) (hh : List (Nat × Nat × Nat × Nat)) (ws : List Cond) (rm : Room) (mc ms n : Nat) : Prop :=
  (rm.cells = mc ∧ rm.slots = ms ∧ rm.frames + 1 ≤ R.frames ∧ 8 + (maxL + 11) + rm.locals ≤ R.locals ∧ (∀ w ∈ ws, ∀ (a' : Array Value) (U : State), s.WarmedH U.vm → w.before a' U = true) ∧ Cond.codeWith y bytes maxL ret hh ∈ ws) ∧
  (Cond.codeWith y bytes maxL ret hh).before args s = true ∧ (Cond.initialized y.cls).before args s = true ∧ (y.cls ≠ "java/lang/invoke/MethodHandle" ∧ y.cls ≠ "java/lang/invoke/VarHandle") ∧
  (∀ sig, parseMethodDescriptor y.desc = some sig → n = sig.parameters.length) ∧ (Cond.methodLink own index y).before args s = true ∧ (Cond.static y).before args s = true
theorem vx_cwSW {own : String} {index maxL mc ms : Nat} {y : MethodName} {bytes : ByteArray} {ret : Option FieldType} {hh : List (Nat × Nat × Nat × Nat)} {Ts ws ws' : List Cond} {rm : Room} (n : Nat) (ht : ∀ w ∈ Ts, w.before args s = true) (hT : GoodIn Ts (va_wsS own index y ws)) (hw : ws = Cond.codeWith y bytes maxL ret hh :: ws') (hrc : rm.cells = mc) (hrs : rm.slots = ms)
    (hd : y.cls ≠ "java/lang/invoke/MethodHandle" ∧ y.cls ≠ "java/lang/invoke/VarHandle" ∧ (parseMethodDescriptor y.desc).map (fun d => d.parameters.length) = some n) (hR : rm.frames + 1 ≤ R.frames ∧ 8 + (maxL + 11) + rm.locals ≤ R.locals) :
    vx_CSW R s args own index y bytes maxL ret hh ws rm mc ms n := by
  have ok : ∀ w ∈ va_wsS own index y ws, w.before args s = true := fun w h => ht w (hT w h).1
  have hG : GoodIn Ts ws := fun w h => hT w (by unfold va_wsS; exact List.mem_append_right _ h)
  have hc : Cond.codeWith y bytes maxL ret hh ∈ ws := by rw [hw]; exact List.mem_cons_self
  refine ⟨⟨hrc, hrs, hR.1, hR.2, pay_in ht hG, hc⟩, ht _ (hG _ hc).1, ok _ (by simp [va_wsS]), ⟨hd.1, hd.2.1⟩, fun sig h => ?_, ok _ (by simp [va_wsS]), ok _ (by simp [va_wsS])⟩
  have h2 := hd.2.2
  rw [h] at h2
  exact (Option.some.inj h2).symm
theorem vx_callSW (X : Stand p l e R s m args below meth c T locs cells slots) (hexec : p.tables.exec = Jvm.exec) {own : String} {index : Nat} {y : MethodName} {bytes : ByteArray} {maxL : Nat} {ret : Option FieldType} {hh : List (Nat × Nat × Nat × Nat)}
    (hown : s.vm.findClass own = some m.cls) (hlink : (Cond.methodLink own index y).before args s = true) (hstat : (Cond.static y).before args s = true) (hinit : (Cond.initialized y.cls).before args s = true)
    (hcode : (Cond.codeWith y bytes maxL ret hh).before args s = true) (hy : y.cls ≠ "java/lang/invoke/MethodHandle" ∧ y.cls ≠ "java/lang/invoke/VarHandle")
    {W9 : Nat} {Pre : Pt → Array Value → Prop} {Post : Pt → Array Value → Option Value → Pt → Prop} (hK : Back l R p e below s args y 3 W9 Pre Post)
    {g : JFrame} (hg : g.method = m) (hsize : g.locals.size = c.maxLocals) {argsL rest : List Value} (hlen : ∀ sig, parseMethodDescriptor y.desc = some sig → argsL.length = sig.parameters.length)
    (hstack : g.stack = argsL.reverse ++ rest) (hW : 2 * g.monitorRoom + (rest.map fun v => v.category).sum ≤ W9) (hdg : decode c.code g.pc = .ok (.invokestatic index, 3))
    (hpre : ∀ vm₁, s.WarmedH vm₁ → Pre ⟨T.setVm vm₁, locs, cells, slots⟩ argsL.toArray) :
    ∃ (v : Option Value) (vm₁ : Vm) (B : Pt), s.WarmedH vm₁ ∧ Stand p l e R s m args below meth c B.U B.locs B.cells B.slots ∧ Post ⟨T.setVm vm₁, locs, cells, slots⟩ argsL.toArray v B ∧
      ∀ target, Steps p.tables e below (B.U.setTop { g with pc := g.pc + 3, stack := v.toList ++ rest }) target → Steps p.tables e below (T.setTop g) target := by
  obtain ⟨mk, methM, cM, hnamed, hmethM, -, -, -, -, -, -, hsigM⟩ := Cond.codeWith_spec hcode
  have hstatic : methM.isStatic = true := Cond.static_spec hnamed hmethM hstat
  obtain ⟨kP, hkP, -⟩ := className_of_methodNamed hnamed
  have hinitP : kP.init = .initialized := Cond.initialized_spec (findClass_of_methodNamed hnamed) hkP hinit
  obtain ⟨vm₁, X₁, hstep₁⟩ := X.invokestatic hexec hown hlink hnamed hmethM hstatic hkP hinitP hy (g := g) hg (argsL := argsL) (rest := rest) (hlen _ hsigM) hstack hdg
  obtain ⟨v, B, X', hpost, hsteps⟩ := hK m meth c ⟨T.setVm vm₁, locs, cells, slots⟩ { g with stack := rest } (.invokestatic index) mk argsL.toArray X₁ hg hsize hdg hW (X₁.named hnamed) (hpre vm₁ X₁.warmed)
  exact ⟨v, vm₁, B, X₁.warmed, X', hpost, fun target h => hstep₁ _ fun acts => by rw [doInvoke_state]; exact hsteps.trans h⟩
theorem vx_runSW {y : MethodName} {bytes cc : ByteArray} {maxL nL mc ms n index : Nat} {ret : Option FieldType} {hh : List (Nat × Nat × Nat × Nat)} {ws : List Cond} {rm : Room} {Pc : Array Value → State → Prop} {Qc : Array Value → State → Outcome → State → Prop} {free : Addr → Prop} {Ts : List Cond} {own : String} {As rest : List Value} {g : JFrame}
    (S : CallFix p m c cc nL s args Ts own) (hM : Met l y ws rm Pc Qc mc ms free) (cw : vx_CSW R s args own index y bytes maxL ret hh ws rm mc ms n) (hp : PreS s H Pc As)
    (hg : g.method = m) (hn : As.length = n) (hsize : g.locals.size = nL) (hstack : g.stack = As.reverse ++ rest) (hW : 2 * g.monitorRoom + (rest.map fun v => v.category).sum ≤ 8) (hdg : decode cc g.pc = .ok (.invokestatic index, 3)) (hf : cells + mc ≤ R.cells ∧ slots + ms ≤ R.slots) :
    va_Run p l e R s m args below meth c H locs cells slots mc ms g rest (Qc As.toArray) (free) := by
  obtain ⟨⟨hrc, hrs, hfr, hlo, hws, hcw⟩, hcode, hini, hy, hlen, hl, hstt⟩ := cw
  have hK : Back l R p e below s args y 3 8 (PreOf R mc ms Pc) (PostOf Qc mc ms free) := va_backW (hh := hh) (bytes := bytes) (maxL := maxL) (ret := ret) hM hp.1 hrc hrs hfr hlo hws hcw (fun a' U hW => word_at hW (Or.inl (by first | rfl | simp [Cond.onTables, Cond.keeps, Cond.steady])) hini)
  obtain ⟨hx, hb, hml, ho, -⟩ := S
  intro T hT X
  obtain ⟨v, vm₁, ⟨U', l2, c2, s2⟩, hW₁, X', ⟨g', mk, t, L, e1, e2, hq, h1, hL, h2, h3⟩, st⟩ := vx_callSW X hx (hh := hh) (bytes := bytes) (maxL := maxL) (ret := ret) ho hl hstt hini hcode hy hK hg (hsize.trans hml.symm) (argsL := As) (rest := rest) (fun sig h => hn.trans (hlen sig h)) hstack hW (by rw [hb]; exact hdg)
    (fun vm₁ hW₁ => ⟨hf.1, hf.2, hp.2 (T.setVm vm₁) hT hW₁⟩)
  dsimp only [Pt.U, Pt.locs, Pt.cells, Pt.slots] at X' e1 e2 h1 h2 h3 st
  subst h1; subst h2; subst h3
  exact ⟨v, (T.setVm vm₁).calling g' mk As.toArray, t, U', L, hT, X', hL, e1, e2, hq, st⟩
/-- not caught here, past rows that name other classes: it goes on to the caller -/
theorem vx_outP {p : Program} {l : Launch} {e : Env} {R : Room} {s : State} {m : MethodId} {args : Array Value} {below : List Frame} {meth : Method} {c : Code} {H : Heap} {locs : List Loc} {cells slots : Nat} {free : Addr → Prop} {ls : Array Slot} {rest : List Value} {Qc : Array Value → State → Outcome → State → Prop} {XC : String → State → State → Prop}
    {pc : Nat} {own E : String} {ce : Cell} {q : Addr} {mc ms : Nat} (hown : s.vm.findClass own = some m.cls) (hlocks : meth.locks = false)
    (hpass : ∀ z ∈ c.exceptionTable.toList, covers z pc = false ∨ (z.catchType ≠ 0 ∧ ∃ nm : String, (Cond.classLink own z.catchType nm).before args s = true ∧ va_Nc E nm s)) (hcell : H[q]? = some ce) (hv : ce.vm = .none) (hcl : s.vm.findClass E = some ce.cls)
    (hx : ∀ t : State, t.heap = H → s.vm.Alike t.vm → XC E s t) (hf : ∀ z ∈ locs, free z.base) (hc : cells ≤ mc) (hs : slots ≤ ms) :
    vx_W p l e R s m args below meth c H locs cells slots (vx_MQ below Qc XC args s mc ms free) (F0 m pc ls rest) q := by
  intro T hT X
  have hpl : e.platform.magicAccessors = ({} : Platform).magicAccessors := by rw [X.admits.platform]
  obtain ⟨vm', hW', X', st⟩ := X.outThrough hlocks q (g := F0 m pc ls rest) rfl rfl rfl (cell := ce) (by rw [hT]; exact hcell) (by rw [hv]; rfl)
    (by obtain ⟨k9, h9, -⟩ := Vm.findClass_spec hcl; exact ⟨k9, h9⟩) (fun z hz => by
      rcases hpass z hz with h | ⟨hz0, nm, hl1, hn1⟩
      · exact Or.inl h
      · obtain ⟨c6, hc6, hcl6⟩ := Cond.classLink_spec hown hl1 e.platform hpl
        obtain ⟨a8, b8, h1, h2, h3⟩ := hn1
        cases Option.some.inj (h1.symm.trans hcl)
        cases Option.some.inj (h2.symm.trans hc6)
        exact Or.inr ⟨hz0, _, hcl6, h3⟩)
  obtain ⟨g₀, hfr⟩ := X'.frames_eq
  have hcell9 : ((T.setVm vm').setFrames (.throwing q :: below)).heap[q]? = some ce := by
    show T.heap[q]? = some ce
    rw [hT]; exact hcell
  have hend : Ended ((T.setVm vm').setFrames (.throwing q :: below)) below (.threw q) := State.frames_setFrames _ (State.cur_lt_of_frames hfr)
  refine ⟨(T.setVm vm').setFrames (.throwing q :: below), ?_, .threw q, X'.here.running, hend, Or.inr ⟨q, rfl, E, ce, locs, hx _ hT (X'.ends _).1.alike, hcell9, hv, hcl, (X'.ends _).1, (X'.ends _).2.mono hc hs, hf⟩⟩
  rw [X.pushThrowing_eq]
  exact st
/-- a thing of a world lies in the heap -/
theorem vx_lt {D : va_G} {cl : List vw_C} {ws : va_W} {H1 : Heap} (h : va_P D cl ws H1) {k : Nat} {q : Nat × va_E} (hk : ws[k]? = some q) : q.1 < H1.size := (h k q hk).lt
end VXS
/-! ===== END ===== -/
/-! ===== BEGIN methods with a table of their own: called by a name, returning or throwing ===== -/
section VXH
/-! vx_backW, vx_callVX, vx_callSX, vx_callVW, vx_runVW, vx_runVX, vx_runSX, vx_ofWH follow the same proofs as their sisters above (Free/Laws.lean, Shelf42/LK1.lean); vx_outP calls Shelf42/NT130.lean (outThrough). -/
section
variable {l : Launch} {R : Room} {p : Program} {e : Env} {below : List Frame} {s : State} {sargs : Array Value} {y : MethodName} {len W9 : Nat}
theorem vx_backW {ws : List Cond} {rm : Room} {Pc : Array Value → State → Prop} {Qc : Array Value → State → Outcome → State → Prop} {XC : String → State → State → Prop} {mc ms : Nat} {free : Addr → Prop} {bytes : ByteArray} {maxL : Nat} {ret : Option FieldType} {hh : List (Nat × Nat × Nat × Nat)}
    (hM : vx_Met l y ws rm Pc Qc XC mc ms free) (hblind : FrameBlind Pc) (hrc : rm.cells = mc) (hrs : rm.slots = ms)
    (hframes : rm.frames + 1 ≤ R.frames) (hlocals : W9 + (maxL + 11) + rm.locals ≤ R.locals)
    (hws : ∀ w ∈ ws, ∀ a' U, s.WarmedH U.vm → w.before a' U = true) (hcode : Cond.codeWith y bytes maxL ret hh ∈ ws) (hinit : ∀ a' U, s.WarmedH U.vm → (Cond.initialized y.cls).before a' U = true) :
    vx_Back l R p e below s sargs y len W9 (PreOf R mc ms Pc) (PostOf Qc mc ms free) (vx_Post XC mc ms free) := by
  intro m meth c A g ig mk a X hg hsize hdg hW hn hp
  have h1 : (headSpec ws rm).pre.before a A.U = true := atoms_intro fun w hw => hws w hw _ _ X.warmed
  have h2 : (Cond.codeWith y bytes maxL ret hh).before a A.U = true := hws _ hcode _ _ X.warmed
  have h3 : (Cond.initialized y.cls).before a A.U = true := hinit _ _ X.warmed
  have h4 : A.cells + (headSpec ws rm).room.cells ≤ R.cells := by rw [show (headSpec ws rm).room.cells = mc from hrc]; exact hp.1
  have h5 : A.slots + (headSpec ws rm).room.slots ≤ R.slots := by rw [show (headSpec ws rm).room.slots = ms from hrs]; exact hp.2.1
  have hPc : Pc a (A.U.calling g mk a) := hblind _ _ _ _ hp.2.2
  obtain ⟨U, Ls, c0, s0⟩ := A
  dsimp only [Pt.U, Pt.locs, Pt.cells, Pt.slots] at h1 h2 h3 h4 h5 X hn hPc ⊢
  obtain ⟨m9, methY, cY, hn9, hmY, hcY, -, hlY, -⟩ := Cond.codeWith_spec h2
  cases Option.some.inj (hn9.symm.trans hn)
  obtain ⟨kY, hkY, -⟩ := className_of_methodNamed hn
  have hinitY : kY.init = .initialized := Cond.initialized_spec (findClass_of_methodNamed hn) hkY h3
  have h : At U g.method c below := by rw [hg]; exact X.here
  have hlocals9 : W9 + (maxL + 11) + (headSpec ws rm).room.locals ≤ R.locals := hlocals
  have happ : (headSpec ws rm).appliesLoose y e.platform (U.calling g mk a) = true :=
    Spec.appliesLoose_calling (g := g) h hdg hn hkY hinitY
      (X.room_calling (g := g) (R' := (headSpec ws rm).room) hsize hmY hcY hframes (by rw [hlY]; omega) h4 h5) h1
  obtain ⟨mid, hmid⟩ := h.above
  have hfr : (U.setTop g).frames = (.java g :: mid) ++ below := by rw [State.frames_setTop' g h.top, hmid]; rfl
  obtain ⟨o, s₂, hsteps, -, hend, hq⟩ := Steps.callFree hM p X.admits X.cas X.clock (acts := []) hfr happ hPc trivial
  have hq' : vx_Q Qc XC mc ms free a (U.calling g mk a) o s₂ := hq
  rw [State.frames_setTop' g h.top] at hend
  obtain ⟨g₀, hg0⟩ := Option.isSome_iff_exists.mp h.top
  obtain ⟨r, hr⟩ := State.topJava?_eq_some.mp hg0
  have hr' : (({ U with heap := s₂.heap, slotsUsed := s₂.slotsUsed } : State).setVm s₂.vm).frames = .java g₀ :: r := hr
  rcases hq' with ⟨hqc, L, hfe, hL⟩ | ⟨q, rfl, E, ce, L, hx, hce, hcv, hcl, hW₂, hsm, hL⟩
  · obtain ⟨⟨v, rfl⟩, hW₂, e2, q2, q3, q4, q5, q6⟩ := id hfe
    have e3 : s₂ = ({ (U.calling g mk a).setFrames s₂.frames with heap := s₂.heap, slotsUsed := s₂.slotsUsed } : State).setVm s₂.vm := by
      have : s₂ = ({ s₂ with vm := (U.calling g mk a).vm } : State).setVm s₂.vm := rfl
      rw [e2] at this
      exact this
    obtain ⟨c₂, i₂, len₂, hc₂, hd₂, hf₂⟩ := hend
    have hW' : U.WarmedH s₂.vm := hW₂
    have hcc : c₂ = c := by
      have h1 : s₂.code? g.method = U.code? g.method := by
        rw [State.code?_eq, State.code?_eq, hW'.alike.method?]
      exact Option.some.inj (hc₂.symm.trans (h1.trans h.code))
    subst hcc
    have hlen : len₂ = len := by rw [hdg] at hd₂; cases hd₂; rfl
    subst hlen
    have hs₂ : s₂ = (({ U with heap := s₂.heap, slotsUsed := s₂.slotsUsed } : State).setVm s₂.vm).setTop { g with pc := g.pc + len₂, stack := v.toList ++ g.stack } := by
      refine e3.trans ?_
      rw [hf₂, State.calling_eq h.top, State.setFrames_setFrames, State.setTop_of_frames _ hr', hr]
      rfl
    have hsame : U.sameButNew ({ U with heap := s₂.heap, slotsUsed := s₂.slotsUsed } : State) L mc ms := by
      refine ⟨?_, q2, q3, q4, q5, q6⟩
      obtain ⟨t, ht, -⟩ := State.frames_cons hr
      show ({ U with heap := s₂.heap, slotsUsed := s₂.slotsUsed } : State) = { U.setFrames U.frames with heap := s₂.heap, slotsUsed := s₂.slotsUsed }
      rw [State.setFrames_self ht]
    subst hg
    refine Or.inl ⟨v, ⟨(({ U with heap := s₂.heap, slotsUsed := s₂.slotsUsed } : State).setVm s₂.vm), Ls ++ L, c0 + mc, s0 + ms⟩,
      ⟨X.admits, X.cas, X.clock, X.frames, X.room, X.hears, X.method, X.code, (X.here.setHeapUsed s₂.heap s₂.slotsUsed).setVm hW'.alike, X.tail, State.WarmedH.trans X.warmed hW', X.limits, X.bytes, X.same.trans (hsame.setVm s.vm)⟩,
      ⟨g, mk, s₂, L, rfl, rfl, hqc, rfl, hL, rfl, rfl⟩, ?_⟩
    show Steps p.tables e below _ ((({ U with heap := s₂.heap, slotsUsed := s₂.slotsUsed } : State).setVm s₂.vm).setTop { g with pc := g.pc + len₂, stack := v.toList ++ g.stack })
    rw [← hs₂]
    exact hsteps
  · obtain ⟨e2, q2, q3, q4, q5, q6⟩ := id hsm
    have e3 : s₂ = ({ (U.calling g mk a).setFrames s₂.frames with heap := s₂.heap, slotsUsed := s₂.slotsUsed } : State).setVm s₂.vm := by
      have : s₂ = ({ s₂ with vm := (U.calling g mk a).vm } : State).setVm s₂.vm := rfl
      rw [e2] at this
      exact this
    have hf₂ : s₂.frames = .throwing q :: .java g :: U.frames.tail := hend
    have hW' : U.WarmedH s₂.vm := hW₂
    have hs₂ : s₂ = ((({ U with heap := s₂.heap, slotsUsed := s₂.slotsUsed } : State).setVm s₂.vm).setTop g).pushFrame (.throwing q) := by
      refine e3.trans ?_
      rw [hf₂, State.calling_eq h.top, State.setFrames_setFrames, State.pushFrame, State.frames_setTop _ hr', State.setTop_of_frames _ hr', State.setFrames_setFrames, hr]
      rfl
    have hsame : U.sameButNew ({ U with heap := s₂.heap, slotsUsed := s₂.slotsUsed } : State) L mc ms := by
      refine ⟨?_, q2, q3, q4, q5, q6⟩
      obtain ⟨t, ht, -⟩ := State.frames_cons hr
      show ({ U with heap := s₂.heap, slotsUsed := s₂.slotsUsed } : State) = { U.setFrames U.frames with heap := s₂.heap, slotsUsed := s₂.slotsUsed }
      rw [State.setFrames_self ht]
    subst hg
    refine Or.inr ⟨q, ⟨(({ U with heap := s₂.heap, slotsUsed := s₂.slotsUsed } : State).setVm s₂.vm), Ls ++ L, c0 + mc, s0 + ms⟩,
      ⟨X.admits, X.cas, X.clock, X.frames, X.room, X.hears, X.method, X.code, (X.here.setHeapUsed s₂.heap s₂.slotsUsed).setVm hW'.alike, X.tail, State.WarmedH.trans X.warmed hW', X.limits, X.bytes, X.same.trans (hsame.setVm s.vm)⟩,
      ⟨g, mk, s₂, L, E, ce, rfl, rfl, hx, hce, hcv, hcl, rfl, hL, rfl, rfl⟩, ?_⟩
    show Steps p.tables e below _ (((({ U with heap := s₂.heap, slotsUsed := s₂.slotsUsed } : State).setVm s₂.vm).setTop g).pushFrame (.throwing q))
    rw [← hs₂]
    exact hsteps
end
variable {p : Program} {l : Launch} {e : Env} {R : Room} {s : State} {m : MethodId} {args : Array Value} {below : List Frame} {meth : Method} {c : Code} {T : State} {H : Heap} {locs : List Loc} {cells slots : Nat}
theorem vx_callVX (X : Stand p l e R s m args below meth c T locs cells slots) (hexec : p.tables.exec = Jvm.exec) {own C : String} {index : Nat} {y : MethodName} {bytes : ByteArray} {maxL : Nat} {ret : Option FieldType} {hh : List (Nat × Nat × Nat × Nat)}
    (hown : s.vm.findClass own = some m.cls) (hlink : (Cond.methodLink own index y).before args s = true) (hinst : (Cond.instanceMethod y).before args s = true) (hsel : (Cond.selects C y y).before args s = true)
    (hcode : (Cond.codeWith y bytes maxL ret hh).before args s = true) (hy : y.cls ≠ "java/lang/invoke/MethodHandle" ∧ y.cls ≠ "java/lang/invoke/VarHandle")
    {W9 : Nat} {Pre : Pt → Array Value → Prop} {Post : Pt → Array Value → Option Value → Pt → Prop} {PostX : Pt → Array Value → Addr → Pt → Prop} (hK : vx_Back l R p e below s args y 3 W9 Pre Post PostX)
    {b : Addr} {cellB : Cell} (hcell : T.heap[b]? = some cellB) (hobj : cellB.vm.isStatics = false) (hcls : s.vm.findClass C = some cellB.cls)
    {g : JFrame} (hg : g.method = m) (hsize : g.locals.size = c.maxLocals) {argsL rest : List Value} (hlen : ∀ sig, parseMethodDescriptor y.desc = some sig → argsL.length = sig.parameters.length)
    (hstack : g.stack = argsL.reverse ++ .ref b :: rest) (hW : 2 * g.monitorRoom + (rest.map fun v => v.category).sum ≤ W9) (hdg : decode c.code g.pc = .ok (.invokevirtual index, 3))
    (hpre : ∀ vm₁, s.WarmedH vm₁ → Pre ⟨T.setVm vm₁, locs, cells, slots⟩ (Value.ref b :: argsL).toArray) :
    (∃ (v : Option Value) (vm₁ : Vm) (B : Pt), s.WarmedH vm₁ ∧ Stand p l e R s m args below meth c B.U B.locs B.cells B.slots ∧ Post ⟨T.setVm vm₁, locs, cells, slots⟩ (Value.ref b :: argsL).toArray v B ∧
      ∀ target, Steps p.tables e below (B.U.setTop { g with pc := g.pc + 3, stack := v.toList ++ rest }) target → Steps p.tables e below (T.setTop g) target) ∨
    (∃ (q : Addr) (vm₁ : Vm) (B : Pt), s.WarmedH vm₁ ∧ Stand p l e R s m args below meth c B.U B.locs B.cells B.slots ∧ PostX ⟨T.setVm vm₁, locs, cells, slots⟩ (Value.ref b :: argsL).toArray q B ∧
      Steps p.tables e below (T.setTop g) ((B.U.setTop { g with stack := rest }).pushFrame (.throwing q))) := by
  obtain ⟨mk, methM, hnamed, hmethM, hstM, habM⟩ := Cond.instanceMethod_spec hinst
  obtain ⟨m8, methM', cM, hn8, hmethM', -, -, -, -, -, -, hsigM⟩ := Cond.codeWith_spec hcode
  cases Option.some.inj (hn8.symm.trans hnamed)
  cases hmethM.symm.trans hmethM'
  obtain ⟨c2, r2, m2, q1, q2, q3, q4, kP, hkP, hkPi⟩ := Cond.selects_spec hsel
  cases hcls.symm.trans q1
  cases (State.methodFound?_of_named hnamed hy).symm.trans q2
  cases hnamed.symm.trans q3
  have hselP : selectMethod e.platform s.vm cellB.cls mk = .method mk := by rw [Launch.admits_selectMethod X.admits]; exact q4
  obtain ⟨vm₁, X₁, hstep₁⟩ := X.invokevirtual hexec hown hlink hnamed hmethM hstM hkP hkPi hy (a := b) (cell := cellB) hcell
    (fun z h => by rw [h] at hobj; cases hobj) hselP hmethM habM hkP hkPi (g := g) hg (argsL := argsL) (rest := rest) (hlen _ hsigM) hstack hdg
  rcases hK m meth c ⟨T.setVm vm₁, locs, cells, slots⟩ { g with stack := rest } (.invokevirtual index) mk (Value.ref b :: argsL).toArray X₁ hg hsize hdg hW (X₁.named hnamed) (hpre vm₁ X₁.warmed) with ⟨v, B, X', hpost, hsteps⟩ | ⟨q, B, X', hpost, hsteps⟩
  · exact Or.inl ⟨v, vm₁, B, X₁.warmed, X', hpost, fun target h => hstep₁ _ fun acts => by rw [doInvoke_state]; exact hsteps.trans h⟩
  · exact Or.inr ⟨q, vm₁, B, X₁.warmed, X', hpost, hstep₁ _ fun acts => by rw [doInvoke_state]; exact hsteps⟩
theorem vx_callSX (X : Stand p l e R s m args below meth c T locs cells slots) (hexec : p.tables.exec = Jvm.exec) {own : String} {index : Nat} {y : MethodName} {bytes : ByteArray} {maxL : Nat} {ret : Option FieldType} {hh : List (Nat × Nat × Nat × Nat)}
    (hown : s.vm.findClass own = some m.cls) (hlink : (Cond.methodLink own index y).before args s = true) (hstat : (Cond.static y).before args s = true) (hinit : (Cond.initialized y.cls).before args s = true)
    (hcode : (Cond.codeWith y bytes maxL ret hh).before args s = true) (hy : y.cls ≠ "java/lang/invoke/MethodHandle" ∧ y.cls ≠ "java/lang/invoke/VarHandle")
    {W9 : Nat} {Pre : Pt → Array Value → Prop} {Post : Pt → Array Value → Option Value → Pt → Prop} {PostX : Pt → Array Value → Addr → Pt → Prop} (hK : vx_Back l R p e below s args y 3 W9 Pre Post PostX)
    {g : JFrame} (hg : g.method = m) (hsize : g.locals.size = c.maxLocals) {argsL rest : List Value} (hlen : ∀ sig, parseMethodDescriptor y.desc = some sig → argsL.length = sig.parameters.length)
    (hstack : g.stack = argsL.reverse ++ rest) (hW : 2 * g.monitorRoom + (rest.map fun v => v.category).sum ≤ W9) (hdg : decode c.code g.pc = .ok (.invokestatic index, 3))
    (hpre : ∀ vm₁, s.WarmedH vm₁ → Pre ⟨T.setVm vm₁, locs, cells, slots⟩ argsL.toArray) :
    (∃ (v : Option Value) (vm₁ : Vm) (B : Pt), s.WarmedH vm₁ ∧ Stand p l e R s m args below meth c B.U B.locs B.cells B.slots ∧ Post ⟨T.setVm vm₁, locs, cells, slots⟩ argsL.toArray v B ∧
      ∀ target, Steps p.tables e below (B.U.setTop { g with pc := g.pc + 3, stack := v.toList ++ rest }) target → Steps p.tables e below (T.setTop g) target) ∨
    (∃ (q : Addr) (vm₁ : Vm) (B : Pt), s.WarmedH vm₁ ∧ Stand p l e R s m args below meth c B.U B.locs B.cells B.slots ∧ PostX ⟨T.setVm vm₁, locs, cells, slots⟩ argsL.toArray q B ∧
      Steps p.tables e below (T.setTop g) ((B.U.setTop { g with stack := rest }).pushFrame (.throwing q))) := by
  obtain ⟨mk, methM, cM, hnamed, hmethM, -, -, -, -, -, -, hsigM⟩ := Cond.codeWith_spec hcode
  have hstatic : methM.isStatic = true := Cond.static_spec hnamed hmethM hstat
  obtain ⟨kP, hkP, -⟩ := className_of_methodNamed hnamed
  have hinitP : kP.init = .initialized := Cond.initialized_spec (findClass_of_methodNamed hnamed) hkP hinit
  obtain ⟨vm₁, X₁, hstep₁⟩ := X.invokestatic hexec hown hlink hnamed hmethM hstatic hkP hinitP hy (g := g) hg (argsL := argsL) (rest := rest) (hlen _ hsigM) hstack hdg
  rcases hK m meth c ⟨T.setVm vm₁, locs, cells, slots⟩ { g with stack := rest } (.invokestatic index) mk argsL.toArray X₁ hg hsize hdg hW (X₁.named hnamed) (hpre vm₁ X₁.warmed) with ⟨v, B, X', hpost, hsteps⟩ | ⟨q, B, X', hpost, hsteps⟩
  · exact Or.inl ⟨v, vm₁, B, X₁.warmed, X', hpost, fun target h => hstep₁ _ fun acts => by rw [doInvoke_state]; exact hsteps.trans h⟩
  · exact Or.inr ⟨q, vm₁, B, X₁.warmed, X', hpost, hstep₁ _ fun acts => by rw [doInvoke_state]; exact hsteps⟩
theorem vx_callVW (X : Stand p l e R s m args below meth c T locs cells slots) (hexec : p.tables.exec = Jvm.exec) {own C : String} {index : Nat} {y : MethodName} {bytes : ByteArray} {maxL : Nat} {ret : Option FieldType} {hh : List (Nat × Nat × Nat × Nat)}
    (hown : s.vm.findClass own = some m.cls) (hlink : (Cond.methodLink own index y).before args s = true) (hinst : (Cond.instanceMethod y).before args s = true) (hsel : (Cond.selects C y y).before args s = true)
    (hcode : (Cond.codeWith y bytes maxL ret hh).before args s = true) (hy : y.cls ≠ "java/lang/invoke/MethodHandle" ∧ y.cls ≠ "java/lang/invoke/VarHandle")
    {W9 : Nat} {Pre : Pt → Array Value → Prop} {Post : Pt → Array Value → Option Value → Pt → Prop} (hK : Back l R p e below s args y 3 W9 Pre Post)
    {b : Addr} {cellB : Cell} (hcell : T.heap[b]? = some cellB) (hobj : cellB.vm.isStatics = false) (hcls : s.vm.findClass C = some cellB.cls)
    {g : JFrame} (hg : g.method = m) (hsize : g.locals.size = c.maxLocals) {argsL rest : List Value} (hlen : ∀ sig, parseMethodDescriptor y.desc = some sig → argsL.length = sig.parameters.length)
    (hstack : g.stack = argsL.reverse ++ .ref b :: rest) (hW : 2 * g.monitorRoom + (rest.map fun v => v.category).sum ≤ W9) (hdg : decode c.code g.pc = .ok (.invokevirtual index, 3))
    (hpre : ∀ vm₁, s.WarmedH vm₁ → Pre ⟨T.setVm vm₁, locs, cells, slots⟩ (Value.ref b :: argsL).toArray) :
    ∃ (v : Option Value) (vm₁ : Vm) (B : Pt), s.WarmedH vm₁ ∧ Stand p l e R s m args below meth c B.U B.locs B.cells B.slots ∧ Post ⟨T.setVm vm₁, locs, cells, slots⟩ (Value.ref b :: argsL).toArray v B ∧
      ∀ target, Steps p.tables e below (B.U.setTop { g with pc := g.pc + 3, stack := v.toList ++ rest }) target → Steps p.tables e below (T.setTop g) target := by
  obtain ⟨mk, methM, hnamed, hmethM, hstM, habM⟩ := Cond.instanceMethod_spec hinst
  obtain ⟨m8, methM', cM, hn8, hmethM', -, -, -, -, -, -, hsigM⟩ := Cond.codeWith_spec hcode
  cases Option.some.inj (hn8.symm.trans hnamed)
  cases hmethM.symm.trans hmethM'
  obtain ⟨c2, r2, m2, q1, q2, q3, q4, kP, hkP, hkPi⟩ := Cond.selects_spec hsel
  cases hcls.symm.trans q1
  cases (State.methodFound?_of_named hnamed hy).symm.trans q2
  cases hnamed.symm.trans q3
  have hselP : selectMethod e.platform s.vm cellB.cls mk = .method mk := by rw [Launch.admits_selectMethod X.admits]; exact q4
  obtain ⟨vm₁, X₁, hstep₁⟩ := X.invokevirtual hexec hown hlink hnamed hmethM hstM hkP hkPi hy (a := b) (cell := cellB) hcell
    (fun z h => by rw [h] at hobj; cases hobj) hselP hmethM habM hkP hkPi (g := g) hg (argsL := argsL) (rest := rest) (hlen _ hsigM) hstack hdg
  obtain ⟨v, B, X', hpost, hsteps⟩ := hK m meth c ⟨T.setVm vm₁, locs, cells, slots⟩ { g with stack := rest } (.invokevirtual index) mk (Value.ref b :: argsL).toArray X₁ hg hsize hdg hW (X₁.named hnamed) (hpre vm₁ X₁.warmed)
  exact ⟨v, vm₁, B, X₁.warmed, X', hpost, fun target h => hstep₁ _ fun acts => by rw [doInvoke_state]; exact hsteps.trans h⟩
abbrev vx_CVW (R : Room) (s : State) (args : Array Value) (own C : String) (index : Nat) (y : MethodName) (bytes : ByteArray) (maxL : Nat) (ret : Option FieldType) (hh : List (Nat × Nat × Nat × Nat)) (ws : List Cond) (rm : Room) (mc ms n : Nat) : Prop :=
  (rm.cells = mc ∧ rm.slots = ms ∧ rm.frames + 1 ≤ R.frames ∧ 8 + (maxL + 11) + rm.locals ≤ R.locals ∧ (∀ w ∈ ws, ∀ (a' : Array Value) (U : State), s.WarmedH U.vm → w.before a' U = true) ∧ Cond.codeWith y bytes maxL ret hh ∈ ws) ∧
  (Cond.codeWith y bytes maxL ret hh).before args s = true ∧ (Cond.initialized y.cls).before args s = true ∧ (y.cls ≠ "java/lang/invoke/MethodHandle" ∧ y.cls ≠ "java/lang/invoke/VarHandle") ∧
  (∀ sig, parseMethodDescriptor y.desc = some sig → n = sig.parameters.length) ∧ (Cond.methodLink own index y).before args s = true ∧ (Cond.instanceMethod y).before args s = true ∧ (Cond.selects C y y).before args s = true
theorem vx_cwVW {own C : String} {index maxL mc ms : Nat} {y : MethodName} {bytes : ByteArray} {ret : Option FieldType} {hh : List (Nat × Nat × Nat × Nat)} {Ts ws ws' : List Cond} {rm : Room} (n : Nat) (ht : ∀ w ∈ Ts, w.before args s = true) (hT : GoodIn Ts (wsV own index C y ws)) (hw : ws = Cond.codeWith y bytes maxL ret hh :: ws') (hrc : rm.cells = mc) (hrs : rm.slots = ms)
    (hd : y.cls = C ∧ y.cls ≠ "java/lang/invoke/MethodHandle" ∧ y.cls ≠ "java/lang/invoke/VarHandle" ∧ (parseMethodDescriptor y.desc).map (fun d => d.parameters.length) = some n) (hR : rm.frames + 1 ≤ R.frames ∧ 8 + (maxL + 11) + rm.locals ≤ R.locals) :
    vx_CVW R s args own C index y bytes maxL ret hh ws rm mc ms n := by
  obtain ⟨hC, hd⟩ := hd
  subst hC
  have ok : ∀ w ∈ wsV own index y.cls y ws, w.before args s = true := fun w h => ht w (hT w h).1
  have hG : GoodIn Ts ws := fun w h => hT w (by unfold wsV; exact List.mem_append_right _ h)
  have hc : Cond.codeWith y bytes maxL ret hh ∈ ws := by rw [hw]; exact List.mem_cons_self
  refine ⟨⟨hrc, hrs, hR.1, hR.2, pay_in ht hG, hc⟩, ht _ (hG _ hc).1, ok _ (by simp [wsV]), ⟨hd.1, hd.2.1⟩, fun sig h => ?_, ok _ (by simp [wsV]), ok _ (by simp [wsV]), ok _ (by simp [wsV])⟩
  have h2 := hd.2.2
  rw [h] at h2
  exact (Option.some.inj h2).symm
theorem vx_runVW {y : MethodName} {bytes cc : ByteArray} {maxL nL mc ms n index : Nat} {ret : Option FieldType} {hh : List (Nat × Nat × Nat × Nat)} {ws : List Cond} {rm : Room} {Pc : Array Value → State → Prop} {Qc : Array Value → State → Outcome → State → Prop} {free : Addr → Prop} {Ts : List Cond} {own C : String} {b : Addr} {As rest : List Value} {g : JFrame}
    (S : CallFix p m c cc nL s args Ts own) (hM : Met l y ws rm Pc Qc mc ms free) (cw : vx_CVW R s args own C index y bytes maxL ret hh ws rm mc ms n) (hp : PreV s H C b Pc As)
    (hg : g.method = m) (hn : As.length = n) (hsize : g.locals.size = nL) (hstack : g.stack = As.reverse ++ .ref b :: rest) (hW : 2 * g.monitorRoom + (rest.map fun v => v.category).sum ≤ 8) (hdg : decode cc g.pc = .ok (.invokevirtual index, 3)) (hf : cells + mc ≤ R.cells ∧ slots + ms ≤ R.slots) :
    va_Run p l e R s m args below meth c H locs cells slots mc ms g rest (Qc (Value.ref b :: As).toArray) free := by
  obtain ⟨⟨hrc, hrs, hfr, hlo, hws, hcw⟩, hcode, hini, hy, hlen, hl, hin, hse⟩ := cw
  have hK : Back l R p e below s args y 3 8 (PreOf R mc ms Pc) (PostOf Qc mc ms free) := va_backW (hh := hh) (bytes := bytes) (maxL := maxL) (ret := ret) hM hp.1 hrc hrs hfr hlo hws hcw (fun a' U hW => word_at hW (Or.inl (by first | rfl | simp [Cond.onTables, Cond.keeps, Cond.steady])) hini)
  obtain ⟨hx, hb, hml, ho, -⟩ := S
  obtain ⟨-, ⟨cellB, hcB, hoB, hclB⟩, hPc⟩ := hp
  intro T hT X
  obtain ⟨v, vm₁, ⟨U', l2, c2, s2⟩, hW₁, X', ⟨g', mk, t, L, e1, e2, hq, h1, hL, h2, h3⟩, st⟩ := vx_callVW X hx (C := C) (hh := hh) (bytes := bytes) (maxL := maxL) (ret := ret) ho hl hin hse hcode hy hK (by rw [hT]; exact hcB) hoB hclB hg (hsize.trans hml.symm) (argsL := As) (rest := rest) (fun sig h => hn.trans (hlen sig h)) hstack hW (by rw [hb]; exact hdg)
    (fun vm₁ hW₁ => ⟨hf.1, hf.2, hPc (T.setVm vm₁) hT hW₁⟩)
  dsimp only [Pt.U, Pt.locs, Pt.cells, Pt.slots] at X' e1 e2 h1 h2 h3 st
  subst h1; subst h2; subst h3
  exact ⟨v, (T.setVm vm₁).calling g' mk (Value.ref b :: As).toArray, t, U', L, hT, X', hL, e1, e2, hq, st⟩
section
variable {y : MethodName} {bytes cc : ByteArray} {maxL nL mc ms n index : Nat} {ret : Option FieldType} {ws : List Cond} {rm : Room} {Pc : Array Value → State → Prop} {Qc : Array Value → State → Outcome → State → Prop} {XC : String → State → State → Prop} {free : Addr → Prop} {Ts : List Cond} {own C : String} {b : Addr} {As rest : List Value} {g : JFrame}
theorem vx_runVX {hh : List (Nat × Nat × Nat × Nat)} (S : CallFix p m c cc nL s args Ts own) (hM : vx_Met l y ws rm Pc Qc XC mc ms free) (cw : vx_CVW R s args own C index y bytes maxL ret hh ws rm mc ms n) (hp : PreV s H C b Pc As)
    (hg : g.method = m) (hn : As.length = n) (hsize : g.locals.size = nL) (hstack : g.stack = As.reverse ++ .ref b :: rest) (hW : 2 * g.monitorRoom + (rest.map fun v => v.category).sum ≤ 8) (hdg : decode cc g.pc = .ok (.invokevirtual index, 3)) (hf : cells + mc ≤ R.cells ∧ slots + ms ≤ R.slots) :
    vx_Run p l e R s m args below meth c H locs cells slots mc ms g rest (Qc (Value.ref b :: As).toArray) XC free := by
  obtain ⟨⟨hrc, hrs, hfr, hlo, hws, hcw⟩, hcode, hini, hy, hlen, hl, hin, hse⟩ := cw
  have hK : vx_Back l R p e below s args y 3 8 (PreOf R mc ms Pc) (PostOf Qc mc ms free) (vx_Post XC mc ms free) := vx_backW (hh := hh) (bytes := bytes) (maxL := maxL) (ret := ret) hM hp.1 hrc hrs hfr hlo hws hcw (fun a' U hW => word_at hW (Or.inl (by first | rfl | simp [Cond.onTables, Cond.keeps, Cond.steady])) hini)
  obtain ⟨hx, hb, hml, ho, -⟩ := S
  obtain ⟨-, ⟨cellB, hcB, hoB, hclB⟩, hPc⟩ := hp
  intro T hT X
  rcases vx_callVX X hx (C := C) (hh := hh) (bytes := bytes) (maxL := maxL) (ret := ret) ho hl hin hse hcode hy hK (by rw [hT]; exact hcB) hoB hclB hg (hsize.trans hml.symm) (argsL := As) (rest := rest) (fun sig h => hn.trans (hlen sig h)) hstack hW (by rw [hb]; exact hdg)
    (fun vm₁ hW₁ => ⟨hf.1, hf.2, hPc (T.setVm vm₁) hT hW₁⟩) with ⟨v, vm₁, ⟨U', l2, c2, s2⟩, hW₁, X', ⟨g', mk, t, L, e1, e2, hq, h1, hL, h2, h3⟩, st⟩ | ⟨q, vm₁, ⟨U', l2, c2, s2⟩, hW₁, X', ⟨g', mk, t, L, E, ce, e1, e2, hq, hce, hcv, hcl, h1, hL, h2, h3⟩, st⟩
  · dsimp only [Pt.U, Pt.locs, Pt.cells, Pt.slots] at X' e1 e2 h1 h2 h3 st
    subst h1; subst h2; subst h3
    exact Or.inl ⟨v, (T.setVm vm₁).calling g' mk (Value.ref b :: As).toArray, t, U', L, hT, X', hL, e1, e2, hq, st⟩
  · dsimp only [Pt.U, Pt.locs, Pt.cells, Pt.slots] at X' e1 e2 h1 h2 h3 st hcl
    subst h1; subst h2; subst h3
    exact Or.inr ⟨q, (T.setVm vm₁).calling g' mk (Value.ref b :: As).toArray, t, U', L, E, ce, hT, X', hL, e1, e2, hq, hce, hcv, vx_cls hW₁ hcl, st⟩
theorem vx_runSX {hh : List (Nat × Nat × Nat × Nat)} (S : CallFix p m c cc nL s args Ts own) (hM : vx_Met l y ws rm Pc Qc XC mc ms free) (cw : vx_CSW R s args own index y bytes maxL ret hh ws rm mc ms n) (hp : PreS s H Pc As)
    (hg : g.method = m) (hn : As.length = n) (hsize : g.locals.size = nL) (hstack : g.stack = As.reverse ++ rest) (hW : 2 * g.monitorRoom + (rest.map fun v => v.category).sum ≤ 8) (hdg : decode cc g.pc = .ok (.invokestatic index, 3)) (hf : cells + mc ≤ R.cells ∧ slots + ms ≤ R.slots) :
    vx_Run p l e R s m args below meth c H locs cells slots mc ms g rest (Qc As.toArray) XC free := by
  obtain ⟨⟨hrc, hrs, hfr, hlo, hws, hcw⟩, hcode, hini, hy, hlen, hl, hstt⟩ := cw
  have hK : vx_Back l R p e below s args y 3 8 (PreOf R mc ms Pc) (PostOf Qc mc ms free) (vx_Post XC mc ms free) := vx_backW (hh := hh) (bytes := bytes) (maxL := maxL) (ret := ret) hM hp.1 hrc hrs hfr hlo hws hcw (fun a' U hW => word_at hW (Or.inl (by first | rfl | simp [Cond.onTables, Cond.keeps, Cond.steady])) hini)
  obtain ⟨hx, hb, hml, ho, -⟩ := S
  intro T hT X
  rcases vx_callSX X hx (hh := hh) (bytes := bytes) (maxL := maxL) (ret := ret) ho hl hstt hini hcode hy hK hg (hsize.trans hml.symm) (argsL := As) (rest := rest) (fun sig h => hn.trans (hlen sig h)) hstack hW (by rw [hb]; exact hdg)
    (fun vm₁ hW₁ => ⟨hf.1, hf.2, hp.2 (T.setVm vm₁) hT hW₁⟩) with ⟨v, vm₁, ⟨U', l2, c2, s2⟩, hW₁, X', ⟨g', mk, t, L, e1, e2, hq, h1, hL, h2, h3⟩, st⟩ | ⟨q, vm₁, ⟨U', l2, c2, s2⟩, hW₁, X', ⟨g', mk, t, L, E, ce, e1, e2, hq, hce, hcv, hcl, h1, hL, h2, h3⟩, st⟩
  · dsimp only [Pt.U, Pt.locs, Pt.cells, Pt.slots] at X' e1 e2 h1 h2 h3 st
    subst h1; subst h2; subst h3
    exact Or.inl ⟨v, (T.setVm vm₁).calling g' mk As.toArray, t, U', L, hT, X', hL, e1, e2, hq, st⟩
  · dsimp only [Pt.U, Pt.locs, Pt.cells, Pt.slots] at X' e1 e2 h1 h2 h3 st hcl
    subst h1; subst h2; subst h3
    exact Or.inr ⟨q, (T.setVm vm₁).calling g' mk As.toArray, t, U', L, E, ce, hT, X', hL, e1, e2, hq, hce, hcv, vx_cls hW₁ hcl, st⟩
end
end VXH
theorem vx_ofWH {l : Launch} {y : MethodName} {ws ws' : List Cond} {rm : Room} {Pc : Array Value → State → Prop} {Qc : Array Value → State → Outcome → State → Prop} {XC : String → State → State → Prop} {mc ms : Nat} {free : Addr → Prop} {cc : ByteArray} {maxL : Nat} {ret : Option FieldType} {hh : List (Nat × Nat × Nat × Nat)}
    (hy : plainName y.cls = true) (hw : ws = Cond.codeWith y cc maxL ret hh :: ws')
    (body : ∀ p e s m args below meth c s₁, BodyLoose p l y (headSpec ws rm) cc maxL ret e s m args below meth c s₁ → c.maxLocals = maxL → Pc args s →
      W p l e (headSpec ws rm).room s m args below meth c s.heap [] 0 0 (vx_MQ below Qc XC args s mc ms free) (entryFrame m args maxL)) : vx_Met l y ws rm Pc Qc XC mc ms free := by
  refine MetFree.of_bodyS (code := cc) (maxLocals := maxL) (ret := ret) hy ?_ ?_
  · intro args s m h hn
    obtain ⟨m9, meth, c, hn9, h1, h2, h3, h4, -, h5, h6, -⟩ := Cond.codeWith_spec (atoms_spec (ws := ws) h _ (by rw [hw]; exact List.mem_cons_self))
    cases hn.symm.trans hn9
    exact ⟨meth, c, h1, h2, h3, h4, h5, h6⟩
  · intro p e s m args below meth c s₁ B hml hP _
    have hh0 : s₁.heap = s.heap := by rw [B.state]; rfl
    obtain ⟨t, a1, o, b1, b2, b3⟩ := body p e s m args below meth c s₁ B hml hP s₁ hh0 (Stand.of_body B)
    exact ⟨t, o, a1, b1, b2, b3⟩
/-! ===== END ===== -/
end
section
def RX0 : String := "CasebookSteps$Case"
def TX0 : u_T := fun k => match k with
  | 0 => ("CasebookSteps$Case", "plan", "LCasebookSteps$Plan;", false)
  | 1 => ("CasebookSteps$Case", "data", "[I", true)
  | 2 => ("CasebookSteps$Case", "states", "[C", true)
  | 3 => ("CasebookSteps$Case", "statesBefore", "[C", true)
  | 4 => ("CasebookSteps$Case", "clocks", "[I", true)
  | 5 => ("CasebookSteps$Case", "counts", "[I", true)
  | 6 => ("CasebookSteps$Case", "age", "I", false)
  | 7 => ("CasebookSteps$Case", "waiting", "Z", false)
  | 8 => ("CasebookSteps$Case", "present", "I", false)
  | 9 => ("CasebookSteps$Case", "lastRounds", "I", false)
  | _ => ("CasebookSteps$Case", "things", "I", false)
def tyX0 : Nat → FieldType := fun k => match k with
  | 0 => .object "CasebookSteps$Plan"
  | 1 => .array .int
  | 2 => .array .char
  | 3 => .array .char
  | 4 => .array .int
  | 5 => .array .int
  | 6 => .int
  | 7 => .boolean
  | 8 => .int
  | 9 => .int
  | _ => .int
abbrev wsX00 : List Cond := u_ws RX0 TX0 11
theorem nmX0 : ∀ a, a < 11 → ∀ b, b < 11 → a ≠ b → (TX0 a).2.1 ≠ (TX0 b).2.1 := by decide +kernel
theorem tyX0_ok : ∀ k, k < 11 → parseFieldDescriptor (TX0 k).2.2.1 = some (tyX0 k) := by decide +kernel
abbrev cX0_init : ByteArray := prog_2_method_1_code
def yX0_init : MethodName := ⟨RX0, "<init>", "(LCasebookSteps$Plan;)V"⟩
abbrev cX0_beginAnew : ByteArray := prog_2_method_2_code
def yX0_beginAnew : MethodName := ⟨RX0, "beginAnew", "(LCasebookSteps$Plan;)V"⟩
abbrev cX0_goBy : ByteArray := prog_2_method_3_code
def yX0_goBy : MethodName := ⟨RX0, "goBy", "(LCasebookSteps$Plan;)V"⟩
abbrev cX0_putValue : ByteArray := prog_2_method_4_code
def yX0_putValue : MethodName := ⟨RX0, "putValue", "(II)V"⟩
abbrev cX0_growOlder : ByteArray := prog_2_method_5_code
def yX0_growOlder : MethodName := ⟨RX0, "growOlder", "()V"⟩
abbrev cX0_runRounds : ByteArray := prog_2_method_6_code
def yX0_runRounds : MethodName := ⟨RX0, "runRounds", "()V"⟩
abbrev cX0_applyRule : ByteArray := prog_2_method_7_code
def yX0_applyRule : MethodName := ⟨RX0, "applyRule", "(I)Z"⟩
abbrev cX0_isParentActive : ByteArray := prog_2_method_8_code
def yX0_isParentActive : MethodName := ⟨RX0, "isParentActive", "(LCasebookSteps$Step;)Z"⟩
abbrev cX0_enter : ByteArray := prog_2_method_9_code
def yX0_enter : MethodName := ⟨RX0, "enter", "(IC)V"⟩
abbrev cX0_finish : ByteArray := prog_2_method_10_code
def yX0_finish : MethodName := ⟨RX0, "finish", "(IC)V"⟩
abbrev cX0_areChildrenDone : ByteArray := prog_2_method_11_code
def yX0_areChildrenDone : MethodName := ⟨RX0, "areChildrenDone", "(I)Z"⟩
abbrev cX0_anyMet : ByteArray := prog_2_method_12_code
def yX0_anyMet : MethodName := ⟨RX0, "anyMet", "(LCasebookSteps$Conditions;)Z"⟩
abbrev cX0_isMet : ByteArray := prog_2_method_13_code
def yX0_isMet : MethodName := ⟨RX0, "isMet", "(LCasebookSteps$Condition;)Z"⟩
abbrev cX0_valueOf : ByteArray := prog_2_method_14_code
def yX0_valueOf : MethodName := ⟨RX0, "valueOf", "(I)I"⟩
abbrev cX0_stateOf : ByteArray := prog_2_method_15_code
def yX0_stateOf : MethodName := ⟨RX0, "stateOf", "(I)C"⟩
abbrev cX0_putState : ByteArray := prog_2_method_16_code
def yX0_putState : MethodName := ⟨RX0, "putState", "(IC)V"⟩
abbrev cX0_clockOf : ByteArray := prog_2_method_17_code
def yX0_clockOf : MethodName := ⟨RX0, "clockOf", "(I)I"⟩
abbrev cX0_countOf : ByteArray := prog_2_method_18_code
def yX0_countOf : MethodName := ⟨RX0, "countOf", "(I)I"⟩
abbrev cX0_isActiveTask : ByteArray := prog_2_method_19_code
def yX0_isActiveTask : MethodName := ⟨RX0, "isActiveTask", "(I)Z"⟩
abbrev cX0_daysUntilLate : ByteArray := prog_2_method_20_code
def yX0_daysUntilLate : MethodName := ⟨RX0, "daysUntilLate", "(I)I"⟩
abbrev cX0_fewestDaysUntilLate : ByteArray := prog_2_method_21_code
def yX0_fewestDaysUntilLate : MethodName := ⟨RX0, "fewestDaysUntilLate", "()I"⟩
abbrev cX0_lateTasks : ByteArray := prog_2_method_22_code
def yX0_lateTasks : MethodName := ⟨RX0, "lateTasks", "()I"⟩
abbrev cX0_rememberStates : ByteArray := prog_2_method_23_code
def yX0_rememberStates : MethodName := ⟨RX0, "rememberStates", "()V"⟩
abbrev cX0_changedStepsBut : ByteArray := prog_2_method_24_code
def yX0_changedStepsBut : MethodName := ⟨RX0, "changedStepsBut", "(I)I"⟩
abbrev cX0_stepsInState : ByteArray := prog_2_method_25_code
def yX0_stepsInState : MethodName := ⟨RX0, "stepsInState", "(C)I"⟩
abbrev cX0_isAtItsEnd : ByteArray := prog_2_method_26_code
def yX0_isAtItsEnd : MethodName := ⟨RX0, "isAtItsEnd", "()Z"⟩
abbrev cX0_sumOfClocks : ByteArray := prog_2_method_27_code
def yX0_sumOfClocks : MethodName := ⟨RX0, "sumOfClocks", "()J"⟩
def RX1 : String := "CasebookSteps$Condition"
def TX1 : u_T := fun k => match k with
  | 0 => ("CasebookSteps$Condition", "sort", "C", true)
  | 1 => ("CasebookSteps$Condition", "a", "I", true)
  | _ => ("CasebookSteps$Condition", "b", "I", true)
def tyX1 : Nat → FieldType := fun k => match k with
  | 0 => .char
  | 1 => .int
  | _ => .int
abbrev wsX10 : List Cond := u_ws RX1 TX1 3
theorem nmX1 : ∀ a, a < 3 → ∀ b, b < 3 → a ≠ b → (TX1 a).2.1 ≠ (TX1 b).2.1 := by decide +kernel
theorem tyX1_ok : ∀ k, k < 3 → parseFieldDescriptor (TX1 k).2.2.1 = some (tyX1 k) := by decide +kernel
abbrev cX1_init : ByteArray := prog_3_method_1_code
def yX1_init : MethodName := ⟨RX1, "<init>", "(CII)V"⟩
def RX2 : String := "CasebookSteps$Conditions"
def TX2 : u_T := fun k => match k with
  | 0 => ("CasebookSteps$Conditions", "rows", "[LCasebookSteps$Condition;", true)
  | _ => ("CasebookSteps$Conditions", "size", "I", false)
def tyX2 : Nat → FieldType := fun k => match k with
  | 0 => .array (.object "CasebookSteps$Condition")
  | _ => .int
abbrev wsX20 : List Cond := u_ws RX2 TX2 2
theorem nmX2 : ∀ a, a < 2 → ∀ b, b < 2 → a ≠ b → (TX2 a).2.1 ≠ (TX2 b).2.1 := by decide +kernel
theorem tyX2_ok : ∀ k, k < 2 → parseFieldDescriptor (TX2 k).2.2.1 = some (tyX2 k) := by decide +kernel
abbrev cX2_init : ByteArray := prog_4_method_1_code
def yX2_init : MethodName := ⟨RX2, "<init>", "()V"⟩
abbrev cX2_append : ByteArray := prog_4_method_2_code
def yX2_append : MethodName := ⟨RX2, "append", "(LCasebookSteps$Condition;)I"⟩
abbrev cX2_at : ByteArray := prog_4_method_3_code
def yX2_at : MethodName := ⟨RX2, "at", "(I)LCasebookSteps$Condition;"⟩
def RX3 : String := "CasebookSteps$Journal"
def TX3 : u_T := fun k => match k with
  | 0 => ("CasebookSteps$Journal", "who", "[I", true)
  | 1 => ("CasebookSteps$Journal", "what", "[I", true)
  | 2 => ("CasebookSteps$Journal", "x", "[I", true)
  | 3 => ("CasebookSteps$Journal", "y", "[I", true)
  | _ => ("CasebookSteps$Journal", "size", "I", false)
def tyX3 : Nat → FieldType := fun k => match k with
  | 0 => .array .int
  | 1 => .array .int
  | 2 => .array .int
  | 3 => .array .int
  | _ => .int
abbrev wsX30 : List Cond := u_ws RX3 TX3 5
theorem nmX3 : ∀ a, a < 5 → ∀ b, b < 5 → a ≠ b → (TX3 a).2.1 ≠ (TX3 b).2.1 := by decide +kernel
theorem tyX3_ok : ∀ k, k < 5 → parseFieldDescriptor (TX3 k).2.2.1 = some (tyX3 k) := by decide +kernel
abbrev cX3_init : ByteArray := prog_5_method_1_code
def yX3_init : MethodName := ⟨RX3, "<init>", "()V"⟩
abbrev cX3_append : ByteArray := prog_5_method_2_code
def yX3_append : MethodName := ⟨RX3, "append", "(IIII)V"⟩
def RX4 : String := "CasebookSteps$Plan"
def TX4 : u_T := fun k => match k with
  | 0 => ("CasebookSteps$Plan", "number", "I", true)
  | 1 => ("CasebookSteps$Plan", "rows", "[LCasebookSteps$Step;", true)
  | 2 => ("CasebookSteps$Plan", "size", "I", false)
  | _ => ("CasebookSteps$Plan", "used", "Z", false)
def tyX4 : Nat → FieldType := fun k => match k with
  | 0 => .int
  | 1 => .array (.object "CasebookSteps$Step")
  | 2 => .int
  | _ => .boolean
abbrev wsX40 : List Cond := u_ws RX4 TX4 4
theorem nmX4 : ∀ a, a < 4 → ∀ b, b < 4 → a ≠ b → (TX4 a).2.1 ≠ (TX4 b).2.1 := by decide +kernel
theorem tyX4_ok : ∀ k, k < 4 → parseFieldDescriptor (TX4 k).2.2.1 = some (tyX4 k) := by decide +kernel
abbrev cX4_init : ByteArray := prog_6_method_1_code
def yX4_init : MethodName := ⟨RX4, "<init>", "(I)V"⟩
abbrev cX4_append : ByteArray := prog_6_method_2_code
def yX4_append : MethodName := ⟨RX4, "append", "(LCasebookSteps$Step;)I"⟩
abbrev cX4_stepAt : ByteArray := prog_6_method_3_code
def yX4_stepAt : MethodName := ⟨RX4, "stepAt", "(I)LCasebookSteps$Step;"⟩
abbrev cX4_isStage : ByteArray := prog_6_method_4_code
def yX4_isStage : MethodName := ⟨RX4, "isStage", "(I)Z"⟩
def RX5 : String := "CasebookSteps$Step"
def TX5 : u_T := fun k => match k with
  | 0 => ("CasebookSteps$Step", "kind", "C", true)
  | 1 => ("CasebookSteps$Step", "parent", "I", true)
  | 2 => ("CasebookSteps$Step", "entries", "LCasebookSteps$Conditions;", true)
  | 3 => ("CasebookSteps$Step", "exits", "LCasebookSteps$Conditions;", true)
  | 4 => ("CasebookSteps$Step", "required", "Z", false)
  | 5 => ("CasebookSteps$Step", "limit", "I", false)
  | _ => ("CasebookSteps$Step", "again", "Z", false)
def tyX5 : Nat → FieldType := fun k => match k with
  | 0 => .char
  | 1 => .int
  | 2 => .object "CasebookSteps$Conditions"
  | 3 => .object "CasebookSteps$Conditions"
  | 4 => .boolean
  | 5 => .int
  | _ => .boolean
abbrev wsX50 : List Cond := u_ws RX5 TX5 7
theorem nmX5 : ∀ a, a < 7 → ∀ b, b < 7 → a ≠ b → (TX5 a).2.1 ≠ (TX5 b).2.1 := by decide +kernel
theorem tyX5_ok : ∀ k, k < 7 → parseFieldDescriptor (TX5 k).2.2.1 = some (tyX5 k) := by decide +kernel
abbrev cX5_init : ByteArray := prog_7_method_1_code
def yX5_init : MethodName := ⟨RX5, "<init>", "(CI)V"⟩
def RX6 : String := "CasebookSteps"
def TX6 : u_T := fun k => match k with
  | 0 => ("CasebookSteps", "plans", "[LCasebookSteps$Plan;", true)
  | 1 => ("CasebookSteps", "planCount", "I", false)
  | 2 => ("CasebookSteps", "begun", "[LCasebookSteps$Case;", true)
  | 3 => ("CasebookSteps", "caseCount", "I", false)
  | 4 => ("CasebookSteps", "journal", "LCasebookSteps$Journal;", true)
  | _ => ("CasebookSteps", "replayed", "LCasebookSteps$Case;", true)
def tyX6 : Nat → FieldType := fun k => match k with
  | 0 => .array (.object "CasebookSteps$Plan")
  | 1 => .int
  | 2 => .array (.object "CasebookSteps$Case")
  | 3 => .int
  | 4 => .object "CasebookSteps$Journal"
  | _ => .object "CasebookSteps$Case"
abbrev wsX60 : List Cond := u_ws RX6 TX6 6
theorem nmX6 : ∀ a, a < 6 → ∀ b, b < 6 → a ≠ b → (TX6 a).2.1 ≠ (TX6 b).2.1 := by decide +kernel
theorem tyX6_ok : ∀ k, k < 6 → parseFieldDescriptor (TX6 k).2.2.1 = some (tyX6 k) := by decide +kernel
abbrev cX6_init : ByteArray := prog_1_method_1_code
def yX6_init : MethodName := ⟨RX6, "<init>", "()V"⟩
abbrev cX6_addPlan : ByteArray := prog_1_method_2_code
def yX6_addPlan : MethodName := ⟨RX6, "addPlan", "()I"⟩
abbrev cX6_addStep : ByteArray := prog_1_method_3_code
def yX6_addStep : MethodName := ⟨RX6, "addStep", "(ICI)I"⟩
abbrev cX6_addEntry : ByteArray := prog_1_method_4_code
def yX6_addEntry : MethodName := ⟨RX6, "addEntry", "(IICII)I"⟩
abbrev cX6_addExit : ByteArray := prog_1_method_5_code
def yX6_addExit : MethodName := ⟨RX6, "addExit", "(IICII)I"⟩
abbrev cX6_setRequired : ByteArray := prog_1_method_6_code
def yX6_setRequired : MethodName := ⟨RX6, "setRequired", "(IIZ)Z"⟩
abbrev cX6_setLimit : ByteArray := prog_1_method_7_code
def yX6_setLimit : MethodName := ⟨RX6, "setLimit", "(III)I"⟩
abbrev cX6_setAgain : ByteArray := prog_1_method_8_code
def yX6_setAgain : MethodName := ⟨RX6, "setAgain", "(IIZ)Z"⟩
abbrev cX6_steps : ByteArray := prog_1_method_9_code
def yX6_steps : MethodName := ⟨RX6, "steps", "(I)I"⟩
abbrev cX6_isUsed : ByteArray := prog_1_method_10_code
def yX6_isUsed : MethodName := ⟨RX6, "isUsed", "(I)Z"⟩
abbrev cX6_begin : ByteArray := prog_1_method_11_code
def yX6_begin : MethodName := ⟨RX6, "begin", "(I)I"⟩
abbrev cX6_set : ByteArray := prog_1_method_12_code
def yX6_set : MethodName := ⟨RX6, "set", "(III)I"⟩
abbrev cX6_event : ByteArray := prog_1_method_13_code
def yX6_event : MethodName := ⟨RX6, "event", "(II)I"⟩
abbrev cX6_complete : ByteArray := prog_1_method_14_code
def yX6_complete : MethodName := ⟨RX6, "complete", "(II)I"⟩
abbrev cX6_setWaiting : ByteArray := prog_1_method_15_code
def yX6_setWaiting : MethodName := ⟨RX6, "setWaiting", "(IZ)Z"⟩
abbrev cX6_move : ByteArray := prog_1_method_16_code
def yX6_move : MethodName := ⟨RX6, "move", "(II)I"⟩
abbrev cX6_pass : ByteArray := prog_1_method_17_code
def yX6_pass : MethodName := ⟨RX6, "pass", "(I)I"⟩
abbrev cX6_state : ByteArray := prog_1_method_18_code
def yX6_state : MethodName := ⟨RX6, "state", "(II)C"⟩
abbrev cX6_stateByReplay : ByteArray := prog_1_method_19_code
def yX6_stateByReplay : MethodName := ⟨RX6, "stateByReplay", "(II)C"⟩
abbrev cX6_clock : ByteArray := prog_1_method_20_code
def yX6_clock : MethodName := ⟨RX6, "clock", "(II)I"⟩
abbrev cX6_clockByReplay : ByteArray := prog_1_method_21_code
def yX6_clockByReplay : MethodName := ⟨RX6, "clockByReplay", "(II)I"⟩
abbrev cX6_count : ByteArray := prog_1_method_22_code
def yX6_count : MethodName := ⟨RX6, "count", "(II)I"⟩
abbrev cX6_isLate : ByteArray := prog_1_method_23_code
def yX6_isLate : MethodName := ⟨RX6, "isLate", "(II)Z"⟩
abbrev cX6_daysLeft : ByteArray := prog_1_method_24_code
def yX6_daysLeft : MethodName := ⟨RX6, "daysLeft", "(I)I"⟩
abbrev cX6_holds : ByteArray := prog_1_method_25_code
def yX6_holds : MethodName := ⟨RX6, "holds", "(IIZI)Z"⟩
abbrev cX6_active : ByteArray := prog_1_method_26_code
def yX6_active : MethodName := ⟨RX6, "active", "(I)I"⟩
abbrev cX6_isOver : ByteArray := prog_1_method_27_code
def yX6_isOver : MethodName := ⟨RX6, "isOver", "(I)Z"⟩
abbrev cX6_rounds : ByteArray := prog_1_method_28_code
def yX6_rounds : MethodName := ⟨RX6, "rounds", "(I)I"⟩
abbrev cX6_datum : ByteArray := prog_1_method_29_code
def yX6_datum : MethodName := ⟨RX6, "datum", "(II)I"⟩
abbrev cX6_days : ByteArray := prog_1_method_30_code
def yX6_days : MethodName := ⟨RX6, "days", "(I)I"⟩
abbrev cX6_planOf : ByteArray := prog_1_method_31_code
def yX6_planOf : MethodName := ⟨RX6, "planOf", "(I)I"⟩
abbrev cX6_isWaiting : ByteArray := prog_1_method_32_code
def yX6_isWaiting : MethodName := ⟨RX6, "isWaiting", "(I)Z"⟩
abbrev cX6_happened : ByteArray := prog_1_method_33_code
def yX6_happened : MethodName := ⟨RX6, "happened", "(I)I"⟩
abbrev cX6_cases : ByteArray := prog_1_method_34_code
def yX6_cases : MethodName := ⟨RX6, "cases", "()I"⟩
abbrev cX6_daysWorked : ByteArray := prog_1_method_35_code
def yX6_daysWorked : MethodName := ⟨RX6, "daysWorked", "()J"⟩
abbrev cX6_doneShare : ByteArray := prog_1_method_36_code
def yX6_doneShare : MethodName := ⟨RX6, "doneShare", "(I)F"⟩
abbrev cX6_isDatum : ByteArray := prog_1_method_37_code
def yX6_isDatum : MethodName := ⟨RX6, "isDatum", "(I)Z"⟩
abbrev cX6_isEvent : ByteArray := prog_1_method_38_code
def yX6_isEvent : MethodName := ⟨RX6, "isEvent", "(I)Z"⟩
abbrev cX6_isValue : ByteArray := prog_1_method_39_code
def yX6_isValue : MethodName := ⟨RX6, "isValue", "(I)Z"⟩
abbrev cX6_isCondition : ByteArray := prog_1_method_40_code
def yX6_isCondition : MethodName := ⟨RX6, "isCondition", "(LCasebookSteps$Plan;CII)Z"⟩
abbrev cX6_refuseWrongCondition : ByteArray := prog_1_method_41_code
def yX6_refuseWrongCondition : MethodName := ⟨RX6, "refuseWrongCondition", "(LCasebookSteps$Plan;CII)V"⟩
abbrev cX6_refuseFull : ByteArray := prog_1_method_42_code
def yX6_refuseFull : MethodName := ⟨RX6, "refuseFull", "(LCasebookSteps$Conditions;)V"⟩
abbrev cX6_refuseUsed : ByteArray := prog_1_method_43_code
def yX6_refuseUsed : MethodName := ⟨RX6, "refuseUsed", "(LCasebookSteps$Plan;)V"⟩
abbrev cX6_refuseOtherThanTask : ByteArray := prog_1_method_44_code
def yX6_refuseOtherThanTask : MethodName := ⟨RX6, "refuseOtherThanTask", "(LCasebookSteps$Step;)V"⟩
abbrev cX6_planAt : ByteArray := prog_1_method_45_code
def yX6_planAt : MethodName := ⟨RX6, "planAt", "(I)LCasebookSteps$Plan;"⟩
abbrev cX6_caseAt : ByteArray := prog_1_method_46_code
def yX6_caseAt : MethodName := ⟨RX6, "caseAt", "(I)LCasebookSteps$Case;"⟩
abbrev cX6_existingPlan : ByteArray := prog_1_method_47_code
def yX6_existingPlan : MethodName := ⟨RX6, "existingPlan", "(I)LCasebookSteps$Plan;"⟩
abbrev cX6_existingCase : ByteArray := prog_1_method_48_code
def yX6_existingCase : MethodName := ⟨RX6, "existingCase", "(I)LCasebookSteps$Case;"⟩
abbrev cX6_existingStep : ByteArray := prog_1_method_49_code
def yX6_existingStep : MethodName := ⟨RX6, "existingStep", "(LCasebookSteps$Plan;I)LCasebookSteps$Step;"⟩
abbrev cX6_caseWithStep : ByteArray := prog_1_method_50_code
def yX6_caseWithStep : MethodName := ⟨RX6, "caseWithStep", "(II)LCasebookSteps$Case;"⟩
abbrev cX6_noteAndDo : ByteArray := prog_1_method_51_code
def yX6_noteAndDo : MethodName := ⟨RX6, "noteAndDo", "(ILCasebookSteps$Case;III)V"⟩
abbrev cX6_letHappen : ByteArray := prog_1_method_52_code
def yX6_letHappen : MethodName := ⟨RX6, "letHappen", "(LCasebookSteps$Case;III)V"⟩
abbrev cX6_replay : ByteArray := prog_1_method_53_code
def yX6_replay : MethodName := ⟨RX6, "replay", "(I)V"⟩
abbrev cX6_lateTasksOfAll : ByteArray := prog_1_method_54_code
def yX6_lateTasksOfAll : MethodName := ⟨RX6, "lateTasksOfAll", "()I"⟩
def RX7 : String := "CasebookStepsModel"
def TX7 : u_T := fun k => match k with
  | 0 => ("CasebookStepsModel", "kinds", "[[C", true)
  | 1 => ("CasebookStepsModel", "parents", "[[I", true)
  | 2 => ("CasebookStepsModel", "flags", "[[Z", true)
  | 3 => ("CasebookStepsModel", "limits", "[[I", true)
  | 4 => ("CasebookStepsModel", "sorts", "[[[C", true)
  | 5 => ("CasebookStepsModel", "firsts", "[[[I", true)
  | 6 => ("CasebookStepsModel", "seconds", "[[[I", true)
  | 7 => ("CasebookStepsModel", "many", "[[[I", true)
  | 8 => ("CasebookStepsModel", "steps", "[I", true)
  | 9 => ("CasebookStepsModel", "isUsed", "[Z", true)
  | 10 => ("CasebookStepsModel", "plans", "I", false)
  | 11 => ("CasebookStepsModel", "planOf", "[I", true)
  | 12 => ("CasebookStepsModel", "data", "[[I", true)
  | 13 => ("CasebookStepsModel", "waits", "[Z", true)
  | 14 => ("CasebookStepsModel", "states", "[[C", true)
  | 15 => ("CasebookStepsModel", "clocks", "[[I", true)
  | 16 => ("CasebookStepsModel", "counts", "[[I", true)
  | 17 => ("CasebookStepsModel", "days", "[I", true)
  | 18 => ("CasebookStepsModel", "rounds", "[I", true)
  | 19 => ("CasebookStepsModel", "happened", "[I", true)
  | 20 => ("CasebookStepsModel", "cases", "I", false)
  | 21 => ("CasebookStepsModel", "event", "I", false)
  | 22 => ("CasebookStepsModel", "before", "[C", true)
  | _ => ("CasebookStepsModel", "thrown", "I", false)
def tyX7 : Nat → FieldType := fun k => match k with
  | 0 => .array (.array .char)
  | 1 => .array (.array .int)
  | 2 => .array (.array .boolean)
  | 3 => .array (.array .int)
  | 4 => .array (.array (.array .char))
  | 5 => .array (.array (.array .int))
  | 6 => .array (.array (.array .int))
  | 7 => .array (.array (.array .int))
  | 8 => .array .int
  | 9 => .array .boolean
  | 10 => .int
  | 11 => .array .int
  | 12 => .array (.array .int)
  | 13 => .array .boolean
  | 14 => .array (.array .char)
  | 15 => .array (.array .int)
  | 16 => .array (.array .int)
  | 17 => .array .int
  | 18 => .array .int
  | 19 => .array .int
  | 20 => .int
  | 21 => .int
  | 22 => .array .char
  | _ => .int
abbrev wsX70 : List Cond := u_ws RX7 TX7 24
theorem nmX7 : ∀ a, a < 24 → ∀ b, b < 24 → a ≠ b → (TX7 a).2.1 ≠ (TX7 b).2.1 := by decide +kernel
theorem tyX7_ok : ∀ k, k < 24 → parseFieldDescriptor (TX7 k).2.2.1 = some (tyX7 k) := by decide +kernel
abbrev cX7_init : ByteArray := prog_9_method_1_code
def yX7_init : MethodName := ⟨RX7, "<init>", "()V"⟩
abbrev cX7_thrown : ByteArray := prog_9_method_2_code
def yX7_thrown : MethodName := ⟨RX7, "thrown", "()I"⟩
abbrev cX7_raises : ByteArray := prog_9_method_3_code
def yX7_raises : MethodName := ⟨RX7, "raises", "(I)I"⟩
abbrev cX7_in : ByteArray := prog_9_method_4_code
def yX7_in : MethodName := ⟨RX7, "in", "(III)Z"⟩
abbrev cX7_isPlan : ByteArray := prog_9_method_5_code
def yX7_isPlan : MethodName := ⟨RX7, "isPlan", "(I)Z"⟩
abbrev cX7_isStep : ByteArray := prog_9_method_6_code
def yX7_isStep : MethodName := ⟨RX7, "isStep", "(II)Z"⟩
abbrev cX7_isCase : ByteArray := prog_9_method_7_code
def yX7_isCase : MethodName := ⟨RX7, "isCase", "(I)Z"⟩
abbrev cX7_isStepOf : ByteArray := prog_9_method_8_code
def yX7_isStepOf : MethodName := ⟨RX7, "isStepOf", "(II)Z"⟩
abbrev cX7_addPlan : ByteArray := prog_9_method_9_code
def yX7_addPlan : MethodName := ⟨RX7, "addPlan", "()I"⟩
abbrev cX7_addStep : ByteArray := prog_9_method_10_code
def yX7_addStep : MethodName := ⟨RX7, "addStep", "(ICI)I"⟩
abbrev cX7_isCondition : ByteArray := prog_9_method_11_code
def yX7_isCondition : MethodName := ⟨RX7, "isCondition", "(ICII)Z"⟩
abbrev cX7_adds : ByteArray := prog_9_method_12_code
def yX7_adds : MethodName := ⟨RX7, "adds", "(IIICII)I"⟩
abbrev cX7_addEntry : ByteArray := prog_9_method_13_code
def yX7_addEntry : MethodName := ⟨RX7, "addEntry", "(IICII)I"⟩
abbrev cX7_addExit : ByteArray := prog_9_method_14_code
def yX7_addExit : MethodName := ⟨RX7, "addExit", "(IICII)I"⟩
abbrev cX7_flag : ByteArray := prog_9_method_15_code
def yX7_flag : MethodName := ⟨RX7, "flag", "(IICZ)Z"⟩
abbrev cX7_setRequired : ByteArray := prog_9_method_16_code
def yX7_setRequired : MethodName := ⟨RX7, "setRequired", "(IIZ)Z"⟩
abbrev cX7_setLimit : ByteArray := prog_9_method_17_code
def yX7_setLimit : MethodName := ⟨RX7, "setLimit", "(III)I"⟩
abbrev cX7_setAgain : ByteArray := prog_9_method_18_code
def yX7_setAgain : MethodName := ⟨RX7, "setAgain", "(IIZ)Z"⟩
abbrev cX7_steps : ByteArray := prog_9_method_19_code
def yX7_steps : MethodName := ⟨RX7, "steps", "(I)I"⟩
abbrev cX7_isUsed : ByteArray := prog_9_method_20_code
def yX7_isUsed : MethodName := ⟨RX7, "isUsed", "(I)Z"⟩
abbrev cX7_holdsNow : ByteArray := prog_9_method_21_code
def yX7_holdsNow : MethodName := ⟨RX7, "holdsNow", "(III)Z"⟩
abbrev cX7_holdsOne : ByteArray := prog_9_method_22_code
def yX7_holdsOne : MethodName := ⟨RX7, "holdsOne", "(III)Z"⟩
abbrev cX7_closes : ByteArray := prog_9_method_23_code
def yX7_closes : MethodName := ⟨RX7, "closes", "(II)V"⟩
abbrev cX7_becomes : ByteArray := prog_9_method_24_code
def yX7_becomes : MethodName := ⟨RX7, "becomes", "(IIC)V"⟩
abbrev cX7_isDone : ByteArray := prog_9_method_25_code
def yX7_isDone : MethodName := ⟨RX7, "isDone", "(II)Z"⟩
abbrev cX7_looks : ByteArray := prog_9_method_26_code
def yX7_looks : MethodName := ⟨RX7, "looks", "(II)Z"⟩
abbrev cX7_goes : ByteArray := prog_9_method_27_code
def yX7_goes : MethodName := ⟨RX7, "goes", "(I)V"⟩
abbrev cX7_begin : ByteArray := prog_9_method_28_code
def yX7_begin : MethodName := ⟨RX7, "begin", "(I)I"⟩
abbrev cX7_set : ByteArray := prog_9_method_29_code
def yX7_set : MethodName := ⟨RX7, "set", "(III)I"⟩
abbrev cX7_keeps : ByteArray := prog_9_method_30_code
def yX7_keeps : MethodName := ⟨RX7, "keeps", "(I)V"⟩
abbrev cX7_changed : ByteArray := prog_9_method_31_code
def yX7_changed : MethodName := ⟨RX7, "changed", "(II)I"⟩
abbrev cX7_event : ByteArray := prog_9_method_32_code
def yX7_event : MethodName := ⟨RX7, "event", "(II)I"⟩
abbrev cX7_complete : ByteArray := prog_9_method_33_code
def yX7_complete : MethodName := ⟨RX7, "complete", "(II)I"⟩
abbrev cX7_setWaiting : ByteArray := prog_9_method_34_code
def yX7_setWaiting : MethodName := ⟨RX7, "setWaiting", "(IZ)Z"⟩
abbrev cX7_move : ByteArray := prog_9_method_35_code
def yX7_move : MethodName := ⟨RX7, "move", "(II)I"⟩
abbrev cX7_isLateNow : ByteArray := prog_9_method_36_code
def yX7_isLateNow : MethodName := ⟨RX7, "isLateNow", "(II)Z"⟩
abbrev cX7_pass : ByteArray := prog_9_method_37_code
def yX7_pass : MethodName := ⟨RX7, "pass", "(I)I"⟩
abbrev cX7_lacks : ByteArray := prog_9_method_38_code
def yX7_lacks : MethodName := ⟨RX7, "lacks", "(II)Z"⟩
abbrev cX7_state : ByteArray := prog_9_method_39_code
def yX7_state : MethodName := ⟨RX7, "state", "(II)C"⟩
abbrev cX7_stateByReplay : ByteArray := prog_9_method_40_code
def yX7_stateByReplay : MethodName := ⟨RX7, "stateByReplay", "(II)C"⟩
abbrev cX7_clock : ByteArray := prog_9_method_41_code
def yX7_clock : MethodName := ⟨RX7, "clock", "(II)I"⟩
abbrev cX7_clockByReplay : ByteArray := prog_9_method_42_code
def yX7_clockByReplay : MethodName := ⟨RX7, "clockByReplay", "(II)I"⟩
abbrev cX7_count : ByteArray := prog_9_method_43_code
def yX7_count : MethodName := ⟨RX7, "count", "(II)I"⟩
abbrev cX7_isLate : ByteArray := prog_9_method_44_code
def yX7_isLate : MethodName := ⟨RX7, "isLate", "(II)Z"⟩
abbrev cX7_misses : ByteArray := prog_9_method_45_code
def yX7_misses : MethodName := ⟨RX7, "misses", "(I)Z"⟩
abbrev cX7_daysLeft : ByteArray := prog_9_method_46_code
def yX7_daysLeft : MethodName := ⟨RX7, "daysLeft", "(I)I"⟩
abbrev cX7_holds : ByteArray := prog_9_method_47_code
def yX7_holds : MethodName := ⟨RX7, "holds", "(IIZI)Z"⟩
abbrev cX7_inState : ByteArray := prog_9_method_48_code
def yX7_inState : MethodName := ⟨RX7, "inState", "(IC)I"⟩
abbrev cX7_active : ByteArray := prog_9_method_49_code
def yX7_active : MethodName := ⟨RX7, "active", "(I)I"⟩
abbrev cX7_isOver : ByteArray := prog_9_method_50_code
def yX7_isOver : MethodName := ⟨RX7, "isOver", "(I)Z"⟩
abbrev cX7_rounds : ByteArray := prog_9_method_51_code
def yX7_rounds : MethodName := ⟨RX7, "rounds", "(I)I"⟩
abbrev cX7_datum : ByteArray := prog_9_method_52_code
def yX7_datum : MethodName := ⟨RX7, "datum", "(II)I"⟩
abbrev cX7_days : ByteArray := prog_9_method_53_code
def yX7_days : MethodName := ⟨RX7, "days", "(I)I"⟩
abbrev cX7_planOf : ByteArray := prog_9_method_54_code
def yX7_planOf : MethodName := ⟨RX7, "planOf", "(I)I"⟩
abbrev cX7_isWaiting : ByteArray := prog_9_method_55_code
def yX7_isWaiting : MethodName := ⟨RX7, "isWaiting", "(I)Z"⟩
abbrev cX7_happened : ByteArray := prog_9_method_56_code
def yX7_happened : MethodName := ⟨RX7, "happened", "(I)I"⟩
abbrev cX7_cases : ByteArray := prog_9_method_57_code
def yX7_cases : MethodName := ⟨RX7, "cases", "()I"⟩
abbrev cX7_daysWorked : ByteArray := prog_9_method_58_code
def yX7_daysWorked : MethodName := ⟨RX7, "daysWorked", "()J"⟩
abbrev cX7_doneShare : ByteArray := prog_9_method_59_code
def yX7_doneShare : MethodName := ⟨RX7, "doneShare", "(I)F"⟩
def RJ0 : String := "java/lang/String"
def TJ0 : u_T := fun k => match k with
  | _ => ("", "", "", false)
def tyJ0 : Nat → FieldType := fun k => match k with
  | _ => .int
abbrev wsJ00 : List Cond := u_ws RJ0 TJ0 0
theorem nmJ0 : ∀ a, a < 0 → ∀ b, b < 0 → a ≠ b → (TJ0 a).2.1 ≠ (TJ0 b).2.1 := by decide +kernel
theorem tyJ0_ok : ∀ k, k < 0 → parseFieldDescriptor (TJ0 k).2.2.1 = some (tyJ0 k) := by decide +kernel
def RL : String := "CasebookStepsLaw"
abbrev cL_addPlan : ByteArray := method_3_code
def yL_addPlan : MethodName := ⟨RL, "addPlan", "(LCasebookSteps;[J)I"⟩
abbrev cL_addStep : ByteArray := method_4_code
def yL_addStep : MethodName := ⟨RL, "addStep", "(LCasebookSteps;ICI[J)I"⟩
abbrev cL_addEntry : ByteArray := method_5_code
def yL_addEntry : MethodName := ⟨RL, "addEntry", "(LCasebookSteps;IICII[J)I"⟩
abbrev cL_addExit : ByteArray := method_6_code
def yL_addExit : MethodName := ⟨RL, "addExit", "(LCasebookSteps;IICII[J)I"⟩
abbrev cL_setRequired : ByteArray := method_7_code
def yL_setRequired : MethodName := ⟨RL, "setRequired", "(LCasebookSteps;IIZ[J)I"⟩
abbrev cL_setLimit : ByteArray := method_8_code
def yL_setLimit : MethodName := ⟨RL, "setLimit", "(LCasebookSteps;III[J)I"⟩
abbrev cL_setAgain : ByteArray := method_9_code
def yL_setAgain : MethodName := ⟨RL, "setAgain", "(LCasebookSteps;IIZ[J)I"⟩
abbrev cL_steps : ByteArray := method_10_code
def yL_steps : MethodName := ⟨RL, "steps", "(LCasebookSteps;I[J)I"⟩
abbrev cL_isUsed : ByteArray := method_11_code
def yL_isUsed : MethodName := ⟨RL, "isUsed", "(LCasebookSteps;I[J)I"⟩
abbrev cL_begin : ByteArray := method_12_code
def yL_begin : MethodName := ⟨RL, "begin", "(LCasebookSteps;I[J)I"⟩
abbrev cL_set : ByteArray := method_13_code
def yL_set : MethodName := ⟨RL, "set", "(LCasebookSteps;III[J)I"⟩
abbrev cL_event : ByteArray := method_14_code
def yL_event : MethodName := ⟨RL, "event", "(LCasebookSteps;II[J)I"⟩
abbrev cL_complete : ByteArray := method_15_code
def yL_complete : MethodName := ⟨RL, "complete", "(LCasebookSteps;II[J)I"⟩
abbrev cL_setWaiting : ByteArray := method_16_code
def yL_setWaiting : MethodName := ⟨RL, "setWaiting", "(LCasebookSteps;IZ[J)I"⟩
abbrev cL_move : ByteArray := method_17_code
def yL_move : MethodName := ⟨RL, "move", "(LCasebookSteps;II[J)I"⟩
abbrev cL_pass : ByteArray := method_18_code
def yL_pass : MethodName := ⟨RL, "pass", "(LCasebookSteps;I[J)I"⟩
abbrev cL_state : ByteArray := method_19_code
def yL_state : MethodName := ⟨RL, "state", "(LCasebookSteps;II[J)I"⟩
abbrev cL_stateByReplay : ByteArray := method_20_code
def yL_stateByReplay : MethodName := ⟨RL, "stateByReplay", "(LCasebookSteps;II[J)I"⟩
abbrev cL_clock : ByteArray := method_21_code
def yL_clock : MethodName := ⟨RL, "clock", "(LCasebookSteps;II[J)I"⟩
abbrev cL_clockByReplay : ByteArray := method_22_code
def yL_clockByReplay : MethodName := ⟨RL, "clockByReplay", "(LCasebookSteps;II[J)I"⟩
abbrev cL_count : ByteArray := method_23_code
def yL_count : MethodName := ⟨RL, "count", "(LCasebookSteps;II[J)I"⟩
abbrev cL_isLate : ByteArray := method_24_code
def yL_isLate : MethodName := ⟨RL, "isLate", "(LCasebookSteps;II[J)I"⟩
abbrev cL_daysLeft : ByteArray := method_25_code
def yL_daysLeft : MethodName := ⟨RL, "daysLeft", "(LCasebookSteps;I[J)I"⟩
abbrev cL_holds : ByteArray := method_26_code
def yL_holds : MethodName := ⟨RL, "holds", "(LCasebookSteps;IIZI[J)I"⟩
abbrev cL_active : ByteArray := method_27_code
def yL_active : MethodName := ⟨RL, "active", "(LCasebookSteps;I[J)I"⟩
abbrev cL_isOver : ByteArray := method_28_code
def yL_isOver : MethodName := ⟨RL, "isOver", "(LCasebookSteps;I[J)I"⟩
abbrev cL_rounds : ByteArray := method_29_code
def yL_rounds : MethodName := ⟨RL, "rounds", "(LCasebookSteps;I[J)I"⟩
abbrev cL_datum : ByteArray := method_30_code
def yL_datum : MethodName := ⟨RL, "datum", "(LCasebookSteps;II[J)I"⟩
abbrev cL_days : ByteArray := method_31_code
def yL_days : MethodName := ⟨RL, "days", "(LCasebookSteps;I[J)I"⟩
abbrev cL_planOf : ByteArray := method_32_code
def yL_planOf : MethodName := ⟨RL, "planOf", "(LCasebookSteps;I[J)I"⟩
abbrev cL_isWaiting : ByteArray := method_33_code
def yL_isWaiting : MethodName := ⟨RL, "isWaiting", "(LCasebookSteps;I[J)I"⟩
abbrev cL_happened : ByteArray := method_34_code
def yL_happened : MethodName := ⟨RL, "happened", "(LCasebookSteps;I[J)I"⟩
abbrev cL_doneShare : ByteArray := method_35_code
def yL_doneShare : MethodName := ⟨RL, "doneShare", "(LCasebookSteps;I[D)I"⟩
abbrev cL_law : ByteArray := code
def yL_law : MethodName := ⟨RL, "law", "([I)Z"⟩
abbrev vwCl : List vw_C := [(RX0, TX0, 11), (RX1, TX1, 3), (RX2, TX2, 2), (RX3, TX3, 5), (RX4, TX4, 4), (RX5, TX5, 7), (RX6, TX6, 6), (RX7, TX7, 24)]
end
section
theorem dX0_init_0 : decode cX0_init 0 = .ok (.aload_n 0, 1) := by decide +kernel
theorem dX0_init_1 : decode cX0_init 1 = .ok (.invokespecial 3, 3) := by decide +kernel
theorem dX0_init_4 : decode cX0_init 4 = .ok (.aload_n 0, 1) := by decide +kernel
theorem dX0_init_5 : decode cX0_init 5 = .ok (.iconst 4, 1) := by decide +kernel
theorem dX0_init_6 : decode cX0_init 6 = .ok (.newarray .int, 2) := by decide +kernel
theorem dX0_init_8 : decode cX0_init 8 = .ok (.putfield 9, 3) := by decide +kernel
theorem dX0_init_11 : decode cX0_init 11 = .ok (.aload_n 0, 1) := by decide +kernel
theorem dX0_init_12 : decode cX0_init 12 = .ok (.bipush 8, 2) := by decide +kernel
theorem dX0_init_14 : decode cX0_init 14 = .ok (.newarray .char, 2) := by decide +kernel
theorem dX0_init_16 : decode cX0_init 16 = .ok (.putfield 15, 3) := by decide +kernel
theorem dX0_init_19 : decode cX0_init 19 = .ok (.aload_n 0, 1) := by decide +kernel
theorem dX0_init_20 : decode cX0_init 20 = .ok (.bipush 8, 2) := by decide +kernel
theorem dX0_init_22 : decode cX0_init 22 = .ok (.newarray .char, 2) := by decide +kernel
theorem dX0_init_24 : decode cX0_init 24 = .ok (.putfield 19, 3) := by decide +kernel
theorem dX0_init_27 : decode cX0_init 27 = .ok (.aload_n 0, 1) := by decide +kernel
theorem dX0_init_28 : decode cX0_init 28 = .ok (.bipush 8, 2) := by decide +kernel
theorem dX0_init_30 : decode cX0_init 30 = .ok (.newarray .int, 2) := by decide +kernel
theorem dX0_init_32 : decode cX0_init 32 = .ok (.putfield 22, 3) := by decide +kernel
theorem dX0_init_35 : decode cX0_init 35 = .ok (.aload_n 0, 1) := by decide +kernel
theorem dX0_init_36 : decode cX0_init 36 = .ok (.bipush 8, 2) := by decide +kernel
theorem dX0_init_38 : decode cX0_init 38 = .ok (.newarray .int, 2) := by decide +kernel
theorem dX0_init_40 : decode cX0_init 40 = .ok (.putfield 25, 3) := by decide +kernel
theorem dX0_init_43 : decode cX0_init 43 = .ok (.aload_n 0, 1) := by decide +kernel
theorem dX0_init_44 : decode cX0_init 44 = .ok (.iconst 0, 1) := by decide +kernel
theorem dX0_init_45 : decode cX0_init 45 = .ok (.putfield 28, 3) := by decide +kernel
theorem dX0_init_48 : decode cX0_init 48 = .ok (.aload_n 0, 1) := by decide +kernel
theorem dX0_init_49 : decode cX0_init 49 = .ok (.iconst 0, 1) := by decide +kernel
theorem dX0_init_50 : decode cX0_init 50 = .ok (.putfield 32, 3) := by decide +kernel
theorem dX0_init_53 : decode cX0_init 53 = .ok (.aload_n 0, 1) := by decide +kernel
theorem dX0_init_54 : decode cX0_init 54 = .ok (.iconst (-1), 1) := by decide +kernel
theorem dX0_init_55 : decode cX0_init 55 = .ok (.putfield 36, 3) := by decide +kernel
theorem dX0_init_58 : decode cX0_init 58 = .ok (.aload_n 0, 1) := by decide +kernel
theorem dX0_init_59 : decode cX0_init 59 = .ok (.iconst 0, 1) := by decide +kernel
theorem dX0_init_60 : decode cX0_init 60 = .ok (.putfield 39, 3) := by decide +kernel
theorem dX0_init_63 : decode cX0_init 63 = .ok (.aload_n 0, 1) := by decide +kernel
theorem dX0_init_64 : decode cX0_init 64 = .ok (.iconst 0, 1) := by decide +kernel
theorem dX0_init_65 : decode cX0_init 65 = .ok (.putfield 42, 3) := by decide +kernel
theorem dX0_init_68 : decode cX0_init 68 = .ok (.aload_n 0, 1) := by decide +kernel
theorem dX0_init_69 : decode cX0_init 69 = .ok (.aload_n 1, 1) := by decide +kernel
theorem dX0_init_70 : decode cX0_init 70 = .ok (.putfield 45, 3) := by decide +kernel
theorem dX0_init_73 : decode cX0_init 73 = .ok (.return_, 1) := by decide +kernel
theorem dX0_beginAnew_0 : decode cX0_beginAnew 0 = .ok (.aload_n 0, 1) := by decide +kernel
theorem dX0_beginAnew_1 : decode cX0_beginAnew 1 = .ok (.aload_n 1, 1) := by decide +kernel
theorem dX0_beginAnew_2 : decode cX0_beginAnew 2 = .ok (.invokevirtual 49, 3) := by decide +kernel
theorem dX0_beginAnew_5 : decode cX0_beginAnew 5 = .ok (.iconst 0, 1) := by decide +kernel
theorem dX0_beginAnew_6 : decode cX0_beginAnew 6 = .ok (.istore_n 2, 1) := by decide +kernel
theorem dX0_beginAnew_7 : decode cX0_beginAnew 7 = .ok (.iload_n 2, 1) := by decide +kernel
theorem dX0_beginAnew_8 : decode cX0_beginAnew 8 = .ok (.iconst 4, 1) := by decide +kernel
theorem dX0_beginAnew_9 : decode cX0_beginAnew 9 = .ok (.if_icmp .ge 16, 3) := by decide +kernel
theorem dX0_beginAnew_12 : decode cX0_beginAnew 12 = .ok (.aload_n 0, 1) := by decide +kernel
theorem dX0_beginAnew_13 : decode cX0_beginAnew 13 = .ok (.getfield 9, 3) := by decide +kernel
theorem dX0_beginAnew_16 : decode cX0_beginAnew 16 = .ok (.iload_n 2, 1) := by decide +kernel
theorem dX0_beginAnew_17 : decode cX0_beginAnew 17 = .ok (.iconst 0, 1) := by decide +kernel
theorem dX0_beginAnew_18 : decode cX0_beginAnew 18 = .ok (.iastore, 1) := by decide +kernel
theorem dX0_beginAnew_19 : decode cX0_beginAnew 19 = .ok (.iinc 2 1, 3) := by decide +kernel
theorem dX0_beginAnew_22 : decode cX0_beginAnew 22 = .ok (.goto (-15), 3) := by decide +kernel
theorem dX0_beginAnew_25 : decode cX0_beginAnew 25 = .ok (.iconst 0, 1) := by decide +kernel
theorem dX0_beginAnew_26 : decode cX0_beginAnew 26 = .ok (.istore_n 2, 1) := by decide +kernel
theorem dX0_beginAnew_27 : decode cX0_beginAnew 27 = .ok (.iload_n 2, 1) := by decide +kernel
theorem dX0_beginAnew_28 : decode cX0_beginAnew 28 = .ok (.bipush 8, 2) := by decide +kernel
theorem dX0_beginAnew_30 : decode cX0_beginAnew 30 = .ok (.if_icmp .ge 31, 3) := by decide +kernel
theorem dX0_beginAnew_33 : decode cX0_beginAnew 33 = .ok (.aload_n 0, 1) := by decide +kernel
theorem dX0_beginAnew_34 : decode cX0_beginAnew 34 = .ok (.getfield 15, 3) := by decide +kernel
theorem dX0_beginAnew_37 : decode cX0_beginAnew 37 = .ok (.iload_n 2, 1) := by decide +kernel
theorem dX0_beginAnew_38 : decode cX0_beginAnew 38 = .ok (.bipush 105, 2) := by decide +kernel
theorem dX0_beginAnew_40 : decode cX0_beginAnew 40 = .ok (.castore, 1) := by decide +kernel
theorem dX0_beginAnew_41 : decode cX0_beginAnew 41 = .ok (.aload_n 0, 1) := by decide +kernel
theorem dX0_beginAnew_42 : decode cX0_beginAnew 42 = .ok (.getfield 22, 3) := by decide +kernel
theorem dX0_beginAnew_45 : decode cX0_beginAnew 45 = .ok (.iload_n 2, 1) := by decide +kernel
theorem dX0_beginAnew_46 : decode cX0_beginAnew 46 = .ok (.iconst 0, 1) := by decide +kernel
theorem dX0_beginAnew_47 : decode cX0_beginAnew 47 = .ok (.iastore, 1) := by decide +kernel
theorem dX0_beginAnew_48 : decode cX0_beginAnew 48 = .ok (.aload_n 0, 1) := by decide +kernel
theorem dX0_beginAnew_49 : decode cX0_beginAnew 49 = .ok (.getfield 25, 3) := by decide +kernel
theorem dX0_beginAnew_52 : decode cX0_beginAnew 52 = .ok (.iload_n 2, 1) := by decide +kernel
theorem dX0_beginAnew_53 : decode cX0_beginAnew 53 = .ok (.iconst 0, 1) := by decide +kernel
theorem dX0_beginAnew_54 : decode cX0_beginAnew 54 = .ok (.iastore, 1) := by decide +kernel
theorem dX0_beginAnew_55 : decode cX0_beginAnew 55 = .ok (.iinc 2 1, 3) := by decide +kernel
theorem dX0_beginAnew_58 : decode cX0_beginAnew 58 = .ok (.goto (-31), 3) := by decide +kernel
theorem dX0_beginAnew_61 : decode cX0_beginAnew 61 = .ok (.aload_n 0, 1) := by decide +kernel
theorem dX0_beginAnew_62 : decode cX0_beginAnew 62 = .ok (.iconst 0, 1) := by decide +kernel
theorem dX0_beginAnew_63 : decode cX0_beginAnew 63 = .ok (.putfield 28, 3) := by decide +kernel
theorem dX0_beginAnew_66 : decode cX0_beginAnew 66 = .ok (.aload_n 0, 1) := by decide +kernel
theorem dX0_beginAnew_67 : decode cX0_beginAnew 67 = .ok (.iconst 0, 1) := by decide +kernel
theorem dX0_beginAnew_68 : decode cX0_beginAnew 68 = .ok (.putfield 32, 3) := by decide +kernel
theorem dX0_beginAnew_71 : decode cX0_beginAnew 71 = .ok (.aload_n 0, 1) := by decide +kernel
theorem dX0_beginAnew_72 : decode cX0_beginAnew 72 = .ok (.iconst (-1), 1) := by decide +kernel
theorem dX0_beginAnew_73 : decode cX0_beginAnew 73 = .ok (.putfield 36, 3) := by decide +kernel
theorem dX0_beginAnew_76 : decode cX0_beginAnew 76 = .ok (.aload_n 0, 1) := by decide +kernel
theorem dX0_beginAnew_77 : decode cX0_beginAnew 77 = .ok (.iconst 0, 1) := by decide +kernel
theorem dX0_beginAnew_78 : decode cX0_beginAnew 78 = .ok (.putfield 42, 3) := by decide +kernel
theorem dX0_beginAnew_81 : decode cX0_beginAnew 81 = .ok (.return_, 1) := by decide +kernel
theorem dX0_goBy_0 : decode cX0_goBy 0 = .ok (.aload_n 1, 1) := by decide +kernel
theorem dX0_goBy_1 : decode cX0_goBy 1 = .ok (.ifnull 8, 3) := by decide +kernel
theorem dX0_goBy_4 : decode cX0_goBy 4 = .ok (.aload_n 0, 1) := by decide +kernel
theorem dX0_goBy_5 : decode cX0_goBy 5 = .ok (.aload_n 1, 1) := by decide +kernel
theorem dX0_goBy_6 : decode cX0_goBy 6 = .ok (.putfield 45, 3) := by decide +kernel
theorem dX0_goBy_9 : decode cX0_goBy 9 = .ok (.return_, 1) := by decide +kernel
theorem dX0_putValue_0 : decode cX0_putValue 0 = .ok (.iload_n 1, 1) := by decide +kernel
theorem dX0_putValue_1 : decode cX0_putValue 1 = .ok (.invokestatic 53, 3) := by decide +kernel
theorem dX0_putValue_4 : decode cX0_putValue 4 = .ok (.ifCond .eq 10, 3) := by decide +kernel
theorem dX0_putValue_7 : decode cX0_putValue 7 = .ok (.aload_n 0, 1) := by decide +kernel
theorem dX0_putValue_8 : decode cX0_putValue 8 = .ok (.getfield 9, 3) := by decide +kernel
theorem dX0_putValue_11 : decode cX0_putValue 11 = .ok (.iload_n 1, 1) := by decide +kernel
theorem dX0_putValue_12 : decode cX0_putValue 12 = .ok (.iload_n 2, 1) := by decide +kernel
theorem dX0_putValue_13 : decode cX0_putValue 13 = .ok (.iastore, 1) := by decide +kernel
theorem dX0_putValue_14 : decode cX0_putValue 14 = .ok (.return_, 1) := by decide +kernel
theorem dX0_growOlder_0 : decode cX0_growOlder 0 = .ok (.aload_n 0, 1) := by decide +kernel
theorem dX0_growOlder_1 : decode cX0_growOlder 1 = .ok (.dup, 1) := by decide +kernel
theorem dX0_growOlder_2 : decode cX0_growOlder 2 = .ok (.getfield 28, 3) := by decide +kernel
theorem dX0_growOlder_5 : decode cX0_growOlder 5 = .ok (.iconst 1, 1) := by decide +kernel
theorem dX0_growOlder_6 : decode cX0_growOlder 6 = .ok (.iadd, 1) := by decide +kernel
theorem dX0_growOlder_7 : decode cX0_growOlder 7 = .ok (.putfield 28, 3) := by decide +kernel
theorem dX0_growOlder_10 : decode cX0_growOlder 10 = .ok (.aload_n 0, 1) := by decide +kernel
theorem dX0_growOlder_11 : decode cX0_growOlder 11 = .ok (.getfield 32, 3) := by decide +kernel
theorem dX0_growOlder_14 : decode cX0_growOlder 14 = .ok (.ifCond .eq 4, 3) := by decide +kernel
theorem dX0_growOlder_17 : decode cX0_growOlder 17 = .ok (.return_, 1) := by decide +kernel
theorem dX0_growOlder_18 : decode cX0_growOlder 18 = .ok (.iconst 0, 1) := by decide +kernel
theorem dX0_growOlder_19 : decode cX0_growOlder 19 = .ok (.istore_n 1, 1) := by decide +kernel
theorem dX0_growOlder_20 : decode cX0_growOlder 20 = .ok (.iload_n 1, 1) := by decide +kernel
theorem dX0_growOlder_21 : decode cX0_growOlder 21 = .ok (.bipush 8, 2) := by decide +kernel
theorem dX0_growOlder_23 : decode cX0_growOlder 23 = .ok (.if_icmp .ge 27, 3) := by decide +kernel
theorem dX0_growOlder_26 : decode cX0_growOlder 26 = .ok (.aload_n 0, 1) := by decide +kernel
theorem dX0_growOlder_27 : decode cX0_growOlder 27 = .ok (.iload_n 1, 1) := by decide +kernel
theorem dX0_growOlder_28 : decode cX0_growOlder 28 = .ok (.invokevirtual 57, 3) := by decide +kernel
theorem dX0_growOlder_31 : decode cX0_growOlder 31 = .ok (.ifCond .eq 13, 3) := by decide +kernel
theorem dX0_growOlder_34 : decode cX0_growOlder 34 = .ok (.aload_n 0, 1) := by decide +kernel
theorem dX0_growOlder_35 : decode cX0_growOlder 35 = .ok (.getfield 22, 3) := by decide +kernel
theorem dX0_growOlder_38 : decode cX0_growOlder 38 = .ok (.iload_n 1, 1) := by decide +kernel
theorem dX0_growOlder_39 : decode cX0_growOlder 39 = .ok (.dup2, 1) := by decide +kernel
theorem dX0_growOlder_40 : decode cX0_growOlder 40 = .ok (.iaload, 1) := by decide +kernel
theorem dX0_growOlder_41 : decode cX0_growOlder 41 = .ok (.iconst 1, 1) := by decide +kernel
theorem dX0_growOlder_42 : decode cX0_growOlder 42 = .ok (.iadd, 1) := by decide +kernel
theorem dX0_growOlder_43 : decode cX0_growOlder 43 = .ok (.iastore, 1) := by decide +kernel
theorem dX0_growOlder_44 : decode cX0_growOlder 44 = .ok (.iinc 1 1, 3) := by decide +kernel
theorem dX0_growOlder_47 : decode cX0_growOlder 47 = .ok (.goto (-27), 3) := by decide +kernel
theorem dX0_growOlder_50 : decode cX0_growOlder 50 = .ok (.return_, 1) := by decide +kernel
theorem dX0_runRounds_0 : decode cX0_runRounds 0 = .ok (.aload_n 0, 1) := by decide +kernel
theorem dX0_runRounds_1 : decode cX0_runRounds 1 = .ok (.iconst 0, 1) := by decide +kernel
theorem dX0_runRounds_2 : decode cX0_runRounds 2 = .ok (.putfield 39, 3) := by decide +kernel
theorem dX0_runRounds_5 : decode cX0_runRounds 5 = .ok (.iconst 1, 1) := by decide +kernel
theorem dX0_runRounds_6 : decode cX0_runRounds 6 = .ok (.istore_n 1, 1) := by decide +kernel
theorem dX0_runRounds_7 : decode cX0_runRounds 7 = .ok (.iload_n 1, 1) := by decide +kernel
theorem dX0_runRounds_8 : decode cX0_runRounds 8 = .ok (.bipush 20, 2) := by decide +kernel
theorem dX0_runRounds_10 : decode cX0_runRounds 10 = .ok (.if_icmp .gt 50, 3) := by decide +kernel
theorem dX0_runRounds_13 : decode cX0_runRounds 13 = .ok (.iconst 0, 1) := by decide +kernel
theorem dX0_runRounds_14 : decode cX0_runRounds 14 = .ok (.istore_n 2, 1) := by decide +kernel
theorem dX0_runRounds_15 : decode cX0_runRounds 15 = .ok (.iconst 0, 1) := by decide +kernel
theorem dX0_runRounds_16 : decode cX0_runRounds 16 = .ok (.istore_n 3, 1) := by decide +kernel
theorem dX0_runRounds_17 : decode cX0_runRounds 17 = .ok (.iload_n 3, 1) := by decide +kernel
theorem dX0_runRounds_18 : decode cX0_runRounds 18 = .ok (.aload_n 0, 1) := by decide +kernel
theorem dX0_runRounds_19 : decode cX0_runRounds 19 = .ok (.getfield 45, 3) := by decide +kernel
theorem dX0_runRounds_22 : decode cX0_runRounds 22 = .ok (.getfield 60, 3) := by decide +kernel
theorem dX0_runRounds_25 : decode cX0_runRounds 25 = .ok (.if_icmp .ge 19, 3) := by decide +kernel
theorem dX0_runRounds_28 : decode cX0_runRounds 28 = .ok (.aload_n 0, 1) := by decide +kernel
theorem dX0_runRounds_29 : decode cX0_runRounds 29 = .ok (.iload_n 3, 1) := by decide +kernel
theorem dX0_runRounds_30 : decode cX0_runRounds 30 = .ok (.invokevirtual 65, 3) := by decide +kernel
theorem dX0_runRounds_33 : decode cX0_runRounds 33 = .ok (.ifCond .eq 5, 3) := by decide +kernel
theorem dX0_runRounds_36 : decode cX0_runRounds 36 = .ok (.iconst 1, 1) := by decide +kernel
theorem dX0_runRounds_37 : decode cX0_runRounds 37 = .ok (.istore_n 2, 1) := by decide +kernel
theorem dX0_runRounds_38 : decode cX0_runRounds 38 = .ok (.iinc 3 1, 3) := by decide +kernel
theorem dX0_runRounds_41 : decode cX0_runRounds 41 = .ok (.goto (-24), 3) := by decide +kernel
theorem dX0_runRounds_44 : decode cX0_runRounds 44 = .ok (.iload_n 2, 1) := by decide +kernel
theorem dX0_runRounds_45 : decode cX0_runRounds 45 = .ok (.ifCond .ne 4, 3) := by decide +kernel
theorem dX0_runRounds_48 : decode cX0_runRounds 48 = .ok (.return_, 1) := by decide +kernel
theorem dX0_runRounds_49 : decode cX0_runRounds 49 = .ok (.aload_n 0, 1) := by decide +kernel
theorem dX0_runRounds_50 : decode cX0_runRounds 50 = .ok (.iload_n 1, 1) := by decide +kernel
theorem dX0_runRounds_51 : decode cX0_runRounds 51 = .ok (.putfield 39, 3) := by decide +kernel
theorem dX0_runRounds_54 : decode cX0_runRounds 54 = .ok (.iinc 1 1, 3) := by decide +kernel
theorem dX0_runRounds_57 : decode cX0_runRounds 57 = .ok (.goto (-50), 3) := by decide +kernel
theorem dX0_runRounds_60 : decode cX0_runRounds 60 = .ok (.return_, 1) := by decide +kernel
theorem dX0_applyRule_0 : decode cX0_applyRule 0 = .ok (.aload_n 0, 1) := by decide +kernel
theorem dX0_applyRule_1 : decode cX0_applyRule 1 = .ok (.getfield 45, 3) := by decide +kernel
theorem dX0_applyRule_4 : decode cX0_applyRule 4 = .ok (.iload_n 1, 1) := by decide +kernel
theorem dX0_applyRule_5 : decode cX0_applyRule 5 = .ok (.invokevirtual 68, 3) := by decide +kernel
theorem dX0_applyRule_8 : decode cX0_applyRule 8 = .ok (.astore_n 2, 1) := by decide +kernel
theorem dX0_applyRule_9 : decode cX0_applyRule 9 = .ok (.aload_n 2, 1) := by decide +kernel
theorem dX0_applyRule_10 : decode cX0_applyRule 10 = .ok (.ifnonnull 5, 3) := by decide +kernel
theorem dX0_applyRule_13 : decode cX0_applyRule 13 = .ok (.iconst 0, 1) := by decide +kernel
theorem dX0_applyRule_14 : decode cX0_applyRule 14 = .ok (.ireturn, 1) := by decide +kernel
theorem dX0_applyRule_15 : decode cX0_applyRule 15 = .ok (.aload_n 0, 1) := by decide +kernel
theorem dX0_applyRule_16 : decode cX0_applyRule 16 = .ok (.iload_n 1, 1) := by decide +kernel
theorem dX0_applyRule_17 : decode cX0_applyRule 17 = .ok (.invokevirtual 72, 3) := by decide +kernel
theorem dX0_applyRule_20 : decode cX0_applyRule 20 = .ok (.istore_n 3, 1) := by decide +kernel
theorem dX0_applyRule_21 : decode cX0_applyRule 21 = .ok (.iload_n 3, 1) := by decide +kernel
theorem dX0_applyRule_22 : decode cX0_applyRule 22 = .ok (.bipush 97, 2) := by decide +kernel
theorem dX0_applyRule_24 : decode cX0_applyRule 24 = .ok (.if_icmp .ne 23, 3) := by decide +kernel
theorem dX0_applyRule_27 : decode cX0_applyRule 27 = .ok (.aload_n 0, 1) := by decide +kernel
theorem dX0_applyRule_28 : decode cX0_applyRule 28 = .ok (.aload_n 2, 1) := by decide +kernel
theorem dX0_applyRule_29 : decode cX0_applyRule 29 = .ok (.getfield 76, 3) := by decide +kernel
theorem dX0_applyRule_32 : decode cX0_applyRule 32 = .ok (.invokevirtual 82, 3) := by decide +kernel
theorem dX0_applyRule_35 : decode cX0_applyRule 35 = .ok (.ifCond .eq 12, 3) := by decide +kernel
theorem dX0_applyRule_38 : decode cX0_applyRule 38 = .ok (.aload_n 0, 1) := by decide +kernel
theorem dX0_applyRule_39 : decode cX0_applyRule 39 = .ok (.iload_n 1, 1) := by decide +kernel
theorem dX0_applyRule_40 : decode cX0_applyRule 40 = .ok (.bipush 120, 2) := by decide +kernel
theorem dX0_applyRule_42 : decode cX0_applyRule 42 = .ok (.invokevirtual 86, 3) := by decide +kernel
theorem dX0_applyRule_45 : decode cX0_applyRule 45 = .ok (.iconst 1, 1) := by decide +kernel
theorem dX0_applyRule_46 : decode cX0_applyRule 46 = .ok (.ireturn, 1) := by decide +kernel
theorem dX0_applyRule_47 : decode cX0_applyRule 47 = .ok (.iload_n 3, 1) := by decide +kernel
theorem dX0_applyRule_48 : decode cX0_applyRule 48 = .ok (.bipush 105, 2) := by decide +kernel
theorem dX0_applyRule_50 : decode cX0_applyRule 50 = .ok (.if_icmp .ne 43, 3) := by decide +kernel
theorem dX0_applyRule_53 : decode cX0_applyRule 53 = .ok (.aload_n 0, 1) := by decide +kernel
theorem dX0_applyRule_54 : decode cX0_applyRule 54 = .ok (.aload_n 2, 1) := by decide +kernel
theorem dX0_applyRule_55 : decode cX0_applyRule 55 = .ok (.invokevirtual 90, 3) := by decide +kernel
theorem dX0_applyRule_58 : decode cX0_applyRule 58 = .ok (.ifCond .eq 35, 3) := by decide +kernel
theorem dX0_applyRule_61 : decode cX0_applyRule 61 = .ok (.aload_n 2, 1) := by decide +kernel
theorem dX0_applyRule_62 : decode cX0_applyRule 62 = .ok (.getfield 94, 3) := by decide +kernel
theorem dX0_applyRule_65 : decode cX0_applyRule 65 = .ok (.getfield 97, 3) := by decide +kernel
theorem dX0_applyRule_68 : decode cX0_applyRule 68 = .ok (.ifCond .eq 14, 3) := by decide +kernel
theorem dX0_applyRule_71 : decode cX0_applyRule 71 = .ok (.aload_n 0, 1) := by decide +kernel
theorem dX0_applyRule_72 : decode cX0_applyRule 72 = .ok (.aload_n 2, 1) := by decide +kernel
theorem dX0_applyRule_73 : decode cX0_applyRule 73 = .ok (.getfield 94, 3) := by decide +kernel
theorem dX0_applyRule_76 : decode cX0_applyRule 76 = .ok (.invokevirtual 82, 3) := by decide +kernel
theorem dX0_applyRule_79 : decode cX0_applyRule 79 = .ok (.ifCond .eq 14, 3) := by decide +kernel
theorem dX0_applyRule_82 : decode cX0_applyRule 82 = .ok (.aload_n 0, 1) := by decide +kernel
theorem dX0_applyRule_83 : decode cX0_applyRule 83 = .ok (.iload_n 1, 1) := by decide +kernel
theorem dX0_applyRule_84 : decode cX0_applyRule 84 = .ok (.aload_n 2, 1) := by decide +kernel
theorem dX0_applyRule_85 : decode cX0_applyRule 85 = .ok (.getfield 100, 3) := by decide +kernel
theorem dX0_applyRule_88 : decode cX0_applyRule 88 = .ok (.invokevirtual 104, 3) := by decide +kernel
theorem dX0_applyRule_91 : decode cX0_applyRule 91 = .ok (.iconst 1, 1) := by decide +kernel
theorem dX0_applyRule_92 : decode cX0_applyRule 92 = .ok (.ireturn, 1) := by decide +kernel
theorem dX0_applyRule_93 : decode cX0_applyRule 93 = .ok (.iload_n 3, 1) := by decide +kernel
theorem dX0_applyRule_94 : decode cX0_applyRule 94 = .ok (.bipush 97, 2) := by decide +kernel
theorem dX0_applyRule_96 : decode cX0_applyRule 96 = .ok (.if_icmp .ne 29, 3) := by decide +kernel
theorem dX0_applyRule_99 : decode cX0_applyRule 99 = .ok (.aload_n 2, 1) := by decide +kernel
theorem dX0_applyRule_100 : decode cX0_applyRule 100 = .ok (.getfield 100, 3) := by decide +kernel
theorem dX0_applyRule_103 : decode cX0_applyRule 103 = .ok (.bipush 115, 2) := by decide +kernel
theorem dX0_applyRule_105 : decode cX0_applyRule 105 = .ok (.if_icmp .ne 20, 3) := by decide +kernel
theorem dX0_applyRule_108 : decode cX0_applyRule 108 = .ok (.aload_n 0, 1) := by decide +kernel
theorem dX0_applyRule_109 : decode cX0_applyRule 109 = .ok (.iload_n 1, 1) := by decide +kernel
theorem dX0_applyRule_110 : decode cX0_applyRule 110 = .ok (.invokevirtual 107, 3) := by decide +kernel
theorem dX0_applyRule_113 : decode cX0_applyRule 113 = .ok (.ifCond .eq 12, 3) := by decide +kernel
theorem dX0_applyRule_116 : decode cX0_applyRule 116 = .ok (.aload_n 0, 1) := by decide +kernel
theorem dX0_applyRule_117 : decode cX0_applyRule 117 = .ok (.iload_n 1, 1) := by decide +kernel
theorem dX0_applyRule_118 : decode cX0_applyRule 118 = .ok (.bipush 99, 2) := by decide +kernel
theorem dX0_applyRule_120 : decode cX0_applyRule 120 = .ok (.invokevirtual 86, 3) := by decide +kernel
theorem dX0_applyRule_123 : decode cX0_applyRule 123 = .ok (.iconst 1, 1) := by decide +kernel
theorem dX0_applyRule_124 : decode cX0_applyRule 124 = .ok (.ireturn, 1) := by decide +kernel
theorem dX0_applyRule_125 : decode cX0_applyRule 125 = .ok (.iload_n 3, 1) := by decide +kernel
theorem dX0_applyRule_126 : decode cX0_applyRule 126 = .ok (.bipush 99, 2) := by decide +kernel
theorem dX0_applyRule_128 : decode cX0_applyRule 128 = .ok (.if_icmp .ne 49, 3) := by decide +kernel
theorem dX0_applyRule_131 : decode cX0_applyRule 131 = .ok (.aload_n 2, 1) := by decide +kernel
theorem dX0_applyRule_132 : decode cX0_applyRule 132 = .ok (.getfield 100, 3) := by decide +kernel
theorem dX0_applyRule_135 : decode cX0_applyRule 135 = .ok (.bipush 109, 2) := by decide +kernel
theorem dX0_applyRule_137 : decode cX0_applyRule 137 = .ok (.if_icmp .ne 40, 3) := by decide +kernel
theorem dX0_applyRule_140 : decode cX0_applyRule 140 = .ok (.aload_n 2, 1) := by decide +kernel
theorem dX0_applyRule_141 : decode cX0_applyRule 141 = .ok (.getfield 110, 3) := by decide +kernel
theorem dX0_applyRule_144 : decode cX0_applyRule 144 = .ok (.ifCond .eq 33, 3) := by decide +kernel
theorem dX0_applyRule_147 : decode cX0_applyRule 147 = .ok (.aload_n 2, 1) := by decide +kernel
theorem dX0_applyRule_148 : decode cX0_applyRule 148 = .ok (.getfield 94, 3) := by decide +kernel
theorem dX0_applyRule_151 : decode cX0_applyRule 151 = .ok (.getfield 97, 3) := by decide +kernel
theorem dX0_applyRule_154 : decode cX0_applyRule 154 = .ok (.ifCond .le 23, 3) := by decide +kernel
theorem dX0_applyRule_157 : decode cX0_applyRule 157 = .ok (.aload_n 0, 1) := by decide +kernel
theorem dX0_applyRule_158 : decode cX0_applyRule 158 = .ok (.aload_n 2, 1) := by decide +kernel
theorem dX0_applyRule_159 : decode cX0_applyRule 159 = .ok (.getfield 94, 3) := by decide +kernel
theorem dX0_applyRule_162 : decode cX0_applyRule 162 = .ok (.invokevirtual 82, 3) := by decide +kernel
theorem dX0_applyRule_165 : decode cX0_applyRule 165 = .ok (.ifCond .ne 12, 3) := by decide +kernel
theorem dX0_applyRule_168 : decode cX0_applyRule 168 = .ok (.aload_n 0, 1) := by decide +kernel
theorem dX0_applyRule_169 : decode cX0_applyRule 169 = .ok (.iload_n 1, 1) := by decide +kernel
theorem dX0_applyRule_170 : decode cX0_applyRule 170 = .ok (.bipush 105, 2) := by decide +kernel
theorem dX0_applyRule_172 : decode cX0_applyRule 172 = .ok (.invokevirtual 113, 3) := by decide +kernel
theorem dX0_applyRule_175 : decode cX0_applyRule 175 = .ok (.iconst 1, 1) := by decide +kernel
theorem dX0_applyRule_176 : decode cX0_applyRule 176 = .ok (.ireturn, 1) := by decide +kernel
theorem dX0_applyRule_177 : decode cX0_applyRule 177 = .ok (.iconst 0, 1) := by decide +kernel
theorem dX0_applyRule_178 : decode cX0_applyRule 178 = .ok (.ireturn, 1) := by decide +kernel
theorem dX0_isParentActive_0 : decode cX0_isParentActive 0 = .ok (.aload_n 1, 1) := by decide +kernel
theorem dX0_isParentActive_1 : decode cX0_isParentActive 1 = .ok (.getfield 116, 3) := by decide +kernel
theorem dX0_isParentActive_4 : decode cX0_isParentActive 4 = .ok (.iconst (-1), 1) := by decide +kernel
theorem dX0_isParentActive_5 : decode cX0_isParentActive 5 = .ok (.if_icmp .eq 16, 3) := by decide +kernel
theorem dX0_isParentActive_8 : decode cX0_isParentActive 8 = .ok (.aload_n 0, 1) := by decide +kernel
theorem dX0_isParentActive_9 : decode cX0_isParentActive 9 = .ok (.aload_n 1, 1) := by decide +kernel
theorem dX0_isParentActive_10 : decode cX0_isParentActive 10 = .ok (.getfield 116, 3) := by decide +kernel
theorem dX0_isParentActive_13 : decode cX0_isParentActive 13 = .ok (.invokevirtual 72, 3) := by decide +kernel
theorem dX0_isParentActive_16 : decode cX0_isParentActive 16 = .ok (.bipush 97, 2) := by decide +kernel
theorem dX0_isParentActive_18 : decode cX0_isParentActive 18 = .ok (.if_icmp .ne 7, 3) := by decide +kernel
theorem dX0_isParentActive_21 : decode cX0_isParentActive 21 = .ok (.iconst 1, 1) := by decide +kernel
theorem dX0_isParentActive_22 : decode cX0_isParentActive 22 = .ok (.goto 4, 3) := by decide +kernel
theorem dX0_isParentActive_25 : decode cX0_isParentActive 25 = .ok (.iconst 0, 1) := by decide +kernel
theorem dX0_isParentActive_26 : decode cX0_isParentActive 26 = .ok (.ireturn, 1) := by decide +kernel
theorem dX0_enter_0 : decode cX0_enter 0 = .ok (.aload_n 0, 1) := by decide +kernel
theorem dX0_enter_1 : decode cX0_enter 1 = .ok (.iload_n 1, 1) := by decide +kernel
theorem dX0_enter_2 : decode cX0_enter 2 = .ok (.iload_n 2, 1) := by decide +kernel
theorem dX0_enter_3 : decode cX0_enter 3 = .ok (.bipush 109, 2) := by decide +kernel
theorem dX0_enter_5 : decode cX0_enter 5 = .ok (.if_icmp .ne 8, 3) := by decide +kernel
theorem dX0_enter_8 : decode cX0_enter 8 = .ok (.bipush 99, 2) := by decide +kernel
theorem dX0_enter_10 : decode cX0_enter 10 = .ok (.goto 5, 3) := by decide +kernel
theorem dX0_enter_13 : decode cX0_enter 13 = .ok (.bipush 97, 2) := by decide +kernel
theorem dX0_enter_15 : decode cX0_enter 15 = .ok (.invokevirtual 113, 3) := by decide +kernel
theorem dX0_enter_18 : decode cX0_enter 18 = .ok (.iload_n 1, 1) := by decide +kernel
theorem dX0_enter_19 : decode cX0_enter 19 = .ok (.ifCond .lt 19, 3) := by decide +kernel
theorem dX0_enter_22 : decode cX0_enter 22 = .ok (.iload_n 1, 1) := by decide +kernel
theorem dX0_enter_23 : decode cX0_enter 23 = .ok (.bipush 8, 2) := by decide +kernel
theorem dX0_enter_25 : decode cX0_enter 25 = .ok (.if_icmp .ge 13, 3) := by decide +kernel
theorem dX0_enter_28 : decode cX0_enter 28 = .ok (.aload_n 0, 1) := by decide +kernel
theorem dX0_enter_29 : decode cX0_enter 29 = .ok (.getfield 25, 3) := by decide +kernel
theorem dX0_enter_32 : decode cX0_enter 32 = .ok (.iload_n 1, 1) := by decide +kernel
theorem dX0_enter_33 : decode cX0_enter 33 = .ok (.dup2, 1) := by decide +kernel
theorem dX0_enter_34 : decode cX0_enter 34 = .ok (.iaload, 1) := by decide +kernel
theorem dX0_enter_35 : decode cX0_enter 35 = .ok (.iconst 1, 1) := by decide +kernel
theorem dX0_enter_36 : decode cX0_enter 36 = .ok (.iadd, 1) := by decide +kernel
theorem dX0_enter_37 : decode cX0_enter 37 = .ok (.iastore, 1) := by decide +kernel
theorem dX0_enter_38 : decode cX0_enter 38 = .ok (.return_, 1) := by decide +kernel
theorem dX0_finish_0 : decode cX0_finish 0 = .ok (.aload_n 0, 1) := by decide +kernel
theorem dX0_finish_1 : decode cX0_finish 1 = .ok (.iload_n 1, 1) := by decide +kernel
theorem dX0_finish_2 : decode cX0_finish 2 = .ok (.iload_n 2, 1) := by decide +kernel
theorem dX0_finish_3 : decode cX0_finish 3 = .ok (.invokevirtual 113, 3) := by decide +kernel
theorem dX0_finish_6 : decode cX0_finish 6 = .ok (.iconst 1, 1) := by decide +kernel
theorem dX0_finish_7 : decode cX0_finish 7 = .ok (.iload_n 1, 1) := by decide +kernel
theorem dX0_finish_8 : decode cX0_finish 8 = .ok (.ishl, 1) := by decide +kernel
theorem dX0_finish_9 : decode cX0_finish 9 = .ok (.istore_n 3, 1) := by decide +kernel
theorem dX0_finish_10 : decode cX0_finish 10 = .ok (.iload_n 1, 1) := by decide +kernel
theorem dX0_finish_11 : decode cX0_finish 11 = .ok (.iconst 1, 1) := by decide +kernel
theorem dX0_finish_12 : decode cX0_finish 12 = .ok (.iadd, 1) := by decide +kernel
theorem dX0_finish_13 : decode cX0_finish 13 = .ok (.istore 4, 2) := by decide +kernel
theorem dX0_finish_15 : decode cX0_finish 15 = .ok (.iload 4, 2) := by decide +kernel
theorem dX0_finish_17 : decode cX0_finish 17 = .ok (.aload_n 0, 1) := by decide +kernel
theorem dX0_finish_18 : decode cX0_finish 18 = .ok (.getfield 45, 3) := by decide +kernel
theorem dX0_finish_21 : decode cX0_finish 21 = .ok (.getfield 60, 3) := by decide +kernel
theorem dX0_finish_24 : decode cX0_finish 24 = .ok (.if_icmp .ge 86, 3) := by decide +kernel
theorem dX0_finish_27 : decode cX0_finish 27 = .ok (.aload_n 0, 1) := by decide +kernel
theorem dX0_finish_28 : decode cX0_finish 28 = .ok (.getfield 45, 3) := by decide +kernel
theorem dX0_finish_31 : decode cX0_finish 31 = .ok (.iload 4, 2) := by decide +kernel
theorem dX0_finish_33 : decode cX0_finish 33 = .ok (.invokevirtual 68, 3) := by decide +kernel
theorem dX0_finish_36 : decode cX0_finish 36 = .ok (.astore 5, 2) := by decide +kernel
theorem dX0_finish_38 : decode cX0_finish 38 = .ok (.aload 5, 2) := by decide +kernel
theorem dX0_finish_40 : decode cX0_finish 40 = .ok (.ifnull 64, 3) := by decide +kernel
theorem dX0_finish_43 : decode cX0_finish 43 = .ok (.aload 5, 2) := by decide +kernel
theorem dX0_finish_45 : decode cX0_finish 45 = .ok (.getfield 116, 3) := by decide +kernel
theorem dX0_finish_48 : decode cX0_finish 48 = .ok (.iconst (-1), 1) := by decide +kernel
theorem dX0_finish_49 : decode cX0_finish 49 = .ok (.if_icmp .eq 55, 3) := by decide +kernel
theorem dX0_finish_52 : decode cX0_finish 52 = .ok (.iload_n 3, 1) := by decide +kernel
theorem dX0_finish_53 : decode cX0_finish 53 = .ok (.aload 5, 2) := by decide +kernel
theorem dX0_finish_55 : decode cX0_finish 55 = .ok (.getfield 116, 3) := by decide +kernel
theorem dX0_finish_58 : decode cX0_finish 58 = .ok (.ishr, 1) := by decide +kernel
theorem dX0_finish_59 : decode cX0_finish 59 = .ok (.iconst 1, 1) := by decide +kernel
theorem dX0_finish_60 : decode cX0_finish 60 = .ok (.iand, 1) := by decide +kernel
theorem dX0_finish_61 : decode cX0_finish 61 = .ok (.ifCond .ne 6, 3) := by decide +kernel
theorem dX0_finish_64 : decode cX0_finish 64 = .ok (.goto 40, 3) := by decide +kernel
theorem dX0_finish_67 : decode cX0_finish 67 = .ok (.aload_n 0, 1) := by decide +kernel
theorem dX0_finish_68 : decode cX0_finish 68 = .ok (.iload 4, 2) := by decide +kernel
theorem dX0_finish_70 : decode cX0_finish 70 = .ok (.invokevirtual 72, 3) := by decide +kernel
theorem dX0_finish_73 : decode cX0_finish 73 = .ok (.bipush 105, 2) := by decide +kernel
theorem dX0_finish_75 : decode cX0_finish 75 = .ok (.if_icmp .eq 14, 3) := by decide +kernel
theorem dX0_finish_78 : decode cX0_finish 78 = .ok (.aload_n 0, 1) := by decide +kernel
theorem dX0_finish_79 : decode cX0_finish 79 = .ok (.iload 4, 2) := by decide +kernel
theorem dX0_finish_81 : decode cX0_finish 81 = .ok (.invokevirtual 72, 3) := by decide +kernel
theorem dX0_finish_84 : decode cX0_finish 84 = .ok (.bipush 97, 2) := by decide +kernel
theorem dX0_finish_86 : decode cX0_finish 86 = .ok (.if_icmp .ne 18, 3) := by decide +kernel
theorem dX0_finish_89 : decode cX0_finish 89 = .ok (.aload_n 0, 1) := by decide +kernel
theorem dX0_finish_90 : decode cX0_finish 90 = .ok (.iload 4, 2) := by decide +kernel
theorem dX0_finish_92 : decode cX0_finish 92 = .ok (.bipush 120, 2) := by decide +kernel
theorem dX0_finish_94 : decode cX0_finish 94 = .ok (.invokevirtual 113, 3) := by decide +kernel
theorem dX0_finish_97 : decode cX0_finish 97 = .ok (.iload_n 3, 1) := by decide +kernel
theorem dX0_finish_98 : decode cX0_finish 98 = .ok (.iconst 1, 1) := by decide +kernel
theorem dX0_finish_99 : decode cX0_finish 99 = .ok (.iload 4, 2) := by decide +kernel
theorem dX0_finish_101 : decode cX0_finish 101 = .ok (.ishl, 1) := by decide +kernel
theorem dX0_finish_102 : decode cX0_finish 102 = .ok (.ior, 1) := by decide +kernel
theorem dX0_finish_103 : decode cX0_finish 103 = .ok (.istore_n 3, 1) := by decide +kernel
theorem dX0_finish_104 : decode cX0_finish 104 = .ok (.iinc 4 1, 3) := by decide +kernel
theorem dX0_finish_107 : decode cX0_finish 107 = .ok (.goto (-92), 3) := by decide +kernel
theorem dX0_finish_110 : decode cX0_finish 110 = .ok (.return_, 1) := by decide +kernel
theorem dX0_areChildrenDone_0 : decode cX0_areChildrenDone 0 = .ok (.iconst 0, 1) := by decide +kernel
theorem dX0_areChildrenDone_1 : decode cX0_areChildrenDone 1 = .ok (.istore_n 2, 1) := by decide +kernel
theorem dX0_areChildrenDone_2 : decode cX0_areChildrenDone 2 = .ok (.iconst 0, 1) := by decide +kernel
theorem dX0_areChildrenDone_3 : decode cX0_areChildrenDone 3 = .ok (.istore_n 3, 1) := by decide +kernel
theorem dX0_areChildrenDone_4 : decode cX0_areChildrenDone 4 = .ok (.iload_n 3, 1) := by decide +kernel
theorem dX0_areChildrenDone_5 : decode cX0_areChildrenDone 5 = .ok (.aload_n 0, 1) := by decide +kernel
theorem dX0_areChildrenDone_6 : decode cX0_areChildrenDone 6 = .ok (.getfield 45, 3) := by decide +kernel
theorem dX0_areChildrenDone_9 : decode cX0_areChildrenDone 9 = .ok (.getfield 60, 3) := by decide +kernel
theorem dX0_areChildrenDone_12 : decode cX0_areChildrenDone 12 = .ok (.if_icmp .ge 98, 3) := by decide +kernel
theorem dX0_areChildrenDone_15 : decode cX0_areChildrenDone 15 = .ok (.aload_n 0, 1) := by decide +kernel
theorem dX0_areChildrenDone_16 : decode cX0_areChildrenDone 16 = .ok (.getfield 45, 3) := by decide +kernel
theorem dX0_areChildrenDone_19 : decode cX0_areChildrenDone 19 = .ok (.iload_n 3, 1) := by decide +kernel
theorem dX0_areChildrenDone_20 : decode cX0_areChildrenDone 20 = .ok (.invokevirtual 68, 3) := by decide +kernel
theorem dX0_areChildrenDone_23 : decode cX0_areChildrenDone 23 = .ok (.astore 4, 2) := by decide +kernel
theorem dX0_areChildrenDone_25 : decode cX0_areChildrenDone 25 = .ok (.aload 4, 2) := by decide +kernel
theorem dX0_areChildrenDone_27 : decode cX0_areChildrenDone 27 = .ok (.ifnull 77, 3) := by decide +kernel
theorem dX0_areChildrenDone_30 : decode cX0_areChildrenDone 30 = .ok (.aload 4, 2) := by decide +kernel
theorem dX0_areChildrenDone_32 : decode cX0_areChildrenDone 32 = .ok (.getfield 116, 3) := by decide +kernel
theorem dX0_areChildrenDone_35 : decode cX0_areChildrenDone 35 = .ok (.iload_n 1, 1) := by decide +kernel
theorem dX0_areChildrenDone_36 : decode cX0_areChildrenDone 36 = .ok (.if_icmp .eq 6, 3) := by decide +kernel
theorem dX0_areChildrenDone_39 : decode cX0_areChildrenDone 39 = .ok (.goto 65, 3) := by decide +kernel
theorem dX0_areChildrenDone_42 : decode cX0_areChildrenDone 42 = .ok (.iconst 1, 1) := by decide +kernel
theorem dX0_areChildrenDone_43 : decode cX0_areChildrenDone 43 = .ok (.istore_n 2, 1) := by decide +kernel
theorem dX0_areChildrenDone_44 : decode cX0_areChildrenDone 44 = .ok (.aload_n 0, 1) := by decide +kernel
theorem dX0_areChildrenDone_45 : decode cX0_areChildrenDone 45 = .ok (.iload_n 3, 1) := by decide +kernel
theorem dX0_areChildrenDone_46 : decode cX0_areChildrenDone 46 = .ok (.invokevirtual 72, 3) := by decide +kernel
theorem dX0_areChildrenDone_49 : decode cX0_areChildrenDone 49 = .ok (.istore 5, 2) := by decide +kernel
theorem dX0_areChildrenDone_51 : decode cX0_areChildrenDone 51 = .ok (.iload 5, 2) := by decide +kernel
theorem dX0_areChildrenDone_53 : decode cX0_areChildrenDone 53 = .ok (.bipush 105, 2) := by decide +kernel
theorem dX0_areChildrenDone_55 : decode cX0_areChildrenDone 55 = .ok (.if_icmp .ne 25, 3) := by decide +kernel
theorem dX0_areChildrenDone_58 : decode cX0_areChildrenDone 58 = .ok (.aload 4, 2) := by decide +kernel
theorem dX0_areChildrenDone_60 : decode cX0_areChildrenDone 60 = .ok (.getfield 100, 3) := by decide +kernel
theorem dX0_areChildrenDone_63 : decode cX0_areChildrenDone 63 = .ok (.bipush 116, 2) := by decide +kernel
theorem dX0_areChildrenDone_65 : decode cX0_areChildrenDone 65 = .ok (.if_icmp .ne 15, 3) := by decide +kernel
theorem dX0_areChildrenDone_68 : decode cX0_areChildrenDone 68 = .ok (.aload 4, 2) := by decide +kernel
theorem dX0_areChildrenDone_70 : decode cX0_areChildrenDone 70 = .ok (.getfield 119, 3) := by decide +kernel
theorem dX0_areChildrenDone_73 : decode cX0_areChildrenDone 73 = .ok (.ifCond .ne 7, 3) := by decide +kernel
theorem dX0_areChildrenDone_76 : decode cX0_areChildrenDone 76 = .ok (.iconst 1, 1) := by decide +kernel
theorem dX0_areChildrenDone_77 : decode cX0_areChildrenDone 77 = .ok (.goto 4, 3) := by decide +kernel
theorem dX0_areChildrenDone_80 : decode cX0_areChildrenDone 80 = .ok (.iconst 0, 1) := by decide +kernel
theorem dX0_areChildrenDone_81 : decode cX0_areChildrenDone 81 = .ok (.istore 6, 2) := by decide +kernel
theorem dX0_areChildrenDone_83 : decode cX0_areChildrenDone 83 = .ok (.iload 5, 2) := by decide +kernel
theorem dX0_areChildrenDone_85 : decode cX0_areChildrenDone 85 = .ok (.bipush 99, 2) := by decide +kernel
theorem dX0_areChildrenDone_87 : decode cX0_areChildrenDone 87 = .ok (.if_icmp .eq 17, 3) := by decide +kernel
theorem dX0_areChildrenDone_90 : decode cX0_areChildrenDone 90 = .ok (.iload 5, 2) := by decide +kernel
theorem dX0_areChildrenDone_92 : decode cX0_areChildrenDone 92 = .ok (.bipush 120, 2) := by decide +kernel
theorem dX0_areChildrenDone_94 : decode cX0_areChildrenDone 94 = .ok (.if_icmp .eq 10, 3) := by decide +kernel
theorem dX0_areChildrenDone_97 : decode cX0_areChildrenDone 97 = .ok (.iload 6, 2) := by decide +kernel
theorem dX0_areChildrenDone_99 : decode cX0_areChildrenDone 99 = .ok (.ifCond .ne 5, 3) := by decide +kernel
theorem dX0_areChildrenDone_102 : decode cX0_areChildrenDone 102 = .ok (.iconst 0, 1) := by decide +kernel
theorem dX0_areChildrenDone_103 : decode cX0_areChildrenDone 103 = .ok (.ireturn, 1) := by decide +kernel
theorem dX0_areChildrenDone_104 : decode cX0_areChildrenDone 104 = .ok (.iinc 3 1, 3) := by decide +kernel
theorem dX0_areChildrenDone_107 : decode cX0_areChildrenDone 107 = .ok (.goto (-103), 3) := by decide +kernel
theorem dX0_areChildrenDone_110 : decode cX0_areChildrenDone 110 = .ok (.iload_n 2, 1) := by decide +kernel
theorem dX0_areChildrenDone_111 : decode cX0_areChildrenDone 111 = .ok (.ireturn, 1) := by decide +kernel
theorem dX0_anyMet_0 : decode cX0_anyMet 0 = .ok (.iconst 0, 1) := by decide +kernel
theorem dX0_anyMet_1 : decode cX0_anyMet 1 = .ok (.istore_n 2, 1) := by decide +kernel
theorem dX0_anyMet_2 : decode cX0_anyMet 2 = .ok (.iload_n 2, 1) := by decide +kernel
theorem dX0_anyMet_3 : decode cX0_anyMet 3 = .ok (.aload_n 1, 1) := by decide +kernel
theorem dX0_anyMet_4 : decode cX0_anyMet 4 = .ok (.getfield 97, 3) := by decide +kernel
theorem dX0_anyMet_7 : decode cX0_anyMet 7 = .ok (.if_icmp .ge 29, 3) := by decide +kernel
theorem dX0_anyMet_10 : decode cX0_anyMet 10 = .ok (.aload_n 1, 1) := by decide +kernel
theorem dX0_anyMet_11 : decode cX0_anyMet 11 = .ok (.iload_n 2, 1) := by decide +kernel
theorem dX0_anyMet_12 : decode cX0_anyMet 12 = .ok (.invokevirtual 122, 3) := by decide +kernel
theorem dX0_anyMet_15 : decode cX0_anyMet 15 = .ok (.astore_n 3, 1) := by decide +kernel
theorem dX0_anyMet_16 : decode cX0_anyMet 16 = .ok (.aload_n 3, 1) := by decide +kernel
theorem dX0_anyMet_17 : decode cX0_anyMet 17 = .ok (.ifnull 13, 3) := by decide +kernel
theorem dX0_anyMet_20 : decode cX0_anyMet 20 = .ok (.aload_n 0, 1) := by decide +kernel
theorem dX0_anyMet_21 : decode cX0_anyMet 21 = .ok (.aload_n 3, 1) := by decide +kernel
theorem dX0_anyMet_22 : decode cX0_anyMet 22 = .ok (.invokevirtual 126, 3) := by decide +kernel
theorem dX0_anyMet_25 : decode cX0_anyMet 25 = .ok (.ifCond .eq 5, 3) := by decide +kernel
theorem dX0_anyMet_28 : decode cX0_anyMet 28 = .ok (.iconst 1, 1) := by decide +kernel
theorem dX0_anyMet_29 : decode cX0_anyMet 29 = .ok (.ireturn, 1) := by decide +kernel
theorem dX0_anyMet_30 : decode cX0_anyMet 30 = .ok (.iinc 2 1, 3) := by decide +kernel
theorem dX0_anyMet_33 : decode cX0_anyMet 33 = .ok (.goto (-31), 3) := by decide +kernel
theorem dX0_anyMet_36 : decode cX0_anyMet 36 = .ok (.iconst 0, 1) := by decide +kernel
theorem dX0_anyMet_37 : decode cX0_anyMet 37 = .ok (.ireturn, 1) := by decide +kernel
theorem dX0_isMet_0 : decode cX0_isMet 0 = .ok (.aload_n 1, 1) := by decide +kernel
theorem dX0_isMet_1 : decode cX0_isMet 1 = .ok (.getfield 130, 3) := by decide +kernel
theorem dX0_isMet_4 : decode cX0_isMet 4 = .ok (.istore_n 2, 1) := by decide +kernel
theorem dX0_isMet_5 : decode cX0_isMet 5 = .ok (.aload_n 1, 1) := by decide +kernel
theorem dX0_isMet_6 : decode cX0_isMet 6 = .ok (.getfield 135, 3) := by decide +kernel
theorem dX0_isMet_9 : decode cX0_isMet 9 = .ok (.istore_n 3, 1) := by decide +kernel
theorem dX0_isMet_10 : decode cX0_isMet 10 = .ok (.iload_n 2, 1) := by decide +kernel
theorem dX0_isMet_11 : decode cX0_isMet 11 = .ok (.bipush 100, 2) := by decide +kernel
theorem dX0_isMet_13 : decode cX0_isMet 13 = .ok (.if_icmp .ne 31, 3) := by decide +kernel
theorem dX0_isMet_16 : decode cX0_isMet 16 = .ok (.iload_n 3, 1) := by decide +kernel
theorem dX0_isMet_17 : decode cX0_isMet 17 = .ok (.ifCond .lt 25, 3) := by decide +kernel
theorem dX0_isMet_20 : decode cX0_isMet 20 = .ok (.iload_n 3, 1) := by decide +kernel
theorem dX0_isMet_21 : decode cX0_isMet 21 = .ok (.iconst 4, 1) := by decide +kernel
theorem dX0_isMet_22 : decode cX0_isMet 22 = .ok (.if_icmp .ge 20, 3) := by decide +kernel
theorem dX0_isMet_25 : decode cX0_isMet 25 = .ok (.aload_n 0, 1) := by decide +kernel
theorem dX0_isMet_26 : decode cX0_isMet 26 = .ok (.getfield 9, 3) := by decide +kernel
theorem dX0_isMet_29 : decode cX0_isMet 29 = .ok (.iload_n 3, 1) := by decide +kernel
theorem dX0_isMet_30 : decode cX0_isMet 30 = .ok (.iaload, 1) := by decide +kernel
theorem dX0_isMet_31 : decode cX0_isMet 31 = .ok (.aload_n 1, 1) := by decide +kernel
theorem dX0_isMet_32 : decode cX0_isMet 32 = .ok (.getfield 138, 3) := by decide +kernel
theorem dX0_isMet_35 : decode cX0_isMet 35 = .ok (.if_icmp .lt 7, 3) := by decide +kernel
theorem dX0_isMet_38 : decode cX0_isMet 38 = .ok (.iconst 1, 1) := by decide +kernel
theorem dX0_isMet_39 : decode cX0_isMet 39 = .ok (.goto 4, 3) := by decide +kernel
theorem dX0_isMet_42 : decode cX0_isMet 42 = .ok (.iconst 0, 1) := by decide +kernel
theorem dX0_isMet_43 : decode cX0_isMet 43 = .ok (.ireturn, 1) := by decide +kernel
theorem dX0_isMet_44 : decode cX0_isMet 44 = .ok (.iload_n 2, 1) := by decide +kernel
theorem dX0_isMet_45 : decode cX0_isMet 45 = .ok (.bipush 108, 2) := by decide +kernel
theorem dX0_isMet_47 : decode cX0_isMet 47 = .ok (.if_icmp .ne 31, 3) := by decide +kernel
theorem dX0_isMet_50 : decode cX0_isMet 50 = .ok (.iload_n 3, 1) := by decide +kernel
theorem dX0_isMet_51 : decode cX0_isMet 51 = .ok (.ifCond .lt 25, 3) := by decide +kernel
theorem dX0_isMet_54 : decode cX0_isMet 54 = .ok (.iload_n 3, 1) := by decide +kernel
theorem dX0_isMet_55 : decode cX0_isMet 55 = .ok (.iconst 4, 1) := by decide +kernel
theorem dX0_isMet_56 : decode cX0_isMet 56 = .ok (.if_icmp .ge 20, 3) := by decide +kernel
theorem dX0_isMet_59 : decode cX0_isMet 59 = .ok (.aload_n 0, 1) := by decide +kernel
theorem dX0_isMet_60 : decode cX0_isMet 60 = .ok (.getfield 9, 3) := by decide +kernel
theorem dX0_isMet_63 : decode cX0_isMet 63 = .ok (.iload_n 3, 1) := by decide +kernel
theorem dX0_isMet_64 : decode cX0_isMet 64 = .ok (.iaload, 1) := by decide +kernel
theorem dX0_isMet_65 : decode cX0_isMet 65 = .ok (.aload_n 1, 1) := by decide +kernel
theorem dX0_isMet_66 : decode cX0_isMet 66 = .ok (.getfield 138, 3) := by decide +kernel
theorem dX0_isMet_69 : decode cX0_isMet 69 = .ok (.if_icmp .ge 7, 3) := by decide +kernel
theorem dX0_isMet_72 : decode cX0_isMet 72 = .ok (.iconst 1, 1) := by decide +kernel
theorem dX0_isMet_73 : decode cX0_isMet 73 = .ok (.goto 4, 3) := by decide +kernel
theorem dX0_isMet_76 : decode cX0_isMet 76 = .ok (.iconst 0, 1) := by decide +kernel
theorem dX0_isMet_77 : decode cX0_isMet 77 = .ok (.ireturn, 1) := by decide +kernel
theorem dX0_isMet_78 : decode cX0_isMet 78 = .ok (.iload_n 2, 1) := by decide +kernel
theorem dX0_isMet_79 : decode cX0_isMet 79 = .ok (.bipush 101, 2) := by decide +kernel
theorem dX0_isMet_81 : decode cX0_isMet 81 = .ok (.if_icmp .ne 17, 3) := by decide +kernel
theorem dX0_isMet_84 : decode cX0_isMet 84 = .ok (.aload_n 0, 1) := by decide +kernel
theorem dX0_isMet_85 : decode cX0_isMet 85 = .ok (.getfield 36, 3) := by decide +kernel
theorem dX0_isMet_88 : decode cX0_isMet 88 = .ok (.iload_n 3, 1) := by decide +kernel
theorem dX0_isMet_89 : decode cX0_isMet 89 = .ok (.if_icmp .ne 7, 3) := by decide +kernel
theorem dX0_isMet_92 : decode cX0_isMet 92 = .ok (.iconst 1, 1) := by decide +kernel
theorem dX0_isMet_93 : decode cX0_isMet 93 = .ok (.goto 4, 3) := by decide +kernel
theorem dX0_isMet_96 : decode cX0_isMet 96 = .ok (.iconst 0, 1) := by decide +kernel
theorem dX0_isMet_97 : decode cX0_isMet 97 = .ok (.ireturn, 1) := by decide +kernel
theorem dX0_isMet_98 : decode cX0_isMet 98 = .ok (.iload_n 2, 1) := by decide +kernel
theorem dX0_isMet_99 : decode cX0_isMet 99 = .ok (.bipush 99, 2) := by decide +kernel
theorem dX0_isMet_101 : decode cX0_isMet 101 = .ok (.if_icmp .ne 30, 3) := by decide +kernel
theorem dX0_isMet_104 : decode cX0_isMet 104 = .ok (.iload_n 3, 1) := by decide +kernel
theorem dX0_isMet_105 : decode cX0_isMet 105 = .ok (.ifCond .lt 24, 3) := by decide +kernel
theorem dX0_isMet_108 : decode cX0_isMet 108 = .ok (.iload_n 3, 1) := by decide +kernel
theorem dX0_isMet_109 : decode cX0_isMet 109 = .ok (.bipush 8, 2) := by decide +kernel
theorem dX0_isMet_111 : decode cX0_isMet 111 = .ok (.if_icmp .ge 18, 3) := by decide +kernel
theorem dX0_isMet_114 : decode cX0_isMet 114 = .ok (.aload_n 0, 1) := by decide +kernel
theorem dX0_isMet_115 : decode cX0_isMet 115 = .ok (.getfield 15, 3) := by decide +kernel
theorem dX0_isMet_118 : decode cX0_isMet 118 = .ok (.iload_n 3, 1) := by decide +kernel
theorem dX0_isMet_119 : decode cX0_isMet 119 = .ok (.caload, 1) := by decide +kernel
theorem dX0_isMet_120 : decode cX0_isMet 120 = .ok (.bipush 99, 2) := by decide +kernel
theorem dX0_isMet_122 : decode cX0_isMet 122 = .ok (.if_icmp .ne 7, 3) := by decide +kernel
theorem dX0_isMet_125 : decode cX0_isMet 125 = .ok (.iconst 1, 1) := by decide +kernel
theorem dX0_isMet_126 : decode cX0_isMet 126 = .ok (.goto 4, 3) := by decide +kernel
theorem dX0_isMet_129 : decode cX0_isMet 129 = .ok (.iconst 0, 1) := by decide +kernel
theorem dX0_isMet_130 : decode cX0_isMet 130 = .ok (.ireturn, 1) := by decide +kernel
theorem dX0_isMet_131 : decode cX0_isMet 131 = .ok (.iload_n 2, 1) := by decide +kernel
theorem dX0_isMet_132 : decode cX0_isMet 132 = .ok (.bipush 116, 2) := by decide +kernel
theorem dX0_isMet_134 : decode cX0_isMet 134 = .ok (.if_icmp .ne 15, 3) := by decide +kernel
theorem dX0_isMet_137 : decode cX0_isMet 137 = .ok (.aload_n 0, 1) := by decide +kernel
theorem dX0_isMet_138 : decode cX0_isMet 138 = .ok (.getfield 28, 3) := by decide +kernel
theorem dX0_isMet_141 : decode cX0_isMet 141 = .ok (.iload_n 3, 1) := by decide +kernel
theorem dX0_isMet_142 : decode cX0_isMet 142 = .ok (.if_icmp .lt 7, 3) := by decide +kernel
theorem dX0_isMet_145 : decode cX0_isMet 145 = .ok (.iconst 1, 1) := by decide +kernel
theorem dX0_isMet_146 : decode cX0_isMet 146 = .ok (.goto 4, 3) := by decide +kernel
theorem dX0_isMet_149 : decode cX0_isMet 149 = .ok (.iconst 0, 1) := by decide +kernel
theorem dX0_isMet_150 : decode cX0_isMet 150 = .ok (.ireturn, 1) := by decide +kernel
theorem dX0_valueOf_0 : decode cX0_valueOf 0 = .ok (.iload_n 1, 1) := by decide +kernel
theorem dX0_valueOf_1 : decode cX0_valueOf 1 = .ok (.invokestatic 53, 3) := by decide +kernel
theorem dX0_valueOf_4 : decode cX0_valueOf 4 = .ok (.ifCond .eq 12, 3) := by decide +kernel
theorem dX0_valueOf_7 : decode cX0_valueOf 7 = .ok (.aload_n 0, 1) := by decide +kernel
theorem dX0_valueOf_8 : decode cX0_valueOf 8 = .ok (.getfield 9, 3) := by decide +kernel
theorem dX0_valueOf_11 : decode cX0_valueOf 11 = .ok (.iload_n 1, 1) := by decide +kernel
theorem dX0_valueOf_12 : decode cX0_valueOf 12 = .ok (.iaload, 1) := by decide +kernel
theorem dX0_valueOf_13 : decode cX0_valueOf 13 = .ok (.goto 4, 3) := by decide +kernel
theorem dX0_valueOf_16 : decode cX0_valueOf 16 = .ok (.iconst 0, 1) := by decide +kernel
theorem dX0_valueOf_17 : decode cX0_valueOf 17 = .ok (.ireturn, 1) := by decide +kernel
theorem dX0_stateOf_0 : decode cX0_stateOf 0 = .ok (.iload_n 1, 1) := by decide +kernel
theorem dX0_stateOf_1 : decode cX0_stateOf 1 = .ok (.ifCond .lt 9, 3) := by decide +kernel
theorem dX0_stateOf_4 : decode cX0_stateOf 4 = .ok (.iload_n 1, 1) := by decide +kernel
theorem dX0_stateOf_5 : decode cX0_stateOf 5 = .ok (.bipush 8, 2) := by decide +kernel
theorem dX0_stateOf_7 : decode cX0_stateOf 7 = .ok (.if_icmp .lt 8, 3) := by decide +kernel
theorem dX0_stateOf_10 : decode cX0_stateOf 10 = .ok (.bipush 105, 2) := by decide +kernel
theorem dX0_stateOf_12 : decode cX0_stateOf 12 = .ok (.goto 9, 3) := by decide +kernel
theorem dX0_stateOf_15 : decode cX0_stateOf 15 = .ok (.aload_n 0, 1) := by decide +kernel
theorem dX0_stateOf_16 : decode cX0_stateOf 16 = .ok (.getfield 15, 3) := by decide +kernel
theorem dX0_stateOf_19 : decode cX0_stateOf 19 = .ok (.iload_n 1, 1) := by decide +kernel
theorem dX0_stateOf_20 : decode cX0_stateOf 20 = .ok (.caload, 1) := by decide +kernel
theorem dX0_stateOf_21 : decode cX0_stateOf 21 = .ok (.ireturn, 1) := by decide +kernel
theorem dX0_putState_0 : decode cX0_putState 0 = .ok (.iload_n 1, 1) := by decide +kernel
theorem dX0_putState_1 : decode cX0_putState 1 = .ok (.ifCond .lt 16, 3) := by decide +kernel
theorem dX0_putState_4 : decode cX0_putState 4 = .ok (.iload_n 1, 1) := by decide +kernel
theorem dX0_putState_5 : decode cX0_putState 5 = .ok (.bipush 8, 2) := by decide +kernel
theorem dX0_putState_7 : decode cX0_putState 7 = .ok (.if_icmp .ge 10, 3) := by decide +kernel
theorem dX0_putState_10 : decode cX0_putState 10 = .ok (.aload_n 0, 1) := by decide +kernel
theorem dX0_putState_11 : decode cX0_putState 11 = .ok (.getfield 15, 3) := by decide +kernel
theorem dX0_putState_14 : decode cX0_putState 14 = .ok (.iload_n 1, 1) := by decide +kernel
theorem dX0_putState_15 : decode cX0_putState 15 = .ok (.iload_n 2, 1) := by decide +kernel
theorem dX0_putState_16 : decode cX0_putState 16 = .ok (.castore, 1) := by decide +kernel
theorem dX0_putState_17 : decode cX0_putState 17 = .ok (.return_, 1) := by decide +kernel
theorem dX0_clockOf_0 : decode cX0_clockOf 0 = .ok (.iload_n 1, 1) := by decide +kernel
theorem dX0_clockOf_1 : decode cX0_clockOf 1 = .ok (.ifCond .lt 9, 3) := by decide +kernel
theorem dX0_clockOf_4 : decode cX0_clockOf 4 = .ok (.iload_n 1, 1) := by decide +kernel
theorem dX0_clockOf_5 : decode cX0_clockOf 5 = .ok (.bipush 8, 2) := by decide +kernel
theorem dX0_clockOf_7 : decode cX0_clockOf 7 = .ok (.if_icmp .lt 7, 3) := by decide +kernel
theorem dX0_clockOf_10 : decode cX0_clockOf 10 = .ok (.iconst 0, 1) := by decide +kernel
theorem dX0_clockOf_11 : decode cX0_clockOf 11 = .ok (.goto 9, 3) := by decide +kernel
theorem dX0_clockOf_14 : decode cX0_clockOf 14 = .ok (.aload_n 0, 1) := by decide +kernel
theorem dX0_clockOf_15 : decode cX0_clockOf 15 = .ok (.getfield 22, 3) := by decide +kernel
theorem dX0_clockOf_18 : decode cX0_clockOf 18 = .ok (.iload_n 1, 1) := by decide +kernel
theorem dX0_clockOf_19 : decode cX0_clockOf 19 = .ok (.iaload, 1) := by decide +kernel
theorem dX0_clockOf_20 : decode cX0_clockOf 20 = .ok (.ireturn, 1) := by decide +kernel
theorem dX0_countOf_0 : decode cX0_countOf 0 = .ok (.iload_n 1, 1) := by decide +kernel
theorem dX0_countOf_1 : decode cX0_countOf 1 = .ok (.ifCond .lt 9, 3) := by decide +kernel
theorem dX0_countOf_4 : decode cX0_countOf 4 = .ok (.iload_n 1, 1) := by decide +kernel
theorem dX0_countOf_5 : decode cX0_countOf 5 = .ok (.bipush 8, 2) := by decide +kernel
theorem dX0_countOf_7 : decode cX0_countOf 7 = .ok (.if_icmp .lt 7, 3) := by decide +kernel
theorem dX0_countOf_10 : decode cX0_countOf 10 = .ok (.iconst 0, 1) := by decide +kernel
theorem dX0_countOf_11 : decode cX0_countOf 11 = .ok (.goto 9, 3) := by decide +kernel
theorem dX0_countOf_14 : decode cX0_countOf 14 = .ok (.aload_n 0, 1) := by decide +kernel
theorem dX0_countOf_15 : decode cX0_countOf 15 = .ok (.getfield 25, 3) := by decide +kernel
theorem dX0_countOf_18 : decode cX0_countOf 18 = .ok (.iload_n 1, 1) := by decide +kernel
theorem dX0_countOf_19 : decode cX0_countOf 19 = .ok (.iaload, 1) := by decide +kernel
theorem dX0_countOf_20 : decode cX0_countOf 20 = .ok (.ireturn, 1) := by decide +kernel
theorem dX0_isActiveTask_0 : decode cX0_isActiveTask 0 = .ok (.aload_n 0, 1) := by decide +kernel
theorem dX0_isActiveTask_1 : decode cX0_isActiveTask 1 = .ok (.getfield 45, 3) := by decide +kernel
theorem dX0_isActiveTask_4 : decode cX0_isActiveTask 4 = .ok (.iload_n 1, 1) := by decide +kernel
theorem dX0_isActiveTask_5 : decode cX0_isActiveTask 5 = .ok (.invokevirtual 68, 3) := by decide +kernel
theorem dX0_isActiveTask_8 : decode cX0_isActiveTask 8 = .ok (.astore_n 2, 1) := by decide +kernel
theorem dX0_isActiveTask_9 : decode cX0_isActiveTask 9 = .ok (.aload_n 2, 1) := by decide +kernel
theorem dX0_isActiveTask_10 : decode cX0_isActiveTask 10 = .ok (.ifnull 26, 3) := by decide +kernel
theorem dX0_isActiveTask_13 : decode cX0_isActiveTask 13 = .ok (.aload_n 2, 1) := by decide +kernel
theorem dX0_isActiveTask_14 : decode cX0_isActiveTask 14 = .ok (.getfield 100, 3) := by decide +kernel
theorem dX0_isActiveTask_17 : decode cX0_isActiveTask 17 = .ok (.bipush 116, 2) := by decide +kernel
theorem dX0_isActiveTask_19 : decode cX0_isActiveTask 19 = .ok (.if_icmp .ne 17, 3) := by decide +kernel
theorem dX0_isActiveTask_22 : decode cX0_isActiveTask 22 = .ok (.aload_n 0, 1) := by decide +kernel
theorem dX0_isActiveTask_23 : decode cX0_isActiveTask 23 = .ok (.iload_n 1, 1) := by decide +kernel
theorem dX0_isActiveTask_24 : decode cX0_isActiveTask 24 = .ok (.invokevirtual 72, 3) := by decide +kernel
theorem dX0_isActiveTask_27 : decode cX0_isActiveTask 27 = .ok (.bipush 97, 2) := by decide +kernel
theorem dX0_isActiveTask_29 : decode cX0_isActiveTask 29 = .ok (.if_icmp .ne 7, 3) := by decide +kernel
theorem dX0_isActiveTask_32 : decode cX0_isActiveTask 32 = .ok (.iconst 1, 1) := by decide +kernel
theorem dX0_isActiveTask_33 : decode cX0_isActiveTask 33 = .ok (.goto 4, 3) := by decide +kernel
theorem dX0_isActiveTask_36 : decode cX0_isActiveTask 36 = .ok (.iconst 0, 1) := by decide +kernel
theorem dX0_isActiveTask_37 : decode cX0_isActiveTask 37 = .ok (.ireturn, 1) := by decide +kernel
theorem dX0_daysUntilLate_0 : decode cX0_daysUntilLate 0 = .ok (.aload_n 0, 1) := by decide +kernel
theorem dX0_daysUntilLate_1 : decode cX0_daysUntilLate 1 = .ok (.getfield 45, 3) := by decide +kernel
theorem dX0_daysUntilLate_4 : decode cX0_daysUntilLate 4 = .ok (.iload_n 1, 1) := by decide +kernel
theorem dX0_daysUntilLate_5 : decode cX0_daysUntilLate 5 = .ok (.invokevirtual 68, 3) := by decide +kernel
theorem dX0_daysUntilLate_8 : decode cX0_daysUntilLate 8 = .ok (.astore_n 2, 1) := by decide +kernel
theorem dX0_daysUntilLate_9 : decode cX0_daysUntilLate 9 = .ok (.aload_n 2, 1) := by decide +kernel
theorem dX0_daysUntilLate_10 : decode cX0_daysUntilLate 10 = .ok (.ifnonnull 7, 3) := by decide +kernel
theorem dX0_daysUntilLate_13 : decode cX0_daysUntilLate 13 = .ok (.iconst 0, 1) := by decide +kernel
theorem dX0_daysUntilLate_14 : decode cX0_daysUntilLate 14 = .ok (.goto 15, 3) := by decide +kernel
theorem dX0_daysUntilLate_17 : decode cX0_daysUntilLate 17 = .ok (.aload_n 2, 1) := by decide +kernel
theorem dX0_daysUntilLate_18 : decode cX0_daysUntilLate 18 = .ok (.getfield 141, 3) := by decide +kernel
theorem dX0_daysUntilLate_21 : decode cX0_daysUntilLate 21 = .ok (.aload_n 0, 1) := by decide +kernel
theorem dX0_daysUntilLate_22 : decode cX0_daysUntilLate 22 = .ok (.iload_n 1, 1) := by decide +kernel
theorem dX0_daysUntilLate_23 : decode cX0_daysUntilLate 23 = .ok (.invokevirtual 144, 3) := by decide +kernel
theorem dX0_daysUntilLate_26 : decode cX0_daysUntilLate 26 = .ok (.isub, 1) := by decide +kernel
theorem dX0_daysUntilLate_27 : decode cX0_daysUntilLate 27 = .ok (.iconst 1, 1) := by decide +kernel
theorem dX0_daysUntilLate_28 : decode cX0_daysUntilLate 28 = .ok (.iadd, 1) := by decide +kernel
theorem dX0_daysUntilLate_29 : decode cX0_daysUntilLate 29 = .ok (.ireturn, 1) := by decide +kernel
theorem dX0_fewestDaysUntilLate_0 : decode cX0_fewestDaysUntilLate 0 = .ok (.iconst (-1), 1) := by decide +kernel
theorem dX0_fewestDaysUntilLate_1 : decode cX0_fewestDaysUntilLate 1 = .ok (.istore_n 1, 1) := by decide +kernel
theorem dX0_fewestDaysUntilLate_2 : decode cX0_fewestDaysUntilLate 2 = .ok (.iconst 0, 1) := by decide +kernel
theorem dX0_fewestDaysUntilLate_3 : decode cX0_fewestDaysUntilLate 3 = .ok (.istore_n 2, 1) := by decide +kernel
theorem dX0_fewestDaysUntilLate_4 : decode cX0_fewestDaysUntilLate 4 = .ok (.iload_n 2, 1) := by decide +kernel
theorem dX0_fewestDaysUntilLate_5 : decode cX0_fewestDaysUntilLate 5 = .ok (.aload_n 0, 1) := by decide +kernel
theorem dX0_fewestDaysUntilLate_6 : decode cX0_fewestDaysUntilLate 6 = .ok (.getfield 45, 3) := by decide +kernel
theorem dX0_fewestDaysUntilLate_9 : decode cX0_fewestDaysUntilLate 9 = .ok (.getfield 60, 3) := by decide +kernel
theorem dX0_fewestDaysUntilLate_12 : decode cX0_fewestDaysUntilLate 12 = .ok (.if_icmp .ge 39, 3) := by decide +kernel
theorem dX0_fewestDaysUntilLate_15 : decode cX0_fewestDaysUntilLate 15 = .ok (.aload_n 0, 1) := by decide +kernel
theorem dX0_fewestDaysUntilLate_16 : decode cX0_fewestDaysUntilLate 16 = .ok (.iload_n 2, 1) := by decide +kernel
theorem dX0_fewestDaysUntilLate_17 : decode cX0_fewestDaysUntilLate 17 = .ok (.invokevirtual 148, 3) := by decide +kernel
theorem dX0_fewestDaysUntilLate_20 : decode cX0_fewestDaysUntilLate 20 = .ok (.istore_n 3, 1) := by decide +kernel
theorem dX0_fewestDaysUntilLate_21 : decode cX0_fewestDaysUntilLate 21 = .ok (.aload_n 0, 1) := by decide +kernel
theorem dX0_fewestDaysUntilLate_22 : decode cX0_fewestDaysUntilLate 22 = .ok (.iload_n 2, 1) := by decide +kernel
theorem dX0_fewestDaysUntilLate_23 : decode cX0_fewestDaysUntilLate 23 = .ok (.invokevirtual 57, 3) := by decide +kernel
theorem dX0_fewestDaysUntilLate_26 : decode cX0_fewestDaysUntilLate 26 = .ok (.ifCond .eq 19, 3) := by decide +kernel
theorem dX0_fewestDaysUntilLate_29 : decode cX0_fewestDaysUntilLate 29 = .ok (.iload_n 3, 1) := by decide +kernel
theorem dX0_fewestDaysUntilLate_30 : decode cX0_fewestDaysUntilLate 30 = .ok (.ifCond .le 15, 3) := by decide +kernel
theorem dX0_fewestDaysUntilLate_33 : decode cX0_fewestDaysUntilLate 33 = .ok (.iload_n 1, 1) := by decide +kernel
theorem dX0_fewestDaysUntilLate_34 : decode cX0_fewestDaysUntilLate 34 = .ok (.iconst (-1), 1) := by decide +kernel
theorem dX0_fewestDaysUntilLate_35 : decode cX0_fewestDaysUntilLate 35 = .ok (.if_icmp .eq 8, 3) := by decide +kernel
theorem dX0_fewestDaysUntilLate_38 : decode cX0_fewestDaysUntilLate 38 = .ok (.iload_n 3, 1) := by decide +kernel
theorem dX0_fewestDaysUntilLate_39 : decode cX0_fewestDaysUntilLate 39 = .ok (.iload_n 1, 1) := by decide +kernel
theorem dX0_fewestDaysUntilLate_40 : decode cX0_fewestDaysUntilLate 40 = .ok (.if_icmp .ge 5, 3) := by decide +kernel
theorem dX0_fewestDaysUntilLate_43 : decode cX0_fewestDaysUntilLate 43 = .ok (.iload_n 3, 1) := by decide +kernel
theorem dX0_fewestDaysUntilLate_44 : decode cX0_fewestDaysUntilLate 44 = .ok (.istore_n 1, 1) := by decide +kernel
theorem dX0_fewestDaysUntilLate_45 : decode cX0_fewestDaysUntilLate 45 = .ok (.iinc 2 1, 3) := by decide +kernel
theorem dX0_fewestDaysUntilLate_48 : decode cX0_fewestDaysUntilLate 48 = .ok (.goto (-44), 3) := by decide +kernel
theorem dX0_fewestDaysUntilLate_51 : decode cX0_fewestDaysUntilLate 51 = .ok (.iload_n 1, 1) := by decide +kernel
theorem dX0_fewestDaysUntilLate_52 : decode cX0_fewestDaysUntilLate 52 = .ok (.ireturn, 1) := by decide +kernel
theorem dX0_lateTasks_0 : decode cX0_lateTasks 0 = .ok (.iconst 0, 1) := by decide +kernel
theorem dX0_lateTasks_1 : decode cX0_lateTasks 1 = .ok (.istore_n 1, 1) := by decide +kernel
theorem dX0_lateTasks_2 : decode cX0_lateTasks 2 = .ok (.iconst 0, 1) := by decide +kernel
theorem dX0_lateTasks_3 : decode cX0_lateTasks 3 = .ok (.istore_n 2, 1) := by decide +kernel
theorem dX0_lateTasks_4 : decode cX0_lateTasks 4 = .ok (.iload_n 2, 1) := by decide +kernel
theorem dX0_lateTasks_5 : decode cX0_lateTasks 5 = .ok (.aload_n 0, 1) := by decide +kernel
theorem dX0_lateTasks_6 : decode cX0_lateTasks 6 = .ok (.getfield 45, 3) := by decide +kernel
theorem dX0_lateTasks_9 : decode cX0_lateTasks 9 = .ok (.getfield 60, 3) := by decide +kernel
theorem dX0_lateTasks_12 : decode cX0_lateTasks 12 = .ok (.if_icmp .ge 28, 3) := by decide +kernel
theorem dX0_lateTasks_15 : decode cX0_lateTasks 15 = .ok (.aload_n 0, 1) := by decide +kernel
theorem dX0_lateTasks_16 : decode cX0_lateTasks 16 = .ok (.iload_n 2, 1) := by decide +kernel
theorem dX0_lateTasks_17 : decode cX0_lateTasks 17 = .ok (.invokevirtual 57, 3) := by decide +kernel
theorem dX0_lateTasks_20 : decode cX0_lateTasks 20 = .ok (.ifCond .eq 14, 3) := by decide +kernel
theorem dX0_lateTasks_23 : decode cX0_lateTasks 23 = .ok (.aload_n 0, 1) := by decide +kernel
theorem dX0_lateTasks_24 : decode cX0_lateTasks 24 = .ok (.iload_n 2, 1) := by decide +kernel
theorem dX0_lateTasks_25 : decode cX0_lateTasks 25 = .ok (.invokevirtual 148, 3) := by decide +kernel
theorem dX0_lateTasks_28 : decode cX0_lateTasks 28 = .ok (.ifCond .gt 6, 3) := by decide +kernel
theorem dX0_lateTasks_31 : decode cX0_lateTasks 31 = .ok (.iinc 1 1, 3) := by decide +kernel
theorem dX0_lateTasks_34 : decode cX0_lateTasks 34 = .ok (.iinc 2 1, 3) := by decide +kernel
theorem dX0_lateTasks_37 : decode cX0_lateTasks 37 = .ok (.goto (-33), 3) := by decide +kernel
theorem dX0_lateTasks_40 : decode cX0_lateTasks 40 = .ok (.iload_n 1, 1) := by decide +kernel
theorem dX0_lateTasks_41 : decode cX0_lateTasks 41 = .ok (.ireturn, 1) := by decide +kernel
theorem dX0_rememberStates_0 : decode cX0_rememberStates 0 = .ok (.iconst 0, 1) := by decide +kernel
theorem dX0_rememberStates_1 : decode cX0_rememberStates 1 = .ok (.istore_n 1, 1) := by decide +kernel
theorem dX0_rememberStates_2 : decode cX0_rememberStates 2 = .ok (.iload_n 1, 1) := by decide +kernel
theorem dX0_rememberStates_3 : decode cX0_rememberStates 3 = .ok (.bipush 8, 2) := by decide +kernel
theorem dX0_rememberStates_5 : decode cX0_rememberStates 5 = .ok (.if_icmp .ge 21, 3) := by decide +kernel
theorem dX0_rememberStates_8 : decode cX0_rememberStates 8 = .ok (.aload_n 0, 1) := by decide +kernel
theorem dX0_rememberStates_9 : decode cX0_rememberStates 9 = .ok (.getfield 19, 3) := by decide +kernel
theorem dX0_rememberStates_12 : decode cX0_rememberStates 12 = .ok (.iload_n 1, 1) := by decide +kernel
theorem dX0_rememberStates_13 : decode cX0_rememberStates 13 = .ok (.aload_n 0, 1) := by decide +kernel
theorem dX0_rememberStates_14 : decode cX0_rememberStates 14 = .ok (.getfield 15, 3) := by decide +kernel
theorem dX0_rememberStates_17 : decode cX0_rememberStates 17 = .ok (.iload_n 1, 1) := by decide +kernel
theorem dX0_rememberStates_18 : decode cX0_rememberStates 18 = .ok (.caload, 1) := by decide +kernel
theorem dX0_rememberStates_19 : decode cX0_rememberStates 19 = .ok (.castore, 1) := by decide +kernel
theorem dX0_rememberStates_20 : decode cX0_rememberStates 20 = .ok (.iinc 1 1, 3) := by decide +kernel
theorem dX0_rememberStates_23 : decode cX0_rememberStates 23 = .ok (.goto (-21), 3) := by decide +kernel
theorem dX0_rememberStates_26 : decode cX0_rememberStates 26 = .ok (.return_, 1) := by decide +kernel
theorem dX0_changedStepsBut_0 : decode cX0_changedStepsBut 0 = .ok (.iconst 0, 1) := by decide +kernel
theorem dX0_changedStepsBut_1 : decode cX0_changedStepsBut 1 = .ok (.istore_n 2, 1) := by decide +kernel
theorem dX0_changedStepsBut_2 : decode cX0_changedStepsBut 2 = .ok (.iconst 0, 1) := by decide +kernel
theorem dX0_changedStepsBut_3 : decode cX0_changedStepsBut 3 = .ok (.istore_n 3, 1) := by decide +kernel
theorem dX0_changedStepsBut_4 : decode cX0_changedStepsBut 4 = .ok (.iload_n 3, 1) := by decide +kernel
theorem dX0_changedStepsBut_5 : decode cX0_changedStepsBut 5 = .ok (.bipush 8, 2) := by decide +kernel
theorem dX0_changedStepsBut_7 : decode cX0_changedStepsBut 7 = .ok (.if_icmp .ge 32, 3) := by decide +kernel
theorem dX0_changedStepsBut_10 : decode cX0_changedStepsBut 10 = .ok (.iload_n 3, 1) := by decide +kernel
theorem dX0_changedStepsBut_11 : decode cX0_changedStepsBut 11 = .ok (.iload_n 1, 1) := by decide +kernel
theorem dX0_changedStepsBut_12 : decode cX0_changedStepsBut 12 = .ok (.if_icmp .eq 21, 3) := by decide +kernel
theorem dX0_changedStepsBut_15 : decode cX0_changedStepsBut 15 = .ok (.aload_n 0, 1) := by decide +kernel
theorem dX0_changedStepsBut_16 : decode cX0_changedStepsBut 16 = .ok (.getfield 15, 3) := by decide +kernel
theorem dX0_changedStepsBut_19 : decode cX0_changedStepsBut 19 = .ok (.iload_n 3, 1) := by decide +kernel
theorem dX0_changedStepsBut_20 : decode cX0_changedStepsBut 20 = .ok (.caload, 1) := by decide +kernel
theorem dX0_changedStepsBut_21 : decode cX0_changedStepsBut 21 = .ok (.aload_n 0, 1) := by decide +kernel
theorem dX0_changedStepsBut_22 : decode cX0_changedStepsBut 22 = .ok (.getfield 19, 3) := by decide +kernel
theorem dX0_changedStepsBut_25 : decode cX0_changedStepsBut 25 = .ok (.iload_n 3, 1) := by decide +kernel
theorem dX0_changedStepsBut_26 : decode cX0_changedStepsBut 26 = .ok (.caload, 1) := by decide +kernel
theorem dX0_changedStepsBut_27 : decode cX0_changedStepsBut 27 = .ok (.if_icmp .eq 6, 3) := by decide +kernel
theorem dX0_changedStepsBut_30 : decode cX0_changedStepsBut 30 = .ok (.iinc 2 1, 3) := by decide +kernel
theorem dX0_changedStepsBut_33 : decode cX0_changedStepsBut 33 = .ok (.iinc 3 1, 3) := by decide +kernel
theorem dX0_changedStepsBut_36 : decode cX0_changedStepsBut 36 = .ok (.goto (-32), 3) := by decide +kernel
theorem dX0_changedStepsBut_39 : decode cX0_changedStepsBut 39 = .ok (.iload_n 2, 1) := by decide +kernel
theorem dX0_changedStepsBut_40 : decode cX0_changedStepsBut 40 = .ok (.ireturn, 1) := by decide +kernel
theorem dX0_stepsInState_0 : decode cX0_stepsInState 0 = .ok (.iconst 0, 1) := by decide +kernel
theorem dX0_stepsInState_1 : decode cX0_stepsInState 1 = .ok (.istore_n 2, 1) := by decide +kernel
theorem dX0_stepsInState_2 : decode cX0_stepsInState 2 = .ok (.iconst 0, 1) := by decide +kernel
theorem dX0_stepsInState_3 : decode cX0_stepsInState 3 = .ok (.istore_n 3, 1) := by decide +kernel
theorem dX0_stepsInState_4 : decode cX0_stepsInState 4 = .ok (.iload_n 3, 1) := by decide +kernel
theorem dX0_stepsInState_5 : decode cX0_stepsInState 5 = .ok (.aload_n 0, 1) := by decide +kernel
theorem dX0_stepsInState_6 : decode cX0_stepsInState 6 = .ok (.getfield 45, 3) := by decide +kernel
theorem dX0_stepsInState_9 : decode cX0_stepsInState 9 = .ok (.getfield 60, 3) := by decide +kernel
theorem dX0_stepsInState_12 : decode cX0_stepsInState 12 = .ok (.if_icmp .ge 21, 3) := by decide +kernel
theorem dX0_stepsInState_15 : decode cX0_stepsInState 15 = .ok (.aload_n 0, 1) := by decide +kernel
theorem dX0_stepsInState_16 : decode cX0_stepsInState 16 = .ok (.iload_n 3, 1) := by decide +kernel
theorem dX0_stepsInState_17 : decode cX0_stepsInState 17 = .ok (.invokevirtual 72, 3) := by decide +kernel
theorem dX0_stepsInState_20 : decode cX0_stepsInState 20 = .ok (.iload_n 1, 1) := by decide +kernel
theorem dX0_stepsInState_21 : decode cX0_stepsInState 21 = .ok (.if_icmp .ne 6, 3) := by decide +kernel
theorem dX0_stepsInState_24 : decode cX0_stepsInState 24 = .ok (.iinc 2 1, 3) := by decide +kernel
theorem dX0_stepsInState_27 : decode cX0_stepsInState 27 = .ok (.iinc 3 1, 3) := by decide +kernel
theorem dX0_stepsInState_30 : decode cX0_stepsInState 30 = .ok (.goto (-26), 3) := by decide +kernel
theorem dX0_stepsInState_33 : decode cX0_stepsInState 33 = .ok (.iload_n 2, 1) := by decide +kernel
theorem dX0_stepsInState_34 : decode cX0_stepsInState 34 = .ok (.ireturn, 1) := by decide +kernel
theorem dX0_isAtItsEnd_0 : decode cX0_isAtItsEnd 0 = .ok (.iconst 0, 1) := by decide +kernel
theorem dX0_isAtItsEnd_1 : decode cX0_isAtItsEnd 1 = .ok (.istore_n 1, 1) := by decide +kernel
theorem dX0_isAtItsEnd_2 : decode cX0_isAtItsEnd 2 = .ok (.iload_n 1, 1) := by decide +kernel
theorem dX0_isAtItsEnd_3 : decode cX0_isAtItsEnd 3 = .ok (.aload_n 0, 1) := by decide +kernel
theorem dX0_isAtItsEnd_4 : decode cX0_isAtItsEnd 4 = .ok (.getfield 45, 3) := by decide +kernel
theorem dX0_isAtItsEnd_7 : decode cX0_isAtItsEnd 7 = .ok (.getfield 60, 3) := by decide +kernel
theorem dX0_isAtItsEnd_10 : decode cX0_isAtItsEnd 10 = .ok (.if_icmp .ge 52, 3) := by decide +kernel
theorem dX0_isAtItsEnd_13 : decode cX0_isAtItsEnd 13 = .ok (.aload_n 0, 1) := by decide +kernel
theorem dX0_isAtItsEnd_14 : decode cX0_isAtItsEnd 14 = .ok (.getfield 45, 3) := by decide +kernel
theorem dX0_isAtItsEnd_17 : decode cX0_isAtItsEnd 17 = .ok (.iload_n 1, 1) := by decide +kernel
theorem dX0_isAtItsEnd_18 : decode cX0_isAtItsEnd 18 = .ok (.invokevirtual 68, 3) := by decide +kernel
theorem dX0_isAtItsEnd_21 : decode cX0_isAtItsEnd 21 = .ok (.astore_n 2, 1) := by decide +kernel
theorem dX0_isAtItsEnd_22 : decode cX0_isAtItsEnd 22 = .ok (.aload_n 2, 1) := by decide +kernel
theorem dX0_isAtItsEnd_23 : decode cX0_isAtItsEnd 23 = .ok (.ifnull 33, 3) := by decide +kernel
theorem dX0_isAtItsEnd_26 : decode cX0_isAtItsEnd 26 = .ok (.aload_n 2, 1) := by decide +kernel
theorem dX0_isAtItsEnd_27 : decode cX0_isAtItsEnd 27 = .ok (.getfield 116, 3) := by decide +kernel
theorem dX0_isAtItsEnd_30 : decode cX0_isAtItsEnd 30 = .ok (.iconst (-1), 1) := by decide +kernel
theorem dX0_isAtItsEnd_31 : decode cX0_isAtItsEnd 31 = .ok (.if_icmp .ne 25, 3) := by decide +kernel
theorem dX0_isAtItsEnd_34 : decode cX0_isAtItsEnd 34 = .ok (.aload_n 0, 1) := by decide +kernel
theorem dX0_isAtItsEnd_35 : decode cX0_isAtItsEnd 35 = .ok (.iload_n 1, 1) := by decide +kernel
theorem dX0_isAtItsEnd_36 : decode cX0_isAtItsEnd 36 = .ok (.invokevirtual 72, 3) := by decide +kernel
theorem dX0_isAtItsEnd_39 : decode cX0_isAtItsEnd 39 = .ok (.bipush 99, 2) := by decide +kernel
theorem dX0_isAtItsEnd_41 : decode cX0_isAtItsEnd 41 = .ok (.if_icmp .eq 15, 3) := by decide +kernel
theorem dX0_isAtItsEnd_44 : decode cX0_isAtItsEnd 44 = .ok (.aload_n 0, 1) := by decide +kernel
theorem dX0_isAtItsEnd_45 : decode cX0_isAtItsEnd 45 = .ok (.iload_n 1, 1) := by decide +kernel
theorem dX0_isAtItsEnd_46 : decode cX0_isAtItsEnd 46 = .ok (.invokevirtual 72, 3) := by decide +kernel
theorem dX0_isAtItsEnd_49 : decode cX0_isAtItsEnd 49 = .ok (.bipush 120, 2) := by decide +kernel
theorem dX0_isAtItsEnd_51 : decode cX0_isAtItsEnd 51 = .ok (.if_icmp .eq 5, 3) := by decide +kernel
theorem dX0_isAtItsEnd_54 : decode cX0_isAtItsEnd 54 = .ok (.iconst 0, 1) := by decide +kernel
theorem dX0_isAtItsEnd_55 : decode cX0_isAtItsEnd 55 = .ok (.ireturn, 1) := by decide +kernel
theorem dX0_isAtItsEnd_56 : decode cX0_isAtItsEnd 56 = .ok (.iinc 1 1, 3) := by decide +kernel
theorem dX0_isAtItsEnd_59 : decode cX0_isAtItsEnd 59 = .ok (.goto (-57), 3) := by decide +kernel
theorem dX0_isAtItsEnd_62 : decode cX0_isAtItsEnd 62 = .ok (.iconst 1, 1) := by decide +kernel
theorem dX0_isAtItsEnd_63 : decode cX0_isAtItsEnd 63 = .ok (.ireturn, 1) := by decide +kernel
theorem dX0_sumOfClocks_0 : decode cX0_sumOfClocks 0 = .ok (.lconst 0, 1) := by decide +kernel
theorem dX0_sumOfClocks_1 : decode cX0_sumOfClocks 1 = .ok (.lstore_n 1, 1) := by decide +kernel
theorem dX0_sumOfClocks_2 : decode cX0_sumOfClocks 2 = .ok (.iconst 0, 1) := by decide +kernel
theorem dX0_sumOfClocks_3 : decode cX0_sumOfClocks 3 = .ok (.istore_n 3, 1) := by decide +kernel
theorem dX0_sumOfClocks_4 : decode cX0_sumOfClocks 4 = .ok (.iload_n 3, 1) := by decide +kernel
theorem dX0_sumOfClocks_5 : decode cX0_sumOfClocks 5 = .ok (.aload_n 0, 1) := by decide +kernel
theorem dX0_sumOfClocks_6 : decode cX0_sumOfClocks 6 = .ok (.getfield 45, 3) := by decide +kernel
theorem dX0_sumOfClocks_9 : decode cX0_sumOfClocks 9 = .ok (.getfield 60, 3) := by decide +kernel
theorem dX0_sumOfClocks_12 : decode cX0_sumOfClocks 12 = .ok (.if_icmp .ge 18, 3) := by decide +kernel
theorem dX0_sumOfClocks_15 : decode cX0_sumOfClocks 15 = .ok (.lload_n 1, 1) := by decide +kernel
theorem dX0_sumOfClocks_16 : decode cX0_sumOfClocks 16 = .ok (.aload_n 0, 1) := by decide +kernel
theorem dX0_sumOfClocks_17 : decode cX0_sumOfClocks 17 = .ok (.iload_n 3, 1) := by decide +kernel
theorem dX0_sumOfClocks_18 : decode cX0_sumOfClocks 18 = .ok (.invokevirtual 144, 3) := by decide +kernel
theorem dX0_sumOfClocks_21 : decode cX0_sumOfClocks 21 = .ok (.i2l, 1) := by decide +kernel
theorem dX0_sumOfClocks_22 : decode cX0_sumOfClocks 22 = .ok (.ladd, 1) := by decide +kernel
theorem dX0_sumOfClocks_23 : decode cX0_sumOfClocks 23 = .ok (.lstore_n 1, 1) := by decide +kernel
theorem dX0_sumOfClocks_24 : decode cX0_sumOfClocks 24 = .ok (.iinc 3 1, 3) := by decide +kernel
theorem dX0_sumOfClocks_27 : decode cX0_sumOfClocks 27 = .ok (.goto (-23), 3) := by decide +kernel
theorem dX0_sumOfClocks_30 : decode cX0_sumOfClocks 30 = .ok (.lload_n 1, 1) := by decide +kernel
theorem dX0_sumOfClocks_31 : decode cX0_sumOfClocks 31 = .ok (.lreturn, 1) := by decide +kernel
theorem dX1_init_0 : decode cX1_init 0 = .ok (.aload_n 0, 1) := by decide +kernel
theorem dX1_init_1 : decode cX1_init 1 = .ok (.invokespecial 1, 3) := by decide +kernel
theorem dX1_init_4 : decode cX1_init 4 = .ok (.aload_n 0, 1) := by decide +kernel
theorem dX1_init_5 : decode cX1_init 5 = .ok (.iload_n 1, 1) := by decide +kernel
theorem dX1_init_6 : decode cX1_init 6 = .ok (.putfield 7, 3) := by decide +kernel
theorem dX1_init_9 : decode cX1_init 9 = .ok (.aload_n 0, 1) := by decide +kernel
theorem dX1_init_10 : decode cX1_init 10 = .ok (.iload_n 2, 1) := by decide +kernel
theorem dX1_init_11 : decode cX1_init 11 = .ok (.putfield 13, 3) := by decide +kernel
theorem dX1_init_14 : decode cX1_init 14 = .ok (.aload_n 0, 1) := by decide +kernel
theorem dX1_init_15 : decode cX1_init 15 = .ok (.iload_n 3, 1) := by decide +kernel
theorem dX1_init_16 : decode cX1_init 16 = .ok (.putfield 17, 3) := by decide +kernel
theorem dX1_init_19 : decode cX1_init 19 = .ok (.return_, 1) := by decide +kernel
theorem dX2_init_0 : decode cX2_init 0 = .ok (.aload_n 0, 1) := by decide +kernel
theorem dX2_init_1 : decode cX2_init 1 = .ok (.invokespecial 3, 3) := by decide +kernel
theorem dX2_init_4 : decode cX2_init 4 = .ok (.aload_n 0, 1) := by decide +kernel
theorem dX2_init_5 : decode cX2_init 5 = .ok (.iconst 3, 1) := by decide +kernel
theorem dX2_init_6 : decode cX2_init 6 = .ok (.anewarray 9, 3) := by decide +kernel
theorem dX2_init_9 : decode cX2_init 9 = .ok (.putfield 11, 3) := by decide +kernel
theorem dX2_init_12 : decode cX2_init 12 = .ok (.aload_n 0, 1) := by decide +kernel
theorem dX2_init_13 : decode cX2_init 13 = .ok (.iconst 0, 1) := by decide +kernel
theorem dX2_init_14 : decode cX2_init 14 = .ok (.putfield 17, 3) := by decide +kernel
theorem dX2_init_17 : decode cX2_init 17 = .ok (.return_, 1) := by decide +kernel
theorem dX2_append_0 : decode cX2_append 0 = .ok (.aload_n 0, 1) := by decide +kernel
theorem dX2_append_1 : decode cX2_append 1 = .ok (.getfield 17, 3) := by decide +kernel
theorem dX2_append_4 : decode cX2_append 4 = .ok (.ifCond .lt 31, 3) := by decide +kernel
theorem dX2_append_7 : decode cX2_append 7 = .ok (.aload_n 0, 1) := by decide +kernel
theorem dX2_append_8 : decode cX2_append 8 = .ok (.getfield 17, 3) := by decide +kernel
theorem dX2_append_11 : decode cX2_append 11 = .ok (.iconst 3, 1) := by decide +kernel
theorem dX2_append_12 : decode cX2_append 12 = .ok (.if_icmp .ge 23, 3) := by decide +kernel
theorem dX2_append_15 : decode cX2_append 15 = .ok (.aload_n 0, 1) := by decide +kernel
theorem dX2_append_16 : decode cX2_append 16 = .ok (.getfield 11, 3) := by decide +kernel
theorem dX2_append_19 : decode cX2_append 19 = .ok (.aload_n 0, 1) := by decide +kernel
theorem dX2_append_20 : decode cX2_append 20 = .ok (.getfield 17, 3) := by decide +kernel
theorem dX2_append_23 : decode cX2_append 23 = .ok (.aload_n 1, 1) := by decide +kernel
theorem dX2_append_24 : decode cX2_append 24 = .ok (.aastore, 1) := by decide +kernel
theorem dX2_append_25 : decode cX2_append 25 = .ok (.aload_n 0, 1) := by decide +kernel
theorem dX2_append_26 : decode cX2_append 26 = .ok (.dup, 1) := by decide +kernel
theorem dX2_append_27 : decode cX2_append 27 = .ok (.getfield 17, 3) := by decide +kernel
theorem dX2_append_30 : decode cX2_append 30 = .ok (.iconst 1, 1) := by decide +kernel
theorem dX2_append_31 : decode cX2_append 31 = .ok (.iadd, 1) := by decide +kernel
theorem dX2_append_32 : decode cX2_append 32 = .ok (.putfield 17, 3) := by decide +kernel
theorem dX2_append_35 : decode cX2_append 35 = .ok (.aload_n 0, 1) := by decide +kernel
theorem dX2_append_36 : decode cX2_append 36 = .ok (.getfield 17, 3) := by decide +kernel
theorem dX2_append_39 : decode cX2_append 39 = .ok (.ireturn, 1) := by decide +kernel
theorem dX2_at_0 : decode cX2_at 0 = .ok (.iload_n 1, 1) := by decide +kernel
theorem dX2_at_1 : decode cX2_at 1 = .ok (.ifCond .lt 16, 3) := by decide +kernel
theorem dX2_at_4 : decode cX2_at 4 = .ok (.iload_n 1, 1) := by decide +kernel
theorem dX2_at_5 : decode cX2_at 5 = .ok (.aload_n 0, 1) := by decide +kernel
theorem dX2_at_6 : decode cX2_at 6 = .ok (.getfield 17, 3) := by decide +kernel
theorem dX2_at_9 : decode cX2_at 9 = .ok (.if_icmp .ge 8, 3) := by decide +kernel
theorem dX2_at_12 : decode cX2_at 12 = .ok (.iload_n 1, 1) := by decide +kernel
theorem dX2_at_13 : decode cX2_at 13 = .ok (.iconst 3, 1) := by decide +kernel
theorem dX2_at_14 : decode cX2_at 14 = .ok (.if_icmp .lt 7, 3) := by decide +kernel
theorem dX2_at_17 : decode cX2_at 17 = .ok (.aconst_null, 1) := by decide +kernel
theorem dX2_at_18 : decode cX2_at 18 = .ok (.goto 9, 3) := by decide +kernel
theorem dX2_at_21 : decode cX2_at 21 = .ok (.aload_n 0, 1) := by decide +kernel
theorem dX2_at_22 : decode cX2_at 22 = .ok (.getfield 11, 3) := by decide +kernel
theorem dX2_at_25 : decode cX2_at 25 = .ok (.iload_n 1, 1) := by decide +kernel
theorem dX2_at_26 : decode cX2_at 26 = .ok (.aaload, 1) := by decide +kernel
theorem dX2_at_27 : decode cX2_at 27 = .ok (.areturn, 1) := by decide +kernel
theorem dX3_init_0 : decode cX3_init 0 = .ok (.aload_n 0, 1) := by decide +kernel
theorem dX3_init_1 : decode cX3_init 1 = .ok (.invokespecial 3, 3) := by decide +kernel
theorem dX3_init_4 : decode cX3_init 4 = .ok (.aload_n 0, 1) := by decide +kernel
theorem dX3_init_5 : decode cX3_init 5 = .ok (.sipush 512, 3) := by decide +kernel
theorem dX3_init_8 : decode cX3_init 8 = .ok (.newarray .int, 2) := by decide +kernel
theorem dX3_init_10 : decode cX3_init 10 = .ok (.putfield 9, 3) := by decide +kernel
theorem dX3_init_13 : decode cX3_init 13 = .ok (.aload_n 0, 1) := by decide +kernel
theorem dX3_init_14 : decode cX3_init 14 = .ok (.sipush 512, 3) := by decide +kernel
theorem dX3_init_17 : decode cX3_init 17 = .ok (.newarray .int, 2) := by decide +kernel
theorem dX3_init_19 : decode cX3_init 19 = .ok (.putfield 15, 3) := by decide +kernel
theorem dX3_init_22 : decode cX3_init 22 = .ok (.aload_n 0, 1) := by decide +kernel
theorem dX3_init_23 : decode cX3_init 23 = .ok (.sipush 512, 3) := by decide +kernel
theorem dX3_init_26 : decode cX3_init 26 = .ok (.newarray .int, 2) := by decide +kernel
theorem dX3_init_28 : decode cX3_init 28 = .ok (.putfield 18, 3) := by decide +kernel
theorem dX3_init_31 : decode cX3_init 31 = .ok (.aload_n 0, 1) := by decide +kernel
theorem dX3_init_32 : decode cX3_init 32 = .ok (.sipush 512, 3) := by decide +kernel
theorem dX3_init_35 : decode cX3_init 35 = .ok (.newarray .int, 2) := by decide +kernel
theorem dX3_init_37 : decode cX3_init 37 = .ok (.putfield 21, 3) := by decide +kernel
theorem dX3_init_40 : decode cX3_init 40 = .ok (.aload_n 0, 1) := by decide +kernel
theorem dX3_init_41 : decode cX3_init 41 = .ok (.iconst 0, 1) := by decide +kernel
theorem dX3_init_42 : decode cX3_init 42 = .ok (.putfield 24, 3) := by decide +kernel
theorem dX3_init_45 : decode cX3_init 45 = .ok (.return_, 1) := by decide +kernel
theorem dX3_append_0 : decode cX3_append 0 = .ok (.aload_n 0, 1) := by decide +kernel
theorem dX3_append_1 : decode cX3_append 1 = .ok (.getfield 24, 3) := by decide +kernel
theorem dX3_append_4 : decode cX3_append 4 = .ok (.ifCond .lt 13, 3) := by decide +kernel
theorem dX3_append_7 : decode cX3_append 7 = .ok (.aload_n 0, 1) := by decide +kernel
theorem dX3_append_8 : decode cX3_append 8 = .ok (.getfield 24, 3) := by decide +kernel
theorem dX3_append_11 : decode cX3_append 11 = .ok (.sipush 512, 3) := by decide +kernel
theorem dX3_append_14 : decode cX3_append 14 = .ok (.if_icmp .lt 4, 3) := by decide +kernel
theorem dX3_append_17 : decode cX3_append 17 = .ok (.return_, 1) := by decide +kernel
theorem dX3_append_18 : decode cX3_append 18 = .ok (.aload_n 0, 1) := by decide +kernel
theorem dX3_append_19 : decode cX3_append 19 = .ok (.getfield 9, 3) := by decide +kernel
theorem dX3_append_22 : decode cX3_append 22 = .ok (.aload_n 0, 1) := by decide +kernel
theorem dX3_append_23 : decode cX3_append 23 = .ok (.getfield 24, 3) := by decide +kernel
theorem dX3_append_26 : decode cX3_append 26 = .ok (.iload_n 1, 1) := by decide +kernel
theorem dX3_append_27 : decode cX3_append 27 = .ok (.iastore, 1) := by decide +kernel
theorem dX3_append_28 : decode cX3_append 28 = .ok (.aload_n 0, 1) := by decide +kernel
theorem dX3_append_29 : decode cX3_append 29 = .ok (.getfield 15, 3) := by decide +kernel
theorem dX3_append_32 : decode cX3_append 32 = .ok (.aload_n 0, 1) := by decide +kernel
theorem dX3_append_33 : decode cX3_append 33 = .ok (.getfield 24, 3) := by decide +kernel
theorem dX3_append_36 : decode cX3_append 36 = .ok (.iload_n 2, 1) := by decide +kernel
theorem dX3_append_37 : decode cX3_append 37 = .ok (.iastore, 1) := by decide +kernel
theorem dX3_append_38 : decode cX3_append 38 = .ok (.aload_n 0, 1) := by decide +kernel
theorem dX3_append_39 : decode cX3_append 39 = .ok (.getfield 18, 3) := by decide +kernel
theorem dX3_append_42 : decode cX3_append 42 = .ok (.aload_n 0, 1) := by decide +kernel
theorem dX3_append_43 : decode cX3_append 43 = .ok (.getfield 24, 3) := by decide +kernel
theorem dX3_append_46 : decode cX3_append 46 = .ok (.iload_n 3, 1) := by decide +kernel
theorem dX3_append_47 : decode cX3_append 47 = .ok (.iastore, 1) := by decide +kernel
theorem dX3_append_48 : decode cX3_append 48 = .ok (.aload_n 0, 1) := by decide +kernel
theorem dX3_append_49 : decode cX3_append 49 = .ok (.getfield 21, 3) := by decide +kernel
theorem dX3_append_52 : decode cX3_append 52 = .ok (.aload_n 0, 1) := by decide +kernel
theorem dX3_append_53 : decode cX3_append 53 = .ok (.getfield 24, 3) := by decide +kernel
theorem dX3_append_56 : decode cX3_append 56 = .ok (.iload 4, 2) := by decide +kernel
theorem dX3_append_58 : decode cX3_append 58 = .ok (.iastore, 1) := by decide +kernel
theorem dX3_append_59 : decode cX3_append 59 = .ok (.aload_n 0, 1) := by decide +kernel
theorem dX3_append_60 : decode cX3_append 60 = .ok (.dup, 1) := by decide +kernel
theorem dX3_append_61 : decode cX3_append 61 = .ok (.getfield 24, 3) := by decide +kernel
theorem dX3_append_64 : decode cX3_append 64 = .ok (.iconst 1, 1) := by decide +kernel
theorem dX3_append_65 : decode cX3_append 65 = .ok (.iadd, 1) := by decide +kernel
theorem dX3_append_66 : decode cX3_append 66 = .ok (.putfield 24, 3) := by decide +kernel
theorem dX3_append_69 : decode cX3_append 69 = .ok (.return_, 1) := by decide +kernel
theorem dX4_init_0 : decode cX4_init 0 = .ok (.aload_n 0, 1) := by decide +kernel
theorem dX4_init_1 : decode cX4_init 1 = .ok (.invokespecial 3, 3) := by decide +kernel
theorem dX4_init_4 : decode cX4_init 4 = .ok (.aload_n 0, 1) := by decide +kernel
theorem dX4_init_5 : decode cX4_init 5 = .ok (.bipush 8, 2) := by decide +kernel
theorem dX4_init_7 : decode cX4_init 7 = .ok (.anewarray 9, 3) := by decide +kernel
theorem dX4_init_10 : decode cX4_init 10 = .ok (.putfield 11, 3) := by decide +kernel
theorem dX4_init_13 : decode cX4_init 13 = .ok (.aload_n 0, 1) := by decide +kernel
theorem dX4_init_14 : decode cX4_init 14 = .ok (.iconst 0, 1) := by decide +kernel
theorem dX4_init_15 : decode cX4_init 15 = .ok (.putfield 17, 3) := by decide +kernel
theorem dX4_init_18 : decode cX4_init 18 = .ok (.aload_n 0, 1) := by decide +kernel
theorem dX4_init_19 : decode cX4_init 19 = .ok (.iconst 0, 1) := by decide +kernel
theorem dX4_init_20 : decode cX4_init 20 = .ok (.putfield 21, 3) := by decide +kernel
theorem dX4_init_23 : decode cX4_init 23 = .ok (.aload_n 0, 1) := by decide +kernel
theorem dX4_init_24 : decode cX4_init 24 = .ok (.iload_n 1, 1) := by decide +kernel
theorem dX4_init_25 : decode cX4_init 25 = .ok (.putfield 25, 3) := by decide +kernel
theorem dX4_init_28 : decode cX4_init 28 = .ok (.return_, 1) := by decide +kernel
theorem dX4_append_0 : decode cX4_append 0 = .ok (.aload_n 0, 1) := by decide +kernel
theorem dX4_append_1 : decode cX4_append 1 = .ok (.getfield 17, 3) := by decide +kernel
theorem dX4_append_4 : decode cX4_append 4 = .ok (.istore_n 2, 1) := by decide +kernel
theorem dX4_append_5 : decode cX4_append 5 = .ok (.iload_n 2, 1) := by decide +kernel
theorem dX4_append_6 : decode cX4_append 6 = .ok (.ifCond .lt 23, 3) := by decide +kernel
theorem dX4_append_9 : decode cX4_append 9 = .ok (.iload_n 2, 1) := by decide +kernel
theorem dX4_append_10 : decode cX4_append 10 = .ok (.bipush 8, 2) := by decide +kernel
theorem dX4_append_12 : decode cX4_append 12 = .ok (.if_icmp .ge 17, 3) := by decide +kernel
theorem dX4_append_15 : decode cX4_append 15 = .ok (.aload_n 0, 1) := by decide +kernel
theorem dX4_append_16 : decode cX4_append 16 = .ok (.getfield 11, 3) := by decide +kernel
theorem dX4_append_19 : decode cX4_append 19 = .ok (.iload_n 2, 1) := by decide +kernel
theorem dX4_append_20 : decode cX4_append 20 = .ok (.aload_n 1, 1) := by decide +kernel
theorem dX4_append_21 : decode cX4_append 21 = .ok (.aastore, 1) := by decide +kernel
theorem dX4_append_22 : decode cX4_append 22 = .ok (.aload_n 0, 1) := by decide +kernel
theorem dX4_append_23 : decode cX4_append 23 = .ok (.iload_n 2, 1) := by decide +kernel
theorem dX4_append_24 : decode cX4_append 24 = .ok (.iconst 1, 1) := by decide +kernel
theorem dX4_append_25 : decode cX4_append 25 = .ok (.iadd, 1) := by decide +kernel
theorem dX4_append_26 : decode cX4_append 26 = .ok (.putfield 17, 3) := by decide +kernel
theorem dX4_append_29 : decode cX4_append 29 = .ok (.iload_n 2, 1) := by decide +kernel
theorem dX4_append_30 : decode cX4_append 30 = .ok (.ireturn, 1) := by decide +kernel
theorem dX4_stepAt_0 : decode cX4_stepAt 0 = .ok (.iload_n 1, 1) := by decide +kernel
theorem dX4_stepAt_1 : decode cX4_stepAt 1 = .ok (.ifCond .lt 17, 3) := by decide +kernel
theorem dX4_stepAt_4 : decode cX4_stepAt 4 = .ok (.iload_n 1, 1) := by decide +kernel
theorem dX4_stepAt_5 : decode cX4_stepAt 5 = .ok (.aload_n 0, 1) := by decide +kernel
theorem dX4_stepAt_6 : decode cX4_stepAt 6 = .ok (.getfield 17, 3) := by decide +kernel
theorem dX4_stepAt_9 : decode cX4_stepAt 9 = .ok (.if_icmp .ge 9, 3) := by decide +kernel
theorem dX4_stepAt_12 : decode cX4_stepAt 12 = .ok (.iload_n 1, 1) := by decide +kernel
theorem dX4_stepAt_13 : decode cX4_stepAt 13 = .ok (.bipush 8, 2) := by decide +kernel
theorem dX4_stepAt_15 : decode cX4_stepAt 15 = .ok (.if_icmp .lt 7, 3) := by decide +kernel
theorem dX4_stepAt_18 : decode cX4_stepAt 18 = .ok (.aconst_null, 1) := by decide +kernel
theorem dX4_stepAt_19 : decode cX4_stepAt 19 = .ok (.goto 9, 3) := by decide +kernel
theorem dX4_stepAt_22 : decode cX4_stepAt 22 = .ok (.aload_n 0, 1) := by decide +kernel
theorem dX4_stepAt_23 : decode cX4_stepAt 23 = .ok (.getfield 11, 3) := by decide +kernel
theorem dX4_stepAt_26 : decode cX4_stepAt 26 = .ok (.iload_n 1, 1) := by decide +kernel
theorem dX4_stepAt_27 : decode cX4_stepAt 27 = .ok (.aaload, 1) := by decide +kernel
theorem dX4_stepAt_28 : decode cX4_stepAt 28 = .ok (.areturn, 1) := by decide +kernel
theorem dX4_isStage_0 : decode cX4_isStage 0 = .ok (.aload_n 0, 1) := by decide +kernel
theorem dX4_isStage_1 : decode cX4_isStage 1 = .ok (.iload_n 1, 1) := by decide +kernel
theorem dX4_isStage_2 : decode cX4_isStage 2 = .ok (.invokevirtual 28, 3) := by decide +kernel
theorem dX4_isStage_5 : decode cX4_isStage 5 = .ok (.astore_n 2, 1) := by decide +kernel
theorem dX4_isStage_6 : decode cX4_isStage 6 = .ok (.aload_n 2, 1) := by decide +kernel
theorem dX4_isStage_7 : decode cX4_isStage 7 = .ok (.ifnull 16, 3) := by decide +kernel
theorem dX4_isStage_10 : decode cX4_isStage 10 = .ok (.aload_n 2, 1) := by decide +kernel
theorem dX4_isStage_11 : decode cX4_isStage 11 = .ok (.getfield 32, 3) := by decide +kernel
theorem dX4_isStage_14 : decode cX4_isStage 14 = .ok (.bipush 115, 2) := by decide +kernel
theorem dX4_isStage_16 : decode cX4_isStage 16 = .ok (.if_icmp .ne 7, 3) := by decide +kernel
theorem dX4_isStage_19 : decode cX4_isStage 19 = .ok (.iconst 1, 1) := by decide +kernel
theorem dX4_isStage_20 : decode cX4_isStage 20 = .ok (.goto 4, 3) := by decide +kernel
theorem dX4_isStage_23 : decode cX4_isStage 23 = .ok (.iconst 0, 1) := by decide +kernel
theorem dX4_isStage_24 : decode cX4_isStage 24 = .ok (.ireturn, 1) := by decide +kernel
theorem dX5_init_0 : decode cX5_init 0 = .ok (.aload_n 0, 1) := by decide +kernel
theorem dX5_init_1 : decode cX5_init 1 = .ok (.invokespecial 3, 3) := by decide +kernel
theorem dX5_init_4 : decode cX5_init 4 = .ok (.aload_n 0, 1) := by decide +kernel
theorem dX5_init_5 : decode cX5_init 5 = .ok (.new 9, 3) := by decide +kernel
theorem dX5_init_8 : decode cX5_init 8 = .ok (.dup, 1) := by decide +kernel
theorem dX5_init_9 : decode cX5_init 9 = .ok (.invokespecial 11, 3) := by decide +kernel
theorem dX5_init_12 : decode cX5_init 12 = .ok (.putfield 12, 3) := by decide +kernel
theorem dX5_init_15 : decode cX5_init 15 = .ok (.aload_n 0, 1) := by decide +kernel
theorem dX5_init_16 : decode cX5_init 16 = .ok (.new 9, 3) := by decide +kernel
theorem dX5_init_19 : decode cX5_init 19 = .ok (.dup, 1) := by decide +kernel
theorem dX5_init_20 : decode cX5_init 20 = .ok (.invokespecial 11, 3) := by decide +kernel
theorem dX5_init_23 : decode cX5_init 23 = .ok (.putfield 18, 3) := by decide +kernel
theorem dX5_init_26 : decode cX5_init 26 = .ok (.aload_n 0, 1) := by decide +kernel
theorem dX5_init_27 : decode cX5_init 27 = .ok (.iconst 1, 1) := by decide +kernel
theorem dX5_init_28 : decode cX5_init 28 = .ok (.putfield 21, 3) := by decide +kernel
theorem dX5_init_31 : decode cX5_init 31 = .ok (.aload_n 0, 1) := by decide +kernel
theorem dX5_init_32 : decode cX5_init 32 = .ok (.bipush 10, 2) := by decide +kernel
theorem dX5_init_34 : decode cX5_init 34 = .ok (.putfield 25, 3) := by decide +kernel
theorem dX5_init_37 : decode cX5_init 37 = .ok (.aload_n 0, 1) := by decide +kernel
theorem dX5_init_38 : decode cX5_init 38 = .ok (.iconst 0, 1) := by decide +kernel
theorem dX5_init_39 : decode cX5_init 39 = .ok (.putfield 29, 3) := by decide +kernel
theorem dX5_init_42 : decode cX5_init 42 = .ok (.aload_n 0, 1) := by decide +kernel
theorem dX5_init_43 : decode cX5_init 43 = .ok (.iload_n 1, 1) := by decide +kernel
theorem dX5_init_44 : decode cX5_init 44 = .ok (.putfield 32, 3) := by decide +kernel
theorem dX5_init_47 : decode cX5_init 47 = .ok (.aload_n 0, 1) := by decide +kernel
theorem dX5_init_48 : decode cX5_init 48 = .ok (.iload_n 2, 1) := by decide +kernel
theorem dX5_init_49 : decode cX5_init 49 = .ok (.putfield 36, 3) := by decide +kernel
theorem dX5_init_52 : decode cX5_init 52 = .ok (.return_, 1) := by decide +kernel
theorem dX6_init_0 : decode cX6_init 0 = .ok (.aload_n 0, 1) := by decide +kernel
theorem dX6_init_1 : decode cX6_init 1 = .ok (.invokespecial 1, 3) := by decide +kernel
theorem dX6_init_4 : decode cX6_init 4 = .ok (.aload_n 0, 1) := by decide +kernel
theorem dX6_init_5 : decode cX6_init 5 = .ok (.iconst 3, 1) := by decide +kernel
theorem dX6_init_6 : decode cX6_init 6 = .ok (.anewarray 9, 3) := by decide +kernel
theorem dX6_init_9 : decode cX6_init 9 = .ok (.putfield 11, 3) := by decide +kernel
theorem dX6_init_12 : decode cX6_init 12 = .ok (.aload_n 0, 1) := by decide +kernel
theorem dX6_init_13 : decode cX6_init 13 = .ok (.iconst 0, 1) := by decide +kernel
theorem dX6_init_14 : decode cX6_init 14 = .ok (.putfield 15, 3) := by decide +kernel
theorem dX6_init_17 : decode cX6_init 17 = .ok (.aload_n 0, 1) := by decide +kernel
theorem dX6_init_18 : decode cX6_init 18 = .ok (.iconst 4, 1) := by decide +kernel
theorem dX6_init_19 : decode cX6_init 19 = .ok (.anewarray 19, 3) := by decide +kernel
theorem dX6_init_22 : decode cX6_init 22 = .ok (.putfield 21, 3) := by decide +kernel
theorem dX6_init_25 : decode cX6_init 25 = .ok (.aload_n 0, 1) := by decide +kernel
theorem dX6_init_26 : decode cX6_init 26 = .ok (.iconst 0, 1) := by decide +kernel
theorem dX6_init_27 : decode cX6_init 27 = .ok (.putfield 25, 3) := by decide +kernel
theorem dX6_init_30 : decode cX6_init 30 = .ok (.aload_n 0, 1) := by decide +kernel
theorem dX6_init_31 : decode cX6_init 31 = .ok (.new 28, 3) := by decide +kernel
theorem dX6_init_34 : decode cX6_init 34 = .ok (.dup, 1) := by decide +kernel
theorem dX6_init_35 : decode cX6_init 35 = .ok (.invokespecial 30, 3) := by decide +kernel
theorem dX6_init_38 : decode cX6_init 38 = .ok (.putfield 31, 3) := by decide +kernel
theorem dX6_init_41 : decode cX6_init 41 = .ok (.aload_n 0, 1) := by decide +kernel
theorem dX6_init_42 : decode cX6_init 42 = .ok (.new 19, 3) := by decide +kernel
theorem dX6_init_45 : decode cX6_init 45 = .ok (.dup, 1) := by decide +kernel
theorem dX6_init_46 : decode cX6_init 46 = .ok (.new 9, 3) := by decide +kernel
theorem dX6_init_49 : decode cX6_init 49 = .ok (.dup, 1) := by decide +kernel
theorem dX6_init_50 : decode cX6_init 50 = .ok (.iconst (-1), 1) := by decide +kernel
theorem dX6_init_51 : decode cX6_init 51 = .ok (.invokespecial 35, 3) := by decide +kernel
theorem dX6_init_54 : decode cX6_init 54 = .ok (.invokespecial 38, 3) := by decide +kernel
theorem dX6_init_57 : decode cX6_init 57 = .ok (.putfield 41, 3) := by decide +kernel
theorem dX6_init_60 : decode cX6_init 60 = .ok (.return_, 1) := by decide +kernel
theorem dX6_addPlan_0 : decode cX6_addPlan 0 = .ok (.aload_n 0, 1) := by decide +kernel
theorem dX6_addPlan_1 : decode cX6_addPlan 1 = .ok (.getfield 15, 3) := by decide +kernel
theorem dX6_addPlan_4 : decode cX6_addPlan 4 = .ok (.ifCond .lt 11, 3) := by decide +kernel
theorem dX6_addPlan_7 : decode cX6_addPlan 7 = .ok (.aload_n 0, 1) := by decide +kernel
theorem dX6_addPlan_8 : decode cX6_addPlan 8 = .ok (.getfield 15, 3) := by decide +kernel
theorem dX6_addPlan_11 : decode cX6_addPlan 11 = .ok (.iconst 3, 1) := by decide +kernel
theorem dX6_addPlan_12 : decode cX6_addPlan 12 = .ok (.if_icmp .lt 13, 3) := by decide +kernel
theorem dX6_addPlan_15 : decode cX6_addPlan 15 = .ok (.new 45, 3) := by decide +kernel
theorem dX6_addPlan_18 : decode cX6_addPlan 18 = .ok (.dup, 1) := by decide +kernel
theorem dX6_addPlan_19 : decode cX6_addPlan 19 = .ok (.ldc 47, 2) := by decide +kernel
theorem dX6_addPlan_21 : decode cX6_addPlan 21 = .ok (.invokespecial 49, 3) := by decide +kernel
theorem dX6_addPlan_24 : decode cX6_addPlan 24 = .ok (.athrow, 1) := by decide +kernel
theorem dX6_addPlan_25 : decode cX6_addPlan 25 = .ok (.aload_n 0, 1) := by decide +kernel
theorem dX6_addPlan_26 : decode cX6_addPlan 26 = .ok (.getfield 15, 3) := by decide +kernel
theorem dX6_addPlan_29 : decode cX6_addPlan 29 = .ok (.istore_n 1, 1) := by decide +kernel
theorem dX6_addPlan_30 : decode cX6_addPlan 30 = .ok (.aload_n 0, 1) := by decide +kernel
theorem dX6_addPlan_31 : decode cX6_addPlan 31 = .ok (.getfield 11, 3) := by decide +kernel
theorem dX6_addPlan_34 : decode cX6_addPlan 34 = .ok (.iload_n 1, 1) := by decide +kernel
theorem dX6_addPlan_35 : decode cX6_addPlan 35 = .ok (.new 9, 3) := by decide +kernel
theorem dX6_addPlan_38 : decode cX6_addPlan 38 = .ok (.dup, 1) := by decide +kernel
theorem dX6_addPlan_39 : decode cX6_addPlan 39 = .ok (.iload_n 1, 1) := by decide +kernel
theorem dX6_addPlan_40 : decode cX6_addPlan 40 = .ok (.invokespecial 35, 3) := by decide +kernel
theorem dX6_addPlan_43 : decode cX6_addPlan 43 = .ok (.aastore, 1) := by decide +kernel
theorem dX6_addPlan_44 : decode cX6_addPlan 44 = .ok (.aload_n 0, 1) := by decide +kernel
theorem dX6_addPlan_45 : decode cX6_addPlan 45 = .ok (.iload_n 1, 1) := by decide +kernel
theorem dX6_addPlan_46 : decode cX6_addPlan 46 = .ok (.iconst 1, 1) := by decide +kernel
theorem dX6_addPlan_47 : decode cX6_addPlan 47 = .ok (.iadd, 1) := by decide +kernel
theorem dX6_addPlan_48 : decode cX6_addPlan 48 = .ok (.putfield 15, 3) := by decide +kernel
theorem dX6_addPlan_51 : decode cX6_addPlan 51 = .ok (.iload_n 1, 1) := by decide +kernel
theorem dX6_addPlan_52 : decode cX6_addPlan 52 = .ok (.ireturn, 1) := by decide +kernel
theorem dX6_addStep_0 : decode cX6_addStep 0 = .ok (.aload_n 0, 1) := by decide +kernel
theorem dX6_addStep_1 : decode cX6_addStep 1 = .ok (.iload_n 1, 1) := by decide +kernel
theorem dX6_addStep_2 : decode cX6_addStep 2 = .ok (.invokevirtual 52, 3) := by decide +kernel
theorem dX6_addStep_5 : decode cX6_addStep 5 = .ok (.astore 4, 2) := by decide +kernel
theorem dX6_addStep_7 : decode cX6_addStep 7 = .ok (.iload_n 2, 1) := by decide +kernel
theorem dX6_addStep_8 : decode cX6_addStep 8 = .ok (.bipush 115, 2) := by decide +kernel
theorem dX6_addStep_10 : decode cX6_addStep 10 = .ok (.if_icmp .eq 25, 3) := by decide +kernel
theorem dX6_addStep_13 : decode cX6_addStep 13 = .ok (.iload_n 2, 1) := by decide +kernel
theorem dX6_addStep_14 : decode cX6_addStep 14 = .ok (.bipush 116, 2) := by decide +kernel
theorem dX6_addStep_16 : decode cX6_addStep 16 = .ok (.if_icmp .eq 19, 3) := by decide +kernel
theorem dX6_addStep_19 : decode cX6_addStep 19 = .ok (.iload_n 2, 1) := by decide +kernel
theorem dX6_addStep_20 : decode cX6_addStep 20 = .ok (.bipush 109, 2) := by decide +kernel
theorem dX6_addStep_22 : decode cX6_addStep 22 = .ok (.if_icmp .eq 13, 3) := by decide +kernel
theorem dX6_addStep_25 : decode cX6_addStep 25 = .ok (.new 56, 3) := by decide +kernel
theorem dX6_addStep_28 : decode cX6_addStep 28 = .ok (.dup, 1) := by decide +kernel
theorem dX6_addStep_29 : decode cX6_addStep 29 = .ok (.ldc 58, 2) := by decide +kernel
theorem dX6_addStep_31 : decode cX6_addStep 31 = .ok (.invokespecial 60, 3) := by decide +kernel
theorem dX6_addStep_34 : decode cX6_addStep 34 = .ok (.athrow, 1) := by decide +kernel
theorem dX6_addStep_35 : decode cX6_addStep 35 = .ok (.iload_n 3, 1) := by decide +kernel
theorem dX6_addStep_36 : decode cX6_addStep 36 = .ok (.iconst (-1), 1) := by decide +kernel
theorem dX6_addStep_37 : decode cX6_addStep 37 = .ok (.if_icmp .eq 22, 3) := by decide +kernel
theorem dX6_addStep_40 : decode cX6_addStep 40 = .ok (.aload 4, 2) := by decide +kernel
theorem dX6_addStep_42 : decode cX6_addStep 42 = .ok (.iload_n 3, 1) := by decide +kernel
theorem dX6_addStep_43 : decode cX6_addStep 43 = .ok (.invokevirtual 61, 3) := by decide +kernel
theorem dX6_addStep_46 : decode cX6_addStep 46 = .ok (.ifCond .ne 13, 3) := by decide +kernel
theorem dX6_addStep_49 : decode cX6_addStep 49 = .ok (.new 56, 3) := by decide +kernel
theorem dX6_addStep_52 : decode cX6_addStep 52 = .ok (.dup, 1) := by decide +kernel
theorem dX6_addStep_53 : decode cX6_addStep 53 = .ok (.ldc 65, 2) := by decide +kernel
theorem dX6_addStep_55 : decode cX6_addStep 55 = .ok (.invokespecial 60, 3) := by decide +kernel
theorem dX6_addStep_58 : decode cX6_addStep 58 = .ok (.athrow, 1) := by decide +kernel
theorem dX6_addStep_59 : decode cX6_addStep 59 = .ok (.aload 4, 2) := by decide +kernel
theorem dX6_addStep_61 : decode cX6_addStep 61 = .ok (.invokestatic 67, 3) := by decide +kernel
theorem dX6_addStep_64 : decode cX6_addStep 64 = .ok (.aload 4, 2) := by decide +kernel
theorem dX6_addStep_66 : decode cX6_addStep 66 = .ok (.getfield 70, 3) := by decide +kernel
theorem dX6_addStep_69 : decode cX6_addStep 69 = .ok (.bipush 8, 2) := by decide +kernel
theorem dX6_addStep_71 : decode cX6_addStep 71 = .ok (.if_icmp .lt 13, 3) := by decide +kernel
theorem dX6_addStep_74 : decode cX6_addStep 74 = .ok (.new 45, 3) := by decide +kernel
theorem dX6_addStep_77 : decode cX6_addStep 77 = .ok (.dup, 1) := by decide +kernel
theorem dX6_addStep_78 : decode cX6_addStep 78 = .ok (.ldc 73, 2) := by decide +kernel
theorem dX6_addStep_80 : decode cX6_addStep 80 = .ok (.invokespecial 49, 3) := by decide +kernel
theorem dX6_addStep_83 : decode cX6_addStep 83 = .ok (.athrow, 1) := by decide +kernel
theorem dX6_addStep_84 : decode cX6_addStep 84 = .ok (.aload 4, 2) := by decide +kernel
theorem dX6_addStep_86 : decode cX6_addStep 86 = .ok (.new 75, 3) := by decide +kernel
theorem dX6_addStep_89 : decode cX6_addStep 89 = .ok (.dup, 1) := by decide +kernel
theorem dX6_addStep_90 : decode cX6_addStep 90 = .ok (.iload_n 2, 1) := by decide +kernel
theorem dX6_addStep_91 : decode cX6_addStep 91 = .ok (.iload_n 3, 1) := by decide +kernel
theorem dX6_addStep_92 : decode cX6_addStep 92 = .ok (.invokespecial 77, 3) := by decide +kernel
theorem dX6_addStep_95 : decode cX6_addStep 95 = .ok (.invokevirtual 80, 3) := by decide +kernel
theorem dX6_addStep_98 : decode cX6_addStep 98 = .ok (.ireturn, 1) := by decide +kernel
theorem dX6_addEntry_0 : decode cX6_addEntry 0 = .ok (.aload_n 0, 1) := by decide +kernel
theorem dX6_addEntry_1 : decode cX6_addEntry 1 = .ok (.iload_n 1, 1) := by decide +kernel
theorem dX6_addEntry_2 : decode cX6_addEntry 2 = .ok (.invokevirtual 52, 3) := by decide +kernel
theorem dX6_addEntry_5 : decode cX6_addEntry 5 = .ok (.astore 6, 2) := by decide +kernel
theorem dX6_addEntry_7 : decode cX6_addEntry 7 = .ok (.aload 6, 2) := by decide +kernel
theorem dX6_addEntry_9 : decode cX6_addEntry 9 = .ok (.iload_n 2, 1) := by decide +kernel
theorem dX6_addEntry_10 : decode cX6_addEntry 10 = .ok (.invokestatic 84, 3) := by decide +kernel
theorem dX6_addEntry_13 : decode cX6_addEntry 13 = .ok (.astore 7, 2) := by decide +kernel
theorem dX6_addEntry_15 : decode cX6_addEntry 15 = .ok (.aload 6, 2) := by decide +kernel
theorem dX6_addEntry_17 : decode cX6_addEntry 17 = .ok (.iload_n 3, 1) := by decide +kernel
theorem dX6_addEntry_18 : decode cX6_addEntry 18 = .ok (.iload 4, 2) := by decide +kernel
theorem dX6_addEntry_20 : decode cX6_addEntry 20 = .ok (.iload 5, 2) := by decide +kernel
theorem dX6_addEntry_22 : decode cX6_addEntry 22 = .ok (.invokestatic 88, 3) := by decide +kernel
theorem dX6_addEntry_25 : decode cX6_addEntry 25 = .ok (.aload 6, 2) := by decide +kernel
theorem dX6_addEntry_27 : decode cX6_addEntry 27 = .ok (.invokestatic 67, 3) := by decide +kernel
theorem dX6_addEntry_30 : decode cX6_addEntry 30 = .ok (.aload 7, 2) := by decide +kernel
theorem dX6_addEntry_32 : decode cX6_addEntry 32 = .ok (.getfield 92, 3) := by decide +kernel
theorem dX6_addEntry_35 : decode cX6_addEntry 35 = .ok (.invokestatic 96, 3) := by decide +kernel
theorem dX6_addEntry_38 : decode cX6_addEntry 38 = .ok (.aload 7, 2) := by decide +kernel
theorem dX6_addEntry_40 : decode cX6_addEntry 40 = .ok (.getfield 92, 3) := by decide +kernel
theorem dX6_addEntry_43 : decode cX6_addEntry 43 = .ok (.new 100, 3) := by decide +kernel
theorem dX6_addEntry_46 : decode cX6_addEntry 46 = .ok (.dup, 1) := by decide +kernel
theorem dX6_addEntry_47 : decode cX6_addEntry 47 = .ok (.iload_n 3, 1) := by decide +kernel
theorem dX6_addEntry_48 : decode cX6_addEntry 48 = .ok (.iload 4, 2) := by decide +kernel
theorem dX6_addEntry_50 : decode cX6_addEntry 50 = .ok (.iload 5, 2) := by decide +kernel
theorem dX6_addEntry_52 : decode cX6_addEntry 52 = .ok (.invokespecial 102, 3) := by decide +kernel
theorem dX6_addEntry_55 : decode cX6_addEntry 55 = .ok (.invokevirtual 105, 3) := by decide +kernel
theorem dX6_addEntry_58 : decode cX6_addEntry 58 = .ok (.ireturn, 1) := by decide +kernel
theorem dX6_addExit_0 : decode cX6_addExit 0 = .ok (.aload_n 0, 1) := by decide +kernel
theorem dX6_addExit_1 : decode cX6_addExit 1 = .ok (.iload_n 1, 1) := by decide +kernel
theorem dX6_addExit_2 : decode cX6_addExit 2 = .ok (.invokevirtual 52, 3) := by decide +kernel
theorem dX6_addExit_5 : decode cX6_addExit 5 = .ok (.astore 6, 2) := by decide +kernel
theorem dX6_addExit_7 : decode cX6_addExit 7 = .ok (.aload 6, 2) := by decide +kernel
theorem dX6_addExit_9 : decode cX6_addExit 9 = .ok (.iload_n 2, 1) := by decide +kernel
theorem dX6_addExit_10 : decode cX6_addExit 10 = .ok (.invokestatic 84, 3) := by decide +kernel
theorem dX6_addExit_13 : decode cX6_addExit 13 = .ok (.astore 7, 2) := by decide +kernel
theorem dX6_addExit_15 : decode cX6_addExit 15 = .ok (.aload 6, 2) := by decide +kernel
theorem dX6_addExit_17 : decode cX6_addExit 17 = .ok (.iload_n 3, 1) := by decide +kernel
theorem dX6_addExit_18 : decode cX6_addExit 18 = .ok (.iload 4, 2) := by decide +kernel
theorem dX6_addExit_20 : decode cX6_addExit 20 = .ok (.iload 5, 2) := by decide +kernel
theorem dX6_addExit_22 : decode cX6_addExit 22 = .ok (.invokestatic 88, 3) := by decide +kernel
theorem dX6_addExit_25 : decode cX6_addExit 25 = .ok (.aload 7, 2) := by decide +kernel
theorem dX6_addExit_27 : decode cX6_addExit 27 = .ok (.getfield 110, 3) := by decide +kernel
theorem dX6_addExit_30 : decode cX6_addExit 30 = .ok (.bipush 109, 2) := by decide +kernel
theorem dX6_addExit_32 : decode cX6_addExit 32 = .ok (.if_icmp .ne 13, 3) := by decide +kernel
theorem dX6_addExit_35 : decode cX6_addExit 35 = .ok (.new 114, 3) := by decide +kernel
theorem dX6_addExit_38 : decode cX6_addExit 38 = .ok (.dup, 1) := by decide +kernel
theorem dX6_addExit_39 : decode cX6_addExit 39 = .ok (.ldc 116, 2) := by decide +kernel
theorem dX6_addExit_41 : decode cX6_addExit 41 = .ok (.invokespecial 118, 3) := by decide +kernel
theorem dX6_addExit_44 : decode cX6_addExit 44 = .ok (.athrow, 1) := by decide +kernel
theorem dX6_addExit_45 : decode cX6_addExit 45 = .ok (.aload 6, 2) := by decide +kernel
theorem dX6_addExit_47 : decode cX6_addExit 47 = .ok (.invokestatic 67, 3) := by decide +kernel
theorem dX6_addExit_50 : decode cX6_addExit 50 = .ok (.aload 7, 2) := by decide +kernel
theorem dX6_addExit_52 : decode cX6_addExit 52 = .ok (.getfield 119, 3) := by decide +kernel
theorem dX6_addExit_55 : decode cX6_addExit 55 = .ok (.invokestatic 96, 3) := by decide +kernel
theorem dX6_addExit_58 : decode cX6_addExit 58 = .ok (.aload 7, 2) := by decide +kernel
theorem dX6_addExit_60 : decode cX6_addExit 60 = .ok (.getfield 119, 3) := by decide +kernel
theorem dX6_addExit_63 : decode cX6_addExit 63 = .ok (.new 100, 3) := by decide +kernel
theorem dX6_addExit_66 : decode cX6_addExit 66 = .ok (.dup, 1) := by decide +kernel
theorem dX6_addExit_67 : decode cX6_addExit 67 = .ok (.iload_n 3, 1) := by decide +kernel
theorem dX6_addExit_68 : decode cX6_addExit 68 = .ok (.iload 4, 2) := by decide +kernel
theorem dX6_addExit_70 : decode cX6_addExit 70 = .ok (.iload 5, 2) := by decide +kernel
theorem dX6_addExit_72 : decode cX6_addExit 72 = .ok (.invokespecial 102, 3) := by decide +kernel
theorem dX6_addExit_75 : decode cX6_addExit 75 = .ok (.invokevirtual 105, 3) := by decide +kernel
theorem dX6_addExit_78 : decode cX6_addExit 78 = .ok (.ireturn, 1) := by decide +kernel
theorem dX6_setRequired_0 : decode cX6_setRequired 0 = .ok (.aload_n 0, 1) := by decide +kernel
theorem dX6_setRequired_1 : decode cX6_setRequired 1 = .ok (.iload_n 1, 1) := by decide +kernel
theorem dX6_setRequired_2 : decode cX6_setRequired 2 = .ok (.invokevirtual 52, 3) := by decide +kernel
theorem dX6_setRequired_5 : decode cX6_setRequired 5 = .ok (.astore 4, 2) := by decide +kernel
theorem dX6_setRequired_7 : decode cX6_setRequired 7 = .ok (.aload 4, 2) := by decide +kernel
theorem dX6_setRequired_9 : decode cX6_setRequired 9 = .ok (.iload_n 2, 1) := by decide +kernel
theorem dX6_setRequired_10 : decode cX6_setRequired 10 = .ok (.invokestatic 84, 3) := by decide +kernel
theorem dX6_setRequired_13 : decode cX6_setRequired 13 = .ok (.astore 5, 2) := by decide +kernel
theorem dX6_setRequired_15 : decode cX6_setRequired 15 = .ok (.aload 5, 2) := by decide +kernel
theorem dX6_setRequired_17 : decode cX6_setRequired 17 = .ok (.invokestatic 122, 3) := by decide +kernel
theorem dX6_setRequired_20 : decode cX6_setRequired 20 = .ok (.aload 4, 2) := by decide +kernel
theorem dX6_setRequired_22 : decode cX6_setRequired 22 = .ok (.invokestatic 67, 3) := by decide +kernel
theorem dX6_setRequired_25 : decode cX6_setRequired 25 = .ok (.aload 5, 2) := by decide +kernel
theorem dX6_setRequired_27 : decode cX6_setRequired 27 = .ok (.getfield 126, 3) := by decide +kernel
theorem dX6_setRequired_30 : decode cX6_setRequired 30 = .ok (.istore 6, 2) := by decide +kernel
theorem dX6_setRequired_32 : decode cX6_setRequired 32 = .ok (.aload 5, 2) := by decide +kernel
theorem dX6_setRequired_34 : decode cX6_setRequired 34 = .ok (.iload_n 3, 1) := by decide +kernel
theorem dX6_setRequired_35 : decode cX6_setRequired 35 = .ok (.putfield 126, 3) := by decide +kernel
theorem dX6_setRequired_38 : decode cX6_setRequired 38 = .ok (.iload 6, 2) := by decide +kernel
theorem dX6_setRequired_40 : decode cX6_setRequired 40 = .ok (.ireturn, 1) := by decide +kernel
theorem dX6_setLimit_0 : decode cX6_setLimit 0 = .ok (.aload_n 0, 1) := by decide +kernel
theorem dX6_setLimit_1 : decode cX6_setLimit 1 = .ok (.iload_n 1, 1) := by decide +kernel
theorem dX6_setLimit_2 : decode cX6_setLimit 2 = .ok (.invokevirtual 52, 3) := by decide +kernel
theorem dX6_setLimit_5 : decode cX6_setLimit 5 = .ok (.astore 4, 2) := by decide +kernel
theorem dX6_setLimit_7 : decode cX6_setLimit 7 = .ok (.aload 4, 2) := by decide +kernel
theorem dX6_setLimit_9 : decode cX6_setLimit 9 = .ok (.iload_n 2, 1) := by decide +kernel
theorem dX6_setLimit_10 : decode cX6_setLimit 10 = .ok (.invokestatic 84, 3) := by decide +kernel
theorem dX6_setLimit_13 : decode cX6_setLimit 13 = .ok (.astore 5, 2) := by decide +kernel
theorem dX6_setLimit_15 : decode cX6_setLimit 15 = .ok (.iload_n 3, 1) := by decide +kernel
theorem dX6_setLimit_16 : decode cX6_setLimit 16 = .ok (.iconst 1, 1) := by decide +kernel
theorem dX6_setLimit_17 : decode cX6_setLimit 17 = .ok (.if_icmp .lt 9, 3) := by decide +kernel
theorem dX6_setLimit_20 : decode cX6_setLimit 20 = .ok (.iload_n 3, 1) := by decide +kernel
theorem dX6_setLimit_21 : decode cX6_setLimit 21 = .ok (.bipush 99, 2) := by decide +kernel
theorem dX6_setLimit_23 : decode cX6_setLimit 23 = .ok (.if_icmp .le 13, 3) := by decide +kernel
theorem dX6_setLimit_26 : decode cX6_setLimit 26 = .ok (.new 56, 3) := by decide +kernel
theorem dX6_setLimit_29 : decode cX6_setLimit 29 = .ok (.dup, 1) := by decide +kernel
theorem dX6_setLimit_30 : decode cX6_setLimit 30 = .ok (.ldc 130, 2) := by decide +kernel
theorem dX6_setLimit_32 : decode cX6_setLimit 32 = .ok (.invokespecial 60, 3) := by decide +kernel
theorem dX6_setLimit_35 : decode cX6_setLimit 35 = .ok (.athrow, 1) := by decide +kernel
theorem dX6_setLimit_36 : decode cX6_setLimit 36 = .ok (.aload 5, 2) := by decide +kernel
theorem dX6_setLimit_38 : decode cX6_setLimit 38 = .ok (.invokestatic 122, 3) := by decide +kernel
theorem dX6_setLimit_41 : decode cX6_setLimit 41 = .ok (.aload 4, 2) := by decide +kernel
theorem dX6_setLimit_43 : decode cX6_setLimit 43 = .ok (.invokestatic 67, 3) := by decide +kernel
theorem dX6_setLimit_46 : decode cX6_setLimit 46 = .ok (.aload 5, 2) := by decide +kernel
theorem dX6_setLimit_48 : decode cX6_setLimit 48 = .ok (.getfield 132, 3) := by decide +kernel
theorem dX6_setLimit_51 : decode cX6_setLimit 51 = .ok (.istore 6, 2) := by decide +kernel
theorem dX6_setLimit_53 : decode cX6_setLimit 53 = .ok (.aload 5, 2) := by decide +kernel
theorem dX6_setLimit_55 : decode cX6_setLimit 55 = .ok (.iload_n 3, 1) := by decide +kernel
theorem dX6_setLimit_56 : decode cX6_setLimit 56 = .ok (.putfield 132, 3) := by decide +kernel
theorem dX6_setLimit_59 : decode cX6_setLimit 59 = .ok (.iload 6, 2) := by decide +kernel
theorem dX6_setLimit_61 : decode cX6_setLimit 61 = .ok (.ireturn, 1) := by decide +kernel
theorem dX6_setAgain_0 : decode cX6_setAgain 0 = .ok (.aload_n 0, 1) := by decide +kernel
theorem dX6_setAgain_1 : decode cX6_setAgain 1 = .ok (.iload_n 1, 1) := by decide +kernel
theorem dX6_setAgain_2 : decode cX6_setAgain 2 = .ok (.invokevirtual 52, 3) := by decide +kernel
theorem dX6_setAgain_5 : decode cX6_setAgain 5 = .ok (.astore 4, 2) := by decide +kernel
theorem dX6_setAgain_7 : decode cX6_setAgain 7 = .ok (.aload 4, 2) := by decide +kernel
theorem dX6_setAgain_9 : decode cX6_setAgain 9 = .ok (.iload_n 2, 1) := by decide +kernel
theorem dX6_setAgain_10 : decode cX6_setAgain 10 = .ok (.invokestatic 84, 3) := by decide +kernel
theorem dX6_setAgain_13 : decode cX6_setAgain 13 = .ok (.astore 5, 2) := by decide +kernel
theorem dX6_setAgain_15 : decode cX6_setAgain 15 = .ok (.aload 5, 2) := by decide +kernel
theorem dX6_setAgain_17 : decode cX6_setAgain 17 = .ok (.getfield 110, 3) := by decide +kernel
theorem dX6_setAgain_20 : decode cX6_setAgain 20 = .ok (.bipush 109, 2) := by decide +kernel
theorem dX6_setAgain_22 : decode cX6_setAgain 22 = .ok (.if_icmp .eq 13, 3) := by decide +kernel
theorem dX6_setAgain_25 : decode cX6_setAgain 25 = .ok (.new 114, 3) := by decide +kernel
theorem dX6_setAgain_28 : decode cX6_setAgain 28 = .ok (.dup, 1) := by decide +kernel
theorem dX6_setAgain_29 : decode cX6_setAgain 29 = .ok (.ldc 135, 2) := by decide +kernel
theorem dX6_setAgain_31 : decode cX6_setAgain 31 = .ok (.invokespecial 118, 3) := by decide +kernel
theorem dX6_setAgain_34 : decode cX6_setAgain 34 = .ok (.athrow, 1) := by decide +kernel
theorem dX6_setAgain_35 : decode cX6_setAgain 35 = .ok (.aload 4, 2) := by decide +kernel
theorem dX6_setAgain_37 : decode cX6_setAgain 37 = .ok (.invokestatic 67, 3) := by decide +kernel
theorem dX6_setAgain_40 : decode cX6_setAgain 40 = .ok (.aload 5, 2) := by decide +kernel
theorem dX6_setAgain_42 : decode cX6_setAgain 42 = .ok (.getfield 137, 3) := by decide +kernel
theorem dX6_setAgain_45 : decode cX6_setAgain 45 = .ok (.istore 6, 2) := by decide +kernel
theorem dX6_setAgain_47 : decode cX6_setAgain 47 = .ok (.aload 5, 2) := by decide +kernel
theorem dX6_setAgain_49 : decode cX6_setAgain 49 = .ok (.iload_n 3, 1) := by decide +kernel
theorem dX6_setAgain_50 : decode cX6_setAgain 50 = .ok (.putfield 137, 3) := by decide +kernel
theorem dX6_setAgain_53 : decode cX6_setAgain 53 = .ok (.iload 6, 2) := by decide +kernel
theorem dX6_setAgain_55 : decode cX6_setAgain 55 = .ok (.ireturn, 1) := by decide +kernel
theorem dX6_steps_0 : decode cX6_steps 0 = .ok (.aload_n 0, 1) := by decide +kernel
theorem dX6_steps_1 : decode cX6_steps 1 = .ok (.iload_n 1, 1) := by decide +kernel
theorem dX6_steps_2 : decode cX6_steps 2 = .ok (.invokevirtual 52, 3) := by decide +kernel
theorem dX6_steps_5 : decode cX6_steps 5 = .ok (.getfield 70, 3) := by decide +kernel
theorem dX6_steps_8 : decode cX6_steps 8 = .ok (.ireturn, 1) := by decide +kernel
theorem dX6_isUsed_0 : decode cX6_isUsed 0 = .ok (.aload_n 0, 1) := by decide +kernel
theorem dX6_isUsed_1 : decode cX6_isUsed 1 = .ok (.iload_n 1, 1) := by decide +kernel
theorem dX6_isUsed_2 : decode cX6_isUsed 2 = .ok (.invokevirtual 52, 3) := by decide +kernel
theorem dX6_isUsed_5 : decode cX6_isUsed 5 = .ok (.getfield 140, 3) := by decide +kernel
theorem dX6_isUsed_8 : decode cX6_isUsed 8 = .ok (.ireturn, 1) := by decide +kernel
theorem dX6_begin_0 : decode cX6_begin 0 = .ok (.aload_n 0, 1) := by decide +kernel
theorem dX6_begin_1 : decode cX6_begin 1 = .ok (.iload_n 1, 1) := by decide +kernel
theorem dX6_begin_2 : decode cX6_begin 2 = .ok (.invokevirtual 52, 3) := by decide +kernel
theorem dX6_begin_5 : decode cX6_begin 5 = .ok (.astore_n 2, 1) := by decide +kernel
theorem dX6_begin_6 : decode cX6_begin 6 = .ok (.aload_n 2, 1) := by decide +kernel
theorem dX6_begin_7 : decode cX6_begin 7 = .ok (.getfield 70, 3) := by decide +kernel
theorem dX6_begin_10 : decode cX6_begin 10 = .ok (.ifCond .ne 13, 3) := by decide +kernel
theorem dX6_begin_13 : decode cX6_begin 13 = .ok (.new 45, 3) := by decide +kernel
theorem dX6_begin_16 : decode cX6_begin 16 = .ok (.dup, 1) := by decide +kernel
theorem dX6_begin_17 : decode cX6_begin 17 = .ok (.ldc 143, 2) := by decide +kernel
theorem dX6_begin_19 : decode cX6_begin 19 = .ok (.invokespecial 49, 3) := by decide +kernel
theorem dX6_begin_22 : decode cX6_begin 22 = .ok (.athrow, 1) := by decide +kernel
theorem dX6_begin_23 : decode cX6_begin 23 = .ok (.aload_n 0, 1) := by decide +kernel
theorem dX6_begin_24 : decode cX6_begin 24 = .ok (.getfield 25, 3) := by decide +kernel
theorem dX6_begin_27 : decode cX6_begin 27 = .ok (.ifCond .lt 11, 3) := by decide +kernel
theorem dX6_begin_30 : decode cX6_begin 30 = .ok (.aload_n 0, 1) := by decide +kernel
theorem dX6_begin_31 : decode cX6_begin 31 = .ok (.getfield 25, 3) := by decide +kernel
theorem dX6_begin_34 : decode cX6_begin 34 = .ok (.iconst 4, 1) := by decide +kernel
theorem dX6_begin_35 : decode cX6_begin 35 = .ok (.if_icmp .lt 13, 3) := by decide +kernel
theorem dX6_begin_38 : decode cX6_begin 38 = .ok (.new 45, 3) := by decide +kernel
theorem dX6_begin_41 : decode cX6_begin 41 = .ok (.dup, 1) := by decide +kernel
theorem dX6_begin_42 : decode cX6_begin 42 = .ok (.ldc 145, 2) := by decide +kernel
theorem dX6_begin_44 : decode cX6_begin 44 = .ok (.invokespecial 49, 3) := by decide +kernel
theorem dX6_begin_47 : decode cX6_begin 47 = .ok (.athrow, 1) := by decide +kernel
theorem dX6_begin_48 : decode cX6_begin 48 = .ok (.aload_n 0, 1) := by decide +kernel
theorem dX6_begin_49 : decode cX6_begin 49 = .ok (.getfield 25, 3) := by decide +kernel
theorem dX6_begin_52 : decode cX6_begin 52 = .ok (.istore_n 3, 1) := by decide +kernel
theorem dX6_begin_53 : decode cX6_begin 53 = .ok (.new 19, 3) := by decide +kernel
theorem dX6_begin_56 : decode cX6_begin 56 = .ok (.dup, 1) := by decide +kernel
theorem dX6_begin_57 : decode cX6_begin 57 = .ok (.aload_n 2, 1) := by decide +kernel
theorem dX6_begin_58 : decode cX6_begin 58 = .ok (.invokespecial 38, 3) := by decide +kernel
theorem dX6_begin_61 : decode cX6_begin 61 = .ok (.astore 4, 2) := by decide +kernel
theorem dX6_begin_63 : decode cX6_begin 63 = .ok (.aload_n 0, 1) := by decide +kernel
theorem dX6_begin_64 : decode cX6_begin 64 = .ok (.getfield 21, 3) := by decide +kernel
theorem dX6_begin_67 : decode cX6_begin 67 = .ok (.iload_n 3, 1) := by decide +kernel
theorem dX6_begin_68 : decode cX6_begin 68 = .ok (.aload 4, 2) := by decide +kernel
theorem dX6_begin_70 : decode cX6_begin 70 = .ok (.aastore, 1) := by decide +kernel
theorem dX6_begin_71 : decode cX6_begin 71 = .ok (.aload_n 0, 1) := by decide +kernel
theorem dX6_begin_72 : decode cX6_begin 72 = .ok (.iload_n 3, 1) := by decide +kernel
theorem dX6_begin_73 : decode cX6_begin 73 = .ok (.iconst 1, 1) := by decide +kernel
theorem dX6_begin_74 : decode cX6_begin 74 = .ok (.iadd, 1) := by decide +kernel
theorem dX6_begin_75 : decode cX6_begin 75 = .ok (.putfield 25, 3) := by decide +kernel
theorem dX6_begin_78 : decode cX6_begin 78 = .ok (.aload_n 2, 1) := by decide +kernel
theorem dX6_begin_79 : decode cX6_begin 79 = .ok (.iconst 1, 1) := by decide +kernel
theorem dX6_begin_80 : decode cX6_begin 80 = .ok (.putfield 140, 3) := by decide +kernel
theorem dX6_begin_83 : decode cX6_begin 83 = .ok (.aload_n 0, 1) := by decide +kernel
theorem dX6_begin_84 : decode cX6_begin 84 = .ok (.iload_n 3, 1) := by decide +kernel
theorem dX6_begin_85 : decode cX6_begin 85 = .ok (.aload 4, 2) := by decide +kernel
theorem dX6_begin_87 : decode cX6_begin 87 = .ok (.iconst 0, 1) := by decide +kernel
theorem dX6_begin_88 : decode cX6_begin 88 = .ok (.iload_n 1, 1) := by decide +kernel
theorem dX6_begin_89 : decode cX6_begin 89 = .ok (.iconst 0, 1) := by decide +kernel
theorem dX6_begin_90 : decode cX6_begin 90 = .ok (.invokevirtual 147, 3) := by decide +kernel
theorem dX6_begin_93 : decode cX6_begin 93 = .ok (.iload_n 3, 1) := by decide +kernel
theorem dX6_begin_94 : decode cX6_begin 94 = .ok (.ireturn, 1) := by decide +kernel
theorem dX6_set_0 : decode cX6_set 0 = .ok (.aload_n 0, 1) := by decide +kernel
theorem dX6_set_1 : decode cX6_set 1 = .ok (.iload_n 1, 1) := by decide +kernel
theorem dX6_set_2 : decode cX6_set 2 = .ok (.invokevirtual 151, 3) := by decide +kernel
theorem dX6_set_5 : decode cX6_set 5 = .ok (.astore 4, 2) := by decide +kernel
theorem dX6_set_7 : decode cX6_set 7 = .ok (.iload_n 2, 1) := by decide +kernel
theorem dX6_set_8 : decode cX6_set 8 = .ok (.invokestatic 155, 3) := by decide +kernel
theorem dX6_set_11 : decode cX6_set 11 = .ok (.ifCond .ne 13, 3) := by decide +kernel
theorem dX6_set_14 : decode cX6_set 14 = .ok (.new 56, 3) := by decide +kernel
theorem dX6_set_17 : decode cX6_set 17 = .ok (.dup, 1) := by decide +kernel
theorem dX6_set_18 : decode cX6_set 18 = .ok (.ldc 158, 2) := by decide +kernel
theorem dX6_set_20 : decode cX6_set 20 = .ok (.invokespecial 60, 3) := by decide +kernel
theorem dX6_set_23 : decode cX6_set 23 = .ok (.athrow, 1) := by decide +kernel
theorem dX6_set_24 : decode cX6_set 24 = .ok (.iload_n 3, 1) := by decide +kernel
theorem dX6_set_25 : decode cX6_set 25 = .ok (.invokestatic 160, 3) := by decide +kernel
theorem dX6_set_28 : decode cX6_set 28 = .ok (.ifCond .ne 13, 3) := by decide +kernel
theorem dX6_set_31 : decode cX6_set 31 = .ok (.new 56, 3) := by decide +kernel
theorem dX6_set_34 : decode cX6_set 34 = .ok (.dup, 1) := by decide +kernel
theorem dX6_set_35 : decode cX6_set 35 = .ok (.ldc 163, 2) := by decide +kernel
theorem dX6_set_37 : decode cX6_set 37 = .ok (.invokespecial 60, 3) := by decide +kernel
theorem dX6_set_40 : decode cX6_set 40 = .ok (.athrow, 1) := by decide +kernel
theorem dX6_set_41 : decode cX6_set 41 = .ok (.aload 4, 2) := by decide +kernel
theorem dX6_set_43 : decode cX6_set 43 = .ok (.iload_n 2, 1) := by decide +kernel
theorem dX6_set_44 : decode cX6_set 44 = .ok (.invokevirtual 165, 3) := by decide +kernel
theorem dX6_set_47 : decode cX6_set 47 = .ok (.istore 5, 2) := by decide +kernel
theorem dX6_set_49 : decode cX6_set 49 = .ok (.aload_n 0, 1) := by decide +kernel
theorem dX6_set_50 : decode cX6_set 50 = .ok (.iload_n 1, 1) := by decide +kernel
theorem dX6_set_51 : decode cX6_set 51 = .ok (.aload 4, 2) := by decide +kernel
theorem dX6_set_53 : decode cX6_set 53 = .ok (.iconst 1, 1) := by decide +kernel
theorem dX6_set_54 : decode cX6_set 54 = .ok (.iload_n 2, 1) := by decide +kernel
theorem dX6_set_55 : decode cX6_set 55 = .ok (.iload_n 3, 1) := by decide +kernel
theorem dX6_set_56 : decode cX6_set 56 = .ok (.invokevirtual 147, 3) := by decide +kernel
theorem dX6_set_59 : decode cX6_set 59 = .ok (.iload 5, 2) := by decide +kernel
theorem dX6_set_61 : decode cX6_set 61 = .ok (.ireturn, 1) := by decide +kernel
theorem dX6_event_0 : decode cX6_event 0 = .ok (.aload_n 0, 1) := by decide +kernel
theorem dX6_event_1 : decode cX6_event 1 = .ok (.iload_n 1, 1) := by decide +kernel
theorem dX6_event_2 : decode cX6_event 2 = .ok (.invokevirtual 151, 3) := by decide +kernel
theorem dX6_event_5 : decode cX6_event 5 = .ok (.astore_n 3, 1) := by decide +kernel
theorem dX6_event_6 : decode cX6_event 6 = .ok (.iload_n 2, 1) := by decide +kernel
theorem dX6_event_7 : decode cX6_event 7 = .ok (.invokestatic 169, 3) := by decide +kernel
theorem dX6_event_10 : decode cX6_event 10 = .ok (.ifCond .ne 13, 3) := by decide +kernel
theorem dX6_event_13 : decode cX6_event 13 = .ok (.new 56, 3) := by decide +kernel
theorem dX6_event_16 : decode cX6_event 16 = .ok (.dup, 1) := by decide +kernel
theorem dX6_event_17 : decode cX6_event 17 = .ok (.ldc 172, 2) := by decide +kernel
theorem dX6_event_19 : decode cX6_event 19 = .ok (.invokespecial 60, 3) := by decide +kernel
theorem dX6_event_22 : decode cX6_event 22 = .ok (.athrow, 1) := by decide +kernel
theorem dX6_event_23 : decode cX6_event 23 = .ok (.aload_n 3, 1) := by decide +kernel
theorem dX6_event_24 : decode cX6_event 24 = .ok (.invokevirtual 174, 3) := by decide +kernel
theorem dX6_event_27 : decode cX6_event 27 = .ok (.aload_n 0, 1) := by decide +kernel
theorem dX6_event_28 : decode cX6_event 28 = .ok (.iload_n 1, 1) := by decide +kernel
theorem dX6_event_29 : decode cX6_event 29 = .ok (.aload_n 3, 1) := by decide +kernel
theorem dX6_event_30 : decode cX6_event 30 = .ok (.iconst 2, 1) := by decide +kernel
theorem dX6_event_31 : decode cX6_event 31 = .ok (.iload_n 2, 1) := by decide +kernel
theorem dX6_event_32 : decode cX6_event 32 = .ok (.iconst 0, 1) := by decide +kernel
theorem dX6_event_33 : decode cX6_event 33 = .ok (.invokevirtual 147, 3) := by decide +kernel
theorem dX6_event_36 : decode cX6_event 36 = .ok (.aload_n 3, 1) := by decide +kernel
theorem dX6_event_37 : decode cX6_event 37 = .ok (.iconst (-1), 1) := by decide +kernel
theorem dX6_event_38 : decode cX6_event 38 = .ok (.invokevirtual 177, 3) := by decide +kernel
theorem dX6_event_41 : decode cX6_event 41 = .ok (.ireturn, 1) := by decide +kernel
theorem dX6_complete_0 : decode cX6_complete 0 = .ok (.aload_n 0, 1) := by decide +kernel
theorem dX6_complete_1 : decode cX6_complete 1 = .ok (.iload_n 1, 1) := by decide +kernel
theorem dX6_complete_2 : decode cX6_complete 2 = .ok (.invokevirtual 151, 3) := by decide +kernel
theorem dX6_complete_5 : decode cX6_complete 5 = .ok (.astore_n 3, 1) := by decide +kernel
theorem dX6_complete_6 : decode cX6_complete 6 = .ok (.aload_n 3, 1) := by decide +kernel
theorem dX6_complete_7 : decode cX6_complete 7 = .ok (.getfield 180, 3) := by decide +kernel
theorem dX6_complete_10 : decode cX6_complete 10 = .ok (.iload_n 2, 1) := by decide +kernel
theorem dX6_complete_11 : decode cX6_complete 11 = .ok (.invokestatic 84, 3) := by decide +kernel
theorem dX6_complete_14 : decode cX6_complete 14 = .ok (.invokestatic 122, 3) := by decide +kernel
theorem dX6_complete_17 : decode cX6_complete 17 = .ok (.aload_n 3, 1) := by decide +kernel
theorem dX6_complete_18 : decode cX6_complete 18 = .ok (.iload_n 2, 1) := by decide +kernel
theorem dX6_complete_19 : decode cX6_complete 19 = .ok (.invokevirtual 184, 3) := by decide +kernel
theorem dX6_complete_22 : decode cX6_complete 22 = .ok (.bipush 97, 2) := by decide +kernel
theorem dX6_complete_24 : decode cX6_complete 24 = .ok (.if_icmp .eq 13, 3) := by decide +kernel
theorem dX6_complete_27 : decode cX6_complete 27 = .ok (.new 45, 3) := by decide +kernel
theorem dX6_complete_30 : decode cX6_complete 30 = .ok (.dup, 1) := by decide +kernel
theorem dX6_complete_31 : decode cX6_complete 31 = .ok (.ldc 188, 2) := by decide +kernel
theorem dX6_complete_33 : decode cX6_complete 33 = .ok (.invokespecial 49, 3) := by decide +kernel
theorem dX6_complete_36 : decode cX6_complete 36 = .ok (.athrow, 1) := by decide +kernel
theorem dX6_complete_37 : decode cX6_complete 37 = .ok (.aload_n 3, 1) := by decide +kernel
theorem dX6_complete_38 : decode cX6_complete 38 = .ok (.invokevirtual 174, 3) := by decide +kernel
theorem dX6_complete_41 : decode cX6_complete 41 = .ok (.aload_n 0, 1) := by decide +kernel
theorem dX6_complete_42 : decode cX6_complete 42 = .ok (.iload_n 1, 1) := by decide +kernel
theorem dX6_complete_43 : decode cX6_complete 43 = .ok (.aload_n 3, 1) := by decide +kernel
theorem dX6_complete_44 : decode cX6_complete 44 = .ok (.iconst 3, 1) := by decide +kernel
theorem dX6_complete_45 : decode cX6_complete 45 = .ok (.iload_n 2, 1) := by decide +kernel
theorem dX6_complete_46 : decode cX6_complete 46 = .ok (.iconst 0, 1) := by decide +kernel
theorem dX6_complete_47 : decode cX6_complete 47 = .ok (.invokevirtual 147, 3) := by decide +kernel
theorem dX6_complete_50 : decode cX6_complete 50 = .ok (.aload_n 3, 1) := by decide +kernel
theorem dX6_complete_51 : decode cX6_complete 51 = .ok (.iload_n 2, 1) := by decide +kernel
theorem dX6_complete_52 : decode cX6_complete 52 = .ok (.invokevirtual 177, 3) := by decide +kernel
theorem dX6_complete_55 : decode cX6_complete 55 = .ok (.ireturn, 1) := by decide +kernel
theorem dX6_setWaiting_0 : decode cX6_setWaiting 0 = .ok (.aload_n 0, 1) := by decide +kernel
theorem dX6_setWaiting_1 : decode cX6_setWaiting 1 = .ok (.iload_n 1, 1) := by decide +kernel
theorem dX6_setWaiting_2 : decode cX6_setWaiting 2 = .ok (.invokevirtual 151, 3) := by decide +kernel
theorem dX6_setWaiting_5 : decode cX6_setWaiting 5 = .ok (.astore_n 3, 1) := by decide +kernel
theorem dX6_setWaiting_6 : decode cX6_setWaiting 6 = .ok (.aload_n 3, 1) := by decide +kernel
theorem dX6_setWaiting_7 : decode cX6_setWaiting 7 = .ok (.getfield 190, 3) := by decide +kernel
theorem dX6_setWaiting_10 : decode cX6_setWaiting 10 = .ok (.istore 4, 2) := by decide +kernel
theorem dX6_setWaiting_12 : decode cX6_setWaiting 12 = .ok (.aload_n 0, 1) := by decide +kernel
theorem dX6_setWaiting_13 : decode cX6_setWaiting 13 = .ok (.iload_n 1, 1) := by decide +kernel
theorem dX6_setWaiting_14 : decode cX6_setWaiting 14 = .ok (.aload_n 3, 1) := by decide +kernel
theorem dX6_setWaiting_15 : decode cX6_setWaiting 15 = .ok (.iload_n 2, 1) := by decide +kernel
theorem dX6_setWaiting_16 : decode cX6_setWaiting 16 = .ok (.ifCond .eq 7, 3) := by decide +kernel
theorem dX6_setWaiting_19 : decode cX6_setWaiting 19 = .ok (.iconst 4, 1) := by decide +kernel
theorem dX6_setWaiting_20 : decode cX6_setWaiting 20 = .ok (.goto 4, 3) := by decide +kernel
theorem dX6_setWaiting_23 : decode cX6_setWaiting 23 = .ok (.iconst 5, 1) := by decide +kernel
theorem dX6_setWaiting_24 : decode cX6_setWaiting 24 = .ok (.iconst 0, 1) := by decide +kernel
theorem dX6_setWaiting_25 : decode cX6_setWaiting 25 = .ok (.iconst 0, 1) := by decide +kernel
theorem dX6_setWaiting_26 : decode cX6_setWaiting 26 = .ok (.invokevirtual 147, 3) := by decide +kernel
theorem dX6_setWaiting_29 : decode cX6_setWaiting 29 = .ok (.iload 4, 2) := by decide +kernel
theorem dX6_setWaiting_31 : decode cX6_setWaiting 31 = .ok (.ireturn, 1) := by decide +kernel
theorem dX6_move_0 : decode cX6_move 0 = .ok (.aload_n 0, 1) := by decide +kernel
theorem dX6_move_1 : decode cX6_move 1 = .ok (.iload_n 1, 1) := by decide +kernel
theorem dX6_move_2 : decode cX6_move 2 = .ok (.invokevirtual 151, 3) := by decide +kernel
theorem dX6_move_5 : decode cX6_move 5 = .ok (.astore_n 3, 1) := by decide +kernel
theorem dX6_move_6 : decode cX6_move 6 = .ok (.aload_n 0, 1) := by decide +kernel
theorem dX6_move_7 : decode cX6_move 7 = .ok (.iload_n 2, 1) := by decide +kernel
theorem dX6_move_8 : decode cX6_move 8 = .ok (.invokevirtual 52, 3) := by decide +kernel
theorem dX6_move_11 : decode cX6_move 11 = .ok (.astore 4, 2) := by decide +kernel
theorem dX6_move_13 : decode cX6_move 13 = .ok (.aload 4, 2) := by decide +kernel
theorem dX6_move_15 : decode cX6_move 15 = .ok (.getfield 70, 3) := by decide +kernel
theorem dX6_move_18 : decode cX6_move 18 = .ok (.aload_n 3, 1) := by decide +kernel
theorem dX6_move_19 : decode cX6_move 19 = .ok (.getfield 180, 3) := by decide +kernel
theorem dX6_move_22 : decode cX6_move 22 = .ok (.getfield 70, 3) := by decide +kernel
theorem dX6_move_25 : decode cX6_move 25 = .ok (.if_icmp .ge 13, 3) := by decide +kernel
theorem dX6_move_28 : decode cX6_move 28 = .ok (.new 56, 3) := by decide +kernel
theorem dX6_move_31 : decode cX6_move 31 = .ok (.dup, 1) := by decide +kernel
theorem dX6_move_32 : decode cX6_move 32 = .ok (.ldc 193, 2) := by decide +kernel
theorem dX6_move_34 : decode cX6_move 34 = .ok (.invokespecial 60, 3) := by decide +kernel
theorem dX6_move_37 : decode cX6_move 37 = .ok (.athrow, 1) := by decide +kernel
theorem dX6_move_38 : decode cX6_move 38 = .ok (.aload_n 3, 1) := by decide +kernel
theorem dX6_move_39 : decode cX6_move 39 = .ok (.getfield 180, 3) := by decide +kernel
theorem dX6_move_42 : decode cX6_move 42 = .ok (.getfield 195, 3) := by decide +kernel
theorem dX6_move_45 : decode cX6_move 45 = .ok (.istore 5, 2) := by decide +kernel
theorem dX6_move_47 : decode cX6_move 47 = .ok (.aload 4, 2) := by decide +kernel
theorem dX6_move_49 : decode cX6_move 49 = .ok (.iconst 1, 1) := by decide +kernel
theorem dX6_move_50 : decode cX6_move 50 = .ok (.putfield 140, 3) := by decide +kernel
theorem dX6_move_53 : decode cX6_move 53 = .ok (.aload_n 0, 1) := by decide +kernel
theorem dX6_move_54 : decode cX6_move 54 = .ok (.iload_n 1, 1) := by decide +kernel
theorem dX6_move_55 : decode cX6_move 55 = .ok (.aload_n 3, 1) := by decide +kernel
theorem dX6_move_56 : decode cX6_move 56 = .ok (.bipush 6, 2) := by decide +kernel
theorem dX6_move_58 : decode cX6_move 58 = .ok (.iload_n 2, 1) := by decide +kernel
theorem dX6_move_59 : decode cX6_move 59 = .ok (.iconst 0, 1) := by decide +kernel
theorem dX6_move_60 : decode cX6_move 60 = .ok (.invokevirtual 147, 3) := by decide +kernel
theorem dX6_move_63 : decode cX6_move 63 = .ok (.iload 5, 2) := by decide +kernel
theorem dX6_move_65 : decode cX6_move 65 = .ok (.ireturn, 1) := by decide +kernel
theorem dX6_pass_0 : decode cX6_pass 0 = .ok (.iload_n 1, 1) := by decide +kernel
theorem dX6_pass_1 : decode cX6_pass 1 = .ok (.iconst 1, 1) := by decide +kernel
theorem dX6_pass_2 : decode cX6_pass 2 = .ok (.if_icmp .lt 9, 3) := by decide +kernel
theorem dX6_pass_5 : decode cX6_pass 5 = .ok (.iload_n 1, 1) := by decide +kernel
theorem dX6_pass_6 : decode cX6_pass 6 = .ok (.bipush 10, 2) := by decide +kernel
theorem dX6_pass_8 : decode cX6_pass 8 = .ok (.if_icmp .le 13, 3) := by decide +kernel
theorem dX6_pass_11 : decode cX6_pass 11 = .ok (.new 56, 3) := by decide +kernel
theorem dX6_pass_14 : decode cX6_pass 14 = .ok (.dup, 1) := by decide +kernel
theorem dX6_pass_15 : decode cX6_pass 15 = .ok (.ldc 198, 2) := by decide +kernel
theorem dX6_pass_17 : decode cX6_pass 17 = .ok (.invokespecial 60, 3) := by decide +kernel
theorem dX6_pass_20 : decode cX6_pass 20 = .ok (.athrow, 1) := by decide +kernel
theorem dX6_pass_21 : decode cX6_pass 21 = .ok (.aload_n 0, 1) := by decide +kernel
theorem dX6_pass_22 : decode cX6_pass 22 = .ok (.getfield 31, 3) := by decide +kernel
theorem dX6_pass_25 : decode cX6_pass 25 = .ok (.iconst (-1), 1) := by decide +kernel
theorem dX6_pass_26 : decode cX6_pass 26 = .ok (.bipush 7, 2) := by decide +kernel
theorem dX6_pass_28 : decode cX6_pass 28 = .ok (.iload_n 1, 1) := by decide +kernel
theorem dX6_pass_29 : decode cX6_pass 29 = .ok (.iconst 0, 1) := by decide +kernel
theorem dX6_pass_30 : decode cX6_pass 30 = .ok (.invokevirtual 200, 3) := by decide +kernel
theorem dX6_pass_33 : decode cX6_pass 33 = .ok (.iconst 0, 1) := by decide +kernel
theorem dX6_pass_34 : decode cX6_pass 34 = .ok (.istore_n 2, 1) := by decide +kernel
theorem dX6_pass_35 : decode cX6_pass 35 = .ok (.iload_n 2, 1) := by decide +kernel
theorem dX6_pass_36 : decode cX6_pass 36 = .ok (.iload_n 1, 1) := by decide +kernel
theorem dX6_pass_37 : decode cX6_pass 37 = .ok (.if_icmp .ge 38, 3) := by decide +kernel
theorem dX6_pass_40 : decode cX6_pass 40 = .ok (.iconst 0, 1) := by decide +kernel
theorem dX6_pass_41 : decode cX6_pass 41 = .ok (.istore_n 3, 1) := by decide +kernel
theorem dX6_pass_42 : decode cX6_pass 42 = .ok (.iload_n 3, 1) := by decide +kernel
theorem dX6_pass_43 : decode cX6_pass 43 = .ok (.aload_n 0, 1) := by decide +kernel
theorem dX6_pass_44 : decode cX6_pass 44 = .ok (.getfield 25, 3) := by decide +kernel
theorem dX6_pass_47 : decode cX6_pass 47 = .ok (.if_icmp .ge 22, 3) := by decide +kernel
theorem dX6_pass_50 : decode cX6_pass 50 = .ok (.aload_n 0, 1) := by decide +kernel
theorem dX6_pass_51 : decode cX6_pass 51 = .ok (.aload_n 0, 1) := by decide +kernel
theorem dX6_pass_52 : decode cX6_pass 52 = .ok (.iload_n 3, 1) := by decide +kernel
theorem dX6_pass_53 : decode cX6_pass 53 = .ok (.invokevirtual 203, 3) := by decide +kernel
theorem dX6_pass_56 : decode cX6_pass 56 = .ok (.bipush 7, 2) := by decide +kernel
theorem dX6_pass_58 : decode cX6_pass 58 = .ok (.iconst 0, 1) := by decide +kernel
theorem dX6_pass_59 : decode cX6_pass 59 = .ok (.iconst 0, 1) := by decide +kernel
theorem dX6_pass_60 : decode cX6_pass 60 = .ok (.invokevirtual 206, 3) := by decide +kernel
theorem dX6_pass_63 : decode cX6_pass 63 = .ok (.iinc 3 1, 3) := by decide +kernel
theorem dX6_pass_66 : decode cX6_pass 66 = .ok (.goto (-24), 3) := by decide +kernel
theorem dX6_pass_69 : decode cX6_pass 69 = .ok (.iinc 2 1, 3) := by decide +kernel
theorem dX6_pass_72 : decode cX6_pass 72 = .ok (.goto (-37), 3) := by decide +kernel
theorem dX6_pass_75 : decode cX6_pass 75 = .ok (.aload_n 0, 1) := by decide +kernel
theorem dX6_pass_76 : decode cX6_pass 76 = .ok (.invokevirtual 210, 3) := by decide +kernel
theorem dX6_pass_79 : decode cX6_pass 79 = .ok (.ireturn, 1) := by decide +kernel
theorem dX6_state_0 : decode cX6_state 0 = .ok (.aload_n 0, 1) := by decide +kernel
theorem dX6_state_1 : decode cX6_state 1 = .ok (.iload_n 1, 1) := by decide +kernel
theorem dX6_state_2 : decode cX6_state 2 = .ok (.iload_n 2, 1) := by decide +kernel
theorem dX6_state_3 : decode cX6_state 3 = .ok (.invokevirtual 214, 3) := by decide +kernel
theorem dX6_state_6 : decode cX6_state 6 = .ok (.iload_n 2, 1) := by decide +kernel
theorem dX6_state_7 : decode cX6_state 7 = .ok (.invokevirtual 184, 3) := by decide +kernel
theorem dX6_state_10 : decode cX6_state 10 = .ok (.ireturn, 1) := by decide +kernel
theorem dX6_stateByReplay_0 : decode cX6_stateByReplay 0 = .ok (.aload_n 0, 1) := by decide +kernel
theorem dX6_stateByReplay_1 : decode cX6_stateByReplay 1 = .ok (.iload_n 1, 1) := by decide +kernel
theorem dX6_stateByReplay_2 : decode cX6_stateByReplay 2 = .ok (.iload_n 2, 1) := by decide +kernel
theorem dX6_stateByReplay_3 : decode cX6_stateByReplay 3 = .ok (.invokevirtual 214, 3) := by decide +kernel
theorem dX6_stateByReplay_6 : decode cX6_stateByReplay 6 = .ok (.pop, 1) := by decide +kernel
theorem dX6_stateByReplay_7 : decode cX6_stateByReplay 7 = .ok (.aload_n 0, 1) := by decide +kernel
theorem dX6_stateByReplay_8 : decode cX6_stateByReplay 8 = .ok (.iload_n 1, 1) := by decide +kernel
theorem dX6_stateByReplay_9 : decode cX6_stateByReplay 9 = .ok (.invokevirtual 218, 3) := by decide +kernel
theorem dX6_stateByReplay_12 : decode cX6_stateByReplay 12 = .ok (.aload_n 0, 1) := by decide +kernel
theorem dX6_stateByReplay_13 : decode cX6_stateByReplay 13 = .ok (.getfield 41, 3) := by decide +kernel
theorem dX6_stateByReplay_16 : decode cX6_stateByReplay 16 = .ok (.iload_n 2, 1) := by decide +kernel
theorem dX6_stateByReplay_17 : decode cX6_stateByReplay 17 = .ok (.invokevirtual 184, 3) := by decide +kernel
theorem dX6_stateByReplay_20 : decode cX6_stateByReplay 20 = .ok (.ireturn, 1) := by decide +kernel
theorem dX6_clock_0 : decode cX6_clock 0 = .ok (.aload_n 0, 1) := by decide +kernel
theorem dX6_clock_1 : decode cX6_clock 1 = .ok (.iload_n 1, 1) := by decide +kernel
theorem dX6_clock_2 : decode cX6_clock 2 = .ok (.iload_n 2, 1) := by decide +kernel
theorem dX6_clock_3 : decode cX6_clock 3 = .ok (.invokevirtual 214, 3) := by decide +kernel
theorem dX6_clock_6 : decode cX6_clock 6 = .ok (.iload_n 2, 1) := by decide +kernel
theorem dX6_clock_7 : decode cX6_clock 7 = .ok (.invokevirtual 221, 3) := by decide +kernel
theorem dX6_clock_10 : decode cX6_clock 10 = .ok (.ireturn, 1) := by decide +kernel
theorem dX6_clockByReplay_0 : decode cX6_clockByReplay 0 = .ok (.aload_n 0, 1) := by decide +kernel
theorem dX6_clockByReplay_1 : decode cX6_clockByReplay 1 = .ok (.iload_n 1, 1) := by decide +kernel
theorem dX6_clockByReplay_2 : decode cX6_clockByReplay 2 = .ok (.iload_n 2, 1) := by decide +kernel
theorem dX6_clockByReplay_3 : decode cX6_clockByReplay 3 = .ok (.invokevirtual 214, 3) := by decide +kernel
theorem dX6_clockByReplay_6 : decode cX6_clockByReplay 6 = .ok (.pop, 1) := by decide +kernel
theorem dX6_clockByReplay_7 : decode cX6_clockByReplay 7 = .ok (.aload_n 0, 1) := by decide +kernel
theorem dX6_clockByReplay_8 : decode cX6_clockByReplay 8 = .ok (.iload_n 1, 1) := by decide +kernel
theorem dX6_clockByReplay_9 : decode cX6_clockByReplay 9 = .ok (.invokevirtual 218, 3) := by decide +kernel
theorem dX6_clockByReplay_12 : decode cX6_clockByReplay 12 = .ok (.aload_n 0, 1) := by decide +kernel
theorem dX6_clockByReplay_13 : decode cX6_clockByReplay 13 = .ok (.getfield 41, 3) := by decide +kernel
theorem dX6_clockByReplay_16 : decode cX6_clockByReplay 16 = .ok (.iload_n 2, 1) := by decide +kernel
theorem dX6_clockByReplay_17 : decode cX6_clockByReplay 17 = .ok (.invokevirtual 221, 3) := by decide +kernel
theorem dX6_clockByReplay_20 : decode cX6_clockByReplay 20 = .ok (.ireturn, 1) := by decide +kernel
theorem dX6_count_0 : decode cX6_count 0 = .ok (.aload_n 0, 1) := by decide +kernel
theorem dX6_count_1 : decode cX6_count 1 = .ok (.iload_n 1, 1) := by decide +kernel
theorem dX6_count_2 : decode cX6_count 2 = .ok (.iload_n 2, 1) := by decide +kernel
theorem dX6_count_3 : decode cX6_count 3 = .ok (.invokevirtual 214, 3) := by decide +kernel
theorem dX6_count_6 : decode cX6_count 6 = .ok (.iload_n 2, 1) := by decide +kernel
theorem dX6_count_7 : decode cX6_count 7 = .ok (.invokevirtual 224, 3) := by decide +kernel
theorem dX6_count_10 : decode cX6_count 10 = .ok (.ireturn, 1) := by decide +kernel
theorem dX6_isLate_0 : decode cX6_isLate 0 = .ok (.aload_n 0, 1) := by decide +kernel
theorem dX6_isLate_1 : decode cX6_isLate 1 = .ok (.iload_n 1, 1) := by decide +kernel
theorem dX6_isLate_2 : decode cX6_isLate 2 = .ok (.iload_n 2, 1) := by decide +kernel
theorem dX6_isLate_3 : decode cX6_isLate 3 = .ok (.invokevirtual 214, 3) := by decide +kernel
theorem dX6_isLate_6 : decode cX6_isLate 6 = .ok (.astore_n 3, 1) := by decide +kernel
theorem dX6_isLate_7 : decode cX6_isLate 7 = .ok (.aload_n 3, 1) := by decide +kernel
theorem dX6_isLate_8 : decode cX6_isLate 8 = .ok (.iload_n 2, 1) := by decide +kernel
theorem dX6_isLate_9 : decode cX6_isLate 9 = .ok (.invokevirtual 227, 3) := by decide +kernel
theorem dX6_isLate_12 : decode cX6_isLate 12 = .ok (.ifCond .eq 15, 3) := by decide +kernel
theorem dX6_isLate_15 : decode cX6_isLate 15 = .ok (.aload_n 3, 1) := by decide +kernel
theorem dX6_isLate_16 : decode cX6_isLate 16 = .ok (.iload_n 2, 1) := by decide +kernel
theorem dX6_isLate_17 : decode cX6_isLate 17 = .ok (.invokevirtual 230, 3) := by decide +kernel
theorem dX6_isLate_20 : decode cX6_isLate 20 = .ok (.ifCond .gt 7, 3) := by decide +kernel
theorem dX6_isLate_23 : decode cX6_isLate 23 = .ok (.iconst 1, 1) := by decide +kernel
theorem dX6_isLate_24 : decode cX6_isLate 24 = .ok (.goto 4, 3) := by decide +kernel
theorem dX6_isLate_27 : decode cX6_isLate 27 = .ok (.iconst 0, 1) := by decide +kernel
theorem dX6_isLate_28 : decode cX6_isLate 28 = .ok (.ireturn, 1) := by decide +kernel
theorem dX6_daysLeft_0 : decode cX6_daysLeft 0 = .ok (.aload_n 0, 1) := by decide +kernel
theorem dX6_daysLeft_1 : decode cX6_daysLeft 1 = .ok (.iload_n 1, 1) := by decide +kernel
theorem dX6_daysLeft_2 : decode cX6_daysLeft 2 = .ok (.invokevirtual 151, 3) := by decide +kernel
theorem dX6_daysLeft_5 : decode cX6_daysLeft 5 = .ok (.invokevirtual 233, 3) := by decide +kernel
theorem dX6_daysLeft_8 : decode cX6_daysLeft 8 = .ok (.istore_n 2, 1) := by decide +kernel
theorem dX6_daysLeft_9 : decode cX6_daysLeft 9 = .ok (.iload_n 2, 1) := by decide +kernel
theorem dX6_daysLeft_10 : decode cX6_daysLeft 10 = .ok (.iconst (-1), 1) := by decide +kernel
theorem dX6_daysLeft_11 : decode cX6_daysLeft 11 = .ok (.if_icmp .ne 13, 3) := by decide +kernel
theorem dX6_daysLeft_14 : decode cX6_daysLeft 14 = .ok (.new 236, 3) := by decide +kernel
theorem dX6_daysLeft_17 : decode cX6_daysLeft 17 = .ok (.dup, 1) := by decide +kernel
theorem dX6_daysLeft_18 : decode cX6_daysLeft 18 = .ok (.ldc 238, 2) := by decide +kernel
theorem dX6_daysLeft_20 : decode cX6_daysLeft 20 = .ok (.invokespecial 240, 3) := by decide +kernel
theorem dX6_daysLeft_23 : decode cX6_daysLeft 23 = .ok (.athrow, 1) := by decide +kernel
theorem dX6_daysLeft_24 : decode cX6_daysLeft 24 = .ok (.iload_n 2, 1) := by decide +kernel
theorem dX6_daysLeft_25 : decode cX6_daysLeft 25 = .ok (.ireturn, 1) := by decide +kernel
theorem dX6_holds_0 : decode cX6_holds 0 = .ok (.aload_n 0, 1) := by decide +kernel
theorem dX6_holds_1 : decode cX6_holds 1 = .ok (.iload_n 1, 1) := by decide +kernel
theorem dX6_holds_2 : decode cX6_holds 2 = .ok (.invokevirtual 151, 3) := by decide +kernel
theorem dX6_holds_5 : decode cX6_holds 5 = .ok (.astore 5, 2) := by decide +kernel
theorem dX6_holds_7 : decode cX6_holds 7 = .ok (.aload 5, 2) := by decide +kernel
theorem dX6_holds_9 : decode cX6_holds 9 = .ok (.getfield 180, 3) := by decide +kernel
theorem dX6_holds_12 : decode cX6_holds 12 = .ok (.iload_n 2, 1) := by decide +kernel
theorem dX6_holds_13 : decode cX6_holds 13 = .ok (.invokestatic 84, 3) := by decide +kernel
theorem dX6_holds_16 : decode cX6_holds 16 = .ok (.astore 6, 2) := by decide +kernel
theorem dX6_holds_18 : decode cX6_holds 18 = .ok (.iload_n 3, 1) := by decide +kernel
theorem dX6_holds_19 : decode cX6_holds 19 = .ok (.ifCond .eq 11, 3) := by decide +kernel
theorem dX6_holds_22 : decode cX6_holds 22 = .ok (.aload 6, 2) := by decide +kernel
theorem dX6_holds_24 : decode cX6_holds 24 = .ok (.getfield 92, 3) := by decide +kernel
theorem dX6_holds_27 : decode cX6_holds 27 = .ok (.goto 8, 3) := by decide +kernel
theorem dX6_holds_30 : decode cX6_holds 30 = .ok (.aload 6, 2) := by decide +kernel
theorem dX6_holds_32 : decode cX6_holds 32 = .ok (.getfield 119, 3) := by decide +kernel
theorem dX6_holds_35 : decode cX6_holds 35 = .ok (.astore 7, 2) := by decide +kernel
theorem dX6_holds_37 : decode cX6_holds 37 = .ok (.aload 7, 2) := by decide +kernel
theorem dX6_holds_39 : decode cX6_holds 39 = .ok (.iload 4, 2) := by decide +kernel
theorem dX6_holds_41 : decode cX6_holds 41 = .ok (.invokevirtual 241, 3) := by decide +kernel
theorem dX6_holds_44 : decode cX6_holds 44 = .ok (.astore 8, 2) := by decide +kernel
theorem dX6_holds_46 : decode cX6_holds 46 = .ok (.aload 8, 2) := by decide +kernel
theorem dX6_holds_48 : decode cX6_holds 48 = .ok (.ifnonnull 13, 3) := by decide +kernel
theorem dX6_holds_51 : decode cX6_holds 51 = .ok (.new 236, 3) := by decide +kernel
theorem dX6_holds_54 : decode cX6_holds 54 = .ok (.dup, 1) := by decide +kernel
theorem dX6_holds_55 : decode cX6_holds 55 = .ok (.ldc 245, 2) := by decide +kernel
theorem dX6_holds_57 : decode cX6_holds 57 = .ok (.invokespecial 240, 3) := by decide +kernel
theorem dX6_holds_60 : decode cX6_holds 60 = .ok (.athrow, 1) := by decide +kernel
theorem dX6_holds_61 : decode cX6_holds 61 = .ok (.aload 5, 2) := by decide +kernel
theorem dX6_holds_63 : decode cX6_holds 63 = .ok (.aload 8, 2) := by decide +kernel
theorem dX6_holds_65 : decode cX6_holds 65 = .ok (.invokevirtual 247, 3) := by decide +kernel
theorem dX6_holds_68 : decode cX6_holds 68 = .ok (.ireturn, 1) := by decide +kernel
theorem dX6_active_0 : decode cX6_active 0 = .ok (.aload_n 0, 1) := by decide +kernel
theorem dX6_active_1 : decode cX6_active 1 = .ok (.iload_n 1, 1) := by decide +kernel
theorem dX6_active_2 : decode cX6_active 2 = .ok (.invokevirtual 151, 3) := by decide +kernel
theorem dX6_active_5 : decode cX6_active 5 = .ok (.bipush 97, 2) := by decide +kernel
theorem dX6_active_7 : decode cX6_active 7 = .ok (.invokevirtual 251, 3) := by decide +kernel
theorem dX6_active_10 : decode cX6_active 10 = .ok (.ireturn, 1) := by decide +kernel
theorem dX6_isOver_0 : decode cX6_isOver 0 = .ok (.aload_n 0, 1) := by decide +kernel
theorem dX6_isOver_1 : decode cX6_isOver 1 = .ok (.iload_n 1, 1) := by decide +kernel
theorem dX6_isOver_2 : decode cX6_isOver 2 = .ok (.invokevirtual 151, 3) := by decide +kernel
theorem dX6_isOver_5 : decode cX6_isOver 5 = .ok (.invokevirtual 255, 3) := by decide +kernel
theorem dX6_isOver_8 : decode cX6_isOver 8 = .ok (.ireturn, 1) := by decide +kernel
theorem dX6_rounds_0 : decode cX6_rounds 0 = .ok (.aload_n 0, 1) := by decide +kernel
theorem dX6_rounds_1 : decode cX6_rounds 1 = .ok (.iload_n 1, 1) := by decide +kernel
theorem dX6_rounds_2 : decode cX6_rounds 2 = .ok (.invokevirtual 151, 3) := by decide +kernel
theorem dX6_rounds_5 : decode cX6_rounds 5 = .ok (.getfield 259, 3) := by decide +kernel
theorem dX6_rounds_8 : decode cX6_rounds 8 = .ok (.ireturn, 1) := by decide +kernel
theorem dX6_datum_0 : decode cX6_datum 0 = .ok (.aload_n 0, 1) := by decide +kernel
theorem dX6_datum_1 : decode cX6_datum 1 = .ok (.iload_n 1, 1) := by decide +kernel
theorem dX6_datum_2 : decode cX6_datum 2 = .ok (.invokevirtual 151, 3) := by decide +kernel
theorem dX6_datum_5 : decode cX6_datum 5 = .ok (.astore_n 3, 1) := by decide +kernel
theorem dX6_datum_6 : decode cX6_datum 6 = .ok (.iload_n 2, 1) := by decide +kernel
theorem dX6_datum_7 : decode cX6_datum 7 = .ok (.invokestatic 155, 3) := by decide +kernel
theorem dX6_datum_10 : decode cX6_datum 10 = .ok (.ifCond .ne 13, 3) := by decide +kernel
theorem dX6_datum_13 : decode cX6_datum 13 = .ok (.new 56, 3) := by decide +kernel
theorem dX6_datum_16 : decode cX6_datum 16 = .ok (.dup, 1) := by decide +kernel
theorem dX6_datum_17 : decode cX6_datum 17 = .ok (.ldc 158, 2) := by decide +kernel
theorem dX6_datum_19 : decode cX6_datum 19 = .ok (.invokespecial 60, 3) := by decide +kernel
theorem dX6_datum_22 : decode cX6_datum 22 = .ok (.athrow, 1) := by decide +kernel
theorem dX6_datum_23 : decode cX6_datum 23 = .ok (.aload_n 3, 1) := by decide +kernel
theorem dX6_datum_24 : decode cX6_datum 24 = .ok (.iload_n 2, 1) := by decide +kernel
theorem dX6_datum_25 : decode cX6_datum 25 = .ok (.invokevirtual 165, 3) := by decide +kernel
theorem dX6_datum_28 : decode cX6_datum 28 = .ok (.ireturn, 1) := by decide +kernel
theorem dX6_days_0 : decode cX6_days 0 = .ok (.aload_n 0, 1) := by decide +kernel
theorem dX6_days_1 : decode cX6_days 1 = .ok (.iload_n 1, 1) := by decide +kernel
theorem dX6_days_2 : decode cX6_days 2 = .ok (.invokevirtual 151, 3) := by decide +kernel
theorem dX6_days_5 : decode cX6_days 5 = .ok (.getfield 262, 3) := by decide +kernel
theorem dX6_days_8 : decode cX6_days 8 = .ok (.ireturn, 1) := by decide +kernel
theorem dX6_planOf_0 : decode cX6_planOf 0 = .ok (.aload_n 0, 1) := by decide +kernel
theorem dX6_planOf_1 : decode cX6_planOf 1 = .ok (.iload_n 1, 1) := by decide +kernel
theorem dX6_planOf_2 : decode cX6_planOf 2 = .ok (.invokevirtual 151, 3) := by decide +kernel
theorem dX6_planOf_5 : decode cX6_planOf 5 = .ok (.getfield 180, 3) := by decide +kernel
theorem dX6_planOf_8 : decode cX6_planOf 8 = .ok (.getfield 195, 3) := by decide +kernel
theorem dX6_planOf_11 : decode cX6_planOf 11 = .ok (.ireturn, 1) := by decide +kernel
theorem dX6_isWaiting_0 : decode cX6_isWaiting 0 = .ok (.aload_n 0, 1) := by decide +kernel
theorem dX6_isWaiting_1 : decode cX6_isWaiting 1 = .ok (.iload_n 1, 1) := by decide +kernel
theorem dX6_isWaiting_2 : decode cX6_isWaiting 2 = .ok (.invokevirtual 151, 3) := by decide +kernel
theorem dX6_isWaiting_5 : decode cX6_isWaiting 5 = .ok (.getfield 190, 3) := by decide +kernel
theorem dX6_isWaiting_8 : decode cX6_isWaiting 8 = .ok (.ireturn, 1) := by decide +kernel
theorem dX6_happened_0 : decode cX6_happened 0 = .ok (.aload_n 0, 1) := by decide +kernel
theorem dX6_happened_1 : decode cX6_happened 1 = .ok (.iload_n 1, 1) := by decide +kernel
theorem dX6_happened_2 : decode cX6_happened 2 = .ok (.invokevirtual 151, 3) := by decide +kernel
theorem dX6_happened_5 : decode cX6_happened 5 = .ok (.getfield 265, 3) := by decide +kernel
theorem dX6_happened_8 : decode cX6_happened 8 = .ok (.ireturn, 1) := by decide +kernel
theorem dX6_cases_0 : decode cX6_cases 0 = .ok (.aload_n 0, 1) := by decide +kernel
theorem dX6_cases_1 : decode cX6_cases 1 = .ok (.getfield 25, 3) := by decide +kernel
theorem dX6_cases_4 : decode cX6_cases 4 = .ok (.ireturn, 1) := by decide +kernel
theorem dX6_daysWorked_0 : decode cX6_daysWorked 0 = .ok (.lconst 0, 1) := by decide +kernel
theorem dX6_daysWorked_1 : decode cX6_daysWorked 1 = .ok (.lstore_n 1, 1) := by decide +kernel
theorem dX6_daysWorked_2 : decode cX6_daysWorked 2 = .ok (.iconst 0, 1) := by decide +kernel
theorem dX6_daysWorked_3 : decode cX6_daysWorked 3 = .ok (.istore_n 3, 1) := by decide +kernel
theorem dX6_daysWorked_4 : decode cX6_daysWorked 4 = .ok (.iload_n 3, 1) := by decide +kernel
theorem dX6_daysWorked_5 : decode cX6_daysWorked 5 = .ok (.aload_n 0, 1) := by decide +kernel
theorem dX6_daysWorked_6 : decode cX6_daysWorked 6 = .ok (.getfield 25, 3) := by decide +kernel
theorem dX6_daysWorked_9 : decode cX6_daysWorked 9 = .ok (.if_icmp .ge 29, 3) := by decide +kernel
theorem dX6_daysWorked_12 : decode cX6_daysWorked 12 = .ok (.aload_n 0, 1) := by decide +kernel
theorem dX6_daysWorked_13 : decode cX6_daysWorked 13 = .ok (.iload_n 3, 1) := by decide +kernel
theorem dX6_daysWorked_14 : decode cX6_daysWorked 14 = .ok (.invokevirtual 203, 3) := by decide +kernel
theorem dX6_daysWorked_17 : decode cX6_daysWorked 17 = .ok (.astore 4, 2) := by decide +kernel
theorem dX6_daysWorked_19 : decode cX6_daysWorked 19 = .ok (.aload 4, 2) := by decide +kernel
theorem dX6_daysWorked_21 : decode cX6_daysWorked 21 = .ok (.ifnull 11, 3) := by decide +kernel
theorem dX6_daysWorked_24 : decode cX6_daysWorked 24 = .ok (.lload_n 1, 1) := by decide +kernel
theorem dX6_daysWorked_25 : decode cX6_daysWorked 25 = .ok (.aload 4, 2) := by decide +kernel
theorem dX6_daysWorked_27 : decode cX6_daysWorked 27 = .ok (.invokevirtual 268, 3) := by decide +kernel
theorem dX6_daysWorked_30 : decode cX6_daysWorked 30 = .ok (.ladd, 1) := by decide +kernel
theorem dX6_daysWorked_31 : decode cX6_daysWorked 31 = .ok (.lstore_n 1, 1) := by decide +kernel
theorem dX6_daysWorked_32 : decode cX6_daysWorked 32 = .ok (.iinc 3 1, 3) := by decide +kernel
theorem dX6_daysWorked_35 : decode cX6_daysWorked 35 = .ok (.goto (-31), 3) := by decide +kernel
theorem dX6_daysWorked_38 : decode cX6_daysWorked 38 = .ok (.lload_n 1, 1) := by decide +kernel
theorem dX6_daysWorked_39 : decode cX6_daysWorked 39 = .ok (.lreturn, 1) := by decide +kernel
theorem dX6_doneShare_0 : decode cX6_doneShare 0 = .ok (.aload_n 0, 1) := by decide +kernel
theorem dX6_doneShare_1 : decode cX6_doneShare 1 = .ok (.iload_n 1, 1) := by decide +kernel
theorem dX6_doneShare_2 : decode cX6_doneShare 2 = .ok (.invokevirtual 151, 3) := by decide +kernel
theorem dX6_doneShare_5 : decode cX6_doneShare 5 = .ok (.astore_n 2, 1) := by decide +kernel
theorem dX6_doneShare_6 : decode cX6_doneShare 6 = .ok (.aload_n 2, 1) := by decide +kernel
theorem dX6_doneShare_7 : decode cX6_doneShare 7 = .ok (.getfield 180, 3) := by decide +kernel
theorem dX6_doneShare_10 : decode cX6_doneShare 10 = .ok (.getfield 70, 3) := by decide +kernel
theorem dX6_doneShare_13 : decode cX6_doneShare 13 = .ok (.istore_n 3, 1) := by decide +kernel
theorem dX6_doneShare_14 : decode cX6_doneShare 14 = .ok (.iload_n 3, 1) := by decide +kernel
theorem dX6_doneShare_15 : decode cX6_doneShare 15 = .ok (.ifCond .gt 5, 3) := by decide +kernel
theorem dX6_doneShare_18 : decode cX6_doneShare 18 = .ok (.fconst 0, 1) := by decide +kernel
theorem dX6_doneShare_19 : decode cX6_doneShare 19 = .ok (.freturn, 1) := by decide +kernel
theorem dX6_doneShare_20 : decode cX6_doneShare 20 = .ok (.aload_n 2, 1) := by decide +kernel
theorem dX6_doneShare_21 : decode cX6_doneShare 21 = .ok (.bipush 99, 2) := by decide +kernel
theorem dX6_doneShare_23 : decode cX6_doneShare 23 = .ok (.invokevirtual 251, 3) := by decide +kernel
theorem dX6_doneShare_26 : decode cX6_doneShare 26 = .ok (.i2f, 1) := by decide +kernel
theorem dX6_doneShare_27 : decode cX6_doneShare 27 = .ok (.iload_n 3, 1) := by decide +kernel
theorem dX6_doneShare_28 : decode cX6_doneShare 28 = .ok (.i2f, 1) := by decide +kernel
theorem dX6_doneShare_29 : decode cX6_doneShare 29 = .ok (.fdiv, 1) := by decide +kernel
theorem dX6_doneShare_30 : decode cX6_doneShare 30 = .ok (.freturn, 1) := by decide +kernel
theorem dX6_isDatum_0 : decode cX6_isDatum 0 = .ok (.iload_n 0, 1) := by decide +kernel
theorem dX6_isDatum_1 : decode cX6_isDatum 1 = .ok (.ifCond .lt 12, 3) := by decide +kernel
theorem dX6_isDatum_4 : decode cX6_isDatum 4 = .ok (.iload_n 0, 1) := by decide +kernel
theorem dX6_isDatum_5 : decode cX6_isDatum 5 = .ok (.iconst 4, 1) := by decide +kernel
theorem dX6_isDatum_6 : decode cX6_isDatum 6 = .ok (.if_icmp .ge 7, 3) := by decide +kernel
theorem dX6_isDatum_9 : decode cX6_isDatum 9 = .ok (.iconst 1, 1) := by decide +kernel
theorem dX6_isDatum_10 : decode cX6_isDatum 10 = .ok (.goto 4, 3) := by decide +kernel
theorem dX6_isDatum_13 : decode cX6_isDatum 13 = .ok (.iconst 0, 1) := by decide +kernel
theorem dX6_isDatum_14 : decode cX6_isDatum 14 = .ok (.ireturn, 1) := by decide +kernel
theorem dX6_isEvent_0 : decode cX6_isEvent 0 = .ok (.iload_n 0, 1) := by decide +kernel
theorem dX6_isEvent_1 : decode cX6_isEvent 1 = .ok (.ifCond .lt 13, 3) := by decide +kernel
theorem dX6_isEvent_4 : decode cX6_isEvent 4 = .ok (.iload_n 0, 1) := by decide +kernel
theorem dX6_isEvent_5 : decode cX6_isEvent 5 = .ok (.bipush 10, 2) := by decide +kernel
theorem dX6_isEvent_7 : decode cX6_isEvent 7 = .ok (.if_icmp .ge 7, 3) := by decide +kernel
theorem dX6_isEvent_10 : decode cX6_isEvent 10 = .ok (.iconst 1, 1) := by decide +kernel
theorem dX6_isEvent_11 : decode cX6_isEvent 11 = .ok (.goto 4, 3) := by decide +kernel
theorem dX6_isEvent_14 : decode cX6_isEvent 14 = .ok (.iconst 0, 1) := by decide +kernel
theorem dX6_isEvent_15 : decode cX6_isEvent 15 = .ok (.ireturn, 1) := by decide +kernel
theorem dX6_isValue_0 : decode cX6_isValue 0 = .ok (.iload_n 0, 1) := by decide +kernel
theorem dX6_isValue_1 : decode cX6_isValue 1 = .ok (.bipush (-99), 2) := by decide +kernel
theorem dX6_isValue_3 : decode cX6_isValue 3 = .ok (.if_icmp .lt 13, 3) := by decide +kernel
theorem dX6_isValue_6 : decode cX6_isValue 6 = .ok (.iload_n 0, 1) := by decide +kernel
theorem dX6_isValue_7 : decode cX6_isValue 7 = .ok (.bipush 99, 2) := by decide +kernel
theorem dX6_isValue_9 : decode cX6_isValue 9 = .ok (.if_icmp .gt 7, 3) := by decide +kernel
theorem dX6_isValue_12 : decode cX6_isValue 12 = .ok (.iconst 1, 1) := by decide +kernel
theorem dX6_isValue_13 : decode cX6_isValue 13 = .ok (.goto 4, 3) := by decide +kernel
theorem dX6_isValue_16 : decode cX6_isValue 16 = .ok (.iconst 0, 1) := by decide +kernel
theorem dX6_isValue_17 : decode cX6_isValue 17 = .ok (.ireturn, 1) := by decide +kernel
theorem dX6_isCondition_0 : decode cX6_isCondition 0 = .ok (.iload_n 1, 1) := by decide +kernel
theorem dX6_isCondition_1 : decode cX6_isCondition 1 = .ok (.bipush 100, 2) := by decide +kernel
theorem dX6_isCondition_3 : decode cX6_isCondition 3 = .ok (.if_icmp .eq 9, 3) := by decide +kernel
theorem dX6_isCondition_6 : decode cX6_isCondition 6 = .ok (.iload_n 1, 1) := by decide +kernel
theorem dX6_isCondition_7 : decode cX6_isCondition 7 = .ok (.bipush 108, 2) := by decide +kernel
theorem dX6_isCondition_9 : decode cX6_isCondition 9 = .ok (.if_icmp .ne 23, 3) := by decide +kernel
theorem dX6_isCondition_12 : decode cX6_isCondition 12 = .ok (.iload_n 2, 1) := by decide +kernel
theorem dX6_isCondition_13 : decode cX6_isCondition 13 = .ok (.invokestatic 155, 3) := by decide +kernel
theorem dX6_isCondition_16 : decode cX6_isCondition 16 = .ok (.ifCond .eq 14, 3) := by decide +kernel
theorem dX6_isCondition_19 : decode cX6_isCondition 19 = .ok (.iload_n 3, 1) := by decide +kernel
theorem dX6_isCondition_20 : decode cX6_isCondition 20 = .ok (.invokestatic 160, 3) := by decide +kernel
theorem dX6_isCondition_23 : decode cX6_isCondition 23 = .ok (.ifCond .eq 7, 3) := by decide +kernel
theorem dX6_isCondition_26 : decode cX6_isCondition 26 = .ok (.iconst 1, 1) := by decide +kernel
theorem dX6_isCondition_27 : decode cX6_isCondition 27 = .ok (.goto 4, 3) := by decide +kernel
theorem dX6_isCondition_30 : decode cX6_isCondition 30 = .ok (.iconst 0, 1) := by decide +kernel
theorem dX6_isCondition_31 : decode cX6_isCondition 31 = .ok (.ireturn, 1) := by decide +kernel
theorem dX6_isCondition_32 : decode cX6_isCondition 32 = .ok (.iload_n 1, 1) := by decide +kernel
theorem dX6_isCondition_33 : decode cX6_isCondition 33 = .ok (.bipush 101, 2) := by decide +kernel
theorem dX6_isCondition_35 : decode cX6_isCondition 35 = .ok (.if_icmp .ne 8, 3) := by decide +kernel
theorem dX6_isCondition_38 : decode cX6_isCondition 38 = .ok (.iload_n 2, 1) := by decide +kernel
theorem dX6_isCondition_39 : decode cX6_isCondition 39 = .ok (.invokestatic 169, 3) := by decide +kernel
theorem dX6_isCondition_42 : decode cX6_isCondition 42 = .ok (.ireturn, 1) := by decide +kernel
theorem dX6_isCondition_43 : decode cX6_isCondition 43 = .ok (.iload_n 1, 1) := by decide +kernel
theorem dX6_isCondition_44 : decode cX6_isCondition 44 = .ok (.bipush 99, 2) := by decide +kernel
theorem dX6_isCondition_46 : decode cX6_isCondition 46 = .ok (.if_icmp .ne 17, 3) := by decide +kernel
theorem dX6_isCondition_49 : decode cX6_isCondition 49 = .ok (.aload_n 0, 1) := by decide +kernel
theorem dX6_isCondition_50 : decode cX6_isCondition 50 = .ok (.iload_n 2, 1) := by decide +kernel
theorem dX6_isCondition_51 : decode cX6_isCondition 51 = .ok (.invokevirtual 272, 3) := by decide +kernel
theorem dX6_isCondition_54 : decode cX6_isCondition 54 = .ok (.ifnull 7, 3) := by decide +kernel
theorem dX6_isCondition_57 : decode cX6_isCondition 57 = .ok (.iconst 1, 1) := by decide +kernel
theorem dX6_isCondition_58 : decode cX6_isCondition 58 = .ok (.goto 4, 3) := by decide +kernel
theorem dX6_isCondition_61 : decode cX6_isCondition 61 = .ok (.iconst 0, 1) := by decide +kernel
theorem dX6_isCondition_62 : decode cX6_isCondition 62 = .ok (.ireturn, 1) := by decide +kernel
theorem dX6_isCondition_63 : decode cX6_isCondition 63 = .ok (.iload_n 1, 1) := by decide +kernel
theorem dX6_isCondition_64 : decode cX6_isCondition 64 = .ok (.bipush 116, 2) := by decide +kernel
theorem dX6_isCondition_66 : decode cX6_isCondition 66 = .ok (.if_icmp .ne 18, 3) := by decide +kernel
theorem dX6_isCondition_69 : decode cX6_isCondition 69 = .ok (.iload_n 2, 1) := by decide +kernel
theorem dX6_isCondition_70 : decode cX6_isCondition 70 = .ok (.ifCond .lt 14, 3) := by decide +kernel
theorem dX6_isCondition_73 : decode cX6_isCondition 73 = .ok (.iload_n 2, 1) := by decide +kernel
theorem dX6_isCondition_74 : decode cX6_isCondition 74 = .ok (.sipush 999, 3) := by decide +kernel
theorem dX6_isCondition_77 : decode cX6_isCondition 77 = .ok (.if_icmp .gt 7, 3) := by decide +kernel
theorem dX6_isCondition_80 : decode cX6_isCondition 80 = .ok (.iconst 1, 1) := by decide +kernel
theorem dX6_isCondition_81 : decode cX6_isCondition 81 = .ok (.goto 4, 3) := by decide +kernel
theorem dX6_isCondition_84 : decode cX6_isCondition 84 = .ok (.iconst 0, 1) := by decide +kernel
theorem dX6_isCondition_85 : decode cX6_isCondition 85 = .ok (.ireturn, 1) := by decide +kernel
theorem dX6_refuseWrongCondition_0 : decode cX6_refuseWrongCondition 0 = .ok (.aload_n 0, 1) := by decide +kernel
theorem dX6_refuseWrongCondition_1 : decode cX6_refuseWrongCondition 1 = .ok (.iload_n 1, 1) := by decide +kernel
theorem dX6_refuseWrongCondition_2 : decode cX6_refuseWrongCondition 2 = .ok (.iload_n 2, 1) := by decide +kernel
theorem dX6_refuseWrongCondition_3 : decode cX6_refuseWrongCondition 3 = .ok (.iload_n 3, 1) := by decide +kernel
theorem dX6_refuseWrongCondition_4 : decode cX6_refuseWrongCondition 4 = .ok (.invokestatic 276, 3) := by decide +kernel
theorem dX6_refuseWrongCondition_7 : decode cX6_refuseWrongCondition 7 = .ok (.ifCond .ne 14, 3) := by decide +kernel
theorem dX6_refuseWrongCondition_10 : decode cX6_refuseWrongCondition 10 = .ok (.new 56, 3) := by decide +kernel
theorem dX6_refuseWrongCondition_13 : decode cX6_refuseWrongCondition 13 = .ok (.dup, 1) := by decide +kernel
theorem dX6_refuseWrongCondition_14 : decode cX6_refuseWrongCondition 14 = .ok (.ldc_w 280, 3) := by decide +kernel
theorem dX6_refuseWrongCondition_17 : decode cX6_refuseWrongCondition 17 = .ok (.invokespecial 60, 3) := by decide +kernel
theorem dX6_refuseWrongCondition_20 : decode cX6_refuseWrongCondition 20 = .ok (.athrow, 1) := by decide +kernel
theorem dX6_refuseWrongCondition_21 : decode cX6_refuseWrongCondition 21 = .ok (.return_, 1) := by decide +kernel
theorem dX6_refuseFull_0 : decode cX6_refuseFull 0 = .ok (.aload_n 0, 1) := by decide +kernel
theorem dX6_refuseFull_1 : decode cX6_refuseFull 1 = .ok (.getfield 282, 3) := by decide +kernel
theorem dX6_refuseFull_4 : decode cX6_refuseFull 4 = .ok (.iconst 3, 1) := by decide +kernel
theorem dX6_refuseFull_5 : decode cX6_refuseFull 5 = .ok (.if_icmp .lt 14, 3) := by decide +kernel
theorem dX6_refuseFull_8 : decode cX6_refuseFull 8 = .ok (.new 45, 3) := by decide +kernel
theorem dX6_refuseFull_11 : decode cX6_refuseFull 11 = .ok (.dup, 1) := by decide +kernel
theorem dX6_refuseFull_12 : decode cX6_refuseFull 12 = .ok (.ldc_w 283, 3) := by decide +kernel
theorem dX6_refuseFull_15 : decode cX6_refuseFull 15 = .ok (.invokespecial 49, 3) := by decide +kernel
theorem dX6_refuseFull_18 : decode cX6_refuseFull 18 = .ok (.athrow, 1) := by decide +kernel
theorem dX6_refuseFull_19 : decode cX6_refuseFull 19 = .ok (.return_, 1) := by decide +kernel
theorem dX6_refuseUsed_0 : decode cX6_refuseUsed 0 = .ok (.aload_n 0, 1) := by decide +kernel
theorem dX6_refuseUsed_1 : decode cX6_refuseUsed 1 = .ok (.getfield 140, 3) := by decide +kernel
theorem dX6_refuseUsed_4 : decode cX6_refuseUsed 4 = .ok (.ifCond .eq 14, 3) := by decide +kernel
theorem dX6_refuseUsed_7 : decode cX6_refuseUsed 7 = .ok (.new 45, 3) := by decide +kernel
theorem dX6_refuseUsed_10 : decode cX6_refuseUsed 10 = .ok (.dup, 1) := by decide +kernel
theorem dX6_refuseUsed_11 : decode cX6_refuseUsed 11 = .ok (.ldc_w 285, 3) := by decide +kernel
theorem dX6_refuseUsed_14 : decode cX6_refuseUsed 14 = .ok (.invokespecial 49, 3) := by decide +kernel
theorem dX6_refuseUsed_17 : decode cX6_refuseUsed 17 = .ok (.athrow, 1) := by decide +kernel
theorem dX6_refuseUsed_18 : decode cX6_refuseUsed 18 = .ok (.return_, 1) := by decide +kernel
theorem dX6_refuseOtherThanTask_0 : decode cX6_refuseOtherThanTask 0 = .ok (.aload_n 0, 1) := by decide +kernel
theorem dX6_refuseOtherThanTask_1 : decode cX6_refuseOtherThanTask 1 = .ok (.getfield 110, 3) := by decide +kernel
theorem dX6_refuseOtherThanTask_4 : decode cX6_refuseOtherThanTask 4 = .ok (.bipush 116, 2) := by decide +kernel
theorem dX6_refuseOtherThanTask_6 : decode cX6_refuseOtherThanTask 6 = .ok (.if_icmp .eq 14, 3) := by decide +kernel
theorem dX6_refuseOtherThanTask_9 : decode cX6_refuseOtherThanTask 9 = .ok (.new 114, 3) := by decide +kernel
theorem dX6_refuseOtherThanTask_12 : decode cX6_refuseOtherThanTask 12 = .ok (.dup, 1) := by decide +kernel
theorem dX6_refuseOtherThanTask_13 : decode cX6_refuseOtherThanTask 13 = .ok (.ldc_w 287, 3) := by decide +kernel
theorem dX6_refuseOtherThanTask_16 : decode cX6_refuseOtherThanTask 16 = .ok (.invokespecial 118, 3) := by decide +kernel
theorem dX6_refuseOtherThanTask_19 : decode cX6_refuseOtherThanTask 19 = .ok (.athrow, 1) := by decide +kernel
theorem dX6_refuseOtherThanTask_20 : decode cX6_refuseOtherThanTask 20 = .ok (.return_, 1) := by decide +kernel
theorem dX6_planAt_0 : decode cX6_planAt 0 = .ok (.iload_n 1, 1) := by decide +kernel
theorem dX6_planAt_1 : decode cX6_planAt 1 = .ok (.ifCond .lt 16, 3) := by decide +kernel
theorem dX6_planAt_4 : decode cX6_planAt 4 = .ok (.iload_n 1, 1) := by decide +kernel
theorem dX6_planAt_5 : decode cX6_planAt 5 = .ok (.aload_n 0, 1) := by decide +kernel
theorem dX6_planAt_6 : decode cX6_planAt 6 = .ok (.getfield 15, 3) := by decide +kernel
theorem dX6_planAt_9 : decode cX6_planAt 9 = .ok (.if_icmp .ge 8, 3) := by decide +kernel
theorem dX6_planAt_12 : decode cX6_planAt 12 = .ok (.iload_n 1, 1) := by decide +kernel
theorem dX6_planAt_13 : decode cX6_planAt 13 = .ok (.iconst 3, 1) := by decide +kernel
theorem dX6_planAt_14 : decode cX6_planAt 14 = .ok (.if_icmp .lt 7, 3) := by decide +kernel
theorem dX6_planAt_17 : decode cX6_planAt 17 = .ok (.aconst_null, 1) := by decide +kernel
theorem dX6_planAt_18 : decode cX6_planAt 18 = .ok (.goto 9, 3) := by decide +kernel
theorem dX6_planAt_21 : decode cX6_planAt 21 = .ok (.aload_n 0, 1) := by decide +kernel
theorem dX6_planAt_22 : decode cX6_planAt 22 = .ok (.getfield 11, 3) := by decide +kernel
theorem dX6_planAt_25 : decode cX6_planAt 25 = .ok (.iload_n 1, 1) := by decide +kernel
theorem dX6_planAt_26 : decode cX6_planAt 26 = .ok (.aaload, 1) := by decide +kernel
theorem dX6_planAt_27 : decode cX6_planAt 27 = .ok (.areturn, 1) := by decide +kernel
theorem dX6_caseAt_0 : decode cX6_caseAt 0 = .ok (.iload_n 1, 1) := by decide +kernel
theorem dX6_caseAt_1 : decode cX6_caseAt 1 = .ok (.ifCond .lt 16, 3) := by decide +kernel
theorem dX6_caseAt_4 : decode cX6_caseAt 4 = .ok (.iload_n 1, 1) := by decide +kernel
theorem dX6_caseAt_5 : decode cX6_caseAt 5 = .ok (.aload_n 0, 1) := by decide +kernel
theorem dX6_caseAt_6 : decode cX6_caseAt 6 = .ok (.getfield 25, 3) := by decide +kernel
theorem dX6_caseAt_9 : decode cX6_caseAt 9 = .ok (.if_icmp .ge 8, 3) := by decide +kernel
theorem dX6_caseAt_12 : decode cX6_caseAt 12 = .ok (.iload_n 1, 1) := by decide +kernel
theorem dX6_caseAt_13 : decode cX6_caseAt 13 = .ok (.iconst 4, 1) := by decide +kernel
theorem dX6_caseAt_14 : decode cX6_caseAt 14 = .ok (.if_icmp .lt 7, 3) := by decide +kernel
theorem dX6_caseAt_17 : decode cX6_caseAt 17 = .ok (.aconst_null, 1) := by decide +kernel
theorem dX6_caseAt_18 : decode cX6_caseAt 18 = .ok (.goto 9, 3) := by decide +kernel
theorem dX6_caseAt_21 : decode cX6_caseAt 21 = .ok (.aload_n 0, 1) := by decide +kernel
theorem dX6_caseAt_22 : decode cX6_caseAt 22 = .ok (.getfield 21, 3) := by decide +kernel
theorem dX6_caseAt_25 : decode cX6_caseAt 25 = .ok (.iload_n 1, 1) := by decide +kernel
theorem dX6_caseAt_26 : decode cX6_caseAt 26 = .ok (.aaload, 1) := by decide +kernel
theorem dX6_caseAt_27 : decode cX6_caseAt 27 = .ok (.areturn, 1) := by decide +kernel
theorem dX6_existingPlan_0 : decode cX6_existingPlan 0 = .ok (.aload_n 0, 1) := by decide +kernel
theorem dX6_existingPlan_1 : decode cX6_existingPlan 1 = .ok (.iload_n 1, 1) := by decide +kernel
theorem dX6_existingPlan_2 : decode cX6_existingPlan 2 = .ok (.invokevirtual 289, 3) := by decide +kernel
theorem dX6_existingPlan_5 : decode cX6_existingPlan 5 = .ok (.astore_n 2, 1) := by decide +kernel
theorem dX6_existingPlan_6 : decode cX6_existingPlan 6 = .ok (.aload_n 2, 1) := by decide +kernel
theorem dX6_existingPlan_7 : decode cX6_existingPlan 7 = .ok (.ifnonnull 14, 3) := by decide +kernel
theorem dX6_existingPlan_10 : decode cX6_existingPlan 10 = .ok (.new 292, 3) := by decide +kernel
theorem dX6_existingPlan_13 : decode cX6_existingPlan 13 = .ok (.dup, 1) := by decide +kernel
theorem dX6_existingPlan_14 : decode cX6_existingPlan 14 = .ok (.ldc_w 294, 3) := by decide +kernel
theorem dX6_existingPlan_17 : decode cX6_existingPlan 17 = .ok (.invokespecial 296, 3) := by decide +kernel
theorem dX6_existingPlan_20 : decode cX6_existingPlan 20 = .ok (.athrow, 1) := by decide +kernel
theorem dX6_existingPlan_21 : decode cX6_existingPlan 21 = .ok (.aload_n 2, 1) := by decide +kernel
theorem dX6_existingPlan_22 : decode cX6_existingPlan 22 = .ok (.areturn, 1) := by decide +kernel
theorem dX6_existingCase_0 : decode cX6_existingCase 0 = .ok (.aload_n 0, 1) := by decide +kernel
theorem dX6_existingCase_1 : decode cX6_existingCase 1 = .ok (.iload_n 1, 1) := by decide +kernel
theorem dX6_existingCase_2 : decode cX6_existingCase 2 = .ok (.invokevirtual 203, 3) := by decide +kernel
theorem dX6_existingCase_5 : decode cX6_existingCase 5 = .ok (.astore_n 2, 1) := by decide +kernel
theorem dX6_existingCase_6 : decode cX6_existingCase 6 = .ok (.aload_n 2, 1) := by decide +kernel
theorem dX6_existingCase_7 : decode cX6_existingCase 7 = .ok (.ifnonnull 14, 3) := by decide +kernel
theorem dX6_existingCase_10 : decode cX6_existingCase 10 = .ok (.new 292, 3) := by decide +kernel
theorem dX6_existingCase_13 : decode cX6_existingCase 13 = .ok (.dup, 1) := by decide +kernel
theorem dX6_existingCase_14 : decode cX6_existingCase 14 = .ok (.ldc_w 297, 3) := by decide +kernel
theorem dX6_existingCase_17 : decode cX6_existingCase 17 = .ok (.invokespecial 296, 3) := by decide +kernel
theorem dX6_existingCase_20 : decode cX6_existingCase 20 = .ok (.athrow, 1) := by decide +kernel
theorem dX6_existingCase_21 : decode cX6_existingCase 21 = .ok (.aload_n 2, 1) := by decide +kernel
theorem dX6_existingCase_22 : decode cX6_existingCase 22 = .ok (.areturn, 1) := by decide +kernel
theorem dX6_existingStep_0 : decode cX6_existingStep 0 = .ok (.aload_n 0, 1) := by decide +kernel
theorem dX6_existingStep_1 : decode cX6_existingStep 1 = .ok (.iload_n 1, 1) := by decide +kernel
theorem dX6_existingStep_2 : decode cX6_existingStep 2 = .ok (.invokevirtual 272, 3) := by decide +kernel
theorem dX6_existingStep_5 : decode cX6_existingStep 5 = .ok (.astore_n 2, 1) := by decide +kernel
theorem dX6_existingStep_6 : decode cX6_existingStep 6 = .ok (.aload_n 2, 1) := by decide +kernel
theorem dX6_existingStep_7 : decode cX6_existingStep 7 = .ok (.ifnonnull 14, 3) := by decide +kernel
theorem dX6_existingStep_10 : decode cX6_existingStep 10 = .ok (.new 292, 3) := by decide +kernel
theorem dX6_existingStep_13 : decode cX6_existingStep 13 = .ok (.dup, 1) := by decide +kernel
theorem dX6_existingStep_14 : decode cX6_existingStep 14 = .ok (.ldc_w 299, 3) := by decide +kernel
theorem dX6_existingStep_17 : decode cX6_existingStep 17 = .ok (.invokespecial 296, 3) := by decide +kernel
theorem dX6_existingStep_20 : decode cX6_existingStep 20 = .ok (.athrow, 1) := by decide +kernel
theorem dX6_existingStep_21 : decode cX6_existingStep 21 = .ok (.aload_n 2, 1) := by decide +kernel
theorem dX6_existingStep_22 : decode cX6_existingStep 22 = .ok (.areturn, 1) := by decide +kernel
theorem dX6_caseWithStep_0 : decode cX6_caseWithStep 0 = .ok (.aload_n 0, 1) := by decide +kernel
theorem dX6_caseWithStep_1 : decode cX6_caseWithStep 1 = .ok (.iload_n 1, 1) := by decide +kernel
theorem dX6_caseWithStep_2 : decode cX6_caseWithStep 2 = .ok (.invokevirtual 151, 3) := by decide +kernel
theorem dX6_caseWithStep_5 : decode cX6_caseWithStep 5 = .ok (.astore_n 3, 1) := by decide +kernel
theorem dX6_caseWithStep_6 : decode cX6_caseWithStep 6 = .ok (.aload_n 3, 1) := by decide +kernel
theorem dX6_caseWithStep_7 : decode cX6_caseWithStep 7 = .ok (.getfield 180, 3) := by decide +kernel
theorem dX6_caseWithStep_10 : decode cX6_caseWithStep 10 = .ok (.iload_n 2, 1) := by decide +kernel
theorem dX6_caseWithStep_11 : decode cX6_caseWithStep 11 = .ok (.invokestatic 84, 3) := by decide +kernel
theorem dX6_caseWithStep_14 : decode cX6_caseWithStep 14 = .ok (.pop, 1) := by decide +kernel
theorem dX6_caseWithStep_15 : decode cX6_caseWithStep 15 = .ok (.aload_n 3, 1) := by decide +kernel
theorem dX6_caseWithStep_16 : decode cX6_caseWithStep 16 = .ok (.areturn, 1) := by decide +kernel
theorem dX6_noteAndDo_0 : decode cX6_noteAndDo 0 = .ok (.aload_n 0, 1) := by decide +kernel
theorem dX6_noteAndDo_1 : decode cX6_noteAndDo 1 = .ok (.getfield 31, 3) := by decide +kernel
theorem dX6_noteAndDo_4 : decode cX6_noteAndDo 4 = .ok (.iload_n 1, 1) := by decide +kernel
theorem dX6_noteAndDo_5 : decode cX6_noteAndDo 5 = .ok (.iload_n 3, 1) := by decide +kernel
theorem dX6_noteAndDo_6 : decode cX6_noteAndDo 6 = .ok (.iload 4, 2) := by decide +kernel
theorem dX6_noteAndDo_8 : decode cX6_noteAndDo 8 = .ok (.iload 5, 2) := by decide +kernel
theorem dX6_noteAndDo_10 : decode cX6_noteAndDo 10 = .ok (.invokevirtual 200, 3) := by decide +kernel
theorem dX6_noteAndDo_13 : decode cX6_noteAndDo 13 = .ok (.aload_n 0, 1) := by decide +kernel
theorem dX6_noteAndDo_14 : decode cX6_noteAndDo 14 = .ok (.aload_n 2, 1) := by decide +kernel
theorem dX6_noteAndDo_15 : decode cX6_noteAndDo 15 = .ok (.iload_n 3, 1) := by decide +kernel
theorem dX6_noteAndDo_16 : decode cX6_noteAndDo 16 = .ok (.iload 4, 2) := by decide +kernel
theorem dX6_noteAndDo_18 : decode cX6_noteAndDo 18 = .ok (.iload 5, 2) := by decide +kernel
theorem dX6_noteAndDo_20 : decode cX6_noteAndDo 20 = .ok (.invokevirtual 206, 3) := by decide +kernel
theorem dX6_noteAndDo_23 : decode cX6_noteAndDo 23 = .ok (.return_, 1) := by decide +kernel
theorem dX6_letHappen_0 : decode cX6_letHappen 0 = .ok (.aload_n 1, 1) := by decide +kernel
theorem dX6_letHappen_1 : decode cX6_letHappen 1 = .ok (.ifnonnull 4, 3) := by decide +kernel
theorem dX6_letHappen_4 : decode cX6_letHappen 4 = .ok (.return_, 1) := by decide +kernel
theorem dX6_letHappen_5 : decode cX6_letHappen 5 = .ok (.iload_n 2, 1) := by decide +kernel
theorem dX6_letHappen_6 : decode cX6_letHappen 6 = .ok (.tableswitch 110 0 6 #[42, 54, 64, 72, 82, 90, 98], 42) := by decide +kernel
theorem dX6_letHappen_48 : decode cX6_letHappen 48 = .ok (.aload_n 1, 1) := by decide +kernel
theorem dX6_letHappen_49 : decode cX6_letHappen 49 = .ok (.aload_n 0, 1) := by decide +kernel
theorem dX6_letHappen_50 : decode cX6_letHappen 50 = .ok (.iload_n 3, 1) := by decide +kernel
theorem dX6_letHappen_51 : decode cX6_letHappen 51 = .ok (.invokevirtual 289, 3) := by decide +kernel
theorem dX6_letHappen_54 : decode cX6_letHappen 54 = .ok (.invokevirtual 301, 3) := by decide +kernel
theorem dX6_letHappen_57 : decode cX6_letHappen 57 = .ok (.goto 63, 3) := by decide +kernel
theorem dX6_letHappen_60 : decode cX6_letHappen 60 = .ok (.aload_n 1, 1) := by decide +kernel
theorem dX6_letHappen_61 : decode cX6_letHappen 61 = .ok (.iload_n 3, 1) := by decide +kernel
theorem dX6_letHappen_62 : decode cX6_letHappen 62 = .ok (.iload 4, 2) := by decide +kernel
theorem dX6_letHappen_64 : decode cX6_letHappen 64 = .ok (.invokevirtual 304, 3) := by decide +kernel
theorem dX6_letHappen_67 : decode cX6_letHappen 67 = .ok (.goto 53, 3) := by decide +kernel
theorem dX6_letHappen_70 : decode cX6_letHappen 70 = .ok (.aload_n 1, 1) := by decide +kernel
theorem dX6_letHappen_71 : decode cX6_letHappen 71 = .ok (.iload_n 3, 1) := by decide +kernel
theorem dX6_letHappen_72 : decode cX6_letHappen 72 = .ok (.putfield 308, 3) := by decide +kernel
theorem dX6_letHappen_75 : decode cX6_letHappen 75 = .ok (.goto 45, 3) := by decide +kernel
theorem dX6_letHappen_78 : decode cX6_letHappen 78 = .ok (.aload_n 1, 1) := by decide +kernel
theorem dX6_letHappen_79 : decode cX6_letHappen 79 = .ok (.iload_n 3, 1) := by decide +kernel
theorem dX6_letHappen_80 : decode cX6_letHappen 80 = .ok (.bipush 99, 2) := by decide +kernel
theorem dX6_letHappen_82 : decode cX6_letHappen 82 = .ok (.invokevirtual 311, 3) := by decide +kernel
theorem dX6_letHappen_85 : decode cX6_letHappen 85 = .ok (.goto 35, 3) := by decide +kernel
theorem dX6_letHappen_88 : decode cX6_letHappen 88 = .ok (.aload_n 1, 1) := by decide +kernel
theorem dX6_letHappen_89 : decode cX6_letHappen 89 = .ok (.iconst 1, 1) := by decide +kernel
theorem dX6_letHappen_90 : decode cX6_letHappen 90 = .ok (.putfield 190, 3) := by decide +kernel
theorem dX6_letHappen_93 : decode cX6_letHappen 93 = .ok (.goto 27, 3) := by decide +kernel
theorem dX6_letHappen_96 : decode cX6_letHappen 96 = .ok (.aload_n 1, 1) := by decide +kernel
theorem dX6_letHappen_97 : decode cX6_letHappen 97 = .ok (.iconst 0, 1) := by decide +kernel
theorem dX6_letHappen_98 : decode cX6_letHappen 98 = .ok (.putfield 190, 3) := by decide +kernel
theorem dX6_letHappen_101 : decode cX6_letHappen 101 = .ok (.goto 19, 3) := by decide +kernel
theorem dX6_letHappen_104 : decode cX6_letHappen 104 = .ok (.aload_n 1, 1) := by decide +kernel
theorem dX6_letHappen_105 : decode cX6_letHappen 105 = .ok (.aload_n 0, 1) := by decide +kernel
theorem dX6_letHappen_106 : decode cX6_letHappen 106 = .ok (.iload_n 3, 1) := by decide +kernel
theorem dX6_letHappen_107 : decode cX6_letHappen 107 = .ok (.invokevirtual 289, 3) := by decide +kernel
theorem dX6_letHappen_110 : decode cX6_letHappen 110 = .ok (.invokevirtual 315, 3) := by decide +kernel
theorem dX6_letHappen_113 : decode cX6_letHappen 113 = .ok (.goto 7, 3) := by decide +kernel
theorem dX6_letHappen_116 : decode cX6_letHappen 116 = .ok (.aload_n 1, 1) := by decide +kernel
theorem dX6_letHappen_117 : decode cX6_letHappen 117 = .ok (.invokevirtual 318, 3) := by decide +kernel
theorem dX6_letHappen_120 : decode cX6_letHappen 120 = .ok (.aload_n 1, 1) := by decide +kernel
theorem dX6_letHappen_121 : decode cX6_letHappen 121 = .ok (.dup, 1) := by decide +kernel
theorem dX6_letHappen_122 : decode cX6_letHappen 122 = .ok (.getfield 265, 3) := by decide +kernel
theorem dX6_letHappen_125 : decode cX6_letHappen 125 = .ok (.iconst 1, 1) := by decide +kernel
theorem dX6_letHappen_126 : decode cX6_letHappen 126 = .ok (.iadd, 1) := by decide +kernel
theorem dX6_letHappen_127 : decode cX6_letHappen 127 = .ok (.putfield 265, 3) := by decide +kernel
theorem dX6_letHappen_130 : decode cX6_letHappen 130 = .ok (.aload_n 1, 1) := by decide +kernel
theorem dX6_letHappen_131 : decode cX6_letHappen 131 = .ok (.invokevirtual 321, 3) := by decide +kernel
theorem dX6_letHappen_134 : decode cX6_letHappen 134 = .ok (.aload_n 1, 1) := by decide +kernel
theorem dX6_letHappen_135 : decode cX6_letHappen 135 = .ok (.iconst (-1), 1) := by decide +kernel
theorem dX6_letHappen_136 : decode cX6_letHappen 136 = .ok (.putfield 308, 3) := by decide +kernel
theorem dX6_letHappen_139 : decode cX6_letHappen 139 = .ok (.return_, 1) := by decide +kernel
theorem dX6_replay_0 : decode cX6_replay 0 = .ok (.iconst 0, 1) := by decide +kernel
theorem dX6_replay_1 : decode cX6_replay 1 = .ok (.istore_n 2, 1) := by decide +kernel
theorem dX6_replay_2 : decode cX6_replay 2 = .ok (.iconst 0, 1) := by decide +kernel
theorem dX6_replay_3 : decode cX6_replay 3 = .ok (.istore_n 3, 1) := by decide +kernel
theorem dX6_replay_4 : decode cX6_replay 4 = .ok (.iload_n 3, 1) := by decide +kernel
theorem dX6_replay_5 : decode cX6_replay 5 = .ok (.aload_n 0, 1) := by decide +kernel
theorem dX6_replay_6 : decode cX6_replay 6 = .ok (.getfield 31, 3) := by decide +kernel
theorem dX6_replay_9 : decode cX6_replay 9 = .ok (.getfield 324, 3) := by decide +kernel
theorem dX6_replay_12 : decode cX6_replay 12 = .ok (.if_icmp .ge 136, 3) := by decide +kernel
theorem dX6_replay_15 : decode cX6_replay 15 = .ok (.iload_n 3, 1) := by decide +kernel
theorem dX6_replay_16 : decode cX6_replay 16 = .ok (.sipush 512, 3) := by decide +kernel
theorem dX6_replay_19 : decode cX6_replay 19 = .ok (.if_icmp .ge 129, 3) := by decide +kernel
theorem dX6_replay_22 : decode cX6_replay 22 = .ok (.aload_n 0, 1) := by decide +kernel
theorem dX6_replay_23 : decode cX6_replay 23 = .ok (.getfield 31, 3) := by decide +kernel
theorem dX6_replay_26 : decode cX6_replay 26 = .ok (.getfield 325, 3) := by decide +kernel
theorem dX6_replay_29 : decode cX6_replay 29 = .ok (.iload_n 3, 1) := by decide +kernel
theorem dX6_replay_30 : decode cX6_replay 30 = .ok (.iaload, 1) := by decide +kernel
theorem dX6_replay_31 : decode cX6_replay 31 = .ok (.istore 4, 2) := by decide +kernel
theorem dX6_replay_33 : decode cX6_replay 33 = .ok (.aload_n 0, 1) := by decide +kernel
theorem dX6_replay_34 : decode cX6_replay 34 = .ok (.getfield 31, 3) := by decide +kernel
theorem dX6_replay_37 : decode cX6_replay 37 = .ok (.getfield 329, 3) := by decide +kernel
theorem dX6_replay_40 : decode cX6_replay 40 = .ok (.iload_n 3, 1) := by decide +kernel
theorem dX6_replay_41 : decode cX6_replay 41 = .ok (.iaload, 1) := by decide +kernel
theorem dX6_replay_42 : decode cX6_replay 42 = .ok (.istore 5, 2) := by decide +kernel
theorem dX6_replay_44 : decode cX6_replay 44 = .ok (.iload 4, 2) := by decide +kernel
theorem dX6_replay_46 : decode cX6_replay 46 = .ok (.iload_n 1, 1) := by decide +kernel
theorem dX6_replay_47 : decode cX6_replay 47 = .ok (.if_icmp .ne 10, 3) := by decide +kernel
theorem dX6_replay_50 : decode cX6_replay 50 = .ok (.iload 5, 2) := by decide +kernel
theorem dX6_replay_52 : decode cX6_replay 52 = .ok (.ifCond .ne 5, 3) := by decide +kernel
theorem dX6_replay_55 : decode cX6_replay 55 = .ok (.iconst 1, 1) := by decide +kernel
theorem dX6_replay_56 : decode cX6_replay 56 = .ok (.istore_n 2, 1) := by decide +kernel
theorem dX6_replay_57 : decode cX6_replay 57 = .ok (.iload_n 2, 1) := by decide +kernel
theorem dX6_replay_58 : decode cX6_replay 58 = .ok (.ifCond .eq 84, 3) := by decide +kernel
theorem dX6_replay_61 : decode cX6_replay 61 = .ok (.iload 4, 2) := by decide +kernel
theorem dX6_replay_63 : decode cX6_replay 63 = .ok (.iload_n 1, 1) := by decide +kernel
theorem dX6_replay_64 : decode cX6_replay 64 = .ok (.if_icmp .eq 12, 3) := by decide +kernel
theorem dX6_replay_67 : decode cX6_replay 67 = .ok (.iload 4, 2) := by decide +kernel
theorem dX6_replay_69 : decode cX6_replay 69 = .ok (.iconst (-1), 1) := by decide +kernel
theorem dX6_replay_70 : decode cX6_replay 70 = .ok (.if_icmp .eq 6, 3) := by decide +kernel
theorem dX6_replay_73 : decode cX6_replay 73 = .ok (.goto 69, 3) := by decide +kernel
theorem dX6_replay_76 : decode cX6_replay 76 = .ok (.iload 5, 2) := by decide +kernel
theorem dX6_replay_78 : decode cX6_replay 78 = .ok (.bipush 7, 2) := by decide +kernel
theorem dX6_replay_80 : decode cX6_replay 80 = .ok (.if_icmp .ne 15, 3) := by decide +kernel
theorem dX6_replay_83 : decode cX6_replay 83 = .ok (.aload_n 0, 1) := by decide +kernel
theorem dX6_replay_84 : decode cX6_replay 84 = .ok (.getfield 31, 3) := by decide +kernel
theorem dX6_replay_87 : decode cX6_replay 87 = .ok (.getfield 332, 3) := by decide +kernel
theorem dX6_replay_90 : decode cX6_replay 90 = .ok (.iload_n 3, 1) := by decide +kernel
theorem dX6_replay_91 : decode cX6_replay 91 = .ok (.iaload, 1) := by decide +kernel
theorem dX6_replay_92 : decode cX6_replay 92 = .ok (.goto 4, 3) := by decide +kernel
theorem dX6_replay_95 : decode cX6_replay 95 = .ok (.iconst 1, 1) := by decide +kernel
theorem dX6_replay_96 : decode cX6_replay 96 = .ok (.istore 6, 2) := by decide +kernel
theorem dX6_replay_98 : decode cX6_replay 98 = .ok (.iconst 0, 1) := by decide +kernel
theorem dX6_replay_99 : decode cX6_replay 99 = .ok (.istore 7, 2) := by decide +kernel
theorem dX6_replay_101 : decode cX6_replay 101 = .ok (.iload 7, 2) := by decide +kernel
theorem dX6_replay_103 : decode cX6_replay 103 = .ok (.iload 6, 2) := by decide +kernel
theorem dX6_replay_105 : decode cX6_replay 105 = .ok (.if_icmp .ge 37, 3) := by decide +kernel
theorem dX6_replay_108 : decode cX6_replay 108 = .ok (.aload_n 0, 1) := by decide +kernel
theorem dX6_replay_109 : decode cX6_replay 109 = .ok (.aload_n 0, 1) := by decide +kernel
theorem dX6_replay_110 : decode cX6_replay 110 = .ok (.getfield 41, 3) := by decide +kernel
theorem dX6_replay_113 : decode cX6_replay 113 = .ok (.iload 5, 2) := by decide +kernel
theorem dX6_replay_115 : decode cX6_replay 115 = .ok (.aload_n 0, 1) := by decide +kernel
theorem dX6_replay_116 : decode cX6_replay 116 = .ok (.getfield 31, 3) := by decide +kernel
theorem dX6_replay_119 : decode cX6_replay 119 = .ok (.getfield 332, 3) := by decide +kernel
theorem dX6_replay_122 : decode cX6_replay 122 = .ok (.iload_n 3, 1) := by decide +kernel
theorem dX6_replay_123 : decode cX6_replay 123 = .ok (.iaload, 1) := by decide +kernel
theorem dX6_replay_124 : decode cX6_replay 124 = .ok (.aload_n 0, 1) := by decide +kernel
theorem dX6_replay_125 : decode cX6_replay 125 = .ok (.getfield 31, 3) := by decide +kernel
theorem dX6_replay_128 : decode cX6_replay 128 = .ok (.getfield 335, 3) := by decide +kernel
theorem dX6_replay_131 : decode cX6_replay 131 = .ok (.iload_n 3, 1) := by decide +kernel
theorem dX6_replay_132 : decode cX6_replay 132 = .ok (.iaload, 1) := by decide +kernel
theorem dX6_replay_133 : decode cX6_replay 133 = .ok (.invokevirtual 206, 3) := by decide +kernel
theorem dX6_replay_136 : decode cX6_replay 136 = .ok (.iinc 7 1, 3) := by decide +kernel
theorem dX6_replay_139 : decode cX6_replay 139 = .ok (.goto (-38), 3) := by decide +kernel
theorem dX6_replay_142 : decode cX6_replay 142 = .ok (.iinc 3 1, 3) := by decide +kernel
theorem dX6_replay_145 : decode cX6_replay 145 = .ok (.goto (-141), 3) := by decide +kernel
theorem dX6_replay_148 : decode cX6_replay 148 = .ok (.return_, 1) := by decide +kernel
theorem dX6_lateTasksOfAll_0 : decode cX6_lateTasksOfAll 0 = .ok (.iconst 0, 1) := by decide +kernel
theorem dX6_lateTasksOfAll_1 : decode cX6_lateTasksOfAll 1 = .ok (.istore_n 1, 1) := by decide +kernel
theorem dX6_lateTasksOfAll_2 : decode cX6_lateTasksOfAll 2 = .ok (.iconst 0, 1) := by decide +kernel
theorem dX6_lateTasksOfAll_3 : decode cX6_lateTasksOfAll 3 = .ok (.istore_n 2, 1) := by decide +kernel
theorem dX6_lateTasksOfAll_4 : decode cX6_lateTasksOfAll 4 = .ok (.iload_n 2, 1) := by decide +kernel
theorem dX6_lateTasksOfAll_5 : decode cX6_lateTasksOfAll 5 = .ok (.aload_n 0, 1) := by decide +kernel
theorem dX6_lateTasksOfAll_6 : decode cX6_lateTasksOfAll 6 = .ok (.getfield 25, 3) := by decide +kernel
theorem dX6_lateTasksOfAll_9 : decode cX6_lateTasksOfAll 9 = .ok (.if_icmp .ge 26, 3) := by decide +kernel
theorem dX6_lateTasksOfAll_12 : decode cX6_lateTasksOfAll 12 = .ok (.aload_n 0, 1) := by decide +kernel
theorem dX6_lateTasksOfAll_13 : decode cX6_lateTasksOfAll 13 = .ok (.iload_n 2, 1) := by decide +kernel
theorem dX6_lateTasksOfAll_14 : decode cX6_lateTasksOfAll 14 = .ok (.invokevirtual 203, 3) := by decide +kernel
theorem dX6_lateTasksOfAll_17 : decode cX6_lateTasksOfAll 17 = .ok (.astore_n 3, 1) := by decide +kernel
theorem dX6_lateTasksOfAll_18 : decode cX6_lateTasksOfAll 18 = .ok (.aload_n 3, 1) := by decide +kernel
theorem dX6_lateTasksOfAll_19 : decode cX6_lateTasksOfAll 19 = .ok (.ifnull 10, 3) := by decide +kernel
theorem dX6_lateTasksOfAll_22 : decode cX6_lateTasksOfAll 22 = .ok (.iload_n 1, 1) := by decide +kernel
theorem dX6_lateTasksOfAll_23 : decode cX6_lateTasksOfAll 23 = .ok (.aload_n 3, 1) := by decide +kernel
theorem dX6_lateTasksOfAll_24 : decode cX6_lateTasksOfAll 24 = .ok (.invokevirtual 338, 3) := by decide +kernel
theorem dX6_lateTasksOfAll_27 : decode cX6_lateTasksOfAll 27 = .ok (.iadd, 1) := by decide +kernel
theorem dX6_lateTasksOfAll_28 : decode cX6_lateTasksOfAll 28 = .ok (.istore_n 1, 1) := by decide +kernel
theorem dX6_lateTasksOfAll_29 : decode cX6_lateTasksOfAll 29 = .ok (.iinc 2 1, 3) := by decide +kernel
theorem dX6_lateTasksOfAll_32 : decode cX6_lateTasksOfAll 32 = .ok (.goto (-28), 3) := by decide +kernel
theorem dX6_lateTasksOfAll_35 : decode cX6_lateTasksOfAll 35 = .ok (.iload_n 1, 1) := by decide +kernel
theorem dX6_lateTasksOfAll_36 : decode cX6_lateTasksOfAll 36 = .ok (.ireturn, 1) := by decide +kernel
end
section
theorem dX7_init_0 : decode cX7_init 0 = .ok (.aload_n 0, 1) := by decide +kernel
theorem dX7_init_1 : decode cX7_init 1 = .ok (.invokespecial 1, 3) := by decide +kernel
theorem dX7_init_4 : decode cX7_init 4 = .ok (.aload_n 0, 1) := by decide +kernel
theorem dX7_init_5 : decode cX7_init 5 = .ok (.iconst 3, 1) := by decide +kernel
theorem dX7_init_6 : decode cX7_init 6 = .ok (.bipush 8, 2) := by decide +kernel
theorem dX7_init_8 : decode cX7_init 8 = .ok (.multianewarray 9 2, 4) := by decide +kernel
theorem dX7_init_12 : decode cX7_init 12 = .ok (.putfield 11, 3) := by decide +kernel
theorem dX7_init_15 : decode cX7_init 15 = .ok (.aload_n 0, 1) := by decide +kernel
theorem dX7_init_16 : decode cX7_init 16 = .ok (.iconst 3, 1) := by decide +kernel
theorem dX7_init_17 : decode cX7_init 17 = .ok (.bipush 8, 2) := by decide +kernel
theorem dX7_init_19 : decode cX7_init 19 = .ok (.multianewarray 14 2, 4) := by decide +kernel
theorem dX7_init_23 : decode cX7_init 23 = .ok (.putfield 16, 3) := by decide +kernel
theorem dX7_init_26 : decode cX7_init 26 = .ok (.aload_n 0, 1) := by decide +kernel
theorem dX7_init_27 : decode cX7_init 27 = .ok (.iconst 3, 1) := by decide +kernel
theorem dX7_init_28 : decode cX7_init 28 = .ok (.bipush 8, 2) := by decide +kernel
theorem dX7_init_30 : decode cX7_init 30 = .ok (.multianewarray 19 2, 4) := by decide +kernel
theorem dX7_init_34 : decode cX7_init 34 = .ok (.putfield 21, 3) := by decide +kernel
theorem dX7_init_37 : decode cX7_init 37 = .ok (.aload_n 0, 1) := by decide +kernel
theorem dX7_init_38 : decode cX7_init 38 = .ok (.iconst 3, 1) := by decide +kernel
theorem dX7_init_39 : decode cX7_init 39 = .ok (.bipush 8, 2) := by decide +kernel
theorem dX7_init_41 : decode cX7_init 41 = .ok (.multianewarray 14 2, 4) := by decide +kernel
theorem dX7_init_45 : decode cX7_init 45 = .ok (.putfield 24, 3) := by decide +kernel
theorem dX7_init_48 : decode cX7_init 48 = .ok (.aload_n 0, 1) := by decide +kernel
theorem dX7_init_49 : decode cX7_init 49 = .ok (.iconst 3, 1) := by decide +kernel
theorem dX7_init_50 : decode cX7_init 50 = .ok (.bipush 8, 2) := by decide +kernel
theorem dX7_init_52 : decode cX7_init 52 = .ok (.bipush 6, 2) := by decide +kernel
theorem dX7_init_54 : decode cX7_init 54 = .ok (.multianewarray 27 3, 4) := by decide +kernel
theorem dX7_init_58 : decode cX7_init 58 = .ok (.putfield 29, 3) := by decide +kernel
theorem dX7_init_61 : decode cX7_init 61 = .ok (.aload_n 0, 1) := by decide +kernel
theorem dX7_init_62 : decode cX7_init 62 = .ok (.iconst 3, 1) := by decide +kernel
theorem dX7_init_63 : decode cX7_init 63 = .ok (.bipush 8, 2) := by decide +kernel
theorem dX7_init_65 : decode cX7_init 65 = .ok (.bipush 6, 2) := by decide +kernel
theorem dX7_init_67 : decode cX7_init 67 = .ok (.multianewarray 32 3, 4) := by decide +kernel
theorem dX7_init_71 : decode cX7_init 71 = .ok (.putfield 34, 3) := by decide +kernel
theorem dX7_init_74 : decode cX7_init 74 = .ok (.aload_n 0, 1) := by decide +kernel
theorem dX7_init_75 : decode cX7_init 75 = .ok (.iconst 3, 1) := by decide +kernel
theorem dX7_init_76 : decode cX7_init 76 = .ok (.bipush 8, 2) := by decide +kernel
theorem dX7_init_78 : decode cX7_init 78 = .ok (.bipush 6, 2) := by decide +kernel
theorem dX7_init_80 : decode cX7_init 80 = .ok (.multianewarray 32 3, 4) := by decide +kernel
theorem dX7_init_84 : decode cX7_init 84 = .ok (.putfield 37, 3) := by decide +kernel
theorem dX7_init_87 : decode cX7_init 87 = .ok (.aload_n 0, 1) := by decide +kernel
theorem dX7_init_88 : decode cX7_init 88 = .ok (.iconst 3, 1) := by decide +kernel
theorem dX7_init_89 : decode cX7_init 89 = .ok (.bipush 8, 2) := by decide +kernel
theorem dX7_init_91 : decode cX7_init 91 = .ok (.iconst 2, 1) := by decide +kernel
theorem dX7_init_92 : decode cX7_init 92 = .ok (.multianewarray 32 3, 4) := by decide +kernel
theorem dX7_init_96 : decode cX7_init 96 = .ok (.putfield 40, 3) := by decide +kernel
theorem dX7_init_99 : decode cX7_init 99 = .ok (.aload_n 0, 1) := by decide +kernel
theorem dX7_init_100 : decode cX7_init 100 = .ok (.iconst 3, 1) := by decide +kernel
theorem dX7_init_101 : decode cX7_init 101 = .ok (.newarray .int, 2) := by decide +kernel
theorem dX7_init_103 : decode cX7_init 103 = .ok (.putfield 43, 3) := by decide +kernel
theorem dX7_init_106 : decode cX7_init 106 = .ok (.aload_n 0, 1) := by decide +kernel
theorem dX7_init_107 : decode cX7_init 107 = .ok (.iconst 3, 1) := by decide +kernel
theorem dX7_init_108 : decode cX7_init 108 = .ok (.newarray .boolean, 2) := by decide +kernel
theorem dX7_init_110 : decode cX7_init 110 = .ok (.putfield 47, 3) := by decide +kernel
theorem dX7_init_113 : decode cX7_init 113 = .ok (.aload_n 0, 1) := by decide +kernel
theorem dX7_init_114 : decode cX7_init 114 = .ok (.iconst 4, 1) := by decide +kernel
theorem dX7_init_115 : decode cX7_init 115 = .ok (.newarray .int, 2) := by decide +kernel
theorem dX7_init_117 : decode cX7_init 117 = .ok (.putfield 51, 3) := by decide +kernel
theorem dX7_init_120 : decode cX7_init 120 = .ok (.aload_n 0, 1) := by decide +kernel
theorem dX7_init_121 : decode cX7_init 121 = .ok (.iconst 4, 1) := by decide +kernel
theorem dX7_init_122 : decode cX7_init 122 = .ok (.iconst 4, 1) := by decide +kernel
theorem dX7_init_123 : decode cX7_init 123 = .ok (.multianewarray 14 2, 4) := by decide +kernel
theorem dX7_init_127 : decode cX7_init 127 = .ok (.putfield 54, 3) := by decide +kernel
theorem dX7_init_130 : decode cX7_init 130 = .ok (.aload_n 0, 1) := by decide +kernel
theorem dX7_init_131 : decode cX7_init 131 = .ok (.iconst 4, 1) := by decide +kernel
theorem dX7_init_132 : decode cX7_init 132 = .ok (.newarray .boolean, 2) := by decide +kernel
theorem dX7_init_134 : decode cX7_init 134 = .ok (.putfield 57, 3) := by decide +kernel
theorem dX7_init_137 : decode cX7_init 137 = .ok (.aload_n 0, 1) := by decide +kernel
theorem dX7_init_138 : decode cX7_init 138 = .ok (.iconst 4, 1) := by decide +kernel
theorem dX7_init_139 : decode cX7_init 139 = .ok (.bipush 8, 2) := by decide +kernel
theorem dX7_init_141 : decode cX7_init 141 = .ok (.multianewarray 9 2, 4) := by decide +kernel
theorem dX7_init_145 : decode cX7_init 145 = .ok (.putfield 60, 3) := by decide +kernel
theorem dX7_init_148 : decode cX7_init 148 = .ok (.aload_n 0, 1) := by decide +kernel
theorem dX7_init_149 : decode cX7_init 149 = .ok (.iconst 4, 1) := by decide +kernel
theorem dX7_init_150 : decode cX7_init 150 = .ok (.bipush 8, 2) := by decide +kernel
theorem dX7_init_152 : decode cX7_init 152 = .ok (.multianewarray 14 2, 4) := by decide +kernel
theorem dX7_init_156 : decode cX7_init 156 = .ok (.putfield 63, 3) := by decide +kernel
theorem dX7_init_159 : decode cX7_init 159 = .ok (.aload_n 0, 1) := by decide +kernel
theorem dX7_init_160 : decode cX7_init 160 = .ok (.iconst 4, 1) := by decide +kernel
theorem dX7_init_161 : decode cX7_init 161 = .ok (.bipush 8, 2) := by decide +kernel
theorem dX7_init_163 : decode cX7_init 163 = .ok (.multianewarray 14 2, 4) := by decide +kernel
theorem dX7_init_167 : decode cX7_init 167 = .ok (.putfield 66, 3) := by decide +kernel
theorem dX7_init_170 : decode cX7_init 170 = .ok (.aload_n 0, 1) := by decide +kernel
theorem dX7_init_171 : decode cX7_init 171 = .ok (.iconst 4, 1) := by decide +kernel
theorem dX7_init_172 : decode cX7_init 172 = .ok (.newarray .int, 2) := by decide +kernel
theorem dX7_init_174 : decode cX7_init 174 = .ok (.putfield 69, 3) := by decide +kernel
theorem dX7_init_177 : decode cX7_init 177 = .ok (.aload_n 0, 1) := by decide +kernel
theorem dX7_init_178 : decode cX7_init 178 = .ok (.iconst 4, 1) := by decide +kernel
theorem dX7_init_179 : decode cX7_init 179 = .ok (.newarray .int, 2) := by decide +kernel
theorem dX7_init_181 : decode cX7_init 181 = .ok (.putfield 72, 3) := by decide +kernel
theorem dX7_init_184 : decode cX7_init 184 = .ok (.aload_n 0, 1) := by decide +kernel
theorem dX7_init_185 : decode cX7_init 185 = .ok (.iconst 4, 1) := by decide +kernel
theorem dX7_init_186 : decode cX7_init 186 = .ok (.newarray .int, 2) := by decide +kernel
theorem dX7_init_188 : decode cX7_init 188 = .ok (.putfield 75, 3) := by decide +kernel
theorem dX7_init_191 : decode cX7_init 191 = .ok (.aload_n 0, 1) := by decide +kernel
theorem dX7_init_192 : decode cX7_init 192 = .ok (.iconst (-1), 1) := by decide +kernel
theorem dX7_init_193 : decode cX7_init 193 = .ok (.putfield 78, 3) := by decide +kernel
theorem dX7_init_196 : decode cX7_init 196 = .ok (.aload_n 0, 1) := by decide +kernel
theorem dX7_init_197 : decode cX7_init 197 = .ok (.bipush 8, 2) := by decide +kernel
theorem dX7_init_199 : decode cX7_init 199 = .ok (.newarray .char, 2) := by decide +kernel
theorem dX7_init_201 : decode cX7_init 201 = .ok (.putfield 82, 3) := by decide +kernel
theorem dX7_init_204 : decode cX7_init 204 = .ok (.return_, 1) := by decide +kernel
theorem dX7_thrown_0 : decode cX7_thrown 0 = .ok (.aload_n 0, 1) := by decide +kernel
theorem dX7_thrown_1 : decode cX7_thrown 1 = .ok (.getfield 86, 3) := by decide +kernel
theorem dX7_thrown_4 : decode cX7_thrown 4 = .ok (.ireturn, 1) := by decide +kernel
theorem dX7_raises_0 : decode cX7_raises 0 = .ok (.aload_n 0, 1) := by decide +kernel
theorem dX7_raises_1 : decode cX7_raises 1 = .ok (.iload_n 1, 1) := by decide +kernel
theorem dX7_raises_2 : decode cX7_raises 2 = .ok (.putfield 86, 3) := by decide +kernel
theorem dX7_raises_5 : decode cX7_raises 5 = .ok (.iconst 0, 1) := by decide +kernel
theorem dX7_raises_6 : decode cX7_raises 6 = .ok (.ireturn, 1) := by decide +kernel
theorem dX7_in_0 : decode cX7_in 0 = .ok (.iload_n 0, 1) := by decide +kernel
theorem dX7_in_1 : decode cX7_in 1 = .ok (.iload_n 1, 1) := by decide +kernel
theorem dX7_in_2 : decode cX7_in 2 = .ok (.if_icmp .lt 12, 3) := by decide +kernel
theorem dX7_in_5 : decode cX7_in 5 = .ok (.iload_n 0, 1) := by decide +kernel
theorem dX7_in_6 : decode cX7_in 6 = .ok (.iload_n 2, 1) := by decide +kernel
theorem dX7_in_7 : decode cX7_in 7 = .ok (.if_icmp .gt 7, 3) := by decide +kernel
theorem dX7_in_10 : decode cX7_in 10 = .ok (.iconst 1, 1) := by decide +kernel
theorem dX7_in_11 : decode cX7_in 11 = .ok (.goto 4, 3) := by decide +kernel
theorem dX7_in_14 : decode cX7_in 14 = .ok (.iconst 0, 1) := by decide +kernel
theorem dX7_in_15 : decode cX7_in 15 = .ok (.ireturn, 1) := by decide +kernel
theorem dX7_isPlan_0 : decode cX7_isPlan 0 = .ok (.iload_n 1, 1) := by decide +kernel
theorem dX7_isPlan_1 : decode cX7_isPlan 1 = .ok (.iconst 0, 1) := by decide +kernel
theorem dX7_isPlan_2 : decode cX7_isPlan 2 = .ok (.aload_n 0, 1) := by decide +kernel
theorem dX7_isPlan_3 : decode cX7_isPlan 3 = .ok (.getfield 89, 3) := by decide +kernel
theorem dX7_isPlan_6 : decode cX7_isPlan 6 = .ok (.iconst 1, 1) := by decide +kernel
theorem dX7_isPlan_7 : decode cX7_isPlan 7 = .ok (.isub, 1) := by decide +kernel
theorem dX7_isPlan_8 : decode cX7_isPlan 8 = .ok (.invokestatic 92, 3) := by decide +kernel
theorem dX7_isPlan_11 : decode cX7_isPlan 11 = .ok (.ireturn, 1) := by decide +kernel
theorem dX7_isStep_0 : decode cX7_isStep 0 = .ok (.aload_n 0, 1) := by decide +kernel
theorem dX7_isStep_1 : decode cX7_isStep 1 = .ok (.iload_n 1, 1) := by decide +kernel
theorem dX7_isStep_2 : decode cX7_isStep 2 = .ok (.invokevirtual 96, 3) := by decide +kernel
theorem dX7_isStep_5 : decode cX7_isStep 5 = .ok (.ifCond .eq 23, 3) := by decide +kernel
theorem dX7_isStep_8 : decode cX7_isStep 8 = .ok (.iload_n 2, 1) := by decide +kernel
theorem dX7_isStep_9 : decode cX7_isStep 9 = .ok (.iconst 0, 1) := by decide +kernel
theorem dX7_isStep_10 : decode cX7_isStep 10 = .ok (.aload_n 0, 1) := by decide +kernel
theorem dX7_isStep_11 : decode cX7_isStep 11 = .ok (.getfield 43, 3) := by decide +kernel
theorem dX7_isStep_14 : decode cX7_isStep 14 = .ok (.iload_n 1, 1) := by decide +kernel
theorem dX7_isStep_15 : decode cX7_isStep 15 = .ok (.iaload, 1) := by decide +kernel
theorem dX7_isStep_16 : decode cX7_isStep 16 = .ok (.iconst 1, 1) := by decide +kernel
theorem dX7_isStep_17 : decode cX7_isStep 17 = .ok (.isub, 1) := by decide +kernel
theorem dX7_isStep_18 : decode cX7_isStep 18 = .ok (.invokestatic 92, 3) := by decide +kernel
theorem dX7_isStep_21 : decode cX7_isStep 21 = .ok (.ifCond .eq 7, 3) := by decide +kernel
theorem dX7_isStep_24 : decode cX7_isStep 24 = .ok (.iconst 1, 1) := by decide +kernel
theorem dX7_isStep_25 : decode cX7_isStep 25 = .ok (.goto 4, 3) := by decide +kernel
theorem dX7_isStep_28 : decode cX7_isStep 28 = .ok (.iconst 0, 1) := by decide +kernel
theorem dX7_isStep_29 : decode cX7_isStep 29 = .ok (.ireturn, 1) := by decide +kernel
theorem dX7_isCase_0 : decode cX7_isCase 0 = .ok (.iload_n 1, 1) := by decide +kernel
theorem dX7_isCase_1 : decode cX7_isCase 1 = .ok (.iconst 0, 1) := by decide +kernel
theorem dX7_isCase_2 : decode cX7_isCase 2 = .ok (.aload_n 0, 1) := by decide +kernel
theorem dX7_isCase_3 : decode cX7_isCase 3 = .ok (.getfield 100, 3) := by decide +kernel
theorem dX7_isCase_6 : decode cX7_isCase 6 = .ok (.iconst 1, 1) := by decide +kernel
theorem dX7_isCase_7 : decode cX7_isCase 7 = .ok (.isub, 1) := by decide +kernel
theorem dX7_isCase_8 : decode cX7_isCase 8 = .ok (.invokestatic 92, 3) := by decide +kernel
theorem dX7_isCase_11 : decode cX7_isCase 11 = .ok (.ireturn, 1) := by decide +kernel
theorem dX7_isStepOf_0 : decode cX7_isStepOf 0 = .ok (.aload_n 0, 1) := by decide +kernel
theorem dX7_isStepOf_1 : decode cX7_isStepOf 1 = .ok (.iload_n 1, 1) := by decide +kernel
theorem dX7_isStepOf_2 : decode cX7_isStepOf 2 = .ok (.invokevirtual 103, 3) := by decide +kernel
theorem dX7_isStepOf_5 : decode cX7_isStepOf 5 = .ok (.ifCond .eq 21, 3) := by decide +kernel
theorem dX7_isStepOf_8 : decode cX7_isStepOf 8 = .ok (.aload_n 0, 1) := by decide +kernel
theorem dX7_isStepOf_9 : decode cX7_isStepOf 9 = .ok (.aload_n 0, 1) := by decide +kernel
theorem dX7_isStepOf_10 : decode cX7_isStepOf 10 = .ok (.getfield 51, 3) := by decide +kernel
theorem dX7_isStepOf_13 : decode cX7_isStepOf 13 = .ok (.iload_n 1, 1) := by decide +kernel
theorem dX7_isStepOf_14 : decode cX7_isStepOf 14 = .ok (.iaload, 1) := by decide +kernel
theorem dX7_isStepOf_15 : decode cX7_isStepOf 15 = .ok (.iload_n 2, 1) := by decide +kernel
theorem dX7_isStepOf_16 : decode cX7_isStepOf 16 = .ok (.invokevirtual 106, 3) := by decide +kernel
theorem dX7_isStepOf_19 : decode cX7_isStepOf 19 = .ok (.ifCond .eq 7, 3) := by decide +kernel
theorem dX7_isStepOf_22 : decode cX7_isStepOf 22 = .ok (.iconst 1, 1) := by decide +kernel
theorem dX7_isStepOf_23 : decode cX7_isStepOf 23 = .ok (.goto 4, 3) := by decide +kernel
theorem dX7_isStepOf_26 : decode cX7_isStepOf 26 = .ok (.iconst 0, 1) := by decide +kernel
theorem dX7_isStepOf_27 : decode cX7_isStepOf 27 = .ok (.ireturn, 1) := by decide +kernel
theorem dX7_addPlan_0 : decode cX7_addPlan 0 = .ok (.aload_n 0, 1) := by decide +kernel
theorem dX7_addPlan_1 : decode cX7_addPlan 1 = .ok (.getfield 89, 3) := by decide +kernel
theorem dX7_addPlan_4 : decode cX7_addPlan 4 = .ok (.iconst 3, 1) := by decide +kernel
theorem dX7_addPlan_5 : decode cX7_addPlan 5 = .ok (.if_icmp .ne 9, 3) := by decide +kernel
theorem dX7_addPlan_8 : decode cX7_addPlan 8 = .ok (.aload_n 0, 1) := by decide +kernel
theorem dX7_addPlan_9 : decode cX7_addPlan 9 = .ok (.iconst 1, 1) := by decide +kernel
theorem dX7_addPlan_10 : decode cX7_addPlan 10 = .ok (.invokevirtual 110, 3) := by decide +kernel
theorem dX7_addPlan_13 : decode cX7_addPlan 13 = .ok (.ireturn, 1) := by decide +kernel
theorem dX7_addPlan_14 : decode cX7_addPlan 14 = .ok (.aload_n 0, 1) := by decide +kernel
theorem dX7_addPlan_15 : decode cX7_addPlan 15 = .ok (.iconst 0, 1) := by decide +kernel
theorem dX7_addPlan_16 : decode cX7_addPlan 16 = .ok (.putfield 86, 3) := by decide +kernel
theorem dX7_addPlan_19 : decode cX7_addPlan 19 = .ok (.aload_n 0, 1) := by decide +kernel
theorem dX7_addPlan_20 : decode cX7_addPlan 20 = .ok (.dup, 1) := by decide +kernel
theorem dX7_addPlan_21 : decode cX7_addPlan 21 = .ok (.getfield 89, 3) := by decide +kernel
theorem dX7_addPlan_24 : decode cX7_addPlan 24 = .ok (.iconst 1, 1) := by decide +kernel
theorem dX7_addPlan_25 : decode cX7_addPlan 25 = .ok (.iadd, 1) := by decide +kernel
theorem dX7_addPlan_26 : decode cX7_addPlan 26 = .ok (.putfield 89, 3) := by decide +kernel
theorem dX7_addPlan_29 : decode cX7_addPlan 29 = .ok (.aload_n 0, 1) := by decide +kernel
theorem dX7_addPlan_30 : decode cX7_addPlan 30 = .ok (.getfield 89, 3) := by decide +kernel
theorem dX7_addPlan_33 : decode cX7_addPlan 33 = .ok (.iconst 1, 1) := by decide +kernel
theorem dX7_addPlan_34 : decode cX7_addPlan 34 = .ok (.isub, 1) := by decide +kernel
theorem dX7_addPlan_35 : decode cX7_addPlan 35 = .ok (.ireturn, 1) := by decide +kernel
theorem dX7_addStep_0 : decode cX7_addStep 0 = .ok (.aload_n 0, 1) := by decide +kernel
theorem dX7_addStep_1 : decode cX7_addStep 1 = .ok (.iload_n 1, 1) := by decide +kernel
theorem dX7_addStep_2 : decode cX7_addStep 2 = .ok (.invokevirtual 96, 3) := by decide +kernel
theorem dX7_addStep_5 : decode cX7_addStep 5 = .ok (.ifCond .ne 9, 3) := by decide +kernel
theorem dX7_addStep_8 : decode cX7_addStep 8 = .ok (.aload_n 0, 1) := by decide +kernel
theorem dX7_addStep_9 : decode cX7_addStep 9 = .ok (.iconst 1, 1) := by decide +kernel
theorem dX7_addStep_10 : decode cX7_addStep 10 = .ok (.invokevirtual 110, 3) := by decide +kernel
theorem dX7_addStep_13 : decode cX7_addStep 13 = .ok (.ireturn, 1) := by decide +kernel
theorem dX7_addStep_14 : decode cX7_addStep 14 = .ok (.iload_n 2, 1) := by decide +kernel
theorem dX7_addStep_15 : decode cX7_addStep 15 = .ok (.bipush 115, 2) := by decide +kernel
theorem dX7_addStep_17 : decode cX7_addStep 17 = .ok (.if_icmp .eq 15, 3) := by decide +kernel
theorem dX7_addStep_20 : decode cX7_addStep 20 = .ok (.iload_n 2, 1) := by decide +kernel
theorem dX7_addStep_21 : decode cX7_addStep 21 = .ok (.bipush 116, 2) := by decide +kernel
theorem dX7_addStep_23 : decode cX7_addStep 23 = .ok (.if_icmp .eq 9, 3) := by decide +kernel
theorem dX7_addStep_26 : decode cX7_addStep 26 = .ok (.iload_n 2, 1) := by decide +kernel
theorem dX7_addStep_27 : decode cX7_addStep 27 = .ok (.bipush 109, 2) := by decide +kernel
theorem dX7_addStep_29 : decode cX7_addStep 29 = .ok (.if_icmp .ne 7, 3) := by decide +kernel
theorem dX7_addStep_32 : decode cX7_addStep 32 = .ok (.iconst 1, 1) := by decide +kernel
theorem dX7_addStep_33 : decode cX7_addStep 33 = .ok (.goto 4, 3) := by decide +kernel
theorem dX7_addStep_36 : decode cX7_addStep 36 = .ok (.iconst 0, 1) := by decide +kernel
theorem dX7_addStep_37 : decode cX7_addStep 37 = .ok (.istore 4, 2) := by decide +kernel
theorem dX7_addStep_39 : decode cX7_addStep 39 = .ok (.iload_n 3, 1) := by decide +kernel
theorem dX7_addStep_40 : decode cX7_addStep 40 = .ok (.iconst (-1), 1) := by decide +kernel
theorem dX7_addStep_41 : decode cX7_addStep 41 = .ok (.if_icmp .eq 25, 3) := by decide +kernel
theorem dX7_addStep_44 : decode cX7_addStep 44 = .ok (.aload_n 0, 1) := by decide +kernel
theorem dX7_addStep_45 : decode cX7_addStep 45 = .ok (.iload_n 1, 1) := by decide +kernel
theorem dX7_addStep_46 : decode cX7_addStep 46 = .ok (.iload_n 3, 1) := by decide +kernel
theorem dX7_addStep_47 : decode cX7_addStep 47 = .ok (.invokevirtual 106, 3) := by decide +kernel
theorem dX7_addStep_50 : decode cX7_addStep 50 = .ok (.ifCond .eq 20, 3) := by decide +kernel
theorem dX7_addStep_53 : decode cX7_addStep 53 = .ok (.aload_n 0, 1) := by decide +kernel
theorem dX7_addStep_54 : decode cX7_addStep 54 = .ok (.getfield 11, 3) := by decide +kernel
theorem dX7_addStep_57 : decode cX7_addStep 57 = .ok (.iload_n 1, 1) := by decide +kernel
theorem dX7_addStep_58 : decode cX7_addStep 58 = .ok (.aaload, 1) := by decide +kernel
theorem dX7_addStep_59 : decode cX7_addStep 59 = .ok (.iload_n 3, 1) := by decide +kernel
theorem dX7_addStep_60 : decode cX7_addStep 60 = .ok (.caload, 1) := by decide +kernel
theorem dX7_addStep_61 : decode cX7_addStep 61 = .ok (.bipush 115, 2) := by decide +kernel
theorem dX7_addStep_63 : decode cX7_addStep 63 = .ok (.if_icmp .ne 7, 3) := by decide +kernel
theorem dX7_addStep_66 : decode cX7_addStep 66 = .ok (.iconst 1, 1) := by decide +kernel
theorem dX7_addStep_67 : decode cX7_addStep 67 = .ok (.goto 4, 3) := by decide +kernel
theorem dX7_addStep_70 : decode cX7_addStep 70 = .ok (.iconst 0, 1) := by decide +kernel
theorem dX7_addStep_71 : decode cX7_addStep 71 = .ok (.istore 5, 2) := by decide +kernel
theorem dX7_addStep_73 : decode cX7_addStep 73 = .ok (.aload_n 0, 1) := by decide +kernel
theorem dX7_addStep_74 : decode cX7_addStep 74 = .ok (.iload 4, 2) := by decide +kernel
theorem dX7_addStep_76 : decode cX7_addStep 76 = .ok (.ifCond .eq 8, 3) := by decide +kernel
theorem dX7_addStep_79 : decode cX7_addStep 79 = .ok (.iload 5, 2) := by decide +kernel
theorem dX7_addStep_81 : decode cX7_addStep 81 = .ok (.ifCond .ne 7, 3) := by decide +kernel
theorem dX7_addStep_84 : decode cX7_addStep 84 = .ok (.iconst 2, 1) := by decide +kernel
theorem dX7_addStep_85 : decode cX7_addStep 85 = .ok (.goto 28, 3) := by decide +kernel
theorem dX7_addStep_88 : decode cX7_addStep 88 = .ok (.aload_n 0, 1) := by decide +kernel
theorem dX7_addStep_89 : decode cX7_addStep 89 = .ok (.getfield 47, 3) := by decide +kernel
theorem dX7_addStep_92 : decode cX7_addStep 92 = .ok (.iload_n 1, 1) := by decide +kernel
theorem dX7_addStep_93 : decode cX7_addStep 93 = .ok (.baload, 1) := by decide +kernel
theorem dX7_addStep_94 : decode cX7_addStep 94 = .ok (.ifCond .ne 14, 3) := by decide +kernel
theorem dX7_addStep_97 : decode cX7_addStep 97 = .ok (.aload_n 0, 1) := by decide +kernel
theorem dX7_addStep_98 : decode cX7_addStep 98 = .ok (.getfield 43, 3) := by decide +kernel
theorem dX7_addStep_101 : decode cX7_addStep 101 = .ok (.iload_n 1, 1) := by decide +kernel
theorem dX7_addStep_102 : decode cX7_addStep 102 = .ok (.iaload, 1) := by decide +kernel
theorem dX7_addStep_103 : decode cX7_addStep 103 = .ok (.bipush 8, 2) := by decide +kernel
theorem dX7_addStep_105 : decode cX7_addStep 105 = .ok (.if_icmp .ne 7, 3) := by decide +kernel
theorem dX7_addStep_108 : decode cX7_addStep 108 = .ok (.iconst 3, 1) := by decide +kernel
theorem dX7_addStep_109 : decode cX7_addStep 109 = .ok (.goto 4, 3) := by decide +kernel
theorem dX7_addStep_112 : decode cX7_addStep 112 = .ok (.iconst 0, 1) := by decide +kernel
theorem dX7_addStep_113 : decode cX7_addStep 113 = .ok (.putfield 86, 3) := by decide +kernel
theorem dX7_addStep_116 : decode cX7_addStep 116 = .ok (.aload_n 0, 1) := by decide +kernel
theorem dX7_addStep_117 : decode cX7_addStep 117 = .ok (.getfield 86, 3) := by decide +kernel
theorem dX7_addStep_120 : decode cX7_addStep 120 = .ok (.ifCond .le 5, 3) := by decide +kernel
theorem dX7_addStep_123 : decode cX7_addStep 123 = .ok (.iconst 0, 1) := by decide +kernel
theorem dX7_addStep_124 : decode cX7_addStep 124 = .ok (.ireturn, 1) := by decide +kernel
theorem dX7_addStep_125 : decode cX7_addStep 125 = .ok (.aload_n 0, 1) := by decide +kernel
theorem dX7_addStep_126 : decode cX7_addStep 126 = .ok (.getfield 43, 3) := by decide +kernel
theorem dX7_addStep_129 : decode cX7_addStep 129 = .ok (.iload_n 1, 1) := by decide +kernel
theorem dX7_addStep_130 : decode cX7_addStep 130 = .ok (.iaload, 1) := by decide +kernel
theorem dX7_addStep_131 : decode cX7_addStep 131 = .ok (.istore 6, 2) := by decide +kernel
theorem dX7_addStep_133 : decode cX7_addStep 133 = .ok (.aload_n 0, 1) := by decide +kernel
theorem dX7_addStep_134 : decode cX7_addStep 134 = .ok (.getfield 11, 3) := by decide +kernel
theorem dX7_addStep_137 : decode cX7_addStep 137 = .ok (.iload_n 1, 1) := by decide +kernel
theorem dX7_addStep_138 : decode cX7_addStep 138 = .ok (.aaload, 1) := by decide +kernel
theorem dX7_addStep_139 : decode cX7_addStep 139 = .ok (.iload 6, 2) := by decide +kernel
theorem dX7_addStep_141 : decode cX7_addStep 141 = .ok (.iload_n 2, 1) := by decide +kernel
theorem dX7_addStep_142 : decode cX7_addStep 142 = .ok (.castore, 1) := by decide +kernel
theorem dX7_addStep_143 : decode cX7_addStep 143 = .ok (.aload_n 0, 1) := by decide +kernel
theorem dX7_addStep_144 : decode cX7_addStep 144 = .ok (.getfield 16, 3) := by decide +kernel
theorem dX7_addStep_147 : decode cX7_addStep 147 = .ok (.iload_n 1, 1) := by decide +kernel
theorem dX7_addStep_148 : decode cX7_addStep 148 = .ok (.aaload, 1) := by decide +kernel
theorem dX7_addStep_149 : decode cX7_addStep 149 = .ok (.iload 6, 2) := by decide +kernel
theorem dX7_addStep_151 : decode cX7_addStep 151 = .ok (.iload_n 3, 1) := by decide +kernel
theorem dX7_addStep_152 : decode cX7_addStep 152 = .ok (.iastore, 1) := by decide +kernel
theorem dX7_addStep_153 : decode cX7_addStep 153 = .ok (.aload_n 0, 1) := by decide +kernel
theorem dX7_addStep_154 : decode cX7_addStep 154 = .ok (.getfield 21, 3) := by decide +kernel
theorem dX7_addStep_157 : decode cX7_addStep 157 = .ok (.iload_n 1, 1) := by decide +kernel
theorem dX7_addStep_158 : decode cX7_addStep 158 = .ok (.aaload, 1) := by decide +kernel
theorem dX7_addStep_159 : decode cX7_addStep 159 = .ok (.iload 6, 2) := by decide +kernel
theorem dX7_addStep_161 : decode cX7_addStep 161 = .ok (.iload_n 2, 1) := by decide +kernel
theorem dX7_addStep_162 : decode cX7_addStep 162 = .ok (.bipush 116, 2) := by decide +kernel
theorem dX7_addStep_164 : decode cX7_addStep 164 = .ok (.if_icmp .ne 7, 3) := by decide +kernel
theorem dX7_addStep_167 : decode cX7_addStep 167 = .ok (.iconst 1, 1) := by decide +kernel
theorem dX7_addStep_168 : decode cX7_addStep 168 = .ok (.goto 4, 3) := by decide +kernel
theorem dX7_addStep_171 : decode cX7_addStep 171 = .ok (.iconst 0, 1) := by decide +kernel
theorem dX7_addStep_172 : decode cX7_addStep 172 = .ok (.bastore, 1) := by decide +kernel
theorem dX7_addStep_173 : decode cX7_addStep 173 = .ok (.aload_n 0, 1) := by decide +kernel
theorem dX7_addStep_174 : decode cX7_addStep 174 = .ok (.getfield 24, 3) := by decide +kernel
theorem dX7_addStep_177 : decode cX7_addStep 177 = .ok (.iload_n 1, 1) := by decide +kernel
theorem dX7_addStep_178 : decode cX7_addStep 178 = .ok (.aaload, 1) := by decide +kernel
theorem dX7_addStep_179 : decode cX7_addStep 179 = .ok (.iload 6, 2) := by decide +kernel
theorem dX7_addStep_181 : decode cX7_addStep 181 = .ok (.bipush 10, 2) := by decide +kernel
theorem dX7_addStep_183 : decode cX7_addStep 183 = .ok (.iastore, 1) := by decide +kernel
theorem dX7_addStep_184 : decode cX7_addStep 184 = .ok (.aload_n 0, 1) := by decide +kernel
theorem dX7_addStep_185 : decode cX7_addStep 185 = .ok (.getfield 43, 3) := by decide +kernel
theorem dX7_addStep_188 : decode cX7_addStep 188 = .ok (.iload_n 1, 1) := by decide +kernel
theorem dX7_addStep_189 : decode cX7_addStep 189 = .ok (.dup2, 1) := by decide +kernel
theorem dX7_addStep_190 : decode cX7_addStep 190 = .ok (.iaload, 1) := by decide +kernel
theorem dX7_addStep_191 : decode cX7_addStep 191 = .ok (.iconst 1, 1) := by decide +kernel
theorem dX7_addStep_192 : decode cX7_addStep 192 = .ok (.iadd, 1) := by decide +kernel
theorem dX7_addStep_193 : decode cX7_addStep 193 = .ok (.iastore, 1) := by decide +kernel
theorem dX7_addStep_194 : decode cX7_addStep 194 = .ok (.iload 6, 2) := by decide +kernel
theorem dX7_addStep_196 : decode cX7_addStep 196 = .ok (.ireturn, 1) := by decide +kernel
theorem dX7_isCondition_0 : decode cX7_isCondition 0 = .ok (.iload_n 2, 1) := by decide +kernel
theorem dX7_isCondition_1 : decode cX7_isCondition 1 = .ok (.bipush 100, 2) := by decide +kernel
theorem dX7_isCondition_3 : decode cX7_isCondition 3 = .ok (.if_icmp .eq 9, 3) := by decide +kernel
theorem dX7_isCondition_6 : decode cX7_isCondition 6 = .ok (.iload_n 2, 1) := by decide +kernel
theorem dX7_isCondition_7 : decode cX7_isCondition 7 = .ok (.bipush 108, 2) := by decide +kernel
theorem dX7_isCondition_9 : decode cX7_isCondition 9 = .ok (.if_icmp .ne 30, 3) := by decide +kernel
theorem dX7_isCondition_12 : decode cX7_isCondition 12 = .ok (.iload_n 3, 1) := by decide +kernel
theorem dX7_isCondition_13 : decode cX7_isCondition 13 = .ok (.iconst 0, 1) := by decide +kernel
theorem dX7_isCondition_14 : decode cX7_isCondition 14 = .ok (.iconst 3, 1) := by decide +kernel
theorem dX7_isCondition_15 : decode cX7_isCondition 15 = .ok (.invokestatic 92, 3) := by decide +kernel
theorem dX7_isCondition_18 : decode cX7_isCondition 18 = .ok (.ifCond .eq 19, 3) := by decide +kernel
theorem dX7_isCondition_21 : decode cX7_isCondition 21 = .ok (.iload 4, 2) := by decide +kernel
theorem dX7_isCondition_23 : decode cX7_isCondition 23 = .ok (.bipush (-99), 2) := by decide +kernel
theorem dX7_isCondition_25 : decode cX7_isCondition 25 = .ok (.bipush 99, 2) := by decide +kernel
theorem dX7_isCondition_27 : decode cX7_isCondition 27 = .ok (.invokestatic 92, 3) := by decide +kernel
theorem dX7_isCondition_30 : decode cX7_isCondition 30 = .ok (.ifCond .eq 7, 3) := by decide +kernel
theorem dX7_isCondition_33 : decode cX7_isCondition 33 = .ok (.iconst 1, 1) := by decide +kernel
theorem dX7_isCondition_34 : decode cX7_isCondition 34 = .ok (.goto 4, 3) := by decide +kernel
theorem dX7_isCondition_37 : decode cX7_isCondition 37 = .ok (.iconst 0, 1) := by decide +kernel
theorem dX7_isCondition_38 : decode cX7_isCondition 38 = .ok (.ireturn, 1) := by decide +kernel
theorem dX7_isCondition_39 : decode cX7_isCondition 39 = .ok (.iload_n 2, 1) := by decide +kernel
theorem dX7_isCondition_40 : decode cX7_isCondition 40 = .ok (.bipush 101, 2) := by decide +kernel
theorem dX7_isCondition_42 : decode cX7_isCondition 42 = .ok (.if_icmp .ne 13, 3) := by decide +kernel
theorem dX7_isCondition_45 : decode cX7_isCondition 45 = .ok (.iload_n 3, 1) := by decide +kernel
theorem dX7_isCondition_46 : decode cX7_isCondition 46 = .ok (.iconst 0, 1) := by decide +kernel
theorem dX7_isCondition_47 : decode cX7_isCondition 47 = .ok (.bipush 9, 2) := by decide +kernel
theorem dX7_isCondition_49 : decode cX7_isCondition 49 = .ok (.invokestatic 92, 3) := by decide +kernel
theorem dX7_isCondition_52 : decode cX7_isCondition 52 = .ok (.goto 40, 3) := by decide +kernel
theorem dX7_isCondition_55 : decode cX7_isCondition 55 = .ok (.iload_n 2, 1) := by decide +kernel
theorem dX7_isCondition_56 : decode cX7_isCondition 56 = .ok (.bipush 99, 2) := by decide +kernel
theorem dX7_isCondition_58 : decode cX7_isCondition 58 = .ok (.if_icmp .ne 12, 3) := by decide +kernel
theorem dX7_isCondition_61 : decode cX7_isCondition 61 = .ok (.aload_n 0, 1) := by decide +kernel
theorem dX7_isCondition_62 : decode cX7_isCondition 62 = .ok (.iload_n 1, 1) := by decide +kernel
theorem dX7_isCondition_63 : decode cX7_isCondition 63 = .ok (.iload_n 3, 1) := by decide +kernel
theorem dX7_isCondition_64 : decode cX7_isCondition 64 = .ok (.invokevirtual 106, 3) := by decide +kernel
theorem dX7_isCondition_67 : decode cX7_isCondition 67 = .ok (.goto 25, 3) := by decide +kernel
theorem dX7_isCondition_70 : decode cX7_isCondition 70 = .ok (.iload_n 2, 1) := by decide +kernel
theorem dX7_isCondition_71 : decode cX7_isCondition 71 = .ok (.bipush 116, 2) := by decide +kernel
theorem dX7_isCondition_73 : decode cX7_isCondition 73 = .ok (.if_icmp .ne 18, 3) := by decide +kernel
theorem dX7_isCondition_76 : decode cX7_isCondition 76 = .ok (.iload_n 3, 1) := by decide +kernel
theorem dX7_isCondition_77 : decode cX7_isCondition 77 = .ok (.iconst 0, 1) := by decide +kernel
theorem dX7_isCondition_78 : decode cX7_isCondition 78 = .ok (.sipush 999, 3) := by decide +kernel
theorem dX7_isCondition_81 : decode cX7_isCondition 81 = .ok (.invokestatic 92, 3) := by decide +kernel
theorem dX7_isCondition_84 : decode cX7_isCondition 84 = .ok (.ifCond .eq 7, 3) := by decide +kernel
theorem dX7_isCondition_87 : decode cX7_isCondition 87 = .ok (.iconst 1, 1) := by decide +kernel
theorem dX7_isCondition_88 : decode cX7_isCondition 88 = .ok (.goto 4, 3) := by decide +kernel
theorem dX7_isCondition_91 : decode cX7_isCondition 91 = .ok (.iconst 0, 1) := by decide +kernel
theorem dX7_isCondition_92 : decode cX7_isCondition 92 = .ok (.ireturn, 1) := by decide +kernel
theorem dX7_adds_0 : decode cX7_adds 0 = .ok (.iconst 3, 1) := by decide +kernel
theorem dX7_adds_1 : decode cX7_adds 1 = .ok (.iload_n 3, 1) := by decide +kernel
theorem dX7_adds_2 : decode cX7_adds 2 = .ok (.imul, 1) := by decide +kernel
theorem dX7_adds_3 : decode cX7_adds 3 = .ok (.aload_n 0, 1) := by decide +kernel
theorem dX7_adds_4 : decode cX7_adds 4 = .ok (.getfield 40, 3) := by decide +kernel
theorem dX7_adds_7 : decode cX7_adds 7 = .ok (.iload_n 1, 1) := by decide +kernel
theorem dX7_adds_8 : decode cX7_adds 8 = .ok (.aaload, 1) := by decide +kernel
theorem dX7_adds_9 : decode cX7_adds 9 = .ok (.iload_n 2, 1) := by decide +kernel
theorem dX7_adds_10 : decode cX7_adds 10 = .ok (.aaload, 1) := by decide +kernel
theorem dX7_adds_11 : decode cX7_adds 11 = .ok (.iload_n 3, 1) := by decide +kernel
theorem dX7_adds_12 : decode cX7_adds 12 = .ok (.iaload, 1) := by decide +kernel
theorem dX7_adds_13 : decode cX7_adds 13 = .ok (.iadd, 1) := by decide +kernel
theorem dX7_adds_14 : decode cX7_adds 14 = .ok (.istore 7, 2) := by decide +kernel
theorem dX7_adds_16 : decode cX7_adds 16 = .ok (.aload_n 0, 1) := by decide +kernel
theorem dX7_adds_17 : decode cX7_adds 17 = .ok (.getfield 29, 3) := by decide +kernel
theorem dX7_adds_20 : decode cX7_adds 20 = .ok (.iload_n 1, 1) := by decide +kernel
theorem dX7_adds_21 : decode cX7_adds 21 = .ok (.aaload, 1) := by decide +kernel
theorem dX7_adds_22 : decode cX7_adds 22 = .ok (.iload_n 2, 1) := by decide +kernel
theorem dX7_adds_23 : decode cX7_adds 23 = .ok (.aaload, 1) := by decide +kernel
theorem dX7_adds_24 : decode cX7_adds 24 = .ok (.iload 7, 2) := by decide +kernel
theorem dX7_adds_26 : decode cX7_adds 26 = .ok (.iload 4, 2) := by decide +kernel
theorem dX7_adds_28 : decode cX7_adds 28 = .ok (.castore, 1) := by decide +kernel
theorem dX7_adds_29 : decode cX7_adds 29 = .ok (.aload_n 0, 1) := by decide +kernel
theorem dX7_adds_30 : decode cX7_adds 30 = .ok (.getfield 34, 3) := by decide +kernel
theorem dX7_adds_33 : decode cX7_adds 33 = .ok (.iload_n 1, 1) := by decide +kernel
theorem dX7_adds_34 : decode cX7_adds 34 = .ok (.aaload, 1) := by decide +kernel
theorem dX7_adds_35 : decode cX7_adds 35 = .ok (.iload_n 2, 1) := by decide +kernel
theorem dX7_adds_36 : decode cX7_adds 36 = .ok (.aaload, 1) := by decide +kernel
theorem dX7_adds_37 : decode cX7_adds 37 = .ok (.iload 7, 2) := by decide +kernel
theorem dX7_adds_39 : decode cX7_adds 39 = .ok (.iload 5, 2) := by decide +kernel
theorem dX7_adds_41 : decode cX7_adds 41 = .ok (.iastore, 1) := by decide +kernel
theorem dX7_adds_42 : decode cX7_adds 42 = .ok (.aload_n 0, 1) := by decide +kernel
theorem dX7_adds_43 : decode cX7_adds 43 = .ok (.getfield 37, 3) := by decide +kernel
theorem dX7_adds_46 : decode cX7_adds 46 = .ok (.iload_n 1, 1) := by decide +kernel
theorem dX7_adds_47 : decode cX7_adds 47 = .ok (.aaload, 1) := by decide +kernel
theorem dX7_adds_48 : decode cX7_adds 48 = .ok (.iload_n 2, 1) := by decide +kernel
theorem dX7_adds_49 : decode cX7_adds 49 = .ok (.aaload, 1) := by decide +kernel
theorem dX7_adds_50 : decode cX7_adds 50 = .ok (.iload 7, 2) := by decide +kernel
theorem dX7_adds_52 : decode cX7_adds 52 = .ok (.iload 6, 2) := by decide +kernel
theorem dX7_adds_54 : decode cX7_adds 54 = .ok (.iastore, 1) := by decide +kernel
theorem dX7_adds_55 : decode cX7_adds 55 = .ok (.aload_n 0, 1) := by decide +kernel
theorem dX7_adds_56 : decode cX7_adds 56 = .ok (.getfield 40, 3) := by decide +kernel
theorem dX7_adds_59 : decode cX7_adds 59 = .ok (.iload_n 1, 1) := by decide +kernel
theorem dX7_adds_60 : decode cX7_adds 60 = .ok (.aaload, 1) := by decide +kernel
theorem dX7_adds_61 : decode cX7_adds 61 = .ok (.iload_n 2, 1) := by decide +kernel
theorem dX7_adds_62 : decode cX7_adds 62 = .ok (.aaload, 1) := by decide +kernel
theorem dX7_adds_63 : decode cX7_adds 63 = .ok (.iload_n 3, 1) := by decide +kernel
theorem dX7_adds_64 : decode cX7_adds 64 = .ok (.dup2, 1) := by decide +kernel
theorem dX7_adds_65 : decode cX7_adds 65 = .ok (.iaload, 1) := by decide +kernel
theorem dX7_adds_66 : decode cX7_adds 66 = .ok (.iconst 1, 1) := by decide +kernel
theorem dX7_adds_67 : decode cX7_adds 67 = .ok (.iadd, 1) := by decide +kernel
theorem dX7_adds_68 : decode cX7_adds 68 = .ok (.iastore, 1) := by decide +kernel
theorem dX7_adds_69 : decode cX7_adds 69 = .ok (.aload_n 0, 1) := by decide +kernel
theorem dX7_adds_70 : decode cX7_adds 70 = .ok (.getfield 40, 3) := by decide +kernel
theorem dX7_adds_73 : decode cX7_adds 73 = .ok (.iload_n 1, 1) := by decide +kernel
theorem dX7_adds_74 : decode cX7_adds 74 = .ok (.aaload, 1) := by decide +kernel
theorem dX7_adds_75 : decode cX7_adds 75 = .ok (.iload_n 2, 1) := by decide +kernel
theorem dX7_adds_76 : decode cX7_adds 76 = .ok (.aaload, 1) := by decide +kernel
theorem dX7_adds_77 : decode cX7_adds 77 = .ok (.iload_n 3, 1) := by decide +kernel
theorem dX7_adds_78 : decode cX7_adds 78 = .ok (.iaload, 1) := by decide +kernel
theorem dX7_adds_79 : decode cX7_adds 79 = .ok (.ireturn, 1) := by decide +kernel
theorem dX7_addEntry_0 : decode cX7_addEntry 0 = .ok (.aload_n 0, 1) := by decide +kernel
theorem dX7_addEntry_1 : decode cX7_addEntry 1 = .ok (.aload_n 0, 1) := by decide +kernel
theorem dX7_addEntry_2 : decode cX7_addEntry 2 = .ok (.iload_n 1, 1) := by decide +kernel
theorem dX7_addEntry_3 : decode cX7_addEntry 3 = .ok (.iload_n 2, 1) := by decide +kernel
theorem dX7_addEntry_4 : decode cX7_addEntry 4 = .ok (.invokevirtual 106, 3) := by decide +kernel
theorem dX7_addEntry_7 : decode cX7_addEntry 7 = .ok (.ifCond .ne 7, 3) := by decide +kernel
theorem dX7_addEntry_10 : decode cX7_addEntry 10 = .ok (.iconst 1, 1) := by decide +kernel
theorem dX7_addEntry_11 : decode cX7_addEntry 11 = .ok (.goto 48, 3) := by decide +kernel
theorem dX7_addEntry_14 : decode cX7_addEntry 14 = .ok (.aload_n 0, 1) := by decide +kernel
theorem dX7_addEntry_15 : decode cX7_addEntry 15 = .ok (.iload_n 1, 1) := by decide +kernel
theorem dX7_addEntry_16 : decode cX7_addEntry 16 = .ok (.iload_n 3, 1) := by decide +kernel
theorem dX7_addEntry_17 : decode cX7_addEntry 17 = .ok (.iload 4, 2) := by decide +kernel
theorem dX7_addEntry_19 : decode cX7_addEntry 19 = .ok (.iload 5, 2) := by decide +kernel
theorem dX7_addEntry_21 : decode cX7_addEntry 21 = .ok (.invokevirtual 114, 3) := by decide +kernel
theorem dX7_addEntry_24 : decode cX7_addEntry 24 = .ok (.ifCond .ne 7, 3) := by decide +kernel
theorem dX7_addEntry_27 : decode cX7_addEntry 27 = .ok (.iconst 2, 1) := by decide +kernel
theorem dX7_addEntry_28 : decode cX7_addEntry 28 = .ok (.goto 31, 3) := by decide +kernel
theorem dX7_addEntry_31 : decode cX7_addEntry 31 = .ok (.aload_n 0, 1) := by decide +kernel
theorem dX7_addEntry_32 : decode cX7_addEntry 32 = .ok (.getfield 47, 3) := by decide +kernel
theorem dX7_addEntry_35 : decode cX7_addEntry 35 = .ok (.iload_n 1, 1) := by decide +kernel
theorem dX7_addEntry_36 : decode cX7_addEntry 36 = .ok (.baload, 1) := by decide +kernel
theorem dX7_addEntry_37 : decode cX7_addEntry 37 = .ok (.ifCond .ne 17, 3) := by decide +kernel
theorem dX7_addEntry_40 : decode cX7_addEntry 40 = .ok (.aload_n 0, 1) := by decide +kernel
theorem dX7_addEntry_41 : decode cX7_addEntry 41 = .ok (.getfield 40, 3) := by decide +kernel
theorem dX7_addEntry_44 : decode cX7_addEntry 44 = .ok (.iload_n 1, 1) := by decide +kernel
theorem dX7_addEntry_45 : decode cX7_addEntry 45 = .ok (.aaload, 1) := by decide +kernel
theorem dX7_addEntry_46 : decode cX7_addEntry 46 = .ok (.iload_n 2, 1) := by decide +kernel
theorem dX7_addEntry_47 : decode cX7_addEntry 47 = .ok (.aaload, 1) := by decide +kernel
theorem dX7_addEntry_48 : decode cX7_addEntry 48 = .ok (.iconst 0, 1) := by decide +kernel
theorem dX7_addEntry_49 : decode cX7_addEntry 49 = .ok (.iaload, 1) := by decide +kernel
theorem dX7_addEntry_50 : decode cX7_addEntry 50 = .ok (.iconst 3, 1) := by decide +kernel
theorem dX7_addEntry_51 : decode cX7_addEntry 51 = .ok (.if_icmp .ne 7, 3) := by decide +kernel
theorem dX7_addEntry_54 : decode cX7_addEntry 54 = .ok (.iconst 3, 1) := by decide +kernel
theorem dX7_addEntry_55 : decode cX7_addEntry 55 = .ok (.goto 4, 3) := by decide +kernel
theorem dX7_addEntry_58 : decode cX7_addEntry 58 = .ok (.iconst 0, 1) := by decide +kernel
theorem dX7_addEntry_59 : decode cX7_addEntry 59 = .ok (.putfield 86, 3) := by decide +kernel
theorem dX7_addEntry_62 : decode cX7_addEntry 62 = .ok (.aload_n 0, 1) := by decide +kernel
theorem dX7_addEntry_63 : decode cX7_addEntry 63 = .ok (.getfield 86, 3) := by decide +kernel
theorem dX7_addEntry_66 : decode cX7_addEntry 66 = .ok (.ifCond .le 7, 3) := by decide +kernel
theorem dX7_addEntry_69 : decode cX7_addEntry 69 = .ok (.iconst 0, 1) := by decide +kernel
theorem dX7_addEntry_70 : decode cX7_addEntry 70 = .ok (.goto 15, 3) := by decide +kernel
theorem dX7_addEntry_73 : decode cX7_addEntry 73 = .ok (.aload_n 0, 1) := by decide +kernel
theorem dX7_addEntry_74 : decode cX7_addEntry 74 = .ok (.iload_n 1, 1) := by decide +kernel
theorem dX7_addEntry_75 : decode cX7_addEntry 75 = .ok (.iload_n 2, 1) := by decide +kernel
theorem dX7_addEntry_76 : decode cX7_addEntry 76 = .ok (.iconst 0, 1) := by decide +kernel
theorem dX7_addEntry_77 : decode cX7_addEntry 77 = .ok (.iload_n 3, 1) := by decide +kernel
theorem dX7_addEntry_78 : decode cX7_addEntry 78 = .ok (.iload 4, 2) := by decide +kernel
theorem dX7_addEntry_80 : decode cX7_addEntry 80 = .ok (.iload 5, 2) := by decide +kernel
theorem dX7_addEntry_82 : decode cX7_addEntry 82 = .ok (.invokevirtual 118, 3) := by decide +kernel
theorem dX7_addEntry_85 : decode cX7_addEntry 85 = .ok (.ireturn, 1) := by decide +kernel
theorem dX7_addExit_0 : decode cX7_addExit 0 = .ok (.aload_n 0, 1) := by decide +kernel
theorem dX7_addExit_1 : decode cX7_addExit 1 = .ok (.aload_n 0, 1) := by decide +kernel
theorem dX7_addExit_2 : decode cX7_addExit 2 = .ok (.iload_n 1, 1) := by decide +kernel
theorem dX7_addExit_3 : decode cX7_addExit 3 = .ok (.iload_n 2, 1) := by decide +kernel
theorem dX7_addExit_4 : decode cX7_addExit 4 = .ok (.invokevirtual 106, 3) := by decide +kernel
theorem dX7_addExit_7 : decode cX7_addExit 7 = .ok (.ifCond .ne 7, 3) := by decide +kernel
theorem dX7_addExit_10 : decode cX7_addExit 10 = .ok (.iconst 1, 1) := by decide +kernel
theorem dX7_addExit_11 : decode cX7_addExit 11 = .ok (.goto 65, 3) := by decide +kernel
theorem dX7_addExit_14 : decode cX7_addExit 14 = .ok (.aload_n 0, 1) := by decide +kernel
theorem dX7_addExit_15 : decode cX7_addExit 15 = .ok (.iload_n 1, 1) := by decide +kernel
theorem dX7_addExit_16 : decode cX7_addExit 16 = .ok (.iload_n 3, 1) := by decide +kernel
theorem dX7_addExit_17 : decode cX7_addExit 17 = .ok (.iload 4, 2) := by decide +kernel
theorem dX7_addExit_19 : decode cX7_addExit 19 = .ok (.iload 5, 2) := by decide +kernel
theorem dX7_addExit_21 : decode cX7_addExit 21 = .ok (.invokevirtual 114, 3) := by decide +kernel
theorem dX7_addExit_24 : decode cX7_addExit 24 = .ok (.ifCond .ne 7, 3) := by decide +kernel
theorem dX7_addExit_27 : decode cX7_addExit 27 = .ok (.iconst 2, 1) := by decide +kernel
theorem dX7_addExit_28 : decode cX7_addExit 28 = .ok (.goto 48, 3) := by decide +kernel
theorem dX7_addExit_31 : decode cX7_addExit 31 = .ok (.aload_n 0, 1) := by decide +kernel
theorem dX7_addExit_32 : decode cX7_addExit 32 = .ok (.getfield 11, 3) := by decide +kernel
theorem dX7_addExit_35 : decode cX7_addExit 35 = .ok (.iload_n 1, 1) := by decide +kernel
theorem dX7_addExit_36 : decode cX7_addExit 36 = .ok (.aaload, 1) := by decide +kernel
theorem dX7_addExit_37 : decode cX7_addExit 37 = .ok (.iload_n 2, 1) := by decide +kernel
theorem dX7_addExit_38 : decode cX7_addExit 38 = .ok (.caload, 1) := by decide +kernel
theorem dX7_addExit_39 : decode cX7_addExit 39 = .ok (.bipush 109, 2) := by decide +kernel
theorem dX7_addExit_41 : decode cX7_addExit 41 = .ok (.if_icmp .ne 7, 3) := by decide +kernel
theorem dX7_addExit_44 : decode cX7_addExit 44 = .ok (.iconst 3, 1) := by decide +kernel
theorem dX7_addExit_45 : decode cX7_addExit 45 = .ok (.goto 31, 3) := by decide +kernel
theorem dX7_addExit_48 : decode cX7_addExit 48 = .ok (.aload_n 0, 1) := by decide +kernel
theorem dX7_addExit_49 : decode cX7_addExit 49 = .ok (.getfield 47, 3) := by decide +kernel
theorem dX7_addExit_52 : decode cX7_addExit 52 = .ok (.iload_n 1, 1) := by decide +kernel
theorem dX7_addExit_53 : decode cX7_addExit 53 = .ok (.baload, 1) := by decide +kernel
theorem dX7_addExit_54 : decode cX7_addExit 54 = .ok (.ifCond .ne 17, 3) := by decide +kernel
theorem dX7_addExit_57 : decode cX7_addExit 57 = .ok (.aload_n 0, 1) := by decide +kernel
theorem dX7_addExit_58 : decode cX7_addExit 58 = .ok (.getfield 40, 3) := by decide +kernel
theorem dX7_addExit_61 : decode cX7_addExit 61 = .ok (.iload_n 1, 1) := by decide +kernel
theorem dX7_addExit_62 : decode cX7_addExit 62 = .ok (.aaload, 1) := by decide +kernel
theorem dX7_addExit_63 : decode cX7_addExit 63 = .ok (.iload_n 2, 1) := by decide +kernel
theorem dX7_addExit_64 : decode cX7_addExit 64 = .ok (.aaload, 1) := by decide +kernel
theorem dX7_addExit_65 : decode cX7_addExit 65 = .ok (.iconst 1, 1) := by decide +kernel
theorem dX7_addExit_66 : decode cX7_addExit 66 = .ok (.iaload, 1) := by decide +kernel
theorem dX7_addExit_67 : decode cX7_addExit 67 = .ok (.iconst 3, 1) := by decide +kernel
theorem dX7_addExit_68 : decode cX7_addExit 68 = .ok (.if_icmp .ne 7, 3) := by decide +kernel
theorem dX7_addExit_71 : decode cX7_addExit 71 = .ok (.iconst 4, 1) := by decide +kernel
theorem dX7_addExit_72 : decode cX7_addExit 72 = .ok (.goto 4, 3) := by decide +kernel
theorem dX7_addExit_75 : decode cX7_addExit 75 = .ok (.iconst 0, 1) := by decide +kernel
theorem dX7_addExit_76 : decode cX7_addExit 76 = .ok (.putfield 86, 3) := by decide +kernel
theorem dX7_addExit_79 : decode cX7_addExit 79 = .ok (.aload_n 0, 1) := by decide +kernel
theorem dX7_addExit_80 : decode cX7_addExit 80 = .ok (.getfield 86, 3) := by decide +kernel
theorem dX7_addExit_83 : decode cX7_addExit 83 = .ok (.ifCond .le 7, 3) := by decide +kernel
theorem dX7_addExit_86 : decode cX7_addExit 86 = .ok (.iconst 0, 1) := by decide +kernel
theorem dX7_addExit_87 : decode cX7_addExit 87 = .ok (.goto 15, 3) := by decide +kernel
theorem dX7_addExit_90 : decode cX7_addExit 90 = .ok (.aload_n 0, 1) := by decide +kernel
theorem dX7_addExit_91 : decode cX7_addExit 91 = .ok (.iload_n 1, 1) := by decide +kernel
theorem dX7_addExit_92 : decode cX7_addExit 92 = .ok (.iload_n 2, 1) := by decide +kernel
theorem dX7_addExit_93 : decode cX7_addExit 93 = .ok (.iconst 1, 1) := by decide +kernel
theorem dX7_addExit_94 : decode cX7_addExit 94 = .ok (.iload_n 3, 1) := by decide +kernel
theorem dX7_addExit_95 : decode cX7_addExit 95 = .ok (.iload 4, 2) := by decide +kernel
theorem dX7_addExit_97 : decode cX7_addExit 97 = .ok (.iload 5, 2) := by decide +kernel
theorem dX7_addExit_99 : decode cX7_addExit 99 = .ok (.invokevirtual 118, 3) := by decide +kernel
theorem dX7_addExit_102 : decode cX7_addExit 102 = .ok (.ireturn, 1) := by decide +kernel
theorem dX7_flag_0 : decode cX7_flag 0 = .ok (.aload_n 0, 1) := by decide +kernel
theorem dX7_flag_1 : decode cX7_flag 1 = .ok (.aload_n 0, 1) := by decide +kernel
theorem dX7_flag_2 : decode cX7_flag 2 = .ok (.iload_n 1, 1) := by decide +kernel
theorem dX7_flag_3 : decode cX7_flag 3 = .ok (.iload_n 2, 1) := by decide +kernel
theorem dX7_flag_4 : decode cX7_flag 4 = .ok (.invokevirtual 106, 3) := by decide +kernel
theorem dX7_flag_7 : decode cX7_flag 7 = .ok (.ifCond .ne 7, 3) := by decide +kernel
theorem dX7_flag_10 : decode cX7_flag 10 = .ok (.iconst 1, 1) := by decide +kernel
theorem dX7_flag_11 : decode cX7_flag 11 = .ok (.goto 33, 3) := by decide +kernel
theorem dX7_flag_14 : decode cX7_flag 14 = .ok (.aload_n 0, 1) := by decide +kernel
theorem dX7_flag_15 : decode cX7_flag 15 = .ok (.getfield 11, 3) := by decide +kernel
theorem dX7_flag_18 : decode cX7_flag 18 = .ok (.iload_n 1, 1) := by decide +kernel
theorem dX7_flag_19 : decode cX7_flag 19 = .ok (.aaload, 1) := by decide +kernel
theorem dX7_flag_20 : decode cX7_flag 20 = .ok (.iload_n 2, 1) := by decide +kernel
theorem dX7_flag_21 : decode cX7_flag 21 = .ok (.caload, 1) := by decide +kernel
theorem dX7_flag_22 : decode cX7_flag 22 = .ok (.iload_n 3, 1) := by decide +kernel
theorem dX7_flag_23 : decode cX7_flag 23 = .ok (.if_icmp .eq 7, 3) := by decide +kernel
theorem dX7_flag_26 : decode cX7_flag 26 = .ok (.iconst 2, 1) := by decide +kernel
theorem dX7_flag_27 : decode cX7_flag 27 = .ok (.goto 17, 3) := by decide +kernel
theorem dX7_flag_30 : decode cX7_flag 30 = .ok (.aload_n 0, 1) := by decide +kernel
theorem dX7_flag_31 : decode cX7_flag 31 = .ok (.getfield 47, 3) := by decide +kernel
theorem dX7_flag_34 : decode cX7_flag 34 = .ok (.iload_n 1, 1) := by decide +kernel
theorem dX7_flag_35 : decode cX7_flag 35 = .ok (.baload, 1) := by decide +kernel
theorem dX7_flag_36 : decode cX7_flag 36 = .ok (.ifCond .eq 7, 3) := by decide +kernel
theorem dX7_flag_39 : decode cX7_flag 39 = .ok (.iconst 3, 1) := by decide +kernel
theorem dX7_flag_40 : decode cX7_flag 40 = .ok (.goto 4, 3) := by decide +kernel
theorem dX7_flag_43 : decode cX7_flag 43 = .ok (.iconst 0, 1) := by decide +kernel
theorem dX7_flag_44 : decode cX7_flag 44 = .ok (.putfield 86, 3) := by decide +kernel
theorem dX7_flag_47 : decode cX7_flag 47 = .ok (.aload_n 0, 1) := by decide +kernel
theorem dX7_flag_48 : decode cX7_flag 48 = .ok (.getfield 86, 3) := by decide +kernel
theorem dX7_flag_51 : decode cX7_flag 51 = .ok (.ifCond .le 5, 3) := by decide +kernel
theorem dX7_flag_54 : decode cX7_flag 54 = .ok (.iconst 0, 1) := by decide +kernel
theorem dX7_flag_55 : decode cX7_flag 55 = .ok (.ireturn, 1) := by decide +kernel
theorem dX7_flag_56 : decode cX7_flag 56 = .ok (.aload_n 0, 1) := by decide +kernel
theorem dX7_flag_57 : decode cX7_flag 57 = .ok (.getfield 21, 3) := by decide +kernel
theorem dX7_flag_60 : decode cX7_flag 60 = .ok (.iload_n 1, 1) := by decide +kernel
theorem dX7_flag_61 : decode cX7_flag 61 = .ok (.aaload, 1) := by decide +kernel
theorem dX7_flag_62 : decode cX7_flag 62 = .ok (.iload_n 2, 1) := by decide +kernel
theorem dX7_flag_63 : decode cX7_flag 63 = .ok (.baload, 1) := by decide +kernel
theorem dX7_flag_64 : decode cX7_flag 64 = .ok (.istore 5, 2) := by decide +kernel
theorem dX7_flag_66 : decode cX7_flag 66 = .ok (.aload_n 0, 1) := by decide +kernel
theorem dX7_flag_67 : decode cX7_flag 67 = .ok (.getfield 21, 3) := by decide +kernel
theorem dX7_flag_70 : decode cX7_flag 70 = .ok (.iload_n 1, 1) := by decide +kernel
theorem dX7_flag_71 : decode cX7_flag 71 = .ok (.aaload, 1) := by decide +kernel
theorem dX7_flag_72 : decode cX7_flag 72 = .ok (.iload_n 2, 1) := by decide +kernel
theorem dX7_flag_73 : decode cX7_flag 73 = .ok (.iload 4, 2) := by decide +kernel
theorem dX7_flag_75 : decode cX7_flag 75 = .ok (.bastore, 1) := by decide +kernel
theorem dX7_flag_76 : decode cX7_flag 76 = .ok (.iload 5, 2) := by decide +kernel
theorem dX7_flag_78 : decode cX7_flag 78 = .ok (.ireturn, 1) := by decide +kernel
theorem dX7_setRequired_0 : decode cX7_setRequired 0 = .ok (.aload_n 0, 1) := by decide +kernel
theorem dX7_setRequired_1 : decode cX7_setRequired 1 = .ok (.iload_n 1, 1) := by decide +kernel
theorem dX7_setRequired_2 : decode cX7_setRequired 2 = .ok (.iload_n 2, 1) := by decide +kernel
theorem dX7_setRequired_3 : decode cX7_setRequired 3 = .ok (.bipush 116, 2) := by decide +kernel
theorem dX7_setRequired_5 : decode cX7_setRequired 5 = .ok (.iload_n 3, 1) := by decide +kernel
theorem dX7_setRequired_6 : decode cX7_setRequired 6 = .ok (.invokevirtual 122, 3) := by decide +kernel
theorem dX7_setRequired_9 : decode cX7_setRequired 9 = .ok (.ireturn, 1) := by decide +kernel
theorem dX7_setLimit_0 : decode cX7_setLimit 0 = .ok (.aload_n 0, 1) := by decide +kernel
theorem dX7_setLimit_1 : decode cX7_setLimit 1 = .ok (.aload_n 0, 1) := by decide +kernel
theorem dX7_setLimit_2 : decode cX7_setLimit 2 = .ok (.iload_n 1, 1) := by decide +kernel
theorem dX7_setLimit_3 : decode cX7_setLimit 3 = .ok (.iload_n 2, 1) := by decide +kernel
theorem dX7_setLimit_4 : decode cX7_setLimit 4 = .ok (.invokevirtual 106, 3) := by decide +kernel
theorem dX7_setLimit_7 : decode cX7_setLimit 7 = .ok (.ifCond .ne 7, 3) := by decide +kernel
theorem dX7_setLimit_10 : decode cX7_setLimit 10 = .ok (.iconst 1, 1) := by decide +kernel
theorem dX7_setLimit_11 : decode cX7_setLimit 11 = .ok (.goto 48, 3) := by decide +kernel
theorem dX7_setLimit_14 : decode cX7_setLimit 14 = .ok (.iload_n 3, 1) := by decide +kernel
theorem dX7_setLimit_15 : decode cX7_setLimit 15 = .ok (.iconst 1, 1) := by decide +kernel
theorem dX7_setLimit_16 : decode cX7_setLimit 16 = .ok (.bipush 99, 2) := by decide +kernel
theorem dX7_setLimit_18 : decode cX7_setLimit 18 = .ok (.invokestatic 92, 3) := by decide +kernel
theorem dX7_setLimit_21 : decode cX7_setLimit 21 = .ok (.ifCond .ne 7, 3) := by decide +kernel
theorem dX7_setLimit_24 : decode cX7_setLimit 24 = .ok (.iconst 2, 1) := by decide +kernel
theorem dX7_setLimit_25 : decode cX7_setLimit 25 = .ok (.goto 34, 3) := by decide +kernel
theorem dX7_setLimit_28 : decode cX7_setLimit 28 = .ok (.aload_n 0, 1) := by decide +kernel
theorem dX7_setLimit_29 : decode cX7_setLimit 29 = .ok (.getfield 11, 3) := by decide +kernel
theorem dX7_setLimit_32 : decode cX7_setLimit 32 = .ok (.iload_n 1, 1) := by decide +kernel
theorem dX7_setLimit_33 : decode cX7_setLimit 33 = .ok (.aaload, 1) := by decide +kernel
theorem dX7_setLimit_34 : decode cX7_setLimit 34 = .ok (.iload_n 2, 1) := by decide +kernel
theorem dX7_setLimit_35 : decode cX7_setLimit 35 = .ok (.caload, 1) := by decide +kernel
theorem dX7_setLimit_36 : decode cX7_setLimit 36 = .ok (.bipush 116, 2) := by decide +kernel
theorem dX7_setLimit_38 : decode cX7_setLimit 38 = .ok (.if_icmp .eq 7, 3) := by decide +kernel
theorem dX7_setLimit_41 : decode cX7_setLimit 41 = .ok (.iconst 3, 1) := by decide +kernel
theorem dX7_setLimit_42 : decode cX7_setLimit 42 = .ok (.goto 17, 3) := by decide +kernel
theorem dX7_setLimit_45 : decode cX7_setLimit 45 = .ok (.aload_n 0, 1) := by decide +kernel
theorem dX7_setLimit_46 : decode cX7_setLimit 46 = .ok (.getfield 47, 3) := by decide +kernel
theorem dX7_setLimit_49 : decode cX7_setLimit 49 = .ok (.iload_n 1, 1) := by decide +kernel
theorem dX7_setLimit_50 : decode cX7_setLimit 50 = .ok (.baload, 1) := by decide +kernel
theorem dX7_setLimit_51 : decode cX7_setLimit 51 = .ok (.ifCond .eq 7, 3) := by decide +kernel
theorem dX7_setLimit_54 : decode cX7_setLimit 54 = .ok (.iconst 4, 1) := by decide +kernel
theorem dX7_setLimit_55 : decode cX7_setLimit 55 = .ok (.goto 4, 3) := by decide +kernel
theorem dX7_setLimit_58 : decode cX7_setLimit 58 = .ok (.iconst 0, 1) := by decide +kernel
theorem dX7_setLimit_59 : decode cX7_setLimit 59 = .ok (.putfield 86, 3) := by decide +kernel
theorem dX7_setLimit_62 : decode cX7_setLimit 62 = .ok (.aload_n 0, 1) := by decide +kernel
theorem dX7_setLimit_63 : decode cX7_setLimit 63 = .ok (.getfield 86, 3) := by decide +kernel
theorem dX7_setLimit_66 : decode cX7_setLimit 66 = .ok (.ifCond .le 5, 3) := by decide +kernel
theorem dX7_setLimit_69 : decode cX7_setLimit 69 = .ok (.iconst 0, 1) := by decide +kernel
theorem dX7_setLimit_70 : decode cX7_setLimit 70 = .ok (.ireturn, 1) := by decide +kernel
theorem dX7_setLimit_71 : decode cX7_setLimit 71 = .ok (.aload_n 0, 1) := by decide +kernel
theorem dX7_setLimit_72 : decode cX7_setLimit 72 = .ok (.getfield 24, 3) := by decide +kernel
theorem dX7_setLimit_75 : decode cX7_setLimit 75 = .ok (.iload_n 1, 1) := by decide +kernel
theorem dX7_setLimit_76 : decode cX7_setLimit 76 = .ok (.aaload, 1) := by decide +kernel
theorem dX7_setLimit_77 : decode cX7_setLimit 77 = .ok (.iload_n 2, 1) := by decide +kernel
theorem dX7_setLimit_78 : decode cX7_setLimit 78 = .ok (.iaload, 1) := by decide +kernel
theorem dX7_setLimit_79 : decode cX7_setLimit 79 = .ok (.istore 4, 2) := by decide +kernel
theorem dX7_setLimit_81 : decode cX7_setLimit 81 = .ok (.aload_n 0, 1) := by decide +kernel
theorem dX7_setLimit_82 : decode cX7_setLimit 82 = .ok (.getfield 24, 3) := by decide +kernel
theorem dX7_setLimit_85 : decode cX7_setLimit 85 = .ok (.iload_n 1, 1) := by decide +kernel
theorem dX7_setLimit_86 : decode cX7_setLimit 86 = .ok (.aaload, 1) := by decide +kernel
theorem dX7_setLimit_87 : decode cX7_setLimit 87 = .ok (.iload_n 2, 1) := by decide +kernel
theorem dX7_setLimit_88 : decode cX7_setLimit 88 = .ok (.iload_n 3, 1) := by decide +kernel
theorem dX7_setLimit_89 : decode cX7_setLimit 89 = .ok (.iastore, 1) := by decide +kernel
theorem dX7_setLimit_90 : decode cX7_setLimit 90 = .ok (.iload 4, 2) := by decide +kernel
theorem dX7_setLimit_92 : decode cX7_setLimit 92 = .ok (.ireturn, 1) := by decide +kernel
theorem dX7_setAgain_0 : decode cX7_setAgain 0 = .ok (.aload_n 0, 1) := by decide +kernel
theorem dX7_setAgain_1 : decode cX7_setAgain 1 = .ok (.iload_n 1, 1) := by decide +kernel
theorem dX7_setAgain_2 : decode cX7_setAgain 2 = .ok (.iload_n 2, 1) := by decide +kernel
theorem dX7_setAgain_3 : decode cX7_setAgain 3 = .ok (.bipush 109, 2) := by decide +kernel
theorem dX7_setAgain_5 : decode cX7_setAgain 5 = .ok (.iload_n 3, 1) := by decide +kernel
theorem dX7_setAgain_6 : decode cX7_setAgain 6 = .ok (.invokevirtual 122, 3) := by decide +kernel
theorem dX7_setAgain_9 : decode cX7_setAgain 9 = .ok (.ireturn, 1) := by decide +kernel
theorem dX7_steps_0 : decode cX7_steps 0 = .ok (.aload_n 0, 1) := by decide +kernel
theorem dX7_steps_1 : decode cX7_steps 1 = .ok (.aload_n 0, 1) := by decide +kernel
theorem dX7_steps_2 : decode cX7_steps 2 = .ok (.iload_n 1, 1) := by decide +kernel
theorem dX7_steps_3 : decode cX7_steps 3 = .ok (.invokevirtual 96, 3) := by decide +kernel
theorem dX7_steps_6 : decode cX7_steps 6 = .ok (.ifCond .eq 7, 3) := by decide +kernel
theorem dX7_steps_9 : decode cX7_steps 9 = .ok (.iconst 0, 1) := by decide +kernel
theorem dX7_steps_10 : decode cX7_steps 10 = .ok (.goto 4, 3) := by decide +kernel
theorem dX7_steps_13 : decode cX7_steps 13 = .ok (.iconst 1, 1) := by decide +kernel
theorem dX7_steps_14 : decode cX7_steps 14 = .ok (.putfield 86, 3) := by decide +kernel
theorem dX7_steps_17 : decode cX7_steps 17 = .ok (.aload_n 0, 1) := by decide +kernel
theorem dX7_steps_18 : decode cX7_steps 18 = .ok (.getfield 86, 3) := by decide +kernel
theorem dX7_steps_21 : decode cX7_steps 21 = .ok (.ifCond .le 7, 3) := by decide +kernel
theorem dX7_steps_24 : decode cX7_steps 24 = .ok (.iconst 0, 1) := by decide +kernel
theorem dX7_steps_25 : decode cX7_steps 25 = .ok (.goto 9, 3) := by decide +kernel
theorem dX7_steps_28 : decode cX7_steps 28 = .ok (.aload_n 0, 1) := by decide +kernel
theorem dX7_steps_29 : decode cX7_steps 29 = .ok (.getfield 43, 3) := by decide +kernel
theorem dX7_steps_32 : decode cX7_steps 32 = .ok (.iload_n 1, 1) := by decide +kernel
theorem dX7_steps_33 : decode cX7_steps 33 = .ok (.iaload, 1) := by decide +kernel
theorem dX7_steps_34 : decode cX7_steps 34 = .ok (.ireturn, 1) := by decide +kernel
theorem dX7_isUsed_0 : decode cX7_isUsed 0 = .ok (.aload_n 0, 1) := by decide +kernel
theorem dX7_isUsed_1 : decode cX7_isUsed 1 = .ok (.aload_n 0, 1) := by decide +kernel
theorem dX7_isUsed_2 : decode cX7_isUsed 2 = .ok (.iload_n 1, 1) := by decide +kernel
theorem dX7_isUsed_3 : decode cX7_isUsed 3 = .ok (.invokevirtual 96, 3) := by decide +kernel
theorem dX7_isUsed_6 : decode cX7_isUsed 6 = .ok (.ifCond .eq 7, 3) := by decide +kernel
theorem dX7_isUsed_9 : decode cX7_isUsed 9 = .ok (.iconst 0, 1) := by decide +kernel
theorem dX7_isUsed_10 : decode cX7_isUsed 10 = .ok (.goto 4, 3) := by decide +kernel
theorem dX7_isUsed_13 : decode cX7_isUsed 13 = .ok (.iconst 1, 1) := by decide +kernel
theorem dX7_isUsed_14 : decode cX7_isUsed 14 = .ok (.putfield 86, 3) := by decide +kernel
theorem dX7_isUsed_17 : decode cX7_isUsed 17 = .ok (.aload_n 0, 1) := by decide +kernel
theorem dX7_isUsed_18 : decode cX7_isUsed 18 = .ok (.getfield 86, 3) := by decide +kernel
theorem dX7_isUsed_21 : decode cX7_isUsed 21 = .ok (.ifCond .ne 16, 3) := by decide +kernel
theorem dX7_isUsed_24 : decode cX7_isUsed 24 = .ok (.aload_n 0, 1) := by decide +kernel
theorem dX7_isUsed_25 : decode cX7_isUsed 25 = .ok (.getfield 47, 3) := by decide +kernel
theorem dX7_isUsed_28 : decode cX7_isUsed 28 = .ok (.iload_n 1, 1) := by decide +kernel
theorem dX7_isUsed_29 : decode cX7_isUsed 29 = .ok (.baload, 1) := by decide +kernel
theorem dX7_isUsed_30 : decode cX7_isUsed 30 = .ok (.ifCond .eq 7, 3) := by decide +kernel
theorem dX7_isUsed_33 : decode cX7_isUsed 33 = .ok (.iconst 1, 1) := by decide +kernel
theorem dX7_isUsed_34 : decode cX7_isUsed 34 = .ok (.goto 4, 3) := by decide +kernel
theorem dX7_isUsed_37 : decode cX7_isUsed 37 = .ok (.iconst 0, 1) := by decide +kernel
theorem dX7_isUsed_38 : decode cX7_isUsed 38 = .ok (.ireturn, 1) := by decide +kernel
theorem dX7_holdsNow_0 : decode cX7_holdsNow 0 = .ok (.aload_n 0, 1) := by decide +kernel
theorem dX7_holdsNow_1 : decode cX7_holdsNow 1 = .ok (.getfield 51, 3) := by decide +kernel
theorem dX7_holdsNow_4 : decode cX7_holdsNow 4 = .ok (.iload_n 1, 1) := by decide +kernel
theorem dX7_holdsNow_5 : decode cX7_holdsNow 5 = .ok (.iaload, 1) := by decide +kernel
theorem dX7_holdsNow_6 : decode cX7_holdsNow 6 = .ok (.istore 4, 2) := by decide +kernel
theorem dX7_holdsNow_8 : decode cX7_holdsNow 8 = .ok (.aload_n 0, 1) := by decide +kernel
theorem dX7_holdsNow_9 : decode cX7_holdsNow 9 = .ok (.getfield 34, 3) := by decide +kernel
theorem dX7_holdsNow_12 : decode cX7_holdsNow 12 = .ok (.iload 4, 2) := by decide +kernel
theorem dX7_holdsNow_14 : decode cX7_holdsNow 14 = .ok (.aaload, 1) := by decide +kernel
theorem dX7_holdsNow_15 : decode cX7_holdsNow 15 = .ok (.iload_n 2, 1) := by decide +kernel
theorem dX7_holdsNow_16 : decode cX7_holdsNow 16 = .ok (.aaload, 1) := by decide +kernel
theorem dX7_holdsNow_17 : decode cX7_holdsNow 17 = .ok (.iload_n 3, 1) := by decide +kernel
theorem dX7_holdsNow_18 : decode cX7_holdsNow 18 = .ok (.iaload, 1) := by decide +kernel
theorem dX7_holdsNow_19 : decode cX7_holdsNow 19 = .ok (.istore 5, 2) := by decide +kernel
theorem dX7_holdsNow_21 : decode cX7_holdsNow 21 = .ok (.aload_n 0, 1) := by decide +kernel
theorem dX7_holdsNow_22 : decode cX7_holdsNow 22 = .ok (.getfield 29, 3) := by decide +kernel
theorem dX7_holdsNow_25 : decode cX7_holdsNow 25 = .ok (.iload 4, 2) := by decide +kernel
theorem dX7_holdsNow_27 : decode cX7_holdsNow 27 = .ok (.aaload, 1) := by decide +kernel
theorem dX7_holdsNow_28 : decode cX7_holdsNow 28 = .ok (.iload_n 2, 1) := by decide +kernel
theorem dX7_holdsNow_29 : decode cX7_holdsNow 29 = .ok (.aaload, 1) := by decide +kernel
theorem dX7_holdsNow_30 : decode cX7_holdsNow 30 = .ok (.iload_n 3, 1) := by decide +kernel
theorem dX7_holdsNow_31 : decode cX7_holdsNow 31 = .ok (.caload, 1) := by decide +kernel
theorem dX7_holdsNow_32 : decode cX7_holdsNow 32 = .ok (.tableswitch 149 99 108 #[129, 56, 114, 149, 149, 149, 149, 149, 149, 85], 56) := by decide +kernel
theorem dX7_holdsNow_88 : decode cX7_holdsNow 88 = .ok (.aload_n 0, 1) := by decide +kernel
theorem dX7_holdsNow_89 : decode cX7_holdsNow 89 = .ok (.getfield 54, 3) := by decide +kernel
theorem dX7_holdsNow_92 : decode cX7_holdsNow 92 = .ok (.iload_n 1, 1) := by decide +kernel
theorem dX7_holdsNow_93 : decode cX7_holdsNow 93 = .ok (.aaload, 1) := by decide +kernel
theorem dX7_holdsNow_94 : decode cX7_holdsNow 94 = .ok (.iload 5, 2) := by decide +kernel
theorem dX7_holdsNow_96 : decode cX7_holdsNow 96 = .ok (.iaload, 1) := by decide +kernel
theorem dX7_holdsNow_97 : decode cX7_holdsNow 97 = .ok (.aload_n 0, 1) := by decide +kernel
theorem dX7_holdsNow_98 : decode cX7_holdsNow 98 = .ok (.getfield 37, 3) := by decide +kernel
theorem dX7_holdsNow_101 : decode cX7_holdsNow 101 = .ok (.iload 4, 2) := by decide +kernel
theorem dX7_holdsNow_103 : decode cX7_holdsNow 103 = .ok (.aaload, 1) := by decide +kernel
theorem dX7_holdsNow_104 : decode cX7_holdsNow 104 = .ok (.iload_n 2, 1) := by decide +kernel
theorem dX7_holdsNow_105 : decode cX7_holdsNow 105 = .ok (.aaload, 1) := by decide +kernel
theorem dX7_holdsNow_106 : decode cX7_holdsNow 106 = .ok (.iload_n 3, 1) := by decide +kernel
theorem dX7_holdsNow_107 : decode cX7_holdsNow 107 = .ok (.iaload, 1) := by decide +kernel
theorem dX7_holdsNow_108 : decode cX7_holdsNow 108 = .ok (.if_icmp .lt 7, 3) := by decide +kernel
theorem dX7_holdsNow_111 : decode cX7_holdsNow 111 = .ok (.iconst 1, 1) := by decide +kernel
theorem dX7_holdsNow_112 : decode cX7_holdsNow 112 = .ok (.goto 4, 3) := by decide +kernel
theorem dX7_holdsNow_115 : decode cX7_holdsNow 115 = .ok (.iconst 0, 1) := by decide +kernel
theorem dX7_holdsNow_116 : decode cX7_holdsNow 116 = .ok (.ireturn, 1) := by decide +kernel
theorem dX7_holdsNow_117 : decode cX7_holdsNow 117 = .ok (.aload_n 0, 1) := by decide +kernel
theorem dX7_holdsNow_118 : decode cX7_holdsNow 118 = .ok (.getfield 54, 3) := by decide +kernel
theorem dX7_holdsNow_121 : decode cX7_holdsNow 121 = .ok (.iload_n 1, 1) := by decide +kernel
theorem dX7_holdsNow_122 : decode cX7_holdsNow 122 = .ok (.aaload, 1) := by decide +kernel
theorem dX7_holdsNow_123 : decode cX7_holdsNow 123 = .ok (.iload 5, 2) := by decide +kernel
theorem dX7_holdsNow_125 : decode cX7_holdsNow 125 = .ok (.iaload, 1) := by decide +kernel
theorem dX7_holdsNow_126 : decode cX7_holdsNow 126 = .ok (.aload_n 0, 1) := by decide +kernel
theorem dX7_holdsNow_127 : decode cX7_holdsNow 127 = .ok (.getfield 37, 3) := by decide +kernel
theorem dX7_holdsNow_130 : decode cX7_holdsNow 130 = .ok (.iload 4, 2) := by decide +kernel
theorem dX7_holdsNow_132 : decode cX7_holdsNow 132 = .ok (.aaload, 1) := by decide +kernel
theorem dX7_holdsNow_133 : decode cX7_holdsNow 133 = .ok (.iload_n 2, 1) := by decide +kernel
theorem dX7_holdsNow_134 : decode cX7_holdsNow 134 = .ok (.aaload, 1) := by decide +kernel
theorem dX7_holdsNow_135 : decode cX7_holdsNow 135 = .ok (.iload_n 3, 1) := by decide +kernel
theorem dX7_holdsNow_136 : decode cX7_holdsNow 136 = .ok (.iaload, 1) := by decide +kernel
theorem dX7_holdsNow_137 : decode cX7_holdsNow 137 = .ok (.if_icmp .ge 7, 3) := by decide +kernel
theorem dX7_holdsNow_140 : decode cX7_holdsNow 140 = .ok (.iconst 1, 1) := by decide +kernel
theorem dX7_holdsNow_141 : decode cX7_holdsNow 141 = .ok (.goto 4, 3) := by decide +kernel
theorem dX7_holdsNow_144 : decode cX7_holdsNow 144 = .ok (.iconst 0, 1) := by decide +kernel
theorem dX7_holdsNow_145 : decode cX7_holdsNow 145 = .ok (.ireturn, 1) := by decide +kernel
theorem dX7_holdsNow_146 : decode cX7_holdsNow 146 = .ok (.aload_n 0, 1) := by decide +kernel
theorem dX7_holdsNow_147 : decode cX7_holdsNow 147 = .ok (.getfield 78, 3) := by decide +kernel
theorem dX7_holdsNow_150 : decode cX7_holdsNow 150 = .ok (.iload 5, 2) := by decide +kernel
theorem dX7_holdsNow_152 : decode cX7_holdsNow 152 = .ok (.if_icmp .ne 7, 3) := by decide +kernel
theorem dX7_holdsNow_155 : decode cX7_holdsNow 155 = .ok (.iconst 1, 1) := by decide +kernel
theorem dX7_holdsNow_156 : decode cX7_holdsNow 156 = .ok (.goto 4, 3) := by decide +kernel
theorem dX7_holdsNow_159 : decode cX7_holdsNow 159 = .ok (.iconst 0, 1) := by decide +kernel
theorem dX7_holdsNow_160 : decode cX7_holdsNow 160 = .ok (.ireturn, 1) := by decide +kernel
theorem dX7_holdsNow_161 : decode cX7_holdsNow 161 = .ok (.aload_n 0, 1) := by decide +kernel
theorem dX7_holdsNow_162 : decode cX7_holdsNow 162 = .ok (.getfield 60, 3) := by decide +kernel
theorem dX7_holdsNow_165 : decode cX7_holdsNow 165 = .ok (.iload_n 1, 1) := by decide +kernel
theorem dX7_holdsNow_166 : decode cX7_holdsNow 166 = .ok (.aaload, 1) := by decide +kernel
theorem dX7_holdsNow_167 : decode cX7_holdsNow 167 = .ok (.iload 5, 2) := by decide +kernel
theorem dX7_holdsNow_169 : decode cX7_holdsNow 169 = .ok (.caload, 1) := by decide +kernel
theorem dX7_holdsNow_170 : decode cX7_holdsNow 170 = .ok (.bipush 99, 2) := by decide +kernel
theorem dX7_holdsNow_172 : decode cX7_holdsNow 172 = .ok (.if_icmp .ne 7, 3) := by decide +kernel
theorem dX7_holdsNow_175 : decode cX7_holdsNow 175 = .ok (.iconst 1, 1) := by decide +kernel
theorem dX7_holdsNow_176 : decode cX7_holdsNow 176 = .ok (.goto 4, 3) := by decide +kernel
theorem dX7_holdsNow_179 : decode cX7_holdsNow 179 = .ok (.iconst 0, 1) := by decide +kernel
theorem dX7_holdsNow_180 : decode cX7_holdsNow 180 = .ok (.ireturn, 1) := by decide +kernel
theorem dX7_holdsNow_181 : decode cX7_holdsNow 181 = .ok (.aload_n 0, 1) := by decide +kernel
theorem dX7_holdsNow_182 : decode cX7_holdsNow 182 = .ok (.getfield 69, 3) := by decide +kernel
theorem dX7_holdsNow_185 : decode cX7_holdsNow 185 = .ok (.iload_n 1, 1) := by decide +kernel
theorem dX7_holdsNow_186 : decode cX7_holdsNow 186 = .ok (.iaload, 1) := by decide +kernel
theorem dX7_holdsNow_187 : decode cX7_holdsNow 187 = .ok (.iload 5, 2) := by decide +kernel
theorem dX7_holdsNow_189 : decode cX7_holdsNow 189 = .ok (.if_icmp .lt 7, 3) := by decide +kernel
theorem dX7_holdsNow_192 : decode cX7_holdsNow 192 = .ok (.iconst 1, 1) := by decide +kernel
theorem dX7_holdsNow_193 : decode cX7_holdsNow 193 = .ok (.goto 4, 3) := by decide +kernel
theorem dX7_holdsNow_196 : decode cX7_holdsNow 196 = .ok (.iconst 0, 1) := by decide +kernel
theorem dX7_holdsNow_197 : decode cX7_holdsNow 197 = .ok (.ireturn, 1) := by decide +kernel
theorem dX7_holdsOne_0 : decode cX7_holdsOne 0 = .ok (.iconst 0, 1) := by decide +kernel
theorem dX7_holdsOne_1 : decode cX7_holdsOne 1 = .ok (.istore 4, 2) := by decide +kernel
theorem dX7_holdsOne_3 : decode cX7_holdsOne 3 = .ok (.iconst 0, 1) := by decide +kernel
theorem dX7_holdsOne_4 : decode cX7_holdsOne 4 = .ok (.istore 5, 2) := by decide +kernel
theorem dX7_holdsOne_6 : decode cX7_holdsOne 6 = .ok (.iload 5, 2) := by decide +kernel
theorem dX7_holdsOne_8 : decode cX7_holdsOne 8 = .ok (.aload_n 0, 1) := by decide +kernel
theorem dX7_holdsOne_9 : decode cX7_holdsOne 9 = .ok (.getfield 40, 3) := by decide +kernel
theorem dX7_holdsOne_12 : decode cX7_holdsOne 12 = .ok (.aload_n 0, 1) := by decide +kernel
theorem dX7_holdsOne_13 : decode cX7_holdsOne 13 = .ok (.getfield 51, 3) := by decide +kernel
theorem dX7_holdsOne_16 : decode cX7_holdsOne 16 = .ok (.iload_n 1, 1) := by decide +kernel
theorem dX7_holdsOne_17 : decode cX7_holdsOne 17 = .ok (.iaload, 1) := by decide +kernel
theorem dX7_holdsOne_18 : decode cX7_holdsOne 18 = .ok (.aaload, 1) := by decide +kernel
theorem dX7_holdsOne_19 : decode cX7_holdsOne 19 = .ok (.iload_n 2, 1) := by decide +kernel
theorem dX7_holdsOne_20 : decode cX7_holdsOne 20 = .ok (.aaload, 1) := by decide +kernel
theorem dX7_holdsOne_21 : decode cX7_holdsOne 21 = .ok (.iload_n 3, 1) := by decide +kernel
theorem dX7_holdsOne_22 : decode cX7_holdsOne 22 = .ok (.iaload, 1) := by decide +kernel
theorem dX7_holdsOne_23 : decode cX7_holdsOne 23 = .ok (.if_icmp .ge 36, 3) := by decide +kernel
theorem dX7_holdsOne_26 : decode cX7_holdsOne 26 = .ok (.iload 4, 2) := by decide +kernel
theorem dX7_holdsOne_28 : decode cX7_holdsOne 28 = .ok (.ifCond .ne 18, 3) := by decide +kernel
theorem dX7_holdsOne_31 : decode cX7_holdsOne 31 = .ok (.aload_n 0, 1) := by decide +kernel
theorem dX7_holdsOne_32 : decode cX7_holdsOne 32 = .ok (.iload_n 1, 1) := by decide +kernel
theorem dX7_holdsOne_33 : decode cX7_holdsOne 33 = .ok (.iload_n 2, 1) := by decide +kernel
theorem dX7_holdsOne_34 : decode cX7_holdsOne 34 = .ok (.iconst 3, 1) := by decide +kernel
theorem dX7_holdsOne_35 : decode cX7_holdsOne 35 = .ok (.iload_n 3, 1) := by decide +kernel
theorem dX7_holdsOne_36 : decode cX7_holdsOne 36 = .ok (.imul, 1) := by decide +kernel
theorem dX7_holdsOne_37 : decode cX7_holdsOne 37 = .ok (.iload 5, 2) := by decide +kernel
theorem dX7_holdsOne_39 : decode cX7_holdsOne 39 = .ok (.iadd, 1) := by decide +kernel
theorem dX7_holdsOne_40 : decode cX7_holdsOne 40 = .ok (.invokevirtual 126, 3) := by decide +kernel
theorem dX7_holdsOne_43 : decode cX7_holdsOne 43 = .ok (.ifCond .eq 7, 3) := by decide +kernel
theorem dX7_holdsOne_46 : decode cX7_holdsOne 46 = .ok (.iconst 1, 1) := by decide +kernel
theorem dX7_holdsOne_47 : decode cX7_holdsOne 47 = .ok (.goto 4, 3) := by decide +kernel
theorem dX7_holdsOne_50 : decode cX7_holdsOne 50 = .ok (.iconst 0, 1) := by decide +kernel
theorem dX7_holdsOne_51 : decode cX7_holdsOne 51 = .ok (.istore 4, 2) := by decide +kernel
theorem dX7_holdsOne_53 : decode cX7_holdsOne 53 = .ok (.iinc 5 1, 3) := by decide +kernel
theorem dX7_holdsOne_56 : decode cX7_holdsOne 56 = .ok (.goto (-50), 3) := by decide +kernel
theorem dX7_holdsOne_59 : decode cX7_holdsOne 59 = .ok (.iload 4, 2) := by decide +kernel
theorem dX7_holdsOne_61 : decode cX7_holdsOne 61 = .ok (.ireturn, 1) := by decide +kernel
theorem dX7_closes_0 : decode cX7_closes 0 = .ok (.aload_n 0, 1) := by decide +kernel
theorem dX7_closes_1 : decode cX7_closes 1 = .ok (.getfield 51, 3) := by decide +kernel
theorem dX7_closes_4 : decode cX7_closes 4 = .ok (.iload_n 1, 1) := by decide +kernel
theorem dX7_closes_5 : decode cX7_closes 5 = .ok (.iaload, 1) := by decide +kernel
theorem dX7_closes_6 : decode cX7_closes 6 = .ok (.istore_n 3, 1) := by decide +kernel
theorem dX7_closes_7 : decode cX7_closes 7 = .ok (.iconst 0, 1) := by decide +kernel
theorem dX7_closes_8 : decode cX7_closes 8 = .ok (.istore 4, 2) := by decide +kernel
theorem dX7_closes_10 : decode cX7_closes 10 = .ok (.iload 4, 2) := by decide +kernel
theorem dX7_closes_12 : decode cX7_closes 12 = .ok (.aload_n 0, 1) := by decide +kernel
theorem dX7_closes_13 : decode cX7_closes 13 = .ok (.getfield 43, 3) := by decide +kernel
theorem dX7_closes_16 : decode cX7_closes 16 = .ok (.iload_n 3, 1) := by decide +kernel
theorem dX7_closes_17 : decode cX7_closes 17 = .ok (.iaload, 1) := by decide +kernel
theorem dX7_closes_18 : decode cX7_closes 18 = .ok (.if_icmp .ge 59, 3) := by decide +kernel
theorem dX7_closes_21 : decode cX7_closes 21 = .ok (.aload_n 0, 1) := by decide +kernel
theorem dX7_closes_22 : decode cX7_closes 22 = .ok (.getfield 16, 3) := by decide +kernel
theorem dX7_closes_25 : decode cX7_closes 25 = .ok (.iload_n 3, 1) := by decide +kernel
theorem dX7_closes_26 : decode cX7_closes 26 = .ok (.aaload, 1) := by decide +kernel
theorem dX7_closes_27 : decode cX7_closes 27 = .ok (.iload 4, 2) := by decide +kernel
theorem dX7_closes_29 : decode cX7_closes 29 = .ok (.iaload, 1) := by decide +kernel
theorem dX7_closes_30 : decode cX7_closes 30 = .ok (.iload_n 2, 1) := by decide +kernel
theorem dX7_closes_31 : decode cX7_closes 31 = .ok (.if_icmp .ne 40, 3) := by decide +kernel
theorem dX7_closes_34 : decode cX7_closes 34 = .ok (.aload_n 0, 1) := by decide +kernel
theorem dX7_closes_35 : decode cX7_closes 35 = .ok (.getfield 60, 3) := by decide +kernel
theorem dX7_closes_38 : decode cX7_closes 38 = .ok (.iload_n 1, 1) := by decide +kernel
theorem dX7_closes_39 : decode cX7_closes 39 = .ok (.aaload, 1) := by decide +kernel
theorem dX7_closes_40 : decode cX7_closes 40 = .ok (.iload 4, 2) := by decide +kernel
theorem dX7_closes_42 : decode cX7_closes 42 = .ok (.caload, 1) := by decide +kernel
theorem dX7_closes_43 : decode cX7_closes 43 = .ok (.bipush 105, 2) := by decide +kernel
theorem dX7_closes_45 : decode cX7_closes 45 = .ok (.if_icmp .eq 17, 3) := by decide +kernel
theorem dX7_closes_48 : decode cX7_closes 48 = .ok (.aload_n 0, 1) := by decide +kernel
theorem dX7_closes_49 : decode cX7_closes 49 = .ok (.getfield 60, 3) := by decide +kernel
theorem dX7_closes_52 : decode cX7_closes 52 = .ok (.iload_n 1, 1) := by decide +kernel
theorem dX7_closes_53 : decode cX7_closes 53 = .ok (.aaload, 1) := by decide +kernel
theorem dX7_closes_54 : decode cX7_closes 54 = .ok (.iload 4, 2) := by decide +kernel
theorem dX7_closes_56 : decode cX7_closes 56 = .ok (.caload, 1) := by decide +kernel
theorem dX7_closes_57 : decode cX7_closes 57 = .ok (.bipush 97, 2) := by decide +kernel
theorem dX7_closes_59 : decode cX7_closes 59 = .ok (.if_icmp .ne 12, 3) := by decide +kernel
theorem dX7_closes_62 : decode cX7_closes 62 = .ok (.aload_n 0, 1) := by decide +kernel
theorem dX7_closes_63 : decode cX7_closes 63 = .ok (.iload_n 1, 1) := by decide +kernel
theorem dX7_closes_64 : decode cX7_closes 64 = .ok (.iload 4, 2) := by decide +kernel
theorem dX7_closes_66 : decode cX7_closes 66 = .ok (.bipush 120, 2) := by decide +kernel
theorem dX7_closes_68 : decode cX7_closes 68 = .ok (.invokevirtual 129, 3) := by decide +kernel
theorem dX7_closes_71 : decode cX7_closes 71 = .ok (.iinc 4 1, 3) := by decide +kernel
theorem dX7_closes_74 : decode cX7_closes 74 = .ok (.goto (-64), 3) := by decide +kernel
theorem dX7_closes_77 : decode cX7_closes 77 = .ok (.return_, 1) := by decide +kernel
theorem dX7_becomes_0 : decode cX7_becomes 0 = .ok (.aload_n 0, 1) := by decide +kernel
theorem dX7_becomes_1 : decode cX7_becomes 1 = .ok (.getfield 60, 3) := by decide +kernel
theorem dX7_becomes_4 : decode cX7_becomes 4 = .ok (.iload_n 1, 1) := by decide +kernel
theorem dX7_becomes_5 : decode cX7_becomes 5 = .ok (.aaload, 1) := by decide +kernel
theorem dX7_becomes_6 : decode cX7_becomes 6 = .ok (.iload_n 2, 1) := by decide +kernel
theorem dX7_becomes_7 : decode cX7_becomes 7 = .ok (.iload_n 3, 1) := by decide +kernel
theorem dX7_becomes_8 : decode cX7_becomes 8 = .ok (.castore, 1) := by decide +kernel
theorem dX7_becomes_9 : decode cX7_becomes 9 = .ok (.aload_n 0, 1) := by decide +kernel
theorem dX7_becomes_10 : decode cX7_becomes 10 = .ok (.getfield 11, 3) := by decide +kernel
theorem dX7_becomes_13 : decode cX7_becomes 13 = .ok (.aload_n 0, 1) := by decide +kernel
theorem dX7_becomes_14 : decode cX7_becomes 14 = .ok (.getfield 51, 3) := by decide +kernel
theorem dX7_becomes_17 : decode cX7_becomes 17 = .ok (.iload_n 1, 1) := by decide +kernel
theorem dX7_becomes_18 : decode cX7_becomes 18 = .ok (.iaload, 1) := by decide +kernel
theorem dX7_becomes_19 : decode cX7_becomes 19 = .ok (.aaload, 1) := by decide +kernel
theorem dX7_becomes_20 : decode cX7_becomes 20 = .ok (.iload_n 2, 1) := by decide +kernel
theorem dX7_becomes_21 : decode cX7_becomes 21 = .ok (.caload, 1) := by decide +kernel
theorem dX7_becomes_22 : decode cX7_becomes 22 = .ok (.bipush 115, 2) := by decide +kernel
theorem dX7_becomes_24 : decode cX7_becomes 24 = .ok (.if_icmp .ne 21, 3) := by decide +kernel
theorem dX7_becomes_27 : decode cX7_becomes 27 = .ok (.iload_n 3, 1) := by decide +kernel
theorem dX7_becomes_28 : decode cX7_becomes 28 = .ok (.bipush 99, 2) := by decide +kernel
theorem dX7_becomes_30 : decode cX7_becomes 30 = .ok (.if_icmp .eq 9, 3) := by decide +kernel
theorem dX7_becomes_33 : decode cX7_becomes 33 = .ok (.iload_n 3, 1) := by decide +kernel
theorem dX7_becomes_34 : decode cX7_becomes 34 = .ok (.bipush 120, 2) := by decide +kernel
theorem dX7_becomes_36 : decode cX7_becomes 36 = .ok (.if_icmp .ne 9, 3) := by decide +kernel
theorem dX7_becomes_39 : decode cX7_becomes 39 = .ok (.aload_n 0, 1) := by decide +kernel
theorem dX7_becomes_40 : decode cX7_becomes 40 = .ok (.iload_n 1, 1) := by decide +kernel
theorem dX7_becomes_41 : decode cX7_becomes 41 = .ok (.iload_n 2, 1) := by decide +kernel
theorem dX7_becomes_42 : decode cX7_becomes 42 = .ok (.invokevirtual 133, 3) := by decide +kernel
theorem dX7_becomes_45 : decode cX7_becomes 45 = .ok (.return_, 1) := by decide +kernel
theorem dX7_isDone_0 : decode cX7_isDone 0 = .ok (.aload_n 0, 1) := by decide +kernel
theorem dX7_isDone_1 : decode cX7_isDone 1 = .ok (.getfield 51, 3) := by decide +kernel
theorem dX7_isDone_4 : decode cX7_isDone 4 = .ok (.iload_n 1, 1) := by decide +kernel
theorem dX7_isDone_5 : decode cX7_isDone 5 = .ok (.iaload, 1) := by decide +kernel
theorem dX7_isDone_6 : decode cX7_isDone 6 = .ok (.istore_n 3, 1) := by decide +kernel
theorem dX7_isDone_7 : decode cX7_isDone 7 = .ok (.iconst 0, 1) := by decide +kernel
theorem dX7_isDone_8 : decode cX7_isDone 8 = .ok (.istore 4, 2) := by decide +kernel
theorem dX7_isDone_10 : decode cX7_isDone 10 = .ok (.iconst 0, 1) := by decide +kernel
theorem dX7_isDone_11 : decode cX7_isDone 11 = .ok (.istore 5, 2) := by decide +kernel
theorem dX7_isDone_13 : decode cX7_isDone 13 = .ok (.iload 5, 2) := by decide +kernel
theorem dX7_isDone_15 : decode cX7_isDone 15 = .ok (.aload_n 0, 1) := by decide +kernel
theorem dX7_isDone_16 : decode cX7_isDone 16 = .ok (.getfield 43, 3) := by decide +kernel
theorem dX7_isDone_19 : decode cX7_isDone 19 = .ok (.iload_n 3, 1) := by decide +kernel
theorem dX7_isDone_20 : decode cX7_isDone 20 = .ok (.iaload, 1) := by decide +kernel
theorem dX7_isDone_21 : decode cX7_isDone 21 = .ok (.if_icmp .ge 107, 3) := by decide +kernel
theorem dX7_isDone_24 : decode cX7_isDone 24 = .ok (.aload_n 0, 1) := by decide +kernel
theorem dX7_isDone_25 : decode cX7_isDone 25 = .ok (.getfield 16, 3) := by decide +kernel
theorem dX7_isDone_28 : decode cX7_isDone 28 = .ok (.iload_n 3, 1) := by decide +kernel
theorem dX7_isDone_29 : decode cX7_isDone 29 = .ok (.aaload, 1) := by decide +kernel
theorem dX7_isDone_30 : decode cX7_isDone 30 = .ok (.iload 5, 2) := by decide +kernel
theorem dX7_isDone_32 : decode cX7_isDone 32 = .ok (.iaload, 1) := by decide +kernel
theorem dX7_isDone_33 : decode cX7_isDone 33 = .ok (.iload_n 2, 1) := by decide +kernel
theorem dX7_isDone_34 : decode cX7_isDone 34 = .ok (.if_icmp .ne 88, 3) := by decide +kernel
theorem dX7_isDone_37 : decode cX7_isDone 37 = .ok (.iinc 4 1, 3) := by decide +kernel
theorem dX7_isDone_40 : decode cX7_isDone 40 = .ok (.aload_n 0, 1) := by decide +kernel
theorem dX7_isDone_41 : decode cX7_isDone 41 = .ok (.getfield 60, 3) := by decide +kernel
theorem dX7_isDone_44 : decode cX7_isDone 44 = .ok (.iload_n 1, 1) := by decide +kernel
theorem dX7_isDone_45 : decode cX7_isDone 45 = .ok (.aaload, 1) := by decide +kernel
theorem dX7_isDone_46 : decode cX7_isDone 46 = .ok (.iload 5, 2) := by decide +kernel
theorem dX7_isDone_48 : decode cX7_isDone 48 = .ok (.caload, 1) := by decide +kernel
theorem dX7_isDone_49 : decode cX7_isDone 49 = .ok (.bipush 99, 2) := by decide +kernel
theorem dX7_isDone_51 : decode cX7_isDone 51 = .ok (.if_icmp .eq 57, 3) := by decide +kernel
theorem dX7_isDone_54 : decode cX7_isDone 54 = .ok (.aload_n 0, 1) := by decide +kernel
theorem dX7_isDone_55 : decode cX7_isDone 55 = .ok (.getfield 60, 3) := by decide +kernel
theorem dX7_isDone_58 : decode cX7_isDone 58 = .ok (.iload_n 1, 1) := by decide +kernel
theorem dX7_isDone_59 : decode cX7_isDone 59 = .ok (.aaload, 1) := by decide +kernel
theorem dX7_isDone_60 : decode cX7_isDone 60 = .ok (.iload 5, 2) := by decide +kernel
theorem dX7_isDone_62 : decode cX7_isDone 62 = .ok (.caload, 1) := by decide +kernel
theorem dX7_isDone_63 : decode cX7_isDone 63 = .ok (.bipush 120, 2) := by decide +kernel
theorem dX7_isDone_65 : decode cX7_isDone 65 = .ok (.if_icmp .eq 43, 3) := by decide +kernel
theorem dX7_isDone_68 : decode cX7_isDone 68 = .ok (.aload_n 0, 1) := by decide +kernel
theorem dX7_isDone_69 : decode cX7_isDone 69 = .ok (.getfield 60, 3) := by decide +kernel
theorem dX7_isDone_72 : decode cX7_isDone 72 = .ok (.iload_n 1, 1) := by decide +kernel
theorem dX7_isDone_73 : decode cX7_isDone 73 = .ok (.aaload, 1) := by decide +kernel
theorem dX7_isDone_74 : decode cX7_isDone 74 = .ok (.iload 5, 2) := by decide +kernel
theorem dX7_isDone_76 : decode cX7_isDone 76 = .ok (.caload, 1) := by decide +kernel
theorem dX7_isDone_77 : decode cX7_isDone 77 = .ok (.bipush 105, 2) := by decide +kernel
theorem dX7_isDone_79 : decode cX7_isDone 79 = .ok (.if_icmp .ne 33, 3) := by decide +kernel
theorem dX7_isDone_82 : decode cX7_isDone 82 = .ok (.aload_n 0, 1) := by decide +kernel
theorem dX7_isDone_83 : decode cX7_isDone 83 = .ok (.getfield 11, 3) := by decide +kernel
theorem dX7_isDone_86 : decode cX7_isDone 86 = .ok (.iload_n 3, 1) := by decide +kernel
theorem dX7_isDone_87 : decode cX7_isDone 87 = .ok (.aaload, 1) := by decide +kernel
theorem dX7_isDone_88 : decode cX7_isDone 88 = .ok (.iload 5, 2) := by decide +kernel
theorem dX7_isDone_90 : decode cX7_isDone 90 = .ok (.caload, 1) := by decide +kernel
theorem dX7_isDone_91 : decode cX7_isDone 91 = .ok (.bipush 116, 2) := by decide +kernel
theorem dX7_isDone_93 : decode cX7_isDone 93 = .ok (.if_icmp .ne 19, 3) := by decide +kernel
theorem dX7_isDone_96 : decode cX7_isDone 96 = .ok (.aload_n 0, 1) := by decide +kernel
theorem dX7_isDone_97 : decode cX7_isDone 97 = .ok (.getfield 21, 3) := by decide +kernel
theorem dX7_isDone_100 : decode cX7_isDone 100 = .ok (.iload_n 3, 1) := by decide +kernel
theorem dX7_isDone_101 : decode cX7_isDone 101 = .ok (.aaload, 1) := by decide +kernel
theorem dX7_isDone_102 : decode cX7_isDone 102 = .ok (.iload 5, 2) := by decide +kernel
theorem dX7_isDone_104 : decode cX7_isDone 104 = .ok (.baload, 1) := by decide +kernel
theorem dX7_isDone_105 : decode cX7_isDone 105 = .ok (.ifCond .ne 7, 3) := by decide +kernel
theorem dX7_isDone_108 : decode cX7_isDone 108 = .ok (.iconst 1, 1) := by decide +kernel
theorem dX7_isDone_109 : decode cX7_isDone 109 = .ok (.goto 4, 3) := by decide +kernel
theorem dX7_isDone_112 : decode cX7_isDone 112 = .ok (.iconst 0, 1) := by decide +kernel
theorem dX7_isDone_113 : decode cX7_isDone 113 = .ok (.istore 6, 2) := by decide +kernel
theorem dX7_isDone_115 : decode cX7_isDone 115 = .ok (.iload 6, 2) := by decide +kernel
theorem dX7_isDone_117 : decode cX7_isDone 117 = .ok (.ifCond .ne 5, 3) := by decide +kernel
theorem dX7_isDone_120 : decode cX7_isDone 120 = .ok (.iconst 0, 1) := by decide +kernel
theorem dX7_isDone_121 : decode cX7_isDone 121 = .ok (.ireturn, 1) := by decide +kernel
theorem dX7_isDone_122 : decode cX7_isDone 122 = .ok (.iinc 5 1, 3) := by decide +kernel
theorem dX7_isDone_125 : decode cX7_isDone 125 = .ok (.goto (-112), 3) := by decide +kernel
theorem dX7_isDone_128 : decode cX7_isDone 128 = .ok (.iload 4, 2) := by decide +kernel
theorem dX7_isDone_130 : decode cX7_isDone 130 = .ok (.ifCond .le 7, 3) := by decide +kernel
theorem dX7_isDone_133 : decode cX7_isDone 133 = .ok (.iconst 1, 1) := by decide +kernel
theorem dX7_isDone_134 : decode cX7_isDone 134 = .ok (.goto 4, 3) := by decide +kernel
theorem dX7_isDone_137 : decode cX7_isDone 137 = .ok (.iconst 0, 1) := by decide +kernel
theorem dX7_isDone_138 : decode cX7_isDone 138 = .ok (.ireturn, 1) := by decide +kernel
theorem dX7_looks_0 : decode cX7_looks 0 = .ok (.aload_n 0, 1) := by decide +kernel
theorem dX7_looks_1 : decode cX7_looks 1 = .ok (.getfield 51, 3) := by decide +kernel
theorem dX7_looks_4 : decode cX7_looks 4 = .ok (.iload_n 1, 1) := by decide +kernel
theorem dX7_looks_5 : decode cX7_looks 5 = .ok (.iaload, 1) := by decide +kernel
theorem dX7_looks_6 : decode cX7_looks 6 = .ok (.istore_n 3, 1) := by decide +kernel
theorem dX7_looks_7 : decode cX7_looks 7 = .ok (.aload_n 0, 1) := by decide +kernel
theorem dX7_looks_8 : decode cX7_looks 8 = .ok (.getfield 60, 3) := by decide +kernel
theorem dX7_looks_11 : decode cX7_looks 11 = .ok (.iload_n 1, 1) := by decide +kernel
theorem dX7_looks_12 : decode cX7_looks 12 = .ok (.aaload, 1) := by decide +kernel
theorem dX7_looks_13 : decode cX7_looks 13 = .ok (.iload_n 2, 1) := by decide +kernel
theorem dX7_looks_14 : decode cX7_looks 14 = .ok (.caload, 1) := by decide +kernel
theorem dX7_looks_15 : decode cX7_looks 15 = .ok (.istore 4, 2) := by decide +kernel
theorem dX7_looks_17 : decode cX7_looks 17 = .ok (.aload_n 0, 1) := by decide +kernel
theorem dX7_looks_18 : decode cX7_looks 18 = .ok (.getfield 16, 3) := by decide +kernel
theorem dX7_looks_21 : decode cX7_looks 21 = .ok (.iload_n 3, 1) := by decide +kernel
theorem dX7_looks_22 : decode cX7_looks 22 = .ok (.aaload, 1) := by decide +kernel
theorem dX7_looks_23 : decode cX7_looks 23 = .ok (.iload_n 2, 1) := by decide +kernel
theorem dX7_looks_24 : decode cX7_looks 24 = .ok (.iaload, 1) := by decide +kernel
theorem dX7_looks_25 : decode cX7_looks 25 = .ok (.istore 5, 2) := by decide +kernel
theorem dX7_looks_27 : decode cX7_looks 27 = .ok (.iload 4, 2) := by decide +kernel
theorem dX7_looks_29 : decode cX7_looks 29 = .ok (.bipush 97, 2) := by decide +kernel
theorem dX7_looks_31 : decode cX7_looks 31 = .ok (.if_icmp .ne 23, 3) := by decide +kernel
theorem dX7_looks_34 : decode cX7_looks 34 = .ok (.aload_n 0, 1) := by decide +kernel
theorem dX7_looks_35 : decode cX7_looks 35 = .ok (.iload_n 1, 1) := by decide +kernel
theorem dX7_looks_36 : decode cX7_looks 36 = .ok (.iload_n 2, 1) := by decide +kernel
theorem dX7_looks_37 : decode cX7_looks 37 = .ok (.iconst 1, 1) := by decide +kernel
theorem dX7_looks_38 : decode cX7_looks 38 = .ok (.invokevirtual 137, 3) := by decide +kernel
theorem dX7_looks_41 : decode cX7_looks 41 = .ok (.ifCond .eq 13, 3) := by decide +kernel
theorem dX7_looks_44 : decode cX7_looks 44 = .ok (.aload_n 0, 1) := by decide +kernel
theorem dX7_looks_45 : decode cX7_looks 45 = .ok (.iload_n 1, 1) := by decide +kernel
theorem dX7_looks_46 : decode cX7_looks 46 = .ok (.iload_n 2, 1) := by decide +kernel
theorem dX7_looks_47 : decode cX7_looks 47 = .ok (.bipush 120, 2) := by decide +kernel
theorem dX7_looks_49 : decode cX7_looks 49 = .ok (.invokevirtual 129, 3) := by decide +kernel
theorem dX7_looks_52 : decode cX7_looks 52 = .ok (.iconst 1, 1) := by decide +kernel
theorem dX7_looks_53 : decode cX7_looks 53 = .ok (.ireturn, 1) := by decide +kernel
theorem dX7_looks_54 : decode cX7_looks 54 = .ok (.iload 4, 2) := by decide +kernel
theorem dX7_looks_56 : decode cX7_looks 56 = .ok (.bipush 105, 2) := by decide +kernel
theorem dX7_looks_58 : decode cX7_looks 58 = .ok (.if_icmp .ne 88, 3) := by decide +kernel
theorem dX7_looks_61 : decode cX7_looks 61 = .ok (.aload_n 0, 1) := by decide +kernel
theorem dX7_looks_62 : decode cX7_looks 62 = .ok (.getfield 40, 3) := by decide +kernel
theorem dX7_looks_65 : decode cX7_looks 65 = .ok (.iload_n 3, 1) := by decide +kernel
theorem dX7_looks_66 : decode cX7_looks 66 = .ok (.aaload, 1) := by decide +kernel
theorem dX7_looks_67 : decode cX7_looks 67 = .ok (.iload_n 2, 1) := by decide +kernel
theorem dX7_looks_68 : decode cX7_looks 68 = .ok (.aaload, 1) := by decide +kernel
theorem dX7_looks_69 : decode cX7_looks 69 = .ok (.iconst 0, 1) := by decide +kernel
theorem dX7_looks_70 : decode cX7_looks 70 = .ok (.iaload, 1) := by decide +kernel
theorem dX7_looks_71 : decode cX7_looks 71 = .ok (.ifCond .eq 13, 3) := by decide +kernel
theorem dX7_looks_74 : decode cX7_looks 74 = .ok (.aload_n 0, 1) := by decide +kernel
theorem dX7_looks_75 : decode cX7_looks 75 = .ok (.iload_n 1, 1) := by decide +kernel
theorem dX7_looks_76 : decode cX7_looks 76 = .ok (.iload_n 2, 1) := by decide +kernel
theorem dX7_looks_77 : decode cX7_looks 77 = .ok (.iconst 0, 1) := by decide +kernel
theorem dX7_looks_78 : decode cX7_looks 78 = .ok (.invokevirtual 137, 3) := by decide +kernel
theorem dX7_looks_81 : decode cX7_looks 81 = .ok (.ifCond .eq 65, 3) := by decide +kernel
theorem dX7_looks_84 : decode cX7_looks 84 = .ok (.iload 5, 2) := by decide +kernel
theorem dX7_looks_86 : decode cX7_looks 86 = .ok (.iconst (-1), 1) := by decide +kernel
theorem dX7_looks_87 : decode cX7_looks 87 = .ok (.if_icmp .eq 17, 3) := by decide +kernel
theorem dX7_looks_90 : decode cX7_looks 90 = .ok (.aload_n 0, 1) := by decide +kernel
theorem dX7_looks_91 : decode cX7_looks 91 = .ok (.getfield 60, 3) := by decide +kernel
theorem dX7_looks_94 : decode cX7_looks 94 = .ok (.iload_n 1, 1) := by decide +kernel
theorem dX7_looks_95 : decode cX7_looks 95 = .ok (.aaload, 1) := by decide +kernel
theorem dX7_looks_96 : decode cX7_looks 96 = .ok (.iload 5, 2) := by decide +kernel
theorem dX7_looks_98 : decode cX7_looks 98 = .ok (.caload, 1) := by decide +kernel
theorem dX7_looks_99 : decode cX7_looks 99 = .ok (.bipush 97, 2) := by decide +kernel
theorem dX7_looks_101 : decode cX7_looks 101 = .ok (.if_icmp .ne 45, 3) := by decide +kernel
theorem dX7_looks_104 : decode cX7_looks 104 = .ok (.aload_n 0, 1) := by decide +kernel
theorem dX7_looks_105 : decode cX7_looks 105 = .ok (.getfield 66, 3) := by decide +kernel
theorem dX7_looks_108 : decode cX7_looks 108 = .ok (.iload_n 1, 1) := by decide +kernel
theorem dX7_looks_109 : decode cX7_looks 109 = .ok (.aaload, 1) := by decide +kernel
theorem dX7_looks_110 : decode cX7_looks 110 = .ok (.iload_n 2, 1) := by decide +kernel
theorem dX7_looks_111 : decode cX7_looks 111 = .ok (.dup2, 1) := by decide +kernel
theorem dX7_looks_112 : decode cX7_looks 112 = .ok (.iaload, 1) := by decide +kernel
theorem dX7_looks_113 : decode cX7_looks 113 = .ok (.iconst 1, 1) := by decide +kernel
theorem dX7_looks_114 : decode cX7_looks 114 = .ok (.iadd, 1) := by decide +kernel
theorem dX7_looks_115 : decode cX7_looks 115 = .ok (.iastore, 1) := by decide +kernel
theorem dX7_looks_116 : decode cX7_looks 116 = .ok (.aload_n 0, 1) := by decide +kernel
theorem dX7_looks_117 : decode cX7_looks 117 = .ok (.getfield 60, 3) := by decide +kernel
theorem dX7_looks_120 : decode cX7_looks 120 = .ok (.iload_n 1, 1) := by decide +kernel
theorem dX7_looks_121 : decode cX7_looks 121 = .ok (.aaload, 1) := by decide +kernel
theorem dX7_looks_122 : decode cX7_looks 122 = .ok (.iload_n 2, 1) := by decide +kernel
theorem dX7_looks_123 : decode cX7_looks 123 = .ok (.aload_n 0, 1) := by decide +kernel
theorem dX7_looks_124 : decode cX7_looks 124 = .ok (.getfield 11, 3) := by decide +kernel
theorem dX7_looks_127 : decode cX7_looks 127 = .ok (.iload_n 3, 1) := by decide +kernel
theorem dX7_looks_128 : decode cX7_looks 128 = .ok (.aaload, 1) := by decide +kernel
theorem dX7_looks_129 : decode cX7_looks 129 = .ok (.iload_n 2, 1) := by decide +kernel
theorem dX7_looks_130 : decode cX7_looks 130 = .ok (.caload, 1) := by decide +kernel
theorem dX7_looks_131 : decode cX7_looks 131 = .ok (.bipush 109, 2) := by decide +kernel
theorem dX7_looks_133 : decode cX7_looks 133 = .ok (.if_icmp .ne 8, 3) := by decide +kernel
theorem dX7_looks_136 : decode cX7_looks 136 = .ok (.bipush 99, 2) := by decide +kernel
theorem dX7_looks_138 : decode cX7_looks 138 = .ok (.goto 5, 3) := by decide +kernel
theorem dX7_looks_141 : decode cX7_looks 141 = .ok (.bipush 97, 2) := by decide +kernel
theorem dX7_looks_143 : decode cX7_looks 143 = .ok (.castore, 1) := by decide +kernel
theorem dX7_looks_144 : decode cX7_looks 144 = .ok (.iconst 1, 1) := by decide +kernel
theorem dX7_looks_145 : decode cX7_looks 145 = .ok (.ireturn, 1) := by decide +kernel
theorem dX7_looks_146 : decode cX7_looks 146 = .ok (.iload 4, 2) := by decide +kernel
theorem dX7_looks_148 : decode cX7_looks 148 = .ok (.bipush 97, 2) := by decide +kernel
theorem dX7_looks_150 : decode cX7_looks 150 = .ok (.if_icmp .ne 35, 3) := by decide +kernel
theorem dX7_looks_153 : decode cX7_looks 153 = .ok (.aload_n 0, 1) := by decide +kernel
theorem dX7_looks_154 : decode cX7_looks 154 = .ok (.getfield 11, 3) := by decide +kernel
theorem dX7_looks_157 : decode cX7_looks 157 = .ok (.iload_n 3, 1) := by decide +kernel
theorem dX7_looks_158 : decode cX7_looks 158 = .ok (.aaload, 1) := by decide +kernel
theorem dX7_looks_159 : decode cX7_looks 159 = .ok (.iload_n 2, 1) := by decide +kernel
theorem dX7_looks_160 : decode cX7_looks 160 = .ok (.caload, 1) := by decide +kernel
theorem dX7_looks_161 : decode cX7_looks 161 = .ok (.bipush 115, 2) := by decide +kernel
theorem dX7_looks_163 : decode cX7_looks 163 = .ok (.if_icmp .ne 22, 3) := by decide +kernel
theorem dX7_looks_166 : decode cX7_looks 166 = .ok (.aload_n 0, 1) := by decide +kernel
theorem dX7_looks_167 : decode cX7_looks 167 = .ok (.iload_n 1, 1) := by decide +kernel
theorem dX7_looks_168 : decode cX7_looks 168 = .ok (.iload_n 2, 1) := by decide +kernel
theorem dX7_looks_169 : decode cX7_looks 169 = .ok (.invokevirtual 140, 3) := by decide +kernel
theorem dX7_looks_172 : decode cX7_looks 172 = .ok (.ifCond .eq 13, 3) := by decide +kernel
theorem dX7_looks_175 : decode cX7_looks 175 = .ok (.aload_n 0, 1) := by decide +kernel
theorem dX7_looks_176 : decode cX7_looks 176 = .ok (.iload_n 1, 1) := by decide +kernel
theorem dX7_looks_177 : decode cX7_looks 177 = .ok (.iload_n 2, 1) := by decide +kernel
theorem dX7_looks_178 : decode cX7_looks 178 = .ok (.bipush 99, 2) := by decide +kernel
theorem dX7_looks_180 : decode cX7_looks 180 = .ok (.invokevirtual 129, 3) := by decide +kernel
theorem dX7_looks_183 : decode cX7_looks 183 = .ok (.iconst 1, 1) := by decide +kernel
theorem dX7_looks_184 : decode cX7_looks 184 = .ok (.ireturn, 1) := by decide +kernel
theorem dX7_looks_185 : decode cX7_looks 185 = .ok (.iload 4, 2) := by decide +kernel
theorem dX7_looks_187 : decode cX7_looks 187 = .ok (.bipush 99, 2) := by decide +kernel
theorem dX7_looks_189 : decode cX7_looks 189 = .ok (.if_icmp .ne 62, 3) := by decide +kernel
theorem dX7_looks_192 : decode cX7_looks 192 = .ok (.aload_n 0, 1) := by decide +kernel
theorem dX7_looks_193 : decode cX7_looks 193 = .ok (.getfield 11, 3) := by decide +kernel
theorem dX7_looks_196 : decode cX7_looks 196 = .ok (.iload_n 3, 1) := by decide +kernel
theorem dX7_looks_197 : decode cX7_looks 197 = .ok (.aaload, 1) := by decide +kernel
theorem dX7_looks_198 : decode cX7_looks 198 = .ok (.iload_n 2, 1) := by decide +kernel
theorem dX7_looks_199 : decode cX7_looks 199 = .ok (.caload, 1) := by decide +kernel
theorem dX7_looks_200 : decode cX7_looks 200 = .ok (.bipush 109, 2) := by decide +kernel
theorem dX7_looks_202 : decode cX7_looks 202 = .ok (.if_icmp .ne 49, 3) := by decide +kernel
theorem dX7_looks_205 : decode cX7_looks 205 = .ok (.aload_n 0, 1) := by decide +kernel
theorem dX7_looks_206 : decode cX7_looks 206 = .ok (.getfield 21, 3) := by decide +kernel
theorem dX7_looks_209 : decode cX7_looks 209 = .ok (.iload_n 3, 1) := by decide +kernel
theorem dX7_looks_210 : decode cX7_looks 210 = .ok (.aaload, 1) := by decide +kernel
theorem dX7_looks_211 : decode cX7_looks 211 = .ok (.iload_n 2, 1) := by decide +kernel
theorem dX7_looks_212 : decode cX7_looks 212 = .ok (.baload, 1) := by decide +kernel
theorem dX7_looks_213 : decode cX7_looks 213 = .ok (.ifCond .eq 38, 3) := by decide +kernel
theorem dX7_looks_216 : decode cX7_looks 216 = .ok (.aload_n 0, 1) := by decide +kernel
theorem dX7_looks_217 : decode cX7_looks 217 = .ok (.getfield 40, 3) := by decide +kernel
theorem dX7_looks_220 : decode cX7_looks 220 = .ok (.iload_n 3, 1) := by decide +kernel
theorem dX7_looks_221 : decode cX7_looks 221 = .ok (.aaload, 1) := by decide +kernel
theorem dX7_looks_222 : decode cX7_looks 222 = .ok (.iload_n 2, 1) := by decide +kernel
theorem dX7_looks_223 : decode cX7_looks 223 = .ok (.aaload, 1) := by decide +kernel
theorem dX7_looks_224 : decode cX7_looks 224 = .ok (.iconst 0, 1) := by decide +kernel
theorem dX7_looks_225 : decode cX7_looks 225 = .ok (.iaload, 1) := by decide +kernel
theorem dX7_looks_226 : decode cX7_looks 226 = .ok (.ifCond .le 25, 3) := by decide +kernel
theorem dX7_looks_229 : decode cX7_looks 229 = .ok (.aload_n 0, 1) := by decide +kernel
theorem dX7_looks_230 : decode cX7_looks 230 = .ok (.iload_n 1, 1) := by decide +kernel
theorem dX7_looks_231 : decode cX7_looks 231 = .ok (.iload_n 2, 1) := by decide +kernel
theorem dX7_looks_232 : decode cX7_looks 232 = .ok (.iconst 0, 1) := by decide +kernel
theorem dX7_looks_233 : decode cX7_looks 233 = .ok (.invokevirtual 137, 3) := by decide +kernel
theorem dX7_looks_236 : decode cX7_looks 236 = .ok (.ifCond .ne 15, 3) := by decide +kernel
theorem dX7_looks_239 : decode cX7_looks 239 = .ok (.aload_n 0, 1) := by decide +kernel
theorem dX7_looks_240 : decode cX7_looks 240 = .ok (.getfield 60, 3) := by decide +kernel
theorem dX7_looks_243 : decode cX7_looks 243 = .ok (.iload_n 1, 1) := by decide +kernel
theorem dX7_looks_244 : decode cX7_looks 244 = .ok (.aaload, 1) := by decide +kernel
theorem dX7_looks_245 : decode cX7_looks 245 = .ok (.iload_n 2, 1) := by decide +kernel
theorem dX7_looks_246 : decode cX7_looks 246 = .ok (.bipush 105, 2) := by decide +kernel
theorem dX7_looks_248 : decode cX7_looks 248 = .ok (.castore, 1) := by decide +kernel
theorem dX7_looks_249 : decode cX7_looks 249 = .ok (.iconst 1, 1) := by decide +kernel
theorem dX7_looks_250 : decode cX7_looks 250 = .ok (.ireturn, 1) := by decide +kernel
theorem dX7_looks_251 : decode cX7_looks 251 = .ok (.iconst 0, 1) := by decide +kernel
theorem dX7_looks_252 : decode cX7_looks 252 = .ok (.ireturn, 1) := by decide +kernel
theorem dX7_goes_0 : decode cX7_goes 0 = .ok (.aload_n 0, 1) := by decide +kernel
theorem dX7_goes_1 : decode cX7_goes 1 = .ok (.getfield 75, 3) := by decide +kernel
theorem dX7_goes_4 : decode cX7_goes 4 = .ok (.iload_n 1, 1) := by decide +kernel
theorem dX7_goes_5 : decode cX7_goes 5 = .ok (.dup2, 1) := by decide +kernel
theorem dX7_goes_6 : decode cX7_goes 6 = .ok (.iaload, 1) := by decide +kernel
theorem dX7_goes_7 : decode cX7_goes 7 = .ok (.iconst 1, 1) := by decide +kernel
theorem dX7_goes_8 : decode cX7_goes 8 = .ok (.iadd, 1) := by decide +kernel
theorem dX7_goes_9 : decode cX7_goes 9 = .ok (.iastore, 1) := by decide +kernel
theorem dX7_goes_10 : decode cX7_goes 10 = .ok (.aload_n 0, 1) := by decide +kernel
theorem dX7_goes_11 : decode cX7_goes 11 = .ok (.getfield 72, 3) := by decide +kernel
theorem dX7_goes_14 : decode cX7_goes 14 = .ok (.iload_n 1, 1) := by decide +kernel
theorem dX7_goes_15 : decode cX7_goes 15 = .ok (.iconst 0, 1) := by decide +kernel
theorem dX7_goes_16 : decode cX7_goes 16 = .ok (.iastore, 1) := by decide +kernel
theorem dX7_goes_17 : decode cX7_goes 17 = .ok (.iconst 1, 1) := by decide +kernel
theorem dX7_goes_18 : decode cX7_goes 18 = .ok (.istore_n 2, 1) := by decide +kernel
theorem dX7_goes_19 : decode cX7_goes 19 = .ok (.iload_n 2, 1) := by decide +kernel
theorem dX7_goes_20 : decode cX7_goes 20 = .ok (.ifCond .eq 83, 3) := by decide +kernel
theorem dX7_goes_23 : decode cX7_goes 23 = .ok (.aload_n 0, 1) := by decide +kernel
theorem dX7_goes_24 : decode cX7_goes 24 = .ok (.getfield 72, 3) := by decide +kernel
theorem dX7_goes_27 : decode cX7_goes 27 = .ok (.iload_n 1, 1) := by decide +kernel
theorem dX7_goes_28 : decode cX7_goes 28 = .ok (.iaload, 1) := by decide +kernel
theorem dX7_goes_29 : decode cX7_goes 29 = .ok (.bipush 20, 2) := by decide +kernel
theorem dX7_goes_31 : decode cX7_goes 31 = .ok (.if_icmp .ge 72, 3) := by decide +kernel
theorem dX7_goes_34 : decode cX7_goes 34 = .ok (.iconst 0, 1) := by decide +kernel
theorem dX7_goes_35 : decode cX7_goes 35 = .ok (.istore_n 2, 1) := by decide +kernel
theorem dX7_goes_36 : decode cX7_goes 36 = .ok (.iconst 0, 1) := by decide +kernel
theorem dX7_goes_37 : decode cX7_goes 37 = .ok (.istore_n 3, 1) := by decide +kernel
theorem dX7_goes_38 : decode cX7_goes 38 = .ok (.iload_n 3, 1) := by decide +kernel
theorem dX7_goes_39 : decode cX7_goes 39 = .ok (.aload_n 0, 1) := by decide +kernel
theorem dX7_goes_40 : decode cX7_goes 40 = .ok (.getfield 43, 3) := by decide +kernel
theorem dX7_goes_43 : decode cX7_goes 43 = .ok (.aload_n 0, 1) := by decide +kernel
theorem dX7_goes_44 : decode cX7_goes 44 = .ok (.getfield 51, 3) := by decide +kernel
theorem dX7_goes_47 : decode cX7_goes 47 = .ok (.iload_n 1, 1) := by decide +kernel
theorem dX7_goes_48 : decode cX7_goes 48 = .ok (.iaload, 1) := by decide +kernel
theorem dX7_goes_49 : decode cX7_goes 49 = .ok (.iaload, 1) := by decide +kernel
theorem dX7_goes_50 : decode cX7_goes 50 = .ok (.if_icmp .ge 32, 3) := by decide +kernel
theorem dX7_goes_53 : decode cX7_goes 53 = .ok (.aload_n 0, 1) := by decide +kernel
theorem dX7_goes_54 : decode cX7_goes 54 = .ok (.iload_n 1, 1) := by decide +kernel
theorem dX7_goes_55 : decode cX7_goes 55 = .ok (.iload_n 3, 1) := by decide +kernel
theorem dX7_goes_56 : decode cX7_goes 56 = .ok (.invokevirtual 143, 3) := by decide +kernel
theorem dX7_goes_59 : decode cX7_goes 59 = .ok (.istore 4, 2) := by decide +kernel
theorem dX7_goes_61 : decode cX7_goes 61 = .ok (.iload_n 2, 1) := by decide +kernel
theorem dX7_goes_62 : decode cX7_goes 62 = .ok (.ifCond .ne 8, 3) := by decide +kernel
theorem dX7_goes_65 : decode cX7_goes 65 = .ok (.iload 4, 2) := by decide +kernel
theorem dX7_goes_67 : decode cX7_goes 67 = .ok (.ifCond .eq 7, 3) := by decide +kernel
theorem dX7_goes_70 : decode cX7_goes 70 = .ok (.iconst 1, 1) := by decide +kernel
theorem dX7_goes_71 : decode cX7_goes 71 = .ok (.goto 4, 3) := by decide +kernel
theorem dX7_goes_74 : decode cX7_goes 74 = .ok (.iconst 0, 1) := by decide +kernel
theorem dX7_goes_75 : decode cX7_goes 75 = .ok (.istore_n 2, 1) := by decide +kernel
theorem dX7_goes_76 : decode cX7_goes 76 = .ok (.iinc 3 1, 3) := by decide +kernel
theorem dX7_goes_79 : decode cX7_goes 79 = .ok (.goto (-41), 3) := by decide +kernel
theorem dX7_goes_82 : decode cX7_goes 82 = .ok (.aload_n 0, 1) := by decide +kernel
theorem dX7_goes_83 : decode cX7_goes 83 = .ok (.getfield 72, 3) := by decide +kernel
theorem dX7_goes_86 : decode cX7_goes 86 = .ok (.iload_n 1, 1) := by decide +kernel
theorem dX7_goes_87 : decode cX7_goes 87 = .ok (.dup2, 1) := by decide +kernel
theorem dX7_goes_88 : decode cX7_goes 88 = .ok (.iaload, 1) := by decide +kernel
theorem dX7_goes_89 : decode cX7_goes 89 = .ok (.iload_n 2, 1) := by decide +kernel
theorem dX7_goes_90 : decode cX7_goes 90 = .ok (.ifCond .eq 7, 3) := by decide +kernel
theorem dX7_goes_93 : decode cX7_goes 93 = .ok (.iconst 1, 1) := by decide +kernel
theorem dX7_goes_94 : decode cX7_goes 94 = .ok (.goto 4, 3) := by decide +kernel
theorem dX7_goes_97 : decode cX7_goes 97 = .ok (.iconst 0, 1) := by decide +kernel
theorem dX7_goes_98 : decode cX7_goes 98 = .ok (.iadd, 1) := by decide +kernel
theorem dX7_goes_99 : decode cX7_goes 99 = .ok (.iastore, 1) := by decide +kernel
theorem dX7_goes_100 : decode cX7_goes 100 = .ok (.goto (-81), 3) := by decide +kernel
theorem dX7_goes_103 : decode cX7_goes 103 = .ok (.aload_n 0, 1) := by decide +kernel
theorem dX7_goes_104 : decode cX7_goes 104 = .ok (.iconst (-1), 1) := by decide +kernel
theorem dX7_goes_105 : decode cX7_goes 105 = .ok (.putfield 78, 3) := by decide +kernel
theorem dX7_goes_108 : decode cX7_goes 108 = .ok (.return_, 1) := by decide +kernel
theorem dX7_begin_0 : decode cX7_begin 0 = .ok (.aload_n 0, 1) := by decide +kernel
theorem dX7_begin_1 : decode cX7_begin 1 = .ok (.aload_n 0, 1) := by decide +kernel
theorem dX7_begin_2 : decode cX7_begin 2 = .ok (.iload_n 1, 1) := by decide +kernel
theorem dX7_begin_3 : decode cX7_begin 3 = .ok (.invokevirtual 96, 3) := by decide +kernel
theorem dX7_begin_6 : decode cX7_begin 6 = .ok (.ifCond .ne 7, 3) := by decide +kernel
theorem dX7_begin_9 : decode cX7_begin 9 = .ok (.iconst 1, 1) := by decide +kernel
theorem dX7_begin_10 : decode cX7_begin 10 = .ok (.goto 25, 3) := by decide +kernel
theorem dX7_begin_13 : decode cX7_begin 13 = .ok (.aload_n 0, 1) := by decide +kernel
theorem dX7_begin_14 : decode cX7_begin 14 = .ok (.getfield 43, 3) := by decide +kernel
theorem dX7_begin_17 : decode cX7_begin 17 = .ok (.iload_n 1, 1) := by decide +kernel
theorem dX7_begin_18 : decode cX7_begin 18 = .ok (.iaload, 1) := by decide +kernel
theorem dX7_begin_19 : decode cX7_begin 19 = .ok (.ifCond .eq 11, 3) := by decide +kernel
theorem dX7_begin_22 : decode cX7_begin 22 = .ok (.aload_n 0, 1) := by decide +kernel
theorem dX7_begin_23 : decode cX7_begin 23 = .ok (.getfield 100, 3) := by decide +kernel
theorem dX7_begin_26 : decode cX7_begin 26 = .ok (.iconst 4, 1) := by decide +kernel
theorem dX7_begin_27 : decode cX7_begin 27 = .ok (.if_icmp .ne 7, 3) := by decide +kernel
theorem dX7_begin_30 : decode cX7_begin 30 = .ok (.iconst 2, 1) := by decide +kernel
theorem dX7_begin_31 : decode cX7_begin 31 = .ok (.goto 4, 3) := by decide +kernel
theorem dX7_begin_34 : decode cX7_begin 34 = .ok (.iconst 0, 1) := by decide +kernel
theorem dX7_begin_35 : decode cX7_begin 35 = .ok (.putfield 86, 3) := by decide +kernel
theorem dX7_begin_38 : decode cX7_begin 38 = .ok (.aload_n 0, 1) := by decide +kernel
theorem dX7_begin_39 : decode cX7_begin 39 = .ok (.getfield 86, 3) := by decide +kernel
theorem dX7_begin_42 : decode cX7_begin 42 = .ok (.ifCond .le 5, 3) := by decide +kernel
theorem dX7_begin_45 : decode cX7_begin 45 = .ok (.iconst 0, 1) := by decide +kernel
theorem dX7_begin_46 : decode cX7_begin 46 = .ok (.ireturn, 1) := by decide +kernel
theorem dX7_begin_47 : decode cX7_begin 47 = .ok (.aload_n 0, 1) := by decide +kernel
theorem dX7_begin_48 : decode cX7_begin 48 = .ok (.getfield 100, 3) := by decide +kernel
theorem dX7_begin_51 : decode cX7_begin 51 = .ok (.istore_n 2, 1) := by decide +kernel
theorem dX7_begin_52 : decode cX7_begin 52 = .ok (.aload_n 0, 1) := by decide +kernel
theorem dX7_begin_53 : decode cX7_begin 53 = .ok (.dup, 1) := by decide +kernel
theorem dX7_begin_54 : decode cX7_begin 54 = .ok (.getfield 100, 3) := by decide +kernel
theorem dX7_begin_57 : decode cX7_begin 57 = .ok (.iconst 1, 1) := by decide +kernel
theorem dX7_begin_58 : decode cX7_begin 58 = .ok (.iadd, 1) := by decide +kernel
theorem dX7_begin_59 : decode cX7_begin 59 = .ok (.putfield 100, 3) := by decide +kernel
theorem dX7_begin_62 : decode cX7_begin 62 = .ok (.aload_n 0, 1) := by decide +kernel
theorem dX7_begin_63 : decode cX7_begin 63 = .ok (.getfield 51, 3) := by decide +kernel
theorem dX7_begin_66 : decode cX7_begin 66 = .ok (.iload_n 2, 1) := by decide +kernel
theorem dX7_begin_67 : decode cX7_begin 67 = .ok (.iload_n 1, 1) := by decide +kernel
theorem dX7_begin_68 : decode cX7_begin 68 = .ok (.iastore, 1) := by decide +kernel
theorem dX7_begin_69 : decode cX7_begin 69 = .ok (.aload_n 0, 1) := by decide +kernel
theorem dX7_begin_70 : decode cX7_begin 70 = .ok (.getfield 47, 3) := by decide +kernel
theorem dX7_begin_73 : decode cX7_begin 73 = .ok (.iload_n 1, 1) := by decide +kernel
theorem dX7_begin_74 : decode cX7_begin 74 = .ok (.iconst 1, 1) := by decide +kernel
theorem dX7_begin_75 : decode cX7_begin 75 = .ok (.bastore, 1) := by decide +kernel
theorem dX7_begin_76 : decode cX7_begin 76 = .ok (.iconst 0, 1) := by decide +kernel
theorem dX7_begin_77 : decode cX7_begin 77 = .ok (.istore_n 3, 1) := by decide +kernel
theorem dX7_begin_78 : decode cX7_begin 78 = .ok (.iload_n 3, 1) := by decide +kernel
theorem dX7_begin_79 : decode cX7_begin 79 = .ok (.bipush 8, 2) := by decide +kernel
theorem dX7_begin_81 : decode cX7_begin 81 = .ok (.if_icmp .ge 19, 3) := by decide +kernel
theorem dX7_begin_84 : decode cX7_begin 84 = .ok (.aload_n 0, 1) := by decide +kernel
theorem dX7_begin_85 : decode cX7_begin 85 = .ok (.getfield 60, 3) := by decide +kernel
theorem dX7_begin_88 : decode cX7_begin 88 = .ok (.iload_n 2, 1) := by decide +kernel
theorem dX7_begin_89 : decode cX7_begin 89 = .ok (.aaload, 1) := by decide +kernel
theorem dX7_begin_90 : decode cX7_begin 90 = .ok (.iload_n 3, 1) := by decide +kernel
theorem dX7_begin_91 : decode cX7_begin 91 = .ok (.bipush 105, 2) := by decide +kernel
theorem dX7_begin_93 : decode cX7_begin 93 = .ok (.castore, 1) := by decide +kernel
theorem dX7_begin_94 : decode cX7_begin 94 = .ok (.iinc 3 1, 3) := by decide +kernel
theorem dX7_begin_97 : decode cX7_begin 97 = .ok (.goto (-19), 3) := by decide +kernel
theorem dX7_begin_100 : decode cX7_begin 100 = .ok (.aload_n 0, 1) := by decide +kernel
theorem dX7_begin_101 : decode cX7_begin 101 = .ok (.iload_n 2, 1) := by decide +kernel
theorem dX7_begin_102 : decode cX7_begin 102 = .ok (.invokevirtual 146, 3) := by decide +kernel
theorem dX7_begin_105 : decode cX7_begin 105 = .ok (.iload_n 2, 1) := by decide +kernel
theorem dX7_begin_106 : decode cX7_begin 106 = .ok (.ireturn, 1) := by decide +kernel
theorem dX7_set_0 : decode cX7_set 0 = .ok (.aload_n 0, 1) := by decide +kernel
theorem dX7_set_1 : decode cX7_set 1 = .ok (.aload_n 0, 1) := by decide +kernel
theorem dX7_set_2 : decode cX7_set 2 = .ok (.iload_n 1, 1) := by decide +kernel
theorem dX7_set_3 : decode cX7_set 3 = .ok (.invokevirtual 103, 3) := by decide +kernel
theorem dX7_set_6 : decode cX7_set 6 = .ok (.ifCond .ne 7, 3) := by decide +kernel
theorem dX7_set_9 : decode cX7_set 9 = .ok (.iconst 1, 1) := by decide +kernel
theorem dX7_set_10 : decode cX7_set 10 = .ok (.goto 28, 3) := by decide +kernel
theorem dX7_set_13 : decode cX7_set 13 = .ok (.iload_n 2, 1) := by decide +kernel
theorem dX7_set_14 : decode cX7_set 14 = .ok (.iconst 0, 1) := by decide +kernel
theorem dX7_set_15 : decode cX7_set 15 = .ok (.iconst 3, 1) := by decide +kernel
theorem dX7_set_16 : decode cX7_set 16 = .ok (.invokestatic 92, 3) := by decide +kernel
theorem dX7_set_19 : decode cX7_set 19 = .ok (.ifCond .eq 14, 3) := by decide +kernel
theorem dX7_set_22 : decode cX7_set 22 = .ok (.iload_n 3, 1) := by decide +kernel
theorem dX7_set_23 : decode cX7_set 23 = .ok (.bipush (-99), 2) := by decide +kernel
theorem dX7_set_25 : decode cX7_set 25 = .ok (.bipush 99, 2) := by decide +kernel
theorem dX7_set_27 : decode cX7_set 27 = .ok (.invokestatic 92, 3) := by decide +kernel
theorem dX7_set_30 : decode cX7_set 30 = .ok (.ifCond .ne 7, 3) := by decide +kernel
theorem dX7_set_33 : decode cX7_set 33 = .ok (.iconst 2, 1) := by decide +kernel
theorem dX7_set_34 : decode cX7_set 34 = .ok (.goto 4, 3) := by decide +kernel
theorem dX7_set_37 : decode cX7_set 37 = .ok (.iconst 0, 1) := by decide +kernel
theorem dX7_set_38 : decode cX7_set 38 = .ok (.putfield 86, 3) := by decide +kernel
theorem dX7_set_41 : decode cX7_set 41 = .ok (.aload_n 0, 1) := by decide +kernel
theorem dX7_set_42 : decode cX7_set 42 = .ok (.getfield 86, 3) := by decide +kernel
theorem dX7_set_45 : decode cX7_set 45 = .ok (.ifCond .le 5, 3) := by decide +kernel
theorem dX7_set_48 : decode cX7_set 48 = .ok (.iconst 0, 1) := by decide +kernel
theorem dX7_set_49 : decode cX7_set 49 = .ok (.ireturn, 1) := by decide +kernel
theorem dX7_set_50 : decode cX7_set 50 = .ok (.aload_n 0, 1) := by decide +kernel
theorem dX7_set_51 : decode cX7_set 51 = .ok (.getfield 54, 3) := by decide +kernel
theorem dX7_set_54 : decode cX7_set 54 = .ok (.iload_n 1, 1) := by decide +kernel
theorem dX7_set_55 : decode cX7_set 55 = .ok (.aaload, 1) := by decide +kernel
theorem dX7_set_56 : decode cX7_set 56 = .ok (.iload_n 2, 1) := by decide +kernel
theorem dX7_set_57 : decode cX7_set 57 = .ok (.iaload, 1) := by decide +kernel
theorem dX7_set_58 : decode cX7_set 58 = .ok (.istore 4, 2) := by decide +kernel
theorem dX7_set_60 : decode cX7_set 60 = .ok (.aload_n 0, 1) := by decide +kernel
theorem dX7_set_61 : decode cX7_set 61 = .ok (.getfield 54, 3) := by decide +kernel
theorem dX7_set_64 : decode cX7_set 64 = .ok (.iload_n 1, 1) := by decide +kernel
theorem dX7_set_65 : decode cX7_set 65 = .ok (.aaload, 1) := by decide +kernel
theorem dX7_set_66 : decode cX7_set 66 = .ok (.iload_n 2, 1) := by decide +kernel
theorem dX7_set_67 : decode cX7_set 67 = .ok (.iload_n 3, 1) := by decide +kernel
theorem dX7_set_68 : decode cX7_set 68 = .ok (.iastore, 1) := by decide +kernel
theorem dX7_set_69 : decode cX7_set 69 = .ok (.aload_n 0, 1) := by decide +kernel
theorem dX7_set_70 : decode cX7_set 70 = .ok (.iload_n 1, 1) := by decide +kernel
theorem dX7_set_71 : decode cX7_set 71 = .ok (.invokevirtual 146, 3) := by decide +kernel
theorem dX7_set_74 : decode cX7_set 74 = .ok (.iload 4, 2) := by decide +kernel
theorem dX7_set_76 : decode cX7_set 76 = .ok (.ireturn, 1) := by decide +kernel
theorem dX7_keeps_0 : decode cX7_keeps 0 = .ok (.iconst 0, 1) := by decide +kernel
theorem dX7_keeps_1 : decode cX7_keeps 1 = .ok (.istore_n 2, 1) := by decide +kernel
theorem dX7_keeps_2 : decode cX7_keeps 2 = .ok (.iload_n 2, 1) := by decide +kernel
theorem dX7_keeps_3 : decode cX7_keeps 3 = .ok (.bipush 8, 2) := by decide +kernel
theorem dX7_keeps_5 : decode cX7_keeps 5 = .ok (.if_icmp .ge 23, 3) := by decide +kernel
theorem dX7_keeps_8 : decode cX7_keeps 8 = .ok (.aload_n 0, 1) := by decide +kernel
theorem dX7_keeps_9 : decode cX7_keeps 9 = .ok (.getfield 82, 3) := by decide +kernel
theorem dX7_keeps_12 : decode cX7_keeps 12 = .ok (.iload_n 2, 1) := by decide +kernel
theorem dX7_keeps_13 : decode cX7_keeps 13 = .ok (.aload_n 0, 1) := by decide +kernel
theorem dX7_keeps_14 : decode cX7_keeps 14 = .ok (.getfield 60, 3) := by decide +kernel
theorem dX7_keeps_17 : decode cX7_keeps 17 = .ok (.iload_n 1, 1) := by decide +kernel
theorem dX7_keeps_18 : decode cX7_keeps 18 = .ok (.aaload, 1) := by decide +kernel
theorem dX7_keeps_19 : decode cX7_keeps 19 = .ok (.iload_n 2, 1) := by decide +kernel
theorem dX7_keeps_20 : decode cX7_keeps 20 = .ok (.caload, 1) := by decide +kernel
theorem dX7_keeps_21 : decode cX7_keeps 21 = .ok (.castore, 1) := by decide +kernel
theorem dX7_keeps_22 : decode cX7_keeps 22 = .ok (.iinc 2 1, 3) := by decide +kernel
theorem dX7_keeps_25 : decode cX7_keeps 25 = .ok (.goto (-23), 3) := by decide +kernel
theorem dX7_keeps_28 : decode cX7_keeps 28 = .ok (.return_, 1) := by decide +kernel
theorem dX7_changed_0 : decode cX7_changed 0 = .ok (.iconst 0, 1) := by decide +kernel
theorem dX7_changed_1 : decode cX7_changed 1 = .ok (.istore_n 3, 1) := by decide +kernel
theorem dX7_changed_2 : decode cX7_changed 2 = .ok (.iconst 0, 1) := by decide +kernel
theorem dX7_changed_3 : decode cX7_changed 3 = .ok (.istore 4, 2) := by decide +kernel
theorem dX7_changed_5 : decode cX7_changed 5 = .ok (.iload 4, 2) := by decide +kernel
theorem dX7_changed_7 : decode cX7_changed 7 = .ok (.aload_n 0, 1) := by decide +kernel
theorem dX7_changed_8 : decode cX7_changed 8 = .ok (.getfield 43, 3) := by decide +kernel
theorem dX7_changed_11 : decode cX7_changed 11 = .ok (.aload_n 0, 1) := by decide +kernel
theorem dX7_changed_12 : decode cX7_changed 12 = .ok (.getfield 51, 3) := by decide +kernel
theorem dX7_changed_15 : decode cX7_changed 15 = .ok (.iload_n 1, 1) := by decide +kernel
theorem dX7_changed_16 : decode cX7_changed 16 = .ok (.iaload, 1) := by decide +kernel
theorem dX7_changed_17 : decode cX7_changed 17 = .ok (.iaload, 1) := by decide +kernel
theorem dX7_changed_18 : decode cX7_changed 18 = .ok (.if_icmp .ge 42, 3) := by decide +kernel
theorem dX7_changed_21 : decode cX7_changed 21 = .ok (.iload_n 3, 1) := by decide +kernel
theorem dX7_changed_22 : decode cX7_changed 22 = .ok (.iload 4, 2) := by decide +kernel
theorem dX7_changed_24 : decode cX7_changed 24 = .ok (.iload_n 2, 1) := by decide +kernel
theorem dX7_changed_25 : decode cX7_changed 25 = .ok (.if_icmp .eq 26, 3) := by decide +kernel
theorem dX7_changed_28 : decode cX7_changed 28 = .ok (.aload_n 0, 1) := by decide +kernel
theorem dX7_changed_29 : decode cX7_changed 29 = .ok (.getfield 60, 3) := by decide +kernel
theorem dX7_changed_32 : decode cX7_changed 32 = .ok (.iload_n 1, 1) := by decide +kernel
theorem dX7_changed_33 : decode cX7_changed 33 = .ok (.aaload, 1) := by decide +kernel
theorem dX7_changed_34 : decode cX7_changed 34 = .ok (.iload 4, 2) := by decide +kernel
theorem dX7_changed_36 : decode cX7_changed 36 = .ok (.caload, 1) := by decide +kernel
theorem dX7_changed_37 : decode cX7_changed 37 = .ok (.aload_n 0, 1) := by decide +kernel
theorem dX7_changed_38 : decode cX7_changed 38 = .ok (.getfield 82, 3) := by decide +kernel
theorem dX7_changed_41 : decode cX7_changed 41 = .ok (.iload 4, 2) := by decide +kernel
theorem dX7_changed_43 : decode cX7_changed 43 = .ok (.caload, 1) := by decide +kernel
theorem dX7_changed_44 : decode cX7_changed 44 = .ok (.if_icmp .eq 7, 3) := by decide +kernel
theorem dX7_changed_47 : decode cX7_changed 47 = .ok (.iconst 1, 1) := by decide +kernel
theorem dX7_changed_48 : decode cX7_changed 48 = .ok (.goto 4, 3) := by decide +kernel
theorem dX7_changed_51 : decode cX7_changed 51 = .ok (.iconst 0, 1) := by decide +kernel
theorem dX7_changed_52 : decode cX7_changed 52 = .ok (.iadd, 1) := by decide +kernel
theorem dX7_changed_53 : decode cX7_changed 53 = .ok (.istore_n 3, 1) := by decide +kernel
theorem dX7_changed_54 : decode cX7_changed 54 = .ok (.iinc 4 1, 3) := by decide +kernel
theorem dX7_changed_57 : decode cX7_changed 57 = .ok (.goto (-52), 3) := by decide +kernel
theorem dX7_changed_60 : decode cX7_changed 60 = .ok (.iload_n 3, 1) := by decide +kernel
theorem dX7_changed_61 : decode cX7_changed 61 = .ok (.ireturn, 1) := by decide +kernel
theorem dX7_event_0 : decode cX7_event 0 = .ok (.aload_n 0, 1) := by decide +kernel
theorem dX7_event_1 : decode cX7_event 1 = .ok (.aload_n 0, 1) := by decide +kernel
theorem dX7_event_2 : decode cX7_event 2 = .ok (.iload_n 1, 1) := by decide +kernel
theorem dX7_event_3 : decode cX7_event 3 = .ok (.invokevirtual 103, 3) := by decide +kernel
theorem dX7_event_6 : decode cX7_event 6 = .ok (.ifCond .ne 7, 3) := by decide +kernel
theorem dX7_event_9 : decode cX7_event 9 = .ok (.iconst 1, 1) := by decide +kernel
theorem dX7_event_10 : decode cX7_event 10 = .ok (.goto 18, 3) := by decide +kernel
theorem dX7_event_13 : decode cX7_event 13 = .ok (.iload_n 2, 1) := by decide +kernel
theorem dX7_event_14 : decode cX7_event 14 = .ok (.iconst 0, 1) := by decide +kernel
theorem dX7_event_15 : decode cX7_event 15 = .ok (.bipush 9, 2) := by decide +kernel
theorem dX7_event_17 : decode cX7_event 17 = .ok (.invokestatic 92, 3) := by decide +kernel
theorem dX7_event_20 : decode cX7_event 20 = .ok (.ifCond .ne 7, 3) := by decide +kernel
theorem dX7_event_23 : decode cX7_event 23 = .ok (.iconst 2, 1) := by decide +kernel
theorem dX7_event_24 : decode cX7_event 24 = .ok (.goto 4, 3) := by decide +kernel
theorem dX7_event_27 : decode cX7_event 27 = .ok (.iconst 0, 1) := by decide +kernel
theorem dX7_event_28 : decode cX7_event 28 = .ok (.putfield 86, 3) := by decide +kernel
theorem dX7_event_31 : decode cX7_event 31 = .ok (.aload_n 0, 1) := by decide +kernel
theorem dX7_event_32 : decode cX7_event 32 = .ok (.getfield 86, 3) := by decide +kernel
theorem dX7_event_35 : decode cX7_event 35 = .ok (.ifCond .le 5, 3) := by decide +kernel
theorem dX7_event_38 : decode cX7_event 38 = .ok (.iconst 0, 1) := by decide +kernel
theorem dX7_event_39 : decode cX7_event 39 = .ok (.ireturn, 1) := by decide +kernel
theorem dX7_event_40 : decode cX7_event 40 = .ok (.aload_n 0, 1) := by decide +kernel
theorem dX7_event_41 : decode cX7_event 41 = .ok (.iload_n 1, 1) := by decide +kernel
theorem dX7_event_42 : decode cX7_event 42 = .ok (.invokevirtual 150, 3) := by decide +kernel
theorem dX7_event_45 : decode cX7_event 45 = .ok (.aload_n 0, 1) := by decide +kernel
theorem dX7_event_46 : decode cX7_event 46 = .ok (.iload_n 2, 1) := by decide +kernel
theorem dX7_event_47 : decode cX7_event 47 = .ok (.putfield 78, 3) := by decide +kernel
theorem dX7_event_50 : decode cX7_event 50 = .ok (.aload_n 0, 1) := by decide +kernel
theorem dX7_event_51 : decode cX7_event 51 = .ok (.iload_n 1, 1) := by decide +kernel
theorem dX7_event_52 : decode cX7_event 52 = .ok (.invokevirtual 146, 3) := by decide +kernel
theorem dX7_event_55 : decode cX7_event 55 = .ok (.aload_n 0, 1) := by decide +kernel
theorem dX7_event_56 : decode cX7_event 56 = .ok (.iload_n 1, 1) := by decide +kernel
theorem dX7_event_57 : decode cX7_event 57 = .ok (.iconst (-1), 1) := by decide +kernel
theorem dX7_event_58 : decode cX7_event 58 = .ok (.invokevirtual 153, 3) := by decide +kernel
theorem dX7_event_61 : decode cX7_event 61 = .ok (.ireturn, 1) := by decide +kernel
theorem dX7_complete_0 : decode cX7_complete 0 = .ok (.aload_n 0, 1) := by decide +kernel
theorem dX7_complete_1 : decode cX7_complete 1 = .ok (.aload_n 0, 1) := by decide +kernel
theorem dX7_complete_2 : decode cX7_complete 2 = .ok (.iload_n 1, 1) := by decide +kernel
theorem dX7_complete_3 : decode cX7_complete 3 = .ok (.iload_n 2, 1) := by decide +kernel
theorem dX7_complete_4 : decode cX7_complete 4 = .ok (.invokevirtual 157, 3) := by decide +kernel
theorem dX7_complete_7 : decode cX7_complete 7 = .ok (.ifCond .ne 7, 3) := by decide +kernel
theorem dX7_complete_10 : decode cX7_complete 10 = .ok (.iconst 1, 1) := by decide +kernel
theorem dX7_complete_11 : decode cX7_complete 11 = .ok (.goto 43, 3) := by decide +kernel
theorem dX7_complete_14 : decode cX7_complete 14 = .ok (.aload_n 0, 1) := by decide +kernel
theorem dX7_complete_15 : decode cX7_complete 15 = .ok (.getfield 11, 3) := by decide +kernel
theorem dX7_complete_18 : decode cX7_complete 18 = .ok (.aload_n 0, 1) := by decide +kernel
theorem dX7_complete_19 : decode cX7_complete 19 = .ok (.getfield 51, 3) := by decide +kernel
theorem dX7_complete_22 : decode cX7_complete 22 = .ok (.iload_n 1, 1) := by decide +kernel
theorem dX7_complete_23 : decode cX7_complete 23 = .ok (.iaload, 1) := by decide +kernel
theorem dX7_complete_24 : decode cX7_complete 24 = .ok (.aaload, 1) := by decide +kernel
theorem dX7_complete_25 : decode cX7_complete 25 = .ok (.iload_n 2, 1) := by decide +kernel
theorem dX7_complete_26 : decode cX7_complete 26 = .ok (.caload, 1) := by decide +kernel
theorem dX7_complete_27 : decode cX7_complete 27 = .ok (.bipush 116, 2) := by decide +kernel
theorem dX7_complete_29 : decode cX7_complete 29 = .ok (.if_icmp .eq 7, 3) := by decide +kernel
theorem dX7_complete_32 : decode cX7_complete 32 = .ok (.iconst 2, 1) := by decide +kernel
theorem dX7_complete_33 : decode cX7_complete 33 = .ok (.goto 21, 3) := by decide +kernel
theorem dX7_complete_36 : decode cX7_complete 36 = .ok (.aload_n 0, 1) := by decide +kernel
theorem dX7_complete_37 : decode cX7_complete 37 = .ok (.getfield 60, 3) := by decide +kernel
theorem dX7_complete_40 : decode cX7_complete 40 = .ok (.iload_n 1, 1) := by decide +kernel
theorem dX7_complete_41 : decode cX7_complete 41 = .ok (.aaload, 1) := by decide +kernel
theorem dX7_complete_42 : decode cX7_complete 42 = .ok (.iload_n 2, 1) := by decide +kernel
theorem dX7_complete_43 : decode cX7_complete 43 = .ok (.caload, 1) := by decide +kernel
theorem dX7_complete_44 : decode cX7_complete 44 = .ok (.bipush 97, 2) := by decide +kernel
theorem dX7_complete_46 : decode cX7_complete 46 = .ok (.if_icmp .eq 7, 3) := by decide +kernel
theorem dX7_complete_49 : decode cX7_complete 49 = .ok (.iconst 3, 1) := by decide +kernel
theorem dX7_complete_50 : decode cX7_complete 50 = .ok (.goto 4, 3) := by decide +kernel
theorem dX7_complete_53 : decode cX7_complete 53 = .ok (.iconst 0, 1) := by decide +kernel
theorem dX7_complete_54 : decode cX7_complete 54 = .ok (.putfield 86, 3) := by decide +kernel
theorem dX7_complete_57 : decode cX7_complete 57 = .ok (.aload_n 0, 1) := by decide +kernel
theorem dX7_complete_58 : decode cX7_complete 58 = .ok (.getfield 86, 3) := by decide +kernel
theorem dX7_complete_61 : decode cX7_complete 61 = .ok (.ifCond .le 5, 3) := by decide +kernel
theorem dX7_complete_64 : decode cX7_complete 64 = .ok (.iconst 0, 1) := by decide +kernel
theorem dX7_complete_65 : decode cX7_complete 65 = .ok (.ireturn, 1) := by decide +kernel
theorem dX7_complete_66 : decode cX7_complete 66 = .ok (.aload_n 0, 1) := by decide +kernel
theorem dX7_complete_67 : decode cX7_complete 67 = .ok (.iload_n 1, 1) := by decide +kernel
theorem dX7_complete_68 : decode cX7_complete 68 = .ok (.invokevirtual 150, 3) := by decide +kernel
theorem dX7_complete_71 : decode cX7_complete 71 = .ok (.aload_n 0, 1) := by decide +kernel
theorem dX7_complete_72 : decode cX7_complete 72 = .ok (.getfield 60, 3) := by decide +kernel
theorem dX7_complete_75 : decode cX7_complete 75 = .ok (.iload_n 1, 1) := by decide +kernel
theorem dX7_complete_76 : decode cX7_complete 76 = .ok (.aaload, 1) := by decide +kernel
theorem dX7_complete_77 : decode cX7_complete 77 = .ok (.iload_n 2, 1) := by decide +kernel
theorem dX7_complete_78 : decode cX7_complete 78 = .ok (.bipush 99, 2) := by decide +kernel
theorem dX7_complete_80 : decode cX7_complete 80 = .ok (.castore, 1) := by decide +kernel
theorem dX7_complete_81 : decode cX7_complete 81 = .ok (.aload_n 0, 1) := by decide +kernel
theorem dX7_complete_82 : decode cX7_complete 82 = .ok (.iload_n 1, 1) := by decide +kernel
theorem dX7_complete_83 : decode cX7_complete 83 = .ok (.invokevirtual 146, 3) := by decide +kernel
theorem dX7_complete_86 : decode cX7_complete 86 = .ok (.aload_n 0, 1) := by decide +kernel
theorem dX7_complete_87 : decode cX7_complete 87 = .ok (.iload_n 1, 1) := by decide +kernel
theorem dX7_complete_88 : decode cX7_complete 88 = .ok (.iload_n 2, 1) := by decide +kernel
theorem dX7_complete_89 : decode cX7_complete 89 = .ok (.invokevirtual 153, 3) := by decide +kernel
theorem dX7_complete_92 : decode cX7_complete 92 = .ok (.ireturn, 1) := by decide +kernel
theorem dX7_setWaiting_0 : decode cX7_setWaiting 0 = .ok (.aload_n 0, 1) := by decide +kernel
theorem dX7_setWaiting_1 : decode cX7_setWaiting 1 = .ok (.aload_n 0, 1) := by decide +kernel
theorem dX7_setWaiting_2 : decode cX7_setWaiting 2 = .ok (.iload_n 1, 1) := by decide +kernel
theorem dX7_setWaiting_3 : decode cX7_setWaiting 3 = .ok (.invokevirtual 103, 3) := by decide +kernel
theorem dX7_setWaiting_6 : decode cX7_setWaiting 6 = .ok (.ifCond .eq 7, 3) := by decide +kernel
theorem dX7_setWaiting_9 : decode cX7_setWaiting 9 = .ok (.iconst 0, 1) := by decide +kernel
theorem dX7_setWaiting_10 : decode cX7_setWaiting 10 = .ok (.goto 4, 3) := by decide +kernel
theorem dX7_setWaiting_13 : decode cX7_setWaiting 13 = .ok (.iconst 1, 1) := by decide +kernel
theorem dX7_setWaiting_14 : decode cX7_setWaiting 14 = .ok (.putfield 86, 3) := by decide +kernel
theorem dX7_setWaiting_17 : decode cX7_setWaiting 17 = .ok (.aload_n 0, 1) := by decide +kernel
theorem dX7_setWaiting_18 : decode cX7_setWaiting 18 = .ok (.getfield 86, 3) := by decide +kernel
theorem dX7_setWaiting_21 : decode cX7_setWaiting 21 = .ok (.ifCond .le 5, 3) := by decide +kernel
theorem dX7_setWaiting_24 : decode cX7_setWaiting 24 = .ok (.iconst 0, 1) := by decide +kernel
theorem dX7_setWaiting_25 : decode cX7_setWaiting 25 = .ok (.ireturn, 1) := by decide +kernel
theorem dX7_setWaiting_26 : decode cX7_setWaiting 26 = .ok (.aload_n 0, 1) := by decide +kernel
theorem dX7_setWaiting_27 : decode cX7_setWaiting 27 = .ok (.getfield 57, 3) := by decide +kernel
theorem dX7_setWaiting_30 : decode cX7_setWaiting 30 = .ok (.iload_n 1, 1) := by decide +kernel
theorem dX7_setWaiting_31 : decode cX7_setWaiting 31 = .ok (.baload, 1) := by decide +kernel
theorem dX7_setWaiting_32 : decode cX7_setWaiting 32 = .ok (.istore_n 3, 1) := by decide +kernel
theorem dX7_setWaiting_33 : decode cX7_setWaiting 33 = .ok (.aload_n 0, 1) := by decide +kernel
theorem dX7_setWaiting_34 : decode cX7_setWaiting 34 = .ok (.getfield 57, 3) := by decide +kernel
theorem dX7_setWaiting_37 : decode cX7_setWaiting 37 = .ok (.iload_n 1, 1) := by decide +kernel
theorem dX7_setWaiting_38 : decode cX7_setWaiting 38 = .ok (.iload_n 2, 1) := by decide +kernel
theorem dX7_setWaiting_39 : decode cX7_setWaiting 39 = .ok (.bastore, 1) := by decide +kernel
theorem dX7_setWaiting_40 : decode cX7_setWaiting 40 = .ok (.aload_n 0, 1) := by decide +kernel
theorem dX7_setWaiting_41 : decode cX7_setWaiting 41 = .ok (.iload_n 1, 1) := by decide +kernel
theorem dX7_setWaiting_42 : decode cX7_setWaiting 42 = .ok (.invokevirtual 146, 3) := by decide +kernel
theorem dX7_setWaiting_45 : decode cX7_setWaiting 45 = .ok (.iload_n 3, 1) := by decide +kernel
theorem dX7_setWaiting_46 : decode cX7_setWaiting 46 = .ok (.ireturn, 1) := by decide +kernel
theorem dX7_move_0 : decode cX7_move 0 = .ok (.aload_n 0, 1) := by decide +kernel
theorem dX7_move_1 : decode cX7_move 1 = .ok (.aload_n 0, 1) := by decide +kernel
theorem dX7_move_2 : decode cX7_move 2 = .ok (.iload_n 1, 1) := by decide +kernel
theorem dX7_move_3 : decode cX7_move 3 = .ok (.invokevirtual 103, 3) := by decide +kernel
theorem dX7_move_6 : decode cX7_move 6 = .ok (.ifCond .eq 11, 3) := by decide +kernel
theorem dX7_move_9 : decode cX7_move 9 = .ok (.aload_n 0, 1) := by decide +kernel
theorem dX7_move_10 : decode cX7_move 10 = .ok (.iload_n 2, 1) := by decide +kernel
theorem dX7_move_11 : decode cX7_move 11 = .ok (.invokevirtual 96, 3) := by decide +kernel
theorem dX7_move_14 : decode cX7_move 14 = .ok (.ifCond .ne 7, 3) := by decide +kernel
theorem dX7_move_17 : decode cX7_move 17 = .ok (.iconst 1, 1) := by decide +kernel
theorem dX7_move_18 : decode cX7_move 18 = .ok (.goto 28, 3) := by decide +kernel
theorem dX7_move_21 : decode cX7_move 21 = .ok (.aload_n 0, 1) := by decide +kernel
theorem dX7_move_22 : decode cX7_move 22 = .ok (.getfield 43, 3) := by decide +kernel
theorem dX7_move_25 : decode cX7_move 25 = .ok (.iload_n 2, 1) := by decide +kernel
theorem dX7_move_26 : decode cX7_move 26 = .ok (.iaload, 1) := by decide +kernel
theorem dX7_move_27 : decode cX7_move 27 = .ok (.aload_n 0, 1) := by decide +kernel
theorem dX7_move_28 : decode cX7_move 28 = .ok (.getfield 43, 3) := by decide +kernel
theorem dX7_move_31 : decode cX7_move 31 = .ok (.aload_n 0, 1) := by decide +kernel
theorem dX7_move_32 : decode cX7_move 32 = .ok (.getfield 51, 3) := by decide +kernel
theorem dX7_move_35 : decode cX7_move 35 = .ok (.iload_n 1, 1) := by decide +kernel
theorem dX7_move_36 : decode cX7_move 36 = .ok (.iaload, 1) := by decide +kernel
theorem dX7_move_37 : decode cX7_move 37 = .ok (.iaload, 1) := by decide +kernel
theorem dX7_move_38 : decode cX7_move 38 = .ok (.if_icmp .ge 7, 3) := by decide +kernel
theorem dX7_move_41 : decode cX7_move 41 = .ok (.iconst 2, 1) := by decide +kernel
theorem dX7_move_42 : decode cX7_move 42 = .ok (.goto 4, 3) := by decide +kernel
theorem dX7_move_45 : decode cX7_move 45 = .ok (.iconst 0, 1) := by decide +kernel
theorem dX7_move_46 : decode cX7_move 46 = .ok (.putfield 86, 3) := by decide +kernel
theorem dX7_move_49 : decode cX7_move 49 = .ok (.aload_n 0, 1) := by decide +kernel
theorem dX7_move_50 : decode cX7_move 50 = .ok (.getfield 86, 3) := by decide +kernel
theorem dX7_move_53 : decode cX7_move 53 = .ok (.ifCond .le 5, 3) := by decide +kernel
theorem dX7_move_56 : decode cX7_move 56 = .ok (.iconst 0, 1) := by decide +kernel
theorem dX7_move_57 : decode cX7_move 57 = .ok (.ireturn, 1) := by decide +kernel
theorem dX7_move_58 : decode cX7_move 58 = .ok (.aload_n 0, 1) := by decide +kernel
theorem dX7_move_59 : decode cX7_move 59 = .ok (.getfield 51, 3) := by decide +kernel
theorem dX7_move_62 : decode cX7_move 62 = .ok (.iload_n 1, 1) := by decide +kernel
theorem dX7_move_63 : decode cX7_move 63 = .ok (.iaload, 1) := by decide +kernel
theorem dX7_move_64 : decode cX7_move 64 = .ok (.istore_n 3, 1) := by decide +kernel
theorem dX7_move_65 : decode cX7_move 65 = .ok (.aload_n 0, 1) := by decide +kernel
theorem dX7_move_66 : decode cX7_move 66 = .ok (.getfield 51, 3) := by decide +kernel
theorem dX7_move_69 : decode cX7_move 69 = .ok (.iload_n 1, 1) := by decide +kernel
theorem dX7_move_70 : decode cX7_move 70 = .ok (.iload_n 2, 1) := by decide +kernel
theorem dX7_move_71 : decode cX7_move 71 = .ok (.iastore, 1) := by decide +kernel
theorem dX7_move_72 : decode cX7_move 72 = .ok (.aload_n 0, 1) := by decide +kernel
theorem dX7_move_73 : decode cX7_move 73 = .ok (.getfield 47, 3) := by decide +kernel
theorem dX7_move_76 : decode cX7_move 76 = .ok (.iload_n 2, 1) := by decide +kernel
theorem dX7_move_77 : decode cX7_move 77 = .ok (.iconst 1, 1) := by decide +kernel
theorem dX7_move_78 : decode cX7_move 78 = .ok (.bastore, 1) := by decide +kernel
theorem dX7_move_79 : decode cX7_move 79 = .ok (.aload_n 0, 1) := by decide +kernel
theorem dX7_move_80 : decode cX7_move 80 = .ok (.iload_n 1, 1) := by decide +kernel
theorem dX7_move_81 : decode cX7_move 81 = .ok (.invokevirtual 146, 3) := by decide +kernel
theorem dX7_move_84 : decode cX7_move 84 = .ok (.iload_n 3, 1) := by decide +kernel
theorem dX7_move_85 : decode cX7_move 85 = .ok (.ireturn, 1) := by decide +kernel
theorem dX7_isLateNow_0 : decode cX7_isLateNow 0 = .ok (.aload_n 0, 1) := by decide +kernel
theorem dX7_isLateNow_1 : decode cX7_isLateNow 1 = .ok (.getfield 11, 3) := by decide +kernel
theorem dX7_isLateNow_4 : decode cX7_isLateNow 4 = .ok (.aload_n 0, 1) := by decide +kernel
theorem dX7_isLateNow_5 : decode cX7_isLateNow 5 = .ok (.getfield 51, 3) := by decide +kernel
theorem dX7_isLateNow_8 : decode cX7_isLateNow 8 = .ok (.iload_n 1, 1) := by decide +kernel
theorem dX7_isLateNow_9 : decode cX7_isLateNow 9 = .ok (.iaload, 1) := by decide +kernel
theorem dX7_isLateNow_10 : decode cX7_isLateNow 10 = .ok (.aaload, 1) := by decide +kernel
theorem dX7_isLateNow_11 : decode cX7_isLateNow 11 = .ok (.iload_n 2, 1) := by decide +kernel
theorem dX7_isLateNow_12 : decode cX7_isLateNow 12 = .ok (.caload, 1) := by decide +kernel
theorem dX7_isLateNow_13 : decode cX7_isLateNow 13 = .ok (.bipush 116, 2) := by decide +kernel
theorem dX7_isLateNow_15 : decode cX7_isLateNow 15 = .ok (.if_icmp .ne 44, 3) := by decide +kernel
theorem dX7_isLateNow_18 : decode cX7_isLateNow 18 = .ok (.aload_n 0, 1) := by decide +kernel
theorem dX7_isLateNow_19 : decode cX7_isLateNow 19 = .ok (.getfield 60, 3) := by decide +kernel
theorem dX7_isLateNow_22 : decode cX7_isLateNow 22 = .ok (.iload_n 1, 1) := by decide +kernel
theorem dX7_isLateNow_23 : decode cX7_isLateNow 23 = .ok (.aaload, 1) := by decide +kernel
theorem dX7_isLateNow_24 : decode cX7_isLateNow 24 = .ok (.iload_n 2, 1) := by decide +kernel
theorem dX7_isLateNow_25 : decode cX7_isLateNow 25 = .ok (.caload, 1) := by decide +kernel
theorem dX7_isLateNow_26 : decode cX7_isLateNow 26 = .ok (.bipush 97, 2) := by decide +kernel
theorem dX7_isLateNow_28 : decode cX7_isLateNow 28 = .ok (.if_icmp .ne 31, 3) := by decide +kernel
theorem dX7_isLateNow_31 : decode cX7_isLateNow 31 = .ok (.aload_n 0, 1) := by decide +kernel
theorem dX7_isLateNow_32 : decode cX7_isLateNow 32 = .ok (.getfield 63, 3) := by decide +kernel
theorem dX7_isLateNow_35 : decode cX7_isLateNow 35 = .ok (.iload_n 1, 1) := by decide +kernel
theorem dX7_isLateNow_36 : decode cX7_isLateNow 36 = .ok (.aaload, 1) := by decide +kernel
theorem dX7_isLateNow_37 : decode cX7_isLateNow 37 = .ok (.iload_n 2, 1) := by decide +kernel
theorem dX7_isLateNow_38 : decode cX7_isLateNow 38 = .ok (.iaload, 1) := by decide +kernel
theorem dX7_isLateNow_39 : decode cX7_isLateNow 39 = .ok (.aload_n 0, 1) := by decide +kernel
theorem dX7_isLateNow_40 : decode cX7_isLateNow 40 = .ok (.getfield 24, 3) := by decide +kernel
theorem dX7_isLateNow_43 : decode cX7_isLateNow 43 = .ok (.aload_n 0, 1) := by decide +kernel
theorem dX7_isLateNow_44 : decode cX7_isLateNow 44 = .ok (.getfield 51, 3) := by decide +kernel
theorem dX7_isLateNow_47 : decode cX7_isLateNow 47 = .ok (.iload_n 1, 1) := by decide +kernel
theorem dX7_isLateNow_48 : decode cX7_isLateNow 48 = .ok (.iaload, 1) := by decide +kernel
theorem dX7_isLateNow_49 : decode cX7_isLateNow 49 = .ok (.aaload, 1) := by decide +kernel
theorem dX7_isLateNow_50 : decode cX7_isLateNow 50 = .ok (.iload_n 2, 1) := by decide +kernel
theorem dX7_isLateNow_51 : decode cX7_isLateNow 51 = .ok (.iaload, 1) := by decide +kernel
theorem dX7_isLateNow_52 : decode cX7_isLateNow 52 = .ok (.if_icmp .le 7, 3) := by decide +kernel
theorem dX7_isLateNow_55 : decode cX7_isLateNow 55 = .ok (.iconst 1, 1) := by decide +kernel
theorem dX7_isLateNow_56 : decode cX7_isLateNow 56 = .ok (.goto 4, 3) := by decide +kernel
theorem dX7_isLateNow_59 : decode cX7_isLateNow 59 = .ok (.iconst 0, 1) := by decide +kernel
theorem dX7_isLateNow_60 : decode cX7_isLateNow 60 = .ok (.ireturn, 1) := by decide +kernel
theorem dX7_pass_0 : decode cX7_pass 0 = .ok (.aload_n 0, 1) := by decide +kernel
theorem dX7_pass_1 : decode cX7_pass 1 = .ok (.iload_n 1, 1) := by decide +kernel
theorem dX7_pass_2 : decode cX7_pass 2 = .ok (.iconst 1, 1) := by decide +kernel
theorem dX7_pass_3 : decode cX7_pass 3 = .ok (.bipush 10, 2) := by decide +kernel
theorem dX7_pass_5 : decode cX7_pass 5 = .ok (.invokestatic 92, 3) := by decide +kernel
theorem dX7_pass_8 : decode cX7_pass 8 = .ok (.ifCond .eq 7, 3) := by decide +kernel
theorem dX7_pass_11 : decode cX7_pass 11 = .ok (.iconst 0, 1) := by decide +kernel
theorem dX7_pass_12 : decode cX7_pass 12 = .ok (.goto 4, 3) := by decide +kernel
theorem dX7_pass_15 : decode cX7_pass 15 = .ok (.iconst 1, 1) := by decide +kernel
theorem dX7_pass_16 : decode cX7_pass 16 = .ok (.putfield 86, 3) := by decide +kernel
theorem dX7_pass_19 : decode cX7_pass 19 = .ok (.aload_n 0, 1) := by decide +kernel
theorem dX7_pass_20 : decode cX7_pass 20 = .ok (.getfield 86, 3) := by decide +kernel
theorem dX7_pass_23 : decode cX7_pass 23 = .ok (.ifCond .le 5, 3) := by decide +kernel
theorem dX7_pass_26 : decode cX7_pass 26 = .ok (.iconst 0, 1) := by decide +kernel
theorem dX7_pass_27 : decode cX7_pass 27 = .ok (.ireturn, 1) := by decide +kernel
theorem dX7_pass_28 : decode cX7_pass 28 = .ok (.iconst 0, 1) := by decide +kernel
theorem dX7_pass_29 : decode cX7_pass 29 = .ok (.istore_n 2, 1) := by decide +kernel
theorem dX7_pass_30 : decode cX7_pass 30 = .ok (.iload_n 2, 1) := by decide +kernel
theorem dX7_pass_31 : decode cX7_pass 31 = .ok (.iload_n 1, 1) := by decide +kernel
theorem dX7_pass_32 : decode cX7_pass 32 = .ok (.if_icmp .ge 124, 3) := by decide +kernel
theorem dX7_pass_35 : decode cX7_pass 35 = .ok (.iconst 0, 1) := by decide +kernel
theorem dX7_pass_36 : decode cX7_pass 36 = .ok (.istore_n 3, 1) := by decide +kernel
theorem dX7_pass_37 : decode cX7_pass 37 = .ok (.iload_n 3, 1) := by decide +kernel
theorem dX7_pass_38 : decode cX7_pass 38 = .ok (.aload_n 0, 1) := by decide +kernel
theorem dX7_pass_39 : decode cX7_pass 39 = .ok (.getfield 100, 3) := by decide +kernel
theorem dX7_pass_42 : decode cX7_pass 42 = .ok (.if_icmp .ge 108, 3) := by decide +kernel
theorem dX7_pass_45 : decode cX7_pass 45 = .ok (.iconst 0, 1) := by decide +kernel
theorem dX7_pass_46 : decode cX7_pass 46 = .ok (.istore 4, 2) := by decide +kernel
theorem dX7_pass_48 : decode cX7_pass 48 = .ok (.iload 4, 2) := by decide +kernel
theorem dX7_pass_50 : decode cX7_pass 50 = .ok (.aload_n 0, 1) := by decide +kernel
theorem dX7_pass_51 : decode cX7_pass 51 = .ok (.getfield 43, 3) := by decide +kernel
theorem dX7_pass_54 : decode cX7_pass 54 = .ok (.aload_n 0, 1) := by decide +kernel
theorem dX7_pass_55 : decode cX7_pass 55 = .ok (.getfield 51, 3) := by decide +kernel
theorem dX7_pass_58 : decode cX7_pass 58 = .ok (.iload_n 3, 1) := by decide +kernel
theorem dX7_pass_59 : decode cX7_pass 59 = .ok (.iaload, 1) := by decide +kernel
theorem dX7_pass_60 : decode cX7_pass 60 = .ok (.iaload, 1) := by decide +kernel
theorem dX7_pass_61 : decode cX7_pass 61 = .ok (.if_icmp .ge 68, 3) := by decide +kernel
theorem dX7_pass_64 : decode cX7_pass 64 = .ok (.aload_n 0, 1) := by decide +kernel
theorem dX7_pass_65 : decode cX7_pass 65 = .ok (.getfield 63, 3) := by decide +kernel
theorem dX7_pass_68 : decode cX7_pass 68 = .ok (.iload_n 3, 1) := by decide +kernel
theorem dX7_pass_69 : decode cX7_pass 69 = .ok (.aaload, 1) := by decide +kernel
theorem dX7_pass_70 : decode cX7_pass 70 = .ok (.iload 4, 2) := by decide +kernel
theorem dX7_pass_72 : decode cX7_pass 72 = .ok (.dup2, 1) := by decide +kernel
theorem dX7_pass_73 : decode cX7_pass 73 = .ok (.iaload, 1) := by decide +kernel
theorem dX7_pass_74 : decode cX7_pass 74 = .ok (.aload_n 0, 1) := by decide +kernel
theorem dX7_pass_75 : decode cX7_pass 75 = .ok (.getfield 57, 3) := by decide +kernel
theorem dX7_pass_78 : decode cX7_pass 78 = .ok (.iload_n 3, 1) := by decide +kernel
theorem dX7_pass_79 : decode cX7_pass 79 = .ok (.baload, 1) := by decide +kernel
theorem dX7_pass_80 : decode cX7_pass 80 = .ok (.ifCond .ne 40, 3) := by decide +kernel
theorem dX7_pass_83 : decode cX7_pass 83 = .ok (.aload_n 0, 1) := by decide +kernel
theorem dX7_pass_84 : decode cX7_pass 84 = .ok (.getfield 11, 3) := by decide +kernel
theorem dX7_pass_87 : decode cX7_pass 87 = .ok (.aload_n 0, 1) := by decide +kernel
theorem dX7_pass_88 : decode cX7_pass 88 = .ok (.getfield 51, 3) := by decide +kernel
theorem dX7_pass_91 : decode cX7_pass 91 = .ok (.iload_n 3, 1) := by decide +kernel
theorem dX7_pass_92 : decode cX7_pass 92 = .ok (.iaload, 1) := by decide +kernel
theorem dX7_pass_93 : decode cX7_pass 93 = .ok (.aaload, 1) := by decide +kernel
theorem dX7_pass_94 : decode cX7_pass 94 = .ok (.iload 4, 2) := by decide +kernel
theorem dX7_pass_96 : decode cX7_pass 96 = .ok (.caload, 1) := by decide +kernel
theorem dX7_pass_97 : decode cX7_pass 97 = .ok (.bipush 116, 2) := by decide +kernel
theorem dX7_pass_99 : decode cX7_pass 99 = .ok (.if_icmp .ne 21, 3) := by decide +kernel
theorem dX7_pass_102 : decode cX7_pass 102 = .ok (.aload_n 0, 1) := by decide +kernel
theorem dX7_pass_103 : decode cX7_pass 103 = .ok (.getfield 60, 3) := by decide +kernel
theorem dX7_pass_106 : decode cX7_pass 106 = .ok (.iload_n 3, 1) := by decide +kernel
theorem dX7_pass_107 : decode cX7_pass 107 = .ok (.aaload, 1) := by decide +kernel
theorem dX7_pass_108 : decode cX7_pass 108 = .ok (.iload 4, 2) := by decide +kernel
theorem dX7_pass_110 : decode cX7_pass 110 = .ok (.caload, 1) := by decide +kernel
theorem dX7_pass_111 : decode cX7_pass 111 = .ok (.bipush 97, 2) := by decide +kernel
theorem dX7_pass_113 : decode cX7_pass 113 = .ok (.if_icmp .ne 7, 3) := by decide +kernel
theorem dX7_pass_116 : decode cX7_pass 116 = .ok (.iconst 1, 1) := by decide +kernel
theorem dX7_pass_117 : decode cX7_pass 117 = .ok (.goto 4, 3) := by decide +kernel
theorem dX7_pass_120 : decode cX7_pass 120 = .ok (.iconst 0, 1) := by decide +kernel
theorem dX7_pass_121 : decode cX7_pass 121 = .ok (.iadd, 1) := by decide +kernel
theorem dX7_pass_122 : decode cX7_pass 122 = .ok (.iastore, 1) := by decide +kernel
theorem dX7_pass_123 : decode cX7_pass 123 = .ok (.iinc 4 1, 3) := by decide +kernel
theorem dX7_pass_126 : decode cX7_pass 126 = .ok (.goto (-78), 3) := by decide +kernel
theorem dX7_pass_129 : decode cX7_pass 129 = .ok (.aload_n 0, 1) := by decide +kernel
theorem dX7_pass_130 : decode cX7_pass 130 = .ok (.getfield 69, 3) := by decide +kernel
theorem dX7_pass_133 : decode cX7_pass 133 = .ok (.iload_n 3, 1) := by decide +kernel
theorem dX7_pass_134 : decode cX7_pass 134 = .ok (.dup2, 1) := by decide +kernel
theorem dX7_pass_135 : decode cX7_pass 135 = .ok (.iaload, 1) := by decide +kernel
theorem dX7_pass_136 : decode cX7_pass 136 = .ok (.iconst 1, 1) := by decide +kernel
theorem dX7_pass_137 : decode cX7_pass 137 = .ok (.iadd, 1) := by decide +kernel
theorem dX7_pass_138 : decode cX7_pass 138 = .ok (.iastore, 1) := by decide +kernel
theorem dX7_pass_139 : decode cX7_pass 139 = .ok (.aload_n 0, 1) := by decide +kernel
theorem dX7_pass_140 : decode cX7_pass 140 = .ok (.iload_n 3, 1) := by decide +kernel
theorem dX7_pass_141 : decode cX7_pass 141 = .ok (.invokevirtual 146, 3) := by decide +kernel
theorem dX7_pass_144 : decode cX7_pass 144 = .ok (.iinc 3 1, 3) := by decide +kernel
theorem dX7_pass_147 : decode cX7_pass 147 = .ok (.goto (-110), 3) := by decide +kernel
theorem dX7_pass_150 : decode cX7_pass 150 = .ok (.iinc 2 1, 3) := by decide +kernel
theorem dX7_pass_153 : decode cX7_pass 153 = .ok (.goto (-123), 3) := by decide +kernel
theorem dX7_pass_156 : decode cX7_pass 156 = .ok (.iconst 0, 1) := by decide +kernel
theorem dX7_pass_157 : decode cX7_pass 157 = .ok (.istore_n 2, 1) := by decide +kernel
theorem dX7_pass_158 : decode cX7_pass 158 = .ok (.iconst 0, 1) := by decide +kernel
theorem dX7_pass_159 : decode cX7_pass 159 = .ok (.istore_n 3, 1) := by decide +kernel
theorem dX7_pass_160 : decode cX7_pass 160 = .ok (.iload_n 3, 1) := by decide +kernel
theorem dX7_pass_161 : decode cX7_pass 161 = .ok (.aload_n 0, 1) := by decide +kernel
theorem dX7_pass_162 : decode cX7_pass 162 = .ok (.getfield 100, 3) := by decide +kernel
theorem dX7_pass_165 : decode cX7_pass 165 = .ok (.if_icmp .ge 52, 3) := by decide +kernel
theorem dX7_pass_168 : decode cX7_pass 168 = .ok (.iconst 0, 1) := by decide +kernel
theorem dX7_pass_169 : decode cX7_pass 169 = .ok (.istore 4, 2) := by decide +kernel
theorem dX7_pass_171 : decode cX7_pass 171 = .ok (.iload 4, 2) := by decide +kernel
theorem dX7_pass_173 : decode cX7_pass 173 = .ok (.aload_n 0, 1) := by decide +kernel
theorem dX7_pass_174 : decode cX7_pass 174 = .ok (.getfield 43, 3) := by decide +kernel
theorem dX7_pass_177 : decode cX7_pass 177 = .ok (.aload_n 0, 1) := by decide +kernel
theorem dX7_pass_178 : decode cX7_pass 178 = .ok (.getfield 51, 3) := by decide +kernel
theorem dX7_pass_181 : decode cX7_pass 181 = .ok (.iload_n 3, 1) := by decide +kernel
theorem dX7_pass_182 : decode cX7_pass 182 = .ok (.iaload, 1) := by decide +kernel
theorem dX7_pass_183 : decode cX7_pass 183 = .ok (.iaload, 1) := by decide +kernel
theorem dX7_pass_184 : decode cX7_pass 184 = .ok (.if_icmp .ge 27, 3) := by decide +kernel
theorem dX7_pass_187 : decode cX7_pass 187 = .ok (.iload_n 2, 1) := by decide +kernel
theorem dX7_pass_188 : decode cX7_pass 188 = .ok (.aload_n 0, 1) := by decide +kernel
theorem dX7_pass_189 : decode cX7_pass 189 = .ok (.iload_n 3, 1) := by decide +kernel
theorem dX7_pass_190 : decode cX7_pass 190 = .ok (.iload 4, 2) := by decide +kernel
theorem dX7_pass_192 : decode cX7_pass 192 = .ok (.invokevirtual 160, 3) := by decide +kernel
theorem dX7_pass_195 : decode cX7_pass 195 = .ok (.ifCond .eq 7, 3) := by decide +kernel
theorem dX7_pass_198 : decode cX7_pass 198 = .ok (.iconst 1, 1) := by decide +kernel
theorem dX7_pass_199 : decode cX7_pass 199 = .ok (.goto 4, 3) := by decide +kernel
theorem dX7_pass_202 : decode cX7_pass 202 = .ok (.iconst 0, 1) := by decide +kernel
theorem dX7_pass_203 : decode cX7_pass 203 = .ok (.iadd, 1) := by decide +kernel
theorem dX7_pass_204 : decode cX7_pass 204 = .ok (.istore_n 2, 1) := by decide +kernel
theorem dX7_pass_205 : decode cX7_pass 205 = .ok (.iinc 4 1, 3) := by decide +kernel
theorem dX7_pass_208 : decode cX7_pass 208 = .ok (.goto (-37), 3) := by decide +kernel
theorem dX7_pass_211 : decode cX7_pass 211 = .ok (.iinc 3 1, 3) := by decide +kernel
theorem dX7_pass_214 : decode cX7_pass 214 = .ok (.goto (-54), 3) := by decide +kernel
theorem dX7_pass_217 : decode cX7_pass 217 = .ok (.iload_n 2, 1) := by decide +kernel
theorem dX7_pass_218 : decode cX7_pass 218 = .ok (.ireturn, 1) := by decide +kernel
theorem dX7_lacks_0 : decode cX7_lacks 0 = .ok (.aload_n 0, 1) := by decide +kernel
theorem dX7_lacks_1 : decode cX7_lacks 1 = .ok (.aload_n 0, 1) := by decide +kernel
theorem dX7_lacks_2 : decode cX7_lacks 2 = .ok (.iload_n 1, 1) := by decide +kernel
theorem dX7_lacks_3 : decode cX7_lacks 3 = .ok (.iload_n 2, 1) := by decide +kernel
theorem dX7_lacks_4 : decode cX7_lacks 4 = .ok (.invokevirtual 157, 3) := by decide +kernel
theorem dX7_lacks_7 : decode cX7_lacks 7 = .ok (.ifCond .eq 7, 3) := by decide +kernel
theorem dX7_lacks_10 : decode cX7_lacks 10 = .ok (.iconst 0, 1) := by decide +kernel
theorem dX7_lacks_11 : decode cX7_lacks 11 = .ok (.goto 4, 3) := by decide +kernel
theorem dX7_lacks_14 : decode cX7_lacks 14 = .ok (.iconst 1, 1) := by decide +kernel
theorem dX7_lacks_15 : decode cX7_lacks 15 = .ok (.putfield 86, 3) := by decide +kernel
theorem dX7_lacks_18 : decode cX7_lacks 18 = .ok (.aload_n 0, 1) := by decide +kernel
theorem dX7_lacks_19 : decode cX7_lacks 19 = .ok (.getfield 86, 3) := by decide +kernel
theorem dX7_lacks_22 : decode cX7_lacks 22 = .ok (.ifCond .le 7, 3) := by decide +kernel
theorem dX7_lacks_25 : decode cX7_lacks 25 = .ok (.iconst 1, 1) := by decide +kernel
theorem dX7_lacks_26 : decode cX7_lacks 26 = .ok (.goto 4, 3) := by decide +kernel
theorem dX7_lacks_29 : decode cX7_lacks 29 = .ok (.iconst 0, 1) := by decide +kernel
theorem dX7_lacks_30 : decode cX7_lacks 30 = .ok (.ireturn, 1) := by decide +kernel
theorem dX7_state_0 : decode cX7_state 0 = .ok (.aload_n 0, 1) := by decide +kernel
theorem dX7_state_1 : decode cX7_state 1 = .ok (.iload_n 1, 1) := by decide +kernel
theorem dX7_state_2 : decode cX7_state 2 = .ok (.iload_n 2, 1) := by decide +kernel
theorem dX7_state_3 : decode cX7_state 3 = .ok (.invokevirtual 163, 3) := by decide +kernel
theorem dX7_state_6 : decode cX7_state 6 = .ok (.ifCond .eq 8, 3) := by decide +kernel
theorem dX7_state_9 : decode cX7_state 9 = .ok (.bipush 32, 2) := by decide +kernel
theorem dX7_state_11 : decode cX7_state 11 = .ok (.goto 11, 3) := by decide +kernel
theorem dX7_state_14 : decode cX7_state 14 = .ok (.aload_n 0, 1) := by decide +kernel
theorem dX7_state_15 : decode cX7_state 15 = .ok (.getfield 60, 3) := by decide +kernel
theorem dX7_state_18 : decode cX7_state 18 = .ok (.iload_n 1, 1) := by decide +kernel
theorem dX7_state_19 : decode cX7_state 19 = .ok (.aaload, 1) := by decide +kernel
theorem dX7_state_20 : decode cX7_state 20 = .ok (.iload_n 2, 1) := by decide +kernel
theorem dX7_state_21 : decode cX7_state 21 = .ok (.caload, 1) := by decide +kernel
theorem dX7_state_22 : decode cX7_state 22 = .ok (.ireturn, 1) := by decide +kernel
theorem dX7_stateByReplay_0 : decode cX7_stateByReplay 0 = .ok (.aload_n 0, 1) := by decide +kernel
theorem dX7_stateByReplay_1 : decode cX7_stateByReplay 1 = .ok (.iload_n 1, 1) := by decide +kernel
theorem dX7_stateByReplay_2 : decode cX7_stateByReplay 2 = .ok (.iload_n 2, 1) := by decide +kernel
theorem dX7_stateByReplay_3 : decode cX7_stateByReplay 3 = .ok (.invokevirtual 166, 3) := by decide +kernel
theorem dX7_stateByReplay_6 : decode cX7_stateByReplay 6 = .ok (.ireturn, 1) := by decide +kernel
theorem dX7_clock_0 : decode cX7_clock 0 = .ok (.aload_n 0, 1) := by decide +kernel
theorem dX7_clock_1 : decode cX7_clock 1 = .ok (.iload_n 1, 1) := by decide +kernel
theorem dX7_clock_2 : decode cX7_clock 2 = .ok (.iload_n 2, 1) := by decide +kernel
theorem dX7_clock_3 : decode cX7_clock 3 = .ok (.invokevirtual 163, 3) := by decide +kernel
theorem dX7_clock_6 : decode cX7_clock 6 = .ok (.ifCond .eq 7, 3) := by decide +kernel
theorem dX7_clock_9 : decode cX7_clock 9 = .ok (.iconst 0, 1) := by decide +kernel
theorem dX7_clock_10 : decode cX7_clock 10 = .ok (.goto 11, 3) := by decide +kernel
theorem dX7_clock_13 : decode cX7_clock 13 = .ok (.aload_n 0, 1) := by decide +kernel
theorem dX7_clock_14 : decode cX7_clock 14 = .ok (.getfield 63, 3) := by decide +kernel
theorem dX7_clock_17 : decode cX7_clock 17 = .ok (.iload_n 1, 1) := by decide +kernel
theorem dX7_clock_18 : decode cX7_clock 18 = .ok (.aaload, 1) := by decide +kernel
theorem dX7_clock_19 : decode cX7_clock 19 = .ok (.iload_n 2, 1) := by decide +kernel
theorem dX7_clock_20 : decode cX7_clock 20 = .ok (.iaload, 1) := by decide +kernel
theorem dX7_clock_21 : decode cX7_clock 21 = .ok (.ireturn, 1) := by decide +kernel
theorem dX7_clockByReplay_0 : decode cX7_clockByReplay 0 = .ok (.aload_n 0, 1) := by decide +kernel
theorem dX7_clockByReplay_1 : decode cX7_clockByReplay 1 = .ok (.iload_n 1, 1) := by decide +kernel
theorem dX7_clockByReplay_2 : decode cX7_clockByReplay 2 = .ok (.iload_n 2, 1) := by decide +kernel
theorem dX7_clockByReplay_3 : decode cX7_clockByReplay 3 = .ok (.invokevirtual 170, 3) := by decide +kernel
theorem dX7_clockByReplay_6 : decode cX7_clockByReplay 6 = .ok (.ireturn, 1) := by decide +kernel
theorem dX7_count_0 : decode cX7_count 0 = .ok (.aload_n 0, 1) := by decide +kernel
theorem dX7_count_1 : decode cX7_count 1 = .ok (.iload_n 1, 1) := by decide +kernel
theorem dX7_count_2 : decode cX7_count 2 = .ok (.iload_n 2, 1) := by decide +kernel
theorem dX7_count_3 : decode cX7_count 3 = .ok (.invokevirtual 163, 3) := by decide +kernel
theorem dX7_count_6 : decode cX7_count 6 = .ok (.ifCond .eq 7, 3) := by decide +kernel
theorem dX7_count_9 : decode cX7_count 9 = .ok (.iconst 0, 1) := by decide +kernel
theorem dX7_count_10 : decode cX7_count 10 = .ok (.goto 11, 3) := by decide +kernel
theorem dX7_count_13 : decode cX7_count 13 = .ok (.aload_n 0, 1) := by decide +kernel
theorem dX7_count_14 : decode cX7_count 14 = .ok (.getfield 66, 3) := by decide +kernel
theorem dX7_count_17 : decode cX7_count 17 = .ok (.iload_n 1, 1) := by decide +kernel
theorem dX7_count_18 : decode cX7_count 18 = .ok (.aaload, 1) := by decide +kernel
theorem dX7_count_19 : decode cX7_count 19 = .ok (.iload_n 2, 1) := by decide +kernel
theorem dX7_count_20 : decode cX7_count 20 = .ok (.iaload, 1) := by decide +kernel
theorem dX7_count_21 : decode cX7_count 21 = .ok (.ireturn, 1) := by decide +kernel
theorem dX7_isLate_0 : decode cX7_isLate 0 = .ok (.aload_n 0, 1) := by decide +kernel
theorem dX7_isLate_1 : decode cX7_isLate 1 = .ok (.iload_n 1, 1) := by decide +kernel
theorem dX7_isLate_2 : decode cX7_isLate 2 = .ok (.iload_n 2, 1) := by decide +kernel
theorem dX7_isLate_3 : decode cX7_isLate 3 = .ok (.invokevirtual 163, 3) := by decide +kernel
theorem dX7_isLate_6 : decode cX7_isLate 6 = .ok (.ifCond .ne 16, 3) := by decide +kernel
theorem dX7_isLate_9 : decode cX7_isLate 9 = .ok (.aload_n 0, 1) := by decide +kernel
theorem dX7_isLate_10 : decode cX7_isLate 10 = .ok (.iload_n 1, 1) := by decide +kernel
theorem dX7_isLate_11 : decode cX7_isLate 11 = .ok (.iload_n 2, 1) := by decide +kernel
theorem dX7_isLate_12 : decode cX7_isLate 12 = .ok (.invokevirtual 160, 3) := by decide +kernel
theorem dX7_isLate_15 : decode cX7_isLate 15 = .ok (.ifCond .eq 7, 3) := by decide +kernel
theorem dX7_isLate_18 : decode cX7_isLate 18 = .ok (.iconst 1, 1) := by decide +kernel
theorem dX7_isLate_19 : decode cX7_isLate 19 = .ok (.goto 4, 3) := by decide +kernel
theorem dX7_isLate_22 : decode cX7_isLate 22 = .ok (.iconst 0, 1) := by decide +kernel
theorem dX7_isLate_23 : decode cX7_isLate 23 = .ok (.ireturn, 1) := by decide +kernel
theorem dX7_misses_0 : decode cX7_misses 0 = .ok (.aload_n 0, 1) := by decide +kernel
theorem dX7_misses_1 : decode cX7_misses 1 = .ok (.aload_n 0, 1) := by decide +kernel
theorem dX7_misses_2 : decode cX7_misses 2 = .ok (.iload_n 1, 1) := by decide +kernel
theorem dX7_misses_3 : decode cX7_misses 3 = .ok (.invokevirtual 103, 3) := by decide +kernel
theorem dX7_misses_6 : decode cX7_misses 6 = .ok (.ifCond .eq 7, 3) := by decide +kernel
theorem dX7_misses_9 : decode cX7_misses 9 = .ok (.iconst 0, 1) := by decide +kernel
theorem dX7_misses_10 : decode cX7_misses 10 = .ok (.goto 4, 3) := by decide +kernel
theorem dX7_misses_13 : decode cX7_misses 13 = .ok (.iconst 1, 1) := by decide +kernel
theorem dX7_misses_14 : decode cX7_misses 14 = .ok (.putfield 86, 3) := by decide +kernel
theorem dX7_misses_17 : decode cX7_misses 17 = .ok (.aload_n 0, 1) := by decide +kernel
theorem dX7_misses_18 : decode cX7_misses 18 = .ok (.getfield 86, 3) := by decide +kernel
theorem dX7_misses_21 : decode cX7_misses 21 = .ok (.ifCond .le 7, 3) := by decide +kernel
theorem dX7_misses_24 : decode cX7_misses 24 = .ok (.iconst 1, 1) := by decide +kernel
theorem dX7_misses_25 : decode cX7_misses 25 = .ok (.goto 4, 3) := by decide +kernel
theorem dX7_misses_28 : decode cX7_misses 28 = .ok (.iconst 0, 1) := by decide +kernel
theorem dX7_misses_29 : decode cX7_misses 29 = .ok (.ireturn, 1) := by decide +kernel
theorem dX7_daysLeft_0 : decode cX7_daysLeft 0 = .ok (.aload_n 0, 1) := by decide +kernel
theorem dX7_daysLeft_1 : decode cX7_daysLeft 1 = .ok (.iload_n 1, 1) := by decide +kernel
theorem dX7_daysLeft_2 : decode cX7_daysLeft 2 = .ok (.invokevirtual 173, 3) := by decide +kernel
theorem dX7_daysLeft_5 : decode cX7_daysLeft 5 = .ok (.ifCond .eq 5, 3) := by decide +kernel
theorem dX7_daysLeft_8 : decode cX7_daysLeft 8 = .ok (.iconst 0, 1) := by decide +kernel
theorem dX7_daysLeft_9 : decode cX7_daysLeft 9 = .ok (.ireturn, 1) := by decide +kernel
theorem dX7_daysLeft_10 : decode cX7_daysLeft 10 = .ok (.aload_n 0, 1) := by decide +kernel
theorem dX7_daysLeft_11 : decode cX7_daysLeft 11 = .ok (.getfield 51, 3) := by decide +kernel
theorem dX7_daysLeft_14 : decode cX7_daysLeft 14 = .ok (.iload_n 1, 1) := by decide +kernel
theorem dX7_daysLeft_15 : decode cX7_daysLeft 15 = .ok (.iaload, 1) := by decide +kernel
theorem dX7_daysLeft_16 : decode cX7_daysLeft 16 = .ok (.istore_n 2, 1) := by decide +kernel
theorem dX7_daysLeft_17 : decode cX7_daysLeft 17 = .ok (.iconst (-1), 1) := by decide +kernel
theorem dX7_daysLeft_18 : decode cX7_daysLeft 18 = .ok (.istore_n 3, 1) := by decide +kernel
theorem dX7_daysLeft_19 : decode cX7_daysLeft 19 = .ok (.iconst 0, 1) := by decide +kernel
theorem dX7_daysLeft_20 : decode cX7_daysLeft 20 = .ok (.istore 4, 2) := by decide +kernel
theorem dX7_daysLeft_22 : decode cX7_daysLeft 22 = .ok (.iload 4, 2) := by decide +kernel
theorem dX7_daysLeft_24 : decode cX7_daysLeft 24 = .ok (.aload_n 0, 1) := by decide +kernel
theorem dX7_daysLeft_25 : decode cX7_daysLeft 25 = .ok (.getfield 43, 3) := by decide +kernel
theorem dX7_daysLeft_28 : decode cX7_daysLeft 28 = .ok (.iload_n 2, 1) := by decide +kernel
theorem dX7_daysLeft_29 : decode cX7_daysLeft 29 = .ok (.iaload, 1) := by decide +kernel
theorem dX7_daysLeft_30 : decode cX7_daysLeft 30 = .ok (.if_icmp .ge 95, 3) := by decide +kernel
theorem dX7_daysLeft_33 : decode cX7_daysLeft 33 = .ok (.aload_n 0, 1) := by decide +kernel
theorem dX7_daysLeft_34 : decode cX7_daysLeft 34 = .ok (.getfield 24, 3) := by decide +kernel
theorem dX7_daysLeft_37 : decode cX7_daysLeft 37 = .ok (.iload_n 2, 1) := by decide +kernel
theorem dX7_daysLeft_38 : decode cX7_daysLeft 38 = .ok (.aaload, 1) := by decide +kernel
theorem dX7_daysLeft_39 : decode cX7_daysLeft 39 = .ok (.iload 4, 2) := by decide +kernel
theorem dX7_daysLeft_41 : decode cX7_daysLeft 41 = .ok (.iaload, 1) := by decide +kernel
theorem dX7_daysLeft_42 : decode cX7_daysLeft 42 = .ok (.aload_n 0, 1) := by decide +kernel
theorem dX7_daysLeft_43 : decode cX7_daysLeft 43 = .ok (.getfield 63, 3) := by decide +kernel
theorem dX7_daysLeft_46 : decode cX7_daysLeft 46 = .ok (.iload_n 1, 1) := by decide +kernel
theorem dX7_daysLeft_47 : decode cX7_daysLeft 47 = .ok (.aaload, 1) := by decide +kernel
theorem dX7_daysLeft_48 : decode cX7_daysLeft 48 = .ok (.iload 4, 2) := by decide +kernel
theorem dX7_daysLeft_50 : decode cX7_daysLeft 50 = .ok (.iaload, 1) := by decide +kernel
theorem dX7_daysLeft_51 : decode cX7_daysLeft 51 = .ok (.isub, 1) := by decide +kernel
theorem dX7_daysLeft_52 : decode cX7_daysLeft 52 = .ok (.iconst 1, 1) := by decide +kernel
theorem dX7_daysLeft_53 : decode cX7_daysLeft 53 = .ok (.iadd, 1) := by decide +kernel
theorem dX7_daysLeft_54 : decode cX7_daysLeft 54 = .ok (.istore 5, 2) := by decide +kernel
theorem dX7_daysLeft_56 : decode cX7_daysLeft 56 = .ok (.aload_n 0, 1) := by decide +kernel
theorem dX7_daysLeft_57 : decode cX7_daysLeft 57 = .ok (.getfield 11, 3) := by decide +kernel
theorem dX7_daysLeft_60 : decode cX7_daysLeft 60 = .ok (.iload_n 2, 1) := by decide +kernel
theorem dX7_daysLeft_61 : decode cX7_daysLeft 61 = .ok (.aaload, 1) := by decide +kernel
theorem dX7_daysLeft_62 : decode cX7_daysLeft 62 = .ok (.iload 4, 2) := by decide +kernel
theorem dX7_daysLeft_64 : decode cX7_daysLeft 64 = .ok (.caload, 1) := by decide +kernel
theorem dX7_daysLeft_65 : decode cX7_daysLeft 65 = .ok (.bipush 116, 2) := by decide +kernel
theorem dX7_daysLeft_67 : decode cX7_daysLeft 67 = .ok (.if_icmp .ne 26, 3) := by decide +kernel
theorem dX7_daysLeft_70 : decode cX7_daysLeft 70 = .ok (.aload_n 0, 1) := by decide +kernel
theorem dX7_daysLeft_71 : decode cX7_daysLeft 71 = .ok (.getfield 60, 3) := by decide +kernel
theorem dX7_daysLeft_74 : decode cX7_daysLeft 74 = .ok (.iload_n 1, 1) := by decide +kernel
theorem dX7_daysLeft_75 : decode cX7_daysLeft 75 = .ok (.aaload, 1) := by decide +kernel
theorem dX7_daysLeft_76 : decode cX7_daysLeft 76 = .ok (.iload 4, 2) := by decide +kernel
theorem dX7_daysLeft_78 : decode cX7_daysLeft 78 = .ok (.caload, 1) := by decide +kernel
theorem dX7_daysLeft_79 : decode cX7_daysLeft 79 = .ok (.bipush 97, 2) := by decide +kernel
theorem dX7_daysLeft_81 : decode cX7_daysLeft 81 = .ok (.if_icmp .ne 12, 3) := by decide +kernel
theorem dX7_daysLeft_84 : decode cX7_daysLeft 84 = .ok (.iload 5, 2) := by decide +kernel
theorem dX7_daysLeft_86 : decode cX7_daysLeft 86 = .ok (.ifCond .le 7, 3) := by decide +kernel
theorem dX7_daysLeft_89 : decode cX7_daysLeft 89 = .ok (.iconst 1, 1) := by decide +kernel
theorem dX7_daysLeft_90 : decode cX7_daysLeft 90 = .ok (.goto 4, 3) := by decide +kernel
theorem dX7_daysLeft_93 : decode cX7_daysLeft 93 = .ok (.iconst 0, 1) := by decide +kernel
theorem dX7_daysLeft_94 : decode cX7_daysLeft 94 = .ok (.istore 6, 2) := by decide +kernel
theorem dX7_daysLeft_96 : decode cX7_daysLeft 96 = .ok (.iload 6, 2) := by decide +kernel
theorem dX7_daysLeft_98 : decode cX7_daysLeft 98 = .ok (.ifCond .eq 19, 3) := by decide +kernel
theorem dX7_daysLeft_101 : decode cX7_daysLeft 101 = .ok (.iload_n 3, 1) := by decide +kernel
theorem dX7_daysLeft_102 : decode cX7_daysLeft 102 = .ok (.iconst (-1), 1) := by decide +kernel
theorem dX7_daysLeft_103 : decode cX7_daysLeft 103 = .ok (.if_icmp .eq 9, 3) := by decide +kernel
theorem dX7_daysLeft_106 : decode cX7_daysLeft 106 = .ok (.iload 5, 2) := by decide +kernel
theorem dX7_daysLeft_108 : decode cX7_daysLeft 108 = .ok (.iload_n 3, 1) := by decide +kernel
theorem dX7_daysLeft_109 : decode cX7_daysLeft 109 = .ok (.if_icmp .ge 8, 3) := by decide +kernel
theorem dX7_daysLeft_112 : decode cX7_daysLeft 112 = .ok (.iload 5, 2) := by decide +kernel
theorem dX7_daysLeft_114 : decode cX7_daysLeft 114 = .ok (.goto 4, 3) := by decide +kernel
theorem dX7_daysLeft_117 : decode cX7_daysLeft 117 = .ok (.iload_n 3, 1) := by decide +kernel
theorem dX7_daysLeft_118 : decode cX7_daysLeft 118 = .ok (.istore_n 3, 1) := by decide +kernel
theorem dX7_daysLeft_119 : decode cX7_daysLeft 119 = .ok (.iinc 4 1, 3) := by decide +kernel
theorem dX7_daysLeft_122 : decode cX7_daysLeft 122 = .ok (.goto (-100), 3) := by decide +kernel
theorem dX7_daysLeft_125 : decode cX7_daysLeft 125 = .ok (.iload_n 3, 1) := by decide +kernel
theorem dX7_daysLeft_126 : decode cX7_daysLeft 126 = .ok (.iconst (-1), 1) := by decide +kernel
theorem dX7_daysLeft_127 : decode cX7_daysLeft 127 = .ok (.if_icmp .ne 11, 3) := by decide +kernel
theorem dX7_daysLeft_130 : decode cX7_daysLeft 130 = .ok (.aload_n 0, 1) := by decide +kernel
theorem dX7_daysLeft_131 : decode cX7_daysLeft 131 = .ok (.iconst 2, 1) := by decide +kernel
theorem dX7_daysLeft_132 : decode cX7_daysLeft 132 = .ok (.invokevirtual 110, 3) := by decide +kernel
theorem dX7_daysLeft_135 : decode cX7_daysLeft 135 = .ok (.goto 4, 3) := by decide +kernel
theorem dX7_daysLeft_138 : decode cX7_daysLeft 138 = .ok (.iload_n 3, 1) := by decide +kernel
theorem dX7_daysLeft_139 : decode cX7_daysLeft 139 = .ok (.ireturn, 1) := by decide +kernel
theorem dX7_holds_0 : decode cX7_holds 0 = .ok (.aload_n 0, 1) := by decide +kernel
theorem dX7_holds_1 : decode cX7_holds 1 = .ok (.iload_n 1, 1) := by decide +kernel
theorem dX7_holds_2 : decode cX7_holds 2 = .ok (.iload_n 2, 1) := by decide +kernel
theorem dX7_holds_3 : decode cX7_holds 3 = .ok (.invokevirtual 163, 3) := by decide +kernel
theorem dX7_holds_6 : decode cX7_holds 6 = .ok (.ifCond .eq 5, 3) := by decide +kernel
theorem dX7_holds_9 : decode cX7_holds 9 = .ok (.iconst 0, 1) := by decide +kernel
theorem dX7_holds_10 : decode cX7_holds 10 = .ok (.ireturn, 1) := by decide +kernel
theorem dX7_holds_11 : decode cX7_holds 11 = .ok (.iload_n 3, 1) := by decide +kernel
theorem dX7_holds_12 : decode cX7_holds 12 = .ok (.ifCond .eq 7, 3) := by decide +kernel
theorem dX7_holds_15 : decode cX7_holds 15 = .ok (.iconst 0, 1) := by decide +kernel
theorem dX7_holds_16 : decode cX7_holds 16 = .ok (.goto 4, 3) := by decide +kernel
theorem dX7_holds_19 : decode cX7_holds 19 = .ok (.iconst 1, 1) := by decide +kernel
theorem dX7_holds_20 : decode cX7_holds 20 = .ok (.istore 5, 2) := by decide +kernel
theorem dX7_holds_22 : decode cX7_holds 22 = .ok (.aload_n 0, 1) := by decide +kernel
theorem dX7_holds_23 : decode cX7_holds 23 = .ok (.iload 4, 2) := by decide +kernel
theorem dX7_holds_25 : decode cX7_holds 25 = .ok (.iconst 0, 1) := by decide +kernel
theorem dX7_holds_26 : decode cX7_holds 26 = .ok (.aload_n 0, 1) := by decide +kernel
theorem dX7_holds_27 : decode cX7_holds 27 = .ok (.getfield 40, 3) := by decide +kernel
theorem dX7_holds_30 : decode cX7_holds 30 = .ok (.aload_n 0, 1) := by decide +kernel
theorem dX7_holds_31 : decode cX7_holds 31 = .ok (.getfield 51, 3) := by decide +kernel
theorem dX7_holds_34 : decode cX7_holds 34 = .ok (.iload_n 1, 1) := by decide +kernel
theorem dX7_holds_35 : decode cX7_holds 35 = .ok (.iaload, 1) := by decide +kernel
theorem dX7_holds_36 : decode cX7_holds 36 = .ok (.aaload, 1) := by decide +kernel
theorem dX7_holds_37 : decode cX7_holds 37 = .ok (.iload_n 2, 1) := by decide +kernel
theorem dX7_holds_38 : decode cX7_holds 38 = .ok (.aaload, 1) := by decide +kernel
theorem dX7_holds_39 : decode cX7_holds 39 = .ok (.iload 5, 2) := by decide +kernel
theorem dX7_holds_41 : decode cX7_holds 41 = .ok (.iaload, 1) := by decide +kernel
theorem dX7_holds_42 : decode cX7_holds 42 = .ok (.iconst 1, 1) := by decide +kernel
theorem dX7_holds_43 : decode cX7_holds 43 = .ok (.isub, 1) := by decide +kernel
theorem dX7_holds_44 : decode cX7_holds 44 = .ok (.invokestatic 92, 3) := by decide +kernel
theorem dX7_holds_47 : decode cX7_holds 47 = .ok (.ifCond .eq 7, 3) := by decide +kernel
theorem dX7_holds_50 : decode cX7_holds 50 = .ok (.iconst 0, 1) := by decide +kernel
theorem dX7_holds_51 : decode cX7_holds 51 = .ok (.goto 4, 3) := by decide +kernel
theorem dX7_holds_54 : decode cX7_holds 54 = .ok (.iconst 2, 1) := by decide +kernel
theorem dX7_holds_55 : decode cX7_holds 55 = .ok (.putfield 86, 3) := by decide +kernel
theorem dX7_holds_58 : decode cX7_holds 58 = .ok (.aload_n 0, 1) := by decide +kernel
theorem dX7_holds_59 : decode cX7_holds 59 = .ok (.getfield 86, 3) := by decide +kernel
theorem dX7_holds_62 : decode cX7_holds 62 = .ok (.ifCond .ne 23, 3) := by decide +kernel
theorem dX7_holds_65 : decode cX7_holds 65 = .ok (.aload_n 0, 1) := by decide +kernel
theorem dX7_holds_66 : decode cX7_holds 66 = .ok (.iload_n 1, 1) := by decide +kernel
theorem dX7_holds_67 : decode cX7_holds 67 = .ok (.iload_n 2, 1) := by decide +kernel
theorem dX7_holds_68 : decode cX7_holds 68 = .ok (.iconst 3, 1) := by decide +kernel
theorem dX7_holds_69 : decode cX7_holds 69 = .ok (.iload 5, 2) := by decide +kernel
theorem dX7_holds_71 : decode cX7_holds 71 = .ok (.imul, 1) := by decide +kernel
theorem dX7_holds_72 : decode cX7_holds 72 = .ok (.iload 4, 2) := by decide +kernel
theorem dX7_holds_74 : decode cX7_holds 74 = .ok (.iadd, 1) := by decide +kernel
theorem dX7_holds_75 : decode cX7_holds 75 = .ok (.invokevirtual 126, 3) := by decide +kernel
theorem dX7_holds_78 : decode cX7_holds 78 = .ok (.ifCond .eq 7, 3) := by decide +kernel
theorem dX7_holds_81 : decode cX7_holds 81 = .ok (.iconst 1, 1) := by decide +kernel
theorem dX7_holds_82 : decode cX7_holds 82 = .ok (.goto 4, 3) := by decide +kernel
theorem dX7_holds_85 : decode cX7_holds 85 = .ok (.iconst 0, 1) := by decide +kernel
theorem dX7_holds_86 : decode cX7_holds 86 = .ok (.ireturn, 1) := by decide +kernel
theorem dX7_inState_0 : decode cX7_inState 0 = .ok (.iconst 0, 1) := by decide +kernel
theorem dX7_inState_1 : decode cX7_inState 1 = .ok (.istore_n 3, 1) := by decide +kernel
theorem dX7_inState_2 : decode cX7_inState 2 = .ok (.iconst 0, 1) := by decide +kernel
theorem dX7_inState_3 : decode cX7_inState 3 = .ok (.istore 4, 2) := by decide +kernel
theorem dX7_inState_5 : decode cX7_inState 5 = .ok (.iload 4, 2) := by decide +kernel
theorem dX7_inState_7 : decode cX7_inState 7 = .ok (.aload_n 0, 1) := by decide +kernel
theorem dX7_inState_8 : decode cX7_inState 8 = .ok (.getfield 43, 3) := by decide +kernel
theorem dX7_inState_11 : decode cX7_inState 11 = .ok (.aload_n 0, 1) := by decide +kernel
theorem dX7_inState_12 : decode cX7_inState 12 = .ok (.getfield 51, 3) := by decide +kernel
theorem dX7_inState_15 : decode cX7_inState 15 = .ok (.iload_n 1, 1) := by decide +kernel
theorem dX7_inState_16 : decode cX7_inState 16 = .ok (.iaload, 1) := by decide +kernel
theorem dX7_inState_17 : decode cX7_inState 17 = .ok (.iaload, 1) := by decide +kernel
theorem dX7_inState_18 : decode cX7_inState 18 = .ok (.if_icmp .ge 30, 3) := by decide +kernel
theorem dX7_inState_21 : decode cX7_inState 21 = .ok (.iload_n 3, 1) := by decide +kernel
theorem dX7_inState_22 : decode cX7_inState 22 = .ok (.aload_n 0, 1) := by decide +kernel
theorem dX7_inState_23 : decode cX7_inState 23 = .ok (.getfield 60, 3) := by decide +kernel
theorem dX7_inState_26 : decode cX7_inState 26 = .ok (.iload_n 1, 1) := by decide +kernel
theorem dX7_inState_27 : decode cX7_inState 27 = .ok (.aaload, 1) := by decide +kernel
theorem dX7_inState_28 : decode cX7_inState 28 = .ok (.iload 4, 2) := by decide +kernel
theorem dX7_inState_30 : decode cX7_inState 30 = .ok (.caload, 1) := by decide +kernel
theorem dX7_inState_31 : decode cX7_inState 31 = .ok (.iload_n 2, 1) := by decide +kernel
theorem dX7_inState_32 : decode cX7_inState 32 = .ok (.if_icmp .ne 7, 3) := by decide +kernel
theorem dX7_inState_35 : decode cX7_inState 35 = .ok (.iconst 1, 1) := by decide +kernel
theorem dX7_inState_36 : decode cX7_inState 36 = .ok (.goto 4, 3) := by decide +kernel
theorem dX7_inState_39 : decode cX7_inState 39 = .ok (.iconst 0, 1) := by decide +kernel
theorem dX7_inState_40 : decode cX7_inState 40 = .ok (.iadd, 1) := by decide +kernel
theorem dX7_inState_41 : decode cX7_inState 41 = .ok (.istore_n 3, 1) := by decide +kernel
theorem dX7_inState_42 : decode cX7_inState 42 = .ok (.iinc 4 1, 3) := by decide +kernel
theorem dX7_inState_45 : decode cX7_inState 45 = .ok (.goto (-40), 3) := by decide +kernel
theorem dX7_inState_48 : decode cX7_inState 48 = .ok (.iload_n 3, 1) := by decide +kernel
theorem dX7_inState_49 : decode cX7_inState 49 = .ok (.ireturn, 1) := by decide +kernel
theorem dX7_active_0 : decode cX7_active 0 = .ok (.aload_n 0, 1) := by decide +kernel
theorem dX7_active_1 : decode cX7_active 1 = .ok (.iload_n 1, 1) := by decide +kernel
theorem dX7_active_2 : decode cX7_active 2 = .ok (.invokevirtual 173, 3) := by decide +kernel
theorem dX7_active_5 : decode cX7_active 5 = .ok (.ifCond .eq 7, 3) := by decide +kernel
theorem dX7_active_8 : decode cX7_active 8 = .ok (.iconst 0, 1) := by decide +kernel
theorem dX7_active_9 : decode cX7_active 9 = .ok (.goto 10, 3) := by decide +kernel
theorem dX7_active_12 : decode cX7_active 12 = .ok (.aload_n 0, 1) := by decide +kernel
theorem dX7_active_13 : decode cX7_active 13 = .ok (.iload_n 1, 1) := by decide +kernel
theorem dX7_active_14 : decode cX7_active 14 = .ok (.bipush 97, 2) := by decide +kernel
theorem dX7_active_16 : decode cX7_active 16 = .ok (.invokevirtual 176, 3) := by decide +kernel
theorem dX7_active_19 : decode cX7_active 19 = .ok (.ireturn, 1) := by decide +kernel
theorem dX7_isOver_0 : decode cX7_isOver 0 = .ok (.aload_n 0, 1) := by decide +kernel
theorem dX7_isOver_1 : decode cX7_isOver 1 = .ok (.iload_n 1, 1) := by decide +kernel
theorem dX7_isOver_2 : decode cX7_isOver 2 = .ok (.invokevirtual 173, 3) := by decide +kernel
theorem dX7_isOver_5 : decode cX7_isOver 5 = .ok (.ifCond .eq 5, 3) := by decide +kernel
theorem dX7_isOver_8 : decode cX7_isOver 8 = .ok (.iconst 0, 1) := by decide +kernel
theorem dX7_isOver_9 : decode cX7_isOver 9 = .ok (.ireturn, 1) := by decide +kernel
theorem dX7_isOver_10 : decode cX7_isOver 10 = .ok (.iconst 1, 1) := by decide +kernel
theorem dX7_isOver_11 : decode cX7_isOver 11 = .ok (.istore_n 2, 1) := by decide +kernel
theorem dX7_isOver_12 : decode cX7_isOver 12 = .ok (.iconst 0, 1) := by decide +kernel
theorem dX7_isOver_13 : decode cX7_isOver 13 = .ok (.istore_n 3, 1) := by decide +kernel
theorem dX7_isOver_14 : decode cX7_isOver 14 = .ok (.iload_n 3, 1) := by decide +kernel
theorem dX7_isOver_15 : decode cX7_isOver 15 = .ok (.aload_n 0, 1) := by decide +kernel
theorem dX7_isOver_16 : decode cX7_isOver 16 = .ok (.getfield 43, 3) := by decide +kernel
theorem dX7_isOver_19 : decode cX7_isOver 19 = .ok (.aload_n 0, 1) := by decide +kernel
theorem dX7_isOver_20 : decode cX7_isOver 20 = .ok (.getfield 51, 3) := by decide +kernel
theorem dX7_isOver_23 : decode cX7_isOver 23 = .ok (.iload_n 1, 1) := by decide +kernel
theorem dX7_isOver_24 : decode cX7_isOver 24 = .ok (.iaload, 1) := by decide +kernel
theorem dX7_isOver_25 : decode cX7_isOver 25 = .ok (.iaload, 1) := by decide +kernel
theorem dX7_isOver_26 : decode cX7_isOver 26 = .ok (.if_icmp .ge 62, 3) := by decide +kernel
theorem dX7_isOver_29 : decode cX7_isOver 29 = .ok (.iload_n 2, 1) := by decide +kernel
theorem dX7_isOver_30 : decode cX7_isOver 30 = .ok (.ifCond .eq 50, 3) := by decide +kernel
theorem dX7_isOver_33 : decode cX7_isOver 33 = .ok (.aload_n 0, 1) := by decide +kernel
theorem dX7_isOver_34 : decode cX7_isOver 34 = .ok (.getfield 16, 3) := by decide +kernel
theorem dX7_isOver_37 : decode cX7_isOver 37 = .ok (.aload_n 0, 1) := by decide +kernel
theorem dX7_isOver_38 : decode cX7_isOver 38 = .ok (.getfield 51, 3) := by decide +kernel
theorem dX7_isOver_41 : decode cX7_isOver 41 = .ok (.iload_n 1, 1) := by decide +kernel
theorem dX7_isOver_42 : decode cX7_isOver 42 = .ok (.iaload, 1) := by decide +kernel
theorem dX7_isOver_43 : decode cX7_isOver 43 = .ok (.aaload, 1) := by decide +kernel
theorem dX7_isOver_44 : decode cX7_isOver 44 = .ok (.iload_n 3, 1) := by decide +kernel
theorem dX7_isOver_45 : decode cX7_isOver 45 = .ok (.iaload, 1) := by decide +kernel
theorem dX7_isOver_46 : decode cX7_isOver 46 = .ok (.iconst (-1), 1) := by decide +kernel
theorem dX7_isOver_47 : decode cX7_isOver 47 = .ok (.if_icmp .ne 29, 3) := by decide +kernel
theorem dX7_isOver_50 : decode cX7_isOver 50 = .ok (.aload_n 0, 1) := by decide +kernel
theorem dX7_isOver_51 : decode cX7_isOver 51 = .ok (.getfield 60, 3) := by decide +kernel
theorem dX7_isOver_54 : decode cX7_isOver 54 = .ok (.iload_n 1, 1) := by decide +kernel
theorem dX7_isOver_55 : decode cX7_isOver 55 = .ok (.aaload, 1) := by decide +kernel
theorem dX7_isOver_56 : decode cX7_isOver 56 = .ok (.iload_n 3, 1) := by decide +kernel
theorem dX7_isOver_57 : decode cX7_isOver 57 = .ok (.caload, 1) := by decide +kernel
theorem dX7_isOver_58 : decode cX7_isOver 58 = .ok (.bipush 99, 2) := by decide +kernel
theorem dX7_isOver_60 : decode cX7_isOver 60 = .ok (.if_icmp .eq 16, 3) := by decide +kernel
theorem dX7_isOver_63 : decode cX7_isOver 63 = .ok (.aload_n 0, 1) := by decide +kernel
theorem dX7_isOver_64 : decode cX7_isOver 64 = .ok (.getfield 60, 3) := by decide +kernel
theorem dX7_isOver_67 : decode cX7_isOver 67 = .ok (.iload_n 1, 1) := by decide +kernel
theorem dX7_isOver_68 : decode cX7_isOver 68 = .ok (.aaload, 1) := by decide +kernel
theorem dX7_isOver_69 : decode cX7_isOver 69 = .ok (.iload_n 3, 1) := by decide +kernel
theorem dX7_isOver_70 : decode cX7_isOver 70 = .ok (.caload, 1) := by decide +kernel
theorem dX7_isOver_71 : decode cX7_isOver 71 = .ok (.bipush 120, 2) := by decide +kernel
theorem dX7_isOver_73 : decode cX7_isOver 73 = .ok (.if_icmp .ne 7, 3) := by decide +kernel
theorem dX7_isOver_76 : decode cX7_isOver 76 = .ok (.iconst 1, 1) := by decide +kernel
theorem dX7_isOver_77 : decode cX7_isOver 77 = .ok (.goto 4, 3) := by decide +kernel
theorem dX7_isOver_80 : decode cX7_isOver 80 = .ok (.iconst 0, 1) := by decide +kernel
theorem dX7_isOver_81 : decode cX7_isOver 81 = .ok (.istore_n 2, 1) := by decide +kernel
theorem dX7_isOver_82 : decode cX7_isOver 82 = .ok (.iinc 3 1, 3) := by decide +kernel
theorem dX7_isOver_85 : decode cX7_isOver 85 = .ok (.goto (-71), 3) := by decide +kernel
theorem dX7_isOver_88 : decode cX7_isOver 88 = .ok (.iload_n 2, 1) := by decide +kernel
theorem dX7_isOver_89 : decode cX7_isOver 89 = .ok (.ireturn, 1) := by decide +kernel
theorem dX7_rounds_0 : decode cX7_rounds 0 = .ok (.aload_n 0, 1) := by decide +kernel
theorem dX7_rounds_1 : decode cX7_rounds 1 = .ok (.iload_n 1, 1) := by decide +kernel
theorem dX7_rounds_2 : decode cX7_rounds 2 = .ok (.invokevirtual 173, 3) := by decide +kernel
theorem dX7_rounds_5 : decode cX7_rounds 5 = .ok (.ifCond .eq 7, 3) := by decide +kernel
theorem dX7_rounds_8 : decode cX7_rounds 8 = .ok (.iconst 0, 1) := by decide +kernel
theorem dX7_rounds_9 : decode cX7_rounds 9 = .ok (.goto 9, 3) := by decide +kernel
theorem dX7_rounds_12 : decode cX7_rounds 12 = .ok (.aload_n 0, 1) := by decide +kernel
theorem dX7_rounds_13 : decode cX7_rounds 13 = .ok (.getfield 72, 3) := by decide +kernel
theorem dX7_rounds_16 : decode cX7_rounds 16 = .ok (.iload_n 1, 1) := by decide +kernel
theorem dX7_rounds_17 : decode cX7_rounds 17 = .ok (.iaload, 1) := by decide +kernel
theorem dX7_rounds_18 : decode cX7_rounds 18 = .ok (.ireturn, 1) := by decide +kernel
theorem dX7_datum_0 : decode cX7_datum 0 = .ok (.aload_n 0, 1) := by decide +kernel
theorem dX7_datum_1 : decode cX7_datum 1 = .ok (.aload_n 0, 1) := by decide +kernel
theorem dX7_datum_2 : decode cX7_datum 2 = .ok (.iload_n 1, 1) := by decide +kernel
theorem dX7_datum_3 : decode cX7_datum 3 = .ok (.invokevirtual 103, 3) := by decide +kernel
theorem dX7_datum_6 : decode cX7_datum 6 = .ok (.ifCond .ne 7, 3) := by decide +kernel
theorem dX7_datum_9 : decode cX7_datum 9 = .ok (.iconst 1, 1) := by decide +kernel
theorem dX7_datum_10 : decode cX7_datum 10 = .ok (.goto 17, 3) := by decide +kernel
theorem dX7_datum_13 : decode cX7_datum 13 = .ok (.iload_n 2, 1) := by decide +kernel
theorem dX7_datum_14 : decode cX7_datum 14 = .ok (.iconst 0, 1) := by decide +kernel
theorem dX7_datum_15 : decode cX7_datum 15 = .ok (.iconst 3, 1) := by decide +kernel
theorem dX7_datum_16 : decode cX7_datum 16 = .ok (.invokestatic 92, 3) := by decide +kernel
theorem dX7_datum_19 : decode cX7_datum 19 = .ok (.ifCond .ne 7, 3) := by decide +kernel
theorem dX7_datum_22 : decode cX7_datum 22 = .ok (.iconst 2, 1) := by decide +kernel
theorem dX7_datum_23 : decode cX7_datum 23 = .ok (.goto 4, 3) := by decide +kernel
theorem dX7_datum_26 : decode cX7_datum 26 = .ok (.iconst 0, 1) := by decide +kernel
theorem dX7_datum_27 : decode cX7_datum 27 = .ok (.putfield 86, 3) := by decide +kernel
theorem dX7_datum_30 : decode cX7_datum 30 = .ok (.aload_n 0, 1) := by decide +kernel
theorem dX7_datum_31 : decode cX7_datum 31 = .ok (.getfield 86, 3) := by decide +kernel
theorem dX7_datum_34 : decode cX7_datum 34 = .ok (.ifCond .le 7, 3) := by decide +kernel
theorem dX7_datum_37 : decode cX7_datum 37 = .ok (.iconst 0, 1) := by decide +kernel
theorem dX7_datum_38 : decode cX7_datum 38 = .ok (.goto 11, 3) := by decide +kernel
theorem dX7_datum_41 : decode cX7_datum 41 = .ok (.aload_n 0, 1) := by decide +kernel
theorem dX7_datum_42 : decode cX7_datum 42 = .ok (.getfield 54, 3) := by decide +kernel
theorem dX7_datum_45 : decode cX7_datum 45 = .ok (.iload_n 1, 1) := by decide +kernel
theorem dX7_datum_46 : decode cX7_datum 46 = .ok (.aaload, 1) := by decide +kernel
theorem dX7_datum_47 : decode cX7_datum 47 = .ok (.iload_n 2, 1) := by decide +kernel
theorem dX7_datum_48 : decode cX7_datum 48 = .ok (.iaload, 1) := by decide +kernel
theorem dX7_datum_49 : decode cX7_datum 49 = .ok (.ireturn, 1) := by decide +kernel
theorem dX7_days_0 : decode cX7_days 0 = .ok (.aload_n 0, 1) := by decide +kernel
theorem dX7_days_1 : decode cX7_days 1 = .ok (.iload_n 1, 1) := by decide +kernel
theorem dX7_days_2 : decode cX7_days 2 = .ok (.invokevirtual 173, 3) := by decide +kernel
theorem dX7_days_5 : decode cX7_days 5 = .ok (.ifCond .eq 7, 3) := by decide +kernel
theorem dX7_days_8 : decode cX7_days 8 = .ok (.iconst 0, 1) := by decide +kernel
theorem dX7_days_9 : decode cX7_days 9 = .ok (.goto 9, 3) := by decide +kernel
theorem dX7_days_12 : decode cX7_days 12 = .ok (.aload_n 0, 1) := by decide +kernel
theorem dX7_days_13 : decode cX7_days 13 = .ok (.getfield 69, 3) := by decide +kernel
theorem dX7_days_16 : decode cX7_days 16 = .ok (.iload_n 1, 1) := by decide +kernel
theorem dX7_days_17 : decode cX7_days 17 = .ok (.iaload, 1) := by decide +kernel
theorem dX7_days_18 : decode cX7_days 18 = .ok (.ireturn, 1) := by decide +kernel
theorem dX7_planOf_0 : decode cX7_planOf 0 = .ok (.aload_n 0, 1) := by decide +kernel
theorem dX7_planOf_1 : decode cX7_planOf 1 = .ok (.iload_n 1, 1) := by decide +kernel
theorem dX7_planOf_2 : decode cX7_planOf 2 = .ok (.invokevirtual 173, 3) := by decide +kernel
theorem dX7_planOf_5 : decode cX7_planOf 5 = .ok (.ifCond .eq 7, 3) := by decide +kernel
theorem dX7_planOf_8 : decode cX7_planOf 8 = .ok (.iconst 0, 1) := by decide +kernel
theorem dX7_planOf_9 : decode cX7_planOf 9 = .ok (.goto 9, 3) := by decide +kernel
theorem dX7_planOf_12 : decode cX7_planOf 12 = .ok (.aload_n 0, 1) := by decide +kernel
theorem dX7_planOf_13 : decode cX7_planOf 13 = .ok (.getfield 51, 3) := by decide +kernel
theorem dX7_planOf_16 : decode cX7_planOf 16 = .ok (.iload_n 1, 1) := by decide +kernel
theorem dX7_planOf_17 : decode cX7_planOf 17 = .ok (.iaload, 1) := by decide +kernel
theorem dX7_planOf_18 : decode cX7_planOf 18 = .ok (.ireturn, 1) := by decide +kernel
theorem dX7_isWaiting_0 : decode cX7_isWaiting 0 = .ok (.aload_n 0, 1) := by decide +kernel
theorem dX7_isWaiting_1 : decode cX7_isWaiting 1 = .ok (.iload_n 1, 1) := by decide +kernel
theorem dX7_isWaiting_2 : decode cX7_isWaiting 2 = .ok (.invokevirtual 173, 3) := by decide +kernel
theorem dX7_isWaiting_5 : decode cX7_isWaiting 5 = .ok (.ifCond .ne 16, 3) := by decide +kernel
theorem dX7_isWaiting_8 : decode cX7_isWaiting 8 = .ok (.aload_n 0, 1) := by decide +kernel
theorem dX7_isWaiting_9 : decode cX7_isWaiting 9 = .ok (.getfield 57, 3) := by decide +kernel
theorem dX7_isWaiting_12 : decode cX7_isWaiting 12 = .ok (.iload_n 1, 1) := by decide +kernel
theorem dX7_isWaiting_13 : decode cX7_isWaiting 13 = .ok (.baload, 1) := by decide +kernel
theorem dX7_isWaiting_14 : decode cX7_isWaiting 14 = .ok (.ifCond .eq 7, 3) := by decide +kernel
theorem dX7_isWaiting_17 : decode cX7_isWaiting 17 = .ok (.iconst 1, 1) := by decide +kernel
theorem dX7_isWaiting_18 : decode cX7_isWaiting 18 = .ok (.goto 4, 3) := by decide +kernel
theorem dX7_isWaiting_21 : decode cX7_isWaiting 21 = .ok (.iconst 0, 1) := by decide +kernel
theorem dX7_isWaiting_22 : decode cX7_isWaiting 22 = .ok (.ireturn, 1) := by decide +kernel
theorem dX7_happened_0 : decode cX7_happened 0 = .ok (.aload_n 0, 1) := by decide +kernel
theorem dX7_happened_1 : decode cX7_happened 1 = .ok (.iload_n 1, 1) := by decide +kernel
theorem dX7_happened_2 : decode cX7_happened 2 = .ok (.invokevirtual 173, 3) := by decide +kernel
theorem dX7_happened_5 : decode cX7_happened 5 = .ok (.ifCond .eq 7, 3) := by decide +kernel
theorem dX7_happened_8 : decode cX7_happened 8 = .ok (.iconst 0, 1) := by decide +kernel
theorem dX7_happened_9 : decode cX7_happened 9 = .ok (.goto 9, 3) := by decide +kernel
theorem dX7_happened_12 : decode cX7_happened 12 = .ok (.aload_n 0, 1) := by decide +kernel
theorem dX7_happened_13 : decode cX7_happened 13 = .ok (.getfield 75, 3) := by decide +kernel
theorem dX7_happened_16 : decode cX7_happened 16 = .ok (.iload_n 1, 1) := by decide +kernel
theorem dX7_happened_17 : decode cX7_happened 17 = .ok (.iaload, 1) := by decide +kernel
theorem dX7_happened_18 : decode cX7_happened 18 = .ok (.ireturn, 1) := by decide +kernel
theorem dX7_cases_0 : decode cX7_cases 0 = .ok (.aload_n 0, 1) := by decide +kernel
theorem dX7_cases_1 : decode cX7_cases 1 = .ok (.iconst 0, 1) := by decide +kernel
theorem dX7_cases_2 : decode cX7_cases 2 = .ok (.putfield 86, 3) := by decide +kernel
theorem dX7_cases_5 : decode cX7_cases 5 = .ok (.aload_n 0, 1) := by decide +kernel
theorem dX7_cases_6 : decode cX7_cases 6 = .ok (.getfield 100, 3) := by decide +kernel
theorem dX7_cases_9 : decode cX7_cases 9 = .ok (.ireturn, 1) := by decide +kernel
theorem dX7_daysWorked_0 : decode cX7_daysWorked 0 = .ok (.aload_n 0, 1) := by decide +kernel
theorem dX7_daysWorked_1 : decode cX7_daysWorked 1 = .ok (.iconst 0, 1) := by decide +kernel
theorem dX7_daysWorked_2 : decode cX7_daysWorked 2 = .ok (.putfield 86, 3) := by decide +kernel
theorem dX7_daysWorked_5 : decode cX7_daysWorked 5 = .ok (.lconst 0, 1) := by decide +kernel
theorem dX7_daysWorked_6 : decode cX7_daysWorked 6 = .ok (.lstore_n 1, 1) := by decide +kernel
theorem dX7_daysWorked_7 : decode cX7_daysWorked 7 = .ok (.iconst 0, 1) := by decide +kernel
theorem dX7_daysWorked_8 : decode cX7_daysWorked 8 = .ok (.istore_n 3, 1) := by decide +kernel
theorem dX7_daysWorked_9 : decode cX7_daysWorked 9 = .ok (.iload_n 3, 1) := by decide +kernel
theorem dX7_daysWorked_10 : decode cX7_daysWorked 10 = .ok (.aload_n 0, 1) := by decide +kernel
theorem dX7_daysWorked_11 : decode cX7_daysWorked 11 = .ok (.getfield 100, 3) := by decide +kernel
theorem dX7_daysWorked_14 : decode cX7_daysWorked 14 = .ok (.if_icmp .ge 47, 3) := by decide +kernel
theorem dX7_daysWorked_17 : decode cX7_daysWorked 17 = .ok (.iconst 0, 1) := by decide +kernel
theorem dX7_daysWorked_18 : decode cX7_daysWorked 18 = .ok (.istore 4, 2) := by decide +kernel
theorem dX7_daysWorked_20 : decode cX7_daysWorked 20 = .ok (.iload 4, 2) := by decide +kernel
theorem dX7_daysWorked_22 : decode cX7_daysWorked 22 = .ok (.aload_n 0, 1) := by decide +kernel
theorem dX7_daysWorked_23 : decode cX7_daysWorked 23 = .ok (.getfield 43, 3) := by decide +kernel
theorem dX7_daysWorked_26 : decode cX7_daysWorked 26 = .ok (.aload_n 0, 1) := by decide +kernel
theorem dX7_daysWorked_27 : decode cX7_daysWorked 27 = .ok (.getfield 51, 3) := by decide +kernel
theorem dX7_daysWorked_30 : decode cX7_daysWorked 30 = .ok (.iload_n 3, 1) := by decide +kernel
theorem dX7_daysWorked_31 : decode cX7_daysWorked 31 = .ok (.iaload, 1) := by decide +kernel
theorem dX7_daysWorked_32 : decode cX7_daysWorked 32 = .ok (.iaload, 1) := by decide +kernel
theorem dX7_daysWorked_33 : decode cX7_daysWorked 33 = .ok (.if_icmp .ge 22, 3) := by decide +kernel
theorem dX7_daysWorked_36 : decode cX7_daysWorked 36 = .ok (.lload_n 1, 1) := by decide +kernel
theorem dX7_daysWorked_37 : decode cX7_daysWorked 37 = .ok (.aload_n 0, 1) := by decide +kernel
theorem dX7_daysWorked_38 : decode cX7_daysWorked 38 = .ok (.getfield 63, 3) := by decide +kernel
theorem dX7_daysWorked_41 : decode cX7_daysWorked 41 = .ok (.iload_n 3, 1) := by decide +kernel
theorem dX7_daysWorked_42 : decode cX7_daysWorked 42 = .ok (.aaload, 1) := by decide +kernel
theorem dX7_daysWorked_43 : decode cX7_daysWorked 43 = .ok (.iload 4, 2) := by decide +kernel
theorem dX7_daysWorked_45 : decode cX7_daysWorked 45 = .ok (.iaload, 1) := by decide +kernel
theorem dX7_daysWorked_46 : decode cX7_daysWorked 46 = .ok (.i2l, 1) := by decide +kernel
theorem dX7_daysWorked_47 : decode cX7_daysWorked 47 = .ok (.ladd, 1) := by decide +kernel
theorem dX7_daysWorked_48 : decode cX7_daysWorked 48 = .ok (.lstore_n 1, 1) := by decide +kernel
theorem dX7_daysWorked_49 : decode cX7_daysWorked 49 = .ok (.iinc 4 1, 3) := by decide +kernel
theorem dX7_daysWorked_52 : decode cX7_daysWorked 52 = .ok (.goto (-32), 3) := by decide +kernel
theorem dX7_daysWorked_55 : decode cX7_daysWorked 55 = .ok (.iinc 3 1, 3) := by decide +kernel
theorem dX7_daysWorked_58 : decode cX7_daysWorked 58 = .ok (.goto (-49), 3) := by decide +kernel
theorem dX7_daysWorked_61 : decode cX7_daysWorked 61 = .ok (.lload_n 1, 1) := by decide +kernel
theorem dX7_daysWorked_62 : decode cX7_daysWorked 62 = .ok (.lreturn, 1) := by decide +kernel
theorem dX7_doneShare_0 : decode cX7_doneShare 0 = .ok (.aload_n 0, 1) := by decide +kernel
theorem dX7_doneShare_1 : decode cX7_doneShare 1 = .ok (.iload_n 1, 1) := by decide +kernel
theorem dX7_doneShare_2 : decode cX7_doneShare 2 = .ok (.invokevirtual 173, 3) := by decide +kernel
theorem dX7_doneShare_5 : decode cX7_doneShare 5 = .ok (.ifCond .eq 7, 3) := by decide +kernel
theorem dX7_doneShare_8 : decode cX7_doneShare 8 = .ok (.fconst 0, 1) := by decide +kernel
theorem dX7_doneShare_9 : decode cX7_doneShare 9 = .ok (.goto 24, 3) := by decide +kernel
theorem dX7_doneShare_12 : decode cX7_doneShare 12 = .ok (.aload_n 0, 1) := by decide +kernel
theorem dX7_doneShare_13 : decode cX7_doneShare 13 = .ok (.iload_n 1, 1) := by decide +kernel
theorem dX7_doneShare_14 : decode cX7_doneShare 14 = .ok (.bipush 99, 2) := by decide +kernel
theorem dX7_doneShare_16 : decode cX7_doneShare 16 = .ok (.invokevirtual 176, 3) := by decide +kernel
theorem dX7_doneShare_19 : decode cX7_doneShare 19 = .ok (.i2f, 1) := by decide +kernel
theorem dX7_doneShare_20 : decode cX7_doneShare 20 = .ok (.aload_n 0, 1) := by decide +kernel
theorem dX7_doneShare_21 : decode cX7_doneShare 21 = .ok (.getfield 43, 3) := by decide +kernel
theorem dX7_doneShare_24 : decode cX7_doneShare 24 = .ok (.aload_n 0, 1) := by decide +kernel
theorem dX7_doneShare_25 : decode cX7_doneShare 25 = .ok (.getfield 51, 3) := by decide +kernel
theorem dX7_doneShare_28 : decode cX7_doneShare 28 = .ok (.iload_n 1, 1) := by decide +kernel
theorem dX7_doneShare_29 : decode cX7_doneShare 29 = .ok (.iaload, 1) := by decide +kernel
theorem dX7_doneShare_30 : decode cX7_doneShare 30 = .ok (.iaload, 1) := by decide +kernel
theorem dX7_doneShare_31 : decode cX7_doneShare 31 = .ok (.i2f, 1) := by decide +kernel
theorem dX7_doneShare_32 : decode cX7_doneShare 32 = .ok (.fdiv, 1) := by decide +kernel
theorem dX7_doneShare_33 : decode cX7_doneShare 33 = .ok (.freturn, 1) := by decide +kernel
end
section
/-! the good words of the tables, by their places -/
def gl : List Cond := lw_tbl.filter goodWord
theorem gl_at {w : Cond} (i : Nat) (h : lw_tbl[i]? = some w) (hg : goodWord w = true) : w ∈ gl := List.mem_filter.mpr ⟨List.mem_of_getElem? h, hg⟩
theorem tw0 : Cond.initialized "CasebookStepsLaw" ∈ gl := gl_at 31 (by decide +kernel) rfl
theorem tw1 : Cond.initialized "CasebookSteps" ∈ gl := gl_at 32 (by decide +kernel) rfl
theorem tw2 : Cond.initialized "CasebookSteps$Journal" ∈ gl := gl_at 33 (by decide +kernel) rfl
theorem tw3 : Cond.initialized "CasebookSteps$Case" ∈ gl := gl_at 34 (by decide +kernel) rfl
theorem tw4 : Cond.initialized "CasebookSteps$Plan" ∈ gl := gl_at 35 (by decide +kernel) rfl
theorem tw5 : Cond.initialized "CasebookStepsModel" ∈ gl := gl_at 36 (by decide +kernel) rfl
theorem tw6 : Cond.initialized "java/lang/Throwable" ∈ gl := gl_at 37 (by decide +kernel) rfl
theorem tw7 : Cond.initialized "java/lang/Exception" ∈ gl := gl_at 38 (by decide +kernel) rfl
theorem tw8 : Cond.initialized "java/lang/RuntimeException" ∈ gl := gl_at 39 (by decide +kernel) rfl
theorem tw9 : Cond.initialized "java/lang/IllegalStateException" ∈ gl := gl_at 40 (by decide +kernel) rfl
theorem tw10 : Cond.initialized "java/lang/IndexOutOfBoundsException" ∈ gl := gl_at 41 (by decide +kernel) rfl
theorem tw11 : Cond.initialized "java/lang/IllegalArgumentException" ∈ gl := gl_at 42 (by decide +kernel) rfl
theorem tw12 : Cond.initialized "CasebookSteps$Step" ∈ gl := gl_at 43 (by decide +kernel) rfl
theorem tw13 : Cond.initialized "CasebookSteps$Conditions" ∈ gl := gl_at 44 (by decide +kernel) rfl
theorem tw14 : Cond.initialized "CasebookSteps$Condition" ∈ gl := gl_at 45 (by decide +kernel) rfl
theorem tw15 : Cond.initialized "java/lang/UnsupportedOperationException" ∈ gl := gl_at 46 (by decide +kernel) rfl
theorem tw16 : Cond.initialized "java/util/NoSuchElementException" ∈ gl := gl_at 47 (by decide +kernel) rfl
theorem tw17 : Cond.classLink "CasebookStepsLaw" 8 "CasebookSteps" ∈ gl := gl_at 48 (by decide +kernel) rfl
theorem tw18 : Cond.instantiable "CasebookSteps" 6 ∈ gl := gl_at 49 (by decide +kernel) rfl
theorem tw19 : Cond.methodLink "CasebookStepsLaw" 131 yX6_init ∈ gl := gl_at 50 (by decide +kernel) rfl
theorem tw20 : Cond.instanceMethod yX6_init ∈ gl := gl_at 51 (by decide +kernel) rfl
theorem tw21 : Cond.code yX6_init prog_1_method_1_code 1 (Option.none : Option Jvm.ClassFile.FieldType) ∈ gl := gl_at 52 (by decide +kernel) rfl
theorem tw22 : Cond.methodLink "CasebookSteps" 1 (⟨"java/lang/Object", "<init>", "()V"⟩ : MethodName) ∈ gl := gl_at 53 (by decide +kernel) rfl
theorem tw23 : Cond.instanceMethod (⟨"java/lang/Object", "<init>", "()V"⟩ : MethodName) ∈ gl := gl_at 54 (by decide +kernel) rfl
theorem tw24 : Cond.code (⟨"java/lang/Object", "<init>", "()V"⟩ : MethodName) object_method_1_code 1 (Option.none : Option Jvm.ClassFile.FieldType) ∈ gl := gl_at 55 (by decide +kernel) rfl
theorem tw25 : Cond.classLink "CasebookSteps" 9 "CasebookSteps$Plan" ∈ gl := gl_at 56 (by decide +kernel) rfl
theorem tw27 : Cond.classLink "CasebookSteps" 19 "CasebookSteps$Case" ∈ gl := gl_at 58 (by decide +kernel) rfl
theorem tw29 : Cond.classLink "CasebookSteps" 28 "CasebookSteps$Journal" ∈ gl := gl_at 60 (by decide +kernel) rfl
theorem tw30 : Cond.instantiable "CasebookSteps$Journal" 5 ∈ gl := gl_at 61 (by decide +kernel) rfl
theorem tw32 : Cond.instanceMethod yX3_init ∈ gl := gl_at 63 (by decide +kernel) rfl
theorem tw33 : Cond.code yX3_init prog_5_method_1_code 1 (Option.none : Option Jvm.ClassFile.FieldType) ∈ gl := gl_at 64 (by decide +kernel) rfl
theorem tw34 : Cond.methodLink "CasebookSteps$Journal" 3 (⟨"java/lang/Object", "<init>", "()V"⟩ : MethodName) ∈ gl := gl_at 65 (by decide +kernel) rfl
theorem tw35 : Cond.fieldLink "CasebookSteps$Journal" 9 "CasebookSteps$Journal" "who" "[I" ∈ gl := gl_at 66 (by decide +kernel) rfl
theorem tw36 : Cond.fieldLink "CasebookSteps" 325 "CasebookSteps$Journal" "who" "[I" ∈ gl := gl_at 67 (by decide +kernel) rfl
theorem tw37 : Cond.fieldLink "CasebookSteps$Journal" 15 "CasebookSteps$Journal" "what" "[I" ∈ gl := gl_at 68 (by decide +kernel) rfl
theorem tw38 : Cond.fieldLink "CasebookSteps" 329 "CasebookSteps$Journal" "what" "[I" ∈ gl := gl_at 69 (by decide +kernel) rfl
theorem tw39 : Cond.fieldLink "CasebookSteps$Journal" 18 "CasebookSteps$Journal" "x" "[I" ∈ gl := gl_at 70 (by decide +kernel) rfl
theorem tw40 : Cond.fieldLink "CasebookSteps" 332 "CasebookSteps$Journal" "x" "[I" ∈ gl := gl_at 71 (by decide +kernel) rfl
theorem tw41 : Cond.fieldLink "CasebookSteps$Journal" 21 "CasebookSteps$Journal" "y" "[I" ∈ gl := gl_at 72 (by decide +kernel) rfl
theorem tw42 : Cond.fieldLink "CasebookSteps" 335 "CasebookSteps$Journal" "y" "[I" ∈ gl := gl_at 73 (by decide +kernel) rfl
theorem tw43 : Cond.fieldLink "CasebookSteps$Journal" 24 "CasebookSteps$Journal" "size" "I" ∈ gl := gl_at 74 (by decide +kernel) rfl
theorem tw44 : Cond.fieldLink "CasebookSteps" 324 "CasebookSteps$Journal" "size" "I" ∈ gl := gl_at 75 (by decide +kernel) rfl
theorem tw56 : Cond.arrayClass FieldType.int ∈ gl := gl_at 87 (by decide +kernel) rfl
theorem tw57 : Cond.instantiable "CasebookSteps$Case" 11 ∈ gl := gl_at 88 (by decide +kernel) rfl
theorem tw58 : Cond.instantiable "CasebookSteps$Plan" 4 ∈ gl := gl_at 89 (by decide +kernel) rfl
theorem tw59 : Cond.methodLink "CasebookSteps" 35 yX4_init ∈ gl := gl_at 90 (by decide +kernel) rfl
theorem tw60 : Cond.instanceMethod yX4_init ∈ gl := gl_at 91 (by decide +kernel) rfl
theorem tw61 : Cond.code yX4_init prog_6_method_1_code 2 (Option.none : Option Jvm.ClassFile.FieldType) ∈ gl := gl_at 92 (by decide +kernel) rfl
theorem tw62 : Cond.methodLink "CasebookSteps$Plan" 3 (⟨"java/lang/Object", "<init>", "()V"⟩ : MethodName) ∈ gl := gl_at 93 (by decide +kernel) rfl
theorem tw63 : Cond.classLink "CasebookSteps$Plan" 9 "CasebookSteps$Step" ∈ gl := gl_at 94 (by decide +kernel) rfl
theorem tw65 : Cond.fieldLink "CasebookSteps$Plan" 25 "CasebookSteps$Plan" "number" "I" ∈ gl := gl_at 96 (by decide +kernel) rfl
theorem tw66 : Cond.fieldLink "CasebookSteps" 195 "CasebookSteps$Plan" "number" "I" ∈ gl := gl_at 97 (by decide +kernel) rfl
theorem tw67 : Cond.fieldLink "CasebookSteps$Plan" 11 "CasebookSteps$Plan" "rows" "[LCasebookSteps$Step;" ∈ gl := gl_at 98 (by decide +kernel) rfl
theorem tw68 : Cond.fieldLink "CasebookSteps$Plan" 17 "CasebookSteps$Plan" "size" "I" ∈ gl := gl_at 99 (by decide +kernel) rfl
theorem tw69 : Cond.fieldLink "CasebookSteps" 70 "CasebookSteps$Plan" "size" "I" ∈ gl := gl_at 100 (by decide +kernel) rfl
theorem tw70 : Cond.fieldLink "CasebookSteps$Case" 60 "CasebookSteps$Plan" "size" "I" ∈ gl := gl_at 101 (by decide +kernel) rfl
theorem tw71 : Cond.fieldLink "CasebookSteps$Plan" 21 "CasebookSteps$Plan" "used" "Z" ∈ gl := gl_at 102 (by decide +kernel) rfl
theorem tw72 : Cond.fieldLink "CasebookSteps" 140 "CasebookSteps$Plan" "used" "Z" ∈ gl := gl_at 103 (by decide +kernel) rfl
theorem tw82 : Cond.methodLink "CasebookSteps" 38 yX0_init ∈ gl := gl_at 113 (by decide +kernel) rfl
theorem tw83 : Cond.instanceMethod yX0_init ∈ gl := gl_at 114 (by decide +kernel) rfl
theorem tw84 : Cond.code yX0_init prog_2_method_1_code 2 (Option.none : Option Jvm.ClassFile.FieldType) ∈ gl := gl_at 115 (by decide +kernel) rfl
theorem tw85 : Cond.methodLink "CasebookSteps$Case" 3 (⟨"java/lang/Object", "<init>", "()V"⟩ : MethodName) ∈ gl := gl_at 116 (by decide +kernel) rfl
theorem tw86 : Cond.fieldLink "CasebookSteps$Case" 45 "CasebookSteps$Case" "plan" "LCasebookSteps$Plan;" ∈ gl := gl_at 117 (by decide +kernel) rfl
theorem tw87 : Cond.fieldLink "CasebookSteps" 180 "CasebookSteps$Case" "plan" "LCasebookSteps$Plan;" ∈ gl := gl_at 118 (by decide +kernel) rfl
theorem tw88 : Cond.fieldLink "CasebookSteps$Case" 9 "CasebookSteps$Case" "data" "[I" ∈ gl := gl_at 119 (by decide +kernel) rfl
theorem tw89 : Cond.fieldLink "CasebookSteps$Case" 15 "CasebookSteps$Case" "states" "[C" ∈ gl := gl_at 120 (by decide +kernel) rfl
theorem tw90 : Cond.fieldLink "CasebookSteps$Case" 19 "CasebookSteps$Case" "statesBefore" "[C" ∈ gl := gl_at 121 (by decide +kernel) rfl
theorem tw91 : Cond.fieldLink "CasebookSteps$Case" 22 "CasebookSteps$Case" "clocks" "[I" ∈ gl := gl_at 122 (by decide +kernel) rfl
theorem tw92 : Cond.fieldLink "CasebookSteps$Case" 25 "CasebookSteps$Case" "counts" "[I" ∈ gl := gl_at 123 (by decide +kernel) rfl
theorem tw93 : Cond.fieldLink "CasebookSteps$Case" 28 "CasebookSteps$Case" "age" "I" ∈ gl := gl_at 124 (by decide +kernel) rfl
theorem tw94 : Cond.fieldLink "CasebookSteps" 262 "CasebookSteps$Case" "age" "I" ∈ gl := gl_at 125 (by decide +kernel) rfl
theorem tw95 : Cond.fieldLink "CasebookSteps$Case" 32 "CasebookSteps$Case" "waiting" "Z" ∈ gl := gl_at 126 (by decide +kernel) rfl
theorem tw96 : Cond.fieldLink "CasebookSteps" 190 "CasebookSteps$Case" "waiting" "Z" ∈ gl := gl_at 127 (by decide +kernel) rfl
theorem tw97 : Cond.fieldLink "CasebookSteps$Case" 36 "CasebookSteps$Case" "present" "I" ∈ gl := gl_at 128 (by decide +kernel) rfl
theorem tw98 : Cond.fieldLink "CasebookSteps" 308 "CasebookSteps$Case" "present" "I" ∈ gl := gl_at 129 (by decide +kernel) rfl
theorem tw99 : Cond.fieldLink "CasebookSteps$Case" 39 "CasebookSteps$Case" "lastRounds" "I" ∈ gl := gl_at 130 (by decide +kernel) rfl
theorem tw100 : Cond.fieldLink "CasebookSteps" 259 "CasebookSteps$Case" "lastRounds" "I" ∈ gl := gl_at 131 (by decide +kernel) rfl
theorem tw101 : Cond.fieldLink "CasebookSteps$Case" 42 "CasebookSteps$Case" "things" "I" ∈ gl := gl_at 132 (by decide +kernel) rfl
theorem tw102 : Cond.fieldLink "CasebookSteps" 265 "CasebookSteps$Case" "things" "I" ∈ gl := gl_at 133 (by decide +kernel) rfl
theorem tw126 : Cond.arrayClass FieldType.char ∈ gl := gl_at 157 (by decide +kernel) rfl
theorem tw127 : Cond.fieldLink "CasebookSteps" 11 "CasebookSteps" "plans" "[LCasebookSteps$Plan;" ∈ gl := gl_at 158 (by decide +kernel) rfl
theorem tw128 : Cond.fieldLink "CasebookSteps" 15 "CasebookSteps" "planCount" "I" ∈ gl := gl_at 159 (by decide +kernel) rfl
theorem tw129 : Cond.fieldLink "CasebookSteps" 21 "CasebookSteps" "begun" "[LCasebookSteps$Case;" ∈ gl := gl_at 160 (by decide +kernel) rfl
theorem tw130 : Cond.fieldLink "CasebookSteps" 25 "CasebookSteps" "caseCount" "I" ∈ gl := gl_at 161 (by decide +kernel) rfl
theorem tw131 : Cond.fieldLink "CasebookSteps" 31 "CasebookSteps" "journal" "LCasebookSteps$Journal;" ∈ gl := gl_at 162 (by decide +kernel) rfl
theorem tw132 : Cond.fieldLink "CasebookSteps" 41 "CasebookSteps" "replayed" "LCasebookSteps$Case;" ∈ gl := gl_at 163 (by decide +kernel) rfl
theorem tw146 : Cond.methodLink "CasebookStepsLaw" 245 yX6_cases ∈ gl := gl_at 177 (by decide +kernel) rfl
theorem tw147 : Cond.instanceMethod yX6_cases ∈ gl := gl_at 178 (by decide +kernel) rfl
theorem tw148 : Cond.selects "CasebookSteps" yX6_cases yX6_cases ∈ gl := gl_at 179 (by decide +kernel) rfl
theorem tw149 : Cond.code yX6_cases prog_1_method_34_code 1 (some FieldType.int) ∈ gl := gl_at 180 (by decide +kernel) rfl
theorem tw150 : Cond.methodLink "CasebookStepsLaw" 249 yX6_daysWorked ∈ gl := gl_at 181 (by decide +kernel) rfl
theorem tw151 : Cond.instanceMethod yX6_daysWorked ∈ gl := gl_at 182 (by decide +kernel) rfl
theorem tw152 : Cond.selects "CasebookSteps" yX6_daysWorked yX6_daysWorked ∈ gl := gl_at 183 (by decide +kernel) rfl
theorem tw153 : Cond.code yX6_daysWorked prog_1_method_35_code 5 (some FieldType.long) ∈ gl := gl_at 184 (by decide +kernel) rfl
theorem tw154 : Cond.methodLink "CasebookSteps" 203 yX6_caseAt ∈ gl := gl_at 185 (by decide +kernel) rfl
theorem tw156 : Cond.instanceMethod yX6_caseAt ∈ gl := gl_at 187 (by decide +kernel) rfl
theorem tw157 : Cond.code yX6_caseAt prog_1_method_46_code 2 (some (FieldType.object "CasebookSteps$Case")) ∈ gl := gl_at 188 (by decide +kernel) rfl
theorem tw158 : Cond.methodLink "CasebookSteps" 268 yX0_sumOfClocks ∈ gl := gl_at 189 (by decide +kernel) rfl
theorem tw159 : Cond.instanceMethod yX0_sumOfClocks ∈ gl := gl_at 190 (by decide +kernel) rfl
theorem tw160 : Cond.selects "CasebookSteps$Case" yX0_sumOfClocks yX0_sumOfClocks ∈ gl := gl_at 191 (by decide +kernel) rfl
theorem tw161 : Cond.code yX0_sumOfClocks prog_2_method_27_code 4 (some FieldType.long) ∈ gl := gl_at 192 (by decide +kernel) rfl
theorem tw162 : Cond.methodLink "CasebookSteps$Case" 144 yX0_clockOf ∈ gl := gl_at 193 (by decide +kernel) rfl
theorem tw163 : Cond.instanceMethod yX0_clockOf ∈ gl := gl_at 194 (by decide +kernel) rfl
theorem tw164 : Cond.selects "CasebookSteps$Case" yX0_clockOf yX0_clockOf ∈ gl := gl_at 195 (by decide +kernel) rfl
theorem tw165 : Cond.code yX0_clockOf prog_2_method_17_code 2 (some FieldType.int) ∈ gl := gl_at 196 (by decide +kernel) rfl
theorem tw166 : Cond.methodLink "CasebookStepsLaw" 135 yL_addPlan ∈ gl := gl_at 197 (by decide +kernel) rfl
theorem tw167 : Cond.static yL_addPlan ∈ gl := gl_at 198 (by decide +kernel) rfl
theorem tw168 : Cond.codeWith yL_addPlan method_3_code 3 (some FieldType.int) [(0, 8, 11, 13)] ∈ gl := gl_at 199 (by decide +kernel) rfl
theorem tw169 : Cond.classLink "CasebookStepsLaw" 13 "java/lang/IllegalStateException" ∈ gl := gl_at 200 (by decide +kernel) rfl
theorem tw170 : Cond.methodLink "CasebookStepsLaw" 7 yX6_addPlan ∈ gl := gl_at 201 (by decide +kernel) rfl
theorem tw171 : Cond.instanceMethod yX6_addPlan ∈ gl := gl_at 202 (by decide +kernel) rfl
theorem tw172 : Cond.selects "CasebookSteps" yX6_addPlan yX6_addPlan ∈ gl := gl_at 203 (by decide +kernel) rfl
theorem tw173 : Cond.code yX6_addPlan prog_1_method_2_code 2 (some FieldType.int) ∈ gl := gl_at 204 (by decide +kernel) rfl
theorem tw174 : Cond.classLink "CasebookSteps" 45 "java/lang/IllegalStateException" ∈ gl := gl_at 205 (by decide +kernel) rfl
theorem tw175 : Cond.instantiable "java/lang/IllegalStateException" 6 ∈ gl := gl_at 206 (by decide +kernel) rfl
theorem tw195 : Cond.fieldLink "java/lang/Throwable" 198 "java/lang/Throwable" "backtrace" "Ljava/lang/Object;" ∈ gl := gl_at 226 (by decide +kernel) rfl
theorem tw199 : Cond.methodLink "java/lang/Throwable" 1 (⟨"java/lang/Object", "<init>", "()V"⟩ : MethodName) ∈ gl := gl_at 230 (by decide +kernel) rfl
theorem tw200 : Cond.fieldLink "java/lang/Throwable" 13 "java/lang/Throwable" "UNASSIGNED_STACK" "[Ljava/lang/StackTraceElement;" ∈ gl := gl_at 231 (by decide +kernel) rfl
theorem tw202 : Cond.fieldLink "java/lang/Throwable" 20 "java/lang/Throwable" "SUPPRESSED_SENTINEL" "Ljava/util/List;" ∈ gl := gl_at 233 (by decide +kernel) rfl
theorem tw215 : Cond.instantiable "java/lang/Throwable" 6 ∈ gl := gl_at 246 (by decide +kernel) rfl
theorem tw230 : Cond.fieldLink "java/lang/Throwable" 198 "java/lang/Throwable" "backtrace" "Ljava/lang/Object;" ∈ gl := gl_at 261 (by decide +kernel) rfl
theorem tw231 : Cond.fieldLink "java/lang/Throwable" 31 "java/lang/Throwable" "detailMessage" "Ljava/lang/String;" ∈ gl := gl_at 262 (by decide +kernel) rfl
theorem tw232 : Cond.fieldLink "java/lang/Throwable" 7 "java/lang/Throwable" "cause" "Ljava/lang/Throwable;" ∈ gl := gl_at 263 (by decide +kernel) rfl
theorem tw233 : Cond.fieldLink "java/lang/Throwable" 17 "java/lang/Throwable" "stackTrace" "[Ljava/lang/StackTraceElement;" ∈ gl := gl_at 264 (by decide +kernel) rfl
theorem tw234 : Cond.fieldLink "java/lang/Throwable" 24 "java/lang/Throwable" "suppressedExceptions" "Ljava/util/List;" ∈ gl := gl_at 265 (by decide +kernel) rfl
theorem tw243 : Cond.arrayClass FieldType.byte ∈ gl := gl_at 274 (by decide +kernel) rfl
theorem tw244 : Cond.methodLink "CasebookStepsLaw" 144 yL_addStep ∈ gl := gl_at 275 (by decide +kernel) rfl
theorem tw245 : Cond.static yL_addStep ∈ gl := gl_at 276 (by decide +kernel) rfl
theorem tw246 : Cond.codeWith yL_addStep method_4_code 6 (some FieldType.int) [(0, 12, 15, 19), (0, 12, 19, 21), (0, 12, 23, 13)] ∈ gl := gl_at 277 (by decide +kernel) rfl
theorem tw247 : Cond.classLink "CasebookStepsLaw" 19 "java/lang/IndexOutOfBoundsException" ∈ gl := gl_at 278 (by decide +kernel) rfl
theorem tw248 : Cond.classLink "CasebookStepsLaw" 21 "java/lang/IllegalArgumentException" ∈ gl := gl_at 279 (by decide +kernel) rfl
theorem tw249 : Cond.methodLink "CasebookStepsLaw" 15 yX6_addStep ∈ gl := gl_at 280 (by decide +kernel) rfl
theorem tw250 : Cond.instanceMethod yX6_addStep ∈ gl := gl_at 281 (by decide +kernel) rfl
theorem tw251 : Cond.selects "CasebookSteps" yX6_addStep yX6_addStep ∈ gl := gl_at 282 (by decide +kernel) rfl
theorem tw252 : Cond.code yX6_addStep prog_1_method_3_code 5 (some FieldType.int) ∈ gl := gl_at 283 (by decide +kernel) rfl
theorem tw253 : Cond.methodLink "CasebookSteps" 52 yX6_existingPlan ∈ gl := gl_at 284 (by decide +kernel) rfl
theorem tw255 : Cond.instanceMethod yX6_existingPlan ∈ gl := gl_at 286 (by decide +kernel) rfl
theorem tw256 : Cond.code yX6_existingPlan prog_1_method_47_code 3 (some (FieldType.object "CasebookSteps$Plan")) ∈ gl := gl_at 287 (by decide +kernel) rfl
theorem tw257 : Cond.methodLink "CasebookSteps" 289 yX6_planAt ∈ gl := gl_at 288 (by decide +kernel) rfl
theorem tw259 : Cond.instanceMethod yX6_planAt ∈ gl := gl_at 290 (by decide +kernel) rfl
theorem tw260 : Cond.code yX6_planAt prog_1_method_45_code 2 (some (FieldType.object "CasebookSteps$Plan")) ∈ gl := gl_at 291 (by decide +kernel) rfl
theorem tw261 : Cond.classLink "CasebookSteps" 292 "java/lang/IndexOutOfBoundsException" ∈ gl := gl_at 292 (by decide +kernel) rfl
theorem tw262 : Cond.instantiable "java/lang/IndexOutOfBoundsException" 6 ∈ gl := gl_at 293 (by decide +kernel) rfl
theorem tw277 : Cond.classLink "CasebookSteps" 56 "java/lang/IllegalArgumentException" ∈ gl := gl_at 308 (by decide +kernel) rfl
theorem tw278 : Cond.instantiable "java/lang/IllegalArgumentException" 6 ∈ gl := gl_at 309 (by decide +kernel) rfl
theorem tw293 : Cond.methodLink "CasebookSteps" 61 yX4_isStage ∈ gl := gl_at 324 (by decide +kernel) rfl
theorem tw294 : Cond.instanceMethod yX4_isStage ∈ gl := gl_at 325 (by decide +kernel) rfl
theorem tw295 : Cond.selects "CasebookSteps$Plan" yX4_isStage yX4_isStage ∈ gl := gl_at 326 (by decide +kernel) rfl
theorem tw296 : Cond.code yX4_isStage prog_6_method_4_code 3 (some FieldType.boolean) ∈ gl := gl_at 327 (by decide +kernel) rfl
theorem tw297 : Cond.methodLink "CasebookSteps$Plan" 28 yX4_stepAt ∈ gl := gl_at 328 (by decide +kernel) rfl
theorem tw298 : Cond.instanceMethod yX4_stepAt ∈ gl := gl_at 329 (by decide +kernel) rfl
theorem tw299 : Cond.selects "CasebookSteps$Plan" yX4_stepAt yX4_stepAt ∈ gl := gl_at 330 (by decide +kernel) rfl
theorem tw300 : Cond.code yX4_stepAt prog_6_method_3_code 2 (some (FieldType.object "CasebookSteps$Step")) ∈ gl := gl_at 331 (by decide +kernel) rfl
theorem tw302 : Cond.methodLink "CasebookSteps" 67 yX6_refuseUsed ∈ gl := gl_at 333 (by decide +kernel) rfl
theorem tw303 : Cond.static yX6_refuseUsed ∈ gl := gl_at 334 (by decide +kernel) rfl
theorem tw304 : Cond.code yX6_refuseUsed prog_1_method_43_code 1 (Option.none : Option Jvm.ClassFile.FieldType) ∈ gl := gl_at 335 (by decide +kernel) rfl
theorem tw307 : Cond.classLink "CasebookSteps" 75 "CasebookSteps$Step" ∈ gl := gl_at 338 (by decide +kernel) rfl
theorem tw308 : Cond.instantiable "CasebookSteps$Step" 7 ∈ gl := gl_at 339 (by decide +kernel) rfl
theorem tw309 : Cond.methodLink "CasebookSteps" 77 yX5_init ∈ gl := gl_at 340 (by decide +kernel) rfl
theorem tw310 : Cond.instanceMethod yX5_init ∈ gl := gl_at 341 (by decide +kernel) rfl
theorem tw311 : Cond.code yX5_init prog_7_method_1_code 3 (Option.none : Option Jvm.ClassFile.FieldType) ∈ gl := gl_at 342 (by decide +kernel) rfl
theorem tw312 : Cond.methodLink "CasebookSteps$Step" 3 (⟨"java/lang/Object", "<init>", "()V"⟩ : MethodName) ∈ gl := gl_at 343 (by decide +kernel) rfl
theorem tw313 : Cond.classLink "CasebookSteps$Step" 9 "CasebookSteps$Conditions" ∈ gl := gl_at 344 (by decide +kernel) rfl
theorem tw314 : Cond.instantiable "CasebookSteps$Conditions" 2 ∈ gl := gl_at 345 (by decide +kernel) rfl
theorem tw316 : Cond.instanceMethod yX2_init ∈ gl := gl_at 347 (by decide +kernel) rfl
theorem tw317 : Cond.code yX2_init prog_4_method_1_code 1 (Option.none : Option Jvm.ClassFile.FieldType) ∈ gl := gl_at 348 (by decide +kernel) rfl
theorem tw318 : Cond.methodLink "CasebookSteps$Conditions" 3 (⟨"java/lang/Object", "<init>", "()V"⟩ : MethodName) ∈ gl := gl_at 349 (by decide +kernel) rfl
theorem tw319 : Cond.classLink "CasebookSteps$Conditions" 9 "CasebookSteps$Condition" ∈ gl := gl_at 350 (by decide +kernel) rfl
theorem tw321 : Cond.fieldLink "CasebookSteps$Conditions" 11 "CasebookSteps$Conditions" "rows" "[LCasebookSteps$Condition;" ∈ gl := gl_at 352 (by decide +kernel) rfl
theorem tw322 : Cond.fieldLink "CasebookSteps$Conditions" 17 "CasebookSteps$Conditions" "size" "I" ∈ gl := gl_at 353 (by decide +kernel) rfl
theorem tw323 : Cond.fieldLink "CasebookSteps$Case" 97 "CasebookSteps$Conditions" "size" "I" ∈ gl := gl_at 354 (by decide +kernel) rfl
theorem tw324 : Cond.fieldLink "CasebookSteps" 282 "CasebookSteps$Conditions" "size" "I" ∈ gl := gl_at 355 (by decide +kernel) rfl
theorem tw330 : Cond.fieldLink "CasebookSteps$Step" 32 "CasebookSteps$Step" "kind" "C" ∈ gl := gl_at 361 (by decide +kernel) rfl
theorem tw331 : Cond.fieldLink "CasebookSteps$Plan" 32 "CasebookSteps$Step" "kind" "C" ∈ gl := gl_at 362 (by decide +kernel) rfl
theorem tw332 : Cond.fieldLink "CasebookSteps" 110 "CasebookSteps$Step" "kind" "C" ∈ gl := gl_at 363 (by decide +kernel) rfl
theorem tw333 : Cond.fieldLink "CasebookSteps$Case" 100 "CasebookSteps$Step" "kind" "C" ∈ gl := gl_at 364 (by decide +kernel) rfl
theorem tw334 : Cond.fieldLink "CasebookSteps$Step" 36 "CasebookSteps$Step" "parent" "I" ∈ gl := gl_at 365 (by decide +kernel) rfl
theorem tw335 : Cond.fieldLink "CasebookSteps$Case" 116 "CasebookSteps$Step" "parent" "I" ∈ gl := gl_at 366 (by decide +kernel) rfl
theorem tw336 : Cond.fieldLink "CasebookSteps$Step" 12 "CasebookSteps$Step" "entries" "LCasebookSteps$Conditions;" ∈ gl := gl_at 367 (by decide +kernel) rfl
theorem tw337 : Cond.fieldLink "CasebookSteps" 92 "CasebookSteps$Step" "entries" "LCasebookSteps$Conditions;" ∈ gl := gl_at 368 (by decide +kernel) rfl
theorem tw338 : Cond.fieldLink "CasebookSteps$Case" 94 "CasebookSteps$Step" "entries" "LCasebookSteps$Conditions;" ∈ gl := gl_at 369 (by decide +kernel) rfl
theorem tw339 : Cond.fieldLink "CasebookSteps$Step" 18 "CasebookSteps$Step" "exits" "LCasebookSteps$Conditions;" ∈ gl := gl_at 370 (by decide +kernel) rfl
theorem tw340 : Cond.fieldLink "CasebookSteps" 119 "CasebookSteps$Step" "exits" "LCasebookSteps$Conditions;" ∈ gl := gl_at 371 (by decide +kernel) rfl
theorem tw341 : Cond.fieldLink "CasebookSteps$Case" 76 "CasebookSteps$Step" "exits" "LCasebookSteps$Conditions;" ∈ gl := gl_at 372 (by decide +kernel) rfl
theorem tw342 : Cond.fieldLink "CasebookSteps$Step" 21 "CasebookSteps$Step" "required" "Z" ∈ gl := gl_at 373 (by decide +kernel) rfl
theorem tw343 : Cond.fieldLink "CasebookSteps" 126 "CasebookSteps$Step" "required" "Z" ∈ gl := gl_at 374 (by decide +kernel) rfl
theorem tw344 : Cond.fieldLink "CasebookSteps$Case" 119 "CasebookSteps$Step" "required" "Z" ∈ gl := gl_at 375 (by decide +kernel) rfl
theorem tw345 : Cond.fieldLink "CasebookSteps$Step" 25 "CasebookSteps$Step" "limit" "I" ∈ gl := gl_at 376 (by decide +kernel) rfl
theorem tw346 : Cond.fieldLink "CasebookSteps" 132 "CasebookSteps$Step" "limit" "I" ∈ gl := gl_at 377 (by decide +kernel) rfl
theorem tw347 : Cond.fieldLink "CasebookSteps$Case" 141 "CasebookSteps$Step" "limit" "I" ∈ gl := gl_at 378 (by decide +kernel) rfl
theorem tw348 : Cond.fieldLink "CasebookSteps$Step" 29 "CasebookSteps$Step" "again" "Z" ∈ gl := gl_at 379 (by decide +kernel) rfl
theorem tw349 : Cond.fieldLink "CasebookSteps$Case" 110 "CasebookSteps$Step" "again" "Z" ∈ gl := gl_at 380 (by decide +kernel) rfl
theorem tw350 : Cond.fieldLink "CasebookSteps" 137 "CasebookSteps$Step" "again" "Z" ∈ gl := gl_at 381 (by decide +kernel) rfl
theorem tw366 : Cond.methodLink "CasebookSteps" 80 yX4_append ∈ gl := gl_at 397 (by decide +kernel) rfl
theorem tw367 : Cond.instanceMethod yX4_append ∈ gl := gl_at 398 (by decide +kernel) rfl
theorem tw368 : Cond.selects "CasebookSteps$Plan" yX4_append yX4_append ∈ gl := gl_at 399 (by decide +kernel) rfl
theorem tw369 : Cond.code yX4_append prog_6_method_2_code 3 (some FieldType.int) ∈ gl := gl_at 400 (by decide +kernel) rfl
theorem tw370 : Cond.methodLink "CasebookStepsLaw" 148 yL_addEntry ∈ gl := gl_at 401 (by decide +kernel) rfl
theorem tw371 : Cond.static yL_addEntry ∈ gl := gl_at 402 (by decide +kernel) rfl
theorem tw372 : Cond.codeWith yL_addEntry method_5_code 8 (some FieldType.int) [(0, 16, 19, 19), (0, 16, 23, 21), (0, 16, 27, 13)] ∈ gl := gl_at 403 (by decide +kernel) rfl
theorem tw373 : Cond.methodLink "CasebookStepsLaw" 23 yX6_addEntry ∈ gl := gl_at 404 (by decide +kernel) rfl
theorem tw374 : Cond.instanceMethod yX6_addEntry ∈ gl := gl_at 405 (by decide +kernel) rfl
theorem tw375 : Cond.selects "CasebookSteps" yX6_addEntry yX6_addEntry ∈ gl := gl_at 406 (by decide +kernel) rfl
theorem tw376 : Cond.code yX6_addEntry prog_1_method_4_code 8 (some FieldType.int) ∈ gl := gl_at 407 (by decide +kernel) rfl
theorem tw377 : Cond.methodLink "CasebookSteps" 84 yX6_existingStep ∈ gl := gl_at 408 (by decide +kernel) rfl
theorem tw378 : Cond.static yX6_existingStep ∈ gl := gl_at 409 (by decide +kernel) rfl
theorem tw379 : Cond.code yX6_existingStep prog_1_method_49_code 3 (some (FieldType.object "CasebookSteps$Step")) ∈ gl := gl_at 410 (by decide +kernel) rfl
theorem tw380 : Cond.methodLink "CasebookSteps" 272 yX4_stepAt ∈ gl := gl_at 411 (by decide +kernel) rfl
theorem tw382 : Cond.methodLink "CasebookSteps" 88 yX6_refuseWrongCondition ∈ gl := gl_at 413 (by decide +kernel) rfl
theorem tw383 : Cond.static yX6_refuseWrongCondition ∈ gl := gl_at 414 (by decide +kernel) rfl
theorem tw384 : Cond.code yX6_refuseWrongCondition prog_1_method_41_code 4 (Option.none : Option Jvm.ClassFile.FieldType) ∈ gl := gl_at 415 (by decide +kernel) rfl
theorem tw385 : Cond.methodLink "CasebookSteps" 276 yX6_isCondition ∈ gl := gl_at 416 (by decide +kernel) rfl
theorem tw386 : Cond.static yX6_isCondition ∈ gl := gl_at 417 (by decide +kernel) rfl
theorem tw387 : Cond.code yX6_isCondition prog_1_method_40_code 4 (some FieldType.boolean) ∈ gl := gl_at 418 (by decide +kernel) rfl
theorem tw388 : Cond.methodLink "CasebookSteps" 155 yX6_isDatum ∈ gl := gl_at 419 (by decide +kernel) rfl
theorem tw389 : Cond.static yX6_isDatum ∈ gl := gl_at 420 (by decide +kernel) rfl
theorem tw390 : Cond.code yX6_isDatum prog_1_method_37_code 1 (some FieldType.boolean) ∈ gl := gl_at 421 (by decide +kernel) rfl
theorem tw391 : Cond.methodLink "CasebookSteps" 160 yX6_isValue ∈ gl := gl_at 422 (by decide +kernel) rfl
theorem tw392 : Cond.static yX6_isValue ∈ gl := gl_at 423 (by decide +kernel) rfl
theorem tw393 : Cond.code yX6_isValue prog_1_method_39_code 1 (some FieldType.boolean) ∈ gl := gl_at 424 (by decide +kernel) rfl
theorem tw394 : Cond.methodLink "CasebookSteps" 169 yX6_isEvent ∈ gl := gl_at 425 (by decide +kernel) rfl
theorem tw395 : Cond.static yX6_isEvent ∈ gl := gl_at 426 (by decide +kernel) rfl
theorem tw396 : Cond.code yX6_isEvent prog_1_method_38_code 1 (some FieldType.boolean) ∈ gl := gl_at 427 (by decide +kernel) rfl
theorem tw398 : Cond.methodLink "CasebookSteps" 96 yX6_refuseFull ∈ gl := gl_at 429 (by decide +kernel) rfl
theorem tw399 : Cond.static yX6_refuseFull ∈ gl := gl_at 430 (by decide +kernel) rfl
theorem tw400 : Cond.code yX6_refuseFull prog_1_method_42_code 1 (Option.none : Option Jvm.ClassFile.FieldType) ∈ gl := gl_at 431 (by decide +kernel) rfl
theorem tw402 : Cond.classLink "CasebookSteps" 100 "CasebookSteps$Condition" ∈ gl := gl_at 433 (by decide +kernel) rfl
theorem tw403 : Cond.instantiable "CasebookSteps$Condition" 3 ∈ gl := gl_at 434 (by decide +kernel) rfl
theorem tw404 : Cond.methodLink "CasebookSteps" 102 yX1_init ∈ gl := gl_at 435 (by decide +kernel) rfl
theorem tw405 : Cond.instanceMethod yX1_init ∈ gl := gl_at 436 (by decide +kernel) rfl
theorem tw406 : Cond.code yX1_init prog_3_method_1_code 4 (Option.none : Option Jvm.ClassFile.FieldType) ∈ gl := gl_at 437 (by decide +kernel) rfl
theorem tw407 : Cond.methodLink "CasebookSteps$Condition" 1 (⟨"java/lang/Object", "<init>", "()V"⟩ : MethodName) ∈ gl := gl_at 438 (by decide +kernel) rfl
theorem tw408 : Cond.fieldLink "CasebookSteps$Condition" 7 "CasebookSteps$Condition" "sort" "C" ∈ gl := gl_at 439 (by decide +kernel) rfl
theorem tw409 : Cond.fieldLink "CasebookSteps$Case" 130 "CasebookSteps$Condition" "sort" "C" ∈ gl := gl_at 440 (by decide +kernel) rfl
theorem tw410 : Cond.fieldLink "CasebookSteps$Condition" 13 "CasebookSteps$Condition" "a" "I" ∈ gl := gl_at 441 (by decide +kernel) rfl
theorem tw411 : Cond.fieldLink "CasebookSteps$Case" 135 "CasebookSteps$Condition" "a" "I" ∈ gl := gl_at 442 (by decide +kernel) rfl
theorem tw412 : Cond.fieldLink "CasebookSteps$Condition" 17 "CasebookSteps$Condition" "b" "I" ∈ gl := gl_at 443 (by decide +kernel) rfl
theorem tw413 : Cond.fieldLink "CasebookSteps$Case" 138 "CasebookSteps$Condition" "b" "I" ∈ gl := gl_at 444 (by decide +kernel) rfl
theorem tw421 : Cond.methodLink "CasebookSteps" 105 yX2_append ∈ gl := gl_at 452 (by decide +kernel) rfl
theorem tw422 : Cond.instanceMethod yX2_append ∈ gl := gl_at 453 (by decide +kernel) rfl
theorem tw423 : Cond.selects "CasebookSteps$Conditions" yX2_append yX2_append ∈ gl := gl_at 454 (by decide +kernel) rfl
theorem tw424 : Cond.code yX2_append prog_4_method_2_code 2 (some FieldType.int) ∈ gl := gl_at 455 (by decide +kernel) rfl
theorem tw425 : Cond.methodLink "CasebookStepsLaw" 152 yL_addExit ∈ gl := gl_at 456 (by decide +kernel) rfl
theorem tw426 : Cond.static yL_addExit ∈ gl := gl_at 457 (by decide +kernel) rfl
theorem tw427 : Cond.codeWith yL_addExit method_6_code 8 (some FieldType.int) [(0, 16, 19, 19), (0, 16, 23, 21), (0, 16, 27, 30), (0, 16, 31, 13)] ∈ gl := gl_at 458 (by decide +kernel) rfl
theorem tw428 : Cond.classLink "CasebookStepsLaw" 30 "java/lang/UnsupportedOperationException" ∈ gl := gl_at 459 (by decide +kernel) rfl
theorem tw429 : Cond.methodLink "CasebookStepsLaw" 27 yX6_addExit ∈ gl := gl_at 460 (by decide +kernel) rfl
theorem tw430 : Cond.instanceMethod yX6_addExit ∈ gl := gl_at 461 (by decide +kernel) rfl
theorem tw431 : Cond.selects "CasebookSteps" yX6_addExit yX6_addExit ∈ gl := gl_at 462 (by decide +kernel) rfl
theorem tw432 : Cond.code yX6_addExit prog_1_method_5_code 8 (some FieldType.int) ∈ gl := gl_at 463 (by decide +kernel) rfl
theorem tw433 : Cond.classLink "CasebookSteps" 114 "java/lang/UnsupportedOperationException" ∈ gl := gl_at 464 (by decide +kernel) rfl
theorem tw434 : Cond.instantiable "java/lang/UnsupportedOperationException" 6 ∈ gl := gl_at 465 (by decide +kernel) rfl
theorem tw449 : Cond.methodLink "CasebookStepsLaw" 155 yL_setRequired ∈ gl := gl_at 480 (by decide +kernel) rfl
theorem tw450 : Cond.static yL_setRequired ∈ gl := gl_at 481 (by decide +kernel) rfl
theorem tw451 : Cond.codeWith yL_setRequired method_7_code 6 (some FieldType.int) [(0, 19, 22, 19), (0, 19, 26, 30), (0, 19, 30, 13)] ∈ gl := gl_at 482 (by decide +kernel) rfl
theorem tw452 : Cond.methodLink "CasebookStepsLaw" 32 yX6_setRequired ∈ gl := gl_at 483 (by decide +kernel) rfl
theorem tw453 : Cond.instanceMethod yX6_setRequired ∈ gl := gl_at 484 (by decide +kernel) rfl
theorem tw454 : Cond.selects "CasebookSteps" yX6_setRequired yX6_setRequired ∈ gl := gl_at 485 (by decide +kernel) rfl
theorem tw455 : Cond.code yX6_setRequired prog_1_method_6_code 7 (some FieldType.boolean) ∈ gl := gl_at 486 (by decide +kernel) rfl
theorem tw456 : Cond.methodLink "CasebookSteps" 122 yX6_refuseOtherThanTask ∈ gl := gl_at 487 (by decide +kernel) rfl
theorem tw457 : Cond.static yX6_refuseOtherThanTask ∈ gl := gl_at 488 (by decide +kernel) rfl
theorem tw458 : Cond.code yX6_refuseOtherThanTask prog_1_method_44_code 1 (Option.none : Option Jvm.ClassFile.FieldType) ∈ gl := gl_at 489 (by decide +kernel) rfl
theorem tw460 : Cond.methodLink "CasebookStepsLaw" 159 yL_setLimit ∈ gl := gl_at 491 (by decide +kernel) rfl
theorem tw461 : Cond.static yL_setLimit ∈ gl := gl_at 492 (by decide +kernel) rfl
theorem tw462 : Cond.codeWith yL_setLimit method_8_code 6 (some FieldType.int) [(0, 12, 15, 19), (0, 12, 19, 21), (0, 12, 23, 30), (0, 12, 27, 13)] ∈ gl := gl_at 493 (by decide +kernel) rfl
theorem tw463 : Cond.methodLink "CasebookStepsLaw" 36 yX6_setLimit ∈ gl := gl_at 494 (by decide +kernel) rfl
theorem tw464 : Cond.instanceMethod yX6_setLimit ∈ gl := gl_at 495 (by decide +kernel) rfl
theorem tw465 : Cond.selects "CasebookSteps" yX6_setLimit yX6_setLimit ∈ gl := gl_at 496 (by decide +kernel) rfl
theorem tw466 : Cond.code yX6_setLimit prog_1_method_7_code 7 (some FieldType.int) ∈ gl := gl_at 497 (by decide +kernel) rfl
theorem tw468 : Cond.methodLink "CasebookStepsLaw" 163 yL_setAgain ∈ gl := gl_at 499 (by decide +kernel) rfl
theorem tw469 : Cond.static yL_setAgain ∈ gl := gl_at 500 (by decide +kernel) rfl
theorem tw470 : Cond.codeWith yL_setAgain method_9_code 6 (some FieldType.int) [(0, 19, 22, 19), (0, 19, 26, 30), (0, 19, 30, 13)] ∈ gl := gl_at 501 (by decide +kernel) rfl
theorem tw471 : Cond.methodLink "CasebookStepsLaw" 40 yX6_setAgain ∈ gl := gl_at 502 (by decide +kernel) rfl
theorem tw472 : Cond.instanceMethod yX6_setAgain ∈ gl := gl_at 503 (by decide +kernel) rfl
theorem tw473 : Cond.selects "CasebookSteps" yX6_setAgain yX6_setAgain ∈ gl := gl_at 504 (by decide +kernel) rfl
theorem tw474 : Cond.code yX6_setAgain prog_1_method_8_code 7 (some FieldType.boolean) ∈ gl := gl_at 505 (by decide +kernel) rfl
theorem tw476 : Cond.methodLink "CasebookStepsLaw" 166 yL_steps ∈ gl := gl_at 507 (by decide +kernel) rfl
theorem tw477 : Cond.static yL_steps ∈ gl := gl_at 508 (by decide +kernel) rfl
theorem tw478 : Cond.codeWith yL_steps method_10_code 4 (some FieldType.int) [(0, 9, 12, 19)] ∈ gl := gl_at 509 (by decide +kernel) rfl
theorem tw479 : Cond.methodLink "CasebookStepsLaw" 43 yX6_steps ∈ gl := gl_at 510 (by decide +kernel) rfl
theorem tw480 : Cond.instanceMethod yX6_steps ∈ gl := gl_at 511 (by decide +kernel) rfl
theorem tw481 : Cond.selects "CasebookSteps" yX6_steps yX6_steps ∈ gl := gl_at 512 (by decide +kernel) rfl
theorem tw482 : Cond.code yX6_steps prog_1_method_9_code 2 (some FieldType.int) ∈ gl := gl_at 513 (by decide +kernel) rfl
theorem tw483 : Cond.methodLink "CasebookStepsLaw" 170 yL_isUsed ∈ gl := gl_at 514 (by decide +kernel) rfl
theorem tw484 : Cond.static yL_isUsed ∈ gl := gl_at 515 (by decide +kernel) rfl
theorem tw485 : Cond.codeWith yL_isUsed method_11_code 4 (some FieldType.int) [(0, 16, 19, 19)] ∈ gl := gl_at 516 (by decide +kernel) rfl
theorem tw486 : Cond.methodLink "CasebookStepsLaw" 47 yX6_isUsed ∈ gl := gl_at 517 (by decide +kernel) rfl
theorem tw487 : Cond.instanceMethod yX6_isUsed ∈ gl := gl_at 518 (by decide +kernel) rfl
theorem tw488 : Cond.selects "CasebookSteps" yX6_isUsed yX6_isUsed ∈ gl := gl_at 519 (by decide +kernel) rfl
theorem tw489 : Cond.code yX6_isUsed prog_1_method_10_code 2 (some FieldType.boolean) ∈ gl := gl_at 520 (by decide +kernel) rfl
theorem tw490 : Cond.methodLink "CasebookStepsLaw" 173 yL_begin ∈ gl := gl_at 521 (by decide +kernel) rfl
theorem tw491 : Cond.static yL_begin ∈ gl := gl_at 522 (by decide +kernel) rfl
theorem tw492 : Cond.codeWith yL_begin method_12_code 4 (some FieldType.int) [(0, 9, 12, 19), (0, 9, 15, 13)] ∈ gl := gl_at 523 (by decide +kernel) rfl
theorem tw493 : Cond.methodLink "CasebookStepsLaw" 51 yX6_begin ∈ gl := gl_at 524 (by decide +kernel) rfl
theorem tw494 : Cond.instanceMethod yX6_begin ∈ gl := gl_at 525 (by decide +kernel) rfl
theorem tw495 : Cond.selects "CasebookSteps" yX6_begin yX6_begin ∈ gl := gl_at 526 (by decide +kernel) rfl
theorem tw496 : Cond.code yX6_begin prog_1_method_11_code 5 (some FieldType.int) ∈ gl := gl_at 527 (by decide +kernel) rfl
theorem tw499 : Cond.methodLink "CasebookSteps" 147 yX6_noteAndDo ∈ gl := gl_at 530 (by decide +kernel) rfl
theorem tw501 : Cond.instanceMethod yX6_noteAndDo ∈ gl := gl_at 532 (by decide +kernel) rfl
theorem tw502 : Cond.code yX6_noteAndDo prog_1_method_51_code 6 (Option.none : Option Jvm.ClassFile.FieldType) ∈ gl := gl_at 533 (by decide +kernel) rfl
theorem tw503 : Cond.methodLink "CasebookSteps" 200 yX3_append ∈ gl := gl_at 534 (by decide +kernel) rfl
theorem tw504 : Cond.instanceMethod yX3_append ∈ gl := gl_at 535 (by decide +kernel) rfl
theorem tw505 : Cond.selects "CasebookSteps$Journal" yX3_append yX3_append ∈ gl := gl_at 536 (by decide +kernel) rfl
theorem tw506 : Cond.code yX3_append prog_5_method_2_code 5 (Option.none : Option Jvm.ClassFile.FieldType) ∈ gl := gl_at 537 (by decide +kernel) rfl
theorem tw507 : Cond.methodLink "CasebookSteps" 206 yX6_letHappen ∈ gl := gl_at 538 (by decide +kernel) rfl
theorem tw509 : Cond.instanceMethod yX6_letHappen ∈ gl := gl_at 540 (by decide +kernel) rfl
theorem tw510 : Cond.code yX6_letHappen prog_1_method_52_code 5 (Option.none : Option Jvm.ClassFile.FieldType) ∈ gl := gl_at 541 (by decide +kernel) rfl
theorem tw511 : Cond.methodLink "CasebookSteps" 301 yX0_beginAnew ∈ gl := gl_at 542 (by decide +kernel) rfl
theorem tw512 : Cond.instanceMethod yX0_beginAnew ∈ gl := gl_at 543 (by decide +kernel) rfl
theorem tw513 : Cond.selects "CasebookSteps$Case" yX0_beginAnew yX0_beginAnew ∈ gl := gl_at 544 (by decide +kernel) rfl
theorem tw514 : Cond.code yX0_beginAnew prog_2_method_2_code 3 (Option.none : Option Jvm.ClassFile.FieldType) ∈ gl := gl_at 545 (by decide +kernel) rfl
theorem tw515 : Cond.methodLink "CasebookSteps$Case" 49 yX0_goBy ∈ gl := gl_at 546 (by decide +kernel) rfl
theorem tw516 : Cond.instanceMethod yX0_goBy ∈ gl := gl_at 547 (by decide +kernel) rfl
theorem tw517 : Cond.selects "CasebookSteps$Case" yX0_goBy yX0_goBy ∈ gl := gl_at 548 (by decide +kernel) rfl
theorem tw518 : Cond.code yX0_goBy prog_2_method_3_code 2 (Option.none : Option Jvm.ClassFile.FieldType) ∈ gl := gl_at 549 (by decide +kernel) rfl
theorem tw519 : Cond.methodLink "CasebookSteps" 304 yX0_putValue ∈ gl := gl_at 550 (by decide +kernel) rfl
theorem tw520 : Cond.instanceMethod yX0_putValue ∈ gl := gl_at 551 (by decide +kernel) rfl
theorem tw521 : Cond.selects "CasebookSteps$Case" yX0_putValue yX0_putValue ∈ gl := gl_at 552 (by decide +kernel) rfl
theorem tw522 : Cond.code yX0_putValue prog_2_method_4_code 3 (Option.none : Option Jvm.ClassFile.FieldType) ∈ gl := gl_at 553 (by decide +kernel) rfl
theorem tw524 : Cond.methodLink "CasebookSteps" 311 yX0_finish ∈ gl := gl_at 555 (by decide +kernel) rfl
theorem tw525 : Cond.instanceMethod yX0_finish ∈ gl := gl_at 556 (by decide +kernel) rfl
theorem tw526 : Cond.selects "CasebookSteps$Case" yX0_finish yX0_finish ∈ gl := gl_at 557 (by decide +kernel) rfl
theorem tw527 : Cond.code yX0_finish prog_2_method_10_code 6 (Option.none : Option Jvm.ClassFile.FieldType) ∈ gl := gl_at 558 (by decide +kernel) rfl
theorem tw528 : Cond.methodLink "CasebookSteps$Case" 113 yX0_putState ∈ gl := gl_at 559 (by decide +kernel) rfl
theorem tw529 : Cond.instanceMethod yX0_putState ∈ gl := gl_at 560 (by decide +kernel) rfl
theorem tw530 : Cond.selects "CasebookSteps$Case" yX0_putState yX0_putState ∈ gl := gl_at 561 (by decide +kernel) rfl
theorem tw531 : Cond.code yX0_putState prog_2_method_16_code 3 (Option.none : Option Jvm.ClassFile.FieldType) ∈ gl := gl_at 562 (by decide +kernel) rfl
theorem tw532 : Cond.methodLink "CasebookSteps$Case" 68 yX4_stepAt ∈ gl := gl_at 563 (by decide +kernel) rfl
theorem tw533 : Cond.methodLink "CasebookSteps$Case" 72 yX0_stateOf ∈ gl := gl_at 564 (by decide +kernel) rfl
theorem tw534 : Cond.instanceMethod yX0_stateOf ∈ gl := gl_at 565 (by decide +kernel) rfl
theorem tw535 : Cond.selects "CasebookSteps$Case" yX0_stateOf yX0_stateOf ∈ gl := gl_at 566 (by decide +kernel) rfl
theorem tw536 : Cond.code yX0_stateOf prog_2_method_15_code 2 (some FieldType.char) ∈ gl := gl_at 567 (by decide +kernel) rfl
theorem tw537 : Cond.methodLink "CasebookSteps" 315 yX0_goBy ∈ gl := gl_at 568 (by decide +kernel) rfl
theorem tw538 : Cond.methodLink "CasebookSteps" 318 yX0_growOlder ∈ gl := gl_at 569 (by decide +kernel) rfl
theorem tw539 : Cond.instanceMethod yX0_growOlder ∈ gl := gl_at 570 (by decide +kernel) rfl
theorem tw540 : Cond.selects "CasebookSteps$Case" yX0_growOlder yX0_growOlder ∈ gl := gl_at 571 (by decide +kernel) rfl
theorem tw541 : Cond.code yX0_growOlder prog_2_method_5_code 2 (Option.none : Option Jvm.ClassFile.FieldType) ∈ gl := gl_at 572 (by decide +kernel) rfl
theorem tw542 : Cond.methodLink "CasebookSteps$Case" 57 yX0_isActiveTask ∈ gl := gl_at 573 (by decide +kernel) rfl
theorem tw543 : Cond.instanceMethod yX0_isActiveTask ∈ gl := gl_at 574 (by decide +kernel) rfl
theorem tw544 : Cond.selects "CasebookSteps$Case" yX0_isActiveTask yX0_isActiveTask ∈ gl := gl_at 575 (by decide +kernel) rfl
theorem tw545 : Cond.code yX0_isActiveTask prog_2_method_19_code 3 (some FieldType.boolean) ∈ gl := gl_at 576 (by decide +kernel) rfl
theorem tw546 : Cond.methodLink "CasebookSteps" 321 yX0_runRounds ∈ gl := gl_at 577 (by decide +kernel) rfl
theorem tw547 : Cond.instanceMethod yX0_runRounds ∈ gl := gl_at 578 (by decide +kernel) rfl
theorem tw548 : Cond.selects "CasebookSteps$Case" yX0_runRounds yX0_runRounds ∈ gl := gl_at 579 (by decide +kernel) rfl
theorem tw549 : Cond.code yX0_runRounds prog_2_method_6_code 4 (Option.none : Option Jvm.ClassFile.FieldType) ∈ gl := gl_at 580 (by decide +kernel) rfl
theorem tw550 : Cond.methodLink "CasebookSteps$Case" 65 yX0_applyRule ∈ gl := gl_at 581 (by decide +kernel) rfl
theorem tw551 : Cond.instanceMethod yX0_applyRule ∈ gl := gl_at 582 (by decide +kernel) rfl
theorem tw552 : Cond.selects "CasebookSteps$Case" yX0_applyRule yX0_applyRule ∈ gl := gl_at 583 (by decide +kernel) rfl
theorem tw553 : Cond.code yX0_applyRule prog_2_method_7_code 4 (some FieldType.boolean) ∈ gl := gl_at 584 (by decide +kernel) rfl
theorem tw554 : Cond.methodLink "CasebookSteps$Case" 82 yX0_anyMet ∈ gl := gl_at 585 (by decide +kernel) rfl
theorem tw555 : Cond.instanceMethod yX0_anyMet ∈ gl := gl_at 586 (by decide +kernel) rfl
theorem tw556 : Cond.selects "CasebookSteps$Case" yX0_anyMet yX0_anyMet ∈ gl := gl_at 587 (by decide +kernel) rfl
theorem tw557 : Cond.code yX0_anyMet prog_2_method_12_code 4 (some FieldType.boolean) ∈ gl := gl_at 588 (by decide +kernel) rfl
theorem tw558 : Cond.methodLink "CasebookSteps$Case" 122 yX2_at ∈ gl := gl_at 589 (by decide +kernel) rfl
theorem tw559 : Cond.instanceMethod yX2_at ∈ gl := gl_at 590 (by decide +kernel) rfl
theorem tw560 : Cond.selects "CasebookSteps$Conditions" yX2_at yX2_at ∈ gl := gl_at 591 (by decide +kernel) rfl
theorem tw561 : Cond.code yX2_at prog_4_method_3_code 2 (some (FieldType.object "CasebookSteps$Condition")) ∈ gl := gl_at 592 (by decide +kernel) rfl
theorem tw562 : Cond.methodLink "CasebookSteps$Case" 126 yX0_isMet ∈ gl := gl_at 593 (by decide +kernel) rfl
theorem tw563 : Cond.instanceMethod yX0_isMet ∈ gl := gl_at 594 (by decide +kernel) rfl
theorem tw564 : Cond.selects "CasebookSteps$Case" yX0_isMet yX0_isMet ∈ gl := gl_at 595 (by decide +kernel) rfl
theorem tw565 : Cond.code yX0_isMet prog_2_method_13_code 4 (some FieldType.boolean) ∈ gl := gl_at 596 (by decide +kernel) rfl
theorem tw566 : Cond.methodLink "CasebookSteps$Case" 86 yX0_finish ∈ gl := gl_at 597 (by decide +kernel) rfl
theorem tw567 : Cond.methodLink "CasebookSteps$Case" 90 yX0_isParentActive ∈ gl := gl_at 598 (by decide +kernel) rfl
theorem tw568 : Cond.instanceMethod yX0_isParentActive ∈ gl := gl_at 599 (by decide +kernel) rfl
theorem tw569 : Cond.selects "CasebookSteps$Case" yX0_isParentActive yX0_isParentActive ∈ gl := gl_at 600 (by decide +kernel) rfl
theorem tw570 : Cond.code yX0_isParentActive prog_2_method_8_code 2 (some FieldType.boolean) ∈ gl := gl_at 601 (by decide +kernel) rfl
theorem tw571 : Cond.methodLink "CasebookSteps$Case" 104 yX0_enter ∈ gl := gl_at 602 (by decide +kernel) rfl
theorem tw572 : Cond.instanceMethod yX0_enter ∈ gl := gl_at 603 (by decide +kernel) rfl
theorem tw573 : Cond.selects "CasebookSteps$Case" yX0_enter yX0_enter ∈ gl := gl_at 604 (by decide +kernel) rfl
theorem tw574 : Cond.code yX0_enter prog_2_method_9_code 3 (Option.none : Option Jvm.ClassFile.FieldType) ∈ gl := gl_at 605 (by decide +kernel) rfl
theorem tw575 : Cond.methodLink "CasebookSteps$Case" 107 yX0_areChildrenDone ∈ gl := gl_at 606 (by decide +kernel) rfl
theorem tw576 : Cond.instanceMethod yX0_areChildrenDone ∈ gl := gl_at 607 (by decide +kernel) rfl
theorem tw577 : Cond.selects "CasebookSteps$Case" yX0_areChildrenDone yX0_areChildrenDone ∈ gl := gl_at 608 (by decide +kernel) rfl
theorem tw578 : Cond.code yX0_areChildrenDone prog_2_method_11_code 7 (some FieldType.boolean) ∈ gl := gl_at 609 (by decide +kernel) rfl
theorem tw579 : Cond.methodLink "CasebookStepsLaw" 176 yL_set ∈ gl := gl_at 610 (by decide +kernel) rfl
theorem tw580 : Cond.static yL_set ∈ gl := gl_at 611 (by decide +kernel) rfl
theorem tw581 : Cond.codeWith yL_set method_13_code 6 (some FieldType.int) [(0, 12, 15, 19), (0, 12, 19, 21)] ∈ gl := gl_at 612 (by decide +kernel) rfl
theorem tw582 : Cond.methodLink "CasebookStepsLaw" 54 yX6_set ∈ gl := gl_at 613 (by decide +kernel) rfl
theorem tw583 : Cond.instanceMethod yX6_set ∈ gl := gl_at 614 (by decide +kernel) rfl
theorem tw584 : Cond.selects "CasebookSteps" yX6_set yX6_set ∈ gl := gl_at 615 (by decide +kernel) rfl
theorem tw585 : Cond.code yX6_set prog_1_method_12_code 6 (some FieldType.int) ∈ gl := gl_at 616 (by decide +kernel) rfl
theorem tw586 : Cond.methodLink "CasebookSteps" 151 yX6_existingCase ∈ gl := gl_at 617 (by decide +kernel) rfl
theorem tw588 : Cond.instanceMethod yX6_existingCase ∈ gl := gl_at 619 (by decide +kernel) rfl
theorem tw589 : Cond.code yX6_existingCase prog_1_method_48_code 3 (some (FieldType.object "CasebookSteps$Case")) ∈ gl := gl_at 620 (by decide +kernel) rfl
theorem tw593 : Cond.methodLink "CasebookSteps" 165 yX0_valueOf ∈ gl := gl_at 624 (by decide +kernel) rfl
theorem tw594 : Cond.instanceMethod yX0_valueOf ∈ gl := gl_at 625 (by decide +kernel) rfl
theorem tw595 : Cond.selects "CasebookSteps$Case" yX0_valueOf yX0_valueOf ∈ gl := gl_at 626 (by decide +kernel) rfl
theorem tw596 : Cond.code yX0_valueOf prog_2_method_14_code 2 (some FieldType.int) ∈ gl := gl_at 627 (by decide +kernel) rfl
theorem tw597 : Cond.methodLink "CasebookStepsLaw" 179 yL_event ∈ gl := gl_at 628 (by decide +kernel) rfl
theorem tw598 : Cond.static yL_event ∈ gl := gl_at 629 (by decide +kernel) rfl
theorem tw599 : Cond.codeWith yL_event method_14_code 5 (some FieldType.int) [(0, 10, 13, 19), (0, 10, 17, 21)] ∈ gl := gl_at 630 (by decide +kernel) rfl
theorem tw600 : Cond.methodLink "CasebookStepsLaw" 57 yX6_event ∈ gl := gl_at 631 (by decide +kernel) rfl
theorem tw601 : Cond.instanceMethod yX6_event ∈ gl := gl_at 632 (by decide +kernel) rfl
theorem tw602 : Cond.selects "CasebookSteps" yX6_event yX6_event ∈ gl := gl_at 633 (by decide +kernel) rfl
theorem tw603 : Cond.code yX6_event prog_1_method_13_code 4 (some FieldType.int) ∈ gl := gl_at 634 (by decide +kernel) rfl
theorem tw605 : Cond.methodLink "CasebookSteps" 174 yX0_rememberStates ∈ gl := gl_at 636 (by decide +kernel) rfl
theorem tw606 : Cond.instanceMethod yX0_rememberStates ∈ gl := gl_at 637 (by decide +kernel) rfl
theorem tw607 : Cond.selects "CasebookSteps$Case" yX0_rememberStates yX0_rememberStates ∈ gl := gl_at 638 (by decide +kernel) rfl
theorem tw608 : Cond.code yX0_rememberStates prog_2_method_23_code 2 (Option.none : Option Jvm.ClassFile.FieldType) ∈ gl := gl_at 639 (by decide +kernel) rfl
theorem tw609 : Cond.methodLink "CasebookSteps" 177 yX0_changedStepsBut ∈ gl := gl_at 640 (by decide +kernel) rfl
theorem tw610 : Cond.instanceMethod yX0_changedStepsBut ∈ gl := gl_at 641 (by decide +kernel) rfl
theorem tw611 : Cond.selects "CasebookSteps$Case" yX0_changedStepsBut yX0_changedStepsBut ∈ gl := gl_at 642 (by decide +kernel) rfl
theorem tw612 : Cond.code yX0_changedStepsBut prog_2_method_24_code 4 (some FieldType.int) ∈ gl := gl_at 643 (by decide +kernel) rfl
theorem tw613 : Cond.methodLink "CasebookStepsLaw" 183 yL_complete ∈ gl := gl_at 644 (by decide +kernel) rfl
theorem tw614 : Cond.static yL_complete ∈ gl := gl_at 645 (by decide +kernel) rfl
theorem tw615 : Cond.codeWith yL_complete method_15_code 5 (some FieldType.int) [(0, 10, 13, 19), (0, 10, 17, 30), (0, 10, 21, 13)] ∈ gl := gl_at 646 (by decide +kernel) rfl
theorem tw616 : Cond.methodLink "CasebookStepsLaw" 61 yX6_complete ∈ gl := gl_at 647 (by decide +kernel) rfl
theorem tw617 : Cond.instanceMethod yX6_complete ∈ gl := gl_at 648 (by decide +kernel) rfl
theorem tw618 : Cond.selects "CasebookSteps" yX6_complete yX6_complete ∈ gl := gl_at 649 (by decide +kernel) rfl
theorem tw619 : Cond.code yX6_complete prog_1_method_14_code 4 (some FieldType.int) ∈ gl := gl_at 650 (by decide +kernel) rfl
theorem tw620 : Cond.methodLink "CasebookSteps" 184 yX0_stateOf ∈ gl := gl_at 651 (by decide +kernel) rfl
theorem tw622 : Cond.methodLink "CasebookStepsLaw" 186 yL_setWaiting ∈ gl := gl_at 653 (by decide +kernel) rfl
theorem tw623 : Cond.static yL_setWaiting ∈ gl := gl_at 654 (by decide +kernel) rfl
theorem tw624 : Cond.codeWith yL_setWaiting method_16_code 5 (some FieldType.int) [(0, 17, 20, 19)] ∈ gl := gl_at 655 (by decide +kernel) rfl
theorem tw625 : Cond.methodLink "CasebookStepsLaw" 64 yX6_setWaiting ∈ gl := gl_at 656 (by decide +kernel) rfl
theorem tw626 : Cond.instanceMethod yX6_setWaiting ∈ gl := gl_at 657 (by decide +kernel) rfl
theorem tw627 : Cond.selects "CasebookSteps" yX6_setWaiting yX6_setWaiting ∈ gl := gl_at 658 (by decide +kernel) rfl
theorem tw628 : Cond.code yX6_setWaiting prog_1_method_15_code 5 (some FieldType.boolean) ∈ gl := gl_at 659 (by decide +kernel) rfl
theorem tw629 : Cond.methodLink "CasebookStepsLaw" 190 yL_move ∈ gl := gl_at 660 (by decide +kernel) rfl
theorem tw630 : Cond.static yL_move ∈ gl := gl_at 661 (by decide +kernel) rfl
theorem tw631 : Cond.codeWith yL_move method_17_code 5 (some FieldType.int) [(0, 10, 13, 19), (0, 10, 17, 21)] ∈ gl := gl_at 662 (by decide +kernel) rfl
theorem tw632 : Cond.methodLink "CasebookStepsLaw" 68 yX6_move ∈ gl := gl_at 663 (by decide +kernel) rfl
theorem tw633 : Cond.instanceMethod yX6_move ∈ gl := gl_at 664 (by decide +kernel) rfl
theorem tw634 : Cond.selects "CasebookSteps" yX6_move yX6_move ∈ gl := gl_at 665 (by decide +kernel) rfl
theorem tw635 : Cond.code yX6_move prog_1_method_16_code 6 (some FieldType.int) ∈ gl := gl_at 666 (by decide +kernel) rfl
theorem tw637 : Cond.methodLink "CasebookStepsLaw" 193 yL_pass ∈ gl := gl_at 668 (by decide +kernel) rfl
theorem tw638 : Cond.static yL_pass ∈ gl := gl_at 669 (by decide +kernel) rfl
theorem tw639 : Cond.codeWith yL_pass method_18_code 4 (some FieldType.int) [(0, 9, 12, 21)] ∈ gl := gl_at 670 (by decide +kernel) rfl
theorem tw640 : Cond.methodLink "CasebookStepsLaw" 71 yX6_pass ∈ gl := gl_at 671 (by decide +kernel) rfl
theorem tw641 : Cond.instanceMethod yX6_pass ∈ gl := gl_at 672 (by decide +kernel) rfl
theorem tw642 : Cond.selects "CasebookSteps" yX6_pass yX6_pass ∈ gl := gl_at 673 (by decide +kernel) rfl
theorem tw643 : Cond.code yX6_pass prog_1_method_17_code 4 (some FieldType.int) ∈ gl := gl_at 674 (by decide +kernel) rfl
theorem tw645 : Cond.methodLink "CasebookSteps" 210 yX6_lateTasksOfAll ∈ gl := gl_at 676 (by decide +kernel) rfl
theorem tw647 : Cond.instanceMethod yX6_lateTasksOfAll ∈ gl := gl_at 678 (by decide +kernel) rfl
theorem tw648 : Cond.code yX6_lateTasksOfAll prog_1_method_54_code 4 (some FieldType.int) ∈ gl := gl_at 679 (by decide +kernel) rfl
theorem tw649 : Cond.methodLink "CasebookSteps" 338 yX0_lateTasks ∈ gl := gl_at 680 (by decide +kernel) rfl
theorem tw650 : Cond.instanceMethod yX0_lateTasks ∈ gl := gl_at 681 (by decide +kernel) rfl
theorem tw651 : Cond.selects "CasebookSteps$Case" yX0_lateTasks yX0_lateTasks ∈ gl := gl_at 682 (by decide +kernel) rfl
theorem tw652 : Cond.code yX0_lateTasks prog_2_method_22_code 3 (some FieldType.int) ∈ gl := gl_at 683 (by decide +kernel) rfl
theorem tw653 : Cond.methodLink "CasebookSteps$Case" 148 yX0_daysUntilLate ∈ gl := gl_at 684 (by decide +kernel) rfl
theorem tw654 : Cond.instanceMethod yX0_daysUntilLate ∈ gl := gl_at 685 (by decide +kernel) rfl
theorem tw655 : Cond.selects "CasebookSteps$Case" yX0_daysUntilLate yX0_daysUntilLate ∈ gl := gl_at 686 (by decide +kernel) rfl
theorem tw656 : Cond.code yX0_daysUntilLate prog_2_method_20_code 3 (some FieldType.int) ∈ gl := gl_at 687 (by decide +kernel) rfl
theorem tw657 : Cond.methodLink "CasebookStepsLaw" 196 yL_state ∈ gl := gl_at 688 (by decide +kernel) rfl
theorem tw658 : Cond.static yL_state ∈ gl := gl_at 689 (by decide +kernel) rfl
theorem tw659 : Cond.codeWith yL_state method_19_code 5 (some FieldType.int) [(0, 10, 13, 19)] ∈ gl := gl_at 690 (by decide +kernel) rfl
theorem tw660 : Cond.methodLink "CasebookStepsLaw" 74 yX6_state ∈ gl := gl_at 691 (by decide +kernel) rfl
theorem tw661 : Cond.instanceMethod yX6_state ∈ gl := gl_at 692 (by decide +kernel) rfl
theorem tw662 : Cond.selects "CasebookSteps" yX6_state yX6_state ∈ gl := gl_at 693 (by decide +kernel) rfl
theorem tw663 : Cond.code yX6_state prog_1_method_18_code 3 (some FieldType.char) ∈ gl := gl_at 694 (by decide +kernel) rfl
theorem tw664 : Cond.methodLink "CasebookSteps" 214 yX6_caseWithStep ∈ gl := gl_at 695 (by decide +kernel) rfl
theorem tw666 : Cond.instanceMethod yX6_caseWithStep ∈ gl := gl_at 697 (by decide +kernel) rfl
theorem tw667 : Cond.code yX6_caseWithStep prog_1_method_50_code 4 (some (FieldType.object "CasebookSteps$Case")) ∈ gl := gl_at 698 (by decide +kernel) rfl
theorem tw668 : Cond.methodLink "CasebookStepsLaw" 199 yL_stateByReplay ∈ gl := gl_at 699 (by decide +kernel) rfl
theorem tw669 : Cond.static yL_stateByReplay ∈ gl := gl_at 700 (by decide +kernel) rfl
theorem tw670 : Cond.codeWith yL_stateByReplay method_20_code 5 (some FieldType.int) [(0, 10, 13, 19)] ∈ gl := gl_at 701 (by decide +kernel) rfl
theorem tw671 : Cond.methodLink "CasebookStepsLaw" 78 yX6_stateByReplay ∈ gl := gl_at 702 (by decide +kernel) rfl
theorem tw672 : Cond.instanceMethod yX6_stateByReplay ∈ gl := gl_at 703 (by decide +kernel) rfl
theorem tw673 : Cond.selects "CasebookSteps" yX6_stateByReplay yX6_stateByReplay ∈ gl := gl_at 704 (by decide +kernel) rfl
theorem tw674 : Cond.code yX6_stateByReplay prog_1_method_19_code 3 (some FieldType.char) ∈ gl := gl_at 705 (by decide +kernel) rfl
theorem tw675 : Cond.methodLink "CasebookSteps" 218 yX6_replay ∈ gl := gl_at 706 (by decide +kernel) rfl
theorem tw677 : Cond.instanceMethod yX6_replay ∈ gl := gl_at 708 (by decide +kernel) rfl
theorem tw678 : Cond.code yX6_replay prog_1_method_53_code 8 (Option.none : Option Jvm.ClassFile.FieldType) ∈ gl := gl_at 709 (by decide +kernel) rfl
theorem tw679 : Cond.methodLink "CasebookStepsLaw" 202 yL_clock ∈ gl := gl_at 710 (by decide +kernel) rfl
theorem tw680 : Cond.static yL_clock ∈ gl := gl_at 711 (by decide +kernel) rfl
theorem tw681 : Cond.codeWith yL_clock method_21_code 5 (some FieldType.int) [(0, 10, 13, 19)] ∈ gl := gl_at 712 (by decide +kernel) rfl
theorem tw682 : Cond.methodLink "CasebookStepsLaw" 81 yX6_clock ∈ gl := gl_at 713 (by decide +kernel) rfl
theorem tw683 : Cond.instanceMethod yX6_clock ∈ gl := gl_at 714 (by decide +kernel) rfl
theorem tw684 : Cond.selects "CasebookSteps" yX6_clock yX6_clock ∈ gl := gl_at 715 (by decide +kernel) rfl
theorem tw685 : Cond.code yX6_clock prog_1_method_20_code 3 (some FieldType.int) ∈ gl := gl_at 716 (by decide +kernel) rfl
theorem tw686 : Cond.methodLink "CasebookSteps" 221 yX0_clockOf ∈ gl := gl_at 717 (by decide +kernel) rfl
theorem tw687 : Cond.methodLink "CasebookStepsLaw" 205 yL_clockByReplay ∈ gl := gl_at 718 (by decide +kernel) rfl
theorem tw688 : Cond.static yL_clockByReplay ∈ gl := gl_at 719 (by decide +kernel) rfl
theorem tw689 : Cond.codeWith yL_clockByReplay method_22_code 5 (some FieldType.int) [(0, 10, 13, 19)] ∈ gl := gl_at 720 (by decide +kernel) rfl
theorem tw690 : Cond.methodLink "CasebookStepsLaw" 84 yX6_clockByReplay ∈ gl := gl_at 721 (by decide +kernel) rfl
theorem tw691 : Cond.instanceMethod yX6_clockByReplay ∈ gl := gl_at 722 (by decide +kernel) rfl
theorem tw692 : Cond.selects "CasebookSteps" yX6_clockByReplay yX6_clockByReplay ∈ gl := gl_at 723 (by decide +kernel) rfl
theorem tw693 : Cond.code yX6_clockByReplay prog_1_method_21_code 3 (some FieldType.int) ∈ gl := gl_at 724 (by decide +kernel) rfl
theorem tw694 : Cond.methodLink "CasebookStepsLaw" 208 yL_count ∈ gl := gl_at 725 (by decide +kernel) rfl
theorem tw695 : Cond.static yL_count ∈ gl := gl_at 726 (by decide +kernel) rfl
theorem tw696 : Cond.codeWith yL_count method_23_code 5 (some FieldType.int) [(0, 10, 13, 19)] ∈ gl := gl_at 727 (by decide +kernel) rfl
theorem tw697 : Cond.methodLink "CasebookStepsLaw" 87 yX6_count ∈ gl := gl_at 728 (by decide +kernel) rfl
theorem tw698 : Cond.instanceMethod yX6_count ∈ gl := gl_at 729 (by decide +kernel) rfl
theorem tw699 : Cond.selects "CasebookSteps" yX6_count yX6_count ∈ gl := gl_at 730 (by decide +kernel) rfl
theorem tw700 : Cond.code yX6_count prog_1_method_22_code 3 (some FieldType.int) ∈ gl := gl_at 731 (by decide +kernel) rfl
theorem tw701 : Cond.methodLink "CasebookSteps" 224 yX0_countOf ∈ gl := gl_at 732 (by decide +kernel) rfl
theorem tw702 : Cond.instanceMethod yX0_countOf ∈ gl := gl_at 733 (by decide +kernel) rfl
theorem tw703 : Cond.selects "CasebookSteps$Case" yX0_countOf yX0_countOf ∈ gl := gl_at 734 (by decide +kernel) rfl
theorem tw704 : Cond.code yX0_countOf prog_2_method_18_code 2 (some FieldType.int) ∈ gl := gl_at 735 (by decide +kernel) rfl
theorem tw705 : Cond.methodLink "CasebookStepsLaw" 211 yL_isLate ∈ gl := gl_at 736 (by decide +kernel) rfl
theorem tw706 : Cond.static yL_isLate ∈ gl := gl_at 737 (by decide +kernel) rfl
theorem tw707 : Cond.codeWith yL_isLate method_24_code 5 (some FieldType.int) [(0, 17, 20, 19)] ∈ gl := gl_at 738 (by decide +kernel) rfl
theorem tw708 : Cond.methodLink "CasebookStepsLaw" 90 yX6_isLate ∈ gl := gl_at 739 (by decide +kernel) rfl
theorem tw709 : Cond.instanceMethod yX6_isLate ∈ gl := gl_at 740 (by decide +kernel) rfl
theorem tw710 : Cond.selects "CasebookSteps" yX6_isLate yX6_isLate ∈ gl := gl_at 741 (by decide +kernel) rfl
theorem tw711 : Cond.code yX6_isLate prog_1_method_23_code 4 (some FieldType.boolean) ∈ gl := gl_at 742 (by decide +kernel) rfl
theorem tw712 : Cond.methodLink "CasebookSteps" 227 yX0_isActiveTask ∈ gl := gl_at 743 (by decide +kernel) rfl
theorem tw713 : Cond.methodLink "CasebookSteps" 230 yX0_daysUntilLate ∈ gl := gl_at 744 (by decide +kernel) rfl
theorem tw714 : Cond.methodLink "CasebookStepsLaw" 214 yL_daysLeft ∈ gl := gl_at 745 (by decide +kernel) rfl
theorem tw715 : Cond.static yL_daysLeft ∈ gl := gl_at 746 (by decide +kernel) rfl
theorem tw716 : Cond.codeWith yL_daysLeft method_25_code 4 (some FieldType.int) [(0, 9, 12, 19), (0, 9, 15, 97)] ∈ gl := gl_at 747 (by decide +kernel) rfl
theorem tw717 : Cond.classLink "CasebookStepsLaw" 97 "java/util/NoSuchElementException" ∈ gl := gl_at 748 (by decide +kernel) rfl
theorem tw718 : Cond.methodLink "CasebookStepsLaw" 94 yX6_daysLeft ∈ gl := gl_at 749 (by decide +kernel) rfl
theorem tw719 : Cond.instanceMethod yX6_daysLeft ∈ gl := gl_at 750 (by decide +kernel) rfl
theorem tw720 : Cond.selects "CasebookSteps" yX6_daysLeft yX6_daysLeft ∈ gl := gl_at 751 (by decide +kernel) rfl
theorem tw721 : Cond.code yX6_daysLeft prog_1_method_24_code 3 (some FieldType.int) ∈ gl := gl_at 752 (by decide +kernel) rfl
theorem tw722 : Cond.methodLink "CasebookSteps" 233 yX0_fewestDaysUntilLate ∈ gl := gl_at 753 (by decide +kernel) rfl
theorem tw723 : Cond.instanceMethod yX0_fewestDaysUntilLate ∈ gl := gl_at 754 (by decide +kernel) rfl
theorem tw724 : Cond.selects "CasebookSteps$Case" yX0_fewestDaysUntilLate yX0_fewestDaysUntilLate ∈ gl := gl_at 755 (by decide +kernel) rfl
theorem tw725 : Cond.code yX0_fewestDaysUntilLate prog_2_method_21_code 4 (some FieldType.int) ∈ gl := gl_at 756 (by decide +kernel) rfl
theorem tw726 : Cond.classLink "CasebookSteps" 236 "java/util/NoSuchElementException" ∈ gl := gl_at 757 (by decide +kernel) rfl
theorem tw727 : Cond.instantiable "java/util/NoSuchElementException" 6 ∈ gl := gl_at 758 (by decide +kernel) rfl
theorem tw742 : Cond.methodLink "CasebookStepsLaw" 217 yL_holds ∈ gl := gl_at 773 (by decide +kernel) rfl
theorem tw743 : Cond.static yL_holds ∈ gl := gl_at 774 (by decide +kernel) rfl
theorem tw744 : Cond.codeWith yL_holds method_26_code 7 (some FieldType.int) [(0, 21, 24, 19), (0, 21, 28, 97)] ∈ gl := gl_at 775 (by decide +kernel) rfl
theorem tw745 : Cond.methodLink "CasebookStepsLaw" 99 yX6_holds ∈ gl := gl_at 776 (by decide +kernel) rfl
theorem tw746 : Cond.instanceMethod yX6_holds ∈ gl := gl_at 777 (by decide +kernel) rfl
theorem tw747 : Cond.selects "CasebookSteps" yX6_holds yX6_holds ∈ gl := gl_at 778 (by decide +kernel) rfl
theorem tw748 : Cond.code yX6_holds prog_1_method_25_code 9 (some FieldType.boolean) ∈ gl := gl_at 779 (by decide +kernel) rfl
theorem tw749 : Cond.methodLink "CasebookSteps" 241 yX2_at ∈ gl := gl_at 780 (by decide +kernel) rfl
theorem tw751 : Cond.methodLink "CasebookSteps" 247 yX0_isMet ∈ gl := gl_at 782 (by decide +kernel) rfl
theorem tw752 : Cond.methodLink "CasebookStepsLaw" 221 yL_active ∈ gl := gl_at 783 (by decide +kernel) rfl
theorem tw753 : Cond.static yL_active ∈ gl := gl_at 784 (by decide +kernel) rfl
theorem tw754 : Cond.codeWith yL_active method_27_code 4 (some FieldType.int) [(0, 9, 12, 19)] ∈ gl := gl_at 785 (by decide +kernel) rfl
theorem tw755 : Cond.methodLink "CasebookStepsLaw" 103 yX6_active ∈ gl := gl_at 786 (by decide +kernel) rfl
theorem tw756 : Cond.instanceMethod yX6_active ∈ gl := gl_at 787 (by decide +kernel) rfl
theorem tw757 : Cond.selects "CasebookSteps" yX6_active yX6_active ∈ gl := gl_at 788 (by decide +kernel) rfl
theorem tw758 : Cond.code yX6_active prog_1_method_26_code 2 (some FieldType.int) ∈ gl := gl_at 789 (by decide +kernel) rfl
theorem tw759 : Cond.methodLink "CasebookSteps" 251 yX0_stepsInState ∈ gl := gl_at 790 (by decide +kernel) rfl
theorem tw760 : Cond.instanceMethod yX0_stepsInState ∈ gl := gl_at 791 (by decide +kernel) rfl
theorem tw761 : Cond.selects "CasebookSteps$Case" yX0_stepsInState yX0_stepsInState ∈ gl := gl_at 792 (by decide +kernel) rfl
theorem tw762 : Cond.code yX0_stepsInState prog_2_method_25_code 4 (some FieldType.int) ∈ gl := gl_at 793 (by decide +kernel) rfl
theorem tw763 : Cond.methodLink "CasebookStepsLaw" 224 yL_isOver ∈ gl := gl_at 794 (by decide +kernel) rfl
theorem tw764 : Cond.static yL_isOver ∈ gl := gl_at 795 (by decide +kernel) rfl
theorem tw765 : Cond.codeWith yL_isOver method_28_code 4 (some FieldType.int) [(0, 16, 19, 19)] ∈ gl := gl_at 796 (by decide +kernel) rfl
theorem tw766 : Cond.methodLink "CasebookStepsLaw" 106 yX6_isOver ∈ gl := gl_at 797 (by decide +kernel) rfl
theorem tw767 : Cond.instanceMethod yX6_isOver ∈ gl := gl_at 798 (by decide +kernel) rfl
theorem tw768 : Cond.selects "CasebookSteps" yX6_isOver yX6_isOver ∈ gl := gl_at 799 (by decide +kernel) rfl
theorem tw769 : Cond.code yX6_isOver prog_1_method_27_code 2 (some FieldType.boolean) ∈ gl := gl_at 800 (by decide +kernel) rfl
theorem tw770 : Cond.methodLink "CasebookSteps" 255 yX0_isAtItsEnd ∈ gl := gl_at 801 (by decide +kernel) rfl
theorem tw771 : Cond.instanceMethod yX0_isAtItsEnd ∈ gl := gl_at 802 (by decide +kernel) rfl
theorem tw772 : Cond.selects "CasebookSteps$Case" yX0_isAtItsEnd yX0_isAtItsEnd ∈ gl := gl_at 803 (by decide +kernel) rfl
theorem tw773 : Cond.code yX0_isAtItsEnd prog_2_method_26_code 3 (some FieldType.boolean) ∈ gl := gl_at 804 (by decide +kernel) rfl
theorem tw774 : Cond.methodLink "CasebookStepsLaw" 227 yL_rounds ∈ gl := gl_at 805 (by decide +kernel) rfl
theorem tw775 : Cond.static yL_rounds ∈ gl := gl_at 806 (by decide +kernel) rfl
theorem tw776 : Cond.codeWith yL_rounds method_29_code 4 (some FieldType.int) [(0, 9, 12, 19)] ∈ gl := gl_at 807 (by decide +kernel) rfl
theorem tw777 : Cond.methodLink "CasebookStepsLaw" 109 yX6_rounds ∈ gl := gl_at 808 (by decide +kernel) rfl
theorem tw778 : Cond.instanceMethod yX6_rounds ∈ gl := gl_at 809 (by decide +kernel) rfl
theorem tw779 : Cond.selects "CasebookSteps" yX6_rounds yX6_rounds ∈ gl := gl_at 810 (by decide +kernel) rfl
theorem tw780 : Cond.code yX6_rounds prog_1_method_28_code 2 (some FieldType.int) ∈ gl := gl_at 811 (by decide +kernel) rfl
theorem tw781 : Cond.methodLink "CasebookStepsLaw" 230 yL_datum ∈ gl := gl_at 812 (by decide +kernel) rfl
theorem tw782 : Cond.static yL_datum ∈ gl := gl_at 813 (by decide +kernel) rfl
theorem tw783 : Cond.codeWith yL_datum method_30_code 5 (some FieldType.int) [(0, 10, 13, 19), (0, 10, 17, 21)] ∈ gl := gl_at 814 (by decide +kernel) rfl
theorem tw784 : Cond.methodLink "CasebookStepsLaw" 112 yX6_datum ∈ gl := gl_at 815 (by decide +kernel) rfl
theorem tw785 : Cond.instanceMethod yX6_datum ∈ gl := gl_at 816 (by decide +kernel) rfl
theorem tw786 : Cond.selects "CasebookSteps" yX6_datum yX6_datum ∈ gl := gl_at 817 (by decide +kernel) rfl
theorem tw787 : Cond.code yX6_datum prog_1_method_29_code 4 (some FieldType.int) ∈ gl := gl_at 818 (by decide +kernel) rfl
theorem tw788 : Cond.methodLink "CasebookStepsLaw" 233 yL_days ∈ gl := gl_at 819 (by decide +kernel) rfl
theorem tw789 : Cond.static yL_days ∈ gl := gl_at 820 (by decide +kernel) rfl
theorem tw790 : Cond.codeWith yL_days method_31_code 4 (some FieldType.int) [(0, 9, 12, 19)] ∈ gl := gl_at 821 (by decide +kernel) rfl
theorem tw791 : Cond.methodLink "CasebookStepsLaw" 115 yX6_days ∈ gl := gl_at 822 (by decide +kernel) rfl
theorem tw792 : Cond.instanceMethod yX6_days ∈ gl := gl_at 823 (by decide +kernel) rfl
theorem tw793 : Cond.selects "CasebookSteps" yX6_days yX6_days ∈ gl := gl_at 824 (by decide +kernel) rfl
theorem tw794 : Cond.code yX6_days prog_1_method_30_code 2 (some FieldType.int) ∈ gl := gl_at 825 (by decide +kernel) rfl
theorem tw795 : Cond.methodLink "CasebookStepsLaw" 236 yL_planOf ∈ gl := gl_at 826 (by decide +kernel) rfl
theorem tw796 : Cond.static yL_planOf ∈ gl := gl_at 827 (by decide +kernel) rfl
theorem tw797 : Cond.codeWith yL_planOf method_32_code 4 (some FieldType.int) [(0, 9, 12, 19)] ∈ gl := gl_at 828 (by decide +kernel) rfl
theorem tw798 : Cond.methodLink "CasebookStepsLaw" 118 yX6_planOf ∈ gl := gl_at 829 (by decide +kernel) rfl
theorem tw799 : Cond.instanceMethod yX6_planOf ∈ gl := gl_at 830 (by decide +kernel) rfl
theorem tw800 : Cond.selects "CasebookSteps" yX6_planOf yX6_planOf ∈ gl := gl_at 831 (by decide +kernel) rfl
theorem tw801 : Cond.code yX6_planOf prog_1_method_31_code 2 (some FieldType.int) ∈ gl := gl_at 832 (by decide +kernel) rfl
theorem tw802 : Cond.methodLink "CasebookStepsLaw" 239 yL_isWaiting ∈ gl := gl_at 833 (by decide +kernel) rfl
theorem tw803 : Cond.static yL_isWaiting ∈ gl := gl_at 834 (by decide +kernel) rfl
theorem tw804 : Cond.codeWith yL_isWaiting method_33_code 4 (some FieldType.int) [(0, 16, 19, 19)] ∈ gl := gl_at 835 (by decide +kernel) rfl
theorem tw805 : Cond.methodLink "CasebookStepsLaw" 121 yX6_isWaiting ∈ gl := gl_at 836 (by decide +kernel) rfl
theorem tw806 : Cond.instanceMethod yX6_isWaiting ∈ gl := gl_at 837 (by decide +kernel) rfl
theorem tw807 : Cond.selects "CasebookSteps" yX6_isWaiting yX6_isWaiting ∈ gl := gl_at 838 (by decide +kernel) rfl
theorem tw808 : Cond.code yX6_isWaiting prog_1_method_32_code 2 (some FieldType.boolean) ∈ gl := gl_at 839 (by decide +kernel) rfl
theorem tw809 : Cond.methodLink "CasebookStepsLaw" 242 yL_happened ∈ gl := gl_at 840 (by decide +kernel) rfl
theorem tw810 : Cond.static yL_happened ∈ gl := gl_at 841 (by decide +kernel) rfl
theorem tw811 : Cond.codeWith yL_happened method_34_code 4 (some FieldType.int) [(0, 9, 12, 19)] ∈ gl := gl_at 842 (by decide +kernel) rfl
theorem tw812 : Cond.methodLink "CasebookStepsLaw" 124 yX6_happened ∈ gl := gl_at 843 (by decide +kernel) rfl
theorem tw813 : Cond.instanceMethod yX6_happened ∈ gl := gl_at 844 (by decide +kernel) rfl
theorem tw814 : Cond.selects "CasebookSteps" yX6_happened yX6_happened ∈ gl := gl_at 845 (by decide +kernel) rfl
theorem tw815 : Cond.code yX6_happened prog_1_method_33_code 2 (some FieldType.int) ∈ gl := gl_at 846 (by decide +kernel) rfl
theorem tw816 : Cond.methodLink "CasebookStepsLaw" 254 yL_doneShare ∈ gl := gl_at 847 (by decide +kernel) rfl
theorem tw817 : Cond.static yL_doneShare ∈ gl := gl_at 848 (by decide +kernel) rfl
theorem tw818 : Cond.codeWith yL_doneShare method_35_code 4 (some FieldType.int) [(0, 9, 12, 19)] ∈ gl := gl_at 849 (by decide +kernel) rfl
theorem tw819 : Cond.methodLink "CasebookStepsLaw" 127 yX6_doneShare ∈ gl := gl_at 850 (by decide +kernel) rfl
theorem tw820 : Cond.instanceMethod yX6_doneShare ∈ gl := gl_at 851 (by decide +kernel) rfl
theorem tw821 : Cond.selects "CasebookSteps" yX6_doneShare yX6_doneShare ∈ gl := gl_at 852 (by decide +kernel) rfl
theorem tw822 : Cond.code yX6_doneShare prog_1_method_36_code 4 (some FieldType.float) ∈ gl := gl_at 853 (by decide +kernel) rfl
theorem tw823 : Cond.classLink "CasebookStepsLaw" 132 "CasebookStepsModel" ∈ gl := gl_at 854 (by decide +kernel) rfl
theorem tw824 : Cond.instantiable "CasebookStepsModel" 24 ∈ gl := gl_at 855 (by decide +kernel) rfl
theorem tw825 : Cond.methodLink "CasebookStepsLaw" 134 yX7_init ∈ gl := gl_at 856 (by decide +kernel) rfl
theorem tw826 : Cond.instanceMethod yX7_init ∈ gl := gl_at 857 (by decide +kernel) rfl
theorem tw827 : Cond.code yX7_init prog_9_method_1_code 1 (Option.none : Option Jvm.ClassFile.FieldType) ∈ gl := gl_at 858 (by decide +kernel) rfl
theorem tw828 : Cond.methodLink "CasebookStepsModel" 1 (⟨"java/lang/Object", "<init>", "()V"⟩ : MethodName) ∈ gl := gl_at 859 (by decide +kernel) rfl
theorem tw829 : Cond.classLink "CasebookStepsModel" 9 "[[C" ∈ gl := gl_at 860 (by decide +kernel) rfl
theorem tw831 : Cond.classLink "CasebookStepsModel" 14 "[[I" ∈ gl := gl_at 862 (by decide +kernel) rfl
theorem tw833 : Cond.classLink "CasebookStepsModel" 19 "[[Z" ∈ gl := gl_at 864 (by decide +kernel) rfl
theorem tw835 : Cond.classLink "CasebookStepsModel" 27 "[[[C" ∈ gl := gl_at 866 (by decide +kernel) rfl
theorem tw837 : Cond.classLink "CasebookStepsModel" 32 "[[[I" ∈ gl := gl_at 868 (by decide +kernel) rfl
theorem tw839 : Cond.fieldLink "CasebookStepsModel" 11 "CasebookStepsModel" "kinds" "[[C" ∈ gl := gl_at 870 (by decide +kernel) rfl
theorem tw840 : Cond.fieldLink "CasebookStepsModel" 16 "CasebookStepsModel" "parents" "[[I" ∈ gl := gl_at 871 (by decide +kernel) rfl
theorem tw841 : Cond.fieldLink "CasebookStepsModel" 21 "CasebookStepsModel" "flags" "[[Z" ∈ gl := gl_at 872 (by decide +kernel) rfl
theorem tw842 : Cond.fieldLink "CasebookStepsModel" 24 "CasebookStepsModel" "limits" "[[I" ∈ gl := gl_at 873 (by decide +kernel) rfl
theorem tw843 : Cond.fieldLink "CasebookStepsModel" 29 "CasebookStepsModel" "sorts" "[[[C" ∈ gl := gl_at 874 (by decide +kernel) rfl
theorem tw844 : Cond.fieldLink "CasebookStepsModel" 34 "CasebookStepsModel" "firsts" "[[[I" ∈ gl := gl_at 875 (by decide +kernel) rfl
theorem tw845 : Cond.fieldLink "CasebookStepsModel" 37 "CasebookStepsModel" "seconds" "[[[I" ∈ gl := gl_at 876 (by decide +kernel) rfl
theorem tw846 : Cond.fieldLink "CasebookStepsModel" 40 "CasebookStepsModel" "many" "[[[I" ∈ gl := gl_at 877 (by decide +kernel) rfl
theorem tw847 : Cond.fieldLink "CasebookStepsModel" 43 "CasebookStepsModel" "steps" "[I" ∈ gl := gl_at 878 (by decide +kernel) rfl
theorem tw848 : Cond.fieldLink "CasebookStepsModel" 47 "CasebookStepsModel" "isUsed" "[Z" ∈ gl := gl_at 879 (by decide +kernel) rfl
theorem tw849 : Cond.fieldLink "CasebookStepsModel" 89 "CasebookStepsModel" "plans" "I" ∈ gl := gl_at 880 (by decide +kernel) rfl
theorem tw850 : Cond.fieldLink "CasebookStepsModel" 51 "CasebookStepsModel" "planOf" "[I" ∈ gl := gl_at 881 (by decide +kernel) rfl
theorem tw851 : Cond.fieldLink "CasebookStepsModel" 54 "CasebookStepsModel" "data" "[[I" ∈ gl := gl_at 882 (by decide +kernel) rfl
theorem tw852 : Cond.fieldLink "CasebookStepsModel" 57 "CasebookStepsModel" "waits" "[Z" ∈ gl := gl_at 883 (by decide +kernel) rfl
theorem tw853 : Cond.fieldLink "CasebookStepsModel" 60 "CasebookStepsModel" "states" "[[C" ∈ gl := gl_at 884 (by decide +kernel) rfl
theorem tw854 : Cond.fieldLink "CasebookStepsModel" 63 "CasebookStepsModel" "clocks" "[[I" ∈ gl := gl_at 885 (by decide +kernel) rfl
theorem tw855 : Cond.fieldLink "CasebookStepsModel" 66 "CasebookStepsModel" "counts" "[[I" ∈ gl := gl_at 886 (by decide +kernel) rfl
theorem tw856 : Cond.fieldLink "CasebookStepsModel" 69 "CasebookStepsModel" "days" "[I" ∈ gl := gl_at 887 (by decide +kernel) rfl
theorem tw857 : Cond.fieldLink "CasebookStepsModel" 72 "CasebookStepsModel" "rounds" "[I" ∈ gl := gl_at 888 (by decide +kernel) rfl
theorem tw858 : Cond.fieldLink "CasebookStepsModel" 75 "CasebookStepsModel" "happened" "[I" ∈ gl := gl_at 889 (by decide +kernel) rfl
theorem tw859 : Cond.fieldLink "CasebookStepsModel" 100 "CasebookStepsModel" "cases" "I" ∈ gl := gl_at 890 (by decide +kernel) rfl
theorem tw860 : Cond.fieldLink "CasebookStepsModel" 78 "CasebookStepsModel" "event" "I" ∈ gl := gl_at 891 (by decide +kernel) rfl
theorem tw861 : Cond.fieldLink "CasebookStepsModel" 82 "CasebookStepsModel" "before" "[C" ∈ gl := gl_at 892 (by decide +kernel) rfl
theorem tw862 : Cond.fieldLink "CasebookStepsModel" 86 "CasebookStepsModel" "thrown" "I" ∈ gl := gl_at 893 (by decide +kernel) rfl
theorem tw912 : Cond.arrayClass FieldType.boolean ∈ gl := gl_at 943 (by decide +kernel) rfl
theorem tw913 : Cond.methodLink "CasebookStepsLaw" 141 yX7_thrown ∈ gl := gl_at 944 (by decide +kernel) rfl
theorem tw914 : Cond.instanceMethod yX7_thrown ∈ gl := gl_at 945 (by decide +kernel) rfl
theorem tw915 : Cond.selects "CasebookStepsModel" yX7_thrown yX7_thrown ∈ gl := gl_at 946 (by decide +kernel) rfl
theorem tw916 : Cond.code yX7_thrown prog_9_method_2_code 1 (some FieldType.int) ∈ gl := gl_at 947 (by decide +kernel) rfl
theorem tw917 : Cond.methodLink "CasebookStepsLaw" 140 yX7_addPlan ∈ gl := gl_at 948 (by decide +kernel) rfl
theorem tw918 : Cond.instanceMethod yX7_addPlan ∈ gl := gl_at 949 (by decide +kernel) rfl
theorem tw919 : Cond.selects "CasebookStepsModel" yX7_addPlan yX7_addPlan ∈ gl := gl_at 950 (by decide +kernel) rfl
theorem tw920 : Cond.code yX7_addPlan prog_9_method_9_code 1 (some FieldType.int) ∈ gl := gl_at 951 (by decide +kernel) rfl
theorem tw921 : Cond.methodLink "CasebookStepsModel" 110 yX7_raises ∈ gl := gl_at 952 (by decide +kernel) rfl
theorem tw923 : Cond.instanceMethod yX7_raises ∈ gl := gl_at 954 (by decide +kernel) rfl
theorem tw924 : Cond.code yX7_raises prog_9_method_3_code 2 (some FieldType.int) ∈ gl := gl_at 955 (by decide +kernel) rfl
theorem tw925 : Cond.methodLink "CasebookStepsLaw" 147 yX7_addStep ∈ gl := gl_at 956 (by decide +kernel) rfl
theorem tw926 : Cond.instanceMethod yX7_addStep ∈ gl := gl_at 957 (by decide +kernel) rfl
theorem tw927 : Cond.selects "CasebookStepsModel" yX7_addStep yX7_addStep ∈ gl := gl_at 958 (by decide +kernel) rfl
theorem tw928 : Cond.code yX7_addStep prog_9_method_10_code 7 (some FieldType.int) ∈ gl := gl_at 959 (by decide +kernel) rfl
theorem tw929 : Cond.methodLink "CasebookStepsModel" 96 yX7_isPlan ∈ gl := gl_at 960 (by decide +kernel) rfl
theorem tw931 : Cond.instanceMethod yX7_isPlan ∈ gl := gl_at 962 (by decide +kernel) rfl
theorem tw932 : Cond.code yX7_isPlan prog_9_method_5_code 2 (some FieldType.boolean) ∈ gl := gl_at 963 (by decide +kernel) rfl
theorem tw933 : Cond.methodLink "CasebookStepsModel" 92 yX7_in ∈ gl := gl_at 964 (by decide +kernel) rfl
theorem tw934 : Cond.static yX7_in ∈ gl := gl_at 965 (by decide +kernel) rfl
theorem tw935 : Cond.code yX7_in prog_9_method_4_code 3 (some FieldType.boolean) ∈ gl := gl_at 966 (by decide +kernel) rfl
theorem tw936 : Cond.methodLink "CasebookStepsModel" 106 yX7_isStep ∈ gl := gl_at 967 (by decide +kernel) rfl
theorem tw938 : Cond.instanceMethod yX7_isStep ∈ gl := gl_at 969 (by decide +kernel) rfl
theorem tw939 : Cond.code yX7_isStep prog_9_method_6_code 3 (some FieldType.boolean) ∈ gl := gl_at 970 (by decide +kernel) rfl
theorem tw940 : Cond.methodLink "CasebookStepsLaw" 151 yX7_addEntry ∈ gl := gl_at 971 (by decide +kernel) rfl
theorem tw941 : Cond.instanceMethod yX7_addEntry ∈ gl := gl_at 972 (by decide +kernel) rfl
theorem tw942 : Cond.selects "CasebookStepsModel" yX7_addEntry yX7_addEntry ∈ gl := gl_at 973 (by decide +kernel) rfl
theorem tw943 : Cond.code yX7_addEntry prog_9_method_13_code 6 (some FieldType.int) ∈ gl := gl_at 974 (by decide +kernel) rfl
theorem tw944 : Cond.methodLink "CasebookStepsModel" 114 yX7_isCondition ∈ gl := gl_at 975 (by decide +kernel) rfl
theorem tw946 : Cond.instanceMethod yX7_isCondition ∈ gl := gl_at 977 (by decide +kernel) rfl
theorem tw947 : Cond.code yX7_isCondition prog_9_method_11_code 5 (some FieldType.boolean) ∈ gl := gl_at 978 (by decide +kernel) rfl
theorem tw948 : Cond.methodLink "CasebookStepsModel" 118 yX7_adds ∈ gl := gl_at 979 (by decide +kernel) rfl
theorem tw950 : Cond.instanceMethod yX7_adds ∈ gl := gl_at 981 (by decide +kernel) rfl
theorem tw951 : Cond.code yX7_adds prog_9_method_12_code 8 (some FieldType.int) ∈ gl := gl_at 982 (by decide +kernel) rfl
theorem tw952 : Cond.methodLink "CasebookStepsLaw" 154 yX7_addExit ∈ gl := gl_at 983 (by decide +kernel) rfl
theorem tw953 : Cond.instanceMethod yX7_addExit ∈ gl := gl_at 984 (by decide +kernel) rfl
theorem tw954 : Cond.selects "CasebookStepsModel" yX7_addExit yX7_addExit ∈ gl := gl_at 985 (by decide +kernel) rfl
theorem tw955 : Cond.code yX7_addExit prog_9_method_14_code 6 (some FieldType.int) ∈ gl := gl_at 986 (by decide +kernel) rfl
theorem tw956 : Cond.methodLink "CasebookStepsLaw" 158 yX7_setRequired ∈ gl := gl_at 987 (by decide +kernel) rfl
theorem tw957 : Cond.instanceMethod yX7_setRequired ∈ gl := gl_at 988 (by decide +kernel) rfl
theorem tw958 : Cond.selects "CasebookStepsModel" yX7_setRequired yX7_setRequired ∈ gl := gl_at 989 (by decide +kernel) rfl
theorem tw959 : Cond.code yX7_setRequired prog_9_method_16_code 4 (some FieldType.boolean) ∈ gl := gl_at 990 (by decide +kernel) rfl
theorem tw960 : Cond.methodLink "CasebookStepsModel" 122 yX7_flag ∈ gl := gl_at 991 (by decide +kernel) rfl
theorem tw962 : Cond.instanceMethod yX7_flag ∈ gl := gl_at 993 (by decide +kernel) rfl
theorem tw963 : Cond.code yX7_flag prog_9_method_15_code 6 (some FieldType.boolean) ∈ gl := gl_at 994 (by decide +kernel) rfl
theorem tw964 : Cond.methodLink "CasebookStepsLaw" 162 yX7_setLimit ∈ gl := gl_at 995 (by decide +kernel) rfl
theorem tw965 : Cond.instanceMethod yX7_setLimit ∈ gl := gl_at 996 (by decide +kernel) rfl
theorem tw966 : Cond.selects "CasebookStepsModel" yX7_setLimit yX7_setLimit ∈ gl := gl_at 997 (by decide +kernel) rfl
theorem tw967 : Cond.code yX7_setLimit prog_9_method_17_code 5 (some FieldType.int) ∈ gl := gl_at 998 (by decide +kernel) rfl
theorem tw968 : Cond.methodLink "CasebookStepsLaw" 165 yX7_setAgain ∈ gl := gl_at 999 (by decide +kernel) rfl
theorem tw969 : Cond.instanceMethod yX7_setAgain ∈ gl := gl_at 1000 (by decide +kernel) rfl
theorem tw970 : Cond.selects "CasebookStepsModel" yX7_setAgain yX7_setAgain ∈ gl := gl_at 1001 (by decide +kernel) rfl
theorem tw971 : Cond.code yX7_setAgain prog_9_method_18_code 4 (some FieldType.boolean) ∈ gl := gl_at 1002 (by decide +kernel) rfl
theorem tw972 : Cond.methodLink "CasebookStepsLaw" 169 yX7_steps ∈ gl := gl_at 1003 (by decide +kernel) rfl
theorem tw973 : Cond.instanceMethod yX7_steps ∈ gl := gl_at 1004 (by decide +kernel) rfl
theorem tw974 : Cond.selects "CasebookStepsModel" yX7_steps yX7_steps ∈ gl := gl_at 1005 (by decide +kernel) rfl
theorem tw975 : Cond.code yX7_steps prog_9_method_19_code 2 (some FieldType.int) ∈ gl := gl_at 1006 (by decide +kernel) rfl
theorem tw976 : Cond.methodLink "CasebookStepsLaw" 172 yX7_isUsed ∈ gl := gl_at 1007 (by decide +kernel) rfl
theorem tw977 : Cond.instanceMethod yX7_isUsed ∈ gl := gl_at 1008 (by decide +kernel) rfl
theorem tw978 : Cond.selects "CasebookStepsModel" yX7_isUsed yX7_isUsed ∈ gl := gl_at 1009 (by decide +kernel) rfl
theorem tw979 : Cond.code yX7_isUsed prog_9_method_20_code 2 (some FieldType.boolean) ∈ gl := gl_at 1010 (by decide +kernel) rfl
theorem tw980 : Cond.methodLink "CasebookStepsLaw" 175 yX7_begin ∈ gl := gl_at 1011 (by decide +kernel) rfl
theorem tw981 : Cond.instanceMethod yX7_begin ∈ gl := gl_at 1012 (by decide +kernel) rfl
theorem tw982 : Cond.selects "CasebookStepsModel" yX7_begin yX7_begin ∈ gl := gl_at 1013 (by decide +kernel) rfl
theorem tw983 : Cond.code yX7_begin prog_9_method_28_code 4 (some FieldType.int) ∈ gl := gl_at 1014 (by decide +kernel) rfl
theorem tw984 : Cond.methodLink "CasebookStepsModel" 146 yX7_goes ∈ gl := gl_at 1015 (by decide +kernel) rfl
theorem tw986 : Cond.instanceMethod yX7_goes ∈ gl := gl_at 1017 (by decide +kernel) rfl
theorem tw987 : Cond.code yX7_goes prog_9_method_27_code 5 (Option.none : Option Jvm.ClassFile.FieldType) ∈ gl := gl_at 1018 (by decide +kernel) rfl
theorem tw988 : Cond.methodLink "CasebookStepsModel" 143 yX7_looks ∈ gl := gl_at 1019 (by decide +kernel) rfl
theorem tw990 : Cond.instanceMethod yX7_looks ∈ gl := gl_at 1021 (by decide +kernel) rfl
theorem tw991 : Cond.code yX7_looks prog_9_method_26_code 6 (some FieldType.boolean) ∈ gl := gl_at 1022 (by decide +kernel) rfl
theorem tw992 : Cond.methodLink "CasebookStepsModel" 137 yX7_holdsOne ∈ gl := gl_at 1023 (by decide +kernel) rfl
theorem tw994 : Cond.instanceMethod yX7_holdsOne ∈ gl := gl_at 1025 (by decide +kernel) rfl
theorem tw995 : Cond.code yX7_holdsOne prog_9_method_22_code 6 (some FieldType.boolean) ∈ gl := gl_at 1026 (by decide +kernel) rfl
theorem tw996 : Cond.methodLink "CasebookStepsModel" 126 yX7_holdsNow ∈ gl := gl_at 1027 (by decide +kernel) rfl
theorem tw998 : Cond.instanceMethod yX7_holdsNow ∈ gl := gl_at 1029 (by decide +kernel) rfl
theorem tw999 : Cond.code yX7_holdsNow prog_9_method_21_code 6 (some FieldType.boolean) ∈ gl := gl_at 1030 (by decide +kernel) rfl
theorem tw1000 : Cond.methodLink "CasebookStepsModel" 129 yX7_becomes ∈ gl := gl_at 1031 (by decide +kernel) rfl
theorem tw1002 : Cond.instanceMethod yX7_becomes ∈ gl := gl_at 1033 (by decide +kernel) rfl
theorem tw1003 : Cond.code yX7_becomes prog_9_method_24_code 4 (Option.none : Option Jvm.ClassFile.FieldType) ∈ gl := gl_at 1034 (by decide +kernel) rfl
theorem tw1004 : Cond.methodLink "CasebookStepsModel" 133 yX7_closes ∈ gl := gl_at 1035 (by decide +kernel) rfl
theorem tw1006 : Cond.instanceMethod yX7_closes ∈ gl := gl_at 1037 (by decide +kernel) rfl
theorem tw1007 : Cond.code yX7_closes prog_9_method_23_code 5 (Option.none : Option Jvm.ClassFile.FieldType) ∈ gl := gl_at 1038 (by decide +kernel) rfl
theorem tw1008 : Cond.methodLink "CasebookStepsModel" 140 yX7_isDone ∈ gl := gl_at 1039 (by decide +kernel) rfl
theorem tw1010 : Cond.instanceMethod yX7_isDone ∈ gl := gl_at 1041 (by decide +kernel) rfl
theorem tw1011 : Cond.code yX7_isDone prog_9_method_25_code 7 (some FieldType.boolean) ∈ gl := gl_at 1042 (by decide +kernel) rfl
theorem tw1012 : Cond.methodLink "CasebookStepsLaw" 178 yX7_set ∈ gl := gl_at 1043 (by decide +kernel) rfl
theorem tw1013 : Cond.instanceMethod yX7_set ∈ gl := gl_at 1044 (by decide +kernel) rfl
theorem tw1014 : Cond.selects "CasebookStepsModel" yX7_set yX7_set ∈ gl := gl_at 1045 (by decide +kernel) rfl
theorem tw1015 : Cond.code yX7_set prog_9_method_29_code 5 (some FieldType.int) ∈ gl := gl_at 1046 (by decide +kernel) rfl
theorem tw1016 : Cond.methodLink "CasebookStepsModel" 103 yX7_isCase ∈ gl := gl_at 1047 (by decide +kernel) rfl
theorem tw1018 : Cond.instanceMethod yX7_isCase ∈ gl := gl_at 1049 (by decide +kernel) rfl
theorem tw1019 : Cond.code yX7_isCase prog_9_method_7_code 2 (some FieldType.boolean) ∈ gl := gl_at 1050 (by decide +kernel) rfl
theorem tw1020 : Cond.methodLink "CasebookStepsLaw" 182 yX7_event ∈ gl := gl_at 1051 (by decide +kernel) rfl
theorem tw1021 : Cond.instanceMethod yX7_event ∈ gl := gl_at 1052 (by decide +kernel) rfl
theorem tw1022 : Cond.selects "CasebookStepsModel" yX7_event yX7_event ∈ gl := gl_at 1053 (by decide +kernel) rfl
theorem tw1023 : Cond.code yX7_event prog_9_method_32_code 3 (some FieldType.int) ∈ gl := gl_at 1054 (by decide +kernel) rfl
theorem tw1024 : Cond.methodLink "CasebookStepsModel" 150 yX7_keeps ∈ gl := gl_at 1055 (by decide +kernel) rfl
theorem tw1026 : Cond.instanceMethod yX7_keeps ∈ gl := gl_at 1057 (by decide +kernel) rfl
theorem tw1027 : Cond.code yX7_keeps prog_9_method_30_code 3 (Option.none : Option Jvm.ClassFile.FieldType) ∈ gl := gl_at 1058 (by decide +kernel) rfl
theorem tw1028 : Cond.methodLink "CasebookStepsModel" 153 yX7_changed ∈ gl := gl_at 1059 (by decide +kernel) rfl
theorem tw1030 : Cond.instanceMethod yX7_changed ∈ gl := gl_at 1061 (by decide +kernel) rfl
theorem tw1031 : Cond.code yX7_changed prog_9_method_31_code 5 (some FieldType.int) ∈ gl := gl_at 1062 (by decide +kernel) rfl
theorem tw1032 : Cond.methodLink "CasebookStepsLaw" 185 yX7_complete ∈ gl := gl_at 1063 (by decide +kernel) rfl
theorem tw1033 : Cond.instanceMethod yX7_complete ∈ gl := gl_at 1064 (by decide +kernel) rfl
theorem tw1034 : Cond.selects "CasebookStepsModel" yX7_complete yX7_complete ∈ gl := gl_at 1065 (by decide +kernel) rfl
theorem tw1035 : Cond.code yX7_complete prog_9_method_33_code 3 (some FieldType.int) ∈ gl := gl_at 1066 (by decide +kernel) rfl
theorem tw1036 : Cond.methodLink "CasebookStepsModel" 157 yX7_isStepOf ∈ gl := gl_at 1067 (by decide +kernel) rfl
theorem tw1038 : Cond.instanceMethod yX7_isStepOf ∈ gl := gl_at 1069 (by decide +kernel) rfl
theorem tw1039 : Cond.code yX7_isStepOf prog_9_method_8_code 3 (some FieldType.boolean) ∈ gl := gl_at 1070 (by decide +kernel) rfl
theorem tw1040 : Cond.methodLink "CasebookStepsLaw" 189 yX7_setWaiting ∈ gl := gl_at 1071 (by decide +kernel) rfl
theorem tw1041 : Cond.instanceMethod yX7_setWaiting ∈ gl := gl_at 1072 (by decide +kernel) rfl
theorem tw1042 : Cond.selects "CasebookStepsModel" yX7_setWaiting yX7_setWaiting ∈ gl := gl_at 1073 (by decide +kernel) rfl
theorem tw1043 : Cond.code yX7_setWaiting prog_9_method_34_code 4 (some FieldType.boolean) ∈ gl := gl_at 1074 (by decide +kernel) rfl
theorem tw1044 : Cond.methodLink "CasebookStepsLaw" 192 yX7_move ∈ gl := gl_at 1075 (by decide +kernel) rfl
theorem tw1045 : Cond.instanceMethod yX7_move ∈ gl := gl_at 1076 (by decide +kernel) rfl
theorem tw1046 : Cond.selects "CasebookStepsModel" yX7_move yX7_move ∈ gl := gl_at 1077 (by decide +kernel) rfl
theorem tw1047 : Cond.code yX7_move prog_9_method_35_code 4 (some FieldType.int) ∈ gl := gl_at 1078 (by decide +kernel) rfl
theorem tw1048 : Cond.methodLink "CasebookStepsLaw" 195 yX7_pass ∈ gl := gl_at 1079 (by decide +kernel) rfl
theorem tw1049 : Cond.instanceMethod yX7_pass ∈ gl := gl_at 1080 (by decide +kernel) rfl
theorem tw1050 : Cond.selects "CasebookStepsModel" yX7_pass yX7_pass ∈ gl := gl_at 1081 (by decide +kernel) rfl
theorem tw1051 : Cond.code yX7_pass prog_9_method_37_code 5 (some FieldType.int) ∈ gl := gl_at 1082 (by decide +kernel) rfl
theorem tw1052 : Cond.methodLink "CasebookStepsModel" 160 yX7_isLateNow ∈ gl := gl_at 1083 (by decide +kernel) rfl
theorem tw1054 : Cond.instanceMethod yX7_isLateNow ∈ gl := gl_at 1085 (by decide +kernel) rfl
theorem tw1055 : Cond.code yX7_isLateNow prog_9_method_36_code 3 (some FieldType.boolean) ∈ gl := gl_at 1086 (by decide +kernel) rfl
theorem tw1056 : Cond.methodLink "CasebookStepsLaw" 198 yX7_state ∈ gl := gl_at 1087 (by decide +kernel) rfl
theorem tw1057 : Cond.instanceMethod yX7_state ∈ gl := gl_at 1088 (by decide +kernel) rfl
theorem tw1058 : Cond.selects "CasebookStepsModel" yX7_state yX7_state ∈ gl := gl_at 1089 (by decide +kernel) rfl
theorem tw1059 : Cond.code yX7_state prog_9_method_39_code 3 (some FieldType.char) ∈ gl := gl_at 1090 (by decide +kernel) rfl
theorem tw1060 : Cond.methodLink "CasebookStepsModel" 163 yX7_lacks ∈ gl := gl_at 1091 (by decide +kernel) rfl
theorem tw1062 : Cond.instanceMethod yX7_lacks ∈ gl := gl_at 1093 (by decide +kernel) rfl
theorem tw1063 : Cond.code yX7_lacks prog_9_method_38_code 3 (some FieldType.boolean) ∈ gl := gl_at 1094 (by decide +kernel) rfl
theorem tw1064 : Cond.methodLink "CasebookStepsLaw" 201 yX7_stateByReplay ∈ gl := gl_at 1095 (by decide +kernel) rfl
theorem tw1065 : Cond.instanceMethod yX7_stateByReplay ∈ gl := gl_at 1096 (by decide +kernel) rfl
theorem tw1066 : Cond.selects "CasebookStepsModel" yX7_stateByReplay yX7_stateByReplay ∈ gl := gl_at 1097 (by decide +kernel) rfl
theorem tw1067 : Cond.code yX7_stateByReplay prog_9_method_40_code 3 (some FieldType.char) ∈ gl := gl_at 1098 (by decide +kernel) rfl
theorem tw1068 : Cond.methodLink "CasebookStepsModel" 166 yX7_state ∈ gl := gl_at 1099 (by decide +kernel) rfl
theorem tw1069 : Cond.methodLink "CasebookStepsLaw" 204 yX7_clock ∈ gl := gl_at 1100 (by decide +kernel) rfl
theorem tw1070 : Cond.instanceMethod yX7_clock ∈ gl := gl_at 1101 (by decide +kernel) rfl
theorem tw1071 : Cond.selects "CasebookStepsModel" yX7_clock yX7_clock ∈ gl := gl_at 1102 (by decide +kernel) rfl
theorem tw1072 : Cond.code yX7_clock prog_9_method_41_code 3 (some FieldType.int) ∈ gl := gl_at 1103 (by decide +kernel) rfl
theorem tw1073 : Cond.methodLink "CasebookStepsLaw" 207 yX7_clockByReplay ∈ gl := gl_at 1104 (by decide +kernel) rfl
theorem tw1074 : Cond.instanceMethod yX7_clockByReplay ∈ gl := gl_at 1105 (by decide +kernel) rfl
theorem tw1075 : Cond.selects "CasebookStepsModel" yX7_clockByReplay yX7_clockByReplay ∈ gl := gl_at 1106 (by decide +kernel) rfl
theorem tw1076 : Cond.code yX7_clockByReplay prog_9_method_42_code 3 (some FieldType.int) ∈ gl := gl_at 1107 (by decide +kernel) rfl
theorem tw1077 : Cond.methodLink "CasebookStepsModel" 170 yX7_clock ∈ gl := gl_at 1108 (by decide +kernel) rfl
theorem tw1078 : Cond.methodLink "CasebookStepsLaw" 210 yX7_count ∈ gl := gl_at 1109 (by decide +kernel) rfl
theorem tw1079 : Cond.instanceMethod yX7_count ∈ gl := gl_at 1110 (by decide +kernel) rfl
theorem tw1080 : Cond.selects "CasebookStepsModel" yX7_count yX7_count ∈ gl := gl_at 1111 (by decide +kernel) rfl
theorem tw1081 : Cond.code yX7_count prog_9_method_43_code 3 (some FieldType.int) ∈ gl := gl_at 1112 (by decide +kernel) rfl
theorem tw1082 : Cond.methodLink "CasebookStepsLaw" 213 yX7_isLate ∈ gl := gl_at 1113 (by decide +kernel) rfl
theorem tw1083 : Cond.instanceMethod yX7_isLate ∈ gl := gl_at 1114 (by decide +kernel) rfl
theorem tw1084 : Cond.selects "CasebookStepsModel" yX7_isLate yX7_isLate ∈ gl := gl_at 1115 (by decide +kernel) rfl
theorem tw1085 : Cond.code yX7_isLate prog_9_method_44_code 3 (some FieldType.boolean) ∈ gl := gl_at 1116 (by decide +kernel) rfl
theorem tw1086 : Cond.methodLink "CasebookStepsLaw" 216 yX7_daysLeft ∈ gl := gl_at 1117 (by decide +kernel) rfl
theorem tw1087 : Cond.instanceMethod yX7_daysLeft ∈ gl := gl_at 1118 (by decide +kernel) rfl
theorem tw1088 : Cond.selects "CasebookStepsModel" yX7_daysLeft yX7_daysLeft ∈ gl := gl_at 1119 (by decide +kernel) rfl
theorem tw1089 : Cond.code yX7_daysLeft prog_9_method_46_code 7 (some FieldType.int) ∈ gl := gl_at 1120 (by decide +kernel) rfl
theorem tw1090 : Cond.methodLink "CasebookStepsModel" 173 yX7_misses ∈ gl := gl_at 1121 (by decide +kernel) rfl
theorem tw1092 : Cond.instanceMethod yX7_misses ∈ gl := gl_at 1123 (by decide +kernel) rfl
theorem tw1093 : Cond.code yX7_misses prog_9_method_45_code 2 (some FieldType.boolean) ∈ gl := gl_at 1124 (by decide +kernel) rfl
theorem tw1094 : Cond.methodLink "CasebookStepsLaw" 220 yX7_holds ∈ gl := gl_at 1125 (by decide +kernel) rfl
theorem tw1095 : Cond.instanceMethod yX7_holds ∈ gl := gl_at 1126 (by decide +kernel) rfl
theorem tw1096 : Cond.selects "CasebookStepsModel" yX7_holds yX7_holds ∈ gl := gl_at 1127 (by decide +kernel) rfl
theorem tw1097 : Cond.code yX7_holds prog_9_method_47_code 6 (some FieldType.boolean) ∈ gl := gl_at 1128 (by decide +kernel) rfl
theorem tw1098 : Cond.methodLink "CasebookStepsLaw" 223 yX7_active ∈ gl := gl_at 1129 (by decide +kernel) rfl
theorem tw1099 : Cond.instanceMethod yX7_active ∈ gl := gl_at 1130 (by decide +kernel) rfl
theorem tw1100 : Cond.selects "CasebookStepsModel" yX7_active yX7_active ∈ gl := gl_at 1131 (by decide +kernel) rfl
theorem tw1101 : Cond.code yX7_active prog_9_method_49_code 2 (some FieldType.int) ∈ gl := gl_at 1132 (by decide +kernel) rfl
theorem tw1102 : Cond.methodLink "CasebookStepsModel" 176 yX7_inState ∈ gl := gl_at 1133 (by decide +kernel) rfl
theorem tw1104 : Cond.instanceMethod yX7_inState ∈ gl := gl_at 1135 (by decide +kernel) rfl
theorem tw1105 : Cond.code yX7_inState prog_9_method_48_code 5 (some FieldType.int) ∈ gl := gl_at 1136 (by decide +kernel) rfl
theorem tw1106 : Cond.methodLink "CasebookStepsLaw" 226 yX7_isOver ∈ gl := gl_at 1137 (by decide +kernel) rfl
theorem tw1107 : Cond.instanceMethod yX7_isOver ∈ gl := gl_at 1138 (by decide +kernel) rfl
theorem tw1108 : Cond.selects "CasebookStepsModel" yX7_isOver yX7_isOver ∈ gl := gl_at 1139 (by decide +kernel) rfl
theorem tw1109 : Cond.code yX7_isOver prog_9_method_50_code 4 (some FieldType.boolean) ∈ gl := gl_at 1140 (by decide +kernel) rfl
theorem tw1110 : Cond.methodLink "CasebookStepsLaw" 229 yX7_rounds ∈ gl := gl_at 1141 (by decide +kernel) rfl
theorem tw1111 : Cond.instanceMethod yX7_rounds ∈ gl := gl_at 1142 (by decide +kernel) rfl
theorem tw1112 : Cond.selects "CasebookStepsModel" yX7_rounds yX7_rounds ∈ gl := gl_at 1143 (by decide +kernel) rfl
theorem tw1113 : Cond.code yX7_rounds prog_9_method_51_code 2 (some FieldType.int) ∈ gl := gl_at 1144 (by decide +kernel) rfl
theorem tw1114 : Cond.methodLink "CasebookStepsLaw" 232 yX7_datum ∈ gl := gl_at 1145 (by decide +kernel) rfl
theorem tw1115 : Cond.instanceMethod yX7_datum ∈ gl := gl_at 1146 (by decide +kernel) rfl
theorem tw1116 : Cond.selects "CasebookStepsModel" yX7_datum yX7_datum ∈ gl := gl_at 1147 (by decide +kernel) rfl
theorem tw1117 : Cond.code yX7_datum prog_9_method_52_code 3 (some FieldType.int) ∈ gl := gl_at 1148 (by decide +kernel) rfl
theorem tw1118 : Cond.methodLink "CasebookStepsLaw" 235 yX7_days ∈ gl := gl_at 1149 (by decide +kernel) rfl
theorem tw1119 : Cond.instanceMethod yX7_days ∈ gl := gl_at 1150 (by decide +kernel) rfl
theorem tw1120 : Cond.selects "CasebookStepsModel" yX7_days yX7_days ∈ gl := gl_at 1151 (by decide +kernel) rfl
theorem tw1121 : Cond.code yX7_days prog_9_method_53_code 2 (some FieldType.int) ∈ gl := gl_at 1152 (by decide +kernel) rfl
theorem tw1122 : Cond.methodLink "CasebookStepsLaw" 238 yX7_planOf ∈ gl := gl_at 1153 (by decide +kernel) rfl
theorem tw1123 : Cond.instanceMethod yX7_planOf ∈ gl := gl_at 1154 (by decide +kernel) rfl
theorem tw1124 : Cond.selects "CasebookStepsModel" yX7_planOf yX7_planOf ∈ gl := gl_at 1155 (by decide +kernel) rfl
theorem tw1125 : Cond.code yX7_planOf prog_9_method_54_code 2 (some FieldType.int) ∈ gl := gl_at 1156 (by decide +kernel) rfl
theorem tw1126 : Cond.methodLink "CasebookStepsLaw" 241 yX7_isWaiting ∈ gl := gl_at 1157 (by decide +kernel) rfl
theorem tw1127 : Cond.instanceMethod yX7_isWaiting ∈ gl := gl_at 1158 (by decide +kernel) rfl
theorem tw1128 : Cond.selects "CasebookStepsModel" yX7_isWaiting yX7_isWaiting ∈ gl := gl_at 1159 (by decide +kernel) rfl
theorem tw1129 : Cond.code yX7_isWaiting prog_9_method_55_code 2 (some FieldType.boolean) ∈ gl := gl_at 1160 (by decide +kernel) rfl
theorem tw1130 : Cond.methodLink "CasebookStepsLaw" 244 yX7_happened ∈ gl := gl_at 1161 (by decide +kernel) rfl
theorem tw1131 : Cond.instanceMethod yX7_happened ∈ gl := gl_at 1162 (by decide +kernel) rfl
theorem tw1132 : Cond.selects "CasebookStepsModel" yX7_happened yX7_happened ∈ gl := gl_at 1163 (by decide +kernel) rfl
theorem tw1133 : Cond.code yX7_happened prog_9_method_56_code 2 (some FieldType.int) ∈ gl := gl_at 1164 (by decide +kernel) rfl
theorem tw1134 : Cond.methodLink "CasebookStepsLaw" 248 yX7_cases ∈ gl := gl_at 1165 (by decide +kernel) rfl
theorem tw1135 : Cond.instanceMethod yX7_cases ∈ gl := gl_at 1166 (by decide +kernel) rfl
theorem tw1136 : Cond.selects "CasebookStepsModel" yX7_cases yX7_cases ∈ gl := gl_at 1167 (by decide +kernel) rfl
theorem tw1137 : Cond.code yX7_cases prog_9_method_57_code 1 (some FieldType.int) ∈ gl := gl_at 1168 (by decide +kernel) rfl
theorem tw1138 : Cond.methodLink "CasebookStepsLaw" 253 yX7_daysWorked ∈ gl := gl_at 1169 (by decide +kernel) rfl
theorem tw1139 : Cond.instanceMethod yX7_daysWorked ∈ gl := gl_at 1170 (by decide +kernel) rfl
theorem tw1140 : Cond.selects "CasebookStepsModel" yX7_daysWorked yX7_daysWorked ∈ gl := gl_at 1171 (by decide +kernel) rfl
theorem tw1141 : Cond.code yX7_daysWorked prog_9_method_58_code 5 (some FieldType.long) ∈ gl := gl_at 1172 (by decide +kernel) rfl
theorem tw1142 : Cond.methodLink "CasebookStepsLaw" 257 yX7_doneShare ∈ gl := gl_at 1173 (by decide +kernel) rfl
theorem tw1143 : Cond.instanceMethod yX7_doneShare ∈ gl := gl_at 1174 (by decide +kernel) rfl
theorem tw1144 : Cond.selects "CasebookStepsModel" yX7_doneShare yX7_doneShare ∈ gl := gl_at 1175 (by decide +kernel) rfl
theorem tw1145 : Cond.code yX7_doneShare prog_9_method_59_code 2 (some FieldType.float) ∈ gl := gl_at 1176 (by decide +kernel) rfl
theorem tw1146 : Cond.arrayClass FieldType.long ∈ gl := gl_at 1177 (by decide +kernel) rfl
theorem tw1147 : Cond.arrayClass FieldType.double ∈ gl := gl_at 1178 (by decide +kernel) rfl
theorem iu0 : ∀ w ∈ wsX00, w ∈ gl := fun w h => List.mem_filter.mpr ⟨(by decide +kernel : ∀ w ∈ wsX00, w ∈ lw_tbl) w h, List.all_eq_true.mp (by decide +kernel : wsX00.all goodWord = true) w h⟩
theorem iu1 : ∀ w ∈ wsX10, w ∈ gl := fun w h => List.mem_filter.mpr ⟨(by decide +kernel : ∀ w ∈ wsX10, w ∈ lw_tbl) w h, List.all_eq_true.mp (by decide +kernel : wsX10.all goodWord = true) w h⟩
theorem iu2 : ∀ w ∈ wsX20, w ∈ gl := fun w h => List.mem_filter.mpr ⟨(by decide +kernel : ∀ w ∈ wsX20, w ∈ lw_tbl) w h, List.all_eq_true.mp (by decide +kernel : wsX20.all goodWord = true) w h⟩
theorem iu3 : ∀ w ∈ wsX30, w ∈ gl := fun w h => List.mem_filter.mpr ⟨(by decide +kernel : ∀ w ∈ wsX30, w ∈ lw_tbl) w h, List.all_eq_true.mp (by decide +kernel : wsX30.all goodWord = true) w h⟩
theorem iu4 : ∀ w ∈ wsX40, w ∈ gl := fun w h => List.mem_filter.mpr ⟨(by decide +kernel : ∀ w ∈ wsX40, w ∈ lw_tbl) w h, List.all_eq_true.mp (by decide +kernel : wsX40.all goodWord = true) w h⟩
theorem iu5 : ∀ w ∈ wsX50, w ∈ gl := fun w h => List.mem_filter.mpr ⟨(by decide +kernel : ∀ w ∈ wsX50, w ∈ lw_tbl) w h, List.all_eq_true.mp (by decide +kernel : wsX50.all goodWord = true) w h⟩
theorem iu6 : ∀ w ∈ wsX60, w ∈ gl := fun w h => List.mem_filter.mpr ⟨(by decide +kernel : ∀ w ∈ wsX60, w ∈ lw_tbl) w h, List.all_eq_true.mp (by decide +kernel : wsX60.all goodWord = true) w h⟩
theorem iu7 : ∀ w ∈ wsX70, w ∈ gl := fun w h => List.mem_filter.mpr ⟨(by decide +kernel : ∀ w ∈ wsX70, w ∈ lw_tbl) w h, List.all_eq_true.mp (by decide +kernel : wsX70.all goodWord = true) w h⟩
theorem tp0 : Cond.selects yX6_caseAt.cls yX6_caseAt yX6_caseAt ∈ gl := gl_at 0 (by decide +kernel) rfl
theorem tp2 : Cond.selects yX6_existingPlan.cls yX6_existingPlan yX6_existingPlan ∈ gl := gl_at 2 (by decide +kernel) rfl
theorem tp3 : Cond.selects yX6_planAt.cls yX6_planAt yX6_planAt ∈ gl := gl_at 3 (by decide +kernel) rfl
theorem tp4 : Cond.selects yX6_noteAndDo.cls yX6_noteAndDo yX6_noteAndDo ∈ gl := gl_at 4 (by decide +kernel) rfl
theorem tp5 : Cond.selects yX6_letHappen.cls yX6_letHappen yX6_letHappen ∈ gl := gl_at 5 (by decide +kernel) rfl
theorem tp6 : Cond.selects yX6_existingCase.cls yX6_existingCase yX6_existingCase ∈ gl := gl_at 6 (by decide +kernel) rfl
theorem tp7 : Cond.selects yX6_lateTasksOfAll.cls yX6_lateTasksOfAll yX6_lateTasksOfAll ∈ gl := gl_at 7 (by decide +kernel) rfl
theorem tp8 : Cond.selects yX6_caseWithStep.cls yX6_caseWithStep yX6_caseWithStep ∈ gl := gl_at 8 (by decide +kernel) rfl
theorem tp9 : Cond.selects yX6_replay.cls yX6_replay yX6_replay ∈ gl := gl_at 9 (by decide +kernel) rfl
theorem tp10 : Cond.selects yX7_raises.cls yX7_raises yX7_raises ∈ gl := gl_at 10 (by decide +kernel) rfl
theorem tp11 : Cond.selects yX7_isPlan.cls yX7_isPlan yX7_isPlan ∈ gl := gl_at 11 (by decide +kernel) rfl
theorem tp12 : Cond.selects yX7_isStep.cls yX7_isStep yX7_isStep ∈ gl := gl_at 12 (by decide +kernel) rfl
theorem tp13 : Cond.selects yX7_isCondition.cls yX7_isCondition yX7_isCondition ∈ gl := gl_at 13 (by decide +kernel) rfl
theorem tp14 : Cond.selects yX7_adds.cls yX7_adds yX7_adds ∈ gl := gl_at 14 (by decide +kernel) rfl
theorem tp15 : Cond.selects yX7_flag.cls yX7_flag yX7_flag ∈ gl := gl_at 15 (by decide +kernel) rfl
theorem tp16 : Cond.selects yX7_goes.cls yX7_goes yX7_goes ∈ gl := gl_at 16 (by decide +kernel) rfl
theorem tp17 : Cond.selects yX7_looks.cls yX7_looks yX7_looks ∈ gl := gl_at 17 (by decide +kernel) rfl
theorem tp18 : Cond.selects yX7_holdsOne.cls yX7_holdsOne yX7_holdsOne ∈ gl := gl_at 18 (by decide +kernel) rfl
theorem tp19 : Cond.selects yX7_holdsNow.cls yX7_holdsNow yX7_holdsNow ∈ gl := gl_at 19 (by decide +kernel) rfl
theorem tp20 : Cond.selects yX7_becomes.cls yX7_becomes yX7_becomes ∈ gl := gl_at 20 (by decide +kernel) rfl
theorem tp21 : Cond.selects yX7_closes.cls yX7_closes yX7_closes ∈ gl := gl_at 21 (by decide +kernel) rfl
theorem tp22 : Cond.selects yX7_isDone.cls yX7_isDone yX7_isDone ∈ gl := gl_at 22 (by decide +kernel) rfl
theorem tp23 : Cond.selects yX7_isCase.cls yX7_isCase yX7_isCase ∈ gl := gl_at 23 (by decide +kernel) rfl
theorem tp24 : Cond.selects yX7_keeps.cls yX7_keeps yX7_keeps ∈ gl := gl_at 24 (by decide +kernel) rfl
theorem tp25 : Cond.selects yX7_changed.cls yX7_changed yX7_changed ∈ gl := gl_at 25 (by decide +kernel) rfl
theorem tp26 : Cond.selects yX7_isStepOf.cls yX7_isStepOf yX7_isStepOf ∈ gl := gl_at 26 (by decide +kernel) rfl
theorem tp27 : Cond.selects yX7_isLateNow.cls yX7_isLateNow yX7_isLateNow ∈ gl := gl_at 27 (by decide +kernel) rfl
theorem tp28 : Cond.selects yX7_lacks.cls yX7_lacks yX7_lacks ∈ gl := gl_at 28 (by decide +kernel) rfl
theorem tp29 : Cond.selects yX7_misses.cls yX7_misses yX7_misses ∈ gl := gl_at 29 (by decide +kernel) rfl
theorem tp30 : Cond.selects yX7_inState.cls yX7_inState yX7_inState ∈ gl := gl_at 30 (by decide +kernel) rfl
end
section
/-! THE LOGICAL HEAP: ids are lists of numbers, the first one says the kind. I: what is an int in a cell; F: what is a reference, as an id. -/
abbrev xI : Type := List Nat → Nat → Int32
abbrev xF : Type := List Nat → Nat → Option (List Nat)
abbrev xG : Type := va_G × (Nat → ClassId) × (Nat → Prop) × (List Nat → Nat)
abbrev gD (g : xG) : va_G := g.1
abbrev gT (g : xG) : Nat → ClassId := g.2.1
abbrev gA (g : xG) : Nat → Prop := g.2.2.1
abbrev ga (g : xG) : List Nat → Nat := g.2.2.2
def up {α : Type} (f : List Nat → Nat → α) (i : List Nat) (k : Nat) (v : α) : List Nat → Nat → α := fun j q => if j = i ∧ q = k then v else f j q
def upR {α : Type} (f : List Nat → Nat → α) (i : List Nat) (r : Nat → α) : List Nat → Nat → α := fun j => if j = i then r else f j
def rq (a : List Nat → Nat) (r : Option (List Nat)) : Value := va_rf (r.map a)
/-- code and length: 0..7 an object of that class, 10 + t an array of the type t -/
def xk (id : List Nat) : Nat × Nat := match id with
  | [0] => (6, 0)
  | [1] => (13, 3)
  | [2] => (14, 4)
  | [3] => (3, 0)
  | [4, _] => (10, 512)
  | [5, _] => (4, 0)
  | [6, _] => (15, 8)
  | [7, _, _] => (5, 0)
  | [8, _, _, _] => (2, 0)
  | [9, _, _, _] => (16, 3)
  | [10, _, _, _, _] => (1, 0)
  | [11, _, f] => (match f with | 0 => (0, 0) | 1 => (10, 4) | 2 => (11, 8) | 3 => (11, 8) | _ => (10, 8))
  | [20] => (7, 0)
  | [21, f] => (match f with | 0 => (18, 3) | 1 => (17, 3) | 2 => (19, 3) | 3 => (17, 3) | 4 => (21, 3) | 5 => (20, 3) | 6 => (20, 3) | 7 => (20, 3) | 12 => (17, 4) | 14 => (18, 4) | 15 => (17, 4) | _ => (17, 4))
  | [22, f, _] => (match f with | 0 => (11, 8) | 1 => (10, 8) | 2 => (12, 8) | 3 => (10, 8) | 4 => (18, 8) | 5 => (17, 8) | 6 => (17, 8) | 7 => (17, 8) | 12 => (10, 4) | 14 => (11, 8) | 15 => (10, 8) | _ => (10, 8))
  | [23, f, _, _] => (match f with | 4 => (11, 6) | 5 => (10, 6) | 6 => (10, 6) | _ => (10, 2))
  | [24, f] => (match f with | 8 => (10, 3) | 9 => (12, 3) | 11 => (10, 4) | 13 => (12, 4) | 17 => (10, 4) | 18 => (10, 4) | 19 => (10, 4) | _ => (11, 8))
  | [30] => (22, 1)
  | _ => (23, 1)
/-- is field k of class ci a reference -/
def xrf (ci k : Nat) : Bool := match ci with
  | 0 => decide (k < 6)
  | 1 => false
  | 2 => k == 0
  | 3 => decide (k < 4)
  | 4 => k == 1
  | 5 => k == 2 || k == 3
  | 6 => k == 0 || k == 2 || k == 4 || k == 5
  | _ => !(k == 10 || k == 20 || k == 21 || k == 23)
def xv (a : List Nat → Nat) (r : Nat → Int32) (q : Nat → Option (List Nat)) (ci k : Nat) : Value := if xrf ci k = true then rq a (q k) else .int (r k)
def xe (a : List Nat → Nat) (r : Nat → Int32) (q : Nat → Option (List Nat)) (cd j : Nat) : Value := if cd < 13 then .int (r j) else if cd < 22 then rq a (q j) else if cd = 22 then .long (r j).toInt64 else .double (FP.f2d (r j).toUInt32)
def xat (g : xG) (id : List Nat) (r : Nat → Int32) (q : Nat → Option (List Nat)) (H : Heap) : Prop :=
  if (xk id).1 < 10 then ∃ w : vw_C, vwCl[(xk id).1]? = some w ∧ t_OB (ga g id) ((gD g).1 (xk id).1) w.2.2 ((gD g).2 (xk id).1) H (xv (ga g) r q (xk id).1)
  else H[ga g id]? = some (arrV (gT g ((xk id).1 - 10)) (xk id).2 (xe (ga g) r q (xk id).1))
def xR (g : xG) (dm : List Nat → Prop) (I : xI) (F : xF) (n : Nat) (H : Heap) : Prop :=
  H.size = n ∧ (∀ id, dm id → xat g id (I id) (F id) H) ∧ (∀ i j, dm i → dm j → ga g i = ga g j → i = j) ∧ (∀ id, dm id → gA g (ga g id)) ∧ ∀ q, n ≤ q → gA g q
def xty (t : Nat) : FieldType := match t with
  | 0 => .int | 1 => .char | 2 => .boolean | 3 => .object "CasebookSteps$Plan" | 4 => .object "CasebookSteps$Case" | 5 => .object "CasebookSteps$Step" | 6 => .object "CasebookSteps$Condition"
  | 7 => .array .int | 8 => .array .char | 9 => .array .boolean | 10 => .array (.array .int) | 11 => .array (.array .char) | 12 => .long | _ => .double
abbrev xT (g : xG) : List (ClassId × FieldType) := (List.range 14).map (fun t => (gT g t, xty t))
theorem xT_at (g : xG) {t : Nat} (h : t < 14) : (xT g)[t]? = some (gT g t, xty t) := by
  rw [List.getElem?_map, List.getElem?_range h]; rfl
theorem up_id {α : Type} {f : List Nat → Nat → α} {i j : List Nat} {k : Nat} {v : α} (h : j ≠ i) : up f i k v j = f j := by
  funext q; simp [up, h]
theorem up_at {α : Type} {f : List Nat → Nat → α} {i : List Nat} {k : Nat} {v : α} : up f i k v i k = v := by simp [up]
theorem up_ne {α : Type} {f : List Nat → Nat → α} {i : List Nat} {k q : Nat} {v : α} (h : q ≠ k) : up f i k v i q = f i q := by simp [up, h]
theorem xat_kept {g : xG} {id : List Nat} {r : Nat → Int32} {q : Nat → Option (List Nat)} {H H1 : Heap} (h : xat g id r q H) (hq : H1[ga g id]? = H[ga g id]?) : xat g id r q H1 := by
  unfold xat at h ⊢
  split
  · rename_i c
    rw [if_pos c] at h
    obtain ⟨w, h1, h2⟩ := h
    exact ⟨w, h1, h2.kept hq⟩
  · rename_i c
    rw [if_neg c] at h
    rw [hq]; exact h
theorem xat_lt {g : xG} {id : List Nat} {r : Nat → Int32} {q : Nat → Option (List Nat)} {H : Heap} (h : xat g id r q H) : ga g id < H.size := by
  unfold xat at h
  split at h
  · obtain ⟨w, h1, cell, h2, -⟩ := h
    exact (Array.getElem?_eq_some_iff.mp h2).1
  · exact (Array.getElem?_eq_some_iff.mp h).1
theorem xat_obj {g : xG} {id : List Nat} {r : Nat → Int32} {q : Nat → Option (List Nat)} {H : Heap} {ci : Nat} {w : vw_C} (hk : xk id = (ci, 0)) (hci : ci < 10) (hc : vwCl[ci]? = some w) : xat g id r q H ↔ t_OB (ga g id) ((gD g).1 ci) w.2.2 ((gD g).2 ci) H (xv (ga g) r q ci) := by
  unfold xat
  rw [hk, if_pos hci]
  constructor
  · rintro ⟨w2, h1, h2⟩
    rw [hc] at h1
    cases h1
    exact h2
  · intro h
    exact ⟨w, hc, h⟩
theorem xat_arr {g : xG} {id : List Nat} {r : Nat → Int32} {q : Nat → Option (List Nat)} {H : Heap} {t L : Nat} (hk : xk id = (10 + t, L)) : xat g id r q H ↔ H[ga g id]? = some (arrV (gT g t) L (xe (ga g) r q (10 + t))) := by
  unfold xat
  rw [hk, if_neg (by simp), Nat.add_sub_cancel_left]
theorem xR.upd {g : xG} {dm : List Nat → Prop} {I I' : xI} {F F' : xF} {n : Nat} {H H1 : Heap} (h : xR g dm I F n H) {id : List Nat} (hd : dm id) (hsz : H1.size = H.size) (ho : ∀ q : Nat, q ≠ ga g id → H1[q]? = H[q]?) (hI : ∀ i, i ≠ id → I' i = I i) (hF : ∀ i, i ≠ id → F' i = F i) (hat : xat g id (I' id) (F' id) H1) : xR g dm I' F' n H1 := by
  obtain ⟨h0, h1, h2, h3, h4⟩ := h
  refine ⟨hsz.trans h0, fun i hi => ?_, h2, h3, h4⟩
  by_cases e : i = id
  · rw [e]; exact hat
  · rw [hI i e, hF i e]
    exact xat_kept (h1 i hi) (ho _ (fun q => e (h2 i id hi hd q)))
theorem xR.congr {g g' : xG} {dm dm' : List Nat → Prop} {I I' : xI} {F F' : xF} {n : Nat} {H : Heap} (h : xR g dm I F n H) (hdm : ∀ i, dm' i → dm i) (hI : ∀ i, dm' i → I' i = I i) (hF : ∀ i, dm' i → F' i = F i) : xR g dm' I' F' n H := by
  obtain ⟨h0, h1, h2, h3, h4⟩ := h
  refine ⟨h0, fun i hi => ?_, fun i j hi hj => h2 i j (hdm i hi) (hdm j hj), fun i hi => h3 i (hdm i hi), h4⟩
  rw [hI i hi, hF i hi]
  exact h1 i (hdm i hi)
theorem xv_upd {a : List Nat → Nat} {r : Nat → Int32} {q : Nat → Option (List Nat)} {ci k : Nat} {x : Int32} (h : xrf ci k = false) (j : Nat) : updV (xv a r q ci) k (.int x) j = xv a (fun y => if y = k then x else r y) q ci j := by
  unfold updV xv
  by_cases e : j = k
  · subst e; simp [h]
  · simp [e]
theorem xv_updq {a : List Nat → Nat} {r : Nat → Int32} {q : Nat → Option (List Nat)} {ci k : Nat} {x : Option (List Nat)} (h : xrf ci k = true) (j : Nat) : updV (xv a r q ci) k (rq a x) j = xv a r (fun y => if y = k then x else q y) ci j := by
  unfold updV xv
  by_cases e : j = k
  · subst e; simp [h]
  · simp [e]
theorem up_row {α : Type} (f : List Nat → Nat → α) (i : List Nat) (k : Nat) (v : α) : up f i k v i = fun y => if y = k then v else f i y := by
  funext y; simp [up]
section X1
variable {p : Program} {l : Launch} {e : Env} {R : Room} {s : State} {m : MethodId} {args : Array Value} {below : List Frame} {meth : Method} {c : Code} {H : Heap} {locs : List Loc} {cells slots : Nat} {Q : State → Prop}
variable {cc : ByteArray} {pc : Nat} {ls : Array Slot} {rest : List Value} {H0 : Heap}
variable {g : xG} {dm : List Nat → Prop} {I : xI} {F : xF} {n : Nat}
/-- getfield -/
theorem x_get (hx : p.tables.exec = Jvm.exec) (hb : c.code = cc) {own ref C : String} {T : u_T} {N ci index : Nat} {Ts : List Cond} (hts : ∀ w ∈ Ts, w.before args s = true) (hin : ∀ w ∈ u_ws C T N, w ∈ Ts) (hown : s.vm.findClass own = some m.cls) (hK : va_K (gD g) vwCl (xT g) s) (hH : xR g dm I F n H) {id : List Nat} (hd : dm id) (hk : xk id = (ci, 0)) (hc : vwCl[ci]? = some (C, T, N)) (hci : ci < 10) (k : Nat) (hkN : k < N) (hlink : (Cond.fieldLink own index ref (T k).2.1 (T k).2.2.1).before args s = true) (hsame : ∀ x, s.fieldFound? (T k).1 (T k).2.1 (T k).2.2.1 = some x → s.fieldFound? ref (T k).2.1 (T k).2.2.1 = some x) {r : Nat → Int32} (hr : I id = r) {v : Value} (hv : xv (ga g) r (F id) ci k = v) (hdg : decode cc pc = .ok (.getfield index, 3))
    (kk : W p l e R s m args below meth c H locs cells slots Q (F0 m (pc + 3) ls (v :: rest))) : W p l e R s m args below meth c H locs cells slots Q (F0 m pc ls (.ref (ga g id) :: rest)) := by
  obtain ⟨cell, q1, q2, q3, q4⟩ := (xat_obj hk hci hc).mp (hH.2.1 id hd)
  obtain ⟨hS, hfc, kC, hkC, hkind⟩ := hK.1 ci _ hc
  obtain ⟨cf, kf, fi, f, hi, hsl⟩ := hS k hkN
  refine W.getf hx hb hown hlink (hsame _ hi) (u_facts hfc hkC (u_lays hts hin hkN) hi).1 q1 (by rw [q3]; exact fun h => by cases h) (v := v) ?_ rfl rfl hdg kk
  rw [hsl, q4 k hkN, hr, hv]
/-- putfield -/
theorem x_put (hx : p.tables.exec = Jvm.exec) (hb : c.code = cc) {own ref C : String} {T : u_T} {N ci index : Nat} {Ts : List Cond} (hts : ∀ w ∈ Ts, w.before args s = true) (hin : ∀ w ∈ u_ws C T N, w ∈ Ts) (ty0 : Nat → FieldType) (hty : ∀ k, k < N → parseFieldDescriptor (T k).2.2.1 = some (ty0 k)) (hnm : ∀ a, a < N → ∀ b, b < N → a ≠ b → (T a).2.1 ≠ (T b).2.1) (hown : s.vm.findClass own = some m.cls) (hK : va_K (gD g) vwCl (xT g) s) (hH : xR g dm I F n H) (hS0 : va_S (gA g) H0 H locs) {id : List Nat} (hd : dm id) (hk : xk id = (ci, 0)) (hc : vwCl[ci]? = some (C, T, N)) (hci : ci < 10) (k : Nat) (hkN : k < N) (hlink : (Cond.fieldLink own index ref (T k).2.1 (T k).2.2.1).before args s = true) (hsame : ∀ x, s.fieldFound? (T k).1 (T k).2.1 (T k).2.2.1 = some x → s.fieldFound? ref (T k).2.1 (T k).2.2.1 = some x) (hfin : (T k).2.2.2 = false ∨ ((T k).2.2.2 = true ∧ meth.name = "<init>" ∧ (T k).1 = own)) {ty : FieldType} {v : Value} (hdsc : parseFieldDescriptor (T k).2.2.1 = some ty) (hn : narrow ty v = v) (hfit : fits ty v = true) {I' : xI} {F' : xF}
    (hI : ∀ i, i ≠ id → I' i = I i) (hF : ∀ i, i ≠ id → F' i = F i) (hu : ∀ j, updV (xv (ga g) (I id) (F id) ci) k v j = xv (ga g) (I' id) (F' id) ci j) (hdg : decode cc pc = .ok (.putfield index, 3))
    (kk : ∀ (H1 : Heap) (locs1 : List Loc), xR g dm I' F' n H1 → va_S (gA g) H0 H1 locs1 → W p l e R s m args below meth c H1 locs1 cells slots Q (F0 m (pc + 3) ls rest)) : W p l e R s m args below meth c H locs cells slots Q (F0 m pc ls (v :: .ref (ga g id) :: rest)) := by
  have hap := va_apart (own := own) hts hin ty0 hty hnm hK hc
  obtain ⟨cell, q1, q2, q3, q4⟩ := (xat_obj hk hci hc).mp (hH.2.1 id hd)
  obtain ⟨hS, hfc, kC, hkC, hkind⟩ := hK.1 ci _ hc
  obtain ⟨cf, kf, fi, f, hi, hsl⟩ := hS k hkN
  have hst := (u_facts hfc hkC (u_lays hts hin hkN) hi).1
  have fin : ∀ (H' : Heap), H'[ga g id]? = some (cell.setSlot f.slot v) → H'.size = H.size → (∀ q : Nat, q ≠ ga g id → H'[q]? = H[q]?) → W p l e R s m args below meth c H' (locs ++ [⟨ga g id, f.slot⟩]) cells slots Q (F0 m (pc + 3) ls rest) := fun H' e1 e2 e3 => by
    rw [hsl] at e1
    exact kk H' _ (hH.upd hd e2 e3 hI hF ((xat_obj hk hci hc).mpr (t_OB.to (V := updV (xv (ga g) (I id) (F id) ci) k v) ⟨_, e1, q2, q3, t_set q4 hap hkN v⟩ (fun j _ => hu j)))) (hS0.put e2 e3 (hH.2.2.2.1 id hd))
  rcases hfin with hf | ⟨hf, hinit, hdecl⟩
  · have hlay := hts _ (hin _ (u_in_lay hkN))
    unfold u_lay at hlay
    rw [if_neg (by rw [hf]; decide)] at hlay
    have h6 := u_store hfc hkC hkind hlay hi hdsc hn hfit
    exact W.putK hx hb (f := f) ⟨hown, hlink, ⟨_, _, _, hsame _ hi⟩, hst⟩ (by rw [q2]; exact h6) q1 q3 (by rw [hsl]; exact k2_hasslot (q4 k hkN)) rfl rfl hdg fin
  · have hlay := hts _ (hin _ (u_in_lay hkN))
    unfold u_lay at hlay
    rw [if_pos hf] at hlay
    have hcf : m.cls = cf := by
      obtain ⟨_, _, c', _, _, _, -, -, hf', -, -, -, hown2, -⟩ := Cond.laysFinal_spec hlay
      have e1 : c' = cf := by have := hi.symm.trans hf'; simp at this; exact this.1.symm
      rw [hdecl] at hown2
      rw [← e1]; exact Option.some.inj (hown.symm.trans hown2)
    have h6 := u_fits hfc hkC hkind (Or.inr hlay) hi hdsc hn hfit
    exact W.putFinK hx hb hown hlink (hsame _ hi) hst hcf hinit (by rw [q2]; exact h6) q1 q3 (by rw [hsl]; exact k2_hasslot (q4 k hkN)) rfl rfl hdg fin
theorem x_in {i : Int32} {j L : Nat} (hij : i = nI j) (hj : j < L) (hL : L < 2 ^ 31) : vp_in i L ∧ i.toNatClampNeg = j := by
  subst hij
  exact ⟨vp_in_nI hj hL, nI_clamp (by omega)⟩
theorem x_cell {g : xG} {dm : List Nat → Prop} {I : xI} {F : xF} {n : Nat} {H : Heap} (hH : xR g dm I F n H) {id : List Nat} (hd : dm id) {t L : Nat} (hk : xk id = (10 + t, L)) : H[ga g id]? = some (arrV (gT g t) L (xe (ga g) (I id) (F id) (10 + t))) := (xat_arr hk).mp (hH.2.1 id hd)
theorem x_iald (hx : p.tables.exec = Jvm.exec) (hb : c.code = cc) (hK : va_K (gD g) vwCl (xT g) s) (hH : xR g dm I F n H) {id : List Nat} (hd : dm id) {L : Nat} (hk : xk id = (10, L)) {i : Int32} {r : Nat → Int32} (hr : I id = r) (j : Nat) (hij : i = nI j) (hj : j < L) (hL : L < 2 ^ 31) (hdg : decode cc pc = .ok (.iaload, 1))
    (kk : W p l e R s m args below meth c H locs cells slots Q (F0 m (pc + 1) ls (.int (r j) :: rest))) : W p l e R s m args below meth c H locs cells slots Q (F0 m pc ls (.int i :: .ref (ga g id) :: rest)) := by
  obtain ⟨h1, h2⟩ := x_in hij hj hL
  have hc := x_cell hH hd (t := 0) hk
  subst hr
  exact W.iald (v := .int (I id j)) hx hb hc ((hK.2 0 _ (xT_at g (by decide))).1 L _) (fun q => by cases q) (by rw [arrV_size]; exact h1) (by rw [h2, arrV_read _ _ hj]; rfl) rfl rfl hdg kk
theorem x_cald (hx : p.tables.exec = Jvm.exec) (hb : c.code = cc) (hK : va_K (gD g) vwCl (xT g) s) (hH : xR g dm I F n H) {id : List Nat} (hd : dm id) {L : Nat} (hk : xk id = (11, L)) {i : Int32} {r : Nat → Int32} (hr : I id = r) (j : Nat) (hij : i = nI j) (hj : j < L) (hL : L < 2 ^ 31) (hdg : decode cc pc = .ok (.caload, 1))
    (kk : W p l e R s m args below meth c H locs cells slots Q (F0 m (pc + 1) ls (.int (r j) :: rest))) : W p l e R s m args below meth c H locs cells slots Q (F0 m pc ls (.int i :: .ref (ga g id) :: rest)) := by
  obtain ⟨h1, h2⟩ := x_in hij hj hL
  have hc := x_cell hH hd (t := 1) hk
  subst hr
  exact W.cald (v := .int (I id j)) hx hb hc ((hK.2 1 _ (xT_at g (by decide))).1 L _) (fun q => by cases q) (by rw [arrV_size]; exact h1) (by rw [h2, arrV_read _ _ hj]; rfl) rfl rfl hdg kk
theorem x_bald (hx : p.tables.exec = Jvm.exec) (hb : c.code = cc) (hK : va_K (gD g) vwCl (xT g) s) (hH : xR g dm I F n H) {id : List Nat} (hd : dm id) {L : Nat} (hk : xk id = (12, L)) {i : Int32} {r : Nat → Int32} (hr : I id = r) (j : Nat) (hij : i = nI j) (hj : j < L) (hL : L < 2 ^ 31) (hdg : decode cc pc = .ok (.baload, 1))
    (kk : W p l e R s m args below meth c H locs cells slots Q (F0 m (pc + 1) ls (.int (r j) :: rest))) : W p l e R s m args below meth c H locs cells slots Q (F0 m pc ls (.int i :: .ref (ga g id) :: rest)) := by
  obtain ⟨h1, h2⟩ := x_in hij hj hL
  have hc := x_cell hH hd (t := 2) hk
  subst hr
  exact W.zald (v := .int (I id j)) hx hb hc ((hK.2 2 _ (xT_at g (by decide))).1 L _) (fun q => by cases q) (by rw [arrV_size]; exact h1) (by rw [h2, arrV_read _ _ hj]; rfl) rfl rfl hdg kk
theorem x_aald (hx : p.tables.exec = Jvm.exec) (hb : c.code = cc) (hK : va_K (gD g) vwCl (xT g) s) (hH : xR g dm I F n H) {id : List Nat} (hd : dm id) (t : Nat) {L : Nat} (hk : xk id = (10 + t, L)) (ht : 3 ≤ t ∧ t < 12) {i : Int32} (j : Nat) (hij : i = nI j) (hj : j < L) (hL : L < 2 ^ 31) {v : Value} (hv : rq (ga g) (F id j) = v) (hdg : decode cc pc = .ok (.aaload, 1))
    (kk : W p l e R s m args below meth c H locs cells slots Q (F0 m (pc + 1) ls (v :: rest))) : W p l e R s m args below meth c H locs cells slots Q (F0 m pc ls (.int i :: .ref (ga g id) :: rest)) := by
  obtain ⟨h1, h2⟩ := x_in hij hj hL
  have hc := x_cell hH hd (t := t) hk
  subst hv
  refine W.aald (v := rq (ga g) (F id j)) (ty := xty t) hx hb hc ((hK.2 t _ (xT_at g (by omega))).1 L _) ?_ (fun q => by cases q) (by rw [arrV_size]; exact h1) ?_ rfl rfl hdg kk
  · rcases (show t = 3 ∨ t = 4 ∨ t = 5 ∨ t = 6 ∨ t = 7 ∨ t = 8 ∨ t = 9 ∨ t = 10 ∨ t = 11 by omega) with h | h | h | h | h | h | h | h | h <;> subst h <;> rfl
  · rw [h2, arrV_read _ _ hj]
    unfold xe
    rw [if_neg (by omega), if_pos (by omega)]
theorem x_arrset {a : List Nat → Nat} {cA : ClassId} {L j : Nat} {r r' : Nat → Int32} {q q' : Nat → Option (List Nat)} {cd : Nat} {v : Value} (h : ∀ y, updV (xe a r q cd) j v y = xe a r' q' cd y) : (arrV cA L (xe a r q cd)).setSlot j v = arrV cA L (xe a r' q' cd) := by
  rw [arrV_store]
  exact congrArg (arrV cA L) (funext h)
theorem xe_upd {a : List Nat → Nat} {I : xI} {F : xF} {id : List Nat} {cd k : Nat} {x : Int32} (h : cd < 13) (y : Nat) : updV (xe a (I id) (F id) cd) k (.int x) y = xe a (up I id k x id) (F id) cd y := by
  unfold updV xe
  by_cases e : y = k
  · subst e; simp [h, up]
  · simp [e, up]
theorem xe_updq {a : List Nat → Nat} {I : xI} {F : xF} {id : List Nat} {cd k : Nat} {x : Option (List Nat)} (h : 13 ≤ cd ∧ cd < 22) (y : Nat) : updV (xe a (I id) (F id) cd) k (rq a x) y = xe a (I id) (up F id k x id) cd y := by
  unfold updV xe
  by_cases e : y = k
  · subst e; rw [if_pos rfl, if_neg (by omega), if_pos (by omega)]; simp [up]
  · simp [e, up]
theorem x_iast (hx : p.tables.exec = Jvm.exec) (hb : c.code = cc) (hK : va_K (gD g) vwCl (xT g) s) (hH : xR g dm I F n H) (hS : va_S (gA g) H0 H locs) {id : List Nat} (hd : dm id) {L : Nat} (hk : xk id = (10, L)) {i x : Int32} (j : Nat) (hij : i = nI j) (hj : j < L) (hL : L < 2 ^ 31) {I' : xI} (hI : up I id j x = I') (hdg : decode cc pc = .ok (.iastore, 1))
    (kk : ∀ (H1 : Heap) (locs1 : List Loc), xR g dm I' F n H1 → va_S (gA g) H0 H1 locs1 → W p l e R s m args below meth c H1 locs1 cells slots Q (F0 m (pc + 1) ls rest)) : W p l e R s m args below meth c H locs cells slots Q (F0 m pc ls (.int x :: .int i :: .ref (ga g id) :: rest)) := by
  obtain ⟨h1, h2⟩ := x_in hij hj hL
  have hc := x_cell hH hd (t := 0) hk
  subst hI
  refine W.iast hx hb hc ((hK.2 0 _ (xT_at g (by decide))).1 L _) (fun q => by cases q) (by rw [arrV_size]; exact h1) rfl rfl hdg fun H1 e z oq => ?_
  refine kk H1 _ (hH.upd hd z oq (fun i hi => up_id hi) (fun _ _ => rfl) ((xat_arr (t := 0) hk).mpr ?_)) (hS.put z oq (hH.2.2.2.1 id hd))
  rw [e, h2]
  exact congrArg some (x_arrset (fun y => xe_upd (by decide) y))
theorem x_cast (hx : p.tables.exec = Jvm.exec) (hb : c.code = cc) (hK : va_K (gD g) vwCl (xT g) s) (hH : xR g dm I F n H) (hS : va_S (gA g) H0 H locs) {id : List Nat} (hd : dm id) {L : Nat} (hk : xk id = (11, L)) {i x : Int32} (j : Nat) (hij : i = nI j) (hj : j < L) (hL : L < 2 ^ 31) (hn : narrow .char (.int x) = .int x) {I' : xI} (hI : up I id j x = I') (hdg : decode cc pc = .ok (.castore, 1))
    (kk : ∀ (H1 : Heap) (locs1 : List Loc), xR g dm I' F n H1 → va_S (gA g) H0 H1 locs1 → W p l e R s m args below meth c H1 locs1 cells slots Q (F0 m (pc + 1) ls rest)) : W p l e R s m args below meth c H locs cells slots Q (F0 m pc ls (.int x :: .int i :: .ref (ga g id) :: rest)) := by
  obtain ⟨h1, h2⟩ := x_in hij hj hL
  have hc := x_cell hH hd (t := 1) hk
  subst hI
  refine W.cast hx hb hc ((hK.2 1 _ (xT_at g (by decide))).1 L _) (fun q => by cases q) (by rw [arrV_size]; exact h1) rfl rfl hdg fun H1 e z oq => ?_
  refine kk H1 _ (hH.upd hd z oq (fun i hi => up_id hi) (fun _ _ => rfl) ((xat_arr (t := 1) hk).mpr ?_)) (hS.put z oq (hH.2.2.2.1 id hd))
  rw [e, h2, hn]
  exact congrArg some (x_arrset (fun y => xe_upd (by decide) y))
theorem x_bast (hx : p.tables.exec = Jvm.exec) (hb : c.code = cc) (hK : va_K (gD g) vwCl (xT g) s) (hH : xR g dm I F n H) (hS : va_S (gA g) H0 H locs) {id : List Nat} (hd : dm id) {L : Nat} (hk : xk id = (12, L)) {i x : Int32} (j : Nat) (hij : i = nI j) (hj : j < L) (hL : L < 2 ^ 31) (hn : narrow .boolean (.int x) = .int x) {I' : xI} (hI : up I id j x = I') (hdg : decode cc pc = .ok (.bastore, 1))
    (kk : ∀ (H1 : Heap) (locs1 : List Loc), xR g dm I' F n H1 → va_S (gA g) H0 H1 locs1 → W p l e R s m args below meth c H1 locs1 cells slots Q (F0 m (pc + 1) ls rest)) : W p l e R s m args below meth c H locs cells slots Q (F0 m pc ls (.int x :: .int i :: .ref (ga g id) :: rest)) := by
  obtain ⟨h1, h2⟩ := x_in hij hj hL
  have hc := x_cell hH hd (t := 2) hk
  subst hI
  refine W.zast hx hb hc ((hK.2 2 _ (xT_at g (by decide))).1 L _) (fun q => by cases q) (by rw [arrV_size]; exact h1) rfl rfl hdg fun H1 e z oq => ?_
  refine kk H1 _ (hH.upd hd z oq (fun i hi => up_id hi) (fun _ _ => rfl) ((xat_arr (t := 2) hk).mpr ?_)) (hS.put z oq (hH.2.2.2.1 id hd))
  rw [e, h2, hn]
  exact congrArg some (x_arrset (fun y => xe_upd (by decide) y))
/-- an object into an array of its class -/
theorem x_aast (hx : p.tables.exec = Jvm.exec) (hb : c.code = cc) (hK : va_K (gD g) vwCl (xT g) s) (hH : xR g dm I F n H) (hS : va_S (gA g) H0 H locs) {id : List Nat} (hd : dm id) (t : Nat) {L : Nat} (hk : xk id = (10 + t, L)) (ht : 3 ≤ t ∧ t < 7) {id2 : List Nat} (hd2 : dm id2) {ci : Nat} (hk2 : xk id2 = (ci, 0)) (hci : ci < 10) {w : vw_C} (hc2 : vwCl[ci]? = some w) (hty : xty t = .object w.1) {i : Int32} (j : Nat) (hij : i = nI j) (hj : j < L) (hL : L < 2 ^ 31) {F' : xF} (hF : up F id j (some id2) = F') (hdg : decode cc pc = .ok (.aastore, 1))
    (kk : ∀ (H1 : Heap) (locs1 : List Loc), xR g dm I F' n H1 → va_S (gA g) H0 H1 locs1 → W p l e R s m args below meth c H1 locs1 cells slots Q (F0 m (pc + 1) ls rest)) : W p l e R s m args below meth c H locs cells slots Q (F0 m pc ls (.ref (ga g id2) :: .int i :: .ref (ga g id) :: rest)) := by
  obtain ⟨h1, h2⟩ := x_in hij hj hL
  have hc := x_cell hH hd (t := t) hk
  subst hF
  obtain ⟨cellV, g1, g2, g3, -⟩ := (xat_obj hk2 hci hc2).mp (hH.2.1 id2 hd2)
  have hcls := (hK.1 ci w hc2).2
  have hRA := (hK.2 t _ (xT_at g (by omega))).2
  rw [hty] at hRA
  obtain ⟨kA, comp, k1, k2, k3, -⟩ := hRA
  have hcomp : comp = (gD g).1 ci := Option.some.inj (k3.symm.trans hcls.1)
  subst hcomp
  have hcls' := hcls
  obtain ⟨kC, hkC, -⟩ := hcls.2
  refine W.aast hx hb hc (fun q h => by cases h) (fun h => by cases h) k1 k2 rfl hkC ⟨fun q => h1 (Or.inl q), by rw [arrV_size, h2]; exact hj⟩ g1 (fun q h => by rw [g3] at h; cases h) (by rw [g2]; exact hkC) (by rw [g2]; exact va_assign hcls') rfl rfl hdg fun H1 e z oq => ?_
  refine kk H1 _ (hH.upd hd z oq (fun _ _ => rfl) (fun i hi => up_id hi) ((xat_arr (t := t) hk).mpr ?_)) (hS.put z oq (hH.2.2.2.1 id hd))
  rw [e, h2]
  exact congrArg some (x_arrset (v := rq (ga g) (some id2)) (fun y => xe_updq (by omega) y))
/-- behind an allocation: the new id's cell is there -/
theorem xR.push (hH : xR g dm I F n H) {id : List Nat} (hid : ¬ dm id) (had : ga g id = n) {H1 : Heap} (z : H1.size = H.size + 1) (o : ∀ q : Nat, q < H.size → H1[q]? = H[q]?) {I' : xI} {F' : xF} (hI : ∀ i, i ≠ id → I' i = I i) (hF : ∀ i, i ≠ id → F' i = F i) (hat : xat g id (I' id) (F' id) H1) : xR g (fun i => i = id ∨ dm i) I' F' (n + 1) H1 := by
  obtain ⟨h0, h1, h2, h3, h4⟩ := hH
  have lt : ∀ i, dm i → ga g i < H.size := fun i hi => xat_lt (h1 i hi)
  refine ⟨by omega, fun i hi => ?_, fun i j hi hj hq => ?_, fun i hi => ?_, fun q hq => h4 q (by omega)⟩
  · rcases hi with rfl | hi
    · exact hat
    · have e : i ≠ id := fun q => hid (q ▸ hi)
      rw [hI i e, hF i e]
      exact xat_kept (h1 i hi) (o _ (lt i hi))
  · rcases hi with rfl | hi <;> rcases hj with rfl | hj
    · rfl
    · have := lt j hj; omega
    · have := lt i hi; omega
    · exact h2 i j hi hj hq
  · rcases hi with rfl | hi
    · rw [had]; exact h4 n (Nat.le_refl n)
    · exact h3 i hi
theorem x_Spush {A : Nat → Prop} {H1 : Heap} (hS : va_S A H0 H locs) (z : H1.size = H.size + 1) (o : ∀ q : Nat, q < H.size → H1[q]? = H[q]?) : va_S A H0 H1 locs := ⟨Nat.le_trans hS.1 (by omega), fun x h1 h2 => (o x (Nat.lt_of_lt_of_le h1 hS.1)).trans (hS.2.1 x h1 h2), hS.2.2⟩
theorem upR_at {α : Type} {f : List Nat → Nat → α} {i : List Nat} {r : Nat → α} : upR f i r i = r := by simp [upR]
theorem upR_id {α : Type} {f : List Nat → Nat → α} {i j : List Nat} {r : Nat → α} (h : j ≠ i) : upR f i r j = f j := by simp [upR, h]
/-- new C -/
theorem x_new (hx : p.tables.exec = Jvm.exec) (hb : c.code = cc) {own C : String} {T : u_T} {N ci index : Nat} {Ts : List Cond} (hts : ∀ w ∈ Ts, w.before args s = true) (hin : ∀ w ∈ u_ws C T N, w ∈ Ts) (ty : Nat → FieldType) (hty : ∀ k, k < N → parseFieldDescriptor (T k).2.2.1 = some (ty k)) (hown : s.vm.findClass own = some m.cls) (hcl : (Cond.classLink own index C).before args s = true) (hinst : (Cond.instantiable C N).before args s = true) (hini : (Cond.initialized C).before args s = true)
    (hK : va_K (gD g) vwCl (xT g) s) (hH : xR g dm I F n H) (hS : va_S (gA g) H0 H locs) (id : List Nat) (hid : ¬ dm id) (had : ga g id = n) (hk : xk id = (ci, 0)) (hci : ci < 10) (hc : vwCl[ci]? = some (C, T, N)) (hfs : ∀ j, j < N → defaultValue (ty j) = xv (ga g) (fun _ => 0) (fun _ => none) ci j) (hcells : cells + 1 ≤ R.cells) (hslots : slots + N ≤ R.slots) (hdg : decode cc pc = .ok (.new index, 3))
    (kk : ∀ (H1 : Heap), xR g (fun i => i = id ∨ dm i) (upR I id (fun _ => 0)) (upR F id (fun _ => none)) (n + 1) H1 → va_S (gA g) H0 H1 locs →
      W p l e R s m args below meth c H1 locs (cells + 1) (slots + N) Q (F0 m (pc + 3) ls (.ref (ga g id) :: rest))) : W p l e R s m args below meth c H locs cells slots Q (F0 m pc ls rest) := by
  have hKn := hK.1 ci _ hc
  have hn : H.size = n := hH.1
  refine W.newcK hx hb hown hcl hinst hini rfl hdg hcells hslots hKn.2.1 rfl fun H1 kC hkC e1 z1 o1 => ?_
  rw [hn, ← had]
  refine kk H1 (hH.push hid had z1 o1 (fun i hi => upR_id hi) (fun i hi => upR_id hi) ((xat_obj hk hci hc).mpr ?_)) (x_Spush hS z1 o1)
  rw [upR_at, upR_at, had, ← hn]
  exact (u_born ty hts hin hKn hkC e1 hty).to hfs
/-- new int[], char[], boolean[] -/
theorem x_newa (hx : p.tables.exec = Jvm.exec) (hb : c.code = cc) {atype : ArrayType} (harr : (Cond.arrayClass (newarray.typeOf atype)).before args s = true) (t : Nat) (ht : t < 3) (hty : newarray.typeOf atype = xty t) (hK : va_K (gD g) vwCl (xT g) s) (hH : xR g dm I F n H) (hS : va_S (gA g) H0 H locs) (id : List Nat) (hid : ¬ dm id) (had : ga g id = n) {L : Nat} (hk : xk id = (10 + t, L))
    {x : Int32} (hx0 : x = nI L) (hL : L ≤ 512) (hcells : cells + 1 ≤ R.cells) (hslots : slots + L ≤ R.slots) (hdg : decode cc pc = .ok (.newarray atype, 2))
    (kk : ∀ (H1 : Heap), xR g (fun i => i = id ∨ dm i) (upR I id (fun _ => 0)) (upR F id (fun _ => none)) (n + 1) H1 → va_S (gA g) H0 H1 locs →
      W p l e R s m args below meth c H1 locs (cells + 1) (slots + L) Q (F0 m (pc + 2) ls (.ref (ga g id) :: rest))) : W p l e R s m args below meth c H locs cells slots Q (F0 m pc ls (.int x :: rest)) := by
  have hn : H.size = n := hH.1
  subst hx0
  have hcb : componentBytes (newarray.typeOf atype) ≤ 8 := by cases atype <;> decide
  refine va_newaK hx hb harr rfl hdg rfl (nI_pos (by omega)) (nI_clamp (by omega)) (by have := Nat.mul_le_mul hL hcb; omega) hcells hslots rfl fun H1 cA e1 z1 o1 hAr hNm => ?_
  have hcA : cA = gT g t := by
    have h := (hK.2 t _ (xT_at g (by omega))).2
    rw [hty] at hNm
    rcases (show t = 0 ∨ t = 1 ∨ t = 2 by omega) with e | e | e <;> subst e <;> exact Option.some.inj (hNm.symm.trans h)
  rw [hn, ← had]
  refine kk H1 (hH.push hid had z1 o1 (fun i hi => upR_id hi) (fun i hi => upR_id hi) ((xat_arr hk).mpr ?_)) (x_Spush hS z1 o1)
  rw [upR_at, upR_at, had, ← hn, e1, hcA]
  congr 2
  funext j
  unfold xe
  rw [if_pos (by omega), hty]
  rcases (show t = 0 ∨ t = 1 ∨ t = 2 by omega) with e | e | e <;> subst e <;> rfl
/-- new C[] -/
theorem x_anew (hx : p.tables.exec = Jvm.exec) (hb : c.code = cc) {own C : String} {index : Nat} (hown : s.vm.findClass own = some m.cls) (hclink : (Cond.classLink own index C).before args s = true) (hover : (Cond.arrayOver (.object C)).before args s = true) (t : Nat) (ht : 3 ≤ t ∧ t < 7) (hty : xty t = .object C) (hK : va_K (gD g) vwCl (xT g) s) (hH : xR g dm I F n H) (hS : va_S (gA g) H0 H locs) (id : List Nat) (hid : ¬ dm id) (had : ga g id = n) {L : Nat} (hk : xk id = (10 + t, L))
    {x : Int32} (hx0 : x = nI L) (hL : L ≤ 512) (hcells : cells + 1 ≤ R.cells) (hslots : slots + L ≤ R.slots) (hdg : decode cc pc = .ok (.anewarray index, 3))
    (kk : ∀ (H1 : Heap), xR g (fun i => i = id ∨ dm i) (upR I id (fun _ => 0)) (upR F id (fun _ => none)) (n + 1) H1 → va_S (gA g) H0 H1 locs →
      W p l e R s m args below meth c H1 locs (cells + 1) (slots + L) Q (F0 m (pc + 3) ls (.ref (ga g id) :: rest))) : W p l e R s m args below meth c H locs cells slots Q (F0 m pc ls (.int x :: rest)) := by
  have hn : H.size = n := hH.1
  subst hx0
  have hcl : (nI L).toNatClampNeg = L := nI_clamp (by omega)
  refine W.anew hx hb hown hclink hover rfl hdg rfl (nI_pos (by omega)) (by rw [hcl]; omega) hcells (by rw [hcl]; exact hslots) fun cA kA comp f1 f2 f3 f4 => ?_
  rw [hcl]
  generalize hH1 : H.push ({ cls := cA, slots := Array.replicate L .null, vm := .none } : Cell) = H1
  have z1 : H1.size = H.size + 1 := by rw [← hH1, Array.size_push]
  have e1 : H1[H.size]? = some (arrV cA L (fun _ => .null)) := by rw [← hH1, Array.getElem?_push_size, ← arrV_new]
  have o1 : ∀ q : Nat, q < H.size → H1[q]? = H[q]? := fun q hq => by rw [← hH1, Array.getElem?_push, if_neg (Nat.ne_of_lt hq)]
  have hcA : cA = gT g t := by
    have h := (hK.2 t _ (xT_at g (by omega))).2
    rw [hty] at h
    obtain ⟨kA', comp', h1, h2, h3, h4⟩ := h
    first
      | exact Option.some.inj (f1.symm.trans h4)
      | exact Option.some.inj (f4.symm.trans h4)
  show W p l e R s m args below meth c H1 locs (cells + 1) (slots + L) Q (F0 m (pc + 3) ls (.ref H.size :: rest))
  rw [hn, ← had]
  refine kk H1 (hH.push hid had z1 o1 (fun i hi => upR_id hi) (fun i hi => upR_id hi) ((xat_arr hk).mpr ?_)) (x_Spush hS z1 o1)
  rw [upR_at, upR_at, had, ← hn, e1, hcA]
  congr 2
  funext j
  unfold xe
  rw [if_neg (by omega), if_pos (by omega)]
  rfl
end X1
/-! THE ENVIRONMENT of every contract: the classes' tables, the tables' words that no run changes, the strings, what a throw needs -/
def fl : List Cond := lw_tbl.filter (fun w => goodWord w || (w.onTables && w.keepsFace))
def xAO : List String := ["CasebookSteps$Plan", "CasebookSteps$Case", "CasebookSteps$Step", "CasebookSteps$Condition"]
def xNest : List (String × Nat × MethodName × String) := [("CasebookSteps", 30, yX3_init, "CasebookSteps"), ("CasebookSteps$Step", 11, yX2_init, "CasebookSteps"), ("CasebookSteps$Case", 53, yX6_isDatum, "CasebookSteps")]
def xStr : List (Nat × String) := [(47, "there are 3 plans"), (294, "no such plan"), (58, "no such kind"), (65, "the parent is no stage of the plan"), (285, "the plan is used"), (73, "the plan has 8 steps"), (299, "no such step"), (280, "no such condition"), (283, "the step has 3 such conditions"), (116, "a milestone has no exit conditions"), (287, "the step is not a task"), (130, "the limit is not between 1 and 99"), (135, "the step is not a milestone"), (143, "the plan has no steps"), (145, "there are 4 cases"), (297, "no such case"), (158, "no such datum"), (163, "the value is not between -99 and 99"), (172, "no such event"), (188, "the task is not active"), (193, "the plan has fewer steps than that of the case"), (198, "the number of days is not between 1 and 10"), (238, "no active task that is not late"), (245, "the step has no such condition")]
def xE (g : xG) (U : State) (H : Heap) : Prop :=
  va_K (gD g) vwCl (xT g) U ∧ (∀ w ∈ fl, w.before #[] U = true) ∧ (∀ C ∈ xAO, va_AO C U) ∧ (∀ q ∈ xNest, va_Nw (.methodLinkNest q.1 q.2.1 q.2.2.1 q.2.2.2) U) ∧ (∀ q ∈ xStr, ∃ a, vk_R "CasebookSteps" q.1 q.2 a U) ∧
  vx_Zq Bundle.tN "UNASSIGNED_STACK" Bundle.steD (gA g) U H ∧ vx_Zq Bundle.tN "SUPPRESSED_SENTINEL" Bundle.listD (gA g) U H
theorem xE.at {g : xG} {s U : State} {H : Heap} (h : xE g s H) (hW : s.WarmedH U.vm) : xE g U H := by
  obtain ⟨h1, h2, h3, h4, h5, h6, h7⟩ := h
  refine ⟨va_K.moved hW.alike h1, fun w hw => ?_, fun C hC => va_AO.moved hW.alike (h3 C hC), fun q hq => va_Nw.warmM hW (h4 q hq), fun q hq => ?_, vx_Zq.moved hW.alike h6, vx_Zq.moved hW.alike h7⟩
  · have hk := (List.mem_filter.mp hw).2
    have hb := h2 w hw
    rw [Bool.or_eq_true, Bool.and_eq_true] at hk
    rcases hk with hk | ⟨hk1, hk2⟩
    · exact word_at hW (good_of_word hk) hb
    · exact va_tabs hk1 (rfl : (s.setVm U.vm).vm = U.vm) (Cond.before_shiftedFace (State.Shifted.of_warmed hW) w hk2 hb)
  · obtain ⟨a, ha⟩ := h5 q hq
    exact ⟨a, vk_R.warm hW ha⟩
theorem xE.kept {g : xG} {s : State} {H H1 : Heap} {locs : List Loc} (h : xE g s H) (hS : va_S (gA g) H H1 locs) : xE g s H1 := by
  obtain ⟨h1, h2, h3, h4, h5, h6, h7⟩ := h
  exact ⟨h1, h2, h3, h4, h5, vx_Zq.kept h6 hS.2.1, vx_Zq.kept h7 hS.2.1⟩
theorem xE.tf {g : xG} {s : State} {H : Heap} (h : xE g s H) (args : Array Value) : ∀ w ∈ fl, w.before args s = true := fun w hw => by
  have hk := (List.mem_filter.mp hw).2
  have hb := h.2.1 w hw
  rw [Bool.or_eq_true, Bool.and_eq_true] at hk
  rcases hk with hk | ⟨hk1, hk2⟩
  · exact word_at (State.WarmedH.refl s) (good_of_word hk) hb
  · exact va_tabs hk1 rfl hb
theorem gl_fl {w : Cond} (h : w ∈ gl) : w ∈ fl := by
  obtain ⟨h1, h2⟩ := List.mem_filter.mp h
  exact List.mem_filter.mpr ⟨h1, by rw [h2]; rfl⟩
theorem xE.ts {g : xG} {s : State} {H : Heap} (h : xE g s H) (args : Array Value) : ∀ w ∈ gl, w.before args s = true := fun w hw => h.tf args w (gl_fl hw)
/-- what a call needs of the callee's name -/
def xCal (y : MethodName) (bytes : ByteArray) (maxL : Nat) (ret : Option FieldType) (n : Nat) : Prop := Cond.code y bytes maxL ret ∈ gl ∧ Cond.initialized y.cls ∈ gl ∧ (y.cls ≠ "java/lang/invoke/MethodHandle" ∧ y.cls ≠ "java/lang/invoke/VarHandle" ∧ (parseMethodDescriptor y.desc).map (fun d => d.parameters.length) = some n)
def xCalV (y : MethodName) (bytes : ByteArray) (maxL : Nat) (ret : Option FieldType) (n : Nat) : Prop := xCal y bytes maxL ret n ∧ Cond.instanceMethod y ∈ gl ∧ Cond.selects y.cls y y ∈ gl
def xCalS (y : MethodName) (bytes : ByteArray) (maxL : Nat) (ret : Option FieldType) (n : Nat) : Prop := xCal y bytes maxL ret n ∧ Cond.static y ∈ gl
def xCalI (y : MethodName) (bytes : ByteArray) (maxL : Nat) (n : Nat) : Prop := xCal y bytes maxL none n ∧ Cond.instanceMethod y ∈ gl ∧ y.name = "<init>"
abbrev xws (y : MethodName) (bytes : ByteArray) (maxL : Nat) (ret : Option FieldType) : List Cond := [Cond.code y bytes maxL ret]
theorem xCal.good {y : MethodName} {bytes : ByteArray} {maxL : Nat} {ret : Option FieldType} {n : Nat} (h : xCal y bytes maxL ret n) : GoodIn gl (xws y bytes maxL ret) := fun w hw => by
  rw [List.mem_singleton.mp hw]
  exact ⟨h.1, good_of_word rfl⟩
/-! CONTRACTS over the logical heap: the answer v, the heap before and behind -/
def xPc (g : xG) (av : List Value) (Pre : Heap → Prop) : Array Value → State → Prop := va_Pc av (fun U => Pre U.heap ∧ xE g U U.heap)
def xQc (g : xG) (v : Option Value) (Post : Heap → Prop) : Array Value → State → Outcome → State → Prop := fun _ st o t => (o = .returned v ∧ Post t.heap) ∧ va_F (gA g) st t
def xM (l : Launch) (y : MethodName) (ws : List Cond) (fr lo : Nat) (g : xG) (av : List Value) (Pre : Heap → Prop) (v : Option Value) (Post : Heap → Prop) (mc ms : Nat) : Prop := Met l y ws { frames := fr, cells := mc, slots := ms, locals := lo } (xPc g av Pre) (xQc g v Post) mc ms (gA g)
theorem xPc_blind (g : xG) (av : List Value) (Pre : Heap → Prop) : FrameBlind (xPc g av Pre) := fun a U j mk q => ⟨q.1, q.2.1, q.2.2.at (U := U.calling j mk a) (State.WarmedH.refl U)⟩
theorem xM.of {l : Launch} {y : MethodName} {fr lo : Nat} {g : xG} {av : List Value} {Pre : Heap → Prop} {v : Option Value} {Post : Heap → Prop} {mc ms : Nat} {cc : ByteArray} {maxL : Nat} {ret : Option FieldType}
    (hy : plainName y.cls = true) (hsz : (lg_sl av).length ≤ maxL)
    (body : ∀ (p : Program) (e : Env) (s : State) (m : MethodId) (below : List Frame) (meth : Method) (c : Code) (ls : Array Slot), p.tables.exec = Jvm.exec → c.code = cc → meth.sig.returnType = ret → s.vm.findClass y.cls = some m.cls → meth.locks = false → c.maxLocals = maxL → meth.name = y.name →
      xE g s s.heap → va_K (gD g) vwCl (xT g) s → (∀ w ∈ gl, w.before av.toArray s = true) → Pre s.heap → va_S (gA g) s.heap s.heap [] → lv_has ls maxL (lv_args 0 av) →
      W p l e { frames := fr, cells := mc, slots := ms, locals := lo } s m av.toArray below meth c s.heap [] 0 0 (MQ below (xQc g v Post) av.toArray s mc ms (gA g)) (F0 m 0 ls [])) : xM l y (xws y cc maxL ret) fr lo g av Pre v Post mc ms := by
  refine Met.ofW (cc := cc) (maxL := maxL) (ret := ret) hy rfl ?_
  intro p e s m args below meth c s₁ B hml hv
  obtain ⟨rfl, hP, hE⟩ := hv
  have hl := lv_entry av (n := maxL) hsz
  rw [lg_entry_eq]
  exact body p e s m below meth c _ B.exec B.bytes B.returns (findClass_of_methodNamed B.named) B.notSynchronized hml (name_of_methodNamed B.named B.method).1 hE hE.1 (hE.ts _) hP va_S.rf hl
section X2
variable {p : Program} {l : Launch} {e : Env} {R : Room} {s : State} {m : MethodId} {args : Array Value} {below : List Frame} {meth : Method} {c : Code} {H : Heap} {locs : List Loc} {cells slots : Nat} {Q : State → Prop}
variable {cc : ByteArray} {pc : Nat} {ls : Array Slot} {rest st0 : List Value} {H0 : Heap} {g : xG} {mc ms : Nat}
theorem x_cont {v : Option Value} {Post : Heap → Prop} {a : Array Value} (hr : va_Run p l e R s m args below meth c H locs cells slots mc ms (F0 m pc ls st0) rest (xQc g v Post a) (gA g)) (hS : va_S (gA g) H0 H locs)
    (kk : ∀ (H1 : Heap) (locs1 : List Loc), Post H1 → va_S (gA g) H0 H1 locs1 → W p l e R s m args below meth c H1 locs1 (cells + mc) (slots + ms) Q (F0 m (pc + 3) ls (v.toList ++ rest))) : W p l e R s m args below meth c H locs cells slots Q (F0 m pc ls st0) := by
  intro T hT X
  obtain ⟨v', st₀, t, T', L, h0, X', hL, e1, e2, ⟨⟨hv, hp⟩, hz, hk⟩, st⟩ := hr T hT X
  cases hv
  rw [h0] at hz hk
  obtain ⟨t2, a1, b1⟩ := kk T'.heap (locs ++ L) (by rw [e1]; exact hp)
    ⟨Nat.le_trans hS.1 (by rw [e1]; exact hz), fun q h1 h2 => by rw [e1, hk q (Nat.lt_of_lt_of_le h1 hS.1) h2]; exact hS.2.1 q h1 h2, fun q hq => by
      rcases List.mem_append.mp hq with h | h
      · exact hS.2.2 q h
      · exact hL q h⟩ T' rfl X'
  exact ⟨t2, st t2 a1, b1⟩
variable {y : MethodName} {bytes : ByteArray} {maxL nL n index fr lo : Nat} {ret : Option FieldType} {own : String} {b : Addr} {As : List Value} {Pre Post : Heap → Prop} {v : Option Value} {w : Value}
theorem x_callB (hE : xE g s s.heap) (args : Array Value) (hy : xCal y bytes maxL ret n) (hl : Cond.methodLink own index y ∈ gl) (hR : fr + 1 ≤ R.frames ∧ 8 + (maxL + 11) + lo ≤ R.locals) : CallB R s args own index y bytes maxL ret (xws y bytes maxL ret) { frames := fr, cells := mc, slots := ms, locals := lo } mc ms n :=
  callB_of (ws' := []) n (hE.ts args) hy.good rfl rfl rfl (hE.ts args _ hy.2.1) (hE.ts args _ hl) hy.2.2 hR
theorem x_V1 (hx : p.tables.exec = Jvm.exec) (hb : c.code = cc) (hml : c.maxLocals = nL) (hown : s.vm.findClass own = some m.cls) (hE : xE g s s.heap) (hS : va_S (gA g) s.heap H locs) (hsize : ls.size = nL) (hy : xCalV y bytes maxL ret n) (hl : Cond.methodLink own index y ∈ gl) (hM : xM l y (xws y bytes maxL ret) fr lo g (.ref b :: As) Pre (some w) Post mc ms) (hR : fr + 1 ≤ R.frames ∧ 8 + (maxL + 11) + lo ≤ R.locals) (hf : cells + mc ≤ R.cells ∧ slots + ms ≤ R.slots) (hrv : ∃ cellB : Cell, H[b]? = some cellB ∧ cellB.vm.isStatics = false ∧ s.vm.findClass y.cls = some cellB.cls) (hpre : Pre H) (hn : As.length = n) (hst : st0 = As.reverse ++ .ref b :: rest) (hW : (rest.map fun v => v.category).sum ≤ 8) (hdg : decode cc pc = .ok (.invokevirtual index, 3))
    (kk : ∀ (H1 : Heap) (locs1 : List Loc), Post H1 → va_S (gA g) s.heap H1 locs1 → W p l e R s m args below meth c H1 locs1 (cells + mc) (slots + ms) Q (F0 m (pc + 3) ls (w :: rest))) : W p l e R s m args below meth c H locs cells slots Q (F0 m pc ls st0) := by
  have hsz : ls.size = c.maxLocals := hsize.trans hml.symm
  exact x_cont (va_runV ⟨hx, hb, hml, hown, hE.ts args⟩ hM ⟨x_callB hE args hy.1 hl hR, hE.ts args _ hy.2.1, hE.ts args _ hy.2.2⟩ ⟨xPc_blind g _ _, hrv, fun U hU hW => ⟨rfl, by rw [hU]; exact hpre, by rw [hU]; exact (hE.kept hS).at hW⟩⟩ rfl hn hsize hst (lv_room hW) hdg hf) hS kk
theorem x_V0 (hx : p.tables.exec = Jvm.exec) (hb : c.code = cc) (hml : c.maxLocals = nL) (hown : s.vm.findClass own = some m.cls) (hE : xE g s s.heap) (hS : va_S (gA g) s.heap H locs) (hsize : ls.size = nL) (hy : xCalV y bytes maxL ret n) (hl : Cond.methodLink own index y ∈ gl) (hM : xM l y (xws y bytes maxL ret) fr lo g (.ref b :: As) Pre none Post mc ms) (hR : fr + 1 ≤ R.frames ∧ 8 + (maxL + 11) + lo ≤ R.locals) (hf : cells + mc ≤ R.cells ∧ slots + ms ≤ R.slots) (hrv : ∃ cellB : Cell, H[b]? = some cellB ∧ cellB.vm.isStatics = false ∧ s.vm.findClass y.cls = some cellB.cls) (hpre : Pre H) (hn : As.length = n) (hst : st0 = As.reverse ++ .ref b :: rest) (hW : (rest.map fun v => v.category).sum ≤ 8) (hdg : decode cc pc = .ok (.invokevirtual index, 3))
    (kk : ∀ (H1 : Heap) (locs1 : List Loc), Post H1 → va_S (gA g) s.heap H1 locs1 → W p l e R s m args below meth c H1 locs1 (cells + mc) (slots + ms) Q (F0 m (pc + 3) ls rest)) : W p l e R s m args below meth c H locs cells slots Q (F0 m pc ls st0) := by
  have hsz : ls.size = c.maxLocals := hsize.trans hml.symm
  exact x_cont (va_runV ⟨hx, hb, hml, hown, hE.ts args⟩ hM ⟨x_callB hE args hy.1 hl hR, hE.ts args _ hy.2.1, hE.ts args _ hy.2.2⟩ ⟨xPc_blind g _ _, hrv, fun U hU hW => ⟨rfl, by rw [hU]; exact hpre, by rw [hU]; exact (hE.kept hS).at hW⟩⟩ rfl hn hsize hst (lv_room hW) hdg hf) hS kk
theorem x_S1 (hx : p.tables.exec = Jvm.exec) (hb : c.code = cc) (hml : c.maxLocals = nL) (hown : s.vm.findClass own = some m.cls) (hE : xE g s s.heap) (hS : va_S (gA g) s.heap H locs) (hsize : ls.size = nL) (hy : xCalS y bytes maxL ret n) (hl : Cond.methodLink own index y ∈ gl) (hM : xM l y (xws y bytes maxL ret) fr lo g As Pre (some w) Post mc ms) (hR : fr + 1 ≤ R.frames ∧ 8 + (maxL + 11) + lo ≤ R.locals) (hf : cells + mc ≤ R.cells ∧ slots + ms ≤ R.slots) (hpre : Pre H) (hn : As.length = n) (hst : st0 = As.reverse ++ rest) (hW : (rest.map fun v => v.category).sum ≤ 8) (hdg : decode cc pc = .ok (.invokestatic index, 3))
    (kk : ∀ (H1 : Heap) (locs1 : List Loc), Post H1 → va_S (gA g) s.heap H1 locs1 → W p l e R s m args below meth c H1 locs1 (cells + mc) (slots + ms) Q (F0 m (pc + 3) ls (w :: rest))) : W p l e R s m args below meth c H locs cells slots Q (F0 m pc ls st0) := by
  have hsz : ls.size = c.maxLocals := hsize.trans hml.symm
  exact x_cont (va_runS ⟨hx, hb, hml, hown, hE.ts args⟩ hM ⟨x_callB hE args hy.1 hl hR, hE.ts args _ hy.2⟩ ⟨xPc_blind g _ _, fun U hU hW => ⟨rfl, by rw [hU]; exact hpre, by rw [hU]; exact (hE.kept hS).at hW⟩⟩ rfl hn hsize hst (lv_room hW) hdg hf) hS kk
theorem x_S0 (hx : p.tables.exec = Jvm.exec) (hb : c.code = cc) (hml : c.maxLocals = nL) (hown : s.vm.findClass own = some m.cls) (hE : xE g s s.heap) (hS : va_S (gA g) s.heap H locs) (hsize : ls.size = nL) (hy : xCalS y bytes maxL ret n) (hl : Cond.methodLink own index y ∈ gl) (hM : xM l y (xws y bytes maxL ret) fr lo g As Pre none Post mc ms) (hR : fr + 1 ≤ R.frames ∧ 8 + (maxL + 11) + lo ≤ R.locals) (hf : cells + mc ≤ R.cells ∧ slots + ms ≤ R.slots) (hpre : Pre H) (hn : As.length = n) (hst : st0 = As.reverse ++ rest) (hW : (rest.map fun v => v.category).sum ≤ 8) (hdg : decode cc pc = .ok (.invokestatic index, 3))
    (kk : ∀ (H1 : Heap) (locs1 : List Loc), Post H1 → va_S (gA g) s.heap H1 locs1 → W p l e R s m args below meth c H1 locs1 (cells + mc) (slots + ms) Q (F0 m (pc + 3) ls rest)) : W p l e R s m args below meth c H locs cells slots Q (F0 m pc ls st0) := by
  have hsz : ls.size = c.maxLocals := hsize.trans hml.symm
  exact x_cont (va_runS ⟨hx, hb, hml, hown, hE.ts args⟩ hM ⟨x_callB hE args hy.1 hl hR, hE.ts args _ hy.2⟩ ⟨xPc_blind g _ _, fun U hU hW => ⟨rfl, by rw [hU]; exact hpre, by rw [hU]; exact (hE.kept hS).at hW⟩⟩ rfl hn hsize hst (lv_room hW) hdg hf) hS kk
theorem x_I0 (hx : p.tables.exec = Jvm.exec) (hb : c.code = cc) (hml : c.maxLocals = nL) (hown : s.vm.findClass own = some m.cls) (hE : xE g s s.heap) (hS : va_S (gA g) s.heap H locs) (hsize : ls.size = nL) (hy : xCalI y bytes maxL n) (hl : Cond.methodLink own index y ∈ gl) (hM : xM l y (xws y bytes maxL none) fr lo g (.ref b :: As) Pre none Post mc ms) (hR : fr + 1 ≤ R.frames ∧ 8 + (maxL + 11) + lo ≤ R.locals) (hf : cells + mc ≤ R.cells ∧ slots + ms ≤ R.slots) (hpre : Pre H) (hn : As.length = n) (hst : st0 = As.reverse ++ .ref b :: rest) (hW : (rest.map fun v => v.category).sum ≤ 8) (hdg : decode cc pc = .ok (.invokespecial index, 3))
    (kk : ∀ (H1 : Heap) (locs1 : List Loc), Post H1 → va_S (gA g) s.heap H1 locs1 → W p l e R s m args below meth c H1 locs1 (cells + mc) (slots + ms) Q (F0 m (pc + 3) ls rest)) : W p l e R s m args below meth c H locs cells slots Q (F0 m pc ls st0) := by
  have hsz : ls.size = c.maxLocals := hsize.trans hml.symm
  exact x_cont (va_runI ⟨hx, hb, hml, hown, hE.ts args⟩ hM ⟨x_callB hE args hy.1 hl hR, hy.2.2, hE.ts args _ hy.2.1⟩ ⟨xPc_blind g _ _, fun U hU hW => ⟨rfl, by rw [hU]; exact hpre, by rw [hU]; exact (hE.kept hS).at hW⟩⟩ rfl hn hsize hst (lv_room hW) hdg hf) hS kk
theorem x_callN (hE : xE g s s.heap) (args : Array Value) (hy : xCal y bytes maxL ret n) {host : String} (hl : (own, index, y, host) ∈ xNest) (hR : fr + 1 ≤ R.frames ∧ 8 + (maxL + 11) + lo ≤ R.locals) : va_CN R s args own index y host bytes maxL ret (xws y bytes maxL ret) { frames := fr, cells := mc, slots := ms, locals := lo } mc ms n :=
  va_cnB (ws' := []) n (hE.ts args) hy.good rfl rfl rfl (hE.2.2.2.1 _ hl) (hE.ts args _ hy.2.1) hy.2.2 hR
theorem x_S1N (hx : p.tables.exec = Jvm.exec) (hb : c.code = cc) (hml : c.maxLocals = nL) (hown : s.vm.findClass own = some m.cls) (hE : xE g s s.heap) (hS : va_S (gA g) s.heap H locs) (hsize : ls.size = nL) (hy : xCalS y bytes maxL ret n) {host : String} (hl : (own, index, y, host) ∈ xNest) (hM : xM l y (xws y bytes maxL ret) fr lo g As Pre (some w) Post mc ms) (hR : fr + 1 ≤ R.frames ∧ 8 + (maxL + 11) + lo ≤ R.locals) (hf : cells + mc ≤ R.cells ∧ slots + ms ≤ R.slots) (hpre : Pre H) (hn : As.length = n) (hst : st0 = As.reverse ++ rest) (hW : (rest.map fun v => v.category).sum ≤ 8) (hdg : decode cc pc = .ok (.invokestatic index, 3))
    (kk : ∀ (H1 : Heap) (locs1 : List Loc), Post H1 → va_S (gA g) s.heap H1 locs1 → W p l e R s m args below meth c H1 locs1 (cells + mc) (slots + ms) Q (F0 m (pc + 3) ls (w :: rest))) : W p l e R s m args below meth c H locs cells slots Q (F0 m pc ls st0) := by
  exact x_cont (va_runSN ⟨hx, hb, hml, hown, hE.ts args⟩ hM ⟨x_callN hE args hy.1 hl hR, hE.ts args _ hy.2, trivial⟩ ⟨xPc_blind g _ _, fun U hU hW => ⟨rfl, by rw [hU]; exact hpre, by rw [hU]; exact (hE.kept hS).at hW⟩⟩ rfl hn hsize hst (lv_room hW) hdg hf) hS kk
theorem x_I0N (hx : p.tables.exec = Jvm.exec) (hb : c.code = cc) (hml : c.maxLocals = nL) (hown : s.vm.findClass own = some m.cls) (hE : xE g s s.heap) (hS : va_S (gA g) s.heap H locs) (hsize : ls.size = nL) (hy : xCalI y bytes maxL n) {host : String} (hl : (own, index, y, host) ∈ xNest) (hM : xM l y (xws y bytes maxL none) fr lo g (.ref b :: As) Pre none Post mc ms) (hR : fr + 1 ≤ R.frames ∧ 8 + (maxL + 11) + lo ≤ R.locals) (hf : cells + mc ≤ R.cells ∧ slots + ms ≤ R.slots) (hpre : Pre H) (hn : As.length = n) (hst : st0 = As.reverse ++ .ref b :: rest) (hW : (rest.map fun v => v.category).sum ≤ 8) (hdg : decode cc pc = .ok (.invokespecial index, 3))
    (kk : ∀ (H1 : Heap) (locs1 : List Loc), Post H1 → va_S (gA g) s.heap H1 locs1 → W p l e R s m args below meth c H1 locs1 (cells + mc) (slots + ms) Q (F0 m (pc + 3) ls rest)) : W p l e R s m args below meth c H locs cells slots Q (F0 m pc ls st0) := by
  exact x_cont (va_runIN ⟨hx, hb, hml, hown, hE.ts args⟩ hM ⟨x_callN hE args hy.1 hl hR, hy.2.2, hE.ts args _ hy.2.1⟩ ⟨xPc_blind g _ _, fun U hU hW => ⟨rfl, by rw [hU]; exact hpre, by rw [hU]; exact (hE.kept hS).at hW⟩⟩ rfl hn hsize hst (lv_room hW) hdg hf) hS kk
theorem x_recv {dm : List Nat → Prop} {I : xI} {F : xF} {n : Nat} (hK : va_K (gD g) vwCl (xT g) s) (hH : xR g dm I F n H) {id : List Nat} (hd : dm id) {ci : Nat} (hk : xk id = (ci, 0)) (hci : ci < 10) {w : vw_C} (hc : vwCl[ci]? = some w) : ∃ cellB : Cell, H[ga g id]? = some cellB ∧ cellB.vm.isStatics = false ∧ s.vm.findClass w.1 = some cellB.cls := by
  obtain ⟨cell, q1, q2, q3, -⟩ := (xat_obj hk hci hc).mp (hH.2.1 id hd)
  exact ⟨cell, q1, by rw [q3]; rfl, by rw [q2]; exact (hK.1 ci w hc).2.1⟩
/-- the ends -/
theorem x_iret {r r' : Int32} {Post : Heap → Prop} (hx : p.tables.exec = Jvm.exec) (hb : c.code = cc) (hr : meth.sig.returnType = some .int) (hlocks : meth.locks = false) (hS : va_S (gA g) s.heap H locs) (hdg : decode cc pc = .ok (.ireturn, 1)) (he : r = r') (hp : Post H) : W p l e R s m args below meth c H locs cells slots (MQ below (xQc g (some (.int r')) Post) args s cells slots (gA g)) (F0 m pc ls [.int r]) := by
  subst he
  exact W.iret hx hb hr (fun t ht _ => ⟨⟨rfl, by rw [ht]; exact hp⟩, hS.F ht⟩) hS.2.2 hdg hlocks
theorem x_zret {r r' : Int32} {ty : FieldType} {Post : Heap → Prop} (hx : p.tables.exec = Jvm.exec) (hb : c.code = cc) (hr : meth.sig.returnType = some ty) (hlocks : meth.locks = false) (hS : va_S (gA g) s.heap H locs) (hdg : decode cc pc = .ok (.ireturn, 1)) (hn : narrow ty (.int r) = .int r) (he : r = r') (hp : Post H) : W p l e R s m args below meth c H locs cells slots (MQ below (xQc g (some (.int r')) Post) args s cells slots (gA g)) (F0 m pc ls [.int r]) := by
  subst he
  exact W.zret hx hb hr hn (fun t ht _ => ⟨⟨rfl, by rw [ht]; exact hp⟩, hS.F ht⟩) hS.2.2 hdg hlocks
theorem x_vret {Post : Heap → Prop} (hx : p.tables.exec = Jvm.exec) (hb : c.code = cc) (hr : meth.sig.returnType = none) (hlocks : meth.locks = false) (hS : va_S (gA g) s.heap H locs) (hdg : decode cc pc = .ok (.return_, 1)) (hp : Post H) : W p l e R s m args below meth c H locs cells slots (MQ below (xQc g none Post) args s cells slots (gA g)) (F0 m pc ls []) :=
  W.vret hx hb hr (fun t ht _ => ⟨⟨rfl, by rw [ht]; exact hp⟩, hS.F ht⟩) hS.2.2 hdg hlocks
theorem x_aret {v v' : Value} {C : String} {Post : Heap → Prop} (hx : p.tables.exec = Jvm.exec) (hb : c.code = cc) (hr : meth.sig.returnType = some (.object C)) (hlocks : meth.locks = false) (hS : va_S (gA g) s.heap H locs) (hdg : decode cc pc = .ok (.areturn, 1)) (hv : v = .null ∨ ∃ a, v = .ref a) (he : v = v') (hp : Post H) : W p l e R s m args below meth c H locs cells slots (MQ below (xQc g (some v') Post) args s cells slots (gA g)) (F0 m pc ls [v]) := by
  subst he
  exact W.aret hx hb hr (Or.inl ⟨C, rfl⟩) hv (fun t ht _ => ⟨⟨rfl, by rw [ht]; exact hp⟩, hS.F ht⟩) hS.2.2 hdg hlocks
theorem x_lret {r r' : Int64} {Post : Heap → Prop} (hx : p.tables.exec = Jvm.exec) (hb : c.code = cc) (hr : meth.sig.returnType = some .long) (hlocks : meth.locks = false) (hS : va_S (gA g) s.heap H locs) (hdg : decode cc pc = .ok (.lreturn, 1)) (he : r = r') (hp : Post H) : W p l e R s m args below meth c H locs cells slots (MQ below (xQc g (some (.long r')) Post) args s cells slots (gA g)) (F0 m pc ls [.long r]) := by
  subst he
  exact W.lret hx hb hr (fun t ht _ => ⟨⟨rfl, by rw [ht]; exact hp⟩, hS.F ht⟩) hS.2.2 hdg hlocks
theorem x_fret {r r' : UInt32} {Post : Heap → Prop} (hx : p.tables.exec = Jvm.exec) (hb : c.code = cc) (hr : meth.sig.returnType = some .float) (hlocks : meth.locks = false) (hS : va_S (gA g) s.heap H locs) (hdg : decode cc pc = .ok (.freturn, 1)) (he : r = r') (hp : Post H) : W p l e R s m args below meth c H locs cells slots (MQ below (xQc g (some (.float r')) Post) args s cells slots (gA g)) (F0 m pc ls [.float r]) := by
  subst he
  exact W.fret hx hb hr (fun t ht _ => ⟨⟨rfl, by rw [ht]; exact hp⟩, hS.F ht⟩) hS.2.2 hdg hlocks
end X2
end
section
theorem cyX0_init : xCalI yX0_init cX0_init 2 1 := ⟨⟨tw84, tw3, by decide +kernel⟩, tw83, rfl⟩
theorem cyX0_beginAnew : xCalV yX0_beginAnew cX0_beginAnew 3 none 1 := ⟨⟨tw514, tw3, by decide +kernel⟩, tw512, tw513⟩
theorem cyX0_goBy : xCalV yX0_goBy cX0_goBy 2 none 1 := ⟨⟨tw518, tw3, by decide +kernel⟩, tw516, tw517⟩
theorem cyX0_putValue : xCalV yX0_putValue cX0_putValue 3 none 2 := ⟨⟨tw522, tw3, by decide +kernel⟩, tw520, tw521⟩
theorem cyX0_growOlder : xCalV yX0_growOlder cX0_growOlder 2 none 0 := ⟨⟨tw541, tw3, by decide +kernel⟩, tw539, tw540⟩
theorem cyX0_runRounds : xCalV yX0_runRounds cX0_runRounds 4 none 0 := ⟨⟨tw549, tw3, by decide +kernel⟩, tw547, tw548⟩
theorem cyX0_applyRule : xCalV yX0_applyRule cX0_applyRule 4 (some FieldType.boolean) 1 := ⟨⟨tw553, tw3, by decide +kernel⟩, tw551, tw552⟩
theorem cyX0_isParentActive : xCalV yX0_isParentActive cX0_isParentActive 2 (some FieldType.boolean) 1 := ⟨⟨tw570, tw3, by decide +kernel⟩, tw568, tw569⟩
theorem cyX0_enter : xCalV yX0_enter cX0_enter 3 none 2 := ⟨⟨tw574, tw3, by decide +kernel⟩, tw572, tw573⟩
theorem cyX0_finish : xCalV yX0_finish cX0_finish 6 none 2 := ⟨⟨tw527, tw3, by decide +kernel⟩, tw525, tw526⟩
theorem cyX0_areChildrenDone : xCalV yX0_areChildrenDone cX0_areChildrenDone 7 (some FieldType.boolean) 1 := ⟨⟨tw578, tw3, by decide +kernel⟩, tw576, tw577⟩
theorem cyX0_anyMet : xCalV yX0_anyMet cX0_anyMet 4 (some FieldType.boolean) 1 := ⟨⟨tw557, tw3, by decide +kernel⟩, tw555, tw556⟩
theorem cyX0_isMet : xCalV yX0_isMet cX0_isMet 4 (some FieldType.boolean) 1 := ⟨⟨tw565, tw3, by decide +kernel⟩, tw563, tw564⟩
theorem cyX0_valueOf : xCalV yX0_valueOf cX0_valueOf 2 (some FieldType.int) 1 := ⟨⟨tw596, tw3, by decide +kernel⟩, tw594, tw595⟩
theorem cyX0_stateOf : xCalV yX0_stateOf cX0_stateOf 2 (some FieldType.char) 1 := ⟨⟨tw536, tw3, by decide +kernel⟩, tw534, tw535⟩
theorem cyX0_putState : xCalV yX0_putState cX0_putState 3 none 2 := ⟨⟨tw531, tw3, by decide +kernel⟩, tw529, tw530⟩
theorem cyX0_clockOf : xCalV yX0_clockOf cX0_clockOf 2 (some FieldType.int) 1 := ⟨⟨tw165, tw3, by decide +kernel⟩, tw163, tw164⟩
theorem cyX0_countOf : xCalV yX0_countOf cX0_countOf 2 (some FieldType.int) 1 := ⟨⟨tw704, tw3, by decide +kernel⟩, tw702, tw703⟩
theorem cyX0_isActiveTask : xCalV yX0_isActiveTask cX0_isActiveTask 3 (some FieldType.boolean) 1 := ⟨⟨tw545, tw3, by decide +kernel⟩, tw543, tw544⟩
theorem cyX0_daysUntilLate : xCalV yX0_daysUntilLate cX0_daysUntilLate 3 (some FieldType.int) 1 := ⟨⟨tw656, tw3, by decide +kernel⟩, tw654, tw655⟩
theorem cyX0_fewestDaysUntilLate : xCalV yX0_fewestDaysUntilLate cX0_fewestDaysUntilLate 4 (some FieldType.int) 0 := ⟨⟨tw725, tw3, by decide +kernel⟩, tw723, tw724⟩
theorem cyX0_lateTasks : xCalV yX0_lateTasks cX0_lateTasks 3 (some FieldType.int) 0 := ⟨⟨tw652, tw3, by decide +kernel⟩, tw650, tw651⟩
theorem cyX0_rememberStates : xCalV yX0_rememberStates cX0_rememberStates 2 none 0 := ⟨⟨tw608, tw3, by decide +kernel⟩, tw606, tw607⟩
theorem cyX0_changedStepsBut : xCalV yX0_changedStepsBut cX0_changedStepsBut 4 (some FieldType.int) 1 := ⟨⟨tw612, tw3, by decide +kernel⟩, tw610, tw611⟩
theorem cyX0_stepsInState : xCalV yX0_stepsInState cX0_stepsInState 4 (some FieldType.int) 1 := ⟨⟨tw762, tw3, by decide +kernel⟩, tw760, tw761⟩
theorem cyX0_isAtItsEnd : xCalV yX0_isAtItsEnd cX0_isAtItsEnd 3 (some FieldType.boolean) 0 := ⟨⟨tw773, tw3, by decide +kernel⟩, tw771, tw772⟩
theorem cyX0_sumOfClocks : xCalV yX0_sumOfClocks cX0_sumOfClocks 4 (some FieldType.long) 0 := ⟨⟨tw161, tw3, by decide +kernel⟩, tw159, tw160⟩
theorem cyX1_init : xCalI yX1_init cX1_init 4 3 := ⟨⟨tw406, tw14, by decide +kernel⟩, tw405, rfl⟩
theorem cyX2_init : xCalI yX2_init cX2_init 1 0 := ⟨⟨tw317, tw13, by decide +kernel⟩, tw316, rfl⟩
theorem cyX2_append : xCalV yX2_append cX2_append 2 (some FieldType.int) 1 := ⟨⟨tw424, tw13, by decide +kernel⟩, tw422, tw423⟩
theorem cyX2_at : xCalV yX2_at cX2_at 2 (some (FieldType.object "CasebookSteps$Condition")) 1 := ⟨⟨tw561, tw13, by decide +kernel⟩, tw559, tw560⟩
theorem cyX3_init : xCalI yX3_init cX3_init 1 0 := ⟨⟨tw33, tw2, by decide +kernel⟩, tw32, rfl⟩
theorem cyX3_append : xCalV yX3_append cX3_append 5 none 4 := ⟨⟨tw506, tw2, by decide +kernel⟩, tw504, tw505⟩
theorem cyX4_init : xCalI yX4_init cX4_init 2 1 := ⟨⟨tw61, tw4, by decide +kernel⟩, tw60, rfl⟩
theorem cyX4_append : xCalV yX4_append cX4_append 3 (some FieldType.int) 1 := ⟨⟨tw369, tw4, by decide +kernel⟩, tw367, tw368⟩
theorem cyX4_stepAt : xCalV yX4_stepAt cX4_stepAt 2 (some (FieldType.object "CasebookSteps$Step")) 1 := ⟨⟨tw300, tw4, by decide +kernel⟩, tw298, tw299⟩
theorem cyX4_isStage : xCalV yX4_isStage cX4_isStage 3 (some FieldType.boolean) 1 := ⟨⟨tw296, tw4, by decide +kernel⟩, tw294, tw295⟩
theorem cyX5_init : xCalI yX5_init cX5_init 3 2 := ⟨⟨tw311, tw12, by decide +kernel⟩, tw310, rfl⟩
theorem cyX6_init : xCalI yX6_init cX6_init 1 0 := ⟨⟨tw21, tw1, by decide +kernel⟩, tw20, rfl⟩
theorem cyX6_addPlan : xCalV yX6_addPlan cX6_addPlan 2 (some FieldType.int) 0 := ⟨⟨tw173, tw1, by decide +kernel⟩, tw171, tw172⟩
theorem cyX6_addStep : xCalV yX6_addStep cX6_addStep 5 (some FieldType.int) 3 := ⟨⟨tw252, tw1, by decide +kernel⟩, tw250, tw251⟩
theorem cyX6_addEntry : xCalV yX6_addEntry cX6_addEntry 8 (some FieldType.int) 5 := ⟨⟨tw376, tw1, by decide +kernel⟩, tw374, tw375⟩
theorem cyX6_addExit : xCalV yX6_addExit cX6_addExit 8 (some FieldType.int) 5 := ⟨⟨tw432, tw1, by decide +kernel⟩, tw430, tw431⟩
theorem cyX6_setRequired : xCalV yX6_setRequired cX6_setRequired 7 (some FieldType.boolean) 3 := ⟨⟨tw455, tw1, by decide +kernel⟩, tw453, tw454⟩
theorem cyX6_setLimit : xCalV yX6_setLimit cX6_setLimit 7 (some FieldType.int) 3 := ⟨⟨tw466, tw1, by decide +kernel⟩, tw464, tw465⟩
theorem cyX6_setAgain : xCalV yX6_setAgain cX6_setAgain 7 (some FieldType.boolean) 3 := ⟨⟨tw474, tw1, by decide +kernel⟩, tw472, tw473⟩
theorem cyX6_steps : xCalV yX6_steps cX6_steps 2 (some FieldType.int) 1 := ⟨⟨tw482, tw1, by decide +kernel⟩, tw480, tw481⟩
theorem cyX6_isUsed : xCalV yX6_isUsed cX6_isUsed 2 (some FieldType.boolean) 1 := ⟨⟨tw489, tw1, by decide +kernel⟩, tw487, tw488⟩
theorem cyX6_begin : xCalV yX6_begin cX6_begin 5 (some FieldType.int) 1 := ⟨⟨tw496, tw1, by decide +kernel⟩, tw494, tw495⟩
theorem cyX6_set : xCalV yX6_set cX6_set 6 (some FieldType.int) 3 := ⟨⟨tw585, tw1, by decide +kernel⟩, tw583, tw584⟩
theorem cyX6_event : xCalV yX6_event cX6_event 4 (some FieldType.int) 2 := ⟨⟨tw603, tw1, by decide +kernel⟩, tw601, tw602⟩
theorem cyX6_complete : xCalV yX6_complete cX6_complete 4 (some FieldType.int) 2 := ⟨⟨tw619, tw1, by decide +kernel⟩, tw617, tw618⟩
theorem cyX6_setWaiting : xCalV yX6_setWaiting cX6_setWaiting 5 (some FieldType.boolean) 2 := ⟨⟨tw628, tw1, by decide +kernel⟩, tw626, tw627⟩
theorem cyX6_move : xCalV yX6_move cX6_move 6 (some FieldType.int) 2 := ⟨⟨tw635, tw1, by decide +kernel⟩, tw633, tw634⟩
theorem cyX6_pass : xCalV yX6_pass cX6_pass 4 (some FieldType.int) 1 := ⟨⟨tw643, tw1, by decide +kernel⟩, tw641, tw642⟩
theorem cyX6_state : xCalV yX6_state cX6_state 3 (some FieldType.char) 2 := ⟨⟨tw663, tw1, by decide +kernel⟩, tw661, tw662⟩
theorem cyX6_stateByReplay : xCalV yX6_stateByReplay cX6_stateByReplay 3 (some FieldType.char) 2 := ⟨⟨tw674, tw1, by decide +kernel⟩, tw672, tw673⟩
theorem cyX6_clock : xCalV yX6_clock cX6_clock 3 (some FieldType.int) 2 := ⟨⟨tw685, tw1, by decide +kernel⟩, tw683, tw684⟩
theorem cyX6_clockByReplay : xCalV yX6_clockByReplay cX6_clockByReplay 3 (some FieldType.int) 2 := ⟨⟨tw693, tw1, by decide +kernel⟩, tw691, tw692⟩
theorem cyX6_count : xCalV yX6_count cX6_count 3 (some FieldType.int) 2 := ⟨⟨tw700, tw1, by decide +kernel⟩, tw698, tw699⟩
theorem cyX6_isLate : xCalV yX6_isLate cX6_isLate 4 (some FieldType.boolean) 2 := ⟨⟨tw711, tw1, by decide +kernel⟩, tw709, tw710⟩
theorem cyX6_daysLeft : xCalV yX6_daysLeft cX6_daysLeft 3 (some FieldType.int) 1 := ⟨⟨tw721, tw1, by decide +kernel⟩, tw719, tw720⟩
theorem cyX6_holds : xCalV yX6_holds cX6_holds 9 (some FieldType.boolean) 4 := ⟨⟨tw748, tw1, by decide +kernel⟩, tw746, tw747⟩
theorem cyX6_active : xCalV yX6_active cX6_active 2 (some FieldType.int) 1 := ⟨⟨tw758, tw1, by decide +kernel⟩, tw756, tw757⟩
theorem cyX6_isOver : xCalV yX6_isOver cX6_isOver 2 (some FieldType.boolean) 1 := ⟨⟨tw769, tw1, by decide +kernel⟩, tw767, tw768⟩
theorem cyX6_rounds : xCalV yX6_rounds cX6_rounds 2 (some FieldType.int) 1 := ⟨⟨tw780, tw1, by decide +kernel⟩, tw778, tw779⟩
theorem cyX6_datum : xCalV yX6_datum cX6_datum 4 (some FieldType.int) 2 := ⟨⟨tw787, tw1, by decide +kernel⟩, tw785, tw786⟩
theorem cyX6_days : xCalV yX6_days cX6_days 2 (some FieldType.int) 1 := ⟨⟨tw794, tw1, by decide +kernel⟩, tw792, tw793⟩
theorem cyX6_planOf : xCalV yX6_planOf cX6_planOf 2 (some FieldType.int) 1 := ⟨⟨tw801, tw1, by decide +kernel⟩, tw799, tw800⟩
theorem cyX6_isWaiting : xCalV yX6_isWaiting cX6_isWaiting 2 (some FieldType.boolean) 1 := ⟨⟨tw808, tw1, by decide +kernel⟩, tw806, tw807⟩
theorem cyX6_happened : xCalV yX6_happened cX6_happened 2 (some FieldType.int) 1 := ⟨⟨tw815, tw1, by decide +kernel⟩, tw813, tw814⟩
theorem cyX6_cases : xCalV yX6_cases cX6_cases 1 (some FieldType.int) 0 := ⟨⟨tw149, tw1, by decide +kernel⟩, tw147, tw148⟩
theorem cyX6_daysWorked : xCalV yX6_daysWorked cX6_daysWorked 5 (some FieldType.long) 0 := ⟨⟨tw153, tw1, by decide +kernel⟩, tw151, tw152⟩
theorem cyX6_doneShare : xCalV yX6_doneShare cX6_doneShare 4 (some FieldType.float) 1 := ⟨⟨tw822, tw1, by decide +kernel⟩, tw820, tw821⟩
theorem cyX6_isDatum : xCalS yX6_isDatum cX6_isDatum 1 (some FieldType.boolean) 1 := ⟨⟨tw390, tw1, by decide +kernel⟩, tw389⟩
theorem cyX6_isEvent : xCalS yX6_isEvent cX6_isEvent 1 (some FieldType.boolean) 1 := ⟨⟨tw396, tw1, by decide +kernel⟩, tw395⟩
theorem cyX6_isValue : xCalS yX6_isValue cX6_isValue 1 (some FieldType.boolean) 1 := ⟨⟨tw393, tw1, by decide +kernel⟩, tw392⟩
theorem cyX6_isCondition : xCalS yX6_isCondition cX6_isCondition 4 (some FieldType.boolean) 4 := ⟨⟨tw387, tw1, by decide +kernel⟩, tw386⟩
theorem cyX6_refuseWrongCondition : xCalS yX6_refuseWrongCondition cX6_refuseWrongCondition 4 none 4 := ⟨⟨tw384, tw1, by decide +kernel⟩, tw383⟩
theorem cyX6_refuseFull : xCalS yX6_refuseFull cX6_refuseFull 1 none 1 := ⟨⟨tw400, tw1, by decide +kernel⟩, tw399⟩
theorem cyX6_refuseUsed : xCalS yX6_refuseUsed cX6_refuseUsed 1 none 1 := ⟨⟨tw304, tw1, by decide +kernel⟩, tw303⟩
theorem cyX6_refuseOtherThanTask : xCalS yX6_refuseOtherThanTask cX6_refuseOtherThanTask 1 none 1 := ⟨⟨tw458, tw1, by decide +kernel⟩, tw457⟩
theorem cyX6_planAt : xCalV yX6_planAt cX6_planAt 2 (some (FieldType.object "CasebookSteps$Plan")) 1 := ⟨⟨tw260, tw1, by decide +kernel⟩, tw259, tp3⟩
theorem cyX6_caseAt : xCalV yX6_caseAt cX6_caseAt 2 (some (FieldType.object "CasebookSteps$Case")) 1 := ⟨⟨tw157, tw1, by decide +kernel⟩, tw156, tp0⟩
theorem cyX6_existingPlan : xCalV yX6_existingPlan cX6_existingPlan 3 (some (FieldType.object "CasebookSteps$Plan")) 1 := ⟨⟨tw256, tw1, by decide +kernel⟩, tw255, tp2⟩
theorem cyX6_existingCase : xCalV yX6_existingCase cX6_existingCase 3 (some (FieldType.object "CasebookSteps$Case")) 1 := ⟨⟨tw589, tw1, by decide +kernel⟩, tw588, tp6⟩
theorem cyX6_existingStep : xCalS yX6_existingStep cX6_existingStep 3 (some (FieldType.object "CasebookSteps$Step")) 2 := ⟨⟨tw379, tw1, by decide +kernel⟩, tw378⟩
theorem cyX6_caseWithStep : xCalV yX6_caseWithStep cX6_caseWithStep 4 (some (FieldType.object "CasebookSteps$Case")) 2 := ⟨⟨tw667, tw1, by decide +kernel⟩, tw666, tp8⟩
theorem cyX6_noteAndDo : xCalV yX6_noteAndDo cX6_noteAndDo 6 none 5 := ⟨⟨tw502, tw1, by decide +kernel⟩, tw501, tp4⟩
theorem cyX6_letHappen : xCalV yX6_letHappen cX6_letHappen 5 none 4 := ⟨⟨tw510, tw1, by decide +kernel⟩, tw509, tp5⟩
theorem cyX6_replay : xCalV yX6_replay cX6_replay 8 none 1 := ⟨⟨tw678, tw1, by decide +kernel⟩, tw677, tp9⟩
theorem cyX6_lateTasksOfAll : xCalV yX6_lateTasksOfAll cX6_lateTasksOfAll 4 (some FieldType.int) 0 := ⟨⟨tw648, tw1, by decide +kernel⟩, tw647, tp7⟩
theorem cyX7_init : xCalI yX7_init cX7_init 1 0 := ⟨⟨tw827, tw5, by decide +kernel⟩, tw826, rfl⟩
theorem cyX7_thrown : xCalV yX7_thrown cX7_thrown 1 (some FieldType.int) 0 := ⟨⟨tw916, tw5, by decide +kernel⟩, tw914, tw915⟩
theorem cyX7_raises : xCalV yX7_raises cX7_raises 2 (some FieldType.int) 1 := ⟨⟨tw924, tw5, by decide +kernel⟩, tw923, tp10⟩
theorem cyX7_in : xCalS yX7_in cX7_in 3 (some FieldType.boolean) 3 := ⟨⟨tw935, tw5, by decide +kernel⟩, tw934⟩
theorem cyX7_isPlan : xCalV yX7_isPlan cX7_isPlan 2 (some FieldType.boolean) 1 := ⟨⟨tw932, tw5, by decide +kernel⟩, tw931, tp11⟩
theorem cyX7_isStep : xCalV yX7_isStep cX7_isStep 3 (some FieldType.boolean) 2 := ⟨⟨tw939, tw5, by decide +kernel⟩, tw938, tp12⟩
theorem cyX7_isCase : xCalV yX7_isCase cX7_isCase 2 (some FieldType.boolean) 1 := ⟨⟨tw1019, tw5, by decide +kernel⟩, tw1018, tp23⟩
theorem cyX7_isStepOf : xCalV yX7_isStepOf cX7_isStepOf 3 (some FieldType.boolean) 2 := ⟨⟨tw1039, tw5, by decide +kernel⟩, tw1038, tp26⟩
theorem cyX7_addPlan : xCalV yX7_addPlan cX7_addPlan 1 (some FieldType.int) 0 := ⟨⟨tw920, tw5, by decide +kernel⟩, tw918, tw919⟩
theorem cyX7_addStep : xCalV yX7_addStep cX7_addStep 7 (some FieldType.int) 3 := ⟨⟨tw928, tw5, by decide +kernel⟩, tw926, tw927⟩
theorem cyX7_isCondition : xCalV yX7_isCondition cX7_isCondition 5 (some FieldType.boolean) 4 := ⟨⟨tw947, tw5, by decide +kernel⟩, tw946, tp13⟩
theorem cyX7_adds : xCalV yX7_adds cX7_adds 8 (some FieldType.int) 6 := ⟨⟨tw951, tw5, by decide +kernel⟩, tw950, tp14⟩
theorem cyX7_addEntry : xCalV yX7_addEntry cX7_addEntry 6 (some FieldType.int) 5 := ⟨⟨tw943, tw5, by decide +kernel⟩, tw941, tw942⟩
theorem cyX7_addExit : xCalV yX7_addExit cX7_addExit 6 (some FieldType.int) 5 := ⟨⟨tw955, tw5, by decide +kernel⟩, tw953, tw954⟩
theorem cyX7_flag : xCalV yX7_flag cX7_flag 6 (some FieldType.boolean) 4 := ⟨⟨tw963, tw5, by decide +kernel⟩, tw962, tp15⟩
theorem cyX7_setRequired : xCalV yX7_setRequired cX7_setRequired 4 (some FieldType.boolean) 3 := ⟨⟨tw959, tw5, by decide +kernel⟩, tw957, tw958⟩
theorem cyX7_setLimit : xCalV yX7_setLimit cX7_setLimit 5 (some FieldType.int) 3 := ⟨⟨tw967, tw5, by decide +kernel⟩, tw965, tw966⟩
theorem cyX7_setAgain : xCalV yX7_setAgain cX7_setAgain 4 (some FieldType.boolean) 3 := ⟨⟨tw971, tw5, by decide +kernel⟩, tw969, tw970⟩
theorem cyX7_steps : xCalV yX7_steps cX7_steps 2 (some FieldType.int) 1 := ⟨⟨tw975, tw5, by decide +kernel⟩, tw973, tw974⟩
theorem cyX7_isUsed : xCalV yX7_isUsed cX7_isUsed 2 (some FieldType.boolean) 1 := ⟨⟨tw979, tw5, by decide +kernel⟩, tw977, tw978⟩
theorem cyX7_holdsNow : xCalV yX7_holdsNow cX7_holdsNow 6 (some FieldType.boolean) 3 := ⟨⟨tw999, tw5, by decide +kernel⟩, tw998, tp19⟩
theorem cyX7_holdsOne : xCalV yX7_holdsOne cX7_holdsOne 6 (some FieldType.boolean) 3 := ⟨⟨tw995, tw5, by decide +kernel⟩, tw994, tp18⟩
theorem cyX7_closes : xCalV yX7_closes cX7_closes 5 none 2 := ⟨⟨tw1007, tw5, by decide +kernel⟩, tw1006, tp21⟩
theorem cyX7_becomes : xCalV yX7_becomes cX7_becomes 4 none 3 := ⟨⟨tw1003, tw5, by decide +kernel⟩, tw1002, tp20⟩
theorem cyX7_isDone : xCalV yX7_isDone cX7_isDone 7 (some FieldType.boolean) 2 := ⟨⟨tw1011, tw5, by decide +kernel⟩, tw1010, tp22⟩
theorem cyX7_looks : xCalV yX7_looks cX7_looks 6 (some FieldType.boolean) 2 := ⟨⟨tw991, tw5, by decide +kernel⟩, tw990, tp17⟩
theorem cyX7_goes : xCalV yX7_goes cX7_goes 5 none 1 := ⟨⟨tw987, tw5, by decide +kernel⟩, tw986, tp16⟩
theorem cyX7_begin : xCalV yX7_begin cX7_begin 4 (some FieldType.int) 1 := ⟨⟨tw983, tw5, by decide +kernel⟩, tw981, tw982⟩
theorem cyX7_set : xCalV yX7_set cX7_set 5 (some FieldType.int) 3 := ⟨⟨tw1015, tw5, by decide +kernel⟩, tw1013, tw1014⟩
theorem cyX7_keeps : xCalV yX7_keeps cX7_keeps 3 none 1 := ⟨⟨tw1027, tw5, by decide +kernel⟩, tw1026, tp24⟩
theorem cyX7_changed : xCalV yX7_changed cX7_changed 5 (some FieldType.int) 2 := ⟨⟨tw1031, tw5, by decide +kernel⟩, tw1030, tp25⟩
theorem cyX7_event : xCalV yX7_event cX7_event 3 (some FieldType.int) 2 := ⟨⟨tw1023, tw5, by decide +kernel⟩, tw1021, tw1022⟩
theorem cyX7_complete : xCalV yX7_complete cX7_complete 3 (some FieldType.int) 2 := ⟨⟨tw1035, tw5, by decide +kernel⟩, tw1033, tw1034⟩
theorem cyX7_setWaiting : xCalV yX7_setWaiting cX7_setWaiting 4 (some FieldType.boolean) 2 := ⟨⟨tw1043, tw5, by decide +kernel⟩, tw1041, tw1042⟩
theorem cyX7_move : xCalV yX7_move cX7_move 4 (some FieldType.int) 2 := ⟨⟨tw1047, tw5, by decide +kernel⟩, tw1045, tw1046⟩
theorem cyX7_isLateNow : xCalV yX7_isLateNow cX7_isLateNow 3 (some FieldType.boolean) 2 := ⟨⟨tw1055, tw5, by decide +kernel⟩, tw1054, tp27⟩
theorem cyX7_pass : xCalV yX7_pass cX7_pass 5 (some FieldType.int) 1 := ⟨⟨tw1051, tw5, by decide +kernel⟩, tw1049, tw1050⟩
theorem cyX7_lacks : xCalV yX7_lacks cX7_lacks 3 (some FieldType.boolean) 2 := ⟨⟨tw1063, tw5, by decide +kernel⟩, tw1062, tp28⟩
theorem cyX7_state : xCalV yX7_state cX7_state 3 (some FieldType.char) 2 := ⟨⟨tw1059, tw5, by decide +kernel⟩, tw1057, tw1058⟩
theorem cyX7_stateByReplay : xCalV yX7_stateByReplay cX7_stateByReplay 3 (some FieldType.char) 2 := ⟨⟨tw1067, tw5, by decide +kernel⟩, tw1065, tw1066⟩
theorem cyX7_clock : xCalV yX7_clock cX7_clock 3 (some FieldType.int) 2 := ⟨⟨tw1072, tw5, by decide +kernel⟩, tw1070, tw1071⟩
theorem cyX7_clockByReplay : xCalV yX7_clockByReplay cX7_clockByReplay 3 (some FieldType.int) 2 := ⟨⟨tw1076, tw5, by decide +kernel⟩, tw1074, tw1075⟩
theorem cyX7_count : xCalV yX7_count cX7_count 3 (some FieldType.int) 2 := ⟨⟨tw1081, tw5, by decide +kernel⟩, tw1079, tw1080⟩
theorem cyX7_isLate : xCalV yX7_isLate cX7_isLate 3 (some FieldType.boolean) 2 := ⟨⟨tw1085, tw5, by decide +kernel⟩, tw1083, tw1084⟩
theorem cyX7_misses : xCalV yX7_misses cX7_misses 2 (some FieldType.boolean) 1 := ⟨⟨tw1093, tw5, by decide +kernel⟩, tw1092, tp29⟩
theorem cyX7_daysLeft : xCalV yX7_daysLeft cX7_daysLeft 7 (some FieldType.int) 1 := ⟨⟨tw1089, tw5, by decide +kernel⟩, tw1087, tw1088⟩
theorem cyX7_holds : xCalV yX7_holds cX7_holds 6 (some FieldType.boolean) 4 := ⟨⟨tw1097, tw5, by decide +kernel⟩, tw1095, tw1096⟩
theorem cyX7_inState : xCalV yX7_inState cX7_inState 5 (some FieldType.int) 2 := ⟨⟨tw1105, tw5, by decide +kernel⟩, tw1104, tp30⟩
theorem cyX7_active : xCalV yX7_active cX7_active 2 (some FieldType.int) 1 := ⟨⟨tw1101, tw5, by decide +kernel⟩, tw1099, tw1100⟩
theorem cyX7_isOver : xCalV yX7_isOver cX7_isOver 4 (some FieldType.boolean) 1 := ⟨⟨tw1109, tw5, by decide +kernel⟩, tw1107, tw1108⟩
theorem cyX7_rounds : xCalV yX7_rounds cX7_rounds 2 (some FieldType.int) 1 := ⟨⟨tw1113, tw5, by decide +kernel⟩, tw1111, tw1112⟩
theorem cyX7_datum : xCalV yX7_datum cX7_datum 3 (some FieldType.int) 2 := ⟨⟨tw1117, tw5, by decide +kernel⟩, tw1115, tw1116⟩
theorem cyX7_days : xCalV yX7_days cX7_days 2 (some FieldType.int) 1 := ⟨⟨tw1121, tw5, by decide +kernel⟩, tw1119, tw1120⟩
theorem cyX7_planOf : xCalV yX7_planOf cX7_planOf 2 (some FieldType.int) 1 := ⟨⟨tw1125, tw5, by decide +kernel⟩, tw1123, tw1124⟩
theorem cyX7_isWaiting : xCalV yX7_isWaiting cX7_isWaiting 2 (some FieldType.boolean) 1 := ⟨⟨tw1129, tw5, by decide +kernel⟩, tw1127, tw1128⟩
theorem cyX7_happened : xCalV yX7_happened cX7_happened 2 (some FieldType.int) 1 := ⟨⟨tw1133, tw5, by decide +kernel⟩, tw1131, tw1132⟩
theorem cyX7_cases : xCalV yX7_cases cX7_cases 1 (some FieldType.int) 0 := ⟨⟨tw1137, tw5, by decide +kernel⟩, tw1135, tw1136⟩
theorem cyX7_daysWorked : xCalV yX7_daysWorked cX7_daysWorked 5 (some FieldType.long) 0 := ⟨⟨tw1141, tw5, by decide +kernel⟩, tw1139, tw1140⟩
theorem cyX7_doneShare : xCalV yX7_doneShare cX7_doneShare 2 (some FieldType.float) 1 := ⟨⟨tw1145, tw5, by decide +kernel⟩, tw1143, tw1144⟩
end
section
/-! THE STATE: h says how many plans, cases, steps, conditions there are and which plan a case has; I what the numbers are -/
abbrev xS : Type := Nat × Nat × (Nat → Nat) × (Nat → Nat → Nat → Nat) × (Nat → Nat)
abbrev sNp (h : xS) : Nat := h.1
abbrev sNc (h : xS) : Nat := h.2.1
abbrev sSz (h : xS) : Nat → Nat := h.2.2.1
abbrev sCn (h : xS) : Nat → Nat → Nat → Nat := h.2.2.2.1
abbrev sPl (h : xS) : Nat → Nat := h.2.2.2.2
def xD (h : xS) (id : List Nat) : Prop := match id with
  | [0] => True
  | [1] => True
  | [2] => True
  | [3] => True
  | [4, q] => q < 4
  | [5, p] => p < sNp h ∨ p = 3
  | [6, p] => p < sNp h ∨ p = 3
  | [7, p, j] => p < sNp h ∧ j < sSz h p
  | [8, p, j, w] => p < sNp h ∧ j < sSz h p ∧ w < 2
  | [9, p, j, w] => p < sNp h ∧ j < sSz h p ∧ w < 2
  | [10, p, j, w, k] => p < sNp h ∧ j < sSz h p ∧ w < 2 ∧ k < sCn h p j w
  | [11, c, f] => (c < sNc h ∨ c = 4) ∧ f < 6
  | [20] => True
  | [21, f] => f < 8 ∨ f = 12 ∨ f = 14 ∨ f = 15 ∨ f = 16
  | [22, f, i] => (f < 8 ∧ i < 3) ∨ ((f = 12 ∨ f = 14 ∨ f = 15 ∨ f = 16) ∧ i < 4)
  | [23, f, i, j] => 4 ≤ f ∧ f < 8 ∧ i < 3 ∧ j < 8
  | [24, f] => f = 8 ∨ f = 9 ∨ f = 11 ∨ f = 13 ∨ f = 17 ∨ f = 18 ∨ f = 19 ∨ f = 22
  | [30] => True
  | [31] => True
  | _ => False
def xFh (h : xS) (id : List Nat) (k : Nat) : Option (List Nat) := match id with
  | [0] => (match k with | 0 => some [1] | 2 => some [2] | 4 => some [3] | 5 => some [11, 4, 0] | _ => none)
  | [1] => if k < sNp h then some [5, k] else none
  | [2] => if k < sNc h then some [11, k, 0] else none
  | [3] => if k < 4 then some [4, k] else none
  | [5, p] => (match k with | 1 => some [6, p] | _ => none)
  | [6, p] => if k < sSz h p then some [7, p, k] else none
  | [7, p, j] => (match k with | 2 => some [8, p, j, 0] | 3 => some [8, p, j, 1] | _ => none)
  | [8, p, j, w] => (match k with | 0 => some [9, p, j, w] | _ => none)
  | [9, p, j, w] => if k < sCn h p j w then some [10, p, j, w, k] else none
  | [11, c, 0] => (match k with | 0 => some [5, sPl h c] | 1 => some [11, c, 1] | 2 => some [11, c, 2] | 3 => some [11, c, 3] | 4 => some [11, c, 4] | 5 => some [11, c, 5] | _ => none)
  | [20] => (match k with | 8 => some [24, 8] | 9 => some [24, 9] | 11 => some [24, 11] | 13 => some [24, 13] | 17 => some [24, 17] | 18 => some [24, 18] | 19 => some [24, 19] | 22 => some [24, 22] | 10 => none | 20 => none | 21 => none | 23 => none | f => some [21, f])
  | [21, f] => some [22, f, k]
  | [22, f, i] => some [23, f, i, k]
  | _ => none
/-- a case's numbers: X 0 the fields (6 age, 7 waiting, 8 present, 9 lastRounds, 10 things), X 1 data, X 2 states, X 3 statesBefore, X 4 clocks, X 5 counts -/
abbrev xX : Type := Nat → Nat → Int32
def up2 {α : Type} (X : Nat → Nat → α) (f k : Nat) (v : α) : Nat → Nat → α := fun a b => if a = f ∧ b = k then v else X a b
def sX (I : xI) (c : Nat) (X : xX) (id : List Nat) : Nat → Int32 := match id with
  | [11, d, f] => if d = c then X f else I id
  | _ => I id
def gX (I : xI) (c : Nat) : xX := fun f => I [11, c, f]
theorem sX_at (I : xI) (c : Nat) (X : xX) (f : Nat) : sX I c X [11, c, f] = X f := by simp [sX]
theorem sX_ne (I : xI) {c d : Nat} (X : xX) (f : Nat) (h : d ≠ c) : sX I c X [11, d, f] = I [11, d, f] := by simp [sX, h]
theorem sX_cases (I : xI) (c : Nat) (X : xX) (id : List Nat) : (∃ f, id = [11, c, f] ∧ sX I c X id = X f) ∨ ((∀ f, id ≠ [11, c, f]) ∧ sX I c X id = I id) := by
  unfold sX
  split
  · rename_i d f
    by_cases e : d = c
    · subst e; exact Or.inl ⟨f, rfl, by simp⟩
    · exact Or.inr ⟨fun f' q => e (by simpa using (List.cons.inj (List.cons.inj q).2).1), by simp [e]⟩
  · rename_i h
    exact Or.inr ⟨fun f q => h c f q, rfl⟩
theorem sX_get (I : xI) (c : Nat) : sX I c (gX I c) = I := by
  funext id
  rcases sX_cases I c (gX I c) id with ⟨f, rfl, h⟩ | ⟨-, h⟩
  · rw [h]; rfl
  · exact h
theorem sX_up (I : xI) (c : Nat) (X : xX) (f k : Nat) (v : Int32) : up (sX I c X) [11, c, f] k v = sX I c (up2 X f k v) := by
  funext id q
  rcases sX_cases I c X id with ⟨a, rfl, h⟩ | ⟨h0, h⟩
  · rw [sX_at]
    by_cases e : a = f
    · subst e; simp [up, up2, sX_at]
    · simp [up, up2, sX_at, e]
  · rcases sX_cases I c (up2 X f k v) id with ⟨a, rfl, -⟩ | ⟨-, h2⟩
    · exact absurd rfl (h0 a)
    · rw [h2, up, if_neg (fun z => h0 f z.1), h]
theorem sX_sX (I : xI) (c : Nat) (X Y : xX) : sX (sX I c X) c Y = sX I c Y := by
  funext id
  rcases sX_cases (sX I c X) c Y id with ⟨f, rfl, h⟩ | ⟨h0, h⟩
  · rw [h, sX_at]
  · rw [h]
    rcases sX_cases I c X id with ⟨f, rfl, -⟩ | ⟨-, h2⟩
    · exact absurd rfl (h0 f)
    · rcases sX_cases I c Y id with ⟨f, rfl, -⟩ | ⟨-, h3⟩
      · exact absurd rfl (h0 f)
      · rw [h2, h3]
theorem gX_sX (I : xI) (c : Nat) (X : xX) : gX (sX I c X) c = X := by funext f; exact sX_at I c X f
theorem up2_at {α : Type} (X : Nat → Nat → α) (f k : Nat) (v : α) : up2 X f k v f k = v := by simp [up2]
theorem up2_f {α : Type} (X : Nat → Nat → α) {f a : Nat} (k : Nat) (v : α) (h : a ≠ f) : up2 X f k v a = X a := by funext b; simp [up2, h]
theorem up2_k {α : Type} (X : Nat → Nat → α) (f : Nat) {k b : Nat} (v : α) (h : b ≠ k) : up2 X f k v f b = X f b := by simp [up2, h]
/-- what a condition's numbers may be -/
def sCV (C : Nat → Int32) (n : Nat) : Prop := ((C 0 = 100 ∨ C 0 = 108) ∧ ∃ a : Nat, a < 4 ∧ C 1 = nI a) ∨ C 0 = 101 ∨ (C 0 = 99 ∧ ∃ a : Nat, a < n ∧ C 1 = nI a) ∨ C 0 = 116
def xWs (h : xS) (I : xI) (p j : Nat) : Prop :=
  (I [7, p, j] 0 = 115 ∨ I [7, p, j] 0 = 116 ∨ I [7, p, j] 0 = 109) ∧ (I [7, p, j] 1 = -1 ∨ ∃ q : Nat, q < j ∧ I [7, p, j] 1 = nI q ∧ I [7, p, q] 0 = 115) ∧
  ∀ w : Nat, w < 2 → I [8, p, j, w] 1 = nI (sCn h p j w) ∧ sCn h p j w ≤ 3 ∧ ∀ k : Nat, k < sCn h p j w → sCV (I [10, p, j, w, k]) (sSz h p)
def xWp (h : xS) (I : xI) (p : Nat) : Prop := sSz h p ≤ 8 ∧ I [5, p] 0 = nI p ∧ I [5, p] 2 = nI (sSz h p) ∧ ∀ j : Nat, j < sSz h p → xWs h I p j
/-- a state's number is a char's -/
def xCh (X : xX) : Prop := ∀ k, narrow .char (.int (X 2 k)) = .int (X 2 k)
/-! WHAT THE METHODS ANSWER, over a case's numbers X and its plan's: P j f the step j's field f, C j w k f a condition's, cn j w how many -/
def sMet (C : Nat → Int32) (X : xX) : Bool :=
  if C 0 = 100 then decide (C 2 ≤ X 1 (C 1).toNatClampNeg) else if C 0 = 108 then decide (X 1 (C 1).toNatClampNeg < C 2) else if C 0 = 101 then decide (X 0 8 = C 1) else if C 0 = 99 then decide (X 2 (C 1).toNatClampNeg = 99) else decide (C 1 ≤ X 0 6)
def sAny (C : Nat → Nat → Int32) (X : xX) : Nat → Bool
  | 0 => false
  | k + 1 => sAny C X k || sMet (C k) X
def b01 (b : Bool) : Int32 := if b = true then 1 else 0
/-- ends below: i steps are looked at, D says which are over -/
def sFin (P : Nat → Nat → Int32) (i : Nat) (s : (Nat → Int32) × (Nat → Bool)) : (Nat → Int32) × (Nat → Bool) :=
  if P i 1 ≠ -1 ∧ s.2 (P i 1).toNatClampNeg = true ∧ (s.1 i = 105 ∨ s.1 i = 97) then (fun k => if k = i then 120 else s.1 k, fun k => if k = i then true else s.2 k) else s
def sFins (P : Nat → Nat → Int32) (i0 : Nat) : Nat → (Nat → Int32) × (Nat → Bool) → (Nat → Int32) × (Nat → Bool)
  | 0, s => s
  | d + 1, s => sFin P (i0 + d) (sFins P i0 d s)
def sEnd (P : Nat → Nat → Int32) (n : Nat) (X : xX) (j : Nat) (v : Int32) : xX := fun f => if f = 2 then (sFins P (j + 1) (n - (j + 1)) (fun k => if k = j then v else X 2 k, fun k => decide (k = j))).1 else X f
def sOpt (P : Nat → Nat → Int32) (X : xX) (i : Nat) : Bool := decide (X 2 i = 99) || decide (X 2 i = 120) || (decide (X 2 i = 105) && decide (P i 0 = 116) && decide (P i 4 = 0))
/-- are the children among the first n steps all done; is there one -/
def sDon (P : Nat → Nat → Int32) (X : xX) (j : Nat) : Nat → Bool
  | 0 => true
  | i + 1 => sDon P X j i && (decide (P i 1 ≠ nI j) || sOpt P X i)
def sHas (P : Nat → Nat → Int32) (j : Nat) : Nat → Bool
  | 0 => false
  | i + 1 => sHas P j i || decide (P i 1 = nI j)
def sPar (P : Nat → Nat → Int32) (X : xX) (j : Nat) : Bool := decide (P j 1 = -1) || decide (X 2 (P j 1).toNatClampNeg = 97)
def sRul (P : Nat → Nat → Int32) (C : Nat → Nat → Nat → Nat → Int32) (cn : Nat → Nat → Nat) (n : Nat) (X : xX) (j : Nat) : Bool × xX :=
  if X 2 j = 97 ∧ sAny (C j 1) X (cn j 1) = true then (true, sEnd P n X j 120)
  else if X 2 j = 105 ∧ sPar P X j = true ∧ (cn j 0 = 0 ∨ sAny (C j 0) X (cn j 0) = true) then (true, up2 (up2 X 2 j (if P j 0 = 109 then 99 else 97)) 5 j (X 5 j + 1))
  else if X 2 j = 97 ∧ P j 0 = 115 ∧ sHas P j n = true ∧ sDon P X j n = true then (true, sEnd P n X j 99)
  else if X 2 j = 99 ∧ P j 0 = 109 ∧ ¬ P j 6 = 0 ∧ 0 < cn j 0 ∧ ¬ sAny (C j 0) X (cn j 0) = true then (true, up2 X 2 j 105)
  else (false, X)
def sSwp (P : Nat → Nat → Int32) (C : Nat → Nat → Nat → Nat → Int32) (cn : Nat → Nat → Nat) (n : Nat) : Nat → xX → Bool × xX
  | 0, X => (false, X)
  | i + 1, X => let r := sSwp P C cn n i X; let q := sRul P C cn n r.2 i; (r.1 || q.1, q.2)
/-- t more rounds at most, r are over -/
def sRnd (P : Nat → Nat → Int32) (C : Nat → Nat → Nat → Nat → Int32) (cn : Nat → Nat → Nat) (n : Nat) : Nat → Nat → xX → xX
  | 0, _, X => X
  | t + 1, r, X => let q := sSwp P C cn n n X; if q.1 = true then sRnd P C cn n t (r + 1) (up2 q.2 0 9 (nI (r + 1))) else q.2
def sRun (P : Nat → Nat → Int32) (C : Nat → Nat → Nat → Nat → Int32) (cn : Nat → Nat → Nat) (n : Nat) (X : xX) : xX := sRnd P C cn n 20 0 (up2 X 0 9 0)
/-- a plan's numbers in the class's heap -/
def vP (I : xI) (p : Nat) : Nat → Nat → Int32 := fun j => I [7, p, j]
def vC (I : xI) (p : Nat) : Nat → Nat → Nat → Nat → Int32 := fun j w k => I [10, p, j, w, k]
end
section
/-! CONTRACTS: the leaves -/
set_option maxHeartbeats 1000000 in
set_option maxRecDepth 100000 in
theorem c_X4_stepAt (l : Launch) (g : xG) (h : xS) (I : xI) (n p j : Nat) (hpp : p < sNp h) (hj : j < sSz h p) (h8 : sSz h p ≤ 8) (hz : I [5, p] 2 = nI (sSz h p)) : xM l yX4_stepAt (xws yX4_stepAt cX4_stepAt 2 (some (FieldType.object "CasebookSteps$Step"))) 1 12 g [.ref (ga g [5, p]), .int (nI j)] (xR g (xD h) I (xFh h) n) (some (.ref (ga g [7, p, j]))) (xR g (xD h) I (xFh h) n) 0 0 := by
  refine xM.of (by decide) (Nat.le_of_ble_eq_true rfl) ?_
  intro P_ e_ s m_ bl_ mt_ cd_ ls hx hb hr hown hlocks hml hnm hE hK hts hH hS hl
  have hl : lv_has ls 2 [(0, .ref (ga g [5, p])), (1, .int (nI j))] := hl
  refine lv_iload_n hx hb dX4_stepAt_0 rfl (lv_at hl 1 rfl) ?_
  refine lv_if_lt (tgt := 18) hx hb dX4_stepAt_1 (by decide) (fun q_ => absurd q_ (fun z_ => absurd ((nI_ltI (a := j) (b := 0) (by omega) (by omega)).mp z_) (by omega))) (fun _ => ?_)
  refine lv_iload_n hx hb dX4_stepAt_4 rfl (lv_at hl 1 rfl) ?_
  refine lv_aload_n hx hb dX4_stepAt_5 rfl (lv_at hl 0 rfl) ?_
  refine x_get (C := RX4) (T := TX4) (N := 4) (ci := 4) hx hb hts iu4 hown hK hH (id := [5, p]) (by first | trivial | (simp only [xD]; omega)) rfl rfl (by decide) 2 (by decide) (hts _ tw68) (fun _ h9 => h9) rfl (v := .int (nI (sSz h p))) (congrArg Value.int hz) dX4_stepAt_6 ?_
  refine lv_icmp_ge (tgt := 18) hx hb dX4_stepAt_9 (by decide) (fun q_ => absurd q_ (fun z_ => absurd ((nI_leI (a := (sSz h p)) (b := j) (by omega) (by omega)).mp z_) (by omega))) (fun _ => ?_)
  refine lv_iload_n hx hb dX4_stepAt_12 rfl (lv_at hl 1 rfl) ?_
  refine lv_bipush (v := 8) hx hb dX4_stepAt_13 (by decide) ?_
  refine lv_icmp_lt (tgt := 22) hx hb dX4_stepAt_15 (by decide) (fun _ => ?_) (fun q_ => absurd ((nI_ltI (a := j) (b := 8) (by omega) (by omega)).mpr (by omega)) q_)
  refine lv_aload_n hx hb dX4_stepAt_22 rfl (lv_at hl 0 rfl) ?_
  refine x_get (C := RX4) (T := TX4) (N := 4) (ci := 4) hx hb hts iu4 hown hK hH (id := [5, p]) (by first | trivial | (simp only [xD]; omega)) rfl rfl (by decide) 1 (by decide) (hts _ tw67) (fun _ h9 => h9) rfl (v := .ref (ga g [6, p])) rfl dX4_stepAt_23 ?_
  refine lv_iload_n hx hb dX4_stepAt_26 rfl (lv_at hl 1 rfl) ?_
  refine x_aald hx hb hK hH (id := [6, p]) (by first | trivial | (simp only [xD]; omega)) 5 (L := 8) rfl (by decide) j rfl (by omega) (by decide) (v := .ref (ga g [7, p, j])) (by show rq _ (if _ then _ else _) = _; rw [if_pos (by omega)]; rfl) dX4_stepAt_27 ?_
  exact x_aret hx hb hr hlocks hS dX4_stepAt_28 (Or.inr ⟨_, rfl⟩) rfl hH

set_option maxHeartbeats 1000000 in
set_option maxRecDepth 100000 in
theorem c_X4_stepAt_no (l : Launch) (g : xG) (h : xS) (I : xI) (n p : Nat) (x : Int32) (hpp : p < sNp h ∨ p = 3) (hz : I [5, p] 2 = nI (sSz h p)) (hx0 : x < 0 ∨ nI (sSz h p) ≤ x) : xM l yX4_stepAt (xws yX4_stepAt cX4_stepAt 2 (some (FieldType.object "CasebookSteps$Step"))) 1 12 g [.ref (ga g [5, p]), .int x] (xR g (xD h) I (xFh h) n) (some (.null)) (xR g (xD h) I (xFh h) n) 0 0 := by
  refine xM.of (by decide) (Nat.le_of_ble_eq_true rfl) ?_
  intro P_ e_ s m_ bl_ mt_ cd_ ls hx hb hr hown hlocks hml hnm hE hK hts hH hS hl
  have hl : lv_has ls 2 [(0, .ref (ga g [5, p])), (1, .int x)] := hl
  refine lv_iload_n hx hb dX4_stepAt_0 rfl (lv_at hl 1 rfl) ?_
  refine lv_if_lt (tgt := 18) hx hb dX4_stepAt_1 (by decide) (fun c_1 => ?_) (fun c_1 => ?_)
  · skip
    refine lv_null hx hb dX4_stepAt_18 ?_
    refine lv_goto (tgt := 28) hx hb dX4_stepAt_19 (by decide) ?_
    exact x_aret hx hb hr hlocks hS dX4_stepAt_28 (Or.inl rfl) rfl hH
  · skip
    refine lv_iload_n hx hb dX4_stepAt_4 rfl (lv_at hl 1 rfl) ?_
    refine lv_aload_n hx hb dX4_stepAt_5 rfl (lv_at hl 0 rfl) ?_
    refine x_get (C := RX4) (T := TX4) (N := 4) (ci := 4) hx hb hts iu4 hown hK hH (id := [5, p]) (by first | trivial | (simp only [xD]; omega)) rfl rfl (by decide) 2 (by decide) (hts _ tw68) (fun _ h9 => h9) rfl (v := .int (nI (sSz h p))) (congrArg Value.int hz) dX4_stepAt_6 ?_
    refine lv_icmp_ge (tgt := 18) hx hb dX4_stepAt_9 (by decide) (fun _ => ?_) (fun q_ => absurd (hx0.resolve_left c_1) q_)
    refine lv_null hx hb dX4_stepAt_18 ?_
    refine lv_goto (tgt := 28) hx hb dX4_stepAt_19 (by decide) ?_
    exact x_aret hx hb hr hlocks hS dX4_stepAt_28 (Or.inl rfl) rfl hH

set_option maxHeartbeats 1000000 in
set_option maxRecDepth 100000 in
theorem c_X2_at (l : Launch) (g : xG) (h : xS) (I : xI) (n p j w k : Nat) (hpp : p < sNp h) (hj : j < sSz h p) (hw : w < 2) (hk : k < sCn h p j w) (h3 : sCn h p j w ≤ 3) (hz : I [8, p, j, w] 1 = nI (sCn h p j w)) : xM l yX2_at (xws yX2_at cX2_at 2 (some (FieldType.object "CasebookSteps$Condition"))) 1 12 g [.ref (ga g [8, p, j, w]), .int (nI k)] (xR g (xD h) I (xFh h) n) (some (.ref (ga g [10, p, j, w, k]))) (xR g (xD h) I (xFh h) n) 0 0 := by
  refine xM.of (by decide) (Nat.le_of_ble_eq_true rfl) ?_
  intro P_ e_ s m_ bl_ mt_ cd_ ls hx hb hr hown hlocks hml hnm hE hK hts hH hS hl
  have hl : lv_has ls 2 [(0, .ref (ga g [8, p, j, w])), (1, .int (nI k))] := hl
  refine lv_iload_n hx hb dX2_at_0 rfl (lv_at hl 1 rfl) ?_
  refine lv_if_lt (tgt := 17) hx hb dX2_at_1 (by decide) (fun q_ => absurd q_ (fun z_ => absurd ((nI_ltI (a := k) (b := 0) (by omega) (by omega)).mp z_) (by omega))) (fun _ => ?_)
  refine lv_iload_n hx hb dX2_at_4 rfl (lv_at hl 1 rfl) ?_
  refine lv_aload_n hx hb dX2_at_5 rfl (lv_at hl 0 rfl) ?_
  refine x_get (C := RX2) (T := TX2) (N := 2) (ci := 2) hx hb hts iu2 hown hK hH (id := [8, p, j, w]) (by first | trivial | (simp only [xD]; omega)) rfl rfl (by decide) 1 (by decide) (hts _ tw322) (fun _ h9 => h9) rfl (v := .int (nI (sCn h p j w))) (congrArg Value.int hz) dX2_at_6 ?_
  refine lv_icmp_ge (tgt := 17) hx hb dX2_at_9 (by decide) (fun q_ => absurd q_ (fun z_ => absurd ((nI_leI (a := (sCn h p j w)) (b := k) (by omega) (by omega)).mp z_) (by omega))) (fun _ => ?_)
  refine lv_iload_n hx hb dX2_at_12 rfl (lv_at hl 1 rfl) ?_
  refine lv_iconst (v := 3) hx hb dX2_at_13 (by decide) ?_
  refine lv_icmp_lt (tgt := 21) hx hb dX2_at_14 (by decide) (fun _ => ?_) (fun q_ => absurd ((nI_ltI (a := k) (b := 3) (by omega) (by omega)).mpr (by omega)) q_)
  refine lv_aload_n hx hb dX2_at_21 rfl (lv_at hl 0 rfl) ?_
  refine x_get (C := RX2) (T := TX2) (N := 2) (ci := 2) hx hb hts iu2 hown hK hH (id := [8, p, j, w]) (by first | trivial | (simp only [xD]; omega)) rfl rfl (by decide) 0 (by decide) (hts _ tw321) (fun _ h9 => h9) rfl (v := .ref (ga g [9, p, j, w])) rfl dX2_at_22 ?_
  refine lv_iload_n hx hb dX2_at_25 rfl (lv_at hl 1 rfl) ?_
  refine x_aald hx hb hK hH (id := [9, p, j, w]) (by first | trivial | (simp only [xD]; omega)) 6 (L := 3) rfl (by decide) k rfl (by omega) (by decide) (v := .ref (ga g [10, p, j, w, k])) (by show rq _ (if _ then _ else _) = _; rw [if_pos (by omega)]; rfl) dX2_at_26 ?_
  exact x_aret hx hb hr hlocks hS dX2_at_27 (Or.inr ⟨_, rfl⟩) rfl hH

set_option maxHeartbeats 1000000 in
set_option maxRecDepth 100000 in
theorem c_X2_at_no (l : Launch) (g : xG) (h : xS) (I : xI) (n p j w : Nat) (x : Int32) (hpp : p < sNp h) (hj : j < sSz h p) (hw : w < 2) (hz : I [8, p, j, w] 1 = nI (sCn h p j w)) (hx0 : x < 0 ∨ nI (sCn h p j w) ≤ x) : xM l yX2_at (xws yX2_at cX2_at 2 (some (FieldType.object "CasebookSteps$Condition"))) 1 12 g [.ref (ga g [8, p, j, w]), .int x] (xR g (xD h) I (xFh h) n) (some (.null)) (xR g (xD h) I (xFh h) n) 0 0 := by
  refine xM.of (by decide) (Nat.le_of_ble_eq_true rfl) ?_
  intro P_ e_ s m_ bl_ mt_ cd_ ls hx hb hr hown hlocks hml hnm hE hK hts hH hS hl
  have hl : lv_has ls 2 [(0, .ref (ga g [8, p, j, w])), (1, .int x)] := hl
  refine lv_iload_n hx hb dX2_at_0 rfl (lv_at hl 1 rfl) ?_
  refine lv_if_lt (tgt := 17) hx hb dX2_at_1 (by decide) (fun c_1 => ?_) (fun c_1 => ?_)
  · skip
    refine lv_null hx hb dX2_at_17 ?_
    refine lv_goto (tgt := 27) hx hb dX2_at_18 (by decide) ?_
    exact x_aret hx hb hr hlocks hS dX2_at_27 (Or.inl rfl) rfl hH
  · skip
    refine lv_iload_n hx hb dX2_at_4 rfl (lv_at hl 1 rfl) ?_
    refine lv_aload_n hx hb dX2_at_5 rfl (lv_at hl 0 rfl) ?_
    refine x_get (C := RX2) (T := TX2) (N := 2) (ci := 2) hx hb hts iu2 hown hK hH (id := [8, p, j, w]) (by first | trivial | (simp only [xD]; omega)) rfl rfl (by decide) 1 (by decide) (hts _ tw322) (fun _ h9 => h9) rfl (v := .int (nI (sCn h p j w))) (congrArg Value.int hz) dX2_at_6 ?_
    refine lv_icmp_ge (tgt := 17) hx hb dX2_at_9 (by decide) (fun _ => ?_) (fun q_ => absurd (hx0.resolve_left c_1) q_)
    refine lv_null hx hb dX2_at_17 ?_
    refine lv_goto (tgt := 27) hx hb dX2_at_18 (by decide) ?_
    exact x_aret hx hb hr hlocks hS dX2_at_27 (Or.inl rfl) rfl hH

set_option maxHeartbeats 1000000 in
set_option maxRecDepth 100000 in
theorem c_X0_stateOf (l : Launch) (g : xG) (h : xS) (I : xI) (n c : Nat) (X : xX) (hc : c < sNc h ∨ c = 4) (k : Nat) (hk : k < 8) (hch : xCh X) : xM l yX0_stateOf (xws yX0_stateOf cX0_stateOf 2 (some FieldType.char)) 1 12 g [.ref (ga g [11, c, 0]), .int (nI k)] (xR g (xD h) (sX I c X) (xFh h) n) (some (.int (X 2 k))) (xR g (xD h) (sX I c X) (xFh h) n) 0 0 := by
  refine xM.of (by decide) (Nat.le_of_ble_eq_true rfl) ?_
  intro P_ e_ s m_ bl_ mt_ cd_ ls hx hb hr hown hlocks hml hnm hE hK hts hH hS hl
  have hl : lv_has ls 2 [(0, .ref (ga g [11, c, 0])), (1, .int (nI k))] := hl
  refine lv_iload_n hx hb dX0_stateOf_0 rfl (lv_at hl 1 rfl) ?_
  refine lv_if_lt (tgt := 10) hx hb dX0_stateOf_1 (by decide) (fun q_ => absurd q_ (fun z_ => absurd ((nI_ltI (a := k) (b := 0) (by omega) (by omega)).mp z_) (by omega))) (fun _ => ?_)
  refine lv_iload_n hx hb dX0_stateOf_4 rfl (lv_at hl 1 rfl) ?_
  refine lv_bipush (v := 8) hx hb dX0_stateOf_5 (by decide) ?_
  refine lv_icmp_lt (tgt := 15) hx hb dX0_stateOf_7 (by decide) (fun _ => ?_) (fun q_ => absurd ((nI_ltI (a := k) (b := 8) (by omega) (by omega)).mpr (by omega)) q_)
  refine lv_aload_n hx hb dX0_stateOf_15 rfl (lv_at hl 0 rfl) ?_
  refine x_get (C := RX0) (T := TX0) (N := 11) (ci := 0) hx hb hts iu0 hown hK hH (id := [11, c, 0]) (by first | trivial | (simp only [xD]; omega)) rfl rfl (by decide) 2 (by decide) (hts _ tw89) (fun _ h9 => h9) (sX_at _ _ _ _) (v := .ref (ga g [11, c, 2])) rfl dX0_stateOf_16 ?_
  refine lv_iload_n hx hb dX0_stateOf_19 rfl (lv_at hl 1 rfl) ?_
  refine x_cald hx hb hK hH (id := [11, c, 2]) (by first | trivial | (simp only [xD]; omega)) (L := 8) rfl (sX_at _ _ _ _) k rfl (by omega) (by decide) dX0_stateOf_20 ?_
  exact x_zret hx hb hr hlocks hS dX0_stateOf_21 (hch k) rfl hH

set_option maxHeartbeats 1000000 in
set_option maxRecDepth 100000 in
theorem c_X0_clockOf (l : Launch) (g : xG) (h : xS) (I : xI) (n c : Nat) (X : xX) (hc : c < sNc h ∨ c = 4) (k : Nat) (hk : k < 8) : xM l yX0_clockOf (xws yX0_clockOf cX0_clockOf 2 (some FieldType.int)) 1 12 g [.ref (ga g [11, c, 0]), .int (nI k)] (xR g (xD h) (sX I c X) (xFh h) n) (some (.int (X 4 k))) (xR g (xD h) (sX I c X) (xFh h) n) 0 0 := by
  refine xM.of (by decide) (Nat.le_of_ble_eq_true rfl) ?_
  intro P_ e_ s m_ bl_ mt_ cd_ ls hx hb hr hown hlocks hml hnm hE hK hts hH hS hl
  have hl : lv_has ls 2 [(0, .ref (ga g [11, c, 0])), (1, .int (nI k))] := hl
  refine lv_iload_n hx hb dX0_clockOf_0 rfl (lv_at hl 1 rfl) ?_
  refine lv_if_lt (tgt := 10) hx hb dX0_clockOf_1 (by decide) (fun q_ => absurd q_ (fun z_ => absurd ((nI_ltI (a := k) (b := 0) (by omega) (by omega)).mp z_) (by omega))) (fun _ => ?_)
  refine lv_iload_n hx hb dX0_clockOf_4 rfl (lv_at hl 1 rfl) ?_
  refine lv_bipush (v := 8) hx hb dX0_clockOf_5 (by decide) ?_
  refine lv_icmp_lt (tgt := 14) hx hb dX0_clockOf_7 (by decide) (fun _ => ?_) (fun q_ => absurd ((nI_ltI (a := k) (b := 8) (by omega) (by omega)).mpr (by omega)) q_)
  refine lv_aload_n hx hb dX0_clockOf_14 rfl (lv_at hl 0 rfl) ?_
  refine x_get (C := RX0) (T := TX0) (N := 11) (ci := 0) hx hb hts iu0 hown hK hH (id := [11, c, 0]) (by first | trivial | (simp only [xD]; omega)) rfl rfl (by decide) 4 (by decide) (hts _ tw91) (fun _ h9 => h9) (sX_at _ _ _ _) (v := .ref (ga g [11, c, 4])) rfl dX0_clockOf_15 ?_
  refine lv_iload_n hx hb dX0_clockOf_18 rfl (lv_at hl 1 rfl) ?_
  refine x_iald hx hb hK hH (id := [11, c, 4]) (by first | trivial | (simp only [xD]; omega)) (L := 8) rfl (sX_at _ _ _ _) k rfl (by omega) (by decide) dX0_clockOf_19 ?_
  exact x_iret hx hb hr hlocks hS dX0_clockOf_20 rfl hH

set_option maxHeartbeats 1000000 in
set_option maxRecDepth 100000 in
theorem c_X0_countOf (l : Launch) (g : xG) (h : xS) (I : xI) (n c : Nat) (X : xX) (hc : c < sNc h ∨ c = 4) (k : Nat) (hk : k < 8) : xM l yX0_countOf (xws yX0_countOf cX0_countOf 2 (some FieldType.int)) 1 12 g [.ref (ga g [11, c, 0]), .int (nI k)] (xR g (xD h) (sX I c X) (xFh h) n) (some (.int (X 5 k))) (xR g (xD h) (sX I c X) (xFh h) n) 0 0 := by
  refine xM.of (by decide) (Nat.le_of_ble_eq_true rfl) ?_
  intro P_ e_ s m_ bl_ mt_ cd_ ls hx hb hr hown hlocks hml hnm hE hK hts hH hS hl
  have hl : lv_has ls 2 [(0, .ref (ga g [11, c, 0])), (1, .int (nI k))] := hl
  refine lv_iload_n hx hb dX0_countOf_0 rfl (lv_at hl 1 rfl) ?_
  refine lv_if_lt (tgt := 10) hx hb dX0_countOf_1 (by decide) (fun q_ => absurd q_ (fun z_ => absurd ((nI_ltI (a := k) (b := 0) (by omega) (by omega)).mp z_) (by omega))) (fun _ => ?_)
  refine lv_iload_n hx hb dX0_countOf_4 rfl (lv_at hl 1 rfl) ?_
  refine lv_bipush (v := 8) hx hb dX0_countOf_5 (by decide) ?_
  refine lv_icmp_lt (tgt := 14) hx hb dX0_countOf_7 (by decide) (fun _ => ?_) (fun q_ => absurd ((nI_ltI (a := k) (b := 8) (by omega) (by omega)).mpr (by omega)) q_)
  refine lv_aload_n hx hb dX0_countOf_14 rfl (lv_at hl 0 rfl) ?_
  refine x_get (C := RX0) (T := TX0) (N := 11) (ci := 0) hx hb hts iu0 hown hK hH (id := [11, c, 0]) (by first | trivial | (simp only [xD]; omega)) rfl rfl (by decide) 5 (by decide) (hts _ tw92) (fun _ h9 => h9) (sX_at _ _ _ _) (v := .ref (ga g [11, c, 5])) rfl dX0_countOf_15 ?_
  refine lv_iload_n hx hb dX0_countOf_18 rfl (lv_at hl 1 rfl) ?_
  refine x_iald hx hb hK hH (id := [11, c, 5]) (by first | trivial | (simp only [xD]; omega)) (L := 8) rfl (sX_at _ _ _ _) k rfl (by omega) (by decide) dX0_countOf_19 ?_
  exact x_iret hx hb hr hlocks hS dX0_countOf_20 rfl hH

def sIn (x lo hi : Int32) : Bool := !decide (x < lo) && !decide (hi ≤ x)
theorem b01_nar (b : Bool) : narrow .boolean (.int (b01 b)) = .int (b01 b) := by cases b <;> rfl
theorem b01_eq0 (b : Bool) : b01 b = 0 ↔ b = false := by cases b <;> decide
theorem b01_t {b : Bool} (h : b = true) : (1 : Int32) = b01 b := by rw [h]; rfl
theorem b01_f {b : Bool} (h : b = false) : (0 : Int32) = b01 b := by rw [h]; rfl
theorem i_nlt {x y : Int32} (h : ¬ x < y) : y ≤ x := Int32.not_lt.mp h
theorem i_nle {x y : Int32} (h : ¬ x ≤ y) : y < x := Int32.not_le.mp h
theorem i_lt_nle {x y : Int32} (h : x < y) : ¬ y ≤ x := Int32.not_le.mpr h
theorem i_le_nlt {x y : Int32} (h : x ≤ y) : ¬ y < x := Int32.not_lt.mpr h

set_option maxHeartbeats 1000000 in
set_option maxRecDepth 100000 in
theorem c_X6_isDatum (l : Launch) (g : xG) (h : xS) (I : xI) (n : Nat) (x : Int32)  : xM l yX6_isDatum (xws yX6_isDatum cX6_isDatum 1 (some FieldType.boolean)) 1 12 g [.int x] (xR g (xD h) I (xFh h) n) (some (.int (b01 (sIn x 0 4)))) (xR g (xD h) I (xFh h) n) 0 0 := by
  refine xM.of (by decide) (Nat.le_of_ble_eq_true rfl) ?_
  intro P_ e_ s m_ bl_ mt_ cd_ ls hx hb hr hown hlocks hml hnm hE hK hts hH hS hl
  have hl : lv_has ls 1 [(0, .int x)] := hl
  refine lv_iload_n hx hb dX6_isDatum_0 rfl (lv_at hl 0 rfl) ?_
  refine lv_if_lt (tgt := 13) hx hb dX6_isDatum_1 (by decide) (fun c_1 => ?_) (fun c_1 => ?_)
  · skip
    refine lv_iconst (v := 0) hx hb dX6_isDatum_13 (by decide) ?_
    exact x_zret hx hb hr hlocks hS dX6_isDatum_14 rfl (b01_f (by simp [sIn, *])) hH
  · skip
    refine lv_iload_n hx hb dX6_isDatum_4 rfl (lv_at hl 0 rfl) ?_
    refine lv_iconst (v := 4) hx hb dX6_isDatum_5 (by decide) ?_
    refine lv_icmp_ge (tgt := 13) hx hb dX6_isDatum_6 (by decide) (fun c_6 => ?_) (fun c_6 => ?_)
    · skip
      refine lv_iconst (v := 0) hx hb dX6_isDatum_13 (by decide) ?_
      exact x_zret hx hb hr hlocks hS dX6_isDatum_14 rfl (b01_f (by simp [sIn, *])) hH
    · skip
      refine lv_iconst (v := 1) hx hb dX6_isDatum_9 (by decide) ?_
      refine lv_goto (tgt := 14) hx hb dX6_isDatum_10 (by decide) ?_
      exact x_zret hx hb hr hlocks hS dX6_isDatum_14 rfl (b01_t (by simp [sIn, *])) hH

set_option maxHeartbeats 1000000 in
set_option maxRecDepth 100000 in
theorem c_X6_isEvent (l : Launch) (g : xG) (h : xS) (I : xI) (n : Nat) (x : Int32)  : xM l yX6_isEvent (xws yX6_isEvent cX6_isEvent 1 (some FieldType.boolean)) 1 12 g [.int x] (xR g (xD h) I (xFh h) n) (some (.int (b01 (sIn x 0 10)))) (xR g (xD h) I (xFh h) n) 0 0 := by
  refine xM.of (by decide) (Nat.le_of_ble_eq_true rfl) ?_
  intro P_ e_ s m_ bl_ mt_ cd_ ls hx hb hr hown hlocks hml hnm hE hK hts hH hS hl
  have hl : lv_has ls 1 [(0, .int x)] := hl
  refine lv_iload_n hx hb dX6_isEvent_0 rfl (lv_at hl 0 rfl) ?_
  refine lv_if_lt (tgt := 14) hx hb dX6_isEvent_1 (by decide) (fun c_1 => ?_) (fun c_1 => ?_)
  · skip
    refine lv_iconst (v := 0) hx hb dX6_isEvent_14 (by decide) ?_
    exact x_zret hx hb hr hlocks hS dX6_isEvent_15 rfl (b01_f (by simp [sIn, *])) hH
  · skip
    refine lv_iload_n hx hb dX6_isEvent_4 rfl (lv_at hl 0 rfl) ?_
    refine lv_bipush (v := 10) hx hb dX6_isEvent_5 (by decide) ?_
    refine lv_icmp_ge (tgt := 14) hx hb dX6_isEvent_7 (by decide) (fun c_7 => ?_) (fun c_7 => ?_)
    · skip
      refine lv_iconst (v := 0) hx hb dX6_isEvent_14 (by decide) ?_
      exact x_zret hx hb hr hlocks hS dX6_isEvent_15 rfl (b01_f (by simp [sIn, *])) hH
    · skip
      refine lv_iconst (v := 1) hx hb dX6_isEvent_10 (by decide) ?_
      refine lv_goto (tgt := 15) hx hb dX6_isEvent_11 (by decide) ?_
      exact x_zret hx hb hr hlocks hS dX6_isEvent_15 rfl (b01_t (by simp [sIn, *])) hH

set_option maxHeartbeats 1000000 in
set_option maxRecDepth 100000 in
theorem c_X6_isValue (l : Launch) (g : xG) (h : xS) (I : xI) (n : Nat) (x : Int32)  : xM l yX6_isValue (xws yX6_isValue cX6_isValue 1 (some FieldType.boolean)) 1 12 g [.int x] (xR g (xD h) I (xFh h) n) (some (.int (b01 (!decide (x < -99) && !decide (99 < x))))) (xR g (xD h) I (xFh h) n) 0 0 := by
  refine xM.of (by decide) (Nat.le_of_ble_eq_true rfl) ?_
  intro P_ e_ s m_ bl_ mt_ cd_ ls hx hb hr hown hlocks hml hnm hE hK hts hH hS hl
  have hl : lv_has ls 1 [(0, .int x)] := hl
  refine lv_iload_n hx hb dX6_isValue_0 rfl (lv_at hl 0 rfl) ?_
  refine lv_bipush (v := (-99)) hx hb dX6_isValue_1 (by decide) ?_
  refine lv_icmp_lt (tgt := 16) hx hb dX6_isValue_3 (by decide) (fun c_3 => ?_) (fun c_3 => ?_)
  · skip
    refine lv_iconst (v := 0) hx hb dX6_isValue_16 (by decide) ?_
    exact x_zret hx hb hr hlocks hS dX6_isValue_17 rfl (b01_f (by simp [*])) hH
  · skip
    refine lv_iload_n hx hb dX6_isValue_6 rfl (lv_at hl 0 rfl) ?_
    refine lv_bipush (v := 99) hx hb dX6_isValue_7 (by decide) ?_
    refine lv_icmp_gt (tgt := 16) hx hb dX6_isValue_9 (by decide) (fun c_9 => ?_) (fun c_9 => ?_)
    · skip
      refine lv_iconst (v := 0) hx hb dX6_isValue_16 (by decide) ?_
      exact x_zret hx hb hr hlocks hS dX6_isValue_17 rfl (b01_f (by simp [*])) hH
    · skip
      refine lv_iconst (v := 1) hx hb dX6_isValue_12 (by decide) ?_
      refine lv_goto (tgt := 17) hx hb dX6_isValue_13 (by decide) ?_
      exact x_zret hx hb hr hlocks hS dX6_isValue_17 rfl (b01_t (by simp [*])) hH
end
section
/-! CONTRACTS: conditions -/
theorem i_ge {x y : Int32} (h : x ≤ y) : ¬ y < x := Int32.not_lt.mpr h
theorem sMet_d {C : Nat → Int32} {X : xX} (h : C 0 = 100) : sMet C X = decide (C 2 ≤ X 1 (C 1).toNatClampNeg) := by simp [sMet, h]
theorem sMet_l {C : Nat → Int32} {X : xX} (h : C 0 = 108) : sMet C X = decide (X 1 (C 1).toNatClampNeg < C 2) := by simp [sMet, h]
theorem sMet_e {C : Nat → Int32} {X : xX} (h : C 0 = 101) : sMet C X = decide (X 0 8 = C 1) := by simp [sMet, h]
theorem sMet_c {C : Nat → Int32} {X : xX} (h : C 0 = 99) : sMet C X = decide (X 2 (C 1).toNatClampNeg = 99) := by simp [sMet, h]
theorem sMet_t {C : Nat → Int32} {X : xX} (h : C 0 = 116) : sMet C X = decide (C 1 ≤ X 0 6) := by simp [sMet, h]
set_option maxHeartbeats 1000000 in
set_option maxRecDepth 100000 in
theorem c_X0_isMet (l : Launch) (g : xG) (h : xS) (I : xI) (n c : Nat) (X : xX) (hc : c < sNc h ∨ c = 4) (p j w k : Nat) (hpp : p < sNp h) (hj : j < sSz h p) (h8 : sSz h p ≤ 8) (hw : w < 2) (hk : k < sCn h p j w) (hcv : sCV (I [10, p, j, w, k]) (sSz h p))  : xM l yX0_isMet (xws yX0_isMet cX0_isMet 4 (some FieldType.boolean)) 1 12 g [.ref (ga g [11, c, 0]), .ref (ga g [10, p, j, w, k])] (xR g (xD h) (sX I c X) (xFh h) n) (some (.int (b01 (sMet (I [10, p, j, w, k]) X)))) (xR g (xD h) (sX I c X) (xFh h) n) 0 0 := by
  refine xM.of (by decide) (Nat.le_of_ble_eq_true rfl) ?_
  intro P_ e_ s m_ bl_ mt_ cd_ ls hx hb hr hown hlocks hml hnm hE hK hts hH hS hl
  have hl : lv_has ls 4 [(0, .ref (ga g [11, c, 0])), (1, .ref (ga g [10, p, j, w, k]))] := hl
  rcases hcv with ⟨h0 | h0, a, ha, h1⟩ | h0 | ⟨h0, a, ha, h1⟩ | h0
  · skip
    have hcl : (I [10, p, j, w, k] 1).toNatClampNeg = a := by rw [h1]; exact nI_clamp (by omega)
    refine lv_aload_n hx hb dX0_isMet_0 rfl (lv_at hl 1 rfl) ?_
    refine x_get (C := RX1) (T := TX1) (N := 3) (ci := 1) hx hb hts iu1 hown hK hH (id := [10, p, j, w, k]) (by first | trivial | (simp only [xD]; omega)) rfl rfl (by decide) 0 (by decide) (hts _ tw409) (fun _ h9 => h9) rfl (v := .int 100) (congrArg Value.int h0) dX0_isMet_1 ?_
    refine lv_istore_n (lv' := [(2, .int 100), (0, .ref (ga g [11, c, 0])), (1, .ref (ga g [10, p, j, w, k]))]) hx hb dX0_isMet_4 rfl hl (by decide) rfl (fun ls hl => ?_)
    refine lv_aload_n hx hb dX0_isMet_5 rfl (lv_at hl 2 rfl) ?_
    refine x_get (C := RX1) (T := TX1) (N := 3) (ci := 1) hx hb hts iu1 hown hK hH (id := [10, p, j, w, k]) (by first | trivial | (simp only [xD]; omega)) rfl rfl (by decide) 1 (by decide) (hts _ tw411) (fun _ h9 => h9) rfl (v := .int (nI a)) (congrArg Value.int h1) dX0_isMet_6 ?_
    refine lv_istore_n (lv' := [(3, .int (nI a)), (2, .int 100), (0, .ref (ga g [11, c, 0])), (1, .ref (ga g [10, p, j, w, k]))]) hx hb dX0_isMet_9 rfl hl (by decide) rfl (fun ls hl => ?_)
    refine lv_iload_n hx hb dX0_isMet_10 rfl (lv_at hl 1 rfl) ?_
    refine lv_bipush (v := 100) hx hb dX0_isMet_11 (by decide) ?_
    refine lv_icmp_ne (tgt := 44) hx hb dX0_isMet_13 (by decide) (fun q_ => absurd (by decide) q_) (fun _ => ?_)
    refine lv_iload_n hx hb dX0_isMet_16 rfl (lv_at hl 0 rfl) ?_
    refine lv_if_lt (tgt := 42) hx hb dX0_isMet_17 (by decide) (fun q_ => absurd q_ (fun z_ => absurd ((nI_ltI (a := a) (b := 0) (by omega) (by omega)).mp z_) (by omega))) (fun _ => ?_)
    refine lv_iload_n hx hb dX0_isMet_20 rfl (lv_at hl 0 rfl) ?_
    refine lv_iconst (v := 4) hx hb dX0_isMet_21 (by decide) ?_
    refine lv_icmp_ge (tgt := 42) hx hb dX0_isMet_22 (by decide) (fun q_ => absurd q_ (fun z_ => absurd ((nI_leI (a := 4) (b := a) (by omega) (by omega)).mp z_) (by omega))) (fun _ => ?_)
    refine lv_aload_n hx hb dX0_isMet_25 rfl (lv_at hl 2 rfl) ?_
    refine x_get (C := RX0) (T := TX0) (N := 11) (ci := 0) hx hb hts iu0 hown hK hH (id := [11, c, 0]) (by first | trivial | (simp only [xD]; omega)) rfl rfl (by decide) 1 (by decide) (hts _ tw88) (fun _ h9 => h9) (sX_at _ _ _ _) (v := .ref (ga g [11, c, 1])) rfl dX0_isMet_26 ?_
    refine lv_iload_n hx hb dX0_isMet_29 rfl (lv_at hl 0 rfl) ?_
    refine x_iald hx hb hK hH (id := [11, c, 1]) (by first | trivial | (simp only [xD]; omega)) (L := 4) rfl (sX_at _ _ _ _) a rfl (by omega) (by decide) dX0_isMet_30 ?_
    refine lv_aload_n hx hb dX0_isMet_31 rfl (lv_at hl 3 rfl) ?_
    refine x_get (C := RX1) (T := TX1) (N := 3) (ci := 1) hx hb hts iu1 hown hK hH (id := [10, p, j, w, k]) (by first | trivial | (simp only [xD]; omega)) rfl rfl (by decide) 2 (by decide) (hts _ tw413) (fun _ h9 => h9) rfl (v := .int (I [10, p, j, w, k] 2)) rfl dX0_isMet_32 ?_
    refine lv_icmp_lt (tgt := 42) hx hb dX0_isMet_35 (by decide) (fun c_35 => ?_) (fun c_35 => ?_)
    · skip
      refine lv_iconst (v := 0) hx hb dX0_isMet_42 (by decide) ?_
      exact x_zret hx hb hr hlocks hS dX0_isMet_43 rfl (b01_f (by rw [(sMet_d h0), hcl]; exact decide_eq_false (i_lt_nle c_35))) hH
    · skip
      refine lv_iconst (v := 1) hx hb dX0_isMet_38 (by decide) ?_
      refine lv_goto (tgt := 43) hx hb dX0_isMet_39 (by decide) ?_
      exact x_zret hx hb hr hlocks hS dX0_isMet_43 rfl (b01_t (by rw [(sMet_d h0), hcl]; exact decide_eq_true (i_nlt c_35))) hH
  · skip
    have hcl : (I [10, p, j, w, k] 1).toNatClampNeg = a := by rw [h1]; exact nI_clamp (by omega)
    refine lv_aload_n hx hb dX0_isMet_0 rfl (lv_at hl 1 rfl) ?_
    refine x_get (C := RX1) (T := TX1) (N := 3) (ci := 1) hx hb hts iu1 hown hK hH (id := [10, p, j, w, k]) (by first | trivial | (simp only [xD]; omega)) rfl rfl (by decide) 0 (by decide) (hts _ tw409) (fun _ h9 => h9) rfl (v := .int 108) (congrArg Value.int h0) dX0_isMet_1 ?_
    refine lv_istore_n (lv' := [(2, .int 108), (0, .ref (ga g [11, c, 0])), (1, .ref (ga g [10, p, j, w, k]))]) hx hb dX0_isMet_4 rfl hl (by decide) rfl (fun ls hl => ?_)
    refine lv_aload_n hx hb dX0_isMet_5 rfl (lv_at hl 2 rfl) ?_
    refine x_get (C := RX1) (T := TX1) (N := 3) (ci := 1) hx hb hts iu1 hown hK hH (id := [10, p, j, w, k]) (by first | trivial | (simp only [xD]; omega)) rfl rfl (by decide) 1 (by decide) (hts _ tw411) (fun _ h9 => h9) rfl (v := .int (nI a)) (congrArg Value.int h1) dX0_isMet_6 ?_
    refine lv_istore_n (lv' := [(3, .int (nI a)), (2, .int 108), (0, .ref (ga g [11, c, 0])), (1, .ref (ga g [10, p, j, w, k]))]) hx hb dX0_isMet_9 rfl hl (by decide) rfl (fun ls hl => ?_)
    refine lv_iload_n hx hb dX0_isMet_10 rfl (lv_at hl 1 rfl) ?_
    refine lv_bipush (v := 100) hx hb dX0_isMet_11 (by decide) ?_
    refine lv_icmp_ne (tgt := 44) hx hb dX0_isMet_13 (by decide) (fun _ => ?_) (fun q_ => absurd q_ (by decide))
    refine lv_iload_n hx hb dX0_isMet_44 rfl (lv_at hl 1 rfl) ?_
    refine lv_bipush (v := 108) hx hb dX0_isMet_45 (by decide) ?_
    refine lv_icmp_ne (tgt := 78) hx hb dX0_isMet_47 (by decide) (fun q_ => absurd (by decide) q_) (fun _ => ?_)
    refine lv_iload_n hx hb dX0_isMet_50 rfl (lv_at hl 0 rfl) ?_
    refine lv_if_lt (tgt := 76) hx hb dX0_isMet_51 (by decide) (fun q_ => absurd q_ (fun z_ => absurd ((nI_ltI (a := a) (b := 0) (by omega) (by omega)).mp z_) (by omega))) (fun _ => ?_)
    refine lv_iload_n hx hb dX0_isMet_54 rfl (lv_at hl 0 rfl) ?_
    refine lv_iconst (v := 4) hx hb dX0_isMet_55 (by decide) ?_
    refine lv_icmp_ge (tgt := 76) hx hb dX0_isMet_56 (by decide) (fun q_ => absurd q_ (fun z_ => absurd ((nI_leI (a := 4) (b := a) (by omega) (by omega)).mp z_) (by omega))) (fun _ => ?_)
    refine lv_aload_n hx hb dX0_isMet_59 rfl (lv_at hl 2 rfl) ?_
    refine x_get (C := RX0) (T := TX0) (N := 11) (ci := 0) hx hb hts iu0 hown hK hH (id := [11, c, 0]) (by first | trivial | (simp only [xD]; omega)) rfl rfl (by decide) 1 (by decide) (hts _ tw88) (fun _ h9 => h9) (sX_at _ _ _ _) (v := .ref (ga g [11, c, 1])) rfl dX0_isMet_60 ?_
    refine lv_iload_n hx hb dX0_isMet_63 rfl (lv_at hl 0 rfl) ?_
    refine x_iald hx hb hK hH (id := [11, c, 1]) (by first | trivial | (simp only [xD]; omega)) (L := 4) rfl (sX_at _ _ _ _) a rfl (by omega) (by decide) dX0_isMet_64 ?_
    refine lv_aload_n hx hb dX0_isMet_65 rfl (lv_at hl 3 rfl) ?_
    refine x_get (C := RX1) (T := TX1) (N := 3) (ci := 1) hx hb hts iu1 hown hK hH (id := [10, p, j, w, k]) (by first | trivial | (simp only [xD]; omega)) rfl rfl (by decide) 2 (by decide) (hts _ tw413) (fun _ h9 => h9) rfl (v := .int (I [10, p, j, w, k] 2)) rfl dX0_isMet_66 ?_
    refine lv_icmp_ge (tgt := 76) hx hb dX0_isMet_69 (by decide) (fun c_69 => ?_) (fun c_69 => ?_)
    · skip
      refine lv_iconst (v := 0) hx hb dX0_isMet_76 (by decide) ?_
      exact x_zret hx hb hr hlocks hS dX0_isMet_77 rfl (b01_f (by rw [(sMet_l h0), hcl]; exact decide_eq_false (i_ge c_69))) hH
    · skip
      refine lv_iconst (v := 1) hx hb dX0_isMet_72 (by decide) ?_
      refine lv_goto (tgt := 77) hx hb dX0_isMet_73 (by decide) ?_
      exact x_zret hx hb hr hlocks hS dX0_isMet_77 rfl (b01_t (by rw [(sMet_l h0), hcl]; exact decide_eq_true (i_nle (fun z_ => c_69 z_)))) hH
  · skip
    refine lv_aload_n hx hb dX0_isMet_0 rfl (lv_at hl 1 rfl) ?_
    refine x_get (C := RX1) (T := TX1) (N := 3) (ci := 1) hx hb hts iu1 hown hK hH (id := [10, p, j, w, k]) (by first | trivial | (simp only [xD]; omega)) rfl rfl (by decide) 0 (by decide) (hts _ tw409) (fun _ h9 => h9) rfl (v := .int 101) (congrArg Value.int h0) dX0_isMet_1 ?_
    refine lv_istore_n (lv' := [(2, .int 101), (0, .ref (ga g [11, c, 0])), (1, .ref (ga g [10, p, j, w, k]))]) hx hb dX0_isMet_4 rfl hl (by decide) rfl (fun ls hl => ?_)
    refine lv_aload_n hx hb dX0_isMet_5 rfl (lv_at hl 2 rfl) ?_
    refine x_get (C := RX1) (T := TX1) (N := 3) (ci := 1) hx hb hts iu1 hown hK hH (id := [10, p, j, w, k]) (by first | trivial | (simp only [xD]; omega)) rfl rfl (by decide) 1 (by decide) (hts _ tw411) (fun _ h9 => h9) rfl (v := .int (I [10, p, j, w, k] 1)) rfl dX0_isMet_6 ?_
    refine lv_istore_n (lv' := [(3, .int (I [10, p, j, w, k] 1)), (2, .int 101), (0, .ref (ga g [11, c, 0])), (1, .ref (ga g [10, p, j, w, k]))]) hx hb dX0_isMet_9 rfl hl (by decide) rfl (fun ls hl => ?_)
    refine lv_iload_n hx hb dX0_isMet_10 rfl (lv_at hl 1 rfl) ?_
    refine lv_bipush (v := 100) hx hb dX0_isMet_11 (by decide) ?_
    refine lv_icmp_ne (tgt := 44) hx hb dX0_isMet_13 (by decide) (fun _ => ?_) (fun q_ => absurd q_ (by decide))
    refine lv_iload_n hx hb dX0_isMet_44 rfl (lv_at hl 1 rfl) ?_
    refine lv_bipush (v := 108) hx hb dX0_isMet_45 (by decide) ?_
    refine lv_icmp_ne (tgt := 78) hx hb dX0_isMet_47 (by decide) (fun _ => ?_) (fun q_ => absurd q_ (by decide))
    refine lv_iload_n hx hb dX0_isMet_78 rfl (lv_at hl 1 rfl) ?_
    refine lv_bipush (v := 101) hx hb dX0_isMet_79 (by decide) ?_
    refine lv_icmp_ne (tgt := 98) hx hb dX0_isMet_81 (by decide) (fun q_ => absurd (by decide) q_) (fun _ => ?_)
    refine lv_aload_n hx hb dX0_isMet_84 rfl (lv_at hl 2 rfl) ?_
    refine x_get (C := RX0) (T := TX0) (N := 11) (ci := 0) hx hb hts iu0 hown hK hH (id := [11, c, 0]) (by first | trivial | (simp only [xD]; omega)) rfl rfl (by decide) 8 (by decide) (hts _ tw97) (fun _ h9 => h9) (sX_at _ _ _ _) (v := .int (X 0 8)) rfl dX0_isMet_85 ?_
    refine lv_iload_n hx hb dX0_isMet_88 rfl (lv_at hl 0 rfl) ?_
    refine lv_icmp_ne (tgt := 96) hx hb dX0_isMet_89 (by decide) (fun c_89 => ?_) (fun c_89 => ?_)
    · skip
      refine lv_iconst (v := 0) hx hb dX0_isMet_96 (by decide) ?_
      exact x_zret hx hb hr hlocks hS dX0_isMet_97 rfl (b01_f (by rw [(sMet_e h0)]; exact decide_eq_false (c_89))) hH
    · skip
      refine lv_iconst (v := 1) hx hb dX0_isMet_92 (by decide) ?_
      refine lv_goto (tgt := 97) hx hb dX0_isMet_93 (by decide) ?_
      exact x_zret hx hb hr hlocks hS dX0_isMet_97 rfl (b01_t (by rw [(sMet_e h0)]; exact decide_eq_true (c_89))) hH
  · skip
    have hcl : (I [10, p, j, w, k] 1).toNatClampNeg = a := by rw [h1]; exact nI_clamp (by omega)
    refine lv_aload_n hx hb dX0_isMet_0 rfl (lv_at hl 1 rfl) ?_
    refine x_get (C := RX1) (T := TX1) (N := 3) (ci := 1) hx hb hts iu1 hown hK hH (id := [10, p, j, w, k]) (by first | trivial | (simp only [xD]; omega)) rfl rfl (by decide) 0 (by decide) (hts _ tw409) (fun _ h9 => h9) rfl (v := .int 99) (congrArg Value.int h0) dX0_isMet_1 ?_
    refine lv_istore_n (lv' := [(2, .int 99), (0, .ref (ga g [11, c, 0])), (1, .ref (ga g [10, p, j, w, k]))]) hx hb dX0_isMet_4 rfl hl (by decide) rfl (fun ls hl => ?_)
    refine lv_aload_n hx hb dX0_isMet_5 rfl (lv_at hl 2 rfl) ?_
    refine x_get (C := RX1) (T := TX1) (N := 3) (ci := 1) hx hb hts iu1 hown hK hH (id := [10, p, j, w, k]) (by first | trivial | (simp only [xD]; omega)) rfl rfl (by decide) 1 (by decide) (hts _ tw411) (fun _ h9 => h9) rfl (v := .int (nI a)) (congrArg Value.int h1) dX0_isMet_6 ?_
    refine lv_istore_n (lv' := [(3, .int (nI a)), (2, .int 99), (0, .ref (ga g [11, c, 0])), (1, .ref (ga g [10, p, j, w, k]))]) hx hb dX0_isMet_9 rfl hl (by decide) rfl (fun ls hl => ?_)
    refine lv_iload_n hx hb dX0_isMet_10 rfl (lv_at hl 1 rfl) ?_
    refine lv_bipush (v := 100) hx hb dX0_isMet_11 (by decide) ?_
    refine lv_icmp_ne (tgt := 44) hx hb dX0_isMet_13 (by decide) (fun _ => ?_) (fun q_ => absurd q_ (by decide))
    refine lv_iload_n hx hb dX0_isMet_44 rfl (lv_at hl 1 rfl) ?_
    refine lv_bipush (v := 108) hx hb dX0_isMet_45 (by decide) ?_
    refine lv_icmp_ne (tgt := 78) hx hb dX0_isMet_47 (by decide) (fun _ => ?_) (fun q_ => absurd q_ (by decide))
    refine lv_iload_n hx hb dX0_isMet_78 rfl (lv_at hl 1 rfl) ?_
    refine lv_bipush (v := 101) hx hb dX0_isMet_79 (by decide) ?_
    refine lv_icmp_ne (tgt := 98) hx hb dX0_isMet_81 (by decide) (fun _ => ?_) (fun q_ => absurd q_ (by decide))
    refine lv_iload_n hx hb dX0_isMet_98 rfl (lv_at hl 1 rfl) ?_
    refine lv_bipush (v := 99) hx hb dX0_isMet_99 (by decide) ?_
    refine lv_icmp_ne (tgt := 131) hx hb dX0_isMet_101 (by decide) (fun q_ => absurd (by decide) q_) (fun _ => ?_)
    refine lv_iload_n hx hb dX0_isMet_104 rfl (lv_at hl 0 rfl) ?_
    refine lv_if_lt (tgt := 129) hx hb dX0_isMet_105 (by decide) (fun q_ => absurd q_ (fun z_ => absurd ((nI_ltI (a := a) (b := 0) (by omega) (by omega)).mp z_) (by omega))) (fun _ => ?_)
    refine lv_iload_n hx hb dX0_isMet_108 rfl (lv_at hl 0 rfl) ?_
    refine lv_bipush (v := 8) hx hb dX0_isMet_109 (by decide) ?_
    refine lv_icmp_ge (tgt := 129) hx hb dX0_isMet_111 (by decide) (fun q_ => absurd q_ (fun z_ => absurd ((nI_leI (a := 8) (b := a) (by omega) (by omega)).mp z_) (by omega))) (fun _ => ?_)
    refine lv_aload_n hx hb dX0_isMet_114 rfl (lv_at hl 2 rfl) ?_
    refine x_get (C := RX0) (T := TX0) (N := 11) (ci := 0) hx hb hts iu0 hown hK hH (id := [11, c, 0]) (by first | trivial | (simp only [xD]; omega)) rfl rfl (by decide) 2 (by decide) (hts _ tw89) (fun _ h9 => h9) (sX_at _ _ _ _) (v := .ref (ga g [11, c, 2])) rfl dX0_isMet_115 ?_
    refine lv_iload_n hx hb dX0_isMet_118 rfl (lv_at hl 0 rfl) ?_
    refine x_cald hx hb hK hH (id := [11, c, 2]) (by first | trivial | (simp only [xD]; omega)) (L := 8) rfl (sX_at _ _ _ _) a rfl (by omega) (by decide) dX0_isMet_119 ?_
    refine lv_bipush (v := 99) hx hb dX0_isMet_120 (by decide) ?_
    refine lv_icmp_ne (tgt := 129) hx hb dX0_isMet_122 (by decide) (fun c_122 => ?_) (fun c_122 => ?_)
    · skip
      refine lv_iconst (v := 0) hx hb dX0_isMet_129 (by decide) ?_
      exact x_zret hx hb hr hlocks hS dX0_isMet_130 rfl (b01_f (by rw [(sMet_c h0), hcl]; exact decide_eq_false (c_122))) hH
    · skip
      refine lv_iconst (v := 1) hx hb dX0_isMet_125 (by decide) ?_
      refine lv_goto (tgt := 130) hx hb dX0_isMet_126 (by decide) ?_
      exact x_zret hx hb hr hlocks hS dX0_isMet_130 rfl (b01_t (by rw [(sMet_c h0), hcl]; exact decide_eq_true (c_122))) hH
  · skip
    refine lv_aload_n hx hb dX0_isMet_0 rfl (lv_at hl 1 rfl) ?_
    refine x_get (C := RX1) (T := TX1) (N := 3) (ci := 1) hx hb hts iu1 hown hK hH (id := [10, p, j, w, k]) (by first | trivial | (simp only [xD]; omega)) rfl rfl (by decide) 0 (by decide) (hts _ tw409) (fun _ h9 => h9) rfl (v := .int 116) (congrArg Value.int h0) dX0_isMet_1 ?_
    refine lv_istore_n (lv' := [(2, .int 116), (0, .ref (ga g [11, c, 0])), (1, .ref (ga g [10, p, j, w, k]))]) hx hb dX0_isMet_4 rfl hl (by decide) rfl (fun ls hl => ?_)
    refine lv_aload_n hx hb dX0_isMet_5 rfl (lv_at hl 2 rfl) ?_
    refine x_get (C := RX1) (T := TX1) (N := 3) (ci := 1) hx hb hts iu1 hown hK hH (id := [10, p, j, w, k]) (by first | trivial | (simp only [xD]; omega)) rfl rfl (by decide) 1 (by decide) (hts _ tw411) (fun _ h9 => h9) rfl (v := .int (I [10, p, j, w, k] 1)) rfl dX0_isMet_6 ?_
    refine lv_istore_n (lv' := [(3, .int (I [10, p, j, w, k] 1)), (2, .int 116), (0, .ref (ga g [11, c, 0])), (1, .ref (ga g [10, p, j, w, k]))]) hx hb dX0_isMet_9 rfl hl (by decide) rfl (fun ls hl => ?_)
    refine lv_iload_n hx hb dX0_isMet_10 rfl (lv_at hl 1 rfl) ?_
    refine lv_bipush (v := 100) hx hb dX0_isMet_11 (by decide) ?_
    refine lv_icmp_ne (tgt := 44) hx hb dX0_isMet_13 (by decide) (fun _ => ?_) (fun q_ => absurd q_ (by decide))
    refine lv_iload_n hx hb dX0_isMet_44 rfl (lv_at hl 1 rfl) ?_
    refine lv_bipush (v := 108) hx hb dX0_isMet_45 (by decide) ?_
    refine lv_icmp_ne (tgt := 78) hx hb dX0_isMet_47 (by decide) (fun _ => ?_) (fun q_ => absurd q_ (by decide))
    refine lv_iload_n hx hb dX0_isMet_78 rfl (lv_at hl 1 rfl) ?_
    refine lv_bipush (v := 101) hx hb dX0_isMet_79 (by decide) ?_
    refine lv_icmp_ne (tgt := 98) hx hb dX0_isMet_81 (by decide) (fun _ => ?_) (fun q_ => absurd q_ (by decide))
    refine lv_iload_n hx hb dX0_isMet_98 rfl (lv_at hl 1 rfl) ?_
    refine lv_bipush (v := 99) hx hb dX0_isMet_99 (by decide) ?_
    refine lv_icmp_ne (tgt := 131) hx hb dX0_isMet_101 (by decide) (fun _ => ?_) (fun q_ => absurd q_ (by decide))
    refine lv_iload_n hx hb dX0_isMet_131 rfl (lv_at hl 1 rfl) ?_
    refine lv_bipush (v := 116) hx hb dX0_isMet_132 (by decide) ?_
    refine lv_icmp_ne (tgt := 149) hx hb dX0_isMet_134 (by decide) (fun q_ => absurd (by decide) q_) (fun _ => ?_)
    refine lv_aload_n hx hb dX0_isMet_137 rfl (lv_at hl 2 rfl) ?_
    refine x_get (C := RX0) (T := TX0) (N := 11) (ci := 0) hx hb hts iu0 hown hK hH (id := [11, c, 0]) (by first | trivial | (simp only [xD]; omega)) rfl rfl (by decide) 6 (by decide) (hts _ tw93) (fun _ h9 => h9) (sX_at _ _ _ _) (v := .int (X 0 6)) rfl dX0_isMet_138 ?_
    refine lv_iload_n hx hb dX0_isMet_141 rfl (lv_at hl 0 rfl) ?_
    refine lv_icmp_lt (tgt := 149) hx hb dX0_isMet_142 (by decide) (fun c_142 => ?_) (fun c_142 => ?_)
    · skip
      refine lv_iconst (v := 0) hx hb dX0_isMet_149 (by decide) ?_
      exact x_zret hx hb hr hlocks hS dX0_isMet_150 rfl (b01_f (by rw [(sMet_t h0)]; exact decide_eq_false (i_lt_nle c_142))) hH
    · skip
      refine lv_iconst (v := 1) hx hb dX0_isMet_145 (by decide) ?_
      refine lv_goto (tgt := 150) hx hb dX0_isMet_146 (by decide) ?_
      exact x_zret hx hb hr hlocks hS dX0_isMet_150 rfl (b01_t (by rw [(sMet_t h0)]; exact decide_eq_true (i_nlt c_142))) hH

theorem sAny_mono {C : Nat → Nat → Int32} {X : xX} (a : Nat) : ∀ b, a ≤ b → sAny C X a = true → sAny C X b = true
  | 0, h, q => by rw [show a = 0 by omega] at q; exact q
  | b + 1, h, q => by
    by_cases e : a = b + 1
    · rw [← e]; exact q
    · show (_ || _) = true
      rw [sAny_mono a b (by omega) q]; rfl
set_option maxHeartbeats 1000000 in
set_option maxRecDepth 100000 in
theorem c_X0_anyMet (l : Launch) (g : xG) (h : xS) (I : xI) (n c : Nat) (X : xX) (hc : c < sNc h ∨ c = 4) (p j w : Nat) (hpp : p < sNp h) (hj : j < sSz h p) (h8 : sSz h p ≤ 8) (hw : w < 2) (h3 : sCn h p j w ≤ 3) (hz : I [8, p, j, w] 1 = nI (sCn h p j w)) (hcv : ∀ k, k < sCn h p j w → sCV (I [10, p, j, w, k]) (sSz h p)) : xM l yX0_anyMet (xws yX0_anyMet cX0_anyMet 4 (some FieldType.boolean)) 2 35 g [.ref (ga g [11, c, 0]), .ref (ga g [8, p, j, w])] (xR g (xD h) (sX I c X) (xFh h) n) (some (.int (b01 (sAny (vC I p j w) X (sCn h p j w))))) (xR g (xD h) (sX I c X) (xFh h) n) 0 0 := by
  refine xM.of (by decide) (Nat.le_of_ble_eq_true rfl) ?_
  intro P_ e_ s m_ bl_ mt_ cd_ ls hx hb hr hown hlocks hml hnm hE hK hts hH hS hl
  have hl : lv_has ls 4 [(0, .ref (ga g [11, c, 0])), (1, .ref (ga g [8, p, j, w]))] := hl
  refine lv_iconst (v := 0) hx hb dX0_anyMet_0 (by decide) ?_
  refine lv_istore_n (lv' := [(2, .int 0), (0, .ref (ga g [11, c, 0])), (1, .ref (ga g [8, p, j, w]))]) hx hb dX0_anyMet_1 rfl hl (by decide) rfl (fun ls hl => ?_)
  have L2 : ∀ (fu : Nat) (i : Nat) (H : Heap) (locs : List Loc) (ls : Array Slot), (i ≤ sCn h p j w) → (sAny (vC I p j w) X i = false) → sCn h p j w - i < fu → xR g (xD h) (sX I c X) (xFh h) n H → va_S (gA g) s.heap H locs → lv_has ls 4 [(0, .ref (ga g [11, c, 0])), (1, .ref (ga g [8, p, j, w])), (2, .int (nI i))] → W P_ l e_ { frames := 2, cells := 0, slots := 0, locals := 35 } s m_ ([.ref (ga g [11, c, 0]), .ref (ga g [8, p, j, w])] : List Value).toArray bl_ mt_ cd_ H locs 0 0 (MQ bl_ (xQc g (some (.int (b01 (sAny (vC I p j w) X (sCn h p j w))))) (xR g (xD h) (sX I c X) (xFh h) n)) ([.ref (ga g [11, c, 0]), .ref (ga g [8, p, j, w])] : List Value).toArray s 0 0 (gA g)) (F0 m_ 2 ls []) := by
    intro fu
    induction fu with
    | zero => intro i H locs ls hi ha hfu; exact absurd hfu (Nat.not_lt_zero _)
    | succ fu ih2 =>
      intro i H locs ls hi ha hfu hH hS hl
      refine lv_iload_n hx hb dX0_anyMet_2 rfl (lv_at hl 2 rfl) ?_
      refine lv_aload_n hx hb dX0_anyMet_3 rfl (lv_at hl 1 rfl) ?_
      refine x_get (C := RX2) (T := TX2) (N := 2) (ci := 2) hx hb hts iu2 hown hK hH (id := [8, p, j, w]) (by first | trivial | (simp only [xD]; omega)) rfl rfl (by decide) 1 (by decide) (hts _ tw323) (fun _ h9 => h9) rfl (v := .int (nI (sCn h p j w))) (congrArg Value.int hz) dX0_anyMet_4 ?_
      refine lv_icmp_ge (tgt := 36) hx hb dX0_anyMet_7 (by decide) (fun c_7 => ?_) (fun c_7 => ?_)
      · skip
        have c_7 := (nI_leI (a := (sCn h p j w)) (b := i) (by omega) (by omega)).mp c_7
        refine lv_iconst (v := 0) hx hb dX0_anyMet_36 (by decide) ?_
        exact x_zret hx hb hr hlocks hS dX0_anyMet_37 rfl (b01_f (by have e : sCn h p j w = i := (by omega); rw [e]; exact ha)) hH
      · skip
        have c_7 : ¬ _ := fun z_ => c_7 ((nI_leI (a := (sCn h p j w)) (b := i) (by omega) (by omega)).mpr z_)
        refine lv_aload_n hx hb dX0_anyMet_10 rfl (lv_at hl 1 rfl) ?_
        refine lv_iload_n hx hb dX0_anyMet_11 rfl (lv_at hl 2 rfl) ?_
        refine x_V1 hx hb hml hown hE hS hl.1 cyX2_at tw558 (c_X2_at l g h (sX I c X) n p j w i hpp hj hw (by omega) h3 hz) ⟨Nat.le_of_ble_eq_true rfl, Nat.le_of_ble_eq_true rfl⟩ ⟨Nat.le_of_ble_eq_true rfl, Nat.le_of_ble_eq_true rfl⟩ (x_recv hK hH (id := [8, p, j, w]) (by first | trivial | (simp only [xD]; omega)) (ci := 2) rfl (by decide) rfl) hH rfl rfl (Nat.le_of_ble_eq_true rfl) dX0_anyMet_12 (fun H locs hH hS => ?_)
        refine lv_astore_n (lv' := [(3, .ref (ga g [10, p, j, w, i])), (0, .ref (ga g [11, c, 0])), (1, .ref (ga g [8, p, j, w])), (2, .int (nI i))]) hx hb dX0_anyMet_15 rfl hl (by decide) rfl (fun ls hl => ?_)
        refine lv_aload_n hx hb dX0_anyMet_16 rfl (lv_at hl 0 rfl) ?_
        refine lv_ifnull hx hb dX0_anyMet_17 ?_
        refine lv_aload_n hx hb dX0_anyMet_20 rfl (lv_at hl 1 rfl) ?_
        refine lv_aload_n hx hb dX0_anyMet_21 rfl (lv_at hl 0 rfl) ?_
        refine x_V1 hx hb hml hown hE hS hl.1 cyX0_isMet tw562 (c_X0_isMet l g h I n c X hc p j w i hpp hj h8 hw (by omega) (hcv i (by omega))) ⟨Nat.le_of_ble_eq_true rfl, Nat.le_of_ble_eq_true rfl⟩ ⟨Nat.le_of_ble_eq_true rfl, Nat.le_of_ble_eq_true rfl⟩ (x_recv hK hH (id := [11, c, 0]) (by first | trivial | (simp only [xD]; omega)) (ci := 0) rfl (by decide) rfl) hH rfl rfl (Nat.le_of_ble_eq_true rfl) dX0_anyMet_22 (fun H locs hH hS => ?_)
        refine lv_if_eq (tgt := 30) hx hb dX0_anyMet_25 (by decide) (fun c_25 => ?_) (fun c_25 => ?_)
        · skip
          have hm := (b01_eq0 _).mp c_25
          refine lv_iinc (v := (nI (i + 1))) (lv' := [(2, .int (nI (i + 1))), (3, .ref (ga g [10, p, j, w, i])), (0, .ref (ga g [11, c, 0])), (1, .ref (ga g [8, p, j, w]))]) hx hb dX0_anyMet_30 hl (k := 3) rfl (by first | rfl | exact nI_1 _ | exact nI_add _ _) (by decide) rfl (fun ls hl => ?_)
          refine lv_goto (tgt := 2) hx hb dX0_anyMet_33 (by decide) ?_
          exact ih2 (i + 1) _ _ _ (by omega) (by show (_ || _) = false; rw [ha, show sMet (vC I p j w i) X = false from hm]; rfl) (by omega) hH hS (lv_sub hl [2, 3, 0] rfl)
        · skip
          have hm : sMet (I [10, p, j, w, i]) X = true := by cases hq : sMet (I [10, p, j, w, i]) X; exact absurd ((b01_eq0 _).mpr hq) c_25; rfl
          refine lv_iconst (v := 1) hx hb dX0_anyMet_28 (by decide) ?_
          exact x_zret hx hb hr hlocks hS dX0_anyMet_29 rfl (b01_t (sAny_mono (i + 1) _ (by omega) (by show (_ || _) = true; rw [show sMet (vC I p j w i) X = true from hm]; cases sAny (vC I p j w) X i <;> rfl))) hH
  exact L2 _ 0 _ _ _ (by omega) rfl (Nat.lt_succ_self _) hH hS (lv_sub hl [1, 2, 0] rfl)
end
section
/-! CONTRACTS: a case, small ones -/
theorem nI_m1 {q : Nat} (h : q < 2 ^ 31) : ¬ nI q = -1 := fun e => by
  have a := nI_toInt h
  rw [e] at a
  have b : (-1 : Int32).toInt = -1 := by decide
  omega
theorem xCh.up {X : xX} (h : xCh X) (k : Nat) (v : Int32) (hv : narrow .char (.int v) = .int v) : xCh (up2 X 2 k v) := fun q => by
  by_cases e : q = k
  · subst e; rw [up2_at]; exact hv
  · rw [up2_k _ _ _ e]; exact h q
theorem xCh.off {X : xX} (h : xCh X) {f : Nat} (hf : 2 ≠ f) (k : Nat) (v : Int32) : xCh (up2 X f k v) := fun q => by rw [up2_f _ _ _ hf]; exact h q
set_option maxHeartbeats 1000000 in
set_option maxRecDepth 100000 in
theorem c_X0_isParentActive (l : Launch) (g : xG) (h : xS) (I : xI) (n c : Nat) (X : xX) (hc : c < sNc h ∨ c = 4) (p : Nat) (hp : sPl h c = p) (hpp : p < sNp h) (hW : xWp h I p) (j : Nat) (hj : j < sSz h p) (hch : xCh X) : xM l yX0_isParentActive (xws yX0_isParentActive cX0_isParentActive 2 (some FieldType.boolean)) 2 33 g [.ref (ga g [11, c, 0]), .ref (ga g [7, p, j])] (xR g (xD h) (sX I c X) (xFh h) n) (some (.int (b01 (sPar (vP I p) X j)))) (xR g (xD h) (sX I c X) (xFh h) n) 0 0 := by
  refine xM.of (by decide) (Nat.le_of_ble_eq_true rfl) ?_
  intro P_ e_ s m_ bl_ mt_ cd_ ls hx hb hr hown hlocks hml hnm hE hK hts hH hS hl
  have hl : lv_has ls 2 [(0, .ref (ga g [11, c, 0])), (1, .ref (ga g [7, p, j]))] := hl
  have h8 := hW.1
  rcases (hW.2.2.2 j hj).2.1 with h0 | ⟨q, hq, h1, -⟩
  · skip
    refine lv_aload_n hx hb dX0_isParentActive_0 rfl (lv_at hl 1 rfl) ?_
    refine x_get (C := RX5) (T := TX5) (N := 7) (ci := 5) hx hb hts iu5 hown hK hH (id := [7, p, j]) (by first | trivial | (simp only [xD]; omega)) rfl rfl (by decide) 1 (by decide) (hts _ tw335) (fun _ h9 => h9) rfl (v := .int (-1)) (congrArg Value.int h0) dX0_isParentActive_1 ?_
    refine lv_iconst (v := (-1)) hx hb dX0_isParentActive_4 (by decide) ?_
    refine lv_icmp_eq (tgt := 21) hx hb dX0_isParentActive_5 (by decide) (fun _ => ?_) (fun q_ => absurd (by decide) q_)
    refine lv_iconst (v := 1) hx hb dX0_isParentActive_21 (by decide) ?_
    refine lv_goto (tgt := 26) hx hb dX0_isParentActive_22 (by decide) ?_
    exact x_zret hx hb hr hlocks hS dX0_isParentActive_26 rfl (b01_t (by first | (simp [sPar, vP, h0]; done) | (unfold sPar; rw [hcl]; simp [vP, h1, *]; done) | (unfold sPar; rw [hcl]; rw [decide_eq_false (show ¬ vP I p j 1 = -1 from by rw [show vP I p j 1 = nI q from h1]; exact nI_m1 (by omega))]; simp [*]))) hH
  · skip
    have hcl : (vP I p j 1).toNatClampNeg = q := by rw [show vP I p j 1 = nI q from h1]; exact nI_clamp (by omega)
    refine lv_aload_n hx hb dX0_isParentActive_0 rfl (lv_at hl 1 rfl) ?_
    refine x_get (C := RX5) (T := TX5) (N := 7) (ci := 5) hx hb hts iu5 hown hK hH (id := [7, p, j]) (by first | trivial | (simp only [xD]; omega)) rfl rfl (by decide) 1 (by decide) (hts _ tw335) (fun _ h9 => h9) rfl (v := .int (nI q)) (congrArg Value.int h1) dX0_isParentActive_1 ?_
    refine lv_iconst (v := (-1)) hx hb dX0_isParentActive_4 (by decide) ?_
    refine lv_icmp_eq (tgt := 21) hx hb dX0_isParentActive_5 (by decide) (fun q_ => absurd q_ (nI_m1 (by omega))) (fun _ => ?_)
    refine lv_aload_n hx hb dX0_isParentActive_8 rfl (lv_at hl 0 rfl) ?_
    refine lv_aload_n hx hb dX0_isParentActive_9 rfl (lv_at hl 1 rfl) ?_
    refine x_get (C := RX5) (T := TX5) (N := 7) (ci := 5) hx hb hts iu5 hown hK hH (id := [7, p, j]) (by first | trivial | (simp only [xD]; omega)) rfl rfl (by decide) 1 (by decide) (hts _ tw335) (fun _ h9 => h9) rfl (v := .int (nI q)) (congrArg Value.int h1) dX0_isParentActive_10 ?_
    refine x_V1 hx hb hml hown hE hS hl.1 cyX0_stateOf tw533 (c_X0_stateOf l g h I n c X hc q (by omega) hch) ⟨Nat.le_of_ble_eq_true rfl, Nat.le_of_ble_eq_true rfl⟩ ⟨Nat.le_of_ble_eq_true rfl, Nat.le_of_ble_eq_true rfl⟩ (x_recv hK hH (id := [11, c, 0]) (by first | trivial | (simp only [xD]; omega)) (ci := 0) rfl (by decide) rfl) hH rfl rfl (Nat.le_of_ble_eq_true rfl) dX0_isParentActive_13 (fun H locs hH hS => ?_)
    refine lv_bipush (v := 97) hx hb dX0_isParentActive_16 (by decide) ?_
    refine lv_icmp_ne (tgt := 25) hx hb dX0_isParentActive_18 (by decide) (fun c_18 => ?_) (fun c_18 => ?_)
    · skip
      refine lv_iconst (v := 0) hx hb dX0_isParentActive_25 (by decide) ?_
      exact x_zret hx hb hr hlocks hS dX0_isParentActive_26 rfl (b01_f (by first | (simp [sPar, vP, h0]; done) | (unfold sPar; rw [hcl]; simp [vP, h1, *]; done) | (unfold sPar; rw [hcl]; rw [decide_eq_false (show ¬ vP I p j 1 = -1 from by rw [show vP I p j 1 = nI q from h1]; exact nI_m1 (by omega))]; simp [*]))) hH
    · skip
      refine lv_iconst (v := 1) hx hb dX0_isParentActive_21 (by decide) ?_
      refine lv_goto (tgt := 26) hx hb dX0_isParentActive_22 (by decide) ?_
      exact x_zret hx hb hr hlocks hS dX0_isParentActive_26 rfl (b01_t (by first | (simp [sPar, vP, h0]; done) | (unfold sPar; rw [hcl]; simp [vP, h1, *]; done) | (unfold sPar; rw [hcl]; rw [decide_eq_false (show ¬ vP I p j 1 = -1 from by rw [show vP I p j 1 = nI q from h1]; exact nI_m1 (by omega))]; simp [*]))) hH

set_option maxHeartbeats 1000000 in
set_option maxRecDepth 100000 in
theorem c_X0_putState (l : Launch) (g : xG) (h : xS) (I : xI) (n c : Nat) (X : xX) (hc : c < sNc h ∨ c = 4) (k : Nat) (v : Int32) (hk : k < 8) (hv : narrow .char (.int v) = .int v) : xM l yX0_putState (xws yX0_putState cX0_putState 3 none) 1 12 g [.ref (ga g [11, c, 0]), .int (nI k), .int v] (xR g (xD h) (sX I c X) (xFh h) n) none (xR g (xD h) (sX I c (up2 X 2 k v)) (xFh h) n) 0 0 := by
  refine xM.of (by decide) (Nat.le_of_ble_eq_true rfl) ?_
  intro P_ e_ s m_ bl_ mt_ cd_ ls hx hb hr hown hlocks hml hnm hE hK hts hH hS hl
  have hl : lv_has ls 3 [(0, .ref (ga g [11, c, 0])), (1, .int (nI k)), (2, .int v)] := hl
  refine lv_iload_n hx hb dX0_putState_0 rfl (lv_at hl 1 rfl) ?_
  refine lv_if_lt (tgt := 17) hx hb dX0_putState_1 (by decide) (fun q_ => absurd q_ (fun z_ => absurd ((nI_ltI (a := k) (b := 0) (by omega) (by omega)).mp z_) (by omega))) (fun _ => ?_)
  refine lv_iload_n hx hb dX0_putState_4 rfl (lv_at hl 1 rfl) ?_
  refine lv_bipush (v := 8) hx hb dX0_putState_5 (by decide) ?_
  refine lv_icmp_ge (tgt := 17) hx hb dX0_putState_7 (by decide) (fun q_ => absurd q_ (fun z_ => absurd ((nI_leI (a := 8) (b := k) (by omega) (by omega)).mp z_) (by omega))) (fun _ => ?_)
  refine lv_aload_n hx hb dX0_putState_10 rfl (lv_at hl 0 rfl) ?_
  refine x_get (C := RX0) (T := TX0) (N := 11) (ci := 0) hx hb hts iu0 hown hK hH (id := [11, c, 0]) (by first | trivial | (simp only [xD]; omega)) rfl rfl (by decide) 2 (by decide) (hts _ tw89) (fun _ h9 => h9) (sX_at _ _ _ _) (v := .ref (ga g [11, c, 2])) rfl dX0_putState_11 ?_
  refine lv_iload_n hx hb dX0_putState_14 rfl (lv_at hl 1 rfl) ?_
  refine lv_iload_n hx hb dX0_putState_15 rfl (lv_at hl 2 rfl) ?_
  obtain ⟨X1_, hX1_⟩ : ∃ z, z = up2 X 2 k v := ⟨_, rfl⟩
  refine x_cast hx hb hK hH hS (id := [11, c, 2]) (by first | trivial | (simp only [xD]; omega)) (L := 8) rfl k rfl (by omega) (by decide) hv ((sX_up _ _ _ _ _ _).trans (congrArg (sX I c) hX1_.symm)) dX0_putState_16 (fun H locs hH hS => ?_)
  exact x_vret hx hb hr hlocks hS dX0_putState_17 (by rw [hX1_] at hH; exact hH)

set_option maxHeartbeats 1000000 in
set_option maxRecDepth 100000 in
theorem c_X0_enter (l : Launch) (g : xG) (h : xS) (I : xI) (n c : Nat) (X : xX) (hc : c < sNc h ∨ c = 4) (k : Nat) (kd : Int32) (hk : k < 8) : xM l yX0_enter (xws yX0_enter cX0_enter 3 none) 2 34 g [.ref (ga g [11, c, 0]), .int (nI k), .int kd] (xR g (xD h) (sX I c X) (xFh h) n) none (xR g (xD h) (sX I c (up2 (up2 X 2 k (if kd = 109 then 99 else 97)) 5 k (X 5 k + 1))) (xFh h) n) 0 0 := by
  refine xM.of (by decide) (Nat.le_of_ble_eq_true rfl) ?_
  intro P_ e_ s m_ bl_ mt_ cd_ ls hx hb hr hown hlocks hml hnm hE hK hts hH hS hl
  have hl : lv_has ls 3 [(0, .ref (ga g [11, c, 0])), (1, .int (nI k)), (2, .int kd)] := hl
  refine lv_aload_n hx hb dX0_enter_0 rfl (lv_at hl 0 rfl) ?_
  refine lv_iload_n hx hb dX0_enter_1 rfl (lv_at hl 1 rfl) ?_
  refine lv_iload_n hx hb dX0_enter_2 rfl (lv_at hl 2 rfl) ?_
  refine lv_bipush (v := 109) hx hb dX0_enter_3 (by decide) ?_
  refine lv_icmp_ne (tgt := 13) hx hb dX0_enter_5 (by decide) (fun c_5 => ?_) (fun c_5 => ?_)
  · skip
    refine lv_bipush (v := 97) hx hb dX0_enter_13 (by decide) ?_
    refine x_V0 hx hb hml hown hE hS hl.1 cyX0_putState tw528 (c_X0_putState l g h I n c X hc k 97 (by omega) (by rfl)) ⟨Nat.le_of_ble_eq_true rfl, Nat.le_of_ble_eq_true rfl⟩ ⟨Nat.le_of_ble_eq_true rfl, Nat.le_of_ble_eq_true rfl⟩ (x_recv hK hH (id := [11, c, 0]) (by first | trivial | (simp only [xD]; omega)) (ci := 0) rfl (by decide) rfl) hH rfl rfl (Nat.le_of_ble_eq_true rfl) dX0_enter_15 (fun H locs hH hS => ?_)
    refine lv_iload_n hx hb dX0_enter_18 rfl (lv_at hl 1 rfl) ?_
    refine lv_if_lt (tgt := 38) hx hb dX0_enter_19 (by decide) (fun q_ => absurd q_ (fun z_ => absurd ((nI_ltI (a := k) (b := 0) (by omega) (by omega)).mp z_) (by omega))) (fun _ => ?_)
    refine lv_iload_n hx hb dX0_enter_22 rfl (lv_at hl 1 rfl) ?_
    refine lv_bipush (v := 8) hx hb dX0_enter_23 (by decide) ?_
    refine lv_icmp_ge (tgt := 38) hx hb dX0_enter_25 (by decide) (fun q_ => absurd q_ (fun z_ => absurd ((nI_leI (a := 8) (b := k) (by omega) (by omega)).mp z_) (by omega))) (fun _ => ?_)
    refine lv_aload_n hx hb dX0_enter_28 rfl (lv_at hl 0 rfl) ?_
    refine x_get (C := RX0) (T := TX0) (N := 11) (ci := 0) hx hb hts iu0 hown hK hH (id := [11, c, 0]) (by first | trivial | (simp only [xD]; omega)) rfl rfl (by decide) 5 (by decide) (hts _ tw92) (fun _ h9 => h9) (sX_at _ _ _ _) (v := .ref (ga g [11, c, 5])) rfl dX0_enter_29 ?_
    refine lv_iload_n hx hb dX0_enter_32 rfl (lv_at hl 1 rfl) ?_
    refine lv_dup2_11 hx hb dX0_enter_33 rfl rfl ?_
    refine x_iald hx hb hK hH (id := [11, c, 5]) (by first | trivial | (simp only [xD]; omega)) (L := 8) rfl (sX_at _ _ _ _) k rfl (by omega) (by decide) dX0_enter_34 ?_
    refine lv_iconst (v := 1) hx hb dX0_enter_35 (by decide) ?_
    refine lv_iadd hx hb dX0_enter_36 ?_
    obtain ⟨X1_, hX1_⟩ : ∃ z, z = up2 (up2 X 2 k 97) 5 k (((up2 X 2 k 97) 5 k) + 1) := ⟨_, rfl⟩
    refine x_iast hx hb hK hH hS (id := [11, c, 5]) (by first | trivial | (simp only [xD]; omega)) (L := 8) rfl k rfl (by omega) (by decide) ((sX_up _ _ _ _ _ _).trans (congrArg (sX I c) hX1_.symm)) dX0_enter_37 (fun H locs hH hS => ?_)
    exact x_vret hx hb hr hlocks hS dX0_enter_38 (by rw [hX1_, up2_f _ _ _ (by decide)] at hH; rw [if_neg c_5]; exact hH)
  · skip
    refine lv_bipush (v := 99) hx hb dX0_enter_8 (by decide) ?_
    refine lv_goto (tgt := 15) hx hb dX0_enter_10 (by decide) ?_
    refine x_V0 hx hb hml hown hE hS hl.1 cyX0_putState tw528 (c_X0_putState l g h I n c X hc k 99 (by omega) (by rfl)) ⟨Nat.le_of_ble_eq_true rfl, Nat.le_of_ble_eq_true rfl⟩ ⟨Nat.le_of_ble_eq_true rfl, Nat.le_of_ble_eq_true rfl⟩ (x_recv hK hH (id := [11, c, 0]) (by first | trivial | (simp only [xD]; omega)) (ci := 0) rfl (by decide) rfl) hH rfl rfl (Nat.le_of_ble_eq_true rfl) dX0_enter_15 (fun H locs hH hS => ?_)
    refine lv_iload_n hx hb dX0_enter_18 rfl (lv_at hl 1 rfl) ?_
    refine lv_if_lt (tgt := 38) hx hb dX0_enter_19 (by decide) (fun q_ => absurd q_ (fun z_ => absurd ((nI_ltI (a := k) (b := 0) (by omega) (by omega)).mp z_) (by omega))) (fun _ => ?_)
    refine lv_iload_n hx hb dX0_enter_22 rfl (lv_at hl 1 rfl) ?_
    refine lv_bipush (v := 8) hx hb dX0_enter_23 (by decide) ?_
    refine lv_icmp_ge (tgt := 38) hx hb dX0_enter_25 (by decide) (fun q_ => absurd q_ (fun z_ => absurd ((nI_leI (a := 8) (b := k) (by omega) (by omega)).mp z_) (by omega))) (fun _ => ?_)
    refine lv_aload_n hx hb dX0_enter_28 rfl (lv_at hl 0 rfl) ?_
    refine x_get (C := RX0) (T := TX0) (N := 11) (ci := 0) hx hb hts iu0 hown hK hH (id := [11, c, 0]) (by first | trivial | (simp only [xD]; omega)) rfl rfl (by decide) 5 (by decide) (hts _ tw92) (fun _ h9 => h9) (sX_at _ _ _ _) (v := .ref (ga g [11, c, 5])) rfl dX0_enter_29 ?_
    refine lv_iload_n hx hb dX0_enter_32 rfl (lv_at hl 1 rfl) ?_
    refine lv_dup2_11 hx hb dX0_enter_33 rfl rfl ?_
    refine x_iald hx hb hK hH (id := [11, c, 5]) (by first | trivial | (simp only [xD]; omega)) (L := 8) rfl (sX_at _ _ _ _) k rfl (by omega) (by decide) dX0_enter_34 ?_
    refine lv_iconst (v := 1) hx hb dX0_enter_35 (by decide) ?_
    refine lv_iadd hx hb dX0_enter_36 ?_
    obtain ⟨X2_, hX2_⟩ : ∃ z, z = up2 (up2 X 2 k 99) 5 k (((up2 X 2 k 99) 5 k) + 1) := ⟨_, rfl⟩
    refine x_iast hx hb hK hH hS (id := [11, c, 5]) (by first | trivial | (simp only [xD]; omega)) (L := 8) rfl k rfl (by omega) (by decide) ((sX_up _ _ _ _ _ _).trans (congrArg (sX I c) hX2_.symm)) dX0_enter_37 (fun H locs hH hS => ?_)
    exact x_vret hx hb hr hlocks hS dX0_enter_38 (by rw [hX2_, up2_f _ _ _ (by decide)] at hH; rw [if_pos c_5]; exact hH)

def sAct (P : Nat → Nat → Int32) (X : xX) (j : Nat) : Bool := decide (P j 0 = 116) && decide (X 2 j = 97)
def sUnt (P : Nat → Nat → Int32) (X : xX) (j : Nat) : Int32 := P j 5 - X 4 j + 1
set_option maxHeartbeats 1000000 in
set_option maxRecDepth 100000 in
theorem c_X0_isActiveTask (l : Launch) (g : xG) (h : xS) (I : xI) (n c : Nat) (X : xX) (hc : c < sNc h ∨ c = 4) (p : Nat) (hp : sPl h c = p) (hpp : p < sNp h) (hW : xWp h I p) (j : Nat) (hj : j < sSz h p) (hch : xCh X) : xM l yX0_isActiveTask (xws yX0_isActiveTask cX0_isActiveTask 3 (some FieldType.boolean)) 2 33 g [.ref (ga g [11, c, 0]), .int (nI j)] (xR g (xD h) (sX I c X) (xFh h) n) (some (.int (b01 (sAct (vP I p) X j)))) (xR g (xD h) (sX I c X) (xFh h) n) 0 0 := by
  refine xM.of (by decide) (Nat.le_of_ble_eq_true rfl) ?_
  intro P_ e_ s m_ bl_ mt_ cd_ ls hx hb hr hown hlocks hml hnm hE hK hts hH hS hl
  have hl : lv_has ls 3 [(0, .ref (ga g [11, c, 0])), (1, .int (nI j))] := hl
  have h8 := hW.1
  refine lv_aload_n hx hb dX0_isActiveTask_0 rfl (lv_at hl 0 rfl) ?_
  refine x_get (C := RX0) (T := TX0) (N := 11) (ci := 0) hx hb hts iu0 hown hK hH (id := [11, c, 0]) (by first | trivial | (simp only [xD]; omega)) rfl rfl (by decide) 0 (by decide) (hts _ tw86) (fun _ h9 => h9) (sX_at _ _ _ _) (v := .ref (ga g [5, p])) (by rw [← hp]; rfl) dX0_isActiveTask_1 ?_
  refine lv_iload_n hx hb dX0_isActiveTask_4 rfl (lv_at hl 1 rfl) ?_
  refine x_V1 hx hb hml hown hE hS hl.1 cyX4_stepAt tw532 (c_X4_stepAt l g h (sX I c X) n p j hpp (by omega) hW.1 hW.2.2.1) ⟨Nat.le_of_ble_eq_true rfl, Nat.le_of_ble_eq_true rfl⟩ ⟨Nat.le_of_ble_eq_true rfl, Nat.le_of_ble_eq_true rfl⟩ (x_recv hK hH (id := [5, p]) (by first | trivial | (simp only [xD]; omega)) (ci := 4) rfl (by decide) rfl) hH rfl rfl (Nat.le_of_ble_eq_true rfl) dX0_isActiveTask_5 (fun H locs hH hS => ?_)
  refine lv_astore_n (lv' := [(2, .ref (ga g [7, p, j])), (0, .ref (ga g [11, c, 0])), (1, .int (nI j))]) hx hb dX0_isActiveTask_8 rfl hl (by decide) rfl (fun ls hl => ?_)
  refine lv_aload_n hx hb dX0_isActiveTask_9 rfl (lv_at hl 0 rfl) ?_
  refine lv_ifnull hx hb dX0_isActiveTask_10 ?_
  refine lv_aload_n hx hb dX0_isActiveTask_13 rfl (lv_at hl 0 rfl) ?_
  refine x_get (C := RX5) (T := TX5) (N := 7) (ci := 5) hx hb hts iu5 hown hK hH (id := [7, p, j]) (by first | trivial | (simp only [xD]; omega)) rfl rfl (by decide) 0 (by decide) (hts _ tw333) (fun _ h9 => h9) rfl (v := .int (I [7, p, j] 0)) rfl dX0_isActiveTask_14 ?_
  refine lv_bipush (v := 116) hx hb dX0_isActiveTask_17 (by decide) ?_
  refine lv_icmp_ne (tgt := 36) hx hb dX0_isActiveTask_19 (by decide) (fun c_19 => ?_) (fun c_19 => ?_)
  · skip
    refine lv_iconst (v := 0) hx hb dX0_isActiveTask_36 (by decide) ?_
    exact x_zret hx hb hr hlocks hS dX0_isActiveTask_37 rfl (b01_f (by simp [sAct, vP, *])) hH
  · skip
    refine lv_aload_n hx hb dX0_isActiveTask_22 rfl (lv_at hl 1 rfl) ?_
    refine lv_iload_n hx hb dX0_isActiveTask_23 rfl (lv_at hl 2 rfl) ?_
    refine x_V1 hx hb hml hown hE hS hl.1 cyX0_stateOf tw533 (c_X0_stateOf l g h I n c X hc j (by omega) hch) ⟨Nat.le_of_ble_eq_true rfl, Nat.le_of_ble_eq_true rfl⟩ ⟨Nat.le_of_ble_eq_true rfl, Nat.le_of_ble_eq_true rfl⟩ (x_recv hK hH (id := [11, c, 0]) (by first | trivial | (simp only [xD]; omega)) (ci := 0) rfl (by decide) rfl) hH rfl rfl (Nat.le_of_ble_eq_true rfl) dX0_isActiveTask_24 (fun H locs hH hS => ?_)
    refine lv_bipush (v := 97) hx hb dX0_isActiveTask_27 (by decide) ?_
    refine lv_icmp_ne (tgt := 36) hx hb dX0_isActiveTask_29 (by decide) (fun c_29 => ?_) (fun c_29 => ?_)
    · skip
      refine lv_iconst (v := 0) hx hb dX0_isActiveTask_36 (by decide) ?_
      exact x_zret hx hb hr hlocks hS dX0_isActiveTask_37 rfl (b01_f (by simp [sAct, vP, *])) hH
    · skip
      refine lv_iconst (v := 1) hx hb dX0_isActiveTask_32 (by decide) ?_
      refine lv_goto (tgt := 37) hx hb dX0_isActiveTask_33 (by decide) ?_
      exact x_zret hx hb hr hlocks hS dX0_isActiveTask_37 rfl (b01_t (by simp [sAct, vP, *])) hH

set_option maxHeartbeats 1000000 in
set_option maxRecDepth 100000 in
theorem c_X0_isActiveTask_no (l : Launch) (g : xG) (h : xS) (I : xI) (n c : Nat) (X : xX) (hc : c < sNc h ∨ c = 4) (p : Nat) (hp : sPl h c = p) (hpp : p < sNp h) (hW : xWp h I p) (j : Nat) (hj : sSz h p ≤ j) (hj8 : j < 8) : xM l yX0_isActiveTask (xws yX0_isActiveTask cX0_isActiveTask 3 (some FieldType.boolean)) 2 33 g [.ref (ga g [11, c, 0]), .int (nI j)] (xR g (xD h) (sX I c X) (xFh h) n) (some (.int 0)) (xR g (xD h) (sX I c X) (xFh h) n) 0 0 := by
  refine xM.of (by decide) (Nat.le_of_ble_eq_true rfl) ?_
  intro P_ e_ s m_ bl_ mt_ cd_ ls hx hb hr hown hlocks hml hnm hE hK hts hH hS hl
  have hl : lv_has ls 3 [(0, .ref (ga g [11, c, 0])), (1, .int (nI j))] := hl
  refine lv_aload_n hx hb dX0_isActiveTask_0 rfl (lv_at hl 0 rfl) ?_
  refine x_get (C := RX0) (T := TX0) (N := 11) (ci := 0) hx hb hts iu0 hown hK hH (id := [11, c, 0]) (by first | trivial | (simp only [xD]; omega)) rfl rfl (by decide) 0 (by decide) (hts _ tw86) (fun _ h9 => h9) (sX_at _ _ _ _) (v := .ref (ga g [5, p])) (by rw [← hp]; rfl) dX0_isActiveTask_1 ?_
  refine lv_iload_n hx hb dX0_isActiveTask_4 rfl (lv_at hl 1 rfl) ?_
  refine x_V1 hx hb hml hown hE hS hl.1 cyX4_stepAt tw532 (c_X4_stepAt_no l g h (sX I c X) n p (nI j) (Or.inl hpp) hW.2.2.1 (Or.inr (nI_le hj (by omega)))) ⟨Nat.le_of_ble_eq_true rfl, Nat.le_of_ble_eq_true rfl⟩ ⟨Nat.le_of_ble_eq_true rfl, Nat.le_of_ble_eq_true rfl⟩ (x_recv hK hH (id := [5, p]) (by first | trivial | (simp only [xD]; omega)) (ci := 4) rfl (by decide) rfl) hH rfl rfl (Nat.le_of_ble_eq_true rfl) dX0_isActiveTask_5 (fun H locs hH hS => ?_)
  refine lv_astore_nN (lv' := [(2, .null), (0, .ref (ga g [11, c, 0])), (1, .int (nI j))]) hx hb dX0_isActiveTask_8 rfl hl (by decide) rfl (fun ls hl => ?_)
  refine lv_aload_nN hx hb dX0_isActiveTask_9 rfl (lv_at hl 0 rfl) ?_
  refine lv_ifnullN (tgt := 36) hx hb dX0_isActiveTask_10 (by decide) ?_
  refine lv_iconst (v := 0) hx hb dX0_isActiveTask_36 (by decide) ?_
  exact x_zret hx hb hr hlocks hS dX0_isActiveTask_37 rfl rfl hH

set_option maxHeartbeats 1000000 in
set_option maxRecDepth 100000 in
theorem c_X0_daysUntilLate (l : Launch) (g : xG) (h : xS) (I : xI) (n c : Nat) (X : xX) (hc : c < sNc h ∨ c = 4) (p : Nat) (hp : sPl h c = p) (hpp : p < sNp h) (hW : xWp h I p) (j : Nat) (hj : j < sSz h p)  : xM l yX0_daysUntilLate (xws yX0_daysUntilLate cX0_daysUntilLate 3 (some FieldType.int)) 2 33 g [.ref (ga g [11, c, 0]), .int (nI j)] (xR g (xD h) (sX I c X) (xFh h) n) (some (.int (sUnt (vP I p) X j))) (xR g (xD h) (sX I c X) (xFh h) n) 0 0 := by
  refine xM.of (by decide) (Nat.le_of_ble_eq_true rfl) ?_
  intro P_ e_ s m_ bl_ mt_ cd_ ls hx hb hr hown hlocks hml hnm hE hK hts hH hS hl
  have hl : lv_has ls 3 [(0, .ref (ga g [11, c, 0])), (1, .int (nI j))] := hl
  have h8 := hW.1
  refine lv_aload_n hx hb dX0_daysUntilLate_0 rfl (lv_at hl 0 rfl) ?_
  refine x_get (C := RX0) (T := TX0) (N := 11) (ci := 0) hx hb hts iu0 hown hK hH (id := [11, c, 0]) (by first | trivial | (simp only [xD]; omega)) rfl rfl (by decide) 0 (by decide) (hts _ tw86) (fun _ h9 => h9) (sX_at _ _ _ _) (v := .ref (ga g [5, p])) (by rw [← hp]; rfl) dX0_daysUntilLate_1 ?_
  refine lv_iload_n hx hb dX0_daysUntilLate_4 rfl (lv_at hl 1 rfl) ?_
  refine x_V1 hx hb hml hown hE hS hl.1 cyX4_stepAt tw532 (c_X4_stepAt l g h (sX I c X) n p j hpp (by omega) hW.1 hW.2.2.1) ⟨Nat.le_of_ble_eq_true rfl, Nat.le_of_ble_eq_true rfl⟩ ⟨Nat.le_of_ble_eq_true rfl, Nat.le_of_ble_eq_true rfl⟩ (x_recv hK hH (id := [5, p]) (by first | trivial | (simp only [xD]; omega)) (ci := 4) rfl (by decide) rfl) hH rfl rfl (Nat.le_of_ble_eq_true rfl) dX0_daysUntilLate_5 (fun H locs hH hS => ?_)
  refine lv_astore_n (lv' := [(2, .ref (ga g [7, p, j])), (0, .ref (ga g [11, c, 0])), (1, .int (nI j))]) hx hb dX0_daysUntilLate_8 rfl hl (by decide) rfl (fun ls hl => ?_)
  refine lv_aload_n hx hb dX0_daysUntilLate_9 rfl (lv_at hl 0 rfl) ?_
  refine lv_ifnonnull (tgt := 17) hx hb dX0_daysUntilLate_10 (by decide) ?_
  refine lv_aload_n hx hb dX0_daysUntilLate_17 rfl (lv_at hl 0 rfl) ?_
  refine x_get (C := RX5) (T := TX5) (N := 7) (ci := 5) hx hb hts iu5 hown hK hH (id := [7, p, j]) (by first | trivial | (simp only [xD]; omega)) rfl rfl (by decide) 5 (by decide) (hts _ tw347) (fun _ h9 => h9) rfl (v := .int (I [7, p, j] 5)) rfl dX0_daysUntilLate_18 ?_
  refine lv_aload_n hx hb dX0_daysUntilLate_21 rfl (lv_at hl 1 rfl) ?_
  refine lv_iload_n hx hb dX0_daysUntilLate_22 rfl (lv_at hl 2 rfl) ?_
  refine x_V1 hx hb hml hown hE hS hl.1 cyX0_clockOf tw162 (c_X0_clockOf l g h I n c X hc j (by omega)) ⟨Nat.le_of_ble_eq_true rfl, Nat.le_of_ble_eq_true rfl⟩ ⟨Nat.le_of_ble_eq_true rfl, Nat.le_of_ble_eq_true rfl⟩ (x_recv hK hH (id := [11, c, 0]) (by first | trivial | (simp only [xD]; omega)) (ci := 0) rfl (by decide) rfl) hH rfl rfl (Nat.le_of_ble_eq_true rfl) dX0_daysUntilLate_23 (fun H locs hH hS => ?_)
  refine lv_isub hx hb dX0_daysUntilLate_26 ?_
  refine lv_iconst (v := 1) hx hb dX0_daysUntilLate_27 (by decide) ?_
  refine lv_iadd hx hb dX0_daysUntilLate_28 ?_
  exact x_iret hx hb hr hlocks hS dX0_daysUntilLate_29 rfl hH

theorem sIn_nI {k N : Nat} (h : k < N) (hN : N < 2 ^ 31) : sIn (nI k) 0 (nI N) = true := by
  unfold sIn
  rw [decide_eq_false (nI_pos (by omega)), decide_eq_false (nI_ge h hN)]; rfl
set_option maxHeartbeats 1000000 in
set_option maxRecDepth 100000 in
theorem c_X0_valueOf (l : Launch) (g : xG) (h : xS) (I : xI) (n c : Nat) (X : xX) (hc : c < sNc h ∨ c = 4) (k : Nat) (hk : k < 4) : xM l yX0_valueOf (xws yX0_valueOf cX0_valueOf 2 (some FieldType.int)) 2 32 g [.ref (ga g [11, c, 0]), .int (nI k)] (xR g (xD h) (sX I c X) (xFh h) n) (some (.int (X 1 k))) (xR g (xD h) (sX I c X) (xFh h) n) 0 0 := by
  refine xM.of (by decide) (Nat.le_of_ble_eq_true rfl) ?_
  intro P_ e_ s m_ bl_ mt_ cd_ ls hx hb hr hown hlocks hml hnm hE hK hts hH hS hl
  have hl : lv_has ls 2 [(0, .ref (ga g [11, c, 0])), (1, .int (nI k))] := hl
  refine lv_iload_n hx hb dX0_valueOf_0 rfl (lv_at hl 1 rfl) ?_
  refine x_S1N hx hb hml hown hE hS hl.1 cyX6_isDatum (host := "CasebookSteps") (by first | exact List.mem_cons_self | exact List.mem_cons_of_mem _ List.mem_cons_self | exact List.mem_cons_of_mem _ (List.mem_cons_of_mem _ List.mem_cons_self)) (c_X6_isDatum l g h (sX I c X) n (nI k)) ⟨Nat.le_of_ble_eq_true rfl, Nat.le_of_ble_eq_true rfl⟩ ⟨Nat.le_of_ble_eq_true rfl, Nat.le_of_ble_eq_true rfl⟩ hH rfl rfl (Nat.le_of_ble_eq_true rfl) dX0_valueOf_1 (fun H locs hH hS => ?_)
  refine lv_if_eq (tgt := 16) hx hb dX0_valueOf_4 (by decide) (fun q_ => absurd q_ (by rw [show sIn (nI k) 0 4 = true from sIn_nI (N := 4) hk (by omega)]; decide)) (fun _ => ?_)
  refine lv_aload_n hx hb dX0_valueOf_7 rfl (lv_at hl 0 rfl) ?_
  refine x_get (C := RX0) (T := TX0) (N := 11) (ci := 0) hx hb hts iu0 hown hK hH (id := [11, c, 0]) (by first | trivial | (simp only [xD]; omega)) rfl rfl (by decide) 1 (by decide) (hts _ tw88) (fun _ h9 => h9) (sX_at _ _ _ _) (v := .ref (ga g [11, c, 1])) rfl dX0_valueOf_8 ?_
  refine lv_iload_n hx hb dX0_valueOf_11 rfl (lv_at hl 1 rfl) ?_
  refine x_iald hx hb hK hH (id := [11, c, 1]) (by first | trivial | (simp only [xD]; omega)) (L := 4) rfl (sX_at _ _ _ _) k rfl (by omega) (by decide) dX0_valueOf_12 ?_
  refine lv_goto (tgt := 17) hx hb dX0_valueOf_13 (by decide) ?_
  exact x_iret hx hb hr hlocks hS dX0_valueOf_17 rfl hH

set_option maxHeartbeats 1000000 in
set_option maxRecDepth 100000 in
theorem c_X0_putValue (l : Launch) (g : xG) (h : xS) (I : xI) (n c : Nat) (X : xX) (hc : c < sNc h ∨ c = 4) (k : Nat) (v : Int32) (hk : k < 4) : xM l yX0_putValue (xws yX0_putValue cX0_putValue 3 none) 2 32 g [.ref (ga g [11, c, 0]), .int (nI k), .int v] (xR g (xD h) (sX I c X) (xFh h) n) none (xR g (xD h) (sX I c (up2 X 1 k v)) (xFh h) n) 0 0 := by
  refine xM.of (by decide) (Nat.le_of_ble_eq_true rfl) ?_
  intro P_ e_ s m_ bl_ mt_ cd_ ls hx hb hr hown hlocks hml hnm hE hK hts hH hS hl
  have hl : lv_has ls 3 [(0, .ref (ga g [11, c, 0])), (1, .int (nI k)), (2, .int v)] := hl
  refine lv_iload_n hx hb dX0_putValue_0 rfl (lv_at hl 1 rfl) ?_
  refine x_S1N hx hb hml hown hE hS hl.1 cyX6_isDatum (host := "CasebookSteps") (by first | exact List.mem_cons_self | exact List.mem_cons_of_mem _ List.mem_cons_self | exact List.mem_cons_of_mem _ (List.mem_cons_of_mem _ List.mem_cons_self)) (c_X6_isDatum l g h (sX I c X) n (nI k)) ⟨Nat.le_of_ble_eq_true rfl, Nat.le_of_ble_eq_true rfl⟩ ⟨Nat.le_of_ble_eq_true rfl, Nat.le_of_ble_eq_true rfl⟩ hH rfl rfl (Nat.le_of_ble_eq_true rfl) dX0_putValue_1 (fun H locs hH hS => ?_)
  refine lv_if_eq (tgt := 14) hx hb dX0_putValue_4 (by decide) (fun q_ => absurd q_ (by rw [show sIn (nI k) 0 4 = true from sIn_nI (N := 4) hk (by omega)]; decide)) (fun _ => ?_)
  refine lv_aload_n hx hb dX0_putValue_7 rfl (lv_at hl 0 rfl) ?_
  refine x_get (C := RX0) (T := TX0) (N := 11) (ci := 0) hx hb hts iu0 hown hK hH (id := [11, c, 0]) (by first | trivial | (simp only [xD]; omega)) rfl rfl (by decide) 1 (by decide) (hts _ tw88) (fun _ h9 => h9) (sX_at _ _ _ _) (v := .ref (ga g [11, c, 1])) rfl dX0_putValue_8 ?_
  refine lv_iload_n hx hb dX0_putValue_11 rfl (lv_at hl 1 rfl) ?_
  refine lv_iload_n hx hb dX0_putValue_12 rfl (lv_at hl 2 rfl) ?_
  obtain ⟨X1_, hX1_⟩ : ∃ z, z = up2 X 1 k v := ⟨_, rfl⟩
  refine x_iast hx hb hK hH hS (id := [11, c, 1]) (by first | trivial | (simp only [xD]; omega)) (L := 4) rfl k rfl (by omega) (by decide) ((sX_up _ _ _ _ _ _).trans (congrArg (sX I c) hX1_.symm)) dX0_putValue_13 (fun H locs hH hS => ?_)
  exact x_vret hx hb hr hlocks hS dX0_putValue_14 (by rw [hX1_] at hH; exact hH)

theorem sDon_mono {P : Nat → Nat → Int32} {X : xX} {j : Nat} (a : Nat) : ∀ b, a ≤ b → sDon P X j a = false → sDon P X j b = false
  | 0, h, q => by rw [show a = 0 by omega] at q; exact q
  | b + 1, h, q => by
    by_cases e : a = b + 1
    · rw [← e]; exact q
    · show (_ && _) = false
      rw [sDon_mono a b (by omega) q]; rfl
set_option maxHeartbeats 1000000 in
set_option maxRecDepth 100000 in
theorem c_X0_areChildrenDone (l : Launch) (g : xG) (h : xS) (I : xI) (n c : Nat) (X : xX) (hc : c < sNc h ∨ c = 4) (p : Nat) (hp : sPl h c = p) (hpp : p < sNp h) (hW : xWp h I p) (j : Nat) (hj : j < sSz h p) (hch : xCh X) : xM l yX0_areChildrenDone (xws yX0_areChildrenDone cX0_areChildrenDone 7 (some FieldType.boolean)) 2 33 g [.ref (ga g [11, c, 0]), .int (nI j)] (xR g (xD h) (sX I c X) (xFh h) n) (some (.int (b01 (sHas (vP I p) j (sSz h p) && sDon (vP I p) X j (sSz h p))))) (xR g (xD h) (sX I c X) (xFh h) n) 0 0 := by
  refine xM.of (by decide) (Nat.le_of_ble_eq_true rfl) ?_
  intro P_ e_ s m_ bl_ mt_ cd_ ls hx hb hr hown hlocks hml hnm hE hK hts hH hS hl
  have hl : lv_has ls 7 [(0, .ref (ga g [11, c, 0])), (1, .int (nI j))] := hl
  have h8 := hW.1
  refine lv_iconst (v := 0) hx hb dX0_areChildrenDone_0 (by decide) ?_
  refine lv_istore_n (lv' := [(2, .int 0), (0, .ref (ga g [11, c, 0])), (1, .int (nI j))]) hx hb dX0_areChildrenDone_1 rfl hl (by decide) rfl (fun ls hl => ?_)
  refine lv_iconst (v := 0) hx hb dX0_areChildrenDone_2 (by decide) ?_
  refine lv_istore_n (lv' := [(3, .int 0), (2, .int 0), (0, .ref (ga g [11, c, 0])), (1, .int (nI j))]) hx hb dX0_areChildrenDone_3 rfl hl (by decide) rfl (fun ls hl => ?_)
  have L4 : ∀ (fu : Nat) (i : Nat) (H : Heap) (locs : List Loc) (ls : Array Slot), (i ≤ sSz h p) → (sDon (vP I p) X j i = true) → sSz h p - i < fu → xR g (xD h) (sX I c X) (xFh h) n H → va_S (gA g) s.heap H locs → lv_has ls 7 [(0, .ref (ga g [11, c, 0])), (1, .int (nI j)), (2, .int (b01 (sHas (vP I p) j i))), (3, .int (nI i))] → W P_ l e_ { frames := 2, cells := 0, slots := 0, locals := 33 } s m_ ([.ref (ga g [11, c, 0]), .int (nI j)] : List Value).toArray bl_ mt_ cd_ H locs 0 0 (MQ bl_ (xQc g (some (.int (b01 (sHas (vP I p) j (sSz h p) && sDon (vP I p) X j (sSz h p))))) (xR g (xD h) (sX I c X) (xFh h) n)) ([.ref (ga g [11, c, 0]), .int (nI j)] : List Value).toArray s 0 0 (gA g)) (F0 m_ 4 ls []) := by
    intro fu
    induction fu with
    | zero => intro i H locs ls hi hd hfu; exact absurd hfu (Nat.not_lt_zero _)
    | succ fu ih4 =>
      intro i H locs ls hi hd hfu hH hS hl
      refine lv_iload_n hx hb dX0_areChildrenDone_4 rfl (lv_at hl 3 rfl) ?_
      refine lv_aload_n hx hb dX0_areChildrenDone_5 rfl (lv_at hl 0 rfl) ?_
      refine x_get (C := RX0) (T := TX0) (N := 11) (ci := 0) hx hb hts iu0 hown hK hH (id := [11, c, 0]) (by first | trivial | (simp only [xD]; omega)) rfl rfl (by decide) 0 (by decide) (hts _ tw86) (fun _ h9 => h9) (sX_at _ _ _ _) (v := .ref (ga g [5, p])) (by rw [← hp]; rfl) dX0_areChildrenDone_6 ?_
      refine x_get (C := RX4) (T := TX4) (N := 4) (ci := 4) hx hb hts iu4 hown hK hH (id := [5, p]) (by first | trivial | (simp only [xD]; omega)) rfl rfl (by decide) 2 (by decide) (hts _ tw70) (fun _ h9 => h9) rfl (v := .int (nI (sSz h p))) (congrArg Value.int hW.2.2.1) dX0_areChildrenDone_9 ?_
      refine lv_icmp_ge (tgt := 110) hx hb dX0_areChildrenDone_12 (by decide) (fun c_12 => ?_) (fun c_12 => ?_)
      · skip
        have c_12 := (nI_leI (a := (sSz h p)) (b := i) (by omega) (by omega)).mp c_12
        refine lv_iload_n hx hb dX0_areChildrenDone_110 rfl (lv_at hl 2 rfl) ?_
        exact x_zret hx hb hr hlocks hS dX0_areChildrenDone_111 (b01_nar _) (by have e : sSz h p = i := (by omega); rw [e, hd, Bool.and_true]) hH
      · skip
        have c_12 : ¬ _ := fun z_ => c_12 ((nI_leI (a := (sSz h p)) (b := i) (by omega) (by omega)).mpr z_)
        refine lv_aload_n hx hb dX0_areChildrenDone_15 rfl (lv_at hl 0 rfl) ?_
        refine x_get (C := RX0) (T := TX0) (N := 11) (ci := 0) hx hb hts iu0 hown hK hH (id := [11, c, 0]) (by first | trivial | (simp only [xD]; omega)) rfl rfl (by decide) 0 (by decide) (hts _ tw86) (fun _ h9 => h9) (sX_at _ _ _ _) (v := .ref (ga g [5, p])) (by rw [← hp]; rfl) dX0_areChildrenDone_16 ?_
        refine lv_iload_n hx hb dX0_areChildrenDone_19 rfl (lv_at hl 3 rfl) ?_
        refine x_V1 hx hb hml hown hE hS hl.1 cyX4_stepAt tw532 (c_X4_stepAt l g h (sX I c X) n p i hpp (by omega) hW.1 hW.2.2.1) ⟨Nat.le_of_ble_eq_true rfl, Nat.le_of_ble_eq_true rfl⟩ ⟨Nat.le_of_ble_eq_true rfl, Nat.le_of_ble_eq_true rfl⟩ (x_recv hK hH (id := [5, p]) (by first | trivial | (simp only [xD]; omega)) (ci := 4) rfl (by decide) rfl) hH rfl rfl (Nat.le_of_ble_eq_true rfl) dX0_areChildrenDone_20 (fun H locs hH hS => ?_)
        refine lv_astore (lv' := [(4, .ref (ga g [7, p, i])), (0, .ref (ga g [11, c, 0])), (1, .int (nI j)), (2, .int (b01 (sHas (vP I p) j i))), (3, .int (nI i))]) hx hb dX0_areChildrenDone_23 hl (by decide) rfl (fun ls hl => ?_)
        refine lv_aload hx hb dX0_areChildrenDone_25 (lv_at hl 0 rfl) ?_
        refine lv_ifnull hx hb dX0_areChildrenDone_27 ?_
        refine lv_aload hx hb dX0_areChildrenDone_30 (lv_at hl 0 rfl) ?_
        refine x_get (C := RX5) (T := TX5) (N := 7) (ci := 5) hx hb hts iu5 hown hK hH (id := [7, p, i]) (by first | trivial | (simp only [xD]; omega)) rfl rfl (by decide) 1 (by decide) (hts _ tw335) (fun _ h9 => h9) rfl (v := .int (I [7, p, i] 1)) rfl dX0_areChildrenDone_32 ?_
        refine lv_iload_n hx hb dX0_areChildrenDone_35 rfl (lv_at hl 2 rfl) ?_
        refine lv_icmp_eq (tgt := 42) hx hb dX0_areChildrenDone_36 (by decide) (fun c_36 => ?_) (fun c_36 => ?_)
        · skip
          refine lv_iconst (v := 1) hx hb dX0_areChildrenDone_42 (by decide) ?_
          refine lv_istore_n (lv' := [(2, .int 1), (4, .ref (ga g [7, p, i])), (0, .ref (ga g [11, c, 0])), (1, .int (nI j)), (3, .int (nI i))]) hx hb dX0_areChildrenDone_43 rfl hl (by decide) rfl (fun ls hl => ?_)
          refine lv_aload_n hx hb dX0_areChildrenDone_44 rfl (lv_at hl 2 rfl) ?_
          refine lv_iload_n hx hb dX0_areChildrenDone_45 rfl (lv_at hl 4 rfl) ?_
          refine x_V1 hx hb hml hown hE hS hl.1 cyX0_stateOf tw533 (c_X0_stateOf l g h I n c X hc i (by omega) hch) ⟨Nat.le_of_ble_eq_true rfl, Nat.le_of_ble_eq_true rfl⟩ ⟨Nat.le_of_ble_eq_true rfl, Nat.le_of_ble_eq_true rfl⟩ (x_recv hK hH (id := [11, c, 0]) (by first | trivial | (simp only [xD]; omega)) (ci := 0) rfl (by decide) rfl) hH rfl rfl (Nat.le_of_ble_eq_true rfl) dX0_areChildrenDone_46 (fun H locs hH hS => ?_)
          refine lv_istore (lv' := [(5, .int (X 2 i)), (2, .int 1), (4, .ref (ga g [7, p, i])), (0, .ref (ga g [11, c, 0])), (1, .int (nI j)), (3, .int (nI i))]) hx hb dX0_areChildrenDone_49 hl (by decide) rfl (fun ls hl => ?_)
          refine lv_iload hx hb dX0_areChildrenDone_51 (lv_at hl 0 rfl) ?_
          refine lv_bipush (v := 105) hx hb dX0_areChildrenDone_53 (by decide) ?_
          refine lv_icmp_ne (tgt := 80) hx hb dX0_areChildrenDone_55 (by decide) (fun c_55 => ?_) (fun c_55 => ?_)
          · skip
            refine lv_iconst (v := 0) hx hb dX0_areChildrenDone_80 (by decide) ?_
            refine lv_istore (lv' := [(6, .int 0), (5, .int (X 2 i)), (2, .int 1), (4, .ref (ga g [7, p, i])), (0, .ref (ga g [11, c, 0])), (1, .int (nI j)), (3, .int (nI i))]) hx hb dX0_areChildrenDone_81 hl (by decide) rfl (fun ls hl => ?_)
            refine lv_iload hx hb dX0_areChildrenDone_83 (lv_at hl 1 rfl) ?_
            refine lv_bipush (v := 99) hx hb dX0_areChildrenDone_85 (by decide) ?_
            refine lv_icmp_eq (tgt := 104) hx hb dX0_areChildrenDone_87 (by decide) (fun c_87 => ?_) (fun c_87 => ?_)
            · skip
              refine lv_iinc (v := (nI (i + 1))) (lv' := [(3, .int (nI (i + 1))), (6, .int 0), (5, .int (X 2 i)), (2, .int 1), (4, .ref (ga g [7, p, i])), (0, .ref (ga g [11, c, 0])), (1, .int (nI j))]) hx hb dX0_areChildrenDone_104 hl (k := 6) rfl (by first | rfl | exact nI_1 _ | exact nI_add _ _) (by decide) rfl (fun ls hl => ?_)
              refine lv_goto (tgt := 4) hx hb dX0_areChildrenDone_107 (by decide) ?_
              exact ih4 (i + 1) _ _ _ (by omega) (by first | exact absurd (c_55.symm.trans c_87) (by decide) | exact absurd (c_55.symm.trans c_94) (by decide) | (show (_ && (_ || _)) = true; rw [hd]; simp [sOpt, vP, *])) (by omega) hH hS (lv_sub hl [5, 6, 3, 0] (by first | rfl | (show _ = [_, _, _, _]; simp only [lv_pick, List.filterMap_cons, List.filterMap_nil]; simp [sHas, b01, vP, *])))
            · skip
              refine lv_iload hx hb dX0_areChildrenDone_90 (lv_at hl 1 rfl) ?_
              refine lv_bipush (v := 120) hx hb dX0_areChildrenDone_92 (by decide) ?_
              refine lv_icmp_eq (tgt := 104) hx hb dX0_areChildrenDone_94 (by decide) (fun c_94 => ?_) (fun c_94 => ?_)
              · skip
                refine lv_iinc (v := (nI (i + 1))) (lv' := [(3, .int (nI (i + 1))), (6, .int 0), (5, .int (X 2 i)), (2, .int 1), (4, .ref (ga g [7, p, i])), (0, .ref (ga g [11, c, 0])), (1, .int (nI j))]) hx hb dX0_areChildrenDone_104 hl (k := 6) rfl (by first | rfl | exact nI_1 _ | exact nI_add _ _) (by decide) rfl (fun ls hl => ?_)
                refine lv_goto (tgt := 4) hx hb dX0_areChildrenDone_107 (by decide) ?_
                exact ih4 (i + 1) _ _ _ (by omega) (by first | exact absurd (c_55.symm.trans c_87) (by decide) | exact absurd (c_55.symm.trans c_94) (by decide) | (show (_ && (_ || _)) = true; rw [hd]; simp [sOpt, vP, *])) (by omega) hH hS (lv_sub hl [5, 6, 3, 0] (by first | rfl | (show _ = [_, _, _, _]; simp only [lv_pick, List.filterMap_cons, List.filterMap_nil]; simp [sHas, b01, vP, *])))
              · skip
                refine lv_iload hx hb dX0_areChildrenDone_97 (lv_at hl 0 rfl) ?_
                refine lv_if_ne (tgt := 104) hx hb dX0_areChildrenDone_99 (by decide) (fun q_ => absurd (by decide) q_) (fun _ => ?_)
                refine lv_iconst (v := 0) hx hb dX0_areChildrenDone_102 (by decide) ?_
                exact x_zret hx hb hr hlocks hS dX0_areChildrenDone_103 rfl (b01_f (by rw [sDon_mono (i + 1) _ (by omega) (show (_ && (_ || _)) = false from by rw [hd]; simp [sOpt, vP, *])]; exact Bool.and_false _)) hH
          · skip
            refine lv_aload hx hb dX0_areChildrenDone_58 (lv_at hl 2 rfl) ?_
            refine x_get (C := RX5) (T := TX5) (N := 7) (ci := 5) hx hb hts iu5 hown hK hH (id := [7, p, i]) (by first | trivial | (simp only [xD]; omega)) rfl rfl (by decide) 0 (by decide) (hts _ tw333) (fun _ h9 => h9) rfl (v := .int (I [7, p, i] 0)) rfl dX0_areChildrenDone_60 ?_
            refine lv_bipush (v := 116) hx hb dX0_areChildrenDone_63 (by decide) ?_
            refine lv_icmp_ne (tgt := 80) hx hb dX0_areChildrenDone_65 (by decide) (fun c_65 => ?_) (fun c_65 => ?_)
            · skip
              refine lv_iconst (v := 0) hx hb dX0_areChildrenDone_80 (by decide) ?_
              refine lv_istore (lv' := [(6, .int 0), (5, .int (X 2 i)), (2, .int 1), (4, .ref (ga g [7, p, i])), (0, .ref (ga g [11, c, 0])), (1, .int (nI j)), (3, .int (nI i))]) hx hb dX0_areChildrenDone_81 hl (by decide) rfl (fun ls hl => ?_)
              refine lv_iload hx hb dX0_areChildrenDone_83 (lv_at hl 1 rfl) ?_
              refine lv_bipush (v := 99) hx hb dX0_areChildrenDone_85 (by decide) ?_
              refine lv_icmp_eq (tgt := 104) hx hb dX0_areChildrenDone_87 (by decide) (fun c_87 => ?_) (fun c_87 => ?_)
              · skip
                refine lv_iinc (v := (nI (i + 1))) (lv' := [(3, .int (nI (i + 1))), (6, .int 0), (5, .int (X 2 i)), (2, .int 1), (4, .ref (ga g [7, p, i])), (0, .ref (ga g [11, c, 0])), (1, .int (nI j))]) hx hb dX0_areChildrenDone_104 hl (k := 6) rfl (by first | rfl | exact nI_1 _ | exact nI_add _ _) (by decide) rfl (fun ls hl => ?_)
                refine lv_goto (tgt := 4) hx hb dX0_areChildrenDone_107 (by decide) ?_
                exact ih4 (i + 1) _ _ _ (by omega) (by first | exact absurd (c_55.symm.trans c_87) (by decide) | exact absurd (c_55.symm.trans c_94) (by decide) | (show (_ && (_ || _)) = true; rw [hd]; simp [sOpt, vP, *])) (by omega) hH hS (lv_sub hl [5, 6, 3, 0] (by first | rfl | (show _ = [_, _, _, _]; simp only [lv_pick, List.filterMap_cons, List.filterMap_nil]; simp [sHas, b01, vP, *])))
              · skip
                refine lv_iload hx hb dX0_areChildrenDone_90 (lv_at hl 1 rfl) ?_
                refine lv_bipush (v := 120) hx hb dX0_areChildrenDone_92 (by decide) ?_
                refine lv_icmp_eq (tgt := 104) hx hb dX0_areChildrenDone_94 (by decide) (fun c_94 => ?_) (fun c_94 => ?_)
                · skip
                  refine lv_iinc (v := (nI (i + 1))) (lv' := [(3, .int (nI (i + 1))), (6, .int 0), (5, .int (X 2 i)), (2, .int 1), (4, .ref (ga g [7, p, i])), (0, .ref (ga g [11, c, 0])), (1, .int (nI j))]) hx hb dX0_areChildrenDone_104 hl (k := 6) rfl (by first | rfl | exact nI_1 _ | exact nI_add _ _) (by decide) rfl (fun ls hl => ?_)
                  refine lv_goto (tgt := 4) hx hb dX0_areChildrenDone_107 (by decide) ?_
                  exact ih4 (i + 1) _ _ _ (by omega) (by first | exact absurd (c_55.symm.trans c_87) (by decide) | exact absurd (c_55.symm.trans c_94) (by decide) | (show (_ && (_ || _)) = true; rw [hd]; simp [sOpt, vP, *])) (by omega) hH hS (lv_sub hl [5, 6, 3, 0] (by first | rfl | (show _ = [_, _, _, _]; simp only [lv_pick, List.filterMap_cons, List.filterMap_nil]; simp [sHas, b01, vP, *])))
                · skip
                  refine lv_iload hx hb dX0_areChildrenDone_97 (lv_at hl 0 rfl) ?_
                  refine lv_if_ne (tgt := 104) hx hb dX0_areChildrenDone_99 (by decide) (fun q_ => absurd (by decide) q_) (fun _ => ?_)
                  refine lv_iconst (v := 0) hx hb dX0_areChildrenDone_102 (by decide) ?_
                  exact x_zret hx hb hr hlocks hS dX0_areChildrenDone_103 rfl (b01_f (by rw [sDon_mono (i + 1) _ (by omega) (show (_ && (_ || _)) = false from by rw [hd]; simp [sOpt, vP, *])]; exact Bool.and_false _)) hH
            · skip
              refine lv_aload hx hb dX0_areChildrenDone_68 (lv_at hl 2 rfl) ?_
              refine x_get (C := RX5) (T := TX5) (N := 7) (ci := 5) hx hb hts iu5 hown hK hH (id := [7, p, i]) (by first | trivial | (simp only [xD]; omega)) rfl rfl (by decide) 4 (by decide) (hts _ tw344) (fun _ h9 => h9) rfl (v := .int (I [7, p, i] 4)) rfl dX0_areChildrenDone_70 ?_
              refine lv_if_ne (tgt := 80) hx hb dX0_areChildrenDone_73 (by decide) (fun c_73 => ?_) (fun c_73 => ?_)
              · skip
                refine lv_iconst (v := 0) hx hb dX0_areChildrenDone_80 (by decide) ?_
                refine lv_istore (lv' := [(6, .int 0), (5, .int (X 2 i)), (2, .int 1), (4, .ref (ga g [7, p, i])), (0, .ref (ga g [11, c, 0])), (1, .int (nI j)), (3, .int (nI i))]) hx hb dX0_areChildrenDone_81 hl (by decide) rfl (fun ls hl => ?_)
                refine lv_iload hx hb dX0_areChildrenDone_83 (lv_at hl 1 rfl) ?_
                refine lv_bipush (v := 99) hx hb dX0_areChildrenDone_85 (by decide) ?_
                refine lv_icmp_eq (tgt := 104) hx hb dX0_areChildrenDone_87 (by decide) (fun c_87 => ?_) (fun c_87 => ?_)
                · skip
                  refine lv_iinc (v := (nI (i + 1))) (lv' := [(3, .int (nI (i + 1))), (6, .int 0), (5, .int (X 2 i)), (2, .int 1), (4, .ref (ga g [7, p, i])), (0, .ref (ga g [11, c, 0])), (1, .int (nI j))]) hx hb dX0_areChildrenDone_104 hl (k := 6) rfl (by first | rfl | exact nI_1 _ | exact nI_add _ _) (by decide) rfl (fun ls hl => ?_)
                  refine lv_goto (tgt := 4) hx hb dX0_areChildrenDone_107 (by decide) ?_
                  exact ih4 (i + 1) _ _ _ (by omega) (by first | exact absurd (c_55.symm.trans c_87) (by decide) | exact absurd (c_55.symm.trans c_94) (by decide) | (show (_ && (_ || _)) = true; rw [hd]; simp [sOpt, vP, *])) (by omega) hH hS (lv_sub hl [5, 6, 3, 0] (by first | rfl | (show _ = [_, _, _, _]; simp only [lv_pick, List.filterMap_cons, List.filterMap_nil]; simp [sHas, b01, vP, *])))
                · skip
                  refine lv_iload hx hb dX0_areChildrenDone_90 (lv_at hl 1 rfl) ?_
                  refine lv_bipush (v := 120) hx hb dX0_areChildrenDone_92 (by decide) ?_
                  refine lv_icmp_eq (tgt := 104) hx hb dX0_areChildrenDone_94 (by decide) (fun c_94 => ?_) (fun c_94 => ?_)
                  · skip
                    refine lv_iinc (v := (nI (i + 1))) (lv' := [(3, .int (nI (i + 1))), (6, .int 0), (5, .int (X 2 i)), (2, .int 1), (4, .ref (ga g [7, p, i])), (0, .ref (ga g [11, c, 0])), (1, .int (nI j))]) hx hb dX0_areChildrenDone_104 hl (k := 6) rfl (by first | rfl | exact nI_1 _ | exact nI_add _ _) (by decide) rfl (fun ls hl => ?_)
                    refine lv_goto (tgt := 4) hx hb dX0_areChildrenDone_107 (by decide) ?_
                    exact ih4 (i + 1) _ _ _ (by omega) (by first | exact absurd (c_55.symm.trans c_87) (by decide) | exact absurd (c_55.symm.trans c_94) (by decide) | (show (_ && (_ || _)) = true; rw [hd]; simp [sOpt, vP, *])) (by omega) hH hS (lv_sub hl [5, 6, 3, 0] (by first | rfl | (show _ = [_, _, _, _]; simp only [lv_pick, List.filterMap_cons, List.filterMap_nil]; simp [sHas, b01, vP, *])))
                  · skip
                    refine lv_iload hx hb dX0_areChildrenDone_97 (lv_at hl 0 rfl) ?_
                    refine lv_if_ne (tgt := 104) hx hb dX0_areChildrenDone_99 (by decide) (fun q_ => absurd (by decide) q_) (fun _ => ?_)
                    refine lv_iconst (v := 0) hx hb dX0_areChildrenDone_102 (by decide) ?_
                    exact x_zret hx hb hr hlocks hS dX0_areChildrenDone_103 rfl (b01_f (by rw [sDon_mono (i + 1) _ (by omega) (show (_ && (_ || _)) = false from by rw [hd]; simp [sOpt, vP, *])]; exact Bool.and_false _)) hH
              · skip
                refine lv_iconst (v := 1) hx hb dX0_areChildrenDone_76 (by decide) ?_
                refine lv_goto (tgt := 81) hx hb dX0_areChildrenDone_77 (by decide) ?_
                refine lv_istore (lv' := [(6, .int 1), (5, .int (X 2 i)), (2, .int 1), (4, .ref (ga g [7, p, i])), (0, .ref (ga g [11, c, 0])), (1, .int (nI j)), (3, .int (nI i))]) hx hb dX0_areChildrenDone_81 hl (by decide) rfl (fun ls hl => ?_)
                refine lv_iload hx hb dX0_areChildrenDone_83 (lv_at hl 1 rfl) ?_
                refine lv_bipush (v := 99) hx hb dX0_areChildrenDone_85 (by decide) ?_
                refine lv_icmp_eq (tgt := 104) hx hb dX0_areChildrenDone_87 (by decide) (fun c_87 => ?_) (fun c_87 => ?_)
                · skip
                  refine lv_iinc (v := (nI (i + 1))) (lv' := [(3, .int (nI (i + 1))), (6, .int 1), (5, .int (X 2 i)), (2, .int 1), (4, .ref (ga g [7, p, i])), (0, .ref (ga g [11, c, 0])), (1, .int (nI j))]) hx hb dX0_areChildrenDone_104 hl (k := 6) rfl (by first | rfl | exact nI_1 _ | exact nI_add _ _) (by decide) rfl (fun ls hl => ?_)
                  refine lv_goto (tgt := 4) hx hb dX0_areChildrenDone_107 (by decide) ?_
                  exact ih4 (i + 1) _ _ _ (by omega) (by first | exact absurd (c_55.symm.trans c_87) (by decide) | exact absurd (c_55.symm.trans c_94) (by decide) | (show (_ && (_ || _)) = true; rw [hd]; simp [sOpt, vP, *])) (by omega) hH hS (lv_sub hl [5, 6, 3, 0] (by first | rfl | (show _ = [_, _, _, _]; simp only [lv_pick, List.filterMap_cons, List.filterMap_nil]; simp [sHas, b01, vP, *])))
                · skip
                  refine lv_iload hx hb dX0_areChildrenDone_90 (lv_at hl 1 rfl) ?_
                  refine lv_bipush (v := 120) hx hb dX0_areChildrenDone_92 (by decide) ?_
                  refine lv_icmp_eq (tgt := 104) hx hb dX0_areChildrenDone_94 (by decide) (fun c_94 => ?_) (fun c_94 => ?_)
                  · skip
                    refine lv_iinc (v := (nI (i + 1))) (lv' := [(3, .int (nI (i + 1))), (6, .int 1), (5, .int (X 2 i)), (2, .int 1), (4, .ref (ga g [7, p, i])), (0, .ref (ga g [11, c, 0])), (1, .int (nI j))]) hx hb dX0_areChildrenDone_104 hl (k := 6) rfl (by first | rfl | exact nI_1 _ | exact nI_add _ _) (by decide) rfl (fun ls hl => ?_)
                    refine lv_goto (tgt := 4) hx hb dX0_areChildrenDone_107 (by decide) ?_
                    exact ih4 (i + 1) _ _ _ (by omega) (by first | exact absurd (c_55.symm.trans c_87) (by decide) | exact absurd (c_55.symm.trans c_94) (by decide) | (show (_ && (_ || _)) = true; rw [hd]; simp [sOpt, vP, *])) (by omega) hH hS (lv_sub hl [5, 6, 3, 0] (by first | rfl | (show _ = [_, _, _, _]; simp only [lv_pick, List.filterMap_cons, List.filterMap_nil]; simp [sHas, b01, vP, *])))
                  · skip
                    refine lv_iload hx hb dX0_areChildrenDone_97 (lv_at hl 0 rfl) ?_
                    refine lv_if_ne (tgt := 104) hx hb dX0_areChildrenDone_99 (by decide) (fun _ => ?_) (fun q_ => absurd q_ (by decide))
                    refine lv_iinc (v := (nI (i + 1))) (lv' := [(3, .int (nI (i + 1))), (6, .int 1), (5, .int (X 2 i)), (2, .int 1), (4, .ref (ga g [7, p, i])), (0, .ref (ga g [11, c, 0])), (1, .int (nI j))]) hx hb dX0_areChildrenDone_104 hl (k := 6) rfl (by first | rfl | exact nI_1 _ | exact nI_add _ _) (by decide) rfl (fun ls hl => ?_)
                    refine lv_goto (tgt := 4) hx hb dX0_areChildrenDone_107 (by decide) ?_
                    exact ih4 (i + 1) _ _ _ (by omega) (by first | exact absurd (c_55.symm.trans c_87) (by decide) | exact absurd (c_55.symm.trans c_94) (by decide) | (show (_ && (_ || _)) = true; rw [hd]; simp [sOpt, vP, *])) (by omega) hH hS (lv_sub hl [5, 6, 3, 0] (by first | rfl | (show _ = [_, _, _, _]; simp only [lv_pick, List.filterMap_cons, List.filterMap_nil]; simp [sHas, b01, vP, *])))
        · skip
          refine lv_goto (tgt := 104) hx hb dX0_areChildrenDone_39 (by decide) ?_
          refine lv_iinc (v := (nI (i + 1))) (lv' := [(3, .int (nI (i + 1))), (4, .ref (ga g [7, p, i])), (0, .ref (ga g [11, c, 0])), (1, .int (nI j)), (2, .int (b01 (sHas (vP I p) j i)))]) hx hb dX0_areChildrenDone_104 hl (k := 4) rfl (by first | rfl | exact nI_1 _ | exact nI_add _ _) (by decide) rfl (fun ls hl => ?_)
          refine lv_goto (tgt := 4) hx hb dX0_areChildrenDone_107 (by decide) ?_
          exact ih4 (i + 1) _ _ _ (by omega) (by show (_ && (_ || _)) = true; rw [hd]; simp [vP, *]) (by omega) hH hS (lv_sub hl [2, 3, 4, 0] (by first | rfl | (show _ = [_, _, _, _]; simp only [lv_pick, List.filterMap_cons, List.filterMap_nil]; simp [sHas, b01, vP, *])))
  exact L4 _ 0 _ _ _ (by omega) rfl (Nat.lt_succ_self _) hH hS (lv_sub hl [2, 3, 1, 0] (by first | rfl | (show _ = [_, _, _, _]; simp only [lv_pick, List.filterMap_cons, List.filterMap_nil]; simp [sHas, b01, vP, *])))
end
section
/-! CONTRACTS: the end of a step, the rules -/
def sT (P : Nat → Nat → Int32) (X : xX) (j : Nat) (v : Int32) (i : Nat) : (Nat → Int32) × (Nat → Bool) := sFins P (j + 1) (i - (j + 1)) (fun k => if k = j then v else X 2 k, fun k => decide (k = j))
def sTX (P : Nat → Nat → Int32) (X : xX) (j : Nat) (v : Int32) (i : Nat) : xX := fun f => if f = 2 then (sT P X j v i).1 else X f
theorem sT_0 (P : Nat → Nat → Int32) (X : xX) (j : Nat) (v : Int32) : sT P X j v (j + 1) = (fun k => if k = j then v else X 2 k, fun k => decide (k = j)) := by simp [sT, sFins]
theorem sT_s (P : Nat → Nat → Int32) (X : xX) {j i : Nat} (v : Int32) (h : j + 1 ≤ i) : sT P X j v (i + 1) = sFin P i (sT P X j v i) := by
  unfold sT
  rw [show i + 1 - (j + 1) = (i - (j + 1)) + 1 by omega]
  show sFin P (j + 1 + (i - (j + 1))) _ = _
  rw [show j + 1 + (i - (j + 1)) = i by omega]
theorem sTX_0 (P : Nat → Nat → Int32) (X : xX) (j : Nat) (v : Int32) : sTX P X j v (j + 1) = up2 X 2 j v := by
  funext f k
  unfold sTX
  rw [sT_0]
  by_cases e : f = 2
  · subst e; by_cases e2 : k = j <;> simp [up2, e2]
  · simp [up2, e]
theorem sT_no {P : Nat → Nat → Int32} {X : xX} {j i : Nat} {v : Int32} (h : j + 1 ≤ i) (hn : ¬ (P i 1 ≠ -1 ∧ (sT P X j v i).2 (P i 1).toNatClampNeg = true ∧ ((sT P X j v i).1 i = 105 ∨ (sT P X j v i).1 i = 97))) : sT P X j v (i + 1) = sT P X j v i := by
  rw [sT_s _ _ _ h, sFin, if_neg hn]
theorem sT_yes {P : Nat → Nat → Int32} {X : xX} {j i : Nat} {v : Int32} (h : j + 1 ≤ i) (hn : P i 1 ≠ -1 ∧ (sT P X j v i).2 (P i 1).toNatClampNeg = true ∧ ((sT P X j v i).1 i = 105 ∨ (sT P X j v i).1 i = 97)) : sT P X j v (i + 1) = (fun k => if k = i then 120 else (sT P X j v i).1 k, fun k => if k = i then true else (sT P X j v i).2 k) := by
  rw [sT_s _ _ _ h, sFin, if_pos hn]
theorem sTX_no {P : Nat → Nat → Int32} {X Y : xX} {j i : Nat} {v : Int32} (h : sT P X j v (i + 1) = sT P X j v i) (hY : Y = sTX P X j v i) : Y = sTX P X j v (i + 1) := by unfold sTX; rw [h]; exact hY
theorem sTX_yes {P : Nat → Nat → Int32} {X Y : xX} {j i : Nat} {v : Int32} (h : sT P X j v (i + 1) = (fun k => if k = i then 120 else (sT P X j v i).1 k, fun k => if k = i then true else (sT P X j v i).2 k)) (hY : Y = sTX P X j v i) : up2 Y 2 i 120 = sTX P X j v (i + 1) := by
  funext f k
  rw [hY]
  unfold sTX
  rw [h]
  by_cases e : f = 2
  · subst e; by_cases e2 : k = i <;> simp [up2, e2]
  · simp [up2, e]
theorem mk_one : ∀ q, q < 8 → (1 : Int32) <<< (nI q &&& 31) = nI (2 ^ q) ∧ 2 ^ q < 256 := by decide +kernel
theorem mk_t0 : ∀ m, m < 256 → ∀ q, q < 8 → (nI m >>> (nI q &&& 31)) &&& 1 = b01 (m.testBit q) := by decide +kernel
theorem mk_o0 : ∀ m, m < 256 → ∀ q, q < 8 → nI m ||| nI (2 ^ q) = nI (m ||| 2 ^ q) ∧ m ||| 2 ^ q < 256 := by decide +kernel
theorem mk_or {m q : Nat} (hm : m < 256) (hq : q < 8) : nI m ||| ((1 : Int32) <<< (nI q &&& 31)) = nI (m ||| 2 ^ q) := by rw [(mk_one q hq).1]; exact (mk_o0 m hm q hq).1
theorem mk_bit {m i q : Nat} {D : Nat → Bool} (h : D q = m.testBit q) : (if q = i then true else D q) = (m ||| 2 ^ i).testBit q := by
  rw [Nat.testBit_or, Nat.testBit_two_pow]
  by_cases e : q = i
  · subst e; simp
  · simp [e, h, Ne.symm e]
theorem b01_ne0 {b : Bool} (h : ¬ b01 b = 0) : b = true := by
  cases b
  · exact absurd rfl h
  · rfl
theorem xCh.X0 {X : xX} (h : xCh X) {Y : xX} (e : ∀ k, Y 2 k = X 2 k) : xCh Y := fun k => by rw [e]; exact h k
set_option maxHeartbeats 1000000 in
set_option maxRecDepth 100000 in
theorem c_X0_finish (l : Launch) (g : xG) (h : xS) (I : xI) (n c : Nat) (X : xX) (hc : c < sNc h ∨ c = 4) (p : Nat) (hp : sPl h c = p) (hpp : p < sNp h) (hW : xWp h I p) (j : Nat) (hj : j < sSz h p) (v : Int32) (hv : narrow .char (.int v) = .int v) (hch : xCh X) : xM l yX0_finish (xws yX0_finish cX0_finish 6 none) 2 34 g [.ref (ga g [11, c, 0]), .int (nI j), .int v] (xR g (xD h) (sX I c X) (xFh h) n) none (xR g (xD h) (sX I c (sEnd (vP I p) (sSz h p) X j v)) (xFh h) n) 0 0 := by
  refine xM.of (by decide) (Nat.le_of_ble_eq_true rfl) ?_
  intro P_ e_ s m_ bl_ mt_ cd_ ls hx hb hr hown hlocks hml hnm hE hK hts hH hS hl
  have hl : lv_has ls 6 [(0, .ref (ga g [11, c, 0])), (1, .int (nI j)), (2, .int v)] := hl
  have h8 := hW.1
  refine lv_aload_n hx hb dX0_finish_0 rfl (lv_at hl 0 rfl) ?_
  refine lv_iload_n hx hb dX0_finish_1 rfl (lv_at hl 1 rfl) ?_
  refine lv_iload_n hx hb dX0_finish_2 rfl (lv_at hl 2 rfl) ?_
  refine x_V0 hx hb hml hown hE hS hl.1 cyX0_putState tw528 (c_X0_putState l g h I n c X hc j v (by omega) hv) ⟨Nat.le_of_ble_eq_true rfl, Nat.le_of_ble_eq_true rfl⟩ ⟨Nat.le_of_ble_eq_true rfl, Nat.le_of_ble_eq_true rfl⟩ (x_recv hK hH (id := [11, c, 0]) (by first | trivial | (simp only [xD]; omega)) (ci := 0) rfl (by decide) rfl) hH rfl rfl (Nat.le_of_ble_eq_true rfl) dX0_finish_3 (fun H locs hH hS => ?_)
  refine lv_iconst (v := 1) hx hb dX0_finish_6 (by decide) ?_
  refine lv_iload_n hx hb dX0_finish_7 rfl (lv_at hl 1 rfl) ?_
  refine lv_ishl hx hb dX0_finish_8 ?_
  rw [show (1 <<< ((nI j) &&& 31)) = (nI (2 ^ j)) from (mk_one j (by omega)).1]
  refine lv_istore_n (lv' := [(3, .int (nI (2 ^ j))), (0, .ref (ga g [11, c, 0])), (1, .int (nI j)), (2, .int v)]) hx hb dX0_finish_9 rfl hl (by decide) rfl (fun ls hl => ?_)
  refine lv_iload_n hx hb dX0_finish_10 rfl (lv_at hl 2 rfl) ?_
  refine lv_iconst (v := 1) hx hb dX0_finish_11 (by decide) ?_
  refine lv_iadd hx hb dX0_finish_12 ?_
  rw [show ((nI j) + 1) = (nI (j + 1)) from (nI_1 j)]
  refine lv_istore (lv' := [(4, .int (nI (j + 1))), (3, .int (nI (2 ^ j))), (0, .ref (ga g [11, c, 0])), (1, .int (nI j)), (2, .int v)]) hx hb dX0_finish_13 hl (by decide) rfl (fun ls hl => ?_)
  have L15 : ∀ (fu : Nat) (i : Nat) (mm : Nat) (Y : xX) (H : Heap) (locs : List Loc) (ls : Array Slot), (j + 1 ≤ i) → (i ≤ sSz h p) → (Y = sTX (vP I p) X j v i) → (mm < 256) → (∀ q : Nat, q < 8 → (sT (vP I p) X j v i).2 q = mm.testBit q) → (xCh Y) → sSz h p - i < fu → xR g (xD h) (sX I c Y) (xFh h) n H → va_S (gA g) s.heap H locs → lv_has ls 6 [(0, .ref (ga g [11, c, 0])), (1, .int (nI j)), (2, .int v), (3, .int (nI mm)), (4, .int (nI i))] → W P_ l e_ { frames := 2, cells := 0, slots := 0, locals := 34 } s m_ ([.ref (ga g [11, c, 0]), .int (nI j), .int v] : List Value).toArray bl_ mt_ cd_ H locs 0 0 (MQ bl_ (xQc g none (xR g (xD h) (sX I c (sEnd (vP I p) (sSz h p) X j v)) (xFh h) n)) ([.ref (ga g [11, c, 0]), .int (nI j), .int v] : List Value).toArray s 0 0 (gA g)) (F0 m_ 15 ls []) := by
    intro fu
    induction fu with
    | zero => intro i mm Y H locs ls hi1 hi2 hY hmm hm hcy hfu; exact absurd hfu (Nat.not_lt_zero _)
    | succ fu ih15 =>
      intro i mm Y H locs ls hi1 hi2 hY hmm hm hcy hfu hH hS hl
      refine lv_iload hx hb dX0_finish_15 (lv_at hl 4 rfl) ?_
      refine lv_aload_n hx hb dX0_finish_17 rfl (lv_at hl 0 rfl) ?_
      refine x_get (C := RX0) (T := TX0) (N := 11) (ci := 0) hx hb hts iu0 hown hK hH (id := [11, c, 0]) (by first | trivial | (simp only [xD]; omega)) rfl rfl (by decide) 0 (by decide) (hts _ tw86) (fun _ h9 => h9) (sX_at _ _ _ _) (v := .ref (ga g [5, p])) (by rw [← hp]; rfl) dX0_finish_18 ?_
      refine x_get (C := RX4) (T := TX4) (N := 4) (ci := 4) hx hb hts iu4 hown hK hH (id := [5, p]) (by first | trivial | (simp only [xD]; omega)) rfl rfl (by decide) 2 (by decide) (hts _ tw70) (fun _ h9 => h9) rfl (v := .int (nI (sSz h p))) (congrArg Value.int hW.2.2.1) dX0_finish_21 ?_
      refine lv_icmp_ge (tgt := 110) hx hb dX0_finish_24 (by decide) (fun c_24 => ?_) (fun c_24 => ?_)
      · skip
        have c_24 := (nI_leI (a := (sSz h p)) (b := i) (by omega) (by omega)).mp c_24
        exact x_vret hx hb hr hlocks hS dX0_finish_110 (by have e : sSz h p = i := (by omega); rw [show sEnd (vP I p) (sSz h p) X j v = Y from by rw [e, hY]; rfl]; exact hH)
      · skip
        have c_24 : ¬ _ := fun z_ => c_24 ((nI_leI (a := (sSz h p)) (b := i) (by omega) (by omega)).mpr z_)
        refine lv_aload_n hx hb dX0_finish_27 rfl (lv_at hl 0 rfl) ?_
        refine x_get (C := RX0) (T := TX0) (N := 11) (ci := 0) hx hb hts iu0 hown hK hH (id := [11, c, 0]) (by first | trivial | (simp only [xD]; omega)) rfl rfl (by decide) 0 (by decide) (hts _ tw86) (fun _ h9 => h9) (sX_at _ _ _ _) (v := .ref (ga g [5, p])) (by rw [← hp]; rfl) dX0_finish_28 ?_
        refine lv_iload hx hb dX0_finish_31 (lv_at hl 4 rfl) ?_
        refine x_V1 hx hb hml hown hE hS hl.1 cyX4_stepAt tw532 (c_X4_stepAt l g h (sX I c Y) n p i hpp (by omega) hW.1 hW.2.2.1) ⟨Nat.le_of_ble_eq_true rfl, Nat.le_of_ble_eq_true rfl⟩ ⟨Nat.le_of_ble_eq_true rfl, Nat.le_of_ble_eq_true rfl⟩ (x_recv hK hH (id := [5, p]) (by first | trivial | (simp only [xD]; omega)) (ci := 4) rfl (by decide) rfl) hH rfl rfl (Nat.le_of_ble_eq_true rfl) dX0_finish_33 (fun H locs hH hS => ?_)
        refine lv_astore (lv' := [(5, .ref (ga g [7, p, i])), (0, .ref (ga g [11, c, 0])), (1, .int (nI j)), (2, .int v), (3, .int (nI mm)), (4, .int (nI i))]) hx hb dX0_finish_36 hl (by decide) rfl (fun ls hl => ?_)
        refine lv_aload hx hb dX0_finish_38 (lv_at hl 0 rfl) ?_
        refine lv_ifnull hx hb dX0_finish_40 ?_
        refine lv_aload hx hb dX0_finish_43 (lv_at hl 0 rfl) ?_
        refine x_get (C := RX5) (T := TX5) (N := 7) (ci := 5) hx hb hts iu5 hown hK hH (id := [7, p, i]) (by first | trivial | (simp only [xD]; omega)) rfl rfl (by decide) 1 (by decide) (hts _ tw335) (fun _ h9 => h9) rfl (v := .int (I [7, p, i] 1)) rfl dX0_finish_45 ?_
        refine lv_iconst (v := (-1)) hx hb dX0_finish_48 (by decide) ?_
        refine lv_icmp_eq (tgt := 104) hx hb dX0_finish_49 (by decide) (fun c_49 => ?_) (fun c_49 => ?_)
        · skip
          refine lv_iinc (v := (nI (i + 1))) (lv' := [(4, .int (nI (i + 1))), (5, .ref (ga g [7, p, i])), (0, .ref (ga g [11, c, 0])), (1, .int (nI j)), (2, .int v), (3, .int (nI mm))]) hx hb dX0_finish_104 hl (k := 5) rfl (by first | rfl | exact nI_1 _ | exact nI_add _ _) (by decide) rfl (fun ls hl => ?_)
          refine lv_goto (tgt := 15) hx hb dX0_finish_107 (by decide) ?_
          exact ih15 (i + 1) mm Y _ _ _ (by omega) (by omega) (sTX_no (sT_no hi1 (fun z_ => z_.1 c_49)) hY) hmm (fun q2 hq2 => by rw [(sT_no hi1 (fun z_ => z_.1 c_49))]; exact hm q2 hq2) hcy (by omega) hH hS (lv_sub hl [2, 3, 4, 5, 0] rfl)
        · skip
          obtain ⟨q, hq, h1, -⟩ := (hW.2.2.2 i (by omega)).2.1.resolve_left c_49
          have hcl : (vP I p i 1).toNatClampNeg = q := by rw [show vP I p i 1 = nI q from h1]; exact nI_clamp (by omega)
          refine lv_iload_n hx hb dX0_finish_52 rfl (lv_at hl 4 rfl) ?_
          refine lv_aload hx hb dX0_finish_53 (lv_at hl 0 rfl) ?_
          refine x_get (C := RX5) (T := TX5) (N := 7) (ci := 5) hx hb hts iu5 hown hK hH (id := [7, p, i]) (by first | trivial | (simp only [xD]; omega)) rfl rfl (by decide) 1 (by decide) (hts _ tw335) (fun _ h9 => h9) rfl (v := .int (nI q)) (congrArg Value.int h1) dX0_finish_55 ?_
          refine lv_ishr hx hb dX0_finish_58 ?_
          refine lv_iconst (v := 1) hx hb dX0_finish_59 (by decide) ?_
          refine lv_iand hx hb dX0_finish_60 ?_
          rw [show (((nI mm) >>> ((nI q) &&& 31)) &&& 1) = (b01 (mm.testBit q)) from (mk_t0 mm hmm q (by omega))]
          refine lv_if_ne (tgt := 67) hx hb dX0_finish_61 (by decide) (fun c_61 => ?_) (fun c_61 => ?_)
          · skip
            refine lv_aload_n hx hb dX0_finish_67 rfl (lv_at hl 1 rfl) ?_
            refine lv_iload hx hb dX0_finish_68 (lv_at hl 5 rfl) ?_
            refine x_V1 hx hb hml hown hE hS hl.1 cyX0_stateOf tw533 (c_X0_stateOf l g h I n c Y hc i (by omega) hcy) ⟨Nat.le_of_ble_eq_true rfl, Nat.le_of_ble_eq_true rfl⟩ ⟨Nat.le_of_ble_eq_true rfl, Nat.le_of_ble_eq_true rfl⟩ (x_recv hK hH (id := [11, c, 0]) (by first | trivial | (simp only [xD]; omega)) (ci := 0) rfl (by decide) rfl) hH rfl rfl (Nat.le_of_ble_eq_true rfl) dX0_finish_70 (fun H locs hH hS => ?_)
            refine lv_bipush (v := 105) hx hb dX0_finish_73 (by decide) ?_
            refine lv_icmp_eq (tgt := 89) hx hb dX0_finish_75 (by decide) (fun c_75 => ?_) (fun c_75 => ?_)
            · skip
              refine lv_aload_n hx hb dX0_finish_89 rfl (lv_at hl 1 rfl) ?_
              refine lv_iload hx hb dX0_finish_90 (lv_at hl 5 rfl) ?_
              refine lv_bipush (v := 120) hx hb dX0_finish_92 (by decide) ?_
              refine x_V0 hx hb hml hown hE hS hl.1 cyX0_putState tw528 (c_X0_putState l g h I n c Y hc i 120 (by omega) (by rfl)) ⟨Nat.le_of_ble_eq_true rfl, Nat.le_of_ble_eq_true rfl⟩ ⟨Nat.le_of_ble_eq_true rfl, Nat.le_of_ble_eq_true rfl⟩ (x_recv hK hH (id := [11, c, 0]) (by first | trivial | (simp only [xD]; omega)) (ci := 0) rfl (by decide) rfl) hH rfl rfl (Nat.le_of_ble_eq_true rfl) dX0_finish_94 (fun H locs hH hS => ?_)
              refine lv_iload_n hx hb dX0_finish_97 rfl (lv_at hl 4 rfl) ?_
              refine lv_iconst (v := 1) hx hb dX0_finish_98 (by decide) ?_
              refine lv_iload hx hb dX0_finish_99 (lv_at hl 5 rfl) ?_
              refine lv_ishl hx hb dX0_finish_101 ?_
              refine lv_ior hx hb dX0_finish_102 ?_
              rw [show ((nI mm) ||| (1 <<< ((nI i) &&& 31))) = (nI (mm ||| 2 ^ i)) from (mk_or hmm (by omega))]
              refine lv_istore_n (lv' := [(3, .int (nI (mm ||| 2 ^ i))), (5, .ref (ga g [7, p, i])), (0, .ref (ga g [11, c, 0])), (1, .int (nI j)), (2, .int v), (4, .int (nI i))]) hx hb dX0_finish_103 rfl hl (by decide) rfl (fun ls hl => ?_)
              refine lv_iinc (v := (nI (i + 1))) (lv' := [(4, .int (nI (i + 1))), (3, .int (nI (mm ||| 2 ^ i))), (5, .ref (ga g [7, p, i])), (0, .ref (ga g [11, c, 0])), (1, .int (nI j)), (2, .int v)]) hx hb dX0_finish_104 hl (k := 5) rfl (by first | rfl | exact nI_1 _ | exact nI_add _ _) (by decide) rfl (fun ls hl => ?_)
              refine lv_goto (tgt := 15) hx hb dX0_finish_107 (by decide) ?_
              exact ih15 (i + 1) ((mm ||| 2 ^ i)) ((up2 Y 2 i 120)) _ _ _ (by omega) (by omega) (sTX_yes (sT_yes hi1 ⟨c_49, (by rw [hcl, hm q (by omega)]; exact b01_ne0 c_61), (by rw [(show (sT (vP I p) X j v i).1 i = Y 2 i from by rw [hY]; rfl)]; exact Or.inl c_75)⟩) hY) (mk_o0 mm hmm i (by omega)).2 (fun q2 hq2 => by rw [(sT_yes hi1 ⟨c_49, (by rw [hcl, hm q (by omega)]; exact b01_ne0 c_61), (by rw [(show (sT (vP I p) X j v i).1 i = Y 2 i from by rw [hY]; rfl)]; exact Or.inl c_75)⟩)]; exact mk_bit (hm q2 hq2)) (hcy.up i 120 rfl) (by omega) hH hS (lv_sub hl [3, 4, 5, 1, 0] rfl)
            · skip
              refine lv_aload_n hx hb dX0_finish_78 rfl (lv_at hl 1 rfl) ?_
              refine lv_iload hx hb dX0_finish_79 (lv_at hl 5 rfl) ?_
              refine x_V1 hx hb hml hown hE hS hl.1 cyX0_stateOf tw533 (c_X0_stateOf l g h I n c Y hc i (by omega) hcy) ⟨Nat.le_of_ble_eq_true rfl, Nat.le_of_ble_eq_true rfl⟩ ⟨Nat.le_of_ble_eq_true rfl, Nat.le_of_ble_eq_true rfl⟩ (x_recv hK hH (id := [11, c, 0]) (by first | trivial | (simp only [xD]; omega)) (ci := 0) rfl (by decide) rfl) hH rfl rfl (Nat.le_of_ble_eq_true rfl) dX0_finish_81 (fun H locs hH hS => ?_)
              refine lv_bipush (v := 97) hx hb dX0_finish_84 (by decide) ?_
              refine lv_icmp_ne (tgt := 104) hx hb dX0_finish_86 (by decide) (fun c_86 => ?_) (fun c_86 => ?_)
              · skip
                refine lv_iinc (v := (nI (i + 1))) (lv' := [(4, .int (nI (i + 1))), (5, .ref (ga g [7, p, i])), (0, .ref (ga g [11, c, 0])), (1, .int (nI j)), (2, .int v), (3, .int (nI mm))]) hx hb dX0_finish_104 hl (k := 5) rfl (by first | rfl | exact nI_1 _ | exact nI_add _ _) (by decide) rfl (fun ls hl => ?_)
                refine lv_goto (tgt := 15) hx hb dX0_finish_107 (by decide) ?_
                exact ih15 (i + 1) mm Y _ _ _ (by omega) (by omega) (sTX_no (sT_no hi1 (fun z_ => by have z2 := z_.2.2; rw [(show (sT (vP I p) X j v i).1 i = Y 2 i from by rw [hY]; rfl)] at z2; rcases z2 with z2 | z2; exact c_75 z2; exact c_86 z2)) hY) hmm (fun q2 hq2 => by rw [(sT_no hi1 (fun z_ => by have z2 := z_.2.2; rw [(show (sT (vP I p) X j v i).1 i = Y 2 i from by rw [hY]; rfl)] at z2; rcases z2 with z2 | z2; exact c_75 z2; exact c_86 z2))]; exact hm q2 hq2) hcy (by omega) hH hS (lv_sub hl [2, 3, 4, 5, 0] rfl)
              · skip
                refine lv_aload_n hx hb dX0_finish_89 rfl (lv_at hl 1 rfl) ?_
                refine lv_iload hx hb dX0_finish_90 (lv_at hl 5 rfl) ?_
                refine lv_bipush (v := 120) hx hb dX0_finish_92 (by decide) ?_
                refine x_V0 hx hb hml hown hE hS hl.1 cyX0_putState tw528 (c_X0_putState l g h I n c Y hc i 120 (by omega) (by rfl)) ⟨Nat.le_of_ble_eq_true rfl, Nat.le_of_ble_eq_true rfl⟩ ⟨Nat.le_of_ble_eq_true rfl, Nat.le_of_ble_eq_true rfl⟩ (x_recv hK hH (id := [11, c, 0]) (by first | trivial | (simp only [xD]; omega)) (ci := 0) rfl (by decide) rfl) hH rfl rfl (Nat.le_of_ble_eq_true rfl) dX0_finish_94 (fun H locs hH hS => ?_)
                refine lv_iload_n hx hb dX0_finish_97 rfl (lv_at hl 4 rfl) ?_
                refine lv_iconst (v := 1) hx hb dX0_finish_98 (by decide) ?_
                refine lv_iload hx hb dX0_finish_99 (lv_at hl 5 rfl) ?_
                refine lv_ishl hx hb dX0_finish_101 ?_
                refine lv_ior hx hb dX0_finish_102 ?_
                rw [show ((nI mm) ||| (1 <<< ((nI i) &&& 31))) = (nI (mm ||| 2 ^ i)) from (mk_or hmm (by omega))]
                refine lv_istore_n (lv' := [(3, .int (nI (mm ||| 2 ^ i))), (5, .ref (ga g [7, p, i])), (0, .ref (ga g [11, c, 0])), (1, .int (nI j)), (2, .int v), (4, .int (nI i))]) hx hb dX0_finish_103 rfl hl (by decide) rfl (fun ls hl => ?_)
                refine lv_iinc (v := (nI (i + 1))) (lv' := [(4, .int (nI (i + 1))), (3, .int (nI (mm ||| 2 ^ i))), (5, .ref (ga g [7, p, i])), (0, .ref (ga g [11, c, 0])), (1, .int (nI j)), (2, .int v)]) hx hb dX0_finish_104 hl (k := 5) rfl (by first | rfl | exact nI_1 _ | exact nI_add _ _) (by decide) rfl (fun ls hl => ?_)
                refine lv_goto (tgt := 15) hx hb dX0_finish_107 (by decide) ?_
                exact ih15 (i + 1) ((mm ||| 2 ^ i)) ((up2 Y 2 i 120)) _ _ _ (by omega) (by omega) (sTX_yes (sT_yes hi1 ⟨c_49, (by rw [hcl, hm q (by omega)]; exact b01_ne0 c_61), (by rw [(show (sT (vP I p) X j v i).1 i = Y 2 i from by rw [hY]; rfl)]; exact Or.inr c_86)⟩) hY) (mk_o0 mm hmm i (by omega)).2 (fun q2 hq2 => by rw [(sT_yes hi1 ⟨c_49, (by rw [hcl, hm q (by omega)]; exact b01_ne0 c_61), (by rw [(show (sT (vP I p) X j v i).1 i = Y 2 i from by rw [hY]; rfl)]; exact Or.inr c_86)⟩)]; exact mk_bit (hm q2 hq2)) (hcy.up i 120 rfl) (by omega) hH hS (lv_sub hl [3, 4, 5, 1, 0] rfl)
          · skip
            refine lv_goto (tgt := 104) hx hb dX0_finish_64 (by decide) ?_
            refine lv_iinc (v := (nI (i + 1))) (lv' := [(4, .int (nI (i + 1))), (5, .ref (ga g [7, p, i])), (0, .ref (ga g [11, c, 0])), (1, .int (nI j)), (2, .int v), (3, .int (nI mm))]) hx hb dX0_finish_104 hl (k := 5) rfl (by first | rfl | exact nI_1 _ | exact nI_add _ _) (by decide) rfl (fun ls hl => ?_)
            refine lv_goto (tgt := 15) hx hb dX0_finish_107 (by decide) ?_
            exact ih15 (i + 1) mm Y _ _ _ (by omega) (by omega) (sTX_no (sT_no hi1 (fun z_ => by have z2 := z_.2.1; rw [hcl, hm q (by omega), (b01_eq0 _).mp c_61] at z2; cases z2)) hY) hmm (fun q2 hq2 => by rw [(sT_no hi1 (fun z_ => by have z2 := z_.2.1; rw [hcl, hm q (by omega), (b01_eq0 _).mp c_61] at z2; cases z2))]; exact hm q2 hq2) hcy (by omega) hH hS (lv_sub hl [2, 3, 4, 5, 0] rfl)
  exact L15 _ (j + 1) (2 ^ j) (up2 X 2 j v) _ _ _ (Nat.le_refl _) (by omega) (sTX_0 _ _ _ _).symm (mk_one j (by omega)).2 (fun q hq => by rw [sT_0]; show decide (q = j) = _; rw [Nat.testBit_two_pow]; simp [eq_comm]) (hch.up j v hv) (Nat.lt_succ_self _) hH hS (lv_sub hl [2, 3, 4, 1, 0] rfl)

section RUL
variable {P : Nat → Nat → Int32} {C : Nat → Nat → Nat → Nat → Int32} {cn : Nat → Nat → Nat} {n : Nat} {X : xX} {j : Nat}
abbrev N1 (C : Nat → Nat → Nat → Nat → Int32) (cn : Nat → Nat → Nat) (X : xX) (j : Nat) : Prop := X 2 j = 97 ∧ sAny (C j 1) X (cn j 1) = true
abbrev N2 (P : Nat → Nat → Int32) (C : Nat → Nat → Nat → Nat → Int32) (cn : Nat → Nat → Nat) (X : xX) (j : Nat) : Prop := X 2 j = 105 ∧ sPar P X j = true ∧ (cn j 0 = 0 ∨ sAny (C j 0) X (cn j 0) = true)
abbrev N3 (P : Nat → Nat → Int32) (n : Nat) (X : xX) (j : Nat) : Prop := X 2 j = 97 ∧ P j 0 = 115 ∧ sHas P j n = true ∧ sDon P X j n = true
abbrev N4 (P : Nat → Nat → Int32) (C : Nat → Nat → Nat → Nat → Int32) (cn : Nat → Nat → Nat) (X : xX) (j : Nat) : Prop := X 2 j = 99 ∧ P j 0 = 109 ∧ ¬ P j 6 = 0 ∧ 0 < cn j 0 ∧ ¬ sAny (C j 0) X (cn j 0) = true
theorem sRul_1 (h : N1 C cn X j) : sRul P C cn n X j = (true, sEnd P n X j 120) := if_pos h
theorem sRul_2 (n1 : ¬ N1 C cn X j) (h : N2 P C cn X j) : sRul P C cn n X j = (true, up2 (up2 X 2 j (if P j 0 = 109 then 99 else 97)) 5 j (X 5 j + 1)) := by rw [sRul, if_neg n1, if_pos h]
theorem sRul_3 (n1 : ¬ N1 C cn X j) (n2 : ¬ N2 P C cn X j) (h : N3 P n X j) : sRul P C cn n X j = (true, sEnd P n X j 99) := by rw [sRul, if_neg n1, if_neg n2, if_pos h]
theorem sRul_4 (n1 : ¬ N1 C cn X j) (n2 : ¬ N2 P C cn X j) (n3 : ¬ N3 P n X j) (h : N4 P C cn X j) : sRul P C cn n X j = (true, up2 X 2 j 105) := by rw [sRul, if_neg n1, if_neg n2, if_neg n3, if_pos h]
theorem sRul_5 (n1 : ¬ N1 C cn X j) (n2 : ¬ N2 P C cn X j) (n3 : ¬ N3 P n X j) (n4 : ¬ N4 P C cn X j) : sRul P C cn n X j = (false, X) := by rw [sRul, if_neg n1, if_neg n2, if_neg n3, if_neg n4]
end RUL
set_option maxHeartbeats 1000000 in
set_option maxRecDepth 100000 in
theorem c_X0_applyRule (l : Launch) (g : xG) (h : xS) (I : xI) (n c : Nat) (X : xX) (hc : c < sNc h ∨ c = 4) (p : Nat) (hp : sPl h c = p) (hpp : p < sNp h) (hW : xWp h I p) (j : Nat) (hj : j < sSz h p) (hch : xCh X) : xM l yX0_applyRule (xws yX0_applyRule cX0_applyRule 4 (some FieldType.boolean)) 3 59 g [.ref (ga g [11, c, 0]), .int (nI j)] (xR g (xD h) (sX I c X) (xFh h) n) (some (.int (b01 (sRul (vP I p) (vC I p) (sCn h p) (sSz h p) X j).1))) (xR g (xD h) (sX I c (sRul (vP I p) (vC I p) (sCn h p) (sSz h p) X j).2) (xFh h) n) 0 0 := by
  refine xM.of (by decide) (Nat.le_of_ble_eq_true rfl) ?_
  intro P_ e_ s m_ bl_ mt_ cd_ ls hx hb hr hown hlocks hml hnm hE hK hts hH hS hl
  have hl : lv_has ls 4 [(0, .ref (ga g [11, c, 0])), (1, .int (nI j))] := hl
  have h8 := hW.1
  have hcn0 := ((hW.2.2.2 j hj).2.2 0 (by decide)).2.1
  refine lv_aload_n hx hb dX0_applyRule_0 rfl (lv_at hl 0 rfl) ?_
  refine x_get (C := RX0) (T := TX0) (N := 11) (ci := 0) hx hb hts iu0 hown hK hH (id := [11, c, 0]) (by first | trivial | (simp only [xD]; omega)) rfl rfl (by decide) 0 (by decide) (hts _ tw86) (fun _ h9 => h9) (sX_at _ _ _ _) (v := .ref (ga g [5, p])) (by rw [← hp]; rfl) dX0_applyRule_1 ?_
  refine lv_iload_n hx hb dX0_applyRule_4 rfl (lv_at hl 1 rfl) ?_
  refine x_V1 hx hb hml hown hE hS hl.1 cyX4_stepAt tw532 (c_X4_stepAt l g h (sX I c X) n p j hpp (by omega) hW.1 hW.2.2.1) ⟨Nat.le_of_ble_eq_true rfl, Nat.le_of_ble_eq_true rfl⟩ ⟨Nat.le_of_ble_eq_true rfl, Nat.le_of_ble_eq_true rfl⟩ (x_recv hK hH (id := [5, p]) (by first | trivial | (simp only [xD]; omega)) (ci := 4) rfl (by decide) rfl) hH rfl rfl (Nat.le_of_ble_eq_true rfl) dX0_applyRule_5 (fun H locs hH hS => ?_)
  refine lv_astore_n (lv' := [(2, .ref (ga g [7, p, j])), (0, .ref (ga g [11, c, 0])), (1, .int (nI j))]) hx hb dX0_applyRule_8 rfl hl (by decide) rfl (fun ls hl => ?_)
  refine lv_aload_n hx hb dX0_applyRule_9 rfl (lv_at hl 0 rfl) ?_
  refine lv_ifnonnull (tgt := 15) hx hb dX0_applyRule_10 (by decide) ?_
  refine lv_aload_n hx hb dX0_applyRule_15 rfl (lv_at hl 1 rfl) ?_
  refine lv_iload_n hx hb dX0_applyRule_16 rfl (lv_at hl 2 rfl) ?_
  refine x_V1 hx hb hml hown hE hS hl.1 cyX0_stateOf tw533 (c_X0_stateOf l g h I n c X hc j (by omega) hch) ⟨Nat.le_of_ble_eq_true rfl, Nat.le_of_ble_eq_true rfl⟩ ⟨Nat.le_of_ble_eq_true rfl, Nat.le_of_ble_eq_true rfl⟩ (x_recv hK hH (id := [11, c, 0]) (by first | trivial | (simp only [xD]; omega)) (ci := 0) rfl (by decide) rfl) hH rfl rfl (Nat.le_of_ble_eq_true rfl) dX0_applyRule_17 (fun H locs hH hS => ?_)
  refine lv_istore_n (lv' := [(3, .int (X 2 j)), (2, .ref (ga g [7, p, j])), (0, .ref (ga g [11, c, 0])), (1, .int (nI j))]) hx hb dX0_applyRule_20 rfl hl (by decide) rfl (fun ls hl => ?_)
  have J177 : ∀ (H : Heap) (locs : List Loc), (¬ N1 (vC I p) (sCn h p) X j ∧ ¬ N2 (vP I p) (vC I p) (sCn h p) X j ∧ ¬ N3 (vP I p) (sSz h p) X j ∧ ¬ N4 (vP I p) (vC I p) (sCn h p) X j) → xR g (xD h) (sX I c X) (xFh h) n H → va_S (gA g) s.heap H locs → W P_ l e_ { frames := 3, cells := 0, slots := 0, locals := 59 } s m_ ([.ref (ga g [11, c, 0]), .int (nI j)] : List Value).toArray bl_ mt_ cd_ H locs 0 0 (MQ bl_ (xQc g (some (.int (b01 (sRul (vP I p) (vC I p) (sCn h p) (sSz h p) X j).1))) (xR g (xD h) (sX I c (sRul (vP I p) (vC I p) (sCn h p) (sSz h p) X j).2) (xFh h) n)) ([.ref (ga g [11, c, 0]), .int (nI j)] : List Value).toArray s 0 0 (gA g)) (F0 m_ 177 ls []) := by
    intro H locs hj177 hH hS
    obtain ⟨n1, n2, n3, n4⟩ := hj177
    refine lv_iconst (v := 0) hx hb dX0_applyRule_177 (by decide) ?_
    exact x_zret hx hb hr hlocks hS dX0_applyRule_178 rfl (by rw [sRul_5 n1 n2 n3 n4]; rfl) (by rw [sRul_5 n1 n2 n3 n4]; exact hH)
  have J125 : ∀ (H : Heap) (locs : List Loc), (¬ N1 (vC I p) (sCn h p) X j ∧ ¬ N2 (vP I p) (vC I p) (sCn h p) X j ∧ ¬ N3 (vP I p) (sSz h p) X j) → xR g (xD h) (sX I c X) (xFh h) n H → va_S (gA g) s.heap H locs → W P_ l e_ { frames := 3, cells := 0, slots := 0, locals := 59 } s m_ ([.ref (ga g [11, c, 0]), .int (nI j)] : List Value).toArray bl_ mt_ cd_ H locs 0 0 (MQ bl_ (xQc g (some (.int (b01 (sRul (vP I p) (vC I p) (sCn h p) (sSz h p) X j).1))) (xR g (xD h) (sX I c (sRul (vP I p) (vC I p) (sCn h p) (sSz h p) X j).2) (xFh h) n)) ([.ref (ga g [11, c, 0]), .int (nI j)] : List Value).toArray s 0 0 (gA g)) (F0 m_ 125 ls []) := by
    intro H locs hj125 hH hS
    obtain ⟨n1, n2, n3⟩ := hj125
    refine lv_iload_n hx hb dX0_applyRule_125 rfl (lv_at hl 0 rfl) ?_
    refine lv_bipush (v := 99) hx hb dX0_applyRule_126 (by decide) ?_
    refine lv_icmp_ne (tgt := 177) hx hb dX0_applyRule_128 (by decide) (fun c_128 => ?_) (fun c_128 => ?_)
    · skip
      exact J177 _ _ ⟨n1, n2, n3, (fun z_ => c_128 z_.1)⟩ hH hS
    · skip
      refine lv_aload_n hx hb dX0_applyRule_131 rfl (lv_at hl 1 rfl) ?_
      refine x_get (C := RX5) (T := TX5) (N := 7) (ci := 5) hx hb hts iu5 hown hK hH (id := [7, p, j]) (by first | trivial | (simp only [xD]; omega)) rfl rfl (by decide) 0 (by decide) (hts _ tw333) (fun _ h9 => h9) rfl (v := .int (I [7, p, j] 0)) rfl dX0_applyRule_132 ?_
      refine lv_bipush (v := 109) hx hb dX0_applyRule_135 (by decide) ?_
      refine lv_icmp_ne (tgt := 177) hx hb dX0_applyRule_137 (by decide) (fun c_137 => ?_) (fun c_137 => ?_)
      · skip
        exact J177 _ _ ⟨n1, n2, n3, (fun z_ => c_137 z_.2.1)⟩ hH hS
      · skip
        refine lv_aload_n hx hb dX0_applyRule_140 rfl (lv_at hl 1 rfl) ?_
        refine x_get (C := RX5) (T := TX5) (N := 7) (ci := 5) hx hb hts iu5 hown hK hH (id := [7, p, j]) (by first | trivial | (simp only [xD]; omega)) rfl rfl (by decide) 6 (by decide) (hts _ tw349) (fun _ h9 => h9) rfl (v := .int (I [7, p, j] 6)) rfl dX0_applyRule_141 ?_
        refine lv_if_eq (tgt := 177) hx hb dX0_applyRule_144 (by decide) (fun c_144 => ?_) (fun c_144 => ?_)
        · skip
          exact J177 _ _ ⟨n1, n2, n3, (fun z_ => z_.2.2.1 c_144)⟩ hH hS
        · skip
          refine lv_aload_n hx hb dX0_applyRule_147 rfl (lv_at hl 1 rfl) ?_
          refine x_get (C := RX5) (T := TX5) (N := 7) (ci := 5) hx hb hts iu5 hown hK hH (id := [7, p, j]) (by first | trivial | (simp only [xD]; omega)) rfl rfl (by decide) 2 (by decide) (hts _ tw338) (fun _ h9 => h9) rfl (v := .ref (ga g [8, p, j, 0])) rfl dX0_applyRule_148 ?_
          refine x_get (C := RX2) (T := TX2) (N := 2) (ci := 2) hx hb hts iu2 hown hK hH (id := [8, p, j, 0]) (by first | trivial | (simp only [xD]; omega)) rfl rfl (by decide) 1 (by decide) (hts _ tw323) (fun _ h9 => h9) rfl (v := .int (nI (sCn h p j 0))) (congrArg Value.int ((hW.2.2.2 j hj).2.2 0 (by decide)).1) dX0_applyRule_151 ?_
          refine lv_if_le (tgt := 177) hx hb dX0_applyRule_154 (by decide) (fun c_154 => ?_) (fun c_154 => ?_)
          · skip
            have c_154 := (nI_leI (a := (sCn h p j 0)) (b := 0) (by omega) (by omega)).mp c_154
            exact J177 _ _ ⟨n1, n2, n3, (fun z_ => by have z2 := z_.2.2.2.1; omega)⟩ hH hS
          · skip
            have c_154 : ¬ _ := fun z_ => c_154 ((nI_leI (a := (sCn h p j 0)) (b := 0) (by omega) (by omega)).mpr z_)
            refine lv_aload_n hx hb dX0_applyRule_157 rfl (lv_at hl 2 rfl) ?_
            refine lv_aload_n hx hb dX0_applyRule_158 rfl (lv_at hl 1 rfl) ?_
            refine x_get (C := RX5) (T := TX5) (N := 7) (ci := 5) hx hb hts iu5 hown hK hH (id := [7, p, j]) (by first | trivial | (simp only [xD]; omega)) rfl rfl (by decide) 2 (by decide) (hts _ tw338) (fun _ h9 => h9) rfl (v := .ref (ga g [8, p, j, 0])) rfl dX0_applyRule_159 ?_
            refine x_V1 hx hb hml hown hE hS hl.1 cyX0_anyMet tw554 (c_X0_anyMet l g h I n c X hc p j 0 hpp (by omega) hW.1 (by decide) ((hW.2.2.2 j (by omega)).2.2 0 (by decide)).2.1 ((hW.2.2.2 j (by omega)).2.2 0 (by decide)).1 ((hW.2.2.2 j (by omega)).2.2 0 (by decide)).2.2) ⟨Nat.le_of_ble_eq_true rfl, Nat.le_of_ble_eq_true rfl⟩ ⟨Nat.le_of_ble_eq_true rfl, Nat.le_of_ble_eq_true rfl⟩ (x_recv hK hH (id := [11, c, 0]) (by first | trivial | (simp only [xD]; omega)) (ci := 0) rfl (by decide) rfl) hH rfl rfl (Nat.le_of_ble_eq_true rfl) dX0_applyRule_162 (fun H locs hH hS => ?_)
            refine lv_if_ne (tgt := 177) hx hb dX0_applyRule_165 (by decide) (fun c_165 => ?_) (fun c_165 => ?_)
            · skip
              exact J177 _ _ ⟨n1, n2, n3, (fun z_ => z_.2.2.2.2 (b01_ne0 c_165))⟩ hH hS
            · skip
              refine lv_aload_n hx hb dX0_applyRule_168 rfl (lv_at hl 2 rfl) ?_
              refine lv_iload_n hx hb dX0_applyRule_169 rfl (lv_at hl 3 rfl) ?_
              refine lv_bipush (v := 105) hx hb dX0_applyRule_170 (by decide) ?_
              refine x_V0 hx hb hml hown hE hS hl.1 cyX0_putState tw528 (c_X0_putState l g h I n c X hc j 105 (by omega) (by rfl)) ⟨Nat.le_of_ble_eq_true rfl, Nat.le_of_ble_eq_true rfl⟩ ⟨Nat.le_of_ble_eq_true rfl, Nat.le_of_ble_eq_true rfl⟩ (x_recv hK hH (id := [11, c, 0]) (by first | trivial | (simp only [xD]; omega)) (ci := 0) rfl (by decide) rfl) hH rfl rfl (Nat.le_of_ble_eq_true rfl) dX0_applyRule_172 (fun H locs hH hS => ?_)
              refine lv_iconst (v := 1) hx hb dX0_applyRule_175 (by decide) ?_
              exact x_zret hx hb hr hlocks hS dX0_applyRule_176 rfl (by rw [sRul_4 n1 n2 n3 ⟨c_128, c_137, c_144, (by omega), (fun z_ => by have z2 := (b01_eq0 _).mp c_165; rw [z_] at z2; cases z2)⟩]; rfl) (by rw [sRul_4 n1 n2 n3 ⟨c_128, c_137, c_144, (by omega), (fun z_ => by have z2 := (b01_eq0 _).mp c_165; rw [z_] at z2; cases z2)⟩]; exact hH)
  have J93 : ∀ (H : Heap) (locs : List Loc), (¬ N1 (vC I p) (sCn h p) X j ∧ ¬ N2 (vP I p) (vC I p) (sCn h p) X j) → xR g (xD h) (sX I c X) (xFh h) n H → va_S (gA g) s.heap H locs → W P_ l e_ { frames := 3, cells := 0, slots := 0, locals := 59 } s m_ ([.ref (ga g [11, c, 0]), .int (nI j)] : List Value).toArray bl_ mt_ cd_ H locs 0 0 (MQ bl_ (xQc g (some (.int (b01 (sRul (vP I p) (vC I p) (sCn h p) (sSz h p) X j).1))) (xR g (xD h) (sX I c (sRul (vP I p) (vC I p) (sCn h p) (sSz h p) X j).2) (xFh h) n)) ([.ref (ga g [11, c, 0]), .int (nI j)] : List Value).toArray s 0 0 (gA g)) (F0 m_ 93 ls []) := by
    intro H locs hj93 hH hS
    obtain ⟨n1, n2⟩ := hj93
    refine lv_iload_n hx hb dX0_applyRule_93 rfl (lv_at hl 0 rfl) ?_
    refine lv_bipush (v := 97) hx hb dX0_applyRule_94 (by decide) ?_
    refine lv_icmp_ne (tgt := 125) hx hb dX0_applyRule_96 (by decide) (fun c_96 => ?_) (fun c_96 => ?_)
    · skip
      exact J125 _ _ ⟨n1, n2, (fun z_ => c_96 z_.1)⟩ hH hS
    · skip
      refine lv_aload_n hx hb dX0_applyRule_99 rfl (lv_at hl 1 rfl) ?_
      refine x_get (C := RX5) (T := TX5) (N := 7) (ci := 5) hx hb hts iu5 hown hK hH (id := [7, p, j]) (by first | trivial | (simp only [xD]; omega)) rfl rfl (by decide) 0 (by decide) (hts _ tw333) (fun _ h9 => h9) rfl (v := .int (I [7, p, j] 0)) rfl dX0_applyRule_100 ?_
      refine lv_bipush (v := 115) hx hb dX0_applyRule_103 (by decide) ?_
      refine lv_icmp_ne (tgt := 125) hx hb dX0_applyRule_105 (by decide) (fun c_105 => ?_) (fun c_105 => ?_)
      · skip
        exact J125 _ _ ⟨n1, n2, (fun z_ => c_105 z_.2.1)⟩ hH hS
      · skip
        refine lv_aload_n hx hb dX0_applyRule_108 rfl (lv_at hl 2 rfl) ?_
        refine lv_iload_n hx hb dX0_applyRule_109 rfl (lv_at hl 3 rfl) ?_
        refine x_V1 hx hb hml hown hE hS hl.1 cyX0_areChildrenDone tw575 (c_X0_areChildrenDone l g h I n c X hc p hp hpp hW j (by omega) hch) ⟨Nat.le_of_ble_eq_true rfl, Nat.le_of_ble_eq_true rfl⟩ ⟨Nat.le_of_ble_eq_true rfl, Nat.le_of_ble_eq_true rfl⟩ (x_recv hK hH (id := [11, c, 0]) (by first | trivial | (simp only [xD]; omega)) (ci := 0) rfl (by decide) rfl) hH rfl rfl (Nat.le_of_ble_eq_true rfl) dX0_applyRule_110 (fun H locs hH hS => ?_)
        refine lv_if_eq (tgt := 125) hx hb dX0_applyRule_113 (by decide) (fun c_113 => ?_) (fun c_113 => ?_)
        · skip
          exact J125 _ _ ⟨n1, n2, (fun z_ => by have z2 := (b01_eq0 _).mp c_113; rw [z_.2.2.1, z_.2.2.2] at z2; cases z2)⟩ hH hS
        · skip
          refine lv_aload_n hx hb dX0_applyRule_116 rfl (lv_at hl 2 rfl) ?_
          refine lv_iload_n hx hb dX0_applyRule_117 rfl (lv_at hl 3 rfl) ?_
          refine lv_bipush (v := 99) hx hb dX0_applyRule_118 (by decide) ?_
          refine x_V0 hx hb hml hown hE hS hl.1 cyX0_finish tw566 (c_X0_finish l g h I n c X hc p hp hpp hW j (by omega) 99 (by rfl) hch) ⟨Nat.le_of_ble_eq_true rfl, Nat.le_of_ble_eq_true rfl⟩ ⟨Nat.le_of_ble_eq_true rfl, Nat.le_of_ble_eq_true rfl⟩ (x_recv hK hH (id := [11, c, 0]) (by first | trivial | (simp only [xD]; omega)) (ci := 0) rfl (by decide) rfl) hH rfl rfl (Nat.le_of_ble_eq_true rfl) dX0_applyRule_120 (fun H locs hH hS => ?_)
          refine lv_iconst (v := 1) hx hb dX0_applyRule_123 (by decide) ?_
          exact x_zret hx hb hr hlocks hS dX0_applyRule_124 rfl (by rw [sRul_3 n1 n2 (let z_ := b01_ne0 c_113; ⟨c_96, c_105, (Bool.and_eq_true _ _ ▸ z_ : _ ∧ _).1, (Bool.and_eq_true _ _ ▸ z_ : _ ∧ _).2⟩)]; rfl) (by rw [sRul_3 n1 n2 (let z_ := b01_ne0 c_113; ⟨c_96, c_105, (Bool.and_eq_true _ _ ▸ z_ : _ ∧ _).1, (Bool.and_eq_true _ _ ▸ z_ : _ ∧ _).2⟩)]; exact hH)
  have J47 : ∀ (H : Heap) (locs : List Loc), (¬ N1 (vC I p) (sCn h p) X j) → xR g (xD h) (sX I c X) (xFh h) n H → va_S (gA g) s.heap H locs → W P_ l e_ { frames := 3, cells := 0, slots := 0, locals := 59 } s m_ ([.ref (ga g [11, c, 0]), .int (nI j)] : List Value).toArray bl_ mt_ cd_ H locs 0 0 (MQ bl_ (xQc g (some (.int (b01 (sRul (vP I p) (vC I p) (sCn h p) (sSz h p) X j).1))) (xR g (xD h) (sX I c (sRul (vP I p) (vC I p) (sCn h p) (sSz h p) X j).2) (xFh h) n)) ([.ref (ga g [11, c, 0]), .int (nI j)] : List Value).toArray s 0 0 (gA g)) (F0 m_ 47 ls []) := by
    intro H locs hj47 hH hS
    have n1 := hj47
    refine lv_iload_n hx hb dX0_applyRule_47 rfl (lv_at hl 0 rfl) ?_
    refine lv_bipush (v := 105) hx hb dX0_applyRule_48 (by decide) ?_
    refine lv_icmp_ne (tgt := 93) hx hb dX0_applyRule_50 (by decide) (fun c_50 => ?_) (fun c_50 => ?_)
    · skip
      exact J93 _ _ ⟨n1, (fun z_ => c_50 z_.1)⟩ hH hS
    · skip
      refine lv_aload_n hx hb dX0_applyRule_53 rfl (lv_at hl 2 rfl) ?_
      refine lv_aload_n hx hb dX0_applyRule_54 rfl (lv_at hl 1 rfl) ?_
      refine x_V1 hx hb hml hown hE hS hl.1 cyX0_isParentActive tw567 (c_X0_isParentActive l g h I n c X hc p hp hpp hW j hj hch) ⟨Nat.le_of_ble_eq_true rfl, Nat.le_of_ble_eq_true rfl⟩ ⟨Nat.le_of_ble_eq_true rfl, Nat.le_of_ble_eq_true rfl⟩ (x_recv hK hH (id := [11, c, 0]) (by first | trivial | (simp only [xD]; omega)) (ci := 0) rfl (by decide) rfl) hH rfl rfl (Nat.le_of_ble_eq_true rfl) dX0_applyRule_55 (fun H locs hH hS => ?_)
      refine lv_if_eq (tgt := 93) hx hb dX0_applyRule_58 (by decide) (fun c_58 => ?_) (fun c_58 => ?_)
      · skip
        exact J93 _ _ ⟨n1, (fun z_ => by have z2 := (b01_eq0 _).mp c_58; rw [z_.2.1] at z2; cases z2)⟩ hH hS
      · skip
        refine lv_aload_n hx hb dX0_applyRule_61 rfl (lv_at hl 1 rfl) ?_
        refine x_get (C := RX5) (T := TX5) (N := 7) (ci := 5) hx hb hts iu5 hown hK hH (id := [7, p, j]) (by first | trivial | (simp only [xD]; omega)) rfl rfl (by decide) 2 (by decide) (hts _ tw338) (fun _ h9 => h9) rfl (v := .ref (ga g [8, p, j, 0])) rfl dX0_applyRule_62 ?_
        refine x_get (C := RX2) (T := TX2) (N := 2) (ci := 2) hx hb hts iu2 hown hK hH (id := [8, p, j, 0]) (by first | trivial | (simp only [xD]; omega)) rfl rfl (by decide) 1 (by decide) (hts _ tw323) (fun _ h9 => h9) rfl (v := .int (nI (sCn h p j 0))) (congrArg Value.int ((hW.2.2.2 j hj).2.2 0 (by decide)).1) dX0_applyRule_65 ?_
        refine lv_if_eq (tgt := 82) hx hb dX0_applyRule_68 (by decide) (fun c_68 => ?_) (fun c_68 => ?_)
        · skip
          have c_68 := (nI_eq (a := (sCn h p j 0)) (b := 0) (by omega) (by omega)).mp c_68
          refine lv_aload_n hx hb dX0_applyRule_82 rfl (lv_at hl 2 rfl) ?_
          refine lv_iload_n hx hb dX0_applyRule_83 rfl (lv_at hl 3 rfl) ?_
          refine lv_aload_n hx hb dX0_applyRule_84 rfl (lv_at hl 1 rfl) ?_
          refine x_get (C := RX5) (T := TX5) (N := 7) (ci := 5) hx hb hts iu5 hown hK hH (id := [7, p, j]) (by first | trivial | (simp only [xD]; omega)) rfl rfl (by decide) 0 (by decide) (hts _ tw333) (fun _ h9 => h9) rfl (v := .int (I [7, p, j] 0)) rfl dX0_applyRule_85 ?_
          refine x_V0 hx hb hml hown hE hS hl.1 cyX0_enter tw571 (c_X0_enter l g h I n c X hc j (I [7, p, j] 0) (by omega)) ⟨Nat.le_of_ble_eq_true rfl, Nat.le_of_ble_eq_true rfl⟩ ⟨Nat.le_of_ble_eq_true rfl, Nat.le_of_ble_eq_true rfl⟩ (x_recv hK hH (id := [11, c, 0]) (by first | trivial | (simp only [xD]; omega)) (ci := 0) rfl (by decide) rfl) hH rfl rfl (Nat.le_of_ble_eq_true rfl) dX0_applyRule_88 (fun H locs hH hS => ?_)
          refine lv_iconst (v := 1) hx hb dX0_applyRule_91 (by decide) ?_
          exact x_zret hx hb hr hlocks hS dX0_applyRule_92 rfl (by rw [sRul_2 n1 ⟨c_50, b01_ne0 c_58, Or.inl c_68⟩]; rfl) (by rw [sRul_2 n1 ⟨c_50, b01_ne0 c_58, Or.inl c_68⟩]; exact hH)
        · skip
          have c_68 : ¬ _ := fun z_ => c_68 ((nI_eq (a := (sCn h p j 0)) (b := 0) (by omega) (by omega)).mpr z_)
          refine lv_aload_n hx hb dX0_applyRule_71 rfl (lv_at hl 2 rfl) ?_
          refine lv_aload_n hx hb dX0_applyRule_72 rfl (lv_at hl 1 rfl) ?_
          refine x_get (C := RX5) (T := TX5) (N := 7) (ci := 5) hx hb hts iu5 hown hK hH (id := [7, p, j]) (by first | trivial | (simp only [xD]; omega)) rfl rfl (by decide) 2 (by decide) (hts _ tw338) (fun _ h9 => h9) rfl (v := .ref (ga g [8, p, j, 0])) rfl dX0_applyRule_73 ?_
          refine x_V1 hx hb hml hown hE hS hl.1 cyX0_anyMet tw554 (c_X0_anyMet l g h I n c X hc p j 0 hpp (by omega) hW.1 (by decide) ((hW.2.2.2 j (by omega)).2.2 0 (by decide)).2.1 ((hW.2.2.2 j (by omega)).2.2 0 (by decide)).1 ((hW.2.2.2 j (by omega)).2.2 0 (by decide)).2.2) ⟨Nat.le_of_ble_eq_true rfl, Nat.le_of_ble_eq_true rfl⟩ ⟨Nat.le_of_ble_eq_true rfl, Nat.le_of_ble_eq_true rfl⟩ (x_recv hK hH (id := [11, c, 0]) (by first | trivial | (simp only [xD]; omega)) (ci := 0) rfl (by decide) rfl) hH rfl rfl (Nat.le_of_ble_eq_true rfl) dX0_applyRule_76 (fun H locs hH hS => ?_)
          refine lv_if_eq (tgt := 93) hx hb dX0_applyRule_79 (by decide) (fun c_79 => ?_) (fun c_79 => ?_)
          · skip
            exact J93 _ _ ⟨n1, (fun z_ => by rcases z_.2.2 with z2 | z2; exact c_68 z2; have z3 := (b01_eq0 _).mp c_79; rw [z2] at z3; cases z3)⟩ hH hS
          · skip
            refine lv_aload_n hx hb dX0_applyRule_82 rfl (lv_at hl 2 rfl) ?_
            refine lv_iload_n hx hb dX0_applyRule_83 rfl (lv_at hl 3 rfl) ?_
            refine lv_aload_n hx hb dX0_applyRule_84 rfl (lv_at hl 1 rfl) ?_
            refine x_get (C := RX5) (T := TX5) (N := 7) (ci := 5) hx hb hts iu5 hown hK hH (id := [7, p, j]) (by first | trivial | (simp only [xD]; omega)) rfl rfl (by decide) 0 (by decide) (hts _ tw333) (fun _ h9 => h9) rfl (v := .int (I [7, p, j] 0)) rfl dX0_applyRule_85 ?_
            refine x_V0 hx hb hml hown hE hS hl.1 cyX0_enter tw571 (c_X0_enter l g h I n c X hc j (I [7, p, j] 0) (by omega)) ⟨Nat.le_of_ble_eq_true rfl, Nat.le_of_ble_eq_true rfl⟩ ⟨Nat.le_of_ble_eq_true rfl, Nat.le_of_ble_eq_true rfl⟩ (x_recv hK hH (id := [11, c, 0]) (by first | trivial | (simp only [xD]; omega)) (ci := 0) rfl (by decide) rfl) hH rfl rfl (Nat.le_of_ble_eq_true rfl) dX0_applyRule_88 (fun H locs hH hS => ?_)
            refine lv_iconst (v := 1) hx hb dX0_applyRule_91 (by decide) ?_
            exact x_zret hx hb hr hlocks hS dX0_applyRule_92 rfl (by rw [sRul_2 n1 ⟨c_50, b01_ne0 c_58, Or.inr (b01_ne0 c_79)⟩]; rfl) (by rw [sRul_2 n1 ⟨c_50, b01_ne0 c_58, Or.inr (b01_ne0 c_79)⟩]; exact hH)
  refine lv_iload_n hx hb dX0_applyRule_21 rfl (lv_at hl 0 rfl) ?_
  refine lv_bipush (v := 97) hx hb dX0_applyRule_22 (by decide) ?_
  refine lv_icmp_ne (tgt := 47) hx hb dX0_applyRule_24 (by decide) (fun c_24 => ?_) (fun c_24 => ?_)
  · skip
    exact J47 _ _ (fun z_ => c_24 z_.1) hH hS
  · skip
    refine lv_aload_n hx hb dX0_applyRule_27 rfl (lv_at hl 2 rfl) ?_
    refine lv_aload_n hx hb dX0_applyRule_28 rfl (lv_at hl 1 rfl) ?_
    refine x_get (C := RX5) (T := TX5) (N := 7) (ci := 5) hx hb hts iu5 hown hK hH (id := [7, p, j]) (by first | trivial | (simp only [xD]; omega)) rfl rfl (by decide) 3 (by decide) (hts _ tw341) (fun _ h9 => h9) rfl (v := .ref (ga g [8, p, j, 1])) rfl dX0_applyRule_29 ?_
    refine x_V1 hx hb hml hown hE hS hl.1 cyX0_anyMet tw554 (c_X0_anyMet l g h I n c X hc p j 1 hpp (by omega) hW.1 (by decide) ((hW.2.2.2 j (by omega)).2.2 1 (by decide)).2.1 ((hW.2.2.2 j (by omega)).2.2 1 (by decide)).1 ((hW.2.2.2 j (by omega)).2.2 1 (by decide)).2.2) ⟨Nat.le_of_ble_eq_true rfl, Nat.le_of_ble_eq_true rfl⟩ ⟨Nat.le_of_ble_eq_true rfl, Nat.le_of_ble_eq_true rfl⟩ (x_recv hK hH (id := [11, c, 0]) (by first | trivial | (simp only [xD]; omega)) (ci := 0) rfl (by decide) rfl) hH rfl rfl (Nat.le_of_ble_eq_true rfl) dX0_applyRule_32 (fun H locs hH hS => ?_)
    refine lv_if_eq (tgt := 47) hx hb dX0_applyRule_35 (by decide) (fun c_35 => ?_) (fun c_35 => ?_)
    · skip
      exact J47 _ _ (fun z_ => by have z2 := (b01_eq0 _).mp c_35; rw [z_.2] at z2; cases z2) hH hS
    · skip
      refine lv_aload_n hx hb dX0_applyRule_38 rfl (lv_at hl 2 rfl) ?_
      refine lv_iload_n hx hb dX0_applyRule_39 rfl (lv_at hl 3 rfl) ?_
      refine lv_bipush (v := 120) hx hb dX0_applyRule_40 (by decide) ?_
      refine x_V0 hx hb hml hown hE hS hl.1 cyX0_finish tw566 (c_X0_finish l g h I n c X hc p hp hpp hW j (by omega) 120 (by rfl) hch) ⟨Nat.le_of_ble_eq_true rfl, Nat.le_of_ble_eq_true rfl⟩ ⟨Nat.le_of_ble_eq_true rfl, Nat.le_of_ble_eq_true rfl⟩ (x_recv hK hH (id := [11, c, 0]) (by first | trivial | (simp only [xD]; omega)) (ci := 0) rfl (by decide) rfl) hH rfl rfl (Nat.le_of_ble_eq_true rfl) dX0_applyRule_42 (fun H locs hH hS => ?_)
      refine lv_iconst (v := 1) hx hb dX0_applyRule_45 (by decide) ?_
      exact x_zret hx hb hr hlocks hS dX0_applyRule_46 rfl (by rw [sRul_1 ⟨c_24, b01_ne0 c_35⟩]; rfl) (by rw [sRul_1 ⟨c_24, b01_ne0 c_35⟩]; exact hH)
end
section
/-! CONTRACTS: rounds, a day -/
theorem sFins_ch {P : Nat → Nat → Int32} {i0 : Nat} : ∀ (d : Nat) (s : (Nat → Int32) × (Nat → Bool)), (∀ k, narrow .char (.int (s.1 k)) = .int (s.1 k)) → ∀ k, narrow .char (.int ((sFins P i0 d s).1 k)) = .int ((sFins P i0 d s).1 k)
  | 0, s, h, k => h k
  | d + 1, s, h, k => by
    have ih := sFins_ch (P := P) (i0 := i0) d s h
    show narrow .char (.int ((sFin P (i0 + d) (sFins P i0 d s)).1 k)) = .int ((sFin P (i0 + d) (sFins P i0 d s)).1 k)
    unfold sFin
    split
    · show narrow .char (.int (if k = i0 + d then 120 else (sFins P i0 d s).1 k)) = .int (if k = i0 + d then 120 else (sFins P i0 d s).1 k)
      split
      · rfl
      · exact ih k
    · exact ih k
theorem xCh.fin {P : Nat → Nat → Int32} {n : Nat} {X : xX} (h : xCh X) (j : Nat) {v : Int32} (hv : narrow .char (.int v) = .int v) : xCh (sEnd P n X j v) := fun k => by
  show narrow .char (.int ((sFins P (j + 1) (n - (j + 1)) _).1 k)) = .int ((sFins P (j + 1) (n - (j + 1)) _).1 k)
  refine sFins_ch _ _ (fun q => ?_) k
  show narrow .char (.int (if q = j then v else X 2 q)) = .int (if q = j then v else X 2 q)
  split
  · exact hv
  · exact h q
theorem xCh.rul {P : Nat → Nat → Int32} {C : Nat → Nat → Nat → Nat → Int32} {cn : Nat → Nat → Nat} {n : Nat} {X : xX} (h : xCh X) (j : Nat) : xCh (sRul P C cn n X j).2 := by
  unfold sRul
  split
  · exact h.fin j rfl
  · split
    · refine xCh.off ?_ (by decide) _ _
      refine h.up _ _ ?_
      split <;> rfl
    · split
      · exact h.fin j rfl
      · split
        · exact h.up _ _ rfl
        · exact h
theorem xCh.swp {P : Nat → Nat → Int32} {C : Nat → Nat → Nat → Nat → Int32} {cn : Nat → Nat → Nat} {n : Nat} {X : xX} (h : xCh X) : ∀ i, xCh (sSwp P C cn n i X).2
  | 0 => h
  | i + 1 => (xCh.swp h i).rul i
theorem sSwp_s {P : Nat → Nat → Int32} {C : Nat → Nat → Nat → Nat → Int32} {cn : Nat → Nat → Nat} {n i : Nat} {Y Z : xX} {ch : Bool} (h : sSwp P C cn n i Y = (ch, Z)) : sSwp P C cn n (i + 1) Y = (ch || (sRul P C cn n Z i).1, (sRul P C cn n Z i).2) := by
  simp only [sSwp, h]
theorem sRnd_stop {P : Nat → Nat → Int32} {C : Nat → Nat → Nat → Nat → Int32} {cn : Nat → Nat → Nat} {n t r : Nat} {Y Z : xX} (ht : 0 < t) (h : sSwp P C cn n n Y = (false, Z)) : sRnd P C cn n t r Y = Z := by
  obtain ⟨t, rfl⟩ := Nat.exists_eq_succ_of_ne_zero (Nat.ne_of_gt ht)
  show (if (sSwp P C cn n n Y).1 = true then _ else (sSwp P C cn n n Y).2) = Z
  rw [h]; rfl
theorem sRnd_go {P : Nat → Nat → Int32} {C : Nat → Nat → Nat → Nat → Int32} {cn : Nat → Nat → Nat} {n t r : Nat} {Y Z : xX} (ht : 0 < t) (h : sSwp P C cn n n Y = (true, Z)) : sRnd P C cn n t r Y = sRnd P C cn n (t - 1) (r + 1) (up2 Z 0 9 (nI (r + 1))) := by
  obtain ⟨t, rfl⟩ := Nat.exists_eq_succ_of_ne_zero (Nat.ne_of_gt ht)
  show (if (sSwp P C cn n n Y).1 = true then sRnd P C cn n t (r + 1) (up2 (sSwp P C cn n n Y).2 0 9 (nI (r + 1))) else (sSwp P C cn n n Y).2) = _
  rw [h]; rfl
set_option maxHeartbeats 2000000 in
set_option maxRecDepth 100000 in
theorem c_X0_runRounds (l : Launch) (g : xG) (h : xS) (I : xI) (n c : Nat) (X : xX) (hc : c < sNc h ∨ c = 4) (p : Nat) (hp : sPl h c = p) (hpp : p < sNp h) (hW : xWp h I p) (hch : xCh X) : xM l yX0_runRounds (xws yX0_runRounds cX0_runRounds 4 none) 4 82 g [.ref (ga g [11, c, 0])] (xR g (xD h) (sX I c X) (xFh h) n) none (xR g (xD h) (sX I c (sRun (vP I p) (vC I p) (sCn h p) (sSz h p) X)) (xFh h) n) 0 0 := by
  refine xM.of (by decide) (Nat.le_of_ble_eq_true rfl) ?_
  intro P_ e_ s m_ bl_ mt_ cd_ ls hx hb hr hown hlocks hml hnm hE hK hts hH hS hl
  have hl : lv_has ls 4 [(0, .ref (ga g [11, c, 0]))] := hl
  have h8 := hW.1
  refine lv_aload_n hx hb dX0_runRounds_0 rfl (lv_at hl 0 rfl) ?_
  refine lv_iconst (v := 0) hx hb dX0_runRounds_1 (by decide) ?_
  obtain ⟨X1_, hX1_⟩ : ∃ z, z = up2 X 0 9 0 := ⟨_, rfl⟩
  refine x_put (C := RX0) (T := TX0) (N := 11) (ci := 0) hx hb hts iu0 tyX0 tyX0_ok nmX0 hown hK hH hS (id := [11, c, 0]) (by first | trivial | (simp only [xD]; omega)) rfl rfl (by decide) 9 (by decide) (hts _ tw99) (fun _ h9 => h9) (Or.inl rfl) (ty := .int) (v := .int 0) (by decide +kernel) rfl rfl (I' := (sX I c X1_)) (F' := (xFh h)) (fun i hi => by rw [show (sX I c X1_) = _ from Eq.symm ((sX_up _ _ _ _ _ _).trans (congrArg (sX I c) hX1_.symm))]; exact up_id hi) (fun _ _ => rfl) (fun j => by rw [show (sX I c X1_) = _ from Eq.symm ((sX_up _ _ _ _ _ _).trans (congrArg (sX I c) hX1_.symm)), up_row]; exact xv_upd rfl j) dX0_runRounds_2 (fun H locs hH hS => ?_)
  refine lv_iconst (v := 1) hx hb dX0_runRounds_5 (by decide) ?_
  refine lv_istore_n (lv' := [(1, .int 1), (0, .ref (ga g [11, c, 0]))]) hx hb dX0_runRounds_6 rfl hl (by decide) rfl (fun ls hl => ?_)
  have L7 : ∀ (fu : Nat) (r : Nat) (Y : xX) (H : Heap) (locs : List Loc) (ls : Array Slot), (r ≤ 20) → (sRun (vP I p) (vC I p) (sCn h p) (sSz h p) X = sRnd (vP I p) (vC I p) (sCn h p) (sSz h p) (20 - r) r Y) → (xCh Y) → 20 - r < fu → xR g (xD h) (sX I c Y) (xFh h) n H → va_S (gA g) s.heap H locs → lv_has ls 4 [(0, .ref (ga g [11, c, 0])), (1, .int (nI (r + 1)))] → W P_ l e_ { frames := 4, cells := 0, slots := 0, locals := 82 } s m_ ([.ref (ga g [11, c, 0])] : List Value).toArray bl_ mt_ cd_ H locs 0 0 (MQ bl_ (xQc g none (xR g (xD h) (sX I c (sRun (vP I p) (vC I p) (sCn h p) (sSz h p) X)) (xFh h) n)) ([.ref (ga g [11, c, 0])] : List Value).toArray s 0 0 (gA g)) (F0 m_ 7 ls []) := by
    intro fu
    induction fu with
    | zero => intro r Y H locs ls hr20 hY hcy hfu; exact absurd hfu (Nat.not_lt_zero _)
    | succ fu ih7 =>
      intro r Y H locs ls hr20 hY hcy hfu hH hS hl
      refine lv_iload_n hx hb dX0_runRounds_7 rfl (lv_at hl 1 rfl) ?_
      refine lv_bipush (v := 20) hx hb dX0_runRounds_8 (by decide) ?_
      refine lv_icmp_gt (tgt := 60) hx hb dX0_runRounds_10 (by decide) (fun c_10 => ?_) (fun c_10 => ?_)
      · skip
        have c_10 := (nI_ltI (a := 20) (b := (r + 1)) (by omega) (by omega)).mp c_10
        exact x_vret hx hb hr hlocks hS dX0_runRounds_60 (by rw [hY, show 20 - r = 0 by omega]; exact hH)
      · skip
        have c_10 : ¬ _ := fun z_ => c_10 ((nI_ltI (a := 20) (b := (r + 1)) (by omega) (by omega)).mpr z_)
        refine lv_iconst (v := 0) hx hb dX0_runRounds_13 (by decide) ?_
        refine lv_istore_n (lv' := [(2, .int 0), (0, .ref (ga g [11, c, 0])), (1, .int (nI (r + 1)))]) hx hb dX0_runRounds_14 rfl hl (by decide) rfl (fun ls hl => ?_)
        refine lv_iconst (v := 0) hx hb dX0_runRounds_15 (by decide) ?_
        refine lv_istore_n (lv' := [(3, .int 0), (2, .int 0), (0, .ref (ga g [11, c, 0])), (1, .int (nI (r + 1)))]) hx hb dX0_runRounds_16 rfl hl (by decide) rfl (fun ls hl => ?_)
        have L17 : ∀ (fu : Nat) (i : Nat) (ch : Bool) (Z : xX) (H : Heap) (locs : List Loc) (ls : Array Slot), (i ≤ sSz h p) → (sSwp (vP I p) (vC I p) (sCn h p) (sSz h p) i Y = (ch, Z)) → (xCh Z) → sSz h p - i < fu → xR g (xD h) (sX I c Z) (xFh h) n H → va_S (gA g) s.heap H locs → lv_has ls 4 [(0, .ref (ga g [11, c, 0])), (1, .int (nI (r + 1))), (2, .int (b01 ch)), (3, .int (nI i))] → W P_ l e_ { frames := 4, cells := 0, slots := 0, locals := 82 } s m_ ([.ref (ga g [11, c, 0])] : List Value).toArray bl_ mt_ cd_ H locs 0 0 (MQ bl_ (xQc g none (xR g (xD h) (sX I c (sRun (vP I p) (vC I p) (sCn h p) (sSz h p) X)) (xFh h) n)) ([.ref (ga g [11, c, 0])] : List Value).toArray s 0 0 (gA g)) (F0 m_ 17 ls []) := by
          intro fu
          induction fu with
          | zero => intro i ch Z H locs ls hi hZ hcz hfu; exact absurd hfu (Nat.not_lt_zero _)
          | succ fu ih17 =>
            intro i ch Z H locs ls hi hZ hcz hfu hH hS hl
            refine lv_iload_n hx hb dX0_runRounds_17 rfl (lv_at hl 3 rfl) ?_
            refine lv_aload_n hx hb dX0_runRounds_18 rfl (lv_at hl 0 rfl) ?_
            refine x_get (C := RX0) (T := TX0) (N := 11) (ci := 0) hx hb hts iu0 hown hK hH (id := [11, c, 0]) (by first | trivial | (simp only [xD]; omega)) rfl rfl (by decide) 0 (by decide) (hts _ tw86) (fun _ h9 => h9) (sX_at _ _ _ _) (v := .ref (ga g [5, p])) (by rw [← hp]; rfl) dX0_runRounds_19 ?_
            refine x_get (C := RX4) (T := TX4) (N := 4) (ci := 4) hx hb hts iu4 hown hK hH (id := [5, p]) (by first | trivial | (simp only [xD]; omega)) rfl rfl (by decide) 2 (by decide) (hts _ tw70) (fun _ h9 => h9) rfl (v := .int (nI (sSz h p))) (congrArg Value.int hW.2.2.1) dX0_runRounds_22 ?_
            refine lv_icmp_ge (tgt := 44) hx hb dX0_runRounds_25 (by decide) (fun c_25 => ?_) (fun c_25 => ?_)
            · skip
              have c_25 := (nI_leI (a := (sSz h p)) (b := i) (by omega) (by omega)).mp c_25
              have hZn : sSwp (vP I p) (vC I p) (sCn h p) (sSz h p) (sSz h p) Y = (ch, Z) := by rw [show sSz h p = i by omega]; rw [← show sSz h p = i by omega] at hZ ⊢; exact hZ
              refine lv_iload_n hx hb dX0_runRounds_44 rfl (lv_at hl 2 rfl) ?_
              refine lv_if_ne (tgt := 49) hx hb dX0_runRounds_45 (by decide) (fun c_45 => ?_) (fun c_45 => ?_)
              · skip
                have hZn : sSwp (vP I p) (vC I p) (sCn h p) (sSz h p) (sSz h p) Y = (true, Z) := by rw [hZn, b01_ne0 c_45]
                refine lv_aload_n hx hb dX0_runRounds_49 rfl (lv_at hl 0 rfl) ?_
                refine lv_iload_n hx hb dX0_runRounds_50 rfl (lv_at hl 1 rfl) ?_
                obtain ⟨X2_, hX2_⟩ : ∃ z, z = up2 Z 0 9 (nI (r + 1)) := ⟨_, rfl⟩
                refine x_put (C := RX0) (T := TX0) (N := 11) (ci := 0) hx hb hts iu0 tyX0 tyX0_ok nmX0 hown hK hH hS (id := [11, c, 0]) (by first | trivial | (simp only [xD]; omega)) rfl rfl (by decide) 9 (by decide) (hts _ tw99) (fun _ h9 => h9) (Or.inl rfl) (ty := .int) (v := .int (nI (r + 1))) (by decide +kernel) rfl rfl (I' := (sX I c X2_)) (F' := (xFh h)) (fun i hi => by rw [show (sX I c X2_) = _ from Eq.symm ((sX_up _ _ _ _ _ _).trans (congrArg (sX I c) hX2_.symm))]; exact up_id hi) (fun _ _ => rfl) (fun j => by rw [show (sX I c X2_) = _ from Eq.symm ((sX_up _ _ _ _ _ _).trans (congrArg (sX I c) hX2_.symm)), up_row]; exact xv_upd rfl j) dX0_runRounds_51 (fun H locs hH hS => ?_)
                refine lv_iinc (v := (nI ((r + 1) + 1))) (lv' := [(1, .int (nI ((r + 1) + 1))), (0, .ref (ga g [11, c, 0])), (2, .int (b01 ch)), (3, .int (nI i))]) hx hb dX0_runRounds_54 hl (k := 1) rfl (by first | rfl | exact nI_1 _ | exact nI_add _ _) (by decide) rfl (fun ls hl => ?_)
                refine lv_goto (tgt := 7) hx hb dX0_runRounds_57 (by decide) ?_
                exact ih7 (r + 1) X2_ _ _ _ (by omega) (by rw [hY, sRnd_go (by omega) hZn, hX2_, show 20 - r - 1 = 20 - (r + 1) by omega]) (by rw [hX2_]; exact hcz.off (by decide) _ _) (by omega) hH hS (lv_sub hl [1, 0] rfl)
              · skip
                have hZn : sSwp (vP I p) (vC I p) (sCn h p) (sSz h p) (sSz h p) Y = (false, Z) := by rw [hZn, (b01_eq0 _).mp c_45]
                exact x_vret hx hb hr hlocks hS dX0_runRounds_48 (by rw [hY, sRnd_stop (by omega) hZn]; exact hH)
            · skip
              have c_25 : ¬ _ := fun z_ => c_25 ((nI_leI (a := (sSz h p)) (b := i) (by omega) (by omega)).mpr z_)
              refine lv_aload_n hx hb dX0_runRounds_28 rfl (lv_at hl 0 rfl) ?_
              refine lv_iload_n hx hb dX0_runRounds_29 rfl (lv_at hl 3 rfl) ?_
              refine x_V1 hx hb hml hown hE hS hl.1 cyX0_applyRule tw550 (c_X0_applyRule l g h I n c Z hc p hp hpp hW i (by omega) hcz) ⟨Nat.le_of_ble_eq_true rfl, Nat.le_of_ble_eq_true rfl⟩ ⟨Nat.le_of_ble_eq_true rfl, Nat.le_of_ble_eq_true rfl⟩ (x_recv hK hH (id := [11, c, 0]) (by first | trivial | (simp only [xD]; omega)) (ci := 0) rfl (by decide) rfl) hH rfl rfl (Nat.le_of_ble_eq_true rfl) dX0_runRounds_30 (fun H locs hH hS => ?_)
              refine lv_if_eq (tgt := 38) hx hb dX0_runRounds_33 (by decide) (fun c_33 => ?_) (fun c_33 => ?_)
              · skip
                refine lv_iinc (v := (nI (i + 1))) (lv' := [(3, .int (nI (i + 1))), (0, .ref (ga g [11, c, 0])), (1, .int (nI (r + 1))), (2, .int (b01 ch))]) hx hb dX0_runRounds_38 hl (k := 3) rfl (by first | rfl | exact nI_1 _ | exact nI_add _ _) (by decide) rfl (fun ls hl => ?_)
                refine lv_goto (tgt := 17) hx hb dX0_runRounds_41 (by decide) ?_
                exact ih17 (i + 1) ch ((sRul (vP I p) (vC I p) (sCn h p) (sSz h p) Z i).2) _ _ _ (by omega) (by rw [sSwp_s hZ, (b01_eq0 _).mp c_33, Bool.or_false]) (hcz.rul i) (by omega) hH hS (lv_sub hl [1, 2, 3, 0] rfl)
              · skip
                refine lv_iconst (v := 1) hx hb dX0_runRounds_36 (by decide) ?_
                refine lv_istore_n (lv' := [(2, .int 1), (0, .ref (ga g [11, c, 0])), (1, .int (nI (r + 1))), (3, .int (nI i))]) hx hb dX0_runRounds_37 rfl hl (by decide) rfl (fun ls hl => ?_)
                refine lv_iinc (v := (nI (i + 1))) (lv' := [(3, .int (nI (i + 1))), (2, .int 1), (0, .ref (ga g [11, c, 0])), (1, .int (nI (r + 1)))]) hx hb dX0_runRounds_38 hl (k := 3) rfl (by first | rfl | exact nI_1 _ | exact nI_add _ _) (by decide) rfl (fun ls hl => ?_)
                refine lv_goto (tgt := 17) hx hb dX0_runRounds_41 (by decide) ?_
                exact ih17 (i + 1) true ((sRul (vP I p) (vC I p) (sCn h p) (sSz h p) Z i).2) _ _ _ (by omega) (by rw [sSwp_s hZ, b01_ne0 c_33, Bool.or_true]) (hcz.rul i) (by omega) hH hS (lv_sub hl [2, 3, 1, 0] rfl)
        exact L17 _ 0 false Y _ _ _ (by omega) rfl hcy (Nat.lt_succ_self _) hH hS (lv_sub hl [2, 3, 1, 0] rfl)
  exact L7 _ 0 X1_ _ _ _ (by omega) (by rw [hX1_]; rfl) (by rw [hX1_]; exact hch.off (by decide) _ _) (Nat.lt_succ_self _) hH hS (lv_sub hl [1, 0] rfl)

def sOldT (P : Nat → Nat → Int32) (n : Nat) (X : xX) (i : Nat) : xX := fun f k => if f = 4 ∧ k < i ∧ k < n ∧ sAct P X k = true then X 4 k + 1 else up2 X 0 6 (X 0 6 + 1) f k
def sOld (P : Nat → Nat → Int32) (n : Nat) (X : xX) : xX := if X 0 7 = 0 then sOldT P n X 8 else up2 X 0 6 (X 0 6 + 1)
theorem sOldT_0 (P : Nat → Nat → Int32) (n : Nat) (X : xX) : sOldT P n X 0 = up2 X 0 6 (X 0 6 + 1) := by
  funext f k; simp [sOldT]
theorem sOldT_no {P : Nat → Nat → Int32} {n i : Nat} {X : xX} (h : ¬ (i < n ∧ sAct P X i = true)) : sOldT P n X (i + 1) = sOldT P n X i := by
  funext f k
  unfold sOldT
  by_cases e : k = i
  · subst e
    rw [if_neg (fun z => h z.2.2), if_neg (fun z => h z.2.2)]
  · by_cases e2 : k < i
    · simp [e2, Nat.lt_succ_of_lt e2]
    · rw [if_neg (fun z => by omega), if_neg (fun z => by omega)]
theorem sOldT_yes {P : Nat → Nat → Int32} {n i : Nat} {X : xX} (h : i < n ∧ sAct P X i = true) : up2 (sOldT P n X i) 4 i (sOldT P n X i 4 i + 1) = sOldT P n X (i + 1) := by
  funext f k
  have e0 : sOldT P n X i 4 i = X 4 i := by unfold sOldT; rw [if_neg (fun z => by omega), up2_f _ _ _ (by decide)]
  rw [e0]
  by_cases e : f = 4 ∧ k = i
  · obtain ⟨rfl, rfl⟩ := e
    rw [up2_at]
    unfold sOldT
    rw [if_pos ⟨rfl, by omega, h.1, h.2⟩]
  · have e3 : up2 (sOldT P n X i) 4 i (X 4 i + 1) f k = sOldT P n X i f k := by
      unfold up2; rw [if_neg e]
    rw [e3]
    unfold sOldT
    by_cases e2 : f = 4 ∧ k < i ∧ k < n ∧ sAct P X k = true
    · rw [if_pos e2, if_pos ⟨e2.1, by omega, e2.2.2⟩]
    · rw [if_neg e2, if_neg (fun z => e2 ⟨z.1, by have := fun q => e ⟨z.1, q⟩; omega, z.2.2⟩)]
theorem sOldT_st (P : Nat → Nat → Int32) (n : Nat) (X : xX) (i : Nat) : sOldT P n X i 2 = X 2 := by
  funext k
  unfold sOldT
  rw [if_neg (fun z => absurd z.1 (by decide)), up2_f _ _ _ (by decide)]
theorem sAct_st {P : Nat → Nat → Int32} {X Y : xX} (h : Y 2 = X 2) (j : Nat) : sAct P Y j = sAct P X j := by unfold sAct; rw [h]
set_option maxHeartbeats 1000000 in
set_option maxRecDepth 100000 in
theorem c_X0_growOlder (l : Launch) (g : xG) (h : xS) (I : xI) (n c : Nat) (X : xX) (hc : c < sNc h ∨ c = 4) (p : Nat) (hp : sPl h c = p) (hpp : p < sNp h) (hW : xWp h I p) (hch : xCh X) : xM l yX0_growOlder (xws yX0_growOlder cX0_growOlder 2 none) 3 55 g [.ref (ga g [11, c, 0])] (xR g (xD h) (sX I c X) (xFh h) n) none (xR g (xD h) (sX I c (sOld (vP I p) (sSz h p) X)) (xFh h) n) 0 0 := by
  refine xM.of (by decide) (Nat.le_of_ble_eq_true rfl) ?_
  intro P_ e_ s m_ bl_ mt_ cd_ ls hx hb hr hown hlocks hml hnm hE hK hts hH hS hl
  have hl : lv_has ls 2 [(0, .ref (ga g [11, c, 0]))] := hl
  have h8 := hW.1
  refine lv_aload_n hx hb dX0_growOlder_0 rfl (lv_at hl 0 rfl) ?_
  refine lv_dup hx hb dX0_growOlder_1 rfl ?_
  refine x_get (C := RX0) (T := TX0) (N := 11) (ci := 0) hx hb hts iu0 hown hK hH (id := [11, c, 0]) (by first | trivial | (simp only [xD]; omega)) rfl rfl (by decide) 6 (by decide) (hts _ tw93) (fun _ h9 => h9) (sX_at _ _ _ _) (v := .int (X 0 6)) rfl dX0_growOlder_2 ?_
  refine lv_iconst (v := 1) hx hb dX0_growOlder_5 (by decide) ?_
  refine lv_iadd hx hb dX0_growOlder_6 ?_
  obtain ⟨X1_, hX1_⟩ : ∃ z, z = up2 X 0 6 ((X 0 6) + 1) := ⟨_, rfl⟩
  refine x_put (C := RX0) (T := TX0) (N := 11) (ci := 0) hx hb hts iu0 tyX0 tyX0_ok nmX0 hown hK hH hS (id := [11, c, 0]) (by first | trivial | (simp only [xD]; omega)) rfl rfl (by decide) 6 (by decide) (hts _ tw93) (fun _ h9 => h9) (Or.inl rfl) (ty := .int) (v := .int ((X 0 6) + 1)) (by decide +kernel) rfl rfl (I' := (sX I c X1_)) (F' := (xFh h)) (fun i hi => by rw [show (sX I c X1_) = _ from Eq.symm ((sX_up _ _ _ _ _ _).trans (congrArg (sX I c) hX1_.symm))]; exact up_id hi) (fun _ _ => rfl) (fun j => by rw [show (sX I c X1_) = _ from Eq.symm ((sX_up _ _ _ _ _ _).trans (congrArg (sX I c) hX1_.symm)), up_row]; exact xv_upd rfl j) dX0_growOlder_7 (fun H locs hH hS => ?_)
  refine lv_aload_n hx hb dX0_growOlder_10 rfl (lv_at hl 0 rfl) ?_
  refine x_get (C := RX0) (T := TX0) (N := 11) (ci := 0) hx hb hts iu0 hown hK hH (id := [11, c, 0]) (by first | trivial | (simp only [xD]; omega)) rfl rfl (by decide) 7 (by decide) (hts _ tw95) (fun _ h9 => h9) (sX_at _ _ _ _) (v := .int (X1_ 0 7)) rfl dX0_growOlder_11 ?_
  refine lv_if_eq (tgt := 18) hx hb dX0_growOlder_14 (by decide) (fun c_14 => ?_) (fun c_14 => ?_)
  · skip
    have h7 : X 0 7 = 0 := by rw [hX1_, up2_k _ _ _ (by decide)] at c_14; exact c_14
    refine lv_iconst (v := 0) hx hb dX0_growOlder_18 (by decide) ?_
    refine lv_istore_n (lv' := [(1, .int 0), (0, .ref (ga g [11, c, 0]))]) hx hb dX0_growOlder_19 rfl hl (by decide) rfl (fun ls hl => ?_)
    have L20 : ∀ (fu : Nat) (i : Nat) (Y : xX) (H : Heap) (locs : List Loc) (ls : Array Slot), (i ≤ 8) → (Y = sOldT (vP I p) (sSz h p) X i) → (xCh Y) → 8 - i < fu → xR g (xD h) (sX I c Y) (xFh h) n H → va_S (gA g) s.heap H locs → lv_has ls 2 [(0, .ref (ga g [11, c, 0])), (1, .int (nI i))] → W P_ l e_ { frames := 3, cells := 0, slots := 0, locals := 55 } s m_ ([.ref (ga g [11, c, 0])] : List Value).toArray bl_ mt_ cd_ H locs 0 0 (MQ bl_ (xQc g none (xR g (xD h) (sX I c (sOld (vP I p) (sSz h p) X)) (xFh h) n)) ([.ref (ga g [11, c, 0])] : List Value).toArray s 0 0 (gA g)) (F0 m_ 20 ls []) := by
      intro fu
      induction fu with
      | zero => intro i Y H locs ls hi hY hcy hfu; exact absurd hfu (Nat.not_lt_zero _)
      | succ fu ih20 =>
        intro i Y H locs ls hi hY hcy hfu hH hS hl
        refine lv_iload_n hx hb dX0_growOlder_20 rfl (lv_at hl 1 rfl) ?_
        refine lv_bipush (v := 8) hx hb dX0_growOlder_21 (by decide) ?_
        refine lv_icmp_ge (tgt := 50) hx hb dX0_growOlder_23 (by decide) (fun c_23 => ?_) (fun c_23 => ?_)
        · skip
          have c_23 := (nI_leI (a := 8) (b := i) (by omega) (by omega)).mp c_23
          exact x_vret hx hb hr hlocks hS dX0_growOlder_50 (by rw [sOld, if_pos h7, show (8 : Nat) = i by omega, ← hY]; exact hH)
        · skip
          have c_23 : ¬ _ := fun z_ => c_23 ((nI_leI (a := 8) (b := i) (by omega) (by omega)).mpr z_)
          rcases Nat.lt_or_ge i (sSz h p) with hlt | hge
          · skip
            have hYa : sAct (vP I p) Y i = sAct (vP I p) X i := by rw [hY]; exact sAct_st (sOldT_st _ _ _ _) i
            refine lv_aload_n hx hb dX0_growOlder_26 rfl (lv_at hl 0 rfl) ?_
            refine lv_iload_n hx hb dX0_growOlder_27 rfl (lv_at hl 1 rfl) ?_
            refine x_V1 hx hb hml hown hE hS hl.1 cyX0_isActiveTask tw542 (c_X0_isActiveTask l g h I n c Y hc p hp hpp hW i hlt hcy) ⟨Nat.le_of_ble_eq_true rfl, Nat.le_of_ble_eq_true rfl⟩ ⟨Nat.le_of_ble_eq_true rfl, Nat.le_of_ble_eq_true rfl⟩ (x_recv hK hH (id := [11, c, 0]) (by first | trivial | (simp only [xD]; omega)) (ci := 0) rfl (by decide) rfl) hH rfl rfl (Nat.le_of_ble_eq_true rfl) dX0_growOlder_28 (fun H locs hH hS => ?_)
            refine lv_if_eq (tgt := 44) hx hb dX0_growOlder_31 (by decide) (fun c_31 => ?_) (fun c_31 => ?_)
            · skip
              refine lv_iinc (v := (nI (i + 1))) (lv' := [(1, .int (nI (i + 1))), (0, .ref (ga g [11, c, 0]))]) hx hb dX0_growOlder_44 hl (k := 1) rfl (by first | rfl | exact nI_1 _ | exact nI_add _ _) (by decide) rfl (fun ls hl => ?_)
              refine lv_goto (tgt := 20) hx hb dX0_growOlder_47 (by decide) ?_
              exact ih20 (i + 1) Y _ _ _ (by omega) (by rw [hY]; refine (sOldT_no (fun z_ => ?_)).symm; rw [← hYa, (b01_eq0 _).mp c_31] at z_; cases z_.2) hcy (by omega) hH hS (lv_sub hl [1, 0] rfl)
            · skip
              refine lv_aload_n hx hb dX0_growOlder_34 rfl (lv_at hl 0 rfl) ?_
              refine x_get (C := RX0) (T := TX0) (N := 11) (ci := 0) hx hb hts iu0 hown hK hH (id := [11, c, 0]) (by first | trivial | (simp only [xD]; omega)) rfl rfl (by decide) 4 (by decide) (hts _ tw91) (fun _ h9 => h9) (sX_at _ _ _ _) (v := .ref (ga g [11, c, 4])) rfl dX0_growOlder_35 ?_
              refine lv_iload_n hx hb dX0_growOlder_38 rfl (lv_at hl 1 rfl) ?_
              refine lv_dup2_11 hx hb dX0_growOlder_39 rfl rfl ?_
              refine x_iald hx hb hK hH (id := [11, c, 4]) (by first | trivial | (simp only [xD]; omega)) (L := 8) rfl (sX_at _ _ _ _) i rfl (by omega) (by decide) dX0_growOlder_40 ?_
              refine lv_iconst (v := 1) hx hb dX0_growOlder_41 (by decide) ?_
              refine lv_iadd hx hb dX0_growOlder_42 ?_
              obtain ⟨X2_, hX2_⟩ : ∃ z, z = up2 Y 4 i ((Y 4 i) + 1) := ⟨_, rfl⟩
              refine x_iast hx hb hK hH hS (id := [11, c, 4]) (by first | trivial | (simp only [xD]; omega)) (L := 8) rfl i rfl (by omega) (by decide) ((sX_up _ _ _ _ _ _).trans (congrArg (sX I c) hX2_.symm)) dX0_growOlder_43 (fun H locs hH hS => ?_)
              refine lv_iinc (v := (nI (i + 1))) (lv' := [(1, .int (nI (i + 1))), (0, .ref (ga g [11, c, 0]))]) hx hb dX0_growOlder_44 hl (k := 1) rfl (by first | rfl | exact nI_1 _ | exact nI_add _ _) (by decide) rfl (fun ls hl => ?_)
              refine lv_goto (tgt := 20) hx hb dX0_growOlder_47 (by decide) ?_
              exact ih20 (i + 1) X2_ _ _ _ (by omega) (by rw [hX2_, hY]; exact sOldT_yes ⟨hlt, hYa ▸ b01_ne0 c_31⟩) (by rw [hX2_]; exact hcy.off (by decide) _ _) (by omega) hH hS (lv_sub hl [1, 0] rfl)
          · skip
            refine lv_aload_n hx hb dX0_growOlder_26 rfl (lv_at hl 0 rfl) ?_
            refine lv_iload_n hx hb dX0_growOlder_27 rfl (lv_at hl 1 rfl) ?_
            refine x_V1 hx hb hml hown hE hS hl.1 cyX0_isActiveTask tw542 (c_X0_isActiveTask_no l g h I n c Y hc p hp hpp hW i hge (by omega)) ⟨Nat.le_of_ble_eq_true rfl, Nat.le_of_ble_eq_true rfl⟩ ⟨Nat.le_of_ble_eq_true rfl, Nat.le_of_ble_eq_true rfl⟩ (x_recv hK hH (id := [11, c, 0]) (by first | trivial | (simp only [xD]; omega)) (ci := 0) rfl (by decide) rfl) hH rfl rfl (Nat.le_of_ble_eq_true rfl) dX0_growOlder_28 (fun H locs hH hS => ?_)
            refine lv_if_eq (tgt := 44) hx hb dX0_growOlder_31 (by decide) (fun _ => ?_) (fun q_ => absurd (by decide) q_)
            refine lv_iinc (v := (nI (i + 1))) (lv' := [(1, .int (nI (i + 1))), (0, .ref (ga g [11, c, 0]))]) hx hb dX0_growOlder_44 hl (k := 1) rfl (by first | rfl | exact nI_1 _ | exact nI_add _ _) (by decide) rfl (fun ls hl => ?_)
            refine lv_goto (tgt := 20) hx hb dX0_growOlder_47 (by decide) ?_
            exact ih20 (i + 1) Y _ _ _ (by omega) (by rw [hY]; exact (sOldT_no (fun z_ => by omega)).symm) hcy (by omega) hH hS (lv_sub hl [1, 0] rfl)
    exact L20 _ 0 X1_ _ _ _ (by omega) (by rw [hX1_]; exact (sOldT_0 _ _ _).symm) (by rw [hX1_]; exact hch.off (by decide) _ _) (Nat.lt_succ_self _) hH hS (lv_sub hl [1, 0] rfl)
  · skip
    have h7 : ¬ X 0 7 = 0 := by rw [hX1_, up2_k _ _ _ (by decide)] at c_14; exact c_14
    exact x_vret hx hb hr hlocks hS dX0_growOlder_17 (by rw [sOld, if_neg h7]; rw [hX1_] at hH; exact hH)
end
section
/-! CONTRACTS: a case, its loops -/
/-- the plan of a case is another one -/
abbrev hPl (h : xS) (c q : Nat) : xS := (sNp h, sNc h, sSz h, sCn h, fun d => if d = c then q else sPl h d)
theorem xFh_pl (h : xS) (c q : Nat) : up (xFh h) [11, c, 0] 0 (some [5, q]) = xFh (hPl h c q) := by
  funext id k
  by_cases e : id = [11, c, 0]
  · subst e
    by_cases e2 : k = 0
    · subst e2
      rw [up_at]
      show some [5, q] = some [5, if c = c then q else sPl h c]
      rw [if_pos rfl]
    · rw [up_ne e2]
      exact match k, e2 with
        | 0, e2 => absurd rfl e2
        | 1, _ => rfl
        | 2, _ => rfl
        | 3, _ => rfl
        | 4, _ => rfl
        | 5, _ => rfl
        | _ + 6, _ => rfl
  · rw [up_id e]
    unfold xFh
    split <;> try rfl
    rename_i d
    have hd : d ≠ c := fun z => e (by rw [z])
    split <;> first | rfl | (show some [5, sPl h d] = some [5, if d = c then q else sPl h d]; rw [if_neg hd])
theorem xD_pl (h : xS) (c q : Nat) : xD (hPl h c q) = xD h := rfl
set_option maxHeartbeats 1000000 in
set_option maxRecDepth 100000 in
theorem c_X0_goBy (l : Launch) (g : xG) (h : xS) (I : xI) (n c : Nat) (X : xX) (hc : c < sNc h ∨ c = 4) (q : Nat) : xM l yX0_goBy (xws yX0_goBy cX0_goBy 2 none) 1 12 g [.ref (ga g [11, c, 0]), .ref (ga g [5, q])] (xR g (xD h) (sX I c X) (xFh h) n) none (xR g (xD (hPl h c q)) (sX I c X) (xFh (hPl h c q)) n) 0 0 := by
  refine xM.of (by decide) (Nat.le_of_ble_eq_true rfl) ?_
  intro P_ e_ s m_ bl_ mt_ cd_ ls hx hb hr hown hlocks hml hnm hE hK hts hH hS hl
  have hl : lv_has ls 2 [(0, .ref (ga g [11, c, 0])), (1, .ref (ga g [5, q]))] := hl
  refine lv_aload_n hx hb dX0_goBy_0 rfl (lv_at hl 1 rfl) ?_
  refine lv_ifnull hx hb dX0_goBy_1 ?_
  refine lv_aload_n hx hb dX0_goBy_4 rfl (lv_at hl 0 rfl) ?_
  refine lv_aload_n hx hb dX0_goBy_5 rfl (lv_at hl 1 rfl) ?_
  refine x_put (C := RX0) (T := TX0) (N := 11) (ci := 0) hx hb hts iu0 tyX0 tyX0_ok nmX0 hown hK hH hS (id := [11, c, 0]) (by first | trivial | (simp only [xD]; omega)) rfl rfl (by decide) 0 (by decide) (hts _ tw86) (fun _ h9 => h9) (Or.inl rfl) (ty := (.object "CasebookSteps$Plan")) (v := .ref (ga g [5, q])) (by decide +kernel) rfl rfl (I' := (sX I c X)) (F' := (xFh (hPl h c q))) (fun _ _ => rfl) (fun i hi => by rw [← show _ = (xFh (hPl h c q)) from (xFh_pl h c q)]; exact up_id hi) (fun j => by rw [← show _ = (xFh (hPl h c q)) from (xFh_pl h c q), up_row]; exact xv_updq (x := (some [5, q])) rfl j) dX0_goBy_6 (fun H locs hH hS => ?_)
  exact x_vret hx hb hr hlocks hS dX0_goBy_9 hH

def sNw1 (X : xX) (i : Nat) : xX := fun f k => if f = 1 ∧ k < i then 0 else X f k
def sNw2 (X : xX) (i : Nat) : xX := fun f k => if f = 1 ∧ k < 4 then 0 else if f = 2 ∧ k < i then 105 else if (f = 4 ∨ f = 5) ∧ k < i then 0 else X f k
def sNew (X : xX) : xX := up2 (up2 (up2 (up2 (sNw2 X 8) 0 6 0) 0 7 0) 0 8 (-1)) 0 10 0
theorem sNw1_0 (X : xX) : sNw1 X 0 = X := by funext f k; unfold sNw1; rw [if_neg (fun z => by omega)]
theorem sNw1_s (X : xX) (i : Nat) : up2 (sNw1 X i) 1 i 0 = sNw1 X (i + 1) := by
  funext f k
  unfold up2 sNw1
  split
  · rename_i e; rw [if_pos ⟨e.1, by omega⟩]
  · rename_i e
    by_cases e2 : f = 1 ∧ k < i
    · rw [if_pos e2, if_pos ⟨e2.1, by omega⟩]
    · rw [if_neg e2, if_neg (fun z => by have : ¬ k = i := fun q => e ⟨z.1, q⟩; exact e2 ⟨z.1, by omega⟩)]
theorem sNw2_0 (X : xX) : sNw2 X 0 = sNw1 X 4 := by
  funext f k
  unfold sNw2 sNw1
  split
  · rfl
  · rw [if_neg (fun z => by omega), if_neg (fun z => by omega)]
theorem sNw2_s (X : xX) (i : Nat) : up2 (up2 (up2 (sNw2 X i) 2 i 105) 4 i 0) 5 i 0 = sNw2 X (i + 1) := by
  funext f k
  by_cases e1 : f = 1
  · subst e1; simp [up2, sNw2]
  · by_cases e2 : f = 2
    · subst e2
      by_cases ek : k = i
      · subst ek; simp [up2, sNw2]
      · by_cases h : k < i
        · simp [up2, sNw2, ek, h, Nat.lt_succ_of_lt h]
        · simp [up2, sNw2, ek, h, show ¬ k < i + 1 by omega]
    · by_cases e4 : f = 4
      · subst e4
        by_cases ek : k = i
        · subst ek; simp [up2, sNw2]
        · by_cases h : k < i
          · simp [up2, sNw2, ek, h, Nat.lt_succ_of_lt h]
          · simp [up2, sNw2, ek, h, show ¬ k < i + 1 by omega]
      · by_cases e5 : f = 5
        · subst e5
          by_cases ek : k = i
          · subst ek; simp [up2, sNw2]
          · by_cases h : k < i
            · simp [up2, sNw2, ek, h, Nat.lt_succ_of_lt h]
            · simp [up2, sNw2, ek, h, show ¬ k < i + 1 by omega]
        · simp [up2, sNw2, e1, e2, e4, e5]
set_option maxHeartbeats 1000000 in
set_option maxRecDepth 100000 in
theorem c_X0_beginAnew (l : Launch) (g : xG) (h : xS) (I : xI) (n c : Nat) (X : xX) (hc : c < sNc h ∨ c = 4) (q : Nat) : xM l yX0_beginAnew (xws yX0_beginAnew cX0_beginAnew 3 none) 2 33 g [.ref (ga g [11, c, 0]), .ref (ga g [5, q])] (xR g (xD h) (sX I c X) (xFh h) n) none (xR g (xD (hPl h c q)) (sX I c (sNew X)) (xFh (hPl h c q)) n) 0 0 := by
  refine xM.of (by decide) (Nat.le_of_ble_eq_true rfl) ?_
  intro P_ e_ s m_ bl_ mt_ cd_ ls hx hb hr hown hlocks hml hnm hE hK hts hH hS hl
  have hl : lv_has ls 3 [(0, .ref (ga g [11, c, 0])), (1, .ref (ga g [5, q]))] := hl
  refine lv_aload_n hx hb dX0_beginAnew_0 rfl (lv_at hl 0 rfl) ?_
  refine lv_aload_n hx hb dX0_beginAnew_1 rfl (lv_at hl 1 rfl) ?_
  refine x_V0 hx hb hml hown hE hS hl.1 cyX0_goBy tw515 (c_X0_goBy l g h I n c X hc q) ⟨Nat.le_of_ble_eq_true rfl, Nat.le_of_ble_eq_true rfl⟩ ⟨Nat.le_of_ble_eq_true rfl, Nat.le_of_ble_eq_true rfl⟩ (x_recv hK hH (id := [11, c, 0]) (by first | trivial | (simp only [xD]; omega)) (ci := 0) rfl (by decide) rfl) hH rfl rfl (Nat.le_of_ble_eq_true rfl) dX0_beginAnew_2 (fun H locs hH hS => ?_)
  refine lv_iconst (v := 0) hx hb dX0_beginAnew_5 (by decide) ?_
  refine lv_istore_n (lv' := [(2, .int 0), (0, .ref (ga g [11, c, 0])), (1, .ref (ga g [5, q]))]) hx hb dX0_beginAnew_6 rfl hl (by decide) rfl (fun ls hl => ?_)
  have L7 : ∀ (fu : Nat) (i : Nat) (Y : xX) (H : Heap) (locs : List Loc) (ls : Array Slot), (i ≤ 4) → (Y = sNw1 X i) → 4 - i < fu → xR g (xD h) (sX I c Y) (xFh (hPl h c q)) n H → va_S (gA g) s.heap H locs → lv_has ls 3 [(0, .ref (ga g [11, c, 0])), (2, .int (nI i))] → W P_ l e_ { frames := 2, cells := 0, slots := 0, locals := 33 } s m_ ([.ref (ga g [11, c, 0]), .ref (ga g [5, q])] : List Value).toArray bl_ mt_ cd_ H locs 0 0 (MQ bl_ (xQc g none (xR g (xD (hPl h c q)) (sX I c (sNew X)) (xFh (hPl h c q)) n)) ([.ref (ga g [11, c, 0]), .ref (ga g [5, q])] : List Value).toArray s 0 0 (gA g)) (F0 m_ 7 ls []) := by
    intro fu
    induction fu with
    | zero => intro i Y H locs ls hi hY hfu; exact absurd hfu (Nat.not_lt_zero _)
    | succ fu ih7 =>
      intro i Y H locs ls hi hY hfu hH hS hl
      refine lv_iload_n hx hb dX0_beginAnew_7 rfl (lv_at hl 1 rfl) ?_
      refine lv_iconst (v := 4) hx hb dX0_beginAnew_8 (by decide) ?_
      refine lv_icmp_ge (tgt := 25) hx hb dX0_beginAnew_9 (by decide) (fun c_9 => ?_) (fun c_9 => ?_)
      · skip
        have c_9 := (nI_leI (a := 4) (b := i) (by omega) (by omega)).mp c_9
        refine lv_iconst (v := 0) hx hb dX0_beginAnew_25 (by decide) ?_
        refine lv_istore_n (lv' := [(2, .int 0), (0, .ref (ga g [11, c, 0]))]) hx hb dX0_beginAnew_26 rfl hl (by decide) rfl (fun ls hl => ?_)
        have L27 : ∀ (fu : Nat) (i : Nat) (Z : xX) (H : Heap) (locs : List Loc) (ls : Array Slot), (i ≤ 8) → (Z = sNw2 X i) → 8 - i < fu → xR g (xD h) (sX I c Z) (xFh (hPl h c q)) n H → va_S (gA g) s.heap H locs → lv_has ls 3 [(0, .ref (ga g [11, c, 0])), (2, .int (nI i))] → W P_ l e_ { frames := 2, cells := 0, slots := 0, locals := 33 } s m_ ([.ref (ga g [11, c, 0]), .ref (ga g [5, q])] : List Value).toArray bl_ mt_ cd_ H locs 0 0 (MQ bl_ (xQc g none (xR g (xD (hPl h c q)) (sX I c (sNew X)) (xFh (hPl h c q)) n)) ([.ref (ga g [11, c, 0]), .ref (ga g [5, q])] : List Value).toArray s 0 0 (gA g)) (F0 m_ 27 ls []) := by
          intro fu
          induction fu with
          | zero => intro i Z H locs ls hi hZ hfu; exact absurd hfu (Nat.not_lt_zero _)
          | succ fu ih27 =>
            intro i Z H locs ls hi hZ hfu hH hS hl
            refine lv_iload_n hx hb dX0_beginAnew_27 rfl (lv_at hl 1 rfl) ?_
            refine lv_bipush (v := 8) hx hb dX0_beginAnew_28 (by decide) ?_
            refine lv_icmp_ge (tgt := 61) hx hb dX0_beginAnew_30 (by decide) (fun c_30 => ?_) (fun c_30 => ?_)
            · skip
              have c_30 := (nI_leI (a := 8) (b := i) (by omega) (by omega)).mp c_30
              refine lv_aload_n hx hb dX0_beginAnew_61 rfl (lv_at hl 0 rfl) ?_
              refine lv_iconst (v := 0) hx hb dX0_beginAnew_62 (by decide) ?_
              obtain ⟨X1_, hX1_⟩ : ∃ z, z = up2 Z 0 6 0 := ⟨_, rfl⟩
              refine x_put (C := RX0) (T := TX0) (N := 11) (ci := 0) hx hb hts iu0 tyX0 tyX0_ok nmX0 hown hK hH hS (id := [11, c, 0]) (by first | trivial | (simp only [xD]; omega)) rfl rfl (by decide) 6 (by decide) (hts _ tw93) (fun _ h9 => h9) (Or.inl rfl) (ty := .int) (v := .int 0) (by decide +kernel) rfl rfl (I' := (sX I c X1_)) (F' := (xFh (hPl h c q))) (fun i hi => by rw [show (sX I c X1_) = _ from Eq.symm ((sX_up _ _ _ _ _ _).trans (congrArg (sX I c) hX1_.symm))]; exact up_id hi) (fun _ _ => rfl) (fun j => by rw [show (sX I c X1_) = _ from Eq.symm ((sX_up _ _ _ _ _ _).trans (congrArg (sX I c) hX1_.symm)), up_row]; exact xv_upd rfl j) dX0_beginAnew_63 (fun H locs hH hS => ?_)
              refine lv_aload_n hx hb dX0_beginAnew_66 rfl (lv_at hl 0 rfl) ?_
              refine lv_iconst (v := 0) hx hb dX0_beginAnew_67 (by decide) ?_
              obtain ⟨X2_, hX2_⟩ : ∃ z, z = up2 X1_ 0 7 0 := ⟨_, rfl⟩
              refine x_put (C := RX0) (T := TX0) (N := 11) (ci := 0) hx hb hts iu0 tyX0 tyX0_ok nmX0 hown hK hH hS (id := [11, c, 0]) (by first | trivial | (simp only [xD]; omega)) rfl rfl (by decide) 7 (by decide) (hts _ tw95) (fun _ h9 => h9) (Or.inl rfl) (ty := .boolean) (v := .int 0) (by decide +kernel) rfl rfl (I' := (sX I c X2_)) (F' := (xFh (hPl h c q))) (fun i hi => by rw [show (sX I c X2_) = _ from Eq.symm ((sX_up _ _ _ _ _ _).trans (congrArg (sX I c) hX2_.symm))]; exact up_id hi) (fun _ _ => rfl) (fun j => by rw [show (sX I c X2_) = _ from Eq.symm ((sX_up _ _ _ _ _ _).trans (congrArg (sX I c) hX2_.symm)), up_row]; exact xv_upd rfl j) dX0_beginAnew_68 (fun H locs hH hS => ?_)
              refine lv_aload_n hx hb dX0_beginAnew_71 rfl (lv_at hl 0 rfl) ?_
              refine lv_iconst (v := (-1)) hx hb dX0_beginAnew_72 (by decide) ?_
              obtain ⟨X3_, hX3_⟩ : ∃ z, z = up2 X2_ 0 8 (-1) := ⟨_, rfl⟩
              refine x_put (C := RX0) (T := TX0) (N := 11) (ci := 0) hx hb hts iu0 tyX0 tyX0_ok nmX0 hown hK hH hS (id := [11, c, 0]) (by first | trivial | (simp only [xD]; omega)) rfl rfl (by decide) 8 (by decide) (hts _ tw97) (fun _ h9 => h9) (Or.inl rfl) (ty := .int) (v := .int (-1)) (by decide +kernel) rfl rfl (I' := (sX I c X3_)) (F' := (xFh (hPl h c q))) (fun i hi => by rw [show (sX I c X3_) = _ from Eq.symm ((sX_up _ _ _ _ _ _).trans (congrArg (sX I c) hX3_.symm))]; exact up_id hi) (fun _ _ => rfl) (fun j => by rw [show (sX I c X3_) = _ from Eq.symm ((sX_up _ _ _ _ _ _).trans (congrArg (sX I c) hX3_.symm)), up_row]; exact xv_upd rfl j) dX0_beginAnew_73 (fun H locs hH hS => ?_)
              refine lv_aload_n hx hb dX0_beginAnew_76 rfl (lv_at hl 0 rfl) ?_
              refine lv_iconst (v := 0) hx hb dX0_beginAnew_77 (by decide) ?_
              obtain ⟨X4_, hX4_⟩ : ∃ z, z = up2 X3_ 0 10 0 := ⟨_, rfl⟩
              refine x_put (C := RX0) (T := TX0) (N := 11) (ci := 0) hx hb hts iu0 tyX0 tyX0_ok nmX0 hown hK hH hS (id := [11, c, 0]) (by first | trivial | (simp only [xD]; omega)) rfl rfl (by decide) 10 (by decide) (hts _ tw101) (fun _ h9 => h9) (Or.inl rfl) (ty := .int) (v := .int 0) (by decide +kernel) rfl rfl (I' := (sX I c X4_)) (F' := (xFh (hPl h c q))) (fun i hi => by rw [show (sX I c X4_) = _ from Eq.symm ((sX_up _ _ _ _ _ _).trans (congrArg (sX I c) hX4_.symm))]; exact up_id hi) (fun _ _ => rfl) (fun j => by rw [show (sX I c X4_) = _ from Eq.symm ((sX_up _ _ _ _ _ _).trans (congrArg (sX I c) hX4_.symm)), up_row]; exact xv_upd rfl j) dX0_beginAnew_78 (fun H locs hH hS => ?_)
              exact x_vret hx hb hr hlocks hS dX0_beginAnew_81 (by rw [hX4_, hX3_, hX2_, hX1_, hZ, show i = 8 by omega] at hH; exact hH)
            · skip
              have c_30 : ¬ _ := fun z_ => c_30 ((nI_leI (a := 8) (b := i) (by omega) (by omega)).mpr z_)
              refine lv_aload_n hx hb dX0_beginAnew_33 rfl (lv_at hl 0 rfl) ?_
              refine x_get (C := RX0) (T := TX0) (N := 11) (ci := 0) hx hb hts iu0 hown hK hH (id := [11, c, 0]) (by first | trivial | (simp only [xD]; omega)) rfl rfl (by decide) 2 (by decide) (hts _ tw89) (fun _ h9 => h9) (sX_at _ _ _ _) (v := .ref (ga g [11, c, 2])) rfl dX0_beginAnew_34 ?_
              refine lv_iload_n hx hb dX0_beginAnew_37 rfl (lv_at hl 1 rfl) ?_
              refine lv_bipush (v := 105) hx hb dX0_beginAnew_38 (by decide) ?_
              obtain ⟨X5_, hX5_⟩ : ∃ z, z = up2 Z 2 i 105 := ⟨_, rfl⟩
              refine x_cast hx hb hK hH hS (id := [11, c, 2]) (by first | trivial | (simp only [xD]; omega)) (L := 8) rfl i rfl (by omega) (by decide) (by rfl) ((sX_up _ _ _ _ _ _).trans (congrArg (sX I c) hX5_.symm)) dX0_beginAnew_40 (fun H locs hH hS => ?_)
              refine lv_aload_n hx hb dX0_beginAnew_41 rfl (lv_at hl 0 rfl) ?_
              refine x_get (C := RX0) (T := TX0) (N := 11) (ci := 0) hx hb hts iu0 hown hK hH (id := [11, c, 0]) (by first | trivial | (simp only [xD]; omega)) rfl rfl (by decide) 4 (by decide) (hts _ tw91) (fun _ h9 => h9) (sX_at _ _ _ _) (v := .ref (ga g [11, c, 4])) rfl dX0_beginAnew_42 ?_
              refine lv_iload_n hx hb dX0_beginAnew_45 rfl (lv_at hl 1 rfl) ?_
              refine lv_iconst (v := 0) hx hb dX0_beginAnew_46 (by decide) ?_
              obtain ⟨X6_, hX6_⟩ : ∃ z, z = up2 X5_ 4 i 0 := ⟨_, rfl⟩
              refine x_iast hx hb hK hH hS (id := [11, c, 4]) (by first | trivial | (simp only [xD]; omega)) (L := 8) rfl i rfl (by omega) (by decide) ((sX_up _ _ _ _ _ _).trans (congrArg (sX I c) hX6_.symm)) dX0_beginAnew_47 (fun H locs hH hS => ?_)
              refine lv_aload_n hx hb dX0_beginAnew_48 rfl (lv_at hl 0 rfl) ?_
              refine x_get (C := RX0) (T := TX0) (N := 11) (ci := 0) hx hb hts iu0 hown hK hH (id := [11, c, 0]) (by first | trivial | (simp only [xD]; omega)) rfl rfl (by decide) 5 (by decide) (hts _ tw92) (fun _ h9 => h9) (sX_at _ _ _ _) (v := .ref (ga g [11, c, 5])) rfl dX0_beginAnew_49 ?_
              refine lv_iload_n hx hb dX0_beginAnew_52 rfl (lv_at hl 1 rfl) ?_
              refine lv_iconst (v := 0) hx hb dX0_beginAnew_53 (by decide) ?_
              obtain ⟨X7_, hX7_⟩ : ∃ z, z = up2 X6_ 5 i 0 := ⟨_, rfl⟩
              refine x_iast hx hb hK hH hS (id := [11, c, 5]) (by first | trivial | (simp only [xD]; omega)) (L := 8) rfl i rfl (by omega) (by decide) ((sX_up _ _ _ _ _ _).trans (congrArg (sX I c) hX7_.symm)) dX0_beginAnew_54 (fun H locs hH hS => ?_)
              refine lv_iinc (v := (nI (i + 1))) (lv' := [(2, .int (nI (i + 1))), (0, .ref (ga g [11, c, 0]))]) hx hb dX0_beginAnew_55 hl (k := 1) rfl (by first | rfl | exact nI_1 _ | exact nI_add _ _) (by decide) rfl (fun ls hl => ?_)
              refine lv_goto (tgt := 27) hx hb dX0_beginAnew_58 (by decide) ?_
              exact ih27 (i + 1) X7_ _ _ _ (by omega) (by rw [hX7_, hX6_, hX5_, hZ]; exact sNw2_s X i) (by omega) hH hS (lv_sub hl [1, 0] rfl)
        exact L27 _ 0 Y _ _ _ (by omega) (by rw [hY, show i = 4 by omega]; exact (sNw2_0 X).symm) (Nat.lt_succ_self _) hH hS (lv_sub hl [1, 0] rfl)
      · skip
        have c_9 : ¬ _ := fun z_ => c_9 ((nI_leI (a := 4) (b := i) (by omega) (by omega)).mpr z_)
        refine lv_aload_n hx hb dX0_beginAnew_12 rfl (lv_at hl 0 rfl) ?_
        refine x_get (C := RX0) (T := TX0) (N := 11) (ci := 0) hx hb hts iu0 hown hK hH (id := [11, c, 0]) (by first | trivial | (simp only [xD]; omega)) rfl rfl (by decide) 1 (by decide) (hts _ tw88) (fun _ h9 => h9) (sX_at _ _ _ _) (v := .ref (ga g [11, c, 1])) rfl dX0_beginAnew_13 ?_
        refine lv_iload_n hx hb dX0_beginAnew_16 rfl (lv_at hl 1 rfl) ?_
        refine lv_iconst (v := 0) hx hb dX0_beginAnew_17 (by decide) ?_
        obtain ⟨X8_, hX8_⟩ : ∃ z, z = up2 Y 1 i 0 := ⟨_, rfl⟩
        refine x_iast hx hb hK hH hS (id := [11, c, 1]) (by first | trivial | (simp only [xD]; omega)) (L := 4) rfl i rfl (by omega) (by decide) ((sX_up _ _ _ _ _ _).trans (congrArg (sX I c) hX8_.symm)) dX0_beginAnew_18 (fun H locs hH hS => ?_)
        refine lv_iinc (v := (nI (i + 1))) (lv' := [(2, .int (nI (i + 1))), (0, .ref (ga g [11, c, 0]))]) hx hb dX0_beginAnew_19 hl (k := 1) rfl (by first | rfl | exact nI_1 _ | exact nI_add _ _) (by decide) rfl (fun ls hl => ?_)
        refine lv_goto (tgt := 7) hx hb dX0_beginAnew_22 (by decide) ?_
        exact ih7 (i + 1) X8_ _ _ _ (by omega) (by rw [hX8_, hY]; exact sNw1_s X i) (by omega) hH hS (lv_sub hl [1, 0] rfl)
  exact L7 _ 0 X _ _ _ (by omega) (sNw1_0 X).symm (Nat.lt_succ_self _) hH hS (lv_sub hl [1, 0] rfl)

def sRem (X : xX) (i : Nat) : xX := fun f k => if f = 3 ∧ k < i then X 2 k else X f k
theorem sRem_0 (X : xX) : sRem X 0 = X := by funext f k; unfold sRem; rw [if_neg (fun z => by omega)]
theorem sRem_s (X : xX) (i : Nat) : up2 (sRem X i) 3 i (sRem X i 2 i) = sRem X (i + 1) := by
  have e0 : sRem X i 2 i = X 2 i := by unfold sRem; rw [if_neg (fun z => absurd z.1 (by decide))]
  rw [e0]
  funext f k
  unfold up2 sRem
  split
  · rename_i e; rw [if_pos ⟨e.1, by omega⟩, e.2]
  · rename_i e
    by_cases e2 : f = 3 ∧ k < i
    · rw [if_pos e2, if_pos ⟨e2.1, by omega⟩]
    · rw [if_neg e2, if_neg (fun z => by have : ¬ k = i := fun q => e ⟨z.1, q⟩; exact e2 ⟨z.1, by omega⟩)]
theorem sRem_2 (X : xX) (i : Nat) : sRem X i 2 = X 2 := by funext k; unfold sRem; rw [if_neg (fun z => absurd z.1 (by decide))]
def sChg (X : xX) (y : Int32) : Nat → Nat
  | 0 => 0
  | i + 1 => sChg X y i + if nI i ≠ y ∧ X 2 i ≠ X 3 i then 1 else 0
def sCnt (X : xX) (v : Int32) : Nat → Nat
  | 0 => 0
  | i + 1 => sCnt X v i + if X 2 i = v then 1 else 0
def sOvr (P : Nat → Nat → Int32) (X : xX) : Nat → Bool
  | 0 => true
  | i + 1 => sOvr P X i && (decide (P i 1 ≠ -1) || decide (X 2 i = 99) || decide (X 2 i = 120))
def sSum (X : xX) : Nat → Int64
  | 0 => 0
  | i + 1 => sSum X i + (X 4 i).toInt64
def sFew (P : Nat → Nat → Int32) (X : xX) : Nat → Int32
  | 0 => -1
  | i + 1 => if sAct P X i = true ∧ 0 < sUnt P X i ∧ (sFew P X i = -1 ∨ sUnt P X i < sFew P X i) then sUnt P X i else sFew P X i
def sLat (P : Nat → Nat → Int32) (X : xX) : Nat → Nat
  | 0 => 0
  | i + 1 => sLat P X i + if sAct P X i = true ∧ sUnt P X i ≤ 0 then 1 else 0
theorem sOvr_mono {P : Nat → Nat → Int32} {X : xX} (a : Nat) : ∀ b, a ≤ b → sOvr P X a = false → sOvr P X b = false
  | 0, h, q => by rw [show a = 0 by omega] at q; exact q
  | b + 1, h, q => by
    by_cases e : a = b + 1
    · rw [← e]; exact q
    · show (_ && _) = false
      rw [sOvr_mono a b (by omega) q]; rfl
set_option maxHeartbeats 1000000 in
set_option maxRecDepth 100000 in
theorem c_X0_rememberStates (l : Launch) (g : xG) (h : xS) (I : xI) (n c : Nat) (X : xX) (hc : c < sNc h ∨ c = 4) (hch : xCh X) : xM l yX0_rememberStates (xws yX0_rememberStates cX0_rememberStates 2 none) 1 12 g [.ref (ga g [11, c, 0])] (xR g (xD h) (sX I c X) (xFh h) n) none (xR g (xD h) (sX I c (sRem X 8)) (xFh h) n) 0 0 := by
  refine xM.of (by decide) (Nat.le_of_ble_eq_true rfl) ?_
  intro P_ e_ s m_ bl_ mt_ cd_ ls hx hb hr hown hlocks hml hnm hE hK hts hH hS hl
  have hl : lv_has ls 2 [(0, .ref (ga g [11, c, 0]))] := hl
  refine lv_iconst (v := 0) hx hb dX0_rememberStates_0 (by decide) ?_
  refine lv_istore_n (lv' := [(1, .int 0), (0, .ref (ga g [11, c, 0]))]) hx hb dX0_rememberStates_1 rfl hl (by decide) rfl (fun ls hl => ?_)
  have L2 : ∀ (fu : Nat) (i : Nat) (Y : xX) (H : Heap) (locs : List Loc) (ls : Array Slot), (i ≤ 8) → (Y = sRem X i) → 8 - i < fu → xR g (xD h) (sX I c Y) (xFh h) n H → va_S (gA g) s.heap H locs → lv_has ls 2 [(0, .ref (ga g [11, c, 0])), (1, .int (nI i))] → W P_ l e_ { frames := 1, cells := 0, slots := 0, locals := 12 } s m_ ([.ref (ga g [11, c, 0])] : List Value).toArray bl_ mt_ cd_ H locs 0 0 (MQ bl_ (xQc g none (xR g (xD h) (sX I c (sRem X 8)) (xFh h) n)) ([.ref (ga g [11, c, 0])] : List Value).toArray s 0 0 (gA g)) (F0 m_ 2 ls []) := by
    intro fu
    induction fu with
    | zero => intro i Y H locs ls hi hY hfu; exact absurd hfu (Nat.not_lt_zero _)
    | succ fu ih2 =>
      intro i Y H locs ls hi hY hfu hH hS hl
      refine lv_iload_n hx hb dX0_rememberStates_2 rfl (lv_at hl 1 rfl) ?_
      refine lv_bipush (v := 8) hx hb dX0_rememberStates_3 (by decide) ?_
      refine lv_icmp_ge (tgt := 26) hx hb dX0_rememberStates_5 (by decide) (fun c_5 => ?_) (fun c_5 => ?_)
      · skip
        have c_5 := (nI_leI (a := 8) (b := i) (by omega) (by omega)).mp c_5
        exact x_vret hx hb hr hlocks hS dX0_rememberStates_26 (by rw [show (8 : Nat) = i by omega, ← hY]; exact hH)
      · skip
        have c_5 : ¬ _ := fun z_ => c_5 ((nI_leI (a := 8) (b := i) (by omega) (by omega)).mpr z_)
        refine lv_aload_n hx hb dX0_rememberStates_8 rfl (lv_at hl 0 rfl) ?_
        refine x_get (C := RX0) (T := TX0) (N := 11) (ci := 0) hx hb hts iu0 hown hK hH (id := [11, c, 0]) (by first | trivial | (simp only [xD]; omega)) rfl rfl (by decide) 3 (by decide) (hts _ tw90) (fun _ h9 => h9) (sX_at _ _ _ _) (v := .ref (ga g [11, c, 3])) rfl dX0_rememberStates_9 ?_
        refine lv_iload_n hx hb dX0_rememberStates_12 rfl (lv_at hl 1 rfl) ?_
        refine lv_aload_n hx hb dX0_rememberStates_13 rfl (lv_at hl 0 rfl) ?_
        refine x_get (C := RX0) (T := TX0) (N := 11) (ci := 0) hx hb hts iu0 hown hK hH (id := [11, c, 0]) (by first | trivial | (simp only [xD]; omega)) rfl rfl (by decide) 2 (by decide) (hts _ tw89) (fun _ h9 => h9) (sX_at _ _ _ _) (v := .ref (ga g [11, c, 2])) rfl dX0_rememberStates_14 ?_
        refine lv_iload_n hx hb dX0_rememberStates_17 rfl (lv_at hl 1 rfl) ?_
        refine x_cald hx hb hK hH (id := [11, c, 2]) (by first | trivial | (simp only [xD]; omega)) (L := 8) rfl (sX_at _ _ _ _) i rfl (by omega) (by decide) dX0_rememberStates_18 ?_
        obtain ⟨X1_, hX1_⟩ : ∃ z, z = up2 Y 3 i (Y 2 i) := ⟨_, rfl⟩
        refine x_cast hx hb hK hH hS (id := [11, c, 3]) (by first | trivial | (simp only [xD]; omega)) (L := 8) rfl i rfl (by omega) (by decide) (by rw [hY, sRem_2]; exact hch i) ((sX_up _ _ _ _ _ _).trans (congrArg (sX I c) hX1_.symm)) dX0_rememberStates_19 (fun H locs hH hS => ?_)
        refine lv_iinc (v := (nI (i + 1))) (lv' := [(1, .int (nI (i + 1))), (0, .ref (ga g [11, c, 0]))]) hx hb dX0_rememberStates_20 hl (k := 1) rfl (by first | rfl | exact nI_1 _ | exact nI_add _ _) (by decide) rfl (fun ls hl => ?_)
        refine lv_goto (tgt := 2) hx hb dX0_rememberStates_23 (by decide) ?_
        exact ih2 (i + 1) X1_ _ _ _ (by omega) (by rw [hX1_, hY]; exact sRem_s X i) (by omega) hH hS (lv_sub hl [1, 0] rfl)
  exact L2 _ 0 X _ _ _ (by omega) (sRem_0 X).symm (Nat.lt_succ_self _) hH hS (lv_sub hl [1, 0] rfl)

set_option maxHeartbeats 1000000 in
set_option maxRecDepth 100000 in
theorem c_X0_changedStepsBut (l : Launch) (g : xG) (h : xS) (I : xI) (n c : Nat) (X : xX) (hc : c < sNc h ∨ c = 4) (y : Int32) : xM l yX0_changedStepsBut (xws yX0_changedStepsBut cX0_changedStepsBut 4 (some FieldType.int)) 1 12 g [.ref (ga g [11, c, 0]), .int y] (xR g (xD h) (sX I c X) (xFh h) n) (some (.int (nI (sChg X y 8)))) (xR g (xD h) (sX I c X) (xFh h) n) 0 0 := by
  refine xM.of (by decide) (Nat.le_of_ble_eq_true rfl) ?_
  intro P_ e_ s m_ bl_ mt_ cd_ ls hx hb hr hown hlocks hml hnm hE hK hts hH hS hl
  have hl : lv_has ls 4 [(0, .ref (ga g [11, c, 0])), (1, .int y)] := hl
  refine lv_iconst (v := 0) hx hb dX0_changedStepsBut_0 (by decide) ?_
  refine lv_istore_n (lv' := [(2, .int 0), (0, .ref (ga g [11, c, 0])), (1, .int y)]) hx hb dX0_changedStepsBut_1 rfl hl (by decide) rfl (fun ls hl => ?_)
  refine lv_iconst (v := 0) hx hb dX0_changedStepsBut_2 (by decide) ?_
  refine lv_istore_n (lv' := [(3, .int 0), (2, .int 0), (0, .ref (ga g [11, c, 0])), (1, .int y)]) hx hb dX0_changedStepsBut_3 rfl hl (by decide) rfl (fun ls hl => ?_)
  have L4 : ∀ (fu : Nat) (i : Nat) (a : Nat) (H : Heap) (locs : List Loc) (ls : Array Slot), (i ≤ 8) → (a = sChg X y i) → 8 - i < fu → xR g (xD h) (sX I c X) (xFh h) n H → va_S (gA g) s.heap H locs → lv_has ls 4 [(0, .ref (ga g [11, c, 0])), (1, .int y), (2, .int (nI a)), (3, .int (nI i))] → W P_ l e_ { frames := 1, cells := 0, slots := 0, locals := 12 } s m_ ([.ref (ga g [11, c, 0]), .int y] : List Value).toArray bl_ mt_ cd_ H locs 0 0 (MQ bl_ (xQc g (some (.int (nI (sChg X y 8)))) (xR g (xD h) (sX I c X) (xFh h) n)) ([.ref (ga g [11, c, 0]), .int y] : List Value).toArray s 0 0 (gA g)) (F0 m_ 4 ls []) := by
    intro fu
    induction fu with
    | zero => intro i a H locs ls hi ha hfu; exact absurd hfu (Nat.not_lt_zero _)
    | succ fu ih4 =>
      intro i a H locs ls hi ha hfu hH hS hl
      refine lv_iload_n hx hb dX0_changedStepsBut_4 rfl (lv_at hl 3 rfl) ?_
      refine lv_bipush (v := 8) hx hb dX0_changedStepsBut_5 (by decide) ?_
      refine lv_icmp_ge (tgt := 39) hx hb dX0_changedStepsBut_7 (by decide) (fun c_7 => ?_) (fun c_7 => ?_)
      · skip
        have c_7 := (nI_leI (a := 8) (b := i) (by omega) (by omega)).mp c_7
        refine lv_iload_n hx hb dX0_changedStepsBut_39 rfl (lv_at hl 2 rfl) ?_
        exact x_iret hx hb hr hlocks hS dX0_changedStepsBut_40 (by rw [ha, show (8 : Nat) = i by omega]) hH
      · skip
        have c_7 : ¬ _ := fun z_ => c_7 ((nI_leI (a := 8) (b := i) (by omega) (by omega)).mpr z_)
        refine lv_iload_n hx hb dX0_changedStepsBut_10 rfl (lv_at hl 3 rfl) ?_
        refine lv_iload_n hx hb dX0_changedStepsBut_11 rfl (lv_at hl 1 rfl) ?_
        refine lv_icmp_eq (tgt := 33) hx hb dX0_changedStepsBut_12 (by decide) (fun c_12 => ?_) (fun c_12 => ?_)
        · skip
          refine lv_iinc (v := (nI (i + 1))) (lv' := [(3, .int (nI (i + 1))), (0, .ref (ga g [11, c, 0])), (1, .int y), (2, .int (nI a))]) hx hb dX0_changedStepsBut_33 hl (k := 3) rfl (by first | rfl | exact nI_1 _ | exact nI_add _ _) (by decide) rfl (fun ls hl => ?_)
          refine lv_goto (tgt := 4) hx hb dX0_changedStepsBut_36 (by decide) ?_
          exact ih4 (i + 1) a _ _ _ (by omega) (by show a = _ + (if _ then 1 else 0); rw [← ha]; first | (rw [if_pos (by simp [*])]; done) | (rw [if_neg (by simp [*])]; rfl)) (by omega) hH hS (lv_sub hl [1, 2, 3, 0] rfl)
        · skip
          refine lv_aload_n hx hb dX0_changedStepsBut_15 rfl (lv_at hl 0 rfl) ?_
          refine x_get (C := RX0) (T := TX0) (N := 11) (ci := 0) hx hb hts iu0 hown hK hH (id := [11, c, 0]) (by first | trivial | (simp only [xD]; omega)) rfl rfl (by decide) 2 (by decide) (hts _ tw89) (fun _ h9 => h9) (sX_at _ _ _ _) (v := .ref (ga g [11, c, 2])) rfl dX0_changedStepsBut_16 ?_
          refine lv_iload_n hx hb dX0_changedStepsBut_19 rfl (lv_at hl 3 rfl) ?_
          refine x_cald hx hb hK hH (id := [11, c, 2]) (by first | trivial | (simp only [xD]; omega)) (L := 8) rfl (sX_at _ _ _ _) i rfl (by omega) (by decide) dX0_changedStepsBut_20 ?_
          refine lv_aload_n hx hb dX0_changedStepsBut_21 rfl (lv_at hl 0 rfl) ?_
          refine x_get (C := RX0) (T := TX0) (N := 11) (ci := 0) hx hb hts iu0 hown hK hH (id := [11, c, 0]) (by first | trivial | (simp only [xD]; omega)) rfl rfl (by decide) 3 (by decide) (hts _ tw90) (fun _ h9 => h9) (sX_at _ _ _ _) (v := .ref (ga g [11, c, 3])) rfl dX0_changedStepsBut_22 ?_
          refine lv_iload_n hx hb dX0_changedStepsBut_25 rfl (lv_at hl 3 rfl) ?_
          refine x_cald hx hb hK hH (id := [11, c, 3]) (by first | trivial | (simp only [xD]; omega)) (L := 8) rfl (sX_at _ _ _ _) i rfl (by omega) (by decide) dX0_changedStepsBut_26 ?_
          refine lv_icmp_eq (tgt := 33) hx hb dX0_changedStepsBut_27 (by decide) (fun c_27 => ?_) (fun c_27 => ?_)
          · skip
            refine lv_iinc (v := (nI (i + 1))) (lv' := [(3, .int (nI (i + 1))), (0, .ref (ga g [11, c, 0])), (1, .int y), (2, .int (nI a))]) hx hb dX0_changedStepsBut_33 hl (k := 3) rfl (by first | rfl | exact nI_1 _ | exact nI_add _ _) (by decide) rfl (fun ls hl => ?_)
            refine lv_goto (tgt := 4) hx hb dX0_changedStepsBut_36 (by decide) ?_
            exact ih4 (i + 1) a _ _ _ (by omega) (by show a = _ + (if _ then 1 else 0); rw [← ha]; first | (rw [if_pos (by simp [*])]; done) | (rw [if_neg (by simp [*])]; rfl)) (by omega) hH hS (lv_sub hl [1, 2, 3, 0] rfl)
          · skip
            refine lv_iinc (v := (nI (a + 1))) (lv' := [(2, .int (nI (a + 1))), (0, .ref (ga g [11, c, 0])), (1, .int y), (3, .int (nI i))]) hx hb dX0_changedStepsBut_30 hl (k := 2) rfl (by first | rfl | exact nI_1 _ | exact nI_add _ _) (by decide) rfl (fun ls hl => ?_)
            refine lv_iinc (v := (nI (i + 1))) (lv' := [(3, .int (nI (i + 1))), (2, .int (nI (a + 1))), (0, .ref (ga g [11, c, 0])), (1, .int y)]) hx hb dX0_changedStepsBut_33 hl (k := 3) rfl (by first | rfl | exact nI_1 _ | exact nI_add _ _) (by decide) rfl (fun ls hl => ?_)
            refine lv_goto (tgt := 4) hx hb dX0_changedStepsBut_36 (by decide) ?_
            exact ih4 (i + 1) ((a + 1)) _ _ _ (by omega) (by show (a + 1) = _ + (if _ then 1 else 0); rw [← ha]; first | (rw [if_pos (by simp [*])]; done) | (rw [if_neg (by simp [*])]; rfl)) (by omega) hH hS (lv_sub hl [2, 3, 1, 0] rfl)
  exact L4 _ 0 0 _ _ _ (by omega) rfl (Nat.lt_succ_self _) hH hS (lv_sub hl [2, 3, 1, 0] rfl)

set_option maxHeartbeats 1000000 in
set_option maxRecDepth 100000 in
theorem c_X0_stepsInState (l : Launch) (g : xG) (h : xS) (I : xI) (n c : Nat) (X : xX) (hc : c < sNc h ∨ c = 4) (p : Nat) (hp : sPl h c = p) (hpp : p < sNp h) (hW : xWp h I p) (v : Int32) (hch : xCh X) : xM l yX0_stepsInState (xws yX0_stepsInState cX0_stepsInState 4 (some FieldType.int)) 2 33 g [.ref (ga g [11, c, 0]), .int v] (xR g (xD h) (sX I c X) (xFh h) n) (some (.int (nI (sCnt X v (sSz h p))))) (xR g (xD h) (sX I c X) (xFh h) n) 0 0 := by
  refine xM.of (by decide) (Nat.le_of_ble_eq_true rfl) ?_
  intro P_ e_ s m_ bl_ mt_ cd_ ls hx hb hr hown hlocks hml hnm hE hK hts hH hS hl
  have hl : lv_has ls 4 [(0, .ref (ga g [11, c, 0])), (1, .int v)] := hl
  have h8 := hW.1
  refine lv_iconst (v := 0) hx hb dX0_stepsInState_0 (by decide) ?_
  refine lv_istore_n (lv' := [(2, .int 0), (0, .ref (ga g [11, c, 0])), (1, .int v)]) hx hb dX0_stepsInState_1 rfl hl (by decide) rfl (fun ls hl => ?_)
  refine lv_iconst (v := 0) hx hb dX0_stepsInState_2 (by decide) ?_
  refine lv_istore_n (lv' := [(3, .int 0), (2, .int 0), (0, .ref (ga g [11, c, 0])), (1, .int v)]) hx hb dX0_stepsInState_3 rfl hl (by decide) rfl (fun ls hl => ?_)
  have L4 : ∀ (fu : Nat) (i : Nat) (a : Nat) (H : Heap) (locs : List Loc) (ls : Array Slot), (i ≤ sSz h p) → (a = sCnt X v i) → sSz h p - i < fu → xR g (xD h) (sX I c X) (xFh h) n H → va_S (gA g) s.heap H locs → lv_has ls 4 [(0, .ref (ga g [11, c, 0])), (1, .int v), (2, .int (nI a)), (3, .int (nI i))] → W P_ l e_ { frames := 2, cells := 0, slots := 0, locals := 33 } s m_ ([.ref (ga g [11, c, 0]), .int v] : List Value).toArray bl_ mt_ cd_ H locs 0 0 (MQ bl_ (xQc g (some (.int (nI (sCnt X v (sSz h p))))) (xR g (xD h) (sX I c X) (xFh h) n)) ([.ref (ga g [11, c, 0]), .int v] : List Value).toArray s 0 0 (gA g)) (F0 m_ 4 ls []) := by
    intro fu
    induction fu with
    | zero => intro i a H locs ls hi ha hfu; exact absurd hfu (Nat.not_lt_zero _)
    | succ fu ih4 =>
      intro i a H locs ls hi ha hfu hH hS hl
      refine lv_iload_n hx hb dX0_stepsInState_4 rfl (lv_at hl 3 rfl) ?_
      refine lv_aload_n hx hb dX0_stepsInState_5 rfl (lv_at hl 0 rfl) ?_
      refine x_get (C := RX0) (T := TX0) (N := 11) (ci := 0) hx hb hts iu0 hown hK hH (id := [11, c, 0]) (by first | trivial | (simp only [xD]; omega)) rfl rfl (by decide) 0 (by decide) (hts _ tw86) (fun _ h9 => h9) (sX_at _ _ _ _) (v := .ref (ga g [5, p])) (by rw [← hp]; rfl) dX0_stepsInState_6 ?_
      refine x_get (C := RX4) (T := TX4) (N := 4) (ci := 4) hx hb hts iu4 hown hK hH (id := [5, p]) (by first | trivial | (simp only [xD]; omega)) rfl rfl (by decide) 2 (by decide) (hts _ tw70) (fun _ h9 => h9) rfl (v := .int (nI (sSz h p))) (congrArg Value.int hW.2.2.1) dX0_stepsInState_9 ?_
      refine lv_icmp_ge (tgt := 33) hx hb dX0_stepsInState_12 (by decide) (fun c_12 => ?_) (fun c_12 => ?_)
      · skip
        have c_12 := (nI_leI (a := (sSz h p)) (b := i) (by omega) (by omega)).mp c_12
        refine lv_iload_n hx hb dX0_stepsInState_33 rfl (lv_at hl 2 rfl) ?_
        exact x_iret hx hb hr hlocks hS dX0_stepsInState_34 (by rw [ha, show sSz h p = i by omega]) hH
      · skip
        have c_12 : ¬ _ := fun z_ => c_12 ((nI_leI (a := (sSz h p)) (b := i) (by omega) (by omega)).mpr z_)
        refine lv_aload_n hx hb dX0_stepsInState_15 rfl (lv_at hl 0 rfl) ?_
        refine lv_iload_n hx hb dX0_stepsInState_16 rfl (lv_at hl 3 rfl) ?_
        refine x_V1 hx hb hml hown hE hS hl.1 cyX0_stateOf tw533 (c_X0_stateOf l g h I n c X hc i (by omega) hch) ⟨Nat.le_of_ble_eq_true rfl, Nat.le_of_ble_eq_true rfl⟩ ⟨Nat.le_of_ble_eq_true rfl, Nat.le_of_ble_eq_true rfl⟩ (x_recv hK hH (id := [11, c, 0]) (by first | trivial | (simp only [xD]; omega)) (ci := 0) rfl (by decide) rfl) hH rfl rfl (Nat.le_of_ble_eq_true rfl) dX0_stepsInState_17 (fun H locs hH hS => ?_)
        refine lv_iload_n hx hb dX0_stepsInState_20 rfl (lv_at hl 1 rfl) ?_
        refine lv_icmp_ne (tgt := 27) hx hb dX0_stepsInState_21 (by decide) (fun c_21 => ?_) (fun c_21 => ?_)
        · skip
          refine lv_iinc (v := (nI (i + 1))) (lv' := [(3, .int (nI (i + 1))), (0, .ref (ga g [11, c, 0])), (1, .int v), (2, .int (nI a))]) hx hb dX0_stepsInState_27 hl (k := 3) rfl (by first | rfl | exact nI_1 _ | exact nI_add _ _) (by decide) rfl (fun ls hl => ?_)
          refine lv_goto (tgt := 4) hx hb dX0_stepsInState_30 (by decide) ?_
          exact ih4 (i + 1) a _ _ _ (by omega) (by show a = _ + (if _ then 1 else 0); rw [← ha]; first | (rw [if_pos (by simp [*])]; done) | (rw [if_neg (by simp [*])]; rfl)) (by omega) hH hS (lv_sub hl [1, 2, 3, 0] rfl)
        · skip
          refine lv_iinc (v := (nI (a + 1))) (lv' := [(2, .int (nI (a + 1))), (0, .ref (ga g [11, c, 0])), (1, .int v), (3, .int (nI i))]) hx hb dX0_stepsInState_24 hl (k := 2) rfl (by first | rfl | exact nI_1 _ | exact nI_add _ _) (by decide) rfl (fun ls hl => ?_)
          refine lv_iinc (v := (nI (i + 1))) (lv' := [(3, .int (nI (i + 1))), (2, .int (nI (a + 1))), (0, .ref (ga g [11, c, 0])), (1, .int v)]) hx hb dX0_stepsInState_27 hl (k := 3) rfl (by first | rfl | exact nI_1 _ | exact nI_add _ _) (by decide) rfl (fun ls hl => ?_)
          refine lv_goto (tgt := 4) hx hb dX0_stepsInState_30 (by decide) ?_
          exact ih4 (i + 1) ((a + 1)) _ _ _ (by omega) (by show (a + 1) = _ + (if _ then 1 else 0); rw [← ha]; first | (rw [if_pos (by simp [*])]; done) | (rw [if_neg (by simp [*])]; rfl)) (by omega) hH hS (lv_sub hl [2, 3, 1, 0] rfl)
  exact L4 _ 0 0 _ _ _ (by omega) rfl (Nat.lt_succ_self _) hH hS (lv_sub hl [2, 3, 1, 0] rfl)

set_option maxHeartbeats 1000000 in
set_option maxRecDepth 100000 in
theorem c_X0_lateTasks (l : Launch) (g : xG) (h : xS) (I : xI) (n c : Nat) (X : xX) (hc : c < sNc h ∨ c = 4) (p : Nat) (hp : sPl h c = p) (hpp : p < sNp h) (hW : xWp h I p) (hch : xCh X) : xM l yX0_lateTasks (xws yX0_lateTasks cX0_lateTasks 3 (some FieldType.int)) 3 55 g [.ref (ga g [11, c, 0])] (xR g (xD h) (sX I c X) (xFh h) n) (some (.int (nI (sLat (vP I p) X (sSz h p))))) (xR g (xD h) (sX I c X) (xFh h) n) 0 0 := by
  refine xM.of (by decide) (Nat.le_of_ble_eq_true rfl) ?_
  intro P_ e_ s m_ bl_ mt_ cd_ ls hx hb hr hown hlocks hml hnm hE hK hts hH hS hl
  have hl : lv_has ls 3 [(0, .ref (ga g [11, c, 0]))] := hl
  have h8 := hW.1
  refine lv_iconst (v := 0) hx hb dX0_lateTasks_0 (by decide) ?_
  refine lv_istore_n (lv' := [(1, .int 0), (0, .ref (ga g [11, c, 0]))]) hx hb dX0_lateTasks_1 rfl hl (by decide) rfl (fun ls hl => ?_)
  refine lv_iconst (v := 0) hx hb dX0_lateTasks_2 (by decide) ?_
  refine lv_istore_n (lv' := [(2, .int 0), (1, .int 0), (0, .ref (ga g [11, c, 0]))]) hx hb dX0_lateTasks_3 rfl hl (by decide) rfl (fun ls hl => ?_)
  have L4 : ∀ (fu : Nat) (i : Nat) (a : Nat) (H : Heap) (locs : List Loc) (ls : Array Slot), (i ≤ sSz h p) → (a = sLat (vP I p) X i) → sSz h p - i < fu → xR g (xD h) (sX I c X) (xFh h) n H → va_S (gA g) s.heap H locs → lv_has ls 3 [(0, .ref (ga g [11, c, 0])), (1, .int (nI a)), (2, .int (nI i))] → W P_ l e_ { frames := 3, cells := 0, slots := 0, locals := 55 } s m_ ([.ref (ga g [11, c, 0])] : List Value).toArray bl_ mt_ cd_ H locs 0 0 (MQ bl_ (xQc g (some (.int (nI (sLat (vP I p) X (sSz h p))))) (xR g (xD h) (sX I c X) (xFh h) n)) ([.ref (ga g [11, c, 0])] : List Value).toArray s 0 0 (gA g)) (F0 m_ 4 ls []) := by
    intro fu
    induction fu with
    | zero => intro i a H locs ls hi ha hfu; exact absurd hfu (Nat.not_lt_zero _)
    | succ fu ih4 =>
      intro i a H locs ls hi ha hfu hH hS hl
      refine lv_iload_n hx hb dX0_lateTasks_4 rfl (lv_at hl 2 rfl) ?_
      refine lv_aload_n hx hb dX0_lateTasks_5 rfl (lv_at hl 0 rfl) ?_
      refine x_get (C := RX0) (T := TX0) (N := 11) (ci := 0) hx hb hts iu0 hown hK hH (id := [11, c, 0]) (by first | trivial | (simp only [xD]; omega)) rfl rfl (by decide) 0 (by decide) (hts _ tw86) (fun _ h9 => h9) (sX_at _ _ _ _) (v := .ref (ga g [5, p])) (by rw [← hp]; rfl) dX0_lateTasks_6 ?_
      refine x_get (C := RX4) (T := TX4) (N := 4) (ci := 4) hx hb hts iu4 hown hK hH (id := [5, p]) (by first | trivial | (simp only [xD]; omega)) rfl rfl (by decide) 2 (by decide) (hts _ tw70) (fun _ h9 => h9) rfl (v := .int (nI (sSz h p))) (congrArg Value.int hW.2.2.1) dX0_lateTasks_9 ?_
      refine lv_icmp_ge (tgt := 40) hx hb dX0_lateTasks_12 (by decide) (fun c_12 => ?_) (fun c_12 => ?_)
      · skip
        have c_12 := (nI_leI (a := (sSz h p)) (b := i) (by omega) (by omega)).mp c_12
        refine lv_iload_n hx hb dX0_lateTasks_40 rfl (lv_at hl 1 rfl) ?_
        exact x_iret hx hb hr hlocks hS dX0_lateTasks_41 (by rw [ha, show sSz h p = i by omega]) hH
      · skip
        have c_12 : ¬ _ := fun z_ => c_12 ((nI_leI (a := (sSz h p)) (b := i) (by omega) (by omega)).mpr z_)
        refine lv_aload_n hx hb dX0_lateTasks_15 rfl (lv_at hl 0 rfl) ?_
        refine lv_iload_n hx hb dX0_lateTasks_16 rfl (lv_at hl 2 rfl) ?_
        refine x_V1 hx hb hml hown hE hS hl.1 cyX0_isActiveTask tw542 (c_X0_isActiveTask l g h I n c X hc p hp hpp hW i (by omega) hch) ⟨Nat.le_of_ble_eq_true rfl, Nat.le_of_ble_eq_true rfl⟩ ⟨Nat.le_of_ble_eq_true rfl, Nat.le_of_ble_eq_true rfl⟩ (x_recv hK hH (id := [11, c, 0]) (by first | trivial | (simp only [xD]; omega)) (ci := 0) rfl (by decide) rfl) hH rfl rfl (Nat.le_of_ble_eq_true rfl) dX0_lateTasks_17 (fun H locs hH hS => ?_)
        refine lv_if_eq (tgt := 34) hx hb dX0_lateTasks_20 (by decide) (fun c_20 => ?_) (fun c_20 => ?_)
        · skip
          refine lv_iinc (v := (nI (i + 1))) (lv' := [(2, .int (nI (i + 1))), (0, .ref (ga g [11, c, 0])), (1, .int (nI a))]) hx hb dX0_lateTasks_34 hl (k := 2) rfl (by first | rfl | exact nI_1 _ | exact nI_add _ _) (by decide) rfl (fun ls hl => ?_)
          refine lv_goto (tgt := 4) hx hb dX0_lateTasks_37 (by decide) ?_
          exact ih4 (i + 1) a _ _ _ (by omega) (by show a = _ + (if _ then 1 else 0); rw [← ha]; rw [if_neg (fun z_ => by rw [(b01_eq0 _).mp c_20] at z_; cases z_.1)]; rfl) (by omega) hH hS (lv_sub hl [1, 2, 0] rfl)
        · skip
          refine lv_aload_n hx hb dX0_lateTasks_23 rfl (lv_at hl 0 rfl) ?_
          refine lv_iload_n hx hb dX0_lateTasks_24 rfl (lv_at hl 2 rfl) ?_
          refine x_V1 hx hb hml hown hE hS hl.1 cyX0_daysUntilLate tw653 (c_X0_daysUntilLate l g h I n c X hc p hp hpp hW i (by omega)) ⟨Nat.le_of_ble_eq_true rfl, Nat.le_of_ble_eq_true rfl⟩ ⟨Nat.le_of_ble_eq_true rfl, Nat.le_of_ble_eq_true rfl⟩ (x_recv hK hH (id := [11, c, 0]) (by first | trivial | (simp only [xD]; omega)) (ci := 0) rfl (by decide) rfl) hH rfl rfl (Nat.le_of_ble_eq_true rfl) dX0_lateTasks_25 (fun H locs hH hS => ?_)
          refine lv_if_gt (tgt := 34) hx hb dX0_lateTasks_28 (by decide) (fun c_28 => ?_) (fun c_28 => ?_)
          · skip
            refine lv_iinc (v := (nI (i + 1))) (lv' := [(2, .int (nI (i + 1))), (0, .ref (ga g [11, c, 0])), (1, .int (nI a))]) hx hb dX0_lateTasks_34 hl (k := 2) rfl (by first | rfl | exact nI_1 _ | exact nI_add _ _) (by decide) rfl (fun ls hl => ?_)
            refine lv_goto (tgt := 4) hx hb dX0_lateTasks_37 (by decide) ?_
            exact ih4 (i + 1) a _ _ _ (by omega) (by show a = _ + (if _ then 1 else 0); rw [← ha]; rw [if_neg (fun z_ => i_lt_nle c_28 z_.2)]; rfl) (by omega) hH hS (lv_sub hl [1, 2, 0] rfl)
          · skip
            refine lv_iinc (v := (nI (a + 1))) (lv' := [(1, .int (nI (a + 1))), (0, .ref (ga g [11, c, 0])), (2, .int (nI i))]) hx hb dX0_lateTasks_31 hl (k := 1) rfl (by first | rfl | exact nI_1 _ | exact nI_add _ _) (by decide) rfl (fun ls hl => ?_)
            refine lv_iinc (v := (nI (i + 1))) (lv' := [(2, .int (nI (i + 1))), (1, .int (nI (a + 1))), (0, .ref (ga g [11, c, 0]))]) hx hb dX0_lateTasks_34 hl (k := 2) rfl (by first | rfl | exact nI_1 _ | exact nI_add _ _) (by decide) rfl (fun ls hl => ?_)
            refine lv_goto (tgt := 4) hx hb dX0_lateTasks_37 (by decide) ?_
            exact ih4 (i + 1) ((a + 1)) _ _ _ (by omega) (by show (a + 1) = _ + (if _ then 1 else 0); rw [← ha]; rw [if_pos ⟨b01_ne0 c_20, Int32.not_lt.mp c_28⟩]) (by omega) hH hS (lv_sub hl [2, 1, 0] rfl)
  exact L4 _ 0 0 _ _ _ (by omega) rfl (Nat.lt_succ_self _) hH hS (lv_sub hl [2, 1, 0] rfl)

set_option maxHeartbeats 1000000 in
set_option maxRecDepth 100000 in
theorem c_X0_isAtItsEnd (l : Launch) (g : xG) (h : xS) (I : xI) (n c : Nat) (X : xX) (hc : c < sNc h ∨ c = 4) (p : Nat) (hp : sPl h c = p) (hpp : p < sNp h) (hW : xWp h I p) (hch : xCh X) : xM l yX0_isAtItsEnd (xws yX0_isAtItsEnd cX0_isAtItsEnd 3 (some FieldType.boolean)) 2 33 g [.ref (ga g [11, c, 0])] (xR g (xD h) (sX I c X) (xFh h) n) (some (.int (b01 (sOvr (vP I p) X (sSz h p))))) (xR g (xD h) (sX I c X) (xFh h) n) 0 0 := by
  refine xM.of (by decide) (Nat.le_of_ble_eq_true rfl) ?_
  intro P_ e_ s m_ bl_ mt_ cd_ ls hx hb hr hown hlocks hml hnm hE hK hts hH hS hl
  have hl : lv_has ls 3 [(0, .ref (ga g [11, c, 0]))] := hl
  have h8 := hW.1
  refine lv_iconst (v := 0) hx hb dX0_isAtItsEnd_0 (by decide) ?_
  refine lv_istore_n (lv' := [(1, .int 0), (0, .ref (ga g [11, c, 0]))]) hx hb dX0_isAtItsEnd_1 rfl hl (by decide) rfl (fun ls hl => ?_)
  have L2 : ∀ (fu : Nat) (i : Nat) (H : Heap) (locs : List Loc) (ls : Array Slot), (i ≤ sSz h p) → (sOvr (vP I p) X i = true) → sSz h p - i < fu → xR g (xD h) (sX I c X) (xFh h) n H → va_S (gA g) s.heap H locs → lv_has ls 3 [(0, .ref (ga g [11, c, 0])), (1, .int (nI i))] → W P_ l e_ { frames := 2, cells := 0, slots := 0, locals := 33 } s m_ ([.ref (ga g [11, c, 0])] : List Value).toArray bl_ mt_ cd_ H locs 0 0 (MQ bl_ (xQc g (some (.int (b01 (sOvr (vP I p) X (sSz h p))))) (xR g (xD h) (sX I c X) (xFh h) n)) ([.ref (ga g [11, c, 0])] : List Value).toArray s 0 0 (gA g)) (F0 m_ 2 ls []) := by
    intro fu
    induction fu with
    | zero => intro i H locs ls hi ha hfu; exact absurd hfu (Nat.not_lt_zero _)
    | succ fu ih2 =>
      intro i H locs ls hi ha hfu hH hS hl
      refine lv_iload_n hx hb dX0_isAtItsEnd_2 rfl (lv_at hl 1 rfl) ?_
      refine lv_aload_n hx hb dX0_isAtItsEnd_3 rfl (lv_at hl 0 rfl) ?_
      refine x_get (C := RX0) (T := TX0) (N := 11) (ci := 0) hx hb hts iu0 hown hK hH (id := [11, c, 0]) (by first | trivial | (simp only [xD]; omega)) rfl rfl (by decide) 0 (by decide) (hts _ tw86) (fun _ h9 => h9) (sX_at _ _ _ _) (v := .ref (ga g [5, p])) (by rw [← hp]; rfl) dX0_isAtItsEnd_4 ?_
      refine x_get (C := RX4) (T := TX4) (N := 4) (ci := 4) hx hb hts iu4 hown hK hH (id := [5, p]) (by first | trivial | (simp only [xD]; omega)) rfl rfl (by decide) 2 (by decide) (hts _ tw70) (fun _ h9 => h9) rfl (v := .int (nI (sSz h p))) (congrArg Value.int hW.2.2.1) dX0_isAtItsEnd_7 ?_
      refine lv_icmp_ge (tgt := 62) hx hb dX0_isAtItsEnd_10 (by decide) (fun c_10 => ?_) (fun c_10 => ?_)
      · skip
        have c_10 := (nI_leI (a := (sSz h p)) (b := i) (by omega) (by omega)).mp c_10
        refine lv_iconst (v := 1) hx hb dX0_isAtItsEnd_62 (by decide) ?_
        exact x_zret hx hb hr hlocks hS dX0_isAtItsEnd_63 rfl (b01_t (by rw [show sSz h p = i by omega]; exact ha)) hH
      · skip
        have c_10 : ¬ _ := fun z_ => c_10 ((nI_leI (a := (sSz h p)) (b := i) (by omega) (by omega)).mpr z_)
        refine lv_aload_n hx hb dX0_isAtItsEnd_13 rfl (lv_at hl 0 rfl) ?_
        refine x_get (C := RX0) (T := TX0) (N := 11) (ci := 0) hx hb hts iu0 hown hK hH (id := [11, c, 0]) (by first | trivial | (simp only [xD]; omega)) rfl rfl (by decide) 0 (by decide) (hts _ tw86) (fun _ h9 => h9) (sX_at _ _ _ _) (v := .ref (ga g [5, p])) (by rw [← hp]; rfl) dX0_isAtItsEnd_14 ?_
        refine lv_iload_n hx hb dX0_isAtItsEnd_17 rfl (lv_at hl 1 rfl) ?_
        refine x_V1 hx hb hml hown hE hS hl.1 cyX4_stepAt tw532 (c_X4_stepAt l g h (sX I c X) n p i hpp (by omega) hW.1 hW.2.2.1) ⟨Nat.le_of_ble_eq_true rfl, Nat.le_of_ble_eq_true rfl⟩ ⟨Nat.le_of_ble_eq_true rfl, Nat.le_of_ble_eq_true rfl⟩ (x_recv hK hH (id := [5, p]) (by first | trivial | (simp only [xD]; omega)) (ci := 4) rfl (by decide) rfl) hH rfl rfl (Nat.le_of_ble_eq_true rfl) dX0_isAtItsEnd_18 (fun H locs hH hS => ?_)
        refine lv_astore_n (lv' := [(2, .ref (ga g [7, p, i])), (0, .ref (ga g [11, c, 0])), (1, .int (nI i))]) hx hb dX0_isAtItsEnd_21 rfl hl (by decide) rfl (fun ls hl => ?_)
        refine lv_aload_n hx hb dX0_isAtItsEnd_22 rfl (lv_at hl 0 rfl) ?_
        refine lv_ifnull hx hb dX0_isAtItsEnd_23 ?_
        refine lv_aload_n hx hb dX0_isAtItsEnd_26 rfl (lv_at hl 0 rfl) ?_
        refine x_get (C := RX5) (T := TX5) (N := 7) (ci := 5) hx hb hts iu5 hown hK hH (id := [7, p, i]) (by first | trivial | (simp only [xD]; omega)) rfl rfl (by decide) 1 (by decide) (hts _ tw335) (fun _ h9 => h9) rfl (v := .int (I [7, p, i] 1)) rfl dX0_isAtItsEnd_27 ?_
        refine lv_iconst (v := (-1)) hx hb dX0_isAtItsEnd_30 (by decide) ?_
        refine lv_icmp_ne (tgt := 56) hx hb dX0_isAtItsEnd_31 (by decide) (fun c_31 => ?_) (fun c_31 => ?_)
        · skip
          refine lv_iinc (v := (nI (i + 1))) (lv' := [(1, .int (nI (i + 1))), (2, .ref (ga g [7, p, i])), (0, .ref (ga g [11, c, 0]))]) hx hb dX0_isAtItsEnd_56 hl (k := 2) rfl (by first | rfl | exact nI_1 _ | exact nI_add _ _) (by decide) rfl (fun ls hl => ?_)
          refine lv_goto (tgt := 2) hx hb dX0_isAtItsEnd_59 (by decide) ?_
          exact ih2 (i + 1) _ _ _ (by omega) (by show (_ && (_ || _ || _)) = true; rw [ha]; simp [vP, *]) (by omega) hH hS (lv_sub hl [2, 0] rfl)
        · skip
          refine lv_aload_n hx hb dX0_isAtItsEnd_34 rfl (lv_at hl 1 rfl) ?_
          refine lv_iload_n hx hb dX0_isAtItsEnd_35 rfl (lv_at hl 2 rfl) ?_
          refine x_V1 hx hb hml hown hE hS hl.1 cyX0_stateOf tw533 (c_X0_stateOf l g h I n c X hc i (by omega) hch) ⟨Nat.le_of_ble_eq_true rfl, Nat.le_of_ble_eq_true rfl⟩ ⟨Nat.le_of_ble_eq_true rfl, Nat.le_of_ble_eq_true rfl⟩ (x_recv hK hH (id := [11, c, 0]) (by first | trivial | (simp only [xD]; omega)) (ci := 0) rfl (by decide) rfl) hH rfl rfl (Nat.le_of_ble_eq_true rfl) dX0_isAtItsEnd_36 (fun H locs hH hS => ?_)
          refine lv_bipush (v := 99) hx hb dX0_isAtItsEnd_39 (by decide) ?_
          refine lv_icmp_eq (tgt := 56) hx hb dX0_isAtItsEnd_41 (by decide) (fun c_41 => ?_) (fun c_41 => ?_)
          · skip
            refine lv_iinc (v := (nI (i + 1))) (lv' := [(1, .int (nI (i + 1))), (2, .ref (ga g [7, p, i])), (0, .ref (ga g [11, c, 0]))]) hx hb dX0_isAtItsEnd_56 hl (k := 2) rfl (by first | rfl | exact nI_1 _ | exact nI_add _ _) (by decide) rfl (fun ls hl => ?_)
            refine lv_goto (tgt := 2) hx hb dX0_isAtItsEnd_59 (by decide) ?_
            exact ih2 (i + 1) _ _ _ (by omega) (by show (_ && (_ || _ || _)) = true; rw [ha]; simp [vP, *]) (by omega) hH hS (lv_sub hl [2, 0] rfl)
          · skip
            refine lv_aload_n hx hb dX0_isAtItsEnd_44 rfl (lv_at hl 1 rfl) ?_
            refine lv_iload_n hx hb dX0_isAtItsEnd_45 rfl (lv_at hl 2 rfl) ?_
            refine x_V1 hx hb hml hown hE hS hl.1 cyX0_stateOf tw533 (c_X0_stateOf l g h I n c X hc i (by omega) hch) ⟨Nat.le_of_ble_eq_true rfl, Nat.le_of_ble_eq_true rfl⟩ ⟨Nat.le_of_ble_eq_true rfl, Nat.le_of_ble_eq_true rfl⟩ (x_recv hK hH (id := [11, c, 0]) (by first | trivial | (simp only [xD]; omega)) (ci := 0) rfl (by decide) rfl) hH rfl rfl (Nat.le_of_ble_eq_true rfl) dX0_isAtItsEnd_46 (fun H locs hH hS => ?_)
            refine lv_bipush (v := 120) hx hb dX0_isAtItsEnd_49 (by decide) ?_
            refine lv_icmp_eq (tgt := 56) hx hb dX0_isAtItsEnd_51 (by decide) (fun c_51 => ?_) (fun c_51 => ?_)
            · skip
              refine lv_iinc (v := (nI (i + 1))) (lv' := [(1, .int (nI (i + 1))), (2, .ref (ga g [7, p, i])), (0, .ref (ga g [11, c, 0]))]) hx hb dX0_isAtItsEnd_56 hl (k := 2) rfl (by first | rfl | exact nI_1 _ | exact nI_add _ _) (by decide) rfl (fun ls hl => ?_)
              refine lv_goto (tgt := 2) hx hb dX0_isAtItsEnd_59 (by decide) ?_
              exact ih2 (i + 1) _ _ _ (by omega) (by show (_ && (_ || _ || _)) = true; rw [ha]; simp [vP, *]) (by omega) hH hS (lv_sub hl [2, 0] rfl)
            · skip
              refine lv_iconst (v := 0) hx hb dX0_isAtItsEnd_54 (by decide) ?_
              exact x_zret hx hb hr hlocks hS dX0_isAtItsEnd_55 rfl (b01_f (sOvr_mono (i + 1) _ (by omega) (by show (_ && (_ || _ || _)) = false; rw [ha]; simp [vP, *]))) hH
  exact L2 _ 0 _ _ _ (by omega) rfl (Nat.lt_succ_self _) hH hS (lv_sub hl [1, 0] rfl)

set_option maxHeartbeats 1000000 in
set_option maxRecDepth 100000 in
theorem c_X0_sumOfClocks (l : Launch) (g : xG) (h : xS) (I : xI) (n c : Nat) (X : xX) (hc : c < sNc h ∨ c = 4) (p : Nat) (hp : sPl h c = p) (hpp : p < sNp h) (hW : xWp h I p)  : xM l yX0_sumOfClocks (xws yX0_sumOfClocks cX0_sumOfClocks 4 (some FieldType.long)) 2 33 g [.ref (ga g [11, c, 0])] (xR g (xD h) (sX I c X) (xFh h) n) (some (.long (sSum X (sSz h p)))) (xR g (xD h) (sX I c X) (xFh h) n) 0 0 := by
  refine xM.of (by decide) (Nat.le_of_ble_eq_true rfl) ?_
  intro P_ e_ s m_ bl_ mt_ cd_ ls hx hb hr hown hlocks hml hnm hE hK hts hH hS hl
  have hl : lv_has ls 4 [(0, .ref (ga g [11, c, 0]))] := hl
  have h8 := hW.1
  refine lv_lconst (v := 0) hx hb dX0_sumOfClocks_0 (by decide) ?_
  refine lv_lstore_n (lv' := [(1, .long 0), (0, .ref (ga g [11, c, 0]))]) hx hb dX0_sumOfClocks_1 rfl hl (by decide) rfl (fun ls hl => ?_)
  refine lv_iconst (v := 0) hx hb dX0_sumOfClocks_2 (by decide) ?_
  refine lv_istore_n (lv' := [(3, .int 0), (1, .long 0), (0, .ref (ga g [11, c, 0]))]) hx hb dX0_sumOfClocks_3 rfl hl (by decide) rfl (fun ls hl => ?_)
  have L4 : ∀ (fu : Nat) (i : Nat) (a : Int64) (H : Heap) (locs : List Loc) (ls : Array Slot), (i ≤ sSz h p) → (a = sSum X i) → sSz h p - i < fu → xR g (xD h) (sX I c X) (xFh h) n H → va_S (gA g) s.heap H locs → lv_has ls 4 [(0, .ref (ga g [11, c, 0])), (1, .long a), (3, .int (nI i))] → W P_ l e_ { frames := 2, cells := 0, slots := 0, locals := 33 } s m_ ([.ref (ga g [11, c, 0])] : List Value).toArray bl_ mt_ cd_ H locs 0 0 (MQ bl_ (xQc g (some (.long (sSum X (sSz h p)))) (xR g (xD h) (sX I c X) (xFh h) n)) ([.ref (ga g [11, c, 0])] : List Value).toArray s 0 0 (gA g)) (F0 m_ 4 ls []) := by
    intro fu
    induction fu with
    | zero => intro i a H locs ls hi ha hfu; exact absurd hfu (Nat.not_lt_zero _)
    | succ fu ih4 =>
      intro i a H locs ls hi ha hfu hH hS hl
      refine lv_iload_n hx hb dX0_sumOfClocks_4 rfl (lv_at hl 2 rfl) ?_
      refine lv_aload_n hx hb dX0_sumOfClocks_5 rfl (lv_at hl 0 rfl) ?_
      refine x_get (C := RX0) (T := TX0) (N := 11) (ci := 0) hx hb hts iu0 hown hK hH (id := [11, c, 0]) (by first | trivial | (simp only [xD]; omega)) rfl rfl (by decide) 0 (by decide) (hts _ tw86) (fun _ h9 => h9) (sX_at _ _ _ _) (v := .ref (ga g [5, p])) (by rw [← hp]; rfl) dX0_sumOfClocks_6 ?_
      refine x_get (C := RX4) (T := TX4) (N := 4) (ci := 4) hx hb hts iu4 hown hK hH (id := [5, p]) (by first | trivial | (simp only [xD]; omega)) rfl rfl (by decide) 2 (by decide) (hts _ tw70) (fun _ h9 => h9) rfl (v := .int (nI (sSz h p))) (congrArg Value.int hW.2.2.1) dX0_sumOfClocks_9 ?_
      refine lv_icmp_ge (tgt := 30) hx hb dX0_sumOfClocks_12 (by decide) (fun c_12 => ?_) (fun c_12 => ?_)
      · skip
        have c_12 := (nI_leI (a := (sSz h p)) (b := i) (by omega) (by omega)).mp c_12
        refine lv_lload_n hx hb dX0_sumOfClocks_30 rfl (lv_at hl 1 rfl) ?_
        exact x_lret hx hb hr hlocks hS dX0_sumOfClocks_31 (by rw [ha, show sSz h p = i by omega]) hH
      · skip
        have c_12 : ¬ _ := fun z_ => c_12 ((nI_leI (a := (sSz h p)) (b := i) (by omega) (by omega)).mpr z_)
        refine lv_lload_n hx hb dX0_sumOfClocks_15 rfl (lv_at hl 1 rfl) ?_
        refine lv_aload_n hx hb dX0_sumOfClocks_16 rfl (lv_at hl 0 rfl) ?_
        refine lv_iload_n hx hb dX0_sumOfClocks_17 rfl (lv_at hl 2 rfl) ?_
        refine x_V1 hx hb hml hown hE hS hl.1 cyX0_clockOf tw162 (c_X0_clockOf l g h I n c X hc i (by omega)) ⟨Nat.le_of_ble_eq_true rfl, Nat.le_of_ble_eq_true rfl⟩ ⟨Nat.le_of_ble_eq_true rfl, Nat.le_of_ble_eq_true rfl⟩ (x_recv hK hH (id := [11, c, 0]) (by first | trivial | (simp only [xD]; omega)) (ci := 0) rfl (by decide) rfl) hH rfl rfl (Nat.le_of_ble_eq_true rfl) dX0_sumOfClocks_18 (fun H locs hH hS => ?_)
        refine lv_i2l hx hb dX0_sumOfClocks_21 rfl ?_
        refine lv_ladd hx hb dX0_sumOfClocks_22 ?_
        refine lv_lstore_n (lv' := [(1, .long (a + ((X 4 i)).toInt64)), (0, .ref (ga g [11, c, 0])), (3, .int (nI i))]) hx hb dX0_sumOfClocks_23 rfl hl (by decide) rfl (fun ls hl => ?_)
        refine lv_iinc (v := (nI (i + 1))) (lv' := [(3, .int (nI (i + 1))), (1, .long (a + ((X 4 i)).toInt64)), (0, .ref (ga g [11, c, 0]))]) hx hb dX0_sumOfClocks_24 hl (k := 2) rfl (by first | rfl | exact nI_1 _ | exact nI_add _ _) (by decide) rfl (fun ls hl => ?_)
        refine lv_goto (tgt := 4) hx hb dX0_sumOfClocks_27 (by decide) ?_
        exact ih4 (i + 1) ((a + ((X 4 i)).toInt64)) _ _ _ (by omega) (by rw [ha]; rfl) (by omega) hH hS (lv_sub hl [2, 1, 0] rfl)
  exact L4 _ 0 0 _ _ _ (by omega) rfl (Nat.lt_succ_self _) hH hS (lv_sub hl [2, 1, 0] rfl)

set_option maxHeartbeats 1000000 in
set_option maxRecDepth 100000 in
theorem c_X0_fewestDaysUntilLate (l : Launch) (g : xG) (h : xS) (I : xI) (n c : Nat) (X : xX) (hc : c < sNc h ∨ c = 4) (p : Nat) (hp : sPl h c = p) (hpp : p < sNp h) (hW : xWp h I p) (hch : xCh X) : xM l yX0_fewestDaysUntilLate (xws yX0_fewestDaysUntilLate cX0_fewestDaysUntilLate 4 (some FieldType.int)) 3 55 g [.ref (ga g [11, c, 0])] (xR g (xD h) (sX I c X) (xFh h) n) (some (.int (sFew (vP I p) X (sSz h p)))) (xR g (xD h) (sX I c X) (xFh h) n) 0 0 := by
  refine xM.of (by decide) (Nat.le_of_ble_eq_true rfl) ?_
  intro P_ e_ s m_ bl_ mt_ cd_ ls hx hb hr hown hlocks hml hnm hE hK hts hH hS hl
  have hl : lv_has ls 4 [(0, .ref (ga g [11, c, 0]))] := hl
  have h8 := hW.1
  refine lv_iconst (v := (-1)) hx hb dX0_fewestDaysUntilLate_0 (by decide) ?_
  refine lv_istore_n (lv' := [(1, .int (-1)), (0, .ref (ga g [11, c, 0]))]) hx hb dX0_fewestDaysUntilLate_1 rfl hl (by decide) rfl (fun ls hl => ?_)
  refine lv_iconst (v := 0) hx hb dX0_fewestDaysUntilLate_2 (by decide) ?_
  refine lv_istore_n (lv' := [(2, .int 0), (1, .int (-1)), (0, .ref (ga g [11, c, 0]))]) hx hb dX0_fewestDaysUntilLate_3 rfl hl (by decide) rfl (fun ls hl => ?_)
  have L4 : ∀ (fu : Nat) (i : Nat) (a : Int32) (H : Heap) (locs : List Loc) (ls : Array Slot), (i ≤ sSz h p) → (a = sFew (vP I p) X i) → sSz h p - i < fu → xR g (xD h) (sX I c X) (xFh h) n H → va_S (gA g) s.heap H locs → lv_has ls 4 [(0, .ref (ga g [11, c, 0])), (1, .int a), (2, .int (nI i))] → W P_ l e_ { frames := 3, cells := 0, slots := 0, locals := 55 } s m_ ([.ref (ga g [11, c, 0])] : List Value).toArray bl_ mt_ cd_ H locs 0 0 (MQ bl_ (xQc g (some (.int (sFew (vP I p) X (sSz h p)))) (xR g (xD h) (sX I c X) (xFh h) n)) ([.ref (ga g [11, c, 0])] : List Value).toArray s 0 0 (gA g)) (F0 m_ 4 ls []) := by
    intro fu
    induction fu with
    | zero => intro i a H locs ls hi ha hfu; exact absurd hfu (Nat.not_lt_zero _)
    | succ fu ih4 =>
      intro i a H locs ls hi ha hfu hH hS hl
      refine lv_iload_n hx hb dX0_fewestDaysUntilLate_4 rfl (lv_at hl 2 rfl) ?_
      refine lv_aload_n hx hb dX0_fewestDaysUntilLate_5 rfl (lv_at hl 0 rfl) ?_
      refine x_get (C := RX0) (T := TX0) (N := 11) (ci := 0) hx hb hts iu0 hown hK hH (id := [11, c, 0]) (by first | trivial | (simp only [xD]; omega)) rfl rfl (by decide) 0 (by decide) (hts _ tw86) (fun _ h9 => h9) (sX_at _ _ _ _) (v := .ref (ga g [5, p])) (by rw [← hp]; rfl) dX0_fewestDaysUntilLate_6 ?_
      refine x_get (C := RX4) (T := TX4) (N := 4) (ci := 4) hx hb hts iu4 hown hK hH (id := [5, p]) (by first | trivial | (simp only [xD]; omega)) rfl rfl (by decide) 2 (by decide) (hts _ tw70) (fun _ h9 => h9) rfl (v := .int (nI (sSz h p))) (congrArg Value.int hW.2.2.1) dX0_fewestDaysUntilLate_9 ?_
      refine lv_icmp_ge (tgt := 51) hx hb dX0_fewestDaysUntilLate_12 (by decide) (fun c_12 => ?_) (fun c_12 => ?_)
      · skip
        have c_12 := (nI_leI (a := (sSz h p)) (b := i) (by omega) (by omega)).mp c_12
        refine lv_iload_n hx hb dX0_fewestDaysUntilLate_51 rfl (lv_at hl 1 rfl) ?_
        exact x_iret hx hb hr hlocks hS dX0_fewestDaysUntilLate_52 (by rw [ha, show sSz h p = i by omega]) hH
      · skip
        have c_12 : ¬ _ := fun z_ => c_12 ((nI_leI (a := (sSz h p)) (b := i) (by omega) (by omega)).mpr z_)
        refine lv_aload_n hx hb dX0_fewestDaysUntilLate_15 rfl (lv_at hl 0 rfl) ?_
        refine lv_iload_n hx hb dX0_fewestDaysUntilLate_16 rfl (lv_at hl 2 rfl) ?_
        refine x_V1 hx hb hml hown hE hS hl.1 cyX0_daysUntilLate tw653 (c_X0_daysUntilLate l g h I n c X hc p hp hpp hW i (by omega)) ⟨Nat.le_of_ble_eq_true rfl, Nat.le_of_ble_eq_true rfl⟩ ⟨Nat.le_of_ble_eq_true rfl, Nat.le_of_ble_eq_true rfl⟩ (x_recv hK hH (id := [11, c, 0]) (by first | trivial | (simp only [xD]; omega)) (ci := 0) rfl (by decide) rfl) hH rfl rfl (Nat.le_of_ble_eq_true rfl) dX0_fewestDaysUntilLate_17 (fun H locs hH hS => ?_)
        refine lv_istore_n (lv' := [(3, .int (sUnt (vP I p) X i)), (0, .ref (ga g [11, c, 0])), (1, .int a), (2, .int (nI i))]) hx hb dX0_fewestDaysUntilLate_20 rfl hl (by decide) rfl (fun ls hl => ?_)
        refine lv_aload_n hx hb dX0_fewestDaysUntilLate_21 rfl (lv_at hl 1 rfl) ?_
        refine lv_iload_n hx hb dX0_fewestDaysUntilLate_22 rfl (lv_at hl 3 rfl) ?_
        refine x_V1 hx hb hml hown hE hS hl.1 cyX0_isActiveTask tw542 (c_X0_isActiveTask l g h I n c X hc p hp hpp hW i (by omega) hch) ⟨Nat.le_of_ble_eq_true rfl, Nat.le_of_ble_eq_true rfl⟩ ⟨Nat.le_of_ble_eq_true rfl, Nat.le_of_ble_eq_true rfl⟩ (x_recv hK hH (id := [11, c, 0]) (by first | trivial | (simp only [xD]; omega)) (ci := 0) rfl (by decide) rfl) hH rfl rfl (Nat.le_of_ble_eq_true rfl) dX0_fewestDaysUntilLate_23 (fun H locs hH hS => ?_)
        refine lv_if_eq (tgt := 45) hx hb dX0_fewestDaysUntilLate_26 (by decide) (fun c_26 => ?_) (fun c_26 => ?_)
        · skip
          refine lv_iinc (v := (nI (i + 1))) (lv' := [(2, .int (nI (i + 1))), (3, .int (sUnt (vP I p) X i)), (0, .ref (ga g [11, c, 0])), (1, .int a)]) hx hb dX0_fewestDaysUntilLate_45 hl (k := 3) rfl (by first | rfl | exact nI_1 _ | exact nI_add _ _) (by decide) rfl (fun ls hl => ?_)
          refine lv_goto (tgt := 4) hx hb dX0_fewestDaysUntilLate_48 (by decide) ?_
          exact ih4 (i + 1) a _ _ _ (by omega) (by show _ = (if _ then _ else _); rw [← ha]; rw [if_neg (fun z_ => by rw [(b01_eq0 _).mp c_26] at z_; cases z_.1)]) (by omega) hH hS (lv_sub hl [2, 3, 0] rfl)
        · skip
          refine lv_iload_n hx hb dX0_fewestDaysUntilLate_29 rfl (lv_at hl 0 rfl) ?_
          refine lv_if_le (tgt := 45) hx hb dX0_fewestDaysUntilLate_30 (by decide) (fun c_30 => ?_) (fun c_30 => ?_)
          · skip
            refine lv_iinc (v := (nI (i + 1))) (lv' := [(2, .int (nI (i + 1))), (3, .int (sUnt (vP I p) X i)), (0, .ref (ga g [11, c, 0])), (1, .int a)]) hx hb dX0_fewestDaysUntilLate_45 hl (k := 3) rfl (by first | rfl | exact nI_1 _ | exact nI_add _ _) (by decide) rfl (fun ls hl => ?_)
            refine lv_goto (tgt := 4) hx hb dX0_fewestDaysUntilLate_48 (by decide) ?_
            exact ih4 (i + 1) a _ _ _ (by omega) (by show _ = (if _ then _ else _); rw [← ha]; rw [if_neg (fun z_ => i_lt_nle z_.2.1 c_30)]) (by omega) hH hS (lv_sub hl [2, 3, 0] rfl)
          · skip
            refine lv_iload_n hx hb dX0_fewestDaysUntilLate_33 rfl (lv_at hl 2 rfl) ?_
            refine lv_iconst (v := (-1)) hx hb dX0_fewestDaysUntilLate_34 (by decide) ?_
            refine lv_icmp_eq (tgt := 43) hx hb dX0_fewestDaysUntilLate_35 (by decide) (fun c_35 => ?_) (fun c_35 => ?_)
            · skip
              refine lv_iload_n hx hb dX0_fewestDaysUntilLate_43 rfl (lv_at hl 0 rfl) ?_
              refine lv_istore_n (lv' := [(1, .int (sUnt (vP I p) X i)), (3, .int (sUnt (vP I p) X i)), (0, .ref (ga g [11, c, 0])), (2, .int (nI i))]) hx hb dX0_fewestDaysUntilLate_44 rfl hl (by decide) rfl (fun ls hl => ?_)
              refine lv_iinc (v := (nI (i + 1))) (lv' := [(2, .int (nI (i + 1))), (1, .int (sUnt (vP I p) X i)), (3, .int (sUnt (vP I p) X i)), (0, .ref (ga g [11, c, 0]))]) hx hb dX0_fewestDaysUntilLate_45 hl (k := 3) rfl (by first | rfl | exact nI_1 _ | exact nI_add _ _) (by decide) rfl (fun ls hl => ?_)
              refine lv_goto (tgt := 4) hx hb dX0_fewestDaysUntilLate_48 (by decide) ?_
              exact ih4 (i + 1) ((sUnt (vP I p) X i)) _ _ _ (by omega) (by show _ = (if _ then _ else _); rw [← ha]; rw [if_pos ⟨b01_ne0 c_26, Int32.not_le.mp c_30, Or.inl c_35⟩]) (by omega) hH hS (lv_sub hl [3, 1, 0] rfl)
            · skip
              refine lv_iload_n hx hb dX0_fewestDaysUntilLate_38 rfl (lv_at hl 0 rfl) ?_
              refine lv_iload_n hx hb dX0_fewestDaysUntilLate_39 rfl (lv_at hl 2 rfl) ?_
              refine lv_icmp_ge (tgt := 45) hx hb dX0_fewestDaysUntilLate_40 (by decide) (fun c_40 => ?_) (fun c_40 => ?_)
              · skip
                refine lv_iinc (v := (nI (i + 1))) (lv' := [(2, .int (nI (i + 1))), (3, .int (sUnt (vP I p) X i)), (0, .ref (ga g [11, c, 0])), (1, .int a)]) hx hb dX0_fewestDaysUntilLate_45 hl (k := 3) rfl (by first | rfl | exact nI_1 _ | exact nI_add _ _) (by decide) rfl (fun ls hl => ?_)
                refine lv_goto (tgt := 4) hx hb dX0_fewestDaysUntilLate_48 (by decide) ?_
                exact ih4 (i + 1) a _ _ _ (by omega) (by show _ = (if _ then _ else _); rw [← ha]; rw [if_neg (fun z_ => z_.2.2.elim c_35 (fun z2 => i_lt_nle z2 c_40))]) (by omega) hH hS (lv_sub hl [2, 3, 0] rfl)
              · skip
                refine lv_iload_n hx hb dX0_fewestDaysUntilLate_43 rfl (lv_at hl 0 rfl) ?_
                refine lv_istore_n (lv' := [(1, .int (sUnt (vP I p) X i)), (3, .int (sUnt (vP I p) X i)), (0, .ref (ga g [11, c, 0])), (2, .int (nI i))]) hx hb dX0_fewestDaysUntilLate_44 rfl hl (by decide) rfl (fun ls hl => ?_)
                refine lv_iinc (v := (nI (i + 1))) (lv' := [(2, .int (nI (i + 1))), (1, .int (sUnt (vP I p) X i)), (3, .int (sUnt (vP I p) X i)), (0, .ref (ga g [11, c, 0]))]) hx hb dX0_fewestDaysUntilLate_45 hl (k := 3) rfl (by first | rfl | exact nI_1 _ | exact nI_add _ _) (by decide) rfl (fun ls hl => ?_)
                refine lv_goto (tgt := 4) hx hb dX0_fewestDaysUntilLate_48 (by decide) ?_
                exact ih4 (i + 1) ((sUnt (vP I p) X i)) _ _ _ (by omega) (by show _ = (if _ then _ else _); rw [← ha]; rw [if_pos ⟨b01_ne0 c_26, Int32.not_le.mp c_30, Or.inr (Int32.not_le.mp c_40)⟩]) (by omega) hH hS (lv_sub hl [3, 1, 0] rfl)
  exact L4 _ 0 ((-1)) _ _ _ (by omega) rfl (Nat.lt_succ_self _) hH hS (lv_sub hl [2, 1, 0] rfl)
end
section
/-! CONTRACTS: what happens to a case -/
set_option maxHeartbeats 1000000 in
set_option maxRecDepth 100000 in
theorem c_X6_planAt (l : Launch) (g : xG) (h : xS) (I : xI) (n : Nat) (p : Nat) (hpp : p < sNp h) (h3 : sNp h ≤ 3) (hz : I [0] 1 = nI (sNp h)) : xM l yX6_planAt (xws yX6_planAt cX6_planAt 2 (some (FieldType.object "CasebookSteps$Plan"))) 1 12 g [.ref (ga g [0]), .int (nI p)] (xR g (xD h) I (xFh h) n) (some (.ref (ga g [5, p]))) (xR g (xD h) I (xFh h) n) 0 0 := by
  refine xM.of (by decide) (Nat.le_of_ble_eq_true rfl) ?_
  intro P_ e_ s m_ bl_ mt_ cd_ ls hx hb hr hown hlocks hml hnm hE hK hts hH hS hl
  have hl : lv_has ls 2 [(0, .ref (ga g [0])), (1, .int (nI p))] := hl
  refine lv_iload_n hx hb dX6_planAt_0 rfl (lv_at hl 1 rfl) ?_
  refine lv_if_lt (tgt := 17) hx hb dX6_planAt_1 (by decide) (fun q_ => absurd q_ (fun z_ => absurd ((nI_ltI (a := p) (b := 0) (by omega) (by omega)).mp z_) (by omega))) (fun _ => ?_)
  refine lv_iload_n hx hb dX6_planAt_4 rfl (lv_at hl 1 rfl) ?_
  refine lv_aload_n hx hb dX6_planAt_5 rfl (lv_at hl 0 rfl) ?_
  refine x_get (C := RX6) (T := TX6) (N := 6) (ci := 6) hx hb hts iu6 hown hK hH (id := [0]) (by first | trivial | (simp only [xD]; omega)) rfl rfl (by decide) 1 (by decide) (hts _ tw128) (fun _ h9 => h9) rfl (v := .int (nI (sNp h))) (congrArg Value.int hz) dX6_planAt_6 ?_
  refine lv_icmp_ge (tgt := 17) hx hb dX6_planAt_9 (by decide) (fun q_ => absurd q_ (fun z_ => absurd ((nI_leI (a := (sNp h)) (b := p) (by omega) (by omega)).mp z_) (by omega))) (fun _ => ?_)
  refine lv_iload_n hx hb dX6_planAt_12 rfl (lv_at hl 1 rfl) ?_
  refine lv_iconst (v := 3) hx hb dX6_planAt_13 (by decide) ?_
  refine lv_icmp_lt (tgt := 21) hx hb dX6_planAt_14 (by decide) (fun _ => ?_) (fun q_ => absurd ((nI_ltI (a := p) (b := 3) (by omega) (by omega)).mpr (by omega)) q_)
  refine lv_aload_n hx hb dX6_planAt_21 rfl (lv_at hl 0 rfl) ?_
  refine x_get (C := RX6) (T := TX6) (N := 6) (ci := 6) hx hb hts iu6 hown hK hH (id := [0]) (by first | trivial | (simp only [xD]; omega)) rfl rfl (by decide) 0 (by decide) (hts _ tw127) (fun _ h9 => h9) rfl (v := .ref (ga g [1])) rfl dX6_planAt_22 ?_
  refine lv_iload_n hx hb dX6_planAt_25 rfl (lv_at hl 1 rfl) ?_
  refine x_aald hx hb hK hH (id := [1]) (by first | trivial | (simp only [xD]; omega)) 3 (L := 3) rfl (by decide) p rfl (by omega) (by decide) (v := .ref (ga g [5, p])) (by show rq _ (if _ then _ else _) = _; rw [if_pos (by omega)]; rfl) dX6_planAt_26 ?_
  exact x_aret hx hb hr hlocks hS dX6_planAt_27 (Or.inr ⟨_, rfl⟩) rfl hH

set_option maxHeartbeats 1000000 in
set_option maxRecDepth 100000 in
theorem c_X6_planAt_no (l : Launch) (g : xG) (h : xS) (I : xI) (n : Nat) (x : Int32) (hz : I [0] 1 = nI (sNp h)) (hx0 : x < 0 ∨ nI (sNp h) ≤ x) : xM l yX6_planAt (xws yX6_planAt cX6_planAt 2 (some (FieldType.object "CasebookSteps$Plan"))) 1 12 g [.ref (ga g [0]), .int x] (xR g (xD h) I (xFh h) n) (some (.null)) (xR g (xD h) I (xFh h) n) 0 0 := by
  refine xM.of (by decide) (Nat.le_of_ble_eq_true rfl) ?_
  intro P_ e_ s m_ bl_ mt_ cd_ ls hx hb hr hown hlocks hml hnm hE hK hts hH hS hl
  have hl : lv_has ls 2 [(0, .ref (ga g [0])), (1, .int x)] := hl
  refine lv_iload_n hx hb dX6_planAt_0 rfl (lv_at hl 1 rfl) ?_
  refine lv_if_lt (tgt := 17) hx hb dX6_planAt_1 (by decide) (fun c_1 => ?_) (fun c_1 => ?_)
  · skip
    refine lv_null hx hb dX6_planAt_17 ?_
    refine lv_goto (tgt := 27) hx hb dX6_planAt_18 (by decide) ?_
    exact x_aret hx hb hr hlocks hS dX6_planAt_27 (Or.inl rfl) rfl hH
  · skip
    refine lv_iload_n hx hb dX6_planAt_4 rfl (lv_at hl 1 rfl) ?_
    refine lv_aload_n hx hb dX6_planAt_5 rfl (lv_at hl 0 rfl) ?_
    refine x_get (C := RX6) (T := TX6) (N := 6) (ci := 6) hx hb hts iu6 hown hK hH (id := [0]) (by first | trivial | (simp only [xD]; omega)) rfl rfl (by decide) 1 (by decide) (hts _ tw128) (fun _ h9 => h9) rfl (v := .int (nI (sNp h))) (congrArg Value.int hz) dX6_planAt_6 ?_
    refine lv_icmp_ge (tgt := 17) hx hb dX6_planAt_9 (by decide) (fun _ => ?_) (fun q_ => absurd (hx0.resolve_left c_1) q_)
    refine lv_null hx hb dX6_planAt_17 ?_
    refine lv_goto (tgt := 27) hx hb dX6_planAt_18 (by decide) ?_
    exact x_aret hx hb hr hlocks hS dX6_planAt_27 (Or.inl rfl) rfl hH

set_option maxHeartbeats 1000000 in
set_option maxRecDepth 100000 in
theorem c_X6_caseAt (l : Launch) (g : xG) (h : xS) (I : xI) (n : Nat) (c : Nat) (hc : c < sNc h) (h4 : sNc h ≤ 4) (hz : I [0] 3 = nI (sNc h)) : xM l yX6_caseAt (xws yX6_caseAt cX6_caseAt 2 (some (FieldType.object "CasebookSteps$Case"))) 1 12 g [.ref (ga g [0]), .int (nI c)] (xR g (xD h) I (xFh h) n) (some (.ref (ga g [11, c, 0]))) (xR g (xD h) I (xFh h) n) 0 0 := by
  refine xM.of (by decide) (Nat.le_of_ble_eq_true rfl) ?_
  intro P_ e_ s m_ bl_ mt_ cd_ ls hx hb hr hown hlocks hml hnm hE hK hts hH hS hl
  have hl : lv_has ls 2 [(0, .ref (ga g [0])), (1, .int (nI c))] := hl
  refine lv_iload_n hx hb dX6_caseAt_0 rfl (lv_at hl 1 rfl) ?_
  refine lv_if_lt (tgt := 17) hx hb dX6_caseAt_1 (by decide) (fun q_ => absurd q_ (fun z_ => absurd ((nI_ltI (a := c) (b := 0) (by omega) (by omega)).mp z_) (by omega))) (fun _ => ?_)
  refine lv_iload_n hx hb dX6_caseAt_4 rfl (lv_at hl 1 rfl) ?_
  refine lv_aload_n hx hb dX6_caseAt_5 rfl (lv_at hl 0 rfl) ?_
  refine x_get (C := RX6) (T := TX6) (N := 6) (ci := 6) hx hb hts iu6 hown hK hH (id := [0]) (by first | trivial | (simp only [xD]; omega)) rfl rfl (by decide) 3 (by decide) (hts _ tw130) (fun _ h9 => h9) rfl (v := .int (nI (sNc h))) (congrArg Value.int hz) dX6_caseAt_6 ?_
  refine lv_icmp_ge (tgt := 17) hx hb dX6_caseAt_9 (by decide) (fun q_ => absurd q_ (fun z_ => absurd ((nI_leI (a := (sNc h)) (b := c) (by omega) (by omega)).mp z_) (by omega))) (fun _ => ?_)
  refine lv_iload_n hx hb dX6_caseAt_12 rfl (lv_at hl 1 rfl) ?_
  refine lv_iconst (v := 4) hx hb dX6_caseAt_13 (by decide) ?_
  refine lv_icmp_lt (tgt := 21) hx hb dX6_caseAt_14 (by decide) (fun _ => ?_) (fun q_ => absurd ((nI_ltI (a := c) (b := 4) (by omega) (by omega)).mpr (by omega)) q_)
  refine lv_aload_n hx hb dX6_caseAt_21 rfl (lv_at hl 0 rfl) ?_
  refine x_get (C := RX6) (T := TX6) (N := 6) (ci := 6) hx hb hts iu6 hown hK hH (id := [0]) (by first | trivial | (simp only [xD]; omega)) rfl rfl (by decide) 2 (by decide) (hts _ tw129) (fun _ h9 => h9) rfl (v := .ref (ga g [2])) rfl dX6_caseAt_22 ?_
  refine lv_iload_n hx hb dX6_caseAt_25 rfl (lv_at hl 1 rfl) ?_
  refine x_aald hx hb hK hH (id := [2]) (by first | trivial | (simp only [xD]; omega)) 4 (L := 4) rfl (by decide) c rfl (by omega) (by decide) (v := .ref (ga g [11, c, 0])) (by show rq _ (if _ then _ else _) = _; rw [if_pos (by omega)]; rfl) dX6_caseAt_26 ?_
  exact x_aret hx hb hr hlocks hS dX6_caseAt_27 (Or.inr ⟨_, rfl⟩) rfl hH

set_option maxHeartbeats 1000000 in
set_option maxRecDepth 100000 in
theorem c_X6_caseAt_no (l : Launch) (g : xG) (h : xS) (I : xI) (n : Nat) (x : Int32) (hz : I [0] 3 = nI (sNc h)) (hx0 : x < 0 ∨ nI (sNc h) ≤ x) : xM l yX6_caseAt (xws yX6_caseAt cX6_caseAt 2 (some (FieldType.object "CasebookSteps$Case"))) 1 12 g [.ref (ga g [0]), .int x] (xR g (xD h) I (xFh h) n) (some (.null)) (xR g (xD h) I (xFh h) n) 0 0 := by
  refine xM.of (by decide) (Nat.le_of_ble_eq_true rfl) ?_
  intro P_ e_ s m_ bl_ mt_ cd_ ls hx hb hr hown hlocks hml hnm hE hK hts hH hS hl
  have hl : lv_has ls 2 [(0, .ref (ga g [0])), (1, .int x)] := hl
  refine lv_iload_n hx hb dX6_caseAt_0 rfl (lv_at hl 1 rfl) ?_
  refine lv_if_lt (tgt := 17) hx hb dX6_caseAt_1 (by decide) (fun c_1 => ?_) (fun c_1 => ?_)
  · skip
    refine lv_null hx hb dX6_caseAt_17 ?_
    refine lv_goto (tgt := 27) hx hb dX6_caseAt_18 (by decide) ?_
    exact x_aret hx hb hr hlocks hS dX6_caseAt_27 (Or.inl rfl) rfl hH
  · skip
    refine lv_iload_n hx hb dX6_caseAt_4 rfl (lv_at hl 1 rfl) ?_
    refine lv_aload_n hx hb dX6_caseAt_5 rfl (lv_at hl 0 rfl) ?_
    refine x_get (C := RX6) (T := TX6) (N := 6) (ci := 6) hx hb hts iu6 hown hK hH (id := [0]) (by first | trivial | (simp only [xD]; omega)) rfl rfl (by decide) 3 (by decide) (hts _ tw130) (fun _ h9 => h9) rfl (v := .int (nI (sNc h))) (congrArg Value.int hz) dX6_caseAt_6 ?_
    refine lv_icmp_ge (tgt := 17) hx hb dX6_caseAt_9 (by decide) (fun _ => ?_) (fun q_ => absurd (hx0.resolve_left c_1) q_)
    refine lv_null hx hb dX6_caseAt_17 ?_
    refine lv_goto (tgt := 27) hx hb dX6_caseAt_18 (by decide) ?_
    exact x_aret hx hb hr hlocks hS dX6_caseAt_27 (Or.inl rfl) rfl hH

set_option maxHeartbeats 1000000 in
set_option maxRecDepth 100000 in
theorem c_X4_isStage (l : Launch) (g : xG) (h : xS) (I : xI) (n : Nat) (p j : Nat) (hpp : p < sNp h) (hj : j < sSz h p) (h8 : sSz h p ≤ 8) (hz : I [5, p] 2 = nI (sSz h p)) : xM l yX4_isStage (xws yX4_isStage cX4_isStage 3 (some FieldType.boolean)) 2 33 g [.ref (ga g [5, p]), .int (nI j)] (xR g (xD h) I (xFh h) n) (some (.int (b01 (decide (I [7, p, j] 0 = 115))))) (xR g (xD h) I (xFh h) n) 0 0 := by
  refine xM.of (by decide) (Nat.le_of_ble_eq_true rfl) ?_
  intro P_ e_ s m_ bl_ mt_ cd_ ls hx hb hr hown hlocks hml hnm hE hK hts hH hS hl
  have hl : lv_has ls 3 [(0, .ref (ga g [5, p])), (1, .int (nI j))] := hl
  refine lv_aload_n hx hb dX4_isStage_0 rfl (lv_at hl 0 rfl) ?_
  refine lv_iload_n hx hb dX4_isStage_1 rfl (lv_at hl 1 rfl) ?_
  refine x_V1 hx hb hml hown hE hS hl.1 cyX4_stepAt tw297 (c_X4_stepAt l g h I n p j hpp hj h8 hz) ⟨Nat.le_of_ble_eq_true rfl, Nat.le_of_ble_eq_true rfl⟩ ⟨Nat.le_of_ble_eq_true rfl, Nat.le_of_ble_eq_true rfl⟩ (x_recv hK hH (id := [5, p]) (by first | trivial | (simp only [xD]; omega)) (ci := 4) rfl (by decide) rfl) hH rfl rfl (Nat.le_of_ble_eq_true rfl) dX4_isStage_2 (fun H locs hH hS => ?_)
  refine lv_astore_n (lv' := [(2, .ref (ga g [7, p, j])), (0, .ref (ga g [5, p])), (1, .int (nI j))]) hx hb dX4_isStage_5 rfl hl (by decide) rfl (fun ls hl => ?_)
  refine lv_aload_n hx hb dX4_isStage_6 rfl (lv_at hl 0 rfl) ?_
  refine lv_ifnull hx hb dX4_isStage_7 ?_
  refine lv_aload_n hx hb dX4_isStage_10 rfl (lv_at hl 0 rfl) ?_
  refine x_get (C := RX5) (T := TX5) (N := 7) (ci := 5) hx hb hts iu5 hown hK hH (id := [7, p, j]) (by first | trivial | (simp only [xD]; omega)) rfl rfl (by decide) 0 (by decide) (hts _ tw331) (fun _ h9 => h9) rfl (v := .int (I [7, p, j] 0)) rfl dX4_isStage_11 ?_
  refine lv_bipush (v := 115) hx hb dX4_isStage_14 (by decide) ?_
  refine lv_icmp_ne (tgt := 23) hx hb dX4_isStage_16 (by decide) (fun c_16 => ?_) (fun c_16 => ?_)
  · skip
    refine lv_iconst (v := 0) hx hb dX4_isStage_23 (by decide) ?_
    exact x_zret hx hb hr hlocks hS dX4_isStage_24 rfl (b01_f (by simp [*])) hH
  · skip
    refine lv_iconst (v := 1) hx hb dX4_isStage_19 (by decide) ?_
    refine lv_goto (tgt := 24) hx hb dX4_isStage_20 (by decide) ?_
    exact x_zret hx hb hr hlocks hS dX4_isStage_24 rfl (b01_t (by simp [*])) hH

set_option maxHeartbeats 1000000 in
set_option maxRecDepth 100000 in
theorem c_X4_isStage_no (l : Launch) (g : xG) (h : xS) (I : xI) (n : Nat) (p : Nat) (x : Int32) (hpp : p < sNp h) (hz : I [5, p] 2 = nI (sSz h p)) (hx0 : x < 0 ∨ nI (sSz h p) ≤ x) : xM l yX4_isStage (xws yX4_isStage cX4_isStage 3 (some FieldType.boolean)) 2 33 g [.ref (ga g [5, p]), .int x] (xR g (xD h) I (xFh h) n) (some (.int 0)) (xR g (xD h) I (xFh h) n) 0 0 := by
  refine xM.of (by decide) (Nat.le_of_ble_eq_true rfl) ?_
  intro P_ e_ s m_ bl_ mt_ cd_ ls hx hb hr hown hlocks hml hnm hE hK hts hH hS hl
  have hl : lv_has ls 3 [(0, .ref (ga g [5, p])), (1, .int x)] := hl
  refine lv_aload_n hx hb dX4_isStage_0 rfl (lv_at hl 0 rfl) ?_
  refine lv_iload_n hx hb dX4_isStage_1 rfl (lv_at hl 1 rfl) ?_
  refine x_V1 hx hb hml hown hE hS hl.1 cyX4_stepAt tw297 (c_X4_stepAt_no l g h I n p x (Or.inl hpp) hz hx0) ⟨Nat.le_of_ble_eq_true rfl, Nat.le_of_ble_eq_true rfl⟩ ⟨Nat.le_of_ble_eq_true rfl, Nat.le_of_ble_eq_true rfl⟩ (x_recv hK hH (id := [5, p]) (by first | trivial | (simp only [xD]; omega)) (ci := 4) rfl (by decide) rfl) hH rfl rfl (Nat.le_of_ble_eq_true rfl) dX4_isStage_2 (fun H locs hH hS => ?_)
  refine lv_astore_nN (lv' := [(2, .null), (0, .ref (ga g [5, p])), (1, .int x)]) hx hb dX4_isStage_5 rfl hl (by decide) rfl (fun ls hl => ?_)
  refine lv_aload_nN hx hb dX4_isStage_6 rfl (lv_at hl 0 rfl) ?_
  refine lv_ifnullN (tgt := 23) hx hb dX4_isStage_7 (by decide) ?_
  refine lv_iconst (v := 0) hx hb dX4_isStage_23 (by decide) ?_
  exact x_zret hx hb hr hlocks hS dX4_isStage_24 rfl rfl hH

def sJ (I : xI) (jn : Nat) (a b x y : Int32) : xI := up (up (up (up (up I [4, 0] jn a) [4, 1] jn b) [4, 2] jn x) [4, 3] jn y) [3] 4 (nI (jn + 1))
theorem sX_upJ (I : xI) (c : Nat) (X : xX) (id : List Nat) (k : Nat) (v : Int32) (h : ∀ f, id ≠ [11, c, f]) : up (sX I c X) id k v = sX (up I id k v) c X := by
  funext i q
  rcases sX_cases I c X i with ⟨f, rfl, e⟩ | ⟨h0, e⟩
  · rw [sX_at, up_id (fun z => h f z.symm), sX_at]
  · rcases sX_cases (up I id k v) c X i with ⟨f, rfl, -⟩ | ⟨-, e2⟩
    · exact absurd rfl (h0 f)
    · rw [e2]; unfold up; rw [e]
theorem sX_sJ (I : xI) (c : Nat) (X : xX) (jn : Nat) (a b x y : Int32) : sJ (sX I c X) jn a b x y = sX (sJ I jn a b x y) c X := by
  unfold sJ
  rw [sX_upJ _ _ _ _ _ _ (fun f => by simp), sX_upJ _ _ _ _ _ _ (fun f => by simp), sX_upJ _ _ _ _ _ _ (fun f => by simp), sX_upJ _ _ _ _ _ _ (fun f => by simp), sX_upJ _ _ _ _ _ _ (fun f => by simp)]
set_option maxHeartbeats 1000000 in
set_option maxRecDepth 100000 in
theorem c_X3_append (l : Launch) (g : xG) (h : xS) (I : xI) (n : Nat) (jn : Nat) (a b x y : Int32) (hjn : jn < 512) (hz : I [3] 4 = nI jn) : xM l yX3_append (xws yX3_append cX3_append 5 none) 1 12 g [.ref (ga g [3]), .int a, .int b, .int x, .int y] (xR g (xD h) I (xFh h) n) none (xR g (xD h) (sJ I jn a b x y) (xFh h) n) 0 0 := by
  refine xM.of (by decide) (Nat.le_of_ble_eq_true rfl) ?_
  intro P_ e_ s m_ bl_ mt_ cd_ ls hx hb hr hown hlocks hml hnm hE hK hts hH hS hl
  have hl : lv_has ls 5 [(0, .ref (ga g [3])), (1, .int a), (2, .int b), (3, .int x), (4, .int y)] := hl
  refine lv_aload_n hx hb dX3_append_0 rfl (lv_at hl 0 rfl) ?_
  refine x_get (C := RX3) (T := TX3) (N := 5) (ci := 3) hx hb hts iu3 hown hK hH (id := [3]) (by first | trivial | (simp only [xD]; omega)) rfl rfl (by decide) 4 (by decide) (hts _ tw43) (fun _ h9 => h9) rfl (v := .int (nI jn)) (congrArg Value.int (by first | exact hz | (simp only [*]; simp [up, hz]; done))) dX3_append_1 ?_
  refine lv_if_lt (tgt := 17) hx hb dX3_append_4 (by decide) (fun q_ => absurd q_ (fun z_ => absurd ((nI_ltI (a := jn) (b := 0) (by omega) (by omega)).mp z_) (by omega))) (fun _ => ?_)
  refine lv_aload_n hx hb dX3_append_7 rfl (lv_at hl 0 rfl) ?_
  refine x_get (C := RX3) (T := TX3) (N := 5) (ci := 3) hx hb hts iu3 hown hK hH (id := [3]) (by first | trivial | (simp only [xD]; omega)) rfl rfl (by decide) 4 (by decide) (hts _ tw43) (fun _ h9 => h9) rfl (v := .int (nI jn)) (congrArg Value.int (by first | exact hz | (simp only [*]; simp [up, hz]; done))) dX3_append_8 ?_
  refine lv_sipush (v := 512) hx hb dX3_append_11 (by decide) ?_
  refine lv_icmp_lt (tgt := 18) hx hb dX3_append_14 (by decide) (fun _ => ?_) (fun q_ => absurd ((nI_ltI (a := jn) (b := 512) (by omega) (by omega)).mpr (by omega)) q_)
  refine lv_aload_n hx hb dX3_append_18 rfl (lv_at hl 0 rfl) ?_
  refine x_get (C := RX3) (T := TX3) (N := 5) (ci := 3) hx hb hts iu3 hown hK hH (id := [3]) (by first | trivial | (simp only [xD]; omega)) rfl rfl (by decide) 0 (by decide) (hts _ tw35) (fun _ h9 => h9) rfl (v := .ref (ga g [4, 0])) rfl dX3_append_19 ?_
  refine lv_aload_n hx hb dX3_append_22 rfl (lv_at hl 0 rfl) ?_
  refine x_get (C := RX3) (T := TX3) (N := 5) (ci := 3) hx hb hts iu3 hown hK hH (id := [3]) (by first | trivial | (simp only [xD]; omega)) rfl rfl (by decide) 4 (by decide) (hts _ tw43) (fun _ h9 => h9) rfl (v := .int (nI jn)) (congrArg Value.int (by first | exact hz | (simp only [*]; simp [up, hz]; done))) dX3_append_23 ?_
  refine lv_iload_n hx hb dX3_append_26 rfl (lv_at hl 1 rfl) ?_
  obtain ⟨I1_, hI1_⟩ : ∃ z, z = up I [4, 0] jn a := ⟨_, rfl⟩
  refine x_iast hx hb hK hH hS (id := [4, 0]) (by first | trivial | (simp only [xD]; omega)) (L := 512) rfl jn rfl (by omega) (by decide) hI1_.symm dX3_append_27 (fun H locs hH hS => ?_)
  refine lv_aload_n hx hb dX3_append_28 rfl (lv_at hl 0 rfl) ?_
  refine x_get (C := RX3) (T := TX3) (N := 5) (ci := 3) hx hb hts iu3 hown hK hH (id := [3]) (by first | trivial | (simp only [xD]; omega)) rfl rfl (by decide) 1 (by decide) (hts _ tw37) (fun _ h9 => h9) rfl (v := .ref (ga g [4, 1])) rfl dX3_append_29 ?_
  refine lv_aload_n hx hb dX3_append_32 rfl (lv_at hl 0 rfl) ?_
  refine x_get (C := RX3) (T := TX3) (N := 5) (ci := 3) hx hb hts iu3 hown hK hH (id := [3]) (by first | trivial | (simp only [xD]; omega)) rfl rfl (by decide) 4 (by decide) (hts _ tw43) (fun _ h9 => h9) rfl (v := .int (nI jn)) (congrArg Value.int (by first | exact hz | (simp only [*]; simp [up, hz]; done))) dX3_append_33 ?_
  refine lv_iload_n hx hb dX3_append_36 rfl (lv_at hl 2 rfl) ?_
  obtain ⟨I2_, hI2_⟩ : ∃ z, z = up I1_ [4, 1] jn b := ⟨_, rfl⟩
  refine x_iast hx hb hK hH hS (id := [4, 1]) (by first | trivial | (simp only [xD]; omega)) (L := 512) rfl jn rfl (by omega) (by decide) hI2_.symm dX3_append_37 (fun H locs hH hS => ?_)
  refine lv_aload_n hx hb dX3_append_38 rfl (lv_at hl 0 rfl) ?_
  refine x_get (C := RX3) (T := TX3) (N := 5) (ci := 3) hx hb hts iu3 hown hK hH (id := [3]) (by first | trivial | (simp only [xD]; omega)) rfl rfl (by decide) 2 (by decide) (hts _ tw39) (fun _ h9 => h9) rfl (v := .ref (ga g [4, 2])) rfl dX3_append_39 ?_
  refine lv_aload_n hx hb dX3_append_42 rfl (lv_at hl 0 rfl) ?_
  refine x_get (C := RX3) (T := TX3) (N := 5) (ci := 3) hx hb hts iu3 hown hK hH (id := [3]) (by first | trivial | (simp only [xD]; omega)) rfl rfl (by decide) 4 (by decide) (hts _ tw43) (fun _ h9 => h9) rfl (v := .int (nI jn)) (congrArg Value.int (by first | exact hz | (simp only [*]; simp [up, hz]; done))) dX3_append_43 ?_
  refine lv_iload_n hx hb dX3_append_46 rfl (lv_at hl 3 rfl) ?_
  obtain ⟨I3_, hI3_⟩ : ∃ z, z = up I2_ [4, 2] jn x := ⟨_, rfl⟩
  refine x_iast hx hb hK hH hS (id := [4, 2]) (by first | trivial | (simp only [xD]; omega)) (L := 512) rfl jn rfl (by omega) (by decide) hI3_.symm dX3_append_47 (fun H locs hH hS => ?_)
  refine lv_aload_n hx hb dX3_append_48 rfl (lv_at hl 0 rfl) ?_
  refine x_get (C := RX3) (T := TX3) (N := 5) (ci := 3) hx hb hts iu3 hown hK hH (id := [3]) (by first | trivial | (simp only [xD]; omega)) rfl rfl (by decide) 3 (by decide) (hts _ tw41) (fun _ h9 => h9) rfl (v := .ref (ga g [4, 3])) rfl dX3_append_49 ?_
  refine lv_aload_n hx hb dX3_append_52 rfl (lv_at hl 0 rfl) ?_
  refine x_get (C := RX3) (T := TX3) (N := 5) (ci := 3) hx hb hts iu3 hown hK hH (id := [3]) (by first | trivial | (simp only [xD]; omega)) rfl rfl (by decide) 4 (by decide) (hts _ tw43) (fun _ h9 => h9) rfl (v := .int (nI jn)) (congrArg Value.int (by first | exact hz | (simp only [*]; simp [up, hz]; done))) dX3_append_53 ?_
  refine lv_iload hx hb dX3_append_56 (lv_at hl 4 rfl) ?_
  obtain ⟨I4_, hI4_⟩ : ∃ z, z = up I3_ [4, 3] jn y := ⟨_, rfl⟩
  refine x_iast hx hb hK hH hS (id := [4, 3]) (by first | trivial | (simp only [xD]; omega)) (L := 512) rfl jn rfl (by omega) (by decide) hI4_.symm dX3_append_58 (fun H locs hH hS => ?_)
  refine lv_aload_n hx hb dX3_append_59 rfl (lv_at hl 0 rfl) ?_
  refine lv_dup hx hb dX3_append_60 rfl ?_
  refine x_get (C := RX3) (T := TX3) (N := 5) (ci := 3) hx hb hts iu3 hown hK hH (id := [3]) (by first | trivial | (simp only [xD]; omega)) rfl rfl (by decide) 4 (by decide) (hts _ tw43) (fun _ h9 => h9) rfl (v := .int (nI jn)) (congrArg Value.int (by first | exact hz | (simp only [*]; simp [up, hz]; done))) dX3_append_61 ?_
  refine lv_iconst (v := 1) hx hb dX3_append_64 (by decide) ?_
  refine lv_iadd hx hb dX3_append_65 ?_
  rw [show ((nI jn) + 1) = (nI (jn + 1)) from (nI_1 jn)]
  obtain ⟨I5_, hI5_⟩ : ∃ z, z = up I4_ [3] 4 (nI (jn + 1)) := ⟨_, rfl⟩
  refine x_put (C := RX3) (T := TX3) (N := 5) (ci := 3) hx hb hts iu3 tyX3 tyX3_ok nmX3 hown hK hH hS (id := [3]) (by first | trivial | (simp only [xD]; omega)) rfl rfl (by decide) 4 (by decide) (hts _ tw43) (fun _ h9 => h9) (Or.inl rfl) (ty := .int) (v := .int (nI (jn + 1))) (by decide +kernel) rfl rfl (I' := I5_) (F' := (xFh h)) (fun i hi => by rw [show I5_ = _ from Eq.symm hI5_.symm]; exact up_id hi) (fun _ _ => rfl) (fun j => by rw [show I5_ = _ from Eq.symm hI5_.symm, up_row]; exact xv_upd rfl j) dX3_append_66 (fun H locs hH hS => ?_)
  exact x_vret hx hb hr hlocks hS dX3_append_69 (by rw [hI5_, hI4_, hI3_, hI2_, hI1_] at hH; exact hH)

def sTail (P : Nat → Nat → Int32) (C : Nat → Nat → Nat → Nat → Int32) (cn : Nat → Nat → Nat) (n : Nat) (X : xX) : xX := up2 (sRun P C cn n (up2 X 0 10 (X 0 10 + 1))) 0 8 (-1)
abbrev sTl (h : xS) (I : xI) (p : Nat) (X : xX) : xX := sTail (vP I p) (vC I p) (sCn h p) (sSz h p) X
theorem xCh.new {X : xX} (h : xCh X) : xCh (sNew X) := by
  unfold sNew
  refine xCh.off (xCh.off (xCh.off (xCh.off ?_ (by decide) _ _) (by decide) _ _) (by decide) _ _) (by decide) _ _
  intro k
  unfold sNw2
  rw [if_neg (fun z => absurd z.1 (by decide))]
  split
  · rfl
  · rw [if_neg (fun z => by rcases z.1 with q | q <;> exact absurd q (by decide))]; exact h k
theorem xCh.rnd {P : Nat → Nat → Int32} {C : Nat → Nat → Nat → Nat → Int32} {cn : Nat → Nat → Nat} {n : Nat} : ∀ (t r : Nat) {X : xX}, xCh X → xCh (sRnd P C cn n t r X)
  | 0, _, _, h => h
  | t + 1, r, X, h => by
    show xCh (if (sSwp P C cn n n X).1 = true then sRnd P C cn n t (r + 1) (up2 (sSwp P C cn n n X).2 0 9 (nI (r + 1))) else (sSwp P C cn n n X).2)
    split
    · exact xCh.rnd t (r + 1) ((xCh.swp h n).off (by decide) _ _)
    · exact xCh.swp h n
theorem xCh.tail {P : Nat → Nat → Int32} {C : Nat → Nat → Nat → Nat → Int32} {cn : Nat → Nat → Nat} {n : Nat} {X : xX} (h : xCh X) : xCh (sTail P C cn n X) :=
  xCh.off (xCh.rnd 20 0 ((h.off (by decide) _ _).off (by decide) _ _)) (by decide) _ _
theorem xCh.old {P : Nat → Nat → Int32} {n : Nat} {X : xX} (h : xCh X) : xCh (sOld P n X) := by
  unfold sOld
  split
  · intro k; rw [sOldT_st]; exact h k
  · exact h.off (by decide) _ _
set_option maxHeartbeats 1000000 in
set_option maxRecDepth 100000 in
theorem c_X6_letHappen_0 (l : Launch) (g : xG) (h : xS) (I : xI) (n c : Nat) (X : xX) (hc : c < sNc h ∨ c = 4) (q : Nat) (y : Int32) (hq : q < sNp h) (hWq : xWp h I q) (h3 : sNp h ≤ 3) (hz : I [0] 1 = nI (sNp h)) (hch : xCh X) : xM l yX6_letHappen (xws yX6_letHappen cX6_letHappen 5 none) 5 105 g [.ref (ga g [0]), .ref (ga g [11, c, 0]), .int 0, .int (nI q), .int y] (xR g (xD h) (sX I c X) (xFh h) n) none (xR g (xD h) (sX I c (sTl h I q (sNew X))) (xFh (hPl h c q)) n) 0 0 := by
  refine xM.of (by decide) (Nat.le_of_ble_eq_true rfl) ?_
  intro P_ e_ s m_ bl_ mt_ cd_ ls hx hb hr hown hlocks hml hnm hE hK hts hH hS hl
  have hl : lv_has ls 5 [(0, .ref (ga g [0])), (1, .ref (ga g [11, c, 0])), (2, .int 0), (3, .int (nI q)), (4, .int y)] := hl
  refine lv_aload_n hx hb dX6_letHappen_0 rfl (lv_at hl 1 rfl) ?_
  refine lv_ifnonnull (tgt := 5) hx hb dX6_letHappen_1 (by decide) ?_
  refine lv_iload_n hx hb dX6_letHappen_5 rfl (lv_at hl 2 rfl) ?_
  refine lv_tableIn (tgt := 48) hx hb dX6_letHappen_6 (by decide) (by decide) rfl (by decide) ?_
  refine lv_aload_n hx hb dX6_letHappen_48 rfl (lv_at hl 1 rfl) ?_
  refine lv_aload_n hx hb dX6_letHappen_49 rfl (lv_at hl 0 rfl) ?_
  refine lv_iload_n hx hb dX6_letHappen_50 rfl (lv_at hl 3 rfl) ?_
  refine x_V1 hx hb hml hown hE hS hl.1 cyX6_planAt tw257 (c_X6_planAt l g h (sX I c X) n q hq h3 hz) ⟨Nat.le_of_ble_eq_true rfl, Nat.le_of_ble_eq_true rfl⟩ ⟨Nat.le_of_ble_eq_true rfl, Nat.le_of_ble_eq_true rfl⟩ (x_recv hK hH (id := [0]) (by first | trivial | (simp only [xD]; omega)) (ci := 6) rfl (by decide) rfl) hH rfl rfl (Nat.le_of_ble_eq_true rfl) dX6_letHappen_51 (fun H locs hH hS => ?_)
  refine x_V0 hx hb hml hown hE hS hl.1 cyX0_beginAnew tw511 (c_X0_beginAnew l g h I n c X hc q) ⟨Nat.le_of_ble_eq_true rfl, Nat.le_of_ble_eq_true rfl⟩ ⟨Nat.le_of_ble_eq_true rfl, Nat.le_of_ble_eq_true rfl⟩ (x_recv hK hH (id := [11, c, 0]) (by first | trivial | (simp only [xD]; omega)) (ci := 0) rfl (by decide) rfl) hH rfl rfl (Nat.le_of_ble_eq_true rfl) dX6_letHappen_54 (fun H locs hH hS => ?_)
  refine lv_goto (tgt := 120) hx hb dX6_letHappen_57 (by decide) ?_
  refine lv_aload_n hx hb dX6_letHappen_120 rfl (lv_at hl 1 rfl) ?_
  refine lv_dup hx hb dX6_letHappen_121 rfl ?_
  refine x_get (C := RX0) (T := TX0) (N := 11) (ci := 0) hx hb hts iu0 hown hK hH (id := [11, c, 0]) (by first | trivial | (simp only [xD]; omega)) rfl rfl (by decide) 10 (by decide) (hts _ tw102) (fun _ h9 => h9) (sX_at _ _ _ _) (v := .int ((sNew X) 0 10)) rfl dX6_letHappen_122 ?_
  refine lv_iconst (v := 1) hx hb dX6_letHappen_125 (by decide) ?_
  refine lv_iadd hx hb dX6_letHappen_126 ?_
  obtain ⟨X1_, hX1_⟩ : ∃ z, z = up2 (sNew X) 0 10 (((sNew X) 0 10) + 1) := ⟨_, rfl⟩
  refine x_put (C := RX0) (T := TX0) (N := 11) (ci := 0) hx hb hts iu0 tyX0 tyX0_ok nmX0 hown hK hH hS (id := [11, c, 0]) (by first | trivial | (simp only [xD]; omega)) rfl rfl (by decide) 10 (by decide) (hts _ tw102) (fun _ h9 => h9) (Or.inl rfl) (ty := .int) (v := .int (((sNew X) 0 10) + 1)) (by decide +kernel) rfl rfl (I' := (sX I c X1_)) (F' := (xFh (hPl h c q))) (fun i hi => by rw [show (sX I c X1_) = _ from Eq.symm ((sX_up _ _ _ _ _ _).trans (congrArg (sX I c) hX1_.symm))]; exact up_id hi) (fun _ _ => rfl) (fun j => by rw [show (sX I c X1_) = _ from Eq.symm ((sX_up _ _ _ _ _ _).trans (congrArg (sX I c) hX1_.symm)), up_row]; exact xv_upd rfl j) dX6_letHappen_127 (fun H locs hH hS => ?_)
  refine lv_aload_n hx hb dX6_letHappen_130 rfl (lv_at hl 1 rfl) ?_
  refine x_V0 hx hb hml hown hE hS hl.1 cyX0_runRounds tw546 (c_X0_runRounds l g (hPl h c q) I n c X1_ hc q (if_pos rfl) hq hWq (by rw [hX1_]; exact (xCh.new hch).off (by decide) _ _)) ⟨Nat.le_of_ble_eq_true rfl, Nat.le_of_ble_eq_true rfl⟩ ⟨Nat.le_of_ble_eq_true rfl, Nat.le_of_ble_eq_true rfl⟩ (x_recv hK hH (id := [11, c, 0]) (by first | trivial | (simp only [xD]; omega)) (ci := 0) rfl (by decide) rfl) hH rfl rfl (Nat.le_of_ble_eq_true rfl) dX6_letHappen_131 (fun H locs hH hS => ?_)
  refine lv_aload_n hx hb dX6_letHappen_134 rfl (lv_at hl 1 rfl) ?_
  refine lv_iconst (v := (-1)) hx hb dX6_letHappen_135 (by decide) ?_
  obtain ⟨X2_, hX2_⟩ : ∃ z, z = up2 (sRun (vP I q) (vC I q) (sCn h q) (sSz h q) X1_) 0 8 (-1) := ⟨_, rfl⟩
  refine x_put (C := RX0) (T := TX0) (N := 11) (ci := 0) hx hb hts iu0 tyX0 tyX0_ok nmX0 hown hK hH hS (id := [11, c, 0]) (by first | trivial | (simp only [xD]; omega)) rfl rfl (by decide) 8 (by decide) (hts _ tw98) (fun _ h9 => h9) (Or.inl rfl) (ty := .int) (v := .int (-1)) (by decide +kernel) rfl rfl (I' := (sX I c X2_)) (F' := (xFh (hPl h c q))) (fun i hi => by rw [show (sX I c X2_) = _ from Eq.symm ((sX_up _ _ _ _ _ _).trans (congrArg (sX I c) hX2_.symm))]; exact up_id hi) (fun _ _ => rfl) (fun j => by rw [show (sX I c X2_) = _ from Eq.symm ((sX_up _ _ _ _ _ _).trans (congrArg (sX I c) hX2_.symm)), up_row]; exact xv_upd rfl j) dX6_letHappen_136 (fun H locs hH hS => ?_)
  exact x_vret hx hb hr hlocks hS dX6_letHappen_139 (by rw [hX2_, hX1_] at hH; exact hH)

set_option maxHeartbeats 1000000 in
set_option maxRecDepth 100000 in
theorem c_X6_letHappen_1 (l : Launch) (g : xG) (h : xS) (I : xI) (n c : Nat) (X : xX) (hc : c < sNc h ∨ c = 4) (p : Nat) (hp : sPl h c = p) (hpp : p < sNp h) (hW : xWp h I p) (y : Int32) (hch : xCh X) (k : Nat) (hk : k < 4) : xM l yX6_letHappen (xws yX6_letHappen cX6_letHappen 5 none) 5 105 g [.ref (ga g [0]), .ref (ga g [11, c, 0]), .int 1, .int (nI k), .int y] (xR g (xD h) (sX I c X) (xFh h) n) none (xR g (xD h) (sX I c (sTl h I p (up2 X 1 k y))) (xFh h) n) 0 0 := by
  refine xM.of (by decide) (Nat.le_of_ble_eq_true rfl) ?_
  intro P_ e_ s m_ bl_ mt_ cd_ ls hx hb hr hown hlocks hml hnm hE hK hts hH hS hl
  have hl : lv_has ls 5 [(0, .ref (ga g [0])), (1, .ref (ga g [11, c, 0])), (2, .int 1), (3, .int (nI k)), (4, .int y)] := hl
  have h8 := hW.1
  refine lv_aload_n hx hb dX6_letHappen_0 rfl (lv_at hl 1 rfl) ?_
  refine lv_ifnonnull (tgt := 5) hx hb dX6_letHappen_1 (by decide) ?_
  refine lv_iload_n hx hb dX6_letHappen_5 rfl (lv_at hl 2 rfl) ?_
  refine lv_tableIn (tgt := 60) hx hb dX6_letHappen_6 (by decide) (by decide) rfl (by decide) ?_
  refine lv_aload_n hx hb dX6_letHappen_60 rfl (lv_at hl 1 rfl) ?_
  refine lv_iload_n hx hb dX6_letHappen_61 rfl (lv_at hl 3 rfl) ?_
  refine lv_iload hx hb dX6_letHappen_62 (lv_at hl 4 rfl) ?_
  refine x_V0 hx hb hml hown hE hS hl.1 cyX0_putValue tw519 (c_X0_putValue l g h I n c X hc k y hk) ⟨Nat.le_of_ble_eq_true rfl, Nat.le_of_ble_eq_true rfl⟩ ⟨Nat.le_of_ble_eq_true rfl, Nat.le_of_ble_eq_true rfl⟩ (x_recv hK hH (id := [11, c, 0]) (by first | trivial | (simp only [xD]; omega)) (ci := 0) rfl (by decide) rfl) hH rfl rfl (Nat.le_of_ble_eq_true rfl) dX6_letHappen_64 (fun H locs hH hS => ?_)
  refine lv_goto (tgt := 120) hx hb dX6_letHappen_67 (by decide) ?_
  refine lv_aload_n hx hb dX6_letHappen_120 rfl (lv_at hl 1 rfl) ?_
  refine lv_dup hx hb dX6_letHappen_121 rfl ?_
  refine x_get (C := RX0) (T := TX0) (N := 11) (ci := 0) hx hb hts iu0 hown hK hH (id := [11, c, 0]) (by first | trivial | (simp only [xD]; omega)) rfl rfl (by decide) 10 (by decide) (hts _ tw102) (fun _ h9 => h9) (sX_at _ _ _ _) (v := .int ((up2 X 1 k y) 0 10)) rfl dX6_letHappen_122 ?_
  refine lv_iconst (v := 1) hx hb dX6_letHappen_125 (by decide) ?_
  refine lv_iadd hx hb dX6_letHappen_126 ?_
  obtain ⟨X1_, hX1_⟩ : ∃ z, z = up2 (up2 X 1 k y) 0 10 (((up2 X 1 k y) 0 10) + 1) := ⟨_, rfl⟩
  refine x_put (C := RX0) (T := TX0) (N := 11) (ci := 0) hx hb hts iu0 tyX0 tyX0_ok nmX0 hown hK hH hS (id := [11, c, 0]) (by first | trivial | (simp only [xD]; omega)) rfl rfl (by decide) 10 (by decide) (hts _ tw102) (fun _ h9 => h9) (Or.inl rfl) (ty := .int) (v := .int (((up2 X 1 k y) 0 10) + 1)) (by decide +kernel) rfl rfl (I' := (sX I c X1_)) (F' := (xFh h)) (fun i hi => by rw [show (sX I c X1_) = _ from Eq.symm ((sX_up _ _ _ _ _ _).trans (congrArg (sX I c) hX1_.symm))]; exact up_id hi) (fun _ _ => rfl) (fun j => by rw [show (sX I c X1_) = _ from Eq.symm ((sX_up _ _ _ _ _ _).trans (congrArg (sX I c) hX1_.symm)), up_row]; exact xv_upd rfl j) dX6_letHappen_127 (fun H locs hH hS => ?_)
  refine lv_aload_n hx hb dX6_letHappen_130 rfl (lv_at hl 1 rfl) ?_
  refine x_V0 hx hb hml hown hE hS hl.1 cyX0_runRounds tw546 (c_X0_runRounds l g h I n c X1_ hc p hp hpp hW (by rw [hX1_]; exact (hch.off (by decide) _ _).off (by decide) _ _)) ⟨Nat.le_of_ble_eq_true rfl, Nat.le_of_ble_eq_true rfl⟩ ⟨Nat.le_of_ble_eq_true rfl, Nat.le_of_ble_eq_true rfl⟩ (x_recv hK hH (id := [11, c, 0]) (by first | trivial | (simp only [xD]; omega)) (ci := 0) rfl (by decide) rfl) hH rfl rfl (Nat.le_of_ble_eq_true rfl) dX6_letHappen_131 (fun H locs hH hS => ?_)
  refine lv_aload_n hx hb dX6_letHappen_134 rfl (lv_at hl 1 rfl) ?_
  refine lv_iconst (v := (-1)) hx hb dX6_letHappen_135 (by decide) ?_
  obtain ⟨X2_, hX2_⟩ : ∃ z, z = up2 (sRun (vP I p) (vC I p) (sCn h p) (sSz h p) X1_) 0 8 (-1) := ⟨_, rfl⟩
  refine x_put (C := RX0) (T := TX0) (N := 11) (ci := 0) hx hb hts iu0 tyX0 tyX0_ok nmX0 hown hK hH hS (id := [11, c, 0]) (by first | trivial | (simp only [xD]; omega)) rfl rfl (by decide) 8 (by decide) (hts _ tw98) (fun _ h9 => h9) (Or.inl rfl) (ty := .int) (v := .int (-1)) (by decide +kernel) rfl rfl (I' := (sX I c X2_)) (F' := (xFh h)) (fun i hi => by rw [show (sX I c X2_) = _ from Eq.symm ((sX_up _ _ _ _ _ _).trans (congrArg (sX I c) hX2_.symm))]; exact up_id hi) (fun _ _ => rfl) (fun j => by rw [show (sX I c X2_) = _ from Eq.symm ((sX_up _ _ _ _ _ _).trans (congrArg (sX I c) hX2_.symm)), up_row]; exact xv_upd rfl j) dX6_letHappen_136 (fun H locs hH hS => ?_)
  exact x_vret hx hb hr hlocks hS dX6_letHappen_139 (by rw [hX2_, hX1_] at hH; exact hH)

set_option maxHeartbeats 1000000 in
set_option maxRecDepth 100000 in
theorem c_X6_letHappen_2 (l : Launch) (g : xG) (h : xS) (I : xI) (n c : Nat) (X : xX) (hc : c < sNc h ∨ c = 4) (p : Nat) (hp : sPl h c = p) (hpp : p < sNp h) (hW : xWp h I p) (y : Int32) (hch : xCh X) (x : Int32) : xM l yX6_letHappen (xws yX6_letHappen cX6_letHappen 5 none) 5 105 g [.ref (ga g [0]), .ref (ga g [11, c, 0]), .int 2, .int x, .int y] (xR g (xD h) (sX I c X) (xFh h) n) none (xR g (xD h) (sX I c (sTl h I p (up2 X 0 8 x))) (xFh h) n) 0 0 := by
  refine xM.of (by decide) (Nat.le_of_ble_eq_true rfl) ?_
  intro P_ e_ s m_ bl_ mt_ cd_ ls hx hb hr hown hlocks hml hnm hE hK hts hH hS hl
  have hl : lv_has ls 5 [(0, .ref (ga g [0])), (1, .ref (ga g [11, c, 0])), (2, .int 2), (3, .int x), (4, .int y)] := hl
  have h8 := hW.1
  refine lv_aload_n hx hb dX6_letHappen_0 rfl (lv_at hl 1 rfl) ?_
  refine lv_ifnonnull (tgt := 5) hx hb dX6_letHappen_1 (by decide) ?_
  refine lv_iload_n hx hb dX6_letHappen_5 rfl (lv_at hl 2 rfl) ?_
  refine lv_tableIn (tgt := 70) hx hb dX6_letHappen_6 (by decide) (by decide) rfl (by decide) ?_
  refine lv_aload_n hx hb dX6_letHappen_70 rfl (lv_at hl 1 rfl) ?_
  refine lv_iload_n hx hb dX6_letHappen_71 rfl (lv_at hl 3 rfl) ?_
  obtain ⟨X1_, hX1_⟩ : ∃ z, z = up2 X 0 8 x := ⟨_, rfl⟩
  refine x_put (C := RX0) (T := TX0) (N := 11) (ci := 0) hx hb hts iu0 tyX0 tyX0_ok nmX0 hown hK hH hS (id := [11, c, 0]) (by first | trivial | (simp only [xD]; omega)) rfl rfl (by decide) 8 (by decide) (hts _ tw98) (fun _ h9 => h9) (Or.inl rfl) (ty := .int) (v := .int x) (by decide +kernel) rfl rfl (I' := (sX I c X1_)) (F' := (xFh h)) (fun i hi => by rw [show (sX I c X1_) = _ from Eq.symm ((sX_up _ _ _ _ _ _).trans (congrArg (sX I c) hX1_.symm))]; exact up_id hi) (fun _ _ => rfl) (fun j => by rw [show (sX I c X1_) = _ from Eq.symm ((sX_up _ _ _ _ _ _).trans (congrArg (sX I c) hX1_.symm)), up_row]; exact xv_upd rfl j) dX6_letHappen_72 (fun H locs hH hS => ?_)
  refine lv_goto (tgt := 120) hx hb dX6_letHappen_75 (by decide) ?_
  refine lv_aload_n hx hb dX6_letHappen_120 rfl (lv_at hl 1 rfl) ?_
  refine lv_dup hx hb dX6_letHappen_121 rfl ?_
  refine x_get (C := RX0) (T := TX0) (N := 11) (ci := 0) hx hb hts iu0 hown hK hH (id := [11, c, 0]) (by first | trivial | (simp only [xD]; omega)) rfl rfl (by decide) 10 (by decide) (hts _ tw102) (fun _ h9 => h9) (sX_at _ _ _ _) (v := .int (X1_ 0 10)) rfl dX6_letHappen_122 ?_
  refine lv_iconst (v := 1) hx hb dX6_letHappen_125 (by decide) ?_
  refine lv_iadd hx hb dX6_letHappen_126 ?_
  obtain ⟨X2_, hX2_⟩ : ∃ z, z = up2 X1_ 0 10 ((X1_ 0 10) + 1) := ⟨_, rfl⟩
  refine x_put (C := RX0) (T := TX0) (N := 11) (ci := 0) hx hb hts iu0 tyX0 tyX0_ok nmX0 hown hK hH hS (id := [11, c, 0]) (by first | trivial | (simp only [xD]; omega)) rfl rfl (by decide) 10 (by decide) (hts _ tw102) (fun _ h9 => h9) (Or.inl rfl) (ty := .int) (v := .int ((X1_ 0 10) + 1)) (by decide +kernel) rfl rfl (I' := (sX I c X2_)) (F' := (xFh h)) (fun i hi => by rw [show (sX I c X2_) = _ from Eq.symm ((sX_up _ _ _ _ _ _).trans (congrArg (sX I c) hX2_.symm))]; exact up_id hi) (fun _ _ => rfl) (fun j => by rw [show (sX I c X2_) = _ from Eq.symm ((sX_up _ _ _ _ _ _).trans (congrArg (sX I c) hX2_.symm)), up_row]; exact xv_upd rfl j) dX6_letHappen_127 (fun H locs hH hS => ?_)
  refine lv_aload_n hx hb dX6_letHappen_130 rfl (lv_at hl 1 rfl) ?_
  refine x_V0 hx hb hml hown hE hS hl.1 cyX0_runRounds tw546 (c_X0_runRounds l g h I n c X2_ hc p hp hpp hW (by rw [hX2_, hX1_]; exact (hch.off (by decide) _ _).off (by decide) _ _)) ⟨Nat.le_of_ble_eq_true rfl, Nat.le_of_ble_eq_true rfl⟩ ⟨Nat.le_of_ble_eq_true rfl, Nat.le_of_ble_eq_true rfl⟩ (x_recv hK hH (id := [11, c, 0]) (by first | trivial | (simp only [xD]; omega)) (ci := 0) rfl (by decide) rfl) hH rfl rfl (Nat.le_of_ble_eq_true rfl) dX6_letHappen_131 (fun H locs hH hS => ?_)
  refine lv_aload_n hx hb dX6_letHappen_134 rfl (lv_at hl 1 rfl) ?_
  refine lv_iconst (v := (-1)) hx hb dX6_letHappen_135 (by decide) ?_
  obtain ⟨X3_, hX3_⟩ : ∃ z, z = up2 (sRun (vP I p) (vC I p) (sCn h p) (sSz h p) X2_) 0 8 (-1) := ⟨_, rfl⟩
  refine x_put (C := RX0) (T := TX0) (N := 11) (ci := 0) hx hb hts iu0 tyX0 tyX0_ok nmX0 hown hK hH hS (id := [11, c, 0]) (by first | trivial | (simp only [xD]; omega)) rfl rfl (by decide) 8 (by decide) (hts _ tw98) (fun _ h9 => h9) (Or.inl rfl) (ty := .int) (v := .int (-1)) (by decide +kernel) rfl rfl (I' := (sX I c X3_)) (F' := (xFh h)) (fun i hi => by rw [show (sX I c X3_) = _ from Eq.symm ((sX_up _ _ _ _ _ _).trans (congrArg (sX I c) hX3_.symm))]; exact up_id hi) (fun _ _ => rfl) (fun j => by rw [show (sX I c X3_) = _ from Eq.symm ((sX_up _ _ _ _ _ _).trans (congrArg (sX I c) hX3_.symm)), up_row]; exact xv_upd rfl j) dX6_letHappen_136 (fun H locs hH hS => ?_)
  exact x_vret hx hb hr hlocks hS dX6_letHappen_139 (by rw [hX3_, hX2_, hX1_] at hH; exact hH)

set_option maxHeartbeats 1000000 in
set_option maxRecDepth 100000 in
theorem c_X6_letHappen_3 (l : Launch) (g : xG) (h : xS) (I : xI) (n c : Nat) (X : xX) (hc : c < sNc h ∨ c = 4) (p : Nat) (hp : sPl h c = p) (hpp : p < sNp h) (hW : xWp h I p) (y : Int32) (hch : xCh X) (j : Nat) (hj : j < sSz h p) : xM l yX6_letHappen (xws yX6_letHappen cX6_letHappen 5 none) 5 105 g [.ref (ga g [0]), .ref (ga g [11, c, 0]), .int 3, .int (nI j), .int y] (xR g (xD h) (sX I c X) (xFh h) n) none (xR g (xD h) (sX I c (sTl h I p (sEnd (vP I p) (sSz h p) X j 99))) (xFh h) n) 0 0 := by
  refine xM.of (by decide) (Nat.le_of_ble_eq_true rfl) ?_
  intro P_ e_ s m_ bl_ mt_ cd_ ls hx hb hr hown hlocks hml hnm hE hK hts hH hS hl
  have hl : lv_has ls 5 [(0, .ref (ga g [0])), (1, .ref (ga g [11, c, 0])), (2, .int 3), (3, .int (nI j)), (4, .int y)] := hl
  have h8 := hW.1
  refine lv_aload_n hx hb dX6_letHappen_0 rfl (lv_at hl 1 rfl) ?_
  refine lv_ifnonnull (tgt := 5) hx hb dX6_letHappen_1 (by decide) ?_
  refine lv_iload_n hx hb dX6_letHappen_5 rfl (lv_at hl 2 rfl) ?_
  refine lv_tableIn (tgt := 78) hx hb dX6_letHappen_6 (by decide) (by decide) rfl (by decide) ?_
  refine lv_aload_n hx hb dX6_letHappen_78 rfl (lv_at hl 1 rfl) ?_
  refine lv_iload_n hx hb dX6_letHappen_79 rfl (lv_at hl 3 rfl) ?_
  refine lv_bipush (v := 99) hx hb dX6_letHappen_80 (by decide) ?_
  refine x_V0 hx hb hml hown hE hS hl.1 cyX0_finish tw524 (c_X0_finish l g h I n c X hc p hp hpp hW j (by omega) 99 (by rfl) hch) ⟨Nat.le_of_ble_eq_true rfl, Nat.le_of_ble_eq_true rfl⟩ ⟨Nat.le_of_ble_eq_true rfl, Nat.le_of_ble_eq_true rfl⟩ (x_recv hK hH (id := [11, c, 0]) (by first | trivial | (simp only [xD]; omega)) (ci := 0) rfl (by decide) rfl) hH rfl rfl (Nat.le_of_ble_eq_true rfl) dX6_letHappen_82 (fun H locs hH hS => ?_)
  refine lv_goto (tgt := 120) hx hb dX6_letHappen_85 (by decide) ?_
  refine lv_aload_n hx hb dX6_letHappen_120 rfl (lv_at hl 1 rfl) ?_
  refine lv_dup hx hb dX6_letHappen_121 rfl ?_
  refine x_get (C := RX0) (T := TX0) (N := 11) (ci := 0) hx hb hts iu0 hown hK hH (id := [11, c, 0]) (by first | trivial | (simp only [xD]; omega)) rfl rfl (by decide) 10 (by decide) (hts _ tw102) (fun _ h9 => h9) (sX_at _ _ _ _) (v := .int ((sEnd (vP I p) (sSz h p) X j 99) 0 10)) rfl dX6_letHappen_122 ?_
  refine lv_iconst (v := 1) hx hb dX6_letHappen_125 (by decide) ?_
  refine lv_iadd hx hb dX6_letHappen_126 ?_
  obtain ⟨X1_, hX1_⟩ : ∃ z, z = up2 (sEnd (vP I p) (sSz h p) X j 99) 0 10 (((sEnd (vP I p) (sSz h p) X j 99) 0 10) + 1) := ⟨_, rfl⟩
  refine x_put (C := RX0) (T := TX0) (N := 11) (ci := 0) hx hb hts iu0 tyX0 tyX0_ok nmX0 hown hK hH hS (id := [11, c, 0]) (by first | trivial | (simp only [xD]; omega)) rfl rfl (by decide) 10 (by decide) (hts _ tw102) (fun _ h9 => h9) (Or.inl rfl) (ty := .int) (v := .int (((sEnd (vP I p) (sSz h p) X j 99) 0 10) + 1)) (by decide +kernel) rfl rfl (I' := (sX I c X1_)) (F' := (xFh h)) (fun i hi => by rw [show (sX I c X1_) = _ from Eq.symm ((sX_up _ _ _ _ _ _).trans (congrArg (sX I c) hX1_.symm))]; exact up_id hi) (fun _ _ => rfl) (fun j => by rw [show (sX I c X1_) = _ from Eq.symm ((sX_up _ _ _ _ _ _).trans (congrArg (sX I c) hX1_.symm)), up_row]; exact xv_upd rfl j) dX6_letHappen_127 (fun H locs hH hS => ?_)
  refine lv_aload_n hx hb dX6_letHappen_130 rfl (lv_at hl 1 rfl) ?_
  refine x_V0 hx hb hml hown hE hS hl.1 cyX0_runRounds tw546 (c_X0_runRounds l g h I n c X1_ hc p hp hpp hW (by rw [hX1_]; exact (hch.fin j rfl).off (by decide) _ _)) ⟨Nat.le_of_ble_eq_true rfl, Nat.le_of_ble_eq_true rfl⟩ ⟨Nat.le_of_ble_eq_true rfl, Nat.le_of_ble_eq_true rfl⟩ (x_recv hK hH (id := [11, c, 0]) (by first | trivial | (simp only [xD]; omega)) (ci := 0) rfl (by decide) rfl) hH rfl rfl (Nat.le_of_ble_eq_true rfl) dX6_letHappen_131 (fun H locs hH hS => ?_)
  refine lv_aload_n hx hb dX6_letHappen_134 rfl (lv_at hl 1 rfl) ?_
  refine lv_iconst (v := (-1)) hx hb dX6_letHappen_135 (by decide) ?_
  obtain ⟨X2_, hX2_⟩ : ∃ z, z = up2 (sRun (vP I p) (vC I p) (sCn h p) (sSz h p) X1_) 0 8 (-1) := ⟨_, rfl⟩
  refine x_put (C := RX0) (T := TX0) (N := 11) (ci := 0) hx hb hts iu0 tyX0 tyX0_ok nmX0 hown hK hH hS (id := [11, c, 0]) (by first | trivial | (simp only [xD]; omega)) rfl rfl (by decide) 8 (by decide) (hts _ tw98) (fun _ h9 => h9) (Or.inl rfl) (ty := .int) (v := .int (-1)) (by decide +kernel) rfl rfl (I' := (sX I c X2_)) (F' := (xFh h)) (fun i hi => by rw [show (sX I c X2_) = _ from Eq.symm ((sX_up _ _ _ _ _ _).trans (congrArg (sX I c) hX2_.symm))]; exact up_id hi) (fun _ _ => rfl) (fun j => by rw [show (sX I c X2_) = _ from Eq.symm ((sX_up _ _ _ _ _ _).trans (congrArg (sX I c) hX2_.symm)), up_row]; exact xv_upd rfl j) dX6_letHappen_136 (fun H locs hH hS => ?_)
  exact x_vret hx hb hr hlocks hS dX6_letHappen_139 (by rw [hX2_, hX1_] at hH; exact hH)

set_option maxHeartbeats 1000000 in
set_option maxRecDepth 100000 in
theorem c_X6_letHappen_4 (l : Launch) (g : xG) (h : xS) (I : xI) (n c : Nat) (X : xX) (hc : c < sNc h ∨ c = 4) (p : Nat) (hp : sPl h c = p) (hpp : p < sNp h) (hW : xWp h I p) (y : Int32) (hch : xCh X) (x : Int32) : xM l yX6_letHappen (xws yX6_letHappen cX6_letHappen 5 none) 5 105 g [.ref (ga g [0]), .ref (ga g [11, c, 0]), .int 4, .int x, .int y] (xR g (xD h) (sX I c X) (xFh h) n) none (xR g (xD h) (sX I c (sTl h I p (up2 X 0 7 1))) (xFh h) n) 0 0 := by
  refine xM.of (by decide) (Nat.le_of_ble_eq_true rfl) ?_
  intro P_ e_ s m_ bl_ mt_ cd_ ls hx hb hr hown hlocks hml hnm hE hK hts hH hS hl
  have hl : lv_has ls 5 [(0, .ref (ga g [0])), (1, .ref (ga g [11, c, 0])), (2, .int 4), (3, .int x), (4, .int y)] := hl
  have h8 := hW.1
  refine lv_aload_n hx hb dX6_letHappen_0 rfl (lv_at hl 1 rfl) ?_
  refine lv_ifnonnull (tgt := 5) hx hb dX6_letHappen_1 (by decide) ?_
  refine lv_iload_n hx hb dX6_letHappen_5 rfl (lv_at hl 2 rfl) ?_
  refine lv_tableIn (tgt := 88) hx hb dX6_letHappen_6 (by decide) (by decide) rfl (by decide) ?_
  refine lv_aload_n hx hb dX6_letHappen_88 rfl (lv_at hl 1 rfl) ?_
  refine lv_iconst (v := 1) hx hb dX6_letHappen_89 (by decide) ?_
  obtain ⟨X1_, hX1_⟩ : ∃ z, z = up2 X 0 7 1 := ⟨_, rfl⟩
  refine x_put (C := RX0) (T := TX0) (N := 11) (ci := 0) hx hb hts iu0 tyX0 tyX0_ok nmX0 hown hK hH hS (id := [11, c, 0]) (by first | trivial | (simp only [xD]; omega)) rfl rfl (by decide) 7 (by decide) (hts _ tw96) (fun _ h9 => h9) (Or.inl rfl) (ty := .boolean) (v := .int 1) (by decide +kernel) rfl rfl (I' := (sX I c X1_)) (F' := (xFh h)) (fun i hi => by rw [show (sX I c X1_) = _ from Eq.symm ((sX_up _ _ _ _ _ _).trans (congrArg (sX I c) hX1_.symm))]; exact up_id hi) (fun _ _ => rfl) (fun j => by rw [show (sX I c X1_) = _ from Eq.symm ((sX_up _ _ _ _ _ _).trans (congrArg (sX I c) hX1_.symm)), up_row]; exact xv_upd rfl j) dX6_letHappen_90 (fun H locs hH hS => ?_)
  refine lv_goto (tgt := 120) hx hb dX6_letHappen_93 (by decide) ?_
  refine lv_aload_n hx hb dX6_letHappen_120 rfl (lv_at hl 1 rfl) ?_
  refine lv_dup hx hb dX6_letHappen_121 rfl ?_
  refine x_get (C := RX0) (T := TX0) (N := 11) (ci := 0) hx hb hts iu0 hown hK hH (id := [11, c, 0]) (by first | trivial | (simp only [xD]; omega)) rfl rfl (by decide) 10 (by decide) (hts _ tw102) (fun _ h9 => h9) (sX_at _ _ _ _) (v := .int (X1_ 0 10)) rfl dX6_letHappen_122 ?_
  refine lv_iconst (v := 1) hx hb dX6_letHappen_125 (by decide) ?_
  refine lv_iadd hx hb dX6_letHappen_126 ?_
  obtain ⟨X2_, hX2_⟩ : ∃ z, z = up2 X1_ 0 10 ((X1_ 0 10) + 1) := ⟨_, rfl⟩
  refine x_put (C := RX0) (T := TX0) (N := 11) (ci := 0) hx hb hts iu0 tyX0 tyX0_ok nmX0 hown hK hH hS (id := [11, c, 0]) (by first | trivial | (simp only [xD]; omega)) rfl rfl (by decide) 10 (by decide) (hts _ tw102) (fun _ h9 => h9) (Or.inl rfl) (ty := .int) (v := .int ((X1_ 0 10) + 1)) (by decide +kernel) rfl rfl (I' := (sX I c X2_)) (F' := (xFh h)) (fun i hi => by rw [show (sX I c X2_) = _ from Eq.symm ((sX_up _ _ _ _ _ _).trans (congrArg (sX I c) hX2_.symm))]; exact up_id hi) (fun _ _ => rfl) (fun j => by rw [show (sX I c X2_) = _ from Eq.symm ((sX_up _ _ _ _ _ _).trans (congrArg (sX I c) hX2_.symm)), up_row]; exact xv_upd rfl j) dX6_letHappen_127 (fun H locs hH hS => ?_)
  refine lv_aload_n hx hb dX6_letHappen_130 rfl (lv_at hl 1 rfl) ?_
  refine x_V0 hx hb hml hown hE hS hl.1 cyX0_runRounds tw546 (c_X0_runRounds l g h I n c X2_ hc p hp hpp hW (by rw [hX2_, hX1_]; exact (hch.off (by decide) _ _).off (by decide) _ _)) ⟨Nat.le_of_ble_eq_true rfl, Nat.le_of_ble_eq_true rfl⟩ ⟨Nat.le_of_ble_eq_true rfl, Nat.le_of_ble_eq_true rfl⟩ (x_recv hK hH (id := [11, c, 0]) (by first | trivial | (simp only [xD]; omega)) (ci := 0) rfl (by decide) rfl) hH rfl rfl (Nat.le_of_ble_eq_true rfl) dX6_letHappen_131 (fun H locs hH hS => ?_)
  refine lv_aload_n hx hb dX6_letHappen_134 rfl (lv_at hl 1 rfl) ?_
  refine lv_iconst (v := (-1)) hx hb dX6_letHappen_135 (by decide) ?_
  obtain ⟨X3_, hX3_⟩ : ∃ z, z = up2 (sRun (vP I p) (vC I p) (sCn h p) (sSz h p) X2_) 0 8 (-1) := ⟨_, rfl⟩
  refine x_put (C := RX0) (T := TX0) (N := 11) (ci := 0) hx hb hts iu0 tyX0 tyX0_ok nmX0 hown hK hH hS (id := [11, c, 0]) (by first | trivial | (simp only [xD]; omega)) rfl rfl (by decide) 8 (by decide) (hts _ tw98) (fun _ h9 => h9) (Or.inl rfl) (ty := .int) (v := .int (-1)) (by decide +kernel) rfl rfl (I' := (sX I c X3_)) (F' := (xFh h)) (fun i hi => by rw [show (sX I c X3_) = _ from Eq.symm ((sX_up _ _ _ _ _ _).trans (congrArg (sX I c) hX3_.symm))]; exact up_id hi) (fun _ _ => rfl) (fun j => by rw [show (sX I c X3_) = _ from Eq.symm ((sX_up _ _ _ _ _ _).trans (congrArg (sX I c) hX3_.symm)), up_row]; exact xv_upd rfl j) dX6_letHappen_136 (fun H locs hH hS => ?_)
  exact x_vret hx hb hr hlocks hS dX6_letHappen_139 (by rw [hX3_, hX2_, hX1_] at hH; exact hH)

set_option maxHeartbeats 1000000 in
set_option maxRecDepth 100000 in
theorem c_X6_letHappen_5 (l : Launch) (g : xG) (h : xS) (I : xI) (n c : Nat) (X : xX) (hc : c < sNc h ∨ c = 4) (p : Nat) (hp : sPl h c = p) (hpp : p < sNp h) (hW : xWp h I p) (y : Int32) (hch : xCh X) (x : Int32) : xM l yX6_letHappen (xws yX6_letHappen cX6_letHappen 5 none) 5 105 g [.ref (ga g [0]), .ref (ga g [11, c, 0]), .int 5, .int x, .int y] (xR g (xD h) (sX I c X) (xFh h) n) none (xR g (xD h) (sX I c (sTl h I p (up2 X 0 7 0))) (xFh h) n) 0 0 := by
  refine xM.of (by decide) (Nat.le_of_ble_eq_true rfl) ?_
  intro P_ e_ s m_ bl_ mt_ cd_ ls hx hb hr hown hlocks hml hnm hE hK hts hH hS hl
  have hl : lv_has ls 5 [(0, .ref (ga g [0])), (1, .ref (ga g [11, c, 0])), (2, .int 5), (3, .int x), (4, .int y)] := hl
  have h8 := hW.1
  refine lv_aload_n hx hb dX6_letHappen_0 rfl (lv_at hl 1 rfl) ?_
  refine lv_ifnonnull (tgt := 5) hx hb dX6_letHappen_1 (by decide) ?_
  refine lv_iload_n hx hb dX6_letHappen_5 rfl (lv_at hl 2 rfl) ?_
  refine lv_tableIn (tgt := 96) hx hb dX6_letHappen_6 (by decide) (by decide) rfl (by decide) ?_
  refine lv_aload_n hx hb dX6_letHappen_96 rfl (lv_at hl 1 rfl) ?_
  refine lv_iconst (v := 0) hx hb dX6_letHappen_97 (by decide) ?_
  obtain ⟨X1_, hX1_⟩ : ∃ z, z = up2 X 0 7 0 := ⟨_, rfl⟩
  refine x_put (C := RX0) (T := TX0) (N := 11) (ci := 0) hx hb hts iu0 tyX0 tyX0_ok nmX0 hown hK hH hS (id := [11, c, 0]) (by first | trivial | (simp only [xD]; omega)) rfl rfl (by decide) 7 (by decide) (hts _ tw96) (fun _ h9 => h9) (Or.inl rfl) (ty := .boolean) (v := .int 0) (by decide +kernel) rfl rfl (I' := (sX I c X1_)) (F' := (xFh h)) (fun i hi => by rw [show (sX I c X1_) = _ from Eq.symm ((sX_up _ _ _ _ _ _).trans (congrArg (sX I c) hX1_.symm))]; exact up_id hi) (fun _ _ => rfl) (fun j => by rw [show (sX I c X1_) = _ from Eq.symm ((sX_up _ _ _ _ _ _).trans (congrArg (sX I c) hX1_.symm)), up_row]; exact xv_upd rfl j) dX6_letHappen_98 (fun H locs hH hS => ?_)
  refine lv_goto (tgt := 120) hx hb dX6_letHappen_101 (by decide) ?_
  refine lv_aload_n hx hb dX6_letHappen_120 rfl (lv_at hl 1 rfl) ?_
  refine lv_dup hx hb dX6_letHappen_121 rfl ?_
  refine x_get (C := RX0) (T := TX0) (N := 11) (ci := 0) hx hb hts iu0 hown hK hH (id := [11, c, 0]) (by first | trivial | (simp only [xD]; omega)) rfl rfl (by decide) 10 (by decide) (hts _ tw102) (fun _ h9 => h9) (sX_at _ _ _ _) (v := .int (X1_ 0 10)) rfl dX6_letHappen_122 ?_
  refine lv_iconst (v := 1) hx hb dX6_letHappen_125 (by decide) ?_
  refine lv_iadd hx hb dX6_letHappen_126 ?_
  obtain ⟨X2_, hX2_⟩ : ∃ z, z = up2 X1_ 0 10 ((X1_ 0 10) + 1) := ⟨_, rfl⟩
  refine x_put (C := RX0) (T := TX0) (N := 11) (ci := 0) hx hb hts iu0 tyX0 tyX0_ok nmX0 hown hK hH hS (id := [11, c, 0]) (by first | trivial | (simp only [xD]; omega)) rfl rfl (by decide) 10 (by decide) (hts _ tw102) (fun _ h9 => h9) (Or.inl rfl) (ty := .int) (v := .int ((X1_ 0 10) + 1)) (by decide +kernel) rfl rfl (I' := (sX I c X2_)) (F' := (xFh h)) (fun i hi => by rw [show (sX I c X2_) = _ from Eq.symm ((sX_up _ _ _ _ _ _).trans (congrArg (sX I c) hX2_.symm))]; exact up_id hi) (fun _ _ => rfl) (fun j => by rw [show (sX I c X2_) = _ from Eq.symm ((sX_up _ _ _ _ _ _).trans (congrArg (sX I c) hX2_.symm)), up_row]; exact xv_upd rfl j) dX6_letHappen_127 (fun H locs hH hS => ?_)
  refine lv_aload_n hx hb dX6_letHappen_130 rfl (lv_at hl 1 rfl) ?_
  refine x_V0 hx hb hml hown hE hS hl.1 cyX0_runRounds tw546 (c_X0_runRounds l g h I n c X2_ hc p hp hpp hW (by rw [hX2_, hX1_]; exact (hch.off (by decide) _ _).off (by decide) _ _)) ⟨Nat.le_of_ble_eq_true rfl, Nat.le_of_ble_eq_true rfl⟩ ⟨Nat.le_of_ble_eq_true rfl, Nat.le_of_ble_eq_true rfl⟩ (x_recv hK hH (id := [11, c, 0]) (by first | trivial | (simp only [xD]; omega)) (ci := 0) rfl (by decide) rfl) hH rfl rfl (Nat.le_of_ble_eq_true rfl) dX6_letHappen_131 (fun H locs hH hS => ?_)
  refine lv_aload_n hx hb dX6_letHappen_134 rfl (lv_at hl 1 rfl) ?_
  refine lv_iconst (v := (-1)) hx hb dX6_letHappen_135 (by decide) ?_
  obtain ⟨X3_, hX3_⟩ : ∃ z, z = up2 (sRun (vP I p) (vC I p) (sCn h p) (sSz h p) X2_) 0 8 (-1) := ⟨_, rfl⟩
  refine x_put (C := RX0) (T := TX0) (N := 11) (ci := 0) hx hb hts iu0 tyX0 tyX0_ok nmX0 hown hK hH hS (id := [11, c, 0]) (by first | trivial | (simp only [xD]; omega)) rfl rfl (by decide) 8 (by decide) (hts _ tw98) (fun _ h9 => h9) (Or.inl rfl) (ty := .int) (v := .int (-1)) (by decide +kernel) rfl rfl (I' := (sX I c X3_)) (F' := (xFh h)) (fun i hi => by rw [show (sX I c X3_) = _ from Eq.symm ((sX_up _ _ _ _ _ _).trans (congrArg (sX I c) hX3_.symm))]; exact up_id hi) (fun _ _ => rfl) (fun j => by rw [show (sX I c X3_) = _ from Eq.symm ((sX_up _ _ _ _ _ _).trans (congrArg (sX I c) hX3_.symm)), up_row]; exact xv_upd rfl j) dX6_letHappen_136 (fun H locs hH hS => ?_)
  exact x_vret hx hb hr hlocks hS dX6_letHappen_139 (by rw [hX3_, hX2_, hX1_] at hH; exact hH)

set_option maxHeartbeats 1000000 in
set_option maxRecDepth 100000 in
theorem c_X6_letHappen_6 (l : Launch) (g : xG) (h : xS) (I : xI) (n c : Nat) (X : xX) (hc : c < sNc h ∨ c = 4) (q : Nat) (y : Int32) (hq : q < sNp h) (hWq : xWp h I q) (h3 : sNp h ≤ 3) (hz : I [0] 1 = nI (sNp h)) (hch : xCh X) : xM l yX6_letHappen (xws yX6_letHappen cX6_letHappen 5 none) 5 105 g [.ref (ga g [0]), .ref (ga g [11, c, 0]), .int 6, .int (nI q), .int y] (xR g (xD h) (sX I c X) (xFh h) n) none (xR g (xD h) (sX I c (sTl h I q X)) (xFh (hPl h c q)) n) 0 0 := by
  refine xM.of (by decide) (Nat.le_of_ble_eq_true rfl) ?_
  intro P_ e_ s m_ bl_ mt_ cd_ ls hx hb hr hown hlocks hml hnm hE hK hts hH hS hl
  have hl : lv_has ls 5 [(0, .ref (ga g [0])), (1, .ref (ga g [11, c, 0])), (2, .int 6), (3, .int (nI q)), (4, .int y)] := hl
  refine lv_aload_n hx hb dX6_letHappen_0 rfl (lv_at hl 1 rfl) ?_
  refine lv_ifnonnull (tgt := 5) hx hb dX6_letHappen_1 (by decide) ?_
  refine lv_iload_n hx hb dX6_letHappen_5 rfl (lv_at hl 2 rfl) ?_
  refine lv_tableIn (tgt := 104) hx hb dX6_letHappen_6 (by decide) (by decide) rfl (by decide) ?_
  refine lv_aload_n hx hb dX6_letHappen_104 rfl (lv_at hl 1 rfl) ?_
  refine lv_aload_n hx hb dX6_letHappen_105 rfl (lv_at hl 0 rfl) ?_
  refine lv_iload_n hx hb dX6_letHappen_106 rfl (lv_at hl 3 rfl) ?_
  refine x_V1 hx hb hml hown hE hS hl.1 cyX6_planAt tw257 (c_X6_planAt l g h (sX I c X) n q hq h3 hz) ⟨Nat.le_of_ble_eq_true rfl, Nat.le_of_ble_eq_true rfl⟩ ⟨Nat.le_of_ble_eq_true rfl, Nat.le_of_ble_eq_true rfl⟩ (x_recv hK hH (id := [0]) (by first | trivial | (simp only [xD]; omega)) (ci := 6) rfl (by decide) rfl) hH rfl rfl (Nat.le_of_ble_eq_true rfl) dX6_letHappen_107 (fun H locs hH hS => ?_)
  refine x_V0 hx hb hml hown hE hS hl.1 cyX0_goBy tw537 (c_X0_goBy l g h I n c X hc q) ⟨Nat.le_of_ble_eq_true rfl, Nat.le_of_ble_eq_true rfl⟩ ⟨Nat.le_of_ble_eq_true rfl, Nat.le_of_ble_eq_true rfl⟩ (x_recv hK hH (id := [11, c, 0]) (by first | trivial | (simp only [xD]; omega)) (ci := 0) rfl (by decide) rfl) hH rfl rfl (Nat.le_of_ble_eq_true rfl) dX6_letHappen_110 (fun H locs hH hS => ?_)
  refine lv_goto (tgt := 120) hx hb dX6_letHappen_113 (by decide) ?_
  refine lv_aload_n hx hb dX6_letHappen_120 rfl (lv_at hl 1 rfl) ?_
  refine lv_dup hx hb dX6_letHappen_121 rfl ?_
  refine x_get (C := RX0) (T := TX0) (N := 11) (ci := 0) hx hb hts iu0 hown hK hH (id := [11, c, 0]) (by first | trivial | (simp only [xD]; omega)) rfl rfl (by decide) 10 (by decide) (hts _ tw102) (fun _ h9 => h9) (sX_at _ _ _ _) (v := .int (X 0 10)) rfl dX6_letHappen_122 ?_
  refine lv_iconst (v := 1) hx hb dX6_letHappen_125 (by decide) ?_
  refine lv_iadd hx hb dX6_letHappen_126 ?_
  obtain ⟨X1_, hX1_⟩ : ∃ z, z = up2 X 0 10 ((X 0 10) + 1) := ⟨_, rfl⟩
  refine x_put (C := RX0) (T := TX0) (N := 11) (ci := 0) hx hb hts iu0 tyX0 tyX0_ok nmX0 hown hK hH hS (id := [11, c, 0]) (by first | trivial | (simp only [xD]; omega)) rfl rfl (by decide) 10 (by decide) (hts _ tw102) (fun _ h9 => h9) (Or.inl rfl) (ty := .int) (v := .int ((X 0 10) + 1)) (by decide +kernel) rfl rfl (I' := (sX I c X1_)) (F' := (xFh (hPl h c q))) (fun i hi => by rw [show (sX I c X1_) = _ from Eq.symm ((sX_up _ _ _ _ _ _).trans (congrArg (sX I c) hX1_.symm))]; exact up_id hi) (fun _ _ => rfl) (fun j => by rw [show (sX I c X1_) = _ from Eq.symm ((sX_up _ _ _ _ _ _).trans (congrArg (sX I c) hX1_.symm)), up_row]; exact xv_upd rfl j) dX6_letHappen_127 (fun H locs hH hS => ?_)
  refine lv_aload_n hx hb dX6_letHappen_130 rfl (lv_at hl 1 rfl) ?_
  refine x_V0 hx hb hml hown hE hS hl.1 cyX0_runRounds tw546 (c_X0_runRounds l g (hPl h c q) I n c X1_ hc q (if_pos rfl) hq hWq (by rw [hX1_]; exact hch.off (by decide) _ _)) ⟨Nat.le_of_ble_eq_true rfl, Nat.le_of_ble_eq_true rfl⟩ ⟨Nat.le_of_ble_eq_true rfl, Nat.le_of_ble_eq_true rfl⟩ (x_recv hK hH (id := [11, c, 0]) (by first | trivial | (simp only [xD]; omega)) (ci := 0) rfl (by decide) rfl) hH rfl rfl (Nat.le_of_ble_eq_true rfl) dX6_letHappen_131 (fun H locs hH hS => ?_)
  refine lv_aload_n hx hb dX6_letHappen_134 rfl (lv_at hl 1 rfl) ?_
  refine lv_iconst (v := (-1)) hx hb dX6_letHappen_135 (by decide) ?_
  obtain ⟨X2_, hX2_⟩ : ∃ z, z = up2 (sRun (vP I q) (vC I q) (sCn h q) (sSz h q) X1_) 0 8 (-1) := ⟨_, rfl⟩
  refine x_put (C := RX0) (T := TX0) (N := 11) (ci := 0) hx hb hts iu0 tyX0 tyX0_ok nmX0 hown hK hH hS (id := [11, c, 0]) (by first | trivial | (simp only [xD]; omega)) rfl rfl (by decide) 8 (by decide) (hts _ tw98) (fun _ h9 => h9) (Or.inl rfl) (ty := .int) (v := .int (-1)) (by decide +kernel) rfl rfl (I' := (sX I c X2_)) (F' := (xFh (hPl h c q))) (fun i hi => by rw [show (sX I c X2_) = _ from Eq.symm ((sX_up _ _ _ _ _ _).trans (congrArg (sX I c) hX2_.symm))]; exact up_id hi) (fun _ _ => rfl) (fun j => by rw [show (sX I c X2_) = _ from Eq.symm ((sX_up _ _ _ _ _ _).trans (congrArg (sX I c) hX2_.symm)), up_row]; exact xv_upd rfl j) dX6_letHappen_136 (fun H locs hH hS => ?_)
  exact x_vret hx hb hr hlocks hS dX6_letHappen_139 (by rw [hX2_, hX1_] at hH; exact hH)

set_option maxHeartbeats 1000000 in
set_option maxRecDepth 100000 in
theorem c_X6_letHappen_7 (l : Launch) (g : xG) (h : xS) (I : xI) (n c : Nat) (X : xX) (hc : c < sNc h ∨ c = 4) (p : Nat) (hp : sPl h c = p) (hpp : p < sNp h) (hW : xWp h I p) (y : Int32) (hch : xCh X) (x : Int32) : xM l yX6_letHappen (xws yX6_letHappen cX6_letHappen 5 none) 5 105 g [.ref (ga g [0]), .ref (ga g [11, c, 0]), .int 7, .int x, .int y] (xR g (xD h) (sX I c X) (xFh h) n) none (xR g (xD h) (sX I c (sTl h I p (sOld (vP I p) (sSz h p) X))) (xFh h) n) 0 0 := by
  refine xM.of (by decide) (Nat.le_of_ble_eq_true rfl) ?_
  intro P_ e_ s m_ bl_ mt_ cd_ ls hx hb hr hown hlocks hml hnm hE hK hts hH hS hl
  have hl : lv_has ls 5 [(0, .ref (ga g [0])), (1, .ref (ga g [11, c, 0])), (2, .int 7), (3, .int x), (4, .int y)] := hl
  have h8 := hW.1
  refine lv_aload_n hx hb dX6_letHappen_0 rfl (lv_at hl 1 rfl) ?_
  refine lv_ifnonnull (tgt := 5) hx hb dX6_letHappen_1 (by decide) ?_
  refine lv_iload_n hx hb dX6_letHappen_5 rfl (lv_at hl 2 rfl) ?_
  refine lv_tableOut (tgt := 116) hx hb dX6_letHappen_6 (by decide) (by decide) ?_
  refine lv_aload_n hx hb dX6_letHappen_116 rfl (lv_at hl 1 rfl) ?_
  refine x_V0 hx hb hml hown hE hS hl.1 cyX0_growOlder tw538 (c_X0_growOlder l g h I n c X hc p hp hpp hW hch) ⟨Nat.le_of_ble_eq_true rfl, Nat.le_of_ble_eq_true rfl⟩ ⟨Nat.le_of_ble_eq_true rfl, Nat.le_of_ble_eq_true rfl⟩ (x_recv hK hH (id := [11, c, 0]) (by first | trivial | (simp only [xD]; omega)) (ci := 0) rfl (by decide) rfl) hH rfl rfl (Nat.le_of_ble_eq_true rfl) dX6_letHappen_117 (fun H locs hH hS => ?_)
  refine lv_aload_n hx hb dX6_letHappen_120 rfl (lv_at hl 1 rfl) ?_
  refine lv_dup hx hb dX6_letHappen_121 rfl ?_
  refine x_get (C := RX0) (T := TX0) (N := 11) (ci := 0) hx hb hts iu0 hown hK hH (id := [11, c, 0]) (by first | trivial | (simp only [xD]; omega)) rfl rfl (by decide) 10 (by decide) (hts _ tw102) (fun _ h9 => h9) (sX_at _ _ _ _) (v := .int ((sOld (vP I p) (sSz h p) X) 0 10)) rfl dX6_letHappen_122 ?_
  refine lv_iconst (v := 1) hx hb dX6_letHappen_125 (by decide) ?_
  refine lv_iadd hx hb dX6_letHappen_126 ?_
  obtain ⟨X1_, hX1_⟩ : ∃ z, z = up2 (sOld (vP I p) (sSz h p) X) 0 10 (((sOld (vP I p) (sSz h p) X) 0 10) + 1) := ⟨_, rfl⟩
  refine x_put (C := RX0) (T := TX0) (N := 11) (ci := 0) hx hb hts iu0 tyX0 tyX0_ok nmX0 hown hK hH hS (id := [11, c, 0]) (by first | trivial | (simp only [xD]; omega)) rfl rfl (by decide) 10 (by decide) (hts _ tw102) (fun _ h9 => h9) (Or.inl rfl) (ty := .int) (v := .int (((sOld (vP I p) (sSz h p) X) 0 10) + 1)) (by decide +kernel) rfl rfl (I' := (sX I c X1_)) (F' := (xFh h)) (fun i hi => by rw [show (sX I c X1_) = _ from Eq.symm ((sX_up _ _ _ _ _ _).trans (congrArg (sX I c) hX1_.symm))]; exact up_id hi) (fun _ _ => rfl) (fun j => by rw [show (sX I c X1_) = _ from Eq.symm ((sX_up _ _ _ _ _ _).trans (congrArg (sX I c) hX1_.symm)), up_row]; exact xv_upd rfl j) dX6_letHappen_127 (fun H locs hH hS => ?_)
  refine lv_aload_n hx hb dX6_letHappen_130 rfl (lv_at hl 1 rfl) ?_
  refine x_V0 hx hb hml hown hE hS hl.1 cyX0_runRounds tw546 (c_X0_runRounds l g h I n c X1_ hc p hp hpp hW (by rw [hX1_]; exact hch.old.off (by decide) _ _)) ⟨Nat.le_of_ble_eq_true rfl, Nat.le_of_ble_eq_true rfl⟩ ⟨Nat.le_of_ble_eq_true rfl, Nat.le_of_ble_eq_true rfl⟩ (x_recv hK hH (id := [11, c, 0]) (by first | trivial | (simp only [xD]; omega)) (ci := 0) rfl (by decide) rfl) hH rfl rfl (Nat.le_of_ble_eq_true rfl) dX6_letHappen_131 (fun H locs hH hS => ?_)
  refine lv_aload_n hx hb dX6_letHappen_134 rfl (lv_at hl 1 rfl) ?_
  refine lv_iconst (v := (-1)) hx hb dX6_letHappen_135 (by decide) ?_
  obtain ⟨X2_, hX2_⟩ : ∃ z, z = up2 (sRun (vP I p) (vC I p) (sCn h p) (sSz h p) X1_) 0 8 (-1) := ⟨_, rfl⟩
  refine x_put (C := RX0) (T := TX0) (N := 11) (ci := 0) hx hb hts iu0 tyX0 tyX0_ok nmX0 hown hK hH hS (id := [11, c, 0]) (by first | trivial | (simp only [xD]; omega)) rfl rfl (by decide) 8 (by decide) (hts _ tw98) (fun _ h9 => h9) (Or.inl rfl) (ty := .int) (v := .int (-1)) (by decide +kernel) rfl rfl (I' := (sX I c X2_)) (F' := (xFh h)) (fun i hi => by rw [show (sX I c X2_) = _ from Eq.symm ((sX_up _ _ _ _ _ _).trans (congrArg (sX I c) hX2_.symm))]; exact up_id hi) (fun _ _ => rfl) (fun j => by rw [show (sX I c X2_) = _ from Eq.symm ((sX_up _ _ _ _ _ _).trans (congrArg (sX I c) hX2_.symm)), up_row]; exact xv_upd rfl j) dX6_letHappen_136 (fun H locs hH hS => ?_)
  exact x_vret hx hb hr hlocks hS dX6_letHappen_139 (by rw [hX2_, hX1_] at hH; exact hH)
end
