/-! THE LAW'S OWN METHODS: they catch what the class throws -/
def xNl : List (String × String) := [(eIO, eIS), (eIA, eIS), (eUO, eIS), (eIS, eIO), (eIA, eIO), (eUO, eIO), (eNS, eIO), (eIS, eIA), (eUO, eIA), (eIS, eUO)]
def xLs (U : State) : Prop := (∀ q ∈ xNl, va_Nc q.1 q.2 U)
theorem xLs.moved {u U : State} (hvm : u.vm.Alike U.vm) (h : xLs u) : xLs U := fun q hq => (h q hq).moved hvm
def xMl (l : Launch) (y : MethodName) (cc : ByteArray) (maxL : Nat) (ret : Option FieldType) (hh : List (Nat × Nat × Nat × Nat)) (fr lo : Nat) (g : xG) (av : List Value) (Pre : Heap → Prop) (v : Option Value) (Post : Heap → Prop) (mc ms : Nat) : Prop := Met l y [Cond.codeWith y cc maxL ret hh] { frames := fr, cells := mc, slots := ms, locals := lo } (xPs g av Pre xLs) (xQc g v Post) mc ms (gA g)
theorem xMl.of {l : Launch} {y : MethodName} {fr lo : Nat} {g : xG} {av : List Value} {Pre : Heap → Prop} {v : Option Value} {Post : Heap → Prop} {mc ms : Nat} {cc : ByteArray} {maxL : Nat} {ret : Option FieldType} {hh : List (Nat × Nat × Nat × Nat)}
    (hy : plainName y.cls = true) (hsz : (lg_sl av).length ≤ maxL)
    (body : ∀ (p : Program) (e : Env) (s : State) (m : MethodId) (below : List Frame) (meth : Method) (c : Code) (ls : Array Slot), p.tables.exec = Jvm.exec → c.code = cc → meth.sig.returnType = ret → s.vm.findClass y.cls = some m.cls → meth.locks = false → c.maxLocals = maxL → c.exceptionTable.toList = tableOf hh →
      xE g s s.heap → va_K (gD g) vwCl (xT g) s → (∀ w ∈ gl, w.before av.toArray s = true) → Pre s.heap → va_S (gA g) s.heap s.heap [] → lv_has ls maxL (lv_args 0 av) → xLs s →
      W p l e { frames := fr, cells := mc, slots := ms, locals := lo } s m av.toArray below meth c s.heap [] 0 0 (MQ below (xQc g v Post) av.toArray s mc ms (gA g)) (F0 m 0 ls [])) : xMl l y cc maxL ret hh fr lo g av Pre v Post mc ms := by
  unfold xMl Met
  refine MetFree.of_bodyS (code := cc) (maxLocals := maxL) (ret := ret) hy ?_ ?_
  · intro args s m h hn
    obtain ⟨m9, meth, c, hn9, h1, h2, h3, h4, -, h5, h6, -⟩ := Cond.codeWith_spec (atoms_spec (ws := [Cond.codeWith y cc maxL ret hh]) h _ List.mem_cons_self)
    cases hn.symm.trans hn9
    exact ⟨meth, c, h1, h2, h3, h4, h5, h6⟩
  · intro p e s m args below meth c s₁ B hml hP _
    have hh0 : s₁.heap = s.heap := by rw [B.state]; rfl
    have htab : c.exceptionTable.toList = tableOf hh := vx_table (x := y) B (atoms_spec (ws := [Cond.codeWith y cc maxL ret hh]) B.pre _ List.mem_cons_self)
    obtain ⟨rfl, ⟨hP, hE⟩, hLs⟩ := hP
    have hl := lv_entry av (n := maxL) hsz
    have hW := body p e s m below meth c _ B.exec B.bytes B.returns (findClass_of_methodNamed B.named) B.notSynchronized hml htab hE hE.1 (hE.ts _) hP va_S.rf hl hLs
    rw [← lg_entry_eq] at hW
    obtain ⟨t, a1, o, b1, b2, b3⟩ := hW s₁ hh0 (Stand.of_body B)
    exact ⟨t, o, a1, b1, b2, b3⟩
theorem xPs_blind (g : xG) (av : List Value) (Pre : Heap → Prop) : FrameBlind (xPs g av Pre xLs) := fun a U j mk q => ⟨q.1, ⟨q.2.1.1, q.2.1.2.at (U := U.calling j mk a) (State.WarmedH.refl U)⟩, q.2.2.moved (u := U) (U := U.calling j mk a) (State.WarmedH.refl U).alike⟩
theorem xPs_blindC (g : xG) (av : List Value) (Pre : Heap → Prop) : FrameBlind (xPs g av Pre (xCs g)) := fun a U j mk q => ⟨q.1, ⟨q.2.1.1, q.2.1.2.at (U := U.calling j mk a) (State.WarmedH.refl U)⟩, q.2.2.moved (u := U) (U := U.calling j mk a) (State.WarmedH.refl U).alike⟩
def xCalW (y : MethodName) (bytes : ByteArray) (maxL : Nat) (ret : Option FieldType) (hh : List (Nat × Nat × Nat × Nat)) (n : Nat) : Prop := Cond.codeWith y bytes maxL ret hh ∈ gl ∧ Cond.initialized y.cls ∈ gl ∧ (y.cls ≠ "java/lang/invoke/MethodHandle" ∧ y.cls ≠ "java/lang/invoke/VarHandle" ∧ (parseMethodDescriptor y.desc).map (fun d => d.parameters.length) = some n) ∧ Cond.static y ∈ gl
theorem xCalW.good {y : MethodName} {bytes : ByteArray} {maxL : Nat} {ret : Option FieldType} {hh : List (Nat × Nat × Nat × Nat)} {n : Nat} (h : xCalW y bytes maxL ret hh n) {own : String} {index : Nat} (hl : Cond.methodLink own index y ∈ gl) : GoodIn gl (va_wsS own index y [Cond.codeWith y bytes maxL ret hh]) := fun w hw => by
  have hg : ∀ w ∈ gl, goodWord w = true := fun w h => (List.mem_filter.mp h).2
  unfold va_wsS at hw
  simp only [List.mem_append, List.mem_cons, List.not_mem_nil, or_false] at hw
  have hm : w ∈ gl := by
    rcases hw with hw | hw
    · rcases hw with e | e | e
      · rw [e]; exact hl
      · rw [e]; exact h.2.2.2
      · rw [e]; exact h.2.1
    · rw [hw]; exact h.1
  exact ⟨hm, good_of_word (hg w hm)⟩
section XL
variable {p : Program} {l : Launch} {e : Env} {R : Room} {s : State} {m : MethodId} {args : Array Value} {below : List Frame} {meth : Method} {c : Code} {H : Heap} {locs : List Loc} {cells slots : Nat} {Q : State → Prop}
variable {cc : ByteArray} {pc : Nat} {ls : Array Slot} {rest st0 : List Value} {H0 : Heap} {g : xG} {mc ms : Nat}
variable {dm : List Nat → Prop} {I : xI} {F : xF} {n0 : Nat}
variable {y : MethodName} {bytes : ByteArray} {maxL nL n index fr lo : Nat} {ret : Option FieldType} {own : String} {b : Addr} {As : List Value} {Pre Post : Heap → Prop} {w : Value} {hh : List (Nat × Nat × Nat × Nat)}
/-- the law calls a method of its own -/
theorem x_SW (hx : p.tables.exec = Jvm.exec) (hb : c.code = cc) (hml : c.maxLocals = nL) (hown : s.vm.findClass own = some m.cls) (hE : xE g s s.heap) (hLs : xLs s) (hS : va_S (gA g) s.heap H locs) (hsize : ls.size = nL) (hy : xCalW y bytes maxL ret hh n) (hl : Cond.methodLink own index y ∈ gl) (hM : xMl l y bytes maxL ret hh fr lo g As Pre (some w) Post mc ms) (hR : fr + 1 ≤ R.frames ∧ 8 + (maxL + 11) + lo ≤ R.locals) (hf : cells + mc ≤ R.cells ∧ slots + ms ≤ R.slots) (hpre : Pre H) (hn : As.length = n) (hst : st0 = As.reverse ++ rest) (hW : (rest.map fun v => v.category).sum ≤ 8) (hdg : decode cc pc = .ok (.invokestatic index, 3))
    (kk : ∀ (H1 : Heap) (locs1 : List Loc), Post H1 → va_S (gA g) s.heap H1 locs1 → W p l e R s m args below meth c H1 locs1 (cells + mc) (slots + ms) Q (F0 m (pc + 3) ls (w :: rest))) : W p l e R s m args below meth c H locs cells slots Q (F0 m pc ls st0) := by
  have cw := vx_cwSW (R := R) (s := s) (args := args) (own := own) (index := index) (mc := mc) (ms := ms) (rm := { frames := fr, cells := mc, slots := ms, locals := lo }) n (hE.ts args) (hy.good hl) rfl rfl rfl hy.2.2.1 hR
  exact x_cont (vx_runSW ⟨hx, hb, hml, hown, hE.ts args⟩ hM cw ⟨xPs_blind g _ _, fun U hU hW => ⟨rfl, ⟨by rw [hU]; exact hpre, by rw [hU]; exact (hE.kept hS).at hW⟩, hLs.moved hW.alike⟩⟩ rfl hn hsize hst (lv_room hW) hdg hf) hS kk
/-- a constructor that wants the arrays of arrays -/
theorem x_I0C (hx : p.tables.exec = Jvm.exec) (hb : c.code = cc) (hml : c.maxLocals = nL) (hown : s.vm.findClass own = some m.cls) (hE : xE g s s.heap) (hCs : xCs g s) (hS : va_S (gA g) s.heap H locs) (hsize : ls.size = nL) (hy : xCalI y bytes maxL n) (hl : Cond.methodLink own index y ∈ gl) (hM : xMs l y (xws y bytes maxL none) fr lo g (.ref b :: As) Pre (xCs g) none Post mc ms) (hR : fr + 1 ≤ R.frames ∧ 8 + (maxL + 11) + lo ≤ R.locals) (hf : cells + mc ≤ R.cells ∧ slots + ms ≤ R.slots) (hpre : Pre H) (hn : As.length = n) (hst : st0 = As.reverse ++ .ref b :: rest) (hW : (rest.map fun v => v.category).sum ≤ 8) (hdg : decode cc pc = .ok (.invokespecial index, 3))
    (kk : ∀ (H1 : Heap) (locs1 : List Loc), Post H1 → va_S (gA g) s.heap H1 locs1 → W p l e R s m args below meth c H1 locs1 (cells + mc) (slots + ms) Q (F0 m (pc + 3) ls rest)) : W p l e R s m args below meth c H locs cells slots Q (F0 m pc ls st0) := by
  have hsz : ls.size = c.maxLocals := hsize.trans hml.symm
  exact x_cont (va_runI ⟨hx, hb, hml, hown, hE.ts args⟩ hM ⟨x_callB hE args hy.1 hl hR, hy.2.2, hE.ts args _ hy.2.1⟩ ⟨xPs_blindC g _ _, fun U hU hW => ⟨rfl, ⟨by rw [hU]; exact hpre, by rw [hU]; exact (hE.kept hS).at hW⟩, hCs.moved hW.alike⟩⟩ rfl hn hsize hst (lv_room hW) hdg hf) hS kk
/-- what was thrown is caught here: pre are the rows ahead, that name other classes -/
theorem x_catch {E : String} {ce : Cell} {q : Addr} (hown : s.vm.findClass own = some m.cls) (hE : xE g s s.heap) (htab : c.exceptionTable.toList = tableOf hh) (pre : List ExceptionTableEntry) (x : ExceptionTableEntry) (suf : List ExceptionTableEntry) (hsplit : tableOf hh = pre ++ x :: suf) (hpass : ∀ z ∈ pre, z.catchType ≠ 0 ∧ ∃ nm : String, Cond.classLink own z.catchType nm ∈ gl ∧ va_Nc E nm s) (hcov : covers x pc = true) (h0 : x.catchType ≠ 0) (hlink : Cond.classLink own x.catchType E ∈ gl) (hcast : Cond.castable E E ∈ fl) (hcell : H[q]? = some ce) (hv : ce.vm = .none) (hcl : s.vm.findClass E = some ce.cls)
    (kk : W p l e R s m args below meth c H locs cells slots Q (F0 m x.handlerPc ls [.ref q])) : vx_W p l e R s m args below meth c H locs cells slots Q (F0 m pc ls rest) q :=
  vx_catch hown pre x suf (htab.trans hsplit) (fun z hz => by obtain ⟨h1, nm, h2, h3⟩ := hpass z hz; exact Or.inr ⟨h1, nm, hE.ts args _ h2, h3⟩) hcov h0 (hE.ts args _ hlink) (hE.tf args _ hcast) hcell hv hcl kk
/-- out[0], a long; outD[0], a double -/
theorem x_lald (hx : p.tables.exec = Jvm.exec) (hb : c.code = cc) (hK : va_K (gD g) vwCl (xT g) s) (hH : xR g dm I F n0 H) (hd : dm [30]) (hdg : decode cc pc = .ok (.laload, 1))
    (kk : W p l e R s m args below meth c H locs cells slots Q (F0 m (pc + 1) ls (.long (I [30] 0).toInt64 :: rest))) : W p l e R s m args below meth c H locs cells slots Q (F0 m pc ls (.int 0 :: .ref (ga g [30]) :: rest)) := by
  obtain ⟨h1, h2⟩ := x_in (i := 0) (j := 0) (L := 1) rfl (by omega) (by omega)
  have hc := x_cell hH hd (t := 12) (L := 1) rfl
  exact W.lald (v := .long (I [30] 0).toInt64) hx hb hc ((hK.2 12 _ (xT_at g (by decide))).1 1 _) (fun q => by cases q) (by rw [arrV_size]; exact h1) (by rw [h2, arrV_read _ _ (by omega)]; rfl) rfl rfl hdg kk
theorem x_dald (hx : p.tables.exec = Jvm.exec) (hb : c.code = cc) (hK : va_K (gD g) vwCl (xT g) s) (hH : xR g dm I F n0 H) (hd : dm [31]) (hdg : decode cc pc = .ok (.daload, 1))
    (kk : W p l e R s m args below meth c H locs cells slots Q (F0 m (pc + 1) ls (.double (FP.f2d (I [31] 0).toUInt32) :: rest))) : W p l e R s m args below meth c H locs cells slots Q (F0 m pc ls (.int 0 :: .ref (ga g [31]) :: rest)) := by
  obtain ⟨h1, h2⟩ := x_in (i := 0) (j := 0) (L := 1) rfl (by omega) (by omega)
  have hc := x_cell hH hd (t := 13) (L := 1) rfl
  exact W.dald (v := .double (FP.f2d (I [31] 0).toUInt32)) hx hb hc ((hK.2 13 _ (xT_at g (by decide))).1 1 _) (fun q => by cases q) (by rw [arrV_size]; exact h1) (by rw [h2, arrV_read _ _ (by omega)]; rfl) rfl rfl hdg kk
theorem x_last (hx : p.tables.exec = Jvm.exec) (hb : c.code = cc) (hK : va_K (gD g) vwCl (xT g) s) (hH : xR g dm I F n0 H) (hS : va_S (gA g) H0 H locs) (hd : dm [30]) {x : Int64} {v : Int32} (hxv : x = v.toInt64) (hdg : decode cc pc = .ok (.lastore, 1))
    (kk : ∀ (H1 : Heap) (locs1 : List Loc), xR g dm (up I [30] 0 v) F n0 H1 → va_S (gA g) H0 H1 locs1 → W p l e R s m args below meth c H1 locs1 cells slots Q (F0 m (pc + 1) ls rest)) : W p l e R s m args below meth c H locs cells slots Q (F0 m pc ls (.long x :: .int 0 :: .ref (ga g [30]) :: rest)) := by
  obtain ⟨h1, h2⟩ := x_in (i := 0) (j := 0) (L := 1) rfl (by omega) (by omega)
  have hc := x_cell hH hd (t := 12) (L := 1) rfl
  subst hxv
  refine W.last hx hb hc ((hK.2 12 _ (xT_at g (by decide))).1 1 _) (fun q => by cases q) (by rw [arrV_size]; exact h1) rfl rfl hdg fun H1 e z oq => ?_
  refine kk H1 _ (hH.upd hd z oq (fun i hi => up_id hi) (fun _ _ => rfl) ((xat_arr (t := 12) (L := 1) rfl).mpr ?_)) (hS.put z oq (hH.2.2.2.1 _ hd))
  rw [e, h2]
  refine congrArg some (x_arrset (fun y => ?_))
  unfold updV xe
  by_cases q : y = 0
  · subst q; simp [up]
  · simp [q, up]
theorem x_dast (hx : p.tables.exec = Jvm.exec) (hb : c.code = cc) (hK : va_K (gD g) vwCl (xT g) s) (hH : xR g dm I F n0 H) (hS : va_S (gA g) H0 H locs) (hd : dm [31]) {x : UInt64} {v : Int32} (hxv : x = FP.f2d v.toUInt32) (hdg : decode cc pc = .ok (.dastore, 1))
    (kk : ∀ (H1 : Heap) (locs1 : List Loc), xR g dm (up I [31] 0 v) F n0 H1 → va_S (gA g) H0 H1 locs1 → W p l e R s m args below meth c H1 locs1 cells slots Q (F0 m (pc + 1) ls rest)) : W p l e R s m args below meth c H locs cells slots Q (F0 m pc ls (.double x :: .int 0 :: .ref (ga g [31]) :: rest)) := by
  obtain ⟨h1, h2⟩ := x_in (i := 0) (j := 0) (L := 1) rfl (by omega) (by omega)
  have hc := x_cell hH hd (t := 13) (L := 1) rfl
  subst hxv
  refine W.dast hx hb hc ((hK.2 13 _ (xT_at g (by decide))).1 1 _) (fun q => by cases q) (by rw [arrV_size]; exact h1) rfl rfl hdg fun H1 e z oq => ?_
  refine kk H1 _ (hH.upd hd z oq (fun i hi => up_id hi) (fun _ _ => rfl) ((xat_arr (t := 13) (L := 1) rfl).mpr ?_)) (hS.put z oq (hH.2.2.2.1 _ hd))
  rw [e, h2]
  refine congrArg some (x_arrset (fun y => ?_))
  unfold updV xe
  by_cases q : y = 0
  · subst q; simp [up]
  · simp [q, up]
end XL
theorem cfIS : Cond.castable eIS eIS ∈ fl := by decide +kernel
theorem cfIO : Cond.castable eIO eIO ∈ fl := by decide +kernel
theorem cfIA : Cond.castable eIA eIA ∈ fl := by decide +kernel
theorem cfUO : Cond.castable eUO eUO ∈ fl := by decide +kernel
theorem cfNS : Cond.castable eNS eNS ∈ fl := by decide +kernel
theorem cyL_addPlan : xCalW yL_addPlan cL_addPlan 3 (some FieldType.int) [(0, 8, 11, 13)] 2 := ⟨tw168, tw0, by decide +kernel, tw167⟩
theorem cyL_addStep : xCalW yL_addStep cL_addStep 6 (some FieldType.int) [(0, 12, 15, 19), (0, 12, 19, 21), (0, 12, 23, 13)] 5 := ⟨tw246, tw0, by decide +kernel, tw245⟩
theorem cyL_addEntry : xCalW yL_addEntry cL_addEntry 8 (some FieldType.int) [(0, 16, 19, 19), (0, 16, 23, 21), (0, 16, 27, 13)] 7 := ⟨tw372, tw0, by decide +kernel, tw371⟩
theorem cyL_addExit : xCalW yL_addExit cL_addExit 8 (some FieldType.int) [(0, 16, 19, 19), (0, 16, 23, 21), (0, 16, 27, 30), (0, 16, 31, 13)] 7 := ⟨tw427, tw0, by decide +kernel, tw426⟩
theorem cyL_setRequired : xCalW yL_setRequired cL_setRequired 6 (some FieldType.int) [(0, 19, 22, 19), (0, 19, 26, 30), (0, 19, 30, 13)] 5 := ⟨tw451, tw0, by decide +kernel, tw450⟩
theorem cyL_setLimit : xCalW yL_setLimit cL_setLimit 6 (some FieldType.int) [(0, 12, 15, 19), (0, 12, 19, 21), (0, 12, 23, 30), (0, 12, 27, 13)] 5 := ⟨tw462, tw0, by decide +kernel, tw461⟩
theorem cyL_setAgain : xCalW yL_setAgain cL_setAgain 6 (some FieldType.int) [(0, 19, 22, 19), (0, 19, 26, 30), (0, 19, 30, 13)] 5 := ⟨tw470, tw0, by decide +kernel, tw469⟩
theorem cyL_steps : xCalW yL_steps cL_steps 4 (some FieldType.int) [(0, 9, 12, 19)] 3 := ⟨tw478, tw0, by decide +kernel, tw477⟩
theorem cyL_isUsed : xCalW yL_isUsed cL_isUsed 4 (some FieldType.int) [(0, 16, 19, 19)] 3 := ⟨tw485, tw0, by decide +kernel, tw484⟩
theorem cyL_begin : xCalW yL_begin cL_begin 4 (some FieldType.int) [(0, 9, 12, 19), (0, 9, 15, 13)] 3 := ⟨tw492, tw0, by decide +kernel, tw491⟩
theorem cyL_set : xCalW yL_set cL_set 6 (some FieldType.int) [(0, 12, 15, 19), (0, 12, 19, 21)] 5 := ⟨tw581, tw0, by decide +kernel, tw580⟩
theorem cyL_event : xCalW yL_event cL_event 5 (some FieldType.int) [(0, 10, 13, 19), (0, 10, 17, 21)] 4 := ⟨tw599, tw0, by decide +kernel, tw598⟩
theorem cyL_complete : xCalW yL_complete cL_complete 5 (some FieldType.int) [(0, 10, 13, 19), (0, 10, 17, 30), (0, 10, 21, 13)] 4 := ⟨tw615, tw0, by decide +kernel, tw614⟩
theorem cyL_setWaiting : xCalW yL_setWaiting cL_setWaiting 5 (some FieldType.int) [(0, 17, 20, 19)] 4 := ⟨tw624, tw0, by decide +kernel, tw623⟩
theorem cyL_move : xCalW yL_move cL_move 5 (some FieldType.int) [(0, 10, 13, 19), (0, 10, 17, 21)] 4 := ⟨tw631, tw0, by decide +kernel, tw630⟩
theorem cyL_pass : xCalW yL_pass cL_pass 4 (some FieldType.int) [(0, 9, 12, 21)] 3 := ⟨tw639, tw0, by decide +kernel, tw638⟩
theorem cyL_state : xCalW yL_state cL_state 5 (some FieldType.int) [(0, 10, 13, 19)] 4 := ⟨tw659, tw0, by decide +kernel, tw658⟩
theorem cyL_stateByReplay : xCalW yL_stateByReplay cL_stateByReplay 5 (some FieldType.int) [(0, 10, 13, 19)] 4 := ⟨tw670, tw0, by decide +kernel, tw669⟩
theorem cyL_clock : xCalW yL_clock cL_clock 5 (some FieldType.int) [(0, 10, 13, 19)] 4 := ⟨tw681, tw0, by decide +kernel, tw680⟩
theorem cyL_clockByReplay : xCalW yL_clockByReplay cL_clockByReplay 5 (some FieldType.int) [(0, 10, 13, 19)] 4 := ⟨tw689, tw0, by decide +kernel, tw688⟩
theorem cyL_count : xCalW yL_count cL_count 5 (some FieldType.int) [(0, 10, 13, 19)] 4 := ⟨tw696, tw0, by decide +kernel, tw695⟩
theorem cyL_isLate : xCalW yL_isLate cL_isLate 5 (some FieldType.int) [(0, 17, 20, 19)] 4 := ⟨tw707, tw0, by decide +kernel, tw706⟩
theorem cyL_daysLeft : xCalW yL_daysLeft cL_daysLeft 4 (some FieldType.int) [(0, 9, 12, 19), (0, 9, 15, 97)] 3 := ⟨tw716, tw0, by decide +kernel, tw715⟩
theorem cyL_holds : xCalW yL_holds cL_holds 7 (some FieldType.int) [(0, 21, 24, 19), (0, 21, 28, 97)] 6 := ⟨tw744, tw0, by decide +kernel, tw743⟩
theorem cyL_active : xCalW yL_active cL_active 4 (some FieldType.int) [(0, 9, 12, 19)] 3 := ⟨tw754, tw0, by decide +kernel, tw753⟩
theorem cyL_isOver : xCalW yL_isOver cL_isOver 4 (some FieldType.int) [(0, 16, 19, 19)] 3 := ⟨tw765, tw0, by decide +kernel, tw764⟩
theorem cyL_rounds : xCalW yL_rounds cL_rounds 4 (some FieldType.int) [(0, 9, 12, 19)] 3 := ⟨tw776, tw0, by decide +kernel, tw775⟩
theorem cyL_datum : xCalW yL_datum cL_datum 5 (some FieldType.int) [(0, 10, 13, 19), (0, 10, 17, 21)] 4 := ⟨tw783, tw0, by decide +kernel, tw782⟩
theorem cyL_days : xCalW yL_days cL_days 4 (some FieldType.int) [(0, 9, 12, 19)] 3 := ⟨tw790, tw0, by decide +kernel, tw789⟩
theorem cyL_planOf : xCalW yL_planOf cL_planOf 4 (some FieldType.int) [(0, 9, 12, 19)] 3 := ⟨tw797, tw0, by decide +kernel, tw796⟩
theorem cyL_isWaiting : xCalW yL_isWaiting cL_isWaiting 4 (some FieldType.int) [(0, 16, 19, 19)] 3 := ⟨tw804, tw0, by decide +kernel, tw803⟩
theorem cyL_happened : xCalW yL_happened cL_happened 4 (some FieldType.int) [(0, 9, 12, 19)] 3 := ⟨tw811, tw0, by decide +kernel, tw810⟩
theorem cyL_doneShare : xCalW yL_doneShare cL_doneShare 4 (some FieldType.int) [(0, 9, 12, 19)] 3 := ⟨tw818, tw0, by decide +kernel, tw817⟩
