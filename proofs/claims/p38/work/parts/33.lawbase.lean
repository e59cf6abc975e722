/-! THE LAW'S OWN METHODS: they catch what the class throws -/
def xMl (l : Launch) (y : MethodName) (cc : ByteArray) (maxL : Nat) (ret : Option FieldType) (hh : List (Nat × Nat × Nat × Nat)) (fr lo : Nat) (g : xG) (av : List Value) (Pre : Heap → Prop) (v : Option Value) (Post : Heap → Prop) (mc ms : Nat) : Prop := Met l y [Cond.codeWith y cc maxL ret hh] { frames := fr, cells := mc, slots := ms, locals := lo } (xPc g av Pre) (xQc g v Post) mc ms (gA g)
theorem xMl.of {l : Launch} {y : MethodName} {fr lo : Nat} {g : xG} {av : List Value} {Pre : Heap → Prop} {v : Option Value} {Post : Heap → Prop} {mc ms : Nat} {cc : ByteArray} {maxL : Nat} {ret : Option FieldType} {hh : List (Nat × Nat × Nat × Nat)}
    (hy : plainName y.cls = true) (hsz : (lg_sl av).length ≤ maxL)
    (body : ∀ (p : Program) (e : Env) (s : State) (m : MethodId) (below : List Frame) (meth : Method) (c : Code) (ls : Array Slot), p.tables.exec = Jvm.exec → c.code = cc → meth.sig.returnType = ret → s.vm.findClass y.cls = some m.cls → meth.locks = false → c.maxLocals = maxL → c.exceptionTable.toList = tableOf hh →
      xE g s s.heap → va_K (gD g) vwCl (xT g) s → (∀ w ∈ gl, w.before av.toArray s = true) → Pre s.heap → va_S (gA g) s.heap s.heap [] → lv_has ls maxL (lv_args 0 av) →
      W p l e { frames := fr, cells := mc, slots := ms, locals := lo } s m av.toArray below meth c s.heap [] 0 0 (MQ below (xQc g v Post) av.toArray s mc ms (gA g)) (F0 m 0 ls [])) : xMl l y cc maxL ret hh fr lo g av Pre v Post mc ms := by
  unfold xMl Met
  refine MetFree.of_bodyS (code := cc) (maxLocals := maxL) (ret := ret) hy ?_ ?_
  · intro args s m h hn
    obtain ⟨m9, meth, c, hn9, h1, h2, h3, h4, -, h5, h6, -⟩ := Cond.codeWith_spec (atoms_spec (ws := [Cond.codeWith y cc maxL ret hh]) h _ List.mem_cons_self)
    cases hn.symm.trans hn9
    exact ⟨meth, c, h1, h2, h3, h4, h5, h6⟩
  · intro p e s m args below meth c s₁ B hml hP _
    have hh0 : s₁.heap = s.heap := by rw [B.state]; rfl
    have htab : c.exceptionTable.toList = tableOf hh := vx_table (x := y) B (atoms_spec (ws := [Cond.codeWith y cc maxL ret hh]) B.pre _ List.mem_cons_self)
    obtain ⟨rfl, hP, hE⟩ := hP
    have hl := lv_entry av (n := maxL) hsz
    have hW := body p e s m below meth c _ B.exec B.bytes B.returns (findClass_of_methodNamed B.named) B.notSynchronized hml htab hE hE.1 (hE.ts _) hP va_S.rf hl
    rw [← lg_entry_eq] at hW
    obtain ⟨t, a1, o, b1, b2, b3⟩ := hW s₁ hh0 (Stand.of_body B)
    exact ⟨t, o, a1, b1, b2, b3⟩
def xCalW (y : MethodName) (bytes : ByteArray) (maxL : Nat) (ret : Option FieldType) (hh : List (Nat × Nat × Nat × Nat)) (n : Nat) : Prop := Cond.codeWith y bytes maxL ret hh ∈ gl ∧ Cond.initialized y.cls ∈ gl ∧ (y.cls ≠ "java/lang/invoke/MethodHandle" ∧ y.cls ≠ "java/lang/invoke/VarHandle" ∧ (parseMethodDescriptor y.desc).map (fun d => d.parameters.length) = some n) ∧ Cond.static y ∈ gl
theorem xCalW.good {y : MethodName} {bytes : ByteArray} {maxL : Nat} {ret : Option FieldType} {hh : List (Nat × Nat × Nat × Nat)} {n : Nat} (h : xCalW y bytes maxL ret hh n) {own : String} {index : Nat} (hl : Cond.methodLink own index y ∈ gl) : GoodIn gl (va_wsS own index y [Cond.codeWith y bytes maxL ret hh]) := fun w hw => by
  have hg : ∀ w ∈ gl, goodWord w = true := fun w h => (List.mem_filter.mp h).2
  unfold va_wsS at hw
  simp only [List.mem_append, List.mem_cons, List.not_mem_nil, or_false] at hw
  have hm : w ∈ gl := by
    rcases hw with hw | hw
    · rcases hw with e | e | e
      · rw [e]; exact hl
      · rw [e]; exact h.2.2.2
      · rw [e]; exact h.2.1
    · rw [hw]; exact h.1
  exact ⟨hm, good_of_word (hg w hm)⟩
section XL
variable {p : Program} {l : Launch} {e : Env} {R : Room} {s : State} {m : MethodId} {args : Array Value} {below : List Frame} {meth : Method} {c : Code} {H : Heap} {locs : List Loc} {cells slots : Nat} {Q : State → Prop}
variable {cc : ByteArray} {pc : Nat} {ls : Array Slot} {rest st0 : List Value} {H0 : Heap} {g : xG} {mc ms : Nat}
variable {dm : List Nat → Prop} {I : xI} {F : xF} {n0 : Nat}
variable {y : MethodName} {bytes : ByteArray} {maxL nL n index fr lo : Nat} {ret : Option FieldType} {own : String} {b : Addr} {As : List Value} {Pre Post : Heap → Prop} {w : Value} {hh : List (Nat × Nat × Nat × Nat)}
/-- the law calls a method of its own -/
theorem x_SW (hx : p.tables.exec = Jvm.exec) (hb : c.code = cc) (hml : c.maxLocals = nL) (hown : s.vm.findClass own = some m.cls) (hE : xE g s s.heap) (hS : va_S (gA g) s.heap H locs) (hsize : ls.size = nL) (hy : xCalW y bytes maxL ret hh n) (hl : Cond.methodLink own index y ∈ gl) (hM : xMl l y bytes maxL ret hh fr lo g As Pre (some w) Post mc ms) (hR : fr + 1 ≤ R.frames ∧ 8 + (maxL + 11) + lo ≤ R.locals) (hf : cells + mc ≤ R.cells ∧ slots + ms ≤ R.slots) (hpre : Pre H) (hn : As.length = n) (hst : st0 = As.reverse ++ rest) (hW : (rest.map fun v => v.category).sum ≤ 8) (hdg : decode cc pc = .ok (.invokestatic index, 3))
    (kk : ∀ (H1 : Heap) (locs1 : List Loc), Post H1 → va_S (gA g) s.heap H1 locs1 → W p l e R s m args below meth c H1 locs1 (cells + mc) (slots + ms) Q (F0 m (pc + 3) ls (w :: rest))) : W p l e R s m args below meth c H locs cells slots Q (F0 m pc ls st0) := by
  have cw := vx_cwSW (R := R) (s := s) (args := args) (own := own) (index := index) (mc := mc) (ms := ms) (rm := { frames := fr, cells := mc, slots := ms, locals := lo }) n (hE.ts args) (hy.good hl) rfl rfl rfl hy.2.2.1 hR
  exact x_cont (vx_runSW ⟨hx, hb, hml, hown, hE.ts args⟩ hM cw ⟨xPc_blind g _ _, fun U hU hW => ⟨rfl, by rw [hU]; exact hpre, by rw [hU]; exact (hE.kept hS).at hW⟩⟩ rfl hn hsize hst (lv_room hW) hdg hf) hS kk
/-- what was thrown is caught here: pre are the rows ahead, that name other classes -/
theorem x_catch {E : String} {ce : Cell} {q : Addr} (hown : s.vm.findClass own = some m.cls) (hE : xE g s s.heap) (htab : c.exceptionTable.toList = tableOf hh) (pre : List ExceptionTableEntry) (x : ExceptionTableEntry) (suf : List ExceptionTableEntry) (hsplit : tableOf hh = pre ++ x :: suf) (hpass : ∀ z ∈ pre, covers z pc = false ∨ (z.catchType ≠ 0 ∧ ∃ nm : String, Cond.classLink own z.catchType nm ∈ gl ∧ va_Nc E nm s)) (hcov : covers x pc = true) (h0 : x.catchType ≠ 0) (hlink : Cond.classLink own x.catchType E ∈ gl) (hcast : Cond.castable E E ∈ fl) (hcell : H[q]? = some ce) (hv : ce.vm = .none) (hcl : s.vm.findClass E = some ce.cls)
    (kk : W p l e R s m args below meth c H locs cells slots Q (F0 m x.handlerPc ls [.ref q])) : vx_W p l e R s m args below meth c H locs cells slots Q (F0 m pc ls rest) q :=
  vx_catch hown pre x suf (htab.trans hsplit) (fun z hz => (hpass z hz).elim Or.inl (fun ⟨h1, nm, h2, h3⟩ => Or.inr ⟨h1, nm, hE.ts args _ h2, h3⟩)) hcov h0 (hE.ts args _ hlink) (hE.tf args _ hcast) hcell hv hcl kk
end XL
theorem xE.ls {g : xG} {s : State} {H : Heap} (h : xE g s H) : ∀ q ∈ xNl, va_Nc q.1 q.2 s := h.2.2.2.2.2.2.2.1
theorem cfIS : Cond.castable eIS eIS ∈ fl := by decide +kernel
theorem cfIO : Cond.castable eIO eIO ∈ fl := by decide +kernel
theorem cfIA : Cond.castable eIA eIA ∈ fl := by decide +kernel
theorem cfUO : Cond.castable eUO eUO ∈ fl := by decide +kernel
theorem cfNS : Cond.castable eNS eNS ∈ fl := by decide +kernel
theorem cyL_plan : xCalW yL_plan cL_plan 2 (some FieldType.int) [(0, 4, 5, 13)] 1 := ⟨tw162, tw0, by decide +kernel, tw161⟩
theorem cyL_step : xCalW yL_step cL_step 5 (some FieldType.int) [(0, 7, 8, 19), (0, 7, 14, 21), (0, 7, 20, 13)] 4 := ⟨tw240, tw0, by decide +kernel, tw239⟩
theorem cyL_condition : xCalW yL_condition cL_condition 7 (some FieldType.int) [(0, 39, 40, 19), (0, 39, 46, 21), (0, 39, 52, 30), (0, 39, 58, 13)] 6 := ⟨tw366, tw0, by decide +kernel, tw365⟩
theorem cyL_flag : xCalW yL_flag cL_flag 6 (some FieldType.int) [(0, 36, 37, 19), (0, 36, 43, 30), (0, 36, 49, 13)] 5 := ⟨tw442, tw0, by decide +kernel, tw441⟩
theorem cyL_limit : xCalW yL_limit cL_limit 5 (some FieldType.int) [(0, 7, 8, 19), (0, 7, 14, 21), (0, 7, 20, 30), (0, 7, 26, 13)] 4 := ⟨tw458, tw0, by decide +kernel, tw457⟩
theorem cyL_of : xCalW yL_of cL_of 4 (some FieldType.int) [(0, 25, 26, 19)] 3 := ⟨tw466, tw0, by decide +kernel, tw465⟩
theorem cyL_begin : xCalW yL_begin cL_begin 3 (some FieldType.int) [(0, 5, 6, 19), (0, 5, 11, 13)] 2 := ⟨tw477, tw0, by decide +kernel, tw476⟩
theorem cyL_happens : xCalW yL_happens cL_happens 6 (some FieldType.int) [(0, 38, 39, 19), (0, 38, 45, 21)] 5 := ⟨tw566, tw0, by decide +kernel, tw565⟩
theorem cyL_complete : xCalW yL_complete cL_complete 4 (some FieldType.int) [(0, 6, 7, 19), (0, 6, 12, 30), (0, 6, 17, 13)] 3 := ⟨tw606, tw0, by decide +kernel, tw605⟩
theorem cyL_waiting : xCalW yL_waiting cL_waiting 4 (some FieldType.int) [(0, 14, 15, 19)] 3 := ⟨tw615, tw0, by decide +kernel, tw614⟩
theorem cyL_pass : xCalW yL_pass cL_pass 3 (some FieldType.int) [(0, 5, 6, 21)] 2 := ⟨tw622, tw0, by decide +kernel, tw621⟩
theorem cyL_at : xCalW yL_at cL_at 5 (some FieldType.int) [(0, 83, 84, 19)] 4 := ⟨tw646, tw0, by decide +kernel, tw645⟩
theorem cyL_holds : xCalW yL_holds cL_holds 6 (some FieldType.int) [(0, 17, 18, 19), (0, 17, 24, 98)] 5 := ⟨tw688, tw0, by decide +kernel, tw687⟩
theorem cyL_case0 : xCalW yL_case0 cL_case0 4 (some FieldType.int) [(0, 49, 108, 19), (50, 63, 108, 19), (64, 69, 108, 19), (70, 75, 108, 19), (76, 81, 108, 19), (82, 95, 108, 19), (96, 101, 108, 19), (102, 107, 108, 19), (0, 49, 113, 98), (50, 63, 113, 98), (64, 69, 113, 98), (70, 75, 113, 98), (76, 81, 113, 98), (82, 95, 113, 98), (96, 101, 113, 98), (102, 107, 113, 98)] 3 := ⟨tw714, tw0, by decide +kernel, tw713⟩
theorem cyL_datum : xCalW yL_datum cL_datum 4 (some FieldType.int) [(0, 6, 7, 19), (0, 6, 12, 21)] 3 := ⟨tw762, tw0, by decide +kernel, tw761⟩
theorem cyL_share : xCalW yL_share cL_share 3 (some FieldType.float) [(0, 5, 6, 19)] 2 := ⟨tw769, tw0, by decide +kernel, tw768⟩
