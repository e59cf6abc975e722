/-! METHODS THAT THROW: the exception's class E, and the heap behind -/
def xTX (g : xG) (E : String) (Post : Heap → Prop) : String → State → State → Prop := fun E' st t => E' = E ∧ Post t.heap ∧ va_F (gA g) st t
def xNo : Array Value → State → Outcome → State → Prop := fun _ _ _ _ => False
def xTc (l : Launch) (y : MethodName) (ws : List Cond) (fr lo : Nat) (g : xG) (av : List Value) (Pre : Heap → Prop) (E : String) (Post : Heap → Prop) (mc ms : Nat) : Prop := vx_Met l y ws { frames := fr, cells := mc, slots := ms, locals := lo } (xPc g av Pre) xNo (xTX g E Post) mc ms (gA g)
/-- the same things, more cells -/
def xG_ (g : xG) (dm : List Nat → Prop) (I : xI) (F : xF) (n : Nat) (H : Heap) : Prop := ∃ n', n ≤ n' ∧ xR g dm I F n' H
theorem xR.grow {g : xG} {dm : List Nat → Prop} {I : xI} {F : xF} {n : Nat} {H H1 : Heap} (h : xR g dm I F n H) (z : H.size ≤ H1.size) (o : ∀ q : Nat, q < H.size → H1[q]? = H[q]?) : xG_ g dm I F n H1 := by
  obtain ⟨h0, h1, h2, h3, h4⟩ := h
  refine ⟨H1.size, by omega, rfl, fun i hi => xat_kept (h1 i hi) (o _ (xat_lt (h1 i hi))), h2, h3, fun q hq => h4 q (by omega)⟩
abbrev exN : List String := ["java/lang/RuntimeException", "java/lang/Exception"]
def xThr (ik ic : Nat) (cls : String) : Prop := Cond.classLink "CasebookSteps" ik cls ∈ gl ∧ Cond.initialized cls ∈ gl ∧ (∀ w ∈ vx_atS "CasebookSteps" ic cls exN, w ∈ fl) ∧ (∀ w ∈ Cond.classLink "CasebookSteps" ik cls :: Cond.initialized cls :: vx_atS "CasebookSteps" ic cls exN, vx_ot w = true) ∧ Bundle.fit cls = true
theorem exfit : ∀ n ∈ exN, Bundle.fit n = true := by decide +kernel
abbrev eIS : String := "java/lang/IllegalStateException"
abbrev eIA : String := "java/lang/IllegalArgumentException"
abbrev eUO : String := "java/lang/UnsupportedOperationException"
abbrev eNS : String := "java/util/NoSuchElementException"
abbrev eIO : String := "java/lang/IndexOutOfBoundsException"
theorem thIS : xThr 45 49 eIS := ⟨tw168, tw12, by decide +kernel, by decide +kernel, by decide +kernel⟩
theorem thIA : xThr 56 60 eIA := ⟨tw271, tw11, by decide +kernel, by decide +kernel, by decide +kernel⟩
theorem thUO : xThr 114 118 eUO := ⟨tw424, tw20, by decide +kernel, by decide +kernel, by decide +kernel⟩
theorem thIO : xThr 292 296 eIO := ⟨tw255, tw8, by decide +kernel, by decide +kernel, by decide +kernel⟩
theorem xTc.of {l : Launch} {y : MethodName} {fr lo : Nat} {g : xG} {av : List Value} {Pre : Heap → Prop} {E : String} {Post : Heap → Prop} {mc ms : Nat} {cc : ByteArray} {maxL : Nat} {ret : Option FieldType}
    (hy : plainName y.cls = true) (hsz : (lg_sl av).length ≤ maxL)
    (body : ∀ (p : Program) (e : Env) (s : State) (m : MethodId) (below : List Frame) (meth : Method) (c : Code) (ls : Array Slot), p.tables.exec = Jvm.exec → c.code = cc → meth.sig.returnType = ret → s.vm.findClass y.cls = some m.cls → meth.locks = false → c.maxLocals = maxL → (∀ (q : Nat), ∀ x ∈ c.exceptionTable.toList, covers x q = false) →
      xE g s s.heap → va_K (gD g) vwCl (xT g) s → (∀ w ∈ gl, w.before av.toArray s = true) → Pre s.heap → va_S (gA g) s.heap s.heap [] → lv_has ls maxL (lv_args 0 av) →
      W p l e { frames := fr, cells := mc, slots := ms, locals := lo } s m av.toArray below meth c s.heap [] 0 0 (vx_MQ below xNo (xTX g E Post) av.toArray s mc ms (gA g)) (F0 m 0 ls [])) : xTc l y (xws y cc maxL ret) fr lo g av Pre E Post mc ms := by
  refine vx_ofW (cc := cc) (maxL := maxL) (ret := ret) hy rfl ?_
  intro p e s m args below meth c s₁ B hml ht hv
  obtain ⟨rfl, hP, hE⟩ := hv
  have hl := lv_entry av (n := maxL) hsz
  rw [lg_entry_eq]
  exact body p e s m below meth c _ B.exec B.bytes B.returns (findClass_of_methodNamed B.named) B.notSynchronized hml (fun q x hx => (ht x hx).elim) hE hE.1 (hE.ts _) hP va_S.rf hl
section X3
variable {p : Program} {l : Launch} {e : Env} {R : Room} {s : State} {m : MethodId} {args : Array Value} {below : List Frame} {meth : Method} {c : Code} {H : Heap} {locs : List Loc} {cells slots : Nat} {Q : State → Prop}
variable {cc : ByteArray} {pc : Nat} {ls : Array Slot} {rest st0 : List Value} {H0 : Heap} {g : xG} {mc ms mc0 ms0 : Nat}
variable {dm : List Nat → Prop} {I : xI} {F : xF} {n0 : Nat}
/-- throw new E("text") -/
theorem x_thr {ik is ic : Nat} {cls text : String} {Post : Heap → Prop} (hx : p.tables.exec = Jvm.exec) (hb : c.code = cc) (hst : l.stackTraces = false) (hown : s.vm.findClass "CasebookSteps" = some m.cls) (hE : xE g s s.heap) (hS : va_S (gA g) s.heap H locs) (hH : xR g dm I F n0 H) (hsize : ls.size = c.maxLocals) (ht : xThr ik ic cls) (hs : (is, text) ∈ xStr)
    (d0 : decode cc pc = .ok (.new ik, 3)) (d3 : decode cc (pc + 3) = .ok (.dup, 1)) (d4 : decode cc (pc + 4) = .ok (.ldc is, 2)) (d6 : decode cc (pc + 6) = .ok (.invokespecial ic, 3)) (d9 : decode cc (pc + 9) = .ok (.athrow, 1)) (hout : ∀ (q : Nat), ∀ x ∈ c.exceptionTable.toList, covers x q = false) (hlocks : meth.locks = false)
    (hRf : 5 < R.frames) (hRl : (rest.map fun v => v.category).sum + 82 ≤ R.locals) (hRc : cells + 1 ≤ R.cells) (hRs : slots + 6 ≤ R.slots) (hc : cells + 1 ≤ mc) (hsl : slots + 6 ≤ ms) (hp : ∀ H1, xG_ g dm I F n0 H1 → Post H1) : W p l e R s m args below meth c H locs cells slots (vx_MQ below xNo (xTX g cls Post) args s mc ms (gA g)) (F0 m pc ls rest) := by
  obtain ⟨sa, hsa⟩ := hE.2.2.2.2.1 _ hs
  obtain ⟨t1, t2, t3, t4, t5⟩ := ht
  refine vx_throwS (names := exN) (sa := sa) (text := text) hx hb hst hown t5 exfit (hE.ts args _ t1) (hE.ts args _ t2) hsa (fun w hw => hE.tf args w (t3 w hw)) t4 hE.2.2.2.2.2.1 hE.2.2.2.2.2.2.1 hS hsize d0 d3 d4 d6 d9 (hout _) (by show 2 + 3 < _; omega) (by show _ + (13 * (2 + 1) + 43) ≤ _; omega) hRc hRs hlocks (fun t ha z o => ⟨rfl, hp _ (hH.grow z o), ?_⟩) hS.2.2 hc hsl
  exact ⟨Nat.le_trans hS.1 z, fun q h1 h2 => (o q (Nat.lt_of_lt_of_le h1 hS.1)).trans (hS.2.1 q h1 h2)⟩
theorem x_thrW {ik is ic : Nat} {cls text : String} {Post : Heap → Prop} (hx : p.tables.exec = Jvm.exec) (hb : c.code = cc) (hst : l.stackTraces = false) (hown : s.vm.findClass "CasebookSteps" = some m.cls) (hE : xE g s s.heap) (hS : va_S (gA g) s.heap H locs) (hH : xR g dm I F n0 H) (hsize : ls.size = c.maxLocals) (ht : xThr ik ic cls) (hs : (is, text) ∈ xStr)
    (d0 : decode cc pc = .ok (.new ik, 3)) (d3 : decode cc (pc + 3) = .ok (.dup, 1)) (d4 : decode cc (pc + 4) = .ok (.ldc_w is, 3)) (d7 : decode cc (pc + 7) = .ok (.invokespecial ic, 3)) (d10 : decode cc (pc + 10) = .ok (.athrow, 1)) (hout : ∀ (q : Nat), ∀ x ∈ c.exceptionTable.toList, covers x q = false) (hlocks : meth.locks = false)
    (hRf : 5 < R.frames) (hRl : (rest.map fun v => v.category).sum + 82 ≤ R.locals) (hRc : cells + 1 ≤ R.cells) (hRs : slots + 6 ≤ R.slots) (hc : cells + 1 ≤ mc) (hsl : slots + 6 ≤ ms) (hp : ∀ H1, xG_ g dm I F n0 H1 → Post H1) : W p l e R s m args below meth c H locs cells slots (vx_MQ below xNo (xTX g cls Post) args s mc ms (gA g)) (F0 m pc ls rest) := by
  obtain ⟨sa, hsa⟩ := hE.2.2.2.2.1 _ hs
  obtain ⟨t1, t2, t3, t4, t5⟩ := ht
  refine vx_throwSW (names := exN) (sa := sa) (text := text) hx hb hst hown t5 exfit (hE.ts args _ t1) (hE.ts args _ t2) hsa (fun w hw => hE.tf args w (t3 w hw)) t4 hE.2.2.2.2.2.1 hE.2.2.2.2.2.2.1 hS hsize d0 d3 d4 d7 d10 (hout _) (by show 2 + 3 < _; omega) (by show _ + (13 * (2 + 1) + 43) ≤ _; omega) hRc hRs hlocks (fun t ha z o => ⟨rfl, hp _ (hH.grow z o), ?_⟩) hS.2.2 hc hsl
  exact ⟨Nat.le_trans hS.1 z, fun q h1 h2 => (o q (Nat.lt_of_lt_of_le h1 hS.1)).trans (hS.2.1 q h1 h2)⟩
/-- a call that throws, seen by the caller -/
theorem x_contT {E : String} {Post : Heap → Prop} {a : Array Value} (hr : vx_Run p l e R s m args below meth c H locs cells slots mc ms (F0 m pc ls st0) rest (xNo a) (xTX g E Post) (gA g)) (hS : va_S (gA g) H0 H locs)
    (kx : ∀ (ce : Cell) (q9 : Addr) (H1 : Heap) (locs1 : List Loc), Post H1 → va_S (gA g) H0 H1 locs1 → H1[q9]? = some ce → ce.vm = .none → s.vm.findClass E = some ce.cls → vx_W p l e R s m args below meth c H1 locs1 (cells + mc) (slots + ms) Q (F0 m pc ls rest) q9) : W p l e R s m args below meth c H locs cells slots Q (F0 m pc ls st0) := by
  intro T hT X
  rcases hr T hT X with ⟨v, st₀, t, T', L, h0, X', hL, e1, e2, hF, st⟩ | ⟨q, st₀, t, T', L, E', ce, h0, X', hL, e1, e2, ⟨hEE, hp, hF⟩, hce, hcv, hcl, st⟩
  · exact hF.elim
  · subst hEE
    obtain ⟨k1, k2, k3⟩ := vx_keep h0 e1 hS (fun _ _ h => h) (fun _ h => h) hL hF
    obtain ⟨t2, a1, b1⟩ := kx ce q T'.heap (locs ++ L) (by rw [e1]; exact hp) k3 (by rw [e1]; exact hce) hcv hcl T' rfl X'
    exact ⟨t2, st.trans a1, b1⟩
/-- .. and handed on -/
theorem x_outT {E : String} {Post Post0 : Heap → Prop} {a : Array Value} (hr : vx_Run p l e R s m args below meth c H locs cells slots mc ms (F0 m pc ls st0) rest (xNo a) (xTX g E Post) (gA g)) (hS : va_S (gA g) s.heap H locs) (hout : ∀ (q : Nat), ∀ x ∈ c.exceptionTable.toList, covers x q = false) (hlocks : meth.locks = false) (hp : ∀ H1, Post H1 → Post0 H1) (hc : cells + mc ≤ mc0) (hs : slots + ms ≤ ms0) :
    W p l e R s m args below meth c H locs cells slots (vx_MQ below xNo (xTX g E Post0) args s mc0 ms0 (gA g)) (F0 m pc ls st0) :=
  x_contT hr hS (fun ce q9 H1 locs1 h1 hS1 hce hcv hcl => vx_out (hout _) hlocks hce hcv hcl (fun t ht _ => ⟨rfl, by rw [ht]; exact hp _ h1, hS1.F ht⟩) hS1.2.2 hc hs)
variable {y : MethodName} {bytes : ByteArray} {maxL nL n index fr lo : Nat} {ret : Option FieldType} {own : String} {b : Addr} {As : List Value} {Pre Post Post0 : Heap → Prop} {E : String}
theorem x_VT (hx : p.tables.exec = Jvm.exec) (hb : c.code = cc) (hml : c.maxLocals = nL) (hown : s.vm.findClass own = some m.cls) (hE : xE g s s.heap) (hS : va_S (gA g) s.heap H locs) (hsize : ls.size = nL) (hy : xCalV y bytes maxL ret n) (hl : Cond.methodLink own index y ∈ gl) (hM : xTc l y (xws y bytes maxL ret) fr lo g (.ref b :: As) Pre E Post mc ms) (hR : fr + 1 ≤ R.frames ∧ 8 + (maxL + 11) + lo ≤ R.locals) (hf : cells + mc ≤ R.cells ∧ slots + ms ≤ R.slots) (hrv : ∃ cellB : Cell, H[b]? = some cellB ∧ cellB.vm.isStatics = false ∧ s.vm.findClass y.cls = some cellB.cls) (hpre : Pre H) (hn : As.length = n) (hst : st0 = As.reverse ++ .ref b :: rest) (hW : (rest.map fun v => v.category).sum ≤ 8) (hdg : decode cc pc = .ok (.invokevirtual index, 3)) :
    vx_Run p l e R s m args below meth c H locs cells slots mc ms (F0 m pc ls st0) rest (xNo (Value.ref b :: As).toArray) (xTX g E Post) (gA g) :=
  vx_runV ⟨hx, hb, hml, hown, hE.ts args⟩ hM ⟨x_callB hE args hy.1 hl hR, hE.ts args _ hy.2.1, hE.ts args _ hy.2.2⟩ ⟨xPc_blind g _ _, hrv, fun U hU hW => ⟨rfl, by rw [hU]; exact hpre, by rw [hU]; exact (hE.kept hS).at hW⟩⟩ rfl hn hsize hst (lv_room hW) hdg hf
theorem x_ST (hx : p.tables.exec = Jvm.exec) (hb : c.code = cc) (hml : c.maxLocals = nL) (hown : s.vm.findClass own = some m.cls) (hE : xE g s s.heap) (hS : va_S (gA g) s.heap H locs) (hsize : ls.size = nL) (hy : xCalS y bytes maxL ret n) (hl : Cond.methodLink own index y ∈ gl) (hM : xTc l y (xws y bytes maxL ret) fr lo g As Pre E Post mc ms) (hR : fr + 1 ≤ R.frames ∧ 8 + (maxL + 11) + lo ≤ R.locals) (hf : cells + mc ≤ R.cells ∧ slots + ms ≤ R.slots) (hpre : Pre H) (hn : As.length = n) (hst : st0 = As.reverse ++ rest) (hW : (rest.map fun v => v.category).sum ≤ 8) (hdg : decode cc pc = .ok (.invokestatic index, 3)) :
    vx_Run p l e R s m args below meth c H locs cells slots mc ms (F0 m pc ls st0) rest (xNo As.toArray) (xTX g E Post) (gA g) :=
  vx_runS ⟨hx, hb, hml, hown, hE.ts args⟩ hM ⟨x_callB hE args hy.1 hl hR, hE.ts args _ hy.2⟩ ⟨xPc_blind g _ _, fun U hU hW => ⟨rfl, by rw [hU]; exact hpre, by rw [hU]; exact (hE.kept hS).at hW⟩⟩ rfl hn hsize hst (lv_room hW) hdg hf
end X3
