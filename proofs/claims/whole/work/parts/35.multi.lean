/-! ARRAYS OF ARRAYS: what 'multianewarray' makes, of any depth -/
def xC (g : xG) (t tc : Nat) (U : State) : Prop := ∃ k : Class, U.vm.classes[gT g t]? = some k ∧ k.kind = .array (gT g tc) (xty t)
theorem xC.moved {g : xG} {t tc : Nat} {u U : State} (hvm : u.vm.Alike U.vm) (h : xC g t tc u) : xC g t tc U := by
  obtain ⟨k, h1, h2⟩ := h
  obtain ⟨k', hk', he⟩ := hvm.2.2 _ _ h1
  exact ⟨k', hk', by rw [he]; exact h2⟩
/-- the arrays of arrays: what their classes are made of -/
def xCs (g : xG) (U : State) : Prop := xC g 7 0 U ∧ xC g 8 1 U ∧ xC g 9 2 U ∧ xC g 10 7 U ∧ xC g 11 8 U
theorem xCs.moved {g : xG} {u U : State} (hvm : u.vm.Alike U.vm) (h : xCs g u) : xCs g U := ⟨h.1.moved hvm, h.2.1.moved hvm, h.2.2.1.moved hvm, h.2.2.2.1.moved hvm, h.2.2.2.2.moved hvm⟩
section MM
variable {p : Program} {l : Launch} {e : Env} {R : Room} {s : State} {m : MethodId} {args : Array Value} {below : List Frame} {meth : Method} {c : Code}
theorem mm_new {U V : State} {lc : List Loc} (hV : V.heap.size = U.heap.size) (hVs : V.slotsUsed = U.slotsUsed) (hVm : V.vm = U.vm) {cells slots : Nat} (X : Stand p l e R s m args below meth c U lc cells slots) {ca comp : ClassId} {k : Class} {ty : FieldType} {N : Nat} {v : Value} (hk : U.vm.classes[ca]? = some k) (hkind : k.kind = .array comp ty) (hN : N ≤ 8)
    (hfit : fits ty v = true) (hdef : v.isDefault = true) (hcb : componentBytes ty ≤ 8) (hcells : cells + 1 ≤ R.cells) (hslots : slots + N ≤ R.slots) {E : CtlPost} {d : Bool} {acts : List Action} {Q : Addr → Bool → List Action → State → Prop}
    (hq : ∀ acts', Q V.heap.size d acts' (V.pushCell { cls := ca, slots := Array.replicate N v, vm := .none })) : wp (Jvm.newArray ca N v) Q E e d acts V := by
  have hl1 : ¬ N > e.platform.arrayLengthLimit := by rw [Launch.admits_arrayLengthLimit X.admits]; omega
  have hh1 : ¬ N * componentBytes ty > e.platform.maxHeapBytes := by
    rw [Launch.admits_maxHeapBytes X.admits]
    have := Nat.mul_le_mul hN hcb
    omega
  obtain ⟨hr1, hr2⟩ := X.roomAbove hcells hslots
  have hkV : V.vm.classes[ca]? = some k := by rw [hVm]; exact hk
  have hfits : ∀ i w, (Array.replicate N v)[i]? = some w → V.fitsSlot ca .none i w = true := by
    intro i w hw
    simp only [Array.getElem?_replicate] at hw
    split at hw
    · cases hw; simp [State.fitsSlot, State.slotType?, hkV, hkind, hfit]
    · cases hw
  simp only [Jvm.newArray, Jvm.arrayFits, wp_bind', W.ask, W.ite, hl1, if_false, wp_pure', W.theClass, hkV, hkind, hh1, W.alloc, W.stop, Option.some.injEq, exists_eq_left', Array.size_replicate]
  rw [if_neg (by omega)]
  exact ⟨by omega, by omega, hfits, hq _⟩
/-- 'make' of these lengths, at any state: A cells, B slots, Z says what lies behind the address -/
def mmP (p : Program) (l : Launch) (e : Env) (R : Room) (s : State) (m : MethodId) (args : Array Value) (below : List Frame) (meth : Method) (c : Code) (f : JFrame) (lc : List Loc) (vm : Vm) (ca : ClassId) (ds : List Int32) (A B : Nat) (Z : Nat → Heap → Prop) : Prop :=
  ∀ (U : State) (c1 s1 : Nat), Stand p l e R s m args below meth c U lc c1 s1 → U.vm = vm → c1 + A ≤ R.cells → s1 + B ≤ R.slots →
    ∃ U2 : State, Stand p l e R s m args below meth c U2 lc (c1 + A) (s1 + B) ∧ U2.vm = vm ∧ U2.heap.size = U.heap.size + A ∧ (∀ q, q < U.heap.size → U2.heap[q]? = U.heap[q]?) ∧ Z U.heap.size U2.heap ∧
      ∀ (E : CtlPost) (d : Bool) (acts : List Action) (Q : Addr → Bool → List Action → State → Prop), (∀ d' acts', Q U.heap.size d' acts' (U2.setTop f)) → wp (Op.multianewarray.make ca ds) Q E e d acts (U.setTop f)
theorem mm1 {f : JFrame} {lc : List Loc} {vm : Vm} {ca comp : ClassId} {k : Class} {ty : FieldType} {x : Int32} {N : Nat} (hk : vm.classes[ca]? = some k) (hkind : k.kind = .array comp ty) (hx : ¬ x < 0) (hxN : x.toNatClampNeg = N) (hN : N ≤ 8) (hfit : fits ty (defaultValue ty) = true) (hdef : (defaultValue ty).isDefault = true) (hcb : componentBytes ty ≤ 8) :
    mmP p l e R s m args below meth c f lc vm ca [x] 1 N (fun a H => H[a]? = some (arrV ca N (fun _ => defaultValue ty))) := by
  intro U c1 s1 X hvm hc hs
  have X1 := X.pushed { cls := ca, slots := Array.replicate N (defaultValue ty), vm := .none }
  rw [show ({ cls := ca, slots := Array.replicate N (defaultValue ty), vm := .none } : Cell).slots.size = N from Array.size_replicate] at X1
  refine ⟨U.pushCell { cls := ca, slots := Array.replicate N (defaultValue ty), vm := .none }, X1, hvm, by simp, fun q hq => State.heap_pushCell_of_lt _ _ hq, ?_, fun E d acts Q hq => ?_⟩
  · rw [← arrV_new]
    exact State.heap_pushCell_size _ _
  · rw [Op.multianewarray.make]
    simp only [wp_bind', W.ite, hx, if_false, wp_pure', W.theClass]
    refine ⟨k, by show U.vm.classes[ca]? = some k; rw [hvm]; exact hk, ?_⟩
    simp only [hkind, hxN]
    exact mm_new (U := U) (V := U.setTop f) rfl rfl rfl X (by rw [hvm]; exact hk) hkind hN hfit hdef hcb hc hs (fun acts' => hq d acts')
/-- the first i places of the outer array are filled -/
def mmV (a A i : Nat) : Nat → Value := fun j => if j < i then .ref (a + 1 + j * A) else .null
theorem mmV_s (a A i : Nat) : updV (mmV a A i) i (.ref (a + 1 + i * A)) = mmV a A (i + 1) := by
  funext j
  unfold updV mmV
  by_cases h : j = i
  · subst h; rw [if_pos rfl, if_pos (by omega)]
  · rw [if_neg h]
    by_cases h2 : j < i
    · rw [if_pos h2, if_pos (by omega)]
    · rw [if_neg h2, if_neg (by omega)]
theorem mmO {f : JFrame} {lc : List Loc} {vm : Vm} {ca comp : ClassId} {k : Class} {ty : FieldType} {x : Int32} {N : Nat} (hk : vm.classes[ca]? = some k) (hkind : k.kind = .array comp ty) (href : ty.isReference = true) (hx : ¬ x < 0) (hxN : x.toNatClampNeg = N) (hN : N ≤ 8) (hcb : componentBytes ty ≤ 8) {r0 : Int32} {rs : List Int32} (hpos : ((r0 :: rs).find? (· < 0)) = none) {A B : Nat} {Z : Nat → Heap → Prop}
    (hZ : ∀ (a : Nat) (H H' : Heap), Z a H → (∀ q, a ≤ q → q < a + A → H'[q]? = H[q]?) → Z a H') (hin : mmP p l e R s m args below meth c f lc vm comp (r0 :: rs) A B Z) :
    mmP p l e R s m args below meth c f lc vm ca (x :: r0 :: rs) (1 + N * A) (N + N * B) (fun a H => H[a]? = some (arrV ca N (fun j => .ref (a + 1 + j * A))) ∧ ∀ j, j < N → Z (a + 1 + j * A) H) := by
  intro U c1 s1 X hvm hc hs
  obtain ⟨a, ha⟩ : ∃ a, a = U.heap.size := ⟨_, rfl⟩
  obtain ⟨U0, hU0⟩ : ∃ V, V = U.pushCell { cls := ca, slots := Array.replicate N .null, vm := .none } := ⟨_, rfl⟩
  have X0 : Stand p l e R s m args below meth c U0 lc (c1 + 1) (s1 + N) := by
    have h := X.pushed { cls := ca, slots := Array.replicate N .null, vm := .none }
    rw [show ({ cls := ca, slots := Array.replicate N .null, vm := .none } : Cell).slots.size = N from Array.size_replicate] at h
    rw [hU0]; exact h
  have hs0 : U0.heap.size = a + 1 := by rw [hU0, ha]; simp
  have ho0 : ∀ q, q < a → U0.heap[q]? = U.heap[q]? := fun q hq => by
    have hq' : q < U.heap.size := by omega
    rw [hU0]; exact State.heap_pushCell_of_lt _ _ hq'
  have hc0 : U0.heap[a]? = some (arrV ca N (mmV a A 0)) := by
    rw [show mmV a A 0 = fun _ => Value.null from funext fun j => if_neg (by omega), ← arrV_new, hU0, ha]
    exact State.heap_pushCell_size _ _
  have hv0 : U0.vm = vm := by rw [hU0]; exact hvm
  -- the loop: r more rows, i are made
  have loop : ∀ (r i : Nat) (V : State), i + r = N → Stand p l e R s m args below meth c V lc (c1 + (1 + i * A)) (s1 + (N + i * B)) → V.vm = vm → V.heap.size = a + (1 + i * A) → (∀ q, q < a → V.heap[q]? = U.heap[q]?) → V.heap[a]? = some (arrV ca N (mmV a A i)) → (∀ j, j < i → Z (a + 1 + j * A) V.heap) →
      ∃ U2 : State, Stand p l e R s m args below meth c U2 lc (c1 + (1 + N * A)) (s1 + (N + N * B)) ∧ U2.vm = vm ∧ U2.heap.size = a + (1 + N * A) ∧ (∀ q, q < a → U2.heap[q]? = U.heap[q]?) ∧ U2.heap[a]? = some (arrV ca N (mmV a A N)) ∧ (∀ j, j < N → Z (a + 1 + j * A) U2.heap) ∧
        ∀ (E : CtlPost) (d : Bool) (acts : List Action) (Q : PUnit → Bool → List Action → State → Prop), (∀ d' acts', Q PUnit.unit d' acts' (U2.setTop f)) →
          wp (forIn (List.range' i r) PUnit.unit (fun (i : Nat) (_ : PUnit) => do
            Jvm.writeLoc a i (.ref (← Op.multianewarray.make comp (r0 :: rs)))
            Pure.pure (ForInStep.yield PUnit.unit))) Q E e d acts (V.setTop f) := by
    intro r
    induction r with
    | zero =>
      intro i V hi XV h1 h2 h3 h4 h5
      have hiN : i = N := by omega
      subst hiN
      refine ⟨V, XV, h1, h2, h3, h4, h5, fun E d acts Q hq => ?_⟩
      show wp (forIn ([] : List Nat) PUnit.unit _) Q E e d acts (V.setTop f)
      simp only [List.forIn_nil, wp_pure']
      exact hq _ _
    | succ r ih =>
      intro i V hi XV h1 h2 h3 h4 h5
      have hmA : (i + 1) * A ≤ N * A := Nat.mul_le_mul_right A (by omega)
      have hmB : (i + 1) * B ≤ N * B := Nat.mul_le_mul_right B (by omega)
      have hsA : (i + 1) * A = i * A + A := Nat.succ_mul i A
      have hsB : (i + 1) * B = i * B + B := Nat.succ_mul i B
      obtain ⟨V1, X1, g1, g2, g3, g4, g5⟩ := hin V _ _ XV h1 (by omega) (by omega)
      have hcell : V1.heap[a]? = some (arrV ca N (mmV a A i)) := by rw [g3 a (by omega)]; exact h4
      obtain ⟨V2, hV2⟩ : ∃ W, W = V1.setCell a ((arrV ca N (mmV a A i)).setSlot i (.ref V.heap.size)) := ⟨_, rfl⟩
      have X2 : Stand p l e R s m args below meth c V2 lc (c1 + (1 + (i + 1) * A)) (s1 + (N + (i + 1) * B)) := by
        have h := X1.stored hcell i (.ref V.heap.size)
        rw [← hV2] at h
        have h' := Stand.dropFresh (locs := lc) h (fun w hw => by
          rw [List.mem_singleton] at hw
          subst hw
          show s.heap.size ≤ a
          rw [ha]; exact X.heapGrown)
        rw [show c1 + (1 + (i + 1) * A) = c1 + (1 + i * A) + A by omega, show s1 + (N + (i + 1) * B) = s1 + (N + i * B) + B by omega]
        exact h'
      have hsz2 : V2.heap.size = a + (1 + (i + 1) * A) := by rw [hV2]; simp [State.setCell]; omega
      have hself : V2.heap[a]? = some (arrV ca N (mmV a A (i + 1))) := by
        rw [hV2, ← mmV_s, show a + 1 + i * A = V.heap.size by omega, ← arrV_store]
        exact State.heap_setCell_self hcell
      have hoth : ∀ q, q ≠ a → V2.heap[q]? = V1.heap[q]? := fun q hq => by rw [hV2]; exact State.heap_setCell_other hq.symm
      obtain ⟨U2, k1, k2, k3, k4, k5, k6, k7⟩ := ih (i + 1) V2 (by omega) X2 (by rw [hV2]; exact g1) hsz2 (fun q hq => by rw [hoth q (by omega), g3 q (by omega)]; exact h3 q hq) hself (fun j hj => by
        rcases Nat.lt_or_ge j i with hji | hji
        · have hm : (j + 1) * A ≤ i * A := Nat.mul_le_mul_right A (by omega)
          have hm2 : (j + 1) * A = j * A + A := Nat.succ_mul j A
          refine hZ _ _ _ (h5 j hji) (fun q q1 q2 => ?_)
          rw [hoth q (by omega), g3 q (by omega)]
        · have e : j = i := by omega
          subst e
          rw [show a + 1 + j * A = V.heap.size by omega]
          refine hZ _ _ _ g4 (fun q q1 q2 => ?_)
          rw [hoth q (by omega)])
      refine ⟨U2, k1, k2, k3, k4, k5, k6, fun E d acts Q hq => ?_⟩
      rw [List.range'_succ]
      simp only [List.forIn_cons, wp_bind']
      refine g5 E d acts _ (fun d' acts' => ?_)
      show wp (Jvm.writeLoc a i (.ref V.heap.size) >>= fun _ => Pure.pure (ForInStep.yield PUnit.unit)) _ E e d' acts' (V1.setTop f)
      simp only [wp_bind', W.writeLoc, wp_pure']
      refine ⟨arrV ca N (mmV a A i), hcell, by simp [arrV], by rw [arrV_size]; omega, ?_, ?_⟩
      · show V1.fitsSlot ca .none i _ = true
        have hk1 : V1.vm.classes[ca]? = some k := by rw [g1]; exact hk
        have hf : fits ty (.ref V.heap.size) = true := by cases ty <;> first | (simp [FieldType.isReference] at href; done) | rfl
        simp [State.fitsSlot, State.slotType?, hk1, hkind, hf]
      · rw [State.setCell_setTop, ← hV2]
        exact k7 E _ _ Q hq
  obtain ⟨U2, k1, k2, k3, k4, k5, k6, k7⟩ := loop N 0 U0 (by omega) (by rw [Nat.zero_mul, Nat.zero_mul]; exact X0) hv0 (by rw [Nat.zero_mul]; exact hs0) ho0 hc0 (fun j hj => absurd hj (by omega))
  refine ⟨U2, k1, k2, by rw [← ha]; exact k3, fun q hq => k4 q (by omega), ⟨?_, fun j hj => by rw [← ha]; exact k6 j hj⟩, fun E d acts Q hq => ?_⟩
  · rw [← ha, k5]
    refine congrArg some ?_
    unfold arrV
    refine congrArg (fun z => ({ cls := ca, slots := z, vm := .none } : Cell)) (congrArg Array.ofFn (funext fun j => ?_))
    exact if_pos j.isLt
  · rw [Op.multianewarray.make]
    simp only [wp_bind', W.ite, hx, if_false, wp_pure', W.theClass]
    refine ⟨k, by show U.vm.classes[ca]? = some k; rw [hvm]; exact hk, ?_⟩
    simp only [hkind, hxN, wp_bind']
    have hfn : fits ty (.null : Value) = true := by cases ty <;> first | (simp [FieldType.isReference] at href; done) | rfl
    refine mm_new (U := U) (V := U.setTop f) rfl rfl rfl X (by rw [hvm]; exact hk) hkind hN hfn rfl hcb (by omega) (by omega) (fun acts' => ?_)
    simp only [hpos]
    rw [ite_self, wp_bind', Std.Legacy.Range.forIn_eq_forIn_range']
    have hsz : ([:N] : Std.Legacy.Range).size = N := by simp [Std.Legacy.Range.size]
    rw [hsz]
    have hst : (U.setTop f).pushCell { cls := ca, slots := Array.replicate N .null, vm := .none } = U0.setTop f := by rw [hU0]; rfl
    rw [hst, show (U.setTop f).heap.size = a from ha.symm]
    exact k7 E _ _ _ (fun d' acts'' => by rw [wp_pure', ha]; exact hq _ _)
end MM
