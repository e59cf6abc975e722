/-! ARRAYS OF ARRAYS over the logical heap -/
theorem arrV_ext {ca : ClassId} {N : Nat} {f f' : Nat → Value} (h : ∀ j, j < N → f j = f' j) : arrV ca N f = arrV ca N f' := by
  unfold arrV
  exact congrArg (fun z => ({ cls := ca, slots := z, vm := .none } : Cell)) (congrArg Array.ofFn (funext fun j => h j.val j.isLt))
theorem xR.pushN {g : xG} {dm : List Nat → Prop} {I : xI} {F : xF} {n K : Nat} {H H1 : Heap} (hH : xR g dm I F n H) (nw : List Nat → Prop) (had : ∀ i, nw i → n ≤ ga g i ∧ ga g i < n + K) (hinj : ∀ i j, nw i → nw j → ga g i = ga g j → i = j) (z : H1.size = H.size + K) (o : ∀ q : Nat, q < H.size → H1[q]? = H[q]?)
    (hat : ∀ i, nw i → xat g i (I i) (F i) H1) : xR g (fun i => nw i ∨ dm i) I F (n + K) H1 := by
  obtain ⟨h0, h1, h2, h3, h4⟩ := hH
  have hlt : ∀ i, dm i → ga g i < n := fun i hi => by have := xat_lt (h1 i hi); omega
  refine ⟨by omega, fun i hi => ?_, fun i j hi hj e => ?_, fun i hi => ?_, fun q hq => h4 q (by omega)⟩
  · rcases hi with hi | hi
    · exact hat i hi
    · exact xat_kept (h1 i hi) (o _ (xat_lt (h1 i hi)))
  · rcases hi with hi | hi <;> rcases hj with hj | hj
    · exact hinj i j hi hj e
    · have a := had i hi
      have b := hlt j hj
      omega
    · have a := had j hj
      have b := hlt i hi
      omega
    · exact h2 i j hi hj e
  · rcases hi with hi | hi
    · exact h4 _ (had i hi).1
    · exact h3 i hi
theorem x_SpushN {A : Nat → Prop} {H0 H H1 : Heap} {locs : List Loc} {K : Nat} (hS : va_S A H0 H locs) (z : H1.size = H.size + K) (o : ∀ q : Nat, q < H.size → H1[q]? = H[q]?) : va_S A H0 H1 locs := ⟨Nat.le_trans hS.1 (by omega), fun x h1 h2 => (o x (Nat.lt_of_lt_of_le h1 hS.1)).trans (hS.2.1 x h1 h2), hS.2.2⟩
section MR
variable {p : Program} {l : Launch} {e : Env} {R : Room} {s : State} {m : MethodId} {args : Array Value} {below : List Frame} {meth : Method} {c : Code} {H : Heap} {locs : List Loc} {cells slots : Nat} {Q : State → Prop}
variable {cc : ByteArray} {pc : Nat} {ls : Array Slot} {rest : List Value} {H0 : Heap} {g : xG}
variable {dm : List Nat → Prop} {I : xI} {F : xF} {n : Nat}
theorem x_mmW2 (hx : p.tables.exec = Jvm.exec) (hb : c.code = cc) {own nm : String} {index : Nat} {ca : ClassId} (hown : s.vm.findClass own = some m.cls) (hclink : (Cond.classLink own index nm).before args s = true) (hnm : s.vm.findClass nm = some ca) {x1 x2 : Int32} {A B : Nat} {Z : Nat → Heap → Prop}
    (hM : ∀ vm, s.vm.Alike vm → ∀ f, mmP p l e R s m args below meth c f locs vm ca [x1, x2] A B Z) (hcells : cells + A ≤ R.cells) (hslots : slots + B ≤ R.slots) (hdg : decode cc pc = .ok (.multianewarray index 2, 4))
    (kk : ∀ H1 : Heap, H1.size = H.size + A → (∀ q, q < H.size → H1[q]? = H[q]?) → Z H.size H1 → W p l e R s m args below meth c H1 locs (cells + A) (slots + B) Q (F0 m (pc + 4) ls (.ref H.size :: rest))) : W p l e R s m args below meth c H locs cells slots Q (F0 m pc ls (.int x2 :: .int x1 :: rest)) := by
  intro T hT X
  subst hT; subst hb
  have hpl : e.platform.magicAccessors = ({} : Platform).magicAccessors := by rw [X.admits.platform]
  obtain ⟨c0, hfc0, hcl⟩ := Cond.classLink_spec hown hclink e.platform hpl
  cases hnm.symm.trans hfc0
  obtain ⟨hg₁, hwarm₁, hready₁⟩ := State.classEntry (e := e) X.warmed hcl
  generalize T.vm.noted m.cls index (.cls ca) = vm₁ at hg₁ hwarm₁ hready₁
  have X₁ := X.noted hwarm₁
  obtain ⟨U2, k1, k2, k3, k4, k5, k6⟩ := hM vm₁ hwarm₁.alike { F0 m pc ls (.int x2 :: .int x1 :: rest) with stack := rest } (T.setVm vm₁) cells slots X₁ rfl hcells hslots
  obtain ⟨t, a1, b1⟩ := kk U2.heap k3 k4 k5 U2 rfl k1
  refine ⟨t, ?_, b1⟩
  jvm_step X.here [hx, hdg]
  simp only [multianewarray.sem, wp_bind', W.resolveClassAt_links (State.method?_setTop (F0 m pc ls (.int x2 :: .int x1 :: rest)) X.here.top) hg₁]
  rw [W.popN, if_neg (by decide)]
  refine ⟨F0 m pc ls (.int x2 :: .int x1 :: rest), State.topJava?_setTop' (s := T.setVm vm₁) (F0 m pc ls (.int x2 :: .int x1 :: rest)) X.here.top, [.int x1, .int x2], rest, rfl, rfl, ?_⟩
  simp only [List.mapM_cons, List.mapM_nil, wp_bind', wp_pure']
  have eS : ((T.setTop (F0 m pc ls (.int x2 :: .int x1 :: rest))).setVm vm₁).setTop { F0 m pc ls (.int x2 :: .int x1 :: rest) with stack := rest } = (T.setVm vm₁).setTop { F0 m pc ls (.int x2 :: .int x1 :: rest) with stack := rest } := by
    show ((T.setVm vm₁).setTop (F0 m pc ls (.int x2 :: .int x1 :: rest))).setTop _ = _
    rw [State.setTop_setTop]
  rw [eS]
  refine k6 _ _ _ _ (fun d' acts' => ?_)
  simp only [wp_bind', W.mark, W.pushRef, State.topJava?_setTop' _ k1.here.top, Option.some.injEq, exists_eq_left', State.setTop_setTop, State.heap_setTop]
  intro acts
  simp [jvm, k1.here.top]
  exact a1
theorem x_mmW3 (hx : p.tables.exec = Jvm.exec) (hb : c.code = cc) {own nm : String} {index : Nat} {ca : ClassId} (hown : s.vm.findClass own = some m.cls) (hclink : (Cond.classLink own index nm).before args s = true) (hnm : s.vm.findClass nm = some ca) {x1 x2 x3 : Int32} {A B : Nat} {Z : Nat → Heap → Prop}
    (hM : ∀ vm, s.vm.Alike vm → ∀ f, mmP p l e R s m args below meth c f locs vm ca [x1, x2, x3] A B Z) (hcells : cells + A ≤ R.cells) (hslots : slots + B ≤ R.slots) (hdg : decode cc pc = .ok (.multianewarray index 3, 4))
    (kk : ∀ H1 : Heap, H1.size = H.size + A → (∀ q, q < H.size → H1[q]? = H[q]?) → Z H.size H1 → W p l e R s m args below meth c H1 locs (cells + A) (slots + B) Q (F0 m (pc + 4) ls (.ref H.size :: rest))) : W p l e R s m args below meth c H locs cells slots Q (F0 m pc ls (.int x3 :: .int x2 :: .int x1 :: rest)) := by
  intro T hT X
  subst hT; subst hb
  have hpl : e.platform.magicAccessors = ({} : Platform).magicAccessors := by rw [X.admits.platform]
  obtain ⟨c0, hfc0, hcl⟩ := Cond.classLink_spec hown hclink e.platform hpl
  cases hnm.symm.trans hfc0
  obtain ⟨hg₁, hwarm₁, hready₁⟩ := State.classEntry (e := e) X.warmed hcl
  generalize T.vm.noted m.cls index (.cls ca) = vm₁ at hg₁ hwarm₁ hready₁
  have X₁ := X.noted hwarm₁
  obtain ⟨U2, k1, k2, k3, k4, k5, k6⟩ := hM vm₁ hwarm₁.alike { F0 m pc ls (.int x3 :: .int x2 :: .int x1 :: rest) with stack := rest } (T.setVm vm₁) cells slots X₁ rfl hcells hslots
  obtain ⟨t, a1, b1⟩ := kk U2.heap k3 k4 k5 U2 rfl k1
  refine ⟨t, ?_, b1⟩
  jvm_step X.here [hx, hdg]
  simp only [multianewarray.sem, wp_bind', W.resolveClassAt_links (State.method?_setTop (F0 m pc ls (.int x3 :: .int x2 :: .int x1 :: rest)) X.here.top) hg₁]
  rw [W.popN, if_neg (by decide)]
  refine ⟨F0 m pc ls (.int x3 :: .int x2 :: .int x1 :: rest), State.topJava?_setTop' (s := T.setVm vm₁) (F0 m pc ls (.int x3 :: .int x2 :: .int x1 :: rest)) X.here.top, [.int x1, .int x2, .int x3], rest, rfl, rfl, ?_⟩
  simp only [List.mapM_cons, List.mapM_nil, wp_bind', wp_pure']
  have eS : ((T.setTop (F0 m pc ls (.int x3 :: .int x2 :: .int x1 :: rest))).setVm vm₁).setTop { F0 m pc ls (.int x3 :: .int x2 :: .int x1 :: rest) with stack := rest } = (T.setVm vm₁).setTop { F0 m pc ls (.int x3 :: .int x2 :: .int x1 :: rest) with stack := rest } := by
    show ((T.setVm vm₁).setTop (F0 m pc ls (.int x3 :: .int x2 :: .int x1 :: rest))).setTop _ = _
    rw [State.setTop_setTop]
  rw [eS]
  refine k6 _ _ _ _ (fun d' acts' => ?_)
  simp only [wp_bind', W.mark, W.pushRef, State.topJava?_setTop' _ k1.here.top, Option.some.injEq, exists_eq_left', State.setTop_setTop, State.heap_setTop]
  intro acts
  simp [jvm, k1.here.top]
  exact a1
theorem x_inner {vm : Vm} (hK : va_K (gD g) vwCl (xT g) s) (hvm : s.vm.Alike vm) {t : Nat} (ht : t < 3) {x : Int32} {M : Nat} (hx : ¬ x < 0) (hxM : x.toNatClampNeg = M) (hM8 : M ≤ 8) (f : JFrame) : mmP p l e R s m args below meth c f locs vm (gT g t) [x] 1 M (fun a H => H[a]? = some (arrV (gT g t) M (fun _ => .int 0))) := by
  obtain ⟨-, k, hk, comp, hkind⟩ := (hK.2 t _ (xT_at g (by omega))).1 0 (fun _ => .null)
  obtain ⟨k', hk', he⟩ := hvm.2.2 _ _ hk
  rcases (show t = 0 ∨ t = 1 ∨ t = 2 by omega) with h | h | h <;> subst h <;> exact mm1 hk' (by rw [he]; exact hkind) hx hxM hM8 rfl rfl (Nat.le_of_ble_eq_true rfl)
theorem x_outer {vm : Vm} (hvm : s.vm.Alike vm) {t tc : Nat} (hC : xC g t tc s) (ht : 7 ≤ t ∧ t < 12) {x r0 : Int32} {rs : List Int32} {N A B : Nat} {Z : Nat → Heap → Prop} (hx : ¬ x < 0) (hxN : x.toNatClampNeg = N) (hN8 : N ≤ 8) (hpos : ((r0 :: rs).find? (· < 0)) = none) (hZ : ∀ (a : Nat) (H H' : Heap), Z a H → (∀ q, a ≤ q → q < a + A → H'[q]? = H[q]?) → Z a H') (f : JFrame)
    (hin : mmP p l e R s m args below meth c f locs vm (gT g tc) (r0 :: rs) A B Z) : mmP p l e R s m args below meth c f locs vm (gT g t) (x :: r0 :: rs) (1 + N * A) (N + N * B) (fun a H => H[a]? = some (arrV (gT g t) N (fun j => .ref (a + 1 + j * A))) ∧ ∀ j, j < N → Z (a + 1 + j * A) H) := by
  obtain ⟨k, hk, hkind⟩ := hC
  obtain ⟨k', hk', he⟩ := hvm.2.2 _ _ hk
  rcases (show t = 7 ∨ t = 8 ∨ t = 9 ∨ t = 10 ∨ t = 11 by omega) with h | h | h | h | h <;> subst h <;> exact mmO hk' (by rw [he]; exact hkind) rfl hx hxN hN8 (by decide) hpos hZ hin
theorem x_nm (hK : va_K (gD g) vwCl (xT g) s) {t : Nat} (ht : 7 ≤ t ∧ t < 12) {nm : String} (h : "[" ++ (xty t).toString = nm) : s.vm.findClass nm = some (gT g t) := by
  have q := (hK.2 t _ (xT_at g (by omega))).2
  rw [← h]
  rcases (show t = 7 ∨ t = 8 ∨ t = 9 ∨ t = 10 ∨ t = 11 by omega) with h | h | h | h | h <;> subst h <;> exact q
/-- new t[N][M] -/
theorem x_mul2 (hx : p.tables.exec = Jvm.exec) (hb : c.code = cc) {own nm : String} {index : Nat} (hown : s.vm.findClass own = some m.cls) (hclink : (Cond.classLink own index nm).before args s = true) (hK : va_K (gD g) vwCl (xT g) s) (hH : xR g dm I F n H) (hS : va_S (gA g) H0 H locs) {t tc N M f : Nat} (hC : xC g t tc s) (ht : 7 ≤ t ∧ t < 12) (hnm : "[" ++ (xty t).toString = nm) (htc : tc < 3) (hN8 : N ≤ 8) (hM8 : M ≤ 8) (hk : xk [21, f] = (10 + t, N)) (hk2 : ∀ i, i < N → xk [22, f, i] = (10 + tc, M))
    (ha0 : ga g [21, f] = n) (ha1 : ∀ i, i < N → ga g [22, f, i] = n + 1 + i) (hF : ∀ i, i < N → F [21, f] i = some [22, f, i]) (h0 : ∀ i, i < N → I [22, f, i] = fun _ => 0) {x1 x2 : Int32} (hx1 : x1 = nI N) (hx2 : x2 = nI M) (hcells : cells + (1 + N * 1) ≤ R.cells) (hslots : slots + (N + N * M) ≤ R.slots) (hdg : decode cc pc = .ok (.multianewarray index 2, 4))
    (kk : ∀ H1 : Heap, xR g (fun i => (i = [21, f] ∨ ∃ k, k < N ∧ i = [22, f, k]) ∨ dm i) I F (n + (1 + N * 1)) H1 → va_S (gA g) H0 H1 locs → W p l e R s m args below meth c H1 locs (cells + (1 + N * 1)) (slots + (N + N * M)) Q (F0 m (pc + 4) ls (.ref (ga g [21, f]) :: rest))) : W p l e R s m args below meth c H locs cells slots Q (F0 m pc ls (.int x2 :: .int x1 :: rest)) := by
  have hn : H.size = n := hH.1
  subst hx1; subst hx2
  refine x_mmW2 (Z := fun a H => H[a]? = some (arrV (gT g t) N (fun j => .ref (a + 1 + j * 1))) ∧ ∀ j, j < N → H[a + 1 + j * 1]? = some (arrV (gT g tc) M (fun _ => .int 0))) hx hb hown hclink (x_nm hK ht hnm) (fun vm hvm f => x_outer hvm hC ht (nI_pos (by omega)) (nI_clamp (by omega)) hN8 ?_ ?_ f (x_inner hK hvm htc (nI_pos (by omega)) (nI_clamp (by omega)) hM8 f)) hcells hslots hdg (fun H1 z o hZ => ?_)
  · simp [nI_pos (show M < 2 ^ 31 by omega)]
  · intro a H H' h1 h2
    rw [h2 a (Nat.le_refl _) (by omega)]; exact h1
  · rw [hn, ← ha0]
    obtain ⟨z1, z2⟩ := hZ
    refine kk H1 (hH.pushN (fun i => i = [21, f] ∨ ∃ k, k < N ∧ i = [22, f, k]) ?_ ?_ z o ?_) (x_SpushN hS z o)
    · rintro i (rfl | ⟨k, hkN, rfl⟩)
      · rw [ha0]; omega
      · rw [ha1 k hkN]; omega
    · rintro i j (rfl | ⟨k, hkN, rfl⟩) (rfl | ⟨k2, hkN2, rfl⟩) e
      · rfl
      · rw [ha0, ha1 _ hkN2] at e; omega
      · rw [ha0, ha1 _ hkN] at e; omega
      · rw [ha1 _ hkN, ha1 _ hkN2] at e
        rw [show k = k2 by omega]
    · rintro i (rfl | ⟨k, hkN, rfl⟩)
      · refine (xat_arr hk).mpr ?_
        rw [ha0, ← hn, z1]
        refine congrArg some (arrV_ext fun j hj => ?_)
        unfold xe
        rw [if_neg (by omega), if_pos (by omega), hF j hj]
        show _ = Value.ref (ga g [22, f, j])
        rw [ha1 j hj, hn, Nat.mul_one]
      · refine (xat_arr (hk2 k hkN)).mpr ?_
        rw [ha1 k hkN, ← hn]
        have h := z2 k hkN
        rw [Nat.mul_one] at h
        rw [h]
        refine congrArg some (arrV_ext fun j hj => ?_)
        unfold xe
        rw [if_pos (by omega), h0 k hkN]
/-- new t[N][M][K] -/
theorem x_mul3 (hx : p.tables.exec = Jvm.exec) (hb : c.code = cc) {own nm : String} {index : Nat} (hown : s.vm.findClass own = some m.cls) (hclink : (Cond.classLink own index nm).before args s = true) (hK : va_K (gD g) vwCl (xT g) s) (hH : xR g dm I F n H) (hS : va_S (gA g) H0 H locs) {t tb tc N M K f : Nat} (hC : xC g t tb s) (hCb : xC g tb tc s) (ht : 7 ≤ t ∧ t < 12) (htb : 7 ≤ tb ∧ tb < 12) (hnm : "[" ++ (xty t).toString = nm) (htc : tc < 3) (hN8 : N ≤ 8) (hM8 : M ≤ 8) (hK8 : K ≤ 8) (hk : xk [21, f] = (10 + t, N)) (hk2 : ∀ i, i < N → xk [22, f, i] = (10 + tb, M)) (hk3 : ∀ i j, i < N → j < M → xk [23, f, i, j] = (10 + tc, K))
    (ha0 : ga g [21, f] = n) (ha1 : ∀ i, i < N → ga g [22, f, i] = n + 1 + i * (1 + M * 1)) (ha2 : ∀ i j, i < N → j < M → ga g [23, f, i, j] = n + 1 + i * (1 + M * 1) + 1 + j) (hF : ∀ i, i < N → F [21, f] i = some [22, f, i]) (hF2 : ∀ i j, i < N → j < M → F [22, f, i] j = some [23, f, i, j]) (h0 : ∀ i j, i < N → j < M → I [23, f, i, j] = fun _ => 0) {x1 x2 x3 : Int32} (hx1 : x1 = nI N) (hx2 : x2 = nI M) (hx3 : x3 = nI K) (hcells : cells + (1 + N * (1 + M * 1)) ≤ R.cells) (hslots : slots + (N + N * (M + M * K)) ≤ R.slots) (hdg : decode cc pc = .ok (.multianewarray index 3, 4))
    (kk : ∀ H1 : Heap, xR g (fun i => (i = [21, f] ∨ (∃ k, k < N ∧ i = [22, f, k]) ∨ ∃ k j, k < N ∧ j < M ∧ i = [23, f, k, j]) ∨ dm i) I F (n + (1 + N * (1 + M * 1))) H1 → va_S (gA g) H0 H1 locs → W p l e R s m args below meth c H1 locs (cells + (1 + N * (1 + M * 1))) (slots + (N + N * (M + M * K))) Q (F0 m (pc + 4) ls (.ref (ga g [21, f]) :: rest))) : W p l e R s m args below meth c H locs cells slots Q (F0 m pc ls (.int x3 :: .int x2 :: .int x1 :: rest)) := by
  have hn : H.size = n := hH.1
  subst hx1; subst hx2; subst hx3
  have hp3 : ([nI K] : List Int32).find? (· < 0) = none := by simp [nI_pos (show K < 2 ^ 31 by omega)]
  have hp2 : ([nI M, nI K] : List Int32).find? (· < 0) = none := by simp [nI_pos (show K < 2 ^ 31 by omega), nI_pos (show M < 2 ^ 31 by omega)]
  refine x_mmW3 (Z := fun a H => H[a]? = some (arrV (gT g t) N (fun j => .ref (a + 1 + j * (1 + M * 1)))) ∧ ∀ j, j < N → (fun a H => H[a]? = some (arrV (gT g tb) M (fun j => .ref (a + 1 + j * 1))) ∧ ∀ j, j < M → H[a + 1 + j * 1]? = some (arrV (gT g tc) K (fun _ => .int 0))) (a + 1 + j * (1 + M * 1)) H) hx hb hown hclink (x_nm hK ht hnm)
    (fun vm hvm f => x_outer hvm hC ht (nI_pos (by omega)) (nI_clamp (by omega)) hN8 hp2 ?_ f (x_outer hvm hCb htb (nI_pos (by omega)) (nI_clamp (by omega)) hM8 hp3 ?_ f (x_inner hK hvm htc (nI_pos (by omega)) (nI_clamp (by omega)) hK8 f))) hcells hslots hdg (fun H1 z o hZ => ?_)
  · rintro a H H' ⟨h1, h2⟩ h3
    refine ⟨by rw [h3 a (Nat.le_refl _) (by omega)]; exact h1, fun j hj => ?_⟩
    rw [h3 _ (by omega) (by omega)]; exact h2 j hj
  · intro a H H' h1 h2
    rw [h2 a (Nat.le_refl _) (by omega)]; exact h1
  · rw [hn, ← ha0]
    obtain ⟨z1, z2⟩ := hZ
    have hbd : ∀ k, k < N → (k + 1) * (1 + M * 1) ≤ N * (1 + M * 1) := fun k hk => Nat.mul_le_mul_right _ (by omega)
    have hsc : ∀ k : Nat, (k + 1) * (1 + M * 1) = k * (1 + M * 1) + (1 + M * 1) := fun k => Nat.succ_mul k _
    have hmo : ∀ k k2 : Nat, k < k2 → (k + 1) * (1 + M * 1) ≤ k2 * (1 + M * 1) := fun k k2 h => Nat.mul_le_mul_right _ (by omega)
    refine kk H1 (hH.pushN (fun i => i = [21, f] ∨ (∃ k, k < N ∧ i = [22, f, k]) ∨ ∃ k j, k < N ∧ j < M ∧ i = [23, f, k, j]) ?_ ?_ z o ?_) (x_SpushN hS z o)
    · rintro i (rfl | ⟨k, hkN, rfl⟩ | ⟨k, j, hkN, hjM, rfl⟩)
      · rw [ha0]; omega
      · rw [ha1 k hkN]; have := hbd k hkN; have := hsc k; omega
      · rw [ha2 k j hkN hjM]; have := hbd k hkN; have := hsc k; omega
    · rintro i j (rfl | ⟨k, hkN, rfl⟩ | ⟨k, q, hkN, hqM, rfl⟩) (rfl | ⟨k2, hkN2, rfl⟩ | ⟨k2, q2, hkN2, hqM2, rfl⟩) e
      · rfl
      · rw [ha0, ha1 _ hkN2] at e; omega
      · rw [ha0, ha2 _ _ hkN2 hqM2] at e; omega
      · rw [ha0, ha1 _ hkN] at e; omega
      · rw [ha1 _ hkN, ha1 _ hkN2] at e
        rcases Nat.lt_trichotomy k k2 with h | h | h
        · have := hmo k k2 h; have := hsc k; omega
        · rw [h]
        · have := hmo k2 k h; have := hsc k2; omega
      · rw [ha1 _ hkN, ha2 _ _ hkN2 hqM2] at e
        rcases Nat.lt_trichotomy k k2 with h | h | h
        · have := hmo k k2 h; have := hsc k; omega
        · subst h; omega
        · have := hmo k2 k h; have := hsc k2; omega
      · rw [ha0, ha2 _ _ hkN hqM] at e; omega
      · rw [ha2 _ _ hkN hqM, ha1 _ hkN2] at e
        rcases Nat.lt_trichotomy k k2 with h | h | h
        · have := hmo k k2 h; have := hsc k; omega
        · subst h; omega
        · have := hmo k2 k h; have := hsc k2; omega
      · rw [ha2 _ _ hkN hqM, ha2 _ _ hkN2 hqM2] at e
        rcases Nat.lt_trichotomy k k2 with h | h | h
        · have := hmo k k2 h; have := hsc k; omega
        · subst h; rw [show q = q2 by omega]
        · have := hmo k2 k h; have := hsc k2; omega
    · rintro i (rfl | ⟨k, hkN, rfl⟩ | ⟨k, q, hkN, hqM, rfl⟩)
      · refine (xat_arr hk).mpr ?_
        rw [ha0, ← hn, z1]
        refine congrArg some (arrV_ext fun j hj => ?_)
        unfold xe
        rw [if_neg (by omega), if_pos (by omega), hF j hj]
        show _ = Value.ref (ga g [22, f, j])
        rw [ha1 j hj, hn]
      · refine (xat_arr (hk2 k hkN)).mpr ?_
        rw [ha1 k hkN, ← hn, (z2 k hkN).1]
        refine congrArg some (arrV_ext fun j hj => ?_)
        unfold xe
        rw [if_neg (by omega), if_pos (by omega), hF2 k j hkN hj]
        show _ = Value.ref (ga g [23, f, k, j])
        rw [ha2 k j hkN hj, hn, Nat.mul_one j]
      · refine (xat_arr (hk3 k q hkN hqM)).mpr ?_
        rw [ha2 k q hkN hqM, ← hn]
        have h := (z2 k hkN).2 q hqM
        rw [Nat.mul_one q] at h
        rw [h]
        refine congrArg some (arrV_ext fun j hj => ?_)
        unfold xe
        rw [if_pos (by omega), h0 k q hkN hqM]
end MR
