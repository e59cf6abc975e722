/-! THE LAW: one call of the script -/
section XL
variable {p : Program} {l : Launch} {e : Env} {R : Room} {s : State} {m : MethodId} {args : Array Value} {below : List Frame} {meth : Method} {c : Code} {H : Heap} {locs : List Loc} {cells slots : Nat} {Q : State → Prop}
variable {cc : ByteArray} {pc : Nat} {ls : Array Slot} {rest : List Value} {H0 : Heap} {A : Nat → Prop}
theorem lv_lcmpE (hexec : p.tables.exec = Jvm.exec) (hb : c.code = cc) {x : Int64} (hdg : decode cc pc = .ok (.lcmp, 1))
    (k : W p l e R s m args below meth c H locs cells slots Q (F0 m (pc + 1) ls (.int 0 :: rest))) : W p l e R s m args below meth c H locs cells slots Q (F0 m pc ls (.long x :: .long x :: rest)) := by
  intro T hT X
  obtain ⟨t, a, b⟩ := k T hT X
  refine ⟨t, ?_, b⟩
  have hlt : ¬ x < x := Int64.lt_irrefl
  jvm_step X.here [X.here.top, hexec, hb, hdg, Op.lcmp.sem, hlt]
  exact a
/-- a word of the script -/
theorem t_word {b L i k : Nat} {xs : Nat → Int32} (hx : p.tables.exec = Jvm.exec) (hb : c.code = cc) (hX : va_X b L xs s H0) (hbl : b < H0.size) (hbA : ¬ A b) (hS : va_S A H0 H locs) (h0 : ls[0]? = some (.val (.ref b))) (h5 : ls[5]? = some (.val (.int (nI i)))) (hk : i + k < L) (hL : L ≤ 3072) {n : Int} (hn : Int32.ofInt n = nI k) (d0 : decode cc pc = .ok (.aload_n 0, 1)) (d1 : decode cc (pc + 1) = .ok (.iload 5, 2)) (d3 : decode cc (pc + 3) = .ok (.iconst n, 1)) (d4 : decode cc (pc + 4) = .ok (.iadd, 1)) (d5 : decode cc (pc + 5) = .ok (.iaload, 1))
    (kk : W p l e R s m args below meth c H locs cells slots Q (F0 m (pc + 6) ls (.int (xs (i + k)) :: rest))) : W p l e R s m args below meth c H locs cells slots Q (F0 m pc ls rest) := by
  refine lv_aload_n hx hb d0 rfl h0 ?_
  refine lv_iload hx hb d1 h5 ?_
  refine lv_iconst hx hb d3 hn ?_
  refine lv_iadd hx hb d4 ?_
  obtain ⟨q1, q2⟩ := x_in (i := nI i + nI k) (j := i + k) (L := L) (nI_add _ _) hk (by omega)
  refine va_sld hx hb hX hbl hbA hS q1 d5 ?_
  rw [q2]
  exact kk
def bz (x : Int32) : Int32 := if x = 0 then 0 else 1
theorem bz_bo (x : Int32) : sBo (bz x) := by
  unfold bz
  split
  · exact Or.inl rfl
  · exact Or.inr rfl
/-- .. as a boolean -/
theorem t_bool (hx : p.tables.exec = Jvm.exec) (hb : c.code = cc) {x : Int32} (d0 : decode cc pc = .ok (.ifCond .eq 7, 3)) (d3 : decode cc (pc + 3) = .ok (.iconst 1, 1)) (d4 : decode cc (pc + 4) = .ok (.goto 4, 3)) (d7 : decode cc (pc + 7) = .ok (.iconst 0, 1))
    (kk : W p l e R s m args below meth c H locs cells slots Q (F0 m (pc + 8) ls (.int (bz x) :: rest))) : W p l e R s m args below meth c H locs cells slots Q (F0 m pc ls (.int x :: rest)) := by
  refine lv_if_eq (tgt := pc + 7) hx hb d0 (by omega) (fun q => ?_) (fun q => ?_)
  · refine lv_iconst (v := 0) hx hb d7 (by decide) ?_
    rw [show bz x = 0 from if_pos q] at kk
    exact kk
  · refine lv_iconst (v := 1) hx hb d3 (by decide) ?_
    refine lv_goto (tgt := pc + 8) hx hb d4 (by omega) ?_
    rw [show bz x = 1 from if_neg q] at kk
    exact kk
def chv (x : Int32) : Int32 := (x.toUInt32 % 65536).toInt32
theorem ch_nI (u : UInt32) : u.toInt32 = Int32.ofNat u.toNat := by
  have h : UInt32.ofNat u.toNat = u := by simp
  exact (congrArg UInt32.toInt32 h).symm.trans rfl
theorem chv_ok (x : Int32) : narrow .char (.int (chv x)) = .int (chv x) ∧ fits .char (.int (chv x)) = true := by
  have e : chv x = nI (x.toUInt32 % 65536).toNat := ch_nI _
  rw [e]
  exact pk_charN (by rw [UInt32.toNat_mod]; exact Nat.mod_lt _ (by decide))
abbrev lwB (b : Nat) (a : List Nat → Nat) (i : Nat) : List (Nat × Value) := [(0, .ref b), (1, .ref (a [0])), (2, .ref (a [20])), (3, .ref (a [30])), (4, .ref (a [31])), (5, .int (nI i))]
variable {g0 : xG} {a : List Nat → Nat} {h : xS} {J : xI} {n b i : Nat}
/-- what thrown says is what the law's own method said; then the answers are equal -/
theorem t_tailI (hx : p.tables.exec = Jvm.exec) (hb : c.code = cc) (hml : c.maxLocals = 8) (hown : s.vm.findClass "CasebookStepsLaw" = some m.cls) (hE : ∀ a, xE (setG g0 a) s s.heap) (hR : 61 ≤ R.frames ∧ 5000 ≤ R.locals) (hf : cells ≤ R.cells ∧ slots ≤ R.slots) {k v : Int32} {off : Int}
    (d0 : decode cc pc = .ok (.aload_n 2, 1)) (d1 : decode cc (pc + 1) = .ok (.invokevirtual 141, 3)) (d4 : decode cc (pc + 4) = .ok (.iload 6, 2)) (d6 : decode cc (pc + 6) = .ok (.if_icmp .eq 5, 3)) (d11 : decode cc (pc + 11) = .ok (.iload 6, 2)) (d13 : decode cc (pc + 13) = .ok (.ifCond .ne 15, 3)) (d16 : decode cc (pc + 16) = .ok (.aload_n 3, 1)) (d17 : decode cc (pc + 17) = .ok (.iconst 0, 1)) (d18 : decode cc (pc + 18) = .ok (.laload, 1)) (d19 : decode cc (pc + 19) = .ok (.iload 7, 2)) (d21 : decode cc (pc + 21) = .ok (.i2l, 1)) (d22 : decode cc (pc + 22) = .ok (.lcmp, 1)) (d23 : decode cc (pc + 23) = .ok (.ifCond .eq 5, 3)) (d28 : decode cc (pc + 28) = .ok (.goto off, 3)) (ho : (pc : Int) + 28 + off = 2595)
    (hH : xR (setG g0 a) (xD h) J (xFh h) n H) (hS : va_S (gA g0) s.heap H locs) (hl : lv_has ls 8 ((7, .int v) :: (6, .int k) :: lwB b a i)) (hJ : J [20] 23 = k) (hv : k = 0 → J [30] 0 = v)
    (kk : ∀ (H : Heap) (locs : List Loc), xR (setG g0 a) (xD h) J (xFh h) n H → va_S (gA g0) s.heap H locs → W p l e R s m args below meth c H locs cells slots Q (F0 m 2595 ls [])) : W p l e R s m args below meth c H locs cells slots Q (F0 m pc ls []) := by
  have hK := (hE a).1
  refine lv_aload_n hx hb d0 rfl (lv_at hl 4 rfl) ?_
  refine x_V1 (own := "CasebookStepsLaw") hx hb hml hown (hE a) hS hl.1 cyX7_thrown tw913 (c_X7_thrown l (setG g0 a) h J n) ⟨by omega, by omega⟩ ⟨by omega, by omega⟩ (x_recv hK hH (id := [20]) trivial (ci := 7) rfl (by decide) rfl) hH rfl rfl (Nat.le_of_ble_eq_true rfl) d1 (fun H locs hH hS => ?_)
  refine lv_iload hx hb d4 (lv_at hl 1 rfl) ?_
  refine lv_icmp_eq (tgt := pc + 11) hx hb d6 (by omega) (fun _ => ?_) (fun q => absurd hJ q)
  refine lv_iload hx hb d11 (lv_at hl 1 rfl) ?_
  refine lv_if_ne (tgt := pc + 28) hx hb d13 (by omega) (fun _ => ?_) (fun q => ?_)
  · exact lv_goto (tgt := 2595) hx hb d28 (by omega) (kk H locs hH hS)
  · refine lv_aload_n hx hb d16 rfl (lv_at hl 5 rfl) ?_
    refine lv_iconst (v := 0) hx hb d17 (by decide) ?_
    refine x_lald hx hb hK hH trivial d18 ?_
    refine lv_iload hx hb d19 (lv_at hl 0 rfl) ?_
    refine lv_i2l hx hb d21 rfl ?_
    rw [hv q]
    refine lv_lcmpE hx hb d22 ?_
    refine lv_if_eq (tgt := pc + 28) hx hb d23 (by omega) (fun _ => ?_) (fun z => absurd rfl z)
    exact lv_goto (tgt := 2595) hx hb d28 (by omega) (kk H locs hH hS)
theorem t_tailB (hx : p.tables.exec = Jvm.exec) (hb : c.code = cc) (hml : c.maxLocals = 8) (hown : s.vm.findClass "CasebookStepsLaw" = some m.cls) (hE : ∀ a, xE (setG g0 a) s s.heap) (hR : 61 ≤ R.frames ∧ 5000 ≤ R.locals) (hf : cells ≤ R.cells ∧ slots ≤ R.slots) {k v : Int32} {off : Int}
    (d0 : decode cc pc = .ok (.aload_n 2, 1)) (d1 : decode cc (pc + 1) = .ok (.invokevirtual 141, 3)) (d4 : decode cc (pc + 4) = .ok (.iload 6, 2)) (d6 : decode cc (pc + 6) = .ok (.if_icmp .eq 5, 3)) (d11 : decode cc (pc + 11) = .ok (.iload 6, 2)) (d13 : decode cc (pc + 13) = .ok (.ifCond .ne 22, 3)) (d16 : decode cc (pc + 16) = .ok (.aload_n 3, 1)) (d17 : decode cc (pc + 17) = .ok (.iconst 0, 1)) (d18 : decode cc (pc + 18) = .ok (.laload, 1)) (d19 : decode cc (pc + 19) = .ok (.iload 7, 2)) (d21 : decode cc (pc + 21) = .ok (.ifCond .eq 7, 3)) (d24 : decode cc (pc + 24) = .ok (.lconst 1, 1)) (d25 : decode cc (pc + 25) = .ok (.goto 4, 3)) (d28 : decode cc (pc + 28) = .ok (.lconst 0, 1)) (d29 : decode cc (pc + 29) = .ok (.lcmp, 1)) (d30 : decode cc (pc + 30) = .ok (.ifCond .eq 5, 3)) (d35 : decode cc (pc + 35) = .ok (.goto off, 3)) (ho : (pc : Int) + 35 + off = 2595)
    (hH : xR (setG g0 a) (xD h) J (xFh h) n H) (hS : va_S (gA g0) s.heap H locs) (hl : lv_has ls 8 ((7, .int v) :: (6, .int k) :: lwB b a i)) (hJ : J [20] 23 = k) (hv : k = 0 → J [30] 0 = v) (hbo : k = 0 → sBo v)
    (kk : ∀ (H : Heap) (locs : List Loc), xR (setG g0 a) (xD h) J (xFh h) n H → va_S (gA g0) s.heap H locs → W p l e R s m args below meth c H locs cells slots Q (F0 m 2595 ls [])) : W p l e R s m args below meth c H locs cells slots Q (F0 m pc ls []) := by
  have hK := (hE a).1
  refine lv_aload_n hx hb d0 rfl (lv_at hl 4 rfl) ?_
  refine x_V1 (own := "CasebookStepsLaw") hx hb hml hown (hE a) hS hl.1 cyX7_thrown tw913 (c_X7_thrown l (setG g0 a) h J n) ⟨by omega, by omega⟩ ⟨by omega, by omega⟩ (x_recv hK hH (id := [20]) trivial (ci := 7) rfl (by decide) rfl) hH rfl rfl (Nat.le_of_ble_eq_true rfl) d1 (fun H locs hH hS => ?_)
  refine lv_iload hx hb d4 (lv_at hl 1 rfl) ?_
  refine lv_icmp_eq (tgt := pc + 11) hx hb d6 (by omega) (fun _ => ?_) (fun q => absurd hJ q)
  refine lv_iload hx hb d11 (lv_at hl 1 rfl) ?_
  refine lv_if_ne (tgt := pc + 35) hx hb d13 (by omega) (fun _ => ?_) (fun q => ?_)
  · exact lv_goto (tgt := 2595) hx hb d35 (by omega) (kk H locs hH hS)
  · refine lv_aload_n hx hb d16 rfl (lv_at hl 5 rfl) ?_
    refine lv_iconst (v := 0) hx hb d17 (by decide) ?_
    refine x_lald hx hb hK hH trivial d18 ?_
    refine lv_iload hx hb d19 (lv_at hl 0 rfl) ?_
    rw [hv q]
    refine lv_if_eq (tgt := pc + 28) hx hb d21 (by omega) (fun z => ?_) (fun z => ?_)
    · refine lv_lconst (v := 0) hx hb d28 (by decide) ?_
      rw [z]
      refine lv_lcmpE (x := 0) hx hb d29 ?_
      refine lv_if_eq (tgt := pc + 35) hx hb d30 (by omega) (fun _ => ?_) (fun z => absurd rfl z)
      exact lv_goto (tgt := 2595) hx hb d35 (by omega) (kk H locs hH hS)
    · refine lv_lconst (v := 1) hx hb d24 (by decide) ?_
      refine lv_goto (tgt := pc + 29) hx hb d25 (by omega) ?_
      rw [show v = 1 from (hbo q).resolve_left z]
      refine lv_lcmpE (x := 1) hx hb d29 ?_
      refine lv_if_eq (tgt := pc + 35) hx hb d30 (by omega) (fun _ => ?_) (fun z => absurd rfl z)
      exact lv_goto (tgt := 2595) hx hb d35 (by omega) (kk H locs hH hS)
theorem t_two {I : xI} {jn : Nat} (hx : p.tables.exec = Jvm.exec) (hb : c.code = cc) (hml : c.maxLocals = 8) (hown : s.vm.findClass "CasebookStepsLaw" = some m.cls) (hE : ∀ a, xE (setG g0 a) s s.heap) (hLs : xLs s) (hR : 61 ≤ R.frames ∧ 5000 ≤ R.locals) (hf : cells + 6 ≤ R.cells ∧ slots + 47 ≤ R.slots) (hS : va_S (gA g0) s.heap H locs) (hH : xR (setG g0 a) (xD h) I (xFh h) n H) (hl : lv_has ls 8 (lwB b a i)) (hL : LW h I jn)
    {yL : MethodName} {cL : ByteArray} {mL : Nat} {hh : List (Nat × Nat × Nat × Nat)} {yM : MethodName} {cM : ByteArray} {mM : Nat} {rM : FieldType} {av : List Value} (hO : lwO l g0 a h I n jn yL cL mL hh yM cM mM rM av) {nL nM : Nat} (cyL : xCalW yL cL mL (some .int) hh nL) (cyM : xCalV yM cM mM (some rM) nM) (hnL : av.length + 2 = nL) (hnM : av.length = nM) (hmL : mL ≤ 9) (hmM : mM ≤ 9) (hcls : yM.cls = "CasebookStepsModel") {P Pm ix iy : Nat} (lkL : Cond.methodLink "CasebookStepsLaw" ix yL ∈ gl) (lkM : Cond.methodLink "CasebookStepsLaw" iy yM ∈ gl)
    (dP : decode cc P = .ok (.invokestatic ix, 3)) (dP3 : decode cc (P + 3) = .ok (.istore 6, 2)) (dM : decode cc Pm = .ok (.invokevirtual iy, 3)) (dM3 : decode cc (Pm + 3) = .ok (.istore 7, 2))
    (mid : ∀ (a' : List Nat → Nat) (k : Int32) (H : Heap) (locs : List Loc) (ls : Array Slot) (cells slots : Nat), va_S (gA g0) s.heap H locs → lv_has ls 8 ((6, .int k) :: lwB b a' i) → W p l e R s m args below meth c H locs cells slots Q (F0 m Pm ls (av.reverse ++ [.ref (a' [20])])) → W p l e R s m args below meth c H locs cells slots Q (F0 m (P + 5) ls []))
    (tail : ∀ (a' : List Nat → Nat) (h' : xS) (J : xI) (n' : Nat) (k v : Int32) (H : Heap) (locs : List Loc) (ls : Array Slot) (cells slots : Nat), cells ≤ R.cells ∧ slots ≤ R.slots → xR (setG g0 a') (xD h') J (xFh h') n' H → va_S (gA g0) s.heap H locs → lv_has ls 8 ((7, .int v) :: (6, .int k) :: lwB b a' i) → J [20] 23 = k → (k = 0 → J [30] 0 = v) → (k = 0 → rM = FieldType.boolean → sBo v) →
      (∀ (H : Heap) (locs : List Loc), xR (setG g0 a') (xD h') J (xFh h') n' H → va_S (gA g0) s.heap H locs → W p l e R s m args below meth c H locs cells slots Q (F0 m 2595 ls [])) → W p l e R s m args below meth c H locs cells slots Q (F0 m (Pm + 5) ls []))
    (kk : ∀ (a' : List Nat → Nat) (h' : xS) (J : xI) (n' jn' : Nat) (H : Heap) (locs : List Loc) (ls : Array Slot) (mc ms : Nat), (∀ id, xD h id → a' id = a id) → mc ≤ 6 → ms ≤ 47 → jn' ≤ jn + 1 → LW h' J jn' → xR (setG g0 a') (xD h') J (xFh h') n' H → va_S (gA g0) s.heap H locs → lv_has ls 8 (lwB b a' i) → W p l e R s m args below meth c H locs (cells + mc) (slots + ms) Q (F0 m 2595 ls [])) :
    W p l e R s m args below meth c H locs cells slots Q (F0 m P ls (.ref (a [30]) :: (av.reverse ++ [.ref (a [0])]))) := by
  rcases hO with ⟨k, b2, fr, lo, fr', lo', hk, hbd, hw, hm⟩ | ⟨a', h1, Iz, J0, J, n1, jn', v, fr, lo, fr', lo', mc, ms, ha, hbd, hsub, hw, hm, e23, e30, hbo, hL'⟩
  · refine x_SW (own := "CasebookStepsLaw") hx hb hml hown (hE a) hLs hS hl.1 cyL lkL hw ⟨by omega, by omega⟩ ⟨by omega, by omega⟩ hH (by simp; omega) (rest := []) (by simp) (Nat.zero_le _) dP (fun H1 locs1 hQ hS1 => ?_)
    obtain ⟨n', -, hH1⟩ := hQ
    refine lv_istore (lv' := (6, .int k) :: lwB b a i) hx hb dP3 hl (by decide) rfl (fun ls1 hl1 => ?_)
    refine mid a k H1 locs1 ls1 _ _ hS1 hl1 ?_
    refine x_V1 (own := "CasebookStepsLaw") hx hb hml hown (hE a) hS1 hl1.1 cyM lkM (hm n') ⟨by omega, by omega⟩ ⟨by omega, by omega⟩ (by rw [hcls]; exact x_recv (hE a).1 hH1 (id := [20]) trivial (ci := 7) rfl (by decide) rfl) hH1 hnM (rest := []) (by simp) (Nat.zero_le _) dM (fun H2 locs2 hH2 hS2 => ?_)
    refine lv_istore (lv' := (7, .int b2) :: (6, .int k) :: lwB b a i) hx hb dM3 hl1 (by decide) rfl (fun ls2 hl2 => ?_)
    refine tail a h (up I [20] 23 k) n' k b2 H2 locs2 ls2 _ _ ⟨by omega, by omega⟩ hH2 hS2 hl2 up_at (fun z => absurd z hk) (fun z => absurd z hk) (fun H3 locs3 hH3 hS3 => ?_)
    exact kk a h (up I [20] 23 k) n' jn H3 locs3 ls2 1 6 (fun _ _ => rfl) (by omega) (by omega) (by omega) (hL.thr k) hH3 hS3 (lv_sub hl2 [2, 3, 4, 5, 6, 7] rfl)
  · have e0 : a' [0] = a [0] := ha _ trivial
    have e20 : a' [20] = a [20] := ha _ trivial
    have e3 : a' [30] = a [30] := ha _ trivial
    have e31 : a' [31] = a [31] := ha _ trivial
    have eB : lwB b a i = lwB b a' i := by unfold lwB; rw [e0, e20, e3, e31]
    rw [← e0, ← e3]
    rw [eB] at hl
    refine x_SW (own := "CasebookStepsLaw") hx hb hml hown (hE a') hLs hS hl.1 cyL lkL hw ⟨by omega, by omega⟩ ⟨by omega, by omega⟩ (hsub H hH) (by simp; omega) (rest := []) (by simp) (Nat.zero_le _) dP (fun H1 locs1 hH1 hS1 => ?_)
    refine lv_istore (lv' := (6, .int 0) :: lwB b a' i) hx hb dP3 hl (by decide) rfl (fun ls1 hl1 => ?_)
    refine mid a' 0 H1 locs1 ls1 _ _ hS1 hl1 ?_
    refine x_V1 (own := "CasebookStepsLaw") hx hb hml hown (hE a') hS1 hl1.1 cyM lkM hm ⟨by omega, by omega⟩ ⟨by omega, by omega⟩ (by rw [hcls]; exact x_recv (hE a').1 hH1 (id := [20]) trivial (ci := 7) rfl (by decide) rfl) hH1 hnM (rest := []) (by simp) (Nat.zero_le _) dM (fun H2 locs2 hH2 hS2 => ?_)
    refine lv_istore (lv' := (7, .int v) :: (6, .int 0) :: lwB b a' i) hx hb dM3 hl1 (by decide) rfl (fun ls2 hl2 => ?_)
    refine tail a' h1 J n1 0 v H2 locs2 ls2 _ _ ⟨by omega, by omega⟩ hH2 hS2 hl2 e23 (fun _ => e30) (fun _ => hbo) (fun H3 locs3 hH3 hS3 => ?_)
    exact kk a' h1 J n1 jn' H3 locs3 ls2 mc ms ha hbd.2.2.2.2.1 hbd.2.2.2.2.2.1 hbd.2.2.2.2.2.2 hL' hH3 hS3 (lv_sub hl2 [2, 3, 4, 5, 6, 7] rfl)
end XL
