/-! LOOPS OF READS: plans, sum -/
section XS
variable {p : Program} {l : Launch} {e : Env} {R : Room} {s : State} {m : MethodId} {args : Array Value} {below : List Frame} {meth : Method} {c : Code} {H : Heap} {locs : List Loc} {cells slots : Nat} {Q : State → Prop}
variable {cc : ByteArray} {pc : Nat} {ls : Array Slot} {rest st0 : List Value} {g : xG} {h : xS} {I : xI} {n jn : Nat}
/-- a read by the law's own method -/
theorem x_rd {nL maxL k index : Nat} {ret : Option FieldType} {hh : List (Nat × Nat × Nat × Nat)} {y : MethodName} {bytes : ByteArray} {As : List Value} {w : Value} (hx : p.tables.exec = Jvm.exec) (hb : c.code = cc) (hml : c.maxLocals = nL) (hown : s.vm.findClass "CasebookStepsLaw" = some m.cls) (hE : xE g s s.heap) (hS : va_S (gA g) s.heap H locs) (hsize : ls.size = nL) (hy : xCalW y bytes maxL ret hh k) (hl : Cond.methodLink "CasebookStepsLaw" index y ∈ gl)
    (hM : ∀ n1, ∃ fr lo, (fr ≤ 9 ∧ lo ≤ 180) ∧ xMl l y bytes maxL ret hh fr lo g As (xR g (xD h) I (xFh h) n1) (some w) (xG_ g (xD h) I (xFh h) n1) 1 6) (hmx : maxL ≤ 10) (hR : 10 ≤ R.frames ∧ 220 ≤ R.locals) (hf : cells + 1 ≤ R.cells ∧ slots + 6 ≤ R.slots) (hG : xG_ g (xD h) I (xFh h) n H) (hn : As.length = k) (hst : st0 = As.reverse ++ rest) (hW : (rest.map fun v => v.category).sum ≤ 8) (hdg : decode cc pc = .ok (.invokestatic index, 3))
    (kk : ∀ (H1 : Heap) (locs1 : List Loc), xG_ g (xD h) I (xFh h) n H1 → va_S (gA g) s.heap H1 locs1 → W p l e R s m args below meth c H1 locs1 (cells + 1) (slots + 6) Q (F0 m (pc + 3) ls (w :: rest))) : W p l e R s m args below meth c H locs cells slots Q (F0 m pc ls st0) := by
  obtain ⟨n1, h1, hH⟩ := hG
  obtain ⟨fr, lo, hb2, hM⟩ := hM n1
  exact x_SW (own := "CasebookStepsLaw") hx hb hml hown hE hS hsize hy hl hM ⟨by omega, by omega⟩ hf hH hn hst hW hdg (fun H1 locs1 hQ hS1 => by
    obtain ⟨n2, h2, hH2⟩ := hQ
    exact kk H1 locs1 ⟨n2, by omega, hH2⟩ hS1)
theorem r_ck {l : Launch} (hst : l.stackTraces = false) (g : xG) {h : xS} {I : xI} (n : Nat) {jn : Nat} (hL : LW h I jn) (c : Nat) (hc : c < 2 ^ 31) (k : Nat) (hk : k < 7) : ∃ fr lo, (fr ≤ 9 ∧ lo ≤ 180) ∧ xMl l yL_case0 cL_case0 4 (some FieldType.int) [(0, 49, 108, 19), (50, 63, 108, 19), (64, 69, 108, 19), (70, 75, 108, 19), (76, 81, 108, 19), (82, 95, 108, 19), (96, 101, 108, 19), (102, 107, 108, 19), (0, 49, 113, 98), (50, 63, 113, 98), (64, 69, 113, 98), (70, 75, 113, 98), (76, 81, 113, 98), (82, 95, 113, 98), (96, 101, 113, 98), (102, 107, 113, 98)] fr lo g [.ref (ga g [0]), .int (nI c), .int (nI k)] (xR g (xD h) I (xFh h) n) (some (.int (vC0 h I c k))) (xG_ g (xD h) I (xFh h) n) 1 6 := by
  rcases (show k = 0 ∨ k = 1 ∨ k = 2 ∨ k = 3 ∨ k = 4 ∨ k = 5 ∨ k = 6 by omega) with rfl | rfl | rfl | rfl | rfl | rfl | rfl
  · exact r_c0 hst g n hL c hc
  · exact r_c1 hst g n hL c hc
  · exact r_c2 hst g n hL c hc
  · exact r_c3 hst g n hL c hc
  · exact r_c4 hst g n hL c hc
  · exact r_c5 hst g n hL c hc
  · exact r_c6 hst g n hL c hc
def sumP (h : xS) (I : xI) : Nat → Int64
  | 0 => (nI (sNc h)).toInt64 + 31 * sSas h I (sNc h)
  | p + 1 => 31 * sumP h I p + (vOf h I p 0).toInt64 + 3 * (vOf h I p 1).toInt64
def sumC (h : xS) (I : xI) (c : Nat) (x : Int64) : Nat → Int64
  | 0 => x
  | k + 1 => 31 * sumC h I c x k + (vC0 h I c k).toInt64
def sumD (I : xI) (c : Nat) (x : Int64) : Nat → Int64
  | 0 => x
  | k + 1 => 31 * sumD I c x k + (I [11, c, 1] k).toInt64
def sumA (h : xS) (I : xI) (c : Nat) (x : Int64) : Nat → Int64
  | 0 => x
  | k + 1 => 31 * sumA h I c x k + (vAt h I c k 0).toInt64 + 3 * (vAt h I c k 2).toInt64 + 5 * (vAt h I c k 4).toInt64
def sumN (h : xS) (I : xI) : Nat → Int64
  | 0 => sumP h I 3
  | c + 1 => sumA h I c (sumD I c (sumC h I c (sumN h I c) 7) 4) 8
def fSum (h : xS) (I : xI) : Int64 := sumN h I (sNc h)
theorem vOf_neg {h : xS} {I : xI} {p : Nat} (hp : ¬ p < sNp h) : vOf h I p 0 < 0 := by
  rw [show vOf h I p 0 = -1001 from if_neg hp]; decide
theorem vOf_pos {h : xS} {I : xI} {jn p : Nat} (hL : LW h I jn) (hp : p < sNp h) : ¬ vOf h I p 0 < 0 := by
  rw [show vOf h I p 0 = nI (sSz h p) from (if_pos hp).trans (if_pos rfl)]
  exact nI_pos (by have := hL.n.2.2.1 p hp; omega)
set_option maxRecDepth 100000 in
theorem p_loop (hst : l.stackTraces = false) (hx : p.tables.exec = Jvm.exec) (hb : c.code = cL_plans) (hml : c.maxLocals = 2) (hown : s.vm.findClass "CasebookStepsLaw" = some m.cls) (hE : xE g s s.heap) (hL : LW h I jn) (hR : 10 ≤ R.frames ∧ 220 ≤ R.locals) (c0 s0 : Nat) (hRc : c0 + 3 ≤ R.cells ∧ s0 + 18 ≤ R.slots)
    (fin : ∀ (H : Heap) (locs : List Loc) (ls : Array Slot) (cells slots : Nat), cells ≤ c0 + 3 → slots ≤ s0 + 18 → xG_ g (xD h) I (xFh h) n H → va_S (gA g) s.heap H locs → lv_has ls 2 [(1, .int (nI (sNp h)))] → W p l e R s m args below meth c H locs cells slots Q (F0 m 22 ls [])) :
    ∀ (f p0 : Nat) (H : Heap) (locs : List Loc) (ls : Array Slot) (cells slots : Nat), 3 - p0 < f → p0 ≤ sNp h → cells ≤ c0 + p0 → slots ≤ s0 + 6 * p0 → xG_ g (xD h) I (xFh h) n H → va_S (gA g) s.heap H locs → lv_has ls 2 [(1, .int (nI p0)), (0, .ref (ga g [0]))] → W p l e R s m args below meth c H locs cells slots Q (F0 m 2 ls []) := by
  have hts := hE.ts args
  have hn4 := hL.n
  intro f
  induction f with
  | zero => intro p0 H locs ls cells slots hf; omega
  | succ f ih =>
    intro p0 H locs ls cells slots hf hv hc hs hG hS hl
    refine lv_iload_n hx hb dL_plans_2 rfl (lv_at hl 0 rfl) ?_
    refine lv_iconst (v := 3) hx hb dL_plans_3 (by decide) ?_
    refine lv_icmp_ge (tgt := 22) hx hb dL_plans_4 (by decide) (fun q => ?_) (fun q => ?_)
    · have e : p0 = sNp h := by have := (nI_leI (a := 3) (b := p0) (by omega) (by omega)).mp q; omega
      subst e
      exact fin H locs ls cells slots (by omega) (by omega) hG hS (lv_sub hl [0] rfl)
    · have e : p0 < 3 := Decidable.of_not_not (fun z => q ((nI_leI (a := 3) (b := p0) (by omega) (by omega)).mpr (by omega)))
      refine lv_aload_n hx hb dL_plans_7 rfl (lv_at hl 1 rfl) ?_
      refine lv_iload_n hx hb dL_plans_8 rfl (lv_at hl 0 rfl) ?_
      refine lv_iconst (v := 0) hx hb dL_plans_9 (by decide) ?_
      refine x_rd hx hb hml hown hE hS hl.1 cyL_of tw464 (fun n1 => r_of0 hst g n1 hL p0 (by omega)) (by decide) hR ⟨by omega, by omega⟩ hG rfl rfl (Nat.le_of_ble_eq_true rfl) dL_plans_10 (fun H locs hG hS => ?_)
      refine lv_if_lt (tgt := 22) hx hb dL_plans_13 (by decide) (fun q2 => ?_) (fun q2 => ?_)
      · have e2 : p0 = sNp h := by
          by_cases z : p0 < sNp h
          · exact absurd q2 (vOf_pos hL z)
          · omega
        subst e2
        exact fin H locs ls _ _ (by omega) (by omega) hG hS (lv_sub hl [0] rfl)
      · have e2 : p0 < sNp h := Decidable.of_not_not (fun z => q2 (vOf_neg z))
        refine lv_iinc (v := (nI (p0 + 1))) (lv' := [(1, .int (nI (p0 + 1))), (0, .ref (ga g [0]))]) hx hb dL_plans_16 hl (k := 0) rfl (nI_1 _) (by decide) rfl (fun ls hl => ?_)
        refine lv_goto (tgt := 2) hx hb dL_plans_19 (by decide) ?_
        exact ih (p0 + 1) H locs ls _ _ (by omega) (by omega) (by omega) (by omega) hG hS (lv_sub hl [0, 1] rfl)
set_option maxRecDepth 100000 in
theorem s_A (hst : l.stackTraces = false) (hx : p.tables.exec = Jvm.exec) (hb : c.code = cL_sum) (hml : c.maxLocals = 5) (hown : s.vm.findClass "CasebookStepsLaw" = some m.cls) (hE : xE g s s.heap) (hL : LW h I jn) (hR : 10 ≤ R.frames ∧ 220 ≤ R.locals) (b0 : Nat) (hb0 : b0 < sNc h) (x : Int64) (c0 s0 : Nat) (hRc : c0 + 24 ≤ R.cells ∧ s0 + 144 ≤ R.slots)
    (fin : ∀ (H : Heap) (locs : List Loc) (ls : Array Slot) (cells slots : Nat), cells ≤ c0 + 24 → slots ≤ s0 + 144 → xG_ g (xD h) I (xFh h) n H → va_S (gA g) s.heap H locs → lv_has ls 5 [(1, .long (sumA h I b0 x 8)), (3, .int (nI b0)), (0, .ref (ga g [0]))] → W p l e R s m args below meth c H locs cells slots Q (F0 m 185 ls [])) :
    ∀ (f k : Nat) (H : Heap) (locs : List Loc) (ls : Array Slot) (cells slots : Nat), 8 - k < f → k ≤ 8 → cells ≤ c0 + 3 * k → slots ≤ s0 + 18 * k → xG_ g (xD h) I (xFh h) n H → va_S (gA g) s.heap H locs → lv_has ls 5 [(4, .int (nI k)), (1, .long (sumA h I b0 x k)), (3, .int (nI b0)), (0, .ref (ga g [0]))] → W p l e R s m args below meth c H locs cells slots Q (F0 m 128 ls []) := by
  have hts := hE.ts args
  have hn4 := hL.n
  intro f
  induction f with
  | zero => intro k H locs ls cells slots hf; omega
  | succ f ih =>
    intro k H locs ls cells slots hf hv hc hs hG hS hl
    refine lv_iload hx hb dL_sum_128 (lv_at hl 0 rfl) ?_
    refine lv_bipush (v := 8) hx hb dL_sum_130 (by decide) ?_
    refine lv_icmp_ge (tgt := 185) hx hb dL_sum_132 (by decide) (fun q => ?_) (fun q => ?_)
    · have e : k = 8 := by have := (nI_leI (a := 8) (b := k) (by omega) (by omega)).mp q; omega
      subst e
      exact fin H locs ls cells slots (by omega) (by omega) hG hS (lv_sub hl [1, 2, 3] rfl)
    · have e : k < 8 := Decidable.of_not_not (fun z => q ((nI_leI (a := 8) (b := k) (by omega) (by omega)).mpr (by omega)))
      refine lv_ldc2 (v := 31) hx hb hown (hts _ tw781) dL_sum_135 ?_
      refine lv_lload_n hx hb dL_sum_138 rfl (lv_at hl 1 rfl) ?_
      refine lv_lmul hx hb dL_sum_139 ?_
      refine lv_aload_n hx hb dL_sum_140 rfl (lv_at hl 3 rfl) ?_
      refine lv_iload_n hx hb dL_sum_141 rfl (lv_at hl 2 rfl) ?_
      refine lv_iload hx hb dL_sum_142 (lv_at hl 0 rfl) ?_
      refine lv_iconst (v := 0) hx hb dL_sum_144 (by decide) ?_
      refine x_rd hx hb hml hown hE hS hl.1 cyL_at tw644 (fun n1 => r_a0 hst g n1 hL b0 (by omega) k (by omega)) (by decide) hR ⟨by omega, by omega⟩ hG rfl rfl (Nat.le_of_ble_eq_true rfl) dL_sum_145 (fun H locs hG hS => ?_)
      refine lv_i2l hx hb dL_sum_148 rfl ?_
      refine lv_ladd hx hb dL_sum_149 ?_
      refine lv_ldc2 (v := 3) hx hb hown (hts _ tw790) dL_sum_150 ?_
      refine lv_aload_n hx hb dL_sum_153 rfl (lv_at hl 3 rfl) ?_
      refine lv_iload_n hx hb dL_sum_154 rfl (lv_at hl 2 rfl) ?_
      refine lv_iload hx hb dL_sum_155 (lv_at hl 0 rfl) ?_
      refine lv_iconst (v := 2) hx hb dL_sum_157 (by decide) ?_
      refine x_rd hx hb hml hown hE hS hl.1 cyL_at tw644 (fun n1 => r_a2 hst g n1 hL b0 (by omega) k (by omega)) (by decide) hR ⟨by omega, by omega⟩ hG rfl rfl (Nat.le_of_ble_eq_true rfl) dL_sum_158 (fun H locs hG hS => ?_)
      refine lv_i2l hx hb dL_sum_161 rfl ?_
      refine lv_lmul hx hb dL_sum_162 ?_
      refine lv_ladd hx hb dL_sum_163 ?_
      refine lv_ldc2 (v := 5) hx hb hown (hts _ tw791) dL_sum_164 ?_
      refine lv_aload_n hx hb dL_sum_167 rfl (lv_at hl 3 rfl) ?_
      refine lv_iload_n hx hb dL_sum_168 rfl (lv_at hl 2 rfl) ?_
      refine lv_iload hx hb dL_sum_169 (lv_at hl 0 rfl) ?_
      refine lv_iconst (v := 4) hx hb dL_sum_171 (by decide) ?_
      refine x_rd hx hb hml hown hE hS hl.1 cyL_at tw644 (fun n1 => r_a4 hst g n1 hL b0 (by omega) k (by omega)) (by decide) hR ⟨by omega, by omega⟩ hG rfl rfl (Nat.le_of_ble_eq_true rfl) dL_sum_172 (fun H locs hG hS => ?_)
      refine lv_i2l hx hb dL_sum_175 rfl ?_
      refine lv_lmul hx hb dL_sum_176 ?_
      refine lv_ladd hx hb dL_sum_177 ?_
      refine lv_lstore_n (lv' := [(1, .long ((((31 * (sumA h I b0 x k)) + ((vAt h I b0 k 0)).toInt64) + (3 * ((vAt h I b0 k 2)).toInt64)) + (5 * ((vAt h I b0 k 4)).toInt64))), (4, .int (nI k)), (3, .int (nI b0)), (0, .ref (ga g [0]))]) hx hb dL_sum_178 rfl hl (by decide) rfl (fun ls hl => ?_)
      refine lv_iinc (v := (nI (k + 1))) (lv' := [(4, .int (nI (k + 1))), (1, .long ((((31 * (sumA h I b0 x k)) + ((vAt h I b0 k 0)).toInt64) + (3 * ((vAt h I b0 k 2)).toInt64)) + (5 * ((vAt h I b0 k 4)).toInt64))), (3, .int (nI b0)), (0, .ref (ga g [0]))]) hx hb dL_sum_179 hl (k := 1) rfl (nI_1 _) (by decide) rfl (fun ls hl => ?_)
      refine lv_goto (tgt := 128) hx hb dL_sum_182 (by decide) ?_
      exact ih (k + 1) H locs ls _ _ (by omega) (by omega) (by omega) (by omega) hG hS (lv_sub hl [0, 1, 2, 3] rfl)
set_option maxRecDepth 100000 in
theorem s_D (hst : l.stackTraces = false) (hx : p.tables.exec = Jvm.exec) (hb : c.code = cL_sum) (hml : c.maxLocals = 5) (hown : s.vm.findClass "CasebookStepsLaw" = some m.cls) (hE : xE g s s.heap) (hL : LW h I jn) (hR : 10 ≤ R.frames ∧ 220 ≤ R.locals) (b0 : Nat) (hb0 : b0 < sNc h) (x : Int64) (c0 s0 : Nat) (hRc : c0 + 4 ≤ R.cells ∧ s0 + 24 ≤ R.slots)
    (fin : ∀ (H : Heap) (locs : List Loc) (ls : Array Slot) (cells slots : Nat), cells ≤ c0 + 4 → slots ≤ s0 + 24 → xG_ g (xD h) I (xFh h) n H → va_S (gA g) s.heap H locs → lv_has ls 5 [(1, .long (sumD I b0 x 4)), (3, .int (nI b0)), (0, .ref (ga g [0]))] → W p l e R s m args below meth c H locs cells slots Q (F0 m 125 ls [])) :
    ∀ (f k : Nat) (H : Heap) (locs : List Loc) (ls : Array Slot) (cells slots : Nat), 4 - k < f → k ≤ 4 → cells ≤ c0 + 1 * k → slots ≤ s0 + 6 * k → xG_ g (xD h) I (xFh h) n H → va_S (gA g) s.heap H locs → lv_has ls 5 [(4, .int (nI k)), (1, .long (sumD I b0 x k)), (3, .int (nI b0)), (0, .ref (ga g [0]))] → W p l e R s m args below meth c H locs cells slots Q (F0 m 98 ls []) := by
  have hts := hE.ts args
  have hn4 := hL.n
  intro f
  induction f with
  | zero => intro k H locs ls cells slots hf; omega
  | succ f ih =>
    intro k H locs ls cells slots hf hv hc hs hG hS hl
    refine lv_iload hx hb dL_sum_98 (lv_at hl 0 rfl) ?_
    refine lv_iconst (v := 4) hx hb dL_sum_100 (by decide) ?_
    refine lv_icmp_ge (tgt := 125) hx hb dL_sum_101 (by decide) (fun q => ?_) (fun q => ?_)
    · have e : k = 4 := by have := (nI_leI (a := 4) (b := k) (by omega) (by omega)).mp q; omega
      subst e
      exact fin H locs ls cells slots (by omega) (by omega) hG hS (lv_sub hl [1, 2, 3] rfl)
    · have e : k < 4 := Decidable.of_not_not (fun z => q ((nI_leI (a := 4) (b := k) (by omega) (by omega)).mpr (by omega)))
      refine lv_ldc2 (v := 31) hx hb hown (hts _ tw781) dL_sum_104 ?_
      refine lv_lload_n hx hb dL_sum_107 rfl (lv_at hl 1 rfl) ?_
      refine lv_lmul hx hb dL_sum_108 ?_
      refine lv_aload_n hx hb dL_sum_109 rfl (lv_at hl 3 rfl) ?_
      refine lv_iload_n hx hb dL_sum_110 rfl (lv_at hl 2 rfl) ?_
      refine lv_iload hx hb dL_sum_111 (lv_at hl 0 rfl) ?_
      refine x_rd hx hb hml hown hE hS hl.1 cyL_datum tw760 (fun n1 => r_da hst g n1 hL b0 (by omega) k (by omega)) (by decide) hR ⟨by omega, by omega⟩ hG rfl rfl (Nat.le_of_ble_eq_true rfl) dL_sum_113 (fun H locs hG hS => ?_)
      refine lv_i2l hx hb dL_sum_116 rfl ?_
      refine lv_ladd hx hb dL_sum_117 ?_
      refine lv_lstore_n (lv' := [(1, .long ((31 * (sumD I b0 x k)) + ((I [11, b0, 1] k)).toInt64)), (4, .int (nI k)), (3, .int (nI b0)), (0, .ref (ga g [0]))]) hx hb dL_sum_118 rfl hl (by decide) rfl (fun ls hl => ?_)
      refine lv_iinc (v := (nI (k + 1))) (lv' := [(4, .int (nI (k + 1))), (1, .long ((31 * (sumD I b0 x k)) + ((I [11, b0, 1] k)).toInt64)), (3, .int (nI b0)), (0, .ref (ga g [0]))]) hx hb dL_sum_119 hl (k := 1) rfl (nI_1 _) (by decide) rfl (fun ls hl => ?_)
      refine lv_goto (tgt := 98) hx hb dL_sum_122 (by decide) ?_
      exact ih (k + 1) H locs ls _ _ (by omega) (by omega) (by omega) (by omega) hG hS (lv_sub hl [0, 1, 2, 3] rfl)
set_option maxRecDepth 100000 in
theorem s_C (hst : l.stackTraces = false) (hx : p.tables.exec = Jvm.exec) (hb : c.code = cL_sum) (hml : c.maxLocals = 5) (hown : s.vm.findClass "CasebookStepsLaw" = some m.cls) (hE : xE g s s.heap) (hL : LW h I jn) (hR : 10 ≤ R.frames ∧ 220 ≤ R.locals) (b0 : Nat) (hb0 : b0 < sNc h) (x : Int64) (c0 s0 : Nat) (hRc : c0 + 7 ≤ R.cells ∧ s0 + 42 ≤ R.slots)
    (fin : ∀ (H : Heap) (locs : List Loc) (ls : Array Slot) (cells slots : Nat), cells ≤ c0 + 7 → slots ≤ s0 + 42 → xG_ g (xD h) I (xFh h) n H → va_S (gA g) s.heap H locs → lv_has ls 5 [(1, .long (sumC h I b0 x 7)), (3, .int (nI b0)), (0, .ref (ga g [0]))] → W p l e R s m args below meth c H locs cells slots Q (F0 m 95 ls [])) :
    ∀ (f k : Nat) (H : Heap) (locs : List Loc) (ls : Array Slot) (cells slots : Nat), 7 - k < f → k ≤ 7 → cells ≤ c0 + 1 * k → slots ≤ s0 + 6 * k → xG_ g (xD h) I (xFh h) n H → va_S (gA g) s.heap H locs → lv_has ls 5 [(4, .int (nI k)), (1, .long (sumC h I b0 x k)), (3, .int (nI b0)), (0, .ref (ga g [0]))] → W p l e R s m args below meth c H locs cells slots Q (F0 m 67 ls []) := by
  have hts := hE.ts args
  have hn4 := hL.n
  intro f
  induction f with
  | zero => intro k H locs ls cells slots hf; omega
  | succ f ih =>
    intro k H locs ls cells slots hf hv hc hs hG hS hl
    refine lv_iload hx hb dL_sum_67 (lv_at hl 0 rfl) ?_
    refine lv_bipush (v := 7) hx hb dL_sum_69 (by decide) ?_
    refine lv_icmp_ge (tgt := 95) hx hb dL_sum_71 (by decide) (fun q => ?_) (fun q => ?_)
    · have e : k = 7 := by have := (nI_leI (a := 7) (b := k) (by omega) (by omega)).mp q; omega
      subst e
      exact fin H locs ls cells slots (by omega) (by omega) hG hS (lv_sub hl [1, 2, 3] rfl)
    · have e : k < 7 := Decidable.of_not_not (fun z => q ((nI_leI (a := 7) (b := k) (by omega) (by omega)).mpr (by omega)))
      refine lv_ldc2 (v := 31) hx hb hown (hts _ tw781) dL_sum_74 ?_
      refine lv_lload_n hx hb dL_sum_77 rfl (lv_at hl 1 rfl) ?_
      refine lv_lmul hx hb dL_sum_78 ?_
      refine lv_aload_n hx hb dL_sum_79 rfl (lv_at hl 3 rfl) ?_
      refine lv_iload_n hx hb dL_sum_80 rfl (lv_at hl 2 rfl) ?_
      refine lv_iload hx hb dL_sum_81 (lv_at hl 0 rfl) ?_
      refine x_rd hx hb hml hown hE hS hl.1 cyL_case0 tw712 (fun n1 => r_ck hst g n1 hL b0 (by omega) k (by omega)) (by decide) hR ⟨by omega, by omega⟩ hG rfl rfl (Nat.le_of_ble_eq_true rfl) dL_sum_83 (fun H locs hG hS => ?_)
      refine lv_i2l hx hb dL_sum_86 rfl ?_
      refine lv_ladd hx hb dL_sum_87 ?_
      refine lv_lstore_n (lv' := [(1, .long ((31 * (sumC h I b0 x k)) + ((vC0 h I b0 k)).toInt64)), (4, .int (nI k)), (3, .int (nI b0)), (0, .ref (ga g [0]))]) hx hb dL_sum_88 rfl hl (by decide) rfl (fun ls hl => ?_)
      refine lv_iinc (v := (nI (k + 1))) (lv' := [(4, .int (nI (k + 1))), (1, .long ((31 * (sumC h I b0 x k)) + ((vC0 h I b0 k)).toInt64)), (3, .int (nI b0)), (0, .ref (ga g [0]))]) hx hb dL_sum_89 hl (k := 1) rfl (nI_1 _) (by decide) rfl (fun ls hl => ?_)
      refine lv_goto (tgt := 67) hx hb dL_sum_92 (by decide) ?_
      exact ih (k + 1) H locs ls _ _ (by omega) (by omega) (by omega) (by omega) hG hS (lv_sub hl [0, 1, 2, 3] rfl)
set_option maxRecDepth 100000 in
theorem s_P (hst : l.stackTraces = false) (hx : p.tables.exec = Jvm.exec) (hb : c.code = cL_sum) (hml : c.maxLocals = 5) (hown : s.vm.findClass "CasebookStepsLaw" = some m.cls) (hE : xE g s s.heap) (hL : LW h I jn) (hR : 10 ≤ R.frames ∧ 220 ≤ R.locals) (c0 s0 : Nat) (hRc : c0 + 6 ≤ R.cells ∧ s0 + 36 ≤ R.slots)
    (fin : ∀ (H : Heap) (locs : List Loc) (ls : Array Slot) (cells slots : Nat), cells ≤ c0 + 6 → slots ≤ s0 + 36 → xG_ g (xD h) I (xFh h) n H → va_S (gA g) s.heap H locs → lv_has ls 5 [(1, .long (sumP h I 3)), (0, .ref (ga g [0]))] → W p l e R s m args below meth c H locs cells slots Q (F0 m 54 ls [])) :
    ∀ (f k : Nat) (H : Heap) (locs : List Loc) (ls : Array Slot) (cells slots : Nat), 3 - k < f → k ≤ 3 → cells ≤ c0 + 2 * k → slots ≤ s0 + 12 * k → xG_ g (xD h) I (xFh h) n H → va_S (gA g) s.heap H locs → lv_has ls 5 [(3, .int (nI k)), (1, .long (sumP h I k)), (0, .ref (ga g [0]))] → W p l e R s m args below meth c H locs cells slots Q (F0 m 17 ls []) := by
  have hts := hE.ts args
  have hn4 := hL.n
  intro f
  induction f with
  | zero => intro k H locs ls cells slots hf; omega
  | succ f ih =>
    intro k H locs ls cells slots hf hv hc hs hG hS hl
    refine lv_iload_n hx hb dL_sum_17 rfl (lv_at hl 0 rfl) ?_
    refine lv_iconst (v := 3) hx hb dL_sum_18 (by decide) ?_
    refine lv_icmp_ge (tgt := 54) hx hb dL_sum_19 (by decide) (fun q => ?_) (fun q => ?_)
    · have e : k = 3 := by have := (nI_leI (a := 3) (b := k) (by omega) (by omega)).mp q; omega
      subst e
      exact fin H locs ls cells slots (by omega) (by omega) hG hS (lv_sub hl [1, 2] rfl)
    · have e : k < 3 := Decidable.of_not_not (fun z => q ((nI_leI (a := 3) (b := k) (by omega) (by omega)).mpr (by omega)))
      refine lv_ldc2 (v := 31) hx hb hown (hts _ tw781) dL_sum_22 ?_
      refine lv_lload_n hx hb dL_sum_25 rfl (lv_at hl 1 rfl) ?_
      refine lv_lmul hx hb dL_sum_26 ?_
      refine lv_aload_n hx hb dL_sum_27 rfl (lv_at hl 2 rfl) ?_
      refine lv_iload_n hx hb dL_sum_28 rfl (lv_at hl 0 rfl) ?_
      refine lv_iconst (v := 0) hx hb dL_sum_29 (by decide) ?_
      refine x_rd hx hb hml hown hE hS hl.1 cyL_of tw464 (fun n1 => r_of0 hst g n1 hL k (by omega)) (by decide) hR ⟨by omega, by omega⟩ hG rfl rfl (Nat.le_of_ble_eq_true rfl) dL_sum_30 (fun H locs hG hS => ?_)
      refine lv_i2l hx hb dL_sum_33 rfl ?_
      refine lv_ladd hx hb dL_sum_34 ?_
      refine lv_ldc2 (v := 3) hx hb hown (hts _ tw790) dL_sum_35 ?_
      refine lv_aload_n hx hb dL_sum_38 rfl (lv_at hl 2 rfl) ?_
      refine lv_iload_n hx hb dL_sum_39 rfl (lv_at hl 0 rfl) ?_
      refine lv_iconst (v := 1) hx hb dL_sum_40 (by decide) ?_
      refine x_rd hx hb hml hown hE hS hl.1 cyL_of tw464 (fun n1 => r_of1 hst g n1 hL k (by omega)) (by decide) hR ⟨by omega, by omega⟩ hG rfl rfl (Nat.le_of_ble_eq_true rfl) dL_sum_41 (fun H locs hG hS => ?_)
      refine lv_i2l hx hb dL_sum_44 rfl ?_
      refine lv_lmul hx hb dL_sum_45 ?_
      refine lv_ladd hx hb dL_sum_46 ?_
      refine lv_lstore_n (lv' := [(1, .long (((31 * (sumP h I k)) + ((vOf h I k 0)).toInt64) + (3 * ((vOf h I k 1)).toInt64))), (3, .int (nI k)), (0, .ref (ga g [0]))]) hx hb dL_sum_47 rfl hl (by decide) rfl (fun ls hl => ?_)
      refine lv_iinc (v := (nI (k + 1))) (lv' := [(3, .int (nI (k + 1))), (1, .long (((31 * (sumP h I k)) + ((vOf h I k 0)).toInt64) + (3 * ((vOf h I k 1)).toInt64))), (0, .ref (ga g [0]))]) hx hb dL_sum_48 hl (k := 1) rfl (nI_1 _) (by decide) rfl (fun ls hl => ?_)
      refine lv_goto (tgt := 17) hx hb dL_sum_51 (by decide) ?_
      exact ih (k + 1) H locs ls _ _ (by omega) (by omega) (by omega) (by omega) hG hS (lv_sub hl [0, 1, 2] rfl)
set_option maxRecDepth 100000 in
theorem s_N (hst : l.stackTraces = false) (hx : p.tables.exec = Jvm.exec) (hb : c.code = cL_sum) (hml : c.maxLocals = 5) (hown : s.vm.findClass "CasebookStepsLaw" = some m.cls) (hE : xE g s s.heap) (hL : LW h I jn) (hR : 10 ≤ R.frames ∧ 220 ≤ R.locals) (c0 s0 : Nat) (hRc : c0 + 140 ≤ R.cells ∧ s0 + 840 ≤ R.slots)
    (fin : ∀ (H : Heap) (locs : List Loc) (ls : Array Slot) (cells slots : Nat), cells ≤ c0 + 140 → slots ≤ s0 + 840 → xG_ g (xD h) I (xFh h) n H → va_S (gA g) s.heap H locs → lv_has ls 5 [(1, .long (fSum h I))] → W p l e R s m args below meth c H locs cells slots Q (F0 m 191 ls [])) :
    ∀ (f k : Nat) (H : Heap) (locs : List Loc) (ls : Array Slot) (cells slots : Nat), 4 - k < f → k ≤ sNc h → cells ≤ c0 + 35 * k → slots ≤ s0 + 210 * k → xG_ g (xD h) I (xFh h) n H → va_S (gA g) s.heap H locs → lv_has ls 5 [(3, .int (nI k)), (1, .long (sumN h I k)), (0, .ref (ga g [0]))] → W p l e R s m args below meth c H locs cells slots Q (F0 m 56 ls []) := by
  have hts := hE.ts args
  have hn4 := hL.n
  have hW := hL.1.1.1
  have hC := hL.1.2.1.1
  have hK := hE.1
  intro f
  induction f with
  | zero => intro k H locs ls cells slots hf; omega
  | succ f ih =>
    intro k H locs ls cells slots hf hv hc hs hG hS hl
    refine lv_iload_n hx hb dL_sum_56 rfl (lv_at hl 0 rfl) ?_
    refine lv_aload_n hx hb dL_sum_57 rfl (lv_at hl 2 rfl) ?_
    obtain ⟨n1, hn1, hH⟩ := hG
    refine x_V1 (own := "CasebookStepsLaw") hx hb hml hown hE hS hl.1 cyX6_cases tw150 (c_X6_cases l g h I n1 hW hC) ⟨by first | omega | exact Nat.le_of_ble_eq_true rfl, by first | omega | exact Nat.le_of_ble_eq_true rfl⟩ ⟨by first | omega | exact Nat.le_of_ble_eq_true rfl, by first | omega | exact Nat.le_of_ble_eq_true rfl⟩ (x_recv hK hH (id := [0]) trivial (ci := 6) rfl (by decide) rfl) hH rfl rfl (Nat.le_of_ble_eq_true rfl) dL_sum_58 (fun H locs hH hS => ?_)
    have hG : xG_ g (xD h) I (xFh h) n H := ⟨n1, hn1, hH⟩
    refine lv_icmp_ge (tgt := 191) hx hb dL_sum_61 (by decide) (fun q => ?_) (fun q => ?_)
    · have e : k = sNc h := by have := (nI_leI (a := sNc h) (b := k) (by omega) (by omega)).mp q; omega
      subst e
      exact fin H locs ls _ _ (by omega) (by omega) hG hS (lv_sub hl [1] rfl)
    · have e : k < sNc h := Decidable.of_not_not (fun z => q ((nI_leI (a := sNc h) (b := k) (by omega) (by omega)).mpr (by omega)))
      refine lv_iconst (v := 0) hx hb dL_sum_64 (by decide) ?_
      refine lv_istore (lv' := [(4, .int 0), (3, .int (nI k)), (1, .long (sumN h I k)), (0, .ref (ga g [0]))]) hx hb dL_sum_65 hl (by decide) rfl (fun ls hl => ?_)
      refine s_C hst hx hb hml hown hE hL hR k e (sumN h I k) _ _ ⟨by omega, by omega⟩ (fun H locs ls cells slots hc hs hG hS hl => ?_) 9 0 H locs ls _ _ (by omega) (by omega) (Nat.le_refl _) (Nat.le_refl _) hG hS (lv_sub hl [0, 2, 1, 3] rfl)
      refine lv_iconst (v := 0) hx hb dL_sum_95 (by decide) ?_
      refine lv_istore (lv' := [(4, .int 0), (1, .long (sumC h I k (sumN h I k) 7)), (3, .int (nI k)), (0, .ref (ga g [0]))]) hx hb dL_sum_96 hl (by decide) rfl (fun ls hl => ?_)
      refine s_D hst hx hb hml hown hE hL hR k e (sumC h I k (sumN h I k) 7) _ _ ⟨by omega, by omega⟩ (fun H locs ls cells slots hc hs hG hS hl => ?_) 9 0 H locs ls _ _ (by omega) (by omega) (Nat.le_refl _) (Nat.le_refl _) hG hS (lv_sub hl [0, 1, 2, 3] rfl)
      refine lv_iconst (v := 0) hx hb dL_sum_125 (by decide) ?_
      refine lv_istore (lv' := [(4, .int 0), (1, .long (sumD I k (sumC h I k (sumN h I k) 7) 4)), (3, .int (nI k)), (0, .ref (ga g [0]))]) hx hb dL_sum_126 hl (by decide) rfl (fun ls hl => ?_)
      refine s_A hst hx hb hml hown hE hL hR k e (sumD I k (sumC h I k (sumN h I k) 7) 4) _ _ ⟨by omega, by omega⟩ (fun H locs ls cells slots hc hs hG hS hl => ?_) 9 0 H locs ls _ _ (by omega) (by omega) (Nat.le_refl _) (Nat.le_refl _) hG hS (lv_sub hl [0, 1, 2, 3] rfl)
      refine lv_iinc (v := (nI (k + 1))) (lv' := [(3, .int (nI (k + 1))), (1, .long (sumA h I k (sumD I k (sumC h I k (sumN h I k) 7) 4) 8)), (0, .ref (ga g [0]))]) hx hb dL_sum_185 hl (k := 1) rfl (nI_1 _) (by decide) rfl (fun ls hl => ?_)
      refine lv_goto (tgt := 56) hx hb dL_sum_188 (by decide) ?_
      exact ih (k + 1) H locs ls _ _ (by omega) (by omega) (by omega) (by omega) hG hS (lv_sub hl [0, 1, 2] rfl)
end XS
set_option maxRecDepth 100000 in
theorem c_plans {l : Launch} (hst : l.stackTraces = false) (g : xG) {h : xS} {I : xI} (n : Nat) {jn : Nat} (hL : LW h I jn) : xM l yL_plans (xws yL_plans cL_plans 2 (some FieldType.int)) 10 220 g [.ref (ga g [0])] (xR g (xD h) I (xFh h) n) (some (.int (nI (sNp h)))) (xG_ g (xD h) I (xFh h) n) 3 18 := by
  refine xM.of (by decide) (Nat.le_of_ble_eq_true rfl) ?_
  intro P_ e_ s m_ bl_ mt_ cd_ ls hx hb hr hown hlocks hml hnm hE hK hts hH hS hl
  have hl : lv_has ls 2 [(0, .ref (ga g [0]))] := hl
  refine lv_iconst (v := 0) hx hb dL_plans_0 (by decide) ?_
  refine lv_istore_n (lv' := [(1, .int 0), (0, .ref (ga g [0]))]) hx hb dL_plans_1 rfl hl (by decide) rfl (fun ls hl => ?_)
  refine p_loop hst hx hb hml hown hE hL ⟨Nat.le_refl _, Nat.le_refl _⟩ 0 0 ⟨Nat.le_refl _, Nat.le_refl _⟩ (fun H locs ls cells slots hc hs hG hS hl => ?_) 9 0 _ _ ls 0 0 (by omega) (by omega) (by omega) (by omega) ⟨n, Nat.le_refl _, hH⟩ hS (lv_sub hl [0, 1] rfl)
  refine lv_iload_n hx hb dL_plans_22 rfl (lv_at hl 0 rfl) ?_
  refine W.widen (k := 3) (n := 18) (by omega) (by omega) ?_
  exact x_iret hx hb hr hlocks hS dL_plans_23 rfl hG
set_option maxRecDepth 100000 in
theorem c_sum {l : Launch} (hst : l.stackTraces = false) (g : xG) {h : xS} {I : xI} (n : Nat) {jn : Nat} (hL : LW h I jn) : xM l yL_sum (xws yL_sum cL_sum 5 (some FieldType.long)) 10 220 g [.ref (ga g [0])] (xR g (xD h) I (xFh h) n) (some (.long (fSum h I))) (xG_ g (xD h) I (xFh h) n) 146 876 := by
  refine xM.of (by decide) (Nat.le_of_ble_eq_true rfl) ?_
  intro P_ e_ s m_ bl_ mt_ cd_ ls hx hb hr hown hlocks hml hnm hE hK hts hH hS hl
  have hl : lv_has ls 5 [(0, .ref (ga g [0]))] := hl
  have hW := hL.1.1.1
  have hC := hL.1.2.1.1
  have hn4 := hL.n
  have hG : xG_ g (xD h) I (xFh h) n s.heap := ⟨n, Nat.le_refl _, hH⟩
  refine lv_aload_n hx hb dL_sum_0 rfl (lv_at hl 0 rfl) ?_
  obtain ⟨n1, hn1, hH⟩ := hG
  refine x_V1 (own := "CasebookStepsLaw") hx hb hml hown hE hS hl.1 cyX6_cases tw150 (c_X6_cases l g h I n1 hW hC) ⟨by first | omega | exact Nat.le_of_ble_eq_true rfl, by first | omega | exact Nat.le_of_ble_eq_true rfl⟩ ⟨by first | omega | exact Nat.le_of_ble_eq_true rfl, by first | omega | exact Nat.le_of_ble_eq_true rfl⟩ (x_recv hK hH (id := [0]) trivial (ci := 6) rfl (by decide) rfl) hH rfl rfl (Nat.le_of_ble_eq_true rfl) dL_sum_1 (fun H locs hH hS => ?_)
  have hG : xG_ g (xD h) I (xFh h) n H := ⟨n1, hn1, hH⟩
  refine lv_i2l hx hb dL_sum_4 rfl ?_
  refine lv_ldc2 (v := 31) hx hb hown (hts _ tw781) dL_sum_5 ?_
  refine lv_aload_n hx hb dL_sum_8 rfl (lv_at hl 0 rfl) ?_
  obtain ⟨n1, hn1, hH⟩ := hG
  refine x_V1 (own := "CasebookStepsLaw") hx hb hml hown hE hS hl.1 cyX6_daysWorked tw782 (c_X6_daysWorked l g h I n1 hW hC) ⟨by first | omega | exact Nat.le_of_ble_eq_true rfl, by first | omega | exact Nat.le_of_ble_eq_true rfl⟩ ⟨by first | omega | exact Nat.le_of_ble_eq_true rfl, by first | omega | exact Nat.le_of_ble_eq_true rfl⟩ (x_recv hK hH (id := [0]) trivial (ci := 6) rfl (by decide) rfl) hH rfl rfl (Nat.le_of_ble_eq_true rfl) dL_sum_9 (fun H locs hH hS => ?_)
  have hG : xG_ g (xD h) I (xFh h) n H := ⟨n1, hn1, hH⟩
  refine lv_lmul hx hb dL_sum_12 ?_
  refine lv_ladd hx hb dL_sum_13 ?_
  refine lv_lstore_n (lv' := [(1, .long (((nI (sNc h))).toInt64 + (31 * (sSas h I (sNc h))))), (0, .ref (ga g [0]))]) hx hb dL_sum_14 rfl hl (by decide) rfl (fun ls hl => ?_)
  refine lv_iconst (v := 0) hx hb dL_sum_15 (by decide) ?_
  refine lv_istore_n (lv' := [(3, .int 0), (1, .long (((nI (sNc h))).toInt64 + (31 * (sSas h I (sNc h))))), (0, .ref (ga g [0]))]) hx hb dL_sum_16 rfl hl (by decide) rfl (fun ls hl => ?_)
  refine s_P hst hx hb hml hown hE hL ⟨Nat.le_refl _, Nat.le_refl _⟩ 0 0 ⟨Nat.le_of_ble_eq_true rfl, Nat.le_of_ble_eq_true rfl⟩ (fun H locs ls cells slots hc hs hG hS hl => ?_) 9 0 _ _ ls _ _ (by omega) (by omega) (by omega) (by omega) hG hS (lv_sub hl [0, 1, 2] rfl)
  refine lv_iconst (v := 0) hx hb dL_sum_54 (by decide) ?_
  refine lv_istore_n (lv' := [(3, .int 0), (1, .long (sumP h I 3)), (0, .ref (ga g [0]))]) hx hb dL_sum_55 rfl hl (by decide) rfl (fun ls hl => ?_)
  refine s_N hst hx hb hml hown hE hL ⟨Nat.le_refl _, Nat.le_refl _⟩ 6 36 ⟨Nat.le_of_ble_eq_true rfl, Nat.le_of_ble_eq_true rfl⟩ (fun H locs ls cells slots hc hs hG hS hl => ?_) 9 0 _ _ ls _ _ (by omega) (by omega) (by omega) (by omega) hG hS (lv_sub hl [0, 1, 2] rfl)
  refine lv_lload_n hx hb dL_sum_191 rfl (lv_at hl 0 rfl) ?_
  refine W.widen (k := 146) (n := 876) (by omega) (by omega) ?_
  exact x_lret hx hb hr hlocks hS dL_sum_192 rfl hG
