/-! isSound: what is kept and what is replayed, the sums -/
theorem lv_lcmpE {p : Program} {l : Launch} {e : Env} {R : Room} {s : State} {m : MethodId} {args : Array Value} {below : List Frame} {meth : Method} {c : Code} {H : Heap} {locs : List Loc} {cells slots : Nat} {Q : State → Prop} {cc : ByteArray} {pc : Nat} {ls : Array Slot} {rest : List Value} (hexec : p.tables.exec = Jvm.exec) (hb : c.code = cc) {x : Int64} (hdg : decode cc pc = .ok (.lcmp, 1))
    (k : W p l e R s m args below meth c H locs cells slots Q (F0 m (pc + 1) ls (.int 0 :: rest))) : W p l e R s m args below meth c H locs cells slots Q (F0 m pc ls (.long x :: .long x :: rest)) := by
  intro T hT X
  obtain ⟨t, a, b⟩ := k T hT X
  refine ⟨t, ?_, b⟩
  have hlt : ¬ x < x := Int64.lt_irrefl
  jvm_step X.here [X.here.top, hexec, hb, hdg, Op.lcmp.sem, hlt]
  exact a
section XS
variable {p : Program} {l : Launch} {e : Env} {R : Room} {s : State} {m : MethodId} {args : Array Value} {below : List Frame} {meth : Method} {c : Code} {H : Heap} {locs : List Loc} {cells slots : Nat} {Q : State → Prop}
variable {cc : ByteArray} {pc : Nat} {ls : Array Slot} {rest st0 : List Value} {g : xG} {h : xS} {I : xI} {n jn : Nat}
/-- the same but for what is replayed -/
def vSm (h : xS) (I : xI) (h' : xS) (I' : xI) : Prop := sNp h' = sNp h ∧ sNc h' = sNc h ∧ sSz h' = sSz h ∧ sCn h' = sCn h ∧ (∀ c, c < 4 → sPl h' c = sPl h c) ∧ sOw h' = sOw h ∧ ∀ id, lvI id = true → I' id = I id
theorem vSm.rf (h : xS) (I : xI) : vSm h I h I := ⟨rfl, rfl, rfl, rfl, fun _ _ => rfl, rfl, fun _ _ => rfl⟩
theorem vSm.tr {h h1 h2 : xS} {I I1 I2 : xI} (a : vSm h I h1 I1) (b : vSm h1 I1 h2 I2) : vSm h I h2 I2 := by
  obtain ⟨a1, a2, a3, a4, a5, a6, a7⟩ := a
  obtain ⟨b1, b2, b3, b4, b5, b6, b7⟩ := b
  exact ⟨b1.trans a1, b2.trans a2, b3.trans a3, b4.trans a4, fun c hc => (b5 c hc).trans (a5 c hc), b6.trans a6, fun id hi => (b7 id hi).trans (a7 id hi)⟩
theorem vSm.x {h h' : xS} {I I' : xI} (hv : vSm h I h' I') {c : Nat} (hc : c < 4) : gX I' c = gX I c ∧ sPl h' c = sPl h c ∧ sSz h' (sPl h' c) = sSz h (sPl h c) ∧ vP I' (sPl h' c) = vP I (sPl h c) := by
  obtain ⟨a1, a2, a3, a4, a5, a6, a7⟩ := hv
  refine ⟨gX_same a7 (by omega), a5 c hc, by rw [a3, a5 c hc], ?_⟩
  rw [a5 c hc]
  exact funext fun j => a7 _ rfl
theorem q_a0 {l : Launch} (hst : l.stackTraces = false) (g : xG) {h h' : xS} {I I' : xI} (n : Nat) {jn : Nat} (hL : LW h' I' jn) (hv : vSm h I h' I') {c : Nat} (hc : c < sNc h) (k : Nat) (hk : k < sSz h (sPl h c)) : ∃ fr lo, (fr ≤ 9 ∧ lo ≤ 180) ∧ xMl l yL_at cL_at 5 (some FieldType.int) [(0, 83, 84, 19)] fr lo g [.ref (ga g [0]), .int (nI c), .int (nI k), .int 0] (xR g (xD h') I' (xFh h') n) (some (.int (gX I c 2 k))) (xG_ g (xD h') I' (xFh h') n) 1 6 := by
  have hc' : c < sNc h' := by rw [hv.2.1]; exact hc
  have h4 := hL.n.2.1
  obtain ⟨e1, e2, e3, e4⟩ := hv.x (c := c) (by omega)
  have hk' : k < sSz h' (sPl h' c) := by rw [e3]; exact hk
  have r := r_a0 hst g n hL c hc' k (by have := (hL.n.2.2.2 c hc').2.2; omega)
  rw [show vAt h' I' c k 0 = gX I' c 2 k from (if_pos hk').trans (if_pos rfl), e1] at r
  exact r
theorem q_a2 {l : Launch} (hst : l.stackTraces = false) (g : xG) {h h' : xS} {I I' : xI} (n : Nat) {jn : Nat} (hL : LW h' I' jn) (hv : vSm h I h' I') {c : Nat} (hc : c < sNc h) (k : Nat) (hk : k < sSz h (sPl h c)) : ∃ fr lo, (fr ≤ 9 ∧ lo ≤ 180) ∧ xMl l yL_at cL_at 5 (some FieldType.int) [(0, 83, 84, 19)] fr lo g [.ref (ga g [0]), .int (nI c), .int (nI k), .int 2] (xR g (xD h') I' (xFh h') n) (some (.int (gX I c 4 k))) (xG_ g (xD h') I' (xFh h') n) 1 6 := by
  have hc' : c < sNc h' := by rw [hv.2.1]; exact hc
  have h4 := hL.n.2.1
  obtain ⟨e1, e2, e3, e4⟩ := hv.x (c := c) (by omega)
  have hk' : k < sSz h' (sPl h' c) := by rw [e3]; exact hk
  have r := r_a2 hst g n hL c hc' k (by have := (hL.n.2.2.2 c hc').2.2; omega)
  rw [show vAt h' I' c k 2 = gX I' c 4 k from (if_pos hk').trans ((if_neg (by decide)).trans (if_pos rfl)), e1] at r
  exact r
theorem q_a4 {l : Launch} (hst : l.stackTraces = false) (g : xG) {h h' : xS} {I I' : xI} (n : Nat) {jn : Nat} (hL : LW h' I' jn) (hv : vSm h I h' I') {c : Nat} (hc : c < sNc h) (k : Nat) (hk : k < sSz h (sPl h c)) : ∃ fr lo, (fr ≤ 9 ∧ lo ≤ 180) ∧ xMl l yL_at cL_at 5 (some FieldType.int) [(0, 83, 84, 19)] fr lo g [.ref (ga g [0]), .int (nI c), .int (nI k), .int 4] (xR g (xD h') I' (xFh h') n) (some (.int (gX I c 5 k))) (xG_ g (xD h') I' (xFh h') n) 1 6 := by
  have hc' : c < sNc h' := by rw [hv.2.1]; exact hc
  have h4 := hL.n.2.1
  obtain ⟨e1, e2, e3, e4⟩ := hv.x (c := c) (by omega)
  have hk' : k < sSz h' (sPl h' c) := by rw [e3]; exact hk
  have r := r_a4 hst g n hL c hc' k (by have := (hL.n.2.2.2 c hc').2.2; omega)
  rw [show vAt h' I' c k 4 = gX I' c 5 k from (if_pos hk').trans ((if_neg (by decide)).trans (if_neg (by decide))), e1] at r
  exact r
theorem q_a5 {l : Launch} (hst : l.stackTraces = false) (g : xG) {h h' : xS} {I I' : xI} (n : Nat) {jn : Nat} (hL : LW h' I' jn) (hv : vSm h I h' I') {c : Nat} (hc : c < sNc h) (k : Nat) (hk : k < sSz h (sPl h c)) : ∃ fr lo, (fr ≤ 9 ∧ lo ≤ 180) ∧ xMl l yL_at cL_at 5 (some FieldType.int) [(0, 83, 84, 19)] fr lo g [.ref (ga g [0]), .int (nI c), .int (nI k), .int 5] (xR g (xD h') I' (xFh h') n) (some (.int (b01 (sLte (vP I (sPl h c)) (gX I c) k)))) (xG_ g (xD h') I' (xFh h') n) 1 6 := by
  have hc' : c < sNc h' := by rw [hv.2.1]; exact hc
  have h4 := hL.n.2.1
  obtain ⟨e1, e2, e3, e4⟩ := hv.x (c := c) (by omega)
  have hk' : k < sSz h' (sPl h' c) := by rw [e3]; exact hk
  have r := r_a5 hst g n hL c hc' k hk'
  rw [e4, e1] at r
  exact r
theorem q_c0 {l : Launch} (hst : l.stackTraces = false) (g : xG) {h h' : xS} {I I' : xI} (n : Nat) {jn : Nat} (hL : LW h' I' jn) (hv : vSm h I h' I') {c : Nat} (hc : c < sNc h) : ∃ fr lo, (fr ≤ 9 ∧ lo ≤ 180) ∧ xMl l yL_case0 cL_case0 4 (some FieldType.int) [(0, 49, 108, 19), (50, 63, 108, 19), (64, 69, 108, 19), (70, 75, 108, 19), (76, 81, 108, 19), (82, 95, 108, 19), (96, 101, 108, 19), (102, 107, 108, 19), (0, 49, 113, 98), (50, 63, 113, 98), (64, 69, 113, 98), (70, 75, 113, 98), (76, 81, 113, 98), (82, 95, 113, 98), (96, 101, 113, 98), (102, 107, 113, 98)] fr lo g [.ref (ga g [0]), .int (nI c), .int 0] (xR g (xD h') I' (xFh h') n) (some (.int (nI (sCnt (gX I c) 97 (sSz h (sPl h c)))))) (xG_ g (xD h') I' (xFh h') n) 1 6 := by
  have hc' : c < sNc h' := by rw [hv.2.1]; exact hc
  have h4 := hL.n.2.1
  obtain ⟨e1, e2, e3, e4⟩ := hv.x (c := c) (by omega)
  have r := r_c0 hst g n hL c (by omega)
  rw [show vC0 h' I' c 0 = nI (sCnt (gX I' c) 97 (sSz h' (sPl h' c))) from if_pos hc', e1, e3] at r
  exact r
theorem q_c2 {l : Launch} (hst : l.stackTraces = false) (g : xG) {h h' : xS} {I I' : xI} (n : Nat) {jn : Nat} (hL : LW h' I' jn) (hv : vSm h I h' I') {c : Nat} (hc : c < sNc h) : ∃ fr lo, (fr ≤ 9 ∧ lo ≤ 180) ∧ xMl l yL_case0 cL_case0 4 (some FieldType.int) [(0, 49, 108, 19), (50, 63, 108, 19), (64, 69, 108, 19), (70, 75, 108, 19), (76, 81, 108, 19), (82, 95, 108, 19), (96, 101, 108, 19), (102, 107, 108, 19), (0, 49, 113, 98), (50, 63, 113, 98), (64, 69, 113, 98), (70, 75, 113, 98), (76, 81, 113, 98), (82, 95, 113, 98), (96, 101, 113, 98), (102, 107, 113, 98)] fr lo g [.ref (ga g [0]), .int (nI c), .int 2] (xR g (xD h') I' (xFh h') n) (some (.int (gX I c 0 9))) (xG_ g (xD h') I' (xFh h') n) 1 6 := by
  have hc' : c < sNc h' := by rw [hv.2.1]; exact hc
  have h4 := hL.n.2.1
  obtain ⟨e1, e2, e3, e4⟩ := hv.x (c := c) (by omega)
  have r := r_c2 hst g n hL c (by omega)
  rw [show vC0 h' I' c 2 = gX I' c 0 9 from if_pos hc', e1] at r
  exact r
theorem q_c3 {l : Launch} (hst : l.stackTraces = false) (g : xG) {h h' : xS} {I I' : xI} (n : Nat) {jn : Nat} (hL : LW h' I' jn) (hv : vSm h I h' I') {c : Nat} (hc : c < sNc h) : ∃ fr lo, (fr ≤ 9 ∧ lo ≤ 180) ∧ xMl l yL_case0 cL_case0 4 (some FieldType.int) [(0, 49, 108, 19), (50, 63, 108, 19), (64, 69, 108, 19), (70, 75, 108, 19), (76, 81, 108, 19), (82, 95, 108, 19), (96, 101, 108, 19), (102, 107, 108, 19), (0, 49, 113, 98), (50, 63, 113, 98), (64, 69, 113, 98), (70, 75, 113, 98), (76, 81, 113, 98), (82, 95, 113, 98), (96, 101, 113, 98), (102, 107, 113, 98)] fr lo g [.ref (ga g [0]), .int (nI c), .int 3] (xR g (xD h') I' (xFh h') n) (some (.int (gX I c 0 6))) (xG_ g (xD h') I' (xFh h') n) 1 6 := by
  have hc' : c < sNc h' := by rw [hv.2.1]; exact hc
  have h4 := hL.n.2.1
  obtain ⟨e1, e2, e3, e4⟩ := hv.x (c := c) (by omega)
  have r := r_c3 hst g n hL c (by omega)
  rw [show vC0 h' I' c 3 = gX I' c 0 6 from if_pos hc', e1] at r
  exact r
theorem q_c4 {l : Launch} (hst : l.stackTraces = false) (g : xG) {h h' : xS} {I I' : xI} (n : Nat) {jn : Nat} (hL : LW h' I' jn) (hv : vSm h I h' I') {c : Nat} (hc : c < sNc h) : ∃ fr lo, (fr ≤ 9 ∧ lo ≤ 180) ∧ xMl l yL_case0 cL_case0 4 (some FieldType.int) [(0, 49, 108, 19), (50, 63, 108, 19), (64, 69, 108, 19), (70, 75, 108, 19), (76, 81, 108, 19), (82, 95, 108, 19), (96, 101, 108, 19), (102, 107, 108, 19), (0, 49, 113, 98), (50, 63, 113, 98), (64, 69, 113, 98), (70, 75, 113, 98), (76, 81, 113, 98), (82, 95, 113, 98), (96, 101, 113, 98), (102, 107, 113, 98)] fr lo g [.ref (ga g [0]), .int (nI c), .int 4] (xR g (xD h') I' (xFh h') n) (some (.int (nI (sPl h c)))) (xG_ g (xD h') I' (xFh h') n) 1 6 := by
  have hc' : c < sNc h' := by rw [hv.2.1]; exact hc
  have h4 := hL.n.2.1
  obtain ⟨e1, e2, e3, e4⟩ := hv.x (c := c) (by omega)
  have r := r_c4 hst g n hL c (by omega)
  rw [show vC0 h' I' c 4 = nI (sPl h' c) from if_pos hc', e2] at r
  exact r
theorem q_c6 {l : Launch} (hst : l.stackTraces = false) (g : xG) {h h' : xS} {I I' : xI} (n : Nat) {jn : Nat} (hL : LW h' I' jn) (hv : vSm h I h' I') {c : Nat} (hc : c < sNc h) : ∃ fr lo, (fr ≤ 9 ∧ lo ≤ 180) ∧ xMl l yL_case0 cL_case0 4 (some FieldType.int) [(0, 49, 108, 19), (50, 63, 108, 19), (64, 69, 108, 19), (70, 75, 108, 19), (76, 81, 108, 19), (82, 95, 108, 19), (96, 101, 108, 19), (102, 107, 108, 19), (0, 49, 113, 98), (50, 63, 113, 98), (64, 69, 113, 98), (70, 75, 113, 98), (76, 81, 113, 98), (82, 95, 113, 98), (96, 101, 113, 98), (102, 107, 113, 98)] fr lo g [.ref (ga g [0]), .int (nI c), .int 6] (xR g (xD h') I' (xFh h') n) (some (.int (gX I c 0 10))) (xG_ g (xD h') I' (xFh h') n) 1 6 := by
  have hc' : c < sNc h' := by rw [hv.2.1]; exact hc
  have h4 := hL.n.2.1
  obtain ⟨e1, e2, e3, e4⟩ := hv.x (c := c) (by omega)
  have r := r_c6 hst g n hL c (by omega)
  rw [show vC0 h' I' c 6 = gX I' c 0 10 from if_pos hc', e1] at r
  exact r
theorem q_of {l : Launch} (hst : l.stackTraces = false) (g : xG) {h h' : xS} {I I' : xI} (n : Nat) {jn : Nat} (hL : LW h' I' jn) (hv : vSm h I h' I') {c : Nat} (hc : c < sNc h) : ∃ fr lo, (fr ≤ 9 ∧ lo ≤ 180) ∧ xMl l yL_of cL_of 4 (some FieldType.int) [(0, 25, 26, 19)] fr lo g [.ref (ga g [0]), .int (nI (sPl h c)), .int 0] (xR g (xD h') I' (xFh h') n) (some (.int (nI (sSz h (sPl h c))))) (xG_ g (xD h') I' (xFh h') n) 1 6 := by
  have hc' : c < sNc h' := by rw [hv.2.1]; exact hc
  have h4 := hL.n.2.1
  obtain ⟨e1, e2, e3, e4⟩ := hv.x (c := c) (by omega)
  have hp := hL.n.2.2.2 c hc'
  have r := r_of0 hst g n hL (sPl h' c) (by have := hL.n.1; omega)
  rw [show vOf h' I' (sPl h' c) 0 = nI (sSz h' (sPl h' c)) from (if_pos hp.1).trans (if_pos rfl), e3, e2] at r
  exact r
theorem q_sh {l : Launch} (hst : l.stackTraces = false) (g : xG) {h h' : xS} {I I' : xI} (n : Nat) {jn : Nat} (hL : LW h' I' jn) (hv : vSm h I h' I') {c : Nat} (hc : c < sNc h) : ∃ fr lo, (fr ≤ 9 ∧ lo ≤ 180) ∧ xMl l yL_share cL_share 3 (some FieldType.float) [(0, 5, 6, 19)] fr lo g [.ref (ga g [0]), .int (nI c)] (xR g (xD h') I' (xFh h') n) (some (.float (sShr (sCnt (gX I c) 99 (sSz h (sPl h c))) (sSz h (sPl h c))))) (xG_ g (xD h') I' (xFh h') n) 1 6 := by
  have hc' : c < sNc h' := by rw [hv.2.1]; exact hc
  have h4 := hL.n.2.1
  obtain ⟨e1, e2, e3, e4⟩ := hv.x (c := c) (by omega)
  have r := r_sh hst g n hL c hc'
  rw [e1, e3] at r
  exact r
/-- a read of what is replayed -/
theorem x_rp1 {nL index : Nat} {n0 : Nat} {h' : xS} {I' : xI} (hst : l.stackTraces = false) (hx : p.tables.exec = Jvm.exec) (hb : c.code = cc) (hml : c.maxLocals = nL) (hown : s.vm.findClass "CasebookStepsLaw" = some m.cls) (hE : xE g s s.heap) (hS : va_S (gA g) s.heap H locs) (hsize : ls.size = nL) (hl : Cond.methodLink "CasebookStepsLaw" index yL_at ∈ gl) (hL : LW h' I' jn) (hv : vSm h I h' I') (hj512 : jn ≤ 512) {b k : Nat} (hc : b < sNc h) (hk : k < sSz h (sPl h b))
    (hR : 10 ≤ R.frames ∧ 220 ≤ R.locals) (hf : cells + 1 ≤ R.cells ∧ slots + 6 ≤ R.slots) (hG : xG_ g (xD h') I' (xFh h') n0 H) (hst2 : st0 = .int 1 :: .int (nI k) :: .int (nI b) :: .ref (ga g [0]) :: rest) (hW : (rest.map fun v => v.category).sum ≤ 8) (hdg : decode cc pc = .ok (.invokestatic index, 3))
    (kk : ∀ (h2 : xS) (I2 : xI) (H1 : Heap) (locs1 : List Loc), LW h2 I2 jn → vSm h I h2 I2 → xG_ g (xD h2) I2 (xFh h2) n0 H1 → va_S (gA g) s.heap H1 locs1 → W p l e R s m args below meth c H1 locs1 (cells + 1) (slots + 6) Q (F0 m (pc + 3) ls (.int (gX I b 2 k) :: rest))) : W p l e R s m args below meth c H locs cells slots Q (F0 m pc ls st0) := by
  obtain ⟨n1, h1, hH⟩ := hG
  have hc' : b < sNc h' := by rw [hv.2.1]; exact hc
  have h4 := hL.n.2.1
  obtain ⟨e1, e2, e3, e4⟩ := hv.x (c := b) (by omega)
  have hH' := hH.nrm4
  obtain ⟨I'', hI⟩ : ∃ z, z = sX I' 4 (nrm (gX I' 4)) := ⟨_, rfl⟩
  rw [← hI] at hH'
  have es : ∀ id, lvI id = true → I'' id = I' id := fun id hi => by
    rw [hI]
    rcases sX_cases I' 4 (nrm (gX I' 4)) id with ⟨f, rfl, -⟩ | ⟨-, z⟩
    · exact absurd hi (by simp [lvI])
    · exact z
  have g4 : gX I'' 4 = nrm (gX I' 4) := by rw [hI]; exact gX_sX _ _ _
  have hL' : LW h' I'' jn := ⟨hL.1.same es (by rw [g4]; exact xCh_nrm hL.1.2.2.2.2), hL.2⟩
  have e5 : gX I'' b = gX I b := (gX_same es (by omega)).trans e1
  obtain ⟨fr, lo, q, Z, hb2, hL2, hM⟩ := r_a1 hst g n1 hL' (by rw [g4]; exact nrm_nrm _) hj512 b hc' k (by rw [e3]; exact hk)
  rw [e5] at hM
  refine x_SW (own := "CasebookStepsLaw") (rest := rest) hx hb hml hown hE hS hsize cyL_at hl hM ⟨by omega, by omega⟩ hf hH' rfl hst2 hW hdg (fun H1 locs1 hQ hS1 => kk _ _ H1 locs1 hL2 (hv.tr ?_) ⟨n1, h1, hQ⟩ hS1)
  refine ⟨rfl, rfl, rfl, rfl, fun d hd => if_neg (by omega), rfl, fun id hi => ?_⟩
  rcases sX_cases I'' 4 Z id with ⟨f, rfl, -⟩ | ⟨-, z⟩
  · exact absurd hi (by simp [lvI])
  · exact z.trans (es id hi)
/-- a read of what is replayed -/
theorem x_rp3 {nL index : Nat} {n0 : Nat} {h' : xS} {I' : xI} (hst : l.stackTraces = false) (hx : p.tables.exec = Jvm.exec) (hb : c.code = cc) (hml : c.maxLocals = nL) (hown : s.vm.findClass "CasebookStepsLaw" = some m.cls) (hE : xE g s s.heap) (hS : va_S (gA g) s.heap H locs) (hsize : ls.size = nL) (hl : Cond.methodLink "CasebookStepsLaw" index yL_at ∈ gl) (hL : LW h' I' jn) (hv : vSm h I h' I') (hj512 : jn ≤ 512) {b k : Nat} (hc : b < sNc h) (hk : k < sSz h (sPl h b))
    (hR : 10 ≤ R.frames ∧ 220 ≤ R.locals) (hf : cells + 1 ≤ R.cells ∧ slots + 6 ≤ R.slots) (hG : xG_ g (xD h') I' (xFh h') n0 H) (hst2 : st0 = .int 3 :: .int (nI k) :: .int (nI b) :: .ref (ga g [0]) :: rest) (hW : (rest.map fun v => v.category).sum ≤ 8) (hdg : decode cc pc = .ok (.invokestatic index, 3))
    (kk : ∀ (h2 : xS) (I2 : xI) (H1 : Heap) (locs1 : List Loc), LW h2 I2 jn → vSm h I h2 I2 → xG_ g (xD h2) I2 (xFh h2) n0 H1 → va_S (gA g) s.heap H1 locs1 → W p l e R s m args below meth c H1 locs1 (cells + 1) (slots + 6) Q (F0 m (pc + 3) ls (.int (gX I b 4 k) :: rest))) : W p l e R s m args below meth c H locs cells slots Q (F0 m pc ls st0) := by
  obtain ⟨n1, h1, hH⟩ := hG
  have hc' : b < sNc h' := by rw [hv.2.1]; exact hc
  have h4 := hL.n.2.1
  obtain ⟨e1, e2, e3, e4⟩ := hv.x (c := b) (by omega)
  have hH' := hH.nrm4
  obtain ⟨I'', hI⟩ : ∃ z, z = sX I' 4 (nrm (gX I' 4)) := ⟨_, rfl⟩
  rw [← hI] at hH'
  have es : ∀ id, lvI id = true → I'' id = I' id := fun id hi => by
    rw [hI]
    rcases sX_cases I' 4 (nrm (gX I' 4)) id with ⟨f, rfl, -⟩ | ⟨-, z⟩
    · exact absurd hi (by simp [lvI])
    · exact z
  have g4 : gX I'' 4 = nrm (gX I' 4) := by rw [hI]; exact gX_sX _ _ _
  have hL' : LW h' I'' jn := ⟨hL.1.same es (by rw [g4]; exact xCh_nrm hL.1.2.2.2.2), hL.2⟩
  have e5 : gX I'' b = gX I b := (gX_same es (by omega)).trans e1
  obtain ⟨fr, lo, q, Z, hb2, hL2, hM⟩ := r_a3 hst g n1 hL' (by rw [g4]; exact nrm_nrm _) hj512 b hc' k (by rw [e3]; exact hk)
  rw [e5] at hM
  refine x_SW (own := "CasebookStepsLaw") (rest := rest) hx hb hml hown hE hS hsize cyL_at hl hM ⟨by omega, by omega⟩ hf hH' rfl hst2 hW hdg (fun H1 locs1 hQ hS1 => kk _ _ H1 locs1 hL2 (hv.tr ?_) ⟨n1, h1, hQ⟩ hS1)
  refine ⟨rfl, rfl, rfl, rfl, fun d hd => if_neg (by omega), rfl, fun id hi => ?_⟩
  rcases sX_cases I'' 4 Z id with ⟨f, rfl, -⟩ | ⟨-, z⟩
  · exact absurd hi (by simp [lvI])
  · exact z.trans (es id hi)
theorem sCnt_up (X : xX) (v : Int32) (k : Nat) {b : Int32} (hb : (X 2 k = v ∧ b = 1) ∨ (¬ X 2 k = v ∧ b = 0)) : nI (sCnt X v k) + b = nI (sCnt X v (k + 1)) := by
  have e : sCnt X v (k + 1) = sCnt X v k + if X 2 k = v then 1 else 0 := rfl
  rcases hb with ⟨h1, rfl⟩ | ⟨h1, rfl⟩
  · rw [e, if_pos h1]; exact nI_1 _
  · rw [e, if_neg h1]; exact Int32.add_zero _
theorem sLte_97 {P : Nat → Nat → Int32} {X : xX} {k : Nat} (h : b01 (sLte P X k) = 1) : X 2 k = 97 := by
  cases e : sLte P X k with
  | false => rw [e] at h; exact absurd h (by decide)
  | true =>
    unfold sLte sAct at e
    simp only [Bool.and_eq_true, decide_eq_true_eq] at e
    exact e.1.2
theorem x_r7 {nL index : Nat} {n0 : Nat} {h' : xS} {I' : xI} (hst : l.stackTraces = false) (hx : p.tables.exec = Jvm.exec) (hb : c.code = cc) (hml : c.maxLocals = nL) (hown : s.vm.findClass "CasebookStepsLaw" = some m.cls) (hE : xE g s s.heap) (hS : va_S (gA g) s.heap H locs) (hsize : ls.size = nL) (hl : Cond.methodLink "CasebookStepsLaw" index yL_case0 ∈ gl) (hL : LW h' I' jn) (hv : vSm h I h' I') {b : Nat} (hc : b < sNc h)
    (hR : 10 ≤ R.frames ∧ 220 ≤ R.locals) (hf : cells + 1 ≤ R.cells ∧ slots + 6 ≤ R.slots) (hG : xG_ g (xD h') I' (xFh h') n0 H) (hst2 : st0 = .int 7 :: .int (nI b) :: .ref (ga g [0]) :: rest) (hW : (rest.map fun v => v.category).sum ≤ 8) (hdg : decode cc pc = .ok (.invokestatic index, 3))
    (kk : ∀ (v : Int32), v ≠ 0 → ∀ (H1 : Heap) (locs1 : List Loc), xG_ g (xD h') I' (xFh h') n0 H1 → va_S (gA g) s.heap H1 locs1 → W p l e R s m args below meth c H1 locs1 (cells + 1) (slots + 6) Q (F0 m (pc + 3) ls (.int v :: rest))) : W p l e R s m args below meth c H locs cells slots Q (F0 m pc ls st0) := by
  obtain ⟨n1, h1, hH⟩ := hG
  have hc' : b < sNc h' := by rw [hv.2.1]; exact hc
  obtain ⟨v, fr, lo, hv0, hb2, hM⟩ := r_c7 hst g n1 hL b hc'
  exact x_SW (own := "CasebookStepsLaw") (rest := rest) hx hb hml hown hE hS hsize cyL_case0 hl hM ⟨by omega, by omega⟩ hf hH rfl hst2 hW hdg (fun H1 locs1 hQ hS1 => by
    obtain ⟨n2, h2, hH2⟩ := hQ
    exact kk v hv0 H1 locs1 ⟨n2, by omega, hH2⟩ hS1)
set_option maxRecDepth 100000 in
theorem i_192 (hst : l.stackTraces = false) (hx : p.tables.exec = Jvm.exec) (hb : c.code = cL_isSound) (hml : c.maxLocals = 9) (hown : s.vm.findClass "CasebookStepsLaw" = some m.cls) (hE : xE g s s.heap) (hL : LW h I jn) (hR : 10 ≤ R.frames ∧ 220 ≤ R.locals) (hj512 : jn ≤ 512) {b0 : Nat} (hb0 : b0 < sNc h) {c0 s0 : Nat} {k : Nat} (hk : k < (sSz h (sPl h b0))) (hRc : c0 + 7 * (k + 1) ≤ R.cells ∧ s0 + 42 * (k + 1) ≤ R.slots) (nxt : ∀ (h' : xS) (I' : xI) (H : Heap) (locs : List Loc) (ls : Array Slot) (cells slots : Nat), cells ≤ c0 + 7 * (k + 1) → slots ≤ s0 + 42 * (k + 1) → LW h' I' jn → vSm h I h' I' → xG_ g (xD h') I' (xFh h') 0 H → va_S (gA g) s.heap H locs → lv_has ls 9 [(7, .int (nI (k + 1))), (1, .long (sSas h I b0 + sSum (gX I b0) (k + 1))), (4, .int (nI (sCnt (gX I b0) 97 (k + 1)))), (5, .int (nI (sCnt (gX I b0) 99 (k + 1)))), (6, .int (nI (sSz h (sPl h b0)))), (3, .int (nI b0)), (0, .ref (ga g [0]))] → W p l e R s m args below meth c H locs cells slots Q (F0 m 34 ls [])) {h' : xS} {I' : xI} (hL' : LW h' I' jn) (hv' : vSm h I h' I') (hc : cells ≤ c0 + 7 * k + 6) (hs : slots ≤ s0 + 42 * k + 36) (hG : xG_ g (xD h') I' (xFh h') 0 H) (hS : va_S (gA g) s.heap H locs) (hl : lv_has ls 9 [(7, .int (nI k)), (1, .long (sSas h I b0 + sSum (gX I b0) k)), (4, .int (nI (sCnt (gX I b0) 97 (k + 1)))), (5, .int (nI (sCnt (gX I b0) 99 (k + 1)))), (6, .int (nI (sSz h (sPl h b0)))), (3, .int (nI b0)), (0, .ref (ga g [0])), (8, .int ((gX I b0) 2 k))]) : W p l e R s m args below meth c H locs cells slots Q (F0 m 192 ls []) := by
  have hts := hE.ts args
  have hn4 := hL.n
  have h8 := (hn4.2.2.2 b0 hb0).2.2
  refine lv_lload_n hx hb dL_isSound_192 rfl (lv_at hl 1 rfl) ?_
  refine lv_aload_n hx hb dL_isSound_193 rfl (lv_at hl 6 rfl) ?_
  refine lv_iload_n hx hb dL_isSound_194 rfl (lv_at hl 5 rfl) ?_
  refine lv_iload hx hb dL_isSound_195 (lv_at hl 0 rfl) ?_
  refine lv_iconst (v := 2) hx hb dL_isSound_197 (by decide) ?_
  refine x_rd hx hb hml hown hE hS hl.1 cyL_at tw644 (fun n1 => q_a2 hst g n1 hL' hv' hb0 k hk) (by decide) hR ⟨by omega, by omega⟩ hG rfl rfl (Nat.le_of_ble_eq_true rfl) dL_isSound_198 (fun H locs hG hS => ?_)
  refine lv_i2l hx hb dL_isSound_201 rfl ?_
  refine lv_ladd hx hb dL_isSound_202 ?_
  refine lv_lstore_n (lv' := [(1, .long ((sSas h I b0 + sSum (gX I b0) k) + (((gX I b0) 4 k)).toInt64)), (7, .int (nI k)), (4, .int (nI (sCnt (gX I b0) 97 (k + 1)))), (5, .int (nI (sCnt (gX I b0) 99 (k + 1)))), (6, .int (nI (sSz h (sPl h b0)))), (3, .int (nI b0)), (0, .ref (ga g [0])), (8, .int ((gX I b0) 2 k))]) hx hb dL_isSound_203 rfl hl (by decide) rfl (fun ls hl => ?_)
  refine lv_iinc (v := (nI (k + 1))) (lv' := [(7, .int (nI (k + 1))), (1, .long ((sSas h I b0 + sSum (gX I b0) k) + (((gX I b0) 4 k)).toInt64)), (4, .int (nI (sCnt (gX I b0) 97 (k + 1)))), (5, .int (nI (sCnt (gX I b0) 99 (k + 1)))), (6, .int (nI (sSz h (sPl h b0)))), (3, .int (nI b0)), (0, .ref (ga g [0])), (8, .int ((gX I b0) 2 k))]) hx hb dL_isSound_204 hl (k := 1) rfl (nI_1 _) (by decide) rfl (fun ls hl => ?_)
  refine lv_goto (tgt := 34) hx hb dL_isSound_207 (by decide) ?_
  refine nxt h' I' H locs ls _ _ (by omega) (by omega) hL' hv' hG hS ?_
  have hl2 := (lv_sub hl [0, 1, 2, 3, 4, 5, 6] rfl : lv_has ls 9 [(7, .int (nI (k + 1))), (1, .long ((sSas h I b0 + sSum (gX I b0) k) + (((gX I b0) 4 k)).toInt64)), (4, .int (nI (sCnt (gX I b0) 97 (k + 1)))), (5, .int (nI (sCnt (gX I b0) 99 (k + 1)))), (6, .int (nI (sSz h (sPl h b0)))), (3, .int (nI b0)), (0, .ref (ga g [0]))])
  rw [show ((sSas h I b0 + sSum (gX I b0) k) + ((gX I b0) 4 k).toInt64) = (sSas h I b0 + (sSum (gX I b0) k + ((gX I b0) 4 k).toInt64)) from Int64.add_assoc _ _ _] at hl2
  exact hl2
set_option maxRecDepth 100000 in
theorem i_175 (hst : l.stackTraces = false) (hx : p.tables.exec = Jvm.exec) (hb : c.code = cL_isSound) (hml : c.maxLocals = 9) (hown : s.vm.findClass "CasebookStepsLaw" = some m.cls) (hE : xE g s s.heap) (hL : LW h I jn) (hR : 10 ≤ R.frames ∧ 220 ≤ R.locals) (hj512 : jn ≤ 512) {b0 : Nat} (hb0 : b0 < sNc h) {c0 s0 : Nat} {k : Nat} (hk : k < (sSz h (sPl h b0))) (hRc : c0 + 7 * (k + 1) ≤ R.cells ∧ s0 + 42 * (k + 1) ≤ R.slots) (nxt : ∀ (h' : xS) (I' : xI) (H : Heap) (locs : List Loc) (ls : Array Slot) (cells slots : Nat), cells ≤ c0 + 7 * (k + 1) → slots ≤ s0 + 42 * (k + 1) → LW h' I' jn → vSm h I h' I' → xG_ g (xD h') I' (xFh h') 0 H → va_S (gA g) s.heap H locs → lv_has ls 9 [(7, .int (nI (k + 1))), (1, .long (sSas h I b0 + sSum (gX I b0) (k + 1))), (4, .int (nI (sCnt (gX I b0) 97 (k + 1)))), (5, .int (nI (sCnt (gX I b0) 99 (k + 1)))), (6, .int (nI (sSz h (sPl h b0)))), (3, .int (nI b0)), (0, .ref (ga g [0]))] → W p l e R s m args below meth c H locs cells slots Q (F0 m 34 ls [])) {h' : xS} {I' : xI} (hL' : LW h' I' jn) (hv' : vSm h I h' I') (hc : cells ≤ c0 + 7 * k + 6) (hs : slots ≤ s0 + 42 * k + 36) (hG : xG_ g (xD h') I' (xFh h') 0 H) (hS : va_S (gA g) s.heap H locs) (hl : lv_has ls 9 [(7, .int (nI k)), (1, .long (sSas h I b0 + sSum (gX I b0) k)), (4, .int (nI (sCnt (gX I b0) 97 (k + 1)))), (5, .int (nI (sCnt (gX I b0) 99 k))), (6, .int (nI (sSz h (sPl h b0)))), (3, .int (nI b0)), (0, .ref (ga g [0])), (8, .int ((gX I b0) 2 k))]) : W p l e R s m args below meth c H locs cells slots Q (F0 m 175 ls []) := by
  have hts := hE.ts args
  have hn4 := hL.n
  have h8 := (hn4.2.2.2 b0 hb0).2.2
  refine lv_iload hx hb dL_isSound_175 (lv_at hl 3 rfl) ?_
  refine lv_iload hx hb dL_isSound_177 (lv_at hl 7 rfl) ?_
  refine lv_bipush (v := 99) hx hb dL_isSound_179 (by decide) ?_
  refine lv_icmp_ne (tgt := 188) hx hb dL_isSound_181 (by decide) (fun q => ?_) (fun q => ?_)
  · skip
    refine lv_iconst (v := 0) hx hb dL_isSound_188 (by decide) ?_
    refine lv_iadd hx hb dL_isSound_189 ?_
    rw [sCnt_up (gX I b0) 99 k (Or.inr ⟨q, rfl⟩)]
    refine lv_istore (lv' := [(5, .int (nI (sCnt (gX I b0) 99 (k + 1)))), (7, .int (nI k)), (1, .long (sSas h I b0 + sSum (gX I b0) k)), (4, .int (nI (sCnt (gX I b0) 97 (k + 1)))), (6, .int (nI (sSz h (sPl h b0)))), (3, .int (nI b0)), (0, .ref (ga g [0])), (8, .int ((gX I b0) 2 k))]) hx hb dL_isSound_190 hl (by decide) rfl (fun ls hl => ?_)
    exact i_192 hst hx hb hml hown hE hL hR hj512 hb0 hk hRc nxt hL' hv' (by omega) (by omega) hG hS (lv_sub hl [1, 2, 3, 0, 4, 5, 6, 7] rfl)
  · skip
    refine lv_iconst (v := 1) hx hb dL_isSound_184 (by decide) ?_
    refine lv_goto (tgt := 189) hx hb dL_isSound_185 (by decide) ?_
    refine lv_iadd hx hb dL_isSound_189 ?_
    rw [sCnt_up (gX I b0) 99 k (Or.inl ⟨q, rfl⟩)]
    refine lv_istore (lv' := [(5, .int (nI (sCnt (gX I b0) 99 (k + 1)))), (7, .int (nI k)), (1, .long (sSas h I b0 + sSum (gX I b0) k)), (4, .int (nI (sCnt (gX I b0) 97 (k + 1)))), (6, .int (nI (sSz h (sPl h b0)))), (3, .int (nI b0)), (0, .ref (ga g [0])), (8, .int ((gX I b0) 2 k))]) hx hb dL_isSound_190 hl (by decide) rfl (fun ls hl => ?_)
    exact i_192 hst hx hb hml hown hE hL hR hj512 hb0 hk hRc nxt hL' hv' (by omega) (by omega) hG hS (lv_sub hl [1, 2, 3, 0, 4, 5, 6, 7] rfl)
set_option maxRecDepth 100000 in
theorem i_158 (hst : l.stackTraces = false) (hx : p.tables.exec = Jvm.exec) (hb : c.code = cL_isSound) (hml : c.maxLocals = 9) (hown : s.vm.findClass "CasebookStepsLaw" = some m.cls) (hE : xE g s s.heap) (hL : LW h I jn) (hR : 10 ≤ R.frames ∧ 220 ≤ R.locals) (hj512 : jn ≤ 512) {b0 : Nat} (hb0 : b0 < sNc h) {c0 s0 : Nat} {k : Nat} (hk : k < (sSz h (sPl h b0))) (hRc : c0 + 7 * (k + 1) ≤ R.cells ∧ s0 + 42 * (k + 1) ≤ R.slots) (nxt : ∀ (h' : xS) (I' : xI) (H : Heap) (locs : List Loc) (ls : Array Slot) (cells slots : Nat), cells ≤ c0 + 7 * (k + 1) → slots ≤ s0 + 42 * (k + 1) → LW h' I' jn → vSm h I h' I' → xG_ g (xD h') I' (xFh h') 0 H → va_S (gA g) s.heap H locs → lv_has ls 9 [(7, .int (nI (k + 1))), (1, .long (sSas h I b0 + sSum (gX I b0) (k + 1))), (4, .int (nI (sCnt (gX I b0) 97 (k + 1)))), (5, .int (nI (sCnt (gX I b0) 99 (k + 1)))), (6, .int (nI (sSz h (sPl h b0)))), (3, .int (nI b0)), (0, .ref (ga g [0]))] → W p l e R s m args below meth c H locs cells slots Q (F0 m 34 ls [])) {h' : xS} {I' : xI} (hL' : LW h' I' jn) (hv' : vSm h I h' I') (hc : cells ≤ c0 + 7 * k + 6) (hs : slots ≤ s0 + 42 * k + 36) (hG : xG_ g (xD h') I' (xFh h') 0 H) (hS : va_S (gA g) s.heap H locs) (hl : lv_has ls 9 [(7, .int (nI k)), (1, .long (sSas h I b0 + sSum (gX I b0) k)), (4, .int (nI (sCnt (gX I b0) 97 k))), (5, .int (nI (sCnt (gX I b0) 99 k))), (6, .int (nI (sSz h (sPl h b0)))), (3, .int (nI b0)), (0, .ref (ga g [0])), (8, .int ((gX I b0) 2 k))]) : W p l e R s m args below meth c H locs cells slots Q (F0 m 158 ls []) := by
  have hts := hE.ts args
  have hn4 := hL.n
  have h8 := (hn4.2.2.2 b0 hb0).2.2
  refine lv_iload hx hb dL_isSound_158 (lv_at hl 2 rfl) ?_
  refine lv_iload hx hb dL_isSound_160 (lv_at hl 7 rfl) ?_
  refine lv_bipush (v := 97) hx hb dL_isSound_162 (by decide) ?_
  refine lv_icmp_ne (tgt := 171) hx hb dL_isSound_164 (by decide) (fun q => ?_) (fun q => ?_)
  · skip
    refine lv_iconst (v := 0) hx hb dL_isSound_171 (by decide) ?_
    refine lv_iadd hx hb dL_isSound_172 ?_
    rw [sCnt_up (gX I b0) 97 k (Or.inr ⟨q, rfl⟩)]
    refine lv_istore (lv' := [(4, .int (nI (sCnt (gX I b0) 97 (k + 1)))), (7, .int (nI k)), (1, .long (sSas h I b0 + sSum (gX I b0) k)), (5, .int (nI (sCnt (gX I b0) 99 k))), (6, .int (nI (sSz h (sPl h b0)))), (3, .int (nI b0)), (0, .ref (ga g [0])), (8, .int ((gX I b0) 2 k))]) hx hb dL_isSound_173 hl (by decide) rfl (fun ls hl => ?_)
    exact i_175 hst hx hb hml hown hE hL hR hj512 hb0 hk hRc nxt hL' hv' (by omega) (by omega) hG hS (lv_sub hl [1, 2, 0, 3, 4, 5, 6, 7] rfl)
  · skip
    refine lv_iconst (v := 1) hx hb dL_isSound_167 (by decide) ?_
    refine lv_goto (tgt := 172) hx hb dL_isSound_168 (by decide) ?_
    refine lv_iadd hx hb dL_isSound_172 ?_
    rw [sCnt_up (gX I b0) 97 k (Or.inl ⟨q, rfl⟩)]
    refine lv_istore (lv' := [(4, .int (nI (sCnt (gX I b0) 97 (k + 1)))), (7, .int (nI k)), (1, .long (sSas h I b0 + sSum (gX I b0) k)), (5, .int (nI (sCnt (gX I b0) 99 k))), (6, .int (nI (sSz h (sPl h b0)))), (3, .int (nI b0)), (0, .ref (ga g [0])), (8, .int ((gX I b0) 2 k))]) hx hb dL_isSound_173 hl (by decide) rfl (fun ls hl => ?_)
    exact i_175 hst hx hb hml hown hE hL hR hj512 hb0 hk hRc nxt hL' hv' (by omega) (by omega) hG hS (lv_sub hl [1, 2, 0, 3, 4, 5, 6, 7] rfl)
set_option maxRecDepth 100000 in
theorem i_137 (hst : l.stackTraces = false) (hx : p.tables.exec = Jvm.exec) (hb : c.code = cL_isSound) (hml : c.maxLocals = 9) (hown : s.vm.findClass "CasebookStepsLaw" = some m.cls) (hE : xE g s s.heap) (hL : LW h I jn) (hR : 10 ≤ R.frames ∧ 220 ≤ R.locals) (hj512 : jn ≤ 512) {b0 : Nat} (hb0 : b0 < sNc h) {c0 s0 : Nat} {k : Nat} (hk : k < (sSz h (sPl h b0))) (hRc : c0 + 7 * (k + 1) ≤ R.cells ∧ s0 + 42 * (k + 1) ≤ R.slots) (nxt : ∀ (h' : xS) (I' : xI) (H : Heap) (locs : List Loc) (ls : Array Slot) (cells slots : Nat), cells ≤ c0 + 7 * (k + 1) → slots ≤ s0 + 42 * (k + 1) → LW h' I' jn → vSm h I h' I' → xG_ g (xD h') I' (xFh h') 0 H → va_S (gA g) s.heap H locs → lv_has ls 9 [(7, .int (nI (k + 1))), (1, .long (sSas h I b0 + sSum (gX I b0) (k + 1))), (4, .int (nI (sCnt (gX I b0) 97 (k + 1)))), (5, .int (nI (sCnt (gX I b0) 99 (k + 1)))), (6, .int (nI (sSz h (sPl h b0)))), (3, .int (nI b0)), (0, .ref (ga g [0]))] → W p l e R s m args below meth c H locs cells slots Q (F0 m 34 ls [])) {h' : xS} {I' : xI} (hL' : LW h' I' jn) (hv' : vSm h I h' I') (hc : cells ≤ c0 + 7 * k + 5) (hs : slots ≤ s0 + 42 * k + 30) (hG : xG_ g (xD h') I' (xFh h') 0 H) (hS : va_S (gA g) s.heap H locs) (hl : lv_has ls 9 [(7, .int (nI k)), (1, .long (sSas h I b0 + sSum (gX I b0) k)), (4, .int (nI (sCnt (gX I b0) 97 k))), (5, .int (nI (sCnt (gX I b0) 99 k))), (6, .int (nI (sSz h (sPl h b0)))), (3, .int (nI b0)), (0, .ref (ga g [0])), (8, .int ((gX I b0) 2 k))]) : W p l e R s m args below meth c H locs cells slots Q (F0 m 137 ls []) := by
  have hts := hE.ts args
  have hn4 := hL.n
  have h8 := (hn4.2.2.2 b0 hb0).2.2
  refine lv_aload_n hx hb dL_isSound_137 rfl (lv_at hl 6 rfl) ?_
  refine lv_iload_n hx hb dL_isSound_138 rfl (lv_at hl 5 rfl) ?_
  refine lv_iload hx hb dL_isSound_139 (lv_at hl 0 rfl) ?_
  refine lv_iconst (v := 5) hx hb dL_isSound_141 (by decide) ?_
  refine x_rd hx hb hml hown hE hS hl.1 cyL_at tw644 (fun n1 => q_a5 hst g n1 hL' hv' hb0 k hk) (by decide) hR ⟨by omega, by omega⟩ hG rfl rfl (Nat.le_of_ble_eq_true rfl) dL_isSound_142 (fun H locs hG hS => ?_)
  refine lv_iconst (v := 1) hx hb dL_isSound_145 (by decide) ?_
  refine lv_icmp_ne (tgt := 158) hx hb dL_isSound_146 (by decide) (fun q => ?_) (fun q => ?_)
  · exact i_158 hst hx hb hml hown hE hL hR hj512 hb0 hk hRc nxt hL' hv' (by omega) (by omega) hG hS hl
  · skip
    refine lv_iload hx hb dL_isSound_149 (lv_at hl 7 rfl) ?_
    refine lv_bipush (v := 97) hx hb dL_isSound_151 (by decide) ?_
    refine lv_icmp_eq (tgt := 158) hx hb dL_isSound_153 (by decide) (fun q2 => ?_) (fun q2 => ?_)
    · exact i_158 hst hx hb hml hown hE hL hR hj512 hb0 hk hRc nxt hL' hv' (by omega) (by omega) hG hS hl
    · exact absurd (sLte_97 q) q2
set_option maxRecDepth 100000 in
theorem i_125 (hst : l.stackTraces = false) (hx : p.tables.exec = Jvm.exec) (hb : c.code = cL_isSound) (hml : c.maxLocals = 9) (hown : s.vm.findClass "CasebookStepsLaw" = some m.cls) (hE : xE g s s.heap) (hL : LW h I jn) (hR : 10 ≤ R.frames ∧ 220 ≤ R.locals) (hj512 : jn ≤ 512) {b0 : Nat} (hb0 : b0 < sNc h)  {c0 s0 : Nat} {k : Nat} (hk : k < (sSz h (sPl h b0))) (hRc : c0 + 7 * (k + 1) ≤ R.cells ∧ s0 + 42 * (k + 1) ≤ R.slots) (hS97 : gX I b0 2 k = 97 ∨ gX I b0 2 k = 99) (nxt : ∀ (h' : xS) (I' : xI) (H : Heap) (locs : List Loc) (ls : Array Slot) (cells slots : Nat), cells ≤ c0 + 7 * (k + 1) → slots ≤ s0 + 42 * (k + 1) → LW h' I' jn → vSm h I h' I' → xG_ g (xD h') I' (xFh h') 0 H → va_S (gA g) s.heap H locs → lv_has ls 9 [(7, .int (nI (k + 1))), (1, .long (sSas h I b0 + sSum (gX I b0) (k + 1))), (4, .int (nI (sCnt (gX I b0) 97 (k + 1)))), (5, .int (nI (sCnt (gX I b0) 99 (k + 1)))), (6, .int (nI (sSz h (sPl h b0)))), (3, .int (nI b0)), (0, .ref (ga g [0]))] → W p l e R s m args below meth c H locs cells slots Q (F0 m 34 ls [])) {h' : xS} {I' : xI} (hL' : LW h' I' jn) (hv' : vSm h I h' I') (hc : cells ≤ c0 + 7 * k + 4) (hs : slots ≤ s0 + 42 * k + 24) (hG : xG_ g (xD h') I' (xFh h') 0 H) (hS : va_S (gA g) s.heap H locs) (hl : lv_has ls 9 [(7, .int (nI k)), (1, .long (sSas h I b0 + sSum (gX I b0) k)), (4, .int (nI (sCnt (gX I b0) 97 k))), (5, .int (nI (sCnt (gX I b0) 99 k))), (6, .int (nI (sSz h (sPl h b0)))), (3, .int (nI b0)), (0, .ref (ga g [0])), (8, .int ((gX I b0) 2 k))]) : W p l e R s m args below meth c H locs cells slots Q (F0 m 125 ls []) := by
  have hts := hE.ts args
  have hn4 := hL.n
  have h8 := (hn4.2.2.2 b0 hb0).2.2
  have q1 := ((hL.1.2.2.1 b0 hb0).1 k (by omega)).2.1 hS97
  refine lv_aload_n hx hb dL_isSound_125 rfl (lv_at hl 6 rfl) ?_
  refine lv_iload_n hx hb dL_isSound_126 rfl (lv_at hl 5 rfl) ?_
  refine lv_iload hx hb dL_isSound_127 (lv_at hl 0 rfl) ?_
  refine lv_iconst (v := 4) hx hb dL_isSound_129 (by decide) ?_
  refine x_rd hx hb hml hown hE hS hl.1 cyL_at tw644 (fun n1 => q_a4 hst g n1 hL' hv' hb0 k hk) (by decide) hR ⟨by omega, by omega⟩ hG rfl rfl (Nat.le_of_ble_eq_true rfl) dL_isSound_130 (fun H locs hG hS => ?_)
  refine lv_iconst (v := 1) hx hb dL_isSound_133 (by decide) ?_
  refine lv_icmp_lt (tgt := 156) hx hb dL_isSound_134 (by decide) (fun q => ?_) (fun q => ?_)
  · rw [Int32.lt_iff_toInt_lt, show (1 : Int32).toInt = 1 from by decide] at q
    have q1' : 1 ≤ (gX I b0 5 k).toInt := q1
    omega
  · exact i_137 hst hx hb hml hown hE hL hR hj512 hb0 hk hRc nxt hL' hv' (by omega) (by omega) hG hS hl
set_option maxRecDepth 100000 in
theorem i_111 (hst : l.stackTraces = false) (hx : p.tables.exec = Jvm.exec) (hb : c.code = cL_isSound) (hml : c.maxLocals = 9) (hown : s.vm.findClass "CasebookStepsLaw" = some m.cls) (hE : xE g s s.heap) (hL : LW h I jn) (hR : 10 ≤ R.frames ∧ 220 ≤ R.locals) (hj512 : jn ≤ 512) {b0 : Nat} (hb0 : b0 < sNc h)  {c0 s0 : Nat} {k : Nat} (hk : k < (sSz h (sPl h b0))) (hRc : c0 + 7 * (k + 1) ≤ R.cells ∧ s0 + 42 * (k + 1) ≤ R.slots) (nxt : ∀ (h' : xS) (I' : xI) (H : Heap) (locs : List Loc) (ls : Array Slot) (cells slots : Nat), cells ≤ c0 + 7 * (k + 1) → slots ≤ s0 + 42 * (k + 1) → LW h' I' jn → vSm h I h' I' → xG_ g (xD h') I' (xFh h') 0 H → va_S (gA g) s.heap H locs → lv_has ls 9 [(7, .int (nI (k + 1))), (1, .long (sSas h I b0 + sSum (gX I b0) (k + 1))), (4, .int (nI (sCnt (gX I b0) 97 (k + 1)))), (5, .int (nI (sCnt (gX I b0) 99 (k + 1)))), (6, .int (nI (sSz h (sPl h b0)))), (3, .int (nI b0)), (0, .ref (ga g [0]))] → W p l e R s m args below meth c H locs cells slots Q (F0 m 34 ls [])) {h' : xS} {I' : xI} (hL' : LW h' I' jn) (hv' : vSm h I h' I') (hc : cells ≤ c0 + 7 * k + 4) (hs : slots ≤ s0 + 42 * k + 24) (hG : xG_ g (xD h') I' (xFh h') 0 H) (hS : va_S (gA g) s.heap H locs) (hl : lv_has ls 9 [(7, .int (nI k)), (1, .long (sSas h I b0 + sSum (gX I b0) k)), (4, .int (nI (sCnt (gX I b0) 97 k))), (5, .int (nI (sCnt (gX I b0) 99 k))), (6, .int (nI (sSz h (sPl h b0)))), (3, .int (nI b0)), (0, .ref (ga g [0])), (8, .int ((gX I b0) 2 k))]) : W p l e R s m args below meth c H locs cells slots Q (F0 m 111 ls []) := by
  have hts := hE.ts args
  have hn4 := hL.n
  have h8 := (hn4.2.2.2 b0 hb0).2.2
  refine lv_iload hx hb dL_isSound_111 (lv_at hl 7 rfl) ?_
  refine lv_bipush (v := 97) hx hb dL_isSound_113 (by decide) ?_
  refine lv_icmp_eq (tgt := 125) hx hb dL_isSound_115 (by decide) (fun q => ?_) (fun q => ?_)
  · exact i_125 hst hx hb hml hown hE hL hR hj512 hb0 hk hRc (Or.inl q) nxt hL' hv' (by omega) (by omega) hG hS hl
  · skip
    refine lv_iload hx hb dL_isSound_118 (lv_at hl 7 rfl) ?_
    refine lv_bipush (v := 99) hx hb dL_isSound_120 (by decide) ?_
    refine lv_icmp_ne (tgt := 137) hx hb dL_isSound_122 (by decide) (fun q2 => ?_) (fun q2 => ?_)
    · exact i_137 hst hx hb hml hown hE hL hR hj512 hb0 hk hRc nxt hL' hv' (by omega) (by omega) hG hS hl
    · exact i_125 hst hx hb hml hown hE hL hR hj512 hb0 hk hRc (Or.inr q2) nxt hL' hv' (by omega) (by omega) hG hS hl
set_option maxRecDepth 100000 in
theorem i_41 (hst : l.stackTraces = false) (hx : p.tables.exec = Jvm.exec) (hb : c.code = cL_isSound) (hml : c.maxLocals = 9) (hown : s.vm.findClass "CasebookStepsLaw" = some m.cls) (hE : xE g s s.heap) (hL : LW h I jn) (hR : 10 ≤ R.frames ∧ 220 ≤ R.locals) (hj512 : jn ≤ 512) {b0 : Nat} (hb0 : b0 < sNc h)  {c0 s0 : Nat} {k : Nat} (hk : k < (sSz h (sPl h b0))) (hRc : c0 + 7 * (k + 1) ≤ R.cells ∧ s0 + 42 * (k + 1) ≤ R.slots) (nxt : ∀ (h' : xS) (I' : xI) (H : Heap) (locs : List Loc) (ls : Array Slot) (cells slots : Nat), cells ≤ c0 + 7 * (k + 1) → slots ≤ s0 + 42 * (k + 1) → LW h' I' jn → vSm h I h' I' → xG_ g (xD h') I' (xFh h') 0 H → va_S (gA g) s.heap H locs → lv_has ls 9 [(7, .int (nI (k + 1))), (1, .long (sSas h I b0 + sSum (gX I b0) (k + 1))), (4, .int (nI (sCnt (gX I b0) 97 (k + 1)))), (5, .int (nI (sCnt (gX I b0) 99 (k + 1)))), (6, .int (nI (sSz h (sPl h b0)))), (3, .int (nI b0)), (0, .ref (ga g [0]))] → W p l e R s m args below meth c H locs cells slots Q (F0 m 34 ls [])) {h' : xS} {I' : xI} (hL' : LW h' I' jn) (hv' : vSm h I h' I') (hc : cells ≤ c0 + 7 * k + 0) (hs : slots ≤ s0 + 42 * k + 0) (hG : xG_ g (xD h') I' (xFh h') 0 H) (hS : va_S (gA g) s.heap H locs) (hl : lv_has ls 9 [(7, .int (nI k)), (1, .long (sSas h I b0 + sSum (gX I b0) k)), (4, .int (nI (sCnt (gX I b0) 97 k))), (5, .int (nI (sCnt (gX I b0) 99 k))), (6, .int (nI (sSz h (sPl h b0)))), (3, .int (nI b0)), (0, .ref (ga g [0]))]) : W p l e R s m args below meth c H locs cells slots Q (F0 m 41 ls []) := by
  have hts := hE.ts args
  have hn4 := hL.n
  have h8 := (hn4.2.2.2 b0 hb0).2.2
  refine lv_aload_n hx hb dL_isSound_41 rfl (lv_at hl 6 rfl) ?_
  refine lv_iload_n hx hb dL_isSound_42 rfl (lv_at hl 5 rfl) ?_
  refine lv_iload hx hb dL_isSound_43 (lv_at hl 0 rfl) ?_
  refine lv_iconst (v := 0) hx hb dL_isSound_45 (by decide) ?_
  refine x_rd hx hb hml hown hE hS hl.1 cyL_at tw644 (fun n1 => q_a0 hst g n1 hL' hv' hb0 k hk) (by decide) hR ⟨by omega, by omega⟩ hG rfl rfl (Nat.le_of_ble_eq_true rfl) dL_isSound_46 (fun H locs hG hS => ?_)
  refine lv_istore (lv' := [(8, .int ((gX I b0) 2 k)), (7, .int (nI k)), (1, .long (sSas h I b0 + sSum (gX I b0) k)), (4, .int (nI (sCnt (gX I b0) 97 k))), (5, .int (nI (sCnt (gX I b0) 99 k))), (6, .int (nI (sSz h (sPl h b0)))), (3, .int (nI b0)), (0, .ref (ga g [0]))]) hx hb dL_isSound_49 hl (by decide) rfl (fun ls hl => ?_)
  refine lv_iload hx hb dL_isSound_51 (lv_at hl 0 rfl) ?_
  refine lv_aload_n hx hb dL_isSound_53 rfl (lv_at hl 7 rfl) ?_
  refine lv_iload_n hx hb dL_isSound_54 rfl (lv_at hl 6 rfl) ?_
  refine lv_iload hx hb dL_isSound_55 (lv_at hl 1 rfl) ?_
  refine lv_iconst (v := 1) hx hb dL_isSound_57 (by decide) ?_
  refine x_rp1 hst hx hb hml hown hE hS hl.1 tw644 hL' hv' hj512 hb0 hk hR ⟨by omega, by omega⟩ hG rfl (Nat.le_of_ble_eq_true rfl) dL_isSound_58 (fun h' I' H locs hL' hv' hG hS => ?_)
  refine lv_icmp_ne (tgt := 156) hx hb dL_isSound_61 (by decide) (fun q => ?_) (fun _ => ?_)
  · exact absurd rfl q
  · skip
    refine lv_aload_n hx hb dL_isSound_64 rfl (lv_at hl 7 rfl) ?_
    refine lv_iload_n hx hb dL_isSound_65 rfl (lv_at hl 6 rfl) ?_
    refine lv_iload hx hb dL_isSound_66 (lv_at hl 1 rfl) ?_
    refine lv_iconst (v := 2) hx hb dL_isSound_68 (by decide) ?_
    refine x_rd hx hb hml hown hE hS hl.1 cyL_at tw644 (fun n1 => q_a2 hst g n1 hL' hv' hb0 k hk) (by decide) hR ⟨by omega, by omega⟩ hG rfl rfl (Nat.le_of_ble_eq_true rfl) dL_isSound_69 (fun H locs hG hS => ?_)
    refine lv_aload_n hx hb dL_isSound_72 rfl (lv_at hl 7 rfl) ?_
    refine lv_iload_n hx hb dL_isSound_73 rfl (lv_at hl 6 rfl) ?_
    refine lv_iload hx hb dL_isSound_74 (lv_at hl 1 rfl) ?_
    refine lv_iconst (v := 3) hx hb dL_isSound_76 (by decide) ?_
    refine x_rp3 hst hx hb hml hown hE hS hl.1 tw644 hL' hv' hj512 hb0 hk hR ⟨by omega, by omega⟩ hG rfl (Nat.le_of_ble_eq_true rfl) dL_isSound_77 (fun h' I' H locs hL' hv' hG hS => ?_)
    refine lv_icmp_ne (tgt := 156) hx hb dL_isSound_80 (by decide) (fun q => ?_) (fun _ => ?_)
    · exact absurd rfl q
    · skip
      have s1 := ((hL.1.2.2.1 b0 hb0).1 k (by omega)).1
      refine lv_iload hx hb dL_isSound_83 (lv_at hl 0 rfl) ?_
      refine lv_bipush (v := 105) hx hb dL_isSound_85 (by decide) ?_
      refine lv_icmp_eq (tgt := 111) hx hb dL_isSound_87 (by decide) (fun _ => ?_) (fun z0 => ?_)
      · exact i_111 hst hx hb hml hown hE hL hR hj512 hb0 hk hRc nxt hL' hv' (by omega) (by omega) hG hS (lv_sub hl [1, 2, 3, 4, 5, 6, 7, 0] rfl)
      · skip
        refine lv_iload hx hb dL_isSound_90 (lv_at hl 0 rfl) ?_
        refine lv_bipush (v := 97) hx hb dL_isSound_92 (by decide) ?_
        refine lv_icmp_eq (tgt := 111) hx hb dL_isSound_94 (by decide) (fun _ => ?_) (fun z1 => ?_)
        · exact i_111 hst hx hb hml hown hE hL hR hj512 hb0 hk hRc nxt hL' hv' (by omega) (by omega) hG hS (lv_sub hl [1, 2, 3, 4, 5, 6, 7, 0] rfl)
        · skip
          refine lv_iload hx hb dL_isSound_97 (lv_at hl 0 rfl) ?_
          refine lv_bipush (v := 99) hx hb dL_isSound_99 (by decide) ?_
          refine lv_icmp_eq (tgt := 111) hx hb dL_isSound_101 (by decide) (fun _ => ?_) (fun z2 => ?_)
          · exact i_111 hst hx hb hml hown hE hL hR hj512 hb0 hk hRc nxt hL' hv' (by omega) (by omega) hG hS (lv_sub hl [1, 2, 3, 4, 5, 6, 7, 0] rfl)
          · skip
            refine lv_iload hx hb dL_isSound_104 (lv_at hl 0 rfl) ?_
            refine lv_bipush (v := 120) hx hb dL_isSound_106 (by decide) ?_
            refine lv_icmp_ne (tgt := 156) hx hb dL_isSound_108 (by decide) (fun q => ?_) (fun _ => ?_)
            · exact absurd (((s1.resolve_left z0).resolve_left z1).resolve_left z2) q
            · exact i_111 hst hx hb hml hown hE hL hR hj512 hb0 hk hRc nxt hL' hv' (by omega) (by omega) hG hS (lv_sub hl [1, 2, 3, 4, 5, 6, 7, 0] rfl)
set_option maxRecDepth 100000 in
theorem i_K (hst : l.stackTraces = false) (hx : p.tables.exec = Jvm.exec) (hb : c.code = cL_isSound) (hml : c.maxLocals = 9) (hown : s.vm.findClass "CasebookStepsLaw" = some m.cls) (hE : xE g s s.heap) (hL : LW h I jn) (hR : 10 ≤ R.frames ∧ 220 ≤ R.locals) (hj512 : jn ≤ 512) {b0 : Nat} (hb0 : b0 < sNc h) (c0 s0 : Nat) (hRc : c0 + 56 ≤ R.cells ∧ s0 + 336 ≤ R.slots) (fin : ∀ (h' : xS) (I' : xI) (H : Heap) (locs : List Loc) (ls : Array Slot) (cells slots : Nat), cells ≤ c0 + 56 → slots ≤ s0 + 336 → LW h' I' jn → vSm h I h' I' → xG_ g (xD h') I' (xFh h') 0 H → va_S (gA g) s.heap H locs → lv_has ls 9 [(1, .long (sSas h I b0 + sSum (gX I b0) (sSz h (sPl h b0)))), (4, .int (nI (sCnt (gX I b0) 97 (sSz h (sPl h b0))))), (5, .int (nI (sCnt (gX I b0) 99 (sSz h (sPl h b0))))), (6, .int (nI (sSz h (sPl h b0)))), (3, .int (nI b0)), (0, .ref (ga g [0]))] → W p l e R s m args below meth c H locs cells slots Q (F0 m 210 ls [])) :
    ∀ (f k : Nat) (h' : xS) (I' : xI) (H : Heap) (locs : List Loc) (ls : Array Slot) (cells slots : Nat), 8 - k < f → k ≤ (sSz h (sPl h b0)) → cells ≤ c0 + 7 * k → slots ≤ s0 + 42 * k → LW h' I' jn → vSm h I h' I' → xG_ g (xD h') I' (xFh h') 0 H → va_S (gA g) s.heap H locs → lv_has ls 9 [(7, .int (nI k)), (1, .long (sSas h I b0 + sSum (gX I b0) k)), (4, .int (nI (sCnt (gX I b0) 97 k))), (5, .int (nI (sCnt (gX I b0) 99 k))), (6, .int (nI (sSz h (sPl h b0)))), (3, .int (nI b0)), (0, .ref (ga g [0]))] → W p l e R s m args below meth c H locs cells slots Q (F0 m 34 ls []) := by
  have hts := hE.ts args
  have hn4 := hL.n
  have h8 := (hn4.2.2.2 b0 hb0).2.2
  intro f
  induction f with
  | zero => intro k h' I' H locs ls cells slots hf; omega
  | succ f ih =>
    intro k h' I' H locs ls cells slots hf hv hc hs hL' hv' hG hS hl
    refine lv_iload hx hb dL_isSound_34 (lv_at hl 0 rfl) ?_
    refine lv_iload hx hb dL_isSound_36 (lv_at hl 4 rfl) ?_
    refine lv_icmp_ge (tgt := 210) hx hb dL_isSound_38 (by decide) (fun q => ?_) (fun q => ?_)
    · have e : k = (sSz h (sPl h b0)) := by have := (nI_leI (a := (sSz h (sPl h b0))) (b := k) (by omega) (by omega)).mp q; omega
      rw [e] at hl
      exact fin h' I' H locs ls cells slots (by omega) (by omega) hL' hv' hG hS (lv_sub hl [1, 2, 3, 4, 5, 6] rfl)
    · have e : k < (sSz h (sPl h b0)) := Decidable.of_not_not (fun z => q ((nI_leI (a := (sSz h (sPl h b0))) (b := k) (by omega) (by omega)).mpr (by omega)))
      exact i_41 hst hx hb hml hown hE hL hR hj512 hb0 e (c0 := c0) (s0 := s0) ⟨by omega, by omega⟩ (fun h' I' H locs ls cells slots hc hs hL' hv' hG hS hl => ih (k + 1) h' I' H locs ls cells slots (by omega) (by omega) (by omega) (by omega) hL' hv' hG hS hl) hL' hv' (by omega) (by omega) hG hS hl
theorem sShr_n32 : ∀ n, n < 9 → ∀ a, a < 9 → 0 < n → vf_n32 (FP.fdiv (FP.i2f (nI a)) (FP.i2f (nI n))) := by
  show ∀ n, n < 9 → ∀ a, a < 9 → 0 < n → FP.fdiv (FP.i2f (nI a)) (FP.i2f (nI n)) &&& 0x7fffffff ≤ 0x7f800000
  decide +kernel
theorem sShr_cmp : ∀ n, n < 9 → ∀ a, a < 9 → 0 < n → FP.fcmp (sShr a n) (sShr a n) = some .eq := by decide +kernel
set_option maxRecDepth 100000 in
theorem i_210 (hst : l.stackTraces = false) (hx : p.tables.exec = Jvm.exec) (hb : c.code = cL_isSound) (hml : c.maxLocals = 9) (hown : s.vm.findClass "CasebookStepsLaw" = some m.cls) (hE : xE g s s.heap) (hL : LW h I jn) (hR : 10 ≤ R.frames ∧ 220 ≤ R.locals) (hj512 : jn ≤ 512) {b0 : Nat} (hb0 : b0 < sNc h) {c0 s0 : Nat} (hRc : c0 + 65 * (b0 + 1) ≤ R.cells ∧ s0 + 390 * (b0 + 1) ≤ R.slots) (nxt : ∀ (h' : xS) (I' : xI) (H : Heap) (locs : List Loc) (ls : Array Slot) (cells slots : Nat), cells ≤ c0 + 65 * (b0 + 1) → slots ≤ s0 + 390 * (b0 + 1) → LW h' I' jn → vSm h I h' I' → xG_ g (xD h') I' (xFh h') 0 H → va_S (gA g) s.heap H locs → lv_has ls 9 [(1, .long (sSas h I (b0 + 1))), (3, .int (nI (b0 + 1))), (0, .ref (ga g [0]))] → W p l e R s m args below meth c H locs cells slots Q (F0 m 4 ls [])) {h' : xS} {I' : xI} (hL' : LW h' I' jn) (hv' : vSm h I h' I') (hc : cells ≤ c0 + 65 * b0 + 58) (hs : slots ≤ s0 + 390 * b0 + 348) (hG : xG_ g (xD h') I' (xFh h') 0 H) (hS : va_S (gA g) s.heap H locs) (hl : lv_has ls 9 [(1, .long (sSas h I b0 + sSum (gX I b0) (sSz h (sPl h b0)))), (4, .int (nI (sCnt (gX I b0) 97 (sSz h (sPl h b0))))), (5, .int (nI (sCnt (gX I b0) 99 (sSz h (sPl h b0))))), (6, .int (nI (sSz h (sPl h b0)))), (3, .int (nI b0)), (0, .ref (ga g [0]))]) : W p l e R s m args below meth c H locs cells slots Q (F0 m 210 ls []) := by
  have hts := hE.ts args
  have hn4 := hL.n
  obtain ⟨hp, h0, h8⟩ := hn4.2.2.2 b0 hb0
  have hct := sCnt_le (gX I b0) 99 (sSz h (sPl h b0))
  obtain ⟨u1, ⟨r9, u2, u3⟩, ⟨u4, u5, u6⟩, u7⟩ := hL.1.2.2.1 b0 hb0
  refine lv_aload_n hx hb dL_isSound_210 rfl (lv_at hl 5 rfl) ?_
  refine lv_iload_n hx hb dL_isSound_211 rfl (lv_at hl 4 rfl) ?_
  refine lv_iconst (v := 0) hx hb dL_isSound_212 (by decide) ?_
  refine x_rd hx hb hml hown hE hS hl.1 cyL_case0 tw712 (fun n1 => q_c0 hst g n1 hL' hv' hb0) (by decide) hR ⟨by omega, by omega⟩ hG rfl rfl (Nat.le_of_ble_eq_true rfl) dL_isSound_213 (fun H locs hG hS => ?_)
  refine lv_iload hx hb dL_isSound_216 (lv_at hl 1 rfl) ?_
  refine lv_icmp_ne (tgt := 283) hx hb dL_isSound_218 (by decide) (fun q => ?_) (fun _ => ?_)
  · exact absurd rfl q
  · skip
    refine lv_aload_n hx hb dL_isSound_221 rfl (lv_at hl 5 rfl) ?_
    refine lv_iload_n hx hb dL_isSound_222 rfl (lv_at hl 4 rfl) ?_
    refine x_rd hx hb hml hown hE hS hl.1 cyL_share tw767 (fun n1 => q_sh hst g n1 hL' hv' hb0) (by decide) hR ⟨by omega, by omega⟩ hG rfl rfl (Nat.le_of_ble_eq_true rfl) dL_isSound_223 (fun H locs hG hS => ?_)
    refine lv_iload hx hb dL_isSound_226 (lv_at hl 2 rfl) ?_
    refine lv_i2f hx hb dL_isSound_228 ?_
    refine lv_iload hx hb dL_isSound_229 (lv_at hl 3 rfl) ?_
    refine lv_i2f hx hb dL_isSound_231 ?_
    refine lv_fdiv hx hb dL_isSound_232 (sShr_n32 _ (by omega) _ (by omega) h0) ?_
    refine lv_fcmp hx hb dL_isSound_233 ?_
    rw [show FP.fcmp (sShr (sCnt (gX I b0) 99 (sSz h (sPl h b0))) (sSz h (sPl h b0))) (FP.fdiv (FP.i2f (nI (sCnt (gX I b0) 99 (sSz h (sPl h b0))))) (FP.i2f (nI (sSz h (sPl h b0))))) = some .eq from sShr_cmp _ (by omega) _ (by omega) h0]
    refine lv_if_ne (tgt := 283) hx hb dL_isSound_234 (by decide) (fun q => absurd rfl q) (fun _ => ?_)
    refine lv_aload_n hx hb dL_isSound_237 rfl (lv_at hl 5 rfl) ?_
    refine lv_iload_n hx hb dL_isSound_238 rfl (lv_at hl 4 rfl) ?_
    refine lv_iconst (v := 2) hx hb dL_isSound_239 (by decide) ?_
    refine x_rd hx hb hml hown hE hS hl.1 cyL_case0 tw712 (fun n1 => q_c2 hst g n1 hL' hv' hb0) (by decide) hR ⟨by omega, by omega⟩ hG rfl rfl (Nat.le_of_ble_eq_true rfl) dL_isSound_240 (fun H locs hG hS => ?_)
    refine lv_if_lt (tgt := 283) hx hb dL_isSound_243 (by decide) (fun q => ?_) (fun _ => ?_)
    · rw [u3] at q; exact absurd q (nI_pos (by omega))
    · skip
      refine lv_aload_n hx hb dL_isSound_246 rfl (lv_at hl 5 rfl) ?_
      refine lv_iload_n hx hb dL_isSound_247 rfl (lv_at hl 4 rfl) ?_
      refine lv_iconst (v := 2) hx hb dL_isSound_248 (by decide) ?_
      refine x_rd hx hb hml hown hE hS hl.1 cyL_case0 tw712 (fun n1 => q_c2 hst g n1 hL' hv' hb0) (by decide) hR ⟨by omega, by omega⟩ hG rfl rfl (Nat.le_of_ble_eq_true rfl) dL_isSound_249 (fun H locs hG hS => ?_)
      refine lv_bipush (v := 20) hx hb dL_isSound_252 (by decide) ?_
      refine lv_icmp_gt (tgt := 283) hx hb dL_isSound_254 (by decide) (fun q => ?_) (fun _ => ?_)
      · rw [u3] at q; exact absurd ((nI_ltI (a := 20) (b := r9) (by omega) (by omega)).mp q) (by omega)
      · skip
        refine lv_aload_n hx hb dL_isSound_257 rfl (lv_at hl 5 rfl) ?_
        refine lv_iload_n hx hb dL_isSound_258 rfl (lv_at hl 4 rfl) ?_
        refine lv_bipush (v := 6) hx hb dL_isSound_259 (by decide) ?_
        refine x_rd hx hb hml hown hE hS hl.1 cyL_case0 tw712 (fun n1 => q_c6 hst g n1 hL' hv' hb0) (by decide) hR ⟨by omega, by omega⟩ hG rfl rfl (Nat.le_of_ble_eq_true rfl) dL_isSound_261 (fun H locs hG hS => ?_)
        refine lv_aload_n hx hb dL_isSound_264 rfl (lv_at hl 5 rfl) ?_
        refine lv_iload_n hx hb dL_isSound_265 rfl (lv_at hl 4 rfl) ?_
        refine lv_iconst (v := 3) hx hb dL_isSound_266 (by decide) ?_
        refine x_rd hx hb hml hown hE hS hl.1 cyL_case0 tw712 (fun n1 => q_c3 hst g n1 hL' hv' hb0) (by decide) hR ⟨by omega, by omega⟩ hG rfl rfl (Nat.le_of_ble_eq_true rfl) dL_isSound_267 (fun H locs hG hS => ?_)
        refine lv_icmp_le (tgt := 283) hx hb dL_isSound_270 (by decide) (fun q => ?_) (fun _ => ?_)
        · rw [Int32.le_iff_toInt_le] at q; omega
        · skip
          refine lv_aload_n hx hb dL_isSound_273 rfl (lv_at hl 5 rfl) ?_
          refine lv_iload_n hx hb dL_isSound_274 rfl (lv_at hl 4 rfl) ?_
          refine lv_bipush (v := 7) hx hb dL_isSound_275 (by decide) ?_
          refine x_r7 hst hx hb hml hown hE hS hl.1 tw712 hL' hv' hb0 hR ⟨by omega, by omega⟩ hG rfl (Nat.le_of_ble_eq_true rfl) dL_isSound_277 (fun v7 hv7 H locs hG hS => ?_)
          refine lv_if_ne (tgt := 285) hx hb dL_isSound_280 (by decide) (fun _ => ?_) (fun q => ?_)
          · skip
            refine lv_iinc (v := (nI (b0 + 1))) (lv' := [(3, .int (nI (b0 + 1))), (1, .long (sSas h I b0 + sSum (gX I b0) (sSz h (sPl h b0)))), (4, .int (nI (sCnt (gX I b0) 97 (sSz h (sPl h b0))))), (5, .int (nI (sCnt (gX I b0) 99 (sSz h (sPl h b0))))), (6, .int (nI (sSz h (sPl h b0)))), (0, .ref (ga g [0]))]) hx hb dL_isSound_285 hl (k := 4) rfl (nI_1 _) (by decide) rfl (fun ls hl => ?_)
            refine lv_goto (tgt := 4) hx hb dL_isSound_288 (by decide) ?_
            exact nxt h' I' H locs ls _ _ (by omega) (by omega) hL' hv' hG hS (lv_sub hl [1, 0, 5] rfl)
          · exact absurd q hv7
set_option maxRecDepth 100000 in
theorem i_C (hst : l.stackTraces = false) (hx : p.tables.exec = Jvm.exec) (hb : c.code = cL_isSound) (hml : c.maxLocals = 9) (hown : s.vm.findClass "CasebookStepsLaw" = some m.cls) (hE : xE g s s.heap) (hL : LW h I jn) (hR : 10 ≤ R.frames ∧ 220 ≤ R.locals) (hj512 : jn ≤ 512) (c0 s0 : Nat) (hRc : c0 + 260 ≤ R.cells ∧ s0 + 1560 ≤ R.slots) (fin : ∀ (h' : xS) (I' : xI) (H : Heap) (locs : List Loc) (ls : Array Slot) (cells slots : Nat), cells ≤ c0 + 260 → slots ≤ s0 + 1560 → LW h' I' jn → vSm h I h' I' → xG_ g (xD h') I' (xFh h') 0 H → va_S (gA g) s.heap H locs → lv_has ls 9 [(1, .long (sSas h I (sNc h))), (0, .ref (ga g [0]))] → W p l e R s m args below meth c H locs cells slots Q (F0 m 291 ls [])) :
    ∀ (f b0 : Nat) (h' : xS) (I' : xI) (H : Heap) (locs : List Loc) (ls : Array Slot) (cells slots : Nat), 4 - b0 < f → b0 ≤ sNc h → cells ≤ c0 + 65 * b0 → slots ≤ s0 + 390 * b0 → LW h' I' jn → vSm h I h' I' → xG_ g (xD h') I' (xFh h') 0 H → va_S (gA g) s.heap H locs → lv_has ls 9 [(1, .long (sSas h I b0)), (3, .int (nI b0)), (0, .ref (ga g [0]))] → W p l e R s m args below meth c H locs cells slots Q (F0 m 4 ls []) := by
  have hts := hE.ts args
  have hn4 := hL.n
  have hK := hE.1
  intro f
  induction f with
  | zero => intro b0 h' I' H locs ls cells slots hf; omega
  | succ f ih =>
    intro b0 h' I' H locs ls cells slots hf hv hc hs hL' hv' hG hS hl
    have hW := hL'.1.1.1
    have hC := hL'.1.2.1.1
    refine lv_iload_n hx hb dL_isSound_4 rfl (lv_at hl 1 rfl) ?_
    refine lv_aload_n hx hb dL_isSound_5 rfl (lv_at hl 2 rfl) ?_
    obtain ⟨n1, hn1, hH⟩ := hG
    refine x_V1 (own := "CasebookStepsLaw") hx hb hml hown hE hS hl.1 cyX6_cases tw150 (c_X6_cases l g h' I' n1 hW hC) ⟨by first | omega | exact Nat.le_of_ble_eq_true rfl, by first | omega | exact Nat.le_of_ble_eq_true rfl⟩ ⟨by first | omega | exact Nat.le_of_ble_eq_true rfl, by first | omega | exact Nat.le_of_ble_eq_true rfl⟩ (x_recv hK hH (id := [0]) trivial (ci := 6) rfl (by decide) rfl) hH rfl rfl (Nat.le_of_ble_eq_true rfl) dL_isSound_6 (fun H locs hH hS => ?_)
    have hG : xG_ g (xD h') I' (xFh h') 0 H := ⟨n1, hn1, hH⟩
    rw [hv'.2.1]
    refine lv_icmp_ge (tgt := 291) hx hb dL_isSound_9 (by decide) (fun q => ?_) (fun q => ?_)
    · have e : b0 = sNc h := by have := (nI_leI (a := sNc h) (b := b0) (by omega) (by omega)).mp q; omega
      subst e
      exact fin h' I' H locs ls _ _ (by omega) (by omega) hL' hv' hG hS (lv_sub hl [0, 2] rfl)
    · have hb0 : b0 < sNc h := Decidable.of_not_not (fun z => q ((nI_leI (a := sNc h) (b := b0) (by omega) (by omega)).mpr (by omega)))
      refine lv_iconst (v := 0) hx hb dL_isSound_12 (by decide) ?_
      refine lv_istore (lv' := [(4, .int 0), (1, .long (sSas h I b0)), (3, .int (nI b0)), (0, .ref (ga g [0]))]) hx hb dL_isSound_13 hl (by decide) rfl (fun ls hl => ?_)
      refine lv_iconst (v := 0) hx hb dL_isSound_15 (by decide) ?_
      refine lv_istore (lv' := [(5, .int 0), (4, .int 0), (1, .long (sSas h I b0)), (3, .int (nI b0)), (0, .ref (ga g [0]))]) hx hb dL_isSound_16 hl (by decide) rfl (fun ls hl => ?_)
      refine lv_aload_n hx hb dL_isSound_18 rfl (lv_at hl 4 rfl) ?_
      refine lv_aload_n hx hb dL_isSound_19 rfl (lv_at hl 4 rfl) ?_
      refine lv_iload_n hx hb dL_isSound_20 rfl (lv_at hl 3 rfl) ?_
      refine lv_iconst (v := 4) hx hb dL_isSound_21 (by decide) ?_
      refine x_rd hx hb hml hown hE hS hl.1 cyL_case0 tw712 (fun n1 => q_c4 hst g n1 hL' hv' hb0) (by decide) hR ⟨by omega, by omega⟩ hG rfl rfl (Nat.le_of_ble_eq_true rfl) dL_isSound_22 (fun H locs hG hS => ?_)
      refine lv_iconst (v := 0) hx hb dL_isSound_25 (by decide) ?_
      refine x_rd hx hb hml hown hE hS hl.1 cyL_of tw464 (fun n1 => q_of hst g n1 hL' hv' hb0) (by decide) hR ⟨by omega, by omega⟩ hG rfl rfl (Nat.le_of_ble_eq_true rfl) dL_isSound_26 (fun H locs hG hS => ?_)
      refine lv_istore (lv' := [(6, .int (nI (sSz h (sPl h b0)))), (5, .int 0), (4, .int 0), (1, .long (sSas h I b0)), (3, .int (nI b0)), (0, .ref (ga g [0]))]) hx hb dL_isSound_29 hl (by decide) rfl (fun ls hl => ?_)
      refine lv_iconst (v := 0) hx hb dL_isSound_31 (by decide) ?_
      refine lv_istore (lv' := [(7, .int 0), (6, .int (nI (sSz h (sPl h b0)))), (5, .int 0), (4, .int 0), (1, .long (sSas h I b0)), (3, .int (nI b0)), (0, .ref (ga g [0]))]) hx hb dL_isSound_32 hl (by decide) rfl (fun ls hl => ?_)
      have hl2 := (lv_sub hl [0, 4, 3, 2, 1, 5, 6] rfl : lv_has ls 9 [(7, .int 0), (1, .long (sSas h I b0)), (4, .int 0), (5, .int 0), (6, .int (nI (sSz h (sPl h b0)))), (3, .int (nI b0)), (0, .ref (ga g [0]))])
      rw [show sSas h I b0 = sSas h I b0 + sSum (gX I b0) 0 from (Int64.add_zero _).symm] at hl2
      refine i_K hst hx hb hml hown hE hL hR hj512 hb0 (c0 + 65 * b0 + 2) (s0 + 390 * b0 + 12) ⟨by omega, by omega⟩ (fun h' I' H locs ls cells slots hc hs hL' hv' hG hS hl => ?_) 9 0 h' I' H locs ls _ _ (by omega) (by omega) (by omega) (by omega) hL' hv' hG hS hl2
      exact i_210 hst hx hb hml hown hE hL hR hj512 hb0 (c0 := c0) (s0 := s0) ⟨by omega, by omega⟩ (fun h' I' H locs ls cells slots hc hs hL' hv' hG hS hl => ih (b0 + 1) h' I' H locs ls cells slots (by omega) (by omega) (by omega) (by omega) hL' hv' hG hS hl) hL' hv' (by omega) (by omega) hG hS hl
end XS
theorem sSas_sm {h h' : xS} {I I' : xI} (hv : vSm h I h' I') (h4 : sNc h ≤ 4) : ∀ i, i ≤ sNc h → sSas h' I' i = sSas h I i
  | 0, _ => rfl
  | i + 1, hi => by
    obtain ⟨e1, e2, e3, e4⟩ := hv.x (c := i) (by omega)
    show sSas h' I' i + sSum (gX I' i) (sSz h' (sPl h' i)) = sSas h I i + sSum (gX I i) (sSz h (sPl h i))
    rw [sSas_sm hv h4 i (by omega), e1, e3]
set_option maxRecDepth 100000 in
theorem c_isSound {l : Launch} (hst : l.stackTraces = false) (g : xG) {h : xS} {I : xI} (n : Nat) {jn : Nat} (hL : LW h I jn) (hj512 : jn ≤ 512) : xM l yL_isSound (xws yL_isSound cL_isSound 9 (some FieldType.boolean)) 10 220 g [.ref (ga g [0])] (xR g (xD h) I (xFh h) n) (some (.int 1)) (fun H => ∃ h' I', LW h' I' jn ∧ vSm h I h' I' ∧ xG_ g (xD h') I' (xFh h') 0 H) 260 1560 := by
  refine xM.of (by decide) (Nat.le_of_ble_eq_true rfl) ?_
  intro P_ e_ s m_ bl_ mt_ cd_ ls hx hb hr hown hlocks hml hnm hE hK hts hH hS hl
  have hl : lv_has ls 9 [(0, .ref (ga g [0]))] := hl
  have hn4 := hL.n
  refine lv_lconst (v := 0) hx hb dL_isSound_0 (by decide) ?_
  refine lv_lstore_n (lv' := [(1, .long 0), (0, .ref (ga g [0]))]) hx hb dL_isSound_1 rfl hl (by decide) rfl (fun ls hl => ?_)
  refine lv_iconst (v := 0) hx hb dL_isSound_2 (by decide) ?_
  refine lv_istore_n (lv' := [(3, .int 0), (1, .long 0), (0, .ref (ga g [0]))]) hx hb dL_isSound_3 rfl hl (by decide) rfl (fun ls hl => ?_)
  refine i_C hst hx hb hml hown hE hL ⟨Nat.le_refl _, Nat.le_refl _⟩ hj512 0 0 ⟨Nat.le_refl _, Nat.le_refl _⟩ (fun h' I' H locs ls cells slots hc hs hL' hv' hG hS hl => ?_) 9 0 h I _ _ ls _ _ (by omega) (by omega) (by omega) (by omega) hL (vSm.rf h I) ⟨n, Nat.zero_le _, hH⟩ hS (lv_sub hl [1, 0, 2] rfl)
  have hW := hL'.1.1.1
  have hC := hL'.1.2.1.1
  refine lv_lload_n hx hb dL_isSound_291 rfl (lv_at hl 0 rfl) ?_
  refine lv_aload_n hx hb dL_isSound_292 rfl (lv_at hl 1 rfl) ?_
  obtain ⟨n1, hn1, hH⟩ := hG
  refine x_V1 (own := "CasebookStepsLaw") hx hb hml hown hE hS hl.1 cyX6_daysWorked tw782 (c_X6_daysWorked l g h' I' n1 hW hC) ⟨by first | omega | exact Nat.le_of_ble_eq_true rfl, by first | omega | exact Nat.le_of_ble_eq_true rfl⟩ ⟨by first | omega | exact Nat.le_of_ble_eq_true rfl, by first | omega | exact Nat.le_of_ble_eq_true rfl⟩ (x_recv hK hH (id := [0]) trivial (ci := 6) rfl (by decide) rfl) hH rfl rfl (Nat.le_of_ble_eq_true rfl) dL_isSound_293 (fun H locs hH hS => ?_)
  have hG : xG_ g (xD h') I' (xFh h') 0 H := ⟨n1, hn1, hH⟩
  rw [show sSas h' I' (sNc h') = sSas h I (sNc h) by rw [hv'.2.1]; exact sSas_sm hv' hn4.2.1 _ (Nat.le_refl _)]
  refine lv_lcmpE hx hb dL_isSound_296 ?_
  refine lv_if_ne (tgt := 304) hx hb dL_isSound_297 (by decide) (fun q => absurd rfl q) (fun _ => ?_)
  refine lv_iconst (v := 1) hx hb dL_isSound_300 (by decide) ?_
  refine lv_goto (tgt := 305) hx hb dL_isSound_301 (by decide) ?_
  refine W.widen (k := 260) (n := 1560) (by omega) (by omega) ?_
  exact x_zret hx hb hr hlocks hS dL_isSound_305 rfl rfl ⟨h', I', hL', hv', hG⟩
