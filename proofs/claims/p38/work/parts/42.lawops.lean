/-! THE LAW'S LOOP: its tail, its branches -/
section XL
variable {p : Program} {l : Launch} {e : Env} {R : Room} {s : State} {m : MethodId} {args : Array Value} {below : List Frame} {meth : Method} {c : Code} {H : Heap} {locs : List Loc} {cells slots : Nat} {Q : State → Prop}
variable {ls : Array Slot} {g0 : xG} {a : List Nat → Nat} {h : xS} {I : xI} {n jn : Nat}
theorem xG_.ow0 {g : xG} {h : xS} {I : xI} {n : Nat} {H : Heap} (hH : xR g (xD h) I (xFh h) n H) : xR g (xD (hOw h 0)) I (xFh (hOw h 0)) n H :=
  hH.congr (g' := g) (fun i hi => xD_ow hi (by rintro rfl; exact absurd hi (show ¬ 1 ≤ 0 by omega)) (by rintro rfl; exact absurd hi (show ¬ 2 ≤ 0 by omega))) (fun _ _ => rfl) (fun _ _ => rfl)
set_option maxRecDepth 100000 in
theorem t_777 (hst : l.stackTraces = false) (hx : p.tables.exec = Jvm.exec) (hb : c.code = cL_law) (hml : c.maxLocals = 17) (hown : s.vm.findClass "CasebookStepsLaw" = some m.cls) (hE : ∀ a, xE (setG g0 a) s s.heap) (hR : 12 ≤ R.frames ∧ 300 ≤ R.locals) {k T C D J0 : Nat} (hk : k < 58) (nxt : ∀ (a' : List Nat → Nat) (h' : xS) (J : xI) (n' jn' : Nat) (H : Heap) (locs : List Loc) (ls : Array Slot) (cells slots : Nat), cells ≤ C → slots ≤ D → jn' ≤ J0 → LW h' J jn' → sOw h' = 0 → xR (setG g0 a') (xD h') J (xFh h') n' H → va_S (gA g0) s.heap H locs → lv_has ls 17 [(3, .int (nI (k + 1))), (2, .int (nI T)), (1, .ref (a' [0])), (0, .ref (gSb g0))] → W p l e R s m args below meth c H locs cells slots Q (F0 m 21 ls [])) (hL : LW h I jn) (hj : jn ≤ J0) (hc : cells ≤ C) (hs : slots ≤ D) (hG : xG_ (setG g0 a) (xD h) I (xFh h) 0 H) (hS : va_S (gA g0) s.heap H locs) (hl : lv_has ls 17 [(3, .int (nI k)), (2, .int (nI T)), (1, .ref (a [0])), (0, .ref (gSb g0))]) : W p l e R s m args below meth c H locs cells slots Q (F0 m 777 ls []) := by
  refine lv_iinc (v := nI (k + 1)) (lv' := [(3, .int (nI (k + 1))), (2, .int (nI T)), (1, .ref (a [0])), (0, .ref (gSb g0))]) hx hb dL_law_777 hl (k := 0) rfl (nI_1 k) (by decide) rfl (fun ls hl => ?_)
  refine lv_goto (tgt := 21) hx hb dL_law_780 (by decide) ?_
  obtain ⟨n', -, hH⟩ := hG
  exact nxt a (hOw h 0) I n' jn H locs ls _ _ hc hs hj (hL.ow 0) rfl (xG_.ow0 hH) hS (lv_sub hl [0, 1, 2, 3] rfl)
set_option maxRecDepth 100000 in
theorem t_759 (hst : l.stackTraces = false) (hx : p.tables.exec = Jvm.exec) (hb : c.code = cL_law) (hml : c.maxLocals = 17) (hown : s.vm.findClass "CasebookStepsLaw" = some m.cls) (hE : ∀ a, xE (setG g0 a) s s.heap) (hR : 12 ≤ R.frames ∧ 300 ≤ R.locals) {k T C D J0 : Nat} (hk : k < 58) (nxt : ∀ (a' : List Nat → Nat) (h' : xS) (J : xI) (n' jn' : Nat) (H : Heap) (locs : List Loc) (ls : Array Slot) (cells slots : Nat), cells ≤ C → slots ≤ D → jn' ≤ J0 → LW h' J jn' → sOw h' = 0 → xR (setG g0 a') (xD h') J (xFh h') n' H → va_S (gA g0) s.heap H locs → lv_has ls 17 [(3, .int (nI (k + 1))), (2, .int (nI T)), (1, .ref (a' [0])), (0, .ref (gSb g0))] → W p l e R s m args below meth c H locs cells slots Q (F0 m 21 ls [])) (hRc : C ≤ R.cells ∧ D ≤ R.slots) (hJ : J0 ≤ 512) (hL : LW h I jn) (hj : jn ≤ J0) (hc : cells + 260 ≤ C) (hs : slots + 1560 ≤ D) (hG : xG_ (setG g0 a) (xD h) I (xFh h) 0 H) (hS : va_S (gA g0) s.heap H locs) (hl : lv_has ls 17 [(3, .int (nI k)), (2, .int (nI T)), (1, .ref (a [0])), (0, .ref (gSb g0))]) : W p l e R s m args below meth c H locs cells slots Q (F0 m 759 ls []) := by
  have hts := (hE a).ts args
  refine lv_iload_n hx hb dL_law_759 rfl (lv_at hl 0 rfl) ?_
  refine lv_bipush (v := 8) hx hb dL_law_760 (by decide) ?_
  refine lv_irem hx hb dL_law_762 (by decide) ?_
  refine lv_bipush (v := 7) hx hb dL_law_763 (by decide) ?_
  refine lv_icmp_ne (tgt := 777) hx hb dL_law_765 (by decide) (fun _ => ?_) (fun _ => ?_)
  · exact t_777 hst hx hb hml hown hE hR hk nxt hL hj (by omega) (by omega) hG hS hl
  · skip
    refine lv_aload_n hx hb dL_law_768 rfl (lv_at hl 2 rfl) ?_
    obtain ⟨n', -, hH⟩ := hG
    refine x_S1 (own := "CasebookStepsLaw") (g := setG g0 a) hx hb hml hown (hE a) hS hl.1 cyL_isSound tw792 (c_isSound hst (setG g0 a) n' hL (by omega)) ⟨by omega, by omega⟩ ⟨by omega, by omega⟩ hH rfl rfl (Nat.le_of_ble_eq_true rfl) dL_law_769 (fun H locs hQ hS => ?_)
    obtain ⟨h', I', hL', hv', hG⟩ := hQ
    refine lv_if_ne (tgt := 777) hx hb dL_law_772 (by decide) (fun _ => ?_) (fun q_ => absurd q_ (by decide))
    exact t_777 hst hx hb hml hown hE hR hk nxt hL' hj (by omega) (by omega) hG hS hl
set_option maxRecDepth 100000 in
theorem t_736r (hst : l.stackTraces = false) (hx : p.tables.exec = Jvm.exec) (hb : c.code = cL_law) (hml : c.maxLocals = 17) (hown : s.vm.findClass "CasebookStepsLaw" = some m.cls) (hE : ∀ a, xE (setG g0 a) s s.heap) (hR : 12 ≤ R.frames ∧ 300 ≤ R.locals) {k T C D J0 : Nat} (hk : k < 58) (nxt : ∀ (a' : List Nat → Nat) (h' : xS) (J : xI) (n' jn' : Nat) (H : Heap) (locs : List Loc) (ls : Array Slot) (cells slots : Nat), cells ≤ C → slots ≤ D → jn' ≤ J0 → LW h' J jn' → sOw h' = 0 → xR (setG g0 a') (xD h') J (xFh h') n' H → va_S (gA g0) s.heap H locs → lv_has ls 17 [(3, .int (nI (k + 1))), (2, .int (nI T)), (1, .ref (a' [0])), (0, .ref (gSb g0))] → W p l e R s m args below meth c H locs cells slots Q (F0 m 21 ls [])) (hRc : C ≤ R.cells ∧ D ≤ R.slots) (hJ : J0 ≤ 512) {v u : Int32} {B : Int64} (hv : v < -1000) (hu : u = 0 ∨ B = fSum h I) (hL : LW h I jn) (hj : jn ≤ J0) (hc : cells + 406 ≤ C) (hs : slots + 2436 ≤ D) (hG : xG_ (setG g0 a) (xD h) I (xFh h) 0 H) (hS : va_S (gA g0) s.heap H locs) (hl : lv_has ls 17 [(13, .int v), (10, .long B), (9, .int u), (3, .int (nI k)), (2, .int (nI T)), (1, .ref (a [0])), (0, .ref (gSb g0))]) : W p l e R s m args below meth c H locs cells slots Q (F0 m 736 ls []) := by
  have hts := (hE a).ts args
  refine lv_iload hx hb dL_law_736 (lv_at hl 0 rfl) ?_
  refine lv_sipush (v := (-1000)) hx hb dL_law_738 (by decide) ?_
  refine lv_icmp_ge (tgt := 759) hx hb dL_law_741 (by decide) (fun q => ?_) (fun q => ?_)
  · exact absurd q (Int32.not_le.mpr hv)
  · skip
    refine lv_iload hx hb dL_law_744 (lv_at hl 2 rfl) ?_
    refine lv_if_eq (tgt := 759) hx hb dL_law_746 (by decide) (fun _ => ?_) (fun q2 => ?_)
    · exact t_759 hst hx hb hml hown hE hR hk nxt hRc hJ hL hj (by omega) (by omega) hG hS (lv_sub hl [3, 4, 5, 6] rfl)
    · have hB := hu.resolve_left q2
      refine lv_aload_n hx hb dL_law_749 rfl (lv_at hl 5 rfl) ?_
      obtain ⟨n', -, hH⟩ := hG
      refine x_S1 (own := "CasebookStepsLaw") (g := setG g0 a) hx hb hml hown (hE a) hS hl.1 cyL_sum tw778 (c_sum hst (setG g0 a) n' hL) ⟨by omega, by omega⟩ ⟨by omega, by omega⟩ hH rfl rfl (Nat.le_of_ble_eq_true rfl) dL_law_750 (fun H locs hQ hS => ?_)
      obtain ⟨n2, -, hH⟩ := hQ
      have hG : xG_ (setG g0 a) (xD h) I (xFh h) 0 H := ⟨n2, Nat.zero_le _, hH⟩
      refine lv_lload hx hb dL_law_753 (lv_at hl 1 rfl) ?_
      rw [hB]
      refine lv_lcmpE hx hb dL_law_755 ?_
      refine lv_if_ne (tgt := 775) hx hb dL_law_756 (by decide) (fun q_ => absurd (by decide) q_) (fun _ => ?_)
      exact t_759 hst hx hb hml hown hE hR hk nxt hRc hJ hL hj (by omega) (by omega) hG hS (lv_sub hl [3, 4, 5, 6] rfl)
set_option maxRecDepth 100000 in
theorem t_736a (hst : l.stackTraces = false) (hx : p.tables.exec = Jvm.exec) (hb : c.code = cL_law) (hml : c.maxLocals = 17) (hown : s.vm.findClass "CasebookStepsLaw" = some m.cls) (hE : ∀ a, xE (setG g0 a) s s.heap) (hR : 12 ≤ R.frames ∧ 300 ≤ R.locals) {k T C D J0 : Nat} (hk : k < 58) (nxt : ∀ (a' : List Nat → Nat) (h' : xS) (J : xI) (n' jn' : Nat) (H : Heap) (locs : List Loc) (ls : Array Slot) (cells slots : Nat), cells ≤ C → slots ≤ D → jn' ≤ J0 → LW h' J jn' → sOw h' = 0 → xR (setG g0 a') (xD h') J (xFh h') n' H → va_S (gA g0) s.heap H locs → lv_has ls 17 [(3, .int (nI (k + 1))), (2, .int (nI T)), (1, .ref (a' [0])), (0, .ref (gSb g0))] → W p l e R s m args below meth c H locs cells slots Q (F0 m 21 ls [])) (hRc : C ≤ R.cells ∧ D ≤ R.slots) (hJ : J0 ≤ 512) {v u : Int32} {B : Int64} (hv : -1000 < v) (hL : LW h I jn) (hj : jn ≤ J0) (hc : cells + 406 ≤ C) (hs : slots + 2436 ≤ D) (hG : xG_ (setG g0 a) (xD h) I (xFh h) 0 H) (hS : va_S (gA g0) s.heap H locs) (hl : lv_has ls 17 [(13, .int v), (10, .long B), (9, .int u), (3, .int (nI k)), (2, .int (nI T)), (1, .ref (a [0])), (0, .ref (gSb g0))]) : W p l e R s m args below meth c H locs cells slots Q (F0 m 736 ls []) := by
  have hts := (hE a).ts args
  refine lv_iload hx hb dL_law_736 (lv_at hl 0 rfl) ?_
  refine lv_sipush (v := (-1000)) hx hb dL_law_738 (by decide) ?_
  refine lv_icmp_ge (tgt := 759) hx hb dL_law_741 (by decide) (fun q => ?_) (fun q => ?_)
  · exact t_759 hst hx hb hml hown hE hR hk nxt hRc hJ hL hj (by omega) (by omega) hG hS (lv_sub hl [3, 4, 5, 6] rfl)
  · exact absurd (Int32.le_of_lt hv) q
set_option maxHeartbeats 1000000 in
set_option maxRecDepth 100000 in
theorem b_plan (hst : l.stackTraces = false) (hx : p.tables.exec = Jvm.exec) (hb : c.code = cL_law) (hml : c.maxLocals = 17) (hown : s.vm.findClass "CasebookStepsLaw" = some m.cls) (hE : ∀ a, xE (setG g0 a) s s.heap) (hR : 12 ≤ R.frames ∧ 300 ≤ R.locals) {k T C D J0 : Nat} (hk : k < 58) (nxt : ∀ (a' : List Nat → Nat) (h' : xS) (J : xI) (n' jn' : Nat) (H : Heap) (locs : List Loc) (ls : Array Slot) (cells slots : Nat), cells ≤ C → slots ≤ D → jn' ≤ J0 → LW h' J jn' → sOw h' = 0 → xR (setG g0 a') (xD h') J (xFh h') n' H → va_S (gA g0) s.heap H locs → lv_has ls 17 [(3, .int (nI (k + 1))), (2, .int (nI T)), (1, .ref (a' [0])), (0, .ref (gSb g0))] → W p l e R s m args below meth c H locs cells slots Q (F0 m 21 ls [])) (hRc : C ≤ R.cells ∧ D ≤ R.slots) (hJ : J0 ≤ 512) {A w c0 P : Nat} {u : Int32} {B : Int64} (hL : LW h I jn) (hj : jn + 1 ≤ J0) (ho : sOw h = 1) (hH : xR (setG g0 a) (xD h) I (xFh h) n H) {h0 : xS} {I0 : xI} (hL0 : LW h0 I0 jn) (hdr : ∀ (n : Nat) (H : Heap), xG_ (setG g0 a) (xD h) I (xFh h) n H → xG_ (setG g0 a) (xD h0) I0 (xFh h0) 0 H) (hu : u = 0 ∨ B = fSum h0 I0) (hw : w < 2 ^ 30) (hP : 0 < P ∧ P ≤ 3) (hc0 : c0 < 4 ∧ (c0 < sNc h ∨ sNc h = 0)) (hc : cells + 460 ≤ C) (hs : slots + 2800 ≤ D) (hS : va_S (gA g0) s.heap H locs) (hl : lv_has ls 17 [(13, .int 0), (12, .ref (a [40])), (10, .long B), (9, .int u), (8, .int (nI c0)), (6, .int (nI P)), (5, .int (nI w)), (4, .int (nI A)), (3, .int (nI k)), (2, .int (nI T)), (1, .ref (a [0])), (0, .ref (gSb g0))]) : W p l e R s m args below meth c H locs cells slots Q (F0 m 186 ls []) := by
  have hts := (hE a).ts args
  have hn4 := hL.n
  have hd40 : xD h [40] := (show 1 ≤ sOw h by omega)
  refine lv_aload_n hx hb dL_law_186 rfl (lv_at hl 10 rfl) ?_
  refine t_op hx hb hml hown hE hS hl.1 (o_plan hst hL) cyL_plan tw160 rfl (by decide) hR ⟨by omega, by omega⟩ hH rfl dL_law_187 (fun v H locs hv hG hS => ?_) (fun a' h1 J n1 jn' v H locs mc ms ha hmc hms hjn hv hL' ho' hRr hH hS => ?_)
  · skip
    refine lv_istore (lv' := [(13, .int v), (12, .ref (a [40])), (10, .long B), (9, .int u), (8, .int (nI c0)), (6, .int (nI P)), (5, .int (nI w)), (4, .int (nI A)), (3, .int (nI k)), (2, .int (nI T)), (1, .ref (a [0])), (0, .ref (gSb g0))]) hx hb dL_law_190 hl (by decide) rfl (fun ls hl => ?_)
    refine lv_goto (tgt := 736) hx hb dL_law_192 (by decide) ?_
    exact t_736r hst hx hb hml hown hE hR hk nxt hRc hJ hv hu hL0 (by omega) (by omega) (by omega) (hdr _ _ hG) hS (lv_sub hl [0, 2, 3, 8, 9, 10, 11] rfl)
  · rw [show a [0] = a' [0] from (ha [0] trivial).symm] at hl
    have hG : xG_ (setG g0 a') (xD h1) J (xFh h1) 0 H := ⟨n1, Nat.zero_le _, hH⟩
    refine lv_istore (lv' := [(13, .int v), (12, .ref (a [40])), (10, .long B), (9, .int u), (8, .int (nI c0)), (6, .int (nI P)), (5, .int (nI w)), (4, .int (nI A)), (3, .int (nI k)), (2, .int (nI T)), (1, .ref (a' [0])), (0, .ref (gSb g0))]) hx hb dL_law_190 hl (by decide) rfl (fun ls hl => ?_)
    refine lv_goto (tgt := 736) hx hb dL_law_192 (by decide) ?_
    exact t_736a hst hx hb hml hown hE hR hk nxt hRc hJ hv hL' (by omega) (by omega) (by omega) hG hS (lv_sub hl [0, 2, 3, 8, 9, 10, 11] rfl)
set_option maxHeartbeats 1000000 in
set_option maxRecDepth 100000 in
theorem b_step (hst : l.stackTraces = false) (hx : p.tables.exec = Jvm.exec) (hb : c.code = cL_law) (hml : c.maxLocals = 17) (hown : s.vm.findClass "CasebookStepsLaw" = some m.cls) (hE : ∀ a, xE (setG g0 a) s s.heap) (hR : 12 ≤ R.frames ∧ 300 ≤ R.locals) {k T C D J0 : Nat} (hk : k < 58) (nxt : ∀ (a' : List Nat → Nat) (h' : xS) (J : xI) (n' jn' : Nat) (H : Heap) (locs : List Loc) (ls : Array Slot) (cells slots : Nat), cells ≤ C → slots ≤ D → jn' ≤ J0 → LW h' J jn' → sOw h' = 0 → xR (setG g0 a') (xD h') J (xFh h') n' H → va_S (gA g0) s.heap H locs → lv_has ls 17 [(3, .int (nI (k + 1))), (2, .int (nI T)), (1, .ref (a' [0])), (0, .ref (gSb g0))] → W p l e R s m args below meth c H locs cells slots Q (F0 m 21 ls [])) (hRc : C ≤ R.cells ∧ D ≤ R.slots) (hJ : J0 ≤ 512) {A w c0 P : Nat} {u : Int32} {B : Int64} (hL : LW h I jn) (hj : jn + 1 ≤ J0) (ho : sOw h = 1) (hH : xR (setG g0 a) (xD h) I (xFh h) n H) {h0 : xS} {I0 : xI} (hL0 : LW h0 I0 jn) (hdr : ∀ (n : Nat) (H : Heap), xG_ (setG g0 a) (xD h) I (xFh h) n H → xG_ (setG g0 a) (xD h0) I0 (xFh h0) 0 H) (hu : u = 0 ∨ B = fSum h0 I0) (hw : w < 2 ^ 30) (hP : 0 < P ∧ P ≤ 3) (hc0 : c0 < 4 ∧ (c0 < sNc h ∨ sNc h = 0)) (hc : cells + 460 ≤ C) (hs : slots + 2800 ≤ D) (hS : va_S (gA g0) s.heap H locs) (hl : lv_has ls 17 [(13, .int 0), (12, .ref (a [40])), (10, .long B), (9, .int u), (8, .int (nI c0)), (6, .int (nI P)), (5, .int (nI w)), (4, .int (nI A)), (3, .int (nI k)), (2, .int (nI T)), (1, .ref (a [0])), (0, .ref (gSb g0))]) : W p l e R s m args below meth c H locs cells slots Q (F0 m 201 ls []) := by
  have hts := (hE a).ts args
  have hn4 := hL.n
  have hd40 : xD h [40] := (show 1 ≤ sOw h by omega)
  refine lv_aload_n hx hb dL_law_201 rfl (lv_at hl 10 rfl) ?_
  refine lv_iload hx hb dL_law_202 (lv_at hl 6 rfl) ?_
  refine lv_iload hx hb dL_law_204 (lv_at hl 5 rfl) ?_
  refine lv_irem hx hb dL_law_206 (nd_ne (by omega) (by omega)) ?_
  rw [show ((nI w) - (nI w) / (nI P) * (nI P)) = (nI (w % P)) from nd_rem (a := w) (b := P) (by omega) (by omega) (by omega)]
  refine va_ldcS (own := "CasebookStepsLaw") hx hb hown (hE a).e2.2.2.2.1.2 dL_law_207 ?_
  refine lv_iload hx hb dL_law_209 (lv_at hl 6 rfl) ?_
  refine lv_iconst (v := 3) hx hb dL_law_211 (by decide) ?_
  refine lv_idiv hx hb dL_law_212 (by decide) ?_
  rw [show ((nI w) / 3) = (nI (w / 3)) from nd_div (a := w) (b := 3) (by omega) (by omega) (by omega)]
  refine lv_iconst (v := 4) hx hb dL_law_213 (by decide) ?_
  refine lv_irem hx hb dL_law_214 (by decide) ?_
  rw [show ((nI (w / 3)) - (nI (w / 3)) / 4 * 4) = (nI (((w / 3)) % 4)) from nd_rem (a := (w / 3)) (b := 4) (by omega) (by omega) (by omega)]
  refine x_V1 (own := "CasebookStepsLaw") (g := setG g0 a) hx hb hml hown (hE a) hS hl.1 cyJ0_charAt_5068e tw798 (c_ch1 l (setG g0 a) (xD h) I (xFh h) n ((((w / 3)) % 4)) (by omega)) ⟨by omega, by omega⟩ ⟨by omega, by omega⟩ (vk_recv (kS1 (setG g0 a) s s.heap (hE a)) (i := 0) (by omega) hS) hH rfl rfl (Nat.le_of_ble_eq_true rfl) dL_law_215 (fun H locs hH hS => ?_)
  refine lv_iload_n hx hb dL_law_218 rfl (lv_at hl 8 rfl) ?_
  refine lv_iconst (v := 3) hx hb dL_law_219 (by decide) ?_
  refine lv_icmp_ge (tgt := 227) hx hb dL_law_220 (by decide) (fun _ => ?_) (fun _ => ?_)
  · skip
    refine lv_iload hx hb dL_law_227 (lv_at hl 6 rfl) ?_
    refine lv_bipush (v := 12) hx hb dL_law_229 (by decide) ?_
    refine lv_idiv hx hb dL_law_231 (by decide) ?_
    rw [show ((nI w) / 12) = (nI (w / 12)) from nd_div (a := w) (b := 12) (by omega) (by omega) (by omega)]
    refine lv_iconst (v := 4) hx hb dL_law_232 (by decide) ?_
    refine lv_irem hx hb dL_law_233 (by decide) ?_
    rw [show ((nI (w / 12)) - (nI (w / 12)) / 4 * 4) = (nI (((w / 12)) % 4)) from nd_rem (a := (w / 12)) (b := 4) (by omega) (by omega) (by omega)]
    refine lv_iconst (v := 1) hx hb dL_law_234 (by decide) ?_
    refine lv_isub hx hb dL_law_235 ?_
    refine t_op hx hb hml hown hE hS hl.1 (o_step hst hL (nI (w % P)) (st1.getD ((((w / 3)) % 4)) 0) ((nI (((w / 12)) % 4)) - 1)) cyL_step tw238 rfl (by decide) hR ⟨by omega, by omega⟩ hH rfl dL_law_236 (fun v H locs hv hG hS => ?_) (fun a' h1 J n1 jn' v H locs mc ms ha hmc hms hjn hv hL' ho' hRr hH hS => ?_)
    · skip
      refine lv_istore (lv' := [(13, .int v), (12, .ref (a [40])), (10, .long B), (9, .int u), (8, .int (nI c0)), (6, .int (nI P)), (5, .int (nI w)), (4, .int (nI A)), (3, .int (nI k)), (2, .int (nI T)), (1, .ref (a [0])), (0, .ref (gSb g0))]) hx hb dL_law_239 hl (by decide) rfl (fun ls hl => ?_)
      refine lv_goto (tgt := 736) hx hb dL_law_241 (by decide) ?_
      exact t_736r hst hx hb hml hown hE hR hk nxt hRc hJ hv hu hL0 (by omega) (by omega) (by omega) (hdr _ _ hG) hS (lv_sub hl [0, 2, 3, 8, 9, 10, 11] rfl)
    · rw [show a [0] = a' [0] from (ha [0] trivial).symm] at hl
      have hG : xG_ (setG g0 a') (xD h1) J (xFh h1) 0 H := ⟨n1, Nat.zero_le _, hH⟩
      refine lv_istore (lv' := [(13, .int v), (12, .ref (a [40])), (10, .long B), (9, .int u), (8, .int (nI c0)), (6, .int (nI P)), (5, .int (nI w)), (4, .int (nI A)), (3, .int (nI k)), (2, .int (nI T)), (1, .ref (a' [0])), (0, .ref (gSb g0))]) hx hb dL_law_239 hl (by decide) rfl (fun ls hl => ?_)
      refine lv_goto (tgt := 736) hx hb dL_law_241 (by decide) ?_
      exact t_736a hst hx hb hml hown hE hR hk nxt hRc hJ hv hL' (by omega) (by omega) (by omega) hG hS (lv_sub hl [0, 2, 3, 8, 9, 10, 11] rfl)
  · skip
    refine lv_iconst (v := (-1)) hx hb dL_law_223 (by decide) ?_
    refine lv_goto (tgt := 236) hx hb dL_law_224 (by decide) ?_
    refine t_op hx hb hml hown hE hS hl.1 (o_step hst hL (nI (w % P)) (st1.getD ((((w / 3)) % 4)) 0) (-1)) cyL_step tw238 rfl (by decide) hR ⟨by omega, by omega⟩ hH rfl dL_law_236 (fun v H locs hv hG hS => ?_) (fun a' h1 J n1 jn' v H locs mc ms ha hmc hms hjn hv hL' ho' hRr hH hS => ?_)
    · skip
      refine lv_istore (lv' := [(13, .int v), (12, .ref (a [40])), (10, .long B), (9, .int u), (8, .int (nI c0)), (6, .int (nI P)), (5, .int (nI w)), (4, .int (nI A)), (3, .int (nI k)), (2, .int (nI T)), (1, .ref (a [0])), (0, .ref (gSb g0))]) hx hb dL_law_239 hl (by decide) rfl (fun ls hl => ?_)
      refine lv_goto (tgt := 736) hx hb dL_law_241 (by decide) ?_
      exact t_736r hst hx hb hml hown hE hR hk nxt hRc hJ hv hu hL0 (by omega) (by omega) (by omega) (hdr _ _ hG) hS (lv_sub hl [0, 2, 3, 8, 9, 10, 11] rfl)
    · rw [show a [0] = a' [0] from (ha [0] trivial).symm] at hl
      have hG : xG_ (setG g0 a') (xD h1) J (xFh h1) 0 H := ⟨n1, Nat.zero_le _, hH⟩
      refine lv_istore (lv' := [(13, .int v), (12, .ref (a [40])), (10, .long B), (9, .int u), (8, .int (nI c0)), (6, .int (nI P)), (5, .int (nI w)), (4, .int (nI A)), (3, .int (nI k)), (2, .int (nI T)), (1, .ref (a' [0])), (0, .ref (gSb g0))]) hx hb dL_law_239 hl (by decide) rfl (fun ls hl => ?_)
      refine lv_goto (tgt := 736) hx hb dL_law_241 (by decide) ?_
      exact t_736a hst hx hb hml hown hE hR hk nxt hRc hJ hv hL' (by omega) (by omega) (by omega) hG hS (lv_sub hl [0, 2, 3, 8, 9, 10, 11] rfl)
set_option maxHeartbeats 1000000 in
set_option maxRecDepth 100000 in
theorem b_cond (hst : l.stackTraces = false) (hx : p.tables.exec = Jvm.exec) (hb : c.code = cL_law) (hml : c.maxLocals = 17) (hown : s.vm.findClass "CasebookStepsLaw" = some m.cls) (hE : ∀ a, xE (setG g0 a) s s.heap) (hR : 12 ≤ R.frames ∧ 300 ≤ R.locals) {k T C D J0 : Nat} (hk : k < 58) (nxt : ∀ (a' : List Nat → Nat) (h' : xS) (J : xI) (n' jn' : Nat) (H : Heap) (locs : List Loc) (ls : Array Slot) (cells slots : Nat), cells ≤ C → slots ≤ D → jn' ≤ J0 → LW h' J jn' → sOw h' = 0 → xR (setG g0 a') (xD h') J (xFh h') n' H → va_S (gA g0) s.heap H locs → lv_has ls 17 [(3, .int (nI (k + 1))), (2, .int (nI T)), (1, .ref (a' [0])), (0, .ref (gSb g0))] → W p l e R s m args below meth c H locs cells slots Q (F0 m 21 ls [])) (hRc : C ≤ R.cells ∧ D ≤ R.slots) (hJ : J0 ≤ 512) {A w c0 P : Nat} {u : Int32} {B : Int64} (hL : LW h I jn) (hj : jn + 1 ≤ J0) (ho : sOw h = 1) (hH : xR (setG g0 a) (xD h) I (xFh h) n H) {h0 : xS} {I0 : xI} (hL0 : LW h0 I0 jn) (hdr : ∀ (n : Nat) (H : Heap), xG_ (setG g0 a) (xD h) I (xFh h) n H → xG_ (setG g0 a) (xD h0) I0 (xFh h0) 0 H) (hu : u = 0 ∨ B = fSum h0 I0) (hw : w < 2 ^ 30) (hP : 0 < P ∧ P ≤ 3) (hc0 : c0 < 4 ∧ (c0 < sNc h ∨ sNc h = 0)) (hc : cells + 460 ≤ C) (hs : slots + 2800 ≤ D) (hS : va_S (gA g0) s.heap H locs) (hl : lv_has ls 17 [(13, .int 0), (12, .ref (a [40])), (10, .long B), (9, .int u), (8, .int (nI c0)), (6, .int (nI P)), (5, .int (nI w)), (4, .int (nI A)), (3, .int (nI k)), (2, .int (nI T)), (1, .ref (a [0])), (0, .ref (gSb g0))]) : W p l e R s m args below meth c H locs cells slots Q (F0 m 251 ls []) := by
  have hts := (hE a).ts args
  have hn4 := hL.n
  have hd40 : xD h [40] := (show 1 ≤ sOw h by omega)
  refine lv_aload_n hx hb dL_law_251 rfl (lv_at hl 10 rfl) ?_
  refine lv_iload hx hb dL_law_252 (lv_at hl 6 rfl) ?_
  refine lv_iload hx hb dL_law_254 (lv_at hl 5 rfl) ?_
  refine lv_irem hx hb dL_law_256 (nd_ne (by omega) (by omega)) ?_
  rw [show ((nI w) - (nI w) / (nI P) * (nI P)) = (nI (w % P)) from nd_rem (a := w) (b := P) (by omega) (by omega) (by omega)]
  refine lv_iload hx hb dL_law_257 (lv_at hl 6 rfl) ?_
  refine lv_iconst (v := 3) hx hb dL_law_259 (by decide) ?_
  refine lv_idiv hx hb dL_law_260 (by decide) ?_
  rw [show ((nI w) / 3) = (nI (w / 3)) from nd_div (a := w) (b := 3) (by omega) (by omega) (by omega)]
  refine lv_bipush (v := 6) hx hb dL_law_261 (by decide) ?_
  refine lv_irem hx hb dL_law_263 (by decide) ?_
  rw [show ((nI (w / 3)) - (nI (w / 3)) / 6 * 6) = (nI (((w / 3)) % 6)) from nd_rem (a := (w / 3)) (b := 6) (by omega) (by omega) (by omega)]
  refine lv_iload hx hb dL_law_264 (lv_at hl 6 rfl) ?_
  refine lv_bipush (v := 18) hx hb dL_law_266 (by decide) ?_
  refine lv_idiv hx hb dL_law_268 (by decide) ?_
  rw [show ((nI w) / 18) = (nI (w / 18)) from nd_div (a := w) (b := 18) (by omega) (by omega) (by omega)]
  refine lv_iconst (v := 3) hx hb dL_law_269 (by decide) ?_
  refine lv_irem hx hb dL_law_270 (by decide) ?_
  rw [show ((nI (w / 18)) - (nI (w / 18)) / 3 * 3) = (nI (((w / 18)) % 3)) from nd_rem (a := (w / 18)) (b := 3) (by omega) (by omega) (by omega)]
  refine lv_if_le (tgt := 278) hx hb dL_law_271 (by decide) (fun _ => ?_) (fun _ => ?_)
  · skip
    refine lv_iconst (v := 0) hx hb dL_law_278 (by decide) ?_
    refine va_ldcS (own := "CasebookStepsLaw") hx hb hown (hE a).e2.2.2.2.2.1.2 dL_law_279 ?_
    refine lv_iload hx hb dL_law_281 (lv_at hl 6 rfl) ?_
    refine lv_bipush (v := 54) hx hb dL_law_283 (by decide) ?_
    refine lv_idiv hx hb dL_law_285 (by decide) ?_
    rw [show ((nI w) / 54) = (nI (w / 54)) from nd_div (a := w) (b := 54) (by omega) (by omega) (by omega)]
    refine lv_iconst (v := 5) hx hb dL_law_286 (by decide) ?_
    refine lv_irem hx hb dL_law_287 (by decide) ?_
    rw [show ((nI (w / 54)) - (nI (w / 54)) / 5 * 5) = (nI (((w / 54)) % 5)) from nd_rem (a := (w / 54)) (b := 5) (by omega) (by omega) (by omega)]
    refine x_V1 (own := "CasebookStepsLaw") (g := setG g0 a) hx hb hml hown (hE a) hS hl.1 cyJ0_charAt_5068e tw798 (c_ch2 l (setG g0 a) (xD h) I (xFh h) n ((((w / 54)) % 5)) (by omega)) ⟨by omega, by omega⟩ ⟨by omega, by omega⟩ (vk_recv (kS2 (setG g0 a) s s.heap (hE a)) (i := 0) (by omega) hS) hH rfl rfl (Nat.le_of_ble_eq_true rfl) dL_law_288 (fun H locs hH hS => ?_)
    refine lv_aload hx hb dL_law_291 (lv_at hl 1 rfl) ?_
    refine t_op hx hb hml hown hE hS hl.1 (o_condition0 hst hL (nI (w % P)) (nI (((w / 3)) % 6)) (st2.getD ((((w / 54)) % 5)) 0) [40] hd40 rfl (ch2_ok (by omega)).1 (ch2_ok (by omega)).2) cyL_condition tw364 rfl (by decide) hR ⟨by omega, by omega⟩ hH rfl dL_law_293 (fun v H locs hv hG hS => ?_) (fun a' h1 J n1 jn' v H locs mc ms ha hmc hms hjn hv hL' ho' hRr hH hS => ?_)
    · skip
      refine lv_istore (lv' := [(13, .int v), (12, .ref (a [40])), (10, .long B), (9, .int u), (8, .int (nI c0)), (6, .int (nI P)), (5, .int (nI w)), (4, .int (nI A)), (3, .int (nI k)), (2, .int (nI T)), (1, .ref (a [0])), (0, .ref (gSb g0))]) hx hb dL_law_296 hl (by decide) rfl (fun ls hl => ?_)
      refine lv_goto (tgt := 736) hx hb dL_law_298 (by decide) ?_
      exact t_736r hst hx hb hml hown hE hR hk nxt hRc hJ hv hu hL0 (by omega) (by omega) (by omega) (hdr _ _ hG) hS (lv_sub hl [0, 2, 3, 8, 9, 10, 11] rfl)
    · rw [show a [0] = a' [0] from (ha [0] trivial).symm] at hl
      have hG : xG_ (setG g0 a') (xD h1) J (xFh h1) 0 H := ⟨n1, Nat.zero_le _, hH⟩
      refine lv_istore (lv' := [(13, .int v), (12, .ref (a [40])), (10, .long B), (9, .int u), (8, .int (nI c0)), (6, .int (nI P)), (5, .int (nI w)), (4, .int (nI A)), (3, .int (nI k)), (2, .int (nI T)), (1, .ref (a' [0])), (0, .ref (gSb g0))]) hx hb dL_law_296 hl (by decide) rfl (fun ls hl => ?_)
      refine lv_goto (tgt := 736) hx hb dL_law_298 (by decide) ?_
      exact t_736a hst hx hb hml hown hE hR hk nxt hRc hJ hv hL' (by omega) (by omega) (by omega) hG hS (lv_sub hl [0, 2, 3, 8, 9, 10, 11] rfl)
  · skip
    refine lv_iconst (v := 1) hx hb dL_law_274 (by decide) ?_
    refine lv_goto (tgt := 279) hx hb dL_law_275 (by decide) ?_
    refine va_ldcS (own := "CasebookStepsLaw") hx hb hown (hE a).e2.2.2.2.2.1.2 dL_law_279 ?_
    refine lv_iload hx hb dL_law_281 (lv_at hl 6 rfl) ?_
    refine lv_bipush (v := 54) hx hb dL_law_283 (by decide) ?_
    refine lv_idiv hx hb dL_law_285 (by decide) ?_
    rw [show ((nI w) / 54) = (nI (w / 54)) from nd_div (a := w) (b := 54) (by omega) (by omega) (by omega)]
    refine lv_iconst (v := 5) hx hb dL_law_286 (by decide) ?_
    refine lv_irem hx hb dL_law_287 (by decide) ?_
    rw [show ((nI (w / 54)) - (nI (w / 54)) / 5 * 5) = (nI (((w / 54)) % 5)) from nd_rem (a := (w / 54)) (b := 5) (by omega) (by omega) (by omega)]
    refine x_V1 (own := "CasebookStepsLaw") (g := setG g0 a) hx hb hml hown (hE a) hS hl.1 cyJ0_charAt_5068e tw798 (c_ch2 l (setG g0 a) (xD h) I (xFh h) n ((((w / 54)) % 5)) (by omega)) ⟨by omega, by omega⟩ ⟨by omega, by omega⟩ (vk_recv (kS2 (setG g0 a) s s.heap (hE a)) (i := 0) (by omega) hS) hH rfl rfl (Nat.le_of_ble_eq_true rfl) dL_law_288 (fun H locs hH hS => ?_)
    refine lv_aload hx hb dL_law_291 (lv_at hl 1 rfl) ?_
    refine t_op hx hb hml hown hE hS hl.1 (o_condition1 hst hL (nI (w % P)) (nI (((w / 3)) % 6)) (st2.getD ((((w / 54)) % 5)) 0) [40] hd40 rfl (ch2_ok (by omega)).1 (ch2_ok (by omega)).2) cyL_condition tw364 rfl (by decide) hR ⟨by omega, by omega⟩ hH rfl dL_law_293 (fun v H locs hv hG hS => ?_) (fun a' h1 J n1 jn' v H locs mc ms ha hmc hms hjn hv hL' ho' hRr hH hS => ?_)
    · skip
      refine lv_istore (lv' := [(13, .int v), (12, .ref (a [40])), (10, .long B), (9, .int u), (8, .int (nI c0)), (6, .int (nI P)), (5, .int (nI w)), (4, .int (nI A)), (3, .int (nI k)), (2, .int (nI T)), (1, .ref (a [0])), (0, .ref (gSb g0))]) hx hb dL_law_296 hl (by decide) rfl (fun ls hl => ?_)
      refine lv_goto (tgt := 736) hx hb dL_law_298 (by decide) ?_
      exact t_736r hst hx hb hml hown hE hR hk nxt hRc hJ hv hu hL0 (by omega) (by omega) (by omega) (hdr _ _ hG) hS (lv_sub hl [0, 2, 3, 8, 9, 10, 11] rfl)
    · rw [show a [0] = a' [0] from (ha [0] trivial).symm] at hl
      have hG : xG_ (setG g0 a') (xD h1) J (xFh h1) 0 H := ⟨n1, Nat.zero_le _, hH⟩
      refine lv_istore (lv' := [(13, .int v), (12, .ref (a [40])), (10, .long B), (9, .int u), (8, .int (nI c0)), (6, .int (nI P)), (5, .int (nI w)), (4, .int (nI A)), (3, .int (nI k)), (2, .int (nI T)), (1, .ref (a' [0])), (0, .ref (gSb g0))]) hx hb dL_law_296 hl (by decide) rfl (fun ls hl => ?_)
      refine lv_goto (tgt := 736) hx hb dL_law_298 (by decide) ?_
      exact t_736a hst hx hb hml hown hE hR hk nxt hRc hJ hv hL' (by omega) (by omega) (by omega) hG hS (lv_sub hl [0, 2, 3, 8, 9, 10, 11] rfl)
set_option maxHeartbeats 1000000 in
set_option maxRecDepth 100000 in
theorem b_flag (hst : l.stackTraces = false) (hx : p.tables.exec = Jvm.exec) (hb : c.code = cL_law) (hml : c.maxLocals = 17) (hown : s.vm.findClass "CasebookStepsLaw" = some m.cls) (hE : ∀ a, xE (setG g0 a) s s.heap) (hR : 12 ≤ R.frames ∧ 300 ≤ R.locals) {k T C D J0 : Nat} (hk : k < 58) (nxt : ∀ (a' : List Nat → Nat) (h' : xS) (J : xI) (n' jn' : Nat) (H : Heap) (locs : List Loc) (ls : Array Slot) (cells slots : Nat), cells ≤ C → slots ≤ D → jn' ≤ J0 → LW h' J jn' → sOw h' = 0 → xR (setG g0 a') (xD h') J (xFh h') n' H → va_S (gA g0) s.heap H locs → lv_has ls 17 [(3, .int (nI (k + 1))), (2, .int (nI T)), (1, .ref (a' [0])), (0, .ref (gSb g0))] → W p l e R s m args below meth c H locs cells slots Q (F0 m 21 ls [])) (hRc : C ≤ R.cells ∧ D ≤ R.slots) (hJ : J0 ≤ 512) {A w c0 P : Nat} {u : Int32} {B : Int64} (hL : LW h I jn) (hj : jn + 1 ≤ J0) (ho : sOw h = 1) (hH : xR (setG g0 a) (xD h) I (xFh h) n H) {h0 : xS} {I0 : xI} (hL0 : LW h0 I0 jn) (hdr : ∀ (n : Nat) (H : Heap), xG_ (setG g0 a) (xD h) I (xFh h) n H → xG_ (setG g0 a) (xD h0) I0 (xFh h0) 0 H) (hu : u = 0 ∨ B = fSum h0 I0) (hw : w < 2 ^ 30) (hP : 0 < P ∧ P ≤ 3) (hc0 : c0 < 4 ∧ (c0 < sNc h ∨ sNc h = 0)) (hc : cells + 460 ≤ C) (hs : slots + 2800 ≤ D) (hS : va_S (gA g0) s.heap H locs) (hl : lv_has ls 17 [(13, .int 0), (12, .ref (a [40])), (10, .long B), (9, .int u), (8, .int (nI c0)), (6, .int (nI P)), (5, .int (nI w)), (4, .int (nI A)), (3, .int (nI k)), (2, .int (nI T)), (1, .ref (a [0])), (0, .ref (gSb g0))]) : W p l e R s m args below meth c H locs cells slots Q (F0 m 308 ls []) := by
  have hts := (hE a).ts args
  have hn4 := hL.n
  have hd40 : xD h [40] := (show 1 ≤ sOw h by omega)
  refine lv_aload_n hx hb dL_law_308 rfl (lv_at hl 10 rfl) ?_
  refine lv_iload hx hb dL_law_309 (lv_at hl 6 rfl) ?_
  refine lv_iload hx hb dL_law_311 (lv_at hl 5 rfl) ?_
  refine lv_irem hx hb dL_law_313 (nd_ne (by omega) (by omega)) ?_
  rw [show ((nI w) - (nI w) / (nI P) * (nI P)) = (nI (w % P)) from nd_rem (a := w) (b := P) (by omega) (by omega) (by omega)]
  refine lv_iload hx hb dL_law_314 (lv_at hl 6 rfl) ?_
  refine lv_iconst (v := 3) hx hb dL_law_316 (by decide) ?_
  refine lv_idiv hx hb dL_law_317 (by decide) ?_
  rw [show ((nI w) / 3) = (nI (w / 3)) from nd_div (a := w) (b := 3) (by omega) (by omega) (by omega)]
  refine lv_bipush (v := 6) hx hb dL_law_318 (by decide) ?_
  refine lv_irem hx hb dL_law_320 (by decide) ?_
  rw [show ((nI (w / 3)) - (nI (w / 3)) / 6 * 6) = (nI (((w / 3)) % 6)) from nd_rem (a := (w / 3)) (b := 6) (by omega) (by omega) (by omega)]
  refine lv_iload hx hb dL_law_321 (lv_at hl 6 rfl) ?_
  refine lv_bipush (v := 18) hx hb dL_law_323 (by decide) ?_
  refine lv_idiv hx hb dL_law_325 (by decide) ?_
  rw [show ((nI w) / 18) = (nI (w / 18)) from nd_div (a := w) (b := 18) (by omega) (by omega) (by omega)]
  refine lv_iconst (v := 2) hx hb dL_law_326 (by decide) ?_
  refine lv_irem hx hb dL_law_327 (by decide) ?_
  rw [show ((nI (w / 18)) - (nI (w / 18)) / 2 * 2) = (nI (((w / 18)) % 2)) from nd_rem (a := (w / 18)) (b := 2) (by omega) (by omega) (by omega)]
  refine lv_if_ne (tgt := 336) hx hb dL_law_328 (by decide) (fun _ => ?_) (fun _ => ?_)
  · skip
    refine lv_bipush (v := 109) hx hb dL_law_336 (by decide) ?_
    refine lv_iload hx hb dL_law_338 (lv_at hl 6 rfl) ?_
    refine lv_bipush (v := 36) hx hb dL_law_340 (by decide) ?_
    refine lv_idiv hx hb dL_law_342 (by decide) ?_
    rw [show ((nI w) / 36) = (nI (w / 36)) from nd_div (a := w) (b := 36) (by omega) (by omega) (by omega)]
    refine lv_iconst (v := 2) hx hb dL_law_343 (by decide) ?_
    refine lv_irem hx hb dL_law_344 (by decide) ?_
    rw [show ((nI (w / 36)) - (nI (w / 36)) / 2 * 2) = (nI (((w / 36)) % 2)) from nd_rem (a := (w / 36)) (b := 2) (by omega) (by omega) (by omega)]
    refine lv_if_ne (tgt := 352) hx hb dL_law_345 (by decide) (fun _ => ?_) (fun _ => ?_)
    · skip
      refine lv_iconst (v := 0) hx hb dL_law_352 (by decide) ?_
      refine t_op hx hb hml hown hE hS hl.1 (o_flagm hst hL (nI (w % P)) (nI (((w / 3)) % 6)) 0 (Or.inl rfl)) cyL_flag tw440 rfl (by decide) hR ⟨by omega, by omega⟩ hH rfl dL_law_353 (fun v H locs hv hG hS => ?_) (fun a' h1 J n1 jn' v H locs mc ms ha hmc hms hjn hv hL' ho' hRr hH hS => ?_)
      · skip
        refine lv_istore (lv' := [(13, .int v), (12, .ref (a [40])), (10, .long B), (9, .int u), (8, .int (nI c0)), (6, .int (nI P)), (5, .int (nI w)), (4, .int (nI A)), (3, .int (nI k)), (2, .int (nI T)), (1, .ref (a [0])), (0, .ref (gSb g0))]) hx hb dL_law_356 hl (by decide) rfl (fun ls hl => ?_)
        refine lv_goto (tgt := 736) hx hb dL_law_358 (by decide) ?_
        exact t_736r hst hx hb hml hown hE hR hk nxt hRc hJ hv hu hL0 (by omega) (by omega) (by omega) (hdr _ _ hG) hS (lv_sub hl [0, 2, 3, 8, 9, 10, 11] rfl)
      · rw [show a [0] = a' [0] from (ha [0] trivial).symm] at hl
        have hG : xG_ (setG g0 a') (xD h1) J (xFh h1) 0 H := ⟨n1, Nat.zero_le _, hH⟩
        refine lv_istore (lv' := [(13, .int v), (12, .ref (a [40])), (10, .long B), (9, .int u), (8, .int (nI c0)), (6, .int (nI P)), (5, .int (nI w)), (4, .int (nI A)), (3, .int (nI k)), (2, .int (nI T)), (1, .ref (a' [0])), (0, .ref (gSb g0))]) hx hb dL_law_356 hl (by decide) rfl (fun ls hl => ?_)
        refine lv_goto (tgt := 736) hx hb dL_law_358 (by decide) ?_
        exact t_736a hst hx hb hml hown hE hR hk nxt hRc hJ hv hL' (by omega) (by omega) (by omega) hG hS (lv_sub hl [0, 2, 3, 8, 9, 10, 11] rfl)
    · skip
      refine lv_iconst (v := 1) hx hb dL_law_348 (by decide) ?_
      refine lv_goto (tgt := 353) hx hb dL_law_349 (by decide) ?_
      refine t_op hx hb hml hown hE hS hl.1 (o_flagm hst hL (nI (w % P)) (nI (((w / 3)) % 6)) 1 (Or.inr rfl)) cyL_flag tw440 rfl (by decide) hR ⟨by omega, by omega⟩ hH rfl dL_law_353 (fun v H locs hv hG hS => ?_) (fun a' h1 J n1 jn' v H locs mc ms ha hmc hms hjn hv hL' ho' hRr hH hS => ?_)
      · skip
        refine lv_istore (lv' := [(13, .int v), (12, .ref (a [40])), (10, .long B), (9, .int u), (8, .int (nI c0)), (6, .int (nI P)), (5, .int (nI w)), (4, .int (nI A)), (3, .int (nI k)), (2, .int (nI T)), (1, .ref (a [0])), (0, .ref (gSb g0))]) hx hb dL_law_356 hl (by decide) rfl (fun ls hl => ?_)
        refine lv_goto (tgt := 736) hx hb dL_law_358 (by decide) ?_
        exact t_736r hst hx hb hml hown hE hR hk nxt hRc hJ hv hu hL0 (by omega) (by omega) (by omega) (hdr _ _ hG) hS (lv_sub hl [0, 2, 3, 8, 9, 10, 11] rfl)
      · rw [show a [0] = a' [0] from (ha [0] trivial).symm] at hl
        have hG : xG_ (setG g0 a') (xD h1) J (xFh h1) 0 H := ⟨n1, Nat.zero_le _, hH⟩
        refine lv_istore (lv' := [(13, .int v), (12, .ref (a [40])), (10, .long B), (9, .int u), (8, .int (nI c0)), (6, .int (nI P)), (5, .int (nI w)), (4, .int (nI A)), (3, .int (nI k)), (2, .int (nI T)), (1, .ref (a' [0])), (0, .ref (gSb g0))]) hx hb dL_law_356 hl (by decide) rfl (fun ls hl => ?_)
        refine lv_goto (tgt := 736) hx hb dL_law_358 (by decide) ?_
        exact t_736a hst hx hb hml hown hE hR hk nxt hRc hJ hv hL' (by omega) (by omega) (by omega) hG hS (lv_sub hl [0, 2, 3, 8, 9, 10, 11] rfl)
  · skip
    refine lv_bipush (v := 116) hx hb dL_law_331 (by decide) ?_
    refine lv_goto (tgt := 338) hx hb dL_law_333 (by decide) ?_
    refine lv_iload hx hb dL_law_338 (lv_at hl 6 rfl) ?_
    refine lv_bipush (v := 36) hx hb dL_law_340 (by decide) ?_
    refine lv_idiv hx hb dL_law_342 (by decide) ?_
    rw [show ((nI w) / 36) = (nI (w / 36)) from nd_div (a := w) (b := 36) (by omega) (by omega) (by omega)]
    refine lv_iconst (v := 2) hx hb dL_law_343 (by decide) ?_
    refine lv_irem hx hb dL_law_344 (by decide) ?_
    rw [show ((nI (w / 36)) - (nI (w / 36)) / 2 * 2) = (nI (((w / 36)) % 2)) from nd_rem (a := (w / 36)) (b := 2) (by omega) (by omega) (by omega)]
    refine lv_if_ne (tgt := 352) hx hb dL_law_345 (by decide) (fun _ => ?_) (fun _ => ?_)
    · skip
      refine lv_iconst (v := 0) hx hb dL_law_352 (by decide) ?_
      refine t_op hx hb hml hown hE hS hl.1 (o_flagt hst hL (nI (w % P)) (nI (((w / 3)) % 6)) 0 (Or.inl rfl)) cyL_flag tw440 rfl (by decide) hR ⟨by omega, by omega⟩ hH rfl dL_law_353 (fun v H locs hv hG hS => ?_) (fun a' h1 J n1 jn' v H locs mc ms ha hmc hms hjn hv hL' ho' hRr hH hS => ?_)
      · skip
        refine lv_istore (lv' := [(13, .int v), (12, .ref (a [40])), (10, .long B), (9, .int u), (8, .int (nI c0)), (6, .int (nI P)), (5, .int (nI w)), (4, .int (nI A)), (3, .int (nI k)), (2, .int (nI T)), (1, .ref (a [0])), (0, .ref (gSb g0))]) hx hb dL_law_356 hl (by decide) rfl (fun ls hl => ?_)
        refine lv_goto (tgt := 736) hx hb dL_law_358 (by decide) ?_
        exact t_736r hst hx hb hml hown hE hR hk nxt hRc hJ hv hu hL0 (by omega) (by omega) (by omega) (hdr _ _ hG) hS (lv_sub hl [0, 2, 3, 8, 9, 10, 11] rfl)
      · rw [show a [0] = a' [0] from (ha [0] trivial).symm] at hl
        have hG : xG_ (setG g0 a') (xD h1) J (xFh h1) 0 H := ⟨n1, Nat.zero_le _, hH⟩
        refine lv_istore (lv' := [(13, .int v), (12, .ref (a [40])), (10, .long B), (9, .int u), (8, .int (nI c0)), (6, .int (nI P)), (5, .int (nI w)), (4, .int (nI A)), (3, .int (nI k)), (2, .int (nI T)), (1, .ref (a' [0])), (0, .ref (gSb g0))]) hx hb dL_law_356 hl (by decide) rfl (fun ls hl => ?_)
        refine lv_goto (tgt := 736) hx hb dL_law_358 (by decide) ?_
        exact t_736a hst hx hb hml hown hE hR hk nxt hRc hJ hv hL' (by omega) (by omega) (by omega) hG hS (lv_sub hl [0, 2, 3, 8, 9, 10, 11] rfl)
    · skip
      refine lv_iconst (v := 1) hx hb dL_law_348 (by decide) ?_
      refine lv_goto (tgt := 353) hx hb dL_law_349 (by decide) ?_
      refine t_op hx hb hml hown hE hS hl.1 (o_flagt hst hL (nI (w % P)) (nI (((w / 3)) % 6)) 1 (Or.inr rfl)) cyL_flag tw440 rfl (by decide) hR ⟨by omega, by omega⟩ hH rfl dL_law_353 (fun v H locs hv hG hS => ?_) (fun a' h1 J n1 jn' v H locs mc ms ha hmc hms hjn hv hL' ho' hRr hH hS => ?_)
      · skip
        refine lv_istore (lv' := [(13, .int v), (12, .ref (a [40])), (10, .long B), (9, .int u), (8, .int (nI c0)), (6, .int (nI P)), (5, .int (nI w)), (4, .int (nI A)), (3, .int (nI k)), (2, .int (nI T)), (1, .ref (a [0])), (0, .ref (gSb g0))]) hx hb dL_law_356 hl (by decide) rfl (fun ls hl => ?_)
        refine lv_goto (tgt := 736) hx hb dL_law_358 (by decide) ?_
        exact t_736r hst hx hb hml hown hE hR hk nxt hRc hJ hv hu hL0 (by omega) (by omega) (by omega) (hdr _ _ hG) hS (lv_sub hl [0, 2, 3, 8, 9, 10, 11] rfl)
      · rw [show a [0] = a' [0] from (ha [0] trivial).symm] at hl
        have hG : xG_ (setG g0 a') (xD h1) J (xFh h1) 0 H := ⟨n1, Nat.zero_le _, hH⟩
        refine lv_istore (lv' := [(13, .int v), (12, .ref (a [40])), (10, .long B), (9, .int u), (8, .int (nI c0)), (6, .int (nI P)), (5, .int (nI w)), (4, .int (nI A)), (3, .int (nI k)), (2, .int (nI T)), (1, .ref (a' [0])), (0, .ref (gSb g0))]) hx hb dL_law_356 hl (by decide) rfl (fun ls hl => ?_)
        refine lv_goto (tgt := 736) hx hb dL_law_358 (by decide) ?_
        exact t_736a hst hx hb hml hown hE hR hk nxt hRc hJ hv hL' (by omega) (by omega) (by omega) hG hS (lv_sub hl [0, 2, 3, 8, 9, 10, 11] rfl)
set_option maxHeartbeats 1000000 in
set_option maxRecDepth 100000 in
theorem b_limit (hst : l.stackTraces = false) (hx : p.tables.exec = Jvm.exec) (hb : c.code = cL_law) (hml : c.maxLocals = 17) (hown : s.vm.findClass "CasebookStepsLaw" = some m.cls) (hE : ∀ a, xE (setG g0 a) s s.heap) (hR : 12 ≤ R.frames ∧ 300 ≤ R.locals) {k T C D J0 : Nat} (hk : k < 58) (nxt : ∀ (a' : List Nat → Nat) (h' : xS) (J : xI) (n' jn' : Nat) (H : Heap) (locs : List Loc) (ls : Array Slot) (cells slots : Nat), cells ≤ C → slots ≤ D → jn' ≤ J0 → LW h' J jn' → sOw h' = 0 → xR (setG g0 a') (xD h') J (xFh h') n' H → va_S (gA g0) s.heap H locs → lv_has ls 17 [(3, .int (nI (k + 1))), (2, .int (nI T)), (1, .ref (a' [0])), (0, .ref (gSb g0))] → W p l e R s m args below meth c H locs cells slots Q (F0 m 21 ls [])) (hRc : C ≤ R.cells ∧ D ≤ R.slots) (hJ : J0 ≤ 512) {A w c0 P : Nat} {u : Int32} {B : Int64} (hL : LW h I jn) (hj : jn + 1 ≤ J0) (ho : sOw h = 1) (hH : xR (setG g0 a) (xD h) I (xFh h) n H) {h0 : xS} {I0 : xI} (hL0 : LW h0 I0 jn) (hdr : ∀ (n : Nat) (H : Heap), xG_ (setG g0 a) (xD h) I (xFh h) n H → xG_ (setG g0 a) (xD h0) I0 (xFh h0) 0 H) (hu : u = 0 ∨ B = fSum h0 I0) (hw : w < 2 ^ 30) (hP : 0 < P ∧ P ≤ 3) (hc0 : c0 < 4 ∧ (c0 < sNc h ∨ sNc h = 0)) (hc : cells + 460 ≤ C) (hs : slots + 2800 ≤ D) (hS : va_S (gA g0) s.heap H locs) (hl : lv_has ls 17 [(13, .int 0), (12, .ref (a [40])), (10, .long B), (9, .int u), (8, .int (nI c0)), (6, .int (nI P)), (5, .int (nI w)), (4, .int (nI A)), (3, .int (nI k)), (2, .int (nI T)), (1, .ref (a [0])), (0, .ref (gSb g0))]) : W p l e R s m args below meth c H locs cells slots Q (F0 m 368 ls []) := by
  have hts := (hE a).ts args
  have hn4 := hL.n
  have hd40 : xD h [40] := (show 1 ≤ sOw h by omega)
  refine lv_aload_n hx hb dL_law_368 rfl (lv_at hl 10 rfl) ?_
  refine lv_iload hx hb dL_law_369 (lv_at hl 6 rfl) ?_
  refine lv_iload hx hb dL_law_371 (lv_at hl 5 rfl) ?_
  refine lv_irem hx hb dL_law_373 (nd_ne (by omega) (by omega)) ?_
  rw [show ((nI w) - (nI w) / (nI P) * (nI P)) = (nI (w % P)) from nd_rem (a := w) (b := P) (by omega) (by omega) (by omega)]
  refine lv_iload hx hb dL_law_374 (lv_at hl 6 rfl) ?_
  refine lv_iconst (v := 3) hx hb dL_law_376 (by decide) ?_
  refine lv_idiv hx hb dL_law_377 (by decide) ?_
  rw [show ((nI w) / 3) = (nI (w / 3)) from nd_div (a := w) (b := 3) (by omega) (by omega) (by omega)]
  refine lv_bipush (v := 6) hx hb dL_law_378 (by decide) ?_
  refine lv_irem hx hb dL_law_380 (by decide) ?_
  rw [show ((nI (w / 3)) - (nI (w / 3)) / 6 * 6) = (nI (((w / 3)) % 6)) from nd_rem (a := (w / 3)) (b := 6) (by omega) (by omega) (by omega)]
  refine lv_iload hx hb dL_law_381 (lv_at hl 6 rfl) ?_
  refine lv_bipush (v := 18) hx hb dL_law_383 (by decide) ?_
  refine lv_idiv hx hb dL_law_385 (by decide) ?_
  rw [show ((nI w) / 18) = (nI (w / 18)) from nd_div (a := w) (b := 18) (by omega) (by omega) (by omega)]
  refine lv_bipush (v := 6) hx hb dL_law_386 (by decide) ?_
  refine lv_irem hx hb dL_law_388 (by decide) ?_
  rw [show ((nI (w / 18)) - (nI (w / 18)) / 6 * 6) = (nI (((w / 18)) % 6)) from nd_rem (a := (w / 18)) (b := 6) (by omega) (by omega) (by omega)]
  refine t_op hx hb hml hown hE hS hl.1 (o_limit hst hL (nI (w % P)) (nI (((w / 3)) % 6)) (nI (((w / 18)) % 6))) cyL_limit tw456 rfl (by decide) hR ⟨by omega, by omega⟩ hH rfl dL_law_389 (fun v H locs hv hG hS => ?_) (fun a' h1 J n1 jn' v H locs mc ms ha hmc hms hjn hv hL' ho' hRr hH hS => ?_)
  · skip
    refine lv_istore (lv' := [(13, .int v), (12, .ref (a [40])), (10, .long B), (9, .int u), (8, .int (nI c0)), (6, .int (nI P)), (5, .int (nI w)), (4, .int (nI A)), (3, .int (nI k)), (2, .int (nI T)), (1, .ref (a [0])), (0, .ref (gSb g0))]) hx hb dL_law_392 hl (by decide) rfl (fun ls hl => ?_)
    refine lv_goto (tgt := 736) hx hb dL_law_394 (by decide) ?_
    exact t_736r hst hx hb hml hown hE hR hk nxt hRc hJ hv hu hL0 (by omega) (by omega) (by omega) (hdr _ _ hG) hS (lv_sub hl [0, 2, 3, 8, 9, 10, 11] rfl)
  · rw [show a [0] = a' [0] from (ha [0] trivial).symm] at hl
    have hG : xG_ (setG g0 a') (xD h1) J (xFh h1) 0 H := ⟨n1, Nat.zero_le _, hH⟩
    refine lv_istore (lv' := [(13, .int v), (12, .ref (a [40])), (10, .long B), (9, .int u), (8, .int (nI c0)), (6, .int (nI P)), (5, .int (nI w)), (4, .int (nI A)), (3, .int (nI k)), (2, .int (nI T)), (1, .ref (a' [0])), (0, .ref (gSb g0))]) hx hb dL_law_392 hl (by decide) rfl (fun ls hl => ?_)
    refine lv_goto (tgt := 736) hx hb dL_law_394 (by decide) ?_
    exact t_736a hst hx hb hml hown hE hR hk nxt hRc hJ hv hL' (by omega) (by omega) (by omega) hG hS (lv_sub hl [0, 2, 3, 8, 9, 10, 11] rfl)
set_option maxHeartbeats 1000000 in
set_option maxRecDepth 100000 in
theorem b_begin (hst : l.stackTraces = false) (hx : p.tables.exec = Jvm.exec) (hb : c.code = cL_law) (hml : c.maxLocals = 17) (hown : s.vm.findClass "CasebookStepsLaw" = some m.cls) (hE : ∀ a, xE (setG g0 a) s s.heap) (hR : 12 ≤ R.frames ∧ 300 ≤ R.locals) {k T C D J0 : Nat} (hk : k < 58) (nxt : ∀ (a' : List Nat → Nat) (h' : xS) (J : xI) (n' jn' : Nat) (H : Heap) (locs : List Loc) (ls : Array Slot) (cells slots : Nat), cells ≤ C → slots ≤ D → jn' ≤ J0 → LW h' J jn' → sOw h' = 0 → xR (setG g0 a') (xD h') J (xFh h') n' H → va_S (gA g0) s.heap H locs → lv_has ls 17 [(3, .int (nI (k + 1))), (2, .int (nI T)), (1, .ref (a' [0])), (0, .ref (gSb g0))] → W p l e R s m args below meth c H locs cells slots Q (F0 m 21 ls [])) (hRc : C ≤ R.cells ∧ D ≤ R.slots) (hJ : J0 ≤ 512) {A w c0 P : Nat} {u : Int32} {B : Int64} (hL : LW h I jn) (hj : jn + 1 ≤ J0) (ho : sOw h = 1) (hH : xR (setG g0 a) (xD h) I (xFh h) n H) {h0 : xS} {I0 : xI} (hL0 : LW h0 I0 jn) (hdr : ∀ (n : Nat) (H : Heap), xG_ (setG g0 a) (xD h) I (xFh h) n H → xG_ (setG g0 a) (xD h0) I0 (xFh h0) 0 H) (hu : u = 0 ∨ B = fSum h0 I0) (hw : w < 2 ^ 30) (hP : 0 < P ∧ P ≤ 3) (hc0 : c0 < 4 ∧ (c0 < sNc h ∨ sNc h = 0)) (hc : cells + 460 ≤ C) (hs : slots + 2800 ≤ D) (hS : va_S (gA g0) s.heap H locs) (hl : lv_has ls 17 [(13, .int 0), (12, .ref (a [40])), (10, .long B), (9, .int u), (8, .int (nI c0)), (6, .int (nI P)), (5, .int (nI w)), (4, .int (nI A)), (3, .int (nI k)), (2, .int (nI T)), (1, .ref (a [0])), (0, .ref (gSb g0))]) : W p l e R s m args below meth c H locs cells slots Q (F0 m 404 ls []) := by
  have hts := (hE a).ts args
  have hn4 := hL.n
  have hd40 : xD h [40] := (show 1 ≤ sOw h by omega)
  refine lv_aload_n hx hb dL_law_404 rfl (lv_at hl 10 rfl) ?_
  refine lv_iload hx hb dL_law_405 (lv_at hl 6 rfl) ?_
  refine lv_iload hx hb dL_law_407 (lv_at hl 5 rfl) ?_
  refine lv_irem hx hb dL_law_409 (nd_ne (by omega) (by omega)) ?_
  rw [show ((nI w) - (nI w) / (nI P) * (nI P)) = (nI (w % P)) from nd_rem (a := w) (b := P) (by omega) (by omega) (by omega)]
  refine t_op hx hb hml hown hE hS hl.1 (o_begin hst hL (by omega) (nI (w % P))) cyL_begin tw475 rfl (by decide) hR ⟨by omega, by omega⟩ hH rfl dL_law_410 (fun v H locs hv hG hS => ?_) (fun a' h1 J n1 jn' v H locs mc ms ha hmc hms hjn hv hL' ho' hRr hH hS => ?_)
  · skip
    refine lv_istore (lv' := [(13, .int v), (12, .ref (a [40])), (10, .long B), (9, .int u), (8, .int (nI c0)), (6, .int (nI P)), (5, .int (nI w)), (4, .int (nI A)), (3, .int (nI k)), (2, .int (nI T)), (1, .ref (a [0])), (0, .ref (gSb g0))]) hx hb dL_law_413 hl (by decide) rfl (fun ls hl => ?_)
    refine lv_goto (tgt := 736) hx hb dL_law_415 (by decide) ?_
    exact t_736r hst hx hb hml hown hE hR hk nxt hRc hJ hv hu hL0 (by omega) (by omega) (by omega) (hdr _ _ hG) hS (lv_sub hl [0, 2, 3, 8, 9, 10, 11] rfl)
  · rw [show a [0] = a' [0] from (ha [0] trivial).symm] at hl
    have hG : xG_ (setG g0 a') (xD h1) J (xFh h1) 0 H := ⟨n1, Nat.zero_le _, hH⟩
    refine lv_istore (lv' := [(13, .int v), (12, .ref (a [40])), (10, .long B), (9, .int u), (8, .int (nI c0)), (6, .int (nI P)), (5, .int (nI w)), (4, .int (nI A)), (3, .int (nI k)), (2, .int (nI T)), (1, .ref (a' [0])), (0, .ref (gSb g0))]) hx hb dL_law_413 hl (by decide) rfl (fun ls hl => ?_)
    refine lv_goto (tgt := 736) hx hb dL_law_415 (by decide) ?_
    exact t_736a hst hx hb hml hown hE hR hk nxt hRc hJ hv hL' (by omega) (by omega) (by omega) hG hS (lv_sub hl [0, 2, 3, 8, 9, 10, 11] rfl)
set_option maxHeartbeats 1000000 in
set_option maxRecDepth 100000 in
theorem b_event (hst : l.stackTraces = false) (hx : p.tables.exec = Jvm.exec) (hb : c.code = cL_law) (hml : c.maxLocals = 17) (hown : s.vm.findClass "CasebookStepsLaw" = some m.cls) (hE : ∀ a, xE (setG g0 a) s s.heap) (hR : 12 ≤ R.frames ∧ 300 ≤ R.locals) {k T C D J0 : Nat} (hk : k < 58) (nxt : ∀ (a' : List Nat → Nat) (h' : xS) (J : xI) (n' jn' : Nat) (H : Heap) (locs : List Loc) (ls : Array Slot) (cells slots : Nat), cells ≤ C → slots ≤ D → jn' ≤ J0 → LW h' J jn' → sOw h' = 0 → xR (setG g0 a') (xD h') J (xFh h') n' H → va_S (gA g0) s.heap H locs → lv_has ls 17 [(3, .int (nI (k + 1))), (2, .int (nI T)), (1, .ref (a' [0])), (0, .ref (gSb g0))] → W p l e R s m args below meth c H locs cells slots Q (F0 m 21 ls [])) (hRc : C ≤ R.cells ∧ D ≤ R.slots) (hJ : J0 ≤ 512) {A w c0 P : Nat} {u : Int32} {B : Int64} (hL : LW h I jn) (hj : jn + 1 ≤ J0) (ho : sOw h = 1) (hH : xR (setG g0 a) (xD h) I (xFh h) n H) {h0 : xS} {I0 : xI} (hL0 : LW h0 I0 jn) (hdr : ∀ (n : Nat) (H : Heap), xG_ (setG g0 a) (xD h) I (xFh h) n H → xG_ (setG g0 a) (xD h0) I0 (xFh h0) 0 H) (hu : u = 0 ∨ B = fSum h0 I0) (hw : w < 2 ^ 30) (hP : 0 < P ∧ P ≤ 3) (hc0 : c0 < 4 ∧ (c0 < sNc h ∨ sNc h = 0)) (hc : cells + 460 ≤ C) (hs : slots + 2800 ≤ D) (hS : va_S (gA g0) s.heap H locs) (hl : lv_has ls 17 [(13, .int 0), (12, .ref (a [40])), (10, .long B), (9, .int u), (8, .int (nI c0)), (6, .int (nI P)), (5, .int (nI w)), (4, .int (nI A)), (3, .int (nI k)), (2, .int (nI T)), (1, .ref (a [0])), (0, .ref (gSb g0))]) : W p l e R s m args below meth c H locs cells slots Q (F0 m 537 ls []) := by
  have hts := (hE a).ts args
  have hn4 := hL.n
  have hd40 : xD h [40] := (show 1 ≤ sOw h by omega)
  refine lv_aload_n hx hb dL_law_537 rfl (lv_at hl 10 rfl) ?_
  refine lv_iload hx hb dL_law_538 (lv_at hl 4 rfl) ?_
  refine lv_bipush (v := 101) hx hb dL_law_540 (by decide) ?_
  refine lv_iload hx hb dL_law_542 (lv_at hl 6 rfl) ?_
  refine lv_iconst (v := 4) hx hb dL_law_544 (by decide) ?_
  refine lv_idiv hx hb dL_law_545 (by decide) ?_
  rw [show ((nI w) / 4) = (nI (w / 4)) from nd_div (a := w) (b := 4) (by omega) (by omega) (by omega)]
  refine lv_iconst (v := 5) hx hb dL_law_546 (by decide) ?_
  refine lv_irem hx hb dL_law_547 (by decide) ?_
  rw [show ((nI (w / 4)) - (nI (w / 4)) / 5 * 5) = (nI (((w / 4)) % 5)) from nd_rem (a := (w / 4)) (b := 5) (by omega) (by omega) (by omega)]
  refine lv_iconst (v := 0) hx hb dL_law_548 (by decide) ?_
  refine t_op hx hb hml hown hE hS hl.1 (o_event hst hL (by omega) (nI c0) (nI (((w / 4)) % 5)) 0) cyL_happens tw564 rfl (by decide) hR ⟨by omega, by omega⟩ hH rfl dL_law_549 (fun v H locs hv hG hS => ?_) (fun a' h1 J n1 jn' v H locs mc ms ha hmc hms hjn hv hL' ho' hRr hH hS => ?_)
  · skip
    refine lv_istore (lv' := [(13, .int v), (12, .ref (a [40])), (10, .long B), (9, .int u), (8, .int (nI c0)), (6, .int (nI P)), (5, .int (nI w)), (4, .int (nI A)), (3, .int (nI k)), (2, .int (nI T)), (1, .ref (a [0])), (0, .ref (gSb g0))]) hx hb dL_law_552 hl (by decide) rfl (fun ls hl => ?_)
    refine lv_goto (tgt := 736) hx hb dL_law_554 (by decide) ?_
    exact t_736r hst hx hb hml hown hE hR hk nxt hRc hJ hv hu hL0 (by omega) (by omega) (by omega) (hdr _ _ hG) hS (lv_sub hl [0, 2, 3, 8, 9, 10, 11] rfl)
  · rw [show a [0] = a' [0] from (ha [0] trivial).symm] at hl
    have hG : xG_ (setG g0 a') (xD h1) J (xFh h1) 0 H := ⟨n1, Nat.zero_le _, hH⟩
    refine lv_istore (lv' := [(13, .int v), (12, .ref (a [40])), (10, .long B), (9, .int u), (8, .int (nI c0)), (6, .int (nI P)), (5, .int (nI w)), (4, .int (nI A)), (3, .int (nI k)), (2, .int (nI T)), (1, .ref (a' [0])), (0, .ref (gSb g0))]) hx hb dL_law_552 hl (by decide) rfl (fun ls hl => ?_)
    refine lv_goto (tgt := 736) hx hb dL_law_554 (by decide) ?_
    exact t_736a hst hx hb hml hown hE hR hk nxt hRc hJ hv hL' (by omega) (by omega) (by omega) hG hS (lv_sub hl [0, 2, 3, 8, 9, 10, 11] rfl)
set_option maxHeartbeats 1000000 in
set_option maxRecDepth 100000 in
theorem b_move (hst : l.stackTraces = false) (hx : p.tables.exec = Jvm.exec) (hb : c.code = cL_law) (hml : c.maxLocals = 17) (hown : s.vm.findClass "CasebookStepsLaw" = some m.cls) (hE : ∀ a, xE (setG g0 a) s s.heap) (hR : 12 ≤ R.frames ∧ 300 ≤ R.locals) {k T C D J0 : Nat} (hk : k < 58) (nxt : ∀ (a' : List Nat → Nat) (h' : xS) (J : xI) (n' jn' : Nat) (H : Heap) (locs : List Loc) (ls : Array Slot) (cells slots : Nat), cells ≤ C → slots ≤ D → jn' ≤ J0 → LW h' J jn' → sOw h' = 0 → xR (setG g0 a') (xD h') J (xFh h') n' H → va_S (gA g0) s.heap H locs → lv_has ls 17 [(3, .int (nI (k + 1))), (2, .int (nI T)), (1, .ref (a' [0])), (0, .ref (gSb g0))] → W p l e R s m args below meth c H locs cells slots Q (F0 m 21 ls [])) (hRc : C ≤ R.cells ∧ D ≤ R.slots) (hJ : J0 ≤ 512) {A w c0 P : Nat} {u : Int32} {B : Int64} (hL : LW h I jn) (hj : jn + 1 ≤ J0) (ho : sOw h = 1) (hH : xR (setG g0 a) (xD h) I (xFh h) n H) {h0 : xS} {I0 : xI} (hL0 : LW h0 I0 jn) (hdr : ∀ (n : Nat) (H : Heap), xG_ (setG g0 a) (xD h) I (xFh h) n H → xG_ (setG g0 a) (xD h0) I0 (xFh h0) 0 H) (hu : u = 0 ∨ B = fSum h0 I0) (hw : w < 2 ^ 30) (hP : 0 < P ∧ P ≤ 3) (hc0 : c0 < 4 ∧ (c0 < sNc h ∨ sNc h = 0)) (hc : cells + 460 ≤ C) (hs : slots + 2800 ≤ D) (hS : va_S (gA g0) s.heap H locs) (hl : lv_has ls 17 [(13, .int 0), (12, .ref (a [40])), (10, .long B), (9, .int u), (8, .int (nI c0)), (6, .int (nI P)), (5, .int (nI w)), (4, .int (nI A)), (3, .int (nI k)), (2, .int (nI T)), (1, .ref (a [0])), (0, .ref (gSb g0))]) : W p l e R s m args below meth c H locs cells slots Q (F0 m 660 ls []) := by
  have hts := (hE a).ts args
  have hn4 := hL.n
  have hd40 : xD h [40] := (show 1 ≤ sOw h by omega)
  refine lv_aload_n hx hb dL_law_660 rfl (lv_at hl 10 rfl) ?_
  refine lv_iload hx hb dL_law_661 (lv_at hl 4 rfl) ?_
  refine lv_bipush (v := 109) hx hb dL_law_663 (by decide) ?_
  refine lv_iload hx hb dL_law_665 (lv_at hl 6 rfl) ?_
  refine lv_iconst (v := 4) hx hb dL_law_667 (by decide) ?_
  refine lv_idiv hx hb dL_law_668 (by decide) ?_
  rw [show ((nI w) / 4) = (nI (w / 4)) from nd_div (a := w) (b := 4) (by omega) (by omega) (by omega)]
  refine lv_iload hx hb dL_law_669 (lv_at hl 5 rfl) ?_
  refine lv_irem hx hb dL_law_671 (nd_ne (by omega) (by omega)) ?_
  rw [show ((nI (w / 4)) - (nI (w / 4)) / (nI P) * (nI P)) = (nI (((w / 4)) % P)) from nd_rem (a := (w / 4)) (b := P) (by omega) (by omega) (by omega)]
  refine lv_iconst (v := 0) hx hb dL_law_672 (by decide) ?_
  refine t_op hx hb hml hown hE hS hl.1 (o_move hst hL (by omega) (nI c0) (nI (((w / 4)) % P)) 0) cyL_happens tw564 rfl (by decide) hR ⟨by omega, by omega⟩ hH rfl dL_law_673 (fun v H locs hv hG hS => ?_) (fun a' h1 J n1 jn' v H locs mc ms ha hmc hms hjn hv hL' ho' hRr hH hS => ?_)
  · skip
    refine lv_istore (lv' := [(13, .int v), (12, .ref (a [40])), (10, .long B), (9, .int u), (8, .int (nI c0)), (6, .int (nI P)), (5, .int (nI w)), (4, .int (nI A)), (3, .int (nI k)), (2, .int (nI T)), (1, .ref (a [0])), (0, .ref (gSb g0))]) hx hb dL_law_676 hl (by decide) rfl (fun ls hl => ?_)
    refine lv_goto (tgt := 736) hx hb dL_law_678 (by decide) ?_
    exact t_736r hst hx hb hml hown hE hR hk nxt hRc hJ hv hu hL0 (by omega) (by omega) (by omega) (hdr _ _ hG) hS (lv_sub hl [0, 2, 3, 8, 9, 10, 11] rfl)
  · rw [show a [0] = a' [0] from (ha [0] trivial).symm] at hl
    have hG : xG_ (setG g0 a') (xD h1) J (xFh h1) 0 H := ⟨n1, Nat.zero_le _, hH⟩
    refine lv_istore (lv' := [(13, .int v), (12, .ref (a [40])), (10, .long B), (9, .int u), (8, .int (nI c0)), (6, .int (nI P)), (5, .int (nI w)), (4, .int (nI A)), (3, .int (nI k)), (2, .int (nI T)), (1, .ref (a' [0])), (0, .ref (gSb g0))]) hx hb dL_law_676 hl (by decide) rfl (fun ls hl => ?_)
    refine lv_goto (tgt := 736) hx hb dL_law_678 (by decide) ?_
    exact t_736a hst hx hb hml hown hE hR hk nxt hRc hJ hv hL' (by omega) (by omega) (by omega) hG hS (lv_sub hl [0, 2, 3, 8, 9, 10, 11] rfl)
set_option maxHeartbeats 1000000 in
set_option maxRecDepth 100000 in
theorem b_wait (hst : l.stackTraces = false) (hx : p.tables.exec = Jvm.exec) (hb : c.code = cL_law) (hml : c.maxLocals = 17) (hown : s.vm.findClass "CasebookStepsLaw" = some m.cls) (hE : ∀ a, xE (setG g0 a) s s.heap) (hR : 12 ≤ R.frames ∧ 300 ≤ R.locals) {k T C D J0 : Nat} (hk : k < 58) (nxt : ∀ (a' : List Nat → Nat) (h' : xS) (J : xI) (n' jn' : Nat) (H : Heap) (locs : List Loc) (ls : Array Slot) (cells slots : Nat), cells ≤ C → slots ≤ D → jn' ≤ J0 → LW h' J jn' → sOw h' = 0 → xR (setG g0 a') (xD h') J (xFh h') n' H → va_S (gA g0) s.heap H locs → lv_has ls 17 [(3, .int (nI (k + 1))), (2, .int (nI T)), (1, .ref (a' [0])), (0, .ref (gSb g0))] → W p l e R s m args below meth c H locs cells slots Q (F0 m 21 ls [])) (hRc : C ≤ R.cells ∧ D ≤ R.slots) (hJ : J0 ≤ 512) {A w c0 P : Nat} {u : Int32} {B : Int64} (hL : LW h I jn) (hj : jn + 1 ≤ J0) (ho : sOw h = 1) (hH : xR (setG g0 a) (xD h) I (xFh h) n H) {h0 : xS} {I0 : xI} (hL0 : LW h0 I0 jn) (hdr : ∀ (n : Nat) (H : Heap), xG_ (setG g0 a) (xD h) I (xFh h) n H → xG_ (setG g0 a) (xD h0) I0 (xFh h0) 0 H) (hu : u = 0 ∨ B = fSum h0 I0) (hw : w < 2 ^ 30) (hP : 0 < P ∧ P ≤ 3) (hc0 : c0 < 4 ∧ (c0 < sNc h ∨ sNc h = 0)) (hc : cells + 460 ≤ C) (hs : slots + 2800 ≤ D) (hS : va_S (gA g0) s.heap H locs) (hl : lv_has ls 17 [(13, .int 0), (12, .ref (a [40])), (10, .long B), (9, .int u), (8, .int (nI c0)), (6, .int (nI P)), (5, .int (nI w)), (4, .int (nI A)), (3, .int (nI k)), (2, .int (nI T)), (1, .ref (a [0])), (0, .ref (gSb g0))]) : W p l e R s m args below meth c H locs cells slots Q (F0 m 628 ls []) := by
  have hts := (hE a).ts args
  have hn4 := hL.n
  have hd40 : xD h [40] := (show 1 ≤ sOw h by omega)
  refine lv_aload_n hx hb dL_law_628 rfl (lv_at hl 10 rfl) ?_
  refine lv_iload hx hb dL_law_629 (lv_at hl 4 rfl) ?_
  refine lv_iload hx hb dL_law_631 (lv_at hl 6 rfl) ?_
  refine lv_iconst (v := 4) hx hb dL_law_633 (by decide) ?_
  refine lv_idiv hx hb dL_law_634 (by decide) ?_
  rw [show ((nI w) / 4) = (nI (w / 4)) from nd_div (a := w) (b := 4) (by omega) (by omega) (by omega)]
  refine lv_iconst (v := 2) hx hb dL_law_635 (by decide) ?_
  refine lv_irem hx hb dL_law_636 (by decide) ?_
  rw [show ((nI (w / 4)) - (nI (w / 4)) / 2 * 2) = (nI (((w / 4)) % 2)) from nd_rem (a := (w / 4)) (b := 2) (by omega) (by omega) (by omega)]
  refine lv_if_ne (tgt := 644) hx hb dL_law_637 (by decide) (fun _ => ?_) (fun _ => ?_)
  · skip
    refine lv_iconst (v := 0) hx hb dL_law_644 (by decide) ?_
    refine t_op hx hb hml hown hE hS hl.1 (o_waiting hst hL (by omega) (nI c0) 0 (Or.inl rfl)) cyL_waiting tw613 rfl (by decide) hR ⟨by omega, by omega⟩ hH rfl dL_law_645 (fun v H locs hv hG hS => ?_) (fun a' h1 J n1 jn' v H locs mc ms ha hmc hms hjn hv hL' ho' hRr hH hS => ?_)
    · skip
      refine lv_istore (lv' := [(13, .int v), (12, .ref (a [40])), (10, .long B), (9, .int u), (8, .int (nI c0)), (6, .int (nI P)), (5, .int (nI w)), (4, .int (nI A)), (3, .int (nI k)), (2, .int (nI T)), (1, .ref (a [0])), (0, .ref (gSb g0))]) hx hb dL_law_648 hl (by decide) rfl (fun ls hl => ?_)
      refine lv_goto (tgt := 736) hx hb dL_law_650 (by decide) ?_
      exact t_736r hst hx hb hml hown hE hR hk nxt hRc hJ hv hu hL0 (by omega) (by omega) (by omega) (hdr _ _ hG) hS (lv_sub hl [0, 2, 3, 8, 9, 10, 11] rfl)
    · rw [show a [0] = a' [0] from (ha [0] trivial).symm] at hl
      have hG : xG_ (setG g0 a') (xD h1) J (xFh h1) 0 H := ⟨n1, Nat.zero_le _, hH⟩
      refine lv_istore (lv' := [(13, .int v), (12, .ref (a [40])), (10, .long B), (9, .int u), (8, .int (nI c0)), (6, .int (nI P)), (5, .int (nI w)), (4, .int (nI A)), (3, .int (nI k)), (2, .int (nI T)), (1, .ref (a' [0])), (0, .ref (gSb g0))]) hx hb dL_law_648 hl (by decide) rfl (fun ls hl => ?_)
      refine lv_goto (tgt := 736) hx hb dL_law_650 (by decide) ?_
      exact t_736a hst hx hb hml hown hE hR hk nxt hRc hJ hv hL' (by omega) (by omega) (by omega) hG hS (lv_sub hl [0, 2, 3, 8, 9, 10, 11] rfl)
  · skip
    refine lv_iconst (v := 1) hx hb dL_law_640 (by decide) ?_
    refine lv_goto (tgt := 645) hx hb dL_law_641 (by decide) ?_
    refine t_op hx hb hml hown hE hS hl.1 (o_waiting hst hL (by omega) (nI c0) 1 (Or.inr rfl)) cyL_waiting tw613 rfl (by decide) hR ⟨by omega, by omega⟩ hH rfl dL_law_645 (fun v H locs hv hG hS => ?_) (fun a' h1 J n1 jn' v H locs mc ms ha hmc hms hjn hv hL' ho' hRr hH hS => ?_)
    · skip
      refine lv_istore (lv' := [(13, .int v), (12, .ref (a [40])), (10, .long B), (9, .int u), (8, .int (nI c0)), (6, .int (nI P)), (5, .int (nI w)), (4, .int (nI A)), (3, .int (nI k)), (2, .int (nI T)), (1, .ref (a [0])), (0, .ref (gSb g0))]) hx hb dL_law_648 hl (by decide) rfl (fun ls hl => ?_)
      refine lv_goto (tgt := 736) hx hb dL_law_650 (by decide) ?_
      exact t_736r hst hx hb hml hown hE hR hk nxt hRc hJ hv hu hL0 (by omega) (by omega) (by omega) (hdr _ _ hG) hS (lv_sub hl [0, 2, 3, 8, 9, 10, 11] rfl)
    · rw [show a [0] = a' [0] from (ha [0] trivial).symm] at hl
      have hG : xG_ (setG g0 a') (xD h1) J (xFh h1) 0 H := ⟨n1, Nat.zero_le _, hH⟩
      refine lv_istore (lv' := [(13, .int v), (12, .ref (a [40])), (10, .long B), (9, .int u), (8, .int (nI c0)), (6, .int (nI P)), (5, .int (nI w)), (4, .int (nI A)), (3, .int (nI k)), (2, .int (nI T)), (1, .ref (a' [0])), (0, .ref (gSb g0))]) hx hb dL_law_648 hl (by decide) rfl (fun ls hl => ?_)
      refine lv_goto (tgt := 736) hx hb dL_law_650 (by decide) ?_
      exact t_736a hst hx hb hml hown hE hR hk nxt hRc hJ hv hL' (by omega) (by omega) (by omega) hG hS (lv_sub hl [0, 2, 3, 8, 9, 10, 11] rfl)
set_option maxHeartbeats 1000000 in
set_option maxRecDepth 100000 in
theorem b_set (hst : l.stackTraces = false) (hx : p.tables.exec = Jvm.exec) (hb : c.code = cL_law) (hml : c.maxLocals = 17) (hown : s.vm.findClass "CasebookStepsLaw" = some m.cls) (hE : ∀ a, xE (setG g0 a) s s.heap) (hR : 12 ≤ R.frames ∧ 300 ≤ R.locals) {k T C D J0 : Nat} (hk : k < 58) (nxt : ∀ (a' : List Nat → Nat) (h' : xS) (J : xI) (n' jn' : Nat) (H : Heap) (locs : List Loc) (ls : Array Slot) (cells slots : Nat), cells ≤ C → slots ≤ D → jn' ≤ J0 → LW h' J jn' → sOw h' = 0 → xR (setG g0 a') (xD h') J (xFh h') n' H → va_S (gA g0) s.heap H locs → lv_has ls 17 [(3, .int (nI (k + 1))), (2, .int (nI T)), (1, .ref (a' [0])), (0, .ref (gSb g0))] → W p l e R s m args below meth c H locs cells slots Q (F0 m 21 ls [])) (hRc : C ≤ R.cells ∧ D ≤ R.slots) (hJ : J0 ≤ 512) {A w c0 P : Nat} {u : Int32} {B : Int64} (hL : LW h I jn) (hj : jn + 1 ≤ J0) (ho : sOw h = 1) (hH : xR (setG g0 a) (xD h) I (xFh h) n H) {h0 : xS} {I0 : xI} (hL0 : LW h0 I0 jn) (hdr : ∀ (n : Nat) (H : Heap), xG_ (setG g0 a) (xD h) I (xFh h) n H → xG_ (setG g0 a) (xD h0) I0 (xFh h0) 0 H) (hu : u = 0 ∨ B = fSum h0 I0) (hw : w < 2 ^ 30) (hP : 0 < P ∧ P ≤ 3) (hc0 : c0 < 4 ∧ (c0 < sNc h ∨ sNc h = 0)) (hc : cells + 460 ≤ C) (hs : slots + 2800 ≤ D) (hS : va_S (gA g0) s.heap H locs) (hl : lv_has ls 17 [(13, .int 0), (12, .ref (a [40])), (10, .long B), (9, .int u), (8, .int (nI c0)), (6, .int (nI P)), (5, .int (nI w)), (4, .int (nI A)), (3, .int (nI k)), (2, .int (nI T)), (1, .ref (a [0])), (0, .ref (gSb g0))]) : W p l e R s m args below meth c H locs cells slots Q (F0 m 425 ls []) := by
  have hts := (hE a).ts args
  have hn4 := hL.n
  have hd40 : xD h [40] := (show 1 ≤ sOw h by omega)
  refine lv_aload_n hx hb dL_law_425 rfl (lv_at hl 10 rfl) ?_
  refine lv_iload hx hb dL_law_426 (lv_at hl 4 rfl) ?_
  refine lv_bipush (v := 6) hx hb dL_law_428 (by decide) ?_
  have hG : xG_ (setG g0 a) (xD h) I (xFh h) 0 H := ⟨n, Nat.zero_le _, hH⟩
  refine x_rd (g := setG g0 a) hx hb hml hown (hE a) hS hl.1 cyL_case0 tw712 (fun n1 => r_c6 hst (setG g0 a) n1 hL c0 (by omega)) (by decide) ⟨by omega, by omega⟩ ⟨by omega, by omega⟩ hG rfl rfl (Nat.le_of_ble_eq_true rfl) dL_law_430 (fun H locs hG hS => ?_)
  obtain ⟨n2, -, hH⟩ := hG
  refine lv_istore (lv' := [(15, .int (vC0 h I c0 6)), (13, .int 0), (12, .ref (a [40])), (10, .long B), (9, .int u), (8, .int (nI c0)), (6, .int (nI P)), (5, .int (nI w)), (4, .int (nI A)), (3, .int (nI k)), (2, .int (nI T)), (1, .ref (a [0])), (0, .ref (gSb g0))]) hx hb dL_law_433 hl (by decide) rfl (fun ls hl => ?_)
  refine lv_aload_n hx hb dL_law_435 rfl (lv_at hl 11 rfl) ?_
  refine lv_iload hx hb dL_law_436 (lv_at hl 5 rfl) ?_
  refine lv_bipush (v := 100) hx hb dL_law_438 (by decide) ?_
  refine lv_iload hx hb dL_law_440 (lv_at hl 7 rfl) ?_
  refine lv_iconst (v := 4) hx hb dL_law_442 (by decide) ?_
  refine lv_idiv hx hb dL_law_443 (by decide) ?_
  rw [show ((nI w) / 4) = (nI (w / 4)) from nd_div (a := w) (b := 4) (by omega) (by omega) (by omega)]
  refine lv_iconst (v := 4) hx hb dL_law_444 (by decide) ?_
  refine lv_irem hx hb dL_law_445 (by decide) ?_
  rw [show ((nI (w / 4)) - (nI (w / 4)) / 4 * 4) = (nI (((w / 4)) % 4)) from nd_rem (a := (w / 4)) (b := 4) (by omega) (by omega) (by omega)]
  refine lv_iload hx hb dL_law_446 (lv_at hl 7 rfl) ?_
  refine lv_bipush (v := 16) hx hb dL_law_448 (by decide) ?_
  refine lv_idiv hx hb dL_law_450 (by decide) ?_
  rw [show ((nI w) / 16) = (nI (w / 16)) from nd_div (a := w) (b := 16) (by omega) (by omega) (by omega)]
  refine lv_bipush (v := 7) hx hb dL_law_451 (by decide) ?_
  refine lv_irem hx hb dL_law_453 (by decide) ?_
  rw [show ((nI (w / 16)) - (nI (w / 16)) / 7 * 7) = (nI (((w / 16)) % 7)) from nd_rem (a := (w / 16)) (b := 7) (by omega) (by omega) (by omega)]
  refine lv_iconst (v := 3) hx hb dL_law_454 (by decide) ?_
  refine lv_isub hx hb dL_law_455 ?_
  refine t_op hx hb hml hown hE hS hl.1 (o_set (n := n2) hst hL (by omega) (nI c0) (nI (((w / 4)) % 4)) ((nI (((w / 16)) % 7)) - 3)) cyL_happens tw564 rfl (by decide) hR ⟨by omega, by omega⟩ hH rfl dL_law_456 (fun v H locs hv hG hS => ?_) (fun a' h1 J n1 jn' v H locs mc ms ha hmc hms hjn hv hL' ho' hRr hH hS => ?_)
  · skip
    refine lv_istore (lv' := [(13, .int v), (15, .int (vC0 h I c0 6)), (12, .ref (a [40])), (10, .long B), (9, .int u), (8, .int (nI c0)), (6, .int (nI P)), (5, .int (nI w)), (4, .int (nI A)), (3, .int (nI k)), (2, .int (nI T)), (1, .ref (a [0])), (0, .ref (gSb g0))]) hx hb dL_law_459 hl (by decide) rfl (fun ls hl => ?_)
    refine lv_iload hx hb dL_law_461 (lv_at hl 0 rfl) ?_
    refine lv_sipush (v := (-1000)) hx hb dL_law_463 (by decide) ?_
    refine lv_icmp_le (tgt := 511) hx hb dL_law_466 (by decide) (fun _ => ?_) (fun q => ?_)
    · skip
      refine lv_iload hx hb dL_law_511 (lv_at hl 0 rfl) ?_
      refine lv_sipush (v := (-1000)) hx hb dL_law_513 (by decide) ?_
      refine lv_icmp_le (tgt := 523) hx hb dL_law_516 (by decide) (fun _ => ?_) (fun q => ?_)
      · skip
        refine lv_iload hx hb dL_law_523 (lv_at hl 0 rfl) ?_
        refine lv_istore (lv' := [(13, .int v), (15, .int (vC0 h I c0 6)), (12, .ref (a [40])), (10, .long B), (9, .int u), (8, .int (nI c0)), (6, .int (nI P)), (5, .int (nI w)), (4, .int (nI A)), (3, .int (nI k)), (2, .int (nI T)), (1, .ref (a [0])), (0, .ref (gSb g0))]) hx hb dL_law_525 hl (by decide) rfl (fun ls hl => ?_)
        refine lv_goto (tgt := 736) hx hb dL_law_527 (by decide) ?_
        exact t_736r hst hx hb hml hown hE hR hk nxt hRc hJ hv hu hL0 (by omega) (by omega) (by omega) (hdr _ _ hG) hS (lv_sub hl [0, 3, 4, 9, 10, 11, 12] rfl)
      · exact absurd (Int32.le_of_lt hv) q
    · exact absurd (Int32.le_of_lt hv) q
  · rw [show a [0] = a' [0] from (ha [0] trivial).symm] at hl
    have hG : xG_ (setG g0 a') (xD h1) J (xFh h1) 0 H := ⟨n1, Nat.zero_le _, hH⟩
    obtain ⟨hnc, c1, k1, hq1, hq2, hq3, hq4, hq5, hq6⟩ := hRr
    have hq7 : c0 = c1 := (nI_eq (by omega) (by have := hn4.2.1; omega)).mp hq1
    have hq8 : (((w / 4)) % 4) = k1 := (nI_eq (by omega) (by omega)).mp hq2
    subst hq7
    subst hq8
    refine lv_istore (lv' := [(13, .int v), (15, .int (vC0 h I c0 6)), (12, .ref (a [40])), (10, .long B), (9, .int u), (8, .int (nI c0)), (6, .int (nI P)), (5, .int (nI w)), (4, .int (nI A)), (3, .int (nI k)), (2, .int (nI T)), (1, .ref (a' [0])), (0, .ref (gSb g0))]) hx hb dL_law_459 hl (by decide) rfl (fun ls hl => ?_)
    refine lv_iload hx hb dL_law_461 (lv_at hl 0 rfl) ?_
    refine lv_sipush (v := (-1000)) hx hb dL_law_463 (by decide) ?_
    refine lv_icmp_le (tgt := 511) hx hb dL_law_466 (by decide) (fun q => ?_) (fun q => ?_)
    · exact absurd hv (Int32.not_lt.mpr q)
    · skip
      refine lv_aload_n hx hb dL_law_469 rfl (lv_at hl 11 rfl) ?_
      refine lv_iload hx hb dL_law_470 (lv_at hl 5 rfl) ?_
      refine lv_iload hx hb dL_law_472 (lv_at hl 7 rfl) ?_
      refine lv_iconst (v := 4) hx hb dL_law_474 (by decide) ?_
      refine lv_idiv hx hb dL_law_475 (by decide) ?_
      rw [show ((nI w) / 4) = (nI (w / 4)) from nd_div (a := w) (b := 4) (by omega) (by omega) (by omega)]
      refine lv_iconst (v := 4) hx hb dL_law_476 (by decide) ?_
      refine lv_irem hx hb dL_law_477 (by decide) ?_
      rw [show ((nI (w / 4)) - (nI (w / 4)) / 4 * 4) = (nI (((w / 4)) % 4)) from nd_rem (a := (w / 4)) (b := 4) (by omega) (by omega) (by omega)]
      refine x_rd (g := setG g0 a') hx hb hml hown (hE a') hS hl.1 cyL_datum tw760 (fun n1 => r_da hst (setG g0 a') n1 hL' c0 (by omega) ((((w / 4)) % 4)) (by omega)) (by decide) ⟨by omega, by omega⟩ ⟨by omega, by omega⟩ hG rfl rfl (Nat.le_of_ble_eq_true rfl) dL_law_478 (fun H locs hG hS => ?_)
      refine lv_iload hx hb dL_law_481 (lv_at hl 7 rfl) ?_
      refine lv_bipush (v := 16) hx hb dL_law_483 (by decide) ?_
      refine lv_idiv hx hb dL_law_485 (by decide) ?_
      rw [show ((nI w) / 16) = (nI (w / 16)) from nd_div (a := w) (b := 16) (by omega) (by omega) (by omega)]
      refine lv_bipush (v := 7) hx hb dL_law_486 (by decide) ?_
      refine lv_irem hx hb dL_law_488 (by decide) ?_
      rw [show ((nI (w / 16)) - (nI (w / 16)) / 7 * 7) = (nI (((w / 16)) % 7)) from nd_rem (a := (w / 16)) (b := 7) (by omega) (by omega) (by omega)]
      refine lv_iconst (v := 3) hx hb dL_law_489 (by decide) ?_
      refine lv_isub hx hb dL_law_490 ?_
      refine lv_icmp_ne (tgt := 509) hx hb dL_law_491 (by decide) (fun q2 => ?_) (fun _ => ?_)
      · exact absurd hq6 q2
      · skip
        refine lv_aload_n hx hb dL_law_494 rfl (lv_at hl 11 rfl) ?_
        refine lv_iload hx hb dL_law_495 (lv_at hl 5 rfl) ?_
        refine lv_bipush (v := 6) hx hb dL_law_497 (by decide) ?_
        refine x_rd (g := setG g0 a') hx hb hml hown (hE a') hS hl.1 cyL_case0 tw712 (fun n1 => r_c6 hst (setG g0 a') n1 hL' c0 (by omega)) (by decide) ⟨by omega, by omega⟩ ⟨by omega, by omega⟩ hG rfl rfl (Nat.le_of_ble_eq_true rfl) dL_law_499 (fun H locs hG hS => ?_)
        refine lv_iload hx hb dL_law_502 (lv_at hl 1 rfl) ?_
        refine lv_iconst (v := 1) hx hb dL_law_504 (by decide) ?_
        refine lv_iadd hx hb dL_law_505 ?_
        refine lv_icmp_eq (tgt := 511) hx hb dL_law_506 (by decide) (fun _ => ?_) (fun q3 => ?_)
        · skip
          refine lv_iload hx hb dL_law_511 (lv_at hl 0 rfl) ?_
          refine lv_sipush (v := (-1000)) hx hb dL_law_513 (by decide) ?_
          refine lv_icmp_le (tgt := 523) hx hb dL_law_516 (by decide) (fun q => ?_) (fun _ => ?_)
          · exact absurd hv (Int32.not_lt.mpr q)
          · skip
            refine lv_iconst (v := 0) hx hb dL_law_519 (by decide) ?_
            refine lv_goto (tgt := 525) hx hb dL_law_520 (by decide) ?_
            refine lv_istore (lv' := [(13, .int 0), (15, .int (vC0 h I c0 6)), (12, .ref (a [40])), (10, .long B), (9, .int u), (8, .int (nI c0)), (6, .int (nI P)), (5, .int (nI w)), (4, .int (nI A)), (3, .int (nI k)), (2, .int (nI T)), (1, .ref (a' [0])), (0, .ref (gSb g0))]) hx hb dL_law_525 hl (by decide) rfl (fun ls hl => ?_)
            refine lv_goto (tgt := 736) hx hb dL_law_527 (by decide) ?_
            exact t_736a hst hx hb hml hown hE hR hk nxt hRc hJ (v := 0) (by decide) hL' (by omega) (by omega) (by omega) hG hS (lv_sub hl [0, 3, 4, 9, 10, 11, 12] rfl)
        · refine absurd ?_ q3
          rw [show vC0 h1 J c0 6 = gX J c0 0 10 from if_pos (by omega), show vC0 h I c0 6 = gX I c0 0 10 from if_pos hq3]; exact hq5
set_option maxHeartbeats 1000000 in
set_option maxRecDepth 100000 in
theorem b_comp (hst : l.stackTraces = false) (hx : p.tables.exec = Jvm.exec) (hb : c.code = cL_law) (hml : c.maxLocals = 17) (hown : s.vm.findClass "CasebookStepsLaw" = some m.cls) (hE : ∀ a, xE (setG g0 a) s s.heap) (hR : 12 ≤ R.frames ∧ 300 ≤ R.locals) {k T C D J0 : Nat} (hk : k < 58) (nxt : ∀ (a' : List Nat → Nat) (h' : xS) (J : xI) (n' jn' : Nat) (H : Heap) (locs : List Loc) (ls : Array Slot) (cells slots : Nat), cells ≤ C → slots ≤ D → jn' ≤ J0 → LW h' J jn' → sOw h' = 0 → xR (setG g0 a') (xD h') J (xFh h') n' H → va_S (gA g0) s.heap H locs → lv_has ls 17 [(3, .int (nI (k + 1))), (2, .int (nI T)), (1, .ref (a' [0])), (0, .ref (gSb g0))] → W p l e R s m args below meth c H locs cells slots Q (F0 m 21 ls [])) (hRc : C ≤ R.cells ∧ D ≤ R.slots) (hJ : J0 ≤ 512) {A w c0 P : Nat} {u : Int32} {B : Int64} (hL : LW h I jn) (hj : jn + 1 ≤ J0) (ho : sOw h = 1) (hH : xR (setG g0 a) (xD h) I (xFh h) n H) {h0 : xS} {I0 : xI} (hL0 : LW h0 I0 jn) (hdr : ∀ (n : Nat) (H : Heap), xG_ (setG g0 a) (xD h) I (xFh h) n H → xG_ (setG g0 a) (xD h0) I0 (xFh h0) 0 H) (hu : u = 0 ∨ B = fSum h0 I0) (hw : w < 2 ^ 30) (hP : 0 < P ∧ P ≤ 3) (hc0 : c0 < 4 ∧ (c0 < sNc h ∨ sNc h = 0)) (hc : cells + 460 ≤ C) (hs : slots + 2800 ≤ D) (hS : va_S (gA g0) s.heap H locs) (hl : lv_has ls 17 [(13, .int 0), (12, .ref (a [40])), (10, .long B), (9, .int u), (8, .int (nI c0)), (6, .int (nI P)), (5, .int (nI w)), (4, .int (nI A)), (3, .int (nI k)), (2, .int (nI T)), (1, .ref (a [0])), (0, .ref (gSb g0))]) : W p l e R s m args below meth c H locs cells slots Q (F0 m 564 ls []) := by
  have hts := (hE a).ts args
  have hn4 := hL.n
  have hd40 : xD h [40] := (show 1 ≤ sOw h by omega)
  refine lv_iload hx hb dL_law_564 (lv_at hl 6 rfl) ?_
  refine lv_iconst (v := 4) hx hb dL_law_566 (by decide) ?_
  refine lv_idiv hx hb dL_law_567 (by decide) ?_
  rw [show ((nI w) / 4) = (nI (w / 4)) from nd_div (a := w) (b := 4) (by omega) (by omega) (by omega)]
  refine lv_bipush (v := 8) hx hb dL_law_568 (by decide) ?_
  refine lv_irem hx hb dL_law_570 (by decide) ?_
  rw [show ((nI (w / 4)) - (nI (w / 4)) / 8 * 8) = (nI (((w / 4)) % 8)) from nd_rem (a := (w / 4)) (b := 8) (by omega) (by omega) (by omega)]
  refine lv_istore (lv' := [(15, .int (nI (((w / 4)) % 8))), (13, .int 0), (12, .ref (a [40])), (10, .long B), (9, .int u), (8, .int (nI c0)), (6, .int (nI P)), (5, .int (nI w)), (4, .int (nI A)), (3, .int (nI k)), (2, .int (nI T)), (1, .ref (a [0])), (0, .ref (gSb g0))]) hx hb dL_law_571 hl (by decide) rfl (fun ls hl => ?_)
  refine lv_aload_n hx hb dL_law_573 rfl (lv_at hl 11 rfl) ?_
  refine lv_iload hx hb dL_law_574 (lv_at hl 5 rfl) ?_
  refine lv_iload hx hb dL_law_576 (lv_at hl 0 rfl) ?_
  refine t_op hx hb hml hown hE hS hl.1 (o_complete hst hL (by omega) (nI c0) (nI (((w / 4)) % 8))) cyL_complete tw604 rfl (by decide) hR ⟨by omega, by omega⟩ hH rfl dL_law_578 (fun v H locs hv hG hS => ?_) (fun a' h1 J n1 jn' v H locs mc ms ha hmc hms hjn hv hL' ho' hRr hH hS => ?_)
  · skip
    refine lv_istore (lv' := [(13, .int v), (15, .int (nI (((w / 4)) % 8))), (12, .ref (a [40])), (10, .long B), (9, .int u), (8, .int (nI c0)), (6, .int (nI P)), (5, .int (nI w)), (4, .int (nI A)), (3, .int (nI k)), (2, .int (nI T)), (1, .ref (a [0])), (0, .ref (gSb g0))]) hx hb dL_law_581 hl (by decide) rfl (fun ls hl => ?_)
    refine lv_iload hx hb dL_law_583 (lv_at hl 0 rfl) ?_
    refine lv_if_lt (tgt := 618) hx hb dL_law_585 (by decide) (fun _ => ?_) (fun q => ?_)
    · skip
      refine lv_goto (tgt := 736) hx hb dL_law_618 (by decide) ?_
      exact t_736r hst hx hb hml hown hE hR hk nxt hRc hJ hv hu hL0 (by omega) (by omega) (by omega) (hdr _ _ hG) hS (lv_sub hl [0, 3, 4, 9, 10, 11, 12] rfl)
    · exact absurd (Int32.lt_trans hv (by decide)) q
  · rw [show a [0] = a' [0] from (ha [0] trivial).symm] at hl
    have hG : xG_ (setG g0 a') (xD h1) J (xFh h1) 0 H := ⟨n1, Nat.zero_le _, hH⟩
    obtain ⟨c1, j1, hq1, hq2, hq3, hq4, hq5, hq6⟩ := hRr
    have hn5 := hL'.n
    have hn6 := hn5.2.2.2 c1 hq3
    have hq7 : c0 = c1 := (nI_eq (by omega) (by omega)).mp hq1
    have hq8 : (((w / 4)) % 8) = j1 := (nI_eq (by omega) (by omega)).mp hq2
    subst hq7
    subst hq8
    refine lv_istore (lv' := [(13, .int v), (15, .int (nI (((w / 4)) % 8))), (12, .ref (a [40])), (10, .long B), (9, .int u), (8, .int (nI c0)), (6, .int (nI P)), (5, .int (nI w)), (4, .int (nI A)), (3, .int (nI k)), (2, .int (nI T)), (1, .ref (a' [0])), (0, .ref (gSb g0))]) hx hb dL_law_581 hl (by decide) rfl (fun ls hl => ?_)
    refine lv_iload hx hb dL_law_583 (lv_at hl 0 rfl) ?_
    refine lv_if_lt (tgt := 618) hx hb dL_law_585 (by decide) (fun _ => ?_) (fun _ => ?_)
    · skip
      refine lv_goto (tgt := 736) hx hb dL_law_618 (by decide) ?_
      exact t_736a hst hx hb hml hown hE hR hk nxt hRc hJ hv hL' (by omega) (by omega) (by omega) hG hS (lv_sub hl [0, 3, 4, 9, 10, 11, 12] rfl)
    · skip
      refine lv_aload_n hx hb dL_law_588 rfl (lv_at hl 11 rfl) ?_
      refine lv_iload hx hb dL_law_589 (lv_at hl 5 rfl) ?_
      refine lv_iload hx hb dL_law_591 (lv_at hl 1 rfl) ?_
      refine lv_iconst (v := 0) hx hb dL_law_593 (by decide) ?_
      have hva : vAt h1 J c0 ((((w / 4)) % 8)) 0 = 99 := (if_pos hq4).trans ((if_pos rfl).trans hq6)
      refine x_rd (g := setG g0 a') hx hb hml hown (hE a') hS hl.1 cyL_at tw644 (fun n1 => hva ▸ r_a0 hst (setG g0 a') n1 hL' c0 hq3 ((((w / 4)) % 8)) (by omega)) (by decide) ⟨by omega, by omega⟩ ⟨by omega, by omega⟩ hG rfl rfl (Nat.le_of_ble_eq_true rfl) dL_law_594 (fun H locs hG hS => ?_)
      refine lv_bipush (v := 99) hx hb dL_law_597 (by decide) ?_
      refine lv_icmp_ne (tgt := 616) hx hb dL_law_599 (by decide) (fun q_ => absurd (by decide) q_) (fun _ => ?_)
      refine lv_aload_n hx hb dL_law_602 rfl (lv_at hl 11 rfl) ?_
      refine lv_iload hx hb dL_law_603 (lv_at hl 5 rfl) ?_
      refine lv_iload hx hb dL_law_605 (lv_at hl 1 rfl) ?_
      refine x_rd (g := setG g0 a') hx hb hml hown (hE a') hS hl.1 cyL_complete tw604 (fun n1 => ⟨_, _, ⟨by omega, by omega⟩, w_complete_eIS l (setG g0 a') (xD h1) J (xFh h1) n1 _ _ (nI c0) (nI ((((w / 4)) % 8))) trivial (t_X6_complete_a l hst (setG g0 a') h1 J n1 hL'.1.1.1 hL'.1.2.1.1 c0 hq3 ((((w / 4)) % 8)) hq4 hq5 (fun z => absurd (hq6.symm.trans z) (by decide)))⟩) (by decide) ⟨by omega, by omega⟩ ⟨by omega, by omega⟩ hG rfl rfl (Nat.le_of_ble_eq_true rfl) dL_law_607 (fun H locs hG hS => ?_)
      refine lv_sipush (v := (-1003)) hx hb dL_law_610 (by decide) ?_
      refine lv_icmp_eq (tgt := 618) hx hb dL_law_613 (by decide) (fun _ => ?_) (fun q_ => absurd (by decide) q_)
      refine lv_goto (tgt := 736) hx hb dL_law_618 (by decide) ?_
      exact t_736a hst hx hb hml hown hE hR hk nxt hRc hJ hv hL' (by omega) (by omega) (by omega) hG hS (lv_sub hl [0, 3, 4, 9, 10, 11, 12] rfl)
set_option maxHeartbeats 1000000 in
set_option maxRecDepth 100000 in
theorem b_pass (hst : l.stackTraces = false) (hx : p.tables.exec = Jvm.exec) (hb : c.code = cL_law) (hml : c.maxLocals = 17) (hown : s.vm.findClass "CasebookStepsLaw" = some m.cls) (hE : ∀ a, xE (setG g0 a) s s.heap) (hR : 12 ≤ R.frames ∧ 300 ≤ R.locals) {k T C D J0 : Nat} (hk : k < 58) (nxt : ∀ (a' : List Nat → Nat) (h' : xS) (J : xI) (n' jn' : Nat) (H : Heap) (locs : List Loc) (ls : Array Slot) (cells slots : Nat), cells ≤ C → slots ≤ D → jn' ≤ J0 → LW h' J jn' → sOw h' = 0 → xR (setG g0 a') (xD h') J (xFh h') n' H → va_S (gA g0) s.heap H locs → lv_has ls 17 [(3, .int (nI (k + 1))), (2, .int (nI T)), (1, .ref (a' [0])), (0, .ref (gSb g0))] → W p l e R s m args below meth c H locs cells slots Q (F0 m 21 ls [])) (hRc : C ≤ R.cells ∧ D ≤ R.slots) (hJ : J0 ≤ 512) {A w c0 P : Nat} {u : Int32} {B : Int64} (hL : LW h I jn) (hj : jn + 1 ≤ J0) (ho : sOw h = 1) (hH : xR (setG g0 a) (xD h) I (xFh h) n H) {h0 : xS} {I0 : xI} (hL0 : LW h0 I0 jn) (hdr : ∀ (n : Nat) (H : Heap), xG_ (setG g0 a) (xD h) I (xFh h) n H → xG_ (setG g0 a) (xD h0) I0 (xFh h0) 0 H) (hu : u = 0 ∨ B = fSum h0 I0) (hw : w < 2 ^ 30) (hP : 0 < P ∧ P ≤ 3) (hc0 : c0 < 4 ∧ (c0 < sNc h ∨ sNc h = 0)) (hc : cells + 460 ≤ C) (hs : slots + 2800 ≤ D) (hS : va_S (gA g0) s.heap H locs) (hl : lv_has ls 17 [(13, .int 0), (12, .ref (a [40])), (10, .long B), (9, .int u), (8, .int (nI c0)), (6, .int (nI P)), (5, .int (nI w)), (4, .int (nI A)), (3, .int (nI k)), (2, .int (nI T)), (1, .ref (a [0])), (0, .ref (gSb g0))]) : W p l e R s m args below meth c H locs cells slots Q (F0 m 681 ls []) := by
  have hts := (hE a).ts args
  have hn4 := hL.n
  have hd40 : xD h [40] := (show 1 ≤ sOw h by omega)
  refine lv_aload_n hx hb dL_law_681 rfl (lv_at hl 10 rfl) ?_
  refine lv_iload hx hb dL_law_682 (lv_at hl 4 rfl) ?_
  refine lv_iconst (v := 3) hx hb dL_law_684 (by decide) ?_
  have hG : xG_ (setG g0 a) (xD h) I (xFh h) 0 H := ⟨n, Nat.zero_le _, hH⟩
  refine x_rd (g := setG g0 a) hx hb hml hown (hE a) hS hl.1 cyL_case0 tw712 (fun n1 => r_c3 hst (setG g0 a) n1 hL c0 (by omega)) (by decide) ⟨by omega, by omega⟩ ⟨by omega, by omega⟩ hG rfl rfl (Nat.le_of_ble_eq_true rfl) dL_law_685 (fun H locs hG hS => ?_)
  obtain ⟨n2, -, hH⟩ := hG
  refine lv_istore (lv' := [(15, .int (vC0 h I c0 3)), (13, .int 0), (12, .ref (a [40])), (10, .long B), (9, .int u), (8, .int (nI c0)), (6, .int (nI P)), (5, .int (nI w)), (4, .int (nI A)), (3, .int (nI k)), (2, .int (nI T)), (1, .ref (a [0])), (0, .ref (gSb g0))]) hx hb dL_law_688 hl (by decide) rfl (fun ls hl => ?_)
  refine lv_iload hx hb dL_law_690 (lv_at hl 7 rfl) ?_
  refine lv_iconst (v := 4) hx hb dL_law_692 (by decide) ?_
  refine lv_idiv hx hb dL_law_693 (by decide) ?_
  rw [show ((nI w) / 4) = (nI (w / 4)) from nd_div (a := w) (b := 4) (by omega) (by omega) (by omega)]
  refine lv_bipush (v := 6) hx hb dL_law_694 (by decide) ?_
  refine lv_irem hx hb dL_law_696 (by decide) ?_
  rw [show ((nI (w / 4)) - (nI (w / 4)) / 6 * 6) = (nI (((w / 4)) % 6)) from nd_rem (a := (w / 4)) (b := 6) (by omega) (by omega) (by omega)]
  refine lv_istore (lv' := [(16, .int (nI (((w / 4)) % 6))), (15, .int (vC0 h I c0 3)), (13, .int 0), (12, .ref (a [40])), (10, .long B), (9, .int u), (8, .int (nI c0)), (6, .int (nI P)), (5, .int (nI w)), (4, .int (nI A)), (3, .int (nI k)), (2, .int (nI T)), (1, .ref (a [0])), (0, .ref (gSb g0))]) hx hb dL_law_697 hl (by decide) rfl (fun ls hl => ?_)
  refine lv_aload_n hx hb dL_law_699 rfl (lv_at hl 12 rfl) ?_
  refine lv_iload hx hb dL_law_700 (lv_at hl 0 rfl) ?_
  refine t_op hx hb hml hown hE hS hl.1 (o_pass (n := n2) hst hL (by omega) (nI (((w / 4)) % 6))) cyL_pass tw620 rfl (by decide) hR ⟨by omega, by omega⟩ hH rfl dL_law_702 (fun v H locs hv hG hS => ?_) (fun a' h1 J n1 jn' v H locs mc ms ha hmc hms hjn hv hL' ho' hRr hH hS => ?_)
  · skip
    refine lv_istore (lv' := [(13, .int v), (16, .int (nI (((w / 4)) % 6))), (15, .int (vC0 h I c0 3)), (12, .ref (a [40])), (10, .long B), (9, .int u), (8, .int (nI c0)), (6, .int (nI P)), (5, .int (nI w)), (4, .int (nI A)), (3, .int (nI k)), (2, .int (nI T)), (1, .ref (a [0])), (0, .ref (gSb g0))]) hx hb dL_law_705 hl (by decide) rfl (fun ls hl => ?_)
    refine lv_iload hx hb dL_law_707 (lv_at hl 0 rfl) ?_
    refine lv_if_lt (tgt := 736) hx hb dL_law_709 (by decide) (fun _ => ?_) (fun q => ?_)
    · skip
      exact t_736r hst hx hb hml hown hE hR hk nxt hRc hJ hv hu hL0 (by omega) (by omega) (by omega) (hdr _ _ hG) hS (lv_sub hl [0, 4, 5, 10, 11, 12, 13] rfl)
    · exact absurd (Int32.lt_trans hv (by decide)) q
  · rw [show a [0] = a' [0] from (ha [0] trivial).symm] at hl
    have hG : xG_ (setG g0 a') (xD h1) J (xFh h1) 0 H := ⟨n1, Nat.zero_le _, hH⟩
    obtain ⟨hnc, hq1⟩ := hRr
    have hn5 := hL'.n
    refine lv_istore (lv' := [(13, .int v), (16, .int (nI (((w / 4)) % 6))), (15, .int (vC0 h I c0 3)), (12, .ref (a [40])), (10, .long B), (9, .int u), (8, .int (nI c0)), (6, .int (nI P)), (5, .int (nI w)), (4, .int (nI A)), (3, .int (nI k)), (2, .int (nI T)), (1, .ref (a' [0])), (0, .ref (gSb g0))]) hx hb dL_law_705 hl (by decide) rfl (fun ls hl => ?_)
    refine lv_iload hx hb dL_law_707 (lv_at hl 0 rfl) ?_
    refine lv_if_lt (tgt := 736) hx hb dL_law_709 (by decide) (fun _ => ?_) (fun _ => ?_)
    · skip
      exact t_736a hst hx hb hml hown hE hR hk nxt hRc hJ hv hL' (by omega) (by omega) (by omega) hG hS (lv_sub hl [0, 4, 5, 10, 11, 12, 13] rfl)
    · skip
      refine lv_aload_n hx hb dL_law_712 rfl (lv_at hl 12 rfl) ?_
      obtain ⟨n3, -, hH⟩ := hG
      refine x_V1 (own := "CasebookStepsLaw") (g := setG g0 a') hx hb hml hown (hE a') hS hl.1 cyX6_cases tw150 (c_X6_cases l (setG g0 a') h1 J n3 hL'.1.1.1 hL'.1.2.1.1) ⟨by omega, by omega⟩ ⟨by omega, by omega⟩ (x_recv (hE a').1 hH (id := [0]) trivial (ci := 6) rfl (by decide) rfl) hH rfl rfl (Nat.le_of_ble_eq_true rfl) dL_law_713 (fun H locs hH hS => ?_)
      have hG : xG_ (setG g0 a') (xD h1) J (xFh h1) 0 H := ⟨n3, Nat.zero_le _, hH⟩
      refine lv_if_le (tgt := 736) hx hb dL_law_716 (by decide) (fun _ => ?_) (fun q => ?_)
      · skip
        exact t_736a hst hx hb hml hown hE hR hk nxt hRc hJ hv hL' (by omega) (by omega) (by omega) hG hS (lv_sub hl [0, 4, 5, 10, 11, 12, 13] rfl)
      · have hcs : c0 < sNc h := by
          have z : ¬ sNc h1 = 0 := fun z => q (by rw [z]; decide)
          omega
        refine lv_aload_n hx hb dL_law_719 rfl (lv_at hl 12 rfl) ?_
        refine lv_iload hx hb dL_law_720 (lv_at hl 6 rfl) ?_
        refine lv_iconst (v := 3) hx hb dL_law_722 (by decide) ?_
        refine x_rd (g := setG g0 a') hx hb hml hown (hE a') hS hl.1 cyL_case0 tw712 (fun n1 => r_c3 hst (setG g0 a') n1 hL' c0 (by omega)) (by decide) ⟨by omega, by omega⟩ ⟨by omega, by omega⟩ hG rfl rfl (Nat.le_of_ble_eq_true rfl) dL_law_723 (fun H locs hG hS => ?_)
        refine lv_iload hx hb dL_law_726 (lv_at hl 2 rfl) ?_
        refine lv_iload hx hb dL_law_728 (lv_at hl 1 rfl) ?_
        refine lv_iadd hx hb dL_law_730 ?_
        refine lv_icmp_eq (tgt := 736) hx hb dL_law_731 (by decide) (fun _ => ?_) (fun q3 => ?_)
        · skip
          exact t_736a hst hx hb hml hown hE hR hk nxt hRc hJ hv hL' (by omega) (by omega) (by omega) hG hS (lv_sub hl [0, 4, 5, 10, 11, 12, 13] rfl)
        · refine absurd ?_ q3
          rw [show vC0 h1 J c0 3 = gX J c0 0 6 from if_pos (by omega), show vC0 h I c0 3 = gX I c0 0 6 from if_pos hcs]; exact hq1 ((((w / 4)) % 6)) rfl c0 hcs
end XL
